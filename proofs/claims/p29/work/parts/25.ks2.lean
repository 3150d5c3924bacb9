/-- the history behind an answer: what was drafted is kept, where the answer is no refusal -/
def kKeep (r : Int32) (x : kS) (H : List kS) : List kS := if r < 0 then H else (x :: H).take 6
theorem kKS.bare {g : ks_G} {h : ks_H} {o : Nat} {X : Nat → Prop} {σ : kS} {δ : Option kS} {H : List kS} {S : Nat → Option kS} {l : List Int32} (x : kKS g h o X σ δ H S l) : kKS g h o X σ none H S l := by
  obtain ⟨τ, dp, F, G, Q, LT, PT, vs, vn, hO, hnow, htri, hH, hF7, hG2, hpad, hord, hrooms, ⟨r1, r2, r3, r4, r5⟩, hX⟩ := x
  exact ⟨τ, dp, F, G, Q, LT, PT, vs, vn, hO, hnow, htri, hH, hF7, hG2, hpad, hord, hrooms, ⟨r1, r2, r3, (fun y hy => by cases hy), r5⟩, hX⟩
theorem kKS.now {g : ks_G} {h h' : ks_H} {o : Nat} {X : Nat → Prop} {σ σ' : kS} {δ : Option kS} {H : List kS} {S : Nat → Option kS} {l : List Int32} (x : kKS g h o X σ δ H S l) (s : kStairs g h' (o + 1) σ') (f : ks_Fr h h' (o + 1) (o + 1 + 16)) : kKS g h' o X σ' δ H S l ∧ kFX X h h' := by
  obtain ⟨τ, dp, F, G, Q, LT, PT, vs, vn, hO, hnow, htri, hH, hF7, hG2, hpad, hord, hrooms, hring, hX⟩ := x
  exact ⟨⟨τ, dp, F, G, Q, LT, PT, vs, vn, f.at hO (by omega), s, htri.fr f (by omega), f.at hH (by omega), f.at hF7 (by omega), f.at hG2 (by omega), hpad.fr f (by omega), hord.fr f (by omega), hrooms.fr f (by omega), hring, fun i hi => by rw [f.1]; exact hX i hi⟩, kFX.of f (fun i hi => by have := (hX i hi).2; omega)⟩
theorem kKS.try {g : ks_G} {h h' : ks_H} {o : Nat} {X : Nat → Prop} {σ τ' : kS} {δ : Option kS} {H : List kS} {S : Nat → Option kS} {l : List Int32} (x : kKS g h o X σ δ H S l) (s : kStairs g h' (o + 17) τ') (f : ks_Fr h h' (o + 17) (o + 17 + 16)) : kKS g h' o X σ δ H S l ∧ kFX X h h' := by
  obtain ⟨τ, dp, F, G, Q, LT, PT, vs, vn, hO, hnow, htri, hH, hF7, hG2, hpad, hord, hrooms, hring, hX⟩ := x
  exact ⟨⟨τ', dp, F, G, Q, LT, PT, vs, vn, f.at hO (by omega), hnow.fr f (by omega), s, f.at hH (by omega), f.at hF7 (by omega), f.at hG2 (by omega), hpad.fr f (by omega), hord.fr f (by omega), hrooms.fr f (by omega), hring, fun i hi => by rw [f.1]; exact hX i hi⟩, kFX.of f (fun i hi => by have := (hX i hi).2; omega)⟩
set_option maxRecDepth 100000 in
set_option maxHeartbeats 4000000 in
theorem c_settled {g : ks_G} {h : ks_H} {o : Nat} {X : Nat → Prop} {σ : kS} {H : List kS} {S : Nat → Option kS} {l : List Int32} {ρ : kS} {x : Int32} (hks : kKS g h o X σ (some ρ) H S l) : ks_Met g (yX6_settled, cX6_settled, 2, some .int) 1 0 0 [ks_ref g o, .int x] h (ks_Ph (fun r h' => r = x ∧ kKS g h' o X σ none (kKeep x ρ H) S l ∧ kFX X h h')) := by
  have hks0 := hks
  have hol := hks.len
  obtain ⟨τ, dp, F, G, Q, LT, PT, vs, vn, hO, hnow, htri, hH, hF7, hG2, hpad, hord, hrooms, hring, hX⟩ := hks
  obtain ⟨hdp, hHl, hrH, hrD, hrS⟩ := id hring
  refine ks_intro (by decide) (Nat.le_of_ble_eq_true rfl) (fun κ hκ hRt => ?_)
  refine ks_cv (ls := [(0, ks_ref g o), (1, .int x)]) ?_ rfl rfl rfl
  refine ks_iload_n hκ 0 1 dX6_settled_0 rfl ?_
  refine ks_if_lt hκ 1 11 dX6_settled_1 rfl (fun c1 => ?_) (fun c1 => ?_)
  · skip
    refine ks_iload_n hκ 11 1 dX6_settled_11 rfl ?_
    refine ks_iret hκ 12 hRt dX6_settled_12 (by decide) (by decide) rfl ?_
    unfold kKeep
    first
      | (rw [if_pos c1]; exact ⟨_, rfl, rfl, hks0.bare, kFX.rf⟩)
      | (rw [if_neg c1]; exact ⟨_, rfl, rfl, hks1, hfx⟩)
  · skip
    refine ks_aload_n hκ 4 0 dX6_settled_4 rfl ?_
    refine ks_get hκ 5 dX6_settled_5 kf_X6_22 hO rfl ?_
    refine ks_voidV0 hκ 8 dX6_settled_8 kc_X6_237 (c_History_keepDraft (δ := none) hks0) hH rfl (by decide) (Nat.le_of_ble_eq_true rfl) (by decide) (by decide) (fun xh1 hp8 => ?_)
    obtain ⟨hks1, hfx⟩ := hp8
    refine ks_iload_n hκ 11 1 dX6_settled_11 rfl ?_
    refine ks_iret hκ 12 hRt dX6_settled_12 (by decide) (by decide) rfl ?_
    unfold kKeep
    first
      | (rw [if_pos c1]; exact ⟨_, rfl, rfl, hks0.bare, kFX.rf⟩)
      | (rw [if_neg c1]; exact ⟨_, rfl, rfl, hks1, hfx⟩)
set_option maxRecDepth 100000 in
set_option maxHeartbeats 4000000 in
theorem c_History_takeBack {g : ks_G} {h : ks_H} {o : Nat} {X : Nat → Prop} {σ : kS} {δ : Option kS} {H : List kS} {S : Nat → Option kS} {l : List Int32} {x : kS} (hks : kKS g h o X σ δ (x :: H) S l) : ks_Met g (yX0_takeBack, cX0_takeBack, 2, none) 4 16 595 [ks_ref g (o + 33), ks_ref g (o + 1)] h (ks_Pv (fun h' => kKS g h' o X x none H S l ∧ kFX X h h')) := by
  have hks0 := hks
  have hol := hks.len
  obtain ⟨τ, dp, F, G, Q, LT, PT, vs, vn, hO, hnow, htri, hH, hF7, hG2, hpad, hord, hrooms, hring, hX⟩ := hks
  obtain ⟨hdp, hHl, hrH, hrD, hrS⟩ := id hring
  have hHc : (x :: H).length = H.length + 1 := rfl
  have hN0 := hnow.1
  obtain ⟨hrf, hrq⟩ := hrH 0 x rfl
  refine ks_intro (by decide) (Nat.le_of_ble_eq_true rfl) (fun κ hκ hRt => ?_)
  refine ks_cv (ls := [(0, ks_ref g (o + 33)), (1, ks_ref g (o + 1))]) ?_ rfl rfl rfl
  have hFr : ks_Fr h h (o + 33) (o + 34) := ks_Fr.rf
  refine ks_aload_n hκ 0 0 dX0_takeBack_0 rfl ?_
  refine ks_get hκ 1 dX0_takeBack_1 kf_X0_21 hH rfl ?_
  refine ks_if_ne hκ 4 8 dX0_takeBack_4 rfl (fun c4 => ?_) (fun c4 => ?_)
  · skip
    have c4 := mt (ks_eq0 (by omega)).mpr c4
    refine ks_aload_n hκ 8 0 dX0_takeBack_8 rfl ?_
    refine ks_aload_n hκ 9 0 dX0_takeBack_9 rfl ?_
    refine ks_get hκ 10 dX0_takeBack_10 kf_X0_17 hH rfl ?_
    refine ks_bipush hκ 13 (nI 7) dX0_takeBack_13 kq_b7 ?_
    refine ks_iaddN hκ 15 dX0_takeBack_15 ?_
    refine ks_iconst hκ 16 (nI 1) dX0_takeBack_16 kq_i1 ?_
    refine ks_isubN hκ 17 dX0_takeBack_17 (by omega) ?_
    refine ks_bipush hκ 18 (nI 7) dX0_takeBack_18 kq_b7 ?_
    refine ks_irem hκ 20 dX0_takeBack_20 (by decide) ?_
    refine ks_top (nI ((dp + 7 - 1) % 7)) (pk_rem (by omega) (by decide) (by decide)) ?_
    refine ks_putS hκ 21 [_, _, _] dX0_takeBack_21 kf_X0_17 hH rfl rfl (Nat.le_of_ble_eq_true rfl) rfl ?_
    refine ks_gen (fun xh1 exh1 => ?_)
    replace hH := ks_gs exh1 hH
    replace hF7 := ks_gn exh1 (ks_nb (b := o) (i := 33) (j := 34) rfl) hF7
    replace hN0 := ks_gn exh1 (ks_nb (b := o) (i := 33) (j := 1) rfl) hN0
    replace hFr := ks_Fr.st hFr exh1 (by omega) (by omega)
    clear exh1
    refine ks_aload_n hκ 24 0 dX0_takeBack_24 rfl ?_
    refine ks_dup hκ 25 dX0_takeBack_25 rfl ?_
    refine ks_get hκ 26 dX0_takeBack_26 kf_X0_21 hH rfl ?_
    refine ks_iconst hκ 29 (nI 1) dX0_takeBack_29 kq_i1 ?_
    refine ks_isubN hκ 30 dX0_takeBack_30 (by omega) ?_
    refine ks_putS hκ 31 [_, _, _] dX0_takeBack_31 kf_X0_21 hH rfl rfl (Nat.le_of_ble_eq_true rfl) rfl ?_
    refine ks_gen (fun xh2 exh2 => ?_)
    replace hH := ks_gs exh2 hH
    replace hF7 := ks_gn exh2 (ks_nb (b := o) (i := 33) (j := 34) rfl) hF7
    replace hN0 := ks_gn exh2 (ks_nb (b := o) (i := 33) (j := 1) rfl) hN0
    replace hFr := ks_Fr.st hFr exh2 (by omega) (by omega)
    clear exh2
    refine ks_aload_n hκ 34 1 dX0_takeBack_34 rfl ?_
    refine ks_aload_n hκ 35 0 dX0_takeBack_35 rfl ?_
    refine ks_get hκ 36 dX0_takeBack_36 kf_X0_13 hH rfl ?_
    refine ks_aload_n hκ 39 0 dX0_takeBack_39 rfl ?_
    refine ks_get hκ 40 dX0_takeBack_40 kf_X0_17 hH rfl ?_
    refine ks_callS2 hκ 43 dX0_takeBack_43 kc_X0_24 (c_roomAt hF7 (show (dp + 7 - 1) % 7 < 7 by omega) (by decide)) (by decide) (by decide) (by decide) (Nat.le_of_ble_eq_true rfl) (fun v43 xh3 hp43 => ?_)
    rw [show (dp + 6 - 0) % 7 = (dp + 7 - 1) % 7 by omega] at hrf hrq
    obtain ⟨va, rfl, hF7b, hcb⟩ := hp43
    rcases hcb with ⟨hcv, rfl⟩ | ⟨hcv, -⟩
    rotate_left
    · exact absurd hcv hrf
    obtain ⟨hva, hv1, hv2⟩ := hrooms.1 ((dp + 7 - 1) % 7) va (by omega) (by unfold kG; rw [if_pos (by omega)]; exact hcv)
    rw [hrq] at hva
    have hnow2 := hnow.fr hFr (by omega)
    have hva2 := hva.fr hFr (by omega)
    refine ks_cv (st := [ks_ref g va, ks_ref g (o + 1)]) ?_ rfl rfl rfl
    have hks3 : kKS g xh3 o X σ none H S l := by
      refine ⟨τ, (dp + 7 - 1) % 7, F, G, Q, LT, PT, vs, vn, hFr.at hO (by omega), hnow2, htri.fr hFr (by omega), (by first | exact hH | (rw [hHc, Nat.add_sub_cancel] at hH; exact hH)), hF7, hFr.at hG2 (by omega), hpad.fr hFr (by omega), hord.fr hFr (by omega), hrooms.fr hFr (by omega), ⟨Nat.mod_lt _ (by decide), by omega, fun i y hy => ?_, (fun y hy => by cases hy), hrS⟩, fun i hi => by rw [hFr.1]; exact hX i hi⟩
      rw [show ((dp + 7 - 1) % 7 + 6 - i) % 7 = (dp + 6 - (i + 1)) % 7 by have := (List.getElem?_eq_some_iff.mp hy).1; omega]
      exact hrH (i + 1) y hy
    refine ks_voidV1 hκ 46 dX0_takeBack_46 kc_X0_28 (c_Stairs_copyFrom hnow2 hva2 (by omega)) hN0 rfl (by decide) (Nat.le_of_ble_eq_true rfl) (by decide) (by decide) (fun xh4 hp46 => ?_)
    obtain ⟨hnow3, hF2⟩ := hp46
    obtain ⟨hks4, hfx4⟩ := hks3.now hnow3 hF2
    refine ks_vret hκ 49 hRt dX0_takeBack_49 (by decide) (by decide) ?_
    exact ⟨rfl, hks4, (kFX.of hFr (fun i hi => by have := (hX i hi).2; omega)).tr hfx4⟩
  · exfalso
    have c4 := (ks_eq0 (by omega)).mp c4
    omega
set_option maxRecDepth 100000 in
set_option maxHeartbeats 4000000 in
theorem c_set {g : ks_G} {h : ks_H} {o : Nat} {X : Nat → Prop} {se : Nat → Int32} {tu : Int32} {ki : Nat} {ma re : Int32} {kf : Nat → Nat → Int32} {L : List (Nat × Nat)} {P : List kP} {H : List kS} {S : Nat → Option kS} {l : List Int32} {x z : Int32} (hks : kKS g h o X (se, tu, ki, ma, re, kf, L, P) none H S l) : ks_Met g (yX6_set, cX6_set, 3, some .int) 5 16 595 [ks_ref g o, .int x, .int z] h (ks_Ph (fun r h' => r = (kChg (se, tu, ki, ma, re, kf, L, P) x z).1 ∧ kKS g h' o X (kChg (se, tu, ki, ma, re, kf, L, P) x z).2 none (kKeep (kChg (se, tu, ki, ma, re, kf, L, P) x z).1 (se, tu, ki, ma, re, kf, L, P) H) S l ∧ kFX X h h')) := by
  have hks0 := hks
  have hol := hks.len
  obtain ⟨τ, dp, F, G, Q, LT, PT, vs, vn, hO, hnow, htri, hH, hF7, hG2, hpad, hord, hrooms, hring, hX⟩ := hks
  obtain ⟨hdp, hHl, hrH, hrD, hrS⟩ := id hring
  have hN0 := hnow.1
  refine ks_intro (by decide) (Nat.le_of_ble_eq_true rfl) (fun κ hκ hRt => ?_)
  refine ks_cv (ls := [(0, ks_ref g o), (1, .int x), (2, .int z)]) ?_ rfl rfl rfl
  refine ks_aload_n hκ 0 0 dX6_set_0 rfl ?_
  refine ks_get hκ 1 dX6_set_1 kf_X6_22 hO rfl ?_
  refine ks_aload_n hκ 4 0 dX6_set_4 rfl ?_
  refine ks_get hκ 5 dX6_set_5 kf_X6_12 hO rfl ?_
  refine ks_voidV1 hκ 8 dX6_set_8 kc_X6_44 (c_History_draft hks0) hH rfl (by decide) (Nat.le_of_ble_eq_true rfl) (by decide) (by decide) (fun xh1 hp8 => ?_)
  obtain ⟨hks1, hfx1, -⟩ := hp8
  clear hO hN0 hH hF7 hG2
  have hks2 := hks1
  obtain ⟨τ1, dp1, F1, G1, Q1, LT1, PT1, vs1, vn1, hO, hnow1, -, hH, -, -, -, -, -, -, hX1⟩ := hks1
  have hN0 := hnow1.1
  refine ks_aload_n hκ 11 0 dX6_set_11 rfl ?_
  refine ks_aload_n hκ 12 0 dX6_set_12 rfl ?_
  refine ks_get hκ 13 dX6_set_13 kf_X6_12 hO rfl ?_
  refine ks_iload_n hκ 16 1 dX6_set_16 rfl ?_
  refine ks_iload_n hκ 17 2 dX6_set_17 rfl ?_
  refine ks_intcV2 hκ 18 dX6_set_18 kc_X6_48 (c_Stairs_changeSetting hnow1) hN0 rfl (by decide) (Nat.le_of_ble_eq_true rfl) (by decide) (by decide) (fun r18 xh2 hp18 => ?_)
  obtain ⟨hr, hst2, hF2⟩ := hp18
  subst hr
  obtain ⟨hks3, hfx2⟩ := hks2.now hst2 hF2
  replace hO := hF2.at hO (by omega)
  refine ks_intcV1 hκ 21 dX6_set_21 kc_X6_52 (c_settled hks3) hO rfl (by decide) (Nat.le_of_ble_eq_true rfl) (by decide) (by decide) (fun r21 xh3 hp21 => ?_)
  obtain ⟨hr2, hks4, hfx3⟩ := hp21
  refine ks_iret hκ 24 hRt dX6_set_24 (by decide) (by decide) rfl ?_
  exact ⟨_, rfl, hr2, hks4, (hfx1.tr hfx2).tr hfx3⟩
set_option maxRecDepth 100000 in
set_option maxHeartbeats 4000000 in
theorem c_kitten {g : ks_G} {h : ks_H} {o : Nat} {X : Nat → Prop} {se : Nat → Int32} {tu : Int32} {ki : Nat} {ma re : Int32} {kf : Nat → Nat → Int32} {L : List (Nat × Nat)} {P : List kP} {H : List kS} {S : Nat → Option kS} {l : List Int32} {x : Int32} (hks : kKS g h o X (se, tu, ki, ma, re, kf, L, P) none H S l) : ks_Met g (yX6_kitten, cX6_kitten, 2, some .int) 5 16 595 [ks_ref g o, .int x] h (ks_Ph (fun r h' => r = (kAdd (se, tu, ki, ma, re, kf, L, P) x).1 ∧ kKS g h' o X (kAdd (se, tu, ki, ma, re, kf, L, P) x).2 none (kKeep (kAdd (se, tu, ki, ma, re, kf, L, P) x).1 (se, tu, ki, ma, re, kf, L, P) H) S l ∧ kFX X h h')) := by
  have hks0 := hks
  have hol := hks.len
  obtain ⟨τ, dp, F, G, Q, LT, PT, vs, vn, hO, hnow, htri, hH, hF7, hG2, hpad, hord, hrooms, hring, hX⟩ := hks
  obtain ⟨hdp, hHl, hrH, hrD, hrS⟩ := id hring
  have hN0 := hnow.1
  refine ks_intro (by decide) (Nat.le_of_ble_eq_true rfl) (fun κ hκ hRt => ?_)
  refine ks_cv (ls := [(0, ks_ref g o), (1, .int x)]) ?_ rfl rfl rfl
  refine ks_aload_n hκ 0 0 dX6_kitten_0 rfl ?_
  refine ks_get hκ 1 dX6_kitten_1 kf_X6_22 hO rfl ?_
  refine ks_aload_n hκ 4 0 dX6_kitten_4 rfl ?_
  refine ks_get hκ 5 dX6_kitten_5 kf_X6_12 hO rfl ?_
  refine ks_voidV1 hκ 8 dX6_kitten_8 kc_X6_44 (c_History_draft hks0) hH rfl (by decide) (Nat.le_of_ble_eq_true rfl) (by decide) (by decide) (fun xh1 hp8 => ?_)
  obtain ⟨hks1, hfx1, -⟩ := hp8
  clear hO hN0 hH hF7 hG2
  have hks2 := hks1
  obtain ⟨τ1, dp1, F1, G1, Q1, LT1, PT1, vs1, vn1, hO, hnow1, -, hH, -, -, -, -, -, -, hX1⟩ := hks1
  have hN0 := hnow1.1
  refine ks_aload_n hκ 11 0 dX6_kitten_11 rfl ?_
  refine ks_aload_n hκ 12 0 dX6_kitten_12 rfl ?_
  refine ks_get hκ 13 dX6_kitten_13 kf_X6_12 hO rfl ?_
  refine ks_iload_n hκ 16 1 dX6_kitten_16 rfl ?_
  refine ks_intcV1 hκ 17 dX6_kitten_17 kc_X6_56 (c_Stairs_addKitten hnow1) hN0 rfl (by decide) (Nat.le_of_ble_eq_true rfl) (by decide) (by decide) (fun r17 xh2 hp17 => ?_)
  obtain ⟨hr, hst2, hF2⟩ := hp17
  subst hr
  obtain ⟨hks3, hfx2⟩ := hks2.now hst2 hF2
  replace hO := hF2.at hO (by omega)
  refine ks_intcV1 hκ 20 dX6_kitten_20 kc_X6_52 (c_settled hks3) hO rfl (by decide) (Nat.le_of_ble_eq_true rfl) (by decide) (by decide) (fun r20 xh3 hp20 => ?_)
  obtain ⟨hr2, hks4, hfx3⟩ := hp20
  refine ks_iret hκ 23 hRt dX6_kitten_23 (by decide) (by decide) rfl ?_
  exact ⟨_, rfl, hr2, hks4, (hfx1.tr hfx2).tr hfx3⟩
set_option maxRecDepth 100000 in
set_option maxHeartbeats 4000000 in
theorem c_leap {g : ks_G} {h : ks_H} {o : Nat} {X : Nat → Prop} {se : Nat → Int32} {tu : Int32} {ki : Nat} {ma re : Int32} {kf : Nat → Nat → Int32} {L : List (Nat × Nat)} {P : List kP} {H : List kS} {S : Nat → Option kS} {l : List Int32} {x z : Int32} (hks : kKS g h o X (se, tu, ki, ma, re, kf, L, P) none H S l) (hok : kOk2 (se, tu, ki, ma, re, kf, L, P)) : ks_Met g (yX6_leap, cX6_leap, 3, some .int) 5 16 595 [ks_ref g o, .int x, .int z] h (ks_Ph (fun r h' => r = (kTry (se, tu, ki, ma, re, kf, L, P) x z).1 ∧ kKS g h' o X (kTry (se, tu, ki, ma, re, kf, L, P) x z).2 none (kKeep (kTry (se, tu, ki, ma, re, kf, L, P) x z).1 (se, tu, ki, ma, re, kf, L, P) H) S l ∧ kFX X h h')) := by
  have hks0 := hks
  have hol := hks.len
  obtain ⟨τ, dp, F, G, Q, LT, PT, vs, vn, hO, hnow, htri, hH, hF7, hG2, hpad, hord, hrooms, hring, hX⟩ := hks
  obtain ⟨hdp, hHl, hrH, hrD, hrS⟩ := id hring
  have hN0 := hnow.1
  refine ks_intro (by decide) (Nat.le_of_ble_eq_true rfl) (fun κ hκ hRt => ?_)
  refine ks_cv (ls := [(0, ks_ref g o), (1, .int x), (2, .int z)]) ?_ rfl rfl rfl
  refine ks_aload_n hκ 0 0 dX6_leap_0 rfl ?_
  refine ks_get hκ 1 dX6_leap_1 kf_X6_22 hO rfl ?_
  refine ks_aload_n hκ 4 0 dX6_leap_4 rfl ?_
  refine ks_get hκ 5 dX6_leap_5 kf_X6_12 hO rfl ?_
  refine ks_voidV1 hκ 8 dX6_leap_8 kc_X6_44 (c_History_draft hks0) hH rfl (by decide) (Nat.le_of_ble_eq_true rfl) (by decide) (by decide) (fun xh1 hp8 => ?_)
  obtain ⟨hks1, hfx1, -⟩ := hp8
  clear hO hN0 hH hF7 hG2
  have hks2 := hks1
  obtain ⟨τ1, dp1, F1, G1, Q1, LT1, PT1, vs1, vn1, hO, hnow1, -, hH, -, -, -, -, -, -, hX1⟩ := hks1
  have hN0 := hnow1.1
  refine ks_aload_n hκ 11 0 dX6_leap_11 rfl ?_
  refine ks_aload_n hκ 12 0 dX6_leap_12 rfl ?_
  refine ks_get hκ 13 dX6_leap_13 kf_X6_12 hO rfl ?_
  refine ks_iload_n hκ 16 1 dX6_leap_16 rfl ?_
  refine ks_iload_n hκ 17 2 dX6_leap_17 rfl ?_
  refine ks_intcV2 hκ 18 dX6_leap_18 kc_X6_59 (c_Stairs_tryLeap hnow1 hok) hN0 rfl (by decide) (Nat.le_of_ble_eq_true rfl) (by decide) (by decide) (fun r18 xh2 hp18 => ?_)
  obtain ⟨hr, hst2, hF2⟩ := hp18
  subst hr
  obtain ⟨hks3, hfx2⟩ := hks2.now hst2 hF2
  replace hO := hF2.at hO (by omega)
  refine ks_intcV1 hκ 21 dX6_leap_21 kc_X6_52 (c_settled hks3) hO rfl (by decide) (Nat.le_of_ble_eq_true rfl) (by decide) (by decide) (fun r21 xh3 hp21 => ?_)
  obtain ⟨hr2, hks4, hfx3⟩ := hp21
  refine ks_iret hκ 24 hRt dX6_leap_24 (by decide) (by decide) rfl ?_
  exact ⟨_, rfl, hr2, hks4, (hfx1.tr hfx2).tr hfx3⟩
set_option maxRecDepth 100000 in
set_option maxHeartbeats 4000000 in
theorem c_nap {g : ks_G} {h : ks_H} {o : Nat} {X : Nat → Prop} {se : Nat → Int32} {tu : Int32} {ki : Nat} {ma re : Int32} {kf : Nat → Nat → Int32} {L : List (Nat × Nat)} {P : List kP} {H : List kS} {S : Nat → Option kS} {l : List Int32} {x : Int32} (hks : kKS g h o X (se, tu, ki, ma, re, kf, L, P) none H S l) : ks_Met g (yX6_nap, cX6_nap, 2, some .int) 5 16 595 [ks_ref g o, .int x] h (ks_Ph (fun r h' => r = (kNap (se, tu, ki, ma, re, kf, L, P) x).1 ∧ kKS g h' o X (kNap (se, tu, ki, ma, re, kf, L, P) x).2 none (kKeep (kNap (se, tu, ki, ma, re, kf, L, P) x).1 (se, tu, ki, ma, re, kf, L, P) H) S l ∧ kFX X h h')) := by
  have hks0 := hks
  have hol := hks.len
  obtain ⟨τ, dp, F, G, Q, LT, PT, vs, vn, hO, hnow, htri, hH, hF7, hG2, hpad, hord, hrooms, hring, hX⟩ := hks
  obtain ⟨hdp, hHl, hrH, hrD, hrS⟩ := id hring
  have hN0 := hnow.1
  refine ks_intro (by decide) (Nat.le_of_ble_eq_true rfl) (fun κ hκ hRt => ?_)
  refine ks_cv (ls := [(0, ks_ref g o), (1, .int x)]) ?_ rfl rfl rfl
  refine ks_aload_n hκ 0 0 dX6_nap_0 rfl ?_
  refine ks_get hκ 1 dX6_nap_1 kf_X6_22 hO rfl ?_
  refine ks_aload_n hκ 4 0 dX6_nap_4 rfl ?_
  refine ks_get hκ 5 dX6_nap_5 kf_X6_12 hO rfl ?_
  refine ks_voidV1 hκ 8 dX6_nap_8 kc_X6_44 (c_History_draft hks0) hH rfl (by decide) (Nat.le_of_ble_eq_true rfl) (by decide) (by decide) (fun xh1 hp8 => ?_)
  obtain ⟨hks1, hfx1, -⟩ := hp8
  clear hO hN0 hH hF7 hG2
  have hks2 := hks1
  obtain ⟨τ1, dp1, F1, G1, Q1, LT1, PT1, vs1, vn1, hO, hnow1, -, hH, -, -, -, -, -, -, hX1⟩ := hks1
  have hN0 := hnow1.1
  refine ks_aload_n hκ 11 0 dX6_nap_11 rfl ?_
  refine ks_aload_n hκ 12 0 dX6_nap_12 rfl ?_
  refine ks_get hκ 13 dX6_nap_13 kf_X6_12 hO rfl ?_
  refine ks_iload_n hκ 16 1 dX6_nap_16 rfl ?_
  refine ks_intcV1 hκ 17 dX6_nap_17 kc_X6_62 (c_Stairs_beginNap hnow1) hN0 rfl (by decide) (Nat.le_of_ble_eq_true rfl) (by decide) (by decide) (fun r17 xh2 hp17 => ?_)
  obtain ⟨hr, hst2, hF2⟩ := hp17
  subst hr
  obtain ⟨hks3, hfx2⟩ := hks2.now hst2 hF2
  replace hO := hF2.at hO (by omega)
  refine ks_intcV1 hκ 20 dX6_nap_20 kc_X6_52 (c_settled hks3) hO rfl (by decide) (Nat.le_of_ble_eq_true rfl) (by decide) (by decide) (fun r20 xh3 hp20 => ?_)
  obtain ⟨hr2, hks4, hfx3⟩ := hp20
  refine ks_iret hκ 23 hRt dX6_nap_23 (by decide) (by decide) rfl ?_
  exact ⟨_, rfl, hr2, hks4, (hfx1.tr hfx2).tr hfx3⟩
set_option maxRecDepth 100000 in
set_option maxHeartbeats 4000000 in
theorem c_snip {g : ks_G} {h : ks_H} {o : Nat} {X : Nat → Prop} {se : Nat → Int32} {tu : Int32} {ki : Nat} {ma re : Int32} {kf : Nat → Nat → Int32} {L : List (Nat × Nat)} {P : List kP} {H : List kS} {S : Nat → Option kS} {l : List Int32} {x z : Int32} (hks : kKS g h o X (se, tu, ki, ma, re, kf, L, P) none H S l) : ks_Met g (yX6_snip, cX6_snip, 3, some .int) 5 16 595 [ks_ref g o, .int x, .int z] h (ks_Ph (fun r h' => r = (kSnip (se, tu, ki, ma, re, kf, L, P) x z).1 ∧ kKS g h' o X (kSnip (se, tu, ki, ma, re, kf, L, P) x z).2 none (kKeep (kSnip (se, tu, ki, ma, re, kf, L, P) x z).1 (se, tu, ki, ma, re, kf, L, P) H) S l ∧ kFX X h h')) := by
  have hks0 := hks
  have hol := hks.len
  obtain ⟨τ, dp, F, G, Q, LT, PT, vs, vn, hO, hnow, htri, hH, hF7, hG2, hpad, hord, hrooms, hring, hX⟩ := hks
  obtain ⟨hdp, hHl, hrH, hrD, hrS⟩ := id hring
  have hN0 := hnow.1
  refine ks_intro (by decide) (Nat.le_of_ble_eq_true rfl) (fun κ hκ hRt => ?_)
  refine ks_cv (ls := [(0, ks_ref g o), (1, .int x), (2, .int z)]) ?_ rfl rfl rfl
  refine ks_aload_n hκ 0 0 dX6_snip_0 rfl ?_
  refine ks_get hκ 1 dX6_snip_1 kf_X6_22 hO rfl ?_
  refine ks_aload_n hκ 4 0 dX6_snip_4 rfl ?_
  refine ks_get hκ 5 dX6_snip_5 kf_X6_12 hO rfl ?_
  refine ks_voidV1 hκ 8 dX6_snip_8 kc_X6_44 (c_History_draft hks0) hH rfl (by decide) (Nat.le_of_ble_eq_true rfl) (by decide) (by decide) (fun xh1 hp8 => ?_)
  obtain ⟨hks1, hfx1, -⟩ := hp8
  clear hO hN0 hH hF7 hG2
  have hks2 := hks1
  obtain ⟨τ1, dp1, F1, G1, Q1, LT1, PT1, vs1, vn1, hO, hnow1, -, hH, -, -, -, -, -, -, hX1⟩ := hks1
  have hN0 := hnow1.1
  refine ks_aload_n hκ 11 0 dX6_snip_11 rfl ?_
  refine ks_aload_n hκ 12 0 dX6_snip_12 rfl ?_
  refine ks_get hκ 13 dX6_snip_13 kf_X6_12 hO rfl ?_
  refine ks_iload_n hκ 16 1 dX6_snip_16 rfl ?_
  refine ks_iload_n hκ 17 2 dX6_snip_17 rfl ?_
  refine ks_intcV2 hκ 18 dX6_snip_18 kc_X6_65 (c_Stairs_snipStrands hnow1) hN0 rfl (by decide) (Nat.le_of_ble_eq_true rfl) (by decide) (by decide) (fun r18 xh2 hp18 => ?_)
  obtain ⟨hr, hst2, hF2⟩ := hp18
  subst hr
  obtain ⟨hks3, hfx2⟩ := hks2.now hst2 hF2
  replace hO := hF2.at hO (by omega)
  refine ks_intcV1 hκ 21 dX6_snip_21 kc_X6_52 (c_settled hks3) hO rfl (by decide) (Nat.le_of_ble_eq_true rfl) (by decide) (by decide) (fun r21 xh3 hp21 => ?_)
  obtain ⟨hr2, hks4, hfx3⟩ := hp21
  refine ks_iret hκ 24 hRt dX6_snip_24 (by decide) (by decide) rfl ?_
  exact ⟨_, rfl, hr2, hks4, (hfx1.tr hfx2).tr hfx3⟩
set_option maxRecDepth 100000 in
set_option maxHeartbeats 4000000 in
theorem c_plan {g : ks_G} {h : ks_H} {o : Nat} {X : Nat → Prop} {se : Nat → Int32} {tu : Int32} {ki : Nat} {ma re : Int32} {kf : Nat → Nat → Int32} {L : List (Nat × Nat)} {P : List kP} {H : List kS} {S : Nat → Option kS} {l : List Int32} {w x z : Int32} (hks : kKS g h o X (se, tu, ki, ma, re, kf, L, P) none H S l) : ks_Met g (yX6_plan, cX6_plan, 4, some .int) 5 16 595 [ks_ref g o, .int w, .int x, .int z] h (ks_Ph (fun r h' => r = (kPlan (se, tu, ki, ma, re, kf, L, P) w x z).1 ∧ kKS g h' o X (kPlan (se, tu, ki, ma, re, kf, L, P) w x z).2 none (kKeep (kPlan (se, tu, ki, ma, re, kf, L, P) w x z).1 (se, tu, ki, ma, re, kf, L, P) H) S l ∧ kFX X h h')) := by
  have hks0 := hks
  have hol := hks.len
  obtain ⟨τ, dp, F, G, Q, LT, PT, vs, vn, hO, hnow, htri, hH, hF7, hG2, hpad, hord, hrooms, hring, hX⟩ := hks
  obtain ⟨hdp, hHl, hrH, hrD, hrS⟩ := id hring
  have hN0 := hnow.1
  refine ks_intro (by decide) (Nat.le_of_ble_eq_true rfl) (fun κ hκ hRt => ?_)
  refine ks_cv (ls := [(0, ks_ref g o), (1, .int w), (2, .int x), (3, .int z)]) ?_ rfl rfl rfl
  refine ks_aload_n hκ 0 0 dX6_plan_0 rfl ?_
  refine ks_get hκ 1 dX6_plan_1 kf_X6_22 hO rfl ?_
  refine ks_aload_n hκ 4 0 dX6_plan_4 rfl ?_
  refine ks_get hκ 5 dX6_plan_5 kf_X6_12 hO rfl ?_
  refine ks_voidV1 hκ 8 dX6_plan_8 kc_X6_44 (c_History_draft hks0) hH rfl (by decide) (Nat.le_of_ble_eq_true rfl) (by decide) (by decide) (fun xh1 hp8 => ?_)
  obtain ⟨hks1, hfx1, -⟩ := hp8
  clear hO hN0 hH hF7 hG2
  have hks2 := hks1
  obtain ⟨τ1, dp1, F1, G1, Q1, LT1, PT1, vs1, vn1, hO, hnow1, -, hH, -, -, -, -, -, -, hX1⟩ := hks1
  have hN0 := hnow1.1
  refine ks_aload_n hκ 11 0 dX6_plan_11 rfl ?_
  refine ks_aload_n hκ 12 0 dX6_plan_12 rfl ?_
  refine ks_get hκ 13 dX6_plan_13 kf_X6_12 hO rfl ?_
  refine ks_iload_n hκ 16 1 dX6_plan_16 rfl ?_
  refine ks_iload_n hκ 17 2 dX6_plan_17 rfl ?_
  refine ks_iload_n hκ 18 3 dX6_plan_18 rfl ?_
  refine ks_intcV3 hκ 19 dX6_plan_19 kc_X6_68 (c_Stairs_planLeap hnow1) hN0 rfl (by decide) (Nat.le_of_ble_eq_true rfl) (by decide) (by decide) (fun r19 xh2 hp19 => ?_)
  obtain ⟨hr, hst2, hF2⟩ := hp19
  subst hr
  obtain ⟨hks3, hfx2⟩ := hks2.now hst2 hF2
  replace hO := hF2.at hO (by omega)
  refine ks_intcV1 hκ 22 dX6_plan_22 kc_X6_52 (c_settled hks3) hO rfl (by decide) (Nat.le_of_ble_eq_true rfl) (by decide) (by decide) (fun r22 xh3 hp22 => ?_)
  obtain ⟨hr2, hks4, hfx3⟩ := hp22
  refine ks_iret hκ 25 hRt dX6_plan_25 (by decide) (by decide) rfl ?_
  exact ⟨_, rfl, hr2, hks4, (hfx1.tr hfx2).tr hfx3⟩
set_option maxRecDepth 100000 in
set_option maxHeartbeats 4000000 in
theorem c_pass {g : ks_G} {h : ks_H} {o : Nat} {X : Nat → Prop} {se : Nat → Int32} {tu : Int32} {ki : Nat} {ma re : Int32} {kf : Nat → Nat → Int32} {L : List (Nat × Nat)} {P : List kP} {H : List kS} {S : Nat → Option kS} {l : List Int32} {x : Int32} (hks : kKS g h o X (se, tu, ki, ma, re, kf, L, P) none H S l) {n0 : Nat} (hok : kOk2 (se, tu, ki, ma, re, kf, L, P)) (htu : tu = nI n0) (hn0 : n0 ≤ 20000) : ks_Met g (yX6_pass, cX6_pass, 2, some .int) 5 16 595 [ks_ref g o, .int x] h (ks_Ph (fun r h' => r = (kPassT (se, tu, ki, ma, re, kf, L, P) x).1 ∧ kKS g h' o X (kPassT (se, tu, ki, ma, re, kf, L, P) x).2 none (kKeep (kPassT (se, tu, ki, ma, re, kf, L, P) x).1 (se, tu, ki, ma, re, kf, L, P) H) S l ∧ kFX X h h')) := by
  have hks0 := hks
  have hol := hks.len
  obtain ⟨τ, dp, F, G, Q, LT, PT, vs, vn, hO, hnow, htri, hH, hF7, hG2, hpad, hord, hrooms, hring, hX⟩ := hks
  obtain ⟨hdp, hHl, hrH, hrD, hrS⟩ := id hring
  have hN0 := hnow.1
  refine ks_intro (by decide) (Nat.le_of_ble_eq_true rfl) (fun κ hκ hRt => ?_)
  refine ks_cv (ls := [(0, ks_ref g o), (1, .int x)]) ?_ rfl rfl rfl
  refine ks_aload_n hκ 0 0 dX6_pass_0 rfl ?_
  refine ks_get hκ 1 dX6_pass_1 kf_X6_22 hO rfl ?_
  refine ks_aload_n hκ 4 0 dX6_pass_4 rfl ?_
  refine ks_get hκ 5 dX6_pass_5 kf_X6_12 hO rfl ?_
  refine ks_voidV1 hκ 8 dX6_pass_8 kc_X6_44 (c_History_draft hks0) hH rfl (by decide) (Nat.le_of_ble_eq_true rfl) (by decide) (by decide) (fun xh1 hp8 => ?_)
  obtain ⟨hks1, hfx1, -⟩ := hp8
  clear hO hN0 hH hF7 hG2
  have hks2 := hks1
  obtain ⟨τ1, dp1, F1, G1, Q1, LT1, PT1, vs1, vn1, hO, hnow1, -, hH, -, -, -, -, -, -, hX1⟩ := hks1
  have hN0 := hnow1.1
  refine ks_aload_n hκ 11 0 dX6_pass_11 rfl ?_
  refine ks_aload_n hκ 12 0 dX6_pass_12 rfl ?_
  refine ks_get hκ 13 dX6_pass_13 kf_X6_12 hO rfl ?_
  refine ks_iload_n hκ 16 1 dX6_pass_16 rfl ?_
  refine ks_intcV1 hκ 17 dX6_pass_17 kc_X6_72 (c_Stairs_passTurns hnow1 hok htu hn0) hN0 rfl (by decide) (Nat.le_of_ble_eq_true rfl) (by decide) (by decide) (fun r17 xh2 hp17 => ?_)
  obtain ⟨hr, hst2, hF2⟩ := hp17
  subst hr
  obtain ⟨hks3, hfx2⟩ := hks2.now hst2 hF2
  replace hO := hF2.at hO (by omega)
  refine ks_intcV1 hκ 20 dX6_pass_20 kc_X6_52 (c_settled hks3) hO rfl (by decide) (Nat.le_of_ble_eq_true rfl) (by decide) (by decide) (fun r20 xh3 hp20 => ?_)
  obtain ⟨hr2, hks4, hfx3⟩ := hp20
  refine ks_iret hκ 23 hRt dX6_pass_23 (by decide) (by decide) rfl ?_
  exact ⟨_, rfl, hr2, hks4, (hfx1.tr hfx2).tr hfx3⟩
