
/-! THE CLASS: undo, the pad, the slots -/
theorem kKS.ord {g : ks_G} {h h' : ks_H} {o vs vn : Nat} {X : Nat → Prop} {σ : kS} {δ : Option kS} {H : List kS} {S : Nat → Option kS} {l : List Int32} {LT PT : Nat → Int32} (x : kKS g h o X σ δ H S l) (s : kOrdR g h' (o + 38) LT PT vs vn) (f : ks_Fr h h' (o + 38) (o + 38 + 3)) : kKS g h' o X σ δ H S l ∧ kFX X h h' := by
  obtain ⟨τ, dp, F, G, Q, LT0, PT0, vs0, vn0, hO, hnow, htri, hH, hF7, hG2, hpad, hord, hrooms, hring, hX⟩ := x
  exact ⟨⟨τ, dp, F, G, Q, LT, PT, vs, vn, f.at hO (by omega), hnow.fr f (by omega), htri.fr f (by omega), f.at hH (by omega), f.at hF7 (by omega), f.at hG2 (by omega), hpad.fr f (by omega), s, hrooms.fr f (by omega), hring, fun i hi => by rw [f.1]; exact hX i hi⟩, kFX.of f (fun i hi => by have := (hX i hi).2; omega)⟩
def kUnR (H : List kS) : Int32 := match H with
  | [] => -5
  | _ :: H => nI H.length
def kUnS (σ : kS) (H : List kS) : kS := match H with
  | [] => σ
  | x :: _ => x
def kSav (σ : kS) (S : Nat → Option kS) (x : Int32) : Int32 × (Nat → Option kS) := if x < 0 then (-2, S) else if nI 2 ≤ x then (-2, S) else (nI σ.2.2.1, fun s => if s = x.toNatClampNeg then some σ else S s)
/-- the answer, the present, and the history -/
def kRst (σ : kS) (H : List kS) (S : Nat → Option kS) (x : Int32) : Int32 × kS × List kS := if x < 0 then (-2, σ, H) else if nI 2 ≤ x then (-2, σ, H) else match S x.toNatClampNeg with
  | none => (-5, σ, H)
  | some y => (nI y.2.2.1, y, kKeep (nI y.2.2.1) σ H)
theorem ks_S_inj {g : ks_G} {n : Nat} {F G : Nat → Option Nat} (q : ks_S g n F = ks_S g n G) : F = G := by
  unfold ks_S at q
  have q2 := Sum.inl.inj q
  have q3 := congrArg (fun z => z.2.2) q2
  have q4 := Sum.inr.inj (Sum.inr.inj (Sum.inr.inj (Sum.inr.inj q3)))
  funext k
  have q5 := congrFun q4 k
  cases hF : F k with
  | none => cases hG : G k with
    | none => rfl
    | some b => rw [hF, hG] at q5; cases q5
  | some a => cases hG : G k with
    | none => rw [hF, hG] at q5; cases q5
    | some b =>
      rw [hF, hG] at q5
      have q6 : g.1 + a = g.1 + b := Option.some.inj q5
      rw [show a = b by omega]
set_option maxRecDepth 100000 in
set_option maxHeartbeats 4000000 in
theorem c_undo {g : ks_G} {h : ks_H} {o : Nat} {X : Nat → Prop} {σ : kS} {δ : Option kS} {H : List kS} {S : Nat → Option kS} {l : List Int32} (hks : kKS g h o X σ δ H S l) : ks_Met g (yX6_undo, cX6_undo, 1, some .int) 5 16 595 [ks_ref g o] h (ks_Ph (fun r h' => r = kUnR H ∧ kKS g h' o X (kUnS σ H) none H.tail S l ∧ kFX X h h')) := by
  have hks0 := hks
  have hol := hks.len
  obtain ⟨τ, dp, F, G, Q, LT, PT, vs, vn, hO, hnow, htri, hH, hF7, hG2, hpad, hord, hrooms, hring, hX⟩ := hks
  obtain ⟨hdp, hHl, hrH, hrD, hrS⟩ := id hring
  refine ks_intro (by decide) (Nat.le_of_ble_eq_true rfl) (fun κ hκ hRt => ?_)
  refine ks_cv (ls := [(0, ks_ref g o)]) ?_ rfl rfl rfl
  refine ks_aload_n hκ 0 0 dX6_undo_0 rfl ?_
  refine ks_get hκ 1 dX6_undo_1 kf_X6_22 hO rfl ?_
  refine ks_get hκ 4 dX6_undo_4 kf_X6_184 hH rfl ?_
  refine ks_if_ne hκ 7 13 dX6_undo_7 rfl (fun c7 => ?_) (fun c7 => ?_)
  · skip
    have c7 := mt (ks_eq0 (by omega)).mpr c7
    obtain ⟨y, H1, rfl⟩ : ∃ y H1, H = y :: H1 := by
      cases H with
      | nil => exact absurd rfl c7
      | cons y H1 => exact ⟨y, H1, rfl⟩
    refine ks_aload_n hκ 13 0 dX6_undo_13 rfl ?_
    refine ks_get hκ 14 dX6_undo_14 kf_X6_22 hO rfl ?_
    refine ks_aload_n hκ 17 0 dX6_undo_17 rfl ?_
    refine ks_get hκ 18 dX6_undo_18 kf_X6_12 hO rfl ?_
    refine ks_voidV1 hκ 21 dX6_undo_21 kc_X6_230 (c_History_takeBack hks0) hH rfl (by decide) (Nat.le_of_ble_eq_true rfl) (by decide) (by decide) (fun xh1 hp21 => ?_)
    obtain ⟨hks1, hfx1⟩ := hp21
    clear hO hH
    have hks2 := hks1
    obtain ⟨τ1, dp1, F1, G1, Q1, LT1, PT1, vs1, vn1, hO, hnow1, -, hH, -, hG1, -, -, hrooms1, hring1, hX1⟩ := hks1
    have hN0 := hnow1.1
    refine ks_aload_n hκ 24 0 dX6_undo_24 rfl ?_
    refine ks_get hκ 25 dX6_undo_25 kf_X6_22 hO rfl ?_
    refine ks_get hκ 28 dX6_undo_28 kf_X6_184 hH rfl ?_
    refine ks_iret hκ 31 hRt dX6_undo_31 (by decide) (by decide) rfl ?_
    exact ⟨_, rfl, rfl, hks2, hfx1⟩
  · skip
    have c7 := (ks_eq0 (by omega)).mp c7
    have hnil : H = [] := List.length_eq_zero_iff.mp c7
    subst hnil
    refine ks_bipush hκ 10 (-5) dX6_undo_10 kq_bm5 ?_
    refine ks_iret hκ 12 hRt dX6_undo_12 (by decide) (by decide) rfl ?_
    exact ⟨_, rfl, rfl, hks0.bare, kFX.rf⟩
set_option maxRecDepth 100000 in
set_option maxHeartbeats 4000000 in
theorem c_put {g : ks_G} {h : ks_H} {o : Nat} {X : Nat → Prop} {σ : kS} {δ : Option kS} {H : List kS} {S : Nat → Option kS} {l : List Int32} {x : Int64} (hks : kKS g h o X σ δ H S l) : ks_Met g (yX6_put, cX6_put, 3, some .int) 2 0 0 [ks_ref g o, .long x] h (ks_Ph (fun r h' => r = (kApp l x).1 ∧ kKS g h' o X σ δ H S (kApp l x).2 ∧ kFX X h h')) := by
  have hks0 := hks
  have hol := hks.len
  obtain ⟨τ, dp, F, G, Q, LT, PT, vs, vn, hO, hnow, htri, hH, hF7, hG2, hpad, hord, hrooms, hring, hX⟩ := hks
  obtain ⟨hdp, hHl, hrH, hrD, hrS⟩ := id hring
  obtain ⟨DT, hD, -, -, hDl⟩ := id hpad
  refine ks_intro (by decide) (Nat.le_of_ble_eq_true rfl) (fun κ hκ hRt => ?_)
  refine ks_cv (ls := [(0, ks_ref g o), (1, .long x)]) ?_ rfl rfl rfl
  refine ks_aload_n hκ 0 0 dX6_put_0 rfl ?_
  refine ks_get hκ 1 dX6_put_1 kf_X6_33 hO rfl ?_
  refine ks_lload_n hκ 4 1 dX6_put_4 rfl ?_
  refine ks_intcV1 hκ 5 dX6_put_5 kc_X6_215 (c_Pad_append hpad) hD rfl (by decide) (Nat.le_of_ble_eq_true rfl) (by decide) (by decide) (fun r5 xh1 hp5 => ?_)
  obtain ⟨hr, hpad2, hF2⟩ := hp5
  obtain ⟨hks3, hfx3⟩ := hks0.pad hpad2 hF2
  refine ks_iret hκ 8 hRt dX6_put_8 (by decide) (by decide) rfl ?_
  exact ⟨_, rfl, hr, hks3, hfx3⟩
set_option maxRecDepth 100000 in
set_option maxHeartbeats 4000000 in
theorem c_wipe {g : ks_G} {h : ks_H} {o : Nat} {X : Nat → Prop} {σ : kS} {δ : Option kS} {H : List kS} {S : Nat → Option kS} {l : List Int32} (hks : kKS g h o X σ δ H S l) : ks_Met g (yX6_wipe, cX6_wipe, 1, some .int) 1 0 0 [ks_ref g o] h (ks_Ph (fun r h' => r = nI l.length ∧ kKS g h' o X σ δ H S [] ∧ kFX X h h')) := by
  have hks0 := hks
  have hol := hks.len
  obtain ⟨τ, dp, F, G, Q, LT, PT, vs, vn, hO, hnow, htri, hH, hF7, hG2, hpad, hord, hrooms, hring, hX⟩ := hks
  obtain ⟨hdp, hHl, hrH, hrD, hrS⟩ := id hring
  obtain ⟨DT, hD, -, -, hDl⟩ := id hpad
  refine ks_intro (by decide) (Nat.le_of_ble_eq_true rfl) (fun κ hκ hRt => ?_)
  refine ks_cv (ls := [(0, ks_ref g o)]) ?_ rfl rfl rfl
  refine ks_aload_n hκ 0 0 dX6_wipe_0 rfl ?_
  refine ks_get hκ 1 dX6_wipe_1 kf_X6_33 hO rfl ?_
  refine ks_intcV0 hκ 4 dX6_wipe_4 kc_X6_219 (c_Pad_empty hpad) hD rfl (by decide) (Nat.le_of_ble_eq_true rfl) (by decide) (by decide) (fun r4 xh1 hp4 => ?_)
  obtain ⟨hr, hpad2, hF2⟩ := hp4
  obtain ⟨hks3, hfx3⟩ := hks0.pad hpad2 hF2
  refine ks_iret hκ 7 hRt dX6_wipe_7 (by decide) (by decide) rfl ?_
  exact ⟨_, rfl, hr, hks3, hfx3⟩
set_option maxRecDepth 100000 in
set_option maxHeartbeats 4000000 in
theorem c_fault {g : ks_G} {h : ks_H} {o : Nat} {X : Nat → Prop} {σ : kS} {δ : Option kS} {H : List kS} {S : Nat → Option kS} {l : List Int32} (hks : kKS g h o X σ δ H S l) : ks_Met g (yX6_fault, cX6_fault, 1, some .int) 6 0 0 [ks_ref g o] h (ks_Ph (fun r h' => r = (kRead 27 l 0 []).1 ∧ kKS g h' o X σ δ H S l ∧ kFX X h h')) := by
  have hks0 := hks
  have hol := hks.len
  obtain ⟨τ, dp, F, G, Q, LT, PT, vs, vn, hO, hnow, htri, hH, hF7, hG2, hpad, hord, hrooms, hring, hX⟩ := hks
  obtain ⟨hdp, hHl, hrH, hrD, hrS⟩ := id hring
  obtain ⟨DT, hD, -, -, hDl⟩ := id hpad
  have hR0 := hord.1
  refine ks_intro (by decide) (Nat.le_of_ble_eq_true rfl) (fun κ hκ hRt => ?_)
  refine ks_cv (ls := [(0, ks_ref g o)]) ?_ rfl rfl rfl
  refine ks_aload_n hκ 0 0 dX6_fault_0 rfl ?_
  refine ks_get hκ 1 dX6_fault_1 kf_X6_40 hO rfl ?_
  refine ks_aload_n hκ 4 0 dX6_fault_4 rfl ?_
  refine ks_get hκ 5 dX6_fault_5 kf_X6_33 hO rfl ?_
  refine ks_intcV1 hκ 8 dX6_fault_8 kc_X6_222 (c_Orders_read hord hpad (by omega)) hR0 rfl (by decide) (Nat.le_of_ble_eq_true rfl) (by decide) (by decide) (fun r8 xh1 hp8 => ?_)
  obtain ⟨hr, ⟨LT1, PT1, vn1, hord2, -⟩, hF2⟩ := hp8
  obtain ⟨hks3, hfx3⟩ := hks0.ord hord2 hF2
  refine ks_iret hκ 11 hRt dX6_fault_11 (by decide) (by decide) rfl ?_
  exact ⟨_, rfl, hr, hks3, hfx3⟩
set_option maxRecDepth 100000 in
set_option maxHeartbeats 4000000 in
theorem c_save {g : ks_G} {h : ks_H} {o : Nat} {X : Nat → Prop} {se : Nat → Int32} {tu : Int32} {ki : Nat} {ma re : Int32} {kf : Nat → Nat → Int32} {L : List (Nat × Nat)} {P : List kP} {H : List kS} {S : Nat → Option kS} {l : List Int32} {δ : Option kS} {x : Int32} (hks : kKS g h o X (se, tu, ki, ma, re, kf, L, P) δ H S l) : ks_Met g (yX6_save, cX6_save, 2, some .int) 4 16 595 [ks_ref g o, .int x] h (ks_Ph (fun r h' => r = (kSav (se, tu, ki, ma, re, kf, L, P) S x).1 ∧ kKS g h' o X (se, tu, ki, ma, re, kf, L, P) δ H (kSav (se, tu, ki, ma, re, kf, L, P) S x).2 l ∧ kFX X h h')) := by
  have hks0 := hks
  have hol := hks.len
  obtain ⟨τ, dp, F, G, Q, LT, PT, vs, vn, hO, hnow, htri, hH, hF7, hG2, hpad, hord, hrooms, hring, hX⟩ := hks
  obtain ⟨hdp, hHl, hrH, hrD, hrS⟩ := id hring
  refine ks_intro (by decide) (Nat.le_of_ble_eq_true rfl) (fun κ hκ hRt => ?_)
  refine ks_cv (ls := [(0, ks_ref g o), (1, .int x)]) ?_ rfl rfl rfl
  refine ks_iload_n hκ 0 1 dX6_save_0 rfl ?_
  refine ks_if_lt hκ 1 9 dX6_save_1 rfl (fun c1 => ?_) (fun c1 => ?_)
  · skip
    refine ks_bipush hκ 9 (-2) dX6_save_9 kq_bm2 ?_
    refine ks_iret hκ 11 hRt dX6_save_11 (by decide) (by decide) rfl ?_
    have hq : kSav (se, tu, ki, ma, re, kf, L, P) S x = (-2, S) := by
      unfold kSav
      first | rw [if_pos c1] | rw [if_neg c1, if_pos (Int32.not_lt.mp c6)]
    rw [hq]
    exact ⟨_, rfl, rfl, hks0, kFX.rf⟩
  · skip
    refine ks_iload_n hκ 4 1 dX6_save_4 rfl ?_
    refine ks_iconst hκ 5 (nI 2) dX6_save_5 kq_i2 ?_
    refine ks_icmp_lt hκ 6 12 dX6_save_6 rfl (fun c6 => ?_) (fun c6 => ?_)
    · skip
      obtain ⟨vj, hvj, rfl⟩ : ∃ vj, vj < 2 ∧ x = nI vj := by
        rcases pk_ix x (n := 2) (by omega) with q | q | ⟨j, q1, q2⟩
        · exact absurd q c1
        · exact absurd c6 (Int32.not_lt.mpr q)
        · exact ⟨j, q1, q2⟩
      refine ks_aload_n hκ 12 0 dX6_save_12 rfl ?_
      refine ks_get hκ 13 dX6_save_13 kf_X6_26 hO rfl ?_
      refine ks_iload_n hκ 16 1 dX6_save_16 rfl ?_
      refine ks_callS2 hκ 17 dX6_save_17 kc_X6_233 (c_roomAt hG2 hvj (by decide)) (by decide) (by decide) (by decide) (Nat.le_of_ble_eq_true rfl) (fun v17 xh1 hp17 => ?_)
      obtain ⟨va, rfl, hG3, ⟨y, hva⟩, hv1, hv2, hv3, hke, hlen2⟩ := hp17.use hrooms (r0 := 7 + vj) (by omega) (by unfold kG; rw [if_neg (by omega)]; rw [show 7 + vj - 7 = vj by omega]) hX hol
      refine ks_cv (st := [ks_ref g va]) ?_ rfl rfl rfl
      have hva0 := hva.1
      have hnow2 := hnow.ke (h' := xh1) (fun i q1 q2 => hke i (by omega) (by omega))
      have hO2 := (hke o (by omega) (by omega)).trans hO
      refine ks_aload_n hκ 20 0 dX6_save_20 rfl ?_
      refine ks_get hκ 21 dX6_save_21 kf_X6_12 hO2 rfl ?_
      refine ks_voidV1 hκ 24 dX6_save_24 kc_X6_191 (c_Stairs_copyFrom hva hnow2 (by omega)) hva0 rfl (by decide) (Nat.le_of_ble_eq_true rfl) (by decide) (by decide) (fun xh2 hp24 => ?_)
      obtain ⟨hva, hFr⟩ := hp24
      have hall : ∀ i : Nat, i < h.length → i ≠ o + 35 → (i < va ∨ va + 16 ≤ i) → xh2[i]? = h[i]? := fun i q1 q2 q3 => (hFr.2 i q3).trans (hke i q1 q2)
      have hnow3 := hnow2.fr hFr (by omega)
      have hN0 := hnow3.1
      have hO3 := (hall o (by omega) (by omega) (by omega)).trans hO
      refine ks_aload_n hκ 27 0 dX6_save_27 rfl ?_
      refine ks_get hκ 28 dX6_save_28 kf_X6_12 hO3 rfl ?_
      refine ks_get hκ 31 dX6_save_31 kf_X6_159 hN0 rfl ?_
      refine ks_iret hκ 34 hRt dX6_save_34 (by decide) (by decide) rfl ?_
      have hq : kSav (se, tu, ki, ma, re, kf, L, P) S (nI vj) = (nI ki, fun s => if s = vj then some (se, tu, ki, ma, re, kf, L, P) else S s) := by
        unfold kSav
        rw [if_neg c1, if_neg (Int32.not_le.mpr c6), nI_clamp (by omega)]
      rw [hq]
      refine ⟨_, rfl, rfl, ⟨τ, dp, F, va_up G vj (some va), fun r => if r = 7 + vj then (se, tu, ki, ma, re, kf, L, P) else Q r, LT, PT, vs, vn, hO3, hnow3, htri.ke (fun i q1 q2 => hall i (by omega) (by omega) (by omega)), (hall _ (by omega) (by omega) (by omega)).trans hH, (hall _ (by omega) (by omega) (by omega)).trans hF7, hFr.at hG3 (by omega), hpad.ke (fun i q1 q2 => hall i (by omega) (by omega) (by omega)), hord.ke (fun i q1 q2 => hall i (by omega) (by omega) (by omega)), ?_, ?_, fun i hi => ⟨by rw [hFr.1]; have := (hX i hi).1; omega, (hX i hi).2⟩⟩, ⟨by rw [hFr.1]; exact hlen2, fun i hi => ?_⟩⟩
      · refine hrooms.up (by omega) hva hv1 hv2 hv3 (fun r hr => ?_) (fun i q1 q2 q3 => hall i q1 (by omega) q3)
        unfold kG
        by_cases hr7 : r < 7
        · rw [if_pos hr7, if_pos hr7, if_neg (by omega)]
        · rw [if_neg hr7, if_neg hr7]
          unfold va_up
          by_cases hrj : r = 7 + vj
          · rw [if_pos hrj, if_pos (by omega)]
          · rw [if_neg hrj, if_neg (by omega)]
      · refine ⟨hdp, hHl, fun i y hy => ?_, fun y hy => ?_, fun s hs => ?_⟩
        · simp only [if_neg (show ¬ (dp + 6 - i) % 7 = 7 + vj by omega)]
          exact hrH i y hy
        · simp only [if_neg (show ¬ dp = 7 + vj by omega)]
          exact hrD y hy
        · unfold va_up
          by_cases hsj : s = vj
          · refine Or.inr ⟨_, if_pos hsj, ?_, ?_⟩
            · rw [if_pos hsj]; exact fun q => by cases q
            · exact if_pos (by omega)
          · simp only [if_neg hsj, if_neg (show ¬ 7 + s = 7 + vj by omega)]
            exact hrS s hs
      · have hx1 := hX i hi
        refine hall i hx1.1 (by omega) ?_
        rcases Nat.lt_or_ge i va with q | q
        · exact Or.inl q
        · rcases Nat.lt_or_ge i (va + 16) with q2 | q2
          · exact absurd hi (by have := hv2 (i - va) (by omega); rwa [show va + (i - va) = i by omega] at this)
          · exact Or.inr q2
    · skip
      refine ks_bipush hκ 9 (-2) dX6_save_9 kq_bm2 ?_
      refine ks_iret hκ 11 hRt dX6_save_11 (by decide) (by decide) rfl ?_
      have hq : kSav (se, tu, ki, ma, re, kf, L, P) S x = (-2, S) := by
        unfold kSav
        first | rw [if_pos c1] | rw [if_neg c1, if_pos (Int32.not_lt.mp c6)]
      rw [hq]
      exact ⟨_, rfl, rfl, hks0, kFX.rf⟩
set_option maxRecDepth 100000 in
set_option maxHeartbeats 4000000 in
theorem c_restore_out {g : ks_G} {h : ks_H} {o : Nat} {X : Nat → Prop} {σ : kS} {δ : Option kS} {H : List kS} {S : Nat → Option kS} {l : List Int32} {x : Int32} (hks : kKS g h o X σ δ H S l) (hx : x < 0 ∨ nI 2 ≤ x) : ks_Met g (yX6_restore, cX6_restore, 3, some .int) 5 16 595 [ks_ref g o, .int x] h (ks_Ph (fun r h' => r = (kRst σ H S x).1 ∧ kKS g h' o X (kRst σ H S x).2.1 none (kRst σ H S x).2.2 S l ∧ kFX X h h')) := by
  have hks0 := hks
  have hol := hks.len
  obtain ⟨τ, dp, F, G, Q, LT, PT, vs, vn, hO, hnow, htri, hH, hF7, hG2, hpad, hord, hrooms, hring, hX⟩ := hks
  obtain ⟨hdp, hHl, hrH, hrD, hrS⟩ := id hring
  refine ks_intro (by decide) (Nat.le_of_ble_eq_true rfl) (fun κ hκ hRt => ?_)
  refine ks_cv (ls := [(0, ks_ref g o), (1, .int x)]) ?_ rfl rfl rfl
  refine ks_iload_n hκ 0 1 dX6_restore_0 rfl ?_
  refine ks_if_lt hκ 1 9 dX6_restore_1 rfl (fun c1 => ?_) (fun c1 => ?_)
  · skip
    refine ks_bipush hκ 9 (-2) dX6_restore_9 kq_bm2 ?_
    refine ks_iret hκ 11 hRt dX6_restore_11 (by decide) (by decide) rfl ?_
    have hq : kRst σ H S x = (-2, σ, H) := by
      unfold kRst
      first | rw [if_pos c1] | rw [if_neg c1, if_pos (Int32.not_lt.mp c6)]
    rw [hq]
    exact ⟨_, rfl, rfl, hks0.bare, kFX.rf⟩
  · skip
    refine ks_iload_n hκ 4 1 dX6_restore_4 rfl ?_
    refine ks_iconst hκ 5 (nI 2) dX6_restore_5 kq_i2 ?_
    refine ks_icmp_lt hκ 6 12 dX6_restore_6 rfl (fun c6 => ?_) (fun c6 => ?_)
    · exfalso
      rcases hx with q | q; { exact c1 q }; { exact absurd c6 (Int32.not_lt.mpr q) }
    · skip
      refine ks_bipush hκ 9 (-2) dX6_restore_9 kq_bm2 ?_
      refine ks_iret hκ 11 hRt dX6_restore_11 (by decide) (by decide) rfl ?_
      have hq : kRst σ H S x = (-2, σ, H) := by
        unfold kRst
        first | rw [if_pos c1] | rw [if_neg c1, if_pos (Int32.not_lt.mp c6)]
      rw [hq]
      exact ⟨_, rfl, rfl, hks0.bare, kFX.rf⟩
set_option maxRecDepth 100000 in
set_option maxHeartbeats 4000000 in
theorem c_restore_none {g : ks_G} {h : ks_H} {o : Nat} {X : Nat → Prop} {σ : kS} {δ : Option kS} {H : List kS} {S : Nat → Option kS} {l : List Int32} {vj : Nat} (hks : kKS g h o X σ δ H S l) (hvj : vj < 2) (hSj : S vj = none) : ks_Met g (yX6_restore, cX6_restore, 3, some .int) 5 16 595 [ks_ref g o, .int (nI vj)] h (ks_Ph (fun r h' => r = (kRst σ H S (nI vj)).1 ∧ kKS g h' o X (kRst σ H S (nI vj)).2.1 none (kRst σ H S (nI vj)).2.2 S l ∧ kFX X h h')) := by
  have hks0 := hks
  have hol := hks.len
  obtain ⟨τ, dp, F, G, Q, LT, PT, vs, vn, hO, hnow, htri, hH, hF7, hG2, hpad, hord, hrooms, hring, hX⟩ := hks
  obtain ⟨hdp, hHl, hrH, hrD, hrS⟩ := id hring
  have hGj : G vj = none := by
    rcases hrS vj hvj with ⟨q1, q2⟩ | ⟨y, q1, q2, q3⟩
    · exact q2
    · rw [hSj] at q1; cases q1
  refine ks_intro (by decide) (Nat.le_of_ble_eq_true rfl) (fun κ hκ hRt => ?_)
  refine ks_cv (ls := [(0, ks_ref g o), (1, .int (nI vj))]) ?_ rfl rfl rfl
  refine ks_iload_n hκ 0 1 dX6_restore_0 rfl ?_
  refine ks_if_lt hκ 1 9 dX6_restore_1 rfl (fun c1 => ?_) (fun c1 => ?_)
  · skip
    exact absurd c1 (ks_lt0 (by omega))
  · skip
    refine ks_iload_n hκ 4 1 dX6_restore_4 rfl ?_
    refine ks_iconst hκ 5 (nI 2) dX6_restore_5 kq_i2 ?_
    refine ks_icmp_lt hκ 6 12 dX6_restore_6 rfl (fun c6 => ?_) (fun c6 => ?_)
    · skip
      have c6 := (nI_ltI (by omega) (by omega)).mp c6
      refine ks_aload_n hκ 12 0 dX6_restore_12 rfl ?_
      refine ks_get hκ 13 dX6_restore_13 kf_X6_26 hO rfl ?_
      refine ks_iload_n hκ 16 1 dX6_restore_16 rfl ?_
      refine ks_aald hκ 17 (vj) dX6_restore_17 hG2 rfl (by omega) (by decide) ?_
      refine ks_cv (st := [.null]) ?_ rfl rfl (by rw [hGj]; rfl)
      refine ks_astore_nN hκ 18 2 [(2, _), (0, _), (1, _)] dX6_restore_18 rfl (by decide) rfl ?_
      refine ks_aload_nN hκ 19 0 dX6_restore_19 rfl ?_
      refine ks_ifnonnullN hκ 20 dX6_restore_20 ?_
      refine ks_bipush hκ 23 (-5) dX6_restore_23 kq_bm5 ?_
      refine ks_iret hκ 25 hRt dX6_restore_25 (by decide) (by decide) rfl ?_
      have hq : kRst σ H S (nI vj) = (-5, σ, H) := by
        unfold kRst
        rw [if_neg (nI_pos (by omega)), if_neg (fun q => absurd ((nI_leI (by omega) (by omega)).mp q) (by omega)), nI_clamp (by omega), hSj]
      rw [hq]
      exact ⟨_, rfl, rfl, hks0.bare, kFX.rf⟩
    · exfalso
      have c6 := mt (nI_ltI (by omega) (by omega)).mpr c6
      omega
set_option maxRecDepth 100000 in
set_option maxHeartbeats 4000000 in
theorem c_restore_some {g : ks_G} {h : ks_H} {o : Nat} {X : Nat → Prop} {σ : kS} {δ : Option kS} {H : List kS} {S : Nat → Option kS} {l : List Int32} {vj : Nat} {se2 : Nat → Int32} {tu2 : Int32} {ki2 : Nat} {ma2 re2 : Int32} {kf2 : Nat → Nat → Int32} {L2 : List (Nat × Nat)} {P2 : List kP} (hks : kKS g h o X σ δ H S l) (hvj : vj < 2) (hSj : S vj = some (se2, tu2, ki2, ma2, re2, kf2, L2, P2)) : ks_Met g (yX6_restore, cX6_restore, 3, some .int) 5 16 595 [ks_ref g o, .int (nI vj)] h (ks_Ph (fun r h' => r = (kRst σ H S (nI vj)).1 ∧ kKS g h' o X (kRst σ H S (nI vj)).2.1 none (kRst σ H S (nI vj)).2.2 S l ∧ kFX X h h')) := by
  have hks0 := hks
  have hol := hks.len
  obtain ⟨τ, dp, F, G, Q, LT, PT, vs, vn, hO, hnow, htri, hH, hF7, hG2, hpad, hord, hrooms, hring, hX⟩ := hks
  obtain ⟨hdp, hHl, hrH, hrD, hrS⟩ := id hring
  have hN0 := hnow.1
  obtain ⟨va, hGj, hQj⟩ : ∃ va, G vj = some va ∧ Q (7 + vj) = (se2, tu2, ki2, ma2, re2, kf2, L2, P2) := by
    rcases hrS vj hvj with ⟨q1, q2⟩ | ⟨y, q1, q2, q3⟩
    · rw [hSj] at q1; cases q1
    · rw [hSj] at q1
      cases hG : G vj with
      | none => exact absurd hG q2
      | some va => exact ⟨va, rfl, q3.trans (Option.some.inj q1).symm⟩
  refine ks_intro (by decide) (Nat.le_of_ble_eq_true rfl) (fun κ hκ hRt => ?_)
  refine ks_cv (ls := [(0, ks_ref g o), (1, .int (nI vj))]) ?_ rfl rfl rfl
  refine ks_iload_n hκ 0 1 dX6_restore_0 rfl ?_
  refine ks_if_lt hκ 1 9 dX6_restore_1 rfl (fun c1 => ?_) (fun c1 => ?_)
  · skip
    exact absurd c1 (ks_lt0 (by omega))
  · skip
    refine ks_iload_n hκ 4 1 dX6_restore_4 rfl ?_
    refine ks_iconst hκ 5 (nI 2) dX6_restore_5 kq_i2 ?_
    refine ks_icmp_lt hκ 6 12 dX6_restore_6 rfl (fun c6 => ?_) (fun c6 => ?_)
    · skip
      have c6 := (nI_ltI (by omega) (by omega)).mp c6
      refine ks_aload_n hκ 12 0 dX6_restore_12 rfl ?_
      refine ks_get hκ 13 dX6_restore_13 kf_X6_26 hO rfl ?_
      refine ks_iload_n hκ 16 1 dX6_restore_16 rfl ?_
      refine ks_aald hκ 17 (vj) dX6_restore_17 hG2 rfl (by omega) (by decide) ?_
      refine ks_cv (st := [ks_ref g va]) ?_ rfl rfl (by rw [hGj]; rfl)
      refine ks_astore_n hκ 18 2 [(2, _), (0, _), (1, _)] dX6_restore_18 rfl (by decide) rfl ?_
      refine ks_aload_n hκ 19 0 dX6_restore_19 rfl ?_
      refine ks_ifnonnull hκ 20 26 dX6_restore_20 rfl ?_
      refine ks_aload_n hκ 26 1 dX6_restore_26 rfl ?_
      refine ks_get hκ 27 dX6_restore_27 kf_X6_22 hO rfl ?_
      refine ks_aload_n hκ 30 1 dX6_restore_30 rfl ?_
      refine ks_get hκ 31 dX6_restore_31 kf_X6_12 hO rfl ?_
      refine ks_voidV1 hκ 34 dX6_restore_34 kc_X6_44 (c_History_draft hks0) hH rfl (by decide) (Nat.le_of_ble_eq_true rfl) (by decide) (by decide) (fun xh1 hp34 => ?_)
      obtain ⟨hks1, hfx1, hG9⟩ := hp34
      replace hG9 := hG9 (o + 35) (by omega) (by omega)
      clear hO hN0 hH
      have hks2 := hks1
      obtain ⟨τ1, dp1, F1, G1, Q1, LT1, PT1, vs1, vn1, hO, hnow1, -, hH, -, hG1, -, -, hrooms1, hring1, hX1⟩ := hks1
      have hN0 := hnow1.1
      rw [hG2, hG1] at hG9
      have hGG := ks_S_inj (Option.some.inj hG9)
      subst hGG
      obtain ⟨hva, hv1, hv2⟩ := hrooms1.1 (7 + vj) va (by omega) (by unfold kG; rw [if_neg (by omega), show 7 + vj - 7 = vj by omega]; exact hGj)
      have hQ1 : Q1 (7 + vj) = (se2, tu2, ki2, ma2, re2, kf2, L2, P2) := by
        rcases hring1.2.2.2.2 vj hvj with ⟨q1, q2⟩ | ⟨y, q1, q2, q3⟩
        · rw [hSj] at q1; cases q1
        · rw [hSj] at q1; exact q3.trans (Option.some.inj q1).symm
      rw [hQ1] at hva
      refine ks_aload_n hκ 37 1 dX6_restore_37 rfl ?_
      refine ks_get hκ 38 dX6_restore_38 kf_X6_12 hO rfl ?_
      refine ks_aload_n hκ 41 0 dX6_restore_41 rfl ?_
      refine ks_voidV1 hκ 42 dX6_restore_42 kc_X6_191 (c_Stairs_copyFrom hnow1 hva (by omega)) hN0 rfl (by decide) (Nat.le_of_ble_eq_true rfl) (by decide) (by decide) (fun xh2 hp42 => ?_)
      obtain ⟨hst2, hF2⟩ := hp42
      obtain ⟨hks3, hfx2⟩ := hks2.now hst2 hF2
      replace hO := hF2.at hO (by omega)
      have hN5 := hst2.1
      refine ks_aload_n hκ 45 1 dX6_restore_45 rfl ?_
      refine ks_aload_n hκ 46 1 dX6_restore_46 rfl ?_
      refine ks_get hκ 47 dX6_restore_47 kf_X6_12 hO rfl ?_
      refine ks_get hκ 50 dX6_restore_50 kf_X6_159 hN5 rfl ?_
      refine ks_intcV1 hκ 53 dX6_restore_53 kc_X6_52 (c_settled hks3) hO rfl (by decide) (Nat.le_of_ble_eq_true rfl) (by decide) (by decide) (fun r53 xh3 hp53 => ?_)
      obtain ⟨hr2, hks4, hfx3⟩ := hp53
      refine ks_iret hκ 56 hRt dX6_restore_56 (by decide) (by decide) rfl ?_
      have hq : kRst σ H S (nI vj) = (nI ki2, (se2, tu2, ki2, ma2, re2, kf2, L2, P2), kKeep (nI ki2) σ H) := by
        unfold kRst
        rw [if_neg (nI_pos (by omega)), if_neg (fun q => absurd ((nI_leI (by omega) (by omega)).mp q) (by omega)), nI_clamp (by omega), hSj]
      rw [hq]
      exact ⟨_, rfl, hr2, hks4, (hfx1.tr hfx2).tr hfx3⟩
    · exfalso
      have c6 := mt (nI_ltI (by omega) (by omega)).mpr c6
      omega

theorem c_restore {g : ks_G} {h : ks_H} {o : Nat} {X : Nat → Prop} {σ : kS} {δ : Option kS} {H : List kS} {S : Nat → Option kS} {l : List Int32} {x : Int32} (hks : kKS g h o X σ δ H S l) : ks_Met g (yX6_restore, cX6_restore, 3, some .int) 5 16 595 [ks_ref g o, .int x] h (ks_Ph (fun r h' => r = (kRst σ H S x).1 ∧ kKS g h' o X (kRst σ H S x).2.1 none (kRst σ H S x).2.2 S l ∧ kFX X h h')) := by
  rcases pk_ix x (n := 2) (by omega) with q | q | ⟨j, q1, rfl⟩
  · exact c_restore_out hks (Or.inl q)
  · exact c_restore_out hks (Or.inr q)
  · cases hS : S j with
    | none => exact c_restore_none hks q1 hS
    | some y => obtain ⟨se2, tu2, ki2, ma2, re2, kf2, L2, P2⟩ := y; exact c_restore_some hks q1 hS
