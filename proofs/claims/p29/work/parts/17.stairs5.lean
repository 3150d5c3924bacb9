/-- steps on the stairs, plans of kittens that are here -/
def kOk2 (σ : kS) : Prop := kSteps σ.2.2.1 σ.2.2.2.2.2.1 ∧ ∀ p ∈ σ.2.2.2.2.2.2.2, p.2.1 < σ.2.2.1
theorem kRun_ok : ∀ (n : Nat) (σ : kS) (m : Nat), kOk2 σ → kOk2 (kRun n σ m).2 ∧ (kRun n σ m).2.1 = σ.1 ∧ (kRun n σ m).2.2.1 = σ.2.1 ∧ (kRun n σ m).2.2.2.1 = σ.2.2.1 := by
  intro n
  induction n with
  | zero => intro σ m h; rw [kRun_0]; exact ⟨h, rfl, rfl, rfl⟩
  | succ n ih =>
    rintro ⟨se, tu, ki, ma, re, kf, L, P⟩ m h
    cases P with
    | nil => rw [kRun_nil]; exact ⟨h, rfl, rfl, rfl⟩
    | cons p P =>
      obtain ⟨h1, h2⟩ := h
      have hp : p.2.1 < ki := h2 p List.mem_cons_self
      have h3 : kOk2 (se, tu, ki, ma, re, kf, L, P) := ⟨h1, fun q hq => h2 q (List.mem_cons_of_mem _ hq)⟩
      by_cases ht : p.1 = tu
      · rw [kRun_go ht]
        by_cases hr : kRef (se, tu, ki, ma, re, kf, L, P) p.2.1 p.2.2 = 0
        · rw [if_pos hr]
          obtain ⟨s, hs, hks⟩ := h1 p.2.1 hp
          obtain ⟨t, htt, hx⟩ := kRef_0 hr hks hs
          rw [hx]
          exact ih _ _ ⟨kLeap_steps h1 hks htt, fun q hq => h2 q (List.mem_cons_of_mem _ hq)⟩
        · rw [if_neg hr]
          exact ih (se, tu, ki, ma, re + nI 1, kf, L, P) m ⟨h1, h3.2⟩
      · rw [kRun_ne ht]; exact ⟨⟨h1, h2⟩, rfl, rfl, rfl⟩
theorem kTurn_ok {σ : kS} (h : kOk2 σ) : kOk2 (kTurn σ).2 ∧ (kTurn σ).2.1 = σ.1 ∧ (kTurn σ).2.2.1 = σ.2.1 + nI 1 ∧ (kTurn σ).2.2.2.1 = σ.2.2.1 := by
  obtain ⟨se, tu, ki, ma, re, kf, L, P⟩ := σ
  have h0 : kOk2 (se, tu + nI 1, ki, ma, re, kWakes ki (tu + nI 1) (se 3) kf, L, P) := ⟨fun k hk => by show ∃ s, s < 16 ∧ kWakes ki (tu + nI 1) (se 3) kf 0 k = nI s; unfold kWakes; rw [kWakes_0]; exact h.1 k hk, h.2⟩
  obtain ⟨⟨r1, r2⟩, r3, r4, r5⟩ := kRun_ok 16 _ 0 h0
  unfold kTurn
  refine ⟨⟨fun k hk => ?_, r2⟩, r3, r4, r5⟩
  show ∃ s, s < 16 ∧ kFresh _ _ _ 0 k = nI s
  unfold kFresh
  rw [kFresh_0]
  exact r1 k hk
theorem kPass_ok : ∀ (n : Nat) (σ : kS) (m : Nat), kOk2 σ → kOk2 (kPass n σ m).2 := by
  intro n
  induction n with
  | zero => intro σ m h; exact h
  | succ n ih => intro σ m h; exact ih _ _ (kTurn_ok h).1
set_option maxRecDepth 100000 in
set_option maxHeartbeats 4000000 in
theorem c_Stairs_beginNap {g : ks_G} {h : ks_H} {b : Nat} {se : Nat → Int32} {tu : Int32} {ki : Nat} {ma re : Int32} {kf : Nat → Nat → Int32} {L : List (Nat × Nat)} {P : List kP} {x : Int32} (hst : kStairs g h b (se, tu, ki, ma, re, kf, L, P)) : ks_Met g (yX4_beginNap, cX4_beginNap, 2, some .int) 1 0 0 [ks_ref g b, .int x] h (ks_Ph (fun r h' => r = (kNap (se, tu, ki, ma, re, kf, L, P) x).1 ∧ kStairs g h' b (kNap (se, tu, ki, ma, re, kf, L, P) x).2 ∧ ks_Fr h h' b (b + 16))) := by
  have hst0 := hst
  obtain ⟨h0, h1, h2, h3, h4, h5, h6, h7, h8, hyarn, hplans, hki⟩ := hst
  dsimp only at h0 h1 h2 h3 h4 h5 h6 h7 h8 hyarn hplans hki
  refine ks_intro (by decide) (Nat.le_of_ble_eq_true rfl) (fun κ hκ hRt => ?_)
  refine ks_cv (ls := [(0, ks_ref g b), (1, .int x)]) ?_ rfl rfl rfl
  have hF : ks_Fr h h b (b + 16) := ks_Fr.rf
  refine ks_aload_n hκ 0 0 dX4_beginNap_0 rfl ?_
  refine ks_iload_n hκ 1 1 dX4_beginNap_1 rfl ?_
  refine ks_pureV1 hκ 2 dX4_beginNap_2 kc_X4_85 (c_Stairs_hasKitten hst0) h0 rfl (by decide) (Nat.le_of_ble_eq_true rfl) (by decide) (by decide) ?_
  refine ks_if_ne hκ 5 10 dX4_beginNap_5 rfl (fun c5 => ?_) (fun c5 => ?_)
  · skip
    obtain ⟨vj, hvj, rfl⟩ := kHas_1 c5 hki
    refine ks_aload_n hκ 10 0 dX4_beginNap_10 rfl ?_
    refine ks_iload_n hκ 11 1 dX4_beginNap_11 rfl ?_
    refine ks_pureV1 hκ 12 dX4_beginNap_12 kc_X4_100 (c_Stairs_naps hst0 (by omega)) h0 rfl (by decide) (Nat.le_of_ble_eq_true rfl) (by decide) (by decide) ?_
    refine ks_if_eq hκ 15 21 dX4_beginNap_15 rfl (fun c15 => ?_) (fun c15 => ?_)
    · skip
      refine ks_aload_n hκ 21 0 dX4_beginNap_21 rfl ?_
      refine ks_get hκ 22 dX4_beginNap_22 kf_X4_34 h0 rfl ?_
      refine ks_iload_n hκ 25 1 dX4_beginNap_25 rfl ?_
      refine ks_aload_n hκ 26 0 dX4_beginNap_26 rfl ?_
      refine ks_get hκ 27 dX4_beginNap_27 kf_X4_15 h0 rfl ?_
      refine ks_aload_n hκ 30 0 dX4_beginNap_30 rfl ?_
      refine ks_get hκ 31 dX4_beginNap_31 kf_X4_9 h0 rfl ?_
      refine ks_iconst hκ 34 (nI 2) dX4_beginNap_34 kq_i2 ?_
      refine ks_iald hκ 35 (2) dX4_beginNap_35 h1 rfl (by omega) (by decide) ?_
      refine ks_iadd hκ 36 dX4_beginNap_36 ?_
      refine ks_iast hκ 37 (vj) dX4_beginNap_37 h4 rfl (by omega) (by decide) ?_
      refine ks_gen (fun xh1 exh1 => ?_)
      replace h0 := ks_gn exh1 (ks_nb (b := b) (i := 4) (j := 0) rfl) h0
      replace h1 := ks_gn exh1 (ks_nb (b := b) (i := 4) (j := 1) rfl) h1
      replace h2 := ks_gn exh1 (ks_nb (b := b) (i := 4) (j := 2) rfl) h2
      replace h3 := ks_gn exh1 (ks_nb (b := b) (i := 4) (j := 3) rfl) h3
      replace h4 := ks_gs exh1 h4
      replace h5 := ks_gn exh1 (ks_nb (b := b) (i := 4) (j := 5) rfl) h5
      replace h6 := ks_gn exh1 (ks_nb (b := b) (i := 4) (j := 6) rfl) h6
      replace h7 := ks_gn exh1 (ks_nb (b := b) (i := 4) (j := 7) rfl) h7
      replace h8 := ks_gn exh1 (ks_nb (b := b) (i := 4) (j := 8) rfl) h8
      replace hyarn := hyarn.fr (ks_Fr.one exh1) (by omega)
      replace hplans := hplans.fr (ks_Fr.one exh1) (by omega)
      replace hF := ks_Fr.st hF exh1 (by omega) (by omega)
      clear exh1
      refine ks_aload_n hκ 38 0 dX4_beginNap_38 rfl ?_
      refine ks_get hκ 39 dX4_beginNap_39 kf_X4_34 h0 rfl ?_
      refine ks_iload_n hκ 42 1 dX4_beginNap_42 rfl ?_
      refine ks_iald hκ 43 (vj) dX4_beginNap_43 h4 rfl (by omega) (by decide) ?_
      refine ks_iret hκ 44 hRt dX4_beginNap_44 (by decide) (by decide) rfl ?_
      have hq : kNap (se, tu, ki, ma, re, kf, L, P) (nI vj) = (tu + se 2, (se, tu, ki, ma, re, kPut kf 2 vj (tu + se 2), L, P)) := by
        unfold kNap
        rw [if_neg c5, nI_clamp (by omega), if_neg (fun q => q c15)]
      rw [hq]
      exact ⟨_, rfl, pk_us, ⟨h0, h1, h2, h3, h4, h5, h6, h7, h8, hyarn, hplans, hki⟩, hF⟩
    · skip
      refine ks_bipush hκ 18 (-5) dX4_beginNap_18 kq_bm5 ?_
      refine ks_iret hκ 20 hRt dX4_beginNap_20 (by decide) (by decide) rfl ?_
      have hq : kNap (se, tu, ki, ma, re, kf, L, P) (nI vj) = (-5, (se, tu, ki, ma, re, kf, L, P)) := by
        unfold kNap
        rw [if_neg c5, nI_clamp (by omega), if_pos c15]
      rw [hq]
      exact ⟨_, rfl, rfl, hst0, hF⟩
  · skip
    refine ks_iconst hκ 8 (-1) dX4_beginNap_8 kq_im1 ?_
    refine ks_iret hκ 9 hRt dX4_beginNap_9 (by decide) (by decide) rfl ?_
    have hq : kNap (se, tu, ki, ma, re, kf, L, P) x = (-1, (se, tu, ki, ma, re, kf, L, P)) := if_pos c5
    rw [hq]
    exact ⟨_, rfl, rfl, hst0, hF⟩
set_option maxRecDepth 100000 in
set_option maxHeartbeats 4000000 in
theorem c_Stairs_tryLeap {g : ks_G} {h : ks_H} {b : Nat} {se : Nat → Int32} {tu : Int32} {ki : Nat} {ma re : Int32} {kf : Nat → Nat → Int32} {L : List (Nat × Nat)} {P : List kP} {x z : Int32} (hst : kStairs g h b (se, tu, ki, ma, re, kf, L, P)) (hok : kOk2 (se, tu, ki, ma, re, kf, L, P)) : ks_Met g (yX4_tryLeap, cX4_tryLeap, 3, some .int) 3 0 0 [ks_ref g b, .int x, .int z] h (ks_Ph (fun r h' => r = (kTry (se, tu, ki, ma, re, kf, L, P) x z).1 ∧ kStairs g h' b (kTry (se, tu, ki, ma, re, kf, L, P) x z).2 ∧ ks_Fr h h' b (b + 16))) := by
  have hst0 := hst
  obtain ⟨h0, h1, h2, h3, h4, h5, h6, h7, h8, hyarn, hplans, hki⟩ := hst
  dsimp only at h0 h1 h2 h3 h4 h5 h6 h7 h8 hyarn hplans hki
  obtain ⟨hsteps, hpk⟩ := hok
  dsimp only at hsteps hpk
  refine ks_intro (by decide) (Nat.le_of_ble_eq_true rfl) (fun κ hκ hRt => ?_)
  refine ks_cv (ls := [(0, ks_ref g b), (1, .int x), (2, .int z)]) ?_ rfl rfl rfl
  have hF : ks_Fr h h b (b + 16) := ks_Fr.rf
  refine ks_aload_n hκ 0 0 dX4_tryLeap_0 rfl ?_
  refine ks_iload_n hκ 1 1 dX4_tryLeap_1 rfl ?_
  refine ks_pureV1 hκ 2 dX4_tryLeap_2 kc_X4_85 (c_Stairs_hasKitten hst0) h0 rfl (by decide) (Nat.le_of_ble_eq_true rfl) (by decide) (by decide) ?_
  refine ks_if_ne hκ 5 10 dX4_tryLeap_5 rfl (fun c5 => ?_) (fun c5 => ?_)
  · skip
    obtain ⟨vj, hvj, rfl⟩ := kHas_1 c5 hki
    obtain ⟨vs, hvs, hvs2⟩ := hsteps vj hvj
    refine ks_iload_n hκ 10 2 dX4_tryLeap_10 rfl ?_
    refine ks_pureS1 hκ 11 dX4_tryLeap_11 kc_X4_89 (c_isLeap) (by decide) (Nat.le_of_ble_eq_true rfl) (by decide) (by decide) ?_
    refine ks_if_ne hκ 14 20 dX4_tryLeap_14 rfl (fun c14 => ?_) (fun c14 => ?_)
    · skip
      refine ks_aload_n hκ 20 0 dX4_tryLeap_20 rfl ?_
      refine ks_iload_n hκ 21 1 dX4_tryLeap_21 rfl ?_
      refine ks_iload_n hκ 22 2 dX4_tryLeap_22 rfl ?_
      refine ks_pureV2 hκ 23 dX4_tryLeap_23 kc_X4_92 (c_Stairs_refusal hst0 hvj hvs hvs2) h0 rfl (by decide) (Nat.le_of_ble_eq_true rfl) (by decide) (by decide) ?_
      refine ks_if_eq hκ 26 32 dX4_tryLeap_26 rfl (fun c26 => ?_) (fun c26 => ?_)
      · skip
        obtain ⟨vt, hvt, rfl⟩ := kRef_0 c26 hvs2 hvs
        refine ks_aload_n hκ 32 0 dX4_tryLeap_32 rfl ?_
        refine ks_iload_n hκ 33 1 dX4_tryLeap_33 rfl ?_
        refine ks_iload_n hκ 34 2 dX4_tryLeap_34 rfl ?_
        refine ks_voidV2 hκ 35 dX4_tryLeap_35 kc_X4_96 (c_Stairs_makeLeap hst0 (by omega) hvs hvt hvs2) h0 rfl (by decide) (Nat.le_of_ble_eq_true rfl) (by decide) (by decide) (fun xh1 hp35 => ?_)
        obtain ⟨hst, hF9⟩ := hp35
        have hF := hF.tr hF9
        have hst1 := hst
        obtain ⟨h0, h1, h2, h3, h4, h5, h6, h7, h8, hyarn, hplans, hki2⟩ := hst
        refine ks_aload_n hκ 38 0 dX4_tryLeap_38 rfl ?_
        refine ks_get hκ 39 dX4_tryLeap_39 kf_X4_28 h0 rfl ?_
        refine ks_iload_n hκ 42 1 dX4_tryLeap_42 rfl ?_
        refine ks_iald hκ 43 (vj) dX4_tryLeap_43 h2 rfl (by omega) (by decide) ?_
        refine ks_iret hκ 44 hRt dX4_tryLeap_44 (by decide) (by decide) rfl ?_
        have hq : kTry (se, tu, ki, ma, re, kf, L, P) (nI vj) (nI vt - nI vs) = ((kLeap (se, tu, ki, ma, re, kf, L, P) vj (nI vt - nI vs)).2.2.2.2.2.1 0 vj, kLeap (se, tu, ki, ma, re, kf, L, P) vj (nI vt - nI vs)) := by
          unfold kTry
          rw [if_neg c5, if_neg c14, nI_clamp (by omega), if_neg (fun q => q c26)]
        rw [hq]
        exact ⟨_, rfl, rfl, hst1, hF⟩
      · skip
        refine ks_bipush hκ 29 (-5) dX4_tryLeap_29 kq_bm5 ?_
        refine ks_iret hκ 31 hRt dX4_tryLeap_31 (by decide) (by decide) rfl ?_
        have hq : kTry (se, tu, ki, ma, re, kf, L, P) (nI vj) z = (-5, (se, tu, ki, ma, re, kf, L, P)) := by
          unfold kTry
          rw [if_neg c5, if_neg c14, nI_clamp (by omega), if_pos c26]
        rw [hq]
        exact ⟨_, rfl, rfl, hst0, hF⟩
    · skip
      refine ks_bipush hκ 17 (-2) dX4_tryLeap_17 kq_bm2 ?_
      refine ks_iret hκ 19 hRt dX4_tryLeap_19 (by decide) (by decide) rfl ?_
      have hq : kTry (se, tu, ki, ma, re, kf, L, P) (nI vj) z = (-2, (se, tu, ki, ma, re, kf, L, P)) := by
        unfold kTry
        rw [if_neg c5, if_pos c14]
      rw [hq]
      exact ⟨_, rfl, rfl, hst0, hF⟩
  · skip
    refine ks_iconst hκ 8 (-1) dX4_tryLeap_8 kq_im1 ?_
    refine ks_iret hκ 9 hRt dX4_tryLeap_9 (by decide) (by decide) rfl ?_
    have hq : kTry (se, tu, ki, ma, re, kf, L, P) x z = (-1, (se, tu, ki, ma, re, kf, L, P)) := if_pos c5
    rw [hq]
    exact ⟨_, rfl, rfl, hst0, hF⟩
set_option maxRecDepth 100000 in
set_option maxHeartbeats 4000000 in
theorem c_Stairs_snipStrands {g : ks_G} {h : ks_H} {b : Nat} {se : Nat → Int32} {tu : Int32} {ki : Nat} {ma re : Int32} {kf : Nat → Nat → Int32} {L : List (Nat × Nat)} {P : List kP} {x z : Int32} (hst : kStairs g h b (se, tu, ki, ma, re, kf, L, P)) : ks_Met g (yX4_snipStrands, cX4_snipStrands, 4, some .int) 1 0 0 [ks_ref g b, .int x, .int z] h (ks_Ph (fun r h' => r = (kSnip (se, tu, ki, ma, re, kf, L, P) x z).1 ∧ kStairs g h' b (kSnip (se, tu, ki, ma, re, kf, L, P) x z).2 ∧ ks_Fr h h' b (b + 16))) := by
  have hst0 := hst
  obtain ⟨h0, h1, h2, h3, h4, h5, h6, h7, h8, hyarn, hplans, hki⟩ := hst
  dsimp only at h0 h1 h2 h3 h4 h5 h6 h7 h8 hyarn hplans hki
  obtain ⟨E, O, hY, -⟩ := id hyarn
  refine ks_intro (by decide) (Nat.le_of_ble_eq_true rfl) (fun κ hκ hRt => ?_)
  refine ks_cv (ls := [(0, ks_ref g b), (1, .int x), (2, .int z)]) ?_ rfl rfl rfl
  have hF : ks_Fr h h b (b + 16) := ks_Fr.rf
  refine ks_iload_n hκ 0 1 dX4_snipStrands_0 rfl ?_
  refine ks_pureS1 hκ 1 dX4_snipStrands_1 kc_X4_103 (c_isEdge) (by decide) (Nat.le_of_ble_eq_true rfl) (by decide) (by decide) ?_
  refine ks_if_eq hκ 4 15 dX4_snipStrands_4 rfl (fun c4 => ?_) (fun c4 => ?_)
  · skip
    refine ks_iconst hκ 15 (-1) dX4_snipStrands_15 kq_im1 ?_
    refine ks_iret hκ 16 hRt dX4_snipStrands_16 (by decide) (by decide) rfl ?_
    first
      | (have hq : kSnip (se, tu, ki, ma, re, kf, L, P) x z = (-1, (se, tu, ki, ma, re, kf, L, P)) := if_pos c4; rw [hq]; exact ⟨_, rfl, rfl, hst0, hF⟩)
      | (have hq : kSnip (se, tu, ki, ma, re, kf, L, P) (nI ve) z = (-1, (se, tu, ki, ma, re, kf, L, P)) := by { unfold kSnip; rw [if_neg c4, if_pos c12] }; rw [hq]; exact ⟨_, rfl, rfl, hst0, hF⟩)
  · skip
    obtain ⟨ve, hve, rfl⟩ := kIsE_1 c4
    refine ks_aload_n hκ 7 0 dX4_snipStrands_7 rfl ?_
    refine ks_iload_n hκ 8 2 dX4_snipStrands_8 rfl ?_
    refine ks_pureV1 hκ 9 dX4_snipStrands_9 kc_X4_85 (c_Stairs_hasKitten hst0) h0 rfl (by decide) (Nat.le_of_ble_eq_true rfl) (by decide) (by decide) ?_
    refine ks_if_ne hκ 12 17 dX4_snipStrands_12 rfl (fun c12 => ?_) (fun c12 => ?_)
    · skip
      obtain ⟨vj, hvj, rfl⟩ := kHas_1 c12 hki
      refine ks_aload_n hκ 17 0 dX4_snipStrands_17 rfl ?_
      refine ks_get hκ 18 dX4_snipStrands_18 kf_X4_52 h0 rfl ?_
      refine ks_iload_n hκ 21 1 dX4_snipStrands_21 rfl ?_
      refine ks_iload_n hκ 22 2 dX4_snipStrands_22 rfl ?_
      refine ks_intcV2 hκ 23 dX4_snipStrands_23 kc_X4_106 (c_Yarn_removeAll hyarn hve (by omega)) hY rfl (by decide) (Nat.le_of_ble_eq_true rfl) (by decide) (by decide) (fun r23 xh1 hp23 => ?_)
      obtain ⟨rfl, hyarn, hF9⟩ := hp23
      have hcl := kCut_le ve vj L
      have hLn : L.length ≤ 240 := by
        obtain ⟨_, _, _, _, _, _, q, _⟩ := hst0.2.2.2.2.2.2.2.2.2.1
        exact q
      replace h0 := hF9.at h0 (by omega)
      replace h1 := hF9.at h1 (by omega)
      replace h2 := hF9.at h2 (by omega)
      replace h3 := hF9.at h3 (by omega)
      replace h4 := hF9.at h4 (by omega)
      replace h5 := hF9.at h5 (by omega)
      replace h6 := hF9.at h6 (by omega)
      replace h7 := hF9.at h7 (by omega)
      replace h8 := hF9.at h8 (by omega)
      replace hplans := hplans.fr hF9 (by omega)
      replace hF := hF.tr (hF9.wd (by omega) (by omega))
      refine ks_istore_n hκ 26 3 [(3, _), (0, _), (1, _), (2, _)] dX4_snipStrands_26 rfl (by decide) rfl ?_
      refine ks_iload_n hκ 27 0 dX4_snipStrands_27 rfl ?_
      refine ks_if_ne hκ 28 34 dX4_snipStrands_28 rfl (fun c28 => ?_) (fun c28 => ?_)
      · skip
        have c28 := mt (ks_eq0 (by omega)).mpr c28
        refine ks_aload_n hκ 34 1 dX4_snipStrands_34 rfl ?_
        refine ks_get hκ 35 dX4_snipStrands_35 kf_X4_46 h0 rfl ?_
        refine ks_iload_n hκ 38 3 dX4_snipStrands_38 rfl ?_
        refine ks_dup2 hκ 39 dX4_snipStrands_39 rfl rfl ?_
        refine ks_iald hκ 40 (vj) dX4_snipStrands_40 h8 rfl (by omega) (by decide) ?_
        refine ks_iload_n hκ 41 0 dX4_snipStrands_41 rfl ?_
        refine ks_iadd hκ 42 dX4_snipStrands_42 ?_
        refine ks_iast hκ 43 (vj) dX4_snipStrands_43 h8 rfl (by omega) (by decide) ?_
        refine ks_gen (fun xh2 exh2 => ?_)
        replace h0 := ks_gn exh2 (ks_nb (b := b) (i := 8) (j := 0) rfl) h0
        replace h1 := ks_gn exh2 (ks_nb (b := b) (i := 8) (j := 1) rfl) h1
        replace h2 := ks_gn exh2 (ks_nb (b := b) (i := 8) (j := 2) rfl) h2
        replace h3 := ks_gn exh2 (ks_nb (b := b) (i := 8) (j := 3) rfl) h3
        replace h4 := ks_gn exh2 (ks_nb (b := b) (i := 8) (j := 4) rfl) h4
        replace h5 := ks_gn exh2 (ks_nb (b := b) (i := 8) (j := 5) rfl) h5
        replace h6 := ks_gn exh2 (ks_nb (b := b) (i := 8) (j := 6) rfl) h6
        replace h7 := ks_gn exh2 (ks_nb (b := b) (i := 8) (j := 7) rfl) h7
        replace h8 := ks_gs exh2 h8
        replace hyarn := hyarn.fr (ks_Fr.one exh2) (by omega)
        replace hplans := hplans.fr (ks_Fr.one exh2) (by omega)
        replace hF := ks_Fr.st hF exh2 (by omega) (by omega)
        clear exh2
        refine ks_iload_n hκ 44 0 dX4_snipStrands_44 rfl ?_
        refine ks_iret hκ 45 hRt dX4_snipStrands_45 (by decide) (by decide) rfl ?_
        have hq : kSnip (se, tu, ki, ma, re, kf, L, P) (nI ve) (nI vj) = (nI (L.length - (kCut ve vj L).length), (se, tu, ki, ma, re, kPut kf 6 vj (kf 6 vj + nI (L.length - (kCut ve vj L).length)), kCut ve vj L, P)) := by
          unfold kSnip
          rw [if_neg c4, if_neg c12, nI_clamp (by omega), nI_clamp (by omega), if_neg c28]
        rw [hq]
        exact ⟨_, rfl, rfl, ⟨h0, h1, h2, h3, h4, h5, h6, h7, h8, hyarn, hplans, hki⟩, hF⟩
      · skip
        have c28 := (ks_eq0 (by omega)).mp c28
        refine ks_bipush hκ 31 (-5) dX4_snipStrands_31 kq_bm5 ?_
        refine ks_iret hκ 33 hRt dX4_snipStrands_33 (by decide) (by decide) rfl ?_
        have hq : kSnip (se, tu, ki, ma, re, kf, L, P) (nI ve) (nI vj) = (-5, (se, tu, ki, ma, re, kf, L, P)) := by
          unfold kSnip
          rw [if_neg c4, if_neg c12, nI_clamp (by omega), nI_clamp (by omega), if_pos c28]
        rw [hq]
        have hcut : kCut ve vj L = L := List.Sublist.eq_of_length_le List.filter_sublist (show L.length ≤ (kCut ve vj L).length by omega)
        rw [hcut] at hyarn
        exact ⟨_, rfl, rfl, ⟨h0, h1, h2, h3, h4, h5, h6, h7, h8, hyarn, hplans, hki⟩, hF⟩
    · skip
      refine ks_iconst hκ 15 (-1) dX4_snipStrands_15 kq_im1 ?_
      refine ks_iret hκ 16 hRt dX4_snipStrands_16 (by decide) (by decide) rfl ?_
      first
        | (have hq : kSnip (se, tu, ki, ma, re, kf, L, P) x z = (-1, (se, tu, ki, ma, re, kf, L, P)) := if_pos c4; rw [hq]; exact ⟨_, rfl, rfl, hst0, hF⟩)
        | (have hq : kSnip (se, tu, ki, ma, re, kf, L, P) (nI ve) z = (-1, (se, tu, ki, ma, re, kf, L, P)) := by { unfold kSnip; rw [if_neg c4, if_pos c12] }; rw [hq]; exact ⟨_, rfl, rfl, hst0, hF⟩)
set_option maxRecDepth 100000 in
set_option maxHeartbeats 4000000 in
theorem c_Stairs_planLeap {g : ks_G} {h : ks_H} {b : Nat} {se : Nat → Int32} {tu : Int32} {ki : Nat} {ma re : Int32} {kf : Nat → Nat → Int32} {L : List (Nat × Nat)} {P : List kP} {w x z : Int32} (hst : kStairs g h b (se, tu, ki, ma, re, kf, L, P)) : ks_Met g (yX4_planLeap, cX4_planLeap, 4, some .int) 2 0 0 [ks_ref g b, .int w, .int x, .int z] h (ks_Ph (fun r h' => r = (kPlan (se, tu, ki, ma, re, kf, L, P) w x z).1 ∧ kStairs g h' b (kPlan (se, tu, ki, ma, re, kf, L, P) w x z).2 ∧ ks_Fr h h' b (b + 16))) := by
  have hst0 := hst
  obtain ⟨h0, h1, h2, h3, h4, h5, h6, h7, h8, hyarn, hplans, hki⟩ := hst
  dsimp only at h0 h1 h2 h3 h4 h5 h6 h7 h8 hyarn hplans hki
  obtain ⟨PT, PK, PB, hQ, hQT, hQK, hQB, hPE, hPn, hPb⟩ := id hplans
  refine ks_intro (by decide) (Nat.le_of_ble_eq_true rfl) (fun κ hκ hRt => ?_)
  refine ks_cv (ls := [(0, ks_ref g b), (1, .int w), (2, .int x), (3, .int z)]) ?_ rfl rfl rfl
  have hF : ks_Fr h h b (b + 16) := ks_Fr.rf
  refine ks_aload_n hκ 0 0 dX4_planLeap_0 rfl ?_
  refine ks_iload_n hκ 1 2 dX4_planLeap_1 rfl ?_
  refine ks_pureV1 hκ 2 dX4_planLeap_2 kc_X4_85 (c_Stairs_hasKitten hst0) h0 rfl (by decide) (Nat.le_of_ble_eq_true rfl) (by decide) (by decide) ?_
  refine ks_if_ne hκ 5 10 dX4_planLeap_5 rfl (fun c5 => ?_) (fun c5 => ?_)
  · skip
    obtain ⟨vj, hvj, rfl⟩ := kHas_1 c5 hki
    refine ks_iload_n hκ 10 1 dX4_planLeap_10 rfl ?_
    refine ks_iconst hκ 11 (nI 1) dX4_planLeap_11 kq_i1 ?_
    refine ks_icmp_lt hκ 12 28 dX4_planLeap_12 rfl (fun c12 => ?_) (fun c12 => ?_)
    · skip
      refine ks_bipush hκ 28 (-2) dX4_planLeap_28 kq_bm2 ?_
      refine ks_iret hκ 30 hRt dX4_planLeap_30 (by decide) (by decide) rfl ?_
      have hq : kPlan (se, tu, ki, ma, re, kf, L, P) w (nI vj) z = (-2, (se, tu, ki, ma, re, kf, L, P)) := by
        unfold kPlan
        first | rw [if_neg c5, if_pos c12] | rw [if_neg c5, if_neg c12, if_pos c18] | rw [if_neg c5, if_neg c12, if_neg c18, if_pos c25]
      rw [hq]
      exact ⟨_, rfl, rfl, hst0, hF⟩
    · skip
      refine ks_iload_n hκ 15 1 dX4_planLeap_15 rfl ?_
      refine ks_bipush hκ 16 (nI 99) dX4_planLeap_16 kq_b99 ?_
      refine ks_icmp_gt hκ 18 28 dX4_planLeap_18 rfl (fun c18 => ?_) (fun c18 => ?_)
      · skip
        refine ks_bipush hκ 28 (-2) dX4_planLeap_28 kq_bm2 ?_
        refine ks_iret hκ 30 hRt dX4_planLeap_30 (by decide) (by decide) rfl ?_
        have hq : kPlan (se, tu, ki, ma, re, kf, L, P) w (nI vj) z = (-2, (se, tu, ki, ma, re, kf, L, P)) := by
          unfold kPlan
          first | rw [if_neg c5, if_pos c12] | rw [if_neg c5, if_neg c12, if_pos c18] | rw [if_neg c5, if_neg c12, if_neg c18, if_pos c25]
        rw [hq]
        exact ⟨_, rfl, rfl, hst0, hF⟩
      · skip
        refine ks_iload_n hκ 21 3 dX4_planLeap_21 rfl ?_
        refine ks_pureS1 hκ 22 dX4_planLeap_22 kc_X4_89 (c_isLeap) (by decide) (Nat.le_of_ble_eq_true rfl) (by decide) (by decide) ?_
        refine ks_if_ne hκ 25 31 dX4_planLeap_25 rfl (fun c25 => ?_) (fun c25 => ?_)
        · skip
          refine ks_aload_n hκ 31 0 dX4_planLeap_31 rfl ?_
          refine ks_get hκ 32 dX4_planLeap_32 kf_X4_59 h0 rfl ?_
          refine ks_get hκ 35 dX4_planLeap_35 kf_X4_109 hQ rfl ?_
          refine ks_bipush hκ 38 (nI 16) dX4_planLeap_38 kq_b16 ?_
          refine ks_icmp_lt hκ 40 46 dX4_planLeap_40 rfl (fun c40 => ?_) (fun c40 => ?_)
          · skip
            have c40 := (nI_ltI (by omega) (by omega)).mp c40
            refine ks_aload_n hκ 46 0 dX4_planLeap_46 rfl ?_
            refine ks_get hκ 47 dX4_planLeap_47 kf_X4_59 h0 rfl ?_
            refine ks_aload_n hκ 50 0 dX4_planLeap_50 rfl ?_
            refine ks_get hκ 51 dX4_planLeap_51 kf_X4_15 h0 rfl ?_
            refine ks_iload_n hκ 54 1 dX4_planLeap_54 rfl ?_
            refine ks_iadd hκ 55 dX4_planLeap_55 ?_
            refine ks_iload_n hκ 56 2 dX4_planLeap_56 rfl ?_
            refine ks_iload_n hκ 57 3 dX4_planLeap_57 rfl ?_
            refine ks_voidV3 hκ 58 dX4_planLeap_58 kc_X4_112 (c_Plans_insert hplans (by omega) (by omega)) hQ rfl (by decide) (Nat.le_of_ble_eq_true rfl) (by decide) (by decide) (fun xh1 hp58 => ?_)
            obtain ⟨hplans, hF9⟩ := hp58
            replace h0 := hF9.at h0 (by omega)
            replace h1 := hF9.at h1 (by omega)
            replace h2 := hF9.at h2 (by omega)
            replace h3 := hF9.at h3 (by omega)
            replace h4 := hF9.at h4 (by omega)
            replace h5 := hF9.at h5 (by omega)
            replace h6 := hF9.at h6 (by omega)
            replace h7 := hF9.at h7 (by omega)
            replace h8 := hF9.at h8 (by omega)
            replace hyarn := hyarn.fr hF9 (by omega)
            replace hF := hF.tr (hF9.wd (by omega) (by omega))
            obtain ⟨_, _, _, hQ, -⟩ := id hplans
            rw [kIns_len] at hQ
            refine ks_aload_n hκ 61 0 dX4_planLeap_61 rfl ?_
            refine ks_get hκ 62 dX4_planLeap_62 kf_X4_59 h0 rfl ?_
            refine ks_get hκ 65 dX4_planLeap_65 kf_X4_109 hQ rfl ?_
            refine ks_iret hκ 68 hRt dX4_planLeap_68 (by decide) (by decide) rfl ?_
            have hq : kPlan (se, tu, ki, ma, re, kf, L, P) w (nI vj) z = (nI (P.length + 1), (se, tu, ki, ma, re, kf, L, kIns P (tu + w, vj, z))) := by
              unfold kPlan
              rw [if_neg c5, if_neg c12, if_neg c18, if_neg c25, nI_clamp (by omega), if_neg (show ¬ 16 ≤ P.length by omega)]
            rw [hq]
            exact ⟨_, rfl, rfl, ⟨h0, h1, h2, h3, h4, h5, h6, h7, h8, hyarn, hplans, hki⟩, hF⟩
          · skip
            have c40 := mt (nI_ltI (by omega) (by omega)).mpr c40
            refine ks_bipush hκ 43 (-4) dX4_planLeap_43 kq_bm4 ?_
            refine ks_iret hκ 45 hRt dX4_planLeap_45 (by decide) (by decide) rfl ?_
            have hq : kPlan (se, tu, ki, ma, re, kf, L, P) w (nI vj) z = (-4, (se, tu, ki, ma, re, kf, L, P)) := by
              unfold kPlan
              rw [if_neg c5, if_neg c12, if_neg c18, if_neg c25, if_pos (show 16 ≤ P.length by omega)]
            rw [hq]
            exact ⟨_, rfl, rfl, hst0, hF⟩
        · skip
          refine ks_bipush hκ 28 (-2) dX4_planLeap_28 kq_bm2 ?_
          refine ks_iret hκ 30 hRt dX4_planLeap_30 (by decide) (by decide) rfl ?_
          have hq : kPlan (se, tu, ki, ma, re, kf, L, P) w (nI vj) z = (-2, (se, tu, ki, ma, re, kf, L, P)) := by
            unfold kPlan
            first | rw [if_neg c5, if_pos c12] | rw [if_neg c5, if_neg c12, if_pos c18] | rw [if_neg c5, if_neg c12, if_neg c18, if_pos c25]
          rw [hq]
          exact ⟨_, rfl, rfl, hst0, hF⟩
  · skip
    refine ks_iconst hκ 8 (-1) dX4_planLeap_8 kq_im1 ?_
    refine ks_iret hκ 9 hRt dX4_planLeap_9 (by decide) (by decide) rfl ?_
    have hq : kPlan (se, tu, ki, ma, re, kf, L, P) w x z = (-1, (se, tu, ki, ma, re, kf, L, P)) := if_pos c5
    rw [hq]
    exact ⟨_, rfl, rfl, hst0, hF⟩
set_option maxRecDepth 100000 in
set_option maxHeartbeats 4000000 in
theorem c_Stairs_passTurns {g : ks_G} {h : ks_H} {b : Nat} {se : Nat → Int32} {tu : Int32} {ki : Nat} {ma re : Int32} {kf : Nat → Nat → Int32} {L : List (Nat × Nat)} {P : List kP} {x : Int32} {n0 : Nat} (hst : kStairs g h b (se, tu, ki, ma, re, kf, L, P)) (hok : kOk2 (se, tu, ki, ma, re, kf, L, P)) (htu : tu = nI n0) (hn0 : n0 ≤ 20000) : ks_Met g (yX4_passTurns, cX4_passTurns, 4, some .int) 4 0 0 [ks_ref g b, .int x] h (ks_Ph (fun r h' => r = (kPassT (se, tu, ki, ma, re, kf, L, P) x).1 ∧ kStairs g h' b (kPassT (se, tu, ki, ma, re, kf, L, P) x).2 ∧ ks_Fr h h' b (b + 16))) := by
  have hst0 := hst
  obtain ⟨h0, h1, h2, h3, h4, h5, h6, h7, h8, hyarn, hplans, hki⟩ := hst
  dsimp only at h0 h1 h2 h3 h4 h5 h6 h7 h8 hyarn hplans hki
  refine ks_intro (by decide) (Nat.le_of_ble_eq_true rfl) (fun κ hκ hRt => ?_)
  refine ks_cv (ls := [(0, ks_ref g b), (1, .int x)]) ?_ rfl rfl rfl
  have hF : ks_Fr h h b (b + 16) := ks_Fr.rf
  refine ks_iload_n hκ 0 1 dX4_passTurns_0 rfl ?_
  refine ks_iconst hκ 1 (nI 1) dX4_passTurns_1 kq_i1 ?_
  refine ks_icmp_lt hκ 2 11 dX4_passTurns_2 rfl (fun c2 => ?_) (fun c2 => ?_)
  · skip
    refine ks_bipush hκ 11 (-2) dX4_passTurns_11 kq_bm2 ?_
    refine ks_iret hκ 13 hRt dX4_passTurns_13 (by decide) (by decide) rfl ?_
    have hq : kPassT (se, tu, ki, ma, re, kf, L, P) x = (-2, (se, tu, ki, ma, re, kf, L, P)) := by
      unfold kPassT
      first | rw [if_pos c2] | rw [if_neg c2, if_pos (Int32.not_le.mp c8)]
    rw [hq]
    exact ⟨_, rfl, rfl, hst0, hF⟩
  · skip
    refine ks_iload_n hκ 5 1 dX4_passTurns_5 rfl ?_
    refine ks_bipush hκ 6 (nI 99) dX4_passTurns_6 kq_b99 ?_
    refine ks_icmp_le hκ 8 14 dX4_passTurns_8 rfl (fun c8 => ?_) (fun c8 => ?_)
    · skip
      refine ks_aload_n hκ 14 0 dX4_passTurns_14 rfl ?_
      refine ks_get hκ 15 dX4_passTurns_15 kf_X4_15 h0 rfl ?_
      refine ks_iload_n hκ 18 1 dX4_passTurns_18 rfl ?_
      refine ks_iadd hκ 19 dX4_passTurns_19 ?_
      refine ks_sipush hκ 20 (nI 9999) dX4_passTurns_20 kq_s9999 ?_
      refine ks_icmp_le hκ 23 29 dX4_passTurns_23 rfl (fun c23 => ?_) (fun c23 => ?_)
      · skip
        obtain ⟨vn, hvn, rfl⟩ : ∃ vn, vn < 100 ∧ x = nI vn := by
          rcases pk_ix x (n := 100) (by omega) with q | q | ⟨j, q1, q2⟩
          · exact absurd (Int32.lt_trans q (show (0 : Int32) < nI 1 by decide)) c2
          · exact absurd (Int32.lt_of_lt_of_le (show nI 99 < nI 100 by decide) q) (Int32.not_lt.mpr c8)
          · exact ⟨j, q1, q2⟩
        refine ks_iconst hκ 29 (nI 0) dX4_passTurns_29 kq_i0 ?_
        refine ks_istore_n hκ 30 2 [(2, _), (0, _), (1, _)] dX4_passTurns_30 rfl (by decide) rfl ?_
        refine ks_iconst hκ 31 (nI 0) dX4_passTurns_31 kq_i0 ?_
        refine ks_istore_n hκ 32 3 [(3, _), (2, _), (0, _), (1, _)] dX4_passTurns_32 rfl (by decide) rfl ?_
        have L33 : ∀ (fuel : Nat) (vf vi vm : Nat) (σ : kS) (hh : ks_H) (hst : kStairs g hh b σ) (hF : ks_Fr h hh b (b + 16)) (hvi : vf + vi = vn) (hok1 : kOk2 σ) (htu1 : σ.2.1 = nI (n0 + vi)) (hinv : kPass vf σ vm = kPass vn (se, tu, ki, ma, re, kf, L, P) 0) (hfuel : vf < fuel), ks_K κ g 4 hh 0 0 33 [(0, ks_ref g b), (1, .int (nI vn)), (2, .int (nI vm)), (3, .int (nI vi))] [] := by
          intro fuel
          induction fuel with
          | zero => intro vf vi vm σ hh hst hF hvi hok1 htu1 hinv hfuel; exact absurd hfuel (Nat.not_lt_zero _)
          | succ fuel ih =>
            intro vf vi vm σ hh hst hF hvi hok1 htu1 hinv hfuel
            obtain ⟨se1, tu1, ki1, ma1, re1, kf1, L1, P1⟩ := σ
            have hst0 := hst
            obtain ⟨h0, h1, h2, h3, h4, h5, h6, h7, h8, hyarn, hplans, hki⟩ := hst
            dsimp only at h0 h1 h2 h3 h4 h5 h6 h7 h8 hyarn hplans hki
            refine ks_iload_n hκ 33 3 dX4_passTurns_33 rfl ?_
            refine ks_iload_n hκ 34 1 dX4_passTurns_34 rfl ?_
            refine ks_icmp_ge hκ 35 51 dX4_passTurns_35 rfl (fun c35 => ?_) (fun c35 => ?_)
            · skip
              have c35 := (nI_leI (by omega) (by omega)).mp c35
              have hvf : vf = 0 := by omega
              subst hvf
              refine ks_iload_n hκ 51 2 dX4_passTurns_51 rfl ?_
              refine ks_iret hκ 52 hRt dX4_passTurns_52 (by decide) (by decide) rfl ?_
              have hq : kPassT (se, tu, ki, ma, re, kf, L, P) (nI vn) = (nI vm, (se1, tu1, ki1, ma1, re1, kf1, L1, P1)) := by
                unfold kPassT
                rw [if_neg c2, if_neg (Int32.not_lt.mpr c8), if_neg (Int32.not_lt.mpr c23), nI_clamp (by omega), ← hinv]
                rfl
              rw [hq]
              exact ⟨_, rfl, rfl, hst0, hF⟩
            · skip
              have c35 := mt (nI_leI (by omega) (by omega)).mpr c35
              obtain ⟨vf1, rfl⟩ : ∃ vf1, vf = vf1 + 1 := ⟨vf - 1, by omega⟩
              refine ks_iload_n hκ 38 2 dX4_passTurns_38 rfl ?_
              refine ks_aload_n hκ 39 0 dX4_passTurns_39 rfl ?_
              refine ks_intcV0 hκ 40 dX4_passTurns_40 kc_X4_116 (c_Stairs_passOneTurn hst0 ⟨by rw [show tu1 = nI (n0 + vi) from htu1]; exact fun q => absurd (congrArg Int32.toInt q) (by rw [nI_toInt (by omega)]; show ¬ _ = (-6 : Int); omega), hok1⟩ (by rw [show tu1 = nI (n0 + vi) from htu1, nI_add]; exact fun q => absurd (congrArg Int32.toInt q) (by rw [nI_toInt (by omega)]; show ¬ _ = (-6 : Int); omega))) h0 rfl (by decide) (Nat.le_of_ble_eq_true rfl) (by decide) (by decide) (fun r40 xh1 hp40 => ?_)
              obtain ⟨rfl, hst, hF9⟩ := hp40
              have hF := hF.tr hF9
              refine ks_iaddN hκ 43 dX4_passTurns_43 ?_
              refine ks_istore_n hκ 44 2 [(2, _), (0, _), (1, _), (3, _)] dX4_passTurns_44 rfl (by decide) rfl ?_
              refine ks_iinc hκ 45 3 3 (nI (vi + 1)) [(3, _), (2, _), (0, _), (1, _)] dX4_passTurns_45 rfl (ks_inc1 _) (by decide) rfl ?_
              refine ks_goto hκ 48 33 dX4_passTurns_48 rfl ?_
              refine ks_pick [2, 3, 1, 0] [(0, _), (1, _), (2, _), (3, _)] rfl ?_
              exact ks_cv (ih vf1 _ _ _ xh1 hst hF (by omega) (kTurn_ok hok1).1 (by rw [(kTurn_ok hok1).2.2.1]; show tu1 + nI 1 = _; rw [show tu1 = nI (n0 + vi) from htu1, nI_add]; rfl) hinv (by omega)) rfl rfl rfl
        refine ks_pick [2, 3, 1, 0] [(0, _), (1, _), (2, _), (3, _)] rfl ?_
        exact ks_cv (L33 _ vn 0 0 _ h hst0 hF rfl hok htu rfl (Nat.lt_succ_self _)) rfl rfl rfl
      · skip
        refine ks_bipush hκ 26 (-5) dX4_passTurns_26 kq_bm5 ?_
        refine ks_iret hκ 28 hRt dX4_passTurns_28 (by decide) (by decide) rfl ?_
        have hq : kPassT (se, tu, ki, ma, re, kf, L, P) x = (-5, (se, tu, ki, ma, re, kf, L, P)) := by
          unfold kPassT
          rw [if_neg c2, if_neg (Int32.not_lt.mpr c8), if_pos (Int32.not_le.mp c23)]
        rw [hq]
        exact ⟨_, rfl, rfl, hst0, hF⟩
    · skip
      refine ks_bipush hκ 11 (-2) dX4_passTurns_11 kq_bm2 ?_
      refine ks_iret hκ 13 hRt dX4_passTurns_13 (by decide) (by decide) rfl ?_
      have hq : kPassT (se, tu, ki, ma, re, kf, L, P) x = (-2, (se, tu, ki, ma, re, kf, L, P)) := by
        unfold kPassT
        first | rw [if_pos c2] | rw [if_neg c2, if_pos (Int32.not_le.mp c8)]
      rw [hq]
      exact ⟨_, rfl, rfl, hst0, hF⟩
set_option maxRecDepth 100000 in
set_option maxHeartbeats 4000000 in
theorem c_Stairs_addKitten {g : ks_G} {h : ks_H} {b : Nat} {se : Nat → Int32} {tu : Int32} {ki : Nat} {ma re : Int32} {kf : Nat → Nat → Int32} {L : List (Nat × Nat)} {P : List kP} {x : Int32} (hst : kStairs g h b (se, tu, ki, ma, re, kf, L, P)) : ks_Met g (yX4_addKitten, cX4_addKitten, 3, some .int) 0 0 0 [ks_ref g b, .int x] h (ks_Ph (fun r h' => r = (kAdd (se, tu, ki, ma, re, kf, L, P) x).1 ∧ kStairs g h' b (kAdd (se, tu, ki, ma, re, kf, L, P) x).2 ∧ ks_Fr h h' b (b + 16))) := by
  have hst0 := hst
  obtain ⟨h0, h1, h2, h3, h4, h5, h6, h7, h8, hyarn, hplans, hki⟩ := hst
  dsimp only at h0 h1 h2 h3 h4 h5 h6 h7 h8 hyarn hplans hki
  refine ks_intro (by decide) (Nat.le_of_ble_eq_true rfl) (fun κ hκ hRt => ?_)
  refine ks_cv (ls := [(0, ks_ref g b), (1, .int x)]) ?_ rfl rfl rfl
  have hF : ks_Fr h h b (b + 16) := ks_Fr.rf
  refine ks_iload_n hκ 0 1 dX4_addKitten_0 rfl ?_
  refine ks_if_lt hκ 1 10 dX4_addKitten_1 rfl (fun c1 => ?_) (fun c1 => ?_)
  · skip
    refine ks_iconst hκ 10 (-1) dX4_addKitten_10 kq_im1 ?_
    refine ks_iret hκ 11 hRt dX4_addKitten_11 (by decide) (by decide) rfl ?_
    have hq : kAdd (se, tu, ki, ma, re, kf, L, P) x = (-1, (se, tu, ki, ma, re, kf, L, P)) := by
      unfold kAdd
      first | rw [if_pos c1] | rw [if_neg c1, if_pos (Int32.not_lt.mp c7)]
    rw [hq]
    exact ⟨_, rfl, rfl, hst0, hF⟩
  · skip
    refine ks_iload_n hκ 4 1 dX4_addKitten_4 rfl ?_
    refine ks_bipush hκ 5 (nI 16) dX4_addKitten_5 kq_b16 ?_
    refine ks_icmp_lt hκ 7 12 dX4_addKitten_7 rfl (fun c7 => ?_) (fun c7 => ?_)
    · skip
      refine ks_aload_n hκ 12 0 dX4_addKitten_12 rfl ?_
      refine ks_get hκ 13 dX4_addKitten_13 kf_X4_19 h0 rfl ?_
      refine ks_bipush hκ 16 (nI 6) dX4_addKitten_16 kq_b6 ?_
      refine ks_icmp_lt hκ 18 24 dX4_addKitten_18 rfl (fun c18 => ?_) (fun c18 => ?_)
      · skip
        have c18 := (nI_ltI (by omega) (by omega)).mp c18
        refine ks_aload_n hκ 24 0 dX4_addKitten_24 rfl ?_
        refine ks_get hκ 25 dX4_addKitten_25 kf_X4_19 h0 rfl ?_
        refine ks_istore_n hκ 28 2 [(2, _), (0, _), (1, _)] dX4_addKitten_28 rfl (by decide) rfl ?_
        refine ks_aload_n hκ 29 1 dX4_addKitten_29 rfl ?_
        refine ks_get hκ 30 dX4_addKitten_30 kf_X4_28 h0 rfl ?_
        refine ks_iload_n hκ 33 0 dX4_addKitten_33 rfl ?_
        refine ks_iload_n hκ 34 2 dX4_addKitten_34 rfl ?_
        refine ks_iast hκ 35 (ki) dX4_addKitten_35 h2 rfl (by omega) (by decide) ?_
        refine ks_gen (fun xh1 exh1 => ?_)
        replace h0 := ks_gn exh1 (ks_nb (b := b) (i := 2) (j := 0) rfl) h0
        replace h1 := ks_gn exh1 (ks_nb (b := b) (i := 2) (j := 1) rfl) h1
        replace h2 := ks_gs exh1 h2
        replace h3 := ks_gn exh1 (ks_nb (b := b) (i := 2) (j := 3) rfl) h3
        replace h4 := ks_gn exh1 (ks_nb (b := b) (i := 2) (j := 4) rfl) h4
        replace h5 := ks_gn exh1 (ks_nb (b := b) (i := 2) (j := 5) rfl) h5
        replace h6 := ks_gn exh1 (ks_nb (b := b) (i := 2) (j := 6) rfl) h6
        replace h7 := ks_gn exh1 (ks_nb (b := b) (i := 2) (j := 7) rfl) h7
        replace h8 := ks_gn exh1 (ks_nb (b := b) (i := 2) (j := 8) rfl) h8
        replace hyarn := hyarn.fr (ks_Fr.one exh1) (by omega)
        replace hplans := hplans.fr (ks_Fr.one exh1) (by omega)
        replace hF := ks_Fr.st hF exh1 (by omega) (by omega)
        clear exh1
        refine ks_aload_n hκ 36 1 dX4_addKitten_36 rfl ?_
        refine ks_get hκ 37 dX4_addKitten_37 kf_X4_31 h0 rfl ?_
        refine ks_iload_n hκ 40 0 dX4_addKitten_40 rfl ?_
        refine ks_aload_n hκ 41 1 dX4_addKitten_41 rfl ?_
        refine ks_get hκ 42 dX4_addKitten_42 kf_X4_9 h0 rfl ?_
        refine ks_iconst hκ 45 (nI 3) dX4_addKitten_45 kq_i3 ?_
        refine ks_iald hκ 46 (3) dX4_addKitten_46 h1 rfl (by omega) (by decide) ?_
        refine ks_iast hκ 47 (ki) dX4_addKitten_47 h3 rfl (by omega) (by decide) ?_
        refine ks_gen (fun xh2 exh2 => ?_)
        replace h0 := ks_gn exh2 (ks_nb (b := b) (i := 3) (j := 0) rfl) h0
        replace h1 := ks_gn exh2 (ks_nb (b := b) (i := 3) (j := 1) rfl) h1
        replace h2 := ks_gn exh2 (ks_nb (b := b) (i := 3) (j := 2) rfl) h2
        replace h3 := ks_gs exh2 h3
        replace h4 := ks_gn exh2 (ks_nb (b := b) (i := 3) (j := 4) rfl) h4
        replace h5 := ks_gn exh2 (ks_nb (b := b) (i := 3) (j := 5) rfl) h5
        replace h6 := ks_gn exh2 (ks_nb (b := b) (i := 3) (j := 6) rfl) h6
        replace h7 := ks_gn exh2 (ks_nb (b := b) (i := 3) (j := 7) rfl) h7
        replace h8 := ks_gn exh2 (ks_nb (b := b) (i := 3) (j := 8) rfl) h8
        replace hyarn := hyarn.fr (ks_Fr.one exh2) (by omega)
        replace hplans := hplans.fr (ks_Fr.one exh2) (by omega)
        replace hF := ks_Fr.st hF exh2 (by omega) (by omega)
        clear exh2
        refine ks_aload_n hκ 48 1 dX4_addKitten_48 rfl ?_
        refine ks_get hκ 49 dX4_addKitten_49 kf_X4_34 h0 rfl ?_
        refine ks_iload_n hκ 52 0 dX4_addKitten_52 rfl ?_
        refine ks_bipush hκ 53 (-6) dX4_addKitten_53 kq_bm6 ?_
        refine ks_iast hκ 55 (ki) dX4_addKitten_55 h4 rfl (by omega) (by decide) ?_
        refine ks_gen (fun xh3 exh3 => ?_)
        replace h0 := ks_gn exh3 (ks_nb (b := b) (i := 4) (j := 0) rfl) h0
        replace h1 := ks_gn exh3 (ks_nb (b := b) (i := 4) (j := 1) rfl) h1
        replace h2 := ks_gn exh3 (ks_nb (b := b) (i := 4) (j := 2) rfl) h2
        replace h3 := ks_gn exh3 (ks_nb (b := b) (i := 4) (j := 3) rfl) h3
        replace h4 := ks_gs exh3 h4
        replace h5 := ks_gn exh3 (ks_nb (b := b) (i := 4) (j := 5) rfl) h5
        replace h6 := ks_gn exh3 (ks_nb (b := b) (i := 4) (j := 6) rfl) h6
        replace h7 := ks_gn exh3 (ks_nb (b := b) (i := 4) (j := 7) rfl) h7
        replace h8 := ks_gn exh3 (ks_nb (b := b) (i := 4) (j := 8) rfl) h8
        replace hyarn := hyarn.fr (ks_Fr.one exh3) (by omega)
        replace hplans := hplans.fr (ks_Fr.one exh3) (by omega)
        replace hF := ks_Fr.st hF exh3 (by omega) (by omega)
        clear exh3
        refine ks_aload_n hκ 56 1 dX4_addKitten_56 rfl ?_
        refine ks_get hκ 57 dX4_addKitten_57 kf_X4_37 h0 rfl ?_
        refine ks_iload_n hκ 60 0 dX4_addKitten_60 rfl ?_
        refine ks_bipush hκ 61 (nI 40) dX4_addKitten_61 kq_b40 ?_
        refine ks_iast hκ 63 (ki) dX4_addKitten_63 h5 rfl (by omega) (by decide) ?_
        refine ks_gen (fun xh4 exh4 => ?_)
        replace h0 := ks_gn exh4 (ks_nb (b := b) (i := 5) (j := 0) rfl) h0
        replace h1 := ks_gn exh4 (ks_nb (b := b) (i := 5) (j := 1) rfl) h1
        replace h2 := ks_gn exh4 (ks_nb (b := b) (i := 5) (j := 2) rfl) h2
        replace h3 := ks_gn exh4 (ks_nb (b := b) (i := 5) (j := 3) rfl) h3
        replace h4 := ks_gn exh4 (ks_nb (b := b) (i := 5) (j := 4) rfl) h4
        replace h5 := ks_gs exh4 h5
        replace h6 := ks_gn exh4 (ks_nb (b := b) (i := 5) (j := 6) rfl) h6
        replace h7 := ks_gn exh4 (ks_nb (b := b) (i := 5) (j := 7) rfl) h7
        replace h8 := ks_gn exh4 (ks_nb (b := b) (i := 5) (j := 8) rfl) h8
        replace hyarn := hyarn.fr (ks_Fr.one exh4) (by omega)
        replace hplans := hplans.fr (ks_Fr.one exh4) (by omega)
        replace hF := ks_Fr.st hF exh4 (by omega) (by omega)
        clear exh4
        refine ks_aload_n hκ 64 1 dX4_addKitten_64 rfl ?_
        refine ks_get hκ 65 dX4_addKitten_65 kf_X4_40 h0 rfl ?_
        refine ks_iload_n hκ 68 0 dX4_addKitten_68 rfl ?_
        refine ks_iconst hκ 69 (nI 0) dX4_addKitten_69 kq_i0 ?_
        refine ks_iast hκ 70 (ki) dX4_addKitten_70 h6 rfl (by omega) (by decide) ?_
        refine ks_gen (fun xh5 exh5 => ?_)
        replace h0 := ks_gn exh5 (ks_nb (b := b) (i := 6) (j := 0) rfl) h0
        replace h1 := ks_gn exh5 (ks_nb (b := b) (i := 6) (j := 1) rfl) h1
        replace h2 := ks_gn exh5 (ks_nb (b := b) (i := 6) (j := 2) rfl) h2
        replace h3 := ks_gn exh5 (ks_nb (b := b) (i := 6) (j := 3) rfl) h3
        replace h4 := ks_gn exh5 (ks_nb (b := b) (i := 6) (j := 4) rfl) h4
        replace h5 := ks_gn exh5 (ks_nb (b := b) (i := 6) (j := 5) rfl) h5
        replace h6 := ks_gs exh5 h6
        replace h7 := ks_gn exh5 (ks_nb (b := b) (i := 6) (j := 7) rfl) h7
        replace h8 := ks_gn exh5 (ks_nb (b := b) (i := 6) (j := 8) rfl) h8
        replace hyarn := hyarn.fr (ks_Fr.one exh5) (by omega)
        replace hplans := hplans.fr (ks_Fr.one exh5) (by omega)
        replace hF := ks_Fr.st hF exh5 (by omega) (by omega)
        clear exh5
        refine ks_aload_n hκ 71 1 dX4_addKitten_71 rfl ?_
        refine ks_get hκ 72 dX4_addKitten_72 kf_X4_43 h0 rfl ?_
        refine ks_iload_n hκ 75 0 dX4_addKitten_75 rfl ?_
        refine ks_iconst hκ 76 (nI 0) dX4_addKitten_76 kq_i0 ?_
        refine ks_iast hκ 77 (ki) dX4_addKitten_77 h7 rfl (by omega) (by decide) ?_
        refine ks_gen (fun xh6 exh6 => ?_)
        replace h0 := ks_gn exh6 (ks_nb (b := b) (i := 7) (j := 0) rfl) h0
        replace h1 := ks_gn exh6 (ks_nb (b := b) (i := 7) (j := 1) rfl) h1
        replace h2 := ks_gn exh6 (ks_nb (b := b) (i := 7) (j := 2) rfl) h2
        replace h3 := ks_gn exh6 (ks_nb (b := b) (i := 7) (j := 3) rfl) h3
        replace h4 := ks_gn exh6 (ks_nb (b := b) (i := 7) (j := 4) rfl) h4
        replace h5 := ks_gn exh6 (ks_nb (b := b) (i := 7) (j := 5) rfl) h5
        replace h6 := ks_gn exh6 (ks_nb (b := b) (i := 7) (j := 6) rfl) h6
        replace h7 := ks_gs exh6 h7
        replace h8 := ks_gn exh6 (ks_nb (b := b) (i := 7) (j := 8) rfl) h8
        replace hyarn := hyarn.fr (ks_Fr.one exh6) (by omega)
        replace hplans := hplans.fr (ks_Fr.one exh6) (by omega)
        replace hF := ks_Fr.st hF exh6 (by omega) (by omega)
        clear exh6
        refine ks_aload_n hκ 78 1 dX4_addKitten_78 rfl ?_
        refine ks_get hκ 79 dX4_addKitten_79 kf_X4_46 h0 rfl ?_
        refine ks_iload_n hκ 82 0 dX4_addKitten_82 rfl ?_
        refine ks_iconst hκ 83 (nI 0) dX4_addKitten_83 kq_i0 ?_
        refine ks_iast hκ 84 (ki) dX4_addKitten_84 h8 rfl (by omega) (by decide) ?_
        refine ks_gen (fun xh7 exh7 => ?_)
        replace h0 := ks_gn exh7 (ks_nb (b := b) (i := 8) (j := 0) rfl) h0
        replace h1 := ks_gn exh7 (ks_nb (b := b) (i := 8) (j := 1) rfl) h1
        replace h2 := ks_gn exh7 (ks_nb (b := b) (i := 8) (j := 2) rfl) h2
        replace h3 := ks_gn exh7 (ks_nb (b := b) (i := 8) (j := 3) rfl) h3
        replace h4 := ks_gn exh7 (ks_nb (b := b) (i := 8) (j := 4) rfl) h4
        replace h5 := ks_gn exh7 (ks_nb (b := b) (i := 8) (j := 5) rfl) h5
        replace h6 := ks_gn exh7 (ks_nb (b := b) (i := 8) (j := 6) rfl) h6
        replace h7 := ks_gn exh7 (ks_nb (b := b) (i := 8) (j := 7) rfl) h7
        replace h8 := ks_gs exh7 h8
        replace hyarn := hyarn.fr (ks_Fr.one exh7) (by omega)
        replace hplans := hplans.fr (ks_Fr.one exh7) (by omega)
        replace hF := ks_Fr.st hF exh7 (by omega) (by omega)
        clear exh7
        refine ks_aload_n hκ 85 1 dX4_addKitten_85 rfl ?_
        refine ks_dup hκ 86 dX4_addKitten_86 rfl ?_
        refine ks_get hκ 87 dX4_addKitten_87 kf_X4_19 h0 rfl ?_
        refine ks_iconst hκ 90 (nI 1) dX4_addKitten_90 kq_i1 ?_
        refine ks_iaddN hκ 91 dX4_addKitten_91 ?_
        refine ks_putS hκ 92 [_, _, _, _, _, _, _, _, _, _, _, _, _, _] dX4_addKitten_92 kf_X4_19 h0 rfl rfl (Nat.le_of_ble_eq_true rfl) rfl ?_
        refine ks_gen (fun xh8 exh8 => ?_)
        replace h0 := ks_gs exh8 h0
        replace h1 := ks_gn exh8 (ks_nb (b := b) (i := 0) (j := 1) rfl) h1
        replace h2 := ks_gn exh8 (ks_nb (b := b) (i := 0) (j := 2) rfl) h2
        replace h3 := ks_gn exh8 (ks_nb (b := b) (i := 0) (j := 3) rfl) h3
        replace h4 := ks_gn exh8 (ks_nb (b := b) (i := 0) (j := 4) rfl) h4
        replace h5 := ks_gn exh8 (ks_nb (b := b) (i := 0) (j := 5) rfl) h5
        replace h6 := ks_gn exh8 (ks_nb (b := b) (i := 0) (j := 6) rfl) h6
        replace h7 := ks_gn exh8 (ks_nb (b := b) (i := 0) (j := 7) rfl) h7
        replace h8 := ks_gn exh8 (ks_nb (b := b) (i := 0) (j := 8) rfl) h8
        replace hyarn := hyarn.fr (ks_Fr.one exh8) (by omega)
        replace hplans := hplans.fr (ks_Fr.one exh8) (by omega)
        replace hF := ks_Fr.st hF exh8 (by omega) (by omega)
        clear exh8
        refine ks_iload_n hκ 95 0 dX4_addKitten_95 rfl ?_
        refine ks_iret hκ 96 hRt dX4_addKitten_96 (by decide) (by decide) rfl ?_
        have hq : kAdd (se, tu, ki, ma, re, kf, L, P) x = (nI ki, (se, tu, ki + 1, ma, re, fun f => upd (kf f) ki (kNewV x (se 3) f), L, P)) := by
          unfold kAdd
          rw [if_neg c1, if_neg (Int32.not_le.mpr c7), if_neg (show ¬ 6 ≤ ki by omega)]
        rw [hq]
        exact ⟨_, rfl, rfl, ⟨h0, h1, h2, h3, h4, h5, h6, h7, h8, hyarn, hplans, show ki + 1 ≤ 6 by omega⟩, hF⟩
      · skip
        have c18 := mt (nI_ltI (by omega) (by omega)).mpr c18
        refine ks_bipush hκ 21 (-4) dX4_addKitten_21 kq_bm4 ?_
        refine ks_iret hκ 23 hRt dX4_addKitten_23 (by decide) (by decide) rfl ?_
        have hq : kAdd (se, tu, ki, ma, re, kf, L, P) x = (-4, (se, tu, ki, ma, re, kf, L, P)) := by
          unfold kAdd
          rw [if_neg c1, if_neg (Int32.not_le.mpr c7), if_pos (show 6 ≤ ki by omega)]
        rw [hq]
        exact ⟨_, rfl, rfl, hst0, hF⟩
    · skip
      refine ks_iconst hκ 10 (-1) dX4_addKitten_10 kq_im1 ?_
      refine ks_iret hκ 11 hRt dX4_addKitten_11 (by decide) (by decide) rfl ?_
      have hq : kAdd (se, tu, ki, ma, re, kf, L, P) x = (-1, (se, tu, ki, ma, re, kf, L, P)) := by
        unfold kAdd
        first | rw [if_pos c1] | rw [if_neg c1, if_pos (Int32.not_lt.mp c7)]
      rw [hq]
      exact ⟨_, rfl, rfl, hst0, hF⟩
set_option maxRecDepth 100000 in
set_option maxHeartbeats 4000000 in
theorem c_Stairs_changeSetting {g : ks_G} {h : ks_H} {b : Nat} {se : Nat → Int32} {tu : Int32} {ki : Nat} {ma re : Int32} {kf : Nat → Nat → Int32} {L : List (Nat × Nat)} {P : List kP} {x z : Int32} (hst : kStairs g h b (se, tu, ki, ma, re, kf, L, P)) : ks_Met g (yX4_changeSetting, cX4_changeSetting, 4, some .int) 0 0 0 [ks_ref g b, .int x, .int z] h (ks_Ph (fun r h' => r = (kChg (se, tu, ki, ma, re, kf, L, P) x z).1 ∧ kStairs g h' b (kChg (se, tu, ki, ma, re, kf, L, P) x z).2 ∧ ks_Fr h h' b (b + 16))) := by
  have hst0 := hst
  obtain ⟨h0, h1, h2, h3, h4, h5, h6, h7, h8, hyarn, hplans, hki⟩ := hst
  dsimp only at h0 h1 h2 h3 h4 h5 h6 h7 h8 hyarn hplans hki
  refine ks_intro (by decide) (Nat.le_of_ble_eq_true rfl) (fun κ hκ hRt => ?_)
  refine ks_cv (ls := [(0, ks_ref g b), (1, .int x), (2, .int z)]) ?_ rfl rfl rfl
  have hF : ks_Fr h h b (b + 16) := ks_Fr.rf
  refine ks_iload_n hκ 0 1 dX4_changeSetting_0 rfl ?_
  refine ks_if_lt hκ 1 9 dX4_changeSetting_1 rfl (fun c1 => ?_) (fun c1 => ?_)
  · skip
    refine ks_bipush hκ 9 (-2) dX4_changeSetting_9 kq_bm2 ?_
    refine ks_iret hκ 11 hRt dX4_changeSetting_11 (by decide) (by decide) rfl ?_
    have hq : kChg (se, tu, ki, ma, re, kf, L, P) x z = (-2, (se, tu, ki, ma, re, kf, L, P)) := by
      unfold kChg
      first | rw [if_pos c1] | rw [if_neg c1, if_pos (Int32.not_lt.mp c6)]
    rw [hq]
    exact ⟨_, rfl, rfl, hst0, hF⟩
  · skip
    refine ks_iload_n hκ 4 1 dX4_changeSetting_4 rfl ?_
    refine ks_iconst hκ 5 (nI 4) dX4_changeSetting_5 kq_i4 ?_
    refine ks_icmp_lt hκ 6 12 dX4_changeSetting_6 rfl (fun c6 => ?_) (fun c6 => ?_)
    · skip
      obtain ⟨vj, hvj, rfl⟩ : ∃ vj, vj < 4 ∧ x = nI vj := by
        rcases pk_ix x (n := 4) (by omega) with q | q | ⟨j, q1, q2⟩
        · exact absurd q c1
        · exact absurd q (Int32.not_le.mpr c6)
        · exact ⟨j, q1, q2⟩
      have hcl : (nI vj).toNatClampNeg = vj := nI_clamp (by omega)
      refine ks_iload_n hκ 12 2 dX4_changeSetting_12 rfl ?_
      refine ks_getst1 hκ 13 dX4_changeSetting_13 (by decide +kernel) ?_
      refine ks_iload_n hκ 16 1 dX4_changeSetting_16 rfl ?_
      refine ks_tald1 hκ 17 (vj) dX4_changeSetting_17 rfl (by omega) ?_
      refine ks_icmp_lt hκ 18 30 dX4_changeSetting_18 rfl (fun c18 => ?_) (fun c18 => ?_)
      · skip
        refine ks_bipush hκ 30 (-2) dX4_changeSetting_30 kq_bm2 ?_
        refine ks_iret hκ 32 hRt dX4_changeSetting_32 (by decide) (by decide) rfl ?_
        have hq : kChg (se, tu, ki, ma, re, kf, L, P) (nI vj) z = (-2, (se, tu, ki, ma, re, kf, L, P)) := by
          unfold kChg
          rw [if_neg c1, if_neg (Int32.not_le.mpr c6), hcl]
          first | rw [if_pos c18] | rw [if_neg c18, if_pos (Int32.not_le.mp c27)]
        rw [hq]
        exact ⟨_, rfl, rfl, hst0, hF⟩
      · skip
        refine ks_iload_n hκ 21 2 dX4_changeSetting_21 rfl ?_
        refine ks_getst2 hκ 22 dX4_changeSetting_22 (by decide +kernel) ?_
        refine ks_iload_n hκ 25 1 dX4_changeSetting_25 rfl ?_
        refine ks_tald2 hκ 26 (vj) dX4_changeSetting_26 rfl (by omega) ?_
        refine ks_icmp_le hκ 27 33 dX4_changeSetting_27 rfl (fun c27 => ?_) (fun c27 => ?_)
        · skip
          refine ks_aload_n hκ 33 0 dX4_changeSetting_33 rfl ?_
          refine ks_get hκ 34 dX4_changeSetting_34 kf_X4_9 h0 rfl ?_
          refine ks_iload_n hκ 37 1 dX4_changeSetting_37 rfl ?_
          refine ks_iald hκ 38 (vj) dX4_changeSetting_38 h1 rfl (by omega) (by decide) ?_
          refine ks_istore_n hκ 39 3 [(3, _), (0, _), (1, _), (2, _)] dX4_changeSetting_39 rfl (by decide) rfl ?_
          refine ks_aload_n hκ 40 1 dX4_changeSetting_40 rfl ?_
          refine ks_get hκ 41 dX4_changeSetting_41 kf_X4_9 h0 rfl ?_
          refine ks_iload_n hκ 44 2 dX4_changeSetting_44 rfl ?_
          refine ks_iload_n hκ 45 3 dX4_changeSetting_45 rfl ?_
          refine ks_iast hκ 46 (vj) dX4_changeSetting_46 h1 rfl (by omega) (by decide) ?_
          refine ks_gen (fun xh1 exh1 => ?_)
          replace h0 := ks_gn exh1 (ks_nb (b := b) (i := 1) (j := 0) rfl) h0
          replace h1 := ks_gs exh1 h1
          replace h2 := ks_gn exh1 (ks_nb (b := b) (i := 1) (j := 2) rfl) h2
          replace h3 := ks_gn exh1 (ks_nb (b := b) (i := 1) (j := 3) rfl) h3
          replace h4 := ks_gn exh1 (ks_nb (b := b) (i := 1) (j := 4) rfl) h4
          replace h5 := ks_gn exh1 (ks_nb (b := b) (i := 1) (j := 5) rfl) h5
          replace h6 := ks_gn exh1 (ks_nb (b := b) (i := 1) (j := 6) rfl) h6
          replace h7 := ks_gn exh1 (ks_nb (b := b) (i := 1) (j := 7) rfl) h7
          replace h8 := ks_gn exh1 (ks_nb (b := b) (i := 1) (j := 8) rfl) h8
          replace hyarn := hyarn.fr (ks_Fr.one exh1) (by omega)
          replace hplans := hplans.fr (ks_Fr.one exh1) (by omega)
          replace hF := ks_Fr.st hF exh1 (by omega) (by omega)
          clear exh1
          refine ks_iload_n hκ 47 0 dX4_changeSetting_47 rfl ?_
          refine ks_iret hκ 48 hRt dX4_changeSetting_48 (by decide) (by decide) rfl ?_
          have hq : kChg (se, tu, ki, ma, re, kf, L, P) (nI vj) z = (se vj, (upd se vj z, tu, ki, ma, re, kf, L, P)) := by
            unfold kChg
            rw [if_neg c1, if_neg (Int32.not_le.mpr c6), hcl, if_neg c18, if_neg (Int32.not_lt.mpr c27)]
          rw [hq]
          exact ⟨_, rfl, rfl, ⟨h0, h1, h2, h3, h4, h5, h6, h7, h8, hyarn, hplans, hki⟩, hF⟩
        · skip
          refine ks_bipush hκ 30 (-2) dX4_changeSetting_30 kq_bm2 ?_
          refine ks_iret hκ 32 hRt dX4_changeSetting_32 (by decide) (by decide) rfl ?_
          have hq : kChg (se, tu, ki, ma, re, kf, L, P) (nI vj) z = (-2, (se, tu, ki, ma, re, kf, L, P)) := by
            unfold kChg
            rw [if_neg c1, if_neg (Int32.not_le.mpr c6), hcl]
            first | rw [if_pos c18] | rw [if_neg c18, if_pos (Int32.not_le.mp c27)]
          rw [hq]
          exact ⟨_, rfl, rfl, hst0, hF⟩
    · skip
      refine ks_bipush hκ 9 (-2) dX4_changeSetting_9 kq_bm2 ?_
      refine ks_iret hκ 11 hRt dX4_changeSetting_11 (by decide) (by decide) rfl ?_
      have hq : kChg (se, tu, ki, ma, re, kf, L, P) x z = (-2, (se, tu, ki, ma, re, kf, L, P)) := by
        unfold kChg
        first | rw [if_pos c1] | rw [if_neg c1, if_pos (Int32.not_lt.mp c6)]
      rw [hq]
      exact ⟨_, rfl, rfl, hst0, hF⟩
