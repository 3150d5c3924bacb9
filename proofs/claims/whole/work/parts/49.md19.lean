
/-! THE MODEL: set .. pass, undo, save, restore -/
def kSlt (x : Int32) : Int32 := if x = 0 then nI 1 else if x = nI 1 then nI 1 else nI 0
theorem kSlt_1 {x : Int32} (h : ¬ kSlt x = 0) : ∃ j, j < 2 ∧ x = nI j := by
  unfold kSlt at h
  by_cases q : x = 0
  · exact ⟨0, by decide, q⟩
  · rw [if_neg q] at h
    by_cases r : x = nI 1
    · exact ⟨1, by decide, r⟩
    · rw [if_neg r] at h; exact absurd rfl h
theorem kSlt_0 {x : Int32} (h : kSlt x = 0) : x < 0 ∨ nI 2 ≤ x := by
  rcases pk_ix x (n := 2) (by decide) with a | a | ⟨j, a, b⟩
  · exact Or.inl a
  · exact Or.inr a
  · subst b
    rcases (show j = 0 ∨ j = 1 by omega) with rfl | rfl
    · exact absurd h (by decide)
    · exact absurd h (by decide)
theorem kHs.tl {f f2 : Nat → Int32} {x : kS} {H : List kS} (z : kHs f (x :: H)) (hl : (x :: H).length ≤ 6) (e : ∀ j, 340 ≤ j → f2 j = f j) : kHs f2 H := fun i y hi => by
  have h1 := (List.getElem?_eq_some_iff.mp hi).1
  have h2 := z (i + 1) y (by rw [List.getElem?_cons_succ]; exact hi)
  rw [List.length_cons, show H.length + 1 - (i + 1) = H.length - i by omega] at h2
  exact h2.move (fun n hn => e _ (by omega))
set_option maxRecDepth 100000 in
set_option maxHeartbeats 4000000 in
theorem c_Model_isValue {g : ks_G} {h : ks_H} {x z : Int32} : ks_Met g (yX7_isValue, cX7_isValue, 2, some .boolean) 1 0 0 [.int x, .int z] h (ks_Pi (kVal x z) h) := by
  refine ks_intro (by decide) (Nat.le_of_ble_eq_true rfl) (fun κ hκ hRt => ?_)
  refine ks_cv (ls := [(0, .int x), (1, .int z)]) ?_ rfl rfl rfl
  refine ks_iload_n hκ 0 0 dX7_isValue_0 rfl ?_
  rcases ks_sw x 0 3 (by decide) with hs1 | hs1 | ⟨sj1, ha1, hb1, hs1⟩
  · skip
    refine ks_tableOut hκ 1 74 dX7_isValue_1 (Or.inl hs1) rfl ?_
    refine ks_iconst hκ 74 (nI 0) dX7_isValue_74 kq_i0 ?_
    refine ks_iret hκ 75 hRt dX7_isValue_75 (by decide) (by decide) (by decide) ?_
    exact ⟨by rw [kVal_out (by first | exact Or.inl hs1 | exact Or.inr hs1)], rfl⟩
  · skip
    refine ks_tableOut hκ 1 74 dX7_isValue_1 (Or.inr hs1) rfl ?_
    refine ks_iconst hκ 74 (nI 0) dX7_isValue_74 kq_i0 ?_
    refine ks_iret hκ 75 hRt dX7_isValue_75 (by decide) (by decide) (by decide) ?_
    exact ⟨by rw [kVal_out (by first | exact Or.inl hs1 | exact Or.inr hs1)], rfl⟩
  · skip
    rcases (show sj1 = 0 ∨ sj1 = 1 ∨ sj1 = 2 ∨ sj1 = 3 by omega) with rfl | rfl | rfl | rfl
    · skip
      refine ks_top (nI 0) hs1 ?_
      refine ks_tableIn hκ 1 32 dX7_isValue_1 (off := 31) (by decide) (by decide) (by decide) rfl ?_
      refine ks_iload_n hκ 32 1 dX7_isValue_32 rfl ?_
      refine ks_i2l hκ 33 dX7_isValue_33 ?_
      refine ks_lconst hκ 34 1 dX7_isValue_34 rfl ?_
      refine ks_ldc2 hκ 35 _ dX7_isValue_35 kl_X7_118 ?_
      refine ks_pureS3 hκ 38 dX7_isValue_38 kc_X7_70 (c_Model_in) (by decide) (Nat.le_of_ble_eq_true rfl) (by decide) (by decide) ?_
      refine ks_iret hκ 41 hRt dX7_isValue_41 (by decide) (by decide) (by rw [kVal_0]; unfold kVal; split; decide; split; decide; split; decide; split <;> decide) ?_
      exact ⟨by rw [hs1, kVal_0], rfl⟩
    · skip
      refine ks_top (nI 1) hs1 ?_
      refine ks_tableIn hκ 1 42 dX7_isValue_1 (off := 41) (by decide) (by decide) (by decide) rfl ?_
      refine ks_iload_n hκ 42 1 dX7_isValue_42 rfl ?_
      refine ks_i2l hκ 43 dX7_isValue_43 ?_
      refine ks_lconst hκ 44 0 dX7_isValue_44 rfl ?_
      refine ks_ldc2 hκ 45 _ dX7_isValue_45 kl_X7_68 ?_
      refine ks_pureS3 hκ 48 dX7_isValue_48 kc_X7_70 (c_Model_in) (by decide) (Nat.le_of_ble_eq_true rfl) (by decide) (by decide) ?_
      refine ks_iret hκ 51 hRt dX7_isValue_51 (by decide) (by decide) (by rw [kVal_1]; unfold kVal; split; decide; split; decide; split; decide; split <;> decide) ?_
      exact ⟨by rw [hs1, kVal_1], rfl⟩
    · skip
      refine ks_top (nI 2) hs1 ?_
      refine ks_tableIn hκ 1 52 dX7_isValue_1 (off := 51) (by decide) (by decide) (by decide) rfl ?_
      refine ks_iload_n hκ 52 1 dX7_isValue_52 rfl ?_
      refine ks_i2l hκ 53 dX7_isValue_53 ?_
      refine ks_lconst hκ 54 1 dX7_isValue_54 rfl ?_
      refine ks_ldc2 hκ 55 _ dX7_isValue_55 kl_X7_120 ?_
      refine ks_pureS3 hκ 58 dX7_isValue_58 kc_X7_70 (c_Model_in) (by decide) (Nat.le_of_ble_eq_true rfl) (by decide) (by decide) ?_
      refine ks_iret hκ 61 hRt dX7_isValue_61 (by decide) (by decide) (by rw [kVal_2]; unfold kVal; split; decide; split; decide; split; decide; split <;> decide) ?_
      exact ⟨by rw [hs1, kVal_2], rfl⟩
    · skip
      refine ks_top (nI 3) hs1 ?_
      refine ks_tableIn hκ 1 62 dX7_isValue_1 (off := 61) (by decide) (by decide) (by decide) rfl ?_
      refine ks_iload_n hκ 62 1 dX7_isValue_62 rfl ?_
      refine ks_i2l hκ 63 dX7_isValue_63 ?_
      refine ks_ldc2 hκ 64 _ dX7_isValue_64 kl_X7_122 ?_
      refine ks_ldc2 hκ 67 _ dX7_isValue_67 kl_X7_124 ?_
      refine ks_pureS3 hκ 70 dX7_isValue_70 kc_X7_70 (c_Model_in) (by decide) (Nat.le_of_ble_eq_true rfl) (by decide) (by decide) ?_
      refine ks_iret hκ 73 hRt dX7_isValue_73 (by decide) (by decide) (by rw [kVal_3]; unfold kVal; split; decide; split; decide; split; decide; split <;> decide) ?_
      exact ⟨by rw [hs1, kVal_3], rfl⟩
set_option maxRecDepth 100000 in
set_option maxHeartbeats 4000000 in
theorem c_Model_set {g : ks_G} {h : ks_H} {m : Nat} {se : Nat → Int32} {tu : Int32} {ki : Nat} {ma re : Int32} {kf : Nat → Nat → Int32} {L : List (Nat × Nat)} {P : List kP} {H : List kS} {S : Nat → Option kS} {l : List Int32} {x z : Int32} (hmm : kMM g h m (se, tu, ki, ma, re, kf, L, P) H S l) (hset : kSetB (se, tu, ki, ma, re, kf, L, P)) : ks_Met g (yX7_set, cX7_set, 4, some .int) 3 0 0 [ks_ref g m, .int x, .int z] h (ks_Ph (fun r h' => r = (kChg (se, tu, ki, ma, re, kf, L, P) x z).1 ∧ kMM g h' m (kChg (se, tu, ki, ma, re, kf, L, P) x z).2 (kKeep (kChg (se, tu, ki, ma, re, kf, L, P) x z).1 (se, tu, ki, ma, re, kf, L, P) H) S l ∧ ks_Fr h h' m (m + 4))) := by
  obtain ⟨f, Z, T, sp, kd, on, tw, bx, hM, hS, hZ, hT, hmd, hH, hHl, hSl, hTO, hll, hch⟩ := hmm
  obtain ⟨mS, m4, m5, m6, m7, m8, m9, mK, mP, mL, mki, mLl, mPl, mLp, mPp⟩ := id hmd
  dsimp only at mS m4 m5 m6 m7 m8 m9 mK mP mL mki mLl mPl mLp mPp
  refine ks_intro (by decide) (Nat.le_of_ble_eq_true rfl) (fun κ hκ hRt => ?_)
  refine ks_cv (ls := [(0, ks_ref g m), (1, .int x), (2, .int z)]) ?_ rfl rfl rfl
  have hF : ks_Fr h h m (m + 4) := ks_Fr.rf
  refine ks_iload_n hκ 0 1 dX7_set_0 rfl ?_
  refine ks_iload_n hκ 1 2 dX7_set_1 rfl ?_
  refine ks_pureS2 hκ 2 dX7_set_2 kc_X7_126 (c_Model_isValue) (by decide) (Nat.le_of_ble_eq_true rfl) (by decide) (by decide) ?_
  refine ks_if_ne hκ 5 11 dX7_set_5 rfl (fun c5 => ?_) (fun c5 => ?_)
  · skip
    obtain ⟨vj, hvj, rfl, hq⟩ := kVal_ok (σ := (se, tu, ki, ma, re, kf, L, P)) c5
    refine ks_aload_n hκ 11 0 dX7_set_11 rfl ?_
    refine ks_voidV0 hκ 12 dX7_set_12 kc_X7_129 (c_Model_changes hM hS hH hmd hHl) hM rfl (by decide) (Nat.le_of_ble_eq_true rfl) (by decide) (by decide) (fun xh1 hp12 => ?_)
    obtain ⟨f2, hM, hS, hF9, hH2, hu2⟩ := hp12
    have hmd2 : kMd f2 0 (se, tu, ki, ma, re, kf, L, P) := hmd.move (fun n hn => hu2 _ (by omega))
    have hSl2 : kSl f2 Z S := hSl.keep (fun j _ hj => hu2 _ (by omega))
    replace hZ := hF9.at hZ (by omega)
    replace hT := hF9.at hT (by omega)
    replace hF := hF.tr (hF9.wd (by omega) (by omega))
    refine ks_aload_n hκ 15 0 dX7_set_15 rfl ?_
    refine ks_get hκ 16 dX7_set_16 kf_X7_7 hM rfl ?_
    refine ks_iload_n hκ 19 1 dX7_set_19 rfl ?_
    refine ks_iald hκ 20 (vj) dX7_set_20 hS rfl (by omega) (by decide) ?_
    refine ks_top (se vj) (by have h9 := hmd2.1 vj hvj; rw [Nat.zero_add] at h9; exact h9) ?_
    refine ks_istore_n hκ 21 3 [(3, _), (0, _), (1, _), (2, _)] dX7_set_21 rfl (by decide) rfl ?_
    refine ks_aload_n hκ 22 1 dX7_set_22 rfl ?_
    refine ks_get hκ 23 dX7_set_23 kf_X7_7 hM rfl ?_
    refine ks_iload_n hκ 26 2 dX7_set_26 rfl ?_
    refine ks_iload_n hκ 27 3 dX7_set_27 rfl ?_
    refine ks_iast hκ 28 (vj) dX7_set_28 hS rfl (by omega) (by decide) ?_
    refine ks_gen (fun xh2 exh2 => ?_)
    replace hM := ks_gn exh2 (ks_nb (b := m) (i := 1) (j := 0) rfl) hM
    replace hS := ks_gs exh2 hS
    replace hZ := ks_gn exh2 (ks_nb (b := m) (i := 1) (j := 2) rfl) hZ
    replace hT := ks_gn exh2 (ks_nb (b := m) (i := 1) (j := 3) rfl) hT
    replace hF := ks_Fr.st hF exh2 (by omega) (by omega)
    clear exh2
    refine ks_iload_n hκ 29 0 dX7_set_29 rfl ?_
    refine ks_iret hκ 30 hRt dX7_set_30 (by decide) (by decide) rfl ?_
    have hmd3 := hmd2.set (v := z) hvj
    rw [Nat.zero_add] at hmd3
    obtain ⟨vw, hvw, hvw2⟩ := hset vj hvj
    rw [hq]
    dsimp only at hvw2 ⊢
    exact ⟨_, rfl, rfl, by rw [kKeep_ok (by rw [hvw2]; exact nI_pos (by omega))]; exact ⟨_, Z, T, sp, kd, on, tw, bx, hM, hS, hZ, hT, hmd3, hH2.keep kTk6 (fun j hj => kU_n (by omega)), kTk6, hSl2.keep (fun j _ hj => kU_n (by omega)), hTO, hll, hch⟩, hF⟩
  · skip
    refine ks_bipush hκ 8 (-2) dX7_set_8 kq_bm2 ?_
    refine ks_iret hκ 10 hRt dX7_set_10 (by decide) (by decide) rfl ?_
    have hq : kChg (se, tu, ki, ma, re, kf, L, P) x z = _ := kVal_er c5
    rw [hq]
    exact ⟨_, rfl, rfl, by rw [kKeep_er (show (-2 : Int32) < 0 by decide)]; exact ⟨f, Z, T, sp, kd, on, tw, bx, hM, hS, hZ, hT, hmd, hH, hHl, hSl, hTO, hll, hch⟩, hF⟩
set_option maxRecDepth 100000 in
set_option maxHeartbeats 4000000 in
theorem c_Model_kitten {g : ks_G} {h : ks_H} {m : Nat} {se : Nat → Int32} {tu : Int32} {ki : Nat} {ma re : Int32} {kf : Nat → Nat → Int32} {L : List (Nat × Nat)} {P : List kP} {H : List kS} {S : Nat → Option kS} {l : List Int32} {x : Int32} (hmm : kMM g h m (se, tu, ki, ma, re, kf, L, P) H S l) : ks_Met g (yX7_kitten, cX7_kitten, 3, some .int) 3 0 0 [ks_ref g m, .int x] h (ks_Ph (fun r h' => r = (kAdd (se, tu, ki, ma, re, kf, L, P) x).1 ∧ kMM g h' m (kAdd (se, tu, ki, ma, re, kf, L, P) x).2 (kKeep (kAdd (se, tu, ki, ma, re, kf, L, P) x).1 (se, tu, ki, ma, re, kf, L, P) H) S l ∧ ks_Fr h h' m (m + 4))) := by
  obtain ⟨f, Z, T, sp, kd, on, tw, bx, hM, hS, hZ, hT, hmd, hH, hHl, hSl, hTO, hll, hch⟩ := hmm
  obtain ⟨mS, m4, m5, m6, m7, m8, m9, mK, mP, mL, mki, mLl, mPl, mLp, mPp⟩ := id hmd
  dsimp only at mS m4 m5 m6 m7 m8 m9 mK mP mL mki mLl mPl mLp mPp
  refine ks_intro (by decide) (Nat.le_of_ble_eq_true rfl) (fun κ hκ hRt => ?_)
  refine ks_cv (ls := [(0, ks_ref g m), (1, .int x)]) ?_ rfl rfl rfl
  have hF : ks_Fr h h m (m + 4) := ks_Fr.rf
  refine ks_aload_n hκ 0 0 dX7_kitten_0 rfl ?_
  refine ks_iload_n hκ 1 1 dX7_kitten_1 rfl ?_
  refine ks_pureV1 hκ 2 dX7_kitten_2 kc_X7_132 (c_Model_kittenError hM hS hmd) hM rfl (by decide) (Nat.le_of_ble_eq_true rfl) (by decide) (by decide) ?_
  refine ks_istore_n hκ 5 2 [(2, _), (0, _), (1, _)] dX7_kitten_5 rfl (by decide) rfl ?_
  refine ks_iload_n hκ 6 0 dX7_kitten_6 rfl ?_
  refine ks_if_eq hκ 7 12 dX7_kitten_7 rfl (fun c7 => ?_) (fun c7 => ?_)
  · skip
    obtain ⟨hq, hk6⟩ := kKitE_ok (σ := (se, tu, ki, ma, re, kf, L, P)) c7
    refine ks_aload_n hκ 12 1 dX7_kitten_12 rfl ?_
    refine ks_voidV0 hκ 13 dX7_kitten_13 kc_X7_129 (c_Model_changes hM hS hH hmd hHl) hM rfl (by decide) (Nat.le_of_ble_eq_true rfl) (by decide) (by decide) (fun xh1 hp13 => ?_)
    obtain ⟨f2, hM, hS, hF9, hH2, hu2⟩ := hp13
    have hmd2 : kMd f2 0 (se, tu, ki, ma, re, kf, L, P) := hmd.move (fun n hn => hu2 _ (by omega))
    have hSl2 : kSl f2 Z S := hSl.keep (fun j _ hj => hu2 _ (by omega))
    replace hZ := hF9.at hZ (by omega)
    replace hT := hF9.at hT (by omega)
    replace hF := hF.tr (hF9.wd (by omega) (by omega))
    refine ks_aload_n hκ 16 1 dX7_kitten_16 rfl ?_
    refine ks_iload_n hκ 17 2 dX7_kitten_17 rfl ?_
    refine ks_intcV1 hκ 18 dX7_kitten_18 kc_X7_135 (c_Model_comes hM hS hmd2 hk6) hM rfl (by decide) (Nat.le_of_ble_eq_true rfl) (by decide) (by decide) (fun r18 xh2 hp18 => ?_)
    obtain ⟨rfl, f3, hS, hF8, hmd3, hout3⟩ := hp18
    replace hM := hF8.at hM (by omega)
    replace hZ := hF8.at hZ (by omega)
    replace hT := hF8.at hT (by omega)
    replace hF := hF.tr (hF8.wd (by omega) (by omega))
    refine ks_iret hκ 21 hRt dX7_kitten_21 (by decide) (by decide) rfl ?_
    rw [hq]
    exact ⟨_, rfl, rfl, by rw [kKeep_ok (nI_pos (by omega))]; exact ⟨f3, Z, T, sp, kd, on, tw, bx, hM, hS, hZ, hT, hmd3, hH2.keep kTk6 (fun j hj => hout3 j (by omega)), kTk6, hSl2.keep (fun j _ hj => hout3 j (by omega)), hTO, hll, hch⟩, hF⟩
  · skip
    refine ks_iload_n hκ 10 0 dX7_kitten_10 rfl ?_
    refine ks_iret hκ 11 hRt dX7_kitten_11 (by decide) (by decide) rfl ?_
    obtain ⟨hq, hq2⟩ := kKitE_er c7
    rw [hq]
    exact ⟨_, rfl, rfl, by rw [kKeep_er hq2]; exact ⟨f, Z, T, sp, kd, on, tw, bx, hM, hS, hZ, hT, hmd, hH, hHl, hSl, hTO, hll, hch⟩, hF⟩
set_option maxRecDepth 100000 in
set_option maxHeartbeats 4000000 in
theorem c_Model_leap {g : ks_G} {h : ks_H} {m : Nat} {se : Nat → Int32} {tu : Int32} {ki : Nat} {ma re : Int32} {kf : Nat → Nat → Int32} {L : List (Nat × Nat)} {P : List kP} {H : List kS} {S : Nat → Option kS} {l : List Int32} {x z : Int32} (hmm : kMM g h m (se, tu, ki, ma, re, kf, L, P) H S l) (hok : kOk2 (se, tu, ki, ma, re, kf, L, P)) (hbal : kBal (se, tu, ki, ma, re, kf, L, P)) : ks_Met g (yX7_leap, cX7_leap, 4, some .int) 7 0 0 [ks_ref g m, .int x, .int z] h (ks_Ph (fun r h' => r = (kTry (se, tu, ki, ma, re, kf, L, P) x z).1 ∧ kMM g h' m (kTry (se, tu, ki, ma, re, kf, L, P) x z).2 (kKeep (kTry (se, tu, ki, ma, re, kf, L, P) x z).1 (se, tu, ki, ma, re, kf, L, P) H) S l ∧ ks_Fr h h' m (m + 4))) := by
  obtain ⟨f, Z, T, sp, kd, on, tw, bx, hM, hS, hZ, hT, hmd, hH, hHl, hSl, hTO, hll, hch⟩ := hmm
  obtain ⟨mS, m4, m5, m6, m7, m8, m9, mK, mP, mL, mki, mLl, mPl, mLp, mPp⟩ := id hmd
  dsimp only at mS m4 m5 m6 m7 m8 m9 mK mP mL mki mLl mPl mLp mPp
  refine ks_intro (by decide) (Nat.le_of_ble_eq_true rfl) (fun κ hκ hRt => ?_)
  refine ks_cv (ls := [(0, ks_ref g m), (1, .int x), (2, .int z)]) ?_ rfl rfl rfl
  have hF : ks_Fr h h m (m + 4) := ks_Fr.rf
  refine ks_aload_n hκ 0 0 dX7_leap_0 rfl ?_
  refine ks_iload_n hκ 1 1 dX7_leap_1 rfl ?_
  refine ks_iload_n hκ 2 2 dX7_leap_2 rfl ?_
  refine ks_pureV2 hκ 3 dX7_leap_3 kc_X7_138 (c_Model_leapError hM hS hmd hok) hM rfl (by decide) (Nat.le_of_ble_eq_true rfl) (by decide) (by decide) ?_
  refine ks_istore_n hκ 6 3 [(3, _), (0, _), (1, _), (2, _)] dX7_leap_6 rfl (by decide) rfl ?_
  refine ks_iload_n hκ 7 0 dX7_leap_7 rfl ?_
  refine ks_if_eq hκ 8 13 dX7_leap_8 rfl (fun c8 => ?_) (fun c8 => ?_)
  · skip
    obtain ⟨vj, vs, vt, hvj, rfl, hvs, hvt, hvs2, rfl, hr, hq⟩ := kLpE_ok (σ := (se, tu, ki, ma, re, kf, L, P)) mki hok c8
    obtain ⟨hlt9, -⟩ := kLeap_bal (σ := (se, tu, ki, ma, re, kf, L, P)) hbal mki hvj hvs hvt hvs2 hr
    refine ks_aload_n hκ 13 1 dX7_leap_13 rfl ?_
    refine ks_voidV0 hκ 14 dX7_leap_14 kc_X7_129 (c_Model_changes hM hS hH hmd hHl) hM rfl (by decide) (Nat.le_of_ble_eq_true rfl) (by decide) (by decide) (fun xh1 hp14 => ?_)
    obtain ⟨f2, hM, hS, hF9, hH2, hu2⟩ := hp14
    have hmd2 : kMd f2 0 (se, tu, ki, ma, re, kf, L, P) := hmd.move (fun n hn => hu2 _ (by omega))
    have hSl2 : kSl f2 Z S := hSl.keep (fun j _ hj => hu2 _ (by omega))
    replace hZ := hF9.at hZ (by omega)
    replace hT := hF9.at hT (by omega)
    replace hF := hF.tr (hF9.wd (by omega) (by omega))
    refine ks_aload_n hκ 17 1 dX7_leap_17 rfl ?_
    refine ks_iconst hκ 18 (nI 0) dX7_leap_18 kq_i0 ?_
    refine ks_iload_n hκ 19 2 dX7_leap_19 rfl ?_
    refine ks_iload_n hκ 20 3 dX7_leap_20 rfl ?_
    refine ks_intcV3 hκ 21 dX7_leap_21 kc_X7_93 (c_Model_leaps (b := 0) hM hS (by decide) hmd2 hvj hvs hvt hvs2 hlt9) hM rfl (by decide) (Nat.le_of_ble_eq_true rfl) (by decide) (by decide) (fun r21 xh2 hp21 => ?_)
    obtain ⟨rfl, f3, hS, hF8, hmd3, hout3⟩ := hp21
    replace hM := hF8.at hM (by omega)
    replace hZ := hF8.at hZ (by omega)
    replace hT := hF8.at hT (by omega)
    replace hF := hF.tr (hF8.wd (by omega) (by omega))
    refine ks_iret hκ 24 hRt dX7_leap_24 (by decide) (by decide) rfl ?_
    rw [hq]
    exact ⟨_, rfl, rfl, by rw [kKeep_ok (nI_pos (by omega))]; exact ⟨f3, Z, T, sp, kd, on, tw, bx, hM, hS, hZ, hT, hmd3, hH2.keep kTk6 (fun j hj => hout3 j (by omega)), kTk6, hSl2.keep (fun j _ hj => hout3 j (by omega)), hTO, hll, hch⟩, hF⟩
  · skip
    refine ks_iload_n hκ 11 0 dX7_leap_11 rfl ?_
    refine ks_iret hκ 12 hRt dX7_leap_12 (by decide) (by decide) rfl ?_
    obtain ⟨hq, hq2⟩ := kLpE_er c8
    rw [hq]
    exact ⟨_, rfl, rfl, by rw [kKeep_er hq2]; exact ⟨f, Z, T, sp, kd, on, tw, bx, hM, hS, hZ, hT, hmd, hH, hHl, hSl, hTO, hll, hch⟩, hF⟩
set_option maxRecDepth 100000 in
set_option maxHeartbeats 4000000 in
theorem c_Model_nap {g : ks_G} {h : ks_H} {m : Nat} {se : Nat → Int32} {tu : Int32} {ki : Nat} {ma re : Int32} {kf : Nat → Nat → Int32} {L : List (Nat × Nat)} {P : List kP} {H : List kS} {S : Nat → Option kS} {l : List Int32} {x : Int32} (hmm : kMM g h m (se, tu, ki, ma, re, kf, L, P) H S l) (hset : kSetB (se, tu, ki, ma, re, kf, L, P)) (htu : ∃ n : Nat, n ≤ 9999 ∧ (se, tu, ki, ma, re, kf, L, P).2.1 = nI n) : ks_Met g (yX7_nap, cX7_nap, 3, some .int) 3 0 0 [ks_ref g m, .int x] h (ks_Ph (fun r h' => r = (kNap (se, tu, ki, ma, re, kf, L, P) x).1 ∧ kMM g h' m (kNap (se, tu, ki, ma, re, kf, L, P) x).2 (kKeep (kNap (se, tu, ki, ma, re, kf, L, P) x).1 (se, tu, ki, ma, re, kf, L, P) H) S l ∧ ks_Fr h h' m (m + 4))) := by
  obtain ⟨f, Z, T, sp, kd, on, tw, bx, hM, hS, hZ, hT, hmd, hH, hHl, hSl, hTO, hll, hch⟩ := hmm
  obtain ⟨mS, m4, m5, m6, m7, m8, m9, mK, mP, mL, mki, mLl, mPl, mLp, mPp⟩ := id hmd
  dsimp only at mS m4 m5 m6 m7 m8 m9 mK mP mL mki mLl mPl mLp mPp
  refine ks_intro (by decide) (Nat.le_of_ble_eq_true rfl) (fun κ hκ hRt => ?_)
  refine ks_cv (ls := [(0, ks_ref g m), (1, .int x)]) ?_ rfl rfl rfl
  have hF : ks_Fr h h m (m + 4) := ks_Fr.rf
  refine ks_aload_n hκ 0 0 dX7_nap_0 rfl ?_
  refine ks_iload_n hκ 1 1 dX7_nap_1 rfl ?_
  refine ks_pureV1 hκ 2 dX7_nap_2 kc_X7_141 (c_Model_napError hM hS hmd) hM rfl (by decide) (Nat.le_of_ble_eq_true rfl) (by decide) (by decide) ?_
  refine ks_istore_n hκ 5 2 [(2, _), (0, _), (1, _)] dX7_nap_5 rfl (by decide) rfl ?_
  refine ks_iload_n hκ 6 0 dX7_nap_6 rfl ?_
  refine ks_if_eq hκ 7 12 dX7_nap_7 rfl (fun c7 => ?_) (fun c7 => ?_)
  · skip
    obtain ⟨vj, hvj, rfl, hq⟩ := kNapE_ok (σ := (se, tu, ki, ma, re, kf, L, P)) mki c7
    obtain ⟨vw, hvw, hvw2⟩ := hset 2 (by decide)
    obtain ⟨vu, hvu, hvu2⟩ := htu
    dsimp only at hvw2 hvu2
    refine ks_aload_n hκ 12 1 dX7_nap_12 rfl ?_
    refine ks_voidV0 hκ 13 dX7_nap_13 kc_X7_129 (c_Model_changes hM hS hH hmd hHl) hM rfl (by decide) (Nat.le_of_ble_eq_true rfl) (by decide) (by decide) (fun xh1 hp13 => ?_)
    obtain ⟨f2, hM, hS, hF9, hH2, hu2⟩ := hp13
    have hmd2 : kMd f2 0 (se, tu, ki, ma, re, kf, L, P) := hmd.move (fun n hn => hu2 _ (by omega))
    have hSl2 : kSl f2 Z S := hSl.keep (fun j _ hj => hu2 _ (by omega))
    replace hZ := hF9.at hZ (by omega)
    replace hT := hF9.at hT (by omega)
    replace hF := hF.tr (hF9.wd (by omega) (by omega))
    refine ks_aload_n hκ 16 1 dX7_nap_16 rfl ?_
    refine ks_iload_n hκ 17 2 dX7_nap_17 rfl ?_
    refine ks_intcV1 hκ 18 dX7_nap_18 kc_X7_144 (c_Model_sleeps hM hS hmd2 hvj) hM rfl (by decide) (Nat.le_of_ble_eq_true rfl) (by decide) (by decide) (fun r18 xh2 hp18 => ?_)
    obtain ⟨rfl, f3, hS, hF8, hmd3, hout3⟩ := hp18
    replace hM := hF8.at hM (by omega)
    replace hZ := hF8.at hZ (by omega)
    replace hT := hF8.at hT (by omega)
    replace hF := hF.tr (hF8.wd (by omega) (by omega))
    refine ks_iret hκ 21 hRt dX7_nap_21 (by decide) (by decide) rfl ?_
    rw [hq]
    exact ⟨_, rfl, rfl, by rw [kKeep_ok (by show ¬ tu + se 2 < 0; rw [hvu2, hvw2, nI_add]; exact nI_pos (by omega))]; exact ⟨f3, Z, T, sp, kd, on, tw, bx, hM, hS, hZ, hT, hmd3, hH2.keep kTk6 (fun j hj => hout3 j (by omega)), kTk6, hSl2.keep (fun j _ hj => hout3 j (by omega)), hTO, hll, hch⟩, hF⟩
  · skip
    refine ks_iload_n hκ 10 0 dX7_nap_10 rfl ?_
    refine ks_iret hκ 11 hRt dX7_nap_11 (by decide) (by decide) rfl ?_
    obtain ⟨hq, hq2⟩ := kNapE_er c7
    rw [hq]
    exact ⟨_, rfl, rfl, by rw [kKeep_er hq2]; exact ⟨f, Z, T, sp, kd, on, tw, bx, hM, hS, hZ, hT, hmd, hH, hHl, hSl, hTO, hll, hch⟩, hF⟩
set_option maxRecDepth 100000 in
set_option maxHeartbeats 4000000 in
theorem c_Model_snip {g : ks_G} {h : ks_H} {m : Nat} {se : Nat → Int32} {tu : Int32} {ki : Nat} {ma re : Int32} {kf : Nat → Nat → Int32} {L : List (Nat × Nat)} {P : List kP} {H : List kS} {S : Nat → Option kS} {l : List Int32} {x z : Int32} (hmm : kMM g h m (se, tu, ki, ma, re, kf, L, P) H S l) : ks_Met g (yX7_snip, cX7_snip, 4, some .int) 3 0 0 [ks_ref g m, .int x, .int z] h (ks_Ph (fun r h' => r = (kSnip (se, tu, ki, ma, re, kf, L, P) x z).1 ∧ kMM g h' m (kSnip (se, tu, ki, ma, re, kf, L, P) x z).2 (kKeep (kSnip (se, tu, ki, ma, re, kf, L, P) x z).1 (se, tu, ki, ma, re, kf, L, P) H) S l ∧ ks_Fr h h' m (m + 4))) := by
  obtain ⟨f, Z, T, sp, kd, on, tw, bx, hM, hS, hZ, hT, hmd, hH, hHl, hSl, hTO, hll, hch⟩ := hmm
  obtain ⟨mS, m4, m5, m6, m7, m8, m9, mK, mP, mL, mki, mLl, mPl, mLp, mPp⟩ := id hmd
  dsimp only at mS m4 m5 m6 m7 m8 m9 mK mP mL mki mLl mPl mLp mPp
  refine ks_intro (by decide) (Nat.le_of_ble_eq_true rfl) (fun κ hκ hRt => ?_)
  refine ks_cv (ls := [(0, ks_ref g m), (1, .int x), (2, .int z)]) ?_ rfl rfl rfl
  have hF : ks_Fr h h m (m + 4) := ks_Fr.rf
  refine ks_aload_n hκ 0 0 dX7_snip_0 rfl ?_
  refine ks_iload_n hκ 1 1 dX7_snip_1 rfl ?_
  refine ks_iload_n hκ 2 2 dX7_snip_2 rfl ?_
  refine ks_pureV2 hκ 3 dX7_snip_3 kc_X7_147 (c_Model_snipError hM hS hmd) hM rfl (by decide) (Nat.le_of_ble_eq_true rfl) (by decide) (by decide) ?_
  refine ks_istore_n hκ 6 3 [(3, _), (0, _), (1, _), (2, _)] dX7_snip_6 rfl (by decide) rfl ?_
  refine ks_iload_n hκ 7 0 dX7_snip_7 rfl ?_
  refine ks_if_eq hκ 8 13 dX7_snip_8 rfl (fun c8 => ?_) (fun c8 => ?_)
  · skip
    obtain ⟨ve, vj, hve, rfl, hvj, rfl, hq⟩ := kSnE_ok (σ := (se, tu, ki, ma, re, kf, L, P)) mki c8
    refine ks_aload_n hκ 13 1 dX7_snip_13 rfl ?_
    refine ks_voidV0 hκ 14 dX7_snip_14 kc_X7_129 (c_Model_changes hM hS hH hmd hHl) hM rfl (by decide) (Nat.le_of_ble_eq_true rfl) (by decide) (by decide) (fun xh1 hp14 => ?_)
    obtain ⟨f2, hM, hS, hF9, hH2, hu2⟩ := hp14
    have hmd2 : kMd f2 0 (se, tu, ki, ma, re, kf, L, P) := hmd.move (fun n hn => hu2 _ (by omega))
    have hSl2 : kSl f2 Z S := hSl.keep (fun j _ hj => hu2 _ (by omega))
    replace hZ := hF9.at hZ (by omega)
    replace hT := hF9.at hT (by omega)
    replace hF := hF.tr (hF9.wd (by omega) (by omega))
    refine ks_aload_n hκ 17 1 dX7_snip_17 rfl ?_
    refine ks_iload_n hκ 18 2 dX7_snip_18 rfl ?_
    refine ks_iload_n hκ 19 3 dX7_snip_19 rfl ?_
    refine ks_intcV2 hκ 20 dX7_snip_20 kc_X7_150 (c_Model_snips hM hS hmd2 hve hvj) hM rfl (by decide) (Nat.le_of_ble_eq_true rfl) (by decide) (by decide) (fun r20 xh2 hp20 => ?_)
    obtain ⟨rfl, f3, hS, hF8, hmd3, hout3⟩ := hp20
    replace hM := hF8.at hM (by omega)
    replace hZ := hF8.at hZ (by omega)
    replace hT := hF8.at hT (by omega)
    replace hF := hF.tr (hF8.wd (by omega) (by omega))
    refine ks_iret hκ 23 hRt dX7_snip_23 (by decide) (by decide) rfl ?_
    rw [hq]
    exact ⟨_, rfl, rfl, by rw [kKeep_ok (by show ¬ nI (L.length - (kCut ve vj L).length) < 0; exact nI_pos (by omega))]; exact ⟨f3, Z, T, sp, kd, on, tw, bx, hM, hS, hZ, hT, hmd3, hH2.keep kTk6 (fun j hj => hout3 j (by omega)), kTk6, hSl2.keep (fun j _ hj => hout3 j (by omega)), hTO, hll, hch⟩, hF⟩
  · skip
    refine ks_iload_n hκ 11 0 dX7_snip_11 rfl ?_
    refine ks_iret hκ 12 hRt dX7_snip_12 (by decide) (by decide) rfl ?_
    obtain ⟨hq, hq2⟩ := kSnE_er c8
    rw [hq]
    exact ⟨_, rfl, rfl, by rw [kKeep_er hq2]; exact ⟨f, Z, T, sp, kd, on, tw, bx, hM, hS, hZ, hT, hmd, hH, hHl, hSl, hTO, hll, hch⟩, hF⟩
set_option maxRecDepth 100000 in
set_option maxHeartbeats 4000000 in
theorem c_Model_plan {g : ks_G} {h : ks_H} {m : Nat} {se : Nat → Int32} {tu : Int32} {ki : Nat} {ma re : Int32} {kf : Nat → Nat → Int32} {L : List (Nat × Nat)} {P : List kP} {H : List kS} {S : Nat → Option kS} {l : List Int32} {x y z : Int32} (hmm : kMM g h m (se, tu, ki, ma, re, kf, L, P) H S l) : ks_Met g (yX7_plan, cX7_plan, 5, some .int) 3 0 0 [ks_ref g m, .int x, .int y, .int z] h (ks_Ph (fun r h' => r = (kPlan (se, tu, ki, ma, re, kf, L, P) x y z).1 ∧ kMM g h' m (kPlan (se, tu, ki, ma, re, kf, L, P) x y z).2 (kKeep (kPlan (se, tu, ki, ma, re, kf, L, P) x y z).1 (se, tu, ki, ma, re, kf, L, P) H) S l ∧ ks_Fr h h' m (m + 4))) := by
  obtain ⟨f, Z, T, sp, kd, on, tw, bx, hM, hS, hZ, hT, hmd, hH, hHl, hSl, hTO, hll, hch⟩ := hmm
  obtain ⟨mS, m4, m5, m6, m7, m8, m9, mK, mP, mL, mki, mLl, mPl, mLp, mPp⟩ := id hmd
  dsimp only at mS m4 m5 m6 m7 m8 m9 mK mP mL mki mLl mPl mLp mPp
  refine ks_intro (by decide) (Nat.le_of_ble_eq_true rfl) (fun κ hκ hRt => ?_)
  refine ks_cv (ls := [(0, ks_ref g m), (1, .int x), (2, .int y), (3, .int z)]) ?_ rfl rfl rfl
  have hF : ks_Fr h h m (m + 4) := ks_Fr.rf
  refine ks_aload_n hκ 0 0 dX7_plan_0 rfl ?_
  refine ks_iload_n hκ 1 1 dX7_plan_1 rfl ?_
  refine ks_iload_n hκ 2 2 dX7_plan_2 rfl ?_
  refine ks_iload_n hκ 3 3 dX7_plan_3 rfl ?_
  refine ks_pureV3 hκ 4 dX7_plan_4 kc_X7_153 (c_Model_planError hM hS hmd) hM rfl (by decide) (Nat.le_of_ble_eq_true rfl) (by decide) (by decide) ?_
  refine ks_istore hκ 7 4 [(4, _), (0, _), (1, _), (2, _), (3, _)] dX7_plan_7 (by decide) rfl ?_
  refine ks_iload hκ 9 0 dX7_plan_9 rfl ?_
  refine ks_if_eq hκ 11 17 dX7_plan_11 rfl (fun c11 => ?_) (fun c11 => ?_)
  · skip
    obtain ⟨vj, hvj, rfl, hPl, -, -, hq⟩ := kPlE_ok (σ := (se, tu, ki, ma, re, kf, L, P)) mki c11
    have hPl : P.length < 16 := hPl
    have hvj : vj < ki := hvj
    refine ks_aload_n hκ 17 1 dX7_plan_17 rfl ?_
    refine ks_voidV0 hκ 18 dX7_plan_18 kc_X7_129 (c_Model_changes hM hS hH hmd hHl) hM rfl (by decide) (Nat.le_of_ble_eq_true rfl) (by decide) (by decide) (fun xh1 hp18 => ?_)
    obtain ⟨f2, hM, hS, hF9, hH2, hu2⟩ := hp18
    have hmd2 : kMd f2 0 (se, tu, ki, ma, re, kf, L, P) := hmd.move (fun n hn => hu2 _ (by omega))
    have hSl2 : kSl f2 Z S := hSl.keep (fun j _ hj => hu2 _ (by omega))
    replace hZ := hF9.at hZ (by omega)
    replace hT := hF9.at hT (by omega)
    replace hF := hF.tr (hF9.wd (by omega) (by omega))
    refine ks_aload_n hκ 21 1 dX7_plan_21 rfl ?_
    refine ks_iload_n hκ 22 2 dX7_plan_22 rfl ?_
    refine ks_iload_n hκ 23 3 dX7_plan_23 rfl ?_
    refine ks_iload_n hκ 24 4 dX7_plan_24 rfl ?_
    refine ks_intcV3 hκ 25 dX7_plan_25 kc_X7_156 (c_Model_plans hM hS hmd2 (show vj < 6 by omega) hPl) hM rfl (by decide) (Nat.le_of_ble_eq_true rfl) (by decide) (by decide) (fun r25 xh2 hp25 => ?_)
    obtain ⟨rfl, f3, hS, hF8, hmd3, hout3⟩ := hp25
    replace hM := hF8.at hM (by omega)
    replace hZ := hF8.at hZ (by omega)
    replace hT := hF8.at hT (by omega)
    replace hF := hF.tr (hF8.wd (by omega) (by omega))
    refine ks_iret hκ 28 hRt dX7_plan_28 (by decide) (by decide) rfl ?_
    rw [hq]
    exact ⟨_, rfl, rfl, by rw [kKeep_ok (by show ¬ nI (P.length + 1) < 0; exact nI_pos (by omega))]; exact ⟨f3, Z, T, sp, kd, on, tw, bx, hM, hS, hZ, hT, hmd3, hH2.keep kTk6 (fun j hj => hout3 j (by omega)), kTk6, hSl2.keep (fun j _ hj => hout3 j (by omega)), hTO, hll, hch⟩, hF⟩
  · skip
    refine ks_iload hκ 14 0 dX7_plan_14 rfl ?_
    refine ks_iret hκ 16 hRt dX7_plan_16 (by decide) (by decide) rfl ?_
    obtain ⟨hq, hq2⟩ := kPlE_er c11
    rw [hq]
    exact ⟨_, rfl, rfl, by rw [kKeep_er hq2]; exact ⟨f, Z, T, sp, kd, on, tw, bx, hM, hS, hZ, hT, hmd, hH, hHl, hSl, hTO, hll, hch⟩, hF⟩
set_option maxRecDepth 100000 in
set_option maxHeartbeats 4000000 in
theorem c_Model_pass {g : ks_G} {h : ks_H} {m : Nat} {se : Nat → Int32} {tu : Int32} {ki : Nat} {ma re : Int32} {kf : Nat → Nat → Int32} {L : List (Nat × Nat)} {P : List kP} {H : List kS} {S : Nat → Option kS} {l : List Int32} {x : Int32} (hmm : kMM g h m (se, tu, ki, ma, re, kf, L, P) H S l) (hok : kOk2 (se, tu, ki, ma, re, kf, L, P)) (hbal : kBal (se, tu, ki, ma, re, kf, L, P)) : ks_Met g (yX7_pass, cX7_pass, 3, some .int) 8 0 0 [ks_ref g m, .int x] h (ks_Ph (fun r h' => r = (kPassT (se, tu, ki, ma, re, kf, L, P) x).1 ∧ kMM g h' m (kPassT (se, tu, ki, ma, re, kf, L, P) x).2 (kKeep (kPassT (se, tu, ki, ma, re, kf, L, P) x).1 (se, tu, ki, ma, re, kf, L, P) H) S l ∧ ks_Fr h h' m (m + 4))) := by
  obtain ⟨f, Z, T, sp, kd, on, tw, bx, hM, hS, hZ, hT, hmd, hH, hHl, hSl, hTO, hll, hch⟩ := hmm
  obtain ⟨mS, m4, m5, m6, m7, m8, m9, mK, mP, mL, mki, mLl, mPl, mLp, mPp⟩ := id hmd
  dsimp only at mS m4 m5 m6 m7 m8 m9 mK mP mL mki mLl mPl mLp mPp
  refine ks_intro (by decide) (Nat.le_of_ble_eq_true rfl) (fun κ hκ hRt => ?_)
  refine ks_cv (ls := [(0, ks_ref g m), (1, .int x)]) ?_ rfl rfl rfl
  have hF : ks_Fr h h m (m + 4) := ks_Fr.rf
  refine ks_aload_n hκ 0 0 dX7_pass_0 rfl ?_
  refine ks_iload_n hκ 1 1 dX7_pass_1 rfl ?_
  refine ks_pureV1 hκ 2 dX7_pass_2 kc_X7_159 (c_Model_passError hM hS hmd) hM rfl (by decide) (Nat.le_of_ble_eq_true rfl) (by decide) (by decide) ?_
  refine ks_istore_n hκ 5 2 [(2, _), (0, _), (1, _)] dX7_pass_5 rfl (by decide) rfl ?_
  refine ks_iload_n hκ 6 0 dX7_pass_6 rfl ?_
  refine ks_if_eq hκ 7 12 dX7_pass_7 rfl (fun c7 => ?_) (fun c7 => ?_)
  · skip
    obtain ⟨vn, hvn1, hvn, rfl, -, hq⟩ := kPasE_ok (σ := (se, tu, ki, ma, re, kf, L, P)) c7
    have hle := kPass_le vn (se, tu, ki, ma, re, kf, L, P) 0
    refine ks_aload_n hκ 12 1 dX7_pass_12 rfl ?_
    refine ks_voidV0 hκ 13 dX7_pass_13 kc_X7_129 (c_Model_changes hM hS hH hmd hHl) hM rfl (by decide) (Nat.le_of_ble_eq_true rfl) (by decide) (by decide) (fun xh1 hp13 => ?_)
    obtain ⟨f2, hM, hS, hF9, hH2, hu2⟩ := hp13
    have hmd2 : kMd f2 0 (se, tu, ki, ma, re, kf, L, P) := hmd.move (fun n hn => hu2 _ (by omega))
    have hSl2 : kSl f2 Z S := hSl.keep (fun j _ hj => hu2 _ (by omega))
    replace hZ := hF9.at hZ (by omega)
    replace hT := hF9.at hT (by omega)
    replace hF := hF.tr (hF9.wd (by omega) (by omega))
    refine ks_aload_n hκ 16 1 dX7_pass_16 rfl ?_
    refine ks_iconst hκ 17 (nI 0) dX7_pass_17 kq_i0 ?_
    refine ks_iload_n hκ 18 2 dX7_pass_18 rfl ?_
    refine ks_intcV2 hκ 19 dX7_pass_19 kc_X7_162 (c_Model_turns (b := 0) hM hS (by decide) hmd2 hok hbal hvn) hM rfl (by decide) (Nat.le_of_ble_eq_true rfl) (by decide) (by decide) (fun r19 xh2 hp19 => ?_)
    obtain ⟨rfl, f3, hS, hF8, hmd3, hout3⟩ := hp19
    replace hM := hF8.at hM (by omega)
    replace hZ := hF8.at hZ (by omega)
    replace hT := hF8.at hT (by omega)
    replace hF := hF.tr (hF8.wd (by omega) (by omega))
    refine ks_iret hκ 22 hRt dX7_pass_22 (by decide) (by decide) rfl ?_
    rw [hq]
    exact ⟨_, rfl, rfl, by rw [kKeep_ok (nI_pos (by omega))]; exact ⟨f3, Z, T, sp, kd, on, tw, bx, hM, hS, hZ, hT, hmd3, hH2.keep kTk6 (fun j hj => hout3 j (by omega)), kTk6, hSl2.keep (fun j _ hj => hout3 j (by omega)), hTO, hll, hch⟩, hF⟩
  · skip
    refine ks_iload_n hκ 10 0 dX7_pass_10 rfl ?_
    refine ks_iret hκ 11 hRt dX7_pass_11 (by decide) (by decide) rfl ?_
    obtain ⟨hq, hq2⟩ := kPasE_er c7
    rw [hq]
    exact ⟨_, rfl, rfl, by rw [kKeep_er hq2]; exact ⟨f, Z, T, sp, kd, on, tw, bx, hM, hS, hZ, hT, hmd, hH, hHl, hSl, hTO, hll, hch⟩, hF⟩
set_option maxRecDepth 100000 in
set_option maxHeartbeats 4000000 in
theorem c_Model_undo {g : ks_G} {h : ks_H} {m : Nat} {σ : kS} {H : List kS} {S : Nat → Option kS} {l : List Int32} (hmm : kMM g h m σ H S l) : ks_Met g (yX7_undo, cX7_undo, 1, some .int) 1 0 0 [ks_ref g m] h (ks_Ph (fun r h' => r = kUnR H ∧ kMM g h' m (kUnS σ H) H.tail S l ∧ ks_Fr h h' m (m + 4))) := by
  obtain ⟨f, Z, T, sp, kd, on, tw, bx, hM, hS, hZ, hT, hmd, hH, hHl, hSl, hTO, hll, hch⟩ := hmm
  refine ks_intro (by decide) (Nat.le_of_ble_eq_true rfl) (fun κ hκ hRt => ?_)
  refine ks_cv (ls := [(0, ks_ref g m)]) ?_ rfl rfl rfl
  have hF : ks_Fr h h m (m + 4) := ks_Fr.rf
  refine ks_aload_n hκ 0 0 dX7_undo_0 rfl ?_
  refine ks_get hκ 1 dX7_undo_1 kf_X7_20 hM rfl ?_
  refine ks_if_ne hκ 4 10 dX7_undo_4 rfl (fun c4 => ?_) (fun c4 => ?_)
  · skip
    have c4 := mt (ks_eq0 (by omega)).mpr c4
    obtain ⟨x0, H0, rfl⟩ : ∃ x0 H0, H = x0 :: H0 := by
      cases H with
      | nil => exact absurd rfl c4
      | cons x0 H0 => exact ⟨x0, H0, rfl⟩
    have hM : h[m]? = some (ks_O 7 [ks_ref g (m + 1), .int (nI (H0.length + 1)), ks_ref g (m + 2), ks_ref g (m + 3), .int (nI l.length), .int sp, .int kd, .int on, .int tw, .int bx]) := hM
    have hHl2 : H0.length + 1 ≤ 6 := hHl
    refine ks_aload_n hκ 10 0 dX7_undo_10 rfl ?_
    refine ks_aload_n hκ 11 0 dX7_undo_11 rfl ?_
    refine ks_get hκ 12 dX7_undo_12 kf_X7_20 hM rfl ?_
    refine ks_iconst hκ 15 (nI 0) dX7_undo_15 kq_i0 ?_
    refine ks_voidV2 hκ 16 dX7_undo_16 kc_X7_24 (c_Model_copies (vi := H0.length + 1) (vj := 0) hM hS (by omega) (by decide)) hM rfl (by decide) (Nat.le_of_ble_eq_true rfl) (by decide) (by decide) (fun xh1 hp16 => ?_)
    obtain ⟨f3, hS, hF9, hcp, hun⟩ := hp16
    replace hM := hF9.at hM (by omega)
    replace hZ := hF9.at hZ (by omega)
    replace hT := hF9.at hT (by omega)
    replace hF := hF.tr (hF9.wd (by omega) (by omega))
    refine ks_aload_n hκ 19 0 dX7_undo_19 rfl ?_
    refine ks_dup hκ 20 dX7_undo_20 rfl ?_
    refine ks_get hκ 21 dX7_undo_21 kf_X7_20 hM rfl ?_
    refine ks_iconst hκ 24 (nI 1) dX7_undo_24 kq_i1 ?_
    refine ks_isubN hκ 25 dX7_undo_25 (by omega) ?_
    refine ks_putS hκ 26 [_, _, _, _, _, _, _, _, _, _] dX7_undo_26 kf_X7_20 hM rfl rfl (Nat.le_of_ble_eq_true rfl) rfl ?_
    refine ks_gen (fun xh2 exh2 => ?_)
    replace hM := ks_gs exh2 hM
    replace hS := ks_gn exh2 (ks_nb (b := m) (i := 0) (j := 1) rfl) hS
    replace hZ := ks_gn exh2 (ks_nb (b := m) (i := 0) (j := 2) rfl) hZ
    replace hT := ks_gn exh2 (ks_nb (b := m) (i := 0) (j := 3) rfl) hT
    replace hF := ks_Fr.st hF exh2 (by omega) (by omega)
    clear exh2
    refine ks_aload_n hκ 29 0 dX7_undo_29 rfl ?_
    refine ks_get hκ 30 dX7_undo_30 kf_X7_20 hM rfl ?_
    refine ks_iret hκ 33 hRt dX7_undo_33 (by decide) (by decide) rfl ?_
    exact ⟨_, rfl, by rw [Nat.add_sub_cancel]; rfl, ⟨f3, Z, T, sp, kd, on, tw, bx, hM, hS, hZ, hT, (hH 0 x0 rfl).move hcp, hH.tl hHl (fun j hj => hun j (by omega)), by show H0.length ≤ 6; omega, hSl.keep (fun j _ hj => hun j (by omega)), hTO, hll, hch⟩, hF⟩
  · skip
    have c4 := (ks_eq0 (by omega)).mp c4
    have hHn := List.eq_nil_of_length_eq_zero c4
    subst hHn
    refine ks_bipush hκ 7 (-5) dX7_undo_7 kq_bm5 ?_
    refine ks_iret hκ 9 hRt dX7_undo_9 (by decide) (by decide) rfl ?_
    exact ⟨_, rfl, rfl, ⟨f, Z, T, sp, kd, on, tw, bx, hM, hS, hZ, hT, hmd, hH, hHl, hSl, hTO, hll, hch⟩, hF⟩
set_option maxRecDepth 100000 in
set_option maxHeartbeats 4000000 in
theorem c_Model_isSlot {g : ks_G} {h : ks_H} {x : Int32} : ks_Met g (yX7_isSlot, cX7_isSlot, 1, some .boolean) 0 0 0 [.int x] h (ks_Pi (kSlt x) h) := by
  refine ks_intro (by decide) (Nat.le_of_ble_eq_true rfl) (fun κ hκ hRt => ?_)
  refine ks_cv (ls := [(0, .int x)]) ?_ rfl rfl rfl
  refine ks_iload_n hκ 0 0 dX7_isSlot_0 rfl ?_
  refine ks_if_eq hκ 1 9 dX7_isSlot_1 rfl (fun c1 => ?_) (fun c1 => ?_)
  · skip
    refine ks_iconst hκ 9 (nI 1) dX7_isSlot_9 kq_i1 ?_
    refine ks_goto hκ 10 14 dX7_isSlot_10 rfl ?_
    refine ks_iret hκ 14 hRt dX7_isSlot_14 (by decide) (by decide) (by decide) ?_
    refine ⟨?_, rfl⟩
    unfold kSlt
    first | rw [if_pos c1] | rw [if_neg c1, if_pos c6] | rw [if_neg c1, if_neg c6]
  · skip
    refine ks_iload_n hκ 4 0 dX7_isSlot_4 rfl ?_
    refine ks_iconst hκ 5 (nI 1) dX7_isSlot_5 kq_i1 ?_
    refine ks_icmp_ne hκ 6 13 dX7_isSlot_6 rfl (fun c6 => ?_) (fun c6 => ?_)
    · skip
      refine ks_iconst hκ 13 (nI 0) dX7_isSlot_13 kq_i0 ?_
      refine ks_iret hκ 14 hRt dX7_isSlot_14 (by decide) (by decide) (by decide) ?_
      refine ⟨?_, rfl⟩
      unfold kSlt
      first | rw [if_pos c1] | rw [if_neg c1, if_pos c6] | rw [if_neg c1, if_neg c6]
    · skip
      refine ks_iconst hκ 9 (nI 1) dX7_isSlot_9 kq_i1 ?_
      refine ks_goto hκ 10 14 dX7_isSlot_10 rfl ?_
      refine ks_iret hκ 14 hRt dX7_isSlot_14 (by decide) (by decide) (by decide) ?_
      refine ⟨?_, rfl⟩
      unfold kSlt
      first | rw [if_pos c1] | rw [if_neg c1, if_pos c6] | rw [if_neg c1, if_neg c6]
set_option maxRecDepth 100000 in
set_option maxHeartbeats 4000000 in
theorem c_Model_save {g : ks_G} {h : ks_H} {m : Nat} {σ : kS} {H : List kS} {S : Nat → Option kS} {l : List Int32} {x : Int32} (hmm : kMM g h m σ H S l) : ks_Met g (yX7_save, cX7_save, 2, some .int) 1 0 0 [ks_ref g m, .int x] h (ks_Ph (fun r h' => r = (kSav σ S x).1 ∧ kMM g h' m σ H (kSav σ S x).2 l ∧ ks_Fr h h' m (m + 4))) := by
  obtain ⟨f, Z, T, sp, kd, on, tw, bx, hM, hS, hZ, hT, hmd, hH, hHl, hSl, hTO, hll, hch⟩ := hmm
  refine ks_intro (by decide) (Nat.le_of_ble_eq_true rfl) (fun κ hκ hRt => ?_)
  refine ks_cv (ls := [(0, ks_ref g m), (1, .int x)]) ?_ rfl rfl rfl
  have hF : ks_Fr h h m (m + 4) := ks_Fr.rf
  refine ks_iload_n hκ 0 1 dX7_save_0 rfl ?_
  refine ks_pureS1 hκ 1 dX7_save_1 kc_X7_261 (c_Model_isSlot) (by decide) (Nat.le_of_ble_eq_true rfl) (by decide) (by decide) ?_
  refine ks_if_ne hκ 4 10 dX7_save_4 rfl (fun c4 => ?_) (fun c4 => ?_)
  · skip
    obtain ⟨vj, hvj, rfl⟩ := kSlt_1 c4
    refine ks_aload_n hκ 10 0 dX7_save_10 rfl ?_
    refine ks_iconst hκ 11 (nI 0) dX7_save_11 kq_i0 ?_
    refine ks_bipush hκ 12 (nI 7) dX7_save_12 kq_b7 ?_
    refine ks_iload_n hκ 14 1 dX7_save_14 rfl ?_
    refine ks_iaddN hκ 15 dX7_save_15 ?_
    refine ks_voidV2 hκ 16 dX7_save_16 kc_X7_24 (c_Model_copies (vi := 0) (vj := 7 + vj) hM hS (by decide) (by omega)) hM rfl (by decide) (Nat.le_of_ble_eq_true rfl) (by decide) (by decide) (fun xh1 hp16 => ?_)
    obtain ⟨f3, hS, hF9, hcp, hun⟩ := hp16
    replace hM := hF9.at hM (by omega)
    replace hZ := hF9.at hZ (by omega)
    replace hT := hF9.at hT (by omega)
    replace hF := hF.tr (hF9.wd (by omega) (by omega))
    refine ks_aload_n hκ 19 0 dX7_save_19 rfl ?_
    refine ks_get hκ 20 dX7_save_20 kf_X7_13 hM rfl ?_
    refine ks_iload_n hκ 23 1 dX7_save_23 rfl ?_
    refine ks_iconst hκ 24 (nI 1) dX7_save_24 kq_i1 ?_
    refine ks_zast hκ 25 (vj) dX7_save_25 hZ rfl (by omega) (by decide) (by decide) ?_
    refine ks_gen (fun xh2 exh2 => ?_)
    replace hM := ks_gn exh2 (ks_nb (b := m) (i := 2) (j := 0) rfl) hM
    replace hS := ks_gn exh2 (ks_nb (b := m) (i := 2) (j := 1) rfl) hS
    replace hZ := ks_gs exh2 hZ
    replace hT := ks_gn exh2 (ks_nb (b := m) (i := 2) (j := 3) rfl) hT
    replace hF := ks_Fr.st hF exh2 (by omega) (by omega)
    clear exh2
    refine ks_aload_n hκ 26 0 dX7_save_26 rfl ?_
    refine ks_get hκ 27 dX7_save_27 kf_X7_7 hM rfl ?_
    refine ks_iconst hκ 30 (nI 5) dX7_save_30 kq_i5 ?_
    refine ks_iald hκ 31 (5) dX7_save_31 hS rfl (by omega) (by decide) ?_
    refine ks_top (nI σ.2.2.1) ((hun 5 (by omega)).trans hmd.2.2.1) ?_
    refine ks_iret hκ 32 hRt dX7_save_32 (by decide) (by decide) rfl ?_
    have hq : kSav σ S (nI vj) = (nI σ.2.2.1, fun s => if s = vj then some σ else S s) := by
      unfold kSav
      rw [if_neg (nI_pos (by omega)), if_neg (fun q => by have := (nI_leI (by decide) (by omega)).mp q; omega), nI_clamp (by omega)]
    rw [hq]
    refine ⟨_, rfl, rfl, ⟨f3, _, T, sp, kd, on, tw, bx, hM, hS, hZ, hT, hmd.move (fun n hn => hun _ (by omega)), fun i y hi => (hH i y hi).move (fun n hn => hun _ (by have := (List.getElem?_eq_some_iff.mp hi).1; omega)), hHl, fun s hs => ?_, hTO, hll, hch⟩, hF⟩
    by_cases q : s = vj
    · subst q
      exact Or.inr ⟨σ, if_pos rfl, kU_s, hmd.move (fun n hn => by rw [hcp n hn])⟩
    · rcases hSl s hs with ⟨a1, a2⟩ | ⟨y, a1, a2, a3⟩
      · exact Or.inl ⟨(if_neg q).trans a1, (kU_n q).trans a2⟩
      · exact Or.inr ⟨y, (if_neg q).trans a1, (kU_n q).trans a2, a3.move (fun n hn => hun _ (by omega))⟩
  · skip
    refine ks_bipush hκ 7 (-2) dX7_save_7 kq_bm2 ?_
    refine ks_iret hκ 9 hRt dX7_save_9 (by decide) (by decide) rfl ?_
    have hq : kSav σ S x = (-2, S) := by
      unfold kSav
      rcases kSlt_0 c4 with q | q
      · rw [if_pos q]
      · by_cases q2 : x < 0
        · rw [if_pos q2]
        · rw [if_neg q2, if_pos q]
    rw [hq]
    exact ⟨_, rfl, rfl, ⟨f, Z, T, sp, kd, on, tw, bx, hM, hS, hZ, hT, hmd, hH, hHl, hSl, hTO, hll, hch⟩, hF⟩
set_option maxRecDepth 100000 in
set_option maxHeartbeats 4000000 in
theorem c_Model_restore {g : ks_G} {h : ks_H} {m : Nat} {σ : kS} {H : List kS} {S : Nat → Option kS} {l : List Int32} {x : Int32} (hmm : kMM g h m σ H S l) : ks_Met g (yX7_restore, cX7_restore, 2, some .int) 2 0 0 [ks_ref g m, .int x] h (ks_Ph (fun r h' => r = (kRst σ H S x).1 ∧ kMM g h' m (kRst σ H S x).2.1 (kRst σ H S x).2.2 S l ∧ ks_Fr h h' m (m + 4))) := by
  obtain ⟨f, Z, T, sp, kd, on, tw, bx, hM, hS, hZ, hT, hmd, hH, hHl, hSl, hTO, hll, hch⟩ := hmm
  refine ks_intro (by decide) (Nat.le_of_ble_eq_true rfl) (fun κ hκ hRt => ?_)
  refine ks_cv (ls := [(0, ks_ref g m), (1, .int x)]) ?_ rfl rfl rfl
  have hF : ks_Fr h h m (m + 4) := ks_Fr.rf
  refine ks_iload_n hκ 0 1 dX7_restore_0 rfl ?_
  refine ks_pureS1 hκ 1 dX7_restore_1 kc_X7_261 (c_Model_isSlot) (by decide) (Nat.le_of_ble_eq_true rfl) (by decide) (by decide) ?_
  refine ks_if_ne hκ 4 10 dX7_restore_4 rfl (fun c4 => ?_) (fun c4 => ?_)
  · skip
    obtain ⟨vj, hvj, rfl⟩ := kSlt_1 c4
    have hq0 : kRst σ H S (nI vj) = match S vj with | none => (-5, σ, H) | some y => (nI y.2.2.1, y, kKeep (nI y.2.2.1) σ H) := by
      unfold kRst
      rw [if_neg (nI_pos (by omega)), if_neg (fun q => by have := (nI_leI (by decide) (by omega)).mp q; omega), nI_clamp (by omega)]
      rfl
    have hslj := hSl vj hvj
    refine ks_aload_n hκ 10 0 dX7_restore_10 rfl ?_
    refine ks_get hκ 11 dX7_restore_11 kf_X7_13 hM rfl ?_
    refine ks_iload_n hκ 14 1 dX7_restore_14 rfl ?_
    refine ks_zald hκ 15 (vj) dX7_restore_15 hZ rfl (by omega) (by decide) ?_
    refine ks_if_ne hκ 16 22 dX7_restore_16 rfl (fun c16 => ?_) (fun c16 => ?_)
    · skip
      obtain ⟨y, a1, a2, a3⟩ := hslj.resolve_left (fun q => c16 q.2)
      refine ks_aload_n hκ 22 0 dX7_restore_22 rfl ?_
      refine ks_voidV0 hκ 23 dX7_restore_23 kc_X7_129 (c_Model_changes hM hS hH hmd hHl) hM rfl (by decide) (Nat.le_of_ble_eq_true rfl) (by decide) (by decide) (fun xh1 hp23 => ?_)
      obtain ⟨f2, hM, hS, hF9, hH2, hu2⟩ := hp23
      have hmd2 : kMd f2 0 σ := hmd.move (fun n hn => hu2 _ (by omega))
      have hSl2 : kSl f2 Z S := hSl.keep (fun j _ hj => hu2 _ (by omega))
      replace hZ := hF9.at hZ (by omega)
      replace hT := hF9.at hT (by omega)
      replace hF := hF.tr (hF9.wd (by omega) (by omega))
      refine ks_aload_n hκ 26 0 dX7_restore_26 rfl ?_
      refine ks_bipush hκ 27 (nI 7) dX7_restore_27 kq_b7 ?_
      refine ks_iload_n hκ 29 1 dX7_restore_29 rfl ?_
      refine ks_iaddN hκ 30 dX7_restore_30 ?_
      refine ks_iconst hκ 31 (nI 0) dX7_restore_31 kq_i0 ?_
      have ha4 : kMd f2 (340 * (7 + vj)) y := a3.move (fun n hn => hu2 _ (by omega))
      refine ks_voidV2 hκ 32 dX7_restore_32 kc_X7_24 (c_Model_copies (vi := 7 + vj) (vj := 0) hM hS (by omega) (by decide)) hM rfl (by decide) (Nat.le_of_ble_eq_true rfl) (by decide) (by decide) (fun xh2 hp32 => ?_)
      obtain ⟨f3, hS, hF8, hcp, hun⟩ := hp32
      have hmd3 : kMd f3 0 y := ha4.move hcp
      replace hM := hF8.at hM (by omega)
      replace hZ := hF8.at hZ (by omega)
      replace hT := hF8.at hT (by omega)
      replace hF := hF.tr (hF8.wd (by omega) (by omega))
      refine ks_aload_n hκ 35 0 dX7_restore_35 rfl ?_
      refine ks_get hκ 36 dX7_restore_36 kf_X7_7 hM rfl ?_
      refine ks_iconst hκ 39 (nI 5) dX7_restore_39 kq_i5 ?_
      refine ks_iald hκ 40 (5) dX7_restore_40 hS rfl (by omega) (by decide) ?_
      refine ks_top (nI y.2.2.1) (hmd3.2.2.1) ?_
      refine ks_iret hκ 41 hRt dX7_restore_41 (by decide) (by decide) rfl ?_
      have hki6 : y.2.2.1 ≤ 6 := hmd3.2.2.2.2.2.2.2.2.2.2.1
      rw [hq0, a1]
      dsimp only
      rw [kKeep_ok (nI_pos (by omega))]
      exact ⟨_, rfl, rfl, ⟨f3, Z, T, sp, kd, on, tw, bx, hM, hS, hZ, hT, hmd3, hH2.keep kTk6 (fun j hj => hun j (by omega)), kTk6, hSl2.keep (fun j _ hj => hun j (by omega)), hTO, hll, hch⟩, hF⟩
    · skip
      have hq : kRst σ H S (nI vj) = (-5, σ, H) := by
        rcases hslj with ⟨a1, a2⟩ | ⟨y, a1, a2, a3⟩
        · rw [hq0, a1]
        · rw [a2] at c16; exact absurd c16 (by decide)
      refine ks_bipush hκ 19 (-5) dX7_restore_19 kq_bm5 ?_
      refine ks_iret hκ 21 hRt dX7_restore_21 (by decide) (by decide) rfl ?_
      rw [hq]
      exact ⟨_, rfl, rfl, ⟨f, Z, T, sp, kd, on, tw, bx, hM, hS, hZ, hT, hmd, hH, hHl, hSl, hTO, hll, hch⟩, hF⟩
  · skip
    refine ks_bipush hκ 7 (-2) dX7_restore_7 kq_bm2 ?_
    refine ks_iret hκ 9 hRt dX7_restore_9 (by decide) (by decide) rfl ?_
    have hq : kRst σ H S x = (-2, σ, H) := by
      unfold kRst
      rcases kSlt_0 c4 with q | q
      · rw [if_pos q]
      · by_cases q2 : x < 0
        · rw [if_pos q2]
        · rw [if_neg q2, if_pos q]
    rw [hq]
    exact ⟨_, rfl, rfl, ⟨f, Z, T, sp, kd, on, tw, bx, hM, hS, hZ, hT, hmd, hH, hHl, hSl, hTO, hll, hch⟩, hF⟩
