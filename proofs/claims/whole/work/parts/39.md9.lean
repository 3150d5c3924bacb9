
/-! THE MODEL: what a change would answer -/
theorem kIn_S {x : Int32} : kIn x.toInt64 0 15 = if x < 0 then nI 0 else if nI 16 ≤ x then nI 0 else nI 1 := by
  rw [kIn_32]
  have h16 : (nI 16).toInt = 16 := by decide
  have h0 : (0 : Int32).toInt = 0 := by decide
  have a0 : (0 : Int64).toInt = 0 := by decide
  have a1 : (15 : Int64).toInt = 15 := by decide
  simp only [Int32.lt_iff_toInt_lt, Int32.le_iff_toInt_le, h16, h0, a0, a1]
  by_cases q : x.toInt < 0
  · rw [if_pos q, if_pos q]
  · rw [if_neg q, if_neg q]
    by_cases r : x.toInt ≤ 15
    · rw [if_pos r, if_neg (by omega)]
    · rw [if_neg r, if_pos (by omega)]
theorem kIn_T {x : Int32} : kIn x.toInt64 1 99 = if x < nI 1 then nI 0 else if nI 99 < x then nI 0 else nI 1 := by
  rw [kIn_32]
  have h1 : (nI 1).toInt = 1 := by decide
  have h0 : (nI 99).toInt = 99 := by decide
  have a0 : (1 : Int64).toInt = 1 := by decide
  have a1 : (99 : Int64).toInt = 99 := by decide
  simp only [Int32.lt_iff_toInt_lt, h1, h0, a0, a1]
  by_cases q : x.toInt < 1
  · rw [if_pos q, if_pos q]
  · rw [if_neg q, if_neg q]
    by_cases r : x.toInt ≤ 99
    · rw [if_pos r, if_neg (by omega)]
    · rw [if_neg r, if_pos (by omega)]
def kKitE (σ : kS) (x : Int32) : Int32 := if x < 0 then -1 else if nI 16 ≤ x then -1 else if 6 ≤ σ.2.2.1 then -4 else nI 0
def kPasE (σ : kS) (x : Int32) : Int32 := if x < nI 1 then -2 else if nI 99 < x then -2 else if nI 9999 < σ.2.1 + x then -5 else nI 0
def kNapE (σ : kS) (x : Int32) : Int32 := if kHas σ.2.2.1 x = 0 then -1 else if ¬ kNaps σ.2.2.2.2.2.1 x.toNatClampNeg = 0 then -5 else nI 0
set_option maxRecDepth 100000 in
set_option maxHeartbeats 4000000 in
theorem c_Model_kittenError {g : ks_G} {h : ks_H} {m : Nat} {fs : List Value} {f : Nat → Int32} {se : Nat → Int32} {tu : Int32} {ki : Nat} {ma re : Int32} {kf : Nat → Nat → Int32} {L : List (Nat × Nat)} {P : List kP} {x : Int32} (hM : h[m]? = some (ks_O 7 (ks_ref g (m + 1) :: fs))) (hS : h[m + 1]? = some (ks_I g 3400 f)) (hmd : kMd f 0 (se, tu, ki, ma, re, kf, L, P)) : ks_Met g (yX7_kittenError, cX7_kittenError, 2, some .int) 1 0 0 [ks_ref g m, .int x] h (ks_Pi (kKitE (se, tu, ki, ma, re, kf, L, P) x) h) := by
  obtain ⟨mS, m4, m5, m6, m7, m8, m9, mK, mP, mL, mki, mLl, mPl, mLp, mPp⟩ := id hmd
  dsimp only at mS m4 m5 m6 m7 m8 m9 mK mP mL mki mLl mPl mLp mPp
  refine ks_intro (by decide) (Nat.le_of_ble_eq_true rfl) (fun κ hκ hRt => ?_)
  refine ks_cv (ls := [(0, ks_ref g m), (1, .int x)]) ?_ rfl rfl rfl
  refine ks_iload_n hκ 0 1 dX7_kittenError_0 rfl ?_
  refine ks_i2l hκ 1 dX7_kittenError_1 ?_
  refine ks_lconst hκ 2 0 dX7_kittenError_2 rfl ?_
  refine ks_ldc2 hκ 3 _ dX7_kittenError_3 kl_X7_68 ?_
  refine ks_pureS3 hκ 6 dX7_kittenError_6 kc_X7_70 (c_Model_in) (by decide) (Nat.le_of_ble_eq_true rfl) (by decide) (by decide) ?_
  refine ks_if_ne hκ 9 16 dX7_kittenError_9 rfl (fun c9 => ?_) (fun c9 => ?_)
  · skip
    rw [kIn_S] at c9
    refine ks_aload_n hκ 16 0 dX7_kittenError_16 rfl ?_
    refine ks_get hκ 17 dX7_kittenError_17 kf_X7_7 hM rfl ?_
    refine ks_iconst hκ 20 (nI 5) dX7_kittenError_20 kq_i5 ?_
    refine ks_iald hκ 21 (5) dX7_kittenError_21 hS rfl (by omega) (by decide) ?_
    refine ks_top (nI ki) m5 ?_
    refine ks_bipush hκ 22 (nI 6) dX7_kittenError_22 kq_b6 ?_
    refine ks_icmp_ne hκ 24 32 dX7_kittenError_24 rfl (fun c24 => ?_) (fun c24 => ?_)
    · skip
      have c24 := mt (nI_eq (by omega) (by omega)).mpr c24
      refine ks_iconst hκ 32 (nI 0) dX7_kittenError_32 kq_i0 ?_
      refine ks_iret hκ 33 hRt dX7_kittenError_33 (by decide) (by decide) rfl ?_
      refine ⟨?_, rfl⟩
      unfold kKitE
      by_cases q1 : x < 0
      · first | (rw [if_pos q1] at c9; exact absurd rfl c9) | rw [if_pos q1]
      · rw [if_neg q1] at c9 ⊢
        by_cases q2 : nI 16 ≤ x
        · first | (rw [if_pos q2] at c9; exact absurd rfl c9) | rw [if_pos q2]
        · rw [if_neg q2] at c9 ⊢
          first
          | exact absurd c9 (by decide)
          | (rw [if_pos (show 6 ≤ ki by omega)])
          | (rw [if_neg (show ¬ 6 ≤ ki by omega)])
    · skip
      have c24 := (nI_eq (by omega) (by omega)).mp c24
      refine ks_bipush hκ 27 (-4) dX7_kittenError_27 kq_bm4 ?_
      refine ks_goto hκ 29 33 dX7_kittenError_29 rfl ?_
      refine ks_iret hκ 33 hRt dX7_kittenError_33 (by decide) (by decide) rfl ?_
      refine ⟨?_, rfl⟩
      unfold kKitE
      by_cases q1 : x < 0
      · first | (rw [if_pos q1] at c9; exact absurd rfl c9) | rw [if_pos q1]
      · rw [if_neg q1] at c9 ⊢
        by_cases q2 : nI 16 ≤ x
        · first | (rw [if_pos q2] at c9; exact absurd rfl c9) | rw [if_pos q2]
        · rw [if_neg q2] at c9 ⊢
          first
          | exact absurd c9 (by decide)
          | (rw [if_pos (show 6 ≤ ki by omega)])
          | (rw [if_neg (show ¬ 6 ≤ ki by omega)])
  · skip
    rw [kIn_S] at c9
    refine ks_iconst hκ 12 (-1) dX7_kittenError_12 kq_im1 ?_
    refine ks_goto hκ 13 33 dX7_kittenError_13 rfl ?_
    refine ks_iret hκ 33 hRt dX7_kittenError_33 (by decide) (by decide) rfl ?_
    refine ⟨?_, rfl⟩
    unfold kKitE
    by_cases q1 : x < 0
    · first | (rw [if_pos q1] at c9; exact absurd rfl c9) | rw [if_pos q1]
    · rw [if_neg q1] at c9 ⊢
      by_cases q2 : nI 16 ≤ x
      · first | (rw [if_pos q2] at c9; exact absurd rfl c9) | rw [if_pos q2]
      · rw [if_neg q2] at c9 ⊢
        first
        | exact absurd c9 (by decide)
        | (rw [if_pos (show 6 ≤ ki by omega)])
        | (rw [if_neg (show ¬ 6 ≤ ki by omega)])
set_option maxRecDepth 100000 in
set_option maxHeartbeats 4000000 in
theorem c_Model_passError {g : ks_G} {h : ks_H} {m : Nat} {fs : List Value} {f : Nat → Int32} {se : Nat → Int32} {tu : Int32} {ki : Nat} {ma re : Int32} {kf : Nat → Nat → Int32} {L : List (Nat × Nat)} {P : List kP} {x : Int32} (hM : h[m]? = some (ks_O 7 (ks_ref g (m + 1) :: fs))) (hS : h[m + 1]? = some (ks_I g 3400 f)) (hmd : kMd f 0 (se, tu, ki, ma, re, kf, L, P)) : ks_Met g (yX7_passError, cX7_passError, 2, some .int) 1 0 0 [ks_ref g m, .int x] h (ks_Pi (kPasE (se, tu, ki, ma, re, kf, L, P) x) h) := by
  obtain ⟨mS, m4, m5, m6, m7, m8, m9, mK, mP, mL, mki, mLl, mPl, mLp, mPp⟩ := id hmd
  dsimp only at mS m4 m5 m6 m7 m8 m9 mK mP mL mki mLl mPl mLp mPp
  refine ks_intro (by decide) (Nat.le_of_ble_eq_true rfl) (fun κ hκ hRt => ?_)
  refine ks_cv (ls := [(0, ks_ref g m), (1, .int x)]) ?_ rfl rfl rfl
  refine ks_iload_n hκ 0 1 dX7_passError_0 rfl ?_
  refine ks_i2l hκ 1 dX7_passError_1 ?_
  refine ks_lconst hκ 2 1 dX7_passError_2 rfl ?_
  refine ks_ldc2 hκ 3 _ dX7_passError_3 kl_X7_116 ?_
  refine ks_pureS3 hκ 6 dX7_passError_6 kc_X7_70 (c_Model_in) (by decide) (Nat.le_of_ble_eq_true rfl) (by decide) (by decide) ?_
  refine ks_if_ne hκ 9 17 dX7_passError_9 rfl (fun c9 => ?_) (fun c9 => ?_)
  · skip
    rw [kIn_T] at c9
    refine ks_aload_n hκ 17 0 dX7_passError_17 rfl ?_
    refine ks_get hκ 18 dX7_passError_18 kf_X7_7 hM rfl ?_
    refine ks_iconst hκ 21 (nI 4) dX7_passError_21 kq_i4 ?_
    refine ks_iald hκ 22 (4) dX7_passError_22 hS rfl (by omega) (by decide) ?_
    refine ks_top (tu) (m4) ?_
    refine ks_iload_n hκ 23 1 dX7_passError_23 rfl ?_
    refine ks_iadd hκ 24 dX7_passError_24 ?_
    refine ks_sipush hκ 25 (nI 9999) dX7_passError_25 kq_s9999 ?_
    refine ks_icmp_le hκ 28 36 dX7_passError_28 rfl (fun c28 => ?_) (fun c28 => ?_)
    · skip
      refine ks_iconst hκ 36 (nI 0) dX7_passError_36 kq_i0 ?_
      refine ks_iret hκ 37 hRt dX7_passError_37 (by decide) (by decide) rfl ?_
      refine ⟨?_, rfl⟩
      unfold kPasE
      by_cases q1 : x < nI 1
      · first | (rw [if_pos q1] at c9; exact absurd rfl c9) | rw [if_pos q1]
      · rw [if_neg q1] at c9 ⊢
        by_cases q2 : nI 99 < x
        · first | (rw [if_pos q2] at c9; exact absurd rfl c9) | rw [if_pos q2]
        · rw [if_neg q2] at c9 ⊢
          first
          | exact absurd c9 (by decide)
          | (rw [if_neg (Int32.not_lt.mpr c28)])
          | (rw [if_pos (Int32.not_le.mp c28)])
    · skip
      refine ks_bipush hκ 31 (-5) dX7_passError_31 kq_bm5 ?_
      refine ks_goto hκ 33 37 dX7_passError_33 rfl ?_
      refine ks_iret hκ 37 hRt dX7_passError_37 (by decide) (by decide) rfl ?_
      refine ⟨?_, rfl⟩
      unfold kPasE
      by_cases q1 : x < nI 1
      · first | (rw [if_pos q1] at c9; exact absurd rfl c9) | rw [if_pos q1]
      · rw [if_neg q1] at c9 ⊢
        by_cases q2 : nI 99 < x
        · first | (rw [if_pos q2] at c9; exact absurd rfl c9) | rw [if_pos q2]
        · rw [if_neg q2] at c9 ⊢
          first
          | exact absurd c9 (by decide)
          | (rw [if_neg (Int32.not_lt.mpr c28)])
          | (rw [if_pos (Int32.not_le.mp c28)])
  · skip
    rw [kIn_T] at c9
    refine ks_bipush hκ 12 (-2) dX7_passError_12 kq_bm2 ?_
    refine ks_goto hκ 14 37 dX7_passError_14 rfl ?_
    refine ks_iret hκ 37 hRt dX7_passError_37 (by decide) (by decide) rfl ?_
    refine ⟨?_, rfl⟩
    unfold kPasE
    by_cases q1 : x < nI 1
    · first | (rw [if_pos q1] at c9; exact absurd rfl c9) | rw [if_pos q1]
    · rw [if_neg q1] at c9 ⊢
      by_cases q2 : nI 99 < x
      · first | (rw [if_pos q2] at c9; exact absurd rfl c9) | rw [if_pos q2]
      · rw [if_neg q2] at c9 ⊢
        first
        | exact absurd c9 (by decide)
        | (rw [if_neg (Int32.not_lt.mpr c28)])
        | (rw [if_pos (Int32.not_le.mp c28)])
set_option maxRecDepth 100000 in
set_option maxHeartbeats 4000000 in
theorem c_Model_napError {g : ks_G} {h : ks_H} {m : Nat} {fs : List Value} {f : Nat → Int32} {se : Nat → Int32} {tu : Int32} {ki : Nat} {ma re : Int32} {kf : Nat → Nat → Int32} {L : List (Nat × Nat)} {P : List kP} {x : Int32} (hM : h[m]? = some (ks_O 7 (ks_ref g (m + 1) :: fs))) (hS : h[m + 1]? = some (ks_I g 3400 f)) (hmd : kMd f 0 (se, tu, ki, ma, re, kf, L, P)) : ks_Met g (yX7_napError, cX7_napError, 2, some .int) 2 0 0 [ks_ref g m, .int x] h (ks_Pi (kNapE (se, tu, ki, ma, re, kf, L, P) x) h) := by
  obtain ⟨mS, m4, m5, m6, m7, m8, m9, mK, mP, mL, mki, mLl, mPl, mLp, mPp⟩ := id hmd
  dsimp only at mS m4 m5 m6 m7 m8 m9 mK mP mL mki mLl mPl mLp mPp
  refine ks_intro (by decide) (Nat.le_of_ble_eq_true rfl) (fun κ hκ hRt => ?_)
  refine ks_cv (ls := [(0, ks_ref g m), (1, .int x)]) ?_ rfl rfl rfl
  refine ks_aload_n hκ 0 0 dX7_napError_0 rfl ?_
  refine ks_iload_n hκ 1 1 dX7_napError_1 rfl ?_
  refine ks_pureV1 hκ 2 dX7_napError_2 kc_X7_103 (c_Model_isKitten hM hS hmd) hM rfl (by decide) (Nat.le_of_ble_eq_true rfl) (by decide) (by decide) ?_
  refine ks_if_ne hκ 5 12 dX7_napError_5 rfl (fun c5 => ?_) (fun c5 => ?_)
  · skip
    obtain ⟨vj, hvj, rfl⟩ := kHas_1 c5 mki
    refine ks_aload_n hκ 12 0 dX7_napError_12 rfl ?_
    refine ks_iconst hκ 13 (nI 0) dX7_napError_13 kq_i0 ?_
    refine ks_iload_n hκ 14 1 dX7_napError_14 rfl ?_
    refine ks_pureV2 hκ 15 dX7_napError_15 kc_X7_64 (c_Model_naps (b := 0) hM hS (by decide) hmd hvj) hM rfl (by decide) (Nat.le_of_ble_eq_true rfl) (by decide) (by decide) ?_
    refine ks_if_eq hκ 18 26 dX7_napError_18 rfl (fun c18 => ?_) (fun c18 => ?_)
    · skip
      refine ks_iconst hκ 26 (nI 0) dX7_napError_26 kq_i0 ?_
      refine ks_iret hκ 27 hRt dX7_napError_27 (by decide) (by decide) rfl ?_
      refine ⟨?_, rfl⟩
      unfold kNapE
      first
        | rw [if_pos c5]
        | (rw [if_neg c5, nI_clamp (by omega)]; first | rw [if_pos c18] | rw [if_neg (fun q => q c18)])
    · skip
      refine ks_bipush hκ 21 (-5) dX7_napError_21 kq_bm5 ?_
      refine ks_goto hκ 23 27 dX7_napError_23 rfl ?_
      refine ks_iret hκ 27 hRt dX7_napError_27 (by decide) (by decide) rfl ?_
      refine ⟨?_, rfl⟩
      unfold kNapE
      first
        | rw [if_pos c5]
        | (rw [if_neg c5, nI_clamp (by omega)]; first | rw [if_pos c18] | rw [if_neg (fun q => q c18)])
  · skip
    refine ks_iconst hκ 8 (-1) dX7_napError_8 kq_im1 ?_
    refine ks_goto hκ 9 27 dX7_napError_9 rfl ?_
    refine ks_iret hκ 27 hRt dX7_napError_27 (by decide) (by decide) rfl ?_
    refine ⟨?_, rfl⟩
    unfold kNapE
    first
      | rw [if_pos c5]
      | (rw [if_neg c5, nI_clamp (by omega)]; first | rw [if_pos c18] | rw [if_neg (fun q => q c18)])
