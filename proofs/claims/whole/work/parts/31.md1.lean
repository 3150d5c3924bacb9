
/-! THE MODEL: its rows, and what is read off them -/
/-- the rows from b hold a state -/
def kMd (f : Nat → Int32) (b : Nat) (σ : kS) : Prop :=
  (∀ j, j < 4 → f (b + j) = σ.1 j) ∧ f (b + 4) = σ.2.1 ∧ f (b + 5) = nI σ.2.2.1 ∧ f (b + 6) = σ.2.2.2.1 ∧ f (b + 7) = σ.2.2.2.2.1 ∧ f (b + 8) = nI σ.2.2.2.2.2.2.1.length ∧ f (b + 9) = nI σ.2.2.2.2.2.2.2.length ∧
  (∀ k c, k < σ.2.2.1 → c < 7 → f (b + 10 + 7 * k + c) = σ.2.2.2.2.2.1 c k) ∧
  (∀ (r : Nat) (t : Int32) (k : Nat) (y : Int32), σ.2.2.2.2.2.2.2[r]? = some (t, k, y) → f (b + 52 + 3 * r) = t ∧ f (b + 52 + 3 * r + 1) = nI k ∧ f (b + 52 + 3 * r + 2) = y) ∧
  (∀ (i e w : Nat), σ.2.2.2.2.2.2.1[i]? = some (e, w) → f (b + 100 + i) = nI (16 * w + e)) ∧
  σ.2.2.1 ≤ 6 ∧ σ.2.2.2.2.2.2.1.length ≤ 240 ∧ σ.2.2.2.2.2.2.2.length ≤ 16 ∧ (∀ p ∈ σ.2.2.2.2.2.2.1, p.1 < 15 ∧ p.2 < 6) ∧ ∀ p ∈ σ.2.2.2.2.2.2.2, p.2.1 < 6
def kIn (x y z : Int64) : Int32 := if x < y then nI 0 else if x ≤ z then nI 1 else nI 0
theorem kIn_32 {x : Int32} {a b : Int64} : kIn x.toInt64 a b = if x.toInt < a.toInt then nI 0 else if x.toInt ≤ b.toInt then nI 1 else nI 0 := by
  unfold kIn
  simp only [Int64.lt_iff_toInt_lt, Int64.le_iff_toInt_le, Int32.toInt_toInt64]
theorem kIn_E {x : Int32} : kIn x.toInt64 0 14 = kIsE x := by
  rw [kIn_32]
  unfold kIsE
  have h15 : (nI 15).toInt = 15 := by decide
  have h0 : (0 : Int32).toInt = 0 := by decide
  have a0 : (0 : Int64).toInt = 0 := by decide
  have a1 : (14 : Int64).toInt = 14 := by decide
  simp only [Int32.lt_iff_toInt_lt, Int32.le_iff_toInt_le, h15, h0, a0, a1]
  by_cases q : x.toInt < 0
  · rw [if_pos q, if_pos q]
  · rw [if_neg q, if_neg q]
    by_cases r : x.toInt ≤ 14
    · rw [if_pos r, if_neg (by omega)]
    · rw [if_neg r, if_pos (by omega)]
theorem kIn_L {x : Int32} (hx : ¬ x = 0) : kIn x.toInt64 (-15) 15 = kIsL x := by
  rw [kIn_32]
  unfold kIsL
  have h15 : (nI 15).toInt = 15 := by decide
  have hm : (-15 : Int32).toInt = -15 := by decide
  have a0 : (-15 : Int64).toInt = -15 := by decide
  have a1 : (15 : Int64).toInt = 15 := by decide
  simp only [Int32.lt_iff_toInt_lt, h15, hm, a0, a1]
  by_cases q : x.toInt < -15
  · rw [if_pos q, if_pos q]
  · rw [if_neg q, if_neg q]
    by_cases r : x.toInt ≤ 15
    · rw [if_pos r, if_neg (by omega), if_neg hx]
    · rw [if_neg r, if_pos (by omega)]
def kSz (x : Int32) : Int32 := if 0 ≤ x then x else 0 - x
set_option maxRecDepth 100000 in
set_option maxHeartbeats 4000000 in
theorem c_Model_in {g : ks_G} {h : ks_H} {x y z : Int64} : ks_Met g (yX7_in, cX7_in, 6, some .boolean) 0 0 0 [.long x, .long y, .long z] h (ks_Pi (kIn x y z) h) := by
  refine ks_intro (by decide) (Nat.le_of_ble_eq_true rfl) (fun κ hκ hRt => ?_)
  refine ks_cv (ls := [(0, .long x), (2, .long y), (4, .long z)]) ?_ rfl rfl rfl
  refine ks_lload_n hκ 0 0 dX7_in_0 rfl ?_
  refine ks_lload_n hκ 1 1 dX7_in_1 rfl ?_
  refine ks_lcmp hκ 2 dX7_in_2 ?_
  refine ks_if_lt hκ 3 17 dX7_in_3 rfl (fun c3 => ?_) (fun c3 => ?_)
  · skip
    have c3 := (lg_cmp_lt _ _).mp c3
    refine ks_iconst hκ 17 (nI 0) dX7_in_17 kq_i0 ?_
    refine ks_iret hκ 18 hRt dX7_in_18 (by decide) (by decide) (by decide) ?_
    refine ⟨?_, rfl⟩
    unfold kIn
    first | rw [if_pos c3] | rw [if_neg c3, if_pos c10] | rw [if_neg c3, if_neg c10]
  · skip
    have c3 := mt (lg_cmp_lt _ _).mpr c3
    refine ks_lload_n hκ 6 0 dX7_in_6 rfl ?_
    refine ks_lload hκ 7 2 dX7_in_7 rfl ?_
    refine ks_lcmp hκ 9 dX7_in_9 ?_
    refine ks_if_gt hκ 10 17 dX7_in_10 rfl (fun c10 => ?_) (fun c10 => ?_)
    · skip
      have c10 : ¬ x ≤ z := fun q => absurd ((lg_cmp_le _ _).mpr q) (Int32.not_le.mpr c10)
      refine ks_iconst hκ 17 (nI 0) dX7_in_17 kq_i0 ?_
      refine ks_iret hκ 18 hRt dX7_in_18 (by decide) (by decide) (by decide) ?_
      refine ⟨?_, rfl⟩
      unfold kIn
      first | rw [if_pos c3] | rw [if_neg c3, if_pos c10] | rw [if_neg c3, if_neg c10]
    · skip
      have c10 : x ≤ z := (lg_cmp_le _ _).mp (Int32.not_lt.mp c10)
      refine ks_iconst hκ 13 (nI 1) dX7_in_13 kq_i1 ?_
      refine ks_goto hκ 14 18 dX7_in_14 rfl ?_
      refine ks_iret hκ 18 hRt dX7_in_18 (by decide) (by decide) (by decide) ?_
      refine ⟨?_, rfl⟩
      unfold kIn
      first | rw [if_pos c3] | rw [if_neg c3, if_pos c10] | rw [if_neg c3, if_neg c10]
set_option maxRecDepth 100000 in
set_option maxHeartbeats 4000000 in
theorem c_Model_size {g : ks_G} {h : ks_H} {x : Int32} : ks_Met g (yX7_size, cX7_size, 1, some .int) 0 0 0 [.int x] h (ks_Pi (kSz x) h) := by
  refine ks_intro (by decide) (Nat.le_of_ble_eq_true rfl) (fun κ hκ hRt => ?_)
  refine ks_cv (ls := [(0, .int x)]) ?_ rfl rfl rfl
  refine ks_iload_n hκ 0 0 dX7_size_0 rfl ?_
  refine ks_if_ge hκ 1 9 dX7_size_1 rfl (fun c1 => ?_) (fun c1 => ?_)
  · skip
    refine ks_iload_n hκ 9 0 dX7_size_9 rfl ?_
    refine ks_iret hκ 10 hRt dX7_size_10 (by decide) (by decide) rfl ?_
    refine ⟨?_, rfl⟩
    unfold kSz
    first | rw [if_pos c1] | rw [if_neg c1]
  · skip
    refine ks_iload_n hκ 4 0 dX7_size_4 rfl ?_
    refine ks_ineg hκ 5 dX7_size_5 ?_
    refine ks_goto hκ 6 10 dX7_size_6 rfl ?_
    refine ks_iret hκ 10 hRt dX7_size_10 (by decide) (by decide) rfl ?_
    refine ⟨?_, rfl⟩
    unfold kSz
    first | rw [if_pos c1] | rw [if_neg c1]
set_option maxRecDepth 100000 in
set_option maxHeartbeats 4000000 in
theorem c_Model_kittenAt {g : ks_G} {h : ks_H} {b k : Nat} : ks_Met g (yX7_kittenAt, cX7_kittenAt, 2, some .int) 0 0 0 [.int (nI b), .int (nI k)] h (ks_Pi (nI (b + 10 + 7 * k)) h) := by
  refine ks_intro (by decide) (Nat.le_of_ble_eq_true rfl) (fun κ hκ hRt => ?_)
  refine ks_cv (ls := [(0, .int (nI b)), (1, .int (nI k))]) ?_ rfl rfl rfl
  refine ks_iload_n hκ 0 0 dX7_kittenAt_0 rfl ?_
  refine ks_bipush hκ 1 (nI 10) dX7_kittenAt_1 kq_b10 ?_
  refine ks_iaddN hκ 3 dX7_kittenAt_3 ?_
  refine ks_bipush hκ 4 (nI 7) dX7_kittenAt_4 kq_b7 ?_
  refine ks_iload_n hκ 6 1 dX7_kittenAt_6 rfl ?_
  refine ks_imulN hκ 7 dX7_kittenAt_7 ?_
  refine ks_iaddN hκ 8 dX7_kittenAt_8 ?_
  refine ks_iret hκ 9 hRt dX7_kittenAt_9 (by decide) (by decide) rfl ?_
  exact ⟨rfl, rfl⟩
set_option maxRecDepth 100000 in
set_option maxHeartbeats 4000000 in
theorem c_Model_planAt {g : ks_G} {h : ks_H} {b k : Nat} : ks_Met g (yX7_planAt, cX7_planAt, 2, some .int) 0 0 0 [.int (nI b), .int (nI k)] h (ks_Pi (nI (b + 52 + 3 * k)) h) := by
  refine ks_intro (by decide) (Nat.le_of_ble_eq_true rfl) (fun κ hκ hRt => ?_)
  refine ks_cv (ls := [(0, .int (nI b)), (1, .int (nI k))]) ?_ rfl rfl rfl
  refine ks_iload_n hκ 0 0 dX7_planAt_0 rfl ?_
  refine ks_bipush hκ 1 (nI 52) dX7_planAt_1 kq_b52 ?_
  refine ks_iaddN hκ 3 dX7_planAt_3 ?_
  refine ks_iconst hκ 4 (nI 3) dX7_planAt_4 kq_i3 ?_
  refine ks_iload_n hκ 5 1 dX7_planAt_5 rfl ?_
  refine ks_imulN hκ 6 dX7_planAt_6 ?_
  refine ks_iaddN hκ 7 dX7_planAt_7 ?_
  refine ks_iret hκ 8 hRt dX7_planAt_8 (by decide) (by decide) rfl ?_
  exact ⟨rfl, rfl⟩
set_option maxRecDepth 100000 in
set_option maxHeartbeats 4000000 in
theorem c_Model_cost {g : ks_G} {h : ks_H} {x : Int32} : ks_Met g (yX7_cost, cX7_cost, 1, some .int) 0 0 0 [.int x] h (ks_Pi (kCost x) h) := by
  refine ks_intro (by decide) (Nat.le_of_ble_eq_true rfl) (fun κ hκ hRt => ?_)
  refine ks_cv (ls := [(0, .int x)]) ?_ rfl rfl rfl
  refine ks_iload_n hκ 0 0 dX7_cost_0 rfl ?_
  refine ks_if_le hκ 1 10 dX7_cost_1 rfl (fun c1 => ?_) (fun c1 => ?_)
  · skip
    refine ks_iload_n hκ 10 0 dX7_cost_10 rfl ?_
    refine ks_ineg hκ 11 dX7_cost_11 ?_
    refine ks_iret hκ 12 hRt dX7_cost_12 (by decide) (by decide) rfl ?_
    refine ⟨?_, rfl⟩
    unfold kCost
    first | rw [if_pos c1] | (rw [if_pos c1]; simp) | rw [if_neg c1]
  · skip
    refine ks_iconst hκ 4 (nI 2) dX7_cost_4 kq_i2 ?_
    refine ks_iload_n hκ 5 0 dX7_cost_5 rfl ?_
    refine ks_imul hκ 6 dX7_cost_6 ?_
    refine ks_goto hκ 7 12 dX7_cost_7 rfl ?_
    refine ks_iret hκ 12 hRt dX7_cost_12 (by decide) (by decide) rfl ?_
    refine ⟨?_, rfl⟩
    unfold kCost
    first | rw [if_pos c1] | (rw [if_pos c1]; simp) | rw [if_neg c1]
set_option maxRecDepth 100000 in
set_option maxHeartbeats 4000000 in
theorem c_Model_isEdge {g : ks_G} {h : ks_H} {x : Int32} : ks_Met g (yX7_isEdge, cX7_isEdge, 1, some .boolean) 1 0 0 [.int x] h (ks_Pi (kIsE x) h) := by
  refine ks_intro (by decide) (Nat.le_of_ble_eq_true rfl) (fun κ hκ hRt => ?_)
  refine ks_cv (ls := [(0, .int x)]) ?_ rfl rfl rfl
  refine ks_iload_n hκ 0 0 dX7_isEdge_0 rfl ?_
  refine ks_i2l hκ 1 dX7_isEdge_1 ?_
  refine ks_lconst hκ 2 0 dX7_isEdge_2 rfl ?_
  refine ks_ldc2 hκ 3 _ dX7_isEdge_3 kl_X7_99 ?_
  refine ks_pureS3 hκ 6 dX7_isEdge_6 kc_X7_70 (c_Model_in) (by decide) (Nat.le_of_ble_eq_true rfl) (by decide) (by decide) ?_
  refine ks_iret hκ 9 hRt dX7_isEdge_9 (by decide) (by decide) (by rw [kIn_E]; unfold kIsE; split; decide; split <;> decide) ?_
  exact ⟨by rw [kIn_E], rfl⟩
set_option maxRecDepth 100000 in
set_option maxHeartbeats 4000000 in
theorem c_Model_areSteps {g : ks_G} {h : ks_H} {x : Int32} : ks_Met g (yX7_areSteps, cX7_areSteps, 1, some .boolean) 1 0 0 [.int x] h (ks_Pi (kIsL x) h) := by
  refine ks_intro (by decide) (Nat.le_of_ble_eq_true rfl) (fun κ hκ hRt => ?_)
  refine ks_cv (ls := [(0, .int x)]) ?_ rfl rfl rfl
  refine ks_iload_n hκ 0 0 dX7_areSteps_0 rfl ?_
  refine ks_if_eq hκ 1 22 dX7_areSteps_1 rfl (fun c1 => ?_) (fun c1 => ?_)
  · skip
    have hq : kIsL x = nI 0 := by rw [c1]; decide
    refine ks_iconst hκ 22 (nI 0) dX7_areSteps_22 kq_i0 ?_
    refine ks_iret hκ 23 hRt dX7_areSteps_23 (by decide) (by decide) (by decide) ?_
    exact ⟨by rw [hq], rfl⟩
  · skip
    refine ks_iload_n hκ 4 0 dX7_areSteps_4 rfl ?_
    refine ks_i2l hκ 5 dX7_areSteps_5 ?_
    refine ks_ldc2 hκ 6 _ dX7_areSteps_6 kl_X7_101 ?_
    refine ks_ldc2 hκ 9 _ dX7_areSteps_9 kl_X7_68 ?_
    refine ks_pureS3 hκ 12 dX7_areSteps_12 kc_X7_70 (c_Model_in) (by decide) (Nat.le_of_ble_eq_true rfl) (by decide) (by decide) ?_
    refine ks_if_eq hκ 15 22 dX7_areSteps_15 rfl (fun c15 => ?_) (fun c15 => ?_)
    · skip
      rw [kIn_L c1] at c15
      have hq : kIsL x = nI 0 := c15
      refine ks_iconst hκ 22 (nI 0) dX7_areSteps_22 kq_i0 ?_
      refine ks_iret hκ 23 hRt dX7_areSteps_23 (by decide) (by decide) (by decide) ?_
      exact ⟨by rw [hq], rfl⟩
    · skip
      rw [kIn_L c1] at c15
      have hq : kIsL x = nI 1 := by unfold kIsL at c15 ⊢; split <;> rename_i q1; { rw [if_pos q1] at c15; exact absurd rfl c15 }; { rw [if_neg q1] at c15; split <;> rename_i q2; { rw [if_pos q2] at c15; exact absurd rfl c15 }; { first | rfl | rw [if_neg c1] } }
      refine ks_iconst hκ 18 (nI 1) dX7_areSteps_18 kq_i1 ?_
      refine ks_goto hκ 19 23 dX7_areSteps_19 rfl ?_
      refine ks_iret hκ 23 hRt dX7_areSteps_23 (by decide) (by decide) (by decide) ?_
      exact ⟨by rw [hq], rfl⟩
set_option maxRecDepth 100000 in
set_option maxHeartbeats 4000000 in
theorem c_Model_naps {g : ks_G} {h : ks_H} {m b : Nat} {fs : List Value} {f : Nat → Int32} {se : Nat → Int32} {tu : Int32} {ki : Nat} {ma re : Int32} {kf : Nat → Nat → Int32} {L : List (Nat × Nat)} {P : List kP} {k : Nat} (hM : h[m]? = some (ks_O 7 (ks_ref g (m + 1) :: fs))) (hS : h[m + 1]? = some (ks_I g 3400 f)) (hb : b + 340 ≤ 3400) (hmd : kMd f b (se, tu, ki, ma, re, kf, L, P)) (hk : k < ki) : ks_Met g (yX7_naps, cX7_naps, 3, some .boolean) 1 0 0 [ks_ref g m, .int (nI b), .int (nI k)] h (ks_Pi (kNaps kf k) h) := by
  obtain ⟨mS, m4, m5, m6, m7, m8, m9, mK, mP, mL, mki, mLl, mPl, mLp, mPp⟩ := id hmd
  dsimp only at mS m4 m5 m6 m7 m8 m9 mK mP mL mki mLl mPl mLp mPp
  refine ks_intro (by decide) (Nat.le_of_ble_eq_true rfl) (fun κ hκ hRt => ?_)
  refine ks_cv (ls := [(0, ks_ref g m), (1, .int (nI b)), (2, .int (nI k))]) ?_ rfl rfl rfl
  refine ks_aload_n hκ 0 0 dX7_naps_0 rfl ?_
  refine ks_get hκ 1 dX7_naps_1 kf_X7_7 hM rfl ?_
  refine ks_iload_n hκ 4 1 dX7_naps_4 rfl ?_
  refine ks_iload_n hκ 5 2 dX7_naps_5 rfl ?_
  refine ks_pureS2 hκ 6 dX7_naps_6 kc_X7_28 (c_Model_kittenAt) (by decide) (Nat.le_of_ble_eq_true rfl) (by decide) (by decide) ?_
  refine ks_iconst hκ 9 (nI 2) dX7_naps_9 kq_i2 ?_
  refine ks_iaddN hκ 10 dX7_naps_10 ?_
  refine ks_iald hκ 11 (((b + 10 + 7 * k) + 2)) dX7_naps_11 hS rfl (by omega) (by decide) ?_
  refine ks_bipush hκ 12 (-6) dX7_naps_12 kq_bm6 ?_
  refine ks_icmp_eq hκ 14 21 dX7_naps_14 rfl (fun c14 => ?_) (fun c14 => ?_)
  · skip
    refine ks_iconst hκ 21 (nI 0) dX7_naps_21 kq_i0 ?_
    refine ks_iret hκ 22 hRt dX7_naps_22 (by decide) (by decide) (by decide) ?_
    refine ⟨?_, rfl⟩
    unfold kNaps
    rw [mK k 2 hk (by decide)] at c14
    first | rw [if_pos c14] | rw [if_neg c14]
  · skip
    refine ks_iconst hκ 17 (nI 1) dX7_naps_17 kq_i1 ?_
    refine ks_goto hκ 18 22 dX7_naps_18 rfl ?_
    refine ks_iret hκ 22 hRt dX7_naps_22 (by decide) (by decide) (by decide) ?_
    refine ⟨?_, rfl⟩
    unfold kNaps
    rw [mK k 2 hk (by decide)] at c14
    first | rw [if_pos c14] | rw [if_neg c14]
set_option maxRecDepth 100000 in
set_option maxHeartbeats 4000000 in
theorem c_Model_ownerAt {g : ks_G} {h : ks_H} {m b : Nat} {fs : List Value} {f : Nat → Int32} {se : Nat → Int32} {tu : Int32} {ki : Nat} {ma re : Int32} {kf : Nat → Nat → Int32} {L : List (Nat × Nat)} {P : List kP} {i e p1 p2 : Nat} (hM : h[m]? = some (ks_O 7 (ks_ref g (m + 1) :: fs))) (hS : h[m + 1]? = some (ks_I g 3400 f)) (hb : b + 340 ≤ 3400) (hmd : kMd f b (se, tu, ki, ma, re, kf, L, P)) (hi : L[i]? = some (p1, p2)) (he : e < 15) : ks_Met g (yX7_ownerAt, cX7_ownerAt, 5, some .int) 0 0 0 [ks_ref g m, .int (nI b), .int (nI i), .int (nI e)] h (ks_Pi (if p1 = e then nI p2 else -6) h) := by
  obtain ⟨mS, m4, m5, m6, m7, m8, m9, mK, mP, mL, mki, mLl, mPl, mLp, mPp⟩ := id hmd
  dsimp only at mS m4 m5 m6 m7 m8 m9 mK mP mL mki mLl mPl mLp mPp
  have hil := (List.getElem?_eq_some_iff.mp hi).1
  obtain ⟨hp1, hp2⟩ := mLp (p1, p2) (List.mem_of_getElem? hi)
  dsimp only at hp1 hp2
  have hrow := mL i p1 p2 hi
  refine ks_intro (by decide) (Nat.le_of_ble_eq_true rfl) (fun κ hκ hRt => ?_)
  refine ks_cv (ls := [(0, ks_ref g m), (1, .int (nI b)), (2, .int (nI i)), (3, .int (nI e))]) ?_ rfl rfl rfl
  refine ks_aload_n hκ 0 0 dX7_ownerAt_0 rfl ?_
  refine ks_get hκ 1 dX7_ownerAt_1 kf_X7_7 hM rfl ?_
  refine ks_iload_n hκ 4 1 dX7_ownerAt_4 rfl ?_
  refine ks_bipush hκ 5 (nI 100) dX7_ownerAt_5 kq_b100 ?_
  refine ks_iaddN hκ 7 dX7_ownerAt_7 ?_
  refine ks_iload_n hκ 8 2 dX7_ownerAt_8 rfl ?_
  refine ks_iaddN hκ 9 dX7_ownerAt_9 ?_
  refine ks_iald hκ 10 (((b + 100) + i)) dX7_ownerAt_10 hS rfl (by omega) (by decide) ?_
  refine ks_top (nI (16 * p2 + p1)) hrow ?_
  refine ks_istore hκ 11 4 [(4, _), (0, _), (1, _), (2, _), (3, _)] dX7_ownerAt_11 (by decide) rfl ?_
  refine ks_iload hκ 13 0 dX7_ownerAt_13 rfl ?_
  refine ks_bipush hκ 15 (nI 16) dX7_ownerAt_15 kq_b16 ?_
  refine ks_irem hκ 17 dX7_ownerAt_17 (by decide) ?_
  refine ks_top (nI ((16 * p2 + p1) % 16)) (pk_rem (by omega) (by decide) (by decide)) ?_
  refine ks_iload_n hκ 18 4 dX7_ownerAt_18 rfl ?_
  refine ks_icmp_ne hκ 19 30 dX7_ownerAt_19 rfl (fun c19 => ?_) (fun c19 => ?_)
  · skip
    have c19 := mt (nI_eq (by omega) (by omega)).mpr c19
    refine ks_bipush hκ 30 (-6) dX7_ownerAt_30 kq_bm6 ?_
    refine ks_iret hκ 32 hRt dX7_ownerAt_32 (by decide) (by decide) rfl ?_
    refine ⟨?_, rfl⟩
    first
      | (rw [if_neg (by omega)])
      | (rw [if_pos (by omega)]; exact congrArg (fun q => some (Value.int q)) ((pk_div (by omega) (by decide) (by decide)).trans (by rw [show (16 * p2 + p1) / 16 = p2 by omega])))
  · skip
    have c19 := (nI_eq (by omega) (by omega)).mp c19
    refine ks_iload hκ 22 0 dX7_ownerAt_22 rfl ?_
    refine ks_bipush hκ 24 (nI 16) dX7_ownerAt_24 kq_b16 ?_
    refine ks_idiv hκ 26 dX7_ownerAt_26 (by decide) ?_
    refine ks_goto hκ 27 32 dX7_ownerAt_27 rfl ?_
    refine ks_iret hκ 32 hRt dX7_ownerAt_32 (by decide) (by decide) rfl ?_
    refine ⟨?_, rfl⟩
    first
      | (rw [if_neg (by omega)])
      | (rw [if_pos (by omega)]; exact congrArg (fun q => some (Value.int q)) ((pk_div (by omega) (by decide) (by decide)).trans (by rw [show (16 * p2 + p1) / 16 = p2 by omega])))
