
/-! THE MODEL: what is asked -/

theorem kIn_R {x : Int32} {n : Nat} (h : n ≤ 240) : kIn x.toInt64 0 (nI n - nI 1).toInt64 = if x < 0 then nI 0 else if nI n ≤ x then nI 0 else nI 1 := by
  rw [kIn_32]
  have h0 : (0 : Int32).toInt = 0 := by decide
  have a0 : (0 : Int64).toInt = 0 := by decide
  have a1 : (nI n - nI 1).toInt = (n : Int) - (1 : Nat) := pk_sub_toInt (by omega) (by decide)
  have a2 : (nI n).toInt = (n : Int) := nI_toInt (by omega)
  simp only [Int32.lt_iff_toInt_lt, Int32.le_iff_toInt_le, Int32.toInt_toInt64, h0, a0, a1, a2]
  by_cases q : x.toInt < 0
  · rw [if_pos q, if_pos q]
  · rw [if_neg q, if_neg q]
    by_cases r : x.toInt ≤ (n : Int) - (1 : Nat)
    · rw [if_pos r, if_neg (by omega)]
    · rw [if_neg r, if_pos (by omega)]
set_option maxRecDepth 100000 in
set_option maxHeartbeats 4000000 in
theorem c_Model_stepsOf {g : ks_G} {h : ks_H} {m : Nat} {fs : List Value} {f : Nat → Int32} {se : Nat → Int32} {tu : Int32} {ki : Nat} {ma re : Int32} {kf : Nat → Nat → Int32} {L : List (Nat × Nat)} {P : List kP} {k s : Nat} (hM : h[m]? = some (ks_O 7 (ks_ref g (m + 1) :: fs))) (hS : h[m + 1]? = some (ks_I g 3400 f)) (hmd : kMd f 0 (se, tu, ki, ma, re, kf, L, P)) (hk : k < ki) (hs : s < 16) (hks : kf 0 k = nI s) : ks_Met g (yX7_stepsOf, cX7_stepsOf, 4, some .int) 6 0 0 [ks_ref g m, .int (nI k)] h (ks_Pi (kReach (se, tu, ki, ma, re, kf, L, P) k) h) := by
  obtain ⟨mS, m4, m5, m6, m7, m8, m9, mK, mP, mL, mki, mLl, mPl, mLp, mPp⟩ := id hmd
  dsimp only at mS m4 m5 m6 m7 m8 m9 mK mP mL mki mLl mPl mLp mPp
  have hk0 := mK k 0 hk (by decide)
  rw [Nat.add_zero] at hk0
  refine ks_intro (by decide) (Nat.le_of_ble_eq_true rfl) (fun κ hκ hRt => ?_)
  refine ks_cv (ls := [(0, ks_ref g m), (1, .int (nI k))]) ?_ rfl rfl rfl
  refine ks_iconst hκ 0 (nI 0) dX7_stepsOf_0 kq_i0 ?_
  refine ks_istore_n hκ 1 2 [(2, _), (0, _), (1, _)] dX7_stepsOf_1 rfl (by decide) rfl ?_
  refine ks_bipush hκ 2 (-15) dX7_stepsOf_2 kq_bm15 ?_
  refine ks_top (nI 0 - nI 15) (by decide) ?_
  refine ks_istore_n hκ 4 3 [(3, _), (2, _), (0, _), (1, _)] dX7_stepsOf_4 rfl (by decide) rfl ?_
  have L5 : ∀ (fuel : Nat) (vq : Nat) (xa : Int32) (hvq : vq ≤ 31) (hinv : kStI (se, tu, ki, ma, re, kf, L, P) k s xa vq) (hfuel : 31 - vq < fuel), ks_K κ g 4 h 0 0 5 [(0, ks_ref g m), (1, .int (nI k)), (2, .int xa), (3, .int (nI vq - nI 15))] [] := by
    intro fuel
    induction fuel with
    | zero => intro vq xa  hvq hinv hfuel; exact absurd hfuel (Nat.not_lt_zero _)
    | succ fuel ih =>
      intro vq xa  hvq hinv hfuel
      refine ks_iload_n hκ 5 3 dX7_stepsOf_5 rfl ?_
      refine ks_bipush hκ 6 (nI 15) dX7_stepsOf_6 kq_b15 ?_
      refine ks_icmp_gt hκ 8 52 dX7_stepsOf_8 rfl (fun c8 => ?_) (fun c8 => ?_)
      · skip
        have c8 := (kq15 hvq).mp c8
        have hv31 : vq = 31 := by omega
        subst hv31
        refine ks_iload_n hκ 52 2 dX7_stepsOf_52 rfl ?_
        refine ks_iret hκ 53 hRt dX7_stepsOf_53 (by decide) (by decide) rfl ?_
        exact ⟨by rw [kStI_end hinv], rfl⟩
      · skip
        have c8 := mt (kq15 hvq).mpr c8
        refine ks_iload_n hκ 11 2 dX7_stepsOf_11 rfl ?_
        refine ks_iload_n hκ 12 3 dX7_stepsOf_12 rfl ?_
        refine ks_if_eq hκ 13 43 dX7_stepsOf_13 rfl (fun c13 => ?_) (fun c13 => ?_)
        · skip
          have hsk : ∀ e, e < 16 → e + 15 = s + vq → kRcC (se, tu, ki, ma, re, kf, L, P) k e = false := fun e he1 he2 => by
            have h9 : nI e - kf 0 k = nI vq - nI 15 := by rw [hks, kdiff hs he1, show e + 15 - s = vq by omega]
            unfold kRcC
            dsimp only
            rw [h9]
            simp [c13]
          refine ks_iconst hκ 43 (nI 0) dX7_stepsOf_43 kq_i0 ?_
          refine ks_ior hκ 44 dX7_stepsOf_44 ?_
          refine ks_istore_n hκ 45 2 [(2, _), (0, _), (1, _), (3, _)] dX7_stepsOf_45 rfl (by decide) rfl ?_
          refine ks_iinc hκ 46 3 3 (nI (vq + 1) - nI 15) [(3, _), (2, _), (0, _), (1, _)] dX7_stepsOf_46 rfl kst1.symm (by decide) rfl ?_
          refine ks_goto hκ 49 5 dX7_stepsOf_49 rfl ?_
          refine ks_pick [2, 3, 1, 0] [(0, _), (1, _), (2, _), (3, _)] rfl ?_
          exact ks_cv (ih (vq + 1) _  (by omega) (by first | (rw [kor0]; exact kStI_skip hinv hsk) | exact kStI_add hinv hvt (by omega) hcc) (by omega)) rfl rfl rfl
        · skip
          refine ks_aload_n hκ 16 0 dX7_stepsOf_16 rfl ?_
          refine ks_iconst hκ 17 (nI 0) dX7_stepsOf_17 kq_i0 ?_
          refine ks_iload_n hκ 18 1 dX7_stepsOf_18 rfl ?_
          refine ks_iload_n hκ 19 3 dX7_stepsOf_19 rfl ?_
          refine ks_pureV3 hκ 20 dX7_stepsOf_20 kc_X7_90 (c_Model_reason (b := 0) hM hS (by decide) hmd hk hs hks) hM rfl (by decide) (Nat.le_of_ble_eq_true rfl) (by decide) (by decide) ?_
          refine ks_if_ne hκ 23 43 dX7_stepsOf_23 rfl (fun c23 => ?_) (fun c23 => ?_)
          · skip
            have hsk : ∀ e, e < 16 → e + 15 = s + vq → kRcC (se, tu, ki, ma, re, kf, L, P) k e = false := fun e he1 he2 => by
              have h9 : nI e - kf 0 k = nI vq - nI 15 := by rw [hks, kdiff hs he1, show e + 15 - s = vq by omega]
              unfold kRcC
              dsimp only
              rw [h9]
              simp [c23]
            refine ks_iconst hκ 43 (nI 0) dX7_stepsOf_43 kq_i0 ?_
            refine ks_ior hκ 44 dX7_stepsOf_44 ?_
            refine ks_istore_n hκ 45 2 [(2, _), (0, _), (1, _), (3, _)] dX7_stepsOf_45 rfl (by decide) rfl ?_
            refine ks_iinc hκ 46 3 3 (nI (vq + 1) - nI 15) [(3, _), (2, _), (0, _), (1, _)] dX7_stepsOf_46 rfl kst1.symm (by decide) rfl ?_
            refine ks_goto hκ 49 5 dX7_stepsOf_49 rfl ?_
            refine ks_pick [2, 3, 1, 0] [(0, _), (1, _), (2, _), (3, _)] rfl ?_
            exact ks_cv (ih (vq + 1) _  (by omega) (by first | (rw [kor0]; exact kStI_skip hinv hsk) | exact kStI_add hinv hvt (by omega) hcc) (by omega)) rfl rfl rfl
          · skip
            obtain ⟨vt, hvt, hvt2⟩ := kRef_0 c23 hks hs
            have hvq2 : vq + s = vt + 15 := kdiff_inv (by omega) (by decide) (by omega) (by omega) hvt2
            have hcc : kRcC (se, tu, ki, ma, re, kf, L, P) k vt = true := by
              have h9 : nI vt - kf 0 k = nI vq - nI 15 := by rw [hks, ← hvt2]
              unfold kRcC
              dsimp only
              rw [h9]
              simp [c13, c23]
            refine ks_iconst hκ 26 (nI 1) dX7_stepsOf_26 kq_i1 ?_
            refine ks_aload_n hκ 27 0 dX7_stepsOf_27 rfl ?_
            refine ks_get hκ 28 dX7_stepsOf_28 kf_X7_7 hM rfl ?_
            refine ks_iconst hκ 31 (nI 0) dX7_stepsOf_31 kq_i0 ?_
            refine ks_iload_n hκ 32 1 dX7_stepsOf_32 rfl ?_
            refine ks_pureS2 hκ 33 dX7_stepsOf_33 kc_X7_28 (c_Model_kittenAt (b := 0)) (by decide) (Nat.le_of_ble_eq_true rfl) (by decide) (by decide) ?_
            refine ks_iald hκ 36 ((0 + 10 + 7 * k)) dX7_stepsOf_36 hS rfl (by omega) (by decide) ?_
            refine ks_top (nI s) (hk0.trans hks) ?_
            refine ks_iload_n hκ 37 3 dX7_stepsOf_37 rfl ?_
            refine ks_iadd hκ 38 dX7_stepsOf_38 ?_
            refine ks_top (nI vt) (by rw [hvt2, Int32.add_comm, Int32.sub_add_cancel]) ?_
            refine ks_ishl hκ 39 dX7_stepsOf_39 ?_
            refine ks_goto hκ 40 44 dX7_stepsOf_40 rfl ?_
            refine ks_ior hκ 44 dX7_stepsOf_44 ?_
            refine ks_istore_n hκ 45 2 [(2, _), (0, _), (1, _), (3, _)] dX7_stepsOf_45 rfl (by decide) rfl ?_
            refine ks_iinc hκ 46 3 3 (nI (vq + 1) - nI 15) [(3, _), (2, _), (0, _), (1, _)] dX7_stepsOf_46 rfl kst1.symm (by decide) rfl ?_
            refine ks_goto hκ 49 5 dX7_stepsOf_49 rfl ?_
            refine ks_pick [2, 3, 1, 0] [(0, _), (1, _), (2, _), (3, _)] rfl ?_
            exact ks_cv (ih (vq + 1) _  (by omega) (by first | (rw [kor0]; exact kStI_skip hinv hsk) | exact kStI_add hinv hvt (by omega) hcc) (by omega)) rfl rfl rfl
  refine ks_pick [2, 3, 1, 0] [(0, _), (1, _), (2, _), (3, _)] rfl ?_
  exact ks_cv (L5 _ 0 _  (Nat.zero_le _) (kStI_0 hs) (Nat.lt_succ_self _)) rfl rfl rfl
set_option maxRecDepth 100000 in
set_option maxHeartbeats 4000000 in
theorem c_Model_thickness {g : ks_G} {h : ks_H} {m : Nat} {fs : List Value} {f : Nat → Int32} {se : Nat → Int32} {tu : Int32} {ki : Nat} {ma re : Int32} {kf : Nat → Nat → Int32} {L : List (Nat × Nat)} {P : List kP} {e : Nat} (hM : h[m]? = some (ks_O 7 (ks_ref g (m + 1) :: fs))) (hS : h[m + 1]? = some (ks_I g 3400 f)) (hmd : kMd f 0 (se, tu, ki, ma, re, kf, L, P)) (he : e < 15) : ks_Met g (yX7_thickness, cX7_thickness, 4, some .int) 1 0 0 [ks_ref g m, .int (nI e)] h (ks_Pi (nI (kAt e L)) h) := by
  obtain ⟨mS, m4, m5, m6, m7, m8, m9, mK, mP, mL, mki, mLl, mPl, mLp, mPp⟩ := id hmd
  dsimp only at mS m4 m5 m6 m7 m8 m9 mK mP mL mki mLl mPl mLp mPp
  refine ks_intro (by decide) (Nat.le_of_ble_eq_true rfl) (fun κ hκ hRt => ?_)
  refine ks_cv (ls := [(0, ks_ref g m), (1, .int (nI e))]) ?_ rfl rfl rfl
  refine ks_iconst hκ 0 (nI 0) dX7_thickness_0 kq_i0 ?_
  refine ks_istore_n hκ 1 2 [(2, _), (0, _), (1, _)] dX7_thickness_1 rfl (by decide) rfl ?_
  refine ks_iconst hκ 2 (nI 0) dX7_thickness_2 kq_i0 ?_
  refine ks_istore_n hκ 3 3 [(3, _), (2, _), (0, _), (1, _)] dX7_thickness_3 rfl (by decide) rfl ?_
  have L4 : ∀ (fuel : Nat) (vi va : Nat) (hvi : vi ≤ L.length) (hva : va ≤ vi) (hinv : (L.drop vi).foldl (kAtS e) va = kAt e L) (hfuel : L.length - vi < fuel), ks_K κ g 4 h 0 0 4 [(0, ks_ref g m), (1, .int (nI e)), (2, .int (nI va)), (3, .int (nI vi))] [] := by
    intro fuel
    induction fuel with
    | zero => intro vi va  hvi hva hinv hfuel; exact absurd hfuel (Nat.not_lt_zero _)
    | succ fuel ih =>
      intro vi va  hvi hva hinv hfuel
      refine ks_iload_n hκ 4 3 dX7_thickness_4 rfl ?_
      refine ks_aload_n hκ 5 0 dX7_thickness_5 rfl ?_
      refine ks_get hκ 6 dX7_thickness_6 kf_X7_7 hM rfl ?_
      refine ks_bipush hκ 9 (nI 8) dX7_thickness_9 kq_b8 ?_
      refine ks_iald hκ 11 (8) dX7_thickness_11 hS rfl (by omega) (by decide) ?_
      refine ks_top (nI L.length) m8 ?_
      refine ks_icmp_ge hκ 12 41 dX7_thickness_12 rfl (fun c12 => ?_) (fun c12 => ?_)
      · skip
        have c12 := (nI_leI (by omega) (by omega)).mp c12
        refine ks_iload_n hκ 41 2 dX7_thickness_41 rfl ?_
        refine ks_iret hκ 42 hRt dX7_thickness_42 (by decide) (by decide) rfl ?_
        exact ⟨by rw [← hinv, kdropN c12]; rfl, rfl⟩
      · skip
        have c12 := mt (nI_leI (by omega) (by omega)).mpr c12
        obtain ⟨⟨p1, p2⟩, hp⟩ := kget (L := L) (i := vi) (by omega)
        have hp6 := (mLp (p1, p2) (List.mem_of_getElem? hp)).2
        dsimp only at hp6
        rw [kdrop hp, List.foldl_cons] at hinv
        refine ks_iload_n hκ 15 2 dX7_thickness_15 rfl ?_
        refine ks_aload_n hκ 16 0 dX7_thickness_16 rfl ?_
        refine ks_iconst hκ 17 (nI 0) dX7_thickness_17 kq_i0 ?_
        refine ks_iload_n hκ 18 3 dX7_thickness_18 rfl ?_
        refine ks_iload_n hκ 19 1 dX7_thickness_19 rfl ?_
        refine ks_pureV3 hκ 20 dX7_thickness_20 kc_X7_32 (c_Model_ownerAt (b := 0) hM hS (by decide) hmd hp he) hM rfl (by decide) (Nat.le_of_ble_eq_true rfl) (by decide) (by decide) ?_
        refine ks_bipush hκ 23 (-6) dX7_thickness_23 kq_bm6 ?_
        refine ks_icmp_ne hκ 25 32 dX7_thickness_25 rfl (fun c25 => ?_) (fun c25 => ?_)
        · skip
          have hpe : p1 = e := by
            by_cases q : p1 = e
            · exact q
            · exact absurd (if_neg q) c25
          refine ks_iconst hκ 32 (nI 1) dX7_thickness_32 kq_i1 ?_
          refine ks_iaddN hκ 33 dX7_thickness_33 ?_
          refine ks_istore_n hκ 34 2 [(2, _), (0, _), (1, _), (3, _)] dX7_thickness_34 rfl (by decide) rfl ?_
          refine ks_iinc hκ 35 3 3 (nI (vi + 1)) [(3, _), (2, _), (0, _), (1, _)] dX7_thickness_35 rfl (ks_inc1 _) (by decide) rfl ?_
          refine ks_goto hκ 38 4 dX7_thickness_38 rfl ?_
          refine ks_pick [2, 3, 1, 0] [(0, _), (1, _), (2, _), (3, _)] rfl ?_
          exact ks_cv (ih (vi + 1) _  (by omega) (by omega) (by first | (rw [show kAtS e va (p1, p2) = va + 1 from if_pos hpe] at hinv; exact hinv) | (rw [show kAtS e va (p1, p2) = va from if_neg hpe] at hinv; exact hinv)) (by omega)) rfl rfl rfl
        · skip
          have hpe : ¬ p1 = e := fun q => by rw [if_pos q] at c25; exact nI_m6 (by omega) c25
          refine ks_iconst hκ 28 (nI 0) dX7_thickness_28 kq_i0 ?_
          refine ks_goto hκ 29 33 dX7_thickness_29 rfl ?_
          refine ks_iaddN hκ 33 dX7_thickness_33 ?_
          refine ks_istore_n hκ 34 2 [(2, _), (0, _), (1, _), (3, _)] dX7_thickness_34 rfl (by decide) rfl ?_
          refine ks_iinc hκ 35 3 3 (nI (vi + 1)) [(3, _), (2, _), (0, _), (1, _)] dX7_thickness_35 rfl (ks_inc1 _) (by decide) rfl ?_
          refine ks_goto hκ 38 4 dX7_thickness_38 rfl ?_
          refine ks_pick [2, 3, 1, 0] [(0, _), (1, _), (2, _), (3, _)] rfl ?_
          exact ks_cv (ih (vi + 1) _  (by omega) (by omega) (by first | (rw [show kAtS e va (p1, p2) = va + 1 from if_pos hpe] at hinv; exact hinv) | (rw [show kAtS e va (p1, p2) = va from if_neg hpe] at hinv; exact hinv)) (by omega)) rfl rfl rfl
  refine ks_pick [2, 3, 1, 0] [(0, _), (1, _), (2, _), (3, _)] rfl ?_
  exact ks_cv (L4 _ 0 0  (Nat.zero_le _) (Nat.zero_le _) rfl (Nat.lt_succ_self _)) rfl rfl rfl
set_option maxRecDepth 100000 in
set_option maxHeartbeats 4000000 in
theorem c_Model_kittensAt {g : ks_G} {h : ks_H} {m : Nat} {fs : List Value} {f : Nat → Int32} {se : Nat → Int32} {tu : Int32} {ki : Nat} {ma re : Int32} {kf : Nat → Nat → Int32} {L : List (Nat × Nat)} {P : List kP} {e : Nat} (hM : h[m]? = some (ks_O 7 (ks_ref g (m + 1) :: fs))) (hS : h[m + 1]? = some (ks_I g 3400 f)) (hmd : kMd f 0 (se, tu, ki, ma, re, kf, L, P)) (he : e < 15) : ks_Met g (yX7_kittensAt, cX7_kittensAt, 4, some .int) 1 0 0 [ks_ref g m, .int (nI e)] h (ks_Pi (kSet e L) h) := by
  obtain ⟨mS, m4, m5, m6, m7, m8, m9, mK, mP, mL, mki, mLl, mPl, mLp, mPp⟩ := id hmd
  dsimp only at mS m4 m5 m6 m7 m8 m9 mK mP mL mki mLl mPl mLp mPp
  refine ks_intro (by decide) (Nat.le_of_ble_eq_true rfl) (fun κ hκ hRt => ?_)
  refine ks_cv (ls := [(0, ks_ref g m), (1, .int (nI e))]) ?_ rfl rfl rfl
  refine ks_iconst hκ 0 (nI 0) dX7_kittensAt_0 kq_i0 ?_
  refine ks_istore_n hκ 1 2 [(2, _), (0, _), (1, _)] dX7_kittensAt_1 rfl (by decide) rfl ?_
  refine ks_iconst hκ 2 (nI 0) dX7_kittensAt_2 kq_i0 ?_
  refine ks_istore_n hκ 3 3 [(3, _), (2, _), (0, _), (1, _)] dX7_kittensAt_3 rfl (by decide) rfl ?_
  have L4 : ∀ (fuel : Nat) (vi : Nat) (xa : Int32) (hvi : vi ≤ L.length) (hinv : (L.drop vi).foldl (kSetS e) xa = kSet e L) (hfuel : L.length - vi < fuel), ks_K κ g 4 h 0 0 4 [(0, ks_ref g m), (1, .int (nI e)), (2, .int xa), (3, .int (nI vi))] [] := by
    intro fuel
    induction fuel with
    | zero => intro vi xa  hvi hinv hfuel; exact absurd hfuel (Nat.not_lt_zero _)
    | succ fuel ih =>
      intro vi xa  hvi hinv hfuel
      refine ks_iload_n hκ 4 3 dX7_kittensAt_4 rfl ?_
      refine ks_aload_n hκ 5 0 dX7_kittensAt_5 rfl ?_
      refine ks_get hκ 6 dX7_kittensAt_6 kf_X7_7 hM rfl ?_
      refine ks_bipush hκ 9 (nI 8) dX7_kittensAt_9 kq_b8 ?_
      refine ks_iald hκ 11 (8) dX7_kittensAt_11 hS rfl (by omega) (by decide) ?_
      refine ks_top (nI L.length) m8 ?_
      refine ks_icmp_ge hκ 12 49 dX7_kittensAt_12 rfl (fun c12 => ?_) (fun c12 => ?_)
      · skip
        have c12 := (nI_leI (by omega) (by omega)).mp c12
        refine ks_iload_n hκ 49 2 dX7_kittensAt_49 rfl ?_
        refine ks_iret hκ 50 hRt dX7_kittensAt_50 (by decide) (by decide) rfl ?_
        exact ⟨by rw [← hinv, kdropN c12]; rfl, rfl⟩
      · skip
        have c12 := mt (nI_leI (by omega) (by omega)).mpr c12
        obtain ⟨⟨p1, p2⟩, hp⟩ := kget (L := L) (i := vi) (by omega)
        have hp6 := (mLp (p1, p2) (List.mem_of_getElem? hp)).2
        dsimp only at hp6
        rw [kdrop hp, List.foldl_cons] at hinv
        refine ks_iload_n hκ 15 2 dX7_kittensAt_15 rfl ?_
        refine ks_aload_n hκ 16 0 dX7_kittensAt_16 rfl ?_
        refine ks_iconst hκ 17 (nI 0) dX7_kittensAt_17 kq_i0 ?_
        refine ks_iload_n hκ 18 3 dX7_kittensAt_18 rfl ?_
        refine ks_iload_n hκ 19 1 dX7_kittensAt_19 rfl ?_
        refine ks_pureV3 hκ 20 dX7_kittensAt_20 kc_X7_32 (c_Model_ownerAt (b := 0) hM hS (by decide) hmd hp he) hM rfl (by decide) (Nat.le_of_ble_eq_true rfl) (by decide) (by decide) ?_
        refine ks_bipush hκ 23 (-6) dX7_kittensAt_23 kq_bm6 ?_
        refine ks_icmp_ne hκ 25 32 dX7_kittensAt_25 rfl (fun c25 => ?_) (fun c25 => ?_)
        · skip
          have hpe : p1 = e := by
            by_cases q : p1 = e
            · exact q
            · exact absurd (if_neg q) c25
          refine ks_iconst hκ 32 (nI 1) dX7_kittensAt_32 kq_i1 ?_
          refine ks_aload_n hκ 33 0 dX7_kittensAt_33 rfl ?_
          refine ks_iconst hκ 34 (nI 0) dX7_kittensAt_34 kq_i0 ?_
          refine ks_iload_n hκ 35 3 dX7_kittensAt_35 rfl ?_
          refine ks_iload_n hκ 36 1 dX7_kittensAt_36 rfl ?_
          refine ks_pureV3 hκ 37 dX7_kittensAt_37 kc_X7_32 (c_Model_ownerAt (b := 0) hM hS (by decide) hmd hp he) hM rfl (by decide) (Nat.le_of_ble_eq_true rfl) (by decide) (by decide) ?_
          refine ks_top (nI p2) (if_pos hpe) ?_
          refine ks_ishl hκ 40 dX7_kittensAt_40 ?_
          refine ks_ior hκ 41 dX7_kittensAt_41 ?_
          refine ks_istore_n hκ 42 2 [(2, _), (0, _), (1, _), (3, _)] dX7_kittensAt_42 rfl (by decide) rfl ?_
          refine ks_iinc hκ 43 3 3 (nI (vi + 1)) [(3, _), (2, _), (0, _), (1, _)] dX7_kittensAt_43 rfl (ks_inc1 _) (by decide) rfl ?_
          refine ks_goto hκ 46 4 dX7_kittensAt_46 rfl ?_
          refine ks_pick [2, 3, 1, 0] [(0, _), (1, _), (2, _), (3, _)] rfl ?_
          exact ks_cv (ih (vi + 1) _  (by omega) (by first | (rw [show kSetS e xa (p1, p2) = xa ||| kBit p2 from if_pos hpe] at hinv; exact hinv) | (rw [show kSetS e xa (p1, p2) = xa from if_neg hpe] at hinv; rw [kor0]; exact hinv)) (by omega)) rfl rfl rfl
        · skip
          have hpe : ¬ p1 = e := fun q => by rw [if_pos q] at c25; exact nI_m6 (by omega) c25
          refine ks_iconst hκ 28 (nI 0) dX7_kittensAt_28 kq_i0 ?_
          refine ks_goto hκ 29 41 dX7_kittensAt_29 rfl ?_
          refine ks_ior hκ 41 dX7_kittensAt_41 ?_
          refine ks_istore_n hκ 42 2 [(2, _), (0, _), (1, _), (3, _)] dX7_kittensAt_42 rfl (by decide) rfl ?_
          refine ks_iinc hκ 43 3 3 (nI (vi + 1)) [(3, _), (2, _), (0, _), (1, _)] dX7_kittensAt_43 rfl (ks_inc1 _) (by decide) rfl ?_
          refine ks_goto hκ 46 4 dX7_kittensAt_46 rfl ?_
          refine ks_pick [2, 3, 1, 0] [(0, _), (1, _), (2, _), (3, _)] rfl ?_
          exact ks_cv (ih (vi + 1) _  (by omega) (by first | (rw [show kSetS e xa (p1, p2) = xa ||| kBit p2 from if_pos hpe] at hinv; exact hinv) | (rw [show kSetS e xa (p1, p2) = xa from if_neg hpe] at hinv; rw [kor0]; exact hinv)) (by omega)) rfl rfl rfl
  refine ks_pick [2, 3, 1, 0] [(0, _), (1, _), (2, _), (3, _)] rfl ?_
  exact ks_cv (L4 _ 0 _  (Nat.zero_le _) rfl (Nat.lt_succ_self _)) rfl rfl rfl
set_option maxRecDepth 100000 in
set_option maxHeartbeats 4000000 in
theorem c_Model_pairsAt {g : ks_G} {h : ks_H} {m : Nat} {fs : List Value} {f : Nat → Int32} {se : Nat → Int32} {tu : Int32} {ki : Nat} {ma re : Int32} {kf : Nat → Nat → Int32} {L : List (Nat × Nat)} {P : List kP} {e : Nat} (hM : h[m]? = some (ks_O 7 (ks_ref g (m + 1) :: fs))) (hS : h[m + 1]? = some (ks_I g 3400 f)) (hmd : kMd f 0 (se, tu, ki, ma, re, kf, L, P)) (he : e < 15) : ks_Met g (yX7_pairsAt, cX7_pairsAt, 4, some .int) 2 0 0 [ks_ref g m, .int (nI e)] h (ks_Pi (nI (kPairs (se, tu, ki, ma, re, kf, L, P) (kBit e))) h) := by
  obtain ⟨mS, m4, m5, m6, m7, m8, m9, mK, mP, mL, mki, mLl, mPl, mLp, mPp⟩ := id hmd
  dsimp only at mS m4 m5 m6 m7 m8 m9 mK mP mL mki mLl mPl mLp mPp
  have hkk : ki * ki ≤ 36 := Nat.mul_le_mul mki mki
  refine ks_intro (by decide) (Nat.le_of_ble_eq_true rfl) (fun κ hκ hRt => ?_)
  refine ks_cv (ls := [(0, ks_ref g m), (1, .int (nI e))]) ?_ rfl rfl rfl
  refine ks_iconst hκ 0 (nI 0) dX7_pairsAt_0 kq_i0 ?_
  refine ks_istore_n hκ 1 2 [(2, _), (0, _), (1, _)] dX7_pairsAt_1 rfl (by decide) rfl ?_
  refine ks_iconst hκ 2 (nI 0) dX7_pairsAt_2 kq_i0 ?_
  refine ks_istore_n hκ 3 3 [(3, _), (2, _), (0, _), (1, _)] dX7_pairsAt_3 rfl (by decide) rfl ?_
  have L4 : ∀ (fuel : Nat) (vi va : Nat) (hvi : vi ≤ ki * ki) (hinv : ((List.range (ki * ki)).drop vi).foldl (kPqS e ki L) va = kPairs (se, tu, ki, ma, re, kf, L, P) (kBit e)) (hfuel : ki * ki - vi < fuel), ks_K κ g 4 h 0 0 4 [(0, ks_ref g m), (1, .int (nI e)), (2, .int (nI va)), (3, .int (nI vi))] [] := by
    intro fuel
    induction fuel with
    | zero => intro vi va  hvi hinv hfuel; exact absurd hfuel (Nat.not_lt_zero _)
    | succ fuel ih =>
      intro vi va  hvi hinv hfuel
      refine ks_iload_n hκ 4 3 dX7_pairsAt_4 rfl ?_
      refine ks_aload_n hκ 5 0 dX7_pairsAt_5 rfl ?_
      refine ks_get hκ 6 dX7_pairsAt_6 kf_X7_7 hM rfl ?_
      refine ks_iconst hκ 9 (nI 5) dX7_pairsAt_9 kq_i5 ?_
      refine ks_iald hκ 10 (5) dX7_pairsAt_10 hS rfl (by omega) (by decide) ?_
      refine ks_top (nI ki) m5 ?_
      refine ks_aload_n hκ 11 0 dX7_pairsAt_11 rfl ?_
      refine ks_get hκ 12 dX7_pairsAt_12 kf_X7_7 hM rfl ?_
      refine ks_iconst hκ 15 (nI 5) dX7_pairsAt_15 kq_i5 ?_
      refine ks_iald hκ 16 (5) dX7_pairsAt_16 hS rfl (by omega) (by decide) ?_
      refine ks_top (nI ki) m5 ?_
      refine ks_imulN hκ 17 dX7_pairsAt_17 ?_
      refine ks_icmp_ge hκ 18 79 dX7_pairsAt_18 rfl (fun c18 => ?_) (fun c18 => ?_)
      · skip
        have c18 := (nI_leI (by omega) (by omega)).mp c18
        refine ks_iload_n hκ 79 2 dX7_pairsAt_79 rfl ?_
        refine ks_iret hκ 80 hRt dX7_pairsAt_80 (by decide) (by decide) rfl ?_
        exact ⟨by rw [← hinv, kdropRN c18]; rfl, rfl⟩
      · skip
        have c18 := mt (nI_leI (by omega) (by omega)).mpr c18
        rw [kdropR (by omega), List.foldl_cons] at hinv
        have hk0 : 0 < ki := by
          rcases Nat.eq_zero_or_pos ki with q | q
          · subst q; omega
          · exact q
        have hd6 : vi / ki < ki := Nat.div_lt_of_lt_mul (by omega)
        have hm6 : vi % ki < ki := Nat.mod_lt _ hk0
        refine ks_iload_n hκ 21 2 dX7_pairsAt_21 rfl ?_
        refine ks_iload_n hκ 22 3 dX7_pairsAt_22 rfl ?_
        refine ks_aload_n hκ 23 0 dX7_pairsAt_23 rfl ?_
        refine ks_get hκ 24 dX7_pairsAt_24 kf_X7_7 hM rfl ?_
        refine ks_iconst hκ 27 (nI 5) dX7_pairsAt_27 kq_i5 ?_
        refine ks_iald hκ 28 (5) dX7_pairsAt_28 hS rfl (by omega) (by decide) ?_
        refine ks_top (nI ki) m5 ?_
        refine ks_idiv hκ 29 dX7_pairsAt_29 (fun q => by have := (ks_eq0 (by omega)).mp q; omega) ?_
        refine ks_top (nI (vi / ki)) (pk_div (by omega) (by omega) (by omega)) ?_
        refine ks_iload_n hκ 30 3 dX7_pairsAt_30 rfl ?_
        refine ks_aload_n hκ 31 0 dX7_pairsAt_31 rfl ?_
        refine ks_get hκ 32 dX7_pairsAt_32 kf_X7_7 hM rfl ?_
        refine ks_iconst hκ 35 (nI 5) dX7_pairsAt_35 kq_i5 ?_
        refine ks_iald hκ 36 (5) dX7_pairsAt_36 hS rfl (by omega) (by decide) ?_
        refine ks_top (nI ki) m5 ?_
        refine ks_irem hκ 37 dX7_pairsAt_37 (fun q => by have := (ks_eq0 (by omega)).mp q; omega) ?_
        refine ks_top (nI (vi % ki)) (pk_rem (by omega) (by omega) (by omega)) ?_
        refine ks_icmp_ge hκ 38 70 dX7_pairsAt_38 rfl (fun c38 => ?_) (fun c38 => ?_)
        · skip
          have c38 := (nI_leI (by omega) (by omega)).mp c38
          have hpn : ¬ (vi / ki < vi % ki ∧ 2 < (kPt e (vi / ki) (vi % ki) L).2) := fun q => absurd q.1 (by omega)
          refine ks_iconst hκ 70 (nI 0) dX7_pairsAt_70 kq_i0 ?_
          refine ks_iaddN hκ 71 dX7_pairsAt_71 ?_
          refine ks_istore_n hκ 72 2 [(2, _), (0, _), (1, _), (3, _)] dX7_pairsAt_72 rfl (by decide) rfl ?_
          refine ks_iinc hκ 73 3 3 (nI (vi + 1)) [(3, _), (2, _), (0, _), (1, _)] dX7_pairsAt_73 rfl (ks_inc1 _) (by decide) rfl ?_
          refine ks_goto hκ 76 4 dX7_pairsAt_76 rfl ?_
          refine ks_pick [2, 3, 1, 0] [(0, _), (1, _), (2, _), (3, _)] rfl ?_
          exact ks_cv (ih (vi + 1) _  (by omega) (by first | (rw [show kPqS e ki L va vi = va + 1 from if_pos hpq] at hinv; exact hinv) | (rw [show kPqS e ki L va vi = va from if_neg hpn] at hinv; exact hinv)) (by omega)) rfl rfl rfl
        · skip
          have c38 := mt (nI_leI (by omega) (by omega)).mpr c38
          refine ks_aload_n hκ 41 0 dX7_pairsAt_41 rfl ?_
          refine ks_iconst hκ 42 (nI 0) dX7_pairsAt_42 kq_i0 ?_
          refine ks_iload_n hκ 43 1 dX7_pairsAt_43 rfl ?_
          refine ks_iload_n hκ 44 3 dX7_pairsAt_44 rfl ?_
          refine ks_aload_n hκ 45 0 dX7_pairsAt_45 rfl ?_
          refine ks_get hκ 46 dX7_pairsAt_46 kf_X7_7 hM rfl ?_
          refine ks_iconst hκ 49 (nI 5) dX7_pairsAt_49 kq_i5 ?_
          refine ks_iald hκ 50 (5) dX7_pairsAt_50 hS rfl (by omega) (by decide) ?_
          refine ks_top (nI ki) m5 ?_
          refine ks_idiv hκ 51 dX7_pairsAt_51 (fun q => by have := (ks_eq0 (by omega)).mp q; omega) ?_
          refine ks_top (nI (vi / ki)) (pk_div (by omega) (by omega) (by omega)) ?_
          refine ks_iload_n hκ 52 3 dX7_pairsAt_52 rfl ?_
          refine ks_aload_n hκ 53 0 dX7_pairsAt_53 rfl ?_
          refine ks_get hκ 54 dX7_pairsAt_54 kf_X7_7 hM rfl ?_
          refine ks_iconst hκ 57 (nI 5) dX7_pairsAt_57 kq_i5 ?_
          refine ks_iald hκ 58 (5) dX7_pairsAt_58 hS rfl (by omega) (by decide) ?_
          refine ks_top (nI ki) m5 ?_
          refine ks_irem hκ 59 dX7_pairsAt_59 (fun q => by have := (ks_eq0 (by omega)).mp q; omega) ?_
          refine ks_top (nI (vi % ki)) (pk_rem (by omega) (by omega) (by omega)) ?_
          refine ks_pureV4 hκ 60 dX7_pairsAt_60 kc_X7_46 (c_Model_areBoundAt (b := 0) hM hS (by decide) hmd he (show vi / ki < 6 by omega) (show vi % ki < 6 by omega)) hM rfl (by decide) (Nat.le_of_ble_eq_true rfl) (by decide) (by decide) ?_
          refine ks_if_eq hκ 63 70 dX7_pairsAt_63 rfl (fun c63 => ?_) (fun c63 => ?_)
          · skip
            have hpn : ¬ (vi / ki < vi % ki ∧ 2 < (kPt e (vi / ki) (vi % ki) L).2) := fun q => by rw [if_pos q.2] at c63; exact absurd c63 (by decide)
            refine ks_iconst hκ 70 (nI 0) dX7_pairsAt_70 kq_i0 ?_
            refine ks_iaddN hκ 71 dX7_pairsAt_71 ?_
            refine ks_istore_n hκ 72 2 [(2, _), (0, _), (1, _), (3, _)] dX7_pairsAt_72 rfl (by decide) rfl ?_
            refine ks_iinc hκ 73 3 3 (nI (vi + 1)) [(3, _), (2, _), (0, _), (1, _)] dX7_pairsAt_73 rfl (ks_inc1 _) (by decide) rfl ?_
            refine ks_goto hκ 76 4 dX7_pairsAt_76 rfl ?_
            refine ks_pick [2, 3, 1, 0] [(0, _), (1, _), (2, _), (3, _)] rfl ?_
            exact ks_cv (ih (vi + 1) _  (by omega) (by first | (rw [show kPqS e ki L va vi = va + 1 from if_pos hpq] at hinv; exact hinv) | (rw [show kPqS e ki L va vi = va from if_neg hpn] at hinv; exact hinv)) (by omega)) rfl rfl rfl
          · skip
            have hpq : vi / ki < vi % ki ∧ 2 < (kPt e (vi / ki) (vi % ki) L).2 := ⟨by omega, by
              by_cases q : 2 < (kPt e (vi / ki) (vi % ki) L).2
              · exact q
              · exact absurd (if_neg q) c63⟩
            refine ks_iconst hκ 66 (nI 1) dX7_pairsAt_66 kq_i1 ?_
            refine ks_goto hκ 67 71 dX7_pairsAt_67 rfl ?_
            refine ks_iaddN hκ 71 dX7_pairsAt_71 ?_
            refine ks_istore_n hκ 72 2 [(2, _), (0, _), (1, _), (3, _)] dX7_pairsAt_72 rfl (by decide) rfl ?_
            refine ks_iinc hκ 73 3 3 (nI (vi + 1)) [(3, _), (2, _), (0, _), (1, _)] dX7_pairsAt_73 rfl (ks_inc1 _) (by decide) rfl ?_
            refine ks_goto hκ 76 4 dX7_pairsAt_76 rfl ?_
            refine ks_pick [2, 3, 1, 0] [(0, _), (1, _), (2, _), (3, _)] rfl ?_
            exact ks_cv (ih (vi + 1) _  (by omega) (by first | (rw [show kPqS e ki L va vi = va + 1 from if_pos hpq] at hinv; exact hinv) | (rw [show kPqS e ki L va vi = va from if_neg hpn] at hinv; exact hinv)) (by omega)) rfl rfl rfl
  refine ks_pick [2, 3, 1, 0] [(0, _), (1, _), (2, _), (3, _)] rfl ?_
  exact ks_cv (L4 _ 0 0  (Nat.zero_le _) (kPairs_sq (σ := (se, tu, ki, ma, re, kf, L, P)) he (fun p hp => (mLp p hp).1)) (Nat.lt_succ_self _)) rfl rfl rfl
set_option maxRecDepth 100000 in
set_option maxHeartbeats 4000000 in
theorem c_Model_ofEdge {g : ks_G} {h : ks_H} {m : Nat} {fs : List Value} {f : Nat → Int32} {se : Nat → Int32} {tu : Int32} {ki : Nat} {ma re : Int32} {kf : Nat → Nat → Int32} {L : List (Nat × Nat)} {P : List kP} {x z : Int32} (hM : h[m]? = some (ks_O 7 (ks_ref g (m + 1) :: fs))) (hS : h[m + 1]? = some (ks_I g 3400 f)) (hmd : kMd f 0 (se, tu, ki, ma, re, kf, L, P)) : ks_Met g (yX7_ofEdge, cX7_ofEdge, 3, some .int) 3 0 0 [ks_ref g m, .int x, .int z] h (ks_Pi (kEdQ (se, tu, ki, ma, re, kf, L, P) x z) h) := by
  obtain ⟨mS, m4, m5, m6, m7, m8, m9, mK, mP, mL, mki, mLl, mPl, mLp, mPp⟩ := id hmd
  dsimp only at mS m4 m5 m6 m7 m8 m9 mK mP mL mki mLl mPl mLp mPp
  refine ks_intro (by decide) (Nat.le_of_ble_eq_true rfl) (fun κ hκ hRt => ?_)
  refine ks_cv (ls := [(0, ks_ref g m), (1, .int x), (2, .int z)]) ?_ rfl rfl rfl
  refine ks_iload_n hκ 0 1 dX7_ofEdge_0 rfl ?_
  refine ks_pureS1 hκ 1 dX7_ofEdge_1 kc_X7_110 (c_Model_isEdge) (by decide) (Nat.le_of_ble_eq_true rfl) (by decide) (by decide) ?_
  refine ks_if_ne hκ 4 9 dX7_ofEdge_4 rfl (fun c4 => ?_) (fun c4 => ?_)
  · skip
    obtain ⟨ve, hve, rfl⟩ := kIsE_1 c4
    refine ks_iload_n hκ 9 2 dX7_ofEdge_9 rfl ?_
    rcases ks_sw z 0 3 (by decide) with hs10 | hs10 | ⟨sj10, ha10, hb10, hs10⟩
    · skip
      refine ks_tableOut hκ 10 87 dX7_ofEdge_10 (Or.inl hs10) rfl ?_
      refine ks_bipush hκ 87 (-2) dX7_ofEdge_87 kq_bm2 ?_
      refine ks_iret hκ 89 hRt dX7_ofEdge_89 (by decide) (by decide) rfl ?_
      exact ⟨by unfold kEdQ; rw [if_neg c4]; first | rw [kSw_lo hs10] | rw [kSw_hi hs10], rfl⟩
    · skip
      refine ks_tableOut hκ 10 87 dX7_ofEdge_10 (Or.inr hs10) rfl ?_
      refine ks_bipush hκ 87 (-2) dX7_ofEdge_87 kq_bm2 ?_
      refine ks_iret hκ 89 hRt dX7_ofEdge_89 (by decide) (by decide) rfl ?_
      exact ⟨by unfold kEdQ; rw [if_neg c4]; first | rw [kSw_lo hs10] | rw [kSw_hi hs10], rfl⟩
    · skip
      rcases (show sj10 = 0 ∨ sj10 = 1 ∨ sj10 = 2 ∨ sj10 = 3 by omega) with rfl | rfl | rfl | rfl
      · skip
        refine ks_top (nI 0) hs10 ?_
        refine ks_tableIn hκ 10 40 dX7_ofEdge_10 (off := 30) (by decide) (by decide) (by decide) rfl ?_
        subst hs10
        refine ks_aload_n hκ 40 0 dX7_ofEdge_40 rfl ?_
        refine ks_iload_n hκ 41 1 dX7_ofEdge_41 rfl ?_
        refine ks_pureV1 hκ 42 dX7_ofEdge_42 kc_X7_171 (c_Model_thickness hM hS hmd hve) hM rfl (by decide) (Nat.le_of_ble_eq_true rfl) (by decide) (by decide) ?_
        refine ks_iret hκ 45 hRt dX7_ofEdge_45 (by decide) (by decide) rfl ?_
        have hq : kEdQ (se, tu, ki, ma, re, kf, L, P) (nI ve) (nI 0) = kEdN (se, tu, ki, ma, re, kf, L, P) ve 0 := by
          unfold kEdQ
          rw [if_neg c4, nI_clamp (by omega), kSw_in (by decide) (by decide)]
        exact ⟨by rw [hq]; rfl, rfl⟩
      · skip
        refine ks_top (nI 1) hs10 ?_
        refine ks_tableIn hκ 10 46 dX7_ofEdge_10 (off := 36) (by decide) (by decide) (by decide) rfl ?_
        subst hs10
        refine ks_aload_n hκ 46 0 dX7_ofEdge_46 rfl ?_
        refine ks_iconst hκ 47 (nI 0) dX7_ofEdge_47 kq_i0 ?_
        refine ks_iload_n hκ 48 1 dX7_ofEdge_48 rfl ?_
        refine ks_pureV2 hκ 49 dX7_ofEdge_49 kc_X7_36 (c_Model_top (b := 0) hM hS (by decide) hmd hve) hM rfl (by decide) (Nat.le_of_ble_eq_true rfl) (by decide) (by decide) ?_
        refine ks_bipush hκ 52 (-6) dX7_ofEdge_52 kq_bm6 ?_
        refine ks_icmp_ne hκ 54 62 dX7_ofEdge_54 rfl (fun c54 => ?_) (fun c54 => ?_)
        · skip
          obtain ⟨vo, hT⟩ : ∃ o, kTop ve L = some o := by
            cases q : kTop ve L with
            | none => rw [kIdx_none q] at c54; exact absurd rfl c54
            | some o => exact ⟨o, rfl⟩
          obtain ⟨vt, hI, hLt, -⟩ := kIdx_some hT
          refine ks_aload_n hκ 62 0 dX7_ofEdge_62 rfl ?_
          refine ks_iconst hκ 63 (nI 0) dX7_ofEdge_63 kq_i0 ?_
          refine ks_aload_n hκ 64 0 dX7_ofEdge_64 rfl ?_
          refine ks_iconst hκ 65 (nI 0) dX7_ofEdge_65 kq_i0 ?_
          refine ks_iload_n hκ 66 1 dX7_ofEdge_66 rfl ?_
          refine ks_pureV2 hκ 67 dX7_ofEdge_67 kc_X7_36 (c_Model_top (b := 0) hM hS (by decide) hmd hve) hM rfl (by decide) (Nat.le_of_ble_eq_true rfl) (by decide) (by decide) ?_
          refine ks_top (nI vt) (by rw [hI]; rfl) ?_
          refine ks_iload_n hκ 70 1 dX7_ofEdge_70 rfl ?_
          refine ks_pureV3 hκ 71 dX7_ofEdge_71 kc_X7_32 (c_Model_ownerAt (b := 0) (i := vt) hM hS (by decide) hmd hLt hve) hM rfl (by decide) (Nat.le_of_ble_eq_true rfl) (by decide) (by decide) ?_
          refine ks_iret hκ 74 hRt dX7_ofEdge_74 (by decide) (by decide) rfl ?_
          have hq : kEdQ (se, tu, ki, ma, re, kf, L, P) (nI ve) (nI 1) = kEdN (se, tu, ki, ma, re, kf, L, P) ve 1 := by
            unfold kEdQ
            rw [if_neg c4, nI_clamp (by omega), kSw_in (by decide) (by decide)]
          refine ⟨?_, rfl⟩
          rw [hq]
          show _ = some (Value.int (kON (kTop ve L)))
          rw [hT]
          first | rfl | (rw [if_pos rfl]; rfl)
        · skip
          have hT : kTop ve L = none := by
            cases q : kTop ve L with
            | none => rfl
            | some o =>
              obtain ⟨vt, hI, hLt, -⟩ := kIdx_some q
              rw [hI] at c54
              exact absurd c54 (nI_m6 (by have := (List.getElem?_eq_some_iff.mp hLt).1; omega))
          refine ks_bipush hκ 57 (-6) dX7_ofEdge_57 kq_bm6 ?_
          refine ks_goto hκ 59 74 dX7_ofEdge_59 rfl ?_
          refine ks_iret hκ 74 hRt dX7_ofEdge_74 (by decide) (by decide) rfl ?_
          have hq : kEdQ (se, tu, ki, ma, re, kf, L, P) (nI ve) (nI 1) = kEdN (se, tu, ki, ma, re, kf, L, P) ve 1 := by
            unfold kEdQ
            rw [if_neg c4, nI_clamp (by omega), kSw_in (by decide) (by decide)]
          refine ⟨?_, rfl⟩
          rw [hq]
          show _ = some (Value.int (kON (kTop ve L)))
          rw [hT]
          first | rfl | (rw [if_pos rfl]; rfl)
      · skip
        refine ks_top (nI 2) hs10 ?_
        refine ks_tableIn hκ 10 75 dX7_ofEdge_10 (off := 65) (by decide) (by decide) (by decide) rfl ?_
        subst hs10
        refine ks_aload_n hκ 75 0 dX7_ofEdge_75 rfl ?_
        refine ks_iload_n hκ 76 1 dX7_ofEdge_76 rfl ?_
        refine ks_pureV1 hκ 77 dX7_ofEdge_77 kc_X7_174 (c_Model_kittensAt hM hS hmd hve) hM rfl (by decide) (Nat.le_of_ble_eq_true rfl) (by decide) (by decide) ?_
        refine ks_iret hκ 80 hRt dX7_ofEdge_80 (by decide) (by decide) rfl ?_
        have hq : kEdQ (se, tu, ki, ma, re, kf, L, P) (nI ve) (nI 2) = kEdN (se, tu, ki, ma, re, kf, L, P) ve 2 := by
          unfold kEdQ
          rw [if_neg c4, nI_clamp (by omega), kSw_in (by decide) (by decide)]
        exact ⟨by rw [hq]; rfl, rfl⟩
      · skip
        refine ks_top (nI 3) hs10 ?_
        refine ks_tableIn hκ 10 81 dX7_ofEdge_10 (off := 71) (by decide) (by decide) (by decide) rfl ?_
        subst hs10
        refine ks_aload_n hκ 81 0 dX7_ofEdge_81 rfl ?_
        refine ks_iload_n hκ 82 1 dX7_ofEdge_82 rfl ?_
        refine ks_pureV1 hκ 83 dX7_ofEdge_83 kc_X7_177 (c_Model_pairsAt hM hS hmd hve) hM rfl (by decide) (Nat.le_of_ble_eq_true rfl) (by decide) (by decide) ?_
        refine ks_iret hκ 86 hRt dX7_ofEdge_86 (by decide) (by decide) rfl ?_
        have hq : kEdQ (se, tu, ki, ma, re, kf, L, P) (nI ve) (nI 3) = kEdN (se, tu, ki, ma, re, kf, L, P) ve 3 := by
          unfold kEdQ
          rw [if_neg c4, nI_clamp (by omega), kSw_in (by decide) (by decide)]
        exact ⟨by rw [hq]; rfl, rfl⟩
  · skip
    refine ks_iconst hκ 7 (-1) dX7_ofEdge_7 kq_im1 ?_
    refine ks_iret hκ 8 hRt dX7_ofEdge_8 (by decide) (by decide) rfl ?_
    exact ⟨by unfold kEdQ; rw [if_pos c4], rfl⟩
set_option maxRecDepth 100000 in
set_option maxHeartbeats 4000000 in
theorem c_Model_of {g : ks_G} {h : ks_H} {m : Nat} {fs : List Value} {f : Nat → Int32} {se : Nat → Int32} {tu : Int32} {ki : Nat} {ma re : Int32} {kf : Nat → Nat → Int32} {L : List (Nat × Nat)} {P : List kP} {x z : Int32} (hM : h[m]? = some (ks_O 7 (ks_ref g (m + 1) :: fs))) (hS : h[m + 1]? = some (ks_I g 3400 f)) (hmd : kMd f 0 (se, tu, ki, ma, re, kf, L, P)) (hok : kOk2 (se, tu, ki, ma, re, kf, L, P)) : ks_Met g (yX7_of, cX7_of, 4, some .int) 7 0 0 [ks_ref g m, .int x, .int z] h (ks_Pi (kOfQ (se, tu, ki, ma, re, kf, L, P) x z) h) := by
  obtain ⟨mS, m4, m5, m6, m7, m8, m9, mK, mP, mL, mki, mLl, mPl, mLp, mPp⟩ := id hmd
  dsimp only at mS m4 m5 m6 m7 m8 m9 mK mP mL mki mLl mPl mLp mPp
  refine ks_intro (by decide) (Nat.le_of_ble_eq_true rfl) (fun κ hκ hRt => ?_)
  refine ks_cv (ls := [(0, ks_ref g m), (1, .int x), (2, .int z)]) ?_ rfl rfl rfl
  refine ks_aload_n hκ 0 0 dX7_of_0 rfl ?_
  refine ks_iload_n hκ 1 1 dX7_of_1 rfl ?_
  refine ks_pureV1 hκ 2 dX7_of_2 kc_X7_103 (c_Model_isKitten hM hS hmd) hM rfl (by decide) (Nat.le_of_ble_eq_true rfl) (by decide) (by decide) ?_
  refine ks_if_ne hκ 5 10 dX7_of_5 rfl (fun c5 => ?_) (fun c5 => ?_)
  · skip
    obtain ⟨vj, hvj, rfl⟩ := kHas_1 c5 mki
    obtain ⟨vs, hvs, hvs2⟩ := hok.1 vj hvj
    have hvj : vj < ki := hvj
    refine ks_iconst hκ 10 (nI 0) dX7_of_10 kq_i0 ?_
    refine ks_iload_n hκ 11 1 dX7_of_11 rfl ?_
    refine ks_pureS2 hκ 12 dX7_of_12 kc_X7_28 (c_Model_kittenAt (b := 0)) (by decide) (Nat.le_of_ble_eq_true rfl) (by decide) (by decide) ?_
    refine ks_istore_n hκ 15 3 [(3, _), (0, _), (1, _), (2, _)] dX7_of_15 rfl (by decide) rfl ?_
    refine ks_iload_n hκ 16 3 dX7_of_16 rfl ?_
    rcases ks_sw z 0 9 (by decide) with hs17 | hs17 | ⟨sj17, ha17, hb17, hs17⟩
    · skip
      refine ks_tableOut hκ 17 113 dX7_of_17 (Or.inl hs17) rfl ?_
      refine ks_bipush hκ 113 (-2) dX7_of_113 kq_bm2 ?_
      refine ks_iret hκ 115 hRt dX7_of_115 (by decide) (by decide) rfl ?_
      exact ⟨by unfold kOfQ; rw [if_neg c5]; first | rw [kSw_lo hs17] | rw [kSw_hi hs17], rfl⟩
    · skip
      refine ks_tableOut hκ 17 113 dX7_of_17 (Or.inr hs17) rfl ?_
      refine ks_bipush hκ 113 (-2) dX7_of_113 kq_bm2 ?_
      refine ks_iret hκ 115 hRt dX7_of_115 (by decide) (by decide) rfl ?_
      exact ⟨by unfold kOfQ; rw [if_neg c5]; first | rw [kSw_lo hs17] | rw [kSw_hi hs17], rfl⟩
    · skip
      rcases (show sj17 = 0 ∨ sj17 = 1 ∨ sj17 = 2 ∨ sj17 = 3 ∨ sj17 = 4 ∨ sj17 = 5 ∨ sj17 = 6 ∨ sj17 = 7 ∨ sj17 = 8 ∨ sj17 = 9 by omega) with rfl | rfl | rfl | rfl | rfl | rfl | rfl | rfl | rfl | rfl
      · skip
        refine ks_top (nI 0) hs17 ?_
        refine ks_tableIn hκ 17 72 dX7_of_17 (off := 55) (by decide) (by decide) (by decide) rfl ?_
        subst hs17
        refine ks_aload_n hκ 72 1 dX7_of_72 rfl ?_
        refine ks_get hκ 73 dX7_of_73 kf_X7_7 hM rfl ?_
        refine ks_iload_n hκ 76 0 dX7_of_76 rfl ?_
        refine ks_iload_n hκ 77 3 dX7_of_77 rfl ?_
        refine ks_iaddN hκ 78 dX7_of_78 ?_
        refine ks_iald hκ 79 (((0 + 10 + 7 * vj) + 0)) dX7_of_79 hS rfl (by omega) (by decide) ?_
        refine ks_iret hκ 80 hRt dX7_of_80 (by decide) (by decide) rfl ?_
        have hq : kOfQ (se, tu, ki, ma, re, kf, L, P) (nI vj) (nI 0) = kOfN (se, tu, ki, ma, re, kf, L, P) vj 0 := by
          unfold kOfQ
          rw [if_neg c5, nI_clamp (by omega), kSw_in (by decide) (by decide)]
        exact ⟨by rw [hq]; exact congrArg (fun q => some (Value.int q)) (mK vj 0 hvj (by decide)), rfl⟩
      · skip
        refine ks_top (nI 1) hs17 ?_
        refine ks_tableIn hκ 17 72 dX7_of_17 (off := 55) (by decide) (by decide) (by decide) rfl ?_
        subst hs17
        refine ks_aload_n hκ 72 1 dX7_of_72 rfl ?_
        refine ks_get hκ 73 dX7_of_73 kf_X7_7 hM rfl ?_
        refine ks_iload_n hκ 76 0 dX7_of_76 rfl ?_
        refine ks_iload_n hκ 77 3 dX7_of_77 rfl ?_
        refine ks_iaddN hκ 78 dX7_of_78 ?_
        refine ks_iald hκ 79 (((0 + 10 + 7 * vj) + 1)) dX7_of_79 hS rfl (by omega) (by decide) ?_
        refine ks_iret hκ 80 hRt dX7_of_80 (by decide) (by decide) rfl ?_
        have hq : kOfQ (se, tu, ki, ma, re, kf, L, P) (nI vj) (nI 1) = kOfN (se, tu, ki, ma, re, kf, L, P) vj 1 := by
          unfold kOfQ
          rw [if_neg c5, nI_clamp (by omega), kSw_in (by decide) (by decide)]
        exact ⟨by rw [hq]; exact congrArg (fun q => some (Value.int q)) (mK vj 1 hvj (by decide)), rfl⟩
      · skip
        refine ks_top (nI 2) hs17 ?_
        refine ks_tableIn hκ 17 72 dX7_of_17 (off := 55) (by decide) (by decide) (by decide) rfl ?_
        subst hs17
        refine ks_aload_n hκ 72 1 dX7_of_72 rfl ?_
        refine ks_get hκ 73 dX7_of_73 kf_X7_7 hM rfl ?_
        refine ks_iload_n hκ 76 0 dX7_of_76 rfl ?_
        refine ks_iload_n hκ 77 3 dX7_of_77 rfl ?_
        refine ks_iaddN hκ 78 dX7_of_78 ?_
        refine ks_iald hκ 79 (((0 + 10 + 7 * vj) + 2)) dX7_of_79 hS rfl (by omega) (by decide) ?_
        refine ks_iret hκ 80 hRt dX7_of_80 (by decide) (by decide) rfl ?_
        have hq : kOfQ (se, tu, ki, ma, re, kf, L, P) (nI vj) (nI 2) = kOfN (se, tu, ki, ma, re, kf, L, P) vj 2 := by
          unfold kOfQ
          rw [if_neg c5, nI_clamp (by omega), kSw_in (by decide) (by decide)]
        exact ⟨by rw [hq]; exact congrArg (fun q => some (Value.int q)) (mK vj 2 hvj (by decide)), rfl⟩
      · skip
        refine ks_top (nI 3) hs17 ?_
        refine ks_tableIn hκ 17 72 dX7_of_17 (off := 55) (by decide) (by decide) (by decide) rfl ?_
        subst hs17
        refine ks_aload_n hκ 72 1 dX7_of_72 rfl ?_
        refine ks_get hκ 73 dX7_of_73 kf_X7_7 hM rfl ?_
        refine ks_iload_n hκ 76 0 dX7_of_76 rfl ?_
        refine ks_iload_n hκ 77 3 dX7_of_77 rfl ?_
        refine ks_iaddN hκ 78 dX7_of_78 ?_
        refine ks_iald hκ 79 (((0 + 10 + 7 * vj) + 3)) dX7_of_79 hS rfl (by omega) (by decide) ?_
        refine ks_iret hκ 80 hRt dX7_of_80 (by decide) (by decide) rfl ?_
        have hq : kOfQ (se, tu, ki, ma, re, kf, L, P) (nI vj) (nI 3) = kOfN (se, tu, ki, ma, re, kf, L, P) vj 3 := by
          unfold kOfQ
          rw [if_neg c5, nI_clamp (by omega), kSw_in (by decide) (by decide)]
        exact ⟨by rw [hq]; exact congrArg (fun q => some (Value.int q)) (mK vj 3 hvj (by decide)), rfl⟩
      · skip
        refine ks_top (nI 4) hs17 ?_
        refine ks_tableIn hκ 17 81 dX7_of_17 (off := 64) (by decide) (by decide) (by decide) rfl ?_
        subst hs17
        refine ks_aload_n hκ 81 1 dX7_of_81 rfl ?_
        refine ks_iload_n hκ 82 2 dX7_of_82 rfl ?_
        refine ks_pureV1 hκ 83 dX7_of_83 kc_X7_165 (c_Model_strandsOf hM hS hmd (show vj < 6 by omega)) hM rfl (by decide) (Nat.le_of_ble_eq_true rfl) (by decide) (by decide) ?_
        refine ks_iret hκ 86 hRt dX7_of_86 (by decide) (by decide) rfl ?_
        have hq : kOfQ (se, tu, ki, ma, re, kf, L, P) (nI vj) (nI 4) = kOfN (se, tu, ki, ma, re, kf, L, P) vj 4 := by
          unfold kOfQ
          rw [if_neg c5, nI_clamp (by omega), kSw_in (by decide) (by decide)]
        exact ⟨by rw [hq]; rfl, rfl⟩
      · skip
        refine ks_top (nI 5) hs17 ?_
        refine ks_tableIn hκ 17 87 dX7_of_17 (off := 70) (by decide) (by decide) (by decide) rfl ?_
        subst hs17
        refine ks_aload_n hκ 87 1 dX7_of_87 rfl ?_
        refine ks_get hκ 88 dX7_of_88 kf_X7_7 hM rfl ?_
        refine ks_iload_n hκ 91 0 dX7_of_91 rfl ?_
        refine ks_iconst hκ 92 (nI 4) dX7_of_92 kq_i4 ?_
        refine ks_iaddN hκ 93 dX7_of_93 ?_
        refine ks_iload_n hκ 94 3 dX7_of_94 rfl ?_
        refine ks_iaddN hκ 95 dX7_of_95 ?_
        refine ks_iconst hκ 96 (nI 5) dX7_of_96 kq_i5 ?_
        refine ks_isubN hκ 97 dX7_of_97 (by omega) ?_
        refine ks_iald hκ 98 (((((0 + 10 + 7 * vj) + 4) + 5) - 5)) dX7_of_98 hS rfl (by omega) (by decide) ?_
        refine ks_iret hκ 99 hRt dX7_of_99 (by decide) (by decide) rfl ?_
        have hq : kOfQ (se, tu, ki, ma, re, kf, L, P) (nI vj) (nI 5) = kOfN (se, tu, ki, ma, re, kf, L, P) vj 5 := by
          unfold kOfQ
          rw [if_neg c5, nI_clamp (by omega), kSw_in (by decide) (by decide)]
        exact ⟨by rw [hq]; exact congrArg (fun q => some (Value.int q)) ((congrArg f (show 0 + 10 + 7 * vj + 4 + 5 - 5 = 0 + 10 + 7 * vj + 4 by omega)).trans (mK vj 4 hvj (by decide))), rfl⟩
      · skip
        refine ks_top (nI 6) hs17 ?_
        refine ks_tableIn hκ 17 87 dX7_of_17 (off := 70) (by decide) (by decide) (by decide) rfl ?_
        subst hs17
        refine ks_aload_n hκ 87 1 dX7_of_87 rfl ?_
        refine ks_get hκ 88 dX7_of_88 kf_X7_7 hM rfl ?_
        refine ks_iload_n hκ 91 0 dX7_of_91 rfl ?_
        refine ks_iconst hκ 92 (nI 4) dX7_of_92 kq_i4 ?_
        refine ks_iaddN hκ 93 dX7_of_93 ?_
        refine ks_iload_n hκ 94 3 dX7_of_94 rfl ?_
        refine ks_iaddN hκ 95 dX7_of_95 ?_
        refine ks_iconst hκ 96 (nI 5) dX7_of_96 kq_i5 ?_
        refine ks_isubN hκ 97 dX7_of_97 (by omega) ?_
        refine ks_iald hκ 98 (((((0 + 10 + 7 * vj) + 4) + 6) - 5)) dX7_of_98 hS rfl (by omega) (by decide) ?_
        refine ks_iret hκ 99 hRt dX7_of_99 (by decide) (by decide) rfl ?_
        have hq : kOfQ (se, tu, ki, ma, re, kf, L, P) (nI vj) (nI 6) = kOfN (se, tu, ki, ma, re, kf, L, P) vj 6 := by
          unfold kOfQ
          rw [if_neg c5, nI_clamp (by omega), kSw_in (by decide) (by decide)]
        exact ⟨by rw [hq]; exact congrArg (fun q => some (Value.int q)) ((congrArg f (show 0 + 10 + 7 * vj + 4 + 6 - 5 = 0 + 10 + 7 * vj + 5 by omega)).trans (mK vj 5 hvj (by decide))), rfl⟩
      · skip
        refine ks_top (nI 7) hs17 ?_
        refine ks_tableIn hκ 17 87 dX7_of_17 (off := 70) (by decide) (by decide) (by decide) rfl ?_
        subst hs17
        refine ks_aload_n hκ 87 1 dX7_of_87 rfl ?_
        refine ks_get hκ 88 dX7_of_88 kf_X7_7 hM rfl ?_
        refine ks_iload_n hκ 91 0 dX7_of_91 rfl ?_
        refine ks_iconst hκ 92 (nI 4) dX7_of_92 kq_i4 ?_
        refine ks_iaddN hκ 93 dX7_of_93 ?_
        refine ks_iload_n hκ 94 3 dX7_of_94 rfl ?_
        refine ks_iaddN hκ 95 dX7_of_95 ?_
        refine ks_iconst hκ 96 (nI 5) dX7_of_96 kq_i5 ?_
        refine ks_isubN hκ 97 dX7_of_97 (by omega) ?_
        refine ks_iald hκ 98 (((((0 + 10 + 7 * vj) + 4) + 7) - 5)) dX7_of_98 hS rfl (by omega) (by decide) ?_
        refine ks_iret hκ 99 hRt dX7_of_99 (by decide) (by decide) rfl ?_
        have hq : kOfQ (se, tu, ki, ma, re, kf, L, P) (nI vj) (nI 7) = kOfN (se, tu, ki, ma, re, kf, L, P) vj 7 := by
          unfold kOfQ
          rw [if_neg c5, nI_clamp (by omega), kSw_in (by decide) (by decide)]
        exact ⟨by rw [hq]; exact congrArg (fun q => some (Value.int q)) ((congrArg f (show 0 + 10 + 7 * vj + 4 + 7 - 5 = 0 + 10 + 7 * vj + 6 by omega)).trans (mK vj 6 hvj (by decide))), rfl⟩
      · skip
        refine ks_top (nI 8) hs17 ?_
        refine ks_tableIn hκ 17 100 dX7_of_17 (off := 83) (by decide) (by decide) (by decide) rfl ?_
        subst hs17
        refine ks_aload_n hκ 100 1 dX7_of_100 rfl ?_
        refine ks_iconst hκ 101 (nI 0) dX7_of_101 kq_i0 ?_
        refine ks_iload_n hκ 102 2 dX7_of_102 rfl ?_
        refine ks_pureV2 hκ 103 dX7_of_103 kc_X7_53 (c_Model_boundTo (b := 0) hM hS (by decide) hmd (show vj < 6 by omega)) hM rfl (by decide) (Nat.le_of_ble_eq_true rfl) (by decide) (by decide) ?_
        refine ks_iret hκ 106 hRt dX7_of_106 (by decide) (by decide) rfl ?_
        have hq : kOfQ (se, tu, ki, ma, re, kf, L, P) (nI vj) (nI 8) = kOfN (se, tu, ki, ma, re, kf, L, P) vj 8 := by
          unfold kOfQ
          rw [if_neg c5, nI_clamp (by omega), kSw_in (by decide) (by decide)]
        exact ⟨by rw [hq]; rfl, rfl⟩
      · skip
        refine ks_top (nI 9) hs17 ?_
        refine ks_tableIn hκ 17 107 dX7_of_17 (off := 90) (by decide) (by decide) (by decide) rfl ?_
        subst hs17
        refine ks_aload_n hκ 107 1 dX7_of_107 rfl ?_
        refine ks_iload_n hκ 108 2 dX7_of_108 rfl ?_
        refine ks_pureV1 hκ 109 dX7_of_109 kc_X7_168 (c_Model_stepsOf hM hS hmd hvj hvs hvs2) hM rfl (by decide) (Nat.le_of_ble_eq_true rfl) (by decide) (by decide) ?_
        refine ks_iret hκ 112 hRt dX7_of_112 (by decide) (by decide) rfl ?_
        have hq : kOfQ (se, tu, ki, ma, re, kf, L, P) (nI vj) (nI 9) = kOfN (se, tu, ki, ma, re, kf, L, P) vj 9 := by
          unfold kOfQ
          rw [if_neg c5, nI_clamp (by omega), kSw_in (by decide) (by decide)]
        exact ⟨by rw [hq]; rfl, rfl⟩
  · skip
    refine ks_iconst hκ 8 (-1) dX7_of_8 kq_im1 ?_
    refine ks_iret hκ 9 hRt dX7_of_9 (by decide) (by decide) rfl ?_
    exact ⟨by unfold kOfQ; rw [if_pos c5], rfl⟩
set_option maxRecDepth 100000 in
set_option maxHeartbeats 4000000 in
theorem c_Model_strand {g : ks_G} {h : ks_H} {m : Nat} {fs : List Value} {f : Nat → Int32} {se : Nat → Int32} {tu : Int32} {ki : Nat} {ma re : Int32} {kf : Nat → Nat → Int32} {L : List (Nat × Nat)} {P : List kP} {x z : Int32} (hM : h[m]? = some (ks_O 7 (ks_ref g (m + 1) :: fs))) (hS : h[m + 1]? = some (ks_I g 3400 f)) (hmd : kMd f 0 (se, tu, ki, ma, re, kf, L, P)) : ks_Met g (yX7_strand, cX7_strand, 5, some .int) 2 0 0 [ks_ref g m, .int x, .int z] h (ks_Pi (kStQ (se, tu, ki, ma, re, kf, L, P) x z) h) := by
  obtain ⟨mS, m4, m5, m6, m7, m8, m9, mK, mP, mL, mki, mLl, mPl, mLp, mPp⟩ := id hmd
  dsimp only at mS m4 m5 m6 m7 m8 m9 mK mP mL mki mLl mPl mLp mPp
  refine ks_intro (by decide) (Nat.le_of_ble_eq_true rfl) (fun κ hκ hRt => ?_)
  refine ks_cv (ls := [(0, ks_ref g m), (1, .int x), (2, .int z)]) ?_ rfl rfl rfl
  refine ks_iload_n hκ 0 1 dX7_strand_0 rfl ?_
  refine ks_pureS1 hκ 1 dX7_strand_1 kc_X7_110 (c_Model_isEdge) (by decide) (Nat.le_of_ble_eq_true rfl) (by decide) (by decide) ?_
  refine ks_if_eq hκ 4 24 dX7_strand_4 rfl (fun c4 => ?_) (fun c4 => ?_)
  · skip
    refine ks_iconst hκ 24 (-1) dX7_strand_24 kq_im1 ?_
    refine ks_iret hκ 25 hRt dX7_strand_25 (by decide) (by decide) rfl ?_
    refine ⟨?_, rfl⟩
    unfold kStQ
    first | rw [if_pos c4] | (rw [if_neg c4, nI_clamp (by omega)]; exact congrArg (fun q => some (Value.int q)) hro.symm)
  · skip
    obtain ⟨ve, hve, rfl⟩ := kIsE_1 c4
    have hal := kAt_le ve L
    refine ks_iload_n hκ 7 2 dX7_strand_7 rfl ?_
    refine ks_i2l hκ 8 dX7_strand_8 ?_
    refine ks_lconst hκ 9 0 dX7_strand_9 rfl ?_
    refine ks_aload_n hκ 10 0 dX7_strand_10 rfl ?_
    refine ks_iload_n hκ 11 1 dX7_strand_11 rfl ?_
    refine ks_pureV1 hκ 12 dX7_strand_12 kc_X7_171 (c_Model_thickness hM hS hmd hve) hM rfl (by decide) (Nat.le_of_ble_eq_true rfl) (by decide) (by decide) ?_
    refine ks_iconst hκ 15 (nI 1) dX7_strand_15 kq_i1 ?_
    refine ks_isub hκ 16 dX7_strand_16 ?_
    refine ks_i2l hκ 17 dX7_strand_17 ?_
    refine ks_pureS3 hκ 18 dX7_strand_18 kc_X7_70 (c_Model_in) (by decide) (Nat.le_of_ble_eq_true rfl) (by decide) (by decide) ?_
    refine ks_if_ne hκ 21 26 dX7_strand_21 rfl (fun c21 => ?_) (fun c21 => ?_)
    · skip
      rw [kIn_R (show kAt ve L ≤ 240 by omega)] at c21
      obtain ⟨vr, hvr, rfl⟩ : ∃ vr, vr < kAt ve L ∧ z = nI vr := by
        rcases pk_ix z (n := kAt ve L) (by omega) with q | q | q
        · rw [if_pos q] at c21; exact absurd rfl c21
        · by_cases q1 : z < 0
          · rw [if_pos q1] at c21; exact absurd rfl c21
          · rw [if_neg q1, if_pos q] at c21; exact absurd rfl c21
        · exact q
      refine ks_iload_n hκ 26 2 dX7_strand_26 rfl ?_
      refine ks_istore_n hκ 27 3 [(3, _), (0, _), (1, _), (2, _)] dX7_strand_27 rfl (by decide) rfl ?_
      refine ks_iconst hκ 28 (nI 0) dX7_strand_28 kq_i0 ?_
      refine ks_istore hκ 29 4 [(4, _), (3, _), (0, _), (1, _), (2, _)] dX7_strand_29 (by decide) rfl ?_
      have L31 : ∀ (fuel : Nat) (vk vc : Nat) (hvk : vk ≤ L.length) (hvc : vc ≤ vr) (hvr2 : vr < vc + kAt ve (L.drop vk)) (hinv : kRank ve (nI vr) (L.drop vk) vc = kRank ve (nI vr) L 0) (hfuel : L.length - vk < fuel), ks_K κ g 5 h 0 0 31 [(0, ks_ref g m), (1, .int (nI ve)), (2, .int (nI vr)), (3, .int (nI (vr - vc))), (4, .int (nI vk))] [] := by
        intro fuel
        induction fuel with
        | zero => intro vk vc  hvk hvc hvr2 hinv hfuel; exact absurd hfuel (Nat.not_lt_zero _)
        | succ fuel ih =>
          intro vk vc  hvk hvc hvr2 hinv hfuel
          have hvk2 : vk < L.length := by
            by_cases q : vk < L.length
            · exact q
            · rw [kdropN (by omega)] at hvr2; exact absurd (show vr < vc + 0 from hvr2) (by omega)
          obtain ⟨⟨p1, p2⟩, hp⟩ := kget hvk2
          have hp6 := (mLp (p1, p2) (List.mem_of_getElem? hp)).2
          dsimp only at hp6
          rw [kdrop hp, kAt_cons] at hvr2
          rw [kdrop hp, kRank] at hinv
          dsimp only at hvr2 hinv
          refine ks_iload_n hκ 31 3 dX7_strand_31 rfl ?_
          refine ks_if_gt hκ 32 48 dX7_strand_32 rfl (fun c32 => ?_) (fun c32 => ?_)
          · skip
            have c32 := (ks_gt0 (by omega)).mp c32
            refine ks_iload_n hκ 48 3 dX7_strand_48 rfl ?_
            refine ks_aload_n hκ 49 0 dX7_strand_49 rfl ?_
            refine ks_iconst hκ 50 (nI 0) dX7_strand_50 kq_i0 ?_
            refine ks_iload hκ 51 4 dX7_strand_51 rfl ?_
            refine ks_iload_n hκ 53 1 dX7_strand_53 rfl ?_
            refine ks_pureV3 hκ 54 dX7_strand_54 kc_X7_32 (c_Model_ownerAt (b := 0) hM hS (by decide) hmd hp hve) hM rfl (by decide) (Nat.le_of_ble_eq_true rfl) (by decide) (by decide) ?_
            refine ks_bipush hκ 57 (-6) dX7_strand_57 kq_bm6 ?_
            refine ks_icmp_ne hκ 59 66 dX7_strand_59 rfl (fun c59 => ?_) (fun c59 => ?_)
            · skip
              have hpe : p1 = ve := by
                by_cases q : p1 = ve
                · exact q
                · exact absurd (if_neg q) c59
              refine ks_iconst hκ 66 (nI 1) dX7_strand_66 kq_i1 ?_
              refine ks_isubN hκ 67 dX7_strand_67 (by omega) ?_
              refine ks_istore_n hκ 68 3 [(3, _), (0, _), (1, _), (2, _), (4, _)] dX7_strand_68 rfl (by decide) rfl ?_
              refine ks_iinc hκ 69 4 4 (nI (vk + 1)) [(4, _), (3, _), (0, _), (1, _), (2, _)] dX7_strand_69 rfl (ks_inc1 _) (by decide) rfl ?_
              refine ks_goto hκ 72 31 dX7_strand_72 rfl ?_
              refine ks_pick [2, 3, 4, 1, 0] [(0, _), (1, _), (2, _), (3, _), (4, _)] rfl ?_
              exact ks_cv (ih (vk + 1) (vc + 1)  (by omega) (by omega) (by rw [if_pos hpe] at hvr2; omega) (by rw [if_pos hpe, if_neg (fun q => by have := (nI_eq (by omega) (by omega)).mp q; omega)] at hinv; exact hinv) (by omega)) rfl rfl rfl
            · skip
              have hpe : ¬ p1 = ve := fun q => by rw [if_pos q] at c59; exact nI_m6 (by omega) c59
              refine ks_iconst hκ 62 (nI 0) dX7_strand_62 kq_i0 ?_
              refine ks_goto hκ 63 67 dX7_strand_63 rfl ?_
              refine ks_isubN hκ 67 dX7_strand_67 (by omega) ?_
              refine ks_istore_n hκ 68 3 [(3, _), (0, _), (1, _), (2, _), (4, _)] dX7_strand_68 rfl (by decide) rfl ?_
              refine ks_iinc hκ 69 4 4 (nI (vk + 1)) [(4, _), (3, _), (0, _), (1, _), (2, _)] dX7_strand_69 rfl (ks_inc1 _) (by decide) rfl ?_
              refine ks_goto hκ 72 31 dX7_strand_72 rfl ?_
              refine ks_pick [2, 3, 4, 1, 0] [(0, _), (1, _), (2, _), (3, _), (4, _)] rfl ?_
              exact ks_cv (ih (vk + 1) vc  (by omega) (by omega) (by rw [if_neg hpe] at hvr2; omega) (by rw [if_neg hpe] at hinv; exact hinv) (by omega)) rfl rfl rfl
          · skip
            have c32 := mt (ks_gt0 (by omega)).mpr c32
            refine ks_aload_n hκ 35 0 dX7_strand_35 rfl ?_
            refine ks_iconst hκ 36 (nI 0) dX7_strand_36 kq_i0 ?_
            refine ks_iload hκ 37 4 dX7_strand_37 rfl ?_
            refine ks_iload_n hκ 39 1 dX7_strand_39 rfl ?_
            refine ks_pureV3 hκ 40 dX7_strand_40 kc_X7_32 (c_Model_ownerAt (b := 0) hM hS (by decide) hmd hp hve) hM rfl (by decide) (Nat.le_of_ble_eq_true rfl) (by decide) (by decide) ?_
            refine ks_bipush hκ 43 (-6) dX7_strand_43 kq_bm6 ?_
            refine ks_icmp_ne hκ 45 75 dX7_strand_45 rfl (fun c45 => ?_) (fun c45 => ?_)
            · skip
              have hpe : p1 = ve := by
                by_cases q : p1 = ve
                · exact q
                · exact absurd (if_neg q) c45
              refine ks_aload_n hκ 75 0 dX7_strand_75 rfl ?_
              refine ks_iconst hκ 76 (nI 0) dX7_strand_76 kq_i0 ?_
              refine ks_iload hκ 77 4 dX7_strand_77 rfl ?_
              refine ks_iload_n hκ 79 1 dX7_strand_79 rfl ?_
              refine ks_pureV3 hκ 80 dX7_strand_80 kc_X7_32 (c_Model_ownerAt (b := 0) hM hS (by decide) hmd hp hve) hM rfl (by decide) (Nat.le_of_ble_eq_true rfl) (by decide) (by decide) ?_
              refine ks_iret hκ 83 hRt dX7_strand_83 (by decide) (by decide) rfl ?_
              refine ⟨?_, rfl⟩
              have hq : kStQ (se, tu, ki, ma, re, kf, L, P) (nI ve) (nI vr) = nI p2 := by
                unfold kStQ
                rw [if_neg c4, nI_clamp (by omega)]
                rw [if_pos hpe, if_pos (by rw [show vc = vr by omega])] at hinv
                exact hinv.symm
              rw [hq, if_pos hpe]
            · skip
              have hpe : ¬ p1 = ve := fun q => by rw [if_pos q] at c45; exact nI_m6 (by omega) c45
              refine ks_iload_n hκ 48 3 dX7_strand_48 rfl ?_
              refine ks_aload_n hκ 49 0 dX7_strand_49 rfl ?_
              refine ks_iconst hκ 50 (nI 0) dX7_strand_50 kq_i0 ?_
              refine ks_iload hκ 51 4 dX7_strand_51 rfl ?_
              refine ks_iload_n hκ 53 1 dX7_strand_53 rfl ?_
              refine ks_pureV3 hκ 54 dX7_strand_54 kc_X7_32 (c_Model_ownerAt (b := 0) hM hS (by decide) hmd hp hve) hM rfl (by decide) (Nat.le_of_ble_eq_true rfl) (by decide) (by decide) ?_
              refine ks_bipush hκ 57 (-6) dX7_strand_57 kq_bm6 ?_
              refine ks_icmp_ne hκ 59 66 dX7_strand_59 rfl (fun c59 => ?_) (fun c59 => ?_)
              · skip
                have hpe : p1 = ve := by
                  by_cases q : p1 = ve
                  · exact q
                  · exact absurd (if_neg q) c59
                refine ks_iconst hκ 66 (nI 1) dX7_strand_66 kq_i1 ?_
                refine ks_isubN hκ 67 dX7_strand_67 (by omega) ?_
                refine ks_istore_n hκ 68 3 [(3, _), (0, _), (1, _), (2, _), (4, _)] dX7_strand_68 rfl (by decide) rfl ?_
                refine ks_iinc hκ 69 4 4 (nI (vk + 1)) [(4, _), (3, _), (0, _), (1, _), (2, _)] dX7_strand_69 rfl (ks_inc1 _) (by decide) rfl ?_
                refine ks_goto hκ 72 31 dX7_strand_72 rfl ?_
                refine ks_pick [2, 3, 4, 1, 0] [(0, _), (1, _), (2, _), (3, _), (4, _)] rfl ?_
                exact ks_cv (ih (vk + 1) (vc + 1)  (by omega) (by omega) (by rw [if_pos hpe] at hvr2; omega) (by rw [if_pos hpe, if_neg (fun q => by have := (nI_eq (by omega) (by omega)).mp q; omega)] at hinv; exact hinv) (by omega)) rfl rfl rfl
              · skip
                have hpe : ¬ p1 = ve := fun q => by rw [if_pos q] at c59; exact nI_m6 (by omega) c59
                refine ks_iconst hκ 62 (nI 0) dX7_strand_62 kq_i0 ?_
                refine ks_goto hκ 63 67 dX7_strand_63 rfl ?_
                refine ks_isubN hκ 67 dX7_strand_67 (by omega) ?_
                refine ks_istore_n hκ 68 3 [(3, _), (0, _), (1, _), (2, _), (4, _)] dX7_strand_68 rfl (by decide) rfl ?_
                refine ks_iinc hκ 69 4 4 (nI (vk + 1)) [(4, _), (3, _), (0, _), (1, _), (2, _)] dX7_strand_69 rfl (ks_inc1 _) (by decide) rfl ?_
                refine ks_goto hκ 72 31 dX7_strand_72 rfl ?_
                refine ks_pick [2, 3, 4, 1, 0] [(0, _), (1, _), (2, _), (3, _), (4, _)] rfl ?_
                exact ks_cv (ih (vk + 1) vc  (by omega) (by omega) (by rw [if_neg hpe] at hvr2; omega) (by rw [if_neg hpe] at hinv; exact hinv) (by omega)) rfl rfl rfl
      refine ks_pick [2, 3, 4, 1, 0] [(0, _), (1, _), (2, _), (3, _), (4, _)] rfl ?_
      exact ks_cv (L31 _ 0 0  (Nat.zero_le _) (Nat.zero_le _) (by rw [Nat.zero_add]; exact hvr) rfl (Nat.lt_succ_self _)) rfl rfl rfl
    · skip
      rw [kIn_R (show kAt ve L ≤ 240 by omega)] at c21
      have hro : kRank ve z L 0 = -1 := kRank_out L 0 (fun d _ h2 q => by
        rw [Nat.zero_add] at h2
        rw [← q, if_neg (nI_pos (by omega)), if_neg (fun q2 => by have := (nI_leI (by omega) (by omega)).mp q2; omega)] at c21
        exact absurd c21 (by decide))
      refine ks_iconst hκ 24 (-1) dX7_strand_24 kq_im1 ?_
      refine ks_iret hκ 25 hRt dX7_strand_25 (by decide) (by decide) rfl ?_
      refine ⟨?_, rfl⟩
      unfold kStQ
      first | rw [if_pos c4] | (rw [if_neg c4, nI_clamp (by omega)]; exact congrArg (fun q => some (Value.int q)) hro.symm)
set_option maxRecDepth 100000 in
set_option maxHeartbeats 4000000 in
theorem c_Model_bound {g : ks_G} {h : ks_H} {m : Nat} {fs : List Value} {f : Nat → Int32} {se : Nat → Int32} {tu : Int32} {ki : Nat} {ma re : Int32} {kf : Nat → Nat → Int32} {L : List (Nat × Nat)} {P : List kP} {x z : Int32} (hM : h[m]? = some (ks_O 7 (ks_ref g (m + 1) :: fs))) (hS : h[m + 1]? = some (ks_I g 3400 f)) (hmd : kMd f 0 (se, tu, ki, ma, re, kf, L, P)) : ks_Met g (yX7_bound, cX7_bound, 3, some .int) 3 0 0 [ks_ref g m, .int x, .int z] h (ks_Pi (kBnQ (se, tu, ki, ma, re, kf, L, P) x z) h) := by
  obtain ⟨mS, m4, m5, m6, m7, m8, m9, mK, mP, mL, mki, mLl, mPl, mLp, mPp⟩ := id hmd
  dsimp only at mS m4 m5 m6 m7 m8 m9 mK mP mL mki mLl mPl mLp mPp
  refine ks_intro (by decide) (Nat.le_of_ble_eq_true rfl) (fun κ hκ hRt => ?_)
  refine ks_cv (ls := [(0, ks_ref g m), (1, .int x), (2, .int z)]) ?_ rfl rfl rfl
  refine ks_aload_n hκ 0 0 dX7_bound_0 rfl ?_
  refine ks_iload_n hκ 1 1 dX7_bound_1 rfl ?_
  refine ks_pureV1 hκ 2 dX7_bound_2 kc_X7_103 (c_Model_isKitten hM hS hmd) hM rfl (by decide) (Nat.le_of_ble_eq_true rfl) (by decide) (by decide) ?_
  refine ks_if_eq hκ 5 16 dX7_bound_5 rfl (fun c5 => ?_) (fun c5 => ?_)
  · skip
    refine ks_iconst hκ 16 (-1) dX7_bound_16 kq_im1 ?_
    refine ks_goto hκ 17 37 dX7_bound_17 rfl ?_
    refine ks_iret hκ 37 hRt dX7_bound_37 (by decide) (by decide) rfl ?_
    refine ⟨?_, rfl⟩
    unfold kBnQ
    first
      | rw [if_pos c5]
      | rw [if_neg c5, if_pos c13]
      | rw [if_neg c5, if_neg c13, if_pos c22]
      | (rw [if_neg c5, if_neg c13, if_neg c22, nI_clamp (by omega), nI_clamp (by omega)])
  · skip
    refine ks_aload_n hκ 8 0 dX7_bound_8 rfl ?_
    refine ks_iload_n hκ 9 2 dX7_bound_9 rfl ?_
    refine ks_pureV1 hκ 10 dX7_bound_10 kc_X7_103 (c_Model_isKitten hM hS hmd) hM rfl (by decide) (Nat.le_of_ble_eq_true rfl) (by decide) (by decide) ?_
    refine ks_if_ne hκ 13 20 dX7_bound_13 rfl (fun c13 => ?_) (fun c13 => ?_)
    · skip
      refine ks_iload_n hκ 20 1 dX7_bound_20 rfl ?_
      refine ks_iload_n hκ 21 2 dX7_bound_21 rfl ?_
      refine ks_icmp_ne hκ 22 30 dX7_bound_22 rfl (fun c22 => ?_) (fun c22 => ?_)
      · skip
        obtain ⟨vj, hvj, rfl⟩ := kHas_1 c5 mki
        obtain ⟨vl, hvl, rfl⟩ := kHas_1 c13 mki
        have hjl : vj ≠ vl := fun q => c22 (by rw [q])
        refine ks_aload_n hκ 30 0 dX7_bound_30 rfl ?_
        refine ks_iconst hκ 31 (nI 0) dX7_bound_31 kq_i0 ?_
        refine ks_iload_n hκ 32 1 dX7_bound_32 rfl ?_
        refine ks_iload_n hκ 33 2 dX7_bound_33 rfl ?_
        refine ks_pureV3 hκ 34 dX7_bound_34 kc_X7_50 (c_Model_boundEdges (b := 0) hM hS (by decide) hmd (show vj < 6 by omega) (show vl < 6 by omega) hjl) hM rfl (by decide) (Nat.le_of_ble_eq_true rfl) (by decide) (by decide) ?_
        refine ks_iret hκ 37 hRt dX7_bound_37 (by decide) (by decide) rfl ?_
        refine ⟨?_, rfl⟩
        unfold kBnQ
        first
          | rw [if_pos c5]
          | rw [if_neg c5, if_pos c13]
          | rw [if_neg c5, if_neg c13, if_pos c22]
          | (rw [if_neg c5, if_neg c13, if_neg c22, nI_clamp (by omega), nI_clamp (by omega)])
      · skip
        refine ks_bipush hκ 25 (-2) dX7_bound_25 kq_bm2 ?_
        refine ks_goto hκ 27 37 dX7_bound_27 rfl ?_
        refine ks_iret hκ 37 hRt dX7_bound_37 (by decide) (by decide) rfl ?_
        refine ⟨?_, rfl⟩
        unfold kBnQ
        first
          | rw [if_pos c5]
          | rw [if_neg c5, if_pos c13]
          | rw [if_neg c5, if_neg c13, if_pos c22]
          | (rw [if_neg c5, if_neg c13, if_neg c22, nI_clamp (by omega), nI_clamp (by omega)])
    · skip
      refine ks_iconst hκ 16 (-1) dX7_bound_16 kq_im1 ?_
      refine ks_goto hκ 17 37 dX7_bound_17 rfl ?_
      refine ks_iret hκ 37 hRt dX7_bound_37 (by decide) (by decide) rfl ?_
      refine ⟨?_, rfl⟩
      unfold kBnQ
      first
        | rw [if_pos c5]
        | rw [if_neg c5, if_pos c13]
        | rw [if_neg c5, if_neg c13, if_pos c22]
        | (rw [if_neg c5, if_neg c13, if_neg c22, nI_clamp (by omega), nI_clamp (by omega)])
set_option maxRecDepth 100000 in
set_option maxHeartbeats 4000000 in
theorem c_Model_napping {g : ks_G} {h : ks_H} {m : Nat} {fs : List Value} {f : Nat → Int32} {se : Nat → Int32} {tu : Int32} {ki : Nat} {ma re : Int32} {kf : Nat → Nat → Int32} {L : List (Nat × Nat)} {P : List kP} (hM : h[m]? = some (ks_O 7 (ks_ref g (m + 1) :: fs))) (hS : h[m + 1]? = some (ks_I g 3400 f)) (hmd : kMd f 0 (se, tu, ki, ma, re, kf, L, P)) : ks_Met g (yX7_napping, cX7_napping, 3, some .int) 2 0 0 [ks_ref g m] h (ks_Pi (kNapSet (se, tu, ki, ma, re, kf, L, P)) h) := by
  obtain ⟨mS, m4, m5, m6, m7, m8, m9, mK, mP, mL, mki, mLl, mPl, mLp, mPp⟩ := id hmd
  dsimp only at mS m4 m5 m6 m7 m8 m9 mK mP mL mki mLl mPl mLp mPp
  refine ks_intro (by decide) (Nat.le_of_ble_eq_true rfl) (fun κ hκ hRt => ?_)
  refine ks_cv (ls := [(0, ks_ref g m)]) ?_ rfl rfl rfl
  refine ks_iconst hκ 0 (nI 0) dX7_napping_0 kq_i0 ?_
  refine ks_istore_n hκ 1 1 [(1, _), (0, _)] dX7_napping_1 rfl (by decide) rfl ?_
  refine ks_iconst hκ 2 (nI 0) dX7_napping_2 kq_i0 ?_
  refine ks_istore_n hκ 3 2 [(2, _), (1, _), (0, _)] dX7_napping_3 rfl (by decide) rfl ?_
  have L4 : ∀ (fuel : Nat) (vj : Nat) (xa : Int32) (hvj : vj ≤ ki) (hinv : ((List.range ki).drop vj).foldl (kNapS kf) xa = kNapSet (se, tu, ki, ma, re, kf, L, P)) (hfuel : ki - vj < fuel), ks_K κ g 3 h 0 0 4 [(0, ks_ref g m), (1, .int xa), (2, .int (nI vj))] [] := by
    intro fuel
    induction fuel with
    | zero => intro vj xa  hvj hinv hfuel; exact absurd hfuel (Nat.not_lt_zero _)
    | succ fuel ih =>
      intro vj xa  hvj hinv hfuel
      refine ks_iload_n hκ 4 2 dX7_napping_4 rfl ?_
      refine ks_aload_n hκ 5 0 dX7_napping_5 rfl ?_
      refine ks_get hκ 6 dX7_napping_6 kf_X7_7 hM rfl ?_
      refine ks_iconst hκ 9 (nI 5) dX7_napping_9 kq_i5 ?_
      refine ks_iald hκ 10 (5) dX7_napping_10 hS rfl (by omega) (by decide) ?_
      refine ks_top (nI ki) m5 ?_
      refine ks_icmp_ge hκ 11 39 dX7_napping_11 rfl (fun c11 => ?_) (fun c11 => ?_)
      · skip
        have c11 := (nI_leI (by omega) (by omega)).mp c11
        refine ks_iload_n hκ 39 1 dX7_napping_39 rfl ?_
        refine ks_iret hκ 40 hRt dX7_napping_40 (by decide) (by decide) rfl ?_
        exact ⟨by rw [← hinv, kdropRN c11]; rfl, rfl⟩
      · skip
        have c11 := mt (nI_leI (by omega) (by omega)).mpr c11
        rw [kdropR (by omega), List.foldl_cons] at hinv
        refine ks_iload_n hκ 14 1 dX7_napping_14 rfl ?_
        refine ks_aload_n hκ 15 0 dX7_napping_15 rfl ?_
        refine ks_iconst hκ 16 (nI 0) dX7_napping_16 kq_i0 ?_
        refine ks_iload_n hκ 17 2 dX7_napping_17 rfl ?_
        refine ks_pureV2 hκ 18 dX7_napping_18 kc_X7_64 (c_Model_naps (b := 0) hM hS (by decide) hmd (show vj < ki by omega)) hM rfl (by decide) (Nat.le_of_ble_eq_true rfl) (by decide) (by decide) ?_
        refine ks_if_eq hκ 21 30 dX7_napping_21 rfl (fun c21 => ?_) (fun c21 => ?_)
        · skip
          refine ks_iconst hκ 30 (nI 0) dX7_napping_30 kq_i0 ?_
          refine ks_ior hκ 31 dX7_napping_31 ?_
          refine ks_istore_n hκ 32 1 [(1, _), (0, _), (2, _)] dX7_napping_32 rfl (by decide) rfl ?_
          refine ks_iinc hκ 33 2 2 (nI (vj + 1)) [(2, _), (1, _), (0, _)] dX7_napping_33 rfl (ks_inc1 _) (by decide) rfl ?_
          refine ks_goto hκ 36 4 dX7_napping_36 rfl ?_
          refine ks_pick [2, 1, 0] [(0, _), (1, _), (2, _)] rfl ?_
          exact ks_cv (ih (vj + 1) _  (by omega) (by first | (rw [kNapS, if_pos c21] at hinv; rw [kor0]; exact hinv) | (rw [kNapS, if_neg c21] at hinv; exact hinv)) (by omega)) rfl rfl rfl
        · skip
          refine ks_iconst hκ 24 (nI 1) dX7_napping_24 kq_i1 ?_
          refine ks_iload_n hκ 25 2 dX7_napping_25 rfl ?_
          refine ks_ishl hκ 26 dX7_napping_26 ?_
          refine ks_goto hκ 27 31 dX7_napping_27 rfl ?_
          refine ks_ior hκ 31 dX7_napping_31 ?_
          refine ks_istore_n hκ 32 1 [(1, _), (0, _), (2, _)] dX7_napping_32 rfl (by decide) rfl ?_
          refine ks_iinc hκ 33 2 2 (nI (vj + 1)) [(2, _), (1, _), (0, _)] dX7_napping_33 rfl (ks_inc1 _) (by decide) rfl ?_
          refine ks_goto hκ 36 4 dX7_napping_36 rfl ?_
          refine ks_pick [2, 1, 0] [(0, _), (1, _), (2, _)] rfl ?_
          exact ks_cv (ih (vj + 1) _  (by omega) (by first | (rw [kNapS, if_pos c21] at hinv; rw [kor0]; exact hinv) | (rw [kNapS, if_neg c21] at hinv; exact hinv)) (by omega)) rfl rfl rfl
  refine ks_pick [2, 1, 0] [(0, _), (1, _), (2, _)] rfl ?_
  exact ks_cv (L4 _ 0 _  (Nat.zero_le _) rfl (Nat.lt_succ_self _)) rfl rfl rfl
set_option maxRecDepth 100000 in
set_option maxHeartbeats 4000000 in
theorem c_Model_ones {g : ks_G} {h : ks_H} {x : Int32} : ks_Met g (yX7_ones, cX7_ones, 3, some .int) 0 0 0 [.int x] h (ks_Pi (nI (kOnes x)) h) := by
  refine ks_intro (by decide) (Nat.le_of_ble_eq_true rfl) (fun κ hκ hRt => ?_)
  refine ks_cv (ls := [(0, .int x)]) ?_ rfl rfl rfl
  refine ks_iconst hκ 0 (nI 0) dX7_ones_0 kq_i0 ?_
  refine ks_istore_n hκ 1 1 [(1, _), (0, _)] dX7_ones_1 rfl (by decide) rfl ?_
  refine ks_iconst hκ 2 (nI 0) dX7_ones_2 kq_i0 ?_
  refine ks_istore_n hκ 3 2 [(2, _), (1, _), (0, _)] dX7_ones_3 rfl (by decide) rfl ?_
  have L4 : ∀ (fuel : Nat) (vi va : Nat) (hvi : vi ≤ 16) (hva : va ≤ vi) (hinv : ((List.range 16).drop vi).foldl (fun a j => a + if kbt x j = true then 1 else 0) va = kOnes x) (hfuel : 16 - vi < fuel), ks_K κ g 3 h 0 0 4 [(0, .int x), (1, .int (nI va)), (2, .int (nI vi))] [] := by
    intro fuel
    induction fuel with
    | zero => intro vi va  hvi hva hinv hfuel; exact absurd hfuel (Nat.not_lt_zero _)
    | succ fuel ih =>
      intro vi va  hvi hva hinv hfuel
      refine ks_iload_n hκ 4 2 dX7_ones_4 rfl ?_
      refine ks_bipush hκ 5 (nI 16) dX7_ones_5 kq_b16 ?_
      refine ks_icmp_ge hκ 7 24 dX7_ones_7 rfl (fun c7 => ?_) (fun c7 => ?_)
      · skip
        have c7 := (nI_leI (by omega) (by omega)).mp c7
        refine ks_iload_n hκ 24 1 dX7_ones_24 rfl ?_
        refine ks_iret hκ 25 hRt dX7_ones_25 (by decide) (by decide) rfl ?_
        exact ⟨by rw [← hinv, kdropRN c7]; rfl, rfl⟩
      · skip
        have c7 := mt (nI_leI (by omega) (by omega)).mpr c7
        rw [kdropR (by omega), List.foldl_cons] at hinv
        refine ks_iload_n hκ 10 1 dX7_ones_10 rfl ?_
        refine ks_iload_n hκ 11 0 dX7_ones_11 rfl ?_
        refine ks_iload_n hκ 12 2 dX7_ones_12 rfl ?_
        refine ks_ishr hκ 13 dX7_ones_13 ?_
        refine ks_iconst hκ 14 (nI 1) dX7_ones_14 kq_i1 ?_
        refine ks_iand hκ 15 dX7_ones_15 ?_
        refine ks_top (nI (if kbt x vi = true then 1 else 0)) (by rw [kbt_1, kbt_shr (by omega)]; split <;> rfl) ?_
        refine ks_iaddN hκ 16 dX7_ones_16 ?_
        refine ks_istore_n hκ 17 1 [(1, _), (0, _), (2, _)] dX7_ones_17 rfl (by decide) rfl ?_
        refine ks_iinc hκ 18 2 2 (nI (vi + 1)) [(2, _), (1, _), (0, _)] dX7_ones_18 rfl (ks_inc1 _) (by decide) rfl ?_
        refine ks_goto hκ 21 4 dX7_ones_21 rfl ?_
        refine ks_pick [2, 1, 0] [(0, _), (1, _), (2, _)] rfl ?_
        exact ks_cv (ih (vi + 1) _  (by omega) (by split <;> omega) hinv (by omega)) rfl rfl rfl
  refine ks_pick [2, 1, 0] [(0, _), (1, _), (2, _)] rfl ?_
  exact ks_cv (L4 _ 0 0  (Nat.zero_le _) (Nat.zero_le _) rfl (Nat.lt_succ_self _)) rfl rfl rfl
set_option maxRecDepth 100000 in
set_option maxHeartbeats 4000000 in
theorem c_Model_all {g : ks_G} {h : ks_H} {m : Nat} {fs : List Value} {f : Nat → Int32} {se : Nat → Int32} {tu : Int32} {ki : Nat} {ma re : Int32} {kf : Nat → Nat → Int32} {L : List (Nat × Nat)} {P : List kP} {c : Nat} (hM : h[m]? = some (ks_O 7 (ks_ref g (m + 1) :: fs))) (hS : h[m + 1]? = some (ks_I g 3400 f)) (hmd : kMd f 0 (se, tu, ki, ma, re, kf, L, P)) (hc : c < 7) : ks_Met g (yX7_all, cX7_all, 4, some .int) 1 0 0 [ks_ref g m, .int (nI c)] h (ks_Pi (kSum ki (kf c)) h) := by
  obtain ⟨mS, m4, m5, m6, m7, m8, m9, mK, mP, mL, mki, mLl, mPl, mLp, mPp⟩ := id hmd
  dsimp only at mS m4 m5 m6 m7 m8 m9 mK mP mL mki mLl mPl mLp mPp
  refine ks_intro (by decide) (Nat.le_of_ble_eq_true rfl) (fun κ hκ hRt => ?_)
  refine ks_cv (ls := [(0, ks_ref g m), (1, .int (nI c))]) ?_ rfl rfl rfl
  refine ks_iconst hκ 0 (nI 0) dX7_all_0 kq_i0 ?_
  refine ks_istore_n hκ 1 2 [(2, _), (0, _), (1, _)] dX7_all_1 rfl (by decide) rfl ?_
  refine ks_iconst hκ 2 (nI 0) dX7_all_2 kq_i0 ?_
  refine ks_istore_n hκ 3 3 [(3, _), (2, _), (0, _), (1, _)] dX7_all_3 rfl (by decide) rfl ?_
  have L4 : ∀ (fuel : Nat) (vj : Nat) (xa : Int32) (hvj : vj ≤ ki) (hinv : ((List.range ki).drop vj).foldl (fun a j => a + kf c j) xa = kSum ki (kf c)) (hfuel : ki - vj < fuel), ks_K κ g 4 h 0 0 4 [(0, ks_ref g m), (1, .int (nI c)), (2, .int xa), (3, .int (nI vj))] [] := by
    intro fuel
    induction fuel with
    | zero => intro vj xa  hvj hinv hfuel; exact absurd hfuel (Nat.not_lt_zero _)
    | succ fuel ih =>
      intro vj xa  hvj hinv hfuel
      refine ks_iload_n hκ 4 3 dX7_all_4 rfl ?_
      refine ks_aload_n hκ 5 0 dX7_all_5 rfl ?_
      refine ks_get hκ 6 dX7_all_6 kf_X7_7 hM rfl ?_
      refine ks_iconst hκ 9 (nI 5) dX7_all_9 kq_i5 ?_
      refine ks_iald hκ 10 (5) dX7_all_10 hS rfl (by omega) (by decide) ?_
      refine ks_top (nI ki) m5 ?_
      refine ks_icmp_ge hκ 11 35 dX7_all_11 rfl (fun c11 => ?_) (fun c11 => ?_)
      · skip
        have c11 := (nI_leI (by omega) (by omega)).mp c11
        refine ks_iload_n hκ 35 2 dX7_all_35 rfl ?_
        refine ks_iret hκ 36 hRt dX7_all_36 (by decide) (by decide) rfl ?_
        exact ⟨by rw [← hinv, kdropRN c11]; rfl, rfl⟩
      · skip
        have c11 := mt (nI_leI (by omega) (by omega)).mpr c11
        rw [kdropR (by omega), List.foldl_cons] at hinv
        refine ks_iload_n hκ 14 2 dX7_all_14 rfl ?_
        refine ks_aload_n hκ 15 0 dX7_all_15 rfl ?_
        refine ks_get hκ 16 dX7_all_16 kf_X7_7 hM rfl ?_
        refine ks_iconst hκ 19 (nI 0) dX7_all_19 kq_i0 ?_
        refine ks_iload_n hκ 20 3 dX7_all_20 rfl ?_
        refine ks_pureS2 hκ 21 dX7_all_21 kc_X7_28 (c_Model_kittenAt (b := 0)) (by decide) (Nat.le_of_ble_eq_true rfl) (by decide) (by decide) ?_
        refine ks_iload_n hκ 24 1 dX7_all_24 rfl ?_
        refine ks_iaddN hκ 25 dX7_all_25 ?_
        refine ks_iald hκ 26 (((0 + 10 + 7 * vj) + c)) dX7_all_26 hS rfl (by omega) (by decide) ?_
        refine ks_top (kf c vj) (mK vj c (by omega) hc) ?_
        refine ks_iadd hκ 27 dX7_all_27 ?_
        refine ks_istore_n hκ 28 2 [(2, _), (0, _), (1, _), (3, _)] dX7_all_28 rfl (by decide) rfl ?_
        refine ks_iinc hκ 29 3 3 (nI (vj + 1)) [(3, _), (2, _), (0, _), (1, _)] dX7_all_29 rfl (ks_inc1 _) (by decide) rfl ?_
        refine ks_goto hκ 32 4 dX7_all_32 rfl ?_
        refine ks_pick [2, 3, 1, 0] [(0, _), (1, _), (2, _), (3, _)] rfl ?_
        exact ks_cv (ih (vj + 1) _  (by omega) hinv (by omega)) rfl rfl rfl
  refine ks_pick [2, 3, 1, 0] [(0, _), (1, _), (2, _), (3, _)] rfl ?_
  exact ks_cv (L4 _ 0 _  (Nat.zero_le _) rfl (Nat.lt_succ_self _)) rfl rfl rfl
set_option maxRecDepth 100000 in
set_option maxHeartbeats 4000000 in
theorem c_Model_pairs {g : ks_G} {h : ks_H} {m : Nat} {fs : List Value} {f : Nat → Int32} {se : Nat → Int32} {tu : Int32} {ki : Nat} {ma re : Int32} {kf : Nat → Nat → Int32} {L : List (Nat × Nat)} {P : List kP} (hM : h[m]? = some (ks_O 7 (ks_ref g (m + 1) :: fs))) (hS : h[m + 1]? = some (ks_I g 3400 f)) (hmd : kMd f 0 (se, tu, ki, ma, re, kf, L, P)) : ks_Met g (yX7_pairs, cX7_pairs, 3, some .int) 4 0 0 [ks_ref g m] h (ks_Pi (nI (kPairs (se, tu, ki, ma, re, kf, L, P) (nI 32767))) h) := by
  obtain ⟨mS, m4, m5, m6, m7, m8, m9, mK, mP, mL, mki, mLl, mPl, mLp, mPp⟩ := id hmd
  dsimp only at mS m4 m5 m6 m7 m8 m9 mK mP mL mki mLl mPl mLp mPp
  refine ks_intro (by decide) (Nat.le_of_ble_eq_true rfl) (fun κ hκ hRt => ?_)
  refine ks_cv (ls := [(0, ks_ref g m)]) ?_ rfl rfl rfl
  refine ks_iconst hκ 0 (nI 0) dX7_pairs_0 kq_i0 ?_
  refine ks_istore_n hκ 1 1 [(1, _), (0, _)] dX7_pairs_1 rfl (by decide) rfl ?_
  refine ks_iconst hκ 2 (nI 0) dX7_pairs_2 kq_i0 ?_
  refine ks_istore_n hκ 3 2 [(2, _), (1, _), (0, _)] dX7_pairs_3 rfl (by decide) rfl ?_
  have L4 : ∀ (fuel : Nat) (vj va : Nat) (hvj : vj ≤ ki) (hva : va ≤ 16 * vj) (hinv : ((List.range ki).drop vj).foldl (kOnS (se, tu, ki, ma, re, kf, L, P)) va = 2 * kPairs (se, tu, ki, ma, re, kf, L, P) (nI 32767)) (hfuel : ki - vj < fuel), ks_K κ g 3 h 0 0 4 [(0, ks_ref g m), (1, .int (nI va)), (2, .int (nI vj))] [] := by
    intro fuel
    induction fuel with
    | zero => intro vj va  hvj hva hinv hfuel; exact absurd hfuel (Nat.not_lt_zero _)
    | succ fuel ih =>
      intro vj va  hvj hva hinv hfuel
      refine ks_iload_n hκ 4 2 dX7_pairs_4 rfl ?_
      refine ks_aload_n hκ 5 0 dX7_pairs_5 rfl ?_
      refine ks_get hκ 6 dX7_pairs_6 kf_X7_7 hM rfl ?_
      refine ks_iconst hκ 9 (nI 5) dX7_pairs_9 kq_i5 ?_
      refine ks_iald hκ 10 (5) dX7_pairs_10 hS rfl (by omega) (by decide) ?_
      refine ks_top (nI ki) m5 ?_
      refine ks_icmp_ge hκ 11 32 dX7_pairs_11 rfl (fun c11 => ?_) (fun c11 => ?_)
      · skip
        have c11 := (nI_leI (by omega) (by omega)).mp c11
        refine ks_iload_n hκ 32 1 dX7_pairs_32 rfl ?_
        refine ks_iconst hκ 33 (nI 2) dX7_pairs_33 kq_i2 ?_
        refine ks_idiv hκ 34 dX7_pairs_34 (by decide) ?_
        refine ks_top (nI (va / 2)) (pk_div (by omega) (by decide) (by decide)) ?_
        refine ks_iret hκ 35 hRt dX7_pairs_35 (by decide) (by decide) rfl ?_
        rw [kdropRN c11] at hinv
        have hq : va = 2 * kPairs (se, tu, ki, ma, re, kf, L, P) (nI 32767) := hinv
        exact ⟨by rw [show va / 2 = kPairs (se, tu, ki, ma, re, kf, L, P) (nI 32767) by omega], rfl⟩
      · skip
        have c11 := mt (nI_leI (by omega) (by omega)).mpr c11
        rw [kdropR (by omega), List.foldl_cons] at hinv
        have hon : kOnes (kBSet (se, tu, ki, ma, re, kf, L, P) vj) ≤ 16 := by
          have := kOnes_le0 (x := kBSet (se, tu, ki, ma, re, kf, L, P) vj) (List.range 16) 0
          rw [List.length_range, Nat.zero_add] at this
          exact this
        refine ks_iload_n hκ 14 1 dX7_pairs_14 rfl ?_
        refine ks_aload_n hκ 15 0 dX7_pairs_15 rfl ?_
        refine ks_iconst hκ 16 (nI 0) dX7_pairs_16 kq_i0 ?_
        refine ks_iload_n hκ 17 2 dX7_pairs_17 rfl ?_
        refine ks_pureV2 hκ 18 dX7_pairs_18 kc_X7_53 (c_Model_boundTo (b := 0) hM hS (by decide) hmd (show vj < 6 by omega)) hM rfl (by decide) (Nat.le_of_ble_eq_true rfl) (by decide) (by decide) ?_
        refine ks_pureS1 hκ 21 dX7_pairs_21 kc_X7_180 (c_Model_ones) (by decide) (Nat.le_of_ble_eq_true rfl) (by decide) (by decide) ?_
        refine ks_iaddN hκ 24 dX7_pairs_24 ?_
        refine ks_istore_n hκ 25 1 [(1, _), (0, _), (2, _)] dX7_pairs_25 rfl (by decide) rfl ?_
        refine ks_iinc hκ 26 2 2 (nI (vj + 1)) [(2, _), (1, _), (0, _)] dX7_pairs_26 rfl (ks_inc1 _) (by decide) rfl ?_
        refine ks_goto hκ 29 4 dX7_pairs_29 rfl ?_
        refine ks_pick [2, 1, 0] [(0, _), (1, _), (2, _)] rfl ?_
        exact ks_cv (ih (vj + 1) (va + kOnes (kBSet (se, tu, ki, ma, re, kf, L, P) vj))  (by omega) (by omega) hinv (by omega)) rfl rfl rfl
  refine ks_pick [2, 1, 0] [(0, _), (1, _), (2, _)] rfl ?_
  exact ks_cv (L4 _ 0 0  (Nat.zero_le _) (Nat.zero_le _) (kPairs_2 (σ := (se, tu, ki, ma, re, kf, L, P)) mki (fun p hp => (mLp p hp).1)) (Nat.lt_succ_self _)) rfl rfl rfl
set_option maxRecDepth 100000 in
set_option maxHeartbeats 4000000 in
theorem c_Model_why {g : ks_G} {h : ks_H} {m : Nat} {fs : List Value} {f : Nat → Int32} {se : Nat → Int32} {tu : Int32} {ki : Nat} {ma re : Int32} {kf : Nat → Nat → Int32} {L : List (Nat × Nat)} {P : List kP} {x z : Int32} (hM : h[m]? = some (ks_O 7 (ks_ref g (m + 1) :: fs))) (hS : h[m + 1]? = some (ks_I g 3400 f)) (hmd : kMd f 0 (se, tu, ki, ma, re, kf, L, P)) (hok : kOk2 (se, tu, ki, ma, re, kf, L, P)) : ks_Met g (yX7_why, cX7_why, 3, some .int) 6 0 0 [ks_ref g m, .int x, .int z] h (ks_Pi (kWhQ (se, tu, ki, ma, re, kf, L, P) x z) h) := by
  obtain ⟨mS, m4, m5, m6, m7, m8, m9, mK, mP, mL, mki, mLl, mPl, mLp, mPp⟩ := id hmd
  dsimp only at mS m4 m5 m6 m7 m8 m9 mK mP mL mki mLl mPl mLp mPp
  refine ks_intro (by decide) (Nat.le_of_ble_eq_true rfl) (fun κ hκ hRt => ?_)
  refine ks_cv (ls := [(0, ks_ref g m), (1, .int x), (2, .int z)]) ?_ rfl rfl rfl
  refine ks_aload_n hκ 0 0 dX7_why_0 rfl ?_
  refine ks_iload_n hκ 1 1 dX7_why_1 rfl ?_
  refine ks_pureV1 hκ 2 dX7_why_2 kc_X7_103 (c_Model_isKitten hM hS hmd) hM rfl (by decide) (Nat.le_of_ble_eq_true rfl) (by decide) (by decide) ?_
  refine ks_if_ne hκ 5 12 dX7_why_5 rfl (fun c5 => ?_) (fun c5 => ?_)
  · skip
    obtain ⟨vj, hvj, rfl⟩ := kHas_1 c5 mki
    obtain ⟨vs, hvs, hvs2⟩ := hok.1 vj hvj
    refine ks_iload_n hκ 12 2 dX7_why_12 rfl ?_
    refine ks_pureS1 hκ 13 dX7_why_13 kc_X7_107 (c_Model_areSteps) (by decide) (Nat.le_of_ble_eq_true rfl) (by decide) (by decide) ?_
    refine ks_if_ne hκ 16 24 dX7_why_16 rfl (fun c16 => ?_) (fun c16 => ?_)
    · skip
      refine ks_aload_n hκ 24 0 dX7_why_24 rfl ?_
      refine ks_iconst hκ 25 (nI 0) dX7_why_25 kq_i0 ?_
      refine ks_iload_n hκ 26 1 dX7_why_26 rfl ?_
      refine ks_iload_n hκ 27 2 dX7_why_27 rfl ?_
      refine ks_pureV3 hκ 28 dX7_why_28 kc_X7_90 (c_Model_reason (b := 0) hM hS (by decide) hmd hvj hvs hvs2) hM rfl (by decide) (Nat.le_of_ble_eq_true rfl) (by decide) (by decide) ?_
      refine ks_iret hκ 31 hRt dX7_why_31 (by decide) (by decide) rfl ?_
      refine ⟨?_, rfl⟩
      unfold kWhQ
      first
        | rw [if_pos c5]
        | rw [if_neg c5, if_pos c16]
        | (rw [if_neg c5, if_neg c16, nI_clamp (by omega)])
    · skip
      refine ks_bipush hκ 19 (-2) dX7_why_19 kq_bm2 ?_
      refine ks_goto hκ 21 31 dX7_why_21 rfl ?_
      refine ks_iret hκ 31 hRt dX7_why_31 (by decide) (by decide) rfl ?_
      refine ⟨?_, rfl⟩
      unfold kWhQ
      first
        | rw [if_pos c5]
        | rw [if_neg c5, if_pos c16]
        | (rw [if_neg c5, if_neg c16, nI_clamp (by omega)])
  · skip
    refine ks_iconst hκ 8 (-1) dX7_why_8 kq_im1 ?_
    refine ks_goto hκ 9 31 dX7_why_9 rfl ?_
    refine ks_iret hκ 31 hRt dX7_why_31 (by decide) (by decide) rfl ?_
    refine ⟨?_, rfl⟩
    unfold kWhQ
    first
      | rw [if_pos c5]
      | rw [if_neg c5, if_pos c16]
      | (rw [if_neg c5, if_neg c16, nI_clamp (by omega)])
