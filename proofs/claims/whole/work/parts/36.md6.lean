
/-! THE MODEL: is the ball too short -/
set_option maxRecDepth 100000 in
set_option maxHeartbeats 4000000 in
theorem c_Model_isTooShort {g : ks_G} {h : ks_H} {m b : Nat} {fs : List Value} {f : Nat → Int32} {se : Nat → Int32} {tu : Int32} {ki : Nat} {ma re : Int32} {kf : Nat → Nat → Int32} {L : List (Nat × Nat)} {P : List kP} {k s t : Nat} (hM : h[m]? = some (ks_O 7 (ks_ref g (m + 1) :: fs))) (hS : h[m + 1]? = some (ks_I g 3400 f)) (hb : b + 340 ≤ 3400) (hmd : kMd f b (se, tu, ki, ma, re, kf, L, P)) (hk : k < ki) (hs : s < 16) (ht : t < 16) (hks : kf 0 k = nI s) : ks_Met g (yX7_isTooShort, cX7_isTooShort, 7, some .boolean) 3 0 0 [ks_ref g m, .int (nI b), .int (nI k), .int (nI t - nI s)] h (ks_Pi (if kLst L k (kWay s t) (kf 3 k) = true then nI 0 else nI 1) h) := by
  obtain ⟨mS, m4, m5, m6, m7, m8, m9, mK, mP, mL, mki, mLl, mPl, mLp, mPp⟩ := id hmd
  dsimp only at mS m4 m5 m6 m7 m8 m9 mK mP mL mki mLl mPl mLp mPp
  have hwl : (kWay s t).length < 16 := by rw [kWay_len]; split <;> omega
  refine ks_intro (by decide) (Nat.le_of_ble_eq_true rfl) (fun κ hκ hRt => ?_)
  refine ks_cv (ls := [(0, ks_ref g m), (1, .int (nI b)), (2, .int (nI k)), (3, .int (nI t - nI s))]) ?_ rfl rfl rfl
  refine ks_aload_n hκ 0 0 dX7_isTooShort_0 rfl ?_
  refine ks_get hκ 1 dX7_isTooShort_1 kf_X7_7 hM rfl ?_
  refine ks_iload_n hκ 4 1 dX7_isTooShort_4 rfl ?_
  refine ks_iload_n hκ 5 2 dX7_isTooShort_5 rfl ?_
  refine ks_pureS2 hκ 6 dX7_isTooShort_6 kc_X7_28 (c_Model_kittenAt) (by decide) (Nat.le_of_ble_eq_true rfl) (by decide) (by decide) ?_
  refine ks_iconst hκ 9 (nI 3) dX7_isTooShort_9 kq_i3 ?_
  refine ks_iaddN hκ 10 dX7_isTooShort_10 ?_
  refine ks_iald hκ 11 (((b + 10 + 7 * k) + 3)) dX7_isTooShort_11 hS rfl (by omega) (by decide) ?_
  refine ks_top (kf 3 k) (hmd.fld (c := 3) hk (by decide)) ?_
  refine ks_istore hκ 12 4 [(4, _), (0, _), (1, _), (2, _), (3, _)] dX7_isTooShort_12 (by decide) rfl ?_
  refine ks_iconst hκ 14 (nI 0) dX7_isTooShort_14 kq_i0 ?_
  refine ks_istore hκ 15 5 [(5, _), (4, _), (0, _), (1, _), (2, _), (3, _)] dX7_isTooShort_15 (by decide) rfl ?_
  refine ks_iconst hκ 17 (nI 0) dX7_isTooShort_17 kq_i0 ?_
  refine ks_istore hκ 18 6 [(6, _), (5, _), (4, _), (0, _), (1, _), (2, _), (3, _)] dX7_isTooShort_18 (by decide) rfl ?_
  have L20 : ∀ (fuel : Nat) (vi vz : Nat) (xa : Int32) (hvi : vi ≤ (kWay s t).length) (hvz : vz ≤ 1) (hinv1 : vz = 0 → kLst L k ((kWay s t).drop vi) xa = kLst L k (kWay s t) (kf 3 k)) (hinv2 : vz = 1 → kLst L k (kWay s t) (kf 3 k) = false) (hfuel : (kWay s t).length - vi < fuel), ks_K κ g 7 h 0 0 20 [(0, ks_ref g m), (1, .int (nI b)), (2, .int (nI k)), (3, .int (nI t - nI s)), (4, .int xa), (5, .int (nI vz)), (6, .int (nI vi))] [] := by
    intro fuel
    induction fuel with
    | zero => intro vi vz xa  hvi hvz hinv1 hinv2 hfuel; exact absurd hfuel (Nat.not_lt_zero _)
    | succ fuel ih =>
      intro vi vz xa  hvi hvz hinv1 hinv2 hfuel
      refine ks_iload hκ 20 6 dX7_isTooShort_20 rfl ?_
      refine ks_iload_n hκ 22 3 dX7_isTooShort_22 rfl ?_
      refine ks_pureS1 hκ 23 dX7_isTooShort_23 kc_X7_56 (c_Model_size) (by decide) (Nat.le_of_ble_eq_true rfl) (by decide) (by decide) ?_
      refine ks_top (nI ((kWay s t).length)) (kSz_way hs ht) ?_
      refine ks_icmp_ge hκ 26 80 dX7_isTooShort_26 rfl (fun c26 => ?_) (fun c26 => ?_)
      · skip
        have c26 := (nI_leI (by omega) (by omega)).mp c26
        refine ks_iload hκ 80 5 dX7_isTooShort_80 rfl ?_
        refine ks_iret hκ 82 hRt dX7_isTooShort_82 (by decide) (by decide) (by rcases (show vz = 0 ∨ vz = 1 by omega) with q | q <;> rw [q] <;> decide) ?_
        refine ⟨?_, rfl⟩
        rcases (show vz = 0 ∨ vz = 1 by omega) with q | q
        · have := hinv1 q
          rw [kdropN c26, kLst] at this
          rw [if_pos this.symm, q]
        · rw [hinv2 q, q]; rfl
      · skip
        have c26 := mt (nI_leI (by omega) (by omega)).mpr c26
        obtain ⟨ve, hve⟩ := kget (L := kWay s t) (i := vi) (by omega)
        have hve15 := kWay_lt hs ht (List.mem_of_getElem? hve)
        have hdv := kdrop hve
        refine ks_iload hκ 29 4 dX7_isTooShort_29 rfl ?_
        refine ks_aload_n hκ 31 0 dX7_isTooShort_31 rfl ?_
        refine ks_iload_n hκ 32 1 dX7_isTooShort_32 rfl ?_
        refine ks_iload_n hκ 33 2 dX7_isTooShort_33 rfl ?_
        refine ks_aload_n hκ 34 0 dX7_isTooShort_34 rfl ?_
        refine ks_iload_n hκ 35 1 dX7_isTooShort_35 rfl ?_
        refine ks_iload_n hκ 36 2 dX7_isTooShort_36 rfl ?_
        refine ks_iload_n hκ 37 3 dX7_isTooShort_37 rfl ?_
        refine ks_iload hκ 38 6 dX7_isTooShort_38 rfl ?_
        refine ks_pureV4 hκ 40 dX7_isTooShort_40 kc_X7_60 (c_Model_edgeOf hM hS hb hmd hk) hM rfl (by decide) (Nat.le_of_ble_eq_true rfl) (by decide) (by decide) ?_
        refine ks_top (nI ve) (by rw [hks]; exact kEdge_at hs ht hve) ?_
        refine ks_pureV3 hκ 43 dX7_isTooShort_43 kc_X7_39 (c_Model_windsBack hM hS hb hmd hve15 (by omega)) hM rfl (by decide) (Nat.le_of_ble_eq_true rfl) (by decide) (by decide) ?_
        refine ks_if_eq hκ 46 53 dX7_isTooShort_46 rfl (fun c46 => ?_) (fun c46 => ?_)
        · skip
          have htop : ¬ kTop ve L = some k := fun q => by
            unfold kWB at c46
            rw [if_pos q] at c46
            exact absurd c46 (by decide)
          refine ks_iconst hκ 53 (-1) dX7_isTooShort_53 kq_im1 ?_
          refine ks_iadd hκ 54 dX7_isTooShort_54 ?_
          refine ks_istore hκ 55 4 [(4, _), (0, _), (1, _), (2, _), (3, _), (5, _), (6, _)] dX7_isTooShort_55 (by decide) rfl ?_
          refine ks_iload hκ 57 5 dX7_isTooShort_57 rfl ?_
          refine ks_if_ne hκ 59 67 dX7_isTooShort_59 rfl (fun c59 => ?_) (fun c59 => ?_)
          · skip
            have c59 := mt (ks_eq0 (by omega)).mpr c59
            refine ks_iconst hκ 67 (nI 1) dX7_isTooShort_67 kq_i1 ?_
            refine ks_goto hκ 68 72 dX7_isTooShort_68 rfl ?_
            refine ks_istore hκ 72 5 [(5, _), (4, _), (0, _), (1, _), (2, _), (3, _), (6, _)] dX7_isTooShort_72 (by decide) rfl ?_
            refine ks_iinc hκ 74 6 6 (nI (vi + 1)) [(6, _), (5, _), (4, _), (0, _), (1, _), (2, _), (3, _)] dX7_isTooShort_74 rfl (ks_inc1 _) (by decide) rfl ?_
            refine ks_goto hκ 77 20 dX7_isTooShort_77 rfl ?_
            refine ks_pick [3, 4, 5, 6, 2, 1, 0] [(0, _), (1, _), (2, _), (3, _), (4, _), (5, _), (6, _)] rfl ?_
            exact ks_cv (ih (vi + 1) _ _  (by omega) (by decide) (fun q => by first | exact absurd q (by decide) | (rw [← hinv1 (by omega), hdv, kLst]; first | rw [if_pos htop, if_neg (Int32.not_lt.mpr c64)] | rw [if_neg htop, if_neg (Int32.not_lt.mpr c64)])) (fun q => by first | exact absurd q (by decide) | exact hinv2 (by omega) | (rw [← hinv1 (by omega), hdv, kLst]; first | rw [if_pos htop, if_pos (Int32.not_le.mp c64)] | rw [if_neg htop, if_pos (Int32.not_le.mp c64)])) (by omega)) rfl rfl rfl
          · skip
            have c59 := (ks_eq0 (by omega)).mp c59
            refine ks_iload hκ 62 0 dX7_isTooShort_62 rfl ?_
            refine ks_if_ge hκ 64 71 dX7_isTooShort_64 rfl (fun c64 => ?_) (fun c64 => ?_)
            · skip
              refine ks_iconst hκ 71 (nI 0) dX7_isTooShort_71 kq_i0 ?_
              refine ks_istore hκ 72 5 [(5, _), (4, _), (0, _), (1, _), (2, _), (3, _), (6, _)] dX7_isTooShort_72 (by decide) rfl ?_
              refine ks_iinc hκ 74 6 6 (nI (vi + 1)) [(6, _), (5, _), (4, _), (0, _), (1, _), (2, _), (3, _)] dX7_isTooShort_74 rfl (ks_inc1 _) (by decide) rfl ?_
              refine ks_goto hκ 77 20 dX7_isTooShort_77 rfl ?_
              refine ks_pick [3, 4, 5, 6, 2, 1, 0] [(0, _), (1, _), (2, _), (3, _), (4, _), (5, _), (6, _)] rfl ?_
              exact ks_cv (ih (vi + 1) _ _  (by omega) (by decide) (fun q => by first | exact absurd q (by decide) | (rw [← hinv1 (by omega), hdv, kLst]; first | rw [if_pos htop, if_neg (Int32.not_lt.mpr c64)] | rw [if_neg htop, if_neg (Int32.not_lt.mpr c64)])) (fun q => by first | exact absurd q (by decide) | exact hinv2 (by omega) | (rw [← hinv1 (by omega), hdv, kLst]; first | rw [if_pos htop, if_pos (Int32.not_le.mp c64)] | rw [if_neg htop, if_pos (Int32.not_le.mp c64)])) (by omega)) rfl rfl rfl
            · skip
              refine ks_iconst hκ 67 (nI 1) dX7_isTooShort_67 kq_i1 ?_
              refine ks_goto hκ 68 72 dX7_isTooShort_68 rfl ?_
              refine ks_istore hκ 72 5 [(5, _), (4, _), (0, _), (1, _), (2, _), (3, _), (6, _)] dX7_isTooShort_72 (by decide) rfl ?_
              refine ks_iinc hκ 74 6 6 (nI (vi + 1)) [(6, _), (5, _), (4, _), (0, _), (1, _), (2, _), (3, _)] dX7_isTooShort_74 rfl (ks_inc1 _) (by decide) rfl ?_
              refine ks_goto hκ 77 20 dX7_isTooShort_77 rfl ?_
              refine ks_pick [3, 4, 5, 6, 2, 1, 0] [(0, _), (1, _), (2, _), (3, _), (4, _), (5, _), (6, _)] rfl ?_
              exact ks_cv (ih (vi + 1) _ _  (by omega) (by decide) (fun q => by first | exact absurd q (by decide) | (rw [← hinv1 (by omega), hdv, kLst]; first | rw [if_pos htop, if_neg (Int32.not_lt.mpr c64)] | rw [if_neg htop, if_neg (Int32.not_lt.mpr c64)])) (fun q => by first | exact absurd q (by decide) | exact hinv2 (by omega) | (rw [← hinv1 (by omega), hdv, kLst]; first | rw [if_pos htop, if_pos (Int32.not_le.mp c64)] | rw [if_neg htop, if_pos (Int32.not_le.mp c64)])) (by omega)) rfl rfl rfl
        · skip
          have htop : kTop ve L = some k := by
            by_cases q : kTop ve L = some k
            · exact q
            · exact absurd (if_neg q) c46
          refine ks_iconst hκ 49 (nI 1) dX7_isTooShort_49 kq_i1 ?_
          refine ks_goto hκ 50 54 dX7_isTooShort_50 rfl ?_
          refine ks_iadd hκ 54 dX7_isTooShort_54 ?_
          refine ks_istore hκ 55 4 [(4, _), (0, _), (1, _), (2, _), (3, _), (5, _), (6, _)] dX7_isTooShort_55 (by decide) rfl ?_
          refine ks_iload hκ 57 5 dX7_isTooShort_57 rfl ?_
          refine ks_if_ne hκ 59 67 dX7_isTooShort_59 rfl (fun c59 => ?_) (fun c59 => ?_)
          · skip
            have c59 := mt (ks_eq0 (by omega)).mpr c59
            refine ks_iconst hκ 67 (nI 1) dX7_isTooShort_67 kq_i1 ?_
            refine ks_goto hκ 68 72 dX7_isTooShort_68 rfl ?_
            refine ks_istore hκ 72 5 [(5, _), (4, _), (0, _), (1, _), (2, _), (3, _), (6, _)] dX7_isTooShort_72 (by decide) rfl ?_
            refine ks_iinc hκ 74 6 6 (nI (vi + 1)) [(6, _), (5, _), (4, _), (0, _), (1, _), (2, _), (3, _)] dX7_isTooShort_74 rfl (ks_inc1 _) (by decide) rfl ?_
            refine ks_goto hκ 77 20 dX7_isTooShort_77 rfl ?_
            refine ks_pick [3, 4, 5, 6, 2, 1, 0] [(0, _), (1, _), (2, _), (3, _), (4, _), (5, _), (6, _)] rfl ?_
            exact ks_cv (ih (vi + 1) _ _  (by omega) (by decide) (fun q => by first | exact absurd q (by decide) | (rw [← hinv1 (by omega), hdv, kLst]; first | rw [if_pos htop, if_neg (Int32.not_lt.mpr c64)] | rw [if_neg htop, if_neg (Int32.not_lt.mpr c64)])) (fun q => by first | exact absurd q (by decide) | exact hinv2 (by omega) | (rw [← hinv1 (by omega), hdv, kLst]; first | rw [if_pos htop, if_pos (Int32.not_le.mp c64)] | rw [if_neg htop, if_pos (Int32.not_le.mp c64)])) (by omega)) rfl rfl rfl
          · skip
            have c59 := (ks_eq0 (by omega)).mp c59
            refine ks_iload hκ 62 0 dX7_isTooShort_62 rfl ?_
            refine ks_if_ge hκ 64 71 dX7_isTooShort_64 rfl (fun c64 => ?_) (fun c64 => ?_)
            · skip
              refine ks_iconst hκ 71 (nI 0) dX7_isTooShort_71 kq_i0 ?_
              refine ks_istore hκ 72 5 [(5, _), (4, _), (0, _), (1, _), (2, _), (3, _), (6, _)] dX7_isTooShort_72 (by decide) rfl ?_
              refine ks_iinc hκ 74 6 6 (nI (vi + 1)) [(6, _), (5, _), (4, _), (0, _), (1, _), (2, _), (3, _)] dX7_isTooShort_74 rfl (ks_inc1 _) (by decide) rfl ?_
              refine ks_goto hκ 77 20 dX7_isTooShort_77 rfl ?_
              refine ks_pick [3, 4, 5, 6, 2, 1, 0] [(0, _), (1, _), (2, _), (3, _), (4, _), (5, _), (6, _)] rfl ?_
              exact ks_cv (ih (vi + 1) _ _  (by omega) (by decide) (fun q => by first | exact absurd q (by decide) | (rw [← hinv1 (by omega), hdv, kLst]; first | rw [if_pos htop, if_neg (Int32.not_lt.mpr c64)] | rw [if_neg htop, if_neg (Int32.not_lt.mpr c64)])) (fun q => by first | exact absurd q (by decide) | exact hinv2 (by omega) | (rw [← hinv1 (by omega), hdv, kLst]; first | rw [if_pos htop, if_pos (Int32.not_le.mp c64)] | rw [if_neg htop, if_pos (Int32.not_le.mp c64)])) (by omega)) rfl rfl rfl
            · skip
              refine ks_iconst hκ 67 (nI 1) dX7_isTooShort_67 kq_i1 ?_
              refine ks_goto hκ 68 72 dX7_isTooShort_68 rfl ?_
              refine ks_istore hκ 72 5 [(5, _), (4, _), (0, _), (1, _), (2, _), (3, _), (6, _)] dX7_isTooShort_72 (by decide) rfl ?_
              refine ks_iinc hκ 74 6 6 (nI (vi + 1)) [(6, _), (5, _), (4, _), (0, _), (1, _), (2, _), (3, _)] dX7_isTooShort_74 rfl (ks_inc1 _) (by decide) rfl ?_
              refine ks_goto hκ 77 20 dX7_isTooShort_77 rfl ?_
              refine ks_pick [3, 4, 5, 6, 2, 1, 0] [(0, _), (1, _), (2, _), (3, _), (4, _), (5, _), (6, _)] rfl ?_
              exact ks_cv (ih (vi + 1) _ _  (by omega) (by decide) (fun q => by first | exact absurd q (by decide) | (rw [← hinv1 (by omega), hdv, kLst]; first | rw [if_pos htop, if_neg (Int32.not_lt.mpr c64)] | rw [if_neg htop, if_neg (Int32.not_lt.mpr c64)])) (fun q => by first | exact absurd q (by decide) | exact hinv2 (by omega) | (rw [← hinv1 (by omega), hdv, kLst]; first | rw [if_pos htop, if_pos (Int32.not_le.mp c64)] | rw [if_neg htop, if_pos (Int32.not_le.mp c64)])) (by omega)) rfl rfl rfl
  refine ks_pick [3, 4, 5, 6, 2, 1, 0] [(0, _), (1, _), (2, _), (3, _), (4, _), (5, _), (6, _)] rfl ?_
  exact ks_cv (L20 _ 0 0 _  (Nat.zero_le _) (by decide) (fun _ => rfl) (fun q => absurd q (by decide)) (Nat.lt_succ_self _)) rfl rfl rfl
