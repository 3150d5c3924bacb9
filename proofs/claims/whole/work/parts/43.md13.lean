
/-! THE MODEL: who is bound, who is held back, why a leap is refused -/
set_option maxRecDepth 100000 in
set_option maxHeartbeats 4000000 in
theorem c_Model_areBoundAt {g : ks_G} {h : ks_H} {m b : Nat} {fs : List Value} {f : Nat → Int32} {se : Nat → Int32} {tu : Int32} {ki : Nat} {ma re : Int32} {kf : Nat → Nat → Int32} {L : List (Nat × Nat)} {P : List kP} {e ka kb : Nat} (hM : h[m]? = some (ks_O 7 (ks_ref g (m + 1) :: fs))) (hS : h[m + 1]? = some (ks_I g 3400 f)) (hb : b + 340 ≤ 3400) (hmd : kMd f b (se, tu, ki, ma, re, kf, L, P)) (he : e < 15) (hka : ka < 6) (hkb : kb < 6) : ks_Met g (yX7_areBoundAt, cX7_areBoundAt, 9, some .boolean) 1 0 0 [ks_ref g m, .int (nI b), .int (nI e), .int (nI ka), .int (nI kb)] h (ks_Pi (if 2 < (kPt e ka kb L).2 then nI 1 else nI 0) h) := by
  obtain ⟨mS, m4, m5, m6, m7, m8, m9, mK, mP, mL, mki, mLl, mPl, mLp, mPp⟩ := id hmd
  dsimp only at mS m4 m5 m6 m7 m8 m9 mK mP mL mki mLl mPl mLp mPp
  refine ks_intro (by decide) (Nat.le_of_ble_eq_true rfl) (fun κ hκ hRt => ?_)
  refine ks_cv (ls := [(0, ks_ref g m), (1, .int (nI b)), (2, .int (nI e)), (3, .int (nI ka)), (4, .int (nI kb))]) ?_ rfl rfl rfl
  refine ks_bipush hκ 0 (-6) dX7_areBoundAt_0 kq_bm6 ?_
  refine ks_istore hκ 2 5 [(5, _), (0, _), (1, _), (2, _), (3, _), (4, _)] dX7_areBoundAt_2 (by decide) rfl ?_
  refine ks_iconst hκ 4 (nI 0) dX7_areBoundAt_4 kq_i0 ?_
  refine ks_istore hκ 5 6 [(6, _), (5, _), (0, _), (1, _), (2, _), (3, _), (4, _)] dX7_areBoundAt_5 (by decide) rfl ?_
  refine ks_iconst hκ 7 (nI 0) dX7_areBoundAt_7 kq_i0 ?_
  refine ks_istore hκ 8 7 [(7, _), (6, _), (5, _), (0, _), (1, _), (2, _), (3, _), (4, _)] dX7_areBoundAt_8 (by decide) rfl ?_
  have L10 : ∀ (fuel : Nat) (vi vp : Nat) (xo : Option Nat) (hvi : vi ≤ L.length) (hvp : vp ≤ vi) (hxo : ∀ c, xo = some c → c < 6) (hinv : (L.drop vi).foldl (kPtS e ka kb) (xo, vp) = kPt e ka kb L) (hfuel : L.length - vi < fuel), ks_K κ g 9 h 0 0 10 [(0, ks_ref g m), (1, .int (nI b)), (2, .int (nI e)), (3, .int (nI ka)), (4, .int (nI kb)), (5, .int (kON xo)), (6, .int (nI vp)), (7, .int (nI vi))] [] := by
    intro fuel
    induction fuel with
    | zero => intro vi vp xo  hvi hvp hxo hinv hfuel; exact absurd hfuel (Nat.not_lt_zero _)
    | succ fuel ih =>
      intro vi vp xo  hvi hvp hxo hinv hfuel
      refine ks_iload hκ 10 7 dX7_areBoundAt_10 rfl ?_
      refine ks_aload_n hκ 12 0 dX7_areBoundAt_12 rfl ?_
      refine ks_get hκ 13 dX7_areBoundAt_13 kf_X7_7 hM rfl ?_
      refine ks_iload_n hκ 16 1 dX7_areBoundAt_16 rfl ?_
      refine ks_bipush hκ 17 (nI 8) dX7_areBoundAt_17 kq_b8 ?_
      refine ks_iaddN hκ 19 dX7_areBoundAt_19 ?_
      refine ks_iald hκ 20 ((b + 8)) dX7_areBoundAt_20 hS rfl (by omega) (by decide) ?_
      refine ks_top (nI L.length) m8 ?_
      refine ks_icmp_ge hκ 21 74 dX7_areBoundAt_21 rfl (fun c21 => ?_) (fun c21 => ?_)
      · skip
        have c21 := (nI_leI (by omega) (by omega)).mp c21
        refine ks_iload hκ 74 6 dX7_areBoundAt_74 rfl ?_
        refine ks_iconst hκ 76 (nI 2) dX7_areBoundAt_76 kq_i2 ?_
        refine ks_icmp_le hκ 77 84 dX7_areBoundAt_77 rfl (fun c77 => ?_) (fun c77 => ?_)
        · skip
          have c77 := (nI_leI (by omega) (by omega)).mp c77
          refine ks_iconst hκ 84 (nI 0) dX7_areBoundAt_84 kq_i0 ?_
          refine ks_iret hκ 85 hRt dX7_areBoundAt_85 (by decide) (by decide) (by decide) ?_
          refine ⟨?_, rfl⟩
          rw [kdropN c21] at hinv
          have hq : (kPt e ka kb L).2 = vp := by rw [← hinv]; rfl
          first | rw [hq, if_neg (by omega)] | rw [hq, if_pos (by omega)]
        · skip
          have c77 := mt (nI_leI (by omega) (by omega)).mpr c77
          refine ks_iconst hκ 80 (nI 1) dX7_areBoundAt_80 kq_i1 ?_
          refine ks_goto hκ 81 85 dX7_areBoundAt_81 rfl ?_
          refine ks_iret hκ 85 hRt dX7_areBoundAt_85 (by decide) (by decide) (by decide) ?_
          refine ⟨?_, rfl⟩
          rw [kdropN c21] at hinv
          have hq : (kPt e ka kb L).2 = vp := by rw [← hinv]; rfl
          first | rw [hq, if_neg (by omega)] | rw [hq, if_pos (by omega)]
      · skip
        have c21 := mt (nI_leI (by omega) (by omega)).mpr c21
        obtain ⟨⟨p1, p2⟩, hp⟩ := kget (L := L) (i := vi) (by omega)
        have hp6 := (mLp (p1, p2) (List.mem_of_getElem? hp)).2
        dsimp only at hp6
        rw [kdrop hp, List.foldl_cons] at hinv
        refine ks_aload_n hκ 24 0 dX7_areBoundAt_24 rfl ?_
        refine ks_iload_n hκ 25 1 dX7_areBoundAt_25 rfl ?_
        refine ks_iload hκ 26 7 dX7_areBoundAt_26 rfl ?_
        refine ks_iload_n hκ 28 2 dX7_areBoundAt_28 rfl ?_
        refine ks_pureV3 hκ 29 dX7_areBoundAt_29 kc_X7_32 (c_Model_ownerAt hM hS hb hmd hp he) hM rfl (by decide) (Nat.le_of_ble_eq_true rfl) (by decide) (by decide) ?_
        refine ks_istore hκ 32 8 [(8, _), (0, _), (1, _), (2, _), (3, _), (4, _), (5, _), (6, _), (7, _)] dX7_areBoundAt_32 (by decide) rfl ?_
        refine ks_iload hκ 34 0 dX7_areBoundAt_34 rfl ?_
        refine ks_iload_n hκ 36 4 dX7_areBoundAt_36 rfl ?_
        refine ks_icmp_eq hκ 37 47 dX7_areBoundAt_37 rfl (fun c37 => ?_) (fun c37 => ?_)
        · skip
          have hpe : p1 = e := by
            by_cases q : p1 = e
            · exact q
            · rw [if_neg q] at c37; exact absurd c37.symm (nI_m6 (by omega))
          rw [if_pos hpe] at c37 ⊢
          have hpo : p2 = ka ∨ p2 = kb := Or.inl ((nI_eq (by omega) (by omega)).mp c37)
          rw [kPtS_1 hpe hpo] at hinv
          refine ks_iload hκ 47 7 dX7_areBoundAt_47 rfl ?_
          refine ks_iload hκ 49 0 dX7_areBoundAt_49 rfl ?_
          refine ks_iload hκ 51 6 dX7_areBoundAt_51 rfl ?_
          refine ks_icmp_ne hκ 53 60 dX7_areBoundAt_53 rfl (fun c53 => ?_) (fun c53 => ?_)
          · skip
            rw [if_neg (fun q => c53 (by rw [show xo = some p2 from q]; rfl))] at hinv
            refine ks_iconst hκ 60 (nI 1) dX7_areBoundAt_60 kq_i1 ?_
            refine ks_iaddN hκ 61 dX7_areBoundAt_61 ?_
            refine ks_istore hκ 62 6 [(6, _), (8, _), (0, _), (1, _), (2, _), (3, _), (4, _), (5, _), (7, _)] dX7_areBoundAt_62 (by decide) rfl ?_
            refine ks_iload hκ 64 1 dX7_areBoundAt_64 rfl ?_
            refine ks_istore hκ 66 5 [(5, _), (6, _), (8, _), (0, _), (1, _), (2, _), (3, _), (4, _), (7, _)] dX7_areBoundAt_66 (by decide) rfl ?_
            refine ks_iinc hκ 68 7 8 (nI (vi + 1)) [(7, _), (5, _), (6, _), (8, _), (0, _), (1, _), (2, _), (3, _), (4, _)] dX7_areBoundAt_68 rfl (ks_inc1 _) (by decide) rfl ?_
            refine ks_goto hκ 71 10 dX7_areBoundAt_71 rfl ?_
            refine ks_pick [4, 5, 6, 7, 8, 1, 2, 0] [(0, _), (1, _), (2, _), (3, _), (4, _), (5, _), (6, _), (7, _)] rfl ?_
            exact ks_cv (ih (vi + 1) _ (some p2)  (by omega) (by omega) (fun c q => by cases q; exact hp6) hinv (by omega)) rfl rfl rfl
          · skip
            rw [if_pos ((kON_eq hxo hp6).mp c53.symm)] at hinv
            refine ks_iconst hκ 56 (nI 0) dX7_areBoundAt_56 kq_i0 ?_
            refine ks_goto hκ 57 61 dX7_areBoundAt_57 rfl ?_
            refine ks_iaddN hκ 61 dX7_areBoundAt_61 ?_
            refine ks_istore hκ 62 6 [(6, _), (8, _), (0, _), (1, _), (2, _), (3, _), (4, _), (5, _), (7, _)] dX7_areBoundAt_62 (by decide) rfl ?_
            refine ks_iload hκ 64 1 dX7_areBoundAt_64 rfl ?_
            refine ks_istore hκ 66 5 [(5, _), (6, _), (8, _), (0, _), (1, _), (2, _), (3, _), (4, _), (7, _)] dX7_areBoundAt_66 (by decide) rfl ?_
            refine ks_iinc hκ 68 7 8 (nI (vi + 1)) [(7, _), (5, _), (6, _), (8, _), (0, _), (1, _), (2, _), (3, _), (4, _)] dX7_areBoundAt_68 rfl (ks_inc1 _) (by decide) rfl ?_
            refine ks_goto hκ 71 10 dX7_areBoundAt_71 rfl ?_
            refine ks_pick [4, 5, 6, 7, 8, 1, 2, 0] [(0, _), (1, _), (2, _), (3, _), (4, _), (5, _), (6, _), (7, _)] rfl ?_
            exact ks_cv (ih (vi + 1) _ (some p2)  (by omega) (by omega) (fun c q => by cases q; exact hp6) hinv (by omega)) rfl rfl rfl
        · skip
          refine ks_iload hκ 40 0 dX7_areBoundAt_40 rfl ?_
          refine ks_iload hκ 42 5 dX7_areBoundAt_42 rfl ?_
          refine ks_icmp_ne hκ 44 68 dX7_areBoundAt_44 rfl (fun c44 => ?_) (fun c44 => ?_)
          · skip
            have hsk : kPtS e ka kb (xo, vp) (p1, p2) = (xo, vp) := by
              by_cases q : p1 = e
              · rw [if_pos q] at c37 c44
                exact kPtS_2 (fun z => z.elim (fun z => c37 (by rw [z])) (fun z => c44 (by rw [z])))
              · exact kPtS_3 q
            rw [hsk] at hinv
            refine ks_iinc hκ 68 7 8 (nI (vi + 1)) [(7, _), (8, _), (0, _), (1, _), (2, _), (3, _), (4, _), (5, _), (6, _)] dX7_areBoundAt_68 rfl (ks_inc1 _) (by decide) rfl ?_
            refine ks_goto hκ 71 10 dX7_areBoundAt_71 rfl ?_
            refine ks_pick [2, 3, 4, 5, 6, 7, 8, 0] [(0, _), (1, _), (2, _), (3, _), (4, _), (5, _), (6, _), (7, _)] rfl ?_
            exact ks_cv (ih (vi + 1) _ xo  (by omega) (by omega) hxo hinv (by omega)) rfl rfl rfl
          · skip
            have hpe : p1 = e := by
              by_cases q : p1 = e
              · exact q
              · rw [if_neg q] at c44; exact absurd c44.symm (nI_m6 (by omega))
            rw [if_pos hpe] at c44 ⊢
            have hpo : p2 = ka ∨ p2 = kb := Or.inr ((nI_eq (by omega) (by omega)).mp c44)
            rw [kPtS_1 hpe hpo] at hinv
            refine ks_iload hκ 47 7 dX7_areBoundAt_47 rfl ?_
            refine ks_iload hκ 49 0 dX7_areBoundAt_49 rfl ?_
            refine ks_iload hκ 51 6 dX7_areBoundAt_51 rfl ?_
            refine ks_icmp_ne hκ 53 60 dX7_areBoundAt_53 rfl (fun c53 => ?_) (fun c53 => ?_)
            · skip
              rw [if_neg (fun q => c53 (by rw [show xo = some p2 from q]; rfl))] at hinv
              refine ks_iconst hκ 60 (nI 1) dX7_areBoundAt_60 kq_i1 ?_
              refine ks_iaddN hκ 61 dX7_areBoundAt_61 ?_
              refine ks_istore hκ 62 6 [(6, _), (8, _), (0, _), (1, _), (2, _), (3, _), (4, _), (5, _), (7, _)] dX7_areBoundAt_62 (by decide) rfl ?_
              refine ks_iload hκ 64 1 dX7_areBoundAt_64 rfl ?_
              refine ks_istore hκ 66 5 [(5, _), (6, _), (8, _), (0, _), (1, _), (2, _), (3, _), (4, _), (7, _)] dX7_areBoundAt_66 (by decide) rfl ?_
              refine ks_iinc hκ 68 7 8 (nI (vi + 1)) [(7, _), (5, _), (6, _), (8, _), (0, _), (1, _), (2, _), (3, _), (4, _)] dX7_areBoundAt_68 rfl (ks_inc1 _) (by decide) rfl ?_
              refine ks_goto hκ 71 10 dX7_areBoundAt_71 rfl ?_
              refine ks_pick [4, 5, 6, 7, 8, 1, 2, 0] [(0, _), (1, _), (2, _), (3, _), (4, _), (5, _), (6, _), (7, _)] rfl ?_
              exact ks_cv (ih (vi + 1) _ (some p2)  (by omega) (by omega) (fun c q => by cases q; exact hp6) hinv (by omega)) rfl rfl rfl
            · skip
              rw [if_pos ((kON_eq hxo hp6).mp c53.symm)] at hinv
              refine ks_iconst hκ 56 (nI 0) dX7_areBoundAt_56 kq_i0 ?_
              refine ks_goto hκ 57 61 dX7_areBoundAt_57 rfl ?_
              refine ks_iaddN hκ 61 dX7_areBoundAt_61 ?_
              refine ks_istore hκ 62 6 [(6, _), (8, _), (0, _), (1, _), (2, _), (3, _), (4, _), (5, _), (7, _)] dX7_areBoundAt_62 (by decide) rfl ?_
              refine ks_iload hκ 64 1 dX7_areBoundAt_64 rfl ?_
              refine ks_istore hκ 66 5 [(5, _), (6, _), (8, _), (0, _), (1, _), (2, _), (3, _), (4, _), (7, _)] dX7_areBoundAt_66 (by decide) rfl ?_
              refine ks_iinc hκ 68 7 8 (nI (vi + 1)) [(7, _), (5, _), (6, _), (8, _), (0, _), (1, _), (2, _), (3, _), (4, _)] dX7_areBoundAt_68 rfl (ks_inc1 _) (by decide) rfl ?_
              refine ks_goto hκ 71 10 dX7_areBoundAt_71 rfl ?_
              refine ks_pick [4, 5, 6, 7, 8, 1, 2, 0] [(0, _), (1, _), (2, _), (3, _), (4, _), (5, _), (6, _), (7, _)] rfl ?_
              exact ks_cv (ih (vi + 1) _ (some p2)  (by omega) (by omega) (fun c q => by cases q; exact hp6) hinv (by omega)) rfl rfl rfl
  refine ks_pick [3, 4, 5, 6, 7, 2, 1, 0] [(0, _), (1, _), (2, _), (3, _), (4, _), (5, _), (6, _), (7, _)] rfl ?_
  exact ks_cv (L10 _ 0 0 none  (Nat.zero_le _) (Nat.le_refl _) (fun c q => by cases q) rfl (Nat.lt_succ_self _)) rfl rfl rfl
set_option maxRecDepth 100000 in
set_option maxHeartbeats 4000000 in
theorem c_Model_boundEdges {g : ks_G} {h : ks_H} {m b : Nat} {fs : List Value} {f : Nat → Int32} {se : Nat → Int32} {tu : Int32} {ki : Nat} {ma re : Int32} {kf : Nat → Nat → Int32} {L : List (Nat × Nat)} {P : List kP} {ka kb : Nat} (hM : h[m]? = some (ks_O 7 (ks_ref g (m + 1) :: fs))) (hS : h[m + 1]? = some (ks_I g 3400 f)) (hb : b + 340 ≤ 3400) (hmd : kMd f b (se, tu, ki, ma, re, kf, L, P)) (hka : ka < 6) (hkb : kb < 6) (hne : ka ≠ kb) : ks_Met g (yX7_boundEdges, cX7_boundEdges, 6, some .int) 2 0 0 [ks_ref g m, .int (nI b), .int (nI ka), .int (nI kb)] h (ks_Pi (kBes ka kb L) h) := by
  obtain ⟨mS, m4, m5, m6, m7, m8, m9, mK, mP, mL, mki, mLl, mPl, mLp, mPp⟩ := id hmd
  dsimp only at mS m4 m5 m6 m7 m8 m9 mK mP mL mki mLl mPl mLp mPp
  refine ks_intro (by decide) (Nat.le_of_ble_eq_true rfl) (fun κ hκ hRt => ?_)
  refine ks_cv (ls := [(0, ks_ref g m), (1, .int (nI b)), (2, .int (nI ka)), (3, .int (nI kb))]) ?_ rfl rfl rfl
  refine ks_iconst hκ 0 (nI 0) dX7_boundEdges_0 kq_i0 ?_
  refine ks_istore hκ 1 4 [(4, _), (0, _), (1, _), (2, _), (3, _)] dX7_boundEdges_1 (by decide) rfl ?_
  refine ks_iconst hκ 3 (nI 0) dX7_boundEdges_3 kq_i0 ?_
  refine ks_istore hκ 4 5 [(5, _), (4, _), (0, _), (1, _), (2, _), (3, _)] dX7_boundEdges_4 (by decide) rfl ?_
  have L6 : ∀ (fuel : Nat) (vj : Nat) (xa : Int32) (hvj : vj ≤ 15) (hinv : ((List.range 15).drop vj).foldl (kBEdS ka kb L) xa = kBes ka kb L) (hfuel : 15 - vj < fuel), ks_K κ g 6 h 0 0 6 [(0, ks_ref g m), (1, .int (nI b)), (2, .int (nI ka)), (3, .int (nI kb)), (4, .int xa), (5, .int (nI vj))] [] := by
    intro fuel
    induction fuel with
    | zero => intro vj xa  hvj hinv hfuel; exact absurd hfuel (Nat.not_lt_zero _)
    | succ fuel ih =>
      intro vj xa  hvj hinv hfuel
      refine ks_iload hκ 6 5 dX7_boundEdges_6 rfl ?_
      refine ks_bipush hκ 8 (nI 15) dX7_boundEdges_8 kq_b15 ?_
      refine ks_icmp_ge hκ 10 44 dX7_boundEdges_10 rfl (fun c10 => ?_) (fun c10 => ?_)
      · skip
        have c10 := (nI_leI (by omega) (by omega)).mp c10
        refine ks_iload hκ 44 4 dX7_boundEdges_44 rfl ?_
        refine ks_iret hκ 46 hRt dX7_boundEdges_46 (by decide) (by decide) rfl ?_
        exact ⟨by rw [← hinv, kdropRN c10]; rfl, rfl⟩
      · skip
        have c10 := mt (nI_leI (by omega) (by omega)).mpr c10
        rw [kdropR (by omega), List.foldl_cons] at hinv
        refine ks_iload hκ 13 4 dX7_boundEdges_13 rfl ?_
        refine ks_aload_n hκ 15 0 dX7_boundEdges_15 rfl ?_
        refine ks_iload_n hκ 16 1 dX7_boundEdges_16 rfl ?_
        refine ks_iload hκ 17 5 dX7_boundEdges_17 rfl ?_
        refine ks_iload_n hκ 19 2 dX7_boundEdges_19 rfl ?_
        refine ks_iload_n hκ 20 3 dX7_boundEdges_20 rfl ?_
        refine ks_pureV4 hκ 21 dX7_boundEdges_21 kc_X7_46 (c_Model_areBoundAt hM hS hb hmd (show vj < 15 by omega) hka hkb) hM rfl (by decide) (Nat.le_of_ble_eq_true rfl) (by decide) (by decide) ?_
        refine ks_if_eq hκ 24 34 dX7_boundEdges_24 rfl (fun c24 => ?_) (fun c24 => ?_)
        · skip
          have c24 : ¬ decide (2 < (kPt vj ka kb L).2) = true := fun q => by rw [if_pos (of_decide_eq_true q)] at c24; exact absurd c24 (by decide)
          refine ks_iconst hκ 34 (nI 0) dX7_boundEdges_34 kq_i0 ?_
          refine ks_ior hκ 35 dX7_boundEdges_35 ?_
          refine ks_istore hκ 36 4 [(4, _), (0, _), (1, _), (2, _), (3, _), (5, _)] dX7_boundEdges_36 (by decide) rfl ?_
          refine ks_iinc hκ 38 5 5 (nI (vj + 1)) [(5, _), (4, _), (0, _), (1, _), (2, _), (3, _)] dX7_boundEdges_38 rfl (ks_inc1 _) (by decide) rfl ?_
          refine ks_goto hκ 41 6 dX7_boundEdges_41 rfl ?_
          refine ks_pick [2, 3, 4, 5, 1, 0] [(0, _), (1, _), (2, _), (3, _), (4, _), (5, _)] rfl ?_
          exact ks_cv (ih (vj + 1) _  (by omega) (by first | (rw [kBEdS, if_neg c24] at hinv; rw [kor0]; exact hinv) | (rw [kBEdS, if_pos c24] at hinv; exact hinv)) (by omega)) rfl rfl rfl
        · skip
          have c24 : decide (2 < (kPt vj ka kb L).2) = true := decide_eq_true (by
            by_cases q : 2 < (kPt vj ka kb L).2
            · exact q
            · exact absurd (if_neg q) c24)
          refine ks_iconst hκ 27 (nI 1) dX7_boundEdges_27 kq_i1 ?_
          refine ks_iload hκ 28 5 dX7_boundEdges_28 rfl ?_
          refine ks_ishl hκ 30 dX7_boundEdges_30 ?_
          refine ks_goto hκ 31 35 dX7_boundEdges_31 rfl ?_
          refine ks_ior hκ 35 dX7_boundEdges_35 ?_
          refine ks_istore hκ 36 4 [(4, _), (0, _), (1, _), (2, _), (3, _), (5, _)] dX7_boundEdges_36 (by decide) rfl ?_
          refine ks_iinc hκ 38 5 5 (nI (vj + 1)) [(5, _), (4, _), (0, _), (1, _), (2, _), (3, _)] dX7_boundEdges_38 rfl (ks_inc1 _) (by decide) rfl ?_
          refine ks_goto hκ 41 6 dX7_boundEdges_41 rfl ?_
          refine ks_pick [2, 3, 4, 5, 1, 0] [(0, _), (1, _), (2, _), (3, _), (4, _), (5, _)] rfl ?_
          exact ks_cv (ih (vj + 1) _  (by omega) (by first | (rw [kBEdS, if_neg c24] at hinv; rw [kor0]; exact hinv) | (rw [kBEdS, if_pos c24] at hinv; exact hinv)) (by omega)) rfl rfl rfl
  refine ks_pick [2, 3, 4, 5, 1, 0] [(0, _), (1, _), (2, _), (3, _), (4, _), (5, _)] rfl ?_
  exact ks_cv (L6 _ 0 _  (Nat.zero_le _) (kBes_edges hne (fun p hp => (mLp p hp).1)) (Nat.lt_succ_self _)) rfl rfl rfl
set_option maxRecDepth 100000 in
set_option maxHeartbeats 4000000 in
theorem c_Model_boundTo {g : ks_G} {h : ks_H} {m b : Nat} {fs : List Value} {f : Nat → Int32} {se : Nat → Int32} {tu : Int32} {ki : Nat} {ma re : Int32} {kf : Nat → Nat → Int32} {L : List (Nat × Nat)} {P : List kP} {k : Nat} (hM : h[m]? = some (ks_O 7 (ks_ref g (m + 1) :: fs))) (hS : h[m + 1]? = some (ks_I g 3400 f)) (hb : b + 340 ≤ 3400) (hmd : kMd f b (se, tu, ki, ma, re, kf, L, P)) (hk : k < 6) : ks_Met g (yX7_boundTo, cX7_boundTo, 5, some .int) 3 0 0 [ks_ref g m, .int (nI b), .int (nI k)] h (ks_Pi (kBSet (se, tu, ki, ma, re, kf, L, P) k) h) := by
  obtain ⟨mS, m4, m5, m6, m7, m8, m9, mK, mP, mL, mki, mLl, mPl, mLp, mPp⟩ := id hmd
  dsimp only at mS m4 m5 m6 m7 m8 m9 mK mP mL mki mLl mPl mLp mPp
  refine ks_intro (by decide) (Nat.le_of_ble_eq_true rfl) (fun κ hκ hRt => ?_)
  refine ks_cv (ls := [(0, ks_ref g m), (1, .int (nI b)), (2, .int (nI k))]) ?_ rfl rfl rfl
  refine ks_iconst hκ 0 (nI 0) dX7_boundTo_0 kq_i0 ?_
  refine ks_istore_n hκ 1 3 [(3, _), (0, _), (1, _), (2, _)] dX7_boundTo_1 rfl (by decide) rfl ?_
  refine ks_iconst hκ 2 (nI 0) dX7_boundTo_2 kq_i0 ?_
  refine ks_istore hκ 3 4 [(4, _), (3, _), (0, _), (1, _), (2, _)] dX7_boundTo_3 (by decide) rfl ?_
  have L5 : ∀ (fuel : Nat) (vj : Nat) (xa : Int32) (hvj : vj ≤ ki) (hinv : ((List.range ki).drop vj).foldl (kBSetS (se, tu, ki, ma, re, kf, L, P) k) xa = kBSet (se, tu, ki, ma, re, kf, L, P) k) (hfuel : ki - vj < fuel), ks_K κ g 5 h 0 0 5 [(0, ks_ref g m), (1, .int (nI b)), (2, .int (nI k)), (3, .int xa), (4, .int (nI vj))] [] := by
    intro fuel
    induction fuel with
    | zero => intro vj xa  hvj hinv hfuel; exact absurd hfuel (Nat.not_lt_zero _)
    | succ fuel ih =>
      intro vj xa  hvj hinv hfuel
      refine ks_iload hκ 5 4 dX7_boundTo_5 rfl ?_
      refine ks_aload_n hκ 7 0 dX7_boundTo_7 rfl ?_
      refine ks_get hκ 8 dX7_boundTo_8 kf_X7_7 hM rfl ?_
      refine ks_iload_n hκ 11 1 dX7_boundTo_11 rfl ?_
      refine ks_iconst hκ 12 (nI 5) dX7_boundTo_12 kq_i5 ?_
      refine ks_iaddN hκ 13 dX7_boundTo_13 ?_
      refine ks_iald hκ 14 ((b + 5)) dX7_boundTo_14 hS rfl (by omega) (by decide) ?_
      refine ks_top (nI ki) m5 ?_
      refine ks_icmp_ge hκ 15 52 dX7_boundTo_15 rfl (fun c15 => ?_) (fun c15 => ?_)
      · skip
        have c15 := (nI_leI (by omega) (by omega)).mp c15
        refine ks_iload_n hκ 52 3 dX7_boundTo_52 rfl ?_
        refine ks_iret hκ 53 hRt dX7_boundTo_53 (by decide) (by decide) rfl ?_
        exact ⟨by rw [← hinv, kdropRN c15]; rfl, rfl⟩
      · skip
        have c15 := mt (nI_leI (by omega) (by omega)).mpr c15
        rw [kdropR (by omega), List.foldl_cons] at hinv
        refine ks_iload_n hκ 18 3 dX7_boundTo_18 rfl ?_
        refine ks_iload hκ 19 4 dX7_boundTo_19 rfl ?_
        refine ks_iload_n hκ 21 2 dX7_boundTo_21 rfl ?_
        refine ks_icmp_eq hκ 22 43 dX7_boundTo_22 rfl (fun c22 => ?_) (fun c22 => ?_)
        · skip
          have c22 := (nI_eq (by omega) (by omega)).mp c22
          refine ks_iconst hκ 43 (nI 0) dX7_boundTo_43 kq_i0 ?_
          refine ks_ior hκ 44 dX7_boundTo_44 ?_
          refine ks_istore_n hκ 45 3 [(3, _), (0, _), (1, _), (2, _), (4, _)] dX7_boundTo_45 rfl (by decide) rfl ?_
          refine ks_iinc hκ 46 4 4 (nI (vj + 1)) [(4, _), (3, _), (0, _), (1, _), (2, _)] dX7_boundTo_46 rfl (ks_inc1 _) (by decide) rfl ?_
          refine ks_goto hκ 49 5 dX7_boundTo_49 rfl ?_
          refine ks_pick [2, 3, 4, 1, 0] [(0, _), (1, _), (2, _), (3, _), (4, _)] rfl ?_
          exact ks_cv (ih (vj + 1) _  (by omega) (by first | (rw [kBSetS, if_pos c22] at hinv; rw [kor0]; exact hinv) | (rw [kBSetS, if_neg c22, if_pos c33] at hinv; rw [kor0]; exact hinv) | (rw [kBSetS, if_neg c22, if_neg c33] at hinv; exact hinv)) (by omega)) rfl rfl rfl
        · skip
          have c22 := mt (nI_eq (by omega) (by omega)).mpr c22
          refine ks_aload_n hκ 25 0 dX7_boundTo_25 rfl ?_
          refine ks_iload_n hκ 26 1 dX7_boundTo_26 rfl ?_
          refine ks_iload_n hκ 27 2 dX7_boundTo_27 rfl ?_
          refine ks_iload hκ 28 4 dX7_boundTo_28 rfl ?_
          refine ks_pureV3 hκ 30 dX7_boundTo_30 kc_X7_50 (c_Model_boundEdges hM hS hb hmd hk (by omega) (fun q => c22 q.symm)) hM rfl (by decide) (Nat.le_of_ble_eq_true rfl) (by decide) (by decide) ?_
          refine ks_if_eq hκ 33 43 dX7_boundTo_33 rfl (fun c33 => ?_) (fun c33 => ?_)
          · skip
            refine ks_iconst hκ 43 (nI 0) dX7_boundTo_43 kq_i0 ?_
            refine ks_ior hκ 44 dX7_boundTo_44 ?_
            refine ks_istore_n hκ 45 3 [(3, _), (0, _), (1, _), (2, _), (4, _)] dX7_boundTo_45 rfl (by decide) rfl ?_
            refine ks_iinc hκ 46 4 4 (nI (vj + 1)) [(4, _), (3, _), (0, _), (1, _), (2, _)] dX7_boundTo_46 rfl (ks_inc1 _) (by decide) rfl ?_
            refine ks_goto hκ 49 5 dX7_boundTo_49 rfl ?_
            refine ks_pick [2, 3, 4, 1, 0] [(0, _), (1, _), (2, _), (3, _), (4, _)] rfl ?_
            exact ks_cv (ih (vj + 1) _  (by omega) (by first | (rw [kBSetS, if_pos c22] at hinv; rw [kor0]; exact hinv) | (rw [kBSetS, if_neg c22, if_pos c33] at hinv; rw [kor0]; exact hinv) | (rw [kBSetS, if_neg c22, if_neg c33] at hinv; exact hinv)) (by omega)) rfl rfl rfl
          · skip
            refine ks_iconst hκ 36 (nI 1) dX7_boundTo_36 kq_i1 ?_
            refine ks_iload hκ 37 4 dX7_boundTo_37 rfl ?_
            refine ks_ishl hκ 39 dX7_boundTo_39 ?_
            refine ks_goto hκ 40 44 dX7_boundTo_40 rfl ?_
            refine ks_ior hκ 44 dX7_boundTo_44 ?_
            refine ks_istore_n hκ 45 3 [(3, _), (0, _), (1, _), (2, _), (4, _)] dX7_boundTo_45 rfl (by decide) rfl ?_
            refine ks_iinc hκ 46 4 4 (nI (vj + 1)) [(4, _), (3, _), (0, _), (1, _), (2, _)] dX7_boundTo_46 rfl (ks_inc1 _) (by decide) rfl ?_
            refine ks_goto hκ 49 5 dX7_boundTo_49 rfl ?_
            refine ks_pick [2, 3, 4, 1, 0] [(0, _), (1, _), (2, _), (3, _), (4, _)] rfl ?_
            exact ks_cv (ih (vj + 1) _  (by omega) (by first | (rw [kBSetS, if_pos c22] at hinv; rw [kor0]; exact hinv) | (rw [kBSetS, if_neg c22, if_pos c33] at hinv; rw [kor0]; exact hinv) | (rw [kBSetS, if_neg c22, if_neg c33] at hinv; exact hinv)) (by omega)) rfl rfl rfl
  refine ks_pick [2, 3, 4, 1, 0] [(0, _), (1, _), (2, _), (3, _), (4, _)] rfl ?_
  exact ks_cv (L5 _ 0 _  (Nat.zero_le _) rfl (Nat.lt_succ_self _)) rfl rfl rfl
set_option maxRecDepth 100000 in
set_option maxHeartbeats 4000000 in
theorem c_Model_isHeldBack {g : ks_G} {h : ks_H} {m b : Nat} {fs : List Value} {f : Nat → Int32} {se : Nat → Int32} {tu : Int32} {ki : Nat} {ma re : Int32} {kf : Nat → Nat → Int32} {L : List (Nat × Nat)} {P : List kP} {k : Nat} {x : Int32} (hM : h[m]? = some (ks_O 7 (ks_ref g (m + 1) :: fs))) (hS : h[m + 1]? = some (ks_I g 3400 f)) (hb : b + 340 ≤ 3400) (hmd : kMd f b (se, tu, ki, ma, re, kf, L, P)) (hk : k < ki) : ks_Met g (yX7_isHeldBack, cX7_isHeldBack, 10, some .boolean) 4 0 0 [ks_ref g m, .int (nI b), .int (nI k), .int x] h (ks_Pi (if kHeld (se, tu, ki, ma, re, kf, L, P) k (kf 0 k + x) = true then nI 1 else nI 0) h) := by
  obtain ⟨mS, m4, m5, m6, m7, m8, m9, mK, mP, mL, mki, mLl, mPl, mLp, mPp⟩ := id hmd
  dsimp only at mS m4 m5 m6 m7 m8 m9 mK mP mL mki mLl mPl mLp mPp
  have hk0 := mK k 0 hk (by decide)
  rw [Nat.add_zero] at hk0
  refine ks_intro (by decide) (Nat.le_of_ble_eq_true rfl) (fun κ hκ hRt => ?_)
  refine ks_cv (ls := [(0, ks_ref g m), (1, .int (nI b)), (2, .int (nI k)), (3, .int x)]) ?_ rfl rfl rfl
  refine ks_aload_n hκ 0 0 dX7_isHeldBack_0 rfl ?_
  refine ks_iload_n hκ 1 1 dX7_isHeldBack_1 rfl ?_
  refine ks_iload_n hκ 2 2 dX7_isHeldBack_2 rfl ?_
  refine ks_pureV2 hκ 3 dX7_isHeldBack_3 kc_X7_53 (c_Model_boundTo hM hS hb hmd (by omega)) hM rfl (by decide) (Nat.le_of_ble_eq_true rfl) (by decide) (by decide) ?_
  refine ks_istore hκ 6 4 [(4, _), (0, _), (1, _), (2, _), (3, _)] dX7_isHeldBack_6 (by decide) rfl ?_
  refine ks_aload_n hκ 8 1 dX7_isHeldBack_8 rfl ?_
  refine ks_get hκ 9 dX7_isHeldBack_9 kf_X7_7 hM rfl ?_
  refine ks_iload_n hκ 12 2 dX7_isHeldBack_12 rfl ?_
  refine ks_iload_n hκ 13 3 dX7_isHeldBack_13 rfl ?_
  refine ks_pureS2 hκ 14 dX7_isHeldBack_14 kc_X7_28 (c_Model_kittenAt) (by decide) (Nat.le_of_ble_eq_true rfl) (by decide) (by decide) ?_
  refine ks_iald hκ 17 ((b + 10 + 7 * k)) dX7_isHeldBack_17 hS rfl (by omega) (by decide) ?_
  refine ks_top (kf 0 k) (hk0) ?_
  refine ks_istore hκ 18 5 [(5, _), (4, _), (0, _), (1, _), (2, _), (3, _)] dX7_isHeldBack_18 (by decide) rfl ?_
  refine ks_iconst hκ 20 (nI 0) dX7_isHeldBack_20 kq_i0 ?_
  refine ks_istore hκ 21 6 [(6, _), (5, _), (4, _), (0, _), (1, _), (2, _), (3, _)] dX7_isHeldBack_21 (by decide) rfl ?_
  refine ks_iconst hκ 23 (nI 0) dX7_isHeldBack_23 kq_i0 ?_
  refine ks_istore hκ 24 7 [(7, _), (6, _), (5, _), (4, _), (0, _), (1, _), (2, _), (3, _)] dX7_isHeldBack_24 (by decide) rfl ?_
  have L26 : ∀ (fuel : Nat) (vj vz : Nat) (hvj : vj ≤ ki) (hvz : vz ≤ 1) (hi0 : vz = 0 → ∀ j, j < vj → kHeldQ (se, tu, ki, ma, re, kf, L, P) k (kf 0 k + x) j = false) (hi1 : vz = 1 → kHeld (se, tu, ki, ma, re, kf, L, P) k (kf 0 k + x) = true) (hfuel : ki - vj < fuel), ks_K κ g 10 h 0 0 26 [(0, ks_ref g m), (1, .int (nI b)), (2, .int (nI k)), (3, .int x), (4, .int (kBSet (se, tu, ki, ma, re, kf, L, P) k)), (5, .int (kf 0 k)), (6, .int (nI vz)), (7, .int (nI vj))] [] := by
    intro fuel
    induction fuel with
    | zero => intro vj vz  hvj hvz hi0 hi1 hfuel; exact absurd hfuel (Nat.not_lt_zero _)
    | succ fuel ih =>
      intro vj vz  hvj hvz hi0 hi1 hfuel
      refine ks_iload hκ 26 7 dX7_isHeldBack_26 rfl ?_
      refine ks_aload_n hκ 28 0 dX7_isHeldBack_28 rfl ?_
      refine ks_get hκ 29 dX7_isHeldBack_29 kf_X7_7 hM rfl ?_
      refine ks_iload_n hκ 32 1 dX7_isHeldBack_32 rfl ?_
      refine ks_iconst hκ 33 (nI 5) dX7_isHeldBack_33 kq_i5 ?_
      refine ks_iaddN hκ 34 dX7_isHeldBack_34 ?_
      refine ks_iald hκ 35 ((b + 5)) dX7_isHeldBack_35 hS rfl (by omega) (by decide) ?_
      refine ks_top (nI ki) m5 ?_
      refine ks_icmp_ge hκ 36 128 dX7_isHeldBack_36 rfl (fun c36 => ?_) (fun c36 => ?_)
      · skip
        have c36 := (nI_leI (by omega) (by omega)).mp c36
        refine ks_iload hκ 128 6 dX7_isHeldBack_128 rfl ?_
        refine ks_iret hκ 130 hRt dX7_isHeldBack_130 (by decide) (by decide) (by rcases (show vz = 0 ∨ vz = 1 by omega) with q | q <;> rw [q] <;> decide) ?_
        refine ⟨?_, rfl⟩
        rcases (show vz = 0 ∨ vz = 1 by omega) with q | q
        · have hq : kHeld (se, tu, ki, ma, re, kf, L, P) k (kf 0 k + x) = false := any_f (fun j hj => hi0 q j (by have hj2 : j < ki := hj; omega))
          rw [hq, q]; rfl
        · rw [if_pos (hi1 q), q]
      · skip
        have c36 := mt (nI_leI (by omega) (by omega)).mpr c36
        have hj0 := mK vj 0 (by omega) (by decide)
        rw [Nat.add_zero] at hj0
        have hbb : kbt (kBSet (se, tu, ki, ma, re, kf, L, P) k) vj = _ := kBSet_bit (by omega) mki
        dsimp only at hbb
        refine ks_iload hκ 39 5 dX7_isHeldBack_39 rfl ?_
        refine ks_aload_n hκ 41 0 dX7_isHeldBack_41 rfl ?_
        refine ks_get hκ 42 dX7_isHeldBack_42 kf_X7_7 hM rfl ?_
        refine ks_iload_n hκ 45 1 dX7_isHeldBack_45 rfl ?_
        refine ks_iload hκ 46 7 dX7_isHeldBack_46 rfl ?_
        refine ks_pureS2 hκ 48 dX7_isHeldBack_48 kc_X7_28 (c_Model_kittenAt) (by decide) (Nat.le_of_ble_eq_true rfl) (by decide) (by decide) ?_
        refine ks_iald hκ 51 ((b + 10 + 7 * vj)) dX7_isHeldBack_51 hS rfl (by omega) (by decide) ?_
        refine ks_top (kf 0 vj) (hj0) ?_
        refine ks_isub hκ 52 dX7_isHeldBack_52 ?_
        refine ks_pureS1 hκ 53 dX7_isHeldBack_53 kc_X7_56 (c_Model_size) (by decide) (Nat.le_of_ble_eq_true rfl) (by decide) (by decide) ?_
        refine ks_istore hκ 56 8 [(8, _), (0, _), (1, _), (2, _), (3, _), (4, _), (5, _), (6, _), (7, _)] dX7_isHeldBack_56 (by decide) rfl ?_
        refine ks_iload hκ 58 6 dX7_isHeldBack_58 rfl ?_
        refine ks_iload_n hκ 60 4 dX7_isHeldBack_60 rfl ?_
        refine ks_iadd hκ 61 dX7_isHeldBack_61 ?_
        refine ks_aload_n hκ 62 1 dX7_isHeldBack_62 rfl ?_
        refine ks_get hκ 63 dX7_isHeldBack_63 kf_X7_7 hM rfl ?_
        refine ks_iload_n hκ 66 2 dX7_isHeldBack_66 rfl ?_
        refine ks_iload hκ 67 8 dX7_isHeldBack_67 rfl ?_
        refine ks_pureS2 hκ 69 dX7_isHeldBack_69 kc_X7_28 (c_Model_kittenAt) (by decide) (Nat.le_of_ble_eq_true rfl) (by decide) (by decide) ?_
        refine ks_iald hκ 72 ((b + 10 + 7 * vj)) dX7_isHeldBack_72 hS rfl (by omega) (by decide) ?_
        refine ks_top (kf 0 vj) (hj0) ?_
        refine ks_isub hκ 73 dX7_isHeldBack_73 ?_
        refine ks_pureS1 hκ 74 dX7_isHeldBack_74 kc_X7_56 (c_Model_size) (by decide) (Nat.le_of_ble_eq_true rfl) (by decide) (by decide) ?_
        refine ks_istore hκ 77 9 [(9, _), (8, _), (0, _), (1, _), (2, _), (3, _), (4, _), (5, _), (6, _), (7, _)] dX7_isHeldBack_77 (by decide) rfl ?_
        refine ks_iload hκ 79 8 dX7_isHeldBack_79 rfl ?_
        refine ks_if_ne hκ 81 115 dX7_isHeldBack_81 rfl (fun c81 => ?_) (fun c81 => ?_)
        · skip
          have c81 := mt (ks_eq0 (by omega)).mpr c81
          refine ks_iconst hκ 115 (nI 1) dX7_isHeldBack_115 kq_i1 ?_
          refine ks_goto hκ 116 120 dX7_isHeldBack_116 rfl ?_
          refine ks_istore hκ 120 6 [(6, _), (9, _), (8, _), (0, _), (1, _), (2, _), (3, _), (4, _), (5, _), (7, _)] dX7_isHeldBack_120 (by decide) rfl ?_
          refine ks_iinc hκ 122 7 9 (nI (vj + 1)) [(7, _), (6, _), (9, _), (8, _), (0, _), (1, _), (2, _), (3, _), (4, _), (5, _)] dX7_isHeldBack_122 rfl (ks_inc1 _) (by decide) rfl ?_
          refine ks_goto hκ 125 26 dX7_isHeldBack_125 rfl ?_
          refine ks_pick [4, 5, 6, 7, 8, 9, 1, 0] [(0, _), (1, _), (2, _), (3, _), (4, _), (5, _), (6, _), (7, _)] rfl ?_
          exact ks_cv (ih (vj + 1) _  (by omega) (by decide) (fun q => by first | exact absurd q (by decide) | exact fun j hj => by rcases Nat.lt_succ_iff_lt_or_eq.mp hj with q1 | q1; { exact hi0 (by omega) j q1 }; { subst q1; exact hQf }) (fun q => by first | exact absurd q (by decide) | exact hi1 (by omega) | exact any_t (show vj < ki by omega) hQt) (by omega)) rfl rfl rfl
        · skip
          have c81 := (ks_eq0 (by omega)).mp c81
          refine ks_iload hκ 84 6 dX7_isHeldBack_84 rfl ?_
          refine ks_iload hκ 86 9 dX7_isHeldBack_86 rfl ?_
          refine ks_ishr hκ 88 dX7_isHeldBack_88 ?_
          refine ks_iconst hκ 89 (nI 1) dX7_isHeldBack_89 kq_i1 ?_
          refine ks_iand hκ 90 dX7_isHeldBack_90 ?_
          refine ks_iconst hκ 91 (nI 1) dX7_isHeldBack_91 kq_i1 ?_
          refine ks_icmp_ne hκ 92 119 dX7_isHeldBack_92 rfl (fun c92 => ?_) (fun c92 => ?_)
          · skip
            have hQf : kHeldQ (se, tu, ki, ma, re, kf, L, P) k (kf 0 k + x) vj = false := by
              cases q : kHeldQ (se, tu, ki, ma, re, kf, L, P) k (kf 0 k + x) vj with
              | false => rfl
              | true =>
                have q1 := (kHeldQ_i.mp q).1
                dsimp only at q1
                exact absurd ((kbt_sh (by omega)).mpr (hbb.trans (by rw [decide_eq_true (show vj < ki by omega), decide_eq_true q1.1, decide_eq_true q1.2]; rfl))) c92
            refine ks_iconst hκ 119 (nI 0) dX7_isHeldBack_119 kq_i0 ?_
            refine ks_istore hκ 120 6 [(6, _), (9, _), (8, _), (0, _), (1, _), (2, _), (3, _), (4, _), (5, _), (7, _)] dX7_isHeldBack_120 (by decide) rfl ?_
            refine ks_iinc hκ 122 7 9 (nI (vj + 1)) [(7, _), (6, _), (9, _), (8, _), (0, _), (1, _), (2, _), (3, _), (4, _), (5, _)] dX7_isHeldBack_122 rfl (ks_inc1 _) (by decide) rfl ?_
            refine ks_goto hκ 125 26 dX7_isHeldBack_125 rfl ?_
            refine ks_pick [4, 5, 6, 7, 8, 9, 1, 0] [(0, _), (1, _), (2, _), (3, _), (4, _), (5, _), (6, _), (7, _)] rfl ?_
            exact ks_cv (ih (vj + 1) _  (by omega) (by decide) (fun q => by first | exact absurd q (by decide) | exact fun j hj => by rcases Nat.lt_succ_iff_lt_or_eq.mp hj with q1 | q1; { exact hi0 (by omega) j q1 }; { subst q1; exact hQf }) (fun q => by first | exact absurd q (by decide) | exact hi1 (by omega) | exact any_t (show vj < ki by omega) hQt) (by omega)) rfl rfl rfl
          · skip
            have c92 := (kbt_sh (by omega)).mp c92
            rw [hbb] at c92
            simp only [Bool.and_eq_true, decide_eq_true_eq] at c92
            refine ks_iload hκ 95 0 dX7_isHeldBack_95 rfl ?_
            refine ks_aload_n hκ 97 2 dX7_isHeldBack_97 rfl ?_
            refine ks_get hκ 98 dX7_isHeldBack_98 kf_X7_7 hM rfl ?_
            refine ks_iload_n hκ 101 3 dX7_isHeldBack_101 rfl ?_
            refine ks_iconst hκ 102 (nI 1) dX7_isHeldBack_102 kq_i1 ?_
            refine ks_iaddN hκ 103 dX7_isHeldBack_103 ?_
            refine ks_iald hκ 104 ((b + 1)) dX7_isHeldBack_104 hS rfl (by omega) (by decide) ?_
            refine ks_top (se 1) (mS 1 (by decide)) ?_
            refine ks_icmp_le hκ 105 119 dX7_isHeldBack_105 rfl (fun c105 => ?_) (fun c105 => ?_)
            · skip
              have hQf : kHeldQ (se, tu, ki, ma, re, kf, L, P) k (kf 0 k + x) vj = false := by
                cases q : kHeldQ (se, tu, ki, ma, re, kf, L, P) k (kf 0 k + x) vj with
                | false => rfl
                | true => exact absurd (show se 1 < kSz (kf 0 k + x - kf 0 vj) from (kHeldQ_i.mp q).2.1) (Int32.not_lt.mpr c105)
              refine ks_iconst hκ 119 (nI 0) dX7_isHeldBack_119 kq_i0 ?_
              refine ks_istore hκ 120 6 [(6, _), (9, _), (8, _), (0, _), (1, _), (2, _), (3, _), (4, _), (5, _), (7, _)] dX7_isHeldBack_120 (by decide) rfl ?_
              refine ks_iinc hκ 122 7 9 (nI (vj + 1)) [(7, _), (6, _), (9, _), (8, _), (0, _), (1, _), (2, _), (3, _), (4, _), (5, _)] dX7_isHeldBack_122 rfl (ks_inc1 _) (by decide) rfl ?_
              refine ks_goto hκ 125 26 dX7_isHeldBack_125 rfl ?_
              refine ks_pick [4, 5, 6, 7, 8, 9, 1, 0] [(0, _), (1, _), (2, _), (3, _), (4, _), (5, _), (6, _), (7, _)] rfl ?_
              exact ks_cv (ih (vj + 1) _  (by omega) (by decide) (fun q => by first | exact absurd q (by decide) | exact fun j hj => by rcases Nat.lt_succ_iff_lt_or_eq.mp hj with q1 | q1; { exact hi0 (by omega) j q1 }; { subst q1; exact hQf }) (fun q => by first | exact absurd q (by decide) | exact hi1 (by omega) | exact any_t (show vj < ki by omega) hQt) (by omega)) rfl rfl rfl
            · skip
              have c105 := Int32.not_le.mp c105
              refine ks_iload hκ 108 0 dX7_isHeldBack_108 rfl ?_
              refine ks_iload hκ 110 1 dX7_isHeldBack_110 rfl ?_
              refine ks_icmp_le hκ 112 119 dX7_isHeldBack_112 rfl (fun c112 => ?_) (fun c112 => ?_)
              · skip
                have hQf : kHeldQ (se, tu, ki, ma, re, kf, L, P) k (kf 0 k + x) vj = false := by
                  cases q : kHeldQ (se, tu, ki, ma, re, kf, L, P) k (kf 0 k + x) vj with
                  | false => rfl
                  | true => exact absurd (show kSz (kf 0 k - kf 0 vj) < kSz (kf 0 k + x - kf 0 vj) from (kHeldQ_i.mp q).2.2) (Int32.not_lt.mpr c112)
                refine ks_iconst hκ 119 (nI 0) dX7_isHeldBack_119 kq_i0 ?_
                refine ks_istore hκ 120 6 [(6, _), (9, _), (8, _), (0, _), (1, _), (2, _), (3, _), (4, _), (5, _), (7, _)] dX7_isHeldBack_120 (by decide) rfl ?_
                refine ks_iinc hκ 122 7 9 (nI (vj + 1)) [(7, _), (6, _), (9, _), (8, _), (0, _), (1, _), (2, _), (3, _), (4, _), (5, _)] dX7_isHeldBack_122 rfl (ks_inc1 _) (by decide) rfl ?_
                refine ks_goto hκ 125 26 dX7_isHeldBack_125 rfl ?_
                refine ks_pick [4, 5, 6, 7, 8, 9, 1, 0] [(0, _), (1, _), (2, _), (3, _), (4, _), (5, _), (6, _), (7, _)] rfl ?_
                exact ks_cv (ih (vj + 1) _  (by omega) (by decide) (fun q => by first | exact absurd q (by decide) | exact fun j hj => by rcases Nat.lt_succ_iff_lt_or_eq.mp hj with q1 | q1; { exact hi0 (by omega) j q1 }; { subst q1; exact hQf }) (fun q => by first | exact absurd q (by decide) | exact hi1 (by omega) | exact any_t (show vj < ki by omega) hQt) (by omega)) rfl rfl rfl
              · skip
                have c112 := Int32.not_le.mp c112
                have hQt : kHeldQ (se, tu, ki, ma, re, kf, L, P) k (kf 0 k + x) vj = true := kHeldQ_i.mpr ⟨⟨c92.2.1, c92.2.2⟩, c105, c112⟩
                refine ks_iconst hκ 115 (nI 1) dX7_isHeldBack_115 kq_i1 ?_
                refine ks_goto hκ 116 120 dX7_isHeldBack_116 rfl ?_
                refine ks_istore hκ 120 6 [(6, _), (9, _), (8, _), (0, _), (1, _), (2, _), (3, _), (4, _), (5, _), (7, _)] dX7_isHeldBack_120 (by decide) rfl ?_
                refine ks_iinc hκ 122 7 9 (nI (vj + 1)) [(7, _), (6, _), (9, _), (8, _), (0, _), (1, _), (2, _), (3, _), (4, _), (5, _)] dX7_isHeldBack_122 rfl (ks_inc1 _) (by decide) rfl ?_
                refine ks_goto hκ 125 26 dX7_isHeldBack_125 rfl ?_
                refine ks_pick [4, 5, 6, 7, 8, 9, 1, 0] [(0, _), (1, _), (2, _), (3, _), (4, _), (5, _), (6, _), (7, _)] rfl ?_
                exact ks_cv (ih (vj + 1) _  (by omega) (by decide) (fun q => by first | exact absurd q (by decide) | exact fun j hj => by rcases Nat.lt_succ_iff_lt_or_eq.mp hj with q1 | q1; { exact hi0 (by omega) j q1 }; { subst q1; exact hQf }) (fun q => by first | exact absurd q (by decide) | exact hi1 (by omega) | exact any_t (show vj < ki by omega) hQt) (by omega)) rfl rfl rfl
  refine ks_pick [4, 5, 6, 7, 3, 2, 1, 0] [(0, _), (1, _), (2, _), (3, _), (4, _), (5, _), (6, _), (7, _)] rfl ?_
  exact ks_cv (L26 _ 0 0  (Nat.zero_le _) (by decide) (fun _ j hj => absurd hj (Nat.not_lt_zero _)) (fun q => absurd q (by decide)) (Nat.lt_succ_self _)) rfl rfl rfl
set_option maxRecDepth 100000 in
set_option maxHeartbeats 4000000 in
theorem c_Model_reason {g : ks_G} {h : ks_H} {m b : Nat} {fs : List Value} {f : Nat → Int32} {se : Nat → Int32} {tu : Int32} {ki : Nat} {ma re : Int32} {kf : Nat → Nat → Int32} {L : List (Nat × Nat)} {P : List kP} {k s : Nat} {x : Int32} (hM : h[m]? = some (ks_O 7 (ks_ref g (m + 1) :: fs))) (hS : h[m + 1]? = some (ks_I g 3400 f)) (hb : b + 340 ≤ 3400) (hmd : kMd f b (se, tu, ki, ma, re, kf, L, P)) (hk : k < ki) (hs : s < 16) (hks : kf 0 k = nI s) : ks_Met g (yX7_reason, cX7_reason, 5, some .int) 5 0 0 [ks_ref g m, .int (nI b), .int (nI k), .int x] h (ks_Pi (kRef (se, tu, ki, ma, re, kf, L, P) k x) h) := by
  obtain ⟨mS, m4, m5, m6, m7, m8, m9, mK, mP, mL, mki, mLl, mPl, mLp, mPp⟩ := id hmd
  dsimp only at mS m4 m5 m6 m7 m8 m9 mK mP mL mki mLl mPl mLp mPp
  have hk0 := mK k 0 hk (by decide)
  rw [Nat.add_zero] at hk0
  refine ks_intro (by decide) (Nat.le_of_ble_eq_true rfl) (fun κ hκ hRt => ?_)
  refine ks_cv (ls := [(0, ks_ref g m), (1, .int (nI b)), (2, .int (nI k)), (3, .int x)]) ?_ rfl rfl rfl
  refine ks_iload_n hκ 0 1 dX7_reason_0 rfl ?_
  refine ks_iload_n hκ 1 2 dX7_reason_1 rfl ?_
  refine ks_pureS2 hκ 2 dX7_reason_2 kc_X7_28 (c_Model_kittenAt) (by decide) (Nat.le_of_ble_eq_true rfl) (by decide) (by decide) ?_
  refine ks_istore hκ 5 4 [(4, _), (0, _), (1, _), (2, _), (3, _)] dX7_reason_5 (by decide) rfl ?_
  refine ks_aload_n hκ 7 1 dX7_reason_7 rfl ?_
  refine ks_iload_n hκ 8 2 dX7_reason_8 rfl ?_
  refine ks_iload_n hκ 9 3 dX7_reason_9 rfl ?_
  refine ks_pureV2 hκ 10 dX7_reason_10 kc_X7_64 (c_Model_naps hM hS hb hmd hk) hM rfl (by decide) (Nat.le_of_ble_eq_true rfl) (by decide) (by decide) ?_
  refine ks_if_eq hκ 13 18 dX7_reason_13 rfl (fun c13 => ?_) (fun c13 => ?_)
  · skip
    refine ks_aload_n hκ 18 1 dX7_reason_18 rfl ?_
    refine ks_get hκ 19 dX7_reason_19 kf_X7_7 hM rfl ?_
    refine ks_iload hκ 22 0 dX7_reason_22 rfl ?_
    refine ks_iald hκ 24 ((b + 10 + 7 * k)) dX7_reason_24 hS rfl (by omega) (by decide) ?_
    refine ks_top (kf 0 k) (hk0) ?_
    refine ks_iload_n hκ 25 4 dX7_reason_25 rfl ?_
    refine ks_iadd hκ 26 dX7_reason_26 ?_
    refine ks_i2l hκ 27 dX7_reason_27 ?_
    refine ks_lconst hκ 28 0 dX7_reason_28 rfl ?_
    refine ks_ldc2 hκ 29 _ dX7_reason_29 kl_X7_68 ?_
    refine ks_pureS3 hκ 32 dX7_reason_32 kc_X7_70 (c_Model_in) (by decide) (Nat.le_of_ble_eq_true rfl) (by decide) (by decide) ?_
    refine ks_if_ne hκ 35 40 dX7_reason_35 rfl (fun c35 => ?_) (fun c35 => ?_)
    · skip
      rw [kIn_S] at c35
      have c20 : ¬ kf 0 k + x < 0 := fun q => by rw [if_pos q] at c35; exact absurd rfl c35
      have c26 : ¬ nI 16 ≤ kf 0 k + x := fun q => by rw [if_neg c20, if_pos q] at c35; exact absurd rfl c35
      refine ks_iload_n hκ 40 4 dX7_reason_40 rfl ?_
      refine ks_aload_n hκ 41 1 dX7_reason_41 rfl ?_
      refine ks_get hκ 42 dX7_reason_42 kf_X7_7 hM rfl ?_
      refine ks_iload_n hκ 45 2 dX7_reason_45 rfl ?_
      refine ks_iconst hκ 46 (nI 0) dX7_reason_46 kq_i0 ?_
      refine ks_iaddN hκ 47 dX7_reason_47 ?_
      refine ks_iald hκ 48 ((b + 0)) dX7_reason_48 hS rfl (by omega) (by decide) ?_
      refine ks_top (se 0) (mS 0 (by decide)) ?_
      refine ks_icmp_gt hκ 49 67 dX7_reason_49 rfl (fun c49 => ?_) (fun c49 => ?_)
      · skip
        refine ks_iconst hκ 67 (nI 3) dX7_reason_67 kq_i3 ?_
        refine ks_iret hκ 68 hRt dX7_reason_68 (by decide) (by decide) rfl ?_
        refine ⟨?_, rfl⟩
        unfold kRef
        first
          | rw [if_pos c13]
          | (rw [if_neg (fun q => q c13)]; by_cases q1 : kf 0 k + x < 0; { rw [if_pos q1] }; { rw [if_neg q1] at c35; by_cases q2 : nI 16 ≤ kf 0 k + x; { rw [if_neg q1, if_pos q2] }; { rw [if_neg q2] at c35; exact absurd c35 (by decide) } })
          | rw [if_neg (fun q => q c13), if_neg c20, if_neg c26, if_pos c49]
          | rw [if_neg (fun q => q c13), if_neg c20, if_neg c26, if_neg c49, if_pos c64]
          | rw [if_neg (fun q => q c13), if_neg c20, if_neg c26, if_neg c49, if_neg c64, if_pos c82]
          | rw [if_neg (fun q => q c13), if_neg c20, if_neg c26, if_neg c49, if_neg c64, if_neg c82, if_pos c94]
          | rw [if_neg (fun q => q c13), if_neg c20, if_neg c26, if_neg c49, if_neg c64, if_neg c82, if_neg c94, if_pos c106]
          | rw [if_neg (fun q => q c13), if_neg c20, if_neg c26, if_neg c49, if_neg c64, if_neg c82, if_neg c94, if_neg c106]
      · skip
        refine ks_iload_n hκ 52 4 dX7_reason_52 rfl ?_
        refine ks_ineg hκ 53 dX7_reason_53 ?_
        refine ks_iconst hκ 54 (nI 2) dX7_reason_54 kq_i2 ?_
        refine ks_aload_n hκ 55 1 dX7_reason_55 rfl ?_
        refine ks_get hκ 56 dX7_reason_56 kf_X7_7 hM rfl ?_
        refine ks_iload_n hκ 59 2 dX7_reason_59 rfl ?_
        refine ks_iconst hκ 60 (nI 0) dX7_reason_60 kq_i0 ?_
        refine ks_iaddN hκ 61 dX7_reason_61 ?_
        refine ks_iald hκ 62 ((b + 0)) dX7_reason_62 hS rfl (by omega) (by decide) ?_
        refine ks_top (se 0) (mS 0 (by decide)) ?_
        refine ks_imul hκ 63 dX7_reason_63 ?_
        refine ks_icmp_le hκ 64 69 dX7_reason_64 rfl (fun c64 => ?_) (fun c64 => ?_)
        · skip
          have c64 : ¬ nI 2 * se 0 < 0 - x := Int32.not_lt.mpr c64
          refine ks_aload_n hκ 69 1 dX7_reason_69 rfl ?_
          refine ks_get hκ 70 dX7_reason_70 kf_X7_7 hM rfl ?_
          refine ks_iload hκ 73 0 dX7_reason_73 rfl ?_
          refine ks_iconst hκ 75 (nI 1) dX7_reason_75 kq_i1 ?_
          refine ks_iaddN hκ 76 dX7_reason_76 ?_
          refine ks_iald hκ 77 (((b + 10 + 7 * k) + 1)) dX7_reason_77 hS rfl (by omega) (by decide) ?_
          refine ks_top (kf 1 k) (mK k 1 hk (by decide)) ?_
          refine ks_iload_n hκ 78 4 dX7_reason_78 rfl ?_
          refine ks_pureS1 hκ 79 dX7_reason_79 kc_X7_74 (c_Model_cost) (by decide) (Nat.le_of_ble_eq_true rfl) (by decide) (by decide) ?_
          refine ks_icmp_ge hκ 82 87 dX7_reason_82 rfl (fun c82 => ?_) (fun c82 => ?_)
          · skip
            have c82 : ¬ kf 1 k < kCost x := Int32.not_lt.mpr c82
            refine ks_aload_n hκ 87 1 dX7_reason_87 rfl ?_
            refine ks_iload_n hκ 88 2 dX7_reason_88 rfl ?_
            refine ks_iload_n hκ 89 3 dX7_reason_89 rfl ?_
            refine ks_iload_n hκ 90 4 dX7_reason_90 rfl ?_
            refine ks_pureV3 hκ 91 dX7_reason_91 kc_X7_77 (c_Model_isHeldBack hM hS hb hmd hk) hM rfl (by decide) (Nat.le_of_ble_eq_true rfl) (by decide) (by decide) ?_
            refine ks_if_eq hκ 94 99 dX7_reason_94 rfl (fun c94 => ?_) (fun c94 => ?_)
            · skip
              have c94 : ¬ kHeld (se, tu, ki, ma, re, kf, L, P) k (kf 0 k + x) = true := fun q => by rw [if_pos q] at c94; exact absurd c94 (by decide)
              refine ks_aload_n hκ 99 1 dX7_reason_99 rfl ?_
              refine ks_iload_n hκ 100 2 dX7_reason_100 rfl ?_
              refine ks_iload_n hκ 101 3 dX7_reason_101 rfl ?_
              refine ks_iload_n hκ 102 4 dX7_reason_102 rfl ?_
              obtain ⟨vt, hvt, hvt2⟩ : ∃ vt, vt < 16 ∧ kf 0 k + x = nI vt := by
                rcases pk_ix (kf 0 k + x) (n := 16) (by omega) with q | q | ⟨j, q1, q2⟩
                · exact absurd q c20
                · exact absurd q c26
                · exact ⟨j, q1, q2⟩
              have hx0 : x = nI vt - nI s := by rw [← hvt2, hks, Int32.add_comm, Int32.add_sub_cancel]
              subst hx0
              refine ks_pureV3 hκ 103 dX7_reason_103 kc_X7_80 (c_Model_isTooShort hM hS hb hmd hk hs hvt hks) hM rfl (by decide) (Nat.le_of_ble_eq_true rfl) (by decide) (by decide) ?_
              refine ks_if_eq hκ 106 114 dX7_reason_106 rfl (fun c106 => ?_) (fun c106 => ?_)
              · skip
                have hcl : (kf 0 k).toNatClampNeg = s ∧ (kf 0 k + (nI vt - nI s)).toNatClampNeg = vt := ⟨by rw [hks]; exact nI_clamp (by omega), by rw [hvt2]; exact nI_clamp (by omega)⟩
                have c106 : kLst L k (kWay (kf 0 k).toNatClampNeg (kf 0 k + (nI vt - nI s)).toNatClampNeg) (kf 3 k) = true := by
                  rw [hcl.1, hcl.2]
                  rcases Bool.eq_false_or_eq_true (kLst L k (kWay s vt) (kf 3 k)) with q | q
                  · exact q
                  · rw [q] at c106; exact absurd c106 (by decide)
                refine ks_iconst hκ 114 (nI 0) dX7_reason_114 kq_i0 ?_
                refine ks_iret hκ 115 hRt dX7_reason_115 (by decide) (by decide) rfl ?_
                refine ⟨?_, rfl⟩
                unfold kRef
                first
                  | rw [if_pos c13]
                  | (rw [if_neg (fun q => q c13)]; by_cases q1 : kf 0 k + x < 0; { rw [if_pos q1] }; { rw [if_neg q1] at c35; by_cases q2 : nI 16 ≤ kf 0 k + x; { rw [if_neg q1, if_pos q2] }; { rw [if_neg q2] at c35; exact absurd c35 (by decide) } })
                  | rw [if_neg (fun q => q c13), if_neg c20, if_neg c26, if_pos c49]
                  | rw [if_neg (fun q => q c13), if_neg c20, if_neg c26, if_neg c49, if_pos c64]
                  | rw [if_neg (fun q => q c13), if_neg c20, if_neg c26, if_neg c49, if_neg c64, if_pos c82]
                  | rw [if_neg (fun q => q c13), if_neg c20, if_neg c26, if_neg c49, if_neg c64, if_neg c82, if_pos c94]
                  | rw [if_neg (fun q => q c13), if_neg c20, if_neg c26, if_neg c49, if_neg c64, if_neg c82, if_neg c94, if_pos c106]
                  | rw [if_neg (fun q => q c13), if_neg c20, if_neg c26, if_neg c49, if_neg c64, if_neg c82, if_neg c94, if_neg c106]
              · skip
                have hcl : (kf 0 k).toNatClampNeg = s ∧ (kf 0 k + (nI vt - nI s)).toNatClampNeg = vt := ⟨by rw [hks]; exact nI_clamp (by omega), by rw [hvt2]; exact nI_clamp (by omega)⟩
                have c106 : ¬ kLst L k (kWay (kf 0 k).toNatClampNeg (kf 0 k + (nI vt - nI s)).toNatClampNeg) (kf 3 k) = true := fun q => by rw [hcl.1, hcl.2] at q; rw [if_pos q] at c106; exact absurd rfl c106
                refine ks_bipush hκ 109 (nI 6) dX7_reason_109 kq_b6 ?_
                refine ks_goto hκ 111 115 dX7_reason_111 rfl ?_
                refine ks_iret hκ 115 hRt dX7_reason_115 (by decide) (by decide) rfl ?_
                refine ⟨?_, rfl⟩
                unfold kRef
                first
                  | rw [if_pos c13]
                  | (rw [if_neg (fun q => q c13)]; by_cases q1 : kf 0 k + x < 0; { rw [if_pos q1] }; { rw [if_neg q1] at c35; by_cases q2 : nI 16 ≤ kf 0 k + x; { rw [if_neg q1, if_pos q2] }; { rw [if_neg q2] at c35; exact absurd c35 (by decide) } })
                  | rw [if_neg (fun q => q c13), if_neg c20, if_neg c26, if_pos c49]
                  | rw [if_neg (fun q => q c13), if_neg c20, if_neg c26, if_neg c49, if_pos c64]
                  | rw [if_neg (fun q => q c13), if_neg c20, if_neg c26, if_neg c49, if_neg c64, if_pos c82]
                  | rw [if_neg (fun q => q c13), if_neg c20, if_neg c26, if_neg c49, if_neg c64, if_neg c82, if_pos c94]
                  | rw [if_neg (fun q => q c13), if_neg c20, if_neg c26, if_neg c49, if_neg c64, if_neg c82, if_neg c94, if_pos c106]
                  | rw [if_neg (fun q => q c13), if_neg c20, if_neg c26, if_neg c49, if_neg c64, if_neg c82, if_neg c94, if_neg c106]
            · skip
              have c94 : kHeld (se, tu, ki, ma, re, kf, L, P) k (kf 0 k + x) = true := by
                rcases Bool.eq_false_or_eq_true (kHeld (se, tu, ki, ma, re, kf, L, P) k (kf 0 k + x)) with q | q
                · exact q
                · rw [q] at c94; exact absurd rfl c94
              refine ks_iconst hκ 97 (nI 5) dX7_reason_97 kq_i5 ?_
              refine ks_iret hκ 98 hRt dX7_reason_98 (by decide) (by decide) rfl ?_
              refine ⟨?_, rfl⟩
              unfold kRef
              first
                | rw [if_pos c13]
                | (rw [if_neg (fun q => q c13)]; by_cases q1 : kf 0 k + x < 0; { rw [if_pos q1] }; { rw [if_neg q1] at c35; by_cases q2 : nI 16 ≤ kf 0 k + x; { rw [if_neg q1, if_pos q2] }; { rw [if_neg q2] at c35; exact absurd c35 (by decide) } })
                | rw [if_neg (fun q => q c13), if_neg c20, if_neg c26, if_pos c49]
                | rw [if_neg (fun q => q c13), if_neg c20, if_neg c26, if_neg c49, if_pos c64]
                | rw [if_neg (fun q => q c13), if_neg c20, if_neg c26, if_neg c49, if_neg c64, if_pos c82]
                | rw [if_neg (fun q => q c13), if_neg c20, if_neg c26, if_neg c49, if_neg c64, if_neg c82, if_pos c94]
                | rw [if_neg (fun q => q c13), if_neg c20, if_neg c26, if_neg c49, if_neg c64, if_neg c82, if_neg c94, if_pos c106]
                | rw [if_neg (fun q => q c13), if_neg c20, if_neg c26, if_neg c49, if_neg c64, if_neg c82, if_neg c94, if_neg c106]
          · skip
            have c82 : kf 1 k < kCost x := Int32.not_le.mp c82
            refine ks_iconst hκ 85 (nI 4) dX7_reason_85 kq_i4 ?_
            refine ks_iret hκ 86 hRt dX7_reason_86 (by decide) (by decide) rfl ?_
            refine ⟨?_, rfl⟩
            unfold kRef
            first
              | rw [if_pos c13]
              | (rw [if_neg (fun q => q c13)]; by_cases q1 : kf 0 k + x < 0; { rw [if_pos q1] }; { rw [if_neg q1] at c35; by_cases q2 : nI 16 ≤ kf 0 k + x; { rw [if_neg q1, if_pos q2] }; { rw [if_neg q2] at c35; exact absurd c35 (by decide) } })
              | rw [if_neg (fun q => q c13), if_neg c20, if_neg c26, if_pos c49]
              | rw [if_neg (fun q => q c13), if_neg c20, if_neg c26, if_neg c49, if_pos c64]
              | rw [if_neg (fun q => q c13), if_neg c20, if_neg c26, if_neg c49, if_neg c64, if_pos c82]
              | rw [if_neg (fun q => q c13), if_neg c20, if_neg c26, if_neg c49, if_neg c64, if_neg c82, if_pos c94]
              | rw [if_neg (fun q => q c13), if_neg c20, if_neg c26, if_neg c49, if_neg c64, if_neg c82, if_neg c94, if_pos c106]
              | rw [if_neg (fun q => q c13), if_neg c20, if_neg c26, if_neg c49, if_neg c64, if_neg c82, if_neg c94, if_neg c106]
        · skip
          have c64 : nI 2 * se 0 < 0 - x := Int32.not_le.mp c64
          refine ks_iconst hκ 67 (nI 3) dX7_reason_67 kq_i3 ?_
          refine ks_iret hκ 68 hRt dX7_reason_68 (by decide) (by decide) rfl ?_
          refine ⟨?_, rfl⟩
          unfold kRef
          first
            | rw [if_pos c13]
            | (rw [if_neg (fun q => q c13)]; by_cases q1 : kf 0 k + x < 0; { rw [if_pos q1] }; { rw [if_neg q1] at c35; by_cases q2 : nI 16 ≤ kf 0 k + x; { rw [if_neg q1, if_pos q2] }; { rw [if_neg q2] at c35; exact absurd c35 (by decide) } })
            | rw [if_neg (fun q => q c13), if_neg c20, if_neg c26, if_pos c49]
            | rw [if_neg (fun q => q c13), if_neg c20, if_neg c26, if_neg c49, if_pos c64]
            | rw [if_neg (fun q => q c13), if_neg c20, if_neg c26, if_neg c49, if_neg c64, if_pos c82]
            | rw [if_neg (fun q => q c13), if_neg c20, if_neg c26, if_neg c49, if_neg c64, if_neg c82, if_pos c94]
            | rw [if_neg (fun q => q c13), if_neg c20, if_neg c26, if_neg c49, if_neg c64, if_neg c82, if_neg c94, if_pos c106]
            | rw [if_neg (fun q => q c13), if_neg c20, if_neg c26, if_neg c49, if_neg c64, if_neg c82, if_neg c94, if_neg c106]
    · skip
      rw [kIn_S] at c35
      refine ks_iconst hκ 38 (nI 2) dX7_reason_38 kq_i2 ?_
      refine ks_iret hκ 39 hRt dX7_reason_39 (by decide) (by decide) rfl ?_
      refine ⟨?_, rfl⟩
      unfold kRef
      first
        | rw [if_pos c13]
        | (rw [if_neg (fun q => q c13)]; by_cases q1 : kf 0 k + x < 0; { rw [if_pos q1] }; { rw [if_neg q1] at c35; by_cases q2 : nI 16 ≤ kf 0 k + x; { rw [if_neg q1, if_pos q2] }; { rw [if_neg q2] at c35; exact absurd c35 (by decide) } })
        | rw [if_neg (fun q => q c13), if_neg c20, if_neg c26, if_pos c49]
        | rw [if_neg (fun q => q c13), if_neg c20, if_neg c26, if_neg c49, if_pos c64]
        | rw [if_neg (fun q => q c13), if_neg c20, if_neg c26, if_neg c49, if_neg c64, if_pos c82]
        | rw [if_neg (fun q => q c13), if_neg c20, if_neg c26, if_neg c49, if_neg c64, if_neg c82, if_pos c94]
        | rw [if_neg (fun q => q c13), if_neg c20, if_neg c26, if_neg c49, if_neg c64, if_neg c82, if_neg c94, if_pos c106]
        | rw [if_neg (fun q => q c13), if_neg c20, if_neg c26, if_neg c49, if_neg c64, if_neg c82, if_neg c94, if_neg c106]
  · skip
    refine ks_iconst hκ 16 (nI 1) dX7_reason_16 kq_i1 ?_
    refine ks_iret hκ 17 hRt dX7_reason_17 (by decide) (by decide) rfl ?_
    refine ⟨?_, rfl⟩
    unfold kRef
    first
      | rw [if_pos c13]
      | (rw [if_neg (fun q => q c13)]; by_cases q1 : kf 0 k + x < 0; { rw [if_pos q1] }; { rw [if_neg q1] at c35; by_cases q2 : nI 16 ≤ kf 0 k + x; { rw [if_neg q1, if_pos q2] }; { rw [if_neg q2] at c35; exact absurd c35 (by decide) } })
      | rw [if_neg (fun q => q c13), if_neg c20, if_neg c26, if_pos c49]
      | rw [if_neg (fun q => q c13), if_neg c20, if_neg c26, if_neg c49, if_pos c64]
      | rw [if_neg (fun q => q c13), if_neg c20, if_neg c26, if_neg c49, if_neg c64, if_pos c82]
      | rw [if_neg (fun q => q c13), if_neg c20, if_neg c26, if_neg c49, if_neg c64, if_neg c82, if_pos c94]
      | rw [if_neg (fun q => q c13), if_neg c20, if_neg c26, if_neg c49, if_neg c64, if_neg c82, if_neg c94, if_pos c106]
      | rw [if_neg (fun q => q c13), if_neg c20, if_neg c26, if_neg c49, if_neg c64, if_neg c82, if_neg c94, if_neg c106]
