
/-! THE MODEL: count, planned, frees, thickest, quietIn, ifLeapt, stepIn -/
theorem kSo_le0 {e lo up : Nat} : ∀ (L : List (Nat × Nat)) (q t : Nat), (L.foldl (kSoS e lo up) (q, t)).2 ≤ t
  | [], _, t => Nat.le_refl t
  | (e1, o1) :: L, q, t => by
    rw [List.foldl_cons]
    unfold kSoS
    dsimp only
    split
    · split
      · exact Nat.le_trans (kSo_le0 L _ _) (Nat.min_le_left _ _)
      · split
        · exact Nat.le_trans (kSo_le0 L _ _) (Nat.min_le_left _ _)
        · exact Nat.le_trans (kSo_le0 L _ _) (Nat.min_le_left _ _)
    · exact Nat.le_trans (kSo_le0 L _ _) (Nat.min_le_left _ _)
theorem kSo_le {e lo up : Nat} {L : List (Nat × Nat)} : (kSo e lo up L).2 ≤ L.length := Nat.le_trans (kSo_le0 L _ _) (by rw [kStA_cut]; omega)
theorem kPass_ki : ∀ (n : Nat) (σ : kS) (m : Nat), kOk2 σ → (kPass n σ m).2.2.2.1 = σ.2.2.1
  | 0, σ, m, _ => rfl
  | n + 1, σ, m, h => by
    rw [kPass, kPass_ki n _ _ (kTurn_ok h).1, (kTurn_ok h).2.2.2]
theorem c_Model_boundToS {g : ks_G} {h : ks_H} {m b k : Nat} {fs : List Value} {f : Nat → Int32} {σ : kS} (hM : h[m]? = some (ks_O 7 (ks_ref g (m + 1) :: fs))) (hS : h[m + 1]? = some (ks_I g 3400 f)) (hb : b + 340 ≤ 3400) (hmd : kMd f b σ) (hk : k < 6) : ks_Met g (yX7_boundTo, cX7_boundTo, 5, some .int) 3 0 0 [ks_ref g m, .int (nI b), .int (nI k)] h (ks_Pi (kBSet σ k) h) := by
  obtain ⟨se, tu, ki, ma, re, kf, L, P⟩ := σ
  exact c_Model_boundTo hM hS hb hmd hk
set_option maxRecDepth 100000 in
set_option maxHeartbeats 4000000 in
theorem c_Model_planned {g : ks_G} {h : ks_H} {m : Nat} {fs : List Value} {f : Nat → Int32} {se : Nat → Int32} {tu : Int32} {ki : Nat} {ma re : Int32} {kf : Nat → Nat → Int32} {L : List (Nat × Nat)} {P : List kP} {x z : Int32} (hM : h[m]? = some (ks_O 7 (ks_ref g (m + 1) :: fs))) (hS : h[m + 1]? = some (ks_I g 3400 f)) (hmd : kMd f 0 (se, tu, ki, ma, re, kf, L, P)) : ks_Met g (yX7_planned, cX7_planned, 3, some .int) 1 0 0 [ks_ref g m, .int x, .int z] h (ks_Pi (kPlQ (se, tu, ki, ma, re, kf, L, P) x z) h) := by
  obtain ⟨mS, m4, m5, m6, m7, m8, m9, mK, mP, mL, mki, mLl, mPl, mLp, mPp⟩ := id hmd
  dsimp only at mS m4 m5 m6 m7 m8 m9 mK mP mL mki mLl mPl mLp mPp
  refine ks_intro (by decide) (Nat.le_of_ble_eq_true rfl) (fun κ hκ hRt => ?_)
  refine ks_cv (ls := [(0, ks_ref g m), (1, .int x), (2, .int z)]) ?_ rfl rfl rfl
  refine ks_iload_n hκ 0 1 dX7_planned_0 rfl ?_
  refine ks_i2l hκ 1 dX7_planned_1 ?_
  refine ks_lconst hκ 2 0 dX7_planned_2 rfl ?_
  refine ks_aload_n hκ 3 0 dX7_planned_3 rfl ?_
  refine ks_get hκ 4 dX7_planned_4 kf_X7_7 hM rfl ?_
  refine ks_bipush hκ 7 (nI 9) dX7_planned_7 kq_b9 ?_
  refine ks_iald hκ 9 (9) dX7_planned_9 hS rfl (by omega) (by decide) ?_
  refine ks_top (nI P.length) m9 ?_
  refine ks_iconst hκ 10 (nI 1) dX7_planned_10 kq_i1 ?_
  refine ks_isub hκ 11 dX7_planned_11 ?_
  refine ks_i2l hκ 12 dX7_planned_12 ?_
  refine ks_pureS3 hκ 13 dX7_planned_13 kc_X7_70 (c_Model_in) (by decide) (Nat.le_of_ble_eq_true rfl) (by decide) (by decide) ?_
  refine ks_if_ne hκ 16 21 dX7_planned_16 rfl (fun c16 => ?_) (fun c16 => ?_)
  · skip
    rw [kIn_R (show P.length ≤ 240 by omega)] at c16
    have hx : ∃ vr, vr < P.length ∧ x = nI vr := by
      rcases pk_ix x (n := P.length) (by omega) with q | q | q
      · rw [if_pos q] at c16; exact absurd rfl c16
      · by_cases q1 : x < 0
        · rw [if_pos q1] at c16; exact absurd rfl c16
        · rw [if_neg q1, if_pos q] at c16; exact absurd rfl c16
      · exact q
    obtain ⟨vr, hvr, rfl⟩ := hx
    obtain ⟨⟨pt, pk, py⟩, hp⟩ := kget hvr
    obtain ⟨e1, e2, e3⟩ := mP vr pt pk py hp
    have hq0 : kPlQ (se, tu, ki, ma, re, kf, L, P) (nI vr) z = kSw 2 (kPlN (pt, pk, py)) z := by
      unfold kPlQ
      dsimp only
      rw [if_neg (nI_pos (by omega)), if_neg (fun q => by have := (nI_leI (by omega) (by omega)).mp q; omega), nI_clamp (by omega), hp]
    refine ks_iload_n hκ 21 2 dX7_planned_21 rfl ?_
    refine ks_i2l hκ 22 dX7_planned_22 ?_
    refine ks_lconst hκ 23 0 dX7_planned_23 rfl ?_
    refine ks_ldc2 hκ 24 _ dX7_planned_24 kl_X7_122 ?_
    refine ks_pureS3 hκ 27 dX7_planned_27 kc_X7_70 (c_Model_in) (by decide) (Nat.le_of_ble_eq_true rfl) (by decide) (by decide) ?_
    refine ks_if_ne hκ 30 38 dX7_planned_30 rfl (fun c30 => ?_) (fun c30 => ?_)
    · skip
      rw [kIn_V (lo := 0) (hi := 2) (by decide) (by decide)] at c30
      have hz : ∃ vw, vw < 3 ∧ z = nI vw := by
        rcases pk_ix z (n := 3) (by decide) with q | q | q
        · rw [if_pos q] at c30; exact absurd rfl c30
        · by_cases q1 : z < 0
          · rw [if_pos q1] at c30; exact absurd rfl c30
          · have q2 : (2 : Int32) < z := Int32.lt_iff_toInt_lt.mpr (by have q3 := Int32.le_iff_toInt_le.mp q; rw [show (nI 3).toInt = 3 by decide] at q3; show (2 : Int) < _; omega)
            rw [if_neg q1, if_pos q2] at c30; exact absurd rfl c30
        · exact q
      obtain ⟨vw, hvw, rfl⟩ := hz
      refine ks_aload_n hκ 38 0 dX7_planned_38 rfl ?_
      refine ks_get hκ 39 dX7_planned_39 kf_X7_7 hM rfl ?_
      refine ks_iconst hκ 42 (nI 0) dX7_planned_42 kq_i0 ?_
      refine ks_iload_n hκ 43 1 dX7_planned_43 rfl ?_
      refine ks_pureS2 hκ 44 dX7_planned_44 kc_X7_87 (c_Model_planAt (b := 0)) (by decide) (Nat.le_of_ble_eq_true rfl) (by decide) (by decide) ?_
      refine ks_iload_n hκ 47 2 dX7_planned_47 rfl ?_
      refine ks_iaddN hκ 48 dX7_planned_48 ?_
      refine ks_iald hκ 49 (((0 + 52 + 3 * vr) + vw)) dX7_planned_49 hS rfl (by omega) (by decide) ?_
      refine ks_iload_n hκ 50 2 dX7_planned_50 rfl ?_
      refine ks_iconst hκ 51 (nI 2) dX7_planned_51 kq_i2 ?_
      refine ks_icmp_ne hκ 52 60 dX7_planned_52 rfl (fun c52 => ?_) (fun c52 => ?_)
      · skip
        have c52 := mt (nI_eq (by omega) (by omega)).mpr c52
        refine ks_iconst hκ 60 (nI 0) dX7_planned_60 kq_i0 ?_
        refine ks_iadd hκ 61 dX7_planned_61 ?_
        refine ks_iret hκ 62 hRt dX7_planned_62 (by decide) (by decide) rfl ?_
        refine ⟨?_, rfl⟩
        rw [hq0, kSw_in (by omega) (by decide)]
        first
        | (subst c52; exact congrArg (fun q => some (Value.int (q + nI 100))) e3)
        | (rw [ka0]; rcases (show vw = 0 ∨ vw = 1 by omega) with rfl | rfl; { exact congrArg (fun q => some (Value.int q)) e1 }; { exact congrArg (fun q => some (Value.int q)) e2 })
      · skip
        have c52 := (nI_eq (by omega) (by omega)).mp c52
        refine ks_bipush hκ 55 (nI 100) dX7_planned_55 kq_b100 ?_
        refine ks_goto hκ 57 61 dX7_planned_57 rfl ?_
        refine ks_iadd hκ 61 dX7_planned_61 ?_
        refine ks_iret hκ 62 hRt dX7_planned_62 (by decide) (by decide) rfl ?_
        refine ⟨?_, rfl⟩
        rw [hq0, kSw_in (by omega) (by decide)]
        first
        | (subst c52; exact congrArg (fun q => some (Value.int (q + nI 100))) e3)
        | (rw [ka0]; rcases (show vw = 0 ∨ vw = 1 by omega) with rfl | rfl; { exact congrArg (fun q => some (Value.int q)) e1 }; { exact congrArg (fun q => some (Value.int q)) e2 })
    · skip
      rw [kIn_V (lo := 0) (hi := 2) (by decide) (by decide)] at c30
      refine ks_bipush hκ 33 (-2) dX7_planned_33 kq_bm2 ?_
      refine ks_goto hκ 35 62 dX7_planned_35 rfl ?_
      refine ks_iret hκ 62 hRt dX7_planned_62 (by decide) (by decide) rfl ?_
      refine ⟨?_, rfl⟩
      rw [hq0]
      by_cases q1 : z < 0
      · rw [kSw_lo (by have := Int32.lt_iff_toInt_lt.mp q1; rw [show (0 : Int32).toInt = 0 by decide] at this; omega)]
      · rw [if_neg q1] at c30
        by_cases q2 : (2 : Int32) < z
        · rw [kSw_hi (by have := Int32.lt_iff_toInt_lt.mp q2; rw [show (2 : Int32).toInt = 2 by decide] at this; omega)]
        · rw [if_neg q2] at c30; exact absurd c30 (by decide)
  · skip
    rw [kIn_R (show P.length ≤ 240 by omega)] at c16
    refine ks_iconst hκ 19 (-1) dX7_planned_19 kq_im1 ?_
    refine ks_iret hκ 20 hRt dX7_planned_20 (by decide) (by decide) rfl ?_
    refine ⟨?_, rfl⟩
    unfold kPlQ
    by_cases q1 : x < 0
    · rw [if_pos q1]
    · rw [if_neg q1] at c16
      by_cases q2 : nI P.length ≤ x
      · rw [if_neg q1, if_pos q2]
      · rw [if_neg q2] at c16; exact absurd c16 (by decide)
set_option maxRecDepth 100000 in
set_option maxHeartbeats 4000000 in
theorem c_Model_sorting {g : ks_G} {h : ks_H} {m : Nat} {fs : List Value} {f : Nat → Int32} {se : Nat → Int32} {tu : Int32} {ki : Nat} {ma re : Int32} {kf : Nat → Nat → Int32} {L : List (Nat × Nat)} {P : List kP} {e ka kb : Nat} (hM : h[m]? = some (ks_O 7 (ks_ref g (m + 1) :: fs))) (hS : h[m + 1]? = some (ks_I g 3400 f)) (hmd : kMd f 0 (se, tu, ki, ma, re, kf, L, P)) (he : e < 15) (hka : ka < 6) (hkb : kb < 6) : ks_Met g (yX7_sorting, cX7_sorting, 8, some .int) 2 0 0 [ks_ref g m, .int (nI e), .int (nI ka), .int (nI kb)] h (ks_Pi (nI (kSo e ka kb L).2) h) := by
  obtain ⟨mS, m4, m5, m6, m7, m8, m9, mK, mP, mL, mki, mLl, mPl, mLp, mPp⟩ := id hmd
  dsimp only at mS m4 m5 m6 m7 m8 m9 mK mP mL mki mLl mPl mLp mPp
  have hsl : kStA e ka L ≤ 240 := by rw [kStA_cut]; omega
  refine ks_intro (by decide) (Nat.le_of_ble_eq_true rfl) (fun κ hκ hRt => ?_)
  refine ks_cv (ls := [(0, ks_ref g m), (1, .int (nI e)), (2, .int (nI ka)), (3, .int (nI kb))]) ?_ rfl rfl rfl
  refine ks_aload_n hκ 0 0 dX7_sorting_0 rfl ?_
  refine ks_iload_n hκ 1 1 dX7_sorting_1 rfl ?_
  refine ks_iload_n hκ 2 2 dX7_sorting_2 rfl ?_
  refine ks_pureV2 hκ 3 dX7_sorting_3 kc_X7_113 (c_Model_strandsAt hM hS hmd he hka) hM rfl (by decide) (Nat.le_of_ble_eq_true rfl) (by decide) (by decide) ?_
  refine ks_istore hκ 6 4 [(4, _), (0, _), (1, _), (2, _), (3, _)] dX7_sorting_6 (by decide) rfl ?_
  refine ks_iload hκ 8 0 dX7_sorting_8 rfl ?_
  refine ks_istore hκ 10 5 [(5, _), (4, _), (0, _), (1, _), (2, _), (3, _)] dX7_sorting_10 (by decide) rfl ?_
  refine ks_iconst hκ 12 (nI 0) dX7_sorting_12 kq_i0 ?_
  refine ks_istore hκ 13 6 [(6, _), (5, _), (4, _), (0, _), (1, _), (2, _), (3, _)] dX7_sorting_13 (by decide) rfl ?_
  have L15 : ∀ (fuel : Nat) (vi vg vt : Nat) (hvi : vi ≤ L.length) (hvg : vg ≤ 240 + vi) (hvt : vt ≤ 240) (hge : kStA e ka (L.drop vi) ≤ vg) (hinv : (L.drop vi).foldl (kSoS e ka kb) (vg, vt) = kSo e ka kb L) (hfuel : L.length - vi < fuel), ks_K κ g 8 h 0 0 15 [(0, ks_ref g m), (1, .int (nI e)), (2, .int (nI ka)), (3, .int (nI kb)), (4, .int (nI vg)), (5, .int (nI vt)), (6, .int (nI vi))] [] := by
    intro fuel
    induction fuel with
    | zero => intro vi vg vt  hvi hvg hvt hge hinv hfuel; exact absurd hfuel (Nat.not_lt_zero _)
    | succ fuel ih =>
      intro vi vg vt  hvi hvg hvt hge hinv hfuel
      refine ks_iload hκ 15 6 dX7_sorting_15 rfl ?_
      refine ks_aload_n hκ 17 0 dX7_sorting_17 rfl ?_
      refine ks_get hκ 18 dX7_sorting_18 kf_X7_7 hM rfl ?_
      refine ks_bipush hκ 21 (nI 8) dX7_sorting_21 kq_b8 ?_
      refine ks_iald hκ 23 (8) dX7_sorting_23 hS rfl (by omega) (by decide) ?_
      refine ks_top (nI L.length) m8 ?_
      refine ks_icmp_ge hκ 24 85 dX7_sorting_24 rfl (fun c24 => ?_) (fun c24 => ?_)
      · skip
        have c24 := (nI_leI (by omega) (by omega)).mp c24
        refine ks_iload hκ 85 5 dX7_sorting_85 rfl ?_
        refine ks_iret hκ 87 hRt dX7_sorting_87 (by decide) (by decide) rfl ?_
        exact ⟨by rw [← hinv, kdropN c24]; rfl, rfl⟩
      · skip
        have c24 := mt (nI_leI (by omega) (by omega)).mpr c24
        obtain ⟨⟨p1, p2⟩, hp⟩ := kget (L := L) (i := vi) (by omega)
        have hp6 := (mLp (p1, p2) (List.mem_of_getElem? hp)).2
        dsimp only at hp6
        rw [kdrop hp, List.foldl_cons] at hinv
        rw [kdrop hp, kStA_cons] at hge
        dsimp only at hge
        refine ks_aload_n hκ 27 0 dX7_sorting_27 rfl ?_
        refine ks_iconst hκ 28 (nI 0) dX7_sorting_28 kq_i0 ?_
        refine ks_iload hκ 29 6 dX7_sorting_29 rfl ?_
        refine ks_iload_n hκ 31 1 dX7_sorting_31 rfl ?_
        refine ks_pureV3 hκ 32 dX7_sorting_32 kc_X7_32 (c_Model_ownerAt (b := 0) hM hS (by decide) hmd hp he) hM rfl (by decide) (Nat.le_of_ble_eq_true rfl) (by decide) (by decide) ?_
        refine ks_istore hκ 35 7 [(7, _), (0, _), (1, _), (2, _), (3, _), (4, _), (5, _), (6, _)] dX7_sorting_35 (by decide) rfl ?_
        refine ks_iload hκ 37 5 dX7_sorting_37 rfl ?_
        refine ks_iload hκ 39 0 dX7_sorting_39 rfl ?_
        refine ks_iload_n hκ 41 3 dX7_sorting_41 rfl ?_
        refine ks_icmp_ne hκ 42 49 dX7_sorting_42 rfl (fun c42 => ?_) (fun c42 => ?_)
        · skip
          have hnp : ¬ (p1 = e ∧ p2 = ka) := fun q => c42 (by rw [if_pos q.1, q.2])
          rw [if_neg hnp, Nat.zero_add] at hge
          refine ks_iload hκ 49 0 dX7_sorting_49 rfl ?_
          refine ks_iload_n hκ 51 4 dX7_sorting_51 rfl ?_
          refine ks_icmp_ne hκ 52 59 dX7_sorting_52 rfl (fun c52 => ?_) (fun c52 => ?_)
          · skip
            have hss : kSoS e ka kb (vg, vt) (p1, p2) = (vg + 0, min vt (vg + 0)) := by
              by_cases q : p1 = e
              · exact (if_pos q).trans ((if_neg (fun z => hnp ⟨q, z⟩)).trans (if_neg (fun z => c52 (by rw [if_pos q, show p2 = kb from z]))))
              · exact if_neg q
            rw [hss] at hinv
            refine ks_iconst hκ 59 (nI 0) dX7_sorting_59 kq_i0 ?_
            refine ks_iaddN hκ 60 dX7_sorting_60 ?_
            refine ks_istore hκ 61 4 [(4, _), (7, _), (0, _), (1, _), (2, _), (3, _), (5, _), (6, _)] dX7_sorting_61 (by decide) rfl ?_
            refine ks_iload hκ 63 0 dX7_sorting_63 rfl ?_
            refine ks_iload hκ 65 6 dX7_sorting_65 rfl ?_
            refine ks_icmp_ge hκ 67 75 dX7_sorting_67 rfl (fun c67 => ?_) (fun c67 => ?_)
            · skip
              have c67 := (nI_leI (by omega) (by omega)).mp c67
              rw [Nat.min_eq_left (by omega)] at hinv
              refine ks_iload hκ 75 6 dX7_sorting_75 rfl ?_
              refine ks_istore hκ 77 5 [(5, _), (4, _), (7, _), (0, _), (1, _), (2, _), (3, _), (6, _)] dX7_sorting_77 (by decide) rfl ?_
              refine ks_iinc hκ 79 6 7 (nI (vi + 1)) [(6, _), (5, _), (4, _), (7, _), (0, _), (1, _), (2, _), (3, _)] dX7_sorting_79 rfl (ks_inc1 _) (by decide) rfl ?_
              refine ks_goto hκ 82 15 dX7_sorting_82 rfl ?_
              refine ks_pick [4, 5, 6, 7, 2, 1, 0] [(0, _), (1, _), (2, _), (3, _), (4, _), (5, _), (6, _)] rfl ?_
              exact ks_cv (ih (vi + 1) _ _  (by omega) (by omega) (by omega) (by omega) hinv (by omega)) rfl rfl rfl
            · skip
              have c67 := mt (nI_leI (by omega) (by omega)).mpr c67
              rw [Nat.min_eq_right (by omega)] at hinv
              refine ks_iload hκ 70 0 dX7_sorting_70 rfl ?_
              refine ks_goto hκ 72 77 dX7_sorting_72 rfl ?_
              refine ks_istore hκ 77 5 [(5, _), (4, _), (7, _), (0, _), (1, _), (2, _), (3, _), (6, _)] dX7_sorting_77 (by decide) rfl ?_
              refine ks_iinc hκ 79 6 7 (nI (vi + 1)) [(6, _), (5, _), (4, _), (7, _), (0, _), (1, _), (2, _), (3, _)] dX7_sorting_79 rfl (ks_inc1 _) (by decide) rfl ?_
              refine ks_goto hκ 82 15 dX7_sorting_82 rfl ?_
              refine ks_pick [4, 5, 6, 7, 2, 1, 0] [(0, _), (1, _), (2, _), (3, _), (4, _), (5, _), (6, _)] rfl ?_
              exact ks_cv (ih (vi + 1) _ _  (by omega) (by omega) (by omega) (by omega) hinv (by omega)) rfl rfl rfl
          · skip
            have hpe : p1 = e := by
              by_cases q : p1 = e
              · exact q
              · rw [if_neg q] at c52; exact absurd c52.symm (nI_m6 (by omega))
            rw [if_pos hpe] at c52
            have hpo : p2 = kb := (nI_eq (by omega) (by omega)).mp c52
            rw [show kSoS e ka kb (vg, vt) (p1, p2) = (vg + 1, min vt (vg + 1)) from (if_pos hpe).trans ((if_neg (fun q => hnp ⟨hpe, q⟩)).trans (if_pos hpo))] at hinv
            refine ks_iconst hκ 55 (nI 1) dX7_sorting_55 kq_i1 ?_
            refine ks_goto hκ 56 60 dX7_sorting_56 rfl ?_
            refine ks_iaddN hκ 60 dX7_sorting_60 ?_
            refine ks_istore hκ 61 4 [(4, _), (7, _), (0, _), (1, _), (2, _), (3, _), (5, _), (6, _)] dX7_sorting_61 (by decide) rfl ?_
            refine ks_iload hκ 63 0 dX7_sorting_63 rfl ?_
            refine ks_iload hκ 65 6 dX7_sorting_65 rfl ?_
            refine ks_icmp_ge hκ 67 75 dX7_sorting_67 rfl (fun c67 => ?_) (fun c67 => ?_)
            · skip
              have c67 := (nI_leI (by omega) (by omega)).mp c67
              rw [Nat.min_eq_left (by omega)] at hinv
              refine ks_iload hκ 75 6 dX7_sorting_75 rfl ?_
              refine ks_istore hκ 77 5 [(5, _), (4, _), (7, _), (0, _), (1, _), (2, _), (3, _), (6, _)] dX7_sorting_77 (by decide) rfl ?_
              refine ks_iinc hκ 79 6 7 (nI (vi + 1)) [(6, _), (5, _), (4, _), (7, _), (0, _), (1, _), (2, _), (3, _)] dX7_sorting_79 rfl (ks_inc1 _) (by decide) rfl ?_
              refine ks_goto hκ 82 15 dX7_sorting_82 rfl ?_
              refine ks_pick [4, 5, 6, 7, 2, 1, 0] [(0, _), (1, _), (2, _), (3, _), (4, _), (5, _), (6, _)] rfl ?_
              exact ks_cv (ih (vi + 1) _ _  (by omega) (by omega) (by omega) (by omega) hinv (by omega)) rfl rfl rfl
            · skip
              have c67 := mt (nI_leI (by omega) (by omega)).mpr c67
              rw [Nat.min_eq_right (by omega)] at hinv
              refine ks_iload hκ 70 0 dX7_sorting_70 rfl ?_
              refine ks_goto hκ 72 77 dX7_sorting_72 rfl ?_
              refine ks_istore hκ 77 5 [(5, _), (4, _), (7, _), (0, _), (1, _), (2, _), (3, _), (6, _)] dX7_sorting_77 (by decide) rfl ?_
              refine ks_iinc hκ 79 6 7 (nI (vi + 1)) [(6, _), (5, _), (4, _), (7, _), (0, _), (1, _), (2, _), (3, _)] dX7_sorting_79 rfl (ks_inc1 _) (by decide) rfl ?_
              refine ks_goto hκ 82 15 dX7_sorting_82 rfl ?_
              refine ks_pick [4, 5, 6, 7, 2, 1, 0] [(0, _), (1, _), (2, _), (3, _), (4, _), (5, _), (6, _)] rfl ?_
              exact ks_cv (ih (vi + 1) _ _  (by omega) (by omega) (by omega) (by omega) hinv (by omega)) rfl rfl rfl
        · skip
          have hpe : p1 = e := by
            by_cases q : p1 = e
            · exact q
            · rw [if_neg q] at c42; exact absurd c42.symm (nI_m6 (by omega))
          rw [if_pos hpe] at c42
          have hpo : p2 = ka := (nI_eq (by omega) (by omega)).mp c42
          rw [if_pos ⟨hpe, hpo⟩] at hge
          rw [show kSoS e ka kb (vg, vt) (p1, p2) = (vg - 1, min vt (vg - 1)) from (if_pos hpe).trans (if_pos hpo)] at hinv
          refine ks_iconst hκ 45 (-1) dX7_sorting_45 kq_im1 ?_
          refine ks_goto hκ 46 60 dX7_sorting_46 rfl ?_
          refine ks_iadd hκ 60 dX7_sorting_60 ?_
          refine ks_top (nI (vg - 1)) (kM1 (by omega)) ?_
          refine ks_istore hκ 61 4 [(4, _), (7, _), (0, _), (1, _), (2, _), (3, _), (5, _), (6, _)] dX7_sorting_61 (by decide) rfl ?_
          refine ks_iload hκ 63 0 dX7_sorting_63 rfl ?_
          refine ks_iload hκ 65 6 dX7_sorting_65 rfl ?_
          refine ks_icmp_ge hκ 67 75 dX7_sorting_67 rfl (fun c67 => ?_) (fun c67 => ?_)
          · skip
            have c67 := (nI_leI (by omega) (by omega)).mp c67
            rw [Nat.min_eq_left (by omega)] at hinv
            refine ks_iload hκ 75 6 dX7_sorting_75 rfl ?_
            refine ks_istore hκ 77 5 [(5, _), (4, _), (7, _), (0, _), (1, _), (2, _), (3, _), (6, _)] dX7_sorting_77 (by decide) rfl ?_
            refine ks_iinc hκ 79 6 7 (nI (vi + 1)) [(6, _), (5, _), (4, _), (7, _), (0, _), (1, _), (2, _), (3, _)] dX7_sorting_79 rfl (ks_inc1 _) (by decide) rfl ?_
            refine ks_goto hκ 82 15 dX7_sorting_82 rfl ?_
            refine ks_pick [4, 5, 6, 7, 2, 1, 0] [(0, _), (1, _), (2, _), (3, _), (4, _), (5, _), (6, _)] rfl ?_
            exact ks_cv (ih (vi + 1) _ _  (by omega) (by omega) (by omega) (by omega) hinv (by omega)) rfl rfl rfl
          · skip
            have c67 := mt (nI_leI (by omega) (by omega)).mpr c67
            rw [Nat.min_eq_right (by omega)] at hinv
            refine ks_iload hκ 70 0 dX7_sorting_70 rfl ?_
            refine ks_goto hκ 72 77 dX7_sorting_72 rfl ?_
            refine ks_istore hκ 77 5 [(5, _), (4, _), (7, _), (0, _), (1, _), (2, _), (3, _), (6, _)] dX7_sorting_77 (by decide) rfl ?_
            refine ks_iinc hκ 79 6 7 (nI (vi + 1)) [(6, _), (5, _), (4, _), (7, _), (0, _), (1, _), (2, _), (3, _)] dX7_sorting_79 rfl (ks_inc1 _) (by decide) rfl ?_
            refine ks_goto hκ 82 15 dX7_sorting_82 rfl ?_
            refine ks_pick [4, 5, 6, 7, 2, 1, 0] [(0, _), (1, _), (2, _), (3, _), (4, _), (5, _), (6, _)] rfl ?_
            exact ks_cv (ih (vi + 1) _ _  (by omega) (by omega) (by omega) (by omega) hinv (by omega)) rfl rfl rfl
  refine ks_pick [3, 4, 5, 6, 2, 1, 0] [(0, _), (1, _), (2, _), (3, _), (4, _), (5, _), (6, _)] rfl ?_
  exact ks_cv (L15 _ 0 _ _  (Nat.zero_le _) hsl hsl (Nat.le_refl _) rfl (Nat.lt_succ_self _)) rfl rfl rfl
set_option maxRecDepth 100000 in
set_option maxHeartbeats 4000000 in
theorem c_Model_frees {g : ks_G} {h : ks_H} {m : Nat} {fs : List Value} {f : Nat → Int32} {se : Nat → Int32} {tu : Int32} {ki : Nat} {ma re : Int32} {kf : Nat → Nat → Int32} {L : List (Nat × Nat)} {P : List kP} {x z : Int32} (hM : h[m]? = some (ks_O 7 (ks_ref g (m + 1) :: fs))) (hS : h[m + 1]? = some (ks_I g 3400 f)) (hmd : kMd f 0 (se, tu, ki, ma, re, kf, L, P)) : ks_Met g (yX7_frees, cX7_frees, 7, some .int) 3 0 0 [ks_ref g m, .int x, .int z] h (ks_Pi (kFrQ (se, tu, ki, ma, re, kf, L, P) x z) h) := by
  obtain ⟨mS, m4, m5, m6, m7, m8, m9, mK, mP, mL, mki, mLl, mPl, mLp, mPp⟩ := id hmd
  dsimp only at mS m4 m5 m6 m7 m8 m9 mK mP mL mki mLl mPl mLp mPp
  refine ks_intro (by decide) (Nat.le_of_ble_eq_true rfl) (fun κ hκ hRt => ?_)
  refine ks_cv (ls := [(0, ks_ref g m), (1, .int x), (2, .int z)]) ?_ rfl rfl rfl
  refine ks_aload_n hκ 0 0 dX7_frees_0 rfl ?_
  refine ks_iload_n hκ 1 1 dX7_frees_1 rfl ?_
  refine ks_pureV1 hκ 2 dX7_frees_2 kc_X7_103 (c_Model_isKitten hM hS hmd) hM rfl (by decide) (Nat.le_of_ble_eq_true rfl) (by decide) (by decide) ?_
  refine ks_if_eq hκ 5 16 dX7_frees_5 rfl (fun c5 => ?_) (fun c5 => ?_)
  · skip
    refine ks_iconst hκ 16 (-1) dX7_frees_16 kq_im1 ?_
    refine ks_iret hκ 17 hRt dX7_frees_17 (by decide) (by decide) rfl ?_
    refine ⟨?_, rfl⟩
    unfold kFrQ
    first | rw [if_pos c5] | rw [if_neg c5, if_pos c13] | rw [if_neg c5, if_neg c13, if_pos c20]
  · skip
    refine ks_aload_n hκ 8 0 dX7_frees_8 rfl ?_
    refine ks_iload_n hκ 9 2 dX7_frees_9 rfl ?_
    refine ks_pureV1 hκ 10 dX7_frees_10 kc_X7_103 (c_Model_isKitten hM hS hmd) hM rfl (by decide) (Nat.le_of_ble_eq_true rfl) (by decide) (by decide) ?_
    refine ks_if_ne hκ 13 18 dX7_frees_13 rfl (fun c13 => ?_) (fun c13 => ?_)
    · skip
      refine ks_iload_n hκ 18 1 dX7_frees_18 rfl ?_
      refine ks_iload_n hκ 19 2 dX7_frees_19 rfl ?_
      refine ks_icmp_ne hκ 20 26 dX7_frees_20 rfl (fun c20 => ?_) (fun c20 => ?_)
      · skip
        obtain ⟨vj, hvj, rfl⟩ := kHas_1 c5 mki
        obtain ⟨vl, hvl, rfl⟩ := kHas_1 c13 mki
        have hjl : vj ≠ vl := fun q => c20 (by rw [q])
        refine ks_iconst hκ 26 (nI 0) dX7_frees_26 kq_i0 ?_
        refine ks_istore_n hκ 27 3 [(3, _), (0, _), (1, _), (2, _)] dX7_frees_27 rfl (by decide) rfl ?_
        refine ks_iconst hκ 28 (nI 0) dX7_frees_28 kq_i0 ?_
        refine ks_istore hκ 29 4 [(4, _), (3, _), (0, _), (1, _), (2, _)] dX7_frees_29 (by decide) rfl ?_
        have L31 : ∀ (fuel : Nat) (ve : Nat) (xa : Int32) (hve : ve ≤ 15) (hinv : ((List.range 15).drop ve).foldl (kFrS L vj vl) xa = kFrees L vj vl) (hfuel : 15 - ve < fuel), ks_K κ g 7 h 0 0 31 [(0, ks_ref g m), (1, .int (nI vj)), (2, .int (nI vl)), (3, .int xa), (4, .int (nI ve))] [] := by
          intro fuel
          induction fuel with
          | zero => intro ve xa  hve hinv hfuel; exact absurd hfuel (Nat.not_lt_zero _)
          | succ fuel ih =>
            intro ve xa  hve hinv hfuel
            refine ks_iload hκ 31 4 dX7_frees_31 rfl ?_
            refine ks_bipush hκ 33 (nI 15) dX7_frees_33 kq_b15 ?_
            refine ks_icmp_ge hκ 35 81 dX7_frees_35 rfl (fun c35 => ?_) (fun c35 => ?_)
            · skip
              have c35 := (nI_leI (by omega) (by omega)).mp c35
              refine ks_iload_n hκ 81 3 dX7_frees_81 rfl ?_
              refine ks_iret hκ 82 hRt dX7_frees_82 (by decide) (by decide) rfl ?_
              refine ⟨?_, rfl⟩
              rw [kdropRN c35] at hinv
              unfold kFrQ
              rw [if_neg c5, if_neg c13, if_neg c20, nI_clamp (by omega), nI_clamp (by omega)]
              exact congrArg (fun q => some (Value.int q)) hinv
            · skip
              have c35 := mt (nI_leI (by omega) (by omega)).mpr c35
              rw [kdropR (by omega), List.foldl_cons] at hinv
              have hs1 := kSo_le (e := ve) (lo := vj) (up := vl) (L := L)
              have hs2 := kSo_le (e := ve) (lo := vl) (up := vj) (L := L)
              refine ks_aload_n hκ 38 0 dX7_frees_38 rfl ?_
              refine ks_iload hκ 39 4 dX7_frees_39 rfl ?_
              refine ks_iload_n hκ 41 1 dX7_frees_41 rfl ?_
              refine ks_iload_n hκ 42 2 dX7_frees_42 rfl ?_
              refine ks_pureV3 hκ 43 dX7_frees_43 kc_X7_198 (c_Model_sorting hM hS hmd (show ve < 15 by omega) (show vj < 6 by omega) (show vl < 6 by omega)) hM rfl (by decide) (Nat.le_of_ble_eq_true rfl) (by decide) (by decide) ?_
              refine ks_istore hκ 46 5 [(5, _), (0, _), (1, _), (2, _), (3, _), (4, _)] dX7_frees_46 (by decide) rfl ?_
              refine ks_aload_n hκ 48 1 dX7_frees_48 rfl ?_
              refine ks_iload hκ 49 5 dX7_frees_49 rfl ?_
              refine ks_iload_n hκ 51 3 dX7_frees_51 rfl ?_
              refine ks_iload_n hκ 52 2 dX7_frees_52 rfl ?_
              refine ks_pureV3 hκ 53 dX7_frees_53 kc_X7_198 (c_Model_sorting hM hS hmd (show ve < 15 by omega) (show vl < 6 by omega) (show vj < 6 by omega)) hM rfl (by decide) (Nat.le_of_ble_eq_true rfl) (by decide) (by decide) ?_
              refine ks_istore hκ 56 6 [(6, _), (5, _), (0, _), (1, _), (2, _), (3, _), (4, _)] dX7_frees_56 (by decide) rfl ?_
              refine ks_iload_n hκ 58 5 dX7_frees_58 rfl ?_
              refine ks_iload hκ 59 1 dX7_frees_59 rfl ?_
              refine ks_iload hκ 61 0 dX7_frees_61 rfl ?_
              refine ks_icmp_ge hκ 63 71 dX7_frees_63 rfl (fun c63 => ?_) (fun c63 => ?_)
              · skip
                have c63 := (nI_leI (by omega) (by omega)).mp c63
                refine ks_iload hκ 71 0 dX7_frees_71 rfl ?_
                refine ks_iadd hκ 73 dX7_frees_73 ?_
                refine ks_istore_n hκ 74 3 [(3, _), (6, _), (5, _), (0, _), (1, _), (2, _), (4, _)] dX7_frees_74 rfl (by decide) rfl ?_
                refine ks_iinc hκ 75 4 6 (nI (ve + 1)) [(4, _), (3, _), (6, _), (5, _), (0, _), (1, _), (2, _)] dX7_frees_75 rfl (ks_inc1 _) (by decide) rfl ?_
                refine ks_goto hκ 78 31 dX7_frees_78 rfl ?_
                refine ks_pick [4, 5, 6, 1, 0] [(0, _), (1, _), (2, _), (3, _), (4, _)] rfl ?_
                exact ks_cv (ih (ve + 1) _  (by omega) (by rw [kFrS, kGone_eq hjl] at hinv; first | (rw [Nat.min_eq_right (by omega)] at hinv; exact hinv) | (rw [Nat.min_eq_left (by omega)] at hinv; exact hinv)) (by omega)) rfl rfl rfl
              · skip
                have c63 := mt (nI_leI (by omega) (by omega)).mpr c63
                refine ks_iload hκ 66 1 dX7_frees_66 rfl ?_
                refine ks_goto hκ 68 73 dX7_frees_68 rfl ?_
                refine ks_iadd hκ 73 dX7_frees_73 ?_
                refine ks_istore_n hκ 74 3 [(3, _), (6, _), (5, _), (0, _), (1, _), (2, _), (4, _)] dX7_frees_74 rfl (by decide) rfl ?_
                refine ks_iinc hκ 75 4 6 (nI (ve + 1)) [(4, _), (3, _), (6, _), (5, _), (0, _), (1, _), (2, _)] dX7_frees_75 rfl (ks_inc1 _) (by decide) rfl ?_
                refine ks_goto hκ 78 31 dX7_frees_78 rfl ?_
                refine ks_pick [4, 5, 6, 1, 0] [(0, _), (1, _), (2, _), (3, _), (4, _)] rfl ?_
                exact ks_cv (ih (ve + 1) _  (by omega) (by rw [kFrS, kGone_eq hjl] at hinv; first | (rw [Nat.min_eq_right (by omega)] at hinv; exact hinv) | (rw [Nat.min_eq_left (by omega)] at hinv; exact hinv)) (by omega)) rfl rfl rfl
        refine ks_pick [2, 3, 4, 1, 0] [(0, _), (1, _), (2, _), (3, _), (4, _)] rfl ?_
        exact ks_cv (L31 _ 0 _  (Nat.zero_le _) rfl (Nat.lt_succ_self _)) rfl rfl rfl
      · skip
        refine ks_bipush hκ 23 (-2) dX7_frees_23 kq_bm2 ?_
        refine ks_iret hκ 25 hRt dX7_frees_25 (by decide) (by decide) rfl ?_
        refine ⟨?_, rfl⟩
        unfold kFrQ
        first | rw [if_pos c5] | rw [if_neg c5, if_pos c13] | rw [if_neg c5, if_neg c13, if_pos c20]
    · skip
      refine ks_iconst hκ 16 (-1) dX7_frees_16 kq_im1 ?_
      refine ks_iret hκ 17 hRt dX7_frees_17 (by decide) (by decide) rfl ?_
      refine ⟨?_, rfl⟩
      unfold kFrQ
      first | rw [if_pos c5] | rw [if_neg c5, if_pos c13] | rw [if_neg c5, if_neg c13, if_pos c20]
set_option maxRecDepth 100000 in
set_option maxHeartbeats 4000000 in
theorem c_Model_thickest {g : ks_G} {h : ks_H} {m : Nat} {fs : List Value} {f : Nat → Int32} {se : Nat → Int32} {tu : Int32} {ki : Nat} {ma re : Int32} {kf : Nat → Nat → Int32} {L : List (Nat × Nat)} {P : List kP} (hM : h[m]? = some (ks_O 7 (ks_ref g (m + 1) :: fs))) (hS : h[m + 1]? = some (ks_I g 3400 f)) (hmd : kMd f 0 (se, tu, ki, ma, re, kf, L, P)) : ks_Met g (yX7_thickest, cX7_thickest, 5, some .int) 2 0 0 [ks_ref g m] h (ks_Pi (kThQ (se, tu, ki, ma, re, kf, L, P)) h) := by
  obtain ⟨mS, m4, m5, m6, m7, m8, m9, mK, mP, mL, mki, mLl, mPl, mLp, mPp⟩ := id hmd
  dsimp only at mS m4 m5 m6 m7 m8 m9 mK mP mL mki mLl mPl mLp mPp
  refine ks_intro (by decide) (Nat.le_of_ble_eq_true rfl) (fun κ hκ hRt => ?_)
  refine ks_cv (ls := [(0, ks_ref g m)]) ?_ rfl rfl rfl
  refine ks_bipush hκ 0 (-6) dX7_thickest_0 kq_bm6 ?_
  refine ks_istore_n hκ 2 1 [(1, _), (0, _)] dX7_thickest_2 rfl (by decide) rfl ?_
  refine ks_iconst hκ 3 (nI 0) dX7_thickest_3 kq_i0 ?_
  refine ks_istore_n hκ 4 2 [(2, _), (1, _), (0, _)] dX7_thickest_4 rfl (by decide) rfl ?_
  refine ks_iconst hκ 5 (nI 0) dX7_thickest_5 kq_i0 ?_
  refine ks_istore_n hκ 6 3 [(3, _), (2, _), (1, _), (0, _)] dX7_thickest_6 rfl (by decide) rfl ?_
  have L7 : ∀ (fuel : Nat) (ve vt : Nat) (xa : Int32) (hve : ve ≤ 15) (hvt : vt ≤ 240) (hinv : ((List.range 15).drop ve).foldl (kThS L) (xa, vt) = (List.range 15).foldl (kThS L) ((-6 : Int32), 0)) (hfuel : 15 - ve < fuel), ks_K κ g 5 h 0 0 7 [(0, ks_ref g m), (1, .int xa), (2, .int (nI vt)), (3, .int (nI ve))] [] := by
    intro fuel
    induction fuel with
    | zero => intro ve vt xa  hve hvt hinv hfuel; exact absurd hfuel (Nat.not_lt_zero _)
    | succ fuel ih =>
      intro ve vt xa  hve hvt hinv hfuel
      refine ks_iload_n hκ 7 3 dX7_thickest_7 rfl ?_
      refine ks_bipush hκ 8 (nI 15) dX7_thickest_8 kq_b15 ?_
      refine ks_icmp_ge hκ 10 51 dX7_thickest_10 rfl (fun c10 => ?_) (fun c10 => ?_)
      · skip
        have c10 := (nI_leI (by omega) (by omega)).mp c10
        refine ks_iload_n hκ 51 1 dX7_thickest_51 rfl ?_
        refine ks_iret hκ 52 hRt dX7_thickest_52 (by decide) (by decide) rfl ?_
        rw [kdropRN c10] at hinv
        exact ⟨by rw [show kThQ (se, tu, ki, ma, re, kf, L, P) = xa from congrArg Prod.fst hinv.symm], rfl⟩
      · skip
        have c10 := mt (nI_leI (by omega) (by omega)).mpr c10
        rw [kdropR (by omega), List.foldl_cons] at hinv
        have hal := kAt_le ve L
        refine ks_aload_n hκ 13 0 dX7_thickest_13 rfl ?_
        refine ks_iload_n hκ 14 3 dX7_thickest_14 rfl ?_
        refine ks_pureV1 hκ 15 dX7_thickest_15 kc_X7_171 (c_Model_thickness hM hS hmd (show ve < 15 by omega)) hM rfl (by decide) (Nat.le_of_ble_eq_true rfl) (by decide) (by decide) ?_
        refine ks_istore hκ 18 4 [(4, _), (0, _), (1, _), (2, _), (3, _)] dX7_thickest_18 (by decide) rfl ?_
        refine ks_iload hκ 20 0 dX7_thickest_20 rfl ?_
        refine ks_iload_n hκ 22 3 dX7_thickest_22 rfl ?_
        refine ks_icmp_le hκ 23 30 dX7_thickest_23 rfl (fun c23 => ?_) (fun c23 => ?_)
        · skip
          have c23 := (nI_leI (by omega) (by omega)).mp c23
          refine ks_iload_n hκ 30 2 dX7_thickest_30 rfl ?_
          refine ks_istore_n hκ 31 1 [(1, _), (4, _), (0, _), (2, _), (3, _)] dX7_thickest_31 rfl (by decide) rfl ?_
          refine ks_iload hκ 32 1 dX7_thickest_32 rfl ?_
          refine ks_iload_n hκ 34 3 dX7_thickest_34 rfl ?_
          refine ks_icmp_le hκ 35 43 dX7_thickest_35 rfl (fun c35 => ?_) (fun c35 => ?_)
          · skip
            have c35 := (nI_leI (by omega) (by omega)).mp c35
            refine ks_iload_n hκ 43 3 dX7_thickest_43 rfl ?_
            refine ks_istore_n hκ 44 2 [(2, _), (1, _), (4, _), (0, _), (3, _)] dX7_thickest_44 rfl (by decide) rfl ?_
            refine ks_iinc hκ 45 3 4 (nI (ve + 1)) [(3, _), (2, _), (1, _), (4, _), (0, _)] dX7_thickest_45 rfl (ks_inc1 _) (by decide) rfl ?_
            refine ks_goto hκ 48 7 dX7_thickest_48 rfl ?_
            refine ks_pick [4, 2, 1, 0] [(0, _), (1, _), (2, _), (3, _)] rfl ?_
            exact ks_cv (ih (ve + 1) _ _  (by omega) (by omega) (by first | exact absurd c23 c35 | exact absurd c35 c23 | (rw [show kThS L (xa, vt) ve = (xa, vt) from if_pos c23] at hinv; exact hinv) | (rw [show kThS L (xa, vt) ve = (nI ve, kAt ve L) from if_neg c23] at hinv; exact hinv)) (by omega)) rfl rfl rfl
          · skip
            have c35 := mt (nI_leI (by omega) (by omega)).mpr c35
            refine ks_iload hκ 38 1 dX7_thickest_38 rfl ?_
            refine ks_goto hκ 40 44 dX7_thickest_40 rfl ?_
            refine ks_istore_n hκ 44 2 [(2, _), (1, _), (4, _), (0, _), (3, _)] dX7_thickest_44 rfl (by decide) rfl ?_
            refine ks_iinc hκ 45 3 4 (nI (ve + 1)) [(3, _), (2, _), (1, _), (4, _), (0, _)] dX7_thickest_45 rfl (ks_inc1 _) (by decide) rfl ?_
            refine ks_goto hκ 48 7 dX7_thickest_48 rfl ?_
            refine ks_pick [4, 2, 1, 0] [(0, _), (1, _), (2, _), (3, _)] rfl ?_
            exact ks_cv (ih (ve + 1) _ _  (by omega) (by omega) (by first | exact absurd c23 c35 | exact absurd c35 c23 | (rw [show kThS L (xa, vt) ve = (xa, vt) from if_pos c23] at hinv; exact hinv) | (rw [show kThS L (xa, vt) ve = (nI ve, kAt ve L) from if_neg c23] at hinv; exact hinv)) (by omega)) rfl rfl rfl
        · skip
          have c23 := mt (nI_leI (by omega) (by omega)).mpr c23
          refine ks_iload_n hκ 26 4 dX7_thickest_26 rfl ?_
          refine ks_goto hκ 27 31 dX7_thickest_27 rfl ?_
          refine ks_istore_n hκ 31 1 [(1, _), (4, _), (0, _), (2, _), (3, _)] dX7_thickest_31 rfl (by decide) rfl ?_
          refine ks_iload hκ 32 1 dX7_thickest_32 rfl ?_
          refine ks_iload_n hκ 34 3 dX7_thickest_34 rfl ?_
          refine ks_icmp_le hκ 35 43 dX7_thickest_35 rfl (fun c35 => ?_) (fun c35 => ?_)
          · skip
            have c35 := (nI_leI (by omega) (by omega)).mp c35
            refine ks_iload_n hκ 43 3 dX7_thickest_43 rfl ?_
            refine ks_istore_n hκ 44 2 [(2, _), (1, _), (4, _), (0, _), (3, _)] dX7_thickest_44 rfl (by decide) rfl ?_
            refine ks_iinc hκ 45 3 4 (nI (ve + 1)) [(3, _), (2, _), (1, _), (4, _), (0, _)] dX7_thickest_45 rfl (ks_inc1 _) (by decide) rfl ?_
            refine ks_goto hκ 48 7 dX7_thickest_48 rfl ?_
            refine ks_pick [4, 2, 1, 0] [(0, _), (1, _), (2, _), (3, _)] rfl ?_
            exact ks_cv (ih (ve + 1) _ _  (by omega) (by omega) (by first | exact absurd c23 c35 | exact absurd c35 c23 | (rw [show kThS L (xa, vt) ve = (xa, vt) from if_pos c23] at hinv; exact hinv) | (rw [show kThS L (xa, vt) ve = (nI ve, kAt ve L) from if_neg c23] at hinv; exact hinv)) (by omega)) rfl rfl rfl
          · skip
            have c35 := mt (nI_leI (by omega) (by omega)).mpr c35
            refine ks_iload hκ 38 1 dX7_thickest_38 rfl ?_
            refine ks_goto hκ 40 44 dX7_thickest_40 rfl ?_
            refine ks_istore_n hκ 44 2 [(2, _), (1, _), (4, _), (0, _), (3, _)] dX7_thickest_44 rfl (by decide) rfl ?_
            refine ks_iinc hκ 45 3 4 (nI (ve + 1)) [(3, _), (2, _), (1, _), (4, _), (0, _)] dX7_thickest_45 rfl (ks_inc1 _) (by decide) rfl ?_
            refine ks_goto hκ 48 7 dX7_thickest_48 rfl ?_
            refine ks_pick [4, 2, 1, 0] [(0, _), (1, _), (2, _), (3, _)] rfl ?_
            exact ks_cv (ih (ve + 1) _ _  (by omega) (by omega) (by first | exact absurd c23 c35 | exact absurd c35 c23 | (rw [show kThS L (xa, vt) ve = (xa, vt) from if_pos c23] at hinv; exact hinv) | (rw [show kThS L (xa, vt) ve = (nI ve, kAt ve L) from if_neg c23] at hinv; exact hinv)) (by omega)) rfl rfl rfl
  refine ks_pick [3, 2, 1, 0] [(0, _), (1, _), (2, _), (3, _)] rfl ?_
  exact ks_cv (L7 _ 0 0 _  (Nat.zero_le _) (by decide) rfl (Nat.lt_succ_self _)) rfl rfl rfl
set_option maxRecDepth 100000 in
set_option maxHeartbeats 4000000 in
theorem c_Model_quietIn {g : ks_G} {h : ks_H} {m : Nat} {fs : List Value} {f : Nat → Int32} {se : Nat → Int32} {tu : Int32} {ki : Nat} {ma re : Int32} {kf : Nat → Nat → Int32} {L : List (Nat × Nat)} {P : List kP} {n0 : Nat} (hM : h[m]? = some (ks_O 7 (ks_ref g (m + 1) :: fs))) (hS : h[m + 1]? = some (ks_I g 3400 f)) (hmd : kMd f 0 (se, tu, ki, ma, re, kf, L, P)) (htu : tu = nI n0) (hn0 : n0 ≤ 9999) (hwk : ∀ j, j < ki → kf 2 j = -6 ∨ ∃ w : Nat, w ≤ 20000 ∧ kf 2 j = nI w) (hpt : ∀ p ∈ P, ∃ t : Nat, t ≤ 20000 ∧ p.1 = nI t) (hsr : kSrt P) : ks_Met g (yX7_quietIn, cX7_quietIn, 3, some .int) 2 0 0 [ks_ref g m] h (ks_Pi (kQuQ (se, tu, ki, ma, re, kf, L, P)) h) := by
  obtain ⟨mS, m4, m5, m6, m7, m8, m9, mK, mP, mL, mki, mLl, mPl, mLp, mPp⟩ := id hmd
  dsimp only at mS m4 m5 m6 m7 m8 m9 mK mP mL mki mLl mPl mLp mPp
  have h6 : (-6 : Int32).toInt = -6 := by decide
  refine ks_intro (by decide) (Nat.le_of_ble_eq_true rfl) (fun κ hκ hRt => ?_)
  refine ks_cv (ls := [(0, ks_ref g m)]) ?_ rfl rfl rfl
  refine ks_aload_n hκ 0 0 dX7_quietIn_0 rfl ?_
  refine ks_get hκ 1 dX7_quietIn_1 kf_X7_7 hM rfl ?_
  refine ks_iconst hκ 4 (nI 4) dX7_quietIn_4 kq_i4 ?_
  refine ks_iald hκ 5 (4) dX7_quietIn_5 hS rfl (by omega) (by decide) ?_
  refine ks_top (nI n0) (m4.trans htu) ?_
  refine ks_istore_n hκ 6 1 [(1, _), (0, _)] dX7_quietIn_6 rfl (by decide) rfl ?_
  refine ks_iconst hκ 7 (nI 0) dX7_quietIn_7 kq_i0 ?_
  refine ks_istore_n hκ 8 2 [(2, _), (1, _), (0, _)] dX7_quietIn_8 rfl (by decide) rfl ?_
  have L9 : ∀ (fuel : Nat) (vj vv : Nat) (hvj : vj ≤ ki) (hnv : n0 ≤ vv) (hv2 : vv ≤ 20000) (h1 : ∀ j, j < vj → (kf 2 j).toInt ≤ vv) (h3 : vv = n0 ∨ ∃ j, j < ki ∧ kf 2 j = nI vv) (hfuel : ki - vj < fuel), ks_K κ g 3 h 0 0 9 [(0, ks_ref g m), (1, .int (nI vv)), (2, .int (nI vj))] [] := by
    intro fuel
    induction fuel with
    | zero => intro vj vv  hvj hnv hv2 h1 h3 hfuel; exact absurd hfuel (Nat.not_lt_zero _)
    | succ fuel ih =>
      intro vj vv  hvj hnv hv2 h1 h3 hfuel
      refine ks_iload_n hκ 9 2 dX7_quietIn_9 rfl ?_
      refine ks_aload_n hκ 10 0 dX7_quietIn_10 rfl ?_
      refine ks_get hκ 11 dX7_quietIn_11 kf_X7_7 hM rfl ?_
      refine ks_iconst hκ 14 (nI 5) dX7_quietIn_14 kq_i5 ?_
      refine ks_iald hκ 15 (5) dX7_quietIn_15 hS rfl (by omega) (by decide) ?_
      refine ks_top (nI ki) m5 ?_
      refine ks_icmp_ge hκ 16 67 dX7_quietIn_16 rfl (fun c16 => ?_) (fun c16 => ?_)
      · skip
        have c16 := (nI_leI (by omega) (by omega)).mp c16
        refine ks_iconst hκ 67 (nI 0) dX7_quietIn_67 kq_i0 ?_
        refine ks_istore_n hκ 68 2 [(2, _), (0, _), (1, _)] dX7_quietIn_68 rfl (by decide) rfl ?_
        have L69 : ∀ (fuel2 : Nat) (vi vu : Nat) (hvi : vi ≤ P.length) (hnu : n0 ≤ vu) (hu2 : vu ≤ 20000) (h1u : ∀ j, j < ki → (kf 2 j).toInt ≤ vu) (h2u : ∀ i p, i < vi → P[i]? = some p → p.1.toInt ≤ vu) (h3u : vu = n0 ∨ (∃ j, j < ki ∧ kf 2 j = nI vu) ∨ ∃ p ∈ P, p.1 = nI vu) (hfuel2 : P.length - vi < fuel2), ks_K κ g 3 h 0 0 69 [(0, ks_ref g m), (1, .int (nI vu)), (2, .int (nI vi))] [] := by
          intro fuel2
          induction fuel2 with
          | zero => intro vi vu  hvi hnu hu2 h1u h2u h3u hfuel2; exact absurd hfuel2 (Nat.not_lt_zero _)
          | succ fuel2 ih2 =>
            intro vi vu  hvi hnu hu2 h1u h2u h3u hfuel2
            refine ks_iload_n hκ 69 2 dX7_quietIn_69 rfl ?_
            refine ks_aload_n hκ 70 0 dX7_quietIn_70 rfl ?_
            refine ks_get hκ 71 dX7_quietIn_71 kf_X7_7 hM rfl ?_
            refine ks_bipush hκ 74 (nI 9) dX7_quietIn_74 kq_b9 ?_
            refine ks_iald hκ 76 (9) dX7_quietIn_76 hS rfl (by omega) (by decide) ?_
            refine ks_top (nI P.length) m9 ?_
            refine ks_icmp_ge hκ 77 115 dX7_quietIn_77 rfl (fun c77 => ?_) (fun c77 => ?_)
            · skip
              have c77 := (nI_leI (by omega) (by omega)).mp c77
              refine ks_iload_n hκ 115 1 dX7_quietIn_115 rfl ?_
              refine ks_aload_n hκ 116 0 dX7_quietIn_116 rfl ?_
              refine ks_get hκ 117 dX7_quietIn_117 kf_X7_7 hM rfl ?_
              refine ks_iconst hκ 120 (nI 4) dX7_quietIn_120 kq_i4 ?_
              refine ks_iald hκ 121 (4) dX7_quietIn_121 hS rfl (by omega) (by decide) ?_
              refine ks_top (nI n0) (m4.trans htu) ?_
              refine ks_isubN hκ 122 dX7_quietIn_122 (by omega) ?_
              refine ks_iret hκ 123 hRt dX7_quietIn_123 (by decide) (by decide) rfl ?_
              have hq : kQuQ (se, tu, ki, ma, re, kf, L, P) = nI (vu - n0) := kQu_eq htu hn0 hu2 hnu hsr (fun p hp => by obtain ⟨t, h5, h7⟩ := hpt p hp; rw [h7, nI_toInt (by omega)]; omega) h1u (fun p hp => by obtain ⟨i, hi⟩ := List.mem_iff_getElem?.mp hp; exact h2u i p (by have h9 : i < P.length := (List.getElem?_eq_some_iff.mp hi).1; omega) hi) h3u
              exact ⟨by rw [hq], rfl⟩
            · skip
              have c77 := mt (nI_leI (by omega) (by omega)).mpr c77
              obtain ⟨p, hp⟩ := kget (L := P) (i := vi) (by omega)
              obtain ⟨vt, hvt, hvt2⟩ := hpt p (List.mem_of_getElem? hp)
              refine ks_aload_n hκ 80 0 dX7_quietIn_80 rfl ?_
              refine ks_get hκ 81 dX7_quietIn_81 kf_X7_7 hM rfl ?_
              refine ks_iconst hκ 84 (nI 0) dX7_quietIn_84 kq_i0 ?_
              refine ks_iload_n hκ 85 2 dX7_quietIn_85 rfl ?_
              refine ks_pureS2 hκ 86 dX7_quietIn_86 kc_X7_87 (c_Model_planAt (b := 0)) (by decide) (Nat.le_of_ble_eq_true rfl) (by decide) (by decide) ?_
              refine ks_iald hκ 89 ((0 + 52 + 3 * vi)) dX7_quietIn_89 hS rfl (by omega) (by decide) ?_
              refine ks_top (nI vt) ((mP vi p.1 p.2.1 p.2.2 hp).1.trans hvt2) ?_
              refine ks_iload_n hκ 90 1 dX7_quietIn_90 rfl ?_
              refine ks_icmp_le hκ 91 107 dX7_quietIn_91 rfl (fun c91 => ?_) (fun c91 => ?_)
              · skip
                have c91 := (nI_leI (by omega) (by omega)).mp c91
                refine ks_iload_n hκ 107 1 dX7_quietIn_107 rfl ?_
                refine ks_istore_n hκ 108 1 [(1, _), (0, _), (2, _)] dX7_quietIn_108 rfl (by decide) rfl ?_
                refine ks_iinc hκ 109 2 2 (nI (vi + 1)) [(2, _), (1, _), (0, _)] dX7_quietIn_109 rfl (ks_inc1 _) (by decide) rfl ?_
                refine ks_goto hκ 112 69 dX7_quietIn_112 rfl ?_
                refine ks_pick [2, 1, 0] [(0, _), (1, _), (2, _)] rfl ?_
                exact ks_cv (ih2 (vi + 1) _  (by omega) (by omega) (by omega) (fun j hj => by have := h1u j hj; omega) (fun i p2 hi hp2 => by rcases Nat.lt_succ_iff_lt_or_eq.mp hi with q | q; { have := h2u i p2 q hp2; omega }; { subst q; rw [hp] at hp2; cases Option.some.inj hp2; rw [hvt2, nI_toInt (by omega)]; omega }) (by first | exact h3u | exact Or.inr (Or.inr ⟨p, List.mem_of_getElem? hp, hvt2⟩)) (by omega)) rfl rfl rfl
              · skip
                have c91 := mt (nI_leI (by omega) (by omega)).mpr c91
                refine ks_aload_n hκ 94 0 dX7_quietIn_94 rfl ?_
                refine ks_get hκ 95 dX7_quietIn_95 kf_X7_7 hM rfl ?_
                refine ks_iconst hκ 98 (nI 0) dX7_quietIn_98 kq_i0 ?_
                refine ks_iload_n hκ 99 2 dX7_quietIn_99 rfl ?_
                refine ks_pureS2 hκ 100 dX7_quietIn_100 kc_X7_87 (c_Model_planAt (b := 0)) (by decide) (Nat.le_of_ble_eq_true rfl) (by decide) (by decide) ?_
                refine ks_iald hκ 103 ((0 + 52 + 3 * vi)) dX7_quietIn_103 hS rfl (by omega) (by decide) ?_
                refine ks_top (nI vt) ((mP vi p.1 p.2.1 p.2.2 hp).1.trans hvt2) ?_
                refine ks_goto hκ 104 108 dX7_quietIn_104 rfl ?_
                refine ks_istore_n hκ 108 1 [(1, _), (0, _), (2, _)] dX7_quietIn_108 rfl (by decide) rfl ?_
                refine ks_iinc hκ 109 2 2 (nI (vi + 1)) [(2, _), (1, _), (0, _)] dX7_quietIn_109 rfl (ks_inc1 _) (by decide) rfl ?_
                refine ks_goto hκ 112 69 dX7_quietIn_112 rfl ?_
                refine ks_pick [2, 1, 0] [(0, _), (1, _), (2, _)] rfl ?_
                exact ks_cv (ih2 (vi + 1) _  (by omega) (by omega) (by omega) (fun j hj => by have := h1u j hj; omega) (fun i p2 hi hp2 => by rcases Nat.lt_succ_iff_lt_or_eq.mp hi with q | q; { have := h2u i p2 q hp2; omega }; { subst q; rw [hp] at hp2; cases Option.some.inj hp2; rw [hvt2, nI_toInt (by omega)]; omega }) (by first | exact h3u | exact Or.inr (Or.inr ⟨p, List.mem_of_getElem? hp, hvt2⟩)) (by omega)) rfl rfl rfl
        refine ks_pick [1, 2, 0] [(0, _), (1, _), (2, _)] rfl ?_
        exact ks_cv (L69 _ 0 vv  (Nat.zero_le _) hnv hv2 (fun j hj => h1 j (by omega)) (fun i p hi => absurd hi (Nat.not_lt_zero i)) (h3.imp id Or.inl) (Nat.lt_succ_self _)) rfl rfl rfl
      · skip
        have c16 := mt (nI_leI (by omega) (by omega)).mpr c16
        refine ks_aload_n hκ 19 0 dX7_quietIn_19 rfl ?_
        refine ks_iconst hκ 20 (nI 0) dX7_quietIn_20 kq_i0 ?_
        refine ks_iload_n hκ 21 2 dX7_quietIn_21 rfl ?_
        refine ks_pureV2 hκ 22 dX7_quietIn_22 kc_X7_64 (c_Model_naps (b := 0) hM hS (by decide) hmd (show vj < ki by omega)) hM rfl (by decide) (Nat.le_of_ble_eq_true rfl) (by decide) (by decide) ?_
        refine ks_if_eq hκ 25 59 dX7_quietIn_25 rfl (fun c25 => ?_) (fun c25 => ?_)
        · skip
          have hw6 : kf 2 vj = -6 := by
            unfold kNaps at c25
            by_cases q : kf 2 vj = -6
            · exact q
            · rw [if_neg q] at c25; exact absurd c25 (by decide)
          refine ks_iload_n hκ 59 1 dX7_quietIn_59 rfl ?_
          refine ks_istore_n hκ 60 1 [(1, _), (0, _), (2, _)] dX7_quietIn_60 rfl (by decide) rfl ?_
          refine ks_iinc hκ 61 2 2 (nI (vj + 1)) [(2, _), (1, _), (0, _)] dX7_quietIn_61 rfl (ks_inc1 _) (by decide) rfl ?_
          refine ks_goto hκ 64 9 dX7_quietIn_64 rfl ?_
          refine ks_pick [2, 1, 0] [(0, _), (1, _), (2, _)] rfl ?_
          exact ks_cv (ih (vj + 1) _  (by omega) (by omega) (by omega) (fun j hj => by rcases Nat.lt_succ_iff_lt_or_eq.mp hj with q | q; { have := h1 j q; omega }; { subst q; first | (rw [hw6, h6]; omega) | (rw [hvw2, nI_toInt (by omega)]; omega) }) (by first | exact h3 | exact Or.inr ⟨vj, by omega, hvw2⟩) (by omega)) rfl rfl rfl
        · skip
          obtain ⟨vw, hvw, hvw2⟩ : ∃ w : Nat, w ≤ 20000 ∧ kf 2 vj = nI w := (hwk vj (by omega)).resolve_left (fun q => c25 (if_pos q))
          refine ks_aload_n hκ 28 0 dX7_quietIn_28 rfl ?_
          refine ks_get hκ 29 dX7_quietIn_29 kf_X7_7 hM rfl ?_
          refine ks_iconst hκ 32 (nI 0) dX7_quietIn_32 kq_i0 ?_
          refine ks_iload_n hκ 33 2 dX7_quietIn_33 rfl ?_
          refine ks_pureS2 hκ 34 dX7_quietIn_34 kc_X7_28 (c_Model_kittenAt (b := 0)) (by decide) (Nat.le_of_ble_eq_true rfl) (by decide) (by decide) ?_
          refine ks_iconst hκ 37 (nI 2) dX7_quietIn_37 kq_i2 ?_
          refine ks_iaddN hκ 38 dX7_quietIn_38 ?_
          refine ks_iald hκ 39 (((0 + 10 + 7 * vj) + 2)) dX7_quietIn_39 hS rfl (by omega) (by decide) ?_
          refine ks_top (nI vw) ((mK vj 2 (by omega) (by decide)).trans hvw2) ?_
          refine ks_iload_n hκ 40 1 dX7_quietIn_40 rfl ?_
          refine ks_icmp_le hκ 41 59 dX7_quietIn_41 rfl (fun c41 => ?_) (fun c41 => ?_)
          · skip
            have c41 := (nI_leI (by omega) (by omega)).mp c41
            refine ks_iload_n hκ 59 1 dX7_quietIn_59 rfl ?_
            refine ks_istore_n hκ 60 1 [(1, _), (0, _), (2, _)] dX7_quietIn_60 rfl (by decide) rfl ?_
            refine ks_iinc hκ 61 2 2 (nI (vj + 1)) [(2, _), (1, _), (0, _)] dX7_quietIn_61 rfl (ks_inc1 _) (by decide) rfl ?_
            refine ks_goto hκ 64 9 dX7_quietIn_64 rfl ?_
            refine ks_pick [2, 1, 0] [(0, _), (1, _), (2, _)] rfl ?_
            exact ks_cv (ih (vj + 1) _  (by omega) (by omega) (by omega) (fun j hj => by rcases Nat.lt_succ_iff_lt_or_eq.mp hj with q | q; { have := h1 j q; omega }; { subst q; first | (rw [hw6, h6]; omega) | (rw [hvw2, nI_toInt (by omega)]; omega) }) (by first | exact h3 | exact Or.inr ⟨vj, by omega, hvw2⟩) (by omega)) rfl rfl rfl
          · skip
            have c41 := mt (nI_leI (by omega) (by omega)).mpr c41
            refine ks_aload_n hκ 44 0 dX7_quietIn_44 rfl ?_
            refine ks_get hκ 45 dX7_quietIn_45 kf_X7_7 hM rfl ?_
            refine ks_iconst hκ 48 (nI 0) dX7_quietIn_48 kq_i0 ?_
            refine ks_iload_n hκ 49 2 dX7_quietIn_49 rfl ?_
            refine ks_pureS2 hκ 50 dX7_quietIn_50 kc_X7_28 (c_Model_kittenAt (b := 0)) (by decide) (Nat.le_of_ble_eq_true rfl) (by decide) (by decide) ?_
            refine ks_iconst hκ 53 (nI 2) dX7_quietIn_53 kq_i2 ?_
            refine ks_iaddN hκ 54 dX7_quietIn_54 ?_
            refine ks_iald hκ 55 (((0 + 10 + 7 * vj) + 2)) dX7_quietIn_55 hS rfl (by omega) (by decide) ?_
            refine ks_top (nI vw) ((mK vj 2 (by omega) (by decide)).trans hvw2) ?_
            refine ks_goto hκ 56 60 dX7_quietIn_56 rfl ?_
            refine ks_istore_n hκ 60 1 [(1, _), (0, _), (2, _)] dX7_quietIn_60 rfl (by decide) rfl ?_
            refine ks_iinc hκ 61 2 2 (nI (vj + 1)) [(2, _), (1, _), (0, _)] dX7_quietIn_61 rfl (ks_inc1 _) (by decide) rfl ?_
            refine ks_goto hκ 64 9 dX7_quietIn_64 rfl ?_
            refine ks_pick [2, 1, 0] [(0, _), (1, _), (2, _)] rfl ?_
            exact ks_cv (ih (vj + 1) _  (by omega) (by omega) (by omega) (fun j hj => by rcases Nat.lt_succ_iff_lt_or_eq.mp hj with q | q; { have := h1 j q; omega }; { subst q; first | (rw [hw6, h6]; omega) | (rw [hvw2, nI_toInt (by omega)]; omega) }) (by first | exact h3 | exact Or.inr ⟨vj, by omega, hvw2⟩) (by omega)) rfl rfl rfl
  refine ks_pick [2, 1, 0] [(0, _), (1, _), (2, _)] rfl ?_
  exact ks_cv (L9 _ 0 n0  (Nat.zero_le _) (Nat.le_refl _) (by omega) (fun j hj => absurd hj (Nat.not_lt_zero j)) (Or.inl rfl) (Nat.lt_succ_self _)) rfl rfl rfl
set_option maxRecDepth 100000 in
set_option maxHeartbeats 4000000 in
theorem c_Model_count {g : ks_G} {h : ks_H} {m : Nat} {se : Nat → Int32} {tu : Int32} {ki : Nat} {ma re : Int32} {kf : Nat → Nat → Int32} {L : List (Nat × Nat)} {P : List kP} {H : List kS} {S : Nat → Option kS} {l : List Int32} {x : Int32} (hmm : kMM g h m (se, tu, ki, ma, re, kf, L, P) H S l) : ks_Met g (yX7_count, cX7_count, 2, some .int) 5 0 0 [ks_ref g m, .int x] h (ks_Pi (kCnQ (se, tu, ki, ma, re, kf, L, P) l.length H.length x) h) := by
  obtain ⟨f, Z, T, sp, kd, on, tw, bx, hM, hS, hZ, hT, hmd, hH, hHl, hSl, hTO, hll, hch⟩ := hmm
  obtain ⟨mS, m4, m5, m6, m7, m8, m9, mK, mP, mL, mki, mLl, mPl, mLp, mPp⟩ := id hmd
  dsimp only at mS m4 m5 m6 m7 m8 m9 mK mP mL mki mLl mPl mLp mPp
  refine ks_intro (by decide) (Nat.le_of_ble_eq_true rfl) (fun κ hκ hRt => ?_)
  refine ks_cv (ls := [(0, ks_ref g m), (1, .int x)]) ?_ rfl rfl rfl
  refine ks_iload_n hκ 0 1 dX7_count_0 rfl ?_
  rcases ks_sw x 0 16 (by decide) with hs1 | hs1 | ⟨sj1, ha1, hb1, hs1⟩
  · skip
    refine ks_tableOut hκ 1 170 dX7_count_1 (Or.inl hs1) rfl ?_
    refine ks_bipush hκ 170 (-2) dX7_count_170 kq_bm2 ?_
    refine ks_iret hκ 172 hRt dX7_count_172 (by decide) (by decide) rfl ?_
    exact ⟨by unfold kCnQ; first | rw [kSw_lo hs1] | rw [kSw_hi hs1], rfl⟩
  · skip
    refine ks_tableOut hκ 1 170 dX7_count_1 (Or.inr hs1) rfl ?_
    refine ks_bipush hκ 170 (-2) dX7_count_170 kq_bm2 ?_
    refine ks_iret hκ 172 hRt dX7_count_172 (by decide) (by decide) rfl ?_
    exact ⟨by unfold kCnQ; first | rw [kSw_lo hs1] | rw [kSw_hi hs1], rfl⟩
  · skip
    rcases (show sj1 = 0 ∨ sj1 = 1 ∨ sj1 = 2 ∨ sj1 = 3 ∨ sj1 = 4 ∨ sj1 = 5 ∨ sj1 = 6 ∨ sj1 = 7 ∨ sj1 = 8 ∨ sj1 = 9 ∨ sj1 = 10 ∨ sj1 = 11 ∨ sj1 = 12 ∨ sj1 = 13 ∨ sj1 = 14 ∨ sj1 = 15 ∨ sj1 = 16 by omega) with rfl | rfl | rfl | rfl | rfl | rfl | rfl | rfl | rfl | rfl | rfl | rfl | rfl | rfl | rfl | rfl | rfl
    · skip
      refine ks_top (nI 0) hs1 ?_
      refine ks_tableIn hκ 1 84 dX7_count_1 (off := 83) (by decide) (by decide) (by decide) rfl ?_
      subst hs1
      refine ks_aload_n hκ 84 0 dX7_count_84 rfl ?_
      refine ks_get hκ 85 dX7_count_85 kf_X7_7 hM rfl ?_
      refine ks_iconst hκ 88 (nI 4) dX7_count_88 kq_i4 ?_
      refine ks_iald hκ 89 (4) dX7_count_89 hS rfl (by omega) (by decide) ?_
      refine ks_iret hκ 90 hRt dX7_count_90 (by decide) (by decide) rfl ?_
      have hq : kCnQ (se, tu, ki, ma, re, kf, L, P) l.length H.length (nI 0) = kCnN (se, tu, ki, ma, re, kf, L, P) l.length H.length 0 := by
        unfold kCnQ
        rw [kSw_in (by decide) (by decide)]
      exact ⟨by rw [hq]; exact congrArg (fun q => some (Value.int q)) (m4), rfl⟩
    · skip
      refine ks_top (nI 1) hs1 ?_
      refine ks_tableIn hκ 1 91 dX7_count_1 (off := 90) (by decide) (by decide) (by decide) rfl ?_
      subst hs1
      refine ks_aload_n hκ 91 0 dX7_count_91 rfl ?_
      refine ks_get hκ 92 dX7_count_92 kf_X7_7 hM rfl ?_
      refine ks_iconst hκ 95 (nI 5) dX7_count_95 kq_i5 ?_
      refine ks_iald hκ 96 (5) dX7_count_96 hS rfl (by omega) (by decide) ?_
      refine ks_iret hκ 97 hRt dX7_count_97 (by decide) (by decide) rfl ?_
      have hq : kCnQ (se, tu, ki, ma, re, kf, L, P) l.length H.length (nI 1) = kCnN (se, tu, ki, ma, re, kf, L, P) l.length H.length 1 := by
        unfold kCnQ
        rw [kSw_in (by decide) (by decide)]
      exact ⟨by rw [hq]; exact congrArg (fun q => some (Value.int q)) (m5), rfl⟩
    · skip
      refine ks_top (nI 2) hs1 ?_
      refine ks_tableIn hκ 1 98 dX7_count_1 (off := 97) (by decide) (by decide) (by decide) rfl ?_
      subst hs1
      refine ks_aload_n hκ 98 0 dX7_count_98 rfl ?_
      refine ks_pureV0 hκ 99 dX7_count_99 kc_X7_183 (c_Model_napping hM hS hmd) hM rfl (by decide) (Nat.le_of_ble_eq_true rfl) (by decide) (by decide) ?_
      refine ks_iret hκ 102 hRt dX7_count_102 (by decide) (by decide) rfl ?_
      have hq : kCnQ (se, tu, ki, ma, re, kf, L, P) l.length H.length (nI 2) = kCnN (se, tu, ki, ma, re, kf, L, P) l.length H.length 2 := by
        unfold kCnQ
        rw [kSw_in (by decide) (by decide)]
      exact ⟨by rw [hq]; rfl, rfl⟩
    · skip
      refine ks_top (nI 3) hs1 ?_
      refine ks_tableIn hκ 1 103 dX7_count_1 (off := 102) (by decide) (by decide) (by decide) rfl ?_
      subst hs1
      refine ks_aload_n hκ 103 0 dX7_count_103 rfl ?_
      refine ks_get hκ 104 dX7_count_104 kf_X7_7 hM rfl ?_
      refine ks_bipush hκ 107 (nI 8) dX7_count_107 kq_b8 ?_
      refine ks_iald hκ 109 (8) dX7_count_109 hS rfl (by omega) (by decide) ?_
      refine ks_iret hκ 110 hRt dX7_count_110 (by decide) (by decide) rfl ?_
      have hq : kCnQ (se, tu, ki, ma, re, kf, L, P) l.length H.length (nI 3) = kCnN (se, tu, ki, ma, re, kf, L, P) l.length H.length 3 := by
        unfold kCnQ
        rw [kSw_in (by decide) (by decide)]
      exact ⟨by rw [hq]; exact congrArg (fun q => some (Value.int q)) (m8), rfl⟩
    · skip
      refine ks_top (nI 4) hs1 ?_
      refine ks_tableIn hκ 1 111 dX7_count_1 (off := 110) (by decide) (by decide) (by decide) rfl ?_
      subst hs1
      refine ks_aload_n hκ 111 0 dX7_count_111 rfl ?_
      refine ks_iconst hκ 112 (nI 4) dX7_count_112 kq_i4 ?_
      refine ks_iload_n hκ 113 1 dX7_count_113 rfl ?_
      refine ks_iaddN hκ 114 dX7_count_114 ?_
      refine ks_iconst hκ 115 (nI 4) dX7_count_115 kq_i4 ?_
      refine ks_isubN hκ 116 dX7_count_116 (by omega) ?_
      refine ks_pureV1 hκ 117 dX7_count_117 kc_X7_187 (c_Model_all hM hS hmd (by decide)) hM rfl (by decide) (Nat.le_of_ble_eq_true rfl) (by decide) (by decide) ?_
      refine ks_iret hκ 120 hRt dX7_count_120 (by decide) (by decide) rfl ?_
      have hq : kCnQ (se, tu, ki, ma, re, kf, L, P) l.length H.length (nI 4) = kCnN (se, tu, ki, ma, re, kf, L, P) l.length H.length 4 := by
        unfold kCnQ
        rw [kSw_in (by decide) (by decide)]
      exact ⟨by rw [hq]; rfl, rfl⟩
    · skip
      refine ks_top (nI 5) hs1 ?_
      refine ks_tableIn hκ 1 111 dX7_count_1 (off := 110) (by decide) (by decide) (by decide) rfl ?_
      subst hs1
      refine ks_aload_n hκ 111 0 dX7_count_111 rfl ?_
      refine ks_iconst hκ 112 (nI 4) dX7_count_112 kq_i4 ?_
      refine ks_iload_n hκ 113 1 dX7_count_113 rfl ?_
      refine ks_iaddN hκ 114 dX7_count_114 ?_
      refine ks_iconst hκ 115 (nI 4) dX7_count_115 kq_i4 ?_
      refine ks_isubN hκ 116 dX7_count_116 (by omega) ?_
      refine ks_pureV1 hκ 117 dX7_count_117 kc_X7_187 (c_Model_all hM hS hmd (by decide)) hM rfl (by decide) (Nat.le_of_ble_eq_true rfl) (by decide) (by decide) ?_
      refine ks_iret hκ 120 hRt dX7_count_120 (by decide) (by decide) rfl ?_
      have hq : kCnQ (se, tu, ki, ma, re, kf, L, P) l.length H.length (nI 5) = kCnN (se, tu, ki, ma, re, kf, L, P) l.length H.length 5 := by
        unfold kCnQ
        rw [kSw_in (by decide) (by decide)]
      exact ⟨by rw [hq]; rfl, rfl⟩
    · skip
      refine ks_top (nI 6) hs1 ?_
      refine ks_tableIn hκ 1 111 dX7_count_1 (off := 110) (by decide) (by decide) (by decide) rfl ?_
      subst hs1
      refine ks_aload_n hκ 111 0 dX7_count_111 rfl ?_
      refine ks_iconst hκ 112 (nI 4) dX7_count_112 kq_i4 ?_
      refine ks_iload_n hκ 113 1 dX7_count_113 rfl ?_
      refine ks_iaddN hκ 114 dX7_count_114 ?_
      refine ks_iconst hκ 115 (nI 4) dX7_count_115 kq_i4 ?_
      refine ks_isubN hκ 116 dX7_count_116 (by omega) ?_
      refine ks_pureV1 hκ 117 dX7_count_117 kc_X7_187 (c_Model_all hM hS hmd (by decide)) hM rfl (by decide) (Nat.le_of_ble_eq_true rfl) (by decide) (by decide) ?_
      refine ks_iret hκ 120 hRt dX7_count_120 (by decide) (by decide) rfl ?_
      have hq : kCnQ (se, tu, ki, ma, re, kf, L, P) l.length H.length (nI 6) = kCnN (se, tu, ki, ma, re, kf, L, P) l.length H.length 6 := by
        unfold kCnQ
        rw [kSw_in (by decide) (by decide)]
      exact ⟨by rw [hq]; rfl, rfl⟩
    · skip
      refine ks_top (nI 7) hs1 ?_
      refine ks_tableIn hκ 1 121 dX7_count_1 (off := 120) (by decide) (by decide) (by decide) rfl ?_
      subst hs1
      refine ks_aload_n hκ 121 0 dX7_count_121 rfl ?_
      refine ks_pureV0 hκ 122 dX7_count_122 kc_X7_190 (c_Model_pairs hM hS hmd) hM rfl (by decide) (Nat.le_of_ble_eq_true rfl) (by decide) (by decide) ?_
      refine ks_iret hκ 125 hRt dX7_count_125 (by decide) (by decide) rfl ?_
      have hq : kCnQ (se, tu, ki, ma, re, kf, L, P) l.length H.length (nI 7) = kCnN (se, tu, ki, ma, re, kf, L, P) l.length H.length 7 := by
        unfold kCnQ
        rw [kSw_in (by decide) (by decide)]
      exact ⟨by rw [hq]; rfl, rfl⟩
    · skip
      refine ks_top (nI 8) hs1 ?_
      refine ks_tableIn hκ 1 126 dX7_count_1 (off := 125) (by decide) (by decide) (by decide) rfl ?_
      subst hs1
      refine ks_aload_n hκ 126 0 dX7_count_126 rfl ?_
      refine ks_get hκ 127 dX7_count_127 kf_X7_7 hM rfl ?_
      refine ks_bipush hκ 130 (nI 6) dX7_count_130 kq_b6 ?_
      refine ks_iald hκ 132 (6) dX7_count_132 hS rfl (by omega) (by decide) ?_
      refine ks_iret hκ 133 hRt dX7_count_133 (by decide) (by decide) rfl ?_
      have hq : kCnQ (se, tu, ki, ma, re, kf, L, P) l.length H.length (nI 8) = kCnN (se, tu, ki, ma, re, kf, L, P) l.length H.length 8 := by
        unfold kCnQ
        rw [kSw_in (by decide) (by decide)]
      exact ⟨by rw [hq]; exact congrArg (fun q => some (Value.int q)) (m6), rfl⟩
    · skip
      refine ks_top (nI 9) hs1 ?_
      refine ks_tableIn hκ 1 134 dX7_count_1 (off := 133) (by decide) (by decide) (by decide) rfl ?_
      subst hs1
      refine ks_aload_n hκ 134 0 dX7_count_134 rfl ?_
      refine ks_get hκ 135 dX7_count_135 kf_X7_7 hM rfl ?_
      refine ks_bipush hκ 138 (nI 7) dX7_count_138 kq_b7 ?_
      refine ks_iald hκ 140 (7) dX7_count_140 hS rfl (by omega) (by decide) ?_
      refine ks_iret hκ 141 hRt dX7_count_141 (by decide) (by decide) rfl ?_
      have hq : kCnQ (se, tu, ki, ma, re, kf, L, P) l.length H.length (nI 9) = kCnN (se, tu, ki, ma, re, kf, L, P) l.length H.length 9 := by
        unfold kCnQ
        rw [kSw_in (by decide) (by decide)]
      exact ⟨by rw [hq]; exact congrArg (fun q => some (Value.int q)) (m7), rfl⟩
    · skip
      refine ks_top (nI 10) hs1 ?_
      refine ks_tableIn hκ 1 142 dX7_count_1 (off := 141) (by decide) (by decide) (by decide) rfl ?_
      subst hs1
      refine ks_aload_n hκ 142 0 dX7_count_142 rfl ?_
      refine ks_get hκ 143 dX7_count_143 kf_X7_7 hM rfl ?_
      refine ks_bipush hκ 146 (nI 9) dX7_count_146 kq_b9 ?_
      refine ks_iald hκ 148 (9) dX7_count_148 hS rfl (by omega) (by decide) ?_
      refine ks_iret hκ 149 hRt dX7_count_149 (by decide) (by decide) rfl ?_
      have hq : kCnQ (se, tu, ki, ma, re, kf, L, P) l.length H.length (nI 10) = kCnN (se, tu, ki, ma, re, kf, L, P) l.length H.length 10 := by
        unfold kCnQ
        rw [kSw_in (by decide) (by decide)]
      exact ⟨by rw [hq]; exact congrArg (fun q => some (Value.int q)) (m9), rfl⟩
    · skip
      refine ks_top (nI 11) hs1 ?_
      refine ks_tableIn hκ 1 150 dX7_count_1 (off := 149) (by decide) (by decide) (by decide) rfl ?_
      subst hs1
      refine ks_aload_n hκ 150 0 dX7_count_150 rfl ?_
      refine ks_get hκ 151 dX7_count_151 kf_X7_7 hM rfl ?_
      refine ks_iload_n hκ 154 1 dX7_count_154 rfl ?_
      refine ks_bipush hκ 155 (nI 11) dX7_count_155 kq_b11 ?_
      refine ks_isubN hκ 157 dX7_count_157 (by omega) ?_
      refine ks_iald hκ 158 ((11 - 11)) dX7_count_158 hS rfl (by omega) (by decide) ?_
      refine ks_iret hκ 159 hRt dX7_count_159 (by decide) (by decide) rfl ?_
      have hq : kCnQ (se, tu, ki, ma, re, kf, L, P) l.length H.length (nI 11) = kCnN (se, tu, ki, ma, re, kf, L, P) l.length H.length 11 := by
        unfold kCnQ
        rw [kSw_in (by decide) (by decide)]
      exact ⟨by rw [hq]; exact congrArg (fun q => some (Value.int q)) (mS 0 (by decide)), rfl⟩
    · skip
      refine ks_top (nI 12) hs1 ?_
      refine ks_tableIn hκ 1 150 dX7_count_1 (off := 149) (by decide) (by decide) (by decide) rfl ?_
      subst hs1
      refine ks_aload_n hκ 150 0 dX7_count_150 rfl ?_
      refine ks_get hκ 151 dX7_count_151 kf_X7_7 hM rfl ?_
      refine ks_iload_n hκ 154 1 dX7_count_154 rfl ?_
      refine ks_bipush hκ 155 (nI 11) dX7_count_155 kq_b11 ?_
      refine ks_isubN hκ 157 dX7_count_157 (by omega) ?_
      refine ks_iald hκ 158 ((12 - 11)) dX7_count_158 hS rfl (by omega) (by decide) ?_
      refine ks_iret hκ 159 hRt dX7_count_159 (by decide) (by decide) rfl ?_
      have hq : kCnQ (se, tu, ki, ma, re, kf, L, P) l.length H.length (nI 12) = kCnN (se, tu, ki, ma, re, kf, L, P) l.length H.length 12 := by
        unfold kCnQ
        rw [kSw_in (by decide) (by decide)]
      exact ⟨by rw [hq]; exact congrArg (fun q => some (Value.int q)) (mS 1 (by decide)), rfl⟩
    · skip
      refine ks_top (nI 13) hs1 ?_
      refine ks_tableIn hκ 1 150 dX7_count_1 (off := 149) (by decide) (by decide) (by decide) rfl ?_
      subst hs1
      refine ks_aload_n hκ 150 0 dX7_count_150 rfl ?_
      refine ks_get hκ 151 dX7_count_151 kf_X7_7 hM rfl ?_
      refine ks_iload_n hκ 154 1 dX7_count_154 rfl ?_
      refine ks_bipush hκ 155 (nI 11) dX7_count_155 kq_b11 ?_
      refine ks_isubN hκ 157 dX7_count_157 (by omega) ?_
      refine ks_iald hκ 158 ((13 - 11)) dX7_count_158 hS rfl (by omega) (by decide) ?_
      refine ks_iret hκ 159 hRt dX7_count_159 (by decide) (by decide) rfl ?_
      have hq : kCnQ (se, tu, ki, ma, re, kf, L, P) l.length H.length (nI 13) = kCnN (se, tu, ki, ma, re, kf, L, P) l.length H.length 13 := by
        unfold kCnQ
        rw [kSw_in (by decide) (by decide)]
      exact ⟨by rw [hq]; exact congrArg (fun q => some (Value.int q)) (mS 2 (by decide)), rfl⟩
    · skip
      refine ks_top (nI 14) hs1 ?_
      refine ks_tableIn hκ 1 150 dX7_count_1 (off := 149) (by decide) (by decide) (by decide) rfl ?_
      subst hs1
      refine ks_aload_n hκ 150 0 dX7_count_150 rfl ?_
      refine ks_get hκ 151 dX7_count_151 kf_X7_7 hM rfl ?_
      refine ks_iload_n hκ 154 1 dX7_count_154 rfl ?_
      refine ks_bipush hκ 155 (nI 11) dX7_count_155 kq_b11 ?_
      refine ks_isubN hκ 157 dX7_count_157 (by omega) ?_
      refine ks_iald hκ 158 ((14 - 11)) dX7_count_158 hS rfl (by omega) (by decide) ?_
      refine ks_iret hκ 159 hRt dX7_count_159 (by decide) (by decide) rfl ?_
      have hq : kCnQ (se, tu, ki, ma, re, kf, L, P) l.length H.length (nI 14) = kCnN (se, tu, ki, ma, re, kf, L, P) l.length H.length 14 := by
        unfold kCnQ
        rw [kSw_in (by decide) (by decide)]
      exact ⟨by rw [hq]; exact congrArg (fun q => some (Value.int q)) (mS 3 (by decide)), rfl⟩
    · skip
      refine ks_top (nI 15) hs1 ?_
      refine ks_tableIn hκ 1 160 dX7_count_1 (off := 159) (by decide) (by decide) (by decide) rfl ?_
      subst hs1
      refine ks_aload_n hκ 160 0 dX7_count_160 rfl ?_
      refine ks_get hκ 161 dX7_count_161 kf_X7_193 hM rfl ?_
      refine ks_iret hκ 164 hRt dX7_count_164 (by decide) (by decide) rfl ?_
      have hq : kCnQ (se, tu, ki, ma, re, kf, L, P) l.length H.length (nI 15) = kCnN (se, tu, ki, ma, re, kf, L, P) l.length H.length 15 := by
        unfold kCnQ
        rw [kSw_in (by decide) (by decide)]
      exact ⟨by rw [hq]; rfl, rfl⟩
    · skip
      refine ks_top (nI 16) hs1 ?_
      refine ks_tableIn hκ 1 165 dX7_count_1 (off := 164) (by decide) (by decide) (by decide) rfl ?_
      subst hs1
      refine ks_aload_n hκ 165 0 dX7_count_165 rfl ?_
      refine ks_get hκ 166 dX7_count_166 kf_X7_20 hM rfl ?_
      refine ks_iret hκ 169 hRt dX7_count_169 (by decide) (by decide) rfl ?_
      have hq : kCnQ (se, tu, ki, ma, re, kf, L, P) l.length H.length (nI 16) = kCnN (se, tu, ki, ma, re, kf, L, P) l.length H.length 16 := by
        unfold kCnQ
        rw [kSw_in (by decide) (by decide)]
      exact ⟨by rw [hq]; rfl, rfl⟩
set_option maxRecDepth 100000 in
set_option maxHeartbeats 4000000 in
theorem c_Model_ifLeapt {g : ks_G} {h : ks_H} {m : Nat} {se : Nat → Int32} {tu : Int32} {ki : Nat} {ma re : Int32} {kf : Nat → Nat → Int32} {L : List (Nat × Nat)} {P : List kP} {H : List kS} {S : Nat → Option kS} {l : List Int32} {x z w : Int32} (hmm : kMM g h m (se, tu, ki, ma, re, kf, L, P) H S l) (hok : kOk2 (se, tu, ki, ma, re, kf, L, P)) (hbal : kBal (se, tu, ki, ma, re, kf, L, P)) : ks_Met g (yX7_ifLeapt, cX7_ifLeapt, 9, some .int) 6 0 0 [ks_ref g m, .int x, .int z, .int w] h (ks_Ph (fun r h' => r = kIfQ (se, tu, ki, ma, re, kf, L, P) x z w ∧ kMM g h' m (se, tu, ki, ma, re, kf, L, P) H S l ∧ ks_Fr h h' m (m + 4))) := by
  obtain ⟨f, Z, T, sp, kd, on, tw, bx, hM, hS, hZ, hT, hmd, hH, hHl, hSl, hTO, hll, hch⟩ := hmm
  obtain ⟨mS, m4, m5, m6, m7, m8, m9, mK, mP, mL, mki, mLl, mPl, mLp, mPp⟩ := id hmd
  dsimp only at mS m4 m5 m6 m7 m8 m9 mK mP mL mki mLl mPl mLp mPp
  refine ks_intro (by decide) (Nat.le_of_ble_eq_true rfl) (fun κ hκ hRt => ?_)
  refine ks_cv (ls := [(0, ks_ref g m), (1, .int x), (2, .int z), (3, .int w)]) ?_ rfl rfl rfl
  have hF : ks_Fr h h m (m + 4) := ks_Fr.rf
  refine ks_aload_n hκ 0 0 dX7_ifLeapt_0 rfl ?_
  refine ks_iload_n hκ 1 1 dX7_ifLeapt_1 rfl ?_
  refine ks_pureV1 hκ 2 dX7_ifLeapt_2 kc_X7_103 (c_Model_isKitten hM hS hmd) hM rfl (by decide) (Nat.le_of_ble_eq_true rfl) (by decide) (by decide) ?_
  refine ks_if_ne hκ 5 10 dX7_ifLeapt_5 rfl (fun c5 => ?_) (fun c5 => ?_)
  · skip
    obtain ⟨vj, hvj, rfl⟩ := kHas_1 c5 mki
    obtain ⟨vs, hvs, hvs2⟩ := hok.1 vj hvj
    have hvj : vj < ki := hvj
    have hvs2 : kf 0 vj = nI vs := hvs2
    refine ks_iload_n hκ 10 2 dX7_ifLeapt_10 rfl ?_
    refine ks_pureS1 hκ 11 dX7_ifLeapt_11 kc_X7_107 (c_Model_areSteps) (by decide) (Nat.le_of_ble_eq_true rfl) (by decide) (by decide) ?_
    refine ks_if_eq hκ 14 29 dX7_ifLeapt_14 rfl (fun c14 => ?_) (fun c14 => ?_)
    · skip
      refine ks_bipush hκ 29 (-2) dX7_ifLeapt_29 kq_bm2 ?_
      refine ks_iret hκ 31 hRt dX7_ifLeapt_31 (by decide) (by decide) rfl ?_
      have hq : kIfQ (se, tu, ki, ma, re, kf, L, P) (nI vj) z w = -2 := by
        unfold kIfQ
        first
        | rw [if_neg c5, if_pos c14]
        | (rw [if_neg c5, if_neg c14]; by_cases q1 : w < 0; { rw [if_pos q1] }; { rw [if_neg q1] at c26; by_cases q2 : (3 : Int32) < w; { exact (if_neg q1).trans (if_pos q2) }; { rw [if_neg q2] at c26; exact absurd c26 (by decide) } })
      exact ⟨_, rfl, hq.symm, ⟨f, Z, T, sp, kd, on, tw, bx, hM, hS, hZ, hT, hmd, hH, hHl, hSl, hTO, hll, hch⟩, hF⟩
    · skip
      refine ks_iload_n hκ 17 3 dX7_ifLeapt_17 rfl ?_
      refine ks_i2l hκ 18 dX7_ifLeapt_18 ?_
      refine ks_lconst hκ 19 0 dX7_ifLeapt_19 rfl ?_
      refine ks_ldc2 hκ 20 _ dX7_ifLeapt_20 kl_X7_196 ?_
      refine ks_pureS3 hκ 23 dX7_ifLeapt_23 kc_X7_70 (c_Model_in) (by decide) (Nat.le_of_ble_eq_true rfl) (by decide) (by decide) ?_
      refine ks_if_ne hκ 26 32 dX7_ifLeapt_26 rfl (fun c26 => ?_) (fun c26 => ?_)
      · skip
        rw [kIn_V (lo := 0) (hi := 3) (by decide) (by decide)] at c26
        have hz : ∃ vw, vw < 4 ∧ w = nI vw := by
          rcases pk_ix w (n := 4) (by decide) with q | q | q
          · rw [if_pos q] at c26; exact absurd rfl c26
          · by_cases q1 : w < 0
            · rw [if_pos q1] at c26; exact absurd rfl c26
            · have q2 : (3 : Int32) < w := Int32.lt_iff_toInt_lt.mpr (by have q3 := Int32.le_iff_toInt_le.mp q; rw [show (nI 4).toInt = 4 by decide] at q3; show (3 : Int) < _; omega)
              rw [if_neg q1, if_pos q2] at c26; exact absurd rfl c26
          · exact q
        obtain ⟨vw, hvw, rfl⟩ := hz
        have hw1 : ¬ nI vw < 0 := nI_pos (by omega)
        have hw2 : ¬ nI 3 < nI vw := fun q => by have := (nI_ltI (by decide) (by omega)).mp q; omega
        refine ks_aload_n hκ 32 0 dX7_ifLeapt_32 rfl ?_
        refine ks_iconst hκ 33 (nI 0) dX7_ifLeapt_33 kq_i0 ?_
        refine ks_iload_n hκ 34 1 dX7_ifLeapt_34 rfl ?_
        refine ks_iload_n hκ 35 2 dX7_ifLeapt_35 rfl ?_
        refine ks_pureV3 hκ 36 dX7_ifLeapt_36 kc_X7_90 (c_Model_reason (b := 0) hM hS (by decide) hmd hvj hvs hvs2) hM rfl (by decide) (Nat.le_of_ble_eq_true rfl) (by decide) (by decide) ?_
        refine ks_if_eq hκ 39 45 dX7_ifLeapt_39 rfl (fun c39 => ?_) (fun c39 => ?_)
        · skip
          obtain ⟨vt, hvt, rfl⟩ := kRef_0 c39 hvs2 hvs
          obtain ⟨hlt9, -⟩ := kLeap_bal (σ := (se, tu, ki, ma, re, kf, L, P)) hbal mki hvj hvs hvt hvs2 c39
          refine ks_aload_n hκ 45 0 dX7_ifLeapt_45 rfl ?_
          refine ks_iconst hκ 46 (nI 0) dX7_ifLeapt_46 kq_i0 ?_
          refine ks_bipush hκ 47 (nI 9) dX7_ifLeapt_47 kq_b9 ?_
          refine ks_voidV2 hκ 49 dX7_ifLeapt_49 kc_X7_24 (c_Model_copies (vi := 0) (vj := 9) hM hS (by decide) (by decide)) hM rfl (by decide) (Nat.le_of_ble_eq_true rfl) (by decide) (by decide) (fun xh1 hp49 => ?_)
          obtain ⟨f2, hS, hF9, hcp, hun⟩ := hp49
          have hmd2 : kMd f2 0 (se, tu, ki, ma, re, kf, L, P) := hmd.move (fun n hn => hun _ (by omega))
          have hmd9 : kMd f2 3060 (se, tu, ki, ma, re, kf, L, P) := hmd.move hcp
          replace hM := hF9.at hM (by omega)
          replace hZ := hF9.at hZ (by omega)
          replace hT := hF9.at hT (by omega)
          replace hF := hF.tr (hF9.wd (by omega) (by omega))
          refine ks_sipush hκ 52 (nI 3060) dX7_ifLeapt_52 kq_s3060 ?_
          refine ks_istore hκ 55 4 [(4, _), (0, _), (1, _), (2, _), (3, _)] dX7_ifLeapt_55 (by decide) rfl ?_
          refine ks_aload_n hκ 57 1 dX7_ifLeapt_57 rfl ?_
          refine ks_iload hκ 58 0 dX7_ifLeapt_58 rfl ?_
          refine ks_iload_n hκ 60 2 dX7_ifLeapt_60 rfl ?_
          refine ks_iload_n hκ 61 3 dX7_ifLeapt_61 rfl ?_
          refine ks_intcV3 hκ 62 dX7_ifLeapt_62 kc_X7_93 (c_Model_leaps (b := 3060) hM hS (by decide) hmd9 hvj hvs hvt hvs2 hlt9) hM rfl (by decide) (Nat.le_of_ble_eq_true rfl) (by decide) (by decide) (fun r62 xh2 hp62 => ?_)
          obtain ⟨hr9, f3, hS, hF8, hmd3, hout3⟩ := hp62
          have hmd0 : kMd f3 0 (se, tu, ki, ma, re, kf, L, P) := hmd2.move (fun n hn => hout3 _ (by omega))
          replace hM := hF8.at hM (by omega)
          replace hZ := hF8.at hZ (by omega)
          replace hT := hF8.at hT (by omega)
          replace hF := hF.tr (hF8.wd (by omega) (by omega))
          refine ks_istore hκ 65 5 [(5, _), (4, _), (0, _), (1, _), (2, _), (3, _)] dX7_ifLeapt_65 (by decide) rfl ?_
          refine ks_aload_n hκ 67 2 dX7_ifLeapt_67 rfl ?_
          refine ks_iconst hκ 68 (nI 0) dX7_ifLeapt_68 kq_i0 ?_
          refine ks_iload_n hκ 69 3 dX7_ifLeapt_69 rfl ?_
          refine ks_pureV2 hκ 70 dX7_ifLeapt_70 kc_X7_53 (c_Model_boundToS (b := 0) hM hS (by decide) hmd0 (show vj < 6 by omega)) hM rfl (by decide) (Nat.le_of_ble_eq_true rfl) (by decide) (by decide) ?_
          refine ks_istore hκ 73 6 [(6, _), (5, _), (4, _), (0, _), (1, _), (2, _), (3, _)] dX7_ifLeapt_73 (by decide) rfl ?_
          refine ks_aload_n hκ 75 3 dX7_ifLeapt_75 rfl ?_
          refine ks_iload hκ 76 2 dX7_ifLeapt_76 rfl ?_
          refine ks_iload_n hκ 78 4 dX7_ifLeapt_78 rfl ?_
          refine ks_pureV2 hκ 79 dX7_ifLeapt_79 kc_X7_53 (c_Model_boundToS (b := 3060) hM hS (by decide) hmd3 (show vj < 6 by omega)) hM rfl (by decide) (Nat.le_of_ble_eq_true rfl) (by decide) (by decide) ?_
          refine ks_istore hκ 82 7 [(7, _), (6, _), (5, _), (4, _), (0, _), (1, _), (2, _), (3, _)] dX7_ifLeapt_82 (by decide) rfl ?_
          refine ks_iconst hκ 84 (nI 0) dX7_ifLeapt_84 kq_i0 ?_
          refine ks_iload_n hκ 85 5 dX7_ifLeapt_85 rfl ?_
          refine ks_pureS2 hκ 86 dX7_ifLeapt_86 kc_X7_28 (c_Model_kittenAt (b := 0)) (by decide) (Nat.le_of_ble_eq_true rfl) (by decide) (by decide) ?_
          refine ks_istore hκ 89 8 [(8, _), (7, _), (6, _), (5, _), (4, _), (0, _), (1, _), (2, _), (3, _)] dX7_ifLeapt_89 (by decide) rfl ?_
          refine ks_iload_n hκ 91 8 dX7_ifLeapt_91 rfl ?_
          refine ks_if_ne hκ 92 120 dX7_ifLeapt_92 rfl (fun c92 => ?_) (fun c92 => ?_)
          · skip
            have c92 := mt (ks_eq0 (by omega)).mpr c92
            refine ks_iload_n hκ 120 8 dX7_ifLeapt_120 rfl ?_
            refine ks_iconst hκ 121 (nI 1) dX7_ifLeapt_121 kq_i1 ?_
            refine ks_icmp_ne hκ 122 150 dX7_ifLeapt_122 rfl (fun c122 => ?_) (fun c122 => ?_)
            · skip
              have c122 := mt (nI_eq (by omega) (by omega)).mpr c122
              refine ks_iload_n hκ 150 8 dX7_ifLeapt_150 rfl ?_
              refine ks_iconst hκ 151 (nI 2) dX7_ifLeapt_151 kq_i2 ?_
              refine ks_icmp_ne hκ 152 165 dX7_ifLeapt_152 rfl (fun c152 => ?_) (fun c152 => ?_)
              · skip
                have c152 := mt (nI_eq (by omega) (by omega)).mpr c152
                refine ks_iload hκ 165 2 dX7_ifLeapt_165 rfl ?_
                refine ks_iload hκ 167 1 dX7_ifLeapt_167 rfl ?_
                refine ks_iconst hκ 169 (-1) dX7_ifLeapt_169 kq_im1 ?_
                refine ks_ixor hκ 170 dX7_ifLeapt_170 ?_
                refine ks_iand hκ 171 dX7_ifLeapt_171 ?_
                refine ks_iret hκ 172 hRt dX7_ifLeapt_172 (by decide) (by decide) rfl ?_
                have hq : kIfQ (se, tu, ki, ma, re, kf, L, P) (nI vj) (nI vt - nI vs) (nI vw) = kIfN (se, tu, ki, ma, re, kf, L, P) (kLeap (se, tu, ki, ma, re, kf, L, P) vj (nI vt - nI vs)) vj vw := by
                  unfold kIfQ
                  rw [if_neg c5, if_neg c14, if_neg hw1, if_neg hw2, nI_clamp (by omega), if_neg (fun q => q c39), nI_clamp (by omega)]
                rw [hq]
                refine ⟨_, rfl, ?_, ⟨f3, Z, T, sp, kd, on, tw, bx, hM, hS, hZ, hT, hmd0, fun i y hi =>  (hH i y hi).move (fun n hn => (hout3 _ (by have := hHl; omega)).trans (hun _ (by have := hHl; omega))), hHl, fun s hs => (hSl s hs).imp id (fun ⟨y, h1, h2, h3⟩ => ⟨y, h1, h2, h3.move (fun n hn => (hout3 _ (by omega)).trans (hun _ (by omega)))⟩), hTO, hll, hch⟩, hF⟩
                first
                | (subst c92; rfl)
                | (subst c122; rfl)
                | (subst c152; rfl)
                | (rw [show vw = 3 by omega]; rfl)
              · skip
                have c152 := (nI_eq (by omega) (by omega)).mp c152
                refine ks_iload hκ 155 1 dX7_ifLeapt_155 rfl ?_
                refine ks_iload hκ 157 2 dX7_ifLeapt_157 rfl ?_
                refine ks_iconst hκ 159 (-1) dX7_ifLeapt_159 kq_im1 ?_
                refine ks_ixor hκ 160 dX7_ifLeapt_160 ?_
                refine ks_iand hκ 161 dX7_ifLeapt_161 ?_
                refine ks_goto hκ 162 172 dX7_ifLeapt_162 rfl ?_
                refine ks_iret hκ 172 hRt dX7_ifLeapt_172 (by decide) (by decide) rfl ?_
                have hq : kIfQ (se, tu, ki, ma, re, kf, L, P) (nI vj) (nI vt - nI vs) (nI vw) = kIfN (se, tu, ki, ma, re, kf, L, P) (kLeap (se, tu, ki, ma, re, kf, L, P) vj (nI vt - nI vs)) vj vw := by
                  unfold kIfQ
                  rw [if_neg c5, if_neg c14, if_neg hw1, if_neg hw2, nI_clamp (by omega), if_neg (fun q => q c39), nI_clamp (by omega)]
                rw [hq]
                refine ⟨_, rfl, ?_, ⟨f3, Z, T, sp, kd, on, tw, bx, hM, hS, hZ, hT, hmd0, fun i y hi =>  (hH i y hi).move (fun n hn => (hout3 _ (by have := hHl; omega)).trans (hun _ (by have := hHl; omega))), hHl, fun s hs => (hSl s hs).imp id (fun ⟨y, h1, h2, h3⟩ => ⟨y, h1, h2, h3.move (fun n hn => (hout3 _ (by omega)).trans (hun _ (by omega)))⟩), hTO, hll, hch⟩, hF⟩
                first
                | (subst c92; rfl)
                | (subst c122; rfl)
                | (subst c152; rfl)
                | (rw [show vw = 3 by omega]; rfl)
            · skip
              have c122 := (nI_eq (by omega) (by omega)).mp c122
              refine ks_aload_n hκ 125 5 dX7_ifLeapt_125 rfl ?_
              refine ks_get hκ 126 dX7_ifLeapt_126 kf_X7_7 hM rfl ?_
              refine ks_iload hκ 129 4 dX7_ifLeapt_129 rfl ?_
              refine ks_iload hκ 131 0 dX7_ifLeapt_131 rfl ?_
              refine ks_iaddN hκ 133 dX7_ifLeapt_133 ?_
              refine ks_iconst hκ 134 (nI 5) dX7_ifLeapt_134 kq_i5 ?_
              refine ks_iaddN hκ 135 dX7_ifLeapt_135 ?_
              refine ks_iald hκ 136 (((3060 + (0 + 10 + 7 * vj)) + 5)) dX7_ifLeapt_136 hS rfl (by omega) (by decide) ?_
              refine ks_top ((kLeap (se, tu, ki, ma, re, kf, L, P) vj (nI vt - nI vs)).2.2.2.2.2.1 5 vj) ((congrArg f3 (show 3060 + (0 + 10 + 7 * vj) + 5 = 3060 + 10 + 7 * vj + 5 by omega)).trans (hmd3.fld (c := 5) hvj (by decide))) ?_
              refine ks_aload_n hκ 137 5 dX7_ifLeapt_137 rfl ?_
              refine ks_get hκ 138 dX7_ifLeapt_138 kf_X7_7 hM rfl ?_
              refine ks_iload hκ 141 0 dX7_ifLeapt_141 rfl ?_
              refine ks_iconst hκ 143 (nI 5) dX7_ifLeapt_143 kq_i5 ?_
              refine ks_iaddN hκ 144 dX7_ifLeapt_144 ?_
              refine ks_iald hκ 145 (((0 + 10 + 7 * vj) + 5)) dX7_ifLeapt_145 hS rfl (by omega) (by decide) ?_
              refine ks_top (kf 5 vj) (hmd0.fld (c := 5) hvj (by decide)) ?_
              refine ks_isub hκ 146 dX7_ifLeapt_146 ?_
              refine ks_goto hκ 147 172 dX7_ifLeapt_147 rfl ?_
              refine ks_iret hκ 172 hRt dX7_ifLeapt_172 (by decide) (by decide) rfl ?_
              have hq : kIfQ (se, tu, ki, ma, re, kf, L, P) (nI vj) (nI vt - nI vs) (nI vw) = kIfN (se, tu, ki, ma, re, kf, L, P) (kLeap (se, tu, ki, ma, re, kf, L, P) vj (nI vt - nI vs)) vj vw := by
                unfold kIfQ
                rw [if_neg c5, if_neg c14, if_neg hw1, if_neg hw2, nI_clamp (by omega), if_neg (fun q => q c39), nI_clamp (by omega)]
              rw [hq]
              refine ⟨_, rfl, ?_, ⟨f3, Z, T, sp, kd, on, tw, bx, hM, hS, hZ, hT, hmd0, fun i y hi =>  (hH i y hi).move (fun n hn => (hout3 _ (by have := hHl; omega)).trans (hun _ (by have := hHl; omega))), hHl, fun s hs => (hSl s hs).imp id (fun ⟨y, h1, h2, h3⟩ => ⟨y, h1, h2, h3.move (fun n hn => (hout3 _ (by omega)).trans (hun _ (by omega)))⟩), hTO, hll, hch⟩, hF⟩
              first
              | (subst c92; rfl)
              | (subst c122; rfl)
              | (subst c152; rfl)
              | (rw [show vw = 3 by omega]; rfl)
          · skip
            have c92 := (ks_eq0 (by omega)).mp c92
            refine ks_aload_n hκ 95 5 dX7_ifLeapt_95 rfl ?_
            refine ks_get hκ 96 dX7_ifLeapt_96 kf_X7_7 hM rfl ?_
            refine ks_iload hκ 99 4 dX7_ifLeapt_99 rfl ?_
            refine ks_iload hκ 101 0 dX7_ifLeapt_101 rfl ?_
            refine ks_iaddN hκ 103 dX7_ifLeapt_103 ?_
            refine ks_iconst hκ 104 (nI 4) dX7_ifLeapt_104 kq_i4 ?_
            refine ks_iaddN hκ 105 dX7_ifLeapt_105 ?_
            refine ks_iald hκ 106 (((3060 + (0 + 10 + 7 * vj)) + 4)) dX7_ifLeapt_106 hS rfl (by omega) (by decide) ?_
            refine ks_top ((kLeap (se, tu, ki, ma, re, kf, L, P) vj (nI vt - nI vs)).2.2.2.2.2.1 4 vj) ((congrArg f3 (show 3060 + (0 + 10 + 7 * vj) + 4 = 3060 + 10 + 7 * vj + 4 by omega)).trans (hmd3.fld (c := 4) hvj (by decide))) ?_
            refine ks_aload_n hκ 107 5 dX7_ifLeapt_107 rfl ?_
            refine ks_get hκ 108 dX7_ifLeapt_108 kf_X7_7 hM rfl ?_
            refine ks_iload hκ 111 0 dX7_ifLeapt_111 rfl ?_
            refine ks_iconst hκ 113 (nI 4) dX7_ifLeapt_113 kq_i4 ?_
            refine ks_iaddN hκ 114 dX7_ifLeapt_114 ?_
            refine ks_iald hκ 115 (((0 + 10 + 7 * vj) + 4)) dX7_ifLeapt_115 hS rfl (by omega) (by decide) ?_
            refine ks_top (kf 4 vj) (hmd0.fld (c := 4) hvj (by decide)) ?_
            refine ks_isub hκ 116 dX7_ifLeapt_116 ?_
            refine ks_goto hκ 117 172 dX7_ifLeapt_117 rfl ?_
            refine ks_iret hκ 172 hRt dX7_ifLeapt_172 (by decide) (by decide) rfl ?_
            have hq : kIfQ (se, tu, ki, ma, re, kf, L, P) (nI vj) (nI vt - nI vs) (nI vw) = kIfN (se, tu, ki, ma, re, kf, L, P) (kLeap (se, tu, ki, ma, re, kf, L, P) vj (nI vt - nI vs)) vj vw := by
              unfold kIfQ
              rw [if_neg c5, if_neg c14, if_neg hw1, if_neg hw2, nI_clamp (by omega), if_neg (fun q => q c39), nI_clamp (by omega)]
            rw [hq]
            refine ⟨_, rfl, ?_, ⟨f3, Z, T, sp, kd, on, tw, bx, hM, hS, hZ, hT, hmd0, fun i y hi =>  (hH i y hi).move (fun n hn => (hout3 _ (by have := hHl; omega)).trans (hun _ (by have := hHl; omega))), hHl, fun s hs => (hSl s hs).imp id (fun ⟨y, h1, h2, h3⟩ => ⟨y, h1, h2, h3.move (fun n hn => (hout3 _ (by omega)).trans (hun _ (by omega)))⟩), hTO, hll, hch⟩, hF⟩
            first
            | (subst c92; rfl)
            | (subst c122; rfl)
            | (subst c152; rfl)
            | (rw [show vw = 3 by omega]; rfl)
        · skip
          refine ks_bipush hκ 42 (-5) dX7_ifLeapt_42 kq_bm5 ?_
          refine ks_iret hκ 44 hRt dX7_ifLeapt_44 (by decide) (by decide) rfl ?_
          have hq : kIfQ (se, tu, ki, ma, re, kf, L, P) (nI vj) z (nI vw) = -5 := by
            unfold kIfQ
            rw [if_neg c5, if_neg c14, if_neg hw1, if_neg hw2, nI_clamp (by omega), if_pos c39]
          exact ⟨_, rfl, hq.symm, ⟨f, Z, T, sp, kd, on, tw, bx, hM, hS, hZ, hT, hmd, hH, hHl, hSl, hTO, hll, hch⟩, hF⟩
      · skip
        rw [kIn_V (lo := 0) (hi := 3) (by decide) (by decide)] at c26
        refine ks_bipush hκ 29 (-2) dX7_ifLeapt_29 kq_bm2 ?_
        refine ks_iret hκ 31 hRt dX7_ifLeapt_31 (by decide) (by decide) rfl ?_
        have hq : kIfQ (se, tu, ki, ma, re, kf, L, P) (nI vj) z w = -2 := by
          unfold kIfQ
          first
          | rw [if_neg c5, if_pos c14]
          | (rw [if_neg c5, if_neg c14]; by_cases q1 : w < 0; { rw [if_pos q1] }; { rw [if_neg q1] at c26; by_cases q2 : (3 : Int32) < w; { exact (if_neg q1).trans (if_pos q2) }; { rw [if_neg q2] at c26; exact absurd c26 (by decide) } })
        exact ⟨_, rfl, hq.symm, ⟨f, Z, T, sp, kd, on, tw, bx, hM, hS, hZ, hT, hmd, hH, hHl, hSl, hTO, hll, hch⟩, hF⟩
  · skip
    refine ks_iconst hκ 8 (-1) dX7_ifLeapt_8 kq_im1 ?_
    refine ks_iret hκ 9 hRt dX7_ifLeapt_9 (by decide) (by decide) rfl ?_
    have hq : kIfQ (se, tu, ki, ma, re, kf, L, P) x z w = -1 := if_pos c5
    exact ⟨_, rfl, hq.symm, ⟨f, Z, T, sp, kd, on, tw, bx, hM, hS, hZ, hT, hmd, hH, hHl, hSl, hTO, hll, hch⟩, hF⟩
set_option maxRecDepth 100000 in
set_option maxHeartbeats 4000000 in
theorem c_Model_stepIn {g : ks_G} {h : ks_H} {m : Nat} {se : Nat → Int32} {tu : Int32} {ki : Nat} {ma re : Int32} {kf : Nat → Nat → Int32} {L : List (Nat × Nat)} {P : List kP} {H : List kS} {S : Nat → Option kS} {l : List Int32} {x z : Int32} (hmm : kMM g h m (se, tu, ki, ma, re, kf, L, P) H S l) (hok : kOk2 (se, tu, ki, ma, re, kf, L, P)) (hbal : kBal (se, tu, ki, ma, re, kf, L, P)) : ks_Met g (yX7_stepIn, cX7_stepIn, 4, some .int) 8 0 0 [ks_ref g m, .int x, .int z] h (ks_Ph (fun r h' => r = kSpQ (se, tu, ki, ma, re, kf, L, P) x z ∧ kMM g h' m (se, tu, ki, ma, re, kf, L, P) H S l ∧ ks_Fr h h' m (m + 4))) := by
  obtain ⟨f, Z, T, sp, kd, on, tw, bx, hM, hS, hZ, hT, hmd, hH, hHl, hSl, hTO, hll, hch⟩ := hmm
  obtain ⟨mS, m4, m5, m6, m7, m8, m9, mK, mP, mL, mki, mLl, mPl, mLp, mPp⟩ := id hmd
  dsimp only at mS m4 m5 m6 m7 m8 m9 mK mP mL mki mLl mPl mLp mPp
  refine ks_intro (by decide) (Nat.le_of_ble_eq_true rfl) (fun κ hκ hRt => ?_)
  refine ks_cv (ls := [(0, ks_ref g m), (1, .int x), (2, .int z)]) ?_ rfl rfl rfl
  have hF : ks_Fr h h m (m + 4) := ks_Fr.rf
  refine ks_aload_n hκ 0 0 dX7_stepIn_0 rfl ?_
  refine ks_iload_n hκ 1 1 dX7_stepIn_1 rfl ?_
  refine ks_pureV1 hκ 2 dX7_stepIn_2 kc_X7_103 (c_Model_isKitten hM hS hmd) hM rfl (by decide) (Nat.le_of_ble_eq_true rfl) (by decide) (by decide) ?_
  refine ks_if_ne hκ 5 10 dX7_stepIn_5 rfl (fun c5 => ?_) (fun c5 => ?_)
  · skip
    obtain ⟨vj, hvj, rfl⟩ := kHas_1 c5 mki
    have hvj : vj < ki := hvj
    refine ks_iload_n hκ 10 2 dX7_stepIn_10 rfl ?_
    refine ks_i2l hκ 11 dX7_stepIn_11 ?_
    refine ks_lconst hκ 12 1 dX7_stepIn_12 rfl ?_
    refine ks_ldc2 hκ 13 _ dX7_stepIn_13 kl_X7_116 ?_
    refine ks_pureS3 hκ 16 dX7_stepIn_16 kc_X7_70 (c_Model_in) (by decide) (Nat.le_of_ble_eq_true rfl) (by decide) (by decide) ?_
    refine ks_if_ne hκ 19 25 dX7_stepIn_19 rfl (fun c19 => ?_) (fun c19 => ?_)
    · skip
      rw [kIn_T] at c19
      have q1 : ¬ z < nI 1 := fun q => by rw [if_pos q] at c19; exact absurd rfl c19
      have q2 : ¬ nI 99 < z := fun q => by rw [if_neg q1, if_pos q] at c19; exact absurd rfl c19
      obtain ⟨vn, hvn1, hvn, rfl⟩ := kT99 q1 q2
      refine ks_aload_n hκ 25 0 dX7_stepIn_25 rfl ?_
      refine ks_iconst hκ 26 (nI 0) dX7_stepIn_26 kq_i0 ?_
      refine ks_bipush hκ 27 (nI 9) dX7_stepIn_27 kq_b9 ?_
      refine ks_voidV2 hκ 29 dX7_stepIn_29 kc_X7_24 (c_Model_copies (vi := 0) (vj := 9) hM hS (by decide) (by decide)) hM rfl (by decide) (Nat.le_of_ble_eq_true rfl) (by decide) (by decide) (fun xh1 hp29 => ?_)
      obtain ⟨f2, hS, hF9, hcp, hun⟩ := hp29
      have hmd2 : kMd f2 0 (se, tu, ki, ma, re, kf, L, P) := hmd.move (fun n hn => hun _ (by omega))
      have hmd9 : kMd f2 3060 (se, tu, ki, ma, re, kf, L, P) := hmd.move hcp
      replace hM := hF9.at hM (by omega)
      replace hZ := hF9.at hZ (by omega)
      replace hT := hF9.at hT (by omega)
      replace hF := hF.tr (hF9.wd (by omega) (by omega))
      refine ks_aload_n hκ 32 0 dX7_stepIn_32 rfl ?_
      refine ks_sipush hκ 33 (nI 3060) dX7_stepIn_33 kq_s3060 ?_
      refine ks_iload_n hκ 36 2 dX7_stepIn_36 rfl ?_
      refine ks_intcV2 hκ 37 dX7_stepIn_37 kc_X7_162 (c_Model_turns (b := 3060) hM hS (by decide) hmd9 hok hbal hvn) hM rfl (by decide) (Nat.le_of_ble_eq_true rfl) (by decide) (by decide) (fun r37 xh2 hp37 => ?_)
      obtain ⟨hr9, f3, hS, hF8, hmd3, hout3⟩ := hp37
      have hmd0 : kMd f3 0 (se, tu, ki, ma, re, kf, L, P) := hmd2.move (fun n hn => hout3 _ (by omega))
      replace hM := hF8.at hM (by omega)
      replace hZ := hF8.at hZ (by omega)
      replace hT := hF8.at hT (by omega)
      replace hF := hF.tr (hF8.wd (by omega) (by omega))
      refine ks_istore_n hκ 40 3 [(3, _), (0, _), (1, _), (2, _)] dX7_stepIn_40 rfl (by decide) rfl ?_
      refine ks_aload_n hκ 41 1 dX7_stepIn_41 rfl ?_
      refine ks_get hκ 42 dX7_stepIn_42 kf_X7_7 hM rfl ?_
      refine ks_sipush hκ 45 (nI 3060) dX7_stepIn_45 kq_s3060 ?_
      refine ks_iload_n hκ 48 2 dX7_stepIn_48 rfl ?_
      refine ks_pureS2 hκ 49 dX7_stepIn_49 kc_X7_28 (c_Model_kittenAt (b := 3060)) (by decide) (Nat.le_of_ble_eq_true rfl) (by decide) (by decide) ?_
      refine ks_iald hκ 52 ((3060 + 10 + 7 * vj)) dX7_stepIn_52 hS rfl (by omega) (by decide) ?_
      refine ks_iret hκ 53 hRt dX7_stepIn_53 (by decide) (by decide) rfl ?_
      have hq : kSpQ (se, tu, ki, ma, re, kf, L, P) (nI vj) (nI vn) = (kPass vn (se, tu, ki, ma, re, kf, L, P) 0).2.2.2.2.2.2.1 0 vj := by
        unfold kSpQ
        rw [if_neg c5, if_neg q1, if_neg q2, nI_clamp (by omega), nI_clamp (by omega)]
      rw [hq]
      refine ⟨_, rfl, hmd3.fld (c := 0) (show vj < (kPass vn (se, tu, ki, ma, re, kf, L, P) 0).2.2.2.1 by rw [kPass_ki _ _ _ hok]; exact hvj) (by decide), ⟨f3, Z, T, sp, kd, on, tw, bx, hM, hS, hZ, hT, hmd0, fun i y hi => (hH i y hi).move (fun n hn => (hout3 _ (by omega)).trans (hun _ (by omega))), hHl, fun s hs => (hSl s hs).imp id (fun ⟨y, h1, h2, h3⟩ => ⟨y, h1, h2, h3.move (fun n hn => (hout3 _ (by omega)).trans (hun _ (by omega)))⟩), hTO, hll, hch⟩, hF⟩
    · skip
      rw [kIn_T] at c19
      refine ks_bipush hκ 22 (-2) dX7_stepIn_22 kq_bm2 ?_
      refine ks_iret hκ 24 hRt dX7_stepIn_24 (by decide) (by decide) rfl ?_
      have hq : kSpQ (se, tu, ki, ma, re, kf, L, P) (nI vj) z = -2 := by
        unfold kSpQ
        rw [if_neg c5]
        by_cases q1 : z < nI 1
        · rw [if_pos q1]
        · rw [if_neg q1] at c19
          by_cases q2 : nI 99 < z
          · rw [if_neg q1, if_pos q2]
          · rw [if_neg q2] at c19; exact absurd c19 (by decide)
      exact ⟨_, rfl, hq.symm, ⟨f, Z, T, sp, kd, on, tw, bx, hM, hS, hZ, hT, hmd, hH, hHl, hSl, hTO, hll, hch⟩, hF⟩
  · skip
    refine ks_iconst hκ 8 (-1) dX7_stepIn_8 kq_im1 ?_
    refine ks_iret hκ 9 hRt dX7_stepIn_9 (by decide) (by decide) rfl ?_
    have hq : kSpQ (se, tu, ki, ma, re, kf, L, P) x z = -1 := if_pos c5
    exact ⟨_, rfl, hq.symm, ⟨f, Z, T, sp, kd, on, tw, bx, hM, hS, hZ, hT, hmd, hH, hHl, hSl, hTO, hll, hch⟩, hF⟩
