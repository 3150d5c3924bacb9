
def kBSetS (σ : kS) (k : Nat) (a : Int32) (j : Nat) : Int32 := if j = k then a else if kBes k j σ.2.2.2.2.2.2.1 = 0 then a else a ||| kBit j
/-- kittens to which a kitten is bound -/
def kBSet (σ : kS) (k : Nat) : Int32 := (List.range σ.2.2.1).foldl (kBSetS σ k) (nI 0)
def kPairS (L : List (Nat × Nat)) (m : Int32) (i : Nat) (a : Nat) (j : Nat) : Nat := if kBes i j L &&& m = 0 then a else a + 1
def kPairT (ki : Nat) (L : List (Nat × Nat)) (m : Int32) (a : Nat) (i : Nat) : Nat := ((List.range ki).drop (i + 1)).foldl (kPairS L m i) a
def kPairs (σ : kS) (m : Int32) : Nat := (List.range σ.2.2.1).foldl (kPairT σ.2.2.1 σ.2.2.2.2.2.2.1 m) 0
def kReachS (σ : kS) (k : Nat) (a : Int32) (t : Nat) : Int32 := if nI t - σ.2.2.2.2.2.1 0 k = 0 then a else if kRef σ k (nI t - σ.2.2.2.2.2.1 0 k) = 0 then a ||| kBit t else a
def kReach (σ : kS) (k : Nat) : Int32 := (List.range 16).foldl (kReachS σ k) (nI 0)
def kNapS (kf : Nat → Nat → Int32) (a : Int32) (j : Nat) : Int32 := if kNaps kf j = 0 then a else a ||| kBit j
def kNapSet (σ : kS) : Int32 := (List.range σ.2.2.1).foldl (kNapS σ.2.2.2.2.2.1) (nI 0)
def kMaxI (x y : Int32) : Int32 := if x < y then y else x
def kWaking (σ : kS) : Int32 := (List.range σ.2.2.1).foldl (fun a j => kMaxI a (σ.2.2.2.2.2.1 2 j)) (-6)
def kSum (ki : Nat) (f : Nat → Int32) : Int32 := (List.range ki).foldl (fun a j => a + f j) (nI 0)
set_option maxRecDepth 100000 in
set_option maxHeartbeats 4000000 in
theorem c_Stairs_boundSet {g : ks_G} {h : ks_H} {b : Nat} {se : Nat → Int32} {tu : Int32} {ki : Nat} {ma re : Int32} {kf : Nat → Nat → Int32} {L : List (Nat × Nat)} {P : List kP} {k : Nat} (hst : kStairs g h b (se, tu, ki, ma, re, kf, L, P)) (hk : k < 6) : ks_Met g (yX4_boundSet, cX4_boundSet, 4, some .int) 1 0 0 [ks_ref g b, .int (nI k)] h (ks_Pi (kBSet (se, tu, ki, ma, re, kf, L, P) k) h) := by
  have hst0 := hst
  obtain ⟨h0, h1, h2, h3, h4, h5, h6, h7, h8, hyarn, hplans, hki⟩ := hst
  dsimp only at h0 h1 h2 h3 h4 h5 h6 h7 h8 hyarn hplans hki
  obtain ⟨E, O, hY, -⟩ := id hyarn
  refine ks_intro (by decide) (Nat.le_of_ble_eq_true rfl) (fun κ hκ hRt => ?_)
  refine ks_cv (ls := [(0, ks_ref g b), (1, .int (nI k))]) ?_ rfl rfl rfl
  refine ks_iconst hκ 0 (nI 0) dX4_boundSet_0 kq_i0 ?_
  refine ks_istore_n hκ 1 2 [(2, _), (0, _), (1, _)] dX4_boundSet_1 rfl (by decide) rfl ?_
  refine ks_iconst hκ 2 (nI 0) dX4_boundSet_2 kq_i0 ?_
  refine ks_istore_n hκ 3 3 [(3, _), (2, _), (0, _), (1, _)] dX4_boundSet_3 rfl (by decide) rfl ?_
  have L4 : ∀ (fuel : Nat) (vj : Nat) (xa : Int32) (hvj : vj ≤ ki) (hinv : ((List.range ki).drop vj).foldl (kBSetS (se, tu, ki, ma, re, kf, L, P) k) xa = kBSet (se, tu, ki, ma, re, kf, L, P) k) (hfuel : ki - vj < fuel), ks_K κ g 4 h 0 0 4 [(0, ks_ref g b), (1, .int (nI k)), (2, .int xa), (3, .int (nI vj))] [] := by
    intro fuel
    induction fuel with
    | zero => intro vj xa  hvj hinv hfuel; exact absurd hfuel (Nat.not_lt_zero _)
    | succ fuel ih =>
      intro vj xa  hvj hinv hfuel
      refine ks_iload_n hκ 4 3 dX4_boundSet_4 rfl ?_
      refine ks_aload_n hκ 5 0 dX4_boundSet_5 rfl ?_
      refine ks_get hκ 6 dX4_boundSet_6 kf_X4_19 h0 rfl ?_
      refine ks_icmp_ge hκ 9 41 dX4_boundSet_9 rfl (fun c9 => ?_) (fun c9 => ?_)
      · skip
        have c9 := (nI_leI (by omega) (by omega)).mp c9
        refine ks_iload_n hκ 41 2 dX4_boundSet_41 rfl ?_
        refine ks_iret hκ 42 hRt dX4_boundSet_42 (by decide) (by decide) rfl ?_
        exact ⟨by rw [← hinv, kdropRN c9]; rfl, rfl⟩
      · skip
        have c9 := mt (nI_leI (by omega) (by omega)).mpr c9
        rw [kdropR (by omega)] at hinv
        refine ks_iload_n hκ 12 3 dX4_boundSet_12 rfl ?_
        refine ks_iload_n hκ 13 1 dX4_boundSet_13 rfl ?_
        refine ks_icmp_eq hκ 14 35 dX4_boundSet_14 rfl (fun c14 => ?_) (fun c14 => ?_)
        · skip
          have c14 := (nI_eq (by omega) (by omega)).mp c14
          refine ks_iinc hκ 35 3 3 (nI (vj + 1)) [(3, _), (0, _), (1, _), (2, _)] dX4_boundSet_35 rfl (ks_inc1 _) (by decide) rfl ?_
          refine ks_goto hκ 38 4 dX4_boundSet_38 rfl ?_
          refine ks_pick [1, 2, 3, 0] [(0, _), (1, _), (2, _), (3, _)] rfl ?_
          exact ks_cv (ih (vj + 1) _  (by omega) (by simp only [List.foldl_cons] at hinv; first | (rw [kBSetS, if_pos c14] at hinv; exact hinv) | (rw [kBSetS, if_neg c14, if_pos c26] at hinv; exact hinv) | (rw [kBSetS, if_neg c14, if_neg c26] at hinv; exact hinv)) (by omega)) rfl rfl rfl
        · skip
          have c14 := mt (nI_eq (by omega) (by omega)).mpr c14
          refine ks_aload_n hκ 17 0 dX4_boundSet_17 rfl ?_
          refine ks_get hκ 18 dX4_boundSet_18 kf_X4_52 h0 rfl ?_
          refine ks_iload_n hκ 21 1 dX4_boundSet_21 rfl ?_
          refine ks_iload_n hκ 22 3 dX4_boundSet_22 rfl ?_
          refine ks_pureV2 hκ 23 dX4_boundSet_23 kc_X4_153 (c_Yarn_boundEdgeSet hyarn (by omega) (by omega)) hY rfl (by decide) (Nat.le_of_ble_eq_true rfl) (by decide) (by decide) ?_
          refine ks_if_eq hκ 26 35 dX4_boundSet_26 rfl (fun c26 => ?_) (fun c26 => ?_)
          · skip
            refine ks_iinc hκ 35 3 3 (nI (vj + 1)) [(3, _), (0, _), (1, _), (2, _)] dX4_boundSet_35 rfl (ks_inc1 _) (by decide) rfl ?_
            refine ks_goto hκ 38 4 dX4_boundSet_38 rfl ?_
            refine ks_pick [1, 2, 3, 0] [(0, _), (1, _), (2, _), (3, _)] rfl ?_
            exact ks_cv (ih (vj + 1) _  (by omega) (by simp only [List.foldl_cons] at hinv; first | (rw [kBSetS, if_pos c14] at hinv; exact hinv) | (rw [kBSetS, if_neg c14, if_pos c26] at hinv; exact hinv) | (rw [kBSetS, if_neg c14, if_neg c26] at hinv; exact hinv)) (by omega)) rfl rfl rfl
          · skip
            refine ks_iload_n hκ 29 2 dX4_boundSet_29 rfl ?_
            refine ks_iconst hκ 30 (nI 1) dX4_boundSet_30 kq_i1 ?_
            refine ks_iload_n hκ 31 3 dX4_boundSet_31 rfl ?_
            refine ks_ishl hκ 32 dX4_boundSet_32 ?_
            refine ks_ior hκ 33 dX4_boundSet_33 ?_
            refine ks_istore_n hκ 34 2 [(2, _), (0, _), (1, _), (3, _)] dX4_boundSet_34 rfl (by decide) rfl ?_
            refine ks_iinc hκ 35 3 3 (nI (vj + 1)) [(3, _), (2, _), (0, _), (1, _)] dX4_boundSet_35 rfl (ks_inc1 _) (by decide) rfl ?_
            refine ks_goto hκ 38 4 dX4_boundSet_38 rfl ?_
            refine ks_pick [2, 3, 1, 0] [(0, _), (1, _), (2, _), (3, _)] rfl ?_
            exact ks_cv (ih (vj + 1) _  (by omega) (by simp only [List.foldl_cons] at hinv; first | (rw [kBSetS, if_pos c14] at hinv; exact hinv) | (rw [kBSetS, if_neg c14, if_pos c26] at hinv; exact hinv) | (rw [kBSetS, if_neg c14, if_neg c26] at hinv; exact hinv)) (by omega)) rfl rfl rfl
  refine ks_pick [2, 3, 1, 0] [(0, _), (1, _), (2, _), (3, _)] rfl ?_
  exact ks_cv (L4 _ 0 _  (Nat.zero_le _) rfl (Nat.lt_succ_self _)) rfl rfl rfl
set_option maxRecDepth 100000 in
set_option maxHeartbeats 4000000 in
theorem c_Stairs_boundPairs {g : ks_G} {h : ks_H} {b : Nat} {se : Nat → Int32} {tu : Int32} {ki : Nat} {ma re : Int32} {kf : Nat → Nat → Int32} {L : List (Nat × Nat)} {P : List kP} {xm : Int32} (hst : kStairs g h b (se, tu, ki, ma, re, kf, L, P)) : ks_Met g (yX4_boundPairs, cX4_boundPairs, 5, some .int) 1 0 0 [ks_ref g b, .int xm] h (ks_Pi (nI (kPairs (se, tu, ki, ma, re, kf, L, P) xm)) h) := by
  have hst0 := hst
  obtain ⟨h0, h1, h2, h3, h4, h5, h6, h7, h8, hyarn, hplans, hki⟩ := hst
  dsimp only at h0 h1 h2 h3 h4 h5 h6 h7 h8 hyarn hplans hki
  obtain ⟨E, O, hY, -⟩ := id hyarn
  refine ks_intro (by decide) (Nat.le_of_ble_eq_true rfl) (fun κ hκ hRt => ?_)
  refine ks_cv (ls := [(0, ks_ref g b), (1, .int xm)]) ?_ rfl rfl rfl
  refine ks_iconst hκ 0 (nI 0) dX4_boundPairs_0 kq_i0 ?_
  refine ks_istore_n hκ 1 2 [(2, _), (0, _), (1, _)] dX4_boundPairs_1 rfl (by decide) rfl ?_
  refine ks_iconst hκ 2 (nI 0) dX4_boundPairs_2 kq_i0 ?_
  refine ks_istore_n hκ 3 3 [(3, _), (2, _), (0, _), (1, _)] dX4_boundPairs_3 rfl (by decide) rfl ?_
  have L4 : ∀ (fuel : Nat) (vi va : Nat) (hvi : vi ≤ ki) (hinv : ((List.range ki).drop vi).foldl (kPairT ki L xm) va = kPairs (se, tu, ki, ma, re, kf, L, P) xm) (hfuel : ki - vi < fuel), ks_K κ g 5 h 0 0 4 [(0, ks_ref g b), (1, .int xm), (2, .int (nI va)), (3, .int (nI vi))] [] := by
    intro fuel
    induction fuel with
    | zero => intro vi va  hvi hinv hfuel; exact absurd hfuel (Nat.not_lt_zero _)
    | succ fuel ih =>
      intro vi va  hvi hinv hfuel
      refine ks_iload_n hκ 4 3 dX4_boundPairs_4 rfl ?_
      refine ks_aload_n hκ 5 0 dX4_boundPairs_5 rfl ?_
      refine ks_get hκ 6 dX4_boundPairs_6 kf_X4_19 h0 rfl ?_
      refine ks_icmp_ge hκ 9 56 dX4_boundPairs_9 rfl (fun c9 => ?_) (fun c9 => ?_)
      · skip
        have c9 := (nI_leI (by omega) (by omega)).mp c9
        refine ks_iload_n hκ 56 2 dX4_boundPairs_56 rfl ?_
        refine ks_iret hκ 57 hRt dX4_boundPairs_57 (by decide) (by decide) rfl ?_
        exact ⟨by rw [← hinv, kdropRN c9]; rfl, rfl⟩
      · skip
        have c9 := mt (nI_leI (by omega) (by omega)).mpr c9
        rw [kdropR (by omega), List.foldl_cons] at hinv
        refine ks_iload_n hκ 12 3 dX4_boundPairs_12 rfl ?_
        refine ks_iconst hκ 13 (nI 1) dX4_boundPairs_13 kq_i1 ?_
        refine ks_iaddN hκ 14 dX4_boundPairs_14 ?_
        refine ks_istore hκ 15 4 [(4, _), (0, _), (1, _), (2, _), (3, _)] dX4_boundPairs_15 (by decide) rfl ?_
        have L17 : ∀ (fuel2 : Nat) (vj vb : Nat) (hvj : vj ≤ ki) (hvij : vi < vj) (hin2 : ((List.range ki).drop vj).foldl (kPairS L xm vi) vb = kPairT ki L xm va vi) (hfuel2 : ki - vj < fuel2), ks_K κ g 5 h 0 0 17 [(0, ks_ref g b), (1, .int xm), (2, .int (nI vb)), (3, .int (nI vi)), (4, .int (nI vj))] [] := by
          intro fuel2
          induction fuel2 with
          | zero => intro vj vb  hvj hvij hin2 hfuel2; exact absurd hfuel2 (Nat.not_lt_zero _)
          | succ fuel2 ih2 =>
            intro vj vb  hvj hvij hin2 hfuel2
            refine ks_iload hκ 17 4 dX4_boundPairs_17 rfl ?_
            refine ks_aload_n hκ 19 0 dX4_boundPairs_19 rfl ?_
            refine ks_get hκ 20 dX4_boundPairs_20 kf_X4_19 h0 rfl ?_
            refine ks_icmp_ge hκ 23 50 dX4_boundPairs_23 rfl (fun c23 => ?_) (fun c23 => ?_)
            · skip
              have c23 := (nI_leI (by omega) (by omega)).mp c23
              refine ks_iinc hκ 50 3 3 (nI (vi + 1)) [(3, _), (0, _), (1, _), (2, _), (4, _)] dX4_boundPairs_50 rfl (ks_inc1 _) (by decide) rfl ?_
              refine ks_goto hκ 53 4 dX4_boundPairs_53 rfl ?_
              refine ks_pick [1, 2, 3, 0] [(0, _), (1, _), (2, _), (3, _)] rfl ?_
              exact ks_cv (ih (vi + 1) _  (by omega) (by rw [← hinv, ← hin2, kdropRN c23]; rfl) (by omega)) rfl rfl rfl
            · skip
              have c23 := mt (nI_leI (by omega) (by omega)).mpr c23
              rw [kdropR (by omega)] at hin2
              refine ks_aload_n hκ 26 0 dX4_boundPairs_26 rfl ?_
              refine ks_get hκ 27 dX4_boundPairs_27 kf_X4_52 h0 rfl ?_
              refine ks_iload_n hκ 30 3 dX4_boundPairs_30 rfl ?_
              refine ks_iload hκ 31 4 dX4_boundPairs_31 rfl ?_
              refine ks_pureV2 hκ 33 dX4_boundPairs_33 kc_X4_153 (c_Yarn_boundEdgeSet hyarn (by omega) (by omega)) hY rfl (by decide) (Nat.le_of_ble_eq_true rfl) (by decide) (by decide) ?_
              refine ks_iload_n hκ 36 1 dX4_boundPairs_36 rfl ?_
              refine ks_iand hκ 37 dX4_boundPairs_37 ?_
              refine ks_if_eq hκ 38 44 dX4_boundPairs_38 rfl (fun c38 => ?_) (fun c38 => ?_)
              · skip
                refine ks_iinc hκ 44 4 4 (nI (vj + 1)) [(4, _), (0, _), (1, _), (2, _), (3, _)] dX4_boundPairs_44 rfl (ks_inc1 _) (by decide) rfl ?_
                refine ks_goto hκ 47 17 dX4_boundPairs_47 rfl ?_
                refine ks_pick [1, 2, 3, 4, 0] [(0, _), (1, _), (2, _), (3, _), (4, _)] rfl ?_
                exact ks_cv (ih2 (vj + 1) _  (by omega) (by omega) (by simp only [List.foldl_cons] at hin2; first | (rw [kPairS, if_pos c38] at hin2; exact hin2) | (rw [kPairS, if_neg c38] at hin2; exact hin2)) (by omega)) rfl rfl rfl
              · skip
                refine ks_iinc hκ 41 2 2 (nI (vb + 1)) [(2, _), (0, _), (1, _), (3, _), (4, _)] dX4_boundPairs_41 rfl (ks_inc1 _) (by decide) rfl ?_
                refine ks_iinc hκ 44 4 4 (nI (vj + 1)) [(4, _), (2, _), (0, _), (1, _), (3, _)] dX4_boundPairs_44 rfl (ks_inc1 _) (by decide) rfl ?_
                refine ks_goto hκ 47 17 dX4_boundPairs_47 rfl ?_
                refine ks_pick [2, 3, 1, 4, 0] [(0, _), (1, _), (2, _), (3, _), (4, _)] rfl ?_
                exact ks_cv (ih2 (vj + 1) _  (by omega) (by omega) (by simp only [List.foldl_cons] at hin2; first | (rw [kPairS, if_pos c38] at hin2; exact hin2) | (rw [kPairS, if_neg c38] at hin2; exact hin2)) (by omega)) rfl rfl rfl
        refine ks_pick [1, 2, 3, 4, 0] [(0, _), (1, _), (2, _), (3, _), (4, _)] rfl ?_
        exact ks_cv (L17 _ (vi + 1) _  (by omega) (by omega) rfl (Nat.lt_succ_self _)) rfl rfl rfl
  refine ks_pick [2, 3, 1, 0] [(0, _), (1, _), (2, _), (3, _)] rfl ?_
  exact ks_cv (L4 _ 0 0  (Nat.zero_le _) rfl (Nat.lt_succ_self _)) rfl rfl rfl
set_option maxRecDepth 100000 in
set_option maxHeartbeats 4000000 in
theorem c_Stairs_reachSet {g : ks_G} {h : ks_H} {b : Nat} {se : Nat → Int32} {tu : Int32} {ki : Nat} {ma re : Int32} {kf : Nat → Nat → Int32} {L : List (Nat × Nat)} {P : List kP} {k s : Nat} (hst : kStairs g h b (se, tu, ki, ma, re, kf, L, P)) (hk : k < ki) (hs : s < 16) (hks : kf 0 k = nI s) : ks_Met g (yX4_reachSet, cX4_reachSet, 5, some .int) 3 0 0 [ks_ref g b, .int (nI k)] h (ks_Pi (kReach (se, tu, ki, ma, re, kf, L, P) k) h) := by
  have hst0 := hst
  obtain ⟨h0, h1, h2, h3, h4, h5, h6, h7, h8, hyarn, hplans, hki⟩ := hst
  dsimp only at h0 h1 h2 h3 h4 h5 h6 h7 h8 hyarn hplans hki
  refine ks_intro (by decide) (Nat.le_of_ble_eq_true rfl) (fun κ hκ hRt => ?_)
  refine ks_cv (ls := [(0, ks_ref g b), (1, .int (nI k))]) ?_ rfl rfl rfl
  refine ks_iconst hκ 0 (nI 0) dX4_reachSet_0 kq_i0 ?_
  refine ks_istore_n hκ 1 2 [(2, _), (0, _), (1, _)] dX4_reachSet_1 rfl (by decide) rfl ?_
  refine ks_iconst hκ 2 (nI 0) dX4_reachSet_2 kq_i0 ?_
  refine ks_istore_n hκ 3 3 [(3, _), (2, _), (0, _), (1, _)] dX4_reachSet_3 rfl (by decide) rfl ?_
  have L4 : ∀ (fuel : Nat) (vj : Nat) (xa : Int32) (hvj : vj ≤ 16) (hinv : ((List.range 16).drop vj).foldl (kReachS (se, tu, ki, ma, re, kf, L, P) k) xa = kReach (se, tu, ki, ma, re, kf, L, P) k) (hfuel : 16 - vj < fuel), ks_K κ g 5 h 0 0 4 [(0, ks_ref g b), (1, .int (nI k)), (2, .int xa), (3, .int (nI vj))] [] := by
    intro fuel
    induction fuel with
    | zero => intro vj xa  hvj hinv hfuel; exact absurd hfuel (Nat.not_lt_zero _)
    | succ fuel ih =>
      intro vj xa  hvj hinv hfuel
      refine ks_iload_n hκ 4 3 dX4_reachSet_4 rfl ?_
      refine ks_bipush hκ 5 (nI 16) dX4_reachSet_5 kq_b16 ?_
      refine ks_icmp_ge hκ 7 47 dX4_reachSet_7 rfl (fun c7 => ?_) (fun c7 => ?_)
      · skip
        have c7 := (nI_leI (by omega) (by omega)).mp c7
        refine ks_iload_n hκ 47 2 dX4_reachSet_47 rfl ?_
        refine ks_iret hκ 48 hRt dX4_reachSet_48 (by decide) (by decide) rfl ?_
        exact ⟨by rw [← hinv, kdropRN c7]; rfl, rfl⟩
      · skip
        have c7 := mt (nI_leI (by omega) (by omega)).mpr c7
        rw [kdropR (by omega)] at hinv
        refine ks_iload_n hκ 10 3 dX4_reachSet_10 rfl ?_
        refine ks_aload_n hκ 11 0 dX4_reachSet_11 rfl ?_
        refine ks_get hκ 12 dX4_reachSet_12 kf_X4_28 h0 rfl ?_
        refine ks_iload_n hκ 15 1 dX4_reachSet_15 rfl ?_
        refine ks_iald hκ 16 (k) dX4_reachSet_16 h2 rfl (by omega) (by decide) ?_
        refine ks_isub hκ 17 dX4_reachSet_17 ?_
        refine ks_istore hκ 18 4 [(4, _), (0, _), (1, _), (2, _), (3, _)] dX4_reachSet_18 (by decide) rfl ?_
        refine ks_iload hκ 20 0 dX4_reachSet_20 rfl ?_
        refine ks_if_eq hκ 22 41 dX4_reachSet_22 rfl (fun c22 => ?_) (fun c22 => ?_)
        · skip
          refine ks_iinc hκ 41 3 4 (nI (vj + 1)) [(3, _), (4, _), (0, _), (1, _), (2, _)] dX4_reachSet_41 rfl (ks_inc1 _) (by decide) rfl ?_
          refine ks_goto hκ 44 4 dX4_reachSet_44 rfl ?_
          refine ks_pick [2, 3, 4, 0] [(0, _), (1, _), (2, _), (3, _)] rfl ?_
          exact ks_cv (ih (vj + 1) _  (by omega) (by simp only [List.foldl_cons] at hinv; first | (rw [kReachS, if_pos c22] at hinv; exact hinv) | (rw [kReachS, if_neg c22, if_pos c32] at hinv; exact hinv) | (rw [kReachS, if_neg c22, if_neg c32] at hinv; exact hinv)) (by omega)) rfl rfl rfl
        · skip
          refine ks_aload_n hκ 25 1 dX4_reachSet_25 rfl ?_
          refine ks_iload_n hκ 26 2 dX4_reachSet_26 rfl ?_
          refine ks_iload hκ 27 0 dX4_reachSet_27 rfl ?_
          refine ks_pureV2 hκ 29 dX4_reachSet_29 kc_X4_92 (c_Stairs_refusal hst0 hk hs hks) h0 rfl (by decide) (Nat.le_of_ble_eq_true rfl) (by decide) (by decide) ?_
          refine ks_if_ne hκ 32 41 dX4_reachSet_32 rfl (fun c32 => ?_) (fun c32 => ?_)
          · skip
            refine ks_iinc hκ 41 3 4 (nI (vj + 1)) [(3, _), (4, _), (0, _), (1, _), (2, _)] dX4_reachSet_41 rfl (ks_inc1 _) (by decide) rfl ?_
            refine ks_goto hκ 44 4 dX4_reachSet_44 rfl ?_
            refine ks_pick [2, 3, 4, 0] [(0, _), (1, _), (2, _), (3, _)] rfl ?_
            exact ks_cv (ih (vj + 1) _  (by omega) (by simp only [List.foldl_cons] at hinv; first | (rw [kReachS, if_pos c22] at hinv; exact hinv) | (rw [kReachS, if_neg c22, if_pos c32] at hinv; exact hinv) | (rw [kReachS, if_neg c22, if_neg c32] at hinv; exact hinv)) (by omega)) rfl rfl rfl
          · skip
            refine ks_iload_n hκ 35 3 dX4_reachSet_35 rfl ?_
            refine ks_iconst hκ 36 (nI 1) dX4_reachSet_36 kq_i1 ?_
            refine ks_iload_n hκ 37 4 dX4_reachSet_37 rfl ?_
            refine ks_ishl hκ 38 dX4_reachSet_38 ?_
            refine ks_ior hκ 39 dX4_reachSet_39 ?_
            refine ks_istore_n hκ 40 2 [(2, _), (4, _), (0, _), (1, _), (3, _)] dX4_reachSet_40 rfl (by decide) rfl ?_
            refine ks_iinc hκ 41 3 4 (nI (vj + 1)) [(3, _), (2, _), (4, _), (0, _), (1, _)] dX4_reachSet_41 rfl (ks_inc1 _) (by decide) rfl ?_
            refine ks_goto hκ 44 4 dX4_reachSet_44 rfl ?_
            refine ks_pick [3, 4, 1, 0] [(0, _), (1, _), (2, _), (3, _)] rfl ?_
            exact ks_cv (ih (vj + 1) _  (by omega) (by simp only [List.foldl_cons] at hinv; first | (rw [kReachS, if_pos c22] at hinv; exact hinv) | (rw [kReachS, if_neg c22, if_pos c32] at hinv; exact hinv) | (rw [kReachS, if_neg c22, if_neg c32] at hinv; exact hinv)) (by omega)) rfl rfl rfl
  refine ks_pick [2, 3, 1, 0] [(0, _), (1, _), (2, _), (3, _)] rfl ?_
  exact ks_cv (L4 _ 0 _  (Nat.zero_le _) rfl (Nat.lt_succ_self _)) rfl rfl rfl
set_option maxRecDepth 100000 in
set_option maxHeartbeats 4000000 in
theorem c_Stairs_nappingSet {g : ks_G} {h : ks_H} {b : Nat} {se : Nat → Int32} {tu : Int32} {ki : Nat} {ma re : Int32} {kf : Nat → Nat → Int32} {L : List (Nat × Nat)} {P : List kP} (hst : kStairs g h b (se, tu, ki, ma, re, kf, L, P)) : ks_Met g (yX4_nappingSet, cX4_nappingSet, 3, some .int) 1 0 0 [ks_ref g b] h (ks_Pi (kNapSet (se, tu, ki, ma, re, kf, L, P)) h) := by
  have hst0 := hst
  obtain ⟨h0, h1, h2, h3, h4, h5, h6, h7, h8, hyarn, hplans, hki⟩ := hst
  dsimp only at h0 h1 h2 h3 h4 h5 h6 h7 h8 hyarn hplans hki
  refine ks_intro (by decide) (Nat.le_of_ble_eq_true rfl) (fun κ hκ hRt => ?_)
  refine ks_cv (ls := [(0, ks_ref g b)]) ?_ rfl rfl rfl
  refine ks_iconst hκ 0 (nI 0) dX4_nappingSet_0 kq_i0 ?_
  refine ks_istore_n hκ 1 1 [(1, _), (0, _)] dX4_nappingSet_1 rfl (by decide) rfl ?_
  refine ks_iconst hκ 2 (nI 0) dX4_nappingSet_2 kq_i0 ?_
  refine ks_istore_n hκ 3 2 [(2, _), (1, _), (0, _)] dX4_nappingSet_3 rfl (by decide) rfl ?_
  have L4 : ∀ (fuel : Nat) (vj : Nat) (xa : Int32) (hvj : vj ≤ ki) (hinv : ((List.range ki).drop vj).foldl (kNapS kf) xa = kNapSet (se, tu, ki, ma, re, kf, L, P)) (hfuel : ki - vj < fuel), ks_K κ g 3 h 0 0 4 [(0, ks_ref g b), (1, .int xa), (2, .int (nI vj))] [] := by
    intro fuel
    induction fuel with
    | zero => intro vj xa  hvj hinv hfuel; exact absurd hfuel (Nat.not_lt_zero _)
    | succ fuel ih =>
      intro vj xa  hvj hinv hfuel
      refine ks_iload_n hκ 4 2 dX4_nappingSet_4 rfl ?_
      refine ks_aload_n hκ 5 0 dX4_nappingSet_5 rfl ?_
      refine ks_get hκ 6 dX4_nappingSet_6 kf_X4_19 h0 rfl ?_
      refine ks_icmp_ge hκ 9 32 dX4_nappingSet_9 rfl (fun c9 => ?_) (fun c9 => ?_)
      · skip
        have c9 := (nI_leI (by omega) (by omega)).mp c9
        refine ks_iload_n hκ 32 1 dX4_nappingSet_32 rfl ?_
        refine ks_iret hκ 33 hRt dX4_nappingSet_33 (by decide) (by decide) rfl ?_
        exact ⟨by rw [← hinv, kdropRN c9]; rfl, rfl⟩
      · skip
        have c9 := mt (nI_leI (by omega) (by omega)).mpr c9
        rw [kdropR (by omega)] at hinv
        refine ks_aload_n hκ 12 0 dX4_nappingSet_12 rfl ?_
        refine ks_iload_n hκ 13 2 dX4_nappingSet_13 rfl ?_
        refine ks_pureV1 hκ 14 dX4_nappingSet_14 kc_X4_100 (c_Stairs_naps hst0 (by omega)) h0 rfl (by decide) (Nat.le_of_ble_eq_true rfl) (by decide) (by decide) ?_
        refine ks_if_eq hκ 17 26 dX4_nappingSet_17 rfl (fun c17 => ?_) (fun c17 => ?_)
        · skip
          refine ks_iinc hκ 26 2 2 (nI (vj + 1)) [(2, _), (0, _), (1, _)] dX4_nappingSet_26 rfl (ks_inc1 _) (by decide) rfl ?_
          refine ks_goto hκ 29 4 dX4_nappingSet_29 rfl ?_
          refine ks_pick [1, 2, 0] [(0, _), (1, _), (2, _)] rfl ?_
          exact ks_cv (ih (vj + 1) _  (by omega) (by simp only [List.foldl_cons] at hinv; first | (rw [kNapS, if_pos c17] at hinv; exact hinv) | (rw [kNapS, if_neg c17] at hinv; exact hinv)) (by omega)) rfl rfl rfl
        · skip
          refine ks_iload_n hκ 20 1 dX4_nappingSet_20 rfl ?_
          refine ks_iconst hκ 21 (nI 1) dX4_nappingSet_21 kq_i1 ?_
          refine ks_iload_n hκ 22 2 dX4_nappingSet_22 rfl ?_
          refine ks_ishl hκ 23 dX4_nappingSet_23 ?_
          refine ks_ior hκ 24 dX4_nappingSet_24 ?_
          refine ks_istore_n hκ 25 1 [(1, _), (0, _), (2, _)] dX4_nappingSet_25 rfl (by decide) rfl ?_
          refine ks_iinc hκ 26 2 2 (nI (vj + 1)) [(2, _), (1, _), (0, _)] dX4_nappingSet_26 rfl (ks_inc1 _) (by decide) rfl ?_
          refine ks_goto hκ 29 4 dX4_nappingSet_29 rfl ?_
          refine ks_pick [2, 1, 0] [(0, _), (1, _), (2, _)] rfl ?_
          exact ks_cv (ih (vj + 1) _  (by omega) (by simp only [List.foldl_cons] at hinv; first | (rw [kNapS, if_pos c17] at hinv; exact hinv) | (rw [kNapS, if_neg c17] at hinv; exact hinv)) (by omega)) rfl rfl rfl
  refine ks_pick [2, 1, 0] [(0, _), (1, _), (2, _)] rfl ?_
  exact ks_cv (L4 _ 0 _  (Nat.zero_le _) rfl (Nat.lt_succ_self _)) rfl rfl rfl
set_option maxRecDepth 100000 in
set_option maxHeartbeats 4000000 in
theorem c_Stairs_lastWaking {g : ks_G} {h : ks_H} {b : Nat} {se : Nat → Int32} {tu : Int32} {ki : Nat} {ma re : Int32} {kf : Nat → Nat → Int32} {L : List (Nat × Nat)} {P : List kP} (hst : kStairs g h b (se, tu, ki, ma, re, kf, L, P)) : ks_Met g (yX4_lastWaking, cX4_lastWaking, 3, some .int) 1 0 0 [ks_ref g b] h (ks_Pi (kWaking (se, tu, ki, ma, re, kf, L, P)) h) := by
  have hst0 := hst
  obtain ⟨h0, h1, h2, h3, h4, h5, h6, h7, h8, hyarn, hplans, hki⟩ := hst
  dsimp only at h0 h1 h2 h3 h4 h5 h6 h7 h8 hyarn hplans hki
  refine ks_intro (by decide) (Nat.le_of_ble_eq_true rfl) (fun κ hκ hRt => ?_)
  refine ks_cv (ls := [(0, ks_ref g b)]) ?_ rfl rfl rfl
  refine ks_bipush hκ 0 (-6) dX4_lastWaking_0 kq_bm6 ?_
  refine ks_istore_n hκ 2 1 [(1, _), (0, _)] dX4_lastWaking_2 rfl (by decide) rfl ?_
  refine ks_iconst hκ 3 (nI 0) dX4_lastWaking_3 kq_i0 ?_
  refine ks_istore_n hκ 4 2 [(2, _), (1, _), (0, _)] dX4_lastWaking_4 rfl (by decide) rfl ?_
  have L5 : ∀ (fuel : Nat) (vj : Nat) (xa : Int32) (hvj : vj ≤ ki) (hinv : ((List.range ki).drop vj).foldl (fun a j => kMaxI a (kf 2 j)) xa = kWaking (se, tu, ki, ma, re, kf, L, P)) (hfuel : ki - vj < fuel), ks_K κ g 3 h 0 0 5 [(0, ks_ref g b), (1, .int xa), (2, .int (nI vj))] [] := by
    intro fuel
    induction fuel with
    | zero => intro vj xa  hvj hinv hfuel; exact absurd hfuel (Nat.not_lt_zero _)
    | succ fuel ih =>
      intro vj xa  hvj hinv hfuel
      refine ks_iload_n hκ 5 2 dX4_lastWaking_5 rfl ?_
      refine ks_aload_n hκ 6 0 dX4_lastWaking_6 rfl ?_
      refine ks_get hκ 7 dX4_lastWaking_7 kf_X4_19 h0 rfl ?_
      refine ks_icmp_ge hκ 10 30 dX4_lastWaking_10 rfl (fun c10 => ?_) (fun c10 => ?_)
      · skip
        have c10 := (nI_leI (by omega) (by omega)).mp c10
        refine ks_iload_n hκ 30 1 dX4_lastWaking_30 rfl ?_
        refine ks_iret hκ 31 hRt dX4_lastWaking_31 (by decide) (by decide) rfl ?_
        exact ⟨by rw [← hinv, kdropRN c10]; rfl, rfl⟩
      · skip
        have c10 := mt (nI_leI (by omega) (by omega)).mpr c10
        rw [kdropR (by omega)] at hinv
        refine ks_iload_n hκ 13 1 dX4_lastWaking_13 rfl ?_
        refine ks_aload_n hκ 14 0 dX4_lastWaking_14 rfl ?_
        refine ks_get hκ 15 dX4_lastWaking_15 kf_X4_34 h0 rfl ?_
        refine ks_iload_n hκ 18 2 dX4_lastWaking_18 rfl ?_
        refine ks_iald hκ 19 (vj) dX4_lastWaking_19 h4 rfl (by omega) (by decide) ?_
        refine ks_max hκ 20 dX4_lastWaking_20 kj_X4_173 ku_maxs ku_mi ku_maxc (by decide) (by decide) (by decide) (Nat.le_of_ble_eq_true rfl) ?_
        refine ks_istore_n hκ 23 1 [(1, _), (0, _), (2, _)] dX4_lastWaking_23 rfl (by decide) rfl ?_
        refine ks_iinc hκ 24 2 2 (nI (vj + 1)) [(2, _), (1, _), (0, _)] dX4_lastWaking_24 rfl (ks_inc1 _) (by decide) rfl ?_
        refine ks_goto hκ 27 5 dX4_lastWaking_27 rfl ?_
        refine ks_pick [2, 1, 0] [(0, _), (1, _), (2, _)] rfl ?_
        exact ks_cv (ih (vj + 1) _  (by omega) (by simp only [List.foldl_cons] at hinv; exact hinv) (by omega)) rfl rfl rfl
  refine ks_pick [2, 1, 0] [(0, _), (1, _), (2, _)] rfl ?_
  exact ks_cv (L5 _ 0 _  (Nat.zero_le _) rfl (Nat.lt_succ_self _)) rfl rfl rfl
set_option maxRecDepth 100000 in
set_option maxHeartbeats 4000000 in
theorem c_Stairs_sumOfAll {g : ks_G} {h : ks_H} {b : Nat} {se : Nat → Int32} {tu : Int32} {ki : Nat} {ma re : Int32} {kf : Nat → Nat → Int32} {L : List (Nat × Nat)} {P : List kP} {va : Nat} {f : Nat → Int32} (hst : kStairs g h b (se, tu, ki, ma, re, kf, L, P)) (hA : h[va]? = some (ks_I g 6 f)) : ks_Met g (yX4_sumOfAll, cX4_sumOfAll, 4, some .int) 0 0 0 [ks_ref g b, ks_ref g va] h (ks_Pi (kSum ki f) h) := by
  have hst0 := hst
  obtain ⟨h0, h1, h2, h3, h4, h5, h6, h7, h8, hyarn, hplans, hki⟩ := hst
  dsimp only at h0 h1 h2 h3 h4 h5 h6 h7 h8 hyarn hplans hki
  refine ks_intro (by decide) (Nat.le_of_ble_eq_true rfl) (fun κ hκ hRt => ?_)
  refine ks_cv (ls := [(0, ks_ref g b), (1, ks_ref g va)]) ?_ rfl rfl rfl
  refine ks_iconst hκ 0 (nI 0) dX4_sumOfAll_0 kq_i0 ?_
  refine ks_istore_n hκ 1 2 [(2, _), (0, _), (1, _)] dX4_sumOfAll_1 rfl (by decide) rfl ?_
  refine ks_iconst hκ 2 (nI 0) dX4_sumOfAll_2 kq_i0 ?_
  refine ks_istore_n hκ 3 3 [(3, _), (2, _), (0, _), (1, _)] dX4_sumOfAll_3 rfl (by decide) rfl ?_
  have L4 : ∀ (fuel : Nat) (vj : Nat) (xa : Int32) (hvj : vj ≤ ki) (hinv : ((List.range ki).drop vj).foldl (fun a j => a + f j) xa = kSum ki f) (hfuel : ki - vj < fuel), ks_K κ g 4 h 0 0 4 [(0, ks_ref g b), (1, ks_ref g va), (2, .int xa), (3, .int (nI vj))] [] := by
    intro fuel
    induction fuel with
    | zero => intro vj xa  hvj hinv hfuel; exact absurd hfuel (Nat.not_lt_zero _)
    | succ fuel ih =>
      intro vj xa  hvj hinv hfuel
      refine ks_iload_n hκ 4 3 dX4_sumOfAll_4 rfl ?_
      refine ks_aload_n hκ 5 0 dX4_sumOfAll_5 rfl ?_
      refine ks_get hκ 6 dX4_sumOfAll_6 kf_X4_19 h0 rfl ?_
      refine ks_icmp_ge hκ 9 30 dX4_sumOfAll_9 rfl (fun c9 => ?_) (fun c9 => ?_)
      · skip
        have c9 := (nI_leI (by omega) (by omega)).mp c9
        refine ks_iload_n hκ 30 2 dX4_sumOfAll_30 rfl ?_
        refine ks_iret hκ 31 hRt dX4_sumOfAll_31 (by decide) (by decide) rfl ?_
        exact ⟨by rw [← hinv, kdropRN c9]; rfl, rfl⟩
      · skip
        have c9 := mt (nI_leI (by omega) (by omega)).mpr c9
        rw [kdropR (by omega)] at hinv
        refine ks_iload_n hκ 12 3 dX4_sumOfAll_12 rfl ?_
        refine ks_aload_n hκ 13 1 dX4_sumOfAll_13 rfl ?_
        refine ks_leni hκ 14 dX4_sumOfAll_14 hA ?_
        refine ks_icmp_ge hκ 15 30 dX4_sumOfAll_15 rfl (fun c15 => ?_) (fun c15 => ?_)
        · exfalso
          have c15 := (nI_leI (by omega) (by omega)).mp c15
          omega
        · skip
          have c15 := mt (nI_leI (by omega) (by omega)).mpr c15
          refine ks_iload_n hκ 18 2 dX4_sumOfAll_18 rfl ?_
          refine ks_aload_n hκ 19 1 dX4_sumOfAll_19 rfl ?_
          refine ks_iload_n hκ 20 3 dX4_sumOfAll_20 rfl ?_
          refine ks_iald hκ 21 (vj) dX4_sumOfAll_21 hA rfl (by omega) (by decide) ?_
          refine ks_iadd hκ 22 dX4_sumOfAll_22 ?_
          refine ks_istore_n hκ 23 2 [(2, _), (0, _), (1, _), (3, _)] dX4_sumOfAll_23 rfl (by decide) rfl ?_
          refine ks_iinc hκ 24 3 3 (nI (vj + 1)) [(3, _), (2, _), (0, _), (1, _)] dX4_sumOfAll_24 rfl (ks_inc1 _) (by decide) rfl ?_
          refine ks_goto hκ 27 4 dX4_sumOfAll_27 rfl ?_
          refine ks_pick [2, 3, 1, 0] [(0, _), (1, _), (2, _), (3, _)] rfl ?_
          exact ks_cv (ih (vj + 1) _  (by omega) (by simp only [List.foldl_cons] at hinv; exact hinv) (by omega)) rfl rfl rfl
  refine ks_pick [2, 3, 1, 0] [(0, _), (1, _), (2, _), (3, _)] rfl ?_
  exact ks_cv (L4 _ 0 _  (Nat.zero_le _) rfl (Nat.lt_succ_self _)) rfl rfl rfl
