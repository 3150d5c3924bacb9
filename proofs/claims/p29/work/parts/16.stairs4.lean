theorem kRun_0 {σ : kS} {m : Nat} : kRun 0 σ m = (m, σ) := by rw [kRun]
theorem kRun_nil {n : Nat} {se : Nat → Int32} {tu : Int32} {ki : Nat} {ma re : Int32} {kf : Nat → Nat → Int32} {L : List (Nat × Nat)} {m : Nat} : kRun n (se, tu, ki, ma, re, kf, L, []) m = (m, (se, tu, ki, ma, re, kf, L, [])) := by
  cases n <;> rw [kRun]
theorem kRun_ne {n : Nat} {se : Nat → Int32} {tu : Int32} {ki : Nat} {ma re : Int32} {kf : Nat → Nat → Int32} {L : List (Nat × Nat)} {p : kP} {P : List kP} {m : Nat} (h : ¬ p.1 = tu) : kRun n (se, tu, ki, ma, re, kf, L, p :: P) m = (m, (se, tu, ki, ma, re, kf, L, p :: P)) := by
  cases n
  · rw [kRun]
  · rw [kRun, if_neg h]
theorem kRun_go {n : Nat} {se : Nat → Int32} {tu : Int32} {ki : Nat} {ma re : Int32} {kf : Nat → Nat → Int32} {L : List (Nat × Nat)} {p : kP} {P : List kP} {m : Nat} (h : p.1 = tu) : kRun (n + 1) (se, tu, ki, ma, re, kf, L, p :: P) m = if kRef (se, tu, ki, ma, re, kf, L, P) p.2.1 p.2.2 = 0 then kRun n (kLeap (se, tu, ki, ma, re, kf, L, P) p.2.1 p.2.2) (m + 1) else kRun n (se, tu, ki, ma, re + nI 1, kf, L, P) m := by
  rw [kRun, if_pos h]
/-- a leap that is not refused ends on the stairs -/
theorem kRef_0 {σ : kS} {k s : Nat} {x : Int32} (h : kRef σ k x = 0) (hks : σ.2.2.2.2.2.1 0 k = nI s) (hs : s < 16) : ∃ t, t < 16 ∧ x = nI t - nI s := by
  unfold kRef at h
  by_cases h1 : ¬ kNaps σ.2.2.2.2.2.1 k = 0
  · rw [if_pos h1] at h; exact absurd h (by decide)
  · rw [if_neg h1] at h
    by_cases h2 : σ.2.2.2.2.2.1 0 k + x < 0
    · rw [if_pos h2] at h; exact absurd h (by decide)
    · rw [if_neg h2] at h
      by_cases h3 : nI 16 ≤ σ.2.2.2.2.2.1 0 k + x
      · rw [if_pos h3] at h; exact absurd h (by decide)
      · rcases pk_ix (σ.2.2.2.2.2.1 0 k + x) (n := 16) (by omega) with q | q | ⟨j, q1, q2⟩
        · exact absurd q h2
        · exact absurd q h3
        · exact ⟨j, q1, by rw [← q2, hks, Int32.add_comm, Int32.add_sub_cancel]⟩
theorem kOver_f0 {k : Nat} : ∀ (es : List Nat) (q : (Nat → Nat → Int32) × List (Nat × Nat)), (es.foldl (kOver k) q).1 0 = q.1 0
  | [], q => rfl
  | e :: es, q => by rw [List.foldl_cons, kOver_f0 es, kOver_0]
theorem kLeap_0 {σ : kS} {k s t : Nat} (hks : σ.2.2.2.2.2.1 0 k = nI s) : (kLeap σ k (nI t - nI s)).2.2.2.2.2.1 0 = upd (σ.2.2.2.2.2.1 0) k (nI t) := by
  unfold kLeap
  simp only
  rw [kPut_n (by decide), kPut_s, kOver_f0, hks, Int32.add_comm, Int32.sub_add_cancel]
theorem kLeap_steps {σ : kS} {k s t : Nat} (hst : kSteps σ.2.2.1 σ.2.2.2.2.2.1) (hks : σ.2.2.2.2.2.1 0 k = nI s) (ht : t < 16) : kSteps (kLeap σ k (nI t - nI s)).2.2.1 (kLeap σ k (nI t - nI s)).2.2.2.2.2.1 := by
  intro j hj
  rw [kLeap_0 hks]
  by_cases h : j = k
  · subst h; exact ⟨t, ht, pk_us⟩
  · rw [pk_un h]; exact hst j hj
theorem kWakeS_0 {tu vi : Int32} {kf : Nat → Nat → Int32} {j : Nat} : kWakeS tu vi kf j 0 = kf 0 := by
  unfold kWakeS
  split
  · rw [kPut_n (by decide), kPut_n (by decide)]
  · rfl
theorem kWakes_0 {tu vi : Int32} : ∀ (l : List Nat) (kf : Nat → Nat → Int32), l.foldl (kWakeS tu vi) kf 0 = kf 0
  | [], kf => rfl
  | j :: l, kf => by rw [List.foldl_cons, kWakes_0 l, kWakeS_0]
theorem kFreshS_0 {vi : Int32} {kf : Nat → Nat → Int32} {j : Nat} : kFreshS vi kf j 0 = kf 0 := by
  unfold kFreshS
  split
  · rfl
  · split
    · rfl
    · rw [kPut_n (by decide)]
theorem kFresh_0 {vi : Int32} : ∀ (l : List Nat) (kf : Nat → Nat → Int32), l.foldl (kFreshS vi) kf 0 = kf 0
  | [], kf => rfl
  | j :: l, kf => by rw [List.foldl_cons, kFresh_0 l, kFreshS_0]
/-- what every state of Stairs keeps: a turn that isn't NONE, steps on the stairs, plans of kittens that are here -/
def kOk (σ : kS) : Prop := σ.2.1 ≠ -6 ∧ kSteps σ.2.2.1 σ.2.2.2.2.2.1 ∧ ∀ p ∈ σ.2.2.2.2.2.2.2, p.2.1 < σ.2.2.1
def kPass : Nat → kS → Nat → Nat × kS
  | 0, σ, m => (m, σ)
  | n + 1, σ, m => kPass n (kTurn σ).2 (m + (kTurn σ).1)
def kPassT (σ : kS) (n : Int32) : Int32 × kS :=
  if n < nI 1 then (-2, σ) else if nI 99 < n then (-2, σ) else if nI 9999 < σ.2.1 + n then (-5, σ)
  else (nI (kPass n.toNatClampNeg σ 0).1, (kPass n.toNatClampNeg σ 0).2)
set_option maxRecDepth 100000 in
set_option maxHeartbeats 4000000 in
theorem c_Stairs_wakeKittens {g : ks_G} {h : ks_H} {b : Nat} {se : Nat → Int32} {tu : Int32} {ki : Nat} {ma re : Int32} {kf : Nat → Nat → Int32} {L : List (Nat × Nat)} {P : List kP} (hst : kStairs g h b (se, tu, ki, ma, re, kf, L, P)) : ks_Met g (yX4_wakeKittens, cX4_wakeKittens, 2, none) 0 0 0 [ks_ref g b] h (ks_Pv (fun h' => kStairs g h' b (se, tu, ki, ma, re, kWakes ki tu (se 3) kf, L, P) ∧ ks_Fr h h' b (b + 16))) := by
  have hst0 := hst
  obtain ⟨h0, h1, h2, h3, h4, h5, h6, h7, h8, hyarn, hplans, hki⟩ := hst
  dsimp only at h0 h1 h2 h3 h4 h5 h6 h7 h8 hyarn hplans hki
  refine ks_intro (by decide) (Nat.le_of_ble_eq_true rfl) (fun κ hκ hRt => ?_)
  refine ks_cv (ls := [(0, ks_ref g b)]) ?_ rfl rfl rfl
  have hF : ks_Fr h h b (b + 16) := ks_Fr.rf
  refine ks_iconst hκ 0 (nI 0) dX4_wakeKittens_0 kq_i0 ?_
  refine ks_istore_n hκ 1 1 [(1, _), (0, _)] dX4_wakeKittens_1 rfl (by decide) rfl ?_
  have L2 : ∀ (fuel : Nat) (vj : Nat) (kf1 : Nat → Nat → Int32) (hh : ks_H) (hst : kStairs g hh b (se, tu, ki, ma, re, kf1, L, P)) (hF : ks_Fr h hh b (b + 16)) (hvj : vj ≤ ki) (hinv : ((List.range ki).drop vj).foldl (kWakeS tu (se 3)) kf1 = kWakes ki tu (se 3) kf) (hfuel : ki - vj < fuel), ks_K κ g 2 hh 0 0 2 [(0, ks_ref g b), (1, .int (nI vj))] [] := by
    intro fuel
    induction fuel with
    | zero => intro vj kf1 hh hst hF hvj hinv hfuel; exact absurd hfuel (Nat.not_lt_zero _)
    | succ fuel ih =>
      intro vj kf1 hh hst hF hvj hinv hfuel
      have hst0 := hst
      obtain ⟨h0, h1, h2, h3, h4, h5, h6, h7, h8, hyarn, hplans, hki⟩ := hst
      dsimp only at h0 h1 h2 h3 h4 h5 h6 h7 h8 hyarn hplans hki
      refine ks_iload_n hκ 2 1 dX4_wakeKittens_2 rfl ?_
      refine ks_aload_n hκ 3 0 dX4_wakeKittens_3 rfl ?_
      refine ks_get hκ 4 dX4_wakeKittens_4 kf_X4_19 h0 rfl ?_
      refine ks_icmp_ge hκ 7 49 dX4_wakeKittens_7 rfl (fun c7 => ?_) (fun c7 => ?_)
      · skip
        have c7 := (nI_leI (by omega) (by omega)).mp c7
        refine ks_vret hκ 49 hRt dX4_wakeKittens_49 (by decide) (by decide) ?_
        rw [kdropRN c7] at hinv
        have hq : kf1 = kWakes ki tu (se 3) kf := hinv
        subst hq
        exact ⟨rfl, hst0, hF⟩
      · skip
        have c7 := mt (nI_leI (by omega) (by omega)).mpr c7
        rw [kdropR (by omega), List.foldl_cons] at hinv
        refine ks_aload_n hκ 10 0 dX4_wakeKittens_10 rfl ?_
        refine ks_get hκ 11 dX4_wakeKittens_11 kf_X4_34 h0 rfl ?_
        refine ks_iload_n hκ 14 1 dX4_wakeKittens_14 rfl ?_
        refine ks_iald hκ 15 (vj) dX4_wakeKittens_15 h4 rfl (by omega) (by decide) ?_
        refine ks_aload_n hκ 16 0 dX4_wakeKittens_16 rfl ?_
        refine ks_get hκ 17 dX4_wakeKittens_17 kf_X4_15 h0 rfl ?_
        refine ks_icmp_ne hκ 20 43 dX4_wakeKittens_20 rfl (fun c20 => ?_) (fun c20 => ?_)
        · skip
          refine ks_iinc hκ 43 1 1 (nI (vj + 1)) [(1, _), (0, _)] dX4_wakeKittens_43 rfl (ks_inc1 _) (by decide) rfl ?_
          refine ks_goto hκ 46 2 dX4_wakeKittens_46 rfl ?_
          refine ks_pick [1, 0] [(0, _), (1, _)] rfl ?_
          exact ks_cv (ih (vj + 1) kf1 hh hst0 hF (by omega) (by rw [← hinv, kWakeS, if_neg c20]) (by omega)) rfl rfl rfl
        · skip
          refine ks_aload_n hκ 23 0 dX4_wakeKittens_23 rfl ?_
          refine ks_get hκ 24 dX4_wakeKittens_24 kf_X4_34 h0 rfl ?_
          refine ks_iload_n hκ 27 1 dX4_wakeKittens_27 rfl ?_
          refine ks_bipush hκ 28 (-6) dX4_wakeKittens_28 kq_bm6 ?_
          refine ks_iast hκ 30 (vj) dX4_wakeKittens_30 h4 rfl (by omega) (by decide) ?_
          refine ks_gen (fun xh1 exh1 => ?_)
          replace h0 := ks_gn exh1 (ks_nb (b := b) (i := 4) (j := 0) rfl) h0
          replace h1 := ks_gn exh1 (ks_nb (b := b) (i := 4) (j := 1) rfl) h1
          replace h2 := ks_gn exh1 (ks_nb (b := b) (i := 4) (j := 2) rfl) h2
          replace h3 := ks_gn exh1 (ks_nb (b := b) (i := 4) (j := 3) rfl) h3
          replace h4 := ks_gs exh1 h4
          replace h5 := ks_gn exh1 (ks_nb (b := b) (i := 4) (j := 5) rfl) h5
          replace h6 := ks_gn exh1 (ks_nb (b := b) (i := 4) (j := 6) rfl) h6
          replace h7 := ks_gn exh1 (ks_nb (b := b) (i := 4) (j := 7) rfl) h7
          replace h8 := ks_gn exh1 (ks_nb (b := b) (i := 4) (j := 8) rfl) h8
          replace hyarn := hyarn.fr (ks_Fr.one exh1) (by omega)
          replace hplans := hplans.fr (ks_Fr.one exh1) (by omega)
          replace hF := ks_Fr.st hF exh1 (by omega) (by omega)
          clear exh1
          refine ks_aload_n hκ 31 0 dX4_wakeKittens_31 rfl ?_
          refine ks_get hκ 32 dX4_wakeKittens_32 kf_X4_31 h0 rfl ?_
          refine ks_iload_n hκ 35 1 dX4_wakeKittens_35 rfl ?_
          refine ks_aload_n hκ 36 0 dX4_wakeKittens_36 rfl ?_
          refine ks_get hκ 37 dX4_wakeKittens_37 kf_X4_9 h0 rfl ?_
          refine ks_iconst hκ 40 (nI 3) dX4_wakeKittens_40 kq_i3 ?_
          refine ks_iald hκ 41 (3) dX4_wakeKittens_41 h1 rfl (by omega) (by decide) ?_
          refine ks_iast hκ 42 (vj) dX4_wakeKittens_42 h3 rfl (by omega) (by decide) ?_
          refine ks_gen (fun xh2 exh2 => ?_)
          replace h0 := ks_gn exh2 (ks_nb (b := b) (i := 3) (j := 0) rfl) h0
          replace h1 := ks_gn exh2 (ks_nb (b := b) (i := 3) (j := 1) rfl) h1
          replace h2 := ks_gn exh2 (ks_nb (b := b) (i := 3) (j := 2) rfl) h2
          replace h3 := ks_gs exh2 h3
          replace h4 := ks_gn exh2 (ks_nb (b := b) (i := 3) (j := 4) rfl) h4
          replace h5 := ks_gn exh2 (ks_nb (b := b) (i := 3) (j := 5) rfl) h5
          replace h6 := ks_gn exh2 (ks_nb (b := b) (i := 3) (j := 6) rfl) h6
          replace h7 := ks_gn exh2 (ks_nb (b := b) (i := 3) (j := 7) rfl) h7
          replace h8 := ks_gn exh2 (ks_nb (b := b) (i := 3) (j := 8) rfl) h8
          replace hyarn := hyarn.fr (ks_Fr.one exh2) (by omega)
          replace hplans := hplans.fr (ks_Fr.one exh2) (by omega)
          replace hF := ks_Fr.st hF exh2 (by omega) (by omega)
          clear exh2
          refine ks_iinc hκ 43 1 1 (nI (vj + 1)) [(1, _), (0, _)] dX4_wakeKittens_43 rfl (ks_inc1 _) (by decide) rfl ?_
          refine ks_goto hκ 46 2 dX4_wakeKittens_46 rfl ?_
          refine ks_pick [1, 0] [(0, _), (1, _)] rfl ?_
          exact ks_cv (ih (vj + 1) (kPut (kPut kf1 2 vj (-6)) 1 vj (se 3)) xh2 ⟨h0, h1, h2, h3, h4, h5, h6, h7, h8, hyarn, hplans, hki⟩ hF (by omega) (by rw [← hinv, kWakeS, if_pos c20]) (by omega)) rfl rfl rfl
  refine ks_pick [1, 0] [(0, _), (1, _)] rfl ?_
  exact ks_cv (L2 _ 0 _ h hst0 hF (Nat.zero_le _) rfl (Nat.lt_succ_self _)) rfl rfl rfl
set_option maxRecDepth 100000 in
set_option maxHeartbeats 4000000 in
theorem c_Stairs_refreshKittens {g : ks_G} {h : ks_H} {b : Nat} {se : Nat → Int32} {tu : Int32} {ki : Nat} {ma re : Int32} {kf : Nat → Nat → Int32} {L : List (Nat × Nat)} {P : List kP} (hst : kStairs g h b (se, tu, ki, ma, re, kf, L, P)) : ks_Met g (yX4_refreshKittens, cX4_refreshKittens, 2, none) 1 0 0 [ks_ref g b] h (ks_Pv (fun h' => kStairs g h' b (se, tu, ki, ma, re, kFresh ki (se 3) kf, L, P) ∧ ks_Fr h h' b (b + 16))) := by
  have hst0 := hst
  obtain ⟨h0, h1, h2, h3, h4, h5, h6, h7, h8, hyarn, hplans, hki⟩ := hst
  dsimp only at h0 h1 h2 h3 h4 h5 h6 h7 h8 hyarn hplans hki
  refine ks_intro (by decide) (Nat.le_of_ble_eq_true rfl) (fun κ hκ hRt => ?_)
  refine ks_cv (ls := [(0, ks_ref g b)]) ?_ rfl rfl rfl
  have hF : ks_Fr h h b (b + 16) := ks_Fr.rf
  refine ks_iconst hκ 0 (nI 0) dX4_refreshKittens_0 kq_i0 ?_
  refine ks_istore_n hκ 1 1 [(1, _), (0, _)] dX4_refreshKittens_1 rfl (by decide) rfl ?_
  have L2 : ∀ (fuel : Nat) (vj : Nat) (kf1 : Nat → Nat → Int32) (hh : ks_H) (hst : kStairs g hh b (se, tu, ki, ma, re, kf1, L, P)) (hF : ks_Fr h hh b (b + 16)) (hvj : vj ≤ ki) (hinv : ((List.range ki).drop vj).foldl (kFreshS (se 3)) kf1 = kFresh ki (se 3) kf) (hfuel : ki - vj < fuel), ks_K κ g 2 hh 0 0 2 [(0, ks_ref g b), (1, .int (nI vj))] [] := by
    intro fuel
    induction fuel with
    | zero => intro vj kf1 hh hst hF hvj hinv hfuel; exact absurd hfuel (Nat.not_lt_zero _)
    | succ fuel ih =>
      intro vj kf1 hh hst hF hvj hinv hfuel
      have hst0 := hst
      obtain ⟨h0, h1, h2, h3, h4, h5, h6, h7, h8, hyarn, hplans, hki⟩ := hst
      dsimp only at h0 h1 h2 h3 h4 h5 h6 h7 h8 hyarn hplans hki
      refine ks_iload_n hκ 2 1 dX4_refreshKittens_2 rfl ?_
      refine ks_aload_n hκ 3 0 dX4_refreshKittens_3 rfl ?_
      refine ks_get hκ 4 dX4_refreshKittens_4 kf_X4_19 h0 rfl ?_
      refine ks_icmp_ge hκ 7 49 dX4_refreshKittens_7 rfl (fun c7 => ?_) (fun c7 => ?_)
      · skip
        have c7 := (nI_leI (by omega) (by omega)).mp c7
        refine ks_vret hκ 49 hRt dX4_refreshKittens_49 (by decide) (by decide) ?_
        rw [kdropRN c7] at hinv
        have hq : kf1 = kFresh ki (se 3) kf := hinv
        subst hq
        exact ⟨rfl, hst0, hF⟩
      · skip
        have c7 := mt (nI_leI (by omega) (by omega)).mpr c7
        rw [kdropR (by omega), List.foldl_cons] at hinv
        refine ks_aload_n hκ 10 0 dX4_refreshKittens_10 rfl ?_
        refine ks_iload_n hκ 11 1 dX4_refreshKittens_11 rfl ?_
        refine ks_pureV1 hκ 12 dX4_refreshKittens_12 kc_X4_100 (c_Stairs_naps hst0 (by omega)) h0 rfl (by decide) (Nat.le_of_ble_eq_true rfl) (by decide) (by decide) ?_
        refine ks_if_ne hκ 15 43 dX4_refreshKittens_15 rfl (fun c15 => ?_) (fun c15 => ?_)
        · skip
          refine ks_iinc hκ 43 1 1 (nI (vj + 1)) [(1, _), (0, _)] dX4_refreshKittens_43 rfl (ks_inc1 _) (by decide) rfl ?_
          refine ks_goto hκ 46 2 dX4_refreshKittens_46 rfl ?_
          refine ks_pick [1, 0] [(0, _), (1, _)] rfl ?_
          exact ks_cv (ih (vj + 1) kf1 hh hst0 hF (by omega) (by rw [← hinv, kFreshS]; first | rw [if_pos c15] | rw [if_neg (fun q => q c15), if_pos c30]) (by omega)) rfl rfl rfl
        · skip
          refine ks_aload_n hκ 18 0 dX4_refreshKittens_18 rfl ?_
          refine ks_get hκ 19 dX4_refreshKittens_19 kf_X4_31 h0 rfl ?_
          refine ks_iload_n hκ 22 1 dX4_refreshKittens_22 rfl ?_
          refine ks_iald hκ 23 (vj) dX4_refreshKittens_23 h3 rfl (by omega) (by decide) ?_
          refine ks_aload_n hκ 24 0 dX4_refreshKittens_24 rfl ?_
          refine ks_get hκ 25 dX4_refreshKittens_25 kf_X4_9 h0 rfl ?_
          refine ks_iconst hκ 28 (nI 3) dX4_refreshKittens_28 kq_i3 ?_
          refine ks_iald hκ 29 (3) dX4_refreshKittens_29 h1 rfl (by omega) (by decide) ?_
          refine ks_icmp_ge hκ 30 43 dX4_refreshKittens_30 rfl (fun c30 => ?_) (fun c30 => ?_)
          · skip
            refine ks_iinc hκ 43 1 1 (nI (vj + 1)) [(1, _), (0, _)] dX4_refreshKittens_43 rfl (ks_inc1 _) (by decide) rfl ?_
            refine ks_goto hκ 46 2 dX4_refreshKittens_46 rfl ?_
            refine ks_pick [1, 0] [(0, _), (1, _)] rfl ?_
            exact ks_cv (ih (vj + 1) kf1 hh hst0 hF (by omega) (by rw [← hinv, kFreshS]; first | rw [if_pos c15] | rw [if_neg (fun q => q c15), if_pos c30]) (by omega)) rfl rfl rfl
          · skip
            refine ks_aload_n hκ 33 0 dX4_refreshKittens_33 rfl ?_
            refine ks_get hκ 34 dX4_refreshKittens_34 kf_X4_31 h0 rfl ?_
            refine ks_iload_n hκ 37 1 dX4_refreshKittens_37 rfl ?_
            refine ks_dup2 hκ 38 dX4_refreshKittens_38 rfl rfl ?_
            refine ks_iald hκ 39 (vj) dX4_refreshKittens_39 h3 rfl (by omega) (by decide) ?_
            refine ks_iconst hκ 40 (nI 1) dX4_refreshKittens_40 kq_i1 ?_
            refine ks_iadd hκ 41 dX4_refreshKittens_41 ?_
            refine ks_iast hκ 42 (vj) dX4_refreshKittens_42 h3 rfl (by omega) (by decide) ?_
            refine ks_gen (fun xh1 exh1 => ?_)
            replace h0 := ks_gn exh1 (ks_nb (b := b) (i := 3) (j := 0) rfl) h0
            replace h1 := ks_gn exh1 (ks_nb (b := b) (i := 3) (j := 1) rfl) h1
            replace h2 := ks_gn exh1 (ks_nb (b := b) (i := 3) (j := 2) rfl) h2
            replace h3 := ks_gs exh1 h3
            replace h4 := ks_gn exh1 (ks_nb (b := b) (i := 3) (j := 4) rfl) h4
            replace h5 := ks_gn exh1 (ks_nb (b := b) (i := 3) (j := 5) rfl) h5
            replace h6 := ks_gn exh1 (ks_nb (b := b) (i := 3) (j := 6) rfl) h6
            replace h7 := ks_gn exh1 (ks_nb (b := b) (i := 3) (j := 7) rfl) h7
            replace h8 := ks_gn exh1 (ks_nb (b := b) (i := 3) (j := 8) rfl) h8
            replace hyarn := hyarn.fr (ks_Fr.one exh1) (by omega)
            replace hplans := hplans.fr (ks_Fr.one exh1) (by omega)
            replace hF := ks_Fr.st hF exh1 (by omega) (by omega)
            clear exh1
            refine ks_iinc hκ 43 1 1 (nI (vj + 1)) [(1, _), (0, _)] dX4_refreshKittens_43 rfl (ks_inc1 _) (by decide) rfl ?_
            refine ks_goto hκ 46 2 dX4_refreshKittens_46 rfl ?_
            refine ks_pick [1, 0] [(0, _), (1, _)] rfl ?_
            exact ks_cv (ih (vj + 1) (kPut kf1 1 vj (kf1 1 vj + nI 1)) xh1 ⟨h0, h1, h2, h3, h4, h5, h6, h7, h8, hyarn, hplans, hki⟩ hF (by omega) (by rw [← hinv, kFreshS, if_neg (fun q => q c15), if_neg (Int32.not_le.mpr (Int32.not_le.mp c30))]) (by omega)) rfl rfl rfl
  refine ks_pick [1, 0] [(0, _), (1, _)] rfl ?_
  exact ks_cv (L2 _ 0 _ h hst0 hF (Nat.zero_le _) rfl (Nat.lt_succ_self _)) rfl rfl rfl
set_option maxRecDepth 100000 in
set_option maxHeartbeats 4000000 in
theorem c_Stairs_passOneTurn {g : ks_G} {h : ks_H} {b : Nat} {se : Nat → Int32} {tu : Int32} {ki : Nat} {ma re : Int32} {kf : Nat → Nat → Int32} {L : List (Nat × Nat)} {P : List kP} (hst : kStairs g h b (se, tu, ki, ma, re, kf, L, P)) (hok : kOk (se, tu, ki, ma, re, kf, L, P)) (htu : tu + nI 1 ≠ -6) : ks_Met g (yX4_passOneTurn, cX4_passOneTurn, 5, some .int) 3 0 0 [ks_ref g b] h (ks_Ph (fun r h' => r = nI (kTurn (se, tu, ki, ma, re, kf, L, P)).1 ∧ kStairs g h' b (kTurn (se, tu, ki, ma, re, kf, L, P)).2 ∧ ks_Fr h h' b (b + 16))) := by
  have hst0 := hst
  obtain ⟨h0, h1, h2, h3, h4, h5, h6, h7, h8, hyarn, hplans, hki⟩ := hst
  dsimp only at h0 h1 h2 h3 h4 h5 h6 h7 h8 hyarn hplans hki
  obtain ⟨-, hsteps, hpk⟩ := hok
  dsimp only at hsteps hpk
  refine ks_intro (by decide) (Nat.le_of_ble_eq_true rfl) (fun κ hκ hRt => ?_)
  refine ks_cv (ls := [(0, ks_ref g b)]) ?_ rfl rfl rfl
  have hF : ks_Fr h h b (b + 16) := ks_Fr.rf
  refine ks_aload_n hκ 0 0 dX4_passOneTurn_0 rfl ?_
  refine ks_dup hκ 1 dX4_passOneTurn_1 rfl ?_
  refine ks_get hκ 2 dX4_passOneTurn_2 kf_X4_15 h0 rfl ?_
  refine ks_iconst hκ 5 (nI 1) dX4_passOneTurn_5 kq_i1 ?_
  refine ks_iadd hκ 6 dX4_passOneTurn_6 ?_
  refine ks_putS hκ 7 [_, _, _, _, _, _, _, _, _, _, _, _, _, _] dX4_passOneTurn_7 kf_X4_15 h0 rfl rfl (Nat.le_of_ble_eq_true rfl) rfl ?_
  refine ks_gen (fun xh1 exh1 => ?_)
  replace h0 := ks_gs exh1 h0
  replace h1 := ks_gn exh1 (ks_nb (b := b) (i := 0) (j := 1) rfl) h1
  replace h2 := ks_gn exh1 (ks_nb (b := b) (i := 0) (j := 2) rfl) h2
  replace h3 := ks_gn exh1 (ks_nb (b := b) (i := 0) (j := 3) rfl) h3
  replace h4 := ks_gn exh1 (ks_nb (b := b) (i := 0) (j := 4) rfl) h4
  replace h5 := ks_gn exh1 (ks_nb (b := b) (i := 0) (j := 5) rfl) h5
  replace h6 := ks_gn exh1 (ks_nb (b := b) (i := 0) (j := 6) rfl) h6
  replace h7 := ks_gn exh1 (ks_nb (b := b) (i := 0) (j := 7) rfl) h7
  replace h8 := ks_gn exh1 (ks_nb (b := b) (i := 0) (j := 8) rfl) h8
  replace hyarn := hyarn.fr (ks_Fr.one exh1) (by omega)
  replace hplans := hplans.fr (ks_Fr.one exh1) (by omega)
  replace hF := ks_Fr.st hF exh1 (by omega) (by omega)
  clear exh1
  refine ks_aload_n hκ 10 0 dX4_passOneTurn_10 rfl ?_
  refine ks_voidV0 hκ 11 dX4_passOneTurn_11 kc_X4_120 (c_Stairs_wakeKittens (se := se) (tu := tu + nI 1) (ki := ki) (ma := ma) (re := re) (kf := kf) (L := L) (P := P) ⟨h0, h1, h2, h3, h4, h5, h6, h7, h8, hyarn, hplans, hki⟩) h0 rfl (by decide) (Nat.le_of_ble_eq_true rfl) (by decide) (by decide) (fun xh2 hp11 => ?_)
  obtain ⟨hst, hF9⟩ := hp11
  have hF := hF.tr hF9
  refine ks_iconst hκ 14 (nI 0) dX4_passOneTurn_14 kq_i0 ?_
  refine ks_istore_n hκ 15 1 [(1, _), (0, _)] dX4_passOneTurn_15 rfl (by decide) rfl ?_
  refine ks_iconst hκ 16 (nI 0) dX4_passOneTurn_16 kq_i0 ?_
  refine ks_istore_n hκ 17 2 [(2, _), (1, _), (0, _)] dX4_passOneTurn_17 rfl (by decide) rfl ?_
  have L18 : ∀ (fuel : Nat) (vn vi vm : Nat) (ma1 re1 : Int32) (kf1 : Nat → Nat → Int32) (L1 : List (Nat × Nat)) (P1 : List kP) (hh : ks_H) (hst : kStairs g hh b (se, tu + nI 1, ki, ma1, re1, kf1, L1, P1)) (hF : ks_Fr h hh b (b + 16)) (hni : vn + vi = 16) (hst1 : kSteps ki kf1) (hpk1 : ∀ p ∈ P1, p.2.1 < ki) (hinv : kRun vn (se, tu + nI 1, ki, ma1, re1, kf1, L1, P1) vm = kRun 16 (se, tu + nI 1, ki, ma, re, kWakes ki (tu + nI 1) (se 3) kf, L, P) 0) (hfuel : vn < fuel), ks_K κ g 5 hh 0 0 18 [(0, ks_ref g b), (1, .int (nI vm)), (2, .int (nI vi))] [] := by
    intro fuel
    induction fuel with
    | zero => intro vn vi vm ma1 re1 kf1 L1 P1 hh hst hF hni hst1 hpk1 hinv hfuel; exact absurd hfuel (Nat.not_lt_zero _)
    | succ fuel ih =>
      intro vn vi vm ma1 re1 kf1 L1 P1 hh hst hF hni hst1 hpk1 hinv hfuel
      have hst0 := hst
      obtain ⟨h0, h1, h2, h3, h4, h5, h6, h7, h8, hyarn, hplans, hki⟩ := hst
      dsimp only at h0 h1 h2 h3 h4 h5 h6 h7 h8 hyarn hplans hki
      obtain ⟨PT, PK, PB, hQ, hQT, hQK, hQB, hPE, hPn, hPb⟩ := id hplans
      refine ks_iload_n hκ 18 2 dX4_passOneTurn_18 rfl ?_
      refine ks_bipush hκ 19 (nI 16) dX4_passOneTurn_19 kq_b16 ?_
      refine ks_icmp_ge hκ 21 105 dX4_passOneTurn_21 rfl (fun c21 => ?_) (fun c21 => ?_)
      · skip
        have c21 := (nI_leI (by omega) (by omega)).mp c21
        have hvn : vn = 0 := by omega
        refine ks_aload_n hκ 105 0 dX4_passOneTurn_105 rfl ?_
        refine ks_voidV0 hκ 106 dX4_passOneTurn_106 kc_X4_134 (c_Stairs_refreshKittens hst0) h0 rfl (by decide) (Nat.le_of_ble_eq_true rfl) (by decide) (by decide) (fun xh3 hp106 => ?_)
        obtain ⟨hst, hF9⟩ := hp106
        have hF := hF.tr hF9
        refine ks_iload_n hκ 109 1 dX4_passOneTurn_109 rfl ?_
        refine ks_iret hκ 110 hRt dX4_passOneTurn_110 (by decide) (by decide) rfl ?_
        have hfin : kRun 16 (se, tu + nI 1, ki, ma, re, kWakes ki (tu + nI 1) (se 3) kf, L, P) 0 = (vm, (se, tu + nI 1, ki, ma1, re1, kf1, L1, P1)) := by
          rw [← hinv]
          first | exact hend | (subst hvn; exact kRun_0)
        refine ⟨_, rfl, ?_, ?_, hF⟩
        · unfold kTurn
          simp only [hfin]
        · unfold kTurn
          simp only [hfin]
          exact hst
      · skip
        have c21 := mt (nI_leI (by omega) (by omega)).mpr c21
        obtain ⟨vn1, rfl⟩ : ∃ vn1, vn = vn1 + 1 := ⟨vn - 1, by omega⟩
        refine ks_aload_n hκ 24 0 dX4_passOneTurn_24 rfl ?_
        refine ks_get hκ 25 dX4_passOneTurn_25 kf_X4_59 h0 rfl ?_
        refine ks_pureV0 hκ 28 dX4_passOneTurn_28 kc_X4_123 (c_Plans_firstTurn hplans) hQ rfl (by decide) (Nat.le_of_ble_eq_true rfl) (by decide) (by decide) ?_
        refine ks_aload_n hκ 31 0 dX4_passOneTurn_31 rfl ?_
        refine ks_get hκ 32 dX4_passOneTurn_32 kf_X4_15 h0 rfl ?_
        refine ks_icmp_ne hκ 35 105 dX4_passOneTurn_35 rfl (fun c35 => ?_) (fun c35 => ?_)
        · skip
          have hend : kRun (vn1 + 1) (se, tu + nI 1, ki, ma1, re1, kf1, L1, P1) vm = (vm, (se, tu + nI 1, ki, ma1, re1, kf1, L1, P1)) := by
            cases P1 with
            | nil => exact kRun_nil
            | cons p P2 => exact kRun_ne c35
          refine ks_aload_n hκ 105 0 dX4_passOneTurn_105 rfl ?_
          refine ks_voidV0 hκ 106 dX4_passOneTurn_106 kc_X4_134 (c_Stairs_refreshKittens hst0) h0 rfl (by decide) (Nat.le_of_ble_eq_true rfl) (by decide) (by decide) (fun xh4 hp106 => ?_)
          obtain ⟨hst, hF9⟩ := hp106
          have hF := hF.tr hF9
          refine ks_iload_n hκ 109 1 dX4_passOneTurn_109 rfl ?_
          refine ks_iret hκ 110 hRt dX4_passOneTurn_110 (by decide) (by decide) rfl ?_
          have hfin : kRun 16 (se, tu + nI 1, ki, ma, re, kWakes ki (tu + nI 1) (se 3) kf, L, P) 0 = (vm, (se, tu + nI 1, ki, ma1, re1, kf1, L1, P1)) := by
            rw [← hinv]
            first | exact hend | (subst hvn; exact kRun_0)
          refine ⟨_, rfl, ?_, ?_, hF⟩
          · unfold kTurn
            simp only [hfin]
          · unfold kTurn
            simp only [hfin]
            exact hst
        · skip
          obtain ⟨p, P2, rfl⟩ : ∃ p P2, P1 = p :: P2 := by
            cases P1 with
            | nil => exact absurd c35.symm htu
            | cons p P2 => exact ⟨p, P2, rfl⟩
          obtain ⟨e1, e2, e3⟩ := hPE 0 p.1 p.2.1 p.2.2 rfl
          have hpk6 : p.2.1 < ki := hpk1 p List.mem_cons_self
          rw [kRun_go (show p.1 = tu + nI 1 from c35)] at hinv
          obtain ⟨vs, hvs, hvs2⟩ := hst1 p.2.1 hpk6
          refine ks_aload_n hκ 38 0 dX4_passOneTurn_38 rfl ?_
          refine ks_get hκ 39 dX4_passOneTurn_39 kf_X4_59 h0 rfl ?_
          refine ks_get hκ 42 dX4_passOneTurn_42 kf_X4_126 hQ rfl ?_
          refine ks_iconst hκ 45 (nI 0) dX4_passOneTurn_45 kq_i0 ?_
          refine ks_iald hκ 46 (0) dX4_passOneTurn_46 hQK rfl (by omega) (by decide) ?_
          refine ks_top (nI p.2.1) e2 ?_
          refine ks_istore_n hκ 47 3 [(3, _), (0, _), (1, _), (2, _)] dX4_passOneTurn_47 rfl (by decide) rfl ?_
          refine ks_aload_n hκ 48 1 dX4_passOneTurn_48 rfl ?_
          refine ks_get hκ 49 dX4_passOneTurn_49 kf_X4_59 h0 rfl ?_
          refine ks_get hκ 52 dX4_passOneTurn_52 kf_X4_128 hQ rfl ?_
          refine ks_iconst hκ 55 (nI 0) dX4_passOneTurn_55 kq_i0 ?_
          refine ks_iald hκ 56 (0) dX4_passOneTurn_56 hQB rfl (by omega) (by decide) ?_
          refine ks_top p.2.2 e3 ?_
          refine ks_istore hκ 57 4 [(4, _), (3, _), (0, _), (1, _), (2, _)] dX4_passOneTurn_57 (by decide) rfl ?_
          refine ks_aload_n hκ 59 2 dX4_passOneTurn_59 rfl ?_
          refine ks_get hκ 60 dX4_passOneTurn_60 kf_X4_59 h0 rfl ?_
          refine ks_voidV0 hκ 63 dX4_passOneTurn_63 kc_X4_131 (c_Plans_removeFirst hplans) hQ rfl (by decide) (Nat.le_of_ble_eq_true rfl) (by decide) (by decide) (fun xh5 hp63 => ?_)
          obtain ⟨hplans, hF9⟩ := hp63
          replace h0 := hF9.at h0 (by omega)
          replace h1 := hF9.at h1 (by omega)
          replace h2 := hF9.at h2 (by omega)
          replace h3 := hF9.at h3 (by omega)
          replace h4 := hF9.at h4 (by omega)
          replace h5 := hF9.at h5 (by omega)
          replace h6 := hF9.at h6 (by omega)
          replace h7 := hF9.at h7 (by omega)
          replace h8 := hF9.at h8 (by omega)
          replace hyarn := hyarn.fr hF9 (by omega)
          replace hF := hF.tr (hF9.wd (by omega) (by omega))
          refine ks_aload_n hκ 66 2 dX4_passOneTurn_66 rfl ?_
          refine ks_iload_n hκ 67 1 dX4_passOneTurn_67 rfl ?_
          refine ks_iload hκ 68 0 dX4_passOneTurn_68 rfl ?_
          have hst : kStairs g xh5 b (se, tu + nI 1, ki, ma1, re1, kf1, L1, P2) := ⟨h0, h1, h2, h3, h4, h5, h6, h7, h8, hyarn, hplans, hki⟩
          refine ks_pureV2 hκ 70 dX4_passOneTurn_70 kc_X4_92 (c_Stairs_refusal hst hpk6 hvs hvs2) h0 rfl (by decide) (Nat.le_of_ble_eq_true rfl) (by decide) (by decide) ?_
          refine ks_if_ne hκ 73 89 dX4_passOneTurn_73 rfl (fun c73 => ?_) (fun c73 => ?_)
          · skip
            rw [if_neg c73] at hinv
            refine ks_aload_n hκ 89 2 dX4_passOneTurn_89 rfl ?_
            refine ks_dup hκ 90 dX4_passOneTurn_90 rfl ?_
            refine ks_get hκ 91 dX4_passOneTurn_91 kf_X4_25 h0 rfl ?_
            refine ks_iconst hκ 94 (nI 1) dX4_passOneTurn_94 kq_i1 ?_
            refine ks_iadd hκ 95 dX4_passOneTurn_95 ?_
            refine ks_putS hκ 96 [_, _, _, _, _, _, _, _, _, _, _, _, _, _] dX4_passOneTurn_96 kf_X4_25 h0 rfl rfl (Nat.le_of_ble_eq_true rfl) rfl ?_
            refine ks_gen (fun xh6 exh6 => ?_)
            replace h0 := ks_gs exh6 h0
            replace h1 := ks_gn exh6 (ks_nb (b := b) (i := 0) (j := 1) rfl) h1
            replace h2 := ks_gn exh6 (ks_nb (b := b) (i := 0) (j := 2) rfl) h2
            replace h3 := ks_gn exh6 (ks_nb (b := b) (i := 0) (j := 3) rfl) h3
            replace h4 := ks_gn exh6 (ks_nb (b := b) (i := 0) (j := 4) rfl) h4
            replace h5 := ks_gn exh6 (ks_nb (b := b) (i := 0) (j := 5) rfl) h5
            replace h6 := ks_gn exh6 (ks_nb (b := b) (i := 0) (j := 6) rfl) h6
            replace h7 := ks_gn exh6 (ks_nb (b := b) (i := 0) (j := 7) rfl) h7
            replace h8 := ks_gn exh6 (ks_nb (b := b) (i := 0) (j := 8) rfl) h8
            replace hyarn := hyarn.fr (ks_Fr.one exh6) (by omega)
            replace hplans := hplans.fr (ks_Fr.one exh6) (by omega)
            replace hF := ks_Fr.st hF exh6 (by omega) (by omega)
            clear exh6
            refine ks_iinc hκ 99 2 4 (nI (vi + 1)) [(2, _), (4, _), (3, _), (0, _), (1, _)] dX4_passOneTurn_99 rfl (ks_inc1 _) (by decide) rfl ?_
            refine ks_goto hκ 102 18 dX4_passOneTurn_102 rfl ?_
            refine ks_pick [3, 4, 0] [(0, _), (1, _), (2, _)] rfl ?_
            exact ks_cv (ih vn1 _ _ _ _ _ _ _ xh6 ⟨h0, h1, h2, h3, h4, h5, h6, h7, h8, hyarn, hplans, hki⟩ hF (by omega) hst1 (fun p hp => hpk1 p (List.mem_cons_of_mem _ hp)) hinv (by omega)) rfl rfl rfl
          · skip
            rw [if_pos c73] at hinv
            obtain ⟨vt, hvt, hvt2⟩ := kRef_0 c73 hvs2 hvs
            rw [hvt2]
            rw [hvt2] at hinv
            refine ks_aload_n hκ 76 2 dX4_passOneTurn_76 rfl ?_
            refine ks_iload_n hκ 77 1 dX4_passOneTurn_77 rfl ?_
            refine ks_iload hκ 78 0 dX4_passOneTurn_78 rfl ?_
            refine ks_voidV2 hκ 80 dX4_passOneTurn_80 kc_X4_96 (c_Stairs_makeLeap hst (by omega) hvs hvt hvs2) h0 rfl (by decide) (Nat.le_of_ble_eq_true rfl) (by decide) (by decide) (fun xh7 hp80 => ?_)
            obtain ⟨hst, hF9⟩ := hp80
            have hF := hF.tr hF9
            refine ks_iinc hκ 83 1 3 (nI (vm + 1)) [(1, _), (4, _), (3, _), (0, _), (2, _)] dX4_passOneTurn_83 rfl (ks_inc1 _) (by decide) rfl ?_
            refine ks_goto hκ 86 99 dX4_passOneTurn_86 rfl ?_
            refine ks_iinc hκ 99 2 4 (nI (vi + 1)) [(2, _), (1, _), (4, _), (3, _), (0, _)] dX4_passOneTurn_99 rfl (ks_inc1 _) (by decide) rfl ?_
            refine ks_goto hκ 102 18 dX4_passOneTurn_102 rfl ?_
            refine ks_pick [4, 1, 0] [(0, _), (1, _), (2, _)] rfl ?_
            exact ks_cv (ih vn1 _ _ _ _ _ _ _ xh7 hst hF (by omega) (kLeap_steps (σ := (se, tu + nI 1, ki, ma1, re1, kf1, L1, P2)) hst1 hvs2 hvt) (fun p hp => hpk1 p (List.mem_cons_of_mem _ hp)) hinv (by omega)) rfl rfl rfl
  refine ks_pick [2, 1, 0] [(0, _), (1, _), (2, _)] rfl ?_
  exact ks_cv (L18 _ 16 0 0 _ _ _ _ _ xh2 hst hF rfl (fun j hj => by unfold kWakes; rw [kWakes_0]; exact hsteps j hj) hpk rfl (Nat.lt_succ_self _)) rfl rfl rfl
