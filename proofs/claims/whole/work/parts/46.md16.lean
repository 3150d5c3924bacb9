
/-! THE MODEL: turns; errors of leaps, snips, plans -/
def kLpE (σ : kS) (x z : Int32) : Int32 := if kHas σ.2.2.1 x = 0 then -1 else if kIsL z = 0 then -2 else if ¬ kRef σ x.toNatClampNeg z = 0 then -5 else nI 0
def kSnE (σ : kS) (x z : Int32) : Int32 := if kIsE x = 0 then -1 else if kHas σ.2.2.1 z = 0 then -1 else if σ.2.2.2.2.2.2.1.length - (kCut x.toNatClampNeg z.toNatClampNeg σ.2.2.2.2.2.2.1).length = 0 then -5 else nI 0
def kPlE (σ : kS) (n k x : Int32) : Int32 := if kHas σ.2.2.1 k = 0 then -1 else if n < nI 1 then -2 else if nI 99 < n then -2 else if kIsL x = 0 then -2 else if 16 ≤ σ.2.2.2.2.2.2.2.length then -4 else nI 0
/-- how many strands of a kitten lie at an edge -/
def kStAS (e k : Nat) (a : Nat) (p : Nat × Nat) : Nat := if p.1 = e ∧ p.2 = k then a + 1 else a
def kStA (e k : Nat) (L : List (Nat × Nat)) : Nat := L.foldl (kStAS e k) 0
theorem kStA_fold (e k : Nat) : ∀ (L : List (Nat × Nat)) (a : Nat), L.foldl (kStAS e k) a + (kCut e k L).length = a + L.length
  | [], a => rfl
  | (e1, o1) :: L, a => by
    have h1 := kStA_fold e k L (kStAS e k a (e1, o1))
    rw [List.foldl_cons, List.length_cons]
    have h2 : kCut e k ((e1, o1) :: L) = if kNot e k (e1, o1) = true then (e1, o1) :: kCut e k L else kCut e k L := List.filter_cons
    rw [h2]
    unfold kStAS at h1 ⊢
    unfold kNot
    dsimp only at h1 ⊢
    by_cases q : e1 = e ∧ o1 = k
    · rw [if_pos q] at h1 ⊢
      rw [if_neg (by simp [q.1, q.2])]
      omega
    · rw [if_neg q] at h1 ⊢
      rw [if_pos (by
        rw [Bool.not_eq_true', Bool.and_eq_false_iff]
        by_cases q1 : e1 = e
        · exact Or.inr (by rw [beq_eq_false_iff_ne]; exact fun z => q ⟨q1, z⟩)
        · exact Or.inl (by rw [beq_eq_false_iff_ne]; exact q1)), List.length_cons]
      omega
theorem kStA_cut {e k : Nat} {L : List (Nat × Nat)} : kStA e k L = L.length - (kCut e k L).length := by
  have h1 := kStA_fold e k L 0
  have h2 := kCut_le e k L
  unfold kStA
  omega
set_option maxRecDepth 100000 in
set_option maxHeartbeats 4000000 in
theorem c_Model_turns {g : ks_G} {h : ks_H} {m b : Nat} {fs : List Value} {f : Nat → Int32} {σ : kS} {n : Nat} (hM : h[m]? = some (ks_O 7 (ks_ref g (m + 1) :: fs))) (hS : h[m + 1]? = some (ks_I g 3400 f)) (hb : b + 340 ≤ 3400) (hmd : kMd f b σ) (hok : kOk2 σ) (hbal : kBal σ) (hn : n ≤ 99) : ks_Met g (yX7_turns, cX7_turns, 5, some .int) 7 0 0 [ks_ref g m, .int (nI b), .int (nI n)] h (ks_Ph (fun r h' => r = nI (kPass n σ 0).1 ∧ kMP g m b h h' f (kPass n σ 0).2)) := by
  refine ks_intro (by decide) (Nat.le_of_ble_eq_true rfl) (fun κ hκ hRt => ?_)
  refine ks_cv (ls := [(0, ks_ref g m), (1, .int (nI b)), (2, .int (nI n))]) ?_ rfl rfl rfl
  have hF : ks_Fr h h (m + 1) (m + 2) := ks_Fr.rf
  refine ks_iconst hκ 0 (nI 0) dX7_turns_0 kq_i0 ?_
  refine ks_istore_n hκ 1 3 [(3, _), (0, _), (1, _), (2, _)] dX7_turns_1 rfl (by decide) rfl ?_
  refine ks_iconst hκ 2 (nI 0) dX7_turns_2 kq_i0 ?_
  refine ks_istore hκ 3 4 [(4, _), (3, _), (0, _), (1, _), (2, _)] dX7_turns_3 (by decide) rfl ?_
  have L5 : ∀ (fuel : Nat) (vi vn vm : Nat) (f1 : Nat → Int32) (σ1 : kS) (hh : ks_H) (hM : hh[m]? = some (ks_O 7 (ks_ref g (m + 1) :: fs))) (hS : hh[m + 1]? = some (ks_I g 3400 f1)) (hF : ks_Fr h hh (m + 1) (m + 2)) (hmd1 : kMd f1 b σ1) (hout : ∀ j, (j < b ∨ b + 340 ≤ j) → f1 j = f j) (hok1 : kOk2 σ1) (hbal1 : kBal σ1) (hni : vn + vi = n) (hinv : kPass vn σ1 vm = kPass n σ 0) (hfuel : vn < fuel), ks_K κ g 5 hh 0 0 5 [(0, ks_ref g m), (1, .int (nI b)), (2, .int (nI n)), (3, .int (nI vm)), (4, .int (nI vi))] [] := by
    intro fuel
    induction fuel with
    | zero => intro vi vn vm f1 σ1 hh hM hS hF hmd1 hout hok1 hbal1 hni hinv hfuel; exact absurd hfuel (Nat.not_lt_zero _)
    | succ fuel ih =>
      intro vi vn vm f1 σ1 hh hM hS hF hmd1 hout hok1 hbal1 hni hinv hfuel
      refine ks_iload hκ 5 4 dX7_turns_5 rfl ?_
      refine ks_iload_n hκ 7 2 dX7_turns_7 rfl ?_
      refine ks_icmp_ge hκ 8 25 dX7_turns_8 rfl (fun c8 => ?_) (fun c8 => ?_)
      · skip
        have c8 := (nI_leI (by omega) (by omega)).mp c8
        have hvn : vn = 0 := by omega
        refine ks_iload_n hκ 25 3 dX7_turns_25 rfl ?_
        refine ks_iret hκ 26 hRt dX7_turns_26 (by decide) (by decide) rfl ?_
        have hq : kPass n σ 0 = (vm, σ1) := by rw [← hinv, hvn]; rfl
        exact ⟨_, rfl, by rw [hq], f1, hS, hF, by rw [hq]; exact hmd1, hout⟩
      · skip
        have c8 := mt (nI_leI (by omega) (by omega)).mpr c8
        obtain ⟨vn1, rfl⟩ : ∃ vn1, vn = vn1 + 1 := ⟨vn - 1, by omega⟩
        refine ks_iload_n hκ 11 3 dX7_turns_11 rfl ?_
        refine ks_aload_n hκ 12 0 dX7_turns_12 rfl ?_
        refine ks_iload_n hκ 13 1 dX7_turns_13 rfl ?_
        refine ks_intcV1 hκ 14 dX7_turns_14 kc_X7_96 (c_Model_turnS hM hS hb hmd1 hok1 hbal1) hM rfl (by decide) (Nat.le_of_ble_eq_true rfl) (by decide) (by decide) (fun r14 xh1 hp14 => ?_)
        obtain ⟨rfl, f2, hS, hF9, hmd2, hout2⟩ := hp14
        replace hM := hF9.at hM (by omega)
        replace hF := hF.tr (hF9.wd (by omega) (by omega))
        refine ks_iaddN hκ 17 dX7_turns_17 ?_
        refine ks_istore_n hκ 18 3 [(3, _), (0, _), (1, _), (2, _), (4, _)] dX7_turns_18 rfl (by decide) rfl ?_
        refine ks_iinc hκ 19 4 4 (nI (vi + 1)) [(4, _), (3, _), (0, _), (1, _), (2, _)] dX7_turns_19 rfl (ks_inc1 _) (by decide) rfl ?_
        refine ks_goto hκ 22 5 dX7_turns_22 rfl ?_
        refine ks_pick [2, 3, 4, 1, 0] [(0, _), (1, _), (2, _), (3, _), (4, _)] rfl ?_
        exact ks_cv (ih (vi + 1) vn1 _ _ _ xh1 hM hS hF hmd2 (fun j hj => (hout2 j hj).trans (hout j hj)) (kTurn_ok hok1).1 (kTurn_bal hok1 hmd1.2.2.2.2.2.2.2.2.2.2.1 hbal1) (by omega) hinv (by omega)) rfl rfl rfl
  refine ks_pick [2, 3, 4, 1, 0] [(0, _), (1, _), (2, _), (3, _), (4, _)] rfl ?_
  exact ks_cv (L5 _ 0 n 0 _ σ h hM hS hF hmd (fun _ _ => rfl) hok hbal (Nat.add_zero n) rfl (Nat.lt_succ_self _)) rfl rfl rfl
set_option maxRecDepth 100000 in
set_option maxHeartbeats 4000000 in
theorem c_Model_leapError {g : ks_G} {h : ks_H} {m : Nat} {fs : List Value} {f : Nat → Int32} {se : Nat → Int32} {tu : Int32} {ki : Nat} {ma re : Int32} {kf : Nat → Nat → Int32} {L : List (Nat × Nat)} {P : List kP} {x z : Int32} (hM : h[m]? = some (ks_O 7 (ks_ref g (m + 1) :: fs))) (hS : h[m + 1]? = some (ks_I g 3400 f)) (hmd : kMd f 0 (se, tu, ki, ma, re, kf, L, P)) (hok : kOk2 (se, tu, ki, ma, re, kf, L, P)) : ks_Met g (yX7_leapError, cX7_leapError, 3, some .int) 6 0 0 [ks_ref g m, .int x, .int z] h (ks_Pi (kLpE (se, tu, ki, ma, re, kf, L, P) x z) h) := by
  obtain ⟨mS, m4, m5, m6, m7, m8, m9, mK, mP, mL, mki, mLl, mPl, mLp, mPp⟩ := id hmd
  dsimp only at mS m4 m5 m6 m7 m8 m9 mK mP mL mki mLl mPl mLp mPp
  refine ks_intro (by decide) (Nat.le_of_ble_eq_true rfl) (fun κ hκ hRt => ?_)
  refine ks_cv (ls := [(0, ks_ref g m), (1, .int x), (2, .int z)]) ?_ rfl rfl rfl
  refine ks_aload_n hκ 0 0 dX7_leapError_0 rfl ?_
  refine ks_iload_n hκ 1 1 dX7_leapError_1 rfl ?_
  refine ks_pureV1 hκ 2 dX7_leapError_2 kc_X7_103 (c_Model_isKitten hM hS hmd) hM rfl (by decide) (Nat.le_of_ble_eq_true rfl) (by decide) (by decide) ?_
  refine ks_if_ne hκ 5 12 dX7_leapError_5 rfl (fun c5 => ?_) (fun c5 => ?_)
  · skip
    obtain ⟨vj, hvj, rfl⟩ := kHas_1 c5 mki
    obtain ⟨vs, hvs, hvs2⟩ := hok.1 vj hvj
    refine ks_iload_n hκ 12 2 dX7_leapError_12 rfl ?_
    refine ks_pureS1 hκ 13 dX7_leapError_13 kc_X7_107 (c_Model_areSteps) (by decide) (Nat.le_of_ble_eq_true rfl) (by decide) (by decide) ?_
    refine ks_if_ne hκ 16 24 dX7_leapError_16 rfl (fun c16 => ?_) (fun c16 => ?_)
    · skip
      refine ks_aload_n hκ 24 0 dX7_leapError_24 rfl ?_
      refine ks_iconst hκ 25 (nI 0) dX7_leapError_25 kq_i0 ?_
      refine ks_iload_n hκ 26 1 dX7_leapError_26 rfl ?_
      refine ks_iload_n hκ 27 2 dX7_leapError_27 rfl ?_
      refine ks_pureV3 hκ 28 dX7_leapError_28 kc_X7_90 (c_Model_reason (b := 0) hM hS (by decide) hmd hvj hvs hvs2) hM rfl (by decide) (Nat.le_of_ble_eq_true rfl) (by decide) (by decide) ?_
      refine ks_if_eq hκ 31 39 dX7_leapError_31 rfl (fun c31 => ?_) (fun c31 => ?_)
      · skip
        refine ks_iconst hκ 39 (nI 0) dX7_leapError_39 kq_i0 ?_
        refine ks_iret hκ 40 hRt dX7_leapError_40 (by decide) (by decide) rfl ?_
        refine ⟨?_, rfl⟩
        unfold kLpE
        first
          | rw [if_pos c5]
          | rw [if_neg c5, if_pos c16]
          | (rw [if_neg c5, if_neg c16, nI_clamp (by omega)]; first | rw [if_pos c31] | rw [if_neg (fun q => q c31)])
      · skip
        refine ks_bipush hκ 34 (-5) dX7_leapError_34 kq_bm5 ?_
        refine ks_goto hκ 36 40 dX7_leapError_36 rfl ?_
        refine ks_iret hκ 40 hRt dX7_leapError_40 (by decide) (by decide) rfl ?_
        refine ⟨?_, rfl⟩
        unfold kLpE
        first
          | rw [if_pos c5]
          | rw [if_neg c5, if_pos c16]
          | (rw [if_neg c5, if_neg c16, nI_clamp (by omega)]; first | rw [if_pos c31] | rw [if_neg (fun q => q c31)])
    · skip
      refine ks_bipush hκ 19 (-2) dX7_leapError_19 kq_bm2 ?_
      refine ks_goto hκ 21 40 dX7_leapError_21 rfl ?_
      refine ks_iret hκ 40 hRt dX7_leapError_40 (by decide) (by decide) rfl ?_
      refine ⟨?_, rfl⟩
      unfold kLpE
      first
        | rw [if_pos c5]
        | rw [if_neg c5, if_pos c16]
        | (rw [if_neg c5, if_neg c16, nI_clamp (by omega)]; first | rw [if_pos c31] | rw [if_neg (fun q => q c31)])
  · skip
    refine ks_iconst hκ 8 (-1) dX7_leapError_8 kq_im1 ?_
    refine ks_goto hκ 9 40 dX7_leapError_9 rfl ?_
    refine ks_iret hκ 40 hRt dX7_leapError_40 (by decide) (by decide) rfl ?_
    refine ⟨?_, rfl⟩
    unfold kLpE
    first
      | rw [if_pos c5]
      | rw [if_neg c5, if_pos c16]
      | (rw [if_neg c5, if_neg c16, nI_clamp (by omega)]; first | rw [if_pos c31] | rw [if_neg (fun q => q c31)])
set_option maxRecDepth 100000 in
set_option maxHeartbeats 4000000 in
theorem c_Model_strandsAt {g : ks_G} {h : ks_H} {m : Nat} {fs : List Value} {f : Nat → Int32} {se : Nat → Int32} {tu : Int32} {ki : Nat} {ma re : Int32} {kf : Nat → Nat → Int32} {L : List (Nat × Nat)} {P : List kP} {e k : Nat} (hM : h[m]? = some (ks_O 7 (ks_ref g (m + 1) :: fs))) (hS : h[m + 1]? = some (ks_I g 3400 f)) (hmd : kMd f 0 (se, tu, ki, ma, re, kf, L, P)) (he : e < 15) (hk : k < 6) : ks_Met g (yX7_strandsAt, cX7_strandsAt, 5, some .int) 1 0 0 [ks_ref g m, .int (nI e), .int (nI k)] h (ks_Pi (nI (kStA e k L)) h) := by
  obtain ⟨mS, m4, m5, m6, m7, m8, m9, mK, mP, mL, mki, mLl, mPl, mLp, mPp⟩ := id hmd
  dsimp only at mS m4 m5 m6 m7 m8 m9 mK mP mL mki mLl mPl mLp mPp
  refine ks_intro (by decide) (Nat.le_of_ble_eq_true rfl) (fun κ hκ hRt => ?_)
  refine ks_cv (ls := [(0, ks_ref g m), (1, .int (nI e)), (2, .int (nI k))]) ?_ rfl rfl rfl
  refine ks_iconst hκ 0 (nI 0) dX7_strandsAt_0 kq_i0 ?_
  refine ks_istore_n hκ 1 3 [(3, _), (0, _), (1, _), (2, _)] dX7_strandsAt_1 rfl (by decide) rfl ?_
  refine ks_iconst hκ 2 (nI 0) dX7_strandsAt_2 kq_i0 ?_
  refine ks_istore hκ 3 4 [(4, _), (3, _), (0, _), (1, _), (2, _)] dX7_strandsAt_3 (by decide) rfl ?_
  have L5 : ∀ (fuel : Nat) (vi va : Nat) (hvi : vi ≤ L.length) (hva : va ≤ vi) (hinv : (L.drop vi).foldl (kStAS e k) va = kStA e k L) (hfuel : L.length - vi < fuel), ks_K κ g 5 h 0 0 5 [(0, ks_ref g m), (1, .int (nI e)), (2, .int (nI k)), (3, .int (nI va)), (4, .int (nI vi))] [] := by
    intro fuel
    induction fuel with
    | zero => intro vi va  hvi hva hinv hfuel; exact absurd hfuel (Nat.not_lt_zero _)
    | succ fuel ih =>
      intro vi va  hvi hva hinv hfuel
      refine ks_iload hκ 5 4 dX7_strandsAt_5 rfl ?_
      refine ks_aload_n hκ 7 0 dX7_strandsAt_7 rfl ?_
      refine ks_get hκ 8 dX7_strandsAt_8 kf_X7_7 hM rfl ?_
      refine ks_bipush hκ 11 (nI 8) dX7_strandsAt_11 kq_b8 ?_
      refine ks_iald hκ 13 (8) dX7_strandsAt_13 hS rfl (by omega) (by decide) ?_
      refine ks_top (nI L.length) m8 ?_
      refine ks_icmp_ge hκ 14 43 dX7_strandsAt_14 rfl (fun c14 => ?_) (fun c14 => ?_)
      · skip
        have c14 := (nI_leI (by omega) (by omega)).mp c14
        refine ks_iload_n hκ 43 3 dX7_strandsAt_43 rfl ?_
        refine ks_iret hκ 44 hRt dX7_strandsAt_44 (by decide) (by decide) rfl ?_
        exact ⟨by rw [← hinv, kdropN c14]; rfl, rfl⟩
      · skip
        have c14 := mt (nI_leI (by omega) (by omega)).mpr c14
        obtain ⟨⟨p1, p2⟩, hp⟩ := kget (L := L) (i := vi) (by omega)
        have hp6 := (mLp (p1, p2) (List.mem_of_getElem? hp)).2
        dsimp only at hp6
        rw [kdrop hp, List.foldl_cons] at hinv
        refine ks_iload_n hκ 17 3 dX7_strandsAt_17 rfl ?_
        refine ks_aload_n hκ 18 0 dX7_strandsAt_18 rfl ?_
        refine ks_iconst hκ 19 (nI 0) dX7_strandsAt_19 kq_i0 ?_
        refine ks_iload hκ 20 4 dX7_strandsAt_20 rfl ?_
        refine ks_iload_n hκ 22 1 dX7_strandsAt_22 rfl ?_
        refine ks_pureV3 hκ 23 dX7_strandsAt_23 kc_X7_32 (c_Model_ownerAt (b := 0) hM hS (by decide) hmd hp he) hM rfl (by decide) (Nat.le_of_ble_eq_true rfl) (by decide) (by decide) ?_
        refine ks_iload_n hκ 26 2 dX7_strandsAt_26 rfl ?_
        refine ks_icmp_ne hκ 27 34 dX7_strandsAt_27 rfl (fun c27 => ?_) (fun c27 => ?_)
        · skip
          have hpn : ¬ (p1 = e ∧ p2 = k) := fun q => c27 (by rw [if_pos q.1, q.2])
          refine ks_iconst hκ 34 (nI 0) dX7_strandsAt_34 kq_i0 ?_
          refine ks_iaddN hκ 35 dX7_strandsAt_35 ?_
          refine ks_istore_n hκ 36 3 [(3, _), (0, _), (1, _), (2, _), (4, _)] dX7_strandsAt_36 rfl (by decide) rfl ?_
          refine ks_iinc hκ 37 4 4 (nI (vi + 1)) [(4, _), (3, _), (0, _), (1, _), (2, _)] dX7_strandsAt_37 rfl (ks_inc1 _) (by decide) rfl ?_
          refine ks_goto hκ 40 5 dX7_strandsAt_40 rfl ?_
          refine ks_pick [2, 3, 4, 1, 0] [(0, _), (1, _), (2, _), (3, _), (4, _)] rfl ?_
          exact ks_cv (ih (vi + 1) _  (by omega) (by omega) (by first | (rw [show kStAS e k va (p1, p2) = va + 1 from if_pos hpp] at hinv; exact hinv) | (rw [show kStAS e k va (p1, p2) = va from if_neg hpn] at hinv; exact hinv)) (by omega)) rfl rfl rfl
        · skip
          have hpp : p1 = e ∧ p2 = k := by
            by_cases q : p1 = e
            · rw [if_pos q] at c27; exact ⟨q, (nI_eq (by omega) (by omega)).mp c27⟩
            · rw [if_neg q] at c27; exact absurd c27.symm (nI_m6 (by omega))
          refine ks_iconst hκ 30 (nI 1) dX7_strandsAt_30 kq_i1 ?_
          refine ks_goto hκ 31 35 dX7_strandsAt_31 rfl ?_
          refine ks_iaddN hκ 35 dX7_strandsAt_35 ?_
          refine ks_istore_n hκ 36 3 [(3, _), (0, _), (1, _), (2, _), (4, _)] dX7_strandsAt_36 rfl (by decide) rfl ?_
          refine ks_iinc hκ 37 4 4 (nI (vi + 1)) [(4, _), (3, _), (0, _), (1, _), (2, _)] dX7_strandsAt_37 rfl (ks_inc1 _) (by decide) rfl ?_
          refine ks_goto hκ 40 5 dX7_strandsAt_40 rfl ?_
          refine ks_pick [2, 3, 4, 1, 0] [(0, _), (1, _), (2, _), (3, _), (4, _)] rfl ?_
          exact ks_cv (ih (vi + 1) _  (by omega) (by omega) (by first | (rw [show kStAS e k va (p1, p2) = va + 1 from if_pos hpp] at hinv; exact hinv) | (rw [show kStAS e k va (p1, p2) = va from if_neg hpn] at hinv; exact hinv)) (by omega)) rfl rfl rfl
  refine ks_pick [2, 3, 4, 1, 0] [(0, _), (1, _), (2, _), (3, _), (4, _)] rfl ?_
  exact ks_cv (L5 _ 0 0  (Nat.zero_le _) (Nat.zero_le _) rfl (Nat.lt_succ_self _)) rfl rfl rfl
set_option maxRecDepth 100000 in
set_option maxHeartbeats 4000000 in
theorem c_Model_snipError {g : ks_G} {h : ks_H} {m : Nat} {fs : List Value} {f : Nat → Int32} {se : Nat → Int32} {tu : Int32} {ki : Nat} {ma re : Int32} {kf : Nat → Nat → Int32} {L : List (Nat × Nat)} {P : List kP} {x z : Int32} (hM : h[m]? = some (ks_O 7 (ks_ref g (m + 1) :: fs))) (hS : h[m + 1]? = some (ks_I g 3400 f)) (hmd : kMd f 0 (se, tu, ki, ma, re, kf, L, P)) : ks_Met g (yX7_snipError, cX7_snipError, 3, some .int) 2 0 0 [ks_ref g m, .int x, .int z] h (ks_Pi (kSnE (se, tu, ki, ma, re, kf, L, P) x z) h) := by
  obtain ⟨mS, m4, m5, m6, m7, m8, m9, mK, mP, mL, mki, mLl, mPl, mLp, mPp⟩ := id hmd
  dsimp only at mS m4 m5 m6 m7 m8 m9 mK mP mL mki mLl mPl mLp mPp
  refine ks_intro (by decide) (Nat.le_of_ble_eq_true rfl) (fun κ hκ hRt => ?_)
  refine ks_cv (ls := [(0, ks_ref g m), (1, .int x), (2, .int z)]) ?_ rfl rfl rfl
  refine ks_iload_n hκ 0 1 dX7_snipError_0 rfl ?_
  refine ks_pureS1 hκ 1 dX7_snipError_1 kc_X7_110 (c_Model_isEdge) (by decide) (Nat.le_of_ble_eq_true rfl) (by decide) (by decide) ?_
  refine ks_if_eq hκ 4 15 dX7_snipError_4 rfl (fun c4 => ?_) (fun c4 => ?_)
  · skip
    refine ks_iconst hκ 15 (-1) dX7_snipError_15 kq_im1 ?_
    refine ks_goto hκ 16 34 dX7_snipError_16 rfl ?_
    refine ks_iret hκ 34 hRt dX7_snipError_34 (by decide) (by decide) rfl ?_
    refine ⟨?_, rfl⟩
    unfold kSnE
    first
      | rw [if_pos c4]
      | rw [if_neg c4, if_pos c12]
      | (rw [kStA_cut] at c25; rw [if_neg c4, if_neg c12, nI_clamp (by omega), nI_clamp (by omega)]; first | rw [if_pos c25] | rw [if_neg c25])
  · skip
    obtain ⟨ve, hve, rfl⟩ := kIsE_1 c4
    refine ks_aload_n hκ 7 0 dX7_snipError_7 rfl ?_
    refine ks_iload_n hκ 8 2 dX7_snipError_8 rfl ?_
    refine ks_pureV1 hκ 9 dX7_snipError_9 kc_X7_103 (c_Model_isKitten hM hS hmd) hM rfl (by decide) (Nat.le_of_ble_eq_true rfl) (by decide) (by decide) ?_
    refine ks_if_ne hκ 12 19 dX7_snipError_12 rfl (fun c12 => ?_) (fun c12 => ?_)
    · skip
      obtain ⟨vj, hvj, rfl⟩ := kHas_1 c12 mki
      refine ks_aload_n hκ 19 0 dX7_snipError_19 rfl ?_
      refine ks_iload_n hκ 20 1 dX7_snipError_20 rfl ?_
      refine ks_iload_n hκ 21 2 dX7_snipError_21 rfl ?_
      refine ks_pureV2 hκ 22 dX7_snipError_22 kc_X7_113 (c_Model_strandsAt hM hS hmd hve (by omega)) hM rfl (by decide) (Nat.le_of_ble_eq_true rfl) (by decide) (by decide) ?_
      have hsl : kStA ve vj L ≤ 240 := by rw [kStA_cut]; omega
      refine ks_if_ne hκ 25 33 dX7_snipError_25 rfl (fun c25 => ?_) (fun c25 => ?_)
      · skip
        have c25 := mt (ks_eq0 (by omega)).mpr c25
        refine ks_iconst hκ 33 (nI 0) dX7_snipError_33 kq_i0 ?_
        refine ks_iret hκ 34 hRt dX7_snipError_34 (by decide) (by decide) rfl ?_
        refine ⟨?_, rfl⟩
        unfold kSnE
        first
          | rw [if_pos c4]
          | rw [if_neg c4, if_pos c12]
          | (rw [kStA_cut] at c25; rw [if_neg c4, if_neg c12, nI_clamp (by omega), nI_clamp (by omega)]; first | rw [if_pos c25] | rw [if_neg c25])
      · skip
        have c25 := (ks_eq0 (by omega)).mp c25
        refine ks_bipush hκ 28 (-5) dX7_snipError_28 kq_bm5 ?_
        refine ks_goto hκ 30 34 dX7_snipError_30 rfl ?_
        refine ks_iret hκ 34 hRt dX7_snipError_34 (by decide) (by decide) rfl ?_
        refine ⟨?_, rfl⟩
        unfold kSnE
        first
          | rw [if_pos c4]
          | rw [if_neg c4, if_pos c12]
          | (rw [kStA_cut] at c25; rw [if_neg c4, if_neg c12, nI_clamp (by omega), nI_clamp (by omega)]; first | rw [if_pos c25] | rw [if_neg c25])
    · skip
      refine ks_iconst hκ 15 (-1) dX7_snipError_15 kq_im1 ?_
      refine ks_goto hκ 16 34 dX7_snipError_16 rfl ?_
      refine ks_iret hκ 34 hRt dX7_snipError_34 (by decide) (by decide) rfl ?_
      refine ⟨?_, rfl⟩
      unfold kSnE
      first
        | rw [if_pos c4]
        | rw [if_neg c4, if_pos c12]
        | (rw [kStA_cut] at c25; rw [if_neg c4, if_neg c12, nI_clamp (by omega), nI_clamp (by omega)]; first | rw [if_pos c25] | rw [if_neg c25])
set_option maxRecDepth 100000 in
set_option maxHeartbeats 4000000 in
theorem c_Model_planError {g : ks_G} {h : ks_H} {m : Nat} {fs : List Value} {f : Nat → Int32} {se : Nat → Int32} {tu : Int32} {ki : Nat} {ma re : Int32} {kf : Nat → Nat → Int32} {L : List (Nat × Nat)} {P : List kP} {x y z : Int32} (hM : h[m]? = some (ks_O 7 (ks_ref g (m + 1) :: fs))) (hS : h[m + 1]? = some (ks_I g 3400 f)) (hmd : kMd f 0 (se, tu, ki, ma, re, kf, L, P)) : ks_Met g (yX7_planError, cX7_planError, 4, some .int) 2 0 0 [ks_ref g m, .int x, .int y, .int z] h (ks_Pi (kPlE (se, tu, ki, ma, re, kf, L, P) x y z) h) := by
  obtain ⟨mS, m4, m5, m6, m7, m8, m9, mK, mP, mL, mki, mLl, mPl, mLp, mPp⟩ := id hmd
  dsimp only at mS m4 m5 m6 m7 m8 m9 mK mP mL mki mLl mPl mLp mPp
  refine ks_intro (by decide) (Nat.le_of_ble_eq_true rfl) (fun κ hκ hRt => ?_)
  refine ks_cv (ls := [(0, ks_ref g m), (1, .int x), (2, .int y), (3, .int z)]) ?_ rfl rfl rfl
  refine ks_aload_n hκ 0 0 dX7_planError_0 rfl ?_
  refine ks_iload_n hκ 1 2 dX7_planError_1 rfl ?_
  refine ks_pureV1 hκ 2 dX7_planError_2 kc_X7_103 (c_Model_isKitten hM hS hmd) hM rfl (by decide) (Nat.le_of_ble_eq_true rfl) (by decide) (by decide) ?_
  refine ks_if_ne hκ 5 12 dX7_planError_5 rfl (fun c5 => ?_) (fun c5 => ?_)
  · skip
    refine ks_iload_n hκ 12 1 dX7_planError_12 rfl ?_
    refine ks_i2l hκ 13 dX7_planError_13 ?_
    refine ks_lconst hκ 14 1 dX7_planError_14 rfl ?_
    refine ks_ldc2 hκ 15 _ dX7_planError_15 kl_X7_116 ?_
    refine ks_pureS3 hκ 18 dX7_planError_18 kc_X7_70 (c_Model_in) (by decide) (Nat.le_of_ble_eq_true rfl) (by decide) (by decide) ?_
    refine ks_if_eq hκ 21 31 dX7_planError_21 rfl (fun c21 => ?_) (fun c21 => ?_)
    · skip
      rw [kIn_T] at c21
      refine ks_bipush hκ 31 (-2) dX7_planError_31 kq_bm2 ?_
      refine ks_goto hκ 33 54 dX7_planError_33 rfl ?_
      refine ks_iret hκ 54 hRt dX7_planError_54 (by decide) (by decide) rfl ?_
      refine ⟨?_, rfl⟩
      unfold kPlE
      first
      | rw [if_pos c5]
      | (rw [if_neg c5]
         by_cases q1 : x < nI 1
         · first | (rw [if_pos q1] at c21; exact absurd rfl c21) | rw [if_pos q1]
         · rw [if_neg q1] at c21 ⊢
           by_cases q2 : nI 99 < x
           · first | (rw [if_pos q2] at c21; exact absurd rfl c21) | rw [if_pos q2]
           · rw [if_neg q2] at c21 ⊢
             first
             | exact absurd c21 (by decide)
             | rw [if_pos c28]
             | (rw [if_neg c28]; first | rw [if_pos (show 16 ≤ P.length by omega)] | rw [if_neg (show ¬ 16 ≤ P.length by omega)]))
    · skip
      rw [kIn_T] at c21
      refine ks_iload_n hκ 24 3 dX7_planError_24 rfl ?_
      refine ks_pureS1 hκ 25 dX7_planError_25 kc_X7_107 (c_Model_areSteps) (by decide) (Nat.le_of_ble_eq_true rfl) (by decide) (by decide) ?_
      refine ks_if_ne hκ 28 36 dX7_planError_28 rfl (fun c28 => ?_) (fun c28 => ?_)
      · skip
        refine ks_aload_n hκ 36 0 dX7_planError_36 rfl ?_
        refine ks_get hκ 37 dX7_planError_37 kf_X7_7 hM rfl ?_
        refine ks_bipush hκ 40 (nI 9) dX7_planError_40 kq_b9 ?_
        refine ks_iald hκ 42 (9) dX7_planError_42 hS rfl (by omega) (by decide) ?_
        refine ks_top (nI P.length) m9 ?_
        refine ks_bipush hκ 43 (nI 16) dX7_planError_43 kq_b16 ?_
        refine ks_icmp_ne hκ 45 53 dX7_planError_45 rfl (fun c45 => ?_) (fun c45 => ?_)
        · skip
          have c45 := mt (nI_eq (by omega) (by omega)).mpr c45
          refine ks_iconst hκ 53 (nI 0) dX7_planError_53 kq_i0 ?_
          refine ks_iret hκ 54 hRt dX7_planError_54 (by decide) (by decide) rfl ?_
          refine ⟨?_, rfl⟩
          unfold kPlE
          first
          | rw [if_pos c5]
          | (rw [if_neg c5]
             by_cases q1 : x < nI 1
             · first | (rw [if_pos q1] at c21; exact absurd rfl c21) | rw [if_pos q1]
             · rw [if_neg q1] at c21 ⊢
               by_cases q2 : nI 99 < x
               · first | (rw [if_pos q2] at c21; exact absurd rfl c21) | rw [if_pos q2]
               · rw [if_neg q2] at c21 ⊢
                 first
                 | exact absurd c21 (by decide)
                 | rw [if_pos c28]
                 | (rw [if_neg c28]; first | rw [if_pos (show 16 ≤ P.length by omega)] | rw [if_neg (show ¬ 16 ≤ P.length by omega)]))
        · skip
          have c45 := (nI_eq (by omega) (by omega)).mp c45
          refine ks_bipush hκ 48 (-4) dX7_planError_48 kq_bm4 ?_
          refine ks_goto hκ 50 54 dX7_planError_50 rfl ?_
          refine ks_iret hκ 54 hRt dX7_planError_54 (by decide) (by decide) rfl ?_
          refine ⟨?_, rfl⟩
          unfold kPlE
          first
          | rw [if_pos c5]
          | (rw [if_neg c5]
             by_cases q1 : x < nI 1
             · first | (rw [if_pos q1] at c21; exact absurd rfl c21) | rw [if_pos q1]
             · rw [if_neg q1] at c21 ⊢
               by_cases q2 : nI 99 < x
               · first | (rw [if_pos q2] at c21; exact absurd rfl c21) | rw [if_pos q2]
               · rw [if_neg q2] at c21 ⊢
                 first
                 | exact absurd c21 (by decide)
                 | rw [if_pos c28]
                 | (rw [if_neg c28]; first | rw [if_pos (show 16 ≤ P.length by omega)] | rw [if_neg (show ¬ 16 ≤ P.length by omega)]))
      · skip
        refine ks_bipush hκ 31 (-2) dX7_planError_31 kq_bm2 ?_
        refine ks_goto hκ 33 54 dX7_planError_33 rfl ?_
        refine ks_iret hκ 54 hRt dX7_planError_54 (by decide) (by decide) rfl ?_
        refine ⟨?_, rfl⟩
        unfold kPlE
        first
        | rw [if_pos c5]
        | (rw [if_neg c5]
           by_cases q1 : x < nI 1
           · first | (rw [if_pos q1] at c21; exact absurd rfl c21) | rw [if_pos q1]
           · rw [if_neg q1] at c21 ⊢
             by_cases q2 : nI 99 < x
             · first | (rw [if_pos q2] at c21; exact absurd rfl c21) | rw [if_pos q2]
             · rw [if_neg q2] at c21 ⊢
               first
               | exact absurd c21 (by decide)
               | rw [if_pos c28]
               | (rw [if_neg c28]; first | rw [if_pos (show 16 ≤ P.length by omega)] | rw [if_neg (show ¬ 16 ≤ P.length by omega)]))
  · skip
    refine ks_iconst hκ 8 (-1) dX7_planError_8 kq_im1 ?_
    refine ks_goto hκ 9 54 dX7_planError_9 rfl ?_
    refine ks_iret hκ 54 hRt dX7_planError_54 (by decide) (by decide) rfl ?_
    refine ⟨?_, rfl⟩
    unfold kPlE
    first
    | rw [if_pos c5]
    | (rw [if_neg c5]
       by_cases q1 : x < nI 1
       · first | (rw [if_pos q1] at c21; exact absurd rfl c21) | rw [if_pos q1]
       · rw [if_neg q1] at c21 ⊢
         by_cases q2 : nI 99 < x
         · first | (rw [if_pos q2] at c21; exact absurd rfl c21) | rw [if_pos q2]
         · rw [if_neg q2] at c21 ⊢
           first
           | exact absurd c21 (by decide)
           | rw [if_pos c28]
           | (rw [if_neg c28]; first | rw [if_pos (show 16 ≤ P.length by omega)] | rw [if_neg (show ¬ 16 ≤ P.length by omega)]))
