
/-! THE MODEL: strands -/
theorem kIdx_snoc (e : Nat) : ∀ (l : List (Nat × Nat)) (p : Nat × Nat), kIdx e (l ++ [p]) = if p.1 = e then some l.length else kIdx e l
  | [], p => rfl
  | q :: l, p => by
    rw [List.cons_append, kIdx, kIdx_snoc e l p]
    by_cases h : p.1 = e
    · rw [if_pos h, if_pos h]; rfl
    · rw [if_neg h, if_neg h, kIdx]
theorem kIdx_step {e i : Nat} {L : List (Nat × Nat)} {p : Nat × Nat} (h : L[i]? = some p) : kIdx e (L.take (i + 1)) = if p.1 = e then some i else kIdx e (L.take i) := by
  have hl := (List.getElem?_eq_some_iff.mp h).1
  rw [List.take_add_one, h, Option.toList_some, kIdx_snoc, List.length_take, Nat.min_eq_left (Nat.le_of_lt hl)]
theorem nI_m6 {p : Nat} (h : p < 2 ^ 31) : ¬ nI p = -6 := fun q => absurd (congrArg Int32.toInt q) (by rw [nI_toInt h]; show ¬ _ = (-6 : Int); omega)
/-- is a kitten's strand on top at an edge -/
def kWB (L : List (Nat × Nat)) (k e : Nat) : Int32 := if kTop e L = some k then nI 1 else nI 0
theorem kIdx_none {e : Nat} {L : List (Nat × Nat)} (h : kTop e L = none) : kIdx e L = none := by
  have := kIdx_top (e := e) L
  rw [h] at this
  exact this.1
set_option maxRecDepth 100000 in
set_option maxHeartbeats 4000000 in
theorem c_Model_top {g : ks_G} {h : ks_H} {m b : Nat} {fs : List Value} {f : Nat → Int32} {se : Nat → Int32} {tu : Int32} {ki : Nat} {ma re : Int32} {kf : Nat → Nat → Int32} {L : List (Nat × Nat)} {P : List kP} {e : Nat} (hM : h[m]? = some (ks_O 7 (ks_ref g (m + 1) :: fs))) (hS : h[m + 1]? = some (ks_I g 3400 f)) (hb : b + 340 ≤ 3400) (hmd : kMd f b (se, tu, ki, ma, re, kf, L, P)) (he : e < 15) : ks_Met g (yX7_top, cX7_top, 5, some .int) 1 0 0 [ks_ref g m, .int (nI b), .int (nI e)] h (ks_Pi (kON (kIdx e L)) h) := by
  obtain ⟨mS, m4, m5, m6, m7, m8, m9, mK, mP, mL, mki, mLl, mPl, mLp, mPp⟩ := id hmd
  dsimp only at mS m4 m5 m6 m7 m8 m9 mK mP mL mki mLl mPl mLp mPp
  refine ks_intro (by decide) (Nat.le_of_ble_eq_true rfl) (fun κ hκ hRt => ?_)
  refine ks_cv (ls := [(0, ks_ref g m), (1, .int (nI b)), (2, .int (nI e))]) ?_ rfl rfl rfl
  refine ks_bipush hκ 0 (-6) dX7_top_0 kq_bm6 ?_
  refine ks_istore_n hκ 2 3 [(3, _), (0, _), (1, _), (2, _)] dX7_top_2 rfl (by decide) rfl ?_
  refine ks_iconst hκ 3 (nI 0) dX7_top_3 kq_i0 ?_
  refine ks_istore hκ 4 4 [(4, _), (3, _), (0, _), (1, _), (2, _)] dX7_top_4 (by decide) rfl ?_
  have L6 : ∀ (fuel : Nat) (vi : Nat) (xa : Int32) (hvi : vi ≤ L.length) (hinv : xa = kON (kIdx e (L.take vi))) (hfuel : L.length - vi < fuel), ks_K κ g 5 h 0 0 6 [(0, ks_ref g m), (1, .int (nI b)), (2, .int (nI e)), (3, .int xa), (4, .int (nI vi))] [] := by
    intro fuel
    induction fuel with
    | zero => intro vi xa  hvi hinv hfuel; exact absurd hfuel (Nat.not_lt_zero _)
    | succ fuel ih =>
      intro vi xa  hvi hinv hfuel
      refine ks_iload hκ 6 4 dX7_top_6 rfl ?_
      refine ks_aload_n hκ 8 0 dX7_top_8 rfl ?_
      refine ks_get hκ 9 dX7_top_9 kf_X7_7 hM rfl ?_
      refine ks_iload_n hκ 12 1 dX7_top_12 rfl ?_
      refine ks_bipush hκ 13 (nI 8) dX7_top_13 kq_b8 ?_
      refine ks_iaddN hκ 15 dX7_top_15 ?_
      refine ks_iald hκ 16 ((b + 8)) dX7_top_16 hS rfl (by omega) (by decide) ?_
      refine ks_top (nI L.length) m8 ?_
      refine ks_icmp_ge hκ 17 46 dX7_top_17 rfl (fun c17 => ?_) (fun c17 => ?_)
      · skip
        have c17 := (nI_leI (by omega) (by omega)).mp c17
        refine ks_iload_n hκ 46 3 dX7_top_46 rfl ?_
        refine ks_iret hκ 47 hRt dX7_top_47 (by decide) (by decide) rfl ?_
        exact ⟨by rw [hinv, List.take_of_length_le (by omega)], rfl⟩
      · skip
        have c17 := mt (nI_leI (by omega) (by omega)).mpr c17
        obtain ⟨⟨p1, p2⟩, hp⟩ : ∃ p, L[vi]? = some p := ⟨_, List.getElem?_eq_getElem (by omega)⟩
        have hp6 := (mLp (p1, p2) (List.mem_of_getElem? hp)).2
        dsimp only at hp6
        refine ks_aload_n hκ 20 0 dX7_top_20 rfl ?_
        refine ks_iload_n hκ 21 1 dX7_top_21 rfl ?_
        refine ks_iload hκ 22 4 dX7_top_22 rfl ?_
        refine ks_iload_n hκ 24 2 dX7_top_24 rfl ?_
        refine ks_pureV3 hκ 25 dX7_top_25 kc_X7_32 (c_Model_ownerAt hM hS hb hmd hp he) hM rfl (by decide) (Nat.le_of_ble_eq_true rfl) (by decide) (by decide) ?_
        refine ks_bipush hκ 28 (-6) dX7_top_28 kq_bm6 ?_
        refine ks_icmp_ne hκ 30 37 dX7_top_30 rfl (fun c30 => ?_) (fun c30 => ?_)
        · skip
          have hpe : p1 = e := by
            by_cases q : p1 = e
            · exact q
            · rw [if_neg q] at c30; exact absurd rfl c30
          refine ks_iload hκ 37 4 dX7_top_37 rfl ?_
          refine ks_istore_n hκ 39 3 [(3, _), (0, _), (1, _), (2, _), (4, _)] dX7_top_39 rfl (by decide) rfl ?_
          refine ks_iinc hκ 40 4 4 (nI (vi + 1)) [(4, _), (3, _), (0, _), (1, _), (2, _)] dX7_top_40 rfl (ks_inc1 _) (by decide) rfl ?_
          refine ks_goto hκ 43 6 dX7_top_43 rfl ?_
          refine ks_pick [2, 3, 4, 1, 0] [(0, _), (1, _), (2, _), (3, _), (4, _)] rfl ?_
          exact ks_cv (ih (vi + 1) _  (by omega) (by rw [kIdx_step hp]; first | (rw [if_pos hpe]; rfl) | (rw [if_neg hpe]; exact hinv)) (by omega)) rfl rfl rfl
        · skip
          have hpe : ¬ p1 = e := fun q => by
            rw [if_pos q] at c30
            first | exact nI_m6 (by omega) c30 | exact c30 (nI_m6 (by omega))
          refine ks_iload_n hκ 33 3 dX7_top_33 rfl ?_
          refine ks_goto hκ 34 39 dX7_top_34 rfl ?_
          refine ks_istore_n hκ 39 3 [(3, _), (0, _), (1, _), (2, _), (4, _)] dX7_top_39 rfl (by decide) rfl ?_
          refine ks_iinc hκ 40 4 4 (nI (vi + 1)) [(4, _), (3, _), (0, _), (1, _), (2, _)] dX7_top_40 rfl (ks_inc1 _) (by decide) rfl ?_
          refine ks_goto hκ 43 6 dX7_top_43 rfl ?_
          refine ks_pick [2, 3, 4, 1, 0] [(0, _), (1, _), (2, _), (3, _), (4, _)] rfl ?_
          exact ks_cv (ih (vi + 1) _  (by omega) (by rw [kIdx_step hp]; first | (rw [if_pos hpe]; rfl) | (rw [if_neg hpe]; exact hinv)) (by omega)) rfl rfl rfl
  refine ks_pick [2, 3, 4, 1, 0] [(0, _), (1, _), (2, _), (3, _), (4, _)] rfl ?_
  exact ks_cv (L6 _ 0 _  (Nat.zero_le _) rfl (Nat.lt_succ_self _)) rfl rfl rfl
set_option maxRecDepth 100000 in
set_option maxHeartbeats 4000000 in
theorem c_Model_windsBack {g : ks_G} {h : ks_H} {m b : Nat} {fs : List Value} {f : Nat → Int32} {se : Nat → Int32} {tu : Int32} {ki : Nat} {ma re : Int32} {kf : Nat → Nat → Int32} {L : List (Nat × Nat)} {P : List kP} {e k : Nat} (hM : h[m]? = some (ks_O 7 (ks_ref g (m + 1) :: fs))) (hS : h[m + 1]? = some (ks_I g 3400 f)) (hb : b + 340 ≤ 3400) (hmd : kMd f b (se, tu, ki, ma, re, kf, L, P)) (he : e < 15) (hk : k < 6) : ks_Met g (yX7_windsBack, cX7_windsBack, 5, some .boolean) 2 0 0 [ks_ref g m, .int (nI b), .int (nI k), .int (nI e)] h (ks_Pi (kWB L k e) h) := by
  obtain ⟨mS, m4, m5, m6, m7, m8, m9, mK, mP, mL, mki, mLl, mPl, mLp, mPp⟩ := id hmd
  dsimp only at mS m4 m5 m6 m7 m8 m9 mK mP mL mki mLl mPl mLp mPp
  refine ks_intro (by decide) (Nat.le_of_ble_eq_true rfl) (fun κ hκ hRt => ?_)
  refine ks_cv (ls := [(0, ks_ref g m), (1, .int (nI b)), (2, .int (nI k)), (3, .int (nI e))]) ?_ rfl rfl rfl
  refine ks_aload_n hκ 0 0 dX7_windsBack_0 rfl ?_
  refine ks_iload_n hκ 1 1 dX7_windsBack_1 rfl ?_
  refine ks_iload_n hκ 2 3 dX7_windsBack_2 rfl ?_
  refine ks_pureV2 hκ 3 dX7_windsBack_3 kc_X7_36 (c_Model_top hM hS hb hmd he) hM rfl (by decide) (Nat.le_of_ble_eq_true rfl) (by decide) (by decide) ?_
  refine ks_istore hκ 6 4 [(4, _), (0, _), (1, _), (2, _), (3, _)] dX7_windsBack_6 (by decide) rfl ?_
  refine ks_iload hκ 8 0 dX7_windsBack_8 rfl ?_
  refine ks_bipush hκ 10 (-6) dX7_windsBack_10 kq_bm6 ?_
  refine ks_icmp_eq hκ 12 31 dX7_windsBack_12 rfl (fun c12 => ?_) (fun c12 => ?_)
  · skip
    have hT : ¬ kTop e L = some k := fun q => by
      obtain ⟨vt, hI, hLt, -⟩ := kIdx_some q
      rw [hI] at c12
      exact nI_m6 (by have := (List.getElem?_eq_some_iff.mp hLt).1; omega) c12
    have hq : kWB L k e = nI 0 := if_neg hT
    refine ks_iconst hκ 31 (nI 0) dX7_windsBack_31 kq_i0 ?_
    refine ks_iret hκ 32 hRt dX7_windsBack_32 (by decide) (by decide) (by decide) ?_
    exact ⟨by rw [hq], rfl⟩
  · skip
    obtain ⟨vo, hT⟩ : ∃ o, kTop e L = some o := by
      cases q : kTop e L with
      | none => rw [kIdx_none q] at c12; exact absurd rfl c12
      | some o => exact ⟨o, rfl⟩
    obtain ⟨vt, hI, hLt, -⟩ := kIdx_some hT
    have hvo := (mLp (e, vo) (List.mem_of_getElem? hLt)).2
    dsimp only at hvo
    rw [hI]
    refine ks_aload_n hκ 15 1 dX7_windsBack_15 rfl ?_
    refine ks_iload_n hκ 16 2 dX7_windsBack_16 rfl ?_
    refine ks_iload hκ 17 0 dX7_windsBack_17 rfl ?_
    refine ks_iload_n hκ 19 4 dX7_windsBack_19 rfl ?_
    refine ks_pureV3 hκ 20 dX7_windsBack_20 kc_X7_32 (c_Model_ownerAt (i := vt) hM hS hb hmd hLt he) hM rfl (by decide) (Nat.le_of_ble_eq_true rfl) (by decide) (by decide) ?_
    refine ks_top (nI vo) (if_pos rfl) ?_
    refine ks_iload_n hκ 23 3 dX7_windsBack_23 rfl ?_
    refine ks_icmp_ne hκ 24 31 dX7_windsBack_24 rfl (fun c24 => ?_) (fun c24 => ?_)
    · skip
      have c24 := mt (nI_eq (by omega) (by omega)).mpr c24
      have hq : kWB L k e = nI 0 := if_neg (by rw [hT]; exact fun q => c24 (Option.some.inj q))
      refine ks_iconst hκ 31 (nI 0) dX7_windsBack_31 kq_i0 ?_
      refine ks_iret hκ 32 hRt dX7_windsBack_32 (by decide) (by decide) (by decide) ?_
      exact ⟨by rw [hq], rfl⟩
    · skip
      have c24 := (nI_eq (by omega) (by omega)).mp c24
      have hq : kWB L k e = nI 1 := if_pos (by rw [hT, c24])
      refine ks_iconst hκ 27 (nI 1) dX7_windsBack_27 kq_i1 ?_
      refine ks_goto hκ 28 32 dX7_windsBack_28 rfl ?_
      refine ks_iret hκ 32 hRt dX7_windsBack_32 (by decide) (by decide) (by decide) ?_
      exact ⟨by rw [hq], rfl⟩
set_option maxRecDepth 100000 in
set_option maxHeartbeats 4000000 in
theorem c_Model_edgeOf {g : ks_G} {h : ks_H} {m b : Nat} {fs : List Value} {f : Nat → Int32} {se : Nat → Int32} {tu : Int32} {ki : Nat} {ma re : Int32} {kf : Nat → Nat → Int32} {L : List (Nat × Nat)} {P : List kP} {k : Nat} {x i : Int32} (hM : h[m]? = some (ks_O 7 (ks_ref g (m + 1) :: fs))) (hS : h[m + 1]? = some (ks_I g 3400 f)) (hb : b + 340 ≤ 3400) (hmd : kMd f b (se, tu, ki, ma, re, kf, L, P)) (hk : k < ki) : ks_Met g (yX7_edgeOf, cX7_edgeOf, 6, some .int) 1 0 0 [ks_ref g m, .int (nI b), .int (nI k), .int x, .int i] h (ks_Pi (kEdge (kf 0 k) x i) h) := by
  obtain ⟨mS, m4, m5, m6, m7, m8, m9, mK, mP, mL, mki, mLl, mPl, mLp, mPp⟩ := id hmd
  dsimp only at mS m4 m5 m6 m7 m8 m9 mK mP mL mki mLl mPl mLp mPp
  refine ks_intro (by decide) (Nat.le_of_ble_eq_true rfl) (fun κ hκ hRt => ?_)
  refine ks_cv (ls := [(0, ks_ref g m), (1, .int (nI b)), (2, .int (nI k)), (3, .int x), (4, .int i)]) ?_ rfl rfl rfl
  refine ks_aload_n hκ 0 0 dX7_edgeOf_0 rfl ?_
  refine ks_get hκ 1 dX7_edgeOf_1 kf_X7_7 hM rfl ?_
  refine ks_iload_n hκ 4 1 dX7_edgeOf_4 rfl ?_
  refine ks_iload_n hκ 5 2 dX7_edgeOf_5 rfl ?_
  refine ks_pureS2 hκ 6 dX7_edgeOf_6 kc_X7_28 (c_Model_kittenAt) (by decide) (Nat.le_of_ble_eq_true rfl) (by decide) (by decide) ?_
  refine ks_iald hκ 9 ((b + 10 + 7 * k)) dX7_edgeOf_9 hS rfl (by omega) (by decide) ?_
  refine ks_istore hκ 10 5 [(5, _), (0, _), (1, _), (2, _), (3, _), (4, _)] dX7_edgeOf_10 (by decide) rfl ?_
  refine ks_iload_n hκ 12 4 dX7_edgeOf_12 rfl ?_
  refine ks_if_le hκ 13 24 dX7_edgeOf_13 rfl (fun c13 => ?_) (fun c13 => ?_)
  · skip
    refine ks_iload hκ 24 0 dX7_edgeOf_24 rfl ?_
    refine ks_iconst hκ 26 (nI 1) dX7_edgeOf_26 kq_i1 ?_
    refine ks_isub hκ 27 dX7_edgeOf_27 ?_
    refine ks_iload hκ 28 5 dX7_edgeOf_28 rfl ?_
    refine ks_isub hκ 30 dX7_edgeOf_30 ?_
    refine ks_iret hκ 31 hRt dX7_edgeOf_31 (by decide) (by decide) rfl ?_
    refine ⟨?_, rfl⟩
    unfold kEdge
    have hk0 := mK k 0 hk (by decide)
    rw [Nat.add_zero] at hk0
    rw [hk0]
    first | rw [if_pos c13] | rw [if_neg c13]
  · skip
    refine ks_iload hκ 16 0 dX7_edgeOf_16 rfl ?_
    refine ks_iload hκ 18 5 dX7_edgeOf_18 rfl ?_
    refine ks_iadd hκ 20 dX7_edgeOf_20 ?_
    refine ks_goto hκ 21 31 dX7_edgeOf_21 rfl ?_
    refine ks_iret hκ 31 hRt dX7_edgeOf_31 (by decide) (by decide) rfl ?_
    refine ⟨?_, rfl⟩
    unfold kEdge
    have hk0 := mK k 0 hk (by decide)
    rw [Nat.add_zero] at hk0
    rw [hk0]
    first | rw [if_pos c13] | rw [if_neg c13]
