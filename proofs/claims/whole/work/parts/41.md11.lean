
/-! THE MODEL: counts -/
set_option maxRecDepth 100000 in
set_option maxHeartbeats 4000000 in
theorem c_Model_strandsOf {g : ks_G} {h : ks_H} {m : Nat} {fs : List Value} {f : Nat → Int32} {se : Nat → Int32} {tu : Int32} {ki : Nat} {ma re : Int32} {kf : Nat → Nat → Int32} {L : List (Nat × Nat)} {P : List kP} {k : Nat} (hM : h[m]? = some (ks_O 7 (ks_ref g (m + 1) :: fs))) (hS : h[m + 1]? = some (ks_I g 3400 f)) (hmd : kMd f 0 (se, tu, ki, ma, re, kf, L, P)) (hk : k < 6) : ks_Met g (yX7_strandsOf, cX7_strandsOf, 4, some .int) 0 0 0 [ks_ref g m, .int (nI k)] h (ks_Pi (nI (kOf k L)) h) := by
  obtain ⟨mS, m4, m5, m6, m7, m8, m9, mK, mP, mL, mki, mLl, mPl, mLp, mPp⟩ := id hmd
  dsimp only at mS m4 m5 m6 m7 m8 m9 mK mP mL mki mLl mPl mLp mPp
  refine ks_intro (by decide) (Nat.le_of_ble_eq_true rfl) (fun κ hκ hRt => ?_)
  refine ks_cv (ls := [(0, ks_ref g m), (1, .int (nI k))]) ?_ rfl rfl rfl
  refine ks_iconst hκ 0 (nI 0) dX7_strandsOf_0 kq_i0 ?_
  refine ks_istore_n hκ 1 2 [(2, _), (0, _), (1, _)] dX7_strandsOf_1 rfl (by decide) rfl ?_
  refine ks_iconst hκ 2 (nI 0) dX7_strandsOf_2 kq_i0 ?_
  refine ks_istore_n hκ 3 3 [(3, _), (2, _), (0, _), (1, _)] dX7_strandsOf_3 rfl (by decide) rfl ?_
  have L4 : ∀ (fuel : Nat) (vi va : Nat) (hvi : vi ≤ L.length) (hva : va ≤ vi) (hinv : (L.drop vi).foldl (kOfS k) va = kOf k L) (hfuel : L.length - vi < fuel), ks_K κ g 4 h 0 0 4 [(0, ks_ref g m), (1, .int (nI k)), (2, .int (nI va)), (3, .int (nI vi))] [] := by
    intro fuel
    induction fuel with
    | zero => intro vi va  hvi hva hinv hfuel; exact absurd hfuel (Nat.not_lt_zero _)
    | succ fuel ih =>
      intro vi va  hvi hva hinv hfuel
      refine ks_iload_n hκ 4 3 dX7_strandsOf_4 rfl ?_
      refine ks_aload_n hκ 5 0 dX7_strandsOf_5 rfl ?_
      refine ks_get hκ 6 dX7_strandsOf_6 kf_X7_7 hM rfl ?_
      refine ks_bipush hκ 9 (nI 8) dX7_strandsOf_9 kq_b8 ?_
      refine ks_iald hκ 11 (8) dX7_strandsOf_11 hS rfl (by omega) (by decide) ?_
      refine ks_top (nI L.length) m8 ?_
      refine ks_icmp_ge hκ 12 45 dX7_strandsOf_12 rfl (fun c12 => ?_) (fun c12 => ?_)
      · skip
        have c12 := (nI_leI (by omega) (by omega)).mp c12
        refine ks_iload_n hκ 45 2 dX7_strandsOf_45 rfl ?_
        refine ks_iret hκ 46 hRt dX7_strandsOf_46 (by decide) (by decide) rfl ?_
        exact ⟨by rw [← hinv, kdropN c12]; rfl, rfl⟩
      · skip
        have c12 := mt (nI_leI (by omega) (by omega)).mpr c12
        obtain ⟨⟨p1, p2⟩, hp⟩ : ∃ p, L[vi]? = some p := ⟨_, List.getElem?_eq_getElem (by omega)⟩
        obtain ⟨hp5, hp6⟩ := mLp (p1, p2) (List.mem_of_getElem? hp)
        dsimp only at hp5 hp6
        rw [kdrop hp, List.foldl_cons] at hinv
        have hrow := mL vi p1 p2 hp
        refine ks_iload_n hκ 15 2 dX7_strandsOf_15 rfl ?_
        refine ks_aload_n hκ 16 0 dX7_strandsOf_16 rfl ?_
        refine ks_get hκ 17 dX7_strandsOf_17 kf_X7_7 hM rfl ?_
        refine ks_bipush hκ 20 (nI 100) dX7_strandsOf_20 kq_b100 ?_
        refine ks_iload_n hκ 22 3 dX7_strandsOf_22 rfl ?_
        refine ks_iaddN hκ 23 dX7_strandsOf_23 ?_
        refine ks_iald hκ 24 ((100 + vi)) dX7_strandsOf_24 hS rfl (by omega) (by decide) ?_
        refine ks_top (nI (16 * p2 + p1)) hrow ?_
        refine ks_bipush hκ 25 (nI 16) dX7_strandsOf_25 kq_b16 ?_
        refine ks_idiv hκ 27 dX7_strandsOf_27 (by decide) ?_
        refine ks_top (nI p2) ((pk_div (by omega) (by decide) (by decide)).trans (by rw [show (16 * p2 + p1) / 16 = p2 by omega])) ?_
        refine ks_iload_n hκ 28 1 dX7_strandsOf_28 rfl ?_
        refine ks_icmp_ne hκ 29 36 dX7_strandsOf_29 rfl (fun c29 => ?_) (fun c29 => ?_)
        · skip
          have c29 := mt (nI_eq (by omega) (by omega)).mpr c29
          refine ks_iconst hκ 36 (nI 0) dX7_strandsOf_36 kq_i0 ?_
          refine ks_iaddN hκ 37 dX7_strandsOf_37 ?_
          refine ks_istore_n hκ 38 2 [(2, _), (0, _), (1, _), (3, _)] dX7_strandsOf_38 rfl (by decide) rfl ?_
          refine ks_iinc hκ 39 3 3 (nI (vi + 1)) [(3, _), (2, _), (0, _), (1, _)] dX7_strandsOf_39 rfl (ks_inc1 _) (by decide) rfl ?_
          refine ks_goto hκ 42 4 dX7_strandsOf_42 rfl ?_
          refine ks_pick [2, 3, 1, 0] [(0, _), (1, _), (2, _), (3, _)] rfl ?_
          exact ks_cv (ih (vi + 1) _  (by omega) (by omega) (by first | (rw [show kOfS k va (p1, p2) = va + 1 from if_pos c29] at hinv; exact hinv) | (rw [show kOfS k va (p1, p2) = va from if_neg c29] at hinv; exact hinv)) (by omega)) rfl rfl rfl
        · skip
          have c29 := (nI_eq (by omega) (by omega)).mp c29
          refine ks_iconst hκ 32 (nI 1) dX7_strandsOf_32 kq_i1 ?_
          refine ks_goto hκ 33 37 dX7_strandsOf_33 rfl ?_
          refine ks_iaddN hκ 37 dX7_strandsOf_37 ?_
          refine ks_istore_n hκ 38 2 [(2, _), (0, _), (1, _), (3, _)] dX7_strandsOf_38 rfl (by decide) rfl ?_
          refine ks_iinc hκ 39 3 3 (nI (vi + 1)) [(3, _), (2, _), (0, _), (1, _)] dX7_strandsOf_39 rfl (ks_inc1 _) (by decide) rfl ?_
          refine ks_goto hκ 42 4 dX7_strandsOf_42 rfl ?_
          refine ks_pick [2, 3, 1, 0] [(0, _), (1, _), (2, _), (3, _)] rfl ?_
          exact ks_cv (ih (vi + 1) _  (by omega) (by omega) (by first | (rw [show kOfS k va (p1, p2) = va + 1 from if_pos c29] at hinv; exact hinv) | (rw [show kOfS k va (p1, p2) = va from if_neg c29] at hinv; exact hinv)) (by omega)) rfl rfl rfl
  refine ks_pick [2, 3, 1, 0] [(0, _), (1, _), (2, _), (3, _)] rfl ?_
  exact ks_cv (L4 _ 0 0  (Nat.zero_le _) (Nat.zero_le _) rfl (Nat.lt_succ_self _)) rfl rfl rfl
