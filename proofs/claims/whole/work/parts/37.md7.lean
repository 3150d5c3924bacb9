
/-! THE MODEL: states copied; is a kitten here -/
/-- the rows of state vj are now those of state vi -/
def kMC (g : ks_G) (m vi vj : Nat) (h h' : ks_H) (f : Nat → Int32) : Prop := ∃ f', h'[m + 1]? = some (ks_I g 3400 f') ∧ ks_Fr h h' (m + 1) (m + 2) ∧ (∀ n, n < 340 → f' (340 * vj + n) = f (340 * vi + n)) ∧ ∀ q, (q < 340 * vj ∨ 340 * vj + 340 ≤ q) → f' q = f q
/-- a state's rows elsewhere -/
theorem kMd.move {f f' : Nat → Int32} {b b' : Nat} {σ : kS} (x : kMd f b σ) (e : ∀ n, n < 340 → f' (b' + n) = f (b + n)) : kMd f' b' σ := by
  obtain ⟨mS, m4, m5, m6, m7, m8, m9, mK, mP, mL, mki, mLl, mPl, mLp, mPp⟩ := x
  refine ⟨fun j hj => (e j (by omega)).trans (mS j hj), (e 4 (by decide)).trans m4, (e 5 (by decide)).trans m5, (e 6 (by decide)).trans m6, (e 7 (by decide)).trans m7, (e 8 (by decide)).trans m8, (e 9 (by decide)).trans m9, fun k c hk hc => ?_, fun r t k y hr => ?_, fun i u w hi => ?_, mki, mLl, mPl, mLp, mPp⟩
  · have := e (10 + 7 * k + c) (by omega)
    rw [← Nat.add_assoc, ← Nat.add_assoc, ← Nat.add_assoc, ← Nat.add_assoc] at this
    exact this.trans (mK k c hk hc)
  · have hr2 := (List.getElem?_eq_some_iff.mp hr).1
    obtain ⟨q1, q2, q3⟩ := mP r t k y hr
    have e1 := e (52 + 3 * r) (by omega)
    have e2 := e (52 + 3 * r + 1) (by omega)
    have e3 := e (52 + 3 * r + 2) (by omega)
    rw [← Nat.add_assoc, ← Nat.add_assoc] at e1
    rw [← Nat.add_assoc, ← Nat.add_assoc, ← Nat.add_assoc, ← Nat.add_assoc] at e2 e3
    exact ⟨e1.trans q1, e2.trans q2, e3.trans q3⟩
  · have hi2 := (List.getElem?_eq_some_iff.mp hi).1
    have e1 := e (100 + i) (by omega)
    rw [← Nat.add_assoc, ← Nat.add_assoc] at e1
    exact e1.trans (mL i u w hi)
theorem kIn_H {x : Int32} {ki : Nat} (h : ki ≤ 6) : kIn x.toInt64 0 (nI ki - nI 1).toInt64 = kHas ki x := by
  rw [kIn_32]
  unfold kHas
  have h0 : (0 : Int32).toInt = 0 := by decide
  have a0 : (0 : Int64).toInt = 0 := by decide
  have a1 : (nI ki - nI 1).toInt = (ki : Int) - (1 : Nat) := pk_sub_toInt (by omega) (by decide)
  have a2 : (nI ki).toInt = (ki : Int) := nI_toInt (by omega)
  simp only [Int32.lt_iff_toInt_lt, Int32.le_iff_toInt_le, Int32.toInt_toInt64, h0, a0, a1, a2]
  by_cases q : x.toInt < 0
  · rw [if_pos q, if_pos q]
  · rw [if_neg q, if_neg q]
    by_cases r : x.toInt ≤ (ki : Int) - (1 : Nat)
    · rw [if_pos r, if_neg (by omega)]
    · rw [if_neg r, if_pos (by omega)]
set_option maxRecDepth 100000 in
set_option maxHeartbeats 4000000 in
theorem c_Model_copies {g : ks_G} {h : ks_H} {m vi vj : Nat} {fs : List Value} {f : Nat → Int32} (hM : h[m]? = some (ks_O 7 (ks_ref g (m + 1) :: fs))) (hS : h[m + 1]? = some (ks_I g 3400 f)) (hvi : vi < 10) (hvj : vj < 10) : ks_Met g (yX7_copies, cX7_copies, 4, none) 0 0 0 [ks_ref g m, .int (nI vi), .int (nI vj)] h (ks_Pv (fun h' => kMC g m vi vj h h' f)) := by
  refine ks_intro (by decide) (Nat.le_of_ble_eq_true rfl) (fun κ hκ hRt => ?_)
  refine ks_cv (ls := [(0, ks_ref g m), (1, .int (nI vi)), (2, .int (nI vj))]) ?_ rfl rfl rfl
  have hF : ks_Fr h h (m + 1) (m + 2) := ks_Fr.rf
  refine ks_iconst hκ 0 (nI 0) dX7_copies_0 kq_i0 ?_
  refine ks_istore_n hκ 1 3 [(3, _), (0, _), (1, _), (2, _)] dX7_copies_1 rfl (by decide) rfl ?_
  have L2 : ∀ (fuel : Nat) (vn : Nat) (f1 : Nat → Int32) (hh : ks_H) (hM : hh[m]? = some (ks_O 7 (ks_ref g (m + 1) :: fs))) (hS : hh[m + 1]? = some (ks_I g 3400 f1)) (hF : ks_Fr h hh (m + 1) (m + 2)) (hvn : vn ≤ 340) (hcp : ∀ n, n < vn → f1 (340 * vj + n) = f (340 * vi + n)) (hun : ∀ q, (q < 340 * vj ∨ 340 * vj + vn ≤ q) → f1 q = f q) (hfuel : 340 - vn < fuel), ks_K κ g 4 hh 0 0 2 [(0, ks_ref g m), (1, .int (nI vi)), (2, .int (nI vj)), (3, .int (nI vn))] [] := by
    intro fuel
    induction fuel with
    | zero => intro vn f1 hh hM hS hF hvn hcp hun hfuel; exact absurd hfuel (Nat.not_lt_zero _)
    | succ fuel ih =>
      intro vn f1 hh hM hS hF hvn hcp hun hfuel
      refine ks_iload_n hκ 2 3 dX7_copies_2 rfl ?_
      refine ks_sipush hκ 3 (nI 340) dX7_copies_3 kq_s340 ?_
      refine ks_icmp_ge hκ 6 39 dX7_copies_6 rfl (fun c6 => ?_) (fun c6 => ?_)
      · skip
        have c6 := (nI_leI (by omega) (by omega)).mp c6
        refine ks_vret hκ 39 hRt dX7_copies_39 (by decide) (by decide) ?_
        have hv : vn = 340 := by omega
        subst hv
        exact ⟨rfl, f1, hS, hF, hcp, hun⟩
      · skip
        have c6 := mt (nI_leI (by omega) (by omega)).mpr c6
        refine ks_aload_n hκ 9 0 dX7_copies_9 rfl ?_
        refine ks_get hκ 10 dX7_copies_10 kf_X7_7 hM rfl ?_
        refine ks_sipush hκ 13 (nI 340) dX7_copies_13 kq_s340 ?_
        refine ks_iload_n hκ 16 2 dX7_copies_16 rfl ?_
        refine ks_imulN hκ 17 dX7_copies_17 ?_
        refine ks_iload_n hκ 18 3 dX7_copies_18 rfl ?_
        refine ks_iaddN hκ 19 dX7_copies_19 ?_
        refine ks_aload_n hκ 20 0 dX7_copies_20 rfl ?_
        refine ks_get hκ 21 dX7_copies_21 kf_X7_7 hM rfl ?_
        refine ks_sipush hκ 24 (nI 340) dX7_copies_24 kq_s340 ?_
        refine ks_iload_n hκ 27 1 dX7_copies_27 rfl ?_
        refine ks_imulN hκ 28 dX7_copies_28 ?_
        refine ks_iload_n hκ 29 3 dX7_copies_29 rfl ?_
        refine ks_iaddN hκ 30 dX7_copies_30 ?_
        refine ks_iald hκ 31 (((340 * vi) + vn)) dX7_copies_31 hS rfl (by omega) (by decide) ?_
        refine ks_iast hκ 32 (((340 * vj) + vn)) dX7_copies_32 hS rfl (by omega) (by decide) ?_
        refine ks_gen (fun xh1 exh1 => ?_)
        replace hM := ks_gn exh1 (ks_nb (b := m) (i := 1) (j := 0) rfl) hM
        replace hS := ks_gs exh1 hS
        replace hF := ks_Fr.st hF exh1 (by omega) (by omega)
        clear exh1
        refine ks_iinc hκ 33 3 3 (nI (vn + 1)) [(3, _), (0, _), (1, _), (2, _)] dX7_copies_33 rfl (ks_inc1 _) (by decide) rfl ?_
        refine ks_goto hκ 36 2 dX7_copies_36 rfl ?_
        refine ks_pick [1, 2, 3, 0] [(0, _), (1, _), (2, _), (3, _)] rfl ?_
        exact ks_cv (ih (vn + 1) _ xh1 hM hS hF (by omega) (fun n q => by by_cases z : n = vn; { subst z; rw [kU_s]; exact hun _ (by omega) }; { rw [kU_n (by omega)]; exact hcp n (by omega) }) (fun q z => by rw [kU_n (by omega)]; exact hun q (by omega)) (by omega)) rfl rfl rfl
  refine ks_pick [1, 2, 3, 0] [(0, _), (1, _), (2, _), (3, _)] rfl ?_
  exact ks_cv (L2 _ 0 _ h hM hS hF (Nat.zero_le _) (fun n q => absurd q (Nat.not_lt_zero n)) (fun _ _ => rfl) (Nat.lt_succ_self _)) rfl rfl rfl
set_option maxRecDepth 100000 in
set_option maxHeartbeats 4000000 in
theorem c_Model_isKitten {g : ks_G} {h : ks_H} {m : Nat} {fs : List Value} {f : Nat → Int32} {se : Nat → Int32} {tu : Int32} {ki : Nat} {ma re : Int32} {kf : Nat → Nat → Int32} {L : List (Nat × Nat)} {P : List kP} {x : Int32} (hM : h[m]? = some (ks_O 7 (ks_ref g (m + 1) :: fs))) (hS : h[m + 1]? = some (ks_I g 3400 f)) (hmd : kMd f 0 (se, tu, ki, ma, re, kf, L, P)) : ks_Met g (yX7_isKitten, cX7_isKitten, 2, some .boolean) 1 0 0 [ks_ref g m, .int x] h (ks_Pi (kHas ki x) h) := by
  obtain ⟨mS, m4, m5, m6, m7, m8, m9, mK, mP, mL, mki, mLl, mPl, mLp, mPp⟩ := id hmd
  dsimp only at mS m4 m5 m6 m7 m8 m9 mK mP mL mki mLl mPl mLp mPp
  refine ks_intro (by decide) (Nat.le_of_ble_eq_true rfl) (fun κ hκ hRt => ?_)
  refine ks_cv (ls := [(0, ks_ref g m), (1, .int x)]) ?_ rfl rfl rfl
  refine ks_iload_n hκ 0 1 dX7_isKitten_0 rfl ?_
  refine ks_i2l hκ 1 dX7_isKitten_1 ?_
  refine ks_lconst hκ 2 0 dX7_isKitten_2 rfl ?_
  refine ks_aload_n hκ 3 0 dX7_isKitten_3 rfl ?_
  refine ks_get hκ 4 dX7_isKitten_4 kf_X7_7 hM rfl ?_
  refine ks_iconst hκ 7 (nI 5) dX7_isKitten_7 kq_i5 ?_
  refine ks_iald hκ 8 (5) dX7_isKitten_8 hS rfl (by omega) (by decide) ?_
  refine ks_top (nI ki) (m5) ?_
  refine ks_iconst hκ 9 (nI 1) dX7_isKitten_9 kq_i1 ?_
  refine ks_isub hκ 10 dX7_isKitten_10 ?_
  refine ks_i2l hκ 11 dX7_isKitten_11 ?_
  refine ks_pureS3 hκ 12 dX7_isKitten_12 kc_X7_70 (c_Model_in) (by decide) (Nat.le_of_ble_eq_true rfl) (by decide) (by decide) ?_
  refine ks_iret hκ 15 hRt dX7_isKitten_15 (by decide) (by decide) (by rw [kIn_H mki]; unfold kHas; split; decide; split <;> decide) ?_
  exact ⟨by rw [kIn_H mki], rfl⟩
