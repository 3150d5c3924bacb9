
/-! THE MODEL: strands laid and taken -/
theorem kU_s {f : Nat → Int32} {a : Nat} {v : Int32} : upd f a v a = v := if_pos rfl
theorem kU_n {f : Nat → Int32} {a j : Nat} {v : Int32} (h : j ≠ a) : upd f a v j = f j := if_neg h
/-- the rows behind a deed on the state from b -/
def kMP (g : ks_G) (m b : Nat) (h h' : ks_H) (f : Nat → Int32) (σ : kS) : Prop := ∃ f', h'[m + 1]? = some (ks_I g 3400 f') ∧ ks_Fr h h' (m + 1) (m + 2) ∧ kMd f' b σ ∧ ∀ j, (j < b ∨ b + 340 ≤ j) → f' j = f j
set_option maxRecDepth 100000 in
set_option maxHeartbeats 4000000 in
theorem c_Model_removesStrand {g : ks_G} {h : ks_H} {m b : Nat} {fs : List Value} {f : Nat → Int32} {se : Nat → Int32} {tu : Int32} {ki : Nat} {ma re : Int32} {kf : Nat → Nat → Int32} {L : List (Nat × Nat)} {P : List kP} {t : Nat} (hM : h[m]? = some (ks_O 7 (ks_ref g (m + 1) :: fs))) (hS : h[m + 1]? = some (ks_I g 3400 f)) (hb : b + 340 ≤ 3400) (hmd : kMd f b (se, tu, ki, ma, re, kf, L, P)) (ht : t < L.length) : ks_Met g (yX7_removesStrand, cX7_removesStrand, 4, none) 0 0 0 [ks_ref g m, .int (nI b), .int (nI t)] h (ks_Pv (fun h' => kMP g m b h h' f (se, tu, ki, ma, re, kf, L.eraseIdx t, P))) := by
  obtain ⟨mS, m4, m5, m6, m7, m8, m9, mK, mP, mL, mki, mLl, mPl, mLp, mPp⟩ := id hmd
  dsimp only at mS m4 m5 m6 m7 m8 m9 mK mP mL mki mLl mPl mLp mPp
  refine ks_intro (by decide) (Nat.le_of_ble_eq_true rfl) (fun κ hκ hRt => ?_)
  refine ks_cv (ls := [(0, ks_ref g m), (1, .int (nI b)), (2, .int (nI t))]) ?_ rfl rfl rfl
  have hF : ks_Fr h h (m + 1) (m + 2) := ks_Fr.rf
  refine ks_aload_n hκ 0 0 dX7_removesStrand_0 rfl ?_
  refine ks_get hκ 1 dX7_removesStrand_1 kf_X7_7 hM rfl ?_
  refine ks_iload_n hκ 4 1 dX7_removesStrand_4 rfl ?_
  refine ks_bipush hκ 5 (nI 8) dX7_removesStrand_5 kq_b8 ?_
  refine ks_iaddN hκ 7 dX7_removesStrand_7 ?_
  refine ks_dup2 hκ 8 dX7_removesStrand_8 rfl rfl ?_
  refine ks_iald hκ 9 ((b + 8)) dX7_removesStrand_9 hS rfl (by omega) (by decide) ?_
  refine ks_top (nI L.length) m8 ?_
  refine ks_iconst hκ 10 (nI 1) dX7_removesStrand_10 kq_i1 ?_
  refine ks_isubN hκ 11 dX7_removesStrand_11 (by omega) ?_
  refine ks_iast hκ 12 ((b + 8)) dX7_removesStrand_12 hS rfl (by omega) (by decide) ?_
  refine ks_gen (fun xh1 exh1 => ?_)
  replace hM := ks_gn exh1 (ks_nb (b := m) (i := 1) (j := 0) rfl) hM
  replace hS := ks_gs exh1 hS
  replace hF := ks_Fr.st hF exh1 (by omega) (by omega)
  clear exh1
  refine ks_iload_n hκ 13 2 dX7_removesStrand_13 rfl ?_
  refine ks_istore_n hκ 14 3 [(3, _), (0, _), (1, _), (2, _)] dX7_removesStrand_14 rfl (by decide) rfl ?_
  have L15 : ∀ (fuel : Nat) (vc : Nat) (f1 : Nat → Int32) (hh : ks_H) (hM : hh[m]? = some (ks_O 7 (ks_ref g (m + 1) :: fs))) (hS : hh[m + 1]? = some (ks_I g 3400 f1)) (hF : ks_Fr h hh (m + 1) (m + 2)) (hc : t ≤ vc) (hc2 : vc + 1 ≤ L.length) (e8 : f1 (b + 8) = nI (L.length - 1)) (hu : ∀ j, j ≠ b + 8 → (j < b + 100 + t ∨ b + 100 + vc ≤ j) → f1 j = f j) (hsft : ∀ j, t ≤ j → j < vc → f1 (b + 100 + j) = f (b + 100 + j + 1)) (hfuel : L.length - vc < fuel), ks_K κ g 4 hh 0 0 15 [(0, ks_ref g m), (1, .int (nI b)), (2, .int (nI t)), (3, .int (nI vc))] [] := by
    intro fuel
    induction fuel with
    | zero => intro vc f1 hh hM hS hF hc hc2 e8 hu hsft hfuel; exact absurd hfuel (Nat.not_lt_zero _)
    | succ fuel ih =>
      intro vc f1 hh hM hS hF hc hc2 e8 hu hsft hfuel
      refine ks_iload_n hκ 15 3 dX7_removesStrand_15 rfl ?_
      refine ks_aload_n hκ 16 0 dX7_removesStrand_16 rfl ?_
      refine ks_get hκ 17 dX7_removesStrand_17 kf_X7_7 hM rfl ?_
      refine ks_iload_n hκ 20 1 dX7_removesStrand_20 rfl ?_
      refine ks_bipush hκ 21 (nI 8) dX7_removesStrand_21 kq_b8 ?_
      refine ks_iaddN hκ 23 dX7_removesStrand_23 ?_
      refine ks_iald hκ 24 ((b + 8)) dX7_removesStrand_24 hS rfl (by omega) (by decide) ?_
      refine ks_top (nI (L.length - 1)) e8 ?_
      refine ks_icmp_ge hκ 25 58 dX7_removesStrand_25 rfl (fun c25 => ?_) (fun c25 => ?_)
      · skip
        have c25 := (nI_leI (by omega) (by omega)).mp c25
        refine ks_vret hκ 58 hRt dX7_removesStrand_58 (by decide) (by decide) ?_
        refine ⟨rfl, f1, hS, hF, ⟨fun j hj => (hu _ (by omega) (by omega)).trans (mS j hj), (hu _ (by omega) (by omega)).trans m4, (hu _ (by omega) (by omega)).trans m5, (hu _ (by omega) (by omega)).trans m6, (hu _ (by omega) (by omega)).trans m7, ?_, (hu _ (by omega) (by omega)).trans m9, fun k c hk hc => ?_, fun r t1 k y hr => ?_, fun i e w hi => ?_, mki, ?_, mPl, kbd_erase mLp, mPp⟩, fun j hj => hu j (by omega) (by omega)⟩
        · show f1 (b + 8) = nI (L.eraseIdx t).length
          rw [List.length_eraseIdx_of_lt ht]; exact e8
        · have hk2 : k < ki := hk
          exact (hu _ (by omega) (by omega)).trans (mK k c hk hc)
        · have hr2 := (List.getElem?_eq_some_iff.mp (show P[r]? = some (t1, k, y) from hr)).1
          obtain ⟨q1, q2, q3⟩ := mP r t1 k y hr
          exact ⟨(hu _ (by omega) (by omega)).trans q1, (hu _ (by omega) (by omega)).trans q2, (hu _ (by omega) (by omega)).trans q3⟩
        · have hi2 : (L.eraseIdx t)[i]? = some (e, w) := hi
          rw [List.getElem?_eraseIdx] at hi2
          by_cases hit : i < t
          · rw [if_pos hit] at hi2
            exact (hu _ (by omega) (by omega)).trans (mL i e w hi2)
          · rw [if_neg hit] at hi2
            have hi3 := (List.getElem?_eq_some_iff.mp hi2).1
            exact (hsft i (by omega) (by omega)).trans (mL (i + 1) e w hi2)
        · show (L.eraseIdx t).length ≤ 240
          rw [List.length_eraseIdx_of_lt ht]; omega
      · skip
        have c25 := mt (nI_leI (by omega) (by omega)).mpr c25
        refine ks_aload_n hκ 28 0 dX7_removesStrand_28 rfl ?_
        refine ks_get hκ 29 dX7_removesStrand_29 kf_X7_7 hM rfl ?_
        refine ks_iload_n hκ 32 1 dX7_removesStrand_32 rfl ?_
        refine ks_bipush hκ 33 (nI 100) dX7_removesStrand_33 kq_b100 ?_
        refine ks_iaddN hκ 35 dX7_removesStrand_35 ?_
        refine ks_iload_n hκ 36 3 dX7_removesStrand_36 rfl ?_
        refine ks_iaddN hκ 37 dX7_removesStrand_37 ?_
        refine ks_aload_n hκ 38 0 dX7_removesStrand_38 rfl ?_
        refine ks_get hκ 39 dX7_removesStrand_39 kf_X7_7 hM rfl ?_
        refine ks_iload_n hκ 42 1 dX7_removesStrand_42 rfl ?_
        refine ks_bipush hκ 43 (nI 100) dX7_removesStrand_43 kq_b100 ?_
        refine ks_iaddN hκ 45 dX7_removesStrand_45 ?_
        refine ks_iload_n hκ 46 3 dX7_removesStrand_46 rfl ?_
        refine ks_iaddN hκ 47 dX7_removesStrand_47 ?_
        refine ks_iconst hκ 48 (nI 1) dX7_removesStrand_48 kq_i1 ?_
        refine ks_iaddN hκ 49 dX7_removesStrand_49 ?_
        refine ks_iald hκ 50 ((((b + 100) + vc) + 1)) dX7_removesStrand_50 hS rfl (by omega) (by decide) ?_
        refine ks_iast hκ 51 (((b + 100) + vc)) dX7_removesStrand_51 hS rfl (by omega) (by decide) ?_
        refine ks_gen (fun xh2 exh2 => ?_)
        replace hM := ks_gn exh2 (ks_nb (b := m) (i := 1) (j := 0) rfl) hM
        replace hS := ks_gs exh2 hS
        replace hF := ks_Fr.st hF exh2 (by omega) (by omega)
        clear exh2
        refine ks_iinc hκ 52 3 3 (nI (vc + 1)) [(3, _), (0, _), (1, _), (2, _)] dX7_removesStrand_52 rfl (ks_inc1 _) (by decide) rfl ?_
        refine ks_goto hκ 55 15 dX7_removesStrand_55 rfl ?_
        refine ks_pick [1, 2, 3, 0] [(0, _), (1, _), (2, _), (3, _)] rfl ?_
        exact ks_cv (ih (vc + 1) _ xh2 hM hS hF (by omega) (by omega) (by rw [kU_n (by omega)]; exact e8) (fun j q1 q2 => by rw [kU_n (by omega)]; exact hu j q1 (by omega)) (fun j q1 q2 => by by_cases q : j = vc; { subst q; rw [kU_s]; exact hu _ (by omega) (by omega) }; { rw [kU_n (by omega)]; exact hsft j q1 (by omega) }) (by omega)) rfl rfl rfl
  refine ks_pick [1, 2, 3, 0] [(0, _), (1, _), (2, _), (3, _)] rfl ?_
  exact ks_cv (L15 _ _ _ xh1 hM hS hF (Nat.le_refl _) (by omega) kU_s (fun j q _ => kU_n q) (fun j q1 q2 => absurd q1 (by omega)) (Nat.lt_succ_self _)) rfl rfl rfl
