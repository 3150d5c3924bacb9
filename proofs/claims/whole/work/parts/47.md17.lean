
/-! THE MODEL: a kitten comes, strands are snipped, a leap is planned -/
theorem kMd.come {f f' : Nat → Int32} {b : Nat} {x : Int32} {se : Nat → Int32} {tu : Int32} {ki : Nat} {ma re : Int32} {kf : Nat → Nat → Int32} {L : List (Nat × Nat)} {P : List kP} (z : kMd f b (se, tu, ki, ma, re, kf, L, P)) (hk6 : ki < 6) (e5 : f' (b + 5) = nI (ki + 1)) (en : ∀ c, c < 7 → f' (b + 10 + 7 * ki + c) = kNewV x (se 3) c) (hu : ∀ j, j ≠ b + 5 → (j < b + 10 + 7 * ki ∨ b + 10 + 7 * ki + 7 ≤ j) → f' j = f j) : kMd f' b (se, tu, ki + 1, ma, re, fun c => upd (kf c) ki (kNewV x (se 3) c), L, P) := by
  obtain ⟨mS, m4, m5, m6, m7, m8, m9, mK, mP, mL, mki, mLl, mPl, mLp, mPp⟩ := z
  dsimp only at mS m4 m5 m6 m7 m8 m9 mK mP mL mki mLl mPl mLp mPp
  refine ⟨fun j hj => (hu _ (by omega) (by omega)).trans (mS j hj), (hu _ (by omega) (by omega)).trans m4, e5, (hu _ (by omega) (by omega)).trans m6, (hu _ (by omega) (by omega)).trans m7, (hu _ (by omega) (by omega)).trans m8, (hu _ (by omega) (by omega)).trans m9, fun k c hk hc => ?_, fun r t k y hr => ?_, fun i e w hi => (hu _ (by omega) (by omega)).trans (mL i e w hi), hk6, mLl, mPl, mLp, mPp⟩
  · have hk2 : k < ki + 1 := hk
    show f' (b + 10 + 7 * k + c) = upd (kf c) ki (kNewV x (se 3) c) k
    by_cases q : k = ki
    · subst q; rw [kU_s]; exact en c hc
    · rw [kU_n q]; exact (hu _ (by omega) (by omega)).trans (mK k c (by omega) hc)
  · obtain ⟨q1, q2, q3⟩ := mP r t k y hr
    exact ⟨(hu _ (by omega) (by omega)).trans q1, (hu _ (by omega) (by omega)).trans q2, (hu _ (by omega) (by omega)).trans q3⟩
/-- a plan's rows -/
def kRw (f : Nat → Int32) (b i : Nat) (t : Int32) (k : Nat) (y : Int32) : Prop := f (b + 52 + 3 * i) = t ∧ f (b + 52 + 3 * i + 1) = nI k ∧ f (b + 52 + 3 * i + 2) = y
theorem kget_ins {α : Type} {P : List α} {q : α} {c i : Nat} (hc : c ≤ P.length) : (P.take c ++ q :: P.drop c)[i]? = if i < c then P[i]? else if i = c then some q else P[i - 1]? := by
  have hl : (P.take c).length = c := by rw [List.length_take]; omega
  by_cases h1 : i < c
  · rw [if_pos h1, List.getElem?_append_left (by omega), List.getElem?_take_of_lt h1]
  · rw [if_neg h1, List.getElem?_append_right (by omega), hl]
    by_cases h2 : i = c
    · rw [if_pos h2, h2, Nat.sub_self]; rfl
    · rw [if_neg h2]
      obtain ⟨d, rfl⟩ : ∃ d, i = c + (d + 1) := ⟨i - c - 1, by omega⟩
      rw [show c + (d + 1) - c = d + 1 by omega, List.getElem?_cons_succ, List.getElem?_drop, show c + (d + 1) - 1 = c + d by omega]
theorem kMd.ins {f f' : Nat → Int32} {b c : Nat} {se : Nat → Int32} {tu : Int32} {ki : Nat} {ma re : Int32} {kf : Nat → Nat → Int32} {L : List (Nat × Nat)} {P : List kP} {q : kP} (z : kMd f b (se, tu, ki, ma, re, kf, L, P)) (hl : P.length < 16) (hq : q.2.1 < 6) (hc : c ≤ P.length) (e9 : f' (b + 9) = nI (P.length + 1)) (hu : ∀ j, j ≠ b + 9 → (j < b + 52 ∨ b + 100 ≤ j) → f' j = f j)
    (hr : ∀ (i : Nat) (t : Int32) (k : Nat) (y : Int32), P[i]? = some (t, k, y) → (i < c → kRw f' b i t k y) ∧ (c ≤ i → kRw f' b (i + 1) t k y)) (hr2 : kRw f' b c q.1 q.2.1 q.2.2) : kMd f' b (se, tu, ki, ma, re, kf, L, P.take c ++ q :: P.drop c) := by
  obtain ⟨mS, m4, m5, m6, m7, m8, m9, mK, mP, mL, mki, mLl, mPl, mLp, mPp⟩ := z
  dsimp only at mS m4 m5 m6 m7 m8 m9 mK mP mL mki mLl mPl mLp mPp
  have hlen : (P.take c ++ q :: P.drop c).length = P.length + 1 := by
    rw [List.length_append, List.length_cons, List.length_take, List.length_drop]; omega
  refine ⟨fun j hj => (hu _ (by omega) (by omega)).trans (mS j hj), (hu _ (by omega) (by omega)).trans m4, (hu _ (by omega) (by omega)).trans m5, (hu _ (by omega) (by omega)).trans m6, (hu _ (by omega) (by omega)).trans m7, (hu _ (by omega) (by omega)).trans m8, ?_, fun k c2 hk hc2 => ?_, fun r t k y hi => ?_, fun i e w hi => (hu _ (by omega) (by omega)).trans (mL i e w hi), mki, mLl, ?_, mLp, fun p hp => ?_⟩
  · show f' (b + 9) = nI (P.take c ++ q :: P.drop c).length
    rw [hlen]; exact e9
  · have hk2 : k < ki := hk
    exact (hu _ (by omega) (by omega)).trans (mK k c2 hk hc2)
  · have hi2 : (P.take c ++ q :: P.drop c)[r]? = some (t, k, y) := hi
    rw [kget_ins hc] at hi2
    by_cases h1 : r < c
    · rw [if_pos h1] at hi2; exact (hr r t k y hi2).1 h1
    · rw [if_neg h1] at hi2
      by_cases h2 : r = c
      · rw [if_pos h2] at hi2
        cases Option.some.inj hi2
        rw [h2]; exact hr2
      · rw [if_neg h2] at hi2
        have := (hr (r - 1) t k y hi2).2 (by omega)
        rw [show r - 1 + 1 = r by omega] at this
        exact this
  · show (P.take c ++ q :: P.drop c).length ≤ 16
    rw [hlen]; exact hl
  · rcases List.mem_append.mp (show p ∈ P.take c ++ q :: P.drop c from hp) with h | h
    · exact mPp p (List.mem_of_mem_take h)
    · rcases List.mem_cons.mp h with h | h
      · rw [h]; exact hq
      · exact mPp p (List.mem_of_mem_drop h)
theorem kCut_er {e k vi : Nat} {L : List (Nat × Nat)} {p : Nat × Nat} (hp : L[vi]? = some p) (hn : ¬ kNot e k p = true) : (kCut e k (L.take vi) ++ L.drop vi).eraseIdx (kCut e k (L.take vi)).length = kCut e k (L.take (vi + 1)) ++ L.drop (vi + 1) := by
  rw [kCut_take hp, if_neg hn, List.eraseIdx_append_of_length_le (Nat.le_refl _), Nat.sub_self, kdrop hp, List.eraseIdx_cons_zero]
theorem kCut_kp {e k vi : Nat} {L : List (Nat × Nat)} {p : Nat × Nat} (hp : L[vi]? = some p) (hn : kNot e k p = true) : kCut e k (L.take vi) ++ L.drop vi = kCut e k (L.take (vi + 1)) ++ L.drop (vi + 1) := by
  rw [kCut_take hp, if_pos hn, kdrop hp, List.append_assoc]; rfl
set_option maxRecDepth 100000 in
set_option maxHeartbeats 4000000 in
theorem c_Model_comes {g : ks_G} {h : ks_H} {m : Nat} {fs : List Value} {f : Nat → Int32} {se : Nat → Int32} {tu : Int32} {ki : Nat} {ma re : Int32} {kf : Nat → Nat → Int32} {L : List (Nat × Nat)} {P : List kP} {x : Int32} (hM : h[m]? = some (ks_O 7 (ks_ref g (m + 1) :: fs))) (hS : h[m + 1]? = some (ks_I g 3400 f)) (hmd : kMd f 0 (se, tu, ki, ma, re, kf, L, P)) (hk6 : ki < 6) : ks_Met g (yX7_comes, cX7_comes, 4, some .int) 1 0 0 [ks_ref g m, .int x] h (ks_Ph (fun r h' => r = nI ki ∧ kMP g m 0 h h' f (se, tu, ki + 1, ma, re, fun c => upd (kf c) ki (kNewV x (se 3) c), L, P))) := by
  obtain ⟨mS, m4, m5, m6, m7, m8, m9, mK, mP, mL, mki, mLl, mPl, mLp, mPp⟩ := id hmd
  dsimp only at mS m4 m5 m6 m7 m8 m9 mK mP mL mki mLl mPl mLp mPp
  refine ks_intro (by decide) (Nat.le_of_ble_eq_true rfl) (fun κ hκ hRt => ?_)
  refine ks_cv (ls := [(0, ks_ref g m), (1, .int x)]) ?_ rfl rfl rfl
  have hF : ks_Fr h h (m + 1) (m + 2) := ks_Fr.rf
  refine ks_iconst hκ 0 (nI 0) dX7_comes_0 kq_i0 ?_
  refine ks_aload_n hκ 1 0 dX7_comes_1 rfl ?_
  refine ks_get hκ 2 dX7_comes_2 kf_X7_7 hM rfl ?_
  refine ks_iconst hκ 5 (nI 5) dX7_comes_5 kq_i5 ?_
  refine ks_iald hκ 6 (5) dX7_comes_6 hS rfl (by omega) (by decide) ?_
  refine ks_top (nI ki) m5 ?_
  refine ks_pureS2 hκ 7 dX7_comes_7 kc_X7_28 (c_Model_kittenAt (b := 0)) (by decide) (Nat.le_of_ble_eq_true rfl) (by decide) (by decide) ?_
  refine ks_istore_n hκ 10 2 [(2, _), (0, _), (1, _)] dX7_comes_10 rfl (by decide) rfl ?_
  refine ks_iconst hκ 11 (nI 0) dX7_comes_11 kq_i0 ?_
  refine ks_istore_n hκ 12 3 [(3, _), (2, _), (0, _), (1, _)] dX7_comes_12 rfl (by decide) rfl ?_
  have L13 : ∀ (fuel : Nat) (vc : Nat) (f1 : Nat → Int32) (hh : ks_H) (hM : hh[m]? = some (ks_O 7 (ks_ref g (m + 1) :: fs))) (hS : hh[m + 1]? = some (ks_I g 3400 f1)) (hF : ks_Fr h hh (m + 1) (m + 2)) (hvc : vc ≤ 7) (hz : ∀ c, c < vc → f1 (0 + 10 + 7 * ki + c) = nI 0) (hu : ∀ j, (j < 0 + 10 + 7 * ki ∨ 0 + 10 + 7 * ki + vc ≤ j) → f1 j = f j) (hfuel : 7 - vc < fuel), ks_K κ g 4 hh 0 0 13 [(0, ks_ref g m), (1, .int x), (2, .int (nI (0 + 10 + 7 * ki))), (3, .int (nI vc))] [] := by
    intro fuel
    induction fuel with
    | zero => intro vc f1 hh hM hS hF hvc hz hu hfuel; exact absurd hfuel (Nat.not_lt_zero _)
    | succ fuel ih =>
      intro vc f1 hh hM hS hF hvc hz hu hfuel
      refine ks_iload_n hκ 13 3 dX7_comes_13 rfl ?_
      refine ks_bipush hκ 14 (nI 7) dX7_comes_14 kq_b7 ?_
      refine ks_icmp_ge hκ 16 34 dX7_comes_16 rfl (fun c16 => ?_) (fun c16 => ?_)
      · skip
        have c16 := (nI_leI (by omega) (by omega)).mp c16
        refine ks_aload_n hκ 34 0 dX7_comes_34 rfl ?_
        refine ks_get hκ 35 dX7_comes_35 kf_X7_7 hM rfl ?_
        refine ks_iload_n hκ 38 2 dX7_comes_38 rfl ?_
        refine ks_iload_n hκ 39 1 dX7_comes_39 rfl ?_
        refine ks_iast hκ 40 ((0 + 10 + 7 * ki)) dX7_comes_40 hS rfl (by omega) (by decide) ?_
        refine ks_gen (fun xh1 exh1 => ?_)
        replace hM := ks_gn exh1 (ks_nb (b := m) (i := 1) (j := 0) rfl) hM
        replace hS := ks_gs exh1 hS
        replace hF := ks_Fr.st hF exh1 (by omega) (by omega)
        clear exh1
        refine ks_aload_n hκ 41 0 dX7_comes_41 rfl ?_
        refine ks_get hκ 42 dX7_comes_42 kf_X7_7 hM rfl ?_
        refine ks_iload_n hκ 45 2 dX7_comes_45 rfl ?_
        refine ks_iconst hκ 46 (nI 1) dX7_comes_46 kq_i1 ?_
        refine ks_iaddN hκ 47 dX7_comes_47 ?_
        refine ks_aload_n hκ 48 0 dX7_comes_48 rfl ?_
        refine ks_get hκ 49 dX7_comes_49 kf_X7_7 hM rfl ?_
        refine ks_iconst hκ 52 (nI 3) dX7_comes_52 kq_i3 ?_
        refine ks_iald hκ 53 (3) dX7_comes_53 hS rfl (by omega) (by decide) ?_
        refine ks_top (se 3) (by rw [kU_n (by omega), hu _ (by omega)]; exact mS 3 (by decide)) ?_
        refine ks_iast hκ 54 (((0 + 10 + 7 * ki) + 1)) dX7_comes_54 hS rfl (by omega) (by decide) ?_
        refine ks_gen (fun xh2 exh2 => ?_)
        replace hM := ks_gn exh2 (ks_nb (b := m) (i := 1) (j := 0) rfl) hM
        replace hS := ks_gs exh2 hS
        replace hF := ks_Fr.st hF exh2 (by omega) (by omega)
        clear exh2
        refine ks_aload_n hκ 55 0 dX7_comes_55 rfl ?_
        refine ks_get hκ 56 dX7_comes_56 kf_X7_7 hM rfl ?_
        refine ks_iload_n hκ 59 2 dX7_comes_59 rfl ?_
        refine ks_iconst hκ 60 (nI 2) dX7_comes_60 kq_i2 ?_
        refine ks_iaddN hκ 61 dX7_comes_61 ?_
        refine ks_bipush hκ 62 (-6) dX7_comes_62 kq_bm6 ?_
        refine ks_iast hκ 64 (((0 + 10 + 7 * ki) + 2)) dX7_comes_64 hS rfl (by omega) (by decide) ?_
        refine ks_gen (fun xh3 exh3 => ?_)
        replace hM := ks_gn exh3 (ks_nb (b := m) (i := 1) (j := 0) rfl) hM
        replace hS := ks_gs exh3 hS
        replace hF := ks_Fr.st hF exh3 (by omega) (by omega)
        clear exh3
        refine ks_aload_n hκ 65 0 dX7_comes_65 rfl ?_
        refine ks_get hκ 66 dX7_comes_66 kf_X7_7 hM rfl ?_
        refine ks_iload_n hκ 69 2 dX7_comes_69 rfl ?_
        refine ks_iconst hκ 70 (nI 3) dX7_comes_70 kq_i3 ?_
        refine ks_iaddN hκ 71 dX7_comes_71 ?_
        refine ks_bipush hκ 72 (nI 40) dX7_comes_72 kq_b40 ?_
        refine ks_iast hκ 74 (((0 + 10 + 7 * ki) + 3)) dX7_comes_74 hS rfl (by omega) (by decide) ?_
        refine ks_gen (fun xh4 exh4 => ?_)
        replace hM := ks_gn exh4 (ks_nb (b := m) (i := 1) (j := 0) rfl) hM
        replace hS := ks_gs exh4 hS
        replace hF := ks_Fr.st hF exh4 (by omega) (by omega)
        clear exh4
        refine ks_aload_n hκ 75 0 dX7_comes_75 rfl ?_
        refine ks_get hκ 76 dX7_comes_76 kf_X7_7 hM rfl ?_
        refine ks_iconst hκ 79 (nI 5) dX7_comes_79 kq_i5 ?_
        refine ks_dup2 hκ 80 dX7_comes_80 rfl rfl ?_
        refine ks_iald hκ 81 (5) dX7_comes_81 hS rfl (by omega) (by decide) ?_
        refine ks_top (nI ki) (by rw [kU_n (by omega), kU_n (by omega), kU_n (by omega), kU_n (by omega), hu _ (by omega)]; exact m5) ?_
        refine ks_iconst hκ 82 (nI 1) dX7_comes_82 kq_i1 ?_
        refine ks_iaddN hκ 83 dX7_comes_83 ?_
        refine ks_iast hκ 84 (5) dX7_comes_84 hS rfl (by omega) (by decide) ?_
        refine ks_gen (fun xh5 exh5 => ?_)
        replace hM := ks_gn exh5 (ks_nb (b := m) (i := 1) (j := 0) rfl) hM
        replace hS := ks_gs exh5 hS
        replace hF := ks_Fr.st hF exh5 (by omega) (by omega)
        clear exh5
        refine ks_aload_n hκ 85 0 dX7_comes_85 rfl ?_
        refine ks_get hκ 86 dX7_comes_86 kf_X7_7 hM rfl ?_
        refine ks_iconst hκ 89 (nI 5) dX7_comes_89 kq_i5 ?_
        refine ks_iald hκ 90 (5) dX7_comes_90 hS rfl (by omega) (by decide) ?_
        refine ks_top (nI (ki + 1)) kU_s ?_
        refine ks_iconst hκ 91 (nI 1) dX7_comes_91 kq_i1 ?_
        refine ks_isubN hκ 92 dX7_comes_92 (by omega) ?_
        refine ks_iret hκ 93 hRt dX7_comes_93 (by decide) (by decide) rfl ?_
        refine ⟨_, rfl, by rw [Nat.add_sub_cancel], _, hS, hF, hmd.come hk6 kU_s (fun c hc => ?_) (fun j q1 q2 => ?_), fun j hj => ?_⟩
        · rcases (show c = 0 ∨ c = 1 ∨ c = 2 ∨ c = 3 ∨ c = 4 ∨ c = 5 ∨ c = 6 by omega) with rfl | rfl | rfl | rfl | rfl | rfl | rfl
          · exact (kU_n (by omega)).trans ((kU_n (by omega)).trans ((kU_n (by omega)).trans ((kU_n (by omega)).trans kU_s)))
          · exact (kU_n (by omega)).trans ((kU_n (by omega)).trans ((kU_n (by omega)).trans kU_s))
          · exact (kU_n (by omega)).trans ((kU_n (by omega)).trans kU_s)
          · exact (kU_n (by omega)).trans kU_s
          · exact (kU_n (by omega)).trans ((kU_n (by omega)).trans ((kU_n (by omega)).trans ((kU_n (by omega)).trans ((kU_n (by omega)).trans (hz _ (by omega))))))
          · exact (kU_n (by omega)).trans ((kU_n (by omega)).trans ((kU_n (by omega)).trans ((kU_n (by omega)).trans ((kU_n (by omega)).trans (hz _ (by omega))))))
          · exact (kU_n (by omega)).trans ((kU_n (by omega)).trans ((kU_n (by omega)).trans ((kU_n (by omega)).trans ((kU_n (by omega)).trans (hz _ (by omega))))))
        · rw [kU_n (by omega), kU_n (by omega), kU_n (by omega), kU_n (by omega), kU_n (by omega)]; exact hu j (by omega)
        · rw [kU_n (by omega), kU_n (by omega), kU_n (by omega), kU_n (by omega), kU_n (by omega)]; exact hu j (by omega)
      · skip
        have c16 := mt (nI_leI (by omega) (by omega)).mpr c16
        refine ks_aload_n hκ 19 0 dX7_comes_19 rfl ?_
        refine ks_get hκ 20 dX7_comes_20 kf_X7_7 hM rfl ?_
        refine ks_iload_n hκ 23 2 dX7_comes_23 rfl ?_
        refine ks_iload_n hκ 24 3 dX7_comes_24 rfl ?_
        refine ks_iaddN hκ 25 dX7_comes_25 ?_
        refine ks_iconst hκ 26 (nI 0) dX7_comes_26 kq_i0 ?_
        refine ks_iast hκ 27 (((0 + 10 + 7 * ki) + vc)) dX7_comes_27 hS rfl (by omega) (by decide) ?_
        refine ks_gen (fun xh6 exh6 => ?_)
        replace hM := ks_gn exh6 (ks_nb (b := m) (i := 1) (j := 0) rfl) hM
        replace hS := ks_gs exh6 hS
        replace hF := ks_Fr.st hF exh6 (by omega) (by omega)
        clear exh6
        refine ks_iinc hκ 28 3 3 (nI (vc + 1)) [(3, _), (0, _), (1, _), (2, _)] dX7_comes_28 rfl (ks_inc1 _) (by decide) rfl ?_
        refine ks_goto hκ 31 13 dX7_comes_31 rfl ?_
        refine ks_pick [1, 2, 3, 0] [(0, _), (1, _), (2, _), (3, _)] rfl ?_
        exact ks_cv (ih (vc + 1) _ xh6 hM hS hF (by omega) (fun c q => by by_cases z : c = vc; { subst z; rw [kU_s] }; { rw [kU_n (by omega)]; exact hz c (by omega) }) (fun j q => by rw [kU_n (by omega)]; exact hu j (by omega)) (by omega)) rfl rfl rfl
  refine ks_pick [2, 3, 1, 0] [(0, _), (1, _), (2, _), (3, _)] rfl ?_
  exact ks_cv (L13 _ 0 _ h hM hS hF (Nat.zero_le _) (fun c q => absurd q (Nat.not_lt_zero c)) (fun _ _ => rfl) (Nat.lt_succ_self _)) rfl rfl rfl
set_option maxRecDepth 100000 in
set_option maxHeartbeats 4000000 in
theorem c_Model_snips {g : ks_G} {h : ks_H} {m : Nat} {fs : List Value} {f : Nat → Int32} {se : Nat → Int32} {tu : Int32} {ki : Nat} {ma re : Int32} {kf : Nat → Nat → Int32} {L : List (Nat × Nat)} {P : List kP} {e k : Nat} (hM : h[m]? = some (ks_O 7 (ks_ref g (m + 1) :: fs))) (hS : h[m + 1]? = some (ks_I g 3400 f)) (hmd : kMd f 0 (se, tu, ki, ma, re, kf, L, P)) (he : e < 15) (hk : k < ki) : ks_Met g (yX7_snips, cX7_snips, 5, some .int) 1 0 0 [ks_ref g m, .int (nI e), .int (nI k)] h (ks_Ph (fun r h' => r = nI (L.length - (kCut e k L).length) ∧ kMP g m 0 h h' f (se, tu, ki, ma, re, kPut kf 6 k (kf 6 k + nI (L.length - (kCut e k L).length)), kCut e k L, P))) := by
  obtain ⟨mS, m4, m5, m6, m7, m8, m9, mK, mP, mL, mki, mLl, mPl, mLp, mPp⟩ := id hmd
  dsimp only at mS m4 m5 m6 m7 m8 m9 mK mP mL mki mLl mPl mLp mPp
  refine ks_intro (by decide) (Nat.le_of_ble_eq_true rfl) (fun κ hκ hRt => ?_)
  refine ks_cv (ls := [(0, ks_ref g m), (1, .int (nI e)), (2, .int (nI k))]) ?_ rfl rfl rfl
  have hF : ks_Fr h h (m + 1) (m + 2) := ks_Fr.rf
  refine ks_aload_n hκ 0 0 dX7_snips_0 rfl ?_
  refine ks_get hκ 1 dX7_snips_1 kf_X7_7 hM rfl ?_
  refine ks_bipush hκ 4 (nI 8) dX7_snips_4 kq_b8 ?_
  refine ks_iald hκ 6 (8) dX7_snips_6 hS rfl (by omega) (by decide) ?_
  refine ks_top (nI L.length) m8 ?_
  refine ks_istore_n hκ 7 3 [(3, _), (0, _), (1, _), (2, _)] dX7_snips_7 rfl (by decide) rfl ?_
  refine ks_iconst hκ 8 (nI 0) dX7_snips_8 kq_i0 ?_
  refine ks_istore hκ 9 4 [(4, _), (3, _), (0, _), (1, _), (2, _)] dX7_snips_9 (by decide) rfl ?_
  have L11 : ∀ (fuel : Nat) (vi vc : Nat) (f1 : Nat → Int32) (Lc : List (Nat × Nat)) (hh : ks_H) (hM : hh[m]? = some (ks_O 7 (ks_ref g (m + 1) :: fs))) (hS : hh[m + 1]? = some (ks_I g 3400 f1)) (hF : ks_Fr h hh (m + 1) (m + 2)) (hmd1 : kMd f1 0 (se, tu, ki, ma, re, kf, Lc, P)) (hout : ∀ j, (j < 0 ∨ 0 + 340 ≤ j) → f1 j = f j) (hvi : vi ≤ L.length) (hvc : vc = (kCut e k (L.take vi)).length) (hLc : Lc = kCut e k (L.take vi) ++ L.drop vi) (hfuel : L.length - vi < fuel), ks_K κ g 5 hh 0 0 11 [(0, ks_ref g m), (1, .int (nI e)), (2, .int (nI k)), (3, .int (nI L.length)), (4, .int (nI vc))] [] := by
    intro fuel
    induction fuel with
    | zero => intro vi vc f1 Lc hh hM hS hF hmd1 hout hvi hvc hLc hfuel; exact absurd hfuel (Nat.not_lt_zero _)
    | succ fuel ih =>
      intro vi vc f1 Lc hh hM hS hF hmd1 hout hvi hvc hLc hfuel
      have hlc : Lc.length = vc + (L.length - vi) := by rw [hLc, List.length_append, List.length_drop, ← hvc]
      have hvcl : vc ≤ vi := by rw [hvc]; exact kCut_tle2 hvi
      refine ks_iload hκ 11 4 dX7_snips_11 rfl ?_
      refine ks_aload_n hκ 13 0 dX7_snips_13 rfl ?_
      refine ks_get hκ 14 dX7_snips_14 kf_X7_7 hM rfl ?_
      refine ks_bipush hκ 17 (nI 8) dX7_snips_17 kq_b8 ?_
      refine ks_iald hκ 19 (8) dX7_snips_19 hS rfl (by omega) (by decide) ?_
      refine ks_top (nI Lc.length) hmd1.2.2.2.2.2.1 ?_
      refine ks_icmp_ge hκ 20 51 dX7_snips_20 rfl (fun c20 => ?_) (fun c20 => ?_)
      · skip
        have c20 := (nI_leI (by omega) (by omega)).mp c20
        have hvi2 : vi = L.length := by omega
        rw [hvi2, List.take_length, List.drop_length, List.append_nil] at hLc
        subst hLc
        refine ks_aload_n hκ 51 0 dX7_snips_51 rfl ?_
        refine ks_get hκ 52 dX7_snips_52 kf_X7_7 hM rfl ?_
        refine ks_iconst hκ 55 (nI 0) dX7_snips_55 kq_i0 ?_
        refine ks_iload_n hκ 56 2 dX7_snips_56 rfl ?_
        refine ks_pureS2 hκ 57 dX7_snips_57 kc_X7_28 (c_Model_kittenAt (b := 0)) (by decide) (Nat.le_of_ble_eq_true rfl) (by decide) (by decide) ?_
        refine ks_bipush hκ 60 (nI 6) dX7_snips_60 kq_b6 ?_
        refine ks_iaddN hκ 62 dX7_snips_62 ?_
        refine ks_dup2 hκ 63 dX7_snips_63 rfl rfl ?_
        refine ks_iald hκ 64 (((0 + 10 + 7 * k) + 6)) dX7_snips_64 hS rfl (by omega) (by decide) ?_
        refine ks_top (kf 6 k) (hmd1.fld (c := 6) hk (by decide)) ?_
        refine ks_iload_n hκ 65 3 dX7_snips_65 rfl ?_
        refine ks_aload_n hκ 66 0 dX7_snips_66 rfl ?_
        refine ks_get hκ 67 dX7_snips_67 kf_X7_7 hM rfl ?_
        refine ks_bipush hκ 70 (nI 8) dX7_snips_70 kq_b8 ?_
        refine ks_iald hκ 72 (8) dX7_snips_72 hS rfl (by omega) (by decide) ?_
        refine ks_top (nI ((kCut e k L).length)) hmd1.2.2.2.2.2.1 ?_
        refine ks_isubN hκ 73 dX7_snips_73 (by omega) ?_
        refine ks_iadd hκ 74 dX7_snips_74 ?_
        refine ks_iast hκ 75 (((0 + 10 + 7 * k) + 6)) dX7_snips_75 hS rfl (by omega) (by decide) ?_
        refine ks_gen (fun xh1 exh1 => ?_)
        replace hM := ks_gn exh1 (ks_nb (b := m) (i := 1) (j := 0) rfl) hM
        replace hS := ks_gs exh1 hS
        replace hF := ks_Fr.st hF exh1 (by omega) (by omega)
        clear exh1
        have hmd2 := hmd1.put (c := 6) (v := kf 6 k + nI (L.length - (kCut e k L).length)) hk (by decide)
        refine ks_iload_n hκ 76 3 dX7_snips_76 rfl ?_
        refine ks_aload_n hκ 77 0 dX7_snips_77 rfl ?_
        refine ks_get hκ 78 dX7_snips_78 kf_X7_7 hM rfl ?_
        refine ks_bipush hκ 81 (nI 8) dX7_snips_81 kq_b8 ?_
        refine ks_iald hκ 83 (8) dX7_snips_83 hS rfl (by omega) (by decide) ?_
        refine ks_top (nI ((kCut e k L).length)) hmd2.2.2.2.2.2.1 ?_
        refine ks_isubN hκ 84 dX7_snips_84 (by omega) ?_
        refine ks_iret hκ 85 hRt dX7_snips_85 (by decide) (by decide) rfl ?_
        exact ⟨_, rfl, rfl, _, hS, hF, hmd2, fun j hj => by rw [kU_n (by omega)]; exact hout j hj⟩
      · skip
        have c20 := mt (nI_leI (by omega) (by omega)).mpr c20
        obtain ⟨⟨p1, p2⟩, hp⟩ := kget (L := L) (i := vi) (by omega)
        have hp6 := (mLp (p1, p2) (List.mem_of_getElem? hp)).2
        dsimp only at hp6
        have hpc : Lc[vc]? = some (p1, p2) := by rw [hLc, List.getElem?_append_right (by omega), ← hvc, Nat.sub_self, kdrop hp]; rfl
        refine ks_aload_n hκ 23 0 dX7_snips_23 rfl ?_
        refine ks_iconst hκ 24 (nI 0) dX7_snips_24 kq_i0 ?_
        refine ks_iload hκ 25 4 dX7_snips_25 rfl ?_
        refine ks_iload_n hκ 27 1 dX7_snips_27 rfl ?_
        refine ks_pureV3 hκ 28 dX7_snips_28 kc_X7_32 (c_Model_ownerAt (b := 0) hM hS (by decide) hmd1 hpc he) hM rfl (by decide) (Nat.le_of_ble_eq_true rfl) (by decide) (by decide) ?_
        refine ks_iload_n hκ 31 2 dX7_snips_31 rfl ?_
        refine ks_icmp_ne hκ 32 45 dX7_snips_32 rfl (fun c32 => ?_) (fun c32 => ?_)
        · skip
          have hkn : kNot e k (p1, p2) = true := by
            unfold kNot
            rw [Bool.not_eq_true', Bool.and_eq_false_iff]
            by_cases q1 : p1 = e
            · exact Or.inr (by rw [beq_eq_false_iff_ne]; exact fun z => c32 (by rw [if_pos q1, show p2 = k from z]))
            · exact Or.inl (by rw [beq_eq_false_iff_ne]; exact q1)
          refine ks_iinc hκ 45 4 4 (nI (vc + 1)) [(4, _), (0, _), (1, _), (2, _), (3, _)] dX7_snips_45 rfl (ks_inc1 _) (by decide) rfl ?_
          refine ks_goto hκ 48 11 dX7_snips_48 rfl ?_
          refine ks_pick [1, 2, 3, 4, 0] [(0, _), (1, _), (2, _), (3, _), (4, _)] rfl ?_
          exact ks_cv (ih (vi + 1) (vc + 1) f1 Lc hh hM hS hF hmd1 hout (by omega) (by rw [kCut_take hp, if_pos hkn, List.length_append, ← hvc]; rfl) (by rw [hLc]; exact kCut_kp hp hkn) (by omega)) rfl rfl rfl
        · skip
          have hpp : p1 = e ∧ p2 = k := by
            by_cases q : p1 = e
            · rw [if_pos q] at c32; exact ⟨q, (nI_eq (by omega) (by omega)).mp c32⟩
            · rw [if_neg q] at c32; exact absurd c32.symm (nI_m6 (by omega))
          have hkn : ¬ kNot e k (p1, p2) = true := by unfold kNot; simp [hpp.1, hpp.2]
          refine ks_aload_n hκ 35 0 dX7_snips_35 rfl ?_
          refine ks_iconst hκ 36 (nI 0) dX7_snips_36 kq_i0 ?_
          refine ks_iload hκ 37 4 dX7_snips_37 rfl ?_
          refine ks_voidV2 hκ 39 dX7_snips_39 kc_X7_43 (c_Model_removesStrand (b := 0) (t := vc) hM hS (by decide) hmd1 (by omega)) hM rfl (by decide) (Nat.le_of_ble_eq_true rfl) (by decide) (by decide) (fun xh2 hp39 => ?_)
          obtain ⟨f2, hS, hF9, hmd2, hout2⟩ := hp39
          replace hM := hF9.at hM (by omega)
          replace hF := hF.tr (hF9.wd (by omega) (by omega))
          refine ks_goto hκ 42 11 dX7_snips_42 rfl ?_
          refine ks_pick [0, 1, 2, 3, 4] [(0, _), (1, _), (2, _), (3, _), (4, _)] rfl ?_
          exact ks_cv (ih (vi + 1) vc _ (Lc.eraseIdx vc) xh2 hM hS hF hmd2 (fun j hj => (hout2 j hj).trans (hout j hj)) (by omega) (by rw [kCut_take hp, if_neg hkn]; exact hvc) (by rw [hLc, hvc]; exact kCut_er hp hkn) (by omega)) rfl rfl rfl
  refine ks_pick [2, 3, 4, 1, 0] [(0, _), (1, _), (2, _), (3, _), (4, _)] rfl ?_
  exact ks_cv (L11 _ 0 0 _ L h hM hS hF hmd (fun _ _ => rfl) (Nat.zero_le _) rfl rfl (Nat.lt_succ_self _)) rfl rfl rfl
set_option maxRecDepth 100000 in
set_option maxHeartbeats 4000000 in
theorem c_Model_plans {g : ks_G} {h : ks_H} {m : Nat} {fs : List Value} {f : Nat → Int32} {se : Nat → Int32} {tu : Int32} {ki : Nat} {ma re : Int32} {kf : Nat → Nat → Int32} {L : List (Nat × Nat)} {P : List kP} {k : Nat} {n x : Int32} (hM : h[m]? = some (ks_O 7 (ks_ref g (m + 1) :: fs))) (hS : h[m + 1]? = some (ks_I g 3400 f)) (hmd : kMd f 0 (se, tu, ki, ma, re, kf, L, P)) (hk : k < 6) (hlt : P.length < 16) : ks_Met g (yX7_plans, cX7_plans, 7, some .int) 1 0 0 [ks_ref g m, .int n, .int (nI k), .int x] h (ks_Ph (fun r h' => r = nI (P.length + 1) ∧ kMP g m 0 h h' f (se, tu, ki, ma, re, kf, L, kIns P (tu + n, k, x)))) := by
  obtain ⟨mS, m4, m5, m6, m7, m8, m9, mK, mP, mL, mki, mLl, mPl, mLp, mPp⟩ := id hmd
  dsimp only at mS m4 m5 m6 m7 m8 m9 mK mP mL mki mLl mPl mLp mPp
  refine ks_intro (by decide) (Nat.le_of_ble_eq_true rfl) (fun κ hκ hRt => ?_)
  refine ks_cv (ls := [(0, ks_ref g m), (1, .int n), (2, .int (nI k)), (3, .int x)]) ?_ rfl rfl rfl
  have hF : ks_Fr h h (m + 1) (m + 2) := ks_Fr.rf
  refine ks_aload_n hκ 0 0 dX7_plans_0 rfl ?_
  refine ks_get hκ 1 dX7_plans_1 kf_X7_7 hM rfl ?_
  refine ks_iconst hκ 4 (nI 4) dX7_plans_4 kq_i4 ?_
  refine ks_iald hκ 5 (4) dX7_plans_5 hS rfl (by omega) (by decide) ?_
  refine ks_top (tu) (m4) ?_
  refine ks_iload_n hκ 6 1 dX7_plans_6 rfl ?_
  refine ks_iadd hκ 7 dX7_plans_7 ?_
  refine ks_istore hκ 8 4 [(4, _), (0, _), (1, _), (2, _), (3, _)] dX7_plans_8 (by decide) rfl ?_
  refine ks_aload_n hκ 10 1 dX7_plans_10 rfl ?_
  refine ks_get hκ 11 dX7_plans_11 kf_X7_7 hM rfl ?_
  refine ks_bipush hκ 14 (nI 9) dX7_plans_14 kq_b9 ?_
  refine ks_iald hκ 16 (9) dX7_plans_16 hS rfl (by omega) (by decide) ?_
  refine ks_top (nI P.length) m9 ?_
  refine ks_istore hκ 17 5 [(5, _), (4, _), (0, _), (1, _), (2, _), (3, _)] dX7_plans_17 (by decide) rfl ?_
  have L19 : ∀ (fuel : Nat) (vc : Nat) (f1 : Nat → Int32) (hh : ks_H) (hM : hh[m]? = some (ks_O 7 (ks_ref g (m + 1) :: fs))) (hS : hh[m + 1]? = some (ks_I g 3400 f1)) (hF : ks_Fr h hh (m + 1) (m + 2)) (hc : vc ≤ P.length) (hinv : kPlc P (tu + n) k vc = kPlc P (tu + n) k P.length) (hrow : ∀ (i : Nat) (t : Int32) (j : Nat) (y : Int32), P[i]? = some (t, j, y) → (i < vc → kRw f1 0 i t j y) ∧ (vc ≤ i → kRw f1 0 (i + 1) t j y)) (hu : ∀ j, (j < 52 ∨ 100 ≤ j) → f1 j = f j) (hfuel : vc < fuel), ks_K κ g 7 hh 0 0 19 [(0, ks_ref g m), (2, .int (nI k)), (3, .int x), (4, .int (tu + n)), (5, .int (nI vc))] [] := by
    intro fuel
    induction fuel with
    | zero => intro vc f1 hh hM hS hF hc hinv hrow hu hfuel; exact absurd hfuel (Nat.not_lt_zero _)
    | succ fuel ih =>
      intro vc f1 hh hM hS hF hc hinv hrow hu hfuel
      refine ks_iload hκ 19 4 dX7_plans_19 rfl ?_
      refine ks_if_le hκ 21 130 dX7_plans_21 rfl (fun c21 => ?_) (fun c21 => ?_)
      · skip
        have c21 := (ks_le0 (by omega)).mp c21
        have hfin : kPlc P (tu + n) k P.length = vc := by rw [← hinv, c21]; rfl
        refine ks_aload_n hκ 130 0 dX7_plans_130 rfl ?_
        refine ks_get hκ 131 dX7_plans_131 kf_X7_7 hM rfl ?_
        refine ks_iconst hκ 134 (nI 0) dX7_plans_134 kq_i0 ?_
        refine ks_iload hκ 135 4 dX7_plans_135 rfl ?_
        refine ks_pureS2 hκ 137 dX7_plans_137 kc_X7_87 (c_Model_planAt (b := 0)) (by decide) (Nat.le_of_ble_eq_true rfl) (by decide) (by decide) ?_
        refine ks_iload hκ 140 3 dX7_plans_140 rfl ?_
        refine ks_iast hκ 142 ((0 + 52 + 3 * vc)) dX7_plans_142 hS rfl (by omega) (by decide) ?_
        refine ks_gen (fun xh1 exh1 => ?_)
        replace hM := ks_gn exh1 (ks_nb (b := m) (i := 1) (j := 0) rfl) hM
        replace hS := ks_gs exh1 hS
        replace hF := ks_Fr.st hF exh1 (by omega) (by omega)
        clear exh1
        refine ks_aload_n hκ 143 0 dX7_plans_143 rfl ?_
        refine ks_get hκ 144 dX7_plans_144 kf_X7_7 hM rfl ?_
        refine ks_iconst hκ 147 (nI 0) dX7_plans_147 kq_i0 ?_
        refine ks_iload hκ 148 4 dX7_plans_148 rfl ?_
        refine ks_pureS2 hκ 150 dX7_plans_150 kc_X7_87 (c_Model_planAt (b := 0)) (by decide) (Nat.le_of_ble_eq_true rfl) (by decide) (by decide) ?_
        refine ks_iconst hκ 153 (nI 1) dX7_plans_153 kq_i1 ?_
        refine ks_iaddN hκ 154 dX7_plans_154 ?_
        refine ks_iload_n hκ 155 1 dX7_plans_155 rfl ?_
        refine ks_iast hκ 156 (((0 + 52 + 3 * vc) + 1)) dX7_plans_156 hS rfl (by omega) (by decide) ?_
        refine ks_gen (fun xh2 exh2 => ?_)
        replace hM := ks_gn exh2 (ks_nb (b := m) (i := 1) (j := 0) rfl) hM
        replace hS := ks_gs exh2 hS
        replace hF := ks_Fr.st hF exh2 (by omega) (by omega)
        clear exh2
        refine ks_aload_n hκ 157 0 dX7_plans_157 rfl ?_
        refine ks_get hκ 158 dX7_plans_158 kf_X7_7 hM rfl ?_
        refine ks_iconst hκ 161 (nI 0) dX7_plans_161 kq_i0 ?_
        refine ks_iload hκ 162 4 dX7_plans_162 rfl ?_
        refine ks_pureS2 hκ 164 dX7_plans_164 kc_X7_87 (c_Model_planAt (b := 0)) (by decide) (Nat.le_of_ble_eq_true rfl) (by decide) (by decide) ?_
        refine ks_iconst hκ 167 (nI 2) dX7_plans_167 kq_i2 ?_
        refine ks_iaddN hκ 168 dX7_plans_168 ?_
        refine ks_iload_n hκ 169 2 dX7_plans_169 rfl ?_
        refine ks_iast hκ 170 (((0 + 52 + 3 * vc) + 2)) dX7_plans_170 hS rfl (by omega) (by decide) ?_
        refine ks_gen (fun xh3 exh3 => ?_)
        replace hM := ks_gn exh3 (ks_nb (b := m) (i := 1) (j := 0) rfl) hM
        replace hS := ks_gs exh3 hS
        replace hF := ks_Fr.st hF exh3 (by omega) (by omega)
        clear exh3
        refine ks_aload_n hκ 171 0 dX7_plans_171 rfl ?_
        refine ks_get hκ 172 dX7_plans_172 kf_X7_7 hM rfl ?_
        refine ks_bipush hκ 175 (nI 9) dX7_plans_175 kq_b9 ?_
        refine ks_dup2 hκ 177 dX7_plans_177 rfl rfl ?_
        refine ks_iald hκ 178 (9) dX7_plans_178 hS rfl (by omega) (by decide) ?_
        refine ks_top (nI P.length) (by rw [kU_n (by omega), kU_n (by omega), kU_n (by omega), hu _ (by omega)]; exact m9) ?_
        refine ks_iconst hκ 179 (nI 1) dX7_plans_179 kq_i1 ?_
        refine ks_iaddN hκ 180 dX7_plans_180 ?_
        refine ks_iast hκ 181 (9) dX7_plans_181 hS rfl (by omega) (by decide) ?_
        refine ks_gen (fun xh4 exh4 => ?_)
        replace hM := ks_gn exh4 (ks_nb (b := m) (i := 1) (j := 0) rfl) hM
        replace hS := ks_gs exh4 hS
        replace hF := ks_Fr.st hF exh4 (by omega) (by omega)
        clear exh4
        refine ks_aload_n hκ 182 0 dX7_plans_182 rfl ?_
        refine ks_get hκ 183 dX7_plans_183 kf_X7_7 hM rfl ?_
        refine ks_bipush hκ 186 (nI 9) dX7_plans_186 kq_b9 ?_
        refine ks_iald hκ 188 (9) dX7_plans_188 hS rfl (by omega) (by decide) ?_
        refine ks_top (nI (P.length + 1)) kU_s ?_
        refine ks_iret hκ 189 hRt dX7_plans_189 (by decide) (by decide) rfl ?_
        refine ⟨_, rfl, rfl, _, hS, hF, ?_, fun j hj => ?_⟩
        · unfold kIns
          dsimp only
          rw [hfin]
          refine hmd.ins hlt hk hc kU_s (fun j q1 q2 => ?_) (fun i t j y hi => ⟨fun q => ?_, fun q => ?_⟩) ⟨?_, ?_, ?_⟩
          · rw [kU_n (by omega), kU_n (by omega), kU_n (by omega), kU_n (by omega)]; exact hu j (by omega)
          · obtain ⟨a1, a2, a3⟩ := (hrow i t j y hi).1 q
            exact ⟨by rw [kU_n (by omega), kU_n (by omega), kU_n (by omega), kU_n (by omega)]; exact a1, by rw [kU_n (by omega), kU_n (by omega), kU_n (by omega), kU_n (by omega)]; exact a2, by rw [kU_n (by omega), kU_n (by omega), kU_n (by omega), kU_n (by omega)]; exact a3⟩
          · obtain ⟨a1, a2, a3⟩ := (hrow i t j y hi).2 q
            exact ⟨by rw [kU_n (by omega), kU_n (by omega), kU_n (by omega), kU_n (by omega)]; exact a1, by rw [kU_n (by omega), kU_n (by omega), kU_n (by omega), kU_n (by omega)]; exact a2, by rw [kU_n (by omega), kU_n (by omega), kU_n (by omega), kU_n (by omega)]; exact a3⟩
          · exact (kU_n (by omega)).trans ((kU_n (by omega)).trans ((kU_n (by omega)).trans kU_s))
          · exact (kU_n (by omega)).trans ((kU_n (by omega)).trans kU_s)
          · exact (kU_n (by omega)).trans kU_s
        · rw [kU_n (by omega), kU_n (by omega), kU_n (by omega), kU_n (by omega)]; exact hu j (by omega)
      · skip
        have c21 := mt (ks_le0 (by omega)).mpr c21
        obtain ⟨vj, rfl⟩ : ∃ vj, vc = vj + 1 := ⟨vc - 1, by omega⟩
        obtain ⟨p, hp⟩ := kget (L := P) (i := vj) (by omega)
        obtain ⟨e1, e2, e3⟩ := (hrow vj p.1 p.2.1 p.2.2 hp).1 (by omega)
        refine ks_aload_n hκ 24 0 dX7_plans_24 rfl ?_
        refine ks_get hκ 25 dX7_plans_25 kf_X7_7 hM rfl ?_
        refine ks_iconst hκ 28 (nI 0) dX7_plans_28 kq_i0 ?_
        refine ks_iload hκ 29 4 dX7_plans_29 rfl ?_
        refine ks_iconst hκ 31 (nI 1) dX7_plans_31 kq_i1 ?_
        refine ks_isubN hκ 32 dX7_plans_32 (by omega) ?_
        refine ks_top (nI vj) (by rw [Nat.add_sub_cancel]) ?_
        refine ks_pureS2 hκ 33 dX7_plans_33 kc_X7_87 (c_Model_planAt (b := 0)) (by decide) (Nat.le_of_ble_eq_true rfl) (by decide) (by decide) ?_
        refine ks_iald hκ 36 ((0 + 52 + 3 * vj)) dX7_plans_36 hS rfl (by omega) (by decide) ?_
        refine ks_top (p.1) (e1) ?_
        refine ks_iload hκ 37 3 dX7_plans_37 rfl ?_
        refine ks_icmp_gt hκ 39 79 dX7_plans_39 rfl (fun c39 => ?_) (fun c39 => ?_)
        · skip
          have hlat : ¬ kLat p.1 (nI p.2.1) (tu + n) (nI k) = 0 := by unfold kLat; rw [if_neg (fun (q : p.1 = tu + n) => by rw [q] at c39; exact Int32.lt_irrefl c39), if_neg (Int32.not_le.mpr c39)]; decide
          refine ks_iconst hκ 79 (nI 0) dX7_plans_79 kq_i0 ?_
          refine ks_istore hκ 80 6 [(6, _), (0, _), (2, _), (3, _), (4, _), (5, _)] dX7_plans_80 (by decide) rfl ?_
          have L82 : ∀ (fuel2 : Nat) (vi : Nat) (f2 : Nat → Int32) (hi : ks_H) (hM : hi[m]? = some (ks_O 7 (ks_ref g (m + 1) :: fs))) (hS : hi[m + 1]? = some (ks_I g 3400 f2)) (hF : ks_Fr h hi (m + 1) (m + 2)) (hvi : vi ≤ 3) (hcp : ∀ i, i < vi → f2 (0 + 52 + 3 * (vj + 1) + i) = f1 (0 + 52 + 3 * vj + i)) (hun : ∀ j, (j < 0 + 52 + 3 * (vj + 1) ∨ 0 + 52 + 3 * (vj + 1) + vi ≤ j) → f2 j = f1 j) (hfuel2 : 3 - vi < fuel2), ks_K κ g 7 hi 0 0 82 [(0, ks_ref g m), (2, .int (nI k)), (3, .int x), (4, .int (tu + n)), (5, .int (nI (vj + 1))), (6, .int (nI vi))] [] := by
            intro fuel2
            induction fuel2 with
            | zero => intro vi f2 hi hM hS hF hvi hcp hun hfuel2; exact absurd hfuel2 (Nat.not_lt_zero _)
            | succ fuel2 ih2 =>
              intro vi f2 hi hM hS hF hvi hcp hun hfuel2
              refine ks_iload hκ 82 5 dX7_plans_82 rfl ?_
              refine ks_iconst hκ 84 (nI 3) dX7_plans_84 kq_i3 ?_
              refine ks_icmp_ge hκ 85 124 dX7_plans_85 rfl (fun c85 => ?_) (fun c85 => ?_)
              · skip
                have c85 := (nI_leI (by omega) (by omega)).mp c85
                have hv3 : vi = 3 := by omega
                subst hv3
                have hrow2 : ∀ (i : Nat) (t : Int32) (j : Nat) (y : Int32), P[i]? = some (t, j, y) → (i < vj → kRw f2 0 i t j y) ∧ (vj ≤ i → kRw f2 0 (i + 1) t j y) := fun i t j y hi => by
                  refine ⟨fun q => ?_, fun q => ?_⟩
                  · obtain ⟨a1, a2, a3⟩ := (hrow i t j y hi).1 (by omega)
                    exact ⟨(hun _ (by omega)).trans a1, (hun _ (by omega)).trans a2, (hun _ (by omega)).trans a3⟩
                  · by_cases z : i = vj
                    · subst z
                      obtain ⟨a1, a2, a3⟩ := (hrow i t j y hi).1 (by omega)
                      exact ⟨(hcp 0 (by decide)).trans a1, (hcp 1 (by decide)).trans a2, (hcp 2 (by decide)).trans a3⟩
                    · obtain ⟨a1, a2, a3⟩ := (hrow i t j y hi).2 (by omega)
                      exact ⟨(hun _ (by omega)).trans a1, (hun _ (by omega)).trans a2, (hun _ (by omega)).trans a3⟩
                refine ks_iinc hκ 124 5 4 (nI ((vj + 1) - 1)) [(5, _), (0, _), (2, _), (3, _), (4, _), (6, _)] dX7_plans_124 rfl (ks_dec1 (by omega)) (by decide) rfl ?_
                refine ks_goto hκ 127 19 dX7_plans_127 rfl ?_
                refine ks_pick [1, 2, 3, 4, 0] [(0, _), (2, _), (3, _), (4, _), (5, _)] rfl ?_
                exact ks_cv (ih vj _ hi hM hS hF (by omega) (by rw [← hinv, kPlc_s hp, if_neg hlat]) hrow2 (fun j hj => by rw [hun j (by omega)]; exact hu j hj) (by omega)) rfl rfl rfl
              · skip
                have c85 := mt (nI_leI (by omega) (by omega)).mpr c85
                refine ks_aload_n hκ 88 0 dX7_plans_88 rfl ?_
                refine ks_get hκ 89 dX7_plans_89 kf_X7_7 hM rfl ?_
                refine ks_iconst hκ 92 (nI 0) dX7_plans_92 kq_i0 ?_
                refine ks_iload hκ 93 4 dX7_plans_93 rfl ?_
                refine ks_pureS2 hκ 95 dX7_plans_95 kc_X7_87 (c_Model_planAt (b := 0)) (by decide) (Nat.le_of_ble_eq_true rfl) (by decide) (by decide) ?_
                refine ks_iload hκ 98 5 dX7_plans_98 rfl ?_
                refine ks_iaddN hκ 100 dX7_plans_100 ?_
                refine ks_aload_n hκ 101 0 dX7_plans_101 rfl ?_
                refine ks_get hκ 102 dX7_plans_102 kf_X7_7 hM rfl ?_
                refine ks_iconst hκ 105 (nI 0) dX7_plans_105 kq_i0 ?_
                refine ks_iload hκ 106 4 dX7_plans_106 rfl ?_
                refine ks_iconst hκ 108 (nI 1) dX7_plans_108 kq_i1 ?_
                refine ks_isubN hκ 109 dX7_plans_109 (by omega) ?_
                refine ks_top (nI vj) (by rw [Nat.add_sub_cancel]) ?_
                refine ks_pureS2 hκ 110 dX7_plans_110 kc_X7_87 (c_Model_planAt (b := 0)) (by decide) (Nat.le_of_ble_eq_true rfl) (by decide) (by decide) ?_
                refine ks_iload hκ 113 5 dX7_plans_113 rfl ?_
                refine ks_iaddN hκ 115 dX7_plans_115 ?_
                refine ks_iald hκ 116 (((0 + 52 + 3 * vj) + vi)) dX7_plans_116 hS rfl (by omega) (by decide) ?_
                refine ks_iast hκ 117 (((0 + 52 + 3 * (vj + 1)) + vi)) dX7_plans_117 hS rfl (by omega) (by decide) ?_
                refine ks_gen (fun xh5 exh5 => ?_)
                replace hM := ks_gn exh5 (ks_nb (b := m) (i := 1) (j := 0) rfl) hM
                replace hS := ks_gs exh5 hS
                replace hF := ks_Fr.st hF exh5 (by omega) (by omega)
                clear exh5
                refine ks_iinc hκ 118 6 5 (nI (vi + 1)) [(6, _), (0, _), (2, _), (3, _), (4, _), (5, _)] dX7_plans_118 rfl (ks_inc1 _) (by decide) rfl ?_
                refine ks_goto hκ 121 82 dX7_plans_121 rfl ?_
                refine ks_pick [1, 2, 3, 4, 5, 0] [(0, _), (2, _), (3, _), (4, _), (5, _), (6, _)] rfl ?_
                exact ks_cv (ih2 (vi + 1) _ xh5 hM hS hF (by omega) (fun i q => by by_cases z : i = vi; { subst z; rw [kU_s]; exact hun _ (by omega) }; { rw [kU_n (by omega)]; exact hcp i (by omega) }) (fun j q => by rw [kU_n (by omega)]; exact hun j (by omega)) (by omega)) rfl rfl rfl
          refine ks_pick [1, 2, 3, 4, 5, 0] [(0, _), (2, _), (3, _), (4, _), (5, _), (6, _)] rfl ?_
          exact ks_cv (L82 _ 0 _ hh hM hS hF (Nat.zero_le _) (fun i q => absurd q (Nat.not_lt_zero i)) (fun _ _ => rfl) (Nat.lt_succ_self _)) rfl rfl rfl
        · skip
          refine ks_aload_n hκ 42 0 dX7_plans_42 rfl ?_
          refine ks_get hκ 43 dX7_plans_43 kf_X7_7 hM rfl ?_
          refine ks_iconst hκ 46 (nI 0) dX7_plans_46 kq_i0 ?_
          refine ks_iload hκ 47 4 dX7_plans_47 rfl ?_
          refine ks_iconst hκ 49 (nI 1) dX7_plans_49 kq_i1 ?_
          refine ks_isubN hκ 50 dX7_plans_50 (by omega) ?_
          refine ks_top (nI vj) (by rw [Nat.add_sub_cancel]) ?_
          refine ks_pureS2 hκ 51 dX7_plans_51 kc_X7_87 (c_Model_planAt (b := 0)) (by decide) (Nat.le_of_ble_eq_true rfl) (by decide) (by decide) ?_
          refine ks_iald hκ 54 ((0 + 52 + 3 * vj)) dX7_plans_54 hS rfl (by omega) (by decide) ?_
          refine ks_top (p.1) (e1) ?_
          refine ks_iload hκ 55 3 dX7_plans_55 rfl ?_
          refine ks_icmp_ne hκ 57 130 dX7_plans_57 rfl (fun c57 => ?_) (fun c57 => ?_)
          · skip
            have hfin : kPlc P (tu + n) k P.length = vj + 1 := by rw [← hinv, kPlc_s hp, if_pos (by unfold kLat; rw [if_neg c57, if_pos (Int32.not_lt.mp c39)]; rfl)]
            refine ks_aload_n hκ 130 0 dX7_plans_130 rfl ?_
            refine ks_get hκ 131 dX7_plans_131 kf_X7_7 hM rfl ?_
            refine ks_iconst hκ 134 (nI 0) dX7_plans_134 kq_i0 ?_
            refine ks_iload hκ 135 4 dX7_plans_135 rfl ?_
            refine ks_pureS2 hκ 137 dX7_plans_137 kc_X7_87 (c_Model_planAt (b := 0)) (by decide) (Nat.le_of_ble_eq_true rfl) (by decide) (by decide) ?_
            refine ks_iload hκ 140 3 dX7_plans_140 rfl ?_
            refine ks_iast hκ 142 ((0 + 52 + 3 * (vj + 1))) dX7_plans_142 hS rfl (by omega) (by decide) ?_
            refine ks_gen (fun xh6 exh6 => ?_)
            replace hM := ks_gn exh6 (ks_nb (b := m) (i := 1) (j := 0) rfl) hM
            replace hS := ks_gs exh6 hS
            replace hF := ks_Fr.st hF exh6 (by omega) (by omega)
            clear exh6
            refine ks_aload_n hκ 143 0 dX7_plans_143 rfl ?_
            refine ks_get hκ 144 dX7_plans_144 kf_X7_7 hM rfl ?_
            refine ks_iconst hκ 147 (nI 0) dX7_plans_147 kq_i0 ?_
            refine ks_iload hκ 148 4 dX7_plans_148 rfl ?_
            refine ks_pureS2 hκ 150 dX7_plans_150 kc_X7_87 (c_Model_planAt (b := 0)) (by decide) (Nat.le_of_ble_eq_true rfl) (by decide) (by decide) ?_
            refine ks_iconst hκ 153 (nI 1) dX7_plans_153 kq_i1 ?_
            refine ks_iaddN hκ 154 dX7_plans_154 ?_
            refine ks_iload_n hκ 155 1 dX7_plans_155 rfl ?_
            refine ks_iast hκ 156 (((0 + 52 + 3 * (vj + 1)) + 1)) dX7_plans_156 hS rfl (by omega) (by decide) ?_
            refine ks_gen (fun xh7 exh7 => ?_)
            replace hM := ks_gn exh7 (ks_nb (b := m) (i := 1) (j := 0) rfl) hM
            replace hS := ks_gs exh7 hS
            replace hF := ks_Fr.st hF exh7 (by omega) (by omega)
            clear exh7
            refine ks_aload_n hκ 157 0 dX7_plans_157 rfl ?_
            refine ks_get hκ 158 dX7_plans_158 kf_X7_7 hM rfl ?_
            refine ks_iconst hκ 161 (nI 0) dX7_plans_161 kq_i0 ?_
            refine ks_iload hκ 162 4 dX7_plans_162 rfl ?_
            refine ks_pureS2 hκ 164 dX7_plans_164 kc_X7_87 (c_Model_planAt (b := 0)) (by decide) (Nat.le_of_ble_eq_true rfl) (by decide) (by decide) ?_
            refine ks_iconst hκ 167 (nI 2) dX7_plans_167 kq_i2 ?_
            refine ks_iaddN hκ 168 dX7_plans_168 ?_
            refine ks_iload_n hκ 169 2 dX7_plans_169 rfl ?_
            refine ks_iast hκ 170 (((0 + 52 + 3 * (vj + 1)) + 2)) dX7_plans_170 hS rfl (by omega) (by decide) ?_
            refine ks_gen (fun xh8 exh8 => ?_)
            replace hM := ks_gn exh8 (ks_nb (b := m) (i := 1) (j := 0) rfl) hM
            replace hS := ks_gs exh8 hS
            replace hF := ks_Fr.st hF exh8 (by omega) (by omega)
            clear exh8
            refine ks_aload_n hκ 171 0 dX7_plans_171 rfl ?_
            refine ks_get hκ 172 dX7_plans_172 kf_X7_7 hM rfl ?_
            refine ks_bipush hκ 175 (nI 9) dX7_plans_175 kq_b9 ?_
            refine ks_dup2 hκ 177 dX7_plans_177 rfl rfl ?_
            refine ks_iald hκ 178 (9) dX7_plans_178 hS rfl (by omega) (by decide) ?_
            refine ks_top (nI P.length) (by rw [kU_n (by omega), kU_n (by omega), kU_n (by omega), hu _ (by omega)]; exact m9) ?_
            refine ks_iconst hκ 179 (nI 1) dX7_plans_179 kq_i1 ?_
            refine ks_iaddN hκ 180 dX7_plans_180 ?_
            refine ks_iast hκ 181 (9) dX7_plans_181 hS rfl (by omega) (by decide) ?_
            refine ks_gen (fun xh9 exh9 => ?_)
            replace hM := ks_gn exh9 (ks_nb (b := m) (i := 1) (j := 0) rfl) hM
            replace hS := ks_gs exh9 hS
            replace hF := ks_Fr.st hF exh9 (by omega) (by omega)
            clear exh9
            refine ks_aload_n hκ 182 0 dX7_plans_182 rfl ?_
            refine ks_get hκ 183 dX7_plans_183 kf_X7_7 hM rfl ?_
            refine ks_bipush hκ 186 (nI 9) dX7_plans_186 kq_b9 ?_
            refine ks_iald hκ 188 (9) dX7_plans_188 hS rfl (by omega) (by decide) ?_
            refine ks_top (nI (P.length + 1)) kU_s ?_
            refine ks_iret hκ 189 hRt dX7_plans_189 (by decide) (by decide) rfl ?_
            refine ⟨_, rfl, rfl, _, hS, hF, ?_, fun j hj => ?_⟩
            · unfold kIns
              dsimp only
              rw [hfin]
              refine hmd.ins hlt hk hc kU_s (fun j q1 q2 => ?_) (fun i t j y hi => ⟨fun q => ?_, fun q => ?_⟩) ⟨?_, ?_, ?_⟩
              · rw [kU_n (by omega), kU_n (by omega), kU_n (by omega), kU_n (by omega)]; exact hu j (by omega)
              · obtain ⟨a1, a2, a3⟩ := (hrow i t j y hi).1 q
                exact ⟨by rw [kU_n (by omega), kU_n (by omega), kU_n (by omega), kU_n (by omega)]; exact a1, by rw [kU_n (by omega), kU_n (by omega), kU_n (by omega), kU_n (by omega)]; exact a2, by rw [kU_n (by omega), kU_n (by omega), kU_n (by omega), kU_n (by omega)]; exact a3⟩
              · obtain ⟨a1, a2, a3⟩ := (hrow i t j y hi).2 q
                exact ⟨by rw [kU_n (by omega), kU_n (by omega), kU_n (by omega), kU_n (by omega)]; exact a1, by rw [kU_n (by omega), kU_n (by omega), kU_n (by omega), kU_n (by omega)]; exact a2, by rw [kU_n (by omega), kU_n (by omega), kU_n (by omega), kU_n (by omega)]; exact a3⟩
              · exact (kU_n (by omega)).trans ((kU_n (by omega)).trans ((kU_n (by omega)).trans kU_s))
              · exact (kU_n (by omega)).trans ((kU_n (by omega)).trans kU_s)
              · exact (kU_n (by omega)).trans kU_s
            · rw [kU_n (by omega), kU_n (by omega), kU_n (by omega), kU_n (by omega)]; exact hu j (by omega)
          · skip
            refine ks_aload_n hκ 60 0 dX7_plans_60 rfl ?_
            refine ks_get hκ 61 dX7_plans_61 kf_X7_7 hM rfl ?_
            refine ks_iconst hκ 64 (nI 0) dX7_plans_64 kq_i0 ?_
            refine ks_iload hκ 65 4 dX7_plans_65 rfl ?_
            refine ks_iconst hκ 67 (nI 1) dX7_plans_67 kq_i1 ?_
            refine ks_isubN hκ 68 dX7_plans_68 (by omega) ?_
            refine ks_top (nI vj) (by rw [Nat.add_sub_cancel]) ?_
            have hp26 := mPp p (List.mem_of_getElem? hp)
            refine ks_pureS2 hκ 69 dX7_plans_69 kc_X7_87 (c_Model_planAt (b := 0)) (by decide) (Nat.le_of_ble_eq_true rfl) (by decide) (by decide) ?_
            refine ks_iconst hκ 72 (nI 1) dX7_plans_72 kq_i1 ?_
            refine ks_iaddN hκ 73 dX7_plans_73 ?_
            refine ks_iald hκ 74 (((0 + 52 + 3 * vj) + 1)) dX7_plans_74 hS rfl (by omega) (by decide) ?_
            refine ks_top (nI p.2.1) e2 ?_
            refine ks_iload_n hκ 75 1 dX7_plans_75 rfl ?_
            refine ks_icmp_le hκ 76 130 dX7_plans_76 rfl (fun c76 => ?_) (fun c76 => ?_)
            · skip
              have c76 := (nI_leI (by omega) (by omega)).mp c76
              have hfin : kPlc P (tu + n) k P.length = vj + 1 := by rw [← hinv, kPlc_s hp, if_pos (by unfold kLat; rw [if_pos c57, if_pos ((nI_leI (by omega) (by omega)).mpr c76)]; rfl)]
              refine ks_aload_n hκ 130 0 dX7_plans_130 rfl ?_
              refine ks_get hκ 131 dX7_plans_131 kf_X7_7 hM rfl ?_
              refine ks_iconst hκ 134 (nI 0) dX7_plans_134 kq_i0 ?_
              refine ks_iload hκ 135 4 dX7_plans_135 rfl ?_
              refine ks_pureS2 hκ 137 dX7_plans_137 kc_X7_87 (c_Model_planAt (b := 0)) (by decide) (Nat.le_of_ble_eq_true rfl) (by decide) (by decide) ?_
              refine ks_iload hκ 140 3 dX7_plans_140 rfl ?_
              refine ks_iast hκ 142 ((0 + 52 + 3 * (vj + 1))) dX7_plans_142 hS rfl (by omega) (by decide) ?_
              refine ks_gen (fun xh10 exh10 => ?_)
              replace hM := ks_gn exh10 (ks_nb (b := m) (i := 1) (j := 0) rfl) hM
              replace hS := ks_gs exh10 hS
              replace hF := ks_Fr.st hF exh10 (by omega) (by omega)
              clear exh10
              refine ks_aload_n hκ 143 0 dX7_plans_143 rfl ?_
              refine ks_get hκ 144 dX7_plans_144 kf_X7_7 hM rfl ?_
              refine ks_iconst hκ 147 (nI 0) dX7_plans_147 kq_i0 ?_
              refine ks_iload hκ 148 4 dX7_plans_148 rfl ?_
              refine ks_pureS2 hκ 150 dX7_plans_150 kc_X7_87 (c_Model_planAt (b := 0)) (by decide) (Nat.le_of_ble_eq_true rfl) (by decide) (by decide) ?_
              refine ks_iconst hκ 153 (nI 1) dX7_plans_153 kq_i1 ?_
              refine ks_iaddN hκ 154 dX7_plans_154 ?_
              refine ks_iload_n hκ 155 1 dX7_plans_155 rfl ?_
              refine ks_iast hκ 156 (((0 + 52 + 3 * (vj + 1)) + 1)) dX7_plans_156 hS rfl (by omega) (by decide) ?_
              refine ks_gen (fun xh11 exh11 => ?_)
              replace hM := ks_gn exh11 (ks_nb (b := m) (i := 1) (j := 0) rfl) hM
              replace hS := ks_gs exh11 hS
              replace hF := ks_Fr.st hF exh11 (by omega) (by omega)
              clear exh11
              refine ks_aload_n hκ 157 0 dX7_plans_157 rfl ?_
              refine ks_get hκ 158 dX7_plans_158 kf_X7_7 hM rfl ?_
              refine ks_iconst hκ 161 (nI 0) dX7_plans_161 kq_i0 ?_
              refine ks_iload hκ 162 4 dX7_plans_162 rfl ?_
              refine ks_pureS2 hκ 164 dX7_plans_164 kc_X7_87 (c_Model_planAt (b := 0)) (by decide) (Nat.le_of_ble_eq_true rfl) (by decide) (by decide) ?_
              refine ks_iconst hκ 167 (nI 2) dX7_plans_167 kq_i2 ?_
              refine ks_iaddN hκ 168 dX7_plans_168 ?_
              refine ks_iload_n hκ 169 2 dX7_plans_169 rfl ?_
              refine ks_iast hκ 170 (((0 + 52 + 3 * (vj + 1)) + 2)) dX7_plans_170 hS rfl (by omega) (by decide) ?_
              refine ks_gen (fun xh12 exh12 => ?_)
              replace hM := ks_gn exh12 (ks_nb (b := m) (i := 1) (j := 0) rfl) hM
              replace hS := ks_gs exh12 hS
              replace hF := ks_Fr.st hF exh12 (by omega) (by omega)
              clear exh12
              refine ks_aload_n hκ 171 0 dX7_plans_171 rfl ?_
              refine ks_get hκ 172 dX7_plans_172 kf_X7_7 hM rfl ?_
              refine ks_bipush hκ 175 (nI 9) dX7_plans_175 kq_b9 ?_
              refine ks_dup2 hκ 177 dX7_plans_177 rfl rfl ?_
              refine ks_iald hκ 178 (9) dX7_plans_178 hS rfl (by omega) (by decide) ?_
              refine ks_top (nI P.length) (by rw [kU_n (by omega), kU_n (by omega), kU_n (by omega), hu _ (by omega)]; exact m9) ?_
              refine ks_iconst hκ 179 (nI 1) dX7_plans_179 kq_i1 ?_
              refine ks_iaddN hκ 180 dX7_plans_180 ?_
              refine ks_iast hκ 181 (9) dX7_plans_181 hS rfl (by omega) (by decide) ?_
              refine ks_gen (fun xh13 exh13 => ?_)
              replace hM := ks_gn exh13 (ks_nb (b := m) (i := 1) (j := 0) rfl) hM
              replace hS := ks_gs exh13 hS
              replace hF := ks_Fr.st hF exh13 (by omega) (by omega)
              clear exh13
              refine ks_aload_n hκ 182 0 dX7_plans_182 rfl ?_
              refine ks_get hκ 183 dX7_plans_183 kf_X7_7 hM rfl ?_
              refine ks_bipush hκ 186 (nI 9) dX7_plans_186 kq_b9 ?_
              refine ks_iald hκ 188 (9) dX7_plans_188 hS rfl (by omega) (by decide) ?_
              refine ks_top (nI (P.length + 1)) kU_s ?_
              refine ks_iret hκ 189 hRt dX7_plans_189 (by decide) (by decide) rfl ?_
              refine ⟨_, rfl, rfl, _, hS, hF, ?_, fun j hj => ?_⟩
              · unfold kIns
                dsimp only
                rw [hfin]
                refine hmd.ins hlt hk hc kU_s (fun j q1 q2 => ?_) (fun i t j y hi => ⟨fun q => ?_, fun q => ?_⟩) ⟨?_, ?_, ?_⟩
                · rw [kU_n (by omega), kU_n (by omega), kU_n (by omega), kU_n (by omega)]; exact hu j (by omega)
                · obtain ⟨a1, a2, a3⟩ := (hrow i t j y hi).1 q
                  exact ⟨by rw [kU_n (by omega), kU_n (by omega), kU_n (by omega), kU_n (by omega)]; exact a1, by rw [kU_n (by omega), kU_n (by omega), kU_n (by omega), kU_n (by omega)]; exact a2, by rw [kU_n (by omega), kU_n (by omega), kU_n (by omega), kU_n (by omega)]; exact a3⟩
                · obtain ⟨a1, a2, a3⟩ := (hrow i t j y hi).2 q
                  exact ⟨by rw [kU_n (by omega), kU_n (by omega), kU_n (by omega), kU_n (by omega)]; exact a1, by rw [kU_n (by omega), kU_n (by omega), kU_n (by omega), kU_n (by omega)]; exact a2, by rw [kU_n (by omega), kU_n (by omega), kU_n (by omega), kU_n (by omega)]; exact a3⟩
                · exact (kU_n (by omega)).trans ((kU_n (by omega)).trans ((kU_n (by omega)).trans kU_s))
                · exact (kU_n (by omega)).trans ((kU_n (by omega)).trans kU_s)
                · exact (kU_n (by omega)).trans kU_s
              · rw [kU_n (by omega), kU_n (by omega), kU_n (by omega), kU_n (by omega)]; exact hu j (by omega)
            · skip
              have c76 := mt (nI_leI (by omega) (by omega)).mpr c76
              have hlat : ¬ kLat p.1 (nI p.2.1) (tu + n) (nI k) = 0 := by unfold kLat; rw [if_pos c57, if_neg (mt (nI_leI (by omega) (by omega)).mp c76)]; decide
              refine ks_iconst hκ 79 (nI 0) dX7_plans_79 kq_i0 ?_
              refine ks_istore hκ 80 6 [(6, _), (0, _), (2, _), (3, _), (4, _), (5, _)] dX7_plans_80 (by decide) rfl ?_
              have L82 : ∀ (fuel2 : Nat) (vi : Nat) (f2 : Nat → Int32) (hi : ks_H) (hM : hi[m]? = some (ks_O 7 (ks_ref g (m + 1) :: fs))) (hS : hi[m + 1]? = some (ks_I g 3400 f2)) (hF : ks_Fr h hi (m + 1) (m + 2)) (hvi : vi ≤ 3) (hcp : ∀ i, i < vi → f2 (0 + 52 + 3 * (vj + 1) + i) = f1 (0 + 52 + 3 * vj + i)) (hun : ∀ j, (j < 0 + 52 + 3 * (vj + 1) ∨ 0 + 52 + 3 * (vj + 1) + vi ≤ j) → f2 j = f1 j) (hfuel2 : 3 - vi < fuel2), ks_K κ g 7 hi 0 0 82 [(0, ks_ref g m), (2, .int (nI k)), (3, .int x), (4, .int (tu + n)), (5, .int (nI (vj + 1))), (6, .int (nI vi))] [] := by
                intro fuel2
                induction fuel2 with
                | zero => intro vi f2 hi hM hS hF hvi hcp hun hfuel2; exact absurd hfuel2 (Nat.not_lt_zero _)
                | succ fuel2 ih2 =>
                  intro vi f2 hi hM hS hF hvi hcp hun hfuel2
                  refine ks_iload hκ 82 5 dX7_plans_82 rfl ?_
                  refine ks_iconst hκ 84 (nI 3) dX7_plans_84 kq_i3 ?_
                  refine ks_icmp_ge hκ 85 124 dX7_plans_85 rfl (fun c85 => ?_) (fun c85 => ?_)
                  · skip
                    have c85 := (nI_leI (by omega) (by omega)).mp c85
                    have hv3 : vi = 3 := by omega
                    subst hv3
                    have hrow2 : ∀ (i : Nat) (t : Int32) (j : Nat) (y : Int32), P[i]? = some (t, j, y) → (i < vj → kRw f2 0 i t j y) ∧ (vj ≤ i → kRw f2 0 (i + 1) t j y) := fun i t j y hi => by
                      refine ⟨fun q => ?_, fun q => ?_⟩
                      · obtain ⟨a1, a2, a3⟩ := (hrow i t j y hi).1 (by omega)
                        exact ⟨(hun _ (by omega)).trans a1, (hun _ (by omega)).trans a2, (hun _ (by omega)).trans a3⟩
                      · by_cases z : i = vj
                        · subst z
                          obtain ⟨a1, a2, a3⟩ := (hrow i t j y hi).1 (by omega)
                          exact ⟨(hcp 0 (by decide)).trans a1, (hcp 1 (by decide)).trans a2, (hcp 2 (by decide)).trans a3⟩
                        · obtain ⟨a1, a2, a3⟩ := (hrow i t j y hi).2 (by omega)
                          exact ⟨(hun _ (by omega)).trans a1, (hun _ (by omega)).trans a2, (hun _ (by omega)).trans a3⟩
                    refine ks_iinc hκ 124 5 4 (nI ((vj + 1) - 1)) [(5, _), (0, _), (2, _), (3, _), (4, _), (6, _)] dX7_plans_124 rfl (ks_dec1 (by omega)) (by decide) rfl ?_
                    refine ks_goto hκ 127 19 dX7_plans_127 rfl ?_
                    refine ks_pick [1, 2, 3, 4, 0] [(0, _), (2, _), (3, _), (4, _), (5, _)] rfl ?_
                    exact ks_cv (ih vj _ hi hM hS hF (by omega) (by rw [← hinv, kPlc_s hp, if_neg hlat]) hrow2 (fun j hj => by rw [hun j (by omega)]; exact hu j hj) (by omega)) rfl rfl rfl
                  · skip
                    have c85 := mt (nI_leI (by omega) (by omega)).mpr c85
                    refine ks_aload_n hκ 88 0 dX7_plans_88 rfl ?_
                    refine ks_get hκ 89 dX7_plans_89 kf_X7_7 hM rfl ?_
                    refine ks_iconst hκ 92 (nI 0) dX7_plans_92 kq_i0 ?_
                    refine ks_iload hκ 93 4 dX7_plans_93 rfl ?_
                    refine ks_pureS2 hκ 95 dX7_plans_95 kc_X7_87 (c_Model_planAt (b := 0)) (by decide) (Nat.le_of_ble_eq_true rfl) (by decide) (by decide) ?_
                    refine ks_iload hκ 98 5 dX7_plans_98 rfl ?_
                    refine ks_iaddN hκ 100 dX7_plans_100 ?_
                    refine ks_aload_n hκ 101 0 dX7_plans_101 rfl ?_
                    refine ks_get hκ 102 dX7_plans_102 kf_X7_7 hM rfl ?_
                    refine ks_iconst hκ 105 (nI 0) dX7_plans_105 kq_i0 ?_
                    refine ks_iload hκ 106 4 dX7_plans_106 rfl ?_
                    refine ks_iconst hκ 108 (nI 1) dX7_plans_108 kq_i1 ?_
                    refine ks_isubN hκ 109 dX7_plans_109 (by omega) ?_
                    refine ks_top (nI vj) (by rw [Nat.add_sub_cancel]) ?_
                    refine ks_pureS2 hκ 110 dX7_plans_110 kc_X7_87 (c_Model_planAt (b := 0)) (by decide) (Nat.le_of_ble_eq_true rfl) (by decide) (by decide) ?_
                    refine ks_iload hκ 113 5 dX7_plans_113 rfl ?_
                    refine ks_iaddN hκ 115 dX7_plans_115 ?_
                    refine ks_iald hκ 116 (((0 + 52 + 3 * vj) + vi)) dX7_plans_116 hS rfl (by omega) (by decide) ?_
                    refine ks_iast hκ 117 (((0 + 52 + 3 * (vj + 1)) + vi)) dX7_plans_117 hS rfl (by omega) (by decide) ?_
                    refine ks_gen (fun xh14 exh14 => ?_)
                    replace hM := ks_gn exh14 (ks_nb (b := m) (i := 1) (j := 0) rfl) hM
                    replace hS := ks_gs exh14 hS
                    replace hF := ks_Fr.st hF exh14 (by omega) (by omega)
                    clear exh14
                    refine ks_iinc hκ 118 6 5 (nI (vi + 1)) [(6, _), (0, _), (2, _), (3, _), (4, _), (5, _)] dX7_plans_118 rfl (ks_inc1 _) (by decide) rfl ?_
                    refine ks_goto hκ 121 82 dX7_plans_121 rfl ?_
                    refine ks_pick [1, 2, 3, 4, 5, 0] [(0, _), (2, _), (3, _), (4, _), (5, _), (6, _)] rfl ?_
                    exact ks_cv (ih2 (vi + 1) _ xh14 hM hS hF (by omega) (fun i q => by by_cases z : i = vi; { subst z; rw [kU_s]; exact hun _ (by omega) }; { rw [kU_n (by omega)]; exact hcp i (by omega) }) (fun j q => by rw [kU_n (by omega)]; exact hun j (by omega)) (by omega)) rfl rfl rfl
              refine ks_pick [1, 2, 3, 4, 5, 0] [(0, _), (2, _), (3, _), (4, _), (5, _), (6, _)] rfl ?_
              exact ks_cv (L82 _ 0 _ hh hM hS hF (Nat.zero_le _) (fun i q => absurd q (Nat.not_lt_zero i)) (fun _ _ => rfl) (Nat.lt_succ_self _)) rfl rfl rfl
  refine ks_pick [2, 4, 5, 1, 0] [(0, _), (2, _), (3, _), (4, _), (5, _)] rfl ?_
  exact ks_cv (L19 _ P.length _ h hM hS hF (Nat.le_refl _) rfl (fun i t j y hi => ⟨fun _ => mP i t j y hi, fun q => absurd (List.getElem?_eq_some_iff.mp hi).1 (by omega)⟩) (fun _ _ => rfl) (Nat.lt_succ_self _)) rfl rfl rfl
