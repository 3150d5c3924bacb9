
/-! THE MODEL: the deeds -/
set_option maxRecDepth 100000 in
set_option maxHeartbeats 4000000 in
theorem c_Model_sleeps {g : ks_G} {h : ks_H} {m : Nat} {fs : List Value} {f : Nat → Int32} {se : Nat → Int32} {tu : Int32} {ki : Nat} {ma re : Int32} {kf : Nat → Nat → Int32} {L : List (Nat × Nat)} {P : List kP} {k : Nat} (hM : h[m]? = some (ks_O 7 (ks_ref g (m + 1) :: fs))) (hS : h[m + 1]? = some (ks_I g 3400 f)) (hmd : kMd f 0 (se, tu, ki, ma, re, kf, L, P)) (hk : k < ki) : ks_Met g (yX7_sleeps, cX7_sleeps, 2, some .int) 1 0 0 [ks_ref g m, .int (nI k)] h (ks_Ph (fun r h' => r = tu + se 2 ∧ kMP g m 0 h h' f (se, tu, ki, ma, re, kPut kf 2 k (tu + se 2), L, P))) := by
  obtain ⟨mS, m4, m5, m6, m7, m8, m9, mK, mP, mL, mki, mLl, mPl, mLp, mPp⟩ := id hmd
  dsimp only at mS m4 m5 m6 m7 m8 m9 mK mP mL mki mLl mPl mLp mPp
  refine ks_intro (by decide) (Nat.le_of_ble_eq_true rfl) (fun κ hκ hRt => ?_)
  refine ks_cv (ls := [(0, ks_ref g m), (1, .int (nI k))]) ?_ rfl rfl rfl
  have hF : ks_Fr h h (m + 1) (m + 2) := ks_Fr.rf
  refine ks_aload_n hκ 0 0 dX7_sleeps_0 rfl ?_
  refine ks_get hκ 1 dX7_sleeps_1 kf_X7_7 hM rfl ?_
  refine ks_iconst hκ 4 (nI 0) dX7_sleeps_4 kq_i0 ?_
  refine ks_iload_n hκ 5 1 dX7_sleeps_5 rfl ?_
  refine ks_pureS2 hκ 6 dX7_sleeps_6 kc_X7_28 (c_Model_kittenAt (b := 0)) (by decide) (Nat.le_of_ble_eq_true rfl) (by decide) (by decide) ?_
  refine ks_iconst hκ 9 (nI 2) dX7_sleeps_9 kq_i2 ?_
  refine ks_iaddN hκ 10 dX7_sleeps_10 ?_
  refine ks_aload_n hκ 11 0 dX7_sleeps_11 rfl ?_
  refine ks_get hκ 12 dX7_sleeps_12 kf_X7_7 hM rfl ?_
  refine ks_iconst hκ 15 (nI 4) dX7_sleeps_15 kq_i4 ?_
  refine ks_iald hκ 16 (4) dX7_sleeps_16 hS rfl (by omega) (by decide) ?_
  refine ks_top (tu) (m4) ?_
  refine ks_aload_n hκ 17 0 dX7_sleeps_17 rfl ?_
  refine ks_get hκ 18 dX7_sleeps_18 kf_X7_7 hM rfl ?_
  refine ks_iconst hκ 21 (nI 2) dX7_sleeps_21 kq_i2 ?_
  refine ks_iald hκ 22 (2) dX7_sleeps_22 hS rfl (by omega) (by decide) ?_
  refine ks_top (se 2) (mS 2 (by decide)) ?_
  refine ks_iadd hκ 23 dX7_sleeps_23 ?_
  refine ks_iast hκ 24 (((0 + 10 + 7 * k) + 2)) dX7_sleeps_24 hS rfl (by omega) (by decide) ?_
  refine ks_gen (fun xh1 exh1 => ?_)
  replace hM := ks_gn exh1 (ks_nb (b := m) (i := 1) (j := 0) rfl) hM
  replace hS := ks_gs exh1 hS
  replace hF := ks_Fr.st hF exh1 (by omega) (by omega)
  clear exh1
  have hmd2 := hmd.put (c := 2) (v := tu + se 2) hk (by decide)
  refine ks_aload_n hκ 25 0 dX7_sleeps_25 rfl ?_
  refine ks_get hκ 26 dX7_sleeps_26 kf_X7_7 hM rfl ?_
  refine ks_iconst hκ 29 (nI 4) dX7_sleeps_29 kq_i4 ?_
  refine ks_iald hκ 30 (4) dX7_sleeps_30 hS rfl (by omega) (by decide) ?_
  refine ks_top (tu) (hmd2.2.1) ?_
  refine ks_aload_n hκ 31 0 dX7_sleeps_31 rfl ?_
  refine ks_get hκ 32 dX7_sleeps_32 kf_X7_7 hM rfl ?_
  refine ks_iconst hκ 35 (nI 2) dX7_sleeps_35 kq_i2 ?_
  refine ks_iald hκ 36 (2) dX7_sleeps_36 hS rfl (by omega) (by decide) ?_
  refine ks_top (se 2) (hmd2.1 2 (by decide)) ?_
  refine ks_iadd hκ 37 dX7_sleeps_37 ?_
  refine ks_iret hκ 38 hRt dX7_sleeps_38 (by decide) (by decide) rfl ?_
  exact ⟨_, rfl, rfl, _, hS, hF, hmd2, fun j hj => kU_n (by omega)⟩
