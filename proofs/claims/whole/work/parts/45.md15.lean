
/-! THE MODEL: a turn passes -/
set_option maxRecDepth 100000 in
set_option maxHeartbeats 4000000 in
theorem c_Model_turn {g : ks_G} {h : ks_H} {m b : Nat} {fs : List Value} {f : Nat → Int32} {se : Nat → Int32} {tu : Int32} {ki : Nat} {ma re : Int32} {kf : Nat → Nat → Int32} {L : List (Nat × Nat)} {P : List kP} (hM : h[m]? = some (ks_O 7 (ks_ref g (m + 1) :: fs))) (hS : h[m + 1]? = some (ks_I g 3400 f)) (hb : b + 340 ≤ 3400) (hmd : kMd f b (se, tu, ki, ma, re, kf, L, P)) (hok : kOk2 (se, tu, ki, ma, re, kf, L, P)) (hbal : kBal (se, tu, ki, ma, re, kf, L, P)) : ks_Met g (yX7_turn, cX7_turn, 8, some .int) 6 0 0 [ks_ref g m, .int (nI b)] h (ks_Ph (fun r h' => r = nI (kTurn (se, tu, ki, ma, re, kf, L, P)).1 ∧ kMP g m b h h' f (kTurn (se, tu, ki, ma, re, kf, L, P)).2)) := by
  obtain ⟨mS, m4, m5, m6, m7, m8, m9, mK, mP, mL, mki, mLl, mPl, mLp, mPp⟩ := id hmd
  dsimp only at mS m4 m5 m6 m7 m8 m9 mK mP mL mki mLl mPl mLp mPp
  obtain ⟨hsteps, hpk⟩ := hok
  dsimp only at hsteps hpk
  have hbal : kBalQ ki kf L := hbal
  refine ks_intro (by decide) (Nat.le_of_ble_eq_true rfl) (fun κ hκ hRt => ?_)
  refine ks_cv (ls := [(0, ks_ref g m), (1, .int (nI b))]) ?_ rfl rfl rfl
  have hF : ks_Fr h h (m + 1) (m + 2) := ks_Fr.rf
  refine ks_aload_n hκ 0 0 dX7_turn_0 rfl ?_
  refine ks_get hκ 1 dX7_turn_1 kf_X7_7 hM rfl ?_
  refine ks_iload_n hκ 4 1 dX7_turn_4 rfl ?_
  refine ks_iconst hκ 5 (nI 4) dX7_turn_5 kq_i4 ?_
  refine ks_iaddN hκ 6 dX7_turn_6 ?_
  refine ks_dup2 hκ 7 dX7_turn_7 rfl rfl ?_
  refine ks_iald hκ 8 ((b + 4)) dX7_turn_8 hS rfl (by omega) (by decide) ?_
  refine ks_top (tu) (m4) ?_
  refine ks_iconst hκ 9 (nI 1) dX7_turn_9 kq_i1 ?_
  refine ks_iadd hκ 10 dX7_turn_10 ?_
  refine ks_iast hκ 11 ((b + 4)) dX7_turn_11 hS rfl (by omega) (by decide) ?_
  refine ks_gen (fun xh1 exh1 => ?_)
  replace hM := ks_gn exh1 (ks_nb (b := m) (i := 1) (j := 0) rfl) hM
  replace hS := ks_gs exh1 hS
  replace hF := ks_Fr.st hF exh1 (by omega) (by omega)
  clear exh1
  have hmd1 := hmd.turn (v := tu + nI 1)
  dsimp only at hmd1
  refine ks_iconst hκ 12 (nI 0) dX7_turn_12 kq_i0 ?_
  refine ks_istore_n hκ 13 2 [(2, _), (0, _), (1, _)] dX7_turn_13 rfl (by decide) rfl ?_
  have L14 : ∀ (fuel : Nat) (vj : Nat) (f1 : Nat → Int32) (kf1 : Nat → Nat → Int32) (hh : ks_H) (hM : hh[m]? = some (ks_O 7 (ks_ref g (m + 1) :: fs))) (hS : hh[m + 1]? = some (ks_I g 3400 f1)) (hF : ks_Fr h hh (m + 1) (m + 2)) (hmd1 : kMd f1 b (se, tu + nI 1, ki, ma, re, kf1, L, P)) (hout : ∀ j, (j < b ∨ b + 340 ≤ j) → f1 j = f j) (hvj : vj ≤ ki) (hinv : ((List.range ki).drop vj).foldl (kWakeS (tu + nI 1) (se 3)) kf1 = kWakes ki (tu + nI 1) (se 3) kf) (hfuel : ki - vj < fuel), ks_K κ g 8 hh 0 0 14 [(0, ks_ref g m), (1, .int (nI b)), (2, .int (nI vj))] [] := by
    intro fuel
    induction fuel with
    | zero => intro vj f1 kf1 hh hM hS hF hmd1 hout hvj hinv hfuel; exact absurd hfuel (Nat.not_lt_zero _)
    | succ fuel ih =>
      intro vj f1 kf1 hh hM hS hF hmd1 hout hvj hinv hfuel
      refine ks_iload_n hκ 14 2 dX7_turn_14 rfl ?_
      refine ks_aload_n hκ 15 0 dX7_turn_15 rfl ?_
      refine ks_get hκ 16 dX7_turn_16 kf_X7_7 hM rfl ?_
      refine ks_iload_n hκ 19 1 dX7_turn_19 rfl ?_
      refine ks_iconst hκ 20 (nI 5) dX7_turn_20 kq_i5 ?_
      refine ks_iaddN hκ 21 dX7_turn_21 ?_
      refine ks_iald hκ 22 ((b + 5)) dX7_turn_22 hS rfl (by omega) (by decide) ?_
      refine ks_top (nI ki) hmd1.2.2.1 ?_
      refine ks_icmp_ge hκ 23 83 dX7_turn_23 rfl (fun c23 => ?_) (fun c23 => ?_)
      · skip
        have c23 := (nI_leI (by omega) (by omega)).mp c23
        rw [kdropRN c23] at hinv
        have hq : kf1 = kWakes ki (tu + nI 1) (se 3) kf := hinv
        subst hq
        refine ks_iconst hκ 83 (nI 0) dX7_turn_83 kq_i0 ?_
        refine ks_istore_n hκ 84 2 [(2, _), (0, _), (1, _)] dX7_turn_84 rfl (by decide) rfl ?_
        have L85 : ∀ (fuel8 : Nat) (vn vm : Nat) (f1 : Nat → Int32) (ma1 re1 : Int32) (kf1 : Nat → Nat → Int32) (L1 : List (Nat × Nat)) (P1 : List kP) (hh : ks_H) (hM : hh[m]? = some (ks_O 7 (ks_ref g (m + 1) :: fs))) (hS : hh[m + 1]? = some (ks_I g 3400 f1)) (hF : ks_Fr h hh (m + 1) (m + 2)) (hmd1 : kMd f1 b (se, tu + nI 1, ki, ma1, re1, kf1, L1, P1)) (hout : ∀ j, (j < b ∨ b + 340 ≤ j) → f1 j = f j) (hst1 : kSteps ki kf1) (hpk1 : ∀ p ∈ P1, p.2.1 < ki) (hbal1 : kBalQ ki kf1 L1) (hPn : P1.length ≤ vn) (hinv : kRun vn (se, tu + nI 1, ki, ma1, re1, kf1, L1, P1) vm = kRun 16 (se, tu + nI 1, ki, ma, re, kWakes ki (tu + nI 1) (se 3) kf, L, P) 0) (hfuel8 : vn < fuel8), ks_K κ g 8 hh 0 0 85 [(0, ks_ref g m), (1, .int (nI b)), (2, .int (nI vm))] [] := by
          intro fuel8
          induction fuel8 with
          | zero => intro vn vm f1 ma1 re1 kf1 L1 P1 hh hM hS hF hmd1 hout hst1 hpk1 hbal1 hPn hinv hfuel8; exact absurd hfuel8 (Nat.not_lt_zero _)
          | succ fuel8 ih8 =>
            intro vn vm f1 ma1 re1 kf1 L1 P1 hh hM hS hF hmd1 hout hst1 hpk1 hbal1 hPn hinv hfuel8
            obtain ⟨nS, n4, n5, n6, n7, n8, n9, nK, nP, nL, nki, nLl, nPl, nLp, nPp⟩ := id hmd1
            dsimp only at nS n4 n5 n6 n7 n8 n9 nK nP nL nki nLl nPl nLp nPp
            refine ks_aload_n hκ 85 0 dX7_turn_85 rfl ?_
            refine ks_get hκ 86 dX7_turn_86 kf_X7_7 hM rfl ?_
            refine ks_iload_n hκ 89 1 dX7_turn_89 rfl ?_
            refine ks_bipush hκ 90 (nI 9) dX7_turn_90 kq_b9 ?_
            refine ks_iaddN hκ 92 dX7_turn_92 ?_
            refine ks_iald hκ 93 ((b + 9)) dX7_turn_93 hS rfl (by omega) (by decide) ?_
            refine ks_top (nI P1.length) n9 ?_
            refine ks_if_le hκ 94 281 dX7_turn_94 rfl (fun c94 => ?_) (fun c94 => ?_)
            · skip
              have c94 := (ks_le0 (by omega)).mp c94
              have hend : kRun vn (se, tu + nI 1, ki, ma1, re1, kf1, L1, P1) vm = (vm, (se, tu + nI 1, ki, ma1, re1, kf1, L1, P1)) := by
                have q := List.eq_nil_of_length_eq_zero c94
                subst q
                exact kRun_nil
              refine ks_iconst hκ 281 (nI 0) dX7_turn_281 kq_i0 ?_
              refine ks_istore_n hκ 282 3 [(3, _), (0, _), (1, _), (2, _)] dX7_turn_282 rfl (by decide) rfl ?_
              have L283 : ∀ (fuel3 : Nat) (vj : Nat) (f5 : Nat → Int32) (kf5 : Nat → Nat → Int32) (hj : ks_H) (hM : hj[m]? = some (ks_O 7 (ks_ref g (m + 1) :: fs))) (hS : hj[m + 1]? = some (ks_I g 3400 f5)) (hF : ks_Fr h hj (m + 1) (m + 2)) (hmd5 : kMd f5 b (se, tu + nI 1, ki, ma1, re1, kf5, L1, P1)) (hout5 : ∀ j, (j < b ∨ b + 340 ≤ j) → f5 j = f j) (hvj : vj ≤ ki) (hinv5 : ((List.range ki).drop vj).foldl (kFreshS (se 3)) kf5 = kFresh ki (se 3) kf1) (hfuel3 : ki - vj < fuel3), ks_K κ g 8 hj 0 0 283 [(0, ks_ref g m), (1, .int (nI b)), (2, .int (nI vm)), (3, .int (nI vj))] [] := by
                intro fuel3
                induction fuel3 with
                | zero => intro vj f5 kf5 hj hM hS hF hmd5 hout5 hvj hinv5 hfuel3; exact absurd hfuel3 (Nat.not_lt_zero _)
                | succ fuel3 ih3 =>
                  intro vj f5 kf5 hj hM hS hF hmd5 hout5 hvj hinv5 hfuel3
                  refine ks_iload_n hκ 283 3 dX7_turn_283 rfl ?_
                  refine ks_aload_n hκ 284 0 dX7_turn_284 rfl ?_
                  refine ks_get hκ 285 dX7_turn_285 kf_X7_7 hM rfl ?_
                  refine ks_iload_n hκ 288 1 dX7_turn_288 rfl ?_
                  refine ks_iconst hκ 289 (nI 5) dX7_turn_289 kq_i5 ?_
                  refine ks_iaddN hκ 290 dX7_turn_290 ?_
                  refine ks_iald hκ 291 ((b + 5)) dX7_turn_291 hS rfl (by omega) (by decide) ?_
                  refine ks_top (nI ki) hmd5.2.2.1 ?_
                  refine ks_icmp_ge hκ 292 354 dX7_turn_292 rfl (fun c292 => ?_) (fun c292 => ?_)
                  · skip
                    have c292 := (nI_leI (by omega) (by omega)).mp c292
                    refine ks_iload_n hκ 354 2 dX7_turn_354 rfl ?_
                    refine ks_iret hκ 355 hRt dX7_turn_355 (by decide) (by decide) rfl ?_
                    rw [kdropRN c292] at hinv5
                    have hq : kf5 = kFresh ki (se 3) kf1 := hinv5
                    subst hq
                    have hfin : kRun 16 (se, tu + nI 1, ki, ma, re, kWakes ki (tu + nI 1) (se 3) kf, L, P) 0 = (vm, (se, tu + nI 1, ki, ma1, re1, kf1, L1, P1)) := by
                      rw [← hinv]; exact hend
                    refine ⟨_, rfl, ?_, _, hS, hF, ?_, hout5⟩
                    · unfold kTurn
                      simp only [hfin]
                    · unfold kTurn
                      simp only [hfin]
                      exact hmd5
                  · skip
                    have c292 := mt (nI_leI (by omega) (by omega)).mpr c292
                    rw [kdropR (by omega), List.foldl_cons] at hinv5
                    refine ks_iload_n hκ 295 1 dX7_turn_295 rfl ?_
                    refine ks_iload_n hκ 296 3 dX7_turn_296 rfl ?_
                    refine ks_pureS2 hκ 297 dX7_turn_297 kc_X7_28 (c_Model_kittenAt) (by decide) (Nat.le_of_ble_eq_true rfl) (by decide) (by decide) ?_
                    refine ks_istore hκ 300 4 [(4, _), (0, _), (1, _), (2, _), (3, _)] dX7_turn_300 (by decide) rfl ?_
                    refine ks_aload_n hκ 302 1 dX7_turn_302 rfl ?_
                    refine ks_get hκ 303 dX7_turn_303 kf_X7_7 hM rfl ?_
                    refine ks_iload hκ 306 0 dX7_turn_306 rfl ?_
                    refine ks_iconst hκ 308 (nI 1) dX7_turn_308 kq_i1 ?_
                    refine ks_iaddN hκ 309 dX7_turn_309 ?_
                    refine ks_dup2 hκ 310 dX7_turn_310 rfl rfl ?_
                    refine ks_iald hκ 311 (((b + 10 + 7 * vj) + 1)) dX7_turn_311 hS rfl (by omega) (by decide) ?_
                    refine ks_top (kf5 1 vj) (hmd5.fld (c := 1) (show vj < ki by omega) (by decide)) ?_
                    refine ks_aload_n hκ 312 1 dX7_turn_312 rfl ?_
                    refine ks_iload_n hκ 313 2 dX7_turn_313 rfl ?_
                    refine ks_iload_n hκ 314 4 dX7_turn_314 rfl ?_
                    refine ks_pureV2 hκ 315 dX7_turn_315 kc_X7_64 (c_Model_naps hM hS hb hmd5 (show vj < ki by omega)) hM rfl (by decide) (Nat.le_of_ble_eq_true rfl) (by decide) (by decide) ?_
                    refine ks_if_ne hκ 318 345 dX7_turn_318 rfl (fun c318 => ?_) (fun c318 => ?_)
                    · skip
                      refine ks_iconst hκ 345 (nI 0) dX7_turn_345 kq_i0 ?_
                      refine ks_iadd hκ 346 dX7_turn_346 ?_
                      refine ks_iast hκ 347 (((b + 10 + 7 * vj) + 1)) dX7_turn_347 hS rfl (by omega) (by decide) ?_
                      refine ks_gen (fun xh2 exh2 => ?_)
                      replace hM := ks_gn exh2 (ks_nb (b := m) (i := 1) (j := 0) rfl) hM
                      replace hS := ks_gs exh2 hS
                      replace hF := ks_Fr.st hF exh2 (by omega) (by omega)
                      clear exh2
                      refine ks_iinc hκ 348 3 4 (nI (vj + 1)) [(3, _), (4, _), (0, _), (1, _), (2, _)] dX7_turn_348 rfl (ks_inc1 _) (by decide) rfl ?_
                      refine ks_goto hκ 351 283 dX7_turn_351 rfl ?_
                      refine ks_pick [2, 3, 4, 0] [(0, _), (1, _), (2, _), (3, _)] rfl ?_
                      exact ks_cv (ih3 (vj + 1) _ _ xh2 hM hS hF (hmd5.put (c := 1) (show vj < ki by omega) (by decide)) (fun j hj => by rw [kU_n (by omega)]; exact hout5 j hj) (by omega) (by first | (rw [ka0, kPut_id, ← hinv5, kFreshS, if_pos c318]) | (rw [ka0, kPut_id, ← hinv5, kFreshS, if_neg (fun q => q c318), if_pos c338]) | (rw [← hinv5, kFreshS, if_neg (fun q => q c318), if_neg c338])) (by omega)) rfl rfl rfl
                    · skip
                      refine ks_aload_n hκ 321 1 dX7_turn_321 rfl ?_
                      refine ks_get hκ 322 dX7_turn_322 kf_X7_7 hM rfl ?_
                      refine ks_iload hκ 325 0 dX7_turn_325 rfl ?_
                      refine ks_iconst hκ 327 (nI 1) dX7_turn_327 kq_i1 ?_
                      refine ks_iaddN hκ 328 dX7_turn_328 ?_
                      refine ks_iald hκ 329 (((b + 10 + 7 * vj) + 1)) dX7_turn_329 hS rfl (by omega) (by decide) ?_
                      refine ks_top (kf5 1 vj) (hmd5.fld (c := 1) (show vj < ki by omega) (by decide)) ?_
                      refine ks_aload_n hκ 330 1 dX7_turn_330 rfl ?_
                      refine ks_get hκ 331 dX7_turn_331 kf_X7_7 hM rfl ?_
                      refine ks_iload_n hκ 334 2 dX7_turn_334 rfl ?_
                      refine ks_iconst hκ 335 (nI 3) dX7_turn_335 kq_i3 ?_
                      refine ks_iaddN hκ 336 dX7_turn_336 ?_
                      refine ks_iald hκ 337 ((b + 3)) dX7_turn_337 hS rfl (by omega) (by decide) ?_
                      refine ks_top (se 3) (hmd5.1 3 (by decide)) ?_
                      refine ks_icmp_ge hκ 338 345 dX7_turn_338 rfl (fun c338 => ?_) (fun c338 => ?_)
                      · skip
                        refine ks_iconst hκ 345 (nI 0) dX7_turn_345 kq_i0 ?_
                        refine ks_iadd hκ 346 dX7_turn_346 ?_
                        refine ks_iast hκ 347 (((b + 10 + 7 * vj) + 1)) dX7_turn_347 hS rfl (by omega) (by decide) ?_
                        refine ks_gen (fun xh3 exh3 => ?_)
                        replace hM := ks_gn exh3 (ks_nb (b := m) (i := 1) (j := 0) rfl) hM
                        replace hS := ks_gs exh3 hS
                        replace hF := ks_Fr.st hF exh3 (by omega) (by omega)
                        clear exh3
                        refine ks_iinc hκ 348 3 4 (nI (vj + 1)) [(3, _), (4, _), (0, _), (1, _), (2, _)] dX7_turn_348 rfl (ks_inc1 _) (by decide) rfl ?_
                        refine ks_goto hκ 351 283 dX7_turn_351 rfl ?_
                        refine ks_pick [2, 3, 4, 0] [(0, _), (1, _), (2, _), (3, _)] rfl ?_
                        exact ks_cv (ih3 (vj + 1) _ _ xh3 hM hS hF (hmd5.put (c := 1) (show vj < ki by omega) (by decide)) (fun j hj => by rw [kU_n (by omega)]; exact hout5 j hj) (by omega) (by first | (rw [ka0, kPut_id, ← hinv5, kFreshS, if_pos c318]) | (rw [ka0, kPut_id, ← hinv5, kFreshS, if_neg (fun q => q c318), if_pos c338]) | (rw [← hinv5, kFreshS, if_neg (fun q => q c318), if_neg c338])) (by omega)) rfl rfl rfl
                      · skip
                        refine ks_iconst hκ 341 (nI 1) dX7_turn_341 kq_i1 ?_
                        refine ks_goto hκ 342 346 dX7_turn_342 rfl ?_
                        refine ks_iadd hκ 346 dX7_turn_346 ?_
                        refine ks_iast hκ 347 (((b + 10 + 7 * vj) + 1)) dX7_turn_347 hS rfl (by omega) (by decide) ?_
                        refine ks_gen (fun xh4 exh4 => ?_)
                        replace hM := ks_gn exh4 (ks_nb (b := m) (i := 1) (j := 0) rfl) hM
                        replace hS := ks_gs exh4 hS
                        replace hF := ks_Fr.st hF exh4 (by omega) (by omega)
                        clear exh4
                        refine ks_iinc hκ 348 3 4 (nI (vj + 1)) [(3, _), (4, _), (0, _), (1, _), (2, _)] dX7_turn_348 rfl (ks_inc1 _) (by decide) rfl ?_
                        refine ks_goto hκ 351 283 dX7_turn_351 rfl ?_
                        refine ks_pick [2, 3, 4, 0] [(0, _), (1, _), (2, _), (3, _)] rfl ?_
                        exact ks_cv (ih3 (vj + 1) _ _ xh4 hM hS hF (hmd5.put (c := 1) (show vj < ki by omega) (by decide)) (fun j hj => by rw [kU_n (by omega)]; exact hout5 j hj) (by omega) (by first | (rw [ka0, kPut_id, ← hinv5, kFreshS, if_pos c318]) | (rw [ka0, kPut_id, ← hinv5, kFreshS, if_neg (fun q => q c318), if_pos c338]) | (rw [← hinv5, kFreshS, if_neg (fun q => q c318), if_neg c338])) (by omega)) rfl rfl rfl
              refine ks_pick [1, 2, 3, 0] [(0, _), (1, _), (2, _), (3, _)] rfl ?_
              exact ks_cv (L283 _ 0 _ _ hh hM hS hF hmd1 hout (Nat.zero_le _) rfl (Nat.lt_succ_self _)) rfl rfl rfl
            · skip
              have c94 := mt (ks_le0 (by omega)).mpr c94
              obtain ⟨p, P2, hPP⟩ : ∃ p P2, P1 = p :: P2 := by
                cases P1 with
                | nil => exact absurd rfl c94
                | cons p P2 => exact ⟨p, P2, rfl⟩
              obtain ⟨e1, e2, e3⟩ := nP 0 p.1 p.2.1 p.2.2 (by rw [hPP]; rfl)
              refine ks_aload_n hκ 97 0 dX7_turn_97 rfl ?_
              refine ks_get hκ 98 dX7_turn_98 kf_X7_7 hM rfl ?_
              refine ks_iload_n hκ 101 1 dX7_turn_101 rfl ?_
              refine ks_iconst hκ 102 (nI 0) dX7_turn_102 kq_i0 ?_
              refine ks_pureS2 hκ 103 dX7_turn_103 kc_X7_87 (c_Model_planAt (k := 0)) (by decide) (Nat.le_of_ble_eq_true rfl) (by decide) (by decide) ?_
              refine ks_iald hκ 106 ((b + 52 + 3 * 0)) dX7_turn_106 hS rfl (by omega) (by decide) ?_
              refine ks_top (p.1) (e1) ?_
              refine ks_aload_n hκ 107 0 dX7_turn_107 rfl ?_
              refine ks_get hκ 108 dX7_turn_108 kf_X7_7 hM rfl ?_
              refine ks_iload_n hκ 111 1 dX7_turn_111 rfl ?_
              refine ks_iconst hκ 112 (nI 4) dX7_turn_112 kq_i4 ?_
              refine ks_iaddN hκ 113 dX7_turn_113 ?_
              refine ks_iald hκ 114 ((b + 4)) dX7_turn_114 hS rfl (by omega) (by decide) ?_
              refine ks_top (tu + nI 1) (n4) ?_
              refine ks_icmp_ne hκ 115 281 dX7_turn_115 rfl (fun c115 => ?_) (fun c115 => ?_)
              · skip
                have hend : kRun vn (se, tu + nI 1, ki, ma1, re1, kf1, L1, P1) vm = (vm, (se, tu + nI 1, ki, ma1, re1, kf1, L1, P1)) := by
                  rw [hPP]
                  exact kRun_ne c115
                refine ks_iconst hκ 281 (nI 0) dX7_turn_281 kq_i0 ?_
                refine ks_istore_n hκ 282 3 [(3, _), (0, _), (1, _), (2, _)] dX7_turn_282 rfl (by decide) rfl ?_
                have L283 : ∀ (fuel3 : Nat) (vj : Nat) (f5 : Nat → Int32) (kf5 : Nat → Nat → Int32) (hj : ks_H) (hM : hj[m]? = some (ks_O 7 (ks_ref g (m + 1) :: fs))) (hS : hj[m + 1]? = some (ks_I g 3400 f5)) (hF : ks_Fr h hj (m + 1) (m + 2)) (hmd5 : kMd f5 b (se, tu + nI 1, ki, ma1, re1, kf5, L1, P1)) (hout5 : ∀ j, (j < b ∨ b + 340 ≤ j) → f5 j = f j) (hvj : vj ≤ ki) (hinv5 : ((List.range ki).drop vj).foldl (kFreshS (se 3)) kf5 = kFresh ki (se 3) kf1) (hfuel3 : ki - vj < fuel3), ks_K κ g 8 hj 0 0 283 [(0, ks_ref g m), (1, .int (nI b)), (2, .int (nI vm)), (3, .int (nI vj))] [] := by
                  intro fuel3
                  induction fuel3 with
                  | zero => intro vj f5 kf5 hj hM hS hF hmd5 hout5 hvj hinv5 hfuel3; exact absurd hfuel3 (Nat.not_lt_zero _)
                  | succ fuel3 ih3 =>
                    intro vj f5 kf5 hj hM hS hF hmd5 hout5 hvj hinv5 hfuel3
                    refine ks_iload_n hκ 283 3 dX7_turn_283 rfl ?_
                    refine ks_aload_n hκ 284 0 dX7_turn_284 rfl ?_
                    refine ks_get hκ 285 dX7_turn_285 kf_X7_7 hM rfl ?_
                    refine ks_iload_n hκ 288 1 dX7_turn_288 rfl ?_
                    refine ks_iconst hκ 289 (nI 5) dX7_turn_289 kq_i5 ?_
                    refine ks_iaddN hκ 290 dX7_turn_290 ?_
                    refine ks_iald hκ 291 ((b + 5)) dX7_turn_291 hS rfl (by omega) (by decide) ?_
                    refine ks_top (nI ki) hmd5.2.2.1 ?_
                    refine ks_icmp_ge hκ 292 354 dX7_turn_292 rfl (fun c292 => ?_) (fun c292 => ?_)
                    · skip
                      have c292 := (nI_leI (by omega) (by omega)).mp c292
                      refine ks_iload_n hκ 354 2 dX7_turn_354 rfl ?_
                      refine ks_iret hκ 355 hRt dX7_turn_355 (by decide) (by decide) rfl ?_
                      rw [kdropRN c292] at hinv5
                      have hq : kf5 = kFresh ki (se 3) kf1 := hinv5
                      subst hq
                      have hfin : kRun 16 (se, tu + nI 1, ki, ma, re, kWakes ki (tu + nI 1) (se 3) kf, L, P) 0 = (vm, (se, tu + nI 1, ki, ma1, re1, kf1, L1, P1)) := by
                        rw [← hinv]; exact hend
                      refine ⟨_, rfl, ?_, _, hS, hF, ?_, hout5⟩
                      · unfold kTurn
                        simp only [hfin]
                      · unfold kTurn
                        simp only [hfin]
                        exact hmd5
                    · skip
                      have c292 := mt (nI_leI (by omega) (by omega)).mpr c292
                      rw [kdropR (by omega), List.foldl_cons] at hinv5
                      refine ks_iload_n hκ 295 1 dX7_turn_295 rfl ?_
                      refine ks_iload_n hκ 296 3 dX7_turn_296 rfl ?_
                      refine ks_pureS2 hκ 297 dX7_turn_297 kc_X7_28 (c_Model_kittenAt) (by decide) (Nat.le_of_ble_eq_true rfl) (by decide) (by decide) ?_
                      refine ks_istore hκ 300 4 [(4, _), (0, _), (1, _), (2, _), (3, _)] dX7_turn_300 (by decide) rfl ?_
                      refine ks_aload_n hκ 302 1 dX7_turn_302 rfl ?_
                      refine ks_get hκ 303 dX7_turn_303 kf_X7_7 hM rfl ?_
                      refine ks_iload hκ 306 0 dX7_turn_306 rfl ?_
                      refine ks_iconst hκ 308 (nI 1) dX7_turn_308 kq_i1 ?_
                      refine ks_iaddN hκ 309 dX7_turn_309 ?_
                      refine ks_dup2 hκ 310 dX7_turn_310 rfl rfl ?_
                      refine ks_iald hκ 311 (((b + 10 + 7 * vj) + 1)) dX7_turn_311 hS rfl (by omega) (by decide) ?_
                      refine ks_top (kf5 1 vj) (hmd5.fld (c := 1) (show vj < ki by omega) (by decide)) ?_
                      refine ks_aload_n hκ 312 1 dX7_turn_312 rfl ?_
                      refine ks_iload_n hκ 313 2 dX7_turn_313 rfl ?_
                      refine ks_iload_n hκ 314 4 dX7_turn_314 rfl ?_
                      refine ks_pureV2 hκ 315 dX7_turn_315 kc_X7_64 (c_Model_naps hM hS hb hmd5 (show vj < ki by omega)) hM rfl (by decide) (Nat.le_of_ble_eq_true rfl) (by decide) (by decide) ?_
                      refine ks_if_ne hκ 318 345 dX7_turn_318 rfl (fun c318 => ?_) (fun c318 => ?_)
                      · skip
                        refine ks_iconst hκ 345 (nI 0) dX7_turn_345 kq_i0 ?_
                        refine ks_iadd hκ 346 dX7_turn_346 ?_
                        refine ks_iast hκ 347 (((b + 10 + 7 * vj) + 1)) dX7_turn_347 hS rfl (by omega) (by decide) ?_
                        refine ks_gen (fun xh5 exh5 => ?_)
                        replace hM := ks_gn exh5 (ks_nb (b := m) (i := 1) (j := 0) rfl) hM
                        replace hS := ks_gs exh5 hS
                        replace hF := ks_Fr.st hF exh5 (by omega) (by omega)
                        clear exh5
                        refine ks_iinc hκ 348 3 4 (nI (vj + 1)) [(3, _), (4, _), (0, _), (1, _), (2, _)] dX7_turn_348 rfl (ks_inc1 _) (by decide) rfl ?_
                        refine ks_goto hκ 351 283 dX7_turn_351 rfl ?_
                        refine ks_pick [2, 3, 4, 0] [(0, _), (1, _), (2, _), (3, _)] rfl ?_
                        exact ks_cv (ih3 (vj + 1) _ _ xh5 hM hS hF (hmd5.put (c := 1) (show vj < ki by omega) (by decide)) (fun j hj => by rw [kU_n (by omega)]; exact hout5 j hj) (by omega) (by first | (rw [ka0, kPut_id, ← hinv5, kFreshS, if_pos c318]) | (rw [ka0, kPut_id, ← hinv5, kFreshS, if_neg (fun q => q c318), if_pos c338]) | (rw [← hinv5, kFreshS, if_neg (fun q => q c318), if_neg c338])) (by omega)) rfl rfl rfl
                      · skip
                        refine ks_aload_n hκ 321 1 dX7_turn_321 rfl ?_
                        refine ks_get hκ 322 dX7_turn_322 kf_X7_7 hM rfl ?_
                        refine ks_iload hκ 325 0 dX7_turn_325 rfl ?_
                        refine ks_iconst hκ 327 (nI 1) dX7_turn_327 kq_i1 ?_
                        refine ks_iaddN hκ 328 dX7_turn_328 ?_
                        refine ks_iald hκ 329 (((b + 10 + 7 * vj) + 1)) dX7_turn_329 hS rfl (by omega) (by decide) ?_
                        refine ks_top (kf5 1 vj) (hmd5.fld (c := 1) (show vj < ki by omega) (by decide)) ?_
                        refine ks_aload_n hκ 330 1 dX7_turn_330 rfl ?_
                        refine ks_get hκ 331 dX7_turn_331 kf_X7_7 hM rfl ?_
                        refine ks_iload_n hκ 334 2 dX7_turn_334 rfl ?_
                        refine ks_iconst hκ 335 (nI 3) dX7_turn_335 kq_i3 ?_
                        refine ks_iaddN hκ 336 dX7_turn_336 ?_
                        refine ks_iald hκ 337 ((b + 3)) dX7_turn_337 hS rfl (by omega) (by decide) ?_
                        refine ks_top (se 3) (hmd5.1 3 (by decide)) ?_
                        refine ks_icmp_ge hκ 338 345 dX7_turn_338 rfl (fun c338 => ?_) (fun c338 => ?_)
                        · skip
                          refine ks_iconst hκ 345 (nI 0) dX7_turn_345 kq_i0 ?_
                          refine ks_iadd hκ 346 dX7_turn_346 ?_
                          refine ks_iast hκ 347 (((b + 10 + 7 * vj) + 1)) dX7_turn_347 hS rfl (by omega) (by decide) ?_
                          refine ks_gen (fun xh6 exh6 => ?_)
                          replace hM := ks_gn exh6 (ks_nb (b := m) (i := 1) (j := 0) rfl) hM
                          replace hS := ks_gs exh6 hS
                          replace hF := ks_Fr.st hF exh6 (by omega) (by omega)
                          clear exh6
                          refine ks_iinc hκ 348 3 4 (nI (vj + 1)) [(3, _), (4, _), (0, _), (1, _), (2, _)] dX7_turn_348 rfl (ks_inc1 _) (by decide) rfl ?_
                          refine ks_goto hκ 351 283 dX7_turn_351 rfl ?_
                          refine ks_pick [2, 3, 4, 0] [(0, _), (1, _), (2, _), (3, _)] rfl ?_
                          exact ks_cv (ih3 (vj + 1) _ _ xh6 hM hS hF (hmd5.put (c := 1) (show vj < ki by omega) (by decide)) (fun j hj => by rw [kU_n (by omega)]; exact hout5 j hj) (by omega) (by first | (rw [ka0, kPut_id, ← hinv5, kFreshS, if_pos c318]) | (rw [ka0, kPut_id, ← hinv5, kFreshS, if_neg (fun q => q c318), if_pos c338]) | (rw [← hinv5, kFreshS, if_neg (fun q => q c318), if_neg c338])) (by omega)) rfl rfl rfl
                        · skip
                          refine ks_iconst hκ 341 (nI 1) dX7_turn_341 kq_i1 ?_
                          refine ks_goto hκ 342 346 dX7_turn_342 rfl ?_
                          refine ks_iadd hκ 346 dX7_turn_346 ?_
                          refine ks_iast hκ 347 (((b + 10 + 7 * vj) + 1)) dX7_turn_347 hS rfl (by omega) (by decide) ?_
                          refine ks_gen (fun xh7 exh7 => ?_)
                          replace hM := ks_gn exh7 (ks_nb (b := m) (i := 1) (j := 0) rfl) hM
                          replace hS := ks_gs exh7 hS
                          replace hF := ks_Fr.st hF exh7 (by omega) (by omega)
                          clear exh7
                          refine ks_iinc hκ 348 3 4 (nI (vj + 1)) [(3, _), (4, _), (0, _), (1, _), (2, _)] dX7_turn_348 rfl (ks_inc1 _) (by decide) rfl ?_
                          refine ks_goto hκ 351 283 dX7_turn_351 rfl ?_
                          refine ks_pick [2, 3, 4, 0] [(0, _), (1, _), (2, _), (3, _)] rfl ?_
                          exact ks_cv (ih3 (vj + 1) _ _ xh7 hM hS hF (hmd5.put (c := 1) (show vj < ki by omega) (by decide)) (fun j hj => by rw [kU_n (by omega)]; exact hout5 j hj) (by omega) (by first | (rw [ka0, kPut_id, ← hinv5, kFreshS, if_pos c318]) | (rw [ka0, kPut_id, ← hinv5, kFreshS, if_neg (fun q => q c318), if_pos c338]) | (rw [← hinv5, kFreshS, if_neg (fun q => q c318), if_neg c338])) (by omega)) rfl rfl rfl
                refine ks_pick [1, 2, 3, 0] [(0, _), (1, _), (2, _), (3, _)] rfl ?_
                exact ks_cv (L283 _ 0 _ _ hh hM hS hF hmd1 hout (Nat.zero_le _) rfl (Nat.lt_succ_self _)) rfl rfl rfl
              · skip
                subst hPP
                have hPl2 : P2.length + 1 ≤ 16 := nPl
                obtain ⟨vn1, rfl⟩ : ∃ vn1, vn = vn1 + 1 := ⟨vn - 1, by have : P2.length + 1 ≤ vn := hPn; omega⟩
                have hPn2 : P2.length + 1 ≤ vn1 + 1 := hPn
                have hpk6 : p.2.1 < ki := hpk1 p List.mem_cons_self
                rw [kRun_go (show p.1 = tu + nI 1 from c115)] at hinv
                obtain ⟨vs, hvs, hvs2⟩ := hst1 p.2.1 hpk6
                refine ks_aload_n hκ 118 0 dX7_turn_118 rfl ?_
                refine ks_get hκ 119 dX7_turn_119 kf_X7_7 hM rfl ?_
                refine ks_iload_n hκ 122 1 dX7_turn_122 rfl ?_
                refine ks_iconst hκ 123 (nI 0) dX7_turn_123 kq_i0 ?_
                refine ks_pureS2 hκ 124 dX7_turn_124 kc_X7_87 (c_Model_planAt (k := 0)) (by decide) (Nat.le_of_ble_eq_true rfl) (by decide) (by decide) ?_
                refine ks_iconst hκ 127 (nI 1) dX7_turn_127 kq_i1 ?_
                refine ks_iaddN hκ 128 dX7_turn_128 ?_
                refine ks_iald hκ 129 (((b + 52 + 3 * 0) + 1)) dX7_turn_129 hS rfl (by omega) (by decide) ?_
                refine ks_top (nI p.2.1) e2 ?_
                refine ks_istore_n hκ 130 3 [(3, _), (0, _), (1, _), (2, _)] dX7_turn_130 rfl (by decide) rfl ?_
                refine ks_aload_n hκ 131 1 dX7_turn_131 rfl ?_
                refine ks_get hκ 132 dX7_turn_132 kf_X7_7 hM rfl ?_
                refine ks_iload_n hκ 135 2 dX7_turn_135 rfl ?_
                refine ks_iconst hκ 136 (nI 0) dX7_turn_136 kq_i0 ?_
                refine ks_pureS2 hκ 137 dX7_turn_137 kc_X7_87 (c_Model_planAt (k := 0)) (by decide) (Nat.le_of_ble_eq_true rfl) (by decide) (by decide) ?_
                refine ks_iconst hκ 140 (nI 2) dX7_turn_140 kq_i2 ?_
                refine ks_iaddN hκ 141 dX7_turn_141 ?_
                refine ks_iald hκ 142 (((b + 52 + 3 * 0) + 2)) dX7_turn_142 hS rfl (by omega) (by decide) ?_
                refine ks_top (p.2.2) (e3) ?_
                refine ks_istore hκ 143 4 [(4, _), (3, _), (0, _), (1, _), (2, _)] dX7_turn_143 (by decide) rfl ?_
                refine ks_aload_n hκ 145 2 dX7_turn_145 rfl ?_
                refine ks_iload_n hκ 146 3 dX7_turn_146 rfl ?_
                refine ks_iload_n hκ 147 1 dX7_turn_147 rfl ?_
                refine ks_iload hκ 148 0 dX7_turn_148 rfl ?_
                refine ks_pureV3 hκ 150 dX7_turn_150 kc_X7_90 (c_Model_reason hM hS hb hmd1 hpk6 hvs hvs2) hM rfl (by decide) (Nat.le_of_ble_eq_true rfl) (by decide) (by decide) ?_
                refine ks_if_ne hκ 153 160 dX7_turn_153 rfl (fun c153 => ?_) (fun c153 => ?_)
                · skip
                  have c153 : ¬ kRef (se, tu + nI 1, ki, ma1, re1, kf1, L1, P2) p.2.1 p.2.2 = 0 := c153
                  rw [if_neg c153] at hinv
                  have hmdx := hmd1
                  refine ks_iconst hκ 160 (nI 0) dX7_turn_160 kq_i0 ?_
                  refine ks_istore hκ 161 5 [(5, _), (4, _), (3, _), (0, _), (1, _), (2, _)] dX7_turn_161 (by decide) rfl ?_
                  refine ks_iload hκ 163 0 dX7_turn_163 rfl ?_
                  refine ks_if_eq hκ 165 179 dX7_turn_165 rfl (fun c165 => ?_) (fun c165 => ?_)
                  · skip
                    refine ks_bipush hκ 179 (-6) dX7_turn_179 kq_bm6 ?_
                    refine ks_istore hκ 181 6 [(6, _), (5, _), (4, _), (3, _), (0, _), (1, _), (2, _)] dX7_turn_181 (by decide) rfl ?_
                    refine ks_iload_n hκ 183 6 dX7_turn_183 rfl ?_
                    refine ks_iload hκ 184 1 dX7_turn_184 rfl ?_
                    refine ks_if_eq hκ 186 193 dX7_turn_186 rfl (fun c186 => ?_) (fun c186 => ?_)
                    · skip
                      refine ks_iconst hκ 193 (nI 0) dX7_turn_193 kq_i0 ?_
                      refine ks_iaddN hκ 194 dX7_turn_194 ?_
                      refine ks_istore_n hκ 195 2 [(2, _), (6, _), (5, _), (4, _), (3, _), (0, _), (1, _)] dX7_turn_195 rfl (by decide) rfl ?_
                      refine ks_aload_n hκ 196 5 dX7_turn_196 rfl ?_
                      refine ks_get hκ 197 dX7_turn_197 kf_X7_7 hM rfl ?_
                      refine ks_iload_n hκ 200 6 dX7_turn_200 rfl ?_
                      refine ks_bipush hκ 201 (nI 7) dX7_turn_201 kq_b7 ?_
                      refine ks_iaddN hκ 203 dX7_turn_203 ?_
                      refine ks_dup2 hκ 204 dX7_turn_204 rfl rfl ?_
                      refine ks_iald hκ 205 ((b + 7)) dX7_turn_205 hS rfl (by omega) (by decide) ?_
                      refine ks_top (re1) (hmdx.2.2.2.2.1) ?_
                      refine ks_iload hκ 206 2 dX7_turn_206 rfl ?_
                      refine ks_if_eq hκ 208 215 dX7_turn_208 rfl (fun c208 => ?_) (fun c208 => ?_)
                      · skip
                        refine ks_iconst hκ 215 (nI 1) dX7_turn_215 kq_i1 ?_
                        refine ks_iadd hκ 216 dX7_turn_216 ?_
                        refine ks_iast hκ 217 ((b + 7)) dX7_turn_217 hS rfl (by omega) (by decide) ?_
                        refine ks_gen (fun xh8 exh8 => ?_)
                        replace hM := ks_gn exh8 (ks_nb (b := m) (i := 1) (j := 0) rfl) hM
                        replace hS := ks_gs exh8 hS
                        replace hF := ks_Fr.st hF exh8 (by omega) (by omega)
                        clear exh8
                        have hmd3 := hmdx.refu (v := re1 + nI 1)
                        obtain ⟨fz, hfz⟩ : ∃ fz, upd f1 (b + 7) (re1 + nI 1) = fz := ⟨_, rfl⟩
                        rw [hfz] at hS hmd3
                        have hoz : ∀ j, (j < b ∨ b + 340 ≤ j) → fz j = f j := fun j hj => by rw [← hfz, kU_n (by omega)]; exact hout j hj
                        refine ks_aload_n hκ 218 5 dX7_turn_218 rfl ?_
                        refine ks_get hκ 219 dX7_turn_219 kf_X7_7 hM rfl ?_
                        refine ks_iload_n hκ 222 6 dX7_turn_222 rfl ?_
                        refine ks_bipush hκ 223 (nI 9) dX7_turn_223 kq_b9 ?_
                        refine ks_iaddN hκ 225 dX7_turn_225 ?_
                        refine ks_dup2 hκ 226 dX7_turn_226 rfl rfl ?_
                        refine ks_iald hκ 227 ((b + 9)) dX7_turn_227 hS rfl (by omega) (by decide) ?_
                        refine ks_top (nI (P2.length + 1)) hmd3.2.2.2.2.2.2.1 ?_
                        refine ks_iconst hκ 228 (nI 1) dX7_turn_228 kq_i1 ?_
                        refine ks_isubN hκ 229 dX7_turn_229 (by omega) ?_
                        refine ks_iast hκ 230 ((b + 9)) dX7_turn_230 hS rfl (by omega) (by decide) ?_
                        refine ks_gen (fun xh9 exh9 => ?_)
                        replace hM := ks_gn exh9 (ks_nb (b := m) (i := 1) (j := 0) rfl) hM
                        replace hS := ks_gs exh9 hS
                        replace hF := ks_Fr.st hF exh9 (by omega) (by omega)
                        clear exh9
                        refine ks_iload_n hκ 231 6 dX7_turn_231 rfl ?_
                        refine ks_iconst hκ 232 (nI 0) dX7_turn_232 kq_i0 ?_
                        refine ks_pureS2 hκ 233 dX7_turn_233 kc_X7_87 (c_Model_planAt (k := 0)) (by decide) (Nat.le_of_ble_eq_true rfl) (by decide) (by decide) ?_
                        refine ks_istore hκ 236 7 [(7, _), (2, _), (6, _), (5, _), (4, _), (3, _), (0, _), (1, _)] dX7_turn_236 (by decide) rfl ?_
                        have L238 : ∀ (fuel9 : Nat) (vc : Nat) (f4 : Nat → Int32) (hi : ks_H) (hM : hi[m]? = some (ks_O 7 (ks_ref g (m + 1) :: fs))) (hS : hi[m + 1]? = some (ks_I g 3400 f4)) (hF : ks_Fr h hi (m + 1) (m + 2)) (hc : b + 52 ≤ vc) (hc2 : vc ≤ b + 52 + 3 * P2.length) (e9 : f4 (b + 9) = nI (P2.length + 1 - 1)) (hu : ∀ j, j ≠ b + 9 → (j < b + 52 ∨ vc ≤ j) → f4 j = fz j) (hsf : ∀ j, b + 52 ≤ j → j < vc → f4 j = fz (j + 3)) (hfuel9 : b + 52 + 3 * P2.length - vc < fuel9), ks_K κ g 8 hi 0 0 238 [(0, ks_ref g m), (1, .int (nI b)), (2, .int (nI (vm + 0))), (5, .int (nI 0)), (7, .int (nI vc))] [] := by
                          intro fuel9
                          induction fuel9 with
                          | zero => intro vc f4 hi hM hS hF hc hc2 e9 hu hsf hfuel9; exact absurd hfuel9 (Nat.not_lt_zero _)
                          | succ fuel9 ih9 =>
                            intro vc f4 hi hM hS hF hc hc2 e9 hu hsf hfuel9
                            refine ks_iload hκ 238 4 dX7_turn_238 rfl ?_
                            refine ks_iload_n hκ 240 1 dX7_turn_240 rfl ?_
                            refine ks_aload_n hκ 241 0 dX7_turn_241 rfl ?_
                            refine ks_get hκ 242 dX7_turn_242 kf_X7_7 hM rfl ?_
                            refine ks_iload_n hκ 245 1 dX7_turn_245 rfl ?_
                            refine ks_bipush hκ 246 (nI 9) dX7_turn_246 kq_b9 ?_
                            refine ks_iaddN hκ 248 dX7_turn_248 ?_
                            refine ks_iald hκ 249 ((b + 9)) dX7_turn_249 hS rfl (by omega) (by decide) ?_
                            refine ks_top (nI (P2.length + 1 - 1)) e9 ?_
                            refine ks_pureS2 hκ 250 dX7_turn_250 kc_X7_87 (c_Model_planAt) (by decide) (Nat.le_of_ble_eq_true rfl) (by decide) (by decide) ?_
                            refine ks_icmp_ge hκ 253 278 dX7_turn_253 rfl (fun c253 => ?_) (fun c253 => ?_)
                            · skip
                              have c253 := (nI_leI (by omega) (by omega)).mp c253
                              have hmd4 := hmd3.pop (P2 := P2) rfl e9 (fun j q1 q2 => hu j q1 (by omega)) (fun j q1 q2 => hsf j q1 (by omega))
                              refine ks_goto hκ 278 85 dX7_turn_278 rfl ?_
                              refine ks_pick [0, 1, 2] [(0, _), (1, _), (2, _)] rfl ?_
                              exact ks_cv (ih8 vn1 _ f4 _ _ _ _ P2 hi hM hS hF hmd4 (fun j hj => (hu j (by omega) (by omega)).trans (hoz j hj)) hst1 (fun q hq => hpk1 q (List.mem_cons_of_mem _ hq)) hbal1 (by omega) hinv (by omega)) rfl rfl rfl
                            · skip
                              have c253 := mt (nI_leI (by omega) (by omega)).mpr c253
                              refine ks_aload_n hκ 256 0 dX7_turn_256 rfl ?_
                              refine ks_get hκ 257 dX7_turn_257 kf_X7_7 hM rfl ?_
                              refine ks_iload hκ 260 4 dX7_turn_260 rfl ?_
                              refine ks_aload_n hκ 262 0 dX7_turn_262 rfl ?_
                              refine ks_get hκ 263 dX7_turn_263 kf_X7_7 hM rfl ?_
                              refine ks_iload hκ 266 4 dX7_turn_266 rfl ?_
                              refine ks_iconst hκ 268 (nI 3) dX7_turn_268 kq_i3 ?_
                              refine ks_iaddN hκ 269 dX7_turn_269 ?_
                              refine ks_iald hκ 270 ((vc + 3)) dX7_turn_270 hS rfl (by omega) (by decide) ?_
                              refine ks_iast hκ 271 (vc) dX7_turn_271 hS rfl (by omega) (by decide) ?_
                              refine ks_gen (fun xh10 exh10 => ?_)
                              replace hM := ks_gn exh10 (ks_nb (b := m) (i := 1) (j := 0) rfl) hM
                              replace hS := ks_gs exh10 hS
                              replace hF := ks_Fr.st hF exh10 (by omega) (by omega)
                              clear exh10
                              refine ks_iinc hκ 272 7 4 (nI (vc + 1)) [(7, _), (0, _), (1, _), (2, _), (5, _)] dX7_turn_272 rfl (ks_inc1 _) (by decide) rfl ?_
                              refine ks_goto hκ 275 238 dX7_turn_275 rfl ?_
                              refine ks_pick [1, 2, 3, 4, 0] [(0, _), (1, _), (2, _), (5, _), (7, _)] rfl ?_
                              exact ks_cv (ih9 (vc + 1) _ xh10 hM hS hF (by omega) (by omega) (by rw [kU_n (by omega)]; exact e9) (fun j q1 q2 => by rw [kU_n (by omega)]; exact hu j q1 (by omega)) (fun j q1 q2 => by by_cases q : j = vc; { subst q; rw [kU_s]; exact hu _ (by omega) (by omega) }; { rw [kU_n (by omega)]; exact hsf j q1 (by omega) }) (by omega)) rfl rfl rfl
                        refine ks_pick [6, 7, 1, 3, 0] [(0, _), (1, _), (2, _), (5, _), (7, _)] rfl ?_
                        exact ks_cv (L238 _ _ _ xh9 hM hS hF (by omega) (by omega) kU_s (fun j q _ => kU_n q) (fun j q1 q2 => absurd q2 (by omega)) (Nat.lt_succ_self _)) rfl rfl rfl
                      · skip
                        exact absurd (by decide) c208
                    · skip
                      exact absurd (by decide) c186
                  · skip
                    exact absurd (by decide) c165
                · skip
                  have c153 : kRef (se, tu + nI 1, ki, ma1, re1, kf1, L1, P2) p.2.1 p.2.2 = 0 := c153
                  rw [if_pos c153] at hinv
                  obtain ⟨vt, hvt, hvt2⟩ := kRef_0 c153 hvs2 hvs
                  rw [hvt2]
                  rw [hvt2] at hinv c153
                  obtain ⟨hlt9, hbal9⟩ := kLeap_bal (σ := (se, tu + nI 1, ki, ma1, re1, kf1, L1, P2)) hbal1 nki hpk6 hvs hvt hvs2 c153
                  refine ks_iconst hκ 156 (nI 1) dX7_turn_156 kq_i1 ?_
                  refine ks_goto hκ 157 161 dX7_turn_157 rfl ?_
                  refine ks_istore hκ 161 5 [(5, _), (4, _), (3, _), (0, _), (1, _), (2, _)] dX7_turn_161 (by decide) rfl ?_
                  refine ks_iload hκ 163 0 dX7_turn_163 rfl ?_
                  refine ks_if_eq hκ 165 179 dX7_turn_165 rfl (fun c165 => ?_) (fun c165 => ?_)
                  · skip
                    exact absurd c165 (by decide)
                  · skip
                    refine ks_aload_n hκ 168 3 dX7_turn_168 rfl ?_
                    refine ks_iload_n hκ 169 4 dX7_turn_169 rfl ?_
                    refine ks_iload_n hκ 170 2 dX7_turn_170 rfl ?_
                    refine ks_iload hκ 171 1 dX7_turn_171 rfl ?_
                    refine ks_intcV3 hκ 173 dX7_turn_173 kc_X7_93 (c_Model_leaps hM hS hb hmd1 hpk6 hvs hvt hvs2 hlt9) hM rfl (by decide) (Nat.le_of_ble_eq_true rfl) (by decide) (by decide) (fun r173 xh11 hp173 => ?_)
                    obtain ⟨hr9, f2, hS, hF9, hmd2, hout2⟩ := hp173
                    have hmdx := hmd2
                    replace hM := hF9.at hM (by omega)
                    replace hF := hF.tr (hF9.wd (by omega) (by omega))
                    refine ks_goto hκ 176 181 dX7_turn_176 rfl ?_
                    refine ks_istore hκ 181 6 [(6, _), (5, _), (4, _), (3, _), (0, _), (1, _), (2, _)] dX7_turn_181 (by decide) rfl ?_
                    refine ks_iload_n hκ 183 6 dX7_turn_183 rfl ?_
                    refine ks_iload hκ 184 1 dX7_turn_184 rfl ?_
                    refine ks_if_eq hκ 186 193 dX7_turn_186 rfl (fun c186 => ?_) (fun c186 => ?_)
                    · skip
                      exact absurd c186 (by decide)
                    · skip
                      refine ks_iconst hκ 189 (nI 1) dX7_turn_189 kq_i1 ?_
                      refine ks_goto hκ 190 194 dX7_turn_190 rfl ?_
                      refine ks_iaddN hκ 194 dX7_turn_194 ?_
                      refine ks_istore_n hκ 195 2 [(2, _), (6, _), (5, _), (4, _), (3, _), (0, _), (1, _)] dX7_turn_195 rfl (by decide) rfl ?_
                      refine ks_aload_n hκ 196 5 dX7_turn_196 rfl ?_
                      refine ks_get hκ 197 dX7_turn_197 kf_X7_7 hM rfl ?_
                      refine ks_iload_n hκ 200 6 dX7_turn_200 rfl ?_
                      refine ks_bipush hκ 201 (nI 7) dX7_turn_201 kq_b7 ?_
                      refine ks_iaddN hκ 203 dX7_turn_203 ?_
                      refine ks_dup2 hκ 204 dX7_turn_204 rfl rfl ?_
                      refine ks_iald hκ 205 ((b + 7)) dX7_turn_205 hS rfl (by omega) (by decide) ?_
                      refine ks_top (re1) (hmdx.2.2.2.2.1) ?_
                      refine ks_iload hκ 206 2 dX7_turn_206 rfl ?_
                      refine ks_if_eq hκ 208 215 dX7_turn_208 rfl (fun c208 => ?_) (fun c208 => ?_)
                      · skip
                        exact absurd c208 (by decide)
                      · skip
                        refine ks_iconst hκ 211 (nI 0) dX7_turn_211 kq_i0 ?_
                        refine ks_goto hκ 212 216 dX7_turn_212 rfl ?_
                        refine ks_iadd hκ 216 dX7_turn_216 ?_
                        refine ks_iast hκ 217 ((b + 7)) dX7_turn_217 hS rfl (by omega) (by decide) ?_
                        refine ks_gen (fun xh12 exh12 => ?_)
                        replace hM := ks_gn exh12 (ks_nb (b := m) (i := 1) (j := 0) rfl) hM
                        replace hS := ks_gs exh12 hS
                        replace hF := ks_Fr.st hF exh12 (by omega) (by omega)
                        clear exh12
                        rw [ka0] at hS
                        have hmd3 := hmdx.refu (v := re1)
                        obtain ⟨fz, hfz⟩ : ∃ fz, upd f2 (b + 7) (re1) = fz := ⟨_, rfl⟩
                        rw [hfz] at hS hmd3
                        have hoz : ∀ j, (j < b ∨ b + 340 ≤ j) → fz j = f j := fun j hj => by rw [← hfz, kU_n (by omega)]; exact (hout2 j hj).trans (hout j hj)
                        refine ks_aload_n hκ 218 5 dX7_turn_218 rfl ?_
                        refine ks_get hκ 219 dX7_turn_219 kf_X7_7 hM rfl ?_
                        refine ks_iload_n hκ 222 6 dX7_turn_222 rfl ?_
                        refine ks_bipush hκ 223 (nI 9) dX7_turn_223 kq_b9 ?_
                        refine ks_iaddN hκ 225 dX7_turn_225 ?_
                        refine ks_dup2 hκ 226 dX7_turn_226 rfl rfl ?_
                        refine ks_iald hκ 227 ((b + 9)) dX7_turn_227 hS rfl (by omega) (by decide) ?_
                        refine ks_top (nI (P2.length + 1)) hmd3.2.2.2.2.2.2.1 ?_
                        refine ks_iconst hκ 228 (nI 1) dX7_turn_228 kq_i1 ?_
                        refine ks_isubN hκ 229 dX7_turn_229 (by omega) ?_
                        refine ks_iast hκ 230 ((b + 9)) dX7_turn_230 hS rfl (by omega) (by decide) ?_
                        refine ks_gen (fun xh13 exh13 => ?_)
                        replace hM := ks_gn exh13 (ks_nb (b := m) (i := 1) (j := 0) rfl) hM
                        replace hS := ks_gs exh13 hS
                        replace hF := ks_Fr.st hF exh13 (by omega) (by omega)
                        clear exh13
                        refine ks_iload_n hκ 231 6 dX7_turn_231 rfl ?_
                        refine ks_iconst hκ 232 (nI 0) dX7_turn_232 kq_i0 ?_
                        refine ks_pureS2 hκ 233 dX7_turn_233 kc_X7_87 (c_Model_planAt (k := 0)) (by decide) (Nat.le_of_ble_eq_true rfl) (by decide) (by decide) ?_
                        refine ks_istore hκ 236 7 [(7, _), (2, _), (6, _), (5, _), (4, _), (3, _), (0, _), (1, _)] dX7_turn_236 (by decide) rfl ?_
                        have L238 : ∀ (fuel9 : Nat) (vc : Nat) (f4 : Nat → Int32) (hi : ks_H) (hM : hi[m]? = some (ks_O 7 (ks_ref g (m + 1) :: fs))) (hS : hi[m + 1]? = some (ks_I g 3400 f4)) (hF : ks_Fr h hi (m + 1) (m + 2)) (hc : b + 52 ≤ vc) (hc2 : vc ≤ b + 52 + 3 * P2.length) (e9 : f4 (b + 9) = nI (P2.length + 1 - 1)) (hu : ∀ j, j ≠ b + 9 → (j < b + 52 ∨ vc ≤ j) → f4 j = fz j) (hsf : ∀ j, b + 52 ≤ j → j < vc → f4 j = fz (j + 3)) (hfuel9 : b + 52 + 3 * P2.length - vc < fuel9), ks_K κ g 8 hi 0 0 238 [(0, ks_ref g m), (1, .int (nI b)), (2, .int (nI (vm + 1))), (5, .int (nI 1)), (7, .int (nI vc))] [] := by
                          intro fuel9
                          induction fuel9 with
                          | zero => intro vc f4 hi hM hS hF hc hc2 e9 hu hsf hfuel9; exact absurd hfuel9 (Nat.not_lt_zero _)
                          | succ fuel9 ih9 =>
                            intro vc f4 hi hM hS hF hc hc2 e9 hu hsf hfuel9
                            refine ks_iload hκ 238 4 dX7_turn_238 rfl ?_
                            refine ks_iload_n hκ 240 1 dX7_turn_240 rfl ?_
                            refine ks_aload_n hκ 241 0 dX7_turn_241 rfl ?_
                            refine ks_get hκ 242 dX7_turn_242 kf_X7_7 hM rfl ?_
                            refine ks_iload_n hκ 245 1 dX7_turn_245 rfl ?_
                            refine ks_bipush hκ 246 (nI 9) dX7_turn_246 kq_b9 ?_
                            refine ks_iaddN hκ 248 dX7_turn_248 ?_
                            refine ks_iald hκ 249 ((b + 9)) dX7_turn_249 hS rfl (by omega) (by decide) ?_
                            refine ks_top (nI (P2.length + 1 - 1)) e9 ?_
                            refine ks_pureS2 hκ 250 dX7_turn_250 kc_X7_87 (c_Model_planAt) (by decide) (Nat.le_of_ble_eq_true rfl) (by decide) (by decide) ?_
                            refine ks_icmp_ge hκ 253 278 dX7_turn_253 rfl (fun c253 => ?_) (fun c253 => ?_)
                            · skip
                              have c253 := (nI_leI (by omega) (by omega)).mp c253
                              have hmd4 := hmd3.pop (P2 := P2) rfl e9 (fun j q1 q2 => hu j q1 (by omega)) (fun j q1 q2 => hsf j q1 (by omega))
                              refine ks_goto hκ 278 85 dX7_turn_278 rfl ?_
                              refine ks_pick [0, 1, 2] [(0, _), (1, _), (2, _)] rfl ?_
                              exact ks_cv (ih8 vn1 _ f4 _ _ _ _ P2 hi hM hS hF hmd4 (fun j hj => (hu j (by omega) (by omega)).trans (hoz j hj)) (kLeap_steps (σ := (se, tu + nI 1, ki, ma1, re1, kf1, L1, P2)) hst1 hvs2 hvt) (fun q hq => hpk1 q (List.mem_cons_of_mem _ hq)) hbal9 (by omega) hinv (by omega)) rfl rfl rfl
                            · skip
                              have c253 := mt (nI_leI (by omega) (by omega)).mpr c253
                              refine ks_aload_n hκ 256 0 dX7_turn_256 rfl ?_
                              refine ks_get hκ 257 dX7_turn_257 kf_X7_7 hM rfl ?_
                              refine ks_iload hκ 260 4 dX7_turn_260 rfl ?_
                              refine ks_aload_n hκ 262 0 dX7_turn_262 rfl ?_
                              refine ks_get hκ 263 dX7_turn_263 kf_X7_7 hM rfl ?_
                              refine ks_iload hκ 266 4 dX7_turn_266 rfl ?_
                              refine ks_iconst hκ 268 (nI 3) dX7_turn_268 kq_i3 ?_
                              refine ks_iaddN hκ 269 dX7_turn_269 ?_
                              refine ks_iald hκ 270 ((vc + 3)) dX7_turn_270 hS rfl (by omega) (by decide) ?_
                              refine ks_iast hκ 271 (vc) dX7_turn_271 hS rfl (by omega) (by decide) ?_
                              refine ks_gen (fun xh14 exh14 => ?_)
                              replace hM := ks_gn exh14 (ks_nb (b := m) (i := 1) (j := 0) rfl) hM
                              replace hS := ks_gs exh14 hS
                              replace hF := ks_Fr.st hF exh14 (by omega) (by omega)
                              clear exh14
                              refine ks_iinc hκ 272 7 4 (nI (vc + 1)) [(7, _), (0, _), (1, _), (2, _), (5, _)] dX7_turn_272 rfl (ks_inc1 _) (by decide) rfl ?_
                              refine ks_goto hκ 275 238 dX7_turn_275 rfl ?_
                              refine ks_pick [1, 2, 3, 4, 0] [(0, _), (1, _), (2, _), (5, _), (7, _)] rfl ?_
                              exact ks_cv (ih9 (vc + 1) _ xh14 hM hS hF (by omega) (by omega) (by rw [kU_n (by omega)]; exact e9) (fun j q1 q2 => by rw [kU_n (by omega)]; exact hu j q1 (by omega)) (fun j q1 q2 => by by_cases q : j = vc; { subst q; rw [kU_s]; exact hu _ (by omega) (by omega) }; { rw [kU_n (by omega)]; exact hsf j q1 (by omega) }) (by omega)) rfl rfl rfl
                        refine ks_pick [6, 7, 1, 3, 0] [(0, _), (1, _), (2, _), (5, _), (7, _)] rfl ?_
                        exact ks_cv (L238 _ _ _ xh13 hM hS hF (by omega) (by omega) kU_s (fun j q _ => kU_n q) (fun j q1 q2 => absurd q2 (by omega)) (Nat.lt_succ_self _)) rfl rfl rfl
        refine ks_pick [1, 2, 0] [(0, _), (1, _), (2, _)] rfl ?_
        exact ks_cv (L85 _ 16 0 _ _ _ _ _ _ hh hM hS hF hmd1 hout (fun j hj => by unfold kWakes; rw [kWakes_0]; exact hsteps j hj) hpk ⟨fun j hj => by unfold kWakes; rw [kWakes_3]; exact hbal.1 j hj, hbal.2⟩ mPl rfl (Nat.lt_succ_self _)) rfl rfl rfl
      · skip
        have c23 := mt (nI_leI (by omega) (by omega)).mpr c23
        rw [kdropR (by omega), List.foldl_cons] at hinv
        refine ks_iload_n hκ 26 1 dX7_turn_26 rfl ?_
        refine ks_iload_n hκ 27 2 dX7_turn_27 rfl ?_
        refine ks_pureS2 hκ 28 dX7_turn_28 kc_X7_28 (c_Model_kittenAt) (by decide) (Nat.le_of_ble_eq_true rfl) (by decide) (by decide) ?_
        refine ks_istore_n hκ 31 3 [(3, _), (0, _), (1, _), (2, _)] dX7_turn_31 rfl (by decide) rfl ?_
        refine ks_aload_n hκ 32 1 dX7_turn_32 rfl ?_
        refine ks_get hκ 33 dX7_turn_33 kf_X7_7 hM rfl ?_
        refine ks_iload_n hκ 36 0 dX7_turn_36 rfl ?_
        refine ks_iconst hκ 37 (nI 2) dX7_turn_37 kq_i2 ?_
        refine ks_iaddN hκ 38 dX7_turn_38 ?_
        refine ks_iald hκ 39 (((b + 10 + 7 * vj) + 2)) dX7_turn_39 hS rfl (by omega) (by decide) ?_
        refine ks_top (kf1 2 vj) (hmd1.fld (c := 2) (show vj < ki by omega) (by decide)) ?_
        refine ks_aload_n hκ 40 1 dX7_turn_40 rfl ?_
        refine ks_get hκ 41 dX7_turn_41 kf_X7_7 hM rfl ?_
        refine ks_iload_n hκ 44 2 dX7_turn_44 rfl ?_
        refine ks_iconst hκ 45 (nI 4) dX7_turn_45 kq_i4 ?_
        refine ks_iaddN hκ 46 dX7_turn_46 ?_
        refine ks_iald hκ 47 ((b + 4)) dX7_turn_47 hS rfl (by omega) (by decide) ?_
        refine ks_top (tu + nI 1) (hmd1.2.1) ?_
        refine ks_icmp_ne hκ 48 77 dX7_turn_48 rfl (fun c48 => ?_) (fun c48 => ?_)
        · skip
          refine ks_iinc hκ 77 2 3 (nI (vj + 1)) [(2, _), (3, _), (0, _), (1, _)] dX7_turn_77 rfl (ks_inc1 _) (by decide) rfl ?_
          refine ks_goto hκ 80 14 dX7_turn_80 rfl ?_
          refine ks_pick [2, 3, 0] [(0, _), (1, _), (2, _)] rfl ?_
          exact ks_cv (ih (vj + 1) _ kf1 hh hM hS hF hmd1 hout (by omega) (by rw [← hinv, kWakeS, if_neg c48]) (by omega)) rfl rfl rfl
        · skip
          refine ks_aload_n hκ 51 1 dX7_turn_51 rfl ?_
          refine ks_get hκ 52 dX7_turn_52 kf_X7_7 hM rfl ?_
          refine ks_iload_n hκ 55 0 dX7_turn_55 rfl ?_
          refine ks_iconst hκ 56 (nI 2) dX7_turn_56 kq_i2 ?_
          refine ks_iaddN hκ 57 dX7_turn_57 ?_
          refine ks_bipush hκ 58 (-6) dX7_turn_58 kq_bm6 ?_
          refine ks_iast hκ 60 (((b + 10 + 7 * vj) + 2)) dX7_turn_60 hS rfl (by omega) (by decide) ?_
          refine ks_gen (fun xh15 exh15 => ?_)
          replace hM := ks_gn exh15 (ks_nb (b := m) (i := 1) (j := 0) rfl) hM
          replace hS := ks_gs exh15 hS
          replace hF := ks_Fr.st hF exh15 (by omega) (by omega)
          clear exh15
          have hmd2 := hmd1.put (c := 2) (v := -6) (show vj < ki by omega) (by decide)
          refine ks_aload_n hκ 61 1 dX7_turn_61 rfl ?_
          refine ks_get hκ 62 dX7_turn_62 kf_X7_7 hM rfl ?_
          refine ks_iload_n hκ 65 0 dX7_turn_65 rfl ?_
          refine ks_iconst hκ 66 (nI 1) dX7_turn_66 kq_i1 ?_
          refine ks_iaddN hκ 67 dX7_turn_67 ?_
          refine ks_aload_n hκ 68 1 dX7_turn_68 rfl ?_
          refine ks_get hκ 69 dX7_turn_69 kf_X7_7 hM rfl ?_
          refine ks_iload_n hκ 72 2 dX7_turn_72 rfl ?_
          refine ks_iconst hκ 73 (nI 3) dX7_turn_73 kq_i3 ?_
          refine ks_iaddN hκ 74 dX7_turn_74 ?_
          refine ks_iald hκ 75 ((b + 3)) dX7_turn_75 hS rfl (by omega) (by decide) ?_
          refine ks_top (se 3) (hmd2.1 3 (by decide)) ?_
          refine ks_iast hκ 76 (((b + 10 + 7 * vj) + 1)) dX7_turn_76 hS rfl (by omega) (by decide) ?_
          refine ks_gen (fun xh16 exh16 => ?_)
          replace hM := ks_gn exh16 (ks_nb (b := m) (i := 1) (j := 0) rfl) hM
          replace hS := ks_gs exh16 hS
          replace hF := ks_Fr.st hF exh16 (by omega) (by omega)
          clear exh16
          refine ks_iinc hκ 77 2 3 (nI (vj + 1)) [(2, _), (3, _), (0, _), (1, _)] dX7_turn_77 rfl (ks_inc1 _) (by decide) rfl ?_
          refine ks_goto hκ 80 14 dX7_turn_80 rfl ?_
          refine ks_pick [2, 3, 0] [(0, _), (1, _), (2, _)] rfl ?_
          exact ks_cv (ih (vj + 1) _ _ xh16 hM hS hF (hmd2.put (c := 1) (v := se 3) (by omega) (by decide)) (fun j hj => by rw [kU_n (by omega), kU_n (by omega)]; exact hout j hj) (by omega) (by rw [← hinv, kWakeS, if_pos c48]) (by omega)) rfl rfl rfl
  refine ks_pick [1, 2, 0] [(0, _), (1, _), (2, _)] rfl ?_
  exact ks_cv (L14 _ 0 _ _ xh1 hM hS hF hmd1 (fun j hj => kU_n (by omega)) (Nat.zero_le _) rfl (Nat.lt_succ_self _)) rfl rfl rfl

theorem c_Model_turnS {g : ks_G} {h : ks_H} {m b : Nat} {fs : List Value} {f : Nat → Int32} {σ : kS} (hM : h[m]? = some (ks_O 7 (ks_ref g (m + 1) :: fs))) (hS : h[m + 1]? = some (ks_I g 3400 f)) (hb : b + 340 ≤ 3400) (hmd : kMd f b σ) (hok : kOk2 σ) (hbal : kBal σ) : ks_Met g (yX7_turn, cX7_turn, 8, some .int) 6 0 0 [ks_ref g m, .int (nI b)] h (ks_Ph (fun r h' => r = nI (kTurn σ).1 ∧ kMP g m b h h' f (kTurn σ).2)) := by
  obtain ⟨se, tu, ki, ma, re, kf, L, P⟩ := σ
  exact c_Model_turn hM hS hb hmd hok hbal
