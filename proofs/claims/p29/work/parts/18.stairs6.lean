/-! Stairs: copies and new ones -/
theorem ks_extc {κ : ks_C} {g : ks_G} {nL k n : Nat} {h : ks_H} {ls : List (Nat × Value)} {st : List Value} {pc i N : Nat} {f z : Nat → Int32} (hc : h[i]? = some (ks_I g N (va_cpy f z 0 0 N))) (kk : ks_K κ g nL (h.set i (ks_I g N f)) k n pc ls st) : ks_K κ g nL h k n pc ls st :=
  ks_ext hc (fun j hj => by rw [pk_cpy_in (Nat.zero_le _) (by omega), Nat.sub_zero, Nat.zero_add]) kk
def kNew : kS := (fun j => ([3, 4, 5, 14] : List Int32).getD j 0, nI 0, 0, nI 0, nI 0, fun _ _ => 0, [], [])
set_option maxRecDepth 100000 in
set_option maxHeartbeats 4000000 in
theorem c_Stairs_copyFrom {g : ks_G} {h : ks_H} {b : Nat} {se : Nat → Int32} {tu : Int32} {ki : Nat} {ma re : Int32} {kf : Nat → Nat → Int32} {L : List (Nat × Nat)} {P : List kP} {bo : Nat} {se2 : Nat → Int32} {tu2 : Int32} {ki2 : Nat} {ma2 re2 : Int32} {kf2 : Nat → Nat → Int32} {L2 : List (Nat × Nat)} {P2 : List kP} (hst : kStairs g h b (se, tu, ki, ma, re, kf, L, P)) (hst2 : kStairs g h bo (se2, tu2, ki2, ma2, re2, kf2, L2, P2)) (hap : b + 16 ≤ bo ∨ bo + 16 ≤ b) : ks_Met g (yX4_copyFrom, cX4_copyFrom, 2, none) 2 0 0 [ks_ref g b, ks_ref g bo] h (ks_Pv (fun h' => kStairs g h' b (se2, tu2, ki2, ma2, re2, kf2, L2, P2) ∧ ks_Fr h h' b (b + 16))) := by
  have hst0 := hst
  obtain ⟨h0, h1, h2, h3, h4, h5, h6, h7, h8, hyarn, hplans, hki⟩ := hst
  dsimp only at h0 h1 h2 h3 h4 h5 h6 h7 h8 hyarn hplans hki
  obtain ⟨E, O, hY, -⟩ := id hyarn
  obtain ⟨_, _, _, hQ, -⟩ := id hplans
  obtain ⟨q0, q1, q2, q3, q4, q5, q6, q7, q8, hyarn2, hplans2, hki2⟩ := hst2
  dsimp only at q0 q1 q2 q3 q4 q5 q6 q7 q8 hyarn2 hplans2 hki2
  refine ks_intro (by decide) (Nat.le_of_ble_eq_true rfl) (fun κ hκ hRt => ?_)
  refine ks_cv (ls := [(0, ks_ref g b), (1, ks_ref g bo)]) ?_ rfl rfl rfl
  have hF : ks_Fr h h b (b + 16) := ks_Fr.rf
  refine ks_aload_n hκ 0 1 dX4_copyFrom_0 rfl ?_
  refine ks_get hκ 1 dX4_copyFrom_1 kf_X4_9 q0 rfl ?_
  refine ks_iconst hκ 4 (nI 0) dX4_copyFrom_4 kq_i0 ?_
  refine ks_aload_n hκ 5 0 dX4_copyFrom_5 rfl ?_
  refine ks_get hκ 6 dX4_copyFrom_6 kf_X4_9 h0 rfl ?_
  refine ks_iconst hκ 9 (nI 0) dX4_copyFrom_9 kq_i0 ?_
  refine ks_iconst hκ 10 (nI 4) dX4_copyFrom_10 kq_i4 ?_
  refine ks_acopy hκ 11 (4) dX4_copyFrom_11 kj_X4_66 ku_cn ku_cs ku_ci (by decide) (Nat.le_of_ble_eq_true rfl) q1 h1 rfl rfl rfl (by omega) (by omega) (by omega) ?_
  refine ks_gen (fun xh1 exh1 => ?_)
  replace h0 := ks_gn exh1 (ks_nb (b := b) (i := 1) (j := 0) rfl) h0
  replace h1 := ks_gs exh1 h1
  replace h2 := ks_gn exh1 (ks_nb (b := b) (i := 1) (j := 2) rfl) h2
  replace h3 := ks_gn exh1 (ks_nb (b := b) (i := 1) (j := 3) rfl) h3
  replace h4 := ks_gn exh1 (ks_nb (b := b) (i := 1) (j := 4) rfl) h4
  replace h5 := ks_gn exh1 (ks_nb (b := b) (i := 1) (j := 5) rfl) h5
  replace h6 := ks_gn exh1 (ks_nb (b := b) (i := 1) (j := 6) rfl) h6
  replace h7 := ks_gn exh1 (ks_nb (b := b) (i := 1) (j := 7) rfl) h7
  replace h8 := ks_gn exh1 (ks_nb (b := b) (i := 1) (j := 8) rfl) h8
  replace q0 := ks_gn exh1 (ks_nx (b := b) (c := bo) (i := 1) (j := 0) hap rfl rfl) q0
  replace q1 := ks_gn exh1 (ks_nx (b := b) (c := bo) (i := 1) (j := 1) hap rfl rfl) q1
  replace q2 := ks_gn exh1 (ks_nx (b := b) (c := bo) (i := 1) (j := 2) hap rfl rfl) q2
  replace q3 := ks_gn exh1 (ks_nx (b := b) (c := bo) (i := 1) (j := 3) hap rfl rfl) q3
  replace q4 := ks_gn exh1 (ks_nx (b := b) (c := bo) (i := 1) (j := 4) hap rfl rfl) q4
  replace q5 := ks_gn exh1 (ks_nx (b := b) (c := bo) (i := 1) (j := 5) hap rfl rfl) q5
  replace q6 := ks_gn exh1 (ks_nx (b := b) (c := bo) (i := 1) (j := 6) hap rfl rfl) q6
  replace q7 := ks_gn exh1 (ks_nx (b := b) (c := bo) (i := 1) (j := 7) hap rfl rfl) q7
  replace q8 := ks_gn exh1 (ks_nx (b := b) (c := bo) (i := 1) (j := 8) hap rfl rfl) q8
  replace hY := ks_gn exh1 (ks_nb (b := b) (i := 1) (j := 9) rfl) hY
  replace hQ := ks_gn exh1 (ks_nb (b := b) (i := 1) (j := 12) rfl) hQ
  replace hyarn := hyarn.fr (ks_Fr.one exh1) (by omega)
  replace hplans := hplans.fr (ks_Fr.one exh1) (by omega)
  replace hyarn2 := hyarn2.fr (ks_Fr.one exh1) (by omega)
  replace hplans2 := hplans2.fr (ks_Fr.one exh1) (by omega)
  replace hF := ks_Fr.st hF exh1 (by omega) (by omega)
  clear exh1
  refine ks_extc h1 ?_
  refine ks_gen (fun xh2 exh2 => ?_)
  replace h0 := ks_gn exh2 (ks_nb (b := b) (i := 1) (j := 0) rfl) h0
  replace h1 := ks_gs exh2 h1
  replace h2 := ks_gn exh2 (ks_nb (b := b) (i := 1) (j := 2) rfl) h2
  replace h3 := ks_gn exh2 (ks_nb (b := b) (i := 1) (j := 3) rfl) h3
  replace h4 := ks_gn exh2 (ks_nb (b := b) (i := 1) (j := 4) rfl) h4
  replace h5 := ks_gn exh2 (ks_nb (b := b) (i := 1) (j := 5) rfl) h5
  replace h6 := ks_gn exh2 (ks_nb (b := b) (i := 1) (j := 6) rfl) h6
  replace h7 := ks_gn exh2 (ks_nb (b := b) (i := 1) (j := 7) rfl) h7
  replace h8 := ks_gn exh2 (ks_nb (b := b) (i := 1) (j := 8) rfl) h8
  replace q0 := ks_gn exh2 (ks_nx (b := b) (c := bo) (i := 1) (j := 0) hap rfl rfl) q0
  replace q1 := ks_gn exh2 (ks_nx (b := b) (c := bo) (i := 1) (j := 1) hap rfl rfl) q1
  replace q2 := ks_gn exh2 (ks_nx (b := b) (c := bo) (i := 1) (j := 2) hap rfl rfl) q2
  replace q3 := ks_gn exh2 (ks_nx (b := b) (c := bo) (i := 1) (j := 3) hap rfl rfl) q3
  replace q4 := ks_gn exh2 (ks_nx (b := b) (c := bo) (i := 1) (j := 4) hap rfl rfl) q4
  replace q5 := ks_gn exh2 (ks_nx (b := b) (c := bo) (i := 1) (j := 5) hap rfl rfl) q5
  replace q6 := ks_gn exh2 (ks_nx (b := b) (c := bo) (i := 1) (j := 6) hap rfl rfl) q6
  replace q7 := ks_gn exh2 (ks_nx (b := b) (c := bo) (i := 1) (j := 7) hap rfl rfl) q7
  replace q8 := ks_gn exh2 (ks_nx (b := b) (c := bo) (i := 1) (j := 8) hap rfl rfl) q8
  replace hY := ks_gn exh2 (ks_nb (b := b) (i := 1) (j := 9) rfl) hY
  replace hQ := ks_gn exh2 (ks_nb (b := b) (i := 1) (j := 12) rfl) hQ
  replace hyarn := hyarn.fr (ks_Fr.one exh2) (by omega)
  replace hplans := hplans.fr (ks_Fr.one exh2) (by omega)
  replace hyarn2 := hyarn2.fr (ks_Fr.one exh2) (by omega)
  replace hplans2 := hplans2.fr (ks_Fr.one exh2) (by omega)
  replace hF := ks_Fr.st hF exh2 (by omega) (by omega)
  clear exh2
  refine ks_aload_n hκ 14 0 dX4_copyFrom_14 rfl ?_
  refine ks_aload_n hκ 15 1 dX4_copyFrom_15 rfl ?_
  refine ks_get hκ 16 dX4_copyFrom_16 kf_X4_15 q0 rfl ?_
  refine ks_putS hκ 19 [_, _, _, _, _, _, _, _, _, _, _, _, _, _] dX4_copyFrom_19 kf_X4_15 h0 rfl rfl (Nat.le_of_ble_eq_true rfl) rfl ?_
  refine ks_gen (fun xh3 exh3 => ?_)
  replace h0 := ks_gs exh3 h0
  replace h1 := ks_gn exh3 (ks_nb (b := b) (i := 0) (j := 1) rfl) h1
  replace h2 := ks_gn exh3 (ks_nb (b := b) (i := 0) (j := 2) rfl) h2
  replace h3 := ks_gn exh3 (ks_nb (b := b) (i := 0) (j := 3) rfl) h3
  replace h4 := ks_gn exh3 (ks_nb (b := b) (i := 0) (j := 4) rfl) h4
  replace h5 := ks_gn exh3 (ks_nb (b := b) (i := 0) (j := 5) rfl) h5
  replace h6 := ks_gn exh3 (ks_nb (b := b) (i := 0) (j := 6) rfl) h6
  replace h7 := ks_gn exh3 (ks_nb (b := b) (i := 0) (j := 7) rfl) h7
  replace h8 := ks_gn exh3 (ks_nb (b := b) (i := 0) (j := 8) rfl) h8
  replace q0 := ks_gn exh3 (ks_nx (b := b) (c := bo) (i := 0) (j := 0) hap rfl rfl) q0
  replace q1 := ks_gn exh3 (ks_nx (b := b) (c := bo) (i := 0) (j := 1) hap rfl rfl) q1
  replace q2 := ks_gn exh3 (ks_nx (b := b) (c := bo) (i := 0) (j := 2) hap rfl rfl) q2
  replace q3 := ks_gn exh3 (ks_nx (b := b) (c := bo) (i := 0) (j := 3) hap rfl rfl) q3
  replace q4 := ks_gn exh3 (ks_nx (b := b) (c := bo) (i := 0) (j := 4) hap rfl rfl) q4
  replace q5 := ks_gn exh3 (ks_nx (b := b) (c := bo) (i := 0) (j := 5) hap rfl rfl) q5
  replace q6 := ks_gn exh3 (ks_nx (b := b) (c := bo) (i := 0) (j := 6) hap rfl rfl) q6
  replace q7 := ks_gn exh3 (ks_nx (b := b) (c := bo) (i := 0) (j := 7) hap rfl rfl) q7
  replace q8 := ks_gn exh3 (ks_nx (b := b) (c := bo) (i := 0) (j := 8) hap rfl rfl) q8
  replace hY := ks_gn exh3 (ks_nb (b := b) (i := 0) (j := 9) rfl) hY
  replace hQ := ks_gn exh3 (ks_nb (b := b) (i := 0) (j := 12) rfl) hQ
  replace hyarn := hyarn.fr (ks_Fr.one exh3) (by omega)
  replace hplans := hplans.fr (ks_Fr.one exh3) (by omega)
  replace hyarn2 := hyarn2.fr (ks_Fr.one exh3) (by omega)
  replace hplans2 := hplans2.fr (ks_Fr.one exh3) (by omega)
  replace hF := ks_Fr.st hF exh3 (by omega) (by omega)
  clear exh3
  refine ks_aload_n hκ 22 0 dX4_copyFrom_22 rfl ?_
  refine ks_aload_n hκ 23 1 dX4_copyFrom_23 rfl ?_
  refine ks_get hκ 24 dX4_copyFrom_24 kf_X4_19 q0 rfl ?_
  refine ks_putS hκ 27 [_, _, _, _, _, _, _, _, _, _, _, _, _, _] dX4_copyFrom_27 kf_X4_19 h0 rfl rfl (Nat.le_of_ble_eq_true rfl) rfl ?_
  refine ks_gen (fun xh4 exh4 => ?_)
  replace h0 := ks_gs exh4 h0
  replace h1 := ks_gn exh4 (ks_nb (b := b) (i := 0) (j := 1) rfl) h1
  replace h2 := ks_gn exh4 (ks_nb (b := b) (i := 0) (j := 2) rfl) h2
  replace h3 := ks_gn exh4 (ks_nb (b := b) (i := 0) (j := 3) rfl) h3
  replace h4 := ks_gn exh4 (ks_nb (b := b) (i := 0) (j := 4) rfl) h4
  replace h5 := ks_gn exh4 (ks_nb (b := b) (i := 0) (j := 5) rfl) h5
  replace h6 := ks_gn exh4 (ks_nb (b := b) (i := 0) (j := 6) rfl) h6
  replace h7 := ks_gn exh4 (ks_nb (b := b) (i := 0) (j := 7) rfl) h7
  replace h8 := ks_gn exh4 (ks_nb (b := b) (i := 0) (j := 8) rfl) h8
  replace q0 := ks_gn exh4 (ks_nx (b := b) (c := bo) (i := 0) (j := 0) hap rfl rfl) q0
  replace q1 := ks_gn exh4 (ks_nx (b := b) (c := bo) (i := 0) (j := 1) hap rfl rfl) q1
  replace q2 := ks_gn exh4 (ks_nx (b := b) (c := bo) (i := 0) (j := 2) hap rfl rfl) q2
  replace q3 := ks_gn exh4 (ks_nx (b := b) (c := bo) (i := 0) (j := 3) hap rfl rfl) q3
  replace q4 := ks_gn exh4 (ks_nx (b := b) (c := bo) (i := 0) (j := 4) hap rfl rfl) q4
  replace q5 := ks_gn exh4 (ks_nx (b := b) (c := bo) (i := 0) (j := 5) hap rfl rfl) q5
  replace q6 := ks_gn exh4 (ks_nx (b := b) (c := bo) (i := 0) (j := 6) hap rfl rfl) q6
  replace q7 := ks_gn exh4 (ks_nx (b := b) (c := bo) (i := 0) (j := 7) hap rfl rfl) q7
  replace q8 := ks_gn exh4 (ks_nx (b := b) (c := bo) (i := 0) (j := 8) hap rfl rfl) q8
  replace hY := ks_gn exh4 (ks_nb (b := b) (i := 0) (j := 9) rfl) hY
  replace hQ := ks_gn exh4 (ks_nb (b := b) (i := 0) (j := 12) rfl) hQ
  replace hyarn := hyarn.fr (ks_Fr.one exh4) (by omega)
  replace hplans := hplans.fr (ks_Fr.one exh4) (by omega)
  replace hyarn2 := hyarn2.fr (ks_Fr.one exh4) (by omega)
  replace hplans2 := hplans2.fr (ks_Fr.one exh4) (by omega)
  replace hF := ks_Fr.st hF exh4 (by omega) (by omega)
  clear exh4
  refine ks_aload_n hκ 30 0 dX4_copyFrom_30 rfl ?_
  refine ks_aload_n hκ 31 1 dX4_copyFrom_31 rfl ?_
  refine ks_get hκ 32 dX4_copyFrom_32 kf_X4_22 q0 rfl ?_
  refine ks_putS hκ 35 [_, _, _, _, _, _, _, _, _, _, _, _, _, _] dX4_copyFrom_35 kf_X4_22 h0 rfl rfl (Nat.le_of_ble_eq_true rfl) rfl ?_
  refine ks_gen (fun xh5 exh5 => ?_)
  replace h0 := ks_gs exh5 h0
  replace h1 := ks_gn exh5 (ks_nb (b := b) (i := 0) (j := 1) rfl) h1
  replace h2 := ks_gn exh5 (ks_nb (b := b) (i := 0) (j := 2) rfl) h2
  replace h3 := ks_gn exh5 (ks_nb (b := b) (i := 0) (j := 3) rfl) h3
  replace h4 := ks_gn exh5 (ks_nb (b := b) (i := 0) (j := 4) rfl) h4
  replace h5 := ks_gn exh5 (ks_nb (b := b) (i := 0) (j := 5) rfl) h5
  replace h6 := ks_gn exh5 (ks_nb (b := b) (i := 0) (j := 6) rfl) h6
  replace h7 := ks_gn exh5 (ks_nb (b := b) (i := 0) (j := 7) rfl) h7
  replace h8 := ks_gn exh5 (ks_nb (b := b) (i := 0) (j := 8) rfl) h8
  replace q0 := ks_gn exh5 (ks_nx (b := b) (c := bo) (i := 0) (j := 0) hap rfl rfl) q0
  replace q1 := ks_gn exh5 (ks_nx (b := b) (c := bo) (i := 0) (j := 1) hap rfl rfl) q1
  replace q2 := ks_gn exh5 (ks_nx (b := b) (c := bo) (i := 0) (j := 2) hap rfl rfl) q2
  replace q3 := ks_gn exh5 (ks_nx (b := b) (c := bo) (i := 0) (j := 3) hap rfl rfl) q3
  replace q4 := ks_gn exh5 (ks_nx (b := b) (c := bo) (i := 0) (j := 4) hap rfl rfl) q4
  replace q5 := ks_gn exh5 (ks_nx (b := b) (c := bo) (i := 0) (j := 5) hap rfl rfl) q5
  replace q6 := ks_gn exh5 (ks_nx (b := b) (c := bo) (i := 0) (j := 6) hap rfl rfl) q6
  replace q7 := ks_gn exh5 (ks_nx (b := b) (c := bo) (i := 0) (j := 7) hap rfl rfl) q7
  replace q8 := ks_gn exh5 (ks_nx (b := b) (c := bo) (i := 0) (j := 8) hap rfl rfl) q8
  replace hY := ks_gn exh5 (ks_nb (b := b) (i := 0) (j := 9) rfl) hY
  replace hQ := ks_gn exh5 (ks_nb (b := b) (i := 0) (j := 12) rfl) hQ
  replace hyarn := hyarn.fr (ks_Fr.one exh5) (by omega)
  replace hplans := hplans.fr (ks_Fr.one exh5) (by omega)
  replace hyarn2 := hyarn2.fr (ks_Fr.one exh5) (by omega)
  replace hplans2 := hplans2.fr (ks_Fr.one exh5) (by omega)
  replace hF := ks_Fr.st hF exh5 (by omega) (by omega)
  clear exh5
  refine ks_aload_n hκ 38 0 dX4_copyFrom_38 rfl ?_
  refine ks_aload_n hκ 39 1 dX4_copyFrom_39 rfl ?_
  refine ks_get hκ 40 dX4_copyFrom_40 kf_X4_25 q0 rfl ?_
  refine ks_putS hκ 43 [_, _, _, _, _, _, _, _, _, _, _, _, _, _] dX4_copyFrom_43 kf_X4_25 h0 rfl rfl (Nat.le_of_ble_eq_true rfl) rfl ?_
  refine ks_gen (fun xh6 exh6 => ?_)
  replace h0 := ks_gs exh6 h0
  replace h1 := ks_gn exh6 (ks_nb (b := b) (i := 0) (j := 1) rfl) h1
  replace h2 := ks_gn exh6 (ks_nb (b := b) (i := 0) (j := 2) rfl) h2
  replace h3 := ks_gn exh6 (ks_nb (b := b) (i := 0) (j := 3) rfl) h3
  replace h4 := ks_gn exh6 (ks_nb (b := b) (i := 0) (j := 4) rfl) h4
  replace h5 := ks_gn exh6 (ks_nb (b := b) (i := 0) (j := 5) rfl) h5
  replace h6 := ks_gn exh6 (ks_nb (b := b) (i := 0) (j := 6) rfl) h6
  replace h7 := ks_gn exh6 (ks_nb (b := b) (i := 0) (j := 7) rfl) h7
  replace h8 := ks_gn exh6 (ks_nb (b := b) (i := 0) (j := 8) rfl) h8
  replace q0 := ks_gn exh6 (ks_nx (b := b) (c := bo) (i := 0) (j := 0) hap rfl rfl) q0
  replace q1 := ks_gn exh6 (ks_nx (b := b) (c := bo) (i := 0) (j := 1) hap rfl rfl) q1
  replace q2 := ks_gn exh6 (ks_nx (b := b) (c := bo) (i := 0) (j := 2) hap rfl rfl) q2
  replace q3 := ks_gn exh6 (ks_nx (b := b) (c := bo) (i := 0) (j := 3) hap rfl rfl) q3
  replace q4 := ks_gn exh6 (ks_nx (b := b) (c := bo) (i := 0) (j := 4) hap rfl rfl) q4
  replace q5 := ks_gn exh6 (ks_nx (b := b) (c := bo) (i := 0) (j := 5) hap rfl rfl) q5
  replace q6 := ks_gn exh6 (ks_nx (b := b) (c := bo) (i := 0) (j := 6) hap rfl rfl) q6
  replace q7 := ks_gn exh6 (ks_nx (b := b) (c := bo) (i := 0) (j := 7) hap rfl rfl) q7
  replace q8 := ks_gn exh6 (ks_nx (b := b) (c := bo) (i := 0) (j := 8) hap rfl rfl) q8
  replace hY := ks_gn exh6 (ks_nb (b := b) (i := 0) (j := 9) rfl) hY
  replace hQ := ks_gn exh6 (ks_nb (b := b) (i := 0) (j := 12) rfl) hQ
  replace hyarn := hyarn.fr (ks_Fr.one exh6) (by omega)
  replace hplans := hplans.fr (ks_Fr.one exh6) (by omega)
  replace hyarn2 := hyarn2.fr (ks_Fr.one exh6) (by omega)
  replace hplans2 := hplans2.fr (ks_Fr.one exh6) (by omega)
  replace hF := ks_Fr.st hF exh6 (by omega) (by omega)
  clear exh6
  refine ks_aload_n hκ 46 1 dX4_copyFrom_46 rfl ?_
  refine ks_get hκ 47 dX4_copyFrom_47 kf_X4_28 q0 rfl ?_
  refine ks_iconst hκ 50 (nI 0) dX4_copyFrom_50 kq_i0 ?_
  refine ks_aload_n hκ 51 0 dX4_copyFrom_51 rfl ?_
  refine ks_get hκ 52 dX4_copyFrom_52 kf_X4_28 h0 rfl ?_
  refine ks_iconst hκ 55 (nI 0) dX4_copyFrom_55 kq_i0 ?_
  refine ks_bipush hκ 56 (nI 6) dX4_copyFrom_56 kq_b6 ?_
  refine ks_acopy hκ 58 (6) dX4_copyFrom_58 kj_X4_66 ku_cn ku_cs ku_ci (by decide) (Nat.le_of_ble_eq_true rfl) q2 h2 rfl rfl rfl (by omega) (by omega) (by omega) ?_
  refine ks_gen (fun xh7 exh7 => ?_)
  replace h0 := ks_gn exh7 (ks_nb (b := b) (i := 2) (j := 0) rfl) h0
  replace h1 := ks_gn exh7 (ks_nb (b := b) (i := 2) (j := 1) rfl) h1
  replace h2 := ks_gs exh7 h2
  replace h3 := ks_gn exh7 (ks_nb (b := b) (i := 2) (j := 3) rfl) h3
  replace h4 := ks_gn exh7 (ks_nb (b := b) (i := 2) (j := 4) rfl) h4
  replace h5 := ks_gn exh7 (ks_nb (b := b) (i := 2) (j := 5) rfl) h5
  replace h6 := ks_gn exh7 (ks_nb (b := b) (i := 2) (j := 6) rfl) h6
  replace h7 := ks_gn exh7 (ks_nb (b := b) (i := 2) (j := 7) rfl) h7
  replace h8 := ks_gn exh7 (ks_nb (b := b) (i := 2) (j := 8) rfl) h8
  replace q0 := ks_gn exh7 (ks_nx (b := b) (c := bo) (i := 2) (j := 0) hap rfl rfl) q0
  replace q1 := ks_gn exh7 (ks_nx (b := b) (c := bo) (i := 2) (j := 1) hap rfl rfl) q1
  replace q2 := ks_gn exh7 (ks_nx (b := b) (c := bo) (i := 2) (j := 2) hap rfl rfl) q2
  replace q3 := ks_gn exh7 (ks_nx (b := b) (c := bo) (i := 2) (j := 3) hap rfl rfl) q3
  replace q4 := ks_gn exh7 (ks_nx (b := b) (c := bo) (i := 2) (j := 4) hap rfl rfl) q4
  replace q5 := ks_gn exh7 (ks_nx (b := b) (c := bo) (i := 2) (j := 5) hap rfl rfl) q5
  replace q6 := ks_gn exh7 (ks_nx (b := b) (c := bo) (i := 2) (j := 6) hap rfl rfl) q6
  replace q7 := ks_gn exh7 (ks_nx (b := b) (c := bo) (i := 2) (j := 7) hap rfl rfl) q7
  replace q8 := ks_gn exh7 (ks_nx (b := b) (c := bo) (i := 2) (j := 8) hap rfl rfl) q8
  replace hY := ks_gn exh7 (ks_nb (b := b) (i := 2) (j := 9) rfl) hY
  replace hQ := ks_gn exh7 (ks_nb (b := b) (i := 2) (j := 12) rfl) hQ
  replace hyarn := hyarn.fr (ks_Fr.one exh7) (by omega)
  replace hplans := hplans.fr (ks_Fr.one exh7) (by omega)
  replace hyarn2 := hyarn2.fr (ks_Fr.one exh7) (by omega)
  replace hplans2 := hplans2.fr (ks_Fr.one exh7) (by omega)
  replace hF := ks_Fr.st hF exh7 (by omega) (by omega)
  clear exh7
  refine ks_extc h2 ?_
  refine ks_gen (fun xh8 exh8 => ?_)
  replace h0 := ks_gn exh8 (ks_nb (b := b) (i := 2) (j := 0) rfl) h0
  replace h1 := ks_gn exh8 (ks_nb (b := b) (i := 2) (j := 1) rfl) h1
  replace h2 := ks_gs exh8 h2
  replace h3 := ks_gn exh8 (ks_nb (b := b) (i := 2) (j := 3) rfl) h3
  replace h4 := ks_gn exh8 (ks_nb (b := b) (i := 2) (j := 4) rfl) h4
  replace h5 := ks_gn exh8 (ks_nb (b := b) (i := 2) (j := 5) rfl) h5
  replace h6 := ks_gn exh8 (ks_nb (b := b) (i := 2) (j := 6) rfl) h6
  replace h7 := ks_gn exh8 (ks_nb (b := b) (i := 2) (j := 7) rfl) h7
  replace h8 := ks_gn exh8 (ks_nb (b := b) (i := 2) (j := 8) rfl) h8
  replace q0 := ks_gn exh8 (ks_nx (b := b) (c := bo) (i := 2) (j := 0) hap rfl rfl) q0
  replace q1 := ks_gn exh8 (ks_nx (b := b) (c := bo) (i := 2) (j := 1) hap rfl rfl) q1
  replace q2 := ks_gn exh8 (ks_nx (b := b) (c := bo) (i := 2) (j := 2) hap rfl rfl) q2
  replace q3 := ks_gn exh8 (ks_nx (b := b) (c := bo) (i := 2) (j := 3) hap rfl rfl) q3
  replace q4 := ks_gn exh8 (ks_nx (b := b) (c := bo) (i := 2) (j := 4) hap rfl rfl) q4
  replace q5 := ks_gn exh8 (ks_nx (b := b) (c := bo) (i := 2) (j := 5) hap rfl rfl) q5
  replace q6 := ks_gn exh8 (ks_nx (b := b) (c := bo) (i := 2) (j := 6) hap rfl rfl) q6
  replace q7 := ks_gn exh8 (ks_nx (b := b) (c := bo) (i := 2) (j := 7) hap rfl rfl) q7
  replace q8 := ks_gn exh8 (ks_nx (b := b) (c := bo) (i := 2) (j := 8) hap rfl rfl) q8
  replace hY := ks_gn exh8 (ks_nb (b := b) (i := 2) (j := 9) rfl) hY
  replace hQ := ks_gn exh8 (ks_nb (b := b) (i := 2) (j := 12) rfl) hQ
  replace hyarn := hyarn.fr (ks_Fr.one exh8) (by omega)
  replace hplans := hplans.fr (ks_Fr.one exh8) (by omega)
  replace hyarn2 := hyarn2.fr (ks_Fr.one exh8) (by omega)
  replace hplans2 := hplans2.fr (ks_Fr.one exh8) (by omega)
  replace hF := ks_Fr.st hF exh8 (by omega) (by omega)
  clear exh8
  refine ks_aload_n hκ 61 1 dX4_copyFrom_61 rfl ?_
  refine ks_get hκ 62 dX4_copyFrom_62 kf_X4_31 q0 rfl ?_
  refine ks_iconst hκ 65 (nI 0) dX4_copyFrom_65 kq_i0 ?_
  refine ks_aload_n hκ 66 0 dX4_copyFrom_66 rfl ?_
  refine ks_get hκ 67 dX4_copyFrom_67 kf_X4_31 h0 rfl ?_
  refine ks_iconst hκ 70 (nI 0) dX4_copyFrom_70 kq_i0 ?_
  refine ks_bipush hκ 71 (nI 6) dX4_copyFrom_71 kq_b6 ?_
  refine ks_acopy hκ 73 (6) dX4_copyFrom_73 kj_X4_66 ku_cn ku_cs ku_ci (by decide) (Nat.le_of_ble_eq_true rfl) q3 h3 rfl rfl rfl (by omega) (by omega) (by omega) ?_
  refine ks_gen (fun xh9 exh9 => ?_)
  replace h0 := ks_gn exh9 (ks_nb (b := b) (i := 3) (j := 0) rfl) h0
  replace h1 := ks_gn exh9 (ks_nb (b := b) (i := 3) (j := 1) rfl) h1
  replace h2 := ks_gn exh9 (ks_nb (b := b) (i := 3) (j := 2) rfl) h2
  replace h3 := ks_gs exh9 h3
  replace h4 := ks_gn exh9 (ks_nb (b := b) (i := 3) (j := 4) rfl) h4
  replace h5 := ks_gn exh9 (ks_nb (b := b) (i := 3) (j := 5) rfl) h5
  replace h6 := ks_gn exh9 (ks_nb (b := b) (i := 3) (j := 6) rfl) h6
  replace h7 := ks_gn exh9 (ks_nb (b := b) (i := 3) (j := 7) rfl) h7
  replace h8 := ks_gn exh9 (ks_nb (b := b) (i := 3) (j := 8) rfl) h8
  replace q0 := ks_gn exh9 (ks_nx (b := b) (c := bo) (i := 3) (j := 0) hap rfl rfl) q0
  replace q1 := ks_gn exh9 (ks_nx (b := b) (c := bo) (i := 3) (j := 1) hap rfl rfl) q1
  replace q2 := ks_gn exh9 (ks_nx (b := b) (c := bo) (i := 3) (j := 2) hap rfl rfl) q2
  replace q3 := ks_gn exh9 (ks_nx (b := b) (c := bo) (i := 3) (j := 3) hap rfl rfl) q3
  replace q4 := ks_gn exh9 (ks_nx (b := b) (c := bo) (i := 3) (j := 4) hap rfl rfl) q4
  replace q5 := ks_gn exh9 (ks_nx (b := b) (c := bo) (i := 3) (j := 5) hap rfl rfl) q5
  replace q6 := ks_gn exh9 (ks_nx (b := b) (c := bo) (i := 3) (j := 6) hap rfl rfl) q6
  replace q7 := ks_gn exh9 (ks_nx (b := b) (c := bo) (i := 3) (j := 7) hap rfl rfl) q7
  replace q8 := ks_gn exh9 (ks_nx (b := b) (c := bo) (i := 3) (j := 8) hap rfl rfl) q8
  replace hY := ks_gn exh9 (ks_nb (b := b) (i := 3) (j := 9) rfl) hY
  replace hQ := ks_gn exh9 (ks_nb (b := b) (i := 3) (j := 12) rfl) hQ
  replace hyarn := hyarn.fr (ks_Fr.one exh9) (by omega)
  replace hplans := hplans.fr (ks_Fr.one exh9) (by omega)
  replace hyarn2 := hyarn2.fr (ks_Fr.one exh9) (by omega)
  replace hplans2 := hplans2.fr (ks_Fr.one exh9) (by omega)
  replace hF := ks_Fr.st hF exh9 (by omega) (by omega)
  clear exh9
  refine ks_extc h3 ?_
  refine ks_gen (fun xh10 exh10 => ?_)
  replace h0 := ks_gn exh10 (ks_nb (b := b) (i := 3) (j := 0) rfl) h0
  replace h1 := ks_gn exh10 (ks_nb (b := b) (i := 3) (j := 1) rfl) h1
  replace h2 := ks_gn exh10 (ks_nb (b := b) (i := 3) (j := 2) rfl) h2
  replace h3 := ks_gs exh10 h3
  replace h4 := ks_gn exh10 (ks_nb (b := b) (i := 3) (j := 4) rfl) h4
  replace h5 := ks_gn exh10 (ks_nb (b := b) (i := 3) (j := 5) rfl) h5
  replace h6 := ks_gn exh10 (ks_nb (b := b) (i := 3) (j := 6) rfl) h6
  replace h7 := ks_gn exh10 (ks_nb (b := b) (i := 3) (j := 7) rfl) h7
  replace h8 := ks_gn exh10 (ks_nb (b := b) (i := 3) (j := 8) rfl) h8
  replace q0 := ks_gn exh10 (ks_nx (b := b) (c := bo) (i := 3) (j := 0) hap rfl rfl) q0
  replace q1 := ks_gn exh10 (ks_nx (b := b) (c := bo) (i := 3) (j := 1) hap rfl rfl) q1
  replace q2 := ks_gn exh10 (ks_nx (b := b) (c := bo) (i := 3) (j := 2) hap rfl rfl) q2
  replace q3 := ks_gn exh10 (ks_nx (b := b) (c := bo) (i := 3) (j := 3) hap rfl rfl) q3
  replace q4 := ks_gn exh10 (ks_nx (b := b) (c := bo) (i := 3) (j := 4) hap rfl rfl) q4
  replace q5 := ks_gn exh10 (ks_nx (b := b) (c := bo) (i := 3) (j := 5) hap rfl rfl) q5
  replace q6 := ks_gn exh10 (ks_nx (b := b) (c := bo) (i := 3) (j := 6) hap rfl rfl) q6
  replace q7 := ks_gn exh10 (ks_nx (b := b) (c := bo) (i := 3) (j := 7) hap rfl rfl) q7
  replace q8 := ks_gn exh10 (ks_nx (b := b) (c := bo) (i := 3) (j := 8) hap rfl rfl) q8
  replace hY := ks_gn exh10 (ks_nb (b := b) (i := 3) (j := 9) rfl) hY
  replace hQ := ks_gn exh10 (ks_nb (b := b) (i := 3) (j := 12) rfl) hQ
  replace hyarn := hyarn.fr (ks_Fr.one exh10) (by omega)
  replace hplans := hplans.fr (ks_Fr.one exh10) (by omega)
  replace hyarn2 := hyarn2.fr (ks_Fr.one exh10) (by omega)
  replace hplans2 := hplans2.fr (ks_Fr.one exh10) (by omega)
  replace hF := ks_Fr.st hF exh10 (by omega) (by omega)
  clear exh10
  refine ks_aload_n hκ 76 1 dX4_copyFrom_76 rfl ?_
  refine ks_get hκ 77 dX4_copyFrom_77 kf_X4_34 q0 rfl ?_
  refine ks_iconst hκ 80 (nI 0) dX4_copyFrom_80 kq_i0 ?_
  refine ks_aload_n hκ 81 0 dX4_copyFrom_81 rfl ?_
  refine ks_get hκ 82 dX4_copyFrom_82 kf_X4_34 h0 rfl ?_
  refine ks_iconst hκ 85 (nI 0) dX4_copyFrom_85 kq_i0 ?_
  refine ks_bipush hκ 86 (nI 6) dX4_copyFrom_86 kq_b6 ?_
  refine ks_acopy hκ 88 (6) dX4_copyFrom_88 kj_X4_66 ku_cn ku_cs ku_ci (by decide) (Nat.le_of_ble_eq_true rfl) q4 h4 rfl rfl rfl (by omega) (by omega) (by omega) ?_
  refine ks_gen (fun xh11 exh11 => ?_)
  replace h0 := ks_gn exh11 (ks_nb (b := b) (i := 4) (j := 0) rfl) h0
  replace h1 := ks_gn exh11 (ks_nb (b := b) (i := 4) (j := 1) rfl) h1
  replace h2 := ks_gn exh11 (ks_nb (b := b) (i := 4) (j := 2) rfl) h2
  replace h3 := ks_gn exh11 (ks_nb (b := b) (i := 4) (j := 3) rfl) h3
  replace h4 := ks_gs exh11 h4
  replace h5 := ks_gn exh11 (ks_nb (b := b) (i := 4) (j := 5) rfl) h5
  replace h6 := ks_gn exh11 (ks_nb (b := b) (i := 4) (j := 6) rfl) h6
  replace h7 := ks_gn exh11 (ks_nb (b := b) (i := 4) (j := 7) rfl) h7
  replace h8 := ks_gn exh11 (ks_nb (b := b) (i := 4) (j := 8) rfl) h8
  replace q0 := ks_gn exh11 (ks_nx (b := b) (c := bo) (i := 4) (j := 0) hap rfl rfl) q0
  replace q1 := ks_gn exh11 (ks_nx (b := b) (c := bo) (i := 4) (j := 1) hap rfl rfl) q1
  replace q2 := ks_gn exh11 (ks_nx (b := b) (c := bo) (i := 4) (j := 2) hap rfl rfl) q2
  replace q3 := ks_gn exh11 (ks_nx (b := b) (c := bo) (i := 4) (j := 3) hap rfl rfl) q3
  replace q4 := ks_gn exh11 (ks_nx (b := b) (c := bo) (i := 4) (j := 4) hap rfl rfl) q4
  replace q5 := ks_gn exh11 (ks_nx (b := b) (c := bo) (i := 4) (j := 5) hap rfl rfl) q5
  replace q6 := ks_gn exh11 (ks_nx (b := b) (c := bo) (i := 4) (j := 6) hap rfl rfl) q6
  replace q7 := ks_gn exh11 (ks_nx (b := b) (c := bo) (i := 4) (j := 7) hap rfl rfl) q7
  replace q8 := ks_gn exh11 (ks_nx (b := b) (c := bo) (i := 4) (j := 8) hap rfl rfl) q8
  replace hY := ks_gn exh11 (ks_nb (b := b) (i := 4) (j := 9) rfl) hY
  replace hQ := ks_gn exh11 (ks_nb (b := b) (i := 4) (j := 12) rfl) hQ
  replace hyarn := hyarn.fr (ks_Fr.one exh11) (by omega)
  replace hplans := hplans.fr (ks_Fr.one exh11) (by omega)
  replace hyarn2 := hyarn2.fr (ks_Fr.one exh11) (by omega)
  replace hplans2 := hplans2.fr (ks_Fr.one exh11) (by omega)
  replace hF := ks_Fr.st hF exh11 (by omega) (by omega)
  clear exh11
  refine ks_extc h4 ?_
  refine ks_gen (fun xh12 exh12 => ?_)
  replace h0 := ks_gn exh12 (ks_nb (b := b) (i := 4) (j := 0) rfl) h0
  replace h1 := ks_gn exh12 (ks_nb (b := b) (i := 4) (j := 1) rfl) h1
  replace h2 := ks_gn exh12 (ks_nb (b := b) (i := 4) (j := 2) rfl) h2
  replace h3 := ks_gn exh12 (ks_nb (b := b) (i := 4) (j := 3) rfl) h3
  replace h4 := ks_gs exh12 h4
  replace h5 := ks_gn exh12 (ks_nb (b := b) (i := 4) (j := 5) rfl) h5
  replace h6 := ks_gn exh12 (ks_nb (b := b) (i := 4) (j := 6) rfl) h6
  replace h7 := ks_gn exh12 (ks_nb (b := b) (i := 4) (j := 7) rfl) h7
  replace h8 := ks_gn exh12 (ks_nb (b := b) (i := 4) (j := 8) rfl) h8
  replace q0 := ks_gn exh12 (ks_nx (b := b) (c := bo) (i := 4) (j := 0) hap rfl rfl) q0
  replace q1 := ks_gn exh12 (ks_nx (b := b) (c := bo) (i := 4) (j := 1) hap rfl rfl) q1
  replace q2 := ks_gn exh12 (ks_nx (b := b) (c := bo) (i := 4) (j := 2) hap rfl rfl) q2
  replace q3 := ks_gn exh12 (ks_nx (b := b) (c := bo) (i := 4) (j := 3) hap rfl rfl) q3
  replace q4 := ks_gn exh12 (ks_nx (b := b) (c := bo) (i := 4) (j := 4) hap rfl rfl) q4
  replace q5 := ks_gn exh12 (ks_nx (b := b) (c := bo) (i := 4) (j := 5) hap rfl rfl) q5
  replace q6 := ks_gn exh12 (ks_nx (b := b) (c := bo) (i := 4) (j := 6) hap rfl rfl) q6
  replace q7 := ks_gn exh12 (ks_nx (b := b) (c := bo) (i := 4) (j := 7) hap rfl rfl) q7
  replace q8 := ks_gn exh12 (ks_nx (b := b) (c := bo) (i := 4) (j := 8) hap rfl rfl) q8
  replace hY := ks_gn exh12 (ks_nb (b := b) (i := 4) (j := 9) rfl) hY
  replace hQ := ks_gn exh12 (ks_nb (b := b) (i := 4) (j := 12) rfl) hQ
  replace hyarn := hyarn.fr (ks_Fr.one exh12) (by omega)
  replace hplans := hplans.fr (ks_Fr.one exh12) (by omega)
  replace hyarn2 := hyarn2.fr (ks_Fr.one exh12) (by omega)
  replace hplans2 := hplans2.fr (ks_Fr.one exh12) (by omega)
  replace hF := ks_Fr.st hF exh12 (by omega) (by omega)
  clear exh12
  refine ks_aload_n hκ 91 1 dX4_copyFrom_91 rfl ?_
  refine ks_get hκ 92 dX4_copyFrom_92 kf_X4_37 q0 rfl ?_
  refine ks_iconst hκ 95 (nI 0) dX4_copyFrom_95 kq_i0 ?_
  refine ks_aload_n hκ 96 0 dX4_copyFrom_96 rfl ?_
  refine ks_get hκ 97 dX4_copyFrom_97 kf_X4_37 h0 rfl ?_
  refine ks_iconst hκ 100 (nI 0) dX4_copyFrom_100 kq_i0 ?_
  refine ks_bipush hκ 101 (nI 6) dX4_copyFrom_101 kq_b6 ?_
  refine ks_acopy hκ 103 (6) dX4_copyFrom_103 kj_X4_66 ku_cn ku_cs ku_ci (by decide) (Nat.le_of_ble_eq_true rfl) q5 h5 rfl rfl rfl (by omega) (by omega) (by omega) ?_
  refine ks_gen (fun xh13 exh13 => ?_)
  replace h0 := ks_gn exh13 (ks_nb (b := b) (i := 5) (j := 0) rfl) h0
  replace h1 := ks_gn exh13 (ks_nb (b := b) (i := 5) (j := 1) rfl) h1
  replace h2 := ks_gn exh13 (ks_nb (b := b) (i := 5) (j := 2) rfl) h2
  replace h3 := ks_gn exh13 (ks_nb (b := b) (i := 5) (j := 3) rfl) h3
  replace h4 := ks_gn exh13 (ks_nb (b := b) (i := 5) (j := 4) rfl) h4
  replace h5 := ks_gs exh13 h5
  replace h6 := ks_gn exh13 (ks_nb (b := b) (i := 5) (j := 6) rfl) h6
  replace h7 := ks_gn exh13 (ks_nb (b := b) (i := 5) (j := 7) rfl) h7
  replace h8 := ks_gn exh13 (ks_nb (b := b) (i := 5) (j := 8) rfl) h8
  replace q0 := ks_gn exh13 (ks_nx (b := b) (c := bo) (i := 5) (j := 0) hap rfl rfl) q0
  replace q1 := ks_gn exh13 (ks_nx (b := b) (c := bo) (i := 5) (j := 1) hap rfl rfl) q1
  replace q2 := ks_gn exh13 (ks_nx (b := b) (c := bo) (i := 5) (j := 2) hap rfl rfl) q2
  replace q3 := ks_gn exh13 (ks_nx (b := b) (c := bo) (i := 5) (j := 3) hap rfl rfl) q3
  replace q4 := ks_gn exh13 (ks_nx (b := b) (c := bo) (i := 5) (j := 4) hap rfl rfl) q4
  replace q5 := ks_gn exh13 (ks_nx (b := b) (c := bo) (i := 5) (j := 5) hap rfl rfl) q5
  replace q6 := ks_gn exh13 (ks_nx (b := b) (c := bo) (i := 5) (j := 6) hap rfl rfl) q6
  replace q7 := ks_gn exh13 (ks_nx (b := b) (c := bo) (i := 5) (j := 7) hap rfl rfl) q7
  replace q8 := ks_gn exh13 (ks_nx (b := b) (c := bo) (i := 5) (j := 8) hap rfl rfl) q8
  replace hY := ks_gn exh13 (ks_nb (b := b) (i := 5) (j := 9) rfl) hY
  replace hQ := ks_gn exh13 (ks_nb (b := b) (i := 5) (j := 12) rfl) hQ
  replace hyarn := hyarn.fr (ks_Fr.one exh13) (by omega)
  replace hplans := hplans.fr (ks_Fr.one exh13) (by omega)
  replace hyarn2 := hyarn2.fr (ks_Fr.one exh13) (by omega)
  replace hplans2 := hplans2.fr (ks_Fr.one exh13) (by omega)
  replace hF := ks_Fr.st hF exh13 (by omega) (by omega)
  clear exh13
  refine ks_extc h5 ?_
  refine ks_gen (fun xh14 exh14 => ?_)
  replace h0 := ks_gn exh14 (ks_nb (b := b) (i := 5) (j := 0) rfl) h0
  replace h1 := ks_gn exh14 (ks_nb (b := b) (i := 5) (j := 1) rfl) h1
  replace h2 := ks_gn exh14 (ks_nb (b := b) (i := 5) (j := 2) rfl) h2
  replace h3 := ks_gn exh14 (ks_nb (b := b) (i := 5) (j := 3) rfl) h3
  replace h4 := ks_gn exh14 (ks_nb (b := b) (i := 5) (j := 4) rfl) h4
  replace h5 := ks_gs exh14 h5
  replace h6 := ks_gn exh14 (ks_nb (b := b) (i := 5) (j := 6) rfl) h6
  replace h7 := ks_gn exh14 (ks_nb (b := b) (i := 5) (j := 7) rfl) h7
  replace h8 := ks_gn exh14 (ks_nb (b := b) (i := 5) (j := 8) rfl) h8
  replace q0 := ks_gn exh14 (ks_nx (b := b) (c := bo) (i := 5) (j := 0) hap rfl rfl) q0
  replace q1 := ks_gn exh14 (ks_nx (b := b) (c := bo) (i := 5) (j := 1) hap rfl rfl) q1
  replace q2 := ks_gn exh14 (ks_nx (b := b) (c := bo) (i := 5) (j := 2) hap rfl rfl) q2
  replace q3 := ks_gn exh14 (ks_nx (b := b) (c := bo) (i := 5) (j := 3) hap rfl rfl) q3
  replace q4 := ks_gn exh14 (ks_nx (b := b) (c := bo) (i := 5) (j := 4) hap rfl rfl) q4
  replace q5 := ks_gn exh14 (ks_nx (b := b) (c := bo) (i := 5) (j := 5) hap rfl rfl) q5
  replace q6 := ks_gn exh14 (ks_nx (b := b) (c := bo) (i := 5) (j := 6) hap rfl rfl) q6
  replace q7 := ks_gn exh14 (ks_nx (b := b) (c := bo) (i := 5) (j := 7) hap rfl rfl) q7
  replace q8 := ks_gn exh14 (ks_nx (b := b) (c := bo) (i := 5) (j := 8) hap rfl rfl) q8
  replace hY := ks_gn exh14 (ks_nb (b := b) (i := 5) (j := 9) rfl) hY
  replace hQ := ks_gn exh14 (ks_nb (b := b) (i := 5) (j := 12) rfl) hQ
  replace hyarn := hyarn.fr (ks_Fr.one exh14) (by omega)
  replace hplans := hplans.fr (ks_Fr.one exh14) (by omega)
  replace hyarn2 := hyarn2.fr (ks_Fr.one exh14) (by omega)
  replace hplans2 := hplans2.fr (ks_Fr.one exh14) (by omega)
  replace hF := ks_Fr.st hF exh14 (by omega) (by omega)
  clear exh14
  refine ks_aload_n hκ 106 1 dX4_copyFrom_106 rfl ?_
  refine ks_get hκ 107 dX4_copyFrom_107 kf_X4_40 q0 rfl ?_
  refine ks_iconst hκ 110 (nI 0) dX4_copyFrom_110 kq_i0 ?_
  refine ks_aload_n hκ 111 0 dX4_copyFrom_111 rfl ?_
  refine ks_get hκ 112 dX4_copyFrom_112 kf_X4_40 h0 rfl ?_
  refine ks_iconst hκ 115 (nI 0) dX4_copyFrom_115 kq_i0 ?_
  refine ks_bipush hκ 116 (nI 6) dX4_copyFrom_116 kq_b6 ?_
  refine ks_acopy hκ 118 (6) dX4_copyFrom_118 kj_X4_66 ku_cn ku_cs ku_ci (by decide) (Nat.le_of_ble_eq_true rfl) q6 h6 rfl rfl rfl (by omega) (by omega) (by omega) ?_
  refine ks_gen (fun xh15 exh15 => ?_)
  replace h0 := ks_gn exh15 (ks_nb (b := b) (i := 6) (j := 0) rfl) h0
  replace h1 := ks_gn exh15 (ks_nb (b := b) (i := 6) (j := 1) rfl) h1
  replace h2 := ks_gn exh15 (ks_nb (b := b) (i := 6) (j := 2) rfl) h2
  replace h3 := ks_gn exh15 (ks_nb (b := b) (i := 6) (j := 3) rfl) h3
  replace h4 := ks_gn exh15 (ks_nb (b := b) (i := 6) (j := 4) rfl) h4
  replace h5 := ks_gn exh15 (ks_nb (b := b) (i := 6) (j := 5) rfl) h5
  replace h6 := ks_gs exh15 h6
  replace h7 := ks_gn exh15 (ks_nb (b := b) (i := 6) (j := 7) rfl) h7
  replace h8 := ks_gn exh15 (ks_nb (b := b) (i := 6) (j := 8) rfl) h8
  replace q0 := ks_gn exh15 (ks_nx (b := b) (c := bo) (i := 6) (j := 0) hap rfl rfl) q0
  replace q1 := ks_gn exh15 (ks_nx (b := b) (c := bo) (i := 6) (j := 1) hap rfl rfl) q1
  replace q2 := ks_gn exh15 (ks_nx (b := b) (c := bo) (i := 6) (j := 2) hap rfl rfl) q2
  replace q3 := ks_gn exh15 (ks_nx (b := b) (c := bo) (i := 6) (j := 3) hap rfl rfl) q3
  replace q4 := ks_gn exh15 (ks_nx (b := b) (c := bo) (i := 6) (j := 4) hap rfl rfl) q4
  replace q5 := ks_gn exh15 (ks_nx (b := b) (c := bo) (i := 6) (j := 5) hap rfl rfl) q5
  replace q6 := ks_gn exh15 (ks_nx (b := b) (c := bo) (i := 6) (j := 6) hap rfl rfl) q6
  replace q7 := ks_gn exh15 (ks_nx (b := b) (c := bo) (i := 6) (j := 7) hap rfl rfl) q7
  replace q8 := ks_gn exh15 (ks_nx (b := b) (c := bo) (i := 6) (j := 8) hap rfl rfl) q8
  replace hY := ks_gn exh15 (ks_nb (b := b) (i := 6) (j := 9) rfl) hY
  replace hQ := ks_gn exh15 (ks_nb (b := b) (i := 6) (j := 12) rfl) hQ
  replace hyarn := hyarn.fr (ks_Fr.one exh15) (by omega)
  replace hplans := hplans.fr (ks_Fr.one exh15) (by omega)
  replace hyarn2 := hyarn2.fr (ks_Fr.one exh15) (by omega)
  replace hplans2 := hplans2.fr (ks_Fr.one exh15) (by omega)
  replace hF := ks_Fr.st hF exh15 (by omega) (by omega)
  clear exh15
  refine ks_extc h6 ?_
  refine ks_gen (fun xh16 exh16 => ?_)
  replace h0 := ks_gn exh16 (ks_nb (b := b) (i := 6) (j := 0) rfl) h0
  replace h1 := ks_gn exh16 (ks_nb (b := b) (i := 6) (j := 1) rfl) h1
  replace h2 := ks_gn exh16 (ks_nb (b := b) (i := 6) (j := 2) rfl) h2
  replace h3 := ks_gn exh16 (ks_nb (b := b) (i := 6) (j := 3) rfl) h3
  replace h4 := ks_gn exh16 (ks_nb (b := b) (i := 6) (j := 4) rfl) h4
  replace h5 := ks_gn exh16 (ks_nb (b := b) (i := 6) (j := 5) rfl) h5
  replace h6 := ks_gs exh16 h6
  replace h7 := ks_gn exh16 (ks_nb (b := b) (i := 6) (j := 7) rfl) h7
  replace h8 := ks_gn exh16 (ks_nb (b := b) (i := 6) (j := 8) rfl) h8
  replace q0 := ks_gn exh16 (ks_nx (b := b) (c := bo) (i := 6) (j := 0) hap rfl rfl) q0
  replace q1 := ks_gn exh16 (ks_nx (b := b) (c := bo) (i := 6) (j := 1) hap rfl rfl) q1
  replace q2 := ks_gn exh16 (ks_nx (b := b) (c := bo) (i := 6) (j := 2) hap rfl rfl) q2
  replace q3 := ks_gn exh16 (ks_nx (b := b) (c := bo) (i := 6) (j := 3) hap rfl rfl) q3
  replace q4 := ks_gn exh16 (ks_nx (b := b) (c := bo) (i := 6) (j := 4) hap rfl rfl) q4
  replace q5 := ks_gn exh16 (ks_nx (b := b) (c := bo) (i := 6) (j := 5) hap rfl rfl) q5
  replace q6 := ks_gn exh16 (ks_nx (b := b) (c := bo) (i := 6) (j := 6) hap rfl rfl) q6
  replace q7 := ks_gn exh16 (ks_nx (b := b) (c := bo) (i := 6) (j := 7) hap rfl rfl) q7
  replace q8 := ks_gn exh16 (ks_nx (b := b) (c := bo) (i := 6) (j := 8) hap rfl rfl) q8
  replace hY := ks_gn exh16 (ks_nb (b := b) (i := 6) (j := 9) rfl) hY
  replace hQ := ks_gn exh16 (ks_nb (b := b) (i := 6) (j := 12) rfl) hQ
  replace hyarn := hyarn.fr (ks_Fr.one exh16) (by omega)
  replace hplans := hplans.fr (ks_Fr.one exh16) (by omega)
  replace hyarn2 := hyarn2.fr (ks_Fr.one exh16) (by omega)
  replace hplans2 := hplans2.fr (ks_Fr.one exh16) (by omega)
  replace hF := ks_Fr.st hF exh16 (by omega) (by omega)
  clear exh16
  refine ks_aload_n hκ 121 1 dX4_copyFrom_121 rfl ?_
  refine ks_get hκ 122 dX4_copyFrom_122 kf_X4_43 q0 rfl ?_
  refine ks_iconst hκ 125 (nI 0) dX4_copyFrom_125 kq_i0 ?_
  refine ks_aload_n hκ 126 0 dX4_copyFrom_126 rfl ?_
  refine ks_get hκ 127 dX4_copyFrom_127 kf_X4_43 h0 rfl ?_
  refine ks_iconst hκ 130 (nI 0) dX4_copyFrom_130 kq_i0 ?_
  refine ks_bipush hκ 131 (nI 6) dX4_copyFrom_131 kq_b6 ?_
  refine ks_acopy hκ 133 (6) dX4_copyFrom_133 kj_X4_66 ku_cn ku_cs ku_ci (by decide) (Nat.le_of_ble_eq_true rfl) q7 h7 rfl rfl rfl (by omega) (by omega) (by omega) ?_
  refine ks_gen (fun xh17 exh17 => ?_)
  replace h0 := ks_gn exh17 (ks_nb (b := b) (i := 7) (j := 0) rfl) h0
  replace h1 := ks_gn exh17 (ks_nb (b := b) (i := 7) (j := 1) rfl) h1
  replace h2 := ks_gn exh17 (ks_nb (b := b) (i := 7) (j := 2) rfl) h2
  replace h3 := ks_gn exh17 (ks_nb (b := b) (i := 7) (j := 3) rfl) h3
  replace h4 := ks_gn exh17 (ks_nb (b := b) (i := 7) (j := 4) rfl) h4
  replace h5 := ks_gn exh17 (ks_nb (b := b) (i := 7) (j := 5) rfl) h5
  replace h6 := ks_gn exh17 (ks_nb (b := b) (i := 7) (j := 6) rfl) h6
  replace h7 := ks_gs exh17 h7
  replace h8 := ks_gn exh17 (ks_nb (b := b) (i := 7) (j := 8) rfl) h8
  replace q0 := ks_gn exh17 (ks_nx (b := b) (c := bo) (i := 7) (j := 0) hap rfl rfl) q0
  replace q1 := ks_gn exh17 (ks_nx (b := b) (c := bo) (i := 7) (j := 1) hap rfl rfl) q1
  replace q2 := ks_gn exh17 (ks_nx (b := b) (c := bo) (i := 7) (j := 2) hap rfl rfl) q2
  replace q3 := ks_gn exh17 (ks_nx (b := b) (c := bo) (i := 7) (j := 3) hap rfl rfl) q3
  replace q4 := ks_gn exh17 (ks_nx (b := b) (c := bo) (i := 7) (j := 4) hap rfl rfl) q4
  replace q5 := ks_gn exh17 (ks_nx (b := b) (c := bo) (i := 7) (j := 5) hap rfl rfl) q5
  replace q6 := ks_gn exh17 (ks_nx (b := b) (c := bo) (i := 7) (j := 6) hap rfl rfl) q6
  replace q7 := ks_gn exh17 (ks_nx (b := b) (c := bo) (i := 7) (j := 7) hap rfl rfl) q7
  replace q8 := ks_gn exh17 (ks_nx (b := b) (c := bo) (i := 7) (j := 8) hap rfl rfl) q8
  replace hY := ks_gn exh17 (ks_nb (b := b) (i := 7) (j := 9) rfl) hY
  replace hQ := ks_gn exh17 (ks_nb (b := b) (i := 7) (j := 12) rfl) hQ
  replace hyarn := hyarn.fr (ks_Fr.one exh17) (by omega)
  replace hplans := hplans.fr (ks_Fr.one exh17) (by omega)
  replace hyarn2 := hyarn2.fr (ks_Fr.one exh17) (by omega)
  replace hplans2 := hplans2.fr (ks_Fr.one exh17) (by omega)
  replace hF := ks_Fr.st hF exh17 (by omega) (by omega)
  clear exh17
  refine ks_extc h7 ?_
  refine ks_gen (fun xh18 exh18 => ?_)
  replace h0 := ks_gn exh18 (ks_nb (b := b) (i := 7) (j := 0) rfl) h0
  replace h1 := ks_gn exh18 (ks_nb (b := b) (i := 7) (j := 1) rfl) h1
  replace h2 := ks_gn exh18 (ks_nb (b := b) (i := 7) (j := 2) rfl) h2
  replace h3 := ks_gn exh18 (ks_nb (b := b) (i := 7) (j := 3) rfl) h3
  replace h4 := ks_gn exh18 (ks_nb (b := b) (i := 7) (j := 4) rfl) h4
  replace h5 := ks_gn exh18 (ks_nb (b := b) (i := 7) (j := 5) rfl) h5
  replace h6 := ks_gn exh18 (ks_nb (b := b) (i := 7) (j := 6) rfl) h6
  replace h7 := ks_gs exh18 h7
  replace h8 := ks_gn exh18 (ks_nb (b := b) (i := 7) (j := 8) rfl) h8
  replace q0 := ks_gn exh18 (ks_nx (b := b) (c := bo) (i := 7) (j := 0) hap rfl rfl) q0
  replace q1 := ks_gn exh18 (ks_nx (b := b) (c := bo) (i := 7) (j := 1) hap rfl rfl) q1
  replace q2 := ks_gn exh18 (ks_nx (b := b) (c := bo) (i := 7) (j := 2) hap rfl rfl) q2
  replace q3 := ks_gn exh18 (ks_nx (b := b) (c := bo) (i := 7) (j := 3) hap rfl rfl) q3
  replace q4 := ks_gn exh18 (ks_nx (b := b) (c := bo) (i := 7) (j := 4) hap rfl rfl) q4
  replace q5 := ks_gn exh18 (ks_nx (b := b) (c := bo) (i := 7) (j := 5) hap rfl rfl) q5
  replace q6 := ks_gn exh18 (ks_nx (b := b) (c := bo) (i := 7) (j := 6) hap rfl rfl) q6
  replace q7 := ks_gn exh18 (ks_nx (b := b) (c := bo) (i := 7) (j := 7) hap rfl rfl) q7
  replace q8 := ks_gn exh18 (ks_nx (b := b) (c := bo) (i := 7) (j := 8) hap rfl rfl) q8
  replace hY := ks_gn exh18 (ks_nb (b := b) (i := 7) (j := 9) rfl) hY
  replace hQ := ks_gn exh18 (ks_nb (b := b) (i := 7) (j := 12) rfl) hQ
  replace hyarn := hyarn.fr (ks_Fr.one exh18) (by omega)
  replace hplans := hplans.fr (ks_Fr.one exh18) (by omega)
  replace hyarn2 := hyarn2.fr (ks_Fr.one exh18) (by omega)
  replace hplans2 := hplans2.fr (ks_Fr.one exh18) (by omega)
  replace hF := ks_Fr.st hF exh18 (by omega) (by omega)
  clear exh18
  refine ks_aload_n hκ 136 1 dX4_copyFrom_136 rfl ?_
  refine ks_get hκ 137 dX4_copyFrom_137 kf_X4_46 q0 rfl ?_
  refine ks_iconst hκ 140 (nI 0) dX4_copyFrom_140 kq_i0 ?_
  refine ks_aload_n hκ 141 0 dX4_copyFrom_141 rfl ?_
  refine ks_get hκ 142 dX4_copyFrom_142 kf_X4_46 h0 rfl ?_
  refine ks_iconst hκ 145 (nI 0) dX4_copyFrom_145 kq_i0 ?_
  refine ks_bipush hκ 146 (nI 6) dX4_copyFrom_146 kq_b6 ?_
  refine ks_acopy hκ 148 (6) dX4_copyFrom_148 kj_X4_66 ku_cn ku_cs ku_ci (by decide) (Nat.le_of_ble_eq_true rfl) q8 h8 rfl rfl rfl (by omega) (by omega) (by omega) ?_
  refine ks_gen (fun xh19 exh19 => ?_)
  replace h0 := ks_gn exh19 (ks_nb (b := b) (i := 8) (j := 0) rfl) h0
  replace h1 := ks_gn exh19 (ks_nb (b := b) (i := 8) (j := 1) rfl) h1
  replace h2 := ks_gn exh19 (ks_nb (b := b) (i := 8) (j := 2) rfl) h2
  replace h3 := ks_gn exh19 (ks_nb (b := b) (i := 8) (j := 3) rfl) h3
  replace h4 := ks_gn exh19 (ks_nb (b := b) (i := 8) (j := 4) rfl) h4
  replace h5 := ks_gn exh19 (ks_nb (b := b) (i := 8) (j := 5) rfl) h5
  replace h6 := ks_gn exh19 (ks_nb (b := b) (i := 8) (j := 6) rfl) h6
  replace h7 := ks_gn exh19 (ks_nb (b := b) (i := 8) (j := 7) rfl) h7
  replace h8 := ks_gs exh19 h8
  replace q0 := ks_gn exh19 (ks_nx (b := b) (c := bo) (i := 8) (j := 0) hap rfl rfl) q0
  replace q1 := ks_gn exh19 (ks_nx (b := b) (c := bo) (i := 8) (j := 1) hap rfl rfl) q1
  replace q2 := ks_gn exh19 (ks_nx (b := b) (c := bo) (i := 8) (j := 2) hap rfl rfl) q2
  replace q3 := ks_gn exh19 (ks_nx (b := b) (c := bo) (i := 8) (j := 3) hap rfl rfl) q3
  replace q4 := ks_gn exh19 (ks_nx (b := b) (c := bo) (i := 8) (j := 4) hap rfl rfl) q4
  replace q5 := ks_gn exh19 (ks_nx (b := b) (c := bo) (i := 8) (j := 5) hap rfl rfl) q5
  replace q6 := ks_gn exh19 (ks_nx (b := b) (c := bo) (i := 8) (j := 6) hap rfl rfl) q6
  replace q7 := ks_gn exh19 (ks_nx (b := b) (c := bo) (i := 8) (j := 7) hap rfl rfl) q7
  replace q8 := ks_gn exh19 (ks_nx (b := b) (c := bo) (i := 8) (j := 8) hap rfl rfl) q8
  replace hY := ks_gn exh19 (ks_nb (b := b) (i := 8) (j := 9) rfl) hY
  replace hQ := ks_gn exh19 (ks_nb (b := b) (i := 8) (j := 12) rfl) hQ
  replace hyarn := hyarn.fr (ks_Fr.one exh19) (by omega)
  replace hplans := hplans.fr (ks_Fr.one exh19) (by omega)
  replace hyarn2 := hyarn2.fr (ks_Fr.one exh19) (by omega)
  replace hplans2 := hplans2.fr (ks_Fr.one exh19) (by omega)
  replace hF := ks_Fr.st hF exh19 (by omega) (by omega)
  clear exh19
  refine ks_extc h8 ?_
  refine ks_gen (fun xh20 exh20 => ?_)
  replace h0 := ks_gn exh20 (ks_nb (b := b) (i := 8) (j := 0) rfl) h0
  replace h1 := ks_gn exh20 (ks_nb (b := b) (i := 8) (j := 1) rfl) h1
  replace h2 := ks_gn exh20 (ks_nb (b := b) (i := 8) (j := 2) rfl) h2
  replace h3 := ks_gn exh20 (ks_nb (b := b) (i := 8) (j := 3) rfl) h3
  replace h4 := ks_gn exh20 (ks_nb (b := b) (i := 8) (j := 4) rfl) h4
  replace h5 := ks_gn exh20 (ks_nb (b := b) (i := 8) (j := 5) rfl) h5
  replace h6 := ks_gn exh20 (ks_nb (b := b) (i := 8) (j := 6) rfl) h6
  replace h7 := ks_gn exh20 (ks_nb (b := b) (i := 8) (j := 7) rfl) h7
  replace h8 := ks_gs exh20 h8
  replace q0 := ks_gn exh20 (ks_nx (b := b) (c := bo) (i := 8) (j := 0) hap rfl rfl) q0
  replace q1 := ks_gn exh20 (ks_nx (b := b) (c := bo) (i := 8) (j := 1) hap rfl rfl) q1
  replace q2 := ks_gn exh20 (ks_nx (b := b) (c := bo) (i := 8) (j := 2) hap rfl rfl) q2
  replace q3 := ks_gn exh20 (ks_nx (b := b) (c := bo) (i := 8) (j := 3) hap rfl rfl) q3
  replace q4 := ks_gn exh20 (ks_nx (b := b) (c := bo) (i := 8) (j := 4) hap rfl rfl) q4
  replace q5 := ks_gn exh20 (ks_nx (b := b) (c := bo) (i := 8) (j := 5) hap rfl rfl) q5
  replace q6 := ks_gn exh20 (ks_nx (b := b) (c := bo) (i := 8) (j := 6) hap rfl rfl) q6
  replace q7 := ks_gn exh20 (ks_nx (b := b) (c := bo) (i := 8) (j := 7) hap rfl rfl) q7
  replace q8 := ks_gn exh20 (ks_nx (b := b) (c := bo) (i := 8) (j := 8) hap rfl rfl) q8
  replace hY := ks_gn exh20 (ks_nb (b := b) (i := 8) (j := 9) rfl) hY
  replace hQ := ks_gn exh20 (ks_nb (b := b) (i := 8) (j := 12) rfl) hQ
  replace hyarn := hyarn.fr (ks_Fr.one exh20) (by omega)
  replace hplans := hplans.fr (ks_Fr.one exh20) (by omega)
  replace hyarn2 := hyarn2.fr (ks_Fr.one exh20) (by omega)
  replace hplans2 := hplans2.fr (ks_Fr.one exh20) (by omega)
  replace hF := ks_Fr.st hF exh20 (by omega) (by omega)
  clear exh20
  refine ks_aload_n hκ 151 0 dX4_copyFrom_151 rfl ?_
  refine ks_get hκ 152 dX4_copyFrom_152 kf_X4_52 h0 rfl ?_
  refine ks_aload_n hκ 155 1 dX4_copyFrom_155 rfl ?_
  refine ks_get hκ 156 dX4_copyFrom_156 kf_X4_52 q0 rfl ?_
  refine ks_voidV1 hκ 159 dX4_copyFrom_159 kc_X4_72 (c_Yarn_copyFrom hyarn hyarn2 (by omega)) hY rfl (by decide) (Nat.le_of_ble_eq_true rfl) (by decide) (by decide) (fun xh21 hp159 => ?_)
  obtain ⟨hyarn, hF9⟩ := hp159
  replace h0 := hF9.at h0 (by omega)
  replace h1 := hF9.at h1 (by omega)
  replace h2 := hF9.at h2 (by omega)
  replace h3 := hF9.at h3 (by omega)
  replace h4 := hF9.at h4 (by omega)
  replace h5 := hF9.at h5 (by omega)
  replace h6 := hF9.at h6 (by omega)
  replace h7 := hF9.at h7 (by omega)
  replace h8 := hF9.at h8 (by omega)
  replace q0 := hF9.at q0 (by omega)
  replace q1 := hF9.at q1 (by omega)
  replace q2 := hF9.at q2 (by omega)
  replace q3 := hF9.at q3 (by omega)
  replace q4 := hF9.at q4 (by omega)
  replace q5 := hF9.at q5 (by omega)
  replace q6 := hF9.at q6 (by omega)
  replace q7 := hF9.at q7 (by omega)
  replace q8 := hF9.at q8 (by omega)
  replace hQ := hF9.at hQ (by omega)
  replace hplans := hplans.fr hF9 (by omega)
  replace hyarn2 := hyarn2.fr hF9 (by omega)
  replace hplans2 := hplans2.fr hF9 (by omega)
  replace hF := hF.tr (hF9.wd (by omega) (by omega))
  refine ks_aload_n hκ 162 0 dX4_copyFrom_162 rfl ?_
  refine ks_get hκ 163 dX4_copyFrom_163 kf_X4_59 h0 rfl ?_
  refine ks_aload_n hκ 166 1 dX4_copyFrom_166 rfl ?_
  refine ks_get hκ 167 dX4_copyFrom_167 kf_X4_59 q0 rfl ?_
  refine ks_voidV1 hκ 170 dX4_copyFrom_170 kc_X4_76 (c_Plans_copyFrom hplans hplans2 (by omega)) hQ rfl (by decide) (Nat.le_of_ble_eq_true rfl) (by decide) (by decide) (fun xh22 hp170 => ?_)
  obtain ⟨hplans, hF9⟩ := hp170
  replace h0 := hF9.at h0 (by omega)
  replace h1 := hF9.at h1 (by omega)
  replace h2 := hF9.at h2 (by omega)
  replace h3 := hF9.at h3 (by omega)
  replace h4 := hF9.at h4 (by omega)
  replace h5 := hF9.at h5 (by omega)
  replace h6 := hF9.at h6 (by omega)
  replace h7 := hF9.at h7 (by omega)
  replace h8 := hF9.at h8 (by omega)
  replace q0 := hF9.at q0 (by omega)
  replace q1 := hF9.at q1 (by omega)
  replace q2 := hF9.at q2 (by omega)
  replace q3 := hF9.at q3 (by omega)
  replace q4 := hF9.at q4 (by omega)
  replace q5 := hF9.at q5 (by omega)
  replace q6 := hF9.at q6 (by omega)
  replace q7 := hF9.at q7 (by omega)
  replace q8 := hF9.at q8 (by omega)
  replace hyarn := hyarn.fr hF9 (by omega)
  replace hyarn2 := hyarn2.fr hF9 (by omega)
  replace hplans2 := hplans2.fr hF9 (by omega)
  replace hF := hF.tr (hF9.wd (by omega) (by omega))
  refine ks_vret hκ 173 hRt dX4_copyFrom_173 (by decide) (by decide) ?_
  exact ⟨rfl, ⟨h0, h1, h2, h3, h4, h5, h6, h7, h8, hyarn, hplans, hki2⟩, hF⟩
set_option maxRecDepth 100000 in
set_option maxHeartbeats 4000000 in
theorem c_Stairs_init {g : ks_G} {h : ks_H} {b : Nat} (h0 : h[b]? = some (ks_O 4 [.null, .int 0, .int 0, .int 0, .int 0, .null, .null, .null, .null, .null, .null, .null, .null, .null])) (hlen : h.length = b + 1) : ks_Met g (yX4_init, cX4_init, 1, none) 2 15 581 [ks_ref g b] h (ks_Pv (fun h' => kStairs g h' b kNew ∧ ks_Ex h h' b ∧ h'.length = b + 16)) := by
  refine ks_intro (by decide) (Nat.le_of_ble_eq_true rfl) (fun κ hκ hRt => ?_)
  refine ks_cv (ls := [(0, ks_ref g b)]) ?_ rfl rfl rfl
  have hX : ks_Ex h h b := ks_Ex.rf
  refine ks_aload_n hκ 0 0 dX4_init_0 rfl ?_
  refine ks_objInit hκ 1 dX4_init_1 kj_X4_3 ku_oi ku_oc (by decide) (Nat.le_of_ble_eq_true rfl) ?_
  refine ks_aload_n hκ 4 0 dX4_init_4 rfl ?_
  refine ks_iconst hκ 5 (nI 4) dX4_init_5 kq_i4 ?_
  refine ks_newiB hκ 6 hlen dX4_init_6 (by decide) (by decide) (by decide) (fun xh1 exh1 => ?_)
  replace h0 := ks_gb exh1 h0
  have h1 := ks_ga exh1 hlen
  replace hX := ks_Ex.ps hX exh1 (by omega)
  replace hlen := ks_gl exh1 hlen
  clear exh1
  refine ks_putT hκ 8 [_, _, _, _, _, _, _, _, _, _, _, _, _, _] dX4_init_8 rfl kf_X4_9 h0 rfl rfl (Nat.le_of_ble_eq_true rfl) rfl ?_
  refine ks_gen (fun xh2 exh2 => ?_)
  replace h0 := ks_gs exh2 h0
  replace h1 := ks_gn exh2 (ks_nb (b := b) (i := 0) (j := 1) rfl) h1
  replace hX := ks_Ex.st hX exh2 (by omega)
  replace hlen := ks_gz exh2 hlen
  clear exh2
  refine ks_aload_n hκ 11 0 dX4_init_11 rfl ?_
  refine ks_iconst hκ 12 (nI 0) dX4_init_12 kq_i0 ?_
  refine ks_putS hκ 13 [_, _, _, _, _, _, _, _, _, _, _, _, _, _] dX4_init_13 kf_X4_15 h0 rfl rfl (Nat.le_of_ble_eq_true rfl) rfl ?_
  refine ks_gen (fun xh3 exh3 => ?_)
  replace h0 := ks_gs exh3 h0
  replace h1 := ks_gn exh3 (ks_nb (b := b) (i := 0) (j := 1) rfl) h1
  replace hX := ks_Ex.st hX exh3 (by omega)
  replace hlen := ks_gz exh3 hlen
  clear exh3
  refine ks_aload_n hκ 16 0 dX4_init_16 rfl ?_
  refine ks_iconst hκ 17 (nI 0) dX4_init_17 kq_i0 ?_
  refine ks_putS hκ 18 [_, _, _, _, _, _, _, _, _, _, _, _, _, _] dX4_init_18 kf_X4_19 h0 rfl rfl (Nat.le_of_ble_eq_true rfl) rfl ?_
  refine ks_gen (fun xh4 exh4 => ?_)
  replace h0 := ks_gs exh4 h0
  replace h1 := ks_gn exh4 (ks_nb (b := b) (i := 0) (j := 1) rfl) h1
  replace hX := ks_Ex.st hX exh4 (by omega)
  replace hlen := ks_gz exh4 hlen
  clear exh4
  refine ks_aload_n hκ 21 0 dX4_init_21 rfl ?_
  refine ks_iconst hκ 22 (nI 0) dX4_init_22 kq_i0 ?_
  refine ks_putS hκ 23 [_, _, _, _, _, _, _, _, _, _, _, _, _, _] dX4_init_23 kf_X4_22 h0 rfl rfl (Nat.le_of_ble_eq_true rfl) rfl ?_
  refine ks_gen (fun xh5 exh5 => ?_)
  replace h0 := ks_gs exh5 h0
  replace h1 := ks_gn exh5 (ks_nb (b := b) (i := 0) (j := 1) rfl) h1
  replace hX := ks_Ex.st hX exh5 (by omega)
  replace hlen := ks_gz exh5 hlen
  clear exh5
  refine ks_aload_n hκ 26 0 dX4_init_26 rfl ?_
  refine ks_iconst hκ 27 (nI 0) dX4_init_27 kq_i0 ?_
  refine ks_putS hκ 28 [_, _, _, _, _, _, _, _, _, _, _, _, _, _] dX4_init_28 kf_X4_25 h0 rfl rfl (Nat.le_of_ble_eq_true rfl) rfl ?_
  refine ks_gen (fun xh6 exh6 => ?_)
  replace h0 := ks_gs exh6 h0
  replace h1 := ks_gn exh6 (ks_nb (b := b) (i := 0) (j := 1) rfl) h1
  replace hX := ks_Ex.st hX exh6 (by omega)
  replace hlen := ks_gz exh6 hlen
  clear exh6
  refine ks_aload_n hκ 31 0 dX4_init_31 rfl ?_
  refine ks_bipush hκ 32 (nI 6) dX4_init_32 kq_b6 ?_
  refine ks_newiB hκ 34 hlen dX4_init_34 (by decide) (by decide) (by decide) (fun xh7 exh7 => ?_)
  replace h0 := ks_gb exh7 h0
  replace h1 := ks_gb exh7 h1
  have h2 := ks_ga exh7 hlen
  replace hX := ks_Ex.ps hX exh7 (by omega)
  replace hlen := ks_gl exh7 hlen
  clear exh7
  refine ks_putT hκ 36 [_, _, _, _, _, _, _, _, _, _, _, _, _, _] dX4_init_36 rfl kf_X4_28 h0 rfl rfl (Nat.le_of_ble_eq_true rfl) rfl ?_
  refine ks_gen (fun xh8 exh8 => ?_)
  replace h0 := ks_gs exh8 h0
  replace h1 := ks_gn exh8 (ks_nb (b := b) (i := 0) (j := 1) rfl) h1
  replace h2 := ks_gn exh8 (ks_nb (b := b) (i := 0) (j := 2) rfl) h2
  replace hX := ks_Ex.st hX exh8 (by omega)
  replace hlen := ks_gz exh8 hlen
  clear exh8
  refine ks_aload_n hκ 39 0 dX4_init_39 rfl ?_
  refine ks_bipush hκ 40 (nI 6) dX4_init_40 kq_b6 ?_
  refine ks_newiB hκ 42 hlen dX4_init_42 (by decide) (by decide) (by decide) (fun xh9 exh9 => ?_)
  replace h0 := ks_gb exh9 h0
  replace h1 := ks_gb exh9 h1
  replace h2 := ks_gb exh9 h2
  have h3 := ks_ga exh9 hlen
  replace hX := ks_Ex.ps hX exh9 (by omega)
  replace hlen := ks_gl exh9 hlen
  clear exh9
  refine ks_putT hκ 44 [_, _, _, _, _, _, _, _, _, _, _, _, _, _] dX4_init_44 rfl kf_X4_31 h0 rfl rfl (Nat.le_of_ble_eq_true rfl) rfl ?_
  refine ks_gen (fun xh10 exh10 => ?_)
  replace h0 := ks_gs exh10 h0
  replace h1 := ks_gn exh10 (ks_nb (b := b) (i := 0) (j := 1) rfl) h1
  replace h2 := ks_gn exh10 (ks_nb (b := b) (i := 0) (j := 2) rfl) h2
  replace h3 := ks_gn exh10 (ks_nb (b := b) (i := 0) (j := 3) rfl) h3
  replace hX := ks_Ex.st hX exh10 (by omega)
  replace hlen := ks_gz exh10 hlen
  clear exh10
  refine ks_aload_n hκ 47 0 dX4_init_47 rfl ?_
  refine ks_bipush hκ 48 (nI 6) dX4_init_48 kq_b6 ?_
  refine ks_newiB hκ 50 hlen dX4_init_50 (by decide) (by decide) (by decide) (fun xh11 exh11 => ?_)
  replace h0 := ks_gb exh11 h0
  replace h1 := ks_gb exh11 h1
  replace h2 := ks_gb exh11 h2
  replace h3 := ks_gb exh11 h3
  have h4 := ks_ga exh11 hlen
  replace hX := ks_Ex.ps hX exh11 (by omega)
  replace hlen := ks_gl exh11 hlen
  clear exh11
  refine ks_putT hκ 52 [_, _, _, _, _, _, _, _, _, _, _, _, _, _] dX4_init_52 rfl kf_X4_34 h0 rfl rfl (Nat.le_of_ble_eq_true rfl) rfl ?_
  refine ks_gen (fun xh12 exh12 => ?_)
  replace h0 := ks_gs exh12 h0
  replace h1 := ks_gn exh12 (ks_nb (b := b) (i := 0) (j := 1) rfl) h1
  replace h2 := ks_gn exh12 (ks_nb (b := b) (i := 0) (j := 2) rfl) h2
  replace h3 := ks_gn exh12 (ks_nb (b := b) (i := 0) (j := 3) rfl) h3
  replace h4 := ks_gn exh12 (ks_nb (b := b) (i := 0) (j := 4) rfl) h4
  replace hX := ks_Ex.st hX exh12 (by omega)
  replace hlen := ks_gz exh12 hlen
  clear exh12
  refine ks_aload_n hκ 55 0 dX4_init_55 rfl ?_
  refine ks_bipush hκ 56 (nI 6) dX4_init_56 kq_b6 ?_
  refine ks_newiB hκ 58 hlen dX4_init_58 (by decide) (by decide) (by decide) (fun xh13 exh13 => ?_)
  replace h0 := ks_gb exh13 h0
  replace h1 := ks_gb exh13 h1
  replace h2 := ks_gb exh13 h2
  replace h3 := ks_gb exh13 h3
  replace h4 := ks_gb exh13 h4
  have h5 := ks_ga exh13 hlen
  replace hX := ks_Ex.ps hX exh13 (by omega)
  replace hlen := ks_gl exh13 hlen
  clear exh13
  refine ks_putT hκ 60 [_, _, _, _, _, _, _, _, _, _, _, _, _, _] dX4_init_60 rfl kf_X4_37 h0 rfl rfl (Nat.le_of_ble_eq_true rfl) rfl ?_
  refine ks_gen (fun xh14 exh14 => ?_)
  replace h0 := ks_gs exh14 h0
  replace h1 := ks_gn exh14 (ks_nb (b := b) (i := 0) (j := 1) rfl) h1
  replace h2 := ks_gn exh14 (ks_nb (b := b) (i := 0) (j := 2) rfl) h2
  replace h3 := ks_gn exh14 (ks_nb (b := b) (i := 0) (j := 3) rfl) h3
  replace h4 := ks_gn exh14 (ks_nb (b := b) (i := 0) (j := 4) rfl) h4
  replace h5 := ks_gn exh14 (ks_nb (b := b) (i := 0) (j := 5) rfl) h5
  replace hX := ks_Ex.st hX exh14 (by omega)
  replace hlen := ks_gz exh14 hlen
  clear exh14
  refine ks_aload_n hκ 63 0 dX4_init_63 rfl ?_
  refine ks_bipush hκ 64 (nI 6) dX4_init_64 kq_b6 ?_
  refine ks_newiB hκ 66 hlen dX4_init_66 (by decide) (by decide) (by decide) (fun xh15 exh15 => ?_)
  replace h0 := ks_gb exh15 h0
  replace h1 := ks_gb exh15 h1
  replace h2 := ks_gb exh15 h2
  replace h3 := ks_gb exh15 h3
  replace h4 := ks_gb exh15 h4
  replace h5 := ks_gb exh15 h5
  have h6 := ks_ga exh15 hlen
  replace hX := ks_Ex.ps hX exh15 (by omega)
  replace hlen := ks_gl exh15 hlen
  clear exh15
  refine ks_putT hκ 68 [_, _, _, _, _, _, _, _, _, _, _, _, _, _] dX4_init_68 rfl kf_X4_40 h0 rfl rfl (Nat.le_of_ble_eq_true rfl) rfl ?_
  refine ks_gen (fun xh16 exh16 => ?_)
  replace h0 := ks_gs exh16 h0
  replace h1 := ks_gn exh16 (ks_nb (b := b) (i := 0) (j := 1) rfl) h1
  replace h2 := ks_gn exh16 (ks_nb (b := b) (i := 0) (j := 2) rfl) h2
  replace h3 := ks_gn exh16 (ks_nb (b := b) (i := 0) (j := 3) rfl) h3
  replace h4 := ks_gn exh16 (ks_nb (b := b) (i := 0) (j := 4) rfl) h4
  replace h5 := ks_gn exh16 (ks_nb (b := b) (i := 0) (j := 5) rfl) h5
  replace h6 := ks_gn exh16 (ks_nb (b := b) (i := 0) (j := 6) rfl) h6
  replace hX := ks_Ex.st hX exh16 (by omega)
  replace hlen := ks_gz exh16 hlen
  clear exh16
  refine ks_aload_n hκ 71 0 dX4_init_71 rfl ?_
  refine ks_bipush hκ 72 (nI 6) dX4_init_72 kq_b6 ?_
  refine ks_newiB hκ 74 hlen dX4_init_74 (by decide) (by decide) (by decide) (fun xh17 exh17 => ?_)
  replace h0 := ks_gb exh17 h0
  replace h1 := ks_gb exh17 h1
  replace h2 := ks_gb exh17 h2
  replace h3 := ks_gb exh17 h3
  replace h4 := ks_gb exh17 h4
  replace h5 := ks_gb exh17 h5
  replace h6 := ks_gb exh17 h6
  have h7 := ks_ga exh17 hlen
  replace hX := ks_Ex.ps hX exh17 (by omega)
  replace hlen := ks_gl exh17 hlen
  clear exh17
  refine ks_putT hκ 76 [_, _, _, _, _, _, _, _, _, _, _, _, _, _] dX4_init_76 rfl kf_X4_43 h0 rfl rfl (Nat.le_of_ble_eq_true rfl) rfl ?_
  refine ks_gen (fun xh18 exh18 => ?_)
  replace h0 := ks_gs exh18 h0
  replace h1 := ks_gn exh18 (ks_nb (b := b) (i := 0) (j := 1) rfl) h1
  replace h2 := ks_gn exh18 (ks_nb (b := b) (i := 0) (j := 2) rfl) h2
  replace h3 := ks_gn exh18 (ks_nb (b := b) (i := 0) (j := 3) rfl) h3
  replace h4 := ks_gn exh18 (ks_nb (b := b) (i := 0) (j := 4) rfl) h4
  replace h5 := ks_gn exh18 (ks_nb (b := b) (i := 0) (j := 5) rfl) h5
  replace h6 := ks_gn exh18 (ks_nb (b := b) (i := 0) (j := 6) rfl) h6
  replace h7 := ks_gn exh18 (ks_nb (b := b) (i := 0) (j := 7) rfl) h7
  replace hX := ks_Ex.st hX exh18 (by omega)
  replace hlen := ks_gz exh18 hlen
  clear exh18
  refine ks_aload_n hκ 79 0 dX4_init_79 rfl ?_
  refine ks_bipush hκ 80 (nI 6) dX4_init_80 kq_b6 ?_
  refine ks_newiB hκ 82 hlen dX4_init_82 (by decide) (by decide) (by decide) (fun xh19 exh19 => ?_)
  replace h0 := ks_gb exh19 h0
  replace h1 := ks_gb exh19 h1
  replace h2 := ks_gb exh19 h2
  replace h3 := ks_gb exh19 h3
  replace h4 := ks_gb exh19 h4
  replace h5 := ks_gb exh19 h5
  replace h6 := ks_gb exh19 h6
  replace h7 := ks_gb exh19 h7
  have h8 := ks_ga exh19 hlen
  replace hX := ks_Ex.ps hX exh19 (by omega)
  replace hlen := ks_gl exh19 hlen
  clear exh19
  refine ks_putT hκ 84 [_, _, _, _, _, _, _, _, _, _, _, _, _, _] dX4_init_84 rfl kf_X4_46 h0 rfl rfl (Nat.le_of_ble_eq_true rfl) rfl ?_
  refine ks_gen (fun xh20 exh20 => ?_)
  replace h0 := ks_gs exh20 h0
  replace h1 := ks_gn exh20 (ks_nb (b := b) (i := 0) (j := 1) rfl) h1
  replace h2 := ks_gn exh20 (ks_nb (b := b) (i := 0) (j := 2) rfl) h2
  replace h3 := ks_gn exh20 (ks_nb (b := b) (i := 0) (j := 3) rfl) h3
  replace h4 := ks_gn exh20 (ks_nb (b := b) (i := 0) (j := 4) rfl) h4
  replace h5 := ks_gn exh20 (ks_nb (b := b) (i := 0) (j := 5) rfl) h5
  replace h6 := ks_gn exh20 (ks_nb (b := b) (i := 0) (j := 6) rfl) h6
  replace h7 := ks_gn exh20 (ks_nb (b := b) (i := 0) (j := 7) rfl) h7
  replace h8 := ks_gn exh20 (ks_nb (b := b) (i := 0) (j := 8) rfl) h8
  replace hX := ks_Ex.st hX exh20 (by omega)
  replace hlen := ks_gz exh20 hlen
  clear exh20
  refine ks_aload_n hκ 87 0 dX4_init_87 rfl ?_
  refine ks_newB hκ 88 hlen dX4_init_88 kn_X4_49 rfl (by decide) (by decide) (fun xh21 exh21 => ?_)
  replace h0 := ks_gb exh21 h0
  replace h1 := ks_gb exh21 h1
  replace h2 := ks_gb exh21 h2
  replace h3 := ks_gb exh21 h3
  replace h4 := ks_gb exh21 h4
  replace h5 := ks_gb exh21 h5
  replace h6 := ks_gb exh21 h6
  replace h7 := ks_gb exh21 h7
  replace h8 := ks_gb exh21 h8
  have hY := ks_ga exh21 hlen
  replace hX := ks_Ex.ps hX exh21 (by omega)
  replace hlen := ks_gl exh21 hlen
  clear exh21
  refine ks_dup hκ 91 dX4_init_91 rfl ?_
  refine ks_callI0 hκ 92 dX4_init_92 kc_X4_51 (c_Yarn_init hY hlen) (by decide) (by decide) (by decide) (Nat.le_of_ble_eq_true rfl) (fun v92 xh22 hp92 => ?_)
  obtain ⟨rfl, hyarn, hX9, hlen⟩ := hp92
  replace h0 := (hX9 _ (by omega)).trans h0
  replace h1 := (hX9 _ (by omega)).trans h1
  replace h2 := (hX9 _ (by omega)).trans h2
  replace h3 := (hX9 _ (by omega)).trans h3
  replace h4 := (hX9 _ (by omega)).trans h4
  replace h5 := (hX9 _ (by omega)).trans h5
  replace h6 := (hX9 _ (by omega)).trans h6
  replace h7 := (hX9 _ (by omega)).trans h7
  replace h8 := (hX9 _ (by omega)).trans h8
  replace hX := hX.tr (hX9.wd (by omega))
  refine ks_putT hκ 95 [_, _, _, _, _, _, _, _, _, _, _, _, _, _] dX4_init_95 rfl kf_X4_52 h0 rfl rfl (Nat.le_of_ble_eq_true rfl) rfl ?_
  refine ks_gen (fun xh23 exh23 => ?_)
  replace h0 := ks_gs exh23 h0
  replace h1 := ks_gn exh23 (ks_nb (b := b) (i := 0) (j := 1) rfl) h1
  replace h2 := ks_gn exh23 (ks_nb (b := b) (i := 0) (j := 2) rfl) h2
  replace h3 := ks_gn exh23 (ks_nb (b := b) (i := 0) (j := 3) rfl) h3
  replace h4 := ks_gn exh23 (ks_nb (b := b) (i := 0) (j := 4) rfl) h4
  replace h5 := ks_gn exh23 (ks_nb (b := b) (i := 0) (j := 5) rfl) h5
  replace h6 := ks_gn exh23 (ks_nb (b := b) (i := 0) (j := 6) rfl) h6
  replace h7 := ks_gn exh23 (ks_nb (b := b) (i := 0) (j := 7) rfl) h7
  replace h8 := ks_gn exh23 (ks_nb (b := b) (i := 0) (j := 8) rfl) h8
  replace hyarn := hyarn.fr (ks_Fr.one exh23) (by omega)
  replace hX := ks_Ex.st hX exh23 (by omega)
  replace hlen := ks_gz exh23 hlen
  clear exh23
  refine ks_aload_n hκ 98 0 dX4_init_98 rfl ?_
  refine ks_newB hκ 99 hlen dX4_init_99 kn_X4_56 rfl (by decide) (by decide) (fun xh24 exh24 => ?_)
  replace h0 := ks_gb exh24 h0
  replace h1 := ks_gb exh24 h1
  replace h2 := ks_gb exh24 h2
  replace h3 := ks_gb exh24 h3
  replace h4 := ks_gb exh24 h4
  replace h5 := ks_gb exh24 h5
  replace h6 := ks_gb exh24 h6
  replace h7 := ks_gb exh24 h7
  replace h8 := ks_gb exh24 h8
  have hQ := ks_ga exh24 hlen
  replace hyarn := hyarn.ex (ks_Ex.ps ks_Ex.rf exh24 (Nat.le_refl _)) (by omega)
  replace hX := ks_Ex.ps hX exh24 (by omega)
  replace hlen := ks_gl exh24 hlen
  clear exh24
  refine ks_dup hκ 102 dX4_init_102 rfl ?_
  refine ks_callI0 hκ 103 dX4_init_103 kc_X4_58 (c_Plans_init hQ hlen) (by decide) (by decide) (by decide) (Nat.le_of_ble_eq_true rfl) (fun v103 xh25 hp103 => ?_)
  obtain ⟨rfl, hplans, hX9, hlen⟩ := hp103
  replace h0 := (hX9 _ (by omega)).trans h0
  replace h1 := (hX9 _ (by omega)).trans h1
  replace h2 := (hX9 _ (by omega)).trans h2
  replace h3 := (hX9 _ (by omega)).trans h3
  replace h4 := (hX9 _ (by omega)).trans h4
  replace h5 := (hX9 _ (by omega)).trans h5
  replace h6 := (hX9 _ (by omega)).trans h6
  replace h7 := (hX9 _ (by omega)).trans h7
  replace h8 := (hX9 _ (by omega)).trans h8
  replace hyarn := hyarn.ex hX9 (by omega)
  replace hX := hX.tr (hX9.wd (by omega))
  refine ks_putT hκ 106 [_, _, _, _, _, _, _, _, _, _, _, _, _, _] dX4_init_106 rfl kf_X4_59 h0 rfl rfl (Nat.le_of_ble_eq_true rfl) rfl ?_
  refine ks_gen (fun xh26 exh26 => ?_)
  replace h0 := ks_gs exh26 h0
  replace h1 := ks_gn exh26 (ks_nb (b := b) (i := 0) (j := 1) rfl) h1
  replace h2 := ks_gn exh26 (ks_nb (b := b) (i := 0) (j := 2) rfl) h2
  replace h3 := ks_gn exh26 (ks_nb (b := b) (i := 0) (j := 3) rfl) h3
  replace h4 := ks_gn exh26 (ks_nb (b := b) (i := 0) (j := 4) rfl) h4
  replace h5 := ks_gn exh26 (ks_nb (b := b) (i := 0) (j := 5) rfl) h5
  replace h6 := ks_gn exh26 (ks_nb (b := b) (i := 0) (j := 6) rfl) h6
  replace h7 := ks_gn exh26 (ks_nb (b := b) (i := 0) (j := 7) rfl) h7
  replace h8 := ks_gn exh26 (ks_nb (b := b) (i := 0) (j := 8) rfl) h8
  replace hyarn := hyarn.fr (ks_Fr.one exh26) (by omega)
  replace hplans := hplans.fr (ks_Fr.one exh26) (by omega)
  replace hX := ks_Ex.st hX exh26 (by omega)
  replace hlen := ks_gz exh26 hlen
  clear exh26
  refine ks_getst0 hκ 109 dX4_init_109 (by decide +kernel) ?_
  refine ks_iconst hκ 112 (nI 0) dX4_init_112 kq_i0 ?_
  refine ks_aload_n hκ 113 0 dX4_init_113 rfl ?_
  refine ks_get hκ 114 dX4_init_114 kf_X4_9 h0 rfl ?_
  refine ks_iconst hκ 117 (nI 0) dX4_init_117 kq_i0 ?_
  refine ks_iconst hκ 118 (nI 4) dX4_init_118 kq_i4 ?_
  refine ks_acopyT hκ 119 (4) dX4_init_119 kj_X4_66 ku_cn ku_cs ku_ci (by decide) (Nat.le_of_ble_eq_true rfl) h1 rfl rfl rfl (by omega) (by omega) ?_
  refine ks_gen (fun xh27 exh27 => ?_)
  replace h0 := ks_gn exh27 (ks_nb (b := b) (i := 1) (j := 0) rfl) h0
  replace h1 := ks_gs exh27 h1
  replace h2 := ks_gn exh27 (ks_nb (b := b) (i := 1) (j := 2) rfl) h2
  replace h3 := ks_gn exh27 (ks_nb (b := b) (i := 1) (j := 3) rfl) h3
  replace h4 := ks_gn exh27 (ks_nb (b := b) (i := 1) (j := 4) rfl) h4
  replace h5 := ks_gn exh27 (ks_nb (b := b) (i := 1) (j := 5) rfl) h5
  replace h6 := ks_gn exh27 (ks_nb (b := b) (i := 1) (j := 6) rfl) h6
  replace h7 := ks_gn exh27 (ks_nb (b := b) (i := 1) (j := 7) rfl) h7
  replace h8 := ks_gn exh27 (ks_nb (b := b) (i := 1) (j := 8) rfl) h8
  replace hyarn := hyarn.fr (ks_Fr.one exh27) (by omega)
  replace hplans := hplans.fr (ks_Fr.one exh27) (by omega)
  replace hX := ks_Ex.st hX exh27 (by omega)
  replace hlen := ks_gz exh27 hlen
  clear exh27
  refine ks_extc h1 ?_
  refine ks_gen (fun xh28 exh28 => ?_)
  replace h0 := ks_gn exh28 (ks_nb (b := b) (i := 1) (j := 0) rfl) h0
  replace h1 := ks_gs exh28 h1
  replace h2 := ks_gn exh28 (ks_nb (b := b) (i := 1) (j := 2) rfl) h2
  replace h3 := ks_gn exh28 (ks_nb (b := b) (i := 1) (j := 3) rfl) h3
  replace h4 := ks_gn exh28 (ks_nb (b := b) (i := 1) (j := 4) rfl) h4
  replace h5 := ks_gn exh28 (ks_nb (b := b) (i := 1) (j := 5) rfl) h5
  replace h6 := ks_gn exh28 (ks_nb (b := b) (i := 1) (j := 6) rfl) h6
  replace h7 := ks_gn exh28 (ks_nb (b := b) (i := 1) (j := 7) rfl) h7
  replace h8 := ks_gn exh28 (ks_nb (b := b) (i := 1) (j := 8) rfl) h8
  replace hyarn := hyarn.fr (ks_Fr.one exh28) (by omega)
  replace hplans := hplans.fr (ks_Fr.one exh28) (by omega)
  replace hX := ks_Ex.st hX exh28 (by omega)
  replace hlen := ks_gz exh28 hlen
  clear exh28
  refine ks_vret hκ 122 hRt dX4_init_122 (by decide) (by decide) ?_
  exact ⟨rfl, ⟨h0, h1, h2, h3, h4, h5, h6, h7, h8, hyarn, hplans, Nat.zero_le _⟩, hX, hlen⟩
