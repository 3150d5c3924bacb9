set_option maxRecDepth 100000 in
set_option maxHeartbeats 4000000 in
theorem c_Orders_init {g : ks_G} {h : ks_H} {od : Nat} (hO : h[od]? = some (ks_O 1 [.null, .null, .int 0, .int 0])) (hlen : h.length = od + 1) : ks_Met g (yX1_init, cX1_init, 1, none) 1 2 108 [ks_ref g od] h (ks_Pv (fun h' => kOrdR g h' od (fun _ => 0) (fun _ => 0) 0 0 ∧ ks_Ex h h' od ∧ h'.length = od + 3)) := by
  refine ks_intro (by decide) (Nat.le_of_ble_eq_true rfl) (fun κ hκ hRt => ?_)
  refine ks_cv (ls := [(0, ks_ref g od)]) ?_ rfl rfl rfl
  have hX : ks_Ex h h od := ks_Ex.rf
  refine ks_aload_n hκ 0 0 dX1_init_0 rfl ?_
  refine ks_objInit hκ 1 dX1_init_1 kj_X1_3 ku_oi ku_oc (by decide) (Nat.le_of_ble_eq_true rfl) ?_
  refine ks_aload_n hκ 4 0 dX1_init_4 rfl ?_
  refine ks_bipush hκ 5 (nI 27) dX1_init_5 kq_b27 ?_
  refine ks_newiB hκ 7 hlen dX1_init_7 (by decide) (by decide) (by decide) (fun xh1 exh1 => ?_)
  replace hO := ks_gb exh1 hO
  have hL := ks_ga exh1 hlen
  replace hX := ks_Ex.ps hX exh1 (by omega)
  replace hlen := ks_gl exh1 hlen
  clear exh1
  refine ks_putT hκ 9 [_, _, _, _] dX1_init_9 rfl kf_X1_9 hO rfl rfl (Nat.le_of_ble_eq_true rfl) rfl ?_
  refine ks_gen (fun xh2 exh2 => ?_)
  replace hO := ks_gs exh2 hO
  replace hL := ks_gn exh2 (ks_nb (b := od) (i := 0) (j := 1) rfl) hL
  replace hX := ks_Ex.st hX exh2 (by omega)
  replace hlen := ks_gz exh2 hlen
  clear exh2
  refine ks_aload_n hκ 12 0 dX1_init_12 rfl ?_
  refine ks_bipush hκ 13 (nI 81) dX1_init_13 kq_b81 ?_
  refine ks_newiB hκ 15 hlen dX1_init_15 (by decide) (by decide) (by decide) (fun xh3 exh3 => ?_)
  replace hO := ks_gb exh3 hO
  replace hL := ks_gb exh3 hL
  have hP := ks_ga exh3 hlen
  replace hX := ks_Ex.ps hX exh3 (by omega)
  replace hlen := ks_gl exh3 hlen
  clear exh3
  refine ks_putT hκ 17 [_, _, _, _] dX1_init_17 rfl kf_X1_15 hO rfl rfl (Nat.le_of_ble_eq_true rfl) rfl ?_
  refine ks_gen (fun xh4 exh4 => ?_)
  replace hO := ks_gs exh4 hO
  replace hL := ks_gn exh4 (ks_nb (b := od) (i := 0) (j := 1) rfl) hL
  replace hP := ks_gn exh4 (ks_nb (b := od) (i := 0) (j := 2) rfl) hP
  replace hX := ks_Ex.st hX exh4 (by omega)
  replace hlen := ks_gz exh4 hlen
  clear exh4
  refine ks_aload_n hκ 20 0 dX1_init_20 rfl ?_
  refine ks_iconst hκ 21 (nI 0) dX1_init_21 kq_i0 ?_
  refine ks_putS hκ 22 [_, _, _, _] dX1_init_22 kf_X1_18 hO rfl rfl (Nat.le_of_ble_eq_true rfl) rfl ?_
  refine ks_gen (fun xh5 exh5 => ?_)
  replace hO := ks_gs exh5 hO
  replace hL := ks_gn exh5 (ks_nb (b := od) (i := 0) (j := 1) rfl) hL
  replace hP := ks_gn exh5 (ks_nb (b := od) (i := 0) (j := 2) rfl) hP
  replace hX := ks_Ex.st hX exh5 (by omega)
  replace hlen := ks_gz exh5 hlen
  clear exh5
  refine ks_aload_n hκ 25 0 dX1_init_25 rfl ?_
  refine ks_iconst hκ 26 (nI 0) dX1_init_26 kq_i0 ?_
  refine ks_putS hκ 27 [_, _, _, _] dX1_init_27 kf_X1_22 hO rfl rfl (Nat.le_of_ble_eq_true rfl) rfl ?_
  refine ks_gen (fun xh6 exh6 => ?_)
  replace hO := ks_gs exh6 hO
  replace hL := ks_gn exh6 (ks_nb (b := od) (i := 0) (j := 1) rfl) hL
  replace hP := ks_gn exh6 (ks_nb (b := od) (i := 0) (j := 2) rfl) hP
  replace hX := ks_Ex.st hX exh6 (by omega)
  replace hlen := ks_gz exh6 hlen
  clear exh6
  refine ks_vret hκ 30 hRt dX1_init_30 (by decide) (by decide) ?_
  exact ⟨rfl, ⟨hO, hL, hP⟩, hX, hlen⟩
