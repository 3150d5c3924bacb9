/-! THE CLASS: its making -/
set_option maxRecDepth 100000 in
set_option maxHeartbeats 4000000 in
theorem c_History_init {g : ks_G} {h : ks_H} {b : Nat} (h0 : h[b]? = some (ks_O 0 [.null, .int 0, .int 0])) (hlen : h.length = b + 1) : ks_Met g (yX0_init, cX0_init, 1, none) 1 1 7 [ks_ref g b] h (ks_Pv (fun h' => h'[b]? = some (ks_O 0 [ks_ref g (b + 1), .int (nI 0), .int (nI 0)]) ∧ h'[b + 1]? = some (ks_S g 7 (fun _ => none)) ∧ ks_Ex h h' b ∧ h'.length = b + 2)) := by
  refine ks_intro (by decide) (Nat.le_of_ble_eq_true rfl) (fun κ hκ hRt => ?_)
  refine ks_cv (ls := [(0, ks_ref g b)]) ?_ rfl rfl rfl
  have hX : ks_Ex h h b := ks_Ex.rf
  refine ks_aload_n hκ 0 0 dX0_init_0 rfl ?_
  refine ks_objInit hκ 1 dX0_init_1 kj_X0_3 ku_oi ku_oc (by decide) (Nat.le_of_ble_eq_true rfl) ?_
  refine ks_aload_n hκ 4 0 dX0_init_4 rfl ?_
  refine ks_bipush hκ 5 (nI 7) dX0_init_5 kq_b7 ?_
  refine ks_newqB hκ 7 hlen dX0_init_7 kw_X0_11 (by decide) (by decide) (by decide) (fun xh1 exh1 => ?_)
  replace h0 := ks_gb exh1 h0
  have h1 := ks_ga exh1 hlen
  replace hX := ks_Ex.ps hX exh1 (by omega)
  replace hlen := ks_gl exh1 hlen
  clear exh1
  refine ks_putT hκ 10 [_, _, _] dX0_init_10 rfl kf_X0_13 h0 rfl rfl (Nat.le_of_ble_eq_true rfl) rfl ?_
  refine ks_gen (fun xh2 exh2 => ?_)
  replace h0 := ks_gs exh2 h0
  replace h1 := ks_gn exh2 (ks_nb (b := b) (i := 0) (j := 1) rfl) h1
  replace hX := ks_Ex.st hX exh2 (by omega)
  replace hlen := ks_gz exh2 hlen
  clear exh2
  refine ks_aload_n hκ 13 0 dX0_init_13 rfl ?_
  refine ks_iconst hκ 14 (nI 0) dX0_init_14 kq_i0 ?_
  refine ks_putS hκ 15 [_, _, _] dX0_init_15 kf_X0_17 h0 rfl rfl (Nat.le_of_ble_eq_true rfl) rfl ?_
  refine ks_gen (fun xh3 exh3 => ?_)
  replace h0 := ks_gs exh3 h0
  replace h1 := ks_gn exh3 (ks_nb (b := b) (i := 0) (j := 1) rfl) h1
  replace hX := ks_Ex.st hX exh3 (by omega)
  replace hlen := ks_gz exh3 hlen
  clear exh3
  refine ks_aload_n hκ 18 0 dX0_init_18 rfl ?_
  refine ks_iconst hκ 19 (nI 0) dX0_init_19 kq_i0 ?_
  refine ks_putS hκ 20 [_, _, _] dX0_init_20 kf_X0_21 h0 rfl rfl (Nat.le_of_ble_eq_true rfl) rfl ?_
  refine ks_gen (fun xh4 exh4 => ?_)
  replace h0 := ks_gs exh4 h0
  replace h1 := ks_gn exh4 (ks_nb (b := b) (i := 0) (j := 1) rfl) h1
  replace hX := ks_Ex.st hX exh4 (by omega)
  replace hlen := ks_gz exh4 hlen
  clear exh4
  refine ks_vret hκ 23 hRt dX0_init_23 (by decide) (by decide) ?_
  exact ⟨rfl, h0, h1, hX, hlen⟩
set_option maxRecDepth 100000 in
set_option maxHeartbeats 4000000 in
theorem c_KS_init {g : ks_G} {h : ks_H} {b : Nat} (h0 : h[b]? = some (ks_O 6 [.null, .null, .null, .null, .null, .null])) (hlen : h.length = b + 1) : ks_Met g (yX6_init, cX6_init, 1, none) 3 40 1396 [ks_ref g b] h (ks_Pv (fun h' => (∀ X : Nat → Prop, (∀ i, X i → i < b) → kKS g h' b X kNew none [] (fun _ => none) []) ∧ ks_Ex h h' b ∧ h'.length = b + 41)) := by
  refine ks_intro (by decide) (Nat.le_of_ble_eq_true rfl) (fun κ hκ hRt => ?_)
  refine ks_cv (ls := [(0, ks_ref g b)]) ?_ rfl rfl rfl
  have hX : ks_Ex h h b := ks_Ex.rf
  refine ks_aload_n hκ 0 0 dX6_init_0 rfl ?_
  refine ks_objInit hκ 1 dX6_init_1 kj_X6_3 ku_oi ku_oc (by decide) (Nat.le_of_ble_eq_true rfl) ?_
  refine ks_aload_n hκ 4 0 dX6_init_4 rfl ?_
  refine ks_newB hκ 5 hlen dX6_init_5 kn_X6_9 rfl (by decide) (by decide) (fun xh1 exh1 => ?_)
  replace h0 := ks_gb exh1 h0
  have hn1 := ks_ga exh1 hlen
  replace hX := ks_Ex.ps hX exh1 (by omega)
  replace hlen := ks_gl exh1 hlen
  clear exh1
  refine ks_dup hκ 8 dX6_init_8 rfl ?_
  refine ks_callI0 hκ 9 dX6_init_9 kc_X6_11 (c_Stairs_init hn1 hlen) (by decide) (by decide) (by decide) (Nat.le_of_ble_eq_true rfl) (fun v9 xh2 hp9 => ?_)
  obtain ⟨rfl, hs1, hX9, hlen⟩ := hp9
  replace h0 := (hX9 _ (by omega)).trans h0
  replace hX := hX.tr (hX9.wd (by omega))
  refine ks_putT hκ 12 [_, _, _, _, _, _] dX6_init_12 rfl kf_X6_12 h0 rfl rfl (Nat.le_of_ble_eq_true rfl) rfl ?_
  refine ks_gen (fun xh3 exh3 => ?_)
  replace h0 := ks_gs exh3 h0
  replace hs1 := hs1.fr (ks_Fr.one exh3) (by omega)
  replace hX := ks_Ex.st hX exh3 (by omega)
  replace hlen := ks_gz exh3 hlen
  clear exh3
  refine ks_aload_n hκ 15 0 dX6_init_15 rfl ?_
  refine ks_newB hκ 16 hlen dX6_init_16 kn_X6_9 rfl (by decide) (by decide) (fun xh4 exh4 => ?_)
  replace h0 := ks_gb exh4 h0
  have hn2 := ks_ga exh4 hlen
  replace hs1 := hs1.ex (ks_Ex.ps ks_Ex.rf exh4 (Nat.le_refl _)) (by omega)
  replace hX := ks_Ex.ps hX exh4 (by omega)
  replace hlen := ks_gl exh4 hlen
  clear exh4
  refine ks_dup hκ 19 dX6_init_19 rfl ?_
  refine ks_callI0 hκ 20 dX6_init_20 kc_X6_11 (c_Stairs_init hn2 hlen) (by decide) (by decide) (by decide) (Nat.le_of_ble_eq_true rfl) (fun v20 xh5 hp20 => ?_)
  obtain ⟨rfl, hs2, hX9, hlen⟩ := hp20
  replace h0 := (hX9 _ (by omega)).trans h0
  replace hs1 := hs1.ex hX9 (by omega)
  replace hX := hX.tr (hX9.wd (by omega))
  refine ks_putT hκ 23 [_, _, _, _, _, _] dX6_init_23 rfl kf_X6_16 h0 rfl rfl (Nat.le_of_ble_eq_true rfl) rfl ?_
  refine ks_gen (fun xh6 exh6 => ?_)
  replace h0 := ks_gs exh6 h0
  replace hs1 := hs1.fr (ks_Fr.one exh6) (by omega)
  replace hs2 := hs2.fr (ks_Fr.one exh6) (by omega)
  replace hX := ks_Ex.st hX exh6 (by omega)
  replace hlen := ks_gz exh6 hlen
  clear exh6
  refine ks_aload_n hκ 26 0 dX6_init_26 rfl ?_
  refine ks_newB hκ 27 hlen dX6_init_27 kn_X6_19 rfl (by decide) (by decide) (fun xh7 exh7 => ?_)
  replace h0 := ks_gb exh7 h0
  have hH := ks_ga exh7 hlen
  replace hs1 := hs1.ex (ks_Ex.ps ks_Ex.rf exh7 (Nat.le_refl _)) (by omega)
  replace hs2 := hs2.ex (ks_Ex.ps ks_Ex.rf exh7 (Nat.le_refl _)) (by omega)
  replace hX := ks_Ex.ps hX exh7 (by omega)
  replace hlen := ks_gl exh7 hlen
  clear exh7
  refine ks_dup hκ 30 dX6_init_30 rfl ?_
  refine ks_callI0 hκ 31 dX6_init_31 kc_X6_21 (c_History_init hH hlen) (by decide) (by decide) (by decide) (Nat.le_of_ble_eq_true rfl) (fun v31 xh8 hp31 => ?_)
  obtain ⟨rfl, hH, hF7, hX9, hlen⟩ := hp31
  replace h0 := (hX9 _ (by omega)).trans h0
  replace hs1 := hs1.ex hX9 (by omega)
  replace hs2 := hs2.ex hX9 (by omega)
  replace hX := hX.tr (hX9.wd (by omega))
  refine ks_putT hκ 34 [_, _, _, _, _, _] dX6_init_34 rfl kf_X6_22 h0 rfl rfl (Nat.le_of_ble_eq_true rfl) rfl ?_
  refine ks_gen (fun xh9 exh9 => ?_)
  replace h0 := ks_gs exh9 h0
  replace hH := ks_gn exh9 (ks_nb (b := b) (i := 0) (j := 33) rfl) hH
  replace hF7 := ks_gn exh9 (ks_nb (b := b) (i := 0) (j := 34) rfl) hF7
  replace hs1 := hs1.fr (ks_Fr.one exh9) (by omega)
  replace hs2 := hs2.fr (ks_Fr.one exh9) (by omega)
  replace hX := ks_Ex.st hX exh9 (by omega)
  replace hlen := ks_gz exh9 hlen
  clear exh9
  refine ks_aload_n hκ 37 0 dX6_init_37 rfl ?_
  refine ks_iconst hκ 38 (nI 2) dX6_init_38 kq_i2 ?_
  refine ks_newqB hκ 39 hlen dX6_init_39 kw_X6_9 (by decide) (by decide) (by decide) (fun xh10 exh10 => ?_)
  replace h0 := ks_gb exh10 h0
  replace hH := ks_gb exh10 hH
  replace hF7 := ks_gb exh10 hF7
  have hG2 := ks_ga exh10 hlen
  replace hs1 := hs1.ex (ks_Ex.ps ks_Ex.rf exh10 (Nat.le_refl _)) (by omega)
  replace hs2 := hs2.ex (ks_Ex.ps ks_Ex.rf exh10 (Nat.le_refl _)) (by omega)
  replace hX := ks_Ex.ps hX exh10 (by omega)
  replace hlen := ks_gl exh10 hlen
  clear exh10
  refine ks_putT hκ 42 [_, _, _, _, _, _] dX6_init_42 rfl kf_X6_26 h0 rfl rfl (Nat.le_of_ble_eq_true rfl) rfl ?_
  refine ks_gen (fun xh11 exh11 => ?_)
  replace h0 := ks_gs exh11 h0
  replace hH := ks_gn exh11 (ks_nb (b := b) (i := 0) (j := 33) rfl) hH
  replace hF7 := ks_gn exh11 (ks_nb (b := b) (i := 0) (j := 34) rfl) hF7
  replace hG2 := ks_gn exh11 (ks_nb (b := b) (i := 0) (j := 35) rfl) hG2
  replace hs1 := hs1.fr (ks_Fr.one exh11) (by omega)
  replace hs2 := hs2.fr (ks_Fr.one exh11) (by omega)
  replace hX := ks_Ex.st hX exh11 (by omega)
  replace hlen := ks_gz exh11 hlen
  clear exh11
  refine ks_aload_n hκ 45 0 dX6_init_45 rfl ?_
  refine ks_newB hκ 46 hlen dX6_init_46 kn_X6_30 rfl (by decide) (by decide) (fun xh12 exh12 => ?_)
  replace h0 := ks_gb exh12 h0
  replace hH := ks_gb exh12 hH
  replace hF7 := ks_gb exh12 hF7
  replace hG2 := ks_gb exh12 hG2
  have hD := ks_ga exh12 hlen
  replace hs1 := hs1.ex (ks_Ex.ps ks_Ex.rf exh12 (Nat.le_refl _)) (by omega)
  replace hs2 := hs2.ex (ks_Ex.ps ks_Ex.rf exh12 (Nat.le_refl _)) (by omega)
  replace hX := ks_Ex.ps hX exh12 (by omega)
  replace hlen := ks_gl exh12 hlen
  clear exh12
  refine ks_dup hκ 49 dX6_init_49 rfl ?_
  refine ks_callI0 hκ 50 dX6_init_50 kc_X6_32 (c_Pad_init hD hlen) (by decide) (by decide) (by decide) (Nat.le_of_ble_eq_true rfl) (fun v50 xh13 hp50 => ?_)
  obtain ⟨rfl, hpad, hX9, hlen⟩ := hp50
  replace h0 := (hX9 _ (by omega)).trans h0
  replace hH := (hX9 _ (by omega)).trans hH
  replace hF7 := (hX9 _ (by omega)).trans hF7
  replace hG2 := (hX9 _ (by omega)).trans hG2
  replace hs1 := hs1.ex hX9 (by omega)
  replace hs2 := hs2.ex hX9 (by omega)
  replace hX := hX.tr (hX9.wd (by omega))
  refine ks_putT hκ 53 [_, _, _, _, _, _] dX6_init_53 rfl kf_X6_33 h0 rfl rfl (Nat.le_of_ble_eq_true rfl) rfl ?_
  refine ks_gen (fun xh14 exh14 => ?_)
  replace h0 := ks_gs exh14 h0
  replace hH := ks_gn exh14 (ks_nb (b := b) (i := 0) (j := 33) rfl) hH
  replace hF7 := ks_gn exh14 (ks_nb (b := b) (i := 0) (j := 34) rfl) hF7
  replace hG2 := ks_gn exh14 (ks_nb (b := b) (i := 0) (j := 35) rfl) hG2
  replace hs1 := hs1.fr (ks_Fr.one exh14) (by omega)
  replace hs2 := hs2.fr (ks_Fr.one exh14) (by omega)
  replace hpad := hpad.fr (ks_Fr.one exh14) (by omega)
  replace hX := ks_Ex.st hX exh14 (by omega)
  replace hlen := ks_gz exh14 hlen
  clear exh14
  refine ks_aload_n hκ 56 0 dX6_init_56 rfl ?_
  refine ks_newB hκ 57 hlen dX6_init_57 kn_X6_37 rfl (by decide) (by decide) (fun xh15 exh15 => ?_)
  replace h0 := ks_gb exh15 h0
  replace hH := ks_gb exh15 hH
  replace hF7 := ks_gb exh15 hF7
  replace hG2 := ks_gb exh15 hG2
  have hR := ks_ga exh15 hlen
  replace hs1 := hs1.ex (ks_Ex.ps ks_Ex.rf exh15 (Nat.le_refl _)) (by omega)
  replace hs2 := hs2.ex (ks_Ex.ps ks_Ex.rf exh15 (Nat.le_refl _)) (by omega)
  replace hpad := hpad.ex (ks_Ex.ps ks_Ex.rf exh15 (Nat.le_refl _)) (by omega)
  replace hX := ks_Ex.ps hX exh15 (by omega)
  replace hlen := ks_gl exh15 hlen
  clear exh15
  refine ks_dup hκ 60 dX6_init_60 rfl ?_
  refine ks_callI0 hκ 61 dX6_init_61 kc_X6_39 (c_Orders_init hR hlen) (by decide) (by decide) (by decide) (Nat.le_of_ble_eq_true rfl) (fun v61 xh16 hp61 => ?_)
  obtain ⟨rfl, hord, hX9, hlen⟩ := hp61
  replace h0 := (hX9 _ (by omega)).trans h0
  replace hH := (hX9 _ (by omega)).trans hH
  replace hF7 := (hX9 _ (by omega)).trans hF7
  replace hG2 := (hX9 _ (by omega)).trans hG2
  replace hs1 := hs1.ex hX9 (by omega)
  replace hs2 := hs2.ex hX9 (by omega)
  replace hpad := hpad.ex hX9 (by omega)
  replace hX := hX.tr (hX9.wd (by omega))
  refine ks_putT hκ 64 [_, _, _, _, _, _] dX6_init_64 rfl kf_X6_40 h0 rfl rfl (Nat.le_of_ble_eq_true rfl) rfl ?_
  refine ks_gen (fun xh17 exh17 => ?_)
  replace h0 := ks_gs exh17 h0
  replace hH := ks_gn exh17 (ks_nb (b := b) (i := 0) (j := 33) rfl) hH
  replace hF7 := ks_gn exh17 (ks_nb (b := b) (i := 0) (j := 34) rfl) hF7
  replace hG2 := ks_gn exh17 (ks_nb (b := b) (i := 0) (j := 35) rfl) hG2
  replace hs1 := hs1.fr (ks_Fr.one exh17) (by omega)
  replace hs2 := hs2.fr (ks_Fr.one exh17) (by omega)
  replace hpad := hpad.fr (ks_Fr.one exh17) (by omega)
  replace hord := hord.fr (ks_Fr.one exh17) (by omega)
  replace hX := ks_Ex.st hX exh17 (by omega)
  replace hlen := ks_gz exh17 hlen
  clear exh17
  refine ks_vret hκ 67 hRt dX6_init_67 (by decide) (by decide) ?_
  refine ⟨rfl, fun X hXX => ?_, hX, hlen⟩
  refine ⟨kNew, 0, fun _ => none, fun _ => none, fun _ => kNew, _, _, 0, 0, h0, hs1, hs2, hH, hF7, hG2, hpad, hord, ⟨fun r a hr ha => ?_, fun r r2 a a2 hr hr2 hne ha => ?_⟩, ⟨by decide, by decide, fun i y hy => (by cases hy), fun y hy => (by cases hy), fun s hs => Or.inl ⟨rfl, rfl⟩⟩, fun i hi => ⟨by have := hXX i hi; omega, Or.inl (hXX i hi)⟩⟩
  · unfold kG at ha; split at ha <;> cases ha
  · unfold kG at ha; split at ha <;> cases ha
