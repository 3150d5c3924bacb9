
/-! P29: the law, from its entry -/
set_option maxRecDepth 100000 in
theorem ks_nm_in : ∀ q ∈ ks_nm, Cond.methodLinkNest q.1 q.2.1 q.2.2.1 q.2.2.2 ∈ lw_tbl := by decide +kernel
set_option maxRecDepth 100000 in
theorem ks_nf_in : ∀ q ∈ ks_nf, Cond.fieldLinkNest q.1 q.2.1 q.2.2.1 q.2.2.2.1 q.2.2.2.2.1 q.2.2.2.2.2 ∈ lw_tbl := by decide +kernel
set_option maxHeartbeats 4000000 in
set_option maxRecDepth 100000 in
theorem law_world {s : State} {b L : Nat} {xs : Nat → Int32} (hts : ∀ w ∈ lw_tbl, w.before #[Value.ref b] s = true) (hgv : (Jvm.Cond.and given_1 narrow_1).before #[Value.ref b] s = true) (hX : va_X b L xs s s.heap) (hbl : b < s.heap.size) : ∃ g : ks_G, g.1 = s.heap.size ∧ g.2.2.2.2.2.2 = (b, L, xs) ∧ va_K g.2.1 vwCl (ks_tys g) s ∧ ks_St g s s.heap ∧ ks_Nw s := by
  have hts2 : ∀ w ∈ lw_g, w.before #[Value.ref b] s = true := fun w hw => hts w (List.mem_filter.mp hw).1
  have hfl := flat_of_before _ hgv
  obtain ⟨c0, d0, hKn0⟩ := u_known (C := RX0) (T := TX0) (N := 3) (n := 3) hts2 kin_0 (show (Cond.instantiable RX0 3).before #[Value.ref b] s = true from hts _ (List.mem_of_getElem? (i := 141) (by decide +kernel)))
  obtain ⟨c1, d1, hKn1⟩ := u_known (C := RX1) (T := TX1) (N := 4) (n := 4) hts2 kin_1 (show (Cond.instantiable RX1 4).before #[Value.ref b] s = true from hts _ (List.mem_of_getElem? (i := 174) (by decide +kernel)))
  obtain ⟨c2, d2, hKn2⟩ := u_known (C := RX2) (T := TX2) (N := 2) (n := 2) hts2 kin_2 (show (Cond.instantiable RX2 2).before #[Value.ref b] s = true from hts _ (List.mem_of_getElem? (i := 160) (by decide +kernel)))
  obtain ⟨c3, d3, hKn3⟩ := u_known (C := RX3) (T := TX3) (N := 4) (n := 4) hts2 kin_3 (show (Cond.instantiable RX3 4).before #[Value.ref b] s = true from hts _ (List.mem_of_getElem? (i := 53) (by decide +kernel)))
  obtain ⟨c4, d4, hKn4⟩ := u_known (C := RX4) (T := TX4) (N := 14) (n := 14) hts2 kin_4 (show (Cond.instantiable RX4 14).before #[Value.ref b] s = true from hts _ (List.mem_of_getElem? (i := 29) (by decide +kernel)))
  obtain ⟨c5, d5, hKn5⟩ := u_known (C := RX5) (T := TX5) (N := 3) (n := 3) hts2 kin_5 (show (Cond.instantiable RX5 3).before #[Value.ref b] s = true from hts _ (List.mem_of_getElem? (i := 35) (by decide +kernel)))
  obtain ⟨c6, d6, hKn6⟩ := u_known (C := RX6) (T := TX6) (N := 6) (n := 6) hts2 kin_6 (show (Cond.instantiable RX6 6).before #[Value.ref b] s = true from hts _ (List.mem_of_getElem? (i := 21) (by decide +kernel)))
  obtain ⟨dC, dI, hKc⟩ : ∃ (dC : Nat → ClassId) (dI : Nat → Nat → Nat), ∀ (k : Nat) (q : vw_C), vwCl[k]? = some q → u_Kn s q.1 q.2.1 q.2.2 (dC k) (dI k) := by
    refine ⟨fun k => if k = 0 then c0 else if k = 1 then c1 else if k = 2 then c2 else if k = 3 then c3 else if k = 4 then c4 else if k = 5 then c5 else c6, fun k => if k = 0 then d0 else if k = 1 then d1 else if k = 2 then d2 else if k = 3 then d3 else if k = 4 then d4 else if k = 5 then d5 else d6, ?_⟩
    intro k q hq
    match k, hq with
    | 0, hq => cases hq; exact hKn0
    | 1, hq => cases hq; exact hKn1
    | 2, hq => cases hq; exact hKn2
    | 3, hq => cases hq; exact hKn3
    | 4, hq => cases hq; exact hKn4
    | 5, hq => cases hq; exact hKn5
    | 6, hq => cases hq; exact hKn6
    | k + 7, hq => simp [vwCl] at hq
  obtain ⟨cI, kI, compI, i1, i2, i3⟩ := Cond.arrayClass_spec (hts2 _ ku_ai)
  have hAO : (Cond.arrayOver (.object RX4)).before #[Value.ref b] s = true := hts _ (List.mem_of_getElem? (i := 147) (by decide +kernel))
  obtain ⟨compQ, cQ, kQ, q1, q2, q3, q4, q5⟩ := Cond.arrayOver_spec hAO
  have arF : (Cond.arrayOf (.static RX6 "FIRST_VALUE" "[I") .int).before #[Value.ref b] s = true := hfl _ (by decide +kernel)
  have leF : (Cond.eq (.length (.static RX6 "FIRST_VALUE" "[I")) (.int 4)).before #[Value.ref b] s = true := hfl _ (by decide +kernel)
  have elF0 : (Cond.eq (.elem (.static RX6 "FIRST_VALUE" "[I") (.int 0)) (.int 3)).before #[Value.ref b] s = true := hfl _ (by decide +kernel)
  have elF1 : (Cond.eq (.elem (.static RX6 "FIRST_VALUE" "[I") (.int 1)) (.int 4)).before #[Value.ref b] s = true := hfl _ (by decide +kernel)
  have elF2 : (Cond.eq (.elem (.static RX6 "FIRST_VALUE" "[I") (.int 2)) (.int 5)).before #[Value.ref b] s = true := hfl _ (by decide +kernel)
  have elF3 : (Cond.eq (.elem (.static RX6 "FIRST_VALUE" "[I") (.int 3)) (.int 14)).before #[Value.ref b] s = true := hfl _ (by decide +kernel)
  obtain ⟨aF, evF, hTF⟩ := va_Tof (tm := .static RX6 "FIRST_VALUE" "[I") (ty := .int) (N := 4) (f := fun j => .int (([3, 4, 5, 14] : List Int32).getD j 0)) (A := fun q : Nat => s.heap.size ≤ q) (by decide) arF (va_eqt leF) (fun j hj => by
    rcases (show j = 0 ∨ j = 1 ∨ j = 2 ∨ j = 3 by omega) with rfl | rfl | rfl | rfl
    · exact va_eqt elF0
    · exact va_eqt elF1
    · exact va_eqt elF2
    · exact va_eqt elF3) (fun a ha => Nat.not_le.mpr ha)
  have hZF := va_Zref (C := RX6) (n := "FIRST_VALUE") (d := "[I") (A := fun q : Nat => s.heap.size ≤ q) (show (Cond.laysStatic RX6 "FIRST_VALUE" "[I").before #[Value.ref b] s = true from (hts _ (List.mem_of_getElem? (i := 79) (by decide +kernel)))) (show (Cond.initialized RX6).before #[Value.ref b] s = true from (hts _ (List.mem_of_getElem? (i := 11) (by decide +kernel)))) evF (fun a ha => Nat.not_le.mpr ha)
  have arL : (Cond.arrayOf (.static RX6 "LOWEST" "[I") .int).before #[Value.ref b] s = true := hfl _ (by decide +kernel)
  have leL : (Cond.eq (.length (.static RX6 "LOWEST" "[I")) (.int 4)).before #[Value.ref b] s = true := hfl _ (by decide +kernel)
  have elL0 : (Cond.eq (.elem (.static RX6 "LOWEST" "[I") (.int 0)) (.int 1)).before #[Value.ref b] s = true := hfl _ (by decide +kernel)
  have elL1 : (Cond.eq (.elem (.static RX6 "LOWEST" "[I") (.int 1)) (.int 0)).before #[Value.ref b] s = true := hfl _ (by decide +kernel)
  have elL2 : (Cond.eq (.elem (.static RX6 "LOWEST" "[I") (.int 2)) (.int 1)).before #[Value.ref b] s = true := hfl _ (by decide +kernel)
  have elL3 : (Cond.eq (.elem (.static RX6 "LOWEST" "[I") (.int 3)) (.int 2)).before #[Value.ref b] s = true := hfl _ (by decide +kernel)
  obtain ⟨aL, evL, hTL⟩ := va_Tof (tm := .static RX6 "LOWEST" "[I") (ty := .int) (N := 4) (f := fun j => .int (([1, 0, 1, 2] : List Int32).getD j 0)) (A := fun q : Nat => s.heap.size ≤ q) (by decide) arL (va_eqt leL) (fun j hj => by
    rcases (show j = 0 ∨ j = 1 ∨ j = 2 ∨ j = 3 by omega) with rfl | rfl | rfl | rfl
    · exact va_eqt elL0
    · exact va_eqt elL1
    · exact va_eqt elL2
    · exact va_eqt elL3) (fun a ha => Nat.not_le.mpr ha)
  have hZL := va_Zref (C := RX6) (n := "LOWEST") (d := "[I") (A := fun q : Nat => s.heap.size ≤ q) (show (Cond.laysStatic RX6 "LOWEST" "[I").before #[Value.ref b] s = true from (hts _ (List.mem_of_getElem? (i := 512) (by decide +kernel)))) (show (Cond.initialized RX6).before #[Value.ref b] s = true from (hts _ (List.mem_of_getElem? (i := 11) (by decide +kernel)))) evL (fun a ha => Nat.not_le.mpr ha)
  have arH : (Cond.arrayOf (.static RX6 "HIGHEST" "[I") .int).before #[Value.ref b] s = true := hfl _ (by decide +kernel)
  have leH : (Cond.eq (.length (.static RX6 "HIGHEST" "[I")) (.int 4)).before #[Value.ref b] s = true := hfl _ (by decide +kernel)
  have elH0 : (Cond.eq (.elem (.static RX6 "HIGHEST" "[I") (.int 0)) (.int 8)).before #[Value.ref b] s = true := hfl _ (by decide +kernel)
  have elH1 : (Cond.eq (.elem (.static RX6 "HIGHEST" "[I") (.int 1)) (.int 15)).before #[Value.ref b] s = true := hfl _ (by decide +kernel)
  have elH2 : (Cond.eq (.elem (.static RX6 "HIGHEST" "[I") (.int 2)) (.int 30)).before #[Value.ref b] s = true := hfl _ (by decide +kernel)
  have elH3 : (Cond.eq (.elem (.static RX6 "HIGHEST" "[I") (.int 3)) (.int 60)).before #[Value.ref b] s = true := hfl _ (by decide +kernel)
  obtain ⟨aH, evH, hTH⟩ := va_Tof (tm := .static RX6 "HIGHEST" "[I") (ty := .int) (N := 4) (f := fun j => .int (([8, 15, 30, 60] : List Int32).getD j 0)) (A := fun q : Nat => s.heap.size ≤ q) (by decide) arH (va_eqt leH) (fun j hj => by
    rcases (show j = 0 ∨ j = 1 ∨ j = 2 ∨ j = 3 by omega) with rfl | rfl | rfl | rfl
    · exact va_eqt elH0
    · exact va_eqt elH1
    · exact va_eqt elH2
    · exact va_eqt elH3) (fun a ha => Nat.not_le.mpr ha)
  have hZH := va_Zref (C := RX6) (n := "HIGHEST") (d := "[I") (A := fun q : Nat => s.heap.size ≤ q) (show (Cond.laysStatic RX6 "HIGHEST" "[I").before #[Value.ref b] s = true from (hts _ (List.mem_of_getElem? (i := 514) (by decide +kernel)))) (show (Cond.initialized RX6).before #[Value.ref b] s = true from (hts _ (List.mem_of_getElem? (i := 11) (by decide +kernel)))) evH (fun a ha => Nat.not_le.mpr ha)
  refine ⟨(s.heap.size, (dC, dI), (cI, cI, cQ), (aF, aL, aH, b, L, xs)), rfl, rfl, ⟨hKc, fun k q hk => ?_⟩, ⟨⟨hZF, hTF⟩, ⟨hZL, hTL⟩, ⟨hZH, hTH⟩, hX, hbl, Nat.not_le.mpr hbl⟩, fun q hq => va_tabs rfl rfl (hts _ (ks_nm_in q hq)), fun q hq => va_tabs rfl rfl (hts _ (ks_nf_in q hq)), va_AO.of hAO⟩
  match k, hk with
  | 0, hk => cases hk; exact ⟨fun n z => ⟨(fun k h => by cases h), kI, i2, compI, i3⟩, i1⟩
  | 1, hk => cases hk; exact ⟨fun n z => ⟨(fun k h => by cases h), kQ, q3, compQ, q4⟩, kQ, compQ, q3, q4, q1, q5⟩
  | k + 2, hk => simp [ks_tys] at hk
set_option maxHeartbeats 4000000 in
set_option maxRecDepth 100000 in
theorem law_begin {κ : ks_C} {g : ks_G} {nm : String} (hκ : ks_Ok κ g RL nm code 11 9 600000 7302250) (hle : ks_Le κ g) (hL : g.2.2.2.2.2.2.2.1 ≤ 260) : ks_K κ g 11 [] 0 0 0 [(0, .ref g.2.2.2.2.2.2.1)] [] := by
  refine ks_newB hκ 0 (b := 0) rfl dL_law_0 kn_L_11 rfl (by decide) (by decide) (fun h1 e1 => ?_)
  have hx0 := ks_ga e1 (rfl : ([] : ks_H).length = 0)
  have hl1 : h1.length = 0 + 1 := by rw [e1]; rfl
  refine ks_dup hκ 3 dL_law_3 rfl ?_
  refine ks_callI0 hκ 4 dL_law_4 kc_L_96 (c_KS_init hx0 hl1) (by decide) (by decide) (by decide) (Nat.le_of_ble_eq_true rfl) (fun v4 h2 hp4 => ?_)
  obtain ⟨rfl, hkx, -, hl2⟩ := hp4
  have hks : q9K g h2 kNew [] := hkx (fun _ => False) (fun i hi => hi.elim)
  refine ks_widen 41 1402 (by decide) (by decide) ?_
  have hX0 := hks.ob
  refine ks_astore_n hκ 7 1 [(1, _), (0, _)] dL_law_7 rfl (by decide) rfl ?_
  refine ks_aload_n hκ 8 0 dL_law_8 rfl ?_
  refine ks_aload_nr hκ 9 1 dL_law_9 rfl ?_
  refine ks_iconst hκ 10 (nI 0) dL_law_10 kq_i0 ?_
  refine ks_pureS2 hκ 11 dL_law_11 kc_L_97 (l_cell (k := 0) (by omega) hL) (by decide) (Nat.le_of_ble_eq_true rfl) (by omega) (by omega) ?_
  refine ks_bipush hκ 14 (nI 16) dL_law_14 kq_b16 ?_
  have hb16 : q9Lo (q9Ce g 0) 16 < 16 := q9Lo_lt (by decide)
  refine ks_pureS2 hκ 16 dL_law_16 kc_L_78 (l_low (v := (q9Ce g 0)) (n := 16) (by decide) (by decide)) (by decide) (Nat.le_of_ble_eq_true rfl) (by omega) (by omega) ?_
  obtain ⟨τ1, t1, tJ1, tk1, tt1⟩ := q9Kit (a := (q9Lo (q9Ce g 0) 16)) (c := 0) q9J_new (by omega) rfl (by decide)
  refine ks_intcV1 hκ 19 dL_law_19 kc_L_81 (w_kitten hks) hX0 rfl (by decide) (Nat.le_of_ble_eq_true rfl) (Nat.le_of_ble_eq_true rfl) (Nat.le_of_ble_eq_true rfl) (fun r19 xh1 hp19 => ?_)
  obtain ⟨rfl, hks⟩ := hp19
  have hX0 := hks.ob
  rw [t1] at hks ⊢
  dsimp only at hks ⊢
  refine ks_if_ne hκ 22 65 dL_law_22 rfl (fun c22 => ?_) (fun c22 => ?_)
  · skip
    exact absurd c22 (by decide)
  · skip
    refine ks_aload_n hκ 25 0 dL_law_25 rfl ?_
    refine ks_aload_nr hκ 26 1 dL_law_26 rfl ?_
    refine ks_iconst hκ 27 (nI 1) dL_law_27 kq_i1 ?_
    refine ks_pureS2 hκ 28 dL_law_28 kc_L_97 (l_cell (k := 1) (by omega) hL) (by decide) (Nat.le_of_ble_eq_true rfl) (by omega) (by omega) ?_
    refine ks_bipush hκ 31 (nI 16) dL_law_31 kq_b16 ?_
    have hb33 : q9Lo (q9Ce g 1) 16 < 16 := q9Lo_lt (by decide)
    refine ks_pureS2 hκ 33 dL_law_33 kc_L_78 (l_low (v := (q9Ce g 1)) (n := 16) (by decide) (by decide)) (by decide) (Nat.le_of_ble_eq_true rfl) (by omega) (by omega) ?_
    obtain ⟨τ2, t2, tJ2, tk2, tt2⟩ := q9Kit (a := (q9Lo (q9Ce g 1) 16)) (c := 1) tJ1 (by omega) tk1 (by decide)
    refine ks_intcV1 hκ 36 dL_law_36 kc_L_81 (w_kitten hks) hX0 rfl (by decide) (Nat.le_of_ble_eq_true rfl) (Nat.le_of_ble_eq_true rfl) (Nat.le_of_ble_eq_true rfl) (fun r36 xh2 hp36 => ?_)
    obtain ⟨rfl, hks⟩ := hp36
    have hX0 := hks.ob
    rw [t2] at hks ⊢
    dsimp only at hks ⊢
    refine ks_iconst hκ 39 (nI 1) dL_law_39 kq_i1 ?_
    refine ks_icmp_ne hκ 40 65 dL_law_40 rfl (fun c40 => ?_) (fun c40 => ?_)
    · exfalso
      have c40 := mt (nI_eq (by omega) (by omega)).mpr c40
      exact c40 rfl
    · skip
      have c40 := (nI_eq (by omega) (by omega)).mp c40
      refine ks_aload_n hκ 43 0 dL_law_43 rfl ?_
      refine ks_aload_nr hκ 44 1 dL_law_44 rfl ?_
      refine ks_iconst hκ 45 (nI 2) dL_law_45 kq_i2 ?_
      refine ks_pureS2 hκ 46 dL_law_46 kc_L_97 (l_cell (k := 2) (by omega) hL) (by decide) (Nat.le_of_ble_eq_true rfl) (by omega) (by omega) ?_
      refine ks_bipush hκ 49 (nI 16) dL_law_49 kq_b16 ?_
      have hb51 : q9Lo (q9Ce g 2) 16 < 16 := q9Lo_lt (by decide)
      refine ks_pureS2 hκ 51 dL_law_51 kc_L_78 (l_low (v := (q9Ce g 2)) (n := 16) (by decide) (by decide)) (by decide) (Nat.le_of_ble_eq_true rfl) (by omega) (by omega) ?_
      obtain ⟨τ3, t3, tJ3, tk3, tt3⟩ := q9Kit (a := (q9Lo (q9Ce g 2) 16)) (c := 2) tJ2 (by omega) tk2 (by decide)
      refine ks_intcV1 hκ 54 dL_law_54 kc_L_81 (w_kitten hks) hX0 rfl (by decide) (Nat.le_of_ble_eq_true rfl) (Nat.le_of_ble_eq_true rfl) (Nat.le_of_ble_eq_true rfl) (fun r54 xh3 hp54 => ?_)
      obtain ⟨rfl, hks⟩ := hp54
      have hX0 := hks.ob
      rw [t3] at hks ⊢
      dsimp only at hks ⊢
      refine ks_iconst hκ 57 (nI 2) dL_law_57 kq_i2 ?_
      refine ks_icmp_ne hκ 58 65 dL_law_58 rfl (fun c58 => ?_) (fun c58 => ?_)
      · exfalso
        have c58 := mt (nI_eq (by omega) (by omega)).mpr c58
        exact c58 rfl
      · skip
        have c58 := (nI_eq (by omega) (by omega)).mp c58
        refine ks_iconst hκ 61 (nI 1) dL_law_61 kq_i1 ?_
        refine ks_goto hκ 62 66 dL_law_62 rfl ?_
        refine ks_istore_n hκ 66 2 [(2, _), (1, _), (0, _)] dL_law_66 rfl (by decide) rfl ?_
        refine ks_iconst hκ 67 (nI 0) dL_law_67 kq_i0 ?_
        refine ks_istore_n hκ 68 3 [(3, _), (2, _), (1, _), (0, _)] dL_law_68 rfl (by decide) rfl ?_
        refine ks_widen (89 + 112 * 0) (3187 + 4165 * 0) (by decide) (by decide) ?_
        refine ks_pick [3, 2, 1, 0] [(0, _), (1, _), (2, _), (3, _)] rfl ?_
        exact ks_cv (law_loop hκ hle hL 33 0 0 _ _ _  hks tJ3 (by omega) (by rw [tt3, tt2, tt1]; rfl) (Nat.le_refl _) (by decide) (by decide)) rfl rfl rfl
set_option maxHeartbeats 4000000 in
set_option maxRecDepth 100000 in
theorem whole_start {p : Program} {e : Env} {s : State} {m : MethodId} {below : List Frame} {meth : Method} {c : Code} (l : Launch) (hflags : l.flags = flags0) {b L : Nat} {xs : Nat → Int32} (hL : L ≤ 260) (C0 : lw_At p s m meth c b L xs) : W p l e room_1 s m #[Value.ref b] below meth c s.heap [] 0 0 (lw_Z below #[Value.ref b] s) (entryFrame m ([Value.ref b] : List Value).toArray 11) := by
  obtain ⟨hx, hb, hr, hml, hown, hts, hX, hbl, hlocks, hgv⟩ := C0
  obtain ⟨g, hg, hgs, hK, hSt, hNw⟩ := law_world hts hgv hX hbl
  have hts2 : ∀ w ∈ lw_g, w.before #[Value.ref b] s = true := fun w hw => hts w (List.mem_filter.mp hw).1
  have hκ : ks_Ok (p, l, e, room_1, s, m, #[Value.ref b], below, meth, c, lw_Z below #[Value.ref b] s) g RL meth.name code 11 9 600000 7302250 := ⟨hx, hb, hml, hown, hts2, rfl, rfl, by decide, rfl, rfl, hK, hSt, hNw, by rw [hg]; exact Nat.le_refl _⟩
  have hle : ks_Le (p, l, e, room_1, s, m, #[Value.ref b], below, meth, c, lw_Z below #[Value.ref b] s) g := ⟨b, rfl, rfl, rfl, hx, hb, hr, hlocks, hg⟩
  have hl := lv_entry ([.ref b]) (n := 11) (Nat.le_of_ble_eq_true rfl)
  rw [lg_entry_eq]
  have h1 := law_begin hκ hle (by rw [hgs]; exact hL)
  rw [hgs] at h1
  exact h1 s.heap [] _ ⟨by rw [hg]; rfl, fun k q h => by simp [ks_wl] at h⟩ va_S.rf hl

set_option maxHeartbeats 4000000 in
theorem lw_walk (l : Launch) (hflags : l.flags = flags0) (b : Addr) (xs : List Int32) : MetFree l x (headSpec (Jvm.Cond.code x code maxLocals ret :: tables_1) room_1) (lw_P b xs) (fun _ _ _ _ _ => True) lw_Q := by
  refine MetFree.of_bodyS (code := code) (maxLocals := maxLocals) (ret := ret) (by decide) ?_ ?_
  · intro args s m h hn
    obtain ⟨meth, c, h1, h2, h3, h4, h5, h6, -, -⟩ := Cond.code_spec hn (atoms_spec (ws := Jvm.Cond.code x code maxLocals ret :: tables_1) h _ List.mem_cons_self)
    exact ⟨meth, c, h1, h2, h3, h4, h5, h6⟩
  · intro p e s m args below meth c s₁ B hml0 hP _
    obtain ⟨rfl, hx, hbd, hgv⟩ := hP
    obtain ⟨scr, harrAt, hlist, hof, hsmall⟩ := hx
    obtain ⟨hcb, hkn, -, -⟩ := State.arrayAt?_spec harrAt
    have hown : s.vm.findClass R_law = some m.cls := findClass_of_methodNamed B.named
    have hts0 : ∀ c ∈ (Jvm.Cond.code x code maxLocals ret :: tables_1), c.before #[Value.ref b] s = true := atoms_spec (ws := Jvm.Cond.code x code maxLocals ret :: tables_1) B.pre
    have hts : ∀ w ∈ lw_tbl, w.before #[Value.ref b] s = true := k2_hts_sels lw_privs (fun w hw => hts0 w (List.mem_cons_of_mem _ hw)) lw_privs_ok
    have hml : c.maxLocals = 11 := B.maxLocals_eq (hts0 _ List.mem_cons_self)
    have X₀ : Stand p l e room_1 s m #[Value.ref b] below meth c s₁ [] 0 0 := Stand.of_body B
    have hh0 : s₁.heap = s.heap := by rw [B.state]; rfl
    have hsz : scr.slots.size = xs.length := by rw [← Array.length_toList, hlist, List.length_map]
    have hval : ∀ j : Nat, j < xs.length → scr.slots[j]? = some (.int (xs.getD j 0)) := fun j hj => by
      rw [← Array.getElem?_toList, hlist]
      simp [hj]
    have hbl : b < s.heap.size := (Array.getElem?_eq_some_iff.mp hcb).1
    have hX : va_X b xs.length (fun j => xs.getD j 0) s s.heap := ⟨scr, hcb, hof, hkn, hsz, hval⟩
    have K : W p l e room_1 s m #[Value.ref b] below meth c s₁.heap [] 0 0 (lw_Z below #[Value.ref b] s) (entryFrame m ([Value.ref b] : List Value).toArray 11) := by
      rw [hh0]
      exact whole_start l hflags hbd ⟨B.exec, B.bytes, B.returns, hml, hown, hts, hX, hbl, B.notSynchronized, hgv⟩
    obtain ⟨t, a1, o, b1, b2, b3⟩ := K s₁ rfl X₀
    exact ⟨t, o, a1, b1, b2, b3⟩
theorem lw_pre_spec {args : Array Value} {s : State} (h : (Jvm.Cond.and given_1 narrow_1).before args s = true) (hr : rest_1_c.before args s = true) : ∃ (b : Addr) (xs : List Int32), lw_P b xs args s := by
  have hs := flat_of_before _ h
  have hq := flat_of_before _ hr
  have hc : (Cond.count 1).before args s = true := hs _ (by decide +kernel)
  have harr : (Cond.arrayOf (.arg 0) .int).before args s = true := hs _ (by decide +kernel)
  have hle : (Cond.le (.length (.arg 0)) (.int 260)).before args s = true := hs _ (by decide +kernel)
  have hlen : (Cond.isInt (.length (.arg 0))).before args s = true := hq _ (by decide +kernel)
  have hall : (Cond.all (.arg 0) (.isInt (.elem (.arg 0) (.index 0)))).before args s = true := hq _ (by decide +kernel)
  obtain ⟨b, xs, hb, hx⟩ := State.ints_of_pre rfl harr hlen hall
  have hsm : xs.length < 2 ^ 31 := hx.choose_spec.2.2.2
  have hev : (Term.length (.arg 0)).eval args s none [] s = some (.int xs.length.toInt32) := hx.length_eval hb
  have hv := Cond.le_ints hev (show (Term.int 260).eval args s none [] s = some (.int 260) from rfl)
  have hd : xs.length.toInt32 ≤ 260 := by
    simpa [Cond.before, Cond.holds, hv] using hle
  have hN : xs.length ≤ 260 := (Int32.ofNat_le_ofNat hsm (by decide)).mp (show Int32.ofNat xs.length ≤ Int32.ofNat 260 from hd)
  exact ⟨b, xs, Cond.one_arg hc (show args[0]? = some (.ref b) from hb), hx, hN, h⟩
theorem lw_comes (l : Launch) (hflags : l.flags = flags0) : Comes l x (Jvm.Cond.code x code maxLocals ret :: tables_1) room_1 (fun tb e args s => Calls_1 tb e args s ∧ rest_1 tb e args s ∧ Pre_1 tb e args s)
    (fun _ _ args s o t => lw_Q args s o t) := by
  intro p e ha hc hk s m args below hf hfit hheap happ hpre
  obtain ⟨b, xs, hP⟩ := lw_pre_spec hpre.2.2 hpre.2.1
  obtain ⟨k, o, h1, h2, h3, hQ⟩ := lw_walk l hflags b xs p e ha hc hk s m args below hf ((Spec.applies_iff_loose hf).mp happ).1 hP trivial
  exact ⟨k, o, h1, h2, h3, hQ⟩
theorem lw_frame {s t : State} {o : Outcome} {args : Array Value} (h : Framed s o t [] 600000 7302250) :
    Framed s o t (fieldLocs frame_1_writes args s ++ arrayLocs frame_1_arrays args s ++ staticLocs frame_1_statics s) 600000 7302250 := h
theorem lw_limb (L : Cond) (hL : ∀ (args : Array Value) (s t : State), L.after args s (.returned (some (.int 1))) t = true) :
    ArmFor flags0 classFile x code maxLocals ret World_1 tables_1 room_1 Calls_1 rest_1 Pre_1
      (fun tb e a s o t => postC L tb e a s o t ∧ Framed s o t (fieldLocs frame_1_writes a s ++ arrayLocs frame_1_arrays a s ++ staticLocs frame_1_statics s) 600000 7302250) := by
  intro l hflags _ _ p e ha hc hk s m args below hf hfit hheap happ hpre
  obtain ⟨k, o, h1, h2, h3, rfl, hF⟩ := lw_comes l hflags p e ha hc hk s m args below hf hfit hheap happ hpre
  exact ⟨k, _, h1, h2, h3, hL args s _, lw_frame hF⟩
theorem i_vc : Claimed_1_1 ∧ Claimed_1_2 := ⟨lw_limb limb_1_1 (fun args s t => by simp [limb_1_1, Cond.after, Cond.holds, Cond.value]), lw_limb limb_1_2 (fun args s t => Cond.after_iff.mpr (by
  first | (rw [show limb_1_2 = Cond.eq .result (.int 1) from rfl, Cond.eq_ints (x := 1) (y := 1) rfl rfl]; simp; done) | (simp [limb_1_2, Cond.value, Term.eval]; done)))⟩
