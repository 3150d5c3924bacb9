
/-! ORDERS: the whole text -/
theorem kRO_le (l : List Int32) (n : Nat) : n ≤ (kRO l n).2.2 ∧ (kRO l n).2.2 ≤ n + 8 := by
  have a1 := kRD_le l (n + 1)
  have a2 := kRB_le l (kRD l (n + 1)).2.2
  have a3 := kRN_le l (n + 1)
  have a4 := kSg_le l (kRN l (n + 1)).2.2 (nI 58)
  have a5 := kRD_le l (kSg l (kRN l (n + 1)).2.2 (nI 58)).2
  have a6 := kRB_le l (kRD l (kSg l (kRN l (n + 1)).2.2 (nI 58)).2).2.2
  have a7 := kSg_le l (kRN l (n + 1)).2.2 (nI 46)
  have a8 := kRD_le l (kSg l (kRN l (n + 1)).2.2 (nI 46)).2
  unfold kRO
  repeat' split
  all_goals (simp only; omega)
/-- the orders of a text from a place on, at most f of them; the fault, or -6 -/
def kRead : Nat → List Int32 → Nat → List kO → Int32 × List kO
  | 0, _, n, acc => (nI n, acc)
  | f + 1, l, n, acc =>
    if (kRO l n).1 = false then (nI (kRO l n).2.2, acc)
    else if l.length ≤ (kRO l n).2.2 then (-6, acc ++ [(kRO l n).2.1])
    else if l.getD (kRO l n).2.2 (nI 0) = nI 59 then kRead f l ((kRO l n).2.2 + 1) (acc ++ [(kRO l n).2.1])
    else (nI (kRO l n).2.2, acc ++ [(kRO l n).2.1])
def kFits (acc : List kO) (LT PT : Nat → Int32) : Prop := ∀ (i : Nat) (o : kO), acc[i]? = some o → kFit o (LT i) (PT (i * 3)) (PT (i * 3 + 1)) (PT (i * 3 + 2))
theorem kFits.keep {acc : List kO} {LT PT LT1 PT1 : Nat → Int32} (h : kFits acc LT PT) (h1 : ∀ i, i < acc.length → LT1 i = LT i) (h2 : ∀ i, i < acc.length * 3 → PT1 i = PT i) : kFits acc LT1 PT1 := by
  intro i o hi
  have hl := (List.getElem?_eq_some_iff.mp hi).1
  rw [h1 i hl, h2 (i * 3) (by omega), h2 (i * 3 + 1) (by omega), h2 (i * 3 + 2) (by omega)]
  exact h i o hi
theorem kFits.snoc {acc : List kO} {LT PT : Nat → Int32} {o : kO} (h : kFits acc LT PT) (h1 : kFit o (LT acc.length) (PT (acc.length * 3)) (PT (acc.length * 3 + 1)) (PT (acc.length * 3 + 2))) : kFits (acc ++ [o]) LT PT := by
  intro i o1 hi
  by_cases hl : i < acc.length
  · rw [List.getElem?_append_left hl] at hi; exact h i o1 hi
  · have hz := (List.getElem?_eq_some_iff.mp hi).1
    rw [List.length_append] at hz
    have : i = acc.length := by simp at hz; omega
    subst this
    simp at hi
    rw [← hi]; exact h1
theorem kRead_len : ∀ (f : Nat) (l : List Int32) (n : Nat) (acc : List kO), (kRead f l n acc).2.length ≤ acc.length + f
  | 0, l, n, acc => Nat.le_refl _
  | f + 1, l, n, acc => by
    rw [kRead]
    split
    · show acc.length ≤ _; omega
    · split
      · show (acc ++ _).length ≤ _; rw [List.length_append]; simp
      · split
        · have := kRead_len f l ((kRO l n).2.2 + 1) (acc ++ [(kRO l n).2.1])
          rw [List.length_append] at this
          simp at this
          omega
        · show (acc ++ _).length ≤ _; rw [List.length_append]; simp
set_option maxRecDepth 100000 in
set_option maxHeartbeats 4000000 in
theorem c_Orders_read {g : ks_G} {h : ks_H} {od pd vs vn : Nat} {LT PT : Nat → Int32} {l : List Int32} (hord : kOrdR g h od LT PT vs vn) (hpad : kPad g h pd l) (hap : od + 3 ≤ pd ∨ pd + 2 ≤ od) : ks_Met g (yX1_read, cX1_read, 2, some .int) 5 0 0 [ks_ref g od, ks_ref g pd] h (ks_Ph (fun r h' => r = (kRead 27 l 0 []).1 ∧ (∃ LT1 PT1 vn1, kOrdR g h' od LT1 PT1 (kRead 27 l 0 []).2.length vn1 ∧ kFits (kRead 27 l 0 []).2 LT1 PT1) ∧ ks_Fr h h' od (od + 3))) := by
  have hord0 := hord
  obtain ⟨hO, hL, hP⟩ := hord
  obtain ⟨_, hD, -⟩ := id hpad
  refine ks_intro (by decide) (Nat.le_of_ble_eq_true rfl) (fun κ hκ hRt => ?_)
  refine ks_cv (ls := [(0, ks_ref g od), (1, ks_ref g pd)]) ?_ rfl rfl rfl
  have hF : ks_Fr h h od (od + 3) := ks_Fr.rf
  refine ks_aload_n hκ 0 0 dX1_read_0 rfl ?_
  refine ks_iconst hκ 1 (nI 0) dX1_read_1 kq_i0 ?_
  refine ks_putS hκ 2 [_, _, _, _] dX1_read_2 kf_X1_18 hO rfl rfl (Nat.le_of_ble_eq_true rfl) rfl ?_
  refine ks_gen (fun xh1 exh1 => ?_)
  replace hO := ks_gs exh1 hO
  replace hL := ks_gn exh1 (ks_nb (b := od) (i := 0) (j := 1) rfl) hL
  replace hP := ks_gn exh1 (ks_nb (b := od) (i := 0) (j := 2) rfl) hP
  replace hD := ks_gn exh1 (by omega) hD
  replace hpad := hpad.fr (ks_Fr.one exh1) (by omega)
  replace hF := ks_Fr.st hF exh1 (by omega) (by omega)
  clear exh1
  refine ks_aload_n hκ 5 0 dX1_read_5 rfl ?_
  refine ks_iconst hκ 6 (nI 0) dX1_read_6 kq_i0 ?_
  refine ks_putS hκ 7 [_, _, _, _] dX1_read_7 kf_X1_22 hO rfl rfl (Nat.le_of_ble_eq_true rfl) rfl ?_
  refine ks_gen (fun xh2 exh2 => ?_)
  replace hO := ks_gs exh2 hO
  replace hL := ks_gn exh2 (ks_nb (b := od) (i := 0) (j := 1) rfl) hL
  replace hP := ks_gn exh2 (ks_nb (b := od) (i := 0) (j := 2) rfl) hP
  replace hD := ks_gn exh2 (by omega) hD
  replace hpad := hpad.fr (ks_Fr.one exh2) (by omega)
  replace hF := ks_Fr.st hF exh2 (by omega) (by omega)
  clear exh2
  have L10 : ∀ (fuel : Nat) (vf vn1 : Nat) (LT1 PT1 : Nat → Int32) (acc : List kO) (hh : ks_H) (hord : kOrdR g hh od LT1 PT1 acc.length vn1) (hpad : kPad g hh pd l) (hF : ks_Fr h hh od (od + 3)) (hvf : vf + acc.length = 27) (hv1 : vn1 ≤ 9 * acc.length) (hfit : kFits acc LT1 PT1) (hinv : kRead vf l vn1 acc = kRead 27 l 0 []) (hfuel : vf < fuel), ks_K κ g 2 hh 0 0 10 [(0, ks_ref g od), (1, ks_ref g pd)] [] := by
    intro fuel
    induction fuel with
    | zero => intro vf vn1 LT1 PT1 acc hh hord hpad hF hvf hv1 hfit hinv hfuel; exact absurd hfuel (Nat.not_lt_zero _)
    | succ fuel ih =>
      intro vf vn1 LT1 PT1 acc hh hord hpad hF hvf hv1 hfit hinv hfuel
      have hord1 := hord
      obtain ⟨hO, hL, hP⟩ := hord
      obtain ⟨_, hD, -, -, hpl⟩ := id hpad
      refine ks_aload_n hκ 10 0 dX1_read_10 rfl ?_
      refine ks_get hκ 11 dX1_read_11 kf_X1_18 hO rfl ?_
      refine ks_bipush hκ 14 (nI 27) dX1_read_14 kq_b27 ?_
      refine ks_icmp_ge hκ 16 71 dX1_read_16 rfl (fun c16 => ?_) (fun c16 => ?_)
      · skip
        have c16 := (nI_leI (by omega) (by omega)).mp c16
        have hvf0 : vf = 0 := by omega
        subst hvf0
        refine ks_aload_n hκ 71 0 dX1_read_71 rfl ?_
        refine ks_get hκ 72 dX1_read_72 kf_X1_22 hO rfl ?_
        refine ks_iret hκ 75 hRt dX1_read_75 (by decide) (by decide) rfl ?_
        refine ⟨_, rfl, by rw [← hinv, kRead], ⟨LT1, PT1, _, by rw [← hinv, kRead]; exact hord1, by rw [← hinv, kRead]; exact hfit⟩, hF⟩
      · skip
        have c16 := mt (nI_leI (by omega) (by omega)).mpr c16
        obtain ⟨vf1, rfl⟩ : ∃ vf1, vf = vf1 + 1 := ⟨vf - 1, by omega⟩
        rw [kRead] at hinv
        refine ks_aload_n hκ 19 0 dX1_read_19 rfl ?_
        refine ks_aload_n hκ 20 1 dX1_read_20 rfl ?_
        refine ks_intcV1 hκ 21 dX1_read_21 kc_X1_29 (c_Orders_readOrder hord1 hpad hap (by omega) (by omega)) hO rfl (by decide) (Nat.le_of_ble_eq_true rfl) (by decide) (by decide) (fun r21 xh3 hp21 => ?_)
        obtain ⟨rfl, ⟨LT2, PT2, hord, hl21, hp21, hq21⟩, hF9⟩ := hp21
        have hord1 := hord
        obtain ⟨hO, hL, hP⟩ := hord
        have hb21 := kRO_le l vn1
        replace hfit := hfit.keep hl21 hp21
        replace hD := hF9.at hD (by omega)
        replace hpad := hpad.fr hF9 (by omega)
        replace hF := hF.tr (hF9.wd (by omega) (by omega))
        refine ks_if_ne hκ 24 32 dX1_read_24 rfl (fun c24 => ?_) (fun c24 => ?_)
        · skip
          have c24 := kB1_c1 c24
          rw [if_neg c24] at hinv
          refine ks_aload_n hκ 32 0 dX1_read_32 rfl ?_
          refine ks_dup hκ 33 dX1_read_33 rfl ?_
          refine ks_get hκ 34 dX1_read_34 kf_X1_18 hO rfl ?_
          refine ks_iconst hκ 37 (nI 1) dX1_read_37 kq_i1 ?_
          refine ks_iaddN hκ 38 dX1_read_38 ?_
          refine ks_putS hκ 39 [_, _, _, _] dX1_read_39 kf_X1_18 hO rfl rfl (Nat.le_of_ble_eq_true rfl) rfl ?_
          refine ks_gen (fun xh4 exh4 => ?_)
          replace hO := ks_gs exh4 hO
          replace hL := ks_gn exh4 (ks_nb (b := od) (i := 0) (j := 1) rfl) hL
          replace hP := ks_gn exh4 (ks_nb (b := od) (i := 0) (j := 2) rfl) hP
          replace hD := ks_gn exh4 (by omega) hD
          replace hpad := hpad.fr (ks_Fr.one exh4) (by omega)
          replace hF := ks_Fr.st hF exh4 (by omega) (by omega)
          clear exh4
          refine ks_aload_n hκ 42 0 dX1_read_42 rfl ?_
          refine ks_get hκ 43 dX1_read_43 kf_X1_22 hO rfl ?_
          refine ks_aload_n hκ 46 1 dX1_read_46 rfl ?_
          refine ks_get hκ 47 dX1_read_47 kf_X1_33 hD rfl ?_
          refine ks_icmp_lt hκ 50 56 dX1_read_50 rfl (fun c50 => ?_) (fun c50 => ?_)
          · skip
            have c50 := (nI_ltI (by omega) (by omega)).mp c50
            rw [if_neg (show ¬ l.length ≤ (kRO l vn1).2.2 by omega)] at hinv
            have hord1 : kOrdR g _ od LT2 PT2 (acc.length + 1) (kRO l vn1).2.2 := ⟨hO, hL, hP⟩
            refine ks_aload_n hκ 56 0 dX1_read_56 rfl ?_
            refine ks_aload_n hκ 57 1 dX1_read_57 rfl ?_
            refine ks_bipush hκ 58 (nI 59) dX1_read_58 kq_b59 ?_
            refine ks_intcV2 hκ 60 dX1_read_60 kc_X1_38 (c_Orders_readSign hord1 hpad hap (by omega) (by omega)) hO rfl (by decide) (Nat.le_of_ble_eq_true rfl) (by decide) (by decide) (fun r60 xh5 hp60 => ?_)
            obtain ⟨rfl, hord, hF9⟩ := hp60
            have hord1 := hord
            obtain ⟨hO, hL, hP⟩ := hord
            replace hD := hF9.at hD (by omega)
            replace hpad := hpad.fr hF9 (by omega)
            replace hF := hF.tr (hF9.wd (by omega) (by omega))
            refine ks_if_ne hκ 63 10 dX1_read_63 rfl (fun c63 => ?_) (fun c63 => ?_)
            · skip
              have c63 : l.getD (kRO l vn1).2.2 (nI 0) = nI 59 := by
                by_cases q : l.getD (kRO l vn1).2.2 (nI 0) = nI 59
                · exact q
                · exact absurd (by rw [show kSg l (kRO l vn1).2.2 (nI 59) = (false, (kRO l vn1).2.2) from if_neg q]; exact kB1_f) c63
              rw [if_pos c63] at hinv
              rw [show kSg l (kRO l vn1).2.2 (nI 59) = (true, (kRO l vn1).2.2 + 1) from if_pos c63] at hord1
              refine ks_pick [0, 1] [(0, _), (1, _)] rfl ?_
              exact ks_cv (ih vf1 _ _ _ _ xh5 (by rw [List.length_append]; exact hord1) hpad hF (by rw [List.length_append]; simp; omega) (by rw [List.length_append]; simp; omega) (hfit.snoc (hq21 (Bool.not_eq_false _ ▸ c24))) hinv (by omega)) rfl rfl rfl
            · skip
              have c63 : ¬ l.getD (kRO l vn1).2.2 (nI 0) = nI 59 := fun q => absurd c63 (by rw [show kSg l (kRO l vn1).2.2 (nI 59) = (true, (kRO l vn1).2.2 + 1) from if_pos q]; exact kB1_t)
              rw [if_neg c63] at hinv
              rw [show kSg l (kRO l vn1).2.2 (nI 59) = (false, (kRO l vn1).2.2) from if_neg c63] at hord1 hO
              refine ks_aload_n hκ 66 0 dX1_read_66 rfl ?_
              refine ks_get hκ 67 dX1_read_67 kf_X1_22 hO rfl ?_
              refine ks_iret hκ 70 hRt dX1_read_70 (by decide) (by decide) rfl ?_
              refine ⟨_, rfl, by rw [← hinv], ⟨LT2, PT2, _, by rw [← hinv, List.length_append]; exact hord1, by rw [← hinv]; exact hfit.snoc (hq21 (Bool.not_eq_false _ ▸ c24))⟩, hF⟩
          · skip
            have c50 := mt (nI_ltI (by omega) (by omega)).mpr c50
            rw [if_pos (show l.length ≤ (kRO l vn1).2.2 by omega)] at hinv
            refine ks_bipush hκ 53 (-6) dX1_read_53 kq_bm6 ?_
            refine ks_iret hκ 55 hRt dX1_read_55 (by decide) (by decide) rfl ?_
            refine ⟨_, rfl, by rw [← hinv], ⟨LT2, PT2, (kRO l vn1).2.2, by rw [← hinv, List.length_append]; exact ⟨hO, hL, hP⟩, by rw [← hinv]; exact hfit.snoc (hq21 (Bool.not_eq_false _ ▸ c24))⟩, hF⟩
        · skip
          have c24 := kB1_c0 c24
          rw [if_pos c24] at hinv
          refine ks_aload_n hκ 27 0 dX1_read_27 rfl ?_
          refine ks_get hκ 28 dX1_read_28 kf_X1_22 hO rfl ?_
          refine ks_iret hκ 31 hRt dX1_read_31 (by decide) (by decide) rfl ?_
          refine ⟨_, rfl, by rw [← hinv], ⟨LT2, PT2, _, by rw [← hinv]; exact hord1, by rw [← hinv]; exact hfit⟩, hF⟩
  refine ks_pick [0, 1] [(0, _), (1, _)] rfl ?_
  exact ks_cv (L10 _ 27 0 _ _ [] xh2 ⟨hO, hL, hP⟩ hpad hF rfl (Nat.zero_le _) (fun i o hi => by simp at hi) rfl (Nat.lt_succ_self _)) rfl rfl rfl
set_option maxRecDepth 100000 in
set_option maxHeartbeats 4000000 in
theorem c_Orders_init {g : ks_G} {h : ks_H} {od : Nat} (hO : h[od]? = some (ks_O 1 [.null, .null, .int 0, .int 0])) (hlen : h.length = od + 1) : ks_Met g (yX1_init, cX1_init, 1, none) 1 2 108 [ks_ref g od] h (ks_Pv (fun h' => kOrdR g h' od (fun _ => 0) (fun _ => 0) 0 0 ∧ ks_Ex h h' od ∧ h'.length = od + 3)) := by
  refine ks_intro (by decide) (Nat.le_of_ble_eq_true rfl) (fun κ hκ hRt => ?_)
  refine ks_cv (ls := [(0, ks_ref g od)]) ?_ rfl rfl rfl
  have hX : ks_Ex h h od := ks_Ex.rf
  refine ks_aload_n hκ 0 0 dX1_init_0 rfl ?_
  refine ks_objInit hκ 1 dX1_init_1 kj_X1_3 ku_oi ku_oc (by decide) (Nat.le_of_ble_eq_true rfl) ?_
  refine ks_aload_n hκ 4 0 dX1_init_4 rfl ?_
  refine ks_bipush hκ 5 (nI 27) dX1_init_5 kq_b27 ?_
  refine ks_newiB hκ 7 hlen dX1_init_7 (by decide) (by decide) (by decide) (fun xh1 exh1 => ?_)
  replace hO := ks_gb exh1 hO
  have hL := ks_ga exh1 hlen
  replace hX := ks_Ex.ps hX exh1 (by omega)
  replace hlen := ks_gl exh1 hlen
  clear exh1
  refine ks_putT hκ 9 [_, _, _, _] dX1_init_9 rfl kf_X1_9 hO rfl rfl (Nat.le_of_ble_eq_true rfl) rfl ?_
  refine ks_gen (fun xh2 exh2 => ?_)
  replace hO := ks_gs exh2 hO
  replace hL := ks_gn exh2 (ks_nb (b := od) (i := 0) (j := 1) rfl) hL
  replace hX := ks_Ex.st hX exh2 (by omega)
  replace hlen := ks_gz exh2 hlen
  clear exh2
  refine ks_aload_n hκ 12 0 dX1_init_12 rfl ?_
  refine ks_bipush hκ 13 (nI 81) dX1_init_13 kq_b81 ?_
  refine ks_newiB hκ 15 hlen dX1_init_15 (by decide) (by decide) (by decide) (fun xh3 exh3 => ?_)
  replace hO := ks_gb exh3 hO
  replace hL := ks_gb exh3 hL
  have hP := ks_ga exh3 hlen
  replace hX := ks_Ex.ps hX exh3 (by omega)
  replace hlen := ks_gl exh3 hlen
  clear exh3
  refine ks_putT hκ 17 [_, _, _, _] dX1_init_17 rfl kf_X1_15 hO rfl rfl (Nat.le_of_ble_eq_true rfl) rfl ?_
  refine ks_gen (fun xh4 exh4 => ?_)
  replace hO := ks_gs exh4 hO
  replace hL := ks_gn exh4 (ks_nb (b := od) (i := 0) (j := 1) rfl) hL
  replace hP := ks_gn exh4 (ks_nb (b := od) (i := 0) (j := 2) rfl) hP
  replace hX := ks_Ex.st hX exh4 (by omega)
  replace hlen := ks_gz exh4 hlen
  clear exh4
  refine ks_aload_n hκ 20 0 dX1_init_20 rfl ?_
  refine ks_iconst hκ 21 (nI 0) dX1_init_21 kq_i0 ?_
  refine ks_putS hκ 22 [_, _, _, _] dX1_init_22 kf_X1_18 hO rfl rfl (Nat.le_of_ble_eq_true rfl) rfl ?_
  refine ks_gen (fun xh5 exh5 => ?_)
  replace hO := ks_gs exh5 hO
  replace hL := ks_gn exh5 (ks_nb (b := od) (i := 0) (j := 1) rfl) hL
  replace hP := ks_gn exh5 (ks_nb (b := od) (i := 0) (j := 2) rfl) hP
  replace hX := ks_Ex.st hX exh5 (by omega)
  replace hlen := ks_gz exh5 hlen
  clear exh5
  refine ks_aload_n hκ 25 0 dX1_init_25 rfl ?_
  refine ks_iconst hκ 26 (nI 0) dX1_init_26 kq_i0 ?_
  refine ks_putS hκ 27 [_, _, _, _] dX1_init_27 kf_X1_22 hO rfl rfl (Nat.le_of_ble_eq_true rfl) rfl ?_
  refine ks_gen (fun xh6 exh6 => ?_)
  replace hO := ks_gs exh6 hO
  replace hL := ks_gn exh6 (ks_nb (b := od) (i := 0) (j := 1) rfl) hL
  replace hP := ks_gn exh6 (ks_nb (b := od) (i := 0) (j := 2) rfl) hP
  replace hX := ks_Ex.st hX exh6 (by omega)
  replace hlen := ks_gz exh6 hlen
  clear exh6
  refine ks_vret hκ 30 hRt dX1_init_30 (by decide) (by decide) ?_
  exact ⟨rfl, ⟨hO, hL, hP⟩, hX, hlen⟩
