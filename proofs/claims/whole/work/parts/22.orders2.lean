
/-! ORDERS: an order, a text of orders -/
abbrev kO : Type := Int32 × Int32 × Int32 × Int32
theorem kRD_le (l : List Int32) (n : Nat) : n ≤ (kRD l n).2.2 ∧ (kRD l n).2.2 ≤ n + 1 := by
  have h1 := kDg_le l n
  unfold kRD
  split <;> exact h1
theorem kRN_le (l : List Int32) (n : Nat) : n ≤ (kRN l n).2.2 ∧ (kRN l n).2.2 ≤ n + 2 := by
  have h1 := kNm_le l n
  unfold kRN
  split <;> exact h1
theorem kRB_le (l : List Int32) (n : Nat) : n ≤ (kRB l n).2.2 ∧ (kRB l n).2.2 ≤ n + 3 := by
  have h1 := kNm_le l (n + 1)
  unfold kRB
  split
  · split <;> exact ⟨by simp only; omega, by simp only; omega⟩
  · split
    · split <;> exact ⟨by simp only; omega, by simp only; omega⟩
    · exact ⟨Nat.le_refl _, by simp only; omega⟩
theorem kSg_le (l : List Int32) (n : Nat) (s : Int32) : n ≤ (kSg l n s).2 ∧ (kSg l n s).2 ≤ n + 1 := by
  unfold kSg
  split
  · exact ⟨Nat.le_succ _, Nat.le_refl _⟩
  · exact ⟨Nat.le_refl _, Nat.le_succ _⟩
theorem kB1_c0 {b : Bool} (h : kB1 b = 0) : b = false := kB1_0.mp h
theorem kB1_c1 {b : Bool} (h : ¬ kB1 b = 0) : ¬ b = false := mt kB1_0.mpr h
def kRO (l : List Int32) (n : Nat) : Bool × kO × Nat :=
  if kIsLt (l.getD n (nI 0)) = 0 then (false, (nI 0, nI 0, nI 0, nI 0), n)
  else if l.getD n (nI 0) = nI 103 then
    if (kRD l (n + 1)).1 = false then (false, (nI 0, nI 0, nI 0, nI 0), (kRD l (n + 1)).2.2)
    else if (kRB l (kRD l (n + 1)).2.2).1 = false then (false, (nI 0, nI 0, nI 0, nI 0), (kRB l (kRD l (n + 1)).2.2).2.2)
    else (true, (nI 103, (kRD l (n + 1)).2.1, (kRB l (kRD l (n + 1)).2.2).2.1, nI 0), (kRB l (kRD l (n + 1)).2.2).2.2)
  else if l.getD n (nI 0) = nI 110 then
    if (kRD l (n + 1)).1 = false then (false, (nI 0, nI 0, nI 0, nI 0), (kRD l (n + 1)).2.2)
    else (true, (nI 110, (kRD l (n + 1)).2.1, nI 0, nI 0), (kRD l (n + 1)).2.2)
  else if l.getD n (nI 0) = nI 112 then
    if (kRN l (n + 1)).1 = false then (false, (nI 0, nI 0, nI 0, nI 0), (kRN l (n + 1)).2.2)
    else if (kSg l (kRN l (n + 1)).2.2 (nI 58)).1 = false then (false, (nI 0, nI 0, nI 0, nI 0), (kSg l (kRN l (n + 1)).2.2 (nI 58)).2)
    else if (kRD l (kSg l (kRN l (n + 1)).2.2 (nI 58)).2).1 = false then (false, (nI 0, nI 0, nI 0, nI 0), (kRD l (kSg l (kRN l (n + 1)).2.2 (nI 58)).2).2.2)
    else if (kRB l (kRD l (kSg l (kRN l (n + 1)).2.2 (nI 58)).2).2.2).1 = false then (false, (nI 0, nI 0, nI 0, nI 0), (kRB l (kRD l (kSg l (kRN l (n + 1)).2.2 (nI 58)).2).2.2).2.2)
    else (true, (nI 112, (kRN l (n + 1)).2.1, (kRD l (kSg l (kRN l (n + 1)).2.2 (nI 58)).2).2.1, (kRB l (kRD l (kSg l (kRN l (n + 1)).2.2 (nI 58)).2).2.2).2.1), (kRB l (kRD l (kSg l (kRN l (n + 1)).2.2 (nI 58)).2).2.2).2.2)
  else if l.getD n (nI 0) = nI 120 then
    if (kRN l (n + 1)).1 = false then (false, (nI 0, nI 0, nI 0, nI 0), (kRN l (n + 1)).2.2)
    else if (kSg l (kRN l (n + 1)).2.2 (nI 46)).1 = false then (false, (nI 0, nI 0, nI 0, nI 0), (kSg l (kRN l (n + 1)).2.2 (nI 46)).2)
    else if (kRD l (kSg l (kRN l (n + 1)).2.2 (nI 46)).2).1 = false then (false, (nI 0, nI 0, nI 0, nI 0), (kRD l (kSg l (kRN l (n + 1)).2.2 (nI 46)).2).2.2)
    else (true, (nI 120, (kRN l (n + 1)).2.1, (kRD l (kSg l (kRN l (n + 1)).2.2 (nI 46)).2).2.1, nI 0), (kRD l (kSg l (kRN l (n + 1)).2.2 (nI 46)).2).2.2)
  else
    if (kRN l (n + 1)).1 = false then (false, (nI 0, nI 0, nI 0, nI 0), (kRN l (n + 1)).2.2)
    else (true, (l.getD n (nI 0), (kRN l (n + 1)).2.1, nI 0, nI 0), (kRN l (n + 1)).2.2)
/-- the parts of an order that count -/
def kFit (o : kO) (x a b c : Int32) : Prop := x = o.1 ∧ a = o.2.1 ∧ ((o.1 = nI 103 ∨ o.1 = nI 112 ∨ o.1 = nI 120) → b = o.2.2.1) ∧ (o.1 = nI 112 → c = o.2.2.2)
set_option maxRecDepth 100000 in
set_option maxHeartbeats 4000000 in
theorem c_Orders_letter {g : ks_G} {h : ks_H} {od vs vn vi : Nat} {LT PT : Nat → Int32} (hord : kOrdR g h od LT PT vs vn) (hvi : vi < 27) : ks_Met g (yX1_letter, cX1_letter, 2, some .int) 0 0 0 [ks_ref g od, .int (nI vi)] h (ks_Pi (LT vi) h) := by
  have hord0 := hord
  obtain ⟨hO, hL, hP⟩ := hord
  refine ks_intro (by decide) (Nat.le_of_ble_eq_true rfl) (fun κ hκ hRt => ?_)
  refine ks_cv (ls := [(0, ks_ref g od), (1, .int (nI vi))]) ?_ rfl rfl rfl
  refine ks_iload_n hκ 0 1 dX1_letter_0 rfl ?_
  refine ks_if_lt hκ 1 19 dX1_letter_1 rfl (fun c1 => ?_) (fun c1 => ?_)
  · skip
    exact absurd c1 (ks_lt0 (by omega))
  · skip
    refine ks_iload_n hκ 4 1 dX1_letter_4 rfl ?_
    refine ks_bipush hκ 5 (nI 27) dX1_letter_5 kq_b27 ?_
    refine ks_icmp_ge hκ 7 19 dX1_letter_7 rfl (fun c7 => ?_) (fun c7 => ?_)
    · exfalso
      have c7 := (nI_leI (by omega) (by omega)).mp c7
      omega
    · skip
      have c7 := mt (nI_leI (by omega) (by omega)).mpr c7
      refine ks_aload_n hκ 10 0 dX1_letter_10 rfl ?_
      refine ks_get hκ 11 dX1_letter_11 kf_X1_9 hO rfl ?_
      refine ks_iload_n hκ 14 1 dX1_letter_14 rfl ?_
      refine ks_iald hκ 15 (vi) dX1_letter_15 hL rfl (by omega) (by decide) ?_
      refine ks_goto hκ 16 20 dX1_letter_16 rfl ?_
      refine ks_iret hκ 20 hRt dX1_letter_20 (by decide) (by decide) rfl ?_
      exact ⟨rfl, rfl⟩
set_option maxRecDepth 100000 in
set_option maxHeartbeats 4000000 in
theorem c_Orders_part {g : ks_G} {h : ks_H} {od vs vn vi vp : Nat} {LT PT : Nat → Int32} (hord : kOrdR g h od LT PT vs vn) (hvi : vi < 27) (hvp : vp < 3) : ks_Met g (yX1_part, cX1_part, 3, some .int) 1 0 0 [ks_ref g od, .int (nI vi), .int (nI vp)] h (ks_Pi (PT (vi * 3 + vp)) h) := by
  have hord0 := hord
  obtain ⟨hO, hL, hP⟩ := hord
  refine ks_intro (by decide) (Nat.le_of_ble_eq_true rfl) (fun κ hκ hRt => ?_)
  refine ks_cv (ls := [(0, ks_ref g od), (1, .int (nI vi)), (2, .int (nI vp))]) ?_ rfl rfl rfl
  refine ks_iload_n hκ 0 1 dX1_part_0 rfl ?_
  refine ks_iload_n hκ 1 2 dX1_part_1 rfl ?_
  refine ks_pureS2 hκ 2 dX1_part_2 kc_X1_25 (c_Orders_hasPart) (by decide) (Nat.le_of_ble_eq_true rfl) (by decide) (by decide) ?_
  refine ks_if_eq hκ 5 21 dX1_part_5 rfl (fun c5 => ?_) (fun c5 => ?_)
  · exfalso
    exact absurd c5 (by rw [kHP_1 hvi hvp]; decide)
  · skip
    refine ks_aload_n hκ 8 0 dX1_part_8 rfl ?_
    refine ks_get hκ 9 dX1_part_9 kf_X1_15 hO rfl ?_
    refine ks_iload_n hκ 12 1 dX1_part_12 rfl ?_
    refine ks_iconst hκ 13 (nI 3) dX1_part_13 kq_i3 ?_
    refine ks_imulN hκ 14 dX1_part_14 ?_
    refine ks_iload_n hκ 15 2 dX1_part_15 rfl ?_
    refine ks_iaddN hκ 16 dX1_part_16 ?_
    refine ks_iald hκ 17 (((vi * 3) + vp)) dX1_part_17 hP rfl (by omega) (by decide) ?_
    refine ks_goto hκ 18 22 dX1_part_18 rfl ?_
    refine ks_iret hκ 22 hRt dX1_part_22 (by decide) (by decide) rfl ?_
    exact ⟨rfl, rfl⟩
set_option maxRecDepth 100000 in
set_option maxHeartbeats 4000000 in
theorem c_Orders_readOrder {g : ks_G} {h : ks_H} {od pd vs vn : Nat} {LT PT : Nat → Int32} {l : List Int32} (hord : kOrdR g h od LT PT vs vn) (hpad : kPad g h pd l) (hap : od + 3 ≤ pd ∨ pd + 2 ≤ od) (hvn : vn < 900) (hvs : vs < 27) : ks_Met g (yX1_readOrder, cX1_readOrder, 3, some .boolean) 4 0 0 [ks_ref g od, ks_ref g pd] h (ks_Ph (fun r h' => r = kB1 (kRO l vn).1 ∧ (∃ LT1 PT1, kOrdR g h' od LT1 PT1 vs (kRO l vn).2.2 ∧ (∀ i, i < vs → LT1 i = LT i) ∧ (∀ i, i < vs * 3 → PT1 i = PT i) ∧ ((kRO l vn).1 = true → kFit (kRO l vn).2.1 (LT1 vs) (PT1 (vs * 3)) (PT1 (vs * 3 + 1)) (PT1 (vs * 3 + 2)))) ∧ ks_Fr h h' od (od + 3))) := by
  have hord0 := hord
  obtain ⟨hO, hL, hP⟩ := hord
  obtain ⟨_, hD, -⟩ := id hpad
  refine ks_intro (by decide) (Nat.le_of_ble_eq_true rfl) (fun κ hκ hRt => ?_)
  refine ks_cv (ls := [(0, ks_ref g od), (1, ks_ref g pd)]) ?_ rfl rfl rfl
  have hF : ks_Fr h h od (od + 3) := ks_Fr.rf
  refine ks_aload_n hκ 0 1 dX1_readOrder_0 rfl ?_
  refine ks_aload_n hκ 1 0 dX1_readOrder_1 rfl ?_
  refine ks_get hκ 2 dX1_readOrder_2 kf_X1_22 hO rfl ?_
  refine ks_pureV1 hκ 5 dX1_readOrder_5 kc_X1_42 (c_Pad_signAt hpad (by omega)) hD rfl (by decide) (Nat.le_of_ble_eq_true rfl) (by decide) (by decide) ?_
  refine ks_istore_n hκ 8 2 [(2, _), (0, _), (1, _)] dX1_readOrder_8 rfl (by decide) rfl ?_
  refine ks_iload_n hκ 9 0 dX1_readOrder_9 rfl ?_
  refine ks_pureS1 hκ 10 dX1_readOrder_10 kc_X1_46 (c_Orders_isLetter) (by decide) (Nat.le_of_ble_eq_true rfl) (by decide) (by decide) ?_
  refine ks_if_eq hκ 13 25 dX1_readOrder_13 rfl (fun c13 => ?_) (fun c13 => ?_)
  · skip
    refine ks_iconst hκ 25 (nI 0) dX1_readOrder_25 kq_i0 ?_
    refine ks_iret hκ 26 hRt dX1_readOrder_26 (by decide) (by decide) (by decide) ?_
    have hq : kRO l vn = (false, (nI 0, nI 0, nI 0, nI 0), vn) := if_pos c13
    rw [hq]
    exact ⟨_, rfl, rfl, ⟨_, _, hord0, fun _ _ => rfl, fun _ _ => rfl, fun q => by cases q⟩, hF⟩
  · skip
    refine ks_aload_n hκ 16 1 dX1_readOrder_16 rfl ?_
    refine ks_get hκ 17 dX1_readOrder_17 kf_X1_18 hO rfl ?_
    refine ks_bipush hκ 20 (nI 27) dX1_readOrder_20 kq_b27 ?_
    refine ks_icmp_lt hκ 22 27 dX1_readOrder_22 rfl (fun c22 => ?_) (fun c22 => ?_)
    · skip
      have c22 := (nI_ltI (by omega) (by omega)).mp c22
      refine ks_aload_n hκ 27 1 dX1_readOrder_27 rfl ?_
      refine ks_dup hκ 28 dX1_readOrder_28 rfl ?_
      refine ks_get hκ 29 dX1_readOrder_29 kf_X1_22 hO rfl ?_
      refine ks_iconst hκ 32 (nI 1) dX1_readOrder_32 kq_i1 ?_
      refine ks_iaddN hκ 33 dX1_readOrder_33 ?_
      refine ks_putS hκ 34 [_, _, _, _] dX1_readOrder_34 kf_X1_22 hO rfl rfl (Nat.le_of_ble_eq_true rfl) rfl ?_
      refine ks_gen (fun xh1 exh1 => ?_)
      replace hO := ks_gs exh1 hO
      replace hL := ks_gn exh1 (ks_nb (b := od) (i := 0) (j := 1) rfl) hL
      replace hP := ks_gn exh1 (ks_nb (b := od) (i := 0) (j := 2) rfl) hP
      replace hD := ks_gn exh1 (by omega) hD
      replace hpad := hpad.fr (ks_Fr.one exh1) (by omega)
      replace hF := ks_Fr.st hF exh1 (by omega) (by omega)
      clear exh1
      refine ks_aload_n hκ 37 1 dX1_readOrder_37 rfl ?_
      refine ks_get hκ 38 dX1_readOrder_38 kf_X1_9 hO rfl ?_
      refine ks_aload_n hκ 41 1 dX1_readOrder_41 rfl ?_
      refine ks_get hκ 42 dX1_readOrder_42 kf_X1_18 hO rfl ?_
      refine ks_iload_n hκ 45 0 dX1_readOrder_45 rfl ?_
      refine ks_iast hκ 46 (vs) dX1_readOrder_46 hL rfl (by omega) (by decide) ?_
      refine ks_gen (fun xh2 exh2 => ?_)
      replace hO := ks_gn exh2 (ks_nb (b := od) (i := 1) (j := 0) rfl) hO
      replace hL := ks_gs exh2 hL
      replace hP := ks_gn exh2 (ks_nb (b := od) (i := 1) (j := 2) rfl) hP
      replace hD := ks_gn exh2 (by omega) hD
      replace hpad := hpad.fr (ks_Fr.one exh2) (by omega)
      replace hF := ks_Fr.st hF exh2 (by omega) (by omega)
      clear exh2
      have hord : kOrdR g _ od _ PT vs (vn + 1) := ⟨hO, hL, hP⟩
      obtain ⟨PT0, hPT0⟩ : ∃ z, z = PT := ⟨_, rfl⟩
      refine ks_iload_n hκ 47 0 dX1_readOrder_47 rfl ?_
      by_cases hs48_103 : (l.getD vn (nI 0)) = nI 103
      · skip
        refine ks_top (nI 103) hs48_103 ?_
        refine ks_lookup hκ 48 92 dX1_readOrder_48 (off := 44) (by decide) (by decide) rfl ?_
        refine ks_aload_n hκ 92 1 dX1_readOrder_92 rfl ?_
        refine ks_aload_n hκ 93 2 dX1_readOrder_93 rfl ?_
        refine ks_iconst hκ 94 (nI 0) dX1_readOrder_94 kq_i0 ?_
        refine ks_intcV2 hκ 95 dX1_readOrder_95 kc_X1_50 (c_Orders_readDigit (vp := 0) hord hpad hap (by omega) hvs (by decide)) hO rfl (by decide) (Nat.le_of_ble_eq_true rfl) (by decide) (by decide) (fun r95 xh3 hp95 => ?_)
        obtain ⟨rfl, ⟨PT95, hord, hk95, hv95⟩, hF9⟩ := hp95
        have hord1 := hord
        obtain ⟨hO, hL, hP⟩ := hord
        have hb95 := kRD_le l (vn + 1)
        replace hD := hF9.at hD (by omega)
        replace hpad := hpad.fr hF9 (by omega)
        replace hF := hF.tr (hF9.wd (by omega) (by omega))
        refine ks_if_eq hκ 98 114 dX1_readOrder_98 rfl (fun c98 => ?_) (fun c98 => ?_)
        · skip
          have c98 := kB1_c0 c98
          refine ks_iconst hκ 114 (nI 0) dX1_readOrder_114 kq_i0 ?_
          refine ks_iret hκ 115 hRt dX1_readOrder_115 (by decide) (by decide) (by decide) ?_
          refine ⟨_, rfl, ?_⟩
          first
            | (have hq := show kRO l vn = _ from (if_neg c13).trans ((if_pos hs48_103).trans (if_pos c98)); exact ⟨by rw [hq]; rfl, ⟨_, _, by rw [hq]; exact hord1, fun i hi => pk_un (by omega), fun i hi => hk95 i (by omega), fun q => by rw [hq] at q; cases q⟩, hF⟩)
            | (have hq := show kRO l vn = _ from (if_neg c13).trans ((if_pos hs48_103).trans ((if_neg c98).trans (if_pos c107))); exact ⟨by rw [hq]; rfl, ⟨_, _, by rw [hq]; exact hord1, fun i hi => pk_un (by omega), fun i hi => (hk104 i (by omega)).trans (hk95 i (by omega)), fun q => by rw [hq] at q; cases q⟩, hF⟩)
            | (have hq := show kRO l vn = _ from (if_neg c13).trans ((if_pos hs48_103).trans ((if_neg c98).trans (if_neg c107))); exact ⟨by rw [hq]; rfl, ⟨_, _, by rw [hq]; exact hord1, fun i hi => pk_un (by omega), fun i hi => (hk104 i (by omega)).trans (hk95 i (by omega)), fun _ => by rw [hq]; exact ⟨pk_us.trans hs48_103, (hk104 _ (by omega)).trans (hv95 (Bool.not_eq_false _ ▸ c98)), fun _ => hv104 (Bool.not_eq_false _ ▸ c107), fun q => absurd q (show ¬ nI 103 = nI 112 by decide)⟩⟩, hF⟩)
        · skip
          have c98 := kB1_c1 c98
          refine ks_aload_n hκ 101 1 dX1_readOrder_101 rfl ?_
          refine ks_aload_n hκ 102 2 dX1_readOrder_102 rfl ?_
          refine ks_iconst hκ 103 (nI 1) dX1_readOrder_103 kq_i1 ?_
          refine ks_intcV2 hκ 104 dX1_readOrder_104 kc_X1_53 (c_Orders_readBy (vp := 1) hord1 hpad hap (by omega) hvs (by decide)) hO rfl (by decide) (Nat.le_of_ble_eq_true rfl) (by decide) (by decide) (fun r104 xh4 hp104 => ?_)
          obtain ⟨rfl, ⟨PT104, hord, hk104, hv104⟩, hF9⟩ := hp104
          have hord1 := hord
          obtain ⟨hO, hL, hP⟩ := hord
          have hb104 := kRB_le l ((kRD l (vn + 1)).2.2)
          replace hD := hF9.at hD (by omega)
          replace hpad := hpad.fr hF9 (by omega)
          replace hF := hF.tr (hF9.wd (by omega) (by omega))
          refine ks_if_eq hκ 107 114 dX1_readOrder_107 rfl (fun c107 => ?_) (fun c107 => ?_)
          · skip
            have c107 := kB1_c0 c107
            refine ks_iconst hκ 114 (nI 0) dX1_readOrder_114 kq_i0 ?_
            refine ks_iret hκ 115 hRt dX1_readOrder_115 (by decide) (by decide) (by decide) ?_
            refine ⟨_, rfl, ?_⟩
            first
              | (have hq := show kRO l vn = _ from (if_neg c13).trans ((if_pos hs48_103).trans (if_pos c98)); exact ⟨by rw [hq]; rfl, ⟨_, _, by rw [hq]; exact hord1, fun i hi => pk_un (by omega), fun i hi => hk95 i (by omega), fun q => by rw [hq] at q; cases q⟩, hF⟩)
              | (have hq := show kRO l vn = _ from (if_neg c13).trans ((if_pos hs48_103).trans ((if_neg c98).trans (if_pos c107))); exact ⟨by rw [hq]; rfl, ⟨_, _, by rw [hq]; exact hord1, fun i hi => pk_un (by omega), fun i hi => (hk104 i (by omega)).trans (hk95 i (by omega)), fun q => by rw [hq] at q; cases q⟩, hF⟩)
              | (have hq := show kRO l vn = _ from (if_neg c13).trans ((if_pos hs48_103).trans ((if_neg c98).trans (if_neg c107))); exact ⟨by rw [hq]; rfl, ⟨_, _, by rw [hq]; exact hord1, fun i hi => pk_un (by omega), fun i hi => (hk104 i (by omega)).trans (hk95 i (by omega)), fun _ => by rw [hq]; exact ⟨pk_us.trans hs48_103, (hk104 _ (by omega)).trans (hv95 (Bool.not_eq_false _ ▸ c98)), fun _ => hv104 (Bool.not_eq_false _ ▸ c107), fun q => absurd q (show ¬ nI 103 = nI 112 by decide)⟩⟩, hF⟩)
          · skip
            have c107 := kB1_c1 c107
            refine ks_iconst hκ 110 (nI 1) dX1_readOrder_110 kq_i1 ?_
            refine ks_goto hκ 111 115 dX1_readOrder_111 rfl ?_
            refine ks_iret hκ 115 hRt dX1_readOrder_115 (by decide) (by decide) (by decide) ?_
            refine ⟨_, rfl, ?_⟩
            first
              | (have hq := show kRO l vn = _ from (if_neg c13).trans ((if_pos hs48_103).trans (if_pos c98)); exact ⟨by rw [hq]; rfl, ⟨_, _, by rw [hq]; exact hord1, fun i hi => pk_un (by omega), fun i hi => hk95 i (by omega), fun q => by rw [hq] at q; cases q⟩, hF⟩)
              | (have hq := show kRO l vn = _ from (if_neg c13).trans ((if_pos hs48_103).trans ((if_neg c98).trans (if_pos c107))); exact ⟨by rw [hq]; rfl, ⟨_, _, by rw [hq]; exact hord1, fun i hi => pk_un (by omega), fun i hi => (hk104 i (by omega)).trans (hk95 i (by omega)), fun q => by rw [hq] at q; cases q⟩, hF⟩)
              | (have hq := show kRO l vn = _ from (if_neg c13).trans ((if_pos hs48_103).trans ((if_neg c98).trans (if_neg c107))); exact ⟨by rw [hq]; rfl, ⟨_, _, by rw [hq]; exact hord1, fun i hi => pk_un (by omega), fun i hi => (hk104 i (by omega)).trans (hk95 i (by omega)), fun _ => by rw [hq]; exact ⟨pk_us.trans hs48_103, (hk104 _ (by omega)).trans (hv95 (Bool.not_eq_false _ ▸ c98)), fun _ => hv104 (Bool.not_eq_false _ ▸ c107), fun q => absurd q (show ¬ nI 103 = nI 112 by decide)⟩⟩, hF⟩)
      · skip
        by_cases hs48_110 : (l.getD vn (nI 0)) = nI 110
        · skip
          refine ks_top (nI 110) hs48_110 ?_
          refine ks_lookup hκ 48 116 dX1_readOrder_48 (off := 68) (by decide) (by decide) rfl ?_
          refine ks_aload_n hκ 116 1 dX1_readOrder_116 rfl ?_
          refine ks_aload_n hκ 117 2 dX1_readOrder_117 rfl ?_
          refine ks_iconst hκ 118 (nI 0) dX1_readOrder_118 kq_i0 ?_
          refine ks_intcV2 hκ 119 dX1_readOrder_119 kc_X1_50 (c_Orders_readDigit (vp := 0) hord hpad hap (by omega) hvs (by decide)) hO rfl (by decide) (Nat.le_of_ble_eq_true rfl) (by decide) (by decide) (fun r119 xh5 hp119 => ?_)
          obtain ⟨rfl, ⟨PT119, hord, hk119, hv119⟩, hF9⟩ := hp119
          have hord1 := hord
          obtain ⟨hO, hL, hP⟩ := hord
          have hb119 := kRD_le l (vn + 1)
          replace hD := hF9.at hD (by omega)
          replace hpad := hpad.fr hF9 (by omega)
          replace hF := hF.tr (hF9.wd (by omega) (by omega))
          refine ks_iret hκ 122 hRt dX1_readOrder_122 (by decide) (by decide) (by cases (kRD l (vn + 1)).1 <;> decide) ?_
          refine ⟨_, rfl, ?_⟩
          by_cases cz : (kRD l (vn + 1)).1 = false
          · have hq := show kRO l vn = _ from (if_neg c13).trans ((if_neg hs48_103).trans ((if_pos hs48_110).trans (if_pos cz)))
            exact ⟨by rw [hq, cz], ⟨_, _, by rw [hq]; exact hord1, fun i hi => pk_un (by omega), fun i hi => hk119 i (by omega), fun q => by rw [hq] at q; cases q⟩, hF⟩
          · have hq := show kRO l vn = _ from (if_neg c13).trans ((if_neg hs48_103).trans ((if_pos hs48_110).trans (if_neg cz)))
            have cz1 : (kRD l (vn + 1)).1 = true := Bool.not_eq_false _ ▸ cz
            exact ⟨by rw [hq, cz1], ⟨_, _, by rw [hq]; exact hord1, fun i hi => pk_un (by omega), fun i hi => hk119 i (by omega), fun _ => by rw [hq]; exact ⟨pk_us.trans hs48_110, hv119 cz1, fun q => absurd q (show ¬ (nI 110 = nI 103 ∨ nI 110 = nI 112 ∨ nI 110 = nI 120) by decide), fun q => absurd q (show ¬ nI 110 = nI 112 by decide)⟩⟩, hF⟩
        · skip
          by_cases hs48_112 : (l.getD vn (nI 0)) = nI 112
          · skip
            refine ks_top (nI 112) hs48_112 ?_
            refine ks_lookup hκ 48 157 dX1_readOrder_48 (off := 109) (by decide) (by decide) rfl ?_
            refine ks_aload_n hκ 157 1 dX1_readOrder_157 rfl ?_
            refine ks_aload_n hκ 158 2 dX1_readOrder_158 rfl ?_
            refine ks_iconst hκ 159 (nI 0) dX1_readOrder_159 kq_i0 ?_
            refine ks_intcV2 hκ 160 dX1_readOrder_160 kc_X1_56 (c_Orders_readNumber (vp := 0) hord hpad hap (by omega) hvs (by decide)) hO rfl (by decide) (Nat.le_of_ble_eq_true rfl) (by decide) (by decide) (fun r160 xh6 hp160 => ?_)
            obtain ⟨rfl, ⟨PT160, hord, hk160, hv160⟩, hF9⟩ := hp160
            have hord1 := hord
            obtain ⟨hO, hL, hP⟩ := hord
            have hb160 := kRN_le l (vn + 1)
            replace hD := hF9.at hD (by omega)
            replace hpad := hpad.fr hF9 (by omega)
            replace hF := hF.tr (hF9.wd (by omega) (by omega))
            refine ks_if_eq hκ 163 198 dX1_readOrder_163 rfl (fun c163 => ?_) (fun c163 => ?_)
            · skip
              have c163 := kB1_c0 c163
              refine ks_iconst hκ 198 (nI 0) dX1_readOrder_198 kq_i0 ?_
              refine ks_iret hκ 199 hRt dX1_readOrder_199 (by decide) (by decide) (by decide) ?_
              refine ⟨_, rfl, ?_⟩
              first
                | (have hq := show kRO l vn = _ from (if_neg c13).trans ((if_neg hs48_103).trans ((if_neg hs48_110).trans ((if_pos hs48_112).trans (if_pos c163)))); exact ⟨by rw [hq]; rfl, ⟨_, _, by rw [hq]; exact hord1, fun i hi => pk_un (by omega), fun i hi => hk160 i (by omega), fun q => by rw [hq] at q; cases q⟩, hF⟩)
                | (have hq := show kRO l vn = _ from (if_neg c13).trans ((if_neg hs48_103).trans ((if_neg hs48_110).trans ((if_pos hs48_112).trans ((if_neg c163).trans (if_pos c173))))); exact ⟨by rw [hq]; rfl, ⟨_, _, by rw [hq]; exact hord1, fun i hi => pk_un (by omega), fun i hi => hk160 i (by omega), fun q => by rw [hq] at q; cases q⟩, hF⟩)
                | (have hq := show kRO l vn = _ from (if_neg c13).trans ((if_neg hs48_103).trans ((if_neg hs48_110).trans ((if_pos hs48_112).trans ((if_neg c163).trans ((if_neg c173).trans (if_pos c182)))))); exact ⟨by rw [hq]; rfl, ⟨_, _, by rw [hq]; exact hord1, fun i hi => pk_un (by omega), fun i hi => (hk179 i (by omega)).trans (hk160 i (by omega)), fun q => by rw [hq] at q; cases q⟩, hF⟩)
                | (have hq := show kRO l vn = _ from (if_neg c13).trans ((if_neg hs48_103).trans ((if_neg hs48_110).trans ((if_pos hs48_112).trans ((if_neg c163).trans ((if_neg c173).trans ((if_neg c182).trans (if_pos c191))))))); exact ⟨by rw [hq]; rfl, ⟨_, _, by rw [hq]; exact hord1, fun i hi => pk_un (by omega), fun i hi => ((hk188 i (by omega)).trans (hk179 i (by omega))).trans (hk160 i (by omega)), fun q => by rw [hq] at q; cases q⟩, hF⟩)
                | (have hq := show kRO l vn = _ from (if_neg c13).trans ((if_neg hs48_103).trans ((if_neg hs48_110).trans ((if_pos hs48_112).trans ((if_neg c163).trans ((if_neg c173).trans ((if_neg c182).trans (if_neg c191))))))); exact ⟨by rw [hq]; rfl, ⟨_, _, by rw [hq]; exact hord1, fun i hi => pk_un (by omega), fun i hi => ((hk188 i (by omega)).trans (hk179 i (by omega))).trans (hk160 i (by omega)), fun _ => by rw [hq]; exact ⟨pk_us.trans hs48_112, ((hk188 _ (by omega)).trans (hk179 _ (by omega))).trans (hv160 (Bool.not_eq_false _ ▸ c163)), fun _ => (hk188 _ (by omega)).trans (hv179 (Bool.not_eq_false _ ▸ c182)), fun _ => hv188 (Bool.not_eq_false _ ▸ c191)⟩⟩, hF⟩)
            · skip
              have c163 := kB1_c1 c163
              refine ks_aload_n hκ 166 1 dX1_readOrder_166 rfl ?_
              refine ks_aload_n hκ 167 2 dX1_readOrder_167 rfl ?_
              refine ks_bipush hκ 168 (nI 58) dX1_readOrder_168 kq_b58 ?_
              refine ks_intcV2 hκ 170 dX1_readOrder_170 kc_X1_38 (c_Orders_readSign hord1 hpad hap (by omega) (by omega)) hO rfl (by decide) (Nat.le_of_ble_eq_true rfl) (by decide) (by decide) (fun r170 xh7 hp170 => ?_)
              obtain ⟨rfl, hord, hF9⟩ := hp170
              have hord1 := hord
              obtain ⟨hO, hL, hP⟩ := hord
              have hb170 := kSg_le l ((kRN l (vn + 1)).2.2) (nI 58)
              replace hD := hF9.at hD (by omega)
              replace hpad := hpad.fr hF9 (by omega)
              replace hF := hF.tr (hF9.wd (by omega) (by omega))
              refine ks_if_eq hκ 173 198 dX1_readOrder_173 rfl (fun c173 => ?_) (fun c173 => ?_)
              · skip
                have c173 := kB1_c0 c173
                refine ks_iconst hκ 198 (nI 0) dX1_readOrder_198 kq_i0 ?_
                refine ks_iret hκ 199 hRt dX1_readOrder_199 (by decide) (by decide) (by decide) ?_
                refine ⟨_, rfl, ?_⟩
                first
                  | (have hq := show kRO l vn = _ from (if_neg c13).trans ((if_neg hs48_103).trans ((if_neg hs48_110).trans ((if_pos hs48_112).trans (if_pos c163)))); exact ⟨by rw [hq]; rfl, ⟨_, _, by rw [hq]; exact hord1, fun i hi => pk_un (by omega), fun i hi => hk160 i (by omega), fun q => by rw [hq] at q; cases q⟩, hF⟩)
                  | (have hq := show kRO l vn = _ from (if_neg c13).trans ((if_neg hs48_103).trans ((if_neg hs48_110).trans ((if_pos hs48_112).trans ((if_neg c163).trans (if_pos c173))))); exact ⟨by rw [hq]; rfl, ⟨_, _, by rw [hq]; exact hord1, fun i hi => pk_un (by omega), fun i hi => hk160 i (by omega), fun q => by rw [hq] at q; cases q⟩, hF⟩)
                  | (have hq := show kRO l vn = _ from (if_neg c13).trans ((if_neg hs48_103).trans ((if_neg hs48_110).trans ((if_pos hs48_112).trans ((if_neg c163).trans ((if_neg c173).trans (if_pos c182)))))); exact ⟨by rw [hq]; rfl, ⟨_, _, by rw [hq]; exact hord1, fun i hi => pk_un (by omega), fun i hi => (hk179 i (by omega)).trans (hk160 i (by omega)), fun q => by rw [hq] at q; cases q⟩, hF⟩)
                  | (have hq := show kRO l vn = _ from (if_neg c13).trans ((if_neg hs48_103).trans ((if_neg hs48_110).trans ((if_pos hs48_112).trans ((if_neg c163).trans ((if_neg c173).trans ((if_neg c182).trans (if_pos c191))))))); exact ⟨by rw [hq]; rfl, ⟨_, _, by rw [hq]; exact hord1, fun i hi => pk_un (by omega), fun i hi => ((hk188 i (by omega)).trans (hk179 i (by omega))).trans (hk160 i (by omega)), fun q => by rw [hq] at q; cases q⟩, hF⟩)
                  | (have hq := show kRO l vn = _ from (if_neg c13).trans ((if_neg hs48_103).trans ((if_neg hs48_110).trans ((if_pos hs48_112).trans ((if_neg c163).trans ((if_neg c173).trans ((if_neg c182).trans (if_neg c191))))))); exact ⟨by rw [hq]; rfl, ⟨_, _, by rw [hq]; exact hord1, fun i hi => pk_un (by omega), fun i hi => ((hk188 i (by omega)).trans (hk179 i (by omega))).trans (hk160 i (by omega)), fun _ => by rw [hq]; exact ⟨pk_us.trans hs48_112, ((hk188 _ (by omega)).trans (hk179 _ (by omega))).trans (hv160 (Bool.not_eq_false _ ▸ c163)), fun _ => (hk188 _ (by omega)).trans (hv179 (Bool.not_eq_false _ ▸ c182)), fun _ => hv188 (Bool.not_eq_false _ ▸ c191)⟩⟩, hF⟩)
              · skip
                have c173 := kB1_c1 c173
                refine ks_aload_n hκ 176 1 dX1_readOrder_176 rfl ?_
                refine ks_aload_n hκ 177 2 dX1_readOrder_177 rfl ?_
                refine ks_iconst hκ 178 (nI 1) dX1_readOrder_178 kq_i1 ?_
                refine ks_intcV2 hκ 179 dX1_readOrder_179 kc_X1_50 (c_Orders_readDigit (vp := 1) hord1 hpad hap (by omega) hvs (by decide)) hO rfl (by decide) (Nat.le_of_ble_eq_true rfl) (by decide) (by decide) (fun r179 xh8 hp179 => ?_)
                obtain ⟨rfl, ⟨PT179, hord, hk179, hv179⟩, hF9⟩ := hp179
                have hord1 := hord
                obtain ⟨hO, hL, hP⟩ := hord
                have hb179 := kRD_le l ((kSg l ((kRN l (vn + 1)).2.2) (nI 58)).2)
                replace hD := hF9.at hD (by omega)
                replace hpad := hpad.fr hF9 (by omega)
                replace hF := hF.tr (hF9.wd (by omega) (by omega))
                refine ks_if_eq hκ 182 198 dX1_readOrder_182 rfl (fun c182 => ?_) (fun c182 => ?_)
                · skip
                  have c182 := kB1_c0 c182
                  refine ks_iconst hκ 198 (nI 0) dX1_readOrder_198 kq_i0 ?_
                  refine ks_iret hκ 199 hRt dX1_readOrder_199 (by decide) (by decide) (by decide) ?_
                  refine ⟨_, rfl, ?_⟩
                  first
                    | (have hq := show kRO l vn = _ from (if_neg c13).trans ((if_neg hs48_103).trans ((if_neg hs48_110).trans ((if_pos hs48_112).trans (if_pos c163)))); exact ⟨by rw [hq]; rfl, ⟨_, _, by rw [hq]; exact hord1, fun i hi => pk_un (by omega), fun i hi => hk160 i (by omega), fun q => by rw [hq] at q; cases q⟩, hF⟩)
                    | (have hq := show kRO l vn = _ from (if_neg c13).trans ((if_neg hs48_103).trans ((if_neg hs48_110).trans ((if_pos hs48_112).trans ((if_neg c163).trans (if_pos c173))))); exact ⟨by rw [hq]; rfl, ⟨_, _, by rw [hq]; exact hord1, fun i hi => pk_un (by omega), fun i hi => hk160 i (by omega), fun q => by rw [hq] at q; cases q⟩, hF⟩)
                    | (have hq := show kRO l vn = _ from (if_neg c13).trans ((if_neg hs48_103).trans ((if_neg hs48_110).trans ((if_pos hs48_112).trans ((if_neg c163).trans ((if_neg c173).trans (if_pos c182)))))); exact ⟨by rw [hq]; rfl, ⟨_, _, by rw [hq]; exact hord1, fun i hi => pk_un (by omega), fun i hi => (hk179 i (by omega)).trans (hk160 i (by omega)), fun q => by rw [hq] at q; cases q⟩, hF⟩)
                    | (have hq := show kRO l vn = _ from (if_neg c13).trans ((if_neg hs48_103).trans ((if_neg hs48_110).trans ((if_pos hs48_112).trans ((if_neg c163).trans ((if_neg c173).trans ((if_neg c182).trans (if_pos c191))))))); exact ⟨by rw [hq]; rfl, ⟨_, _, by rw [hq]; exact hord1, fun i hi => pk_un (by omega), fun i hi => ((hk188 i (by omega)).trans (hk179 i (by omega))).trans (hk160 i (by omega)), fun q => by rw [hq] at q; cases q⟩, hF⟩)
                    | (have hq := show kRO l vn = _ from (if_neg c13).trans ((if_neg hs48_103).trans ((if_neg hs48_110).trans ((if_pos hs48_112).trans ((if_neg c163).trans ((if_neg c173).trans ((if_neg c182).trans (if_neg c191))))))); exact ⟨by rw [hq]; rfl, ⟨_, _, by rw [hq]; exact hord1, fun i hi => pk_un (by omega), fun i hi => ((hk188 i (by omega)).trans (hk179 i (by omega))).trans (hk160 i (by omega)), fun _ => by rw [hq]; exact ⟨pk_us.trans hs48_112, ((hk188 _ (by omega)).trans (hk179 _ (by omega))).trans (hv160 (Bool.not_eq_false _ ▸ c163)), fun _ => (hk188 _ (by omega)).trans (hv179 (Bool.not_eq_false _ ▸ c182)), fun _ => hv188 (Bool.not_eq_false _ ▸ c191)⟩⟩, hF⟩)
                · skip
                  have c182 := kB1_c1 c182
                  refine ks_aload_n hκ 185 1 dX1_readOrder_185 rfl ?_
                  refine ks_aload_n hκ 186 2 dX1_readOrder_186 rfl ?_
                  refine ks_iconst hκ 187 (nI 2) dX1_readOrder_187 kq_i2 ?_
                  refine ks_intcV2 hκ 188 dX1_readOrder_188 kc_X1_53 (c_Orders_readBy (vp := 2) hord1 hpad hap (by omega) hvs (by decide)) hO rfl (by decide) (Nat.le_of_ble_eq_true rfl) (by decide) (by decide) (fun r188 xh9 hp188 => ?_)
                  obtain ⟨rfl, ⟨PT188, hord, hk188, hv188⟩, hF9⟩ := hp188
                  have hord1 := hord
                  obtain ⟨hO, hL, hP⟩ := hord
                  have hb188 := kRB_le l ((kRD l ((kSg l ((kRN l (vn + 1)).2.2) (nI 58)).2)).2.2)
                  replace hD := hF9.at hD (by omega)
                  replace hpad := hpad.fr hF9 (by omega)
                  replace hF := hF.tr (hF9.wd (by omega) (by omega))
                  refine ks_if_eq hκ 191 198 dX1_readOrder_191 rfl (fun c191 => ?_) (fun c191 => ?_)
                  · skip
                    have c191 := kB1_c0 c191
                    refine ks_iconst hκ 198 (nI 0) dX1_readOrder_198 kq_i0 ?_
                    refine ks_iret hκ 199 hRt dX1_readOrder_199 (by decide) (by decide) (by decide) ?_
                    refine ⟨_, rfl, ?_⟩
                    first
                      | (have hq := show kRO l vn = _ from (if_neg c13).trans ((if_neg hs48_103).trans ((if_neg hs48_110).trans ((if_pos hs48_112).trans (if_pos c163)))); exact ⟨by rw [hq]; rfl, ⟨_, _, by rw [hq]; exact hord1, fun i hi => pk_un (by omega), fun i hi => hk160 i (by omega), fun q => by rw [hq] at q; cases q⟩, hF⟩)
                      | (have hq := show kRO l vn = _ from (if_neg c13).trans ((if_neg hs48_103).trans ((if_neg hs48_110).trans ((if_pos hs48_112).trans ((if_neg c163).trans (if_pos c173))))); exact ⟨by rw [hq]; rfl, ⟨_, _, by rw [hq]; exact hord1, fun i hi => pk_un (by omega), fun i hi => hk160 i (by omega), fun q => by rw [hq] at q; cases q⟩, hF⟩)
                      | (have hq := show kRO l vn = _ from (if_neg c13).trans ((if_neg hs48_103).trans ((if_neg hs48_110).trans ((if_pos hs48_112).trans ((if_neg c163).trans ((if_neg c173).trans (if_pos c182)))))); exact ⟨by rw [hq]; rfl, ⟨_, _, by rw [hq]; exact hord1, fun i hi => pk_un (by omega), fun i hi => (hk179 i (by omega)).trans (hk160 i (by omega)), fun q => by rw [hq] at q; cases q⟩, hF⟩)
                      | (have hq := show kRO l vn = _ from (if_neg c13).trans ((if_neg hs48_103).trans ((if_neg hs48_110).trans ((if_pos hs48_112).trans ((if_neg c163).trans ((if_neg c173).trans ((if_neg c182).trans (if_pos c191))))))); exact ⟨by rw [hq]; rfl, ⟨_, _, by rw [hq]; exact hord1, fun i hi => pk_un (by omega), fun i hi => ((hk188 i (by omega)).trans (hk179 i (by omega))).trans (hk160 i (by omega)), fun q => by rw [hq] at q; cases q⟩, hF⟩)
                      | (have hq := show kRO l vn = _ from (if_neg c13).trans ((if_neg hs48_103).trans ((if_neg hs48_110).trans ((if_pos hs48_112).trans ((if_neg c163).trans ((if_neg c173).trans ((if_neg c182).trans (if_neg c191))))))); exact ⟨by rw [hq]; rfl, ⟨_, _, by rw [hq]; exact hord1, fun i hi => pk_un (by omega), fun i hi => ((hk188 i (by omega)).trans (hk179 i (by omega))).trans (hk160 i (by omega)), fun _ => by rw [hq]; exact ⟨pk_us.trans hs48_112, ((hk188 _ (by omega)).trans (hk179 _ (by omega))).trans (hv160 (Bool.not_eq_false _ ▸ c163)), fun _ => (hk188 _ (by omega)).trans (hv179 (Bool.not_eq_false _ ▸ c182)), fun _ => hv188 (Bool.not_eq_false _ ▸ c191)⟩⟩, hF⟩)
                  · skip
                    have c191 := kB1_c1 c191
                    refine ks_iconst hκ 194 (nI 1) dX1_readOrder_194 kq_i1 ?_
                    refine ks_goto hκ 195 199 dX1_readOrder_195 rfl ?_
                    refine ks_iret hκ 199 hRt dX1_readOrder_199 (by decide) (by decide) (by decide) ?_
                    refine ⟨_, rfl, ?_⟩
                    first
                      | (have hq := show kRO l vn = _ from (if_neg c13).trans ((if_neg hs48_103).trans ((if_neg hs48_110).trans ((if_pos hs48_112).trans (if_pos c163)))); exact ⟨by rw [hq]; rfl, ⟨_, _, by rw [hq]; exact hord1, fun i hi => pk_un (by omega), fun i hi => hk160 i (by omega), fun q => by rw [hq] at q; cases q⟩, hF⟩)
                      | (have hq := show kRO l vn = _ from (if_neg c13).trans ((if_neg hs48_103).trans ((if_neg hs48_110).trans ((if_pos hs48_112).trans ((if_neg c163).trans (if_pos c173))))); exact ⟨by rw [hq]; rfl, ⟨_, _, by rw [hq]; exact hord1, fun i hi => pk_un (by omega), fun i hi => hk160 i (by omega), fun q => by rw [hq] at q; cases q⟩, hF⟩)
                      | (have hq := show kRO l vn = _ from (if_neg c13).trans ((if_neg hs48_103).trans ((if_neg hs48_110).trans ((if_pos hs48_112).trans ((if_neg c163).trans ((if_neg c173).trans (if_pos c182)))))); exact ⟨by rw [hq]; rfl, ⟨_, _, by rw [hq]; exact hord1, fun i hi => pk_un (by omega), fun i hi => (hk179 i (by omega)).trans (hk160 i (by omega)), fun q => by rw [hq] at q; cases q⟩, hF⟩)
                      | (have hq := show kRO l vn = _ from (if_neg c13).trans ((if_neg hs48_103).trans ((if_neg hs48_110).trans ((if_pos hs48_112).trans ((if_neg c163).trans ((if_neg c173).trans ((if_neg c182).trans (if_pos c191))))))); exact ⟨by rw [hq]; rfl, ⟨_, _, by rw [hq]; exact hord1, fun i hi => pk_un (by omega), fun i hi => ((hk188 i (by omega)).trans (hk179 i (by omega))).trans (hk160 i (by omega)), fun q => by rw [hq] at q; cases q⟩, hF⟩)
                      | (have hq := show kRO l vn = _ from (if_neg c13).trans ((if_neg hs48_103).trans ((if_neg hs48_110).trans ((if_pos hs48_112).trans ((if_neg c163).trans ((if_neg c173).trans ((if_neg c182).trans (if_neg c191))))))); exact ⟨by rw [hq]; rfl, ⟨_, _, by rw [hq]; exact hord1, fun i hi => pk_un (by omega), fun i hi => ((hk188 i (by omega)).trans (hk179 i (by omega))).trans (hk160 i (by omega)), fun _ => by rw [hq]; exact ⟨pk_us.trans hs48_112, ((hk188 _ (by omega)).trans (hk179 _ (by omega))).trans (hv160 (Bool.not_eq_false _ ▸ c163)), fun _ => (hk188 _ (by omega)).trans (hv179 (Bool.not_eq_false _ ▸ c182)), fun _ => hv188 (Bool.not_eq_false _ ▸ c191)⟩⟩, hF⟩)
          · skip
            by_cases hs48_120 : (l.getD vn (nI 0)) = nI 120
            · skip
              refine ks_top (nI 120) hs48_120 ?_
              refine ks_lookup hκ 48 123 dX1_readOrder_48 (off := 75) (by decide) (by decide) rfl ?_
              refine ks_aload_n hκ 123 1 dX1_readOrder_123 rfl ?_
              refine ks_aload_n hκ 124 2 dX1_readOrder_124 rfl ?_
              refine ks_iconst hκ 125 (nI 0) dX1_readOrder_125 kq_i0 ?_
              refine ks_intcV2 hκ 126 dX1_readOrder_126 kc_X1_56 (c_Orders_readNumber (vp := 0) hord hpad hap (by omega) hvs (by decide)) hO rfl (by decide) (Nat.le_of_ble_eq_true rfl) (by decide) (by decide) (fun r126 xh10 hp126 => ?_)
              obtain ⟨rfl, ⟨PT126, hord, hk126, hv126⟩, hF9⟩ := hp126
              have hord1 := hord
              obtain ⟨hO, hL, hP⟩ := hord
              have hb126 := kRN_le l (vn + 1)
              replace hD := hF9.at hD (by omega)
              replace hpad := hpad.fr hF9 (by omega)
              replace hF := hF.tr (hF9.wd (by omega) (by omega))
              refine ks_if_eq hκ 129 155 dX1_readOrder_129 rfl (fun c129 => ?_) (fun c129 => ?_)
              · skip
                have c129 := kB1_c0 c129
                refine ks_iconst hκ 155 (nI 0) dX1_readOrder_155 kq_i0 ?_
                refine ks_iret hκ 156 hRt dX1_readOrder_156 (by decide) (by decide) (by decide) ?_
                refine ⟨_, rfl, ?_⟩
                first
                  | (have hq := show kRO l vn = _ from (if_neg c13).trans ((if_neg hs48_103).trans ((if_neg hs48_110).trans ((if_neg hs48_112).trans ((if_pos hs48_120).trans (if_pos c129))))); exact ⟨by rw [hq]; rfl, ⟨_, _, by rw [hq]; exact hord1, fun i hi => pk_un (by omega), fun i hi => hk126 i (by omega), fun q => by rw [hq] at q; cases q⟩, hF⟩)
                  | (have hq := show kRO l vn = _ from (if_neg c13).trans ((if_neg hs48_103).trans ((if_neg hs48_110).trans ((if_neg hs48_112).trans ((if_pos hs48_120).trans ((if_neg c129).trans (if_pos c139)))))); exact ⟨by rw [hq]; rfl, ⟨_, _, by rw [hq]; exact hord1, fun i hi => pk_un (by omega), fun i hi => hk126 i (by omega), fun q => by rw [hq] at q; cases q⟩, hF⟩)
                  | (have hq := show kRO l vn = _ from (if_neg c13).trans ((if_neg hs48_103).trans ((if_neg hs48_110).trans ((if_neg hs48_112).trans ((if_pos hs48_120).trans ((if_neg c129).trans ((if_neg c139).trans (if_pos c148))))))); exact ⟨by rw [hq]; rfl, ⟨_, _, by rw [hq]; exact hord1, fun i hi => pk_un (by omega), fun i hi => (hk145 i (by omega)).trans (hk126 i (by omega)), fun q => by rw [hq] at q; cases q⟩, hF⟩)
                  | (have hq := show kRO l vn = _ from (if_neg c13).trans ((if_neg hs48_103).trans ((if_neg hs48_110).trans ((if_neg hs48_112).trans ((if_pos hs48_120).trans ((if_neg c129).trans ((if_neg c139).trans (if_neg c148))))))); exact ⟨by rw [hq]; rfl, ⟨_, _, by rw [hq]; exact hord1, fun i hi => pk_un (by omega), fun i hi => (hk145 i (by omega)).trans (hk126 i (by omega)), fun _ => by rw [hq]; exact ⟨pk_us.trans hs48_120, (hk145 _ (by omega)).trans (hv126 (Bool.not_eq_false _ ▸ c129)), fun _ => hv145 (Bool.not_eq_false _ ▸ c148), fun q => absurd q (show ¬ nI 120 = nI 112 by decide)⟩⟩, hF⟩)
              · skip
                have c129 := kB1_c1 c129
                refine ks_aload_n hκ 132 1 dX1_readOrder_132 rfl ?_
                refine ks_aload_n hκ 133 2 dX1_readOrder_133 rfl ?_
                refine ks_bipush hκ 134 (nI 46) dX1_readOrder_134 kq_b46 ?_
                refine ks_intcV2 hκ 136 dX1_readOrder_136 kc_X1_38 (c_Orders_readSign hord1 hpad hap (by omega) (by omega)) hO rfl (by decide) (Nat.le_of_ble_eq_true rfl) (by decide) (by decide) (fun r136 xh11 hp136 => ?_)
                obtain ⟨rfl, hord, hF9⟩ := hp136
                have hord1 := hord
                obtain ⟨hO, hL, hP⟩ := hord
                have hb136 := kSg_le l ((kRN l (vn + 1)).2.2) (nI 46)
                replace hD := hF9.at hD (by omega)
                replace hpad := hpad.fr hF9 (by omega)
                replace hF := hF.tr (hF9.wd (by omega) (by omega))
                refine ks_if_eq hκ 139 155 dX1_readOrder_139 rfl (fun c139 => ?_) (fun c139 => ?_)
                · skip
                  have c139 := kB1_c0 c139
                  refine ks_iconst hκ 155 (nI 0) dX1_readOrder_155 kq_i0 ?_
                  refine ks_iret hκ 156 hRt dX1_readOrder_156 (by decide) (by decide) (by decide) ?_
                  refine ⟨_, rfl, ?_⟩
                  first
                    | (have hq := show kRO l vn = _ from (if_neg c13).trans ((if_neg hs48_103).trans ((if_neg hs48_110).trans ((if_neg hs48_112).trans ((if_pos hs48_120).trans (if_pos c129))))); exact ⟨by rw [hq]; rfl, ⟨_, _, by rw [hq]; exact hord1, fun i hi => pk_un (by omega), fun i hi => hk126 i (by omega), fun q => by rw [hq] at q; cases q⟩, hF⟩)
                    | (have hq := show kRO l vn = _ from (if_neg c13).trans ((if_neg hs48_103).trans ((if_neg hs48_110).trans ((if_neg hs48_112).trans ((if_pos hs48_120).trans ((if_neg c129).trans (if_pos c139)))))); exact ⟨by rw [hq]; rfl, ⟨_, _, by rw [hq]; exact hord1, fun i hi => pk_un (by omega), fun i hi => hk126 i (by omega), fun q => by rw [hq] at q; cases q⟩, hF⟩)
                    | (have hq := show kRO l vn = _ from (if_neg c13).trans ((if_neg hs48_103).trans ((if_neg hs48_110).trans ((if_neg hs48_112).trans ((if_pos hs48_120).trans ((if_neg c129).trans ((if_neg c139).trans (if_pos c148))))))); exact ⟨by rw [hq]; rfl, ⟨_, _, by rw [hq]; exact hord1, fun i hi => pk_un (by omega), fun i hi => (hk145 i (by omega)).trans (hk126 i (by omega)), fun q => by rw [hq] at q; cases q⟩, hF⟩)
                    | (have hq := show kRO l vn = _ from (if_neg c13).trans ((if_neg hs48_103).trans ((if_neg hs48_110).trans ((if_neg hs48_112).trans ((if_pos hs48_120).trans ((if_neg c129).trans ((if_neg c139).trans (if_neg c148))))))); exact ⟨by rw [hq]; rfl, ⟨_, _, by rw [hq]; exact hord1, fun i hi => pk_un (by omega), fun i hi => (hk145 i (by omega)).trans (hk126 i (by omega)), fun _ => by rw [hq]; exact ⟨pk_us.trans hs48_120, (hk145 _ (by omega)).trans (hv126 (Bool.not_eq_false _ ▸ c129)), fun _ => hv145 (Bool.not_eq_false _ ▸ c148), fun q => absurd q (show ¬ nI 120 = nI 112 by decide)⟩⟩, hF⟩)
                · skip
                  have c139 := kB1_c1 c139
                  refine ks_aload_n hκ 142 1 dX1_readOrder_142 rfl ?_
                  refine ks_aload_n hκ 143 2 dX1_readOrder_143 rfl ?_
                  refine ks_iconst hκ 144 (nI 1) dX1_readOrder_144 kq_i1 ?_
                  refine ks_intcV2 hκ 145 dX1_readOrder_145 kc_X1_50 (c_Orders_readDigit (vp := 1) hord1 hpad hap (by omega) hvs (by decide)) hO rfl (by decide) (Nat.le_of_ble_eq_true rfl) (by decide) (by decide) (fun r145 xh12 hp145 => ?_)
                  obtain ⟨rfl, ⟨PT145, hord, hk145, hv145⟩, hF9⟩ := hp145
                  have hord1 := hord
                  obtain ⟨hO, hL, hP⟩ := hord
                  have hb145 := kRD_le l ((kSg l ((kRN l (vn + 1)).2.2) (nI 46)).2)
                  replace hD := hF9.at hD (by omega)
                  replace hpad := hpad.fr hF9 (by omega)
                  replace hF := hF.tr (hF9.wd (by omega) (by omega))
                  refine ks_if_eq hκ 148 155 dX1_readOrder_148 rfl (fun c148 => ?_) (fun c148 => ?_)
                  · skip
                    have c148 := kB1_c0 c148
                    refine ks_iconst hκ 155 (nI 0) dX1_readOrder_155 kq_i0 ?_
                    refine ks_iret hκ 156 hRt dX1_readOrder_156 (by decide) (by decide) (by decide) ?_
                    refine ⟨_, rfl, ?_⟩
                    first
                      | (have hq := show kRO l vn = _ from (if_neg c13).trans ((if_neg hs48_103).trans ((if_neg hs48_110).trans ((if_neg hs48_112).trans ((if_pos hs48_120).trans (if_pos c129))))); exact ⟨by rw [hq]; rfl, ⟨_, _, by rw [hq]; exact hord1, fun i hi => pk_un (by omega), fun i hi => hk126 i (by omega), fun q => by rw [hq] at q; cases q⟩, hF⟩)
                      | (have hq := show kRO l vn = _ from (if_neg c13).trans ((if_neg hs48_103).trans ((if_neg hs48_110).trans ((if_neg hs48_112).trans ((if_pos hs48_120).trans ((if_neg c129).trans (if_pos c139)))))); exact ⟨by rw [hq]; rfl, ⟨_, _, by rw [hq]; exact hord1, fun i hi => pk_un (by omega), fun i hi => hk126 i (by omega), fun q => by rw [hq] at q; cases q⟩, hF⟩)
                      | (have hq := show kRO l vn = _ from (if_neg c13).trans ((if_neg hs48_103).trans ((if_neg hs48_110).trans ((if_neg hs48_112).trans ((if_pos hs48_120).trans ((if_neg c129).trans ((if_neg c139).trans (if_pos c148))))))); exact ⟨by rw [hq]; rfl, ⟨_, _, by rw [hq]; exact hord1, fun i hi => pk_un (by omega), fun i hi => (hk145 i (by omega)).trans (hk126 i (by omega)), fun q => by rw [hq] at q; cases q⟩, hF⟩)
                      | (have hq := show kRO l vn = _ from (if_neg c13).trans ((if_neg hs48_103).trans ((if_neg hs48_110).trans ((if_neg hs48_112).trans ((if_pos hs48_120).trans ((if_neg c129).trans ((if_neg c139).trans (if_neg c148))))))); exact ⟨by rw [hq]; rfl, ⟨_, _, by rw [hq]; exact hord1, fun i hi => pk_un (by omega), fun i hi => (hk145 i (by omega)).trans (hk126 i (by omega)), fun _ => by rw [hq]; exact ⟨pk_us.trans hs48_120, (hk145 _ (by omega)).trans (hv126 (Bool.not_eq_false _ ▸ c129)), fun _ => hv145 (Bool.not_eq_false _ ▸ c148), fun q => absurd q (show ¬ nI 120 = nI 112 by decide)⟩⟩, hF⟩)
                  · skip
                    have c148 := kB1_c1 c148
                    refine ks_iconst hκ 151 (nI 1) dX1_readOrder_151 kq_i1 ?_
                    refine ks_goto hκ 152 156 dX1_readOrder_152 rfl ?_
                    refine ks_iret hκ 156 hRt dX1_readOrder_156 (by decide) (by decide) (by decide) ?_
                    refine ⟨_, rfl, ?_⟩
                    first
                      | (have hq := show kRO l vn = _ from (if_neg c13).trans ((if_neg hs48_103).trans ((if_neg hs48_110).trans ((if_neg hs48_112).trans ((if_pos hs48_120).trans (if_pos c129))))); exact ⟨by rw [hq]; rfl, ⟨_, _, by rw [hq]; exact hord1, fun i hi => pk_un (by omega), fun i hi => hk126 i (by omega), fun q => by rw [hq] at q; cases q⟩, hF⟩)
                      | (have hq := show kRO l vn = _ from (if_neg c13).trans ((if_neg hs48_103).trans ((if_neg hs48_110).trans ((if_neg hs48_112).trans ((if_pos hs48_120).trans ((if_neg c129).trans (if_pos c139)))))); exact ⟨by rw [hq]; rfl, ⟨_, _, by rw [hq]; exact hord1, fun i hi => pk_un (by omega), fun i hi => hk126 i (by omega), fun q => by rw [hq] at q; cases q⟩, hF⟩)
                      | (have hq := show kRO l vn = _ from (if_neg c13).trans ((if_neg hs48_103).trans ((if_neg hs48_110).trans ((if_neg hs48_112).trans ((if_pos hs48_120).trans ((if_neg c129).trans ((if_neg c139).trans (if_pos c148))))))); exact ⟨by rw [hq]; rfl, ⟨_, _, by rw [hq]; exact hord1, fun i hi => pk_un (by omega), fun i hi => (hk145 i (by omega)).trans (hk126 i (by omega)), fun q => by rw [hq] at q; cases q⟩, hF⟩)
                      | (have hq := show kRO l vn = _ from (if_neg c13).trans ((if_neg hs48_103).trans ((if_neg hs48_110).trans ((if_neg hs48_112).trans ((if_pos hs48_120).trans ((if_neg c129).trans ((if_neg c139).trans (if_neg c148))))))); exact ⟨by rw [hq]; rfl, ⟨_, _, by rw [hq]; exact hord1, fun i hi => pk_un (by omega), fun i hi => (hk145 i (by omega)).trans (hk126 i (by omega)), fun _ => by rw [hq]; exact ⟨pk_us.trans hs48_120, (hk145 _ (by omega)).trans (hv126 (Bool.not_eq_false _ ▸ c129)), fun _ => hv145 (Bool.not_eq_false _ ▸ c148), fun q => absurd q (show ¬ nI 120 = nI 112 by decide)⟩⟩, hF⟩)
            · skip
              refine ks_lookup hκ 48 200 dX1_readOrder_48 (off := 152) (by decide) (show Op.lookupswitch.offset [(103, 44), (110, 68), (112, 109), (120, 75)] 152 (Int32.toInt (l.getD vn (nI 0))) = 152 by rw [lv_osw hs48_103 (show (nI 103).toInt = 103 by decide), lv_osw hs48_110 (show (nI 110).toInt = 110 by decide), lv_osw hs48_112 (show (nI 112).toInt = 112 by decide), lv_osw hs48_120 (show (nI 120).toInt = 120 by decide)]; rfl) rfl ?_
              refine ks_aload_n hκ 200 1 dX1_readOrder_200 rfl ?_
              refine ks_aload_n hκ 201 2 dX1_readOrder_201 rfl ?_
              refine ks_iconst hκ 202 (nI 0) dX1_readOrder_202 kq_i0 ?_
              refine ks_intcV2 hκ 203 dX1_readOrder_203 kc_X1_56 (c_Orders_readNumber (vp := 0) hord hpad hap (by omega) hvs (by decide)) hO rfl (by decide) (Nat.le_of_ble_eq_true rfl) (by decide) (by decide) (fun r203 xh13 hp203 => ?_)
              obtain ⟨rfl, ⟨PT203, hord, hk203, hv203⟩, hF9⟩ := hp203
              have hord1 := hord
              obtain ⟨hO, hL, hP⟩ := hord
              have hb203 := kRN_le l (vn + 1)
              replace hD := hF9.at hD (by omega)
              replace hpad := hpad.fr hF9 (by omega)
              replace hF := hF.tr (hF9.wd (by omega) (by omega))
              refine ks_iret hκ 206 hRt dX1_readOrder_206 (by decide) (by decide) (by cases (kRN l (vn + 1)).1 <;> decide) ?_
              refine ⟨_, rfl, ?_⟩
              by_cases cz : (kRN l (vn + 1)).1 = false
              · have hq := show kRO l vn = _ from (if_neg c13).trans ((if_neg hs48_103).trans ((if_neg hs48_110).trans ((if_neg hs48_112).trans ((if_neg hs48_120).trans (if_pos cz)))))
                exact ⟨by rw [hq, cz], ⟨_, _, by rw [hq]; exact hord1, fun i hi => pk_un (by omega), fun i hi => hk203 i (by omega), fun q => by rw [hq] at q; cases q⟩, hF⟩
              · have hq := show kRO l vn = _ from (if_neg c13).trans ((if_neg hs48_103).trans ((if_neg hs48_110).trans ((if_neg hs48_112).trans ((if_neg hs48_120).trans (if_neg cz)))))
                have cz1 : (kRN l (vn + 1)).1 = true := Bool.not_eq_false _ ▸ cz
                exact ⟨by rw [hq, cz1], ⟨_, _, by rw [hq]; exact hord1, fun i hi => pk_un (by omega), fun i hi => hk203 i (by omega), fun _ => by rw [hq]; exact ⟨pk_us, hv203 cz1, fun q => q.elim (fun q => absurd q hs48_103) (fun q => q.elim (fun q => absurd q hs48_112) (fun q => absurd q hs48_120)), fun q => absurd q hs48_112⟩⟩, hF⟩
    · exfalso
      have c22 := mt (nI_ltI (by omega) (by omega)).mpr c22
      exact c22 hvs
