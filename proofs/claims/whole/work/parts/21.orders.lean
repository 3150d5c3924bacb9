
/-! ORDERS: what is read from a pad -/
theorem ks_sw (x : Int32) (lo hi : Nat) (h : hi < 2 ^ 31) : x.toInt < lo ∨ (hi : Int) < x.toInt ∨ ∃ j : Nat, lo ≤ j ∧ j ≤ hi ∧ x = nI j := by
  by_cases q : x.toInt < lo
  · exact Or.inl q
  · by_cases r : (hi : Int) < x.toInt
    · exact Or.inr (Or.inl r)
    · refine Or.inr (Or.inr ⟨x.toInt.toNat, by omega, by omega, ?_⟩)
      apply Int32.toInt_inj.mp
      rw [nI_toInt (by omega)]; omega
def kOrdR (g : ks_G) (h : ks_H) (od : Nat) (LT PT : Nat → Int32) (vs vn : Nat) : Prop := h[od]? = some (ks_O 1 [ks_ref g (od + 1), ks_ref g (od + 2), .int (nI vs), .int (nI vn)]) ∧ h[od + 1]? = some (ks_I g 27 LT) ∧ h[od + 2]? = some (ks_I g 81 PT)
theorem kOrdR.fr {g : ks_G} {h h' : ks_H} {od : Nat} {LT PT : Nat → Int32} {vs vn : Nat} (x : kOrdR g h od LT PT vs vn) {lo hi : Nat} (f : ks_Fr h h' lo hi) (z : od + 3 ≤ lo ∨ hi ≤ od) : kOrdR g h' od LT PT vs vn := ⟨f.at x.1 (by omega), f.at x.2.1 (by omega), f.at x.2.2 (by omega)⟩
theorem kOrdR.ex {g : ks_G} {h h' : ks_H} {od : Nat} {LT PT : Nat → Int32} {vs vn : Nat} (x : kOrdR g h od LT PT vs vn) {lo : Nat} (f : ks_Ex h h' lo) (z : od + 3 ≤ lo) : kOrdR g h' od LT PT vs vn := ⟨(f _ (by omega)).trans x.1, (f _ (by omega)).trans x.2.1, (f _ (by omega)).trans x.2.2⟩
def kHP (s p : Int32) : Int32 := if s < 0 then nI 0 else if nI 27 ≤ s then nI 0 else if p < 0 then nI 0 else if nI 3 ≤ p then nI 0 else nI 1
theorem kHP_1 {s p : Nat} (hs : s < 27) (hp : p < 3) : kHP (nI s) (nI p) = nI 1 := by
  unfold kHP
  rw [if_neg (nI_pos (by omega)), if_neg (fun q => by have := (nI_leI (by omega) (by omega)).mp q; omega), if_neg (nI_pos (by omega)), if_neg (fun q => by have := (nI_leI (by omega) (by omega)).mp q; omega)]
def kIsLt (x : Int32) : Int32 := if x = nI 107 then nI 1 else if x = nI 103 then nI 1 else if x = nI 110 then nI 1 else if x = nI 120 then nI 1 else if x = nI 112 then nI 1 else if x = nI 116 then nI 1 else nI 0
/-- a digit at a place: its value or -6, and the place behind it -/
def kDg (l : List Int32) (n : Nat) : Int32 × Nat := if l.getD n (nI 0) < nI 48 then (-6, n) else if nI 57 < l.getD n (nI 0) then (-6, n) else (l.getD n (nI 0) - nI 48, n + 1)
def kNm (l : List Int32) (n : Nat) : Int32 × Nat := if (kDg l n).1 ≤ 0 then kDg l n else if (kDg l (kDg l n).2).1 < 0 then ((kDg l n).1, (kDg l (kDg l n).2).2) else (nI 10 * (kDg l n).1 + (kDg l (kDg l n).2).1, (kDg l (kDg l n).2).2)
theorem kDg_le (l : List Int32) (n : Nat) : n ≤ (kDg l n).2 ∧ (kDg l n).2 ≤ n + 1 := by
  unfold kDg
  split
  · exact ⟨Nat.le_refl _, Nat.le_succ _⟩
  · split
    · exact ⟨Nat.le_refl _, Nat.le_succ _⟩
    · exact ⟨Nat.le_succ _, Nat.le_refl _⟩
theorem kNm_le (l : List Int32) (n : Nat) : n ≤ (kNm l n).2 ∧ (kNm l n).2 ≤ n + 2 := by
  have h1 := kDg_le l n
  have h2 := kDg_le l (kDg l n).2
  unfold kNm
  split
  · omega
  · split
    · simp only; omega
    · simp only; omega
def kSg (l : List Int32) (n : Nat) (s : Int32) : Bool × Nat := if l.getD n (nI 0) = s then (true, n + 1) else (false, n)
def kB1 (b : Bool) : Int32 := if b = true then nI 1 else nI 0
theorem kB1_f : kB1 false = 0 := by decide
theorem kB1_t : ¬ kB1 true = 0 := by decide
theorem kB1_0 {b : Bool} : kB1 b = 0 ↔ b = false := by cases b <;> decide
/-- a digit is read as a part of an order; a number; steps -/
def kRD (l : List Int32) (n : Nat) : Bool × Int32 × Nat := if (kDg l n).1 < 0 then (false, nI 0, (kDg l n).2) else (true, (kDg l n).1, (kDg l n).2)
def kRN (l : List Int32) (n : Nat) : Bool × Int32 × Nat := if (kNm l n).1 < 0 then (false, nI 0, (kNm l n).2) else (true, (kNm l n).1, (kNm l n).2)
def kRB (l : List Int32) (n : Nat) : Bool × Int32 × Nat :=
  if l.getD n (nI 0) = nI 45 then (if (kNm l (n + 1)).1 < 0 then (false, nI 0, (kNm l (n + 1)).2) else (true, 0 - (kNm l (n + 1)).1, (kNm l (n + 1)).2))
  else if l.getD n (nI 0) = nI 43 then (if (kNm l (n + 1)).1 < 0 then (false, nI 0, (kNm l (n + 1)).2) else (true, (kNm l (n + 1)).1, (kNm l (n + 1)).2))
  else (false, nI 0, n)
set_option maxRecDepth 100000 in
set_option maxHeartbeats 4000000 in
theorem c_Orders_hasPart {g : ks_G} {h : ks_H} {s p : Int32} : ks_Met g (yX1_hasPart, cX1_hasPart, 2, some .boolean) 0 0 0 [.int s, .int p] h (ks_Pi (kHP s p) h) := by
  refine ks_intro (by decide) (Nat.le_of_ble_eq_true rfl) (fun κ hκ hRt => ?_)
  refine ks_cv (ls := [(0, .int s), (1, .int p)]) ?_ rfl rfl rfl
  refine ks_iload_n hκ 0 0 dX1_hasPart_0 rfl ?_
  refine ks_if_lt hκ 1 23 dX1_hasPart_1 rfl (fun c1 => ?_) (fun c1 => ?_)
  · skip
    refine ks_iconst hκ 23 (nI 0) dX1_hasPart_23 kq_i0 ?_
    refine ks_iret hκ 24 hRt dX1_hasPart_24 (by decide) (by decide) (by decide) ?_
    refine ⟨?_, rfl⟩
    unfold kHP
    first | rw [if_pos c1] | rw [if_neg c1, if_pos c7] | rw [if_neg c1, if_neg c7, if_pos c11] | rw [if_neg c1, if_neg c7, if_neg c11, if_pos c16] | rw [if_neg c1, if_neg c7, if_neg c11, if_neg c16]
  · skip
    refine ks_iload_n hκ 4 0 dX1_hasPart_4 rfl ?_
    refine ks_bipush hκ 5 (nI 27) dX1_hasPart_5 kq_b27 ?_
    refine ks_icmp_ge hκ 7 23 dX1_hasPart_7 rfl (fun c7 => ?_) (fun c7 => ?_)
    · skip
      refine ks_iconst hκ 23 (nI 0) dX1_hasPart_23 kq_i0 ?_
      refine ks_iret hκ 24 hRt dX1_hasPart_24 (by decide) (by decide) (by decide) ?_
      refine ⟨?_, rfl⟩
      unfold kHP
      first | rw [if_pos c1] | rw [if_neg c1, if_pos c7] | rw [if_neg c1, if_neg c7, if_pos c11] | rw [if_neg c1, if_neg c7, if_neg c11, if_pos c16] | rw [if_neg c1, if_neg c7, if_neg c11, if_neg c16]
    · skip
      refine ks_iload_n hκ 10 1 dX1_hasPart_10 rfl ?_
      refine ks_if_lt hκ 11 23 dX1_hasPart_11 rfl (fun c11 => ?_) (fun c11 => ?_)
      · skip
        refine ks_iconst hκ 23 (nI 0) dX1_hasPart_23 kq_i0 ?_
        refine ks_iret hκ 24 hRt dX1_hasPart_24 (by decide) (by decide) (by decide) ?_
        refine ⟨?_, rfl⟩
        unfold kHP
        first | rw [if_pos c1] | rw [if_neg c1, if_pos c7] | rw [if_neg c1, if_neg c7, if_pos c11] | rw [if_neg c1, if_neg c7, if_neg c11, if_pos c16] | rw [if_neg c1, if_neg c7, if_neg c11, if_neg c16]
      · skip
        refine ks_iload_n hκ 14 1 dX1_hasPart_14 rfl ?_
        refine ks_iconst hκ 15 (nI 3) dX1_hasPart_15 kq_i3 ?_
        refine ks_icmp_ge hκ 16 23 dX1_hasPart_16 rfl (fun c16 => ?_) (fun c16 => ?_)
        · skip
          refine ks_iconst hκ 23 (nI 0) dX1_hasPart_23 kq_i0 ?_
          refine ks_iret hκ 24 hRt dX1_hasPart_24 (by decide) (by decide) (by decide) ?_
          refine ⟨?_, rfl⟩
          unfold kHP
          first | rw [if_pos c1] | rw [if_neg c1, if_pos c7] | rw [if_neg c1, if_neg c7, if_pos c11] | rw [if_neg c1, if_neg c7, if_neg c11, if_pos c16] | rw [if_neg c1, if_neg c7, if_neg c11, if_neg c16]
        · skip
          refine ks_iconst hκ 19 (nI 1) dX1_hasPart_19 kq_i1 ?_
          refine ks_goto hκ 20 24 dX1_hasPart_20 rfl ?_
          refine ks_iret hκ 24 hRt dX1_hasPart_24 (by decide) (by decide) (by decide) ?_
          refine ⟨?_, rfl⟩
          unfold kHP
          first | rw [if_pos c1] | rw [if_neg c1, if_pos c7] | rw [if_neg c1, if_neg c7, if_pos c11] | rw [if_neg c1, if_neg c7, if_neg c11, if_pos c16] | rw [if_neg c1, if_neg c7, if_neg c11, if_neg c16]
set_option maxRecDepth 100000 in
set_option maxHeartbeats 4000000 in
theorem c_Orders_isLetter {g : ks_G} {h : ks_H} {x : Int32} : ks_Met g (yX1_isLetter, cX1_isLetter, 1, some .boolean) 0 0 0 [.int x] h (ks_Pi (kIsLt x) h) := by
  refine ks_intro (by decide) (Nat.le_of_ble_eq_true rfl) (fun κ hκ hRt => ?_)
  refine ks_cv (ls := [(0, .int x)]) ?_ rfl rfl rfl
  refine ks_iload_n hκ 0 0 dX1_isLetter_0 rfl ?_
  refine ks_bipush hκ 1 (nI 107) dX1_isLetter_1 kq_b107 ?_
  refine ks_icmp_eq hκ 3 36 dX1_isLetter_3 rfl (fun c3 => ?_) (fun c3 => ?_)
  · skip
    refine ks_iconst hκ 36 (nI 1) dX1_isLetter_36 kq_i1 ?_
    refine ks_goto hκ 37 41 dX1_isLetter_37 rfl ?_
    refine ks_iret hκ 41 hRt dX1_isLetter_41 (by decide) (by decide) (by decide) ?_
    refine ⟨?_, rfl⟩
    unfold kIsLt
    first | rw [if_pos c3] | rw [if_neg c3, if_pos c9] | rw [if_neg c3, if_neg c9, if_pos c15] | rw [if_neg c3, if_neg c9, if_neg c15, if_pos c21] | rw [if_neg c3, if_neg c9, if_neg c15, if_neg c21, if_pos c27] | rw [if_neg c3, if_neg c9, if_neg c15, if_neg c21, if_neg c27, if_neg c33] | rw [if_neg c3, if_neg c9, if_neg c15, if_neg c21, if_neg c27, if_pos c33]
  · skip
    refine ks_iload_n hκ 6 0 dX1_isLetter_6 rfl ?_
    refine ks_bipush hκ 7 (nI 103) dX1_isLetter_7 kq_b103 ?_
    refine ks_icmp_eq hκ 9 36 dX1_isLetter_9 rfl (fun c9 => ?_) (fun c9 => ?_)
    · skip
      refine ks_iconst hκ 36 (nI 1) dX1_isLetter_36 kq_i1 ?_
      refine ks_goto hκ 37 41 dX1_isLetter_37 rfl ?_
      refine ks_iret hκ 41 hRt dX1_isLetter_41 (by decide) (by decide) (by decide) ?_
      refine ⟨?_, rfl⟩
      unfold kIsLt
      first | rw [if_pos c3] | rw [if_neg c3, if_pos c9] | rw [if_neg c3, if_neg c9, if_pos c15] | rw [if_neg c3, if_neg c9, if_neg c15, if_pos c21] | rw [if_neg c3, if_neg c9, if_neg c15, if_neg c21, if_pos c27] | rw [if_neg c3, if_neg c9, if_neg c15, if_neg c21, if_neg c27, if_neg c33] | rw [if_neg c3, if_neg c9, if_neg c15, if_neg c21, if_neg c27, if_pos c33]
    · skip
      refine ks_iload_n hκ 12 0 dX1_isLetter_12 rfl ?_
      refine ks_bipush hκ 13 (nI 110) dX1_isLetter_13 kq_b110 ?_
      refine ks_icmp_eq hκ 15 36 dX1_isLetter_15 rfl (fun c15 => ?_) (fun c15 => ?_)
      · skip
        refine ks_iconst hκ 36 (nI 1) dX1_isLetter_36 kq_i1 ?_
        refine ks_goto hκ 37 41 dX1_isLetter_37 rfl ?_
        refine ks_iret hκ 41 hRt dX1_isLetter_41 (by decide) (by decide) (by decide) ?_
        refine ⟨?_, rfl⟩
        unfold kIsLt
        first | rw [if_pos c3] | rw [if_neg c3, if_pos c9] | rw [if_neg c3, if_neg c9, if_pos c15] | rw [if_neg c3, if_neg c9, if_neg c15, if_pos c21] | rw [if_neg c3, if_neg c9, if_neg c15, if_neg c21, if_pos c27] | rw [if_neg c3, if_neg c9, if_neg c15, if_neg c21, if_neg c27, if_neg c33] | rw [if_neg c3, if_neg c9, if_neg c15, if_neg c21, if_neg c27, if_pos c33]
      · skip
        refine ks_iload_n hκ 18 0 dX1_isLetter_18 rfl ?_
        refine ks_bipush hκ 19 (nI 120) dX1_isLetter_19 kq_b120 ?_
        refine ks_icmp_eq hκ 21 36 dX1_isLetter_21 rfl (fun c21 => ?_) (fun c21 => ?_)
        · skip
          refine ks_iconst hκ 36 (nI 1) dX1_isLetter_36 kq_i1 ?_
          refine ks_goto hκ 37 41 dX1_isLetter_37 rfl ?_
          refine ks_iret hκ 41 hRt dX1_isLetter_41 (by decide) (by decide) (by decide) ?_
          refine ⟨?_, rfl⟩
          unfold kIsLt
          first | rw [if_pos c3] | rw [if_neg c3, if_pos c9] | rw [if_neg c3, if_neg c9, if_pos c15] | rw [if_neg c3, if_neg c9, if_neg c15, if_pos c21] | rw [if_neg c3, if_neg c9, if_neg c15, if_neg c21, if_pos c27] | rw [if_neg c3, if_neg c9, if_neg c15, if_neg c21, if_neg c27, if_neg c33] | rw [if_neg c3, if_neg c9, if_neg c15, if_neg c21, if_neg c27, if_pos c33]
        · skip
          refine ks_iload_n hκ 24 0 dX1_isLetter_24 rfl ?_
          refine ks_bipush hκ 25 (nI 112) dX1_isLetter_25 kq_b112 ?_
          refine ks_icmp_eq hκ 27 36 dX1_isLetter_27 rfl (fun c27 => ?_) (fun c27 => ?_)
          · skip
            refine ks_iconst hκ 36 (nI 1) dX1_isLetter_36 kq_i1 ?_
            refine ks_goto hκ 37 41 dX1_isLetter_37 rfl ?_
            refine ks_iret hκ 41 hRt dX1_isLetter_41 (by decide) (by decide) (by decide) ?_
            refine ⟨?_, rfl⟩
            unfold kIsLt
            first | rw [if_pos c3] | rw [if_neg c3, if_pos c9] | rw [if_neg c3, if_neg c9, if_pos c15] | rw [if_neg c3, if_neg c9, if_neg c15, if_pos c21] | rw [if_neg c3, if_neg c9, if_neg c15, if_neg c21, if_pos c27] | rw [if_neg c3, if_neg c9, if_neg c15, if_neg c21, if_neg c27, if_neg c33] | rw [if_neg c3, if_neg c9, if_neg c15, if_neg c21, if_neg c27, if_pos c33]
          · skip
            refine ks_iload_n hκ 30 0 dX1_isLetter_30 rfl ?_
            refine ks_bipush hκ 31 (nI 116) dX1_isLetter_31 kq_b116 ?_
            refine ks_icmp_ne hκ 33 40 dX1_isLetter_33 rfl (fun c33 => ?_) (fun c33 => ?_)
            · skip
              refine ks_iconst hκ 40 (nI 0) dX1_isLetter_40 kq_i0 ?_
              refine ks_iret hκ 41 hRt dX1_isLetter_41 (by decide) (by decide) (by decide) ?_
              refine ⟨?_, rfl⟩
              unfold kIsLt
              first | rw [if_pos c3] | rw [if_neg c3, if_pos c9] | rw [if_neg c3, if_neg c9, if_pos c15] | rw [if_neg c3, if_neg c9, if_neg c15, if_pos c21] | rw [if_neg c3, if_neg c9, if_neg c15, if_neg c21, if_pos c27] | rw [if_neg c3, if_neg c9, if_neg c15, if_neg c21, if_neg c27, if_neg c33] | rw [if_neg c3, if_neg c9, if_neg c15, if_neg c21, if_neg c27, if_pos c33]
            · skip
              refine ks_iconst hκ 36 (nI 1) dX1_isLetter_36 kq_i1 ?_
              refine ks_goto hκ 37 41 dX1_isLetter_37 rfl ?_
              refine ks_iret hκ 41 hRt dX1_isLetter_41 (by decide) (by decide) (by decide) ?_
              refine ⟨?_, rfl⟩
              unfold kIsLt
              first | rw [if_pos c3] | rw [if_neg c3, if_pos c9] | rw [if_neg c3, if_neg c9, if_pos c15] | rw [if_neg c3, if_neg c9, if_neg c15, if_pos c21] | rw [if_neg c3, if_neg c9, if_neg c15, if_neg c21, if_pos c27] | rw [if_neg c3, if_neg c9, if_neg c15, if_neg c21, if_neg c27, if_neg c33] | rw [if_neg c3, if_neg c9, if_neg c15, if_neg c21, if_neg c27, if_pos c33]
set_option maxRecDepth 100000 in
set_option maxHeartbeats 4000000 in
theorem c_Orders_digit {g : ks_G} {h : ks_H} {od pd vs vn : Nat} {LT PT : Nat → Int32} {l : List Int32} (hord : kOrdR g h od LT PT vs vn) (hpad : kPad g h pd l) (hap : od + 3 ≤ pd ∨ pd + 2 ≤ od) (hvn : vn < 1000) (hvs : vs < 1000) : ks_Met g (yX1_digit, cX1_digit, 3, some .int) 1 0 0 [ks_ref g od, ks_ref g pd] h (ks_Ph (fun r h' => r = (kDg l vn).1 ∧ kOrdR g h' od LT PT vs (kDg l vn).2 ∧ ks_Fr h h' od (od + 3))) := by
  have hord0 := hord
  obtain ⟨hO, hL, hP⟩ := hord
  obtain ⟨_, hD, -⟩ := id hpad
  refine ks_intro (by decide) (Nat.le_of_ble_eq_true rfl) (fun κ hκ hRt => ?_)
  refine ks_cv (ls := [(0, ks_ref g od), (1, ks_ref g pd)]) ?_ rfl rfl rfl
  have hF : ks_Fr h h od (od + 3) := ks_Fr.rf
  refine ks_aload_n hκ 0 1 dX1_digit_0 rfl ?_
  refine ks_aload_n hκ 1 0 dX1_digit_1 rfl ?_
  refine ks_get hκ 2 dX1_digit_2 kf_X1_22 hO rfl ?_
  refine ks_pureV1 hκ 5 dX1_digit_5 kc_X1_42 (c_Pad_signAt hpad (by omega)) hD rfl (by decide) (Nat.le_of_ble_eq_true rfl) (by decide) (by decide) ?_
  refine ks_istore_n hκ 8 2 [(2, _), (0, _), (1, _)] dX1_digit_8 rfl (by decide) rfl ?_
  refine ks_iload_n hκ 9 0 dX1_digit_9 rfl ?_
  refine ks_bipush hκ 10 (nI 48) dX1_digit_10 kq_b48 ?_
  refine ks_icmp_lt hκ 12 21 dX1_digit_12 rfl (fun c12 => ?_) (fun c12 => ?_)
  · skip
    refine ks_bipush hκ 21 (-6) dX1_digit_21 kq_bm6 ?_
    refine ks_iret hκ 23 hRt dX1_digit_23 (by decide) (by decide) rfl ?_
    have hq : kDg l vn = (-6, vn) := by
      unfold kDg
      first | rw [if_pos c12] | rw [if_neg c12, if_pos (Int32.not_le.mp c18)]
    rw [hq]
    exact ⟨_, rfl, rfl, hord0, hF⟩
  · skip
    refine ks_iload_n hκ 15 0 dX1_digit_15 rfl ?_
    refine ks_bipush hκ 16 (nI 57) dX1_digit_16 kq_b57 ?_
    refine ks_icmp_le hκ 18 24 dX1_digit_18 rfl (fun c18 => ?_) (fun c18 => ?_)
    · skip
      refine ks_aload_n hκ 24 1 dX1_digit_24 rfl ?_
      refine ks_dup hκ 25 dX1_digit_25 rfl ?_
      refine ks_get hκ 26 dX1_digit_26 kf_X1_22 hO rfl ?_
      refine ks_iconst hκ 29 (nI 1) dX1_digit_29 kq_i1 ?_
      refine ks_iaddN hκ 30 dX1_digit_30 ?_
      refine ks_putS hκ 31 [_, _, _, _] dX1_digit_31 kf_X1_22 hO rfl rfl (Nat.le_of_ble_eq_true rfl) rfl ?_
      refine ks_gen (fun xh1 exh1 => ?_)
      replace hO := ks_gs exh1 hO
      replace hL := ks_gn exh1 (ks_nb (b := od) (i := 0) (j := 1) rfl) hL
      replace hP := ks_gn exh1 (ks_nb (b := od) (i := 0) (j := 2) rfl) hP
      replace hD := ks_gn exh1 (by omega) hD
      replace hpad := hpad.fr (ks_Fr.one exh1) (by omega)
      replace hF := ks_Fr.st hF exh1 (by omega) (by omega)
      clear exh1
      refine ks_iload_n hκ 34 0 dX1_digit_34 rfl ?_
      refine ks_bipush hκ 35 (nI 48) dX1_digit_35 kq_b48 ?_
      refine ks_isub hκ 37 dX1_digit_37 ?_
      refine ks_iret hκ 38 hRt dX1_digit_38 (by decide) (by decide) rfl ?_
      have hq : kDg l vn = (l.getD vn (nI 0) - nI 48, vn + 1) := by
        unfold kDg
        rw [if_neg c12, if_neg (Int32.not_lt.mpr c18)]
      rw [hq]
      exact ⟨_, rfl, rfl, ⟨hO, hL, hP⟩, hF⟩
    · skip
      refine ks_bipush hκ 21 (-6) dX1_digit_21 kq_bm6 ?_
      refine ks_iret hκ 23 hRt dX1_digit_23 (by decide) (by decide) rfl ?_
      have hq : kDg l vn = (-6, vn) := by
        unfold kDg
        first | rw [if_pos c12] | rw [if_neg c12, if_pos (Int32.not_le.mp c18)]
      rw [hq]
      exact ⟨_, rfl, rfl, hord0, hF⟩
set_option maxRecDepth 100000 in
set_option maxHeartbeats 4000000 in
theorem c_Orders_number {g : ks_G} {h : ks_H} {od pd vs vn : Nat} {LT PT : Nat → Int32} {l : List Int32} (hord : kOrdR g h od LT PT vs vn) (hpad : kPad g h pd l) (hap : od + 3 ≤ pd ∨ pd + 2 ≤ od) (hvn : vn < 990) (hvs : vs < 1000) : ks_Met g (yX1_number, cX1_number, 4, some .int) 2 0 0 [ks_ref g od, ks_ref g pd] h (ks_Ph (fun r h' => r = (kNm l vn).1 ∧ kOrdR g h' od LT PT vs (kNm l vn).2 ∧ ks_Fr h h' od (od + 3))) := by
  have hord0 := hord
  obtain ⟨hO, hL, hP⟩ := hord
  obtain ⟨_, hD, -⟩ := id hpad
  have hd1 := kDg_le l vn
  have hd2 := kDg_le l (kDg l vn).2
  refine ks_intro (by decide) (Nat.le_of_ble_eq_true rfl) (fun κ hκ hRt => ?_)
  refine ks_cv (ls := [(0, ks_ref g od), (1, ks_ref g pd)]) ?_ rfl rfl rfl
  have hF : ks_Fr h h od (od + 3) := ks_Fr.rf
  refine ks_aload_n hκ 0 0 dX1_number_0 rfl ?_
  refine ks_aload_n hκ 1 1 dX1_number_1 rfl ?_
  refine ks_intcV1 hκ 2 dX1_number_2 kc_X1_59 (c_Orders_digit hord0 hpad hap (by omega) hvs) hO rfl (by decide) (Nat.le_of_ble_eq_true rfl) (by decide) (by decide) (fun r2 xh1 hp2 => ?_)
  obtain ⟨rfl, hord, hF9⟩ := hp2
  have hord1 := hord
  obtain ⟨hO, hL, hP⟩ := hord
  replace hD := hF9.at hD (by omega)
  replace hpad := hpad.fr hF9 (by omega)
  replace hF := hF.tr (hF9.wd (by omega) (by omega))
  refine ks_istore_n hκ 5 2 [(2, _), (0, _), (1, _)] dX1_number_5 rfl (by decide) rfl ?_
  refine ks_iload_n hκ 6 0 dX1_number_6 rfl ?_
  refine ks_if_gt hκ 7 12 dX1_number_7 rfl (fun c7 => ?_) (fun c7 => ?_)
  · skip
    refine ks_aload_n hκ 12 1 dX1_number_12 rfl ?_
    refine ks_aload_n hκ 13 2 dX1_number_13 rfl ?_
    refine ks_intcV1 hκ 14 dX1_number_14 kc_X1_59 (c_Orders_digit hord1 hpad hap (by omega) hvs) hO rfl (by decide) (Nat.le_of_ble_eq_true rfl) (by decide) (by decide) (fun r14 xh2 hp14 => ?_)
    obtain ⟨rfl, hord, hF9⟩ := hp14
    have hord1 := hord
    obtain ⟨hO, hL, hP⟩ := hord
    replace hD := hF9.at hD (by omega)
    replace hpad := hpad.fr hF9 (by omega)
    replace hF := hF.tr (hF9.wd (by omega) (by omega))
    refine ks_istore_n hκ 17 3 [(3, _), (2, _), (0, _), (1, _)] dX1_number_17 rfl (by decide) rfl ?_
    refine ks_iload_n hκ 18 0 dX1_number_18 rfl ?_
    refine ks_if_ge hκ 19 26 dX1_number_19 rfl (fun c19 => ?_) (fun c19 => ?_)
    · skip
      refine ks_bipush hκ 26 (nI 10) dX1_number_26 kq_b10 ?_
      refine ks_iload_n hκ 28 1 dX1_number_28 rfl ?_
      refine ks_imul hκ 29 dX1_number_29 ?_
      refine ks_iload_n hκ 30 0 dX1_number_30 rfl ?_
      refine ks_iadd hκ 31 dX1_number_31 ?_
      refine ks_iret hκ 32 hRt dX1_number_32 (by decide) (by decide) rfl ?_
      refine ⟨_, rfl, ?_, ?_, hF⟩
      · unfold kNm
        first | rw [if_neg (Int32.not_le.mpr c7), if_neg (Int32.not_lt.mpr c19)] | rw [if_neg (Int32.not_le.mpr c7), if_pos (Int32.not_le.mp c19)]
      · unfold kNm
        first | (rw [if_neg (Int32.not_le.mpr c7), if_neg (Int32.not_lt.mpr c19)]; exact hord1) | (rw [if_neg (Int32.not_le.mpr c7), if_pos (Int32.not_le.mp c19)]; exact hord1)
    · skip
      refine ks_iload_n hκ 22 1 dX1_number_22 rfl ?_
      refine ks_goto hκ 23 32 dX1_number_23 rfl ?_
      refine ks_iret hκ 32 hRt dX1_number_32 (by decide) (by decide) rfl ?_
      refine ⟨_, rfl, ?_, ?_, hF⟩
      · unfold kNm
        first | rw [if_neg (Int32.not_le.mpr c7), if_neg (Int32.not_lt.mpr c19)] | rw [if_neg (Int32.not_le.mpr c7), if_pos (Int32.not_le.mp c19)]
      · unfold kNm
        first | (rw [if_neg (Int32.not_le.mpr c7), if_neg (Int32.not_lt.mpr c19)]; exact hord1) | (rw [if_neg (Int32.not_le.mpr c7), if_pos (Int32.not_le.mp c19)]; exact hord1)
  · skip
    refine ks_iload_n hκ 10 0 dX1_number_10 rfl ?_
    refine ks_iret hκ 11 hRt dX1_number_11 (by decide) (by decide) rfl ?_
    have hq : kNm l vn = kDg l vn := by
      unfold kNm
      rw [if_pos (Int32.not_lt.mp c7)]
    rw [hq]
    exact ⟨_, rfl, rfl, hord1, hF⟩
set_option maxRecDepth 100000 in
set_option maxHeartbeats 4000000 in
theorem c_Orders_readSign {g : ks_G} {h : ks_H} {od pd vs vn : Nat} {LT PT : Nat → Int32} {l : List Int32} {x : Int32} (hord : kOrdR g h od LT PT vs vn) (hpad : kPad g h pd l) (hap : od + 3 ≤ pd ∨ pd + 2 ≤ od) (hvn : vn < 1000) (hvs : vs < 1000) : ks_Met g (yX1_readSign, cX1_readSign, 3, some .boolean) 1 0 0 [ks_ref g od, ks_ref g pd, .int x] h (ks_Ph (fun r h' => r = kB1 (kSg l vn x).1 ∧ kOrdR g h' od LT PT vs (kSg l vn x).2 ∧ ks_Fr h h' od (od + 3))) := by
  have hord0 := hord
  obtain ⟨hO, hL, hP⟩ := hord
  obtain ⟨_, hD, -⟩ := id hpad
  refine ks_intro (by decide) (Nat.le_of_ble_eq_true rfl) (fun κ hκ hRt => ?_)
  refine ks_cv (ls := [(0, ks_ref g od), (1, ks_ref g pd), (2, .int x)]) ?_ rfl rfl rfl
  have hF : ks_Fr h h od (od + 3) := ks_Fr.rf
  refine ks_aload_n hκ 0 1 dX1_readSign_0 rfl ?_
  refine ks_aload_n hκ 1 0 dX1_readSign_1 rfl ?_
  refine ks_get hκ 2 dX1_readSign_2 kf_X1_22 hO rfl ?_
  refine ks_pureV1 hκ 5 dX1_readSign_5 kc_X1_42 (c_Pad_signAt hpad (by omega)) hD rfl (by decide) (Nat.le_of_ble_eq_true rfl) (by decide) (by decide) ?_
  refine ks_iload_n hκ 8 2 dX1_readSign_8 rfl ?_
  refine ks_icmp_eq hκ 9 14 dX1_readSign_9 rfl (fun c9 => ?_) (fun c9 => ?_)
  · skip
    refine ks_aload_n hκ 14 0 dX1_readSign_14 rfl ?_
    refine ks_dup hκ 15 dX1_readSign_15 rfl ?_
    refine ks_get hκ 16 dX1_readSign_16 kf_X1_22 hO rfl ?_
    refine ks_iconst hκ 19 (nI 1) dX1_readSign_19 kq_i1 ?_
    refine ks_iaddN hκ 20 dX1_readSign_20 ?_
    refine ks_putS hκ 21 [_, _, _, _] dX1_readSign_21 kf_X1_22 hO rfl rfl (Nat.le_of_ble_eq_true rfl) rfl ?_
    refine ks_gen (fun xh1 exh1 => ?_)
    replace hO := ks_gs exh1 hO
    replace hL := ks_gn exh1 (ks_nb (b := od) (i := 0) (j := 1) rfl) hL
    replace hP := ks_gn exh1 (ks_nb (b := od) (i := 0) (j := 2) rfl) hP
    replace hD := ks_gn exh1 (by omega) hD
    replace hpad := hpad.fr (ks_Fr.one exh1) (by omega)
    replace hF := ks_Fr.st hF exh1 (by omega) (by omega)
    clear exh1
    refine ks_iconst hκ 24 (nI 1) dX1_readSign_24 kq_i1 ?_
    refine ks_iret hκ 25 hRt dX1_readSign_25 (by decide) (by decide) (by decide) ?_
    have hq : kSg l vn x = (true, vn + 1) := if_pos c9
    rw [hq]
    exact ⟨_, rfl, rfl, ⟨hO, hL, hP⟩, hF⟩
  · skip
    refine ks_iconst hκ 12 (nI 0) dX1_readSign_12 kq_i0 ?_
    refine ks_iret hκ 13 hRt dX1_readSign_13 (by decide) (by decide) (by decide) ?_
    have hq : kSg l vn x = (false, vn) := if_neg c9
    rw [hq]
    exact ⟨_, rfl, rfl, hord0, hF⟩
set_option maxRecDepth 100000 in
set_option maxHeartbeats 4000000 in
theorem c_Orders_keep {g : ks_G} {h : ks_H} {od vs vn vp : Nat} {LT PT : Nat → Int32} {x : Int32} (hord : kOrdR g h od LT PT vs vn) (hvs : vs < 27) (hvp : vp < 3) : ks_Met g (yX1_keep, cX1_keep, 3, some .boolean) 1 0 0 [ks_ref g od, .int (nI vp), .int x] h (ks_Ph (fun r h' => r = nI 1 ∧ kOrdR g h' od LT (upd PT (vs * 3 + vp) x) vs vn ∧ ks_Fr h h' od (od + 3))) := by
  have hord0 := hord
  obtain ⟨hO, hL, hP⟩ := hord
  refine ks_intro (by decide) (Nat.le_of_ble_eq_true rfl) (fun κ hκ hRt => ?_)
  refine ks_cv (ls := [(0, ks_ref g od), (1, .int (nI vp)), (2, .int x)]) ?_ rfl rfl rfl
  have hF : ks_Fr h h od (od + 3) := ks_Fr.rf
  refine ks_aload_n hκ 0 0 dX1_keep_0 rfl ?_
  refine ks_get hκ 1 dX1_keep_1 kf_X1_18 hO rfl ?_
  refine ks_iload_n hκ 4 1 dX1_keep_4 rfl ?_
  refine ks_pureS2 hκ 5 dX1_keep_5 kc_X1_25 (c_Orders_hasPart) (by decide) (Nat.le_of_ble_eq_true rfl) (by decide) (by decide) ?_
  refine ks_if_ne hκ 8 13 dX1_keep_8 rfl (fun c8 => ?_) (fun c8 => ?_)
  · skip
    refine ks_aload_n hκ 13 0 dX1_keep_13 rfl ?_
    refine ks_get hκ 14 dX1_keep_14 kf_X1_15 hO rfl ?_
    refine ks_aload_n hκ 17 0 dX1_keep_17 rfl ?_
    refine ks_get hκ 18 dX1_keep_18 kf_X1_18 hO rfl ?_
    refine ks_iconst hκ 21 (nI 3) dX1_keep_21 kq_i3 ?_
    refine ks_imulN hκ 22 dX1_keep_22 ?_
    refine ks_iload_n hκ 23 1 dX1_keep_23 rfl ?_
    refine ks_iaddN hκ 24 dX1_keep_24 ?_
    refine ks_iload_n hκ 25 2 dX1_keep_25 rfl ?_
    refine ks_iast hκ 26 (((vs * 3) + vp)) dX1_keep_26 hP rfl (by omega) (by decide) ?_
    refine ks_gen (fun xh1 exh1 => ?_)
    replace hO := ks_gn exh1 (ks_nb (b := od) (i := 2) (j := 0) rfl) hO
    replace hL := ks_gn exh1 (ks_nb (b := od) (i := 2) (j := 1) rfl) hL
    replace hP := ks_gs exh1 hP
    replace hF := ks_Fr.st hF exh1 (by omega) (by omega)
    clear exh1
    refine ks_iconst hκ 27 (nI 1) dX1_keep_27 kq_i1 ?_
    refine ks_iret hκ 28 hRt dX1_keep_28 (by decide) (by decide) (by decide) ?_
    exact ⟨_, rfl, rfl, ⟨hO, hL, hP⟩, hF⟩
  · exfalso
    exact absurd c8 (by rw [kHP_1 hvs hvp]; decide)
set_option maxRecDepth 100000 in
set_option maxHeartbeats 4000000 in
theorem c_Orders_readDigit {g : ks_G} {h : ks_H} {od pd vs vn vp : Nat} {LT PT : Nat → Int32} {l : List Int32} (hord : kOrdR g h od LT PT vs vn) (hpad : kPad g h pd l) (hap : od + 3 ≤ pd ∨ pd + 2 ≤ od) (hvn : vn < 980) (hvs : vs < 27) (hvp : vp < 3) : ks_Met g (yX1_readDigit, cX1_readDigit, 4, some .boolean) 3 0 0 [ks_ref g od, ks_ref g pd, .int (nI vp)] h (ks_Ph (fun r h' => r = kB1 (kRD l vn).1 ∧ (∃ PT1, kOrdR g h' od LT PT1 vs (kRD l vn).2.2 ∧ (∀ i, i < vs * 3 + vp → PT1 i = PT i) ∧ ((kRD l vn).1 = true → PT1 (vs * 3 + vp) = (kRD l vn).2.1)) ∧ ks_Fr h h' od (od + 3))) := by
  have hord0 := hord
  obtain ⟨hO, hL, hP⟩ := hord
  obtain ⟨_, hD, -⟩ := id hpad
  refine ks_intro (by decide) (Nat.le_of_ble_eq_true rfl) (fun κ hκ hRt => ?_)
  refine ks_cv (ls := [(0, ks_ref g od), (1, ks_ref g pd), (2, .int (nI vp))]) ?_ rfl rfl rfl
  have hF : ks_Fr h h od (od + 3) := ks_Fr.rf
  refine ks_aload_n hκ 0 0 dX1_readDigit_0 rfl ?_
  refine ks_aload_n hκ 1 1 dX1_readDigit_1 rfl ?_
  refine ks_intcV1 hκ 2 dX1_readDigit_2 kc_X1_59 (c_Orders_digit hord0 hpad hap (by omega) (by omega)) hO rfl (by decide) (Nat.le_of_ble_eq_true rfl) (by decide) (by decide) (fun r2 xh1 hp2 => ?_)
  obtain ⟨rfl, hord, hF9⟩ := hp2
  have hord1 := hord
  obtain ⟨hO, hL, hP⟩ := hord
  replace hD := hF9.at hD (by omega)
  replace hpad := hpad.fr hF9 (by omega)
  replace hF := hF.tr (hF9.wd (by omega) (by omega))
  refine ks_istore_n hκ 5 3 [(3, _), (0, _), (1, _), (2, _)] dX1_readDigit_5 rfl (by decide) rfl ?_
  refine ks_iload_n hκ 6 0 dX1_readDigit_6 rfl ?_
  refine ks_if_lt hκ 7 23 dX1_readDigit_7 rfl (fun c7 => ?_) (fun c7 => ?_)
  · skip
    refine ks_iconst hκ 23 (nI 0) dX1_readDigit_23 kq_i0 ?_
    refine ks_iret hκ 24 hRt dX1_readDigit_24 (by decide) (by decide) (by decide) ?_
    first
      | (have hq : kRD l vn = (false, nI 0, (kDg l vn).2) := if_pos c7; rw [hq]; exact ⟨_, rfl, rfl, ⟨_, hord1, fun _ _ => rfl, fun q => by cases q⟩, hF⟩)
      | (have hq : kRD l vn = (true, (kDg l vn).1, (kDg l vn).2) := if_neg c7; rw [hq]; exact ⟨_, rfl, rfl, ⟨_, hord2, fun i hi => pk_un (by omega), fun _ => pk_us⟩, hF⟩)
  · skip
    refine ks_aload_n hκ 10 1 dX1_readDigit_10 rfl ?_
    refine ks_iload_n hκ 11 3 dX1_readDigit_11 rfl ?_
    refine ks_iload_n hκ 12 0 dX1_readDigit_12 rfl ?_
    refine ks_intcV2 hκ 13 dX1_readDigit_13 kc_X1_63 (c_Orders_keep hord1 hvs hvp) hO rfl (by decide) (Nat.le_of_ble_eq_true rfl) (by decide) (by decide) (fun r13 xh2 hp13 => ?_)
    obtain ⟨rfl, hord, hF9⟩ := hp13
    have hord2 := hord
    replace hD := hF9.at hD (by omega)
    replace hpad := hpad.fr hF9 (by omega)
    replace hF := hF.tr (hF9.wd (by omega) (by omega))
    refine ks_if_eq hκ 16 23 dX1_readDigit_16 rfl (fun c16 => ?_) (fun c16 => ?_)
    · skip
      exact absurd c16 (by decide)
    · skip
      refine ks_iconst hκ 19 (nI 1) dX1_readDigit_19 kq_i1 ?_
      refine ks_goto hκ 20 24 dX1_readDigit_20 rfl ?_
      refine ks_iret hκ 24 hRt dX1_readDigit_24 (by decide) (by decide) (by decide) ?_
      first
        | (have hq : kRD l vn = (false, nI 0, (kDg l vn).2) := if_pos c7; rw [hq]; exact ⟨_, rfl, rfl, ⟨_, hord1, fun _ _ => rfl, fun q => by cases q⟩, hF⟩)
        | (have hq : kRD l vn = (true, (kDg l vn).1, (kDg l vn).2) := if_neg c7; rw [hq]; exact ⟨_, rfl, rfl, ⟨_, hord2, fun i hi => pk_un (by omega), fun _ => pk_us⟩, hF⟩)
set_option maxRecDepth 100000 in
set_option maxHeartbeats 4000000 in
theorem c_Orders_readNumber {g : ks_G} {h : ks_H} {od pd vs vn vp : Nat} {LT PT : Nat → Int32} {l : List Int32} (hord : kOrdR g h od LT PT vs vn) (hpad : kPad g h pd l) (hap : od + 3 ≤ pd ∨ pd + 2 ≤ od) (hvn : vn < 980) (hvs : vs < 27) (hvp : vp < 3) : ks_Met g (yX1_readNumber, cX1_readNumber, 4, some .boolean) 3 0 0 [ks_ref g od, ks_ref g pd, .int (nI vp)] h (ks_Ph (fun r h' => r = kB1 (kRN l vn).1 ∧ (∃ PT1, kOrdR g h' od LT PT1 vs (kRN l vn).2.2 ∧ (∀ i, i < vs * 3 + vp → PT1 i = PT i) ∧ ((kRN l vn).1 = true → PT1 (vs * 3 + vp) = (kRN l vn).2.1)) ∧ ks_Fr h h' od (od + 3))) := by
  have hord0 := hord
  obtain ⟨hO, hL, hP⟩ := hord
  obtain ⟨_, hD, -⟩ := id hpad
  refine ks_intro (by decide) (Nat.le_of_ble_eq_true rfl) (fun κ hκ hRt => ?_)
  refine ks_cv (ls := [(0, ks_ref g od), (1, ks_ref g pd), (2, .int (nI vp))]) ?_ rfl rfl rfl
  have hF : ks_Fr h h od (od + 3) := ks_Fr.rf
  refine ks_aload_n hκ 0 0 dX1_readNumber_0 rfl ?_
  refine ks_aload_n hκ 1 1 dX1_readNumber_1 rfl ?_
  refine ks_intcV1 hκ 2 dX1_readNumber_2 kc_X1_66 (c_Orders_number hord0 hpad hap (by omega) (by omega)) hO rfl (by decide) (Nat.le_of_ble_eq_true rfl) (by decide) (by decide) (fun r2 xh1 hp2 => ?_)
  obtain ⟨rfl, hord, hF9⟩ := hp2
  have hord1 := hord
  obtain ⟨hO, hL, hP⟩ := hord
  replace hD := hF9.at hD (by omega)
  replace hpad := hpad.fr hF9 (by omega)
  replace hF := hF.tr (hF9.wd (by omega) (by omega))
  refine ks_istore_n hκ 5 3 [(3, _), (0, _), (1, _), (2, _)] dX1_readNumber_5 rfl (by decide) rfl ?_
  refine ks_iload_n hκ 6 0 dX1_readNumber_6 rfl ?_
  refine ks_if_lt hκ 7 23 dX1_readNumber_7 rfl (fun c7 => ?_) (fun c7 => ?_)
  · skip
    refine ks_iconst hκ 23 (nI 0) dX1_readNumber_23 kq_i0 ?_
    refine ks_iret hκ 24 hRt dX1_readNumber_24 (by decide) (by decide) (by decide) ?_
    first
      | (have hq : kRN l vn = (false, nI 0, (kNm l vn).2) := if_pos c7; rw [hq]; exact ⟨_, rfl, rfl, ⟨_, hord1, fun _ _ => rfl, fun q => by cases q⟩, hF⟩)
      | (have hq : kRN l vn = (true, (kNm l vn).1, (kNm l vn).2) := if_neg c7; rw [hq]; exact ⟨_, rfl, rfl, ⟨_, hord2, fun i hi => pk_un (by omega), fun _ => pk_us⟩, hF⟩)
  · skip
    refine ks_aload_n hκ 10 1 dX1_readNumber_10 rfl ?_
    refine ks_iload_n hκ 11 3 dX1_readNumber_11 rfl ?_
    refine ks_iload_n hκ 12 0 dX1_readNumber_12 rfl ?_
    refine ks_intcV2 hκ 13 dX1_readNumber_13 kc_X1_63 (c_Orders_keep hord1 hvs hvp) hO rfl (by decide) (Nat.le_of_ble_eq_true rfl) (by decide) (by decide) (fun r13 xh2 hp13 => ?_)
    obtain ⟨rfl, hord, hF9⟩ := hp13
    have hord2 := hord
    replace hD := hF9.at hD (by omega)
    replace hpad := hpad.fr hF9 (by omega)
    replace hF := hF.tr (hF9.wd (by omega) (by omega))
    refine ks_if_eq hκ 16 23 dX1_readNumber_16 rfl (fun c16 => ?_) (fun c16 => ?_)
    · skip
      exact absurd c16 (by decide)
    · skip
      refine ks_iconst hκ 19 (nI 1) dX1_readNumber_19 kq_i1 ?_
      refine ks_goto hκ 20 24 dX1_readNumber_20 rfl ?_
      refine ks_iret hκ 24 hRt dX1_readNumber_24 (by decide) (by decide) (by decide) ?_
      first
        | (have hq : kRN l vn = (false, nI 0, (kNm l vn).2) := if_pos c7; rw [hq]; exact ⟨_, rfl, rfl, ⟨_, hord1, fun _ _ => rfl, fun q => by cases q⟩, hF⟩)
        | (have hq : kRN l vn = (true, (kNm l vn).1, (kNm l vn).2) := if_neg c7; rw [hq]; exact ⟨_, rfl, rfl, ⟨_, hord2, fun i hi => pk_un (by omega), fun _ => pk_us⟩, hF⟩)
set_option maxRecDepth 100000 in
set_option maxHeartbeats 4000000 in
theorem c_Orders_readBy {g : ks_G} {h : ks_H} {od pd vs vn vp : Nat} {LT PT : Nat → Int32} {l : List Int32} (hord : kOrdR g h od LT PT vs vn) (hpad : kPad g h pd l) (hap : od + 3 ≤ pd ∨ pd + 2 ≤ od) (hvn : vn < 980) (hvs : vs < 27) (hvp : vp < 3) : ks_Met g (yX1_readBy, cX1_readBy, 5, some .boolean) 3 0 0 [ks_ref g od, ks_ref g pd, .int (nI vp)] h (ks_Ph (fun r h' => r = kB1 (kRB l vn).1 ∧ (∃ PT1, kOrdR g h' od LT PT1 vs (kRB l vn).2.2 ∧ (∀ i, i < vs * 3 + vp → PT1 i = PT i) ∧ ((kRB l vn).1 = true → PT1 (vs * 3 + vp) = (kRB l vn).2.1)) ∧ ks_Fr h h' od (od + 3))) := by
  have hord0 := hord
  obtain ⟨hO, hL, hP⟩ := hord
  obtain ⟨_, hD, -⟩ := id hpad
  refine ks_intro (by decide) (Nat.le_of_ble_eq_true rfl) (fun κ hκ hRt => ?_)
  refine ks_cv (ls := [(0, ks_ref g od), (1, ks_ref g pd), (2, .int (nI vp))]) ?_ rfl rfl rfl
  have hF : ks_Fr h h od (od + 3) := ks_Fr.rf
  refine ks_aload_n hκ 0 1 dX1_readBy_0 rfl ?_
  refine ks_aload_n hκ 1 0 dX1_readBy_1 rfl ?_
  refine ks_get hκ 2 dX1_readBy_2 kf_X1_22 hO rfl ?_
  refine ks_pureV1 hκ 5 dX1_readBy_5 kc_X1_42 (c_Pad_signAt hpad (by omega)) hD rfl (by decide) (Nat.le_of_ble_eq_true rfl) (by decide) (by decide) ?_
  refine ks_bipush hκ 8 (nI 45) dX1_readBy_8 kq_b45 ?_
  refine ks_icmp_ne hκ 10 17 dX1_readBy_10 rfl (fun c10 => ?_) (fun c10 => ?_)
  · skip
    refine ks_iconst hκ 17 (nI 0) dX1_readBy_17 kq_i0 ?_
    refine ks_istore_n hκ 18 3 [(3, _), (0, _), (1, _), (2, _)] dX1_readBy_18 rfl (by decide) rfl ?_
    refine ks_aload_n hκ 19 1 dX1_readBy_19 rfl ?_
    refine ks_aload_n hκ 20 2 dX1_readBy_20 rfl ?_
    refine ks_bipush hκ 21 (nI 45) dX1_readBy_21 kq_b45 ?_
    refine ks_intcV2 hκ 23 dX1_readBy_23 kc_X1_38 (c_Orders_readSign hord0 hpad hap (by omega) (by omega)) hO rfl (by decide) (Nat.le_of_ble_eq_true rfl) (by decide) (by decide) (fun r23 xh1 hp23 => ?_)
    obtain ⟨rfl, hord, hF9⟩ := hp23
    have hord1 := hord
    obtain ⟨hO, hL, hP⟩ := hord
    replace hD := hF9.at hD (by omega)
    replace hpad := hpad.fr hF9 (by omega)
    replace hF := hF.tr (hF9.wd (by omega) (by omega))
    refine ks_if_ne hκ 26 41 dX1_readBy_26 rfl (fun c26 => ?_) (fun c26 => ?_)
    · skip
      have c26 : l.getD vn (nI 0) = nI 45 := by
        by_cases q : l.getD vn (nI 0) = nI 45
        · exact q
        · exact absurd (by rw [show kSg l vn (nI 45) = (false, vn) from if_neg q]; exact kB1_f) c26
      rw [show kSg l vn (nI 45) = (true, vn + 1) from if_pos c26] at hord1 hO
      refine ks_aload_n hκ 41 1 dX1_readBy_41 rfl ?_
      refine ks_aload_n hκ 42 2 dX1_readBy_42 rfl ?_
      refine ks_intcV1 hκ 43 dX1_readBy_43 kc_X1_66 (c_Orders_number (vn := vn + 1) hord1 hpad hap (by omega) (by omega)) hO rfl (by decide) (Nat.le_of_ble_eq_true rfl) (by decide) (by decide) (fun r43 xh2 hp43 => ?_)
      obtain ⟨rfl, hord, hF9⟩ := hp43
      have hord1 := hord
      obtain ⟨hO, hL, hP⟩ := hord
      replace hD := hF9.at hD (by omega)
      replace hpad := hpad.fr hF9 (by omega)
      replace hF := hF.tr (hF9.wd (by omega) (by omega))
      refine ks_istore hκ 46 4 [(4, _), (3, _), (0, _), (1, _), (2, _)] dX1_readBy_46 (by decide) rfl ?_
      refine ks_iload hκ 48 0 dX1_readBy_48 rfl ?_
      refine ks_if_lt hκ 50 77 dX1_readBy_50 rfl (fun c50 => ?_) (fun c50 => ?_)
      · skip
        refine ks_iconst hκ 77 (nI 0) dX1_readBy_77 kq_i0 ?_
        refine ks_iret hκ 78 hRt dX1_readBy_78 (by decide) (by decide) (by decide) ?_
        first
          | (have hq : kRB l vn = (false, nI 0, (kNm l (vn + 1)).2) := (if_pos c26).trans (if_pos c50); rw [hq]; exact ⟨_, rfl, rfl, ⟨_, hord1, fun _ _ => rfl, fun q => by cases q⟩, hF⟩)
          | (have hq : kRB l vn = (false, nI 0, (kNm l (vn + 1)).2) := (if_neg c26).trans ((if_pos c36).trans (if_pos c50)); rw [hq]; exact ⟨_, rfl, rfl, ⟨_, hord1, fun _ _ => rfl, fun q => by cases q⟩, hF⟩)
          | (have hq : kRB l vn = (true, 0 - (kNm l (vn + 1)).1, (kNm l (vn + 1)).2) := (if_pos c26).trans (if_neg c50); rw [hq]; exact ⟨_, rfl, rfl, ⟨_, hord2, fun i hi => pk_un (by omega), fun _ => pk_us⟩, hF⟩)
          | (have hq : kRB l vn = (true, (kNm l (vn + 1)).1, (kNm l (vn + 1)).2) := (if_neg c26).trans ((if_pos c36).trans (if_neg c50)); rw [hq]; exact ⟨_, rfl, rfl, ⟨_, hord2, fun i hi => pk_un (by omega), fun _ => pk_us⟩, hF⟩)
          | exact absurd c10 c26
          | exact absurd c26 c10
      · skip
        refine ks_aload_n hκ 53 2 dX1_readBy_53 rfl ?_
        refine ks_iload_n hκ 54 4 dX1_readBy_54 rfl ?_
        refine ks_iload_n hκ 55 1 dX1_readBy_55 rfl ?_
        refine ks_if_eq hκ 56 65 dX1_readBy_56 rfl (fun c56 => ?_) (fun c56 => ?_)
        · skip
          refine ks_iload hκ 65 0 dX1_readBy_65 rfl ?_
          refine ks_intcV2 hκ 67 dX1_readBy_67 kc_X1_63 (c_Orders_keep hord1 hvs hvp) hO rfl (by decide) (Nat.le_of_ble_eq_true rfl) (by decide) (by decide) (fun r67 xh3 hp67 => ?_)
          obtain ⟨rfl, hord, hF9⟩ := hp67
          have hord2 := hord
          replace hD := hF9.at hD (by omega)
          replace hpad := hpad.fr hF9 (by omega)
          replace hF := hF.tr (hF9.wd (by omega) (by omega))
          refine ks_if_eq hκ 70 77 dX1_readBy_70 rfl (fun c70 => ?_) (fun c70 => ?_)
          · skip
            exact absurd c70 (by decide)
          · skip
            refine ks_iconst hκ 73 (nI 1) dX1_readBy_73 kq_i1 ?_
            refine ks_goto hκ 74 78 dX1_readBy_74 rfl ?_
            refine ks_iret hκ 78 hRt dX1_readBy_78 (by decide) (by decide) (by decide) ?_
            first
              | (have hq : kRB l vn = (false, nI 0, (kNm l (vn + 1)).2) := (if_pos c26).trans (if_pos c50); rw [hq]; exact ⟨_, rfl, rfl, ⟨_, hord1, fun _ _ => rfl, fun q => by cases q⟩, hF⟩)
              | (have hq : kRB l vn = (false, nI 0, (kNm l (vn + 1)).2) := (if_neg c26).trans ((if_pos c36).trans (if_pos c50)); rw [hq]; exact ⟨_, rfl, rfl, ⟨_, hord1, fun _ _ => rfl, fun q => by cases q⟩, hF⟩)
              | (have hq : kRB l vn = (true, 0 - (kNm l (vn + 1)).1, (kNm l (vn + 1)).2) := (if_pos c26).trans (if_neg c50); rw [hq]; exact ⟨_, rfl, rfl, ⟨_, hord2, fun i hi => pk_un (by omega), fun _ => pk_us⟩, hF⟩)
              | (have hq : kRB l vn = (true, (kNm l (vn + 1)).1, (kNm l (vn + 1)).2) := (if_neg c26).trans ((if_pos c36).trans (if_neg c50)); rw [hq]; exact ⟨_, rfl, rfl, ⟨_, hord2, fun i hi => pk_un (by omega), fun _ => pk_us⟩, hF⟩)
              | exact absurd c10 c26
              | exact absurd c26 c10
        · skip
          exact absurd (by decide) c56
    · skip
      have c26 : ¬ l.getD vn (nI 0) = nI 45 := fun q => absurd c26 (by rw [show kSg l vn (nI 45) = (true, vn + 1) from if_pos q]; exact kB1_t)
      rw [show kSg l vn (nI 45) = (false, vn) from if_neg c26] at hord1 hO
      refine ks_aload_n hκ 29 1 dX1_readBy_29 rfl ?_
      refine ks_aload_n hκ 30 2 dX1_readBy_30 rfl ?_
      refine ks_bipush hκ 31 (nI 43) dX1_readBy_31 kq_b43 ?_
      refine ks_intcV2 hκ 33 dX1_readBy_33 kc_X1_38 (c_Orders_readSign hord1 hpad hap (by omega) (by omega)) hO rfl (by decide) (Nat.le_of_ble_eq_true rfl) (by decide) (by decide) (fun r33 xh4 hp33 => ?_)
      obtain ⟨rfl, hord, hF9⟩ := hp33
      have hord1 := hord
      obtain ⟨hO, hL, hP⟩ := hord
      replace hD := hF9.at hD (by omega)
      replace hpad := hpad.fr hF9 (by omega)
      replace hF := hF.tr (hF9.wd (by omega) (by omega))
      refine ks_if_ne hκ 36 41 dX1_readBy_36 rfl (fun c36 => ?_) (fun c36 => ?_)
      · skip
        have c36 : l.getD vn (nI 0) = nI 43 := by
          by_cases q : l.getD vn (nI 0) = nI 43
          · exact q
          · exact absurd (by rw [show kSg l vn (nI 43) = (false, vn) from if_neg q]; exact kB1_f) c36
        rw [show kSg l vn (nI 43) = (true, vn + 1) from if_pos c36] at hord1 hO
        refine ks_aload_n hκ 41 1 dX1_readBy_41 rfl ?_
        refine ks_aload_n hκ 42 2 dX1_readBy_42 rfl ?_
        refine ks_intcV1 hκ 43 dX1_readBy_43 kc_X1_66 (c_Orders_number (vn := vn + 1) hord1 hpad hap (by omega) (by omega)) hO rfl (by decide) (Nat.le_of_ble_eq_true rfl) (by decide) (by decide) (fun r43 xh5 hp43 => ?_)
        obtain ⟨rfl, hord, hF9⟩ := hp43
        have hord1 := hord
        obtain ⟨hO, hL, hP⟩ := hord
        replace hD := hF9.at hD (by omega)
        replace hpad := hpad.fr hF9 (by omega)
        replace hF := hF.tr (hF9.wd (by omega) (by omega))
        refine ks_istore hκ 46 4 [(4, _), (3, _), (0, _), (1, _), (2, _)] dX1_readBy_46 (by decide) rfl ?_
        refine ks_iload hκ 48 0 dX1_readBy_48 rfl ?_
        refine ks_if_lt hκ 50 77 dX1_readBy_50 rfl (fun c50 => ?_) (fun c50 => ?_)
        · skip
          refine ks_iconst hκ 77 (nI 0) dX1_readBy_77 kq_i0 ?_
          refine ks_iret hκ 78 hRt dX1_readBy_78 (by decide) (by decide) (by decide) ?_
          first
            | (have hq : kRB l vn = (false, nI 0, (kNm l (vn + 1)).2) := (if_pos c26).trans (if_pos c50); rw [hq]; exact ⟨_, rfl, rfl, ⟨_, hord1, fun _ _ => rfl, fun q => by cases q⟩, hF⟩)
            | (have hq : kRB l vn = (false, nI 0, (kNm l (vn + 1)).2) := (if_neg c26).trans ((if_pos c36).trans (if_pos c50)); rw [hq]; exact ⟨_, rfl, rfl, ⟨_, hord1, fun _ _ => rfl, fun q => by cases q⟩, hF⟩)
            | (have hq : kRB l vn = (true, 0 - (kNm l (vn + 1)).1, (kNm l (vn + 1)).2) := (if_pos c26).trans (if_neg c50); rw [hq]; exact ⟨_, rfl, rfl, ⟨_, hord2, fun i hi => pk_un (by omega), fun _ => pk_us⟩, hF⟩)
            | (have hq : kRB l vn = (true, (kNm l (vn + 1)).1, (kNm l (vn + 1)).2) := (if_neg c26).trans ((if_pos c36).trans (if_neg c50)); rw [hq]; exact ⟨_, rfl, rfl, ⟨_, hord2, fun i hi => pk_un (by omega), fun _ => pk_us⟩, hF⟩)
            | exact absurd c10 c26
            | exact absurd c26 c10
        · skip
          refine ks_aload_n hκ 53 2 dX1_readBy_53 rfl ?_
          refine ks_iload_n hκ 54 4 dX1_readBy_54 rfl ?_
          refine ks_iload_n hκ 55 1 dX1_readBy_55 rfl ?_
          refine ks_if_eq hκ 56 65 dX1_readBy_56 rfl (fun c56 => ?_) (fun c56 => ?_)
          · skip
            refine ks_iload hκ 65 0 dX1_readBy_65 rfl ?_
            refine ks_intcV2 hκ 67 dX1_readBy_67 kc_X1_63 (c_Orders_keep hord1 hvs hvp) hO rfl (by decide) (Nat.le_of_ble_eq_true rfl) (by decide) (by decide) (fun r67 xh6 hp67 => ?_)
            obtain ⟨rfl, hord, hF9⟩ := hp67
            have hord2 := hord
            replace hD := hF9.at hD (by omega)
            replace hpad := hpad.fr hF9 (by omega)
            replace hF := hF.tr (hF9.wd (by omega) (by omega))
            refine ks_if_eq hκ 70 77 dX1_readBy_70 rfl (fun c70 => ?_) (fun c70 => ?_)
            · skip
              exact absurd c70 (by decide)
            · skip
              refine ks_iconst hκ 73 (nI 1) dX1_readBy_73 kq_i1 ?_
              refine ks_goto hκ 74 78 dX1_readBy_74 rfl ?_
              refine ks_iret hκ 78 hRt dX1_readBy_78 (by decide) (by decide) (by decide) ?_
              first
                | (have hq : kRB l vn = (false, nI 0, (kNm l (vn + 1)).2) := (if_pos c26).trans (if_pos c50); rw [hq]; exact ⟨_, rfl, rfl, ⟨_, hord1, fun _ _ => rfl, fun q => by cases q⟩, hF⟩)
                | (have hq : kRB l vn = (false, nI 0, (kNm l (vn + 1)).2) := (if_neg c26).trans ((if_pos c36).trans (if_pos c50)); rw [hq]; exact ⟨_, rfl, rfl, ⟨_, hord1, fun _ _ => rfl, fun q => by cases q⟩, hF⟩)
                | (have hq : kRB l vn = (true, 0 - (kNm l (vn + 1)).1, (kNm l (vn + 1)).2) := (if_pos c26).trans (if_neg c50); rw [hq]; exact ⟨_, rfl, rfl, ⟨_, hord2, fun i hi => pk_un (by omega), fun _ => pk_us⟩, hF⟩)
                | (have hq : kRB l vn = (true, (kNm l (vn + 1)).1, (kNm l (vn + 1)).2) := (if_neg c26).trans ((if_pos c36).trans (if_neg c50)); rw [hq]; exact ⟨_, rfl, rfl, ⟨_, hord2, fun i hi => pk_un (by omega), fun _ => pk_us⟩, hF⟩)
                | exact absurd c10 c26
                | exact absurd c26 c10
          · skip
            exact absurd (by decide) c56
      · skip
        have c36 : ¬ l.getD vn (nI 0) = nI 43 := fun q => absurd c36 (by rw [show kSg l vn (nI 43) = (true, vn + 1) from if_pos q]; exact kB1_t)
        rw [show kSg l vn (nI 43) = (false, vn) from if_neg c36] at hord1 hO
        refine ks_iconst hκ 39 (nI 0) dX1_readBy_39 kq_i0 ?_
        refine ks_iret hκ 40 hRt dX1_readBy_40 (by decide) (by decide) (by decide) ?_
        have hq : kRB l vn = (false, nI 0, vn) := (if_neg c26).trans (if_neg c36)
        rw [hq]
        exact ⟨_, rfl, rfl, ⟨_, hord1, fun _ _ => rfl, fun q => by cases q⟩, hF⟩
  · skip
    refine ks_iconst hκ 13 (nI 1) dX1_readBy_13 kq_i1 ?_
    refine ks_goto hκ 14 18 dX1_readBy_14 rfl ?_
    refine ks_istore_n hκ 18 3 [(3, _), (0, _), (1, _), (2, _)] dX1_readBy_18 rfl (by decide) rfl ?_
    refine ks_aload_n hκ 19 1 dX1_readBy_19 rfl ?_
    refine ks_aload_n hκ 20 2 dX1_readBy_20 rfl ?_
    refine ks_bipush hκ 21 (nI 45) dX1_readBy_21 kq_b45 ?_
    refine ks_intcV2 hκ 23 dX1_readBy_23 kc_X1_38 (c_Orders_readSign hord0 hpad hap (by omega) (by omega)) hO rfl (by decide) (Nat.le_of_ble_eq_true rfl) (by decide) (by decide) (fun r23 xh7 hp23 => ?_)
    obtain ⟨rfl, hord, hF9⟩ := hp23
    have hord1 := hord
    obtain ⟨hO, hL, hP⟩ := hord
    replace hD := hF9.at hD (by omega)
    replace hpad := hpad.fr hF9 (by omega)
    replace hF := hF.tr (hF9.wd (by omega) (by omega))
    refine ks_if_ne hκ 26 41 dX1_readBy_26 rfl (fun c26 => ?_) (fun c26 => ?_)
    · skip
      have c26 : l.getD vn (nI 0) = nI 45 := by
        by_cases q : l.getD vn (nI 0) = nI 45
        · exact q
        · exact absurd (by rw [show kSg l vn (nI 45) = (false, vn) from if_neg q]; exact kB1_f) c26
      rw [show kSg l vn (nI 45) = (true, vn + 1) from if_pos c26] at hord1 hO
      refine ks_aload_n hκ 41 1 dX1_readBy_41 rfl ?_
      refine ks_aload_n hκ 42 2 dX1_readBy_42 rfl ?_
      refine ks_intcV1 hκ 43 dX1_readBy_43 kc_X1_66 (c_Orders_number (vn := vn + 1) hord1 hpad hap (by omega) (by omega)) hO rfl (by decide) (Nat.le_of_ble_eq_true rfl) (by decide) (by decide) (fun r43 xh8 hp43 => ?_)
      obtain ⟨rfl, hord, hF9⟩ := hp43
      have hord1 := hord
      obtain ⟨hO, hL, hP⟩ := hord
      replace hD := hF9.at hD (by omega)
      replace hpad := hpad.fr hF9 (by omega)
      replace hF := hF.tr (hF9.wd (by omega) (by omega))
      refine ks_istore hκ 46 4 [(4, _), (3, _), (0, _), (1, _), (2, _)] dX1_readBy_46 (by decide) rfl ?_
      refine ks_iload hκ 48 0 dX1_readBy_48 rfl ?_
      refine ks_if_lt hκ 50 77 dX1_readBy_50 rfl (fun c50 => ?_) (fun c50 => ?_)
      · skip
        refine ks_iconst hκ 77 (nI 0) dX1_readBy_77 kq_i0 ?_
        refine ks_iret hκ 78 hRt dX1_readBy_78 (by decide) (by decide) (by decide) ?_
        first
          | (have hq : kRB l vn = (false, nI 0, (kNm l (vn + 1)).2) := (if_pos c26).trans (if_pos c50); rw [hq]; exact ⟨_, rfl, rfl, ⟨_, hord1, fun _ _ => rfl, fun q => by cases q⟩, hF⟩)
          | (have hq : kRB l vn = (false, nI 0, (kNm l (vn + 1)).2) := (if_neg c26).trans ((if_pos c36).trans (if_pos c50)); rw [hq]; exact ⟨_, rfl, rfl, ⟨_, hord1, fun _ _ => rfl, fun q => by cases q⟩, hF⟩)
          | (have hq : kRB l vn = (true, 0 - (kNm l (vn + 1)).1, (kNm l (vn + 1)).2) := (if_pos c26).trans (if_neg c50); rw [hq]; exact ⟨_, rfl, rfl, ⟨_, hord2, fun i hi => pk_un (by omega), fun _ => pk_us⟩, hF⟩)
          | (have hq : kRB l vn = (true, (kNm l (vn + 1)).1, (kNm l (vn + 1)).2) := (if_neg c26).trans ((if_pos c36).trans (if_neg c50)); rw [hq]; exact ⟨_, rfl, rfl, ⟨_, hord2, fun i hi => pk_un (by omega), fun _ => pk_us⟩, hF⟩)
          | exact absurd c10 c26
          | exact absurd c26 c10
      · skip
        refine ks_aload_n hκ 53 2 dX1_readBy_53 rfl ?_
        refine ks_iload_n hκ 54 4 dX1_readBy_54 rfl ?_
        refine ks_iload_n hκ 55 1 dX1_readBy_55 rfl ?_
        refine ks_if_eq hκ 56 65 dX1_readBy_56 rfl (fun c56 => ?_) (fun c56 => ?_)
        · skip
          exact absurd c56 (by decide)
        · skip
          refine ks_iload hκ 59 0 dX1_readBy_59 rfl ?_
          refine ks_ineg hκ 61 dX1_readBy_61 ?_
          refine ks_goto hκ 62 67 dX1_readBy_62 rfl ?_
          refine ks_intcV2 hκ 67 dX1_readBy_67 kc_X1_63 (c_Orders_keep hord1 hvs hvp) hO rfl (by decide) (Nat.le_of_ble_eq_true rfl) (by decide) (by decide) (fun r67 xh9 hp67 => ?_)
          obtain ⟨rfl, hord, hF9⟩ := hp67
          have hord2 := hord
          replace hD := hF9.at hD (by omega)
          replace hpad := hpad.fr hF9 (by omega)
          replace hF := hF.tr (hF9.wd (by omega) (by omega))
          refine ks_if_eq hκ 70 77 dX1_readBy_70 rfl (fun c70 => ?_) (fun c70 => ?_)
          · skip
            exact absurd c70 (by decide)
          · skip
            refine ks_iconst hκ 73 (nI 1) dX1_readBy_73 kq_i1 ?_
            refine ks_goto hκ 74 78 dX1_readBy_74 rfl ?_
            refine ks_iret hκ 78 hRt dX1_readBy_78 (by decide) (by decide) (by decide) ?_
            first
              | (have hq : kRB l vn = (false, nI 0, (kNm l (vn + 1)).2) := (if_pos c26).trans (if_pos c50); rw [hq]; exact ⟨_, rfl, rfl, ⟨_, hord1, fun _ _ => rfl, fun q => by cases q⟩, hF⟩)
              | (have hq : kRB l vn = (false, nI 0, (kNm l (vn + 1)).2) := (if_neg c26).trans ((if_pos c36).trans (if_pos c50)); rw [hq]; exact ⟨_, rfl, rfl, ⟨_, hord1, fun _ _ => rfl, fun q => by cases q⟩, hF⟩)
              | (have hq : kRB l vn = (true, 0 - (kNm l (vn + 1)).1, (kNm l (vn + 1)).2) := (if_pos c26).trans (if_neg c50); rw [hq]; exact ⟨_, rfl, rfl, ⟨_, hord2, fun i hi => pk_un (by omega), fun _ => pk_us⟩, hF⟩)
              | (have hq : kRB l vn = (true, (kNm l (vn + 1)).1, (kNm l (vn + 1)).2) := (if_neg c26).trans ((if_pos c36).trans (if_neg c50)); rw [hq]; exact ⟨_, rfl, rfl, ⟨_, hord2, fun i hi => pk_un (by omega), fun _ => pk_us⟩, hF⟩)
              | exact absurd c10 c26
              | exact absurd c26 c10
    · skip
      have c26 : ¬ l.getD vn (nI 0) = nI 45 := fun q => absurd c26 (by rw [show kSg l vn (nI 45) = (true, vn + 1) from if_pos q]; exact kB1_t)
      rw [show kSg l vn (nI 45) = (false, vn) from if_neg c26] at hord1 hO
      refine ks_aload_n hκ 29 1 dX1_readBy_29 rfl ?_
      refine ks_aload_n hκ 30 2 dX1_readBy_30 rfl ?_
      refine ks_bipush hκ 31 (nI 43) dX1_readBy_31 kq_b43 ?_
      refine ks_intcV2 hκ 33 dX1_readBy_33 kc_X1_38 (c_Orders_readSign hord1 hpad hap (by omega) (by omega)) hO rfl (by decide) (Nat.le_of_ble_eq_true rfl) (by decide) (by decide) (fun r33 xh10 hp33 => ?_)
      obtain ⟨rfl, hord, hF9⟩ := hp33
      have hord1 := hord
      obtain ⟨hO, hL, hP⟩ := hord
      replace hD := hF9.at hD (by omega)
      replace hpad := hpad.fr hF9 (by omega)
      replace hF := hF.tr (hF9.wd (by omega) (by omega))
      refine ks_if_ne hκ 36 41 dX1_readBy_36 rfl (fun c36 => ?_) (fun c36 => ?_)
      · skip
        have c36 : l.getD vn (nI 0) = nI 43 := by
          by_cases q : l.getD vn (nI 0) = nI 43
          · exact q
          · exact absurd (by rw [show kSg l vn (nI 43) = (false, vn) from if_neg q]; exact kB1_f) c36
        rw [show kSg l vn (nI 43) = (true, vn + 1) from if_pos c36] at hord1 hO
        refine ks_aload_n hκ 41 1 dX1_readBy_41 rfl ?_
        refine ks_aload_n hκ 42 2 dX1_readBy_42 rfl ?_
        refine ks_intcV1 hκ 43 dX1_readBy_43 kc_X1_66 (c_Orders_number (vn := vn + 1) hord1 hpad hap (by omega) (by omega)) hO rfl (by decide) (Nat.le_of_ble_eq_true rfl) (by decide) (by decide) (fun r43 xh11 hp43 => ?_)
        obtain ⟨rfl, hord, hF9⟩ := hp43
        have hord1 := hord
        obtain ⟨hO, hL, hP⟩ := hord
        replace hD := hF9.at hD (by omega)
        replace hpad := hpad.fr hF9 (by omega)
        replace hF := hF.tr (hF9.wd (by omega) (by omega))
        refine ks_istore hκ 46 4 [(4, _), (3, _), (0, _), (1, _), (2, _)] dX1_readBy_46 (by decide) rfl ?_
        refine ks_iload hκ 48 0 dX1_readBy_48 rfl ?_
        refine ks_if_lt hκ 50 77 dX1_readBy_50 rfl (fun c50 => ?_) (fun c50 => ?_)
        · skip
          refine ks_iconst hκ 77 (nI 0) dX1_readBy_77 kq_i0 ?_
          refine ks_iret hκ 78 hRt dX1_readBy_78 (by decide) (by decide) (by decide) ?_
          first
            | (have hq : kRB l vn = (false, nI 0, (kNm l (vn + 1)).2) := (if_pos c26).trans (if_pos c50); rw [hq]; exact ⟨_, rfl, rfl, ⟨_, hord1, fun _ _ => rfl, fun q => by cases q⟩, hF⟩)
            | (have hq : kRB l vn = (false, nI 0, (kNm l (vn + 1)).2) := (if_neg c26).trans ((if_pos c36).trans (if_pos c50)); rw [hq]; exact ⟨_, rfl, rfl, ⟨_, hord1, fun _ _ => rfl, fun q => by cases q⟩, hF⟩)
            | (have hq : kRB l vn = (true, 0 - (kNm l (vn + 1)).1, (kNm l (vn + 1)).2) := (if_pos c26).trans (if_neg c50); rw [hq]; exact ⟨_, rfl, rfl, ⟨_, hord2, fun i hi => pk_un (by omega), fun _ => pk_us⟩, hF⟩)
            | (have hq : kRB l vn = (true, (kNm l (vn + 1)).1, (kNm l (vn + 1)).2) := (if_neg c26).trans ((if_pos c36).trans (if_neg c50)); rw [hq]; exact ⟨_, rfl, rfl, ⟨_, hord2, fun i hi => pk_un (by omega), fun _ => pk_us⟩, hF⟩)
            | exact absurd c10 c26
            | exact absurd c26 c10
        · skip
          refine ks_aload_n hκ 53 2 dX1_readBy_53 rfl ?_
          refine ks_iload_n hκ 54 4 dX1_readBy_54 rfl ?_
          refine ks_iload_n hκ 55 1 dX1_readBy_55 rfl ?_
          refine ks_if_eq hκ 56 65 dX1_readBy_56 rfl (fun c56 => ?_) (fun c56 => ?_)
          · skip
            exact absurd c56 (by decide)
          · skip
            refine ks_iload hκ 59 0 dX1_readBy_59 rfl ?_
            refine ks_ineg hκ 61 dX1_readBy_61 ?_
            refine ks_goto hκ 62 67 dX1_readBy_62 rfl ?_
            refine ks_intcV2 hκ 67 dX1_readBy_67 kc_X1_63 (c_Orders_keep hord1 hvs hvp) hO rfl (by decide) (Nat.le_of_ble_eq_true rfl) (by decide) (by decide) (fun r67 xh12 hp67 => ?_)
            obtain ⟨rfl, hord, hF9⟩ := hp67
            have hord2 := hord
            replace hD := hF9.at hD (by omega)
            replace hpad := hpad.fr hF9 (by omega)
            replace hF := hF.tr (hF9.wd (by omega) (by omega))
            refine ks_if_eq hκ 70 77 dX1_readBy_70 rfl (fun c70 => ?_) (fun c70 => ?_)
            · skip
              exact absurd c70 (by decide)
            · skip
              refine ks_iconst hκ 73 (nI 1) dX1_readBy_73 kq_i1 ?_
              refine ks_goto hκ 74 78 dX1_readBy_74 rfl ?_
              refine ks_iret hκ 78 hRt dX1_readBy_78 (by decide) (by decide) (by decide) ?_
              first
                | (have hq : kRB l vn = (false, nI 0, (kNm l (vn + 1)).2) := (if_pos c26).trans (if_pos c50); rw [hq]; exact ⟨_, rfl, rfl, ⟨_, hord1, fun _ _ => rfl, fun q => by cases q⟩, hF⟩)
                | (have hq : kRB l vn = (false, nI 0, (kNm l (vn + 1)).2) := (if_neg c26).trans ((if_pos c36).trans (if_pos c50)); rw [hq]; exact ⟨_, rfl, rfl, ⟨_, hord1, fun _ _ => rfl, fun q => by cases q⟩, hF⟩)
                | (have hq : kRB l vn = (true, 0 - (kNm l (vn + 1)).1, (kNm l (vn + 1)).2) := (if_pos c26).trans (if_neg c50); rw [hq]; exact ⟨_, rfl, rfl, ⟨_, hord2, fun i hi => pk_un (by omega), fun _ => pk_us⟩, hF⟩)
                | (have hq : kRB l vn = (true, (kNm l (vn + 1)).1, (kNm l (vn + 1)).2) := (if_neg c26).trans ((if_pos c36).trans (if_neg c50)); rw [hq]; exact ⟨_, rfl, rfl, ⟨_, hord2, fun i hi => pk_un (by omega), fun _ => pk_us⟩, hF⟩)
                | exact absurd c10 c26
                | exact absurd c26 c10
      · skip
        have c36 : ¬ l.getD vn (nI 0) = nI 43 := fun q => absurd c36 (by rw [show kSg l vn (nI 43) = (true, vn + 1) from if_pos q]; exact kB1_t)
        rw [show kSg l vn (nI 43) = (false, vn) from if_neg c36] at hord1 hO
        refine ks_iconst hκ 39 (nI 0) dX1_readBy_39 kq_i0 ?_
        refine ks_iret hκ 40 hRt dX1_readBy_40 (by decide) (by decide) (by decide) ?_
        have hq : kRB l vn = (false, nI 0, vn) := (if_neg c26).trans (if_neg c36)
        rw [hq]
        exact ⟨_, rfl, rfl, ⟨_, hord1, fun _ _ => rfl, fun q => by cases q⟩, hF⟩
