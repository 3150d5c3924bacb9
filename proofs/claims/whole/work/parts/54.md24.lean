
/-! THE MODEL: its readers -/
theorem kTO_at {T : Nat → Int32} {l : List Int32} {n : Nat} (h : kTO T l) (hn : n < l.length) : T n = l.getD n (nI 0) := by
  obtain ⟨v, hv⟩ := kget hn
  rw [h n v hv, List.getD_eq_getElem?_getD, hv]; rfl
theorem kgd_out {l : List Int32} {n : Nat} (hn : l.length ≤ n) : l.getD n (nI 0) = nI 0 := by
  rw [List.getD_eq_getElem?_getD, List.getElem?_eq_none hn]; rfl
theorem kgd_in {l : List Int32} {n : Nat} (h : kSigns l) (hn : n < l.length) : ∃ c : Nat, 33 ≤ c ∧ c ≤ 126 ∧ l.getD n (nI 0) = nI c := by
  obtain ⟨v, hv⟩ := kget hn
  obtain ⟨c, h1, h2, h3⟩ := h v (List.mem_of_getElem? hv)
  exact ⟨c, h1, h2, by rw [List.getD_eq_getElem?_getD, hv]; exact h3⟩
/-- is a sign between two others at a place -/
def kHr (l : List Int32) (n : Nat) (lo hi : Int32) : Int32 := if l.length ≤ n then nI 0 else if l.getD n (nI 0) < lo then nI 0 else if hi < l.getD n (nI 0) then nI 0 else nI 1
theorem kHr_b {l : List Int32} {n : Nat} {lo hi : Int32} : kHr l n lo hi = nI 0 ∨ kHr l n lo hi = nI 1 := by
  unfold kHr
  split
  · exact Or.inl rfl
  · split
    · exact Or.inl rfl
    · split
      · exact Or.inl rfl
      · exact Or.inr rfl
theorem kHr_1 {l : List Int32} {n : Nat} {lo hi : Int32} (h : ¬ kHr l n lo hi = 0) : n < l.length ∧ ¬ l.getD n (nI 0) < lo ∧ ¬ hi < l.getD n (nI 0) := by
  unfold kHr at h
  by_cases h1 : l.length ≤ n
  · rw [if_pos h1] at h; exact absurd rfl h
  · rw [if_neg h1] at h
    by_cases h2 : l.getD n (nI 0) < lo
    · rw [if_pos h2] at h; exact absurd rfl h
    · rw [if_neg h2] at h
      by_cases h3 : hi < l.getD n (nI 0)
      · rw [if_pos h3] at h; exact absurd rfl h
      · exact ⟨by omega, h2, h3⟩
theorem kHr_0 {l : List Int32} {n : Nat} {lo hi : Int32} (h : kHr l n lo hi = 0) : l.length ≤ n ∨ l.getD n (nI 0) < lo ∨ hi < l.getD n (nI 0) := by
  unfold kHr at h
  by_cases h1 : l.length ≤ n
  · exact Or.inl h1
  · rw [if_neg h1] at h
    by_cases h2 : l.getD n (nI 0) < lo
    · exact Or.inr (Or.inl h2)
    · rw [if_neg h2] at h
      by_cases h3 : hi < l.getD n (nI 0)
      · exact Or.inr (Or.inr h3)
      · rw [if_neg h3] at h; exact absurd h (by decide)
theorem kSg_t {l : List Int32} {n : Nat} {c : Int32} (h : ¬ kHr l n c c = 0) : kSg l n c = (true, n + 1) := by
  obtain ⟨-, h2, h3⟩ := kHr_1 h
  exact if_pos (Int32.le_antisymm (Int32.not_lt.mp h3) (Int32.not_lt.mp h2))
theorem kSg_f {l : List Int32} {n : Nat} {c : Int32} (hc : ¬ c = nI 0) (h : kHr l n c c = 0) : kSg l n c = (false, n) := by
  refine if_neg (fun q => ?_)
  rcases kHr_0 h with h1 | h1 | h1
  · rw [kgd_out h1] at q; exact hc q.symm
  · rw [q] at h1; exact Int32.lt_irrefl h1
  · rw [q] at h1; exact Int32.lt_irrefl h1
theorem kDg_f {l : List Int32} {n : Nat} (h : kHr l n (nI 48) (nI 57) = 0) : kDg l n = (-6, n) := by
  unfold kDg
  rcases kHr_0 h with h1 | h1 | h1
  · rw [kgd_out h1, if_pos (by decide)]
  · rw [if_pos h1]
  · by_cases h2 : l.getD n (nI 0) < nI 48
    · rw [if_pos h2]
    · rw [if_neg h2, if_pos h1]
theorem kDg_t {l : List Int32} {n : Nat} (h : ¬ kHr l n (nI 48) (nI 57) = 0) : kDg l n = (l.getD n (nI 0) - nI 48, n + 1) := by
  obtain ⟨-, h2, h3⟩ := kHr_1 h
  unfold kDg
  rw [if_neg h2, if_neg h3]
theorem kDg_d {l : List Int32} {n : Nat} (hs : kSigns l) (h : ¬ kHr l n (nI 48) (nI 57) = 0) : ∃ d : Nat, d ≤ 9 ∧ l.getD n (nI 0) - nI 48 = nI d := by
  obtain ⟨h1, h2, h3⟩ := kHr_1 h
  obtain ⟨c, h4, h5, h6⟩ := kgd_in hs h1
  rw [h6] at h2 h3 ⊢
  rw [nI_ltI (by omega) (by decide)] at h2
  rw [nI_ltI (by decide) (by omega)] at h3
  exact ⟨c - 48, by omega, pk_sub (by omega)⟩
theorem kDg_v {l : List Int32} {n : Nat} (hs : kSigns l) : (kDg l n).1 = -6 ∨ ∃ d : Nat, d ≤ 9 ∧ (kDg l n).1 = nI d := by
  by_cases h : kHr l n (nI 48) (nI 57) = 0
  · rw [kDg_f h]; exact Or.inl rfl
  · rw [kDg_t h]; exact Or.inr (kDg_d hs h)
theorem kNm_v {l : List Int32} {n : Nat} (hs : kSigns l) : (kNm l n).1 = -6 ∨ ∃ d : Nat, d ≤ 99 ∧ (kNm l n).1 = nI d := by
  unfold kNm
  have h1 := kDg_v (n := n) hs
  have h2 := kDg_v (n := (kDg l n).2) hs
  by_cases q1 : (kDg l n).1 ≤ 0
  · rw [if_pos q1]
    rcases h1 with h1 | ⟨d, h1, h3⟩
    · exact Or.inl h1
    · exact Or.inr ⟨d, by omega, h3⟩
  · rw [if_neg q1]
    rcases h1 with h1 | ⟨d, h1, h3⟩
    · exact absurd (by rw [h1]; decide) q1
    · by_cases q2 : (kDg l (kDg l n).2).1 < 0
      · rw [if_pos q2]; exact Or.inr ⟨d, by omega, h3⟩
      · rw [if_neg q2]
        rcases h2 with h2 | ⟨d2, h2, h4⟩
        · exact absurd (by rw [h2]; decide) q2
        · exact Or.inr ⟨10 * d + d2, by omega, by show nI 10 * (kDg l n).1 + (kDg l (kDg l n).2).1 = _; rw [h3, h4, pk_mul, nI_add]⟩
theorem kneg {x : Int32} (h : x = -6 ∨ ∃ d : Nat, d ≤ 99 ∧ x = nI d) : x < 0 ↔ x = -6 := by
  rcases h with rfl | ⟨d, h1, rfl⟩
  · exact ⟨fun _ => rfl, fun _ => by decide⟩
  · exact ⟨fun q => absurd q (nI_pos (by omega)), fun q => absurd q (nI_m6 (by omega))⟩
theorem kd9 {x : Int32} (h : x = -6 ∨ ∃ d : Nat, d ≤ 9 ∧ x = nI d) : x = -6 ∨ ∃ d : Nat, d ≤ 99 ∧ x = nI d := h.imp id (fun ⟨d, h1, h2⟩ => ⟨d, by omega, h2⟩)
theorem kaddsub {x y z : Int32} : x + y - z = x + (y - z) := by rw [Int32.sub_eq_add_neg, Int32.sub_eq_add_neg, Int32.add_assoc]
set_option maxRecDepth 100000 in
set_option maxHeartbeats 4000000 in
theorem c_Model_isHere {g : ks_G} {h : ks_H} {m vn : Nat} {w0 w1 w2 : Value} {kd on tw bx : Int32} {T : Nat → Int32} {l : List Int32} {lo hi : Int32} (hM : h[m]? = some (ks_O 7 [w0, w1, w2, ks_ref g (m + 3), .int (nI l.length), .int (nI vn), .int kd, .int on, .int tw, .int bx])) (hT : h[m + 3]? = some (ks_I g 80 T)) (hTO : kTO T l) (hll : l.length ≤ 80) (hch : kSigns l) (hvn : vn ≤ 200) : ks_Met g (yX7_isHere, cX7_isHere, 3, some .boolean) 1 0 0 [ks_ref g m, .int lo, .int hi] h (ks_Pi (kHr l vn lo hi) h) := by
  refine ks_intro (by decide) (Nat.le_of_ble_eq_true rfl) (fun κ hκ hRt => ?_)
  refine ks_cv (ls := [(0, ks_ref g m), (1, .int lo), (2, .int hi)]) ?_ rfl rfl rfl
  refine ks_aload_n hκ 0 0 dX7_isHere_0 rfl ?_
  refine ks_get hκ 1 dX7_isHere_1 kf_X7_211 hM rfl ?_
  refine ks_aload_n hκ 4 0 dX7_isHere_4 rfl ?_
  refine ks_get hκ 5 dX7_isHere_5 kf_X7_193 hM rfl ?_
  refine ks_icmp_ge hκ 8 35 dX7_isHere_8 rfl (fun c8 => ?_) (fun c8 => ?_)
  · skip
    have c8 := (nI_leI (by omega) (by omega)).mp c8
    refine ks_iconst hκ 35 (nI 0) dX7_isHere_35 kq_i0 ?_
    refine ks_iret hκ 36 hRt dX7_isHere_36 (by decide) (by decide) (by decide) ?_
    refine ⟨?_, rfl⟩
    unfold kHr
    by_cases q0 : l.length ≤ vn
    · first | exact absurd q0 (by omega) | rw [if_pos q0]
    · first
      | exact absurd c8 q0
      | (rw [if_neg q0]; by_cases q1 : l.getD vn (nI 0) < lo; { rw [if_pos q1] at c28; first | exact absurd rfl c28 | rw [if_pos q1] }; { rw [if_neg q1] at c28; by_cases q2 : hi < l.getD vn (nI 0); { rw [if_pos q2] at c28; first | exact absurd rfl c28 | rw [if_neg q1, if_pos q2] }; { rw [if_neg q2] at c28; first | exact absurd c28 (by decide) | rw [if_neg q1, if_neg q2] } })
  · skip
    have c8 := mt (nI_leI (by omega) (by omega)).mpr c8
    refine ks_aload_n hκ 11 0 dX7_isHere_11 rfl ?_
    refine ks_get hκ 12 dX7_isHere_12 kf_X7_17 hM rfl ?_
    refine ks_aload_n hκ 15 0 dX7_isHere_15 rfl ?_
    refine ks_get hκ 16 dX7_isHere_16 kf_X7_211 hM rfl ?_
    refine ks_iald hκ 19 (vn) dX7_isHere_19 hT rfl (by omega) (by decide) ?_
    refine ks_top (l.getD vn (nI 0)) (kTO_at hTO (by omega)) ?_
    refine ks_i2l hκ 20 dX7_isHere_20 ?_
    refine ks_iload_n hκ 21 1 dX7_isHere_21 rfl ?_
    refine ks_i2l hκ 22 dX7_isHere_22 ?_
    refine ks_iload_n hκ 23 2 dX7_isHere_23 rfl ?_
    refine ks_i2l hκ 24 dX7_isHere_24 ?_
    refine ks_pureS3 hκ 25 dX7_isHere_25 kc_X7_70 (c_Model_in) (by decide) (Nat.le_of_ble_eq_true rfl) (by decide) (by decide) ?_
    refine ks_if_eq hκ 28 35 dX7_isHere_28 rfl (fun c28 => ?_) (fun c28 => ?_)
    · skip
      rw [kIn_V (lo := lo) (hi := hi) (Int32.toInt_toInt64 _) (Int32.toInt_toInt64 _)] at c28
      refine ks_iconst hκ 35 (nI 0) dX7_isHere_35 kq_i0 ?_
      refine ks_iret hκ 36 hRt dX7_isHere_36 (by decide) (by decide) (by decide) ?_
      refine ⟨?_, rfl⟩
      unfold kHr
      by_cases q0 : l.length ≤ vn
      · first | exact absurd q0 (by omega) | rw [if_pos q0]
      · first
        | exact absurd c8 q0
        | (rw [if_neg q0]; by_cases q1 : l.getD vn (nI 0) < lo; { rw [if_pos q1] at c28; first | exact absurd rfl c28 | rw [if_pos q1] }; { rw [if_neg q1] at c28; by_cases q2 : hi < l.getD vn (nI 0); { rw [if_pos q2] at c28; first | exact absurd rfl c28 | rw [if_neg q1, if_pos q2] }; { rw [if_neg q2] at c28; first | exact absurd c28 (by decide) | rw [if_neg q1, if_neg q2] } })
    · skip
      rw [kIn_V (lo := lo) (hi := hi) (Int32.toInt_toInt64 _) (Int32.toInt_toInt64 _)] at c28
      refine ks_iconst hκ 31 (nI 1) dX7_isHere_31 kq_i1 ?_
      refine ks_goto hκ 32 36 dX7_isHere_32 rfl ?_
      refine ks_iret hκ 36 hRt dX7_isHere_36 (by decide) (by decide) (by decide) ?_
      refine ⟨?_, rfl⟩
      unfold kHr
      by_cases q0 : l.length ≤ vn
      · first | exact absurd q0 (by omega) | rw [if_pos q0]
      · first
        | exact absurd c8 q0
        | (rw [if_neg q0]; by_cases q1 : l.getD vn (nI 0) < lo; { rw [if_pos q1] at c28; first | exact absurd rfl c28 | rw [if_pos q1] }; { rw [if_neg q1] at c28; by_cases q2 : hi < l.getD vn (nI 0); { rw [if_pos q2] at c28; first | exact absurd rfl c28 | rw [if_neg q1, if_pos q2] }; { rw [if_neg q2] at c28; first | exact absurd c28 (by decide) | rw [if_neg q1, if_neg q2] } })
set_option maxRecDepth 100000 in
set_option maxHeartbeats 4000000 in
theorem c_Model_takes {g : ks_G} {h : ks_H} {m vn : Nat} {w0 w1 w2 : Value} {kd on tw bx : Int32} {T : Nat → Int32} {l : List Int32} {c : Int32} (hM : h[m]? = some (ks_O 7 [w0, w1, w2, ks_ref g (m + 3), .int (nI l.length), .int (nI vn), .int kd, .int on, .int tw, .int bx])) (hT : h[m + 3]? = some (ks_I g 80 T)) (hTO : kTO T l) (hll : l.length ≤ 80) (hch : kSigns l) (hvn : vn ≤ 200) (hc0 : ¬ c = nI 0) : ks_Met g (yX7_takes, cX7_takes, 3, some .boolean) 2 0 0 [ks_ref g m, .int c] h (ks_Ph (fun r h' => r = kB1 (kSg l vn c).1 ∧ h'[m]? = some (ks_O 7 [w0, w1, w2, ks_ref g (m + 3), .int (nI l.length), .int (nI ((kSg l vn c).2)), .int kd, .int on, .int tw, .int bx]) ∧ ks_Fr h h' m (m + 1))) := by
  refine ks_intro (by decide) (Nat.le_of_ble_eq_true rfl) (fun κ hκ hRt => ?_)
  refine ks_cv (ls := [(0, ks_ref g m), (1, .int c)]) ?_ rfl rfl rfl
  have hF : ks_Fr h h m (m + 1) := ks_Fr.rf
  refine ks_aload_n hκ 0 0 dX7_takes_0 rfl ?_
  refine ks_iload_n hκ 1 1 dX7_takes_1 rfl ?_
  refine ks_iload_n hκ 2 1 dX7_takes_2 rfl ?_
  refine ks_pureV2 hκ 3 dX7_takes_3 kc_X7_214 (c_Model_isHere hM hT hTO hll hch hvn) hM rfl (by decide) (Nat.le_of_ble_eq_true rfl) (by decide) (by decide) ?_
  refine ks_istore_n hκ 6 2 [(2, _), (0, _), (1, _)] dX7_takes_6 rfl (by decide) rfl ?_
  refine ks_aload_n hκ 7 1 dX7_takes_7 rfl ?_
  refine ks_dup hκ 8 dX7_takes_8 rfl ?_
  refine ks_get hκ 9 dX7_takes_9 kf_X7_211 hM rfl ?_
  refine ks_iload_n hκ 12 0 dX7_takes_12 rfl ?_
  refine ks_if_eq hκ 13 20 dX7_takes_13 rfl (fun c13 => ?_) (fun c13 => ?_)
  · skip
    have hq := kSg_f hc0 c13
    refine ks_iconst hκ 20 (nI 0) dX7_takes_20 kq_i0 ?_
    refine ks_iaddN hκ 21 dX7_takes_21 ?_
    refine ks_putS hκ 22 [_, _, _, _, _, _, _, _, _, _] dX7_takes_22 kf_X7_211 hM rfl rfl (Nat.le_of_ble_eq_true rfl) rfl ?_
    refine ks_gen (fun xh1 exh1 => ?_)
    replace hM := ks_gs exh1 hM
    replace hT := ks_gn exh1 (ks_nb (b := m) (i := 0) (j := 3) rfl) hT
    replace hF := ks_Fr.st hF exh1 (by omega) (by omega)
    clear exh1
    refine ks_iload_n hκ 25 0 dX7_takes_25 rfl ?_
    refine ks_iret hκ 26 hRt dX7_takes_26 (by decide) (by decide) (by first | (rw [c13]; decide) | (rw [hb1]; decide)) ?_
    rw [hq]
    exact ⟨_, rfl, by first | (rw [c13]; rfl) | (rw [hb1]; rfl), hM, hF⟩
  · skip
    have hq := kSg_t c13
    have hb1 := (kHr_b (l := l) (n := vn) (lo := c) (hi := c)).resolve_left c13
    refine ks_iconst hκ 16 (nI 1) dX7_takes_16 kq_i1 ?_
    refine ks_goto hκ 17 21 dX7_takes_17 rfl ?_
    refine ks_iaddN hκ 21 dX7_takes_21 ?_
    refine ks_putS hκ 22 [_, _, _, _, _, _, _, _, _, _] dX7_takes_22 kf_X7_211 hM rfl rfl (Nat.le_of_ble_eq_true rfl) rfl ?_
    refine ks_gen (fun xh2 exh2 => ?_)
    replace hM := ks_gs exh2 hM
    replace hT := ks_gn exh2 (ks_nb (b := m) (i := 0) (j := 3) rfl) hT
    replace hF := ks_Fr.st hF exh2 (by omega) (by omega)
    clear exh2
    refine ks_iload_n hκ 25 0 dX7_takes_25 rfl ?_
    refine ks_iret hκ 26 hRt dX7_takes_26 (by decide) (by decide) (by first | (rw [c13]; decide) | (rw [hb1]; decide)) ?_
    rw [hq]
    exact ⟨_, rfl, by first | (rw [c13]; rfl) | (rw [hb1]; rfl), hM, hF⟩
set_option maxRecDepth 100000 in
set_option maxHeartbeats 4000000 in
theorem c_Model_digit {g : ks_G} {h : ks_H} {m vn : Nat} {w0 w1 w2 : Value} {kd on tw bx : Int32} {T : Nat → Int32} {l : List Int32} (hM : h[m]? = some (ks_O 7 [w0, w1, w2, ks_ref g (m + 3), .int (nI l.length), .int (nI vn), .int kd, .int on, .int tw, .int bx])) (hT : h[m + 3]? = some (ks_I g 80 T)) (hTO : kTO T l) (hll : l.length ≤ 80) (hch : kSigns l) (hvn : vn ≤ 200) : ks_Met g (yX7_digit, cX7_digit, 2, some .int) 2 0 0 [ks_ref g m] h (ks_Ph (fun r h' => r = (kDg l vn).1 ∧ h'[m]? = some (ks_O 7 [w0, w1, w2, ks_ref g (m + 3), .int (nI l.length), .int (nI ((kDg l vn).2)), .int kd, .int on, .int tw, .int bx]) ∧ ks_Fr h h' m (m + 1))) := by
  refine ks_intro (by decide) (Nat.le_of_ble_eq_true rfl) (fun κ hκ hRt => ?_)
  refine ks_cv (ls := [(0, ks_ref g m)]) ?_ rfl rfl rfl
  have hF : ks_Fr h h m (m + 1) := ks_Fr.rf
  refine ks_aload_n hκ 0 0 dX7_digit_0 rfl ?_
  refine ks_bipush hκ 1 (nI 48) dX7_digit_1 kq_b48 ?_
  refine ks_bipush hκ 3 (nI 57) dX7_digit_3 kq_b57 ?_
  refine ks_pureV2 hκ 5 dX7_digit_5 kc_X7_214 (c_Model_isHere hM hT hTO hll hch hvn) hM rfl (by decide) (Nat.le_of_ble_eq_true rfl) (by decide) (by decide) ?_
  refine ks_if_eq hκ 8 26 dX7_digit_8 rfl (fun c8 => ?_) (fun c8 => ?_)
  · skip
    have hq := kDg_f c8
    refine ks_bipush hκ 26 (-6) dX7_digit_26 kq_bm6 ?_
    refine ks_istore_n hκ 28 1 [(1, _), (0, _)] dX7_digit_28 rfl (by decide) rfl ?_
    refine ks_aload_n hκ 29 1 dX7_digit_29 rfl ?_
    refine ks_dup hκ 30 dX7_digit_30 rfl ?_
    refine ks_get hκ 31 dX7_digit_31 kf_X7_211 hM rfl ?_
    refine ks_iload_n hκ 34 0 dX7_digit_34 rfl ?_
    refine ks_bipush hκ 35 (-6) dX7_digit_35 kq_bm6 ?_
    refine ks_icmp_ne hκ 37 44 dX7_digit_37 rfl (fun c37 => ?_) (fun c37 => ?_)
    · skip
      refine ks_iconst hκ 44 (nI 1) dX7_digit_44 kq_i1 ?_
      refine ks_iaddN hκ 45 dX7_digit_45 ?_
      refine ks_putS hκ 46 [_, _, _, _, _, _, _, _, _, _] dX7_digit_46 kf_X7_211 hM rfl rfl (Nat.le_of_ble_eq_true rfl) rfl ?_
      refine ks_gen (fun xh1 exh1 => ?_)
      replace hM := ks_gs exh1 hM
      replace hT := ks_gn exh1 (ks_nb (b := m) (i := 0) (j := 3) rfl) hT
      replace hF := ks_Fr.st hF exh1 (by omega) (by omega)
      clear exh1
      refine ks_iload_n hκ 49 0 dX7_digit_49 rfl ?_
      refine ks_iret hκ 50 hRt dX7_digit_50 (by decide) (by decide) rfl ?_
      rw [hq]
      first
      | exact absurd rfl c37
      | exact ⟨_, rfl, rfl, hM, hF⟩
      | (rw [hvd2] at c37; exact absurd c37 (nI_m6 (by omega)))
    · skip
      refine ks_iconst hκ 40 (nI 0) dX7_digit_40 kq_i0 ?_
      refine ks_goto hκ 41 45 dX7_digit_41 rfl ?_
      refine ks_iaddN hκ 45 dX7_digit_45 ?_
      refine ks_putS hκ 46 [_, _, _, _, _, _, _, _, _, _] dX7_digit_46 kf_X7_211 hM rfl rfl (Nat.le_of_ble_eq_true rfl) rfl ?_
      refine ks_gen (fun xh2 exh2 => ?_)
      replace hM := ks_gs exh2 hM
      replace hT := ks_gn exh2 (ks_nb (b := m) (i := 0) (j := 3) rfl) hT
      replace hF := ks_Fr.st hF exh2 (by omega) (by omega)
      clear exh2
      refine ks_iload_n hκ 49 0 dX7_digit_49 rfl ?_
      refine ks_iret hκ 50 hRt dX7_digit_50 (by decide) (by decide) rfl ?_
      rw [hq]
      first
      | exact absurd rfl c37
      | exact ⟨_, rfl, rfl, hM, hF⟩
      | (rw [hvd2] at c37; exact absurd c37 (nI_m6 (by omega)))
  · skip
    have hq := kDg_t c8
    obtain ⟨hvl, -, -⟩ := kHr_1 c8
    obtain ⟨vd, hvd, hvd2⟩ := kDg_d hch c8
    refine ks_aload_n hκ 11 0 dX7_digit_11 rfl ?_
    refine ks_get hκ 12 dX7_digit_12 kf_X7_17 hM rfl ?_
    refine ks_aload_n hκ 15 0 dX7_digit_15 rfl ?_
    refine ks_get hκ 16 dX7_digit_16 kf_X7_211 hM rfl ?_
    refine ks_iald hκ 19 (vn) dX7_digit_19 hT rfl (by omega) (by decide) ?_
    refine ks_top (l.getD vn (nI 0)) (kTO_at hTO hvl) ?_
    refine ks_bipush hκ 20 (nI 48) dX7_digit_20 kq_b48 ?_
    refine ks_isub hκ 22 dX7_digit_22 ?_
    refine ks_goto hκ 23 28 dX7_digit_23 rfl ?_
    refine ks_istore_n hκ 28 1 [(1, _), (0, _)] dX7_digit_28 rfl (by decide) rfl ?_
    refine ks_aload_n hκ 29 1 dX7_digit_29 rfl ?_
    refine ks_dup hκ 30 dX7_digit_30 rfl ?_
    refine ks_get hκ 31 dX7_digit_31 kf_X7_211 hM rfl ?_
    refine ks_iload_n hκ 34 0 dX7_digit_34 rfl ?_
    refine ks_bipush hκ 35 (-6) dX7_digit_35 kq_bm6 ?_
    refine ks_icmp_ne hκ 37 44 dX7_digit_37 rfl (fun c37 => ?_) (fun c37 => ?_)
    · skip
      refine ks_iconst hκ 44 (nI 1) dX7_digit_44 kq_i1 ?_
      refine ks_iaddN hκ 45 dX7_digit_45 ?_
      refine ks_putS hκ 46 [_, _, _, _, _, _, _, _, _, _] dX7_digit_46 kf_X7_211 hM rfl rfl (Nat.le_of_ble_eq_true rfl) rfl ?_
      refine ks_gen (fun xh3 exh3 => ?_)
      replace hM := ks_gs exh3 hM
      replace hT := ks_gn exh3 (ks_nb (b := m) (i := 0) (j := 3) rfl) hT
      replace hF := ks_Fr.st hF exh3 (by omega) (by omega)
      clear exh3
      refine ks_iload_n hκ 49 0 dX7_digit_49 rfl ?_
      refine ks_iret hκ 50 hRt dX7_digit_50 (by decide) (by decide) rfl ?_
      rw [hq]
      first
      | exact absurd rfl c37
      | exact ⟨_, rfl, rfl, hM, hF⟩
      | (rw [hvd2] at c37; exact absurd c37 (nI_m6 (by omega)))
    · skip
      refine ks_iconst hκ 40 (nI 0) dX7_digit_40 kq_i0 ?_
      refine ks_goto hκ 41 45 dX7_digit_41 rfl ?_
      refine ks_iaddN hκ 45 dX7_digit_45 ?_
      refine ks_putS hκ 46 [_, _, _, _, _, _, _, _, _, _] dX7_digit_46 kf_X7_211 hM rfl rfl (Nat.le_of_ble_eq_true rfl) rfl ?_
      refine ks_gen (fun xh4 exh4 => ?_)
      replace hM := ks_gs exh4 hM
      replace hT := ks_gn exh4 (ks_nb (b := m) (i := 0) (j := 3) rfl) hT
      replace hF := ks_Fr.st hF exh4 (by omega) (by omega)
      clear exh4
      refine ks_iload_n hκ 49 0 dX7_digit_49 rfl ?_
      refine ks_iret hκ 50 hRt dX7_digit_50 (by decide) (by decide) rfl ?_
      rw [hq]
      first
      | exact absurd rfl c37
      | exact ⟨_, rfl, rfl, hM, hF⟩
      | (rw [hvd2] at c37; exact absurd c37 (nI_m6 (by omega)))
set_option maxRecDepth 100000 in
set_option maxHeartbeats 4000000 in
theorem c_Model_number {g : ks_G} {h : ks_H} {m vn : Nat} {w0 w1 w2 : Value} {kd on tw bx : Int32} {T : Nat → Int32} {l : List Int32} (hM : h[m]? = some (ks_O 7 [w0, w1, w2, ks_ref g (m + 3), .int (nI l.length), .int (nI vn), .int kd, .int on, .int tw, .int bx])) (hT : h[m + 3]? = some (ks_I g 80 T)) (hTO : kTO T l) (hll : l.length ≤ 80) (hch : kSigns l) (hvn : vn ≤ 195) : ks_Met g (yX7_number, cX7_number, 2, some .int) 3 0 0 [ks_ref g m] h (ks_Ph (fun r h' => r = (kNm l vn).1 ∧ h'[m]? = some (ks_O 7 [w0, w1, w2, ks_ref g (m + 3), .int (nI l.length), .int (nI ((kNm l vn).2)), .int kd, .int on, .int tw, .int bx]) ∧ ks_Fr h h' m (m + 1))) := by
  have hdl := kDg_le l vn
  refine ks_intro (by decide) (Nat.le_of_ble_eq_true rfl) (fun κ hκ hRt => ?_)
  refine ks_cv (ls := [(0, ks_ref g m)]) ?_ rfl rfl rfl
  have hF : ks_Fr h h m (m + 1) := ks_Fr.rf
  refine ks_aload_n hκ 0 0 dX7_number_0 rfl ?_
  refine ks_intcV0 hκ 1 dX7_number_1 kc_X7_217 (c_Model_digit hM hT hTO hll hch (by omega)) hM rfl (by decide) (Nat.le_of_ble_eq_true rfl) (by decide) (by decide) (fun r1 xh1 hp1 => ?_)
  obtain ⟨rfl, hM, hF9⟩ := hp1
  replace hT := hF9.at hT (by omega)
  replace hF := hF.tr (hF9.wd (by omega) (by omega))
  refine ks_istore_n hκ 4 1 [(1, _), (0, _)] dX7_number_4 rfl (by decide) rfl ?_
  refine ks_iload_n hκ 5 0 dX7_number_5 rfl ?_
  refine ks_if_le hκ 6 48 dX7_number_6 rfl (fun c6 => ?_) (fun c6 => ?_)
  · skip
    have hq : kNm l vn = kDg l vn := if_pos c6
    refine ks_iload_n hκ 48 0 dX7_number_48 rfl ?_
    refine ks_iret hκ 49 hRt dX7_number_49 (by decide) (by decide) rfl ?_
    rw [hq]
    exact ⟨_, rfl, rfl, hM, hF⟩
  · skip
    refine ks_aload_n hκ 9 1 dX7_number_9 rfl ?_
    refine ks_bipush hκ 10 (nI 48) dX7_number_10 kq_b48 ?_
    refine ks_bipush hκ 12 (nI 57) dX7_number_12 kq_b57 ?_
    refine ks_pureV2 hκ 14 dX7_number_14 kc_X7_214 (c_Model_isHere hM hT hTO hll hch (by omega)) hM rfl (by decide) (Nat.le_of_ble_eq_true rfl) (by decide) (by decide) ?_
    refine ks_if_eq hκ 17 48 dX7_number_17 rfl (fun c17 => ?_) (fun c17 => ?_)
    · skip
      have hq : kNm l vn = ((kDg l vn).1, (kDg l vn).2) := (if_neg c6).trans (by rw [kDg_f c17]; rfl)
      refine ks_iload_n hκ 48 0 dX7_number_48 rfl ?_
      refine ks_iret hκ 49 hRt dX7_number_49 (by decide) (by decide) rfl ?_
      rw [hq]
      exact ⟨_, rfl, rfl, hM, hF⟩
    · skip
      have hq : kNm l vn = (nI 10 * (kDg l vn).1 + (l.getD (kDg l vn).2 (nI 0) - nI 48), (kDg l vn).2 + 1) := by
        obtain ⟨vd, hvd, hvd2⟩ := kDg_d hch c17
        refine (if_neg c6).trans ?_
        rw [kDg_t c17]
        refine if_neg ?_
        dsimp only
        rw [hvd2]
        exact nI_pos (by omega)
      obtain ⟨hvl, -, -⟩ := kHr_1 c17
      refine ks_bipush hκ 20 (nI 10) dX7_number_20 kq_b10 ?_
      refine ks_iload_n hκ 22 0 dX7_number_22 rfl ?_
      refine ks_imul hκ 23 dX7_number_23 ?_
      refine ks_aload_n hκ 24 1 dX7_number_24 rfl ?_
      refine ks_get hκ 25 dX7_number_25 kf_X7_17 hM rfl ?_
      refine ks_aload_n hκ 28 1 dX7_number_28 rfl ?_
      refine ks_get hκ 29 dX7_number_29 kf_X7_211 hM rfl ?_
      refine ks_iald hκ 32 ((kDg l vn).2) dX7_number_32 hT rfl (by omega) (by decide) ?_
      refine ks_top (l.getD (kDg l vn).2 (nI 0)) (kTO_at hTO hvl) ?_
      refine ks_iadd hκ 33 dX7_number_33 ?_
      refine ks_bipush hκ 34 (nI 48) dX7_number_34 kq_b48 ?_
      refine ks_isub hκ 36 dX7_number_36 ?_
      refine ks_top (nI 10 * (kDg l vn).1 + (l.getD (kDg l vn).2 (nI 0) - nI 48)) (kaddsub) ?_
      refine ks_istore_n hκ 37 1 [(1, _), (0, _)] dX7_number_37 rfl (by decide) rfl ?_
      refine ks_aload_n hκ 38 1 dX7_number_38 rfl ?_
      refine ks_dup hκ 39 dX7_number_39 rfl ?_
      refine ks_get hκ 40 dX7_number_40 kf_X7_211 hM rfl ?_
      refine ks_iconst hκ 43 (nI 1) dX7_number_43 kq_i1 ?_
      refine ks_iaddN hκ 44 dX7_number_44 ?_
      refine ks_putS hκ 45 [_, _, _, _, _, _, _, _, _, _] dX7_number_45 kf_X7_211 hM rfl rfl (Nat.le_of_ble_eq_true rfl) rfl ?_
      refine ks_gen (fun xh2 exh2 => ?_)
      replace hM := ks_gs exh2 hM
      replace hT := ks_gn exh2 (ks_nb (b := m) (i := 0) (j := 3) rfl) hT
      replace hF := ks_Fr.st hF exh2 (by omega) (by omega)
      clear exh2
      refine ks_iload_n hκ 48 0 dX7_number_48 rfl ?_
      refine ks_iret hκ 49 hRt dX7_number_49 (by decide) (by decide) rfl ?_
      rw [hq]
      exact ⟨_, rfl, rfl, hM, hF⟩
set_option maxRecDepth 100000 in
set_option maxHeartbeats 4000000 in
theorem c_Model_readsKitten {g : ks_G} {h : ks_H} {m vn : Nat} {w0 w1 w2 : Value} {kd on tw bx : Int32} {T : Nat → Int32} {l : List Int32} (hM : h[m]? = some (ks_O 7 [w0, w1, w2, ks_ref g (m + 3), .int (nI l.length), .int (nI vn), .int kd, .int on, .int tw, .int bx])) (hT : h[m + 3]? = some (ks_I g 80 T)) (hTO : kTO T l) (hll : l.length ≤ 80) (hch : kSigns l) (hvn : vn ≤ 195) : ks_Met g (yX7_readsKitten, cX7_readsKitten, 1, some .boolean) 3 0 0 [ks_ref g m] h (ks_Ph (fun r h' => r = kB1 (kRD l vn).1 ∧ (∃ tw1, h'[m]? = some (ks_O 7 [w0, w1, w2, ks_ref g (m + 3), .int (nI l.length), .int (nI ((kRD l vn).2.2)), .int kd, .int on, .int tw1, .int bx]) ∧ ((kRD l vn).1 = true → tw1 = (kRD l vn).2.1)) ∧ ks_Fr h h' m (m + 1))) := by
  have hdl := kDg_le l vn
  refine ks_intro (by decide) (Nat.le_of_ble_eq_true rfl) (fun κ hκ hRt => ?_)
  refine ks_cv (ls := [(0, ks_ref g m)]) ?_ rfl rfl rfl
  have hF : ks_Fr h h m (m + 1) := ks_Fr.rf
  refine ks_aload_n hκ 0 0 dX7_readsKitten_0 rfl ?_
  refine ks_aload_n hκ 1 0 dX7_readsKitten_1 rfl ?_
  refine ks_intcV0 hκ 2 dX7_readsKitten_2 kc_X7_217 (c_Model_digit hM hT hTO hll hch (by omega)) hM rfl (by decide) (Nat.le_of_ble_eq_true rfl) (by decide) (by decide) (fun r2 xh1 hp2 => ?_)
  obtain ⟨rfl, hM, hF9⟩ := hp2
  replace hT := hF9.at hT (by omega)
  replace hF := hF.tr (hF9.wd (by omega) (by omega))
  refine ks_putS hκ 5 [_, _, _, _, _, _, _, _, _, _] dX7_readsKitten_5 kf_X7_229 hM rfl rfl (Nat.le_of_ble_eq_true rfl) rfl ?_
  refine ks_gen (fun xh2 exh2 => ?_)
  replace hM := ks_gs exh2 hM
  replace hT := ks_gn exh2 (ks_nb (b := m) (i := 0) (j := 3) rfl) hT
  replace hF := ks_Fr.st hF exh2 (by omega) (by omega)
  clear exh2
  refine ks_aload_n hκ 8 0 dX7_readsKitten_8 rfl ?_
  refine ks_get hκ 9 dX7_readsKitten_9 kf_X7_229 hM rfl ?_
  refine ks_bipush hκ 12 (-6) dX7_readsKitten_12 kq_bm6 ?_
  refine ks_icmp_eq hκ 14 21 dX7_readsKitten_14 rfl (fun c14 => ?_) (fun c14 => ?_)
  · skip
    have hq : kRD l vn = (false, nI 0, (kDg l vn).2) := if_pos ((kneg (kd9 (kDg_v hch))).mpr c14)
    refine ks_iconst hκ 21 (nI 0) dX7_readsKitten_21 kq_i0 ?_
    refine ks_iret hκ 22 hRt dX7_readsKitten_22 (by decide) (by decide) (by decide) ?_
    rw [hq]
    exact ⟨_, rfl, rfl, ⟨_, hM, fun q => by first | exact rfl | cases q⟩, hF⟩
  · skip
    have hq : kRD l vn = (true, (kDg l vn).1, (kDg l vn).2) := if_neg (fun q => c14 ((kneg (kd9 (kDg_v hch))).mp q))
    refine ks_iconst hκ 17 (nI 1) dX7_readsKitten_17 kq_i1 ?_
    refine ks_goto hκ 18 22 dX7_readsKitten_18 rfl ?_
    refine ks_iret hκ 22 hRt dX7_readsKitten_22 (by decide) (by decide) (by decide) ?_
    rw [hq]
    exact ⟨_, rfl, rfl, ⟨_, hM, fun q => by first | exact rfl | cases q⟩, hF⟩
set_option maxRecDepth 100000 in
set_option maxHeartbeats 4000000 in
theorem c_Model_readsNumber {g : ks_G} {h : ks_H} {m vn : Nat} {w0 w1 w2 : Value} {kd on tw bx : Int32} {T : Nat → Int32} {l : List Int32} (hM : h[m]? = some (ks_O 7 [w0, w1, w2, ks_ref g (m + 3), .int (nI l.length), .int (nI vn), .int kd, .int on, .int tw, .int bx])) (hT : h[m + 3]? = some (ks_I g 80 T)) (hTO : kTO T l) (hll : l.length ≤ 80) (hch : kSigns l) (hvn : vn ≤ 190) : ks_Met g (yX7_readsNumber, cX7_readsNumber, 1, some .boolean) 4 0 0 [ks_ref g m] h (ks_Ph (fun r h' => r = kB1 (kRN l vn).1 ∧ (∃ on1, h'[m]? = some (ks_O 7 [w0, w1, w2, ks_ref g (m + 3), .int (nI l.length), .int (nI ((kRN l vn).2.2)), .int kd, .int on1, .int tw, .int bx]) ∧ ((kRN l vn).1 = true → on1 = (kRN l vn).2.1)) ∧ ks_Fr h h' m (m + 1))) := by
  have hdl := kNm_le l vn
  refine ks_intro (by decide) (Nat.le_of_ble_eq_true rfl) (fun κ hκ hRt => ?_)
  refine ks_cv (ls := [(0, ks_ref g m)]) ?_ rfl rfl rfl
  have hF : ks_Fr h h m (m + 1) := ks_Fr.rf
  refine ks_aload_n hκ 0 0 dX7_readsNumber_0 rfl ?_
  refine ks_aload_n hκ 1 0 dX7_readsNumber_1 rfl ?_
  refine ks_intcV0 hκ 2 dX7_readsNumber_2 kc_X7_223 (c_Model_number hM hT hTO hll hch (by omega)) hM rfl (by decide) (Nat.le_of_ble_eq_true rfl) (by decide) (by decide) (fun r2 xh1 hp2 => ?_)
  obtain ⟨rfl, hM, hF9⟩ := hp2
  replace hT := hF9.at hT (by omega)
  replace hF := hF.tr (hF9.wd (by omega) (by omega))
  refine ks_putS hκ 5 [_, _, _, _, _, _, _, _, _, _] dX7_readsNumber_5 kf_X7_232 hM rfl rfl (Nat.le_of_ble_eq_true rfl) rfl ?_
  refine ks_gen (fun xh2 exh2 => ?_)
  replace hM := ks_gs exh2 hM
  replace hT := ks_gn exh2 (ks_nb (b := m) (i := 0) (j := 3) rfl) hT
  replace hF := ks_Fr.st hF exh2 (by omega) (by omega)
  clear exh2
  refine ks_aload_n hκ 8 0 dX7_readsNumber_8 rfl ?_
  refine ks_get hκ 9 dX7_readsNumber_9 kf_X7_232 hM rfl ?_
  refine ks_bipush hκ 12 (-6) dX7_readsNumber_12 kq_bm6 ?_
  refine ks_icmp_eq hκ 14 21 dX7_readsNumber_14 rfl (fun c14 => ?_) (fun c14 => ?_)
  · skip
    have hq : kRN l vn = (false, nI 0, (kNm l vn).2) := if_pos ((kneg (kNm_v hch)).mpr c14)
    refine ks_iconst hκ 21 (nI 0) dX7_readsNumber_21 kq_i0 ?_
    refine ks_iret hκ 22 hRt dX7_readsNumber_22 (by decide) (by decide) (by decide) ?_
    rw [hq]
    exact ⟨_, rfl, rfl, ⟨_, hM, fun q => by first | exact rfl | cases q⟩, hF⟩
  · skip
    have hq : kRN l vn = (true, (kNm l vn).1, (kNm l vn).2) := if_neg (fun q => c14 ((kneg (kNm_v hch)).mp q))
    refine ks_iconst hκ 17 (nI 1) dX7_readsNumber_17 kq_i1 ?_
    refine ks_goto hκ 18 22 dX7_readsNumber_18 rfl ?_
    refine ks_iret hκ 22 hRt dX7_readsNumber_22 (by decide) (by decide) (by decide) ?_
    rw [hq]
    exact ⟨_, rfl, rfl, ⟨_, hM, fun q => by first | exact rfl | cases q⟩, hF⟩
set_option maxRecDepth 100000 in
set_option maxHeartbeats 4000000 in
theorem c_Model_readsBy {g : ks_G} {h : ks_H} {m vn : Nat} {w0 w1 w2 : Value} {kd on tw bx : Int32} {T : Nat → Int32} {l : List Int32} (hM : h[m]? = some (ks_O 7 [w0, w1, w2, ks_ref g (m + 3), .int (nI l.length), .int (nI vn), .int kd, .int on, .int tw, .int bx])) (hT : h[m + 3]? = some (ks_I g 80 T)) (hTO : kTO T l) (hll : l.length ≤ 80) (hch : kSigns l) (hvn : vn ≤ 190) : ks_Met g (yX7_readsBy, cX7_readsBy, 3, some .boolean) 4 0 0 [ks_ref g m] h (ks_Ph (fun r h' => r = kB1 (kRB l vn).1 ∧ (∃ bx1, h'[m]? = some (ks_O 7 [w0, w1, w2, ks_ref g (m + 3), .int (nI l.length), .int (nI ((kRB l vn).2.2)), .int kd, .int on, .int tw, .int bx1]) ∧ ((kRB l vn).1 = true → bx1 = (kRB l vn).2.1)) ∧ ks_Fr h h' m (m + 1))) := by
  have hdl := kNm_le l (vn + 1)
  refine ks_intro (by decide) (Nat.le_of_ble_eq_true rfl) (fun κ hκ hRt => ?_)
  refine ks_cv (ls := [(0, ks_ref g m)]) ?_ rfl rfl rfl
  have hF : ks_Fr h h m (m + 1) := ks_Fr.rf
  refine ks_aload_n hκ 0 0 dX7_readsBy_0 rfl ?_
  refine ks_bipush hκ 1 (nI 43) dX7_readsBy_1 kq_b43 ?_
  refine ks_intcV1 hκ 3 dX7_readsBy_3 kc_X7_220 (c_Model_takes hM hT hTO hll hch (by omega) (show ¬ nI 43 = nI 0 by decide)) hM rfl (by decide) (Nat.le_of_ble_eq_true rfl) (by decide) (by decide) (fun r3 xh1 hp3 => ?_)
  obtain ⟨rfl, hM, hF9⟩ := hp3
  replace hT := hF9.at hT (by omega)
  replace hF := hF.tr (hF9.wd (by omega) (by omega))
  refine ks_istore_n hκ 6 1 [(1, _), (0, _)] dX7_readsBy_6 rfl (by decide) rfl ?_
  refine ks_iload_n hκ 7 0 dX7_readsBy_7 rfl ?_
  refine ks_if_ne hκ 8 22 dX7_readsBy_8 rfl (fun c8 => ?_) (fun c8 => ?_)
  · skip
    have hg : l.getD vn (nI 0) = nI 43 := by
      by_cases q : l.getD vn (nI 0) = nI 43
      · exact q
      · rw [show kSg l vn (nI 43) = (false, vn) from if_neg q] at c8; exact absurd rfl c8
    rw [show kSg l vn (nI 43) = (true, vn + 1) from if_pos hg] at hM ⊢
    refine ks_aload_n hκ 22 1 dX7_readsBy_22 rfl ?_
    refine ks_intcV0 hκ 23 dX7_readsBy_23 kc_X7_223 (c_Model_number (vn := vn + 1) hM hT hTO hll hch (by omega)) hM rfl (by decide) (Nat.le_of_ble_eq_true rfl) (by decide) (by decide) (fun r23 xh2 hp23 => ?_)
    obtain ⟨rfl, hM, hF9⟩ := hp23
    replace hT := hF9.at hT (by omega)
    replace hF := hF.tr (hF9.wd (by omega) (by omega))
    refine ks_istore_n hκ 26 2 [(2, _), (1, _), (0, _)] dX7_readsBy_26 rfl (by decide) rfl ?_
    refine ks_aload_n hκ 27 2 dX7_readsBy_27 rfl ?_
    refine ks_iload_n hκ 28 1 dX7_readsBy_28 rfl ?_
    refine ks_if_eq hκ 29 36 dX7_readsBy_29 rfl (fun c29 => ?_) (fun c29 => ?_)
    · skip
      refine ks_iload_n hκ 36 0 dX7_readsBy_36 rfl ?_
      refine ks_ineg hκ 37 dX7_readsBy_37 ?_
      refine ks_putS hκ 38 [_, _, _, _, _, _, _, _, _, _] dX7_readsBy_38 kf_X7_226 hM rfl rfl (Nat.le_of_ble_eq_true rfl) rfl ?_
      refine ks_gen (fun xh3 exh3 => ?_)
      replace hM := ks_gs exh3 hM
      replace hT := ks_gn exh3 (ks_nb (b := m) (i := 0) (j := 3) rfl) hT
      replace hF := ks_Fr.st hF exh3 (by omega) (by omega)
      clear exh3
      refine ks_iload_n hκ 41 0 dX7_readsBy_41 rfl ?_
      refine ks_bipush hκ 42 (-6) dX7_readsBy_42 kq_bm6 ?_
      refine ks_icmp_eq hκ 44 51 dX7_readsBy_44 rfl (fun c44 => ?_) (fun c44 => ?_)
      · skip
        refine ks_iconst hκ 51 (nI 0) dX7_readsBy_51 kq_i0 ?_
        refine ks_iret hκ 52 hRt dX7_readsBy_52 (by decide) (by decide) (by decide) ?_
        first
        | exact absurd c29 (show ¬ kB1 true = 0 by decide)
        | exact absurd (show kB1 false = 0 by decide) c29
        | (have hq : kRB l vn = (false, nI 0, (kNm l (vn + 1)).2) := (if_neg (fun q => absurd (hg.symm.trans q) (by decide))).trans ((if_pos hg).trans (if_pos ((kneg (kNm_v (n := vn + 1) hch)).mpr c44))); rw [hq]; exact ⟨_, rfl, rfl, ⟨_, hM, fun q => by cases q⟩, hF⟩)
        | (have hq : kRB l vn = (true, (kNm l (vn + 1)).1, (kNm l (vn + 1)).2) := (if_neg (fun q => absurd (hg.symm.trans q) (by decide))).trans ((if_pos hg).trans (if_neg (fun q => c44 ((kneg (kNm_v (n := vn + 1) hch)).mp q)))); rw [hq]; exact ⟨_, rfl, rfl, ⟨_, hM, fun _ => rfl⟩, hF⟩)
        | (have hq : kRB l vn = (false, nI 0, (kNm l (vn + 1)).2) := (if_pos hg2).trans (if_pos ((kneg (kNm_v (n := vn + 1) hch)).mpr c44)); rw [hq]; exact ⟨_, rfl, rfl, ⟨_, hM, fun q => by cases q⟩, hF⟩)
        | (have hq : kRB l vn = (true, 0 - (kNm l (vn + 1)).1, (kNm l (vn + 1)).2) := (if_pos hg2).trans (if_neg (fun q => c44 ((kneg (kNm_v (n := vn + 1) hch)).mp q))); rw [hq]; exact ⟨_, rfl, rfl, ⟨_, hM, fun _ => rfl⟩, hF⟩)
      · skip
        refine ks_iconst hκ 47 (nI 1) dX7_readsBy_47 kq_i1 ?_
        refine ks_goto hκ 48 52 dX7_readsBy_48 rfl ?_
        refine ks_iret hκ 52 hRt dX7_readsBy_52 (by decide) (by decide) (by decide) ?_
        first
        | exact absurd c29 (show ¬ kB1 true = 0 by decide)
        | exact absurd (show kB1 false = 0 by decide) c29
        | (have hq : kRB l vn = (false, nI 0, (kNm l (vn + 1)).2) := (if_neg (fun q => absurd (hg.symm.trans q) (by decide))).trans ((if_pos hg).trans (if_pos ((kneg (kNm_v (n := vn + 1) hch)).mpr c44))); rw [hq]; exact ⟨_, rfl, rfl, ⟨_, hM, fun q => by cases q⟩, hF⟩)
        | (have hq : kRB l vn = (true, (kNm l (vn + 1)).1, (kNm l (vn + 1)).2) := (if_neg (fun q => absurd (hg.symm.trans q) (by decide))).trans ((if_pos hg).trans (if_neg (fun q => c44 ((kneg (kNm_v (n := vn + 1) hch)).mp q)))); rw [hq]; exact ⟨_, rfl, rfl, ⟨_, hM, fun _ => rfl⟩, hF⟩)
        | (have hq : kRB l vn = (false, nI 0, (kNm l (vn + 1)).2) := (if_pos hg2).trans (if_pos ((kneg (kNm_v (n := vn + 1) hch)).mpr c44)); rw [hq]; exact ⟨_, rfl, rfl, ⟨_, hM, fun q => by cases q⟩, hF⟩)
        | (have hq : kRB l vn = (true, 0 - (kNm l (vn + 1)).1, (kNm l (vn + 1)).2) := (if_pos hg2).trans (if_neg (fun q => c44 ((kneg (kNm_v (n := vn + 1) hch)).mp q))); rw [hq]; exact ⟨_, rfl, rfl, ⟨_, hM, fun _ => rfl⟩, hF⟩)
    · skip
      refine ks_iload_n hκ 32 0 dX7_readsBy_32 rfl ?_
      refine ks_goto hκ 33 38 dX7_readsBy_33 rfl ?_
      refine ks_putS hκ 38 [_, _, _, _, _, _, _, _, _, _] dX7_readsBy_38 kf_X7_226 hM rfl rfl (Nat.le_of_ble_eq_true rfl) rfl ?_
      refine ks_gen (fun xh4 exh4 => ?_)
      replace hM := ks_gs exh4 hM
      replace hT := ks_gn exh4 (ks_nb (b := m) (i := 0) (j := 3) rfl) hT
      replace hF := ks_Fr.st hF exh4 (by omega) (by omega)
      clear exh4
      refine ks_iload_n hκ 41 0 dX7_readsBy_41 rfl ?_
      refine ks_bipush hκ 42 (-6) dX7_readsBy_42 kq_bm6 ?_
      refine ks_icmp_eq hκ 44 51 dX7_readsBy_44 rfl (fun c44 => ?_) (fun c44 => ?_)
      · skip
        refine ks_iconst hκ 51 (nI 0) dX7_readsBy_51 kq_i0 ?_
        refine ks_iret hκ 52 hRt dX7_readsBy_52 (by decide) (by decide) (by decide) ?_
        first
        | exact absurd c29 (show ¬ kB1 true = 0 by decide)
        | exact absurd (show kB1 false = 0 by decide) c29
        | (have hq : kRB l vn = (false, nI 0, (kNm l (vn + 1)).2) := (if_neg (fun q => absurd (hg.symm.trans q) (by decide))).trans ((if_pos hg).trans (if_pos ((kneg (kNm_v (n := vn + 1) hch)).mpr c44))); rw [hq]; exact ⟨_, rfl, rfl, ⟨_, hM, fun q => by cases q⟩, hF⟩)
        | (have hq : kRB l vn = (true, (kNm l (vn + 1)).1, (kNm l (vn + 1)).2) := (if_neg (fun q => absurd (hg.symm.trans q) (by decide))).trans ((if_pos hg).trans (if_neg (fun q => c44 ((kneg (kNm_v (n := vn + 1) hch)).mp q)))); rw [hq]; exact ⟨_, rfl, rfl, ⟨_, hM, fun _ => rfl⟩, hF⟩)
        | (have hq : kRB l vn = (false, nI 0, (kNm l (vn + 1)).2) := (if_pos hg2).trans (if_pos ((kneg (kNm_v (n := vn + 1) hch)).mpr c44)); rw [hq]; exact ⟨_, rfl, rfl, ⟨_, hM, fun q => by cases q⟩, hF⟩)
        | (have hq : kRB l vn = (true, 0 - (kNm l (vn + 1)).1, (kNm l (vn + 1)).2) := (if_pos hg2).trans (if_neg (fun q => c44 ((kneg (kNm_v (n := vn + 1) hch)).mp q))); rw [hq]; exact ⟨_, rfl, rfl, ⟨_, hM, fun _ => rfl⟩, hF⟩)
      · skip
        refine ks_iconst hκ 47 (nI 1) dX7_readsBy_47 kq_i1 ?_
        refine ks_goto hκ 48 52 dX7_readsBy_48 rfl ?_
        refine ks_iret hκ 52 hRt dX7_readsBy_52 (by decide) (by decide) (by decide) ?_
        first
        | exact absurd c29 (show ¬ kB1 true = 0 by decide)
        | exact absurd (show kB1 false = 0 by decide) c29
        | (have hq : kRB l vn = (false, nI 0, (kNm l (vn + 1)).2) := (if_neg (fun q => absurd (hg.symm.trans q) (by decide))).trans ((if_pos hg).trans (if_pos ((kneg (kNm_v (n := vn + 1) hch)).mpr c44))); rw [hq]; exact ⟨_, rfl, rfl, ⟨_, hM, fun q => by cases q⟩, hF⟩)
        | (have hq : kRB l vn = (true, (kNm l (vn + 1)).1, (kNm l (vn + 1)).2) := (if_neg (fun q => absurd (hg.symm.trans q) (by decide))).trans ((if_pos hg).trans (if_neg (fun q => c44 ((kneg (kNm_v (n := vn + 1) hch)).mp q)))); rw [hq]; exact ⟨_, rfl, rfl, ⟨_, hM, fun _ => rfl⟩, hF⟩)
        | (have hq : kRB l vn = (false, nI 0, (kNm l (vn + 1)).2) := (if_pos hg2).trans (if_pos ((kneg (kNm_v (n := vn + 1) hch)).mpr c44)); rw [hq]; exact ⟨_, rfl, rfl, ⟨_, hM, fun q => by cases q⟩, hF⟩)
        | (have hq : kRB l vn = (true, 0 - (kNm l (vn + 1)).1, (kNm l (vn + 1)).2) := (if_pos hg2).trans (if_neg (fun q => c44 ((kneg (kNm_v (n := vn + 1) hch)).mp q))); rw [hq]; exact ⟨_, rfl, rfl, ⟨_, hM, fun _ => rfl⟩, hF⟩)
  · skip
    have hg : ¬ l.getD vn (nI 0) = nI 43 := fun q => by rw [show kSg l vn (nI 43) = (true, vn + 1) from if_pos q] at c8; exact absurd c8 (show ¬ kB1 true = 0 by decide)
    rw [show kSg l vn (nI 43) = (false, vn) from if_neg hg] at hM ⊢
    refine ks_aload_n hκ 11 1 dX7_readsBy_11 rfl ?_
    refine ks_bipush hκ 12 (nI 45) dX7_readsBy_12 kq_b45 ?_
    refine ks_intcV1 hκ 14 dX7_readsBy_14 kc_X7_220 (c_Model_takes hM hT hTO hll hch (by omega) (show ¬ nI 45 = nI 0 by decide)) hM rfl (by decide) (Nat.le_of_ble_eq_true rfl) (by decide) (by decide) (fun r14 xh5 hp14 => ?_)
    obtain ⟨rfl, hM, hF9⟩ := hp14
    replace hT := hF9.at hT (by omega)
    replace hF := hF.tr (hF9.wd (by omega) (by omega))
    refine ks_if_ne hκ 17 22 dX7_readsBy_17 rfl (fun c17 => ?_) (fun c17 => ?_)
    · skip
      have hg2 : l.getD vn (nI 0) = nI 45 := by
        by_cases q : l.getD vn (nI 0) = nI 45
        · exact q
        · rw [show kSg l vn (nI 45) = (false, vn) from if_neg q] at c17; exact absurd rfl c17
      rw [show kSg l vn (nI 45) = (true, vn + 1) from if_pos hg2] at hM
      refine ks_aload_n hκ 22 1 dX7_readsBy_22 rfl ?_
      refine ks_intcV0 hκ 23 dX7_readsBy_23 kc_X7_223 (c_Model_number (vn := vn + 1) hM hT hTO hll hch (by omega)) hM rfl (by decide) (Nat.le_of_ble_eq_true rfl) (by decide) (by decide) (fun r23 xh6 hp23 => ?_)
      obtain ⟨rfl, hM, hF9⟩ := hp23
      replace hT := hF9.at hT (by omega)
      replace hF := hF.tr (hF9.wd (by omega) (by omega))
      refine ks_istore_n hκ 26 2 [(2, _), (1, _), (0, _)] dX7_readsBy_26 rfl (by decide) rfl ?_
      refine ks_aload_n hκ 27 2 dX7_readsBy_27 rfl ?_
      refine ks_iload_n hκ 28 1 dX7_readsBy_28 rfl ?_
      refine ks_if_eq hκ 29 36 dX7_readsBy_29 rfl (fun c29 => ?_) (fun c29 => ?_)
      · skip
        refine ks_iload_n hκ 36 0 dX7_readsBy_36 rfl ?_
        refine ks_ineg hκ 37 dX7_readsBy_37 ?_
        refine ks_putS hκ 38 [_, _, _, _, _, _, _, _, _, _] dX7_readsBy_38 kf_X7_226 hM rfl rfl (Nat.le_of_ble_eq_true rfl) rfl ?_
        refine ks_gen (fun xh7 exh7 => ?_)
        replace hM := ks_gs exh7 hM
        replace hT := ks_gn exh7 (ks_nb (b := m) (i := 0) (j := 3) rfl) hT
        replace hF := ks_Fr.st hF exh7 (by omega) (by omega)
        clear exh7
        refine ks_iload_n hκ 41 0 dX7_readsBy_41 rfl ?_
        refine ks_bipush hκ 42 (-6) dX7_readsBy_42 kq_bm6 ?_
        refine ks_icmp_eq hκ 44 51 dX7_readsBy_44 rfl (fun c44 => ?_) (fun c44 => ?_)
        · skip
          refine ks_iconst hκ 51 (nI 0) dX7_readsBy_51 kq_i0 ?_
          refine ks_iret hκ 52 hRt dX7_readsBy_52 (by decide) (by decide) (by decide) ?_
          first
          | exact absurd c29 (show ¬ kB1 true = 0 by decide)
          | exact absurd (show kB1 false = 0 by decide) c29
          | (have hq : kRB l vn = (false, nI 0, (kNm l (vn + 1)).2) := (if_neg (fun q => absurd (hg.symm.trans q) (by decide))).trans ((if_pos hg).trans (if_pos ((kneg (kNm_v (n := vn + 1) hch)).mpr c44))); rw [hq]; exact ⟨_, rfl, rfl, ⟨_, hM, fun q => by cases q⟩, hF⟩)
          | (have hq : kRB l vn = (true, (kNm l (vn + 1)).1, (kNm l (vn + 1)).2) := (if_neg (fun q => absurd (hg.symm.trans q) (by decide))).trans ((if_pos hg).trans (if_neg (fun q => c44 ((kneg (kNm_v (n := vn + 1) hch)).mp q)))); rw [hq]; exact ⟨_, rfl, rfl, ⟨_, hM, fun _ => rfl⟩, hF⟩)
          | (have hq : kRB l vn = (false, nI 0, (kNm l (vn + 1)).2) := (if_pos hg2).trans (if_pos ((kneg (kNm_v (n := vn + 1) hch)).mpr c44)); rw [hq]; exact ⟨_, rfl, rfl, ⟨_, hM, fun q => by cases q⟩, hF⟩)
          | (have hq : kRB l vn = (true, 0 - (kNm l (vn + 1)).1, (kNm l (vn + 1)).2) := (if_pos hg2).trans (if_neg (fun q => c44 ((kneg (kNm_v (n := vn + 1) hch)).mp q))); rw [hq]; exact ⟨_, rfl, rfl, ⟨_, hM, fun _ => rfl⟩, hF⟩)
        · skip
          refine ks_iconst hκ 47 (nI 1) dX7_readsBy_47 kq_i1 ?_
          refine ks_goto hκ 48 52 dX7_readsBy_48 rfl ?_
          refine ks_iret hκ 52 hRt dX7_readsBy_52 (by decide) (by decide) (by decide) ?_
          first
          | exact absurd c29 (show ¬ kB1 true = 0 by decide)
          | exact absurd (show kB1 false = 0 by decide) c29
          | (have hq : kRB l vn = (false, nI 0, (kNm l (vn + 1)).2) := (if_neg (fun q => absurd (hg.symm.trans q) (by decide))).trans ((if_pos hg).trans (if_pos ((kneg (kNm_v (n := vn + 1) hch)).mpr c44))); rw [hq]; exact ⟨_, rfl, rfl, ⟨_, hM, fun q => by cases q⟩, hF⟩)
          | (have hq : kRB l vn = (true, (kNm l (vn + 1)).1, (kNm l (vn + 1)).2) := (if_neg (fun q => absurd (hg.symm.trans q) (by decide))).trans ((if_pos hg).trans (if_neg (fun q => c44 ((kneg (kNm_v (n := vn + 1) hch)).mp q)))); rw [hq]; exact ⟨_, rfl, rfl, ⟨_, hM, fun _ => rfl⟩, hF⟩)
          | (have hq : kRB l vn = (false, nI 0, (kNm l (vn + 1)).2) := (if_pos hg2).trans (if_pos ((kneg (kNm_v (n := vn + 1) hch)).mpr c44)); rw [hq]; exact ⟨_, rfl, rfl, ⟨_, hM, fun q => by cases q⟩, hF⟩)
          | (have hq : kRB l vn = (true, 0 - (kNm l (vn + 1)).1, (kNm l (vn + 1)).2) := (if_pos hg2).trans (if_neg (fun q => c44 ((kneg (kNm_v (n := vn + 1) hch)).mp q))); rw [hq]; exact ⟨_, rfl, rfl, ⟨_, hM, fun _ => rfl⟩, hF⟩)
      · skip
        refine ks_iload_n hκ 32 0 dX7_readsBy_32 rfl ?_
        refine ks_goto hκ 33 38 dX7_readsBy_33 rfl ?_
        refine ks_putS hκ 38 [_, _, _, _, _, _, _, _, _, _] dX7_readsBy_38 kf_X7_226 hM rfl rfl (Nat.le_of_ble_eq_true rfl) rfl ?_
        refine ks_gen (fun xh8 exh8 => ?_)
        replace hM := ks_gs exh8 hM
        replace hT := ks_gn exh8 (ks_nb (b := m) (i := 0) (j := 3) rfl) hT
        replace hF := ks_Fr.st hF exh8 (by omega) (by omega)
        clear exh8
        refine ks_iload_n hκ 41 0 dX7_readsBy_41 rfl ?_
        refine ks_bipush hκ 42 (-6) dX7_readsBy_42 kq_bm6 ?_
        refine ks_icmp_eq hκ 44 51 dX7_readsBy_44 rfl (fun c44 => ?_) (fun c44 => ?_)
        · skip
          refine ks_iconst hκ 51 (nI 0) dX7_readsBy_51 kq_i0 ?_
          refine ks_iret hκ 52 hRt dX7_readsBy_52 (by decide) (by decide) (by decide) ?_
          first
          | exact absurd c29 (show ¬ kB1 true = 0 by decide)
          | exact absurd (show kB1 false = 0 by decide) c29
          | (have hq : kRB l vn = (false, nI 0, (kNm l (vn + 1)).2) := (if_neg (fun q => absurd (hg.symm.trans q) (by decide))).trans ((if_pos hg).trans (if_pos ((kneg (kNm_v (n := vn + 1) hch)).mpr c44))); rw [hq]; exact ⟨_, rfl, rfl, ⟨_, hM, fun q => by cases q⟩, hF⟩)
          | (have hq : kRB l vn = (true, (kNm l (vn + 1)).1, (kNm l (vn + 1)).2) := (if_neg (fun q => absurd (hg.symm.trans q) (by decide))).trans ((if_pos hg).trans (if_neg (fun q => c44 ((kneg (kNm_v (n := vn + 1) hch)).mp q)))); rw [hq]; exact ⟨_, rfl, rfl, ⟨_, hM, fun _ => rfl⟩, hF⟩)
          | (have hq : kRB l vn = (false, nI 0, (kNm l (vn + 1)).2) := (if_pos hg2).trans (if_pos ((kneg (kNm_v (n := vn + 1) hch)).mpr c44)); rw [hq]; exact ⟨_, rfl, rfl, ⟨_, hM, fun q => by cases q⟩, hF⟩)
          | (have hq : kRB l vn = (true, 0 - (kNm l (vn + 1)).1, (kNm l (vn + 1)).2) := (if_pos hg2).trans (if_neg (fun q => c44 ((kneg (kNm_v (n := vn + 1) hch)).mp q))); rw [hq]; exact ⟨_, rfl, rfl, ⟨_, hM, fun _ => rfl⟩, hF⟩)
        · skip
          refine ks_iconst hκ 47 (nI 1) dX7_readsBy_47 kq_i1 ?_
          refine ks_goto hκ 48 52 dX7_readsBy_48 rfl ?_
          refine ks_iret hκ 52 hRt dX7_readsBy_52 (by decide) (by decide) (by decide) ?_
          first
          | exact absurd c29 (show ¬ kB1 true = 0 by decide)
          | exact absurd (show kB1 false = 0 by decide) c29
          | (have hq : kRB l vn = (false, nI 0, (kNm l (vn + 1)).2) := (if_neg (fun q => absurd (hg.symm.trans q) (by decide))).trans ((if_pos hg).trans (if_pos ((kneg (kNm_v (n := vn + 1) hch)).mpr c44))); rw [hq]; exact ⟨_, rfl, rfl, ⟨_, hM, fun q => by cases q⟩, hF⟩)
          | (have hq : kRB l vn = (true, (kNm l (vn + 1)).1, (kNm l (vn + 1)).2) := (if_neg (fun q => absurd (hg.symm.trans q) (by decide))).trans ((if_pos hg).trans (if_neg (fun q => c44 ((kneg (kNm_v (n := vn + 1) hch)).mp q)))); rw [hq]; exact ⟨_, rfl, rfl, ⟨_, hM, fun _ => rfl⟩, hF⟩)
          | (have hq : kRB l vn = (false, nI 0, (kNm l (vn + 1)).2) := (if_pos hg2).trans (if_pos ((kneg (kNm_v (n := vn + 1) hch)).mpr c44)); rw [hq]; exact ⟨_, rfl, rfl, ⟨_, hM, fun q => by cases q⟩, hF⟩)
          | (have hq : kRB l vn = (true, 0 - (kNm l (vn + 1)).1, (kNm l (vn + 1)).2) := (if_pos hg2).trans (if_neg (fun q => c44 ((kneg (kNm_v (n := vn + 1) hch)).mp q))); rw [hq]; exact ⟨_, rfl, rfl, ⟨_, hM, fun _ => rfl⟩, hF⟩)
    · skip
      have hg2 : ¬ l.getD vn (nI 0) = nI 45 := fun q => by rw [show kSg l vn (nI 45) = (true, vn + 1) from if_pos q] at c17; exact absurd c17 (show ¬ kB1 true = 0 by decide)
      rw [show kSg l vn (nI 45) = (false, vn) from if_neg hg2] at hM
      refine ks_iconst hκ 20 (nI 0) dX7_readsBy_20 kq_i0 ?_
      refine ks_iret hκ 21 hRt dX7_readsBy_21 (by decide) (by decide) (by decide) ?_
      have hq : kRB l vn = (false, nI 0, vn) := (if_neg hg2).trans (if_neg hg)
      rw [hq]
      exact ⟨_, rfl, rfl, ⟨_, hM, fun q => by cases q⟩, hF⟩
