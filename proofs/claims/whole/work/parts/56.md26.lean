
/-! THE MODEL: an order is read; the fault -/
theorem ki2c {c : Nat} (h : c < 127) : ((nI c).toUInt32 % 65536).toInt32 = nI c := by
  have q : ∀ c : Fin 127, ((nI c.val).toUInt32 % 65536).toInt32 = nI c.val := by decide +kernel
  exact q ⟨c, h⟩
theorem knar {c : Nat} (h : c < 127) : narrow .char (.int (nI c)) = .int (nI c) := by
  have q : ∀ c : Fin 127, (nI c.val).toUInt32.toUInt16.toUInt32.toInt32 = nI c.val := by decide +kernel
  exact congrArg Value.int (q ⟨c, h⟩)
theorem kfit {c : Nat} (h : c < 127) : fits .char (.int (nI c)) = true := by
  have q : ∀ c : Fin 127, fits .char (.int (nI c.val)) = true := by decide +kernel
  exact q ⟨c, h⟩
theorem kIsLt_far {c : Nat} (h : c < 127) (h2 : c < 103 ∨ 120 < c) : kIsLt (nI c) = 0 := by
  have q : ∀ c : Fin 127, (c.val < 103 ∨ 120 < c.val) → kIsLt (nI c.val) = 0 := by decide +kernel
  exact q ⟨c, h⟩ h2
def kZ4 : kO := (nI 0, nI 0, nI 0, nI 0)
theorem kRO_no {l : List Int32} {n : Nat} (h : kIsLt (l.getD n (nI 0)) = 0) : kRO l n = (false, kZ4, n) := if_pos h
theorem kRO_kt {l : List Int32} {n j : Nat} (h : l.getD n (nI 0) = nI j) (hj : j = 107 ∨ j = 116) : kRO l n = if (kRN l (n + 1)).1 = false then (false, kZ4, (kRN l (n + 1)).2.2) else (true, (nI j, (kRN l (n + 1)).2.1, nI 0, nI 0), (kRN l (n + 1)).2.2) := by
  unfold kRO
  rw [h]
  rcases hj with rfl | rfl
  · exact (if_neg (by decide)).trans ((if_neg (by decide)).trans ((if_neg (by decide)).trans ((if_neg (by decide)).trans (if_neg (by decide)))))
  · exact (if_neg (by decide)).trans ((if_neg (by decide)).trans ((if_neg (by decide)).trans ((if_neg (by decide)).trans (if_neg (by decide)))))
theorem kRO_g {l : List Int32} {n : Nat} (h : l.getD n (nI 0) = nI 103) : kRO l n = if (kRD l (n + 1)).1 = false then (false, kZ4, (kRD l (n + 1)).2.2)
    else if (kRB l (kRD l (n + 1)).2.2).1 = false then (false, kZ4, (kRB l (kRD l (n + 1)).2.2).2.2)
    else (true, (nI 103, (kRD l (n + 1)).2.1, (kRB l (kRD l (n + 1)).2.2).2.1, nI 0), (kRB l (kRD l (n + 1)).2.2).2.2) := by
  unfold kRO
  rw [h]
  exact (if_neg (by decide)).trans (if_pos rfl)
theorem kRO_n {l : List Int32} {n : Nat} (h : l.getD n (nI 0) = nI 110) : kRO l n = if (kRD l (n + 1)).1 = false then (false, kZ4, (kRD l (n + 1)).2.2) else (true, (nI 110, (kRD l (n + 1)).2.1, nI 0, nI 0), (kRD l (n + 1)).2.2) := by
  unfold kRO
  rw [h]
  exact (if_neg (by decide)).trans ((if_neg (by decide)).trans (if_pos rfl))
theorem kRO_p {l : List Int32} {n : Nat} (h : l.getD n (nI 0) = nI 112) : kRO l n = if (kRN l (n + 1)).1 = false then (false, kZ4, (kRN l (n + 1)).2.2)
    else if (kSg l (kRN l (n + 1)).2.2 (nI 58)).1 = false then (false, kZ4, (kSg l (kRN l (n + 1)).2.2 (nI 58)).2)
    else if (kRD l (kSg l (kRN l (n + 1)).2.2 (nI 58)).2).1 = false then (false, kZ4, (kRD l (kSg l (kRN l (n + 1)).2.2 (nI 58)).2).2.2)
    else if (kRB l (kRD l (kSg l (kRN l (n + 1)).2.2 (nI 58)).2).2.2).1 = false then (false, kZ4, (kRB l (kRD l (kSg l (kRN l (n + 1)).2.2 (nI 58)).2).2.2).2.2)
    else (true, (nI 112, (kRN l (n + 1)).2.1, (kRD l (kSg l (kRN l (n + 1)).2.2 (nI 58)).2).2.1, (kRB l (kRD l (kSg l (kRN l (n + 1)).2.2 (nI 58)).2).2.2).2.1), (kRB l (kRD l (kSg l (kRN l (n + 1)).2.2 (nI 58)).2).2.2).2.2) := by
  unfold kRO
  rw [h]
  exact (if_neg (by decide)).trans ((if_neg (by decide)).trans ((if_neg (by decide)).trans (if_pos rfl)))
theorem kRO_x {l : List Int32} {n : Nat} (h : l.getD n (nI 0) = nI 120) : kRO l n = if (kRN l (n + 1)).1 = false then (false, kZ4, (kRN l (n + 1)).2.2)
    else if (kSg l (kRN l (n + 1)).2.2 (nI 46)).1 = false then (false, kZ4, (kSg l (kRN l (n + 1)).2.2 (nI 46)).2)
    else if (kRD l (kSg l (kRN l (n + 1)).2.2 (nI 46)).2).1 = false then (false, kZ4, (kRD l (kSg l (kRN l (n + 1)).2.2 (nI 46)).2).2.2)
    else (true, (nI 120, (kRN l (n + 1)).2.1, (kRD l (kSg l (kRN l (n + 1)).2.2 (nI 46)).2).2.1, nI 0), (kRD l (kSg l (kRN l (n + 1)).2.2 (nI 46)).2).2.2) := by
  unfold kRO
  rw [h]
  exact (if_neg (by decide)).trans ((if_neg (by decide)).trans ((if_neg (by decide)).trans ((if_neg (by decide)).trans (if_pos rfl))))
/-- what the Model has read of an order -/
def kMf (o : kO) (kd on tw bx : Int32) : Prop := kd = o.1 ∧ ((o.1 = nI 107 ∨ o.1 = nI 116) → on = o.2.1) ∧ (o.1 = nI 103 → tw = o.2.1 ∧ bx = o.2.2.1) ∧ (o.1 = nI 110 → tw = o.2.1) ∧ (o.1 = nI 120 → on = o.2.1 ∧ tw = o.2.2.1) ∧ (o.1 = nI 112 → on = o.2.1 ∧ tw = o.2.2.1 ∧ bx = o.2.2.2)
theorem kDg_len {l : List Int32} {n : Nat} (hn : n ≤ l.length) : (kDg l n).2 ≤ l.length ∧ n ≤ (kDg l n).2 ∧ ((kDg l n).1 < 0 ∨ n + 1 ≤ (kDg l n).2) := by
  by_cases h : kHr l n (nI 48) (nI 57) = 0
  · rw [kDg_f h]; exact ⟨hn, Nat.le_refl _, Or.inl (by show (-6 : Int32) < 0; decide)⟩
  · rw [kDg_t h]; exact ⟨(kHr_1 h).1, Nat.le_succ _, Or.inr (Nat.le_refl _)⟩
theorem kNm_len {l : List Int32} {n : Nat} (hn : n ≤ l.length) : (kNm l n).2 ≤ l.length ∧ n ≤ (kNm l n).2 ∧ ((kNm l n).1 < 0 ∨ n + 1 ≤ (kNm l n).2) := by
  have h1 := kDg_len hn
  have h2 := kDg_len h1.1
  unfold kNm
  by_cases q1 : (kDg l n).1 ≤ 0
  · rw [if_pos q1]; exact h1
  · rw [if_neg q1]
    have h3 := h1.2.2.resolve_left (fun q => q1 (Int32.le_of_lt q))
    by_cases q2 : (kDg l (kDg l n).2).1 < 0
    · rw [if_pos q2]; exact ⟨h2.1, Nat.le_trans h1.2.1 h2.2.1, Or.inr (Nat.le_trans h3 h2.2.1)⟩
    · rw [if_neg q2]; exact ⟨h2.1, Nat.le_trans h1.2.1 h2.2.1, Or.inr (Nat.le_trans h3 h2.2.1)⟩
theorem kRD_len {l : List Int32} {n : Nat} (hn : n ≤ l.length) : (kRD l n).2.2 ≤ l.length ∧ n ≤ (kRD l n).2.2 ∧ ((kRD l n).1 = false ∨ n + 1 ≤ (kRD l n).2.2) := by
  have h1 := kDg_len hn
  unfold kRD
  by_cases q : (kDg l n).1 < 0
  · rw [if_pos q]; exact ⟨h1.1, h1.2.1, Or.inl rfl⟩
  · rw [if_neg q]; exact ⟨h1.1, h1.2.1, Or.inr (h1.2.2.resolve_left q)⟩
theorem kRN_len {l : List Int32} {n : Nat} (hn : n ≤ l.length) : (kRN l n).2.2 ≤ l.length ∧ n ≤ (kRN l n).2.2 ∧ ((kRN l n).1 = false ∨ n + 1 ≤ (kRN l n).2.2) := by
  have h1 := kNm_len hn
  unfold kRN
  by_cases q : (kNm l n).1 < 0
  · rw [if_pos q]; exact ⟨h1.1, h1.2.1, Or.inl rfl⟩
  · rw [if_neg q]; exact ⟨h1.1, h1.2.1, Or.inr (h1.2.2.resolve_left q)⟩
theorem kgd_lt {l : List Int32} {n : Nat} {c : Int32} (h : l.getD n (nI 0) = c) (hc : ¬ c = nI 0) : n < l.length := by
  by_cases q : n < l.length
  · exact q
  · rw [kgd_out (by omega)] at h; exact absurd h.symm hc
theorem kSg_len {l : List Int32} {n : Nat} {c : Int32} (hc : ¬ c = nI 0) (hn : n ≤ l.length) : (kSg l n c).2 ≤ l.length ∧ n ≤ (kSg l n c).2 := by
  unfold kSg
  by_cases q : l.getD n (nI 0) = c
  · rw [if_pos q]; exact ⟨kgd_lt q hc, Nat.le_succ _⟩
  · rw [if_neg q]; exact ⟨hn, Nat.le_refl _⟩
theorem kRB_len {l : List Int32} {n : Nat} (hn : n ≤ l.length) : (kRB l n).2.2 ≤ l.length ∧ n ≤ (kRB l n).2.2 := by
  unfold kRB
  by_cases q : l.getD n (nI 0) = nI 45
  · rw [if_pos q]
    have h1 := kNm_len (show n + 1 ≤ l.length from kgd_lt q (by decide))
    split <;> exact ⟨h1.1, by have := h1.2.1; show n ≤ (kNm l (n + 1)).2; omega⟩
  · rw [if_neg q]
    by_cases q2 : l.getD n (nI 0) = nI 43
    · rw [if_pos q2]
      have h1 := kNm_len (show n + 1 ≤ l.length from kgd_lt q2 (by decide))
      split <;> exact ⟨h1.1, by have := h1.2.1; show n ≤ (kNm l (n + 1)).2; omega⟩
    · rw [if_neg q2]; exact ⟨hn, Nat.le_refl _⟩
theorem kRO_len {l : List Int32} {n : Nat} (hn : n ≤ l.length) : (kRO l n).2.2 ≤ l.length ∧ n ≤ (kRO l n).2.2 ∧ ((kRO l n).1 = true → n + 2 ≤ (kRO l n).2.2) := by
  unfold kRO
  by_cases h0 : kIsLt (l.getD n (nI 0)) = 0
  · rw [if_pos h0]; exact ⟨hn, Nat.le_refl _, fun q => by cases q⟩
  · rw [if_neg h0]
    have hn1 : n + 1 ≤ l.length := by
      by_cases q : n < l.length
      · exact q
      · rw [kgd_out (by omega)] at h0; exact absurd (by decide) h0
    have r1 := kRD_len hn1
    have r2 := kRB_len r1.1
    have a1 := kRN_len hn1
    have s1 := kSg_len (c := nI 58) (by decide) a1.1
    have s2 := kSg_len (c := nI 46) (by decide) a1.1
    have d1 := kRD_len s1.1
    have d2 := kRD_len s2.1
    have b1 := kRB_len d1.1
    by_cases h1 : l.getD n (nI 0) = nI 103
    · rw [if_pos h1]
      by_cases c1 : (kRD l (n + 1)).1 = false
      · rw [if_pos c1]; exact ⟨r1.1, by show n ≤ (kRD l (n + 1)).2.2; omega, fun q => by cases q⟩
      · rw [if_neg c1]
        have r3 := r1.2.2.resolve_left c1
        by_cases c2 : (kRB l (kRD l (n + 1)).2.2).1 = false
        · rw [if_pos c2]; exact ⟨r2.1, by show n ≤ (kRB l (kRD l (n + 1)).2.2).2.2; omega, fun q => by cases q⟩
        · rw [if_neg c2]; exact ⟨r2.1, by show n ≤ (kRB l (kRD l (n + 1)).2.2).2.2; omega, fun _ => by show n + 2 ≤ (kRB l (kRD l (n + 1)).2.2).2.2; omega⟩
    · rw [if_neg h1]
      by_cases h2 : l.getD n (nI 0) = nI 110
      · rw [if_pos h2]
        by_cases c1 : (kRD l (n + 1)).1 = false
        · rw [if_pos c1]; exact ⟨r1.1, by show n ≤ (kRD l (n + 1)).2.2; omega, fun q => by cases q⟩
        · rw [if_neg c1]
          have r3 := r1.2.2.resolve_left c1
          exact ⟨r1.1, by show n ≤ (kRD l (n + 1)).2.2; omega, fun _ => by show n + 2 ≤ (kRD l (n + 1)).2.2; omega⟩
      · rw [if_neg h2]
        by_cases h3 : l.getD n (nI 0) = nI 112
        · rw [if_pos h3]
          by_cases c1 : (kRN l (n + 1)).1 = false
          · rw [if_pos c1]; exact ⟨a1.1, by show n ≤ (kRN l (n + 1)).2.2; omega, fun q => by cases q⟩
          · rw [if_neg c1]
            have r3 := a1.2.2.resolve_left c1
            by_cases c2 : (kSg l (kRN l (n + 1)).2.2 (nI 58)).1 = false
            · rw [if_pos c2]; exact ⟨s1.1, by show n ≤ (kSg l (kRN l (n + 1)).2.2 (nI 58)).2; omega, fun q => by cases q⟩
            · rw [if_neg c2]
              by_cases c3 : (kRD l (kSg l (kRN l (n + 1)).2.2 (nI 58)).2).1 = false
              · rw [if_pos c3]; exact ⟨d1.1, by show n ≤ (kRD l (kSg l (kRN l (n + 1)).2.2 (nI 58)).2).2.2; omega, fun q => by cases q⟩
              · rw [if_neg c3]
                by_cases c4 : (kRB l (kRD l (kSg l (kRN l (n + 1)).2.2 (nI 58)).2).2.2).1 = false
                · rw [if_pos c4]; exact ⟨b1.1, by show n ≤ (kRB l (kRD l (kSg l (kRN l (n + 1)).2.2 (nI 58)).2).2.2).2.2; omega, fun q => by cases q⟩
                · rw [if_neg c4]; exact ⟨b1.1, by show n ≤ (kRB l (kRD l (kSg l (kRN l (n + 1)).2.2 (nI 58)).2).2.2).2.2; omega, fun _ => by show n + 2 ≤ (kRB l (kRD l (kSg l (kRN l (n + 1)).2.2 (nI 58)).2).2.2).2.2; omega⟩
        · rw [if_neg h3]
          by_cases h4 : l.getD n (nI 0) = nI 120
          · rw [if_pos h4]
            by_cases c1 : (kRN l (n + 1)).1 = false
            · rw [if_pos c1]; exact ⟨a1.1, by show n ≤ (kRN l (n + 1)).2.2; omega, fun q => by cases q⟩
            · rw [if_neg c1]
              have r3 := a1.2.2.resolve_left c1
              by_cases c2 : (kSg l (kRN l (n + 1)).2.2 (nI 46)).1 = false
              · rw [if_pos c2]; exact ⟨s2.1, by show n ≤ (kSg l (kRN l (n + 1)).2.2 (nI 46)).2; omega, fun q => by cases q⟩
              · rw [if_neg c2]
                by_cases c3 : (kRD l (kSg l (kRN l (n + 1)).2.2 (nI 46)).2).1 = false
                · rw [if_pos c3]; exact ⟨d2.1, by show n ≤ (kRD l (kSg l (kRN l (n + 1)).2.2 (nI 46)).2).2.2; omega, fun q => by cases q⟩
                · rw [if_neg c3]; exact ⟨d2.1, by show n ≤ (kRD l (kSg l (kRN l (n + 1)).2.2 (nI 46)).2).2.2; omega, fun _ => by show n + 2 ≤ (kRD l (kSg l (kRN l (n + 1)).2.2 (nI 46)).2).2.2; omega⟩
          · rw [if_neg h4]
            by_cases c1 : (kRN l (n + 1)).1 = false
            · rw [if_pos c1]; exact ⟨a1.1, by show n ≤ (kRN l (n + 1)).2.2; omega, fun q => by cases q⟩
            · rw [if_neg c1]
              have r3 := a1.2.2.resolve_left c1
              exact ⟨a1.1, by show n ≤ (kRN l (n + 1)).2.2; omega, fun _ => by show n + 2 ≤ (kRN l (n + 1)).2.2; omega⟩
set_option maxRecDepth 100000 in
set_option maxHeartbeats 4000000 in
theorem c_Model_readsOrder {g : ks_G} {h : ks_H} {m vn : Nat} {w0 w1 w2 : Value} {kd on tw bx : Int32} {T : Nat → Int32} {l : List Int32} (hM : h[m]? = some (ks_O 7 [w0, w1, w2, ks_ref g (m + 3), .int (nI l.length), .int (nI vn), .int kd, .int on, .int tw, .int bx])) (hT : h[m + 3]? = some (ks_I g 80 T)) (hTO : kTO T l) (hll : l.length ≤ 80) (hch : kSigns l) (hvn : vn ≤ 150) : ks_Met g (yX7_readsOrder, cX7_readsOrder, 1, some .boolean) 5 0 0 [ks_ref g m] h (ks_Ph (fun r h' => r = kB1 (kRO l vn).1 ∧ (∃ kd1 on1 tw1 bx1, h'[m]? = some (ks_O 7 [w0, w1, w2, ks_ref g (m + 3), .int (nI l.length), .int (nI ((kRO l vn).2.2)), .int kd1, .int on1, .int tw1, .int bx1]) ∧ ((kRO l vn).1 = true → kMf (kRO l vn).2.1 kd1 on1 tw1 bx1)) ∧ ks_Fr h h' m (m + 1))) := by
  refine ks_intro (by decide) (Nat.le_of_ble_eq_true rfl) (fun κ hκ hRt => ?_)
  refine ks_cv (ls := [(0, ks_ref g m)]) ?_ rfl rfl rfl
  have hF : ks_Fr h h m (m + 1) := ks_Fr.rf
  refine ks_aload_n hκ 0 0 dX7_readsOrder_0 rfl ?_
  refine ks_aload_n hκ 1 0 dX7_readsOrder_1 rfl ?_
  refine ks_get hκ 2 dX7_readsOrder_2 kf_X7_211 hM rfl ?_
  refine ks_aload_n hκ 5 0 dX7_readsOrder_5 rfl ?_
  refine ks_get hκ 6 dX7_readsOrder_6 kf_X7_193 hM rfl ?_
  refine ks_icmp_ge hκ 9 25 dX7_readsOrder_9 rfl (fun c9 => ?_) (fun c9 => ?_)
  · skip
    have c9 := (nI_leI (by omega) (by omega)).mp c9
    have hgo := kgd_out (l := l) (n := vn) (by omega)
    refine ks_bipush hκ 25 (nI 32) dX7_readsOrder_25 kq_b32 ?_
    refine ks_putS hκ 27 [_, _, _, _, _, _, _, _, _, _] dX7_readsOrder_27 kf_X7_235 hM (knar (by omega)) (kfit (by omega)) (Nat.le_of_ble_eq_true rfl) rfl ?_
    refine ks_gen (fun xh1 exh1 => ?_)
    replace hM := ks_gs exh1 hM
    replace hT := ks_gn exh1 (ks_nb (b := m) (i := 0) (j := 3) rfl) hT
    replace hF := ks_Fr.st hF exh1 (by omega) (by omega)
    clear exh1
    refine ks_aload_n hκ 30 0 dX7_readsOrder_30 rfl ?_
    refine ks_dup hκ 31 dX7_readsOrder_31 rfl ?_
    refine ks_get hκ 32 dX7_readsOrder_32 kf_X7_211 hM rfl ?_
    refine ks_iconst hκ 35 (nI 1) dX7_readsOrder_35 kq_i1 ?_
    refine ks_iaddN hκ 36 dX7_readsOrder_36 ?_
    refine ks_putS hκ 37 [_, _, _, _, _, _, _, _, _, _] dX7_readsOrder_37 kf_X7_211 hM rfl rfl (Nat.le_of_ble_eq_true rfl) rfl ?_
    refine ks_gen (fun xh2 exh2 => ?_)
    replace hM := ks_gs exh2 hM
    replace hT := ks_gn exh2 (ks_nb (b := m) (i := 0) (j := 3) rfl) hT
    replace hF := ks_Fr.st hF exh2 (by omega) (by omega)
    clear exh2
    refine ks_aload_n hκ 40 0 dX7_readsOrder_40 rfl ?_
    refine ks_get hκ 41 dX7_readsOrder_41 kf_X7_235 hM rfl ?_
    refine ks_tableOut hκ 44 227 dX7_readsOrder_44 (Or.inl (by decide)) rfl ?_
    refine ks_aload_n hκ 227 0 dX7_readsOrder_227 rfl ?_
    refine ks_dup hκ 228 dX7_readsOrder_228 rfl ?_
    refine ks_get hκ 229 dX7_readsOrder_229 kf_X7_211 hM rfl ?_
    refine ks_iconst hκ 232 (nI 1) dX7_readsOrder_232 kq_i1 ?_
    refine ks_isubN hκ 233 dX7_readsOrder_233 (by omega) ?_
    refine ks_putS hκ 234 [_, _, _, _, _, _, _, _, _, _] dX7_readsOrder_234 kf_X7_211 hM rfl rfl (Nat.le_of_ble_eq_true rfl) rfl ?_
    refine ks_gen (fun xh3 exh3 => ?_)
    replace hM := ks_gs exh3 hM
    replace hT := ks_gn exh3 (ks_nb (b := m) (i := 0) (j := 3) rfl) hT
    replace hF := ks_Fr.st hF exh3 (by omega) (by omega)
    clear exh3
    refine ks_iconst hκ 237 (nI 0) dX7_readsOrder_237 kq_i0 ?_
    refine ks_iret hκ 238 hRt dX7_readsOrder_238 (by decide) (by decide) (by decide) ?_
    have hno : kIsLt (l.getD vn (nI 0)) = 0 := by
      first
      | (rw [hgo]; decide)
      | (rw [hgj]; decide)
      | (rw [hgd]; have q8 := nI_toInt (show vk < 2 ^ 31 by omega); rw [q8] at hs44; exact kIsLt_far (by omega) (by omega))
    rw [kRO_no hno]
    rw [Nat.add_sub_cancel] at hM
    exact ⟨_, rfl, rfl, ⟨_, _, _, _, hM, fun q => by cases q⟩, hF⟩
  · skip
    have c9 := mt (nI_leI (by omega) (by omega)).mpr c9
    obtain ⟨vk, hvk1, hvk2, hgd⟩ := kgd_in hch (show vn < l.length by omega)
    refine ks_aload_n hκ 12 0 dX7_readsOrder_12 rfl ?_
    refine ks_get hκ 13 dX7_readsOrder_13 kf_X7_17 hM rfl ?_
    refine ks_aload_n hκ 16 0 dX7_readsOrder_16 rfl ?_
    refine ks_get hκ 17 dX7_readsOrder_17 kf_X7_211 hM rfl ?_
    refine ks_iald hκ 20 (vn) dX7_readsOrder_20 hT rfl (by omega) (by decide) ?_
    refine ks_top (nI vk) ((kTO_at hTO (by omega)).trans hgd) ?_
    refine ks_i2c hκ 21 dX7_readsOrder_21 ?_
    refine ks_top (nI vk) (ki2c (by omega)) ?_
    refine ks_goto hκ 22 27 dX7_readsOrder_22 rfl ?_
    refine ks_putS hκ 27 [_, _, _, _, _, _, _, _, _, _] dX7_readsOrder_27 kf_X7_235 hM (knar (by omega)) (kfit (by omega)) (Nat.le_of_ble_eq_true rfl) rfl ?_
    refine ks_gen (fun xh4 exh4 => ?_)
    replace hM := ks_gs exh4 hM
    replace hT := ks_gn exh4 (ks_nb (b := m) (i := 0) (j := 3) rfl) hT
    replace hF := ks_Fr.st hF exh4 (by omega) (by omega)
    clear exh4
    refine ks_aload_n hκ 30 0 dX7_readsOrder_30 rfl ?_
    refine ks_dup hκ 31 dX7_readsOrder_31 rfl ?_
    refine ks_get hκ 32 dX7_readsOrder_32 kf_X7_211 hM rfl ?_
    refine ks_iconst hκ 35 (nI 1) dX7_readsOrder_35 kq_i1 ?_
    refine ks_iaddN hκ 36 dX7_readsOrder_36 ?_
    refine ks_putS hκ 37 [_, _, _, _, _, _, _, _, _, _] dX7_readsOrder_37 kf_X7_211 hM rfl rfl (Nat.le_of_ble_eq_true rfl) rfl ?_
    refine ks_gen (fun xh5 exh5 => ?_)
    replace hM := ks_gs exh5 hM
    replace hT := ks_gn exh5 (ks_nb (b := m) (i := 0) (j := 3) rfl) hT
    replace hF := ks_Fr.st hF exh5 (by omega) (by omega)
    clear exh5
    refine ks_aload_n hκ 40 0 dX7_readsOrder_40 rfl ?_
    refine ks_get hκ 41 dX7_readsOrder_41 kf_X7_235 hM rfl ?_
    rcases ks_sw (nI vk) 103 120 (by decide) with hs44 | hs44 | ⟨sj44, ha44, hb44, hs44⟩
    · skip
      refine ks_tableOut hκ 44 227 dX7_readsOrder_44 (Or.inl hs44) rfl ?_
      refine ks_aload_n hκ 227 0 dX7_readsOrder_227 rfl ?_
      refine ks_dup hκ 228 dX7_readsOrder_228 rfl ?_
      refine ks_get hκ 229 dX7_readsOrder_229 kf_X7_211 hM rfl ?_
      refine ks_iconst hκ 232 (nI 1) dX7_readsOrder_232 kq_i1 ?_
      refine ks_isubN hκ 233 dX7_readsOrder_233 (by omega) ?_
      refine ks_putS hκ 234 [_, _, _, _, _, _, _, _, _, _] dX7_readsOrder_234 kf_X7_211 hM rfl rfl (Nat.le_of_ble_eq_true rfl) rfl ?_
      refine ks_gen (fun xh6 exh6 => ?_)
      replace hM := ks_gs exh6 hM
      replace hT := ks_gn exh6 (ks_nb (b := m) (i := 0) (j := 3) rfl) hT
      replace hF := ks_Fr.st hF exh6 (by omega) (by omega)
      clear exh6
      refine ks_iconst hκ 237 (nI 0) dX7_readsOrder_237 kq_i0 ?_
      refine ks_iret hκ 238 hRt dX7_readsOrder_238 (by decide) (by decide) (by decide) ?_
      have hno : kIsLt (l.getD vn (nI 0)) = 0 := by
        first
        | (rw [hgo]; decide)
        | (rw [hgj]; decide)
        | (rw [hgd]; have q8 := nI_toInt (show vk < 2 ^ 31 by omega); rw [q8] at hs44; exact kIsLt_far (by omega) (by omega))
      rw [kRO_no hno]
      rw [Nat.add_sub_cancel] at hM
      exact ⟨_, rfl, rfl, ⟨_, _, _, _, hM, fun q => by cases q⟩, hF⟩
    · skip
      refine ks_tableOut hκ 44 227 dX7_readsOrder_44 (Or.inr hs44) rfl ?_
      refine ks_aload_n hκ 227 0 dX7_readsOrder_227 rfl ?_
      refine ks_dup hκ 228 dX7_readsOrder_228 rfl ?_
      refine ks_get hκ 229 dX7_readsOrder_229 kf_X7_211 hM rfl ?_
      refine ks_iconst hκ 232 (nI 1) dX7_readsOrder_232 kq_i1 ?_
      refine ks_isubN hκ 233 dX7_readsOrder_233 (by omega) ?_
      refine ks_putS hκ 234 [_, _, _, _, _, _, _, _, _, _] dX7_readsOrder_234 kf_X7_211 hM rfl rfl (Nat.le_of_ble_eq_true rfl) rfl ?_
      refine ks_gen (fun xh7 exh7 => ?_)
      replace hM := ks_gs exh7 hM
      replace hT := ks_gn exh7 (ks_nb (b := m) (i := 0) (j := 3) rfl) hT
      replace hF := ks_Fr.st hF exh7 (by omega) (by omega)
      clear exh7
      refine ks_iconst hκ 237 (nI 0) dX7_readsOrder_237 kq_i0 ?_
      refine ks_iret hκ 238 hRt dX7_readsOrder_238 (by decide) (by decide) (by decide) ?_
      have hno : kIsLt (l.getD vn (nI 0)) = 0 := by
        first
        | (rw [hgo]; decide)
        | (rw [hgj]; decide)
        | (rw [hgd]; have q8 := nI_toInt (show vk < 2 ^ 31 by omega); rw [q8] at hs44; exact kIsLt_far (by omega) (by omega))
      rw [kRO_no hno]
      rw [Nat.add_sub_cancel] at hM
      exact ⟨_, rfl, rfl, ⟨_, _, _, _, hM, fun q => by cases q⟩, hF⟩
    · skip
      rcases (show sj44 = 103 ∨ sj44 = 104 ∨ sj44 = 105 ∨ sj44 = 106 ∨ sj44 = 107 ∨ sj44 = 108 ∨ sj44 = 109 ∨ sj44 = 110 ∨ sj44 = 111 ∨ sj44 = 112 ∨ sj44 = 113 ∨ sj44 = 114 ∨ sj44 = 115 ∨ sj44 = 116 ∨ sj44 = 117 ∨ sj44 = 118 ∨ sj44 = 119 ∨ sj44 = 120 by omega) with rfl | rfl | rfl | rfl | rfl | rfl | rfl | rfl | rfl | rfl | rfl | rfl | rfl | rfl | rfl | rfl | rfl | rfl
      · skip
        have hgj : l.getD vn (nI 0) = nI 103 := hgd.trans hs44
        refine ks_top (nI 103) hs44 ?_
        refine ks_tableIn hκ 44 137 dX7_readsOrder_44 (off := 93) (by decide) (by decide) (by decide) rfl ?_
        refine ks_aload_n hκ 137 0 dX7_readsOrder_137 rfl ?_
        refine ks_intcV0 hκ 138 dX7_readsOrder_138 kc_X7_243 (c_Model_readsKitten hM hT hTO hll hch (by omega)) hM rfl (by decide) (Nat.le_of_ble_eq_true rfl) (by decide) (by decide) (fun r138 xh8 hp138 => ?_)
        obtain ⟨rfl, ⟨tw138, hM, hv138⟩, hF9⟩ := hp138
        have hb138 := kRD_le l (vn + 1)
        replace hT := hF9.at hT (by omega)
        replace hF := hF.tr (hF9.wd (by omega) (by omega))
        refine ks_if_eq hκ 141 155 dX7_readsOrder_141 rfl (fun c141 => ?_) (fun c141 => ?_)
        · skip
          have c141 := kB1_c0 c141
          refine ks_iconst hκ 155 (nI 0) dX7_readsOrder_155 kq_i0 ?_
          refine ks_iret hκ 156 hRt dX7_readsOrder_156 (by decide) (by decide) (by decide) ?_
          first
          | (have hq := (kRO_g hgj).trans (if_pos c141); rw [hq]; exact ⟨_, rfl, rfl, ⟨_, _, _, _, hM, fun q => by cases q⟩, hF⟩)
          | (have hq := (kRO_g hgj).trans ((if_neg c141).trans (if_pos c148)); rw [hq]; exact ⟨_, rfl, rfl, ⟨_, _, _, _, hM, fun q => by cases q⟩, hF⟩)
          | (have hq := (kRO_g hgj).trans ((if_neg c141).trans (if_neg c148)); rw [hq]; exact ⟨_, rfl, rfl, ⟨_, _, _, _, hM, fun _ => ⟨hs44, fun q => absurd q (show ¬ (nI 103 = nI 107 ∨ nI 103 = nI 116) by decide), fun _ => ⟨hv138 (Bool.not_eq_false _ ▸ c141), hv145 (Bool.not_eq_false _ ▸ c148)⟩, fun q => absurd q (show ¬ (nI 103 = nI 110) by decide), fun q => absurd q (show ¬ (nI 103 = nI 120) by decide), fun q => absurd q (show ¬ (nI 103 = nI 112) by decide)⟩⟩, hF⟩)
        · skip
          have c141 := kB1_c1 c141
          refine ks_aload_n hκ 144 0 dX7_readsOrder_144 rfl ?_
          refine ks_intcV0 hκ 145 dX7_readsOrder_145 kc_X7_246 (c_Model_readsBy hM hT hTO hll hch (by omega)) hM rfl (by decide) (Nat.le_of_ble_eq_true rfl) (by decide) (by decide) (fun r145 xh9 hp145 => ?_)
          obtain ⟨rfl, ⟨bx145, hM, hv145⟩, hF9⟩ := hp145
          have hb145 := kRB_le l ((kRD l (vn + 1)).2.2)
          replace hT := hF9.at hT (by omega)
          replace hF := hF.tr (hF9.wd (by omega) (by omega))
          refine ks_if_eq hκ 148 155 dX7_readsOrder_148 rfl (fun c148 => ?_) (fun c148 => ?_)
          · skip
            have c148 := kB1_c0 c148
            refine ks_iconst hκ 155 (nI 0) dX7_readsOrder_155 kq_i0 ?_
            refine ks_iret hκ 156 hRt dX7_readsOrder_156 (by decide) (by decide) (by decide) ?_
            first
            | (have hq := (kRO_g hgj).trans (if_pos c141); rw [hq]; exact ⟨_, rfl, rfl, ⟨_, _, _, _, hM, fun q => by cases q⟩, hF⟩)
            | (have hq := (kRO_g hgj).trans ((if_neg c141).trans (if_pos c148)); rw [hq]; exact ⟨_, rfl, rfl, ⟨_, _, _, _, hM, fun q => by cases q⟩, hF⟩)
            | (have hq := (kRO_g hgj).trans ((if_neg c141).trans (if_neg c148)); rw [hq]; exact ⟨_, rfl, rfl, ⟨_, _, _, _, hM, fun _ => ⟨hs44, fun q => absurd q (show ¬ (nI 103 = nI 107 ∨ nI 103 = nI 116) by decide), fun _ => ⟨hv138 (Bool.not_eq_false _ ▸ c141), hv145 (Bool.not_eq_false _ ▸ c148)⟩, fun q => absurd q (show ¬ (nI 103 = nI 110) by decide), fun q => absurd q (show ¬ (nI 103 = nI 120) by decide), fun q => absurd q (show ¬ (nI 103 = nI 112) by decide)⟩⟩, hF⟩)
          · skip
            have c148 := kB1_c1 c148
            refine ks_iconst hκ 151 (nI 1) dX7_readsOrder_151 kq_i1 ?_
            refine ks_goto hκ 152 156 dX7_readsOrder_152 rfl ?_
            refine ks_iret hκ 156 hRt dX7_readsOrder_156 (by decide) (by decide) (by decide) ?_
            first
            | (have hq := (kRO_g hgj).trans (if_pos c141); rw [hq]; exact ⟨_, rfl, rfl, ⟨_, _, _, _, hM, fun q => by cases q⟩, hF⟩)
            | (have hq := (kRO_g hgj).trans ((if_neg c141).trans (if_pos c148)); rw [hq]; exact ⟨_, rfl, rfl, ⟨_, _, _, _, hM, fun q => by cases q⟩, hF⟩)
            | (have hq := (kRO_g hgj).trans ((if_neg c141).trans (if_neg c148)); rw [hq]; exact ⟨_, rfl, rfl, ⟨_, _, _, _, hM, fun _ => ⟨hs44, fun q => absurd q (show ¬ (nI 103 = nI 107 ∨ nI 103 = nI 116) by decide), fun _ => ⟨hv138 (Bool.not_eq_false _ ▸ c141), hv145 (Bool.not_eq_false _ ▸ c148)⟩, fun q => absurd q (show ¬ (nI 103 = nI 110) by decide), fun q => absurd q (show ¬ (nI 103 = nI 120) by decide), fun q => absurd q (show ¬ (nI 103 = nI 112) by decide)⟩⟩, hF⟩)
      · skip
        have hgj : l.getD vn (nI 0) = nI 104 := hgd.trans hs44
        refine ks_top (nI 104) hs44 ?_
        refine ks_tableIn hκ 44 227 dX7_readsOrder_44 (off := 183) (by decide) (by decide) (by decide) rfl ?_
        refine ks_aload_n hκ 227 0 dX7_readsOrder_227 rfl ?_
        refine ks_dup hκ 228 dX7_readsOrder_228 rfl ?_
        refine ks_get hκ 229 dX7_readsOrder_229 kf_X7_211 hM rfl ?_
        refine ks_iconst hκ 232 (nI 1) dX7_readsOrder_232 kq_i1 ?_
        refine ks_isubN hκ 233 dX7_readsOrder_233 (by omega) ?_
        refine ks_putS hκ 234 [_, _, _, _, _, _, _, _, _, _] dX7_readsOrder_234 kf_X7_211 hM rfl rfl (Nat.le_of_ble_eq_true rfl) rfl ?_
        refine ks_gen (fun xh10 exh10 => ?_)
        replace hM := ks_gs exh10 hM
        replace hT := ks_gn exh10 (ks_nb (b := m) (i := 0) (j := 3) rfl) hT
        replace hF := ks_Fr.st hF exh10 (by omega) (by omega)
        clear exh10
        refine ks_iconst hκ 237 (nI 0) dX7_readsOrder_237 kq_i0 ?_
        refine ks_iret hκ 238 hRt dX7_readsOrder_238 (by decide) (by decide) (by decide) ?_
        have hno : kIsLt (l.getD vn (nI 0)) = 0 := by
          first
          | (rw [hgo]; decide)
          | (rw [hgj]; decide)
          | (rw [hgd]; have q8 := nI_toInt (show vk < 2 ^ 31 by omega); rw [q8] at hs44; exact kIsLt_far (by omega) (by omega))
        rw [kRO_no hno]
        rw [Nat.add_sub_cancel] at hM
        exact ⟨_, rfl, rfl, ⟨_, _, _, _, hM, fun q => by cases q⟩, hF⟩
      · skip
        have hgj : l.getD vn (nI 0) = nI 105 := hgd.trans hs44
        refine ks_top (nI 105) hs44 ?_
        refine ks_tableIn hκ 44 227 dX7_readsOrder_44 (off := 183) (by decide) (by decide) (by decide) rfl ?_
        refine ks_aload_n hκ 227 0 dX7_readsOrder_227 rfl ?_
        refine ks_dup hκ 228 dX7_readsOrder_228 rfl ?_
        refine ks_get hκ 229 dX7_readsOrder_229 kf_X7_211 hM rfl ?_
        refine ks_iconst hκ 232 (nI 1) dX7_readsOrder_232 kq_i1 ?_
        refine ks_isubN hκ 233 dX7_readsOrder_233 (by omega) ?_
        refine ks_putS hκ 234 [_, _, _, _, _, _, _, _, _, _] dX7_readsOrder_234 kf_X7_211 hM rfl rfl (Nat.le_of_ble_eq_true rfl) rfl ?_
        refine ks_gen (fun xh11 exh11 => ?_)
        replace hM := ks_gs exh11 hM
        replace hT := ks_gn exh11 (ks_nb (b := m) (i := 0) (j := 3) rfl) hT
        replace hF := ks_Fr.st hF exh11 (by omega) (by omega)
        clear exh11
        refine ks_iconst hκ 237 (nI 0) dX7_readsOrder_237 kq_i0 ?_
        refine ks_iret hκ 238 hRt dX7_readsOrder_238 (by decide) (by decide) (by decide) ?_
        have hno : kIsLt (l.getD vn (nI 0)) = 0 := by
          first
          | (rw [hgo]; decide)
          | (rw [hgj]; decide)
          | (rw [hgd]; have q8 := nI_toInt (show vk < 2 ^ 31 by omega); rw [q8] at hs44; exact kIsLt_far (by omega) (by omega))
        rw [kRO_no hno]
        rw [Nat.add_sub_cancel] at hM
        exact ⟨_, rfl, rfl, ⟨_, _, _, _, hM, fun q => by cases q⟩, hF⟩
      · skip
        have hgj : l.getD vn (nI 0) = nI 106 := hgd.trans hs44
        refine ks_top (nI 106) hs44 ?_
        refine ks_tableIn hκ 44 227 dX7_readsOrder_44 (off := 183) (by decide) (by decide) (by decide) rfl ?_
        refine ks_aload_n hκ 227 0 dX7_readsOrder_227 rfl ?_
        refine ks_dup hκ 228 dX7_readsOrder_228 rfl ?_
        refine ks_get hκ 229 dX7_readsOrder_229 kf_X7_211 hM rfl ?_
        refine ks_iconst hκ 232 (nI 1) dX7_readsOrder_232 kq_i1 ?_
        refine ks_isubN hκ 233 dX7_readsOrder_233 (by omega) ?_
        refine ks_putS hκ 234 [_, _, _, _, _, _, _, _, _, _] dX7_readsOrder_234 kf_X7_211 hM rfl rfl (Nat.le_of_ble_eq_true rfl) rfl ?_
        refine ks_gen (fun xh12 exh12 => ?_)
        replace hM := ks_gs exh12 hM
        replace hT := ks_gn exh12 (ks_nb (b := m) (i := 0) (j := 3) rfl) hT
        replace hF := ks_Fr.st hF exh12 (by omega) (by omega)
        clear exh12
        refine ks_iconst hκ 237 (nI 0) dX7_readsOrder_237 kq_i0 ?_
        refine ks_iret hκ 238 hRt dX7_readsOrder_238 (by decide) (by decide) (by decide) ?_
        have hno : kIsLt (l.getD vn (nI 0)) = 0 := by
          first
          | (rw [hgo]; decide)
          | (rw [hgj]; decide)
          | (rw [hgd]; have q8 := nI_toInt (show vk < 2 ^ 31 by omega); rw [q8] at hs44; exact kIsLt_far (by omega) (by omega))
        rw [kRO_no hno]
        rw [Nat.add_sub_cancel] at hM
        exact ⟨_, rfl, rfl, ⟨_, _, _, _, hM, fun q => by cases q⟩, hF⟩
      · skip
        have hgj : l.getD vn (nI 0) = nI 107 := hgd.trans hs44
        refine ks_top (nI 107) hs44 ?_
        refine ks_tableIn hκ 44 132 dX7_readsOrder_44 (off := 88) (by decide) (by decide) (by decide) rfl ?_
        refine ks_aload_n hκ 132 0 dX7_readsOrder_132 rfl ?_
        refine ks_intcV0 hκ 133 dX7_readsOrder_133 kc_X7_239 (c_Model_readsNumber hM hT hTO hll hch (by omega)) hM rfl (by decide) (Nat.le_of_ble_eq_true rfl) (by decide) (by decide) (fun r133 xh13 hp133 => ?_)
        obtain ⟨rfl, ⟨on133, hM, hv133⟩, hF9⟩ := hp133
        have hb133 := kRN_le l (vn + 1)
        replace hT := hF9.at hT (by omega)
        replace hF := hF.tr (hF9.wd (by omega) (by omega))
        refine ks_iret hκ 136 hRt dX7_readsOrder_136 (by decide) (by decide) (by cases (kRN l (vn + 1)).1 <;> decide) ?_
        by_cases cz : (kRN l (vn + 1)).1 = false
        · have hq := (kRO_kt hgj (by decide)).trans (if_pos cz)
          rw [hq]
          refine ⟨_, rfl, by rw [cz], ⟨_, _, _, _, hM, fun q => by cases q⟩, hF⟩
        · have hq := (kRO_kt hgj (by decide)).trans (if_neg cz)
          have cz1 : (kRN l (vn + 1)).1 = true := Bool.not_eq_false _ ▸ cz
          rw [hq]
          exact ⟨_, rfl, by rw [cz1], ⟨_, _, _, _, hM, fun _ => ⟨hs44, fun _ => hv133 cz1, fun q => absurd q (show ¬ (nI 107 = nI 103) by decide), fun q => absurd q (show ¬ (nI 107 = nI 110) by decide), fun q => absurd q (show ¬ (nI 107 = nI 120) by decide), fun q => absurd q (show ¬ (nI 107 = nI 112) by decide)⟩⟩, hF⟩
      · skip
        have hgj : l.getD vn (nI 0) = nI 108 := hgd.trans hs44
        refine ks_top (nI 108) hs44 ?_
        refine ks_tableIn hκ 44 227 dX7_readsOrder_44 (off := 183) (by decide) (by decide) (by decide) rfl ?_
        refine ks_aload_n hκ 227 0 dX7_readsOrder_227 rfl ?_
        refine ks_dup hκ 228 dX7_readsOrder_228 rfl ?_
        refine ks_get hκ 229 dX7_readsOrder_229 kf_X7_211 hM rfl ?_
        refine ks_iconst hκ 232 (nI 1) dX7_readsOrder_232 kq_i1 ?_
        refine ks_isubN hκ 233 dX7_readsOrder_233 (by omega) ?_
        refine ks_putS hκ 234 [_, _, _, _, _, _, _, _, _, _] dX7_readsOrder_234 kf_X7_211 hM rfl rfl (Nat.le_of_ble_eq_true rfl) rfl ?_
        refine ks_gen (fun xh14 exh14 => ?_)
        replace hM := ks_gs exh14 hM
        replace hT := ks_gn exh14 (ks_nb (b := m) (i := 0) (j := 3) rfl) hT
        replace hF := ks_Fr.st hF exh14 (by omega) (by omega)
        clear exh14
        refine ks_iconst hκ 237 (nI 0) dX7_readsOrder_237 kq_i0 ?_
        refine ks_iret hκ 238 hRt dX7_readsOrder_238 (by decide) (by decide) (by decide) ?_
        have hno : kIsLt (l.getD vn (nI 0)) = 0 := by
          first
          | (rw [hgo]; decide)
          | (rw [hgj]; decide)
          | (rw [hgd]; have q8 := nI_toInt (show vk < 2 ^ 31 by omega); rw [q8] at hs44; exact kIsLt_far (by omega) (by omega))
        rw [kRO_no hno]
        rw [Nat.add_sub_cancel] at hM
        exact ⟨_, rfl, rfl, ⟨_, _, _, _, hM, fun q => by cases q⟩, hF⟩
      · skip
        have hgj : l.getD vn (nI 0) = nI 109 := hgd.trans hs44
        refine ks_top (nI 109) hs44 ?_
        refine ks_tableIn hκ 44 227 dX7_readsOrder_44 (off := 183) (by decide) (by decide) (by decide) rfl ?_
        refine ks_aload_n hκ 227 0 dX7_readsOrder_227 rfl ?_
        refine ks_dup hκ 228 dX7_readsOrder_228 rfl ?_
        refine ks_get hκ 229 dX7_readsOrder_229 kf_X7_211 hM rfl ?_
        refine ks_iconst hκ 232 (nI 1) dX7_readsOrder_232 kq_i1 ?_
        refine ks_isubN hκ 233 dX7_readsOrder_233 (by omega) ?_
        refine ks_putS hκ 234 [_, _, _, _, _, _, _, _, _, _] dX7_readsOrder_234 kf_X7_211 hM rfl rfl (Nat.le_of_ble_eq_true rfl) rfl ?_
        refine ks_gen (fun xh15 exh15 => ?_)
        replace hM := ks_gs exh15 hM
        replace hT := ks_gn exh15 (ks_nb (b := m) (i := 0) (j := 3) rfl) hT
        replace hF := ks_Fr.st hF exh15 (by omega) (by omega)
        clear exh15
        refine ks_iconst hκ 237 (nI 0) dX7_readsOrder_237 kq_i0 ?_
        refine ks_iret hκ 238 hRt dX7_readsOrder_238 (by decide) (by decide) (by decide) ?_
        have hno : kIsLt (l.getD vn (nI 0)) = 0 := by
          first
          | (rw [hgo]; decide)
          | (rw [hgj]; decide)
          | (rw [hgd]; have q8 := nI_toInt (show vk < 2 ^ 31 by omega); rw [q8] at hs44; exact kIsLt_far (by omega) (by omega))
        rw [kRO_no hno]
        rw [Nat.add_sub_cancel] at hM
        exact ⟨_, rfl, rfl, ⟨_, _, _, _, hM, fun q => by cases q⟩, hF⟩
      · skip
        have hgj : l.getD vn (nI 0) = nI 110 := hgd.trans hs44
        refine ks_top (nI 110) hs44 ?_
        refine ks_tableIn hκ 44 157 dX7_readsOrder_44 (off := 113) (by decide) (by decide) (by decide) rfl ?_
        refine ks_aload_n hκ 157 0 dX7_readsOrder_157 rfl ?_
        refine ks_intcV0 hκ 158 dX7_readsOrder_158 kc_X7_243 (c_Model_readsKitten hM hT hTO hll hch (by omega)) hM rfl (by decide) (Nat.le_of_ble_eq_true rfl) (by decide) (by decide) (fun r158 xh16 hp158 => ?_)
        obtain ⟨rfl, ⟨tw158, hM, hv158⟩, hF9⟩ := hp158
        have hb158 := kRD_le l (vn + 1)
        replace hT := hF9.at hT (by omega)
        replace hF := hF.tr (hF9.wd (by omega) (by omega))
        refine ks_iret hκ 161 hRt dX7_readsOrder_161 (by decide) (by decide) (by cases (kRD l (vn + 1)).1 <;> decide) ?_
        by_cases cz : (kRD l (vn + 1)).1 = false
        · have hq := (kRO_n hgj).trans (if_pos cz)
          rw [hq]
          refine ⟨_, rfl, by rw [cz], ⟨_, _, _, _, hM, fun q => by cases q⟩, hF⟩
        · have hq := (kRO_n hgj).trans (if_neg cz)
          have cz1 : (kRD l (vn + 1)).1 = true := Bool.not_eq_false _ ▸ cz
          rw [hq]
          exact ⟨_, rfl, by rw [cz1], ⟨_, _, _, _, hM, fun _ => ⟨hs44, fun q => absurd q (show ¬ (nI 110 = nI 107 ∨ nI 110 = nI 116) by decide), fun q => absurd q (show ¬ (nI 110 = nI 103) by decide), fun _ => hv158 cz1, fun q => absurd q (show ¬ (nI 110 = nI 120) by decide), fun q => absurd q (show ¬ (nI 110 = nI 112) by decide)⟩⟩, hF⟩
      · skip
        have hgj : l.getD vn (nI 0) = nI 111 := hgd.trans hs44
        refine ks_top (nI 111) hs44 ?_
        refine ks_tableIn hκ 44 227 dX7_readsOrder_44 (off := 183) (by decide) (by decide) (by decide) rfl ?_
        refine ks_aload_n hκ 227 0 dX7_readsOrder_227 rfl ?_
        refine ks_dup hκ 228 dX7_readsOrder_228 rfl ?_
        refine ks_get hκ 229 dX7_readsOrder_229 kf_X7_211 hM rfl ?_
        refine ks_iconst hκ 232 (nI 1) dX7_readsOrder_232 kq_i1 ?_
        refine ks_isubN hκ 233 dX7_readsOrder_233 (by omega) ?_
        refine ks_putS hκ 234 [_, _, _, _, _, _, _, _, _, _] dX7_readsOrder_234 kf_X7_211 hM rfl rfl (Nat.le_of_ble_eq_true rfl) rfl ?_
        refine ks_gen (fun xh17 exh17 => ?_)
        replace hM := ks_gs exh17 hM
        replace hT := ks_gn exh17 (ks_nb (b := m) (i := 0) (j := 3) rfl) hT
        replace hF := ks_Fr.st hF exh17 (by omega) (by omega)
        clear exh17
        refine ks_iconst hκ 237 (nI 0) dX7_readsOrder_237 kq_i0 ?_
        refine ks_iret hκ 238 hRt dX7_readsOrder_238 (by decide) (by decide) (by decide) ?_
        have hno : kIsLt (l.getD vn (nI 0)) = 0 := by
          first
          | (rw [hgo]; decide)
          | (rw [hgj]; decide)
          | (rw [hgd]; have q8 := nI_toInt (show vk < 2 ^ 31 by omega); rw [q8] at hs44; exact kIsLt_far (by omega) (by omega))
        rw [kRO_no hno]
        rw [Nat.add_sub_cancel] at hM
        exact ⟨_, rfl, rfl, ⟨_, _, _, _, hM, fun q => by cases q⟩, hF⟩
      · skip
        have hgj : l.getD vn (nI 0) = nI 112 := hgd.trans hs44
        refine ks_top (nI 112) hs44 ?_
        refine ks_tableIn hκ 44 191 dX7_readsOrder_44 (off := 147) (by decide) (by decide) (by decide) rfl ?_
        refine ks_aload_n hκ 191 0 dX7_readsOrder_191 rfl ?_
        refine ks_intcV0 hκ 192 dX7_readsOrder_192 kc_X7_239 (c_Model_readsNumber hM hT hTO hll hch (by omega)) hM rfl (by decide) (Nat.le_of_ble_eq_true rfl) (by decide) (by decide) (fun r192 xh18 hp192 => ?_)
        obtain ⟨rfl, ⟨on192, hM, hv192⟩, hF9⟩ := hp192
        have hb192 := kRN_le l (vn + 1)
        replace hT := hF9.at hT (by omega)
        replace hF := hF.tr (hF9.wd (by omega) (by omega))
        refine ks_if_eq hκ 195 225 dX7_readsOrder_195 rfl (fun c195 => ?_) (fun c195 => ?_)
        · skip
          have c195 := kB1_c0 c195
          refine ks_iconst hκ 225 (nI 0) dX7_readsOrder_225 kq_i0 ?_
          refine ks_iret hκ 226 hRt dX7_readsOrder_226 (by decide) (by decide) (by decide) ?_
          first
          | (have hq := (kRO_p hgj).trans (if_pos c195); rw [hq]; exact ⟨_, rfl, rfl, ⟨_, _, _, _, hM, fun q => by cases q⟩, hF⟩)
          | (have hq := (kRO_p hgj).trans ((if_neg c195).trans (if_pos c204)); rw [hq]; exact ⟨_, rfl, rfl, ⟨_, _, _, _, hM, fun q => by cases q⟩, hF⟩)
          | (have hq := (kRO_p hgj).trans ((if_neg c195).trans ((if_neg c204).trans (if_pos c211))); rw [hq]; exact ⟨_, rfl, rfl, ⟨_, _, _, _, hM, fun q => by cases q⟩, hF⟩)
          | (have hq := (kRO_p hgj).trans ((if_neg c195).trans ((if_neg c204).trans ((if_neg c211).trans (if_pos c218)))); rw [hq]; exact ⟨_, rfl, rfl, ⟨_, _, _, _, hM, fun q => by cases q⟩, hF⟩)
          | (have hq := (kRO_p hgj).trans ((if_neg c195).trans ((if_neg c204).trans ((if_neg c211).trans (if_neg c218)))); rw [hq]; exact ⟨_, rfl, rfl, ⟨_, _, _, _, hM, fun _ => ⟨hs44, fun q => absurd q (show ¬ (nI 112 = nI 107 ∨ nI 112 = nI 116) by decide), fun q => absurd q (show ¬ (nI 112 = nI 103) by decide), fun q => absurd q (show ¬ (nI 112 = nI 110) by decide), fun q => absurd q (show ¬ (nI 112 = nI 120) by decide), fun _ => ⟨hv192 (Bool.not_eq_false _ ▸ c195), hv208 (Bool.not_eq_false _ ▸ c211), hv215 (Bool.not_eq_false _ ▸ c218)⟩⟩⟩, hF⟩)
        · skip
          have c195 := kB1_c1 c195
          refine ks_aload_n hκ 198 0 dX7_readsOrder_198 rfl ?_
          refine ks_bipush hκ 199 (nI 58) dX7_readsOrder_199 kq_b58 ?_
          refine ks_intcV1 hκ 201 dX7_readsOrder_201 kc_X7_220 (c_Model_takes hM hT hTO hll hch (by omega) (show ¬ nI 58 = nI 0 by decide)) hM rfl (by decide) (Nat.le_of_ble_eq_true rfl) (by decide) (by decide) (fun r201 xh19 hp201 => ?_)
          obtain ⟨rfl, hM, hF9⟩ := hp201
          have hb201 := kSg_le l ((kRN l (vn + 1)).2.2) (nI 58)
          replace hT := hF9.at hT (by omega)
          replace hF := hF.tr (hF9.wd (by omega) (by omega))
          refine ks_if_eq hκ 204 225 dX7_readsOrder_204 rfl (fun c204 => ?_) (fun c204 => ?_)
          · skip
            have c204 := kB1_c0 c204
            refine ks_iconst hκ 225 (nI 0) dX7_readsOrder_225 kq_i0 ?_
            refine ks_iret hκ 226 hRt dX7_readsOrder_226 (by decide) (by decide) (by decide) ?_
            first
            | (have hq := (kRO_p hgj).trans (if_pos c195); rw [hq]; exact ⟨_, rfl, rfl, ⟨_, _, _, _, hM, fun q => by cases q⟩, hF⟩)
            | (have hq := (kRO_p hgj).trans ((if_neg c195).trans (if_pos c204)); rw [hq]; exact ⟨_, rfl, rfl, ⟨_, _, _, _, hM, fun q => by cases q⟩, hF⟩)
            | (have hq := (kRO_p hgj).trans ((if_neg c195).trans ((if_neg c204).trans (if_pos c211))); rw [hq]; exact ⟨_, rfl, rfl, ⟨_, _, _, _, hM, fun q => by cases q⟩, hF⟩)
            | (have hq := (kRO_p hgj).trans ((if_neg c195).trans ((if_neg c204).trans ((if_neg c211).trans (if_pos c218)))); rw [hq]; exact ⟨_, rfl, rfl, ⟨_, _, _, _, hM, fun q => by cases q⟩, hF⟩)
            | (have hq := (kRO_p hgj).trans ((if_neg c195).trans ((if_neg c204).trans ((if_neg c211).trans (if_neg c218)))); rw [hq]; exact ⟨_, rfl, rfl, ⟨_, _, _, _, hM, fun _ => ⟨hs44, fun q => absurd q (show ¬ (nI 112 = nI 107 ∨ nI 112 = nI 116) by decide), fun q => absurd q (show ¬ (nI 112 = nI 103) by decide), fun q => absurd q (show ¬ (nI 112 = nI 110) by decide), fun q => absurd q (show ¬ (nI 112 = nI 120) by decide), fun _ => ⟨hv192 (Bool.not_eq_false _ ▸ c195), hv208 (Bool.not_eq_false _ ▸ c211), hv215 (Bool.not_eq_false _ ▸ c218)⟩⟩⟩, hF⟩)
          · skip
            have c204 := kB1_c1 c204
            refine ks_aload_n hκ 207 0 dX7_readsOrder_207 rfl ?_
            refine ks_intcV0 hκ 208 dX7_readsOrder_208 kc_X7_243 (c_Model_readsKitten hM hT hTO hll hch (by omega)) hM rfl (by decide) (Nat.le_of_ble_eq_true rfl) (by decide) (by decide) (fun r208 xh20 hp208 => ?_)
            obtain ⟨rfl, ⟨tw208, hM, hv208⟩, hF9⟩ := hp208
            have hb208 := kRD_le l ((kSg l ((kRN l (vn + 1)).2.2) (nI 58)).2)
            replace hT := hF9.at hT (by omega)
            replace hF := hF.tr (hF9.wd (by omega) (by omega))
            refine ks_if_eq hκ 211 225 dX7_readsOrder_211 rfl (fun c211 => ?_) (fun c211 => ?_)
            · skip
              have c211 := kB1_c0 c211
              refine ks_iconst hκ 225 (nI 0) dX7_readsOrder_225 kq_i0 ?_
              refine ks_iret hκ 226 hRt dX7_readsOrder_226 (by decide) (by decide) (by decide) ?_
              first
              | (have hq := (kRO_p hgj).trans (if_pos c195); rw [hq]; exact ⟨_, rfl, rfl, ⟨_, _, _, _, hM, fun q => by cases q⟩, hF⟩)
              | (have hq := (kRO_p hgj).trans ((if_neg c195).trans (if_pos c204)); rw [hq]; exact ⟨_, rfl, rfl, ⟨_, _, _, _, hM, fun q => by cases q⟩, hF⟩)
              | (have hq := (kRO_p hgj).trans ((if_neg c195).trans ((if_neg c204).trans (if_pos c211))); rw [hq]; exact ⟨_, rfl, rfl, ⟨_, _, _, _, hM, fun q => by cases q⟩, hF⟩)
              | (have hq := (kRO_p hgj).trans ((if_neg c195).trans ((if_neg c204).trans ((if_neg c211).trans (if_pos c218)))); rw [hq]; exact ⟨_, rfl, rfl, ⟨_, _, _, _, hM, fun q => by cases q⟩, hF⟩)
              | (have hq := (kRO_p hgj).trans ((if_neg c195).trans ((if_neg c204).trans ((if_neg c211).trans (if_neg c218)))); rw [hq]; exact ⟨_, rfl, rfl, ⟨_, _, _, _, hM, fun _ => ⟨hs44, fun q => absurd q (show ¬ (nI 112 = nI 107 ∨ nI 112 = nI 116) by decide), fun q => absurd q (show ¬ (nI 112 = nI 103) by decide), fun q => absurd q (show ¬ (nI 112 = nI 110) by decide), fun q => absurd q (show ¬ (nI 112 = nI 120) by decide), fun _ => ⟨hv192 (Bool.not_eq_false _ ▸ c195), hv208 (Bool.not_eq_false _ ▸ c211), hv215 (Bool.not_eq_false _ ▸ c218)⟩⟩⟩, hF⟩)
            · skip
              have c211 := kB1_c1 c211
              refine ks_aload_n hκ 214 0 dX7_readsOrder_214 rfl ?_
              refine ks_intcV0 hκ 215 dX7_readsOrder_215 kc_X7_246 (c_Model_readsBy hM hT hTO hll hch (by omega)) hM rfl (by decide) (Nat.le_of_ble_eq_true rfl) (by decide) (by decide) (fun r215 xh21 hp215 => ?_)
              obtain ⟨rfl, ⟨bx215, hM, hv215⟩, hF9⟩ := hp215
              have hb215 := kRB_le l ((kRD l ((kSg l ((kRN l (vn + 1)).2.2) (nI 58)).2)).2.2)
              replace hT := hF9.at hT (by omega)
              replace hF := hF.tr (hF9.wd (by omega) (by omega))
              refine ks_if_eq hκ 218 225 dX7_readsOrder_218 rfl (fun c218 => ?_) (fun c218 => ?_)
              · skip
                have c218 := kB1_c0 c218
                refine ks_iconst hκ 225 (nI 0) dX7_readsOrder_225 kq_i0 ?_
                refine ks_iret hκ 226 hRt dX7_readsOrder_226 (by decide) (by decide) (by decide) ?_
                first
                | (have hq := (kRO_p hgj).trans (if_pos c195); rw [hq]; exact ⟨_, rfl, rfl, ⟨_, _, _, _, hM, fun q => by cases q⟩, hF⟩)
                | (have hq := (kRO_p hgj).trans ((if_neg c195).trans (if_pos c204)); rw [hq]; exact ⟨_, rfl, rfl, ⟨_, _, _, _, hM, fun q => by cases q⟩, hF⟩)
                | (have hq := (kRO_p hgj).trans ((if_neg c195).trans ((if_neg c204).trans (if_pos c211))); rw [hq]; exact ⟨_, rfl, rfl, ⟨_, _, _, _, hM, fun q => by cases q⟩, hF⟩)
                | (have hq := (kRO_p hgj).trans ((if_neg c195).trans ((if_neg c204).trans ((if_neg c211).trans (if_pos c218)))); rw [hq]; exact ⟨_, rfl, rfl, ⟨_, _, _, _, hM, fun q => by cases q⟩, hF⟩)
                | (have hq := (kRO_p hgj).trans ((if_neg c195).trans ((if_neg c204).trans ((if_neg c211).trans (if_neg c218)))); rw [hq]; exact ⟨_, rfl, rfl, ⟨_, _, _, _, hM, fun _ => ⟨hs44, fun q => absurd q (show ¬ (nI 112 = nI 107 ∨ nI 112 = nI 116) by decide), fun q => absurd q (show ¬ (nI 112 = nI 103) by decide), fun q => absurd q (show ¬ (nI 112 = nI 110) by decide), fun q => absurd q (show ¬ (nI 112 = nI 120) by decide), fun _ => ⟨hv192 (Bool.not_eq_false _ ▸ c195), hv208 (Bool.not_eq_false _ ▸ c211), hv215 (Bool.not_eq_false _ ▸ c218)⟩⟩⟩, hF⟩)
              · skip
                have c218 := kB1_c1 c218
                refine ks_iconst hκ 221 (nI 1) dX7_readsOrder_221 kq_i1 ?_
                refine ks_goto hκ 222 226 dX7_readsOrder_222 rfl ?_
                refine ks_iret hκ 226 hRt dX7_readsOrder_226 (by decide) (by decide) (by decide) ?_
                first
                | (have hq := (kRO_p hgj).trans (if_pos c195); rw [hq]; exact ⟨_, rfl, rfl, ⟨_, _, _, _, hM, fun q => by cases q⟩, hF⟩)
                | (have hq := (kRO_p hgj).trans ((if_neg c195).trans (if_pos c204)); rw [hq]; exact ⟨_, rfl, rfl, ⟨_, _, _, _, hM, fun q => by cases q⟩, hF⟩)
                | (have hq := (kRO_p hgj).trans ((if_neg c195).trans ((if_neg c204).trans (if_pos c211))); rw [hq]; exact ⟨_, rfl, rfl, ⟨_, _, _, _, hM, fun q => by cases q⟩, hF⟩)
                | (have hq := (kRO_p hgj).trans ((if_neg c195).trans ((if_neg c204).trans ((if_neg c211).trans (if_pos c218)))); rw [hq]; exact ⟨_, rfl, rfl, ⟨_, _, _, _, hM, fun q => by cases q⟩, hF⟩)
                | (have hq := (kRO_p hgj).trans ((if_neg c195).trans ((if_neg c204).trans ((if_neg c211).trans (if_neg c218)))); rw [hq]; exact ⟨_, rfl, rfl, ⟨_, _, _, _, hM, fun _ => ⟨hs44, fun q => absurd q (show ¬ (nI 112 = nI 107 ∨ nI 112 = nI 116) by decide), fun q => absurd q (show ¬ (nI 112 = nI 103) by decide), fun q => absurd q (show ¬ (nI 112 = nI 110) by decide), fun q => absurd q (show ¬ (nI 112 = nI 120) by decide), fun _ => ⟨hv192 (Bool.not_eq_false _ ▸ c195), hv208 (Bool.not_eq_false _ ▸ c211), hv215 (Bool.not_eq_false _ ▸ c218)⟩⟩⟩, hF⟩)
      · skip
        have hgj : l.getD vn (nI 0) = nI 113 := hgd.trans hs44
        refine ks_top (nI 113) hs44 ?_
        refine ks_tableIn hκ 44 227 dX7_readsOrder_44 (off := 183) (by decide) (by decide) (by decide) rfl ?_
        refine ks_aload_n hκ 227 0 dX7_readsOrder_227 rfl ?_
        refine ks_dup hκ 228 dX7_readsOrder_228 rfl ?_
        refine ks_get hκ 229 dX7_readsOrder_229 kf_X7_211 hM rfl ?_
        refine ks_iconst hκ 232 (nI 1) dX7_readsOrder_232 kq_i1 ?_
        refine ks_isubN hκ 233 dX7_readsOrder_233 (by omega) ?_
        refine ks_putS hκ 234 [_, _, _, _, _, _, _, _, _, _] dX7_readsOrder_234 kf_X7_211 hM rfl rfl (Nat.le_of_ble_eq_true rfl) rfl ?_
        refine ks_gen (fun xh22 exh22 => ?_)
        replace hM := ks_gs exh22 hM
        replace hT := ks_gn exh22 (ks_nb (b := m) (i := 0) (j := 3) rfl) hT
        replace hF := ks_Fr.st hF exh22 (by omega) (by omega)
        clear exh22
        refine ks_iconst hκ 237 (nI 0) dX7_readsOrder_237 kq_i0 ?_
        refine ks_iret hκ 238 hRt dX7_readsOrder_238 (by decide) (by decide) (by decide) ?_
        have hno : kIsLt (l.getD vn (nI 0)) = 0 := by
          first
          | (rw [hgo]; decide)
          | (rw [hgj]; decide)
          | (rw [hgd]; have q8 := nI_toInt (show vk < 2 ^ 31 by omega); rw [q8] at hs44; exact kIsLt_far (by omega) (by omega))
        rw [kRO_no hno]
        rw [Nat.add_sub_cancel] at hM
        exact ⟨_, rfl, rfl, ⟨_, _, _, _, hM, fun q => by cases q⟩, hF⟩
      · skip
        have hgj : l.getD vn (nI 0) = nI 114 := hgd.trans hs44
        refine ks_top (nI 114) hs44 ?_
        refine ks_tableIn hκ 44 227 dX7_readsOrder_44 (off := 183) (by decide) (by decide) (by decide) rfl ?_
        refine ks_aload_n hκ 227 0 dX7_readsOrder_227 rfl ?_
        refine ks_dup hκ 228 dX7_readsOrder_228 rfl ?_
        refine ks_get hκ 229 dX7_readsOrder_229 kf_X7_211 hM rfl ?_
        refine ks_iconst hκ 232 (nI 1) dX7_readsOrder_232 kq_i1 ?_
        refine ks_isubN hκ 233 dX7_readsOrder_233 (by omega) ?_
        refine ks_putS hκ 234 [_, _, _, _, _, _, _, _, _, _] dX7_readsOrder_234 kf_X7_211 hM rfl rfl (Nat.le_of_ble_eq_true rfl) rfl ?_
        refine ks_gen (fun xh23 exh23 => ?_)
        replace hM := ks_gs exh23 hM
        replace hT := ks_gn exh23 (ks_nb (b := m) (i := 0) (j := 3) rfl) hT
        replace hF := ks_Fr.st hF exh23 (by omega) (by omega)
        clear exh23
        refine ks_iconst hκ 237 (nI 0) dX7_readsOrder_237 kq_i0 ?_
        refine ks_iret hκ 238 hRt dX7_readsOrder_238 (by decide) (by decide) (by decide) ?_
        have hno : kIsLt (l.getD vn (nI 0)) = 0 := by
          first
          | (rw [hgo]; decide)
          | (rw [hgj]; decide)
          | (rw [hgd]; have q8 := nI_toInt (show vk < 2 ^ 31 by omega); rw [q8] at hs44; exact kIsLt_far (by omega) (by omega))
        rw [kRO_no hno]
        rw [Nat.add_sub_cancel] at hM
        exact ⟨_, rfl, rfl, ⟨_, _, _, _, hM, fun q => by cases q⟩, hF⟩
      · skip
        have hgj : l.getD vn (nI 0) = nI 115 := hgd.trans hs44
        refine ks_top (nI 115) hs44 ?_
        refine ks_tableIn hκ 44 227 dX7_readsOrder_44 (off := 183) (by decide) (by decide) (by decide) rfl ?_
        refine ks_aload_n hκ 227 0 dX7_readsOrder_227 rfl ?_
        refine ks_dup hκ 228 dX7_readsOrder_228 rfl ?_
        refine ks_get hκ 229 dX7_readsOrder_229 kf_X7_211 hM rfl ?_
        refine ks_iconst hκ 232 (nI 1) dX7_readsOrder_232 kq_i1 ?_
        refine ks_isubN hκ 233 dX7_readsOrder_233 (by omega) ?_
        refine ks_putS hκ 234 [_, _, _, _, _, _, _, _, _, _] dX7_readsOrder_234 kf_X7_211 hM rfl rfl (Nat.le_of_ble_eq_true rfl) rfl ?_
        refine ks_gen (fun xh24 exh24 => ?_)
        replace hM := ks_gs exh24 hM
        replace hT := ks_gn exh24 (ks_nb (b := m) (i := 0) (j := 3) rfl) hT
        replace hF := ks_Fr.st hF exh24 (by omega) (by omega)
        clear exh24
        refine ks_iconst hκ 237 (nI 0) dX7_readsOrder_237 kq_i0 ?_
        refine ks_iret hκ 238 hRt dX7_readsOrder_238 (by decide) (by decide) (by decide) ?_
        have hno : kIsLt (l.getD vn (nI 0)) = 0 := by
          first
          | (rw [hgo]; decide)
          | (rw [hgj]; decide)
          | (rw [hgd]; have q8 := nI_toInt (show vk < 2 ^ 31 by omega); rw [q8] at hs44; exact kIsLt_far (by omega) (by omega))
        rw [kRO_no hno]
        rw [Nat.add_sub_cancel] at hM
        exact ⟨_, rfl, rfl, ⟨_, _, _, _, hM, fun q => by cases q⟩, hF⟩
      · skip
        have hgj : l.getD vn (nI 0) = nI 116 := hgd.trans hs44
        refine ks_top (nI 116) hs44 ?_
        refine ks_tableIn hκ 44 132 dX7_readsOrder_44 (off := 88) (by decide) (by decide) (by decide) rfl ?_
        refine ks_aload_n hκ 132 0 dX7_readsOrder_132 rfl ?_
        refine ks_intcV0 hκ 133 dX7_readsOrder_133 kc_X7_239 (c_Model_readsNumber hM hT hTO hll hch (by omega)) hM rfl (by decide) (Nat.le_of_ble_eq_true rfl) (by decide) (by decide) (fun r133 xh25 hp133 => ?_)
        obtain ⟨rfl, ⟨on133, hM, hv133⟩, hF9⟩ := hp133
        have hb133 := kRN_le l (vn + 1)
        replace hT := hF9.at hT (by omega)
        replace hF := hF.tr (hF9.wd (by omega) (by omega))
        refine ks_iret hκ 136 hRt dX7_readsOrder_136 (by decide) (by decide) (by cases (kRN l (vn + 1)).1 <;> decide) ?_
        by_cases cz : (kRN l (vn + 1)).1 = false
        · have hq := (kRO_kt hgj (by decide)).trans (if_pos cz)
          rw [hq]
          refine ⟨_, rfl, by rw [cz], ⟨_, _, _, _, hM, fun q => by cases q⟩, hF⟩
        · have hq := (kRO_kt hgj (by decide)).trans (if_neg cz)
          have cz1 : (kRN l (vn + 1)).1 = true := Bool.not_eq_false _ ▸ cz
          rw [hq]
          exact ⟨_, rfl, by rw [cz1], ⟨_, _, _, _, hM, fun _ => ⟨hs44, fun _ => hv133 cz1, fun q => absurd q (show ¬ (nI 116 = nI 103) by decide), fun q => absurd q (show ¬ (nI 116 = nI 110) by decide), fun q => absurd q (show ¬ (nI 116 = nI 120) by decide), fun q => absurd q (show ¬ (nI 116 = nI 112) by decide)⟩⟩, hF⟩
      · skip
        have hgj : l.getD vn (nI 0) = nI 117 := hgd.trans hs44
        refine ks_top (nI 117) hs44 ?_
        refine ks_tableIn hκ 44 227 dX7_readsOrder_44 (off := 183) (by decide) (by decide) (by decide) rfl ?_
        refine ks_aload_n hκ 227 0 dX7_readsOrder_227 rfl ?_
        refine ks_dup hκ 228 dX7_readsOrder_228 rfl ?_
        refine ks_get hκ 229 dX7_readsOrder_229 kf_X7_211 hM rfl ?_
        refine ks_iconst hκ 232 (nI 1) dX7_readsOrder_232 kq_i1 ?_
        refine ks_isubN hκ 233 dX7_readsOrder_233 (by omega) ?_
        refine ks_putS hκ 234 [_, _, _, _, _, _, _, _, _, _] dX7_readsOrder_234 kf_X7_211 hM rfl rfl (Nat.le_of_ble_eq_true rfl) rfl ?_
        refine ks_gen (fun xh26 exh26 => ?_)
        replace hM := ks_gs exh26 hM
        replace hT := ks_gn exh26 (ks_nb (b := m) (i := 0) (j := 3) rfl) hT
        replace hF := ks_Fr.st hF exh26 (by omega) (by omega)
        clear exh26
        refine ks_iconst hκ 237 (nI 0) dX7_readsOrder_237 kq_i0 ?_
        refine ks_iret hκ 238 hRt dX7_readsOrder_238 (by decide) (by decide) (by decide) ?_
        have hno : kIsLt (l.getD vn (nI 0)) = 0 := by
          first
          | (rw [hgo]; decide)
          | (rw [hgj]; decide)
          | (rw [hgd]; have q8 := nI_toInt (show vk < 2 ^ 31 by omega); rw [q8] at hs44; exact kIsLt_far (by omega) (by omega))
        rw [kRO_no hno]
        rw [Nat.add_sub_cancel] at hM
        exact ⟨_, rfl, rfl, ⟨_, _, _, _, hM, fun q => by cases q⟩, hF⟩
      · skip
        have hgj : l.getD vn (nI 0) = nI 118 := hgd.trans hs44
        refine ks_top (nI 118) hs44 ?_
        refine ks_tableIn hκ 44 227 dX7_readsOrder_44 (off := 183) (by decide) (by decide) (by decide) rfl ?_
        refine ks_aload_n hκ 227 0 dX7_readsOrder_227 rfl ?_
        refine ks_dup hκ 228 dX7_readsOrder_228 rfl ?_
        refine ks_get hκ 229 dX7_readsOrder_229 kf_X7_211 hM rfl ?_
        refine ks_iconst hκ 232 (nI 1) dX7_readsOrder_232 kq_i1 ?_
        refine ks_isubN hκ 233 dX7_readsOrder_233 (by omega) ?_
        refine ks_putS hκ 234 [_, _, _, _, _, _, _, _, _, _] dX7_readsOrder_234 kf_X7_211 hM rfl rfl (Nat.le_of_ble_eq_true rfl) rfl ?_
        refine ks_gen (fun xh27 exh27 => ?_)
        replace hM := ks_gs exh27 hM
        replace hT := ks_gn exh27 (ks_nb (b := m) (i := 0) (j := 3) rfl) hT
        replace hF := ks_Fr.st hF exh27 (by omega) (by omega)
        clear exh27
        refine ks_iconst hκ 237 (nI 0) dX7_readsOrder_237 kq_i0 ?_
        refine ks_iret hκ 238 hRt dX7_readsOrder_238 (by decide) (by decide) (by decide) ?_
        have hno : kIsLt (l.getD vn (nI 0)) = 0 := by
          first
          | (rw [hgo]; decide)
          | (rw [hgj]; decide)
          | (rw [hgd]; have q8 := nI_toInt (show vk < 2 ^ 31 by omega); rw [q8] at hs44; exact kIsLt_far (by omega) (by omega))
        rw [kRO_no hno]
        rw [Nat.add_sub_cancel] at hM
        exact ⟨_, rfl, rfl, ⟨_, _, _, _, hM, fun q => by cases q⟩, hF⟩
      · skip
        have hgj : l.getD vn (nI 0) = nI 119 := hgd.trans hs44
        refine ks_top (nI 119) hs44 ?_
        refine ks_tableIn hκ 44 227 dX7_readsOrder_44 (off := 183) (by decide) (by decide) (by decide) rfl ?_
        refine ks_aload_n hκ 227 0 dX7_readsOrder_227 rfl ?_
        refine ks_dup hκ 228 dX7_readsOrder_228 rfl ?_
        refine ks_get hκ 229 dX7_readsOrder_229 kf_X7_211 hM rfl ?_
        refine ks_iconst hκ 232 (nI 1) dX7_readsOrder_232 kq_i1 ?_
        refine ks_isubN hκ 233 dX7_readsOrder_233 (by omega) ?_
        refine ks_putS hκ 234 [_, _, _, _, _, _, _, _, _, _] dX7_readsOrder_234 kf_X7_211 hM rfl rfl (Nat.le_of_ble_eq_true rfl) rfl ?_
        refine ks_gen (fun xh28 exh28 => ?_)
        replace hM := ks_gs exh28 hM
        replace hT := ks_gn exh28 (ks_nb (b := m) (i := 0) (j := 3) rfl) hT
        replace hF := ks_Fr.st hF exh28 (by omega) (by omega)
        clear exh28
        refine ks_iconst hκ 237 (nI 0) dX7_readsOrder_237 kq_i0 ?_
        refine ks_iret hκ 238 hRt dX7_readsOrder_238 (by decide) (by decide) (by decide) ?_
        have hno : kIsLt (l.getD vn (nI 0)) = 0 := by
          first
          | (rw [hgo]; decide)
          | (rw [hgj]; decide)
          | (rw [hgd]; have q8 := nI_toInt (show vk < 2 ^ 31 by omega); rw [q8] at hs44; exact kIsLt_far (by omega) (by omega))
        rw [kRO_no hno]
        rw [Nat.add_sub_cancel] at hM
        exact ⟨_, rfl, rfl, ⟨_, _, _, _, hM, fun q => by cases q⟩, hF⟩
      · skip
        have hgj : l.getD vn (nI 0) = nI 120 := hgd.trans hs44
        refine ks_top (nI 120) hs44 ?_
        refine ks_tableIn hκ 44 162 dX7_readsOrder_44 (off := 118) (by decide) (by decide) (by decide) rfl ?_
        refine ks_aload_n hκ 162 0 dX7_readsOrder_162 rfl ?_
        refine ks_intcV0 hκ 163 dX7_readsOrder_163 kc_X7_239 (c_Model_readsNumber hM hT hTO hll hch (by omega)) hM rfl (by decide) (Nat.le_of_ble_eq_true rfl) (by decide) (by decide) (fun r163 xh29 hp163 => ?_)
        obtain ⟨rfl, ⟨on163, hM, hv163⟩, hF9⟩ := hp163
        have hb163 := kRN_le l (vn + 1)
        replace hT := hF9.at hT (by omega)
        replace hF := hF.tr (hF9.wd (by omega) (by omega))
        refine ks_if_eq hκ 166 189 dX7_readsOrder_166 rfl (fun c166 => ?_) (fun c166 => ?_)
        · skip
          have c166 := kB1_c0 c166
          refine ks_iconst hκ 189 (nI 0) dX7_readsOrder_189 kq_i0 ?_
          refine ks_iret hκ 190 hRt dX7_readsOrder_190 (by decide) (by decide) (by decide) ?_
          first
          | (have hq := (kRO_x hgj).trans (if_pos c166); rw [hq]; exact ⟨_, rfl, rfl, ⟨_, _, _, _, hM, fun q => by cases q⟩, hF⟩)
          | (have hq := (kRO_x hgj).trans ((if_neg c166).trans (if_pos c175)); rw [hq]; exact ⟨_, rfl, rfl, ⟨_, _, _, _, hM, fun q => by cases q⟩, hF⟩)
          | (have hq := (kRO_x hgj).trans ((if_neg c166).trans ((if_neg c175).trans (if_pos c182))); rw [hq]; exact ⟨_, rfl, rfl, ⟨_, _, _, _, hM, fun q => by cases q⟩, hF⟩)
          | (have hq := (kRO_x hgj).trans ((if_neg c166).trans ((if_neg c175).trans (if_neg c182))); rw [hq]; exact ⟨_, rfl, rfl, ⟨_, _, _, _, hM, fun _ => ⟨hs44, fun q => absurd q (show ¬ (nI 120 = nI 107 ∨ nI 120 = nI 116) by decide), fun q => absurd q (show ¬ (nI 120 = nI 103) by decide), fun q => absurd q (show ¬ (nI 120 = nI 110) by decide), fun _ => ⟨hv163 (Bool.not_eq_false _ ▸ c166), hv179 (Bool.not_eq_false _ ▸ c182)⟩, fun q => absurd q (show ¬ (nI 120 = nI 112) by decide)⟩⟩, hF⟩)
        · skip
          have c166 := kB1_c1 c166
          refine ks_aload_n hκ 169 0 dX7_readsOrder_169 rfl ?_
          refine ks_bipush hκ 170 (nI 46) dX7_readsOrder_170 kq_b46 ?_
          refine ks_intcV1 hκ 172 dX7_readsOrder_172 kc_X7_220 (c_Model_takes hM hT hTO hll hch (by omega) (show ¬ nI 46 = nI 0 by decide)) hM rfl (by decide) (Nat.le_of_ble_eq_true rfl) (by decide) (by decide) (fun r172 xh30 hp172 => ?_)
          obtain ⟨rfl, hM, hF9⟩ := hp172
          have hb172 := kSg_le l ((kRN l (vn + 1)).2.2) (nI 46)
          replace hT := hF9.at hT (by omega)
          replace hF := hF.tr (hF9.wd (by omega) (by omega))
          refine ks_if_eq hκ 175 189 dX7_readsOrder_175 rfl (fun c175 => ?_) (fun c175 => ?_)
          · skip
            have c175 := kB1_c0 c175
            refine ks_iconst hκ 189 (nI 0) dX7_readsOrder_189 kq_i0 ?_
            refine ks_iret hκ 190 hRt dX7_readsOrder_190 (by decide) (by decide) (by decide) ?_
            first
            | (have hq := (kRO_x hgj).trans (if_pos c166); rw [hq]; exact ⟨_, rfl, rfl, ⟨_, _, _, _, hM, fun q => by cases q⟩, hF⟩)
            | (have hq := (kRO_x hgj).trans ((if_neg c166).trans (if_pos c175)); rw [hq]; exact ⟨_, rfl, rfl, ⟨_, _, _, _, hM, fun q => by cases q⟩, hF⟩)
            | (have hq := (kRO_x hgj).trans ((if_neg c166).trans ((if_neg c175).trans (if_pos c182))); rw [hq]; exact ⟨_, rfl, rfl, ⟨_, _, _, _, hM, fun q => by cases q⟩, hF⟩)
            | (have hq := (kRO_x hgj).trans ((if_neg c166).trans ((if_neg c175).trans (if_neg c182))); rw [hq]; exact ⟨_, rfl, rfl, ⟨_, _, _, _, hM, fun _ => ⟨hs44, fun q => absurd q (show ¬ (nI 120 = nI 107 ∨ nI 120 = nI 116) by decide), fun q => absurd q (show ¬ (nI 120 = nI 103) by decide), fun q => absurd q (show ¬ (nI 120 = nI 110) by decide), fun _ => ⟨hv163 (Bool.not_eq_false _ ▸ c166), hv179 (Bool.not_eq_false _ ▸ c182)⟩, fun q => absurd q (show ¬ (nI 120 = nI 112) by decide)⟩⟩, hF⟩)
          · skip
            have c175 := kB1_c1 c175
            refine ks_aload_n hκ 178 0 dX7_readsOrder_178 rfl ?_
            refine ks_intcV0 hκ 179 dX7_readsOrder_179 kc_X7_243 (c_Model_readsKitten hM hT hTO hll hch (by omega)) hM rfl (by decide) (Nat.le_of_ble_eq_true rfl) (by decide) (by decide) (fun r179 xh31 hp179 => ?_)
            obtain ⟨rfl, ⟨tw179, hM, hv179⟩, hF9⟩ := hp179
            have hb179 := kRD_le l ((kSg l ((kRN l (vn + 1)).2.2) (nI 46)).2)
            replace hT := hF9.at hT (by omega)
            replace hF := hF.tr (hF9.wd (by omega) (by omega))
            refine ks_if_eq hκ 182 189 dX7_readsOrder_182 rfl (fun c182 => ?_) (fun c182 => ?_)
            · skip
              have c182 := kB1_c0 c182
              refine ks_iconst hκ 189 (nI 0) dX7_readsOrder_189 kq_i0 ?_
              refine ks_iret hκ 190 hRt dX7_readsOrder_190 (by decide) (by decide) (by decide) ?_
              first
              | (have hq := (kRO_x hgj).trans (if_pos c166); rw [hq]; exact ⟨_, rfl, rfl, ⟨_, _, _, _, hM, fun q => by cases q⟩, hF⟩)
              | (have hq := (kRO_x hgj).trans ((if_neg c166).trans (if_pos c175)); rw [hq]; exact ⟨_, rfl, rfl, ⟨_, _, _, _, hM, fun q => by cases q⟩, hF⟩)
              | (have hq := (kRO_x hgj).trans ((if_neg c166).trans ((if_neg c175).trans (if_pos c182))); rw [hq]; exact ⟨_, rfl, rfl, ⟨_, _, _, _, hM, fun q => by cases q⟩, hF⟩)
              | (have hq := (kRO_x hgj).trans ((if_neg c166).trans ((if_neg c175).trans (if_neg c182))); rw [hq]; exact ⟨_, rfl, rfl, ⟨_, _, _, _, hM, fun _ => ⟨hs44, fun q => absurd q (show ¬ (nI 120 = nI 107 ∨ nI 120 = nI 116) by decide), fun q => absurd q (show ¬ (nI 120 = nI 103) by decide), fun q => absurd q (show ¬ (nI 120 = nI 110) by decide), fun _ => ⟨hv163 (Bool.not_eq_false _ ▸ c166), hv179 (Bool.not_eq_false _ ▸ c182)⟩, fun q => absurd q (show ¬ (nI 120 = nI 112) by decide)⟩⟩, hF⟩)
            · skip
              have c182 := kB1_c1 c182
              refine ks_iconst hκ 185 (nI 1) dX7_readsOrder_185 kq_i1 ?_
              refine ks_goto hκ 186 190 dX7_readsOrder_186 rfl ?_
              refine ks_iret hκ 190 hRt dX7_readsOrder_190 (by decide) (by decide) (by decide) ?_
              first
              | (have hq := (kRO_x hgj).trans (if_pos c166); rw [hq]; exact ⟨_, rfl, rfl, ⟨_, _, _, _, hM, fun q => by cases q⟩, hF⟩)
              | (have hq := (kRO_x hgj).trans ((if_neg c166).trans (if_pos c175)); rw [hq]; exact ⟨_, rfl, rfl, ⟨_, _, _, _, hM, fun q => by cases q⟩, hF⟩)
              | (have hq := (kRO_x hgj).trans ((if_neg c166).trans ((if_neg c175).trans (if_pos c182))); rw [hq]; exact ⟨_, rfl, rfl, ⟨_, _, _, _, hM, fun q => by cases q⟩, hF⟩)
              | (have hq := (kRO_x hgj).trans ((if_neg c166).trans ((if_neg c175).trans (if_neg c182))); rw [hq]; exact ⟨_, rfl, rfl, ⟨_, _, _, _, hM, fun _ => ⟨hs44, fun q => absurd q (show ¬ (nI 120 = nI 107 ∨ nI 120 = nI 116) by decide), fun q => absurd q (show ¬ (nI 120 = nI 103) by decide), fun q => absurd q (show ¬ (nI 120 = nI 110) by decide), fun _ => ⟨hv163 (Bool.not_eq_false _ ▸ c166), hv179 (Bool.not_eq_false _ ▸ c182)⟩, fun q => absurd q (show ¬ (nI 120 = nI 112) by decide)⟩⟩, hF⟩)
set_option maxRecDepth 100000 in
set_option maxHeartbeats 4000000 in
theorem c_Model_fault {g : ks_G} {h : ks_H} {m : Nat} {w0 w1 w2 : Value} {sp kd on tw bx : Int32} {T : Nat → Int32} {l : List Int32} (hM : h[m]? = some (ks_O 7 [w0, w1, w2, ks_ref g (m + 3), .int (nI l.length), .int sp, .int kd, .int on, .int tw, .int bx])) (hT : h[m + 3]? = some (ks_I g 80 T)) (hTO : kTO T l) (hll : l.length ≤ 80) (hch : kSigns l) : ks_Met g (yX7_fault, cX7_fault, 2, some .int) 6 0 0 [ks_ref g m] h (ks_Ph (fun r h' => r = (kRead 27 l 0 []).1 ∧ (∃ vq kd1 on1 tw1 bx1, h'[m]? = some (ks_O 7 [w0, w1, w2, ks_ref g (m + 3), .int (nI l.length), .int (nI vq), .int kd1, .int on1, .int tw1, .int bx1])) ∧ ks_Fr h h' m (m + 1))) := by
  refine ks_intro (by decide) (Nat.le_of_ble_eq_true rfl) (fun κ hκ hRt => ?_)
  refine ks_cv (ls := [(0, ks_ref g m)]) ?_ rfl rfl rfl
  have hF : ks_Fr h h m (m + 1) := ks_Fr.rf
  refine ks_aload_n hκ 0 0 dX7_fault_0 rfl ?_
  refine ks_iconst hκ 1 (nI 0) dX7_fault_1 kq_i0 ?_
  refine ks_putS hκ 2 [_, _, _, _, _, _, _, _, _, _] dX7_fault_2 kf_X7_211 hM rfl rfl (Nat.le_of_ble_eq_true rfl) rfl ?_
  refine ks_gen (fun xh1 exh1 => ?_)
  replace hM := ks_gs exh1 hM
  replace hT := ks_gn exh1 (ks_nb (b := m) (i := 0) (j := 3) rfl) hT
  replace hF := ks_Fr.st hF exh1 (by omega) (by omega)
  clear exh1
  refine ks_iconst hκ 5 (nI 1) dX7_fault_5 kq_i1 ?_
  refine ks_istore_n hκ 6 1 [(1, _), (0, _)] dX7_fault_6 rfl (by decide) rfl ?_
  have L7 : ∀ (fuel : Nat) (vf vi vb : Nat) (kd1 on1 tw1 bx1 : Int32) (acc : List kO) (hh : ks_H) (hM : hh[m]? = some (ks_O 7 [w0, w1, w2, ks_ref g (m + 3), .int (nI l.length), .int (nI vi), .int kd1, .int on1, .int tw1, .int bx1])) (hT : hh[m + 3]? = some (ks_I g 80 T)) (hF : ks_Fr h hh m (m + 1)) (hvb : vb ≤ 1) (hvi : vi ≤ l.length) (h1 : vb = 1 → kRead vf l vi acc = kRead 27 l 0 [] ∧ 81 ≤ 3 * vf + vi) (h0 : vb = 0 → (kRead 27 l 0 []).1 = if vi = l.length then -6 else nI vi) (hfuel : vf + vb < fuel), ks_K κ g 2 hh 0 0 7 [(0, ks_ref g m), (1, .int (nI vb))] [] := by
    intro fuel
    induction fuel with
    | zero => intro vf vi vb kd1 on1 tw1 bx1 acc hh hM hT hF hvb hvi h1 h0 hfuel; exact absurd hfuel (Nat.not_lt_zero _)
    | succ fuel ih =>
      intro vf vi vb kd1 on1 tw1 bx1 acc hh hM hT hF hvb hvi h1 h0 hfuel
      refine ks_iload_n hκ 7 1 dX7_fault_7 rfl ?_
      refine ks_if_eq hκ 8 33 dX7_fault_8 rfl (fun c8 => ?_) (fun c8 => ?_)
      · skip
        have c8 := (ks_eq0 (by omega)).mp c8
        refine ks_aload_n hκ 33 0 dX7_fault_33 rfl ?_
        refine ks_get hκ 34 dX7_fault_34 kf_X7_211 hM rfl ?_
        refine ks_aload_n hκ 37 0 dX7_fault_37 rfl ?_
        refine ks_get hκ 38 dX7_fault_38 kf_X7_193 hM rfl ?_
        refine ks_icmp_ne hκ 41 49 dX7_fault_41 rfl (fun c41 => ?_) (fun c41 => ?_)
        · skip
          have c41 := mt (nI_eq (by omega) (by omega)).mpr c41
          refine ks_aload_n hκ 49 0 dX7_fault_49 rfl ?_
          refine ks_get hκ 50 dX7_fault_50 kf_X7_211 hM rfl ?_
          refine ks_iret hκ 53 hRt dX7_fault_53 (by decide) (by decide) rfl ?_
          have h0a := h0 (by omega)
          exact ⟨_, rfl, by rw [h0a]; first | rw [if_pos c41] | rw [if_neg c41], ⟨_, _, _, _, _, hM⟩, hF⟩
        · skip
          have c41 := (nI_eq (by omega) (by omega)).mp c41
          refine ks_bipush hκ 44 (-6) dX7_fault_44 kq_bm6 ?_
          refine ks_goto hκ 46 53 dX7_fault_46 rfl ?_
          refine ks_iret hκ 53 hRt dX7_fault_53 (by decide) (by decide) rfl ?_
          have h0a := h0 (by omega)
          exact ⟨_, rfl, by rw [h0a]; first | rw [if_pos c41] | rw [if_neg c41], ⟨_, _, _, _, _, hM⟩, hF⟩
      · skip
        have c8 := mt (ks_eq0 (by omega)).mpr c8
        obtain ⟨h1a, h1b⟩ := h1 (by omega)
        obtain ⟨vg, rfl⟩ : ∃ vg, vf = vg + 1 := ⟨vf - 1, by omega⟩
        rw [kRead] at h1a
        have hro := kRO_len hvi
        have hrl := kRO_le l vi
        refine ks_aload_n hκ 11 0 dX7_fault_11 rfl ?_
        refine ks_intcV0 hκ 12 dX7_fault_12 kc_X7_249 (c_Model_readsOrder hM hT hTO hll hch (by omega)) hM rfl (by decide) (Nat.le_of_ble_eq_true rfl) (by decide) (by decide) (fun r12 xh2 hp12 => ?_)
        obtain ⟨rfl, ⟨kd2, on2, tw2, bx2, hM, -⟩, hF9⟩ := hp12
        replace hT := hF9.at hT (by omega)
        replace hF := hF.tr (hF9.wd (by omega) (by omega))
        refine ks_if_ne hκ 15 23 dX7_fault_15 rfl (fun c15 => ?_) (fun c15 => ?_)
        · skip
          have c15 := kB1_c1 c15
          rw [if_neg c15] at h1a
          have hro2 := hro.2.2 (Bool.not_eq_false _ ▸ c15)
          refine ks_aload_n hκ 23 0 dX7_fault_23 rfl ?_
          refine ks_bipush hκ 24 (nI 59) dX7_fault_24 kq_b59 ?_
          refine ks_intcV1 hκ 26 dX7_fault_26 kc_X7_220 (c_Model_takes hM hT hTO hll hch (by omega) (show ¬ nI 59 = nI 0 by decide)) hM rfl (by decide) (Nat.le_of_ble_eq_true rfl) (by decide) (by decide) (fun r26 xh3 hp26 => ?_)
          obtain ⟨rfl, hM, hF9⟩ := hp26
          obtain ⟨vc, hvc, hvc1, hvc0⟩ : ∃ vc : Nat, kB1 (kSg l (kRO l vi).2.2 (nI 59)).1 = nI vc ∧ (vc = 1 → kSg l (kRO l vi).2.2 (nI 59) = (true, (kRO l vi).2.2 + 1) ∧ l.getD (kRO l vi).2.2 (nI 0) = nI 59) ∧ (vc ≠ 1 → vc = 0 ∧ kSg l (kRO l vi).2.2 (nI 59) = (false, (kRO l vi).2.2) ∧ ¬ l.getD (kRO l vi).2.2 (nI 0) = nI 59) := by
            by_cases q : l.getD (kRO l vi).2.2 (nI 0) = nI 59
            · have e : kSg l (kRO l vi).2.2 (nI 59) = (true, (kRO l vi).2.2 + 1) := if_pos q
              exact ⟨1, by rw [e]; rfl, fun _ => ⟨e, q⟩, fun z => absurd rfl z⟩
            · have e : kSg l (kRO l vi).2.2 (nI 59) = (false, (kRO l vi).2.2) := if_neg q
              exact ⟨0, by rw [e]; rfl, fun z => absurd z (by decide), fun _ => ⟨rfl, e, q⟩⟩
          replace hT := hF9.at hT (by omega)
          replace hF := hF.tr (hF9.wd (by omega) (by omega))
          refine ks_top (nI vc) hvc ?_
          refine ks_istore_n hκ 29 1 [(1, _), (0, _)] dX7_fault_29 rfl (by decide) rfl ?_
          refine ks_goto hκ 30 7 dX7_fault_30 rfl ?_
          have hsl := kSg_len (l := l) (c := nI 59) (by decide) hro.1
          refine ks_pick [1, 0] [(0, _), (1, _)] rfl ?_
          exact ks_cv (ih vg _ vc _ _ _ _ (acc ++ [(kRO l vi).2.1]) xh3 hM hT hF (by by_cases q : vc = 1; { omega }; { have := (hvc0 q).1; omega }) hsl.1 (fun q => by obtain ⟨e, e2⟩ := hvc1 q; rw [e]; have e3 := kgd_lt e2 (by decide); rw [if_neg (by omega), if_pos e2] at h1a; exact ⟨h1a, by show 81 ≤ 3 * vg + ((kRO l vi).2.2 + 1); omega⟩) (fun q => by obtain ⟨-, e, e2⟩ := hvc0 (by omega); rw [e]; rw [← h1a]; by_cases e3 : l.length ≤ (kRO l vi).2.2; { rw [if_pos e3]; exact (if_pos (by show (kRO l vi).2.2 = l.length; omega)).symm }; { rw [if_neg e3, if_neg e2]; exact (if_neg (by show ¬ (kRO l vi).2.2 = l.length; omega)).symm }) (by by_cases q : vc = 1; { omega }; { have := (hvc0 q).1; omega })) rfl rfl rfl
        · skip
          have c15 := kB1_c0 c15
          rw [if_pos c15] at h1a
          refine ks_aload_n hκ 18 0 dX7_fault_18 rfl ?_
          refine ks_get hκ 19 dX7_fault_19 kf_X7_211 hM rfl ?_
          refine ks_iret hκ 22 hRt dX7_fault_22 (by decide) (by decide) rfl ?_
          exact ⟨_, rfl, by rw [← h1a], ⟨_, _, _, _, _, hM⟩, hF⟩
  refine ks_pick [1, 0] [(0, _), (1, _)] rfl ?_
  exact ks_cv (L7 _ 27 0 1 _ _ _ _ [] xh1 hM hT hF (Nat.le_refl _) (Nat.zero_le _) (fun _ => ⟨rfl, by decide⟩) (fun q => absurd q (by decide)) (Nat.lt_succ_self _)) rfl rfl rfl
