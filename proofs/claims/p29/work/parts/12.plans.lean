/-! PLANS: a list of (turn, kitten, steps), in the order in which they will be made -/
abbrev kP : Type := Int32 × Nat × Int32
def kPEO (T K B : Nat → Int32) (P : List kP) : Prop := ∀ (i : Nat) (t : Int32) (k : Nat) (b : Int32), P[i]? = some (t, k, b) → T i = t ∧ K i = nI k ∧ B i = b
def kPlans (g : ks_G) (h : ks_H) (q : Nat) (P : List kP) : Prop := ∃ T K B : Nat → Int32, h[q]? = some (ks_O 3 [ks_ref g (q + 1), ks_ref g (q + 2), ks_ref g (q + 3), .int (nI P.length)]) ∧ h[q + 1]? = some (ks_I g 16 T) ∧ h[q + 2]? = some (ks_I g 16 K) ∧ h[q + 3]? = some (ks_I g 16 B) ∧ kPEO T K B P ∧ P.length ≤ 16 ∧ ∀ p ∈ P, p.2.1 < 6
theorem kPlans.fr {g : ks_G} {h h' : ks_H} {q : Nat} {P : List kP} (x : kPlans g h q P) {lo hi : Nat} (f : ks_Fr h h' lo hi) (z : q + 4 ≤ lo ∨ hi ≤ q) : kPlans g h' q P := by
  obtain ⟨T, K, B, hQ, hT, hK, hB, r⟩ := x
  exact ⟨T, K, B, f.at hQ (by omega), f.at hT (by omega), f.at hK (by omega), f.at hB (by omega), r⟩
theorem kPlans.ex {g : ks_G} {h h' : ks_H} {q : Nat} {P : List kP} (x : kPlans g h q P) {lo : Nat} (f : ks_Ex h h' lo) (z : q + 4 ≤ lo) : kPlans g h' q P := by
  obtain ⟨T, K, B, hQ, hT, hK, hB, r⟩ := x
  exact ⟨T, K, B, (f q (by omega)).trans hQ, (f (q + 1) (by omega)).trans hT, (f (q + 2) (by omega)).trans hK, (f (q + 3) (by omega)).trans hB, r⟩
/-- is a plan behind a turn and a kitten -/
def kLat (t k tu kk : Int32) : Int32 := if t = tu then (if k ≤ kk then nI 0 else nI 1) else (if t ≤ tu then nI 0 else nI 1)
def kFirst (P : List kP) : Int32 := match P with
  | [] => -6
  | p :: _ => p.1
def kLast (P : List kP) : Int32 := match P.getLast? with
  | none => -6
  | some p => p.1
/-- the place of a new plan, from the end -/
def kPlc (P : List kP) (tu : Int32) (k : Nat) : Nat → Nat
  | 0 => 0
  | j + 1 => match P[j]? with
    | none => j + 1
    | some p => if kLat p.1 (nI p.2.1) tu (nI k) = 0 then j + 1 else kPlc P tu k j
def kIns (P : List kP) (x : kP) : List kP := P.take (kPlc P x.1 x.2.1 P.length) ++ x :: P.drop (kPlc P x.1 x.2.1 P.length)
/-- while plans are moved up: below c and above it -/
def kPUp (T K B : Nat → Int32) (P : List kP) (c : Nat) : Prop := ∀ (i : Nat) (t : Int32) (k : Nat) (b : Int32), P[i]? = some (t, k, b) → (i < c → T i = t ∧ K i = nI k ∧ B i = b) ∧ (c ≤ i → T (i + 1) = t ∧ K (i + 1) = nI k ∧ B (i + 1) = b)
theorem kPUp.start {T K B : Nat → Int32} {P : List kP} (h : kPEO T K B P) : kPUp T K B P P.length := fun i t k b hi => ⟨fun _ => h i t k b hi, fun hc => absurd (List.getElem?_eq_some_iff.mp hi).1 (by omega)⟩
theorem kPUp.step {T K B : Nat → Int32} {P : List kP} {c : Nat} (h : kPUp T K B P (c + 1)) : kPUp (upd T (c + 1) (T c)) (upd K (c + 1) (K c)) (upd B (c + 1) (B c)) P c := by
  intro i t k b hi
  obtain ⟨h1, h2⟩ := h i t k b hi
  refine ⟨fun hc => ?_, fun hc => ?_⟩
  · rw [pk_un (by omega), pk_un (by omega), pk_un (by omega)]
    exact h1 (by omega)
  · by_cases hic : i = c
    · subst hic
      rw [pk_us, pk_us, pk_us]
      exact h1 (by omega)
    · rw [pk_un (by omega), pk_un (by omega), pk_un (by omega)]
      exact h2 (by omega)
theorem kPUp.fin {T K B : Nat → Int32} {P : List kP} {c : Nat} (h : kPUp T K B P c) (hc : c ≤ P.length) (t : Int32) (k : Nat) (b : Int32) : kPEO (upd T c t) (upd K c (nI k)) (upd B c b) (P.take c ++ (t, k, b) :: P.drop c) := by
  intro i t1 k1 b1 hi
  have hlc : (P.take c).length = c := by rw [List.length_take]; omega
  by_cases h1 : i < c
  · rw [List.getElem?_append_left (by omega), List.getElem?_take, if_pos h1] at hi
    rw [pk_un (by omega), pk_un (by omega), pk_un (by omega)]
    exact (h i t1 k1 b1 hi).1 h1
  · rw [List.getElem?_append_right (by omega), hlc] at hi
    by_cases h2 : i = c
    · subst h2
      rw [Nat.sub_self] at hi
      simp at hi
      rw [pk_us, pk_us, pk_us, hi.1, hi.2.1, hi.2.2]
      exact ⟨rfl, rfl, rfl⟩
    · obtain ⟨j, rfl⟩ : ∃ j, i = j + 1 := ⟨i - 1, by omega⟩
      rw [show j + 1 - c = (j - c) + 1 by omega, List.getElem?_cons_succ, List.getElem?_drop, show c + (j - c) = j by omega] at hi
      rw [pk_un h2, pk_un h2, pk_un h2]
      exact (h j t1 k1 b1 hi).2 (by omega)
theorem kIns_len (P : List kP) (x : kP) : (kIns P x).length = P.length + 1 := by
  unfold kIns
  rw [List.length_append, List.length_cons, List.length_take, List.length_drop]
  omega
theorem kPlc_le (P : List kP) (tu : Int32) (k : Nat) : ∀ j, kPlc P tu k j ≤ j
  | 0 => Nat.le_refl _
  | j + 1 => by
    unfold kPlc
    split
    · exact Nat.le_refl _
    · split
      · exact Nat.le_refl _
      · exact Nat.le_succ_of_le (kPlc_le P tu k j)
theorem kPlc_s {P : List kP} {tu : Int32} {k j : Nat} {p : kP} (h : P[j]? = some p) : kPlc P tu k (j + 1) = if kLat p.1 (nI p.2.1) tu (nI k) = 0 then j + 1 else kPlc P tu k j := by
  rw [kPlc, h]
theorem kIns_mem {P : List kP} {x p : kP} (h : p ∈ kIns P x) : p = x ∨ p ∈ P := by
  unfold kIns at h
  rcases List.mem_append.mp h with q | q
  · exact Or.inr (List.mem_of_mem_take q)
  · rcases List.mem_cons.mp q with q | q
    · exact Or.inl q
    · exact Or.inr (List.mem_of_mem_drop q)
/-- while plans are moved down -/
def kPDn (T K B : Nat → Int32) (P : List kP) (c : Nat) : Prop := ∀ (i : Nat) (t : Int32) (k : Nat) (b : Int32), P[i]? = some (t, k, b) → (i < c → T i = t ∧ K i = nI k ∧ B i = b) ∧ (c ≤ i → T (i + 1) = t ∧ K (i + 1) = nI k ∧ B (i + 1) = b)
theorem kPDn.start {T K B : Nat → Int32} {p : kP} {P : List kP} (h : kPEO T K B (p :: P)) : kPDn T K B P 0 := fun i t k b hi => ⟨fun hc => absurd hc (Nat.not_lt_zero _), fun _ => h (i + 1) t k b (by rw [List.getElem?_cons_succ]; exact hi)⟩
theorem kPDn.step {T K B : Nat → Int32} {P : List kP} {c : Nat} (h : kPDn T K B P c) : kPDn (upd T c (T (c + 1))) (upd K c (K (c + 1))) (upd B c (B (c + 1))) P (c + 1) := by
  intro i t k b hi
  obtain ⟨h1, h2⟩ := h i t k b hi
  refine ⟨fun hc => ?_, fun hc => ?_⟩
  · by_cases hic : i = c
    · subst hic
      rw [pk_us, pk_us, pk_us]
      exact h2 (Nat.le_refl _)
    · rw [pk_un hic, pk_un hic, pk_un hic]
      exact h1 (by omega)
  · rw [pk_un (by omega), pk_un (by omega), pk_un (by omega)]
    exact h2 (by omega)
set_option maxRecDepth 100000 in
set_option maxHeartbeats 4000000 in
theorem c_Plans_isLater {g : ks_G} {h : ks_H} {q : Nat} {T K B : Nat → Int32} {fs : List Value} {j : Nat} {tu kk : Int32} (hQ : h[q]? = some (ks_O 3 (ks_ref g (q + 1) :: ks_ref g (q + 2) :: ks_ref g (q + 3) :: fs))) (hT : h[q + 1]? = some (ks_I g 16 T)) (hK : h[q + 2]? = some (ks_I g 16 K)) (hB : h[q + 3]? = some (ks_I g 16 B)) (hj : j < 16) : ks_Met g (yX3_isLater, cX3_isLater, 4, some .boolean) 0 0 0 [ks_ref g q, .int (nI j), .int tu, .int kk] h (ks_Pi (kLat (T j) (K j) tu kk) h) := by
  refine ks_intro (by decide) (Nat.le_of_ble_eq_true rfl) (fun κ hκ hRt => ?_)
  refine ks_cv (ls := [(0, ks_ref g q), (1, .int (nI j)), (2, .int tu), (3, .int kk)]) ?_ rfl rfl rfl
  refine ks_aload_n hκ 0 0 dX3_isLater_0 rfl ?_
  refine ks_get hκ 1 dX3_isLater_1 kf_X3_9 hQ rfl ?_
  refine ks_iload_n hκ 4 1 dX3_isLater_4 rfl ?_
  refine ks_iald hκ 5 (j) dX3_isLater_5 hT rfl (by omega) (by decide) ?_
  refine ks_iload_n hκ 6 2 dX3_isLater_6 rfl ?_
  refine ks_icmp_eq hκ 7 26 dX3_isLater_7 rfl (fun c7 => ?_) (fun c7 => ?_)
  · skip
    refine ks_aload_n hκ 26 0 dX3_isLater_26 rfl ?_
    refine ks_get hκ 27 dX3_isLater_27 kf_X3_15 hQ rfl ?_
    refine ks_iload_n hκ 30 1 dX3_isLater_30 rfl ?_
    refine ks_iald hκ 31 (j) dX3_isLater_31 hK rfl (by omega) (by decide) ?_
    refine ks_iload_n hκ 32 3 dX3_isLater_32 rfl ?_
    refine ks_icmp_le hκ 33 40 dX3_isLater_33 rfl (fun c33 => ?_) (fun c33 => ?_)
    · skip
      refine ks_iconst hκ 40 (nI 0) dX3_isLater_40 kq_i0 ?_
      refine ks_iret hκ 41 hRt dX3_isLater_41 (by decide) (by decide) (by decide) ?_
      exact ⟨by simp only [kLat, if_pos c7]; first | rw [if_pos c33] | rw [if_neg c33], rfl⟩
    · skip
      refine ks_iconst hκ 36 (nI 1) dX3_isLater_36 kq_i1 ?_
      refine ks_goto hκ 37 41 dX3_isLater_37 rfl ?_
      refine ks_iret hκ 41 hRt dX3_isLater_41 (by decide) (by decide) (by decide) ?_
      exact ⟨by simp only [kLat, if_pos c7]; first | rw [if_pos c33] | rw [if_neg c33], rfl⟩
  · skip
    refine ks_aload_n hκ 10 0 dX3_isLater_10 rfl ?_
    refine ks_get hκ 11 dX3_isLater_11 kf_X3_9 hQ rfl ?_
    refine ks_iload_n hκ 14 1 dX3_isLater_14 rfl ?_
    refine ks_iald hκ 15 (j) dX3_isLater_15 hT rfl (by omega) (by decide) ?_
    refine ks_iload_n hκ 16 2 dX3_isLater_16 rfl ?_
    refine ks_icmp_le hκ 17 24 dX3_isLater_17 rfl (fun c17 => ?_) (fun c17 => ?_)
    · skip
      refine ks_iconst hκ 24 (nI 0) dX3_isLater_24 kq_i0 ?_
      refine ks_iret hκ 25 hRt dX3_isLater_25 (by decide) (by decide) (by decide) ?_
      exact ⟨by simp only [kLat, if_neg c7]; first | rw [if_pos c17] | rw [if_neg c17], rfl⟩
    · skip
      refine ks_iconst hκ 20 (nI 1) dX3_isLater_20 kq_i1 ?_
      refine ks_goto hκ 21 25 dX3_isLater_21 rfl ?_
      refine ks_iret hκ 25 hRt dX3_isLater_25 (by decide) (by decide) (by decide) ?_
      exact ⟨by simp only [kLat, if_neg c7]; first | rw [if_pos c17] | rw [if_neg c17], rfl⟩
set_option maxRecDepth 100000 in
set_option maxHeartbeats 4000000 in
theorem c_Plans_move {g : ks_G} {h : ks_H} {q : Nat} {T K B : Nat → Int32} {fs : List Value} {a b : Nat} (hQ : h[q]? = some (ks_O 3 (ks_ref g (q + 1) :: ks_ref g (q + 2) :: ks_ref g (q + 3) :: fs))) (hT : h[q + 1]? = some (ks_I g 16 T)) (hK : h[q + 2]? = some (ks_I g 16 K)) (hB : h[q + 3]? = some (ks_I g 16 B)) (ha : a < 16) (hb : b < 16) : ks_Met g (yX3_move, cX3_move, 3, none) 0 0 0 [ks_ref g q, .int (nI a), .int (nI b)] h (ks_Pv (fun h' => h'[q]? = some (ks_O 3 (ks_ref g (q + 1) :: ks_ref g (q + 2) :: ks_ref g (q + 3) :: fs)) ∧ h'[q + 1]? = some (ks_I g 16 (upd T b (T a))) ∧ h'[q + 2]? = some (ks_I g 16 (upd K b (K a))) ∧ h'[q + 3]? = some (ks_I g 16 (upd B b (B a))) ∧ ks_Fr h h' q (q + 4))) := by
  refine ks_intro (by decide) (Nat.le_of_ble_eq_true rfl) (fun κ hκ hRt => ?_)
  refine ks_cv (ls := [(0, ks_ref g q), (1, .int (nI a)), (2, .int (nI b))]) ?_ rfl rfl rfl
  have hF : ks_Fr h h q (q + 4) := ks_Fr.rf
  refine ks_aload_n hκ 0 0 dX3_move_0 rfl ?_
  refine ks_get hκ 1 dX3_move_1 kf_X3_9 hQ rfl ?_
  refine ks_iload_n hκ 4 2 dX3_move_4 rfl ?_
  refine ks_aload_n hκ 5 0 dX3_move_5 rfl ?_
  refine ks_get hκ 6 dX3_move_6 kf_X3_9 hQ rfl ?_
  refine ks_iload_n hκ 9 1 dX3_move_9 rfl ?_
  refine ks_iald hκ 10 (a) dX3_move_10 hT rfl (by omega) (by decide) ?_
  refine ks_iast hκ 11 (b) dX3_move_11 hT rfl (by omega) (by decide) ?_
  refine ks_gen (fun xh1 exh1 => ?_)
  replace hQ := ks_gn exh1 (ks_nb (b := q) (i := 1) (j := 0) rfl) hQ
  replace hT := ks_gs exh1 hT
  replace hK := ks_gn exh1 (ks_nb (b := q) (i := 1) (j := 2) rfl) hK
  replace hB := ks_gn exh1 (ks_nb (b := q) (i := 1) (j := 3) rfl) hB
  replace hF := ks_Fr.st hF exh1 (by omega) (by omega)
  clear exh1
  refine ks_aload_n hκ 12 0 dX3_move_12 rfl ?_
  refine ks_get hκ 13 dX3_move_13 kf_X3_15 hQ rfl ?_
  refine ks_iload_n hκ 16 2 dX3_move_16 rfl ?_
  refine ks_aload_n hκ 17 0 dX3_move_17 rfl ?_
  refine ks_get hκ 18 dX3_move_18 kf_X3_15 hQ rfl ?_
  refine ks_iload_n hκ 21 1 dX3_move_21 rfl ?_
  refine ks_iald hκ 22 (a) dX3_move_22 hK rfl (by omega) (by decide) ?_
  refine ks_iast hκ 23 (b) dX3_move_23 hK rfl (by omega) (by decide) ?_
  refine ks_gen (fun xh2 exh2 => ?_)
  replace hQ := ks_gn exh2 (ks_nb (b := q) (i := 2) (j := 0) rfl) hQ
  replace hT := ks_gn exh2 (ks_nb (b := q) (i := 2) (j := 1) rfl) hT
  replace hK := ks_gs exh2 hK
  replace hB := ks_gn exh2 (ks_nb (b := q) (i := 2) (j := 3) rfl) hB
  replace hF := ks_Fr.st hF exh2 (by omega) (by omega)
  clear exh2
  refine ks_aload_n hκ 24 0 dX3_move_24 rfl ?_
  refine ks_get hκ 25 dX3_move_25 kf_X3_18 hQ rfl ?_
  refine ks_iload_n hκ 28 2 dX3_move_28 rfl ?_
  refine ks_aload_n hκ 29 0 dX3_move_29 rfl ?_
  refine ks_get hκ 30 dX3_move_30 kf_X3_18 hQ rfl ?_
  refine ks_iload_n hκ 33 1 dX3_move_33 rfl ?_
  refine ks_iald hκ 34 (a) dX3_move_34 hB rfl (by omega) (by decide) ?_
  refine ks_iast hκ 35 (b) dX3_move_35 hB rfl (by omega) (by decide) ?_
  refine ks_gen (fun xh3 exh3 => ?_)
  replace hQ := ks_gn exh3 (ks_nb (b := q) (i := 3) (j := 0) rfl) hQ
  replace hT := ks_gn exh3 (ks_nb (b := q) (i := 3) (j := 1) rfl) hT
  replace hK := ks_gn exh3 (ks_nb (b := q) (i := 3) (j := 2) rfl) hK
  replace hB := ks_gs exh3 hB
  replace hF := ks_Fr.st hF exh3 (by omega) (by omega)
  clear exh3
  refine ks_vret hκ 36 hRt dX3_move_36 (by decide) (by decide) ?_
  exact ⟨rfl, hQ, hT, hK, hB, hF⟩
set_option maxRecDepth 100000 in
set_option maxHeartbeats 4000000 in
theorem c_Plans_firstTurn {g : ks_G} {h : ks_H} {q : Nat} {P : List kP} (hplans : kPlans g h q P) : ks_Met g (yX3_firstTurn, cX3_firstTurn, 1, some .int) 0 0 0 [ks_ref g q] h (ks_Pi (kFirst P) h) := by
  obtain ⟨T, K, B, hQ, hT, hK, hB, hPE, hn, hkb⟩ := hplans
  refine ks_intro (by decide) (Nat.le_of_ble_eq_true rfl) (fun κ hκ hRt => ?_)
  refine ks_cv (ls := [(0, ks_ref g q)]) ?_ rfl rfl rfl
  refine ks_aload_n hκ 0 0 dX3_firstTurn_0 rfl ?_
  refine ks_get hκ 1 dX3_firstTurn_1 kf_X3_21 hQ rfl ?_
  refine ks_if_ne hκ 4 12 dX3_firstTurn_4 rfl (fun c4 => ?_) (fun c4 => ?_)
  · skip
    have c4 := mt (ks_eq0 (by omega)).mpr c4
    obtain ⟨p, P1, rfl⟩ : ∃ p P1, P = p :: P1 := by
      cases P with
      | nil => exact absurd rfl c4
      | cons p P1 => exact ⟨p, P1, rfl⟩
    obtain ⟨e1, -, -⟩ := hPE 0 p.1 p.2.1 p.2.2 rfl
    refine ks_aload_n hκ 12 0 dX3_firstTurn_12 rfl ?_
    refine ks_get hκ 13 dX3_firstTurn_13 kf_X3_9 hQ rfl ?_
    refine ks_iconst hκ 16 (nI 0) dX3_firstTurn_16 kq_i0 ?_
    refine ks_iald hκ 17 (0) dX3_firstTurn_17 hT rfl (by omega) (by decide) ?_
    refine ks_iret hκ 18 hRt dX3_firstTurn_18 (by decide) (by decide) rfl ?_
    refine ⟨?_, rfl⟩
    first | (rw [hnil]; rfl) | (rw [e1]; rfl)
  · skip
    have c4 := (ks_eq0 (by omega)).mp c4
    have hnil : P = [] := List.eq_nil_of_length_eq_zero c4
    refine ks_bipush hκ 7 (-6) dX3_firstTurn_7 kq_bm6 ?_
    refine ks_goto hκ 9 18 dX3_firstTurn_9 rfl ?_
    refine ks_iret hκ 18 hRt dX3_firstTurn_18 (by decide) (by decide) rfl ?_
    refine ⟨?_, rfl⟩
    first | (rw [hnil]; rfl) | (rw [e1]; rfl)
set_option maxRecDepth 100000 in
set_option maxHeartbeats 4000000 in
theorem c_Plans_lastTurn {g : ks_G} {h : ks_H} {q : Nat} {P : List kP} (hplans : kPlans g h q P) : ks_Met g (yX3_lastTurn, cX3_lastTurn, 1, some .int) 0 0 0 [ks_ref g q] h (ks_Pi (kLast P) h) := by
  obtain ⟨T, K, B, hQ, hT, hK, hB, hPE, hn, hkb⟩ := hplans
  refine ks_intro (by decide) (Nat.le_of_ble_eq_true rfl) (fun κ hκ hRt => ?_)
  refine ks_cv (ls := [(0, ks_ref g q)]) ?_ rfl rfl rfl
  refine ks_aload_n hκ 0 0 dX3_lastTurn_0 rfl ?_
  refine ks_get hκ 1 dX3_lastTurn_1 kf_X3_21 hQ rfl ?_
  refine ks_if_ne hκ 4 12 dX3_lastTurn_4 rfl (fun c4 => ?_) (fun c4 => ?_)
  · skip
    have c4 := mt (ks_eq0 (by omega)).mpr c4
    obtain ⟨p, hp⟩ := kget (L := P) (i := P.length - 1) (by omega)
    obtain ⟨e1, -, -⟩ := hPE (P.length - 1) p.1 p.2.1 p.2.2 hp
    refine ks_aload_n hκ 12 0 dX3_lastTurn_12 rfl ?_
    refine ks_get hκ 13 dX3_lastTurn_13 kf_X3_9 hQ rfl ?_
    refine ks_aload_n hκ 16 0 dX3_lastTurn_16 rfl ?_
    refine ks_get hκ 17 dX3_lastTurn_17 kf_X3_21 hQ rfl ?_
    refine ks_iconst hκ 20 (nI 1) dX3_lastTurn_20 kq_i1 ?_
    refine ks_isubN hκ 21 dX3_lastTurn_21 (by omega) ?_
    refine ks_iald hκ 22 ((P.length - 1)) dX3_lastTurn_22 hT rfl (by omega) (by decide) ?_
    refine ks_iret hκ 23 hRt dX3_lastTurn_23 (by decide) (by decide) rfl ?_
    refine ⟨?_, rfl⟩
    first | (rw [hnil]; rfl) | (unfold kLast; rw [List.getLast?_eq_getElem?, hp, e1])
  · skip
    have c4 := (ks_eq0 (by omega)).mp c4
    have hnil : P = [] := List.eq_nil_of_length_eq_zero c4
    refine ks_bipush hκ 7 (-6) dX3_lastTurn_7 kq_bm6 ?_
    refine ks_goto hκ 9 23 dX3_lastTurn_9 rfl ?_
    refine ks_iret hκ 23 hRt dX3_lastTurn_23 (by decide) (by decide) rfl ?_
    refine ⟨?_, rfl⟩
    first | (rw [hnil]; rfl) | (unfold kLast; rw [List.getLast?_eq_getElem?, hp, e1])
set_option maxRecDepth 100000 in
set_option maxHeartbeats 4000000 in
theorem c_Plans_insert {g : ks_G} {h : ks_H} {q k : Nat} {tu b : Int32} {P : List kP} (hplans : kPlans g h q P) (hlt : P.length < 16) (hk : k < 6) : ks_Met g (yX3_insert, cX3_insert, 5, none) 1 0 0 [ks_ref g q, .int tu, .int (nI k), .int b] h (ks_Pv (fun h' => kPlans g h' q (kIns P (tu, k, b)) ∧ ks_Fr h h' q (q + 4))) := by
  obtain ⟨T, K, B, hQ, hT, hK, hB, hPE, hn, hkb⟩ := hplans
  refine ks_intro (by decide) (Nat.le_of_ble_eq_true rfl) (fun κ hκ hRt => ?_)
  refine ks_cv (ls := [(0, ks_ref g q), (1, .int tu), (2, .int (nI k)), (3, .int b)]) ?_ rfl rfl rfl
  have hF : ks_Fr h h q (q + 4) := ks_Fr.rf
  refine ks_aload_n hκ 0 0 dX3_insert_0 rfl ?_
  refine ks_get hκ 1 dX3_insert_1 kf_X3_21 hQ rfl ?_
  refine ks_bipush hκ 4 (nI 16) dX3_insert_4 kq_b16 ?_
  refine ks_icmp_lt hκ 6 10 dX3_insert_6 rfl (fun c6 => ?_) (fun c6 => ?_)
  · skip
    have c6 := (nI_ltI (by omega) (by omega)).mp c6
    refine ks_aload_n hκ 10 0 dX3_insert_10 rfl ?_
    refine ks_get hκ 11 dX3_insert_11 kf_X3_21 hQ rfl ?_
    refine ks_istore hκ 14 4 [(4, _), (0, _), (1, _), (2, _), (3, _)] dX3_insert_14 (by decide) rfl ?_
    have L16 : ∀ (fuel : Nat) (vc : Nat) (T1 K1 B1 : Nat → Int32) (hh : ks_H) (hQ : hh[q]? = some (ks_O 3 [ks_ref g (q + 1), ks_ref g (q + 2), ks_ref g (q + 3), .int (nI P.length)])) (hT : hh[q + 1]? = some (ks_I g 16 T1)) (hK : hh[q + 2]? = some (ks_I g 16 K1)) (hB : hh[q + 3]? = some (ks_I g 16 B1)) (hF : ks_Fr h hh q (q + 4)) (hc : vc ≤ P.length) (hup : kPUp T1 K1 B1 P vc) (hinv : kPlc P tu k vc = kPlc P tu k P.length) (hfuel : vc < fuel), ks_K κ g 5 hh 0 0 16 [(0, ks_ref g q), (1, .int tu), (2, .int (nI k)), (3, .int b), (4, .int (nI vc))] [] := by
      intro fuel
      induction fuel with
      | zero => intro vc T1 K1 B1 hh hQ hT hK hB hF hc hup hinv hfuel; exact absurd hfuel (Nat.not_lt_zero _)
      | succ fuel ih =>
        intro vc T1 K1 B1 hh hQ hT hK hB hF hc hup hinv hfuel
        refine ks_iload hκ 16 4 dX3_insert_16 rfl ?_
        refine ks_if_le hκ 18 50 dX3_insert_18 rfl (fun c18 => ?_) (fun c18 => ?_)
        · skip
          have c18 := (ks_le0 (by omega)).mp c18
          have hfin : kPlc P tu k P.length = vc := by rw [← hinv, c18]; rfl
          refine ks_aload_n hκ 50 0 dX3_insert_50 rfl ?_
          refine ks_get hκ 51 dX3_insert_51 kf_X3_9 hQ rfl ?_
          refine ks_iload hκ 54 4 dX3_insert_54 rfl ?_
          refine ks_iload_n hκ 56 1 dX3_insert_56 rfl ?_
          refine ks_iast hκ 57 (vc) dX3_insert_57 hT rfl (by omega) (by decide) ?_
          refine ks_gen (fun xh1 exh1 => ?_)
          replace hQ := ks_gn exh1 (ks_nb (b := q) (i := 1) (j := 0) rfl) hQ
          replace hT := ks_gs exh1 hT
          replace hK := ks_gn exh1 (ks_nb (b := q) (i := 1) (j := 2) rfl) hK
          replace hB := ks_gn exh1 (ks_nb (b := q) (i := 1) (j := 3) rfl) hB
          replace hF := ks_Fr.st hF exh1 (by omega) (by omega)
          clear exh1
          refine ks_aload_n hκ 58 0 dX3_insert_58 rfl ?_
          refine ks_get hκ 59 dX3_insert_59 kf_X3_15 hQ rfl ?_
          refine ks_iload hκ 62 4 dX3_insert_62 rfl ?_
          refine ks_iload_n hκ 64 2 dX3_insert_64 rfl ?_
          refine ks_iast hκ 65 (vc) dX3_insert_65 hK rfl (by omega) (by decide) ?_
          refine ks_gen (fun xh2 exh2 => ?_)
          replace hQ := ks_gn exh2 (ks_nb (b := q) (i := 2) (j := 0) rfl) hQ
          replace hT := ks_gn exh2 (ks_nb (b := q) (i := 2) (j := 1) rfl) hT
          replace hK := ks_gs exh2 hK
          replace hB := ks_gn exh2 (ks_nb (b := q) (i := 2) (j := 3) rfl) hB
          replace hF := ks_Fr.st hF exh2 (by omega) (by omega)
          clear exh2
          refine ks_aload_n hκ 66 0 dX3_insert_66 rfl ?_
          refine ks_get hκ 67 dX3_insert_67 kf_X3_18 hQ rfl ?_
          refine ks_iload hκ 70 4 dX3_insert_70 rfl ?_
          refine ks_iload_n hκ 72 3 dX3_insert_72 rfl ?_
          refine ks_iast hκ 73 (vc) dX3_insert_73 hB rfl (by omega) (by decide) ?_
          refine ks_gen (fun xh3 exh3 => ?_)
          replace hQ := ks_gn exh3 (ks_nb (b := q) (i := 3) (j := 0) rfl) hQ
          replace hT := ks_gn exh3 (ks_nb (b := q) (i := 3) (j := 1) rfl) hT
          replace hK := ks_gn exh3 (ks_nb (b := q) (i := 3) (j := 2) rfl) hK
          replace hB := ks_gs exh3 hB
          replace hF := ks_Fr.st hF exh3 (by omega) (by omega)
          clear exh3
          refine ks_aload_n hκ 74 0 dX3_insert_74 rfl ?_
          refine ks_dup hκ 75 dX3_insert_75 rfl ?_
          refine ks_get hκ 76 dX3_insert_76 kf_X3_21 hQ rfl ?_
          refine ks_iconst hκ 79 (nI 1) dX3_insert_79 kq_i1 ?_
          refine ks_iaddN hκ 80 dX3_insert_80 ?_
          refine ks_putS hκ 81 [_, _, _, _] dX3_insert_81 kf_X3_21 hQ rfl rfl (Nat.le_of_ble_eq_true rfl) rfl ?_
          refine ks_gen (fun xh4 exh4 => ?_)
          replace hQ := ks_gs exh4 hQ
          replace hT := ks_gn exh4 (ks_nb (b := q) (i := 0) (j := 1) rfl) hT
          replace hK := ks_gn exh4 (ks_nb (b := q) (i := 0) (j := 2) rfl) hK
          replace hB := ks_gn exh4 (ks_nb (b := q) (i := 0) (j := 3) rfl) hB
          replace hF := ks_Fr.st hF exh4 (by omega) (by omega)
          clear exh4
          refine ks_vret hκ 84 hRt dX3_insert_84 (by decide) (by decide) ?_
          refine ⟨rfl, ⟨_, _, _, by rw [kIns_len]; exact hQ, hT, hK, hB, ?_, by rw [kIns_len]; omega, fun p hp => ?_⟩, hF⟩
          · unfold kIns
            simp only [hfin]
            exact kPUp.fin hup (by omega) tu k b
          · rcases kIns_mem hp with rfl | hp
            · exact hk
            · exact hkb p hp
        · skip
          have c18 := mt (ks_le0 (by omega)).mpr c18
          obtain ⟨vj, rfl⟩ : ∃ vj, vc = vj + 1 := ⟨vc - 1, by omega⟩
          obtain ⟨p, hp⟩ := kget (L := P) (i := vj) (by omega)
          obtain ⟨e1, e2, e3⟩ := (hup vj p.1 p.2.1 p.2.2 hp).1 (by omega)
          refine ks_aload_n hκ 21 0 dX3_insert_21 rfl ?_
          refine ks_iload hκ 22 4 dX3_insert_22 rfl ?_
          refine ks_iconst hκ 24 (nI 1) dX3_insert_24 kq_i1 ?_
          refine ks_isubN hκ 25 dX3_insert_25 (by omega) ?_
          refine ks_top (nI vj) (by rw [Nat.add_sub_cancel]) ?_
          refine ks_iload_n hκ 26 1 dX3_insert_26 rfl ?_
          refine ks_iload_n hκ 27 2 dX3_insert_27 rfl ?_
          refine ks_pureV3 hκ 28 dX3_insert_28 kc_X3_31 (c_Plans_isLater hQ hT hK hB (by omega)) hQ rfl (by decide) (Nat.le_of_ble_eq_true rfl) (by decide) (by decide) ?_
          refine ks_if_eq hκ 31 50 dX3_insert_31 rfl (fun c31 => ?_) (fun c31 => ?_)
          · skip
            have hfin : kPlc P tu k P.length = vj + 1 := by rw [← hinv, kPlc_s hp, if_pos (by rw [← e1, ← e2]; exact c31)]
            refine ks_aload_n hκ 50 0 dX3_insert_50 rfl ?_
            refine ks_get hκ 51 dX3_insert_51 kf_X3_9 hQ rfl ?_
            refine ks_iload hκ 54 4 dX3_insert_54 rfl ?_
            refine ks_iload_n hκ 56 1 dX3_insert_56 rfl ?_
            refine ks_iast hκ 57 ((vj + 1)) dX3_insert_57 hT rfl (by omega) (by decide) ?_
            refine ks_gen (fun xh5 exh5 => ?_)
            replace hQ := ks_gn exh5 (ks_nb (b := q) (i := 1) (j := 0) rfl) hQ
            replace hT := ks_gs exh5 hT
            replace hK := ks_gn exh5 (ks_nb (b := q) (i := 1) (j := 2) rfl) hK
            replace hB := ks_gn exh5 (ks_nb (b := q) (i := 1) (j := 3) rfl) hB
            replace hF := ks_Fr.st hF exh5 (by omega) (by omega)
            clear exh5
            refine ks_aload_n hκ 58 0 dX3_insert_58 rfl ?_
            refine ks_get hκ 59 dX3_insert_59 kf_X3_15 hQ rfl ?_
            refine ks_iload hκ 62 4 dX3_insert_62 rfl ?_
            refine ks_iload_n hκ 64 2 dX3_insert_64 rfl ?_
            refine ks_iast hκ 65 ((vj + 1)) dX3_insert_65 hK rfl (by omega) (by decide) ?_
            refine ks_gen (fun xh6 exh6 => ?_)
            replace hQ := ks_gn exh6 (ks_nb (b := q) (i := 2) (j := 0) rfl) hQ
            replace hT := ks_gn exh6 (ks_nb (b := q) (i := 2) (j := 1) rfl) hT
            replace hK := ks_gs exh6 hK
            replace hB := ks_gn exh6 (ks_nb (b := q) (i := 2) (j := 3) rfl) hB
            replace hF := ks_Fr.st hF exh6 (by omega) (by omega)
            clear exh6
            refine ks_aload_n hκ 66 0 dX3_insert_66 rfl ?_
            refine ks_get hκ 67 dX3_insert_67 kf_X3_18 hQ rfl ?_
            refine ks_iload hκ 70 4 dX3_insert_70 rfl ?_
            refine ks_iload_n hκ 72 3 dX3_insert_72 rfl ?_
            refine ks_iast hκ 73 ((vj + 1)) dX3_insert_73 hB rfl (by omega) (by decide) ?_
            refine ks_gen (fun xh7 exh7 => ?_)
            replace hQ := ks_gn exh7 (ks_nb (b := q) (i := 3) (j := 0) rfl) hQ
            replace hT := ks_gn exh7 (ks_nb (b := q) (i := 3) (j := 1) rfl) hT
            replace hK := ks_gn exh7 (ks_nb (b := q) (i := 3) (j := 2) rfl) hK
            replace hB := ks_gs exh7 hB
            replace hF := ks_Fr.st hF exh7 (by omega) (by omega)
            clear exh7
            refine ks_aload_n hκ 74 0 dX3_insert_74 rfl ?_
            refine ks_dup hκ 75 dX3_insert_75 rfl ?_
            refine ks_get hκ 76 dX3_insert_76 kf_X3_21 hQ rfl ?_
            refine ks_iconst hκ 79 (nI 1) dX3_insert_79 kq_i1 ?_
            refine ks_iaddN hκ 80 dX3_insert_80 ?_
            refine ks_putS hκ 81 [_, _, _, _] dX3_insert_81 kf_X3_21 hQ rfl rfl (Nat.le_of_ble_eq_true rfl) rfl ?_
            refine ks_gen (fun xh8 exh8 => ?_)
            replace hQ := ks_gs exh8 hQ
            replace hT := ks_gn exh8 (ks_nb (b := q) (i := 0) (j := 1) rfl) hT
            replace hK := ks_gn exh8 (ks_nb (b := q) (i := 0) (j := 2) rfl) hK
            replace hB := ks_gn exh8 (ks_nb (b := q) (i := 0) (j := 3) rfl) hB
            replace hF := ks_Fr.st hF exh8 (by omega) (by omega)
            clear exh8
            refine ks_vret hκ 84 hRt dX3_insert_84 (by decide) (by decide) ?_
            refine ⟨rfl, ⟨_, _, _, by rw [kIns_len]; exact hQ, hT, hK, hB, ?_, by rw [kIns_len]; omega, fun p hp => ?_⟩, hF⟩
            · unfold kIns
              simp only [hfin]
              exact kPUp.fin hup (by omega) tu k b
            · rcases kIns_mem hp with rfl | hp
              · exact hk
              · exact hkb p hp
          · skip
            have hlat : ¬ kLat p.1 (nI p.2.1) tu (nI k) = 0 := by rw [← e1, ← e2]; exact c31
            refine ks_aload_n hκ 34 0 dX3_insert_34 rfl ?_
            refine ks_iload hκ 35 4 dX3_insert_35 rfl ?_
            refine ks_iconst hκ 37 (nI 1) dX3_insert_37 kq_i1 ?_
            refine ks_isubN hκ 38 dX3_insert_38 (by omega) ?_
            refine ks_top (nI vj) (by rw [Nat.add_sub_cancel]) ?_
            refine ks_iload hκ 39 4 dX3_insert_39 rfl ?_
            refine ks_voidV2 hκ 41 dX3_insert_41 kc_X3_35 (c_Plans_move hQ hT hK hB (by omega) (by omega)) hQ rfl (by decide) (Nat.le_of_ble_eq_true rfl) (by decide) (by decide) (fun xh9 hp41 => ?_)
            obtain ⟨hQ, hT, hK, hB, hF1⟩ := hp41
            have hF := hF.tr hF1
            refine ks_iinc hκ 44 4 4 (nI ((vj + 1) - 1)) [(4, _), (0, _), (1, _), (2, _), (3, _)] dX3_insert_44 rfl (ks_dec1 (by omega)) (by decide) rfl ?_
            refine ks_goto hκ 47 16 dX3_insert_47 rfl ?_
            refine ks_pick [1, 2, 3, 4, 0] [(0, _), (1, _), (2, _), (3, _), (4, _)] rfl ?_
            exact ks_cv (ih _ _ _ _ xh9 hQ hT hK hB hF (by omega) hup.step (by rw [← hinv, kPlc_s hp, if_neg hlat]) (by omega)) rfl rfl rfl
    refine ks_pick [1, 2, 3, 4, 0] [(0, _), (1, _), (2, _), (3, _), (4, _)] rfl ?_
    exact ks_cv (L16 _ P.length _ _ _ h hQ hT hK hB hF (Nat.le_refl _) (kPUp.start hPE) rfl (Nat.lt_succ_self _)) rfl rfl rfl
  · exfalso
    have c6 := mt (nI_ltI (by omega) (by omega)).mpr c6
    exact c6 hlt
set_option maxRecDepth 100000 in
set_option maxHeartbeats 4000000 in
theorem c_Plans_removeFirst {g : ks_G} {h : ks_H} {q : Nat} {p0 : kP} {P : List kP} (hplans : kPlans g h q (p0 :: P)) : ks_Met g (yX3_removeFirst, cX3_removeFirst, 2, none) 1 0 0 [ks_ref g q] h (ks_Pv (fun h' => kPlans g h' q P ∧ ks_Fr h h' q (q + 4))) := by
  obtain ⟨T, K, B, hQ, hT, hK, hB, hPE, hn, hkb⟩ := hplans
  rw [List.length_cons] at hQ hn
  refine ks_intro (by decide) (Nat.le_of_ble_eq_true rfl) (fun κ hκ hRt => ?_)
  refine ks_cv (ls := [(0, ks_ref g q)]) ?_ rfl rfl rfl
  have hF : ks_Fr h h q (q + 4) := ks_Fr.rf
  refine ks_aload_n hκ 0 0 dX3_removeFirst_0 rfl ?_
  refine ks_get hκ 1 dX3_removeFirst_1 kf_X3_21 hQ rfl ?_
  refine ks_if_ne hκ 4 8 dX3_removeFirst_4 rfl (fun c4 => ?_) (fun c4 => ?_)
  · skip
    have c4 := mt (ks_eq0 (by omega)).mpr c4
    refine ks_iconst hκ 8 (nI 1) dX3_removeFirst_8 kq_i1 ?_
    refine ks_istore_n hκ 9 1 [(1, _), (0, _)] dX3_removeFirst_9 rfl (by decide) rfl ?_
    have L10 : ∀ (fuel : Nat) (c : Nat) (T1 K1 B1 : Nat → Int32) (hh : ks_H) (hQ : hh[q]? = some (ks_O 3 [ks_ref g (q + 1), ks_ref g (q + 2), ks_ref g (q + 3), .int (nI (P.length + 1))])) (hT : hh[q + 1]? = some (ks_I g 16 T1)) (hK : hh[q + 2]? = some (ks_I g 16 K1)) (hB : hh[q + 3]? = some (ks_I g 16 B1)) (hF : ks_Fr h hh q (q + 4)) (hc : c ≤ P.length) (hdn : kPDn T1 K1 B1 P c) (hfuel : P.length - c < fuel), ks_K κ g 2 hh 0 0 10 [(0, ks_ref g q), (1, .int (nI (c + 1)))] [] := by
      intro fuel
      induction fuel with
      | zero => intro c T1 K1 B1 hh hQ hT hK hB hF hc hdn hfuel; exact absurd hfuel (Nat.not_lt_zero _)
      | succ fuel ih =>
        intro c T1 K1 B1 hh hQ hT hK hB hF hc hdn hfuel
        refine ks_iload_n hκ 10 1 dX3_removeFirst_10 rfl ?_
        refine ks_aload_n hκ 11 0 dX3_removeFirst_11 rfl ?_
        refine ks_get hκ 12 dX3_removeFirst_12 kf_X3_21 hQ rfl ?_
        refine ks_icmp_ge hκ 15 32 dX3_removeFirst_15 rfl (fun c15 => ?_) (fun c15 => ?_)
        · skip
          have c15 := (nI_leI (by omega) (by omega)).mp c15
          have hcn : c = P.length := by omega
          refine ks_aload_n hκ 32 0 dX3_removeFirst_32 rfl ?_
          refine ks_dup hκ 33 dX3_removeFirst_33 rfl ?_
          refine ks_get hκ 34 dX3_removeFirst_34 kf_X3_21 hQ rfl ?_
          refine ks_iconst hκ 37 (nI 1) dX3_removeFirst_37 kq_i1 ?_
          refine ks_isubN hκ 38 dX3_removeFirst_38 (by omega) ?_
          refine ks_putS hκ 39 [_, _, _, _] dX3_removeFirst_39 kf_X3_21 hQ rfl rfl (Nat.le_of_ble_eq_true rfl) rfl ?_
          refine ks_gen (fun xh1 exh1 => ?_)
          replace hQ := ks_gs exh1 hQ
          replace hT := ks_gn exh1 (ks_nb (b := q) (i := 0) (j := 1) rfl) hT
          replace hK := ks_gn exh1 (ks_nb (b := q) (i := 0) (j := 2) rfl) hK
          replace hB := ks_gn exh1 (ks_nb (b := q) (i := 0) (j := 3) rfl) hB
          replace hF := ks_Fr.st hF exh1 (by omega) (by omega)
          clear exh1
          refine ks_vret hκ 42 hRt dX3_removeFirst_42 (by decide) (by decide) ?_
          refine ⟨rfl, ⟨_, _, _, hQ, hT, hK, hB, fun i t k b hi => (hdn i t k b hi).1 (by have := (List.getElem?_eq_some_iff.mp hi).1; omega), by omega, fun p hp => hkb p (List.mem_cons_of_mem _ hp)⟩, hF⟩
        · skip
          have c15 := mt (nI_leI (by omega) (by omega)).mpr c15
          refine ks_aload_n hκ 18 0 dX3_removeFirst_18 rfl ?_
          refine ks_iload_n hκ 19 1 dX3_removeFirst_19 rfl ?_
          refine ks_iload_n hκ 20 1 dX3_removeFirst_20 rfl ?_
          refine ks_iconst hκ 21 (nI 1) dX3_removeFirst_21 kq_i1 ?_
          refine ks_isubN hκ 22 dX3_removeFirst_22 (by omega) ?_
          refine ks_top (nI c) (by rw [Nat.add_sub_cancel]) ?_
          refine ks_voidV2 hκ 23 dX3_removeFirst_23 kc_X3_35 (c_Plans_move hQ hT hK hB (by omega) (by omega)) hQ rfl (by decide) (Nat.le_of_ble_eq_true rfl) (by decide) (by decide) (fun xh2 hp23 => ?_)
          obtain ⟨hQ, hT, hK, hB, hF1⟩ := hp23
          have hF := hF.tr hF1
          refine ks_iinc hκ 26 1 1 (nI ((c + 1) + 1)) [(1, _), (0, _)] dX3_removeFirst_26 rfl (ks_inc1 _) (by decide) rfl ?_
          refine ks_goto hκ 29 10 dX3_removeFirst_29 rfl ?_
          refine ks_pick [1, 0] [(0, _), (1, _)] rfl ?_
          exact ks_cv (ih (c + 1) _ _ _ xh2 hQ hT hK hB hF (by omega) hdn.step (by omega)) rfl rfl rfl
    refine ks_pick [1, 0] [(0, _), (1, _)] rfl ?_
    exact ks_cv (L10 _ 0 _ _ _ h hQ hT hK hB hF (Nat.zero_le _) (kPDn.start hPE) (Nat.lt_succ_self _)) rfl rfl rfl
  · exfalso
    have c4 := (ks_eq0 (by omega)).mp c4
    omega
set_option maxRecDepth 100000 in
set_option maxHeartbeats 4000000 in
theorem c_Plans_copyFrom {g : ks_G} {h : ks_H} {q z : Nat} {P P2 : List kP} (hplans : kPlans g h q P) (hother : kPlans g h z P2) (hap : q + 4 ≤ z ∨ z + 4 ≤ q) : ks_Met g (yX3_copyFrom, cX3_copyFrom, 2, none) 1 0 0 [ks_ref g q, ks_ref g z] h (ks_Pv (fun h' => kPlans g h' q P2 ∧ ks_Fr h h' q (q + 4))) := by
  obtain ⟨T, K, B, hQ, hT, hK, hB, hPE, hn, hkb⟩ := hplans
  obtain ⟨T2, K2, B2, hQ2, hT2, hK2, hB2, hPE2, hn2, hkb2⟩ := hother
  refine ks_intro (by decide) (Nat.le_of_ble_eq_true rfl) (fun κ hκ hRt => ?_)
  refine ks_cv (ls := [(0, ks_ref g q), (1, ks_ref g z)]) ?_ rfl rfl rfl
  have hF : ks_Fr h h q (q + 4) := ks_Fr.rf
  refine ks_aload_n hκ 0 0 dX3_copyFrom_0 rfl ?_
  refine ks_aload_n hκ 1 1 dX3_copyFrom_1 rfl ?_
  refine ks_get hκ 2 dX3_copyFrom_2 kf_X3_21 hQ2 rfl ?_
  refine ks_putS hκ 5 [_, _, _, _] dX3_copyFrom_5 kf_X3_21 hQ rfl rfl (Nat.le_of_ble_eq_true rfl) rfl ?_
  refine ks_gen (fun xh1 exh1 => ?_)
  replace hQ := ks_gs exh1 hQ
  replace hT := ks_gn exh1 (ks_nb (b := q) (i := 0) (j := 1) rfl) hT
  replace hK := ks_gn exh1 (ks_nb (b := q) (i := 0) (j := 2) rfl) hK
  replace hB := ks_gn exh1 (ks_nb (b := q) (i := 0) (j := 3) rfl) hB
  replace hQ2 := ks_gn exh1 (by omega) hQ2
  replace hT2 := ks_gn exh1 (by omega) hT2
  replace hK2 := ks_gn exh1 (by omega) hK2
  replace hB2 := ks_gn exh1 (by omega) hB2
  replace hF := ks_Fr.st hF exh1 (by omega) (by omega)
  clear exh1
  refine ks_aload_n hκ 8 1 dX3_copyFrom_8 rfl ?_
  refine ks_get hκ 9 dX3_copyFrom_9 kf_X3_9 hQ2 rfl ?_
  refine ks_iconst hκ 12 (nI 0) dX3_copyFrom_12 kq_i0 ?_
  refine ks_aload_n hκ 13 0 dX3_copyFrom_13 rfl ?_
  refine ks_get hκ 14 dX3_copyFrom_14 kf_X3_9 hQ rfl ?_
  refine ks_iconst hκ 17 (nI 0) dX3_copyFrom_17 kq_i0 ?_
  refine ks_aload_n hκ 18 0 dX3_copyFrom_18 rfl ?_
  refine ks_get hκ 19 dX3_copyFrom_19 kf_X3_21 hQ rfl ?_
  refine ks_acopy hκ 22 (P2.length) dX3_copyFrom_22 kj_X3_25 ku_cn ku_cs ku_ci (by decide) (Nat.le_of_ble_eq_true rfl) hT2 hT rfl rfl rfl (by omega) (by omega) (by omega) ?_
  refine ks_gen (fun xh2 exh2 => ?_)
  replace hQ := ks_gn exh2 (ks_nb (b := q) (i := 1) (j := 0) rfl) hQ
  replace hT := ks_gs exh2 hT
  replace hK := ks_gn exh2 (ks_nb (b := q) (i := 1) (j := 2) rfl) hK
  replace hB := ks_gn exh2 (ks_nb (b := q) (i := 1) (j := 3) rfl) hB
  replace hQ2 := ks_gn exh2 (by omega) hQ2
  replace hT2 := ks_gn exh2 (by omega) hT2
  replace hK2 := ks_gn exh2 (by omega) hK2
  replace hB2 := ks_gn exh2 (by omega) hB2
  replace hF := ks_Fr.st hF exh2 (by omega) (by omega)
  clear exh2
  refine ks_aload_n hκ 25 1 dX3_copyFrom_25 rfl ?_
  refine ks_get hκ 26 dX3_copyFrom_26 kf_X3_15 hQ2 rfl ?_
  refine ks_iconst hκ 29 (nI 0) dX3_copyFrom_29 kq_i0 ?_
  refine ks_aload_n hκ 30 0 dX3_copyFrom_30 rfl ?_
  refine ks_get hκ 31 dX3_copyFrom_31 kf_X3_15 hQ rfl ?_
  refine ks_iconst hκ 34 (nI 0) dX3_copyFrom_34 kq_i0 ?_
  refine ks_aload_n hκ 35 0 dX3_copyFrom_35 rfl ?_
  refine ks_get hκ 36 dX3_copyFrom_36 kf_X3_21 hQ rfl ?_
  refine ks_acopy hκ 39 (P2.length) dX3_copyFrom_39 kj_X3_25 ku_cn ku_cs ku_ci (by decide) (Nat.le_of_ble_eq_true rfl) hK2 hK rfl rfl rfl (by omega) (by omega) (by omega) ?_
  refine ks_gen (fun xh3 exh3 => ?_)
  replace hQ := ks_gn exh3 (ks_nb (b := q) (i := 2) (j := 0) rfl) hQ
  replace hT := ks_gn exh3 (ks_nb (b := q) (i := 2) (j := 1) rfl) hT
  replace hK := ks_gs exh3 hK
  replace hB := ks_gn exh3 (ks_nb (b := q) (i := 2) (j := 3) rfl) hB
  replace hQ2 := ks_gn exh3 (by omega) hQ2
  replace hT2 := ks_gn exh3 (by omega) hT2
  replace hK2 := ks_gn exh3 (by omega) hK2
  replace hB2 := ks_gn exh3 (by omega) hB2
  replace hF := ks_Fr.st hF exh3 (by omega) (by omega)
  clear exh3
  refine ks_aload_n hκ 42 1 dX3_copyFrom_42 rfl ?_
  refine ks_get hκ 43 dX3_copyFrom_43 kf_X3_18 hQ2 rfl ?_
  refine ks_iconst hκ 46 (nI 0) dX3_copyFrom_46 kq_i0 ?_
  refine ks_aload_n hκ 47 0 dX3_copyFrom_47 rfl ?_
  refine ks_get hκ 48 dX3_copyFrom_48 kf_X3_18 hQ rfl ?_
  refine ks_iconst hκ 51 (nI 0) dX3_copyFrom_51 kq_i0 ?_
  refine ks_aload_n hκ 52 0 dX3_copyFrom_52 rfl ?_
  refine ks_get hκ 53 dX3_copyFrom_53 kf_X3_21 hQ rfl ?_
  refine ks_acopy hκ 56 (P2.length) dX3_copyFrom_56 kj_X3_25 ku_cn ku_cs ku_ci (by decide) (Nat.le_of_ble_eq_true rfl) hB2 hB rfl rfl rfl (by omega) (by omega) (by omega) ?_
  refine ks_gen (fun xh4 exh4 => ?_)
  replace hQ := ks_gn exh4 (ks_nb (b := q) (i := 3) (j := 0) rfl) hQ
  replace hT := ks_gn exh4 (ks_nb (b := q) (i := 3) (j := 1) rfl) hT
  replace hK := ks_gn exh4 (ks_nb (b := q) (i := 3) (j := 2) rfl) hK
  replace hB := ks_gs exh4 hB
  replace hQ2 := ks_gn exh4 (by omega) hQ2
  replace hT2 := ks_gn exh4 (by omega) hT2
  replace hK2 := ks_gn exh4 (by omega) hK2
  replace hB2 := ks_gn exh4 (by omega) hB2
  replace hF := ks_Fr.st hF exh4 (by omega) (by omega)
  clear exh4
  refine ks_vret hκ 59 hRt dX3_copyFrom_59 (by decide) (by decide) ?_
  refine ⟨rfl, ⟨_, _, _, hQ, hT, hK, hB, fun i t k b hi => ?_, hn2, hkb2⟩, hF⟩
  have hkl := (List.getElem?_eq_some_iff.mp hi).1
  rw [pk_cpy_in (Nat.zero_le _) (by omega), pk_cpy_in (Nat.zero_le _) (by omega), pk_cpy_in (Nat.zero_le _) (by omega), Nat.sub_zero, Nat.zero_add]
  exact hPE2 i t k b hi
set_option maxRecDepth 100000 in
set_option maxHeartbeats 4000000 in
theorem c_Plans_init {g : ks_G} {h : ks_H} {q : Nat} (hQ : h[q]? = some (ks_O 3 [.null, .null, .null, .int 0])) (hlen : h.length = q + 1) : ks_Met g (yX3_init, cX3_init, 1, none) 1 3 48 [ks_ref g q] h (ks_Pv (fun h' => kPlans g h' q [] ∧ ks_Ex h h' q ∧ h'.length = q + 4)) := by
  refine ks_intro (by decide) (Nat.le_of_ble_eq_true rfl) (fun κ hκ hRt => ?_)
  refine ks_cv (ls := [(0, ks_ref g q)]) ?_ rfl rfl rfl
  have hX : ks_Ex h h q := ks_Ex.rf
  refine ks_aload_n hκ 0 0 dX3_init_0 rfl ?_
  refine ks_objInit hκ 1 dX3_init_1 kj_X3_3 ku_oi ku_oc (by decide) (Nat.le_of_ble_eq_true rfl) ?_
  refine ks_aload_n hκ 4 0 dX3_init_4 rfl ?_
  refine ks_bipush hκ 5 (nI 16) dX3_init_5 kq_b16 ?_
  refine ks_newiB hκ 7 hlen dX3_init_7 (by decide) (by decide) (by decide) (fun xh1 exh1 => ?_)
  replace hQ := ks_gb exh1 hQ
  have hT := ks_ga exh1 hlen
  replace hX := ks_Ex.ps hX exh1 (by omega)
  replace hlen := ks_gl exh1 hlen
  clear exh1
  refine ks_putT hκ 9 [_, _, _, _] dX3_init_9 rfl kf_X3_9 hQ rfl rfl (Nat.le_of_ble_eq_true rfl) rfl ?_
  refine ks_gen (fun xh2 exh2 => ?_)
  replace hQ := ks_gs exh2 hQ
  replace hT := ks_gn exh2 (ks_nb (b := q) (i := 0) (j := 1) rfl) hT
  replace hX := ks_Ex.st hX exh2 (by omega)
  replace hlen := ks_gz exh2 hlen
  clear exh2
  refine ks_aload_n hκ 12 0 dX3_init_12 rfl ?_
  refine ks_bipush hκ 13 (nI 16) dX3_init_13 kq_b16 ?_
  refine ks_newiB hκ 15 hlen dX3_init_15 (by decide) (by decide) (by decide) (fun xh3 exh3 => ?_)
  replace hQ := ks_gb exh3 hQ
  replace hT := ks_gb exh3 hT
  have hK := ks_ga exh3 hlen
  replace hX := ks_Ex.ps hX exh3 (by omega)
  replace hlen := ks_gl exh3 hlen
  clear exh3
  refine ks_putT hκ 17 [_, _, _, _] dX3_init_17 rfl kf_X3_15 hQ rfl rfl (Nat.le_of_ble_eq_true rfl) rfl ?_
  refine ks_gen (fun xh4 exh4 => ?_)
  replace hQ := ks_gs exh4 hQ
  replace hT := ks_gn exh4 (ks_nb (b := q) (i := 0) (j := 1) rfl) hT
  replace hK := ks_gn exh4 (ks_nb (b := q) (i := 0) (j := 2) rfl) hK
  replace hX := ks_Ex.st hX exh4 (by omega)
  replace hlen := ks_gz exh4 hlen
  clear exh4
  refine ks_aload_n hκ 20 0 dX3_init_20 rfl ?_
  refine ks_bipush hκ 21 (nI 16) dX3_init_21 kq_b16 ?_
  refine ks_newiB hκ 23 hlen dX3_init_23 (by decide) (by decide) (by decide) (fun xh5 exh5 => ?_)
  replace hQ := ks_gb exh5 hQ
  replace hT := ks_gb exh5 hT
  replace hK := ks_gb exh5 hK
  have hB := ks_ga exh5 hlen
  replace hX := ks_Ex.ps hX exh5 (by omega)
  replace hlen := ks_gl exh5 hlen
  clear exh5
  refine ks_putT hκ 25 [_, _, _, _] dX3_init_25 rfl kf_X3_18 hQ rfl rfl (Nat.le_of_ble_eq_true rfl) rfl ?_
  refine ks_gen (fun xh6 exh6 => ?_)
  replace hQ := ks_gs exh6 hQ
  replace hT := ks_gn exh6 (ks_nb (b := q) (i := 0) (j := 1) rfl) hT
  replace hK := ks_gn exh6 (ks_nb (b := q) (i := 0) (j := 2) rfl) hK
  replace hB := ks_gn exh6 (ks_nb (b := q) (i := 0) (j := 3) rfl) hB
  replace hX := ks_Ex.st hX exh6 (by omega)
  replace hlen := ks_gz exh6 hlen
  clear exh6
  refine ks_aload_n hκ 28 0 dX3_init_28 rfl ?_
  refine ks_iconst hκ 29 (nI 0) dX3_init_29 kq_i0 ?_
  refine ks_putS hκ 30 [_, _, _, _] dX3_init_30 kf_X3_21 hQ rfl rfl (Nat.le_of_ble_eq_true rfl) rfl ?_
  refine ks_gen (fun xh7 exh7 => ?_)
  replace hQ := ks_gs exh7 hQ
  replace hT := ks_gn exh7 (ks_nb (b := q) (i := 0) (j := 1) rfl) hT
  replace hK := ks_gn exh7 (ks_nb (b := q) (i := 0) (j := 2) rfl) hK
  replace hB := ks_gn exh7 (ks_nb (b := q) (i := 0) (j := 3) rfl) hB
  replace hX := ks_Ex.st hX exh7 (by omega)
  replace hlen := ks_gz exh7 hlen
  clear exh7
  refine ks_vret hκ 33 hRt dX3_init_33 (by decide) (by decide) ?_
  exact ⟨rfl, ⟨_, _, _, hQ, hT, hK, hB, fun i t k b hi => by simp at hi, Nat.zero_le _, fun p hp => by simp at hp⟩, hX, hlen⟩
