/-! STAIRS: settings; turn; kittens; leaps made; plans refused; what each kitten has (0 step, 1 vim, 2 wakes, 3 ball, 4 laid, 5 wound, 6 snipped); strands; plans -/
abbrev kS : Type := (Nat → Int32) × Int32 × Nat × Int32 × Int32 × (Nat → Nat → Int32) × List (Nat × Nat) × List kP
def kStairs (g : ks_G) (h : ks_H) (b : Nat) (σ : kS) : Prop :=
  h[b]? = some (ks_O 4 [ks_ref g (b + 1), .int σ.2.1, .int (nI σ.2.2.1), .int σ.2.2.2.1, .int σ.2.2.2.2.1, ks_ref g (b + 2), ks_ref g (b + 3), ks_ref g (b + 4), ks_ref g (b + 5), ks_ref g (b + 6), ks_ref g (b + 7), ks_ref g (b + 8), ks_ref g (b + 9), ks_ref g (b + 12)]) ∧
  h[b + 1]? = some (ks_I g 4 σ.1) ∧ h[b + 2]? = some (ks_I g 6 (σ.2.2.2.2.2.1 0)) ∧ h[b + 3]? = some (ks_I g 6 (σ.2.2.2.2.2.1 1)) ∧ h[b + 4]? = some (ks_I g 6 (σ.2.2.2.2.2.1 2)) ∧ h[b + 5]? = some (ks_I g 6 (σ.2.2.2.2.2.1 3)) ∧ h[b + 6]? = some (ks_I g 6 (σ.2.2.2.2.2.1 4)) ∧ h[b + 7]? = some (ks_I g 6 (σ.2.2.2.2.2.1 5)) ∧ h[b + 8]? = some (ks_I g 6 (σ.2.2.2.2.2.1 6)) ∧
  kYarn g h (b + 9) σ.2.2.2.2.2.2.1 ∧ kPlans g h (b + 12) σ.2.2.2.2.2.2.2 ∧ σ.2.2.1 ≤ 6
theorem kStairs.fr {g : ks_G} {h h' : ks_H} {b : Nat} {σ : kS} (x : kStairs g h b σ) {lo hi : Nat} (f : ks_Fr h h' lo hi) (z : b + 16 ≤ lo ∨ hi ≤ b) : kStairs g h' b σ := by
  obtain ⟨h0, h1, h2, h3, h4, h5, h6, h7, h8, hy, hp, hk⟩ := x
  exact ⟨f.at h0 (by omega), f.at h1 (by omega), f.at h2 (by omega), f.at h3 (by omega), f.at h4 (by omega), f.at h5 (by omega), f.at h6 (by omega), f.at h7 (by omega), f.at h8 (by omega), hy.fr f (by omega), hp.fr f (by omega), hk⟩
theorem kStairs.ex {g : ks_G} {h h' : ks_H} {b : Nat} {σ : kS} (x : kStairs g h b σ) {lo : Nat} (f : ks_Ex h h' lo) (z : b + 16 ≤ lo) : kStairs g h' b σ := by
  obtain ⟨h0, h1, h2, h3, h4, h5, h6, h7, h8, hy, hp, hk⟩ := x
  exact ⟨(f _ (by omega)).trans h0, (f _ (by omega)).trans h1, (f _ (by omega)).trans h2, (f _ (by omega)).trans h3, (f _ (by omega)).trans h4, (f _ (by omega)).trans h5, (f _ (by omega)).trans h6, (f _ (by omega)).trans h7, (f _ (by omega)).trans h8, hy.ex f (by omega), hp.ex f (by omega), hk⟩
def kHas (ki : Nat) (x : Int32) : Int32 := if x < 0 then nI 0 else if nI ki ≤ x then nI 0 else nI 1
theorem kHas_1 {ki : Nat} {x : Int32} (h : ¬ kHas ki x = 0) (hk : ki ≤ 6) : ∃ j : Nat, j < ki ∧ x = nI j := by
  unfold kHas at h
  by_cases h1 : x < 0
  · rw [if_pos h1] at h; exact absurd rfl h
  · by_cases h2 : nI ki ≤ x
    · rw [if_neg h1, if_pos h2] at h; exact absurd rfl h
    · rcases pk_ix x (n := ki) (by omega) with q | q | ⟨j, q1, q2⟩
      · exact absurd q h1
      · exact absurd q h2
      · exact ⟨j, q1, q2⟩
def kIsE (x : Int32) : Int32 := if x < 0 then nI 0 else if nI 15 ≤ x then nI 0 else nI 1
theorem kIsE_1 {x : Int32} (h : ¬ kIsE x = 0) : ∃ j : Nat, j < 15 ∧ x = nI j := by
  unfold kIsE at h
  by_cases h1 : x < 0
  · rw [if_pos h1] at h; exact absurd rfl h
  · by_cases h2 : nI 15 ≤ x
    · rw [if_neg h1, if_pos h2] at h; exact absurd rfl h
    · rcases pk_ix x (n := 15) (by omega) with q | q | ⟨j, q1, q2⟩
      · exact absurd q h1
      · exact absurd q h2
      · exact ⟨j, q1, q2⟩
def kIsL (x : Int32) : Int32 := if x < -15 then nI 0 else if nI 15 < x then nI 0 else if x = 0 then nI 0 else nI 1
def kCost (x : Int32) : Int32 := if x ≤ 0 then 0 - x else nI 2 * x
def kEdge (s x i : Int32) : Int32 := if x ≤ 0 then s - nI 1 - i else s + i
def kNaps (kf : Nat → Nat → Int32) (j : Nat) : Int32 := if kf 2 j = -6 then nI 0 else nI 1
def kAbs (x : Int32) : Int32 := if 0 ≤ x then x else 0 - x
def kHeldQ (σ : kS) (k : Nat) (t : Int32) (j : Nat) : Bool := decide (j ≠ k) && (decide (σ.1 1 < kAbs (t - σ.2.2.2.2.2.1 0 j)) && (decide (kAbs (σ.2.2.2.2.2.1 0 k - σ.2.2.2.2.2.1 0 j) < kAbs (t - σ.2.2.2.2.2.1 0 j)) && decide (¬ kBes k j σ.2.2.2.2.2.2.1 = 0)))
def kHeld (σ : kS) (k : Nat) (t : Int32) : Bool := (List.range σ.2.2.1).any (kHeldQ σ k t)
theorem any_t {n j : Nat} {f : Nat → Bool} (h : j < n) (hf : f j = true) : (List.range n).any f = true := List.any_eq_true.mpr ⟨j, List.mem_range.mpr h, hf⟩
theorem any_f {n : Nat} {f : Nat → Bool} (h : ∀ j, j < n → f j = false) : (List.range n).any f = false := by
  rw [List.any_eq_false]
  intro x hx
  rw [h x (List.mem_range.mp hx)]
  exact Bool.false_ne_true
/-- the edges between steps s and t, in the order of the leap -/
def kWay (s t : Nat) : List Nat := if s < t then (List.range (t - s)).map (fun i => s + i) else (List.range (s - t)).map (fun i => s - 1 - i)
theorem kWay_len (s t : Nat) : (kWay s t).length = if s < t then t - s else s - t := by
  unfold kWay
  split <;> simp
theorem kWay_at {s t i : Nat} (hi : i < (kWay s t).length) : (kWay s t)[i]? = some (if s < t then s + i else s - 1 - i) := by
  rw [kWay_len] at hi
  unfold kWay
  split
  · rename_i hlt
    rw [if_pos hlt] at hi
    rw [List.getElem?_map, List.getElem?_range hi]; rfl
  · rename_i hlt
    rw [if_neg hlt] at hi
    rw [List.getElem?_map, List.getElem?_range hi]; rfl
theorem kWay_lt {s t e : Nat} (hs : s < 16) (ht : t < 16) (h : e ∈ kWay s t) : e < 15 := by
  unfold kWay at h
  split at h
  · obtain ⟨i, h1, rfl⟩ := List.mem_map.mp h
    have := List.mem_range.mp h1
    omega
  · obtain ⟨i, h1, rfl⟩ := List.mem_map.mp h
    have := List.mem_range.mp h1
    omega
theorem kDiff_pos {s t : Nat} (hs : s < 16) (ht : t < 16) : (nI t - nI s).toInt = (t : Int) - s := pk_sub_toInt (by omega) (by omega)
theorem kDiff_le {s t : Nat} (hs : s < 16) (ht : t < 16) : nI t - nI s ≤ 0 ↔ t ≤ s := by
  rw [Int32.le_iff_toInt_le, kDiff_pos hs ht, Int32.toInt_zero]; omega
theorem kDiff_abs {s t : Nat} (hs : s < 16) (ht : t < 16) : kAbs (nI t - nI s) = nI (kWay s t).length := by
  unfold kAbs
  rw [kWay_len]
  by_cases h : s < t
  · rw [if_pos (by rw [Int32.le_iff_toInt_le, kDiff_pos hs ht, Int32.toInt_zero]; omega), if_pos h, pk_sub (by omega)]
  · rw [if_neg h]
    by_cases h2 : s = t
    · subst h2
      rw [if_pos (by rw [Int32.sub_self]; exact Int32.le_refl _), Int32.sub_self, Nat.sub_self]; rfl
    · rw [if_neg (by rw [Int32.le_iff_toInt_le, kDiff_pos hs ht, Int32.toInt_zero]; omega), ← pk_sub (by omega), Int32.zero_sub, Int32.neg_sub]
theorem kEdge_at {s t i e : Nat} (hs : s < 16) (ht : t < 16) (hi : (kWay s t)[i]? = some e) : kEdge (nI s) (nI t - nI s) (nI i) = nI e := by
  have hl := (List.getElem?_eq_some_iff.mp hi).1
  rw [kWay_at hl] at hi
  rw [kWay_len] at hl
  have he := Option.some.inj hi
  unfold kEdge
  by_cases h : s < t
  · rw [if_neg (by rw [kDiff_le hs ht]; omega), nI_add, ← he, if_pos h]
  · rw [if_neg h] at hl
    rw [if_pos (by rw [kDiff_le hs ht]; omega), pk_sub (by omega), pk_sub (by omega), ← he, if_neg h]
/-- does a ball last: over the edges that are left, with what is left of it -/
def kLst (L : List (Nat × Nat)) (k : Nat) : List Nat → Int32 → Bool
  | [], _ => true
  | e :: es, x => if x + (if kTop e L = some k then nI 1 else -1) < 0 then false else kLst L k es (x + (if kTop e L = some k then nI 1 else -1))
theorem kON_eq {o : Option Nat} {k : Nat} (h : ∀ a, o = some a → a < 6) (hk : k < 6) : kON o = nI k ↔ o = some k := by
  cases o with
  | none => exact ⟨fun q => absurd q (by show ¬ (-6 : Int32) = nI k; exact fun q => absurd (congrArg Int32.toInt q) (by rw [nI_toInt (by omega)]; show ¬ (-6 : Int) = (k : Int); omega)), fun q => by cases q⟩
  | some a =>
    show nI a = nI k ↔ _
    rw [nI_eq (Nat.lt_trans (h a rfl) (by decide)) (by omega)]
    exact ⟨fun q => by rw [q], fun q => Option.some.inj q⟩
theorem kTop_mem0 {e : Nat} : ∀ (L : List (Nat × Nat)) (x : Option Nat) (o : Nat), L.foldl (kTopS e) x = some o → x = some o ∨ (e, o) ∈ L
  | [], x, o, h => Or.inl h
  | p :: l, x, o, h => by
    rw [List.foldl_cons] at h
    rcases kTop_mem0 l _ o h with q | q
    · unfold kTopS at q
      split at q
      · rename_i hp
        right
        have : p = (e, o) := by
          obtain ⟨p1, p2⟩ := p
          simp at hp q
          rw [hp, q]
        rw [this]; exact List.mem_cons_self
      · exact Or.inl q
    · exact Or.inr (List.mem_cons_of_mem _ q)
theorem kTop_mem {e o : Nat} {L : List (Nat × Nat)} (h : kTop e L = some o) : (e, o) ∈ L := (kTop_mem0 L none o h).resolve_left (fun q => by cases q)
theorem kTop_lt {g : ks_G} {h : ks_H} {y e a : Nat} {L : List (Nat × Nat)} (hy : kYarn g h y L) (ht : kTop e L = some a) : a < 6 := by
  obtain ⟨E, O, -, -, -, -, -, hbd⟩ := hy
  exact (hbd _ (kTop_mem ht)).2
/-- why a leap of kitten k by x would be refused -/
def kRef (σ : kS) (k : Nat) (x : Int32) : Int32 :=
  if ¬ kNaps σ.2.2.2.2.2.1 k = 0 then nI 1
  else if σ.2.2.2.2.2.1 0 k + x < 0 then nI 2
  else if nI 16 ≤ σ.2.2.2.2.2.1 0 k + x then nI 2
  else if σ.1 0 < x then nI 3
  else if nI 2 * σ.1 0 < 0 - x then nI 3
  else if σ.2.2.2.2.2.1 1 k < kCost x then nI 4
  else if kHeld σ k (σ.2.2.2.2.2.1 0 k + x) = true then nI 5
  else if kLst σ.2.2.2.2.2.2.1 k (kWay (σ.2.2.2.2.2.1 0 k).toNatClampNeg (σ.2.2.2.2.2.1 0 k + x).toNatClampNeg) (σ.2.2.2.2.2.1 3 k) = true then nI 0 else nI 6
/-- a kitten's step is a step -/
def kSteps (ki : Nat) (kf : Nat → Nat → Int32) : Prop := ∀ k, k < ki → ∃ s, s < 16 ∧ kf 0 k = nI s
theorem kdropR {n i : Nat} (h : i < n) : (List.range n).drop i = i :: (List.range n).drop (i + 1) := kdrop (List.getElem?_range h)
theorem kdropRN {n i : Nat} (h : n ≤ i) : (List.range n).drop i = [] := List.drop_eq_nil_of_le (by rw [List.length_range]; exact h)
set_option maxRecDepth 100000 in
set_option maxHeartbeats 4000000 in
theorem c_isEdge {g : ks_G} {h : ks_H} {x : Int32} : ks_Met g (yX6_isEdge, cX6_isEdge, 1, some .boolean) 0 0 0 [.int x] h (ks_Pi (kIsE x) h) := by
  refine ks_intro (by decide) (Nat.le_of_ble_eq_true rfl) (fun κ hκ hRt => ?_)
  refine ks_cv (ls := [(0, .int x)]) ?_ rfl rfl rfl
  refine ks_iload_n hκ 0 0 dX6_isEdge_0 rfl ?_
  refine ks_if_lt hκ 1 14 dX6_isEdge_1 rfl (fun c1 => ?_) (fun c1 => ?_)
  · skip
    refine ks_iconst hκ 14 (nI 0) dX6_isEdge_14 kq_i0 ?_
    refine ks_iret hκ 15 hRt dX6_isEdge_15 (by decide) (by decide) (by decide) ?_
    refine ⟨?_, rfl⟩
    unfold kIsE
    first | rw [if_pos c1] | rw [if_neg c1, if_pos c7] | rw [if_neg c1, if_neg c7]
  · skip
    refine ks_iload_n hκ 4 0 dX6_isEdge_4 rfl ?_
    refine ks_bipush hκ 5 (nI 15) dX6_isEdge_5 kq_b15 ?_
    refine ks_icmp_ge hκ 7 14 dX6_isEdge_7 rfl (fun c7 => ?_) (fun c7 => ?_)
    · skip
      refine ks_iconst hκ 14 (nI 0) dX6_isEdge_14 kq_i0 ?_
      refine ks_iret hκ 15 hRt dX6_isEdge_15 (by decide) (by decide) (by decide) ?_
      refine ⟨?_, rfl⟩
      unfold kIsE
      first | rw [if_pos c1] | rw [if_neg c1, if_pos c7] | rw [if_neg c1, if_neg c7]
    · skip
      refine ks_iconst hκ 10 (nI 1) dX6_isEdge_10 kq_i1 ?_
      refine ks_goto hκ 11 15 dX6_isEdge_11 rfl ?_
      refine ks_iret hκ 15 hRt dX6_isEdge_15 (by decide) (by decide) (by decide) ?_
      refine ⟨?_, rfl⟩
      unfold kIsE
      first | rw [if_pos c1] | rw [if_neg c1, if_pos c7] | rw [if_neg c1, if_neg c7]
set_option maxRecDepth 100000 in
set_option maxHeartbeats 4000000 in
theorem c_isLeap {g : ks_G} {h : ks_H} {x : Int32} : ks_Met g (yX6_isLeap, cX6_isLeap, 1, some .boolean) 0 0 0 [.int x] h (ks_Pi (kIsL x) h) := by
  refine ks_intro (by decide) (Nat.le_of_ble_eq_true rfl) (fun κ hκ hRt => ?_)
  refine ks_cv (ls := [(0, .int x)]) ?_ rfl rfl rfl
  refine ks_iload_n hκ 0 0 dX6_isLeap_0 rfl ?_
  refine ks_bipush hκ 1 (-15) dX6_isLeap_1 kq_bm15 ?_
  refine ks_icmp_lt hκ 3 20 dX6_isLeap_3 rfl (fun c3 => ?_) (fun c3 => ?_)
  · skip
    refine ks_iconst hκ 20 (nI 0) dX6_isLeap_20 kq_i0 ?_
    refine ks_iret hκ 21 hRt dX6_isLeap_21 (by decide) (by decide) (by decide) ?_
    refine ⟨?_, rfl⟩
    unfold kIsL
    first | rw [if_pos c3] | rw [if_neg c3, if_pos c9] | rw [if_neg c3, if_neg c9, if_pos c13] | rw [if_neg c3, if_neg c9, if_neg c13]
  · skip
    refine ks_iload_n hκ 6 0 dX6_isLeap_6 rfl ?_
    refine ks_bipush hκ 7 (nI 15) dX6_isLeap_7 kq_b15 ?_
    refine ks_icmp_gt hκ 9 20 dX6_isLeap_9 rfl (fun c9 => ?_) (fun c9 => ?_)
    · skip
      refine ks_iconst hκ 20 (nI 0) dX6_isLeap_20 kq_i0 ?_
      refine ks_iret hκ 21 hRt dX6_isLeap_21 (by decide) (by decide) (by decide) ?_
      refine ⟨?_, rfl⟩
      unfold kIsL
      first | rw [if_pos c3] | rw [if_neg c3, if_pos c9] | rw [if_neg c3, if_neg c9, if_pos c13] | rw [if_neg c3, if_neg c9, if_neg c13]
    · skip
      refine ks_iload_n hκ 12 0 dX6_isLeap_12 rfl ?_
      refine ks_if_eq hκ 13 20 dX6_isLeap_13 rfl (fun c13 => ?_) (fun c13 => ?_)
      · skip
        refine ks_iconst hκ 20 (nI 0) dX6_isLeap_20 kq_i0 ?_
        refine ks_iret hκ 21 hRt dX6_isLeap_21 (by decide) (by decide) (by decide) ?_
        refine ⟨?_, rfl⟩
        unfold kIsL
        first | rw [if_pos c3] | rw [if_neg c3, if_pos c9] | rw [if_neg c3, if_neg c9, if_pos c13] | rw [if_neg c3, if_neg c9, if_neg c13]
      · skip
        refine ks_iconst hκ 16 (nI 1) dX6_isLeap_16 kq_i1 ?_
        refine ks_goto hκ 17 21 dX6_isLeap_17 rfl ?_
        refine ks_iret hκ 21 hRt dX6_isLeap_21 (by decide) (by decide) (by decide) ?_
        refine ⟨?_, rfl⟩
        unfold kIsL
        first | rw [if_pos c3] | rw [if_neg c3, if_pos c9] | rw [if_neg c3, if_neg c9, if_pos c13] | rw [if_neg c3, if_neg c9, if_neg c13]
set_option maxRecDepth 100000 in
set_option maxHeartbeats 4000000 in
theorem c_Stairs_cost {g : ks_G} {h : ks_H} {x : Int32} : ks_Met g (yX4_cost, cX4_cost, 1, some .int) 0 0 0 [.int x] h (ks_Pi (kCost x) h) := by
  refine ks_intro (by decide) (Nat.le_of_ble_eq_true rfl) (fun κ hκ hRt => ?_)
  refine ks_cv (ls := [(0, .int x)]) ?_ rfl rfl rfl
  refine ks_iload_n hκ 0 0 dX4_cost_0 rfl ?_
  refine ks_if_le hκ 1 10 dX4_cost_1 rfl (fun c1 => ?_) (fun c1 => ?_)
  · skip
    refine ks_iload_n hκ 10 0 dX4_cost_10 rfl ?_
    refine ks_ineg hκ 11 dX4_cost_11 ?_
    refine ks_iret hκ 12 hRt dX4_cost_12 (by decide) (by decide) rfl ?_
    refine ⟨?_, rfl⟩
    unfold kCost
    first | rw [if_pos c1] | rw [if_neg c1]
  · skip
    refine ks_iconst hκ 4 (nI 2) dX4_cost_4 kq_i2 ?_
    refine ks_iload_n hκ 5 0 dX4_cost_5 rfl ?_
    refine ks_imul hκ 6 dX4_cost_6 ?_
    refine ks_goto hκ 7 12 dX4_cost_7 rfl ?_
    refine ks_iret hκ 12 hRt dX4_cost_12 (by decide) (by decide) rfl ?_
    refine ⟨?_, rfl⟩
    unfold kCost
    first | rw [if_pos c1] | rw [if_neg c1]
set_option maxRecDepth 100000 in
set_option maxHeartbeats 4000000 in
theorem c_Stairs_edgeOnWay {g : ks_G} {h : ks_H} {s x i : Int32} : ks_Met g (yX4_edgeOnWay, cX4_edgeOnWay, 3, some .int) 0 0 0 [.int s, .int x, .int i] h (ks_Pi (kEdge s x i) h) := by
  refine ks_intro (by decide) (Nat.le_of_ble_eq_true rfl) (fun κ hκ hRt => ?_)
  refine ks_cv (ls := [(0, .int s), (1, .int x), (2, .int i)]) ?_ rfl rfl rfl
  refine ks_iload_n hκ 0 1 dX4_edgeOnWay_0 rfl ?_
  refine ks_if_le hκ 1 10 dX4_edgeOnWay_1 rfl (fun c1 => ?_) (fun c1 => ?_)
  · skip
    refine ks_iload_n hκ 10 0 dX4_edgeOnWay_10 rfl ?_
    refine ks_iconst hκ 11 (nI 1) dX4_edgeOnWay_11 kq_i1 ?_
    refine ks_isub hκ 12 dX4_edgeOnWay_12 ?_
    refine ks_iload_n hκ 13 2 dX4_edgeOnWay_13 rfl ?_
    refine ks_isub hκ 14 dX4_edgeOnWay_14 ?_
    refine ks_iret hκ 15 hRt dX4_edgeOnWay_15 (by decide) (by decide) rfl ?_
    refine ⟨?_, rfl⟩
    unfold kEdge
    first | rw [if_pos c1] | rw [if_neg c1]
  · skip
    refine ks_iload_n hκ 4 0 dX4_edgeOnWay_4 rfl ?_
    refine ks_iload_n hκ 5 2 dX4_edgeOnWay_5 rfl ?_
    refine ks_iadd hκ 6 dX4_edgeOnWay_6 ?_
    refine ks_goto hκ 7 15 dX4_edgeOnWay_7 rfl ?_
    refine ks_iret hκ 15 hRt dX4_edgeOnWay_15 (by decide) (by decide) rfl ?_
    refine ⟨?_, rfl⟩
    unfold kEdge
    first | rw [if_pos c1] | rw [if_neg c1]
set_option maxRecDepth 100000 in
set_option maxHeartbeats 4000000 in
theorem c_Stairs_hasKitten {g : ks_G} {h : ks_H} {b : Nat} {se : Nat → Int32} {tu : Int32} {ki : Nat} {ma re : Int32} {kf : Nat → Nat → Int32} {L : List (Nat × Nat)} {P : List kP} {x : Int32} (hst : kStairs g h b (se, tu, ki, ma, re, kf, L, P)) : ks_Met g (yX4_hasKitten, cX4_hasKitten, 2, some .boolean) 0 0 0 [ks_ref g b, .int x] h (ks_Pi (kHas ki x) h) := by
  have hst0 := hst
  obtain ⟨h0, h1, h2, h3, h4, h5, h6, h7, h8, hyarn, hplans, hki⟩ := hst
  dsimp only at h0 h1 h2 h3 h4 h5 h6 h7 h8 hyarn hplans hki
  refine ks_intro (by decide) (Nat.le_of_ble_eq_true rfl) (fun κ hκ hRt => ?_)
  refine ks_cv (ls := [(0, ks_ref g b), (1, .int x)]) ?_ rfl rfl rfl
  refine ks_iload_n hκ 0 1 dX4_hasKitten_0 rfl ?_
  refine ks_if_lt hκ 1 16 dX4_hasKitten_1 rfl (fun c1 => ?_) (fun c1 => ?_)
  · skip
    refine ks_iconst hκ 16 (nI 0) dX4_hasKitten_16 kq_i0 ?_
    refine ks_iret hκ 17 hRt dX4_hasKitten_17 (by decide) (by decide) (by decide) ?_
    refine ⟨?_, rfl⟩
    unfold kHas
    first | rw [if_pos c1] | rw [if_neg c1, if_pos c9] | rw [if_neg c1, if_neg c9]
  · skip
    refine ks_iload_n hκ 4 1 dX4_hasKitten_4 rfl ?_
    refine ks_aload_n hκ 5 0 dX4_hasKitten_5 rfl ?_
    refine ks_get hκ 6 dX4_hasKitten_6 kf_X4_19 h0 rfl ?_
    refine ks_icmp_ge hκ 9 16 dX4_hasKitten_9 rfl (fun c9 => ?_) (fun c9 => ?_)
    · skip
      refine ks_iconst hκ 16 (nI 0) dX4_hasKitten_16 kq_i0 ?_
      refine ks_iret hκ 17 hRt dX4_hasKitten_17 (by decide) (by decide) (by decide) ?_
      refine ⟨?_, rfl⟩
      unfold kHas
      first | rw [if_pos c1] | rw [if_neg c1, if_pos c9] | rw [if_neg c1, if_neg c9]
    · skip
      refine ks_iconst hκ 12 (nI 1) dX4_hasKitten_12 kq_i1 ?_
      refine ks_goto hκ 13 17 dX4_hasKitten_13 rfl ?_
      refine ks_iret hκ 17 hRt dX4_hasKitten_17 (by decide) (by decide) (by decide) ?_
      refine ⟨?_, rfl⟩
      unfold kHas
      first | rw [if_pos c1] | rw [if_neg c1, if_pos c9] | rw [if_neg c1, if_neg c9]
set_option maxRecDepth 100000 in
set_option maxHeartbeats 4000000 in
theorem c_Stairs_naps {g : ks_G} {h : ks_H} {b : Nat} {se : Nat → Int32} {tu : Int32} {ki : Nat} {ma re : Int32} {kf : Nat → Nat → Int32} {L : List (Nat × Nat)} {P : List kP} {k : Nat} (hst : kStairs g h b (se, tu, ki, ma, re, kf, L, P)) (hk : k < 6) : ks_Met g (yX4_naps, cX4_naps, 2, some .boolean) 0 0 0 [ks_ref g b, .int (nI k)] h (ks_Pi (kNaps kf k) h) := by
  have hst0 := hst
  obtain ⟨h0, h1, h2, h3, h4, h5, h6, h7, h8, hyarn, hplans, hki⟩ := hst
  dsimp only at h0 h1 h2 h3 h4 h5 h6 h7 h8 hyarn hplans hki
  refine ks_intro (by decide) (Nat.le_of_ble_eq_true rfl) (fun κ hκ hRt => ?_)
  refine ks_cv (ls := [(0, ks_ref g b), (1, .int (nI k))]) ?_ rfl rfl rfl
  refine ks_aload_n hκ 0 0 dX4_naps_0 rfl ?_
  refine ks_get hκ 1 dX4_naps_1 kf_X4_34 h0 rfl ?_
  refine ks_iload_n hκ 4 1 dX4_naps_4 rfl ?_
  refine ks_iald hκ 5 (k) dX4_naps_5 h4 rfl (by omega) (by decide) ?_
  refine ks_bipush hκ 6 (-6) dX4_naps_6 kq_bm6 ?_
  refine ks_icmp_eq hκ 8 15 dX4_naps_8 rfl (fun c8 => ?_) (fun c8 => ?_)
  · skip
    refine ks_iconst hκ 15 (nI 0) dX4_naps_15 kq_i0 ?_
    refine ks_iret hκ 16 hRt dX4_naps_16 (by decide) (by decide) (by decide) ?_
    refine ⟨?_, rfl⟩
    unfold kNaps
    first | rw [if_pos c8] | rw [if_neg c8]
  · skip
    refine ks_iconst hκ 11 (nI 1) dX4_naps_11 kq_i1 ?_
    refine ks_goto hκ 12 16 dX4_naps_12 rfl ?_
    refine ks_iret hκ 16 hRt dX4_naps_16 (by decide) (by decide) (by decide) ?_
    refine ⟨?_, rfl⟩
    unfold kNaps
    first | rw [if_pos c8] | rw [if_neg c8]
set_option maxRecDepth 100000 in
set_option maxHeartbeats 4000000 in
theorem c_Stairs_isHeldBack {g : ks_G} {h : ks_H} {b : Nat} {se : Nat → Int32} {tu : Int32} {ki : Nat} {ma re : Int32} {kf : Nat → Nat → Int32} {L : List (Nat × Nat)} {P : List kP} {k : Nat} {t : Int32} (hst : kStairs g h b (se, tu, ki, ma, re, kf, L, P)) (hk : k < ki) : ks_Met g (yX4_isHeldBack, cX4_isHeldBack, 6, some .boolean) 1 0 0 [ks_ref g b, .int (nI k), .int t] h (ks_Pi (if kHeld (se, tu, ki, ma, re, kf, L, P) k t = true then nI 1 else nI 0) h) := by
  have hst0 := hst
  obtain ⟨h0, h1, h2, h3, h4, h5, h6, h7, h8, hyarn, hplans, hki⟩ := hst
  dsimp only at h0 h1 h2 h3 h4 h5 h6 h7 h8 hyarn hplans hki
  obtain ⟨E, O, hY, -⟩ := id hyarn
  refine ks_intro (by decide) (Nat.le_of_ble_eq_true rfl) (fun κ hκ hRt => ?_)
  refine ks_cv (ls := [(0, ks_ref g b), (1, .int (nI k)), (2, .int t)]) ?_ rfl rfl rfl
  refine ks_iconst hκ 0 (nI 0) dX4_isHeldBack_0 kq_i0 ?_
  refine ks_istore_n hκ 1 3 [(3, _), (0, _), (1, _), (2, _)] dX4_isHeldBack_1 rfl (by decide) rfl ?_
  have L2 : ∀ (fuel : Nat) (vj : Nat) (hvj : vj ≤ ki) (hinv : ∀ j, j < vj → kHeldQ (se, tu, ki, ma, re, kf, L, P) k t j = false) (hfuel : ki - vj < fuel), ks_K κ g 6 h 0 0 2 [(0, ks_ref g b), (1, .int (nI k)), (2, .int t), (3, .int (nI vj))] [] := by
    intro fuel
    induction fuel with
    | zero => intro vj  hvj hinv hfuel; exact absurd hfuel (Nat.not_lt_zero _)
    | succ fuel ih =>
      intro vj  hvj hinv hfuel
      refine ks_iload_n hκ 2 3 dX4_isHeldBack_2 rfl ?_
      refine ks_aload_n hκ 3 0 dX4_isHeldBack_3 rfl ?_
      refine ks_get hκ 4 dX4_isHeldBack_4 kf_X4_19 h0 rfl ?_
      refine ks_icmp_ge hκ 7 95 dX4_isHeldBack_7 rfl (fun c7 => ?_) (fun c7 => ?_)
      · skip
        have c7 := (nI_leI (by omega) (by omega)).mp c7
        refine ks_iconst hκ 95 (nI 0) dX4_isHeldBack_95 kq_i0 ?_
        refine ks_iret hκ 96 hRt dX4_isHeldBack_96 (by decide) (by decide) (by decide) ?_
        refine ⟨?_, rfl⟩
        have hq : kHeld (se, tu, ki, ma, re, kf, L, P) k t = false := any_f (fun j hj => hinv j (by have hj2 : j < ki := hj; omega))
        rw [hq]; rfl
      · skip
        have c7 := mt (nI_leI (by omega) (by omega)).mpr c7
        refine ks_iload_n hκ 10 3 dX4_isHeldBack_10 rfl ?_
        refine ks_iload_n hκ 11 1 dX4_isHeldBack_11 rfl ?_
        refine ks_icmp_ne hκ 12 18 dX4_isHeldBack_12 rfl (fun c12 => ?_) (fun c12 => ?_)
        · skip
          have c12 := mt (nI_eq (by omega) (by omega)).mpr c12
          refine ks_iload_n hκ 18 2 dX4_isHeldBack_18 rfl ?_
          refine ks_aload_n hκ 19 0 dX4_isHeldBack_19 rfl ?_
          refine ks_get hκ 20 dX4_isHeldBack_20 kf_X4_28 h0 rfl ?_
          refine ks_iload_n hκ 23 3 dX4_isHeldBack_23 rfl ?_
          refine ks_iald hκ 24 (vj) dX4_isHeldBack_24 h2 rfl (by omega) (by decide) ?_
          refine ks_isub hκ 25 dX4_isHeldBack_25 ?_
          refine ks_abs hκ 26 dX4_isHeldBack_26 kj_X4_148 ku_abss ku_mi ku_absc (by decide) (by decide) (by decide) (Nat.le_of_ble_eq_true rfl) ?_
          refine ks_istore hκ 29 4 [(4, _), (0, _), (1, _), (2, _), (3, _)] dX4_isHeldBack_29 (by decide) rfl ?_
          refine ks_iload hκ 31 0 dX4_isHeldBack_31 rfl ?_
          refine ks_aload_n hκ 33 1 dX4_isHeldBack_33 rfl ?_
          refine ks_get hκ 34 dX4_isHeldBack_34 kf_X4_9 h0 rfl ?_
          refine ks_iconst hκ 37 (nI 1) dX4_isHeldBack_37 kq_i1 ?_
          refine ks_iald hκ 38 (1) dX4_isHeldBack_38 h1 rfl (by omega) (by decide) ?_
          refine ks_icmp_le hκ 39 67 dX4_isHeldBack_39 rfl (fun c39 => ?_) (fun c39 => ?_)
          · skip
            have c39 : ¬ se 1 < kAbs (t - kf 0 vj) := Int32.not_lt.mpr c39
            refine ks_iconst hκ 67 (nI 0) dX4_isHeldBack_67 kq_i0 ?_
            refine ks_istore hκ 68 5 [(5, _), (4, _), (0, _), (1, _), (2, _), (3, _)] dX4_isHeldBack_68 (by decide) rfl ?_
            refine ks_iload hκ 70 0 dX4_isHeldBack_70 rfl ?_
            refine ks_if_eq hκ 72 89 dX4_isHeldBack_72 rfl (fun c72 => ?_) (fun c72 => ?_)
            · skip
              refine ks_iinc hκ 89 3 5 (nI (vj + 1)) [(3, _), (5, _), (4, _), (0, _), (1, _), (2, _)] dX4_isHeldBack_89 rfl (ks_inc1 _) (by decide) rfl ?_
              refine ks_goto hκ 92 2 dX4_isHeldBack_92 rfl ?_
              refine ks_pick [3, 4, 5, 0] [(0, _), (1, _), (2, _), (3, _)] rfl ?_
              exact ks_cv (ih (vj + 1)  (by omega) (fun j hj => by rcases Nat.lt_succ_iff_lt_or_eq.mp hj with q | q; { exact hinv j q }; { subst q; clear ih hinv; simp [kHeldQ, *] }) (by omega)) rfl rfl rfl
            · skip
              exact absurd (by decide) c72
          · skip
            have c39 : se 1 < kAbs (t - kf 0 vj) := Int32.not_le.mp c39
            refine ks_iload hκ 42 0 dX4_isHeldBack_42 rfl ?_
            refine ks_aload_n hκ 44 1 dX4_isHeldBack_44 rfl ?_
            refine ks_get hκ 45 dX4_isHeldBack_45 kf_X4_28 h0 rfl ?_
            refine ks_iload_n hκ 48 2 dX4_isHeldBack_48 rfl ?_
            refine ks_iald hκ 49 (k) dX4_isHeldBack_49 h2 rfl (by omega) (by decide) ?_
            refine ks_aload_n hκ 50 1 dX4_isHeldBack_50 rfl ?_
            refine ks_get hκ 51 dX4_isHeldBack_51 kf_X4_28 h0 rfl ?_
            refine ks_iload_n hκ 54 4 dX4_isHeldBack_54 rfl ?_
            refine ks_iald hκ 55 (vj) dX4_isHeldBack_55 h2 rfl (by omega) (by decide) ?_
            refine ks_isub hκ 56 dX4_isHeldBack_56 ?_
            refine ks_abs hκ 57 dX4_isHeldBack_57 kj_X4_148 ku_abss ku_mi ku_absc (by decide) (by decide) (by decide) (Nat.le_of_ble_eq_true rfl) ?_
            refine ks_icmp_le hκ 60 67 dX4_isHeldBack_60 rfl (fun c60 => ?_) (fun c60 => ?_)
            · skip
              have c60 : ¬ kAbs (kf 0 k - kf 0 vj) < kAbs (t - kf 0 vj) := Int32.not_lt.mpr c60
              refine ks_iconst hκ 67 (nI 0) dX4_isHeldBack_67 kq_i0 ?_
              refine ks_istore hκ 68 5 [(5, _), (4, _), (0, _), (1, _), (2, _), (3, _)] dX4_isHeldBack_68 (by decide) rfl ?_
              refine ks_iload hκ 70 0 dX4_isHeldBack_70 rfl ?_
              refine ks_if_eq hκ 72 89 dX4_isHeldBack_72 rfl (fun c72 => ?_) (fun c72 => ?_)
              · skip
                refine ks_iinc hκ 89 3 5 (nI (vj + 1)) [(3, _), (5, _), (4, _), (0, _), (1, _), (2, _)] dX4_isHeldBack_89 rfl (ks_inc1 _) (by decide) rfl ?_
                refine ks_goto hκ 92 2 dX4_isHeldBack_92 rfl ?_
                refine ks_pick [3, 4, 5, 0] [(0, _), (1, _), (2, _), (3, _)] rfl ?_
                exact ks_cv (ih (vj + 1)  (by omega) (fun j hj => by rcases Nat.lt_succ_iff_lt_or_eq.mp hj with q | q; { exact hinv j q }; { subst q; clear ih hinv; simp [kHeldQ, *] }) (by omega)) rfl rfl rfl
              · skip
                exact absurd (by decide) c72
            · skip
              have c60 : kAbs (kf 0 k - kf 0 vj) < kAbs (t - kf 0 vj) := Int32.not_le.mp c60
              refine ks_iconst hκ 63 (nI 1) dX4_isHeldBack_63 kq_i1 ?_
              refine ks_goto hκ 64 68 dX4_isHeldBack_64 rfl ?_
              refine ks_istore hκ 68 5 [(5, _), (4, _), (0, _), (1, _), (2, _), (3, _)] dX4_isHeldBack_68 (by decide) rfl ?_
              refine ks_iload hκ 70 0 dX4_isHeldBack_70 rfl ?_
              refine ks_if_eq hκ 72 89 dX4_isHeldBack_72 rfl (fun c72 => ?_) (fun c72 => ?_)
              · skip
                exact absurd c72 (by decide)
              · skip
                refine ks_aload_n hκ 75 2 dX4_isHeldBack_75 rfl ?_
                refine ks_get hκ 76 dX4_isHeldBack_76 kf_X4_52 h0 rfl ?_
                refine ks_iload_n hκ 79 3 dX4_isHeldBack_79 rfl ?_
                refine ks_iload_n hκ 80 5 dX4_isHeldBack_80 rfl ?_
                refine ks_pureV2 hκ 81 dX4_isHeldBack_81 kc_X4_153 (c_Yarn_boundEdgeSet hyarn (by omega) (by omega)) hY rfl (by decide) (Nat.le_of_ble_eq_true rfl) (by decide) (by decide) ?_
                refine ks_if_eq hκ 84 89 dX4_isHeldBack_84 rfl (fun c84 => ?_) (fun c84 => ?_)
                · skip
                  refine ks_iinc hκ 89 3 5 (nI (vj + 1)) [(3, _), (5, _), (4, _), (0, _), (1, _), (2, _)] dX4_isHeldBack_89 rfl (ks_inc1 _) (by decide) rfl ?_
                  refine ks_goto hκ 92 2 dX4_isHeldBack_92 rfl ?_
                  refine ks_pick [3, 4, 5, 0] [(0, _), (1, _), (2, _), (3, _)] rfl ?_
                  exact ks_cv (ih (vj + 1)  (by omega) (fun j hj => by rcases Nat.lt_succ_iff_lt_or_eq.mp hj with q | q; { exact hinv j q }; { subst q; clear ih hinv; simp [kHeldQ, *] }) (by omega)) rfl rfl rfl
                · skip
                  refine ks_iconst hκ 87 (nI 1) dX4_isHeldBack_87 kq_i1 ?_
                  refine ks_iret hκ 88 hRt dX4_isHeldBack_88 (by decide) (by decide) (by decide) ?_
                  refine ⟨?_, rfl⟩
                  have hq : kHeldQ (se, tu, ki, ma, re, kf, L, P) k t vj = true := by
                    clear ih hinv
                    simp [kHeldQ, *]
                  have hh : kHeld (se, tu, ki, ma, re, kf, L, P) k t = true := any_t (show vj < ki by omega) hq
                  rw [hh]; rfl
        · skip
          have c12 := (nI_eq (by omega) (by omega)).mp c12
          refine ks_goto hκ 15 89 dX4_isHeldBack_15 rfl ?_
          refine ks_iinc hκ 89 3 3 (nI (vj + 1)) [(3, _), (0, _), (1, _), (2, _)] dX4_isHeldBack_89 rfl (ks_inc1 _) (by decide) rfl ?_
          refine ks_goto hκ 92 2 dX4_isHeldBack_92 rfl ?_
          refine ks_pick [1, 2, 3, 0] [(0, _), (1, _), (2, _), (3, _)] rfl ?_
          exact ks_cv (ih (vj + 1)  (by omega) (fun j hj => by rcases Nat.lt_succ_iff_lt_or_eq.mp hj with q | q; { exact hinv j q }; { subst q; clear ih hinv; simp [kHeldQ, *] }) (by omega)) rfl rfl rfl
  refine ks_pick [1, 2, 3, 0] [(0, _), (1, _), (2, _), (3, _)] rfl ?_
  exact ks_cv (L2 _ 0  (Nat.zero_le _) (fun j hj => absurd hj (Nat.not_lt_zero _)) (Nat.lt_succ_self _)) rfl rfl rfl
set_option maxRecDepth 100000 in
set_option maxHeartbeats 4000000 in
theorem c_Stairs_ballLasts {g : ks_G} {h : ks_H} {b : Nat} {se : Nat → Int32} {tu : Int32} {ki : Nat} {ma re : Int32} {kf : Nat → Nat → Int32} {L : List (Nat × Nat)} {P : List kP} {k s t : Nat} (hst : kStairs g h b (se, tu, ki, ma, re, kf, L, P)) (hk : k < 6) (hs : s < 16) (ht : t < 16) (hks : kf 0 k = nI s) : ks_Met g (yX4_ballLasts, cX4_ballLasts, 7, some .boolean) 1 0 0 [ks_ref g b, .int (nI k), .int (nI t - nI s)] h (ks_Pi (if kLst L k (kWay s t) (kf 3 k) = true then nI 1 else nI 0) h) := by
  have hst0 := hst
  obtain ⟨h0, h1, h2, h3, h4, h5, h6, h7, h8, hyarn, hplans, hki⟩ := hst
  dsimp only at h0 h1 h2 h3 h4 h5 h6 h7 h8 hyarn hplans hki
  obtain ⟨E, O, hY, -⟩ := id hyarn
  have hwl : (kWay s t).length < 16 := by rw [kWay_len]; split <;> omega
  refine ks_intro (by decide) (Nat.le_of_ble_eq_true rfl) (fun κ hκ hRt => ?_)
  refine ks_cv (ls := [(0, ks_ref g b), (1, .int (nI k)), (2, .int (nI t - nI s))]) ?_ rfl rfl rfl
  refine ks_aload_n hκ 0 0 dX4_ballLasts_0 rfl ?_
  refine ks_get hκ 1 dX4_ballLasts_1 kf_X4_37 h0 rfl ?_
  refine ks_iload_n hκ 4 1 dX4_ballLasts_4 rfl ?_
  refine ks_iald hκ 5 (k) dX4_ballLasts_5 h5 rfl (by omega) (by decide) ?_
  refine ks_istore_n hκ 6 3 [(3, _), (0, _), (1, _), (2, _)] dX4_ballLasts_6 rfl (by decide) rfl ?_
  refine ks_iload_n hκ 7 3 dX4_ballLasts_7 rfl ?_
  refine ks_abs hκ 8 dX4_ballLasts_8 kj_X4_148 ku_abss ku_mi ku_absc (by decide) (by decide) (by decide) (Nat.le_of_ble_eq_true rfl) ?_
  refine ks_top (nI (kWay s t).length) (kDiff_abs hs ht) ?_
  refine ks_istore hκ 11 4 [(4, _), (3, _), (0, _), (1, _), (2, _)] dX4_ballLasts_11 (by decide) rfl ?_
  refine ks_iconst hκ 13 (nI 0) dX4_ballLasts_13 kq_i0 ?_
  refine ks_istore hκ 14 5 [(5, _), (4, _), (3, _), (0, _), (1, _), (2, _)] dX4_ballLasts_14 (by decide) rfl ?_
  have L16 : ∀ (fuel : Nat) (vi : Nat) (x : Int32) (hvi : vi ≤ (kWay s t).length) (hinv : kLst L k ((kWay s t).drop vi) x = kLst L k (kWay s t) (kf 3 k)) (hfuel : (kWay s t).length - vi < fuel), ks_K κ g 7 h 0 0 16 [(0, ks_ref g b), (1, .int (nI k)), (2, .int (nI t - nI s)), (3, .int x), (4, .int (nI (kWay s t).length)), (5, .int (nI vi))] [] := by
    intro fuel
    induction fuel with
    | zero => intro vi x  hvi hinv hfuel; exact absurd hfuel (Nat.not_lt_zero _)
    | succ fuel ih =>
      intro vi x  hvi hinv hfuel
      refine ks_iload hκ 16 5 dX4_ballLasts_16 rfl ?_
      refine ks_iload hκ 18 4 dX4_ballLasts_18 rfl ?_
      refine ks_icmp_ge hκ 20 70 dX4_ballLasts_20 rfl (fun c20 => ?_) (fun c20 => ?_)
      · skip
        have c20 := (nI_leI (by omega) (by omega)).mp c20
        refine ks_iconst hκ 70 (nI 1) dX4_ballLasts_70 kq_i1 ?_
        refine ks_iret hκ 71 hRt dX4_ballLasts_71 (by decide) (by decide) (by decide) ?_
        exact ⟨by rw [← hinv, kdropN c20]; rfl, rfl⟩
      · skip
        have c20 := mt (nI_leI (by omega) (by omega)).mpr c20
        obtain ⟨ve, hve⟩ := kget (L := kWay s t) (i := vi) (by omega)
        have hve15 := kWay_lt hs ht (List.mem_of_getElem? hve)
        rw [kdrop hve] at hinv
        refine ks_aload_n hκ 23 0 dX4_ballLasts_23 rfl ?_
        refine ks_get hκ 24 dX4_ballLasts_24 kf_X4_28 h0 rfl ?_
        refine ks_iload_n hκ 27 1 dX4_ballLasts_27 rfl ?_
        refine ks_iald hκ 28 (k) dX4_ballLasts_28 h2 rfl (by omega) (by decide) ?_
        refine ks_iload_n hκ 29 2 dX4_ballLasts_29 rfl ?_
        refine ks_iload hκ 30 5 dX4_ballLasts_30 rfl ?_
        refine ks_pureS3 hκ 32 dX4_ballLasts_32 kc_X4_156 (c_Stairs_edgeOnWay) (by decide) (Nat.le_of_ble_eq_true rfl) (by decide) (by decide) ?_
        refine ks_top (nI ve) (by rw [hks]; exact kEdge_at hs ht hve) ?_
        refine ks_istore hκ 35 6 [(6, _), (0, _), (1, _), (2, _), (3, _), (4, _), (5, _)] dX4_ballLasts_35 (by decide) rfl ?_
        refine ks_iload_n hκ 37 4 dX4_ballLasts_37 rfl ?_
        refine ks_aload_n hκ 38 1 dX4_ballLasts_38 rfl ?_
        refine ks_get hκ 39 dX4_ballLasts_39 kf_X4_52 h0 rfl ?_
        refine ks_iload hκ 42 0 dX4_ballLasts_42 rfl ?_
        refine ks_pureV1 hκ 44 dX4_ballLasts_44 kc_X4_160 (c_Yarn_topOwner hyarn hve15) hY rfl (by decide) (Nat.le_of_ble_eq_true rfl) (by decide) (by decide) ?_
        refine ks_iload_n hκ 47 2 dX4_ballLasts_47 rfl ?_
        refine ks_icmp_ne hκ 48 55 dX4_ballLasts_48 rfl (fun c48 => ?_) (fun c48 => ?_)
        · skip
          have htop : ¬ kTop ve L = some k := mt (kON_eq (fun a ha => kTop_lt hyarn ha) hk).mpr c48
          refine ks_iconst hκ 55 (-1) dX4_ballLasts_55 kq_im1 ?_
          refine ks_iadd hκ 56 dX4_ballLasts_56 ?_
          refine ks_istore_n hκ 57 3 [(3, _), (6, _), (0, _), (1, _), (2, _), (4, _), (5, _)] dX4_ballLasts_57 rfl (by decide) rfl ?_
          refine ks_iload_n hκ 58 0 dX4_ballLasts_58 rfl ?_
          refine ks_if_ge hκ 59 64 dX4_ballLasts_59 rfl (fun c59 => ?_) (fun c59 => ?_)
          · skip
            refine ks_iinc hκ 64 5 6 (nI (vi + 1)) [(5, _), (3, _), (6, _), (0, _), (1, _), (2, _), (4, _)] dX4_ballLasts_64 rfl (ks_inc1 _) (by decide) rfl ?_
            refine ks_goto hκ 67 16 dX4_ballLasts_67 rfl ?_
            refine ks_pick [3, 4, 5, 1, 6, 0] [(0, _), (1, _), (2, _), (3, _), (4, _), (5, _)] rfl ?_
            exact ks_cv (ih (vi + 1) _  (by omega) (by rw [← hinv, kLst]; first | rw [if_pos htop, if_neg (Int32.not_lt.mpr c59)] | rw [if_neg htop, if_neg (Int32.not_lt.mpr c59)]) (by omega)) rfl rfl rfl
          · skip
            have hres : kLst L k (kWay s t) (kf 3 k) = false := by
              rw [← hinv, kLst]
              first | rw [if_pos htop, if_pos (Int32.not_le.mp c59)] | rw [if_neg htop, if_pos (Int32.not_le.mp c59)]
            refine ks_iconst hκ 62 (nI 0) dX4_ballLasts_62 kq_i0 ?_
            refine ks_iret hκ 63 hRt dX4_ballLasts_63 (by decide) (by decide) (by decide) ?_
            exact ⟨by rw [hres]; rfl, rfl⟩
        · skip
          have htop : kTop ve L = some k := (kON_eq (fun a ha => kTop_lt hyarn ha) hk).mp c48
          refine ks_iconst hκ 51 (nI 1) dX4_ballLasts_51 kq_i1 ?_
          refine ks_goto hκ 52 56 dX4_ballLasts_52 rfl ?_
          refine ks_iadd hκ 56 dX4_ballLasts_56 ?_
          refine ks_istore_n hκ 57 3 [(3, _), (6, _), (0, _), (1, _), (2, _), (4, _), (5, _)] dX4_ballLasts_57 rfl (by decide) rfl ?_
          refine ks_iload_n hκ 58 0 dX4_ballLasts_58 rfl ?_
          refine ks_if_ge hκ 59 64 dX4_ballLasts_59 rfl (fun c59 => ?_) (fun c59 => ?_)
          · skip
            refine ks_iinc hκ 64 5 6 (nI (vi + 1)) [(5, _), (3, _), (6, _), (0, _), (1, _), (2, _), (4, _)] dX4_ballLasts_64 rfl (ks_inc1 _) (by decide) rfl ?_
            refine ks_goto hκ 67 16 dX4_ballLasts_67 rfl ?_
            refine ks_pick [3, 4, 5, 1, 6, 0] [(0, _), (1, _), (2, _), (3, _), (4, _), (5, _)] rfl ?_
            exact ks_cv (ih (vi + 1) _  (by omega) (by rw [← hinv, kLst]; first | rw [if_pos htop, if_neg (Int32.not_lt.mpr c59)] | rw [if_neg htop, if_neg (Int32.not_lt.mpr c59)]) (by omega)) rfl rfl rfl
          · skip
            have hres : kLst L k (kWay s t) (kf 3 k) = false := by
              rw [← hinv, kLst]
              first | rw [if_pos htop, if_pos (Int32.not_le.mp c59)] | rw [if_neg htop, if_pos (Int32.not_le.mp c59)]
            refine ks_iconst hκ 62 (nI 0) dX4_ballLasts_62 kq_i0 ?_
            refine ks_iret hκ 63 hRt dX4_ballLasts_63 (by decide) (by decide) (by decide) ?_
            exact ⟨by rw [hres]; rfl, rfl⟩
  refine ks_pick [3, 4, 5, 2, 1, 0] [(0, _), (1, _), (2, _), (3, _), (4, _), (5, _)] rfl ?_
  exact ks_cv (L16 _ 0 _  (Nat.zero_le _) rfl (Nat.lt_succ_self _)) rfl rfl rfl
set_option maxRecDepth 100000 in
set_option maxHeartbeats 4000000 in
theorem c_Stairs_refusal {g : ks_G} {h : ks_H} {b : Nat} {se : Nat → Int32} {tu : Int32} {ki : Nat} {ma re : Int32} {kf : Nat → Nat → Int32} {L : List (Nat × Nat)} {P : List kP} {k s : Nat} {x : Int32} (hst : kStairs g h b (se, tu, ki, ma, re, kf, L, P)) (hk : k < ki) (hs : s < 16) (hks : kf 0 k = nI s) : ks_Met g (yX4_refusal, cX4_refusal, 4, some .int) 2 0 0 [ks_ref g b, .int (nI k), .int x] h (ks_Pi (kRef (se, tu, ki, ma, re, kf, L, P) k x) h) := by
  have hst0 := hst
  obtain ⟨h0, h1, h2, h3, h4, h5, h6, h7, h8, hyarn, hplans, hki⟩ := hst
  dsimp only at h0 h1 h2 h3 h4 h5 h6 h7 h8 hyarn hplans hki
  refine ks_intro (by decide) (Nat.le_of_ble_eq_true rfl) (fun κ hκ hRt => ?_)
  refine ks_cv (ls := [(0, ks_ref g b), (1, .int (nI k)), (2, .int x)]) ?_ rfl rfl rfl
  refine ks_aload_n hκ 0 0 dX4_refusal_0 rfl ?_
  refine ks_get hκ 1 dX4_refusal_1 kf_X4_28 h0 rfl ?_
  refine ks_iload_n hκ 4 1 dX4_refusal_4 rfl ?_
  refine ks_iald hκ 5 (k) dX4_refusal_5 h2 rfl (by omega) (by decide) ?_
  refine ks_iload_n hκ 6 2 dX4_refusal_6 rfl ?_
  refine ks_iadd hκ 7 dX4_refusal_7 ?_
  refine ks_istore_n hκ 8 3 [(3, _), (0, _), (1, _), (2, _)] dX4_refusal_8 rfl (by decide) rfl ?_
  refine ks_aload_n hκ 9 1 dX4_refusal_9 rfl ?_
  refine ks_iload_n hκ 10 2 dX4_refusal_10 rfl ?_
  refine ks_pureV1 hκ 11 dX4_refusal_11 kc_X4_100 (c_Stairs_naps hst0 (by omega)) h0 rfl (by decide) (Nat.le_of_ble_eq_true rfl) (by decide) (by decide) ?_
  refine ks_if_eq hκ 14 19 dX4_refusal_14 rfl (fun c14 => ?_) (fun c14 => ?_)
  · skip
    refine ks_iload_n hκ 19 0 dX4_refusal_19 rfl ?_
    refine ks_if_lt hκ 20 29 dX4_refusal_20 rfl (fun c20 => ?_) (fun c20 => ?_)
    · skip
      refine ks_iconst hκ 29 (nI 2) dX4_refusal_29 kq_i2 ?_
      refine ks_iret hκ 30 hRt dX4_refusal_30 (by decide) (by decide) rfl ?_
      refine ⟨?_, rfl⟩
      unfold kRef
      first
        | rw [if_pos c14]
        | rw [if_neg (fun q => q c14), if_pos c20]
        | rw [if_neg (fun q => q c14), if_neg c20, if_pos c26]
        | rw [if_neg (fun q => q c14), if_neg c20, if_neg c26, if_pos c38]
        | rw [if_neg (fun q => q c14), if_neg c20, if_neg c26, if_neg c38, if_pos c51]
        | rw [if_neg (fun q => q c14), if_neg c20, if_neg c26, if_neg c38, if_neg c51, if_pos c66]
        | rw [if_neg (fun q => q c14), if_neg c20, if_neg c26, if_neg c38, if_neg c51, if_neg c66, if_pos c77]
        | rw [if_neg (fun q => q c14), if_neg c20, if_neg c26, if_neg c38, if_neg c51, if_neg c66, if_neg c77, if_pos c88]
        | rw [if_neg (fun q => q c14), if_neg c20, if_neg c26, if_neg c38, if_neg c51, if_neg c66, if_neg c77, if_neg c88]
    · skip
      refine ks_iload_n hκ 23 0 dX4_refusal_23 rfl ?_
      refine ks_bipush hκ 24 (nI 16) dX4_refusal_24 kq_b16 ?_
      refine ks_icmp_lt hκ 26 31 dX4_refusal_26 rfl (fun c26 => ?_) (fun c26 => ?_)
      · skip
        have c26 : ¬ nI 16 ≤ kf 0 k + x := Int32.not_le.mpr c26
        refine ks_iload_n hκ 31 3 dX4_refusal_31 rfl ?_
        refine ks_aload_n hκ 32 1 dX4_refusal_32 rfl ?_
        refine ks_get hκ 33 dX4_refusal_33 kf_X4_9 h0 rfl ?_
        refine ks_iconst hκ 36 (nI 0) dX4_refusal_36 kq_i0 ?_
        refine ks_iald hκ 37 (0) dX4_refusal_37 h1 rfl (by omega) (by decide) ?_
        refine ks_icmp_gt hκ 38 54 dX4_refusal_38 rfl (fun c38 => ?_) (fun c38 => ?_)
        · skip
          refine ks_iconst hκ 54 (nI 3) dX4_refusal_54 kq_i3 ?_
          refine ks_iret hκ 55 hRt dX4_refusal_55 (by decide) (by decide) rfl ?_
          refine ⟨?_, rfl⟩
          unfold kRef
          first
            | rw [if_pos c14]
            | rw [if_neg (fun q => q c14), if_pos c20]
            | rw [if_neg (fun q => q c14), if_neg c20, if_pos c26]
            | rw [if_neg (fun q => q c14), if_neg c20, if_neg c26, if_pos c38]
            | rw [if_neg (fun q => q c14), if_neg c20, if_neg c26, if_neg c38, if_pos c51]
            | rw [if_neg (fun q => q c14), if_neg c20, if_neg c26, if_neg c38, if_neg c51, if_pos c66]
            | rw [if_neg (fun q => q c14), if_neg c20, if_neg c26, if_neg c38, if_neg c51, if_neg c66, if_pos c77]
            | rw [if_neg (fun q => q c14), if_neg c20, if_neg c26, if_neg c38, if_neg c51, if_neg c66, if_neg c77, if_pos c88]
            | rw [if_neg (fun q => q c14), if_neg c20, if_neg c26, if_neg c38, if_neg c51, if_neg c66, if_neg c77, if_neg c88]
        · skip
          refine ks_iload_n hκ 41 3 dX4_refusal_41 rfl ?_
          refine ks_ineg hκ 42 dX4_refusal_42 ?_
          refine ks_iconst hκ 43 (nI 2) dX4_refusal_43 kq_i2 ?_
          refine ks_aload_n hκ 44 1 dX4_refusal_44 rfl ?_
          refine ks_get hκ 45 dX4_refusal_45 kf_X4_9 h0 rfl ?_
          refine ks_iconst hκ 48 (nI 0) dX4_refusal_48 kq_i0 ?_
          refine ks_iald hκ 49 (0) dX4_refusal_49 h1 rfl (by omega) (by decide) ?_
          refine ks_imul hκ 50 dX4_refusal_50 ?_
          refine ks_icmp_le hκ 51 56 dX4_refusal_51 rfl (fun c51 => ?_) (fun c51 => ?_)
          · skip
            have c51 : ¬ nI 2 * se 0 < 0 - x := Int32.not_lt.mpr c51
            refine ks_aload_n hκ 56 1 dX4_refusal_56 rfl ?_
            refine ks_get hκ 57 dX4_refusal_57 kf_X4_31 h0 rfl ?_
            refine ks_iload_n hκ 60 2 dX4_refusal_60 rfl ?_
            refine ks_iald hκ 61 (k) dX4_refusal_61 h3 rfl (by omega) (by decide) ?_
            refine ks_iload_n hκ 62 3 dX4_refusal_62 rfl ?_
            refine ks_pureS1 hκ 63 dX4_refusal_63 kc_X4_137 (c_Stairs_cost) (by decide) (Nat.le_of_ble_eq_true rfl) (by decide) (by decide) ?_
            refine ks_icmp_ge hκ 66 71 dX4_refusal_66 rfl (fun c66 => ?_) (fun c66 => ?_)
            · skip
              have c66 : ¬ kf 1 k < kCost x := Int32.not_lt.mpr c66
              refine ks_aload_n hκ 71 1 dX4_refusal_71 rfl ?_
              refine ks_iload_n hκ 72 2 dX4_refusal_72 rfl ?_
              refine ks_iload_n hκ 73 0 dX4_refusal_73 rfl ?_
              refine ks_pureV2 hκ 74 dX4_refusal_74 kc_X4_141 (c_Stairs_isHeldBack hst0 hk) h0 rfl (by decide) (Nat.le_of_ble_eq_true rfl) (by decide) (by decide) ?_
              refine ks_if_eq hκ 77 82 dX4_refusal_77 rfl (fun c77 => ?_) (fun c77 => ?_)
              · skip
                have c77 : ¬ kHeld (se, tu, ki, ma, re, kf, L, P) k (kf 0 k + x) = true := fun q => by rw [if_pos q] at c77; exact absurd c77 (by decide)
                refine ks_aload_n hκ 82 1 dX4_refusal_82 rfl ?_
                refine ks_iload_n hκ 83 2 dX4_refusal_83 rfl ?_
                refine ks_iload_n hκ 84 3 dX4_refusal_84 rfl ?_
                obtain ⟨vt, hvt, hvt2⟩ : ∃ vt, vt < 16 ∧ kf 0 k + x = nI vt := by
                  rcases pk_ix (kf 0 k + x) (n := 16) (by omega) with q | q | ⟨j, q1, q2⟩
                  · exact absurd q c20
                  · exact absurd q c26
                  · exact ⟨j, q1, q2⟩
                have hx0 : x = nI vt - nI s := by rw [← hvt2, hks, Int32.add_comm, Int32.add_sub_cancel]
                subst hx0
                refine ks_pureV2 hκ 85 dX4_refusal_85 kc_X4_145 (c_Stairs_ballLasts hst0 (by omega) hs hvt hks) h0 rfl (by decide) (Nat.le_of_ble_eq_true rfl) (by decide) (by decide) ?_
                refine ks_if_eq hκ 88 95 dX4_refusal_88 rfl (fun c88 => ?_) (fun c88 => ?_)
                · skip
                  have hcl : (kf 0 k).toNatClampNeg = s ∧ (kf 0 k + (nI vt - nI s)).toNatClampNeg = vt := ⟨by rw [hks]; exact nI_clamp (by omega), by rw [hvt2]; exact nI_clamp (by omega)⟩
                  have c88 : ¬ kLst L k (kWay (kf 0 k).toNatClampNeg (kf 0 k + (nI vt - nI s)).toNatClampNeg) (kf 3 k) = true := fun q => by rw [hcl.1, hcl.2] at q; rw [if_pos q] at c88; exact absurd c88 (by decide)
                  refine ks_bipush hκ 95 (nI 6) dX4_refusal_95 kq_b6 ?_
                  refine ks_iret hκ 97 hRt dX4_refusal_97 (by decide) (by decide) rfl ?_
                  refine ⟨?_, rfl⟩
                  unfold kRef
                  first
                    | rw [if_pos c14]
                    | rw [if_neg (fun q => q c14), if_pos c20]
                    | rw [if_neg (fun q => q c14), if_neg c20, if_pos c26]
                    | rw [if_neg (fun q => q c14), if_neg c20, if_neg c26, if_pos c38]
                    | rw [if_neg (fun q => q c14), if_neg c20, if_neg c26, if_neg c38, if_pos c51]
                    | rw [if_neg (fun q => q c14), if_neg c20, if_neg c26, if_neg c38, if_neg c51, if_pos c66]
                    | rw [if_neg (fun q => q c14), if_neg c20, if_neg c26, if_neg c38, if_neg c51, if_neg c66, if_pos c77]
                    | rw [if_neg (fun q => q c14), if_neg c20, if_neg c26, if_neg c38, if_neg c51, if_neg c66, if_neg c77, if_pos c88]
                    | rw [if_neg (fun q => q c14), if_neg c20, if_neg c26, if_neg c38, if_neg c51, if_neg c66, if_neg c77, if_neg c88]
                · skip
                  have hcl : (kf 0 k).toNatClampNeg = s ∧ (kf 0 k + (nI vt - nI s)).toNatClampNeg = vt := ⟨by rw [hks]; exact nI_clamp (by omega), by rw [hvt2]; exact nI_clamp (by omega)⟩
                  have c88 : kLst L k (kWay (kf 0 k).toNatClampNeg (kf 0 k + (nI vt - nI s)).toNatClampNeg) (kf 3 k) = true := by
                    rw [hcl.1, hcl.2]
                    rcases Bool.eq_false_or_eq_true (kLst L k (kWay s vt) (kf 3 k)) with q | q
                    · exact q
                    · rw [q] at c88; exact absurd rfl c88
                  refine ks_iconst hκ 91 (nI 0) dX4_refusal_91 kq_i0 ?_
                  refine ks_goto hκ 92 97 dX4_refusal_92 rfl ?_
                  refine ks_iret hκ 97 hRt dX4_refusal_97 (by decide) (by decide) rfl ?_
                  refine ⟨?_, rfl⟩
                  unfold kRef
                  first
                    | rw [if_pos c14]
                    | rw [if_neg (fun q => q c14), if_pos c20]
                    | rw [if_neg (fun q => q c14), if_neg c20, if_pos c26]
                    | rw [if_neg (fun q => q c14), if_neg c20, if_neg c26, if_pos c38]
                    | rw [if_neg (fun q => q c14), if_neg c20, if_neg c26, if_neg c38, if_pos c51]
                    | rw [if_neg (fun q => q c14), if_neg c20, if_neg c26, if_neg c38, if_neg c51, if_pos c66]
                    | rw [if_neg (fun q => q c14), if_neg c20, if_neg c26, if_neg c38, if_neg c51, if_neg c66, if_pos c77]
                    | rw [if_neg (fun q => q c14), if_neg c20, if_neg c26, if_neg c38, if_neg c51, if_neg c66, if_neg c77, if_pos c88]
                    | rw [if_neg (fun q => q c14), if_neg c20, if_neg c26, if_neg c38, if_neg c51, if_neg c66, if_neg c77, if_neg c88]
              · skip
                have c77 : kHeld (se, tu, ki, ma, re, kf, L, P) k (kf 0 k + x) = true := by
                  rcases Bool.eq_false_or_eq_true (kHeld (se, tu, ki, ma, re, kf, L, P) k (kf 0 k + x)) with q | q
                  · exact q
                  · rw [q] at c77; exact absurd rfl c77
                refine ks_iconst hκ 80 (nI 5) dX4_refusal_80 kq_i5 ?_
                refine ks_iret hκ 81 hRt dX4_refusal_81 (by decide) (by decide) rfl ?_
                refine ⟨?_, rfl⟩
                unfold kRef
                first
                  | rw [if_pos c14]
                  | rw [if_neg (fun q => q c14), if_pos c20]
                  | rw [if_neg (fun q => q c14), if_neg c20, if_pos c26]
                  | rw [if_neg (fun q => q c14), if_neg c20, if_neg c26, if_pos c38]
                  | rw [if_neg (fun q => q c14), if_neg c20, if_neg c26, if_neg c38, if_pos c51]
                  | rw [if_neg (fun q => q c14), if_neg c20, if_neg c26, if_neg c38, if_neg c51, if_pos c66]
                  | rw [if_neg (fun q => q c14), if_neg c20, if_neg c26, if_neg c38, if_neg c51, if_neg c66, if_pos c77]
                  | rw [if_neg (fun q => q c14), if_neg c20, if_neg c26, if_neg c38, if_neg c51, if_neg c66, if_neg c77, if_pos c88]
                  | rw [if_neg (fun q => q c14), if_neg c20, if_neg c26, if_neg c38, if_neg c51, if_neg c66, if_neg c77, if_neg c88]
            · skip
              have c66 : kf 1 k < kCost x := Int32.not_le.mp c66
              refine ks_iconst hκ 69 (nI 4) dX4_refusal_69 kq_i4 ?_
              refine ks_iret hκ 70 hRt dX4_refusal_70 (by decide) (by decide) rfl ?_
              refine ⟨?_, rfl⟩
              unfold kRef
              first
                | rw [if_pos c14]
                | rw [if_neg (fun q => q c14), if_pos c20]
                | rw [if_neg (fun q => q c14), if_neg c20, if_pos c26]
                | rw [if_neg (fun q => q c14), if_neg c20, if_neg c26, if_pos c38]
                | rw [if_neg (fun q => q c14), if_neg c20, if_neg c26, if_neg c38, if_pos c51]
                | rw [if_neg (fun q => q c14), if_neg c20, if_neg c26, if_neg c38, if_neg c51, if_pos c66]
                | rw [if_neg (fun q => q c14), if_neg c20, if_neg c26, if_neg c38, if_neg c51, if_neg c66, if_pos c77]
                | rw [if_neg (fun q => q c14), if_neg c20, if_neg c26, if_neg c38, if_neg c51, if_neg c66, if_neg c77, if_pos c88]
                | rw [if_neg (fun q => q c14), if_neg c20, if_neg c26, if_neg c38, if_neg c51, if_neg c66, if_neg c77, if_neg c88]
          · skip
            have c51 : nI 2 * se 0 < 0 - x := Int32.not_le.mp c51
            refine ks_iconst hκ 54 (nI 3) dX4_refusal_54 kq_i3 ?_
            refine ks_iret hκ 55 hRt dX4_refusal_55 (by decide) (by decide) rfl ?_
            refine ⟨?_, rfl⟩
            unfold kRef
            first
              | rw [if_pos c14]
              | rw [if_neg (fun q => q c14), if_pos c20]
              | rw [if_neg (fun q => q c14), if_neg c20, if_pos c26]
              | rw [if_neg (fun q => q c14), if_neg c20, if_neg c26, if_pos c38]
              | rw [if_neg (fun q => q c14), if_neg c20, if_neg c26, if_neg c38, if_pos c51]
              | rw [if_neg (fun q => q c14), if_neg c20, if_neg c26, if_neg c38, if_neg c51, if_pos c66]
              | rw [if_neg (fun q => q c14), if_neg c20, if_neg c26, if_neg c38, if_neg c51, if_neg c66, if_pos c77]
              | rw [if_neg (fun q => q c14), if_neg c20, if_neg c26, if_neg c38, if_neg c51, if_neg c66, if_neg c77, if_pos c88]
              | rw [if_neg (fun q => q c14), if_neg c20, if_neg c26, if_neg c38, if_neg c51, if_neg c66, if_neg c77, if_neg c88]
      · skip
        have c26 : nI 16 ≤ kf 0 k + x := Int32.not_lt.mp c26
        refine ks_iconst hκ 29 (nI 2) dX4_refusal_29 kq_i2 ?_
        refine ks_iret hκ 30 hRt dX4_refusal_30 (by decide) (by decide) rfl ?_
        refine ⟨?_, rfl⟩
        unfold kRef
        first
          | rw [if_pos c14]
          | rw [if_neg (fun q => q c14), if_pos c20]
          | rw [if_neg (fun q => q c14), if_neg c20, if_pos c26]
          | rw [if_neg (fun q => q c14), if_neg c20, if_neg c26, if_pos c38]
          | rw [if_neg (fun q => q c14), if_neg c20, if_neg c26, if_neg c38, if_pos c51]
          | rw [if_neg (fun q => q c14), if_neg c20, if_neg c26, if_neg c38, if_neg c51, if_pos c66]
          | rw [if_neg (fun q => q c14), if_neg c20, if_neg c26, if_neg c38, if_neg c51, if_neg c66, if_pos c77]
          | rw [if_neg (fun q => q c14), if_neg c20, if_neg c26, if_neg c38, if_neg c51, if_neg c66, if_neg c77, if_pos c88]
          | rw [if_neg (fun q => q c14), if_neg c20, if_neg c26, if_neg c38, if_neg c51, if_neg c66, if_neg c77, if_neg c88]
  · skip
    refine ks_iconst hκ 17 (nI 1) dX4_refusal_17 kq_i1 ?_
    refine ks_iret hκ 18 hRt dX4_refusal_18 (by decide) (by decide) rfl ?_
    refine ⟨?_, rfl⟩
    unfold kRef
    first
      | rw [if_pos c14]
      | rw [if_neg (fun q => q c14), if_pos c20]
      | rw [if_neg (fun q => q c14), if_neg c20, if_pos c26]
      | rw [if_neg (fun q => q c14), if_neg c20, if_neg c26, if_pos c38]
      | rw [if_neg (fun q => q c14), if_neg c20, if_neg c26, if_neg c38, if_pos c51]
      | rw [if_neg (fun q => q c14), if_neg c20, if_neg c26, if_neg c38, if_neg c51, if_pos c66]
      | rw [if_neg (fun q => q c14), if_neg c20, if_neg c26, if_neg c38, if_neg c51, if_neg c66, if_pos c77]
      | rw [if_neg (fun q => q c14), if_neg c20, if_neg c26, if_neg c38, if_neg c51, if_neg c66, if_neg c77, if_pos c88]
      | rw [if_neg (fun q => q c14), if_neg c20, if_neg c26, if_neg c38, if_neg c51, if_neg c66, if_neg c77, if_neg c88]
