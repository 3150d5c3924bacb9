/-! COUNTS: what the Model counts, and what the class counts -/
theorem kAt_foldl (e : Nat) : ∀ (L : List (Nat × Nat)) (a : Nat), L.foldl (kAtS e) a = a + kAt e L
  | [], a => rfl
  | p :: L, a => by
    have h1 := kAt_foldl e L (kAtS e a p)
    have h2 := kAt_foldl e L (kAtS e 0 p)
    unfold kAt
    rw [List.foldl_cons, List.foldl_cons, h1, h2]
    unfold kAtS
    split <;> omega
theorem kAt_cons {e : Nat} {p : Nat × Nat} {L : List (Nat × Nat)} : kAt e (p :: L) = (if p.1 = e then 1 else 0) + kAt e L := by
  show (p :: L).foldl (kAtS e) 0 = _
  rw [List.foldl_cons, kAt_foldl]
  unfold kAtS
  split <;> rfl
theorem kRank_out {e : Nat} {r : Int32} : ∀ (L : List (Nat × Nat)) (c : Nat), (∀ d, c ≤ d → d < c + kAt e L → nI d ≠ r) → kRank e r L c = -1
  | [], c, _ => rfl
  | p :: L, c, h => by
    rw [kAt_cons] at h
    unfold kRank
    by_cases hp : p.1 = e
    · rw [if_pos hp] at h ⊢
      rw [if_neg (h c (Nat.le_refl _) (by omega))]
      exact kRank_out L (c + 1) (fun d h1 h2 => h d (by omega) (by omega))
    · rw [if_neg hp] at h ⊢
      exact kRank_out L c (fun d h1 h2 => h d h1 (by omega))
def kRcC (σ : kS) (k e : Nat) : Bool := decide (¬ nI e - σ.2.2.2.2.2.1 0 k = 0) && decide (kRef σ k (nI e - σ.2.2.2.2.2.1 0 k) = 0)
theorem kReach_bit {σ : kS} {k e : Nat} (he : e < 32) : kbt (kReach σ k) e = (decide (e < 16) && kRcC σ k e) := by
  have h0 : kReachS σ k = fun a j => if kRcC σ k j = true then a ||| kBit j else a := by
    funext a j
    unfold kReachS kRcC
    by_cases h1 : nI j - σ.2.2.2.2.2.1 0 k = 0
    · rw [if_pos h1, if_neg (by simp [h1])]
    · rw [if_neg h1]
      by_cases h2 : kRef σ k (nI j - σ.2.2.2.2.2.1 0 k) = 0
      · rw [if_pos h2, if_pos (by simp [h1, h2])]
      · rw [if_neg h2, if_neg (by simp [h2])]
  unfold kReach
  rw [h0, kbt_fold he (nI 0) 16 (by decide), kbt_0, Bool.false_or]
theorem kfold_congr {α β : Type} {F G : α → β → α} : ∀ (l : List β) (a : α), (∀ a b, b ∈ l → F a b = G a b) → l.foldl F a = l.foldl G a
  | [], _, _ => rfl
  | b :: l, a, h => by
    rw [List.foldl_cons, List.foldl_cons, h a b List.mem_cons_self]
    exact kfold_congr l _ (fun a c hc => h a c (List.mem_cons_of_mem _ hc))
theorem kfold_sq {α : Type} (F : α → Nat → α) (n : Nat) : ∀ (k : Nat) (a : α), (List.range (k * n)).foldl F a = (List.range k).foldl (fun a i => (List.range n).foldl (fun a j => F a (i * n + j)) a) a
  | 0, a => by rw [Nat.zero_mul]; rfl
  | k + 1, a => by
    rw [Nat.succ_mul, List.range_add, List.foldl_append, kfold_sq F n k a, List.foldl_map, List.range_succ, List.foldl_append, List.foldl_cons, List.foldl_nil]
theorem kfold_up {c : Nat → Bool} {i : Nat} : ∀ (n a : Nat), (List.range n).foldl (fun a j => if i < j ∧ c j = true then a + 1 else a) a = ((List.range n).drop (i + 1)).foldl (fun a j => if c j = true then a + 1 else a) a
  | 0, a => by rw [List.range_zero, List.drop_nil]; rfl
  | n + 1, a => by
    rw [List.range_succ, List.foldl_append, kfold_up n a, List.foldl_cons, List.foldl_nil]
    by_cases h : i < n
    · rw [List.drop_append_of_le_length (by rw [List.length_range]; omega), List.foldl_append, List.foldl_cons, List.foldl_nil]
      by_cases hc : c n = true
      · rw [if_pos ⟨h, hc⟩, if_pos hc]
      · rw [if_neg (fun q => hc q.2), if_neg hc]
    · rw [if_neg (fun q => h q.1), List.drop_eq_nil_of_le (by rw [List.length_range]; omega), List.drop_eq_nil_of_le (by rw [List.length_append, List.length_range]; show n + 1 ≤ i + 1; omega)]
theorem kbt_band {x : Int32} {e : Nat} (he : e < 16) : x &&& kBit e = 0 ↔ kbt x e = false := by
  constructor
  · intro h
    have h1 : kbt (x &&& kBit e) e = kbt (nI 0) e := by rw [h]; rfl
    rw [kbt_and, kbt_bit he (by omega), decide_eq_true rfl, Bool.and_true, kbt_0] at h1
    exact h1
  · intro h
    refine kbt_ext (fun j hj => ?_)
    rw [kbt_and, kbt_bit he hj]
    show _ = kbt (nI 0) j
    rw [kbt_0]
    by_cases q : e = j
    · subst q; rw [h]; rfl
    · rw [decide_eq_false q, Bool.and_false]
def kPqS (e ki : Nat) (L : List (Nat × Nat)) (a k : Nat) : Nat := if k / ki < k % ki ∧ 2 < (kPt e (k / ki) (k % ki) L).2 then a + 1 else a
theorem kPairs_sq {σ : kS} {e : Nat} (he : e < 15) (hL : ∀ p ∈ σ.2.2.2.2.2.2.1, p.1 < 15) : (List.range (σ.2.2.1 * σ.2.2.1)).foldl (kPqS e σ.2.2.1 σ.2.2.2.2.2.2.1) 0 = kPairs σ (kBit e) := by
  rw [kfold_sq]
  unfold kPairs
  refine kfold_congr _ _ (fun a i hi => ?_)
  have hi2 := List.mem_range.mp hi
  have h0 : kPairS σ.2.2.2.2.2.2.1 (kBit e) i = fun a j => if decide (¬ kBes i j σ.2.2.2.2.2.2.1 &&& kBit e = 0) = true then a + 1 else a := by
    funext a j
    unfold kPairS
    by_cases q : kBes i j σ.2.2.2.2.2.2.1 &&& kBit e = 0
    · rw [if_pos q, if_neg (by simp [q])]
    · rw [if_neg q, if_pos (by simp [q])]
  unfold kPairT
  rw [h0, ← kfold_up]
  refine kfold_congr _ _ (fun a j hj => ?_)
  have hj2 := List.mem_range.mp hj
  have hd : (i * σ.2.2.1 + j) / σ.2.2.1 = i := by
    rw [Nat.mul_comm, Nat.mul_add_div (by omega), Nat.div_eq_of_lt hj2, Nat.add_zero]
  have hm : (i * σ.2.2.1 + j) % σ.2.2.1 = j := by
    rw [Nat.mul_comm, Nat.mul_add_mod, Nat.mod_eq_of_lt hj2]
  unfold kPqS
  rw [hd, hm]
  by_cases hij : i < j
  · have hb : kbt (kBes i j σ.2.2.2.2.2.2.1) e = decide (2 < (kPt e i j σ.2.2.2.2.2.2.1).2) := kBes_bit (by omega) (by omega) hL
    by_cases q : 2 < (kPt e i j σ.2.2.2.2.2.2.1).2
    · rw [if_pos ⟨hij, q⟩, if_pos ⟨hij, decide_eq_true (fun z => by rw [(kbt_band (by omega)).mp z, decide_eq_true q] at hb; cases hb)⟩]
    · rw [if_neg (fun z => q z.2), if_neg (fun (z : i < j ∧ decide (¬ kBes i j σ.2.2.2.2.2.2.1 &&& kBit e = 0) = true) => (of_decide_eq_true z.2) ((kbt_band (by omega)).mpr (by rw [hb, decide_eq_false q])))]
  · rw [if_neg (fun z => hij z.1), if_neg (fun z => hij z.1)]
def kOnes (x : Int32) : Nat := (List.range 16).foldl (fun a j => a + if kbt x j = true then 1 else 0) 0
theorem kOnes_le0 {x : Int32} : ∀ (l : List Nat) (a : Nat), l.foldl (fun a j => a + if kbt x j = true then 1 else 0) a ≤ a + l.length
  | [], a => Nat.le_refl _
  | j :: l, a => by
    rw [List.foldl_cons, List.length_cons]
    refine Nat.le_trans (kOnes_le0 l _) ?_
    split <;> omega
theorem kPairs_w (w : Nat → Nat → Nat) (hs : ∀ i j, w i j = w j i) (n : Nat) (hn : n ≤ 6) : (List.range n).foldl (fun a k => a + (List.range 16).foldl (fun a j => a + if j < n ∧ j ≠ k then w k j else 0) 0) 0 = 2 * (List.range n).foldl (fun a i => ((List.range n).drop (i + 1)).foldl (fun a j => a + w i j) a) 0 := by
  have h10 := hs 1 0
  have h20 := hs 2 0
  have h21 := hs 2 1
  have h30 := hs 3 0
  have h31 := hs 3 1
  have h32 := hs 3 2
  have h40 := hs 4 0
  have h41 := hs 4 1
  have h42 := hs 4 2
  have h43 := hs 4 3
  have h50 := hs 5 0
  have h51 := hs 5 1
  have h52 := hs 5 2
  have h53 := hs 5 3
  have h54 := hs 5 4
  rw [show List.range 16 = [0, 1, 2, 3, 4, 5, 6, 7, 8, 9, 10, 11, 12, 13, 14, 15] from rfl]
  rcases (show n = 0 ∨ n = 1 ∨ n = 2 ∨ n = 3 ∨ n = 4 ∨ n = 5 ∨ n = 6 by omega) with rfl | rfl | rfl | rfl | rfl | rfl | rfl
  · rfl
  · rw [show List.range 1 = [0] from rfl]
    simp
  · rw [show List.range 2 = [0, 1] from rfl]
    simp
    omega
  · rw [show List.range 3 = [0, 1, 2] from rfl]
    simp
    omega
  · rw [show List.range 4 = [0, 1, 2, 3] from rfl]
    simp
    omega
  · rw [show List.range 5 = [0, 1, 2, 3, 4] from rfl]
    simp
    omega
  · rw [show List.range 6 = [0, 1, 2, 3, 4, 5] from rfl]
    simp
    omega
theorem kBes_mask {i j : Nat} {L : List (Nat × Nat)} (hij : i ≠ j) (hL : ∀ p ∈ L, p.1 < 15) : kBes i j L &&& nI 32767 = kBes i j L := kbt_ext (fun e he => by
  rw [kbt_and]
  have q : ∀ e : Fin 32, kbt (nI 32767) e.val = decide (e.val < 15) := by decide +kernel
  have q1 := q ⟨e, he⟩
  dsimp only at q1
  rw [q1]
  by_cases h : e < 15
  · rw [decide_eq_true h, Bool.and_true]
  · rw [decide_eq_false h, Bool.and_false, kBes_bit hij he hL]
    unfold kPt
    rw [kPt_hi (by omega) L _ hL]
    rfl)
def kOnS (σ : kS) (a k : Nat) : Nat := a + kOnes (kBSet σ k)
theorem kPairs_2 {σ : kS} (hki : σ.2.2.1 ≤ 6) (hL : ∀ p ∈ σ.2.2.2.2.2.2.1, p.1 < 15) : (List.range σ.2.2.1).foldl (kOnS σ) 0 = 2 * kPairs σ (nI 32767) := by
  have h := kPairs_w (fun i j => if i = j then 0 else if kBes i j σ.2.2.2.2.2.2.1 = 0 then 0 else 1) (fun i j => by
    by_cases q : i = j
    · rw [if_pos q, if_pos q.symm]
    · rw [if_neg q, if_neg (show ¬ j = i from fun z => q z.symm), kBes_comm q hL]) σ.2.2.1 hki
  refine Eq.trans ?_ (h.trans ?_)
  · refine kfold_congr _ _ (fun a k hk => ?_)
    unfold kOnS
    congr 1
    unfold kOnes
    refine kfold_congr _ _ (fun a j hj => ?_)
    have hj2 := List.mem_range.mp hj
    rw [kBSet_bit (by omega) hki]
    by_cases h1 : j < σ.2.2.1
    · by_cases h2 : j = k
      · rw [if_neg (by simp [h2]), if_neg (by simp [h2])]
      · rw [if_pos (show j < σ.2.2.1 ∧ j ≠ k from ⟨h1, h2⟩), if_neg (show ¬ k = j from fun z => h2 z.symm)]
        by_cases h3 : kBes k j σ.2.2.2.2.2.2.1 = 0
        · rw [if_neg (by simp [h3]), if_pos h3]
        · rw [if_pos (by simp [h1, h2, h3]), if_neg h3]
    · rw [if_neg (by simp [h1]), if_neg (fun z => h1 z.1)]
  · congr 1
    unfold kPairs
    refine kfold_congr _ _ (fun a i hi => ?_)
    unfold kPairT
    refine kfold_congr _ _ (fun a j hj => ?_)
    have hij : i ≠ j := by
      obtain ⟨d, hd⟩ := List.mem_iff_getElem?.mp hj
      rw [List.getElem?_drop, List.getElem?_range (by
        have := (List.getElem?_eq_some_iff.mp hd).1
        rw [List.length_range] at this
        exact this)] at hd
      have := Option.some.inj hd
      omega
    unfold kPairS
    rw [kBes_mask hij hL, if_neg hij]
    by_cases h3 : kBes i j σ.2.2.2.2.2.2.1 = 0
    · rw [if_pos h3, if_pos h3, Nat.add_zero]
    · rw [if_neg h3, if_neg h3]
/-! how few strands have to go -/
def kSoS (e lo up : Nat) (q : Nat × Nat) (p : Nat × Nat) : Nat × Nat := if p.1 = e then (if p.2 = lo then (q.1 - 1, min q.2 (q.1 - 1)) else if p.2 = up then (q.1 + 1, min q.2 (q.1 + 1)) else (q.1, min q.2 q.1)) else (q.1, min q.2 q.1)
def kSo (e lo up : Nat) (L : List (Nat × Nat)) : Nat × Nat := L.foldl (kSoS e lo up) (kStA e lo L, kStA e lo L)
theorem kStA_foldl (e k : Nat) : ∀ (L : List (Nat × Nat)) (a : Nat), L.foldl (kStAS e k) a = a + kStA e k L
  | [], a => rfl
  | p :: L, a => by
    have h1 := kStA_foldl e k L (kStAS e k a p)
    have h2 := kStA_foldl e k L (kStAS e k 0 p)
    unfold kStA
    rw [List.foldl_cons, List.foldl_cons, h1, h2]
    unfold kStAS
    split <;> omega
theorem kStA_cons {e k : Nat} {p : Nat × Nat} {L : List (Nat × Nat)} : kStA e k (p :: L) = (if p.1 = e ∧ p.2 = k then 1 else 0) + kStA e k L := by
  show (p :: L).foldl (kStAS e k) 0 = _
  rw [List.foldl_cons, kStA_foldl]
  unfold kStAS
  split <;> rfl
theorem kSo_kept {e lo up : Nat} (hne : lo ≠ up) : ∀ (L : List (Nat × Nat)) (x z q t n T : Nat), x + kStA e lo L = T → q + x = T + (n - x) → x ≤ n → max z x + t = T + (n - x) → (L.foldl (kSoS e lo up) (q, t)).2 + max (L.foldl (kKeptS e lo up) (x, z)).2 (L.foldl (kKeptS e lo up) (x, z)).1 = L.foldl (kBothS e lo up) n
  | [], x, z, q, t, n, T, h1, h2, h3, h4 => by
    have h5 : x + 0 = T := h1
    show t + max z x = n
    omega
  | (e1, o1) :: L, x, z, q, t, n, T, h1, h2, h3, h4 => by
    rw [kStA_cons] at h1
    rw [List.foldl_cons, List.foldl_cons, List.foldl_cons]
    dsimp only at h1
    by_cases he : e1 = e
    · by_cases ho : o1 = lo
      · rw [if_pos ⟨he, ho⟩] at h1
        rw [kKeptS_1 he ho, show kSoS e lo up (q, t) (e1, o1) = (q - 1, min t (q - 1)) from (if_pos he).trans (if_pos ho), show kBothS e lo up n (e1, o1) = n + 1 from if_pos ⟨he, Or.inl ho⟩]
        exact kSo_kept hne L (x + 1) z (q - 1) (min t (q - 1)) (n + 1) T (by omega) (by omega) (by omega) (by omega)
      · rw [if_neg (fun z => ho z.2)] at h1
        by_cases hu : o1 = up
        · rw [kKeptS_2 he ho hu, show kSoS e lo up (q, t) (e1, o1) = (q + 1, min t (q + 1)) from (if_pos he).trans ((if_neg ho).trans (if_pos hu)), show kBothS e lo up n (e1, o1) = n + 1 from if_pos ⟨he, Or.inr hu⟩]
          exact kSo_kept hne L x (max z x + 1) (q + 1) (min t (q + 1)) (n + 1) T (by omega) (by omega) (by omega) (by omega)
        · rw [kKeptS_3 he ho hu, show kSoS e lo up (q, t) (e1, o1) = (q, min t q) from (if_pos he).trans ((if_neg ho).trans (if_neg hu)), show kBothS e lo up n (e1, o1) = n from if_neg (fun z => z.2.elim ho hu)]
          exact kSo_kept hne L x z q (min t q) n T (by omega) h2 h3 (by omega)
    · rw [if_neg (fun z => he z.1)] at h1
      rw [kKeptS_0 he, show kSoS e lo up (q, t) (e1, o1) = (q, min t q) from if_neg he, show kBothS e lo up n (e1, o1) = n from if_neg (fun z => he z.1)]
      exact kSo_kept hne L x z q (min t q) n T (by omega) h2 h3 (by omega)
theorem kSo_both {e lo up : Nat} {L : List (Nat × Nat)} (hne : lo ≠ up) : (kSo e lo up L).2 + kKept e lo up L = kBoth e lo up L := kSo_kept hne L 0 0 _ _ 0 (kStA e lo L) (Nat.zero_add _) rfl (Nat.le_refl _) (by omega)
theorem kBoth_comm {e a b : Nat} {L : List (Nat × Nat)} : kBoth e a b L = kBoth e b a L := by
  unfold kBoth
  congr 1
  funext n p
  unfold kBothS
  simp only [Or.comm]
theorem kGone_eq {e a b : Nat} {L : List (Nat × Nat)} (hne : a ≠ b) : kGone e a b L = nI (min (kSo e a b L).2 (kSo e b a L).2) := by
  have h1 := kSo_both (e := e) (L := L) hne
  have h2 := kSo_both (e := e) (L := L) (fun q => hne q.symm)
  rw [kBoth_comm (a := b)] at h2
  unfold kGone
  rw [pk_sub (by omega)]
  congr 1
  omega
/-! when all is quiet -/
theorem kMaxI_toInt {x y : Int32} : (kMaxI x y).toInt = max x.toInt y.toInt := by
  unfold kMaxI
  by_cases h : x < y
  · rw [if_pos h]; rw [Int32.lt_iff_toInt_lt] at h; omega
  · rw [if_neg h]; rw [Int32.lt_iff_toInt_lt] at h; omega
theorem kWaking_spec {f : Nat → Int32} : ∀ (n : Nat), (∀ j, j < n → (f j).toInt ≤ ((List.range n).foldl (fun a j => kMaxI a (f j)) (-6)).toInt) ∧ ((List.range n).foldl (fun a j => kMaxI a (f j)) (-6) = -6 ∨ ∃ j, j < n ∧ f j = (List.range n).foldl (fun a j => kMaxI a (f j)) (-6)) ∧ -6 ≤ ((List.range n).foldl (fun a j => kMaxI a (f j)) (-6)).toInt
  | 0 => ⟨fun j hj => absurd hj (Nat.not_lt_zero j), Or.inl rfl, by show -6 ≤ (-6 : Int32).toInt; decide⟩
  | n + 1 => by
    obtain ⟨h1, h2, h3⟩ := kWaking_spec (f := f) n
    rw [List.range_succ, List.foldl_append, List.foldl_cons, List.foldl_nil]
    refine ⟨fun j hj => ?_, ?_, ?_⟩
    · rw [kMaxI_toInt]
      by_cases q : j = n
      · subst q; omega
      · have := h1 j (by omega); omega
    · by_cases q : (List.range n).foldl (fun a j => kMaxI a (f j)) (-6) < f n
      · refine Or.inr ⟨n, Nat.lt_succ_self n, ?_⟩
        exact (show kMaxI _ (f n) = f n from if_pos q).symm
      · have e : kMaxI ((List.range n).foldl (fun a j => kMaxI a (f j)) (-6)) (f n) = (List.range n).foldl (fun a j => kMaxI a (f j)) (-6) := if_neg q
        rw [e]
        rcases h2 with h2 | ⟨j, a, b⟩
        · exact Or.inl h2
        · exact Or.inr ⟨j, by omega, b⟩
    · rw [kMaxI_toInt]; omega
/-- plans are sorted by their turns -/
def kSrt (P : List kP) : Prop := P.Pairwise (fun p q => p.1.toInt ≤ q.1.toInt)
theorem kLast_spec {P : List kP} (h : kSrt P) (hb : ∀ p ∈ P, 0 ≤ p.1.toInt) : (∀ p ∈ P, p.1.toInt ≤ (kLast P).toInt) ∧ (kLast P = -6 ∨ ∃ p ∈ P, p.1 = kLast P) ∧ -6 ≤ (kLast P).toInt := by
  rcases List.eq_nil_or_concat P with rfl | ⟨Q, q, hPc⟩
  · exact ⟨fun p hp => (List.not_mem_nil hp).elim, Or.inl rfl, by decide⟩
  · rw [List.concat_eq_append] at hPc
    subst hPc
    have e : kLast (Q ++ [q]) = q.1 := by
      unfold kLast
      rw [List.getLast?_concat]
    rw [e]
    refine ⟨fun p hp => ?_, Or.inr ⟨q, List.mem_append_right _ List.mem_cons_self, rfl⟩, by have := hb q (List.mem_append_right _ List.mem_cons_self); omega⟩
    rcases List.mem_append.mp hp with h1 | h1
    · exact (List.pairwise_append.mp h).2.2 p h1 q List.mem_cons_self
    · rw [List.mem_singleton.mp h1]; exact Int.le_refl _
theorem kQu_eq {σ : kS} {n v : Nat} (htu : σ.2.1 = nI n) (hn : n ≤ 9999) (hv : v ≤ 20000) (hnv : n ≤ v) (hs : kSrt σ.2.2.2.2.2.2.2) (hp : ∀ p ∈ σ.2.2.2.2.2.2.2, 0 ≤ p.1.toInt)
    (h1 : ∀ j, j < σ.2.2.1 → (σ.2.2.2.2.2.1 2 j).toInt ≤ v) (h2 : ∀ p ∈ σ.2.2.2.2.2.2.2, p.1.toInt ≤ v) (h3 : v = n ∨ (∃ j, j < σ.2.2.1 ∧ σ.2.2.2.2.2.1 2 j = nI v) ∨ ∃ p ∈ σ.2.2.2.2.2.2.2, p.1 = nI v) : kQuQ σ = nI (v - n) := by
  obtain ⟨a1, a2, a3⟩ := kWaking_spec (f := σ.2.2.2.2.2.1 2) σ.2.2.1
  obtain ⟨b1, b2, b3⟩ := kLast_spec hs hp
  have hvt : (nI v).toInt = v := nI_toInt (by omega)
  have hW : (kWaking σ).toInt ≤ v ∧ (-6 : Int) ≤ (kWaking σ).toInt := by
    refine ⟨?_, a3⟩
    unfold kWaking
    rcases a2 with q | ⟨j, c1, c2⟩
    · rw [q]; show (-6 : Int) ≤ v; omega
    · rw [← c2]; exact h1 j c1
  have hL : (kLast σ.2.2.2.2.2.2.2).toInt ≤ v ∧ (-6 : Int) ≤ (kLast σ.2.2.2.2.2.2.2).toInt := by
    refine ⟨?_, b3⟩
    rcases b2 with q | ⟨p, c1, c2⟩
    · rw [q]; show (-6 : Int) ≤ v; omega
    · rw [← c2]; exact h2 p c1
  have hM : max (n : Int) (max (kWaking σ).toInt (kLast σ.2.2.2.2.2.2.2).toInt) = (v : Int) := by
    rcases h3 with q | ⟨j, c1, c2⟩ | ⟨p, c1, c2⟩
    · omega
    · have := a1 j c1
      rw [c2, hvt] at this
      have h9 : (v : Int) ≤ (kWaking σ).toInt := this
      omega
    · have := b1 p c1
      rw [c2, hvt] at this
      omega
  refine Int32.toInt_inj.mp ?_
  unfold kQuQ
  rw [kMaxI_toInt, htu, nI_toInt (by omega)]
  have hsub : (kMaxI (kWaking σ) (kLast σ.2.2.2.2.2.2.2) - nI n).toInt = max (kWaking σ).toInt (kLast σ.2.2.2.2.2.2.2).toInt - n := by
    rw [Int32.toInt_sub, kMaxI_toInt, nI_toInt (by omega), Int.bmod_eq_of_le (by omega) (by omega)]
  rw [hsub, nI_toInt (show v - n < 2 ^ 31 by omega)]
  omega
