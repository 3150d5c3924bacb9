/-! BITS of an Int32; where two kittens are bound -/
def kbt (x : Int32) (e : Nat) : Bool := x.toBitVec.getLsbD e
theorem kbt_or {x y : Int32} {e : Nat} : kbt (x ||| y) e = (kbt x e || kbt y e) := by
  unfold kbt
  rw [Int32.toBitVec_or, BitVec.getLsbD_or]
theorem kbt_and {x y : Int32} {e : Nat} : kbt (x &&& y) e = (kbt x e && kbt y e) := by
  unfold kbt
  rw [Int32.toBitVec_and, BitVec.getLsbD_and]
theorem kbt_not {x : Int32} {e : Nat} (h : e < 32) : kbt (x ^^^ (-1)) e = !kbt x e := by
  unfold kbt
  rw [Int32.toBitVec_xor, BitVec.getLsbD_xor, show (-1 : Int32).toBitVec = BitVec.allOnes 32 by decide, BitVec.getLsbD_allOnes, decide_eq_true h, Bool.xor_true]
theorem kbt_0 {e : Nat} : kbt (nI 0) e = false := by
  unfold kbt
  rw [show (nI 0).toBitVec = 0#32 by decide, BitVec.getLsbD_zero]
theorem kbt_bit {j e : Nat} (hj : j < 16) (he : e < 32) : kbt (kBit j) e = decide (j = e) := by
  have q : ∀ j : Fin 16, ∀ e : Fin 32, kbt (kBit j.val) e.val = decide (j.val = e.val) := by decide +kernel
  exact q ⟨j, hj⟩ ⟨e, he⟩
theorem kbt_ext {x y : Int32} (h : ∀ e, e < 32 → kbt x e = kbt y e) : x = y := Int32.toBitVec_inj.mp (BitVec.eq_of_getLsbD_eq (fun i hi => h i hi))
theorem kbt_1 {x : Int32} : x &&& nI 1 = if kbt x 0 = true then nI 1 else nI 0 := by
  refine kbt_ext (fun e he => ?_)
  rw [kbt_and]
  have h1 : kbt (nI 1) e = decide (0 = e) := by
    rw [show nI 1 = kBit 0 by decide]
    exact kbt_bit (by decide) he
  rw [h1]
  by_cases h : 0 = e
  · subst h
    rw [decide_eq_true rfl, Bool.and_true]
    by_cases q : kbt x 0 = true
    · rw [if_pos q, q, show nI 1 = kBit 0 by decide, kbt_bit (by decide) (by decide)]; rfl
    · rw [if_neg q, kbt_0]
      cases q2 : kbt x 0 with
      | true => exact absurd q2 q
      | false => rfl
  · rw [decide_eq_false h, Bool.and_false]
    by_cases q : kbt x 0 = true
    · rw [if_pos q, show nI 1 = kBit 0 by decide, kbt_bit (by decide) he, decide_eq_false h]
    · rw [if_neg q, kbt_0]
theorem kbt_shr {x : Int32} {j : Nat} (hj : j < 16) : kbt (x >>> (nI j &&& 31)) 0 = kbt x j := by
  unfold kbt
  rw [Int32.toBitVec_shiftRight, BitVec.getLsbD_sshiftRight']
  have q : ∀ j : Fin 16, ((nI j.val &&& 31).toBitVec.smod 32).toNat = j.val := by decide +kernel
  have q1 := q ⟨j, hj⟩
  dsimp only at q1
  rw [q1, if_pos (by omega)]
  rfl
theorem kbt_sh {x : Int32} {j : Nat} (hj : j < 16) : (x >>> (nI j &&& 31)) &&& nI 1 = nI 1 ↔ kbt x j = true := by
  rw [kbt_1, kbt_shr hj]
  by_cases q : kbt x j = true
  · rw [if_pos q]; exact ⟨fun _ => q, fun _ => rfl⟩
  · rw [if_neg q]; exact ⟨fun z => absurd z (by decide), fun z => absurd z q⟩
theorem kbt_fold {c : Nat → Bool} {e : Nat} (he : e < 32) (s : Int32) : ∀ n, n ≤ 16 → kbt ((List.range n).foldl (fun s j => if c j = true then s ||| kBit j else s) s) e = (kbt s e || (decide (e < n) && c e))
  | 0, _ => by rw [List.range_zero, List.foldl_nil, decide_eq_false (Nat.not_lt_zero e), Bool.false_and, Bool.or_false]
  | n + 1, hn => by
    rw [List.range_succ, List.foldl_append, List.foldl_cons, List.foldl_nil]
    have ih := kbt_fold (c := c) he s n (by omega)
    by_cases hc : c n = true
    · rw [if_pos hc, kbt_or, ih, kbt_bit (by omega) he]
      by_cases hne : n = e
      · subst hne
        rw [decide_eq_true rfl, Bool.or_true, decide_eq_true (Nat.lt_succ_self n), hc, Bool.true_and, Bool.or_true]
      · rw [decide_eq_false hne, Bool.or_false]
        by_cases hl : e < n
        · rw [decide_eq_true hl, decide_eq_true (Nat.lt_succ_of_lt hl)]
        · rw [decide_eq_false hl, decide_eq_false (by omega)]
    · rw [if_neg hc, ih]
      by_cases hne : n = e
      · subst hne
        rw [decide_eq_false (Nat.lt_irrefl n), decide_eq_true (Nat.lt_succ_self n)]
        cases q2 : c n with
        | true => exact absurd q2 hc
        | false => rfl
      · by_cases hl : e < n
        · rw [decide_eq_true hl, decide_eq_true (Nat.lt_succ_of_lt hl)]
        · rw [decide_eq_false hl, decide_eq_false (by omega)]
/-- the last of two kittens' strands at an edge, and how many parts there are -/
def kPtS (e a b : Nat) (q : Option Nat × Nat) (p : Nat × Nat) : Option Nat × Nat := if p.1 = e then (if p.2 = a ∨ p.2 = b then (some p.2, if q.1 = some p.2 then q.2 else q.2 + 1) else q) else q
def kPt (e a b : Nat) (L : List (Nat × Nat)) : Option Nat × Nat := L.foldl (kPtS e a b) (none, 0)
theorem kPtS_1 {e a b e1 o1 : Nat} {q : Option Nat × Nat} (h : e1 = e) (h2 : o1 = a ∨ o1 = b) : kPtS e a b q (e1, o1) = (some o1, if q.1 = some o1 then q.2 else q.2 + 1) := (if_pos h).trans (if_pos h2)
theorem kPtS_2 {e a b e1 o1 : Nat} {q : Option Nat × Nat} (h2 : ¬ (o1 = a ∨ o1 = b)) : kPtS e a b q (e1, o1) = q := by
  unfold kPtS
  dsimp only
  rw [if_neg h2, ite_self]
theorem kPtS_3 {e a b e1 o1 : Nat} {q : Option Nat × Nat} (h : ¬ e1 = e) : kPtS e a b q (e1, o1) = q := if_neg h
def kPtQ (a b e : Nat) (x y z w : Int32) (q : Option Nat × Nat) : Prop := kbt x e = decide (q.1 = some a) ∧ kbt y e = decide (q.1 = some b) ∧ kbt z e = decide (1 < q.2) ∧ kbt w e = decide (2 < q.2) ∧ (q.1 = none ∧ q.2 = 0 ∨ q.1 = some a ∧ 0 < q.2 ∨ q.1 = some b ∧ 0 < q.2)
theorem kPtQ_step {a b e e1 o1 : Nat} (hab : a ≠ b) (he : e < 32) (he1 : e1 < 15) {x y z w : Int32} {q : Option Nat × Nat} (h : kPtQ a b e x y z w q) : kPtQ a b e (kbS a b (x, y, z, w) (e1, o1)).1 (kbS a b (x, y, z, w) (e1, o1)).2.1 (kbS a b (x, y, z, w) (e1, o1)).2.2.1 (kbS a b (x, y, z, w) (e1, o1)).2.2.2 (kPtS e a b q (e1, o1)) := by
  obtain ⟨hx, hy, hz, hw, hq⟩ := h
  obtain ⟨ql, qn⟩ := q
  dsimp only at hx hy hz hw hq
  have hba : ¬ b = a := fun q => hab q.symm
  by_cases ha : o1 = a
  · rw [kbS_1 ha]
    dsimp only
    by_cases hee : e1 = e
    · have hB : kbt (kBit e1) e = true := by rw [kbt_bit (by omega) he, decide_eq_true hee]
      rw [kPtS_1 hee (Or.inl ha)]
      subst ha
      unfold kPtQ
      dsimp only
      rw [kbt_or, kbt_and, kbt_not he, kbt_or, kbt_and, kbt_or, kbt_and, kbt_and, hB, hx, hy, hz, hw]
      rcases hq with ⟨h1, h2⟩ | ⟨h1, h2⟩ | ⟨h1, h2⟩
      · subst h1; subst h2; simp [hab]
      · subst h1; simp [hab, h2]
      · subst h1
        obtain ⟨qm, rfl⟩ : ∃ qm, qn = qm + 1 := ⟨qn - 1, by omega⟩
        refine ⟨by simp, by simp [hab], by simp [hba], ?_, Or.inr (Or.inl ⟨rfl, by rw [if_neg (by simp [hba])]; omega⟩)⟩
        rw [decide_eq_true rfl, if_neg (by simp [hba]), Bool.true_and, Bool.true_and, Bool.eq_iff_iff]
        simp only [Bool.or_eq_true, decide_eq_true_eq]
        omega
    · have hB : kbt (kBit e1) e = false := by rw [kbt_bit (by omega) he, decide_eq_false hee]
      rw [kPtS_3 hee]
      unfold kPtQ
      dsimp only
      rw [kbt_or, kbt_and, kbt_not he, kbt_or, kbt_and, kbt_or, kbt_and, kbt_and, hB, hx, hy, hz, hw]
      simp [hq]
  · by_cases hb : o1 = b
    · rw [kbS_2 ha hb]
      dsimp only
      by_cases hee : e1 = e
      · have hB : kbt (kBit e1) e = true := by rw [kbt_bit (by omega) he, decide_eq_true hee]
        rw [kPtS_1 hee (Or.inr hb)]
        subst hb
        unfold kPtQ
        dsimp only
        rw [kbt_or, kbt_and, kbt_not he, kbt_or, kbt_and, kbt_or, kbt_and, kbt_and, hB, hx, hy, hz, hw]
        rcases hq with ⟨h1, h2⟩ | ⟨h1, h2⟩ | ⟨h1, h2⟩
        · subst h1; subst h2; simp [hba]
        · subst h1
          obtain ⟨qm, rfl⟩ : ∃ qm, qn = qm + 1 := ⟨qn - 1, by omega⟩
          refine ⟨by simp [hba], by simp, by simp [hab], ?_, Or.inr (Or.inr ⟨rfl, by rw [if_neg (by simp [hab])]; omega⟩)⟩
          rw [decide_eq_true rfl, if_neg (by simp [hab]), Bool.true_and, Bool.true_and, Bool.eq_iff_iff]
          simp only [Bool.or_eq_true, decide_eq_true_eq]
          omega
        · subst h1; simp [hba, h2]
      · have hB : kbt (kBit e1) e = false := by rw [kbt_bit (by omega) he, decide_eq_false hee]
        rw [kPtS_3 hee]
        unfold kPtQ
        dsimp only
        rw [kbt_or, kbt_and, kbt_not he, kbt_or, kbt_and, kbt_or, kbt_and, kbt_and, hB, hx, hy, hz, hw]
        simp [hq]
    · rw [kbS_3 ha hb, kPtS_2 (fun q => q.elim ha hb)]
      exact ⟨hx, hy, hz, hw, hq⟩
theorem kPtQ_fold {a b e : Nat} (hab : a ≠ b) (he : e < 32) : ∀ (L : List (Nat × Nat)) (x y z w : Int32) (q : Option Nat × Nat), (∀ p ∈ L, p.1 < 15) → kPtQ a b e x y z w q → kbt (L.foldl (kbS a b) (x, y, z, w)).2.2.2 e = decide (2 < (L.foldl (kPtS e a b) q).2)
  | [], _, _, _, _, _, _, h => h.2.2.2.1
  | (e1, o1) :: L, x, y, z, w, q, hL, h => by
    rw [List.foldl_cons, List.foldl_cons]
    exact kPtQ_fold hab he L _ _ _ _ _ (fun p hp => hL p (List.mem_cons_of_mem _ hp)) (kPtQ_step hab he (hL (e1, o1) List.mem_cons_self) h)
theorem kBes_bit {a b e : Nat} {L : List (Nat × Nat)} (hab : a ≠ b) (he : e < 32) (hL : ∀ p ∈ L, p.1 < 15) : kbt (kBes a b L) e = decide (2 < (kPt e a b L).2) := kPtQ_fold hab he L _ _ _ _ (none, 0) hL ⟨kbt_0, kbt_0, kbt_0, kbt_0, Or.inl ⟨rfl, rfl⟩⟩
theorem kPt_hi {a b e : Nat} (he : 15 ≤ e) : ∀ (L : List (Nat × Nat)) (q : Option Nat × Nat), (∀ p ∈ L, p.1 < 15) → L.foldl (kPtS e a b) q = q
  | [], _, _ => rfl
  | (e1, o1) :: L, q, hL => by
    have h1 := hL (e1, o1) List.mem_cons_self
    dsimp only at h1
    rw [List.foldl_cons, kPtS_3 (by omega)]
    exact kPt_hi he L q (fun p hp => hL p (List.mem_cons_of_mem _ hp))
def kBEdS (a b : Nat) (L : List (Nat × Nat)) (s : Int32) (e : Nat) : Int32 := if decide (2 < (kPt e a b L).2) = true then s ||| kBit e else s
theorem kBes_edges {a b : Nat} {L : List (Nat × Nat)} (hab : a ≠ b) (hL : ∀ p ∈ L, p.1 < 15) : (List.range 15).foldl (kBEdS a b L) (nI 0) = kBes a b L := by
  refine kbt_ext (fun e he => ?_)
  rw [kBes_bit hab he hL]
  have := kbt_fold (c := fun e => decide (2 < (kPt e a b L).2)) he (nI 0) 15 (by decide)
  refine Eq.trans this ?_
  rw [kbt_0, Bool.false_or]
  by_cases h : e < 15
  · rw [decide_eq_true h, Bool.true_and]
  · rw [decide_eq_false h, Bool.false_and]
    unfold kPt
    rw [kPt_hi (by omega) L _ hL]
    rfl
theorem kPt_comm {e a b : Nat} {L : List (Nat × Nat)} : kPt e a b L = kPt e b a L := by
  unfold kPt
  congr 1
  funext q p
  unfold kPtS
  simp only [Or.comm]
theorem kBes_comm {a b : Nat} {L : List (Nat × Nat)} (hab : a ≠ b) (hL : ∀ p ∈ L, p.1 < 15) : kBes a b L = kBes b a L := kbt_ext (fun e he => by rw [kBes_bit hab he hL, kBes_bit (fun q => hab q.symm) he hL, kPt_comm])
theorem kBSet_bit {σ : kS} {k e : Nat} (he : e < 32) (hki : σ.2.2.1 ≤ 6) : kbt (kBSet σ k) e = (decide (e < σ.2.2.1) && (decide (e ≠ k) && decide (¬ kBes k e σ.2.2.2.2.2.2.1 = 0))) := by
  have h0 : kBSetS σ k = fun a j => if (decide (j ≠ k) && decide (¬ kBes k j σ.2.2.2.2.2.2.1 = 0)) = true then a ||| kBit j else a := by
    funext a j
    unfold kBSetS
    by_cases h1 : j = k
    · rw [if_pos h1, if_neg (by simp [h1])]
    · rw [if_neg h1]
      by_cases h2 : kBes k j σ.2.2.2.2.2.2.1 = 0
      · rw [if_pos h2, if_neg (by simp [h2])]
      · rw [if_neg h2, if_pos (by simp [h1, h2])]
  unfold kBSet
  rw [h0, kbt_fold he (nI 0) _ (by omega), kbt_0, Bool.false_or]
theorem kHeldQ_i {σ : kS} {k j : Nat} {t : Int32} : kHeldQ σ k t j = true ↔ (j ≠ k ∧ ¬ kBes k j σ.2.2.2.2.2.2.1 = 0) ∧ σ.1 1 < kAbs (t - σ.2.2.2.2.2.1 0 j) ∧ kAbs (σ.2.2.2.2.2.1 0 k - σ.2.2.2.2.2.1 0 j) < kAbs (t - σ.2.2.2.2.2.1 0 j) := by
  unfold kHeldQ
  simp only [Bool.and_eq_true, decide_eq_true_eq]
  exact ⟨fun ⟨a, b, c, d⟩ => ⟨⟨a, d⟩, b, c⟩, fun ⟨⟨a, d⟩, b, c⟩ => ⟨a, b, c, d⟩⟩
