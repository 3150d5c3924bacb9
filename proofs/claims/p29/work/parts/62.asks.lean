
/-! P29: how few strands have to go to free two -/
def q9S (a b : Nat) (ql : Option Nat) (qn x1 z1 x2 z2 n : Nat) : Prop :=
  (ql = none ∧ qn = 0 ∧ n = 0 ∧ x1 = 0 ∧ z1 = 0 ∧ x2 = 0 ∧ z2 = 0) ∨
  (ql = some a ∧ qn = 1 ∧ 0 < n ∧ x1 = n ∧ z1 = 0 ∧ x2 = 0 ∧ z2 = n) ∨
  (ql = some b ∧ qn = 1 ∧ 0 < n ∧ x1 = 0 ∧ z1 = n ∧ x2 = n ∧ z2 = 0) ∨
  (ql = some b ∧ qn = 2 ∧ 0 < x1 ∧ 0 < x2 ∧ x1 + x2 = n ∧ z1 = n ∧ z2 = x1) ∨
  (ql = some a ∧ qn = 2 ∧ 0 < x1 ∧ 0 < x2 ∧ x1 + x2 = n ∧ z2 = n ∧ z1 = x2) ∨
  ((ql = some a ∨ ql = some b) ∧ 2 < qn ∧ x1 < n ∧ z1 < n ∧ x2 < n ∧ z2 < n)
theorem q9S_a {a b : Nat} (hab : a ≠ b) {ql : Option Nat} {qn x1 z1 x2 z2 n : Nat} (h : q9S a b ql qn x1 z1 x2 z2 n) : q9S a b (some a) (if ql = some a then qn else qn + 1) (x1 + 1) z1 x2 (max z2 x2 + 1) (n + 1) := by
  have hba : ¬ some b = some a := fun q => hab (Option.some.inj q).symm
  unfold q9S at h ⊢
  rcases h with ⟨h1, h⟩ | ⟨h1, h⟩ | ⟨h1, h⟩ | ⟨h1, h⟩ | ⟨h1, h⟩ | ⟨h1, h⟩
  · subst h1
    rw [if_neg (by simp)]
    exact Or.inr (Or.inl ⟨rfl, by omega⟩)
  · subst h1
    rw [if_pos rfl]
    exact Or.inr (Or.inl ⟨rfl, by omega⟩)
  · subst h1
    rw [if_neg hba]
    exact Or.inr (Or.inr (Or.inr (Or.inr (Or.inl ⟨rfl, by omega⟩))))
  · subst h1
    rw [if_neg hba]
    exact Or.inr (Or.inr (Or.inr (Or.inr (Or.inr ⟨Or.inl rfl, by omega⟩))))
  · subst h1
    rw [if_pos rfl]
    exact Or.inr (Or.inr (Or.inr (Or.inr (Or.inl ⟨rfl, by omega⟩))))
  · refine Or.inr (Or.inr (Or.inr (Or.inr (Or.inr ⟨Or.inl rfl, ?_⟩))))
    split <;> omega
theorem q9S_b {a b : Nat} (hab : a ≠ b) {ql : Option Nat} {qn x1 z1 x2 z2 n : Nat} (h : q9S a b ql qn x1 z1 x2 z2 n) : q9S a b (some b) (if ql = some b then qn else qn + 1) x1 (max z1 x1 + 1) (x2 + 1) z2 (n + 1) := by
  have hab2 : ¬ some a = some b := fun q => hab (Option.some.inj q)
  unfold q9S at h ⊢
  rcases h with ⟨h1, h⟩ | ⟨h1, h⟩ | ⟨h1, h⟩ | ⟨h1, h⟩ | ⟨h1, h⟩ | ⟨h1, h⟩
  · subst h1
    rw [if_neg (by simp)]
    exact Or.inr (Or.inr (Or.inl ⟨rfl, by omega⟩))
  · subst h1
    rw [if_neg hab2]
    exact Or.inr (Or.inr (Or.inr (Or.inl ⟨rfl, by omega⟩)))
  · subst h1
    rw [if_pos rfl]
    exact Or.inr (Or.inr (Or.inl ⟨rfl, by omega⟩))
  · subst h1
    rw [if_pos rfl]
    exact Or.inr (Or.inr (Or.inr (Or.inl ⟨rfl, by omega⟩)))
  · subst h1
    rw [if_neg hab2]
    exact Or.inr (Or.inr (Or.inr (Or.inr (Or.inr ⟨Or.inr rfl, by omega⟩))))
  · refine Or.inr (Or.inr (Or.inr (Or.inr (Or.inr ⟨Or.inr rfl, ?_⟩))))
    split <;> omega
theorem q9S_fold {e a b : Nat} (hab : a ≠ b) : ∀ (L : List (Nat × Nat)) (ql : Option Nat) (qn x1 z1 x2 z2 n : Nat), q9S a b ql qn x1 z1 x2 z2 n →
    q9S a b (L.foldl (kPtS e a b) (ql, qn)).1 (L.foldl (kPtS e a b) (ql, qn)).2 (L.foldl (kKeptS e a b) (x1, z1)).1 (L.foldl (kKeptS e a b) (x1, z1)).2 (L.foldl (kKeptS e b a) (x2, z2)).1 (L.foldl (kKeptS e b a) (x2, z2)).2 (L.foldl (kBothS e a b) n)
  | [], ql, qn, x1, z1, x2, z2, n, h => h
  | (e1, o1) :: L, ql, qn, x1, z1, x2, z2, n, h => by
    rw [List.foldl_cons, List.foldl_cons, List.foldl_cons, List.foldl_cons]
    by_cases he : e1 = e
    · by_cases ha : o1 = a
      · have hb : ¬ o1 = b := fun q => hab (ha.symm.trans q)
        rw [kPtS_1 he (Or.inl ha), kKeptS_1 he ha, kKeptS_2 he hb ha, show kBothS e a b n (e1, o1) = n + 1 from if_pos ⟨he, Or.inl ha⟩]
        subst ha
        exact q9S_fold hab L _ _ _ _ _ _ _ (q9S_a hab h)
      · by_cases hb : o1 = b
        · rw [kPtS_1 he (Or.inr hb), kKeptS_2 he ha hb, kKeptS_1 he hb, show kBothS e a b n (e1, o1) = n + 1 from if_pos ⟨he, Or.inr hb⟩]
          subst hb
          exact q9S_fold hab L _ _ _ _ _ _ _ (q9S_b hab h)
        · rw [kPtS_2 (fun q => q.elim ha hb), kKeptS_3 he ha hb, kKeptS_3 he hb ha, show kBothS e a b n (e1, o1) = n from if_neg (fun q => q.2.elim ha hb)]
          exact q9S_fold hab L _ _ _ _ _ _ _ h
    · rw [kPtS_3 he, kKeptS_0 he, kKeptS_0 he, show kBothS e a b n (e1, o1) = n from if_neg (fun q => he q.1)]
      exact q9S_fold hab L _ _ _ _ _ _ _ h
theorem q9Both_le {e a b : Nat} : ∀ (L : List (Nat × Nat)) (n : Nat), L.foldl (kBothS e a b) n ≤ n + L.length
  | [], n => Nat.le_refl _
  | p :: L, n => by
    rw [List.foldl_cons, List.length_cons]
    have h1 := q9Both_le (e := e) (a := a) (b := b) L (kBothS e a b n p)
    have h2 : kBothS e a b n p ≤ n + 1 := by unfold kBothS; split <;> omega
    omega
def q9D (e a b : Nat) (L : List (Nat × Nat)) : Nat := kBoth e a b L - max (kKept e a b L) (kKept e b a L)
theorem q9D_all {e a b : Nat} {L : List (Nat × Nat)} (hab : a ≠ b) : kGone e a b L = nI (q9D e a b L) ∧ q9D e a b L ≤ L.length ∧ (q9D e a b L = 0 ↔ ¬ 2 < (kPt e a b L).2) := by
  have h := q9S_fold (e := e) hab L none 0 0 0 0 0 0 (Or.inl ⟨rfl, rfl, rfl, rfl, rfl, rfl, rfl⟩)
  have h2 := q9Both_le (e := e) (a := a) (b := b) L 0
  have e1 : (L.foldl (kPtS e a b) (none, 0)).2 = (kPt e a b L).2 := rfl
  have e2 : L.foldl (kBothS e a b) 0 = kBoth e a b L := rfl
  have e3 : max (L.foldl (kKeptS e a b) (0, 0)).2 (L.foldl (kKeptS e a b) (0, 0)).1 = kKept e a b L := rfl
  have e4 : max (L.foldl (kKeptS e b a) (0, 0)).2 (L.foldl (kKeptS e b a) (0, 0)).1 = kKept e b a L := rfl
  rw [e2] at h2
  unfold q9S at h
  rw [e1, e2] at h
  unfold q9D
  refine ⟨?_, by omega, ?_⟩
  · unfold kGone
    rw [pk_sub]
    rcases h with ⟨h1, h⟩ | ⟨h1, h⟩ | ⟨h1, h⟩ | ⟨h1, h⟩ | ⟨h1, h⟩ | ⟨h1, h⟩ <;> omega
  · rcases h with ⟨h1, h⟩ | ⟨h1, h⟩ | ⟨h1, h⟩ | ⟨h1, h⟩ | ⟨h1, h⟩ | ⟨h1, h⟩ <;> omega
theorem q9Gone_comm {e a b : Nat} {L : List (Nat × Nat)} : kGone e a b L = kGone e b a L := by
  unfold kGone
  rw [kBoth_comm, Nat.max_comm]
theorem q9Frees_comm {a b : Nat} {L : List (Nat × Nat)} : kFrees L a b = kFrees L b a := by
  unfold kFrees
  congr 1
  funext s e
  unfold kFrS
  rw [q9Gone_comm]
def q9Fn (a b : Nat) (L : List (Nat × Nat)) : Nat → Nat
  | 0 => 0
  | n + 1 => q9Fn a b L n + q9D n a b L
def q9Bn (x : Int32) : Nat → Nat
  | 0 => 0
  | n + 1 => q9Bn x n + if kbt x n = true then 1 else 0
theorem q9Fn_eq {a b : Nat} {L : List (Nat × Nat)} (hab : a ≠ b) : ∀ n, (List.range n).foldl (kFrS L a b) (nI 0) = nI (q9Fn a b L n)
  | 0 => rfl
  | n + 1 => by
    rw [List.range_succ, List.foldl_append, List.foldl_cons, List.foldl_nil, q9Fn_eq hab n]
    unfold kFrS
    rw [(q9D_all hab).1, nI_add]
    rfl
theorem q9Fn_le {a b : Nat} {L : List (Nat × Nat)} (hab : a ≠ b) : ∀ n, q9Fn a b L n ≤ n * L.length
  | 0 => Nat.zero_le _
  | n + 1 => by
    have h1 := q9Fn_le (L := L) hab n
    have h2 := (q9D_all (e := n) (L := L) hab).2.1
    rw [q9Fn, Nat.succ_mul]
    omega
theorem q9Fn_0 {a b : Nat} {L : List (Nat × Nat)} : ∀ n, q9Fn a b L n = 0 ↔ ∀ e, e < n → q9D e a b L = 0
  | 0 => ⟨fun _ e he => absurd he (Nat.not_lt_zero e), fun _ => rfl⟩
  | n + 1 => by
    have h1 := q9Fn_0 (a := a) (b := b) (L := L) n
    rw [q9Fn]
    constructor
    · intro h e he
      by_cases q : e = n
      · subst q; omega
      · exact h1.mp (by omega) e (by omega)
    · intro h
      have h2 := h1.mpr (fun e he => h e (by omega))
      have h3 := h n (Nat.lt_succ_self n)
      omega
theorem q9Fn_bn {a b : Nat} {L : List (Nat × Nat)} (hab : a ≠ b) (hL : ∀ p ∈ L, p.1 < 15) : ∀ n, n ≤ 15 → q9Bn (kBes a b L) n ≤ q9Fn a b L n
  | 0, _ => Nat.le_refl _
  | n + 1, hn => by
    have h1 := q9Fn_bn hab hL n (by omega)
    rw [q9Fn, q9Bn]
    by_cases q : kbt (kBes a b L) n = true
    · rw [if_pos q]
      rw [kBes_bit hab (by omega) hL] at q
      have h2 := (q9D_all (e := n) (L := L) hab).2.2
      have h3 : ¬ q9D n a b L = 0 := fun z => (h2.mp z) (of_decide_eq_true q)
      omega
    · rw [if_neg q]; omega
theorem q9Bes_0 {a b : Nat} {L : List (Nat × Nat)} (hab : a ≠ b) (hL : ∀ p ∈ L, p.1 < 15) : kBes a b L = 0 ↔ q9Fn a b L 15 = 0 := by
  rw [q9Fn_0]
  constructor
  · intro h e he
    refine (q9D_all hab).2.2.mpr (fun q => ?_)
    have h1 := kBes_bit (e := e) hab (by omega) hL
    rw [h, decide_eq_true q] at h1
    have h2 : kbt (0 : Int32) e = false := kbt_0
    rw [h2] at h1
    cases h1
  · intro h
    refine kbt_ext (fun e he => ?_)
    rw [kBes_bit hab he hL]
    have h2 : kbt (0 : Int32) e = false := kbt_0
    rw [h2]
    by_cases q : e < 15
    · exact decide_eq_false ((q9D_all hab).2.2.mp (h e q))
    · unfold kPt
      rw [kPt_hi (by omega) L _ hL]
      rfl
/-- frees as a small number -/
theorem q9Frees {a b : Nat} {L : List (Nat × Nat)} (hab : a ≠ b) (hL : ∀ p ∈ L, p.1 < 15) (hl : L.length ≤ 240) : kFrees L a b = nI (q9Fn a b L 15) ∧ q9Fn a b L 15 ≤ 3600 ∧ (kBes a b L = 0 ↔ q9Fn a b L 15 = 0) ∧ q9Bn (kBes a b L) 15 ≤ q9Fn a b L 15 := by
  refine ⟨q9Fn_eq hab 15, ?_, q9Bes_0 hab hL, q9Fn_bn hab hL 15 (Nat.le_refl _)⟩
  have := q9Fn_le (L := L) hab 15
  omega
/-! P29: ones -/
def q9Pp : Nat → Nat → Nat
  | 0, _ => 0
  | f + 1, m => m % 2 + q9Pp f (m / 2)
theorem q9Pp_0 : ∀ f, q9Pp f 0 = 0
  | 0 => rfl
  | f + 1 => by rw [q9Pp, Nat.zero_div, q9Pp_0 f]
theorem q9kbt {m j : Nat} (hj : j < 32) : kbt (nI m) j = m.testBit j := by
  show (BitVec.ofNat 32 m).getLsbD j = _
  rw [BitVec.getLsbD_ofNat, decide_eq_true hj, Bool.true_and]
def q9Tn (m : Nat) : Nat → Nat
  | 0 => 0
  | n + 1 => q9Tn m n + if m.testBit n = true then 1 else 0
theorem q9Tn_s (m : Nat) : ∀ n, q9Tn m (n + 1) = m % 2 + q9Tn (m / 2) n
  | 0 => by
    show 0 + (if m.testBit 0 = true then 1 else 0) = m % 2 + 0
    rw [Nat.testBit_zero]
    by_cases h : m % 2 = 1
    · rw [decide_eq_true h, if_pos rfl, h]
    · rw [decide_eq_false h, if_neg (by decide)]; omega
  | n + 1 => by
    rw [q9Tn, q9Tn_s m n, q9Tn, Nat.testBit_succ]
    omega
theorem q9Tn_pp : ∀ (f m : Nat), q9Pp f m = q9Tn m f
  | 0, m => rfl
  | f + 1, m => by rw [q9Pp, q9Tn_s, q9Tn_pp f]
theorem q9Tn_bn {m : Nat} : ∀ n, n ≤ 32 → q9Bn (nI m) n = q9Tn m n
  | 0, _ => rfl
  | n + 1, hn => by rw [q9Bn, q9Tn, q9Tn_bn n (by omega), q9kbt (by omega)]
theorem q9Small {x : Int32} (h : x &&& nI 32767 = x) : ∃ m, m < 32768 ∧ x = nI m := by
  refine ⟨x.toBitVec.toNat % 2 ^ 15, Nat.mod_lt _ (by decide), ?_⟩
  have := pk_and x (m := nI 32767) 15 (by decide)
  rw [← this, h]
theorem q9Bn_m {m : Nat} : q9Pp 15 m = q9Bn (nI m) 15 := by rw [q9Tn_pp, q9Tn_bn 15 (by decide)]
theorem q9Bn_le (x : Int32) : ∀ n, q9Bn x n ≤ n
  | 0 => Nat.le_refl _
  | n + 1 => by
    have := q9Bn_le x n
    rw [q9Bn]
    split <;> omega
theorem q9On (x : Int32) : ∀ n, (List.range n).foldl (fun a j => a + if kbt x j = true then 1 else 0) 0 = q9Bn x n
  | 0 => rfl
  | n + 1 => by rw [List.range_succ, List.foldl_append, List.foldl_cons, List.foldl_nil, q9On x n, q9Bn]
theorem q9_32767 {e : Nat} (he : e < 32) : kbt (nI 32767) e = decide (e < 15) := by
  have q : ∀ e : Fin 32, kbt (nI 32767) e.val = decide (e.val < 15) := by decide +kernel
  exact q ⟨e, he⟩
theorem q9BSet_mask {σ : kS} {k : Nat} (hki : σ.2.2.1 ≤ 6) : kBSet σ k &&& nI 32767 = kBSet σ k := kbt_ext (fun e he => by
  rw [kbt_and, q9_32767 he]
  by_cases h : e < 15
  · rw [decide_eq_true h, Bool.and_true]
  · rw [decide_eq_false h, Bool.and_false, kBSet_bit he hki, decide_eq_false (by omega), Bool.false_and])
theorem q9Ones {x : Int32} (h : x &&& nI 32767 = x) : kOnes x = q9Bn x 15 := by
  unfold kOnes
  rw [q9On x 16]
  show q9Bn x 15 + _ = _
  have h1 : kbt x 15 = false := by
    rw [← h, kbt_and, q9_32767 (by decide)]
    exact Bool.and_false _
  rw [h1, if_neg (by decide), Nat.add_zero]
/-! P29: sums -/
theorem q9Sum_s {n : Nat} {f : Nat → Int32} : kSum (n + 1) f = kSum n f + f n := by
  unfold kSum
  rw [List.range_succ, List.foldl_append, List.foldl_cons, List.foldl_nil]
theorem q9Sum_0 {f : Nat → Int32} : ∀ n, (∀ j, j < n → ∃ s : Nat, s ≤ 40 ∧ f j = nI s) → ∃ S : Nat, S ≤ 40 * n ∧ kSum n f = nI S ∧ (S = 0 → ∀ j, j < n → f j = nI 0)
  | 0, _ => ⟨0, Nat.le_refl _, rfl, fun _ j hj => absurd hj (Nat.not_lt_zero j)⟩
  | n + 1, h => by
    obtain ⟨S, h1, h2, h3⟩ := q9Sum_0 n (fun j hj => h j (by omega))
    obtain ⟨s, h4, h5⟩ := h n (Nat.lt_succ_self n)
    refine ⟨S + s, by omega, by rw [q9Sum_s, h2, h5, nI_add], fun z j hj => ?_⟩
    by_cases q : j = n
    · subst q; rw [h5, show s = 0 by omega]
    · exact h3 (by omega) j (by omega)
def q9Cn : Nat → List (Nat × Nat) → Nat
  | 0, _ => 0
  | n + 1, L => q9Cn n L + kAt n L
theorem q9Cn_nil : ∀ n, q9Cn n [] = 0
  | 0 => rfl
  | n + 1 => by show q9Cn n [] + kAt n [] = 0; rw [q9Cn_nil n]; rfl
theorem q9Cn_cons {p : Nat × Nat} {L : List (Nat × Nat)} : ∀ n, q9Cn n (p :: L) = q9Cn n L + if p.1 < n then 1 else 0
  | 0 => by rw [if_neg (Nat.not_lt_zero _)]; rfl
  | n + 1 => by
    show q9Cn n (p :: L) + kAt n (p :: L) = q9Cn n L + kAt n L + _
    rw [q9Cn_cons n, kAt_cons]
    by_cases h1 : p.1 = n
    · rw [if_pos h1, if_neg (by omega), if_pos (by omega)]; omega
    · rw [if_neg h1]
      by_cases h2 : p.1 < n
      · rw [if_pos h2, if_pos (by omega)]; omega
      · rw [if_neg h2, if_neg (by omega)]; omega
theorem q9Cn_len {n : Nat} : ∀ (L : List (Nat × Nat)), (∀ p ∈ L, p.1 < n) → L.length = q9Cn n L
  | [], _ => (q9Cn_nil n).symm
  | p :: L, h => by
    rw [List.length_cons, q9Cn_cons, if_pos (h p List.mem_cons_self), q9Cn_len L (fun q hq => h q (List.mem_cons_of_mem _ hq))]
theorem q9Cn_le {L : List (Nat × Nat)} : ∀ n, q9Cn n L ≤ L.length * n
  | 0 => Nat.zero_le _
  | n + 1 => by
    have h1 := q9Cn_le (L := L) n
    have h2 := kAt_le n L
    show q9Cn n L + kAt n L ≤ _
    rw [Nat.mul_succ]
    omega
/-! P29: pairs at an edge -/
theorem q9PairW (w : Nat → Nat → Nat) (hs : ∀ i j, w i j = w j i) (n : Nat) (hn : n ≤ 6) : (List.range n).foldl (fun a k => (List.range k).foldl (fun a m => a + w k m) a) 0 = (List.range n).foldl (fun a i => ((List.range n).drop (i + 1)).foldl (fun a j => a + w i j) a) 0 := by
  have h10 := hs 1 0
  have h20 := hs 2 0
  have h21 := hs 2 1
  have h30 := hs 3 0
  have h31 := hs 3 1
  have h32 := hs 3 2
  have h40 := hs 4 0
  have h41 := hs 4 1
  have h42 := hs 4 2
  have h43 := hs 4 3
  have h50 := hs 5 0
  have h51 := hs 5 1
  have h52 := hs 5 2
  have h53 := hs 5 3
  have h54 := hs 5 4
  have r0 : List.range 0 = [] := rfl
  have r1 : List.range 1 = [0] := rfl
  have r2 : List.range 2 = [0, 1] := rfl
  have r3 : List.range 3 = [0, 1, 2] := rfl
  have r4 : List.range 4 = [0, 1, 2, 3] := rfl
  have r5 : List.range 5 = [0, 1, 2, 3, 4] := rfl
  have r6 : List.range 6 = [0, 1, 2, 3, 4, 5] := rfl
  rcases (show n = 0 ∨ n = 1 ∨ n = 2 ∨ n = 3 ∨ n = 4 ∨ n = 5 ∨ n = 6 by omega) with rfl | rfl | rfl | rfl | rfl | rfl | rfl
  · rfl
  · simp [r0, r1]
  · simp [r0, r1, r2]
    omega
  · simp [r0, r1, r2, r3]
    omega
  · simp [r0, r1, r2, r3, r4]
    omega
  · simp [r0, r1, r2, r3, r4, r5]
    omega
  · simp [r0, r1, r2, r3, r4, r5, r6]
    omega
def q9W (e : Nat) (L : List (Nat × Nat)) (k m : Nat) : Nat := if kbt (kBes k m L) e = true then 1 else 0
def q9Pr (e : Nat) (L : List (Nat × Nat)) (n : Nat) : Nat := (List.range n).foldl (fun a k => (List.range k).foldl (fun a m => a + q9W e L k m) a) 0
def q9Pi (e : Nat) (L : List (Nat × Nat)) (k m : Nat) : Nat := (List.range m).foldl (fun a m => a + q9W e L k m) (q9Pr e L k)
theorem q9Pi_0 {e : Nat} {L : List (Nat × Nat)} {k : Nat} : q9Pi e L k 0 = q9Pr e L k := rfl
theorem q9Pi_s {e : Nat} {L : List (Nat × Nat)} {k m : Nat} : q9Pi e L k (m + 1) = q9Pi e L k m + q9W e L k m := by
  unfold q9Pi
  rw [List.range_succ, List.foldl_append, List.foldl_cons, List.foldl_nil]
theorem q9Pi_e {e : Nat} {L : List (Nat × Nat)} {k : Nat} : q9Pi e L k k = q9Pr e L (k + 1) := by
  unfold q9Pi
  conv => rhs; unfold q9Pr
  rw [List.range_succ, List.foldl_append, List.foldl_cons, List.foldl_nil]
  rfl
theorem q9W_le {e : Nat} {L : List (Nat × Nat)} {k m : Nat} : q9W e L k m ≤ 1 := by unfold q9W; split <;> omega
theorem q9Pi_le {e : Nat} {L : List (Nat × Nat)} {k : Nat} : ∀ m, q9Pi e L k m ≤ q9Pr e L k + m
  | 0 => Nat.le_refl _
  | m + 1 => by
    have h1 := q9Pi_le (e := e) (L := L) (k := k) m
    have h2 := q9W_le (e := e) (L := L) (k := k) (m := m)
    rw [q9Pi_s]
    omega
theorem q9Pr_le {e : Nat} {L : List (Nat × Nat)} : ∀ n, n ≤ 6 → q9Pr e L n ≤ 6 * n
  | 0, _ => Nat.le_refl _
  | n + 1, hn => by
    have h1 := q9Pr_le (e := e) (L := L) n (by omega)
    have h2 := q9Pi_le (e := e) (L := L) (k := n) n
    rw [q9Pi_e] at h2
    omega
theorem q9Sh {e : Nat} {x : Int32} (he : e < 16) : (x >>> (nI e &&& 31)) &&& nI 1 = nI (if kbt x e = true then 1 else 0) := by
  rw [kbt_1, kbt_shr he]
  split <;> rfl
theorem q9Pairs {σ : kS} {e : Nat} (he : e < 15) (hki : σ.2.2.1 ≤ 6) (hL : ∀ p ∈ σ.2.2.2.2.2.2.1, p.1 < 15) : kPairs σ (kBit e) = q9Pr e σ.2.2.2.2.2.2.1 σ.2.2.1 := by
  have h := q9PairW (q9W e σ.2.2.2.2.2.2.1) (fun i j => by
    by_cases q : i = j
    · rw [q]
    · unfold q9W; rw [kBes_comm q hL]) σ.2.2.1 hki
  refine Eq.trans ?_ h.symm
  unfold kPairs
  refine kfold_congr _ _ (fun a i hi => ?_)
  unfold kPairT
  refine kfold_congr _ _ (fun a j hj => ?_)
  unfold kPairS q9W
  by_cases q : kbt (kBes i j σ.2.2.2.2.2.2.1) e = true
  · rw [if_pos q, if_neg (fun z => by rw [(kbt_band (by omega)).mp z] at q; cases q)]
  · rw [if_neg q, if_pos ((kbt_band (by omega)).mpr (by simpa using q))]
    rfl
/-! P29: the sums of a leap -/
theorem q9OverN {k : Nat} : ∀ (es : List Nat) (q : (Nat → Nat → Int32) × List (Nat × Nat)), (es.foldl (kOver k) q).1 4 k + (es.foldl (kOver k) q).1 5 k = q.1 4 k + q.1 5 k + nI es.length ∧ (es.foldl (kOver k) q).1 3 k + (es.foldl (kOver k) q).1 4 k + q.1 5 k = q.1 3 k + q.1 4 k + (es.foldl (kOver k) q).1 5 k
  | [], q => ⟨(Int32.add_zero _).symm, rfl⟩
  | e :: es, q => by
    obtain ⟨h1, h2⟩ := q9OverN es (kOver k q e)
    rw [List.foldl_cons, List.length_cons]
    have h3 : (kOver k q e).1 4 k + (kOver k q e).1 5 k = q.1 4 k + q.1 5 k + nI 1 ∧ (kOver k q e).1 3 k + (kOver k q e).1 4 k + q.1 5 k = q.1 3 k + q.1 4 k + (kOver k q e).1 5 k := by
      unfold kOver
      split
      · dsimp only
        rw [kPut_n (f' := 4) (by decide), kPut_n (f' := 4) (by decide), kPut_n (f' := 5) (by decide), kPut_s, kPut_s, kU_s, kU_s]
        exact ⟨by rw [Int32.add_assoc], by grind⟩
      · dsimp only
        rw [kPut_n (f' := 5) (by decide), kPut_n (f' := 5) (by decide), kPut_n (f' := 4) (by decide), kPut_s, kPut_s, kU_s, kU_s]
        exact ⟨by grind, by grind⟩
    obtain ⟨h3, h4⟩ := h3
    refine ⟨?_, ?_⟩
    · rw [h1, h3, ← nI_add es.length 1]
      grind
    · grind
theorem q9Way_len {s t : Nat} : (kWay s t).length = (t - s) + (s - t) := by
  unfold kWay
  split
  · rw [List.length_map, List.length_range]; omega
  · rw [List.length_map, List.length_range]; omega
/-- two numbers' distance -/
def q9Ab (a b : Nat) : Nat := (a - b) + (b - a)
theorem q9AbI {a b : Nat} (ha : a < 16) (hb : b < 16) : kAbs (nI a - nI b) = nI (q9Ab a b) := by
  have q : ∀ a b : Fin 16, kAbs (nI a.val - nI b.val) = nI (q9Ab a.val b.val) := by decide +kernel
  exact q ⟨a, ha⟩ ⟨b, hb⟩
/-! P29: when all is quiet -/
def q9Qv (σ : kS) (n v : Nat) : Prop := n ≤ v ∧ v ≤ 20000 ∧ (∀ j, j < σ.2.2.1 → (σ.2.2.2.2.2.1 2 j).toInt ≤ v) ∧ (∀ p ∈ σ.2.2.2.2.2.2.2, p.1.toInt ≤ v) ∧ (v = n ∨ (∃ j, j < σ.2.2.1 ∧ σ.2.2.2.2.2.1 2 j = nI v) ∨ ∃ p ∈ σ.2.2.2.2.2.2.2, p.1 = nI v)
theorem q9Srt {P : List kP} (h : P.Pairwise q9Lx) : kSrt P := h.imp (fun z => q9Lx_le z)
theorem q9Qv_qu {σ : kS} {n v : Nat} (h : q9I σ n) (hn : n ≤ 9999) (hv : q9Qv σ n v) : kQuQ σ = nI (v - n) := by
  obtain ⟨h1, h2, h3, h4, h5, h6, ⟨h7, h8, h9⟩, h10⟩ := h
  obtain ⟨v1, v2, v3, v4, v5⟩ := hv
  refine kQu_eq h5 hn v2 v1 (q9Srt h8) (fun p hp => ?_) v3 v4 v5
  have := h9 p hp
  rw [h5, nI_toInt (by omega)] at this
  omega
theorem q9Qv_turn {σ : kS} {n v : Nat} (h : q9I σ n) (hn : n < 20000) (hv : q9Qv σ n v) : q9Qv (kTurn σ).2 (n + 1) (max v (n + 1)) := by
  obtain ⟨⟨D, d1, d2⟩, d3⟩ := q9TurnP h hn
  have hw := fun j => q9Turn2 (j := j) h
  have hk := (kTurn_ok h.1).2.2.2
  obtain ⟨v1, v2, v3, v4, v5⟩ := hv
  refine ⟨by omega, by omega, fun j hj => ?_, fun p hp => ?_, ?_⟩
  · rw [hk] at hj
    rw [hw]
    have := v3 j hj
    split
    · show (-6 : Int32).toInt ≤ _
      have : (-6 : Int32).toInt = -6 := by decide
      omega
    · omega
  · have := v4 p (by rw [d1]; exact List.mem_append_right _ hp)
    omega
  · by_cases q : v ≤ n + 1
    · exact Or.inl (by omega)
    · rw [show max v (n + 1) = v by omega, hk]
      rcases v5 with z | ⟨j, z1, z2⟩ | ⟨p, z1, z2⟩
      · omega
      · refine Or.inr (Or.inl ⟨j, z1, ?_⟩)
        rw [hw, if_neg (fun y => ?_)]
        · exact z2
        · rw [z2, nI_eq (by omega) (by omega)] at y
          omega
      · refine Or.inr (Or.inr ⟨p, ?_, z2⟩)
        rw [d1] at z1
        rcases List.mem_append.mp z1 with y | y
        · have := d2 p y
          rw [z2, nI_eq (by omega) (by omega)] at this
          omega
        · exact y
theorem q9Qv_pass : ∀ (d : Nat) (σ : kS) (m n v : Nat), q9I σ n → n + d ≤ 20000 → q9Qv σ n v → q9Qv (kPass d σ m).2 (n + d) (max v (n + d))
  | 0, σ, m, n, v, _, _, hv => by
    have := hv.1
    rw [show max v (n + 0) = v by omega]
    exact hv
  | d + 1, σ, m, n, v, h, hn, hv => by
    rw [kPass, show n + (d + 1) = (n + 1) + d by omega]
    have h1 := q9Qv_turn h (by omega) hv
    have h2 := q9Qv_pass d (kTurn σ).2 (m + (kTurn σ).1) (n + 1) (max v (n + 1)) (q9Turn h (by omega)) (by omega) h1
    rw [show max (max v (n + 1)) (n + 1 + d) = max v (n + 1 + d) by omega] at h2
    exact h2
theorem q9Qv_ex {σ : kS} {n : Nat} (h : q9J σ) (hn : σ.2.1 = nI n) (hn2 : n ≤ 9999) : ∃ v, q9Qv σ n v := by
  have hI := h.I hn
  obtain ⟨⟨h3, h4, h5, h6, h7, h8⟩, h9, hQ, ⟨hP1, hP2, hP3⟩, hW⟩ := h
  have a := kWaking_spec (f := σ.2.2.2.2.2.1 2) σ.2.2.1
  have hp : ∀ p ∈ σ.2.2.2.2.2.2.2, 0 ≤ p.1.toInt := fun p hp => by
    have := hP3 p hp
    rw [hn, nI_toInt (by omega)] at this
    omega
  have b := kLast_spec (q9Srt hP2) hp
  obtain ⟨w, hw1, hw2, hw3⟩ : ∃ w : Nat, w ≤ 20000 ∧ (∀ j, j < σ.2.2.1 → (σ.2.2.2.2.2.1 2 j).toInt ≤ w) ∧ (w = 0 ∨ ∃ j, j < σ.2.2.1 ∧ σ.2.2.2.2.2.1 2 j = nI w) := by
    rcases a.2.1 with z | ⟨j, z1, z2⟩
    · refine ⟨0, by decide, fun j hj => ?_, Or.inl rfl⟩
      have := a.1 j hj
      rw [z, show (-6 : Int32).toInt = -6 by decide] at this
      omega
    · rcases h6 j z1 with y | ⟨w, y1, y2⟩
      · refine ⟨0, by decide, fun i hi => ?_, Or.inl rfl⟩
        have := a.1 i hi
        rw [← z2, y, show (-6 : Int32).toInt = -6 by decide] at this
        omega
      · refine ⟨w, y1, fun i hi => ?_, Or.inr ⟨j, z1, y2⟩⟩
        have := a.1 i hi
        rw [← z2, y2, nI_toInt (by omega)] at this
        exact this
  obtain ⟨t, ht1, ht2, ht3⟩ : ∃ t : Nat, t ≤ 20000 ∧ (∀ p ∈ σ.2.2.2.2.2.2.2, p.1.toInt ≤ t) ∧ (t = 0 ∨ ∃ p ∈ σ.2.2.2.2.2.2.2, p.1 = nI t) := by
    rcases b.2.1 with z | ⟨p, z1, z2⟩
    · refine ⟨0, by decide, fun p hp => ?_, Or.inl rfl⟩
      have := b.1 p hp
      rw [z, show (-6 : Int32).toInt = -6 by decide] at this
      omega
    · obtain ⟨t, y1, y2⟩ := h7.2 p z1
      refine ⟨t, y1, fun q hq => ?_, Or.inr ⟨p, z1, y2⟩⟩
      have := b.1 q hq
      rw [← z2, y2, nI_toInt (by omega)] at this
      exact this
  refine ⟨max n (max w t), by omega, by omega, fun j hj => by have := hw2 j hj; omega, fun p hp => by have := ht2 p hp; omega, ?_⟩
  by_cases q1 : max n (max w t) = n
  · exact Or.inl q1
  · by_cases q2 : max n (max w t) = w
    · rcases hw3 with z | ⟨j, z1, z2⟩
      · omega
      · rw [q2]; exact Or.inr (Or.inl ⟨j, z1, z2⟩)
    · rcases ht3 with z | ⟨p, z1, z2⟩
      · omega
      · rw [show max n (max w t) = t by omega]; exact Or.inr (Or.inr ⟨p, z1, z2⟩)
/-- when no plan and no nap is later than now, there are none -/
theorem q9Quiet {σ : kS} {n : Nat} (h : q9I σ n) (hn : n ≤ 20000) (hv : q9Qv σ n n) : σ.2.2.2.2.2.2.2 = [] ∧ kNapSet σ = nI 0 := by
  obtain ⟨h1, h2, h3, h4, h5, h6, ⟨h7, h8, h9⟩, h10⟩ := h
  obtain ⟨v1, v2, v3, v4, v5⟩ := hv
  refine ⟨?_, ?_⟩
  · cases hP : σ.2.2.2.2.2.2.2 with
    | nil => rfl
    | cons p P =>
      have hp : p ∈ σ.2.2.2.2.2.2.2 := by rw [hP]; exact List.mem_cons_self
      have q1 := h9 p hp
      have q2 := v4 p hp
      rw [h5, nI_toInt (by omega)] at q1
      omega
  · unfold kNapSet
    have q : ∀ (l : List Nat), (∀ j ∈ l, j < σ.2.2.1) → l.foldl (kNapS σ.2.2.2.2.2.1) (nI 0) = nI 0 := by
      intro l
      induction l with
      | nil => intro _; rfl
      | cons j l ih =>
        intro hl
        rw [List.foldl_cons]
        have hj := hl j List.mem_cons_self
        have e : σ.2.2.2.2.2.1 2 j = -6 := by
          rcases h10 j hj with z | z
          · exact z
          · have q2 := v3 j hj
            rw [h5, nI_toInt (by omega)] at z
            omega
        have e2 : kNapS σ.2.2.2.2.2.1 (nI 0) j = nI 0 := by
          unfold kNapS kNaps
          rw [if_pos e]
          rfl
        rw [e2]
        exact ih (fun i hi => hl i (List.mem_cons_of_mem _ hi))
    exact q _ (fun j hj => List.mem_range.mp hj)
/-! P29: what turns make, refuse and leave -/
theorem q9RunN : ∀ (n : Nat) (σ : kS) (m : Nat), (kRun n σ m).2.2.2.2.1 + nI m = σ.2.2.2.1 + nI (kRun n σ m).1 ∧ (kRun n σ m).2.2.2.2.1 + (kRun n σ m).2.2.2.2.2.1 + nI (kRun n σ m).2.2.2.2.2.2.2.2.length = σ.2.2.2.1 + σ.2.2.2.2.1 + nI σ.2.2.2.2.2.2.2.length
  | 0, σ, m => by rw [kRun_0]; exact ⟨rfl, rfl⟩
  | n + 1, (se, tu, ki, ma, re, kf, L, P), m => by
    cases P with
    | nil => rw [kRun_nil]; exact ⟨rfl, rfl⟩
    | cons p P =>
      by_cases h1 : p.1 = tu
      · rw [kRun_go h1]
        have hl : nI (p :: P).length = nI P.length + nI 1 := by rw [List.length_cons, nI_add]
        split
        · obtain ⟨h2, h3⟩ := q9RunN n (kLeap (se, tu, ki, ma, re, kf, L, P) p.2.1 p.2.2) (m + 1)
          have e1 : (kLeap (se, tu, ki, ma, re, kf, L, P) p.2.1 p.2.2).2.2.2.1 = ma + nI 1 := rfl
          have e2 : (kLeap (se, tu, ki, ma, re, kf, L, P) p.2.1 p.2.2).2.2.2.2.1 = re := rfl
          have e3 : (kLeap (se, tu, ki, ma, re, kf, L, P) p.2.1 p.2.2).2.2.2.2.2.2.2 = P := rfl
          rw [e1, ← nI_add m 1] at h2
          rw [e1, e2, e3] at h3
          dsimp only
          rw [hl]
          refine ⟨by grind, by grind⟩
        · obtain ⟨h2, h3⟩ := q9RunN n (se, tu, ki, ma, re + nI 1, kf, L, P) m
          dsimp only at h2 h3 ⊢
          rw [hl]
          refine ⟨h2, by grind⟩
      · rw [kRun_ne h1]; exact ⟨rfl, rfl⟩
theorem q9PassN : ∀ (n : Nat) (σ : kS) (m : Nat), (kPass n σ m).2.2.2.2.1 + nI m = σ.2.2.2.1 + nI (kPass n σ m).1 ∧ (kPass n σ m).2.2.2.2.1 + (kPass n σ m).2.2.2.2.2.1 + nI (kPass n σ m).2.2.2.2.2.2.2.2.length = σ.2.2.2.1 + σ.2.2.2.2.1 + nI σ.2.2.2.2.2.2.2.length
  | 0, σ, m => ⟨rfl, rfl⟩
  | n + 1, σ, m => by
    rw [kPass]
    obtain ⟨h1, h2⟩ := q9PassN n (kTurn σ).2 (m + (kTurn σ).1)
    have h3 := q9RunN 16 (q9Rho σ) 0
    have e1 : (kTurn σ).2.2.2.2.1 = (kRun 16 (q9Rho σ) 0).2.2.2.2.1 := rfl
    have e2 : (kTurn σ).2.2.2.2.2.1 = (kRun 16 (q9Rho σ) 0).2.2.2.2.2.1 := rfl
    have e3 : (kTurn σ).2.2.2.2.2.2.2.2 = (kRun 16 (q9Rho σ) 0).2.2.2.2.2.2.2.2 := rfl
    have e4 : (kTurn σ).1 = (kRun 16 (q9Rho σ) 0).1 := rfl
    obtain ⟨h3, h4⟩ := h3
    have h3 : (kRun 16 (q9Rho σ) 0).2.2.2.2.1 + nI 0 = σ.2.2.2.1 + nI (kRun 16 (q9Rho σ) 0).1 := h3
    have h4 : (kRun 16 (q9Rho σ) 0).2.2.2.2.1 + (kRun 16 (q9Rho σ) 0).2.2.2.2.2.1 + nI (kRun 16 (q9Rho σ) 0).2.2.2.2.2.2.2.2.length = σ.2.2.2.1 + σ.2.2.2.2.1 + nI σ.2.2.2.2.2.2.2.length := h4
    rw [e1, e4, ← nI_add] at h1
    rw [e1, e2, e3] at h2
    rw [show nI 0 = (0 : Int32) from rfl, Int32.add_zero] at h3
    refine ⟨by grind, by grind⟩
