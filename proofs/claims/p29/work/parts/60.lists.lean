
/-! P29: the strands of one edge, as a list -/
def q9El (e : Nat) (L : List (Nat × Nat)) : List Nat := (L.filter (fun p => p.1 == e)).map (fun p => p.2)
theorem q9El_nil {e : Nat} : q9El e [] = [] := rfl
theorem q9El_app {e : Nat} {A B : List (Nat × Nat)} : q9El e (A ++ B) = q9El e A ++ q9El e B := by
  unfold q9El
  rw [List.filter_append, List.map_append]
theorem q9El_cons {e : Nat} {p : Nat × Nat} {L : List (Nat × Nat)} : q9El e (p :: L) = if p.1 = e then p.2 :: q9El e L else q9El e L := by
  unfold q9El
  by_cases h : p.1 = e
  · rw [if_pos h, List.filter_cons_of_pos (by simp [h]), List.map_cons]
  · rw [if_neg h, List.filter_cons_of_neg (by simp [h])]
theorem q9El_snoc {e : Nat} {p : Nat × Nat} {L : List (Nat × Nat)} : q9El e (L ++ [p]) = if p.1 = e then q9El e L ++ [p.2] else q9El e L := by
  rw [q9El_app, q9El_cons, q9El_nil]
  by_cases h : p.1 = e
  · rw [if_pos h, if_pos h]
  · rw [if_neg h, if_neg h, List.append_nil]
theorem q9At {e : Nat} : ∀ (L : List (Nat × Nat)), kAt e L = (q9El e L).length
  | [] => rfl
  | p :: L => by
    rw [kAt_cons, q9At L, q9El_cons]
    by_cases h : p.1 = e
    · rw [if_pos h, if_pos h, List.length_cons]; omega
    · rw [if_neg h, if_neg h]; omega
theorem q9Top {e : Nat} : ∀ (L : List (Nat × Nat)), kTop e L = (q9El e L).getLast?
  | [] => rfl
  | p :: L => by
    rw [kTop_cons, q9Top L, q9El_cons]
    by_cases h : p.1 = e
    · rw [if_pos h, if_pos h]
      cases q9El e L with
      | nil => rfl
      | cons a as =>
        rw [List.getLast?_cons_cons, List.getLast?_cons]
    · rw [if_neg h, if_neg h]
      cases (q9El e L).getLast? <;> rfl
def q9Oi (o : Option Nat) : Int32 := match o with
  | some o => nI o
  | none => -1
def q9Rk (e : Nat) (L : List (Nat × Nat)) (r : Nat) : Int32 := q9Oi ((q9El e L)[r]?)
theorem q9Rank0 {e r : Nat} (hr : r < 2 ^ 20) : ∀ (L : List (Nat × Nat)) (c : Nat), c ≤ r → kRank e (nI r) L c = q9Oi ((q9El e L)[r - c]?)
  | [], c, _ => rfl
  | p :: L, c, hc => by
    rw [kRank, q9El_cons]
    by_cases h : p.1 = e
    · rw [if_pos h, if_pos h]
      by_cases h2 : c = r
      · subst h2
        rw [if_pos rfl, Nat.sub_self, List.getElem?_cons_zero]
        rfl
      · rw [if_neg (mt (nI_eq (by omega) (by omega)).mp h2), q9Rank0 hr L (c + 1) (by omega)]
        obtain ⟨d, hd⟩ : ∃ d, r - c = d + 1 := ⟨r - c - 1, by omega⟩
        rw [hd, List.getElem?_cons_succ, show r - (c + 1) = d by omega]
    · rw [if_neg h, if_neg h, q9Rank0 hr L c hc]
theorem q9Rank {e r : Nat} {L : List (Nat × Nat)} (hr : r < 2 ^ 20) : kRank e (nI r) L 0 = q9Rk e L r := q9Rank0 hr L 0 (Nat.zero_le _)
theorem q9Rk_some {e r o : Nat} {L : List (Nat × Nat)} (h : (q9El e L)[r]? = some o) : q9Rk e L r = nI o := by unfold q9Rk; rw [h]; rfl
theorem q9Rk_end {e : Nat} {L : List (Nat × Nat)} : q9Rk e L (kAt e L) = -1 := by
  unfold q9Rk
  rw [q9At, List.getElem?_eq_none (Nat.le_refl _)]
  rfl
theorem q9Set0 {e : Nat} : ∀ (L : List (Nat × Nat)) (s : Int32), L.foldl (kSetS e) s = (q9El e L).foldl (fun a o => a ||| kBit o) s
  | [], s => rfl
  | p :: L, s => by
    rw [List.foldl_cons, q9Set0 L, q9El_cons]
    by_cases h : p.1 = e
    · rw [if_pos h, List.foldl_cons, show kSetS e s p = s ||| kBit p.2 from if_pos h]
    · rw [if_neg h, show kSetS e s p = s from if_neg h]
theorem q9Set {e : Nat} {L : List (Nat × Nat)} : kSet e L = (q9El e L).foldl (fun a o => a ||| kBit o) (nI 0) := q9Set0 L _
theorem q9TopR {e : Nat} {L : List (Nat × Nat)} (h : 0 < kAt e L) : kON (kTop e L) = q9Rk e L (kAt e L - 1) := by
  rw [q9At] at h ⊢
  rw [q9Top]
  unfold q9Rk
  rcases List.eq_nil_or_concat (q9El e L) with q | ⟨Y, c, q⟩
  · rw [q] at h; exact absurd h (Nat.lt_irrefl _)
  · rw [List.concat_eq_append] at q
    rw [q, List.getLast?_concat, List.length_append, List.length_singleton, Nat.add_sub_cancel, List.getElem?_concat_length]
    rfl
theorem q9Top0 {e : Nat} {L : List (Nat × Nat)} (h : kAt e L = 0) : kON (kTop e L) = -6 := by
  rw [q9At] at h
  rw [q9Top, List.length_eq_zero_iff.mp h]
  rfl
/-- the last strand at an edge is taken -/
theorem q9Und {e k : Nat} {L : List (Nat × Nat)} (h : kTop e L = some k) : q9El e (kUnd e L) ++ [k] = q9El e L ∧ ∀ e1, e1 ≠ e → q9El e1 (kUnd e L) = q9El e1 L := by
  obtain ⟨t, hI, hLt, hB⟩ := kIdx_some h
  have h1 : kUnd e L = L.take t ++ L.drop (t + 1) := by
    unfold kUnd
    rw [hI]
    exact List.eraseIdx_eq_take_drop_succ L t
  have h2 : L = L.take t ++ (e, k) :: L.drop (t + 1) := by
    rw [← kdrop hLt, List.take_append_drop]
  have h3 : q9El e (L.drop (t + 1)) = [] := by
    unfold q9El
    rw [List.map_eq_nil_iff, List.filter_eq_nil_iff]
    intro p hp
    obtain ⟨d, hd⟩ := List.mem_iff_getElem?.mp hp
    rw [List.getElem?_drop] at hd
    have := hB _ p (by omega) hd
    simp [this]
  refine ⟨?_, fun e1 he => ?_⟩
  · rw [h1, q9El_app, h3, List.append_nil]
    conv => rhs; rw [h2]
    rw [q9El_app, q9El_cons, if_pos rfl, h3]
  · rw [h1, q9El_app]
    conv => rhs; rw [h2]
    rw [q9El_app, q9El_cons, if_neg (fun q => he q.symm)]
/-- no two neighbours are alike -/
def q9Nl (X : List Nat) : Prop := ∀ r a, X[r]? = some a → X[r + 1]? ≠ some a
theorem q9Nl_snoc {X : List Nat} {k : Nat} (h : q9Nl X) (hk : X.getLast? ≠ some k) : q9Nl (X ++ [k]) := by
  intro r a h1 h2
  have hr := (List.getElem?_eq_some_iff.mp h2).1
  rw [List.length_append, List.length_singleton] at hr
  by_cases q : r + 1 < X.length
  · rw [List.getElem?_append_left (by omega)] at h1
    rw [List.getElem?_append_left q] at h2
    exact h r a h1 h2
  · have e : r + 1 = X.length := by omega
    rw [List.getElem?_append_left (by omega)] at h1
    rw [e, List.getElem?_concat_length] at h2
    cases Option.some.inj h2
    rcases List.eq_nil_or_concat X with z | ⟨Y, c, z⟩
    · rw [z] at e; exact absurd e (Nat.succ_ne_zero r)
    · rw [List.concat_eq_append] at z
      subst z
      rw [List.length_append, List.length_singleton] at e
      rw [show r = Y.length by omega, List.getElem?_concat_length] at h1
      rw [List.getLast?_concat] at hk
      exact hk h1
theorem q9Nl_init {X : List Nat} {k : Nat} (h : q9Nl (X ++ [k])) : q9Nl X := by
  intro r a h1 h2
  have q1 := (List.getElem?_eq_some_iff.mp h1).1
  have q2 := (List.getElem?_eq_some_iff.mp h2).1
  exact h r a (by rw [List.getElem?_append_left q1]; exact h1) (by rw [List.getElem?_append_left q2]; exact h2)
def q9Nb (L : List (Nat × Nat)) : Prop := ∀ e, q9Nl (q9El e L)
theorem q9Nb_lay {e k : Nat} {L : List (Nat × Nat)} (h : q9Nb L) (hk : ¬ kTop e L = some k) : q9Nb (L ++ [(e, k)]) := by
  intro e1
  rw [q9El_snoc]
  by_cases q : e = e1
  · subst q
    rw [if_pos rfl]
    exact q9Nl_snoc (h e) (by rw [← q9Top]; exact hk)
  · rw [if_neg q]; exact h e1
theorem q9Nb_und {e k : Nat} {L : List (Nat × Nat)} (h : q9Nb L) (hk : kTop e L = some k) : q9Nb (kUnd e L) := by
  obtain ⟨h1, h2⟩ := q9Und hk
  intro e1
  by_cases q : e1 = e
  · subst q
    have := h e1
    rw [← h1] at this
    exact q9Nl_init this
  · rw [h2 e1 q]; exact h e1
/-! P29: what holds of balls, vim and strands -/
def q9Yn (ki : Nat) (kf : Nat → Nat → Int32) (L : List (Nat × Nat)) : Prop := ∀ j, j < ki → ∃ b s : Nat, kf 3 j = nI b ∧ kf 6 j = nI s ∧ b + kOf j L + s = 40 ∧ kf 4 j = nI (kOf j L) + kf 5 j + kf 6 j
def q9Vm (ki : Nat) (kf : Nat → Nat → Int32) : Prop := ∀ j, j < ki → ∃ v : Nat, v ≤ 60 ∧ kf 1 j = nI v
def q9Sn (ki : Nat) (kf : Nat → Nat → Int32) (L : List (Nat × Nat)) : Prop := (∀ j, j < ki → kf 6 j = nI 0) → q9Nb L
def q9Q (ki : Nat) (kf : Nat → Nat → Int32) (L : List (Nat × Nat)) : Prop := q9Yn ki kf L ∧ q9Vm ki kf ∧ q9Sn ki kf L
theorem q9Q.congr {ki : Nat} {kf kf' : Nat → Nat → Int32} {L : List (Nat × Nat)} (h : q9Q ki kf L) (h3 : kf' 3 = kf 3) (h4 : kf' 4 = kf 4) (h5 : kf' 5 = kf 5) (h6 : kf' 6 = kf 6) (hv : q9Vm ki kf') : q9Q ki kf' L := by
  refine ⟨fun j hj => ?_, hv, fun z => h.2.2 (fun j hj => by rw [← h6]; exact z j hj)⟩
  rw [h3, h4, h5, h6]
  exact h.1 j hj
theorem q9ac {a w s : Int32} : a + nI 1 + w + s = a + (w + nI 1) + s := by
  rw [Int32.add_assoc a, Int32.add_comm (nI 1) w]
theorem q9ac2 {a w s : Int32} : a + nI 1 + w + s = a + w + s + nI 1 := by
  rw [Int32.add_assoc a, Int32.add_comm (nI 1) w, ← Int32.add_assoc a, Int32.add_assoc (a + w), Int32.add_comm (nI 1) s, ← Int32.add_assoc (a + w)]
theorem q9Over {ki k e : Nat} {es : List Nat} {kf : Nat → Nat → Int32} {L : List (Nat × Nat)} (hki : ki ≤ 6) (hk : k < ki) (hN : ∀ e1 ∈ es, ¬ e1 = e) (hB : kBalQ ki kf L) (hL : kLst L k (e :: es) (kf 3 k) = true) (hQ : q9Q ki kf L) : q9Q ki (kOver k (kf, L) e).1 (kOver k (kf, L) e).2 := by
  obtain ⟨hY, hV, hS⟩ := hQ
  have hroom := (kOver_bal hki hk hN hB hL).1
  by_cases hT : kTop e L = some k
  · have hq : kOver k (kf, L) e = (kPut (kPut kf 5 k (kf 5 k + nI 1)) 3 k (kf 3 k + nI 1), kUnd e L) := if_pos hT
    rw [hq]
    obtain ⟨t, hI, hLt, -⟩ := kIdx_some hT
    have hu : kUnd e L = L.eraseIdx t := by unfold kUnd; rw [hI]
    refine ⟨fun j hj => ?_, fun j hj => ?_, fun z => ?_⟩
    · obtain ⟨b, s, h1, h2, h3, h4⟩ := hY j hj
      have h5 := kOf_erase (o := j) L t hLt
      dsimp only
      rw [hu, kPut_s, kPut_n (f' := 6) (by decide), kPut_n (f' := 6) (by decide), kPut_n (f' := 4) (by decide), kPut_n (f' := 4) (by decide), kPut_n (f' := 5) (by decide), kPut_s]
      by_cases hjk : j = k
      · subst hjk
        rw [if_pos rfl] at h5
        rw [kU_s, kU_s]
        refine ⟨b + 1, s, by rw [h1, nI_add], h2, by omega, ?_⟩
        rw [h4, h5, ← nI_add, q9ac]
      · rw [if_neg (fun q => hjk q.symm)] at h5
        rw [kU_n hjk, kU_n hjk, kPut_n (f' := 3) (by decide)]
        exact ⟨b, s, h1, h2, by omega, by rw [h4, h5]; rfl⟩
    · dsimp only
      rw [kPut_n (by decide), kPut_n (by decide)]
      exact hV j hj
    · refine q9Nb_und (hS (fun j hj => ?_)) hT
      have := z j hj
      dsimp only at this
      rw [kPut_n (by decide), kPut_n (by decide)] at this
      exact this
  · have hl := hroom hT
    have hq : kOver k (kf, L) e = (kPut (kPut kf 4 k (kf 4 k + nI 1)) 3 k (kf 3 k - nI 1), kLay L (e, k)) := if_neg hT
    rw [hq, show kLay L (e, k) = L ++ [(e, k)] from if_pos hl]
    refine ⟨fun j hj => ?_, fun j hj => ?_, fun z => ?_⟩
    · obtain ⟨b, s, h1, h2, h3, h4⟩ := hY j hj
      dsimp only
      rw [kOf_snoc, kPut_s, kPut_n (f' := 6) (by decide), kPut_n (f' := 6) (by decide), kPut_n (f' := 5) (by decide), kPut_n (f' := 5) (by decide), kPut_n (f' := 4) (by decide), kPut_s]
      dsimp only
      by_cases hjk : j = k
      · subst hjk
        rw [if_pos rfl, kU_s, kU_s]
        have hb0 : 0 < b := by
          rcases Nat.eq_zero_or_pos b with q | q
          · subst q
            rw [kLst, if_neg hT, h1, if_pos (show nI 0 + (-1 : Int32) < 0 by decide)] at hL
            cases hL
          · exact q
        refine ⟨b - 1, s, by rw [h1]; exact pk_sub hb0, h2, by omega, ?_⟩
        rw [h4, ← nI_add, q9ac2]
      · rw [if_neg (fun q => hjk q.symm), kU_n hjk, kU_n hjk, kPut_n (f' := 3) (by decide)]
        exact ⟨b, s, h1, h2, by omega, h4⟩
    · dsimp only
      rw [kPut_n (by decide), kPut_n (by decide)]
      exact hV j hj
    · refine q9Nb_lay (hS (fun j hj => ?_)) hT
      have := z j hj
      dsimp only at this
      rw [kPut_n (by decide), kPut_n (by decide)] at this
      exact this
theorem q9Way {ki k : Nat} (hki : ki ≤ 6) (hk : k < ki) : ∀ (es : List Nat) (kf : Nat → Nat → Int32) (L : List (Nat × Nat)), es.Nodup → kBalQ ki kf L → kLst L k es (kf 3 k) = true → q9Q ki kf L → q9Q ki (es.foldl (kOver k) (kf, L)).1 (es.foldl (kOver k) (kf, L)).2
  | [], kf, L, _, _, _, h => h
  | e :: es, kf, L, hN, hB, hL, h => by
    have hN2 := List.nodup_cons.mp hN
    have hn : ∀ e1 ∈ es, ¬ e1 = e := fun e1 h1 (q : e1 = e) => hN2.1 (q ▸ h1)
    obtain ⟨k1, k2, k3⟩ := kOver_bal hki hk hn hB hL
    exact q9Way hki hk es _ _ hN2.2 k2 k3 (q9Over hki hk hn hB hL h)
theorem q9Cost {s t : Nat} (hs : s < 16) (ht : t < 16) : kCost (nI t - nI s) = nI (if s < t then 2 * (t - s) else s - t) := by
  have q : ∀ s t : Fin 16, kCost (nI t.val - nI s.val) = nI (if s.val < t.val then 2 * (t.val - s.val) else s.val - t.val) := by decide +kernel
  exact q ⟨s, hs⟩ ⟨t, ht⟩
/-- what a leap that is not refused needs -/
theorem q9Ref {σ : kS} {k : Nat} {x : Int32} (h : kRef σ k x = 0) : kNaps σ.2.2.2.2.2.1 k = 0 ∧ ¬ σ.2.2.2.2.2.1 1 k < kCost x ∧ ¬ kHeld σ k (σ.2.2.2.2.2.1 0 k + x) = true := by
  unfold kRef at h
  split at h
  · exact absurd h (by decide)
  rename_i h1
  split at h
  · exact absurd h (by decide)
  split at h
  · exact absurd h (by decide)
  split at h
  · exact absurd h (by decide)
  split at h
  · exact absurd h (by decide)
  split at h
  · exact absurd h (by decide)
  rename_i h2
  split at h
  · exact absurd h (by decide)
  rename_i h3
  exact ⟨Classical.not_not.mp h1, h2, h3⟩
theorem q9Over_1 {k : Nat} : ∀ (es : List Nat) (q : (Nat → Nat → Int32) × List (Nat × Nat)), (es.foldl (kOver k) q).1 1 = q.1 1
  | [], q => rfl
  | e :: es, q => by
    rw [List.foldl_cons, q9Over_1 es]
    unfold kOver
    split
    · dsimp only; rw [kPut_n (by decide), kPut_n (by decide)]
    · dsimp only; rw [kPut_n (by decide), kPut_n (by decide)]
theorem q9Leap {σ : kS} {k s t : Nat} (hB : kBal σ) (hki : σ.2.2.1 ≤ 6) (hk : k < σ.2.2.1) (hs : s < 16) (ht : t < 16) (hks : σ.2.2.2.2.2.1 0 k = nI s) (hr : kRef σ k (nI t - nI s) = 0) (hQ : q9Q σ.2.2.1 σ.2.2.2.2.2.1 σ.2.2.2.2.2.2.1) : q9Q (kLeap σ k (nI t - nI s)).2.2.1 (kLeap σ k (nI t - nI s)).2.2.2.2.2.1 (kLeap σ k (nI t - nI s)).2.2.2.2.2.2.1 := by
  have hcl : (σ.2.2.2.2.2.1 0 k).toNatClampNeg = s ∧ (σ.2.2.2.2.2.1 0 k + (nI t - nI s)).toNatClampNeg = t := ⟨by rw [hks]; exact nI_clamp (by omega), by rw [hks, Int32.add_comm, Int32.sub_add_cancel]; exact nI_clamp (by omega)⟩
  have hl := kRef_L hr
  rw [hcl.1, hcl.2] at hl
  have h1 := q9Way hki hk _ _ _ (kWay_nodup hs ht) hB hl hQ
  unfold kLeap
  simp only [hcl.1, hcl.2]
  refine h1.congr ?_ ?_ ?_ ?_ (fun j hj => ?_)
  · rw [kPut_n (by decide), kPut_n (by decide)]
  · rw [kPut_n (by decide), kPut_n (by decide)]
  · rw [kPut_n (by decide), kPut_n (by decide)]
  · rw [kPut_n (by decide), kPut_n (by decide)]
  · rw [kPut_s]
    by_cases q : j = k
    · subst q
      rw [kU_s, q9Over_1]
      obtain ⟨v, hv, hv2⟩ := hQ.2.1 j hj
      have hc := (q9Ref hr).2.1
      dsimp only
      rw [hv2, q9Cost hs ht] at hc ⊢
      have hcb : (if s < t then 2 * (t - s) else s - t) < 100 := by split <;> omega
      rw [nI_ltI (by omega) (by omega)] at hc
      exact ⟨v - (if s < t then 2 * (t - s) else s - t), by omega, pk_sub (by omega)⟩
    · rw [kU_n q, kPut_n (by decide), q9Over_1]
      exact hQ.2.1 j hj
