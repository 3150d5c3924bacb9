
/-! P29: what holds of every state of the law's run -/
def q9Lx (p q : kP) : Prop := p.1.toInt < q.1.toInt ∨ p.1 = q.1 ∧ p.2.1 ≤ q.2.1
def q9Pl (tu : Int32) (P : List kP) : Prop := P.length ≤ 16 ∧ P.Pairwise q9Lx ∧ ∀ p ∈ P, tu.toInt < p.1.toInt
def q9Wk (tu : Int32) (ki : Nat) (kf : Nat → Nat → Int32) : Prop := ∀ j, j < ki → kf 2 j = -6 ∨ tu.toInt < (kf 2 j).toInt
def q9J (σ : kS) : Prop := kIv σ ∧ 0 < (σ.1 2).toInt ∧ q9Q σ.2.2.1 σ.2.2.2.2.2.1 σ.2.2.2.2.2.2.1 ∧ q9Pl σ.2.1 σ.2.2.2.2.2.2.2 ∧ q9Wk σ.2.1 σ.2.2.1 σ.2.2.2.2.2.1
theorem q9Lx_le {p q : kP} (h : q9Lx p q) : p.1.toInt ≤ q.1.toInt := by
  rcases h with h | h
  · omega
  · rw [h.1]; exact Int.le_refl _
theorem q9Lx_tr {p q r : kP} (h1 : q9Lx p q) (h2 : q9Lx q r) : q9Lx p r := by
  rcases h1 with h1 | h1
  · exact Or.inl (by have := q9Lx_le h2; omega)
  · rcases h2 with h2 | h2
    · exact Or.inl (by rw [h1.1]; exact h2)
    · exact Or.inr ⟨h1.1.trans h2.1, by omega⟩
theorem q9Lx_rf {p : kP} : q9Lx p p := Or.inr ⟨rfl, Nat.le_refl _⟩
theorem q9J_new : q9J kNew := by
  refine ⟨kIv_new, by decide, ⟨fun j hj => absurd hj (Nat.not_lt_zero j), fun j hj => absurd hj (Nat.not_lt_zero j), fun _ e r a h => ?_⟩, ⟨by decide, List.Pairwise.nil, fun p hp => by simp [kNew] at hp⟩, fun j hj => absurd hj (Nat.not_lt_zero j)⟩
  simp [kNew, q9El] at h
theorem q9J_chg {σ : kS} {x z : Int32} (h : q9J σ) : q9J (kChg σ x z).2 := by
  by_cases hv : kVal x z = 0
  · rw [kVal_er hv]; exact h
  · have h1 := kIv_chg (x := x) (z := z) h.1
    obtain ⟨j, hj, e1, e2⟩ := kVal_ok (σ := σ) hv
    rw [e2] at h1 ⊢
    refine ⟨h1, ?_, h.2.2⟩
    show 0 < (upd σ.1 j z 2).toInt
    by_cases q : 2 = j
    · subst q
      rw [kU_s]
      subst e1
      unfold kVal at hv
      rw [if_neg (nI_pos (by decide)), if_neg (by decide), nI_clamp (by decide)] at hv
      by_cases a : z < ([1, 0, 1, 2] : List Int32).getD 2 0
      · rw [if_pos a] at hv; exact absurd rfl hv
      · rw [Int32.lt_iff_toInt_lt, show (([1, 0, 1, 2] : List Int32).getD 2 0).toInt = 1 by decide] at a
        omega
    · rw [kU_n q]; exact h.2.1
theorem q9J_add {σ : kS} {x : Int32} (h : q9J σ) : q9J (kAdd σ x).2 := by
  by_cases hv : kKitE σ x = 0
  · have h1 := kIv_add (x := x) h.1
    obtain ⟨e1, e2⟩ := kKitE_ok hv
    rw [e1] at h1 ⊢
    obtain ⟨⟨h3, h4, h5, h6, h7, h8⟩, h9, ⟨hY, hV, hS⟩, hP, hW⟩ := h
    refine ⟨h1, h9, ⟨fun j hj => ?_, fun j hj => ?_, fun z => ?_⟩, hP, fun j hj => ?_⟩
    · have hj2 : j < σ.2.2.1 + 1 := hj
      dsimp only
      by_cases q : j = σ.2.2.1
      · rw [q, kU_s, kU_s, kU_s, kU_s, kOf_0 _ h4.2]
        exact ⟨40, 0, rfl, rfl, rfl, show nI 0 = nI 0 + nI 0 + nI 0 by decide⟩
      · rw [kU_n q, kU_n q, kU_n q, kU_n q]
        exact hY j (by omega)
    · have hj2 : j < σ.2.2.1 + 1 := hj
      dsimp only
      by_cases q : j = σ.2.2.1
      · rw [q, kU_s]
        obtain ⟨n, hn, e⟩ := h5 3 (by decide)
        exact ⟨n, hn, e⟩
      · rw [kU_n q]
        exact hV j (by omega)
    · refine hS (fun j hj => ?_)
      have := z j (Nat.lt_succ_of_lt hj)
      dsimp only at this
      rw [kU_n (by omega)] at this
      exact this
    · have hj2 : j < σ.2.2.1 + 1 := hj
      dsimp only
      by_cases q : j = σ.2.2.1
      · rw [q, kU_s]; exact Or.inl rfl
      · rw [kU_n q]; exact hW j (by omega)
  · rw [(kKitE_er hv).1]; exact h
theorem q9J_try {σ : kS} {x z : Int32} (h : q9J σ) : q9J (kTry σ x z).2 := by
  by_cases hv : kLpE σ x z = 0
  · have h1 := kIv_try (x := x) (z := z) h.1
    obtain ⟨⟨h3, h4, h5, h6, h7, h8⟩, h9, hQ, hP, hW⟩ := h
    obtain ⟨j, s, t, hj, e1, hs, ht, hs2, e2, hr, e3⟩ := kLpE_ok h8 h3.1 hv
    rw [e3] at h1 ⊢
    subst e2
    refine ⟨h1, h9, q9Leap h4 h8 hj hs ht hs2 hr hQ, hP, fun i hi => ?_⟩
    dsimp only
    rw [kLeap_2]
    exact hW i hi
  · rw [(kLpE_er hv).1]; exact h
theorem q9J_nap {σ : kS} {x : Int32} (h : q9J σ) : q9J (kNap σ x).2 := by
  by_cases hv : kNapE σ x = 0
  · have h1 := kIv_nap (x := x) h.1
    obtain ⟨⟨h3, h4, h5, h6, h7, h8⟩, h9, ⟨hY, hV, hS⟩, hP, hW⟩ := h
    obtain ⟨j, hj, e1, e2⟩ := kNapE_ok h8 hv
    rw [e2] at h1 ⊢
    refine ⟨h1, h9, q9Q.congr ⟨hY, hV, hS⟩ (by dsimp only; rw [kPut_n (by decide)]) (by dsimp only; rw [kPut_n (by decide)]) (by dsimp only; rw [kPut_n (by decide)]) (by dsimp only; rw [kPut_n (by decide)]) (fun i hi => ?_), hP, fun i hi => ?_⟩
    · dsimp only; rw [kPut_n (by decide)]; exact hV i hi
    · dsimp only
      rw [kPut_s]
      by_cases q : i = j
      · subst q
        rw [kU_s]
        obtain ⟨n, hn, e3⟩ := h3.2
        obtain ⟨w, hw, e4⟩ := h5 2 (by decide)
        rw [e4, nI_toInt (by omega)] at h9
        rw [e3, e4, nI_add, nI_toInt (by omega), nI_toInt (by omega)]
        exact Or.inr (by omega)
      · rw [kU_n q]; exact hW i hi
  · rw [(kNapE_er hv).1]; exact h
theorem q9Cut_k {e j : Nat} : ∀ (L : List (Nat × Nat)), kOf j (kCut e j L) + (L.length - (kCut e j L).length) = kOf j L ∧ (kCut e j L).length ≤ L.length
  | [] => ⟨rfl, Nat.le_refl _⟩
  | p :: L => by
    have h2 : kCut e j (p :: L) = if kNot e j p = true then p :: kCut e j L else kCut e j L := List.filter_cons
    obtain ⟨h3, h4⟩ := q9Cut_k (e := e) (j := j) L
    rw [h2, kOf_cons]
    by_cases h : kNot e j p = true
    · rw [if_pos h, kOf_cons, List.length_cons, List.length_cons]
      omega
    · rw [if_neg h, List.length_cons]
      have h5 : p.2 = j := by
        unfold kNot at h
        simp at h
        exact h.2
      rw [if_pos h5]
      omega
theorem q9Cut_n {e i j : Nat} (hij : ¬ i = j) : ∀ (L : List (Nat × Nat)), kOf i (kCut e j L) = kOf i L
  | [] => rfl
  | p :: L => by
    have h2 : kCut e j (p :: L) = if kNot e j p = true then p :: kCut e j L else kCut e j L := List.filter_cons
    rw [h2, kOf_cons]
    by_cases h : kNot e j p = true
    · rw [if_pos h, kOf_cons, q9Cut_n hij L]
    · rw [if_neg h, q9Cut_n hij L]
      have h5 : p.2 = j := by
        unfold kNot at h
        simp at h
        exact h.2
      rw [if_neg (by rw [h5]; exact fun q => hij q.symm)]
      omega
theorem q9ac3 {a d w s : Int32} : a + d + w + s = a + w + (s + d) := by
  rw [Int32.add_assoc a d w, Int32.add_comm d w, ← Int32.add_assoc a w d, Int32.add_assoc (a + w) d s, Int32.add_comm d s]
theorem q9J_snip {σ : kS} {x z : Int32} (h : q9J σ) : q9J (kSnip σ x z).2 := by
  by_cases hv : kSnE σ x z = 0
  · have h1 := kIv_snip (x := x) (z := z) h.1
    obtain ⟨⟨h3, h4, h5, h6, h7, h8⟩, h9, ⟨hY, hV, hS⟩, hP, hW⟩ := h
    obtain ⟨e, j, he, e1, hj, e2, e3⟩ := kSnE_ok h8 hv
    rw [e3] at h1 ⊢
    obtain ⟨c1, c2⟩ := q9Cut_k (e := e) (j := j) σ.2.2.2.2.2.2.1
    refine ⟨h1, h9, ⟨fun i hi => ?_, fun i hi => ?_, fun q => ?_⟩, hP, fun i hi => ?_⟩
    · obtain ⟨b, s, q1, q2, q3, q4⟩ := hY i hi
      dsimp only
      rw [kPut_n (f' := 3) (by decide), kPut_n (f' := 4) (by decide), kPut_n (f' := 5) (by decide), kPut_s]
      by_cases q : i = j
      · subst q
        rw [kU_s]
        refine ⟨b, s + (σ.2.2.2.2.2.2.1.length - (kCut e i σ.2.2.2.2.2.2.1).length), q1, by rw [q2, nI_add], by omega, ?_⟩
        rw [q4, ← c1, ← nI_add, q9ac3]
      · rw [kU_n q, q9Cut_n q]
        exact ⟨b, s, q1, q2, q3, q4⟩
    · dsimp only; rw [kPut_n (by decide)]; exact hV i hi
    · obtain ⟨b, s, q1, q2, q3, q4⟩ := hY j hj
      have q5 := q j hj
      dsimp only at q5 ⊢
      rw [kPut_s, kU_s, q2, nI_add, nI_eq (by omega) (by decide)] at q5
      have q6 : kCut e j σ.2.2.2.2.2.2.1 = σ.2.2.2.2.2.2.1 := List.Sublist.eq_of_length List.filter_sublist (show (kCut e j σ.2.2.2.2.2.2.1).length = _ by omega)
      rw [q6]
      refine hS (fun i hi => ?_)
      by_cases q7 : i = j
      · rw [q7, q2, show s = 0 by omega]
      · have q8 := q i hi
        dsimp only at q8
        rw [kPut_s, kU_n q7] at q8
        exact q8
    · dsimp only; rw [kPut_n (by decide)]; exact hW i hi
  · rw [(kSnE_er hv).1]; exact h
theorem q9Plc {P : List kP} {tu : Int32} {k : Nat} {b : Int32} (hk : k < 6) (hP : ∀ p ∈ P, p.2.1 < 6) : ∀ j, j ≤ P.length → (kPlc P tu k j = 0 ∨ ∃ p, P[kPlc P tu k j - 1]? = some p ∧ q9Lx p (tu, k, b)) ∧ ∀ i p, kPlc P tu k j ≤ i → i < j → P[i]? = some p → q9Lx (tu, k, b) p
  | 0, _ => ⟨Or.inl rfl, fun i p _ hi => absurd hi (Nat.not_lt_zero i)⟩
  | j + 1, hj => by
    obtain ⟨p, hp⟩ := kget (L := P) (i := j) (by omega)
    have hp6 := hP p (List.mem_iff_getElem?.mpr ⟨j, hp⟩)
    have ih := q9Plc (tu := tu) (b := b) hk hP j (by omega)
    rw [kPlc_s hp]
    by_cases h : kLat p.1 (nI p.2.1) tu (nI k) = 0
    · rw [if_pos h]
      refine ⟨Or.inr ⟨p, by rw [Nat.add_sub_cancel]; exact hp, ?_⟩, fun i q h1 h2 => absurd h1 (by omega)⟩
      unfold kLat at h
      by_cases h1 : p.1 = tu
      · rw [if_pos h1] at h
        by_cases h2 : nI p.2.1 ≤ nI k
        · exact Or.inr ⟨h1, show p.2.1 ≤ k from (nI_leI (by omega) (by omega)).mp h2⟩
        · rw [if_neg h2] at h; exact absurd h (by decide)
      · rw [if_neg h1] at h
        by_cases h2 : p.1 ≤ tu
        · have h3 := Int32.le_iff_toInt_le.mp h2
          have h4 : p.1.toInt ≠ tu.toInt := fun q => h1 (Int32.toInt_inj.mp q)
          exact Or.inl (by show p.1.toInt < tu.toInt; omega)
        · rw [if_neg h2] at h; exact absurd h (by decide)
    · rw [if_neg h]
      refine ⟨ih.1, fun i q h1 h2 hq => ?_⟩
      by_cases h3 : i = j
      · subst h3
        rw [hp] at hq
        cases Option.some.inj hq
        unfold kLat at h
        by_cases h4 : p.1 = tu
        · rw [if_pos h4] at h
          by_cases h5 : nI p.2.1 ≤ nI k
          · rw [if_pos h5] at h; exact absurd rfl h
          · rw [nI_leI (by omega) (by omega)] at h5
            exact Or.inr ⟨h4.symm, by show k ≤ p.2.1; omega⟩
        · rw [if_neg h4] at h
          by_cases h5 : p.1 ≤ tu
          · rw [if_pos h5] at h; exact absurd rfl h
          · rw [Int32.le_iff_toInt_le] at h5
            exact Or.inl (by show tu.toInt < p.1.toInt; omega)
      · exact ih.2 i q h1 (by omega) hq
theorem q9Lx_at {P : List kP} (h : P.Pairwise q9Lx) {i j : Nat} {p q : kP} (hp : P[i]? = some p) (hq : P[j]? = some q) (hij : i ≤ j) : q9Lx p q := by
  by_cases e : i = j
  · subst e; rw [hp] at hq; cases Option.some.inj hq; exact q9Lx_rf
  · obtain ⟨h1, h2⟩ := List.getElem?_eq_some_iff.mp hp
    obtain ⟨h3, h4⟩ := List.getElem?_eq_some_iff.mp hq
    have := List.pairwise_iff_getElem.mp h i j h1 h3 (by omega)
    rw [h2, h4] at this
    exact this
theorem q9Ins {P : List kP} {x : kP} (hx : x.2.1 < 6) (hP : ∀ p ∈ P, p.2.1 < 6) (h : P.Pairwise q9Lx) : (kIns P x).Pairwise q9Lx := by
  obtain ⟨xt, xk, xb⟩ := x
  have hx : xk < 6 := hx
  obtain ⟨h1, h2⟩ := q9Plc (P := P) (tu := xt) (k := xk) (b := xb) hx hP P.length (Nat.le_refl _)
  have hc := kPlc_le P xt xk P.length
  unfold kIns
  dsimp only
  have hup : ∀ q ∈ P.drop (kPlc P xt xk P.length), q9Lx (xt, xk, xb) q := fun q hq => by
    obtain ⟨d, hd⟩ := List.mem_iff_getElem?.mp hq
    rw [List.getElem?_drop] at hd
    exact h2 _ q (Nat.le_add_right _ _) (List.getElem?_eq_some_iff.mp hd).1 hd
  have hlo : ∀ q ∈ P.take (kPlc P xt xk P.length), q9Lx q (xt, xk, xb) := fun q hq => by
    obtain ⟨d, hd⟩ := List.mem_iff_getElem?.mp hq
    have hdl := (List.getElem?_eq_some_iff.mp hd).1
    rw [List.length_take] at hdl
    rw [List.getElem?_take_of_lt (by omega)] at hd
    rcases h1 with h1 | ⟨p, hp, h3⟩
    · omega
    · exact q9Lx_tr (q9Lx_at h hd hp (by omega)) h3
  refine List.pairwise_append.mpr ⟨List.Pairwise.sublist (List.take_sublist _ _) h, List.pairwise_cons.mpr ⟨hup, List.Pairwise.sublist (List.drop_sublist _ _) h⟩, fun a ha b hb => ?_⟩
  rcases List.mem_cons.mp hb with e | e
  · rw [e]; exact hlo a ha
  · exact q9Lx_tr (hlo a ha) (hup b e)
theorem q9Ins_len {P : List kP} {x : kP} : (kIns P x).length = P.length + 1 := by
  unfold kIns
  have hc := kPlc_le P x.1 x.2.1 P.length
  rw [List.length_append, List.length_cons, List.length_take, List.length_drop]
  omega
theorem q9J_plan {σ : kS} {w x z : Int32} (h : q9J σ) : q9J (kPlan σ w x z).2 := by
  by_cases hv : kPlE σ w x z = 0
  · have h1 := kIv_plan (w := w) (x := x) (z := z) h.1
    obtain ⟨⟨h3, h4, h5, h6, h7, h8⟩, h9, hQ, ⟨hP1, hP2, hP3⟩, hW⟩ := h
    obtain ⟨j, hj, e1, hl, q1, q2, e2⟩ := kPlE_ok h8 hv
    rw [e2] at h1 ⊢
    have hp6 : ∀ p ∈ σ.2.2.2.2.2.2.2, p.2.1 < 6 := fun p hp => by have := h3.1.2 p hp; omega
    refine ⟨h1, h9, hQ, ⟨?_, q9Ins (by show j < 6; omega) hp6 hP2, fun p hp => ?_⟩, hW⟩
    · dsimp only; rw [q9Ins_len]; omega
    · rcases kIns_mem hp with q | q
      · obtain ⟨n, hn, e3⟩ := h3.2
        obtain ⟨w1, hw1, hw2, e4⟩ := kT99 q1 q2
        rw [q]
        dsimp only
        rw [e3, e4, nI_add, nI_toInt (by omega), nI_toInt (by omega)]
        omega
      · exact hP3 p q
  · rw [(kPlE_er hv).1]; exact h
/-! P29: a turn -/
theorem q9WakeF {tu vi : Int32} {f : Nat} (h1 : f ≠ 1) (h2 : f ≠ 2) : ∀ (l : List Nat) (kf : Nat → Nat → Int32), l.foldl (kWakeS tu vi) kf f = kf f
  | [], kf => rfl
  | j :: l, kf => by
    rw [List.foldl_cons, q9WakeF h1 h2 l]
    unfold kWakeS
    split
    · rw [kPut_n h1, kPut_n h2]
    · rfl
theorem q9FreshF {vi : Int32} {f : Nat} (h1 : f ≠ 1) : ∀ (l : List Nat) (kf : Nat → Nat → Int32), l.foldl (kFreshS vi) kf f = kf f
  | [], kf => rfl
  | j :: l, kf => by
    rw [List.foldl_cons, q9FreshF h1 l]
    unfold kFreshS
    split
    · rfl
    · split
      · rfl
      · rw [kPut_n h1]
theorem q9WakeV {tu : Int32} {n v : Nat} (hv : v ≤ 60) : ∀ (l : List Nat) (kf : Nat → Nat → Int32), q9Vm n kf → q9Vm n (l.foldl (kWakeS tu (nI v)) kf)
  | [], kf, h => h
  | j :: l, kf, h => by
    rw [List.foldl_cons]
    refine q9WakeV hv l _ (fun i hi => ?_)
    unfold kWakeS
    split
    · rw [kPut_s, kPut_n (by decide)]
      by_cases q : i = j
      · subst q; rw [kU_s]; exact ⟨v, hv, rfl⟩
      · rw [kU_n q]; exact h i hi
    · exact h i hi
theorem q9FreshV {n v : Nat} (hv : v ≤ 60) : ∀ (l : List Nat) (kf : Nat → Nat → Int32), q9Vm n kf → q9Vm n (l.foldl (kFreshS (nI v)) kf)
  | [], kf, h => h
  | j :: l, kf, h => by
    rw [List.foldl_cons]
    refine q9FreshV hv l _ (fun i hi => ?_)
    unfold kFreshS
    split
    · exact h i hi
    · split
      · exact h i hi
      · rename_i h2
        rw [kPut_s]
        by_cases q : i = j
        · subst q
          rw [kU_s]
          obtain ⟨w, hw, e⟩ := h i hi
          rw [e] at h2 ⊢
          rw [nI_leI (by omega) (by omega)] at h2
          exact ⟨w + 1, by omega, nI_add w 1⟩
        · rw [kU_n q]; exact h i hi
theorem q9Wake2 {tu vi : Int32} {kf : Nat → Nat → Int32} {j : Nat} : ∀ n, (List.range n).foldl (kWakeS tu vi) kf 2 j = if j < n ∧ kf 2 j = tu then -6 else kf 2 j
  | 0 => by rw [if_neg (fun q => Nat.not_lt_zero _ q.1)]; rfl
  | n + 1 => by
    have hn := q9Wake2 (tu := tu) (vi := vi) (kf := kf) (j := n) n
    have hj := q9Wake2 (tu := tu) (vi := vi) (kf := kf) (j := j) n
    rw [if_neg (fun q => Nat.lt_irrefl _ q.1)] at hn
    rw [List.range_succ, List.foldl_append, List.foldl_cons, List.foldl_nil]
    generalize List.foldl (kWakeS tu vi) kf (List.range n) = k1 at hn hj ⊢
    unfold kWakeS
    rw [hn]
    by_cases h1 : kf 2 n = tu
    · rw [if_pos h1, kPut_n (by decide), kPut_s]
      by_cases q : j = n
      · subst q
        rw [kU_s, if_pos ⟨Nat.lt_succ_self _, h1⟩]
      · rw [kU_n q, hj]
        by_cases h2 : j < n ∧ kf 2 j = tu
        · rw [if_pos h2, if_pos ⟨Nat.lt_succ_of_lt h2.1, h2.2⟩]
        · rw [if_neg h2, if_neg (fun z => h2 ⟨by omega, z.2⟩)]
    · rw [if_neg h1, hj]
      by_cases h2 : j < n ∧ kf 2 j = tu
      · rw [if_pos h2, if_pos ⟨Nat.lt_succ_of_lt h2.1, h2.2⟩]
      · rw [if_neg h2, if_neg (fun z => ?_)]
        by_cases q : j = n
        · exact h1 (q ▸ z.2)
        · exact h2 ⟨by omega, z.2⟩
theorem q9Run : ∀ (n : Nat) (σ : kS) (m : Nat), kOk2 σ → σ.2.2.1 ≤ 6 → kBal σ → q9Q σ.2.2.1 σ.2.2.2.2.2.1 σ.2.2.2.2.2.2.1 → q9Q (kRun n σ m).2.2.2.1 (kRun n σ m).2.2.2.2.2.2.1 (kRun n σ m).2.2.2.2.2.2.2.1
  | 0, σ, m, _, _, _, h => by rw [kRun_0]; exact h
  | n + 1, (se, tu, ki, ma, re, kf, L, P), m, hok, hki, hB, h => by
    cases P with
    | nil => rw [kRun_nil]; exact h
    | cons p P =>
      by_cases h1 : p.1 = tu
      · rw [kRun_go h1]
        obtain ⟨hst, hpk⟩ := hok
        have hpk6 : p.2.1 < ki := hpk p List.mem_cons_self
        have hpk2 : ∀ q ∈ P, q.2.1 < ki := fun q hq => hpk q (List.mem_cons_of_mem _ hq)
        obtain ⟨s, hs, hs2⟩ := hst p.2.1 hpk6
        by_cases h2 : kRef (se, tu, ki, ma, re, kf, L, P) p.2.1 p.2.2 = 0
        · rw [if_pos h2]
          obtain ⟨t, ht, ht2⟩ := kRef_0 h2 hs2 hs
          rw [ht2] at h2 ⊢
          exact q9Run n _ _ ⟨kLeap_steps (σ := (se, tu, ki, ma, re, kf, L, P)) hst hs2 ht, hpk2⟩ hki (kLeap_bal (σ := (se, tu, ki, ma, re, kf, L, P)) hB hki hpk6 hs ht hs2 h2).2 (q9Leap (σ := (se, tu, ki, ma, re, kf, L, P)) hB hki hpk6 hs ht hs2 h2 h)
        · rw [if_neg h2]
          exact q9Run n _ _ ⟨hst, hpk2⟩ hki hB h
      · rw [kRun_ne h1]; exact h
theorem q9Run2 : ∀ (n : Nat) (σ : kS) (m : Nat), (kRun n σ m).2.2.2.2.2.2.1 2 = σ.2.2.2.2.2.1 2
  | 0, σ, m => by rw [kRun_0]
  | n + 1, (se, tu, ki, ma, re, kf, L, P), m => by
    cases P with
    | nil => rw [kRun_nil]
    | cons p P =>
      by_cases h1 : p.1 = tu
      · rw [kRun_go h1]
        split
        · rw [q9Run2 n, kLeap_2]
        · rw [q9Run2 n]
      · rw [kRun_ne h1]
/-- the plans that a run leaves: a rest of those that there were, none of this turn -/
theorem q9RunP : ∀ (n : Nat) (σ : kS) (m : Nat), σ.2.2.2.2.2.2.2.length ≤ n → σ.2.2.2.2.2.2.2.Pairwise q9Lx → (∀ p ∈ σ.2.2.2.2.2.2.2, σ.2.1.toInt ≤ p.1.toInt) →
    (∃ D, σ.2.2.2.2.2.2.2 = D ++ (kRun n σ m).2.2.2.2.2.2.2.2 ∧ ∀ p ∈ D, p.1 = σ.2.1) ∧ ∀ p ∈ (kRun n σ m).2.2.2.2.2.2.2.2, σ.2.1.toInt < p.1.toInt
  | n, (se, tu, ki, ma, re, kf, L, []), m, _, _, _ => by
    rw [kRun_nil]
    exact ⟨⟨[], rfl, fun p hp => by cases hp⟩, fun p hp => by cases hp⟩
  | 0, (se, tu, ki, ma, re, kf, L, p :: P), m, hl, _, _ => absurd hl (Nat.not_succ_le_zero _)
  | n + 1, (se, tu, ki, ma, re, kf, L, p :: P), m, hl, hs, hp => by
    have hs2 := List.pairwise_cons.mp hs
    have hl2 : P.length ≤ n := Nat.le_of_succ_le_succ hl
    have hp2 : ∀ q ∈ P, tu.toInt ≤ q.1.toInt := fun q hq => hp q (List.mem_cons_of_mem _ hq)
    by_cases h1 : p.1 = tu
    · rw [kRun_go h1]
      split
      · obtain ⟨⟨D, d1, d2⟩, d3⟩ := q9RunP n (kLeap (se, tu, ki, ma, re, kf, L, P) p.2.1 p.2.2) (m + 1) hl2 hs2.2 hp2
        refine ⟨⟨p :: D, by rw [List.cons_append, ← d1]; rfl, fun q hq => ?_⟩, d3⟩
        rcases List.mem_cons.mp hq with e | e
        · rw [e]; exact h1
        · exact d2 q e
      · obtain ⟨⟨D, d1, d2⟩, d3⟩ := q9RunP n (se, tu, ki, ma, re + nI 1, kf, L, P) m hl2 hs2.2 hp2
        refine ⟨⟨p :: D, by rw [List.cons_append, ← d1], fun q hq => ?_⟩, d3⟩
        rcases List.mem_cons.mp hq with e | e
        · rw [e]; exact h1
        · exact d2 q e
    · rw [kRun_ne h1]
      have h2 : tu.toInt < p.1.toInt := by
        have h3 := hp p List.mem_cons_self
        have h4 : p.1.toInt ≠ tu.toInt := fun q => h1 (Int32.toInt_inj.mp q)
        have h5 : tu.toInt ≤ p.1.toInt := h3
        omega
      refine ⟨⟨[], rfl, fun q hq => by cases hq⟩, fun q hq => ?_⟩
      rcases List.mem_cons.mp hq with e | e
      · rw [e]; exact h2
      · have := q9Lx_le (hs2.1 q e)
        show tu.toInt < q.1.toInt
        omega
/-- what a turn needs and keeps -/
def q9I (σ : kS) (a : Nat) : Prop := kOk2 σ ∧ σ.2.2.1 ≤ 6 ∧ kBal σ ∧ (∃ v : Nat, v ≤ 60 ∧ σ.1 3 = nI v) ∧ σ.2.1 = nI a ∧ q9Q σ.2.2.1 σ.2.2.2.2.2.1 σ.2.2.2.2.2.2.1 ∧ q9Pl σ.2.1 σ.2.2.2.2.2.2.2 ∧ q9Wk σ.2.1 σ.2.2.1 σ.2.2.2.2.2.1
/-- the state of a turn ahead of its planned leaps -/
def q9Rho (σ : kS) : kS := (σ.1, σ.2.1 + nI 1, σ.2.2.1, σ.2.2.2.1, σ.2.2.2.2.1, kWakes σ.2.2.1 (σ.2.1 + nI 1) (σ.1 3) σ.2.2.2.2.2.1, σ.2.2.2.2.2.2.1, σ.2.2.2.2.2.2.2)
theorem q9Turn_eq {σ : kS} : kTurn σ = ((kRun 16 (q9Rho σ) 0).1, ((kRun 16 (q9Rho σ) 0).2.1, (kRun 16 (q9Rho σ) 0).2.2.1, (kRun 16 (q9Rho σ) 0).2.2.2.1, (kRun 16 (q9Rho σ) 0).2.2.2.2.1, (kRun 16 (q9Rho σ) 0).2.2.2.2.2.1, kFresh (kRun 16 (q9Rho σ) 0).2.2.2.1 ((kRun 16 (q9Rho σ) 0).2.1 3) (kRun 16 (q9Rho σ) 0).2.2.2.2.2.2.1, (kRun 16 (q9Rho σ) 0).2.2.2.2.2.2.2.1, (kRun 16 (q9Rho σ) 0).2.2.2.2.2.2.2.2)) := rfl
theorem q9Rho_ok {σ : kS} (h : kOk2 σ) : kOk2 (q9Rho σ) := ⟨fun k hk => by
  show ∃ s, s < 16 ∧ kWakes σ.2.2.1 (σ.2.1 + nI 1) (σ.1 3) σ.2.2.2.2.2.1 0 k = nI s
  unfold kWakes; rw [kWakes_0]; exact h.1 k hk, h.2⟩
theorem q9Rho_bal {σ : kS} (h : kBal σ) : kBal (q9Rho σ) := ⟨fun j hj => by
  show ∃ c : Nat, kWakes σ.2.2.1 (σ.2.1 + nI 1) (σ.1 3) σ.2.2.2.2.2.1 3 j = nI c ∧ _
  unfold kWakes; rw [kWakes_3]; exact h.1 j hj, h.2⟩
theorem q9TurnP {σ : kS} {a : Nat} (h : q9I σ a) (ha : a < 20000) : (∃ D, σ.2.2.2.2.2.2.2 = D ++ (kTurn σ).2.2.2.2.2.2.2.2 ∧ ∀ p ∈ D, p.1 = nI (a + 1)) ∧ (∀ p ∈ (kTurn σ).2.2.2.2.2.2.2.2, (nI (a + 1)).toInt < p.1.toInt) := by
  obtain ⟨h1, h2, h3, h4, h5, h6, ⟨hP1, hP2, hP3⟩, h8⟩ := h
  have e : (q9Rho σ).2.1 = nI (a + 1) := by
    show σ.2.1 + nI 1 = _
    rw [h5, nI_add]
  have q := q9RunP 16 (q9Rho σ) 0 hP1 hP2 (fun p hp => by
    rw [e]
    have := hP3 p hp
    rw [h5, nI_toInt (by omega)] at this
    rw [nI_toInt (by omega)]
    omega)
  rw [e] at q
  exact q
theorem q9Turn2 {σ : kS} {a j : Nat} (h : q9I σ a) : (kTurn σ).2.2.2.2.2.2.1 2 j = if j < σ.2.2.1 ∧ σ.2.2.2.2.2.1 2 j = nI (a + 1) then -6 else σ.2.2.2.2.2.1 2 j := by
  obtain ⟨h1, h2, h3, h4, h5, h6, h7, h8⟩ := h
  rw [q9Turn_eq]
  show kFresh _ _ _ 2 j = _
  unfold kFresh
  rw [q9FreshF (by decide), q9Run2]
  show kWakes σ.2.2.1 (σ.2.1 + nI 1) (σ.1 3) σ.2.2.2.2.2.1 2 j = _
  unfold kWakes
  rw [q9Wake2, h5, nI_add]
theorem q9Turn {σ : kS} {a : Nat} (h : q9I σ a) (ha : a < 20000) : q9I (kTurn σ).2 (a + 1) := by
  have hp := q9TurnP h ha
  have hw := fun j => q9Turn2 (j := j) h
  obtain ⟨h1, h2, h3, ⟨v, hv, h4⟩, h5, h6, ⟨hP1, hP2, hP3⟩, h8⟩ := h
  obtain ⟨t1, t2, t3, t4⟩ := kTurn_ok h1
  have ht : (kTurn σ).2.2.1 = nI (a + 1) := by rw [t3, h5, nI_add]
  refine ⟨t1, by rw [t4]; exact h2, kTurn_bal h1 h2 h3, ⟨v, hv, by rw [t2]; exact h4⟩, ht, ?_, ⟨?_, ?_, ?_⟩, ?_⟩
  · have hr : q9Q (q9Rho σ).2.2.1 (q9Rho σ).2.2.2.2.2.1 (q9Rho σ).2.2.2.2.2.2.1 := by
      show q9Q σ.2.2.1 (kWakes σ.2.2.1 (σ.2.1 + nI 1) (σ.1 3) σ.2.2.2.2.2.1) σ.2.2.2.2.2.2.1
      unfold kWakes
      refine h6.congr (q9WakeF (by decide) (by decide) _ _) (q9WakeF (by decide) (by decide) _ _) (q9WakeF (by decide) (by decide) _ _) (q9WakeF (by decide) (by decide) _ _) ?_
      rw [h4]
      exact q9WakeV hv _ _ h6.2.1
    have hr2 := q9Run 16 (q9Rho σ) 0 (q9Rho_ok h1) h2 (q9Rho_bal h3) hr
    have hr3 := (kRun_ok 16 (q9Rho σ) 0 (q9Rho_ok h1)).2.1
    rw [q9Turn_eq]
    show q9Q (kRun 16 (q9Rho σ) 0).2.2.2.1 (kFresh (kRun 16 (q9Rho σ) 0).2.2.2.1 ((kRun 16 (q9Rho σ) 0).2.1 3) (kRun 16 (q9Rho σ) 0).2.2.2.2.2.2.1) (kRun 16 (q9Rho σ) 0).2.2.2.2.2.2.2.1
    unfold kFresh
    refine hr2.congr (q9FreshF (by decide) _ _) (q9FreshF (by decide) _ _) (q9FreshF (by decide) _ _) (q9FreshF (by decide) _ _) ?_
    rw [hr3, show (q9Rho σ).1 3 = nI v from h4]
    exact q9FreshV hv _ _ hr2.2.1
  · obtain ⟨⟨D, d1, d2⟩, d3⟩ := hp
    have := congrArg List.length d1
    rw [List.length_append] at this
    omega
  · obtain ⟨⟨D, d1, d2⟩, d3⟩ := hp
    rw [d1] at hP2
    exact (List.pairwise_append.mp hP2).2.1
  · rw [ht]; exact hp.2
  · rw [ht, t4]
    intro j hj
    rw [hw]
    by_cases q : j < σ.2.2.1 ∧ σ.2.2.2.2.2.1 2 j = nI (a + 1)
    · rw [if_pos q]; exact Or.inl rfl
    · rw [if_neg q]
      rcases h8 j hj with z | z
      · exact Or.inl z
      · refine Or.inr ?_
        rw [h5, nI_toInt (by omega)] at z
        have z2 : (σ.2.2.2.2.2.1 2 j).toInt ≠ (nI (a + 1)).toInt := fun y => q ⟨hj, Int32.toInt_inj.mp y⟩
        rw [nI_toInt (by omega)] at z2 ⊢
        omega
theorem q9Pass : ∀ (n : Nat) (σ : kS) (m a : Nat), q9I σ a → a + n ≤ 20000 → q9I (kPass n σ m).2 (a + n)
  | 0, σ, m, a, h, _ => h
  | n + 1, σ, m, a, h, ha => by
    rw [kPass, show a + (n + 1) = (a + 1) + n by omega]
    exact q9Pass n _ _ (a + 1) (q9Turn h (by omega)) (by omega)
theorem q9J.I {σ : kS} (h : q9J σ) {a : Nat} (ha : σ.2.1 = nI a) : q9I σ a := by
  obtain ⟨⟨h3, h4, h5, h6, h7, h8⟩, h9, hQ, hP, hW⟩ := h
  obtain ⟨v, hv, e⟩ := h5 3 (by decide)
  exact ⟨h3.1, h8, h4, ⟨v, hv, e⟩, ha, hQ, hP, hW⟩
theorem q9J_pass {σ : kS} {x : Int32} (h : q9J σ) : q9J (kPassT σ x).2 := by
  by_cases hv : kPasE σ x = 0
  · have h1 := kIv_pass (x := x) h.1
    obtain ⟨a, ha, ea⟩ := h.1.1.2
    obtain ⟨n, hn1, hn2, e1, q, e2⟩ := kPasE_ok hv
    rw [e2] at h1 ⊢
    obtain ⟨-, -, -, -, -, p1, p2, p3⟩ := q9Pass n σ 0 a (h.I ea) (by omega)
    refine ⟨h1, ?_, p1, p2, p3⟩
    dsimp only
    rw [kPass_se n σ 0 h.1.1.1]
    exact h.2.1
  · rw [(kPasE_er hv).1]; exact h
