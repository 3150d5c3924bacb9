/-! WHAT HOLDS OF EVERY STATE -/
def kWk (σ : kS) : Prop := ∀ j, j < σ.2.2.1 → σ.2.2.2.2.2.1 2 j = -6 ∨ ∃ w : Nat, w ≤ 20000 ∧ σ.2.2.2.2.2.1 2 j = nI w
def kPs (P : List kP) : Prop := kSrt P ∧ ∀ p ∈ P, ∃ t : Nat, t ≤ 20000 ∧ p.1 = nI t
def kIv (σ : kS) : Prop := kInv σ ∧ kBal σ ∧ kSetB σ ∧ kWk σ ∧ kPs σ.2.2.2.2.2.2.2 ∧ σ.2.2.1 ≤ 6
theorem kPlc_spec {P : List kP} {tu : Int32} {k : Nat} : ∀ j, j ≤ P.length → (kPlc P tu k j = 0 ∨ ∃ p, P[kPlc P tu k j - 1]? = some p ∧ p.1.toInt ≤ tu.toInt) ∧ ∀ i p, kPlc P tu k j ≤ i → i < j → P[i]? = some p → tu.toInt ≤ p.1.toInt
  | 0, _ => ⟨Or.inl rfl, fun i p _ hi => absurd hi (Nat.not_lt_zero i)⟩
  | j + 1, hj => by
    obtain ⟨p, hp⟩ := kget (L := P) (i := j) (by omega)
    have ih := kPlc_spec (P := P) (tu := tu) (k := k) j (by omega)
    rw [kPlc_s hp]
    by_cases h : kLat p.1 (nI p.2.1) tu (nI k) = 0
    · rw [if_pos h]
      refine ⟨Or.inr ⟨p, by rw [Nat.add_sub_cancel]; exact hp, ?_⟩, fun i q h1 h2 => absurd h1 (by omega)⟩
      unfold kLat at h
      by_cases h1 : p.1 = tu
      · rw [h1]; exact Int.le_refl _
      · rw [if_neg h1] at h
        by_cases h2 : p.1 ≤ tu
        · exact Int32.le_iff_toInt_le.mp h2
        · rw [if_neg h2] at h; exact absurd h (by decide)
    · rw [if_neg h]
      refine ⟨ih.1, fun i q h1 h2 hq => ?_⟩
      by_cases h3 : i = j
      · subst h3
        rw [hp] at hq
        cases Option.some.inj hq
        unfold kLat at h
        by_cases h4 : p.1 = tu
        · rw [h4]; exact Int.le_refl _
        · rw [if_neg h4] at h
          by_cases h5 : p.1 ≤ tu
          · rw [if_pos h5] at h; exact absurd rfl h
          · rw [Int32.le_iff_toInt_le] at h5; omega
      · exact ih.2 i q h1 (by omega) hq
theorem kSrt_at {P : List kP} (h : kSrt P) {i j : Nat} {p q : kP} (hp : P[i]? = some p) (hq : P[j]? = some q) (hij : i ≤ j) : p.1.toInt ≤ q.1.toInt := by
  by_cases e : i = j
  · subst e; rw [hp] at hq; cases Option.some.inj hq; exact Int.le_refl _
  · obtain ⟨h1, h2⟩ := List.getElem?_eq_some_iff.mp hp
    obtain ⟨h3, h4⟩ := List.getElem?_eq_some_iff.mp hq
    have := List.pairwise_iff_getElem.mp h i j h1 h3 (by omega)
    rw [h2, h4] at this
    exact this
theorem kIns_srt {P : List kP} {x : kP} (h : kSrt P) : kSrt (kIns P x) := by
  obtain ⟨h1, h2⟩ := kPlc_spec (P := P) (tu := x.1) (k := x.2.1) P.length (Nat.le_refl _)
  have hc := kPlc_le P x.1 x.2.1 P.length
  unfold kIns kSrt
  have hup : ∀ q ∈ P.drop (kPlc P x.1 x.2.1 P.length), x.1.toInt ≤ q.1.toInt := fun q hq => by
    obtain ⟨d, hd⟩ := List.mem_iff_getElem?.mp hq
    rw [List.getElem?_drop] at hd
    exact h2 _ q (Nat.le_add_right _ _) (List.getElem?_eq_some_iff.mp hd).1 hd
  have hlo : ∀ q ∈ P.take (kPlc P x.1 x.2.1 P.length), q.1.toInt ≤ x.1.toInt := fun q hq => by
    obtain ⟨d, hd⟩ := List.mem_iff_getElem?.mp hq
    have hdl := (List.getElem?_eq_some_iff.mp hd).1
    rw [List.length_take] at hdl
    rw [List.getElem?_take_of_lt (by omega)] at hd
    rcases h1 with h1 | ⟨p, hp, h3⟩
    · omega
    · exact Int.le_trans (kSrt_at h hd hp (by omega)) h3
  refine List.pairwise_append.mpr ⟨List.Pairwise.sublist (List.take_sublist _ _) h, List.pairwise_cons.mpr ⟨hup, List.Pairwise.sublist (List.drop_sublist _ _) h⟩, fun a ha b hb => ?_⟩
  rcases List.mem_cons.mp hb with e | e
  · rw [e]; exact hlo a ha
  · exact Int.le_trans (hlo a ha) (hup b e)
theorem kOver_2 {k : Nat} : ∀ (es : List Nat) (q : (Nat → Nat → Int32) × List (Nat × Nat)), (es.foldl (kOver k) q).1 2 = q.1 2
  | [], q => rfl
  | e :: es, q => by
    rw [List.foldl_cons, kOver_2 es]
    unfold kOver
    split
    · dsimp only; rw [kPut_n (by decide), kPut_n (by decide)]
    · dsimp only; rw [kPut_n (by decide), kPut_n (by decide)]
theorem kLeap_2 {σ : kS} {k : Nat} {x : Int32} : (kLeap σ k x).2.2.2.2.2.1 2 = σ.2.2.2.2.2.1 2 := by
  unfold kLeap
  dsimp only
  rw [kPut_n (by decide), kPut_n (by decide), kOver_2]
def kW2 (f : Nat → Int32) (n : Nat) : Prop := ∀ j, j < n → f j = -6 ∨ ∃ w : Nat, w ≤ 20000 ∧ f j = nI w
theorem kWakes_2 {tu vi : Int32} {n : Nat} : ∀ (l : List Nat) (kf : Nat → Nat → Int32), kW2 (kf 2) n → kW2 (l.foldl (kWakeS tu vi) kf 2) n
  | [], kf, h => h
  | j :: l, kf, h => by
    rw [List.foldl_cons]
    refine kWakes_2 l _ (fun i hi => ?_)
    unfold kWakeS
    split
    · rw [kPut_n (by decide), kPut_s]
      by_cases e : i = j
      · subst e; rw [kU_s]; exact Or.inl rfl
      · rw [kU_n e]; exact h i hi
    · exact h i hi
theorem kFresh_2 {vi : Int32} : ∀ (l : List Nat) (kf : Nat → Nat → Int32), l.foldl (kFreshS vi) kf 2 = kf 2
  | [], kf => rfl
  | j :: l, kf => by
    rw [List.foldl_cons, kFresh_2 l]
    unfold kFreshS
    split
    · rfl
    · split
      · rfl
      · rw [kPut_n (by decide)]
theorem kRun_wp {n0 : Nat} : ∀ (n : Nat) (σ : kS) (m : Nat), kW2 (σ.2.2.2.2.2.1 2) n0 → kPs σ.2.2.2.2.2.2.2 → kW2 ((kRun n σ m).2.2.2.2.2.2.1 2) n0 ∧ kPs (kRun n σ m).2.2.2.2.2.2.2.2
  | 0, σ, m, h1, h2 => by rw [kRun_0]; exact ⟨h1, h2⟩
  | n + 1, (se, tu, ki, ma, re, kf, L, P), m, h1, h2 => by
    cases P with
    | nil => rw [kRun_nil]; exact ⟨h1, h2⟩
    | cons p P =>
      have h3 : kPs P := ⟨(List.pairwise_cons.mp h2.1).2, fun q hq => h2.2 q (List.mem_cons_of_mem _ hq)⟩
      by_cases e : p.1 = tu
      · rw [kRun_go e]
        split
        · exact kRun_wp n _ _ (by rw [kLeap_2]; exact h1) h3
        · exact kRun_wp n _ _ h1 h3
      · rw [kRun_ne e]; exact ⟨h1, h2⟩
theorem kTurn_wp {n0 : Nat} {σ : kS} (h1 : kW2 (σ.2.2.2.2.2.1 2) n0) (h2 : kPs σ.2.2.2.2.2.2.2) : kW2 ((kTurn σ).2.2.2.2.2.2.1 2) n0 ∧ kPs (kTurn σ).2.2.2.2.2.2.2.2 := by
  have h := kRun_wp (n0 := n0) 16 (σ.1, σ.2.1 + nI 1, σ.2.2.1, σ.2.2.2.1, σ.2.2.2.2.1, kWakes σ.2.2.1 (σ.2.1 + nI 1) (σ.1 3) σ.2.2.2.2.2.1, σ.2.2.2.2.2.2.1, σ.2.2.2.2.2.2.2) 0 (kWakes_2 _ _ h1) h2
  unfold kTurn
  dsimp only
  refine ⟨?_, h.2⟩
  unfold kFresh
  rw [kFresh_2]
  exact h.1
theorem kPass_wp {n0 : Nat} : ∀ (n : Nat) (σ : kS) (m : Nat), kW2 (σ.2.2.2.2.2.1 2) n0 → kPs σ.2.2.2.2.2.2.2 → kW2 ((kPass n σ m).2.2.2.2.2.2.1 2) n0 ∧ kPs (kPass n σ m).2.2.2.2.2.2.2.2
  | 0, σ, m, h1, h2 => ⟨h1, h2⟩
  | n + 1, σ, m, h1, h2 => by
    rw [kPass]
    have h := kTurn_wp h1 h2
    exact kPass_wp n _ _ h.1 h.2
theorem kPass_se : ∀ (n : Nat) (σ : kS) (m : Nat), kOk2 σ → (kPass n σ m).2.1 = σ.1
  | 0, σ, m, _ => rfl
  | n + 1, σ, m, h => by
    rw [kPass, kPass_se n _ _ (kTurn_ok h).1, (kTurn_ok h).2.1]
theorem kOf_0 {o : Nat} : ∀ (L : List (Nat × Nat)), (∀ p ∈ L, p.2 < o) → kOf o L = 0
  | [], _ => rfl
  | p :: L, h => by
    rw [kOf_cons, if_neg (by have := h p List.mem_cons_self; omega), kOf_0 L (fun q hq => h q (List.mem_cons_of_mem _ hq))]
theorem kOf_cut {o e k : Nat} : ∀ (L : List (Nat × Nat)), kOf o (kCut e k L) ≤ kOf o L
  | [] => Nat.le_refl _
  | p :: L => by
    have h2 : kCut e k (p :: L) = if kNot e k p = true then p :: kCut e k L else kCut e k L := List.filter_cons
    have ih := kOf_cut (o := o) (e := e) (k := k) L
    rw [h2, kOf_cons]
    split
    · rw [kOf_cons]; omega
    · omega
theorem kIv_new : kIv kNew := ⟨kInv_new, ⟨fun j hj => absurd hj (Nat.not_lt_zero j), fun p hp => by simp [kNew] at hp⟩, fun j hj => by
    rcases (show j = 0 ∨ j = 1 ∨ j = 2 ∨ j = 3 by omega) with rfl | rfl | rfl | rfl
    · exact ⟨3, by decide, rfl⟩
    · exact ⟨4, by decide, rfl⟩
    · exact ⟨5, by decide, rfl⟩
    · exact ⟨14, by decide, rfl⟩, fun j hj => absurd hj (Nat.not_lt_zero j), ⟨List.Pairwise.nil, fun p hp => by simp [kNew] at hp⟩, by decide⟩
theorem kIv_chg {σ : kS} {x z : Int32} (h : kIv σ) : kIv (kChg σ x z).2 := by
  by_cases hv : kVal x z = 0
  · rw [kVal_er hv]; exact h
  · obtain ⟨h1, h2, h3, h4, h5, h6⟩ := h
    have h7 := kInv_chg (x := x) (z := z) h1
    obtain ⟨j, hj, e1, e2⟩ := kVal_ok (σ := σ) hv
    rw [e2] at h7 ⊢
    refine ⟨h7, h2, fun i hi => ?_, h4, h5, h6⟩
    show ∃ n : Nat, n ≤ 60 ∧ upd σ.1 j z i = nI n
    by_cases q : i = j
    · subst q
      rw [kU_s]
      have h0 : (0 : Int32).toInt = 0 := by decide
      have hc : ∀ (lo hi : Int32), ¬ z < lo → ¬ hi < z → 0 ≤ lo.toInt → hi.toInt ≤ 60 → ∃ n : Nat, n ≤ 60 ∧ z = nI n := fun lo hi a b c d => by
        rw [Int32.lt_iff_toInt_lt] at a b
        rcases pk_ix z (n := 61) (by decide) with q | q | ⟨n, q1, q2⟩
        · rw [Int32.lt_iff_toInt_lt] at q; omega
        · rw [Int32.le_iff_toInt_le, show (nI 61).toInt = 61 by decide] at q; omega
        · exact ⟨n, by omega, q2⟩
      subst e1
      unfold kVal at hv
      rw [if_neg (nI_pos (by omega)), if_neg (fun q => by have := (nI_leI (by decide) (by omega)).mp q; omega), nI_clamp (by omega)] at hv
      by_cases a : z < ([1, 0, 1, 2] : List Int32).getD i 0
      · rw [if_pos a] at hv; exact absurd rfl hv
      · rw [if_neg a] at hv
        by_cases b : ([8, 15, 30, 60] : List Int32).getD i 0 < z
        · rw [if_pos b] at hv; exact absurd rfl hv
        · refine hc _ _ a b ?_ ?_
          · rcases (show i = 0 ∨ i = 1 ∨ i = 2 ∨ i = 3 by omega) with rfl | rfl | rfl | rfl <;> decide
          · rcases (show i = 0 ∨ i = 1 ∨ i = 2 ∨ i = 3 by omega) with rfl | rfl | rfl | rfl <;> decide
    · rw [kU_n q]; exact h3 i hi
theorem kIv_add {σ : kS} {x : Int32} (h : kIv σ) : kIv (kAdd σ x).2 := by
  by_cases hv : kKitE σ x = 0
  · obtain ⟨h1, h2, h3, h4, h5, h6⟩ := h
    have h7 := kInv_add (x := x) h1
    obtain ⟨e1, e2⟩ := kKitE_ok hv
    rw [e1] at h7 ⊢
    refine ⟨h7, ⟨fun j hj => ?_, fun p hp => Nat.lt_succ_of_lt (h2.2 p hp)⟩, h3, fun j hj => ?_, h5, e2⟩
    · show ∃ c : Nat, upd (σ.2.2.2.2.2.1 3) σ.2.2.1 (kNewV x (σ.1 3) 3) j = nI c ∧ c + kOf j σ.2.2.2.2.2.2.1 ≤ 40
      by_cases q : j = σ.2.2.1
      · rw [q, kU_s, kOf_0 _ h2.2]; exact ⟨40, rfl, by decide⟩
      · rw [kU_n q]; exact h2.1 j (by have hj2 : j < σ.2.2.1 + 1 := hj; omega)
    · show upd (σ.2.2.2.2.2.1 2) σ.2.2.1 (kNewV x (σ.1 3) 2) j = -6 ∨ ∃ w : Nat, w ≤ 20000 ∧ upd (σ.2.2.2.2.2.1 2) σ.2.2.1 (kNewV x (σ.1 3) 2) j = nI w
      by_cases q : j = σ.2.2.1
      · rw [q, kU_s]; exact Or.inl rfl
      · rw [kU_n q]; exact h4 j (by have hj2 : j < σ.2.2.1 + 1 := hj; omega)
  · rw [(kKitE_er hv).1]; exact h
theorem kIv_try {σ : kS} {x z : Int32} (h : kIv σ) : kIv (kTry σ x z).2 := by
  by_cases hv : kLpE σ x z = 0
  · obtain ⟨h1, h2, h3, h4, h5, h6⟩ := h
    have h7 := kInv_try (x := x) (z := z) h6 h1
    obtain ⟨j, s, t, hj, e1, hs, ht, hs2, e2, hr, e3⟩ := kLpE_ok h6 h1.1 hv
    rw [e3] at h7 ⊢
    subst e2
    exact ⟨h7, (kLeap_bal h2 h6 hj hs ht hs2 hr).2, h3, fun i hi => by rw [kLeap_2]; exact h4 i hi, h5, h6⟩
  · rw [(kLpE_er hv).1]; exact h
theorem kIv_nap {σ : kS} {x : Int32} (h : kIv σ) : kIv (kNap σ x).2 := by
  by_cases hv : kNapE σ x = 0
  · obtain ⟨h1, h2, h3, h4, h5, h6⟩ := h
    have h7 := kInv_nap (x := x) h1
    obtain ⟨j, hj, e1, e2⟩ := kNapE_ok h6 hv
    rw [e2] at h7 ⊢
    refine ⟨h7, ⟨fun i hi => ?_, h2.2⟩, h3, fun i hi => ?_, h5, h6⟩
    · dsimp only; rw [kPut_n (by decide)]; exact h2.1 i hi
    · show kPut σ.2.2.2.2.2.1 2 j (σ.2.1 + σ.1 2) 2 i = -6 ∨ ∃ w : Nat, w ≤ 20000 ∧ kPut σ.2.2.2.2.2.1 2 j (σ.2.1 + σ.1 2) 2 i = nI w
      rw [kPut_s]
      by_cases q : i = j
      · subst q
        obtain ⟨n, hn, e3⟩ := h1.2
        obtain ⟨w, hw, e4⟩ := h3 2 (by decide)
        rw [kU_s, e3, e4, nI_add]
        exact Or.inr ⟨n + w, by omega, rfl⟩
      · rw [kU_n q]; exact h4 i hi
  · rw [(kNapE_er hv).1]; exact h
theorem kIv_snip {σ : kS} {x z : Int32} (h : kIv σ) : kIv (kSnip σ x z).2 := by
  by_cases hv : kSnE σ x z = 0
  · obtain ⟨h1, h2, h3, h4, h5, h6⟩ := h
    have h7 := kInv_snip (x := x) (z := z) h1
    obtain ⟨e, j, he, e1, hj, e2, e3⟩ := kSnE_ok h6 hv
    rw [e3] at h7 ⊢
    refine ⟨h7, ⟨fun i hi => ?_, fun p hp => h2.2 p ((List.mem_filter.mp hp).1)⟩, h3, fun i hi => ?_, h5, h6⟩
    · obtain ⟨c, hc, hcl⟩ := h2.1 i hi
      refine ⟨c, ?_, ?_⟩
      · dsimp only; rw [kPut_n (by decide)]; exact hc
      · have := kOf_cut (o := i) (e := e) (k := j) σ.2.2.2.2.2.2.1
        dsimp only
        omega
    · dsimp only; rw [kPut_n (by decide)]; exact h4 i hi
  · rw [(kSnE_er hv).1]; exact h
theorem kIv_plan {σ : kS} {w x z : Int32} (h : kIv σ) : kIv (kPlan σ w x z).2 := by
  by_cases hv : kPlE σ w x z = 0
  · obtain ⟨h1, h2, h3, h4, h5, h6⟩ := h
    have h7 := kInv_plan (w := w) (x := x) (z := z) h6 h1
    obtain ⟨j, hj, e1, hl, q1, q2, e2⟩ := kPlE_ok h6 hv
    rw [e2] at h7 ⊢
    refine ⟨h7, h2, h3, h4, ⟨kIns_srt h5.1, fun p hp => ?_⟩, h6⟩
    rcases kIns_mem hp with q | q
    · obtain ⟨n, hn, e3⟩ := h1.2
      obtain ⟨w1, hw1, hw2, e4⟩ := kT99 q1 q2
      rw [q]
      exact ⟨n + w1, by omega, by rw [e3, e4, nI_add]⟩
    · exact h5.2 p q
  · rw [(kPlE_er hv).1]; exact h
theorem kIv_pass {σ : kS} {x : Int32} (h : kIv σ) : kIv (kPassT σ x).2 := by
  by_cases hv : kPasE σ x = 0
  · obtain ⟨h1, h2, h3, h4, h5, h6⟩ := h
    have h7 := kInv_pass (x := x) h1
    obtain ⟨n, hn1, hn2, e1, q, e2⟩ := kPasE_ok hv
    rw [e2] at h7 ⊢
    have h8 := kPass_wp n σ 0 h4 h5
    have h9 := kPass_ki n σ 0 h1.1
    refine ⟨h7, kPass_bal n σ 0 h1.1 h6 h2, fun i hi => ?_, fun i hi => ?_, h8.2, ?_⟩
    · dsimp only; rw [kPass_se n σ 0 h1.1]; exact h3 i hi
    · exact h8.1 i (by rw [← h9]; exact hi)
    · dsimp only; rw [h9]; exact h6
  · rw [(kPasE_er hv).1]; exact h
