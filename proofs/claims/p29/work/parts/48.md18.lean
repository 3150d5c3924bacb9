/-- settings are small numbers -/
def kSetB (σ : kS) : Prop := ∀ j, j < 4 → ∃ n : Nat, n ≤ 60 ∧ σ.1 j = nI n
def kVal (s v : Int32) : Int32 := if s < 0 then nI 0 else if nI 4 ≤ s then nI 0 else if v < ([1, 0, 1, 2] : List Int32).getD s.toNatClampNeg 0 then nI 0 else if ([8, 15, 30, 60] : List Int32).getD s.toNatClampNeg 0 < v then nI 0 else nI 1
theorem kVal_er {σ : kS} {s v : Int32} (h : kVal s v = 0) : kChg σ s v = (-2, σ) := by
  unfold kVal at h
  unfold kChg
  by_cases q1 : s < 0
  · rw [if_pos q1]
  · rw [if_neg q1] at h ⊢
    by_cases q2 : nI 4 ≤ s
    · rw [if_pos q2]
    · rw [if_neg q2] at h ⊢
      by_cases q3 : v < ([1, 0, 1, 2] : List Int32).getD s.toNatClampNeg 0
      · rw [if_pos q3]
      · rw [if_neg q3] at h ⊢
        by_cases q4 : ([8, 15, 30, 60] : List Int32).getD s.toNatClampNeg 0 < v
        · rw [if_pos q4]
        · rw [if_neg q4] at h; exact absurd h (by decide)
theorem kVal_ok {σ : kS} {s v : Int32} (h : ¬ kVal s v = 0) : ∃ j, j < 4 ∧ s = nI j ∧ kChg σ s v = (σ.1 j, (upd σ.1 j v, σ.2)) := by
  unfold kVal at h
  unfold kChg
  by_cases q1 : s < 0
  · rw [if_pos q1] at h; exact absurd rfl h
  · rw [if_neg q1] at h ⊢
    by_cases q2 : nI 4 ≤ s
    · rw [if_pos q2] at h; exact absurd rfl h
    · rw [if_neg q2] at h ⊢
      by_cases q3 : v < ([1, 0, 1, 2] : List Int32).getD s.toNatClampNeg 0
      · rw [if_pos q3] at h; exact absurd rfl h
      · rw [if_neg q3] at h ⊢
        by_cases q4 : ([8, 15, 30, 60] : List Int32).getD s.toNatClampNeg 0 < v
        · rw [if_pos q4] at h; exact absurd rfl h
        · rw [if_neg q4]
          rcases pk_ix s (n := 4) (by decide) with a | a | ⟨j, a, b⟩
          · exact absurd a q1
          · exact absurd a q2
          · refine ⟨j, a, b, ?_⟩
            rw [b, nI_clamp (by omega)]
theorem kKitE_er {σ : kS} {x : Int32} (h : ¬ kKitE σ x = 0) : kAdd σ x = (kKitE σ x, σ) ∧ kKitE σ x < 0 := by
  unfold kKitE at h ⊢
  unfold kAdd
  by_cases q1 : x < 0
  · simp only [if_pos q1]; exact ⟨trivial, by decide⟩
  · simp only [if_neg q1] at h ⊢
    by_cases q2 : nI 16 ≤ x
    · simp only [if_pos q2]; exact ⟨trivial, by decide⟩
    · simp only [if_neg q2] at h ⊢
      by_cases q3 : 6 ≤ σ.2.2.1
      · simp only [if_pos q3]; exact ⟨trivial, by decide⟩
      · simp only [if_neg q3] at h; exact absurd rfl h
theorem kKitE_ok {σ : kS} {x : Int32} (h : kKitE σ x = 0) : kAdd σ x = (nI σ.2.2.1, (σ.1, σ.2.1, σ.2.2.1 + 1, σ.2.2.2.1, σ.2.2.2.2.1, fun f => upd (σ.2.2.2.2.2.1 f) σ.2.2.1 (kNewV x (σ.1 3) f), σ.2.2.2.2.2.2.1, σ.2.2.2.2.2.2.2)) ∧ σ.2.2.1 < 6 := by
  unfold kKitE at h
  unfold kAdd
  by_cases q1 : x < 0
  · rw [if_pos q1] at h; exact absurd h (by decide)
  · rw [if_neg q1] at h ⊢
    by_cases q2 : nI 16 ≤ x
    · rw [if_pos q2] at h; exact absurd h (by decide)
    · rw [if_neg q2] at h ⊢
      by_cases q3 : 6 ≤ σ.2.2.1
      · rw [if_pos q3] at h; exact absurd h (by decide)
      · rw [if_neg q3]; exact ⟨rfl, by omega⟩
theorem kLpE_er {σ : kS} {x z : Int32} (h : ¬ kLpE σ x z = 0) : kTry σ x z = (kLpE σ x z, σ) ∧ kLpE σ x z < 0 := by
  unfold kLpE at h ⊢
  unfold kTry
  by_cases q1 : kHas σ.2.2.1 x = 0
  · simp only [if_pos q1]; exact ⟨trivial, by decide⟩
  · simp only [if_neg q1] at h ⊢
    by_cases q2 : kIsL z = 0
    · simp only [if_pos q2]; exact ⟨trivial, by decide⟩
    · simp only [if_neg q2] at h ⊢
      by_cases q3 : ¬ kRef σ x.toNatClampNeg z = 0
      · simp only [if_pos q3]; exact ⟨trivial, by decide⟩
      · simp only [if_neg q3] at h; exact absurd rfl h
theorem kLpE_ok {σ : kS} {x z : Int32} (hki : σ.2.2.1 ≤ 6) (hok : kOk2 σ) (h : kLpE σ x z = 0) : ∃ j s t, j < σ.2.2.1 ∧ x = nI j ∧ s < 16 ∧ t < 16 ∧ σ.2.2.2.2.2.1 0 j = nI s ∧ z = nI t - nI s ∧ kRef σ j z = 0 ∧ kTry σ x z = (nI t, kLeap σ j z) := by
  unfold kLpE at h
  unfold kTry
  by_cases q1 : kHas σ.2.2.1 x = 0
  · rw [if_pos q1] at h; exact absurd h (by decide)
  · rw [if_neg q1] at h ⊢
    by_cases q2 : kIsL z = 0
    · rw [if_pos q2] at h; exact absurd h (by decide)
    · rw [if_neg q2] at h ⊢
      by_cases q3 : kRef σ x.toNatClampNeg z = 0
      · rw [if_neg (fun q => q q3)]
        obtain ⟨j, hj, rfl⟩ := kHas_1 q1 hki
        rw [nI_clamp (by omega)] at q3 ⊢
        obtain ⟨s, hs, hs2⟩ := hok.1 j hj
        obtain ⟨t, ht, rfl⟩ := kRef_0 q3 hs2 hs
        refine ⟨j, s, t, hj, rfl, hs, ht, hs2, rfl, q3, ?_⟩
        rw [kLeap_0 hs2, kU_s]
      · rw [if_pos q3] at h; exact absurd h (by decide)
theorem kNapE_er {σ : kS} {x : Int32} (h : ¬ kNapE σ x = 0) : kNap σ x = (kNapE σ x, σ) ∧ kNapE σ x < 0 := by
  unfold kNapE at h ⊢
  unfold kNap
  by_cases q1 : kHas σ.2.2.1 x = 0
  · simp only [if_pos q1]; exact ⟨trivial, by decide⟩
  · simp only [if_neg q1] at h ⊢
    by_cases q2 : ¬ kNaps σ.2.2.2.2.2.1 x.toNatClampNeg = 0
    · simp only [if_pos q2]; exact ⟨trivial, by decide⟩
    · simp only [if_neg q2] at h; exact absurd rfl h
theorem kNapE_ok {σ : kS} {x : Int32} (hki : σ.2.2.1 ≤ 6) (h : kNapE σ x = 0) : ∃ j, j < σ.2.2.1 ∧ x = nI j ∧ kNap σ x = (σ.2.1 + σ.1 2, (σ.1, σ.2.1, σ.2.2.1, σ.2.2.2.1, σ.2.2.2.2.1, kPut σ.2.2.2.2.2.1 2 j (σ.2.1 + σ.1 2), σ.2.2.2.2.2.2.1, σ.2.2.2.2.2.2.2)) := by
  unfold kNapE at h
  unfold kNap
  by_cases q1 : kHas σ.2.2.1 x = 0
  · rw [if_pos q1] at h; exact absurd h (by decide)
  · rw [if_neg q1] at h ⊢
    by_cases q2 : ¬ kNaps σ.2.2.2.2.2.1 x.toNatClampNeg = 0
    · rw [if_pos q2] at h; exact absurd h (by decide)
    · rw [if_neg q2]
      obtain ⟨j, hj, rfl⟩ := kHas_1 q1 hki
      rw [nI_clamp (by omega)]
      exact ⟨j, hj, rfl, rfl⟩
theorem kSnE_er {σ : kS} {x z : Int32} (h : ¬ kSnE σ x z = 0) : kSnip σ x z = (kSnE σ x z, σ) ∧ kSnE σ x z < 0 := by
  unfold kSnE at h ⊢
  unfold kSnip
  by_cases q1 : kIsE x = 0
  · simp only [if_pos q1]; exact ⟨trivial, by decide⟩
  · simp only [if_neg q1] at h ⊢
    by_cases q2 : kHas σ.2.2.1 z = 0
    · simp only [if_pos q2]; exact ⟨trivial, by decide⟩
    · simp only [if_neg q2] at h ⊢
      by_cases q3 : σ.2.2.2.2.2.2.1.length - (kCut x.toNatClampNeg z.toNatClampNeg σ.2.2.2.2.2.2.1).length = 0
      · simp only [if_pos q3]; exact ⟨trivial, by decide⟩
      · simp only [if_neg q3] at h; exact absurd rfl h
theorem kSnE_ok {σ : kS} {x z : Int32} (hki : σ.2.2.1 ≤ 6) (h : kSnE σ x z = 0) : ∃ e j, e < 15 ∧ x = nI e ∧ j < σ.2.2.1 ∧ z = nI j ∧ kSnip σ x z = (nI (σ.2.2.2.2.2.2.1.length - (kCut e j σ.2.2.2.2.2.2.1).length), (σ.1, σ.2.1, σ.2.2.1, σ.2.2.2.1, σ.2.2.2.2.1, kPut σ.2.2.2.2.2.1 6 j (σ.2.2.2.2.2.1 6 j + nI (σ.2.2.2.2.2.2.1.length - (kCut e j σ.2.2.2.2.2.2.1).length)), kCut e j σ.2.2.2.2.2.2.1, σ.2.2.2.2.2.2.2)) := by
  unfold kSnE at h
  unfold kSnip
  by_cases q1 : kIsE x = 0
  · rw [if_pos q1] at h; exact absurd h (by decide)
  · rw [if_neg q1] at h ⊢
    by_cases q2 : kHas σ.2.2.1 z = 0
    · rw [if_pos q2] at h; exact absurd h (by decide)
    · rw [if_neg q2] at h ⊢
      by_cases q3 : σ.2.2.2.2.2.2.1.length - (kCut x.toNatClampNeg z.toNatClampNeg σ.2.2.2.2.2.2.1).length = 0
      · rw [if_pos q3] at h; exact absurd h (by decide)
      · rw [if_neg q3]
        obtain ⟨e, he, rfl⟩ := kIsE_1 q1
        obtain ⟨j, hj, rfl⟩ := kHas_1 q2 hki
        rw [nI_clamp (by omega), nI_clamp (by omega)]
        exact ⟨e, j, he, rfl, hj, rfl, rfl⟩
theorem kPlE_er {σ : kS} {n k x : Int32} (h : ¬ kPlE σ n k x = 0) : kPlan σ n k x = (kPlE σ n k x, σ) ∧ kPlE σ n k x < 0 := by
  unfold kPlE at h ⊢
  unfold kPlan
  by_cases q1 : kHas σ.2.2.1 k = 0
  · simp only [if_pos q1]; exact ⟨trivial, by decide⟩
  · simp only [if_neg q1] at h ⊢
    by_cases q2 : n < nI 1
    · simp only [if_pos q2]; exact ⟨trivial, by decide⟩
    · simp only [if_neg q2] at h ⊢
      by_cases q3 : nI 99 < n
      · simp only [if_pos q3]; exact ⟨trivial, by decide⟩
      · simp only [if_neg q3] at h ⊢
        by_cases q4 : kIsL x = 0
        · simp only [if_pos q4]; exact ⟨trivial, by decide⟩
        · simp only [if_neg q4] at h ⊢
          by_cases q5 : 16 ≤ σ.2.2.2.2.2.2.2.length
          · simp only [if_pos q5]; exact ⟨trivial, by decide⟩
          · simp only [if_neg q5] at h; exact absurd rfl h
theorem kPlE_ok {σ : kS} {n k x : Int32} (hki : σ.2.2.1 ≤ 6) (h : kPlE σ n k x = 0) : ∃ j, j < σ.2.2.1 ∧ k = nI j ∧ σ.2.2.2.2.2.2.2.length < 16 ∧ ¬ n < nI 1 ∧ ¬ nI 99 < n ∧ kPlan σ n k x = (nI (σ.2.2.2.2.2.2.2.length + 1), (σ.1, σ.2.1, σ.2.2.1, σ.2.2.2.1, σ.2.2.2.2.1, σ.2.2.2.2.2.1, σ.2.2.2.2.2.2.1, kIns σ.2.2.2.2.2.2.2 (σ.2.1 + n, j, x))) := by
  unfold kPlE at h
  unfold kPlan
  by_cases q1 : kHas σ.2.2.1 k = 0
  · rw [if_pos q1] at h; exact absurd h (by decide)
  · rw [if_neg q1] at h ⊢
    by_cases q2 : n < nI 1
    · rw [if_pos q2] at h; exact absurd h (by decide)
    · rw [if_neg q2] at h ⊢
      by_cases q3 : nI 99 < n
      · rw [if_pos q3] at h; exact absurd h (by decide)
      · rw [if_neg q3] at h ⊢
        by_cases q4 : kIsL x = 0
        · rw [if_pos q4] at h; exact absurd h (by decide)
        · rw [if_neg q4] at h ⊢
          by_cases q5 : 16 ≤ σ.2.2.2.2.2.2.2.length
          · rw [if_pos q5] at h; exact absurd h (by decide)
          · rw [if_neg q5]
            obtain ⟨j, hj, rfl⟩ := kHas_1 q1 hki
            rw [nI_clamp (by omega)]
            exact ⟨j, hj, rfl, by omega, q2, q3, rfl⟩
theorem kPasE_er {σ : kS} {x : Int32} (h : ¬ kPasE σ x = 0) : kPassT σ x = (kPasE σ x, σ) ∧ kPasE σ x < 0 := by
  unfold kPasE at h ⊢
  unfold kPassT
  by_cases q1 : x < nI 1
  · simp only [if_pos q1]; exact ⟨trivial, by decide⟩
  · simp only [if_neg q1] at h ⊢
    by_cases q2 : nI 99 < x
    · simp only [if_pos q2]; exact ⟨trivial, by decide⟩
    · simp only [if_neg q2] at h ⊢
      by_cases q3 : nI 9999 < σ.2.1 + x
      · simp only [if_pos q3]; exact ⟨trivial, by decide⟩
      · simp only [if_neg q3] at h; exact absurd rfl h
theorem kT99 {x : Int32} (q1 : ¬ x < nI 1) (q2 : ¬ nI 99 < x) : ∃ n : Nat, 1 ≤ n ∧ n ≤ 99 ∧ x = nI n := by
  have h1 : (nI 1).toInt = 1 := by decide
  have h2 : (nI 99).toInt = 99 := by decide
  have h3 : (nI 100).toInt = 100 := by decide
  have h0 : (0 : Int32).toInt = 0 := by decide
  rw [Int32.lt_iff_toInt_lt] at q1 q2
  rcases pk_ix x (n := 100) (by decide) with a | a | ⟨j, a, b⟩
  · rw [Int32.lt_iff_toInt_lt] at a; omega
  · rw [Int32.le_iff_toInt_le] at a; omega
  · subst b
    rw [nI_toInt (by omega)] at q1
    exact ⟨j, by omega, by omega, rfl⟩
theorem kPasE_ok {σ : kS} {x : Int32} (h : kPasE σ x = 0) : ∃ n, 1 ≤ n ∧ n ≤ 99 ∧ x = nI n ∧ ¬ nI 9999 < σ.2.1 + x ∧ kPassT σ x = (nI (kPass n σ 0).1, (kPass n σ 0).2) := by
  unfold kPasE at h
  unfold kPassT
  by_cases q1 : x < nI 1
  · rw [if_pos q1] at h; exact absurd h (by decide)
  · rw [if_neg q1] at h ⊢
    by_cases q2 : nI 99 < x
    · rw [if_pos q2] at h; exact absurd h (by decide)
    · rw [if_neg q2] at h ⊢
      by_cases q3 : nI 9999 < σ.2.1 + x
      · rw [if_pos q3] at h; exact absurd h (by decide)
      · rw [if_neg q3]
        obtain ⟨n, h1, h2, rfl⟩ := kT99 q1 q2
        rw [nI_clamp (by omega)]
        exact ⟨n, h1, h2, rfl, q3, rfl⟩
/-- a turn's planned leaps that are made are 16 at most -/
theorem kRun_le : ∀ (n : Nat) (σ : kS) (m : Nat), (kRun n σ m).1 ≤ m + n
  | 0, σ, m => by rw [kRun_0]; exact Nat.le_refl _
  | n + 1, (se, tu, ki, ma, re, kf, L, P), m => by
    cases P with
    | nil => rw [kRun_nil]; exact Nat.le_add_right _ _
    | cons p P =>
      by_cases h1 : p.1 = tu
      · rw [kRun_go h1]
        split
        · exact Nat.le_trans (kRun_le n _ _) (by omega)
        · exact Nat.le_trans (kRun_le n _ _) (by omega)
      · rw [kRun_ne h1]; exact Nat.le_add_right _ _
theorem kPass_le : ∀ (n : Nat) (σ : kS) (m : Nat), (kPass n σ m).1 ≤ m + 16 * n
  | 0, σ, m => Nat.le_refl _
  | n + 1, σ, m => by
    rw [kPass]
    have h1 := kPass_le n (kTurn σ).2 (m + (kTurn σ).1)
    have h2 : (kTurn σ).1 ≤ 0 + 16 := by unfold kTurn; exact kRun_le 16 _ 0
    omega
