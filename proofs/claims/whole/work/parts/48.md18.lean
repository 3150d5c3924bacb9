
/-! THE MODEL: its world; the changes -/
/-- the slots' rows -/
def kSl (f Z : Nat → Int32) (S : Nat → Option kS) : Prop := ∀ s, s < 2 → (S s = none ∧ Z s = 0 ∨ ∃ x, S s = some x ∧ Z s = nI 1 ∧ kMd f (340 * (7 + s)) x)
/-- signs of a text -/
def kSigns (l : List Int32) : Prop := ∀ v ∈ l, ∃ c : Nat, 33 ≤ c ∧ c ≤ 126 ∧ v = nI c
def kMM (g : ks_G) (h : ks_H) (m : Nat) (σ : kS) (H : List kS) (S : Nat → Option kS) (l : List Int32) : Prop :=
  ∃ (f Z T : Nat → Int32) (sp kd on tw bx : Int32), h[m]? = some (ks_O 7 [ks_ref g (m + 1), .int (nI H.length), ks_ref g (m + 2), ks_ref g (m + 3), .int (nI l.length), .int sp, .int kd, .int on, .int tw, .int bx]) ∧ h[m + 1]? = some (ks_I g 3400 f) ∧ h[m + 2]? = some (ks_Z g 2 Z) ∧ h[m + 3]? = some (ks_I g 80 T) ∧ kMd f 0 σ ∧ kHs f H ∧ H.length ≤ 6 ∧ kSl f Z S ∧ kTO T l ∧ l.length ≤ 80 ∧ kSigns l
theorem kHs.keep {f f2 : Nat → Int32} {H : List kS} (x : kHs f H) (hl : H.length ≤ 6) (e : ∀ j, 340 ≤ j → f2 j = f j) : kHs f2 H := fun i y hi => (x i y hi).move (fun n hn => e _ (by have := (List.getElem?_eq_some_iff.mp hi).1; omega))
theorem kSl.keep {f f2 Z : Nat → Int32} {S : Nat → Option kS} (x : kSl f Z S) (e : ∀ j, 340 ≤ j → 340 * 7 ≤ j → f2 j = f j) : kSl f2 Z S := fun s hs => (x s hs).imp id (fun ⟨y, h1, h2, h3⟩ => ⟨y, h1, h2, h3.move (fun n hn => e _ (by omega) (by omega))⟩)
theorem kKeep_ok {r : Int32} {x : kS} {H : List kS} (h : ¬ r < 0) : kKeep r x H = (x :: H).take 6 := if_neg h
theorem kKeep_er {r : Int32} {x : kS} {H : List kS} (h : r < 0) : kKeep r x H = H := if_pos h
theorem kTk6 {x : kS} {H : List kS} : ((x :: H).take 6).length ≤ 6 := by rw [List.length_take]; omega
/-- settings are small numbers -/
def kSetB (σ : kS) : Prop := ∀ j, j < 4 → ∃ n : Nat, n ≤ 60 ∧ σ.1 j = nI n
def kVal (s v : Int32) : Int32 := if s < 0 then nI 0 else if nI 4 ≤ s then nI 0 else if v < ([1, 0, 1, 2] : List Int32).getD s.toNatClampNeg 0 then nI 0 else if ([8, 15, 30, 60] : List Int32).getD s.toNatClampNeg 0 < v then nI 0 else nI 1
theorem kIn_V {v lo hi : Int32} {a b : Int64} (ha : a.toInt = lo.toInt) (hb : b.toInt = hi.toInt) : kIn v.toInt64 a b = if v < lo then nI 0 else if hi < v then nI 0 else nI 1 := by
  rw [kIn_32, ha, hb]
  simp only [Int32.lt_iff_toInt_lt]
  by_cases q : v.toInt < lo.toInt
  · rw [if_pos q, if_pos q]
  · rw [if_neg q, if_neg q]
    by_cases r : v.toInt ≤ hi.toInt
    · rw [if_pos r, if_neg (by omega)]
    · rw [if_neg r, if_pos (by omega)]
theorem kVal_0 {v : Int32} : kIn v.toInt64 1 8 = kVal (nI 0) v := by rw [kIn_V (lo := 1) (hi := 8) (by decide) (by decide)]; rfl
theorem kVal_1 {v : Int32} : kIn v.toInt64 0 15 = kVal (nI 1) v := by rw [kIn_V (lo := 0) (hi := 15) (by decide) (by decide)]; rfl
theorem kVal_2 {v : Int32} : kIn v.toInt64 1 30 = kVal (nI 2) v := by rw [kIn_V (lo := 1) (hi := 30) (by decide) (by decide)]; rfl
theorem kVal_3 {v : Int32} : kIn v.toInt64 2 60 = kVal (nI 3) v := by rw [kIn_V (lo := 2) (hi := 60) (by decide) (by decide)]; rfl
theorem kVal_out {s v : Int32} (h : s.toInt < ((0 : Nat) : Int) ∨ ((3 : Nat) : Int) < s.toInt) : kVal s v = nI 0 := by
  unfold kVal
  have h4 : (nI 4).toInt = 4 := by decide
  have h0 : (0 : Int32).toInt = 0 := by decide
  rcases h with h | h
  · rw [if_pos (Int32.lt_iff_toInt_lt.mpr (by omega))]
  · by_cases q : s < 0
    · rw [if_pos q]
    · rw [if_neg q, if_pos (Int32.le_iff_toInt_le.mpr (by omega))]
theorem kVal_er {σ : kS} {s v : Int32} (h : kVal s v = 0) : kChg σ s v = (-2, σ) := by
  unfold kVal at h
  unfold kChg
  by_cases q1 : s < 0
  · rw [if_pos q1]
  · rw [if_neg q1] at h ⊢
    by_cases q2 : nI 4 ≤ s
    · rw [if_pos q2]
    · rw [if_neg q2] at h ⊢
      by_cases q3 : v < ([1, 0, 1, 2] : List Int32).getD s.toNatClampNeg 0
      · rw [if_pos q3]
      · rw [if_neg q3] at h ⊢
        by_cases q4 : ([8, 15, 30, 60] : List Int32).getD s.toNatClampNeg 0 < v
        · rw [if_pos q4]
        · rw [if_neg q4] at h; exact absurd h (by decide)
theorem kVal_ok {σ : kS} {s v : Int32} (h : ¬ kVal s v = 0) : ∃ j, j < 4 ∧ s = nI j ∧ kChg σ s v = (σ.1 j, (upd σ.1 j v, σ.2)) := by
  unfold kVal at h
  unfold kChg
  by_cases q1 : s < 0
  · rw [if_pos q1] at h; exact absurd rfl h
  · rw [if_neg q1] at h ⊢
    by_cases q2 : nI 4 ≤ s
    · rw [if_pos q2] at h; exact absurd rfl h
    · rw [if_neg q2] at h ⊢
      by_cases q3 : v < ([1, 0, 1, 2] : List Int32).getD s.toNatClampNeg 0
      · rw [if_pos q3] at h; exact absurd rfl h
      · rw [if_neg q3] at h ⊢
        by_cases q4 : ([8, 15, 30, 60] : List Int32).getD s.toNatClampNeg 0 < v
        · rw [if_pos q4] at h; exact absurd rfl h
        · rw [if_neg q4]
          rcases pk_ix s (n := 4) (by decide) with a | a | ⟨j, a, b⟩
          · exact absurd a q1
          · exact absurd a q2
          · refine ⟨j, a, b, ?_⟩
            rw [b, nI_clamp (by omega)]
theorem kMd.set {f : Nat → Int32} {b j : Nat} {v : Int32} {σ : kS} (x : kMd f b σ) (hj : j < 4) : kMd (upd f (b + j) v) b (upd σ.1 j v, σ.2) := by
  obtain ⟨mS, m4, m5, m6, m7, m8, m9, mK, mP, mL, mki, mLl, mPl, mLp, mPp⟩ := x
  refine ⟨fun i hi => ?_, (kU_n (by omega)).trans m4, (kU_n (by omega)).trans m5, (kU_n (by omega)).trans m6, (kU_n (by omega)).trans m7, (kU_n (by omega)).trans m8, (kU_n (by omega)).trans m9, fun k c hk hc => (kU_n (by omega)).trans (mK k c hk hc), fun r t k y hr => ⟨(kU_n (by omega)).trans (mP r t k y hr).1, (kU_n (by omega)).trans (mP r t k y hr).2.1, (kU_n (by omega)).trans (mP r t k y hr).2.2⟩, fun i e w hi => (kU_n (by omega)).trans (mL i e w hi), mki, mLl, mPl, mLp, mPp⟩
  show upd f (b + j) v (b + i) = upd σ.1 j v i
  by_cases q : i = j
  · subst q; rw [kU_s, kU_s]
  · rw [kU_n (by omega), kU_n q]; exact mS i hi
theorem kKitE_er {σ : kS} {x : Int32} (h : ¬ kKitE σ x = 0) : kAdd σ x = (kKitE σ x, σ) ∧ kKitE σ x < 0 := by
  unfold kKitE at h ⊢
  unfold kAdd
  by_cases q1 : x < 0
  · simp only [if_pos q1]; exact ⟨trivial, by decide⟩
  · simp only [if_neg q1] at h ⊢
    by_cases q2 : nI 16 ≤ x
    · simp only [if_pos q2]; exact ⟨trivial, by decide⟩
    · simp only [if_neg q2] at h ⊢
      by_cases q3 : 6 ≤ σ.2.2.1
      · simp only [if_pos q3]; exact ⟨trivial, by decide⟩
      · simp only [if_neg q3] at h; exact absurd rfl h
theorem kKitE_ok {σ : kS} {x : Int32} (h : kKitE σ x = 0) : kAdd σ x = (nI σ.2.2.1, (σ.1, σ.2.1, σ.2.2.1 + 1, σ.2.2.2.1, σ.2.2.2.2.1, fun f => upd (σ.2.2.2.2.2.1 f) σ.2.2.1 (kNewV x (σ.1 3) f), σ.2.2.2.2.2.2.1, σ.2.2.2.2.2.2.2)) ∧ σ.2.2.1 < 6 := by
  unfold kKitE at h
  unfold kAdd
  by_cases q1 : x < 0
  · rw [if_pos q1] at h; exact absurd h (by decide)
  · rw [if_neg q1] at h ⊢
    by_cases q2 : nI 16 ≤ x
    · rw [if_pos q2] at h; exact absurd h (by decide)
    · rw [if_neg q2] at h ⊢
      by_cases q3 : 6 ≤ σ.2.2.1
      · rw [if_pos q3] at h; exact absurd h (by decide)
      · rw [if_neg q3]; exact ⟨rfl, by omega⟩
theorem kLpE_er {σ : kS} {x z : Int32} (h : ¬ kLpE σ x z = 0) : kTry σ x z = (kLpE σ x z, σ) ∧ kLpE σ x z < 0 := by
  unfold kLpE at h ⊢
  unfold kTry
  by_cases q1 : kHas σ.2.2.1 x = 0
  · simp only [if_pos q1]; exact ⟨trivial, by decide⟩
  · simp only [if_neg q1] at h ⊢
    by_cases q2 : kIsL z = 0
    · simp only [if_pos q2]; exact ⟨trivial, by decide⟩
    · simp only [if_neg q2] at h ⊢
      by_cases q3 : ¬ kRef σ x.toNatClampNeg z = 0
      · simp only [if_pos q3]; exact ⟨trivial, by decide⟩
      · simp only [if_neg q3] at h; exact absurd rfl h
theorem kLpE_ok {σ : kS} {x z : Int32} (hki : σ.2.2.1 ≤ 6) (hok : kOk2 σ) (h : kLpE σ x z = 0) : ∃ j s t, j < σ.2.2.1 ∧ x = nI j ∧ s < 16 ∧ t < 16 ∧ σ.2.2.2.2.2.1 0 j = nI s ∧ z = nI t - nI s ∧ kRef σ j z = 0 ∧ kTry σ x z = (nI t, kLeap σ j z) := by
  unfold kLpE at h
  unfold kTry
  by_cases q1 : kHas σ.2.2.1 x = 0
  · rw [if_pos q1] at h; exact absurd h (by decide)
  · rw [if_neg q1] at h ⊢
    by_cases q2 : kIsL z = 0
    · rw [if_pos q2] at h; exact absurd h (by decide)
    · rw [if_neg q2] at h ⊢
      by_cases q3 : kRef σ x.toNatClampNeg z = 0
      · rw [if_neg (fun q => q q3)]
        obtain ⟨j, hj, rfl⟩ := kHas_1 q1 hki
        rw [nI_clamp (by omega)] at q3 ⊢
        obtain ⟨s, hs, hs2⟩ := hok.1 j hj
        obtain ⟨t, ht, rfl⟩ := kRef_0 q3 hs2 hs
        refine ⟨j, s, t, hj, rfl, hs, ht, hs2, rfl, q3, ?_⟩
        rw [kLeap_0 hs2, kU_s]
      · rw [if_pos q3] at h; exact absurd h (by decide)
theorem kNapE_er {σ : kS} {x : Int32} (h : ¬ kNapE σ x = 0) : kNap σ x = (kNapE σ x, σ) ∧ kNapE σ x < 0 := by
  unfold kNapE at h ⊢
  unfold kNap
  by_cases q1 : kHas σ.2.2.1 x = 0
  · simp only [if_pos q1]; exact ⟨trivial, by decide⟩
  · simp only [if_neg q1] at h ⊢
    by_cases q2 : ¬ kNaps σ.2.2.2.2.2.1 x.toNatClampNeg = 0
    · simp only [if_pos q2]; exact ⟨trivial, by decide⟩
    · simp only [if_neg q2] at h; exact absurd rfl h
theorem kNapE_ok {σ : kS} {x : Int32} (hki : σ.2.2.1 ≤ 6) (h : kNapE σ x = 0) : ∃ j, j < σ.2.2.1 ∧ x = nI j ∧ kNap σ x = (σ.2.1 + σ.1 2, (σ.1, σ.2.1, σ.2.2.1, σ.2.2.2.1, σ.2.2.2.2.1, kPut σ.2.2.2.2.2.1 2 j (σ.2.1 + σ.1 2), σ.2.2.2.2.2.2.1, σ.2.2.2.2.2.2.2)) := by
  unfold kNapE at h
  unfold kNap
  by_cases q1 : kHas σ.2.2.1 x = 0
  · rw [if_pos q1] at h; exact absurd h (by decide)
  · rw [if_neg q1] at h ⊢
    by_cases q2 : ¬ kNaps σ.2.2.2.2.2.1 x.toNatClampNeg = 0
    · rw [if_pos q2] at h; exact absurd h (by decide)
    · rw [if_neg q2]
      obtain ⟨j, hj, rfl⟩ := kHas_1 q1 hki
      rw [nI_clamp (by omega)]
      exact ⟨j, hj, rfl, rfl⟩
theorem kSnE_er {σ : kS} {x z : Int32} (h : ¬ kSnE σ x z = 0) : kSnip σ x z = (kSnE σ x z, σ) ∧ kSnE σ x z < 0 := by
  unfold kSnE at h ⊢
  unfold kSnip
  by_cases q1 : kIsE x = 0
  · simp only [if_pos q1]; exact ⟨trivial, by decide⟩
  · simp only [if_neg q1] at h ⊢
    by_cases q2 : kHas σ.2.2.1 z = 0
    · simp only [if_pos q2]; exact ⟨trivial, by decide⟩
    · simp only [if_neg q2] at h ⊢
      by_cases q3 : σ.2.2.2.2.2.2.1.length - (kCut x.toNatClampNeg z.toNatClampNeg σ.2.2.2.2.2.2.1).length = 0
      · simp only [if_pos q3]; exact ⟨trivial, by decide⟩
      · simp only [if_neg q3] at h; exact absurd rfl h
theorem kSnE_ok {σ : kS} {x z : Int32} (hki : σ.2.2.1 ≤ 6) (h : kSnE σ x z = 0) : ∃ e j, e < 15 ∧ x = nI e ∧ j < σ.2.2.1 ∧ z = nI j ∧ kSnip σ x z = (nI (σ.2.2.2.2.2.2.1.length - (kCut e j σ.2.2.2.2.2.2.1).length), (σ.1, σ.2.1, σ.2.2.1, σ.2.2.2.1, σ.2.2.2.2.1, kPut σ.2.2.2.2.2.1 6 j (σ.2.2.2.2.2.1 6 j + nI (σ.2.2.2.2.2.2.1.length - (kCut e j σ.2.2.2.2.2.2.1).length)), kCut e j σ.2.2.2.2.2.2.1, σ.2.2.2.2.2.2.2)) := by
  unfold kSnE at h
  unfold kSnip
  by_cases q1 : kIsE x = 0
  · rw [if_pos q1] at h; exact absurd h (by decide)
  · rw [if_neg q1] at h ⊢
    by_cases q2 : kHas σ.2.2.1 z = 0
    · rw [if_pos q2] at h; exact absurd h (by decide)
    · rw [if_neg q2] at h ⊢
      by_cases q3 : σ.2.2.2.2.2.2.1.length - (kCut x.toNatClampNeg z.toNatClampNeg σ.2.2.2.2.2.2.1).length = 0
      · rw [if_pos q3] at h; exact absurd h (by decide)
      · rw [if_neg q3]
        obtain ⟨e, he, rfl⟩ := kIsE_1 q1
        obtain ⟨j, hj, rfl⟩ := kHas_1 q2 hki
        rw [nI_clamp (by omega), nI_clamp (by omega)]
        exact ⟨e, j, he, rfl, hj, rfl, rfl⟩
theorem kPlE_er {σ : kS} {n k x : Int32} (h : ¬ kPlE σ n k x = 0) : kPlan σ n k x = (kPlE σ n k x, σ) ∧ kPlE σ n k x < 0 := by
  unfold kPlE at h ⊢
  unfold kPlan
  by_cases q1 : kHas σ.2.2.1 k = 0
  · simp only [if_pos q1]; exact ⟨trivial, by decide⟩
  · simp only [if_neg q1] at h ⊢
    by_cases q2 : n < nI 1
    · simp only [if_pos q2]; exact ⟨trivial, by decide⟩
    · simp only [if_neg q2] at h ⊢
      by_cases q3 : nI 99 < n
      · simp only [if_pos q3]; exact ⟨trivial, by decide⟩
      · simp only [if_neg q3] at h ⊢
        by_cases q4 : kIsL x = 0
        · simp only [if_pos q4]; exact ⟨trivial, by decide⟩
        · simp only [if_neg q4] at h ⊢
          by_cases q5 : 16 ≤ σ.2.2.2.2.2.2.2.length
          · simp only [if_pos q5]; exact ⟨trivial, by decide⟩
          · simp only [if_neg q5] at h; exact absurd rfl h
theorem kPlE_ok {σ : kS} {n k x : Int32} (hki : σ.2.2.1 ≤ 6) (h : kPlE σ n k x = 0) : ∃ j, j < σ.2.2.1 ∧ k = nI j ∧ σ.2.2.2.2.2.2.2.length < 16 ∧ ¬ n < nI 1 ∧ ¬ nI 99 < n ∧ kPlan σ n k x = (nI (σ.2.2.2.2.2.2.2.length + 1), (σ.1, σ.2.1, σ.2.2.1, σ.2.2.2.1, σ.2.2.2.2.1, σ.2.2.2.2.2.1, σ.2.2.2.2.2.2.1, kIns σ.2.2.2.2.2.2.2 (σ.2.1 + n, j, x))) := by
  unfold kPlE at h
  unfold kPlan
  by_cases q1 : kHas σ.2.2.1 k = 0
  · rw [if_pos q1] at h; exact absurd h (by decide)
  · rw [if_neg q1] at h ⊢
    by_cases q2 : n < nI 1
    · rw [if_pos q2] at h; exact absurd h (by decide)
    · rw [if_neg q2] at h ⊢
      by_cases q3 : nI 99 < n
      · rw [if_pos q3] at h; exact absurd h (by decide)
      · rw [if_neg q3] at h ⊢
        by_cases q4 : kIsL x = 0
        · rw [if_pos q4] at h; exact absurd h (by decide)
        · rw [if_neg q4] at h ⊢
          by_cases q5 : 16 ≤ σ.2.2.2.2.2.2.2.length
          · rw [if_pos q5] at h; exact absurd h (by decide)
          · rw [if_neg q5]
            obtain ⟨j, hj, rfl⟩ := kHas_1 q1 hki
            rw [nI_clamp (by omega)]
            exact ⟨j, hj, rfl, by omega, q2, q3, rfl⟩
theorem kPasE_er {σ : kS} {x : Int32} (h : ¬ kPasE σ x = 0) : kPassT σ x = (kPasE σ x, σ) ∧ kPasE σ x < 0 := by
  unfold kPasE at h ⊢
  unfold kPassT
  by_cases q1 : x < nI 1
  · simp only [if_pos q1]; exact ⟨trivial, by decide⟩
  · simp only [if_neg q1] at h ⊢
    by_cases q2 : nI 99 < x
    · simp only [if_pos q2]; exact ⟨trivial, by decide⟩
    · simp only [if_neg q2] at h ⊢
      by_cases q3 : nI 9999 < σ.2.1 + x
      · simp only [if_pos q3]; exact ⟨trivial, by decide⟩
      · simp only [if_neg q3] at h; exact absurd rfl h
theorem kT99 {x : Int32} (q1 : ¬ x < nI 1) (q2 : ¬ nI 99 < x) : ∃ n : Nat, 1 ≤ n ∧ n ≤ 99 ∧ x = nI n := by
  have h1 : (nI 1).toInt = 1 := by decide
  have h2 : (nI 99).toInt = 99 := by decide
  have h3 : (nI 100).toInt = 100 := by decide
  have h0 : (0 : Int32).toInt = 0 := by decide
  rw [Int32.lt_iff_toInt_lt] at q1 q2
  rcases pk_ix x (n := 100) (by decide) with a | a | ⟨j, a, b⟩
  · rw [Int32.lt_iff_toInt_lt] at a; omega
  · rw [Int32.le_iff_toInt_le] at a; omega
  · subst b
    rw [nI_toInt (by omega)] at q1
    exact ⟨j, by omega, by omega, rfl⟩
theorem kPasE_ok {σ : kS} {x : Int32} (h : kPasE σ x = 0) : ∃ n, 1 ≤ n ∧ n ≤ 99 ∧ x = nI n ∧ ¬ nI 9999 < σ.2.1 + x ∧ kPassT σ x = (nI (kPass n σ 0).1, (kPass n σ 0).2) := by
  unfold kPasE at h
  unfold kPassT
  by_cases q1 : x < nI 1
  · rw [if_pos q1] at h; exact absurd h (by decide)
  · rw [if_neg q1] at h ⊢
    by_cases q2 : nI 99 < x
    · rw [if_pos q2] at h; exact absurd h (by decide)
    · rw [if_neg q2] at h ⊢
      by_cases q3 : nI 9999 < σ.2.1 + x
      · rw [if_pos q3] at h; exact absurd h (by decide)
      · rw [if_neg q3]
        obtain ⟨n, h1, h2, rfl⟩ := kT99 q1 q2
        rw [nI_clamp (by omega)]
        exact ⟨n, h1, h2, rfl, q3, rfl⟩
/-- a turn's planned leaps that are made are 16 at most -/
theorem kRun_le : ∀ (n : Nat) (σ : kS) (m : Nat), (kRun n σ m).1 ≤ m + n
  | 0, σ, m => by rw [kRun_0]; exact Nat.le_refl _
  | n + 1, (se, tu, ki, ma, re, kf, L, P), m => by
    cases P with
    | nil => rw [kRun_nil]; exact Nat.le_add_right _ _
    | cons p P =>
      by_cases h1 : p.1 = tu
      · rw [kRun_go h1]
        split
        · exact Nat.le_trans (kRun_le n _ _) (by omega)
        · exact Nat.le_trans (kRun_le n _ _) (by omega)
      · rw [kRun_ne h1]; exact Nat.le_add_right _ _
theorem kPass_le : ∀ (n : Nat) (σ : kS) (m : Nat), (kPass n σ m).1 ≤ m + 16 * n
  | 0, σ, m => Nat.le_refl _
  | n + 1, σ, m => by
    rw [kPass]
    have h1 := kPass_le n (kTurn σ).2 (m + (kTurn σ).1)
    have h2 : (kTurn σ).1 ≤ 0 + 16 := by unfold kTurn; exact kRun_le 16 _ 0
    omega
