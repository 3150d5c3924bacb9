/-! THE CLASS: what holds of every state; the orders carried out -/
def kInv (σ : kS) : Prop := kOk2 σ ∧ ∃ n : Nat, n ≤ 9999 ∧ σ.2.1 = nI n
theorem kInv_new : kInv kNew := ⟨⟨fun k hk => absurd hk (Nat.not_lt_zero k), fun p hp => by cases hp⟩, 0, by decide, rfl⟩
theorem kInv_chg {σ : kS} {x z : Int32} (h : kInv σ) : kInv (kChg σ x z).2 := by
  unfold kChg
  split
  · exact h
  · split
    · exact h
    · split
      · exact h
      · split
        · exact h
        · exact h
theorem kInv_add {σ : kS} {x : Int32} (h : kInv σ) : kInv (kAdd σ x).2 := by
  obtain ⟨se, tu, ki, ma, re, kf, L, P⟩ := σ
  obtain ⟨⟨h1, h2⟩, h3⟩ := h
  rcases pk_ix x (n := 16) (by omega) with q | q | ⟨j, q1, rfl⟩
  · rw [show kAdd (se, tu, ki, ma, re, kf, L, P) x = (-1, (se, tu, ki, ma, re, kf, L, P)) from if_pos q]; exact ⟨⟨h1, h2⟩, h3⟩
  · rw [show kAdd (se, tu, ki, ma, re, kf, L, P) x = (-1, (se, tu, ki, ma, re, kf, L, P)) by unfold kAdd; split <;> first | rfl | rw [if_pos q]]; exact ⟨⟨h1, h2⟩, h3⟩
  · unfold kAdd
    split
    · exact ⟨⟨h1, h2⟩, h3⟩
    · split
      · exact ⟨⟨h1, h2⟩, h3⟩
      · split
        · exact ⟨⟨h1, h2⟩, h3⟩
        · refine ⟨⟨fun k hk => ?_, fun p hp => Nat.lt_succ_of_lt (h2 p hp)⟩, h3⟩
          show ∃ s, s < 16 ∧ upd (kf 0) ki (nI j) k = nI s
          have hk2 : k < ki + 1 := hk
          by_cases hkk : k = ki
          · exact ⟨j, q1, by simp [upd, hkk]⟩
          · obtain ⟨s, hs1, hs2⟩ := h1 k (by show k < ki; omega)
            exact ⟨s, hs1, by simp [upd, hkk]; exact hs2⟩
theorem kInv_try {σ : kS} {x z : Int32} (hki : σ.2.2.1 ≤ 6) (h : kInv σ) : kInv (kTry σ x z).2 := by
  unfold kTry
  split
  · exact h
  · rename_i c1
    split
    · exact h
    · split
      · exact h
      · rename_i c3
        obtain ⟨j, hj, rfl⟩ := kHas_1 c1 hki
        rw [nI_clamp (by omega)] at c3 ⊢
        obtain ⟨⟨h1, h2⟩, h3⟩ := h
        obtain ⟨s, hs, hks⟩ := h1 j hj
        obtain ⟨t, ht, rfl⟩ := kRef_0 (Classical.not_not.mp c3) hks hs
        exact ⟨⟨kLeap_steps h1 hks ht, h2⟩, h3⟩
theorem kInv_nap {σ : kS} {x : Int32} (h : kInv σ) : kInv (kNap σ x).2 := by
  unfold kNap
  split
  · exact h
  · split
    · exact h
    · obtain ⟨⟨h1, h2⟩, h3⟩ := h
      refine ⟨⟨fun k hk => ?_, h2⟩, h3⟩
      obtain ⟨s, q1, q2⟩ := h1 k hk
      exact ⟨s, q1, q2⟩
theorem kInv_snip {σ : kS} {x z : Int32} (h : kInv σ) : kInv (kSnip σ x z).2 := by
  unfold kSnip
  split
  · exact h
  · split
    · exact h
    · split
      · exact h
      · obtain ⟨⟨h1, h2⟩, h3⟩ := h
        refine ⟨⟨fun k hk => ?_, h2⟩, h3⟩
        obtain ⟨s, q1, q2⟩ := h1 k hk
        exact ⟨s, q1, q2⟩
theorem kInv_plan {σ : kS} {w x z : Int32} (hki : σ.2.2.1 ≤ 6) (h : kInv σ) : kInv (kPlan σ w x z).2 := by
  unfold kPlan
  split
  · exact h
  · rename_i c1
    split
    · exact h
    · split
      · exact h
      · split
        · exact h
        · split
          · exact h
          · obtain ⟨j, hj, rfl⟩ := kHas_1 c1 hki
            rw [nI_clamp (by omega)]
            obtain ⟨⟨h1, h2⟩, h3⟩ := h
            refine ⟨⟨h1, fun p hp => ?_⟩, h3⟩
            have hp2 : p ∈ kIns σ.2.2.2.2.2.2.2 (σ.2.1 + w, j, z) := hp
            unfold kIns at hp2
            rcases List.mem_append.mp hp2 with q | q
            · exact h2 p (List.mem_of_mem_take q)
            · rcases List.mem_cons.mp q with q | q
              · rw [q]; exact hj
              · exact h2 p (List.mem_of_mem_drop q)
theorem kPass_tu : ∀ (n : Nat) (σ : kS) (m a : Nat), kOk2 σ → σ.2.1 = nI a → (kPass n σ m).2.2.1 = nI (a + n) := by
  intro n
  induction n with
  | zero => intro σ m a _ h; exact h
  | succ n ih =>
    intro σ m a hok h
    rw [show a + (n + 1) = (a + 1) + n by omega]
    exact ih _ _ _ (kTurn_ok hok).1 (by rw [(kTurn_ok hok).2.2.1, h, nI_add])
theorem kInv_pass {σ : kS} {x : Int32} (h : kInv σ) : kInv (kPassT σ x).2 := by
  unfold kPassT
  split
  · exact h
  · rename_i c1
    split
    · exact h
    · rename_i c2
      split
      · exact h
      · rename_i c3
        obtain ⟨h1, n, hn, hn2⟩ := h
        rcases pk_ix x (n := 100) (by omega) with q | q | ⟨j, q1, rfl⟩
        · exact absurd (Int32.lt_trans q (show (0 : Int32) < nI 1 by decide)) c1
        · exact absurd (Int32.lt_of_lt_of_le (show nI 99 < nI 100 by decide) q) c2
        · rw [nI_clamp (by omega)]
          rw [hn2, nI_add] at c3
          refine ⟨kPass_ok _ _ _ h1, n + j, ?_, kPass_tu _ _ _ _ h1 hn2⟩
          have := mt (nI_ltI (by omega) (by omega)).mpr c3
          omega
