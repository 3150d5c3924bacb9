theorem kPass_ki : ∀ (n : Nat) (σ : kS) (m : Nat), kOk2 σ → (kPass n σ m).2.2.2.1 = σ.2.2.1
  | 0, σ, m, _ => rfl
  | n + 1, σ, m, h => by
    rw [kPass, kPass_ki n _ _ (kTurn_ok h).1, (kTurn_ok h).2.2.2]
