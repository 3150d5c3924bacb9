/-! ORDERS: what is read from a pad -/
theorem ks_sw (x : Int32) (lo hi : Nat) (h : hi < 2 ^ 31) : x.toInt < lo ∨ (hi : Int) < x.toInt ∨ ∃ j : Nat, lo ≤ j ∧ j ≤ hi ∧ x = nI j := by
  by_cases q : x.toInt < lo
  · exact Or.inl q
  · by_cases r : (hi : Int) < x.toInt
    · exact Or.inr (Or.inl r)
    · refine Or.inr (Or.inr ⟨x.toInt.toNat, by omega, by omega, ?_⟩)
      apply Int32.toInt_inj.mp
      rw [nI_toInt (by omega)]; omega
def kOrdR (g : ks_G) (h : ks_H) (od : Nat) (LT PT : Nat → Int32) (vs vn : Nat) : Prop := h[od]? = some (ks_O 1 [ks_ref g (od + 1), ks_ref g (od + 2), .int (nI vs), .int (nI vn)]) ∧ h[od + 1]? = some (ks_I g 27 LT) ∧ h[od + 2]? = some (ks_I g 81 PT)
theorem kOrdR.fr {g : ks_G} {h h' : ks_H} {od : Nat} {LT PT : Nat → Int32} {vs vn : Nat} (x : kOrdR g h od LT PT vs vn) {lo hi : Nat} (f : ks_Fr h h' lo hi) (z : od + 3 ≤ lo ∨ hi ≤ od) : kOrdR g h' od LT PT vs vn := ⟨f.at x.1 (by omega), f.at x.2.1 (by omega), f.at x.2.2 (by omega)⟩
theorem kOrdR.ex {g : ks_G} {h h' : ks_H} {od : Nat} {LT PT : Nat → Int32} {vs vn : Nat} (x : kOrdR g h od LT PT vs vn) {lo : Nat} (f : ks_Ex h h' lo) (z : od + 3 ≤ lo) : kOrdR g h' od LT PT vs vn := ⟨(f _ (by omega)).trans x.1, (f _ (by omega)).trans x.2.1, (f _ (by omega)).trans x.2.2⟩
