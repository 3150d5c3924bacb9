/-! THE MODEL: turns; errors of leaps, snips, plans -/
def kLpE (σ : kS) (x z : Int32) : Int32 := if kHas σ.2.2.1 x = 0 then -1 else if kIsL z = 0 then -2 else if ¬ kRef σ x.toNatClampNeg z = 0 then -5 else nI 0
def kSnE (σ : kS) (x z : Int32) : Int32 := if kIsE x = 0 then -1 else if kHas σ.2.2.1 z = 0 then -1 else if σ.2.2.2.2.2.2.1.length - (kCut x.toNatClampNeg z.toNatClampNeg σ.2.2.2.2.2.2.1).length = 0 then -5 else nI 0
def kPlE (σ : kS) (n k x : Int32) : Int32 := if kHas σ.2.2.1 k = 0 then -1 else if n < nI 1 then -2 else if nI 99 < n then -2 else if kIsL x = 0 then -2 else if 16 ≤ σ.2.2.2.2.2.2.2.length then -4 else nI 0
/-- how many strands of a kitten lie at an edge -/
def kStAS (e k : Nat) (a : Nat) (p : Nat × Nat) : Nat := if p.1 = e ∧ p.2 = k then a + 1 else a
def kStA (e k : Nat) (L : List (Nat × Nat)) : Nat := L.foldl (kStAS e k) 0
