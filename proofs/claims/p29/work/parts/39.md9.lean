def kKitE (σ : kS) (x : Int32) : Int32 := if x < 0 then -1 else if nI 16 ≤ x then -1 else if 6 ≤ σ.2.2.1 then -4 else nI 0
def kPasE (σ : kS) (x : Int32) : Int32 := if x < nI 1 then -2 else if nI 99 < x then -2 else if nI 9999 < σ.2.1 + x then -5 else nI 0
def kNapE (σ : kS) (x : Int32) : Int32 := if kHas σ.2.2.1 x = 0 then -1 else if ¬ kNaps σ.2.2.2.2.2.1 x.toNatClampNeg = 0 then -5 else nI 0
