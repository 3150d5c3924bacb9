/-! THE MODEL: strands laid and taken -/
theorem kU_s {f : Nat → Int32} {a : Nat} {v : Int32} : upd f a v a = v := if_pos rfl
theorem kU_n {f : Nat → Int32} {a j : Nat} {v : Int32} (h : j ≠ a) : upd f a v j = f j := if_neg h
