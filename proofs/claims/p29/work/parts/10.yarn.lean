/-! STRANDS: a list of (edge, kitten), the oldest first -/
def kAtS (e : Nat) (a : Nat) (p : Nat × Nat) : Nat := if p.1 = e then a + 1 else a
/-- strands at an edge -/
def kAt (e : Nat) (L : List (Nat × Nat)) : Nat := L.foldl (kAtS e) 0
def kOfS (o : Nat) (a : Nat) (p : Nat × Nat) : Nat := if p.2 = o then a + 1 else a
/-- strands of a kitten -/
def kOf (o : Nat) (L : List (Nat × Nat)) : Nat := L.foldl (kOfS o) 0
def kBit (o : Nat) : Int32 := nI 1 <<< (nI o &&& 31)
def kSetS (e : Nat) (a : Int32) (p : Nat × Nat) : Int32 := if p.1 = e then a ||| kBit p.2 else a
/-- kittens with strands at an edge -/
def kSet (e : Nat) (L : List (Nat × Nat)) : Int32 := L.foldl (kSetS e) (nI 0)
def kTopS (e : Nat) (a : Option Nat) (p : Nat × Nat) : Option Nat := if p.1 = e then some p.2 else a
/-- the kitten of the strand on top -/
def kTop (e : Nat) (L : List (Nat × Nat)) : Option Nat := L.foldl (kTopS e) none
/-- a kitten, or -6 -/
def kON (o : Option Nat) : Int32 := match o with
  | none => -6
  | some a => nI a
def kRank (e : Nat) (r : Int32) : List (Nat × Nat) → Nat → Int32
  | [], _ => -1
  | p :: l, c => if p.1 = e then (if nI c = r then nI p.2 else kRank e r l (c + 1)) else kRank e r l c
theorem kdrop {α : Type} {L : List α} {i : Nat} {p : α} (h : L[i]? = some p) : L.drop i = p :: L.drop (i + 1) := by
  obtain ⟨h1, h2⟩ := List.getElem?_eq_some_iff.mp h
  rw [List.drop_eq_getElem_cons h1, h2]
theorem kdropN {α : Type} {L : List α} {i : Nat} (h : L.length ≤ i) : L.drop i = [] := List.drop_eq_nil_of_le h
theorem kget {α : Type} {L : List α} {i : Nat} (h : i < L.length) : ∃ p, L[i]? = some p := ⟨_, List.getElem?_eq_getElem h⟩
theorem ktop_snoc (e : Nat) (L : List (Nat × Nat)) (p : Nat × Nat) : kTop e (L ++ [p]) = if p.1 = e then some p.2 else kTop e L := by
  simp [kTop, List.foldl_append, kTopS]
theorem ktake {α : Type} {L : List α} {i : Nat} {p : α} (h : L[i]? = some p) : L.take (i + 1) = L.take i ++ [p] := by
  rw [List.take_succ, h]; rfl
theorem ks_dec1I (j : Nat) : nI j - nI 1 + Int32.ofInt (-1) = nI j - nI 1 - nI 1 := by
  rw [Int32.sub_eq_add_neg (nI j - nI 1) (nI 1)]
  rfl
theorem ks_neg1 {j : Nat} (h0 : 0 < j) (h : j < 2 ^ 31) : ¬ nI j - nI 1 < 0 := by
  rw [pk_sub (by omega)]; exact nI_pos (by omega)
theorem ks_neg0 : nI 0 - nI 1 < 0 := by decide
/-- a Yarn with these strands at y, its rows behind it -/
def kYarn (g : ks_G) (h : ks_H) (y : Nat) (L : List (Nat × Nat)) : Prop := ∃ E O : Nat → Int32, h[y]? = some (ks_O 5 [ks_ref g (y + 1), ks_ref g (y + 2), .int (nI L.length)]) ∧ h[y + 1]? = some (ks_I g 240 E) ∧ h[y + 2]? = some (ks_I g 240 O) ∧ (∀ (i e o : Nat), L[i]? = some (e, o) → E i = nI e ∧ O i = nI o) ∧ L.length ≤ 240 ∧ ∀ p ∈ L, p.1 < 15 ∧ p.2 < 6
set_option maxRecDepth 100000 in
set_option maxHeartbeats 4000000 in
theorem c_Yarn_lyingAt {g : ks_G} {h : ks_H} {y e : Nat} {L : List (Nat × Nat)} (hyarn : kYarn g h y L) (he : e < 15) : ks_Met g (yX5_lyingAt, cX5_lyingAt, 4, some .int) 0 0 0 [ks_ref g y, .int (nI e)] h (ks_Pi (nI (kAt e L)) h) := by
  obtain ⟨E, O, hY, hE, hO, hEO, hn, hbd⟩ := hyarn
  refine ks_intro (by decide) (Nat.le_of_ble_eq_true rfl) (fun κ hκ hRt => ?_)
  refine ks_cv (ls := [(0, ks_ref g y), (1, .int (nI e))]) ?_ rfl rfl rfl
  refine ks_iconst hκ 0 (nI 0) dX5_lyingAt_0 kq_i0 ?_
  refine ks_istore_n hκ 1 2 [(2, _), (0, _), (1, _)] dX5_lyingAt_1 rfl (by decide) rfl ?_
  refine ks_iconst hκ 2 (nI 0) dX5_lyingAt_2 kq_i0 ?_
  refine ks_istore_n hκ 3 3 [(3, _), (2, _), (0, _), (1, _)] dX5_lyingAt_3 rfl (by decide) rfl ?_
  have L4 : ∀ (fuel : Nat) (i acc : Nat) (hi : i ≤ L.length) (hinv : (L.drop i).foldl (kAtS e) acc = kAt e L) (hfuel : L.length - i < fuel), ks_K κ g 4 h 0 0 4 [(0, ks_ref g y), (1, .int (nI e)), (2, .int (nI acc)), (3, .int (nI i))] [] := by
    intro fuel
    induction fuel with
    | zero => intro i acc  hi hinv hfuel; exact absurd hfuel (Nat.not_lt_zero _)
    | succ fuel ih =>
      intro i acc  hi hinv hfuel
      refine ks_iload_n hκ 4 3 dX5_lyingAt_4 rfl ?_
      refine ks_aload_n hκ 5 0 dX5_lyingAt_5 rfl ?_
      refine ks_get hκ 6 dX5_lyingAt_6 kf_X5_18 hY rfl ?_
      refine ks_icmp_ge hκ 9 31 dX5_lyingAt_9 rfl (fun c9 => ?_) (fun c9 => ?_)
      · skip
        have c9 := (nI_leI (by omega) (by omega)).mp c9
        refine ks_iload_n hκ 31 2 dX5_lyingAt_31 rfl ?_
        refine ks_iret hκ 32 hRt dX5_lyingAt_32 (by decide) (by decide) rfl ?_
        exact ⟨by rw [← hinv, kdropN c9]; rfl, rfl⟩
      · skip
        have c9 := mt (nI_leI (by omega) (by omega)).mpr c9
        obtain ⟨⟨e1, o1⟩, hL1⟩ := kget (L := L) (i := i) (by omega)
        obtain ⟨hE1, hO1⟩ := hEO i e1 o1 hL1
        obtain ⟨hb1, hb2⟩ := hbd _ (List.mem_of_getElem? hL1)
        simp only at hb1 hb2
        rw [kdrop hL1] at hinv
        refine ks_aload_n hκ 12 0 dX5_lyingAt_12 rfl ?_
        refine ks_get hκ 13 dX5_lyingAt_13 kf_X5_9 hY rfl ?_
        refine ks_iload_n hκ 16 3 dX5_lyingAt_16 rfl ?_
        refine ks_iald hκ 17 (i) dX5_lyingAt_17 hE rfl (by omega) (by decide) ?_
        refine ks_top (nI e1) hE1 ?_
        refine ks_iload_n hκ 18 1 dX5_lyingAt_18 rfl ?_
        refine ks_icmp_ne hκ 19 25 dX5_lyingAt_19 rfl (fun c19 => ?_) (fun c19 => ?_)
        · skip
          have c19 := mt (nI_eq (by omega) (by omega)).mpr c19
          refine ks_iinc hκ 25 3 3 (nI (i + 1)) [(3, _), (0, _), (1, _), (2, _)] dX5_lyingAt_25 rfl (ks_inc1 _) (by decide) rfl ?_
          refine ks_goto hκ 28 4 dX5_lyingAt_28 rfl ?_
          refine ks_pick [1, 2, 3, 0] [(0, _), (1, _), (2, _), (3, _)] rfl ?_
          exact ks_cv (ih (i + 1) _  (by omega) (by clear ih; revert hinv; simp [List.foldl_cons, kAtS, *]) (by omega)) rfl rfl rfl
        · skip
          have c19 := (nI_eq (by omega) (by omega)).mp c19
          refine ks_iinc hκ 22 2 2 (nI (acc + 1)) [(2, _), (0, _), (1, _), (3, _)] dX5_lyingAt_22 rfl (ks_inc1 _) (by decide) rfl ?_
          refine ks_iinc hκ 25 3 3 (nI (i + 1)) [(3, _), (2, _), (0, _), (1, _)] dX5_lyingAt_25 rfl (ks_inc1 _) (by decide) rfl ?_
          refine ks_goto hκ 28 4 dX5_lyingAt_28 rfl ?_
          refine ks_pick [2, 3, 1, 0] [(0, _), (1, _), (2, _), (3, _)] rfl ?_
          exact ks_cv (ih (i + 1) _  (by omega) (by clear ih; revert hinv; simp [List.foldl_cons, kAtS, *]) (by omega)) rfl rfl rfl
  refine ks_pick [2, 3, 1, 0] [(0, _), (1, _), (2, _), (3, _)] rfl ?_
  exact ks_cv (L4 _ 0 0  (Nat.zero_le _) rfl (Nat.lt_succ_self _)) rfl rfl rfl
set_option maxRecDepth 100000 in
set_option maxHeartbeats 4000000 in
theorem c_Yarn_lyingOf {g : ks_G} {h : ks_H} {y e : Nat} {L : List (Nat × Nat)} (hyarn : kYarn g h y L) (he : e < 6) : ks_Met g (yX5_lyingOf, cX5_lyingOf, 4, some .int) 0 0 0 [ks_ref g y, .int (nI e)] h (ks_Pi (nI (kOf e L)) h) := by
  obtain ⟨E, O, hY, hE, hO, hEO, hn, hbd⟩ := hyarn
  refine ks_intro (by decide) (Nat.le_of_ble_eq_true rfl) (fun κ hκ hRt => ?_)
  refine ks_cv (ls := [(0, ks_ref g y), (1, .int (nI e))]) ?_ rfl rfl rfl
  refine ks_iconst hκ 0 (nI 0) dX5_lyingOf_0 kq_i0 ?_
  refine ks_istore_n hκ 1 2 [(2, _), (0, _), (1, _)] dX5_lyingOf_1 rfl (by decide) rfl ?_
  refine ks_iconst hκ 2 (nI 0) dX5_lyingOf_2 kq_i0 ?_
  refine ks_istore_n hκ 3 3 [(3, _), (2, _), (0, _), (1, _)] dX5_lyingOf_3 rfl (by decide) rfl ?_
  have L4 : ∀ (fuel : Nat) (i acc : Nat) (hi : i ≤ L.length) (hinv : (L.drop i).foldl (kOfS e) acc = kOf e L) (hfuel : L.length - i < fuel), ks_K κ g 4 h 0 0 4 [(0, ks_ref g y), (1, .int (nI e)), (2, .int (nI acc)), (3, .int (nI i))] [] := by
    intro fuel
    induction fuel with
    | zero => intro i acc  hi hinv hfuel; exact absurd hfuel (Nat.not_lt_zero _)
    | succ fuel ih =>
      intro i acc  hi hinv hfuel
      refine ks_iload_n hκ 4 3 dX5_lyingOf_4 rfl ?_
      refine ks_aload_n hκ 5 0 dX5_lyingOf_5 rfl ?_
      refine ks_get hκ 6 dX5_lyingOf_6 kf_X5_18 hY rfl ?_
      refine ks_icmp_ge hκ 9 31 dX5_lyingOf_9 rfl (fun c9 => ?_) (fun c9 => ?_)
      · skip
        have c9 := (nI_leI (by omega) (by omega)).mp c9
        refine ks_iload_n hκ 31 2 dX5_lyingOf_31 rfl ?_
        refine ks_iret hκ 32 hRt dX5_lyingOf_32 (by decide) (by decide) rfl ?_
        exact ⟨by rw [← hinv, kdropN c9]; rfl, rfl⟩
      · skip
        have c9 := mt (nI_leI (by omega) (by omega)).mpr c9
        obtain ⟨⟨e1, o1⟩, hL1⟩ := kget (L := L) (i := i) (by omega)
        obtain ⟨hE1, hO1⟩ := hEO i e1 o1 hL1
        obtain ⟨hb1, hb2⟩ := hbd _ (List.mem_of_getElem? hL1)
        simp only at hb1 hb2
        rw [kdrop hL1] at hinv
        refine ks_aload_n hκ 12 0 dX5_lyingOf_12 rfl ?_
        refine ks_get hκ 13 dX5_lyingOf_13 kf_X5_15 hY rfl ?_
        refine ks_iload_n hκ 16 3 dX5_lyingOf_16 rfl ?_
        refine ks_iald hκ 17 (i) dX5_lyingOf_17 hO rfl (by omega) (by decide) ?_
        refine ks_top (nI o1) hO1 ?_
        refine ks_iload_n hκ 18 1 dX5_lyingOf_18 rfl ?_
        refine ks_icmp_ne hκ 19 25 dX5_lyingOf_19 rfl (fun c19 => ?_) (fun c19 => ?_)
        · skip
          have c19 := mt (nI_eq (by omega) (by omega)).mpr c19
          refine ks_iinc hκ 25 3 3 (nI (i + 1)) [(3, _), (0, _), (1, _), (2, _)] dX5_lyingOf_25 rfl (ks_inc1 _) (by decide) rfl ?_
          refine ks_goto hκ 28 4 dX5_lyingOf_28 rfl ?_
          refine ks_pick [1, 2, 3, 0] [(0, _), (1, _), (2, _), (3, _)] rfl ?_
          exact ks_cv (ih (i + 1) _  (by omega) (by clear ih; revert hinv; simp [List.foldl_cons, kOfS, *]) (by omega)) rfl rfl rfl
        · skip
          have c19 := (nI_eq (by omega) (by omega)).mp c19
          refine ks_iinc hκ 22 2 2 (nI (acc + 1)) [(2, _), (0, _), (1, _), (3, _)] dX5_lyingOf_22 rfl (ks_inc1 _) (by decide) rfl ?_
          refine ks_iinc hκ 25 3 3 (nI (i + 1)) [(3, _), (2, _), (0, _), (1, _)] dX5_lyingOf_25 rfl (ks_inc1 _) (by decide) rfl ?_
          refine ks_goto hκ 28 4 dX5_lyingOf_28 rfl ?_
          refine ks_pick [2, 3, 1, 0] [(0, _), (1, _), (2, _), (3, _)] rfl ?_
          exact ks_cv (ih (i + 1) _  (by omega) (by clear ih; revert hinv; simp [List.foldl_cons, kOfS, *]) (by omega)) rfl rfl rfl
  refine ks_pick [2, 3, 1, 0] [(0, _), (1, _), (2, _), (3, _)] rfl ?_
  exact ks_cv (L4 _ 0 0  (Nat.zero_le _) rfl (Nat.lt_succ_self _)) rfl rfl rfl
set_option maxRecDepth 100000 in
set_option maxHeartbeats 4000000 in
theorem c_Yarn_ownerSetAt {g : ks_G} {h : ks_H} {y e : Nat} {L : List (Nat × Nat)} (hyarn : kYarn g h y L) (he : e < 15) : ks_Met g (yX5_ownerSetAt, cX5_ownerSetAt, 4, some .int) 0 0 0 [ks_ref g y, .int (nI e)] h (ks_Pi (kSet e L) h) := by
  obtain ⟨E, O, hY, hE, hO, hEO, hn, hbd⟩ := hyarn
  refine ks_intro (by decide) (Nat.le_of_ble_eq_true rfl) (fun κ hκ hRt => ?_)
  refine ks_cv (ls := [(0, ks_ref g y), (1, .int (nI e))]) ?_ rfl rfl rfl
  refine ks_iconst hκ 0 (nI 0) dX5_ownerSetAt_0 kq_i0 ?_
  refine ks_istore_n hκ 1 2 [(2, _), (0, _), (1, _)] dX5_ownerSetAt_1 rfl (by decide) rfl ?_
  refine ks_iconst hκ 2 (nI 0) dX5_ownerSetAt_2 kq_i0 ?_
  refine ks_istore_n hκ 3 3 [(3, _), (2, _), (0, _), (1, _)] dX5_ownerSetAt_3 rfl (by decide) rfl ?_
  have L4 : ∀ (fuel : Nat) (i : Nat) (acc : Int32) (hi : i ≤ L.length) (hinv : (L.drop i).foldl (kSetS e) acc = kSet e L) (hfuel : L.length - i < fuel), ks_K κ g 4 h 0 0 4 [(0, ks_ref g y), (1, .int (nI e)), (2, .int acc), (3, .int (nI i))] [] := by
    intro fuel
    induction fuel with
    | zero => intro i acc  hi hinv hfuel; exact absurd hfuel (Nat.not_lt_zero _)
    | succ fuel ih =>
      intro i acc  hi hinv hfuel
      refine ks_iload_n hκ 4 3 dX5_ownerSetAt_4 rfl ?_
      refine ks_aload_n hκ 5 0 dX5_ownerSetAt_5 rfl ?_
      refine ks_get hκ 6 dX5_ownerSetAt_6 kf_X5_18 hY rfl ?_
      refine ks_icmp_ge hκ 9 39 dX5_ownerSetAt_9 rfl (fun c9 => ?_) (fun c9 => ?_)
      · skip
        have c9 := (nI_leI (by omega) (by omega)).mp c9
        refine ks_iload_n hκ 39 2 dX5_ownerSetAt_39 rfl ?_
        refine ks_iret hκ 40 hRt dX5_ownerSetAt_40 (by decide) (by decide) rfl ?_
        exact ⟨by rw [← hinv, kdropN c9]; rfl, rfl⟩
      · skip
        have c9 := mt (nI_leI (by omega) (by omega)).mpr c9
        obtain ⟨⟨e1, o1⟩, hL1⟩ := kget (L := L) (i := i) (by omega)
        obtain ⟨hE1, hO1⟩ := hEO i e1 o1 hL1
        obtain ⟨hb1, hb2⟩ := hbd _ (List.mem_of_getElem? hL1)
        simp only at hb1 hb2
        rw [kdrop hL1] at hinv
        refine ks_aload_n hκ 12 0 dX5_ownerSetAt_12 rfl ?_
        refine ks_get hκ 13 dX5_ownerSetAt_13 kf_X5_9 hY rfl ?_
        refine ks_iload_n hκ 16 3 dX5_ownerSetAt_16 rfl ?_
        refine ks_iald hκ 17 (i) dX5_ownerSetAt_17 hE rfl (by omega) (by decide) ?_
        refine ks_top (nI e1) hE1 ?_
        refine ks_iload_n hκ 18 1 dX5_ownerSetAt_18 rfl ?_
        refine ks_icmp_ne hκ 19 33 dX5_ownerSetAt_19 rfl (fun c19 => ?_) (fun c19 => ?_)
        · skip
          have c19 := mt (nI_eq (by omega) (by omega)).mpr c19
          refine ks_iinc hκ 33 3 3 (nI (i + 1)) [(3, _), (0, _), (1, _), (2, _)] dX5_ownerSetAt_33 rfl (ks_inc1 _) (by decide) rfl ?_
          refine ks_goto hκ 36 4 dX5_ownerSetAt_36 rfl ?_
          refine ks_pick [1, 2, 3, 0] [(0, _), (1, _), (2, _), (3, _)] rfl ?_
          exact ks_cv (ih (i + 1) _  (by omega) (by clear ih; revert hinv; simp [List.foldl_cons, kSetS, kBit, *]) (by omega)) rfl rfl rfl
        · skip
          have c19 := (nI_eq (by omega) (by omega)).mp c19
          refine ks_iload_n hκ 22 2 dX5_ownerSetAt_22 rfl ?_
          refine ks_iconst hκ 23 (nI 1) dX5_ownerSetAt_23 kq_i1 ?_
          refine ks_aload_n hκ 24 0 dX5_ownerSetAt_24 rfl ?_
          refine ks_get hκ 25 dX5_ownerSetAt_25 kf_X5_15 hY rfl ?_
          refine ks_iload_n hκ 28 3 dX5_ownerSetAt_28 rfl ?_
          refine ks_iald hκ 29 (i) dX5_ownerSetAt_29 hO rfl (by omega) (by decide) ?_
          refine ks_top (nI o1) hO1 ?_
          refine ks_ishl hκ 30 dX5_ownerSetAt_30 ?_
          refine ks_ior hκ 31 dX5_ownerSetAt_31 ?_
          refine ks_istore_n hκ 32 2 [(2, _), (0, _), (1, _), (3, _)] dX5_ownerSetAt_32 rfl (by decide) rfl ?_
          refine ks_iinc hκ 33 3 3 (nI (i + 1)) [(3, _), (2, _), (0, _), (1, _)] dX5_ownerSetAt_33 rfl (ks_inc1 _) (by decide) rfl ?_
          refine ks_goto hκ 36 4 dX5_ownerSetAt_36 rfl ?_
          refine ks_pick [2, 3, 1, 0] [(0, _), (1, _), (2, _), (3, _)] rfl ?_
          exact ks_cv (ih (i + 1) _  (by omega) (by clear ih; revert hinv; simp [List.foldl_cons, kSetS, kBit, *]) (by omega)) rfl rfl rfl
  refine ks_pick [2, 3, 1, 0] [(0, _), (1, _), (2, _), (3, _)] rfl ?_
  exact ks_cv (L4 _ 0 _  (Nat.zero_le _) rfl (Nat.lt_succ_self _)) rfl rfl rfl
set_option maxRecDepth 100000 in
set_option maxHeartbeats 4000000 in
theorem c_Yarn_topOwner {g : ks_G} {h : ks_H} {y e : Nat} {L : List (Nat × Nat)} (hyarn : kYarn g h y L) (he : e < 15) : ks_Met g (yX5_topOwner, cX5_topOwner, 3, some .int) 0 0 0 [ks_ref g y, .int (nI e)] h (ks_Pi (kON (kTop e L)) h) := by
  obtain ⟨E, O, hY, hE, hO, hEO, hn, hbd⟩ := hyarn
  refine ks_intro (by decide) (Nat.le_of_ble_eq_true rfl) (fun κ hκ hRt => ?_)
  refine ks_cv (ls := [(0, ks_ref g y), (1, .int (nI e))]) ?_ rfl rfl rfl
  refine ks_aload_n hκ 0 0 dX5_topOwner_0 rfl ?_
  refine ks_get hκ 1 dX5_topOwner_1 kf_X5_18 hY rfl ?_
  refine ks_iconst hκ 4 (nI 1) dX5_topOwner_4 kq_i1 ?_
  refine ks_isub hκ 5 dX5_topOwner_5 ?_
  refine ks_istore_n hκ 6 2 [(2, _), (0, _), (1, _)] dX5_topOwner_6 rfl (by decide) rfl ?_
  have L7 : ∀ (fuel : Nat) (j : Nat) (hj : j ≤ L.length) (hinv : kTop e (L.take j) = kTop e L) (hfuel : j < fuel), ks_K κ g 3 h 0 0 7 [(0, ks_ref g y), (1, .int (nI e)), (2, .int (nI j - nI 1))] [] := by
    intro fuel
    induction fuel with
    | zero => intro j  hj hinv hfuel; exact absurd hfuel (Nat.not_lt_zero _)
    | succ fuel ih =>
      intro j  hj hinv hfuel
      refine ks_iload_n hκ 7 2 dX5_topOwner_7 rfl ?_
      refine ks_if_lt hκ 8 34 dX5_topOwner_8 rfl (fun c8 => ?_) (fun c8 => ?_)
      · skip
        have hj0 : j = 0 := by
          rcases Nat.eq_zero_or_pos j with q | q
          · exact q
          · exact absurd c8 (ks_neg1 q (by omega))
        refine ks_bipush hκ 34 (-6) dX5_topOwner_34 kq_bm6 ?_
        refine ks_iret hκ 36 hRt dX5_topOwner_36 (by decide) (by decide) rfl ?_
        exact ⟨by rw [← hinv, hj0]; rfl, rfl⟩
      · skip
        obtain ⟨i, rfl⟩ : ∃ i, j = i + 1 := by
          rcases j with _ | i
          · exact absurd ks_neg0 c8
          · exact ⟨i, rfl⟩
        obtain ⟨⟨e1, o1⟩, hL1⟩ := kget (L := L) (i := i) (by omega)
        obtain ⟨hE1, hO1⟩ := hEO i e1 o1 hL1
        obtain ⟨hb1, hb2⟩ := hbd _ (List.mem_of_getElem? hL1)
        simp only at hb1 hb2
        refine ks_aload_n hκ 11 0 dX5_topOwner_11 rfl ?_
        refine ks_get hκ 12 dX5_topOwner_12 kf_X5_9 hY rfl ?_
        refine ks_iload_n hκ 15 2 dX5_topOwner_15 rfl ?_
        refine ks_top (nI i) (by rw [pk_sub (by omega), Nat.add_sub_cancel]) ?_
        refine ks_iald hκ 16 (i) dX5_topOwner_16 hE rfl (by omega) (by decide) ?_
        refine ks_top (nI e1) hE1 ?_
        refine ks_iload_n hκ 17 1 dX5_topOwner_17 rfl ?_
        refine ks_icmp_ne hκ 18 28 dX5_topOwner_18 rfl (fun c18 => ?_) (fun c18 => ?_)
        · skip
          have c18 := mt (nI_eq (by omega) (by omega)).mpr c18
          refine ks_iinc hκ 28 2 2 _ [(2, _), (0, _), (1, _)] dX5_topOwner_28 rfl rfl (by decide) rfl ?_
          refine ks_goto hκ 31 7 dX5_topOwner_31 rfl ?_
          refine ks_pick [1, 2, 0] [(0, _), (1, _), (2, _)] rfl ?_
          exact ks_cv (ih i  (by omega) (by rw [← hinv, ktake hL1, ktop_snoc, if_neg c18]) (by omega)) rfl (by rw [ks_dec1I, pk_sub (show 1 ≤ i + 1 by omega), Nat.add_sub_cancel]) rfl
        · skip
          have c18 := (nI_eq (by omega) (by omega)).mp c18
          refine ks_aload_n hκ 21 0 dX5_topOwner_21 rfl ?_
          refine ks_get hκ 22 dX5_topOwner_22 kf_X5_15 hY rfl ?_
          refine ks_iload_n hκ 25 2 dX5_topOwner_25 rfl ?_
          refine ks_top (nI i) (by rw [pk_sub (by omega), Nat.add_sub_cancel]) ?_
          refine ks_iald hκ 26 (i) dX5_topOwner_26 hO rfl (by omega) (by decide) ?_
          refine ks_iret hκ 27 hRt dX5_topOwner_27 (by decide) (by decide) rfl ?_
          exact ⟨by rw [← hinv, ktake hL1, ktop_snoc, if_pos c18, hO1]; rfl, rfl⟩
  refine ks_pick [1, 2, 0] [(0, _), (1, _), (2, _)] rfl ?_
  exact ks_cv (L7 _ L.length  (Nat.le_refl _) (by rw [List.take_length]) (Nat.lt_succ_self _)) rfl rfl rfl
set_option maxRecDepth 100000 in
set_option maxHeartbeats 4000000 in
theorem c_Yarn_ownerAt {g : ks_G} {h : ks_H} {y e : Nat} {r : Int32} {L : List (Nat × Nat)} (hyarn : kYarn g h y L) (he : e < 15) : ks_Met g (yX5_ownerAt, cX5_ownerAt, 5, some .int) 0 0 0 [ks_ref g y, .int (nI e), .int r] h (ks_Pi (kRank e r L 0) h) := by
  obtain ⟨E, O, hY, hE, hO, hEO, hn, hbd⟩ := hyarn
  refine ks_intro (by decide) (Nat.le_of_ble_eq_true rfl) (fun κ hκ hRt => ?_)
  refine ks_cv (ls := [(0, ks_ref g y), (1, .int (nI e)), (2, .int r)]) ?_ rfl rfl rfl
  refine ks_iconst hκ 0 (nI 0) dX5_ownerAt_0 kq_i0 ?_
  refine ks_istore_n hκ 1 3 [(3, _), (0, _), (1, _), (2, _)] dX5_ownerAt_1 rfl (by decide) rfl ?_
  refine ks_iconst hκ 2 (nI 0) dX5_ownerAt_2 kq_i0 ?_
  refine ks_istore hκ 3 4 [(4, _), (3, _), (0, _), (1, _), (2, _)] dX5_ownerAt_3 (by decide) rfl ?_
  have L5 : ∀ (fuel : Nat) (i acc : Nat) (hi : i ≤ L.length) (hinv : kRank e r (L.drop i) acc = kRank e r L 0) (hfuel : L.length - i < fuel), ks_K κ g 5 h 0 0 5 [(0, ks_ref g y), (1, .int (nI e)), (2, .int r), (3, .int (nI acc)), (4, .int (nI i))] [] := by
    intro fuel
    induction fuel with
    | zero => intro i acc  hi hinv hfuel; exact absurd hfuel (Nat.not_lt_zero _)
    | succ fuel ih =>
      intro i acc  hi hinv hfuel
      refine ks_iload hκ 5 4 dX5_ownerAt_5 rfl ?_
      refine ks_aload_n hκ 7 0 dX5_ownerAt_7 rfl ?_
      refine ks_get hκ 8 dX5_ownerAt_8 kf_X5_18 hY rfl ?_
      refine ks_icmp_ge hκ 11 50 dX5_ownerAt_11 rfl (fun c11 => ?_) (fun c11 => ?_)
      · skip
        have c11 := (nI_leI (by omega) (by omega)).mp c11
        refine ks_iconst hκ 50 (-1) dX5_ownerAt_50 kq_im1 ?_
        refine ks_iret hκ 51 hRt dX5_ownerAt_51 (by decide) (by decide) rfl ?_
        exact ⟨by rw [← hinv, kdropN c11]; rfl, rfl⟩
      · skip
        have c11 := mt (nI_leI (by omega) (by omega)).mpr c11
        obtain ⟨⟨e1, o1⟩, hL1⟩ := kget (L := L) (i := i) (by omega)
        obtain ⟨hE1, hO1⟩ := hEO i e1 o1 hL1
        obtain ⟨hb1, hb2⟩ := hbd _ (List.mem_of_getElem? hL1)
        simp only at hb1 hb2
        rw [kdrop hL1] at hinv
        refine ks_aload_n hκ 14 0 dX5_ownerAt_14 rfl ?_
        refine ks_get hκ 15 dX5_ownerAt_15 kf_X5_9 hY rfl ?_
        refine ks_iload hκ 18 4 dX5_ownerAt_18 rfl ?_
        refine ks_iald hκ 20 (i) dX5_ownerAt_20 hE rfl (by omega) (by decide) ?_
        refine ks_top (nI e1) hE1 ?_
        refine ks_iload_n hκ 21 1 dX5_ownerAt_21 rfl ?_
        refine ks_icmp_eq hκ 22 28 dX5_ownerAt_22 rfl (fun c22 => ?_) (fun c22 => ?_)
        · skip
          have c22 := (nI_eq (by omega) (by omega)).mp c22
          refine ks_iload_n hκ 28 3 dX5_ownerAt_28 rfl ?_
          refine ks_iload_n hκ 29 2 dX5_ownerAt_29 rfl ?_
          refine ks_icmp_ne hκ 30 41 dX5_ownerAt_30 rfl (fun c30 => ?_) (fun c30 => ?_)
          · skip
            refine ks_iinc hκ 41 3 3 (nI (acc + 1)) [(3, _), (0, _), (1, _), (2, _), (4, _)] dX5_ownerAt_41 rfl (ks_inc1 _) (by decide) rfl ?_
            refine ks_iinc hκ 44 4 4 (nI (i + 1)) [(4, _), (3, _), (0, _), (1, _), (2, _)] dX5_ownerAt_44 rfl (ks_inc1 _) (by decide) rfl ?_
            refine ks_goto hκ 47 5 dX5_ownerAt_47 rfl ?_
            refine ks_pick [2, 3, 4, 1, 0] [(0, _), (1, _), (2, _), (3, _), (4, _)] rfl ?_
            exact ks_cv (ih (i + 1) _  (by omega) (by clear ih; revert hinv; simp [kRank, *]) (by omega)) rfl rfl rfl
          · skip
            refine ks_aload_n hκ 33 0 dX5_ownerAt_33 rfl ?_
            refine ks_get hκ 34 dX5_ownerAt_34 kf_X5_15 hY rfl ?_
            refine ks_iload hκ 37 4 dX5_ownerAt_37 rfl ?_
            refine ks_iald hκ 39 (i) dX5_ownerAt_39 hO rfl (by omega) (by decide) ?_
            refine ks_iret hκ 40 hRt dX5_ownerAt_40 (by decide) (by decide) rfl ?_
            exact ⟨by clear ih; revert hinv; simp [kRank, *], rfl⟩
        · skip
          have c22 := mt (nI_eq (by omega) (by omega)).mpr c22
          refine ks_goto hκ 25 44 dX5_ownerAt_25 rfl ?_
          refine ks_iinc hκ 44 4 4 (nI (i + 1)) [(4, _), (0, _), (1, _), (2, _), (3, _)] dX5_ownerAt_44 rfl (ks_inc1 _) (by decide) rfl ?_
          refine ks_goto hκ 47 5 dX5_ownerAt_47 rfl ?_
          refine ks_pick [1, 2, 3, 4, 0] [(0, _), (1, _), (2, _), (3, _), (4, _)] rfl ?_
          exact ks_cv (ih (i + 1) _  (by omega) (by clear ih; revert hinv; simp [kRank, *]) (by omega)) rfl rfl rfl
  refine ks_pick [2, 3, 4, 1, 0] [(0, _), (1, _), (2, _), (3, _), (4, _)] rfl ?_
  exact ks_cv (L5 _ 0 0  (Nat.zero_le _) rfl (Nat.lt_succ_self _)) rfl rfl rfl
