/-! more of Yarn: what two kittens' strands do; laying, winding back, snipping, copying -/
abbrev kQ : Type := Int32 × Int32 × Int32 × Int32
def kbS (a b : Nat) (q : kQ) (p : Nat × Nat) : kQ :=
  if p.2 = a then (q.1 ||| kBit p.1, q.2.1 &&& (kBit p.1 ^^^ (-1)), q.2.2.1 ||| (kBit p.1 &&& q.2.1), q.2.2.2 ||| (kBit p.1 &&& q.2.1 &&& q.2.2.1))
  else if p.2 = b then (q.1 &&& (kBit p.1 ^^^ (-1)), q.2.1 ||| kBit p.1, q.2.2.1 ||| (kBit p.1 &&& q.1), q.2.2.2 ||| (kBit p.1 &&& q.1 &&& q.2.2.1))
  else q
def kBes (a b : Nat) (L : List (Nat × Nat)) : Int32 := (L.foldl (kbS a b) (nI 0, nI 0, nI 0, nI 0)).2.2.2
theorem kbS_1 {a b e o : Nat} {x y z w : Int32} (h : o = a) : kbS a b (x, y, z, w) (e, o) = (x ||| kBit e, y &&& (kBit e ^^^ (-1)), z ||| (kBit e &&& y), w ||| (kBit e &&& y &&& z)) := if_pos h
theorem kbS_2 {a b e o : Nat} {x y z w : Int32} (h : ¬ o = a) (h2 : o = b) : kbS a b (x, y, z, w) (e, o) = (x &&& (kBit e ^^^ (-1)), y ||| kBit e, z ||| (kBit e &&& x), w ||| (kBit e &&& x &&& z)) := (if_neg h).trans (if_pos h2)
theorem kbS_3 {a b e o : Nat} {q : kQ} (h : ¬ o = a) (h2 : ¬ o = b) : kbS a b q (e, o) = q := (if_neg h).trans (if_neg h2)
def kKeptS (e lo up : Nat) (q : Nat × Nat) (p : Nat × Nat) : Nat × Nat := if p.1 = e then (if p.2 = lo then (q.1 + 1, q.2) else if p.2 = up then (q.1, max q.2 q.1 + 1) else q) else q
theorem kKeptS_0 {e lo up e1 o1 x z : Nat} (h : ¬ e1 = e) : kKeptS e lo up (x, z) (e1, o1) = (x, z) := if_neg h
theorem kKeptS_1 {e lo up e1 o1 x z : Nat} (h : e1 = e) (h2 : o1 = lo) : kKeptS e lo up (x, z) (e1, o1) = (x + 1, z) := (if_pos h).trans (if_pos h2)
theorem kKeptS_2 {e lo up e1 o1 x z : Nat} (h : e1 = e) (h2 : ¬ o1 = lo) (h3 : o1 = up) : kKeptS e lo up (x, z) (e1, o1) = (x, max z x + 1) := (if_pos h).trans ((if_neg h2).trans (if_pos h3))
theorem kKeptS_3 {e lo up e1 o1 x z : Nat} (h : e1 = e) (h2 : ¬ o1 = lo) (h3 : ¬ o1 = up) : kKeptS e lo up (x, z) (e1, o1) = (x, z) := (if_pos h).trans ((if_neg h2).trans (if_neg h3))
def kKept (e lo up : Nat) (L : List (Nat × Nat)) : Nat := max (L.foldl (kKeptS e lo up) (0, 0)).2 (L.foldl (kKeptS e lo up) (0, 0)).1
theorem kKept_le0 (e lo up : Nat) (L : List (Nat × Nat)) : ∀ (q : Nat × Nat) (m : Nat), q.1 ≤ m → q.2 ≤ m → (L.foldl (kKeptS e lo up) q).1 ≤ m + L.length ∧ (L.foldl (kKeptS e lo up) q).2 ≤ m + L.length := by
  induction L with
  | nil => intro q m h1 h2; exact ⟨h1, h2⟩
  | cons p l ih =>
    intro q m h1 h2
    have hs : (kKeptS e lo up q p).1 ≤ m + 1 ∧ (kKeptS e lo up q p).2 ≤ m + 1 := by
      unfold kKeptS
      split
      · split
        · exact ⟨by simp only; omega, by simp only; omega⟩
        · split
          · exact ⟨by simp only; omega, by simp only; omega⟩
          · omega
      · omega
    obtain ⟨r1, r2⟩ := ih _ (m + 1) hs.1 hs.2
    rw [List.foldl_cons, List.length_cons]
    omega
theorem kKept_le (e lo up : Nat) (L : List (Nat × Nat)) : kKept e lo up L ≤ L.length := by
  obtain ⟨h1, h2⟩ := kKept_le0 e lo up L (0, 0) 0 (Nat.le_refl _) (Nat.le_refl _)
  unfold kKept
  omega
def kBothS (e a b : Nat) (n : Nat) (p : Nat × Nat) : Nat := if p.1 = e ∧ (p.2 = a ∨ p.2 = b) then n + 1 else n
def kBoth (e a b : Nat) (L : List (Nat × Nat)) : Nat := L.foldl (kBothS e a b) 0
def kGone (e a b : Nat) (L : List (Nat × Nat)) : Int32 := nI (kBoth e a b L) - nI (max (kKept e a b L) (kKept e b a L))
def kLay (L : List (Nat × Nat)) (p : Nat × Nat) : List (Nat × Nat) := if L.length < 240 then L ++ [p] else L
/-- the rows hold the strands -/
def kEO (E O : Nat → Int32) (L : List (Nat × Nat)) : Prop := ∀ (i e o : Nat), L[i]? = some (e, o) → E i = nI e ∧ O i = nI o
theorem kEO.snoc {E O : Nat → Int32} {L : List (Nat × Nat)} {e o : Nat} (h : kEO E O L) : kEO (upd E L.length (nI e)) (upd O L.length (nI o)) (L ++ [(e, o)]) := by
  intro i e1 o1 hi
  by_cases hl : i < L.length
  · rw [List.getElem?_append_left hl] at hi
    rw [pk_un (by omega), pk_un (by omega)]
    exact h i e1 o1 hi
  · have hz := (List.getElem?_eq_some_iff.mp hi).1
    rw [List.length_append] at hz
    have : i = L.length := by simp at hz; omega
    subst this
    simp at hi
    rw [pk_us, pk_us, hi.1, hi.2]
    exact ⟨rfl, rfl⟩
theorem kbd_snoc {L : List (Nat × Nat)} {e o : Nat} (h : ∀ p ∈ L, p.1 < 15 ∧ p.2 < 6) (he : e < 15) (ho : o < 6) : ∀ p ∈ L ++ [(e, o)], p.1 < 15 ∧ p.2 < 6 := by
  intro p hp
  rcases List.mem_append.mp hp with q | q
  · exact h p q
  · simp at q; subst q; exact ⟨he, ho⟩
/-- while cells are moved down one place: below the gap the new list, from i on the old one -/
def kMid (E O : Nat → Int32) (L L' : List (Nat × Nat)) (c i : Nat) : Prop := (∀ (k e o : Nat), k < c → L'[k]? = some (e, o) → E k = nI e ∧ O k = nI o) ∧ ∀ (k e o : Nat), i ≤ k → L[k]? = some (e, o) → E k = nI e ∧ O k = nI o
theorem kMid.start {E O : Nat → Int32} {L : List (Nat × Nat)} {t : Nat} (h : kEO E O L) : kMid E O L (L.eraseIdx t) t (t + 1) :=
  ⟨fun k e o hk hl => h k e o (by rw [List.getElem?_eraseIdx, if_pos hk] at hl; exact hl), fun k e o _ hl => h k e o hl⟩
theorem kMid.step {E O : Nat → Int32} {L L' : List (Nat × Nat)} {c i e o : Nat} (h : kMid E O L L' c i) (hci : c ≤ i) (hi : L[i]? = some (e, o)) (hc : L'[c]? = some (e, o)) : kMid (upd E c (E i)) (upd O c (O i)) L L' (c + 1) (i + 1) := by
  obtain ⟨hE, hO⟩ := h.2 i e o (Nat.le_refl _) hi
  refine ⟨fun k e1 o1 hk hl => ?_, fun k e1 o1 hk hl => ?_⟩
  · by_cases hkc : k = c
    · subst hkc
      rw [hc] at hl
      simp at hl
      rw [pk_us, pk_us, hE, hO, hl.1, hl.2]
      exact ⟨rfl, rfl⟩
    · rw [pk_un hkc, pk_un hkc]
      exact h.1 k e1 o1 (by omega) hl
  · rw [pk_un (by omega), pk_un (by omega)]
    exact h.2 k e1 o1 (by omega) hl
theorem kMid.skip {E O : Nat → Int32} {L L' : List (Nat × Nat)} {c i : Nat} (h : kMid E O L L' c i) : kMid E O L L' c (i + 1) := ⟨h.1, fun k e o hk hl => h.2 k e o (by omega) hl⟩
theorem kbd_erase {L : List (Nat × Nat)} {t : Nat} (h : ∀ p ∈ L, p.1 < 15 ∧ p.2 < 6) : ∀ p ∈ L.eraseIdx t, p.1 < 15 ∧ p.2 < 6 := fun p hp => h p (List.mem_of_mem_eraseIdx hp)
def kNot (e o : Nat) (p : Nat × Nat) : Bool := !(p.1 == e && p.2 == o)
/-- all strands of a kitten at an edge are gone -/
def kCut (e o : Nat) (L : List (Nat × Nat)) : List (Nat × Nat) := L.filter (kNot e o)
theorem kCut_take {e o : Nat} {L : List (Nat × Nat)} {i : Nat} {p : Nat × Nat} (h : L[i]? = some p) : kCut e o (L.take (i + 1)) = if kNot e o p then kCut e o (L.take i) ++ [p] else kCut e o (L.take i) := by
  unfold kCut
  rw [ktake h, List.filter_append]
  by_cases hp : kNot e o p = true
  · rw [if_pos hp]; simp [hp]
  · rw [if_neg hp]; simp [hp]
theorem kCut_at {e o : Nat} {L : List (Nat × Nat)} {i : Nat} {p : Nat × Nat} (h : L[i]? = some p) (hp : kNot e o p = true) : (kCut e o L)[(kCut e o (L.take i)).length]? = some p := by
  have h1 : L = L.take (i + 1) ++ L.drop (i + 1) := (List.take_append_drop _ _).symm
  have h2 : kCut e o L = kCut e o (L.take (i + 1)) ++ kCut e o (L.drop (i + 1)) := by
    unfold kCut
    rw [← List.filter_append, ← h1]
  rw [h2, kCut_take h, if_pos hp, List.append_assoc, List.getElem?_append_right (Nat.le_refl _), Nat.sub_self]
  rfl
theorem kCut_le (e o : Nat) (L : List (Nat × Nat)) : (kCut e o L).length ≤ L.length := List.length_filter_le _ _
theorem kCut_tle {e o : Nat} {L : List (Nat × Nat)} {i : Nat} : (kCut e o (L.take i)).length ≤ i := Nat.le_trans (kCut_le _ _ _) (by rw [List.length_take]; omega)
theorem kYarn.fr {g : ks_G} {h h' : ks_H} {y : Nat} {L : List (Nat × Nat)} (x : kYarn g h y L) {lo hi : Nat} (f : ks_Fr h h' lo hi) (q : y + 3 ≤ lo ∨ hi ≤ y) : kYarn g h' y L := by
  obtain ⟨E, O, hY, hE, hO, r⟩ := x
  exact ⟨E, O, f.at hY (by omega), f.at hE (by omega), f.at hO (by omega), r⟩
theorem kYarn.ex {g : ks_G} {h h' : ks_H} {y : Nat} {L : List (Nat × Nat)} (x : kYarn g h y L) {lo : Nat} (f : ks_Ex h h' lo) (q : y + 3 ≤ lo) : kYarn g h' y L := by
  obtain ⟨E, O, hY, hE, hO, r⟩ := x
  exact ⟨E, O, (f y (by omega)).trans hY, (f (y + 1) (by omega)).trans hE, (f (y + 2) (by omega)).trans hO, r⟩
set_option maxRecDepth 100000 in
set_option maxHeartbeats 4000000 in
theorem c_Yarn_boundEdgeSet {g : ks_G} {h : ks_H} {y a b : Nat} {L : List (Nat × Nat)} (hyarn : kYarn g h y L) (ha : a < 6) (hb : b < 6) : ks_Met g (yX5_boundEdgeSet, cX5_boundEdgeSet, 9, some .int) 0 0 0 [ks_ref g y, .int (nI a), .int (nI b)] h (ks_Pi (kBes a b L) h) := by
  obtain ⟨E, O, hY, hE, hO, hEO, hn, hbd⟩ := hyarn
  refine ks_intro (by decide) (Nat.le_of_ble_eq_true rfl) (fun κ hκ hRt => ?_)
  refine ks_cv (ls := [(0, ks_ref g y), (1, .int (nI a)), (2, .int (nI b))]) ?_ rfl rfl rfl
  refine ks_iconst hκ 0 (nI 0) dX5_boundEdgeSet_0 kq_i0 ?_
  refine ks_istore_n hκ 1 3 [(3, _), (0, _), (1, _), (2, _)] dX5_boundEdgeSet_1 rfl (by decide) rfl ?_
  refine ks_iconst hκ 2 (nI 0) dX5_boundEdgeSet_2 kq_i0 ?_
  refine ks_istore hκ 3 4 [(4, _), (3, _), (0, _), (1, _), (2, _)] dX5_boundEdgeSet_3 (by decide) rfl ?_
  refine ks_iconst hκ 5 (nI 0) dX5_boundEdgeSet_5 kq_i0 ?_
  refine ks_istore hκ 6 5 [(5, _), (4, _), (3, _), (0, _), (1, _), (2, _)] dX5_boundEdgeSet_6 (by decide) rfl ?_
  refine ks_iconst hκ 8 (nI 0) dX5_boundEdgeSet_8 kq_i0 ?_
  refine ks_istore hκ 9 6 [(6, _), (5, _), (4, _), (3, _), (0, _), (1, _), (2, _)] dX5_boundEdgeSet_9 (by decide) rfl ?_
  refine ks_iconst hκ 11 (nI 0) dX5_boundEdgeSet_11 kq_i0 ?_
  refine ks_istore hκ 12 7 [(7, _), (6, _), (5, _), (4, _), (3, _), (0, _), (1, _), (2, _)] dX5_boundEdgeSet_12 (by decide) rfl ?_
  have L14 : ∀ (fuel : Nat) (i : Nat) (x0 y0 z0 w0 : Int32) (hi : i ≤ L.length) (hinv : ((L.drop i).foldl (kbS a b) (x0, y0, z0, w0)).2.2.2 = kBes a b L) (hfuel : L.length - i < fuel), ks_K κ g 9 h 0 0 14 [(0, ks_ref g y), (1, .int (nI a)), (2, .int (nI b)), (3, .int x0), (4, .int y0), (5, .int z0), (6, .int w0), (7, .int (nI i))] [] := by
    intro fuel
    induction fuel with
    | zero => intro i x0 y0 z0 w0  hi hinv hfuel; exact absurd hfuel (Nat.not_lt_zero _)
    | succ fuel ih =>
      intro i x0 y0 z0 w0  hi hinv hfuel
      refine ks_iload hκ 14 7 dX5_boundEdgeSet_14 rfl ?_
      refine ks_aload_n hκ 16 0 dX5_boundEdgeSet_16 rfl ?_
      refine ks_get hκ 17 dX5_boundEdgeSet_17 kf_X5_18 hY rfl ?_
      refine ks_icmp_ge hκ 20 137 dX5_boundEdgeSet_20 rfl (fun c20 => ?_) (fun c20 => ?_)
      · skip
        have c20 := (nI_leI (by omega) (by omega)).mp c20
        refine ks_iload hκ 137 6 dX5_boundEdgeSet_137 rfl ?_
        refine ks_iret hκ 139 hRt dX5_boundEdgeSet_139 (by decide) (by decide) rfl ?_
        exact ⟨by rw [← hinv, kdropN c20]; rfl, rfl⟩
      · skip
        have c20 := mt (nI_leI (by omega) (by omega)).mpr c20
        obtain ⟨⟨e1, o1⟩, hL1⟩ := kget (L := L) (i := i) (by omega)
        obtain ⟨hE1, hO1⟩ := hEO i e1 o1 hL1
        obtain ⟨hb1, hb2⟩ := hbd _ (List.mem_of_getElem? hL1)
        simp only at hb1 hb2
        rw [kdrop hL1] at hinv
        refine ks_iconst hκ 23 (nI 1) dX5_boundEdgeSet_23 kq_i1 ?_
        refine ks_aload_n hκ 24 0 dX5_boundEdgeSet_24 rfl ?_
        refine ks_get hκ 25 dX5_boundEdgeSet_25 kf_X5_9 hY rfl ?_
        refine ks_iload hκ 28 7 dX5_boundEdgeSet_28 rfl ?_
        refine ks_iald hκ 30 (i) dX5_boundEdgeSet_30 hE rfl (by omega) (by decide) ?_
        refine ks_top (nI e1) hE1 ?_
        refine ks_ishl hκ 31 dX5_boundEdgeSet_31 ?_
        refine ks_istore hκ 32 8 [(8, _), (0, _), (1, _), (2, _), (3, _), (4, _), (5, _), (6, _), (7, _)] dX5_boundEdgeSet_32 (by decide) rfl ?_
        refine ks_aload_n hκ 34 1 dX5_boundEdgeSet_34 rfl ?_
        refine ks_get hκ 35 dX5_boundEdgeSet_35 kf_X5_15 hY rfl ?_
        refine ks_iload hκ 38 8 dX5_boundEdgeSet_38 rfl ?_
        refine ks_iald hκ 40 (i) dX5_boundEdgeSet_40 hO rfl (by omega) (by decide) ?_
        refine ks_top (nI o1) hO1 ?_
        refine ks_iload_n hκ 41 2 dX5_boundEdgeSet_41 rfl ?_
        refine ks_icmp_ne hκ 42 85 dX5_boundEdgeSet_42 rfl (fun c42 => ?_) (fun c42 => ?_)
        · skip
          have c42 := mt (nI_eq (by omega) (by omega)).mpr c42
          refine ks_aload_n hκ 85 1 dX5_boundEdgeSet_85 rfl ?_
          refine ks_get hκ 86 dX5_boundEdgeSet_86 kf_X5_15 hY rfl ?_
          refine ks_iload hκ 89 8 dX5_boundEdgeSet_89 rfl ?_
          refine ks_iald hκ 91 (i) dX5_boundEdgeSet_91 hO rfl (by omega) (by decide) ?_
          refine ks_top (nI o1) hO1 ?_
          refine ks_iload_n hκ 92 3 dX5_boundEdgeSet_92 rfl ?_
          refine ks_icmp_ne hκ 93 131 dX5_boundEdgeSet_93 rfl (fun c93 => ?_) (fun c93 => ?_)
          · skip
            have c93 := mt (nI_eq (by omega) (by omega)).mpr c93
            refine ks_iinc hκ 131 7 8 (nI (i + 1)) [(7, _), (8, _), (0, _), (1, _), (2, _), (3, _), (4, _), (5, _), (6, _)] dX5_boundEdgeSet_131 rfl (ks_inc1 _) (by decide) rfl ?_
            refine ks_goto hκ 134 14 dX5_boundEdgeSet_134 rfl ?_
            refine ks_pick [2, 3, 4, 5, 6, 7, 8, 0] [(0, _), (1, _), (2, _), (3, _), (4, _), (5, _), (6, _), (7, _)] rfl ?_
            exact ks_cv (ih (i + 1) _ _ _ _  (by omega) (by rw [List.foldl_cons] at hinv; first | (rw [kbS_1 c42] at hinv; exact hinv) | (rw [kbS_2 c42 c93] at hinv; exact hinv) | (rw [kbS_3 c42 c93] at hinv; exact hinv)) (by omega)) rfl rfl rfl
          · skip
            have c93 := (nI_eq (by omega) (by omega)).mp c93
            refine ks_iload hκ 96 7 dX5_boundEdgeSet_96 rfl ?_
            refine ks_iload hκ 98 0 dX5_boundEdgeSet_98 rfl ?_
            refine ks_iload_n hκ 100 4 dX5_boundEdgeSet_100 rfl ?_
            refine ks_iand hκ 101 dX5_boundEdgeSet_101 ?_
            refine ks_iload hκ 102 6 dX5_boundEdgeSet_102 rfl ?_
            refine ks_iand hκ 104 dX5_boundEdgeSet_104 ?_
            refine ks_ior hκ 105 dX5_boundEdgeSet_105 ?_
            refine ks_istore hκ 106 6 [(6, _), (8, _), (0, _), (1, _), (2, _), (3, _), (4, _), (5, _), (7, _)] dX5_boundEdgeSet_106 (by decide) rfl ?_
            refine ks_iload hκ 108 7 dX5_boundEdgeSet_108 rfl ?_
            refine ks_iload hκ 110 1 dX5_boundEdgeSet_110 rfl ?_
            refine ks_iload_n hκ 112 5 dX5_boundEdgeSet_112 rfl ?_
            refine ks_iand hκ 113 dX5_boundEdgeSet_113 ?_
            refine ks_ior hκ 114 dX5_boundEdgeSet_114 ?_
            refine ks_istore hκ 115 5 [(5, _), (6, _), (8, _), (0, _), (1, _), (2, _), (3, _), (4, _), (7, _)] dX5_boundEdgeSet_115 (by decide) rfl ?_
            refine ks_iload_n hκ 117 6 dX5_boundEdgeSet_117 rfl ?_
            refine ks_iload hκ 118 2 dX5_boundEdgeSet_118 rfl ?_
            refine ks_iconst hκ 120 (-1) dX5_boundEdgeSet_120 kq_im1 ?_
            refine ks_ixor hκ 121 dX5_boundEdgeSet_121 ?_
            refine ks_iand hκ 122 dX5_boundEdgeSet_122 ?_
            refine ks_istore_n hκ 123 3 [(3, _), (5, _), (6, _), (8, _), (0, _), (1, _), (2, _), (4, _), (7, _)] dX5_boundEdgeSet_123 rfl (by decide) rfl ?_
            refine ks_iload hκ 124 7 dX5_boundEdgeSet_124 rfl ?_
            refine ks_iload hκ 126 3 dX5_boundEdgeSet_126 rfl ?_
            refine ks_ior hκ 128 dX5_boundEdgeSet_128 ?_
            refine ks_istore hκ 129 4 [(4, _), (3, _), (5, _), (6, _), (8, _), (0, _), (1, _), (2, _), (7, _)] dX5_boundEdgeSet_129 (by decide) rfl ?_
            refine ks_iinc hκ 131 7 8 (nI (i + 1)) [(7, _), (4, _), (3, _), (5, _), (6, _), (8, _), (0, _), (1, _), (2, _)] dX5_boundEdgeSet_131 rfl (ks_inc1 _) (by decide) rfl ?_
            refine ks_goto hκ 134 14 dX5_boundEdgeSet_134 rfl ?_
            refine ks_pick [6, 7, 8, 2, 1, 3, 4, 0] [(0, _), (1, _), (2, _), (3, _), (4, _), (5, _), (6, _), (7, _)] rfl ?_
            exact ks_cv (ih (i + 1) _ _ _ _  (by omega) (by rw [List.foldl_cons] at hinv; first | (rw [kbS_1 c42] at hinv; exact hinv) | (rw [kbS_2 c42 c93] at hinv; exact hinv) | (rw [kbS_3 c42 c93] at hinv; exact hinv)) (by omega)) rfl rfl rfl
        · skip
          have c42 := (nI_eq (by omega) (by omega)).mp c42
          refine ks_iload hκ 45 7 dX5_boundEdgeSet_45 rfl ?_
          refine ks_iload hκ 47 0 dX5_boundEdgeSet_47 rfl ?_
          refine ks_iload hκ 49 5 dX5_boundEdgeSet_49 rfl ?_
          refine ks_iand hκ 51 dX5_boundEdgeSet_51 ?_
          refine ks_iload hκ 52 6 dX5_boundEdgeSet_52 rfl ?_
          refine ks_iand hκ 54 dX5_boundEdgeSet_54 ?_
          refine ks_ior hκ 55 dX5_boundEdgeSet_55 ?_
          refine ks_istore hκ 56 6 [(6, _), (8, _), (0, _), (1, _), (2, _), (3, _), (4, _), (5, _), (7, _)] dX5_boundEdgeSet_56 (by decide) rfl ?_
          refine ks_iload hκ 58 7 dX5_boundEdgeSet_58 rfl ?_
          refine ks_iload hκ 60 1 dX5_boundEdgeSet_60 rfl ?_
          refine ks_iload hκ 62 6 dX5_boundEdgeSet_62 rfl ?_
          refine ks_iand hκ 64 dX5_boundEdgeSet_64 ?_
          refine ks_ior hκ 65 dX5_boundEdgeSet_65 ?_
          refine ks_istore hκ 66 5 [(5, _), (6, _), (8, _), (0, _), (1, _), (2, _), (3, _), (4, _), (7, _)] dX5_boundEdgeSet_66 (by decide) rfl ?_
          refine ks_iload hκ 68 7 dX5_boundEdgeSet_68 rfl ?_
          refine ks_iload hκ 70 2 dX5_boundEdgeSet_70 rfl ?_
          refine ks_iconst hκ 72 (-1) dX5_boundEdgeSet_72 kq_im1 ?_
          refine ks_ixor hκ 73 dX5_boundEdgeSet_73 ?_
          refine ks_iand hκ 74 dX5_boundEdgeSet_74 ?_
          refine ks_istore hκ 75 4 [(4, _), (5, _), (6, _), (8, _), (0, _), (1, _), (2, _), (3, _), (7, _)] dX5_boundEdgeSet_75 (by decide) rfl ?_
          refine ks_iload_n hκ 77 7 dX5_boundEdgeSet_77 rfl ?_
          refine ks_iload hκ 78 3 dX5_boundEdgeSet_78 rfl ?_
          refine ks_ior hκ 80 dX5_boundEdgeSet_80 ?_
          refine ks_istore_n hκ 81 3 [(3, _), (4, _), (5, _), (6, _), (8, _), (0, _), (1, _), (2, _), (7, _)] dX5_boundEdgeSet_81 rfl (by decide) rfl ?_
          refine ks_goto hκ 82 131 dX5_boundEdgeSet_82 rfl ?_
          refine ks_iinc hκ 131 7 8 (nI (i + 1)) [(7, _), (3, _), (4, _), (5, _), (6, _), (8, _), (0, _), (1, _), (2, _)] dX5_boundEdgeSet_131 rfl (ks_inc1 _) (by decide) rfl ?_
          refine ks_goto hκ 134 14 dX5_boundEdgeSet_134 rfl ?_
          refine ks_pick [6, 7, 8, 1, 2, 3, 4, 0] [(0, _), (1, _), (2, _), (3, _), (4, _), (5, _), (6, _), (7, _)] rfl ?_
          exact ks_cv (ih (i + 1) _ _ _ _  (by omega) (by rw [List.foldl_cons] at hinv; first | (rw [kbS_1 c42] at hinv; exact hinv) | (rw [kbS_2 c42 c93] at hinv; exact hinv) | (rw [kbS_3 c42 c93] at hinv; exact hinv)) (by omega)) rfl rfl rfl
  refine ks_pick [5, 6, 7, 4, 3, 2, 1, 0] [(0, _), (1, _), (2, _), (3, _), (4, _), (5, _), (6, _), (7, _)] rfl ?_
  exact ks_cv (L14 _ 0 _ _ _ _  (Nat.zero_le _) rfl (Nat.lt_succ_self _)) rfl rfl rfl
set_option maxRecDepth 100000 in
set_option maxHeartbeats 4000000 in
theorem c_Yarn_mostKept {g : ks_G} {h : ks_H} {y e a b : Nat} {L : List (Nat × Nat)} (hyarn : kYarn g h y L) (he : e < 15) (ha : a < 6) (hb : b < 6) : ks_Met g (yX5_mostKept, cX5_mostKept, 7, some .int) 1 0 0 [ks_ref g y, .int (nI e), .int (nI a), .int (nI b)] h (ks_Pi (nI (kKept e a b L)) h) := by
  obtain ⟨E, O, hY, hE, hO, hEO, hn, hbd⟩ := hyarn
  refine ks_intro (by decide) (Nat.le_of_ble_eq_true rfl) (fun κ hκ hRt => ?_)
  refine ks_cv (ls := [(0, ks_ref g y), (1, .int (nI e)), (2, .int (nI a)), (3, .int (nI b))]) ?_ rfl rfl rfl
  refine ks_iconst hκ 0 (nI 0) dX5_mostKept_0 kq_i0 ?_
  refine ks_istore hκ 1 4 [(4, _), (0, _), (1, _), (2, _), (3, _)] dX5_mostKept_1 (by decide) rfl ?_
  refine ks_iconst hκ 3 (nI 0) dX5_mostKept_3 kq_i0 ?_
  refine ks_istore hκ 4 5 [(5, _), (4, _), (0, _), (1, _), (2, _), (3, _)] dX5_mostKept_4 (by decide) rfl ?_
  refine ks_iconst hκ 6 (nI 0) dX5_mostKept_6 kq_i0 ?_
  refine ks_istore hκ 7 6 [(6, _), (5, _), (4, _), (0, _), (1, _), (2, _), (3, _)] dX5_mostKept_7 (by decide) rfl ?_
  have L9 : ∀ (fuel : Nat) (i la wu : Nat) (hi : i ≤ L.length) (hla : la ≤ i) (hwu : wu ≤ i) (hinv : max ((L.drop i).foldl (kKeptS e a b) (la, wu)).2 ((L.drop i).foldl (kKeptS e a b) (la, wu)).1 = kKept e a b L) (hfuel : L.length - i < fuel), ks_K κ g 7 h 0 0 9 [(0, ks_ref g y), (1, .int (nI e)), (2, .int (nI a)), (3, .int (nI b)), (4, .int (nI la)), (5, .int (nI wu)), (6, .int (nI i))] [] := by
    intro fuel
    induction fuel with
    | zero => intro i la wu  hi hla hwu hinv hfuel; exact absurd hfuel (Nat.not_lt_zero _)
    | succ fuel ih =>
      intro i la wu  hi hla hwu hinv hfuel
      refine ks_iload hκ 9 6 dX5_mostKept_9 rfl ?_
      refine ks_aload_n hκ 11 0 dX5_mostKept_11 rfl ?_
      refine ks_get hκ 12 dX5_mostKept_12 kf_X5_18 hY rfl ?_
      refine ks_icmp_ge hκ 15 77 dX5_mostKept_15 rfl (fun c15 => ?_) (fun c15 => ?_)
      · skip
        have c15 := (nI_leI (by omega) (by omega)).mp c15
        refine ks_iload hκ 77 5 dX5_mostKept_77 rfl ?_
        refine ks_iload hκ 79 4 dX5_mostKept_79 rfl ?_
        refine ks_maxN hκ 81 dX5_mostKept_81 kj_X5_32 (by omega) (by omega) (by decide) (by decide) (by decide) (Nat.le_of_ble_eq_true rfl) ?_
        refine ks_iret hκ 84 hRt dX5_mostKept_84 (by decide) (by decide) rfl ?_
        exact ⟨by rw [← hinv, kdropN c15]; rfl, rfl⟩
      · skip
        have c15 := mt (nI_leI (by omega) (by omega)).mpr c15
        obtain ⟨⟨e1, o1⟩, hL1⟩ := kget (L := L) (i := i) (by omega)
        obtain ⟨hE1, hO1⟩ := hEO i e1 o1 hL1
        obtain ⟨hb1, hb2⟩ := hbd _ (List.mem_of_getElem? hL1)
        simp only at hb1 hb2
        rw [kdrop hL1] at hinv
        refine ks_aload_n hκ 18 0 dX5_mostKept_18 rfl ?_
        refine ks_get hκ 19 dX5_mostKept_19 kf_X5_9 hY rfl ?_
        refine ks_iload hκ 22 6 dX5_mostKept_22 rfl ?_
        refine ks_iald hκ 24 (i) dX5_mostKept_24 hE rfl (by omega) (by decide) ?_
        refine ks_top (nI e1) hE1 ?_
        refine ks_iload_n hκ 25 1 dX5_mostKept_25 rfl ?_
        refine ks_icmp_eq hκ 26 32 dX5_mostKept_26 rfl (fun c26 => ?_) (fun c26 => ?_)
        · skip
          have c26 := (nI_eq (by omega) (by omega)).mp c26
          refine ks_aload_n hκ 32 0 dX5_mostKept_32 rfl ?_
          refine ks_get hκ 33 dX5_mostKept_33 kf_X5_15 hY rfl ?_
          refine ks_iload hκ 36 6 dX5_mostKept_36 rfl ?_
          refine ks_iald hκ 38 (i) dX5_mostKept_38 hO rfl (by omega) (by decide) ?_
          refine ks_top (nI o1) hO1 ?_
          refine ks_iload_n hκ 39 2 dX5_mostKept_39 rfl ?_
          refine ks_icmp_ne hκ 40 49 dX5_mostKept_40 rfl (fun c40 => ?_) (fun c40 => ?_)
          · skip
            have c40 := mt (nI_eq (by omega) (by omega)).mpr c40
            refine ks_aload_n hκ 49 0 dX5_mostKept_49 rfl ?_
            refine ks_get hκ 50 dX5_mostKept_50 kf_X5_15 hY rfl ?_
            refine ks_iload hκ 53 6 dX5_mostKept_53 rfl ?_
            refine ks_iald hκ 55 (i) dX5_mostKept_55 hO rfl (by omega) (by decide) ?_
            refine ks_top (nI o1) hO1 ?_
            refine ks_iload_n hκ 56 3 dX5_mostKept_56 rfl ?_
            refine ks_icmp_ne hκ 57 71 dX5_mostKept_57 rfl (fun c57 => ?_) (fun c57 => ?_)
            · skip
              have c57 := mt (nI_eq (by omega) (by omega)).mpr c57
              refine ks_iinc hκ 71 6 6 (nI (i + 1)) [(6, _), (0, _), (1, _), (2, _), (3, _), (4, _), (5, _)] dX5_mostKept_71 rfl (ks_inc1 _) (by decide) rfl ?_
              refine ks_goto hκ 74 9 dX5_mostKept_74 rfl ?_
              refine ks_pick [1, 2, 3, 4, 5, 6, 0] [(0, _), (1, _), (2, _), (3, _), (4, _), (5, _), (6, _)] rfl ?_
              exact ks_cv (ih (i + 1) _ _  (by omega) (by omega) (by omega) (by rw [List.foldl_cons] at hinv; first | (rw [kKeptS_0 c26] at hinv; exact hinv) | (rw [kKeptS_1 c26 c40] at hinv; exact hinv) | (rw [kKeptS_2 c26 c40 c57] at hinv; exact hinv) | (rw [kKeptS_3 c26 c40 c57] at hinv; exact hinv)) (by omega)) rfl rfl rfl
            · skip
              have c57 := (nI_eq (by omega) (by omega)).mp c57
              refine ks_iload hκ 60 5 dX5_mostKept_60 rfl ?_
              refine ks_iload hκ 62 4 dX5_mostKept_62 rfl ?_
              refine ks_maxN hκ 64 dX5_mostKept_64 kj_X5_32 (by omega) (by omega) (by decide) (by decide) (by decide) (Nat.le_of_ble_eq_true rfl) ?_
              refine ks_iconst hκ 67 (nI 1) dX5_mostKept_67 kq_i1 ?_
              refine ks_iaddN hκ 68 dX5_mostKept_68 ?_
              refine ks_istore hκ 69 5 [(5, _), (0, _), (1, _), (2, _), (3, _), (4, _), (6, _)] dX5_mostKept_69 (by decide) rfl ?_
              refine ks_iinc hκ 71 6 6 (nI (i + 1)) [(6, _), (5, _), (0, _), (1, _), (2, _), (3, _), (4, _)] dX5_mostKept_71 rfl (ks_inc1 _) (by decide) rfl ?_
              refine ks_goto hκ 74 9 dX5_mostKept_74 rfl ?_
              refine ks_pick [2, 3, 4, 5, 6, 1, 0] [(0, _), (1, _), (2, _), (3, _), (4, _), (5, _), (6, _)] rfl ?_
              exact ks_cv (ih (i + 1) _ _  (by omega) (by omega) (by omega) (by rw [List.foldl_cons] at hinv; first | (rw [kKeptS_0 c26] at hinv; exact hinv) | (rw [kKeptS_1 c26 c40] at hinv; exact hinv) | (rw [kKeptS_2 c26 c40 c57] at hinv; exact hinv) | (rw [kKeptS_3 c26 c40 c57] at hinv; exact hinv)) (by omega)) rfl rfl rfl
          · skip
            have c40 := (nI_eq (by omega) (by omega)).mp c40
            refine ks_iinc hκ 43 4 4 (nI (la + 1)) [(4, _), (0, _), (1, _), (2, _), (3, _), (5, _), (6, _)] dX5_mostKept_43 rfl (ks_inc1 _) (by decide) rfl ?_
            refine ks_goto hκ 46 71 dX5_mostKept_46 rfl ?_
            refine ks_iinc hκ 71 6 6 (nI (i + 1)) [(6, _), (4, _), (0, _), (1, _), (2, _), (3, _), (5, _)] dX5_mostKept_71 rfl (ks_inc1 _) (by decide) rfl ?_
            refine ks_goto hκ 74 9 dX5_mostKept_74 rfl ?_
            refine ks_pick [2, 3, 4, 5, 1, 6, 0] [(0, _), (1, _), (2, _), (3, _), (4, _), (5, _), (6, _)] rfl ?_
            exact ks_cv (ih (i + 1) _ _  (by omega) (by omega) (by omega) (by rw [List.foldl_cons] at hinv; first | (rw [kKeptS_0 c26] at hinv; exact hinv) | (rw [kKeptS_1 c26 c40] at hinv; exact hinv) | (rw [kKeptS_2 c26 c40 c57] at hinv; exact hinv) | (rw [kKeptS_3 c26 c40 c57] at hinv; exact hinv)) (by omega)) rfl rfl rfl
        · skip
          have c26 := mt (nI_eq (by omega) (by omega)).mpr c26
          refine ks_goto hκ 29 71 dX5_mostKept_29 rfl ?_
          refine ks_iinc hκ 71 6 6 (nI (i + 1)) [(6, _), (0, _), (1, _), (2, _), (3, _), (4, _), (5, _)] dX5_mostKept_71 rfl (ks_inc1 _) (by decide) rfl ?_
          refine ks_goto hκ 74 9 dX5_mostKept_74 rfl ?_
          refine ks_pick [1, 2, 3, 4, 5, 6, 0] [(0, _), (1, _), (2, _), (3, _), (4, _), (5, _), (6, _)] rfl ?_
          exact ks_cv (ih (i + 1) _ _  (by omega) (by omega) (by omega) (by rw [List.foldl_cons] at hinv; first | (rw [kKeptS_0 c26] at hinv; exact hinv) | (rw [kKeptS_1 c26 c40] at hinv; exact hinv) | (rw [kKeptS_2 c26 c40 c57] at hinv; exact hinv) | (rw [kKeptS_3 c26 c40 c57] at hinv; exact hinv)) (by omega)) rfl rfl rfl
  refine ks_pick [3, 4, 5, 6, 2, 1, 0] [(0, _), (1, _), (2, _), (3, _), (4, _), (5, _), (6, _)] rfl ?_
  exact ks_cv (L9 _ 0 0 0  (Nat.zero_le _) (Nat.zero_le _) (Nat.zero_le _) rfl (Nat.lt_succ_self _)) rfl rfl rfl
set_option maxRecDepth 100000 in
set_option maxHeartbeats 4000000 in
theorem c_Yarn_fewestGone {g : ks_G} {h : ks_H} {y e a b : Nat} {L : List (Nat × Nat)} (hyarn : kYarn g h y L) (he : e < 15) (ha : a < 6) (hb : b < 6) : ks_Met g (yX5_fewestGone, cX5_fewestGone, 6, some .int) 2 0 0 [ks_ref g y, .int (nI e), .int (nI a), .int (nI b)] h (ks_Pi (kGone e a b L) h) := by
  have hyarn0 := hyarn
  obtain ⟨E, O, hY, hE, hO, hEO, hn, hbd⟩ := hyarn
  refine ks_intro (by decide) (Nat.le_of_ble_eq_true rfl) (fun κ hκ hRt => ?_)
  refine ks_cv (ls := [(0, ks_ref g y), (1, .int (nI e)), (2, .int (nI a)), (3, .int (nI b))]) ?_ rfl rfl rfl
  refine ks_iconst hκ 0 (nI 0) dX5_fewestGone_0 kq_i0 ?_
  refine ks_istore hκ 1 4 [(4, _), (0, _), (1, _), (2, _), (3, _)] dX5_fewestGone_1 (by decide) rfl ?_
  refine ks_iconst hκ 3 (nI 0) dX5_fewestGone_3 kq_i0 ?_
  refine ks_istore hκ 4 5 [(5, _), (4, _), (0, _), (1, _), (2, _), (3, _)] dX5_fewestGone_4 (by decide) rfl ?_
  have L6 : ∀ (fuel : Nat) (i acc : Nat) (hi : i ≤ L.length) (hinv : (L.drop i).foldl (kBothS e a b) acc = kBoth e a b L) (hfuel : L.length - i < fuel), ks_K κ g 6 h 0 0 6 [(0, ks_ref g y), (1, .int (nI e)), (2, .int (nI a)), (3, .int (nI b)), (4, .int (nI acc)), (5, .int (nI i))] [] := by
    intro fuel
    induction fuel with
    | zero => intro i acc  hi hinv hfuel; exact absurd hfuel (Nat.not_lt_zero _)
    | succ fuel ih =>
      intro i acc  hi hinv hfuel
      refine ks_iload hκ 6 5 dX5_fewestGone_6 rfl ?_
      refine ks_aload_n hκ 8 0 dX5_fewestGone_8 rfl ?_
      refine ks_get hκ 9 dX5_fewestGone_9 kf_X5_18 hY rfl ?_
      refine ks_icmp_ge hκ 12 57 dX5_fewestGone_12 rfl (fun c12 => ?_) (fun c12 => ?_)
      · skip
        have c12 := (nI_leI (by omega) (by omega)).mp c12
        have hk1 := kKept_le e a b L
        have hk2 := kKept_le e b a L
        refine ks_iload hκ 57 4 dX5_fewestGone_57 rfl ?_
        refine ks_aload_n hκ 59 0 dX5_fewestGone_59 rfl ?_
        refine ks_iload_n hκ 60 1 dX5_fewestGone_60 rfl ?_
        refine ks_iload_n hκ 61 2 dX5_fewestGone_61 rfl ?_
        refine ks_iload_n hκ 62 3 dX5_fewestGone_62 rfl ?_
        refine ks_pureV3 hκ 63 dX5_fewestGone_63 kc_X5_28 (c_Yarn_mostKept hyarn0 he ha hb) hY rfl (by decide) (Nat.le_of_ble_eq_true rfl) (by decide) (by decide) ?_
        refine ks_aload_n hκ 66 0 dX5_fewestGone_66 rfl ?_
        refine ks_iload_n hκ 67 1 dX5_fewestGone_67 rfl ?_
        refine ks_iload_n hκ 68 3 dX5_fewestGone_68 rfl ?_
        refine ks_iload_n hκ 69 2 dX5_fewestGone_69 rfl ?_
        refine ks_pureV3 hκ 70 dX5_fewestGone_70 kc_X5_28 (c_Yarn_mostKept hyarn0 he hb ha) hY rfl (by decide) (Nat.le_of_ble_eq_true rfl) (by decide) (by decide) ?_
        refine ks_maxN hκ 73 dX5_fewestGone_73 kj_X5_32 (by omega) (by omega) (by decide) (by decide) (by decide) (Nat.le_of_ble_eq_true rfl) ?_
        refine ks_isub hκ 76 dX5_fewestGone_76 ?_
        refine ks_iret hκ 77 hRt dX5_fewestGone_77 (by decide) (by decide) rfl ?_
        refine ⟨?_, rfl⟩
        rw [kdropN c12] at hinv
        have q : acc = kBoth e a b L := hinv
        rw [q]; rfl
      · skip
        have c12 := mt (nI_leI (by omega) (by omega)).mpr c12
        obtain ⟨⟨e1, o1⟩, hL1⟩ := kget (L := L) (i := i) (by omega)
        obtain ⟨hE1, hO1⟩ := hEO i e1 o1 hL1
        obtain ⟨hb1, hb2⟩ := hbd _ (List.mem_of_getElem? hL1)
        simp only at hb1 hb2
        rw [kdrop hL1] at hinv
        refine ks_aload_n hκ 15 0 dX5_fewestGone_15 rfl ?_
        refine ks_get hκ 16 dX5_fewestGone_16 kf_X5_9 hY rfl ?_
        refine ks_iload hκ 19 5 dX5_fewestGone_19 rfl ?_
        refine ks_iald hκ 21 (i) dX5_fewestGone_21 hE rfl (by omega) (by decide) ?_
        refine ks_top (nI e1) hE1 ?_
        refine ks_iload_n hκ 22 1 dX5_fewestGone_22 rfl ?_
        refine ks_icmp_ne hκ 23 51 dX5_fewestGone_23 rfl (fun c23 => ?_) (fun c23 => ?_)
        · skip
          have c23 := mt (nI_eq (by omega) (by omega)).mpr c23
          refine ks_iinc hκ 51 5 5 (nI (i + 1)) [(5, _), (0, _), (1, _), (2, _), (3, _), (4, _)] dX5_fewestGone_51 rfl (ks_inc1 _) (by decide) rfl ?_
          refine ks_goto hκ 54 6 dX5_fewestGone_54 rfl ?_
          refine ks_pick [1, 2, 3, 4, 5, 0] [(0, _), (1, _), (2, _), (3, _), (4, _), (5, _)] rfl ?_
          exact ks_cv (ih (i + 1) _  (by omega) (by clear ih; revert hinv; simp [kBothS, *]) (by omega)) rfl rfl rfl
        · skip
          have c23 := (nI_eq (by omega) (by omega)).mp c23
          refine ks_aload_n hκ 26 0 dX5_fewestGone_26 rfl ?_
          refine ks_get hκ 27 dX5_fewestGone_27 kf_X5_15 hY rfl ?_
          refine ks_iload hκ 30 5 dX5_fewestGone_30 rfl ?_
          refine ks_iald hκ 32 (i) dX5_fewestGone_32 hO rfl (by omega) (by decide) ?_
          refine ks_top (nI o1) hO1 ?_
          refine ks_iload_n hκ 33 2 dX5_fewestGone_33 rfl ?_
          refine ks_icmp_eq hκ 34 48 dX5_fewestGone_34 rfl (fun c34 => ?_) (fun c34 => ?_)
          · skip
            have c34 := (nI_eq (by omega) (by omega)).mp c34
            refine ks_iinc hκ 48 4 4 (nI (acc + 1)) [(4, _), (0, _), (1, _), (2, _), (3, _), (5, _)] dX5_fewestGone_48 rfl (ks_inc1 _) (by decide) rfl ?_
            refine ks_iinc hκ 51 5 5 (nI (i + 1)) [(5, _), (4, _), (0, _), (1, _), (2, _), (3, _)] dX5_fewestGone_51 rfl (ks_inc1 _) (by decide) rfl ?_
            refine ks_goto hκ 54 6 dX5_fewestGone_54 rfl ?_
            refine ks_pick [2, 3, 4, 5, 1, 0] [(0, _), (1, _), (2, _), (3, _), (4, _), (5, _)] rfl ?_
            exact ks_cv (ih (i + 1) _  (by omega) (by clear ih; revert hinv; simp [kBothS, *]) (by omega)) rfl rfl rfl
          · skip
            have c34 := mt (nI_eq (by omega) (by omega)).mpr c34
            refine ks_aload_n hκ 37 0 dX5_fewestGone_37 rfl ?_
            refine ks_get hκ 38 dX5_fewestGone_38 kf_X5_15 hY rfl ?_
            refine ks_iload hκ 41 5 dX5_fewestGone_41 rfl ?_
            refine ks_iald hκ 43 (i) dX5_fewestGone_43 hO rfl (by omega) (by decide) ?_
            refine ks_top (nI o1) hO1 ?_
            refine ks_iload_n hκ 44 3 dX5_fewestGone_44 rfl ?_
            refine ks_icmp_ne hκ 45 51 dX5_fewestGone_45 rfl (fun c45 => ?_) (fun c45 => ?_)
            · skip
              have c45 := mt (nI_eq (by omega) (by omega)).mpr c45
              refine ks_iinc hκ 51 5 5 (nI (i + 1)) [(5, _), (0, _), (1, _), (2, _), (3, _), (4, _)] dX5_fewestGone_51 rfl (ks_inc1 _) (by decide) rfl ?_
              refine ks_goto hκ 54 6 dX5_fewestGone_54 rfl ?_
              refine ks_pick [1, 2, 3, 4, 5, 0] [(0, _), (1, _), (2, _), (3, _), (4, _), (5, _)] rfl ?_
              exact ks_cv (ih (i + 1) _  (by omega) (by clear ih; revert hinv; simp [kBothS, *]) (by omega)) rfl rfl rfl
            · skip
              have c45 := (nI_eq (by omega) (by omega)).mp c45
              refine ks_iinc hκ 48 4 4 (nI (acc + 1)) [(4, _), (0, _), (1, _), (2, _), (3, _), (5, _)] dX5_fewestGone_48 rfl (ks_inc1 _) (by decide) rfl ?_
              refine ks_iinc hκ 51 5 5 (nI (i + 1)) [(5, _), (4, _), (0, _), (1, _), (2, _), (3, _)] dX5_fewestGone_51 rfl (ks_inc1 _) (by decide) rfl ?_
              refine ks_goto hκ 54 6 dX5_fewestGone_54 rfl ?_
              refine ks_pick [2, 3, 4, 5, 1, 0] [(0, _), (1, _), (2, _), (3, _), (4, _), (5, _)] rfl ?_
              exact ks_cv (ih (i + 1) _  (by omega) (by clear ih; revert hinv; simp [kBothS, *]) (by omega)) rfl rfl rfl
  refine ks_pick [2, 3, 4, 5, 1, 0] [(0, _), (1, _), (2, _), (3, _), (4, _), (5, _)] rfl ?_
  exact ks_cv (L6 _ 0 0  (Nat.zero_le _) rfl (Nat.lt_succ_self _)) rfl rfl rfl
set_option maxRecDepth 100000 in
set_option maxHeartbeats 4000000 in
theorem c_Yarn_lay {g : ks_G} {h : ks_H} {y e o : Nat} {L : List (Nat × Nat)} (hyarn : kYarn g h y L) (he : e < 15) (ho : o < 6) : ks_Met g (yX5_lay, cX5_lay, 3, none) 0 0 0 [ks_ref g y, .int (nI e), .int (nI o)] h (ks_Pv (fun h' => kYarn g h' y (kLay L (e, o)) ∧ ks_Fr h h' y (y + 3))) := by
  obtain ⟨E, O, hY, hE, hO, hEO, hn, hbd⟩ := hyarn
  refine ks_intro (by decide) (Nat.le_of_ble_eq_true rfl) (fun κ hκ hRt => ?_)
  refine ks_cv (ls := [(0, ks_ref g y), (1, .int (nI e)), (2, .int (nI o))]) ?_ rfl rfl rfl
  have hF : ks_Fr h h y (y + 3) := ks_Fr.rf
  refine ks_aload_n hκ 0 0 dX5_lay_0 rfl ?_
  refine ks_get hκ 1 dX5_lay_1 kf_X5_18 hY rfl ?_
  refine ks_sipush hκ 4 (nI 240) dX5_lay_4 kq_s240 ?_
  refine ks_icmp_lt hκ 7 11 dX5_lay_7 rfl (fun c7 => ?_) (fun c7 => ?_)
  · skip
    have c7 := (nI_ltI (by omega) (by omega)).mp c7
    refine ks_aload_n hκ 11 0 dX5_lay_11 rfl ?_
    refine ks_get hκ 12 dX5_lay_12 kf_X5_9 hY rfl ?_
    refine ks_aload_n hκ 15 0 dX5_lay_15 rfl ?_
    refine ks_get hκ 16 dX5_lay_16 kf_X5_18 hY rfl ?_
    refine ks_iload_n hκ 19 1 dX5_lay_19 rfl ?_
    refine ks_iast hκ 20 (L.length) dX5_lay_20 hE rfl (by omega) (by decide) ?_
    refine ks_gen (fun xh1 exh1 => ?_)
    replace hY := ks_gn exh1 (ks_nb (b := y) (i := 1) (j := 0) rfl) hY
    replace hE := ks_gs exh1 hE
    replace hO := ks_gn exh1 (ks_nb (b := y) (i := 1) (j := 2) rfl) hO
    replace hF := ks_Fr.st hF exh1 (by omega) (by omega)
    clear exh1
    refine ks_aload_n hκ 21 0 dX5_lay_21 rfl ?_
    refine ks_get hκ 22 dX5_lay_22 kf_X5_15 hY rfl ?_
    refine ks_aload_n hκ 25 0 dX5_lay_25 rfl ?_
    refine ks_get hκ 26 dX5_lay_26 kf_X5_18 hY rfl ?_
    refine ks_iload_n hκ 29 2 dX5_lay_29 rfl ?_
    refine ks_iast hκ 30 (L.length) dX5_lay_30 hO rfl (by omega) (by decide) ?_
    refine ks_gen (fun xh2 exh2 => ?_)
    replace hY := ks_gn exh2 (ks_nb (b := y) (i := 2) (j := 0) rfl) hY
    replace hE := ks_gn exh2 (ks_nb (b := y) (i := 2) (j := 1) rfl) hE
    replace hO := ks_gs exh2 hO
    replace hF := ks_Fr.st hF exh2 (by omega) (by omega)
    clear exh2
    refine ks_aload_n hκ 31 0 dX5_lay_31 rfl ?_
    refine ks_dup hκ 32 dX5_lay_32 rfl ?_
    refine ks_get hκ 33 dX5_lay_33 kf_X5_18 hY rfl ?_
    refine ks_iconst hκ 36 (nI 1) dX5_lay_36 kq_i1 ?_
    refine ks_iaddN hκ 37 dX5_lay_37 ?_
    refine ks_putS hκ 38 [_, _, _] dX5_lay_38 kf_X5_18 hY rfl rfl (Nat.le_of_ble_eq_true rfl) rfl ?_
    refine ks_gen (fun xh3 exh3 => ?_)
    replace hY := ks_gs exh3 hY
    replace hE := ks_gn exh3 (ks_nb (b := y) (i := 0) (j := 1) rfl) hE
    replace hO := ks_gn exh3 (ks_nb (b := y) (i := 0) (j := 2) rfl) hO
    replace hF := ks_Fr.st hF exh3 (by omega) (by omega)
    clear exh3
    refine ks_vret hκ 41 hRt dX5_lay_41 (by decide) (by decide) ?_
    refine ⟨rfl, ?_, hF⟩
    rw [show kLay L (e, o) = L ++ [(e, o)] from if_pos c7]
    exact ⟨_, _, by rw [List.length_append]; exact hY, hE, hO, kEO.snoc hEO, by rw [List.length_append]; simp; omega, kbd_snoc hbd he ho⟩
  · skip
    have c7 := mt (nI_ltI (by omega) (by omega)).mpr c7
    refine ks_vret hκ 10 hRt dX5_lay_10 (by decide) (by decide) ?_
    exact ⟨rfl, by rw [kLay, if_neg c7]; exact ⟨E, O, hY, hE, hO, hEO, hn, hbd⟩, hF⟩
set_option maxRecDepth 100000 in
set_option maxHeartbeats 4000000 in
theorem c_Yarn_removeTop {g : ks_G} {h : ks_H} {y e o t : Nat} {L : List (Nat × Nat)} (hyarn : kYarn g h y L) (he : e < 15) (ht : L[t]? = some (e, o)) (hlast : ∀ (k : Nat) (p : Nat × Nat), t < k → L[k]? = some p → p.1 ≠ e) : ks_Met g (yX5_removeTop, cX5_removeTop, 4, none) 0 0 0 [ks_ref g y, .int (nI e)] h (ks_Pv (fun h' => kYarn g h' y (L.eraseIdx t) ∧ ks_Fr h h' y (y + 3))) := by
  obtain ⟨E, O, hY, hE, hO, hEO, hn, hbd⟩ := hyarn
  have htl : t < L.length := (List.getElem?_eq_some_iff.mp ht).1
  refine ks_intro (by decide) (Nat.le_of_ble_eq_true rfl) (fun κ hκ hRt => ?_)
  refine ks_cv (ls := [(0, ks_ref g y), (1, .int (nI e))]) ?_ rfl rfl rfl
  have hF : ks_Fr h h y (y + 3) := ks_Fr.rf
  refine ks_aload_n hκ 0 0 dX5_removeTop_0 rfl ?_
  refine ks_get hκ 1 dX5_removeTop_1 kf_X5_18 hY rfl ?_
  refine ks_iconst hκ 4 (nI 1) dX5_removeTop_4 kq_i1 ?_
  refine ks_isubN hκ 5 dX5_removeTop_5 (by omega) ?_
  refine ks_istore_n hκ 6 2 [(2, _), (0, _), (1, _)] dX5_removeTop_6 rfl (by decide) rfl ?_
  have L7 : ∀ (fuel : Nat) (i : Nat) (hi : i < L.length) (hit : t ≤ i) (hfuel : i < fuel), ks_K κ g 4 h 0 0 7 [(0, ks_ref g y), (1, .int (nI e)), (2, .int (nI i))] [] := by
    intro fuel
    induction fuel with
    | zero => intro i  hi hit hfuel; exact absurd hfuel (Nat.not_lt_zero _)
    | succ fuel ih =>
      intro i  hi hit hfuel
      obtain ⟨⟨e1, o1⟩, hL1⟩ := kget (L := L) (i := i) (by omega)
      obtain ⟨hE1, hO1⟩ := hEO i e1 o1 hL1
      obtain ⟨hb1, hb2⟩ := hbd _ (List.mem_of_getElem? hL1)
      simp only at hb1 hb2
      refine ks_iload_n hκ 7 2 dX5_removeTop_7 rfl ?_
      refine ks_if_lt hκ 8 27 dX5_removeTop_8 rfl (fun c8 => ?_) (fun c8 => ?_)
      · skip
        exact absurd c8 (ks_lt0 (by omega))
      · skip
        refine ks_aload_n hκ 11 0 dX5_removeTop_11 rfl ?_
        refine ks_get hκ 12 dX5_removeTop_12 kf_X5_9 hY rfl ?_
        refine ks_iload_n hκ 15 2 dX5_removeTop_15 rfl ?_
        refine ks_iald hκ 16 (i) dX5_removeTop_16 hE rfl (by omega) (by decide) ?_
        refine ks_top (nI e1) hE1 ?_
        refine ks_iload_n hκ 17 1 dX5_removeTop_17 rfl ?_
        refine ks_icmp_eq hκ 18 27 dX5_removeTop_18 rfl (fun c18 => ?_) (fun c18 => ?_)
        · skip
          have c18 := (nI_eq (by omega) (by omega)).mp c18
          have hie : i = t := by
            rcases Nat.lt_or_ge t i with q | q
            · exact absurd c18 (hlast i _ q hL1)
            · omega
          refine ks_iload_n hκ 27 2 dX5_removeTop_27 rfl ?_
          refine ks_if_ge hκ 28 32 dX5_removeTop_28 rfl (fun c28 => ?_) (fun c28 => ?_)
          · skip
            refine ks_iload_n hκ 32 2 dX5_removeTop_32 rfl ?_
            refine ks_iconst hκ 33 (nI 1) dX5_removeTop_33 kq_i1 ?_
            refine ks_iaddN hκ 34 dX5_removeTop_34 ?_
            refine ks_istore_n hκ 35 3 [(3, _), (0, _), (1, _), (2, _)] dX5_removeTop_35 rfl (by decide) rfl ?_
            have L36 : ∀ (fuel : Nat) (c : Nat) (E1 O1 : Nat → Int32) (hh : ks_H) (hY : hh[y]? = some (ks_O 5 [ks_ref g (y + 1), ks_ref g (y + 2), .int (nI L.length)])) (hE : hh[y + 1]? = some (ks_I g 240 E1)) (hO : hh[y + 2]? = some (ks_I g 240 O1)) (hF : ks_Fr h hh y (y + 3)) (hc : c + 1 ≤ L.length) (hct : t ≤ c) (hmid : kMid E1 O1 L (L.eraseIdx t) c (c + 1)) (hfuel : L.length - c < fuel), ks_K κ g 4 hh 0 0 36 [(0, ks_ref g y), (1, .int (nI e)), (3, .int (nI (c + 1)))] [] := by
              intro fuel
              induction fuel with
              | zero => intro c E1 O1 hh hY hE hO hF hc hct hmid hfuel; exact absurd hfuel (Nat.not_lt_zero _)
              | succ fuel ih =>
                intro c E1 O1 hh hY hE hO hF hc hct hmid hfuel
                refine ks_iload_n hκ 36 2 dX5_removeTop_36 rfl ?_
                refine ks_aload_n hκ 37 0 dX5_removeTop_37 rfl ?_
                refine ks_get hκ 38 dX5_removeTop_38 kf_X5_18 hY rfl ?_
                refine ks_icmp_ge hκ 41 78 dX5_removeTop_41 rfl (fun c41 => ?_) (fun c41 => ?_)
                · skip
                  have c41 := (nI_leI (by omega) (by omega)).mp c41
                  have hcn : c + 1 = L.length := by omega
                  refine ks_aload_n hκ 78 0 dX5_removeTop_78 rfl ?_
                  refine ks_dup hκ 79 dX5_removeTop_79 rfl ?_
                  refine ks_get hκ 80 dX5_removeTop_80 kf_X5_18 hY rfl ?_
                  refine ks_iconst hκ 83 (nI 1) dX5_removeTop_83 kq_i1 ?_
                  refine ks_isubN hκ 84 dX5_removeTop_84 (by omega) ?_
                  refine ks_putS hκ 85 [_, _, _] dX5_removeTop_85 kf_X5_18 hY rfl rfl (Nat.le_of_ble_eq_true rfl) rfl ?_
                  refine ks_gen (fun xh1 exh1 => ?_)
                  replace hY := ks_gs exh1 hY
                  replace hE := ks_gn exh1 (ks_nb (b := y) (i := 0) (j := 1) rfl) hE
                  replace hO := ks_gn exh1 (ks_nb (b := y) (i := 0) (j := 2) rfl) hO
                  replace hF := ks_Fr.st hF exh1 (by omega) (by omega)
                  clear exh1
                  refine ks_vret hκ 88 hRt dX5_removeTop_88 (by decide) (by decide) ?_
                  exact ⟨rfl, ⟨_, _, by rw [List.length_eraseIdx_of_lt htl]; exact hY, hE, hO, fun k e3 o3 hk => hmid.1 k e3 o3 (by have := (List.getElem?_eq_some_iff.mp hk).1; rw [List.length_eraseIdx_of_lt htl] at this; omega) hk, by rw [List.length_eraseIdx_of_lt htl]; omega, kbd_erase hbd⟩, hF⟩
                · skip
                  have c41 := mt (nI_leI (by omega) (by omega)).mpr c41
                  obtain ⟨⟨e2, o2⟩, hL2⟩ := kget (L := L) (i := c + 1) (by omega)
                  refine ks_aload_n hκ 44 0 dX5_removeTop_44 rfl ?_
                  refine ks_get hκ 45 dX5_removeTop_45 kf_X5_9 hY rfl ?_
                  refine ks_iload_n hκ 48 2 dX5_removeTop_48 rfl ?_
                  refine ks_iconst hκ 49 (nI 1) dX5_removeTop_49 kq_i1 ?_
                  refine ks_isubN hκ 50 dX5_removeTop_50 (by omega) ?_
                  refine ks_top (nI c) (by rw [Nat.add_sub_cancel]) ?_
                  refine ks_aload_n hκ 51 0 dX5_removeTop_51 rfl ?_
                  refine ks_get hκ 52 dX5_removeTop_52 kf_X5_9 hY rfl ?_
                  refine ks_iload_n hκ 55 2 dX5_removeTop_55 rfl ?_
                  refine ks_iald hκ 56 ((c + 1)) dX5_removeTop_56 hE rfl (by omega) (by decide) ?_
                  refine ks_iast hκ 57 (c) dX5_removeTop_57 hE rfl (by omega) (by decide) ?_
                  refine ks_gen (fun xh2 exh2 => ?_)
                  replace hY := ks_gn exh2 (ks_nb (b := y) (i := 1) (j := 0) rfl) hY
                  replace hE := ks_gs exh2 hE
                  replace hO := ks_gn exh2 (ks_nb (b := y) (i := 1) (j := 2) rfl) hO
                  replace hF := ks_Fr.st hF exh2 (by omega) (by omega)
                  clear exh2
                  refine ks_aload_n hκ 58 0 dX5_removeTop_58 rfl ?_
                  refine ks_get hκ 59 dX5_removeTop_59 kf_X5_15 hY rfl ?_
                  refine ks_iload_n hκ 62 2 dX5_removeTop_62 rfl ?_
                  refine ks_iconst hκ 63 (nI 1) dX5_removeTop_63 kq_i1 ?_
                  refine ks_isubN hκ 64 dX5_removeTop_64 (by omega) ?_
                  refine ks_top (nI c) (by rw [Nat.add_sub_cancel]) ?_
                  refine ks_aload_n hκ 65 0 dX5_removeTop_65 rfl ?_
                  refine ks_get hκ 66 dX5_removeTop_66 kf_X5_15 hY rfl ?_
                  refine ks_iload_n hκ 69 2 dX5_removeTop_69 rfl ?_
                  refine ks_iald hκ 70 ((c + 1)) dX5_removeTop_70 hO rfl (by omega) (by decide) ?_
                  refine ks_iast hκ 71 (c) dX5_removeTop_71 hO rfl (by omega) (by decide) ?_
                  refine ks_gen (fun xh3 exh3 => ?_)
                  replace hY := ks_gn exh3 (ks_nb (b := y) (i := 2) (j := 0) rfl) hY
                  replace hE := ks_gn exh3 (ks_nb (b := y) (i := 2) (j := 1) rfl) hE
                  replace hO := ks_gs exh3 hO
                  replace hF := ks_Fr.st hF exh3 (by omega) (by omega)
                  clear exh3
                  refine ks_iinc hκ 72 3 2 (nI ((c + 1) + 1)) [(3, _), (0, _), (1, _)] dX5_removeTop_72 rfl (ks_inc1 _) (by decide) rfl ?_
                  refine ks_goto hκ 75 36 dX5_removeTop_75 rfl ?_
                  refine ks_pick [1, 2, 0] [(0, _), (1, _), (3, _)] rfl ?_
                  exact ks_cv (ih (c + 1) _ _ xh3 hY hE hO hF (by omega) (by omega) (hmid.step (by omega) hL2 (by rw [List.getElem?_eraseIdx, if_neg (by omega)]; exact hL2)) (by omega)) rfl rfl rfl
            refine ks_pick [1, 2, 0] [(0, _), (1, _), (3, _)] rfl ?_
            exact ks_cv (L36 _ i _ _ h hY hE hO hF (by omega) (by omega) (hie ▸ kMid.start hEO) (Nat.lt_succ_self _)) rfl rfl rfl
          · skip
            exact absurd (ks_ge0 (by omega)) c28
        · skip
          have c18 := mt (nI_eq (by omega) (by omega)).mpr c18
          have hie : i ≠ t := by
            rintro rfl
            rw [ht] at hL1
            simp at hL1
            omega
          refine ks_iinc hκ 21 2 2 (nI (i - 1)) [(2, _), (0, _), (1, _)] dX5_removeTop_21 rfl (ks_dec1 (by omega)) (by decide) rfl ?_
          refine ks_goto hκ 24 7 dX5_removeTop_24 rfl ?_
          refine ks_pick [1, 2, 0] [(0, _), (1, _), (2, _)] rfl ?_
          exact ks_cv (ih (i - 1)  (by omega) (by omega) (by omega)) rfl rfl rfl
  refine ks_pick [1, 2, 0] [(0, _), (1, _), (2, _)] rfl ?_
  exact ks_cv (L7 _ (L.length - 1)  (by omega) (by omega) (Nat.lt_succ_self _)) rfl rfl rfl
set_option maxRecDepth 100000 in
set_option maxHeartbeats 4000000 in
theorem c_Yarn_removeAll {g : ks_G} {h : ks_H} {y e o : Nat} {L : List (Nat × Nat)} (hyarn : kYarn g h y L) (he : e < 15) (ho : o < 6) : ks_Met g (yX5_removeAll, cX5_removeAll, 5, some .int) 0 0 0 [ks_ref g y, .int (nI e), .int (nI o)] h (ks_Ph (fun r h' => r = nI (L.length - (kCut e o L).length) ∧ kYarn g h' y (kCut e o L) ∧ ks_Fr h h' y (y + 3))) := by
  obtain ⟨E, O, hY, hE, hO, hEO, hn, hbd⟩ := hyarn
  refine ks_intro (by decide) (Nat.le_of_ble_eq_true rfl) (fun κ hκ hRt => ?_)
  refine ks_cv (ls := [(0, ks_ref g y), (1, .int (nI e)), (2, .int (nI o))]) ?_ rfl rfl rfl
  have hF : ks_Fr h h y (y + 3) := ks_Fr.rf
  refine ks_iconst hκ 0 (nI 0) dX5_removeAll_0 kq_i0 ?_
  refine ks_istore_n hκ 1 3 [(3, _), (0, _), (1, _), (2, _)] dX5_removeAll_1 rfl (by decide) rfl ?_
  refine ks_iconst hκ 2 (nI 0) dX5_removeAll_2 kq_i0 ?_
  refine ks_istore hκ 3 4 [(4, _), (3, _), (0, _), (1, _), (2, _)] dX5_removeAll_3 (by decide) rfl ?_
  have L5 : ∀ (fuel : Nat) (i c : Nat) (E1 O1 : Nat → Int32) (hh : ks_H) (hY : hh[y]? = some (ks_O 5 [ks_ref g (y + 1), ks_ref g (y + 2), .int (nI L.length)])) (hE : hh[y + 1]? = some (ks_I g 240 E1)) (hO : hh[y + 2]? = some (ks_I g 240 O1)) (hF : ks_Fr h hh y (y + 3)) (hi : i ≤ L.length) (hc : c = (kCut e o (L.take i)).length) (hmid : kMid E1 O1 L (kCut e o L) c i) (hfuel : L.length - i < fuel), ks_K κ g 5 hh 0 0 5 [(0, ks_ref g y), (1, .int (nI e)), (2, .int (nI o)), (3, .int (nI c)), (4, .int (nI i))] [] := by
    intro fuel
    induction fuel with
    | zero => intro i c E1 O1 hh hY hE hO hF hi hc hmid hfuel; exact absurd hfuel (Nat.not_lt_zero _)
    | succ fuel ih =>
      intro i c E1 O1 hh hY hE hO hF hi hc hmid hfuel
      have hci : c ≤ i := hc ▸ kCut_tle
      refine ks_iload hκ 5 4 dX5_removeAll_5 rfl ?_
      refine ks_aload_n hκ 7 0 dX5_removeAll_7 rfl ?_
      refine ks_get hκ 8 dX5_removeAll_8 kf_X5_18 hY rfl ?_
      refine ks_icmp_ge hκ 11 74 dX5_removeAll_11 rfl (fun c11 => ?_) (fun c11 => ?_)
      · skip
        have c11 := (nI_leI (by omega) (by omega)).mp c11
        have hin : i = L.length := by omega
        refine ks_aload_n hκ 74 0 dX5_removeAll_74 rfl ?_
        refine ks_get hκ 75 dX5_removeAll_75 kf_X5_18 hY rfl ?_
        refine ks_iload_n hκ 78 3 dX5_removeAll_78 rfl ?_
        refine ks_isubN hκ 79 dX5_removeAll_79 (by omega) ?_
        refine ks_istore hκ 80 4 [(4, _), (0, _), (1, _), (2, _), (3, _)] dX5_removeAll_80 (by decide) rfl ?_
        refine ks_aload_n hκ 82 1 dX5_removeAll_82 rfl ?_
        refine ks_iload_n hκ 83 4 dX5_removeAll_83 rfl ?_
        refine ks_putS hκ 84 [_, _, _] dX5_removeAll_84 kf_X5_18 hY rfl rfl (Nat.le_of_ble_eq_true rfl) rfl ?_
        refine ks_gen (fun xh1 exh1 => ?_)
        replace hY := ks_gs exh1 hY
        replace hE := ks_gn exh1 (ks_nb (b := y) (i := 0) (j := 1) rfl) hE
        replace hO := ks_gn exh1 (ks_nb (b := y) (i := 0) (j := 2) rfl) hO
        replace hF := ks_Fr.st hF exh1 (by omega) (by omega)
        clear exh1
        refine ks_iload hκ 87 0 dX5_removeAll_87 rfl ?_
        refine ks_iret hκ 89 hRt dX5_removeAll_89 (by decide) (by decide) rfl ?_
        subst hin
        rw [List.take_length] at hc
        exact ⟨_, rfl, by rw [hc], ⟨_, _, hc ▸ hY, hE, hO, fun k e3 o3 hk => hmid.1 k e3 o3 (by have := (List.getElem?_eq_some_iff.mp hk).1; omega) hk, by have := kCut_le e o L; omega, fun p hp => hbd p (List.mem_filter.mp hp).1⟩, hF⟩
      · skip
        have c11 := mt (nI_leI (by omega) (by omega)).mpr c11
        obtain ⟨⟨e1, o1⟩, hL1⟩ := kget (L := L) (i := i) (by omega)
        obtain ⟨hE1, hO1⟩ := hmid.2 i e1 o1 (Nat.le_refl _) hL1
        obtain ⟨hb1, hb2⟩ := hbd _ (List.mem_of_getElem? hL1)
        simp only at hb1 hb2
        refine ks_aload_n hκ 14 0 dX5_removeAll_14 rfl ?_
        refine ks_get hκ 15 dX5_removeAll_15 kf_X5_9 hY rfl ?_
        refine ks_iload hκ 18 4 dX5_removeAll_18 rfl ?_
        refine ks_iald hκ 20 (i) dX5_removeAll_20 hE rfl (by omega) (by decide) ?_
        refine ks_top (nI e1) hE1 ?_
        refine ks_iload_n hκ 21 1 dX5_removeAll_21 rfl ?_
        refine ks_icmp_ne hκ 22 39 dX5_removeAll_22 rfl (fun c22 => ?_) (fun c22 => ?_)
        · skip
          have c22 := mt (nI_eq (by omega) (by omega)).mpr c22
          have hkeep : kNot e o (e1, o1) = true := by simp [kNot, c22]
          refine ks_aload_n hκ 39 0 dX5_removeAll_39 rfl ?_
          refine ks_get hκ 40 dX5_removeAll_40 kf_X5_9 hY rfl ?_
          refine ks_iload_n hκ 43 3 dX5_removeAll_43 rfl ?_
          refine ks_aload_n hκ 44 0 dX5_removeAll_44 rfl ?_
          refine ks_get hκ 45 dX5_removeAll_45 kf_X5_9 hY rfl ?_
          refine ks_iload hκ 48 4 dX5_removeAll_48 rfl ?_
          refine ks_iald hκ 50 (i) dX5_removeAll_50 hE rfl (by omega) (by decide) ?_
          refine ks_iast hκ 51 (c) dX5_removeAll_51 hE rfl (by omega) (by decide) ?_
          refine ks_gen (fun xh2 exh2 => ?_)
          replace hY := ks_gn exh2 (ks_nb (b := y) (i := 1) (j := 0) rfl) hY
          replace hE := ks_gs exh2 hE
          replace hO := ks_gn exh2 (ks_nb (b := y) (i := 1) (j := 2) rfl) hO
          replace hF := ks_Fr.st hF exh2 (by omega) (by omega)
          clear exh2
          refine ks_aload_n hκ 52 0 dX5_removeAll_52 rfl ?_
          refine ks_get hκ 53 dX5_removeAll_53 kf_X5_15 hY rfl ?_
          refine ks_iload_n hκ 56 3 dX5_removeAll_56 rfl ?_
          refine ks_aload_n hκ 57 0 dX5_removeAll_57 rfl ?_
          refine ks_get hκ 58 dX5_removeAll_58 kf_X5_15 hY rfl ?_
          refine ks_iload hκ 61 4 dX5_removeAll_61 rfl ?_
          refine ks_iald hκ 63 (i) dX5_removeAll_63 hO rfl (by omega) (by decide) ?_
          refine ks_iast hκ 64 (c) dX5_removeAll_64 hO rfl (by omega) (by decide) ?_
          refine ks_gen (fun xh3 exh3 => ?_)
          replace hY := ks_gn exh3 (ks_nb (b := y) (i := 2) (j := 0) rfl) hY
          replace hE := ks_gn exh3 (ks_nb (b := y) (i := 2) (j := 1) rfl) hE
          replace hO := ks_gs exh3 hO
          replace hF := ks_Fr.st hF exh3 (by omega) (by omega)
          clear exh3
          refine ks_iinc hκ 65 3 3 (nI (c + 1)) [(3, _), (0, _), (1, _), (2, _), (4, _)] dX5_removeAll_65 rfl (ks_inc1 _) (by decide) rfl ?_
          refine ks_iinc hκ 68 4 4 (nI (i + 1)) [(4, _), (3, _), (0, _), (1, _), (2, _)] dX5_removeAll_68 rfl (ks_inc1 _) (by decide) rfl ?_
          refine ks_goto hκ 71 5 dX5_removeAll_71 rfl ?_
          refine ks_pick [2, 3, 4, 1, 0] [(0, _), (1, _), (2, _), (3, _), (4, _)] rfl ?_
          exact ks_cv (ih (i + 1) (c + 1) _ _ xh3 hY hE hO hF (by omega) (by rw [kCut_take hL1, if_pos hkeep, List.length_append, ← hc]; rfl) (hmid.step (by omega) hL1 (hc ▸ kCut_at hL1 hkeep)) (by omega)) rfl rfl rfl
        · skip
          have c22 := (nI_eq (by omega) (by omega)).mp c22
          refine ks_aload_n hκ 25 0 dX5_removeAll_25 rfl ?_
          refine ks_get hκ 26 dX5_removeAll_26 kf_X5_15 hY rfl ?_
          refine ks_iload hκ 29 4 dX5_removeAll_29 rfl ?_
          refine ks_iald hκ 31 (i) dX5_removeAll_31 hO rfl (by omega) (by decide) ?_
          refine ks_top (nI o1) hO1 ?_
          refine ks_iload_n hκ 32 2 dX5_removeAll_32 rfl ?_
          refine ks_icmp_ne hκ 33 39 dX5_removeAll_33 rfl (fun c33 => ?_) (fun c33 => ?_)
          · skip
            have c33 := mt (nI_eq (by omega) (by omega)).mpr c33
            have hkeep : kNot e o (e1, o1) = true := by simp [kNot, c33]
            refine ks_aload_n hκ 39 0 dX5_removeAll_39 rfl ?_
            refine ks_get hκ 40 dX5_removeAll_40 kf_X5_9 hY rfl ?_
            refine ks_iload_n hκ 43 3 dX5_removeAll_43 rfl ?_
            refine ks_aload_n hκ 44 0 dX5_removeAll_44 rfl ?_
            refine ks_get hκ 45 dX5_removeAll_45 kf_X5_9 hY rfl ?_
            refine ks_iload hκ 48 4 dX5_removeAll_48 rfl ?_
            refine ks_iald hκ 50 (i) dX5_removeAll_50 hE rfl (by omega) (by decide) ?_
            refine ks_iast hκ 51 (c) dX5_removeAll_51 hE rfl (by omega) (by decide) ?_
            refine ks_gen (fun xh4 exh4 => ?_)
            replace hY := ks_gn exh4 (ks_nb (b := y) (i := 1) (j := 0) rfl) hY
            replace hE := ks_gs exh4 hE
            replace hO := ks_gn exh4 (ks_nb (b := y) (i := 1) (j := 2) rfl) hO
            replace hF := ks_Fr.st hF exh4 (by omega) (by omega)
            clear exh4
            refine ks_aload_n hκ 52 0 dX5_removeAll_52 rfl ?_
            refine ks_get hκ 53 dX5_removeAll_53 kf_X5_15 hY rfl ?_
            refine ks_iload_n hκ 56 3 dX5_removeAll_56 rfl ?_
            refine ks_aload_n hκ 57 0 dX5_removeAll_57 rfl ?_
            refine ks_get hκ 58 dX5_removeAll_58 kf_X5_15 hY rfl ?_
            refine ks_iload hκ 61 4 dX5_removeAll_61 rfl ?_
            refine ks_iald hκ 63 (i) dX5_removeAll_63 hO rfl (by omega) (by decide) ?_
            refine ks_iast hκ 64 (c) dX5_removeAll_64 hO rfl (by omega) (by decide) ?_
            refine ks_gen (fun xh5 exh5 => ?_)
            replace hY := ks_gn exh5 (ks_nb (b := y) (i := 2) (j := 0) rfl) hY
            replace hE := ks_gn exh5 (ks_nb (b := y) (i := 2) (j := 1) rfl) hE
            replace hO := ks_gs exh5 hO
            replace hF := ks_Fr.st hF exh5 (by omega) (by omega)
            clear exh5
            refine ks_iinc hκ 65 3 3 (nI (c + 1)) [(3, _), (0, _), (1, _), (2, _), (4, _)] dX5_removeAll_65 rfl (ks_inc1 _) (by decide) rfl ?_
            refine ks_iinc hκ 68 4 4 (nI (i + 1)) [(4, _), (3, _), (0, _), (1, _), (2, _)] dX5_removeAll_68 rfl (ks_inc1 _) (by decide) rfl ?_
            refine ks_goto hκ 71 5 dX5_removeAll_71 rfl ?_
            refine ks_pick [2, 3, 4, 1, 0] [(0, _), (1, _), (2, _), (3, _), (4, _)] rfl ?_
            exact ks_cv (ih (i + 1) (c + 1) _ _ xh5 hY hE hO hF (by omega) (by rw [kCut_take hL1, if_pos hkeep, List.length_append, ← hc]; rfl) (hmid.step (by omega) hL1 (hc ▸ kCut_at hL1 hkeep)) (by omega)) rfl rfl rfl
          · skip
            have c33 := (nI_eq (by omega) (by omega)).mp c33
            refine ks_goto hκ 36 68 dX5_removeAll_36 rfl ?_
            refine ks_iinc hκ 68 4 4 (nI (i + 1)) [(4, _), (0, _), (1, _), (2, _), (3, _)] dX5_removeAll_68 rfl (ks_inc1 _) (by decide) rfl ?_
            refine ks_goto hκ 71 5 dX5_removeAll_71 rfl ?_
            refine ks_pick [1, 2, 3, 4, 0] [(0, _), (1, _), (2, _), (3, _), (4, _)] rfl ?_
            exact ks_cv (ih (i + 1) c _ _ hh hY hE hO hF (by omega) (by rw [kCut_take hL1, if_neg (by simp [kNot, c22, c33])]; exact hc) hmid.skip (by omega)) rfl rfl rfl
  refine ks_pick [2, 3, 4, 1, 0] [(0, _), (1, _), (2, _), (3, _), (4, _)] rfl ?_
  exact ks_cv (L5 _ 0 0 _ _ h hY hE hO hF (Nat.zero_le _) rfl ⟨fun k e o hk => absurd hk (Nat.not_lt_zero _), fun k e o _ => hEO k e o⟩ (Nat.lt_succ_self _)) rfl rfl rfl
set_option maxRecDepth 100000 in
set_option maxHeartbeats 4000000 in
theorem c_Yarn_copyFrom {g : ks_G} {h : ks_H} {y z : Nat} {L L2 : List (Nat × Nat)} (hyarn : kYarn g h y L) (hother : kYarn g h z L2) (hap : y + 3 ≤ z ∨ z + 3 ≤ y) : ks_Met g (yX5_copyFrom, cX5_copyFrom, 2, none) 1 0 0 [ks_ref g y, ks_ref g z] h (ks_Pv (fun h' => kYarn g h' y L2 ∧ ks_Fr h h' y (y + 3))) := by
  obtain ⟨E, O, hY, hE, hO, hEO, hn, hbd⟩ := hyarn
  obtain ⟨E2, O2, hY2, hE2, hO2, hEO2, hn2, hbd2⟩ := hother
  refine ks_intro (by decide) (Nat.le_of_ble_eq_true rfl) (fun κ hκ hRt => ?_)
  refine ks_cv (ls := [(0, ks_ref g y), (1, ks_ref g z)]) ?_ rfl rfl rfl
  have hF : ks_Fr h h y (y + 3) := ks_Fr.rf
  refine ks_aload_n hκ 0 0 dX5_copyFrom_0 rfl ?_
  refine ks_aload_n hκ 1 1 dX5_copyFrom_1 rfl ?_
  refine ks_get hκ 2 dX5_copyFrom_2 kf_X5_18 hY2 rfl ?_
  refine ks_putS hκ 5 [_, _, _] dX5_copyFrom_5 kf_X5_18 hY rfl rfl (Nat.le_of_ble_eq_true rfl) rfl ?_
  refine ks_gen (fun xh1 exh1 => ?_)
  replace hY := ks_gs exh1 hY
  replace hE := ks_gn exh1 (ks_nb (b := y) (i := 0) (j := 1) rfl) hE
  replace hO := ks_gn exh1 (ks_nb (b := y) (i := 0) (j := 2) rfl) hO
  replace hY2 := ks_gn exh1 (by omega) hY2
  replace hE2 := ks_gn exh1 (by omega) hE2
  replace hO2 := ks_gn exh1 (by omega) hO2
  replace hF := ks_Fr.st hF exh1 (by omega) (by omega)
  clear exh1
  refine ks_aload_n hκ 8 1 dX5_copyFrom_8 rfl ?_
  refine ks_get hκ 9 dX5_copyFrom_9 kf_X5_9 hY2 rfl ?_
  refine ks_iconst hκ 12 (nI 0) dX5_copyFrom_12 kq_i0 ?_
  refine ks_aload_n hκ 13 0 dX5_copyFrom_13 rfl ?_
  refine ks_get hκ 14 dX5_copyFrom_14 kf_X5_9 hY rfl ?_
  refine ks_iconst hκ 17 (nI 0) dX5_copyFrom_17 kq_i0 ?_
  refine ks_aload_n hκ 18 0 dX5_copyFrom_18 rfl ?_
  refine ks_get hκ 19 dX5_copyFrom_19 kf_X5_18 hY rfl ?_
  refine ks_acopy hκ 22 (L2.length) dX5_copyFrom_22 kj_X5_22 ku_cn ku_cs ku_ci (by decide) (Nat.le_of_ble_eq_true rfl) hE2 hE rfl rfl rfl (by omega) (by omega) (by omega) ?_
  refine ks_gen (fun xh2 exh2 => ?_)
  replace hY := ks_gn exh2 (ks_nb (b := y) (i := 1) (j := 0) rfl) hY
  replace hE := ks_gs exh2 hE
  replace hO := ks_gn exh2 (ks_nb (b := y) (i := 1) (j := 2) rfl) hO
  replace hY2 := ks_gn exh2 (by omega) hY2
  replace hE2 := ks_gn exh2 (by omega) hE2
  replace hO2 := ks_gn exh2 (by omega) hO2
  replace hF := ks_Fr.st hF exh2 (by omega) (by omega)
  clear exh2
  refine ks_aload_n hκ 25 1 dX5_copyFrom_25 rfl ?_
  refine ks_get hκ 26 dX5_copyFrom_26 kf_X5_15 hY2 rfl ?_
  refine ks_iconst hκ 29 (nI 0) dX5_copyFrom_29 kq_i0 ?_
  refine ks_aload_n hκ 30 0 dX5_copyFrom_30 rfl ?_
  refine ks_get hκ 31 dX5_copyFrom_31 kf_X5_15 hY rfl ?_
  refine ks_iconst hκ 34 (nI 0) dX5_copyFrom_34 kq_i0 ?_
  refine ks_aload_n hκ 35 0 dX5_copyFrom_35 rfl ?_
  refine ks_get hκ 36 dX5_copyFrom_36 kf_X5_18 hY rfl ?_
  refine ks_acopy hκ 39 (L2.length) dX5_copyFrom_39 kj_X5_22 ku_cn ku_cs ku_ci (by decide) (Nat.le_of_ble_eq_true rfl) hO2 hO rfl rfl rfl (by omega) (by omega) (by omega) ?_
  refine ks_gen (fun xh3 exh3 => ?_)
  replace hY := ks_gn exh3 (ks_nb (b := y) (i := 2) (j := 0) rfl) hY
  replace hE := ks_gn exh3 (ks_nb (b := y) (i := 2) (j := 1) rfl) hE
  replace hO := ks_gs exh3 hO
  replace hY2 := ks_gn exh3 (by omega) hY2
  replace hE2 := ks_gn exh3 (by omega) hE2
  replace hO2 := ks_gn exh3 (by omega) hO2
  replace hF := ks_Fr.st hF exh3 (by omega) (by omega)
  clear exh3
  refine ks_vret hκ 42 hRt dX5_copyFrom_42 (by decide) (by decide) ?_
  refine ⟨rfl, ⟨_, _, hY, hE, hO, fun k e o hk => ?_, hn2, hbd2⟩, hF⟩
  have hkl := (List.getElem?_eq_some_iff.mp hk).1
  rw [pk_cpy_in (Nat.zero_le _) (by omega), pk_cpy_in (Nat.zero_le _) (by omega), Nat.sub_zero, Nat.zero_add]
  exact hEO2 k e o hk
set_option maxRecDepth 100000 in
set_option maxHeartbeats 4000000 in
theorem c_Yarn_init {g : ks_G} {h : ks_H} {y : Nat} (hY : h[y]? = some (ks_O 5 [.null, .null, .int 0])) (hlen : h.length = y + 1) : ks_Met g (yX5_init, cX5_init, 1, none) 1 2 480 [ks_ref g y] h (ks_Pv (fun h' => kYarn g h' y [] ∧ ks_Ex h h' y ∧ h'.length = y + 3)) := by
  refine ks_intro (by decide) (Nat.le_of_ble_eq_true rfl) (fun κ hκ hRt => ?_)
  refine ks_cv (ls := [(0, ks_ref g y)]) ?_ rfl rfl rfl
  have hX : ks_Ex h h y := ks_Ex.rf
  refine ks_aload_n hκ 0 0 dX5_init_0 rfl ?_
  refine ks_objInit hκ 1 dX5_init_1 kj_X5_3 ku_oi ku_oc (by decide) (Nat.le_of_ble_eq_true rfl) ?_
  refine ks_aload_n hκ 4 0 dX5_init_4 rfl ?_
  refine ks_sipush hκ 5 (nI 240) dX5_init_5 kq_s240 ?_
  refine ks_newiB hκ 8 hlen dX5_init_8 (by decide) (by decide) (by decide) (fun xh1 exh1 => ?_)
  replace hY := ks_gb exh1 hY
  have hE := ks_ga exh1 hlen
  replace hX := ks_Ex.ps hX exh1 (by omega)
  replace hlen := ks_gl exh1 hlen
  clear exh1
  refine ks_putT hκ 10 [_, _, _] dX5_init_10 rfl kf_X5_9 hY rfl rfl (Nat.le_of_ble_eq_true rfl) rfl ?_
  refine ks_gen (fun xh2 exh2 => ?_)
  replace hY := ks_gs exh2 hY
  replace hE := ks_gn exh2 (ks_nb (b := y) (i := 0) (j := 1) rfl) hE
  replace hX := ks_Ex.st hX exh2 (by omega)
  replace hlen := ks_gz exh2 hlen
  clear exh2
  refine ks_aload_n hκ 13 0 dX5_init_13 rfl ?_
  refine ks_sipush hκ 14 (nI 240) dX5_init_14 kq_s240 ?_
  refine ks_newiB hκ 17 hlen dX5_init_17 (by decide) (by decide) (by decide) (fun xh3 exh3 => ?_)
  replace hY := ks_gb exh3 hY
  replace hE := ks_gb exh3 hE
  have hO := ks_ga exh3 hlen
  replace hX := ks_Ex.ps hX exh3 (by omega)
  replace hlen := ks_gl exh3 hlen
  clear exh3
  refine ks_putT hκ 19 [_, _, _] dX5_init_19 rfl kf_X5_15 hY rfl rfl (Nat.le_of_ble_eq_true rfl) rfl ?_
  refine ks_gen (fun xh4 exh4 => ?_)
  replace hY := ks_gs exh4 hY
  replace hE := ks_gn exh4 (ks_nb (b := y) (i := 0) (j := 1) rfl) hE
  replace hO := ks_gn exh4 (ks_nb (b := y) (i := 0) (j := 2) rfl) hO
  replace hX := ks_Ex.st hX exh4 (by omega)
  replace hlen := ks_gz exh4 hlen
  clear exh4
  refine ks_aload_n hκ 22 0 dX5_init_22 rfl ?_
  refine ks_iconst hκ 23 (nI 0) dX5_init_23 kq_i0 ?_
  refine ks_putS hκ 24 [_, _, _] dX5_init_24 kf_X5_18 hY rfl rfl (Nat.le_of_ble_eq_true rfl) rfl ?_
  refine ks_gen (fun xh5 exh5 => ?_)
  replace hY := ks_gs exh5 hY
  replace hE := ks_gn exh5 (ks_nb (b := y) (i := 0) (j := 1) rfl) hE
  replace hO := ks_gn exh5 (ks_nb (b := y) (i := 0) (j := 2) rfl) hO
  replace hX := ks_Ex.st hX exh5 (by omega)
  replace hlen := ks_gz exh5 hlen
  clear exh5
  refine ks_vret hκ 27 hRt dX5_init_27 (by decide) (by decide) ?_
  exact ⟨rfl, ⟨_, _, hY, hE, hO, fun k e o hk => by simp at hk, Nat.zero_le _, fun p hp => by simp at hp⟩, hX, hlen⟩
