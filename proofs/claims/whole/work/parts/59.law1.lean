def R_law : String := "KittenStairsLaw"
def lw_P (b : Addr) (xs : List Int32) (args : Array Value) (s : State) : Prop := args = #[.ref b] ∧ s.IntsAt b xs ∧ xs.length ≤ 2048 ∧ (Jvm.Cond.and given_1 narrow_1).before args s = true
def lw_Q (_ : Array Value) (s : State) (o : Outcome) (t : State) : Prop := o = .returned (some (.int 1)) ∧ Framed s o t [] 600000 7302250
def lw_Z (below : List Frame) (a : Array Value) (s : State) : State → Prop := fun t => ∃ o, t.status = .running ∧ Ended t below o ∧ lw_Q a s o t
/-- the law's own end, with 1 on the stack, nothing written that was there before, its room as the claim has it -/
theorem lw_ret {p : Program} {l : Launch} {e : Env} {s : State} {m : MethodId} {below : List Frame} {meth : Method} {c : Code} {b : Nat} (hx : p.tables.exec = Jvm.exec) (hb : c.code = code) (hr : meth.sig.returnType = ret) (hlocks : meth.locks = false) {pc : Nat} {H : Heap} {ls : Array Slot} (hdg : decode code pc = .ok (.ireturn, 1)) : W p l e room_1 s m #[Value.ref b] below meth c H [] 600000 7302250 (lw_Z below #[Value.ref b] s) (F0 m pc ls [.int 1]) := by
  intro T hT X
  obtain ⟨fs, hret, hrun, hended, hW, hframe⟩ := X.leave (v := some (.int 1)) (hlocks := hlocks) (fun h => by rw [hr] at h; cases h)
  have hmeth' : T.vm.method? m = some meth := X.method'
  refine ⟨T.setFrames fs, ?_, .returned (some (.int 1)), hrun, hended, rfl, ⟨_, rfl⟩, hW, hframe⟩
  jvm_step X.here [X.here.top, hx, hb, hdg, hmeth', hr, ret, narrow_b1]
  (try refine ⟨rfl, ?_⟩); (try refine ⟨rfl, ?_⟩)
  first | (intro acts; rw [hret _ acts rfl rfl rfl]) | rw [hret _ _ rfl rfl rfl]
  exact Steps.refl _
/-- what holds at the law's entry: the machine, the code, the tables' words (any of lw_tbl by 'hts w (by decide +kernel)'), the script of L ints xs at the cell b, what the Statement gives of the start (any of its parts by flat_of_before) -/
def lw_At (p : Program) (s : State) (m : MethodId) (meth : Method) (c : Code) (b L : Nat) (xs : Nat → Int32) : Prop :=
  p.tables.exec = Jvm.exec ∧ c.code = code ∧ meth.sig.returnType = ret ∧ c.maxLocals = 4 ∧ s.vm.findClass R_law = some m.cls ∧ (∀ w ∈ lw_tbl, w.before #[Value.ref b] s = true) ∧ va_X b L xs s s.heap ∧ b < s.heap.size ∧ meth.locks = false ∧ (Jvm.Cond.and given_1 narrow_1).before #[Value.ref b] s = true

/-! THE LAW: rows of its own, and how its two objects lie side by side -/
def ks_Sc (κ : ks_C) (g : ks_G) (b L : Nat) (xs : Nat → Int32) : Prop :=
  match κ with
  | (_, _, _, _, s, _, _, _, _, _, _) => va_X b L xs s s.heap ∧ b < s.heap.size ∧ ¬ ks_A g b
def ks_Le (κ : ks_C) (g : ks_G) : Prop :=
  match κ with
  | (p, _, _, R, s, _, args, below, meth, c, Q) => ∃ b : Nat, R = room_1 ∧ args = #[Value.ref b] ∧ Q = lw_Z below #[Value.ref b] s ∧ p.tables.exec = Jvm.exec ∧ c.code = code ∧ meth.sig.returnType = ret ∧ meth.locks = false ∧ g.1 = s.heap.size
section KSL
variable {κ : ks_C} {g : ks_G} {own nm : String} {cc : ByteArray} {nL d mc ms k n : Nat} {h : ks_H} {ls : List (Nat × Value)} {st : List Value}
theorem ks_sld (hκ : ks_Ok κ g own nm cc nL d mc ms) {b L : Nat} {xs : Nat → Int32} (hsc : ks_Sc κ g b L xs) (pc j : Nat) (hj : j < L) (hL : L ≤ 2048) (hd : decode cc pc = .ok (.iaload, 1)) (kk : ks_K κ g nL h k n (pc + 1) ls (.int (xs j) :: st)) : ks_K κ g nL h k n pc ls (.int (nI j) :: .ref b :: st) := by
  obtain ⟨p, l, e, R, s, m, args, below, meth, c, Q⟩ := κ
  obtain ⟨hx, hb, hml, hown, hts, hin, hfr, hlo, hce, hsl, hK, hSt, hNw, hz⟩ := hκ
  obtain ⟨hX, hbl, hbA⟩ := hsc
  intro H locs la hR hS hl
  refine va_sld hx hb hX hbl hbA hS (vp_in_nI hj (by omega)) hd ?_
  rw [nI_clamp (by omega)]
  exact kk H locs la hR hS hl
theorem ks_slen (hκ : ks_Ok κ g own nm cc nL d mc ms) {b L : Nat} {xs : Nat → Int32} (hsc : ks_Sc κ g b L xs) (pc : Nat) (hd : decode cc pc = .ok (.arraylength, 1)) (kk : ks_K κ g nL h k n (pc + 1) ls (.int (nI L) :: st)) : ks_K κ g nL h k n pc ls (.ref b :: st) := by
  obtain ⟨p, l, e, R, s, m, args, below, meth, c, Q⟩ := κ
  obtain ⟨hx, hb, hml, hown, hts, hin, hfr, hlo, hce, hsl, hK, hSt, hNw, hz⟩ := hκ
  obtain ⟨hX, hbl, hbA⟩ := hsc
  exact fun H locs la hR hS hl => va_slen hx hb hX hbl hbA hS hd (kk H locs la hR hS hl)
theorem ks_lret (hle : ks_Le κ g) (pc : Nat) (hd : decode code pc = .ok (.ireturn, 1)) (hk : k ≤ 600000) (hn : n ≤ 7302250) : ks_K κ g nL h k n pc ls [.int (nI 1)] := by
  obtain ⟨p, l, e, R, s, m, args, below, meth, c, Q⟩ := κ
  obtain ⟨b, rfl, rfl, rfl, hx, hb, hr, hlocks, hg⟩ := hle
  intro H locs la hR hS hl
  refine va_forget (fun q hq => ?_) ?_
  · have h1 : g.1 ≤ q.base := hS.2.2 q hq
    rw [hg] at h1
    exact h1
  · exact W.widen hk hn (lw_ret hx hb hr hlocks hd)
end KSL
theorem kKS.ob {g : ks_G} {h : ks_H} {o : Nat} {X : Nat → Prop} {σ : kS} {δ : Option kS} {H : List kS} {S : Nat → Option kS} {l : List Int32} (x : kKS g h o X σ δ H S l) : h[o]? = some (ks_O 6 [ks_ref g (o + 1), ks_ref g (o + 17), ks_ref g (o + 33), ks_ref g (o + 35), ks_ref g (o + 36), ks_ref g (o + 38)]) := by
  obtain ⟨τ, dp, F, G, Q, LT, PT, vs, vn, hO, -⟩ := x
  exact hO
theorem kMM.ob {g : ks_G} {h : ks_H} {m : Nat} {σ : kS} {H : List kS} {S : Nat → Option kS} {l : List Int32} (x : kMM g h m σ H S l) : ∃ fs, h[m]? = some (ks_O 7 fs) := by
  obtain ⟨f, Z, T, sp, kd, on, tw, bx, hM, -⟩ := x
  exact ⟨_, hM⟩
/-- what the Model does leaves the class alone -/
theorem kKS.out {g : ks_G} {h h' : ks_H} {o lo hi : Nat} {X : Nat → Prop} {σ : kS} {δ : Option kS} {H : List kS} {S : Nat → Option kS} {l : List Int32} (x : kKS g h o X σ δ H S l) (f : ks_Fr h h' lo hi) (q : ∀ i, lo ≤ i → i < hi → X i) : kKS g h' o X σ δ H S l := by
  obtain ⟨τ, dp, F, G, Q, LT, PT, vs, vn, hO, hnow, htri, hH, hF7, hG2, hpad, hord, hrooms, hring, hX⟩ := x
  have hk : ∀ i, ¬ X i → h'[i]? = h[i]? := fun i hn => f.2 i (by
    rcases Nat.lt_or_ge i lo with a | a
    · exact Or.inl a
    · rcases Nat.lt_or_ge i hi with b | b
      · exact absurd (q i a b) hn
      · exact Or.inr b)
  have ho : ∀ i, o ≤ i → i < o + 41 → h'[i]? = h[i]? := fun i a b => hk i (fun z => by have := (hX i z).2; omega)
  refine ⟨τ, dp, F, G, Q, LT, PT, vs, vn, (ho _ (by omega) (by omega)).trans hO, hnow.ke (fun i a b => ho i (by omega) (by omega)), htri.ke (fun i a b => ho i (by omega) (by omega)), (ho _ (by omega) (by omega)).trans hH, (ho _ (by omega) (by omega)).trans hF7, (ho _ (by omega) (by omega)).trans hG2, hpad.ke (fun i a b => ho i (by omega) (by omega)), hord.ke (fun i a b => ho i (by omega) (by omega)), ⟨fun r a hr ha => ?_, hrooms.2⟩, hring, fun i hi => by rw [f.1]; exact hX i hi⟩
  obtain ⟨h1, h2, h3⟩ := hrooms.1 r a hr ha
  exact ⟨h1.ke (fun i a1 b1 => hk i (by have := h3 (i - a) (by omega); rw [show a + (i - a) = i by omega] at this; exact this)), h2, h3⟩
/-- what the class does leaves the Model alone -/
theorem kMM.fx {g : ks_G} {h h' : ks_H} {m : Nat} {X : Nat → Prop} {σ : kS} {H : List kS} {S : Nat → Option kS} {l : List Int32} (x : kMM g h m σ H S l) (f : kFX X h h') (q : ∀ i, m ≤ i → i < m + 4 → X i) : kMM g h' m σ H S l := by
  obtain ⟨F, Z, T, sp, kd, on, tw, bx, hM, hS, hZ, hT, hrest⟩ := x
  exact ⟨F, Z, T, sp, kd, on, tw, bx, (f.2 _ (q _ (by omega) (by omega))).trans hM, (f.2 _ (q _ (by omega) (by omega))).trans hS, (f.2 _ (q _ (by omega) (by omega))).trans hZ, (f.2 _ (q _ (by omega) (by omega))).trans hT, hrest⟩
/-- the Model's cells -/
def kXM : Nat → Prop := fun i => 41 ≤ i ∧ i < 45
theorem kKS.grow {g : ks_G} {h h' : ks_H} {σ : kS} {δ : Option kS} {H : List kS} {S : Nat → Option kS} {l : List Int32} (x : kKS g h 0 (fun _ => False) σ δ H S l) (hl : h.length = 41) (f : ks_Ex h h' 41) (hl2 : h'.length = 45) : kKS g h' 0 kXM σ δ H S l := by
  obtain ⟨τ, dp, F, G, Q, LT, PT, vs, vn, hO, hnow, htri, hH, hF7, hG2, hpad, hord, hrooms, hring, hX⟩ := x
  refine ⟨τ, dp, F, G, Q, LT, PT, vs, vn, (f _ (by omega)).trans hO, hnow.ke (fun i a b => f i (by omega)), htri.ke (fun i a b => f i (by omega)), (f _ (by omega)).trans hH, (f _ (by omega)).trans hF7, (f _ (by omega)).trans hG2, hpad.ke (fun i a b => f i (by omega)), hord.ke (fun i a b => f i (by omega)), ⟨fun r a hr ha => ?_, hrooms.2⟩, hring, fun i hi => ⟨by have := hi.2; omega, Or.inr (by have := hi.1; omega)⟩⟩
  obtain ⟨h1, h2, h3⟩ := hrooms.1 r a hr ha
  have := h1.len
  omega
/-! what is kept of all states -/
theorem kHv_keep {r : Int32} {σ : kS} {H : List kS} (h : ∀ x ∈ H, kIv x) (hσ : kIv σ) : ∀ x ∈ kKeep r σ H, kIv x := fun x hx => by
  unfold kKeep at hx
  split at hx
  · exact h x hx
  · rcases List.mem_cons.mp (List.mem_of_mem_take hx) with e | e
    · rw [e]; exact hσ
    · exact h x e
theorem kHv_un {σ : kS} {H : List kS} (h : ∀ x ∈ H, kIv x) (hσ : kIv σ) : kIv (kUnS σ H) := by
  cases H with
  | nil => exact hσ
  | cons y H => exact h y List.mem_cons_self
theorem kHv_sav {σ : kS} {S : Nat → Option kS} {x : Int32} (h : ∀ s y, S s = some y → kIv y) (hσ : kIv σ) : ∀ s y, (kSav σ S x).2 s = some y → kIv y := fun s y hy => by
  unfold kSav at hy
  by_cases q1 : x < 0
  · rw [if_pos q1] at hy; exact h s y hy
  · rw [if_neg q1] at hy
    by_cases q2 : nI 2 ≤ x
    · rw [if_pos q2] at hy; exact h s y hy
    · rw [if_neg q2] at hy
      have hy2 : (if s = x.toNatClampNeg then some σ else S s) = some y := hy
      by_cases q3 : s = x.toNatClampNeg
      · rw [if_pos q3] at hy2; cases Option.some.inj hy2; exact hσ
      · rw [if_neg q3] at hy2; exact h s y hy2
theorem kHv_rst {σ : kS} {H : List kS} {S : Nat → Option kS} {x : Int32} (h : ∀ z ∈ H, kIv z) (hS : ∀ s y, S s = some y → kIv y) (hσ : kIv σ) : kIv (kRst σ H S x).2.1 ∧ ∀ z ∈ (kRst σ H S x).2.2, kIv z := by
  unfold kRst
  by_cases q1 : x < 0
  · rw [if_pos q1]; exact ⟨hσ, h⟩
  · rw [if_neg q1]
    by_cases q2 : nI 2 ≤ x
    · rw [if_pos q2]; exact ⟨hσ, h⟩
    · rw [if_neg q2]
      cases e : S x.toNatClampNeg with
      | none => exact ⟨hσ, h⟩
      | some y => exact ⟨hS _ y e, kHv_keep h hσ⟩
theorem kHv_car {σ : kS} {H : List kS} {l : List Int32} (h : ∀ z ∈ H, kIv z) (hσ : kIv σ) : kIv (kCarQ σ H l).2.1 ∧ ∀ z ∈ (kCarQ σ H l).2.2.1, kIv z := by
  unfold kCarQ
  by_cases q1 : (kRead 27 l 0 []).1 = -6
  · rw [if_pos q1]; exact ⟨kIv_carry _ _ _ hσ, kHv_keep h hσ⟩
  · rw [if_neg q1]; exact ⟨hσ, h⟩
theorem law_lt {L i : Nat} (hL : L ≤ 2048) (hi : i ≤ 2048) (h : ¬ nI L - nI 4 < nI i) : i + 4 ≤ L := by
  rw [Int32.lt_iff_toInt_lt, pk_sub_toInt (by omega) (by decide), nI_toInt (by omega)] at h
  omega
theorem law_inc (vi : Nat) : nI (4 * vi) + Int32.ofInt 4 = nI (4 * (vi + 1)) := by
  rw [show 4 * (vi + 1) = 4 * vi + 4 by omega, ← nI_add]; rfl
