
theorem ks_R.at {g : ks_G} {h : ks_H} {H : Heap} (hR : ks_R g h H) {i : Nat} {e : va_E} (hi : h[i]? = some e) : va_at g.2.1 vwCl (g.1 + i, e) H := hR.2 i _ (ks_wl_get hi)
theorem ks_R.set {g : ks_G} {h : ks_H} {H H1 : Heap} (hR : ks_R g h H) {i : Nat} {e0 e : va_E} (hi : h[i]? = some e0) (he : va_at g.2.1 vwCl (g.1 + i, e) H1) (hz : H1.size = H.size) (ho : ∀ q : Nat, q ≠ g.1 + i → H1[q]? = H[q]?) : ks_R g (h.set i e) H1 := by
  refine ⟨by rw [hz, hR.1, List.length_set], ?_⟩
  rw [← ks_wl_set]
  exact hR.2.set ks_wl_D (ks_wl_get hi) he ho
theorem ks_R.push {g : ks_G} {h : ks_H} {H H1 : Heap} (hR : ks_R g h H) {e : va_E} (he : va_at g.2.1 vwCl (H.size, e) H1) (hz : H1.size = H.size + 1) (ho : ∀ q : Nat, q < H.size → H1[q]? = H[q]?) : ks_R g (h ++ [e]) H1 := by
  refine ⟨by rw [hz, hR.1, List.length_append]; simp; omega, ?_⟩
  rw [← ks_wl_push]
  refine (hR.2.kept (fun k q hk => ho q.1 (hR.2 k q hk).lt)).app (fun k q hk => ?_)
  have hk1 : k < 1 := (List.getElem?_eq_some_iff.mp hk).1
  have hk0 : k = 0 := by omega
  subst hk0
  cases hk
  rw [← hR.1]
  exact he
theorem ks_S.put {g : ks_G} {H0 H H1 : Heap} {locs : List Loc} (hS : va_S (ks_A g) H0 H locs) {i k : Nat} (z : H1.size = H.size) (oq : ∀ q : Nat, q ≠ g.1 + i → H1[q]? = H[q]?) : va_S (ks_A g) H0 H1 (locs ++ [⟨g.1 + i, k⟩]) := hS.put z oq (Nat.le_add_right _ _)
theorem ks_S.push {g : ks_G} {H0 H H1 : Heap} {locs : List Loc} (hS : va_S (ks_A g) H0 H locs) (z : H1.size = H.size + 1) (oq : ∀ q : Nat, q < H.size → H1[q]? = H[q]?) : va_S (ks_A g) H0 H1 locs := ⟨Nat.le_trans hS.1 (by omega), fun x h1 h2 => (oq x (Nat.lt_of_lt_of_le h1 hS.1)).trans (hS.2.1 x h1 h2), hS.2.2⟩
def ks_Cls (ci : Nat) (C : String) (T : u_T) (N : Nat) (ty0 : Nat → FieldType) : Prop := vwCl[ci]? = some (C, T, N) ∧ (∀ w ∈ u_ws C T N, w ∈ lw_g) ∧ (∀ k, k < N → parseFieldDescriptor (T k).2.2.1 = some (ty0 k)) ∧ ∀ a, a < N → ∀ b, b < N → a ≠ b → (T a).2.1 ≠ (T b).2.1
/-- the field that the entry idx of class own's pool names: slot j of class ci, its type; 1: not final, 2: final, of class own, 0: read alone -/
def ks_Fld (own : String) (idx ci j : Nat) (ty : FieldType) (fin : Nat) : Prop := ∃ (C : String) (T : u_T) (N : Nat) (ty0 : Nat → FieldType), ks_Cls ci C T N ty0 ∧ j < N ∧ Cond.fieldLink own idx (T j).1 (T j).2.1 (T j).2.2.1 ∈ lw_g ∧ ty0 j = ty ∧ (fin = 1 → (T j).2.2.2 = false) ∧ (fin = 2 → (T j).2.2.2 = true ∧ (T j).1 = own)
/-- an object is made by the entry idx -/
def ks_New (own : String) (idx ci : Nat) (fs : List Value) : Prop := ∃ (C : String) (T : u_T) (N : Nat) (ty0 : Nat → FieldType), ks_Cls ci C T N ty0 ∧ Cond.classLink own idx C ∈ lw_g ∧ Cond.instantiable C N ∈ lw_g ∧ Cond.initialized C ∈ lw_g ∧ (∀ j, j < N → defaultValue (ty0 j) = vp_V fs j) ∧ fs.length = N
/-- method y is called by the entry idx: of an object, of a class, as a constructor -/
def ks_CB (y : MethodName) (cc : ByteArray) (nL : Nat) (ret : Option FieldType) (na : Nat) : Prop := Cond.initialized y.cls ∈ lw_g ∧ Cond.code y cc nL ret ∈ lw_g ∧ (y.cls ≠ "java/lang/invoke/MethodHandle" ∧ y.cls ≠ "java/lang/invoke/VarHandle") ∧ (parseMethodDescriptor y.desc).map (fun d => d.parameters.length) = some na ∧ nL ≤ 21
def ks_CV (own : String) (idx : Nat) (y : MethodName) (cc : ByteArray) (nL : Nat) (ret : Option FieldType) (na : Nat) : Prop := ks_CB y cc nL ret na ∧ Cond.methodLink own idx y ∈ lw_g ∧ Cond.instanceMethod y ∈ lw_g ∧ Cond.selects y.cls y y ∈ lw_g
def ks_CS (own : String) (idx : Nat) (y : MethodName) (cc : ByteArray) (nL : Nat) (ret : Option FieldType) (na : Nat) : Prop := ks_CB y cc nL ret na ∧ (Cond.methodLink own idx y ∈ lw_g ∨ ∃ host, (own, idx, y, host) ∈ ks_nm) ∧ Cond.static y ∈ lw_g
def ks_CI (own : String) (idx : Nat) (y : MethodName) (cc : ByteArray) (nL : Nat) (na : Nat) : Prop := ks_CB y cc nL none na ∧ (Cond.methodLink own idx y ∈ lw_g ∨ ∃ host, (own, idx, y, host) ∈ ks_nm) ∧ Cond.instanceMethod y ∈ lw_g ∧ y.name = "<init>"

section KSH
variable {κ : ks_C} {g : ks_G} {own nm : String} {cc : ByteArray} {nL d mc ms k n : Nat} {h : ks_H} {ls : List (Nat × Value)} {st : List Value}

theorem ks_get (hκ : ks_Ok κ g own nm cc nL d mc ms) (pc : Nat) {ix ci i j : Nat} {ty : FieldType} {fin : Nat} {fs : List Value} {v : Value} (hd : decode cc pc = .ok (.getfield ix, 3)) (hf : ks_Fld own ix ci j ty fin) (hc : h[i]? = some (ks_O ci fs)) (hv : fs[j]? = some v) (kk : ks_K κ g nL h k n (pc + 3) ls (v :: st)) : ks_K κ g nL h k n pc ls (ks_ref g i :: st) := by
  obtain ⟨p, l, e, R, s, m, args, below, meth, c, Q⟩ := κ
  obtain ⟨hx, hb, hml, hown, hts, hin, hfr, hlo, hce, hsl, hK, hSt, hNw, hz⟩ := hκ
  obtain ⟨C, T, N, ty0, ⟨c1, c2, c3, c4⟩, f2, f3, -, -, -⟩ := hf
  intro H locs la hR hS hl
  exact va_get (D := g.2.1) (cl := vwCl) (ws := ks_wl g.1 h) (ci := ci) (C := C) (T := T) (N := N) hx hb hts c2 hown hK hR.2 i (ks_wl_get hc) c1 j f2 (hts _ f3) (fun _ h9 => h9) hv hd (kk H locs la hR hS hl)

theorem ks_put (hκ : ks_Ok κ g own nm cc nL d mc ms) (pc : Nat) {ix ci i j : Nat} {ty : FieldType} {fs : List Value} {v : Value} (hd : decode cc pc = .ok (.putfield ix, 3)) (hf : ks_Fld own ix ci j ty 1) (hc : h[i]? = some (ks_O ci fs)) (hn : narrow ty v = v) (hfit : fits ty v = true) (hlen : j < fs.length) (kk : ks_K κ g nL (h.set i (ks_O ci (fs.set j v))) k n (pc + 3) ls st) : ks_K κ g nL h k n pc ls (v :: ks_ref g i :: st) := by
  obtain ⟨p, l, e, R, s, m, args, below, meth, c, Q⟩ := κ
  obtain ⟨hx, hb, hml, hown, hts, hin, hfr, hlo, hce, hsl, hK, hSt, hNw, hz⟩ := hκ
  obtain ⟨C, T, N, ty0, ⟨c1, c2, c3, c4⟩, f2, f3, f4, f5, f6⟩ := hf
  intro H locs la hR hS hl
  have hap := va_apart (own := own) hts c2 ty0 c3 c4 hK c1
  obtain ⟨r, h1, cell, q1, q2, q3, q4⟩ := hR.at hc
  cases (Option.some.inj (h1.symm.trans c1) : r = (C, T, N))
  obtain ⟨hSf, hfc, kC, hkC, hkind⟩ := hK.1 ci _ c1
  obtain ⟨cf, kf, fi, f, hi, hsl0⟩ := hSf j f2
  have hlay := hts _ (c2 _ (u_in_lay f2))
  unfold u_lay at hlay
  rw [if_neg (by rw [f5 rfl]; decide)] at hlay
  have hst := (u_facts hfc hkC (u_lays hts c2 f2) hi).1
  have h6 := u_store hfc hkC hkind hlay hi ((c3 j f2).trans (congrArg some f4)) hn hfit
  refine W.putK hx hb (f := f) ⟨hown, hts _ f3, ⟨_, _, _, hi⟩, hst⟩ (by rw [q2]; exact h6) q1 q3 (by rw [hsl0]; exact k2_hasslot (q4 j f2)) rfl rfl hd fun H' e1 e2 e3 => ?_
  rw [hsl0] at e1
  exact kk H' _ la (hR.set hc ⟨_, c1, t_OB.to (V := updV (vp_V fs) j v) ⟨_, e1, q2, q3, t_set q4 hap f2 v⟩ (fun z _ => vp_updV_set hlen v z)⟩ e2 e3) (ks_S.put hS e2 e3) hl

theorem ks_putF (hκ : ks_Ok κ g own nm cc nL d mc ms) (pc : Nat) {ix ci i j : Nat} {ty : FieldType} {fs : List Value} {v : Value} (hd : decode cc pc = .ok (.putfield ix, 3)) (hi9 : nm = "<init>") (hf : ks_Fld own ix ci j ty 2) (hc : h[i]? = some (ks_O ci fs)) (hn : narrow ty v = v) (hfit : fits ty v = true) (hlen : j < fs.length) (kk : ks_K κ g nL (h.set i (ks_O ci (fs.set j v))) k n (pc + 3) ls st) : ks_K κ g nL h k n pc ls (v :: ks_ref g i :: st) := by
  obtain ⟨p, l, e, R, s, m, args, below, meth, c, Q⟩ := κ
  obtain ⟨hx, hb, hml, hown, hts, hin, hfr, hlo, hce, hsl, hK, hSt, hNw, hz⟩ := hκ
  obtain ⟨C, T, N, ty0, ⟨c1, c2, c3, c4⟩, f2, f3, f4, f5, f6⟩ := hf
  intro H locs la hR hS hl
  have hap := va_apart (own := own) hts c2 ty0 c3 c4 hK c1
  obtain ⟨r, h1, cell, q1, q2, q3, q4⟩ := hR.at hc
  cases (Option.some.inj (h1.symm.trans c1) : r = (C, T, N))
  obtain ⟨hSf, hfc, kC, hkC, hkind⟩ := hK.1 ci _ c1
  obtain ⟨cf, kf, fi, f, hi, hsl0⟩ := hSf j f2
  have hlay := hts _ (c2 _ (u_in_lay f2))
  unfold u_lay at hlay
  rw [if_pos (f6 rfl).1] at hlay
  have hst := (u_facts hfc hkC (u_lays hts c2 f2) hi).1
  have hcf : m.cls = cf := by
    obtain ⟨_, _, c', _, _, _, -, -, hf', -, -, -, hown2, -⟩ := Cond.laysFinal_spec hlay
    have e1 : c' = cf := by have := hi.symm.trans hf'; simp at this; exact this.1.symm
    rw [(f6 rfl).2] at hown2
    rw [← e1]; exact Option.some.inj (hown.symm.trans hown2)
  have h6 := u_fits hfc hkC hkind (Or.inr hlay) hi ((c3 j f2).trans (congrArg some f4)) hn hfit
  refine W.putFinK hx hb hown (hts _ f3) hi hst hcf (hin.trans hi9) (by rw [q2]; exact h6) q1 q3 (by rw [hsl0]; exact k2_hasslot (q4 j f2)) rfl rfl hd fun H' e1 e2 e3 => ?_
  rw [hsl0] at e1
  exact kk H' _ la (hR.set hc ⟨_, c1, t_OB.to (V := updV (vp_V fs) j v) ⟨_, e1, q2, q3, t_set q4 hap f2 v⟩ (fun z _ => vp_updV_set hlen v z)⟩ e2 e3) (ks_S.put hS e2 e3) hl

theorem ks_iald (hκ : ks_Ok κ g own nm cc nL d mc ms) (pc : Nat) {i N : Nat} {f : Nat → Int32} {x : Int32} (j : Nat) (hd : decode cc pc = .ok (.iaload, 1)) (hc : h[i]? = some (ks_I g N f)) (hj : x = nI j) (hjN : j < N) (hN : N < 2 ^ 31) (kk : ks_K κ g nL h k n (pc + 1) ls (.int (f j) :: st)) : ks_K κ g nL h k n pc ls (.int x :: ks_ref g i :: st) := by
  obtain ⟨p, l, e, R, s, m, args, below, meth, c, Q⟩ := κ
  obtain ⟨hx, hb, hml, hown, hts, hin, hfr, hlo, hce, hsl, hK, hSt, hNw, hz⟩ := hκ
  subst hj
  have hv9 : vp_in (nI j) N := vp_in_nI hjN hN
  have hcl : (nI j).toNatClampNeg = j := nI_clamp (by omega)
  intro H locs la hR hS hl
  refine va_iald (D := g.2.1) (cl := vwCl) (ws := ks_wl g.1 h) hx hb hK hR.2 i 0 (ks_wl_get hc) rfl hv9 hd ?_
  rw [hcl]
  exact kk H locs la hR hS hl

def ks_rf (g : ks_G) (o : Option Nat) : Value := match o with
  | none => .null
  | some a => ks_ref g a
theorem ks_rf_eq (o : Option Nat) : va_rf (o.map (fun i => g.1 + i)) = ks_rf g o := by cases o <;> rfl

theorem ks_aald (hκ : ks_Ok κ g own nm cc nL d mc ms) (pc : Nat) {i N : Nat} {f : Nat → Option Nat} {x : Int32} (j : Nat) (hd : decode cc pc = .ok (.aaload, 1)) (hc : h[i]? = some (ks_S g N f)) (hj : x = nI j) (hjN : j < N) (hN : N < 2 ^ 31) (kk : ks_K κ g nL h k n (pc + 1) ls (ks_rf g (f j) :: st)) : ks_K κ g nL h k n pc ls (.int x :: ks_ref g i :: st) := by
  obtain ⟨p, l, e, R, s, m, args, below, meth, c, Q⟩ := κ
  obtain ⟨hx, hb, hml, hown, hts, hin, hfr, hlo, hce, hsl, hK, hSt, hNw, hz⟩ := hκ
  subst hj
  have hv9 : vp_in (nI j) N := vp_in_nI hjN hN
  have hcl : (nI j).toNatClampNeg = j := nI_clamp (by omega)
  intro H locs la hR hS hl
  refine va_aldq (D := g.2.1) (cl := vwCl) (ws := ks_wl g.1 h) hx hb hK hR.2 i 1 (ks_wl_get hc) rfl hv9 hd ?_
  rw [hcl, ks_rf_eq]
  exact kk H locs la hR hS hl

theorem ks_iast (hκ : ks_Ok κ g own nm cc nL d mc ms) (pc : Nat) {i N : Nat} {f : Nat → Int32} {x y : Int32} (j : Nat) (hd : decode cc pc = .ok (.iastore, 1)) (hc : h[i]? = some (ks_I g N f)) (hj : x = nI j) (hjN : j < N) (hN : N < 2 ^ 31) (kk : ks_K κ g nL (h.set i (ks_I g N (upd f j y))) k n (pc + 1) ls st) : ks_K κ g nL h k n pc ls (.int y :: .int x :: ks_ref g i :: st) := by
  obtain ⟨p, l, e, R, s, m, args, below, meth, c, Q⟩ := κ
  obtain ⟨hx, hb, hml, hown, hts, hin, hfr, hlo, hce, hsl, hK, hSt, hNw, hz⟩ := hκ
  subst hj
  have hv9 : vp_in (nI j) N := vp_in_nI hjN hN
  have hcl : (nI j).toNatClampNeg = j := nI_clamp (by omega)
  intro H locs la hR hS hl
  refine W.iast hx hb (hR.at hc) ((hK.2 0 _ rfl).1 N (fun j => .int (f j))) (fun q => by cases q) (by show ¬ (_ < 0 ∨ (arrV _ _ _).slots.size ≤ _); rw [arrV_size]; exact hv9) rfl rfl hd fun H1 e z oq => ?_
  rw [hcl] at e
  refine kk H1 _ la (hR.set hc ?_ z oq) (ks_S.put hS z oq) hl
  show H1[g.1 + i]? = some (vp_cell _ _)
  rw [e, vp_cell_i, vp_cell_i, arrV_store]
  congr 2
  funext q
  by_cases hq : q = j
  · subst hq
    simp [updV, upd]
  · simp [updV, upd, hq]

theorem ks_aast (hκ : ks_Ok κ g own nm cc nL d mc ms) (pc : Nat) {i N a : Nat} {f : Nat → Option Nat} {vs : List Value} {x : Int32} (j : Nat) (hd : decode cc pc = .ok (.aastore, 1)) (hc : h[i]? = some (ks_S g N f)) (hv : h[a]? = some (ks_O 4 vs)) (hj : x = nI j) (hjN : j < N) (hN : N < 2 ^ 31) (kk : ks_K κ g nL (h.set i (ks_S g N (va_up f j (some a)))) k n (pc + 1) ls st) : ks_K κ g nL h k n pc ls (ks_ref g a :: .int x :: ks_ref g i :: st) := by
  obtain ⟨p, l, e, R, s, m, args, below, meth, c, Q⟩ := κ
  obtain ⟨hx, hb, hml, hown, hts, hin, hfr, hlo, hce, hsl, hK, hSt, hNw, hz⟩ := hκ
  subst hj
  have hv9 : vp_in (nI j) N := vp_in_nI hjN hN
  have hcl : (nI j).toNatClampNeg = j := nI_clamp (by omega)
  intro H locs la hR hS hl
  have hlt : (nI j).toNatClampNeg < N := by rw [hcl]; exact hjN
  have h0 : ¬ nI j < 0 := fun q => hv9 (Or.inl q)
  obtain ⟨r', hr', cellV, g1, g2, g3, -⟩ := hR.at hv
  have hcls := (hK.1 4 (RX4, TX4, 14) rfl).2
  obtain ⟨kA, comp, k1, k2, k3, -⟩ := (hK.2 1 _ rfl).2
  have hcomp : comp = g.2.1.1 4 := Option.some.inj (k3.symm.trans hcls.1)
  subst hcomp
  obtain ⟨kC, hkC, -⟩ := hcls.2
  refine W.aast hx hb (hR.at hc) (fun q h => by cases h) (fun h => by cases h) k1 k2 rfl hkC ⟨h0, by show _ < (arrV _ _ _).slots.size; rw [arrV_size]; exact hlt⟩ g1 (fun q h => by rw [g3] at h; cases h) (by rw [g2]; exact hkC) (by rw [g2]; exact va_assign hcls) rfl rfl hd fun H1 e z oq => ?_
  rw [hcl] at e
  refine kk H1 _ la (hR.set hc ?_ z oq) (ks_S.put hS z oq) hl
  show H1[g.1 + i]? = some (vp_cell _ _)
  rw [e, vp_cell_q, vp_cell_q, arrV_store]
  congr 2
  funext q
  by_cases hq : q = j
  · subst hq
    simp [updV, va_up, va_rf]
  · simp [updV, va_up, hq]

theorem ks_len (hκ : ks_Ok κ g own nm cc nL d mc ms) (pc : Nat) {i N : Nat} {f : Nat → Option Nat} (hd : decode cc pc = .ok (.arraylength, 1)) (hc : h[i]? = some (ks_S g N f)) (kk : ks_K κ g nL h k n (pc + 1) ls (.int (nI N) :: st)) : ks_K κ g nL h k n pc ls (ks_ref g i :: st) := by
  obtain ⟨p, l, e, R, s, m, args, below, meth, c, Q⟩ := κ
  obtain ⟨hx, hb, hml, hown, hts, hin, hfr, hlo, hce, hsl, hK, hSt, hNw, hz⟩ := hκ
  intro H locs la hR hS hl
  refine W.alen (n := nI N) hx hb (hR.at hc) ((hK.2 1 _ rfl).1 N _) (by show (arrV _ _ _).slots.size.toInt32 = _; rw [arrV_size]; rfl) rfl rfl hd ?_
  exact kk H locs la hR hS hl

theorem ks_leni (hκ : ks_Ok κ g own nm cc nL d mc ms) (pc : Nat) {i N : Nat} {f : Nat → Int32} (hd : decode cc pc = .ok (.arraylength, 1)) (hc : h[i]? = some (ks_I g N f)) (kk : ks_K κ g nL h k n (pc + 1) ls (.int (nI N) :: st)) : ks_K κ g nL h k n pc ls (ks_ref g i :: st) := by
  obtain ⟨p, l, e, R, s, m, args, below, meth, c, Q⟩ := κ
  obtain ⟨hx, hb, hml, hown, hts, hin, hfr, hlo, hce, hsl, hK, hSt, hNw, hz⟩ := hκ
  intro H locs la hR hS hl
  refine W.alen (n := nI N) hx hb (hR.at hc) ((hK.2 0 _ rfl).1 N _) (by show (arrV _ _ _).slots.size.toInt32 = _; rw [arrV_size]; rfl) rfl rfl hd ?_
  exact kk H locs la hR hS hl

theorem ks_new (hκ : ks_Ok κ g own nm cc nL d mc ms) (pc : Nat) {ix ci N : Nat} {fs : List Value} (hd : decode cc pc = .ok (.new ix, 3)) (hf : ks_New own ix ci fs) (hN : fs.length = N) (hk : k + 1 ≤ mc) (hn : n + N ≤ ms) (kk : ks_K κ g nL (h ++ [ks_O ci fs]) (k + 1) (n + N) (pc + 3) ls (ks_ref g h.length :: st)) : ks_K κ g nL h k n pc ls st := by
  obtain ⟨p, l, e, R, s, m, args, below, meth, c, Q⟩ := κ
  obtain ⟨hx, hb, hml, hown, hts, hin, hfr, hlo, hce, hsl, hK, hSt, hNw, hz⟩ := hκ
  obtain ⟨C, T, N, ty0, ⟨c1, c2, c3, c4⟩, f1, f2, f3, f4, rfl⟩ := hf
  subst hN
  intro H locs la hR hS hl
  have hKn := hK.1 ci _ c1
  refine W.newcK hx hb hown (hts _ f1) (hts _ f2) (hts _ f3) rfl hd (by rw [hce]; exact hk) (by rw [hsl]; exact hn) hKn.2.1 rfl fun H1 kC hkC e1 z1 o1 => ?_
  have := kk H1 locs la (hR.push ⟨_, c1, (u_born ty0 hts c2 hKn hkC e1 c3).to f4⟩ z1 o1) (ks_S.push hS z1 o1) hl
  rw [show ks_ref g h.length = .ref H.size by rw [hR.1]; rfl] at this
  exact this

theorem ks_newi (hκ : ks_Ok κ g own nm cc nL d mc ms) (pc : Nat) {N : Nat} {x : Int32} (hd : decode cc pc = .ok (.newarray .int, 2)) (hw : Cond.arrayClass .int ∈ lw_g) (hj : x = nI N) (hN : N < 2 ^ 20) (hk : k + 1 ≤ mc) (hn : n + N ≤ ms) (kk : ks_K κ g nL (h ++ [ks_I g N (fun _ => 0)]) (k + 1) (n + N) (pc + 2) ls (ks_ref g h.length :: st)) : ks_K κ g nL h k n pc ls (.int x :: st) := by
  obtain ⟨p, l, e, R, s, m, args, below, meth, c, Q⟩ := κ
  obtain ⟨hx, hb, hml, hown, hts, hin, hfr, hlo, hce, hsl, hK, hSt, hNw, hz⟩ := hκ
  subst hj
  intro H locs la hR hS hl
  have h31 : N < 2 ^ 31 := Nat.lt_of_lt_of_le hN (by decide)
  refine va_newaK (atype := .int) hx hb (hts _ hw) rfl hd rfl (nI_pos h31) (nI_clamp h31) (Nat.le_trans (Nat.mul_le_mul_right _ (Nat.le_of_lt hN)) (by decide)) (by rw [hce]; exact hk) (by rw [hsl]; exact hn) rfl fun H1 cA e1 z1 o1 hAr hNm => ?_
  have hcA : cA = g.2.2.1.1 := Option.some.inj (hNm.symm.trans (hK.2 0 _ rfl).2)
  have := kk H1 locs la (hR.push (e := ks_I g N (fun _ => 0)) (by show H1[H.size]? = some (vp_cell _ _); rw [e1, hcA, vp_cell_i]; rfl) z1 o1) (ks_S.push hS z1 o1) hl
  rw [show ks_ref g h.length = .ref H.size by rw [hR.1]; rfl] at this
  exact this

theorem ks_newq (hκ : ks_Ok κ g own nm cc nL d mc ms) (pc : Nat) {ix N : Nat} {x : Int32} (hd : decode cc pc = .ok (.anewarray ix, 3)) (hw : Cond.classLink own ix RX4 ∈ lw_g) (hj : x = nI N) (hN : N < 2 ^ 20) (hk : k + 1 ≤ mc) (hn : n + N ≤ ms) (kk : ks_K κ g nL (h ++ [ks_S g N (fun _ => none)]) (k + 1) (n + N) (pc + 3) ls (ks_ref g h.length :: st)) : ks_K κ g nL h k n pc ls (.int x :: st) := by
  obtain ⟨p, l, e, R, s, m, args, below, meth, c, Q⟩ := κ
  obtain ⟨hx, hb, hml, hown, hts, hin, hfr, hlo, hce, hsl, hK, hSt, hNw, hz⟩ := hκ
  subst hj
  intro H locs la hR hS hl
  have h31 : N < 2 ^ 31 := Nat.lt_of_lt_of_le hN (by decide)
  refine W.anew hx hb hown (hts _ hw) (va_AO.use hNw.2.2) rfl hd rfl (nI_pos h31) (by rw [nI_clamp h31]; exact Nat.le_trans (Nat.mul_le_mul_right _ (Nat.le_of_lt hN)) (by decide)) (by rw [hce]; exact hk) (by rw [hsl, nI_clamp h31]; exact hn) fun cA kA comp f1 f2 f3 f4 => ?_
  rw [nI_clamp h31]
  generalize hH1 : H.push ({ cls := cA, slots := Array.replicate N .null, vm := .none } : Cell) = H1
  have z1 : H1.size = H.size + 1 := by rw [← hH1, Array.size_push]
  have e1 : H1[H.size]? = some (arrV cA N (fun _ => .null)) := by rw [← hH1, Array.getElem?_push_size, ← arrV_new]
  have o1 : ∀ q : Nat, q < H.size → H1[q]? = H[q]? := fun q hq => by rw [← hH1, Array.getElem?_push, if_neg (Nat.ne_of_lt hq)]
  obtain ⟨kA2, comp2, r1, r2, r3, r4⟩ := (hK.2 1 _ rfl).2
  have hcA : cA = g.2.2.1.2.2 := Option.some.inj (f1.symm.trans r4)
  have := kk H1 locs la (hR.push (e := ks_S g N (fun _ => none)) (by show H1[H.size]? = some (vp_cell _ _); rw [e1, hcA, vp_cell_q]; rfl) z1 o1) (ks_S.push hS z1 o1) hl
  rw [show ks_ref g h.length = .ref H.size by rw [hR.1]; rfl] at this
  exact this

theorem ks_objInit (hκ : ks_Ok κ g own nm cc nL d mc ms) (pc : Nat) {ix i : Nat} (hd : decode cc pc = .ok (.invokespecial ix, 3)) (h1 : Cond.methodLink own ix Lib.objectInit ∈ lw_g) (h2 : Cond.instanceMethod Lib.objectInit ∈ lw_g) (h3 : Cond.code Lib.objectInit ⟨#[0xb1]⟩ 1 none ∈ lw_g) (hd1 : 1 ≤ d) (hst : (st.map fun v => v.category).sum ≤ 8) (kk : ks_K κ g nL h k n (pc + 3) ls st) : ks_K κ g nL h k n pc ls (ks_ref g i :: st) := by
  obtain ⟨p, l, e, R, s, m, args, below, meth, c, Q⟩ := κ
  obtain ⟨hx, hb, hml, hown, hts, hin, hfr, hlo, hce, hsl, hK, hSt, hNw, hz⟩ := hκ
  intro H locs la hR hS hl
  exact W.objInit hx hb hown (hts _ h1) (hts _ h2) (hts _ h3) rfl (by rw [hml]; exact hl.1) rfl hd (by rw [hfr]; exact hd1) (by show 2 * 0 + _ + 12 ≤ _; omega) (kk H locs la hR hS hl)

theorem ks_max (hκ : ks_Ok κ g own nm cc nL d mc ms) (pc : Nat) {ix : Nat} {x y : Int32} (hd : decode cc pc = .ok (.invokestatic ix, 3)) (h1 : Cond.methodLink own ix Lib.Math.max.name ∈ lw_g) (h2 : Cond.static Lib.Math.max.name ∈ lw_g) (h3 : Cond.initialized "java/lang/Math" ∈ lw_g) (h4 : Cond.code Lib.Math.max.name Lib.Math.max.code 2 (some .int) ∈ lw_g) (hd1 : 1 ≤ d) (hk : k ≤ mc) (hn : n ≤ ms) (hst : (st.map fun v => v.category).sum ≤ 8) (kk : ks_K κ g nL h k n (pc + 3) ls (.int (if x < y then y else x) :: st)) : ks_K κ g nL h k n pc ls (.int y :: .int x :: st) := by
  obtain ⟨p, l, e, R, s, m, args, below, meth, c, Q⟩ := κ
  obtain ⟨hx, hb, hml, hown, hts, hin, hfr, hlo, hce, hsl, hK, hSt, hNw, hz⟩ := hκ
  intro H locs la hR hS hl
  exact va_mmax hx hb (hml.trans hl.1.symm) hown (hts _ h1) (hts _ h2) (hts _ h3) (hts _ h4) (by rw [hfr]; exact hd1) (by omega) (by rw [hce]; exact hk) (by rw [hsl]; exact hn) hd (kk H locs la hR hS hl)

theorem ks_abs (hκ : ks_Ok κ g own nm cc nL d mc ms) (pc : Nat) {ix : Nat} {x : Int32} (hd : decode cc pc = .ok (.invokestatic ix, 3)) (h1 : Cond.methodLink own ix Lib.Math.abs.name ∈ lw_g) (h2 : Cond.static Lib.Math.abs.name ∈ lw_g) (h3 : Cond.initialized "java/lang/Math" ∈ lw_g) (h4 : Cond.code Lib.Math.abs.name Lib.Math.abs.code 1 (some .int) ∈ lw_g) (hd1 : 1 ≤ d) (hk : k ≤ mc) (hn : n ≤ ms) (hst : (st.map fun v => v.category).sum ≤ 8) (kk : ks_K κ g nL h k n (pc + 3) ls (.int (if 0 ≤ x then x else 0 - x) :: st)) : ks_K κ g nL h k n pc ls (.int x :: st) := by
  obtain ⟨p, l, e, R, s, m, args, below, meth, c, Q⟩ := κ
  obtain ⟨hx, hb, hml, hown, hts, hin, hfr, hlo, hce, hsl, hK, hSt, hNw, hz⟩ := hκ
  intro H locs la hR hS hl
  exact va_mabs hx hb (hml.trans hl.1.symm) hown (hts _ h1) (hts _ h2) (hts _ h3) (hts _ h4) (by rw [hfr]; exact hd1) (by omega) (by rw [hce]; exact hk) (by rw [hsl]; exact hn) hd (kk H locs la hR hS hl)

theorem ks_getst0 (hκ : ks_Ok κ g own nm cc nL d mc ms) (pc : Nat) {ix : Nat} (hd : decode cc pc = .ok (.getstatic ix, 3)) (hw : (own, ix, RX6, "FIRST_VALUE", "[I", RX6) ∈ ks_nf) (kk : ks_K κ g nL h k n (pc + 3) ls (.ref g.2.2.2.1 :: st)) : ks_K κ g nL h k n pc ls st := by
  obtain ⟨p, l, e, R, s, m, args, below, meth, c, Q⟩ := κ
  obtain ⟨hx, hb, hml, hown, hts, hin, hfr, hlo, hce, hsl, hK, hSt, hNw, hz⟩ := hκ
  intro H locs la hR hS hl
  exact va_getsN hx hb hSt.1.1 hS hown (va_Nw.use rfl (hNw.2.1 _ hw)) (fun _ h9 => h9) hd (kk H locs la hR hS hl)

theorem ks_tald0 (hκ : ks_Ok κ g own nm cc nL d mc ms) (pc : Nat) {x : Int32} (j : Nat) (hd : decode cc pc = .ok (.iaload, 1)) (hj : x = nI j) (hjN : j < 4) (kk : ks_K κ g nL h k n (pc + 1) ls (.int (([3, 4, 5, 14] : List Int32).getD j 0) :: st)) : ks_K κ g nL h k n pc ls (.int x :: .ref g.2.2.2.1 :: st) := by
  obtain ⟨p, l, e, R, s, m, args, below, meth, c, Q⟩ := κ
  obtain ⟨hx, hb, hml, hown, hts, hin, hfr, hlo, hce, hsl, hK, hSt, hNw, hz⟩ := hκ
  subst hj
  intro H locs la hR hS hl
  have hcl : (nI j).toNatClampNeg = j := nI_clamp (by omega)
  exact va_ti hx hb hSt.1.2 hS (vp_in_nI hjN (by decide)) (by rw [hcl]) hd (kk H locs la hR hS hl)

theorem ks_getst1 (hκ : ks_Ok κ g own nm cc nL d mc ms) (pc : Nat) {ix : Nat} (hd : decode cc pc = .ok (.getstatic ix, 3)) (hw : (own, ix, RX6, "LOWEST", "[I", RX6) ∈ ks_nf) (kk : ks_K κ g nL h k n (pc + 3) ls (.ref g.2.2.2.2.1 :: st)) : ks_K κ g nL h k n pc ls st := by
  obtain ⟨p, l, e, R, s, m, args, below, meth, c, Q⟩ := κ
  obtain ⟨hx, hb, hml, hown, hts, hin, hfr, hlo, hce, hsl, hK, hSt, hNw, hz⟩ := hκ
  intro H locs la hR hS hl
  exact va_getsN hx hb hSt.2.1.1 hS hown (va_Nw.use rfl (hNw.2.1 _ hw)) (fun _ h9 => h9) hd (kk H locs la hR hS hl)

theorem ks_tald1 (hκ : ks_Ok κ g own nm cc nL d mc ms) (pc : Nat) {x : Int32} (j : Nat) (hd : decode cc pc = .ok (.iaload, 1)) (hj : x = nI j) (hjN : j < 4) (kk : ks_K κ g nL h k n (pc + 1) ls (.int (([1, 0, 1, 2] : List Int32).getD j 0) :: st)) : ks_K κ g nL h k n pc ls (.int x :: .ref g.2.2.2.2.1 :: st) := by
  obtain ⟨p, l, e, R, s, m, args, below, meth, c, Q⟩ := κ
  obtain ⟨hx, hb, hml, hown, hts, hin, hfr, hlo, hce, hsl, hK, hSt, hNw, hz⟩ := hκ
  subst hj
  intro H locs la hR hS hl
  have hcl : (nI j).toNatClampNeg = j := nI_clamp (by omega)
  exact va_ti hx hb hSt.2.1.2 hS (vp_in_nI hjN (by decide)) (by rw [hcl]) hd (kk H locs la hR hS hl)

theorem ks_getst2 (hκ : ks_Ok κ g own nm cc nL d mc ms) (pc : Nat) {ix : Nat} (hd : decode cc pc = .ok (.getstatic ix, 3)) (hw : (own, ix, RX6, "HIGHEST", "[I", RX6) ∈ ks_nf) (kk : ks_K κ g nL h k n (pc + 3) ls (.ref g.2.2.2.2.2.1 :: st)) : ks_K κ g nL h k n pc ls st := by
  obtain ⟨p, l, e, R, s, m, args, below, meth, c, Q⟩ := κ
  obtain ⟨hx, hb, hml, hown, hts, hin, hfr, hlo, hce, hsl, hK, hSt, hNw, hz⟩ := hκ
  intro H locs la hR hS hl
  exact va_getsN hx hb hSt.2.2.1.1 hS hown (va_Nw.use rfl (hNw.2.1 _ hw)) (fun _ h9 => h9) hd (kk H locs la hR hS hl)

theorem ks_tald2 (hκ : ks_Ok κ g own nm cc nL d mc ms) (pc : Nat) {x : Int32} (j : Nat) (hd : decode cc pc = .ok (.iaload, 1)) (hj : x = nI j) (hjN : j < 4) (kk : ks_K κ g nL h k n (pc + 1) ls (.int (([8, 15, 30, 60] : List Int32).getD j 0) :: st)) : ks_K κ g nL h k n pc ls (.int x :: .ref g.2.2.2.2.2.1 :: st) := by
  obtain ⟨p, l, e, R, s, m, args, below, meth, c, Q⟩ := κ
  obtain ⟨hx, hb, hml, hown, hts, hin, hfr, hlo, hce, hsl, hK, hSt, hNw, hz⟩ := hκ
  subst hj
  intro H locs la hR hS hl
  have hcl : (nI j).toNatClampNeg = j := nI_clamp (by omega)
  exact va_ti hx hb hSt.2.2.1.2 hS (vp_in_nI hjN (by decide)) (by rw [hcl]) hd (kk H locs la hR hS hl)


theorem ks_nn {z : Int32} (hz : ¬ z < 0) : z.toInt = (z.toNatClampNeg : Int) := by
  have hz0 : (0 : Int) ≤ z.toInt := by
    have := Int32.not_lt.mp hz
    simpa using Int32.le_iff_toInt_le.mp this
  show z.toInt = ((z.toInt.toNat : Nat) : Int)
  omega
theorem ks_copy0 {p : Program} {l : Launch} {e : Env} {R : Room} {s : State} {m : MethodId} {args : Array Value} {below : List Frame} {meth : Method} {c : Code} {H : Heap} {locs : List Loc} {cells slots : Nat} {Q : State → Prop} {la : Array Slot} {pc : Nat}
    (hx : p.tables.exec = Jvm.exec) (hb : c.code = cc) (hml : c.maxLocals = la.size) {ix : Nat} (hown : s.vm.findClass own = some m.cls) (hlink : (Cond.methodLink own ix arraycopyName).before args s = true) (hnat : (Cond.native arraycopyName).before args s = true) (hstat : (Cond.static arraycopyName).before args s = true) (hini : (Cond.initialized "java/lang/System").before args s = true)
    {a0 a1 : Nat} {scr : Cell} {c1 : ClassId} {n0 n1 N : Nat} {f z : Nat → Int32} (hc0 : H[a0]? = some scr) (hof : s.isArrayOf scr .int) (hkn : scr.vm ≠ .unknown) (hn0 : n0 ≤ scr.slots.size) (hval : ∀ j : Nat, j < n0 → scr.slots[j]? = some (.int (f j)))
    (hc1 : H[a1]? = some (vp_cell c1 (n1, .inl z))) (ha1 : ArrOfT s c1 .int) (h4 : N ≤ n0) (h5 : N ≤ n1) (hN : N < 2 ^ 31)
    (hframes : 1 ≤ R.frames) (hlocals : (st.map fun v => v.category).sum + (nativeFrameWords "java/lang/System" "arraycopy" 5 + 11) ≤ R.locals) (hd : decode cc pc = .ok (.invokestatic ix, 3))
    (kk : ∀ (H1 : Heap) (locs1 : List Loc), H1[a1]? = some (vp_cell c1 (n1, .inl (va_cpy f z 0 0 N))) → H1.size = H.size → (∀ q : Nat, q ≠ a1 → H1[q]? = H[q]?) → (∀ x ∈ locs1, x.base = a1) → W p l e R s m args below meth c H1 (locs ++ locs1) cells slots Q (F0 m (pc + 3) la st)) :
    W p l e R s m args below meth c H locs cells slots Q (F0 m pc la (.int (nI N) :: .int (nI 0) :: .ref a1 :: .int (nI 0) :: .ref a0 :: st)) := by
  have hcN : (nI N).toNatClampNeg = N := nI_clamp hN
  have hc0' : (nI 0).toNatClampNeg = 0 := nI_clamp (by decide)
  have p0 : ¬ nI 0 < 0 := nI_pos (by decide)
  have pN : ¬ nI N < 0 := nI_pos hN
  intro T hT X
  obtain ⟨hs2, k0, hk0, cm0, hkk0⟩ := hof
  obtain ⟨-, k1, hk1, cm1, hkk1⟩ := ha1 n1 (fun j => .int (z j))
  obtain ⟨vm', X', step⟩ := X.arraycopy hx hown hlink hnat hstat hini (src := a0) (dst := a1) (cs := scr) (cd := vp_cell c1 (n1, .inl z)) (srcPos := nI 0) (destPos := nI 0) (n := nI N) (by rw [hT]; exact hc0) (by rw [hT]; exact hc1)
    hs2 (fun _ h => by cases h) hkn (fun h => by cases h) hk0 hk1 hkk0 hkk1 rfl p0 p0 pN
    (by rw [ks_nn p0, ks_nn pN, hcN, hc0']; omega)
    (by rw [ks_nn p0, ks_nn pN, hcN, hc0']; show ¬ _ > ((arrV c1 n1 (fun j => .int (z j))).slots.size : Int); rw [arrV_size]; omega)
    (fun vm₁ _ i hi => by
      rw [hcN] at hi
      have ev : scr.slots.getD ((nI 0).toNatClampNeg + i) .null = .int (f i) := by
        rw [hc0', Nat.zero_add, Array.getD_eq_getD_getElem?, hval i (by omega)]
        rfl
      rw [ev]
      exact ⟨rfl, trivial⟩)
    (g := F0 m pc la (.int (nI N) :: .int (nI 0) :: .ref a1 :: .int (nI 0) :: .ref a0 :: st)) rfl (by rw [hml]) (rest := st) rfl (by rw [hb]; exact hd) hframes (by show 2 * 0 + _ + _ ≤ _; omega)
  have e1 : copied scr (vp_cell c1 (n1, .inl z)) (nI 0) (nI 0) (nI N) = vp_cell c1 (n1, .inl (va_cpy f z 0 0 N)) := by
    have := va_copiedX (fun v => Value.int v) scr c1 (n0 := n0) (n1 := n1) (sp := 0) (dp := 0) (n := N) f z hval (by omega)
    unfold copied
    rw [hc0', hcN]
    exact this
  rw [e1] at X' step
  have hl : a1 < H.size := (Array.getElem?_eq_some_iff.mp hc1).1
  have hheap : ((T.setVm vm').setCell a1 (vp_cell c1 (n1, .inl (va_cpy f z 0 0 N)))).heap = H.setIfInBounds a1 (vp_cell c1 (n1, .inl (va_cpy f z 0 0 N))) := by rw [← hT]; rfl
  obtain ⟨t, b1, b2⟩ := kk (H.setIfInBounds a1 (vp_cell c1 (n1, .inl (va_cpy f z 0 0 N)))) _ (by simp [Array.getElem?_setIfInBounds, hl]) (by simp) (fun q hq => by simp [Array.getElem?_setIfInBounds, Ne.symm hq]) (fun x hx => by
      obtain ⟨z, -, hz⟩ := List.mem_map.mp hx
      rw [← hz]) _ hheap X'
  exact ⟨t, step t b1, b2⟩

theorem ks_acopy (hκ : ks_Ok κ g own nm cc nL d mc ms) (pc : Nat) {ix i0 i1 n0 n1 : Nat} {f z : Nat → Int32} {x y w : Int32} (N : Nat) (hd : decode cc pc = .ok (.invokestatic ix, 3)) (h1 : Cond.methodLink own ix arraycopyName ∈ lw_g) (h2 : Cond.native arraycopyName ∈ lw_g) (h3 : Cond.static arraycopyName ∈ lw_g) (h4 : Cond.initialized "java/lang/System" ∈ lw_g) (hd1 : 1 ≤ d) (hst : (st.map fun v => v.category).sum ≤ 8) (hc0 : h[i0]? = some (ks_I g n0 f)) (hc1 : h[i1]? = some (ks_I g n1 z)) (hx9 : x = nI N) (hy9 : y = nI 0) (hw9 : w = nI 0) (hN0 : N ≤ n0) (hN1 : N ≤ n1) (hN : N < 2 ^ 31) (kk : ks_K κ g nL (h.set i1 (ks_I g n1 (va_cpy f z 0 0 N))) k n (pc + 3) ls st) : ks_K κ g nL h k n pc ls (.int x :: .int y :: ks_ref g i1 :: .int w :: ks_ref g i0 :: st) := by
  obtain ⟨p, l, e, R, s, m, args, below, meth, c, Q⟩ := κ
  obtain ⟨hx, hb, hml, hown, hts, hin, hfr, hlo, hce, hsl, hK, hSt, hNw, hz⟩ := hκ
  subst hx9; subst hy9; subst hw9
  intro H locs la hR hS hl
  refine ks_copy0 (n0 := n0) hx hb (hml.trans hl.1.symm) hown (hts _ h1) (hts _ h2) (hts _ h3) (hts _ h4) (hR.at hc0) ((hK.2 0 _ rfl).1 n0 (fun j => .int (f j))) (fun q => by cases q) (by show _ ≤ (arrV _ _ _).slots.size; rw [arrV_size]; exact Nat.le_refl _) (fun j hj => by show (arrV _ _ _).slots[_]? = _; rw [arrV_read _ _ hj]) (hR.at hc1) (hK.2 0 _ rfl).1 hN0 hN1 hN (by rw [hfr]; exact hd1) (Nat.le_trans (Nat.add_le_add_right hst _) (Nat.le_trans (by decide) (Nat.le_trans (Nat.mul_le_mul_left 40 hd1) hlo))) hd fun H1 locs1 e1 z1 o1 hl1 => ?_
  refine kk H1 _ la (hR.set hc1 e1 z1 o1) ⟨by rw [z1]; exact hS.1, fun q g1 g2 => (o1 q (fun e => g2 (by rw [e]; exact Nat.le_add_right _ _))).trans (hS.2.1 q g1 g2), fun q hq => ?_⟩ hl
  rcases List.mem_append.mp hq with h | h
  · exact hS.2.2 q h
  · rw [hl1 q h]; exact Nat.le_add_right _ _

theorem ks_acopyT (hκ : ks_Ok κ g own nm cc nL d mc ms) (pc : Nat) {ix i1 n1 : Nat} {z : Nat → Int32} {x y w : Int32} (N : Nat) (hd : decode cc pc = .ok (.invokestatic ix, 3)) (h1 : Cond.methodLink own ix arraycopyName ∈ lw_g) (h2 : Cond.native arraycopyName ∈ lw_g) (h3 : Cond.static arraycopyName ∈ lw_g) (h4 : Cond.initialized "java/lang/System" ∈ lw_g) (hd1 : 1 ≤ d) (hst : (st.map fun v => v.category).sum ≤ 8) (hc1 : h[i1]? = some (ks_I g n1 z)) (hx9 : x = nI N) (hy9 : y = nI 0) (hw9 : w = nI 0) (hN0 : N ≤ 4) (hN1 : N ≤ n1) (kk : ks_K κ g nL (h.set i1 (ks_I g n1 (va_cpy (fun j => ([3, 4, 5, 14] : List Int32).getD j 0) z 0 0 N))) k n (pc + 3) ls st) : ks_K κ g nL h k n pc ls (.int x :: .int y :: ks_ref g i1 :: .int w :: .ref g.2.2.2.1 :: st) := by
  obtain ⟨p, l, e, R, s, m, args, below, meth, c, Q⟩ := κ
  obtain ⟨hx, hb, hml, hown, hts, hin, hfr, hlo, hce, hsl, hK, hSt, hNw, hz⟩ := hκ
  subst hx9; subst hy9; subst hw9
  intro H locs la hR hS hl
  obtain ⟨cell, t1, t2, t3, t4, t5, t6, t7⟩ := hSt.1.2
  refine ks_copy0 (n0 := 4) hx hb (hml.trans hl.1.symm) hown (hts _ h1) (hts _ h2) (hts _ h3) (hts _ h4) (by rw [hS.2.1 _ (Array.getElem?_eq_some_iff.mp t1).1 t7]; exact t1) t2 t3 t4 t6 (hR.at hc1) (hK.2 0 _ rfl).1 hN0 hN1 (Nat.lt_of_le_of_lt hN0 (by decide)) (by rw [hfr]; exact hd1) (Nat.le_trans (Nat.add_le_add_right hst _) (Nat.le_trans (by decide) (Nat.le_trans (Nat.mul_le_mul_left 40 hd1) hlo))) hd fun H1 locs1 e1 z1 o1 hl1 => ?_
  refine kk H1 _ la (hR.set hc1 e1 z1 o1) ⟨by rw [z1]; exact hS.1, fun q g1 g2 => (o1 q (fun e => g2 (by rw [e]; exact Nat.le_add_right _ _))).trans (hS.2.1 q g1 g2), fun q hq => ?_⟩ hl
  rcases List.mem_append.mp hq with h | h
  · exact hS.2.2 q h
  · rw [hl1 q h]; exact Nat.le_add_right _ _


theorem ks_blind {av : List Value} : FrameBlind (va_Pc av (ks_W g h)) := fun a U gf mk q => ⟨q.1, q.2.1, va_K.moved (u := U) (U := U.calling gf mk a) (Vm.Alike.refl U.vm) q.2.2.1, q.2.2.2.1.moved (u := U) (U := U.calling gf mk a) (Vm.Alike.refl U.vm), q.2.2.2.2.same (u := U) (U := U.calling gf mk a) rfl⟩
theorem ks_W.at {s U : State} {H : Heap} {locs : List Loc} (hU : U.heap = H) (hW : s.WarmedH U.vm) (hR : ks_R g h H) (hS : va_S (ks_A g) s.heap H locs) (hK : va_K g.2.1 vwCl (ks_tys g) s) (hSt : ks_St g s s.heap) (hNw : ks_Nw s) : ks_W g h U :=
  ⟨by rw [hU]; exact hR, va_K.moved hW.alike hK, by rw [hU]; exact (hSt.kept hS.2.1).moved hW.alike, hNw.warm hW⟩

theorem ks_callV0 (hκ : ks_Ok κ g own nm cc nL d mc ms) (pc : Nat) {ix i ci dc mc' ms' nL' : Nat} {cc' : ByteArray} {y : MethodName} {ret : Option FieldType} {fs : List Value} {Post : Option Value → ks_H → Prop} (hd : decode cc pc = .ok (.invokevirtual ix, 3)) (hw : ks_CV own ix y cc' nL' ret 0) (hM : ks_Met g (y, cc', nL', ret) dc mc' ms' [ks_ref g i] h Post) (hc : h[i]? = some (ks_O ci fs)) (hcl : (vwCl[ci]?).map (fun q => q.1) = some y.cls) (hdc : dc < d) (hk : k + mc' ≤ mc) (hn : n + ms' ≤ ms) (hst : (st.map fun v => v.category).sum ≤ 8) (kk : ∀ (v : Option Value) (h' : ks_H), Post v h' → ks_K κ g nL h' (k + mc') (n + ms') (pc + 3) ls (v.toList ++ st)) : ks_K κ g nL h k n pc ls (ks_ref g i :: st) := by
  obtain ⟨p, l, e, R, s, m, args, below, meth, c, Q⟩ := κ
  obtain ⟨hx, hb, hml, hown, hts, hin, hfr, hlo, hce, hsl, hK, hSt, hNw, hz⟩ := hκ
  obtain ⟨⟨i1, i2, i3, i4, i5⟩, hln, hrest⟩ := hw
  have hG := ks_good i2
  have hini := hts _ i1
  have hcw : Cond.code y cc' nL' ret ∈ (Cond.code y cc' nL' ret :: lw_g) := List.mem_cons_self
  have hlen : ∀ sig, parseMethodDescriptor y.desc = some sig → 0 = sig.parameters.length := fun sig hs => by
    have h2 := i4
    rw [hs] at h2
    exact (Option.some.inj h2).symm
  have hfr' : (ks_room dc mc' ms').frames + 1 ≤ R.frames := by rw [hfr]; exact hdc
  have hlo' : 8 + (nL' + 11) + (ks_room dc mc' ms').locals ≤ R.locals := by show 8 + (nL' + 11) + 40 * dc ≤ R.locals; omega
  intro H locs la hR hS hl T hT X
  obtain ⟨q, hq1, hq2⟩ : ∃ q, vwCl[ci]? = some q ∧ q.1 = y.cls := by
    cases hv : vwCl[ci]? with
    | none => rw [hv] at hcl; cases hcl
    | some q => rw [hv] at hcl; exact ⟨q, rfl, Option.some.inj hcl⟩
  have hrc := va_recv hK hR.2 hq1 (ks_wl_get hc)
  rw [hq2] at hrc
  obtain ⟨v, st₀, t, T', L, h0, X', hL, e1, e2, ⟨⟨v', h', hv, hPo, hR'⟩, hF⟩, st9⟩ := va_runV (As := []) (rest := st) (C := y.cls) (n := 0) ⟨hx, hb, hml, hown, hts⟩ (hM l) ⟨⟨rfl, rfl, hfr', hlo', pay_in hts hG, hcw, hts _ i2, hini, i3, hlen, hts _ hln⟩, hts _ hrest.1, hts _ hrest.2⟩ ⟨ks_blind, hrc, fun U hU hW => ⟨rfl, ks_W.at hU hW hR hS hK hSt hNw⟩⟩ (g := F0 m pc la (.ref (g.1 + i) :: st)) rfl rfl (hl.1) rfl (lv_room hst) hd ⟨by rw [hce]; exact hk, by rw [hsl]; exact hn⟩ T hT X
  cases hv
  obtain ⟨t2, a1, b1⟩ := kk v h' hPo T'.heap (locs ++ L) la (by rw [e1]; exact hR') ⟨Nat.le_trans hS.1 (by rw [e1, ← h0]; exact hF.1), fun q g1 g2 => by
      rw [e1, hF.2 q (by rw [h0]; exact Nat.lt_of_lt_of_le g1 hS.1) g2, h0]
      exact hS.2.1 q g1 g2, fun q hq => by
      rcases List.mem_append.mp hq with h | h
      · exact hS.2.2 q h
      · exact hL q h⟩ hl T' rfl X'
  exact ⟨t2, st9 t2 a1, b1⟩

theorem ks_callS0 (hκ : ks_Ok κ g own nm cc nL d mc ms) (pc : Nat) {ix dc mc' ms' nL' : Nat} {cc' : ByteArray} {y : MethodName} {ret : Option FieldType} {Post : Option Value → ks_H → Prop} (hd : decode cc pc = .ok (.invokestatic ix, 3)) (hw : ks_CS own ix y cc' nL' ret 0) (hM : ks_Met g (y, cc', nL', ret) dc mc' ms' [] h Post) (hdc : dc < d) (hk : k + mc' ≤ mc) (hn : n + ms' ≤ ms) (hst : (st.map fun v => v.category).sum ≤ 8) (kk : ∀ (v : Option Value) (h' : ks_H), Post v h' → ks_K κ g nL h' (k + mc') (n + ms') (pc + 3) ls (v.toList ++ st)) : ks_K κ g nL h k n pc ls (st) := by
  obtain ⟨p, l, e, R, s, m, args, below, meth, c, Q⟩ := κ
  obtain ⟨hx, hb, hml, hown, hts, hin, hfr, hlo, hce, hsl, hK, hSt, hNw, hz⟩ := hκ
  obtain ⟨⟨i1, i2, i3, i4, i5⟩, hln, hrest⟩ := hw
  have hG := ks_good i2
  have hini := hts _ i1
  have hcw : Cond.code y cc' nL' ret ∈ (Cond.code y cc' nL' ret :: lw_g) := List.mem_cons_self
  have hlen : ∀ sig, parseMethodDescriptor y.desc = some sig → 0 = sig.parameters.length := fun sig hs => by
    have h2 := i4
    rw [hs] at h2
    exact (Option.some.inj h2).symm
  have hfr' : (ks_room dc mc' ms').frames + 1 ≤ R.frames := by rw [hfr]; exact hdc
  have hlo' : 8 + (nL' + 11) + (ks_room dc mc' ms').locals ≤ R.locals := by show 8 + (nL' + 11) + 40 * dc ≤ R.locals; omega
  intro H locs la hR hS hl T hT X
  have hpre : PreS s H (va_Pc [] (ks_W g h)) [] := ⟨ks_blind, fun U hU hW => ⟨rfl, ks_W.at hU hW hR hS hK hSt hNw⟩⟩
  have hrun : va_Run p l e R s m args below meth c H locs k n mc' ms' (F0 m pc la (st)) st (ks_Q g Post ([] : List Value).toArray) (ks_A g) := by
    rcases hln with hln | ⟨host, hln⟩
    · exact va_runS (As := []) (rest := st) (n := 0) ⟨hx, hb, hml, hown, hts⟩ (hM l) ⟨⟨rfl, rfl, hfr', hlo', pay_in hts hG, hcw, hts _ i2, hini, i3, hlen, hts _ hln⟩, hts _ hrest⟩ hpre (g := F0 m pc la (st)) rfl rfl (hl.1) rfl (lv_room hst) hd ⟨by rw [hce]; exact hk, by rw [hsl]; exact hn⟩
    · exact va_runSN (As := []) (rest := st) (n := 0) (host := host) ⟨hx, hb, hml, hown, hts⟩ (hM l) ⟨⟨⟨rfl, rfl, hfr', hlo', pay_in hts hG, hcw⟩, hts _ i2, hini, i3, hlen, va_Nw.use rfl (hNw.1 _ hln)⟩, hts _ hrest, trivial⟩ hpre (g := F0 m pc la (st)) rfl rfl (hl.1) rfl (lv_room hst) hd ⟨by rw [hce]; exact hk, by rw [hsl]; exact hn⟩
  obtain ⟨v, st₀, t, T', L, h0, X', hL, e1, e2, ⟨⟨v', h', hv, hPo, hR'⟩, hF⟩, st9⟩ := hrun T hT X
  cases hv
  obtain ⟨t2, a1, b1⟩ := kk v h' hPo T'.heap (locs ++ L) la (by rw [e1]; exact hR') ⟨Nat.le_trans hS.1 (by rw [e1, ← h0]; exact hF.1), fun q g1 g2 => by
      rw [e1, hF.2 q (by rw [h0]; exact Nat.lt_of_lt_of_le g1 hS.1) g2, h0]
      exact hS.2.1 q g1 g2, fun q hq => by
      rcases List.mem_append.mp hq with h | h
      · exact hS.2.2 q h
      · exact hL q h⟩ hl T' rfl X'
  exact ⟨t2, st9 t2 a1, b1⟩

theorem ks_callV1 (hκ : ks_Ok κ g own nm cc nL d mc ms) (pc : Nat) {ix i ci dc mc' ms' nL' : Nat} {cc' : ByteArray} {y : MethodName} {ret : Option FieldType} {fs : List Value} {Post : Option Value → ks_H → Prop} {a1 : Value} (hd : decode cc pc = .ok (.invokevirtual ix, 3)) (hw : ks_CV own ix y cc' nL' ret 1) (hM : ks_Met g (y, cc', nL', ret) dc mc' ms' [ks_ref g i, a1] h Post) (hc : h[i]? = some (ks_O ci fs)) (hcl : (vwCl[ci]?).map (fun q => q.1) = some y.cls) (hdc : dc < d) (hk : k + mc' ≤ mc) (hn : n + ms' ≤ ms) (hst : (st.map fun v => v.category).sum ≤ 8) (kk : ∀ (v : Option Value) (h' : ks_H), Post v h' → ks_K κ g nL h' (k + mc') (n + ms') (pc + 3) ls (v.toList ++ st)) : ks_K κ g nL h k n pc ls (a1 :: ks_ref g i :: st) := by
  obtain ⟨p, l, e, R, s, m, args, below, meth, c, Q⟩ := κ
  obtain ⟨hx, hb, hml, hown, hts, hin, hfr, hlo, hce, hsl, hK, hSt, hNw, hz⟩ := hκ
  obtain ⟨⟨i1, i2, i3, i4, i5⟩, hln, hrest⟩ := hw
  have hG := ks_good i2
  have hini := hts _ i1
  have hcw : Cond.code y cc' nL' ret ∈ (Cond.code y cc' nL' ret :: lw_g) := List.mem_cons_self
  have hlen : ∀ sig, parseMethodDescriptor y.desc = some sig → 1 = sig.parameters.length := fun sig hs => by
    have h2 := i4
    rw [hs] at h2
    exact (Option.some.inj h2).symm
  have hfr' : (ks_room dc mc' ms').frames + 1 ≤ R.frames := by rw [hfr]; exact hdc
  have hlo' : 8 + (nL' + 11) + (ks_room dc mc' ms').locals ≤ R.locals := by show 8 + (nL' + 11) + 40 * dc ≤ R.locals; omega
  intro H locs la hR hS hl T hT X
  obtain ⟨q, hq1, hq2⟩ : ∃ q, vwCl[ci]? = some q ∧ q.1 = y.cls := by
    cases hv : vwCl[ci]? with
    | none => rw [hv] at hcl; cases hcl
    | some q => rw [hv] at hcl; exact ⟨q, rfl, Option.some.inj hcl⟩
  have hrc := va_recv hK hR.2 hq1 (ks_wl_get hc)
  rw [hq2] at hrc
  obtain ⟨v, st₀, t, T', L, h0, X', hL, e1, e2, ⟨⟨v', h', hv, hPo, hR'⟩, hF⟩, st9⟩ := va_runV (As := [a1]) (rest := st) (C := y.cls) (n := 1) ⟨hx, hb, hml, hown, hts⟩ (hM l) ⟨⟨rfl, rfl, hfr', hlo', pay_in hts hG, hcw, hts _ i2, hini, i3, hlen, hts _ hln⟩, hts _ hrest.1, hts _ hrest.2⟩ ⟨ks_blind, hrc, fun U hU hW => ⟨rfl, ks_W.at hU hW hR hS hK hSt hNw⟩⟩ (g := F0 m pc la (a1 :: .ref (g.1 + i) :: st)) rfl rfl (hl.1) rfl (lv_room hst) hd ⟨by rw [hce]; exact hk, by rw [hsl]; exact hn⟩ T hT X
  cases hv
  obtain ⟨t2, a1, b1⟩ := kk v h' hPo T'.heap (locs ++ L) la (by rw [e1]; exact hR') ⟨Nat.le_trans hS.1 (by rw [e1, ← h0]; exact hF.1), fun q g1 g2 => by
      rw [e1, hF.2 q (by rw [h0]; exact Nat.lt_of_lt_of_le g1 hS.1) g2, h0]
      exact hS.2.1 q g1 g2, fun q hq => by
      rcases List.mem_append.mp hq with h | h
      · exact hS.2.2 q h
      · exact hL q h⟩ hl T' rfl X'
  exact ⟨t2, st9 t2 a1, b1⟩

theorem ks_callS1 (hκ : ks_Ok κ g own nm cc nL d mc ms) (pc : Nat) {ix dc mc' ms' nL' : Nat} {cc' : ByteArray} {y : MethodName} {ret : Option FieldType} {Post : Option Value → ks_H → Prop} {a1 : Value} (hd : decode cc pc = .ok (.invokestatic ix, 3)) (hw : ks_CS own ix y cc' nL' ret 1) (hM : ks_Met g (y, cc', nL', ret) dc mc' ms' [a1] h Post) (hdc : dc < d) (hk : k + mc' ≤ mc) (hn : n + ms' ≤ ms) (hst : (st.map fun v => v.category).sum ≤ 8) (kk : ∀ (v : Option Value) (h' : ks_H), Post v h' → ks_K κ g nL h' (k + mc') (n + ms') (pc + 3) ls (v.toList ++ st)) : ks_K κ g nL h k n pc ls (a1 :: st) := by
  obtain ⟨p, l, e, R, s, m, args, below, meth, c, Q⟩ := κ
  obtain ⟨hx, hb, hml, hown, hts, hin, hfr, hlo, hce, hsl, hK, hSt, hNw, hz⟩ := hκ
  obtain ⟨⟨i1, i2, i3, i4, i5⟩, hln, hrest⟩ := hw
  have hG := ks_good i2
  have hini := hts _ i1
  have hcw : Cond.code y cc' nL' ret ∈ (Cond.code y cc' nL' ret :: lw_g) := List.mem_cons_self
  have hlen : ∀ sig, parseMethodDescriptor y.desc = some sig → 1 = sig.parameters.length := fun sig hs => by
    have h2 := i4
    rw [hs] at h2
    exact (Option.some.inj h2).symm
  have hfr' : (ks_room dc mc' ms').frames + 1 ≤ R.frames := by rw [hfr]; exact hdc
  have hlo' : 8 + (nL' + 11) + (ks_room dc mc' ms').locals ≤ R.locals := by show 8 + (nL' + 11) + 40 * dc ≤ R.locals; omega
  intro H locs la hR hS hl T hT X
  have hpre : PreS s H (va_Pc [a1] (ks_W g h)) [a1] := ⟨ks_blind, fun U hU hW => ⟨rfl, ks_W.at hU hW hR hS hK hSt hNw⟩⟩
  have hrun : va_Run p l e R s m args below meth c H locs k n mc' ms' (F0 m pc la (a1 :: st)) st (ks_Q g Post ([a1] : List Value).toArray) (ks_A g) := by
    rcases hln with hln | ⟨host, hln⟩
    · exact va_runS (As := [a1]) (rest := st) (n := 1) ⟨hx, hb, hml, hown, hts⟩ (hM l) ⟨⟨rfl, rfl, hfr', hlo', pay_in hts hG, hcw, hts _ i2, hini, i3, hlen, hts _ hln⟩, hts _ hrest⟩ hpre (g := F0 m pc la (a1 :: st)) rfl rfl (hl.1) rfl (lv_room hst) hd ⟨by rw [hce]; exact hk, by rw [hsl]; exact hn⟩
    · exact va_runSN (As := [a1]) (rest := st) (n := 1) (host := host) ⟨hx, hb, hml, hown, hts⟩ (hM l) ⟨⟨⟨rfl, rfl, hfr', hlo', pay_in hts hG, hcw⟩, hts _ i2, hini, i3, hlen, va_Nw.use rfl (hNw.1 _ hln)⟩, hts _ hrest, trivial⟩ hpre (g := F0 m pc la (a1 :: st)) rfl rfl (hl.1) rfl (lv_room hst) hd ⟨by rw [hce]; exact hk, by rw [hsl]; exact hn⟩
  obtain ⟨v, st₀, t, T', L, h0, X', hL, e1, e2, ⟨⟨v', h', hv, hPo, hR'⟩, hF⟩, st9⟩ := hrun T hT X
  cases hv
  obtain ⟨t2, a1, b1⟩ := kk v h' hPo T'.heap (locs ++ L) la (by rw [e1]; exact hR') ⟨Nat.le_trans hS.1 (by rw [e1, ← h0]; exact hF.1), fun q g1 g2 => by
      rw [e1, hF.2 q (by rw [h0]; exact Nat.lt_of_lt_of_le g1 hS.1) g2, h0]
      exact hS.2.1 q g1 g2, fun q hq => by
      rcases List.mem_append.mp hq with h | h
      · exact hS.2.2 q h
      · exact hL q h⟩ hl T' rfl X'
  exact ⟨t2, st9 t2 a1, b1⟩

theorem ks_callV2 (hκ : ks_Ok κ g own nm cc nL d mc ms) (pc : Nat) {ix i ci dc mc' ms' nL' : Nat} {cc' : ByteArray} {y : MethodName} {ret : Option FieldType} {fs : List Value} {Post : Option Value → ks_H → Prop} {a1 a2 : Value} (hd : decode cc pc = .ok (.invokevirtual ix, 3)) (hw : ks_CV own ix y cc' nL' ret 2) (hM : ks_Met g (y, cc', nL', ret) dc mc' ms' [ks_ref g i, a1, a2] h Post) (hc : h[i]? = some (ks_O ci fs)) (hcl : (vwCl[ci]?).map (fun q => q.1) = some y.cls) (hdc : dc < d) (hk : k + mc' ≤ mc) (hn : n + ms' ≤ ms) (hst : (st.map fun v => v.category).sum ≤ 8) (kk : ∀ (v : Option Value) (h' : ks_H), Post v h' → ks_K κ g nL h' (k + mc') (n + ms') (pc + 3) ls (v.toList ++ st)) : ks_K κ g nL h k n pc ls (a2 :: a1 :: ks_ref g i :: st) := by
  obtain ⟨p, l, e, R, s, m, args, below, meth, c, Q⟩ := κ
  obtain ⟨hx, hb, hml, hown, hts, hin, hfr, hlo, hce, hsl, hK, hSt, hNw, hz⟩ := hκ
  obtain ⟨⟨i1, i2, i3, i4, i5⟩, hln, hrest⟩ := hw
  have hG := ks_good i2
  have hini := hts _ i1
  have hcw : Cond.code y cc' nL' ret ∈ (Cond.code y cc' nL' ret :: lw_g) := List.mem_cons_self
  have hlen : ∀ sig, parseMethodDescriptor y.desc = some sig → 2 = sig.parameters.length := fun sig hs => by
    have h2 := i4
    rw [hs] at h2
    exact (Option.some.inj h2).symm
  have hfr' : (ks_room dc mc' ms').frames + 1 ≤ R.frames := by rw [hfr]; exact hdc
  have hlo' : 8 + (nL' + 11) + (ks_room dc mc' ms').locals ≤ R.locals := by show 8 + (nL' + 11) + 40 * dc ≤ R.locals; omega
  intro H locs la hR hS hl T hT X
  obtain ⟨q, hq1, hq2⟩ : ∃ q, vwCl[ci]? = some q ∧ q.1 = y.cls := by
    cases hv : vwCl[ci]? with
    | none => rw [hv] at hcl; cases hcl
    | some q => rw [hv] at hcl; exact ⟨q, rfl, Option.some.inj hcl⟩
  have hrc := va_recv hK hR.2 hq1 (ks_wl_get hc)
  rw [hq2] at hrc
  obtain ⟨v, st₀, t, T', L, h0, X', hL, e1, e2, ⟨⟨v', h', hv, hPo, hR'⟩, hF⟩, st9⟩ := va_runV (As := [a1, a2]) (rest := st) (C := y.cls) (n := 2) ⟨hx, hb, hml, hown, hts⟩ (hM l) ⟨⟨rfl, rfl, hfr', hlo', pay_in hts hG, hcw, hts _ i2, hini, i3, hlen, hts _ hln⟩, hts _ hrest.1, hts _ hrest.2⟩ ⟨ks_blind, hrc, fun U hU hW => ⟨rfl, ks_W.at hU hW hR hS hK hSt hNw⟩⟩ (g := F0 m pc la (a2 :: a1 :: .ref (g.1 + i) :: st)) rfl rfl (hl.1) rfl (lv_room hst) hd ⟨by rw [hce]; exact hk, by rw [hsl]; exact hn⟩ T hT X
  cases hv
  obtain ⟨t2, a1, b1⟩ := kk v h' hPo T'.heap (locs ++ L) la (by rw [e1]; exact hR') ⟨Nat.le_trans hS.1 (by rw [e1, ← h0]; exact hF.1), fun q g1 g2 => by
      rw [e1, hF.2 q (by rw [h0]; exact Nat.lt_of_lt_of_le g1 hS.1) g2, h0]
      exact hS.2.1 q g1 g2, fun q hq => by
      rcases List.mem_append.mp hq with h | h
      · exact hS.2.2 q h
      · exact hL q h⟩ hl T' rfl X'
  exact ⟨t2, st9 t2 a1, b1⟩

theorem ks_callS2 (hκ : ks_Ok κ g own nm cc nL d mc ms) (pc : Nat) {ix dc mc' ms' nL' : Nat} {cc' : ByteArray} {y : MethodName} {ret : Option FieldType} {Post : Option Value → ks_H → Prop} {a1 a2 : Value} (hd : decode cc pc = .ok (.invokestatic ix, 3)) (hw : ks_CS own ix y cc' nL' ret 2) (hM : ks_Met g (y, cc', nL', ret) dc mc' ms' [a1, a2] h Post) (hdc : dc < d) (hk : k + mc' ≤ mc) (hn : n + ms' ≤ ms) (hst : (st.map fun v => v.category).sum ≤ 8) (kk : ∀ (v : Option Value) (h' : ks_H), Post v h' → ks_K κ g nL h' (k + mc') (n + ms') (pc + 3) ls (v.toList ++ st)) : ks_K κ g nL h k n pc ls (a2 :: a1 :: st) := by
  obtain ⟨p, l, e, R, s, m, args, below, meth, c, Q⟩ := κ
  obtain ⟨hx, hb, hml, hown, hts, hin, hfr, hlo, hce, hsl, hK, hSt, hNw, hz⟩ := hκ
  obtain ⟨⟨i1, i2, i3, i4, i5⟩, hln, hrest⟩ := hw
  have hG := ks_good i2
  have hini := hts _ i1
  have hcw : Cond.code y cc' nL' ret ∈ (Cond.code y cc' nL' ret :: lw_g) := List.mem_cons_self
  have hlen : ∀ sig, parseMethodDescriptor y.desc = some sig → 2 = sig.parameters.length := fun sig hs => by
    have h2 := i4
    rw [hs] at h2
    exact (Option.some.inj h2).symm
  have hfr' : (ks_room dc mc' ms').frames + 1 ≤ R.frames := by rw [hfr]; exact hdc
  have hlo' : 8 + (nL' + 11) + (ks_room dc mc' ms').locals ≤ R.locals := by show 8 + (nL' + 11) + 40 * dc ≤ R.locals; omega
  intro H locs la hR hS hl T hT X
  have hpre : PreS s H (va_Pc [a1, a2] (ks_W g h)) [a1, a2] := ⟨ks_blind, fun U hU hW => ⟨rfl, ks_W.at hU hW hR hS hK hSt hNw⟩⟩
  have hrun : va_Run p l e R s m args below meth c H locs k n mc' ms' (F0 m pc la (a2 :: a1 :: st)) st (ks_Q g Post ([a1, a2] : List Value).toArray) (ks_A g) := by
    rcases hln with hln | ⟨host, hln⟩
    · exact va_runS (As := [a1, a2]) (rest := st) (n := 2) ⟨hx, hb, hml, hown, hts⟩ (hM l) ⟨⟨rfl, rfl, hfr', hlo', pay_in hts hG, hcw, hts _ i2, hini, i3, hlen, hts _ hln⟩, hts _ hrest⟩ hpre (g := F0 m pc la (a2 :: a1 :: st)) rfl rfl (hl.1) rfl (lv_room hst) hd ⟨by rw [hce]; exact hk, by rw [hsl]; exact hn⟩
    · exact va_runSN (As := [a1, a2]) (rest := st) (n := 2) (host := host) ⟨hx, hb, hml, hown, hts⟩ (hM l) ⟨⟨⟨rfl, rfl, hfr', hlo', pay_in hts hG, hcw⟩, hts _ i2, hini, i3, hlen, va_Nw.use rfl (hNw.1 _ hln)⟩, hts _ hrest, trivial⟩ hpre (g := F0 m pc la (a2 :: a1 :: st)) rfl rfl (hl.1) rfl (lv_room hst) hd ⟨by rw [hce]; exact hk, by rw [hsl]; exact hn⟩
  obtain ⟨v, st₀, t, T', L, h0, X', hL, e1, e2, ⟨⟨v', h', hv, hPo, hR'⟩, hF⟩, st9⟩ := hrun T hT X
  cases hv
  obtain ⟨t2, a1, b1⟩ := kk v h' hPo T'.heap (locs ++ L) la (by rw [e1]; exact hR') ⟨Nat.le_trans hS.1 (by rw [e1, ← h0]; exact hF.1), fun q g1 g2 => by
      rw [e1, hF.2 q (by rw [h0]; exact Nat.lt_of_lt_of_le g1 hS.1) g2, h0]
      exact hS.2.1 q g1 g2, fun q hq => by
      rcases List.mem_append.mp hq with h | h
      · exact hS.2.2 q h
      · exact hL q h⟩ hl T' rfl X'
  exact ⟨t2, st9 t2 a1, b1⟩

theorem ks_callV3 (hκ : ks_Ok κ g own nm cc nL d mc ms) (pc : Nat) {ix i ci dc mc' ms' nL' : Nat} {cc' : ByteArray} {y : MethodName} {ret : Option FieldType} {fs : List Value} {Post : Option Value → ks_H → Prop} {a1 a2 a3 : Value} (hd : decode cc pc = .ok (.invokevirtual ix, 3)) (hw : ks_CV own ix y cc' nL' ret 3) (hM : ks_Met g (y, cc', nL', ret) dc mc' ms' [ks_ref g i, a1, a2, a3] h Post) (hc : h[i]? = some (ks_O ci fs)) (hcl : (vwCl[ci]?).map (fun q => q.1) = some y.cls) (hdc : dc < d) (hk : k + mc' ≤ mc) (hn : n + ms' ≤ ms) (hst : (st.map fun v => v.category).sum ≤ 8) (kk : ∀ (v : Option Value) (h' : ks_H), Post v h' → ks_K κ g nL h' (k + mc') (n + ms') (pc + 3) ls (v.toList ++ st)) : ks_K κ g nL h k n pc ls (a3 :: a2 :: a1 :: ks_ref g i :: st) := by
  obtain ⟨p, l, e, R, s, m, args, below, meth, c, Q⟩ := κ
  obtain ⟨hx, hb, hml, hown, hts, hin, hfr, hlo, hce, hsl, hK, hSt, hNw, hz⟩ := hκ
  obtain ⟨⟨i1, i2, i3, i4, i5⟩, hln, hrest⟩ := hw
  have hG := ks_good i2
  have hini := hts _ i1
  have hcw : Cond.code y cc' nL' ret ∈ (Cond.code y cc' nL' ret :: lw_g) := List.mem_cons_self
  have hlen : ∀ sig, parseMethodDescriptor y.desc = some sig → 3 = sig.parameters.length := fun sig hs => by
    have h2 := i4
    rw [hs] at h2
    exact (Option.some.inj h2).symm
  have hfr' : (ks_room dc mc' ms').frames + 1 ≤ R.frames := by rw [hfr]; exact hdc
  have hlo' : 8 + (nL' + 11) + (ks_room dc mc' ms').locals ≤ R.locals := by show 8 + (nL' + 11) + 40 * dc ≤ R.locals; omega
  intro H locs la hR hS hl T hT X
  obtain ⟨q, hq1, hq2⟩ : ∃ q, vwCl[ci]? = some q ∧ q.1 = y.cls := by
    cases hv : vwCl[ci]? with
    | none => rw [hv] at hcl; cases hcl
    | some q => rw [hv] at hcl; exact ⟨q, rfl, Option.some.inj hcl⟩
  have hrc := va_recv hK hR.2 hq1 (ks_wl_get hc)
  rw [hq2] at hrc
  obtain ⟨v, st₀, t, T', L, h0, X', hL, e1, e2, ⟨⟨v', h', hv, hPo, hR'⟩, hF⟩, st9⟩ := va_runV (As := [a1, a2, a3]) (rest := st) (C := y.cls) (n := 3) ⟨hx, hb, hml, hown, hts⟩ (hM l) ⟨⟨rfl, rfl, hfr', hlo', pay_in hts hG, hcw, hts _ i2, hini, i3, hlen, hts _ hln⟩, hts _ hrest.1, hts _ hrest.2⟩ ⟨ks_blind, hrc, fun U hU hW => ⟨rfl, ks_W.at hU hW hR hS hK hSt hNw⟩⟩ (g := F0 m pc la (a3 :: a2 :: a1 :: .ref (g.1 + i) :: st)) rfl rfl (hl.1) rfl (lv_room hst) hd ⟨by rw [hce]; exact hk, by rw [hsl]; exact hn⟩ T hT X
  cases hv
  obtain ⟨t2, a1, b1⟩ := kk v h' hPo T'.heap (locs ++ L) la (by rw [e1]; exact hR') ⟨Nat.le_trans hS.1 (by rw [e1, ← h0]; exact hF.1), fun q g1 g2 => by
      rw [e1, hF.2 q (by rw [h0]; exact Nat.lt_of_lt_of_le g1 hS.1) g2, h0]
      exact hS.2.1 q g1 g2, fun q hq => by
      rcases List.mem_append.mp hq with h | h
      · exact hS.2.2 q h
      · exact hL q h⟩ hl T' rfl X'
  exact ⟨t2, st9 t2 a1, b1⟩

theorem ks_callS3 (hκ : ks_Ok κ g own nm cc nL d mc ms) (pc : Nat) {ix dc mc' ms' nL' : Nat} {cc' : ByteArray} {y : MethodName} {ret : Option FieldType} {Post : Option Value → ks_H → Prop} {a1 a2 a3 : Value} (hd : decode cc pc = .ok (.invokestatic ix, 3)) (hw : ks_CS own ix y cc' nL' ret 3) (hM : ks_Met g (y, cc', nL', ret) dc mc' ms' [a1, a2, a3] h Post) (hdc : dc < d) (hk : k + mc' ≤ mc) (hn : n + ms' ≤ ms) (hst : (st.map fun v => v.category).sum ≤ 8) (kk : ∀ (v : Option Value) (h' : ks_H), Post v h' → ks_K κ g nL h' (k + mc') (n + ms') (pc + 3) ls (v.toList ++ st)) : ks_K κ g nL h k n pc ls (a3 :: a2 :: a1 :: st) := by
  obtain ⟨p, l, e, R, s, m, args, below, meth, c, Q⟩ := κ
  obtain ⟨hx, hb, hml, hown, hts, hin, hfr, hlo, hce, hsl, hK, hSt, hNw, hz⟩ := hκ
  obtain ⟨⟨i1, i2, i3, i4, i5⟩, hln, hrest⟩ := hw
  have hG := ks_good i2
  have hini := hts _ i1
  have hcw : Cond.code y cc' nL' ret ∈ (Cond.code y cc' nL' ret :: lw_g) := List.mem_cons_self
  have hlen : ∀ sig, parseMethodDescriptor y.desc = some sig → 3 = sig.parameters.length := fun sig hs => by
    have h2 := i4
    rw [hs] at h2
    exact (Option.some.inj h2).symm
  have hfr' : (ks_room dc mc' ms').frames + 1 ≤ R.frames := by rw [hfr]; exact hdc
  have hlo' : 8 + (nL' + 11) + (ks_room dc mc' ms').locals ≤ R.locals := by show 8 + (nL' + 11) + 40 * dc ≤ R.locals; omega
  intro H locs la hR hS hl T hT X
  have hpre : PreS s H (va_Pc [a1, a2, a3] (ks_W g h)) [a1, a2, a3] := ⟨ks_blind, fun U hU hW => ⟨rfl, ks_W.at hU hW hR hS hK hSt hNw⟩⟩
  have hrun : va_Run p l e R s m args below meth c H locs k n mc' ms' (F0 m pc la (a3 :: a2 :: a1 :: st)) st (ks_Q g Post ([a1, a2, a3] : List Value).toArray) (ks_A g) := by
    rcases hln with hln | ⟨host, hln⟩
    · exact va_runS (As := [a1, a2, a3]) (rest := st) (n := 3) ⟨hx, hb, hml, hown, hts⟩ (hM l) ⟨⟨rfl, rfl, hfr', hlo', pay_in hts hG, hcw, hts _ i2, hini, i3, hlen, hts _ hln⟩, hts _ hrest⟩ hpre (g := F0 m pc la (a3 :: a2 :: a1 :: st)) rfl rfl (hl.1) rfl (lv_room hst) hd ⟨by rw [hce]; exact hk, by rw [hsl]; exact hn⟩
    · exact va_runSN (As := [a1, a2, a3]) (rest := st) (n := 3) (host := host) ⟨hx, hb, hml, hown, hts⟩ (hM l) ⟨⟨⟨rfl, rfl, hfr', hlo', pay_in hts hG, hcw⟩, hts _ i2, hini, i3, hlen, va_Nw.use rfl (hNw.1 _ hln)⟩, hts _ hrest, trivial⟩ hpre (g := F0 m pc la (a3 :: a2 :: a1 :: st)) rfl rfl (hl.1) rfl (lv_room hst) hd ⟨by rw [hce]; exact hk, by rw [hsl]; exact hn⟩
  obtain ⟨v, st₀, t, T', L, h0, X', hL, e1, e2, ⟨⟨v', h', hv, hPo, hR'⟩, hF⟩, st9⟩ := hrun T hT X
  cases hv
  obtain ⟨t2, a1, b1⟩ := kk v h' hPo T'.heap (locs ++ L) la (by rw [e1]; exact hR') ⟨Nat.le_trans hS.1 (by rw [e1, ← h0]; exact hF.1), fun q g1 g2 => by
      rw [e1, hF.2 q (by rw [h0]; exact Nat.lt_of_lt_of_le g1 hS.1) g2, h0]
      exact hS.2.1 q g1 g2, fun q hq => by
      rcases List.mem_append.mp hq with h | h
      · exact hS.2.2 q h
      · exact hL q h⟩ hl T' rfl X'
  exact ⟨t2, st9 t2 a1, b1⟩

theorem ks_callV4 (hκ : ks_Ok κ g own nm cc nL d mc ms) (pc : Nat) {ix i ci dc mc' ms' nL' : Nat} {cc' : ByteArray} {y : MethodName} {ret : Option FieldType} {fs : List Value} {Post : Option Value → ks_H → Prop} {a1 a2 a3 a4 : Value} (hd : decode cc pc = .ok (.invokevirtual ix, 3)) (hw : ks_CV own ix y cc' nL' ret 4) (hM : ks_Met g (y, cc', nL', ret) dc mc' ms' [ks_ref g i, a1, a2, a3, a4] h Post) (hc : h[i]? = some (ks_O ci fs)) (hcl : (vwCl[ci]?).map (fun q => q.1) = some y.cls) (hdc : dc < d) (hk : k + mc' ≤ mc) (hn : n + ms' ≤ ms) (hst : (st.map fun v => v.category).sum ≤ 8) (kk : ∀ (v : Option Value) (h' : ks_H), Post v h' → ks_K κ g nL h' (k + mc') (n + ms') (pc + 3) ls (v.toList ++ st)) : ks_K κ g nL h k n pc ls (a4 :: a3 :: a2 :: a1 :: ks_ref g i :: st) := by
  obtain ⟨p, l, e, R, s, m, args, below, meth, c, Q⟩ := κ
  obtain ⟨hx, hb, hml, hown, hts, hin, hfr, hlo, hce, hsl, hK, hSt, hNw, hz⟩ := hκ
  obtain ⟨⟨i1, i2, i3, i4, i5⟩, hln, hrest⟩ := hw
  have hG := ks_good i2
  have hini := hts _ i1
  have hcw : Cond.code y cc' nL' ret ∈ (Cond.code y cc' nL' ret :: lw_g) := List.mem_cons_self
  have hlen : ∀ sig, parseMethodDescriptor y.desc = some sig → 4 = sig.parameters.length := fun sig hs => by
    have h2 := i4
    rw [hs] at h2
    exact (Option.some.inj h2).symm
  have hfr' : (ks_room dc mc' ms').frames + 1 ≤ R.frames := by rw [hfr]; exact hdc
  have hlo' : 8 + (nL' + 11) + (ks_room dc mc' ms').locals ≤ R.locals := by show 8 + (nL' + 11) + 40 * dc ≤ R.locals; omega
  intro H locs la hR hS hl T hT X
  obtain ⟨q, hq1, hq2⟩ : ∃ q, vwCl[ci]? = some q ∧ q.1 = y.cls := by
    cases hv : vwCl[ci]? with
    | none => rw [hv] at hcl; cases hcl
    | some q => rw [hv] at hcl; exact ⟨q, rfl, Option.some.inj hcl⟩
  have hrc := va_recv hK hR.2 hq1 (ks_wl_get hc)
  rw [hq2] at hrc
  obtain ⟨v, st₀, t, T', L, h0, X', hL, e1, e2, ⟨⟨v', h', hv, hPo, hR'⟩, hF⟩, st9⟩ := va_runV (As := [a1, a2, a3, a4]) (rest := st) (C := y.cls) (n := 4) ⟨hx, hb, hml, hown, hts⟩ (hM l) ⟨⟨rfl, rfl, hfr', hlo', pay_in hts hG, hcw, hts _ i2, hini, i3, hlen, hts _ hln⟩, hts _ hrest.1, hts _ hrest.2⟩ ⟨ks_blind, hrc, fun U hU hW => ⟨rfl, ks_W.at hU hW hR hS hK hSt hNw⟩⟩ (g := F0 m pc la (a4 :: a3 :: a2 :: a1 :: .ref (g.1 + i) :: st)) rfl rfl (hl.1) rfl (lv_room hst) hd ⟨by rw [hce]; exact hk, by rw [hsl]; exact hn⟩ T hT X
  cases hv
  obtain ⟨t2, a1, b1⟩ := kk v h' hPo T'.heap (locs ++ L) la (by rw [e1]; exact hR') ⟨Nat.le_trans hS.1 (by rw [e1, ← h0]; exact hF.1), fun q g1 g2 => by
      rw [e1, hF.2 q (by rw [h0]; exact Nat.lt_of_lt_of_le g1 hS.1) g2, h0]
      exact hS.2.1 q g1 g2, fun q hq => by
      rcases List.mem_append.mp hq with h | h
      · exact hS.2.2 q h
      · exact hL q h⟩ hl T' rfl X'
  exact ⟨t2, st9 t2 a1, b1⟩

theorem ks_callS4 (hκ : ks_Ok κ g own nm cc nL d mc ms) (pc : Nat) {ix dc mc' ms' nL' : Nat} {cc' : ByteArray} {y : MethodName} {ret : Option FieldType} {Post : Option Value → ks_H → Prop} {a1 a2 a3 a4 : Value} (hd : decode cc pc = .ok (.invokestatic ix, 3)) (hw : ks_CS own ix y cc' nL' ret 4) (hM : ks_Met g (y, cc', nL', ret) dc mc' ms' [a1, a2, a3, a4] h Post) (hdc : dc < d) (hk : k + mc' ≤ mc) (hn : n + ms' ≤ ms) (hst : (st.map fun v => v.category).sum ≤ 8) (kk : ∀ (v : Option Value) (h' : ks_H), Post v h' → ks_K κ g nL h' (k + mc') (n + ms') (pc + 3) ls (v.toList ++ st)) : ks_K κ g nL h k n pc ls (a4 :: a3 :: a2 :: a1 :: st) := by
  obtain ⟨p, l, e, R, s, m, args, below, meth, c, Q⟩ := κ
  obtain ⟨hx, hb, hml, hown, hts, hin, hfr, hlo, hce, hsl, hK, hSt, hNw, hz⟩ := hκ
  obtain ⟨⟨i1, i2, i3, i4, i5⟩, hln, hrest⟩ := hw
  have hG := ks_good i2
  have hini := hts _ i1
  have hcw : Cond.code y cc' nL' ret ∈ (Cond.code y cc' nL' ret :: lw_g) := List.mem_cons_self
  have hlen : ∀ sig, parseMethodDescriptor y.desc = some sig → 4 = sig.parameters.length := fun sig hs => by
    have h2 := i4
    rw [hs] at h2
    exact (Option.some.inj h2).symm
  have hfr' : (ks_room dc mc' ms').frames + 1 ≤ R.frames := by rw [hfr]; exact hdc
  have hlo' : 8 + (nL' + 11) + (ks_room dc mc' ms').locals ≤ R.locals := by show 8 + (nL' + 11) + 40 * dc ≤ R.locals; omega
  intro H locs la hR hS hl T hT X
  have hpre : PreS s H (va_Pc [a1, a2, a3, a4] (ks_W g h)) [a1, a2, a3, a4] := ⟨ks_blind, fun U hU hW => ⟨rfl, ks_W.at hU hW hR hS hK hSt hNw⟩⟩
  have hrun : va_Run p l e R s m args below meth c H locs k n mc' ms' (F0 m pc la (a4 :: a3 :: a2 :: a1 :: st)) st (ks_Q g Post ([a1, a2, a3, a4] : List Value).toArray) (ks_A g) := by
    rcases hln with hln | ⟨host, hln⟩
    · exact va_runS (As := [a1, a2, a3, a4]) (rest := st) (n := 4) ⟨hx, hb, hml, hown, hts⟩ (hM l) ⟨⟨rfl, rfl, hfr', hlo', pay_in hts hG, hcw, hts _ i2, hini, i3, hlen, hts _ hln⟩, hts _ hrest⟩ hpre (g := F0 m pc la (a4 :: a3 :: a2 :: a1 :: st)) rfl rfl (hl.1) rfl (lv_room hst) hd ⟨by rw [hce]; exact hk, by rw [hsl]; exact hn⟩
    · exact va_runSN (As := [a1, a2, a3, a4]) (rest := st) (n := 4) (host := host) ⟨hx, hb, hml, hown, hts⟩ (hM l) ⟨⟨⟨rfl, rfl, hfr', hlo', pay_in hts hG, hcw⟩, hts _ i2, hini, i3, hlen, va_Nw.use rfl (hNw.1 _ hln)⟩, hts _ hrest, trivial⟩ hpre (g := F0 m pc la (a4 :: a3 :: a2 :: a1 :: st)) rfl rfl (hl.1) rfl (lv_room hst) hd ⟨by rw [hce]; exact hk, by rw [hsl]; exact hn⟩
  obtain ⟨v, st₀, t, T', L, h0, X', hL, e1, e2, ⟨⟨v', h', hv, hPo, hR'⟩, hF⟩, st9⟩ := hrun T hT X
  cases hv
  obtain ⟨t2, a1, b1⟩ := kk v h' hPo T'.heap (locs ++ L) la (by rw [e1]; exact hR') ⟨Nat.le_trans hS.1 (by rw [e1, ← h0]; exact hF.1), fun q g1 g2 => by
      rw [e1, hF.2 q (by rw [h0]; exact Nat.lt_of_lt_of_le g1 hS.1) g2, h0]
      exact hS.2.1 q g1 g2, fun q hq => by
      rcases List.mem_append.mp hq with h | h
      · exact hS.2.2 q h
      · exact hL q h⟩ hl T' rfl X'
  exact ⟨t2, st9 t2 a1, b1⟩

theorem ks_callS5 (hκ : ks_Ok κ g own nm cc nL d mc ms) (pc : Nat) {ix dc mc' ms' nL' : Nat} {cc' : ByteArray} {y : MethodName} {ret : Option FieldType} {Post : Option Value → ks_H → Prop} {a1 a2 a3 a4 a5 : Value} (hd : decode cc pc = .ok (.invokestatic ix, 3)) (hw : ks_CS own ix y cc' nL' ret 5) (hM : ks_Met g (y, cc', nL', ret) dc mc' ms' [a1, a2, a3, a4, a5] h Post) (hdc : dc < d) (hk : k + mc' ≤ mc) (hn : n + ms' ≤ ms) (hst : (st.map fun v => v.category).sum ≤ 8) (kk : ∀ (v : Option Value) (h' : ks_H), Post v h' → ks_K κ g nL h' (k + mc') (n + ms') (pc + 3) ls (v.toList ++ st)) : ks_K κ g nL h k n pc ls (a5 :: a4 :: a3 :: a2 :: a1 :: st) := by
  obtain ⟨p, l, e, R, s, m, args, below, meth, c, Q⟩ := κ
  obtain ⟨hx, hb, hml, hown, hts, hin, hfr, hlo, hce, hsl, hK, hSt, hNw, hz⟩ := hκ
  obtain ⟨⟨i1, i2, i3, i4, i5⟩, hln, hrest⟩ := hw
  have hG := ks_good i2
  have hini := hts _ i1
  have hcw : Cond.code y cc' nL' ret ∈ (Cond.code y cc' nL' ret :: lw_g) := List.mem_cons_self
  have hlen : ∀ sig, parseMethodDescriptor y.desc = some sig → 5 = sig.parameters.length := fun sig hs => by
    have h2 := i4
    rw [hs] at h2
    exact (Option.some.inj h2).symm
  have hfr' : (ks_room dc mc' ms').frames + 1 ≤ R.frames := by rw [hfr]; exact hdc
  have hlo' : 8 + (nL' + 11) + (ks_room dc mc' ms').locals ≤ R.locals := by show 8 + (nL' + 11) + 40 * dc ≤ R.locals; omega
  intro H locs la hR hS hl T hT X
  have hpre : PreS s H (va_Pc [a1, a2, a3, a4, a5] (ks_W g h)) [a1, a2, a3, a4, a5] := ⟨ks_blind, fun U hU hW => ⟨rfl, ks_W.at hU hW hR hS hK hSt hNw⟩⟩
  have hrun : va_Run p l e R s m args below meth c H locs k n mc' ms' (F0 m pc la (a5 :: a4 :: a3 :: a2 :: a1 :: st)) st (ks_Q g Post ([a1, a2, a3, a4, a5] : List Value).toArray) (ks_A g) := by
    rcases hln with hln | ⟨host, hln⟩
    · exact va_runS (As := [a1, a2, a3, a4, a5]) (rest := st) (n := 5) ⟨hx, hb, hml, hown, hts⟩ (hM l) ⟨⟨rfl, rfl, hfr', hlo', pay_in hts hG, hcw, hts _ i2, hini, i3, hlen, hts _ hln⟩, hts _ hrest⟩ hpre (g := F0 m pc la (a5 :: a4 :: a3 :: a2 :: a1 :: st)) rfl rfl (hl.1) rfl (lv_room hst) hd ⟨by rw [hce]; exact hk, by rw [hsl]; exact hn⟩
    · exact va_runSN (As := [a1, a2, a3, a4, a5]) (rest := st) (n := 5) (host := host) ⟨hx, hb, hml, hown, hts⟩ (hM l) ⟨⟨⟨rfl, rfl, hfr', hlo', pay_in hts hG, hcw⟩, hts _ i2, hini, i3, hlen, va_Nw.use rfl (hNw.1 _ hln)⟩, hts _ hrest, trivial⟩ hpre (g := F0 m pc la (a5 :: a4 :: a3 :: a2 :: a1 :: st)) rfl rfl (hl.1) rfl (lv_room hst) hd ⟨by rw [hce]; exact hk, by rw [hsl]; exact hn⟩
  obtain ⟨v, st₀, t, T', L, h0, X', hL, e1, e2, ⟨⟨v', h', hv, hPo, hR'⟩, hF⟩, st9⟩ := hrun T hT X
  cases hv
  obtain ⟨t2, a1, b1⟩ := kk v h' hPo T'.heap (locs ++ L) la (by rw [e1]; exact hR') ⟨Nat.le_trans hS.1 (by rw [e1, ← h0]; exact hF.1), fun q g1 g2 => by
      rw [e1, hF.2 q (by rw [h0]; exact Nat.lt_of_lt_of_le g1 hS.1) g2, h0]
      exact hS.2.1 q g1 g2, fun q hq => by
      rcases List.mem_append.mp hq with h | h
      · exact hS.2.2 q h
      · exact hL q h⟩ hl T' rfl X'
  exact ⟨t2, st9 t2 a1, b1⟩

theorem ks_callI0 (hκ : ks_Ok κ g own nm cc nL d mc ms) (pc : Nat) {ix i dc mc' ms' nL' : Nat} {cc' : ByteArray} {y : MethodName} {Post : Option Value → ks_H → Prop} (hd : decode cc pc = .ok (.invokespecial ix, 3)) (hw : ks_CI own ix y cc' nL' 0) (hM : ks_Met g (y, cc', nL', none) dc mc' ms' [ks_ref g i] h Post) (hdc : dc < d) (hk : k + mc' ≤ mc) (hn : n + ms' ≤ ms) (hst : (st.map fun v => v.category).sum ≤ 8) (kk : ∀ (v : Option Value) (h' : ks_H), Post v h' → ks_K κ g nL h' (k + mc') (n + ms') (pc + 3) ls (v.toList ++ st)) : ks_K κ g nL h k n pc ls (ks_ref g i :: st) := by
  obtain ⟨p, l, e, R, s, m, args, below, meth, c, Q⟩ := κ
  obtain ⟨hx, hb, hml, hown, hts, hin, hfr, hlo, hce, hsl, hK, hSt, hNw, hz⟩ := hκ
  obtain ⟨⟨i1, i2, i3, i4, i5⟩, hln, hrest⟩ := hw
  have hG := ks_good i2
  have hini := hts _ i1
  have hcw : Cond.code y cc' nL' none ∈ (Cond.code y cc' nL' none :: lw_g) := List.mem_cons_self
  have hlen : ∀ sig, parseMethodDescriptor y.desc = some sig → 0 = sig.parameters.length := fun sig hs => by
    have h2 := i4
    rw [hs] at h2
    exact (Option.some.inj h2).symm
  have hfr' : (ks_room dc mc' ms').frames + 1 ≤ R.frames := by rw [hfr]; exact hdc
  have hlo' : 8 + (nL' + 11) + (ks_room dc mc' ms').locals ≤ R.locals := by show 8 + (nL' + 11) + 40 * dc ≤ R.locals; omega
  intro H locs la hR hS hl T hT X
  have hpre : PreS s H (va_Pc [ks_ref g i] (ks_W g h)) [.ref (g.1 + i)] := ⟨ks_blind, fun U hU hW => ⟨rfl, ks_W.at hU hW hR hS hK hSt hNw⟩⟩
  have hrun : va_Run p l e R s m args below meth c H locs k n mc' ms' (F0 m pc la (.ref (g.1 + i) :: st)) st (ks_Q g Post ([.ref (g.1 + i)] : List Value).toArray) (ks_A g) := by
    rcases hln with hln | ⟨host, hln⟩
    · exact va_runI (As := []) (rest := st) (n := 0) ⟨hx, hb, hml, hown, hts⟩ (hM l) ⟨⟨rfl, rfl, hfr', hlo', pay_in hts hG, hcw, hts _ i2, hini, i3, hlen, hts _ hln⟩, hrest.2, hts _ hrest.1⟩ hpre (g := F0 m pc la (.ref (g.1 + i) :: st)) rfl rfl (hl.1) rfl (lv_room hst) hd ⟨by rw [hce]; exact hk, by rw [hsl]; exact hn⟩
    · exact va_runIN (As := []) (rest := st) (n := 0) (host := host) ⟨hx, hb, hml, hown, hts⟩ (hM l) ⟨⟨⟨rfl, rfl, hfr', hlo', pay_in hts hG, hcw⟩, hts _ i2, hini, i3, hlen, va_Nw.use rfl (hNw.1 _ hln)⟩, hrest.2, hts _ hrest.1⟩ hpre (g := F0 m pc la (.ref (g.1 + i) :: st)) rfl rfl (hl.1) rfl (lv_room hst) hd ⟨by rw [hce]; exact hk, by rw [hsl]; exact hn⟩
  obtain ⟨v, st₀, t, T', L, h0, X', hL, e1, e2, ⟨⟨v', h', hv, hPo, hR'⟩, hF⟩, st9⟩ := hrun T hT X
  cases hv
  obtain ⟨t2, a1, b1⟩ := kk v h' hPo T'.heap (locs ++ L) la (by rw [e1]; exact hR') ⟨Nat.le_trans hS.1 (by rw [e1, ← h0]; exact hF.1), fun q g1 g2 => by
      rw [e1, hF.2 q (by rw [h0]; exact Nat.lt_of_lt_of_le g1 hS.1) g2, h0]
      exact hS.2.1 q g1 g2, fun q hq => by
      rcases List.mem_append.mp hq with h | h
      · exact hS.2.2 q h
      · exact hL q h⟩ hl T' rfl X'
  exact ⟨t2, st9 t2 a1, b1⟩

theorem ks_iret (hκ : ks_Ok κ g own nm cc nL d mc ms) (pc : Nat) {Post : Option Value → ks_H → Prop} {x : Int32} {ty : FieldType} (hRt : ks_Rt κ g (some ty) mc ms Post) (hd : decode cc pc = .ok (.ireturn, 1)) (hk : k ≤ mc) (hn : n ≤ ms) (hnr : narrow ty (.int x) = .int x) (hp : Post (some (.int x)) h) : ks_K κ g nL h k n pc ls [.int x] := by
  obtain ⟨p, l, e, R, s, m, args, below, meth, c, Q⟩ := κ
  obtain ⟨hx, hb, hml, hown, hts, hin, hfr, hlo, hce, hsl, hK, hSt, hNw, hz⟩ := hκ
  obtain ⟨r1, r2, rfl⟩ := hRt
  have hlocks := r2
  intro H locs la hR hS hl
  refine W.widen hk hn ?_
  exact W.zret hx hb r1 hnr (fun t ht hW => ⟨⟨_, h, rfl, hp, by rw [ht]; exact hR⟩, hS.F ht⟩) hS.2.2 hd

theorem ks_vret (hκ : ks_Ok κ g own nm cc nL d mc ms) (pc : Nat) {Post : Option Value → ks_H → Prop} (hRt : ks_Rt κ g none mc ms Post) (hd : decode cc pc = .ok (.return_, 1)) (hk : k ≤ mc) (hn : n ≤ ms) (hp : Post none h) : ks_K κ g nL h k n pc ls [] := by
  obtain ⟨p, l, e, R, s, m, args, below, meth, c, Q⟩ := κ
  obtain ⟨hx, hb, hml, hown, hts, hin, hfr, hlo, hce, hsl, hK, hSt, hNw, hz⟩ := hκ
  obtain ⟨r1, r2, rfl⟩ := hRt
  have hlocks := r2
  intro H locs la hR hS hl
  refine W.widen hk hn ?_
  exact W.vret hx hb r1 (fun t ht hW => ⟨⟨_, h, rfl, hp, by rw [ht]; exact hR⟩, hS.F ht⟩) hS.2.2 hd

theorem ks_aret (hκ : ks_Ok κ g own nm cc nL d mc ms) (pc : Nat) {Post : Option Value → ks_H → Prop} {i : Nat} {C : String} (hRt : ks_Rt κ g (some (.object C)) mc ms Post) (hd : decode cc pc = .ok (.areturn, 1)) (hk : k ≤ mc) (hn : n ≤ ms) (hp : Post (some (ks_ref g i)) h) : ks_K κ g nL h k n pc ls [ks_ref g i] := by
  obtain ⟨p, l, e, R, s, m, args, below, meth, c, Q⟩ := κ
  obtain ⟨hx, hb, hml, hown, hts, hin, hfr, hlo, hce, hsl, hK, hSt, hNw, hz⟩ := hκ
  obtain ⟨r1, r2, rfl⟩ := hRt
  have hlocks := r2
  intro H locs la hR hS hl
  refine W.widen hk hn ?_
  exact W.aret hx hb r1 (Or.inl ⟨_, rfl⟩) (Or.inr ⟨_, rfl⟩) (fun t ht hW => ⟨⟨_, h, rfl, hp, by rw [ht]; exact hR⟩, hS.F ht⟩) hS.2.2 hd

end KSH

