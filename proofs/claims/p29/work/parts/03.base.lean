
/-! THE ABSTRACT HEAP: the cells that the law's run makes, in the order in which they are made: cell i lies at the address z + i -/
abbrev ks_H : Type := List va_E
/-- z; the classes; the classes of int[], boolean[] and Stairs[]; the addresses of the three static rows; the script, its length, its ints -/
abbrev ks_G : Type := Nat × va_G × (ClassId × ClassId × ClassId) × (Nat × Nat × Nat × Nat × Nat × (Nat → Int32))
def ks_ref (g : ks_G) (i : Nat) : Value := .ref (g.1 + i)
def ks_I (g : ks_G) (n : Nat) (f : Nat → Int32) : va_E := .inl (g.2.2.1.1, (n, .inl f))
def ks_S (g : ks_G) (n : Nat) (f : Nat → Option Nat) : va_E := .inl (g.2.2.1.2.2, (n, .inr (.inr (.inr (.inr (fun k => (f k).map (fun i => g.1 + i)))))))
def ks_O (ci : Nat) (fs : List Value) : va_E := .inr (ci, fs)
def ks_tys (g : ks_G) : List (ClassId × FieldType) := [(g.2.2.1.1, .int), (g.2.2.1.2.2, .object RX4)]
def ks_A (g : ks_G) : Nat → Prop := fun q => g.1 ≤ q
def ks_wl (z : Nat) (h : ks_H) : va_W := h.mapIdx (fun i e => (z + i, e))
theorem ks_wl_get {z : Nat} {h : ks_H} {i : Nat} {e : va_E} (hi : h[i]? = some e) : (ks_wl z h)[i]? = some (z + i, e) := by
  simp [ks_wl, hi]
theorem ks_wl_inv {z : Nat} {h : ks_H} {i : Nat} {q : Nat × va_E} (hi : (ks_wl z h)[i]? = some q) : ∃ e, h[i]? = some e ∧ q = (z + i, e) := by
  simp only [ks_wl, List.getElem?_mapIdx, Option.map_eq_some_iff] at hi
  obtain ⟨e, h1, h2⟩ := hi
  exact ⟨e, h1, h2.symm⟩
theorem ks_wl_set {z : Nat} {h : ks_H} {i : Nat} {e : va_E} : (ks_wl z h).set i (z + i, e) = ks_wl z (h.set i e) := by
  simp [ks_wl, List.mapIdx_set]
theorem ks_wl_push {z : Nat} {h : ks_H} {e : va_E} : ks_wl z h ++ [(z + h.length, e)] = ks_wl z (h ++ [e]) := by
  simp [ks_wl, List.mapIdx_append]
theorem ks_wl_D {g : ks_G} {h : ks_H} : va_D (ks_A g) (ks_wl g.1 h) := by
  refine ⟨fun i j p q hi hj hpq => ?_, fun k q hk => ?_⟩
  · obtain ⟨e1, -, rfl⟩ := ks_wl_inv hi
    obtain ⟨e2, -, rfl⟩ := ks_wl_inv hj
    have : g.1 + i = g.1 + j := hpq
    omega
  · obtain ⟨e1, -, rfl⟩ := ks_wl_inv hk
    exact Nat.le_add_right _ _
def ks_R (g : ks_G) (h : ks_H) (H : Heap) : Prop := H.size = g.1 + h.length ∧ va_P g.2.1 vwCl (ks_wl g.1 h) H
def ks_St1 (g : ks_G) (nm : String) (a : Nat) (vs : List Int32) (U : State) (H : Heap) : Prop := va_Z RX6 nm "[I" (.ref a) (ks_A g) U H ∧ va_T .int a 4 (fun j => .int (vs.getD j 0)) (ks_A g) U H
def ks_Scr (g : ks_G) (U : State) (H : Heap) : Prop := va_X g.2.2.2.2.2.2.1 g.2.2.2.2.2.2.2.1 g.2.2.2.2.2.2.2.2 U H ∧ g.2.2.2.2.2.2.1 < H.size ∧ ¬ ks_A g g.2.2.2.2.2.2.1
theorem ks_Scr.moved {g : ks_G} {u U : State} {H : Heap} (hvm : u.vm.Alike U.vm) (x : ks_Scr g u H) : ks_Scr g U H := ⟨x.1.moved hvm, x.2⟩
theorem ks_Scr.kept {g : ks_G} {U : State} {H H1 : Heap} (x : ks_Scr g U H) (hq : ∀ a : Nat, a < H.size → ¬ ks_A g a → H1[a]? = H[a]?) : ks_Scr g U H1 := by
  obtain ⟨h1, h2, h3⟩ := x
  have e := hq _ h2 h3
  refine ⟨h1.kept e, ?_, h3⟩
  obtain ⟨scr, h4, -⟩ := h1
  rw [h4] at e
  exact (Array.getElem?_eq_some_iff.mp e).1
def ks_St (g : ks_G) (U : State) (H : Heap) : Prop := ks_St1 g "FIRST_VALUE" g.2.2.2.1 [3, 4, 5, 14] U H ∧ ks_St1 g "LOWEST" g.2.2.2.2.1 [1, 0, 1, 2] U H ∧ ks_St1 g "HIGHEST" g.2.2.2.2.2.1 [8, 15, 30, 60] U H ∧ ks_Scr g U H
theorem ks_St1.moved {g : ks_G} {nm : String} {a : Nat} {vs : List Int32} {u U : State} {H : Heap} (hvm : u.vm.Alike U.vm) (x : ks_St1 g nm a vs u H) : ks_St1 g nm a vs U H := ⟨x.1.moved hvm, x.2.moved hvm⟩
theorem ks_St1.kept {g : ks_G} {nm : String} {a : Nat} {vs : List Int32} {U : State} {H H1 : Heap} (x : ks_St1 g nm a vs U H) (hq : ∀ a : Nat, a < H.size → ¬ ks_A g a → H1[a]? = H[a]?) : ks_St1 g nm a vs U H1 := ⟨x.1.kept hq, x.2.kept hq⟩
theorem ks_St.moved {g : ks_G} {u U : State} {H : Heap} (hvm : u.vm.Alike U.vm) (x : ks_St g u H) : ks_St g U H := ⟨x.1.moved hvm, x.2.1.moved hvm, x.2.2.1.moved hvm, x.2.2.2.moved hvm⟩
theorem ks_St.kept {g : ks_G} {U : State} {H H1 : Heap} (x : ks_St g U H) (hq : ∀ a : Nat, a < H.size → ¬ ks_A g a → H1[a]? = H[a]?) : ks_St g U H1 := ⟨x.1.kept hq, x.2.1.kept hq, x.2.2.1.kept hq, x.2.2.2.kept hq⟩
/-- the words that every call hands on -/
def lw_g : List Cond := lw_tbl.filter goodWord
theorem ks_mg {w : Cond} (i : Nat) (hi : lw_tbl[i]? = some w) (hg : goodWord w = true) : w ∈ lw_g := List.mem_filter.mpr ⟨List.mem_of_getElem? hi, hg⟩
def ks_Nw (U : State) : Prop := (∀ q ∈ ks_nm, va_Nw (.methodLinkNest q.1 q.2.1 q.2.2.1 q.2.2.2) U) ∧ (∀ q ∈ ks_nf, va_Nw (.fieldLinkNest q.1 q.2.1 q.2.2.1 q.2.2.2.1 q.2.2.2.2.1 q.2.2.2.2.2) U) ∧ va_AO RX4 U
theorem ks_Nw.warm {s U : State} (hW : s.WarmedH U.vm) (x : ks_Nw s) : ks_Nw U := ⟨fun q hq => (x.1 q hq).warmM hW, fun q hq => (x.2.1 q hq).warmF hW, x.2.2.moved hW.alike⟩
theorem ks_Nw.same {u U : State} (hv : u.vm = U.vm) (x : ks_Nw u) : ks_Nw U := ⟨fun q hq => (x.1 q hq).same rfl hv, fun q hq => (x.2.1 q hq).same rfl hv, x.2.2.moved (hv ▸ Vm.Alike.refl u.vm)⟩
/-- the world at a state -/
def ks_W (g : ks_G) (h : ks_H) (U : State) : Prop := ks_R g h U.heap ∧ va_K g.2.1 vwCl (ks_tys g) U ∧ ks_St g U U.heap ∧ ks_Nw U
abbrev ks_C : Type := Program × Launch × Env × Room × State × MethodId × Array Value × List Frame × Method × Code × (State → Prop)
/-- the machine stands at pc with these locals and this stack, over the abstract heap h; k cells and n slots were made; it comes to its end -/
def ks_K (κ : ks_C) (g : ks_G) (nL : Nat) (h : ks_H) (k n pc : Nat) (ls : List (Nat × Value)) (st : List Value) : Prop :=
  match κ with
  | (p, l, e, R, s, m, args, below, meth, c, Q) => ∀ (H : Heap) (locs : List Loc) (la : Array Slot), ks_R g h H → va_S (ks_A g) s.heap H locs → lv_has la nL ls → W p l e R s m args below meth c H locs k n Q (F0 m pc la st)
def ks_Ok (κ : ks_C) (g : ks_G) (own nm : String) (cc : ByteArray) (nL d mc ms : Nat) : Prop :=
  match κ with
  | (p, _, _, R, s, m, args, _, meth, c, _) => p.tables.exec = Jvm.exec ∧ c.code = cc ∧ c.maxLocals = nL ∧ s.vm.findClass own = some m.cls ∧ (∀ w ∈ lw_g, w.before args s = true) ∧ meth.name = nm ∧ R.frames = d ∧ 40 * d ≤ R.locals ∧ R.cells = mc ∧ R.slots = ms ∧ va_K g.2.1 vwCl (ks_tys g) s ∧ ks_St g s s.heap ∧ ks_Nw s ∧ g.1 ≤ s.heap.size
def ks_Q (g : ks_G) (Post : Option Value → ks_H → Prop) : Array Value → State → Outcome → State → Prop := fun _ st o t => (∃ (v : Option Value) (h' : ks_H), o = .returned v ∧ Post v h' ∧ ks_R g h' t.heap) ∧ va_F (ks_A g) st t
def ks_Rt (κ : ks_C) (g : ks_G) (ret : Option FieldType) (mc ms : Nat) (Post : Option Value → ks_H → Prop) : Prop :=
  match κ with
  | (_, _, _, _, s, _, args, below, meth, _, Q) => meth.sig.returnType = ret ∧ meth.locks = false ∧ Q = MQ below (ks_Q g Post) args s mc ms (ks_A g)
abbrev ks_M : Type := MethodName × ByteArray × Nat × Option FieldType
def ks_room (d mc ms : Nat) : Room := { frames := d, cells := mc, slots := ms, locals := 40 * d }
/-- method M, called with these arguments over h, comes to its end with an answer and a heap of which Post holds -/
def ks_Met (g : ks_G) (M : ks_M) (d mc ms : Nat) (av : List Value) (h : ks_H) (Post : Option Value → ks_H → Prop) : Prop :=
  ∀ l : Launch, Met l M.1 (.code M.1 M.2.1 M.2.2.1 M.2.2.2 :: lw_g) (ks_room d mc ms) (va_Pc av (ks_W g h)) (ks_Q g Post) mc ms (ks_A g)
theorem ks_good {y : MethodName} {cc : ByteArray} {nL : Nat} {ret : Option FieldType} (hc : Cond.code y cc nL ret ∈ lw_g) : GoodIn lw_g (.code y cc nL ret :: lw_g) := by
  intro w hw
  rcases List.mem_cons.mp hw with rfl | hw
  · exact ⟨hc, good_of_word (List.mem_filter.mp hc).2⟩
  · exact ⟨hw, good_of_word (List.mem_filter.mp hw).2⟩
theorem ks_intro {g : ks_G} {y : MethodName} {cc : ByteArray} {nL : Nat} {ret : Option FieldType} {d mc ms : Nat} {av : List Value} {h : ks_H} {Post : Option Value → ks_H → Prop} (hy : plainName y.cls = true) (hnl : (lg_sl av).length ≤ nL)
    (kk : ∀ κ : ks_C, ks_Ok κ g y.cls y.name cc nL d mc ms → ks_Rt κ g ret mc ms Post → ks_K κ g nL h 0 0 0 (lv_args 0 av) []) : ks_Met g (y, cc, nL, ret) d mc ms av h Post := by
  intro l
  refine Met.ofW (cc := cc) (maxL := nL) (ret := ret) hy rfl ?_
  intro p e s m args below meth c s₁ B hml hv
  obtain ⟨rfl, hR, hK, hSt, hNw⟩ := hv
  have hts := atoms_spec (ws := .code y cc nL ret :: lw_g) B.pre
  have hown : s.vm.findClass y.cls = some m.cls := findClass_of_methodNamed B.named
  have hin : meth.name = y.name := (name_of_methodNamed B.named B.method).1
  have hl := lv_entry av hnl
  rw [lg_entry_eq]
  exact kk (p, l, e, _, s, m, _, below, meth, c, _) ⟨B.exec, B.bytes, hml, hown, fun w hw => hts w (List.mem_cons_of_mem _ hw), hin, rfl, Nat.le_refl _, rfl, rfl, hK, hSt, hNw, by rw [hR.1]; exact Nat.le_add_right _ _⟩ ⟨B.returns, B.notSynchronized, rfl⟩ s.heap [] _ hR va_S.rf hl
section KSR
variable {κ : ks_C} {g : ks_G} {own nm : String} {cc : ByteArray} {nL d mc ms k n : Nat} {h : ks_H} {ls : List (Nat × Value)} {st : List Value}
theorem ks_iconst (hκ : ks_Ok κ g own nm cc nL d mc ms) (pc : Nat) {q : Int} (v : Int32) (hd : decode cc pc = .ok (.iconst q, 1)) (hv : Int32.ofInt q = v) (kk : ks_K κ g nL h k n (pc + 1) ls (.int v :: st)) : ks_K κ g nL h k n pc ls st := by
  obtain ⟨p, l, e, R, s, m, args, below, meth, c, Q⟩ := κ
  obtain ⟨hx, hb, hml, hown, hts, hin, hfr, hlo, hce, hsl, hK, hSt, hNw, hz⟩ := hκ
  exact fun H locs la hR hS hl => lv_iconst hx hb hd hv (kk H locs la hR hS hl)
theorem ks_bipush (hκ : ks_Ok κ g own nm cc nL d mc ms) (pc : Nat) {q : Int} (v : Int32) (hd : decode cc pc = .ok (.bipush q, 2)) (hv : (Int8.ofInt q).toInt32 = v) (kk : ks_K κ g nL h k n (pc + 2) ls (.int v :: st)) : ks_K κ g nL h k n pc ls st := by
  obtain ⟨p, l, e, R, s, m, args, below, meth, c, Q⟩ := κ
  obtain ⟨hx, hb, hml, hown, hts, hin, hfr, hlo, hce, hsl, hK, hSt, hNw, hz⟩ := hκ
  exact fun H locs la hR hS hl => lv_bipush hx hb hd hv (kk H locs la hR hS hl)
theorem ks_sipush (hκ : ks_Ok κ g own nm cc nL d mc ms) (pc : Nat) {q : Int} (v : Int32) (hd : decode cc pc = .ok (.sipush q, 3)) (hv : (Int16.ofInt q).toInt32 = v) (kk : ks_K κ g nL h k n (pc + 3) ls (.int v :: st)) : ks_K κ g nL h k n pc ls st := by
  obtain ⟨p, l, e, R, s, m, args, below, meth, c, Q⟩ := κ
  obtain ⟨hx, hb, hml, hown, hts, hin, hfr, hlo, hce, hsl, hK, hSt, hNw, hz⟩ := hκ
  exact fun H locs la hR hS hl => lv_sipush hx hb hd hv (kk H locs la hR hS hl)
theorem ks_lconst (hκ : ks_Ok κ g own nm cc nL d mc ms) (pc : Nat) {q : Fin 2} (v : Int64) (hd : decode cc pc = .ok (.lconst q, 1)) (hv : Int64.ofNat (q : Nat) = v) (kk : ks_K κ g nL h k n (pc + 1) ls (.long v :: st)) : ks_K κ g nL h k n pc ls st := by
  obtain ⟨p, l, e, R, s, m, args, below, meth, c, Q⟩ := κ
  obtain ⟨hx, hb, hml, hown, hts, hin, hfr, hlo, hce, hsl, hK, hSt, hNw, hz⟩ := hκ
  exact fun H locs la hR hS hl => lv_lconst hx hb hd hv (kk H locs la hR hS hl)
theorem ks_iadd (hκ : ks_Ok κ g own nm cc nL d mc ms) (pc : Nat) {x y : Int32} (hd : decode cc pc = .ok (.iadd, 1))  (kk : ks_K κ g nL h k n (pc + 1) ls (.int (x + y) :: st)) : ks_K κ g nL h k n pc ls (.int y :: .int x :: st) := by
  obtain ⟨p, l, e, R, s, m, args, below, meth, c, Q⟩ := κ
  obtain ⟨hx, hb, hml, hown, hts, hin, hfr, hlo, hce, hsl, hK, hSt, hNw, hz⟩ := hκ
  exact fun H locs la hR hS hl => lv_iadd hx hb hd  (kk H locs la hR hS hl)
theorem ks_isub (hκ : ks_Ok κ g own nm cc nL d mc ms) (pc : Nat) {x y : Int32} (hd : decode cc pc = .ok (.isub, 1))  (kk : ks_K κ g nL h k n (pc + 1) ls (.int (x - y) :: st)) : ks_K κ g nL h k n pc ls (.int y :: .int x :: st) := by
  obtain ⟨p, l, e, R, s, m, args, below, meth, c, Q⟩ := κ
  obtain ⟨hx, hb, hml, hown, hts, hin, hfr, hlo, hce, hsl, hK, hSt, hNw, hz⟩ := hκ
  exact fun H locs la hR hS hl => lv_isub hx hb hd  (kk H locs la hR hS hl)
theorem ks_imul (hκ : ks_Ok κ g own nm cc nL d mc ms) (pc : Nat) {x y : Int32} (hd : decode cc pc = .ok (.imul, 1))  (kk : ks_K κ g nL h k n (pc + 1) ls (.int (x * y) :: st)) : ks_K κ g nL h k n pc ls (.int y :: .int x :: st) := by
  obtain ⟨p, l, e, R, s, m, args, below, meth, c, Q⟩ := κ
  obtain ⟨hx, hb, hml, hown, hts, hin, hfr, hlo, hce, hsl, hK, hSt, hNw, hz⟩ := hκ
  exact fun H locs la hR hS hl => lv_imul hx hb hd  (kk H locs la hR hS hl)
theorem ks_iand (hκ : ks_Ok κ g own nm cc nL d mc ms) (pc : Nat) {x y : Int32} (hd : decode cc pc = .ok (.iand, 1))  (kk : ks_K κ g nL h k n (pc + 1) ls (.int (x &&& y) :: st)) : ks_K κ g nL h k n pc ls (.int y :: .int x :: st) := by
  obtain ⟨p, l, e, R, s, m, args, below, meth, c, Q⟩ := κ
  obtain ⟨hx, hb, hml, hown, hts, hin, hfr, hlo, hce, hsl, hK, hSt, hNw, hz⟩ := hκ
  exact fun H locs la hR hS hl => lv_iand hx hb hd  (kk H locs la hR hS hl)
theorem ks_ior (hκ : ks_Ok κ g own nm cc nL d mc ms) (pc : Nat) {x y : Int32} (hd : decode cc pc = .ok (.ior, 1))  (kk : ks_K κ g nL h k n (pc + 1) ls (.int (x ||| y) :: st)) : ks_K κ g nL h k n pc ls (.int y :: .int x :: st) := by
  obtain ⟨p, l, e, R, s, m, args, below, meth, c, Q⟩ := κ
  obtain ⟨hx, hb, hml, hown, hts, hin, hfr, hlo, hce, hsl, hK, hSt, hNw, hz⟩ := hκ
  exact fun H locs la hR hS hl => lv_ior hx hb hd  (kk H locs la hR hS hl)
theorem ks_ixor (hκ : ks_Ok κ g own nm cc nL d mc ms) (pc : Nat) {x y : Int32} (hd : decode cc pc = .ok (.ixor, 1))  (kk : ks_K κ g nL h k n (pc + 1) ls (.int (x ^^^ y) :: st)) : ks_K κ g nL h k n pc ls (.int y :: .int x :: st) := by
  obtain ⟨p, l, e, R, s, m, args, below, meth, c, Q⟩ := κ
  obtain ⟨hx, hb, hml, hown, hts, hin, hfr, hlo, hce, hsl, hK, hSt, hNw, hz⟩ := hκ
  exact fun H locs la hR hS hl => lv_ixor hx hb hd  (kk H locs la hR hS hl)
theorem ks_idiv (hκ : ks_Ok κ g own nm cc nL d mc ms) (pc : Nat) {x y : Int32} (hd : decode cc pc = .ok (.idiv, 1)) (hy : ¬ y = 0) (kk : ks_K κ g nL h k n (pc + 1) ls (.int (x / y) :: st)) : ks_K κ g nL h k n pc ls (.int y :: .int x :: st) := by
  obtain ⟨p, l, e, R, s, m, args, below, meth, c, Q⟩ := κ
  obtain ⟨hx, hb, hml, hown, hts, hin, hfr, hlo, hce, hsl, hK, hSt, hNw, hz⟩ := hκ
  exact fun H locs la hR hS hl => lv_idiv hx hb hd hy (kk H locs la hR hS hl)
theorem ks_irem (hκ : ks_Ok κ g own nm cc nL d mc ms) (pc : Nat) {x y : Int32} (hd : decode cc pc = .ok (.irem, 1)) (hy : ¬ y = 0) (kk : ks_K κ g nL h k n (pc + 1) ls (.int (x - (x / y) * y) :: st)) : ks_K κ g nL h k n pc ls (.int y :: .int x :: st) := by
  obtain ⟨p, l, e, R, s, m, args, below, meth, c, Q⟩ := κ
  obtain ⟨hx, hb, hml, hown, hts, hin, hfr, hlo, hce, hsl, hK, hSt, hNw, hz⟩ := hκ
  exact fun H locs la hR hS hl => lv_irem hx hb hd hy (kk H locs la hR hS hl)
theorem ks_ineg (hκ : ks_Ok κ g own nm cc nL d mc ms) (pc : Nat) {x : Int32} (hd : decode cc pc = .ok (.ineg, 1))  (kk : ks_K κ g nL h k n (pc + 1) ls (.int (0 - x) :: st)) : ks_K κ g nL h k n pc ls (.int x :: st) := by
  obtain ⟨p, l, e, R, s, m, args, below, meth, c, Q⟩ := κ
  obtain ⟨hx, hb, hml, hown, hts, hin, hfr, hlo, hce, hsl, hK, hSt, hNw, hz⟩ := hκ
  exact fun H locs la hR hS hl => lv_ineg hx hb hd  (kk H locs la hR hS hl)
theorem ks_land (hκ : ks_Ok κ g own nm cc nL d mc ms) (pc : Nat) {x y : Int64} (hd : decode cc pc = .ok (.land, 1))  (kk : ks_K κ g nL h k n (pc + 1) ls (.long (x &&& y) :: st)) : ks_K κ g nL h k n pc ls (.long y :: .long x :: st) := by
  obtain ⟨p, l, e, R, s, m, args, below, meth, c, Q⟩ := κ
  obtain ⟨hx, hb, hml, hown, hts, hin, hfr, hlo, hce, hsl, hK, hSt, hNw, hz⟩ := hκ
  exact fun H locs la hR hS hl => lv_land hx hb hd  (kk H locs la hR hS hl)
theorem ks_lor (hκ : ks_Ok κ g own nm cc nL d mc ms) (pc : Nat) {x y : Int64} (hd : decode cc pc = .ok (.lor, 1))  (kk : ks_K κ g nL h k n (pc + 1) ls (.long (x ||| y) :: st)) : ks_K κ g nL h k n pc ls (.long y :: .long x :: st) := by
  obtain ⟨p, l, e, R, s, m, args, below, meth, c, Q⟩ := κ
  obtain ⟨hx, hb, hml, hown, hts, hin, hfr, hlo, hce, hsl, hK, hSt, hNw, hz⟩ := hκ
  exact fun H locs la hR hS hl => lv_lor hx hb hd  (kk H locs la hR hS hl)
theorem ks_ishl (hκ : ks_Ok κ g own nm cc nL d mc ms) (pc : Nat) {x y : Int32} (hd : decode cc pc = .ok (.ishl, 1))  (kk : ks_K κ g nL h k n (pc + 1) ls (.int (x <<< (y &&& 31)) :: st)) : ks_K κ g nL h k n pc ls (.int y :: .int x :: st) := by
  obtain ⟨p, l, e, R, s, m, args, below, meth, c, Q⟩ := κ
  obtain ⟨hx, hb, hml, hown, hts, hin, hfr, hlo, hce, hsl, hK, hSt, hNw, hz⟩ := hκ
  exact fun H locs la hR hS hl => lv_ishl hx hb hd  (kk H locs la hR hS hl)
theorem ks_ishr (hκ : ks_Ok κ g own nm cc nL d mc ms) (pc : Nat) {x y : Int32} (hd : decode cc pc = .ok (.ishr, 1))  (kk : ks_K κ g nL h k n (pc + 1) ls (.int (x >>> (y &&& 31)) :: st)) : ks_K κ g nL h k n pc ls (.int y :: .int x :: st) := by
  obtain ⟨p, l, e, R, s, m, args, below, meth, c, Q⟩ := κ
  obtain ⟨hx, hb, hml, hown, hts, hin, hfr, hlo, hce, hsl, hK, hSt, hNw, hz⟩ := hκ
  exact fun H locs la hR hS hl => lv_ishr hx hb hd  (kk H locs la hR hS hl)
theorem ks_i2l (hκ : ks_Ok κ g own nm cc nL d mc ms) (pc : Nat) {x : Int32} (hd : decode cc pc = .ok (.i2l, 1))  (kk : ks_K κ g nL h k n (pc + 1) ls (.long x.toInt64 :: st)) : ks_K κ g nL h k n pc ls (.int x :: st) := by
  obtain ⟨p, l, e, R, s, m, args, below, meth, c, Q⟩ := κ
  obtain ⟨hx, hb, hml, hown, hts, hin, hfr, hlo, hce, hsl, hK, hSt, hNw, hz⟩ := hκ
  exact fun H locs la hR hS hl => lv_i2l hx hb hd rfl (kk H locs la hR hS hl)
theorem ks_l2i (hκ : ks_Ok κ g own nm cc nL d mc ms) (pc : Nat) {x : Int64} (hd : decode cc pc = .ok (.l2i, 1))  (kk : ks_K κ g nL h k n (pc + 1) ls (.int x.toInt32 :: st)) : ks_K κ g nL h k n pc ls (.long x :: st) := by
  obtain ⟨p, l, e, R, s, m, args, below, meth, c, Q⟩ := κ
  obtain ⟨hx, hb, hml, hown, hts, hin, hfr, hlo, hce, hsl, hK, hSt, hNw, hz⟩ := hκ
  exact fun H locs la hR hS hl => lv_l2i hx hb hd rfl (kk H locs la hR hS hl)
theorem ks_i2c (hκ : ks_Ok κ g own nm cc nL d mc ms) (pc : Nat) {x : Int32} (hd : decode cc pc = .ok (.i2c, 1))  (kk : ks_K κ g nL h k n (pc + 1) ls (.int (x.toUInt32 % 65536).toInt32 :: st)) : ks_K κ g nL h k n pc ls (.int x :: st) := by
  obtain ⟨p, l, e, R, s, m, args, below, meth, c, Q⟩ := κ
  obtain ⟨hx, hb, hml, hown, hts, hin, hfr, hlo, hce, hsl, hK, hSt, hNw, hz⟩ := hκ
  exact fun H locs la hR hS hl => lv_i2c hx hb hd rfl (kk H locs la hR hS hl)
theorem ks_lushr (hκ : ks_Ok κ g own nm cc nL d mc ms) (pc : Nat) {x : Int64} {y : Int32} (hd : decode cc pc = .ok (.lushr, 1))  (kk : ks_K κ g nL h k n (pc + 1) ls (.long (x.toUInt64 >>> (y.toInt64.toUInt64 &&& Int64.toUInt64 63)).toInt64 :: st)) : ks_K κ g nL h k n pc ls (.int y :: .long x :: st) := by
  obtain ⟨p, l, e, R, s, m, args, below, meth, c, Q⟩ := κ
  obtain ⟨hx, hb, hml, hown, hts, hin, hfr, hlo, hce, hsl, hK, hSt, hNw, hz⟩ := hκ
  exact fun H locs la hR hS hl => lv_lushr hx hb hd rfl (kk H locs la hR hS hl)
theorem ks_lshl (hκ : ks_Ok κ g own nm cc nL d mc ms) (pc : Nat) {x : Int64} {y : Int32} (hd : decode cc pc = .ok (.lshl, 1))  (kk : ks_K κ g nL h k n (pc + 1) ls (.long (x <<< (y.toInt64 &&& 63)) :: st)) : ks_K κ g nL h k n pc ls (.int y :: .long x :: st) := by
  obtain ⟨p, l, e, R, s, m, args, below, meth, c, Q⟩ := κ
  obtain ⟨hx, hb, hml, hown, hts, hin, hfr, hlo, hce, hsl, hK, hSt, hNw, hz⟩ := hκ
  exact fun H locs la hR hS hl => lv_lshl hx hb hd rfl (kk H locs la hR hS hl)
theorem ks_lcmp (hκ : ks_Ok κ g own nm cc nL d mc ms) (pc : Nat) {x y : Int64} (hd : decode cc pc = .ok (.lcmp, 1))  (kk : ks_K κ g nL h k n (pc + 1) ls (.int (lg_cmp x y) :: st)) : ks_K κ g nL h k n pc ls (.long y :: .long x :: st) := by
  obtain ⟨p, l, e, R, s, m, args, below, meth, c, Q⟩ := κ
  obtain ⟨hx, hb, hml, hown, hts, hin, hfr, hlo, hce, hsl, hK, hSt, hNw, hz⟩ := hκ
  exact fun H locs la hR hS hl => W.lcmp hx hb hd  (kk H locs la hR hS hl)
theorem ks_dup (hκ : ks_Ok κ g own nm cc nL d mc ms) (pc : Nat) {v : Value} (hd : decode cc pc = .ok (.dup, 1)) (hv : v.category = 1) (kk : ks_K κ g nL h k n (pc + 1) ls (v :: v :: st)) : ks_K κ g nL h k n pc ls (v :: st) := by
  obtain ⟨p, l, e, R, s, m, args, below, meth, c, Q⟩ := κ
  obtain ⟨hx, hb, hml, hown, hts, hin, hfr, hlo, hce, hsl, hK, hSt, hNw, hz⟩ := hκ
  exact fun H locs la hR hS hl => lv_dup hx hb hd hv (kk H locs la hR hS hl)
theorem ks_pop (hκ : ks_Ok κ g own nm cc nL d mc ms) (pc : Nat) {v : Value} (hd : decode cc pc = .ok (.pop, 1)) (hv : v.category = 1) (kk : ks_K κ g nL h k n (pc + 1) ls st) : ks_K κ g nL h k n pc ls (v :: st) := by
  obtain ⟨p, l, e, R, s, m, args, below, meth, c, Q⟩ := κ
  obtain ⟨hx, hb, hml, hown, hts, hin, hfr, hlo, hce, hsl, hK, hSt, hNw, hz⟩ := hκ
  exact fun H locs la hR hS hl => lv_pop hx hb hd hv (kk H locs la hR hS hl)
theorem ks_dup2 (hκ : ks_Ok κ g own nm cc nL d mc ms) (pc : Nat) {va vb : Value} (hd : decode cc pc = .ok (.dup2, 1)) (hva : va.category = 1) (hvb : vb.category = 1) (kk : ks_K κ g nL h k n (pc + 1) ls (va :: vb :: va :: vb :: st)) : ks_K κ g nL h k n pc ls (va :: vb :: st) := by
  obtain ⟨p, l, e, R, s, m, args, below, meth, c, Q⟩ := κ
  obtain ⟨hx, hb, hml, hown, hts, hin, hfr, hlo, hce, hsl, hK, hSt, hNw, hz⟩ := hκ
  exact fun H locs la hR hS hl => lv_dup2_11 hx hb hd hva hvb (kk H locs la hR hS hl)
theorem ks_null (hκ : ks_Ok κ g own nm cc nL d mc ms) (pc : Nat)  (hd : decode cc pc = .ok (.aconst_null, 1))  (kk : ks_K κ g nL h k n (pc + 1) ls (.null :: st)) : ks_K κ g nL h k n pc ls st := by
  obtain ⟨p, l, e, R, s, m, args, below, meth, c, Q⟩ := κ
  obtain ⟨hx, hb, hml, hown, hts, hin, hfr, hlo, hce, hsl, hK, hSt, hNw, hz⟩ := hκ
  exact fun H locs la hR hS hl => lv_null hx hb hd  (kk H locs la hR hS hl)
theorem ks_iload_n (hκ : ks_Ok κ g own nm cc nL d mc ms) (pc : Nat) (j : Nat) {q : Fin 4} {x : Int32} (hd : decode cc pc = .ok (.iload_n q, 1)) (hj : ls[j]? = some (q.val, .int x)) (kk : ks_K κ g nL h k n (pc + 1) ls (.int x :: st)) : ks_K κ g nL h k n pc ls st := by
  obtain ⟨p, l, e, R, s, m, args, below, meth, c, Q⟩ := κ
  obtain ⟨hx, hb, hml, hown, hts, hin, hfr, hlo, hce, hsl, hK, hSt, hNw, hz⟩ := hκ
  exact fun H locs la hR hS hl => lv_iload_n hx hb hd rfl (lv_at hl j hj) (kk H locs la hR hS hl)
theorem ks_iload (hκ : ks_Ok κ g own nm cc nL d mc ms) (pc : Nat) (j : Nat) {q : Nat} {x : Int32} (hd : decode cc pc = .ok (.iload q, 2)) (hj : ls[j]? = some (q, .int x)) (kk : ks_K κ g nL h k n (pc + 2) ls (.int x :: st)) : ks_K κ g nL h k n pc ls st := by
  obtain ⟨p, l, e, R, s, m, args, below, meth, c, Q⟩ := κ
  obtain ⟨hx, hb, hml, hown, hts, hin, hfr, hlo, hce, hsl, hK, hSt, hNw, hz⟩ := hκ
  exact fun H locs la hR hS hl => lv_iload hx hb hd (lv_at hl j hj) (kk H locs la hR hS hl)
theorem ks_lload_n (hκ : ks_Ok κ g own nm cc nL d mc ms) (pc : Nat) (j : Nat) {q : Fin 4} {x : Int64} (hd : decode cc pc = .ok (.lload_n q, 1)) (hj : ls[j]? = some (q.val, .long x)) (kk : ks_K κ g nL h k n (pc + 1) ls (.long x :: st)) : ks_K κ g nL h k n pc ls st := by
  obtain ⟨p, l, e, R, s, m, args, below, meth, c, Q⟩ := κ
  obtain ⟨hx, hb, hml, hown, hts, hin, hfr, hlo, hce, hsl, hK, hSt, hNw, hz⟩ := hκ
  exact fun H locs la hR hS hl => lv_lload_n hx hb hd rfl (lv_at hl j hj) (kk H locs la hR hS hl)
theorem ks_lload (hκ : ks_Ok κ g own nm cc nL d mc ms) (pc : Nat) (j : Nat) {q : Nat} {x : Int64} (hd : decode cc pc = .ok (.lload q, 2)) (hj : ls[j]? = some (q, .long x)) (kk : ks_K κ g nL h k n (pc + 2) ls (.long x :: st)) : ks_K κ g nL h k n pc ls st := by
  obtain ⟨p, l, e, R, s, m, args, below, meth, c, Q⟩ := κ
  obtain ⟨hx, hb, hml, hown, hts, hin, hfr, hlo, hce, hsl, hK, hSt, hNw, hz⟩ := hκ
  exact fun H locs la hR hS hl => lv_lload hx hb hd (lv_at hl j hj) (kk H locs la hR hS hl)
theorem ks_aload_n (hκ : ks_Ok κ g own nm cc nL d mc ms) (pc : Nat) (j : Nat) {q : Fin 4} {x : Nat} (hd : decode cc pc = .ok (.aload_n q, 1)) (hj : ls[j]? = some (q.val, ks_ref g x)) (kk : ks_K κ g nL h k n (pc + 1) ls (ks_ref g x :: st)) : ks_K κ g nL h k n pc ls st := by
  obtain ⟨p, l, e, R, s, m, args, below, meth, c, Q⟩ := κ
  obtain ⟨hx, hb, hml, hown, hts, hin, hfr, hlo, hce, hsl, hK, hSt, hNw, hz⟩ := hκ
  exact fun H locs la hR hS hl => lv_aload_n hx hb hd rfl (lv_at hl j hj) (kk H locs la hR hS hl)
theorem ks_aload (hκ : ks_Ok κ g own nm cc nL d mc ms) (pc : Nat) (j : Nat) {q : Nat} {x : Nat} (hd : decode cc pc = .ok (.aload q, 2)) (hj : ls[j]? = some (q, ks_ref g x)) (kk : ks_K κ g nL h k n (pc + 2) ls (ks_ref g x :: st)) : ks_K κ g nL h k n pc ls st := by
  obtain ⟨p, l, e, R, s, m, args, below, meth, c, Q⟩ := κ
  obtain ⟨hx, hb, hml, hown, hts, hin, hfr, hlo, hce, hsl, hK, hSt, hNw, hz⟩ := hκ
  exact fun H locs la hR hS hl => lv_aload hx hb hd (lv_at hl j hj) (kk H locs la hR hS hl)
theorem ks_aload_nr (hκ : ks_Ok κ g own nm cc nL d mc ms) (pc : Nat) (j : Nat) {q : Fin 4} {x : Nat} (hd : decode cc pc = .ok (.aload_n q, 1)) (hj : ls[j]? = some (q.val, .ref x)) (kk : ks_K κ g nL h k n (pc + 1) ls (.ref x :: st)) : ks_K κ g nL h k n pc ls st := by
  obtain ⟨p, l, e, R, s, m, args, below, meth, c, Q⟩ := κ
  obtain ⟨hx, hb, hml, hown, hts, hin, hfr, hlo, hce, hsl, hK, hSt, hNw, hz⟩ := hκ
  exact fun H locs la hR hS hl => lv_aload_n hx hb hd rfl (lv_at hl j hj) (kk H locs la hR hS hl)
theorem ks_istore_n (hκ : ks_Ok κ g own nm cc nL d mc ms) (pc : Nat) (i : Nat) {q : Fin 4} {x : Int32} (lv : List (Nat × Value)) (hd : decode cc pc = .ok (.istore_n q, 1)) (hq : (q : Nat) = i) (hn : i < nL) (hl0 : (i, .int x) :: ls.filter (fun q => !(q.1 == i) && !(q.1 + 1 == i && q.2.category == 2)) = lv) (kk : ks_K κ g nL h k n (pc + 1) lv st) : ks_K κ g nL h k n pc ls (.int x :: st) := by
  obtain ⟨p, l, e, R, s, m, args, below, meth, c, Q⟩ := κ
  obtain ⟨hx, hb, hml, hown, hts, hin, hfr, hlo, hce, hsl, hK, hSt, hNw, hz⟩ := hκ
  exact fun H locs la hR hS hl => lv_istore_n hx hb hd hq hl hn hl0 (fun la' hl' => kk H locs la' hR hS hl')
theorem ks_istore (hκ : ks_Ok κ g own nm cc nL d mc ms) (pc : Nat) (i : Nat) {x : Int32} (lv : List (Nat × Value)) (hd : decode cc pc = .ok (.istore i, 2)) (hn : i < nL) (hl0 : (i, .int x) :: ls.filter (fun q => !(q.1 == i) && !(q.1 + 1 == i && q.2.category == 2)) = lv) (kk : ks_K κ g nL h k n (pc + 2) lv st) : ks_K κ g nL h k n pc ls (.int x :: st) := by
  obtain ⟨p, l, e, R, s, m, args, below, meth, c, Q⟩ := κ
  obtain ⟨hx, hb, hml, hown, hts, hin, hfr, hlo, hce, hsl, hK, hSt, hNw, hz⟩ := hκ
  exact fun H locs la hR hS hl => lv_istore hx hb hd hl hn hl0 (fun la' hl' => kk H locs la' hR hS hl')
theorem ks_astore_n (hκ : ks_Ok κ g own nm cc nL d mc ms) (pc : Nat) (i : Nat) {q : Fin 4} {x : Nat} (lv : List (Nat × Value)) (hd : decode cc pc = .ok (.astore_n q, 1)) (hq : (q : Nat) = i) (hn : i < nL) (hl0 : (i, ks_ref g x) :: ls.filter (fun q => !(q.1 == i) && !(q.1 + 1 == i && q.2.category == 2)) = lv) (kk : ks_K κ g nL h k n (pc + 1) lv st) : ks_K κ g nL h k n pc ls (ks_ref g x :: st) := by
  obtain ⟨p, l, e, R, s, m, args, below, meth, c, Q⟩ := κ
  obtain ⟨hx, hb, hml, hown, hts, hin, hfr, hlo, hce, hsl, hK, hSt, hNw, hz⟩ := hκ
  exact fun H locs la hR hS hl => lv_astore_n hx hb hd hq hl hn hl0 (fun la' hl' => kk H locs la' hR hS hl')
theorem ks_astore (hκ : ks_Ok κ g own nm cc nL d mc ms) (pc : Nat) (i : Nat) {x : Nat} (lv : List (Nat × Value)) (hd : decode cc pc = .ok (.astore i, 2)) (hn : i < nL) (hl0 : (i, ks_ref g x) :: ls.filter (fun q => !(q.1 == i) && !(q.1 + 1 == i && q.2.category == 2)) = lv) (kk : ks_K κ g nL h k n (pc + 2) lv st) : ks_K κ g nL h k n pc ls (ks_ref g x :: st) := by
  obtain ⟨p, l, e, R, s, m, args, below, meth, c, Q⟩ := κ
  obtain ⟨hx, hb, hml, hown, hts, hin, hfr, hlo, hce, hsl, hK, hSt, hNw, hz⟩ := hκ
  exact fun H locs la hR hS hl => lv_astore hx hb hd hl hn hl0 (fun la' hl' => kk H locs la' hR hS hl')
theorem ks_lstore_n (hκ : ks_Ok κ g own nm cc nL d mc ms) (pc : Nat) (i : Nat) {q : Fin 4} {x : Int64} (lv : List (Nat × Value)) (hd : decode cc pc = .ok (.lstore_n q, 1)) (hq : (q : Nat) = i) (hn : i + 1 < nL) (hl0 : (i, .long x) :: ls.filter (fun q => !(q.1 == i) && (!(q.1 == i + 1) && !(q.1 + 1 == i && q.2.category == 2))) = lv) (kk : ks_K κ g nL h k n (pc + 1) lv st) : ks_K κ g nL h k n pc ls (.long x :: st) := by
  obtain ⟨p, l, e, R, s, m, args, below, meth, c, Q⟩ := κ
  obtain ⟨hx, hb, hml, hown, hts, hin, hfr, hlo, hce, hsl, hK, hSt, hNw, hz⟩ := hκ
  exact fun H locs la hR hS hl => lv_lstore_n hx hb hd hq hl hn hl0 (fun la' hl' => kk H locs la' hR hS hl')
theorem ks_lstore (hκ : ks_Ok κ g own nm cc nL d mc ms) (pc : Nat) (i : Nat) {x : Int64} (lv : List (Nat × Value)) (hd : decode cc pc = .ok (.lstore i, 2)) (hn : i + 1 < nL) (hl0 : (i, .long x) :: ls.filter (fun q => !(q.1 == i) && (!(q.1 == i + 1) && !(q.1 + 1 == i && q.2.category == 2))) = lv) (kk : ks_K κ g nL h k n (pc + 2) lv st) : ks_K κ g nL h k n pc ls (.long x :: st) := by
  obtain ⟨p, l, e, R, s, m, args, below, meth, c, Q⟩ := κ
  obtain ⟨hx, hb, hml, hown, hts, hin, hfr, hlo, hce, hsl, hK, hSt, hNw, hz⟩ := hκ
  exact fun H locs la hR hS hl => lv_lstore hx hb hd hl hn hl0 (fun la' hl' => kk H locs la' hR hS hl')
theorem ks_iinc (hκ : ks_Ok κ g own nm cc nL d mc ms) (pc : Nat) (i j : Nat) {q : Int} {x : Int32} (v : Int32) (lv : List (Nat × Value)) (hd : decode cc pc = .ok (.iinc i q, 3)) (hj : ls[j]? = some (i, .int x)) (hv : x + Int32.ofInt q = v) (hn : i < nL) (hl0 : (i, .int v) :: ls.filter (fun q => !(q.1 == i) && !(q.1 + 1 == i && q.2.category == 2)) = lv) (kk : ks_K κ g nL h k n (pc + 3) lv st) : ks_K κ g nL h k n pc ls st := by
  obtain ⟨p, l, e, R, s, m, args, below, meth, c, Q⟩ := κ
  obtain ⟨hx, hb, hml, hown, hts, hin, hfr, hlo, hce, hsl, hK, hSt, hNw, hz⟩ := hκ
  exact fun H locs la hR hS hl => lv_iinc hx hb hd hl hj hv hn hl0 (fun la' hl' => kk H locs la' hR hS hl')
theorem ks_if_eq (hκ : ks_Ok κ g own nm cc nL d mc ms) (pc : Nat) (tgt : Nat) {off : Int} {x : Int32} (hd : decode cc pc = .ok (.ifCond .eq off, 3)) (ht : (pc : Int) + off = (tgt : Int)) (kt : x = 0 → ks_K κ g nL h k n tgt ls st) (kf : ¬ x = 0 → ks_K κ g nL h k n (pc + 3) ls st) : ks_K κ g nL h k n pc ls (.int x :: st) := by
  obtain ⟨p, l, e, R, s, m, args, below, meth, c, Q⟩ := κ
  obtain ⟨hx, hb, hml, hown, hts, hin, hfr, hlo, hce, hsl, hK, hSt, hNw, hz⟩ := hκ
  exact fun H locs la hR hS hl => lv_if_eq hx hb hd ht (fun q => kt q H locs la hR hS hl) (fun q => kf q H locs la hR hS hl)
theorem ks_if_ne (hκ : ks_Ok κ g own nm cc nL d mc ms) (pc : Nat) (tgt : Nat) {off : Int} {x : Int32} (hd : decode cc pc = .ok (.ifCond .ne off, 3)) (ht : (pc : Int) + off = (tgt : Int)) (kt : ¬ x = 0 → ks_K κ g nL h k n tgt ls st) (kf : x = 0 → ks_K κ g nL h k n (pc + 3) ls st) : ks_K κ g nL h k n pc ls (.int x :: st) := by
  obtain ⟨p, l, e, R, s, m, args, below, meth, c, Q⟩ := κ
  obtain ⟨hx, hb, hml, hown, hts, hin, hfr, hlo, hce, hsl, hK, hSt, hNw, hz⟩ := hκ
  exact fun H locs la hR hS hl => lv_if_ne hx hb hd ht (fun q => kt q H locs la hR hS hl) (fun q => kf q H locs la hR hS hl)
theorem ks_if_lt (hκ : ks_Ok κ g own nm cc nL d mc ms) (pc : Nat) (tgt : Nat) {off : Int} {x : Int32} (hd : decode cc pc = .ok (.ifCond .lt off, 3)) (ht : (pc : Int) + off = (tgt : Int)) (kt : x < 0 → ks_K κ g nL h k n tgt ls st) (kf : ¬ x < 0 → ks_K κ g nL h k n (pc + 3) ls st) : ks_K κ g nL h k n pc ls (.int x :: st) := by
  obtain ⟨p, l, e, R, s, m, args, below, meth, c, Q⟩ := κ
  obtain ⟨hx, hb, hml, hown, hts, hin, hfr, hlo, hce, hsl, hK, hSt, hNw, hz⟩ := hκ
  exact fun H locs la hR hS hl => lv_if_lt hx hb hd ht (fun q => kt q H locs la hR hS hl) (fun q => kf q H locs la hR hS hl)
theorem ks_if_ge (hκ : ks_Ok κ g own nm cc nL d mc ms) (pc : Nat) (tgt : Nat) {off : Int} {x : Int32} (hd : decode cc pc = .ok (.ifCond .ge off, 3)) (ht : (pc : Int) + off = (tgt : Int)) (kt : 0 ≤ x → ks_K κ g nL h k n tgt ls st) (kf : ¬ 0 ≤ x → ks_K κ g nL h k n (pc + 3) ls st) : ks_K κ g nL h k n pc ls (.int x :: st) := by
  obtain ⟨p, l, e, R, s, m, args, below, meth, c, Q⟩ := κ
  obtain ⟨hx, hb, hml, hown, hts, hin, hfr, hlo, hce, hsl, hK, hSt, hNw, hz⟩ := hκ
  exact fun H locs la hR hS hl => lv_if_ge hx hb hd ht (fun q => kt q H locs la hR hS hl) (fun q => kf q H locs la hR hS hl)
theorem ks_if_gt (hκ : ks_Ok κ g own nm cc nL d mc ms) (pc : Nat) (tgt : Nat) {off : Int} {x : Int32} (hd : decode cc pc = .ok (.ifCond .gt off, 3)) (ht : (pc : Int) + off = (tgt : Int)) (kt : 0 < x → ks_K κ g nL h k n tgt ls st) (kf : ¬ 0 < x → ks_K κ g nL h k n (pc + 3) ls st) : ks_K κ g nL h k n pc ls (.int x :: st) := by
  obtain ⟨p, l, e, R, s, m, args, below, meth, c, Q⟩ := κ
  obtain ⟨hx, hb, hml, hown, hts, hin, hfr, hlo, hce, hsl, hK, hSt, hNw, hz⟩ := hκ
  exact fun H locs la hR hS hl => lv_if_gt hx hb hd ht (fun q => kt q H locs la hR hS hl) (fun q => kf q H locs la hR hS hl)
theorem ks_if_le (hκ : ks_Ok κ g own nm cc nL d mc ms) (pc : Nat) (tgt : Nat) {off : Int} {x : Int32} (hd : decode cc pc = .ok (.ifCond .le off, 3)) (ht : (pc : Int) + off = (tgt : Int)) (kt : x ≤ 0 → ks_K κ g nL h k n tgt ls st) (kf : ¬ x ≤ 0 → ks_K κ g nL h k n (pc + 3) ls st) : ks_K κ g nL h k n pc ls (.int x :: st) := by
  obtain ⟨p, l, e, R, s, m, args, below, meth, c, Q⟩ := κ
  obtain ⟨hx, hb, hml, hown, hts, hin, hfr, hlo, hce, hsl, hK, hSt, hNw, hz⟩ := hκ
  exact fun H locs la hR hS hl => lv_if_le hx hb hd ht (fun q => kt q H locs la hR hS hl) (fun q => kf q H locs la hR hS hl)
theorem ks_icmp_eq (hκ : ks_Ok κ g own nm cc nL d mc ms) (pc : Nat) (tgt : Nat) {off : Int} {x y : Int32} (hd : decode cc pc = .ok (.if_icmp .eq off, 3)) (ht : (pc : Int) + off = (tgt : Int)) (kt : x = y → ks_K κ g nL h k n tgt ls st) (kf : ¬ x = y → ks_K κ g nL h k n (pc + 3) ls st) : ks_K κ g nL h k n pc ls (.int y :: .int x :: st) := by
  obtain ⟨p, l, e, R, s, m, args, below, meth, c, Q⟩ := κ
  obtain ⟨hx, hb, hml, hown, hts, hin, hfr, hlo, hce, hsl, hK, hSt, hNw, hz⟩ := hκ
  exact fun H locs la hR hS hl => lv_icmp_eq hx hb hd ht (fun q => kt q H locs la hR hS hl) (fun q => kf q H locs la hR hS hl)
theorem ks_icmp_ne (hκ : ks_Ok κ g own nm cc nL d mc ms) (pc : Nat) (tgt : Nat) {off : Int} {x y : Int32} (hd : decode cc pc = .ok (.if_icmp .ne off, 3)) (ht : (pc : Int) + off = (tgt : Int)) (kt : ¬ x = y → ks_K κ g nL h k n tgt ls st) (kf : x = y → ks_K κ g nL h k n (pc + 3) ls st) : ks_K κ g nL h k n pc ls (.int y :: .int x :: st) := by
  obtain ⟨p, l, e, R, s, m, args, below, meth, c, Q⟩ := κ
  obtain ⟨hx, hb, hml, hown, hts, hin, hfr, hlo, hce, hsl, hK, hSt, hNw, hz⟩ := hκ
  exact fun H locs la hR hS hl => lv_icmp_ne hx hb hd ht (fun q => kt q H locs la hR hS hl) (fun q => kf q H locs la hR hS hl)
theorem ks_icmp_lt (hκ : ks_Ok κ g own nm cc nL d mc ms) (pc : Nat) (tgt : Nat) {off : Int} {x y : Int32} (hd : decode cc pc = .ok (.if_icmp .lt off, 3)) (ht : (pc : Int) + off = (tgt : Int)) (kt : x < y → ks_K κ g nL h k n tgt ls st) (kf : ¬ x < y → ks_K κ g nL h k n (pc + 3) ls st) : ks_K κ g nL h k n pc ls (.int y :: .int x :: st) := by
  obtain ⟨p, l, e, R, s, m, args, below, meth, c, Q⟩ := κ
  obtain ⟨hx, hb, hml, hown, hts, hin, hfr, hlo, hce, hsl, hK, hSt, hNw, hz⟩ := hκ
  exact fun H locs la hR hS hl => lv_icmp_lt hx hb hd ht (fun q => kt q H locs la hR hS hl) (fun q => kf q H locs la hR hS hl)
theorem ks_icmp_ge (hκ : ks_Ok κ g own nm cc nL d mc ms) (pc : Nat) (tgt : Nat) {off : Int} {x y : Int32} (hd : decode cc pc = .ok (.if_icmp .ge off, 3)) (ht : (pc : Int) + off = (tgt : Int)) (kt : y ≤ x → ks_K κ g nL h k n tgt ls st) (kf : ¬ y ≤ x → ks_K κ g nL h k n (pc + 3) ls st) : ks_K κ g nL h k n pc ls (.int y :: .int x :: st) := by
  obtain ⟨p, l, e, R, s, m, args, below, meth, c, Q⟩ := κ
  obtain ⟨hx, hb, hml, hown, hts, hin, hfr, hlo, hce, hsl, hK, hSt, hNw, hz⟩ := hκ
  exact fun H locs la hR hS hl => lv_icmp_ge hx hb hd ht (fun q => kt q H locs la hR hS hl) (fun q => kf q H locs la hR hS hl)
theorem ks_icmp_gt (hκ : ks_Ok κ g own nm cc nL d mc ms) (pc : Nat) (tgt : Nat) {off : Int} {x y : Int32} (hd : decode cc pc = .ok (.if_icmp .gt off, 3)) (ht : (pc : Int) + off = (tgt : Int)) (kt : y < x → ks_K κ g nL h k n tgt ls st) (kf : ¬ y < x → ks_K κ g nL h k n (pc + 3) ls st) : ks_K κ g nL h k n pc ls (.int y :: .int x :: st) := by
  obtain ⟨p, l, e, R, s, m, args, below, meth, c, Q⟩ := κ
  obtain ⟨hx, hb, hml, hown, hts, hin, hfr, hlo, hce, hsl, hK, hSt, hNw, hz⟩ := hκ
  exact fun H locs la hR hS hl => lv_icmp_gt hx hb hd ht (fun q => kt q H locs la hR hS hl) (fun q => kf q H locs la hR hS hl)
theorem ks_icmp_le (hκ : ks_Ok κ g own nm cc nL d mc ms) (pc : Nat) (tgt : Nat) {off : Int} {x y : Int32} (hd : decode cc pc = .ok (.if_icmp .le off, 3)) (ht : (pc : Int) + off = (tgt : Int)) (kt : x ≤ y → ks_K κ g nL h k n tgt ls st) (kf : ¬ x ≤ y → ks_K κ g nL h k n (pc + 3) ls st) : ks_K κ g nL h k n pc ls (.int y :: .int x :: st) := by
  obtain ⟨p, l, e, R, s, m, args, below, meth, c, Q⟩ := κ
  obtain ⟨hx, hb, hml, hown, hts, hin, hfr, hlo, hce, hsl, hK, hSt, hNw, hz⟩ := hκ
  exact fun H locs la hR hS hl => lv_icmp_le hx hb hd ht (fun q => kt q H locs la hR hS hl) (fun q => kf q H locs la hR hS hl)
theorem ks_goto (hκ : ks_Ok κ g own nm cc nL d mc ms) (pc : Nat) (tgt : Nat) {off : Int} (hd : decode cc pc = .ok (.goto off, 3)) (ht : (pc : Int) + off = (tgt : Int)) (kk : ks_K κ g nL h k n tgt ls st) : ks_K κ g nL h k n pc ls st := by
  obtain ⟨p, l, e, R, s, m, args, below, meth, c, Q⟩ := κ
  obtain ⟨hx, hb, hml, hown, hts, hin, hfr, hlo, hce, hsl, hK, hSt, hNw, hz⟩ := hκ
  exact fun H locs la hR hS hl => lv_goto hx hb hd ht (kk H locs la hR hS hl)
theorem ks_ifnonnull (hκ : ks_Ok κ g own nm cc nL d mc ms) (pc : Nat) (tgt : Nat) {off : Int} {x : Nat} (hd : decode cc pc = .ok (.ifnonnull off, 3)) (ht : (pc : Int) + off = (tgt : Int)) (kk : ks_K κ g nL h k n tgt ls st) : ks_K κ g nL h k n pc ls (ks_ref g x :: st) := by
  obtain ⟨p, l, e, R, s, m, args, below, meth, c, Q⟩ := κ
  obtain ⟨hx, hb, hml, hown, hts, hin, hfr, hlo, hce, hsl, hK, hSt, hNw, hz⟩ := hκ
  exact fun H locs la hR hS hl => lv_ifnonnull hx hb hd ht (kk H locs la hR hS hl)
theorem ks_ifnonnullN (hκ : ks_Ok κ g own nm cc nL d mc ms) (pc : Nat) {off : Int} (hd : decode cc pc = .ok (.ifnonnull off, 3)) (kk : ks_K κ g nL h k n (pc + 3) ls st) : ks_K κ g nL h k n pc ls (.null :: st) := by
  obtain ⟨p, l, e, R, s, m, args, below, meth, c, Q⟩ := κ
  obtain ⟨hx, hb, hml, hown, hts, hin, hfr, hlo, hce, hsl, hK, hSt, hNw, hz⟩ := hκ
  exact fun H locs la hR hS hl => lv_ifnonnullN hx hb hd (kk H locs la hR hS hl)
theorem ks_tableOut (hκ : ks_Ok κ g own nm cc nL d mc ms) (pc : Nat) (tgt : Nat) {dflt lo hi : Int} {offs : Array Int} {len : Nat} {x : Int32} (hd : decode cc pc = .ok (.tableswitch dflt lo hi offs, len)) (hr : x.toInt < lo ∨ hi < x.toInt) (ht : (pc : Int) + dflt = (tgt : Int)) (kk : ks_K κ g nL h k n tgt ls st) : ks_K κ g nL h k n pc ls (.int x :: st) := by
  obtain ⟨p, l, e, R, s, m, args, below, meth, c, Q⟩ := κ
  obtain ⟨hx, hb, hml, hown, hts, hin, hfr, hlo, hce, hsl, hK, hSt, hNw, hz⟩ := hκ
  exact fun H locs la hR hS hl => lv_tableOut hx hb hd hr ht (kk H locs la hR hS hl)
theorem ks_tableIn (hκ : ks_Ok κ g own nm cc nL d mc ms) (pc : Nat) (tgt : Nat) {dflt lo hi : Int} {offs : Array Int} {len : Nat} {x : Int32} {off : Int} (hd : decode cc pc = .ok (.tableswitch dflt lo hi offs, len)) (h1 : ¬ x.toInt < lo) (h2 : ¬ hi < x.toInt) (ho : offs[(x.toInt - lo).toNat]? = some off) (ht : (pc : Int) + off = (tgt : Int)) (kk : ks_K κ g nL h k n tgt ls st) : ks_K κ g nL h k n pc ls (.int x :: st) := by
  obtain ⟨p, l, e, R, s, m, args, below, meth, c, Q⟩ := κ
  obtain ⟨hx, hb, hml, hown, hts, hin, hfr, hlo, hce, hsl, hK, hSt, hNw, hz⟩ := hκ
  exact fun H locs la hR hS hl => lv_tableIn hx hb hd h1 h2 ho ht (kk H locs la hR hS hl)
theorem ks_lookup (hκ : ks_Ok κ g own nm cc nL d mc ms) (pc : Nat) (tgt : Nat) {dflt : Int} {ps : Array (Int × Int)} {len : Nat} {x : Int32} {off : Int} (hd : decode cc pc = .ok (.lookupswitch dflt ps, len)) (hp : (ps.toList.zip (ps.toList.drop 1)).all (fun (a, next) => a.1 < next.1) = true) (ho : Op.lookupswitch.offset ps.toList dflt x.toInt = off) (ht : (pc : Int) + off = (tgt : Int)) (kk : ks_K κ g nL h k n tgt ls st) : ks_K κ g nL h k n pc ls (.int x :: st) := by
  obtain ⟨p, l, e, R, s, m, args, below, meth, c, Q⟩ := κ
  obtain ⟨hx, hb, hml, hown, hts, hin, hfr, hlo, hce, hsl, hK, hSt, hNw, hz⟩ := hκ
  exact fun H locs la hR hS hl => lv_lookup hx hb hd hp ho ht (kk H locs la hR hS hl)
theorem ks_ldc2 (hκ : ks_Ok κ g own nm cc nL d mc ms) (pc : Nat) {ix : Nat} (v : Int64) (hd : decode cc pc = .ok (.ldc2_w ix, 3)) (hw : Cond.constantLong own ix v ∈ lw_g) (kk : ks_K κ g nL h k n (pc + 3) ls (.long v :: st)) : ks_K κ g nL h k n pc ls st := by
  obtain ⟨p, l, e, R, s, m, args, below, meth, c, Q⟩ := κ
  obtain ⟨hx, hb, hml, hown, hts, hin, hfr, hlo, hce, hsl, hK, hSt, hNw, hz⟩ := hκ
  exact fun H locs la hR hS hl => lv_ldc2 hx hb hown (hts _ hw) hd (kk H locs la hR hS hl)
theorem ks_cv {pc : Nat} {h' : ks_H} {ls' : List (Nat × Value)} {st' : List Value} (kk : ks_K κ g nL h k n pc ls st) (e1 : h' = h) (e2 : ls' = ls) (e3 : st' = st) : ks_K κ g nL h' k n pc ls' st' := by
  subst e1; subst e2; subst e3; exact kk
theorem ks_top {pc : Nat} {x : Int32} (y : Int32) (e : x = y) (kk : ks_K κ g nL h k n pc ls (.int y :: st)) : ks_K κ g nL h k n pc ls (.int x :: st) := by
  subst e; exact kk
theorem ks_topl {pc : Nat} {x : Int64} (y : Int64) (e : x = y) (kk : ks_K κ g nL h k n pc ls (.long y :: st)) : ks_K κ g nL h k n pc ls (.long x :: st) := by
  subst e; exact kk
theorem ks_pick {pc : Nat} (is : List Nat) (lv : List (Nat × Value)) (e : lv_pick ls is = lv) (kk : ks_K κ g nL h k n pc lv st) : ks_K κ g nL h k n pc ls st := by
  obtain ⟨p, l, en, R, s, m, args, below, meth, c, Q⟩ := κ
  exact fun H locs la hR hS hl => kk H locs la hR hS (lv_sub hl is e)
theorem ks_widen {pc : Nat} (k' n' : Nat) (hk : k ≤ k') (hn : n ≤ n') (kk : ks_K κ g nL h k' n' pc ls st) : ks_K κ g nL h k n pc ls st := by
  obtain ⟨p, l, e, R, s, m, args, below, meth, c, Q⟩ := κ
  exact fun H locs la hR hS hl => W.widen hk hn (kk H locs la hR hS hl)

end KSR
