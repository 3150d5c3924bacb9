def kTO (T : Nat → Int32) (l : List Int32) : Prop := ∀ (i : Nat) (v : Int32), l[i]? = some v → T i = v
theorem kTO.snoc {T : Nat → Int32} {l : List Int32} {v : Int32} (h : kTO T l) : kTO (upd T l.length v) (l ++ [v]) := by
  intro i w hi
  by_cases hl : i < l.length
  · rw [List.getElem?_append_left hl] at hi
    rw [pk_un (by omega)]
    exact h i w hi
  · have hz := (List.getElem?_eq_some_iff.mp hi).1
    rw [List.length_append] at hz
    have : i = l.length := by simp at hz; omega
    subst this
    simp at hi
    rw [pk_us]; exact hi
def kPad (g : ks_G) (h : ks_H) (d : Nat) (l : List Int32) : Prop := ∃ T : Nat → Int32, h[d]? = some (ks_O 2 [ks_ref g (d + 1), .int (nI l.length)]) ∧ h[d + 1]? = some (ks_I g 80 T) ∧ kTO T l ∧ l.length ≤ 80
theorem kPad.fr {g : ks_G} {h h' : ks_H} {d : Nat} {l : List Int32} (x : kPad g h d l) {lo hi : Nat} (f : ks_Fr h h' lo hi) (z : d + 2 ≤ lo ∨ hi ≤ d) : kPad g h' d l := by
  obtain ⟨T, hD, hT, r⟩ := x
  exact ⟨T, f.at hD (by omega), f.at hT (by omega), r⟩
theorem kPad.ex {g : ks_G} {h h' : ks_H} {d : Nat} {l : List Int32} (x : kPad g h d l) {lo : Nat} (f : ks_Ex h h' lo) (z : d + 2 ≤ lo) : kPad g h' d l := by
  obtain ⟨T, hD, hT, r⟩ := x
  exact ⟨T, (f _ (by omega)).trans hD, (f _ (by omega)).trans hT, r⟩
set_option maxRecDepth 100000 in
set_option maxHeartbeats 4000000 in
theorem c_Pad_init {g : ks_G} {h : ks_H} {d : Nat} (hD : h[d]? = some (ks_O 2 [.null, .int 0])) (hlen : h.length = d + 1) : ks_Met g (yX2_init, cX2_init, 1, none) 1 1 80 [ks_ref g d] h (ks_Pv (fun h' => kPad g h' d [] ∧ ks_Ex h h' d ∧ h'.length = d + 2)) := by
  refine ks_intro (by decide) (Nat.le_of_ble_eq_true rfl) (fun κ hκ hRt => ?_)
  refine ks_cv (ls := [(0, ks_ref g d)]) ?_ rfl rfl rfl
  have hX : ks_Ex h h d := ks_Ex.rf
  refine ks_aload_n hκ 0 0 dX2_init_0 rfl ?_
  refine ks_objInit hκ 1 dX2_init_1 kj_X2_3 ku_oi ku_oc (by decide) (Nat.le_of_ble_eq_true rfl) ?_
  refine ks_aload_n hκ 4 0 dX2_init_4 rfl ?_
  refine ks_bipush hκ 5 (nI 80) dX2_init_5 kq_b80 ?_
  refine ks_newiB hκ 7 hlen dX2_init_7 (by decide) (by decide) (by decide) (fun xh1 exh1 => ?_)
  replace hD := ks_gb exh1 hD
  have hT := ks_ga exh1 hlen
  replace hX := ks_Ex.ps hX exh1 (by omega)
  replace hlen := ks_gl exh1 hlen
  clear exh1
  refine ks_putT hκ 9 [_, _] dX2_init_9 rfl kf_X2_9 hD rfl rfl (Nat.le_of_ble_eq_true rfl) rfl ?_
  refine ks_gen (fun xh2 exh2 => ?_)
  replace hD := ks_gs exh2 hD
  replace hT := ks_gn exh2 (ks_nb (b := d) (i := 0) (j := 1) rfl) hT
  replace hX := ks_Ex.st hX exh2 (by omega)
  replace hlen := ks_gz exh2 hlen
  clear exh2
  refine ks_aload_n hκ 12 0 dX2_init_12 rfl ?_
  refine ks_iconst hκ 13 (nI 0) dX2_init_13 kq_i0 ?_
  refine ks_putS hκ 14 [_, _] dX2_init_14 kf_X2_15 hD rfl rfl (Nat.le_of_ble_eq_true rfl) rfl ?_
  refine ks_gen (fun xh3 exh3 => ?_)
  replace hD := ks_gs exh3 hD
  replace hT := ks_gn exh3 (ks_nb (b := d) (i := 0) (j := 1) rfl) hT
  replace hX := ks_Ex.st hX exh3 (by omega)
  replace hlen := ks_gz exh3 hlen
  clear exh3
  refine ks_vret hκ 17 hRt dX2_init_17 (by decide) (by decide) ?_
  exact ⟨rfl, ⟨_, hD, hT, fun i v hi => by simp at hi, Nat.zero_le _⟩, hX, hlen⟩
