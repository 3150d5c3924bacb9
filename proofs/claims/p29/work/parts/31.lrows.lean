
/-! THE LAW'S OWN METHODS: rows and words -/
section KSLR
variable {κ : ks_C} {g : ks_G} {own nm : String} {cc : ByteArray} {nL d mc ms k n : Nat} {h : ks_H} {ls : List (Nat × Value)} {st : List Value}

theorem ks_ldc (hκ : ks_Ok κ g own nm cc nL d mc ms) (pc : Nat) {ix : Nat} (v : Int32) (hd : decode cc pc = .ok (.ldc ix, 2)) (hw : Cond.constant own ix v ∈ lw_g) (kk : ks_K κ g nL h k n (pc + 2) ls (.int v :: st)) : ks_K κ g nL h k n pc ls st := by
  obtain ⟨p, l, e, R, s, m, args, below, meth, c, Q⟩ := κ
  obtain ⟨hx, hb, hml, hown, hts, hin, hfr, hlo, hce, hsl, hK, hSt, hNw, hz⟩ := hκ
  exact fun H locs la hR hS hl => lv_ldc hx hb hown (hts _ hw) hd (kk H locs la hR hS hl)
theorem ks_ladd (hκ : ks_Ok κ g own nm cc nL d mc ms) (pc : Nat) {x y : Int64} (hd : decode cc pc = .ok (.ladd, 1)) (kk : ks_K κ g nL h k n (pc + 1) ls (.long (x + y) :: st)) : ks_K κ g nL h k n pc ls (.long y :: .long x :: st) := by
  obtain ⟨p, l, e, R, s, m, args, below, meth, c, Q⟩ := κ
  obtain ⟨hx, hb, hml, hown, hts, hin, hfr, hlo, hce, hsl, hK, hSt, hNw, hz⟩ := hκ
  exact fun H locs la hR hS hl => lv_ladd hx hb hd (kk H locs la hR hS hl)
theorem ks_lmul (hκ : ks_Ok κ g own nm cc nL d mc ms) (pc : Nat) {x y : Int64} (hd : decode cc pc = .ok (.lmul, 1)) (kk : ks_K κ g nL h k n (pc + 1) ls (.long (x * y) :: st)) : ks_K κ g nL h k n pc ls (.long y :: .long x :: st) := by
  obtain ⟨p, l, e, R, s, m, args, below, meth, c, Q⟩ := κ
  obtain ⟨hx, hb, hml, hown, hts, hin, hfr, hlo, hce, hsl, hK, hSt, hNw, hz⟩ := hκ
  exact fun H locs la hR hS hl => lv_lmul hx hb hd (kk H locs la hR hS hl)
theorem ks_lgret (hκ : ks_Ok κ g own nm cc nL d mc ms) (pc : Nat) {Post : Option Value → ks_H → Prop} {x : Int64} (hRt : ks_Rt κ g (some .long) mc ms Post) (hd : decode cc pc = .ok (.lreturn, 1)) (hk : k ≤ mc) (hn : n ≤ ms) (hp : Post (some (.long x)) h) : ks_K κ g nL h k n pc ls [.long x] := by
  obtain ⟨p, l, e, R, s, m, args, below, meth, c, Q⟩ := κ
  obtain ⟨hx, hb, hml, hown, hts, hin, hfr, hlo, hce, hsl, hK, hSt, hNw, hz⟩ := hκ
  obtain ⟨r1, r2, rfl⟩ := hRt
  have hlocks := r2
  intro H locs la hR hS hl
  refine W.widen hk hn ?_
  exact W.lret hx hb r1 (fun t ht hW => ⟨⟨_, h, rfl, hp, by rw [ht]; exact hR⟩, hS.F ht⟩) hS.2.2 hd
theorem ks_sldg (hκ : ks_Ok κ g own nm cc nL d mc ms) (pc : Nat) (j : Nat) (hj : j < g.2.2.2.2.2.2.2.1) (hL : g.2.2.2.2.2.2.2.1 ≤ 260) (hd : decode cc pc = .ok (.iaload, 1)) (kk : ks_K κ g nL h k n (pc + 1) ls (.int (g.2.2.2.2.2.2.2.2 j) :: st)) : ks_K κ g nL h k n pc ls (.int (nI j) :: .ref g.2.2.2.2.2.2.1 :: st) := by
  obtain ⟨p, l, e, R, s, m, args, below, meth, c, Q⟩ := κ
  obtain ⟨hx, hb, hml, hown, hts, hin, hfr, hlo, hce, hsl, hK, hSt, hNw, hz⟩ := hκ
  obtain ⟨hX, hbl, hbA⟩ := hSt.2.2.2
  intro H locs la hR hS hl
  refine va_sld hx hb hX hbl hbA hS (vp_in_nI hj (by omega)) hd ?_
  rw [nI_clamp (by omega)]
  exact kk H locs la hR hS hl
theorem ks_sleng (hκ : ks_Ok κ g own nm cc nL d mc ms) (pc : Nat)  (hd : decode cc pc = .ok (.arraylength, 1)) (kk : ks_K κ g nL h k n (pc + 1) ls (.int (nI g.2.2.2.2.2.2.2.1) :: st)) : ks_K κ g nL h k n pc ls (.ref g.2.2.2.2.2.2.1 :: st) := by
  obtain ⟨p, l, e, R, s, m, args, below, meth, c, Q⟩ := κ
  obtain ⟨hx, hb, hml, hown, hts, hin, hfr, hlo, hce, hsl, hK, hSt, hNw, hz⟩ := hκ
  obtain ⟨hX, hbl, hbA⟩ := hSt.2.2.2
  exact fun H locs la hR hS hl => va_slen hx hb hX hbl hbA hS hd (kk H locs la hR hS hl)
end KSLR
def ks_Pl (r : Int64) (h : ks_H) : Option Value → ks_H → Prop := fun v h' => v = some (.long r) ∧ h' = h
theorem ks_pureL1 {κ : ks_C} {g : ks_G} {own nm : String} {cc : ByteArray} {nL d mc ms k n : Nat} {h : ks_H} {ls : List (Nat × Value)} {st : List Value} (hκ : ks_Ok κ g own nm cc nL d mc ms) (pc : Nat) {ix dc nL' : Nat} {cc' : ByteArray} {y : MethodName} {ret : Option FieldType} {a1 : Value} {r : Int64} (hd : decode cc pc = .ok (.invokestatic ix, 3)) (hw : ks_CS own ix y cc' nL' ret 1) (hM : ks_Met g (y, cc', nL', ret) dc 0 0 [a1] h (ks_Pl r h)) (hdc : dc < d) (hst : (st.map fun v => v.category).sum ≤ 8) (hk : k ≤ mc) (hn : n ≤ ms) (kk : ks_K κ g nL h k n (pc + 3) ls (.long r :: st)) : ks_K κ g nL h k n pc ls (a1 :: st) := ks_callS1 hκ pc hd hw hM hdc hk hn hst (fun v h' hp => by obtain ⟨rfl, rfl⟩ := hp; exact kk)
set_option maxRecDepth 100000 in
theorem kb_L_cell : ks_CB yL_cell cL_cell 2 (some .int) 2 := ⟨ks_mg 10 (by decide +kernel) rfl, ks_mg 282 (by decide +kernel) rfl, ⟨by decide +kernel, by decide +kernel⟩, by decide +kernel, by decide⟩
set_option maxRecDepth 100000 in
theorem kb_L_low : ks_CB yL_low cL_low 2 (some .int) 2 := ⟨ks_mg 10 (by decide +kernel) rfl, ks_mg 287 (by decide +kernel) rfl, ⟨by decide +kernel, by decide +kernel⟩, by decide +kernel, by decide⟩
set_option maxRecDepth 100000 in
theorem kb_L_kittens : ks_CB yL_kittens cL_kittens 10 (some .boolean) 1 := ⟨ks_mg 10 (by decide +kernel) rfl, ks_mg 291 (by decide +kernel) rfl, ⟨by decide +kernel, by decide +kernel⟩, by decide +kernel, by decide⟩
set_option maxRecDepth 100000 in
theorem kb_L_ones : ks_CB yL_ones cL_ones 3 (some .int) 1 := ⟨ks_mg 10 (by decide +kernel) rfl, ks_mg 339 (by decide +kernel) rfl, ⟨by decide +kernel, by decide +kernel⟩, by decide +kernel, by decide⟩
set_option maxRecDepth 100000 in
theorem kb_L_edges : ks_CB yL_edges cL_edges 10 (some .boolean) 1 := ⟨ks_mg 10 (by decide +kernel) rfl, ks_mg 362 (by decide +kernel) rfl, ⟨by decide +kernel, by decide +kernel⟩, by decide +kernel, by decide⟩
set_option maxRecDepth 100000 in
theorem kb_L_plans : ks_CB yL_plans cL_plans 5 (some .boolean) 1 := ⟨ks_mg 10 (by decide +kernel) rfl, ks_mg 393 (by decide +kernel) rfl, ⟨by decide +kernel, by decide +kernel⟩, by decide +kernel, by decide⟩
set_option maxRecDepth 100000 in
theorem kb_L_print : ks_CB yL_print cL_print 5 (some .long) 1 := ⟨ks_mg 10 (by decide +kernel) rfl, ks_mg 414 (by decide +kernel) rfl, ⟨by decide +kernel, by decide +kernel⟩, by decide +kernel, by decide⟩
set_option maxRecDepth 100000 in
theorem kb_L_leaps : ks_CB yL_leaps cL_leaps 19 (some .boolean) 3 := ⟨ks_mg 10 (by decide +kernel) rfl, ks_mg 419 (by decide +kernel) rfl, ⟨by decide +kernel, by decide +kernel⟩, by decide +kernel, by decide⟩
set_option maxRecDepth 100000 in
theorem kb_L_waits : ks_CB yL_waits cL_waits 12 (some .boolean) 3 := ⟨ks_mg 10 (by decide +kernel) rfl, ks_mg 462 (by decide +kernel) rfl, ⟨by decide +kernel, by decide +kernel⟩, by decide +kernel, by decide⟩
set_option maxRecDepth 100000 in
theorem kb_L_act : ks_CB yL_act cL_act 6 (some .int) 3 := ⟨ks_mg 10 (by decide +kernel) rfl, ks_mg 502 (by decide +kernel) rfl, ⟨by decide +kernel, by decide +kernel⟩, by decide +kernel, by decide⟩
set_option maxRecDepth 100000 in
theorem kc_L_97 : ks_CS RL 97 yL_cell cL_cell 2 (some .int) 2 := ⟨kb_L_cell, Or.inl (ks_mg 280 (by decide +kernel) rfl), ks_mg 281 (by decide +kernel) rfl⟩
set_option maxRecDepth 100000 in
theorem kd_L_7 : Cond.constant RL 7 (916318735) ∈ lw_g := ks_mg 283 (by decide +kernel) rfl
set_option maxRecDepth 100000 in
theorem kd_L_8 : Cond.constant RL 8 (833078363) ∈ lw_g := ks_mg 284 (by decide +kernel) rfl
set_option maxRecDepth 100000 in
theorem kc_L_78 : ks_CS RL 78 yL_low cL_low 2 (some .int) 2 := ⟨kb_L_low, Or.inl (ks_mg 285 (by decide +kernel) rfl), ks_mg 286 (by decide +kernel) rfl⟩
set_option maxRecDepth 100000 in
theorem kd_L_9 : Cond.constant RL 9 (2147483647) ∈ lw_g := ks_mg 288 (by decide +kernel) rfl
set_option maxRecDepth 100000 in
theorem kc_L_74 : ks_CS RL 74 yL_kittens cL_kittens 10 (some .boolean) 1 := ⟨kb_L_kittens, Or.inl (ks_mg 289 (by decide +kernel) rfl), ks_mg 290 (by decide +kernel) rfl⟩
set_option maxRecDepth 100000 in
theorem kc_L_20 : ks_CS RL 20 yL_ones cL_ones 3 (some .int) 1 := ⟨kb_L_ones, Or.inl (ks_mg 337 (by decide +kernel) rfl), ks_mg 338 (by decide +kernel) rfl⟩
set_option maxRecDepth 100000 in
theorem kc_L_109 : ks_CS RL 109 yL_edges cL_edges 10 (some .boolean) 1 := ⟨kb_L_edges, Or.inl (ks_mg 360 (by decide +kernel) rfl), ks_mg 361 (by decide +kernel) rfl⟩
set_option maxRecDepth 100000 in
theorem kc_L_112 : ks_CS RL 112 yL_plans cL_plans 5 (some .boolean) 1 := ⟨kb_L_plans, Or.inl (ks_mg 391 (by decide +kernel) rfl), ks_mg 392 (by decide +kernel) rfl⟩
set_option maxRecDepth 100000 in
theorem kc_L_67 : ks_CS RL 67 yL_print cL_print 5 (some .long) 1 := ⟨kb_L_print, Or.inl (ks_mg 412 (by decide +kernel) rfl), ks_mg 413 (by decide +kernel) rfl⟩
set_option maxRecDepth 100000 in
theorem kc_L_105 : ks_CS RL 105 yL_leaps cL_leaps 19 (some .boolean) 3 := ⟨kb_L_leaps, Or.inl (ks_mg 417 (by decide +kernel) rfl), ks_mg 418 (by decide +kernel) rfl⟩
set_option maxRecDepth 100000 in
theorem kc_L_115 : ks_CS RL 115 yL_waits cL_waits 12 (some .boolean) 3 := ⟨kb_L_waits, Or.inl (ks_mg 460 (by decide +kernel) rfl), ks_mg 461 (by decide +kernel) rfl⟩
set_option maxRecDepth 100000 in
theorem kc_L_101 : ks_CS RL 101 yL_act cL_act 6 (some .int) 3 := ⟨kb_L_act, Or.inl (ks_mg 500 (by decide +kernel) rfl), ks_mg 501 (by decide +kernel) rfl⟩
