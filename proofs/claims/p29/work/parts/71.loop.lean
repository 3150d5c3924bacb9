def R_law : String := "KittenStairsLaw"
def lw_P (b : Addr) (xs : List Int32) (args : Array Value) (s : State) : Prop := args = #[.ref b] ∧ s.IntsAt b xs ∧ xs.length ≤ 260 ∧ (Jvm.Cond.and given_1 narrow_1).before args s = true
def lw_Q (_ : Array Value) (s : State) (o : Outcome) (t : State) : Prop := o = .returned (some (.int 1)) ∧ Framed s o t [] 600000 7302250
def lw_Z (below : List Frame) (a : Array Value) (s : State) : State → Prop := fun t => ∃ o, t.status = .running ∧ Ended t below o ∧ lw_Q a s o t
/-- the law's own end, with 1 on the stack, nothing written that was there before, its room as the claim has it -/
theorem lw_ret {p : Program} {l : Launch} {e : Env} {s : State} {m : MethodId} {below : List Frame} {meth : Method} {c : Code} {b : Nat} (hx : p.tables.exec = Jvm.exec) (hb : c.code = code) (hr : meth.sig.returnType = ret) (hlocks : meth.locks = false) {pc : Nat} {H : Heap} {ls : Array Slot} (hdg : decode code pc = .ok (.ireturn, 1)) : W p l e room_1 s m #[Value.ref b] below meth c H [] 600000 7302250 (lw_Z below #[Value.ref b] s) (F0 m pc ls [.int 1]) := by
  intro T hT X
  obtain ⟨fs, hret, hrun, hended, hW, hframe⟩ := X.leave (v := some (.int 1)) (hlocks := hlocks) (fun h => by rw [hr] at h; cases h)
  have hmeth' : T.vm.method? m = some meth := X.method'
  refine ⟨T.setFrames fs, ?_, .returned (some (.int 1)), hrun, hended, rfl, ⟨_, rfl⟩, hW, hframe⟩
  jvm_step X.here [X.here.top, hx, hb, hdg, hmeth', hr, ret, narrow_b1]
  (try refine ⟨rfl, ?_⟩); (try refine ⟨rfl, ?_⟩)
  first | (intro acts; rw [hret _ acts rfl rfl rfl]) | rw [hret _ _ rfl rfl rfl]
  exact Steps.refl _
/-- what holds at the law's entry: the machine, the code, the tables' words (any of lw_tbl by 'hts w (by decide +kernel)'), the script of L ints xs at the cell b, what the Statement gives of the start (any of its parts by flat_of_before) -/
def lw_At (p : Program) (s : State) (m : MethodId) (meth : Method) (c : Code) (b L : Nat) (xs : Nat → Int32) : Prop :=
  p.tables.exec = Jvm.exec ∧ c.code = code ∧ meth.sig.returnType = ret ∧ c.maxLocals = 11 ∧ s.vm.findClass R_law = some m.cls ∧ (∀ w ∈ lw_tbl, w.before #[Value.ref b] s = true) ∧ va_X b L xs s s.heap ∧ b < s.heap.size ∧ meth.locks = false ∧ (Jvm.Cond.and given_1 narrow_1).before #[Value.ref b] s = true

/-! P29: the law's loop -/
def ks_Le (κ : ks_C) (g : ks_G) : Prop :=
  match κ with
  | (p, _, _, R, s, _, args, below, meth, c, Q) => ∃ b : Nat, R = room_1 ∧ args = #[Value.ref b] ∧ Q = lw_Z below #[Value.ref b] s ∧ p.tables.exec = Jvm.exec ∧ c.code = code ∧ meth.sig.returnType = ret ∧ meth.locks = false ∧ g.1 = s.heap.size
section KSL
variable {κ : ks_C} {g : ks_G} {nL k n : Nat} {h : ks_H} {ls : List (Nat × Value)} {st : List Value}
theorem ks_lret (hle : ks_Le κ g) (pc : Nat) (hd : decode code pc = .ok (.ireturn, 1)) (hk : k ≤ 600000) (hn : n ≤ 7302250) : ks_K κ g nL h k n pc ls [.int (nI 1)] := by
  obtain ⟨p, l, e, R, s, m, args, below, meth, c, Q⟩ := κ
  obtain ⟨b, rfl, rfl, rfl, hx, hb, hr, hlocks, hg⟩ := hle
  intro H locs la hR hS hl
  refine va_forget (fun q hq => ?_) ?_
  · have h1 : g.1 ≤ q.base := hS.2.2 q hq
    rw [hg] at h1
    exact h1
  · exact W.widen hk hn (lw_ret hx hb hr hlocks hd)
end KSL
def q9Sg (y : Int32) (a : Nat) : Int32 := if q9Lo y 2 = 0 then nI a else 0 - nI a
theorem q9Sg_x {y : Int32} {a : Nat} (h1 : 1 ≤ a) (h2 : a ≤ 6) : ∃ b : Nat, 1 ≤ b ∧ b ≤ 6 ∧ (q9Sg y a = nI b ∨ q9Sg y a = 0 - nI b) := by
  refine ⟨a, h1, h2, ?_⟩
  unfold q9Sg
  by_cases h : q9Lo y 2 = 0
  · rw [if_pos h]; exact Or.inl rfl
  · rw [if_neg h]; exact Or.inr rfl
theorem q9Kit {σ : kS} {a c : Nat} (hJ : q9J σ) (ha : a < 16) (hc : σ.2.2.1 = c) (hc6 : c < 6) : ∃ τ, kAdd σ (nI a) = (nI c, τ) ∧ q9J τ ∧ τ.2.2.1 = c + 1 ∧ τ.2.1 = σ.2.1 := by
  have h1 : kKitE σ (nI a) = 0 := by
    unfold kKitE
    rw [if_neg (nI_pos (by omega)), if_neg (fun q => by have := (nI_leI (by decide) (by omega)).mp q; omega), if_neg (by omega)]
    rfl
  have hJ2 := q9J_add (x := nI a) hJ
  obtain ⟨e1, e2⟩ := kKitE_ok h1
  refine ⟨(kAdd σ (nI a)).2, ?_, hJ2, ?_, ?_⟩
  · rw [e1, hc]
  · rw [e1, hc]
  · rw [e1]
set_option maxRecDepth 100000 in
set_option maxHeartbeats 16000000 in
theorem law_loop {κ : ks_C} {g : ks_G} {nm : String} (hκ : ks_Ok κ g RL nm code 11 9 600000 7302250) (hle : ks_Le κ g) (hL : g.2.2.2.2.2.2.2.1 ≤ 260) : ∀ (fuel vi n0 : Nat) (σ : kS) (H : List kS) (h : ks_H), q9K g h σ H → q9J σ → 3 ≤ σ.2.2.1 → σ.2.1 = nI n0 → n0 ≤ 4 * vi → vi ≤ 32 → 32 - vi < fuel → ks_K κ g 11 h (89 + 112 * vi) (3187 + 4165 * vi) 69 [(0, .ref g.2.2.2.2.2.2.1), (1, ks_ref g 0), (2, .int (nI 1)), (3, .int (nI vi))] [] := by
  intro fuel
  induction fuel with
  | zero => intro vi n0 σ H h _ _ _ _ _ _ hf; exact absurd hf (Nat.not_lt_zero _)
  | succ fuel ih =>
    intro vi n0 σ H h hks hJ hki3 hn0e hn0v hvi hfuel
    have hX0 := hks.ob
    have hHl := hks.hl
    refine ks_iload_n hκ 69 3 dL_law_69 rfl ?_
    refine ks_bipush hκ 70 (nI 32) dL_law_70 kq_b32 ?_
    refine ks_icmp_ge hκ 72 374 dL_law_72 rfl (fun c72 => ?_) (fun c72 => ?_)
    · skip
      have c72 := (nI_leI (by omega) (by omega)).mp c72
      refine ks_iload_n hκ 374 2 dL_law_374 rfl ?_
      refine ks_if_eq hκ 375 403 dL_law_375 rfl (fun c375 => ?_) (fun c375 => ?_)
      · skip
        exact absurd c375 (by decide)
      · skip
        refine ks_aload_n hκ 378 1 dL_law_378 rfl ?_
        refine ks_pureS1 hκ 379 dL_law_379 kc_L_74 (l_kittens hks hJ) (by decide) (Nat.le_of_ble_eq_true rfl) (by omega) (by omega) ?_
        refine ks_if_eq hκ 382 403 dL_law_382 rfl (fun c382 => ?_) (fun c382 => ?_)
        · skip
          exact absurd c382 (by decide)
        · skip
          refine ks_aload_n hκ 385 1 dL_law_385 rfl ?_
          refine ks_pureS1 hκ 386 dL_law_386 kc_L_109 (l_edges hks hJ) (by decide) (Nat.le_of_ble_eq_true rfl) (by omega) (by omega) ?_
          refine ks_if_eq hκ 389 403 dL_law_389 rfl (fun c389 => ?_) (fun c389 => ?_)
          · skip
            exact absurd c389 (by decide)
          · skip
            refine ks_aload_n hκ 392 1 dL_law_392 rfl ?_
            refine ks_pureS1 hκ 393 dL_law_393 kc_L_112 (l_plans hks hJ) (by decide) (Nat.le_of_ble_eq_true rfl) (by omega) (by omega) ?_
            refine ks_if_eq hκ 396 403 dL_law_396 rfl (fun c396 => ?_) (fun c396 => ?_)
            · skip
              exact absurd c396 (by decide)
            · skip
              refine ks_iconst hκ 399 (nI 1) dL_law_399 kq_i1 ?_
              refine ks_goto hκ 400 404 dL_law_400 rfl ?_
              exact ks_lret hle 404 dL_law_404 (by omega) (by omega)
    · skip
      have c72 := mt (nI_leI (by omega) (by omega)).mpr c72
      refine ks_iload_n hκ 75 2 dL_law_75 rfl ?_
      refine ks_if_eq hκ 76 374 dL_law_76 rfl (fun c76 => ?_) (fun c76 => ?_)
      · skip
        exact absurd c76 (by decide)
      · skip
        refine ks_aload_nr hκ 79 0 dL_law_79 rfl ?_
        refine ks_iconst hκ 80 (nI 3) dL_law_80 kq_i3 ?_
        refine ks_iconst hκ 81 (nI 2) dL_law_81 kq_i2 ?_
        refine ks_iload_n hκ 82 3 dL_law_82 rfl ?_
        refine ks_imulN hκ 83 dL_law_83 ?_
        refine ks_iaddN hκ 84 dL_law_84 ?_
        refine ks_pureS2 hκ 85 dL_law_85 kc_L_97 (l_cell (k := (3 + (2 * vi))) (by omega) hL) (by decide) (Nat.le_of_ble_eq_true rfl) (by omega) (by omega) ?_
        refine ks_istore hκ 88 4 [(4, _), (0, _), (1, _), (2, _), (3, _)] dL_law_88 (by decide) rfl ?_
        refine ks_aload_nr hκ 90 1 dL_law_90 rfl ?_
        refine ks_iconst hκ 91 (nI 4) dL_law_91 kq_i4 ?_
        refine ks_iconst hκ 92 (nI 2) dL_law_92 kq_i2 ?_
        refine ks_iload_n hκ 93 4 dL_law_93 rfl ?_
        refine ks_imulN hκ 94 dL_law_94 ?_
        refine ks_iaddN hκ 95 dL_law_95 ?_
        refine ks_pureS2 hκ 96 dL_law_96 kc_L_97 (l_cell (k := (4 + (2 * vi))) (by omega) hL) (by decide) (Nat.le_of_ble_eq_true rfl) (by omega) (by omega) ?_
        refine ks_istore hκ 99 5 [(5, _), (4, _), (0, _), (1, _), (2, _), (3, _)] dL_law_99 (by decide) rfl ?_
        refine ks_aload_n hκ 101 3 dL_law_101 rfl ?_
        refine ks_bipush hκ 102 (nI 16) dL_law_102 kq_b16 ?_
        refine ks_pureV1 hκ 104 dL_law_104 kc_L_10 (w_count hks (by decide) (nI H.length) rfl) hX0 rfl (by decide) (Nat.le_of_ble_eq_true rfl) (by omega) (by omega) ?_
        refine ks_istore hκ 107 6 [(6, _), (5, _), (4, _), (0, _), (1, _), (2, _), (3, _)] dL_law_107 (by decide) rfl ?_
        refine ks_aload_n hκ 109 4 dL_law_109 rfl ?_
        refine ks_pureL1 hκ 110 dL_law_110 kc_L_67 (l_print hks hJ) (by decide) (Nat.le_of_ble_eq_true rfl) (by omega) (by omega) ?_
        refine ks_lstore hκ 113 7 [(7, _), (6, _), (5, _), (4, _), (0, _), (1, _), (2, _), (3, _)] dL_law_113 (by decide) rfl ?_
        refine ks_aload_n hκ 115 5 dL_law_115 rfl ?_
        refine ks_iload hκ 116 3 dL_law_116 rfl ?_
        refine ks_iload hκ 118 2 dL_law_118 rfl ?_
        refine ks_intcS3 hκ 120 dL_law_120 kc_L_101 (l_act hks hJ) (by decide) (Nat.le_of_ble_eq_true rfl) (by omega) (by omega) (fun r120 xh1 hp120 => ?_)
        obtain ⟨rfl, hks⟩ := hp120
        have hX0 := hks.ob
        obtain ⟨ae, aJ, aki, n1, an, an4⟩ := q9Ac_all (x := (q9Ce g (3 + 2 * vi))) (y := (q9Ce g (4 + 2 * vi))) hJ hn0e
        refine ks_istore hκ 123 9 [(9, _), (7, _), (6, _), (5, _), (4, _), (0, _), (1, _), (2, _), (3, _)] dL_law_123 (by decide) rfl ?_
        refine ks_iload hκ 125 0 dL_law_125 rfl ?_
        have J252 : ∀ (σ : kS) (H : List kS) (h : ks_H) (n0 : Nat) (hks : q9K g h σ H) (hJ : q9J σ) (hki3 : 3 ≤ σ.2.2.1) (hn0e : σ.2.1 = nI n0) (hn4 : n0 ≤ 4 * vi + 4), ks_K κ g 11 h (89 + 112 * vi + 48) (3187 + 4165 * vi + 1785) 252 [(0, .ref g.2.2.2.2.2.2.1), (1, ks_ref g 0), (2, .int (nI 1)), (3, .int (nI vi)), (4, .int (q9Ce g (3 + 2 * vi))), (5, .int (q9Ce g (4 + 2 * vi)))] [] := by
          intro σ H h n0 hks hJ hki3 hn0e hn4
          have hX0 := hks.ob
          refine ks_iconst hκ 252 (nI 1) dL_law_252 kq_i1 ?_
          refine ks_iload hκ 253 5 dL_law_253 rfl ?_
          refine ks_iconst hκ 255 (nI 5) dL_law_255 kq_i5 ?_
          refine ks_ishr hκ 256 dL_law_256 ?_
          refine ks_bipush hκ 257 (nI 6) dL_law_257 kq_b6 ?_
          have hb259 : q9Lo ((q9Ce g (4 + 2 * vi)) >>> (nI 5 &&& 31)) 6 < 6 := q9Lo_lt (by decide)
          refine ks_pureS2 hκ 259 dL_law_259 kc_L_78 (l_low (v := ((q9Ce g (4 + 2 * vi)) >>> (nI 5 &&& 31))) (n := 6) (by decide) (by decide)) (by decide) (Nat.le_of_ble_eq_true rfl) (by omega) (by omega) ?_
          refine ks_iaddN hκ 262 dL_law_262 ?_
          refine ks_istore hκ 263 10 [(10, _), (0, _), (1, _), (2, _), (3, _), (4, _), (5, _)] dL_law_263 (by decide) rfl ?_
          refine ks_iload_n hκ 265 3 dL_law_265 rfl ?_
          refine ks_if_eq hκ 266 366 dL_law_266 rfl (fun c266 => ?_) (fun c266 => ?_)
          · skip
            exact absurd c266 (by decide)
          · skip
            refine ks_aload_n hκ 269 2 dL_law_269 rfl ?_
            refine ks_iload hκ 270 5 dL_law_270 rfl ?_
            refine ks_bipush hκ 272 (nI 6) dL_law_272 kq_b6 ?_
            refine ks_ishr hκ 274 dL_law_274 ?_
            refine ks_iconst hκ 275 (nI 3) dL_law_275 kq_i3 ?_
            have hb276 : q9Lo ((q9Ce g (3 + 2 * vi)) >>> (nI 6 &&& 31)) 3 < 3 := q9Lo_lt (by decide)
            refine ks_pureS2 hκ 276 dL_law_276 kc_L_78 (l_low (v := ((q9Ce g (3 + 2 * vi)) >>> (nI 6 &&& 31))) (n := 3) (by decide) (by decide)) (by decide) (Nat.le_of_ble_eq_true rfl) (by omega) (by omega) ?_
            refine ks_iload hκ 279 6 dL_law_279 rfl ?_
            refine ks_iconst hκ 281 (nI 2) dL_law_281 kq_i2 ?_
            have hb282 : q9Lo (q9Ce g (4 + 2 * vi)) 2 < 2 := q9Lo_lt (by decide)
            refine ks_pureS2 hκ 282 dL_law_282 kc_L_78 (l_low (v := (q9Ce g (4 + 2 * vi))) (n := 2) (by decide) (by decide)) (by decide) (Nat.le_of_ble_eq_true rfl) (by omega) (by omega) ?_
            refine ks_cut 296 (q9Sg (q9Ce g (4 + 2 * vi)) (1 + q9Lo ((q9Ce g (4 + 2 * vi)) >>> (nI 5 &&& 31)) 6)) 1 [_, _] rfl ?_ (fun J285 => ?_)
            · skip
              refine ks_intcS3 hκ 296 dL_law_296 kc_L_105 (l_leaps hks hJ (by omega) (q9Sg_x (by omega) (by omega))) (by decide) (Nat.le_of_ble_eq_true rfl) (by omega) (by omega) (fun r296 xh2 hp296 => ?_)
              obtain ⟨rfl, H, hks⟩ := hp296
              have hX0 := hks.ob
              refine ks_if_eq hκ 299 366 dL_law_299 rfl (fun c299 => ?_) (fun c299 => ?_)
              · skip
                exact absurd c299 (by decide)
              · skip
                refine ks_iload_n hκ 302 4 dL_law_302 rfl ?_
                refine ks_iconst hκ 303 (nI 3) dL_law_303 kq_i3 ?_
                refine ks_irem hκ 304 dL_law_304 (nI_ne0 (by decide) (by decide)) ?_
                refine ks_top (nI (vi % 3)) (q9Rem (by omega) (by decide) (by decide)) ?_
                refine ks_if_gt hκ 305 329 dL_law_305 rfl (fun c305 => ?_) (fun c305 => ?_)
                · skip
                  have c305 := (ks_gt0 (by omega)).mp c305
                  refine ks_iload_n hκ 329 4 dL_law_329 rfl ?_
                  refine ks_iconst hκ 330 (nI 5) dL_law_330 kq_i5 ?_
                  refine ks_irem hκ 331 dL_law_331 (nI_ne0 (by decide) (by decide)) ?_
                  refine ks_top (nI (vi % 5)) (q9Rem (by omega) (by decide) (by decide)) ?_
                  refine ks_if_gt hκ 332 362 dL_law_332 rfl (fun c332 => ?_) (fun c332 => ?_)
                  · skip
                    have c332 := (ks_gt0 (by omega)).mp c332
                    refine ks_iconst hκ 362 (nI 1) dL_law_362 kq_i1 ?_
                    refine ks_goto hκ 363 367 dL_law_363 rfl ?_
                    refine ks_istore_n hκ 367 2 [(2, _), (10, _), (0, _), (1, _), (3, _), (4, _), (5, _)] dL_law_367 rfl (by decide) rfl ?_
                    refine ks_iinc hκ 368 3 4 (nI (vi + 1)) [(3, _), (2, _), (10, _), (0, _), (1, _), (4, _), (5, _)] dL_law_368 rfl (ks_inc1 _) (by decide) rfl ?_
                    refine ks_goto hκ 371 69 dL_law_371 rfl ?_
                    refine ks_widen (89 + 112 * (vi + 1)) (3187 + 4165 * (vi + 1)) (by omega) (by omega) ?_
                    refine ks_pick [3, 4, 1, 0] [(0, _), (1, _), (2, _), (3, _)] rfl ?_
                    exact ks_cv (ih (vi + 1) _ _ _ _  hks hJ hki3 hn0e (by omega) (by omega) (by omega)) rfl rfl rfl
                  · skip
                    have c332 := mt (ks_gt0 (by omega)).mpr c332
                    refine ks_aload_n hκ 335 2 dL_law_335 rfl ?_
                    refine ks_iload hκ 336 5 dL_law_336 rfl ?_
                    refine ks_bipush hκ 338 (nI 8) dL_law_338 kq_b8 ?_
                    refine ks_ishr hκ 340 dL_law_340 ?_
                    refine ks_iconst hκ 341 (nI 3) dL_law_341 kq_i3 ?_
                    have hb342 : q9Lo ((q9Ce g (3 + 2 * vi)) >>> (nI 8 &&& 31)) 3 < 3 := q9Lo_lt (by decide)
                    refine ks_pureS2 hκ 342 dL_law_342 kc_L_78 (l_low (v := ((q9Ce g (3 + 2 * vi)) >>> (nI 8 &&& 31))) (n := 3) (by decide) (by decide)) (by decide) (Nat.le_of_ble_eq_true rfl) (by omega) (by omega) ?_
                    refine ks_iconst hκ 345 (nI 1) dL_law_345 kq_i1 ?_
                    refine ks_iload hκ 346 6 dL_law_346 rfl ?_
                    refine ks_iconst hκ 348 (nI 2) dL_law_348 kq_i2 ?_
                    refine ks_ishr hκ 349 dL_law_349 ?_
                    refine ks_bipush hκ 350 (nI 12) dL_law_350 kq_b12 ?_
                    have hb352 : q9Lo ((q9Ce g (4 + 2 * vi)) >>> (nI 2 &&& 31)) 12 < 12 := q9Lo_lt (by decide)
                    refine ks_pureS2 hκ 352 dL_law_352 kc_L_78 (l_low (v := ((q9Ce g (4 + 2 * vi)) >>> (nI 2 &&& 31))) (n := 12) (by decide) (by decide)) (by decide) (Nat.le_of_ble_eq_true rfl) (by omega) (by omega) ?_
                    refine ks_iaddN hκ 355 dL_law_355 ?_
                    refine ks_intcS3 hκ 356 dL_law_356 kc_L_115 (l_waits hks hJ (by omega) (by omega) (by omega) hn0e (by omega)) (by decide) (Nat.le_of_ble_eq_true rfl) (by omega) (by omega) (fun r356 xh3 hp356 => ?_)
                    obtain ⟨rfl, H, hks⟩ := hp356
                    have hX0 := hks.ob
                    refine ks_if_eq hκ 359 366 dL_law_359 rfl (fun c359 => ?_) (fun c359 => ?_)
                    · skip
                      exact absurd c359 (by decide)
                    · skip
                      refine ks_iconst hκ 362 (nI 1) dL_law_362 kq_i1 ?_
                      refine ks_goto hκ 363 367 dL_law_363 rfl ?_
                      refine ks_istore_n hκ 367 2 [(2, _), (10, _), (0, _), (1, _), (3, _), (4, _), (5, _)] dL_law_367 rfl (by decide) rfl ?_
                      refine ks_iinc hκ 368 3 4 (nI (vi + 1)) [(3, _), (2, _), (10, _), (0, _), (1, _), (4, _), (5, _)] dL_law_368 rfl (ks_inc1 _) (by decide) rfl ?_
                      refine ks_goto hκ 371 69 dL_law_371 rfl ?_
                      refine ks_widen (89 + 112 * (vi + 1)) (3187 + 4165 * (vi + 1)) (by omega) (by omega) ?_
                      refine ks_pick [3, 4, 1, 0] [(0, _), (1, _), (2, _), (3, _)] rfl ?_
                      exact ks_cv (ih (vi + 1) _ _ _ _  hks hJ hki3 hn0e (by omega) (by omega) (by omega)) rfl rfl rfl
                · skip
                  have c305 := mt (ks_gt0 (by omega)).mpr c305
                  refine ks_aload_n hκ 308 2 dL_law_308 rfl ?_
                  refine ks_pureS1 hκ 309 dL_law_309 kc_L_74 (l_kittens hks hJ) (by decide) (Nat.le_of_ble_eq_true rfl) (by omega) (by omega) ?_
                  refine ks_if_eq hκ 312 366 dL_law_312 rfl (fun c312 => ?_) (fun c312 => ?_)
                  · skip
                    exact absurd c312 (by decide)
                  · skip
                    refine ks_aload_n hκ 315 2 dL_law_315 rfl ?_
                    refine ks_pureS1 hκ 316 dL_law_316 kc_L_109 (l_edges hks hJ) (by decide) (Nat.le_of_ble_eq_true rfl) (by omega) (by omega) ?_
                    refine ks_if_eq hκ 319 366 dL_law_319 rfl (fun c319 => ?_) (fun c319 => ?_)
                    · skip
                      exact absurd c319 (by decide)
                    · skip
                      refine ks_aload_n hκ 322 2 dL_law_322 rfl ?_
                      refine ks_pureS1 hκ 323 dL_law_323 kc_L_112 (l_plans hks hJ) (by decide) (Nat.le_of_ble_eq_true rfl) (by omega) (by omega) ?_
                      refine ks_if_eq hκ 326 366 dL_law_326 rfl (fun c326 => ?_) (fun c326 => ?_)
                      · skip
                        exact absurd c326 (by decide)
                      · skip
                        refine ks_iload_n hκ 329 4 dL_law_329 rfl ?_
                        refine ks_iconst hκ 330 (nI 5) dL_law_330 kq_i5 ?_
                        refine ks_irem hκ 331 dL_law_331 (nI_ne0 (by decide) (by decide)) ?_
                        refine ks_top (nI (vi % 5)) (q9Rem (by omega) (by decide) (by decide)) ?_
                        refine ks_if_gt hκ 332 362 dL_law_332 rfl (fun c332 => ?_) (fun c332 => ?_)
                        · skip
                          have c332 := (ks_gt0 (by omega)).mp c332
                          refine ks_iconst hκ 362 (nI 1) dL_law_362 kq_i1 ?_
                          refine ks_goto hκ 363 367 dL_law_363 rfl ?_
                          refine ks_istore_n hκ 367 2 [(2, _), (10, _), (0, _), (1, _), (3, _), (4, _), (5, _)] dL_law_367 rfl (by decide) rfl ?_
                          refine ks_iinc hκ 368 3 4 (nI (vi + 1)) [(3, _), (2, _), (10, _), (0, _), (1, _), (4, _), (5, _)] dL_law_368 rfl (ks_inc1 _) (by decide) rfl ?_
                          refine ks_goto hκ 371 69 dL_law_371 rfl ?_
                          refine ks_widen (89 + 112 * (vi + 1)) (3187 + 4165 * (vi + 1)) (by omega) (by omega) ?_
                          refine ks_pick [3, 4, 1, 0] [(0, _), (1, _), (2, _), (3, _)] rfl ?_
                          exact ks_cv (ih (vi + 1) _ _ _ _  hks hJ hki3 hn0e (by omega) (by omega) (by omega)) rfl rfl rfl
                        · skip
                          have c332 := mt (ks_gt0 (by omega)).mpr c332
                          refine ks_aload_n hκ 335 2 dL_law_335 rfl ?_
                          refine ks_iload hκ 336 5 dL_law_336 rfl ?_
                          refine ks_bipush hκ 338 (nI 8) dL_law_338 kq_b8 ?_
                          refine ks_ishr hκ 340 dL_law_340 ?_
                          refine ks_iconst hκ 341 (nI 3) dL_law_341 kq_i3 ?_
                          have hb342 : q9Lo ((q9Ce g (3 + 2 * vi)) >>> (nI 8 &&& 31)) 3 < 3 := q9Lo_lt (by decide)
                          refine ks_pureS2 hκ 342 dL_law_342 kc_L_78 (l_low (v := ((q9Ce g (3 + 2 * vi)) >>> (nI 8 &&& 31))) (n := 3) (by decide) (by decide)) (by decide) (Nat.le_of_ble_eq_true rfl) (by omega) (by omega) ?_
                          refine ks_iconst hκ 345 (nI 1) dL_law_345 kq_i1 ?_
                          refine ks_iload hκ 346 6 dL_law_346 rfl ?_
                          refine ks_iconst hκ 348 (nI 2) dL_law_348 kq_i2 ?_
                          refine ks_ishr hκ 349 dL_law_349 ?_
                          refine ks_bipush hκ 350 (nI 12) dL_law_350 kq_b12 ?_
                          have hb352 : q9Lo ((q9Ce g (4 + 2 * vi)) >>> (nI 2 &&& 31)) 12 < 12 := q9Lo_lt (by decide)
                          refine ks_pureS2 hκ 352 dL_law_352 kc_L_78 (l_low (v := ((q9Ce g (4 + 2 * vi)) >>> (nI 2 &&& 31))) (n := 12) (by decide) (by decide)) (by decide) (Nat.le_of_ble_eq_true rfl) (by omega) (by omega) ?_
                          refine ks_iaddN hκ 355 dL_law_355 ?_
                          refine ks_intcS3 hκ 356 dL_law_356 kc_L_115 (l_waits hks hJ (by omega) (by omega) (by omega) hn0e (by omega)) (by decide) (Nat.le_of_ble_eq_true rfl) (by omega) (by omega) (fun r356 xh4 hp356 => ?_)
                          obtain ⟨rfl, H, hks⟩ := hp356
                          have hX0 := hks.ob
                          refine ks_if_eq hκ 359 366 dL_law_359 rfl (fun c359 => ?_) (fun c359 => ?_)
                          · skip
                            exact absurd c359 (by decide)
                          · skip
                            refine ks_iconst hκ 362 (nI 1) dL_law_362 kq_i1 ?_
                            refine ks_goto hκ 363 367 dL_law_363 rfl ?_
                            refine ks_istore_n hκ 367 2 [(2, _), (10, _), (0, _), (1, _), (3, _), (4, _), (5, _)] dL_law_367 rfl (by decide) rfl ?_
                            refine ks_iinc hκ 368 3 4 (nI (vi + 1)) [(3, _), (2, _), (10, _), (0, _), (1, _), (4, _), (5, _)] dL_law_368 rfl (ks_inc1 _) (by decide) rfl ?_
                            refine ks_goto hκ 371 69 dL_law_371 rfl ?_
                            refine ks_widen (89 + 112 * (vi + 1)) (3187 + 4165 * (vi + 1)) (by omega) (by omega) ?_
                            refine ks_pick [3, 4, 1, 0] [(0, _), (1, _), (2, _), (3, _)] rfl ?_
                            exact ks_cv (ih (vi + 1) _ _ _ _  hks hJ hki3 hn0e (by omega) (by omega) (by omega)) rfl rfl rfl
            · skip
              refine ks_if_ne hκ 285 293 dL_law_285 rfl (fun c285 => ?_) (fun c285 => ?_)
              · skip
                have c285 := mt (ks_eq0 (by omega)).mpr c285
                refine ks_iload hκ 293 0 dL_law_293 rfl ?_
                refine ks_ineg hκ 295 dL_law_295 ?_
                exact ks_top _ (by unfold q9Sg; rw [if_neg c285]) J285
              · skip
                have c285 := (ks_eq0 (by omega)).mp c285
                refine ks_iload hκ 288 0 dL_law_288 rfl ?_
                refine ks_goto hκ 290 296 dL_law_290 rfl ?_
                exact ks_top _ (by unfold q9Sg; rw [if_pos c285]) J285
        refine ks_if_ge hκ 127 160 dL_law_127 rfl (fun c127 => ?_) (fun c127 => ?_)
        · skip
          have c127b : ¬ (q9Ac σ (q9Ce g (3 + 2 * vi)) (q9Ce g (4 + 2 * vi))).1 < 0 := Int32.not_lt.mpr c127
          rw [q9Keep_ok c127b] at hks
          have jJ := aJ
          have jki : 3 ≤ (q9Ac σ (q9Ce g (3 + 2 * vi)) (q9Ce g (4 + 2 * vi))).2.2.2.1 := Nat.le_trans hki3 aki
          have jn := an
          have jn4 : n1 ≤ 4 * vi + 4 := by omega
          have hlen : ((σ :: H).take 6).length = min 6 (H.length + 1) := by rw [List.length_take, List.length_cons]
          refine ks_aload_n hκ 160 6 dL_law_160 rfl ?_
          refine ks_bipush hκ 161 (nI 16) dL_law_161 kq_b16 ?_
          refine ks_pureV1 hκ 163 dL_law_163 kc_L_10 (w_count hks (by decide) (nI ((σ :: H).take 6).length) rfl) hX0 rfl (by decide) (Nat.le_of_ble_eq_true rfl) (by omega) (by omega) ?_
          refine ks_iload hκ 166 2 dL_law_166 rfl ?_
          refine ks_bipush hκ 168 (nI 6) dL_law_168 kq_b6 ?_
          refine ks_cut 182 (nI ((σ :: H).take 6).length) 2 [_] rfl ?_ (fun J170 => ?_)
          · skip
            refine ks_icmp_ne hκ 182 189 dL_law_182 rfl (fun c182 => ?_) (fun c182 => ?_)
            · exfalso
              have c182 := mt (nI_eq (by omega) (by omega)).mpr c182
              exact c182 rfl
            · skip
              have c182 := (nI_eq (by omega) (by omega)).mp c182
              refine ks_iconst hκ 185 (nI 1) dL_law_185 kq_i1 ?_
              refine ks_goto hκ 186 190 dL_law_186 rfl ?_
              refine ks_istore_n hκ 190 2 [(2, _), (9, _), (7, _), (6, _), (5, _), (4, _), (0, _), (1, _), (3, _)] dL_law_190 rfl (by decide) rfl ?_
              refine ks_iload_n hκ 191 0 dL_law_191 rfl ?_
              refine ks_if_eq hκ 192 252 dL_law_192 rfl (fun c192 => ?_) (fun c192 => ?_)
              · skip
                exact absurd c192 (by decide)
              · skip
                refine ks_iload hκ 195 3 dL_law_195 rfl ?_
                refine ks_bipush hκ 197 (nI 6) dL_law_197 kq_b6 ?_
                refine ks_icmp_ge hκ 199 252 dL_law_199 rfl (fun c199 => ?_) (fun c199 => ?_)
                · skip
                  have c199 := (nI_leI (by omega) (by omega)).mp c199
                  refine ks_widen (89 + 112 * vi + 48) (3187 + 4165 * vi + 1785) (by omega) (by omega) ?_
                  refine ks_pick [6, 7, 0, 8, 5, 4] [(0, _), (1, _), (2, _), (3, _), (4, _), (5, _)] rfl ?_
                  exact ks_cv (J252 _ _ _ _ hks jJ jki jn jn4) rfl rfl rfl
                · skip
                  have c199 := mt (nI_leI (by omega) (by omega)).mpr c199
                  refine ks_iload hκ 202 5 dL_law_202 rfl ?_
                  refine ks_bipush hκ 204 (nI 9) dL_law_204 kq_b9 ?_
                  refine ks_ishr hκ 206 dL_law_206 ?_
                  refine ks_iconst hκ 207 (nI 3) dL_law_207 kq_i3 ?_
                  have hb208 : q9Lo ((q9Ce g (3 + 2 * vi)) >>> (nI 9 &&& 31)) 3 < 3 := q9Lo_lt (by decide)
                  refine ks_pureS2 hκ 208 dL_law_208 kc_L_78 (l_low (v := ((q9Ce g (3 + 2 * vi)) >>> (nI 9 &&& 31))) (n := 3) (by decide) (by decide)) (by decide) (Nat.le_of_ble_eq_true rfl) (by omega) (by omega) ?_
                  refine ks_if_ne hκ 211 252 dL_law_211 rfl (fun c211 => ?_) (fun c211 => ?_)
                  · skip
                    have c211 := mt (ks_eq0 (by omega)).mpr c211
                    refine ks_widen (89 + 112 * vi + 48) (3187 + 4165 * vi + 1785) (by omega) (by omega) ?_
                    refine ks_pick [6, 7, 0, 8, 5, 4] [(0, _), (1, _), (2, _), (3, _), (4, _), (5, _)] rfl ?_
                    exact ks_cv (J252 _ _ _ _ hks jJ jki jn jn4) rfl rfl rfl
                  · skip
                    have c211 := (ks_eq0 (by omega)).mp c211
                    have hH6 : (σ :: H).take 6 = σ :: H := List.take_of_length_le (by rw [List.length_cons]; omega)
                    rw [hH6] at hks
                    refine ks_aload_n hκ 214 7 dL_law_214 rfl ?_
                    refine ks_intcV0 hκ 215 dL_law_215 kc_L_61 (w_undo hks) hX0 rfl (by decide) (Nat.le_of_ble_eq_true rfl) (by omega) (by omega) (fun r215 xh5 hp215 => ?_)
                    obtain ⟨rfl, hks⟩ := hp215
                    have hX0 := hks.ob
                    refine ks_iload hκ 218 3 dL_law_218 rfl ?_
                    refine ks_icmp_ne hκ 220 250 dL_law_220 rfl (fun c220 => ?_) (fun c220 => ?_)
                    · exfalso
                      have c220 := mt (nI_eq (by omega) (by omega)).mpr c220
                      exact c220 rfl
                    · skip
                      have c220 := (nI_eq (by omega) (by omega)).mp c220
                      refine ks_aload_n hκ 223 7 dL_law_223 rfl ?_
                      refine ks_pureL1 hκ 224 dL_law_224 kc_L_67 (l_print hks hJ) (by decide) (Nat.le_of_ble_eq_true rfl) (by omega) (by omega) ?_
                      refine ks_lload hκ 227 2 dL_law_227 rfl ?_
                      refine ks_lcmp hκ 229 dL_law_229 ?_
                      refine ks_if_ne hκ 230 250 dL_law_230 rfl (fun c230 => ?_) (fun c230 => ?_)
                      · exfalso
                        exact c230 q9Cmp
                      · skip
                        refine ks_aload_n hκ 233 7 dL_law_233 rfl ?_
                        refine ks_iload hκ 234 5 dL_law_234 rfl ?_
                        refine ks_iload hκ 236 4 dL_law_236 rfl ?_
                        refine ks_intcS3 hκ 238 dL_law_238 kc_L_101 (l_act hks hJ) (by decide) (Nat.le_of_ble_eq_true rfl) (by omega) (by omega) (fun r238 xh6 hp238 => ?_)
                        obtain ⟨rfl, hks⟩ := hp238
                        have hX0 := hks.ob
                        rw [q9Keep_ok c127b] at hks
                        refine ks_iload hκ 241 1 dL_law_241 rfl ?_
                        refine ks_icmp_ne hκ 243 250 dL_law_243 rfl (fun c243 => ?_) (fun c243 => ?_)
                        · exfalso
                          exact c243 rfl
                        · skip
                          refine ks_iconst hκ 246 (nI 1) dL_law_246 kq_i1 ?_
                          refine ks_goto hκ 247 251 dL_law_247 rfl ?_
                          refine ks_istore_n hκ 251 2 [(2, _), (9, _), (7, _), (6, _), (5, _), (4, _), (0, _), (1, _), (3, _)] dL_law_251 rfl (by decide) rfl ?_
                          refine ks_widen (89 + 112 * vi + 48) (3187 + 4165 * vi + 1785) (by omega) (by omega) ?_
                          refine ks_pick [6, 7, 0, 8, 5, 4] [(0, _), (1, _), (2, _), (3, _), (4, _), (5, _)] rfl ?_
                          exact ks_cv (J252 _ _ _ _ hks jJ jki jn jn4) rfl rfl rfl
          · skip
            refine ks_icmp_ge hκ 170 180 dL_law_170 rfl (fun c170 => ?_) (fun c170 => ?_)
            · skip
              have c170 := (nI_leI (by omega) (by omega)).mp c170
              refine ks_bipush hκ 180 (nI 6) dL_law_180 kq_b6 ?_
              exact ks_top _ (by rw [hlen, show min 6 (H.length + 1) = 6 by omega]) J170
            · skip
              have c170 := mt (nI_leI (by omega) (by omega)).mpr c170
              refine ks_iload hκ 173 2 dL_law_173 rfl ?_
              refine ks_iconst hκ 175 (nI 1) dL_law_175 kq_i1 ?_
              refine ks_iaddN hκ 176 dL_law_176 ?_
              refine ks_goto hκ 177 182 dL_law_177 rfl ?_
              exact ks_top _ (by rw [hlen, show min 6 (H.length + 1) = H.length + 1 by omega]) J170
        · skip
          have c127b : (q9Ac σ (q9Ce g (3 + 2 * vi)) (q9Ce g (4 + 2 * vi))).1 < 0 := Int32.not_le.mp c127
          rw [ae c127b, q9Keep_er c127b] at hks
          have jJ := hJ
          have jki := hki3
          have jn := hn0e
          have jn4 : n0 ≤ 4 * vi + 4 := by omega
          refine ks_aload_n hκ 130 6 dL_law_130 rfl ?_
          refine ks_bipush hκ 131 (nI 16) dL_law_131 kq_b16 ?_
          refine ks_pureV1 hκ 133 dL_law_133 kc_L_10 (w_count hks (by decide) (nI H.length) rfl) hX0 rfl (by decide) (Nat.le_of_ble_eq_true rfl) (by omega) (by omega) ?_
          refine ks_iload hκ 136 2 dL_law_136 rfl ?_
          refine ks_icmp_ne hκ 138 155 dL_law_138 rfl (fun c138 => ?_) (fun c138 => ?_)
          · exfalso
            have c138 := mt (nI_eq (by omega) (by omega)).mpr c138
            exact c138 rfl
          · skip
            have c138 := (nI_eq (by omega) (by omega)).mp c138
            refine ks_aload_n hκ 141 6 dL_law_141 rfl ?_
            refine ks_pureL1 hκ 142 dL_law_142 kc_L_67 (l_print hks hJ) (by decide) (Nat.le_of_ble_eq_true rfl) (by omega) (by omega) ?_
            refine ks_lload hκ 145 1 dL_law_145 rfl ?_
            refine ks_lcmp hκ 147 dL_law_147 ?_
            refine ks_if_ne hκ 148 155 dL_law_148 rfl (fun c148 => ?_) (fun c148 => ?_)
            · exfalso
              exact c148 q9Cmp
            · skip
              refine ks_iconst hκ 151 (nI 1) dL_law_151 kq_i1 ?_
              refine ks_goto hκ 152 156 dL_law_152 rfl ?_
              refine ks_istore_n hκ 156 2 [(2, _), (9, _), (7, _), (6, _), (5, _), (4, _), (0, _), (1, _), (3, _)] dL_law_156 rfl (by decide) rfl ?_
              refine ks_goto hκ 157 252 dL_law_157 rfl ?_
              refine ks_widen (89 + 112 * vi + 48) (3187 + 4165 * vi + 1785) (by omega) (by omega) ?_
              refine ks_pick [6, 7, 0, 8, 5, 4] [(0, _), (1, _), (2, _), (3, _), (4, _), (5, _)] rfl ?_
              exact ks_cv (J252 _ _ _ _ hks jJ jki jn jn4) rfl rfl rfl
