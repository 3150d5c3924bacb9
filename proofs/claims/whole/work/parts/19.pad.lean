
/-! PAD: a list of signs -/
def kShr (x : Int64) (n : Int32) : Int64 := (x.toUInt64 >>> (n.toInt64.toUInt64 &&& Int64.toUInt64 63)).toInt64
def kSig : Nat → Int64 → Nat → Nat
  | 0, _, a => a
  | f + 1, x, a => if x = 0 then a else if x &&& 255 < 33 then 0 else if 126 < x &&& 255 then 0 else kSig f (kShr x (nI 8)) (a + 1)
theorem kSig_le : ∀ (f : Nat) (x : Int64) (a : Nat), kSig f x a ≤ a + f
  | 0, x, a => Nat.le_refl _
  | f + 1, x, a => by
    rw [kSig]
    split
    · omega
    · split
      · omega
      · split
        · omega
        · have := kSig_le f (kShr x (nI 8)) (a + 1)
          omega
def kByte (x : Int64) (i : Nat) : Int32 := (kShr x (nI (8 * i)) &&& 255).toInt32
def kBytes (x : Int64) : Nat → List Int32 → List Int32
  | 0, l => l
  | j + 1, l => kBytes x j (l ++ [kByte x j])
theorem kBytes_len (x : Int64) : ∀ (j : Nat) (l : List Int32), (kBytes x j l).length = l.length + j
  | 0, l => rfl
  | j + 1, l => by rw [kBytes, kBytes_len x j]; simp; omega
def kTO (T : Nat → Int32) (l : List Int32) : Prop := ∀ (i : Nat) (v : Int32), l[i]? = some v → T i = v
theorem kTO.snoc {T : Nat → Int32} {l : List Int32} {v : Int32} (h : kTO T l) : kTO (upd T l.length v) (l ++ [v]) := by
  intro i w hi
  by_cases hl : i < l.length
  · rw [List.getElem?_append_left hl] at hi
    rw [pk_un (by omega)]
    exact h i w hi
  · have hz := (List.getElem?_eq_some_iff.mp hi).1
    rw [List.length_append] at hz
    have : i = l.length := by simp at hz; omega
    subst this
    simp at hi
    rw [pk_us]; exact hi
def kPad (g : ks_G) (h : ks_H) (d : Nat) (l : List Int32) : Prop := ∃ T : Nat → Int32, h[d]? = some (ks_O 2 [ks_ref g (d + 1), .int (nI l.length)]) ∧ h[d + 1]? = some (ks_I g 80 T) ∧ kTO T l ∧ l.length ≤ 80
theorem kPad.fr {g : ks_G} {h h' : ks_H} {d : Nat} {l : List Int32} (x : kPad g h d l) {lo hi : Nat} (f : ks_Fr h h' lo hi) (z : d + 2 ≤ lo ∨ hi ≤ d) : kPad g h' d l := by
  obtain ⟨T, hD, hT, r⟩ := x
  exact ⟨T, f.at hD (by omega), f.at hT (by omega), r⟩
theorem kPad.ex {g : ks_G} {h h' : ks_H} {d : Nat} {l : List Int32} (x : kPad g h d l) {lo : Nat} (f : ks_Ex h h' lo) (z : d + 2 ≤ lo) : kPad g h' d l := by
  obtain ⟨T, hD, hT, r⟩ := x
  exact ⟨T, (f _ (by omega)).trans hD, (f _ (by omega)).trans hT, r⟩
def kApp (l : List Int32) (x : Int64) : Int32 × List Int32 :=
  if kSig 8 x 0 = 0 then (-2, l) else if 80 < l.length + kSig 8 x 0 then (-4, l) else (nI (l.length + kSig 8 x 0), kBytes x (kSig 8 x 0) l)
set_option maxRecDepth 100000 in
set_option maxHeartbeats 4000000 in
theorem c_Pad_signsIn {g : ks_G} {h : ks_H} {x : Int64} : ks_Met g (yX2_signsIn, cX2_signsIn, 7, some .int) 0 0 0 [.long x] h (ks_Pi (nI (kSig 8 x 0)) h) := by
  refine ks_intro (by decide) (Nat.le_of_ble_eq_true rfl) (fun κ hκ hRt => ?_)
  refine ks_cv (ls := [(0, .long x)]) ?_ rfl rfl rfl
  refine ks_lload_n hκ 0 0 dX2_signsIn_0 rfl ?_
  refine ks_lstore_n hκ 1 2 [(2, _), (0, _)] dX2_signsIn_1 rfl (by decide) rfl ?_
  refine ks_iconst hκ 2 (nI 0) dX2_signsIn_2 kq_i0 ?_
  refine ks_istore hκ 3 4 [(4, _), (2, _), (0, _)] dX2_signsIn_3 (by decide) rfl ?_
  have L5 : ∀ (fuel : Nat) (vf va : Nat) (xr : Int64) (hva : vf + va = 8) (hinv : kSig vf xr va = kSig 8 x 0) (hfuel : vf < fuel), ks_K κ g 7 h 0 0 5 [(0, .long x), (2, .long xr), (4, .int (nI va))] [] := by
    intro fuel
    induction fuel with
    | zero => intro vf va xr  hva hinv hfuel; exact absurd hfuel (Nat.not_lt_zero _)
    | succ fuel ih =>
      intro vf va xr  hva hinv hfuel
      refine ks_iload hκ 5 2 dX2_signsIn_5 rfl ?_
      refine ks_bipush hκ 7 (nI 8) dX2_signsIn_7 kq_b8 ?_
      refine ks_icmp_ge hκ 9 56 dX2_signsIn_9 rfl (fun c9 => ?_) (fun c9 => ?_)
      · skip
        have c9 := (nI_leI (by omega) (by omega)).mp c9
        have hvf : vf = 0 := by omega
        subst hvf
        rw [kSig] at hinv
        refine ks_iload hκ 56 2 dX2_signsIn_56 rfl ?_
        refine ks_iret hκ 58 hRt dX2_signsIn_58 (by decide) (by decide) rfl ?_
        exact ⟨by rw [← hinv], rfl⟩
      · skip
        have c9 := mt (nI_leI (by omega) (by omega)).mpr c9
        obtain ⟨vf1, rfl⟩ : ∃ vf1, vf = vf1 + 1 := ⟨vf - 1, by omega⟩
        refine ks_lload_n hκ 12 1 dX2_signsIn_12 rfl ?_
        refine ks_lconst hκ 13 0 dX2_signsIn_13 rfl ?_
        refine ks_lcmp hκ 14 dX2_signsIn_14 ?_
        refine ks_if_eq hκ 15 56 dX2_signsIn_15 rfl (fun c15 => ?_) (fun c15 => ?_)
        · skip
          have c15 := (lg_cmp_eq _ _).mp c15
          rw [kSig, if_pos c15] at hinv
          refine ks_iload hκ 56 2 dX2_signsIn_56 rfl ?_
          refine ks_iret hκ 58 hRt dX2_signsIn_58 (by decide) (by decide) rfl ?_
          exact ⟨by rw [← hinv], rfl⟩
        · skip
          have c15 := mt (lg_cmp_eq _ _).mpr c15
          refine ks_lload_n hκ 18 1 dX2_signsIn_18 rfl ?_
          refine ks_ldc2 hκ 19 _ dX2_signsIn_19 kl_X2_23 ?_
          refine ks_land hκ 22 dX2_signsIn_22 ?_
          refine ks_lstore hκ 23 5 [(5, _), (0, _), (2, _), (4, _)] dX2_signsIn_23 (by decide) rfl ?_
          refine ks_lload hκ 25 0 dX2_signsIn_25 rfl ?_
          refine ks_ldc2 hκ 27 _ dX2_signsIn_27 kl_X2_25 ?_
          refine ks_lcmp hκ 30 dX2_signsIn_30 ?_
          refine ks_if_lt hκ 31 43 dX2_signsIn_31 rfl (fun c31 => ?_) (fun c31 => ?_)
          · skip
            have c31 := (lg_cmp_lt _ _).mp c31
            rw [kSig, if_neg c15, if_pos c31] at hinv
            refine ks_iconst hκ 43 (nI 0) dX2_signsIn_43 kq_i0 ?_
            refine ks_iret hκ 44 hRt dX2_signsIn_44 (by decide) (by decide) rfl ?_
            exact ⟨by rw [← hinv], rfl⟩
          · skip
            have c31 := mt (lg_cmp_lt _ _).mpr c31
            refine ks_lload hκ 34 0 dX2_signsIn_34 rfl ?_
            refine ks_ldc2 hκ 36 _ dX2_signsIn_36 kl_X2_27 ?_
            refine ks_lcmp hκ 39 dX2_signsIn_39 ?_
            refine ks_if_le hκ 40 45 dX2_signsIn_40 rfl (fun c40 => ?_) (fun c40 => ?_)
            · skip
              have c40 := Int64.not_lt.mpr ((lg_cmp_le _ _).mp c40)
              refine ks_lload_n hκ 45 2 dX2_signsIn_45 rfl ?_
              refine ks_bipush hκ 46 (nI 8) dX2_signsIn_46 kq_b8 ?_
              refine ks_lushr hκ 48 dX2_signsIn_48 ?_
              refine ks_lstore_n hκ 49 2 [(2, _), (5, _), (0, _), (4, _)] dX2_signsIn_49 rfl (by decide) rfl ?_
              refine ks_iinc hκ 50 4 3 (nI (va + 1)) [(4, _), (2, _), (5, _), (0, _)] dX2_signsIn_50 rfl (ks_inc1 _) (by decide) rfl ?_
              refine ks_goto hκ 53 5 dX2_signsIn_53 rfl ?_
              refine ks_pick [3, 1, 0] [(0, _), (2, _), (4, _)] rfl ?_
              exact ks_cv (ih vf1 _ _  (by omega) (by rw [kSig, if_neg c15, if_neg c31, if_neg c40] at hinv; exact hinv) (by omega)) rfl rfl rfl
            · skip
              have c40 := Int64.not_le.mp (mt (lg_cmp_le _ _).mpr c40)
              rw [kSig, if_neg c15, if_neg c31, if_pos c40] at hinv
              refine ks_iconst hκ 43 (nI 0) dX2_signsIn_43 kq_i0 ?_
              refine ks_iret hκ 44 hRt dX2_signsIn_44 (by decide) (by decide) rfl ?_
              exact ⟨by rw [← hinv], rfl⟩
  refine ks_pick [2, 1, 0] [(0, _), (2, _), (4, _)] rfl ?_
  exact ks_cv (L5 _ 8 0 _  rfl rfl (Nat.lt_succ_self _)) rfl rfl rfl
set_option maxRecDepth 100000 in
set_option maxHeartbeats 4000000 in
theorem c_Pad_append {g : ks_G} {h : ks_H} {d : Nat} {l : List Int32} {x : Int64} (hpad : kPad g h d l) : ks_Met g (yX2_append, cX2_append, 5, some .int) 1 0 0 [ks_ref g d, .long x] h (ks_Ph (fun r h' => r = (kApp l x).1 ∧ kPad g h' d (kApp l x).2 ∧ ks_Fr h h' d (d + 2))) := by
  have hpad0 := hpad
  obtain ⟨T, hD, hT, hTO, hn⟩ := hpad
  have hsl := kSig_le 8 x 0
  refine ks_intro (by decide) (Nat.le_of_ble_eq_true rfl) (fun κ hκ hRt => ?_)
  refine ks_cv (ls := [(0, ks_ref g d), (1, .long x)]) ?_ rfl rfl rfl
  have hF : ks_Fr h h d (d + 2) := ks_Fr.rf
  refine ks_lload_n hκ 0 1 dX2_append_0 rfl ?_
  refine ks_pureS1 hκ 1 dX2_append_1 kc_X2_19 (c_Pad_signsIn) (by decide) (Nat.le_of_ble_eq_true rfl) (by decide) (by decide) ?_
  refine ks_istore_n hκ 4 3 [(3, _), (0, _), (1, _)] dX2_append_4 rfl (by decide) rfl ?_
  refine ks_iload_n hκ 5 0 dX2_append_5 rfl ?_
  refine ks_if_ne hκ 6 12 dX2_append_6 rfl (fun c6 => ?_) (fun c6 => ?_)
  · skip
    have c6 := mt (ks_eq0 (by omega)).mpr c6
    refine ks_aload_n hκ 12 1 dX2_append_12 rfl ?_
    refine ks_get hκ 13 dX2_append_13 kf_X2_15 hD rfl ?_
    refine ks_iload_n hκ 16 0 dX2_append_16 rfl ?_
    refine ks_iaddN hκ 17 dX2_append_17 ?_
    refine ks_bipush hκ 18 (nI 80) dX2_append_18 kq_b80 ?_
    refine ks_icmp_le hκ 20 26 dX2_append_20 rfl (fun c20 => ?_) (fun c20 => ?_)
    · skip
      have c20 := (nI_leI (by omega) (by omega)).mp c20
      refine ks_iload_n hκ 26 0 dX2_append_26 rfl ?_
      refine ks_iconst hκ 27 (nI 1) dX2_append_27 kq_i1 ?_
      refine ks_isub hκ 28 dX2_append_28 ?_
      refine ks_istore hκ 29 4 [(4, _), (3, _), (0, _), (1, _)] dX2_append_29 (by decide) rfl ?_
      have L31 : ∀ (fuel : Nat) (vj : Nat) (l1 : List Int32) (hh : ks_H) (hpad : kPad g hh d l1) (hF : ks_Fr h hh d (d + 2)) (hlen : l1.length + vj = l.length + kSig 8 x 0) (hinv : kBytes x vj l1 = kBytes x (kSig 8 x 0) l) (hfuel : vj < fuel), ks_K κ g 5 hh 0 0 31 [(0, ks_ref g d), (1, .long x), (3, .int (nI (kSig 8 x 0))), (4, .int (nI vj - nI 1))] [] := by
        intro fuel
        induction fuel with
        | zero => intro vj l1 hh hpad hF hlen hinv hfuel; exact absurd hfuel (Nat.not_lt_zero _)
        | succ fuel ih =>
          intro vj l1 hh hpad hF hlen hinv hfuel
          obtain ⟨T, hD, hT, hTO, hn⟩ := hpad
          refine ks_iload hκ 31 3 dX2_append_31 rfl ?_
          refine ks_if_lt hκ 33 73 dX2_append_33 rfl (fun c33 => ?_) (fun c33 => ?_)
          · skip
            have hj0 : vj = 0 := by
              rcases Nat.eq_zero_or_pos vj with q | q
              · exact q
              · exact absurd c33 (ks_neg1 q (by omega))
            refine ks_aload_n hκ 73 0 dX2_append_73 rfl ?_
            refine ks_get hκ 74 dX2_append_74 kf_X2_15 hD rfl ?_
            refine ks_iret hκ 77 hRt dX2_append_77 (by decide) (by decide) rfl ?_
            have hq : kApp l x = (nI (l.length + kSig 8 x 0), kBytes x (kSig 8 x 0) l) := (if_neg c6).trans (if_neg (by omega))
            rw [hq]
            subst hj0
            have hl1 : l1 = kBytes x (kSig 8 x 0) l := hinv
            refine ⟨_, rfl, ?_, ?_, hF⟩
            · show nI l1.length = _; rw [show l1.length = l.length + kSig 8 x 0 by omega]
            · show kPad _ _ _ (kBytes x (kSig 8 x 0) l)
              rw [← hl1]
              exact ⟨T, hD, hT, hTO, hn⟩
          · skip
            obtain ⟨vi, rfl⟩ : ∃ vi, vj = vi + 1 := by
              rcases vj with _ | vi
              · exact absurd ks_neg0 c33
              · exact ⟨vi, rfl⟩
            refine ks_aload_n hκ 36 0 dX2_append_36 rfl ?_
            refine ks_get hκ 37 dX2_append_37 kf_X2_9 hD rfl ?_
            refine ks_aload_n hκ 40 0 dX2_append_40 rfl ?_
            refine ks_get hκ 41 dX2_append_41 kf_X2_15 hD rfl ?_
            refine ks_lload_n hκ 44 1 dX2_append_44 rfl ?_
            refine ks_bipush hκ 45 (nI 8) dX2_append_45 kq_b8 ?_
            refine ks_iload hκ 47 3 dX2_append_47 rfl ?_
            refine ks_top (nI vi) (by rw [pk_sub (by omega), Nat.add_sub_cancel]) ?_
            refine ks_imulN hκ 49 dX2_append_49 ?_
            refine ks_lushr hκ 50 dX2_append_50 ?_
            refine ks_ldc2 hκ 51 _ dX2_append_51 kl_X2_23 ?_
            refine ks_land hκ 54 dX2_append_54 ?_
            refine ks_l2i hκ 55 dX2_append_55 ?_
            refine ks_iast hκ 56 (l1.length) dX2_append_56 hT rfl (by omega) (by decide) ?_
            refine ks_gen (fun xh1 exh1 => ?_)
            replace hD := ks_gn exh1 (ks_nb (b := d) (i := 1) (j := 0) rfl) hD
            replace hT := ks_gs exh1 hT
            replace hF := ks_Fr.st hF exh1 (by omega) (by omega)
            clear exh1
            refine ks_aload_n hκ 57 0 dX2_append_57 rfl ?_
            refine ks_dup hκ 58 dX2_append_58 rfl ?_
            refine ks_get hκ 59 dX2_append_59 kf_X2_15 hD rfl ?_
            refine ks_iconst hκ 62 (nI 1) dX2_append_62 kq_i1 ?_
            refine ks_iaddN hκ 63 dX2_append_63 ?_
            refine ks_putS hκ 64 [_, _] dX2_append_64 kf_X2_15 hD rfl rfl (Nat.le_of_ble_eq_true rfl) rfl ?_
            refine ks_gen (fun xh2 exh2 => ?_)
            replace hD := ks_gs exh2 hD
            replace hT := ks_gn exh2 (ks_nb (b := d) (i := 0) (j := 1) rfl) hT
            replace hF := ks_Fr.st hF exh2 (by omega) (by omega)
            clear exh2
            refine ks_iinc hκ 67 4 3 _ [(4, _), (0, _), (1, _), (3, _)] dX2_append_67 rfl rfl (by decide) rfl ?_
            refine ks_goto hκ 70 31 dX2_append_70 rfl ?_
            refine ks_pick [1, 2, 3, 0] [(0, _), (1, _), (3, _), (4, _)] rfl ?_
            exact ks_cv (ih vi _ xh2 ⟨_, by rw [List.length_append]; exact hD, hT, hTO.snoc, by rw [List.length_append]; simp; omega⟩ hF (by rw [List.length_append]; simp; omega) (by rw [← hinv, kBytes, kByte]; rfl) (by omega)) rfl (by rw [ks_dec1I, pk_sub (show 1 ≤ vi + 1 by omega), Nat.add_sub_cancel]) rfl
      refine ks_pick [2, 3, 1, 0] [(0, _), (1, _), (3, _), (4, _)] rfl ?_
      exact ks_cv (L31 _ (kSig 8 x 0) _ h hpad0 hF (by omega) rfl (Nat.lt_succ_self _)) rfl rfl rfl
    · skip
      have c20 := mt (nI_leI (by omega) (by omega)).mpr c20
      refine ks_bipush hκ 23 (-4) dX2_append_23 kq_bm4 ?_
      refine ks_iret hκ 25 hRt dX2_append_25 (by decide) (by decide) rfl ?_
      have hq : kApp l x = (-4, l) := (if_neg c6).trans (if_pos (by omega))
      rw [hq]
      exact ⟨_, rfl, rfl, hpad0, hF⟩
  · skip
    have c6 := (ks_eq0 (by omega)).mp c6
    refine ks_bipush hκ 9 (-2) dX2_append_9 kq_bm2 ?_
    refine ks_iret hκ 11 hRt dX2_append_11 (by decide) (by decide) rfl ?_
    have hq : kApp l x = (-2, l) := if_pos c6
    rw [hq]
    exact ⟨_, rfl, rfl, hpad0, hF⟩
set_option maxRecDepth 100000 in
set_option maxHeartbeats 4000000 in
theorem c_Pad_empty {g : ks_G} {h : ks_H} {d : Nat} {l : List Int32} (hpad : kPad g h d l) : ks_Met g (yX2_empty, cX2_empty, 2, some .int) 0 0 0 [ks_ref g d] h (ks_Ph (fun r h' => r = nI l.length ∧ kPad g h' d [] ∧ ks_Fr h h' d (d + 2))) := by
  have hpad0 := hpad
  obtain ⟨T, hD, hT, hTO, hn⟩ := hpad
  refine ks_intro (by decide) (Nat.le_of_ble_eq_true rfl) (fun κ hκ hRt => ?_)
  refine ks_cv (ls := [(0, ks_ref g d)]) ?_ rfl rfl rfl
  have hF : ks_Fr h h d (d + 2) := ks_Fr.rf
  refine ks_aload_n hκ 0 0 dX2_empty_0 rfl ?_
  refine ks_get hκ 1 dX2_empty_1 kf_X2_15 hD rfl ?_
  refine ks_istore_n hκ 4 1 [(1, _), (0, _)] dX2_empty_4 rfl (by decide) rfl ?_
  refine ks_aload_n hκ 5 1 dX2_empty_5 rfl ?_
  refine ks_iconst hκ 6 (nI 0) dX2_empty_6 kq_i0 ?_
  refine ks_putS hκ 7 [_, _] dX2_empty_7 kf_X2_15 hD rfl rfl (Nat.le_of_ble_eq_true rfl) rfl ?_
  refine ks_gen (fun xh1 exh1 => ?_)
  replace hD := ks_gs exh1 hD
  replace hT := ks_gn exh1 (ks_nb (b := d) (i := 0) (j := 1) rfl) hT
  replace hF := ks_Fr.st hF exh1 (by omega) (by omega)
  clear exh1
  refine ks_iload_n hκ 10 0 dX2_empty_10 rfl ?_
  refine ks_iret hκ 11 hRt dX2_empty_11 (by decide) (by decide) rfl ?_
  exact ⟨_, rfl, rfl, ⟨T, hD, hT, fun i v hi => by simp at hi, Nat.zero_le _⟩, hF⟩
set_option maxRecDepth 100000 in
set_option maxHeartbeats 4000000 in
theorem c_Pad_signAt {g : ks_G} {h : ks_H} {d vn : Nat} {l : List Int32} (hpad : kPad g h d l) (hvn : vn < 2 ^ 31) : ks_Met g (yX2_signAt, cX2_signAt, 2, some .int) 0 0 0 [ks_ref g d, .int (nI vn)] h (ks_Pi (l.getD vn (nI 0)) h) := by
  have hpad0 := hpad
  obtain ⟨T, hD, hT, hTO, hn⟩ := hpad
  refine ks_intro (by decide) (Nat.le_of_ble_eq_true rfl) (fun κ hκ hRt => ?_)
  refine ks_cv (ls := [(0, ks_ref g d), (1, .int (nI vn))]) ?_ rfl rfl rfl
  refine ks_iload_n hκ 0 1 dX2_signAt_0 rfl ?_
  refine ks_if_lt hκ 1 21 dX2_signAt_1 rfl (fun c1 => ?_) (fun c1 => ?_)
  · skip
    exact absurd c1 (ks_lt0 (by omega))
  · skip
    refine ks_iload_n hκ 4 1 dX2_signAt_4 rfl ?_
    refine ks_aload_n hκ 5 0 dX2_signAt_5 rfl ?_
    refine ks_get hκ 6 dX2_signAt_6 kf_X2_15 hD rfl ?_
    refine ks_icmp_ge hκ 9 21 dX2_signAt_9 rfl (fun c9 => ?_) (fun c9 => ?_)
    · skip
      have c9 := (nI_leI (by omega) (by omega)).mp c9
      refine ks_iconst hκ 21 (nI 0) dX2_signAt_21 kq_i0 ?_
      refine ks_iret hκ 22 hRt dX2_signAt_22 (by decide) (by decide) rfl ?_
      refine ⟨?_, rfl⟩
      rw [List.getD_eq_getElem?_getD]
      rcases Nat.lt_or_ge vn l.length with q | q
      · obtain ⟨w, hw⟩ := kget (L := l) q
        first | (rw [hTO vn w hw, hw]; rfl) | (exact absurd q (by omega))
      · first | (rw [List.getElem?_eq_none q]; rfl) | (exact absurd q (by omega))
    · skip
      have c9 := mt (nI_leI (by omega) (by omega)).mpr c9
      refine ks_aload_n hκ 12 0 dX2_signAt_12 rfl ?_
      refine ks_get hκ 13 dX2_signAt_13 kf_X2_9 hD rfl ?_
      refine ks_iload_n hκ 16 1 dX2_signAt_16 rfl ?_
      refine ks_iald hκ 17 (vn) dX2_signAt_17 hT rfl (by omega) (by decide) ?_
      refine ks_goto hκ 18 22 dX2_signAt_18 rfl ?_
      refine ks_iret hκ 22 hRt dX2_signAt_22 (by decide) (by decide) rfl ?_
      refine ⟨?_, rfl⟩
      rw [List.getD_eq_getElem?_getD]
      rcases Nat.lt_or_ge vn l.length with q | q
      · obtain ⟨w, hw⟩ := kget (L := l) q
        first | (rw [hTO vn w hw, hw]; rfl) | (exact absurd q (by omega))
      · first | (rw [List.getElem?_eq_none q]; rfl) | (exact absurd q (by omega))
set_option maxRecDepth 100000 in
set_option maxHeartbeats 4000000 in
theorem c_Pad_init {g : ks_G} {h : ks_H} {d : Nat} (hD : h[d]? = some (ks_O 2 [.null, .int 0])) (hlen : h.length = d + 1) : ks_Met g (yX2_init, cX2_init, 1, none) 1 1 80 [ks_ref g d] h (ks_Pv (fun h' => kPad g h' d [] ∧ ks_Ex h h' d ∧ h'.length = d + 2)) := by
  refine ks_intro (by decide) (Nat.le_of_ble_eq_true rfl) (fun κ hκ hRt => ?_)
  refine ks_cv (ls := [(0, ks_ref g d)]) ?_ rfl rfl rfl
  have hX : ks_Ex h h d := ks_Ex.rf
  refine ks_aload_n hκ 0 0 dX2_init_0 rfl ?_
  refine ks_objInit hκ 1 dX2_init_1 kj_X2_3 ku_oi ku_oc (by decide) (Nat.le_of_ble_eq_true rfl) ?_
  refine ks_aload_n hκ 4 0 dX2_init_4 rfl ?_
  refine ks_bipush hκ 5 (nI 80) dX2_init_5 kq_b80 ?_
  refine ks_newiB hκ 7 hlen dX2_init_7 (by decide) (by decide) (by decide) (fun xh1 exh1 => ?_)
  replace hD := ks_gb exh1 hD
  have hT := ks_ga exh1 hlen
  replace hX := ks_Ex.ps hX exh1 (by omega)
  replace hlen := ks_gl exh1 hlen
  clear exh1
  refine ks_putT hκ 9 [_, _] dX2_init_9 rfl kf_X2_9 hD rfl rfl (Nat.le_of_ble_eq_true rfl) rfl ?_
  refine ks_gen (fun xh2 exh2 => ?_)
  replace hD := ks_gs exh2 hD
  replace hT := ks_gn exh2 (ks_nb (b := d) (i := 0) (j := 1) rfl) hT
  replace hX := ks_Ex.st hX exh2 (by omega)
  replace hlen := ks_gz exh2 hlen
  clear exh2
  refine ks_aload_n hκ 12 0 dX2_init_12 rfl ?_
  refine ks_iconst hκ 13 (nI 0) dX2_init_13 kq_i0 ?_
  refine ks_putS hκ 14 [_, _] dX2_init_14 kf_X2_15 hD rfl rfl (Nat.le_of_ble_eq_true rfl) rfl ?_
  refine ks_gen (fun xh3 exh3 => ?_)
  replace hD := ks_gs exh3 hD
  replace hT := ks_gn exh3 (ks_nb (b := d) (i := 0) (j := 1) rfl) hT
  replace hX := ks_Ex.st hX exh3 (by omega)
  replace hlen := ks_gz exh3 hlen
  clear exh3
  refine ks_vret hκ 17 hRt dX2_init_17 (by decide) (by decide) ?_
  exact ⟨rfl, ⟨_, hD, hT, fun i v hi => by simp at hi, Nat.zero_le _⟩, hX, hlen⟩
