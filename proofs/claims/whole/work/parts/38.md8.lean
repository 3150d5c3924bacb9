
/-! THE MODEL: the history -/
/-- the history's rows: the newest the highest -/
def kHs (f : Nat → Int32) (H : List kS) : Prop := ∀ (i : Nat) (x : kS), H[i]? = some x → kMd f (340 * (H.length - i)) x
theorem kHs_b {f f2 : Nat → Int32} {H : List kS} {σ : kS} (hH : kHs f H) (hσ : kMd f 0 σ) (hl : H.length < 6) (hcp : ∀ n, n < 340 → f2 (340 * (H.length + 1) + n) = f (340 * 0 + n)) (hun : ∀ q, (q < 340 * (H.length + 1) ∨ 340 * (H.length + 1) + 340 ≤ q) → f2 q = f q) : kHs f2 ((σ :: H).take 6) := by
  rw [List.take_of_length_le (by rw [List.length_cons]; omega)]
  intro i x hi
  rw [List.length_cons]
  cases i with
  | zero =>
    cases Option.some.inj hi
    exact hσ.move hcp
  | succ i =>
    rw [List.getElem?_cons_succ] at hi
    have hil := (List.getElem?_eq_some_iff.mp hi).1
    rw [show H.length + 1 - (i + 1) = H.length - i by omega]
    exact (hH i x hi).move (fun n hn => hun _ (by omega))
theorem kHs_a {f f1 f2 : Nat → Int32} {H : List kS} {σ : kS} (hH : kHs f H) (hσ : kMd f 0 σ) (hl : H.length = 6) (hsh : ∀ j, 1 ≤ j → j < 6 → ∀ n, n < 340 → f1 (340 * j + n) = f (340 * (j + 1) + n)) (hu1 : ∀ q, (q < 340 ∨ 340 * 6 ≤ q) → f1 q = f q) (hcp : ∀ n, n < 340 → f2 (340 * 6 + n) = f1 (340 * 0 + n)) (hun : ∀ q, (q < 340 * 6 ∨ 340 * 6 + 340 ≤ q) → f2 q = f1 q) : kHs f2 ((σ :: H).take 6) := by
  intro i x hi
  rw [List.length_take, List.length_cons, hl]
  rw [List.getElem?_take] at hi
  by_cases h6 : i < 6
  · rw [if_pos h6] at hi
    cases i with
    | zero =>
      cases Option.some.inj hi
      exact hσ.move (fun n hn => (hcp n hn).trans (hu1 _ (by omega)))
    | succ i =>
      rw [List.getElem?_cons_succ] at hi
      have := hH i x hi
      rw [hl] at this
      refine this.move (fun n hn => ?_)
      rw [show min 6 (6 + 1) - (i + 1) = 5 - i by omega, hun _ (by omega), hsh (5 - i) (by omega) (by omega) n hn, show 5 - i + 1 = 6 - i by omega]
  · rw [if_neg h6] at hi; cases hi
set_option maxRecDepth 100000 in
set_option maxHeartbeats 4000000 in
theorem c_Model_changes {g : ks_G} {h : ks_H} {m : Nat} {w2 w3 w4 w5 w6 w7 w8 w9 : Value} {f : Nat → Int32} {H : List kS} {σ : kS} (hM : h[m]? = some (ks_O 7 [ks_ref g (m + 1), .int (nI H.length), w2, w3, w4, w5, w6, w7, w8, w9])) (hS : h[m + 1]? = some (ks_I g 3400 f)) (hH : kHs f H) (hσ : kMd f 0 σ) (hl : H.length ≤ 6) : ks_Met g (yX7_changes, cX7_changes, 2, none) 1 0 0 [ks_ref g m] h (ks_Pv (fun h' => ∃ f2, h'[m]? = some (ks_O 7 [ks_ref g (m + 1), .int (nI ((σ :: H).take 6).length), w2, w3, w4, w5, w6, w7, w8, w9]) ∧ h'[m + 1]? = some (ks_I g 3400 f2) ∧ ks_Fr h h' m (m + 2) ∧ kHs f2 ((σ :: H).take 6) ∧ ∀ q, (q < 340 ∨ 340 * 7 ≤ q) → f2 q = f q)) := by
  refine ks_intro (by decide) (Nat.le_of_ble_eq_true rfl) (fun κ hκ hRt => ?_)
  refine ks_cv (ls := [(0, ks_ref g m)]) ?_ rfl rfl rfl
  have hF : ks_Fr h h m (m + 2) := ks_Fr.rf
  refine ks_aload_n hκ 0 0 dX7_changes_0 rfl ?_
  refine ks_get hκ 1 dX7_changes_1 kf_X7_20 hM rfl ?_
  refine ks_bipush hκ 4 (nI 6) dX7_changes_4 kq_b6 ?_
  refine ks_icmp_ne hκ 6 41 dX7_changes_6 rfl (fun c6 => ?_) (fun c6 => ?_)
  · skip
    have c6 := mt (nI_eq (by omega) (by omega)).mpr c6
    refine ks_aload_n hκ 41 0 dX7_changes_41 rfl ?_
    refine ks_dup hκ 42 dX7_changes_42 rfl ?_
    refine ks_get hκ 43 dX7_changes_43 kf_X7_20 hM rfl ?_
    refine ks_iconst hκ 46 (nI 1) dX7_changes_46 kq_i1 ?_
    refine ks_iaddN hκ 47 dX7_changes_47 ?_
    refine ks_putS hκ 48 [_, _, _, _, _, _, _, _, _, _] dX7_changes_48 kf_X7_20 hM rfl rfl (Nat.le_of_ble_eq_true rfl) rfl ?_
    refine ks_gen (fun xh1 exh1 => ?_)
    replace hM := ks_gs exh1 hM
    replace hS := ks_gn exh1 (ks_nb (b := m) (i := 0) (j := 1) rfl) hS
    replace hF := ks_Fr.st hF exh1 (by omega) (by omega)
    clear exh1
    refine ks_aload_n hκ 51 0 dX7_changes_51 rfl ?_
    refine ks_iconst hκ 52 (nI 0) dX7_changes_52 kq_i0 ?_
    refine ks_aload_n hκ 53 0 dX7_changes_53 rfl ?_
    refine ks_get hκ 54 dX7_changes_54 kf_X7_20 hM rfl ?_
    refine ks_voidV2 hκ 57 dX7_changes_57 kc_X7_24 (c_Model_copies (vi := 0) hM hS (by decide) (by omega)) hM rfl (by decide) (Nat.le_of_ble_eq_true rfl) (by decide) (by decide) (fun xh2 hp57 => ?_)
    obtain ⟨f2, hS, hF9, hcp9, hun9⟩ := hp57
    replace hM := hF9.at hM (by omega)
    replace hF := hF.tr (hF9.wd (by omega) (by omega))
    refine ks_vret hκ 60 hRt dX7_changes_60 (by decide) (by decide) ?_
    have hlen : ((σ :: H).take 6).length = min 6 (H.length + 1) := by rw [List.length_take, List.length_cons]
    first
      | (have h6 : H.length = 6 := c6; rw [show H.length - 1 + 1 = 6 by omega] at hcp9 hun9 hM; exact ⟨rfl, f2, by rw [hlen, show min 6 (H.length + 1) = 6 by omega]; exact hM, hS, hF, kHs_a hH hσ h6 hsh hu1 hcp9 hun9, fun q hq => (hun9 q (by omega)).trans (hu1 q (by omega))⟩)
      | exact ⟨rfl, f2, by rw [hlen, show min 6 (H.length + 1) = H.length + 1 by omega]; exact hM, hS, hF, kHs_b hH hσ (by omega) hcp9 hun9, fun q hq => hun9 q (by omega)⟩
  · skip
    have c6 := (nI_eq (by omega) (by omega)).mp c6
    refine ks_iconst hκ 9 (nI 1) dX7_changes_9 kq_i1 ?_
    refine ks_istore_n hκ 10 1 [(1, _), (0, _)] dX7_changes_10 rfl (by decide) rfl ?_
    have L11 : ∀ (fuel : Nat) (vi : Nat) (f1 : Nat → Int32) (hh : ks_H) (hM : hh[m]? = some (ks_O 7 [ks_ref g (m + 1), .int (nI H.length), w2, w3, w4, w5, w6, w7, w8, w9])) (hS : hh[m + 1]? = some (ks_I g 3400 f1)) (hF : ks_Fr h hh m (m + 2)) (hv1 : 1 ≤ vi) (hv6 : vi ≤ 6) (hsh : ∀ j, 1 ≤ j → j < vi → ∀ n, n < 340 → f1 (340 * j + n) = f (340 * (j + 1) + n)) (hu1 : ∀ q, (q < 340 ∨ 340 * vi ≤ q) → f1 q = f q) (hfuel : 6 - vi < fuel), ks_K κ g 2 hh 0 0 11 [(0, ks_ref g m), (1, .int (nI vi))] [] := by
      intro fuel
      induction fuel with
      | zero => intro vi f1 hh hM hS hF hv1 hv6 hsh hu1 hfuel; exact absurd hfuel (Nat.not_lt_zero _)
      | succ fuel ih =>
        intro vi f1 hh hM hS hF hv1 hv6 hsh hu1 hfuel
        refine ks_iload_n hκ 11 1 dX7_changes_11 rfl ?_
        refine ks_bipush hκ 12 (nI 6) dX7_changes_12 kq_b6 ?_
        refine ks_icmp_ge hκ 14 31 dX7_changes_14 rfl (fun c14 => ?_) (fun c14 => ?_)
        · skip
          have c14 := (nI_leI (by omega) (by omega)).mp c14
          have hvi6 : vi = 6 := by omega
          subst hvi6
          refine ks_aload_n hκ 31 0 dX7_changes_31 rfl ?_
          refine ks_dup hκ 32 dX7_changes_32 rfl ?_
          refine ks_get hκ 33 dX7_changes_33 kf_X7_20 hM rfl ?_
          refine ks_iconst hκ 36 (nI 1) dX7_changes_36 kq_i1 ?_
          refine ks_isubN hκ 37 dX7_changes_37 (by omega) ?_
          refine ks_putS hκ 38 [_, _, _, _, _, _, _, _, _, _] dX7_changes_38 kf_X7_20 hM rfl rfl (Nat.le_of_ble_eq_true rfl) rfl ?_
          refine ks_gen (fun xh3 exh3 => ?_)
          replace hM := ks_gs exh3 hM
          replace hS := ks_gn exh3 (ks_nb (b := m) (i := 0) (j := 1) rfl) hS
          replace hF := ks_Fr.st hF exh3 (by omega) (by omega)
          clear exh3
          refine ks_aload_n hκ 41 0 dX7_changes_41 rfl ?_
          refine ks_dup hκ 42 dX7_changes_42 rfl ?_
          refine ks_get hκ 43 dX7_changes_43 kf_X7_20 hM rfl ?_
          refine ks_iconst hκ 46 (nI 1) dX7_changes_46 kq_i1 ?_
          refine ks_iaddN hκ 47 dX7_changes_47 ?_
          refine ks_putS hκ 48 [_, _, _, _, _, _, _, _, _, _] dX7_changes_48 kf_X7_20 hM rfl rfl (Nat.le_of_ble_eq_true rfl) rfl ?_
          refine ks_gen (fun xh4 exh4 => ?_)
          replace hM := ks_gs exh4 hM
          replace hS := ks_gn exh4 (ks_nb (b := m) (i := 0) (j := 1) rfl) hS
          replace hF := ks_Fr.st hF exh4 (by omega) (by omega)
          clear exh4
          refine ks_aload_n hκ 51 0 dX7_changes_51 rfl ?_
          refine ks_iconst hκ 52 (nI 0) dX7_changes_52 kq_i0 ?_
          refine ks_aload_n hκ 53 0 dX7_changes_53 rfl ?_
          refine ks_get hκ 54 dX7_changes_54 kf_X7_20 hM rfl ?_
          refine ks_voidV2 hκ 57 dX7_changes_57 kc_X7_24 (c_Model_copies (vi := 0) hM hS (by decide) (by omega)) hM rfl (by decide) (Nat.le_of_ble_eq_true rfl) (by decide) (by decide) (fun xh5 hp57 => ?_)
          obtain ⟨f2, hS, hF9, hcp9, hun9⟩ := hp57
          replace hM := hF9.at hM (by omega)
          replace hF := hF.tr (hF9.wd (by omega) (by omega))
          refine ks_vret hκ 60 hRt dX7_changes_60 (by decide) (by decide) ?_
          have hlen : ((σ :: H).take 6).length = min 6 (H.length + 1) := by rw [List.length_take, List.length_cons]
          first
            | (have h6 : H.length = 6 := c6; rw [show H.length - 1 + 1 = 6 by omega] at hcp9 hun9 hM; exact ⟨rfl, f2, by rw [hlen, show min 6 (H.length + 1) = 6 by omega]; exact hM, hS, hF, kHs_a hH hσ h6 hsh hu1 hcp9 hun9, fun q hq => (hun9 q (by omega)).trans (hu1 q (by omega))⟩)
            | exact ⟨rfl, f2, by rw [hlen, show min 6 (H.length + 1) = H.length + 1 by omega]; exact hM, hS, hF, kHs_b hH hσ (by omega) hcp9 hun9, fun q hq => hun9 q (by omega)⟩
        · skip
          have c14 := mt (nI_leI (by omega) (by omega)).mpr c14
          refine ks_aload_n hκ 17 0 dX7_changes_17 rfl ?_
          refine ks_iload_n hκ 18 1 dX7_changes_18 rfl ?_
          refine ks_iconst hκ 19 (nI 1) dX7_changes_19 kq_i1 ?_
          refine ks_iaddN hκ 20 dX7_changes_20 ?_
          refine ks_iload_n hκ 21 1 dX7_changes_21 rfl ?_
          refine ks_voidV2 hκ 22 dX7_changes_22 kc_X7_24 (c_Model_copies hM hS (show vi + 1 < 10 by omega) (by omega)) hM rfl (by decide) (Nat.le_of_ble_eq_true rfl) (by decide) (by decide) (fun xh6 hp22 => ?_)
          obtain ⟨f3, hS, hF9, hcp9, hun9⟩ := hp22
          replace hM := hF9.at hM (by omega)
          replace hF := hF.tr (hF9.wd (by omega) (by omega))
          refine ks_iinc hκ 25 1 1 (nI (vi + 1)) [(1, _), (0, _)] dX7_changes_25 rfl (ks_inc1 _) (by decide) rfl ?_
          refine ks_goto hκ 28 11 dX7_changes_28 rfl ?_
          refine ks_pick [1, 0] [(0, _), (1, _)] rfl ?_
          exact ks_cv (ih (vi + 1) _ xh6 hM hS hF (by omega) (by omega) (fun j q1 q2 n hn => by by_cases z : j = vi; { subst z; rw [hcp9 n hn]; exact hu1 _ (by omega) }; { rw [hun9 _ (by omega)]; exact hsh j q1 (by omega) n hn }) (fun q z => by rw [hun9 q (by omega)]; exact hu1 q (by omega)) (by omega)) rfl rfl rfl
    refine ks_pick [1, 0] [(0, _), (1, _)] rfl ?_
    exact ks_cv (L11 _ 1 _ h hM hS hF (by decide) (by decide) (fun j q1 q2 => absurd q2 (by omega)) (fun _ _ => rfl) (Nat.lt_succ_self _)) rfl rfl rfl
