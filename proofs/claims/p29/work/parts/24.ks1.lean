/-! THE CLASS: KittenStairs at o; X: cells of others; what was drafted; the history, the newest first; the slots; the pad -/
def ks_Ke (h h' : ks_H) (lo hi : Nat) : Prop := ∀ i : Nat, lo ≤ i → i < hi → h'[i]? = h[i]?
theorem kYarn.ke {g : ks_G} {h h' : ks_H} {y : Nat} {L : List (Nat × Nat)} (x : kYarn g h y L) (f : ks_Ke h h' y (y + 3)) : kYarn g h' y L := by
  obtain ⟨E, O, hY, hE, hO, r⟩ := x
  exact ⟨E, O, (f _ (by omega) (by omega)).trans hY, (f _ (by omega) (by omega)).trans hE, (f _ (by omega) (by omega)).trans hO, r⟩
theorem kPlans.ke {g : ks_G} {h h' : ks_H} {q : Nat} {P : List kP} (x : kPlans g h q P) (f : ks_Ke h h' q (q + 4)) : kPlans g h' q P := by
  obtain ⟨T, K, B, hQ, hT, hK, hB, r⟩ := x
  exact ⟨T, K, B, (f _ (by omega) (by omega)).trans hQ, (f _ (by omega) (by omega)).trans hT, (f _ (by omega) (by omega)).trans hK, (f _ (by omega) (by omega)).trans hB, r⟩
theorem kStairs.ke {g : ks_G} {h h' : ks_H} {b : Nat} {σ : kS} (x : kStairs g h b σ) (f : ks_Ke h h' b (b + 16)) : kStairs g h' b σ := by
  obtain ⟨h0, h1, h2, h3, h4, h5, h6, h7, h8, hy, hp, hk⟩ := x
  have e : ∀ j, j < 16 → h'[b + j]? = h[b + j]? := fun j hj => f _ (by omega) (by omega)
  exact ⟨(e 0 (by decide)).trans h0, (e 1 (by decide)).trans h1, (e 2 (by decide)).trans h2, (e 3 (by decide)).trans h3, (e 4 (by decide)).trans h4, (e 5 (by decide)).trans h5, (e 6 (by decide)).trans h6, (e 7 (by decide)).trans h7, (e 8 (by decide)).trans h8, hy.ke (fun i q1 q2 => f i (by omega) (by omega)), hp.ke (fun i q1 q2 => f i (by omega) (by omega)), hk⟩
theorem kStairs.len {g : ks_G} {h : ks_H} {b : Nat} {σ : kS} (x : kStairs g h b σ) : b + 16 ≤ h.length := by
  obtain ⟨h0, h1, h2, h3, h4, h5, h6, h7, h8, hy, ⟨T, K, B, hQ, hT, hK, hB, r⟩, hk⟩ := x
  have := (List.getElem?_eq_some_iff.mp hB).1
  omega
theorem kPad.ke {g : ks_G} {h h' : ks_H} {d : Nat} {l : List Int32} (x : kPad g h d l) (f : ks_Ke h h' d (d + 2)) : kPad g h' d l := by
  obtain ⟨T, hD, hT, r⟩ := x
  exact ⟨T, (f _ (by omega) (by omega)).trans hD, (f _ (by omega) (by omega)).trans hT, r⟩
theorem kOrdR.ke {g : ks_G} {h h' : ks_H} {od : Nat} {LT PT : Nat → Int32} {vs vn : Nat} (x : kOrdR g h od LT PT vs vn) (f : ks_Ke h h' od (od + 3)) : kOrdR g h' od LT PT vs vn := ⟨(f _ (by omega) (by omega)).trans x.1, (f _ (by omega) (by omega)).trans x.2.1, (f _ (by omega) (by omega)).trans x.2.2⟩
def kG (F G : Nat → Option Nat) (r : Nat) : Option Nat := if r < 7 then F r else G (r - 7)
def kRooms (g : ks_G) (h : ks_H) (o : Nat) (X : Nat → Prop) (F G : Nat → Option Nat) (Q : Nat → kS) : Prop :=
  (∀ r a, r < 9 → kG F G r = some a → kStairs g h a (Q r) ∧ o + 41 ≤ a ∧ ∀ i, i < 16 → ¬ X (a + i)) ∧ ∀ r r' a a', r < 9 → r' < 9 → r ≠ r' → kG F G r = some a → kG F G r' = some a' → a + 16 ≤ a' ∨ a' + 16 ≤ a
def kRing (dp : Nat) (F G : Nat → Option Nat) (Q : Nat → kS) (δ : Option kS) (H : List kS) (S : Nat → Option kS) : Prop :=
  dp < 7 ∧ H.length ≤ 6 ∧ (∀ i x, H[i]? = some x → F ((dp + 6 - i) % 7) ≠ none ∧ Q ((dp + 6 - i) % 7) = x) ∧ (∀ x, δ = some x → F dp ≠ none ∧ Q dp = x) ∧ ∀ s, s < 2 → (S s = none ∧ G s = none ∨ ∃ x, S s = some x ∧ G s ≠ none ∧ Q (7 + s) = x)
def kKS (g : ks_G) (h : ks_H) (o : Nat) (X : Nat → Prop) (σ : kS) (δ : Option kS) (H : List kS) (S : Nat → Option kS) (l : List Int32) : Prop :=
  ∃ (τ : kS) (dp : Nat) (F G : Nat → Option Nat) (Q : Nat → kS) (LT PT : Nat → Int32) (vs vn : Nat),
    h[o]? = some (ks_O 6 [ks_ref g (o + 1), ks_ref g (o + 17), ks_ref g (o + 33), ks_ref g (o + 35), ks_ref g (o + 36), ks_ref g (o + 38)]) ∧ kStairs g h (o + 1) σ ∧ kStairs g h (o + 17) τ ∧
    h[o + 33]? = some (ks_O 0 [ks_ref g (o + 34), .int (nI dp), .int (nI H.length)]) ∧ h[o + 34]? = some (ks_S g 7 F) ∧ h[o + 35]? = some (ks_S g 2 G) ∧ kPad g h (o + 36) l ∧ kOrdR g h (o + 38) LT PT vs vn ∧
    kRooms g h o X F G Q ∧ kRing dp F G Q δ H S ∧ ∀ i, X i → i < h.length ∧ (i < o ∨ o + 41 ≤ i)
def kFX (X : Nat → Prop) (h h' : ks_H) : Prop := h.length ≤ h'.length ∧ ∀ i, X i → h'[i]? = h[i]?
theorem kFX.rf {X : Nat → Prop} {h : ks_H} : kFX X h h := ⟨Nat.le_refl _, fun _ _ => rfl⟩
theorem kFX.tr {X : Nat → Prop} {h h1 h2 : ks_H} (a : kFX X h h1) (b : kFX X h1 h2) : kFX X h h2 := ⟨Nat.le_trans a.1 b.1, fun i q => (b.2 i q).trans (a.2 i q)⟩
theorem kFX.of {X : Nat → Prop} {h h1 : ks_H} {lo hi : Nat} (a : ks_Fr h h1 lo hi) (q : ∀ i, X i → i < lo ∨ hi ≤ i) : kFX X h h1 := ⟨Nat.le_of_eq a.1.symm, fun i z => a.2 i (q i z)⟩
theorem kRooms.fr {g : ks_G} {h h' : ks_H} {o : Nat} {X : Nat → Prop} {F G : Nat → Option Nat} {Q : Nat → kS} (x : kRooms g h o X F G Q) {lo hi : Nat} (f : ks_Fr h h' lo hi) (z : hi ≤ o + 41) : kRooms g h' o X F G Q := by
  refine ⟨fun r a hr ha => ?_, x.2⟩
  obtain ⟨h1, h2, h3⟩ := x.1 r a hr ha
  exact ⟨h1.fr f (Or.inr (by omega)), h2, h3⟩
/-- one room is written anew, or made -/
theorem kRooms.up {g : ks_G} {h h' : ks_H} {o r0 va : Nat} {X : Nat → Prop} {F G F' G' : Nat → Option Nat} {Q : Nat → kS} {x : kS} (hR : kRooms g h o X F G Q) (hr0 : r0 < 9) (hx : kStairs g h' va x) (hva : o + 41 ≤ va) (hvX : ∀ i, i < 16 → ¬ X (va + i))
    (hnew : ∀ r a, r < 9 → r ≠ r0 → kG F G r = some a → a + 16 ≤ va ∨ va + 16 ≤ a) (hG : ∀ r, r < 9 → kG F' G' r = if r = r0 then some va else kG F G r)
    (hk : ∀ i, i < h.length → o + 41 ≤ i → (i < va ∨ va + 16 ≤ i) → h'[i]? = h[i]?) : kRooms g h' o X F' G' (fun r => if r = r0 then x else Q r) := by
  refine ⟨fun r a hr ha => ?_, fun r r' a a' hr hr' hne ha ha' => ?_⟩
  · rw [hG r hr] at ha
    by_cases h0 : r = r0
    · rw [if_pos h0] at ha
      cases ha
      simp only [if_pos h0]
      exact ⟨hx, hva, hvX⟩
    · rw [if_neg h0] at ha
      simp only [if_neg h0]
      obtain ⟨h1, h2, h3⟩ := hR.1 r a hr ha
      have hl := h1.len
      have hd := hnew r a hr h0 ha
      exact ⟨h1.ke (fun i q1 q2 => hk i (by omega) (by omega) (by omega)), h2, h3⟩
  · rw [hG r hr] at ha
    rw [hG r' hr'] at ha'
    by_cases h0 : r = r0
    · rw [if_pos h0] at ha
      cases ha
      rw [if_neg (by omega)] at ha'
      have := hnew r' a' hr' (by omega) ha'
      omega
    · rw [if_neg h0] at ha
      by_cases h1 : r' = r0
      · rw [if_pos h1] at ha'
        cases ha'
        exact hnew r a hr h0 ha
      · rw [if_neg h1] at ha'
        exact hR.2 r r' a a' hr hr' hne ha ha'
theorem c_roomAt {g : ks_G} {h : ks_H} {ra N vj : Nat} {F : Nat → Option Nat} (hA : h[ra]? = some (ks_S g N F)) (hj : vj < N) (hN : N < 100) : ks_Met g (yX6_roomAt, cX6_roomAt, 3, some (.object "KittenStairs$Stairs")) 3 16 595 [ks_ref g ra, .int (nI vj)] h (kRoomQ g h ra N vj F) := by
  cases hF : F vj with
  | none => exact c_roomAt_none hA hj hN hF
  | some va => exact c_roomAt_some hA hj hN hF
/-- behind roomAt: whatever room it is, what it holds, and what is as before -/
theorem kRoomQ.use {g : ks_G} {h h' : ks_H} {o r0 vj ra N : Nat} {X : Nat → Prop} {F G F0 : Nat → Option Nat} {Q : Nat → kS} {v : Option Value} (hq : kRoomQ g h ra N vj F0 v h') (hR : kRooms g h o X F G Q) (hr0 : r0 < 9) (hF : kG F G r0 = F0 vj) (hX : ∀ i, X i → i < h.length ∧ (i < o ∨ o + 41 ≤ i)) (ho : o + 41 ≤ h.length) :
    ∃ va, v = some (ks_ref g va) ∧ h'[ra]? = some (ks_S g N (va_up F0 vj (some va))) ∧ (∃ x, kStairs g h' va x) ∧ o + 41 ≤ va ∧ (∀ i, i < 16 → ¬ X (va + i)) ∧ (∀ r a, r < 9 → r ≠ r0 → kG F G r = some a → a + 16 ≤ va ∨ va + 16 ≤ a) ∧ (∀ i : Nat, i < h.length → i ≠ ra → h'[i]? = h[i]?) ∧ h.length ≤ h'.length := by
  obtain ⟨va, hv, hA, hc⟩ := hq
  refine ⟨va, hv, hA, ?_⟩
  rcases hc with ⟨h1, rfl⟩ | ⟨h1, h2, h3, h4, h5⟩
  · rw [← hF] at h1
    obtain ⟨k1, k2, k3⟩ := hR.1 r0 va hr0 h1
    exact ⟨⟨_, k1⟩, k2, k3, fun r a hr hne ha => hR.2 r r0 a va hr hr0 hne ha h1, fun _ _ _ => rfl, Nat.le_refl _⟩
  · refine ⟨⟨_, h3⟩, by omega, fun i hi hXi => ?_, fun r a hr hne ha => Or.inl ?_, h5, by omega⟩
    · have := (hX _ hXi).1; omega
    · have := (hR.1 r a hr ha).1.len; omega
theorem kKS.len {g : ks_G} {h : ks_H} {o : Nat} {X : Nat → Prop} {σ : kS} {δ : Option kS} {H : List kS} {S : Nat → Option kS} {l : List Int32} (x : kKS g h o X σ δ H S l) : o + 41 ≤ h.length := by
  obtain ⟨τ, dp, F, G, Q, LT, PT, vs, vn, hO, hnow, htri, hH, hF7, hG2, hpad, hord, r⟩ := x
  have := (List.getElem?_eq_some_iff.mp hord.2.2).1
  omega
set_option maxRecDepth 100000 in
set_option maxHeartbeats 4000000 in
theorem c_History_keepDraft {g : ks_G} {h : ks_H} {o : Nat} {X : Nat → Prop} {σ : kS} {δ : Option kS} {H : List kS} {S : Nat → Option kS} {l : List Int32} {x : kS} (hks : kKS g h o X σ (some x) H S l) : ks_Met g (yX0_keepDraft, cX0_keepDraft, 1, none) 0 0 0 [ks_ref g (o + 33)] h (ks_Pv (fun h' => kKS g h' o X σ none ((x :: H).take 6) S l ∧ kFX X h h')) := by
  have hks0 := hks
  have hol := hks.len
  obtain ⟨τ, dp, F, G, Q, LT, PT, vs, vn, hO, hnow, htri, hH, hF7, hG2, hpad, hord, hrooms, hring, hX⟩ := hks
  obtain ⟨hdp, hHl, hrH, hrD, hrS⟩ := id hring
  refine ks_intro (by decide) (Nat.le_of_ble_eq_true rfl) (fun κ hκ hRt => ?_)
  refine ks_cv (ls := [(0, ks_ref g (o + 33))]) ?_ rfl rfl rfl
  have hFr : ks_Fr h h (o + 33) (o + 34) := ks_Fr.rf
  refine ks_aload_n hκ 0 0 dX0_keepDraft_0 rfl ?_
  refine ks_aload_n hκ 1 0 dX0_keepDraft_1 rfl ?_
  refine ks_get hκ 2 dX0_keepDraft_2 kf_X0_17 hH rfl ?_
  refine ks_iconst hκ 5 (nI 1) dX0_keepDraft_5 kq_i1 ?_
  refine ks_iaddN hκ 6 dX0_keepDraft_6 ?_
  refine ks_bipush hκ 7 (nI 7) dX0_keepDraft_7 kq_b7 ?_
  refine ks_irem hκ 9 dX0_keepDraft_9 (by decide) ?_
  refine ks_top (nI ((dp + 1) % 7)) (pk_rem (by omega) (by decide) (by decide)) ?_
  refine ks_putS hκ 10 [_, _, _] dX0_keepDraft_10 kf_X0_17 hH rfl rfl (Nat.le_of_ble_eq_true rfl) rfl ?_
  refine ks_gen (fun xh1 exh1 => ?_)
  replace hH := ks_gs exh1 hH
  replace hFr := ks_Fr.st hFr exh1 (by omega) (by omega)
  clear exh1
  refine ks_aload_n hκ 13 0 dX0_keepDraft_13 rfl ?_
  refine ks_get hκ 14 dX0_keepDraft_14 kf_X0_21 hH rfl ?_
  refine ks_bipush hκ 17 (nI 6) dX0_keepDraft_17 kq_b6 ?_
  refine ks_icmp_ge hκ 19 32 dX0_keepDraft_19 rfl (fun c19 => ?_) (fun c19 => ?_)
  · skip
    have c19 := (nI_leI (by omega) (by omega)).mp c19
    refine ks_vret hκ 32 hRt dX0_keepDraft_32 (by decide) (by decide) ?_
    refine ⟨rfl, ?_, kFX.of hFr (fun i hi => by have := (hX i hi).2; omega)⟩
    have hlen : ((x :: H).take 6).length = min 6 (H.length + 1) := by rw [List.length_take, List.length_cons]
    refine ⟨τ, (dp + 1) % 7, F, G, Q, LT, PT, vs, vn, hFr.at hO (by omega), hnow.fr hFr (by omega), htri.fr hFr (by omega), ?_, hFr.at hF7 (by omega), hFr.at hG2 (by omega), hpad.fr hFr (by omega), hord.fr hFr (by omega), hrooms.fr hFr (by omega), ⟨Nat.mod_lt _ (by decide), by omega, fun i y hy => ?_, (fun y hy => by cases hy), hrS⟩, fun i hi => by rw [hFr.1]; exact hX i hi⟩
    · rw [hlen]; first | (rw [show min 6 (H.length + 1) = H.length by omega]; exact hH) | (rw [show min 6 (H.length + 1) = H.length + 1 by omega]; exact hH)
    · rw [List.getElem?_take] at hy
      by_cases h6 : i < 6
      · rw [if_pos h6] at hy
        cases i with
        | zero =>
          simp at hy
          rw [show ((dp + 1) % 7 + 6 - 0) % 7 = dp by omega, ← hy]
          exact hrD x rfl
        | succ i =>
          rw [List.getElem?_cons_succ] at hy
          have := (List.getElem?_eq_some_iff.mp hy).1
          rw [show ((dp + 1) % 7 + 6 - (i + 1)) % 7 = (dp + 6 - i) % 7 by omega]
          exact hrH i y hy
      · rw [if_neg h6] at hy; cases hy
  · skip
    have c19 := mt (nI_leI (by omega) (by omega)).mpr c19
    refine ks_aload_n hκ 22 0 dX0_keepDraft_22 rfl ?_
    refine ks_dup hκ 23 dX0_keepDraft_23 rfl ?_
    refine ks_get hκ 24 dX0_keepDraft_24 kf_X0_21 hH rfl ?_
    refine ks_iconst hκ 27 (nI 1) dX0_keepDraft_27 kq_i1 ?_
    refine ks_iaddN hκ 28 dX0_keepDraft_28 ?_
    refine ks_putS hκ 29 [_, _, _] dX0_keepDraft_29 kf_X0_21 hH rfl rfl (Nat.le_of_ble_eq_true rfl) rfl ?_
    refine ks_gen (fun xh2 exh2 => ?_)
    replace hH := ks_gs exh2 hH
    replace hFr := ks_Fr.st hFr exh2 (by omega) (by omega)
    clear exh2
    refine ks_vret hκ 32 hRt dX0_keepDraft_32 (by decide) (by decide) ?_
    refine ⟨rfl, ?_, kFX.of hFr (fun i hi => by have := (hX i hi).2; omega)⟩
    have hlen : ((x :: H).take 6).length = min 6 (H.length + 1) := by rw [List.length_take, List.length_cons]
    refine ⟨τ, (dp + 1) % 7, F, G, Q, LT, PT, vs, vn, hFr.at hO (by omega), hnow.fr hFr (by omega), htri.fr hFr (by omega), ?_, hFr.at hF7 (by omega), hFr.at hG2 (by omega), hpad.fr hFr (by omega), hord.fr hFr (by omega), hrooms.fr hFr (by omega), ⟨Nat.mod_lt _ (by decide), by omega, fun i y hy => ?_, (fun y hy => by cases hy), hrS⟩, fun i hi => by rw [hFr.1]; exact hX i hi⟩
    · rw [hlen]; first | (rw [show min 6 (H.length + 1) = H.length by omega]; exact hH) | (rw [show min 6 (H.length + 1) = H.length + 1 by omega]; exact hH)
    · rw [List.getElem?_take] at hy
      by_cases h6 : i < 6
      · rw [if_pos h6] at hy
        cases i with
        | zero =>
          simp at hy
          rw [show ((dp + 1) % 7 + 6 - 0) % 7 = dp by omega, ← hy]
          exact hrD x rfl
        | succ i =>
          rw [List.getElem?_cons_succ] at hy
          have := (List.getElem?_eq_some_iff.mp hy).1
          rw [show ((dp + 1) % 7 + 6 - (i + 1)) % 7 = (dp + 6 - i) % 7 by omega]
          exact hrH i y hy
      · rw [if_neg h6] at hy; cases hy
set_option maxRecDepth 100000 in
set_option maxHeartbeats 4000000 in
theorem c_History_draft {g : ks_G} {h : ks_H} {o : Nat} {X : Nat → Prop} {σ : kS} {δ : Option kS} {H : List kS} {S : Nat → Option kS} {l : List Int32} (hks : kKS g h o X σ δ H S l) : ks_Met g (yX0_draft, cX0_draft, 2, none) 4 16 595 [ks_ref g (o + 33), ks_ref g (o + 1)] h (ks_Pv (fun h' => kKS g h' o X σ (some σ) H S l ∧ kFX X h h' ∧ ∀ i : Nat, o + 35 ≤ i → i < o + 41 → h'[i]? = h[i]?)) := by
  have hks0 := hks
  have hol := hks.len
  obtain ⟨τ, dp, F, G, Q, LT, PT, vs, vn, hO, hnow, htri, hH, hF7, hG2, hpad, hord, hrooms, hring, hX⟩ := hks
  obtain ⟨hdp, hHl, hrH, hrD, hrS⟩ := id hring
  refine ks_intro (by decide) (Nat.le_of_ble_eq_true rfl) (fun κ hκ hRt => ?_)
  refine ks_cv (ls := [(0, ks_ref g (o + 33)), (1, ks_ref g (o + 1))]) ?_ rfl rfl rfl
  refine ks_aload_n hκ 0 0 dX0_draft_0 rfl ?_
  refine ks_get hκ 1 dX0_draft_1 kf_X0_13 hH rfl ?_
  refine ks_aload_n hκ 4 0 dX0_draft_4 rfl ?_
  refine ks_get hκ 5 dX0_draft_5 kf_X0_17 hH rfl ?_
  refine ks_callS2 hκ 8 dX0_draft_8 kc_X0_24 (c_roomAt hF7 hdp (by decide)) (by decide) (by decide) (by decide) (Nat.le_of_ble_eq_true rfl) (fun v8 xh1 hp8 => ?_)
  obtain ⟨va, rfl, hF7, ⟨y, hva⟩, hv1, hv2, hv3, hke, hlen2⟩ := hp8.use hrooms (r0 := dp) (by omega) (if_pos hdp) hX hol
  refine ks_cv (st := [ks_ref g va]) ?_ rfl rfl rfl
  have hva0 := hva.1
  have hnow2 := hnow.ke (h' := xh1) (fun i q1 q2 => hke i (by omega) (by omega))
  refine ks_aload_n hκ 11 1 dX0_draft_11 rfl ?_
  refine ks_voidV1 hκ 12 dX0_draft_12 kc_X0_28 (c_Stairs_copyFrom hva hnow2 (by omega)) hva0 rfl (by decide) (Nat.le_of_ble_eq_true rfl) (by decide) (by decide) (fun xh2 hp12 => ?_)
  obtain ⟨hva, hFr⟩ := hp12
  refine ks_vret hκ 15 hRt dX0_draft_15 (by decide) (by decide) ?_
  have hall : ∀ i : Nat, i < h.length → i ≠ o + 34 → (i < va ∨ va + 16 ≤ i) → xh2[i]? = h[i]? := fun i q1 q2 q3 => (hFr.2 i q3).trans (hke i q1 q2)
  refine ⟨rfl, ⟨τ, dp, va_up F dp (some va), G, fun r => if r = dp then σ else Q r, LT, PT, vs, vn, (hall _ (by omega) (by omega) (by omega)).trans hO, hnow.ke (fun i q1 q2 => hall i (by omega) (by omega) (by omega)), htri.ke (fun i q1 q2 => hall i (by omega) (by omega) (by omega)), (hall _ (by omega) (by omega) (by omega)).trans hH, hFr.at hF7 (by omega), (hall _ (by omega) (by omega) (by omega)).trans hG2, hpad.ke (fun i q1 q2 => hall i (by omega) (by omega) (by omega)), hord.ke (fun i q1 q2 => hall i (by omega) (by omega) (by omega)), ?_, ?_, fun i hi => ⟨by rw [hFr.1]; have := (hX i hi).1; omega, (hX i hi).2⟩⟩, ⟨by rw [hFr.1]; exact hlen2, fun i hi => ?_⟩, fun i q1 q2 => hall i (by omega) (by omega) (by omega)⟩
  · refine hrooms.up (by omega) hva hv1 hv2 hv3 (fun r hr => ?_) (fun i q1 q2 q3 => hall i q1 (by omega) q3)
    unfold kG
    by_cases hr7 : r < 7
    · rw [if_pos hr7, if_pos hr7]; unfold va_up; rfl
    · rw [if_neg hr7, if_neg hr7, if_neg (by omega)]
  · refine ⟨hdp, hHl, fun i y hy => ?_, fun y hy => ?_, fun s hs => ?_⟩
    · have hil := (List.getElem?_eq_some_iff.mp hy).1
      have hne : (dp + 6 - i) % 7 ≠ dp := by omega
      simp only [if_neg hne]
      unfold va_up
      rw [if_neg hne]
      exact hrH i y hy
    · cases hy
      simp [va_up]
    · simp only [if_neg (show ¬ 7 + s = dp by omega)]
      exact hrS s hs
  · have hx1 := hX i hi
    refine hall i hx1.1 (by omega) ?_
    rcases Nat.lt_or_ge i va with q | q
    · exact Or.inl q
    · rcases Nat.lt_or_ge i (va + 16) with q2 | q2
      · exact absurd hi (by have := hv2 (i - va) (by omega); rwa [show va + (i - va) = i by omega] at this)
      · exact Or.inr q2
