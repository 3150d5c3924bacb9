
/-! THE CLASS: what holds of every state; the orders carried out -/
def kInv (σ : kS) : Prop := kOk2 σ ∧ ∃ n : Nat, n ≤ 9999 ∧ σ.2.1 = nI n
theorem kInv_new : kInv kNew := ⟨⟨fun k hk => absurd hk (Nat.not_lt_zero k), fun p hp => by cases hp⟩, 0, by decide, rfl⟩
theorem kInv_chg {σ : kS} {x z : Int32} (h : kInv σ) : kInv (kChg σ x z).2 := by
  unfold kChg
  split
  · exact h
  · split
    · exact h
    · split
      · exact h
      · split
        · exact h
        · exact h
theorem kInv_add {σ : kS} {x : Int32} (h : kInv σ) : kInv (kAdd σ x).2 := by
  obtain ⟨se, tu, ki, ma, re, kf, L, P⟩ := σ
  obtain ⟨⟨h1, h2⟩, h3⟩ := h
  rcases pk_ix x (n := 16) (by omega) with q | q | ⟨j, q1, rfl⟩
  · rw [show kAdd (se, tu, ki, ma, re, kf, L, P) x = (-1, (se, tu, ki, ma, re, kf, L, P)) from if_pos q]; exact ⟨⟨h1, h2⟩, h3⟩
  · rw [show kAdd (se, tu, ki, ma, re, kf, L, P) x = (-1, (se, tu, ki, ma, re, kf, L, P)) by unfold kAdd; split <;> first | rfl | rw [if_pos q]]; exact ⟨⟨h1, h2⟩, h3⟩
  · unfold kAdd
    split
    · exact ⟨⟨h1, h2⟩, h3⟩
    · split
      · exact ⟨⟨h1, h2⟩, h3⟩
      · split
        · exact ⟨⟨h1, h2⟩, h3⟩
        · refine ⟨⟨fun k hk => ?_, fun p hp => Nat.lt_succ_of_lt (h2 p hp)⟩, h3⟩
          show ∃ s, s < 16 ∧ upd (kf 0) ki (nI j) k = nI s
          have hk2 : k < ki + 1 := hk
          by_cases hkk : k = ki
          · exact ⟨j, q1, by simp [upd, hkk]⟩
          · obtain ⟨s, hs1, hs2⟩ := h1 k (by show k < ki; omega)
            exact ⟨s, hs1, by simp [upd, hkk]; exact hs2⟩
theorem kInv_try {σ : kS} {x z : Int32} (hki : σ.2.2.1 ≤ 6) (h : kInv σ) : kInv (kTry σ x z).2 := by
  unfold kTry
  split
  · exact h
  · rename_i c1
    split
    · exact h
    · split
      · exact h
      · rename_i c3
        obtain ⟨j, hj, rfl⟩ := kHas_1 c1 hki
        rw [nI_clamp (by omega)] at c3 ⊢
        obtain ⟨⟨h1, h2⟩, h3⟩ := h
        obtain ⟨s, hs, hks⟩ := h1 j hj
        obtain ⟨t, ht, rfl⟩ := kRef_0 (Classical.not_not.mp c3) hks hs
        exact ⟨⟨kLeap_steps h1 hks ht, h2⟩, h3⟩
theorem kInv_nap {σ : kS} {x : Int32} (h : kInv σ) : kInv (kNap σ x).2 := by
  unfold kNap
  split
  · exact h
  · split
    · exact h
    · obtain ⟨⟨h1, h2⟩, h3⟩ := h
      refine ⟨⟨fun k hk => ?_, h2⟩, h3⟩
      obtain ⟨s, q1, q2⟩ := h1 k hk
      exact ⟨s, q1, q2⟩
theorem kInv_snip {σ : kS} {x z : Int32} (h : kInv σ) : kInv (kSnip σ x z).2 := by
  unfold kSnip
  split
  · exact h
  · split
    · exact h
    · split
      · exact h
      · obtain ⟨⟨h1, h2⟩, h3⟩ := h
        refine ⟨⟨fun k hk => ?_, h2⟩, h3⟩
        obtain ⟨s, q1, q2⟩ := h1 k hk
        exact ⟨s, q1, q2⟩
theorem kInv_plan {σ : kS} {w x z : Int32} (hki : σ.2.2.1 ≤ 6) (h : kInv σ) : kInv (kPlan σ w x z).2 := by
  unfold kPlan
  split
  · exact h
  · rename_i c1
    split
    · exact h
    · split
      · exact h
      · split
        · exact h
        · split
          · exact h
          · obtain ⟨j, hj, rfl⟩ := kHas_1 c1 hki
            rw [nI_clamp (by omega)]
            obtain ⟨⟨h1, h2⟩, h3⟩ := h
            refine ⟨⟨h1, fun p hp => ?_⟩, h3⟩
            have hp2 : p ∈ kIns σ.2.2.2.2.2.2.2 (σ.2.1 + w, j, z) := hp
            unfold kIns at hp2
            rcases List.mem_append.mp hp2 with q | q
            · exact h2 p (List.mem_of_mem_take q)
            · rcases List.mem_cons.mp q with q | q
              · rw [q]; exact hj
              · exact h2 p (List.mem_of_mem_drop q)
theorem kPass_tu : ∀ (n : Nat) (σ : kS) (m a : Nat), kOk2 σ → σ.2.1 = nI a → (kPass n σ m).2.2.1 = nI (a + n) := by
  intro n
  induction n with
  | zero => intro σ m a _ h; exact h
  | succ n ih =>
    intro σ m a hok h
    rw [show a + (n + 1) = (a + 1) + n by omega]
    exact ih _ _ _ (kTurn_ok hok).1 (by rw [(kTurn_ok hok).2.2.1, h, nI_add])
theorem kInv_pass {σ : kS} {x : Int32} (h : kInv σ) : kInv (kPassT σ x).2 := by
  unfold kPassT
  split
  · exact h
  · rename_i c1
    split
    · exact h
    · rename_i c2
      split
      · exact h
      · rename_i c3
        obtain ⟨h1, n, hn, hn2⟩ := h
        rcases pk_ix x (n := 100) (by omega) with q | q | ⟨j, q1, rfl⟩
        · exact absurd (Int32.lt_trans q (show (0 : Int32) < nI 1 by decide)) c1
        · exact absurd (Int32.lt_of_lt_of_le (show nI 99 < nI 100 by decide) q) c2
        · rw [nI_clamp (by omega)]
          rw [hn2, nI_add] at c3
          refine ⟨kPass_ok _ _ _ h1, n + j, ?_, kPass_tu _ _ _ _ h1 hn2⟩
          have := mt (nI_ltI (by omega) (by omega)).mpr c3
          omega
theorem kInv_one {σ : kS} {s a b c : Int32} (hki : σ.2.2.1 ≤ 6) (h : kInv σ) : kInv (kOne σ s a b c).2 := by
  unfold kOne
  split
  · exact kInv_add h
  · split
    · exact kInv_try hki h
    · split
      · exact kInv_nap h
      · split
        · exact kInv_snip h
        · split
          · exact kInv_plan hki h
          · split
            · exact kInv_pass h
            · exact h
theorem kOne_fit {σ : kS} {z : kO} {s a b c : Int32} (h : kFit z s a b c) : kOne σ s a b c = kOne σ z.1 z.2.1 z.2.2.1 z.2.2.2 := by
  obtain ⟨rfl, rfl, h2, h3⟩ := h
  unfold kOne
  by_cases q1 : z.1 = nI 107
  · rw [if_pos q1, if_pos q1]
  · rw [if_neg q1, if_neg q1]
    by_cases q2 : z.1 = nI 103
    · rw [if_pos q2, if_pos q2, h2 (Or.inl q2)]
    · rw [if_neg q2, if_neg q2]
      by_cases q3 : z.1 = nI 110
      · rw [if_pos q3, if_pos q3]
      · rw [if_neg q3, if_neg q3]
        by_cases q4 : z.1 = nI 120
        · rw [if_pos q4, if_pos q4, h2 (Or.inr (Or.inr q4))]
        · rw [if_neg q4, if_neg q4]
          by_cases q5 : z.1 = nI 112
          · rw [if_pos q5, if_pos q5, h2 (Or.inr (Or.inl q5)), h3 q5]
          · rw [if_neg q5, if_neg q5]
def kCarry : List kO → kS → Nat → Nat × kS
  | [], σ, n => (n, σ)
  | z :: zs, σ, n => if (kOne σ z.1 z.2.1 z.2.2.1 z.2.2.2).1 < 0 then (n, (kOne σ z.1 z.2.1 z.2.2.1 z.2.2.2).2) else kCarry zs (kOne σ z.1 z.2.1 z.2.2.1 z.2.2.2).2 (n + 1)
/-- the answer, the present, the history, the pad -/
def kCarQ (σ : kS) (H : List kS) (l : List Int32) : Int32 × kS × List kS × List Int32 := if (kRead 27 l 0 []).1 = -6 then (nI (kCarry (kRead 27 l 0 []).2 σ 0).1, (kCarry (kRead 27 l 0 []).2 σ 0).2, kKeep (nI (kCarry (kRead 27 l 0 []).2 σ 0).1) σ H, []) else (-3, σ, H, l)
theorem kKS.ki {g : ks_G} {h : ks_H} {o : Nat} {X : Nat → Prop} {σ : kS} {δ : Option kS} {H : List kS} {S : Nat → Option kS} {l : List Int32} (x : kKS g h o X σ δ H S l) : σ.2.2.1 ≤ 6 := by
  obtain ⟨τ, dp, F, G, Q, LT, PT, vs, vn, hO, hnow, r⟩ := x
  exact hnow.2.2.2.2.2.2.2.2.2.2.2
theorem kInv_carry : ∀ (zs : List kO) (σ : kS) (n : Nat), (∀ (ρ : kS) (s a b c : Int32), ρ.2.2.1 ≤ 6 → (kOne ρ s a b c).2.2.2.1 ≤ 6) → σ.2.2.1 ≤ 6 → kInv σ → kInv (kCarry zs σ n).2 := by
  intro zs
  induction zs with
  | nil => intro σ n _ _ h; exact h
  | cons z zs ih =>
    intro σ n hk hki h
    rw [kCarry]
    split
    · exact kInv_one hki h
    · exact ih _ _ hk (hk _ _ _ _ _ hki) (kInv_one hki h)
set_option maxRecDepth 100000 in
set_option maxHeartbeats 4000000 in
theorem c_carryOut {g : ks_G} {h : ks_H} {o : Nat} {X : Nat → Prop} {se : Nat → Int32} {tu : Int32} {ki : Nat} {ma re : Int32} {kf : Nat → Nat → Int32} {L : List (Nat × Nat)} {P : List kP} {H : List kS} {S : Nat → Option kS} {l : List Int32} (hks : kKS g h o X (se, tu, ki, ma, re, kf, L, P) none H S l) (hiv : kInv (se, tu, ki, ma, re, kf, L, P)) : ks_Met g (yX6_carryOut, cX6_carryOut, 2, some .int) 6 16 595 [ks_ref g o] h (ks_Ph (fun r h' => r = (kCarQ (se, tu, ki, ma, re, kf, L, P) H l).1 ∧ kKS g h' o X (kCarQ (se, tu, ki, ma, re, kf, L, P) H l).2.1 none (kCarQ (se, tu, ki, ma, re, kf, L, P) H l).2.2.1 S (kCarQ (se, tu, ki, ma, re, kf, L, P) H l).2.2.2 ∧ kFX X h h')) := by
  have hks0 := hks
  have hol := hks.len
  obtain ⟨τ, dp, F, G, Q, LT, PT, vs, vn, hO, hnow, htri, hH, hF7, hG2, hpad, hord, hrooms, hring, hX⟩ := hks
  obtain ⟨hdp, hHl, hrH, hrD, hrS⟩ := id hring
  obtain ⟨DT, hD, -, -, hDl⟩ := id hpad
  have hR0 := hord.1
  refine ks_intro (by decide) (Nat.le_of_ble_eq_true rfl) (fun κ hκ hRt => ?_)
  refine ks_cv (ls := [(0, ks_ref g o)]) ?_ rfl rfl rfl
  refine ks_aload_n hκ 0 0 dX6_carryOut_0 rfl ?_
  refine ks_get hκ 1 dX6_carryOut_1 kf_X6_40 hO rfl ?_
  refine ks_aload_n hκ 4 0 dX6_carryOut_4 rfl ?_
  refine ks_get hκ 5 dX6_carryOut_5 kf_X6_33 hO rfl ?_
  refine ks_intcV1 hκ 8 dX6_carryOut_8 kc_X6_222 (c_Orders_read hord hpad (by omega)) hR0 rfl (by decide) (Nat.le_of_ble_eq_true rfl) (by decide) (by decide) (fun r8 xh1 hp8 => ?_)
  obtain ⟨hr8, ⟨LA, PA, vn1, hor1, hfits⟩, hF2⟩ := hp8
  obtain ⟨hks3, hfx3⟩ := hks0.ord hor1 hF2
  obtain ⟨OS, hOS⟩ : ∃ OS, (kRead 27 l 0 []).2 = OS := ⟨_, rfl⟩
  have hOSl : OS.length ≤ 27 := by rw [← hOS]; exact kRead_len 27 l 0 []
  rw [hOS] at hor1 hfits
  obtain ⟨τ9, dp9, F9, G9, Q9, LT9, PT9, vs9, vn9, hOq, hnow9, -, hHq, -, -, -, -, -, -, -⟩ := id hks3
  have hNq := hnow9.1
  refine ks_bipush hκ 11 (-6) dX6_carryOut_11 kq_bm6 ?_
  refine ks_icmp_eq hκ 13 19 dX6_carryOut_13 rfl (fun c13 => ?_) (fun c13 => ?_)
  · skip
    refine ks_aload_n hκ 19 0 dX6_carryOut_19 rfl ?_
    refine ks_get hκ 20 dX6_carryOut_20 kf_X6_22 hOq rfl ?_
    refine ks_aload_n hκ 23 0 dX6_carryOut_23 rfl ?_
    refine ks_get hκ 24 dX6_carryOut_24 kf_X6_12 hOq rfl ?_
    refine ks_voidV1 hκ 27 dX6_carryOut_27 kc_X6_44 (c_History_draft hks3) hHq rfl (by decide) (Nat.le_of_ble_eq_true rfl) (by decide) (by decide) (fun xh2 hp27 => ?_)
    obtain ⟨hks4, hfx4, hke4⟩ := hp27
    have hor4 : kOrdR g xh2 (o + 38) LA PA OS.length vn1 := hor1.ke (fun i q1 q2 => hke4 i (by omega) (by omega))
    refine ks_iconst hκ 30 (nI 0) dX6_carryOut_30 kq_i0 ?_
    refine ks_istore_n hκ 31 1 [(1, _), (0, _)] dX6_carryOut_31 rfl (by decide) rfl ?_
    have L32 : ∀ (fuel : Nat) (vj : Nat) (ρ : kS) (hh : ks_H) (hks9 : kKS g hh o X ρ (some (se, tu, ki, ma, re, kf, L, P)) H S l) (hfx9 : kFX X h hh) (hor9 : kOrdR g hh (o + 38) LA PA OS.length vn1) (hvj : vj ≤ OS.length) (hiv9 : kInv ρ) (hinv : kCarry (OS.drop vj) ρ vj = kCarry OS (se, tu, ki, ma, re, kf, L, P) 0) (hfuel : OS.length - vj < fuel), ks_K κ g 2 hh 16 595 32 [(0, ks_ref g o), (1, .int (nI vj))] [] := by
      intro fuel
      induction fuel with
      | zero => intro vj ρ hh hks9 hfx9 hor9 hvj hiv9 hinv hfuel; exact absurd hfuel (Nat.not_lt_zero _)
      | succ fuel ih =>
        intro vj ρ hh hks9 hfx9 hor9 hvj hiv9 hinv hfuel
        obtain ⟨se1, tu1, ki1, ma1, re1, kf1, L1, P1⟩ := ρ
        obtain ⟨τ9, dp9, F9, G9, Q9, LT9, PT9, vs9, vn9, hOq, hnow9, -, hHq, -, -, hpad9, -, -, -, -⟩ := id hks9
        obtain ⟨DT9, hDq, -⟩ := id hpad9
        have hRq := hor9.1
        refine ks_iload_n hκ 32 1 dX6_carryOut_32 rfl ?_
        refine ks_aload_n hκ 33 0 dX6_carryOut_33 rfl ?_
        refine ks_get hκ 34 dX6_carryOut_34 kf_X6_40 hOq rfl ?_
        refine ks_get hκ 37 dX6_carryOut_37 kf_X6_226 hRq rfl ?_
        refine ks_icmp_ge hκ 40 57 dX6_carryOut_40 rfl (fun c40 => ?_) (fun c40 => ?_)
        · skip
          have c40 := (nI_leI (by omega) (by omega)).mp c40
          have hfin : kCarry OS (se, tu, ki, ma, re, kf, L, P) 0 = (vj, (se1, tu1, ki1, ma1, re1, kf1, L1, P1)) := by rw [← hinv, List.drop_eq_nil_of_le c40]; rfl
          refine ks_aload_n hκ 57 0 dX6_carryOut_57 rfl ?_
          refine ks_get hκ 58 dX6_carryOut_58 kf_X6_33 hOq rfl ?_
          refine ks_intcV0 hκ 61 dX6_carryOut_61 kc_X6_219 (c_Pad_empty hpad9) hDq rfl (by decide) (Nat.le_of_ble_eq_true rfl) (by decide) (by decide) (fun r61 xh3 hp61 => ?_)
          obtain ⟨-, hpad2, hF7⟩ := hp61
          obtain ⟨hks10, hfx10⟩ := hks9.pad hpad2 hF7
          replace hOq := hF7.at hOq (by omega)
          refine ks_pop hκ 64 dX6_carryOut_64 rfl ?_
          refine ks_aload_n hκ 65 0 dX6_carryOut_65 rfl ?_
          refine ks_iload_n hκ 66 1 dX6_carryOut_66 rfl ?_
          refine ks_intcV1 hκ 67 dX6_carryOut_67 kc_X6_52 (c_settled hks10) hOq rfl (by decide) (Nat.le_of_ble_eq_true rfl) (by decide) (by decide) (fun r67 xh4 hp67 => ?_)
          obtain ⟨hr2, hks11, hfx11⟩ := hp67
          refine ks_iret hκ 70 hRt dX6_carryOut_70 (by decide) (by decide) rfl ?_
          have hq : kCarQ (se, tu, ki, ma, re, kf, L, P) H l = (nI vj, (kCarry OS (se, tu, ki, ma, re, kf, L, P) 0).2, kKeep (nI vj) (se, tu, ki, ma, re, kf, L, P) H, []) := by
            unfold kCarQ
            rw [if_pos (by rw [← hr8]; exact c13), hOS, hfin]
          rw [hq, hfin]
          exact ⟨_, rfl, hr2, hks11, (hfx9.tr hfx10).tr hfx11⟩
        · skip
          have c40 := mt (nI_leI (by omega) (by omega)).mpr c40
          obtain ⟨vo, hvo⟩ : ∃ z, OS[vj]? = some z := ⟨_, List.getElem?_eq_getElem (by omega)⟩
          rw [kdrop hvo, kCarry] at hinv
          obtain ⟨hok1, n1, hn1, htu1⟩ := id hiv9
          have hof : kOne (se1, tu1, ki1, ma1, re1, kf1, L1, P1) (LA vj) (PA (vj * 3 + 0)) (PA (vj * 3 + 1)) (PA (vj * 3 + 2)) = kOne (se1, tu1, ki1, ma1, re1, kf1, L1, P1) vo.1 vo.2.1 vo.2.2.1 vo.2.2.2 := kOne_fit (hfits vj vo hvo)
          refine ks_aload_n hκ 43 0 dX6_carryOut_43 rfl ?_
          refine ks_iload_n hκ 44 1 dX6_carryOut_44 rfl ?_
          refine ks_intcV1 hκ 45 dX6_carryOut_45 kc_X6_227 (c_carryOneOut hks9 hor9 (by omega) hok1 htu1 (by omega)) hOq rfl (by decide) (Nat.le_of_ble_eq_true rfl) (by decide) (by decide) (fun r45 xh5 hp45 => ?_)
          rw [hof] at hp45
          replace hiv9 := kInv_one (s := vo.1) (a := vo.2.1) (b := vo.2.2.1) (c := vo.2.2.2) hks9.ki hiv9
          obtain ⟨hr45, hks9, hfx8, hF8⟩ := hp45
          replace hfx9 := hfx9.tr hfx8
          replace hor9 := hor9.fr hF8 (by omega)
          clear hOq hDq hRq
          obtain ⟨τ9, dp9, F9, G9, Q9, LT9, PT9, vs9, vn9, hOq, hnow9, -, hHq, -, -, hpad9, -, -, -, -⟩ := id hks9
          obtain ⟨DT9, hDq, -⟩ := id hpad9
          have hRq := hor9.1
          refine ks_if_lt hκ 48 57 dX6_carryOut_48 rfl (fun c48 => ?_) (fun c48 => ?_)
          · skip
            have hfin : kCarry OS (se, tu, ki, ma, re, kf, L, P) 0 = (vj, (kOne (se1, tu1, ki1, ma1, re1, kf1, L1, P1) vo.1 vo.2.1 vo.2.2.1 vo.2.2.2).2) := by rw [← hinv, if_pos (by rw [← hr45]; exact c48)]
            refine ks_aload_n hκ 57 0 dX6_carryOut_57 rfl ?_
            refine ks_get hκ 58 dX6_carryOut_58 kf_X6_33 hOq rfl ?_
            refine ks_intcV0 hκ 61 dX6_carryOut_61 kc_X6_219 (c_Pad_empty hpad9) hDq rfl (by decide) (Nat.le_of_ble_eq_true rfl) (by decide) (by decide) (fun r61 xh6 hp61 => ?_)
            obtain ⟨-, hpad2, hF7⟩ := hp61
            obtain ⟨hks10, hfx10⟩ := hks9.pad hpad2 hF7
            replace hOq := hF7.at hOq (by omega)
            refine ks_pop hκ 64 dX6_carryOut_64 rfl ?_
            refine ks_aload_n hκ 65 0 dX6_carryOut_65 rfl ?_
            refine ks_iload_n hκ 66 1 dX6_carryOut_66 rfl ?_
            refine ks_intcV1 hκ 67 dX6_carryOut_67 kc_X6_52 (c_settled hks10) hOq rfl (by decide) (Nat.le_of_ble_eq_true rfl) (by decide) (by decide) (fun r67 xh7 hp67 => ?_)
            obtain ⟨hr2, hks11, hfx11⟩ := hp67
            refine ks_iret hκ 70 hRt dX6_carryOut_70 (by decide) (by decide) rfl ?_
            have hq : kCarQ (se, tu, ki, ma, re, kf, L, P) H l = (nI vj, (kCarry OS (se, tu, ki, ma, re, kf, L, P) 0).2, kKeep (nI vj) (se, tu, ki, ma, re, kf, L, P) H, []) := by
              unfold kCarQ
              rw [if_pos (by rw [← hr8]; exact c13), hOS, hfin]
            rw [hq, hfin]
            exact ⟨_, rfl, hr2, hks11, (hfx9.tr hfx10).tr hfx11⟩
          · skip
            rw [if_neg (by rw [← hr45]; exact c48)] at hinv
            refine ks_iinc hκ 51 1 1 (nI (vj + 1)) [(1, _), (0, _)] dX6_carryOut_51 rfl (ks_inc1 _) (by decide) rfl ?_
            refine ks_goto hκ 54 32 dX6_carryOut_54 rfl ?_
            refine ks_pick [1, 0] [(0, _), (1, _)] rfl ?_
            exact ks_cv (ih (vj + 1) _ xh5 hks9 hfx9 hor9 (by omega) hiv9 hinv (by omega)) rfl rfl rfl
    refine ks_pick [1, 0] [(0, _), (1, _)] rfl ?_
    exact ks_cv (L32 _ 0 _ xh2 hks4 (hfx3.tr hfx4) hor4 (Nat.zero_le _) hiv rfl (Nat.lt_succ_self _)) rfl rfl rfl
  · skip
    refine ks_bipush hκ 16 (-3) dX6_carryOut_16 kq_bm3 ?_
    refine ks_iret hκ 18 hRt dX6_carryOut_18 (by decide) (by decide) rfl ?_
    have hq : kCarQ (se, tu, ki, ma, re, kf, L, P) H l = (-3, (se, tu, ki, ma, re, kf, L, P), H, l) := if_neg (by rw [← hr8]; exact c13)
    rw [hq]
    exact ⟨_, rfl, rfl, hks3, hfx3⟩
