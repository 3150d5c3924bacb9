
/-! P29: a leap that is tried -/
theorem q9Keep_ok {r : Int32} {x : kS} {H : List kS} (h : ¬ r < 0) : kKeep r x H = (x :: H).take 6 := if_neg h
theorem q9Keep_er {r : Int32} {x : kS} {H : List kS} (h : r < 0) : kKeep r x H = H := if_pos h
theorem q9RefV {σ : kS} {k : Nat} {x : Int32} : kRef σ k x = 0 ∨ (¬ kRef σ k x ≤ 0 ∧ ¬ nI 7 ≤ kRef σ k x) := by
  unfold kRef
  repeat' split
  all_goals first | exact Or.inl rfl | exact Or.inr ⟨by decide, by decide⟩
theorem q9Can {σ : kS} {k vs : Nat} {x : Int32} (hks : σ.2.2.2.2.2.1 0 k = nI vs) (hs : vs < 16) (hx : ¬ x = 0) : (nI vs + x < 0 → ¬ kRef σ k x = 0) ∧ (nI 16 ≤ nI vs + x → ¬ kRef σ k x = 0) ∧ (¬ nI vs + x < 0 → ¬ nI 16 ≤ nI vs + x → ((kReach σ k >>> ((nI vs + x) &&& 31)) &&& nI 1 = nI 1 ↔ kRef σ k x = 0)) := by
  have hb : kRef σ k x = 0 → ∃ t, t < 16 ∧ nI vs + x = nI t := fun h => by
    obtain ⟨t, ht, e⟩ := kRef_0 h hks hs
    exact ⟨t, ht, by rw [e, Int32.add_comm, Int32.sub_add_cancel]⟩
  refine ⟨fun h1 h2 => ?_, fun h1 h2 => ?_, fun h1 h2 => ?_⟩
  · obtain ⟨t, ht, e⟩ := hb h2
    rw [e] at h1
    exact nI_pos (by omega) h1
  · obtain ⟨t, ht, e⟩ := hb h2
    rw [e, nI_leI (by omega) (by omega)] at h1
    omega
  · rcases pk_ix (nI vs + x) (n := 16) (by omega) with q | q | ⟨j, q1, q2⟩
    · exact absurd q h1
    · exact absurd q h2
    · have e : x = nI j - nI vs := by rw [← q2, Int32.add_comm, Int32.add_sub_cancel]
      rw [q2, kbt_sh q1, kReach_bit (by omega), decide_eq_true q1, Bool.true_and]
      unfold kRcC
      rw [hks, ← e, decide_eq_true hx, Bool.true_and, decide_eq_true_eq]
theorem q9Bits (a b : Int32) : b = (a ||| (b &&& (a ^^^ (-1)))) &&& ((a &&& (b ^^^ (-1))) ^^^ (-1)) ∧ a &&& (b &&& (a ^^^ (-1))) = 0 ∧ (a &&& (b ^^^ (-1))) &&& (a ^^^ (-1)) = 0 := by
  refine ⟨kbt_ext (fun e he => ?_), kbt_ext (fun e he => ?_), kbt_ext (fun e he => ?_)⟩
  · rw [kbt_and, kbt_or, kbt_and, kbt_not he, kbt_not he, kbt_and, kbt_not he]
    cases kbt a e <;> cases kbt b e <;> rfl
  · rw [kbt_and, kbt_and, kbt_not he]
    have h0 : kbt (0 : Int32) e = false := kbt_0
    rw [h0]
    cases kbt a e <;> cases kbt b e <;> rfl
  · rw [kbt_and, kbt_and, kbt_not he, kbt_not he]
    have h0 : kbt (0 : Int32) e = false := kbt_0
    rw [h0]
    cases kbt a e <;> cases kbt b e <;> rfl
theorem q9Dir {s t : Nat} (hs : s < 16) (ht : t < 16) : (nI t - nI s ≤ 0 → 0 - (nI t - nI s) = nI (q9Ab s t)) ∧ (¬ nI t - nI s ≤ 0 → nI t - nI s = nI (q9Ab s t)) := by
  have q : ∀ s t : Fin 16, (nI t.val - nI s.val ≤ 0 → 0 - (nI t.val - nI s.val) = nI (q9Ab s.val t.val)) ∧ (¬ nI t.val - nI s.val ≤ 0 → nI t.val - nI s.val = nI (q9Ab s.val t.val)) := by decide +kernel
  exact q ⟨s, hs⟩ ⟨t, ht⟩
theorem q9Refused {σ : kS} {k : Nat} {x : Int32} (hk : k < σ.2.2.1) (hki : σ.2.2.1 ≤ 6) (hx : ¬ kIsL x = 0) (hr : ¬ kRef σ k x = 0) : kTry σ (nI k) x = (-5, σ) := by
  unfold kTry
  rw [if_neg (q9Has hk hki), if_neg hx, nI_clamp (by omega), if_pos hr]
/-- a leap that is made -/
theorem q9Made {σ : kS} {k vs vb vv : Nat} {x : Int32} (hJ : q9J σ) (hk : k < σ.2.2.1) (hx : ¬ kIsL x = 0) (e0 : σ.2.2.2.2.2.1 0 k = nI vs) (hs : vs < 16) (e1 : σ.2.2.2.2.2.1 1 k = nI vv) (e3 : σ.2.2.2.2.2.1 3 k = nI vb) (hr : kRef σ k x = 0) :
    ∃ (vt : Nat) (τ : kS), vt < 16 ∧ τ = kLeap σ k x ∧ kTry σ (nI k) x = (nI vt, τ) ∧ q9J τ ∧ nI vt = nI vs + x ∧ τ.2.2.2.2.2.1 0 k = nI vt ∧ (x ≤ 0 → 0 - x = nI (q9Ab vs vt)) ∧ (¬ x ≤ 0 → x = nI (q9Ab vs vt)) ∧ kIfN σ τ k 0 + kIfN σ τ k 1 = nI (q9Ab vs vt) ∧ τ.2.2.2.2.2.1 3 k = nI vb - kIfN σ τ k 0 + kIfN σ τ k 1 ∧ τ.2.2.2.2.2.1 1 k = nI vv - kCost x ∧ τ.2.2.2.1 = σ.2.2.2.1 + nI 1 ∧ τ.2.2.1 = σ.2.2.1 ∧ τ.1 1 = σ.1 1 ∧ ∀ m u : Nat, m < σ.2.2.1 → u < 16 → τ.2.2.2.2.2.1 0 m = nI u → ¬ (kBSet σ k >>> (nI m &&& 31)) &&& nI 1 = 0 → ¬ nI (q9Ab vt u) ≤ σ.1 1 → q9Ab vs u < q9Ab vt u → False := by
  have hki := hJ.1.2.2.2.2.2
  obtain ⟨vt, ht, ex⟩ := kRef_0 hr e0 hs
  have hsum : nI vt = nI vs + x := by rw [ex, Int32.add_comm, Int32.sub_add_cancel]
  have hcl : (σ.2.2.2.2.2.1 0 k).toNatClampNeg = vs ∧ (σ.2.2.2.2.2.1 0 k + x).toNatClampNeg = vt := ⟨by rw [e0]; exact nI_clamp (by omega), by rw [e0, ← hsum]; exact nI_clamp (by omega)⟩
  have hT : kTry σ (nI k) x = (nI vt, kLeap σ k x) := by
    unfold kTry
    rw [if_neg (q9Has hk hki), if_neg hx, nI_clamp (by omega), if_neg (fun z => z hr), ex, kLeap_0 e0, kU_s]
  have hJ2 : q9J (kLeap σ k x) := by
    have := q9J_try (x := nI k) (z := x) hJ
    rw [hT] at this
    exact this
  obtain ⟨n1, n2⟩ := q9OverN (k := k) (kWay vs vt) (σ.2.2.2.2.2.1, σ.2.2.2.2.2.2.1)
  have hN := q9Over_1 (k := k) (kWay vs vt) (σ.2.2.2.2.2.1, σ.2.2.2.2.2.2.1)
  have hkf : ∀ f, f ≠ 0 → f ≠ 1 → (kLeap σ k x).2.2.2.2.2.1 f = ((kWay vs vt).foldl (kOver k) (σ.2.2.2.2.2.1, σ.2.2.2.2.2.2.1)).1 f := fun f h0 h1 => by
    unfold kLeap
    simp only [hcl.1, hcl.2]
    rw [kPut_n h1, kPut_n h0]
  have hlen : (kWay vs vt).length = q9Ab vs vt := by rw [q9Way_len]; unfold q9Ab; omega
  rw [hlen] at n1
  have hdir := q9Dir hs ht
  rw [← ex] at hdir
  refine ⟨vt, kLeap σ k x, ht, rfl, hT, hJ2, hsum, by rw [ex, kLeap_0 e0, kU_s], hdir.1, hdir.2, ?_, ?_, ?_, rfl, rfl, rfl, fun m u hm hu e9 c1 c2 c3 => ?_⟩
  · unfold kIfN
    rw [hkf 4 (by decide) (by decide), hkf 5 (by decide) (by decide)]
    dsimp only at n1
    grind
  · unfold kIfN
    rw [hkf 4 (by decide) (by decide), hkf 5 (by decide) (by decide), hkf 3 (by decide) (by decide)]
    dsimp only at n2
    rw [e3] at n2
    grind
  · unfold kLeap
    simp only [hcl.1, hcl.2]
    rw [kPut_s, kU_s, hN]
    dsimp only
    rw [e1]
  · rw [q9Sh (by omega)] at c1
    by_cases q : kbt (kBSet σ k) m = true
    · rw [kBSet_bit (by omega) hki] at q
      simp only [Bool.and_eq_true, decide_eq_true_eq] at q
      obtain ⟨q1, q2, q3⟩ := q
      rw [ex, kLeap_0 e0, kU_n q2] at e9
      refine (q9Ref hr).2.2 ?_
      unfold kHeld
      rw [List.any_eq_true]
      refine ⟨m, List.mem_range.mpr hm, kHeldQ_i.mpr ⟨⟨q2, q3⟩, ?_, ?_⟩⟩
      · rw [e0, ← hsum, e9, q9AbI ht hu]
        exact Int32.not_le.mp c2
      · rw [e0, ← hsum, e9, q9AbI ht hu, q9AbI hs hu, nI_ltI (by unfold q9Ab; omega) (by unfold q9Ab; omega)]
        exact c3
    · rw [if_neg q] at c1
      exact c1 rfl

theorem q9IsL {x : Int32} (hx : ∃ a : Nat, 1 ≤ a ∧ a ≤ 6 ∧ (x = nI a ∨ x = 0 - nI a)) : ¬ kIsL x = 0 ∧ ¬ x = 0 := by
  obtain ⟨a, h1, h2, h3⟩ := hx
  rcases (show a = 1 ∨ a = 2 ∨ a = 3 ∨ a = 4 ∨ a = 5 ∨ a = 6 by omega) with rfl | rfl | rfl | rfl | rfl | rfl <;> rcases h3 with rfl | rfl <;> exact ⟨by decide, by decide⟩
set_option maxRecDepth 100000 in
set_option maxHeartbeats 4000000 in
theorem l_leaps {g : ks_G} {h : ks_H} {σ : kS} {H : List kS} {k : Nat} {x : Int32} (hks : q9K g h σ H) (hJ : q9J σ) (hk : k < σ.2.2.1) (hx : ∃ a : Nat, 1 ≤ a ∧ a ≤ 6 ∧ (x = nI a ∨ x = 0 - nI a)) : ks_Met g (yL_leaps, cL_leaps, 19, some .boolean) 6 32 1190 [ks_ref g 0, .int (nI k), .int x] h (ks_Ph (fun r h1 => r = nI 1 ∧ ∃ H1, q9K g h1 σ H1)) := by
  refine ks_intro (by decide) (Nat.le_of_ble_eq_true rfl) (fun κ hκ hRt => ?_)
  refine ks_cv (ls := [(0, ks_ref g 0), (1, .int (nI k)), (2, .int x)]) ?_ rfl rfl rfl
  have hX0 := hks.ob
  have hki : σ.2.2.1 ≤ 6 := hJ.1.2.2.2.2.2
  obtain ⟨hxl, hx0⟩ := q9IsL hx
  obtain ⟨vb, vs, e3, e6, e40, e4⟩ := hJ.2.2.1.1 k hk
  obtain ⟨vv, hvv, e1⟩ := hJ.2.2.1.2.1 k hk
  obtain ⟨vst, hvst, e0⟩ := hJ.1.1.1.1 k hk
  obtain ⟨hc1, hc2, hc3⟩ := q9Can e0 hvst hx0
  refine ks_aload_n hκ 0 0 dL_leaps_0 rfl ?_
  refine ks_iload_n hκ 1 1 dL_leaps_1 rfl ?_
  refine ks_iconst hκ 2 (nI 0) dL_leaps_2 kq_i0 ?_
  refine ks_pureV2 hκ 3 dL_leaps_3 kc_L_16 (w_of hks hJ hk (by decide) (nI vst) e0) hX0 rfl (by decide) (Nat.le_of_ble_eq_true rfl) (by decide) (by decide) ?_
  refine ks_istore_n hκ 6 3 [(3, _), (0, _), (1, _), (2, _)] dL_leaps_6 rfl (by decide) rfl ?_
  refine ks_aload_n hκ 7 1 dL_leaps_7 rfl ?_
  refine ks_iload_n hκ 8 2 dL_leaps_8 rfl ?_
  refine ks_iload_n hκ 9 3 dL_leaps_9 rfl ?_
  refine ks_pureV2 hκ 10 dL_leaps_10 kc_L_51 (w_why hks hJ hk hxl) hX0 rfl (by decide) (Nat.le_of_ble_eq_true rfl) (by decide) (by decide) ?_
  refine ks_istore hκ 13 4 [(4, _), (3, _), (0, _), (1, _), (2, _)] dL_leaps_13 (by decide) rfl ?_
  refine ks_aload_n hκ 15 2 dL_leaps_15 rfl ?_
  refine ks_iload_n hκ 16 3 dL_leaps_16 rfl ?_
  refine ks_bipush hκ 17 (nI 8) dL_leaps_17 kq_b8 ?_
  refine ks_pureV2 hκ 19 dL_leaps_19 kc_L_16 (w_of hks hJ hk (by decide) (kBSet σ k) rfl) hX0 rfl (by decide) (Nat.le_of_ble_eq_true rfl) (by decide) (by decide) ?_
  refine ks_istore hκ 22 5 [(5, _), (4, _), (3, _), (0, _), (1, _), (2, _)] dL_leaps_22 (by decide) rfl ?_
  refine ks_aload_n hκ 24 3 dL_leaps_24 rfl ?_
  refine ks_iload_n hκ 25 4 dL_leaps_25 rfl ?_
  refine ks_iconst hκ 26 (nI 3) dL_leaps_26 kq_i3 ?_
  refine ks_pureV2 hκ 27 dL_leaps_27 kc_L_16 (w_of hks hJ hk (by decide) (nI vb) e3) hX0 rfl (by decide) (Nat.le_of_ble_eq_true rfl) (by decide) (by decide) ?_
  refine ks_istore hκ 30 6 [(6, _), (5, _), (4, _), (3, _), (0, _), (1, _), (2, _)] dL_leaps_30 (by decide) rfl ?_
  refine ks_aload_n hκ 32 4 dL_leaps_32 rfl ?_
  refine ks_iload_n hκ 33 5 dL_leaps_33 rfl ?_
  refine ks_iconst hκ 34 (nI 1) dL_leaps_34 kq_i1 ?_
  refine ks_pureV2 hκ 35 dL_leaps_35 kc_L_16 (w_of hks hJ hk (by decide) (nI vv) e1) hX0 rfl (by decide) (Nat.le_of_ble_eq_true rfl) (by decide) (by decide) ?_
  refine ks_istore hκ 38 7 [(7, _), (6, _), (5, _), (4, _), (3, _), (0, _), (1, _), (2, _)] dL_leaps_38 (by decide) rfl ?_
  refine ks_aload_n hκ 40 5 dL_leaps_40 rfl ?_
  refine ks_iload_n hκ 41 6 dL_leaps_41 rfl ?_
  refine ks_iload_n hκ 42 7 dL_leaps_42 rfl ?_
  refine ks_iconst hκ 43 (nI 0) dL_leaps_43 kq_i0 ?_
  refine ks_intcV3 hκ 44 dL_leaps_44 kc_L_54 (w_ifLeapt hks hJ hk hxl (by decide)) hX0 rfl (by decide) (Nat.le_of_ble_eq_true rfl) (Nat.le_of_ble_eq_true rfl) (Nat.le_of_ble_eq_true rfl) (fun r44 xh1 hp44 => ?_)
  obtain ⟨rfl, hks⟩ := hp44
  have hX0 := hks.ob
  refine ks_istore hκ 47 8 [(8, _), (7, _), (6, _), (5, _), (4, _), (3, _), (0, _), (1, _), (2, _)] dL_leaps_47 (by decide) rfl ?_
  refine ks_aload_n hκ 49 6 dL_leaps_49 rfl ?_
  refine ks_iload_n hκ 50 7 dL_leaps_50 rfl ?_
  refine ks_iload_n hκ 51 8 dL_leaps_51 rfl ?_
  refine ks_iconst hκ 52 (nI 1) dL_leaps_52 kq_i1 ?_
  refine ks_intcV3 hκ 53 dL_leaps_53 kc_L_54 (w_ifLeapt hks hJ hk hxl (by decide)) hX0 rfl (by decide) (Nat.le_of_ble_eq_true rfl) (Nat.le_of_ble_eq_true rfl) (Nat.le_of_ble_eq_true rfl) (fun r53 xh2 hp53 => ?_)
  obtain ⟨rfl, hks⟩ := hp53
  have hX0 := hks.ob
  refine ks_istore hκ 56 9 [(9, _), (8, _), (7, _), (6, _), (5, _), (4, _), (3, _), (0, _), (1, _), (2, _)] dL_leaps_56 (by decide) rfl ?_
  refine ks_aload_n hκ 58 7 dL_leaps_58 rfl ?_
  refine ks_iload_n hκ 59 8 dL_leaps_59 rfl ?_
  refine ks_iload_n hκ 60 9 dL_leaps_60 rfl ?_
  refine ks_iconst hκ 61 (nI 2) dL_leaps_61 kq_i2 ?_
  refine ks_intcV3 hκ 62 dL_leaps_62 kc_L_54 (w_ifLeapt hks hJ hk hxl (by decide)) hX0 rfl (by decide) (Nat.le_of_ble_eq_true rfl) (Nat.le_of_ble_eq_true rfl) (Nat.le_of_ble_eq_true rfl) (fun r62 xh3 hp62 => ?_)
  obtain ⟨rfl, hks⟩ := hp62
  have hX0 := hks.ob
  refine ks_istore hκ 65 10 [(10, _), (9, _), (8, _), (7, _), (6, _), (5, _), (4, _), (3, _), (0, _), (1, _), (2, _)] dL_leaps_65 (by decide) rfl ?_
  refine ks_aload_n hκ 67 8 dL_leaps_67 rfl ?_
  refine ks_iload_n hκ 68 9 dL_leaps_68 rfl ?_
  refine ks_iload_n hκ 69 10 dL_leaps_69 rfl ?_
  refine ks_iconst hκ 70 (nI 3) dL_leaps_70 kq_i3 ?_
  refine ks_intcV3 hκ 71 dL_leaps_71 kc_L_54 (w_ifLeapt hks hJ hk hxl (by decide)) hX0 rfl (by decide) (Nat.le_of_ble_eq_true rfl) (Nat.le_of_ble_eq_true rfl) (Nat.le_of_ble_eq_true rfl) (fun r71 xh4 hp71 => ?_)
  obtain ⟨rfl, hks⟩ := hp71
  have hX0 := hks.ob
  refine ks_istore hκ 74 11 [(11, _), (10, _), (9, _), (8, _), (7, _), (6, _), (5, _), (4, _), (3, _), (0, _), (1, _), (2, _)] dL_leaps_74 (by decide) rfl ?_
  refine ks_aload_n hκ 76 9 dL_leaps_76 rfl ?_
  refine ks_bipush hκ 77 (nI 8) dL_leaps_77 kq_b8 ?_
  refine ks_pureV1 hκ 79 dL_leaps_79 kc_L_10 (w_count hks (by decide) σ.2.2.2.1 rfl) hX0 rfl (by decide) (Nat.le_of_ble_eq_true rfl) (by decide) (by decide) ?_
  refine ks_istore hκ 82 12 [(12, _), (11, _), (10, _), (9, _), (8, _), (7, _), (6, _), (5, _), (4, _), (3, _), (0, _), (1, _), (2, _)] dL_leaps_82 (by decide) rfl ?_
  refine ks_iload_n hκ 84 9 dL_leaps_84 rfl ?_
  refine ks_iload_n hκ 85 12 dL_leaps_85 rfl ?_
  refine ks_iadd hκ 86 dL_leaps_86 ?_
  refine ks_cut 120 (if kRef σ k x = 0 then nI 1 else nI 0) 1 [] rfl ?_ (fun J87 => ?_)
  · skip
    refine ks_istore hκ 120 13 [(13, _), (12, _), (11, _), (10, _), (9, _), (8, _), (7, _), (6, _), (5, _), (4, _), (3, _), (0, _), (1, _), (2, _)] dL_leaps_120 (by decide) rfl ?_
    refine ks_aload_n hκ 122 11 dL_leaps_122 rfl ?_
    refine ks_iload_n hκ 123 12 dL_leaps_123 rfl ?_
    refine ks_iload_n hκ 124 13 dL_leaps_124 rfl ?_
    refine ks_intcV2 hκ 125 dL_leaps_125 kc_L_58 (w_leap hks hJ) hX0 rfl (by decide) (Nat.le_of_ble_eq_true rfl) (Nat.le_of_ble_eq_true rfl) (Nat.le_of_ble_eq_true rfl) (fun r125 xh5 hp125 => ?_)
    obtain ⟨rfl, hks⟩ := hp125
    have hX0 := hks.ob
    refine ks_istore hκ 128 14 [(14, _), (13, _), (12, _), (11, _), (10, _), (9, _), (8, _), (7, _), (6, _), (5, _), (4, _), (3, _), (0, _), (1, _), (2, _)] dL_leaps_128 (by decide) rfl ?_
    refine ks_iload hκ 130 10 dL_leaps_130 rfl ?_
    refine ks_if_le hκ 132 188 dL_leaps_132 rfl (fun c132 => ?_) (fun c132 => ?_)
    · skip
      have hr : kRef σ k x = 0 := q9RefV.resolve_right (fun z => z.1 c132)
      obtain ⟨vt, τ, ht16, hτ, ht, hJ2, tsum, t0, tdn, tup, tlw, tball, tvim, tma, tki, tse, theld⟩ := q9Made hJ hk hxl e0 hvst e1 e3 hr
      simp only [ht, if_pos hr] at hks ⊢
      rw [← hτ]
      obtain ⟨tb1, tb2, tb3⟩ := q9Bits (kBSet σ k) (kBSet τ k)
      rw [q9Keep_ok (nI_pos (by omega)), List.take_succ_cons] at hks
      have hlt5 : (H.take 5).length ≤ 5 := by rw [List.length_take]; omega
      refine ks_iload hκ 188 1 dL_leaps_188 rfl ?_
      refine ks_if_eq hκ 190 326 dL_leaps_190 rfl (fun c190 => ?_) (fun c190 => ?_)
      · exfalso
        exact absurd c190 (by decide)
      · skip
        refine ks_iload hκ 193 0 dL_leaps_193 rfl ?_
        refine ks_iload_n hκ 195 11 dL_leaps_195 rfl ?_
        refine ks_iload_n hκ 196 14 dL_leaps_196 rfl ?_
        refine ks_iadd hκ 197 dL_leaps_197 ?_
        refine ks_icmp_ne hκ 198 326 dL_leaps_198 rfl (fun c198 => ?_) (fun c198 => ?_)
        · exfalso
          exact c198 tsum
        · skip
          refine ks_aload_n hκ 201 12 dL_leaps_201 rfl ?_
          refine ks_iload_n hκ 202 13 dL_leaps_202 rfl ?_
          refine ks_iconst hκ 203 (nI 0) dL_leaps_203 kq_i0 ?_
          refine ks_pureV2 hκ 204 dL_leaps_204 kc_L_16 (w_of hks hJ2 (by omega) (by decide) (nI vt) t0) hX0 rfl (by decide) (Nat.le_of_ble_eq_true rfl) (by decide) (by decide) ?_
          refine ks_iload hκ 207 0 dL_leaps_207 rfl ?_
          refine ks_icmp_ne hκ 209 326 dL_leaps_209 rfl (fun c209 => ?_) (fun c209 => ?_)
          · exfalso
            exact c209 rfl
          · skip
            refine ks_iload hκ 212 6 dL_leaps_212 rfl ?_
            refine ks_iload hκ 214 5 dL_leaps_214 rfl ?_
            refine ks_iadd hκ 216 dL_leaps_216 ?_
            refine ks_iload_n hκ 217 14 dL_leaps_217 rfl ?_
            refine ks_cut 227 (nI (q9Ab vst vt)) 1 [_] rfl ?_ (fun J218 => ?_)
            · skip
              refine ks_icmp_ne hκ 227 326 dL_leaps_227 rfl (fun c227 => ?_) (fun c227 => ?_)
              · exfalso
                exact c227 tlw
              · skip
                refine ks_aload_n hκ 230 12 dL_leaps_230 rfl ?_
                refine ks_iload_n hκ 231 13 dL_leaps_231 rfl ?_
                refine ks_iconst hκ 232 (nI 3) dL_leaps_232 kq_i3 ?_
                refine ks_pureV2 hκ 233 dL_leaps_233 kc_L_16 (w_of hks hJ2 (by omega) (by decide) (τ.2.2.2.2.2.1 3 k) rfl) hX0 rfl (by decide) (Nat.le_of_ble_eq_true rfl) (by decide) (by decide) ?_
                refine ks_iload hκ 236 8 dL_leaps_236 rfl ?_
                refine ks_iload hκ 238 6 dL_leaps_238 rfl ?_
                refine ks_isub hκ 240 dL_leaps_240 ?_
                refine ks_iload hκ 241 5 dL_leaps_241 rfl ?_
                refine ks_iadd hκ 243 dL_leaps_243 ?_
                refine ks_icmp_ne hκ 244 326 dL_leaps_244 rfl (fun c244 => ?_) (fun c244 => ?_)
                · exfalso
                  exact c244 tball
                · skip
                  refine ks_aload_n hκ 247 12 dL_leaps_247 rfl ?_
                  refine ks_iload_n hκ 248 13 dL_leaps_248 rfl ?_
                  refine ks_iconst hκ 249 (nI 1) dL_leaps_249 kq_i1 ?_
                  refine ks_pureV2 hκ 250 dL_leaps_250 kc_L_16 (w_of hks hJ2 (by omega) (by decide) (τ.2.2.2.2.2.1 1 k) rfl) hX0 rfl (by decide) (Nat.le_of_ble_eq_true rfl) (by decide) (by decide) ?_
                  refine ks_iload hκ 253 7 dL_leaps_253 rfl ?_
                  refine ks_iload_n hκ 255 14 dL_leaps_255 rfl ?_
                  refine ks_cut 267 (kCost x) 1 [_, _] rfl ?_ (fun J256 => ?_)
                  · skip
                    refine ks_isub hκ 267 dL_leaps_267 ?_
                    refine ks_icmp_ne hκ 268 326 dL_leaps_268 rfl (fun c268 => ?_) (fun c268 => ?_)
                    · exfalso
                      exact c268 tvim
                    · skip
                      refine ks_aload_n hκ 271 12 dL_leaps_271 rfl ?_
                      refine ks_iload_n hκ 272 13 dL_leaps_272 rfl ?_
                      refine ks_bipush hκ 273 (nI 8) dL_leaps_273 kq_b8 ?_
                      refine ks_pureV2 hκ 275 dL_leaps_275 kc_L_16 (w_of hks hJ2 (by omega) (by decide) (kBSet τ k) rfl) hX0 rfl (by decide) (Nat.le_of_ble_eq_true rfl) (by decide) (by decide) ?_
                      refine ks_iload hκ 278 9 dL_leaps_278 rfl ?_
                      refine ks_iload hκ 280 4 dL_leaps_280 rfl ?_
                      refine ks_ior hκ 282 dL_leaps_282 ?_
                      refine ks_iload hκ 283 3 dL_leaps_283 rfl ?_
                      refine ks_iconst hκ 285 (-1) dL_leaps_285 kq_im1 ?_
                      refine ks_ixor hκ 286 dL_leaps_286 ?_
                      refine ks_iand hκ 287 dL_leaps_287 ?_
                      refine ks_icmp_ne hκ 288 326 dL_leaps_288 rfl (fun c288 => ?_) (fun c288 => ?_)
                      · exfalso
                        exact c288 tb1
                      · skip
                        refine ks_iload hκ 291 9 dL_leaps_291 rfl ?_
                        refine ks_iload hκ 293 4 dL_leaps_293 rfl ?_
                        refine ks_iand hκ 295 dL_leaps_295 ?_
                        refine ks_if_ne hκ 296 326 dL_leaps_296 rfl (fun c296 => ?_) (fun c296 => ?_)
                        · exfalso
                          exact c296 tb2
                        · skip
                          refine ks_iload hκ 299 3 dL_leaps_299 rfl ?_
                          refine ks_iload hκ 301 9 dL_leaps_301 rfl ?_
                          refine ks_iconst hκ 303 (-1) dL_leaps_303 kq_im1 ?_
                          refine ks_ixor hκ 304 dL_leaps_304 ?_
                          refine ks_iand hκ 305 dL_leaps_305 ?_
                          refine ks_if_ne hκ 306 326 dL_leaps_306 rfl (fun c306 => ?_) (fun c306 => ?_)
                          · exfalso
                            exact c306 tb3
                          · skip
                            refine ks_aload_n hκ 309 12 dL_leaps_309 rfl ?_
                            refine ks_bipush hκ 310 (nI 8) dL_leaps_310 kq_b8 ?_
                            refine ks_pureV1 hκ 312 dL_leaps_312 kc_L_10 (w_count hks (by decide) (σ.2.2.2.1 + nI 1) tma) hX0 rfl (by decide) (Nat.le_of_ble_eq_true rfl) (by decide) (by decide) ?_
                            refine ks_iload hκ 315 2 dL_leaps_315 rfl ?_
                            refine ks_iconst hκ 317 (nI 1) dL_leaps_317 kq_i1 ?_
                            refine ks_iadd hκ 318 dL_leaps_318 ?_
                            refine ks_icmp_ne hκ 319 326 dL_leaps_319 rfl (fun c319 => ?_) (fun c319 => ?_)
                            · exfalso
                              exact c319 rfl
                            · skip
                              refine ks_iconst hκ 322 (nI 1) dL_leaps_322 kq_i1 ?_
                              refine ks_goto hκ 323 327 dL_leaps_323 rfl ?_
                              refine ks_istore hκ 327 15 [(15, _), (14, _), (13, _), (12, _), (11, _), (10, _), (9, _), (8, _), (7, _), (6, _), (5, _), (4, _), (3, _), (0, _), (1, _), (2, _)] dL_leaps_327 (by decide) rfl ?_
                              refine ks_iconst hκ 329 (nI 0) dL_leaps_329 kq_i0 ?_
                              refine ks_istore hκ 330 16 [(16, _), (15, _), (14, _), (13, _), (12, _), (11, _), (10, _), (9, _), (8, _), (7, _), (6, _), (5, _), (4, _), (3, _), (0, _), (1, _), (2, _)] dL_leaps_330 (by decide) rfl ?_
                              have L332 : ∀ (fuel : Nat) (vm : Nat) (hm : vm ≤ σ.2.2.1) (hfuel : σ.2.2.1 - vm < fuel), ks_K κ g 19 xh5 (0 + 0 + 0 + 0 + 0 + 16) (0 + 0 + 0 + 0 + 0 + 595) 332 [(0, ks_ref g 0), (3, .int (nI vst)), (5, .int (kBSet σ k)), (14, .int (nI vt)), (15, .int (nI 1)), (16, .int (nI vm))] [] := by
                                intro fuel
                                induction fuel with
                                | zero => intro vm  hm hfuel; exact absurd hfuel (Nat.not_lt_zero _)
                                | succ fuel ih =>
                                  intro vm  hm hfuel
                                  refine ks_iload hκ 332 5 dL_leaps_332 rfl ?_
                                  refine ks_aload_n hκ 334 0 dL_leaps_334 rfl ?_
                                  refine ks_iconst hκ 335 (nI 1) dL_leaps_335 kq_i1 ?_
                                  refine ks_pureV1 hκ 336 dL_leaps_336 kc_L_10 (w_count hks (by decide) (nI σ.2.2.1) (congrArg nI tki)) hX0 rfl (by decide) (Nat.le_of_ble_eq_true rfl) (by decide) (by decide) ?_
                                  refine ks_icmp_ge hκ 339 459 dL_leaps_339 rfl (fun c339 => ?_) (fun c339 => ?_)
                                  · skip
                                    have c339 := (nI_leI (by omega) (by omega)).mp c339
                                    refine ks_iload hκ 459 4 dL_leaps_459 rfl ?_
                                    refine ks_if_eq hκ 461 475 dL_leaps_461 rfl (fun c461 => ?_) (fun c461 => ?_)
                                    · skip
                                      exact absurd c461 (by decide)
                                    · skip
                                      refine ks_aload_n hκ 464 0 dL_leaps_464 rfl ?_
                                      refine ks_intcV0 hκ 465 dL_leaps_465 kc_L_61 (w_undo hks) hX0 rfl (by decide) (Nat.le_of_ble_eq_true rfl) (Nat.le_of_ble_eq_true rfl) (Nat.le_of_ble_eq_true rfl) (fun r465 xh6 hp465 => ?_)
                                      obtain ⟨rfl, hks⟩ := hp465
                                      have hX0 := hks.ob
                                      refine ks_if_lt hκ 468 475 dL_leaps_468 rfl (fun c468 => ?_) (fun c468 => ?_)
                                      · skip
                                        exact absurd c468 (ks_lt0 (by omega))
                                      · skip
                                        refine ks_iconst hκ 471 (nI 1) dL_leaps_471 kq_i1 ?_
                                        refine ks_goto hκ 472 476 dL_leaps_472 rfl ?_
                                        refine ks_iret hκ 476 hRt dL_leaps_476 (by decide) (by decide) (by decide) ?_
                                        exact ⟨_, rfl, rfl, _, hks⟩
                                  · skip
                                    have c339 := mt (nI_leI (by omega) (by omega)).mpr c339
                                    obtain ⟨vu, hvu, eu⟩ := hJ2.1.1.1.1 vm (by omega)
                                    have hab1 : q9Ab vt vu < 100 := by unfold q9Ab; omega
                                    have hab2 : q9Ab vst vu < 100 := by unfold q9Ab; omega
                                    refine ks_iload hκ 342 3 dL_leaps_342 rfl ?_
                                    refine ks_aload_n hκ 344 0 dL_leaps_344 rfl ?_
                                    refine ks_iload hκ 345 5 dL_leaps_345 rfl ?_
                                    refine ks_iconst hκ 347 (nI 0) dL_leaps_347 kq_i0 ?_
                                    refine ks_pureV2 hκ 348 dL_leaps_348 kc_L_16 (w_of hks hJ2 (k := vm) (by omega) (by decide) (nI vu) eu) hX0 rfl (by decide) (Nat.le_of_ble_eq_true rfl) (by decide) (by decide) ?_
                                    refine ks_cut 377 (nI (q9Ab vt vu)) 2 [] rfl ?_ (fun J351 => ?_)
                                    · skip
                                      refine ks_istore hκ 377 17 [(17, _), (0, _), (3, _), (5, _), (14, _), (15, _), (16, _)] dL_leaps_377 (by decide) rfl ?_
                                      refine ks_iload_n hκ 379 2 dL_leaps_379 rfl ?_
                                      refine ks_aload_n hκ 380 1 dL_leaps_380 rfl ?_
                                      refine ks_iload hκ 381 6 dL_leaps_381 rfl ?_
                                      refine ks_iconst hκ 383 (nI 0) dL_leaps_383 kq_i0 ?_
                                      refine ks_pureV2 hκ 384 dL_leaps_384 kc_L_16 (w_of hks hJ2 (k := vm) (by omega) (by decide) (nI vu) eu) hX0 rfl (by decide) (Nat.le_of_ble_eq_true rfl) (by decide) (by decide) ?_
                                      refine ks_cut 411 (nI (q9Ab vst vu)) 2 [] rfl ?_ (fun J387 => ?_)
                                      · skip
                                        refine ks_istore hκ 411 18 [(18, _), (17, _), (0, _), (3, _), (5, _), (14, _), (15, _), (16, _)] dL_leaps_411 (by decide) rfl ?_
                                        refine ks_iload hκ 413 6 dL_leaps_413 rfl ?_
                                        refine ks_if_eq hκ 415 450 dL_leaps_415 rfl (fun c415 => ?_) (fun c415 => ?_)
                                        · skip
                                          exact absurd c415 (by decide)
                                        · skip
                                          refine ks_iload hκ 418 4 dL_leaps_418 rfl ?_
                                          refine ks_iload hκ 420 7 dL_leaps_420 rfl ?_
                                          refine ks_ishr hκ 422 dL_leaps_422 ?_
                                          refine ks_iconst hκ 423 (nI 1) dL_leaps_423 kq_i1 ?_
                                          refine ks_iand hκ 424 dL_leaps_424 ?_
                                          refine ks_if_eq hκ 425 446 dL_leaps_425 rfl (fun c425 => ?_) (fun c425 => ?_)
                                          · skip
                                            refine ks_iconst hκ 446 (nI 1) dL_leaps_446 kq_i1 ?_
                                            refine ks_goto hκ 447 451 dL_leaps_447 rfl ?_
                                            refine ks_istore hκ 451 15 [(15, _), (18, _), (17, _), (0, _), (3, _), (5, _), (14, _), (16, _)] dL_leaps_451 (by decide) rfl ?_
                                            refine ks_iinc hκ 453 16 7 (nI (vm + 1)) [(16, _), (15, _), (18, _), (17, _), (0, _), (3, _), (5, _), (14, _)] dL_leaps_453 rfl (ks_inc1 _) (by decide) rfl ?_
                                            refine ks_goto hκ 456 332 dL_leaps_456 rfl ?_
                                            refine ks_pick [4, 5, 6, 7, 1, 0] [(0, _), (3, _), (5, _), (14, _), (15, _), (16, _)] rfl ?_
                                            exact ks_cv (ih (vm + 1)  (by omega) (by omega)) rfl rfl rfl
                                          · skip
                                            refine ks_iload hκ 428 1 dL_leaps_428 rfl ?_
                                            refine ks_aload_n hκ 430 2 dL_leaps_430 rfl ?_
                                            refine ks_bipush hκ 431 (nI 12) dL_leaps_431 kq_b12 ?_
                                            refine ks_pureV1 hκ 433 dL_leaps_433 kc_L_10 (w_count hks (by decide) (σ.1 1) tse) hX0 rfl (by decide) (Nat.le_of_ble_eq_true rfl) (by decide) (by decide) ?_
                                            refine ks_icmp_le hκ 436 446 dL_leaps_436 rfl (fun c436 => ?_) (fun c436 => ?_)
                                            · skip
                                              refine ks_iconst hκ 446 (nI 1) dL_leaps_446 kq_i1 ?_
                                              refine ks_goto hκ 447 451 dL_leaps_447 rfl ?_
                                              refine ks_istore hκ 451 15 [(15, _), (18, _), (17, _), (0, _), (3, _), (5, _), (14, _), (16, _)] dL_leaps_451 (by decide) rfl ?_
                                              refine ks_iinc hκ 453 16 7 (nI (vm + 1)) [(16, _), (15, _), (18, _), (17, _), (0, _), (3, _), (5, _), (14, _)] dL_leaps_453 rfl (ks_inc1 _) (by decide) rfl ?_
                                              refine ks_goto hκ 456 332 dL_leaps_456 rfl ?_
                                              refine ks_pick [4, 5, 6, 7, 1, 0] [(0, _), (3, _), (5, _), (14, _), (15, _), (16, _)] rfl ?_
                                              exact ks_cv (ih (vm + 1)  (by omega) (by omega)) rfl rfl rfl
                                            · skip
                                              refine ks_iload hκ 439 1 dL_leaps_439 rfl ?_
                                              refine ks_iload hκ 441 0 dL_leaps_441 rfl ?_
                                              refine ks_icmp_gt hκ 443 450 dL_leaps_443 rfl (fun c443 => ?_) (fun c443 => ?_)
                                              · exfalso
                                                have c443 := (nI_ltI (by omega) (by omega)).mp c443
                                                exact theld vm vu (by omega) hvu eu c425 c436 c443
                                              · skip
                                                have c443 := mt (nI_ltI (by omega) (by omega)).mpr c443
                                                refine ks_iconst hκ 446 (nI 1) dL_leaps_446 kq_i1 ?_
                                                refine ks_goto hκ 447 451 dL_leaps_447 rfl ?_
                                                refine ks_istore hκ 451 15 [(15, _), (18, _), (17, _), (0, _), (3, _), (5, _), (14, _), (16, _)] dL_leaps_451 (by decide) rfl ?_
                                                refine ks_iinc hκ 453 16 7 (nI (vm + 1)) [(16, _), (15, _), (18, _), (17, _), (0, _), (3, _), (5, _), (14, _)] dL_leaps_453 rfl (ks_inc1 _) (by decide) rfl ?_
                                                refine ks_goto hκ 456 332 dL_leaps_456 rfl ?_
                                                refine ks_pick [4, 5, 6, 7, 1, 0] [(0, _), (3, _), (5, _), (14, _), (15, _), (16, _)] rfl ?_
                                                exact ks_cv (ih (vm + 1)  (by omega) (by omega)) rfl rfl rfl
                                      · skip
                                        refine ks_icmp_le hκ 387 402 dL_leaps_387 rfl (fun c387 => ?_) (fun c387 => ?_)
                                        · skip
                                          have c387 := (nI_leI (by omega) (by omega)).mp c387
                                          refine ks_aload_n hκ 402 1 dL_leaps_402 rfl ?_
                                          refine ks_iload hκ 403 6 dL_leaps_403 rfl ?_
                                          refine ks_iconst hκ 405 (nI 0) dL_leaps_405 kq_i0 ?_
                                          refine ks_pureV2 hκ 406 dL_leaps_406 kc_L_16 (w_of hks hJ2 (k := vm) (by omega) (by decide) (nI vu) eu) hX0 rfl (by decide) (Nat.le_of_ble_eq_true rfl) (by decide) (by decide) ?_
                                          refine ks_iload_n hκ 409 2 dL_leaps_409 rfl ?_
                                          refine ks_isubN hκ 410 dL_leaps_410 (by omega) ?_
                                          exact ks_top _ (by rw [show q9Ab vst vu = vu - vst by unfold q9Ab; omega]) J387
                                        · skip
                                          have c387 := mt (nI_leI (by omega) (by omega)).mpr c387
                                          refine ks_iload_n hκ 390 2 dL_leaps_390 rfl ?_
                                          refine ks_aload_n hκ 391 1 dL_leaps_391 rfl ?_
                                          refine ks_iload hκ 392 6 dL_leaps_392 rfl ?_
                                          refine ks_iconst hκ 394 (nI 0) dL_leaps_394 kq_i0 ?_
                                          refine ks_pureV2 hκ 395 dL_leaps_395 kc_L_16 (w_of hks hJ2 (k := vm) (by omega) (by decide) (nI vu) eu) hX0 rfl (by decide) (Nat.le_of_ble_eq_true rfl) (by decide) (by decide) ?_
                                          refine ks_isubN hκ 398 dL_leaps_398 (by omega) ?_
                                          refine ks_goto hκ 399 411 dL_leaps_399 rfl ?_
                                          exact ks_top _ (by rw [show q9Ab vst vu = vst - vu by unfold q9Ab; omega]) J387
                                    · skip
                                      refine ks_icmp_le hκ 351 367 dL_leaps_351 rfl (fun c351 => ?_) (fun c351 => ?_)
                                      · skip
                                        have c351 := (nI_leI (by omega) (by omega)).mp c351
                                        refine ks_aload_n hκ 367 0 dL_leaps_367 rfl ?_
                                        refine ks_iload hκ 368 5 dL_leaps_368 rfl ?_
                                        refine ks_iconst hκ 370 (nI 0) dL_leaps_370 kq_i0 ?_
                                        refine ks_pureV2 hκ 371 dL_leaps_371 kc_L_16 (w_of hks hJ2 (k := vm) (by omega) (by decide) (nI vu) eu) hX0 rfl (by decide) (Nat.le_of_ble_eq_true rfl) (by decide) (by decide) ?_
                                        refine ks_iload hκ 374 3 dL_leaps_374 rfl ?_
                                        refine ks_isubN hκ 376 dL_leaps_376 (by omega) ?_
                                        exact ks_top _ (by rw [show q9Ab vt vu = vu - vt by unfold q9Ab; omega]) J351
                                      · skip
                                        have c351 := mt (nI_leI (by omega) (by omega)).mpr c351
                                        refine ks_iload hκ 354 3 dL_leaps_354 rfl ?_
                                        refine ks_aload_n hκ 356 0 dL_leaps_356 rfl ?_
                                        refine ks_iload hκ 357 5 dL_leaps_357 rfl ?_
                                        refine ks_iconst hκ 359 (nI 0) dL_leaps_359 kq_i0 ?_
                                        refine ks_pureV2 hκ 360 dL_leaps_360 kc_L_16 (w_of hks hJ2 (k := vm) (by omega) (by decide) (nI vu) eu) hX0 rfl (by decide) (Nat.le_of_ble_eq_true rfl) (by decide) (by decide) ?_
                                        refine ks_isubN hκ 363 dL_leaps_363 (by omega) ?_
                                        refine ks_goto hκ 364 377 dL_leaps_364 rfl ?_
                                        exact ks_top _ (by rw [show q9Ab vt vu = vt - vu by unfold q9Ab; omega]) J351
                              refine ks_pick [14, 13, 11, 2, 1, 0] [(0, _), (3, _), (5, _), (14, _), (15, _), (16, _)] rfl ?_
                              exact ks_cv (L332 _ 0  (Nat.zero_le _) (Nat.lt_succ_self _)) rfl rfl rfl
                  · skip
                    refine ks_if_le hκ 256 265 dL_leaps_256 rfl (fun c256 => ?_) (fun c256 => ?_)
                    · skip
                      refine ks_iload_n hκ 265 14 dL_leaps_265 rfl ?_
                      refine ks_ineg hκ 266 dL_leaps_266 ?_
                      exact ks_top _ (if_pos c256).symm J256
                    · skip
                      refine ks_iconst hκ 259 (nI 2) dL_leaps_259 kq_i2 ?_
                      refine ks_iload_n hκ 260 14 dL_leaps_260 rfl ?_
                      refine ks_imul hκ 261 dL_leaps_261 ?_
                      refine ks_goto hκ 262 267 dL_leaps_262 rfl ?_
                      exact ks_top _ (if_neg c256).symm J256
            · skip
              refine ks_if_le hκ 218 225 dL_leaps_218 rfl (fun c218 => ?_) (fun c218 => ?_)
              · skip
                refine ks_iload_n hκ 225 14 dL_leaps_225 rfl ?_
                refine ks_ineg hκ 226 dL_leaps_226 ?_
                exact ks_top _ (tdn c218) J218
              · skip
                refine ks_iload_n hκ 221 14 dL_leaps_221 rfl ?_
                refine ks_goto hκ 222 227 dL_leaps_222 rfl ?_
                exact ks_top _ (tup c218) J218
    · skip
      have hr : ¬ kRef σ k x = 0 := fun z => c132 (by rw [z]; decide)
      have hr7 := (q9RefV.resolve_left hr).2
      have ht := q9Refused hk hki hxl hr
      simp only [ht, if_neg hr] at hks ⊢
      refine ks_iload hκ 135 10 dL_leaps_135 rfl ?_
      refine ks_bipush hκ 137 (nI 7) dL_leaps_137 kq_b7 ?_
      refine ks_icmp_ge hκ 139 186 dL_leaps_139 rfl (fun c139 => ?_) (fun c139 => ?_)
      · exfalso
        exact hr7 c139
      · skip
        refine ks_iload hκ 142 0 dL_leaps_142 rfl ?_
        refine ks_bipush hκ 144 (-5) dL_leaps_144 kq_bm5 ?_
        refine ks_icmp_ne hκ 146 186 dL_leaps_146 rfl (fun c146 => ?_) (fun c146 => ?_)
        · exfalso
          exact c146 rfl
        · skip
          refine ks_iload hκ 149 6 dL_leaps_149 rfl ?_
          refine ks_iload hκ 151 0 dL_leaps_151 rfl ?_
          refine ks_icmp_ne hκ 153 186 dL_leaps_153 rfl (fun c153 => ?_) (fun c153 => ?_)
          · exfalso
            exact c153 rfl
          · skip
            refine ks_iload hκ 156 5 dL_leaps_156 rfl ?_
            refine ks_iload hκ 158 0 dL_leaps_158 rfl ?_
            refine ks_icmp_ne hκ 160 186 dL_leaps_160 rfl (fun c160 => ?_) (fun c160 => ?_)
            · exfalso
              exact c160 rfl
            · skip
              refine ks_iload hκ 163 4 dL_leaps_163 rfl ?_
              refine ks_iload hκ 165 0 dL_leaps_165 rfl ?_
              refine ks_icmp_ne hκ 167 186 dL_leaps_167 rfl (fun c167 => ?_) (fun c167 => ?_)
              · exfalso
                exact c167 rfl
              · skip
                refine ks_iload hκ 170 3 dL_leaps_170 rfl ?_
                refine ks_iload hκ 172 0 dL_leaps_172 rfl ?_
                refine ks_icmp_ne hκ 174 186 dL_leaps_174 rfl (fun c174 => ?_) (fun c174 => ?_)
                · exfalso
                  exact c174 rfl
                · skip
                  refine ks_iload hκ 177 1 dL_leaps_177 rfl ?_
                  refine ks_if_ne hκ 179 186 dL_leaps_179 rfl (fun c179 => ?_) (fun c179 => ?_)
                  · exfalso
                    exact c179 rfl
                  · skip
                    refine ks_iconst hκ 182 (nI 1) dL_leaps_182 kq_i1 ?_
                    refine ks_goto hκ 183 187 dL_leaps_183 rfl ?_
                    refine ks_iret hκ 187 hRt dL_leaps_187 (by decide) (by decide) (by decide) ?_
                    exact ⟨_, rfl, rfl, _, hks⟩
  · skip
    refine ks_if_lt hκ 87 119 dL_leaps_87 rfl (fun c87 => ?_) (fun c87 => ?_)
    · skip
      refine ks_iconst hκ 119 (nI 0) dL_leaps_119 kq_i0 ?_
      exact ks_top _ (if_neg (hc1 c87)).symm J87
    · skip
      refine ks_iload_n hκ 90 9 dL_leaps_90 rfl ?_
      refine ks_iload_n hκ 91 12 dL_leaps_91 rfl ?_
      refine ks_iadd hκ 92 dL_leaps_92 ?_
      refine ks_bipush hκ 93 (nI 16) dL_leaps_93 kq_b16 ?_
      refine ks_icmp_ge hκ 95 119 dL_leaps_95 rfl (fun c95 => ?_) (fun c95 => ?_)
      · skip
        refine ks_iconst hκ 119 (nI 0) dL_leaps_119 kq_i0 ?_
        exact ks_top _ (if_neg (hc2 c95)).symm J87
      · skip
        refine ks_aload_n hκ 98 10 dL_leaps_98 rfl ?_
        refine ks_iload_n hκ 99 11 dL_leaps_99 rfl ?_
        refine ks_bipush hκ 100 (nI 9) dL_leaps_100 kq_b9 ?_
        refine ks_pureV2 hκ 102 dL_leaps_102 kc_L_16 (w_of hks hJ hk (by decide) (kReach σ k) rfl) hX0 rfl (by decide) (Nat.le_of_ble_eq_true rfl) (by decide) (by decide) ?_
        refine ks_iload_n hκ 105 9 dL_leaps_105 rfl ?_
        refine ks_iload_n hκ 106 12 dL_leaps_106 rfl ?_
        refine ks_iadd hκ 107 dL_leaps_107 ?_
        refine ks_ishr hκ 108 dL_leaps_108 ?_
        refine ks_iconst hκ 109 (nI 1) dL_leaps_109 kq_i1 ?_
        refine ks_iand hκ 110 dL_leaps_110 ?_
        refine ks_iconst hκ 111 (nI 1) dL_leaps_111 kq_i1 ?_
        refine ks_icmp_ne hκ 112 119 dL_leaps_112 rfl (fun c112 => ?_) (fun c112 => ?_)
        · skip
          refine ks_iconst hκ 119 (nI 0) dL_leaps_119 kq_i0 ?_
          exact ks_top _ (if_neg (fun z => c112 ((hc3 c87 c95).mpr z))).symm J87
        · skip
          refine ks_iconst hκ 115 (nI 1) dL_leaps_115 kq_i1 ?_
          refine ks_goto hκ 116 120 dL_leaps_116 rfl ?_
          exact ks_top _ (if_pos ((hc3 c87 c95).mp c112)).symm J87
