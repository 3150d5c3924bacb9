
/-! P29: an act -/
def q9Ak (x : Int32) : Nat := q9Lo (x >>> (nI 4 &&& 31)) 4
def q9By (x y : Int32) : Int32 := if q9Lo (x >>> (nI 7 &&& 31)) 6 = 0 then nI (q9Lo y 31) - nI 15 else nI (q9Lo y 8) - nI 4
def q9Sv (k : Nat) (y : Int32) : Int32 := if k = 0 then nI (1 + q9Lo y 8) else if k = 1 then nI (q9Lo y 16) else if k = 2 then nI (1 + q9Lo y 12) else nI (2 + q9Lo y 59)
def q9AcN (σ : kS) (x y : Int32) : Nat → Int32 × kS
  | 0 => kAdd σ (nI (q9Lo y 16))
  | 1 => kChg σ (nI (q9Ak x)) (q9Sv (q9Ak x) y)
  | 2 => kNap σ (nI (q9Ak x))
  | 3 => kSnip σ (nI (q9Lo y 15)) (nI (q9Ak x))
  | 4 => kPlan σ (nI (1 + q9Lo (y >>> (nI 4 &&& 31)) 8)) (nI (q9Ak x)) (q9By x y)
  | 5 => kPlan σ (nI (1 + q9Lo (y >>> (nI 4 &&& 31)) 8)) (nI (q9Ak x)) (q9By x y)
  | 6 => kPassT σ (nI (1 + q9Lo y 4))
  | _ => kTry σ (nI (q9Ak x)) (q9By x y)
def q9Ac (σ : kS) (x y : Int32) : Int32 × kS := q9AcN σ x y (q9Lo x 14)
theorem q9AcN_d {σ : kS} {x y : Int32} {c : Nat} (h : 7 ≤ c) : q9AcN σ x y c = kTry σ (nI (q9Ak x)) (q9By x y) := by
  obtain ⟨d, rfl⟩ : ∃ d, c = d + 7 := ⟨c - 7, by omega⟩
  rfl
/-- an error changes nothing; a change keeps what holds of every state, and the turn is few turns later -/
theorem q9Ac_all {σ : kS} {x y : Int32} {n0 : Nat} (hJ : q9J σ) (hn : σ.2.1 = nI n0) : ((q9Ac σ x y).1 < 0 → (q9Ac σ x y).2 = σ) ∧ q9J (q9Ac σ x y).2 ∧ σ.2.2.1 ≤ (q9Ac σ x y).2.2.2.1 ∧ ∃ n1, (q9Ac σ x y).2.2.1 = nI n1 ∧ n1 ≤ n0 + 4 := by
  unfold q9Ac
  have hlt : q9Lo x 14 < 14 := q9Lo_lt (by decide)
  have hki := hJ.1.2.2.2.2.2
  generalize q9Lo x 14 = c at hlt
  have same : ∀ (q : Int32 × kS), q.2 = σ → q9J q.2 → (q.1 < 0 → q.2 = σ) ∧ q9J q.2 ∧ σ.2.2.1 ≤ q.2.2.2.1 ∧ ∃ n1, q.2.2.1 = nI n1 ∧ n1 ≤ n0 + 4 := fun q e j => ⟨fun _ => e, j, by rw [e]; exact Nat.le_refl _, n0, by rw [e]; exact hn, by omega⟩
  have made : ∀ (q : Int32 × kS), ¬ q.1 < 0 → q9J q.2 → q.2.2.2.1 = σ.2.2.1 → q.2.2.1 = σ.2.1 → (q.1 < 0 → q.2 = σ) ∧ q9J q.2 ∧ σ.2.2.1 ≤ q.2.2.2.1 ∧ ∃ n1, q.2.2.1 = nI n1 ∧ n1 ≤ n0 + 4 := fun q e j e2 e3 => ⟨fun z => absurd z e, j, by rw [e2]; exact Nat.le_refl _, n0, by rw [e3]; exact hn, by omega⟩
  have hPlan : ∀ w a b, (((kPlan σ w a b).1 < 0 → (kPlan σ w a b).2 = σ) ∧ q9J (kPlan σ w a b).2 ∧ σ.2.2.1 ≤ (kPlan σ w a b).2.2.2.1 ∧ ∃ n1, (kPlan σ w a b).2.2.1 = nI n1 ∧ n1 ≤ n0 + 4) := fun w a b => by
    have j := q9J_plan (w := w) (x := a) (z := b) hJ
    by_cases hv : kPlE σ w a b = 0
    · obtain ⟨i, hi, e1, hl, q1, q2, e2⟩ := kPlE_ok hki hv
      refine made _ ?_ j ?_ ?_
      · rw [e2]; exact nI_pos (by omega)
      · rw [e2]
      · rw [e2]
    · exact same _ (by rw [(kPlE_er hv).1]) j
  have hTry : ∀ a b, (((kTry σ a b).1 < 0 → (kTry σ a b).2 = σ) ∧ q9J (kTry σ a b).2 ∧ σ.2.2.1 ≤ (kTry σ a b).2.2.2.1 ∧ ∃ n1, (kTry σ a b).2.2.1 = nI n1 ∧ n1 ≤ n0 + 4) := fun a b => by
    have j := q9J_try (x := a) (z := b) hJ
    by_cases hv : kLpE σ a b = 0
    · obtain ⟨i, s, t, hi, e1, hs, ht, hs2, e2, hr, e3⟩ := kLpE_ok hki hJ.1.1.1 hv
      refine made _ ?_ j ?_ ?_
      · rw [e3]; exact nI_pos (by omega)
      · rw [e3]; rfl
      · rw [e3]; rfl
    · exact same _ (by rw [(kLpE_er hv).1]) j
  rcases (show c = 0 ∨ c = 1 ∨ c = 2 ∨ c = 3 ∨ c = 4 ∨ c = 5 ∨ c = 6 ∨ 7 ≤ c by omega) with rfl | rfl | rfl | rfl | rfl | rfl | rfl | h7
  · show ((kAdd σ (nI (q9Lo y 16))).1 < 0 → _) ∧ _
    have j := q9J_add (x := nI (q9Lo y 16)) hJ
    by_cases hv : kKitE σ (nI (q9Lo y 16)) = 0
    · obtain ⟨e1, e2⟩ := kKitE_ok hv
      refine ⟨fun z => ?_, j, ?_, n0, ?_, by omega⟩
      · rw [e1] at z; exact absurd z (nI_pos (by omega))
      · show _ ≤ (kAdd σ (nI (q9Lo y 16))).2.2.2.1
        rw [e1]; exact Nat.le_succ _
      · show (kAdd σ (nI (q9Lo y 16))).2.2.1 = _
        rw [e1]; exact hn
    · exact same _ (by rw [(kKitE_er hv).1]) j
  · show ((kChg σ (nI (q9Ak x)) (q9Sv (q9Ak x) y)).1 < 0 → _) ∧ _
    have j := q9J_chg (x := nI (q9Ak x)) (z := q9Sv (q9Ak x) y) hJ
    by_cases hv : kVal (nI (q9Ak x)) (q9Sv (q9Ak x) y) = 0
    · exact same _ (by rw [kVal_er hv]) j
    · obtain ⟨i, hi, e1, e2⟩ := kVal_ok (σ := σ) hv
      obtain ⟨n, hn2, e3⟩ := hJ.1.2.2.1 i hi
      refine made _ ?_ j ?_ ?_
      · rw [e2, e3]; exact nI_pos (by omega)
      · rw [e2]
      · rw [e2]
  · show ((kNap σ (nI (q9Ak x))).1 < 0 → _) ∧ _
    have j := q9J_nap (x := nI (q9Ak x)) hJ
    by_cases hv : kNapE σ (nI (q9Ak x)) = 0
    · obtain ⟨i, hi, e1, e2⟩ := kNapE_ok hki hv
      obtain ⟨n, hn2, e3⟩ := hJ.1.2.2.1 2 (by decide)
      obtain ⟨n2, hn3, e4⟩ := hJ.1.1.2
      refine made _ ?_ j ?_ ?_
      · rw [e2, e3, e4, nI_add]; exact nI_pos (by omega)
      · rw [e2]
      · rw [e2]
    · exact same _ (by rw [(kNapE_er hv).1]) j
  · show ((kSnip σ (nI (q9Lo y 15)) (nI (q9Ak x))).1 < 0 → _) ∧ _
    have j := q9J_snip (x := nI (q9Lo y 15)) (z := nI (q9Ak x)) hJ
    by_cases hv : kSnE σ (nI (q9Lo y 15)) (nI (q9Ak x)) = 0
    · obtain ⟨e, i, he, e1, hi, e2, e3⟩ := kSnE_ok hki hv
      refine ⟨fun z => ?_, j, ?_, n0, ?_, by omega⟩
      · obtain ⟨b, s, q1, q2, q3, q4⟩ := hJ.2.2.1.1 i hi
        have q5 := (q9Cut_k (e := e) (j := i) σ.2.2.2.2.2.2.1).1
        rw [e3] at z; exact absurd z (nI_pos (by omega))
      · show _ ≤ (kSnip σ (nI (q9Lo y 15)) (nI (q9Ak x))).2.2.2.1
        rw [e3]; exact Nat.le_refl _
      · show (kSnip σ (nI (q9Lo y 15)) (nI (q9Ak x))).2.2.1 = _
        rw [e3]; exact hn
    · exact same _ (by rw [(kSnE_er hv).1]) j
  · exact hPlan _ _ _
  · exact hPlan _ _ _
  · show ((kPassT σ (nI (1 + q9Lo y 4))).1 < 0 → _) ∧ _
    have j := q9J_pass (x := nI (1 + q9Lo y 4)) hJ
    have h4 : q9Lo y 4 < 4 := q9Lo_lt (by decide)
    by_cases hv : kPasE σ (nI (1 + q9Lo y 4)) = 0
    · obtain ⟨n, hn1, hn2, e1, q, e2⟩ := kPasE_ok hv
      have e3 : 1 + q9Lo y 4 = n := (nI_eq (by omega) (by omega)).mp e1
      have hle := kPass_le n σ 0
      refine ⟨fun z => ?_, j, ?_, n0 + n, ?_, by omega⟩
      · rw [e2] at z; exact absurd z (nI_pos (by omega))
      · show _ ≤ (kPassT σ (nI (1 + q9Lo y 4))).2.2.2.1
        rw [e2]; exact Nat.le_of_eq (kPass_ki n σ 0 hJ.1.1.1).symm
      · show (kPassT σ (nI (1 + q9Lo y 4))).2.2.1 = _
        rw [e2]; exact kPass_tu n σ 0 n0 hJ.1.1.1 hn
    · exact same _ (by rw [(kPasE_er hv).1]) j
  · rw [q9AcN_d h7]
    exact hTry _ _
set_option maxRecDepth 100000 in
set_option maxHeartbeats 4000000 in
theorem l_act {g : ks_G} {h : ks_H} {σ : kS} {H : List kS} {x y : Int32} (hks : q9K g h σ H) (hJ : q9J σ) : ks_Met g (yL_act, cL_act, 6, some .int) 6 16 595 [ks_ref g 0, .int x, .int y] h (ks_Ph (q9C g σ H (q9Ac σ x y))) := by
  refine ks_intro (by decide) (Nat.le_of_ble_eq_true rfl) (fun κ hκ hRt => ?_)
  refine ks_cv (ls := [(0, ks_ref g 0), (1, .int x), (2, .int y)]) ?_ rfl rfl rfl
  have hX0 := hks.ob
  have hb0 : q9Lo (x >>> (nI 4 &&& 31)) 4 < 4 := q9Lo_lt (by decide)
  have hb1 : q9Lo (x >>> (nI 7 &&& 31)) 6 < 6 := q9Lo_lt (by decide)
  have hb2 : q9Lo y 31 < 31 := q9Lo_lt (by decide)
  have hb3 : q9Lo y 8 < 8 := q9Lo_lt (by decide)
  have hb4 : q9Lo x 14 < 14 := q9Lo_lt (by decide)
  have hb5 : q9Lo y 16 < 16 := q9Lo_lt (by decide)
  have hb6 : q9Lo y 12 < 12 := q9Lo_lt (by decide)
  have hb7 : q9Lo y 59 < 59 := q9Lo_lt (by decide)
  have hb8 : q9Lo y 15 < 15 := q9Lo_lt (by decide)
  have hb9 : q9Lo y 4 < 4 := q9Lo_lt (by decide)
  have hb10 : q9Lo (y >>> (nI 4 &&& 31)) 8 < 8 := q9Lo_lt (by decide)
  refine ks_iload_n hκ 0 1 dL_act_0 rfl ?_
  refine ks_iconst hκ 1 (nI 4) dL_act_1 kq_i4 ?_
  refine ks_ishr hκ 2 dL_act_2 ?_
  refine ks_iconst hκ 3 (nI 4) dL_act_3 kq_i4 ?_
  refine ks_pureS2 hκ 4 dL_act_4 kc_L_78 (l_low (v := (x >>> (nI 4 &&& 31))) (n := 4) (by decide) (by decide)) (by decide) (Nat.le_of_ble_eq_true rfl) (Nat.le_of_ble_eq_true rfl) (Nat.le_of_ble_eq_true rfl) ?_
  refine ks_istore_n hκ 7 3 [(3, _), (0, _), (1, _), (2, _)] dL_act_7 rfl (by decide) rfl ?_
  refine ks_iload_n hκ 8 2 dL_act_8 rfl ?_
  refine ks_bipush hκ 9 (nI 7) dL_act_9 kq_b7 ?_
  refine ks_ishr hκ 11 dL_act_11 ?_
  refine ks_bipush hκ 12 (nI 6) dL_act_12 kq_b6 ?_
  refine ks_pureS2 hκ 14 dL_act_14 kc_L_78 (l_low (v := (x >>> (nI 7 &&& 31))) (n := 6) (by decide) (by decide)) (by decide) (Nat.le_of_ble_eq_true rfl) (Nat.le_of_ble_eq_true rfl) (Nat.le_of_ble_eq_true rfl) ?_
  refine ks_cut 40 (q9By x y) 1 [] rfl ?_ (fun J17 => ?_)
  · skip
    refine ks_istore hκ 40 4 [(4, _), (3, _), (0, _), (1, _), (2, _)] dL_act_40 (by decide) rfl ?_
    refine ks_iload_n hκ 42 3 dL_act_42 rfl ?_
    refine ks_bipush hκ 43 (nI 14) dL_act_43 kq_b14 ?_
    refine ks_pureS2 hκ 45 dL_act_45 kc_L_78 (l_low (v := x) (n := 14) (by decide) (by decide)) (by decide) (Nat.le_of_ble_eq_true rfl) (Nat.le_of_ble_eq_true rfl) (Nat.le_of_ble_eq_true rfl) ?_
    rcases ks_sw (nI (q9Lo x 14)) 0 6 (by decide) with hs48 | hs48 | ⟨sj48, ha48, hb48, hs48⟩
    · skip
      have hc : 7 ≤ q9Lo x 14 := by rw [nI_toInt (by omega)] at hs48; omega
      refine ks_tableOut hκ 48 223 dL_act_48 (Or.inl hs48) rfl ?_
      refine ks_aload_n hκ 223 2 dL_act_223 rfl ?_
      refine ks_iload_n hκ 224 1 dL_act_224 rfl ?_
      refine ks_iload hκ 225 0 dL_act_225 rfl ?_
      refine ks_intcV2 hκ 227 dL_act_227 kc_L_58 (w_leap hks hJ) hX0 rfl (by decide) (Nat.le_of_ble_eq_true rfl) (Nat.le_of_ble_eq_true rfl) (Nat.le_of_ble_eq_true rfl) (fun r227 xh1 hp227 => ?_)
      have hpp := hp227
      refine ks_iret hκ 230 hRt dL_act_230 (by decide) (by decide) rfl ?_
      refine ⟨_, rfl, ?_⟩
      unfold q9Ac
      rw [q9AcN_d hc]
      exact hpp
    · skip
      have hc : 7 ≤ q9Lo x 14 := by rw [nI_toInt (by omega)] at hs48; omega
      refine ks_tableOut hκ 48 223 dL_act_48 (Or.inr hs48) rfl ?_
      refine ks_aload_n hκ 223 2 dL_act_223 rfl ?_
      refine ks_iload_n hκ 224 1 dL_act_224 rfl ?_
      refine ks_iload hκ 225 0 dL_act_225 rfl ?_
      refine ks_intcV2 hκ 227 dL_act_227 kc_L_58 (w_leap hks hJ) hX0 rfl (by decide) (Nat.le_of_ble_eq_true rfl) (Nat.le_of_ble_eq_true rfl) (Nat.le_of_ble_eq_true rfl) (fun r227 xh2 hp227 => ?_)
      have hpp := hp227
      refine ks_iret hκ 230 hRt dL_act_230 (by decide) (by decide) rfl ?_
      refine ⟨_, rfl, ?_⟩
      unfold q9Ac
      rw [q9AcN_d hc]
      exact hpp
    · skip
      rcases (show sj48 = 0 ∨ sj48 = 1 ∨ sj48 = 2 ∨ sj48 = 3 ∨ sj48 = 4 ∨ sj48 = 5 ∨ sj48 = 6 by omega) with rfl | rfl | rfl | rfl | rfl | rfl | rfl
      · skip
        have hc : q9Lo x 14 = 0 := (nI_eq (by omega) (by omega)).mp hs48
        refine ks_top (nI 0) hs48 ?_
        refine ks_tableIn hκ 48 92 dL_act_48 (off := 44) (by decide) (by decide) (by decide) rfl ?_
        refine ks_aload_n hκ 92 2 dL_act_92 rfl ?_
        refine ks_iload_n hκ 93 4 dL_act_93 rfl ?_
        refine ks_bipush hκ 94 (nI 16) dL_act_94 kq_b16 ?_
        refine ks_pureS2 hκ 96 dL_act_96 kc_L_78 (l_low (v := y) (n := 16) (by decide) (by decide)) (by decide) (Nat.le_of_ble_eq_true rfl) (Nat.le_of_ble_eq_true rfl) (Nat.le_of_ble_eq_true rfl) ?_
        refine ks_intcV1 hκ 99 dL_act_99 kc_L_81 (w_kitten hks) hX0 rfl (by decide) (Nat.le_of_ble_eq_true rfl) (Nat.le_of_ble_eq_true rfl) (Nat.le_of_ble_eq_true rfl) (fun r99 xh3 hp99 => ?_)
        have hpp := hp99
        refine ks_iret hκ 102 hRt dL_act_102 (by decide) (by decide) rfl ?_
        refine ⟨_, rfl, ?_⟩
        unfold q9Ac
        rw [hc]
        exact hpp
      · skip
        have hc : q9Lo x 14 = 1 := (nI_eq (by omega) (by omega)).mp hs48
        refine ks_top (nI 1) hs48 ?_
        refine ks_tableIn hκ 48 103 dL_act_48 (off := 55) (by decide) (by decide) (by decide) rfl ?_
        refine ks_iload_n hκ 103 3 dL_act_103 rfl ?_
        refine ks_iconst hκ 104 (nI 4) dL_act_104 kq_i4 ?_
        refine ks_ishr hκ 105 dL_act_105 ?_
        refine ks_iconst hκ 106 (nI 4) dL_act_106 kq_i4 ?_
        refine ks_pureS2 hκ 107 dL_act_107 kc_L_78 (l_low (v := (x >>> (nI 4 &&& 31))) (n := 4) (by decide) (by decide)) (by decide) (Nat.le_of_ble_eq_true rfl) (Nat.le_of_ble_eq_true rfl) (Nat.le_of_ble_eq_true rfl) ?_
        refine ks_istore hκ 110 5 [(5, _), (4, _), (3, _), (0, _), (1, _), (2, _)] dL_act_110 (by decide) rfl ?_
        refine ks_aload_n hκ 112 3 dL_act_112 rfl ?_
        refine ks_iload hκ 113 0 dL_act_113 rfl ?_
        refine ks_iload hκ 115 0 dL_act_115 rfl ?_
        refine ks_cut 171 (q9Sv (q9Lo (x >>> (nI 4 &&& 31)) 4) y) 1 [_, _] rfl ?_ (fun J117 => ?_)
        · skip
          refine ks_intcV2 hκ 171 dL_act_171 kc_L_84 (w_set hks) hX0 rfl (by decide) (Nat.le_of_ble_eq_true rfl) (Nat.le_of_ble_eq_true rfl) (Nat.le_of_ble_eq_true rfl) (fun r171 xh4 hp171 => ?_)
          have hpp := hp171
          refine ks_iret hκ 174 hRt dL_act_174 (by decide) (by decide) rfl ?_
          refine ⟨_, rfl, ?_⟩
          unfold q9Ac
          rw [hc]
          exact hpp
        · skip
          refine ks_if_ne hκ 117 131 dL_act_117 rfl (fun c117 => ?_) (fun c117 => ?_)
          · skip
            have c117 := mt (ks_eq0 (by omega)).mpr c117
            refine ks_iload hκ 131 0 dL_act_131 rfl ?_
            refine ks_iconst hκ 133 (nI 1) dL_act_133 kq_i1 ?_
            refine ks_icmp_ne hκ 134 146 dL_act_134 rfl (fun c134 => ?_) (fun c134 => ?_)
            · skip
              have c134 := mt (nI_eq (by omega) (by omega)).mpr c134
              refine ks_iload hκ 146 0 dL_act_146 rfl ?_
              refine ks_iconst hκ 148 (nI 2) dL_act_148 kq_i2 ?_
              refine ks_icmp_ne hκ 149 163 dL_act_149 rfl (fun c149 => ?_) (fun c149 => ?_)
              · skip
                have c149 := mt (nI_eq (by omega) (by omega)).mpr c149
                refine ks_iconst hκ 163 (nI 2) dL_act_163 kq_i2 ?_
                refine ks_iload_n hκ 164 5 dL_act_164 rfl ?_
                refine ks_bipush hκ 165 (nI 59) dL_act_165 kq_b59 ?_
                refine ks_pureS2 hκ 167 dL_act_167 kc_L_78 (l_low (v := y) (n := 59) (by decide) (by decide)) (by decide) (Nat.le_of_ble_eq_true rfl) (Nat.le_of_ble_eq_true rfl) (Nat.le_of_ble_eq_true rfl) ?_
                refine ks_iaddN hκ 170 dL_act_170 ?_
                exact ks_top _ (by unfold q9Sv; rw [if_neg c117, if_neg c134, if_neg c149]) J117
              · skip
                have c149 := (nI_eq (by omega) (by omega)).mp c149
                refine ks_iconst hκ 152 (nI 1) dL_act_152 kq_i1 ?_
                refine ks_iload_n hκ 153 5 dL_act_153 rfl ?_
                refine ks_bipush hκ 154 (nI 12) dL_act_154 kq_b12 ?_
                refine ks_pureS2 hκ 156 dL_act_156 kc_L_78 (l_low (v := y) (n := 12) (by decide) (by decide)) (by decide) (Nat.le_of_ble_eq_true rfl) (Nat.le_of_ble_eq_true rfl) (Nat.le_of_ble_eq_true rfl) ?_
                refine ks_iaddN hκ 159 dL_act_159 ?_
                refine ks_goto hκ 160 171 dL_act_160 rfl ?_
                exact ks_top _ (by unfold q9Sv; rw [if_neg c117, if_neg c134, if_pos c149]) J117
            · skip
              have c134 := (nI_eq (by omega) (by omega)).mp c134
              refine ks_iload_n hκ 137 5 dL_act_137 rfl ?_
              refine ks_bipush hκ 138 (nI 16) dL_act_138 kq_b16 ?_
              refine ks_pureS2 hκ 140 dL_act_140 kc_L_78 (l_low (v := y) (n := 16) (by decide) (by decide)) (by decide) (Nat.le_of_ble_eq_true rfl) (Nat.le_of_ble_eq_true rfl) (Nat.le_of_ble_eq_true rfl) ?_
              refine ks_goto hκ 143 171 dL_act_143 rfl ?_
              exact ks_top _ (by unfold q9Sv; rw [if_neg c117, if_pos c134]) J117
          · skip
            have c117 := (ks_eq0 (by omega)).mp c117
            refine ks_iconst hκ 120 (nI 1) dL_act_120 kq_i1 ?_
            refine ks_iload_n hκ 121 5 dL_act_121 rfl ?_
            refine ks_bipush hκ 122 (nI 8) dL_act_122 kq_b8 ?_
            refine ks_pureS2 hκ 124 dL_act_124 kc_L_78 (l_low (v := y) (n := 8) (by decide) (by decide)) (by decide) (Nat.le_of_ble_eq_true rfl) (Nat.le_of_ble_eq_true rfl) (Nat.le_of_ble_eq_true rfl) ?_
            refine ks_iaddN hκ 127 dL_act_127 ?_
            refine ks_goto hκ 128 171 dL_act_128 rfl ?_
            exact ks_top _ (by unfold q9Sv; rw [if_pos c117]) J117
      · skip
        have hc : q9Lo x 14 = 2 := (nI_eq (by omega) (by omega)).mp hs48
        refine ks_top (nI 2) hs48 ?_
        refine ks_tableIn hκ 48 175 dL_act_48 (off := 127) (by decide) (by decide) (by decide) rfl ?_
        refine ks_aload_n hκ 175 2 dL_act_175 rfl ?_
        refine ks_iload_n hκ 176 1 dL_act_176 rfl ?_
        refine ks_intcV1 hκ 177 dL_act_177 kc_L_87 (w_nap hks) hX0 rfl (by decide) (Nat.le_of_ble_eq_true rfl) (Nat.le_of_ble_eq_true rfl) (Nat.le_of_ble_eq_true rfl) (fun r177 xh5 hp177 => ?_)
        have hpp := hp177
        refine ks_iret hκ 180 hRt dL_act_180 (by decide) (by decide) rfl ?_
        refine ⟨_, rfl, ?_⟩
        unfold q9Ac
        rw [hc]
        exact hpp
      · skip
        have hc : q9Lo x 14 = 3 := (nI_eq (by omega) (by omega)).mp hs48
        refine ks_top (nI 3) hs48 ?_
        refine ks_tableIn hκ 48 181 dL_act_48 (off := 133) (by decide) (by decide) (by decide) rfl ?_
        refine ks_aload_n hκ 181 2 dL_act_181 rfl ?_
        refine ks_iload_n hκ 182 4 dL_act_182 rfl ?_
        refine ks_bipush hκ 183 (nI 15) dL_act_183 kq_b15 ?_
        refine ks_pureS2 hκ 185 dL_act_185 kc_L_78 (l_low (v := y) (n := 15) (by decide) (by decide)) (by decide) (Nat.le_of_ble_eq_true rfl) (Nat.le_of_ble_eq_true rfl) (Nat.le_of_ble_eq_true rfl) ?_
        refine ks_iload_n hκ 188 1 dL_act_188 rfl ?_
        refine ks_intcV2 hκ 189 dL_act_189 kc_L_90 (w_snip hks) hX0 rfl (by decide) (Nat.le_of_ble_eq_true rfl) (Nat.le_of_ble_eq_true rfl) (Nat.le_of_ble_eq_true rfl) (fun r189 xh6 hp189 => ?_)
        have hpp := hp189
        refine ks_iret hκ 192 hRt dL_act_192 (by decide) (by decide) rfl ?_
        refine ⟨_, rfl, ?_⟩
        unfold q9Ac
        rw [hc]
        exact hpp
      · skip
        have hc : q9Lo x 14 = 4 := (nI_eq (by omega) (by omega)).mp hs48
        refine ks_top (nI 4) hs48 ?_
        refine ks_tableIn hκ 48 193 dL_act_48 (off := 145) (by decide) (by decide) (by decide) rfl ?_
        refine ks_aload_n hκ 193 2 dL_act_193 rfl ?_
        refine ks_iconst hκ 194 (nI 1) dL_act_194 kq_i1 ?_
        refine ks_iload_n hκ 195 4 dL_act_195 rfl ?_
        refine ks_iconst hκ 196 (nI 4) dL_act_196 kq_i4 ?_
        refine ks_ishr hκ 197 dL_act_197 ?_
        refine ks_bipush hκ 198 (nI 8) dL_act_198 kq_b8 ?_
        refine ks_pureS2 hκ 200 dL_act_200 kc_L_78 (l_low (v := (y >>> (nI 4 &&& 31))) (n := 8) (by decide) (by decide)) (by decide) (Nat.le_of_ble_eq_true rfl) (Nat.le_of_ble_eq_true rfl) (Nat.le_of_ble_eq_true rfl) ?_
        refine ks_iaddN hκ 203 dL_act_203 ?_
        refine ks_iload_n hκ 204 1 dL_act_204 rfl ?_
        refine ks_iload hκ 205 0 dL_act_205 rfl ?_
        refine ks_intcV3 hκ 207 dL_act_207 kc_L_93 (w_plan hks) hX0 rfl (by decide) (Nat.le_of_ble_eq_true rfl) (Nat.le_of_ble_eq_true rfl) (Nat.le_of_ble_eq_true rfl) (fun r207 xh7 hp207 => ?_)
        have hpp := hp207
        refine ks_iret hκ 210 hRt dL_act_210 (by decide) (by decide) rfl ?_
        refine ⟨_, rfl, ?_⟩
        unfold q9Ac
        rw [hc]
        exact hpp
      · skip
        have hc : q9Lo x 14 = 5 := (nI_eq (by omega) (by omega)).mp hs48
        refine ks_top (nI 5) hs48 ?_
        refine ks_tableIn hκ 48 193 dL_act_48 (off := 145) (by decide) (by decide) (by decide) rfl ?_
        refine ks_aload_n hκ 193 2 dL_act_193 rfl ?_
        refine ks_iconst hκ 194 (nI 1) dL_act_194 kq_i1 ?_
        refine ks_iload_n hκ 195 4 dL_act_195 rfl ?_
        refine ks_iconst hκ 196 (nI 4) dL_act_196 kq_i4 ?_
        refine ks_ishr hκ 197 dL_act_197 ?_
        refine ks_bipush hκ 198 (nI 8) dL_act_198 kq_b8 ?_
        refine ks_pureS2 hκ 200 dL_act_200 kc_L_78 (l_low (v := (y >>> (nI 4 &&& 31))) (n := 8) (by decide) (by decide)) (by decide) (Nat.le_of_ble_eq_true rfl) (Nat.le_of_ble_eq_true rfl) (Nat.le_of_ble_eq_true rfl) ?_
        refine ks_iaddN hκ 203 dL_act_203 ?_
        refine ks_iload_n hκ 204 1 dL_act_204 rfl ?_
        refine ks_iload hκ 205 0 dL_act_205 rfl ?_
        refine ks_intcV3 hκ 207 dL_act_207 kc_L_93 (w_plan hks) hX0 rfl (by decide) (Nat.le_of_ble_eq_true rfl) (Nat.le_of_ble_eq_true rfl) (Nat.le_of_ble_eq_true rfl) (fun r207 xh8 hp207 => ?_)
        have hpp := hp207
        refine ks_iret hκ 210 hRt dL_act_210 (by decide) (by decide) rfl ?_
        refine ⟨_, rfl, ?_⟩
        unfold q9Ac
        rw [hc]
        exact hpp
      · skip
        have hc : q9Lo x 14 = 6 := (nI_eq (by omega) (by omega)).mp hs48
        refine ks_top (nI 6) hs48 ?_
        refine ks_tableIn hκ 48 211 dL_act_48 (off := 163) (by decide) (by decide) (by decide) rfl ?_
        refine ks_aload_n hκ 211 2 dL_act_211 rfl ?_
        refine ks_iconst hκ 212 (nI 1) dL_act_212 kq_i1 ?_
        refine ks_iload_n hκ 213 4 dL_act_213 rfl ?_
        refine ks_iconst hκ 214 (nI 4) dL_act_214 kq_i4 ?_
        refine ks_pureS2 hκ 215 dL_act_215 kc_L_78 (l_low (v := y) (n := 4) (by decide) (by decide)) (by decide) (Nat.le_of_ble_eq_true rfl) (Nat.le_of_ble_eq_true rfl) (Nat.le_of_ble_eq_true rfl) ?_
        refine ks_iaddN hκ 218 dL_act_218 ?_
        refine ks_intcV1 hκ 219 dL_act_219 kc_L_71 (w_pass hks hJ) hX0 rfl (by decide) (Nat.le_of_ble_eq_true rfl) (Nat.le_of_ble_eq_true rfl) (Nat.le_of_ble_eq_true rfl) (fun r219 xh9 hp219 => ?_)
        have hpp := hp219
        refine ks_iret hκ 222 hRt dL_act_222 (by decide) (by decide) rfl ?_
        refine ⟨_, rfl, ?_⟩
        unfold q9Ac
        rw [hc]
        exact hpp
  · skip
    refine ks_if_ne hκ 17 32 dL_act_17 rfl (fun c17 => ?_) (fun c17 => ?_)
    · skip
      have c17 := mt (ks_eq0 (by omega)).mpr c17
      refine ks_iload_n hκ 32 3 dL_act_32 rfl ?_
      refine ks_bipush hκ 33 (nI 8) dL_act_33 kq_b8 ?_
      refine ks_pureS2 hκ 35 dL_act_35 kc_L_78 (l_low (v := y) (n := 8) (by decide) (by decide)) (by decide) (Nat.le_of_ble_eq_true rfl) (Nat.le_of_ble_eq_true rfl) (Nat.le_of_ble_eq_true rfl) ?_
      refine ks_iconst hκ 38 (nI 4) dL_act_38 kq_i4 ?_
      refine ks_isub hκ 39 dL_act_39 ?_
      exact ks_top _ (by unfold q9By; rw [if_neg c17]) J17
    · skip
      have c17 := (ks_eq0 (by omega)).mp c17
      refine ks_iload_n hκ 20 3 dL_act_20 rfl ?_
      refine ks_bipush hκ 21 (nI 31) dL_act_21 kq_b31 ?_
      refine ks_pureS2 hκ 23 dL_act_23 kc_L_78 (l_low (v := y) (n := 31) (by decide) (by decide)) (by decide) (Nat.le_of_ble_eq_true rfl) (Nat.le_of_ble_eq_true rfl) (Nat.le_of_ble_eq_true rfl) ?_
      refine ks_bipush hκ 26 (nI 15) dL_act_26 kq_b15 ?_
      refine ks_isub hκ 28 dL_act_28 ?_
      refine ks_goto hκ 29 40 dL_act_29 rfl ?_
      exact ks_top _ (by unfold q9By; rw [if_pos c17]) J17
