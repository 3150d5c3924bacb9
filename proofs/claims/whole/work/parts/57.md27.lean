
/-! THE MODEL: an order's error and deed; the orders carried out -/
def kErM (σ : kS) (kd on tw bx : Int32) : Int32 := if kd = nI 103 then kLpE σ tw bx else if kd = nI 107 then kKitE σ on else if kd = nI 110 then kNapE σ tw else if kd = nI 112 then kPlE σ on tw bx else if kd = nI 120 then kSnE σ on tw else kPasE σ on
def kDoM (σ : kS) (kd on tw bx : Int32) : Int32 × kS := if kd = nI 103 then kTry σ tw bx else if kd = nI 107 then kAdd σ on else if kd = nI 110 then kNap σ tw else if kd = nI 112 then kPlan σ on tw bx else if kd = nI 120 then kSnip σ on tw else kPassT σ on
theorem kErM_er {σ : kS} {kd on tw bx : Int32} (h : ¬ kErM σ kd on tw bx = 0) : kDoM σ kd on tw bx = (kErM σ kd on tw bx, σ) ∧ kErM σ kd on tw bx < 0 := by
  unfold kErM at h ⊢
  unfold kDoM
  by_cases a : kd = nI 103
  · simp only [if_pos a] at h ⊢; exact kLpE_er h
  · simp only [if_neg a] at h ⊢
    by_cases b : kd = nI 107
    · simp only [if_pos b] at h ⊢; exact kKitE_er h
    · simp only [if_neg b] at h ⊢
      by_cases c : kd = nI 110
      · simp only [if_pos c] at h ⊢; exact kNapE_er h
      · simp only [if_neg c] at h ⊢
        by_cases d : kd = nI 112
        · simp only [if_pos d] at h ⊢; exact kPlE_er h
        · simp only [if_neg d] at h ⊢
          by_cases e : kd = nI 120
          · simp only [if_pos e] at h ⊢; exact kSnE_er h
          · simp only [if_neg e] at h ⊢; exact kPasE_er h
/-- the Model's deed is the class's order -/
theorem kDoM_one {σ : kS} {o : kO} {kd on tw bx : Int32} (h : kMf o kd on tw bx) (hl : ¬ kIsLt o.1 = 0) : kDoM σ kd on tw bx = kOne σ o.1 o.2.1 o.2.2.1 o.2.2.2 := by
  obtain ⟨h0, h1, h2, h3, h4, h5⟩ := h
  unfold kDoM kOne
  rw [h0]
  by_cases a : o.1 = nI 103
  · rw [if_pos a, if_neg (by rw [a]; decide), if_pos a, (h2 a).1, (h2 a).2]
  · rw [if_neg a]
    by_cases b : o.1 = nI 107
    · rw [if_pos b, if_pos b, h1 (Or.inl b)]
    · rw [if_neg b, if_neg b, if_neg a]
      by_cases c : o.1 = nI 110
      · rw [if_pos c, if_pos c, h3 c]
      · rw [if_neg c, if_neg c]
        by_cases d : o.1 = nI 112
        · rw [if_pos d, if_neg (by rw [d]; decide), if_pos d, (h5 d).1, (h5 d).2.1, (h5 d).2.2]
        · rw [if_neg d]
          by_cases e : o.1 = nI 120
          · rw [if_pos e, if_pos e, (h4 e).1, (h4 e).2]
          · rw [if_neg e, if_neg e, if_neg d]
            by_cases t : o.1 = nI 116
            · rw [if_pos t, h1 (Or.inr t)]
            · refine absurd ?_ hl
              unfold kIsLt
              rw [if_neg b, if_neg a, if_neg c, if_neg e, if_neg d, if_neg t]; rfl
theorem kRO_lt {l : List Int32} {n : Nat} (h : (kRO l n).1 = true) : ¬ kIsLt (kRO l n).2.1.1 = 0 := by
  by_cases h0 : kIsLt (l.getD n (nI 0)) = 0
  · rw [kRO_no h0] at h; cases h
  · have hj : l.getD n (nI 0) = nI 107 ∨ l.getD n (nI 0) = nI 103 ∨ l.getD n (nI 0) = nI 110 ∨ l.getD n (nI 0) = nI 120 ∨ l.getD n (nI 0) = nI 112 ∨ l.getD n (nI 0) = nI 116 := by
      unfold kIsLt at h0
      by_cases a : l.getD n (nI 0) = nI 107
      · exact Or.inl a
      · rw [if_neg a] at h0
        by_cases b : l.getD n (nI 0) = nI 103
        · exact Or.inr (Or.inl b)
        · rw [if_neg b] at h0
          by_cases c : l.getD n (nI 0) = nI 110
          · exact Or.inr (Or.inr (Or.inl c))
          · rw [if_neg c] at h0
            by_cases d : l.getD n (nI 0) = nI 120
            · exact Or.inr (Or.inr (Or.inr (Or.inl d)))
            · rw [if_neg d] at h0
              by_cases e : l.getD n (nI 0) = nI 112
              · exact Or.inr (Or.inr (Or.inr (Or.inr (Or.inl e))))
              · rw [if_neg e] at h0
                by_cases t : l.getD n (nI 0) = nI 116
                · exact Or.inr (Or.inr (Or.inr (Or.inr (Or.inr t))))
                · rw [if_neg t] at h0; exact absurd rfl h0
    rcases hj with q | q | q | q | q | q
    · have e := kRO_kt q (Or.inl rfl)
      by_cases c : (kRN l (n + 1)).1 = false
      · rw [if_pos c] at e; rw [e] at h; cases h
      · rw [if_neg c] at e; rw [e]; show ¬ kIsLt (nI 107) = 0; decide
    · have e := kRO_g q
      by_cases c : (kRD l (n + 1)).1 = false
      · rw [if_pos c] at e; rw [e] at h; cases h
      · rw [if_neg c] at e
        by_cases c2 : (kRB l (kRD l (n + 1)).2.2).1 = false
        · rw [if_pos c2] at e; rw [e] at h; cases h
        · rw [if_neg c2] at e; rw [e]; show ¬ kIsLt (nI 103) = 0; decide
    · have e := kRO_n q
      by_cases c : (kRD l (n + 1)).1 = false
      · rw [if_pos c] at e; rw [e] at h; cases h
      · rw [if_neg c] at e; rw [e]; show ¬ kIsLt (nI 110) = 0; decide
    · have e := kRO_x q
      by_cases c : (kRN l (n + 1)).1 = false
      · rw [if_pos c] at e; rw [e] at h; cases h
      · rw [if_neg c] at e
        by_cases c2 : (kSg l (kRN l (n + 1)).2.2 (nI 46)).1 = false
        · rw [if_pos c2] at e; rw [e] at h; cases h
        · rw [if_neg c2] at e
          by_cases c3 : (kRD l (kSg l (kRN l (n + 1)).2.2 (nI 46)).2).1 = false
          · rw [if_pos c3] at e; rw [e] at h; cases h
          · rw [if_neg c3] at e; rw [e]; show ¬ kIsLt (nI 120) = 0; decide
    · have e := kRO_p q
      by_cases c : (kRN l (n + 1)).1 = false
      · rw [if_pos c] at e; rw [e] at h; cases h
      · rw [if_neg c] at e
        by_cases c2 : (kSg l (kRN l (n + 1)).2.2 (nI 58)).1 = false
        · rw [if_pos c2] at e; rw [e] at h; cases h
        · rw [if_neg c2] at e
          by_cases c3 : (kRD l (kSg l (kRN l (n + 1)).2.2 (nI 58)).2).1 = false
          · rw [if_pos c3] at e; rw [e] at h; cases h
          · rw [if_neg c3] at e
            by_cases c4 : (kRB l (kRD l (kSg l (kRN l (n + 1)).2.2 (nI 58)).2).2.2).1 = false
            · rw [if_pos c4] at e; rw [e] at h; cases h
            · rw [if_neg c4] at e; rw [e]; show ¬ kIsLt (nI 112) = 0; decide
    · have e := kRO_kt q (Or.inr rfl)
      by_cases c : (kRN l (n + 1)).1 = false
      · rw [if_pos c] at e; rw [e] at h; cases h
      · rw [if_neg c] at e; rw [e]; show ¬ kIsLt (nI 116) = 0; decide
theorem kRead_acc : ∀ (f : Nat) (l : List Int32) (n : Nat) (acc : List kO), kRead f l n acc = ((kRead f l n []).1, acc ++ (kRead f l n []).2)
  | 0, l, n, acc => by
    show (nI n, acc) = (nI n, acc ++ [])
    rw [List.append_nil]
  | f + 1, l, n, acc => by
    rw [kRead, kRead]
    by_cases h1 : (kRO l n).1 = false
    · rw [if_pos h1, if_pos h1]
      show _ = (nI (kRO l n).2.2, acc ++ [])
      rw [List.append_nil]
    · rw [if_neg h1, if_neg h1]
      by_cases h2 : l.length ≤ (kRO l n).2.2
      · rw [if_pos h2, if_pos h2]; rfl
      · rw [if_neg h2, if_neg h2]
        by_cases h3 : l.getD (kRO l n).2.2 (nI 0) = nI 59
        · rw [if_pos h3, if_pos h3, kRead_acc f l _ (acc ++ _), kRead_acc f l _ ([] ++ _)]
          show _ = (_, acc ++ ([] ++ [(kRO l n).2.1] ++ _))
          rw [List.nil_append, List.append_assoc]
        · rw [if_neg h3, if_neg h3]; rfl
/-- a text without a fault: its first order, and what is behind it -/
theorem kRead_step {f : Nat} {l : List Int32} {n : Nat} {zs : List kO} (h : kRead (f + 1) l n [] = (-6, zs)) (hn : n ≤ l.length) (hll : l.length ≤ 80) : (kRO l n).1 = true ∧ ∃ zs2, zs = (kRO l n).2.1 :: zs2 ∧ (l.getD (kRO l n).2.2 (nI 0) = nI 59 ∧ kRead f l ((kRO l n).2.2 + 1) [] = (-6, zs2) ∨ ¬ l.getD (kRO l n).2.2 (nI 0) = nI 59 ∧ zs2 = []) := by
  have hro := kRO_len hn
  rw [kRead] at h
  by_cases h1 : (kRO l n).1 = false
  · rw [if_pos h1] at h
    exact absurd (congrArg Prod.fst h) (nI_m6 (by omega))
  · rw [if_neg h1] at h
    refine ⟨Bool.not_eq_false _ ▸ h1, ?_⟩
    by_cases h2 : l.length ≤ (kRO l n).2.2
    · rw [if_pos h2] at h
      have hz := congrArg Prod.snd h
      exact ⟨[], hz.symm, Or.inr ⟨fun q => by rw [kgd_out h2] at q; exact absurd q (by decide), rfl⟩⟩
    · rw [if_neg h2] at h
      by_cases h3 : l.getD (kRO l n).2.2 (nI 0) = nI 59
      · rw [if_pos h3, kRead_acc] at h
        have hz := congrArg Prod.snd h
        have hf : (kRead f l ((kRO l n).2.2 + 1) []).1 = -6 := congrArg Prod.fst h
        exact ⟨(kRead f l ((kRO l n).2.2 + 1) []).2, hz.symm, Or.inl ⟨h3, Prod.ext hf rfl⟩⟩
      · rw [if_neg h3] at h
        exact absurd (congrArg Prod.fst h) (nI_m6 (by omega))
set_option maxRecDepth 100000 in
set_option maxHeartbeats 4000000 in
theorem c_Model_orderError {g : ks_G} {h : ks_H} {m : Nat} {w1 w2 w3 w4 w5 : Value} {kd on tw bx : Int32} {f : Nat → Int32} {se : Nat → Int32} {tu : Int32} {ki : Nat} {ma re : Int32} {kf : Nat → Nat → Int32} {L : List (Nat × Nat)} {P : List kP} (hM : h[m]? = some (ks_O 7 [ks_ref g (m + 1), w1, w2, w3, w4, w5, .int kd, .int on, .int tw, .int bx])) (hS : h[m + 1]? = some (ks_I g 3400 f)) (hmd : kMd f 0 (se, tu, ki, ma, re, kf, L, P)) (hok : kOk2 (se, tu, ki, ma, re, kf, L, P)) : ks_Met g (yX7_orderError, cX7_orderError, 1, some .int) 7 0 0 [ks_ref g m] h (ks_Pi (kErM (se, tu, ki, ma, re, kf, L, P) kd on tw bx) h) := by
  refine ks_intro (by decide) (Nat.le_of_ble_eq_true rfl) (fun κ hκ hRt => ?_)
  refine ks_cv (ls := [(0, ks_ref g m)]) ?_ rfl rfl rfl
  refine ks_aload_n hκ 0 0 dX7_orderError_0 rfl ?_
  refine ks_get hκ 1 dX7_orderError_1 kf_X7_235 hM rfl ?_
  by_cases hs4_103 : kd = nI 103
  · skip
    refine ks_top (nI 103) hs4_103 ?_
    refine ks_lookup hκ 4 65 dX7_orderError_4 (off := 61) (by decide) (by decide) rfl ?_
    refine ks_aload_n hκ 65 0 dX7_orderError_65 rfl ?_
    refine ks_aload_n hκ 66 0 dX7_orderError_66 rfl ?_
    refine ks_get hκ 67 dX7_orderError_67 kf_X7_229 hM rfl ?_
    refine ks_aload_n hκ 70 0 dX7_orderError_70 rfl ?_
    refine ks_get hκ 71 dX7_orderError_71 kf_X7_226 hM rfl ?_
    refine ks_pureV2 hκ 74 dX7_orderError_74 kc_X7_138 (c_Model_leapError hM hS hmd hok) hM rfl (by decide) (Nat.le_of_ble_eq_true rfl) (by decide) (by decide) ?_
    refine ks_iret hκ 77 hRt dX7_orderError_77 (by decide) (by decide) rfl ?_
    refine ⟨?_, rfl⟩
    unfold kErM
    rw [if_pos hs4_103]
  · skip
    by_cases hs4_107 : kd = nI 107
    · skip
      refine ks_top (nI 107) hs4_107 ?_
      refine ks_lookup hκ 4 56 dX7_orderError_4 (off := 52) (by decide) (by decide) rfl ?_
      refine ks_aload_n hκ 56 0 dX7_orderError_56 rfl ?_
      refine ks_aload_n hκ 57 0 dX7_orderError_57 rfl ?_
      refine ks_get hκ 58 dX7_orderError_58 kf_X7_232 hM rfl ?_
      refine ks_pureV1 hκ 61 dX7_orderError_61 kc_X7_132 (c_Model_kittenError hM hS hmd) hM rfl (by decide) (Nat.le_of_ble_eq_true rfl) (by decide) (by decide) ?_
      refine ks_iret hκ 64 hRt dX7_orderError_64 (by decide) (by decide) rfl ?_
      refine ⟨?_, rfl⟩
      unfold kErM
      rw [if_neg hs4_103, if_pos hs4_107]
    · skip
      by_cases hs4_110 : kd = nI 110
      · skip
        refine ks_top (nI 110) hs4_110 ?_
        refine ks_lookup hκ 4 78 dX7_orderError_4 (off := 74) (by decide) (by decide) rfl ?_
        refine ks_aload_n hκ 78 0 dX7_orderError_78 rfl ?_
        refine ks_aload_n hκ 79 0 dX7_orderError_79 rfl ?_
        refine ks_get hκ 80 dX7_orderError_80 kf_X7_229 hM rfl ?_
        refine ks_pureV1 hκ 83 dX7_orderError_83 kc_X7_141 (c_Model_napError hM hS hmd) hM rfl (by decide) (Nat.le_of_ble_eq_true rfl) (by decide) (by decide) ?_
        refine ks_iret hκ 86 hRt dX7_orderError_86 (by decide) (by decide) rfl ?_
        refine ⟨?_, rfl⟩
        unfold kErM
        rw [if_neg hs4_103, if_neg hs4_107, if_pos hs4_110]
      · skip
        by_cases hs4_112 : kd = nI 112
        · skip
          refine ks_top (nI 112) hs4_112 ?_
          refine ks_lookup hκ 4 100 dX7_orderError_4 (off := 96) (by decide) (by decide) rfl ?_
          refine ks_aload_n hκ 100 0 dX7_orderError_100 rfl ?_
          refine ks_aload_n hκ 101 0 dX7_orderError_101 rfl ?_
          refine ks_get hκ 102 dX7_orderError_102 kf_X7_232 hM rfl ?_
          refine ks_aload_n hκ 105 0 dX7_orderError_105 rfl ?_
          refine ks_get hκ 106 dX7_orderError_106 kf_X7_229 hM rfl ?_
          refine ks_aload_n hκ 109 0 dX7_orderError_109 rfl ?_
          refine ks_get hκ 110 dX7_orderError_110 kf_X7_226 hM rfl ?_
          refine ks_pureV3 hκ 113 dX7_orderError_113 kc_X7_153 (c_Model_planError hM hS hmd) hM rfl (by decide) (Nat.le_of_ble_eq_true rfl) (by decide) (by decide) ?_
          refine ks_iret hκ 116 hRt dX7_orderError_116 (by decide) (by decide) rfl ?_
          refine ⟨?_, rfl⟩
          unfold kErM
          rw [if_neg hs4_103, if_neg hs4_107, if_neg hs4_110, if_pos hs4_112]
        · skip
          by_cases hs4_120 : kd = nI 120
          · skip
            refine ks_top (nI 120) hs4_120 ?_
            refine ks_lookup hκ 4 87 dX7_orderError_4 (off := 83) (by decide) (by decide) rfl ?_
            refine ks_aload_n hκ 87 0 dX7_orderError_87 rfl ?_
            refine ks_aload_n hκ 88 0 dX7_orderError_88 rfl ?_
            refine ks_get hκ 89 dX7_orderError_89 kf_X7_232 hM rfl ?_
            refine ks_aload_n hκ 92 0 dX7_orderError_92 rfl ?_
            refine ks_get hκ 93 dX7_orderError_93 kf_X7_229 hM rfl ?_
            refine ks_pureV2 hκ 96 dX7_orderError_96 kc_X7_147 (c_Model_snipError hM hS hmd) hM rfl (by decide) (Nat.le_of_ble_eq_true rfl) (by decide) (by decide) ?_
            refine ks_iret hκ 99 hRt dX7_orderError_99 (by decide) (by decide) rfl ?_
            refine ⟨?_, rfl⟩
            unfold kErM
            rw [if_neg hs4_103, if_neg hs4_107, if_neg hs4_110, if_neg hs4_112, if_pos hs4_120]
          · skip
            refine ks_lookup hκ 4 117 dX7_orderError_4 (off := 113) (by decide) (show Op.lookupswitch.offset [(103, 61), (107, 52), (110, 74), (112, 96), (120, 83)] 113 (Int32.toInt kd) = 113 by rw [lv_osw hs4_103 (show (nI 103).toInt = 103 by decide), lv_osw hs4_107 (show (nI 107).toInt = 107 by decide), lv_osw hs4_110 (show (nI 110).toInt = 110 by decide), lv_osw hs4_112 (show (nI 112).toInt = 112 by decide), lv_osw hs4_120 (show (nI 120).toInt = 120 by decide)]; rfl) rfl ?_
            refine ks_aload_n hκ 117 0 dX7_orderError_117 rfl ?_
            refine ks_aload_n hκ 118 0 dX7_orderError_118 rfl ?_
            refine ks_get hκ 119 dX7_orderError_119 kf_X7_232 hM rfl ?_
            refine ks_pureV1 hκ 122 dX7_orderError_122 kc_X7_159 (c_Model_passError hM hS hmd) hM rfl (by decide) (Nat.le_of_ble_eq_true rfl) (by decide) (by decide) ?_
            refine ks_iret hκ 125 hRt dX7_orderError_125 (by decide) (by decide) rfl ?_
            refine ⟨?_, rfl⟩
            unfold kErM
            rw [if_neg hs4_103, if_neg hs4_107, if_neg hs4_110, if_neg hs4_112, if_neg hs4_120]
set_option maxRecDepth 100000 in
set_option maxHeartbeats 4000000 in
theorem c_Model_does {g : ks_G} {h : ks_H} {m : Nat} {w1 w2 w3 w4 w5 : Value} {kd on tw bx : Int32} {f : Nat → Int32} {se : Nat → Int32} {tu : Int32} {ki : Nat} {ma re : Int32} {kf : Nat → Nat → Int32} {L : List (Nat × Nat)} {P : List kP} (hM : h[m]? = some (ks_O 7 [ks_ref g (m + 1), w1, w2, w3, w4, w5, .int kd, .int on, .int tw, .int bx])) (hS : h[m + 1]? = some (ks_I g 3400 f)) (hmd : kMd f 0 (se, tu, ki, ma, re, kf, L, P)) (hok : kOk2 (se, tu, ki, ma, re, kf, L, P)) (hbal : kBal (se, tu, ki, ma, re, kf, L, P)) (her : kErM (se, tu, ki, ma, re, kf, L, P) kd on tw bx = 0) : ks_Met g (yX7_does, cX7_does, 1, some .int) 8 0 0 [ks_ref g m] h (ks_Ph (fun r h' => r = (kDoM (se, tu, ki, ma, re, kf, L, P) kd on tw bx).1 ∧ kMP g m 0 h h' f (kDoM (se, tu, ki, ma, re, kf, L, P) kd on tw bx).2)) := by
  obtain ⟨mS, m4, m5, m6, m7, m8, m9, mK, mP, mL, mki, mLl, mPl, mLp, mPp⟩ := id hmd
  dsimp only at mS m4 m5 m6 m7 m8 m9 mK mP mL mki mLl mPl mLp mPp
  refine ks_intro (by decide) (Nat.le_of_ble_eq_true rfl) (fun κ hκ hRt => ?_)
  refine ks_cv (ls := [(0, ks_ref g m)]) ?_ rfl rfl rfl
  have hF : ks_Fr h h (m + 1) (m + 2) := ks_Fr.rf
  refine ks_aload_n hκ 0 0 dX7_does_0 rfl ?_
  refine ks_get hκ 1 dX7_does_1 kf_X7_235 hM rfl ?_
  by_cases hs4_103 : kd = nI 103
  · skip
    refine ks_top (nI 103) hs4_103 ?_
    refine ks_lookup hκ 4 65 dX7_does_4 (off := 61) (by decide) (by decide) rfl ?_
    refine ks_aload_n hκ 65 0 dX7_does_65 rfl ?_
    refine ks_iconst hκ 66 (nI 0) dX7_does_66 kq_i0 ?_
    refine ks_aload_n hκ 67 0 dX7_does_67 rfl ?_
    refine ks_get hκ 68 dX7_does_68 kf_X7_229 hM rfl ?_
    refine ks_aload_n hκ 71 0 dX7_does_71 rfl ?_
    refine ks_get hκ 72 dX7_does_72 kf_X7_226 hM rfl ?_
    unfold kErM at her
    rw [if_pos hs4_103] at her
    obtain ⟨vj, vs, vt, hvj, htw, hvs, hvt, hvs2, hbx, hr, hq⟩ := kLpE_ok (σ := (se, tu, ki, ma, re, kf, L, P)) mki hok her
    have hdo : kDoM (se, tu, ki, ma, re, kf, L, P) kd on tw bx = _ := (show _ = kTry (se, tu, ki, ma, re, kf, L, P) tw bx by unfold kDoM; rw [if_pos hs4_103]).trans hq
    rw [htw, hbx]
    rw [hbx] at hr
    obtain ⟨hlt9, -⟩ := kLeap_bal (σ := (se, tu, ki, ma, re, kf, L, P)) hbal mki hvj hvs hvt hvs2 hr
    refine ks_intcV3 hκ 75 dX7_does_75 kc_X7_93 (c_Model_leaps (b := 0) hM hS (by decide) hmd hvj hvs hvt hvs2 hlt9) hM rfl (by decide) (Nat.le_of_ble_eq_true rfl) (by decide) (by decide) (fun r75 xh1 hp75 => ?_)
    obtain ⟨hr9, f2, hS, hF9, hmd2, hout2⟩ := hp75
    replace hM := hF9.at hM (by omega)
    replace hF := hF.tr (hF9.wd (by omega) (by omega))
    refine ks_iret hκ 78 hRt dX7_does_78 (by decide) (by decide) rfl ?_
    rw [hdo, hbx]
    exact ⟨_, rfl, hr9, f2, hS, hF, hmd2, hout2⟩
  · skip
    by_cases hs4_107 : kd = nI 107
    · skip
      refine ks_top (nI 107) hs4_107 ?_
      refine ks_lookup hκ 4 56 dX7_does_4 (off := 52) (by decide) (by decide) rfl ?_
      refine ks_aload_n hκ 56 0 dX7_does_56 rfl ?_
      refine ks_aload_n hκ 57 0 dX7_does_57 rfl ?_
      refine ks_get hκ 58 dX7_does_58 kf_X7_232 hM rfl ?_
      unfold kErM at her
      rw [if_neg hs4_103, if_pos hs4_107] at her
      obtain ⟨hq, hk6⟩ := kKitE_ok (σ := (se, tu, ki, ma, re, kf, L, P)) her
      have hdo : kDoM (se, tu, ki, ma, re, kf, L, P) kd on tw bx = _ := (show _ = kAdd (se, tu, ki, ma, re, kf, L, P) on by unfold kDoM; rw [if_neg hs4_103, if_pos hs4_107]).trans hq
      refine ks_intcV1 hκ 61 dX7_does_61 kc_X7_135 (c_Model_comes hM hS hmd hk6) hM rfl (by decide) (Nat.le_of_ble_eq_true rfl) (by decide) (by decide) (fun r61 xh2 hp61 => ?_)
      obtain ⟨hr9, f2, hS, hF9, hmd2, hout2⟩ := hp61
      replace hM := hF9.at hM (by omega)
      replace hF := hF.tr (hF9.wd (by omega) (by omega))
      refine ks_iret hκ 64 hRt dX7_does_64 (by decide) (by decide) rfl ?_
      rw [hdo]
      exact ⟨_, rfl, hr9, f2, hS, hF, hmd2, hout2⟩
    · skip
      by_cases hs4_110 : kd = nI 110
      · skip
        refine ks_top (nI 110) hs4_110 ?_
        refine ks_lookup hκ 4 79 dX7_does_4 (off := 75) (by decide) (by decide) rfl ?_
        refine ks_aload_n hκ 79 0 dX7_does_79 rfl ?_
        refine ks_aload_n hκ 80 0 dX7_does_80 rfl ?_
        refine ks_get hκ 81 dX7_does_81 kf_X7_229 hM rfl ?_
        unfold kErM at her
        rw [if_neg hs4_103, if_neg hs4_107, if_pos hs4_110] at her
        obtain ⟨vj, hvj, htw, hq⟩ := kNapE_ok (σ := (se, tu, ki, ma, re, kf, L, P)) mki her
        have hdo : kDoM (se, tu, ki, ma, re, kf, L, P) kd on tw bx = _ := (show _ = kNap (se, tu, ki, ma, re, kf, L, P) tw by unfold kDoM; rw [if_neg hs4_103, if_neg hs4_107, if_pos hs4_110]).trans hq
        rw [htw]
        refine ks_intcV1 hκ 84 dX7_does_84 kc_X7_144 (c_Model_sleeps hM hS hmd hvj) hM rfl (by decide) (Nat.le_of_ble_eq_true rfl) (by decide) (by decide) (fun r84 xh3 hp84 => ?_)
        obtain ⟨hr9, f2, hS, hF9, hmd2, hout2⟩ := hp84
        replace hM := hF9.at hM (by omega)
        replace hF := hF.tr (hF9.wd (by omega) (by omega))
        refine ks_iret hκ 87 hRt dX7_does_87 (by decide) (by decide) rfl ?_
        rw [hdo]
        exact ⟨_, rfl, hr9, f2, hS, hF, hmd2, hout2⟩
      · skip
        by_cases hs4_112 : kd = nI 112
        · skip
          refine ks_top (nI 112) hs4_112 ?_
          refine ks_lookup hκ 4 101 dX7_does_4 (off := 97) (by decide) (by decide) rfl ?_
          refine ks_aload_n hκ 101 0 dX7_does_101 rfl ?_
          refine ks_aload_n hκ 102 0 dX7_does_102 rfl ?_
          refine ks_get hκ 103 dX7_does_103 kf_X7_232 hM rfl ?_
          refine ks_aload_n hκ 106 0 dX7_does_106 rfl ?_
          refine ks_get hκ 107 dX7_does_107 kf_X7_229 hM rfl ?_
          refine ks_aload_n hκ 110 0 dX7_does_110 rfl ?_
          refine ks_get hκ 111 dX7_does_111 kf_X7_226 hM rfl ?_
          unfold kErM at her
          rw [if_neg hs4_103, if_neg hs4_107, if_neg hs4_110, if_pos hs4_112] at her
          obtain ⟨vj, hvj, htw, hPl, -, -, hq⟩ := kPlE_ok (σ := (se, tu, ki, ma, re, kf, L, P)) mki her
          have hdo : kDoM (se, tu, ki, ma, re, kf, L, P) kd on tw bx = _ := (show _ = kPlan (se, tu, ki, ma, re, kf, L, P) on tw bx by unfold kDoM; rw [if_neg hs4_103, if_neg hs4_107, if_neg hs4_110, if_pos hs4_112]).trans hq
          have hPl : P.length < 16 := hPl
          have hvj : vj < ki := hvj
          rw [htw]
          refine ks_intcV3 hκ 114 dX7_does_114 kc_X7_156 (c_Model_plans hM hS hmd (show vj < 6 by omega) hPl) hM rfl (by decide) (Nat.le_of_ble_eq_true rfl) (by decide) (by decide) (fun r114 xh4 hp114 => ?_)
          obtain ⟨hr9, f2, hS, hF9, hmd2, hout2⟩ := hp114
          replace hM := hF9.at hM (by omega)
          replace hF := hF.tr (hF9.wd (by omega) (by omega))
          refine ks_iret hκ 117 hRt dX7_does_117 (by decide) (by decide) rfl ?_
          rw [hdo]
          exact ⟨_, rfl, hr9, f2, hS, hF, hmd2, hout2⟩
        · skip
          by_cases hs4_120 : kd = nI 120
          · skip
            refine ks_top (nI 120) hs4_120 ?_
            refine ks_lookup hκ 4 88 dX7_does_4 (off := 84) (by decide) (by decide) rfl ?_
            refine ks_aload_n hκ 88 0 dX7_does_88 rfl ?_
            refine ks_aload_n hκ 89 0 dX7_does_89 rfl ?_
            refine ks_get hκ 90 dX7_does_90 kf_X7_232 hM rfl ?_
            refine ks_aload_n hκ 93 0 dX7_does_93 rfl ?_
            refine ks_get hκ 94 dX7_does_94 kf_X7_229 hM rfl ?_
            unfold kErM at her
            rw [if_neg hs4_103, if_neg hs4_107, if_neg hs4_110, if_neg hs4_112, if_pos hs4_120] at her
            obtain ⟨ve, vj, hve, hon, hvj, htw, hq⟩ := kSnE_ok (σ := (se, tu, ki, ma, re, kf, L, P)) mki her
            have hdo : kDoM (se, tu, ki, ma, re, kf, L, P) kd on tw bx = _ := (show _ = kSnip (se, tu, ki, ma, re, kf, L, P) on tw by unfold kDoM; rw [if_neg hs4_103, if_neg hs4_107, if_neg hs4_110, if_neg hs4_112, if_pos hs4_120]).trans hq
            rw [hon, htw]
            refine ks_intcV2 hκ 97 dX7_does_97 kc_X7_150 (c_Model_snips hM hS hmd hve hvj) hM rfl (by decide) (Nat.le_of_ble_eq_true rfl) (by decide) (by decide) (fun r97 xh5 hp97 => ?_)
            obtain ⟨hr9, f2, hS, hF9, hmd2, hout2⟩ := hp97
            replace hM := hF9.at hM (by omega)
            replace hF := hF.tr (hF9.wd (by omega) (by omega))
            refine ks_iret hκ 100 hRt dX7_does_100 (by decide) (by decide) rfl ?_
            rw [hdo]
            exact ⟨_, rfl, hr9, f2, hS, hF, hmd2, hout2⟩
          · skip
            refine ks_lookup hκ 4 118 dX7_does_4 (off := 114) (by decide) (show Op.lookupswitch.offset [(103, 61), (107, 52), (110, 75), (112, 97), (120, 84)] 114 (Int32.toInt kd) = 114 by rw [lv_osw hs4_103 (show (nI 103).toInt = 103 by decide), lv_osw hs4_107 (show (nI 107).toInt = 107 by decide), lv_osw hs4_110 (show (nI 110).toInt = 110 by decide), lv_osw hs4_112 (show (nI 112).toInt = 112 by decide), lv_osw hs4_120 (show (nI 120).toInt = 120 by decide)]; rfl) rfl ?_
            refine ks_aload_n hκ 118 0 dX7_does_118 rfl ?_
            refine ks_iconst hκ 119 (nI 0) dX7_does_119 kq_i0 ?_
            refine ks_aload_n hκ 120 0 dX7_does_120 rfl ?_
            refine ks_get hκ 121 dX7_does_121 kf_X7_232 hM rfl ?_
            unfold kErM at her
            rw [if_neg hs4_103, if_neg hs4_107, if_neg hs4_110, if_neg hs4_112, if_neg hs4_120] at her
            obtain ⟨vn, hvn1, hvn, hon, -, hq⟩ := kPasE_ok (σ := (se, tu, ki, ma, re, kf, L, P)) her
            have hdo : kDoM (se, tu, ki, ma, re, kf, L, P) kd on tw bx = _ := (show _ = kPassT (se, tu, ki, ma, re, kf, L, P) on by unfold kDoM; rw [if_neg hs4_103, if_neg hs4_107, if_neg hs4_110, if_neg hs4_112, if_neg hs4_120]).trans hq
            rw [hon]
            refine ks_intcV2 hκ 124 dX7_does_124 kc_X7_162 (c_Model_turns (b := 0) hM hS (by decide) hmd hok hbal hvn) hM rfl (by decide) (Nat.le_of_ble_eq_true rfl) (by decide) (by decide) (fun r124 xh6 hp124 => ?_)
            obtain ⟨hr9, f2, hS, hF9, hmd2, hout2⟩ := hp124
            replace hM := hF9.at hM (by omega)
            replace hF := hF.tr (hF9.wd (by omega) (by omega))
            refine ks_iret hκ 127 hRt dX7_does_127 (by decide) (by decide) rfl ?_
            rw [hdo]
            exact ⟨_, rfl, hr9, f2, hS, hF, hmd2, hout2⟩
