/-- a switch over 0 to hi, -2 elsewhere -/
def kSw (hi : Nat) (f : Nat → Int32) (z : Int32) : Int32 := if z.toInt < ((0 : Nat) : Int) then -2 else if ((hi : Nat) : Int) < z.toInt then -2 else f z.toNatClampNeg
theorem kSw_lo {hi : Nat} {f : Nat → Int32} {z : Int32} (q : z.toInt < ((0 : Nat) : Int)) : kSw hi f z = -2 := if_pos q
theorem kSw_hi {hi : Nat} {f : Nat → Int32} {z : Int32} (q : ((hi : Nat) : Int) < z.toInt) : kSw hi f z = -2 := by
  unfold kSw
  rw [if_neg (by omega), if_pos q]
theorem kSw_in {hi j : Nat} {f : Nat → Int32} (q : j ≤ hi) (r : hi < 2 ^ 31) : kSw hi f (nI j) = f j := by
  have h1 : (nI j).toInt = (j : Int) := nI_toInt (by omega)
  unfold kSw
  rw [if_neg (by omega), if_neg (by omega), nI_clamp (by omega)]
def kOfN (σ : kS) (k : Nat) : Nat → Int32
  | 0 => σ.2.2.2.2.2.1 0 k
  | 1 => σ.2.2.2.2.2.1 1 k
  | 2 => σ.2.2.2.2.2.1 2 k
  | 3 => σ.2.2.2.2.2.1 3 k
  | 4 => nI (kOf k σ.2.2.2.2.2.2.1)
  | 5 => σ.2.2.2.2.2.1 4 k
  | 6 => σ.2.2.2.2.2.1 5 k
  | 7 => σ.2.2.2.2.2.1 6 k
  | 8 => kBSet σ k
  | _ => kReach σ k
def kOfQ (σ : kS) (x z : Int32) : Int32 := if kHas σ.2.2.1 x = 0 then -1 else kSw 9 (kOfN σ x.toNatClampNeg) z
def kEdN (σ : kS) (e : Nat) : Nat → Int32
  | 0 => nI (kAt e σ.2.2.2.2.2.2.1)
  | 1 => kON (kTop e σ.2.2.2.2.2.2.1)
  | 2 => kSet e σ.2.2.2.2.2.2.1
  | _ => nI (kPairs σ (kBit e))
def kEdQ (σ : kS) (x z : Int32) : Int32 := if kIsE x = 0 then -1 else kSw 3 (kEdN σ x.toNatClampNeg) z
def kStQ (σ : kS) (x z : Int32) : Int32 := if kIsE x = 0 then -1 else kRank x.toNatClampNeg z σ.2.2.2.2.2.2.1 0
def kBnQ (σ : kS) (x z : Int32) : Int32 := if kHas σ.2.2.1 x = 0 then -1 else if kHas σ.2.2.1 z = 0 then -1 else if x = z then -2 else kBes x.toNatClampNeg z.toNatClampNeg σ.2.2.2.2.2.2.1
def kPlN (p : kP) : Nat → Int32
  | 0 => p.1
  | 1 => nI p.2.1
  | _ => p.2.2 + nI 100
def kPlQ (σ : kS) (x z : Int32) : Int32 := if x < 0 then -1 else if nI σ.2.2.2.2.2.2.2.length ≤ x then -1 else match σ.2.2.2.2.2.2.2[x.toNatClampNeg]? with
  | none => -1
  | some p => kSw 2 (kPlN p) z
def kCnN (σ : kS) (a b : Nat) : Nat → Int32
  | 0 => σ.2.1
  | 1 => nI σ.2.2.1
  | 2 => kNapSet σ
  | 3 => nI σ.2.2.2.2.2.2.1.length
  | 4 => kSum σ.2.2.1 (σ.2.2.2.2.2.1 4)
  | 5 => kSum σ.2.2.1 (σ.2.2.2.2.2.1 5)
  | 6 => kSum σ.2.2.1 (σ.2.2.2.2.2.1 6)
  | 7 => nI (kPairs σ (nI 32767))
  | 8 => σ.2.2.2.1
  | 9 => σ.2.2.2.2.1
  | 10 => nI σ.2.2.2.2.2.2.2.length
  | 11 => σ.1 0
  | 12 => σ.1 1
  | 13 => σ.1 2
  | 14 => σ.1 3
  | 15 => nI a
  | _ => nI b
def kCnQ (σ : kS) (a b : Nat) (z : Int32) : Int32 := kSw 16 (kCnN σ a b) z
def kWhQ (σ : kS) (x z : Int32) : Int32 := if kHas σ.2.2.1 x = 0 then -1 else if kIsL z = 0 then -2 else kRef σ x.toNatClampNeg z
def kQuQ (σ : kS) : Int32 := kMaxI (kMaxI (kWaking σ) (kLast σ.2.2.2.2.2.2.2) - σ.2.1) (nI 0)
def kFrS (L : List (Nat × Nat)) (a b : Nat) (s : Int32) (e : Nat) : Int32 := s + kGone e a b L
def kFrees (L : List (Nat × Nat)) (a b : Nat) : Int32 := (List.range 15).foldl (kFrS L a b) (nI 0)
def kFrQ (σ : kS) (x z : Int32) : Int32 := if kHas σ.2.2.1 x = 0 then -1 else if kHas σ.2.2.1 z = 0 then -1 else if x = z then -2 else kFrees σ.2.2.2.2.2.2.1 x.toNatClampNeg z.toNatClampNeg
def kThS (L : List (Nat × Nat)) (a : Int32 × Nat) (e : Nat) : Int32 × Nat := if kAt e L ≤ a.2 then a else (nI e, kAt e L)
def kThQ (σ : kS) : Int32 := ((List.range 15).foldl (kThS σ.2.2.2.2.2.2.1) ((-6 : Int32), 0)).1
theorem kAt_le0 (e : Nat) : ∀ (L : List (Nat × Nat)) (a : Nat), L.foldl (kAtS e) a ≤ a + L.length := by
  intro L
  induction L with
  | nil => intro a; exact Nat.le_refl _
  | cons p L ih =>
    intro a
    rw [List.foldl_cons, List.length_cons]
    have := ih (kAtS e a p)
    have h2 : kAtS e a p ≤ a + 1 := by unfold kAtS; split <;> omega
    omega
theorem kAt_le (e : Nat) (L : List (Nat × Nat)) : kAt e L ≤ L.length := by
  have := kAt_le0 e L 0
  unfold kAt
  omega
set_option maxRecDepth 100000 in
set_option maxHeartbeats 4000000 in
theorem c_of {g : ks_G} {h : ks_H} {o : Nat} {X : Nat → Prop} {se : Nat → Int32} {tu : Int32} {ki : Nat} {ma re : Int32} {kf : Nat → Nat → Int32} {L : List (Nat × Nat)} {P : List kP} {H : List kS} {S : Nat → Option kS} {l : List Int32} {δ : Option kS} {x z : Int32} (hks : kKS g h o X (se, tu, ki, ma, re, kf, L, P) δ H S l) (hok : kOk2 (se, tu, ki, ma, re, kf, L, P)) : ks_Met g (yX6_of, cX6_of, 3, some .int) 4 0 0 [ks_ref g o, .int x, .int z] h (ks_Pi (kOfQ (se, tu, ki, ma, re, kf, L, P) x z) h) := by
  have hks0 := hks
  have hol := hks.len
  obtain ⟨τ, dp, F, G, Q, LT, PT, vs, vn, hO, hnow, htri, hH, hF7, hG2, hpad, hord, hrooms, hring, hX⟩ := hks
  obtain ⟨hdp, hHl, hrH, hrD, hrS⟩ := id hring
  have hst0 := hnow
  obtain ⟨h0, h1, h2, h3, h4, h5, h6, h7, h8, hyarn, hplans, hki⟩ := hnow
  dsimp only at h0 h1 h2 h3 h4 h5 h6 h7 h8 hyarn hplans hki
  obtain ⟨YE, YO, hY, hYE, hYO, hYEO, hYL, hYp⟩ := id hyarn
  obtain ⟨PT1, PK1, PB1, hQ, hPT, hPK, hPB, hPEO, hPl, hPk⟩ := id hplans
  obtain ⟨DT, hD, -, -, hDl⟩ := id hpad
  refine ks_intro (by decide) (Nat.le_of_ble_eq_true rfl) (fun κ hκ hRt => ?_)
  refine ks_cv (ls := [(0, ks_ref g o), (1, .int x), (2, .int z)]) ?_ rfl rfl rfl
  refine ks_aload_n hκ 0 0 dX6_of_0 rfl ?_
  refine ks_get hκ 1 dX6_of_1 kf_X6_12 hO rfl ?_
  refine ks_iload_n hκ 4 1 dX6_of_4 rfl ?_
  refine ks_pureV1 hκ 5 dX6_of_5 kc_X6_75 (c_Stairs_hasKitten hst0) h0 rfl (by decide) (Nat.le_of_ble_eq_true rfl) (by decide) (by decide) ?_
  refine ks_if_ne hκ 8 13 dX6_of_8 rfl (fun c8 => ?_) (fun c8 => ?_)
  · skip
    obtain ⟨vj, hvj, rfl⟩ := kHas_1 c8 hki
    obtain ⟨vs, hvs, hvs2⟩ := hok.1 vj hvj
    refine ks_iload_n hκ 13 2 dX6_of_13 rfl ?_
    rcases ks_sw z 0 9 (by decide) with hs14 | hs14 | ⟨sj14, ha14, hb14, hs14⟩
    · skip
      refine ks_tableOut hκ 14 168 dX6_of_14 (Or.inl hs14) rfl ?_
      refine ks_bipush hκ 168 (-2) dX6_of_168 kq_bm2 ?_
      refine ks_iret hκ 170 hRt dX6_of_170 (by decide) (by decide) rfl ?_
      refine ⟨?_, rfl⟩
      unfold kOfQ
      rw [if_neg c8, nI_clamp (by omega)]
      first | rw [kSw_lo hs14] | rw [kSw_hi hs14]
    · skip
      refine ks_tableOut hκ 14 168 dX6_of_14 (Or.inr hs14) rfl ?_
      refine ks_bipush hκ 168 (-2) dX6_of_168 kq_bm2 ?_
      refine ks_iret hκ 170 hRt dX6_of_170 (by decide) (by decide) rfl ?_
      refine ⟨?_, rfl⟩
      unfold kOfQ
      rw [if_neg c8, nI_clamp (by omega)]
      first | rw [kSw_lo hs14] | rw [kSw_hi hs14]
    · skip
      rcases (show sj14 = 0 ∨ sj14 = 1 ∨ sj14 = 2 ∨ sj14 = 3 ∨ sj14 = 4 ∨ sj14 = 5 ∨ sj14 = 6 ∨ sj14 = 7 ∨ sj14 = 8 ∨ sj14 = 9 by omega) with rfl | rfl | rfl | rfl | rfl | rfl | rfl | rfl | rfl | rfl
      · skip
        refine ks_top (nI 0) hs14 ?_
        refine ks_tableIn hκ 14 68 dX6_of_14 (off := 54) (by decide) (by decide) (by decide) rfl ?_
        refine ks_aload_n hκ 68 0 dX6_of_68 rfl ?_
        refine ks_get hκ 69 dX6_of_69 kf_X6_12 hO rfl ?_
        refine ks_get hκ 72 dX6_of_72 kf_X6_79 h0 rfl ?_
        refine ks_iload_n hκ 75 1 dX6_of_75 rfl ?_
        refine ks_iald hκ 76 (vj) dX6_of_76 h2 rfl (by omega) (by decide) ?_
        refine ks_iret hκ 77 hRt dX6_of_77 (by decide) (by decide) rfl ?_
        refine ⟨?_, rfl⟩
        unfold kOfQ
        rw [if_neg c8, nI_clamp (by omega)]
        rw [hs14, kSw_in (by decide) (by decide)]
        rfl
      · skip
        refine ks_top (nI 1) hs14 ?_
        refine ks_tableIn hκ 14 78 dX6_of_14 (off := 64) (by decide) (by decide) (by decide) rfl ?_
        refine ks_aload_n hκ 78 0 dX6_of_78 rfl ?_
        refine ks_get hκ 79 dX6_of_79 kf_X6_12 hO rfl ?_
        refine ks_get hκ 82 dX6_of_82 kf_X6_83 h0 rfl ?_
        refine ks_iload_n hκ 85 1 dX6_of_85 rfl ?_
        refine ks_iald hκ 86 (vj) dX6_of_86 h3 rfl (by omega) (by decide) ?_
        refine ks_iret hκ 87 hRt dX6_of_87 (by decide) (by decide) rfl ?_
        refine ⟨?_, rfl⟩
        unfold kOfQ
        rw [if_neg c8, nI_clamp (by omega)]
        rw [hs14, kSw_in (by decide) (by decide)]
        rfl
      · skip
        refine ks_top (nI 2) hs14 ?_
        refine ks_tableIn hκ 14 88 dX6_of_14 (off := 74) (by decide) (by decide) (by decide) rfl ?_
        refine ks_aload_n hκ 88 0 dX6_of_88 rfl ?_
        refine ks_get hκ 89 dX6_of_89 kf_X6_12 hO rfl ?_
        refine ks_get hκ 92 dX6_of_92 kf_X6_86 h0 rfl ?_
        refine ks_iload_n hκ 95 1 dX6_of_95 rfl ?_
        refine ks_iald hκ 96 (vj) dX6_of_96 h4 rfl (by omega) (by decide) ?_
        refine ks_iret hκ 97 hRt dX6_of_97 (by decide) (by decide) rfl ?_
        refine ⟨?_, rfl⟩
        unfold kOfQ
        rw [if_neg c8, nI_clamp (by omega)]
        rw [hs14, kSw_in (by decide) (by decide)]
        rfl
      · skip
        refine ks_top (nI 3) hs14 ?_
        refine ks_tableIn hκ 14 98 dX6_of_14 (off := 84) (by decide) (by decide) (by decide) rfl ?_
        refine ks_aload_n hκ 98 0 dX6_of_98 rfl ?_
        refine ks_get hκ 99 dX6_of_99 kf_X6_12 hO rfl ?_
        refine ks_get hκ 102 dX6_of_102 kf_X6_89 h0 rfl ?_
        refine ks_iload_n hκ 105 1 dX6_of_105 rfl ?_
        refine ks_iald hκ 106 (vj) dX6_of_106 h5 rfl (by omega) (by decide) ?_
        refine ks_iret hκ 107 hRt dX6_of_107 (by decide) (by decide) rfl ?_
        refine ⟨?_, rfl⟩
        unfold kOfQ
        rw [if_neg c8, nI_clamp (by omega)]
        rw [hs14, kSw_in (by decide) (by decide)]
        rfl
      · skip
        refine ks_top (nI 4) hs14 ?_
        refine ks_tableIn hκ 14 108 dX6_of_14 (off := 94) (by decide) (by decide) (by decide) rfl ?_
        refine ks_aload_n hκ 108 0 dX6_of_108 rfl ?_
        refine ks_get hκ 109 dX6_of_109 kf_X6_12 hO rfl ?_
        refine ks_get hκ 112 dX6_of_112 kf_X6_92 h0 rfl ?_
        refine ks_iload_n hκ 115 1 dX6_of_115 rfl ?_
        refine ks_pureV1 hκ 116 dX6_of_116 kc_X6_96 (c_Yarn_lyingOf hyarn (by omega)) hY rfl (by decide) (Nat.le_of_ble_eq_true rfl) (by decide) (by decide) ?_
        refine ks_iret hκ 119 hRt dX6_of_119 (by decide) (by decide) rfl ?_
        refine ⟨?_, rfl⟩
        unfold kOfQ
        rw [if_neg c8, nI_clamp (by omega)]
        rw [hs14, kSw_in (by decide) (by decide)]
        rfl
      · skip
        refine ks_top (nI 5) hs14 ?_
        refine ks_tableIn hκ 14 120 dX6_of_14 (off := 106) (by decide) (by decide) (by decide) rfl ?_
        refine ks_aload_n hκ 120 0 dX6_of_120 rfl ?_
        refine ks_get hκ 121 dX6_of_121 kf_X6_12 hO rfl ?_
        refine ks_get hκ 124 dX6_of_124 kf_X6_101 h0 rfl ?_
        refine ks_iload_n hκ 127 1 dX6_of_127 rfl ?_
        refine ks_iald hκ 128 (vj) dX6_of_128 h6 rfl (by omega) (by decide) ?_
        refine ks_iret hκ 129 hRt dX6_of_129 (by decide) (by decide) rfl ?_
        refine ⟨?_, rfl⟩
        unfold kOfQ
        rw [if_neg c8, nI_clamp (by omega)]
        rw [hs14, kSw_in (by decide) (by decide)]
        rfl
      · skip
        refine ks_top (nI 6) hs14 ?_
        refine ks_tableIn hκ 14 130 dX6_of_14 (off := 116) (by decide) (by decide) (by decide) rfl ?_
        refine ks_aload_n hκ 130 0 dX6_of_130 rfl ?_
        refine ks_get hκ 131 dX6_of_131 kf_X6_12 hO rfl ?_
        refine ks_get hκ 134 dX6_of_134 kf_X6_104 h0 rfl ?_
        refine ks_iload_n hκ 137 1 dX6_of_137 rfl ?_
        refine ks_iald hκ 138 (vj) dX6_of_138 h7 rfl (by omega) (by decide) ?_
        refine ks_iret hκ 139 hRt dX6_of_139 (by decide) (by decide) rfl ?_
        refine ⟨?_, rfl⟩
        unfold kOfQ
        rw [if_neg c8, nI_clamp (by omega)]
        rw [hs14, kSw_in (by decide) (by decide)]
        rfl
      · skip
        refine ks_top (nI 7) hs14 ?_
        refine ks_tableIn hκ 14 140 dX6_of_14 (off := 126) (by decide) (by decide) (by decide) rfl ?_
        refine ks_aload_n hκ 140 0 dX6_of_140 rfl ?_
        refine ks_get hκ 141 dX6_of_141 kf_X6_12 hO rfl ?_
        refine ks_get hκ 144 dX6_of_144 kf_X6_107 h0 rfl ?_
        refine ks_iload_n hκ 147 1 dX6_of_147 rfl ?_
        refine ks_iald hκ 148 (vj) dX6_of_148 h8 rfl (by omega) (by decide) ?_
        refine ks_iret hκ 149 hRt dX6_of_149 (by decide) (by decide) rfl ?_
        refine ⟨?_, rfl⟩
        unfold kOfQ
        rw [if_neg c8, nI_clamp (by omega)]
        rw [hs14, kSw_in (by decide) (by decide)]
        rfl
      · skip
        refine ks_top (nI 8) hs14 ?_
        refine ks_tableIn hκ 14 150 dX6_of_14 (off := 136) (by decide) (by decide) (by decide) rfl ?_
        refine ks_aload_n hκ 150 0 dX6_of_150 rfl ?_
        refine ks_get hκ 151 dX6_of_151 kf_X6_12 hO rfl ?_
        refine ks_iload_n hκ 154 1 dX6_of_154 rfl ?_
        refine ks_pureV1 hκ 155 dX6_of_155 kc_X6_110 (c_Stairs_boundSet hst0 (by omega)) h0 rfl (by decide) (Nat.le_of_ble_eq_true rfl) (by decide) (by decide) ?_
        refine ks_iret hκ 158 hRt dX6_of_158 (by decide) (by decide) rfl ?_
        refine ⟨?_, rfl⟩
        unfold kOfQ
        rw [if_neg c8, nI_clamp (by omega)]
        rw [hs14, kSw_in (by decide) (by decide)]
        rfl
      · skip
        refine ks_top (nI 9) hs14 ?_
        refine ks_tableIn hκ 14 159 dX6_of_14 (off := 145) (by decide) (by decide) (by decide) rfl ?_
        refine ks_aload_n hκ 159 0 dX6_of_159 rfl ?_
        refine ks_get hκ 160 dX6_of_160 kf_X6_12 hO rfl ?_
        refine ks_iload_n hκ 163 1 dX6_of_163 rfl ?_
        refine ks_pureV1 hκ 164 dX6_of_164 kc_X6_113 (c_Stairs_reachSet hst0 hvj hvs hvs2) h0 rfl (by decide) (Nat.le_of_ble_eq_true rfl) (by decide) (by decide) ?_
        refine ks_iret hκ 167 hRt dX6_of_167 (by decide) (by decide) rfl ?_
        refine ⟨?_, rfl⟩
        unfold kOfQ
        rw [if_neg c8, nI_clamp (by omega)]
        rw [hs14, kSw_in (by decide) (by decide)]
        rfl
  · skip
    refine ks_iconst hκ 11 (-1) dX6_of_11 kq_im1 ?_
    refine ks_iret hκ 12 hRt dX6_of_12 (by decide) (by decide) rfl ?_
    refine ⟨?_, rfl⟩
    unfold kOfQ
    rw [if_pos c8]
set_option maxRecDepth 100000 in
set_option maxHeartbeats 4000000 in
theorem c_ofEdge {g : ks_G} {h : ks_H} {o : Nat} {X : Nat → Prop} {se : Nat → Int32} {tu : Int32} {ki : Nat} {ma re : Int32} {kf : Nat → Nat → Int32} {L : List (Nat × Nat)} {P : List kP} {H : List kS} {S : Nat → Option kS} {l : List Int32} {δ : Option kS} {x z : Int32} (hks : kKS g h o X (se, tu, ki, ma, re, kf, L, P) δ H S l) : ks_Met g (yX6_ofEdge, cX6_ofEdge, 3, some .int) 2 0 0 [ks_ref g o, .int x, .int z] h (ks_Pi (kEdQ (se, tu, ki, ma, re, kf, L, P) x z) h) := by
  have hks0 := hks
  have hol := hks.len
  obtain ⟨τ, dp, F, G, Q, LT, PT, vs, vn, hO, hnow, htri, hH, hF7, hG2, hpad, hord, hrooms, hring, hX⟩ := hks
  obtain ⟨hdp, hHl, hrH, hrD, hrS⟩ := id hring
  have hst0 := hnow
  obtain ⟨h0, h1, h2, h3, h4, h5, h6, h7, h8, hyarn, hplans, hki⟩ := hnow
  dsimp only at h0 h1 h2 h3 h4 h5 h6 h7 h8 hyarn hplans hki
  obtain ⟨YE, YO, hY, hYE, hYO, hYEO, hYL, hYp⟩ := id hyarn
  obtain ⟨PT1, PK1, PB1, hQ, hPT, hPK, hPB, hPEO, hPl, hPk⟩ := id hplans
  obtain ⟨DT, hD, -, -, hDl⟩ := id hpad
  refine ks_intro (by decide) (Nat.le_of_ble_eq_true rfl) (fun κ hκ hRt => ?_)
  refine ks_cv (ls := [(0, ks_ref g o), (1, .int x), (2, .int z)]) ?_ rfl rfl rfl
  refine ks_iload_n hκ 0 1 dX6_ofEdge_0 rfl ?_
  refine ks_pureS1 hκ 1 dX6_ofEdge_1 kc_X6_116 (c_isEdge) (by decide) (Nat.le_of_ble_eq_true rfl) (by decide) (by decide) ?_
  refine ks_if_ne hκ 4 9 dX6_ofEdge_4 rfl (fun c4 => ?_) (fun c4 => ?_)
  · skip
    obtain ⟨vj, hvj, rfl⟩ := kIsE_1 c4
    refine ks_iload_n hκ 9 2 dX6_ofEdge_9 rfl ?_
    rcases ks_sw z 0 3 (by decide) with hs10 | hs10 | ⟨sj10, ha10, hb10, hs10⟩
    · skip
      refine ks_tableOut hκ 10 87 dX6_ofEdge_10 (Or.inl hs10) rfl ?_
      refine ks_bipush hκ 87 (-2) dX6_ofEdge_87 kq_bm2 ?_
      refine ks_iret hκ 89 hRt dX6_ofEdge_89 (by decide) (by decide) rfl ?_
      refine ⟨?_, rfl⟩
      unfold kEdQ
      rw [if_neg c4, nI_clamp (by omega)]
      first | rw [kSw_lo hs10] | rw [kSw_hi hs10]
    · skip
      refine ks_tableOut hκ 10 87 dX6_ofEdge_10 (Or.inr hs10) rfl ?_
      refine ks_bipush hκ 87 (-2) dX6_ofEdge_87 kq_bm2 ?_
      refine ks_iret hκ 89 hRt dX6_ofEdge_89 (by decide) (by decide) rfl ?_
      refine ⟨?_, rfl⟩
      unfold kEdQ
      rw [if_neg c4, nI_clamp (by omega)]
      first | rw [kSw_lo hs10] | rw [kSw_hi hs10]
    · skip
      rcases (show sj10 = 0 ∨ sj10 = 1 ∨ sj10 = 2 ∨ sj10 = 3 by omega) with rfl | rfl | rfl | rfl
      · skip
        refine ks_top (nI 0) hs10 ?_
        refine ks_tableIn hκ 10 40 dX6_ofEdge_10 (off := 30) (by decide) (by decide) (by decide) rfl ?_
        refine ks_aload_n hκ 40 0 dX6_ofEdge_40 rfl ?_
        refine ks_get hκ 41 dX6_ofEdge_41 kf_X6_12 hO rfl ?_
        refine ks_get hκ 44 dX6_ofEdge_44 kf_X6_92 h0 rfl ?_
        refine ks_iload_n hκ 47 1 dX6_ofEdge_47 rfl ?_
        refine ks_pureV1 hκ 48 dX6_ofEdge_48 kc_X6_119 (c_Yarn_lyingAt hyarn (by omega)) hY rfl (by decide) (Nat.le_of_ble_eq_true rfl) (by decide) (by decide) ?_
        refine ks_iret hκ 51 hRt dX6_ofEdge_51 (by decide) (by decide) rfl ?_
        refine ⟨?_, rfl⟩
        unfold kEdQ
        rw [if_neg c4, nI_clamp (by omega)]
        rw [hs10, kSw_in (by decide) (by decide)]
        rfl
      · skip
        refine ks_top (nI 1) hs10 ?_
        refine ks_tableIn hκ 10 52 dX6_ofEdge_10 (off := 42) (by decide) (by decide) (by decide) rfl ?_
        refine ks_aload_n hκ 52 0 dX6_ofEdge_52 rfl ?_
        refine ks_get hκ 53 dX6_ofEdge_53 kf_X6_12 hO rfl ?_
        refine ks_get hκ 56 dX6_ofEdge_56 kf_X6_92 h0 rfl ?_
        refine ks_iload_n hκ 59 1 dX6_ofEdge_59 rfl ?_
        refine ks_pureV1 hκ 60 dX6_ofEdge_60 kc_X6_122 (c_Yarn_topOwner hyarn (by omega)) hY rfl (by decide) (Nat.le_of_ble_eq_true rfl) (by decide) (by decide) ?_
        refine ks_iret hκ 63 hRt dX6_ofEdge_63 (by decide) (by decide) rfl ?_
        refine ⟨?_, rfl⟩
        unfold kEdQ
        rw [if_neg c4, nI_clamp (by omega)]
        rw [hs10, kSw_in (by decide) (by decide)]
        rfl
      · skip
        refine ks_top (nI 2) hs10 ?_
        refine ks_tableIn hκ 10 64 dX6_ofEdge_10 (off := 54) (by decide) (by decide) (by decide) rfl ?_
        refine ks_aload_n hκ 64 0 dX6_ofEdge_64 rfl ?_
        refine ks_get hκ 65 dX6_ofEdge_65 kf_X6_12 hO rfl ?_
        refine ks_get hκ 68 dX6_ofEdge_68 kf_X6_92 h0 rfl ?_
        refine ks_iload_n hκ 71 1 dX6_ofEdge_71 rfl ?_
        refine ks_pureV1 hκ 72 dX6_ofEdge_72 kc_X6_125 (c_Yarn_ownerSetAt hyarn (by omega)) hY rfl (by decide) (Nat.le_of_ble_eq_true rfl) (by decide) (by decide) ?_
        refine ks_iret hκ 75 hRt dX6_ofEdge_75 (by decide) (by decide) rfl ?_
        refine ⟨?_, rfl⟩
        unfold kEdQ
        rw [if_neg c4, nI_clamp (by omega)]
        rw [hs10, kSw_in (by decide) (by decide)]
        rfl
      · skip
        refine ks_top (nI 3) hs10 ?_
        refine ks_tableIn hκ 10 76 dX6_ofEdge_10 (off := 66) (by decide) (by decide) (by decide) rfl ?_
        refine ks_aload_n hκ 76 0 dX6_ofEdge_76 rfl ?_
        refine ks_get hκ 77 dX6_ofEdge_77 kf_X6_12 hO rfl ?_
        refine ks_iconst hκ 80 (nI 1) dX6_ofEdge_80 kq_i1 ?_
        refine ks_iload_n hκ 81 1 dX6_ofEdge_81 rfl ?_
        refine ks_ishl hκ 82 dX6_ofEdge_82 ?_
        refine ks_pureV1 hκ 83 dX6_ofEdge_83 kc_X6_128 (c_Stairs_boundPairs hst0) h0 rfl (by decide) (Nat.le_of_ble_eq_true rfl) (by decide) (by decide) ?_
        refine ks_iret hκ 86 hRt dX6_ofEdge_86 (by decide) (by decide) rfl ?_
        refine ⟨?_, rfl⟩
        unfold kEdQ
        rw [if_neg c4, nI_clamp (by omega)]
        rw [hs10, kSw_in (by decide) (by decide)]
        rfl
  · skip
    refine ks_iconst hκ 7 (-1) dX6_ofEdge_7 kq_im1 ?_
    refine ks_iret hκ 8 hRt dX6_ofEdge_8 (by decide) (by decide) rfl ?_
    refine ⟨?_, rfl⟩
    unfold kEdQ
    rw [if_pos c4]
set_option maxRecDepth 100000 in
set_option maxHeartbeats 4000000 in
theorem c_strand {g : ks_G} {h : ks_H} {o : Nat} {X : Nat → Prop} {se : Nat → Int32} {tu : Int32} {ki : Nat} {ma re : Int32} {kf : Nat → Nat → Int32} {L : List (Nat × Nat)} {P : List kP} {H : List kS} {S : Nat → Option kS} {l : List Int32} {δ : Option kS} {x z : Int32} (hks : kKS g h o X (se, tu, ki, ma, re, kf, L, P) δ H S l) : ks_Met g (yX6_strand, cX6_strand, 3, some .int) 1 0 0 [ks_ref g o, .int x, .int z] h (ks_Pi (kStQ (se, tu, ki, ma, re, kf, L, P) x z) h) := by
  have hks0 := hks
  have hol := hks.len
  obtain ⟨τ, dp, F, G, Q, LT, PT, vs, vn, hO, hnow, htri, hH, hF7, hG2, hpad, hord, hrooms, hring, hX⟩ := hks
  obtain ⟨hdp, hHl, hrH, hrD, hrS⟩ := id hring
  have hst0 := hnow
  obtain ⟨h0, h1, h2, h3, h4, h5, h6, h7, h8, hyarn, hplans, hki⟩ := hnow
  dsimp only at h0 h1 h2 h3 h4 h5 h6 h7 h8 hyarn hplans hki
  obtain ⟨YE, YO, hY, hYE, hYO, hYEO, hYL, hYp⟩ := id hyarn
  obtain ⟨PT1, PK1, PB1, hQ, hPT, hPK, hPB, hPEO, hPl, hPk⟩ := id hplans
  obtain ⟨DT, hD, -, -, hDl⟩ := id hpad
  refine ks_intro (by decide) (Nat.le_of_ble_eq_true rfl) (fun κ hκ hRt => ?_)
  refine ks_cv (ls := [(0, ks_ref g o), (1, .int x), (2, .int z)]) ?_ rfl rfl rfl
  refine ks_iload_n hκ 0 1 dX6_strand_0 rfl ?_
  refine ks_pureS1 hκ 1 dX6_strand_1 kc_X6_116 (c_isEdge) (by decide) (Nat.le_of_ble_eq_true rfl) (by decide) (by decide) ?_
  refine ks_if_ne hκ 4 9 dX6_strand_4 rfl (fun c4 => ?_) (fun c4 => ?_)
  · skip
    obtain ⟨vj, hvj, rfl⟩ := kIsE_1 c4
    refine ks_aload_n hκ 9 0 dX6_strand_9 rfl ?_
    refine ks_get hκ 10 dX6_strand_10 kf_X6_12 hO rfl ?_
    refine ks_get hκ 13 dX6_strand_13 kf_X6_92 h0 rfl ?_
    refine ks_iload_n hκ 16 1 dX6_strand_16 rfl ?_
    refine ks_iload_n hκ 17 2 dX6_strand_17 rfl ?_
    refine ks_pureV2 hκ 18 dX6_strand_18 kc_X6_131 (c_Yarn_ownerAt hyarn (by omega)) hY rfl (by decide) (Nat.le_of_ble_eq_true rfl) (by decide) (by decide) ?_
    refine ks_iret hκ 21 hRt dX6_strand_21 (by decide) (by decide) rfl ?_
    refine ⟨?_, rfl⟩
    unfold kStQ
    rw [if_neg c4, nI_clamp (by omega)]
  · skip
    refine ks_iconst hκ 7 (-1) dX6_strand_7 kq_im1 ?_
    refine ks_iret hκ 8 hRt dX6_strand_8 (by decide) (by decide) rfl ?_
    refine ⟨?_, rfl⟩
    unfold kStQ
    rw [if_pos c4]
set_option maxRecDepth 100000 in
set_option maxHeartbeats 4000000 in
theorem c_bound {g : ks_G} {h : ks_H} {o : Nat} {X : Nat → Prop} {se : Nat → Int32} {tu : Int32} {ki : Nat} {ma re : Int32} {kf : Nat → Nat → Int32} {L : List (Nat × Nat)} {P : List kP} {H : List kS} {S : Nat → Option kS} {l : List Int32} {δ : Option kS} {x z : Int32} (hks : kKS g h o X (se, tu, ki, ma, re, kf, L, P) δ H S l) : ks_Met g (yX6_bound, cX6_bound, 3, some .int) 1 0 0 [ks_ref g o, .int x, .int z] h (ks_Pi (kBnQ (se, tu, ki, ma, re, kf, L, P) x z) h) := by
  have hks0 := hks
  have hol := hks.len
  obtain ⟨τ, dp, F, G, Q, LT, PT, vs, vn, hO, hnow, htri, hH, hF7, hG2, hpad, hord, hrooms, hring, hX⟩ := hks
  obtain ⟨hdp, hHl, hrH, hrD, hrS⟩ := id hring
  have hst0 := hnow
  obtain ⟨h0, h1, h2, h3, h4, h5, h6, h7, h8, hyarn, hplans, hki⟩ := hnow
  dsimp only at h0 h1 h2 h3 h4 h5 h6 h7 h8 hyarn hplans hki
  obtain ⟨YE, YO, hY, hYE, hYO, hYEO, hYL, hYp⟩ := id hyarn
  obtain ⟨PT1, PK1, PB1, hQ, hPT, hPK, hPB, hPEO, hPl, hPk⟩ := id hplans
  obtain ⟨DT, hD, -, -, hDl⟩ := id hpad
  refine ks_intro (by decide) (Nat.le_of_ble_eq_true rfl) (fun κ hκ hRt => ?_)
  refine ks_cv (ls := [(0, ks_ref g o), (1, .int x), (2, .int z)]) ?_ rfl rfl rfl
  refine ks_aload_n hκ 0 0 dX6_bound_0 rfl ?_
  refine ks_get hκ 1 dX6_bound_1 kf_X6_12 hO rfl ?_
  refine ks_iload_n hκ 4 1 dX6_bound_4 rfl ?_
  refine ks_pureV1 hκ 5 dX6_bound_5 kc_X6_75 (c_Stairs_hasKitten hst0) h0 rfl (by decide) (Nat.le_of_ble_eq_true rfl) (by decide) (by decide) ?_
  refine ks_if_eq hκ 8 22 dX6_bound_8 rfl (fun c8 => ?_) (fun c8 => ?_)
  · skip
    refine ks_iconst hκ 22 (-1) dX6_bound_22 kq_im1 ?_
    refine ks_iret hκ 23 hRt dX6_bound_23 (by decide) (by decide) rfl ?_
    refine ⟨?_, rfl⟩
    unfold kBnQ
    first | rw [if_pos c8] | rw [if_neg c8, if_pos c19]
  · skip
    obtain ⟨vj, hvj, rfl⟩ := kHas_1 c8 hki
    refine ks_aload_n hκ 11 0 dX6_bound_11 rfl ?_
    refine ks_get hκ 12 dX6_bound_12 kf_X6_12 hO rfl ?_
    refine ks_iload_n hκ 15 2 dX6_bound_15 rfl ?_
    refine ks_pureV1 hκ 16 dX6_bound_16 kc_X6_75 (c_Stairs_hasKitten hst0) h0 rfl (by decide) (Nat.le_of_ble_eq_true rfl) (by decide) (by decide) ?_
    refine ks_if_ne hκ 19 24 dX6_bound_19 rfl (fun c19 => ?_) (fun c19 => ?_)
    · skip
      obtain ⟨vi, hvi, rfl⟩ := kHas_1 c19 hki
      refine ks_iload_n hκ 24 1 dX6_bound_24 rfl ?_
      refine ks_iload_n hκ 25 2 dX6_bound_25 rfl ?_
      refine ks_icmp_ne hκ 26 32 dX6_bound_26 rfl (fun c26 => ?_) (fun c26 => ?_)
      · skip
        refine ks_aload_n hκ 32 0 dX6_bound_32 rfl ?_
        refine ks_get hκ 33 dX6_bound_33 kf_X6_12 hO rfl ?_
        refine ks_get hκ 36 dX6_bound_36 kf_X6_92 h0 rfl ?_
        refine ks_iload_n hκ 39 1 dX6_bound_39 rfl ?_
        refine ks_iload_n hκ 40 2 dX6_bound_40 rfl ?_
        refine ks_pureV2 hκ 41 dX6_bound_41 kc_X6_134 (c_Yarn_boundEdgeSet hyarn (by omega) (by omega)) hY rfl (by decide) (Nat.le_of_ble_eq_true rfl) (by decide) (by decide) ?_
        refine ks_iret hκ 44 hRt dX6_bound_44 (by decide) (by decide) rfl ?_
        refine ⟨?_, rfl⟩
        unfold kBnQ
        rw [if_neg c8, if_neg c19, if_neg c26, nI_clamp (by omega), nI_clamp (by omega)]
      · skip
        refine ks_bipush hκ 29 (-2) dX6_bound_29 kq_bm2 ?_
        refine ks_iret hκ 31 hRt dX6_bound_31 (by decide) (by decide) rfl ?_
        refine ⟨?_, rfl⟩
        unfold kBnQ
        rw [if_neg c8, if_neg c19, if_pos c26]
    · skip
      refine ks_iconst hκ 22 (-1) dX6_bound_22 kq_im1 ?_
      refine ks_iret hκ 23 hRt dX6_bound_23 (by decide) (by decide) rfl ?_
      refine ⟨?_, rfl⟩
      unfold kBnQ
      first | rw [if_pos c8] | rw [if_neg c8, if_pos c19]
set_option maxRecDepth 100000 in
set_option maxHeartbeats 4000000 in
theorem c_planned {g : ks_G} {h : ks_H} {o : Nat} {X : Nat → Prop} {se : Nat → Int32} {tu : Int32} {ki : Nat} {ma re : Int32} {kf : Nat → Nat → Int32} {L : List (Nat × Nat)} {P : List kP} {H : List kS} {S : Nat → Option kS} {l : List Int32} {δ : Option kS} {x z : Int32} (hks : kKS g h o X (se, tu, ki, ma, re, kf, L, P) δ H S l) : ks_Met g (yX6_planned, cX6_planned, 3, some .int) 0 0 0 [ks_ref g o, .int x, .int z] h (ks_Pi (kPlQ (se, tu, ki, ma, re, kf, L, P) x z) h) := by
  have hks0 := hks
  have hol := hks.len
  obtain ⟨τ, dp, F, G, Q, LT, PT, vs, vn, hO, hnow, htri, hH, hF7, hG2, hpad, hord, hrooms, hring, hX⟩ := hks
  obtain ⟨hdp, hHl, hrH, hrD, hrS⟩ := id hring
  have hst0 := hnow
  obtain ⟨h0, h1, h2, h3, h4, h5, h6, h7, h8, hyarn, hplans, hki⟩ := hnow
  dsimp only at h0 h1 h2 h3 h4 h5 h6 h7 h8 hyarn hplans hki
  obtain ⟨YE, YO, hY, hYE, hYO, hYEO, hYL, hYp⟩ := id hyarn
  obtain ⟨PT1, PK1, PB1, hQ, hPT, hPK, hPB, hPEO, hPl, hPk⟩ := id hplans
  obtain ⟨DT, hD, -, -, hDl⟩ := id hpad
  refine ks_intro (by decide) (Nat.le_of_ble_eq_true rfl) (fun κ hκ hRt => ?_)
  refine ks_cv (ls := [(0, ks_ref g o), (1, .int x), (2, .int z)]) ?_ rfl rfl rfl
  refine ks_iload_n hκ 0 1 dX6_planned_0 rfl ?_
  refine ks_if_lt hκ 1 18 dX6_planned_1 rfl (fun c1 => ?_) (fun c1 => ?_)
  · skip
    refine ks_iconst hκ 18 (-1) dX6_planned_18 kq_im1 ?_
    refine ks_iret hκ 19 hRt dX6_planned_19 (by decide) (by decide) rfl ?_
    refine ⟨?_, rfl⟩
    unfold kPlQ
    first | rw [if_pos c1] | rw [if_neg c1, if_pos (show nI P.length ≤ x from Int32.not_lt.mp c15)]
  · skip
    refine ks_iload_n hκ 4 1 dX6_planned_4 rfl ?_
    refine ks_aload_n hκ 5 0 dX6_planned_5 rfl ?_
    refine ks_get hκ 6 dX6_planned_6 kf_X6_12 hO rfl ?_
    refine ks_get hκ 9 dX6_planned_9 kf_X6_137 h0 rfl ?_
    refine ks_get hκ 12 dX6_planned_12 kf_X6_141 hQ rfl ?_
    refine ks_icmp_lt hκ 15 20 dX6_planned_15 rfl (fun c15 => ?_) (fun c15 => ?_)
    · skip
      obtain ⟨vj, hvj, rfl⟩ : ∃ vj, vj < P.length ∧ x = nI vj := by
        rcases pk_ix x (n := P.length) (by omega) with q | q | ⟨j, q1, q2⟩
        · exact absurd q c1
        · exact absurd c15 (Int32.not_lt.mpr q)
        · exact ⟨j, q1, q2⟩
      obtain ⟨⟨pt, pk, pb⟩, hpj⟩ : ∃ p, P[vj]? = some p := ⟨_, List.getElem?_eq_getElem hvj⟩
      obtain ⟨hp1, hp2, hp3⟩ := hPEO _ _ _ _ hpj
      refine ks_iload_n hκ 20 2 dX6_planned_20 rfl ?_
      rcases ks_sw z 0 2 (by decide) with hs21 | hs21 | ⟨sj21, ha21, hb21, hs21⟩
      · skip
        refine ks_tableOut hκ 21 90 dX6_planned_21 (Or.inl hs21) rfl ?_
        refine ks_bipush hκ 90 (-2) dX6_planned_90 kq_bm2 ?_
        refine ks_iret hκ 92 hRt dX6_planned_92 (by decide) (by decide) rfl ?_
        refine ⟨?_, rfl⟩
        unfold kPlQ
        rw [if_neg c1, if_neg (show ¬ nI P.length ≤ nI vj from Int32.not_le.mpr c15), nI_clamp (by omega), hpj]
        show _ = some (Value.int (kSw 2 (kPlN (pt, pk, pb)) z))
        first | rw [kSw_lo hs21] | rw [kSw_hi hs21]
      · skip
        refine ks_tableOut hκ 21 90 dX6_planned_21 (Or.inr hs21) rfl ?_
        refine ks_bipush hκ 90 (-2) dX6_planned_90 kq_bm2 ?_
        refine ks_iret hκ 92 hRt dX6_planned_92 (by decide) (by decide) rfl ?_
        refine ⟨?_, rfl⟩
        unfold kPlQ
        rw [if_neg c1, if_neg (show ¬ nI P.length ≤ nI vj from Int32.not_le.mpr c15), nI_clamp (by omega), hpj]
        show _ = some (Value.int (kSw 2 (kPlN (pt, pk, pb)) z))
        first | rw [kSw_lo hs21] | rw [kSw_hi hs21]
      · skip
        rcases (show sj21 = 0 ∨ sj21 = 1 ∨ sj21 = 2 by omega) with rfl | rfl | rfl
        · skip
          refine ks_top (nI 0) hs21 ?_
          refine ks_tableIn hκ 21 48 dX6_planned_21 (off := 27) (by decide) (by decide) (by decide) rfl ?_
          refine ks_aload_n hκ 48 0 dX6_planned_48 rfl ?_
          refine ks_get hκ 49 dX6_planned_49 kf_X6_12 hO rfl ?_
          refine ks_get hκ 52 dX6_planned_52 kf_X6_137 h0 rfl ?_
          refine ks_get hκ 55 dX6_planned_55 kf_X6_147 hQ rfl ?_
          refine ks_iload_n hκ 58 1 dX6_planned_58 rfl ?_
          refine ks_iald hκ 59 (vj) dX6_planned_59 hPT rfl (by omega) (by decide) ?_
          refine ks_iret hκ 60 hRt dX6_planned_60 (by decide) (by decide) rfl ?_
          refine ⟨?_, rfl⟩
          unfold kPlQ
          rw [if_neg c1, if_neg (show ¬ nI P.length ≤ nI vj from Int32.not_le.mpr c15), nI_clamp (by omega), hpj]
          show _ = some (Value.int (kSw 2 (kPlN (pt, pk, pb)) z))
          rw [hs21, kSw_in (by decide) (by decide)]
          first | (rw [hp1]; rfl) | (rw [hp2]; rfl) | (rw [hp3]; rfl)
        · skip
          refine ks_top (nI 1) hs21 ?_
          refine ks_tableIn hκ 21 61 dX6_planned_21 (off := 40) (by decide) (by decide) (by decide) rfl ?_
          refine ks_aload_n hκ 61 0 dX6_planned_61 rfl ?_
          refine ks_get hκ 62 dX6_planned_62 kf_X6_12 hO rfl ?_
          refine ks_get hκ 65 dX6_planned_65 kf_X6_137 h0 rfl ?_
          refine ks_get hκ 68 dX6_planned_68 kf_X6_150 hQ rfl ?_
          refine ks_iload_n hκ 71 1 dX6_planned_71 rfl ?_
          refine ks_iald hκ 72 (vj) dX6_planned_72 hPK rfl (by omega) (by decide) ?_
          refine ks_iret hκ 73 hRt dX6_planned_73 (by decide) (by decide) rfl ?_
          refine ⟨?_, rfl⟩
          unfold kPlQ
          rw [if_neg c1, if_neg (show ¬ nI P.length ≤ nI vj from Int32.not_le.mpr c15), nI_clamp (by omega), hpj]
          show _ = some (Value.int (kSw 2 (kPlN (pt, pk, pb)) z))
          rw [hs21, kSw_in (by decide) (by decide)]
          first | (rw [hp1]; rfl) | (rw [hp2]; rfl) | (rw [hp3]; rfl)
        · skip
          refine ks_top (nI 2) hs21 ?_
          refine ks_tableIn hκ 21 74 dX6_planned_21 (off := 53) (by decide) (by decide) (by decide) rfl ?_
          refine ks_aload_n hκ 74 0 dX6_planned_74 rfl ?_
          refine ks_get hκ 75 dX6_planned_75 kf_X6_12 hO rfl ?_
          refine ks_get hκ 78 dX6_planned_78 kf_X6_137 h0 rfl ?_
          refine ks_get hκ 81 dX6_planned_81 kf_X6_153 hQ rfl ?_
          refine ks_iload_n hκ 84 1 dX6_planned_84 rfl ?_
          refine ks_iald hκ 85 (vj) dX6_planned_85 hPB rfl (by omega) (by decide) ?_
          refine ks_bipush hκ 86 (nI 100) dX6_planned_86 kq_b100 ?_
          refine ks_iadd hκ 88 dX6_planned_88 ?_
          refine ks_iret hκ 89 hRt dX6_planned_89 (by decide) (by decide) rfl ?_
          refine ⟨?_, rfl⟩
          unfold kPlQ
          rw [if_neg c1, if_neg (show ¬ nI P.length ≤ nI vj from Int32.not_le.mpr c15), nI_clamp (by omega), hpj]
          show _ = some (Value.int (kSw 2 (kPlN (pt, pk, pb)) z))
          rw [hs21, kSw_in (by decide) (by decide)]
          first | (rw [hp1]; rfl) | (rw [hp2]; rfl) | (rw [hp3]; rfl)
    · skip
      refine ks_iconst hκ 18 (-1) dX6_planned_18 kq_im1 ?_
      refine ks_iret hκ 19 hRt dX6_planned_19 (by decide) (by decide) rfl ?_
      refine ⟨?_, rfl⟩
      unfold kPlQ
      first | rw [if_pos c1] | rw [if_neg c1, if_pos (show nI P.length ≤ x from Int32.not_lt.mp c15)]
set_option maxRecDepth 100000 in
set_option maxHeartbeats 4000000 in
theorem c_count {g : ks_G} {h : ks_H} {o : Nat} {X : Nat → Prop} {se : Nat → Int32} {tu : Int32} {ki : Nat} {ma re : Int32} {kf : Nat → Nat → Int32} {L : List (Nat × Nat)} {P : List kP} {H : List kS} {S : Nat → Option kS} {l : List Int32} {δ : Option kS} {x : Int32} (hks : kKS g h o X (se, tu, ki, ma, re, kf, L, P) δ H S l) : ks_Met g (yX6_count, cX6_count, 2, some .int) 2 0 0 [ks_ref g o, .int x] h (ks_Pi (kCnQ (se, tu, ki, ma, re, kf, L, P) l.length H.length x) h) := by
  have hks0 := hks
  have hol := hks.len
  obtain ⟨τ, dp, F, G, Q, LT, PT, vs, vn, hO, hnow, htri, hH, hF7, hG2, hpad, hord, hrooms, hring, hX⟩ := hks
  obtain ⟨hdp, hHl, hrH, hrD, hrS⟩ := id hring
  have hst0 := hnow
  obtain ⟨h0, h1, h2, h3, h4, h5, h6, h7, h8, hyarn, hplans, hki⟩ := hnow
  dsimp only at h0 h1 h2 h3 h4 h5 h6 h7 h8 hyarn hplans hki
  obtain ⟨YE, YO, hY, hYE, hYO, hYEO, hYL, hYp⟩ := id hyarn
  obtain ⟨PT1, PK1, PB1, hQ, hPT, hPK, hPB, hPEO, hPl, hPk⟩ := id hplans
  obtain ⟨DT, hD, -, -, hDl⟩ := id hpad
  refine ks_intro (by decide) (Nat.le_of_ble_eq_true rfl) (fun κ hκ hRt => ?_)
  refine ks_cv (ls := [(0, ks_ref g o), (1, .int x)]) ?_ rfl rfl rfl
  refine ks_iload_n hκ 0 1 dX6_count_0 rfl ?_
  rcases ks_sw x 0 16 (by decide) with hs1 | hs1 | ⟨sj1, ha1, hb1, hs1⟩
  · skip
    refine ks_tableOut hκ 1 258 dX6_count_1 (Or.inl hs1) rfl ?_
    refine ks_bipush hκ 258 (-2) dX6_count_258 kq_bm2 ?_
    refine ks_iret hκ 260 hRt dX6_count_260 (by decide) (by decide) rfl ?_
    refine ⟨?_, rfl⟩
    unfold kCnQ
    first | rw [kSw_lo hs1] | rw [kSw_hi hs1]
  · skip
    refine ks_tableOut hκ 1 258 dX6_count_1 (Or.inr hs1) rfl ?_
    refine ks_bipush hκ 258 (-2) dX6_count_258 kq_bm2 ?_
    refine ks_iret hκ 260 hRt dX6_count_260 (by decide) (by decide) rfl ?_
    refine ⟨?_, rfl⟩
    unfold kCnQ
    first | rw [kSw_lo hs1] | rw [kSw_hi hs1]
  · skip
    rcases (show sj1 = 0 ∨ sj1 = 1 ∨ sj1 = 2 ∨ sj1 = 3 ∨ sj1 = 4 ∨ sj1 = 5 ∨ sj1 = 6 ∨ sj1 = 7 ∨ sj1 = 8 ∨ sj1 = 9 ∨ sj1 = 10 ∨ sj1 = 11 ∨ sj1 = 12 ∨ sj1 = 13 ∨ sj1 = 14 ∨ sj1 = 15 ∨ sj1 = 16 by omega) with rfl | rfl | rfl | rfl | rfl | rfl | rfl | rfl | rfl | rfl | rfl | rfl | rfl | rfl | rfl | rfl | rfl
    · skip
      refine ks_top (nI 0) hs1 ?_
      refine ks_tableIn hκ 1 84 dX6_count_1 (off := 83) (by decide) (by decide) (by decide) rfl ?_
      refine ks_aload_n hκ 84 0 dX6_count_84 rfl ?_
      refine ks_get hκ 85 dX6_count_85 kf_X6_12 hO rfl ?_
      refine ks_get hκ 88 dX6_count_88 kf_X6_156 h0 rfl ?_
      refine ks_iret hκ 91 hRt dX6_count_91 (by decide) (by decide) rfl ?_
      refine ⟨?_, rfl⟩
      unfold kCnQ
      rw [hs1, kSw_in (by decide) (by decide)]
      rfl
    · skip
      refine ks_top (nI 1) hs1 ?_
      refine ks_tableIn hκ 1 92 dX6_count_1 (off := 91) (by decide) (by decide) (by decide) rfl ?_
      refine ks_aload_n hκ 92 0 dX6_count_92 rfl ?_
      refine ks_get hκ 93 dX6_count_93 kf_X6_12 hO rfl ?_
      refine ks_get hκ 96 dX6_count_96 kf_X6_159 h0 rfl ?_
      refine ks_iret hκ 99 hRt dX6_count_99 (by decide) (by decide) rfl ?_
      refine ⟨?_, rfl⟩
      unfold kCnQ
      rw [hs1, kSw_in (by decide) (by decide)]
      rfl
    · skip
      refine ks_top (nI 2) hs1 ?_
      refine ks_tableIn hκ 1 100 dX6_count_1 (off := 99) (by decide) (by decide) (by decide) rfl ?_
      refine ks_aload_n hκ 100 0 dX6_count_100 rfl ?_
      refine ks_get hκ 101 dX6_count_101 kf_X6_12 hO rfl ?_
      refine ks_pureV0 hκ 104 dX6_count_104 kc_X6_161 (c_Stairs_nappingSet hst0) h0 rfl (by decide) (Nat.le_of_ble_eq_true rfl) (by decide) (by decide) ?_
      refine ks_iret hκ 107 hRt dX6_count_107 (by decide) (by decide) rfl ?_
      refine ⟨?_, rfl⟩
      unfold kCnQ
      rw [hs1, kSw_in (by decide) (by decide)]
      rfl
    · skip
      refine ks_top (nI 3) hs1 ?_
      refine ks_tableIn hκ 1 108 dX6_count_1 (off := 107) (by decide) (by decide) (by decide) rfl ?_
      refine ks_aload_n hκ 108 0 dX6_count_108 rfl ?_
      refine ks_get hκ 109 dX6_count_109 kf_X6_12 hO rfl ?_
      refine ks_get hκ 112 dX6_count_112 kf_X6_92 h0 rfl ?_
      refine ks_get hκ 115 dX6_count_115 kf_X6_165 hY rfl ?_
      refine ks_iret hκ 118 hRt dX6_count_118 (by decide) (by decide) rfl ?_
      refine ⟨?_, rfl⟩
      unfold kCnQ
      rw [hs1, kSw_in (by decide) (by decide)]
      rfl
    · skip
      refine ks_top (nI 4) hs1 ?_
      refine ks_tableIn hκ 1 119 dX6_count_1 (off := 118) (by decide) (by decide) (by decide) rfl ?_
      refine ks_aload_n hκ 119 0 dX6_count_119 rfl ?_
      refine ks_get hκ 120 dX6_count_120 kf_X6_12 hO rfl ?_
      refine ks_aload_n hκ 123 0 dX6_count_123 rfl ?_
      refine ks_get hκ 124 dX6_count_124 kf_X6_12 hO rfl ?_
      refine ks_get hκ 127 dX6_count_127 kf_X6_101 h0 rfl ?_
      refine ks_pureV1 hκ 130 dX6_count_130 kc_X6_168 (c_Stairs_sumOfAll hst0 h6) h0 rfl (by decide) (Nat.le_of_ble_eq_true rfl) (by decide) (by decide) ?_
      refine ks_iret hκ 133 hRt dX6_count_133 (by decide) (by decide) rfl ?_
      refine ⟨?_, rfl⟩
      unfold kCnQ
      rw [hs1, kSw_in (by decide) (by decide)]
      rfl
    · skip
      refine ks_top (nI 5) hs1 ?_
      refine ks_tableIn hκ 1 134 dX6_count_1 (off := 133) (by decide) (by decide) (by decide) rfl ?_
      refine ks_aload_n hκ 134 0 dX6_count_134 rfl ?_
      refine ks_get hκ 135 dX6_count_135 kf_X6_12 hO rfl ?_
      refine ks_aload_n hκ 138 0 dX6_count_138 rfl ?_
      refine ks_get hκ 139 dX6_count_139 kf_X6_12 hO rfl ?_
      refine ks_get hκ 142 dX6_count_142 kf_X6_104 h0 rfl ?_
      refine ks_pureV1 hκ 145 dX6_count_145 kc_X6_168 (c_Stairs_sumOfAll hst0 h7) h0 rfl (by decide) (Nat.le_of_ble_eq_true rfl) (by decide) (by decide) ?_
      refine ks_iret hκ 148 hRt dX6_count_148 (by decide) (by decide) rfl ?_
      refine ⟨?_, rfl⟩
      unfold kCnQ
      rw [hs1, kSw_in (by decide) (by decide)]
      rfl
    · skip
      refine ks_top (nI 6) hs1 ?_
      refine ks_tableIn hκ 1 149 dX6_count_1 (off := 148) (by decide) (by decide) (by decide) rfl ?_
      refine ks_aload_n hκ 149 0 dX6_count_149 rfl ?_
      refine ks_get hκ 150 dX6_count_150 kf_X6_12 hO rfl ?_
      refine ks_aload_n hκ 153 0 dX6_count_153 rfl ?_
      refine ks_get hκ 154 dX6_count_154 kf_X6_12 hO rfl ?_
      refine ks_get hκ 157 dX6_count_157 kf_X6_107 h0 rfl ?_
      refine ks_pureV1 hκ 160 dX6_count_160 kc_X6_168 (c_Stairs_sumOfAll hst0 h8) h0 rfl (by decide) (Nat.le_of_ble_eq_true rfl) (by decide) (by decide) ?_
      refine ks_iret hκ 163 hRt dX6_count_163 (by decide) (by decide) rfl ?_
      refine ⟨?_, rfl⟩
      unfold kCnQ
      rw [hs1, kSw_in (by decide) (by decide)]
      rfl
    · skip
      refine ks_top (nI 7) hs1 ?_
      refine ks_tableIn hκ 1 164 dX6_count_1 (off := 163) (by decide) (by decide) (by decide) rfl ?_
      refine ks_aload_n hκ 164 0 dX6_count_164 rfl ?_
      refine ks_get hκ 165 dX6_count_165 kf_X6_12 hO rfl ?_
      refine ks_sipush hκ 168 (nI 32767) dX6_count_168 kq_s32767 ?_
      refine ks_pureV1 hκ 171 dX6_count_171 kc_X6_128 (c_Stairs_boundPairs hst0) h0 rfl (by decide) (Nat.le_of_ble_eq_true rfl) (by decide) (by decide) ?_
      refine ks_iret hκ 174 hRt dX6_count_174 (by decide) (by decide) rfl ?_
      refine ⟨?_, rfl⟩
      unfold kCnQ
      rw [hs1, kSw_in (by decide) (by decide)]
      rfl
    · skip
      refine ks_top (nI 8) hs1 ?_
      refine ks_tableIn hκ 1 175 dX6_count_1 (off := 174) (by decide) (by decide) (by decide) rfl ?_
      refine ks_aload_n hκ 175 0 dX6_count_175 rfl ?_
      refine ks_get hκ 176 dX6_count_176 kf_X6_12 hO rfl ?_
      refine ks_get hκ 179 dX6_count_179 kf_X6_172 h0 rfl ?_
      refine ks_iret hκ 182 hRt dX6_count_182 (by decide) (by decide) rfl ?_
      refine ⟨?_, rfl⟩
      unfold kCnQ
      rw [hs1, kSw_in (by decide) (by decide)]
      rfl
    · skip
      refine ks_top (nI 9) hs1 ?_
      refine ks_tableIn hκ 1 183 dX6_count_1 (off := 182) (by decide) (by decide) (by decide) rfl ?_
      refine ks_aload_n hκ 183 0 dX6_count_183 rfl ?_
      refine ks_get hκ 184 dX6_count_184 kf_X6_12 hO rfl ?_
      refine ks_get hκ 187 dX6_count_187 kf_X6_175 h0 rfl ?_
      refine ks_iret hκ 190 hRt dX6_count_190 (by decide) (by decide) rfl ?_
      refine ⟨?_, rfl⟩
      unfold kCnQ
      rw [hs1, kSw_in (by decide) (by decide)]
      rfl
    · skip
      refine ks_top (nI 10) hs1 ?_
      refine ks_tableIn hκ 1 191 dX6_count_1 (off := 190) (by decide) (by decide) (by decide) rfl ?_
      refine ks_aload_n hκ 191 0 dX6_count_191 rfl ?_
      refine ks_get hκ 192 dX6_count_192 kf_X6_12 hO rfl ?_
      refine ks_get hκ 195 dX6_count_195 kf_X6_137 h0 rfl ?_
      refine ks_get hκ 198 dX6_count_198 kf_X6_141 hQ rfl ?_
      refine ks_iret hκ 201 hRt dX6_count_201 (by decide) (by decide) rfl ?_
      refine ⟨?_, rfl⟩
      unfold kCnQ
      rw [hs1, kSw_in (by decide) (by decide)]
      rfl
    · skip
      refine ks_top (nI 11) hs1 ?_
      refine ks_tableIn hκ 1 202 dX6_count_1 (off := 201) (by decide) (by decide) (by decide) rfl ?_
      refine ks_aload_n hκ 202 0 dX6_count_202 rfl ?_
      refine ks_get hκ 203 dX6_count_203 kf_X6_12 hO rfl ?_
      refine ks_get hκ 206 dX6_count_206 kf_X6_178 h0 rfl ?_
      refine ks_iconst hκ 209 (nI 0) dX6_count_209 kq_i0 ?_
      refine ks_iald hκ 210 (0) dX6_count_210 h1 rfl (by omega) (by decide) ?_
      refine ks_iret hκ 211 hRt dX6_count_211 (by decide) (by decide) rfl ?_
      refine ⟨?_, rfl⟩
      unfold kCnQ
      rw [hs1, kSw_in (by decide) (by decide)]
      rfl
    · skip
      refine ks_top (nI 12) hs1 ?_
      refine ks_tableIn hκ 1 212 dX6_count_1 (off := 211) (by decide) (by decide) (by decide) rfl ?_
      refine ks_aload_n hκ 212 0 dX6_count_212 rfl ?_
      refine ks_get hκ 213 dX6_count_213 kf_X6_12 hO rfl ?_
      refine ks_get hκ 216 dX6_count_216 kf_X6_178 h0 rfl ?_
      refine ks_iconst hκ 219 (nI 1) dX6_count_219 kq_i1 ?_
      refine ks_iald hκ 220 (1) dX6_count_220 h1 rfl (by omega) (by decide) ?_
      refine ks_iret hκ 221 hRt dX6_count_221 (by decide) (by decide) rfl ?_
      refine ⟨?_, rfl⟩
      unfold kCnQ
      rw [hs1, kSw_in (by decide) (by decide)]
      rfl
    · skip
      refine ks_top (nI 13) hs1 ?_
      refine ks_tableIn hκ 1 222 dX6_count_1 (off := 221) (by decide) (by decide) (by decide) rfl ?_
      refine ks_aload_n hκ 222 0 dX6_count_222 rfl ?_
      refine ks_get hκ 223 dX6_count_223 kf_X6_12 hO rfl ?_
      refine ks_get hκ 226 dX6_count_226 kf_X6_178 h0 rfl ?_
      refine ks_iconst hκ 229 (nI 2) dX6_count_229 kq_i2 ?_
      refine ks_iald hκ 230 (2) dX6_count_230 h1 rfl (by omega) (by decide) ?_
      refine ks_iret hκ 231 hRt dX6_count_231 (by decide) (by decide) rfl ?_
      refine ⟨?_, rfl⟩
      unfold kCnQ
      rw [hs1, kSw_in (by decide) (by decide)]
      rfl
    · skip
      refine ks_top (nI 14) hs1 ?_
      refine ks_tableIn hκ 1 232 dX6_count_1 (off := 231) (by decide) (by decide) (by decide) rfl ?_
      refine ks_aload_n hκ 232 0 dX6_count_232 rfl ?_
      refine ks_get hκ 233 dX6_count_233 kf_X6_12 hO rfl ?_
      refine ks_get hκ 236 dX6_count_236 kf_X6_178 h0 rfl ?_
      refine ks_iconst hκ 239 (nI 3) dX6_count_239 kq_i3 ?_
      refine ks_iald hκ 240 (3) dX6_count_240 h1 rfl (by omega) (by decide) ?_
      refine ks_iret hκ 241 hRt dX6_count_241 (by decide) (by decide) rfl ?_
      refine ⟨?_, rfl⟩
      unfold kCnQ
      rw [hs1, kSw_in (by decide) (by decide)]
      rfl
    · skip
      refine ks_top (nI 15) hs1 ?_
      refine ks_tableIn hκ 1 242 dX6_count_1 (off := 241) (by decide) (by decide) (by decide) rfl ?_
      refine ks_aload_n hκ 242 0 dX6_count_242 rfl ?_
      refine ks_get hκ 243 dX6_count_243 kf_X6_33 hO rfl ?_
      refine ks_get hκ 246 dX6_count_246 kf_X6_181 hD rfl ?_
      refine ks_iret hκ 249 hRt dX6_count_249 (by decide) (by decide) rfl ?_
      refine ⟨?_, rfl⟩
      unfold kCnQ
      rw [hs1, kSw_in (by decide) (by decide)]
      rfl
    · skip
      refine ks_top (nI 16) hs1 ?_
      refine ks_tableIn hκ 1 250 dX6_count_1 (off := 249) (by decide) (by decide) (by decide) rfl ?_
      refine ks_aload_n hκ 250 0 dX6_count_250 rfl ?_
      refine ks_get hκ 251 dX6_count_251 kf_X6_22 hO rfl ?_
      refine ks_get hκ 254 dX6_count_254 kf_X6_184 hH rfl ?_
      refine ks_iret hκ 257 hRt dX6_count_257 (by decide) (by decide) rfl ?_
      refine ⟨?_, rfl⟩
      unfold kCnQ
      rw [hs1, kSw_in (by decide) (by decide)]
      rfl
set_option maxRecDepth 100000 in
set_option maxHeartbeats 4000000 in
theorem c_why {g : ks_G} {h : ks_H} {o : Nat} {X : Nat → Prop} {se : Nat → Int32} {tu : Int32} {ki : Nat} {ma re : Int32} {kf : Nat → Nat → Int32} {L : List (Nat × Nat)} {P : List kP} {H : List kS} {S : Nat → Option kS} {l : List Int32} {δ : Option kS} {x z : Int32} (hks : kKS g h o X (se, tu, ki, ma, re, kf, L, P) δ H S l) (hok : kOk2 (se, tu, ki, ma, re, kf, L, P)) : ks_Met g (yX6_why, cX6_why, 3, some .int) 3 0 0 [ks_ref g o, .int x, .int z] h (ks_Pi (kWhQ (se, tu, ki, ma, re, kf, L, P) x z) h) := by
  have hks0 := hks
  have hol := hks.len
  obtain ⟨τ, dp, F, G, Q, LT, PT, vs, vn, hO, hnow, htri, hH, hF7, hG2, hpad, hord, hrooms, hring, hX⟩ := hks
  obtain ⟨hdp, hHl, hrH, hrD, hrS⟩ := id hring
  have hst0 := hnow
  obtain ⟨h0, h1, h2, h3, h4, h5, h6, h7, h8, hyarn, hplans, hki⟩ := hnow
  dsimp only at h0 h1 h2 h3 h4 h5 h6 h7 h8 hyarn hplans hki
  obtain ⟨YE, YO, hY, hYE, hYO, hYEO, hYL, hYp⟩ := id hyarn
  obtain ⟨PT1, PK1, PB1, hQ, hPT, hPK, hPB, hPEO, hPl, hPk⟩ := id hplans
  obtain ⟨DT, hD, -, -, hDl⟩ := id hpad
  refine ks_intro (by decide) (Nat.le_of_ble_eq_true rfl) (fun κ hκ hRt => ?_)
  refine ks_cv (ls := [(0, ks_ref g o), (1, .int x), (2, .int z)]) ?_ rfl rfl rfl
  refine ks_aload_n hκ 0 0 dX6_why_0 rfl ?_
  refine ks_get hκ 1 dX6_why_1 kf_X6_12 hO rfl ?_
  refine ks_iload_n hκ 4 1 dX6_why_4 rfl ?_
  refine ks_pureV1 hκ 5 dX6_why_5 kc_X6_75 (c_Stairs_hasKitten hst0) h0 rfl (by decide) (Nat.le_of_ble_eq_true rfl) (by decide) (by decide) ?_
  refine ks_if_ne hκ 8 13 dX6_why_8 rfl (fun c8 => ?_) (fun c8 => ?_)
  · skip
    obtain ⟨vj, hvj, rfl⟩ := kHas_1 c8 hki
    obtain ⟨vs, hvs, hvs2⟩ := hok.1 vj hvj
    refine ks_iload_n hκ 13 2 dX6_why_13 rfl ?_
    refine ks_pureS1 hκ 14 dX6_why_14 kc_X6_185 (c_isLeap) (by decide) (Nat.le_of_ble_eq_true rfl) (by decide) (by decide) ?_
    refine ks_if_ne hκ 17 23 dX6_why_17 rfl (fun c17 => ?_) (fun c17 => ?_)
    · skip
      refine ks_aload_n hκ 23 0 dX6_why_23 rfl ?_
      refine ks_get hκ 24 dX6_why_24 kf_X6_12 hO rfl ?_
      refine ks_iload_n hκ 27 1 dX6_why_27 rfl ?_
      refine ks_iload_n hκ 28 2 dX6_why_28 rfl ?_
      refine ks_pureV2 hκ 29 dX6_why_29 kc_X6_188 (c_Stairs_refusal hst0 hvj hvs hvs2) h0 rfl (by decide) (Nat.le_of_ble_eq_true rfl) (by decide) (by decide) ?_
      refine ks_iret hκ 32 hRt dX6_why_32 (by decide) (by decide) rfl ?_
      refine ⟨?_, rfl⟩
      unfold kWhQ
      rw [if_neg c8, if_neg c17, nI_clamp (by omega)]
    · skip
      refine ks_bipush hκ 20 (-2) dX6_why_20 kq_bm2 ?_
      refine ks_iret hκ 22 hRt dX6_why_22 (by decide) (by decide) rfl ?_
      refine ⟨?_, rfl⟩
      unfold kWhQ
      rw [if_neg c8]
      first | rw [if_pos c17] | rw [if_pos (Classical.not_not.mp c17)]
  · skip
    refine ks_iconst hκ 11 (-1) dX6_why_11 kq_im1 ?_
    refine ks_iret hκ 12 hRt dX6_why_12 (by decide) (by decide) rfl ?_
    refine ⟨?_, rfl⟩
    unfold kWhQ
    rw [if_pos c8]
set_option maxRecDepth 100000 in
set_option maxHeartbeats 4000000 in
theorem c_quietIn {g : ks_G} {h : ks_H} {o : Nat} {X : Nat → Prop} {se : Nat → Int32} {tu : Int32} {ki : Nat} {ma re : Int32} {kf : Nat → Nat → Int32} {L : List (Nat × Nat)} {P : List kP} {H : List kS} {S : Nat → Option kS} {l : List Int32} {δ : Option kS} (hks : kKS g h o X (se, tu, ki, ma, re, kf, L, P) δ H S l) : ks_Met g (yX6_quietIn, cX6_quietIn, 2, some .int) 2 0 0 [ks_ref g o] h (ks_Pi (kQuQ (se, tu, ki, ma, re, kf, L, P)) h) := by
  have hks0 := hks
  have hol := hks.len
  obtain ⟨τ, dp, F, G, Q, LT, PT, vs, vn, hO, hnow, htri, hH, hF7, hG2, hpad, hord, hrooms, hring, hX⟩ := hks
  obtain ⟨hdp, hHl, hrH, hrD, hrS⟩ := id hring
  have hst0 := hnow
  obtain ⟨h0, h1, h2, h3, h4, h5, h6, h7, h8, hyarn, hplans, hki⟩ := hnow
  dsimp only at h0 h1 h2 h3 h4 h5 h6 h7 h8 hyarn hplans hki
  obtain ⟨YE, YO, hY, hYE, hYO, hYEO, hYL, hYp⟩ := id hyarn
  obtain ⟨PT1, PK1, PB1, hQ, hPT, hPK, hPB, hPEO, hPl, hPk⟩ := id hplans
  obtain ⟨DT, hD, -, -, hDl⟩ := id hpad
  refine ks_intro (by decide) (Nat.le_of_ble_eq_true rfl) (fun κ hκ hRt => ?_)
  refine ks_cv (ls := [(0, ks_ref g o)]) ?_ rfl rfl rfl
  refine ks_aload_n hκ 0 0 dX6_quietIn_0 rfl ?_
  refine ks_get hκ 1 dX6_quietIn_1 kf_X6_12 hO rfl ?_
  refine ks_pureV0 hκ 4 dX6_quietIn_4 kc_X6_201 (c_Stairs_lastWaking hst0) h0 rfl (by decide) (Nat.le_of_ble_eq_true rfl) (by decide) (by decide) ?_
  refine ks_aload_n hκ 7 0 dX6_quietIn_7 rfl ?_
  refine ks_get hκ 8 dX6_quietIn_8 kf_X6_12 hO rfl ?_
  refine ks_get hκ 11 dX6_quietIn_11 kf_X6_137 h0 rfl ?_
  refine ks_pureV0 hκ 14 dX6_quietIn_14 kc_X6_204 (c_Plans_lastTurn hplans) hQ rfl (by decide) (Nat.le_of_ble_eq_true rfl) (by decide) (by decide) ?_
  refine ks_max hκ 17 dX6_quietIn_17 kj_X6_207 ku_maxs ku_mi ku_maxc (by decide) (by decide) (by decide) (Nat.le_of_ble_eq_true rfl) ?_
  refine ks_istore_n hκ 20 1 [(1, _), (0, _)] dX6_quietIn_20 rfl (by decide) rfl ?_
  refine ks_iload_n hκ 21 0 dX6_quietIn_21 rfl ?_
  refine ks_aload_n hκ 22 1 dX6_quietIn_22 rfl ?_
  refine ks_get hκ 23 dX6_quietIn_23 kf_X6_12 hO rfl ?_
  refine ks_get hκ 26 dX6_quietIn_26 kf_X6_156 h0 rfl ?_
  refine ks_isub hκ 29 dX6_quietIn_29 ?_
  refine ks_iconst hκ 30 (nI 0) dX6_quietIn_30 kq_i0 ?_
  refine ks_max hκ 31 dX6_quietIn_31 kj_X6_207 ku_maxs ku_mi ku_maxc (by decide) (by decide) (by decide) (Nat.le_of_ble_eq_true rfl) ?_
  refine ks_iret hκ 34 hRt dX6_quietIn_34 (by decide) (by decide) rfl ?_
  exact ⟨rfl, rfl⟩
set_option maxRecDepth 100000 in
set_option maxHeartbeats 4000000 in
theorem c_frees {g : ks_G} {h : ks_H} {o : Nat} {X : Nat → Prop} {se : Nat → Int32} {tu : Int32} {ki : Nat} {ma re : Int32} {kf : Nat → Nat → Int32} {L : List (Nat × Nat)} {P : List kP} {H : List kS} {S : Nat → Option kS} {l : List Int32} {δ : Option kS} {x z : Int32} (hks : kKS g h o X (se, tu, ki, ma, re, kf, L, P) δ H S l) : ks_Met g (yX6_frees, cX6_frees, 5, some .int) 3 0 0 [ks_ref g o, .int x, .int z] h (ks_Pi (kFrQ (se, tu, ki, ma, re, kf, L, P) x z) h) := by
  have hks0 := hks
  have hol := hks.len
  obtain ⟨τ, dp, F, G, Q, LT, PT, vs, vn, hO, hnow, htri, hH, hF7, hG2, hpad, hord, hrooms, hring, hX⟩ := hks
  obtain ⟨hdp, hHl, hrH, hrD, hrS⟩ := id hring
  have hst0 := hnow
  obtain ⟨h0, h1, h2, h3, h4, h5, h6, h7, h8, hyarn, hplans, hki⟩ := hnow
  dsimp only at h0 h1 h2 h3 h4 h5 h6 h7 h8 hyarn hplans hki
  obtain ⟨YE, YO, hY, hYE, hYO, hYEO, hYL, hYp⟩ := id hyarn
  obtain ⟨PT1, PK1, PB1, hQ, hPT, hPK, hPB, hPEO, hPl, hPk⟩ := id hplans
  obtain ⟨DT, hD, -, -, hDl⟩ := id hpad
  refine ks_intro (by decide) (Nat.le_of_ble_eq_true rfl) (fun κ hκ hRt => ?_)
  refine ks_cv (ls := [(0, ks_ref g o), (1, .int x), (2, .int z)]) ?_ rfl rfl rfl
  refine ks_aload_n hκ 0 0 dX6_frees_0 rfl ?_
  refine ks_get hκ 1 dX6_frees_1 kf_X6_12 hO rfl ?_
  refine ks_iload_n hκ 4 1 dX6_frees_4 rfl ?_
  refine ks_pureV1 hκ 5 dX6_frees_5 kc_X6_75 (c_Stairs_hasKitten hst0) h0 rfl (by decide) (Nat.le_of_ble_eq_true rfl) (by decide) (by decide) ?_
  refine ks_if_eq hκ 8 22 dX6_frees_8 rfl (fun c8 => ?_) (fun c8 => ?_)
  · skip
    refine ks_iconst hκ 22 (-1) dX6_frees_22 kq_im1 ?_
    refine ks_iret hκ 23 hRt dX6_frees_23 (by decide) (by decide) rfl ?_
    refine ⟨?_, rfl⟩
    unfold kFrQ
    first | rw [if_pos c8] | rw [if_neg c8, if_pos c19]
  · skip
    obtain ⟨va, hva, rfl⟩ := kHas_1 c8 hki
    refine ks_aload_n hκ 11 0 dX6_frees_11 rfl ?_
    refine ks_get hκ 12 dX6_frees_12 kf_X6_12 hO rfl ?_
    refine ks_iload_n hκ 15 2 dX6_frees_15 rfl ?_
    refine ks_pureV1 hκ 16 dX6_frees_16 kc_X6_75 (c_Stairs_hasKitten hst0) h0 rfl (by decide) (Nat.le_of_ble_eq_true rfl) (by decide) (by decide) ?_
    refine ks_if_ne hκ 19 24 dX6_frees_19 rfl (fun c19 => ?_) (fun c19 => ?_)
    · skip
      obtain ⟨vb, hvb, rfl⟩ := kHas_1 c19 hki
      refine ks_iload_n hκ 24 1 dX6_frees_24 rfl ?_
      refine ks_iload_n hκ 25 2 dX6_frees_25 rfl ?_
      refine ks_icmp_ne hκ 26 32 dX6_frees_26 rfl (fun c26 => ?_) (fun c26 => ?_)
      · skip
        refine ks_iconst hκ 32 (nI 0) dX6_frees_32 kq_i0 ?_
        refine ks_istore_n hκ 33 3 [(3, _), (0, _), (1, _), (2, _)] dX6_frees_33 rfl (by decide) rfl ?_
        refine ks_iconst hκ 34 (nI 0) dX6_frees_34 kq_i0 ?_
        refine ks_istore hκ 35 4 [(4, _), (3, _), (0, _), (1, _), (2, _)] dX6_frees_35 (by decide) rfl ?_
        have L37 : ∀ (fuel : Nat) (vj : Nat) (xa : Int32) (hvj : vj ≤ 15) (hinv : ((List.range 15).drop vj).foldl (kFrS L va vb) xa = kFrees L va vb) (hfuel : 15 - vj < fuel), ks_K κ g 5 h 0 0 37 [(0, ks_ref g o), (1, .int (nI va)), (2, .int (nI vb)), (3, .int xa), (4, .int (nI vj))] [] := by
          intro fuel
          induction fuel with
          | zero => intro vj xa  hvj hinv hfuel; exact absurd hfuel (Nat.not_lt_zero _)
          | succ fuel ih =>
            intro vj xa  hvj hinv hfuel
            refine ks_iload hκ 37 4 dX6_frees_37 rfl ?_
            refine ks_bipush hκ 39 (nI 15) dX6_frees_39 kq_b15 ?_
            refine ks_icmp_ge hκ 41 67 dX6_frees_41 rfl (fun c41 => ?_) (fun c41 => ?_)
            · skip
              have c41 := (nI_leI (by omega) (by omega)).mp c41
              refine ks_iload_n hκ 67 3 dX6_frees_67 rfl ?_
              refine ks_iret hκ 68 hRt dX6_frees_68 (by decide) (by decide) rfl ?_
              refine ⟨?_, rfl⟩
              unfold kFrQ
              rw [if_neg c8, if_neg c19, if_neg c26, nI_clamp (by omega), nI_clamp (by omega)]
              rw [← hinv, kdropRN c41]; rfl
            · skip
              have c41 := mt (nI_leI (by omega) (by omega)).mpr c41
              rw [kdropR (by omega)] at hinv
              refine ks_iload_n hκ 44 3 dX6_frees_44 rfl ?_
              refine ks_aload_n hκ 45 0 dX6_frees_45 rfl ?_
              refine ks_get hκ 46 dX6_frees_46 kf_X6_12 hO rfl ?_
              refine ks_get hκ 49 dX6_frees_49 kf_X6_92 h0 rfl ?_
              refine ks_iload hκ 52 4 dX6_frees_52 rfl ?_
              refine ks_iload_n hκ 54 1 dX6_frees_54 rfl ?_
              refine ks_iload_n hκ 55 2 dX6_frees_55 rfl ?_
              refine ks_pureV3 hκ 56 dX6_frees_56 kc_X6_198 (c_Yarn_fewestGone hyarn (by omega) (by omega) (by omega)) hY rfl (by decide) (Nat.le_of_ble_eq_true rfl) (by decide) (by decide) ?_
              refine ks_iadd hκ 59 dX6_frees_59 ?_
              refine ks_istore_n hκ 60 3 [(3, _), (0, _), (1, _), (2, _), (4, _)] dX6_frees_60 rfl (by decide) rfl ?_
              refine ks_iinc hκ 61 4 4 (nI (vj + 1)) [(4, _), (3, _), (0, _), (1, _), (2, _)] dX6_frees_61 rfl (ks_inc1 _) (by decide) rfl ?_
              refine ks_goto hκ 64 37 dX6_frees_64 rfl ?_
              refine ks_pick [2, 3, 4, 1, 0] [(0, _), (1, _), (2, _), (3, _), (4, _)] rfl ?_
              exact ks_cv (ih (vj + 1) _  (by omega) (by simp only [List.foldl_cons] at hinv; first | (rw [kFrS] at hinv; exact hinv)) (by omega)) rfl rfl rfl
        refine ks_pick [2, 3, 4, 1, 0] [(0, _), (1, _), (2, _), (3, _), (4, _)] rfl ?_
        exact ks_cv (L37 _ 0 _  (Nat.zero_le _) rfl (Nat.lt_succ_self _)) rfl rfl rfl
      · skip
        refine ks_bipush hκ 29 (-2) dX6_frees_29 kq_bm2 ?_
        refine ks_iret hκ 31 hRt dX6_frees_31 (by decide) (by decide) rfl ?_
        refine ⟨?_, rfl⟩
        unfold kFrQ
        rw [if_neg c8, if_neg c19, if_pos c26]
    · skip
      refine ks_iconst hκ 22 (-1) dX6_frees_22 kq_im1 ?_
      refine ks_iret hκ 23 hRt dX6_frees_23 (by decide) (by decide) rfl ?_
      refine ⟨?_, rfl⟩
      unfold kFrQ
      first | rw [if_pos c8] | rw [if_neg c8, if_pos c19]
set_option maxRecDepth 100000 in
set_option maxHeartbeats 4000000 in
theorem c_thickest {g : ks_G} {h : ks_H} {o : Nat} {X : Nat → Prop} {se : Nat → Int32} {tu : Int32} {ki : Nat} {ma re : Int32} {kf : Nat → Nat → Int32} {L : List (Nat × Nat)} {P : List kP} {H : List kS} {S : Nat → Option kS} {l : List Int32} {δ : Option kS} (hks : kKS g h o X (se, tu, ki, ma, re, kf, L, P) δ H S l) : ks_Met g (yX6_thickest, cX6_thickest, 5, some .int) 1 0 0 [ks_ref g o] h (ks_Pi (kThQ (se, tu, ki, ma, re, kf, L, P)) h) := by
  have hks0 := hks
  have hol := hks.len
  obtain ⟨τ, dp, F, G, Q, LT, PT, vs, vn, hO, hnow, htri, hH, hF7, hG2, hpad, hord, hrooms, hring, hX⟩ := hks
  obtain ⟨hdp, hHl, hrH, hrD, hrS⟩ := id hring
  have hst0 := hnow
  obtain ⟨h0, h1, h2, h3, h4, h5, h6, h7, h8, hyarn, hplans, hki⟩ := hnow
  dsimp only at h0 h1 h2 h3 h4 h5 h6 h7 h8 hyarn hplans hki
  obtain ⟨YE, YO, hY, hYE, hYO, hYEO, hYL, hYp⟩ := id hyarn
  obtain ⟨PT1, PK1, PB1, hQ, hPT, hPK, hPB, hPEO, hPl, hPk⟩ := id hplans
  obtain ⟨DT, hD, -, -, hDl⟩ := id hpad
  refine ks_intro (by decide) (Nat.le_of_ble_eq_true rfl) (fun κ hκ hRt => ?_)
  refine ks_cv (ls := [(0, ks_ref g o)]) ?_ rfl rfl rfl
  refine ks_bipush hκ 0 (-6) dX6_thickest_0 kq_bm6 ?_
  refine ks_istore_n hκ 2 1 [(1, _), (0, _)] dX6_thickest_2 rfl (by decide) rfl ?_
  refine ks_iconst hκ 3 (nI 0) dX6_thickest_3 kq_i0 ?_
  refine ks_istore_n hκ 4 2 [(2, _), (1, _), (0, _)] dX6_thickest_4 rfl (by decide) rfl ?_
  refine ks_iconst hκ 5 (nI 0) dX6_thickest_5 kq_i0 ?_
  refine ks_istore_n hκ 6 3 [(3, _), (2, _), (1, _), (0, _)] dX6_thickest_6 rfl (by decide) rfl ?_
  have L7 : ∀ (fuel : Nat) (vj vm : Nat) (xb : Int32) (hvj : vj ≤ 15) (hvm : vm ≤ 240) (hinv : (((List.range 15).drop vj).foldl (kThS L) (xb, vm)).1 = kThQ (se, tu, ki, ma, re, kf, L, P)) (hfuel : 15 - vj < fuel), ks_K κ g 5 h 0 0 7 [(0, ks_ref g o), (1, .int xb), (2, .int (nI vm)), (3, .int (nI vj))] [] := by
    intro fuel
    induction fuel with
    | zero => intro vj vm xb  hvj hvm hinv hfuel; exact absurd hfuel (Nat.not_lt_zero _)
    | succ fuel ih =>
      intro vj vm xb  hvj hvm hinv hfuel
      refine ks_iload_n hκ 7 3 dX6_thickest_7 rfl ?_
      refine ks_bipush hκ 8 (nI 15) dX6_thickest_8 kq_b15 ?_
      refine ks_icmp_ge hκ 10 43 dX6_thickest_10 rfl (fun c10 => ?_) (fun c10 => ?_)
      · skip
        have c10 := (nI_leI (by omega) (by omega)).mp c10
        refine ks_iload_n hκ 43 1 dX6_thickest_43 rfl ?_
        refine ks_iret hκ 44 hRt dX6_thickest_44 (by decide) (by decide) rfl ?_
        exact ⟨by rw [← hinv, kdropRN c10]; rfl, rfl⟩
      · skip
        have c10 := mt (nI_leI (by omega) (by omega)).mpr c10
        rw [kdropR (by omega)] at hinv
        have hat := kAt_le vj L
        refine ks_aload_n hκ 13 0 dX6_thickest_13 rfl ?_
        refine ks_get hκ 14 dX6_thickest_14 kf_X6_12 hO rfl ?_
        refine ks_get hκ 17 dX6_thickest_17 kf_X6_92 h0 rfl ?_
        refine ks_iload_n hκ 20 3 dX6_thickest_20 rfl ?_
        refine ks_pureV1 hκ 21 dX6_thickest_21 kc_X6_119 (c_Yarn_lyingAt hyarn (by omega)) hY rfl (by decide) (Nat.le_of_ble_eq_true rfl) (by decide) (by decide) ?_
        refine ks_istore hκ 24 4 [(4, _), (0, _), (1, _), (2, _), (3, _)] dX6_thickest_24 (by decide) rfl ?_
        refine ks_iload hκ 26 0 dX6_thickest_26 rfl ?_
        refine ks_iload_n hκ 28 3 dX6_thickest_28 rfl ?_
        refine ks_icmp_le hκ 29 37 dX6_thickest_29 rfl (fun c29 => ?_) (fun c29 => ?_)
        · skip
          have c29 := (nI_leI (by omega) (by omega)).mp c29
          refine ks_iinc hκ 37 3 4 (nI (vj + 1)) [(3, _), (4, _), (0, _), (1, _), (2, _)] dX6_thickest_37 rfl (ks_inc1 _) (by decide) rfl ?_
          refine ks_goto hκ 40 7 dX6_thickest_40 rfl ?_
          refine ks_pick [2, 3, 4, 0] [(0, _), (1, _), (2, _), (3, _)] rfl ?_
          exact ks_cv (ih (vj + 1) _ _  (by omega) (by omega) (by simp only [List.foldl_cons] at hinv; first | (rw [show kThS L (xb, vm) vj = (xb, vm) from if_pos c29] at hinv; exact hinv) | (rw [show kThS L (xb, vm) vj = (nI vj, kAt vj L) from if_neg c29] at hinv; exact hinv)) (by omega)) rfl rfl rfl
        · skip
          have c29 := mt (nI_leI (by omega) (by omega)).mpr c29
          refine ks_iload hκ 32 0 dX6_thickest_32 rfl ?_
          refine ks_istore_n hκ 34 2 [(2, _), (4, _), (0, _), (1, _), (3, _)] dX6_thickest_34 rfl (by decide) rfl ?_
          refine ks_iload_n hκ 35 4 dX6_thickest_35 rfl ?_
          refine ks_istore_n hκ 36 1 [(1, _), (2, _), (4, _), (0, _), (3, _)] dX6_thickest_36 rfl (by decide) rfl ?_
          refine ks_iinc hκ 37 3 4 (nI (vj + 1)) [(3, _), (1, _), (2, _), (4, _), (0, _)] dX6_thickest_37 rfl (ks_inc1 _) (by decide) rfl ?_
          refine ks_goto hκ 40 7 dX6_thickest_40 rfl ?_
          refine ks_pick [4, 1, 2, 0] [(0, _), (1, _), (2, _), (3, _)] rfl ?_
          exact ks_cv (ih (vj + 1) _ _  (by omega) (by omega) (by simp only [List.foldl_cons] at hinv; first | (rw [show kThS L (xb, vm) vj = (xb, vm) from if_pos c29] at hinv; exact hinv) | (rw [show kThS L (xb, vm) vj = (nI vj, kAt vj L) from if_neg c29] at hinv; exact hinv)) (by omega)) rfl rfl rfl
  refine ks_pick [3, 2, 1, 0] [(0, _), (1, _), (2, _), (3, _)] rfl ?_
  exact ks_cv (L7 _ 0 0 _  (Nat.zero_le _) (Nat.zero_le _) rfl (Nat.lt_succ_self _)) rfl rfl rfl
