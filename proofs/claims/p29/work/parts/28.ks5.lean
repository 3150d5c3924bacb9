/-! THE CLASS: what if; an order carried out -/
def kIfN (σ σ' : kS) (k : Nat) : Nat → Int32
  | 0 => σ'.2.2.2.2.2.1 4 k - σ.2.2.2.2.2.1 4 k
  | 1 => σ'.2.2.2.2.2.1 5 k - σ.2.2.2.2.2.1 5 k
  | 2 => kBSet σ' k &&& (kBSet σ k ^^^ (-1))
  | _ => kBSet σ k &&& (kBSet σ' k ^^^ (-1))
def kIfQ (σ : kS) (x z w : Int32) : Int32 := if kHas σ.2.2.1 x = 0 then -1 else if kIsL z = 0 then -2 else if w < 0 then -2 else if nI 3 < w then -2 else if ¬ kRef σ x.toNatClampNeg z = 0 then -5 else kIfN σ (kLeap σ x.toNatClampNeg z) x.toNatClampNeg w.toNatClampNeg
def kSpQ (σ : kS) (x z : Int32) : Int32 := if kHas σ.2.2.1 x = 0 then -1 else if z < nI 1 then -2 else if nI 99 < z then -2 else (kPass z.toNatClampNeg σ 0).2.2.2.2.2.2.1 0 x.toNatClampNeg
set_option maxRecDepth 100000 in
set_option maxHeartbeats 4000000 in
theorem c_ifLeapt {g : ks_G} {h : ks_H} {o : Nat} {X : Nat → Prop} {se : Nat → Int32} {tu : Int32} {ki : Nat} {ma re : Int32} {kf : Nat → Nat → Int32} {L : List (Nat × Nat)} {P : List kP} {H : List kS} {S : Nat → Option kS} {l : List Int32} {δ : Option kS} {x z w : Int32} (hks : kKS g h o X (se, tu, ki, ma, re, kf, L, P) δ H S l) (hok : kOk2 (se, tu, ki, ma, re, kf, L, P)) : ks_Met g (yX6_ifLeapt, cX6_ifLeapt, 4, some .int) 3 0 0 [ks_ref g o, .int x, .int z, .int w] h (ks_Ph (fun r h' => r = kIfQ (se, tu, ki, ma, re, kf, L, P) x z w ∧ kKS g h' o X (se, tu, ki, ma, re, kf, L, P) δ H S l ∧ kFX X h h')) := by
  have hks0 := hks
  have hol := hks.len
  obtain ⟨τ, dp, F, G, Q, LT, PT, vs, vn, hO, hnow, htri, hH, hF7, hG2, hpad, hord, hrooms, hring, hX⟩ := hks
  obtain ⟨hdp, hHl, hrH, hrD, hrS⟩ := id hring
  have hst0 := hnow
  obtain ⟨h0, h1, h2, h3, h4, h5, h6, h7, h8, hyarn, hplans, hki⟩ := hnow
  dsimp only at h0 h1 h2 h3 h4 h5 h6 h7 h8 hyarn hplans hki
  obtain ⟨YE, YO, hY, hYE, hYO, hYEO, hYL, hYp⟩ := id hyarn
  obtain ⟨PT1, PK1, PB1, hQ, hPT, hPK, hPB, hPEO, hPl, hPk⟩ := id hplans
  obtain ⟨DT, hD, -, -, hDl⟩ := id hpad
  have ht0 := htri.1
  refine ks_intro (by decide) (Nat.le_of_ble_eq_true rfl) (fun κ hκ hRt => ?_)
  refine ks_cv (ls := [(0, ks_ref g o), (1, .int x), (2, .int z), (3, .int w)]) ?_ rfl rfl rfl
  refine ks_aload_n hκ 0 0 dX6_ifLeapt_0 rfl ?_
  refine ks_get hκ 1 dX6_ifLeapt_1 kf_X6_12 hO rfl ?_
  refine ks_iload_n hκ 4 1 dX6_ifLeapt_4 rfl ?_
  refine ks_pureV1 hκ 5 dX6_ifLeapt_5 kc_X6_75 (c_Stairs_hasKitten hst0) h0 rfl (by decide) (Nat.le_of_ble_eq_true rfl) (by decide) (by decide) ?_
  refine ks_if_ne hκ 8 13 dX6_ifLeapt_8 rfl (fun c8 => ?_) (fun c8 => ?_)
  · skip
    obtain ⟨vj, hvj, rfl⟩ := kHas_1 c8 hki
    obtain ⟨vs, hvs, hvs2⟩ := hok.1 vj hvj
    have hvs3 : kf 0 vj = nI vs := hvs2
    refine ks_iload_n hκ 13 2 dX6_ifLeapt_13 rfl ?_
    refine ks_pureS1 hκ 14 dX6_ifLeapt_14 kc_X6_185 (c_isLeap) (by decide) (Nat.le_of_ble_eq_true rfl) (by decide) (by decide) ?_
    refine ks_if_eq hκ 17 29 dX6_ifLeapt_17 rfl (fun c17 => ?_) (fun c17 => ?_)
    · skip
      refine ks_bipush hκ 29 (-2) dX6_ifLeapt_29 kq_bm2 ?_
      refine ks_iret hκ 31 hRt dX6_ifLeapt_31 (by decide) (by decide) rfl ?_
      have hq : kIfQ (se, tu, ki, ma, re, kf, L, P) (nI vj) z w = -2 := by
        unfold kIfQ
        first | rw [if_neg c8, if_pos c17] | rw [if_neg c8, if_neg c17, if_pos c21] | rw [if_neg c8, if_neg c17, if_neg c21, if_pos (Int32.not_le.mp c26)]
      rw [hq]
      exact ⟨_, rfl, rfl, hks0, kFX.rf⟩
    · skip
      refine ks_iload_n hκ 20 3 dX6_ifLeapt_20 rfl ?_
      refine ks_if_lt hκ 21 29 dX6_ifLeapt_21 rfl (fun c21 => ?_) (fun c21 => ?_)
      · skip
        refine ks_bipush hκ 29 (-2) dX6_ifLeapt_29 kq_bm2 ?_
        refine ks_iret hκ 31 hRt dX6_ifLeapt_31 (by decide) (by decide) rfl ?_
        have hq : kIfQ (se, tu, ki, ma, re, kf, L, P) (nI vj) z w = -2 := by
          unfold kIfQ
          first | rw [if_neg c8, if_pos c17] | rw [if_neg c8, if_neg c17, if_pos c21] | rw [if_neg c8, if_neg c17, if_neg c21, if_pos (Int32.not_le.mp c26)]
        rw [hq]
        exact ⟨_, rfl, rfl, hks0, kFX.rf⟩
      · skip
        refine ks_iload_n hκ 24 3 dX6_ifLeapt_24 rfl ?_
        refine ks_iconst hκ 25 (nI 3) dX6_ifLeapt_25 kq_i3 ?_
        refine ks_icmp_le hκ 26 32 dX6_ifLeapt_26 rfl (fun c26 => ?_) (fun c26 => ?_)
        · skip
          obtain ⟨vw, hvw, rfl⟩ : ∃ vw, vw < 4 ∧ w = nI vw := by
            rcases pk_ix w (n := 4) (by omega) with q | q | ⟨j, q1, q2⟩
            · exact absurd q c21
            · exact absurd (Int32.lt_of_lt_of_le (show nI 3 < nI 4 by decide) q) (Int32.not_lt.mpr c26)
            · exact ⟨j, q1, q2⟩
          refine ks_aload_n hκ 32 0 dX6_ifLeapt_32 rfl ?_
          refine ks_get hκ 33 dX6_ifLeapt_33 kf_X6_12 hO rfl ?_
          refine ks_iload_n hκ 36 1 dX6_ifLeapt_36 rfl ?_
          refine ks_iload_n hκ 37 2 dX6_ifLeapt_37 rfl ?_
          refine ks_pureV2 hκ 38 dX6_ifLeapt_38 kc_X6_188 (c_Stairs_refusal hst0 hvj hvs hvs2) h0 rfl (by decide) (Nat.le_of_ble_eq_true rfl) (by decide) (by decide) ?_
          refine ks_if_eq hκ 41 47 dX6_ifLeapt_41 rfl (fun c41 => ?_) (fun c41 => ?_)
          · skip
            obtain ⟨vt, hvt, rfl⟩ := kRef_0 c41 hvs3 hvs
            refine ks_aload_n hκ 47 0 dX6_ifLeapt_47 rfl ?_
            refine ks_get hκ 48 dX6_ifLeapt_48 kf_X6_16 hO rfl ?_
            refine ks_aload_n hκ 51 0 dX6_ifLeapt_51 rfl ?_
            refine ks_get hκ 52 dX6_ifLeapt_52 kf_X6_12 hO rfl ?_
            refine ks_voidV1 hκ 55 dX6_ifLeapt_55 kc_X6_191 (c_Stairs_copyFrom htri hst0 (by omega)) ht0 rfl (by decide) (Nat.le_of_ble_eq_true rfl) (by decide) (by decide) (fun xh1 hp55 => ?_)
            obtain ⟨htri2, hF1⟩ := hp55
            replace hst0 := hst0.fr hF1 (by omega)
            have ht1 := htri2.1
            replace hO := hF1.at hO (by omega)
            replace h0 := hF1.at h0 (by omega)
            replace h6 := hF1.at h6 (by omega)
            replace h7 := hF1.at h7 (by omega)
            refine ks_aload_n hκ 58 0 dX6_ifLeapt_58 rfl ?_
            refine ks_get hκ 59 dX6_ifLeapt_59 kf_X6_16 hO rfl ?_
            refine ks_iload_n hκ 62 1 dX6_ifLeapt_62 rfl ?_
            refine ks_iload_n hκ 63 2 dX6_ifLeapt_63 rfl ?_
            refine ks_voidV2 hκ 64 dX6_ifLeapt_64 kc_X6_194 (c_Stairs_makeLeap htri2 (by omega) hvs hvt hvs3) ht1 rfl (by decide) (Nat.le_of_ble_eq_true rfl) (by decide) (by decide) (fun xh2 hp64 => ?_)
            obtain ⟨htri3, hF3⟩ := hp64
            replace hst0 := hst0.fr hF3 (by omega)
            obtain ⟨g0, g1, g2, g3, g4, g5, g6, g7, g8, -⟩ := id htri3
            obtain ⟨hks5, hfx5⟩ := hks0.try htri3 (hF1.tr hF3)
            replace hO := hF3.at hO (by omega)
            replace h0 := hF3.at h0 (by omega)
            replace h6 := hF3.at h6 (by omega)
            replace h7 := hF3.at h7 (by omega)
            refine ks_iload_n hκ 67 3 dX6_ifLeapt_67 rfl ?_
            rcases ks_sw (nI vw) 0 2 (by decide) with hs68 | hs68 | ⟨sj68, ha68, hb68, hs68⟩
            · skip
              refine ks_tableOut hκ 68 156 dX6_ifLeapt_68 (Or.inl hs68) rfl ?_
              refine ks_aload_n hκ 156 0 dX6_ifLeapt_156 rfl ?_
              refine ks_get hκ 157 dX6_ifLeapt_157 kf_X6_12 hO rfl ?_
              refine ks_iload_n hκ 160 1 dX6_ifLeapt_160 rfl ?_
              refine ks_pureV1 hκ 161 dX6_ifLeapt_161 kc_X6_110 (c_Stairs_boundSet hst0 (by omega)) h0 rfl (by decide) (Nat.le_of_ble_eq_true rfl) (by decide) (by decide) ?_
              refine ks_aload_n hκ 164 0 dX6_ifLeapt_164 rfl ?_
              refine ks_get hκ 165 dX6_ifLeapt_165 kf_X6_16 hO rfl ?_
              refine ks_iload_n hκ 168 1 dX6_ifLeapt_168 rfl ?_
              refine ks_pureV1 hκ 169 dX6_ifLeapt_169 kc_X6_110 (c_Stairs_boundSet htri3 (by omega)) g0 rfl (by decide) (Nat.le_of_ble_eq_true rfl) (by decide) (by decide) ?_
              refine ks_iconst hκ 172 (-1) dX6_ifLeapt_172 kq_im1 ?_
              refine ks_ixor hκ 173 dX6_ifLeapt_173 ?_
              refine ks_iand hκ 174 dX6_ifLeapt_174 ?_
              refine ks_iret hκ 175 hRt dX6_ifLeapt_175 (by decide) (by decide) rfl ?_
              have hvj3 : vw = 3 := by rw [nI_toInt (by omega)] at hs68; omega
              subst hvj3
              have hq : kIfQ (se, tu, ki, ma, re, kf, L, P) (nI vj) (nI vt - nI vs) (nI 3) = kIfN (se, tu, ki, ma, re, kf, L, P) (kLeap (se, tu, ki, ma, re, kf, L, P) vj (nI vt - nI vs)) vj 3 := by
                unfold kIfQ
                rw [if_neg c8, if_neg c17, if_neg c21, if_neg (Int32.not_lt.mpr c26), nI_clamp (by omega), if_neg (fun q => q c41), nI_clamp (by omega)]
              rw [hq]
              exact ⟨_, rfl, rfl, hks5, hfx5⟩
            · skip
              refine ks_tableOut hκ 68 156 dX6_ifLeapt_68 (Or.inr hs68) rfl ?_
              refine ks_aload_n hκ 156 0 dX6_ifLeapt_156 rfl ?_
              refine ks_get hκ 157 dX6_ifLeapt_157 kf_X6_12 hO rfl ?_
              refine ks_iload_n hκ 160 1 dX6_ifLeapt_160 rfl ?_
              refine ks_pureV1 hκ 161 dX6_ifLeapt_161 kc_X6_110 (c_Stairs_boundSet hst0 (by omega)) h0 rfl (by decide) (Nat.le_of_ble_eq_true rfl) (by decide) (by decide) ?_
              refine ks_aload_n hκ 164 0 dX6_ifLeapt_164 rfl ?_
              refine ks_get hκ 165 dX6_ifLeapt_165 kf_X6_16 hO rfl ?_
              refine ks_iload_n hκ 168 1 dX6_ifLeapt_168 rfl ?_
              refine ks_pureV1 hκ 169 dX6_ifLeapt_169 kc_X6_110 (c_Stairs_boundSet htri3 (by omega)) g0 rfl (by decide) (Nat.le_of_ble_eq_true rfl) (by decide) (by decide) ?_
              refine ks_iconst hκ 172 (-1) dX6_ifLeapt_172 kq_im1 ?_
              refine ks_ixor hκ 173 dX6_ifLeapt_173 ?_
              refine ks_iand hκ 174 dX6_ifLeapt_174 ?_
              refine ks_iret hκ 175 hRt dX6_ifLeapt_175 (by decide) (by decide) rfl ?_
              have hvj3 : vw = 3 := by rw [nI_toInt (by omega)] at hs68; omega
              subst hvj3
              have hq : kIfQ (se, tu, ki, ma, re, kf, L, P) (nI vj) (nI vt - nI vs) (nI 3) = kIfN (se, tu, ki, ma, re, kf, L, P) (kLeap (se, tu, ki, ma, re, kf, L, P) vj (nI vt - nI vs)) vj 3 := by
                unfold kIfQ
                rw [if_neg c8, if_neg c17, if_neg c21, if_neg (Int32.not_lt.mpr c26), nI_clamp (by omega), if_neg (fun q => q c41), nI_clamp (by omega)]
              rw [hq]
              exact ⟨_, rfl, rfl, hks5, hfx5⟩
            · skip
              rcases (show sj68 = 0 ∨ sj68 = 1 ∨ sj68 = 2 by omega) with rfl | rfl | rfl
              · skip
                refine ks_top (nI 0) hs68 ?_
                refine ks_tableIn hκ 68 96 dX6_ifLeapt_68 (off := 28) (by decide) (by decide) (by decide) rfl ?_
                refine ks_aload_n hκ 96 0 dX6_ifLeapt_96 rfl ?_
                refine ks_get hκ 97 dX6_ifLeapt_97 kf_X6_16 hO rfl ?_
                refine ks_get hκ 100 dX6_ifLeapt_100 kf_X6_101 g0 rfl ?_
                refine ks_iload_n hκ 103 1 dX6_ifLeapt_103 rfl ?_
                refine ks_iald hκ 104 (vj) dX6_ifLeapt_104 g6 rfl (by omega) (by decide) ?_
                refine ks_aload_n hκ 105 0 dX6_ifLeapt_105 rfl ?_
                refine ks_get hκ 106 dX6_ifLeapt_106 kf_X6_12 hO rfl ?_
                refine ks_get hκ 109 dX6_ifLeapt_109 kf_X6_101 h0 rfl ?_
                refine ks_iload_n hκ 112 1 dX6_ifLeapt_112 rfl ?_
                refine ks_iald hκ 113 (vj) dX6_ifLeapt_113 h6 rfl (by omega) (by decide) ?_
                refine ks_isub hκ 114 dX6_ifLeapt_114 ?_
                refine ks_iret hκ 115 hRt dX6_ifLeapt_115 (by decide) (by decide) rfl ?_
                have hvj3 : vw = 0 := (nI_eq (by omega) (by decide)).mp hs68
                subst hvj3
                have hq : kIfQ (se, tu, ki, ma, re, kf, L, P) (nI vj) (nI vt - nI vs) (nI 0) = kIfN (se, tu, ki, ma, re, kf, L, P) (kLeap (se, tu, ki, ma, re, kf, L, P) vj (nI vt - nI vs)) vj 0 := by
                  unfold kIfQ
                  rw [if_neg c8, if_neg c17, if_neg c21, if_neg (Int32.not_lt.mpr c26), nI_clamp (by omega), if_neg (fun q => q c41), nI_clamp (by omega)]
                rw [hq]
                exact ⟨_, rfl, rfl, hks5, hfx5⟩
              · skip
                refine ks_top (nI 1) hs68 ?_
                refine ks_tableIn hκ 68 116 dX6_ifLeapt_68 (off := 48) (by decide) (by decide) (by decide) rfl ?_
                refine ks_aload_n hκ 116 0 dX6_ifLeapt_116 rfl ?_
                refine ks_get hκ 117 dX6_ifLeapt_117 kf_X6_16 hO rfl ?_
                refine ks_get hκ 120 dX6_ifLeapt_120 kf_X6_104 g0 rfl ?_
                refine ks_iload_n hκ 123 1 dX6_ifLeapt_123 rfl ?_
                refine ks_iald hκ 124 (vj) dX6_ifLeapt_124 g7 rfl (by omega) (by decide) ?_
                refine ks_aload_n hκ 125 0 dX6_ifLeapt_125 rfl ?_
                refine ks_get hκ 126 dX6_ifLeapt_126 kf_X6_12 hO rfl ?_
                refine ks_get hκ 129 dX6_ifLeapt_129 kf_X6_104 h0 rfl ?_
                refine ks_iload_n hκ 132 1 dX6_ifLeapt_132 rfl ?_
                refine ks_iald hκ 133 (vj) dX6_ifLeapt_133 h7 rfl (by omega) (by decide) ?_
                refine ks_isub hκ 134 dX6_ifLeapt_134 ?_
                refine ks_iret hκ 135 hRt dX6_ifLeapt_135 (by decide) (by decide) rfl ?_
                have hvj3 : vw = 1 := (nI_eq (by omega) (by decide)).mp hs68
                subst hvj3
                have hq : kIfQ (se, tu, ki, ma, re, kf, L, P) (nI vj) (nI vt - nI vs) (nI 1) = kIfN (se, tu, ki, ma, re, kf, L, P) (kLeap (se, tu, ki, ma, re, kf, L, P) vj (nI vt - nI vs)) vj 1 := by
                  unfold kIfQ
                  rw [if_neg c8, if_neg c17, if_neg c21, if_neg (Int32.not_lt.mpr c26), nI_clamp (by omega), if_neg (fun q => q c41), nI_clamp (by omega)]
                rw [hq]
                exact ⟨_, rfl, rfl, hks5, hfx5⟩
              · skip
                refine ks_top (nI 2) hs68 ?_
                refine ks_tableIn hκ 68 136 dX6_ifLeapt_68 (off := 68) (by decide) (by decide) (by decide) rfl ?_
                refine ks_aload_n hκ 136 0 dX6_ifLeapt_136 rfl ?_
                refine ks_get hκ 137 dX6_ifLeapt_137 kf_X6_16 hO rfl ?_
                refine ks_iload_n hκ 140 1 dX6_ifLeapt_140 rfl ?_
                refine ks_pureV1 hκ 141 dX6_ifLeapt_141 kc_X6_110 (c_Stairs_boundSet htri3 (by omega)) g0 rfl (by decide) (Nat.le_of_ble_eq_true rfl) (by decide) (by decide) ?_
                refine ks_aload_n hκ 144 0 dX6_ifLeapt_144 rfl ?_
                refine ks_get hκ 145 dX6_ifLeapt_145 kf_X6_12 hO rfl ?_
                refine ks_iload_n hκ 148 1 dX6_ifLeapt_148 rfl ?_
                refine ks_pureV1 hκ 149 dX6_ifLeapt_149 kc_X6_110 (c_Stairs_boundSet hst0 (by omega)) h0 rfl (by decide) (Nat.le_of_ble_eq_true rfl) (by decide) (by decide) ?_
                refine ks_iconst hκ 152 (-1) dX6_ifLeapt_152 kq_im1 ?_
                refine ks_ixor hκ 153 dX6_ifLeapt_153 ?_
                refine ks_iand hκ 154 dX6_ifLeapt_154 ?_
                refine ks_iret hκ 155 hRt dX6_ifLeapt_155 (by decide) (by decide) rfl ?_
                have hvj3 : vw = 2 := (nI_eq (by omega) (by decide)).mp hs68
                subst hvj3
                have hq : kIfQ (se, tu, ki, ma, re, kf, L, P) (nI vj) (nI vt - nI vs) (nI 2) = kIfN (se, tu, ki, ma, re, kf, L, P) (kLeap (se, tu, ki, ma, re, kf, L, P) vj (nI vt - nI vs)) vj 2 := by
                  unfold kIfQ
                  rw [if_neg c8, if_neg c17, if_neg c21, if_neg (Int32.not_lt.mpr c26), nI_clamp (by omega), if_neg (fun q => q c41), nI_clamp (by omega)]
                rw [hq]
                exact ⟨_, rfl, rfl, hks5, hfx5⟩
          · skip
            refine ks_bipush hκ 44 (-5) dX6_ifLeapt_44 kq_bm5 ?_
            refine ks_iret hκ 46 hRt dX6_ifLeapt_46 (by decide) (by decide) rfl ?_
            have hq : kIfQ (se, tu, ki, ma, re, kf, L, P) (nI vj) z (nI vw) = -5 := by
              unfold kIfQ
              rw [if_neg c8, if_neg c17, if_neg c21, if_neg (Int32.not_lt.mpr c26), nI_clamp (by omega), if_pos c41]
            rw [hq]
            exact ⟨_, rfl, rfl, hks0, kFX.rf⟩
        · skip
          refine ks_bipush hκ 29 (-2) dX6_ifLeapt_29 kq_bm2 ?_
          refine ks_iret hκ 31 hRt dX6_ifLeapt_31 (by decide) (by decide) rfl ?_
          have hq : kIfQ (se, tu, ki, ma, re, kf, L, P) (nI vj) z w = -2 := by
            unfold kIfQ
            first | rw [if_neg c8, if_pos c17] | rw [if_neg c8, if_neg c17, if_pos c21] | rw [if_neg c8, if_neg c17, if_neg c21, if_pos (Int32.not_le.mp c26)]
          rw [hq]
          exact ⟨_, rfl, rfl, hks0, kFX.rf⟩
  · skip
    refine ks_iconst hκ 11 (-1) dX6_ifLeapt_11 kq_im1 ?_
    refine ks_iret hκ 12 hRt dX6_ifLeapt_12 (by decide) (by decide) rfl ?_
    have hq : kIfQ (se, tu, ki, ma, re, kf, L, P) x z w = -1 := if_pos c8
    rw [hq]
    exact ⟨_, rfl, rfl, hks0, kFX.rf⟩
set_option maxRecDepth 100000 in
set_option maxHeartbeats 4000000 in
theorem c_stepIn {g : ks_G} {h : ks_H} {o : Nat} {X : Nat → Prop} {se : Nat → Int32} {tu : Int32} {ki : Nat} {ma re : Int32} {kf : Nat → Nat → Int32} {L : List (Nat × Nat)} {P : List kP} {H : List kS} {S : Nat → Option kS} {l : List Int32} {δ : Option kS} {x z : Int32} {n0 : Nat} (hks : kKS g h o X (se, tu, ki, ma, re, kf, L, P) δ H S l) (hok : kOk2 (se, tu, ki, ma, re, kf, L, P)) (htu : tu = nI n0) (hn0 : n0 ≤ 20000) : ks_Met g (yX6_stepIn, cX6_stepIn, 4, some .int) 4 0 0 [ks_ref g o, .int x, .int z] h (ks_Ph (fun r h' => r = kSpQ (se, tu, ki, ma, re, kf, L, P) x z ∧ kKS g h' o X (se, tu, ki, ma, re, kf, L, P) δ H S l ∧ kFX X h h')) := by
  have hks0 := hks
  have hol := hks.len
  obtain ⟨τ, dp, F, G, Q, LT, PT, vs, vn, hO, hnow, htri, hH, hF7, hG2, hpad, hord, hrooms, hring, hX⟩ := hks
  obtain ⟨hdp, hHl, hrH, hrD, hrS⟩ := id hring
  have hst0 := hnow
  obtain ⟨h0, h1, h2, h3, h4, h5, h6, h7, h8, hyarn, hplans, hki⟩ := hnow
  dsimp only at h0 h1 h2 h3 h4 h5 h6 h7 h8 hyarn hplans hki
  obtain ⟨YE, YO, hY, hYE, hYO, hYEO, hYL, hYp⟩ := id hyarn
  obtain ⟨PT1, PK1, PB1, hQ, hPT, hPK, hPB, hPEO, hPl, hPk⟩ := id hplans
  obtain ⟨DT, hD, -, -, hDl⟩ := id hpad
  have ht0 := htri.1
  refine ks_intro (by decide) (Nat.le_of_ble_eq_true rfl) (fun κ hκ hRt => ?_)
  refine ks_cv (ls := [(0, ks_ref g o), (1, .int x), (2, .int z)]) ?_ rfl rfl rfl
  refine ks_aload_n hκ 0 0 dX6_stepIn_0 rfl ?_
  refine ks_get hκ 1 dX6_stepIn_1 kf_X6_12 hO rfl ?_
  refine ks_iload_n hκ 4 1 dX6_stepIn_4 rfl ?_
  refine ks_pureV1 hκ 5 dX6_stepIn_5 kc_X6_75 (c_Stairs_hasKitten hst0) h0 rfl (by decide) (Nat.le_of_ble_eq_true rfl) (by decide) (by decide) ?_
  refine ks_if_ne hκ 8 13 dX6_stepIn_8 rfl (fun c8 => ?_) (fun c8 => ?_)
  · skip
    obtain ⟨vj, hvj, rfl⟩ := kHas_1 c8 hki
    refine ks_iload_n hκ 13 2 dX6_stepIn_13 rfl ?_
    refine ks_iconst hκ 14 (nI 1) dX6_stepIn_14 kq_i1 ?_
    refine ks_icmp_lt hκ 15 24 dX6_stepIn_15 rfl (fun c15 => ?_) (fun c15 => ?_)
    · skip
      refine ks_bipush hκ 24 (-2) dX6_stepIn_24 kq_bm2 ?_
      refine ks_iret hκ 26 hRt dX6_stepIn_26 (by decide) (by decide) rfl ?_
      have hq : kSpQ (se, tu, ki, ma, re, kf, L, P) (nI vj) z = -2 := by
        unfold kSpQ
        first | rw [if_neg c8, if_pos c15] | rw [if_neg c8, if_neg c15, if_pos (Int32.not_le.mp c21)]
      rw [hq]
      exact ⟨_, rfl, rfl, hks0, kFX.rf⟩
    · skip
      refine ks_iload_n hκ 18 2 dX6_stepIn_18 rfl ?_
      refine ks_bipush hκ 19 (nI 99) dX6_stepIn_19 kq_b99 ?_
      refine ks_icmp_le hκ 21 27 dX6_stepIn_21 rfl (fun c21 => ?_) (fun c21 => ?_)
      · skip
        obtain ⟨vn, hvn, rfl⟩ : ∃ vn, vn < 100 ∧ z = nI vn := by
          rcases pk_ix z (n := 100) (by omega) with q | q | ⟨j, q1, q2⟩
          · exact absurd (Int32.lt_trans q (show (0 : Int32) < nI 1 by decide)) c15
          · exact absurd (Int32.lt_of_lt_of_le (show nI 99 < nI 100 by decide) q) (Int32.not_lt.mpr c21)
          · exact ⟨j, q1, q2⟩
        refine ks_aload_n hκ 27 0 dX6_stepIn_27 rfl ?_
        refine ks_get hκ 28 dX6_stepIn_28 kf_X6_16 hO rfl ?_
        refine ks_aload_n hκ 31 0 dX6_stepIn_31 rfl ?_
        refine ks_get hκ 32 dX6_stepIn_32 kf_X6_12 hO rfl ?_
        refine ks_voidV1 hκ 35 dX6_stepIn_35 kc_X6_191 (c_Stairs_copyFrom htri hst0 (by omega)) ht0 rfl (by decide) (Nat.le_of_ble_eq_true rfl) (by decide) (by decide) (fun xh1 hp35 => ?_)
        obtain ⟨htri2, hF1⟩ := hp35
        refine ks_iconst hκ 38 (nI 0) dX6_stepIn_38 kq_i0 ?_
        refine ks_istore_n hκ 39 3 [(3, _), (0, _), (1, _), (2, _)] dX6_stepIn_39 rfl (by decide) rfl ?_
        have L40 : ∀ (fuel : Nat) (vf vi vm : Nat) (ρ : kS) (hh : ks_H) (hst : kStairs g hh (o + 17) ρ) (hF : ks_Fr h hh (o + 17) (o + 17 + 16)) (hvi : vf + vi = vn) (hok1 : kOk2 ρ) (htu1 : ρ.2.1 = nI (n0 + vi)) (hinv : kPass vf ρ vm = kPass vn (se, tu, ki, ma, re, kf, L, P) 0) (hfuel : vf < fuel), ks_K κ g 4 hh 0 0 40 [(0, ks_ref g o), (1, .int (nI vj)), (2, .int (nI vn)), (3, .int (nI vi))] [] := by
          intro fuel
          induction fuel with
          | zero => intro vf vi vm ρ hh hst hF hvi hok1 htu1 hinv hfuel; exact absurd hfuel (Nat.not_lt_zero _)
          | succ fuel ih =>
            intro vf vi vm ρ hh hst hF hvi hok1 htu1 hinv hfuel
            obtain ⟨se1, tu1, ki1, ma1, re1, kf1, L1, P1⟩ := ρ
            have hO1 := hF.at hO (by omega)
            obtain ⟨g0, g1, g2, -⟩ := id hst
            refine ks_iload_n hκ 40 3 dX6_stepIn_40 rfl ?_
            refine ks_iload_n hκ 41 2 dX6_stepIn_41 rfl ?_
            refine ks_icmp_ge hκ 42 59 dX6_stepIn_42 rfl (fun c42 => ?_) (fun c42 => ?_)
            · skip
              have c42 := (nI_leI (by omega) (by omega)).mp c42
              have hvf : vf = 0 := by omega
              subst hvf
              refine ks_aload_n hκ 59 0 dX6_stepIn_59 rfl ?_
              refine ks_get hκ 60 dX6_stepIn_60 kf_X6_16 hO1 rfl ?_
              refine ks_get hκ 63 dX6_stepIn_63 kf_X6_79 g0 rfl ?_
              refine ks_iload_n hκ 66 1 dX6_stepIn_66 rfl ?_
              refine ks_iald hκ 67 (vj) dX6_stepIn_67 g2 rfl (by omega) (by decide) ?_
              refine ks_iret hκ 68 hRt dX6_stepIn_68 (by decide) (by decide) rfl ?_
              have hq : kSpQ (se, tu, ki, ma, re, kf, L, P) (nI vj) (nI vn) = kf1 0 vj := by
                unfold kSpQ
                rw [if_neg c8, if_neg c15, if_neg (Int32.not_lt.mpr c21), nI_clamp (by omega), nI_clamp (by omega), ← hinv]
                rfl
              rw [hq]
              obtain ⟨hks5, hfx5⟩ := hks0.try hst hF
              exact ⟨_, rfl, rfl, hks5, hfx5⟩
            · skip
              have c42 := mt (nI_leI (by omega) (by omega)).mpr c42
              obtain ⟨vf1, rfl⟩ : ∃ vf1, vf = vf1 + 1 := ⟨vf - 1, by omega⟩
              refine ks_aload_n hκ 45 0 dX6_stepIn_45 rfl ?_
              refine ks_get hκ 46 dX6_stepIn_46 kf_X6_16 hO1 rfl ?_
              refine ks_intcV0 hκ 49 dX6_stepIn_49 kc_X6_212 (c_Stairs_passOneTurn hst ⟨by rw [show tu1 = nI (n0 + vi) from htu1]; exact fun q => absurd (congrArg Int32.toInt q) (by rw [nI_toInt (by omega)]; show ¬ _ = (-6 : Int); omega), hok1⟩ (by rw [show tu1 = nI (n0 + vi) from htu1, nI_add]; exact fun q => absurd (congrArg Int32.toInt q) (by rw [nI_toInt (by omega)]; show ¬ _ = (-6 : Int); omega))) g0 rfl (by decide) (Nat.le_of_ble_eq_true rfl) (by decide) (by decide) (fun r49 xh2 hp49 => ?_)
              obtain ⟨-, hst9, hF8⟩ := hp49
              have hF9 := hF.tr hF8
              refine ks_pop hκ 52 dX6_stepIn_52 rfl ?_
              refine ks_iinc hκ 53 3 3 (nI (vi + 1)) [(3, _), (0, _), (1, _), (2, _)] dX6_stepIn_53 rfl (ks_inc1 _) (by decide) rfl ?_
              refine ks_goto hκ 56 40 dX6_stepIn_56 rfl ?_
              refine ks_pick [1, 2, 3, 0] [(0, _), (1, _), (2, _), (3, _)] rfl ?_
              exact ks_cv (ih vf1 _ _ _ xh2 hst9 hF9 (by omega) (kTurn_ok hok1).1 (by rw [(kTurn_ok hok1).2.2.1]; show tu1 + nI 1 = _; rw [show tu1 = nI (n0 + vi) from htu1, nI_add]; rfl) hinv (by omega)) rfl rfl rfl
        refine ks_pick [1, 2, 3, 0] [(0, _), (1, _), (2, _), (3, _)] rfl ?_
        exact ks_cv (L40 _ vn 0 0 _ xh1 htri2 hF1 (by omega) hok htu rfl (Nat.lt_succ_self _)) rfl rfl rfl
      · skip
        refine ks_bipush hκ 24 (-2) dX6_stepIn_24 kq_bm2 ?_
        refine ks_iret hκ 26 hRt dX6_stepIn_26 (by decide) (by decide) rfl ?_
        have hq : kSpQ (se, tu, ki, ma, re, kf, L, P) (nI vj) z = -2 := by
          unfold kSpQ
          first | rw [if_neg c8, if_pos c15] | rw [if_neg c8, if_neg c15, if_pos (Int32.not_le.mp c21)]
        rw [hq]
        exact ⟨_, rfl, rfl, hks0, kFX.rf⟩
  · skip
    refine ks_iconst hκ 11 (-1) dX6_stepIn_11 kq_im1 ?_
    refine ks_iret hκ 12 hRt dX6_stepIn_12 (by decide) (by decide) rfl ?_
    have hq : kSpQ (se, tu, ki, ma, re, kf, L, P) x z = -1 := if_pos c8
    rw [hq]
    exact ⟨_, rfl, rfl, hks0, kFX.rf⟩
