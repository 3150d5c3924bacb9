
/-! THE MODEL: fault and carryOut, over its world -/
theorem c_Model_orderErrorS {g : ks_G} {h : ks_H} {m : Nat} {w1 w2 w3 w4 w5 : Value} {kd on tw bx : Int32} {f : Nat → Int32} {σ : kS} (hM : h[m]? = some (ks_O 7 [ks_ref g (m + 1), w1, w2, w3, w4, w5, .int kd, .int on, .int tw, .int bx])) (hS : h[m + 1]? = some (ks_I g 3400 f)) (hmd : kMd f 0 σ) (hok : kOk2 σ) : ks_Met g (yX7_orderError, cX7_orderError, 1, some .int) 7 0 0 [ks_ref g m] h (ks_Pi (kErM σ kd on tw bx) h) := by
  obtain ⟨se, tu, ki, ma, re, kf, L, P⟩ := σ
  exact c_Model_orderError hM hS hmd hok
theorem c_Model_doesS {g : ks_G} {h : ks_H} {m : Nat} {w1 w2 w3 w4 w5 : Value} {kd on tw bx : Int32} {f : Nat → Int32} {σ : kS} (hM : h[m]? = some (ks_O 7 [ks_ref g (m + 1), w1, w2, w3, w4, w5, .int kd, .int on, .int tw, .int bx])) (hS : h[m + 1]? = some (ks_I g 3400 f)) (hmd : kMd f 0 σ) (hok : kOk2 σ) (hbal : kBal σ) (her : kErM σ kd on tw bx = 0) : ks_Met g (yX7_does, cX7_does, 1, some .int) 8 0 0 [ks_ref g m] h (ks_Ph (fun r h' => r = (kDoM σ kd on tw bx).1 ∧ kMP g m 0 h h' f (kDoM σ kd on tw bx).2)) := by
  obtain ⟨se, tu, ki, ma, re, kf, L, P⟩ := σ
  exact c_Model_does hM hS hmd hok hbal her
theorem kDoM_nn {σ : kS} {kd on tw bx : Int32} (h : kErM σ kd on tw bx = 0) (hv : kIv σ) (hL : σ.2.2.2.2.2.2.1.length ≤ 240) : ¬ (kDoM σ kd on tw bx).1 < 0 := by
  obtain ⟨h1, h2, h3, h4, h5, h6⟩ := hv
  unfold kErM at h
  unfold kDoM
  by_cases a : kd = nI 103
  · rw [if_pos a] at h ⊢
    obtain ⟨j, s, t, hj, e1, hs, ht, hs2, e2, hr, e3⟩ := kLpE_ok h6 h1.1 h
    rw [e3]; exact nI_pos (by omega)
  · rw [if_neg a] at h ⊢
    by_cases b : kd = nI 107
    · rw [if_pos b] at h ⊢
      rw [(kKitE_ok h).1]; exact nI_pos (by omega)
    · rw [if_neg b] at h ⊢
      by_cases c : kd = nI 110
      · rw [if_pos c] at h ⊢
        obtain ⟨j, hj, e1, e2⟩ := kNapE_ok h6 h
        obtain ⟨n, hn, e3⟩ := h1.2
        obtain ⟨w, hw, e4⟩ := h3 2 (by decide)
        rw [e2]
        show ¬ σ.2.1 + σ.1 2 < 0
        rw [e3, e4, nI_add]; exact nI_pos (by omega)
      · rw [if_neg c] at h ⊢
        by_cases d : kd = nI 112
        · rw [if_pos d] at h ⊢
          obtain ⟨j, hj, e1, hl, q1, q2, e2⟩ := kPlE_ok h6 h
          rw [e2]; exact nI_pos (by omega)
        · rw [if_neg d] at h ⊢
          by_cases e : kd = nI 120
          · rw [if_pos e] at h ⊢
            obtain ⟨e9, j, he, e1, hj, e2, e3⟩ := kSnE_ok h6 h
            rw [e3]; exact nI_pos (by omega)
          · rw [if_neg e] at h ⊢
            obtain ⟨n, hn1, hn2, e1, q, e2⟩ := kPasE_ok h
            have := kPass_le n σ 0
            rw [e2]; exact nI_pos (by omega)
theorem kCarry_le : ∀ (zs : List kO) (σ : kS) (n : Nat), (kCarry zs σ n).1 ≤ n + zs.length
  | [], σ, n => Nat.le_refl _
  | z :: zs, σ, n => by
    rw [kCarry, List.length_cons]
    split
    · show n ≤ _; omega
    · have := kCarry_le zs (kOne σ z.1 z.2.1 z.2.2.1 z.2.2.2).2 (n + 1)
      omega
set_option maxRecDepth 100000 in
set_option maxHeartbeats 4000000 in
theorem c_Model_carryOut {g : ks_G} {h : ks_H} {m : Nat} {σ : kS} {H : List kS} {S : Nat → Option kS} {l : List Int32} (hmm : kMM g h m σ H S l) (hiv : kIv σ) : ks_Met g (yX7_carryOut, cX7_carryOut, 5, some .int) 9 0 0 [ks_ref g m] h (ks_Ph (fun r h' => r = (kCarQ σ H l).1 ∧ kMM g h' m (kCarQ σ H l).2.1 (kCarQ σ H l).2.2.1 S (kCarQ σ H l).2.2.2 ∧ ks_Fr h h' m (m + 4))) := by
  obtain ⟨f, Z, T, sp, kd, on, tw, bx, hM, hS, hZ, hT, hmd, hH, hHl, hSl, hTO, hll, hch⟩ := hmm
  refine ks_intro (by decide) (Nat.le_of_ble_eq_true rfl) (fun κ hκ hRt => ?_)
  refine ks_cv (ls := [(0, ks_ref g m)]) ?_ rfl rfl rfl
  have hF : ks_Fr h h m (m + 4) := ks_Fr.rf
  refine ks_aload_n hκ 0 0 dX7_carryOut_0 rfl ?_
  refine ks_intcV0 hκ 1 dX7_carryOut_1 kc_X7_252 (c_Model_fault hM hT hTO hll hch) hM rfl (by decide) (Nat.le_of_ble_eq_true rfl) (by decide) (by decide) (fun r1 xh1 hp1 => ?_)
  obtain ⟨rfl, ⟨vq, kd1, on1, tw1, bx1, hM⟩, hF9⟩ := hp1
  replace hS := hF9.at hS (by omega)
  replace hZ := hF9.at hZ (by omega)
  replace hT := hF9.at hT (by omega)
  replace hF := hF.tr (hF9.wd (by omega) (by omega))
  refine ks_bipush hκ 4 (-6) dX7_carryOut_4 kq_bm6 ?_
  refine ks_icmp_eq hκ 6 12 dX7_carryOut_6 rfl (fun c6 => ?_) (fun c6 => ?_)
  · skip
    have hq : kCarQ σ H l = (nI (kCarry (kRead 27 l 0 []).2 σ 0).1, (kCarry (kRead 27 l 0 []).2 σ 0).2, kKeep (nI (kCarry (kRead 27 l 0 []).2 σ 0).1) σ H, []) := if_pos c6
    refine ks_aload_n hκ 12 0 dX7_carryOut_12 rfl ?_
    refine ks_voidV0 hκ 13 dX7_carryOut_13 kc_X7_129 (c_Model_changes hM hS hH hmd hHl) hM rfl (by decide) (Nat.le_of_ble_eq_true rfl) (by decide) (by decide) (fun xh2 hp13 => ?_)
    obtain ⟨f2, hM, hS, hF9, hH2, hu2⟩ := hp13
    have hmd2 : kMd f2 0 σ := hmd.move (fun n hn => hu2 _ (by omega))
    have hSl2 : kSl f2 Z S := hSl.keep (fun j _ hj => hu2 _ (by omega))
    replace hZ := hF9.at hZ (by omega)
    replace hT := hF9.at hT (by omega)
    replace hF := hF.tr (hF9.wd (by omega) (by omega))
    refine ks_aload_n hκ 16 0 dX7_carryOut_16 rfl ?_
    refine ks_iconst hκ 17 (nI 0) dX7_carryOut_17 kq_i0 ?_
    refine ks_putS hκ 18 [_, _, _, _, _, _, _, _, _, _] dX7_carryOut_18 kf_X7_211 hM rfl rfl (Nat.le_of_ble_eq_true rfl) rfl ?_
    refine ks_gen (fun xh3 exh3 => ?_)
    replace hM := ks_gs exh3 hM
    replace hS := ks_gn exh3 (ks_nb (b := m) (i := 0) (j := 1) rfl) hS
    replace hZ := ks_gn exh3 (ks_nb (b := m) (i := 0) (j := 2) rfl) hZ
    replace hT := ks_gn exh3 (ks_nb (b := m) (i := 0) (j := 3) rfl) hT
    replace hF := ks_Fr.st hF exh3 (by omega) (by omega)
    clear exh3
    refine ks_iconst hκ 21 (nI 0) dX7_carryOut_21 kq_i0 ?_
    refine ks_istore_n hκ 22 1 [(1, _), (0, _)] dX7_carryOut_22 rfl (by decide) rfl ?_
    refine ks_iconst hκ 23 (nI 1) dX7_carryOut_23 kq_i1 ?_
    refine ks_istore_n hκ 24 2 [(2, _), (1, _), (0, _)] dX7_carryOut_24 rfl (by decide) rfl ?_
    have L25 : ∀ (fuel : Nat) (vf vi vd vb : Nat) (σ1 : kS) (f1 : Nat → Int32) (zs : List kO) (kd3 on3 tw3 bx3 : Int32) (hh : ks_H) (hM : hh[m]? = some (ks_O 7 [ks_ref g (m + 1), .int (nI ((σ :: H).take 6).length), ks_ref g (m + 2), ks_ref g (m + 3), .int (nI l.length), .int (nI vi), .int kd3, .int on3, .int tw3, .int bx3])) (hS : hh[m + 1]? = some (ks_I g 3400 f1)) (hZ : hh[m + 2]? = some (ks_Z g 2 Z)) (hT : hh[m + 3]? = some (ks_I g 80 T)) (hF : ks_Fr h hh m (m + 4)) (hmd1 : kMd f1 0 σ1) (hiv1 : kIv σ1) (hout : ∀ j, 340 ≤ j → f1 j = f2 j) (hvb : vb ≤ 1) (hvi : vi ≤ l.length) (h1 : vb = 1 → kRead vf l vi [] = (-6, zs) ∧ kCarry zs σ1 vd = kCarry (kRead 27 l 0 []).2 σ 0) (h0 : vb = 0 → (vd, σ1) = kCarry (kRead 27 l 0 []).2 σ 0) (hfuel : vf + vb < fuel), ks_K κ g 5 hh 0 0 25 [(0, ks_ref g m), (1, .int (nI vd)), (2, .int (nI vb))] [] := by
      intro fuel
      induction fuel with
      | zero => intro vf vi vd vb σ1 f1 zs kd3 on3 tw3 bx3 hh hM hS hZ hT hF hmd1 hiv1 hout hvb hvi h1 h0 hfuel; exact absurd hfuel (Nat.not_lt_zero _)
      | succ fuel ih =>
        intro vf vi vd vb σ1 f1 zs kd3 on3 tw3 bx3 hh hM hS hZ hT hF hmd1 hiv1 hout hvb hvi h1 h0 hfuel
        refine ks_iload_n hκ 25 2 dX7_carryOut_25 rfl ?_
        refine ks_if_eq hκ 26 98 dX7_carryOut_26 rfl (fun c26 => ?_) (fun c26 => ?_)
        · skip
          have c26 := (ks_eq0 (by omega)).mp c26
          refine ks_aload_n hκ 98 0 dX7_carryOut_98 rfl ?_
          refine ks_iconst hκ 99 (nI 0) dX7_carryOut_99 kq_i0 ?_
          refine ks_putS hκ 100 [_, _, _, _, _, _, _, _, _, _] dX7_carryOut_100 kf_X7_193 hM rfl rfl (Nat.le_of_ble_eq_true rfl) rfl ?_
          refine ks_gen (fun xh4 exh4 => ?_)
          replace hM := ks_gs exh4 hM
          replace hS := ks_gn exh4 (ks_nb (b := m) (i := 0) (j := 1) rfl) hS
          replace hZ := ks_gn exh4 (ks_nb (b := m) (i := 0) (j := 2) rfl) hZ
          replace hT := ks_gn exh4 (ks_nb (b := m) (i := 0) (j := 3) rfl) hT
          replace hF := ks_Fr.st hF exh4 (by omega) (by omega)
          clear exh4
          refine ks_iload_n hκ 103 1 dX7_carryOut_103 rfl ?_
          refine ks_iret hκ 104 hRt dX7_carryOut_104 (by decide) (by decide) rfl ?_
          have h0a := h0 (by omega)
          have hcl := kCarry_le (kRead 27 l 0 []).2 σ 0
          have hrl := kRead_len 27 l 0 []
          rw [← h0a] at hq hcl
          dsimp only at hq hcl
          rw [hq]
          have hvd : vd ≤ 27 := by
            have hrl2 : (kRead 27 l 0 []).2.length ≤ 0 + 27 := hrl
            omega
          dsimp only
          rw [kKeep_ok (nI_pos (by omega))]
          exact ⟨_, rfl, rfl, ⟨f1, Z, T, _, _, _, _, _, hM, hS, hZ, hT, hmd1, hH2.keep kTk6 hout, kTk6, hSl2.keep (fun j hj _ => hout j hj), fun i v hi => by simp at hi, Nat.zero_le _, fun v hv => by simp at hv⟩, hF⟩
        · skip
          have c26 := mt (ks_eq0 (by omega)).mpr c26
          obtain ⟨h1a, h1b⟩ := h1 (by omega)
          obtain ⟨vg, rfl⟩ : ∃ vg, vf = vg + 1 := by
            cases vf with
            | zero => exact absurd (congrArg Prod.fst h1a) (nI_m6 (by omega))
            | succ vg => exact ⟨vg, rfl⟩
          obtain ⟨hro1, zs2, rfl, hnx⟩ := kRead_step h1a hvi hll
          have hro := kRO_len hvi
          refine ks_aload_n hκ 29 0 dX7_carryOut_29 rfl ?_
          refine ks_intcV0 hκ 30 dX7_carryOut_30 kc_X7_249 (c_Model_readsOrder hM hT hTO hll hch (by omega)) hM rfl (by decide) (Nat.le_of_ble_eq_true rfl) (by decide) (by decide) (fun r30 xh5 hp30 => ?_)
          obtain ⟨rfl, ⟨kd4, on4, tw4, bx4, hM, hmf⟩, hF9⟩ := hp30
          have hmf := hmf hro1
          have hone := kDoM_one (σ := σ1) hmf (kRO_lt hro1)
          rw [kCarry, ← hone] at h1b
          replace hS := hF9.at hS (by omega)
          replace hZ := hF9.at hZ (by omega)
          replace hT := hF9.at hT (by omega)
          replace hF := hF.tr (hF9.wd (by omega) (by omega))
          refine ks_if_eq hκ 33 47 dX7_carryOut_33 rfl (fun c33 => ?_) (fun c33 => ?_)
          · exfalso
            rw [hro1] at c33; exact absurd c33 (show ¬ kB1 true = 0 by decide)
          · skip
            refine ks_aload_n hκ 36 0 dX7_carryOut_36 rfl ?_
            refine ks_pureV0 hκ 37 dX7_carryOut_37 kc_X7_255 (c_Model_orderErrorS hM hS hmd1 hiv1.1.1) hM rfl (by decide) (Nat.le_of_ble_eq_true rfl) (by decide) (by decide) ?_
            refine ks_if_ne hκ 40 47 dX7_carryOut_40 rfl (fun c40 => ?_) (fun c40 => ?_)
            · skip
              obtain ⟨her1, her2⟩ := kErM_er c40
              rw [her1, if_pos (show kErM σ1 kd4 on4 tw4 bx4 < 0 from her2)] at h1b
              refine ks_iconst hκ 47 (nI 0) dX7_carryOut_47 kq_i0 ?_
              refine ks_istore_n hκ 48 3 [(3, _), (0, _), (1, _), (2, _)] dX7_carryOut_48 rfl (by decide) rfl ?_
              refine ks_iload_n hκ 49 0 dX7_carryOut_49 rfl ?_
              refine ks_if_eq hκ 50 60 dX7_carryOut_50 rfl (fun c50 => ?_) (fun c50 => ?_)
              · skip
                refine ks_bipush hκ 60 (-6) dX7_carryOut_60 kq_bm6 ?_
                refine ks_istore hκ 62 4 [(4, _), (3, _), (0, _), (1, _), (2, _)] dX7_carryOut_62 (by decide) rfl ?_
                refine ks_iload_n hκ 64 3 dX7_carryOut_64 rfl ?_
                refine ks_iload_n hκ 65 1 dX7_carryOut_65 rfl ?_
                refine ks_if_eq hκ 66 73 dX7_carryOut_66 rfl (fun c66 => ?_) (fun c66 => ?_)
                · skip
                  refine ks_iconst hκ 73 (nI 0) dX7_carryOut_73 kq_i0 ?_
                  refine ks_iaddN hκ 74 dX7_carryOut_74 ?_
                  refine ks_istore_n hκ 75 1 [(1, _), (4, _), (3, _), (0, _), (2, _)] dX7_carryOut_75 rfl (by decide) rfl ?_
                  refine ks_iload_n hκ 76 2 dX7_carryOut_76 rfl ?_
                  refine ks_if_eq hκ 77 93 dX7_carryOut_77 rfl (fun c77 => ?_) (fun c77 => ?_)
                  · skip
                    refine ks_iconst hκ 93 (nI 0) dX7_carryOut_93 kq_i0 ?_
                    refine ks_istore_n hκ 94 2 [(2, _), (1, _), (4, _), (3, _), (0, _)] dX7_carryOut_94 rfl (by decide) rfl ?_
                    refine ks_goto hκ 95 25 dX7_carryOut_95 rfl ?_
                    refine ks_pick [4, 1, 0] [(0, _), (1, _), (2, _)] rfl ?_
                    exact ks_cv (ih vg _ vd 0 σ1 _ [] _ _ _ _ xh5 hM hS hZ hT hF hmd1 hiv1 hout (by decide) hro.1 (fun q => absurd q (by decide)) (fun _ => h1b) (by omega)) rfl rfl rfl
                  · skip
                    exact absurd (by decide) c77
                · skip
                  exact absurd (by decide) c66
              · skip
                exact absurd (by decide) c50
            · skip
              have hnn := kDoM_nn c40 hiv1 hmd1.2.2.2.2.2.2.2.2.2.2.2.1
              rw [if_neg hnn] at h1b
              refine ks_iconst hκ 43 (nI 1) dX7_carryOut_43 kq_i1 ?_
              refine ks_goto hκ 44 48 dX7_carryOut_44 rfl ?_
              refine ks_istore_n hκ 48 3 [(3, _), (0, _), (1, _), (2, _)] dX7_carryOut_48 rfl (by decide) rfl ?_
              refine ks_iload_n hκ 49 0 dX7_carryOut_49 rfl ?_
              refine ks_if_eq hκ 50 60 dX7_carryOut_50 rfl (fun c50 => ?_) (fun c50 => ?_)
              · skip
                exact absurd c50 (by decide)
              · skip
                refine ks_aload_n hκ 53 1 dX7_carryOut_53 rfl ?_
                refine ks_intcV0 hκ 54 dX7_carryOut_54 kc_X7_258 (c_Model_doesS hM hS hmd1 hiv1.1.1 hiv1.2.1 c40) hM rfl (by decide) (Nat.le_of_ble_eq_true rfl) (by decide) (by decide) (fun r54 xh6 hp54 => ?_)
                obtain ⟨hr9, f3, hS, hF8, hmd3, hout3⟩ := hp54
                have hiv3 : kIv (kDoM σ1 kd4 on4 tw4 bx4).2 := by rw [hone]; exact kIv_one hiv1
                replace hM := hF8.at hM (by omega)
                replace hZ := hF8.at hZ (by omega)
                replace hT := hF8.at hT (by omega)
                replace hF := hF.tr (hF8.wd (by omega) (by omega))
                refine ks_goto hκ 57 62 dX7_carryOut_57 rfl ?_
                refine ks_istore hκ 62 4 [(4, _), (3, _), (0, _), (1, _), (2, _)] dX7_carryOut_62 (by decide) rfl ?_
                refine ks_iload_n hκ 64 3 dX7_carryOut_64 rfl ?_
                refine ks_iload_n hκ 65 1 dX7_carryOut_65 rfl ?_
                refine ks_if_eq hκ 66 73 dX7_carryOut_66 rfl (fun c66 => ?_) (fun c66 => ?_)
                · skip
                  exact absurd c66 (by decide)
                · skip
                  refine ks_iconst hκ 69 (nI 1) dX7_carryOut_69 kq_i1 ?_
                  refine ks_goto hκ 70 74 dX7_carryOut_70 rfl ?_
                  refine ks_iaddN hκ 74 dX7_carryOut_74 ?_
                  refine ks_istore_n hκ 75 1 [(1, _), (4, _), (3, _), (0, _), (2, _)] dX7_carryOut_75 rfl (by decide) rfl ?_
                  refine ks_iload_n hκ 76 2 dX7_carryOut_76 rfl ?_
                  refine ks_if_eq hκ 77 93 dX7_carryOut_77 rfl (fun c77 => ?_) (fun c77 => ?_)
                  · skip
                    exact absurd c77 (by decide)
                  · skip
                    refine ks_aload_n hκ 80 3 dX7_carryOut_80 rfl ?_
                    refine ks_bipush hκ 81 (nI 59) dX7_carryOut_81 kq_b59 ?_
                    refine ks_intcV1 hκ 83 dX7_carryOut_83 kc_X7_220 (c_Model_takes hM hT hTO hll hch (by omega) (show ¬ nI 59 = nI 0 by decide)) hM rfl (by decide) (Nat.le_of_ble_eq_true rfl) (by decide) (by decide) (fun r83 xh7 hp83 => ?_)
                    obtain ⟨rfl, hM, hF9⟩ := hp83
                    replace hS := hF9.at hS (by omega)
                    replace hZ := hF9.at hZ (by omega)
                    replace hT := hF9.at hT (by omega)
                    replace hF := hF.tr (hF9.wd (by omega) (by omega))
                    refine ks_if_eq hκ 86 93 dX7_carryOut_86 rfl (fun c86 => ?_) (fun c86 => ?_)
                    · skip
                      have hg : ¬ l.getD (kRO l vi).2.2 (nI 0) = nI 59 := fun q => by rw [show kSg l (kRO l vi).2.2 (nI 59) = (true, (kRO l vi).2.2 + 1) from if_pos q] at c86; exact absurd c86 (show ¬ kB1 true = 0 by decide)
                      rw [show kSg l (kRO l vi).2.2 (nI 59) = (false, (kRO l vi).2.2) from if_neg hg] at hM
                      refine ks_iconst hκ 93 (nI 0) dX7_carryOut_93 kq_i0 ?_
                      refine ks_istore_n hκ 94 2 [(2, _), (1, _), (4, _), (3, _), (0, _)] dX7_carryOut_94 rfl (by decide) rfl ?_
                      refine ks_goto hκ 95 25 dX7_carryOut_95 rfl ?_
                      refine ks_pick [4, 1, 0] [(0, _), (1, _), (2, _)] rfl ?_
                      exact ks_cv (ih vg _ (vd + 1) 0 _ _ [] _ _ _ _ xh7 hM hS hZ hT hF hmd3 hiv3 (fun j hj => (hout3 j (by omega)).trans (hout j hj)) (by decide) hro.1 (fun q => absurd q (by decide)) (fun _ => by rw [(hnx.resolve_left (fun q => hg q.1)).2] at h1b; exact h1b) (by omega)) rfl rfl rfl
                    · skip
                      have hg : l.getD (kRO l vi).2.2 (nI 0) = nI 59 := by
                        by_cases q : l.getD (kRO l vi).2.2 (nI 0) = nI 59
                        · exact q
                        · rw [show kSg l (kRO l vi).2.2 (nI 59) = (false, (kRO l vi).2.2) from if_neg q] at c86; exact absurd rfl c86
                      rw [show kSg l (kRO l vi).2.2 (nI 59) = (true, (kRO l vi).2.2 + 1) from if_pos hg] at hM
                      have hglt := kgd_lt hg (by decide)
                      refine ks_iconst hκ 89 (nI 1) dX7_carryOut_89 kq_i1 ?_
                      refine ks_goto hκ 90 94 dX7_carryOut_90 rfl ?_
                      refine ks_istore_n hκ 94 2 [(2, _), (1, _), (4, _), (3, _), (0, _)] dX7_carryOut_94 rfl (by decide) rfl ?_
                      refine ks_goto hκ 95 25 dX7_carryOut_95 rfl ?_
                      refine ks_pick [4, 1, 0] [(0, _), (1, _), (2, _)] rfl ?_
                      exact ks_cv (ih vg _ (vd + 1) 1 _ _ zs2 _ _ _ _ xh7 hM hS hZ hT hF hmd3 hiv3 (fun j hj => (hout3 j (by omega)).trans (hout j hj)) (by decide) hglt (fun _ => ⟨(hnx.resolve_right (fun q => q.1 hg)).2, h1b⟩) (fun q => absurd q (by decide)) (by omega)) rfl rfl rfl
    refine ks_pick [2, 1, 0] [(0, _), (1, _), (2, _)] rfl ?_
    exact ks_cv (L25 _ 27 0 0 1 σ _ _ _ _ _ _ xh3 hM hS hZ hT hF hmd2 hiv (fun _ _ => rfl) (Nat.le_refl _) (Nat.zero_le _) (fun _ => ⟨Prod.ext c6 rfl, rfl⟩) (fun q => absurd q (by decide)) (Nat.lt_succ_self _)) rfl rfl rfl
  · skip
    refine ks_bipush hκ 9 (-3) dX7_carryOut_9 kq_bm3 ?_
    refine ks_iret hκ 11 hRt dX7_carryOut_11 (by decide) (by decide) rfl ?_
    have hq : kCarQ σ H l = (-3, σ, H, l) := if_neg c6
    rw [hq]
    exact ⟨_, rfl, rfl, ⟨f, Z, T, nI vq, kd1, on1, tw1, bx1, hM, hS, hZ, hT, hmd, hH, hHl, hSl, hTO, hll, hch⟩, hF⟩

theorem c_Model_faultM {g : ks_G} {h : ks_H} {m : Nat} {σ : kS} {H : List kS} {S : Nat → Option kS} {l : List Int32} (hmm : kMM g h m σ H S l) : ks_Met g (yX7_fault, cX7_fault, 2, some .int) 6 0 0 [ks_ref g m] h (ks_Ph (fun r h' => r = (kRead 27 l 0 []).1 ∧ kMM g h' m σ H S l ∧ ks_Fr h h' m (m + 4))) := by
  obtain ⟨f, Z, T, sp, kd, on, tw, bx, hM, hS, hZ, hT, hmd, hH, hHl, hSl, hTO, hll, hch⟩ := hmm
  refine ks_Met.weak (c_Model_fault hM hT hTO hll hch) (fun v h' hv => ?_)
  obtain ⟨r, hr, e, ⟨vq, kd1, on1, tw1, bx1, hM2⟩, hF⟩ := hv
  exact ⟨r, hr, e, ⟨f, Z, T, nI vq, kd1, on1, tw1, bx1, hM2, hF.at hS (by omega), hF.at hZ (by omega), hF.at hT (by omega), hmd, hH, hHl, hSl, hTO, hll, hch⟩, hF.wd (Nat.le_refl _) (by omega)⟩
