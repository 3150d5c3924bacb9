
/-! P29: turns that are tried -/
theorem q9Wait {σ : kS} {n0 vq d : Nat} (hJ : q9J σ) (hn : σ.2.1 = nI n0) (hn0 : n0 ≤ 9000) (hd : 1 ≤ d) (hd2 : d ≤ 99) (hvq : q9Qv σ n0 vq) :
    ∃ (m : Nat) (τ : kS), kPass d σ 0 = (m, τ) ∧ kPassT σ (nI d) = (nI m, τ) ∧ m ≤ 2000 ∧ q9J τ ∧ τ.2.1 = nI (n0 + d) ∧ τ.2.2.1 = σ.2.2.1 ∧ τ.2.2.2.1 = σ.2.2.2.1 + nI m ∧ τ.2.2.2.1 - σ.2.2.2.1 + τ.2.2.2.2.1 - σ.2.2.2.2.1 = nI σ.2.2.2.2.2.2.2.length - nI τ.2.2.2.2.2.2.2.length ∧ q9Qv τ (n0 + d) (max vq (n0 + d)) ∧ (vq - n0 ≤ d → τ.2.2.2.2.2.2.2.length = 0 ∧ kNapSet τ = nI 0) := by
  have hI := hJ.I hn
  have hv1 := hvq.1
  have hv2 := hvq.2.1
  have hpT : kPassT σ (nI d) = (nI (kPass d σ 0).1, (kPass d σ 0).2) := by
    unfold kPassT
    rw [if_neg (fun q => by have := (nI_ltI (by omega) (by decide)).mp q; omega), if_neg (fun q => by have := (nI_ltI (by decide) (by omega)).mp q; omega), hn, nI_add, if_neg (fun q => by have := (nI_ltI (by decide) (by omega)).mp q; omega), nI_clamp (by omega)]
  have hJ2 := q9J_pass (x := nI d) hJ
  rw [hpT] at hJ2
  have hI2 := q9Pass d σ 0 n0 hI (by omega)
  have hQ := q9Qv_pass d σ 0 n0 vq hI (by omega) hvq
  have hle := kPass_le d σ 0
  obtain ⟨n1, n2⟩ := q9PassN d σ 0
  rw [show nI 0 = (0 : Int32) from rfl, Int32.add_zero] at n1
  have hki := kPass_ki d σ 0 hJ.1.1.1
  refine ⟨(kPass d σ 0).1, (kPass d σ 0).2, rfl, hpT, by omega, hJ2, hI2.2.2.2.2.1, hki, n1, by grind, hQ, fun z => ?_⟩
  rw [show max vq (n0 + d) = n0 + d by omega] at hQ
  obtain ⟨z1, z2⟩ := q9Quiet hI2 (by omega) hQ
  exact ⟨by rw [z1]; rfl, z2⟩
theorem q9Cmp {x : Int64} : lg_cmp x x = 0 := by
  unfold lg_cmp
  rw [if_neg (by simp), if_pos rfl]
set_option maxRecDepth 100000 in
set_option maxHeartbeats 4000000 in
theorem l_waits {g : ks_G} {h : ks_H} {σ : kS} {H : List kS} {k d n0 : Nat} (hks : q9K g h σ H) (hJ : q9J σ) (hk : k < σ.2.2.1) (hd : 1 ≤ d) (hd2 : d ≤ 99) (hn0e : σ.2.1 = nI n0) (hn0 : n0 ≤ 9000) : ks_Met g (yL_waits, cL_waits, 12, some .boolean) 7 32 1190 [ks_ref g 0, .int (nI k), .int (nI d)] h (ks_Ph (fun r h1 => r = nI 1 ∧ ∃ H1, q9K g h1 σ H1)) := by
  refine ks_intro (by decide) (Nat.le_of_ble_eq_true rfl) (fun κ hκ hRt => ?_)
  refine ks_cv (ls := [(0, ks_ref g 0), (1, .int (nI k)), (2, .int (nI d))]) ?_ rfl rfl rfl
  have hX0 := hks.ob
  have hki : σ.2.2.1 ≤ 6 := hJ.1.2.2.2.2.2
  obtain ⟨vq, hvq⟩ := q9Qv_ex hJ hn0e (by omega)
  have hvq1 := hvq.1
  have hvq2 := hvq.2.1
  obtain ⟨m, τ, tps, tpt, tm, hJ2, tn, tki, tma, tcnt, tqv, tqz⟩ := q9Wait hJ hn0e hn0 hd hd2 hvq
  have tpl : τ.2.2.2.2.2.2.2.length ≤ 16 := hJ2.2.2.2.1.1
  have hpl : σ.2.2.2.2.2.2.2.length ≤ 16 := hJ.2.2.2.1.1
  refine ks_aload_n hκ 0 0 dL_waits_0 rfl ?_
  refine ks_iload_n hκ 1 1 dL_waits_1 rfl ?_
  refine ks_iload_n hκ 2 2 dL_waits_2 rfl ?_
  refine ks_intcV2 hκ 3 dL_waits_3 kc_L_64 (w_stepIn hks hJ hk hd hd2) hX0 rfl (by decide) (Nat.le_of_ble_eq_true rfl) (Nat.le_of_ble_eq_true rfl) (Nat.le_of_ble_eq_true rfl) (fun r3 xh1 hp3 => ?_)
  obtain ⟨rfl, hks⟩ := hp3
  have hX0 := hks.ob
  rw [tps]
  refine ks_istore_n hκ 6 3 [(3, _), (0, _), (1, _), (2, _)] dL_waits_6 rfl (by decide) rfl ?_
  refine ks_aload_n hκ 7 1 dL_waits_7 rfl ?_
  refine ks_pureV0 hκ 8 dL_waits_8 kc_L_44 (w_quiet hks (nI (vq - n0)) (q9Qv_qu (hJ.I hn0e) (by omega) hvq)) hX0 rfl (by decide) (Nat.le_of_ble_eq_true rfl) (by decide) (by decide) ?_
  refine ks_istore hκ 11 4 [(4, _), (3, _), (0, _), (1, _), (2, _)] dL_waits_11 (by decide) rfl ?_
  refine ks_aload_n hκ 13 2 dL_waits_13 rfl ?_
  refine ks_bipush hκ 14 (nI 8) dL_waits_14 kq_b8 ?_
  refine ks_pureV1 hκ 16 dL_waits_16 kc_L_10 (w_count hks (by decide) σ.2.2.2.1 rfl) hX0 rfl (by decide) (Nat.le_of_ble_eq_true rfl) (by decide) (by decide) ?_
  refine ks_istore hκ 19 5 [(5, _), (4, _), (3, _), (0, _), (1, _), (2, _)] dL_waits_19 (by decide) rfl ?_
  refine ks_aload_n hκ 21 3 dL_waits_21 rfl ?_
  refine ks_bipush hκ 22 (nI 9) dL_waits_22 kq_b9 ?_
  refine ks_pureV1 hκ 24 dL_waits_24 kc_L_10 (w_count hks (by decide) σ.2.2.2.2.1 rfl) hX0 rfl (by decide) (Nat.le_of_ble_eq_true rfl) (by decide) (by decide) ?_
  refine ks_istore hκ 27 6 [(6, _), (5, _), (4, _), (3, _), (0, _), (1, _), (2, _)] dL_waits_27 (by decide) rfl ?_
  refine ks_aload_n hκ 29 4 dL_waits_29 rfl ?_
  refine ks_bipush hκ 30 (nI 10) dL_waits_30 kq_b10 ?_
  refine ks_pureV1 hκ 32 dL_waits_32 kc_L_10 (w_count hks (by decide) (nI σ.2.2.2.2.2.2.2.length) rfl) hX0 rfl (by decide) (Nat.le_of_ble_eq_true rfl) (by decide) (by decide) ?_
  refine ks_istore hκ 35 7 [(7, _), (6, _), (5, _), (4, _), (3, _), (0, _), (1, _), (2, _)] dL_waits_35 (by decide) rfl ?_
  refine ks_aload_n hκ 37 5 dL_waits_37 rfl ?_
  refine ks_pureL1 hκ 38 dL_waits_38 kc_L_67 (l_print hks hJ) (by decide) (Nat.le_of_ble_eq_true rfl) (Nat.le_of_ble_eq_true rfl) (Nat.le_of_ble_eq_true rfl) ?_
  refine ks_lstore hκ 41 8 [(8, _), (7, _), (6, _), (5, _), (4, _), (3, _), (0, _), (1, _), (2, _)] dL_waits_41 (by decide) rfl ?_
  refine ks_aload_n hκ 43 6 dL_waits_43 rfl ?_
  refine ks_iload_n hκ 44 8 dL_waits_44 rfl ?_
  refine ks_intcV1 hκ 45 dL_waits_45 kc_L_71 (w_pass hks hJ) hX0 rfl (by decide) (Nat.le_of_ble_eq_true rfl) (Nat.le_of_ble_eq_true rfl) (Nat.le_of_ble_eq_true rfl) (fun r45 xh2 hp45 => ?_)
  obtain ⟨rfl, hks⟩ := hp45
  have hX0 := hks.ob
  rw [tpt] at hks ⊢
  dsimp only at hks ⊢
  rw [q9Keep_ok (nI_pos (by omega)), List.take_succ_cons] at hks
  have hlt5 : (H.take 5).length ≤ 5 := by rw [List.length_take]; omega
  refine ks_istore hκ 48 10 [(10, _), (8, _), (7, _), (6, _), (5, _), (4, _), (3, _), (0, _), (1, _), (2, _)] dL_waits_48 (by decide) rfl ?_
  refine ks_iload hκ 50 0 dL_waits_50 rfl ?_
  refine ks_if_lt hκ 52 158 dL_waits_52 rfl (fun c52 => ?_) (fun c52 => ?_)
  · skip
    exact absurd c52 (ks_lt0 (by omega))
  · skip
    refine ks_aload_n hκ 55 7 dL_waits_55 rfl ?_
    refine ks_iload_n hκ 56 8 dL_waits_56 rfl ?_
    refine ks_iconst hκ 57 (nI 0) dL_waits_57 kq_i0 ?_
    refine ks_pureV2 hκ 58 dL_waits_58 kc_L_16 (w_of hks hJ2 (k := k) (by omega) (by decide) (τ.2.2.2.2.2.1 0 k) rfl) hX0 rfl (by decide) (Nat.le_of_ble_eq_true rfl) (by decide) (by decide) ?_
    refine ks_iload_n hκ 61 6 dL_waits_61 rfl ?_
    refine ks_icmp_ne hκ 62 158 dL_waits_62 rfl (fun c62 => ?_) (fun c62 => ?_)
    · exfalso
      exact c62 rfl
    · skip
      refine ks_aload_n hκ 65 7 dL_waits_65 rfl ?_
      refine ks_bipush hκ 66 (nI 8) dL_waits_66 kq_b8 ?_
      refine ks_pureV1 hκ 68 dL_waits_68 kc_L_10 (w_count hks (by decide) τ.2.2.2.1 rfl) hX0 rfl (by decide) (Nat.le_of_ble_eq_true rfl) (by decide) (by decide) ?_
      refine ks_iload hκ 71 4 dL_waits_71 rfl ?_
      refine ks_iload hκ 73 0 dL_waits_73 rfl ?_
      refine ks_iadd hκ 75 dL_waits_75 ?_
      refine ks_icmp_ne hκ 76 158 dL_waits_76 rfl (fun c76 => ?_) (fun c76 => ?_)
      · exfalso
        exact c76 tma
      · skip
        refine ks_aload_n hκ 79 7 dL_waits_79 rfl ?_
        refine ks_bipush hκ 80 (nI 8) dL_waits_80 kq_b8 ?_
        refine ks_pureV1 hκ 82 dL_waits_82 kc_L_10 (w_count hks (by decide) τ.2.2.2.1 rfl) hX0 rfl (by decide) (Nat.le_of_ble_eq_true rfl) (by decide) (by decide) ?_
        refine ks_iload hκ 85 4 dL_waits_85 rfl ?_
        refine ks_isub hκ 87 dL_waits_87 ?_
        refine ks_aload_n hκ 88 7 dL_waits_88 rfl ?_
        refine ks_bipush hκ 89 (nI 9) dL_waits_89 kq_b9 ?_
        refine ks_pureV1 hκ 91 dL_waits_91 kc_L_10 (w_count hks (by decide) τ.2.2.2.2.1 rfl) hX0 rfl (by decide) (Nat.le_of_ble_eq_true rfl) (by decide) (by decide) ?_
        refine ks_iadd hκ 94 dL_waits_94 ?_
        refine ks_iload hκ 95 3 dL_waits_95 rfl ?_
        refine ks_isub hκ 97 dL_waits_97 ?_
        refine ks_iload hκ 98 2 dL_waits_98 rfl ?_
        refine ks_aload_n hκ 100 7 dL_waits_100 rfl ?_
        refine ks_bipush hκ 101 (nI 10) dL_waits_101 kq_b10 ?_
        refine ks_pureV1 hκ 103 dL_waits_103 kc_L_10 (w_count hks (by decide) (nI τ.2.2.2.2.2.2.2.length) rfl) hX0 rfl (by decide) (Nat.le_of_ble_eq_true rfl) (by decide) (by decide) ?_
        refine ks_isub hκ 106 dL_waits_106 ?_
        refine ks_icmp_ne hκ 107 158 dL_waits_107 rfl (fun c107 => ?_) (fun c107 => ?_)
        · exfalso
          exact c107 tcnt
        · skip
          refine ks_aload_n hκ 110 7 dL_waits_110 rfl ?_
          refine ks_pureV0 hκ 111 dL_waits_111 kc_L_44 (w_quiet hks (nI (max vq (n0 + d) - (n0 + d))) (q9Qv_qu (hJ2.I tn) (by omega) tqv)) hX0 rfl (by decide) (Nat.le_of_ble_eq_true rfl) (by decide) (by decide) ?_
          refine ks_iload hκ 114 5 dL_waits_114 rfl ?_
          refine ks_iload_n hκ 116 9 dL_waits_116 rfl ?_
          refine ks_cut 128 (nI (max vq (n0 + d) - (n0 + d))) 2 [_] rfl ?_ (fun J117 => ?_)
          · skip
            refine ks_icmp_ne hκ 128 158 dL_waits_128 rfl (fun c128 => ?_) (fun c128 => ?_)
            · exfalso
              have c128 := mt (nI_eq (by omega) (by omega)).mpr c128
              exact c128 rfl
            · skip
              have c128 := (nI_eq (by omega) (by omega)).mp c128
              refine ks_iload hκ 131 5 dL_waits_131 rfl ?_
              refine ks_iload_n hκ 133 9 dL_waits_133 rfl ?_
              refine ks_cut0 154 2 [] rfl ?_ (fun J134 => ?_)
              · skip
                refine ks_iconst hκ 154 (nI 1) dL_waits_154 kq_i1 ?_
                refine ks_goto hκ 155 159 dL_waits_155 rfl ?_
                refine ks_istore hκ 159 11 [(11, _), (10, _), (8, _), (7, _), (6, _), (5, _), (4, _), (3, _), (0, _), (1, _), (2, _)] dL_waits_159 (by decide) rfl ?_
                refine ks_iload hκ 161 0 dL_waits_161 rfl ?_
                refine ks_if_eq hκ 163 194 dL_waits_163 rfl (fun c163 => ?_) (fun c163 => ?_)
                · skip
                  exact absurd c163 (by decide)
                · skip
                  refine ks_aload_n hκ 166 8 dL_waits_166 rfl ?_
                  refine ks_pureS1 hκ 167 dL_waits_167 kc_L_74 (l_kittens hks hJ2) (by decide) (Nat.le_of_ble_eq_true rfl) (Nat.le_of_ble_eq_true rfl) (Nat.le_of_ble_eq_true rfl) ?_
                  refine ks_if_eq hκ 170 194 dL_waits_170 rfl (fun c170 => ?_) (fun c170 => ?_)
                  · skip
                    exact absurd c170 (by decide)
                  · skip
                    refine ks_aload_n hκ 173 8 dL_waits_173 rfl ?_
                    refine ks_intcV0 hκ 174 dL_waits_174 kc_L_61 (w_undo hks) hX0 rfl (by decide) (Nat.le_of_ble_eq_true rfl) (Nat.le_of_ble_eq_true rfl) (Nat.le_of_ble_eq_true rfl) (fun r174 xh3 hp174 => ?_)
                    obtain ⟨rfl, hks⟩ := hp174
                    have hX0 := hks.ob
                    refine ks_if_lt hκ 177 194 dL_waits_177 rfl (fun c177 => ?_) (fun c177 => ?_)
                    · skip
                      exact absurd c177 (ks_lt0 (by omega))
                    · skip
                      refine ks_aload_n hκ 180 8 dL_waits_180 rfl ?_
                      refine ks_pureL1 hκ 181 dL_waits_181 kc_L_67 (l_print hks hJ) (by decide) (Nat.le_of_ble_eq_true rfl) (Nat.le_of_ble_eq_true rfl) (Nat.le_of_ble_eq_true rfl) ?_
                      refine ks_lload hκ 184 2 dL_waits_184 rfl ?_
                      refine ks_lcmp hκ 186 dL_waits_186 ?_
                      refine ks_if_ne hκ 187 194 dL_waits_187 rfl (fun c187 => ?_) (fun c187 => ?_)
                      · exfalso
                        exact c187 q9Cmp
                      · skip
                        refine ks_iconst hκ 190 (nI 1) dL_waits_190 kq_i1 ?_
                        refine ks_goto hκ 191 195 dL_waits_191 rfl ?_
                        refine ks_iret hκ 195 hRt dL_waits_195 (by decide) (by decide) (by decide) ?_
                        exact ⟨_, rfl, rfl, _, hks⟩
              · skip
                refine ks_icmp_gt hκ 134 154 dL_waits_134 rfl (fun c134 => ?_) (fun c134 => ?_)
                · skip
                  have c134 := (nI_ltI (by omega) (by omega)).mp c134
                  exact J134
                · skip
                  have c134 := mt (nI_ltI (by omega) (by omega)).mpr c134
                  refine ks_aload_n hκ 137 7 dL_waits_137 rfl ?_
                  refine ks_bipush hκ 138 (nI 10) dL_waits_138 kq_b10 ?_
                  refine ks_pureV1 hκ 140 dL_waits_140 kc_L_10 (w_count hks (by decide) (nI τ.2.2.2.2.2.2.2.length) rfl) hX0 rfl (by decide) (Nat.le_of_ble_eq_true rfl) (by decide) (by decide) ?_
                  refine ks_if_ne hκ 143 158 dL_waits_143 rfl (fun c143 => ?_) (fun c143 => ?_)
                  · exfalso
                    have c143 := mt (ks_eq0 (by omega)).mpr c143
                    exact c143 (tqz (by omega)).1
                  · skip
                    have c143 := (ks_eq0 (by omega)).mp c143
                    refine ks_aload_n hκ 146 7 dL_waits_146 rfl ?_
                    refine ks_iconst hκ 147 (nI 2) dL_waits_147 kq_i2 ?_
                    refine ks_pureV1 hκ 148 dL_waits_148 kc_L_10 (w_count hks (by decide) (kNapSet τ) rfl) hX0 rfl (by decide) (Nat.le_of_ble_eq_true rfl) (by decide) (by decide) ?_
                    refine ks_if_ne hκ 151 158 dL_waits_151 rfl (fun c151 => ?_) (fun c151 => ?_)
                    · exfalso
                      exact c151 (tqz (by omega)).2
                    · skip
                      exact J134
          · skip
            refine ks_icmp_le hκ 117 127 dL_waits_117 rfl (fun c117 => ?_) (fun c117 => ?_)
            · skip
              have c117 := (nI_leI (by omega) (by omega)).mp c117
              refine ks_iconst hκ 127 (nI 0) dL_waits_127 kq_i0 ?_
              exact ks_top _ (by rw [show max vq (n0 + d) - (n0 + d) = 0 by omega]) J117
            · skip
              have c117 := mt (nI_leI (by omega) (by omega)).mpr c117
              refine ks_iload hκ 120 5 dL_waits_120 rfl ?_
              refine ks_iload_n hκ 122 9 dL_waits_122 rfl ?_
              refine ks_isubN hκ 123 dL_waits_123 (by omega) ?_
              refine ks_goto hκ 124 128 dL_waits_124 rfl ?_
              exact ks_top _ (by rw [show max vq (n0 + d) - (n0 + d) = vq - n0 - d by omega]) J117
