
/-! P29: plans -/
theorem q9Wz {x : Int32} {n vl : Nat} (hx : x = -6 ∨ ∃ w : Nat, w ≤ 20000 ∧ x = nI w) (hl : vl ≤ 20000) : ∃ vz : Nat, vz ≤ 20000 ∧ x.toInt ≤ ((max vl vz : Nat) : Int) ∧ (x ≤ nI vl → max vl vz = vl) ∧ (¬ x ≤ nI vl → x = nI (max vl vz)) ∧ (max vl vz = vl ∨ x = nI (max vl vz)) := by
  have h6 : (-6 : Int32).toInt = -6 := by decide
  rcases hx with e | ⟨w, hw, e⟩
  · subst e
    refine ⟨0, by decide, by rw [h6]; omega, fun _ => by omega, fun q => ?_, Or.inl (by omega)⟩
    rw [Int32.le_iff_toInt_le, h6, nI_toInt (by omega)] at q
    omega
  · subst e
    refine ⟨w, hw, by rw [nI_toInt (by omega)]; omega, fun q => ?_, fun q => ?_, ?_⟩
    · rw [nI_leI (by omega) (by omega)] at q; omega
    · rw [nI_leI (by omega) (by omega)] at q; rw [show max vl w = w by omega]
    · by_cases q : w ≤ vl
      · exact Or.inl (by omega)
      · exact Or.inr (by rw [show max vl w = w by omega])
set_option maxRecDepth 100000 in
set_option maxHeartbeats 4000000 in
theorem l_plans {g : ks_G} {h : ks_H} {σ : kS} {H : List kS} (hks : q9K g h σ H) (hJ : q9J σ) : ks_Met g (yL_plans, cL_plans, 5, some .boolean) 6 0 0 [ks_ref g 0] h (ks_Pi (nI 1) h) := by
  refine ks_intro (by decide) (Nat.le_of_ble_eq_true rfl) (fun κ hκ hRt => ?_)
  refine ks_cv (ls := [(0, ks_ref g 0)]) ?_ rfl rfl rfl
  have hX0 := hks.ob
  have hki : σ.2.2.1 ≤ 6 := hJ.1.2.2.2.2.2
  obtain ⟨n0, hn0, hn0e⟩ := hJ.1.1.2
  obtain ⟨hyl, hye⟩ := hks.yarn
  have hpl : σ.2.2.2.2.2.2.2.length ≤ 16 := hJ.2.2.2.1.1
  have hI := hJ.I hn0e
  have hps := hJ.1.2.2.2.2.1.2
  have hpt := hJ.2.2.2.1.2.2
  have hpo := hJ.2.2.2.1.2.1
  have hwk := hJ.1.2.2.2.1
  have hwt := hJ.2.2.2.2
  refine ks_aload_n hκ 0 0 dL_plans_0 rfl ?_
  refine ks_bipush hκ 1 (nI 10) dL_plans_1 kq_b10 ?_
  refine ks_pureV1 hκ 3 dL_plans_3 kc_L_10 (w_count hks (by decide) (nI σ.2.2.2.2.2.2.2.length) rfl) hX0 rfl (by decide) (Nat.le_of_ble_eq_true rfl) (by decide) (by decide) ?_
  refine ks_istore_n hκ 6 1 [(1, _), (0, _)] dL_plans_6 rfl (by decide) rfl ?_
  refine ks_aload_n hκ 7 1 dL_plans_7 rfl ?_
  refine ks_iconst hκ 8 (nI 0) dL_plans_8 kq_i0 ?_
  refine ks_pureV1 hκ 9 dL_plans_9 kc_L_10 (w_count hks (by decide) (nI n0) hn0e) hX0 rfl (by decide) (Nat.le_of_ble_eq_true rfl) (by decide) (by decide) ?_
  refine ks_istore_n hκ 12 2 [(2, _), (1, _), (0, _)] dL_plans_12 rfl (by decide) rfl ?_
  refine ks_iconst hκ 13 (nI 0) dL_plans_13 kq_i0 ?_
  refine ks_istore_n hκ 14 3 [(3, _), (2, _), (1, _), (0, _)] dL_plans_14 rfl (by decide) rfl ?_
  have L15 : ∀ (fuel : Nat) (vk vl : Nat) (hk : vk ≤ σ.2.2.2.2.2.2.2.length) (hl : n0 ≤ vl) (hl2 : vl ≤ 20000) (hb : ∀ (i : Nat) (p : kP), i < vk → σ.2.2.2.2.2.2.2[i]? = some p → p.1.toInt ≤ vl) (ha : vl = n0 ∨ ∃ p ∈ σ.2.2.2.2.2.2.2, p.1 = nI vl) (hfuel : σ.2.2.2.2.2.2.2.length - vk < fuel), ks_K κ g 5 h 0 0 15 [(0, ks_ref g 0), (1, .int (nI σ.2.2.2.2.2.2.2.length)), (2, .int (nI vl)), (3, .int (nI vk))] [] := by
    intro fuel
    induction fuel with
    | zero => intro vk vl  hk hl hl2 hb ha hfuel; exact absurd hfuel (Nat.not_lt_zero _)
    | succ fuel ih =>
      intro vk vl  hk hl hl2 hb ha hfuel
      refine ks_iload_n hκ 15 3 dL_plans_15 rfl ?_
      refine ks_iload_n hκ 16 1 dL_plans_16 rfl ?_
      refine ks_icmp_ge hκ 17 106 dL_plans_17 rfl (fun c17 => ?_) (fun c17 => ?_)
      · skip
        have c17 := (nI_leI (by omega) (by omega)).mp c17
        have hP : ∀ p ∈ σ.2.2.2.2.2.2.2, p.1.toInt ≤ vl := fun p hp => by
          obtain ⟨i, hi⟩ := List.mem_iff_getElem?.mp hp
          have hil := (List.getElem?_eq_some_iff.mp hi).1
          exact hb i p (by omega) hi
        clear hb
        refine ks_iconst hκ 106 (nI 0) dL_plans_106 kq_i0 ?_
        refine ks_istore_n hκ 107 3 [(3, _), (0, _), (1, _), (2, _)] dL_plans_107 rfl (by decide) rfl ?_
        have L108 : ∀ (fuel : Nat) (vk vl : Nat) (hk : vk ≤ σ.2.2.1) (hl : n0 ≤ vl) (hl2 : vl ≤ 20000) (hP : ∀ p ∈ σ.2.2.2.2.2.2.2, p.1.toInt ≤ vl) (hW : ∀ j, j < vk → (σ.2.2.2.2.2.1 2 j).toInt ≤ vl) (ha : vl = n0 ∨ (∃ j, j < σ.2.2.1 ∧ σ.2.2.2.2.2.1 2 j = nI vl) ∨ ∃ p ∈ σ.2.2.2.2.2.2.2, p.1 = nI vl) (hfuel : σ.2.2.1 - vk < fuel), ks_K κ g 5 h 0 0 108 [(0, ks_ref g 0), (1, .int (nI σ.2.2.2.2.2.2.2.length)), (2, .int (nI vl)), (3, .int (nI vk))] [] := by
          intro fuel
          induction fuel with
          | zero => intro vk vl  hk hl hl2 hP hW ha hfuel; exact absurd hfuel (Nat.not_lt_zero _)
          | succ fuel ih =>
            intro vk vl  hk hl hl2 hP hW ha hfuel
            refine ks_iload_n hκ 108 3 dL_plans_108 rfl ?_
            refine ks_aload_n hκ 109 0 dL_plans_109 rfl ?_
            refine ks_iconst hκ 110 (nI 1) dL_plans_110 kq_i1 ?_
            refine ks_pureV1 hκ 111 dL_plans_111 kc_L_10 (w_count hks (by decide) (nI σ.2.2.1) rfl) hX0 rfl (by decide) (Nat.le_of_ble_eq_true rfl) (by decide) (by decide) ?_
            refine ks_icmp_ge hκ 114 171 dL_plans_114 rfl (fun c114 => ?_) (fun c114 => ?_)
            · skip
              have c114 := (nI_leI (by omega) (by omega)).mp c114
              have hvk : vk = σ.2.2.1 := by omega
              subst hvk
              refine ks_aload_n hκ 171 0 dL_plans_171 rfl ?_
              refine ks_pureV0 hκ 172 dL_plans_172 kc_L_44 (w_quiet hks (nI (vl - n0)) (q9Qv_qu hI hn0 ⟨hl, hl2, hW, hP, ha⟩)) hX0 rfl (by decide) (Nat.le_of_ble_eq_true rfl) (by decide) (by decide) ?_
              refine ks_iload_n hκ 175 2 dL_plans_175 rfl ?_
              refine ks_aload_n hκ 176 0 dL_plans_176 rfl ?_
              refine ks_iconst hκ 177 (nI 0) dL_plans_177 kq_i0 ?_
              refine ks_pureV1 hκ 178 dL_plans_178 kc_L_10 (w_count hks (by decide) (nI n0) hn0e) hX0 rfl (by decide) (Nat.le_of_ble_eq_true rfl) (by decide) (by decide) ?_
              refine ks_isubN hκ 181 dL_plans_181 (by omega) ?_
              refine ks_icmp_ne hκ 182 199 dL_plans_182 rfl (fun c182 => ?_) (fun c182 => ?_)
              · exfalso
                have c182 := mt (nI_eq (by omega) (by omega)).mpr c182
                omega
              · skip
                have c182 := (nI_eq (by omega) (by omega)).mp c182
                refine ks_aload_n hκ 185 0 dL_plans_185 rfl ?_
                refine ks_iload_n hκ 186 1 dL_plans_186 rfl ?_
                refine ks_iconst hκ 187 (nI 0) dL_plans_187 kq_i0 ?_
                refine ks_pureV2 hκ 188 dL_plans_188 kc_L_41 (w_plannedE hks hpl) hX0 rfl (by decide) (Nat.le_of_ble_eq_true rfl) (by decide) (by decide) ?_
                refine ks_iconst hκ 191 (-1) dL_plans_191 kq_im1 ?_
                refine ks_icmp_ne hκ 192 199 dL_plans_192 rfl (fun c192 => ?_) (fun c192 => ?_)
                · exfalso
                  exact c192 rfl
                · skip
                  refine ks_iconst hκ 195 (nI 1) dL_plans_195 kq_i1 ?_
                  refine ks_goto hκ 196 200 dL_plans_196 rfl ?_
                  refine ks_iret hκ 200 hRt dL_plans_200 (by decide) (by decide) (by decide) ?_
                  exact ⟨rfl, rfl⟩
            · skip
              have c114 := mt (nI_leI (by omega) (by omega)).mpr c114
              obtain ⟨vz, hz1, hz2, hz3, hz4, hz5⟩ := q9Wz (n := n0) (hwk vk (by omega)) hl2
              have hgt : ¬ σ.2.2.2.2.2.1 2 vk = -6 → nI n0 < σ.2.2.2.2.2.1 2 vk := fun z => by
                rcases hwt vk (by omega) with q | q
                · exact absurd q z
                · rw [Int32.lt_iff_toInt_lt, ← hn0e]; exact q
              have hP2 : ∀ p ∈ σ.2.2.2.2.2.2.2, p.1.toInt ≤ ((max vl vz : Nat) : Int) := fun p hp => by have := hP p hp; omega
              have hW2 : ∀ j, j < vk + 1 → (σ.2.2.2.2.2.1 2 j).toInt ≤ ((max vl vz : Nat) : Int) := fun j hj => by
                by_cases q : j = vk
                · rw [q]; exact hz2
                · have := hW j (by omega); omega
              have ha2 : max vl vz = n0 ∨ (∃ j, j < σ.2.2.1 ∧ σ.2.2.2.2.2.1 2 j = nI (max vl vz)) ∨ ∃ p ∈ σ.2.2.2.2.2.2.2, p.1 = nI (max vl vz) := by
                rcases hz5 with q | q
                · rw [q]; exact ha
                · exact Or.inr (Or.inl ⟨vk, by omega, q⟩)
              refine ks_aload_n hκ 117 0 dL_plans_117 rfl ?_
              refine ks_iload_n hκ 118 3 dL_plans_118 rfl ?_
              refine ks_iconst hκ 119 (nI 2) dL_plans_119 kq_i2 ?_
              refine ks_pureV2 hκ 120 dL_plans_120 kc_L_16 (w_of hks hJ (k := vk) (w := 2) (by omega) (by decide) (σ.2.2.2.2.2.1 2 vk) rfl) hX0 rfl (by decide) (Nat.le_of_ble_eq_true rfl) (by decide) (by decide) ?_
              refine ks_iload_n hκ 123 2 dL_plans_123 rfl ?_
              refine ks_cut 137 (nI (max vl vz)) 2 [] rfl ?_ (fun J124 => ?_)
              · skip
                refine ks_istore_n hκ 137 2 [(2, _), (0, _), (1, _), (3, _)] dL_plans_137 rfl (by decide) rfl ?_
                refine ks_aload_n hκ 138 1 dL_plans_138 rfl ?_
                refine ks_iload_n hκ 139 3 dL_plans_139 rfl ?_
                refine ks_iconst hκ 140 (nI 2) dL_plans_140 kq_i2 ?_
                refine ks_pureV2 hκ 141 dL_plans_141 kc_L_16 (w_of hks hJ (k := vk) (w := 2) (by omega) (by decide) (σ.2.2.2.2.2.1 2 vk) rfl) hX0 rfl (by decide) (Nat.le_of_ble_eq_true rfl) (by decide) (by decide) ?_
                refine ks_bipush hκ 144 (-6) dL_plans_144 kq_bm6 ?_
                refine ks_icmp_eq hκ 146 165 dL_plans_146 rfl (fun c146 => ?_) (fun c146 => ?_)
                · skip
                  refine ks_iinc hκ 165 3 3 (nI (vk + 1)) [(3, _), (2, _), (0, _), (1, _)] dL_plans_165 rfl (ks_inc1 _) (by decide) rfl ?_
                  refine ks_goto hκ 168 108 dL_plans_168 rfl ?_
                  refine ks_pick [2, 3, 1, 0] [(0, _), (1, _), (2, _), (3, _)] rfl ?_
                  exact ks_cv (ih (vk + 1) (max vl vz)  (by omega) (by omega) (by omega) hP2 hW2 ha2 (by omega)) rfl rfl rfl
                · skip
                  refine ks_aload_n hκ 149 1 dL_plans_149 rfl ?_
                  refine ks_iload_n hκ 150 3 dL_plans_150 rfl ?_
                  refine ks_iconst hκ 151 (nI 2) dL_plans_151 kq_i2 ?_
                  refine ks_pureV2 hκ 152 dL_plans_152 kc_L_16 (w_of hks hJ (k := vk) (w := 2) (by omega) (by decide) (σ.2.2.2.2.2.1 2 vk) rfl) hX0 rfl (by decide) (Nat.le_of_ble_eq_true rfl) (by decide) (by decide) ?_
                  refine ks_aload_n hκ 155 1 dL_plans_155 rfl ?_
                  refine ks_iconst hκ 156 (nI 0) dL_plans_156 kq_i0 ?_
                  refine ks_pureV1 hκ 157 dL_plans_157 kc_L_10 (w_count hks (by decide) (nI n0) hn0e) hX0 rfl (by decide) (Nat.le_of_ble_eq_true rfl) (by decide) (by decide) ?_
                  refine ks_icmp_gt hκ 160 165 dL_plans_160 rfl (fun c160 => ?_) (fun c160 => ?_)
                  · skip
                    refine ks_iinc hκ 165 3 3 (nI (vk + 1)) [(3, _), (2, _), (0, _), (1, _)] dL_plans_165 rfl (ks_inc1 _) (by decide) rfl ?_
                    refine ks_goto hκ 168 108 dL_plans_168 rfl ?_
                    refine ks_pick [2, 3, 1, 0] [(0, _), (1, _), (2, _), (3, _)] rfl ?_
                    exact ks_cv (ih (vk + 1) (max vl vz)  (by omega) (by omega) (by omega) hP2 hW2 ha2 (by omega)) rfl rfl rfl
                  · exfalso
                    exact c160 (hgt c146)
              · skip
                refine ks_icmp_le hκ 124 136 dL_plans_124 rfl (fun c124 => ?_) (fun c124 => ?_)
                · skip
                  refine ks_iload_n hκ 136 2 dL_plans_136 rfl ?_
                  exact ks_top _ (by rw [hz3 c124]) J124
                · skip
                  refine ks_aload_n hκ 127 0 dL_plans_127 rfl ?_
                  refine ks_iload_n hκ 128 3 dL_plans_128 rfl ?_
                  refine ks_iconst hκ 129 (nI 2) dL_plans_129 kq_i2 ?_
                  refine ks_pureV2 hκ 130 dL_plans_130 kc_L_16 (w_of hks hJ (k := vk) (w := 2) (by omega) (by decide) (σ.2.2.2.2.2.1 2 vk) rfl) hX0 rfl (by decide) (Nat.le_of_ble_eq_true rfl) (by decide) (by decide) ?_
                  refine ks_goto hκ 133 137 dL_plans_133 rfl ?_
                  exact ks_top _ (hz4 c124) J124
        refine ks_pick [1, 2, 3, 0] [(0, _), (1, _), (2, _), (3, _)] rfl ?_
        exact ks_cv (L108 _ 0 vl  (Nat.zero_le _) hl hl2 hP (fun j hj => absurd hj (Nat.not_lt_zero j)) (ha.imp id Or.inr) (Nat.lt_succ_self _)) rfl rfl rfl
      · skip
        have c17 := mt (nI_leI (by omega) (by omega)).mpr c17
        obtain ⟨pp, hpp⟩ := kget (L := σ.2.2.2.2.2.2.2) (i := vk) (by omega)
        have hpm := List.mem_of_getElem? hpp
        obtain ⟨vt, hvt, ept⟩ := hps pp hpm
        have hpk := hJ.1.1.1.2 pp hpm
        have hlt : n0 < vt := by
          have q := hpt pp hpm
          rw [hn0e, ept, nI_toInt (by omega), nI_toInt (by omega)] at q
          omega
        have hb2 : ∀ (i : Nat) (p : kP), i < vk + 1 → σ.2.2.2.2.2.2.2[i]? = some p → p.1.toInt ≤ ((max vl vt : Nat) : Int) := fun i p hi hp => by
          by_cases q : i = vk
          · subst q
            rw [hpp] at hp
            cases Option.some.inj hp
            rw [ept, nI_toInt (by omega)]
            omega
          · have := hb i p (by omega) hp
            omega
        have ha2 : max vl vt = n0 ∨ ∃ p ∈ σ.2.2.2.2.2.2.2, p.1 = nI (max vl vt) := by
          by_cases q : vt ≤ vl
          · rw [show max vl vt = vl by omega]; exact ha
          · exact Or.inr ⟨pp, hpm, by rw [show max vl vt = vt by omega]; exact ept⟩
        refine ks_aload_n hκ 20 0 dL_plans_20 rfl ?_
        refine ks_iload_n hκ 21 3 dL_plans_21 rfl ?_
        refine ks_iconst hκ 22 (nI 0) dL_plans_22 kq_i0 ?_
        refine ks_pureV2 hκ 23 dL_plans_23 kc_L_41 (w_planned hks hpp hpl (by decide) (nI vt) ept) hX0 rfl (by decide) (Nat.le_of_ble_eq_true rfl) (by decide) (by decide) ?_
        refine ks_istore hκ 26 4 [(4, _), (0, _), (1, _), (2, _), (3, _)] dL_plans_26 (by decide) rfl ?_
        refine ks_iload hκ 28 0 dL_plans_28 rfl ?_
        refine ks_iload_n hκ 30 3 dL_plans_30 rfl ?_
        refine ks_cut 40 (nI (max vl vt)) 2 [] rfl ?_ (fun J31 => ?_)
        · skip
          refine ks_istore_n hκ 40 2 [(2, _), (4, _), (0, _), (1, _), (3, _)] dL_plans_40 rfl (by decide) rfl ?_
          refine ks_iload hκ 41 1 dL_plans_41 rfl ?_
          refine ks_aload_n hκ 43 2 dL_plans_43 rfl ?_
          refine ks_iconst hκ 44 (nI 0) dL_plans_44 kq_i0 ?_
          refine ks_pureV1 hκ 45 dL_plans_45 kc_L_10 (w_count hks (by decide) (nI n0) hn0e) hX0 rfl (by decide) (Nat.le_of_ble_eq_true rfl) (by decide) (by decide) ?_
          refine ks_icmp_le hκ 48 98 dL_plans_48 rfl (fun c48 => ?_) (fun c48 => ?_)
          · exfalso
            have c48 := (nI_leI (by omega) (by omega)).mp c48
            omega
          · skip
            have c48 := mt (nI_leI (by omega) (by omega)).mpr c48
            refine ks_iload_n hκ 51 4 dL_plans_51 rfl ?_
            refine ks_if_le hκ 52 100 dL_plans_52 rfl (fun c52 => ?_) (fun c52 => ?_)
            · skip
              have c52 := (ks_le0 (by omega)).mp c52
              refine ks_iinc hκ 100 3 4 (nI (vk + 1)) [(3, _), (2, _), (4, _), (0, _), (1, _)] dL_plans_100 rfl (ks_inc1 _) (by decide) rfl ?_
              refine ks_goto hκ 103 15 dL_plans_103 rfl ?_
              refine ks_pick [3, 4, 1, 0] [(0, _), (1, _), (2, _), (3, _)] rfl ?_
              exact ks_cv (ih (vk + 1) (max vl vt)  (by omega) (by omega) (by omega) hb2 ha2 (by omega)) rfl rfl rfl
            · skip
              have c52 := mt (ks_le0 (by omega)).mpr c52
              obtain ⟨qq, hqq⟩ := kget (L := σ.2.2.2.2.2.2.2) (i := vk - 1) (by omega)
              have hqm := List.mem_of_getElem? hqq
              obtain ⟨vq, hvq, epq⟩ := hps qq hqm
              have hqk := hJ.1.1.1.2 qq hqm
              have hlx := q9Lx_at hpo hqq hpp (by omega)
              have hqt : vq ≤ vt := by
                have q := q9Lx_le hlx
                rw [epq, ept, nI_toInt (by omega), nI_toInt (by omega)] at q
                omega
              have hlx2 : vt = vq → qq.2.1 ≤ pp.2.1 := fun z => by
                rcases hlx with q | q
                · rw [epq, ept, z] at q; exact absurd q (Int.lt_irrefl _)
                · exact q.2
              refine ks_iload hκ 55 1 dL_plans_55 rfl ?_
              refine ks_aload_n hκ 57 2 dL_plans_57 rfl ?_
              refine ks_iload_n hκ 58 4 dL_plans_58 rfl ?_
              refine ks_iconst hκ 59 (nI 1) dL_plans_59 kq_i1 ?_
              refine ks_isubN hκ 60 dL_plans_60 (by omega) ?_
              refine ks_iconst hκ 61 (nI 0) dL_plans_61 kq_i0 ?_
              refine ks_pureV2 hκ 62 dL_plans_62 kc_L_41 (w_planned hks hqq hpl (by decide) (nI vq) epq) hX0 rfl (by decide) (Nat.le_of_ble_eq_true rfl) (by decide) (by decide) ?_
              refine ks_icmp_lt hκ 65 98 dL_plans_65 rfl (fun c65 => ?_) (fun c65 => ?_)
              · exfalso
                have c65 := (nI_ltI (by omega) (by omega)).mp c65
                omega
              · skip
                have c65 := mt (nI_ltI (by omega) (by omega)).mpr c65
                refine ks_iload hκ 68 1 dL_plans_68 rfl ?_
                refine ks_aload_n hκ 70 2 dL_plans_70 rfl ?_
                refine ks_iload_n hκ 71 4 dL_plans_71 rfl ?_
                refine ks_iconst hκ 72 (nI 1) dL_plans_72 kq_i1 ?_
                refine ks_isubN hκ 73 dL_plans_73 (by omega) ?_
                refine ks_iconst hκ 74 (nI 0) dL_plans_74 kq_i0 ?_
                refine ks_pureV2 hκ 75 dL_plans_75 kc_L_41 (w_planned hks hqq hpl (by decide) (nI vq) epq) hX0 rfl (by decide) (Nat.le_of_ble_eq_true rfl) (by decide) (by decide) ?_
                refine ks_icmp_ne hκ 78 100 dL_plans_78 rfl (fun c78 => ?_) (fun c78 => ?_)
                · skip
                  have c78 := mt (nI_eq (by omega) (by omega)).mpr c78
                  refine ks_iinc hκ 100 3 4 (nI (vk + 1)) [(3, _), (2, _), (4, _), (0, _), (1, _)] dL_plans_100 rfl (ks_inc1 _) (by decide) rfl ?_
                  refine ks_goto hκ 103 15 dL_plans_103 rfl ?_
                  refine ks_pick [3, 4, 1, 0] [(0, _), (1, _), (2, _), (3, _)] rfl ?_
                  exact ks_cv (ih (vk + 1) (max vl vt)  (by omega) (by omega) (by omega) hb2 ha2 (by omega)) rfl rfl rfl
                · skip
                  have c78 := (nI_eq (by omega) (by omega)).mp c78
                  refine ks_aload_n hκ 81 2 dL_plans_81 rfl ?_
                  refine ks_iload_n hκ 82 4 dL_plans_82 rfl ?_
                  refine ks_iconst hκ 83 (nI 1) dL_plans_83 kq_i1 ?_
                  refine ks_pureV2 hκ 84 dL_plans_84 kc_L_41 (w_planned hks hpp hpl (by decide) (nI pp.2.1) rfl) hX0 rfl (by decide) (Nat.le_of_ble_eq_true rfl) (by decide) (by decide) ?_
                  refine ks_aload_n hκ 87 2 dL_plans_87 rfl ?_
                  refine ks_iload_n hκ 88 4 dL_plans_88 rfl ?_
                  refine ks_iconst hκ 89 (nI 1) dL_plans_89 kq_i1 ?_
                  refine ks_isubN hκ 90 dL_plans_90 (by omega) ?_
                  refine ks_iconst hκ 91 (nI 1) dL_plans_91 kq_i1 ?_
                  refine ks_pureV2 hκ 92 dL_plans_92 kc_L_41 (w_planned hks hqq hpl (by decide) (nI qq.2.1) rfl) hX0 rfl (by decide) (Nat.le_of_ble_eq_true rfl) (by decide) (by decide) ?_
                  refine ks_icmp_ge hκ 95 100 dL_plans_95 rfl (fun c95 => ?_) (fun c95 => ?_)
                  · skip
                    have c95 := (nI_leI (by omega) (by omega)).mp c95
                    refine ks_iinc hκ 100 3 4 (nI (vk + 1)) [(3, _), (2, _), (4, _), (0, _), (1, _)] dL_plans_100 rfl (ks_inc1 _) (by decide) rfl ?_
                    refine ks_goto hκ 103 15 dL_plans_103 rfl ?_
                    refine ks_pick [3, 4, 1, 0] [(0, _), (1, _), (2, _), (3, _)] rfl ?_
                    exact ks_cv (ih (vk + 1) (max vl vt)  (by omega) (by omega) (by omega) hb2 ha2 (by omega)) rfl rfl rfl
                  · exfalso
                    have c95 := mt (nI_leI (by omega) (by omega)).mpr c95
                    exact c95 (hlx2 c78)
        · skip
          refine ks_icmp_le hκ 31 39 dL_plans_31 rfl (fun c31 => ?_) (fun c31 => ?_)
          · skip
            have c31 := (nI_leI (by omega) (by omega)).mp c31
            refine ks_iload_n hκ 39 3 dL_plans_39 rfl ?_
            exact ks_top _ (by rw [show max vl vt = vl by omega]) J31
          · skip
            have c31 := mt (nI_leI (by omega) (by omega)).mpr c31
            refine ks_iload hκ 34 0 dL_plans_34 rfl ?_
            refine ks_goto hκ 36 40 dL_plans_36 rfl ?_
            exact ks_top _ (by rw [show max vl vt = vt by omega]) J31
  refine ks_pick [3, 2, 1, 0] [(0, _), (1, _), (2, _), (3, _)] rfl ?_
  exact ks_cv (L15 _ 0 n0  (Nat.zero_le _) (Nat.le_refl _) (by omega) (fun i p hi => absurd hi (Nat.not_lt_zero i)) (Or.inl rfl) (Nat.lt_succ_self _)) rfl rfl rfl
