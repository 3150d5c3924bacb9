
/-! P29: the law's small methods -/
theorem kq_b12 : (Int8.ofInt 12).toInt32 = nI 12 := by decide +kernel
theorem kq_b13 : (Int8.ofInt 13).toInt32 = nI 13 := by decide +kernel
theorem q9Rem {a b : Nat} (ha : a < 2 ^ 31) (h0 : 0 < b) (hb : b < 2 ^ 31) : nI a - (nI a / nI b) * nI b = nI (a % b) := by
  have h1 := Nat.mod_add_div a b
  have h2 := Nat.mul_comm b (a / b)
  rw [pk_div ha h0 hb, pk_mul, pk_sub (by omega)]
  congr 1
  omega
def q9Lo (v : Int32) (n : Nat) : Nat := v.toBitVec.toNat % 2 ^ 31 % n
theorem q9Lo_lt {v : Int32} {n : Nat} (h : 0 < n) : q9Lo v n < n := Nat.mod_lt _ h
def q9Ce (g : ks_G) (k : Nat) : Int32 := if k < g.2.2.2.2.2.2.2.1 then g.2.2.2.2.2.2.2.2 k else 916318735 * nI (k + 1) + 833078363
/-- what is printed of a state -/
def q9P1 (σ : kS) (x : Int64) (w : Nat) : Int64 := 31 * x + (kCnN σ 0 0 w).toInt64
def q9P2 (σ : kS) (x : Int64) (k : Nat) : Int64 := 31 * x + (kOfN σ (k / 10) (k % 10)).toInt64
def q9P3 (σ : kS) (e : Nat) (x : Int64) (r : Nat) : Int64 := 31 * x + 16 * (nI e).toInt64 + (q9Rk e σ.2.2.2.2.2.2.1 r).toInt64
def q9P3o (σ : kS) (x : Int64) (e : Nat) : Int64 := (List.range (kAt e σ.2.2.2.2.2.2.1)).foldl (q9P3 σ e) x
def q9Pk (P : List kP) (k : Nat) : Int32 := match P[k / 3]? with
  | some p => kPlN p (k % 3)
  | none => -1
def q9P4 (σ : kS) (x : Int64) (k : Nat) : Int64 := 31 * x + (q9Pk σ.2.2.2.2.2.2.2 k).toInt64
def q9Px1 (σ : kS) : Int64 := (List.range 15).foldl (q9P1 σ) (kThQ σ).toInt64
def q9Px2 (σ : kS) : Int64 := (List.range (10 * σ.2.2.1)).foldl (q9P2 σ) (q9Px1 σ)
def q9Px3 (σ : kS) : Int64 := (List.range 15).foldl (q9P3o σ) (q9Px2 σ)
def q9Prn (σ : kS) : Int64 := (List.range (3 * σ.2.2.2.2.2.2.2.length)).foldl (q9P4 σ) (q9Px3 σ)
theorem q9Cn0 {σ : kS} {b w : Nat} (hw : w < 15) : kCnN σ 0 b w = kCnN σ 0 0 w := by
  rcases (show w = 0 ∨ w = 1 ∨ w = 2 ∨ w = 3 ∨ w = 4 ∨ w = 5 ∨ w = 6 ∨ w = 7 ∨ w = 8 ∨ w = 9 ∨ w = 10 ∨ w = 11 ∨ w = 12 ∨ w = 13 ∨ w = 14 by omega) with rfl | rfl | rfl | rfl | rfl | rfl | rfl | rfl | rfl | rfl | rfl | rfl | rfl | rfl | rfl <;> rfl
set_option maxRecDepth 100000 in
set_option maxHeartbeats 4000000 in
theorem l_low {g : ks_G} {h : ks_H} {v : Int32} {n : Nat} (hn : 0 < n) (hn2 : n < 2 ^ 31) : ks_Met g (yL_low, cL_low, 2, some .int) 0 0 0 [.int v, .int (nI n)] h (ks_Pi (nI (q9Lo v n)) h) := by
  refine ks_intro (by decide) (Nat.le_of_ble_eq_true rfl) (fun κ hκ hRt => ?_)
  refine ks_cv (ls := [(0, .int v), (1, .int (nI n))]) ?_ rfl rfl rfl
  refine ks_iload_n hκ 0 0 dL_low_0 rfl ?_
  refine ks_ldc hκ 1 _ dL_low_1 kd_L_9 ?_
  refine ks_iand hκ 3 dL_low_3 ?_
  refine ks_iload_n hκ 4 1 dL_low_4 rfl ?_
  refine ks_irem hκ 5 dL_low_5 (nI_ne0 hn hn2) ?_
  refine ks_iret hκ 6 hRt dL_low_6 (by decide) (by decide) rfl ?_
  exact ⟨by rw [pk_and v 31 (by decide), q9Rem (Nat.mod_lt _ (by decide)) hn hn2]; rfl, rfl⟩
set_option maxRecDepth 100000 in
set_option maxHeartbeats 4000000 in
theorem l_cell {g : ks_G} {h : ks_H} {k : Nat} (hk : k < 1000) (hL : g.2.2.2.2.2.2.2.1 ≤ 260) : ks_Met g (yL_cell, cL_cell, 2, some .int) 0 0 0 [.ref g.2.2.2.2.2.2.1, .int (nI k)] h (ks_Pi (q9Ce g k) h) := by
  refine ks_intro (by decide) (Nat.le_of_ble_eq_true rfl) (fun κ hκ hRt => ?_)
  refine ks_cv (ls := [(0, .ref g.2.2.2.2.2.2.1), (1, .int (nI k))]) ?_ rfl rfl rfl
  refine ks_iload_n hκ 0 1 dL_cell_0 rfl ?_
  refine ks_aload_nr hκ 1 0 dL_cell_1 rfl ?_
  refine ks_sleng hκ 2 dL_cell_2 ?_
  refine ks_icmp_ge hκ 3 12 dL_cell_3 rfl (fun c3 => ?_) (fun c3 => ?_)
  · skip
    have c3 := (nI_leI (by omega) (by omega)).mp c3
    refine ks_ldc hκ 12 _ dL_cell_12 kd_L_7 ?_
    refine ks_iload_n hκ 14 1 dL_cell_14 rfl ?_
    refine ks_iconst hκ 15 (nI 1) dL_cell_15 kq_i1 ?_
    refine ks_iaddN hκ 16 dL_cell_16 ?_
    refine ks_imul hκ 17 dL_cell_17 ?_
    refine ks_ldc hκ 18 _ dL_cell_18 kd_L_8 ?_
    refine ks_iadd hκ 20 dL_cell_20 ?_
    refine ks_iret hκ 21 hRt dL_cell_21 (by decide) (by decide) rfl ?_
    exact ⟨by unfold q9Ce; first | rw [if_pos (by omega)] | rw [if_neg (by omega)], rfl⟩
  · skip
    have c3 := mt (nI_leI (by omega) (by omega)).mpr c3
    refine ks_aload_nr hκ 6 0 dL_cell_6 rfl ?_
    refine ks_iload_n hκ 7 1 dL_cell_7 rfl ?_
    refine ks_sldg hκ 8 k (by omega) hL dL_cell_8 ?_
    refine ks_goto hκ 9 21 dL_cell_9 rfl ?_
    refine ks_iret hκ 21 hRt dL_cell_21 (by decide) (by decide) rfl ?_
    exact ⟨by unfold q9Ce; first | rw [if_pos (by omega)] | rw [if_neg (by omega)], rfl⟩
set_option maxRecDepth 100000 in
set_option maxHeartbeats 4000000 in
theorem l_ones {g : ks_G} {h : ks_H} {m : Nat} (hm : m < 32768) : ks_Met g (yL_ones, cL_ones, 3, some .int) 0 0 0 [.int (nI m)] h (ks_Pi (nI (q9Pp 15 m)) h) := by
  refine ks_intro (by decide) (Nat.le_of_ble_eq_true rfl) (fun κ hκ hRt => ?_)
  refine ks_cv (ls := [(0, .int (nI m))]) ?_ rfl rfl rfl
  refine ks_iconst hκ 0 (nI 0) dL_ones_0 kq_i0 ?_
  refine ks_istore_n hκ 1 1 [(1, _), (0, _)] dL_ones_1 rfl (by decide) rfl ?_
  refine ks_iload_n hκ 2 1 dL_ones_2 rfl ?_
  refine ks_istore_n hκ 3 2 [(2, _), (1, _), (0, _)] dL_ones_3 rfl (by decide) rfl ?_
  have L4 : ∀ (fuel : Nat) (vf va vm : Nat) (hv : vm < 2 ^ vf) (hf : vf ≤ 15) (hva : va + vf ≤ 15) (heq : va + q9Pp vf vm = q9Pp 15 m) (hfuel : vf < fuel), ks_K κ g 3 h 0 0 4 [(1, .int (nI va)), (2, .int (nI vm))] [] := by
    intro fuel
    induction fuel with
    | zero => intro vf va vm  hv hf hva heq hfuel; exact absurd hfuel (Nat.not_lt_zero _)
    | succ fuel ih =>
      intro vf va vm  hv hf hva heq hfuel
      have hv2 : 2 ^ vf ≤ 2 ^ 15 := Nat.pow_le_pow_right (by decide) hf
      have hv3 : vm < 32768 := by omega
      refine ks_iload_n hκ 4 1 dL_ones_4 rfl ?_
      refine ks_if_le hκ 5 21 dL_ones_5 rfl (fun c5 => ?_) (fun c5 => ?_)
      · skip
        have c5 := (ks_le0 (by omega)).mp c5
        have heq2 : va = q9Pp 15 m := by rw [← heq, c5, q9Pp_0, Nat.add_zero]
        refine ks_iload_n hκ 21 0 dL_ones_21 rfl ?_
        refine ks_iret hκ 22 hRt dL_ones_22 (by decide) (by decide) rfl ?_
        exact ⟨by rw [heq2], rfl⟩
      · skip
        have c5 := mt (ks_le0 (by omega)).mpr c5
        obtain ⟨w1, rfl⟩ : ∃ w1, vf = w1 + 1 := ⟨vf - 1, by cases vf with | zero => exact absurd hv (by rw [Nat.pow_zero]; omega) | succ q => rfl⟩
        refine ks_iload_n hκ 8 0 dL_ones_8 rfl ?_
        refine ks_iload_n hκ 9 1 dL_ones_9 rfl ?_
        refine ks_iconst hκ 10 (nI 2) dL_ones_10 kq_i2 ?_
        refine ks_irem hκ 11 dL_ones_11 (nI_ne0 (by decide) (by decide)) ?_
        refine ks_top (nI (vm % 2)) (q9Rem (by omega) (by decide) (by decide)) ?_
        refine ks_iaddN hκ 12 dL_ones_12 ?_
        refine ks_istore_n hκ 13 1 [(1, _), (2, _)] dL_ones_13 rfl (by decide) rfl ?_
        refine ks_iload_n hκ 14 1 dL_ones_14 rfl ?_
        refine ks_iconst hκ 15 (nI 2) dL_ones_15 kq_i2 ?_
        refine ks_idiv hκ 16 dL_ones_16 (nI_ne0 (by decide) (by decide)) ?_
        refine ks_top (nI (vm / 2)) (pk_div (by omega) (by decide) (by decide)) ?_
        refine ks_istore_n hκ 17 2 [(2, _), (1, _)] dL_ones_17 rfl (by decide) rfl ?_
        refine ks_goto hκ 18 4 dL_ones_18 rfl ?_
        refine ks_pick [1, 0] [(1, _), (2, _)] rfl ?_
        exact ks_cv (ih w1 _ _  (by rw [Nat.pow_succ] at hv; omega) (by omega) (by omega) (by rw [← heq, q9Pp]; omega) (by omega)) rfl rfl rfl
  refine ks_pick [1, 0] [(1, _), (2, _)] rfl ?_
  exact ks_cv (L4 _ 15 0 m  hm (Nat.le_refl _) (Nat.le_refl _) (Nat.zero_add _) (Nat.lt_succ_self _)) rfl rfl rfl
set_option maxRecDepth 100000 in
set_option maxHeartbeats 4000000 in
theorem l_print {g : ks_G} {h : ks_H} {σ : kS} {H : List kS} (hks : q9K g h σ H) (hJ : q9J σ) : ks_Met g (yL_print, cL_print, 5, some .long) 5 0 0 [ks_ref g 0] h (ks_Pl (q9Prn σ) h) := by
  refine ks_intro (by decide) (Nat.le_of_ble_eq_true rfl) (fun κ hκ hRt => ?_)
  refine ks_cv (ls := [(0, ks_ref g 0)]) ?_ rfl rfl rfl
  have hX0 := hks.ob
  have hki : σ.2.2.1 ≤ 6 := hJ.1.2.2.2.2.2
  have hpl : σ.2.2.2.2.2.2.2.length ≤ 16 := hJ.2.2.2.1.1
  obtain ⟨hyl, hye⟩ := hks.yarn
  refine ks_aload_n hκ 0 0 dL_print_0 rfl ?_
  refine ks_pureV0 hκ 1 dL_print_1 kc_L_37 (w_thickest hks) hX0 rfl (by decide) (Nat.le_of_ble_eq_true rfl) (by decide) (by decide) ?_
  refine ks_i2l hκ 4 dL_print_4 ?_
  refine ks_lstore_n hκ 5 1 [(1, _), (0, _)] dL_print_5 rfl (by decide) rfl ?_
  refine ks_iconst hκ 6 (nI 0) dL_print_6 kq_i0 ?_
  refine ks_istore_n hκ 7 3 [(3, _), (1, _), (0, _)] dL_print_7 rfl (by decide) rfl ?_
  have L8 : ∀ (fuel : Nat) (vk : Nat) (vx : Int64) (hk : vk ≤ 15) (hx : ((List.range 15).drop vk).foldl (q9P1 σ) vx = q9Px1 σ) (hfuel : 15 - vk < fuel), ks_K κ g 5 h 0 0 8 [(0, ks_ref g 0), (1, .long vx), (3, .int (nI vk))] [] := by
    intro fuel
    induction fuel with
    | zero => intro vk vx  hk hx hfuel; exact absurd hfuel (Nat.not_lt_zero _)
    | succ fuel ih =>
      intro vk vx  hk hx hfuel
      refine ks_iload_n hκ 8 2 dL_print_8 rfl ?_
      refine ks_bipush hκ 9 (nI 15) dL_print_9 kq_b15 ?_
      refine ks_icmp_ge hκ 11 33 dL_print_11 rfl (fun c11 => ?_) (fun c11 => ?_)
      · skip
        have c11 := (nI_leI (by omega) (by omega)).mp c11
        have hx : vx = q9Px1 σ := by rw [← hx, kdropRN (by omega)]; rfl
        subst hx
        refine ks_iconst hκ 33 (nI 0) dL_print_33 kq_i0 ?_
        refine ks_istore_n hκ 34 3 [(3, _), (0, _), (1, _)] dL_print_34 rfl (by decide) rfl ?_
        have L35 : ∀ (fuel : Nat) (vk : Nat) (vx : Int64) (hk : vk ≤ 10 * σ.2.2.1) (hx : ((List.range (10 * σ.2.2.1)).drop vk).foldl (q9P2 σ) vx = q9Px2 σ) (hfuel : 10 * σ.2.2.1 - vk < fuel), ks_K κ g 5 h 0 0 35 [(0, ks_ref g 0), (1, .long vx), (3, .int (nI vk))] [] := by
          intro fuel
          induction fuel with
          | zero => intro vk vx  hk hx hfuel; exact absurd hfuel (Nat.not_lt_zero _)
          | succ fuel ih =>
            intro vk vx  hk hx hfuel
            refine ks_iload_n hκ 35 2 dL_print_35 rfl ?_
            refine ks_bipush hκ 36 (nI 10) dL_print_36 kq_b10 ?_
            refine ks_aload_n hκ 38 0 dL_print_38 rfl ?_
            refine ks_iconst hκ 39 (nI 1) dL_print_39 kq_i1 ?_
            refine ks_pureV1 hκ 40 dL_print_40 kc_L_10 (w_count hks (by decide) (nI σ.2.2.1) rfl) hX0 rfl (by decide) (Nat.le_of_ble_eq_true rfl) (by decide) (by decide) ?_
            refine ks_imulN hκ 43 dL_print_43 ?_
            refine ks_icmp_ge hκ 44 73 dL_print_44 rfl (fun c44 => ?_) (fun c44 => ?_)
            · skip
              have c44 := (nI_leI (by omega) (by omega)).mp c44
              have hx : vx = q9Px2 σ := by rw [← hx, kdropRN (by omega)]; rfl
              subst hx
              refine ks_iconst hκ 73 (nI 0) dL_print_73 kq_i0 ?_
              refine ks_istore_n hκ 74 3 [(3, _), (0, _), (1, _)] dL_print_74 rfl (by decide) rfl ?_
              have L75 : ∀ (fuel : Nat) (vk : Nat) (vx : Int64) (hk : vk ≤ 15) (hx : ((List.range 15).drop vk).foldl (q9P3o σ) vx = q9Px3 σ) (hfuel : 15 - vk < fuel), ks_K κ g 5 h 0 0 75 [(0, ks_ref g 0), (1, .long vx), (3, .int (nI vk))] [] := by
                intro fuel
                induction fuel with
                | zero => intro vk vx  hk hx hfuel; exact absurd hfuel (Nat.not_lt_zero _)
                | succ fuel ih =>
                  intro vk vx  hk hx hfuel
                  refine ks_iload_n hκ 75 2 dL_print_75 rfl ?_
                  refine ks_bipush hκ 76 (nI 15) dL_print_76 kq_b15 ?_
                  refine ks_icmp_ge hκ 78 129 dL_print_78 rfl (fun c78 => ?_) (fun c78 => ?_)
                  · skip
                    have c78 := (nI_leI (by omega) (by omega)).mp c78
                    have hx : vx = q9Px3 σ := by rw [← hx, kdropRN (by omega)]; rfl
                    subst hx
                    refine ks_iconst hκ 129 (nI 0) dL_print_129 kq_i0 ?_
                    refine ks_istore_n hκ 130 3 [(3, _), (0, _), (1, _)] dL_print_130 rfl (by decide) rfl ?_
                    have L131 : ∀ (fuel : Nat) (vk : Nat) (vx : Int64) (hk : vk ≤ 3 * σ.2.2.2.2.2.2.2.length) (hx : ((List.range (3 * σ.2.2.2.2.2.2.2.length)).drop vk).foldl (q9P4 σ) vx = q9Prn σ) (hfuel : 3 * σ.2.2.2.2.2.2.2.length - vk < fuel), ks_K κ g 5 h 0 0 131 [(0, ks_ref g 0), (1, .long vx), (3, .int (nI vk))] [] := by
                      intro fuel
                      induction fuel with
                      | zero => intro vk vx  hk hx hfuel; exact absurd hfuel (Nat.not_lt_zero _)
                      | succ fuel ih =>
                        intro vk vx  hk hx hfuel
                        refine ks_iload_n hκ 131 2 dL_print_131 rfl ?_
                        refine ks_iconst hκ 132 (nI 3) dL_print_132 kq_i3 ?_
                        refine ks_aload_n hκ 133 0 dL_print_133 rfl ?_
                        refine ks_bipush hκ 134 (nI 10) dL_print_134 kq_b10 ?_
                        refine ks_pureV1 hκ 136 dL_print_136 kc_L_10 (w_count hks (by decide) (nI σ.2.2.2.2.2.2.2.length) rfl) hX0 rfl (by decide) (Nat.le_of_ble_eq_true rfl) (by decide) (by decide) ?_
                        refine ks_imulN hκ 139 dL_print_139 ?_
                        refine ks_icmp_ge hκ 140 167 dL_print_140 rfl (fun c140 => ?_) (fun c140 => ?_)
                        · skip
                          have c140 := (nI_leI (by omega) (by omega)).mp c140
                          have hx : vx = q9Prn σ := by rw [← hx, kdropRN (by omega)]; rfl
                          subst hx
                          refine ks_lload_n hκ 167 1 dL_print_167 rfl ?_
                          refine ks_lgret hκ 168 hRt dL_print_168 (by decide) (by decide) ?_
                          exact ⟨rfl, rfl⟩
                        · skip
                          have c140 := mt (nI_leI (by omega) (by omega)).mpr c140
                          rw [kdropR (by omega), List.foldl_cons] at hx
                          obtain ⟨pp, hpp⟩ := kget (L := σ.2.2.2.2.2.2.2) (i := vk / 3) (by omega)
                          have hpk : q9Pk σ.2.2.2.2.2.2.2 vk = kPlN pp (vk % 3) := by unfold q9Pk; rw [hpp]
                          refine ks_ldc2 hκ 143 _ dL_print_143 kl_L_47 ?_
                          refine ks_lload_n hκ 146 1 dL_print_146 rfl ?_
                          refine ks_lmul hκ 147 dL_print_147 ?_
                          refine ks_aload_n hκ 148 0 dL_print_148 rfl ?_
                          refine ks_iload_n hκ 149 2 dL_print_149 rfl ?_
                          refine ks_iconst hκ 150 (nI 3) dL_print_150 kq_i3 ?_
                          refine ks_idiv hκ 151 dL_print_151 (nI_ne0 (by decide) (by decide)) ?_
                          refine ks_top (nI (vk / 3)) (pk_div (by omega) (by decide) (by decide)) ?_
                          refine ks_iload_n hκ 152 2 dL_print_152 rfl ?_
                          refine ks_iconst hκ 153 (nI 3) dL_print_153 kq_i3 ?_
                          refine ks_irem hκ 154 dL_print_154 (nI_ne0 (by decide) (by decide)) ?_
                          refine ks_top (nI (vk % 3)) (q9Rem (by omega) (by decide) (by decide)) ?_
                          refine ks_pureV2 hκ 155 dL_print_155 kc_L_41 (w_planned hks hpp hpl (w := vk % 3) (by omega) _ hpk.symm) hX0 rfl (by decide) (Nat.le_of_ble_eq_true rfl) (by decide) (by decide) ?_
                          refine ks_i2l hκ 158 dL_print_158 ?_
                          refine ks_ladd hκ 159 dL_print_159 ?_
                          refine ks_lstore_n hκ 160 1 [(1, _), (0, _), (3, _)] dL_print_160 rfl (by decide) rfl ?_
                          refine ks_iinc hκ 161 3 2 (nI (vk + 1)) [(3, _), (1, _), (0, _)] dL_print_161 rfl (ks_inc1 _) (by decide) rfl ?_
                          refine ks_goto hκ 164 131 dL_print_164 rfl ?_
                          refine ks_pick [2, 1, 0] [(0, _), (1, _), (3, _)] rfl ?_
                          exact ks_cv (ih (vk + 1) _  (by omega) hx (by omega) ) rfl rfl rfl
                    refine ks_pick [1, 2, 0] [(0, _), (1, _), (3, _)] rfl ?_
                    exact ks_cv (L131 _ 0 _  (Nat.zero_le _) rfl (Nat.lt_succ_self _)) rfl rfl rfl
                  · skip
                    have c78 := mt (nI_leI (by omega) (by omega)).mpr c78
                    rw [kdropR (by omega), List.foldl_cons] at hx
                    have hat := kAt_le vk σ.2.2.2.2.2.2.1
                    refine ks_iconst hκ 81 (nI 0) dL_print_81 kq_i0 ?_
                    refine ks_istore hκ 82 4 [(4, _), (0, _), (1, _), (3, _)] dL_print_82 (by decide) rfl ?_
                    have L84 : ∀ (fuel2 : Nat) (vr : Nat) (vy : Int64) (hr : vr ≤ kAt vk σ.2.2.2.2.2.2.1) (hy : ((List.range (kAt vk σ.2.2.2.2.2.2.1)).drop vr).foldl (q9P3 σ vk) vy = q9P3o σ vx vk) (hfuel2 : kAt vk σ.2.2.2.2.2.2.1 - vr < fuel2), ks_K κ g 5 h 0 0 84 [(0, ks_ref g 0), (1, .long vy), (3, .int (nI vk)), (4, .int (nI vr))] [] := by
                      intro fuel2
                      induction fuel2 with
                      | zero => intro vr vy  hr hy hfuel2; exact absurd hfuel2 (Nat.not_lt_zero _)
                      | succ fuel2 ih2 =>
                        intro vr vy  hr hy hfuel2
                        refine ks_iload hκ 84 3 dL_print_84 rfl ?_
                        refine ks_aload_n hκ 86 0 dL_print_86 rfl ?_
                        refine ks_iload_n hκ 87 2 dL_print_87 rfl ?_
                        refine ks_iconst hκ 88 (nI 0) dL_print_88 kq_i0 ?_
                        refine ks_pureV2 hκ 89 dL_print_89 kc_L_31 (w_edge hks (e := vk) (w := 0) (by omega) (by decide) (nI (kAt vk σ.2.2.2.2.2.2.1)) rfl) hX0 rfl (by decide) (Nat.le_of_ble_eq_true rfl) (by decide) (by decide) ?_
                        refine ks_icmp_ge hκ 92 123 dL_print_92 rfl (fun c92 => ?_) (fun c92 => ?_)
                        · skip
                          have c92 := (nI_leI (by omega) (by omega)).mp c92
                          have hy : vy = q9P3o σ vx vk := by rw [← hy, kdropRN (by omega)]; rfl
                          subst hy
                          refine ks_iinc hκ 123 3 2 (nI (vk + 1)) [(3, _), (0, _), (1, _), (4, _)] dL_print_123 rfl (ks_inc1 _) (by decide) rfl ?_
                          refine ks_goto hκ 126 75 dL_print_126 rfl ?_
                          refine ks_pick [1, 2, 0] [(0, _), (1, _), (3, _)] rfl ?_
                          exact ks_cv (ih (vk + 1) _  (by omega) hx (by omega) ) rfl rfl rfl
                        · skip
                          have c92 := mt (nI_leI (by omega) (by omega)).mpr c92
                          rw [kdropR (by omega), List.foldl_cons] at hy
                          refine ks_ldc2 hκ 95 _ dL_print_95 kl_L_47 ?_
                          refine ks_lload_n hκ 98 1 dL_print_98 rfl ?_
                          refine ks_lmul hκ 99 dL_print_99 ?_
                          refine ks_ldc2 hκ 100 _ dL_print_100 kl_L_49 ?_
                          refine ks_iload_n hκ 103 2 dL_print_103 rfl ?_
                          refine ks_i2l hκ 104 dL_print_104 ?_
                          refine ks_lmul hκ 105 dL_print_105 ?_
                          refine ks_ladd hκ 106 dL_print_106 ?_
                          refine ks_aload_n hκ 107 0 dL_print_107 rfl ?_
                          refine ks_iload_n hκ 108 2 dL_print_108 rfl ?_
                          refine ks_iload hκ 109 3 dL_print_109 rfl ?_
                          refine ks_pureV2 hκ 111 dL_print_111 kc_L_34 (w_strand hks (e := vk) (r := vr) (by omega) (by omega) _ rfl) hX0 rfl (by decide) (Nat.le_of_ble_eq_true rfl) (by decide) (by decide) ?_
                          refine ks_i2l hκ 114 dL_print_114 ?_
                          refine ks_ladd hκ 115 dL_print_115 ?_
                          refine ks_lstore_n hκ 116 1 [(1, _), (0, _), (3, _), (4, _)] dL_print_116 rfl (by decide) rfl ?_
                          refine ks_iinc hκ 117 4 3 (nI (vr + 1)) [(4, _), (1, _), (0, _), (3, _)] dL_print_117 rfl (ks_inc1 _) (by decide) rfl ?_
                          refine ks_goto hκ 120 84 dL_print_120 rfl ?_
                          refine ks_pick [2, 1, 3, 0] [(0, _), (1, _), (3, _), (4, _)] rfl ?_
                          exact ks_cv (ih2 (vr + 1) _  (by omega) hy (by omega) ) rfl rfl rfl
                    refine ks_pick [1, 2, 3, 0] [(0, _), (1, _), (3, _), (4, _)] rfl ?_
                    exact ks_cv (L84 _ 0 _  (Nat.zero_le _) rfl (Nat.lt_succ_self _)) rfl rfl rfl
              refine ks_pick [1, 2, 0] [(0, _), (1, _), (3, _)] rfl ?_
              exact ks_cv (L75 _ 0 _  (Nat.zero_le _) rfl (Nat.lt_succ_self _)) rfl rfl rfl
            · skip
              have c44 := mt (nI_leI (by omega) (by omega)).mpr c44
              rw [kdropR (by omega), List.foldl_cons] at hx
              refine ks_ldc2 hκ 47 _ dL_print_47 kl_L_47 ?_
              refine ks_lload_n hκ 50 1 dL_print_50 rfl ?_
              refine ks_lmul hκ 51 dL_print_51 ?_
              refine ks_aload_n hκ 52 0 dL_print_52 rfl ?_
              refine ks_iload_n hκ 53 2 dL_print_53 rfl ?_
              refine ks_bipush hκ 54 (nI 10) dL_print_54 kq_b10 ?_
              refine ks_idiv hκ 56 dL_print_56 (nI_ne0 (by decide) (by decide)) ?_
              refine ks_top (nI (vk / 10)) (pk_div (by omega) (by decide) (by decide)) ?_
              refine ks_iload_n hκ 57 2 dL_print_57 rfl ?_
              refine ks_bipush hκ 58 (nI 10) dL_print_58 kq_b10 ?_
              refine ks_irem hκ 60 dL_print_60 (nI_ne0 (by decide) (by decide)) ?_
              refine ks_top (nI (vk % 10)) (q9Rem (by omega) (by decide) (by decide)) ?_
              refine ks_pureV2 hκ 61 dL_print_61 kc_L_16 (w_of hks hJ (k := vk / 10) (w := vk % 10) (by omega) (by omega) _ rfl) hX0 rfl (by decide) (Nat.le_of_ble_eq_true rfl) (by decide) (by decide) ?_
              refine ks_i2l hκ 64 dL_print_64 ?_
              refine ks_ladd hκ 65 dL_print_65 ?_
              refine ks_lstore_n hκ 66 1 [(1, _), (0, _), (3, _)] dL_print_66 rfl (by decide) rfl ?_
              refine ks_iinc hκ 67 3 2 (nI (vk + 1)) [(3, _), (1, _), (0, _)] dL_print_67 rfl (ks_inc1 _) (by decide) rfl ?_
              refine ks_goto hκ 70 35 dL_print_70 rfl ?_
              refine ks_pick [2, 1, 0] [(0, _), (1, _), (3, _)] rfl ?_
              exact ks_cv (ih (vk + 1) _  (by omega) hx (by omega) ) rfl rfl rfl
        refine ks_pick [1, 2, 0] [(0, _), (1, _), (3, _)] rfl ?_
        exact ks_cv (L35 _ 0 _  (Nat.zero_le _) rfl (Nat.lt_succ_self _)) rfl rfl rfl
      · skip
        have c11 := mt (nI_leI (by omega) (by omega)).mpr c11
        rw [kdropR (by omega), List.foldl_cons] at hx
        refine ks_ldc2 hκ 14 _ dL_print_14 kl_L_47 ?_
        refine ks_lload_n hκ 17 1 dL_print_17 rfl ?_
        refine ks_lmul hκ 18 dL_print_18 ?_
        refine ks_aload_n hκ 19 0 dL_print_19 rfl ?_
        refine ks_iload_n hκ 20 2 dL_print_20 rfl ?_
        refine ks_pureV1 hκ 21 dL_print_21 kc_L_10 (w_count hks (by omega) (kCnN σ 0 0 vk) (q9Cn0 (by omega))) hX0 rfl (by decide) (Nat.le_of_ble_eq_true rfl) (by decide) (by decide) ?_
        refine ks_i2l hκ 24 dL_print_24 ?_
        refine ks_ladd hκ 25 dL_print_25 ?_
        refine ks_lstore_n hκ 26 1 [(1, _), (0, _), (3, _)] dL_print_26 rfl (by decide) rfl ?_
        refine ks_iinc hκ 27 3 2 (nI (vk + 1)) [(3, _), (1, _), (0, _)] dL_print_27 rfl (ks_inc1 _) (by decide) rfl ?_
        refine ks_goto hκ 30 8 dL_print_30 rfl ?_
        refine ks_pick [2, 1, 0] [(0, _), (1, _), (3, _)] rfl ?_
        exact ks_cv (ih (vk + 1) _  (by omega) hx (by omega) ) rfl rfl rfl
  refine ks_pick [2, 1, 0] [(0, _), (1, _), (3, _)] rfl ?_
  exact ks_cv (L8 _ 0 _  (Nat.zero_le _) rfl (Nat.lt_succ_self _)) rfl rfl rfl
