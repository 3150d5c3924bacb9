
/-! LONGS as characters -/
def kT (x : Int64) : Nat := x.toUInt64.toNat
theorem kT_shr {x : Int64} {k : Nat} (hk : k < 64) : kT (kShr x (nI k)) = kT x / 2 ^ k := by
  unfold kT kShr
  rw [UInt64.toUInt64_toInt64, UInt64.toNat_shiftRight]
  have q : ∀ k : Fin 64, ((nI k.val).toInt64.toUInt64 &&& Int64.toUInt64 63).toNat % 64 = k.val := by decide +kernel
  have q1 := q ⟨k, hk⟩
  dsimp only at q1
  rw [q1, Nat.shiftRight_eq_div_pow]
theorem kT_and {x : Int64} : kT (x &&& 255) = kT x % 256 := by
  unfold kT
  rw [Int64.toUInt64_and, UInt64.toNat_and, show (255 : Int64).toUInt64.toNat = 2 ^ 8 - 1 by decide, Nat.and_two_pow_sub_one_eq_mod]
theorem kT_int {x : Int64} (h : kT x < 2 ^ 62) : x.toInt = (kT x : Int) := BitVec.toInt_eq_toNat_of_lt (x := x.toBitVec) (by
  have h2 : x.toBitVec.toNat < 2 ^ 62 := h
  omega)
theorem kT_byte {x : Int64} : (x &&& 255).toInt = (kT x % 256 : Nat) := by
  rw [kT_int (by rw [kT_and]; omega), kT_and]
theorem kT_lo {x : Int64} : x &&& 255 < 33 ↔ kT x % 256 < 33 := by
  rw [Int64.lt_iff_toInt_lt, kT_byte, show (33 : Int64).toInt = 33 by decide]
  omega
theorem kT_hi {x : Int64} : 126 < x &&& 255 ↔ 126 < kT x % 256 := by
  rw [Int64.lt_iff_toInt_lt, kT_byte, show (126 : Int64).toInt = 126 by decide]
  omega
theorem kT_0 {x : Int64} (h : kT x = 0) : x = 0 := Int64.toBitVec_inj.mp (BitVec.eq_of_toNat_eq (show x.toBitVec.toNat = (0 : Int64).toBitVec.toNat from h))
theorem kByte_n {x : Int64} {i : Nat} (hi : i < 8) : kByte x i = nI (kT x / 256 ^ i % 256) := by
  unfold kByte
  refine Int32.toInt_inj.mp ?_
  rw [Int64.toInt_toInt32, kT_byte, kT_shr (by omega), Nat.pow_mul, nI_toInt (by omega), show (2 : Nat) ^ 8 = 256 by decide]
  exact Int.bmod_eq_of_le (by omega) (by omega)
theorem kSig_bytes : ∀ (f : Nat) (x : Int64) (a i : Nat), a + i < kSig f x a → 33 ≤ kT x / 256 ^ i % 256 ∧ kT x / 256 ^ i % 256 ≤ 126
  | 0, x, a, i, h => absurd (show a + i < a from h) (by omega)
  | f + 1, x, a, i, h => by
    rw [kSig] at h
    by_cases h0 : x = 0
    · rw [if_pos h0] at h; omega
    · rw [if_neg h0] at h
      by_cases h1 : x &&& 255 < 33
      · rw [if_pos h1] at h; omega
      · rw [if_neg h1] at h
        by_cases h2 : 126 < x &&& 255
        · rw [if_pos h2] at h; omega
        · rw [if_neg h2] at h
          rw [kT_lo] at h1
          rw [kT_hi] at h2
          cases i with
          | zero => rw [Nat.pow_zero, Nat.div_one]; omega
          | succ i =>
            have h3 := kSig_bytes f (kShr x (nI 8)) (a + 1) i (by omega)
            rw [kT_shr (by decide), Nat.div_div_eq_div_mul, show (2 : Nat) ^ 8 * 256 ^ i = 256 ^ (i + 1) by rw [show (2 : Nat) ^ 8 = 256 from rfl, Nat.mul_comm, Nat.pow_succ 256 i]] at h3
            exact h3
theorem kBytes_sg {x : Int64} : ∀ (j : Nat) (l : List Int32), kSigns l → (∀ i, i < j → ∃ c : Nat, 33 ≤ c ∧ c ≤ 126 ∧ kByte x i = nI c) → kSigns (kBytes x j l)
  | 0, l, h, _ => h
  | j + 1, l, h, hb => by
    rw [kBytes]
    refine kBytes_sg j _ (fun v hv => ?_) (fun i hi => hb i (by omega))
    rcases List.mem_append.mp hv with q | q
    · exact h v q
    · rw [List.mem_singleton.mp q]; exact hb j (by omega)
theorem kSigns_app {x : Int64} {l : List Int32} (h : kSigns l) : kSigns (kBytes x (kSig 8 x 0) l) := kBytes_sg _ _ h (fun i hi => by
  have h1 := kSig_le 8 x 0
  have h2 := kSig_bytes 8 x 0 i (by omega)
  exact ⟨_, h2.1, h2.2, kByte_n (by omega)⟩)
theorem kSig_stop {x : Int64} {f a : Nat} (h : kIn (x &&& 255) 33 126 = 0) : kSig (f + 1) x a = if x = 0 then a else 0 := by
  rw [kSig]
  by_cases h0 : x = 0
  · rw [if_pos h0, if_pos h0]
  · rw [if_neg h0, if_neg h0]
    by_cases h1 : x &&& 255 < 33
    · rw [if_pos h1]
    · rw [if_neg h1]
      by_cases h2 : 126 < x &&& 255
      · rw [if_pos h2]
      · unfold kIn at h
        rw [if_neg h1, if_pos (Int64.not_lt.mp h2)] at h
        exact absurd h (by decide)
theorem kSig_go {x : Int64} {f a : Nat} (h : ¬ kIn (x &&& 255) 33 126 = 0) : kSig (f + 1) x a = kSig f (kShr x (nI 8)) (a + 1) := by
  unfold kIn at h
  have h1 : ¬ x &&& 255 < 33 := fun q => by rw [if_pos q] at h; exact absurd rfl h
  have h2 : ¬ 126 < x &&& 255 := fun q => by rw [if_neg h1, if_neg (Int64.not_le.mpr q)] at h; exact absurd rfl h
  have h0 : ¬ x = 0 := fun q => h1 (by rw [q]; decide)
  rw [kSig, if_neg h0, if_neg h1, if_neg h2]
theorem kT_step {t p n : Nat} (h : t * p < n) : t / 256 * (p * 256) < n := by
  have h1 := Nat.div_mul_le_self t 256
  have h2 : t / 256 * (p * 256) = t / 256 * 256 * p := by rw [Nat.mul_comm p, Nat.mul_assoc]
  rw [h2]
  exact Nat.lt_of_le_of_lt (Nat.mul_le_mul_right p h1) h
/-! THE MODEL: put, wipe, its making -/
set_option maxRecDepth 100000 in
set_option maxHeartbeats 4000000 in
theorem c_Model_charactersOf {g : ks_G} {h : ks_H} {x : Int64} : ks_Met g (yX7_charactersOf, cX7_charactersOf, 5, some .int) 1 0 0 [.long x] h (ks_Pi (nI (kSig 8 x 0)) h) := by
  refine ks_intro (by decide) (Nat.le_of_ble_eq_true rfl) (fun κ hκ hRt => ?_)
  refine ks_cv (ls := [(0, .long x)]) ?_ rfl rfl rfl
  refine ks_lload_n hκ 0 0 dX7_charactersOf_0 rfl ?_
  refine ks_lstore_n hκ 1 2 [(2, _), (0, _)] dX7_charactersOf_1 rfl (by decide) rfl ?_
  refine ks_iconst hκ 2 (nI 0) dX7_charactersOf_2 kq_i0 ?_
  refine ks_istore hκ 3 4 [(4, _), (2, _), (0, _)] dX7_charactersOf_3 (by decide) rfl ?_
  have L5 : ∀ (fuel : Nat) (vn : Nat) (xl : Int64) (hvn : vn ≤ 8) (hinv : kSig (8 - vn) xl vn = kSig 8 x 0) (hT : kT xl * 256 ^ vn < 2 ^ 64) (hfuel : 8 - vn < fuel), ks_K κ g 5 h 0 0 5 [(0, .long x), (2, .long xl), (4, .int (nI vn))] [] := by
    intro fuel
    induction fuel with
    | zero => intro vn xl  hvn hinv hT hfuel; exact absurd hfuel (Nat.not_lt_zero _)
    | succ fuel ih =>
      intro vn xl  hvn hinv hT hfuel
      refine ks_iload hκ 5 2 dX7_charactersOf_5 rfl ?_
      refine ks_bipush hκ 7 (nI 8) dX7_charactersOf_7 kq_b8 ?_
      refine ks_icmp_ge hκ 9 40 dX7_charactersOf_9 rfl (fun c9 => ?_) (fun c9 => ?_)
      · skip
        have c9 := (nI_leI (by omega) (by omega)).mp c9
        have hv8 : vn = 8 := by omega
        have hx0 : xl = 0 := kT_0 (by rw [hv8] at hT; omega)
        refine ks_lload_n hκ 40 1 dX7_charactersOf_40 rfl ?_
        refine ks_lconst hκ 41 0 dX7_charactersOf_41 rfl ?_
        refine ks_lcmp hκ 42 dX7_charactersOf_42 ?_
        refine ks_if_ne hκ 43 51 dX7_charactersOf_43 rfl (fun c43 => ?_) (fun c43 => ?_)
        · skip
          have c43 := mt (lg_cmp_eq _ _).mpr c43
          refine ks_iconst hκ 51 (nI 0) dX7_charactersOf_51 kq_i0 ?_
          refine ks_iret hκ 52 hRt dX7_charactersOf_52 (by decide) (by decide) rfl ?_
          refine ⟨?_, rfl⟩
          first
          | exact absurd hx0 c43
          | (rw [if_neg c43] at hinv; rw [← hinv])
          | (rw [if_pos c43] at hinv; rw [← hinv])
          | (rw [← hinv, hv8]; rfl)
        · skip
          have c43 := (lg_cmp_eq _ _).mp c43
          refine ks_iload hκ 46 2 dX7_charactersOf_46 rfl ?_
          refine ks_goto hκ 48 52 dX7_charactersOf_48 rfl ?_
          refine ks_iret hκ 52 hRt dX7_charactersOf_52 (by decide) (by decide) rfl ?_
          refine ⟨?_, rfl⟩
          first
          | exact absurd hx0 c43
          | (rw [if_neg c43] at hinv; rw [← hinv])
          | (rw [if_pos c43] at hinv; rw [← hinv])
          | (rw [← hinv, hv8]; rfl)
      · skip
        have c9 := mt (nI_leI (by omega) (by omega)).mpr c9
        refine ks_lload_n hκ 12 1 dX7_charactersOf_12 rfl ?_
        refine ks_ldc2 hκ 13 _ dX7_charactersOf_13 kl_X7_201 ?_
        refine ks_land hκ 16 dX7_charactersOf_16 ?_
        refine ks_ldc2 hκ 17 _ dX7_charactersOf_17 kl_X7_203 ?_
        refine ks_ldc2 hκ 20 _ dX7_charactersOf_20 kl_X7_205 ?_
        refine ks_pureS3 hκ 23 dX7_charactersOf_23 kc_X7_70 (c_Model_in) (by decide) (Nat.le_of_ble_eq_true rfl) (by decide) (by decide) ?_
        refine ks_if_eq hκ 26 40 dX7_charactersOf_26 rfl (fun c26 => ?_) (fun c26 => ?_)
        · skip
          rw [show 8 - vn = 8 - (vn + 1) + 1 by omega, kSig_stop c26] at hinv
          refine ks_lload_n hκ 40 1 dX7_charactersOf_40 rfl ?_
          refine ks_lconst hκ 41 0 dX7_charactersOf_41 rfl ?_
          refine ks_lcmp hκ 42 dX7_charactersOf_42 ?_
          refine ks_if_ne hκ 43 51 dX7_charactersOf_43 rfl (fun c43 => ?_) (fun c43 => ?_)
          · skip
            have c43 := mt (lg_cmp_eq _ _).mpr c43
            refine ks_iconst hκ 51 (nI 0) dX7_charactersOf_51 kq_i0 ?_
            refine ks_iret hκ 52 hRt dX7_charactersOf_52 (by decide) (by decide) rfl ?_
            refine ⟨?_, rfl⟩
            first
            | exact absurd hx0 c43
            | (rw [if_neg c43] at hinv; rw [← hinv])
            | (rw [if_pos c43] at hinv; rw [← hinv])
            | (rw [← hinv, hv8]; rfl)
          · skip
            have c43 := (lg_cmp_eq _ _).mp c43
            refine ks_iload hκ 46 2 dX7_charactersOf_46 rfl ?_
            refine ks_goto hκ 48 52 dX7_charactersOf_48 rfl ?_
            refine ks_iret hκ 52 hRt dX7_charactersOf_52 (by decide) (by decide) rfl ?_
            refine ⟨?_, rfl⟩
            first
            | exact absurd hx0 c43
            | (rw [if_neg c43] at hinv; rw [← hinv])
            | (rw [if_pos c43] at hinv; rw [← hinv])
            | (rw [← hinv, hv8]; rfl)
        · skip
          refine ks_lload_n hκ 29 1 dX7_charactersOf_29 rfl ?_
          refine ks_bipush hκ 30 (nI 8) dX7_charactersOf_30 kq_b8 ?_
          refine ks_lushr hκ 32 dX7_charactersOf_32 ?_
          refine ks_lstore_n hκ 33 2 [(2, _), (0, _), (4, _)] dX7_charactersOf_33 rfl (by decide) rfl ?_
          refine ks_iinc hκ 34 4 2 (nI (vn + 1)) [(4, _), (2, _), (0, _)] dX7_charactersOf_34 rfl (ks_inc1 _) (by decide) rfl ?_
          refine ks_goto hκ 37 5 dX7_charactersOf_37 rfl ?_
          refine ks_pick [2, 1, 0] [(0, _), (2, _), (4, _)] rfl ?_
          exact ks_cv (ih (vn + 1) (kShr xl (nI 8))  (by omega) (by rw [show 8 - vn = 8 - (vn + 1) + 1 by omega, kSig_go c26] at hinv; exact hinv) (by rw [kT_shr (by decide), Nat.pow_succ]; exact kT_step hT) (by omega)) rfl rfl rfl
  refine ks_pick [2, 1, 0] [(0, _), (2, _), (4, _)] rfl ?_
  exact ks_cv (L5 _ 0 _  (Nat.zero_le _) rfl (by rw [Nat.pow_zero, Nat.mul_one]; exact x.toUInt64.toNat_lt) (Nat.lt_succ_self _)) rfl rfl rfl
set_option maxRecDepth 100000 in
set_option maxHeartbeats 4000000 in
theorem c_Model_put {g : ks_G} {h : ks_H} {m : Nat} {σ : kS} {H : List kS} {S : Nat → Option kS} {l : List Int32} {x : Int64} (hmm : kMM g h m σ H S l) : ks_Met g (yX7_put, cX7_put, 5, some .int) 2 0 0 [ks_ref g m, .long x] h (ks_Ph (fun r h' => r = (kApp l x).1 ∧ kMM g h' m σ H S (kApp l x).2 ∧ ks_Fr h h' m (m + 4))) := by
  obtain ⟨f, Z, T, sp, kd, on, tw, bx, hM, hS, hZ, hT, hmd, hH, hHl, hSl, hTO, hll, hch⟩ := hmm
  have hsl := kSig_le 8 x 0
  refine ks_intro (by decide) (Nat.le_of_ble_eq_true rfl) (fun κ hκ hRt => ?_)
  refine ks_cv (ls := [(0, ks_ref g m), (1, .long x)]) ?_ rfl rfl rfl
  have hF : ks_Fr h h m (m + 4) := ks_Fr.rf
  refine ks_lload_n hκ 0 1 dX7_put_0 rfl ?_
  refine ks_pureS1 hκ 1 dX7_put_1 kc_X7_207 (c_Model_charactersOf) (by decide) (Nat.le_of_ble_eq_true rfl) (by decide) (by decide) ?_
  refine ks_istore_n hκ 4 3 [(3, _), (0, _), (1, _)] dX7_put_4 rfl (by decide) rfl ?_
  refine ks_iload_n hκ 5 0 dX7_put_5 rfl ?_
  refine ks_if_ne hκ 6 12 dX7_put_6 rfl (fun c6 => ?_) (fun c6 => ?_)
  · skip
    have c6 := mt (ks_eq0 (by omega)).mpr c6
    refine ks_aload_n hκ 12 1 dX7_put_12 rfl ?_
    refine ks_get hκ 13 dX7_put_13 kf_X7_193 hM rfl ?_
    refine ks_iload_n hκ 16 0 dX7_put_16 rfl ?_
    refine ks_iaddN hκ 17 dX7_put_17 ?_
    refine ks_bipush hκ 18 (nI 80) dX7_put_18 kq_b80 ?_
    refine ks_icmp_le hκ 20 26 dX7_put_20 rfl (fun c20 => ?_) (fun c20 => ?_)
    · skip
      have c20 := (nI_leI (by omega) (by omega)).mp c20
      refine ks_iconst hκ 26 (nI 0) dX7_put_26 kq_i0 ?_
      refine ks_istore hκ 27 4 [(4, _), (3, _), (0, _), (1, _)] dX7_put_27 (by decide) rfl ?_
      have L29 : ∀ (fuel : Nat) (vk : Nat) (T1 : Nat → Int32) (l1 : List Int32) (hh : ks_H) (hM : hh[m]? = some (ks_O 7 [ks_ref g (m + 1), .int (nI H.length), ks_ref g (m + 2), ks_ref g (m + 3), .int (nI l.length), .int sp, .int kd, .int on, .int tw, .int bx])) (hS : hh[m + 1]? = some (ks_I g 3400 f)) (hZ : hh[m + 2]? = some (ks_Z g 2 Z)) (hT : hh[m + 3]? = some (ks_I g 80 T1)) (hF : ks_Fr h hh m (m + 4)) (hvk : vk ≤ kSig 8 x 0) (hTO1 : kTO T1 l1) (hl1 : l1.length = l.length + vk) (hinv : kBytes x (kSig 8 x 0 - vk) l1 = kBytes x (kSig 8 x 0) l) (hfuel : kSig 8 x 0 - vk < fuel), ks_K κ g 5 hh 0 0 29 [(0, ks_ref g m), (1, .long x), (3, .int (nI (kSig 8 x 0))), (4, .int (nI vk))] [] := by
        intro fuel
        induction fuel with
        | zero => intro vk T1 l1 hh hM hS hZ hT hF hvk hTO1 hl1 hinv hfuel; exact absurd hfuel (Nat.not_lt_zero _)
        | succ fuel ih =>
          intro vk T1 l1 hh hM hS hZ hT hF hvk hTO1 hl1 hinv hfuel
          refine ks_iload hκ 29 3 dX7_put_29 rfl ?_
          refine ks_iload_n hκ 31 2 dX7_put_31 rfl ?_
          refine ks_icmp_ge hκ 32 69 dX7_put_32 rfl (fun c32 => ?_) (fun c32 => ?_)
          · skip
            have c32 := (nI_leI (by omega) (by omega)).mp c32
            refine ks_aload_n hκ 69 0 dX7_put_69 rfl ?_
            refine ks_dup hκ 70 dX7_put_70 rfl ?_
            refine ks_get hκ 71 dX7_put_71 kf_X7_193 hM rfl ?_
            refine ks_iload_n hκ 74 2 dX7_put_74 rfl ?_
            refine ks_iaddN hκ 75 dX7_put_75 ?_
            refine ks_putS hκ 76 [_, _, _, _, _, _, _, _, _, _] dX7_put_76 kf_X7_193 hM rfl rfl (Nat.le_of_ble_eq_true rfl) rfl ?_
            refine ks_gen (fun xh1 exh1 => ?_)
            replace hM := ks_gs exh1 hM
            replace hS := ks_gn exh1 (ks_nb (b := m) (i := 0) (j := 1) rfl) hS
            replace hZ := ks_gn exh1 (ks_nb (b := m) (i := 0) (j := 2) rfl) hZ
            replace hT := ks_gn exh1 (ks_nb (b := m) (i := 0) (j := 3) rfl) hT
            replace hF := ks_Fr.st hF exh1 (by omega) (by omega)
            clear exh1
            refine ks_aload_n hκ 79 0 dX7_put_79 rfl ?_
            refine ks_get hκ 80 dX7_put_80 kf_X7_193 hM rfl ?_
            refine ks_iret hκ 83 hRt dX7_put_83 (by decide) (by decide) rfl ?_
            have hq : kApp l x = (nI (l.length + kSig 8 x 0), kBytes x (kSig 8 x 0) l) := (if_neg c6).trans (if_neg (by omega))
            rw [hq]
            have hvn : vk = kSig 8 x 0 := by omega
            rw [hvn, Nat.sub_self] at hinv
            have hl2 : l1 = kBytes x (kSig 8 x 0) l := hinv
            have hll2 : (kBytes x (kSig 8 x 0) l).length = l.length + kSig 8 x 0 := kBytes_len _ _ _
            refine ⟨_, rfl, rfl, ⟨f, Z, T1, sp, kd, on, tw, bx, by rw [hll2]; exact hM, hS, hZ, hT, hmd, hH, hHl, hSl, by rw [← hl2]; exact hTO1, by rw [hll2]; omega, kSigns_app hch⟩, hF⟩
          · skip
            have c32 := mt (nI_leI (by omega) (by omega)).mpr c32
            refine ks_aload_n hκ 35 0 dX7_put_35 rfl ?_
            refine ks_get hκ 36 dX7_put_36 kf_X7_17 hM rfl ?_
            refine ks_aload_n hκ 39 0 dX7_put_39 rfl ?_
            refine ks_get hκ 40 dX7_put_40 kf_X7_193 hM rfl ?_
            refine ks_iload hκ 43 3 dX7_put_43 rfl ?_
            refine ks_iaddN hκ 45 dX7_put_45 ?_
            refine ks_top (nI l1.length) (by rw [hl1]) ?_
            refine ks_lload_n hκ 46 1 dX7_put_46 rfl ?_
            refine ks_bipush hκ 47 (nI 8) dX7_put_47 kq_b8 ?_
            refine ks_iload_n hκ 49 2 dX7_put_49 rfl ?_
            refine ks_iconst hκ 50 (nI 1) dX7_put_50 kq_i1 ?_
            refine ks_isubN hκ 51 dX7_put_51 (by omega) ?_
            refine ks_iload hκ 52 3 dX7_put_52 rfl ?_
            refine ks_isubN hκ 54 dX7_put_54 (by omega) ?_
            refine ks_imulN hκ 55 dX7_put_55 ?_
            refine ks_lushr hκ 56 dX7_put_56 ?_
            refine ks_ldc2 hκ 57 _ dX7_put_57 kl_X7_201 ?_
            refine ks_land hκ 60 dX7_put_60 ?_
            refine ks_l2i hκ 61 dX7_put_61 ?_
            refine ks_iast hκ 62 (l1.length) dX7_put_62 hT rfl (by omega) (by decide) ?_
            refine ks_gen (fun xh2 exh2 => ?_)
            replace hM := ks_gn exh2 (ks_nb (b := m) (i := 3) (j := 0) rfl) hM
            replace hS := ks_gn exh2 (ks_nb (b := m) (i := 3) (j := 1) rfl) hS
            replace hZ := ks_gn exh2 (ks_nb (b := m) (i := 3) (j := 2) rfl) hZ
            replace hT := ks_gs exh2 hT
            replace hF := ks_Fr.st hF exh2 (by omega) (by omega)
            clear exh2
            refine ks_iinc hκ 63 4 3 (nI (vk + 1)) [(4, _), (0, _), (1, _), (3, _)] dX7_put_63 rfl (ks_inc1 _) (by decide) rfl ?_
            refine ks_goto hκ 66 29 dX7_put_66 rfl ?_
            refine ks_pick [1, 2, 3, 0] [(0, _), (1, _), (3, _), (4, _)] rfl ?_
            exact ks_cv (ih (vk + 1) _ (l1 ++ [kByte x (kSig 8 x 0 - 1 - vk)]) xh2 hM hS hZ hT hF (by omega) hTO1.snoc (by rw [List.length_append, hl1]; rfl) (by rw [show kSig 8 x 0 - vk = kSig 8 x 0 - 1 - vk + 1 by omega, kBytes] at hinv; rw [show kSig 8 x 0 - (vk + 1) = kSig 8 x 0 - 1 - vk by omega]; exact hinv) (by omega)) rfl rfl rfl
      refine ks_pick [2, 3, 1, 0] [(0, _), (1, _), (3, _), (4, _)] rfl ?_
      exact ks_cv (L29 _ 0 _ l h hM hS hZ hT hF (Nat.zero_le _) hTO rfl rfl (Nat.lt_succ_self _)) rfl rfl rfl
    · skip
      have c20 := mt (nI_leI (by omega) (by omega)).mpr c20
      refine ks_bipush hκ 23 (-4) dX7_put_23 kq_bm4 ?_
      refine ks_iret hκ 25 hRt dX7_put_25 (by decide) (by decide) rfl ?_
      have hq : kApp l x = (-4, l) := (if_neg c6).trans (if_pos (by omega))
      rw [hq]
      exact ⟨_, rfl, rfl, ⟨f, Z, T, sp, kd, on, tw, bx, hM, hS, hZ, hT, hmd, hH, hHl, hSl, hTO, hll, hch⟩, hF⟩
  · skip
    have c6 := (ks_eq0 (by omega)).mp c6
    refine ks_bipush hκ 9 (-2) dX7_put_9 kq_bm2 ?_
    refine ks_iret hκ 11 hRt dX7_put_11 (by decide) (by decide) rfl ?_
    have hq : kApp l x = (-2, l) := if_pos c6
    rw [hq]
    exact ⟨_, rfl, rfl, ⟨f, Z, T, sp, kd, on, tw, bx, hM, hS, hZ, hT, hmd, hH, hHl, hSl, hTO, hll, hch⟩, hF⟩
set_option maxRecDepth 100000 in
set_option maxHeartbeats 4000000 in
theorem c_Model_wipe {g : ks_G} {h : ks_H} {m : Nat} {σ : kS} {H : List kS} {S : Nat → Option kS} {l : List Int32} (hmm : kMM g h m σ H S l) : ks_Met g (yX7_wipe, cX7_wipe, 2, some .int) 0 0 0 [ks_ref g m] h (ks_Ph (fun r h' => r = nI l.length ∧ kMM g h' m σ H S [] ∧ ks_Fr h h' m (m + 4))) := by
  obtain ⟨f, Z, T, sp, kd, on, tw, bx, hM, hS, hZ, hT, hmd, hH, hHl, hSl, hTO, hll, hch⟩ := hmm
  refine ks_intro (by decide) (Nat.le_of_ble_eq_true rfl) (fun κ hκ hRt => ?_)
  refine ks_cv (ls := [(0, ks_ref g m)]) ?_ rfl rfl rfl
  have hF : ks_Fr h h m (m + 4) := ks_Fr.rf
  refine ks_aload_n hκ 0 0 dX7_wipe_0 rfl ?_
  refine ks_get hκ 1 dX7_wipe_1 kf_X7_193 hM rfl ?_
  refine ks_istore_n hκ 4 1 [(1, _), (0, _)] dX7_wipe_4 rfl (by decide) rfl ?_
  refine ks_aload_n hκ 5 1 dX7_wipe_5 rfl ?_
  refine ks_iconst hκ 6 (nI 0) dX7_wipe_6 kq_i0 ?_
  refine ks_putS hκ 7 [_, _, _, _, _, _, _, _, _, _] dX7_wipe_7 kf_X7_193 hM rfl rfl (Nat.le_of_ble_eq_true rfl) rfl ?_
  refine ks_gen (fun xh1 exh1 => ?_)
  replace hM := ks_gs exh1 hM
  replace hS := ks_gn exh1 (ks_nb (b := m) (i := 0) (j := 1) rfl) hS
  replace hZ := ks_gn exh1 (ks_nb (b := m) (i := 0) (j := 2) rfl) hZ
  replace hT := ks_gn exh1 (ks_nb (b := m) (i := 0) (j := 3) rfl) hT
  replace hF := ks_Fr.st hF exh1 (by omega) (by omega)
  clear exh1
  refine ks_iload_n hκ 10 0 dX7_wipe_10 rfl ?_
  refine ks_iret hκ 11 hRt dX7_wipe_11 (by decide) (by decide) rfl ?_
  exact ⟨_, rfl, rfl, ⟨f, Z, T, sp, kd, on, tw, bx, hM, hS, hZ, hT, hmd, hH, hHl, hSl, fun i v hi => by simp at hi, Nat.zero_le _, fun v hv => by simp at hv⟩, hF⟩
set_option maxRecDepth 100000 in
set_option maxHeartbeats 4000000 in
theorem c_Model_init {g : ks_G} {h : ks_H} {m : Nat} (hM : h[m]? = some (ks_O 7 [.null, .int 0, .null, .null, .int 0, .int 0, .int 0, .int 0, .int 0, .int 0])) (hlen : h.length = m + 1) : ks_Met g (yX7_init, cX7_init, 1, none) 1 3 3482 [ks_ref g m] h (ks_Pv (fun h' => kMM g h' m kNew [] (fun _ => none) [] ∧ ks_Ex h h' m ∧ h'.length = m + 4)) := by
  refine ks_intro (by decide) (Nat.le_of_ble_eq_true rfl) (fun κ hκ hRt => ?_)
  refine ks_cv (ls := [(0, ks_ref g m)]) ?_ rfl rfl rfl
  have hX : ks_Ex h h m := ks_Ex.rf
  refine ks_aload_n hκ 0 0 dX7_init_0 rfl ?_
  refine ks_objInit hκ 1 dX7_init_1 kj_X7_1 ku_oi ku_oc (by decide) (Nat.le_of_ble_eq_true rfl) ?_
  refine ks_aload_n hκ 4 0 dX7_init_4 rfl ?_
  refine ks_sipush hκ 5 (nI 3400) dX7_init_5 kq_s3400 ?_
  refine ks_newiB hκ 8 hlen dX7_init_8 (by decide) (by decide) (by decide) (fun xh1 exh1 => ?_)
  replace hM := ks_gb exh1 hM
  have hS := ks_ga exh1 hlen
  replace hX := ks_Ex.ps hX exh1 (by omega)
  replace hlen := ks_gl exh1 hlen
  clear exh1
  refine ks_putT hκ 10 [_, _, _, _, _, _, _, _, _, _] dX7_init_10 rfl kf_X7_7 hM rfl rfl (Nat.le_of_ble_eq_true rfl) rfl ?_
  refine ks_gen (fun xh2 exh2 => ?_)
  replace hM := ks_gs exh2 hM
  replace hS := ks_gn exh2 (ks_nb (b := m) (i := 0) (j := 1) rfl) hS
  replace hX := ks_Ex.st hX exh2 (by omega)
  replace hlen := ks_gz exh2 hlen
  clear exh2
  refine ks_aload_n hκ 13 0 dX7_init_13 rfl ?_
  refine ks_iconst hκ 14 (nI 2) dX7_init_14 kq_i2 ?_
  refine ks_newzB hκ 15 hlen dX7_init_15 (by decide) (by decide) (by decide) (fun xh3 exh3 => ?_)
  replace hM := ks_gb exh3 hM
  replace hS := ks_gb exh3 hS
  have hZ := ks_ga exh3 hlen
  replace hX := ks_Ex.ps hX exh3 (by omega)
  replace hlen := ks_gl exh3 hlen
  clear exh3
  refine ks_putT hκ 17 [_, _, _, _, _, _, _, _, _, _] dX7_init_17 rfl kf_X7_13 hM rfl rfl (Nat.le_of_ble_eq_true rfl) rfl ?_
  refine ks_gen (fun xh4 exh4 => ?_)
  replace hM := ks_gs exh4 hM
  replace hS := ks_gn exh4 (ks_nb (b := m) (i := 0) (j := 1) rfl) hS
  replace hZ := ks_gn exh4 (ks_nb (b := m) (i := 0) (j := 2) rfl) hZ
  replace hX := ks_Ex.st hX exh4 (by omega)
  replace hlen := ks_gz exh4 hlen
  clear exh4
  refine ks_aload_n hκ 20 0 dX7_init_20 rfl ?_
  refine ks_bipush hκ 21 (nI 80) dX7_init_21 kq_b80 ?_
  refine ks_newiB hκ 23 hlen dX7_init_23 (by decide) (by decide) (by decide) (fun xh5 exh5 => ?_)
  replace hM := ks_gb exh5 hM
  replace hS := ks_gb exh5 hS
  replace hZ := ks_gb exh5 hZ
  have hT := ks_ga exh5 hlen
  replace hX := ks_Ex.ps hX exh5 (by omega)
  replace hlen := ks_gl exh5 hlen
  clear exh5
  refine ks_putT hκ 25 [_, _, _, _, _, _, _, _, _, _] dX7_init_25 rfl kf_X7_17 hM rfl rfl (Nat.le_of_ble_eq_true rfl) rfl ?_
  refine ks_gen (fun xh6 exh6 => ?_)
  replace hM := ks_gs exh6 hM
  replace hS := ks_gn exh6 (ks_nb (b := m) (i := 0) (j := 1) rfl) hS
  replace hZ := ks_gn exh6 (ks_nb (b := m) (i := 0) (j := 2) rfl) hZ
  replace hT := ks_gn exh6 (ks_nb (b := m) (i := 0) (j := 3) rfl) hT
  replace hX := ks_Ex.st hX exh6 (by omega)
  replace hlen := ks_gz exh6 hlen
  clear exh6
  refine ks_aload_n hκ 28 0 dX7_init_28 rfl ?_
  refine ks_get hκ 29 dX7_init_29 kf_X7_7 hM rfl ?_
  refine ks_iconst hκ 32 (nI 0) dX7_init_32 kq_i0 ?_
  refine ks_iconst hκ 33 (nI 3) dX7_init_33 kq_i3 ?_
  refine ks_iast hκ 34 (0) dX7_init_34 hS rfl (by omega) (by decide) ?_
  refine ks_gen (fun xh7 exh7 => ?_)
  replace hM := ks_gn exh7 (ks_nb (b := m) (i := 1) (j := 0) rfl) hM
  replace hS := ks_gs exh7 hS
  replace hZ := ks_gn exh7 (ks_nb (b := m) (i := 1) (j := 2) rfl) hZ
  replace hT := ks_gn exh7 (ks_nb (b := m) (i := 1) (j := 3) rfl) hT
  replace hX := ks_Ex.st hX exh7 (by omega)
  replace hlen := ks_gz exh7 hlen
  clear exh7
  refine ks_aload_n hκ 35 0 dX7_init_35 rfl ?_
  refine ks_get hκ 36 dX7_init_36 kf_X7_7 hM rfl ?_
  refine ks_iconst hκ 39 (nI 1) dX7_init_39 kq_i1 ?_
  refine ks_iconst hκ 40 (nI 4) dX7_init_40 kq_i4 ?_
  refine ks_iast hκ 41 (1) dX7_init_41 hS rfl (by omega) (by decide) ?_
  refine ks_gen (fun xh8 exh8 => ?_)
  replace hM := ks_gn exh8 (ks_nb (b := m) (i := 1) (j := 0) rfl) hM
  replace hS := ks_gs exh8 hS
  replace hZ := ks_gn exh8 (ks_nb (b := m) (i := 1) (j := 2) rfl) hZ
  replace hT := ks_gn exh8 (ks_nb (b := m) (i := 1) (j := 3) rfl) hT
  replace hX := ks_Ex.st hX exh8 (by omega)
  replace hlen := ks_gz exh8 hlen
  clear exh8
  refine ks_aload_n hκ 42 0 dX7_init_42 rfl ?_
  refine ks_get hκ 43 dX7_init_43 kf_X7_7 hM rfl ?_
  refine ks_iconst hκ 46 (nI 2) dX7_init_46 kq_i2 ?_
  refine ks_iconst hκ 47 (nI 5) dX7_init_47 kq_i5 ?_
  refine ks_iast hκ 48 (2) dX7_init_48 hS rfl (by omega) (by decide) ?_
  refine ks_gen (fun xh9 exh9 => ?_)
  replace hM := ks_gn exh9 (ks_nb (b := m) (i := 1) (j := 0) rfl) hM
  replace hS := ks_gs exh9 hS
  replace hZ := ks_gn exh9 (ks_nb (b := m) (i := 1) (j := 2) rfl) hZ
  replace hT := ks_gn exh9 (ks_nb (b := m) (i := 1) (j := 3) rfl) hT
  replace hX := ks_Ex.st hX exh9 (by omega)
  replace hlen := ks_gz exh9 hlen
  clear exh9
  refine ks_aload_n hκ 49 0 dX7_init_49 rfl ?_
  refine ks_get hκ 50 dX7_init_50 kf_X7_7 hM rfl ?_
  refine ks_iconst hκ 53 (nI 3) dX7_init_53 kq_i3 ?_
  refine ks_bipush hκ 54 (nI 14) dX7_init_54 kq_b14 ?_
  refine ks_iast hκ 56 (3) dX7_init_56 hS rfl (by omega) (by decide) ?_
  refine ks_gen (fun xh10 exh10 => ?_)
  replace hM := ks_gn exh10 (ks_nb (b := m) (i := 1) (j := 0) rfl) hM
  replace hS := ks_gs exh10 hS
  replace hZ := ks_gn exh10 (ks_nb (b := m) (i := 1) (j := 2) rfl) hZ
  replace hT := ks_gn exh10 (ks_nb (b := m) (i := 1) (j := 3) rfl) hT
  replace hX := ks_Ex.st hX exh10 (by omega)
  replace hlen := ks_gz exh10 hlen
  clear exh10
  refine ks_vret hκ 57 hRt dX7_init_57 (by decide) (by decide) ?_
  refine ⟨rfl, ⟨_, _, _, 0, 0, 0, 0, 0, hM, hS, hZ, hT, ?_, fun i x hi => by simp at hi, Nat.zero_le _, fun s hs => Or.inl ⟨rfl, rfl⟩, fun i v hi => by simp at hi, Nat.zero_le _, fun v hv => by simp at hv⟩, hX, hlen⟩
  refine ⟨fun j hj => ?_, rfl, rfl, rfl, rfl, rfl, rfl, fun k c hk => absurd hk (Nat.not_lt_zero k), fun r t k y hr => by simp [kNew] at hr, fun i e w hi => by simp [kNew] at hi, Nat.zero_le _, Nat.zero_le _, Nat.zero_le _, fun p hp => by simp [kNew] at hp, fun p hp => by simp [kNew] at hp⟩
  rcases (show j = 0 ∨ j = 1 ∨ j = 2 ∨ j = 3 by omega) with rfl | rfl | rfl | rfl <;> rfl
