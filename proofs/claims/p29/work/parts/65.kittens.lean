
/-! P29: kittens -/
theorem l_onesX {g : ks_G} {h : ks_H} {x : Int32} (hx : x &&& nI 32767 = x) : ks_Met g (yL_ones, cL_ones, 3, some .int) 0 0 0 [.int x] h (ks_Pi (nI (q9Bn x 15)) h) := by
  obtain ⟨m, hm, rfl⟩ := q9Small hx
  rw [← q9Bn_m]
  exact l_ones hm
theorem q9or0 {x : Int32} : x ||| nI 0 = x := kbt_ext (fun e _ => by rw [kbt_or, kbt_0, Bool.or_false])
theorem q9Nap_s {kf : Nat → Nat → Int32} {k : Nat} : (List.range (k + 1)).foldl (kNapS kf) (nI 0) = (List.range k).foldl (kNapS kf) (nI 0) ||| (if kf 2 k = -6 then nI 0 else kBit k) := by
  rw [List.range_succ, List.foldl_append, List.foldl_cons, List.foldl_nil]
  generalize (List.range k).foldl (kNapS kf) (nI 0) = a
  unfold kNapS kNaps
  by_cases h : kf 2 k = -6
  · rw [if_pos h, if_pos h, if_pos (show nI 0 = 0 from rfl), q9or0]
  · rw [if_neg h, if_neg h, if_neg (show ¬ nI 1 = 0 by decide)]
theorem q9OnS_s {σ : kS} {k : Nat} (hki : σ.2.2.1 ≤ 6) : (List.range (k + 1)).foldl (kOnS σ) 0 = (List.range k).foldl (kOnS σ) 0 + q9Bn (kBSet σ k) 15 := by
  rw [List.range_succ, List.foldl_append, List.foldl_cons, List.foldl_nil]
  show _ + kOnes (kBSet σ k) = _
  rw [q9Ones (q9BSet_mask hki)]
theorem q9OnS_le {σ : kS} (hki : σ.2.2.1 ≤ 6) : ∀ n, (List.range n).foldl (kOnS σ) 0 ≤ 15 * n
  | 0 => Nat.le_refl _
  | n + 1 => by
    have h1 := q9OnS_le hki n
    have h2 := q9Bn_le (kBSet σ n) 15
    rw [q9OnS_s hki]
    omega
theorem q9Bit {σ : kS} {k m : Nat} (hki : σ.2.2.1 ≤ 6) (hm : m < σ.2.2.1) (hmk : m ≠ k) : (kBSet σ k >>> (nI m &&& 31)) &&& nI 1 = nI 1 ↔ ¬ kBes k m σ.2.2.2.2.2.2.1 = 0 := by
  rw [kbt_sh (by omega), kBSet_bit (by omega) hki, decide_eq_true hm, decide_eq_true hmk, Bool.true_and, Bool.true_and, decide_eq_true_eq]
set_option maxRecDepth 100000 in
set_option maxHeartbeats 4000000 in
theorem l_kittens {g : ks_G} {h : ks_H} {σ : kS} {H : List kS} (hks : q9K g h σ H) (hJ : q9J σ) : ks_Met g (yL_kittens, cL_kittens, 10, some .boolean) 6 0 0 [ks_ref g 0] h (ks_Pi (nI 1) h) := by
  refine ks_intro (by decide) (Nat.le_of_ble_eq_true rfl) (fun κ hκ hRt => ?_)
  refine ks_cv (ls := [(0, ks_ref g 0)]) ?_ rfl rfl rfl
  have hX0 := hks.ob
  have hki : σ.2.2.1 ≤ 6 := hJ.1.2.2.2.2.2
  obtain ⟨n0, hn0, hn0e⟩ := hJ.1.1.2
  obtain ⟨hyl, hye⟩ := hks.yarn
  refine ks_aload_n hκ 0 0 dL_kittens_0 rfl ?_
  refine ks_iconst hκ 1 (nI 1) dL_kittens_1 kq_i1 ?_
  refine ks_pureV1 hκ 2 dL_kittens_2 kc_L_10 (w_count hks (by decide) (nI σ.2.2.1) rfl) hX0 rfl (by decide) (Nat.le_of_ble_eq_true rfl) (by decide) (by decide) ?_
  refine ks_istore_n hκ 5 1 [(1, _), (0, _)] dL_kittens_5 rfl (by decide) rfl ?_
  refine ks_iconst hκ 6 (nI 0) dL_kittens_6 kq_i0 ?_
  refine ks_istore_n hκ 7 2 [(2, _), (1, _), (0, _)] dL_kittens_7 rfl (by decide) rfl ?_
  refine ks_iconst hκ 8 (nI 0) dL_kittens_8 kq_i0 ?_
  refine ks_istore_n hκ 9 3 [(3, _), (2, _), (1, _), (0, _)] dL_kittens_9 rfl (by decide) rfl ?_
  refine ks_iconst hκ 10 (nI 0) dL_kittens_10 kq_i0 ?_
  refine ks_istore hκ 11 4 [(4, _), (3, _), (2, _), (1, _), (0, _)] dL_kittens_11 (by decide) rfl ?_
  refine ks_iconst hκ 13 (nI 0) dL_kittens_13 kq_i0 ?_
  refine ks_istore hκ 14 5 [(5, _), (4, _), (3, _), (2, _), (1, _), (0, _)] dL_kittens_14 (by decide) rfl ?_
  refine ks_iconst hκ 16 (nI 0) dL_kittens_16 kq_i0 ?_
  refine ks_istore hκ 17 6 [(6, _), (5, _), (4, _), (3, _), (2, _), (1, _), (0, _)] dL_kittens_17 (by decide) rfl ?_
  refine ks_iconst hκ 19 (nI 0) dL_kittens_19 kq_i0 ?_
  refine ks_istore hκ 20 7 [(7, _), (6, _), (5, _), (4, _), (3, _), (2, _), (1, _), (0, _)] dL_kittens_20 (by decide) rfl ?_
  refine ks_iconst hκ 22 (nI 0) dL_kittens_22 kq_i0 ?_
  refine ks_istore hκ 23 8 [(8, _), (7, _), (6, _), (5, _), (4, _), (3, _), (2, _), (1, _), (0, _)] dL_kittens_23 (by decide) rfl ?_
  have L25 : ∀ (fuel : Nat) (vk : Nat) (hk : vk ≤ σ.2.2.1) (hfuel : σ.2.2.1 - vk < fuel), ks_K κ g 10 h 0 0 25 [(0, ks_ref g 0), (1, .int (nI σ.2.2.1)), (2, .int (nI (kCnt vk σ.2.2.2.2.2.2.1))), (3, .int (kSum vk (σ.2.2.2.2.2.1 4))), (4, .int (kSum vk (σ.2.2.2.2.2.1 5))), (5, .int (kSum vk (σ.2.2.2.2.2.1 6))), (6, .int ((List.range vk).foldl (kNapS σ.2.2.2.2.2.1) (nI 0))), (7, .int (nI ((List.range vk).foldl (kOnS σ) 0))), (8, .int (nI vk))] [] := by
    intro fuel
    induction fuel with
    | zero => intro vk  hk hfuel; exact absurd hfuel (Nat.not_lt_zero _)
    | succ fuel ih =>
      intro vk  hk hfuel
      refine ks_iload hκ 25 8 dL_kittens_25 rfl ?_
      refine ks_iload_n hκ 27 1 dL_kittens_27 rfl ?_
      refine ks_icmp_ge hκ 28 399 dL_kittens_28 rfl (fun c28 => ?_) (fun c28 => ?_)
      · skip
        have c28 := (nI_leI (by omega) (by omega)).mp c28
        have hvk : vk = σ.2.2.1 := by omega
        subst hvk
        have hcl : σ.2.2.2.2.2.2.1.length = kCnt σ.2.2.1 σ.2.2.2.2.2.2.1 := kLen_cnt _ hJ.1.2.1.2
        have hpr : (List.range σ.2.2.1).foldl (kOnS σ) 0 = 2 * kPairs σ (nI 32767) := kPairs_2 hki hye
        have hpl := q9OnS_le hki (σ := σ) σ.2.2.1
        refine ks_aload_n hκ 399 0 dL_kittens_399 rfl ?_
        refine ks_iconst hκ 400 (nI 3) dL_kittens_400 kq_i3 ?_
        refine ks_pureV1 hκ 401 dL_kittens_401 kc_L_10 (w_count hks (by decide) (nI σ.2.2.2.2.2.2.1.length) rfl) hX0 rfl (by decide) (Nat.le_of_ble_eq_true rfl) (by decide) (by decide) ?_
        refine ks_iload_n hκ 404 2 dL_kittens_404 rfl ?_
        refine ks_icmp_ne hκ 405 475 dL_kittens_405 rfl (fun c405 => ?_) (fun c405 => ?_)
        · exfalso
          have c405 := mt (nI_eq (by omega) (by omega)).mpr c405
          omega
        · skip
          have c405 := (nI_eq (by omega) (by omega)).mp c405
          refine ks_aload_n hκ 408 0 dL_kittens_408 rfl ?_
          refine ks_iconst hκ 409 (nI 4) dL_kittens_409 kq_i4 ?_
          refine ks_pureV1 hκ 410 dL_kittens_410 kc_L_10 (w_count hks (by decide) (kSum σ.2.2.1 (σ.2.2.2.2.2.1 4)) rfl) hX0 rfl (by decide) (Nat.le_of_ble_eq_true rfl) (by decide) (by decide) ?_
          refine ks_iload_n hκ 413 3 dL_kittens_413 rfl ?_
          refine ks_icmp_ne hκ 414 475 dL_kittens_414 rfl (fun c414 => ?_) (fun c414 => ?_)
          · exfalso
            exact c414 rfl
          · skip
            refine ks_aload_n hκ 417 0 dL_kittens_417 rfl ?_
            refine ks_iconst hκ 418 (nI 5) dL_kittens_418 kq_i5 ?_
            refine ks_pureV1 hκ 419 dL_kittens_419 kc_L_10 (w_count hks (by decide) (kSum σ.2.2.1 (σ.2.2.2.2.2.1 5)) rfl) hX0 rfl (by decide) (Nat.le_of_ble_eq_true rfl) (by decide) (by decide) ?_
            refine ks_iload hκ 422 4 dL_kittens_422 rfl ?_
            refine ks_icmp_ne hκ 424 475 dL_kittens_424 rfl (fun c424 => ?_) (fun c424 => ?_)
            · exfalso
              exact c424 rfl
            · skip
              refine ks_aload_n hκ 427 0 dL_kittens_427 rfl ?_
              refine ks_bipush hκ 428 (nI 6) dL_kittens_428 kq_b6 ?_
              refine ks_pureV1 hκ 430 dL_kittens_430 kc_L_10 (w_count hks (by decide) (kSum σ.2.2.1 (σ.2.2.2.2.2.1 6)) rfl) hX0 rfl (by decide) (Nat.le_of_ble_eq_true rfl) (by decide) (by decide) ?_
              refine ks_iload hκ 433 5 dL_kittens_433 rfl ?_
              refine ks_icmp_ne hκ 435 475 dL_kittens_435 rfl (fun c435 => ?_) (fun c435 => ?_)
              · exfalso
                exact c435 rfl
              · skip
                refine ks_aload_n hκ 438 0 dL_kittens_438 rfl ?_
                refine ks_iconst hκ 439 (nI 2) dL_kittens_439 kq_i2 ?_
                refine ks_pureV1 hκ 440 dL_kittens_440 kc_L_10 (w_count hks (by decide) (kNapSet σ) rfl) hX0 rfl (by decide) (Nat.le_of_ble_eq_true rfl) (by decide) (by decide) ?_
                refine ks_iload hκ 443 6 dL_kittens_443 rfl ?_
                refine ks_icmp_ne hκ 445 475 dL_kittens_445 rfl (fun c445 => ?_) (fun c445 => ?_)
                · exfalso
                  exact c445 rfl
                · skip
                  refine ks_iconst hκ 448 (nI 2) dL_kittens_448 kq_i2 ?_
                  refine ks_aload_n hκ 449 0 dL_kittens_449 rfl ?_
                  refine ks_bipush hκ 450 (nI 7) dL_kittens_450 kq_b7 ?_
                  refine ks_pureV1 hκ 452 dL_kittens_452 kc_L_10 (w_count hks (by decide) (nI (kPairs σ (nI 32767))) rfl) hX0 rfl (by decide) (Nat.le_of_ble_eq_true rfl) (by decide) (by decide) ?_
                  refine ks_imulN hκ 455 dL_kittens_455 ?_
                  refine ks_iload hκ 456 7 dL_kittens_456 rfl ?_
                  refine ks_icmp_ne hκ 458 475 dL_kittens_458 rfl (fun c458 => ?_) (fun c458 => ?_)
                  · exfalso
                    have c458 := mt (nI_eq (by omega) (by omega)).mpr c458
                    omega
                  · skip
                    have c458 := (nI_eq (by omega) (by omega)).mp c458
                    refine ks_aload_n hκ 461 0 dL_kittens_461 rfl ?_
                    refine ks_iload_n hκ 462 1 dL_kittens_462 rfl ?_
                    refine ks_iconst hκ 463 (nI 0) dL_kittens_463 kq_i0 ?_
                    refine ks_pureV2 hκ 464 dL_kittens_464 kc_L_16 (w_ofE hks hJ) hX0 rfl (by decide) (Nat.le_of_ble_eq_true rfl) (by decide) (by decide) ?_
                    refine ks_iconst hκ 467 (-1) dL_kittens_467 kq_im1 ?_
                    refine ks_icmp_ne hκ 468 475 dL_kittens_468 rfl (fun c468 => ?_) (fun c468 => ?_)
                    · exfalso
                      exact c468 rfl
                    · skip
                      refine ks_iconst hκ 471 (nI 1) dL_kittens_471 kq_i1 ?_
                      refine ks_goto hκ 472 476 dL_kittens_472 rfl ?_
                      refine ks_iret hκ 476 hRt dL_kittens_476 (by decide) (by decide) (by decide) ?_
                      exact ⟨rfl, rfl⟩
      · skip
        have c28 := mt (nI_leI (by omega) (by omega)).mpr c28
        obtain ⟨vb, vs, e3, e6, e40, e4⟩ := hJ.2.2.1.1 vk (by omega)
        obtain ⟨vv, hvv, e1⟩ := hJ.2.2.1.2.1 vk (by omega)
        obtain ⟨vst, hvst, e0⟩ := hJ.1.1.1.1 vk (by omega)
        refine ks_iload_n hκ 31 2 dL_kittens_31 rfl ?_
        refine ks_aload_n hκ 32 0 dL_kittens_32 rfl ?_
        refine ks_iload hκ 33 8 dL_kittens_33 rfl ?_
        refine ks_iconst hκ 35 (nI 4) dL_kittens_35 kq_i4 ?_
        refine ks_pureV2 hκ 36 dL_kittens_36 kc_L_16 (w_of hks hJ (k := vk) (by omega) (by decide) (nI (kOf vk σ.2.2.2.2.2.2.1)) rfl) hX0 rfl (by decide) (Nat.le_of_ble_eq_true rfl) (by decide) (by decide) ?_
        refine ks_iaddN hκ 39 dL_kittens_39 ?_
        refine ks_istore_n hκ 40 2 [(2, _), (0, _), (1, _), (3, _), (4, _), (5, _), (6, _), (7, _), (8, _)] dL_kittens_40 rfl (by decide) rfl ?_
        refine ks_iload_n hκ 41 3 dL_kittens_41 rfl ?_
        refine ks_aload_n hκ 42 1 dL_kittens_42 rfl ?_
        refine ks_iload hκ 43 8 dL_kittens_43 rfl ?_
        refine ks_iconst hκ 45 (nI 5) dL_kittens_45 kq_i5 ?_
        refine ks_pureV2 hκ 46 dL_kittens_46 kc_L_16 (w_of hks hJ (k := vk) (by omega) (by decide) (σ.2.2.2.2.2.1 4 vk) rfl) hX0 rfl (by decide) (Nat.le_of_ble_eq_true rfl) (by decide) (by decide) ?_
        refine ks_iadd hκ 49 dL_kittens_49 ?_
        refine ks_istore_n hκ 50 3 [(3, _), (2, _), (0, _), (1, _), (4, _), (5, _), (6, _), (7, _), (8, _)] dL_kittens_50 rfl (by decide) rfl ?_
        refine ks_iload hκ 51 4 dL_kittens_51 rfl ?_
        refine ks_aload_n hκ 53 2 dL_kittens_53 rfl ?_
        refine ks_iload hκ 54 8 dL_kittens_54 rfl ?_
        refine ks_bipush hκ 56 (nI 6) dL_kittens_56 kq_b6 ?_
        refine ks_pureV2 hκ 58 dL_kittens_58 kc_L_16 (w_of hks hJ (k := vk) (by omega) (by decide) (σ.2.2.2.2.2.1 5 vk) rfl) hX0 rfl (by decide) (Nat.le_of_ble_eq_true rfl) (by decide) (by decide) ?_
        refine ks_iadd hκ 61 dL_kittens_61 ?_
        refine ks_istore hκ 62 4 [(4, _), (3, _), (2, _), (0, _), (1, _), (5, _), (6, _), (7, _), (8, _)] dL_kittens_62 (by decide) rfl ?_
        refine ks_iload hκ 64 5 dL_kittens_64 rfl ?_
        refine ks_aload_n hκ 66 3 dL_kittens_66 rfl ?_
        refine ks_iload hκ 67 8 dL_kittens_67 rfl ?_
        refine ks_bipush hκ 69 (nI 7) dL_kittens_69 kq_b7 ?_
        refine ks_pureV2 hκ 71 dL_kittens_71 kc_L_16 (w_of hks hJ (k := vk) (by omega) (by decide) (σ.2.2.2.2.2.1 6 vk) rfl) hX0 rfl (by decide) (Nat.le_of_ble_eq_true rfl) (by decide) (by decide) ?_
        refine ks_iadd hκ 74 dL_kittens_74 ?_
        refine ks_istore hκ 75 5 [(5, _), (4, _), (3, _), (2, _), (0, _), (1, _), (6, _), (7, _), (8, _)] dL_kittens_75 (by decide) rfl ?_
        refine ks_iload hκ 77 6 dL_kittens_77 rfl ?_
        refine ks_aload_n hκ 79 4 dL_kittens_79 rfl ?_
        refine ks_iload hκ 80 8 dL_kittens_80 rfl ?_
        refine ks_iconst hκ 82 (nI 2) dL_kittens_82 kq_i2 ?_
        refine ks_pureV2 hκ 83 dL_kittens_83 kc_L_16 (w_of hks hJ (k := vk) (by omega) (by decide) (σ.2.2.2.2.2.1 2 vk) rfl) hX0 rfl (by decide) (Nat.le_of_ble_eq_true rfl) (by decide) (by decide) ?_
        refine ks_bipush hκ 86 (-6) dL_kittens_86 kq_bm6 ?_
        refine ks_cut 99 (if σ.2.2.2.2.2.1 2 vk = -6 then nI 0 else kBit vk) 2 [_] rfl ?_ (fun J88 => ?_)
        · skip
          refine ks_ior hκ 99 dL_kittens_99 ?_
          refine ks_istore hκ 100 6 [(6, _), (5, _), (4, _), (3, _), (2, _), (0, _), (1, _), (7, _), (8, _)] dL_kittens_100 (by decide) rfl ?_
          refine ks_iload hκ 102 7 dL_kittens_102 rfl ?_
          refine ks_aload_n hκ 104 5 dL_kittens_104 rfl ?_
          refine ks_iload hκ 105 8 dL_kittens_105 rfl ?_
          refine ks_bipush hκ 107 (nI 8) dL_kittens_107 kq_b8 ?_
          refine ks_pureV2 hκ 109 dL_kittens_109 kc_L_16 (w_of hks hJ (k := vk) (by omega) (by decide) (kBSet σ vk) rfl) hX0 rfl (by decide) (Nat.le_of_ble_eq_true rfl) (by decide) (by decide) ?_
          refine ks_pureS1 hκ 112 dL_kittens_112 kc_L_20 (l_onesX (q9BSet_mask hki)) (by decide) (Nat.le_of_ble_eq_true rfl) (by decide) (by decide) ?_
          refine ks_iaddN hκ 115 dL_kittens_115 ?_
          refine ks_istore hκ 116 7 [(7, _), (6, _), (5, _), (4, _), (3, _), (2, _), (0, _), (1, _), (8, _)] dL_kittens_116 (by decide) rfl ?_
          refine ks_aload_n hκ 118 6 dL_kittens_118 rfl ?_
          refine ks_iload hκ 119 8 dL_kittens_119 rfl ?_
          refine ks_iconst hκ 121 (nI 3) dL_kittens_121 kq_i3 ?_
          refine ks_pureV2 hκ 122 dL_kittens_122 kc_L_16 (w_of hks hJ (k := vk) (by omega) (by decide) (nI vb) e3) hX0 rfl (by decide) (Nat.le_of_ble_eq_true rfl) (by decide) (by decide) ?_
          refine ks_if_lt hκ 125 224 dL_kittens_125 rfl (fun c125 => ?_) (fun c125 => ?_)
          · skip
            exact absurd c125 (ks_lt0 (by omega))
          · skip
            refine ks_aload_n hκ 128 6 dL_kittens_128 rfl ?_
            refine ks_iload hκ 129 8 dL_kittens_129 rfl ?_
            refine ks_iconst hκ 131 (nI 3) dL_kittens_131 kq_i3 ?_
            refine ks_pureV2 hκ 132 dL_kittens_132 kc_L_16 (w_of hks hJ (k := vk) (by omega) (by decide) (nI vb) e3) hX0 rfl (by decide) (Nat.le_of_ble_eq_true rfl) (by decide) (by decide) ?_
            refine ks_aload_n hκ 135 6 dL_kittens_135 rfl ?_
            refine ks_iload hκ 136 8 dL_kittens_136 rfl ?_
            refine ks_iconst hκ 138 (nI 4) dL_kittens_138 kq_i4 ?_
            refine ks_pureV2 hκ 139 dL_kittens_139 kc_L_16 (w_of hks hJ (k := vk) (by omega) (by decide) (nI (kOf vk σ.2.2.2.2.2.2.1)) rfl) hX0 rfl (by decide) (Nat.le_of_ble_eq_true rfl) (by decide) (by decide) ?_
            refine ks_iaddN hκ 142 dL_kittens_142 ?_
            refine ks_aload_n hκ 143 6 dL_kittens_143 rfl ?_
            refine ks_iload hκ 144 8 dL_kittens_144 rfl ?_
            refine ks_bipush hκ 146 (nI 7) dL_kittens_146 kq_b7 ?_
            refine ks_pureV2 hκ 148 dL_kittens_148 kc_L_16 (w_of hks hJ (k := vk) (by omega) (by decide) (nI vs) e6) hX0 rfl (by decide) (Nat.le_of_ble_eq_true rfl) (by decide) (by decide) ?_
            refine ks_iaddN hκ 151 dL_kittens_151 ?_
            refine ks_bipush hκ 152 (nI 40) dL_kittens_152 kq_b40 ?_
            refine ks_icmp_ne hκ 154 224 dL_kittens_154 rfl (fun c154 => ?_) (fun c154 => ?_)
            · exfalso
              have c154 := mt (nI_eq (by omega) (by omega)).mpr c154
              omega
            · skip
              have c154 := (nI_eq (by omega) (by omega)).mp c154
              refine ks_aload_n hκ 157 6 dL_kittens_157 rfl ?_
              refine ks_iload hκ 158 8 dL_kittens_158 rfl ?_
              refine ks_iconst hκ 160 (nI 5) dL_kittens_160 kq_i5 ?_
              refine ks_pureV2 hκ 161 dL_kittens_161 kc_L_16 (w_of hks hJ (k := vk) (by omega) (by decide) (σ.2.2.2.2.2.1 4 vk) rfl) hX0 rfl (by decide) (Nat.le_of_ble_eq_true rfl) (by decide) (by decide) ?_
              refine ks_aload_n hκ 164 6 dL_kittens_164 rfl ?_
              refine ks_iload hκ 165 8 dL_kittens_165 rfl ?_
              refine ks_iconst hκ 167 (nI 4) dL_kittens_167 kq_i4 ?_
              refine ks_pureV2 hκ 168 dL_kittens_168 kc_L_16 (w_of hks hJ (k := vk) (by omega) (by decide) (nI (kOf vk σ.2.2.2.2.2.2.1)) rfl) hX0 rfl (by decide) (Nat.le_of_ble_eq_true rfl) (by decide) (by decide) ?_
              refine ks_aload_n hκ 171 6 dL_kittens_171 rfl ?_
              refine ks_iload hκ 172 8 dL_kittens_172 rfl ?_
              refine ks_bipush hκ 174 (nI 6) dL_kittens_174 kq_b6 ?_
              refine ks_pureV2 hκ 176 dL_kittens_176 kc_L_16 (w_of hks hJ (k := vk) (by omega) (by decide) (σ.2.2.2.2.2.1 5 vk) rfl) hX0 rfl (by decide) (Nat.le_of_ble_eq_true rfl) (by decide) (by decide) ?_
              refine ks_iadd hκ 179 dL_kittens_179 ?_
              refine ks_aload_n hκ 180 6 dL_kittens_180 rfl ?_
              refine ks_iload hκ 181 8 dL_kittens_181 rfl ?_
              refine ks_bipush hκ 183 (nI 7) dL_kittens_183 kq_b7 ?_
              refine ks_pureV2 hκ 185 dL_kittens_185 kc_L_16 (w_of hks hJ (k := vk) (by omega) (by decide) (σ.2.2.2.2.2.1 6 vk) rfl) hX0 rfl (by decide) (Nat.le_of_ble_eq_true rfl) (by decide) (by decide) ?_
              refine ks_iadd hκ 188 dL_kittens_188 ?_
              refine ks_icmp_ne hκ 189 224 dL_kittens_189 rfl (fun c189 => ?_) (fun c189 => ?_)
              · exfalso
                exact c189 e4
              · skip
                refine ks_aload_n hκ 192 6 dL_kittens_192 rfl ?_
                refine ks_iload hκ 193 8 dL_kittens_193 rfl ?_
                refine ks_iconst hκ 195 (nI 1) dL_kittens_195 kq_i1 ?_
                refine ks_pureV2 hκ 196 dL_kittens_196 kc_L_16 (w_of hks hJ (k := vk) (by omega) (by decide) (nI vv) e1) hX0 rfl (by decide) (Nat.le_of_ble_eq_true rfl) (by decide) (by decide) ?_
                refine ks_if_lt hκ 199 224 dL_kittens_199 rfl (fun c199 => ?_) (fun c199 => ?_)
                · skip
                  exact absurd c199 (ks_lt0 (by omega))
                · skip
                  refine ks_aload_n hκ 202 6 dL_kittens_202 rfl ?_
                  refine ks_iload hκ 203 8 dL_kittens_203 rfl ?_
                  refine ks_iconst hκ 205 (nI 0) dL_kittens_205 kq_i0 ?_
                  refine ks_pureV2 hκ 206 dL_kittens_206 kc_L_16 (w_of hks hJ (k := vk) (by omega) (by decide) (nI vst) e0) hX0 rfl (by decide) (Nat.le_of_ble_eq_true rfl) (by decide) (by decide) ?_
                  refine ks_if_lt hκ 209 224 dL_kittens_209 rfl (fun c209 => ?_) (fun c209 => ?_)
                  · skip
                    exact absurd c209 (ks_lt0 (by omega))
                  · skip
                    refine ks_aload_n hκ 212 6 dL_kittens_212 rfl ?_
                    refine ks_iload hκ 213 8 dL_kittens_213 rfl ?_
                    refine ks_iconst hκ 215 (nI 0) dL_kittens_215 kq_i0 ?_
                    refine ks_pureV2 hκ 216 dL_kittens_216 kc_L_16 (w_of hks hJ (k := vk) (by omega) (by decide) (nI vst) e0) hX0 rfl (by decide) (Nat.le_of_ble_eq_true rfl) (by decide) (by decide) ?_
                    refine ks_bipush hκ 219 (nI 15) dL_kittens_219 kq_b15 ?_
                    refine ks_icmp_le hκ 221 226 dL_kittens_221 rfl (fun c221 => ?_) (fun c221 => ?_)
                    · skip
                      have c221 := (nI_leI (by omega) (by omega)).mp c221
                      refine ks_iconst hκ 226 (nI 0) dL_kittens_226 kq_i0 ?_
                      refine ks_istore hκ 227 9 [(9, _), (7, _), (6, _), (5, _), (4, _), (3, _), (2, _), (0, _), (1, _), (8, _)] dL_kittens_227 (by decide) rfl ?_
                      have L229 : ∀ (fuel2 : Nat) (vm : Nat) (hm : vm ≤ σ.2.2.1) (hfuel2 : σ.2.2.1 - vm < fuel2), ks_K κ g 10 h 0 0 229 [(0, ks_ref g 0), (1, .int (nI σ.2.2.1)), (2, .int (nI (kCnt vk σ.2.2.2.2.2.2.1 + kOf vk σ.2.2.2.2.2.2.1))), (3, .int (kSum vk (σ.2.2.2.2.2.1 4) + σ.2.2.2.2.2.1 4 vk)), (4, .int (kSum vk (σ.2.2.2.2.2.1 5) + σ.2.2.2.2.2.1 5 vk)), (5, .int (kSum vk (σ.2.2.2.2.2.1 6) + σ.2.2.2.2.2.1 6 vk)), (6, .int ((List.range vk).foldl (kNapS σ.2.2.2.2.2.1) (nI 0) ||| (if σ.2.2.2.2.2.1 2 vk = -6 then nI 0 else kBit vk))), (7, .int (nI ((List.range vk).foldl (kOnS σ) 0 + q9Bn (kBSet σ vk) 15))), (8, .int (nI vk)), (9, .int (nI vm))] [] := by
                        intro fuel2
                        induction fuel2 with
                        | zero => intro vm  hm hfuel2; exact absurd hfuel2 (Nat.not_lt_zero _)
                        | succ fuel2 ih2 =>
                          intro vm  hm hfuel2
                          refine ks_iload hκ 229 9 dL_kittens_229 rfl ?_
                          refine ks_iload_n hκ 231 1 dL_kittens_231 rfl ?_
                          refine ks_icmp_ge hκ 232 393 dL_kittens_232 rfl (fun c232 => ?_) (fun c232 => ?_)
                          · skip
                            have c232 := (nI_leI (by omega) (by omega)).mp c232
                            refine ks_iinc hκ 393 8 8 (nI (vk + 1)) [(8, _), (0, _), (1, _), (2, _), (3, _), (4, _), (5, _), (6, _), (7, _), (9, _)] dL_kittens_393 rfl (ks_inc1 _) (by decide) rfl ?_
                            refine ks_goto hκ 396 25 dL_kittens_396 rfl ?_
                            refine ks_pick [1, 2, 3, 4, 5, 6, 7, 8, 0] [(0, _), (1, _), (2, _), (3, _), (4, _), (5, _), (6, _), (7, _), (8, _)] rfl ?_
                            exact ks_cv (ih (vk + 1)  (by omega) (by omega)) rfl (by rw [q9Sum_s, q9Sum_s, q9Sum_s, q9Nap_s, q9OnS_s hki]; rfl) rfl
                          · skip
                            have c232 := mt (nI_leI (by omega) (by omega)).mpr c232
                            refine ks_iload hκ 235 9 dL_kittens_235 rfl ?_
                            refine ks_iload hκ 237 8 dL_kittens_237 rfl ?_
                            refine ks_cut0 283 2 [] rfl ?_ (fun J239 => ?_)
                            · skip
                              refine ks_iload hκ 283 9 dL_kittens_283 rfl ?_
                              refine ks_iload hκ 285 8 dL_kittens_285 rfl ?_
                              refine ks_icmp_eq hκ 287 387 dL_kittens_287 rfl (fun c287 => ?_) (fun c287 => ?_)
                              · skip
                                have c287 := (nI_eq (by omega) (by omega)).mp c287
                                refine ks_iinc hκ 387 9 9 (nI (vm + 1)) [(9, _), (0, _), (1, _), (2, _), (3, _), (4, _), (5, _), (6, _), (7, _), (8, _)] dL_kittens_387 rfl (ks_inc1 _) (by decide) rfl ?_
                                refine ks_goto hκ 390 229 dL_kittens_390 rfl ?_
                                refine ks_pick [1, 2, 3, 4, 5, 6, 7, 8, 9, 0] [(0, _), (1, _), (2, _), (3, _), (4, _), (5, _), (6, _), (7, _), (8, _), (9, _)] rfl ?_
                                exact ks_cv (ih2 (vm + 1)  (by omega) (by omega)) rfl rfl rfl
                              · skip
                                have c287 := mt (nI_eq (by omega) (by omega)).mpr c287
                                have hkm : vk ≠ vm := by omega
                                have hbc : kBes vk vm σ.2.2.2.2.2.2.1 = kBes vm vk σ.2.2.2.2.2.2.1 := kBes_comm hkm hye
                                obtain ⟨hf1, hf2, hf3, hf4⟩ := q9Frees hkm hye hyl
                                have hob := q9Bn_le (kBes vk vm σ.2.2.2.2.2.2.1) 15
                                refine ks_aload_n hκ 290 0 dL_kittens_290 rfl ?_
                                refine ks_iload hκ 291 8 dL_kittens_291 rfl ?_
                                refine ks_iload hκ 293 9 dL_kittens_293 rfl ?_
                                refine ks_pureV2 hκ 295 dL_kittens_295 kc_L_25 (w_bound hks hJ (k := vk) (m := vm) (by omega) (by omega) (by omega) (kBes vk vm σ.2.2.2.2.2.2.1) rfl) hX0 rfl (by decide) (Nat.le_of_ble_eq_true rfl) (by decide) (by decide) ?_
                                refine ks_aload_n hκ 298 0 dL_kittens_298 rfl ?_
                                refine ks_iload hκ 299 9 dL_kittens_299 rfl ?_
                                refine ks_iload hκ 301 8 dL_kittens_301 rfl ?_
                                refine ks_pureV2 hκ 303 dL_kittens_303 kc_L_25 (w_bound hks hJ (k := vm) (m := vk) (by omega) (by omega) (by omega) (kBes vm vk σ.2.2.2.2.2.2.1) rfl) hX0 rfl (by decide) (Nat.le_of_ble_eq_true rfl) (by decide) (by decide) ?_
                                refine ks_icmp_ne hκ 306 385 dL_kittens_306 rfl (fun c306 => ?_) (fun c306 => ?_)
                                · exfalso
                                  exact c306 hbc
                                · skip
                                  refine ks_aload_n hκ 309 0 dL_kittens_309 rfl ?_
                                  refine ks_iload hκ 310 8 dL_kittens_310 rfl ?_
                                  refine ks_iload hκ 312 9 dL_kittens_312 rfl ?_
                                  refine ks_pureV2 hκ 314 dL_kittens_314 kc_L_28 (w_frees hks hJ (k := vk) (m := vm) (by omega) (by omega) (by omega) (kFrees σ.2.2.2.2.2.2.1 vk vm) rfl) hX0 rfl (by decide) (Nat.le_of_ble_eq_true rfl) (by decide) (by decide) ?_
                                  refine ks_aload_n hκ 317 0 dL_kittens_317 rfl ?_
                                  refine ks_iload hκ 318 9 dL_kittens_318 rfl ?_
                                  refine ks_iload hκ 320 8 dL_kittens_320 rfl ?_
                                  refine ks_pureV2 hκ 322 dL_kittens_322 kc_L_28 (w_frees hks hJ (k := vm) (m := vk) (by omega) (by omega) (by omega) (kFrees σ.2.2.2.2.2.2.1 vm vk) rfl) hX0 rfl (by decide) (Nat.le_of_ble_eq_true rfl) (by decide) (by decide) ?_
                                  refine ks_icmp_ne hκ 325 385 dL_kittens_325 rfl (fun c325 => ?_) (fun c325 => ?_)
                                  · exfalso
                                    exact c325 q9Frees_comm
                                  · skip
                                    refine ks_aload_n hκ 328 0 dL_kittens_328 rfl ?_
                                    refine ks_iload hκ 329 8 dL_kittens_329 rfl ?_
                                    refine ks_iload hκ 331 9 dL_kittens_331 rfl ?_
                                    refine ks_pureV2 hκ 333 dL_kittens_333 kc_L_28 (w_frees hks hJ (k := vk) (m := vm) (by omega) (by omega) (by omega) (nI (q9Fn vk vm σ.2.2.2.2.2.2.1 15)) hf1) hX0 rfl (by decide) (Nat.le_of_ble_eq_true rfl) (by decide) (by decide) ?_
                                    refine ks_cut 344 (if kBes vk vm σ.2.2.2.2.2.2.1 = 0 then nI 1 else nI 0) 1 [] rfl ?_ (fun J336 => ?_)
                                    · skip
                                      refine ks_aload_n hκ 344 0 dL_kittens_344 rfl ?_
                                      refine ks_iload hκ 345 8 dL_kittens_345 rfl ?_
                                      refine ks_iload hκ 347 9 dL_kittens_347 rfl ?_
                                      refine ks_pureV2 hκ 349 dL_kittens_349 kc_L_25 (w_bound hks hJ (k := vk) (m := vm) (by omega) (by omega) (by omega) (kBes vk vm σ.2.2.2.2.2.2.1) rfl) hX0 rfl (by decide) (Nat.le_of_ble_eq_true rfl) (by decide) (by decide) ?_
                                      refine ks_cut 360 (if kBes vk vm σ.2.2.2.2.2.2.1 = 0 then nI 1 else nI 0) 1 [_] rfl ?_ (fun J352 => ?_)
                                      · skip
                                        refine ks_icmp_ne hκ 360 385 dL_kittens_360 rfl (fun c360 => ?_) (fun c360 => ?_)
                                        · exfalso
                                          exact c360 rfl
                                        · skip
                                          refine ks_aload_n hκ 363 0 dL_kittens_363 rfl ?_
                                          refine ks_iload hκ 364 8 dL_kittens_364 rfl ?_
                                          refine ks_iload hκ 366 9 dL_kittens_366 rfl ?_
                                          refine ks_pureV2 hκ 368 dL_kittens_368 kc_L_28 (w_frees hks hJ (k := vk) (m := vm) (by omega) (by omega) (by omega) (nI (q9Fn vk vm σ.2.2.2.2.2.2.1 15)) hf1) hX0 rfl (by decide) (Nat.le_of_ble_eq_true rfl) (by decide) (by decide) ?_
                                          refine ks_aload_n hκ 371 0 dL_kittens_371 rfl ?_
                                          refine ks_iload hκ 372 8 dL_kittens_372 rfl ?_
                                          refine ks_iload hκ 374 9 dL_kittens_374 rfl ?_
                                          refine ks_pureV2 hκ 376 dL_kittens_376 kc_L_25 (w_bound hks hJ (k := vk) (m := vm) (by omega) (by omega) (by omega) (kBes vk vm σ.2.2.2.2.2.2.1) rfl) hX0 rfl (by decide) (Nat.le_of_ble_eq_true rfl) (by decide) (by decide) ?_
                                          refine ks_pureS1 hκ 379 dL_kittens_379 kc_L_20 (l_onesX (kBes_mask hkm hye)) (by decide) (Nat.le_of_ble_eq_true rfl) (by decide) (by decide) ?_
                                          refine ks_icmp_ge hκ 382 387 dL_kittens_382 rfl (fun c382 => ?_) (fun c382 => ?_)
                                          · skip
                                            have c382 := (nI_leI (by omega) (by omega)).mp c382
                                            refine ks_iinc hκ 387 9 9 (nI (vm + 1)) [(9, _), (0, _), (1, _), (2, _), (3, _), (4, _), (5, _), (6, _), (7, _), (8, _)] dL_kittens_387 rfl (ks_inc1 _) (by decide) rfl ?_
                                            refine ks_goto hκ 390 229 dL_kittens_390 rfl ?_
                                            refine ks_pick [1, 2, 3, 4, 5, 6, 7, 8, 9, 0] [(0, _), (1, _), (2, _), (3, _), (4, _), (5, _), (6, _), (7, _), (8, _), (9, _)] rfl ?_
                                            exact ks_cv (ih2 (vm + 1)  (by omega) (by omega)) rfl rfl rfl
                                          · exfalso
                                            have c382 := mt (nI_leI (by omega) (by omega)).mpr c382
                                            omega
                                      · skip
                                        refine ks_if_ne hκ 352 359 dL_kittens_352 rfl (fun c352 => ?_) (fun c352 => ?_)
                                        · skip
                                          refine ks_iconst hκ 359 (nI 0) dL_kittens_359 kq_i0 ?_
                                          exact ks_top _ (if_neg c352).symm J352
                                        · skip
                                          refine ks_iconst hκ 355 (nI 1) dL_kittens_355 kq_i1 ?_
                                          refine ks_goto hκ 356 360 dL_kittens_356 rfl ?_
                                          exact ks_top _ (if_pos c352).symm J352
                                    · skip
                                      refine ks_if_ne hκ 336 343 dL_kittens_336 rfl (fun c336 => ?_) (fun c336 => ?_)
                                      · skip
                                        have c336 := mt (ks_eq0 (by omega)).mpr c336
                                        refine ks_iconst hκ 343 (nI 0) dL_kittens_343 kq_i0 ?_
                                        exact ks_top _ (if_neg (fun z => c336 (hf3.mp z))).symm J336
                                      · skip
                                        have c336 := (ks_eq0 (by omega)).mp c336
                                        refine ks_iconst hκ 339 (nI 1) dL_kittens_339 kq_i1 ?_
                                        refine ks_goto hκ 340 344 dL_kittens_340 rfl ?_
                                        exact ks_top _ (if_pos (hf3.mpr c336)).symm J336
                            · skip
                              refine ks_icmp_eq hκ 239 283 dL_kittens_239 rfl (fun c239 => ?_) (fun c239 => ?_)
                              · skip
                                have c239 := (nI_eq (by omega) (by omega)).mp c239
                                exact J239
                              · skip
                                have c239 := mt (nI_eq (by omega) (by omega)).mpr c239
                                have hb8 := q9Bit (k := vk) hki (show vm < σ.2.2.1 by omega) (by omega)
                                refine ks_aload_n hκ 242 0 dL_kittens_242 rfl ?_
                                refine ks_iload hκ 243 8 dL_kittens_243 rfl ?_
                                refine ks_bipush hκ 245 (nI 8) dL_kittens_245 kq_b8 ?_
                                refine ks_pureV2 hκ 247 dL_kittens_247 kc_L_16 (w_of hks hJ (k := vk) (by omega) (by decide) (kBSet σ vk) rfl) hX0 rfl (by decide) (Nat.le_of_ble_eq_true rfl) (by decide) (by decide) ?_
                                refine ks_iload hκ 250 9 dL_kittens_250 rfl ?_
                                refine ks_ishr hκ 252 dL_kittens_252 ?_
                                refine ks_iconst hκ 253 (nI 1) dL_kittens_253 kq_i1 ?_
                                refine ks_iand hκ 254 dL_kittens_254 ?_
                                refine ks_iconst hκ 255 (nI 1) dL_kittens_255 kq_i1 ?_
                                refine ks_cut 264 (if kBes vk vm σ.2.2.2.2.2.2.1 = 0 then nI 0 else nI 1) 2 [] rfl ?_ (fun J256 => ?_)
                                · skip
                                  refine ks_aload_n hκ 264 0 dL_kittens_264 rfl ?_
                                  refine ks_iload hκ 265 8 dL_kittens_265 rfl ?_
                                  refine ks_iload hκ 267 9 dL_kittens_267 rfl ?_
                                  refine ks_pureV2 hκ 269 dL_kittens_269 kc_L_25 (w_bound hks hJ (k := vk) (m := vm) (by omega) (by omega) (by omega) (kBes vk vm σ.2.2.2.2.2.2.1) rfl) hX0 rfl (by decide) (Nat.le_of_ble_eq_true rfl) (by decide) (by decide) ?_
                                  refine ks_cut 280 (if kBes vk vm σ.2.2.2.2.2.2.1 = 0 then nI 0 else nI 1) 1 [_] rfl ?_ (fun J272 => ?_)
                                  · skip
                                    refine ks_icmp_ne hκ 280 385 dL_kittens_280 rfl (fun c280 => ?_) (fun c280 => ?_)
                                    · exfalso
                                      exact c280 rfl
                                    · skip
                                      exact J239
                                  · skip
                                    refine ks_if_eq hκ 272 279 dL_kittens_272 rfl (fun c272 => ?_) (fun c272 => ?_)
                                    · skip
                                      refine ks_iconst hκ 279 (nI 0) dL_kittens_279 kq_i0 ?_
                                      exact ks_top _ (if_pos c272).symm J272
                                    · skip
                                      refine ks_iconst hκ 275 (nI 1) dL_kittens_275 kq_i1 ?_
                                      refine ks_goto hκ 276 280 dL_kittens_276 rfl ?_
                                      exact ks_top _ (if_neg c272).symm J272
                                · skip
                                  refine ks_icmp_ne hκ 256 263 dL_kittens_256 rfl (fun c256 => ?_) (fun c256 => ?_)
                                  · skip
                                    refine ks_iconst hκ 263 (nI 0) dL_kittens_263 kq_i0 ?_
                                    exact ks_top _ (if_pos (Classical.not_not.mp (fun z => c256 (hb8.mpr z)))).symm J256
                                  · skip
                                    refine ks_iconst hκ 259 (nI 1) dL_kittens_259 kq_i1 ?_
                                    refine ks_goto hκ 260 264 dL_kittens_260 rfl ?_
                                    exact ks_top _ (if_neg (hb8.mp c256)).symm J256
                      refine ks_pick [7, 8, 6, 5, 4, 3, 2, 1, 9, 0] [(0, _), (1, _), (2, _), (3, _), (4, _), (5, _), (6, _), (7, _), (8, _), (9, _)] rfl ?_
                      exact ks_cv (L229 _ 0  (Nat.zero_le _) (Nat.lt_succ_self _)) rfl rfl rfl
                    · exfalso
                      have c221 := mt (nI_leI (by omega) (by omega)).mpr c221
                      omega
        · skip
          refine ks_icmp_ne hκ 88 95 dL_kittens_88 rfl (fun c88 => ?_) (fun c88 => ?_)
          · skip
            refine ks_iconst hκ 95 (nI 1) dL_kittens_95 kq_i1 ?_
            refine ks_iload hκ 96 8 dL_kittens_96 rfl ?_
            refine ks_ishl hκ 98 dL_kittens_98 ?_
            exact ks_top _ (if_neg c88).symm J88
          · skip
            refine ks_iconst hκ 91 (nI 0) dL_kittens_91 kq_i0 ?_
            refine ks_goto hκ 92 99 dL_kittens_92 rfl ?_
            exact ks_top _ (if_pos c88).symm J88
  refine ks_pick [8, 7, 6, 5, 4, 3, 2, 1, 0] [(0, _), (1, _), (2, _), (3, _), (4, _), (5, _), (6, _), (7, _), (8, _)] rfl ?_
  exact ks_cv (L25 _ 0  (Nat.zero_le _) (Nat.lt_succ_self _)) rfl rfl rfl
