
/-! THE MODEL: a leap made -/
theorem kMd.made {f : Nat → Int32} {b : Nat} {v : Int32} {se : Nat → Int32} {tu : Int32} {ki : Nat} {ma re : Int32} {kf : Nat → Nat → Int32} {L : List (Nat × Nat)} {P : List kP} (x : kMd f b (se, tu, ki, ma, re, kf, L, P)) : kMd (upd f (b + 6) v) b (se, tu, ki, v, re, kf, L, P) := by
  obtain ⟨mS, m4, m5, m6, m7, m8, m9, mK, mP, mL, mki, mLl, mPl, mLp, mPp⟩ := x
  dsimp only at mS m4 m5 m6 m7 m8 m9 mK mP mL mki mLl mPl mLp mPp
  exact ⟨fun j hj => (kU_n (by omega)).trans (mS j hj), (kU_n (by omega)).trans m4, (kU_n (by omega)).trans m5, kU_s, (kU_n (by omega)).trans m7, (kU_n (by omega)).trans m8, (kU_n (by omega)).trans m9, fun k c hk hc => (kU_n (by omega)).trans (mK k c hk hc), fun r t k y hr => ⟨(kU_n (by omega)).trans (mP r t k y hr).1, (kU_n (by omega)).trans (mP r t k y hr).2.1, (kU_n (by omega)).trans (mP r t k y hr).2.2⟩, fun i e w hi => (kU_n (by omega)).trans (mL i e w hi), mki, mLl, mPl, mLp, mPp⟩
theorem kSz_way {s t : Nat} (hs : s < 16) (ht : t < 16) : kSz (nI t - nI s) = nI (kWay s t).length := by
  rw [kWay_len]
  have q : ∀ s t : Fin 16, kSz (nI t.val - nI s.val) = nI (if s.val < t.val then t.val - s.val else s.val - t.val) := by decide +kernel
  exact q ⟨s, hs⟩ ⟨t, ht⟩
set_option maxRecDepth 100000 in
set_option maxHeartbeats 4000000 in
theorem c_Model_leaps {g : ks_G} {h : ks_H} {m b : Nat} {fs : List Value} {f : Nat → Int32} {se : Nat → Int32} {tu : Int32} {ki : Nat} {ma re : Int32} {kf : Nat → Nat → Int32} {L : List (Nat × Nat)} {P : List kP} {k s t : Nat} (hM : h[m]? = some (ks_O 7 (ks_ref g (m + 1) :: fs))) (hS : h[m + 1]? = some (ks_I g 3400 f)) (hb : b + 340 ≤ 3400) (hmd : kMd f b (se, tu, ki, ma, re, kf, L, P)) (hk : k < ki) (hs : s < 16) (ht : t < 16) (hks : kf 0 k = nI s) (hlt : ∀ i e, (kWay s t)[i]? = some e → ¬ kTop e (((kWay s t).take i).foldl (kOver k) (kf, L)).2 = some k → (((kWay s t).take i).foldl (kOver k) (kf, L)).2.length < 240) : ks_Met g (yX7_leaps, cX7_leaps, 7, some .int) 4 0 0 [ks_ref g m, .int (nI b), .int (nI k), .int (nI t - nI s)] h (ks_Ph (fun r h' => r = nI t ∧ kMP g m b h h' f (kLeap (se, tu, ki, ma, re, kf, L, P) k (nI t - nI s)))) := by
  obtain ⟨mS, m4, m5, m6, m7, m8, m9, mK, mP, mL, mki, mLl, mPl, mLp, mPp⟩ := id hmd
  dsimp only at mS m4 m5 m6 m7 m8 m9 mK mP mL mki mLl mPl mLp mPp
  have hwl : (kWay s t).length < 16 := by rw [kWay_len]; split <;> omega
  refine ks_intro (by decide) (Nat.le_of_ble_eq_true rfl) (fun κ hκ hRt => ?_)
  refine ks_cv (ls := [(0, ks_ref g m), (1, .int (nI b)), (2, .int (nI k)), (3, .int (nI t - nI s))]) ?_ rfl rfl rfl
  have hF : ks_Fr h h (m + 1) (m + 2) := ks_Fr.rf
  refine ks_iload_n hκ 0 1 dX7_leaps_0 rfl ?_
  refine ks_iload_n hκ 1 2 dX7_leaps_1 rfl ?_
  refine ks_pureS2 hκ 2 dX7_leaps_2 kc_X7_28 (c_Model_kittenAt) (by decide) (Nat.le_of_ble_eq_true rfl) (by decide) (by decide) ?_
  refine ks_istore hκ 5 4 [(4, _), (0, _), (1, _), (2, _), (3, _)] dX7_leaps_5 (by decide) rfl ?_
  refine ks_aload_n hκ 7 1 dX7_leaps_7 rfl ?_
  refine ks_get hκ 8 dX7_leaps_8 kf_X7_7 hM rfl ?_
  refine ks_iload hκ 11 0 dX7_leaps_11 rfl ?_
  refine ks_iald hκ 13 ((b + 10 + 7 * k)) dX7_leaps_13 hS rfl (by omega) (by decide) ?_
  refine ks_top (nI s) ((hmd.fld (c := 0) hk (by decide)).trans hks) ?_
  refine ks_istore hκ 14 5 [(5, _), (4, _), (0, _), (1, _), (2, _), (3, _)] dX7_leaps_14 (by decide) rfl ?_
  refine ks_iconst hκ 16 (nI 0) dX7_leaps_16 kq_i0 ?_
  refine ks_istore hκ 17 6 [(6, _), (5, _), (4, _), (0, _), (1, _), (2, _), (3, _)] dX7_leaps_17 (by decide) rfl ?_
  have L19 : ∀ (fuel : Nat) (vi : Nat) (f1 : Nat → Int32) (kf1 : Nat → Nat → Int32) (L1 : List (Nat × Nat)) (hh : ks_H) (hM : hh[m]? = some (ks_O 7 (ks_ref g (m + 1) :: fs))) (hS : hh[m + 1]? = some (ks_I g 3400 f1)) (hF : ks_Fr h hh (m + 1) (m + 2)) (hmd1 : kMd f1 b (se, tu, ki, ma, re, kf1, L1, P)) (hout : ∀ j, (j < b ∨ b + 340 ≤ j) → f1 j = f j) (hvi : vi ≤ (kWay s t).length) (hq1 : ((kWay s t).take vi).foldl (kOver k) (kf, L) = (kf1, L1)) (hfuel : (kWay s t).length - vi < fuel), ks_K κ g 7 hh 0 0 19 [(0, ks_ref g m), (1, .int (nI b)), (2, .int (nI k)), (3, .int (nI t - nI s)), (4, .int (nI (b + 10 + 7 * k))), (5, .int (nI s)), (6, .int (nI vi))] [] := by
    intro fuel
    induction fuel with
    | zero => intro vi f1 kf1 L1 hh hM hS hF hmd1 hout hvi hq1 hfuel; exact absurd hfuel (Nat.not_lt_zero _)
    | succ fuel ih =>
      intro vi f1 kf1 L1 hh hM hS hF hmd1 hout hvi hq1 hfuel
      refine ks_iload hκ 19 6 dX7_leaps_19 rfl ?_
      refine ks_iload_n hκ 21 3 dX7_leaps_21 rfl ?_
      refine ks_pureS1 hκ 22 dX7_leaps_22 kc_X7_56 (c_Model_size) (by decide) (Nat.le_of_ble_eq_true rfl) (by decide) (by decide) ?_
      refine ks_top (nI ((kWay s t).length)) (kSz_way hs ht) ?_
      refine ks_icmp_ge hκ 25 59 dX7_leaps_25 rfl (fun c25 => ?_) (fun c25 => ?_)
      · skip
        have c25 := (nI_leI (by omega) (by omega)).mp c25
        rw [List.take_of_length_le (by omega)] at hq1
        have hk0 : kf1 0 k = nI s := by
          have := kOver_f0 (k := k) (kWay s t) (kf, L)
          rw [hq1] at this
          exact (congrFun this k).trans hks
        refine ks_aload_n hκ 59 0 dX7_leaps_59 rfl ?_
        refine ks_get hκ 60 dX7_leaps_60 kf_X7_7 hM rfl ?_
        refine ks_iload hκ 63 4 dX7_leaps_63 rfl ?_
        refine ks_iload hκ 65 5 dX7_leaps_65 rfl ?_
        refine ks_iload_n hκ 67 3 dX7_leaps_67 rfl ?_
        refine ks_iadd hκ 68 dX7_leaps_68 ?_
        refine ks_iast hκ 69 ((b + 10 + 7 * k)) dX7_leaps_69 hS rfl (by omega) (by decide) ?_
        refine ks_gen (fun xh1 exh1 => ?_)
        replace hM := ks_gn exh1 (ks_nb (b := m) (i := 1) (j := 0) rfl) hM
        replace hS := ks_gs exh1 hS
        replace hF := ks_Fr.st hF exh1 (by omega) (by omega)
        clear exh1
        have hmd2 := hmd1.put (c := 0) (v := nI s + (nI t - nI s)) hk (by decide)
        rw [Nat.add_zero] at hmd2
        refine ks_aload_n hκ 70 0 dX7_leaps_70 rfl ?_
        refine ks_get hκ 71 dX7_leaps_71 kf_X7_7 hM rfl ?_
        refine ks_iload hκ 74 4 dX7_leaps_74 rfl ?_
        refine ks_iconst hκ 76 (nI 1) dX7_leaps_76 kq_i1 ?_
        refine ks_iaddN hκ 77 dX7_leaps_77 ?_
        refine ks_dup2 hκ 78 dX7_leaps_78 rfl rfl ?_
        refine ks_iald hκ 79 (((b + 10 + 7 * k) + 1)) dX7_leaps_79 hS rfl (by omega) (by decide) ?_
        refine ks_top (kf1 1 k) (hmd2.fld (c := 1) hk (by decide)) ?_
        refine ks_iload_n hκ 80 3 dX7_leaps_80 rfl ?_
        refine ks_pureS1 hκ 81 dX7_leaps_81 kc_X7_74 (c_Model_cost) (by decide) (Nat.le_of_ble_eq_true rfl) (by decide) (by decide) ?_
        refine ks_isub hκ 84 dX7_leaps_84 ?_
        refine ks_iast hκ 85 (((b + 10 + 7 * k) + 1)) dX7_leaps_85 hS rfl (by omega) (by decide) ?_
        refine ks_gen (fun xh2 exh2 => ?_)
        replace hM := ks_gn exh2 (ks_nb (b := m) (i := 1) (j := 0) rfl) hM
        replace hS := ks_gs exh2 hS
        replace hF := ks_Fr.st hF exh2 (by omega) (by omega)
        clear exh2
        have hmd3 := hmd2.put (c := 1) (v := kf1 1 k - kCost (nI t - nI s)) hk (by decide)
        refine ks_aload_n hκ 86 0 dX7_leaps_86 rfl ?_
        refine ks_get hκ 87 dX7_leaps_87 kf_X7_7 hM rfl ?_
        refine ks_iload_n hκ 90 1 dX7_leaps_90 rfl ?_
        refine ks_bipush hκ 91 (nI 6) dX7_leaps_91 kq_b6 ?_
        refine ks_iaddN hκ 93 dX7_leaps_93 ?_
        refine ks_dup2 hκ 94 dX7_leaps_94 rfl rfl ?_
        refine ks_iald hκ 95 ((b + 6)) dX7_leaps_95 hS rfl (by omega) (by decide) ?_
        refine ks_top (ma) (hmd3.2.2.2.1) ?_
        refine ks_iconst hκ 96 (nI 1) dX7_leaps_96 kq_i1 ?_
        refine ks_iadd hκ 97 dX7_leaps_97 ?_
        refine ks_iast hκ 98 ((b + 6)) dX7_leaps_98 hS rfl (by omega) (by decide) ?_
        refine ks_gen (fun xh3 exh3 => ?_)
        replace hM := ks_gn exh3 (ks_nb (b := m) (i := 1) (j := 0) rfl) hM
        replace hS := ks_gs exh3 hS
        replace hF := ks_Fr.st hF exh3 (by omega) (by omega)
        clear exh3
        have hmd4 := hmd3.made (v := ma + nI 1)
        refine ks_aload_n hκ 99 0 dX7_leaps_99 rfl ?_
        refine ks_get hκ 100 dX7_leaps_100 kf_X7_7 hM rfl ?_
        refine ks_iload hκ 103 4 dX7_leaps_103 rfl ?_
        refine ks_iald hκ 105 ((b + 10 + 7 * k)) dX7_leaps_105 hS rfl (by omega) (by decide) ?_
        refine ks_top (nI t) (((hmd4.fld (c := 0) hk (by decide)).trans (by show kPut (kPut kf1 0 k (nI s + (nI t - nI s))) 1 k (kf1 1 k - kCost (nI t - nI s)) 0 k = nI t; rw [kPut_n (by decide), kPut_s, kU_s, Int32.add_comm, Int32.sub_add_cancel]))) ?_
        refine ks_iret hκ 106 hRt dX7_leaps_106 (by decide) (by decide) rfl ?_
        have hcl : (kf 0 k).toNatClampNeg = s ∧ (kf 0 k + (nI t - nI s)).toNatClampNeg = t := ⟨by rw [hks]; exact nI_clamp (by omega), by rw [hks, Int32.add_comm, Int32.sub_add_cancel]; exact nI_clamp (by omega)⟩
        refine ⟨_, rfl, rfl, _, hS, hF, ?_, fun j hj => by rw [kU_n (by omega), kU_n (by omega), kU_n (by omega)]; exact hout j hj⟩
        unfold kLeap
        simp only [hcl.1, hcl.2, hq1, hk0]
        exact hmd4
      · skip
        have c25 := mt (nI_leI (by omega) (by omega)).mpr c25
        obtain ⟨ve, hve⟩ := kget (L := kWay s t) (i := vi) (by omega)
        have hve15 := kWay_lt hs ht (List.mem_of_getElem? hve)
        have hke := kEdge_at hs ht hve
        unfold kEdge at hke
        have hlt1 := hlt vi ve hve
        rw [hq1] at hlt1
        refine ks_aload_n hκ 28 0 dX7_leaps_28 rfl ?_
        refine ks_iload_n hκ 29 1 dX7_leaps_29 rfl ?_
        refine ks_iload_n hκ 30 2 dX7_leaps_30 rfl ?_
        refine ks_iload_n hκ 31 3 dX7_leaps_31 rfl ?_
        refine ks_if_le hκ 32 43 dX7_leaps_32 rfl (fun c32 => ?_) (fun c32 => ?_)
        · skip
          rw [if_pos c32] at hke
          refine ks_iload hκ 43 5 dX7_leaps_43 rfl ?_
          refine ks_iconst hκ 45 (nI 1) dX7_leaps_45 kq_i1 ?_
          refine ks_isub hκ 46 dX7_leaps_46 ?_
          refine ks_iload hκ 47 6 dX7_leaps_47 rfl ?_
          refine ks_isub hκ 49 dX7_leaps_49 ?_
          refine ks_top (nI ve) hke ?_
          refine ks_voidV3 hκ 50 dX7_leaps_50 kc_X7_83 (c_Model_crosses hM hS hb hmd1 hve15 hk hlt1) hM rfl (by decide) (Nat.le_of_ble_eq_true rfl) (by decide) (by decide) (fun xh4 hp50 => ?_)
          obtain ⟨f2, hS, hF1, hmd1, hout1⟩ := hp50
          replace hM := hF1.at hM (by omega)
          replace hF := hF.tr (hF1.wd (by omega) (by omega))
          refine ks_iinc hκ 53 6 6 (nI (vi + 1)) [(6, _), (0, _), (1, _), (2, _), (3, _), (4, _), (5, _)] dX7_leaps_53 rfl (ks_inc1 _) (by decide) rfl ?_
          refine ks_goto hκ 56 19 dX7_leaps_56 rfl ?_
          refine ks_pick [1, 2, 3, 4, 5, 6, 0] [(0, _), (1, _), (2, _), (3, _), (4, _), (5, _), (6, _)] rfl ?_
          exact ks_cv (ih (vi + 1) _ _ _ xh4 hM hS hF hmd1 (fun j hj => (hout1 j hj).trans (hout j hj)) (by omega) (by rw [List.take_add_one, hve, Option.toList_some, List.foldl_append, hq1]; rfl) (by omega)) rfl rfl rfl
        · skip
          rw [if_neg c32] at hke
          refine ks_iload hκ 35 5 dX7_leaps_35 rfl ?_
          refine ks_iload hκ 37 6 dX7_leaps_37 rfl ?_
          refine ks_iadd hκ 39 dX7_leaps_39 ?_
          refine ks_goto hκ 40 50 dX7_leaps_40 rfl ?_
          refine ks_top (nI ve) hke ?_
          refine ks_voidV3 hκ 50 dX7_leaps_50 kc_X7_83 (c_Model_crosses hM hS hb hmd1 hve15 hk hlt1) hM rfl (by decide) (Nat.le_of_ble_eq_true rfl) (by decide) (by decide) (fun xh5 hp50 => ?_)
          obtain ⟨f2, hS, hF1, hmd1, hout1⟩ := hp50
          replace hM := hF1.at hM (by omega)
          replace hF := hF.tr (hF1.wd (by omega) (by omega))
          refine ks_iinc hκ 53 6 6 (nI (vi + 1)) [(6, _), (0, _), (1, _), (2, _), (3, _), (4, _), (5, _)] dX7_leaps_53 rfl (ks_inc1 _) (by decide) rfl ?_
          refine ks_goto hκ 56 19 dX7_leaps_56 rfl ?_
          refine ks_pick [1, 2, 3, 4, 5, 6, 0] [(0, _), (1, _), (2, _), (3, _), (4, _), (5, _), (6, _)] rfl ?_
          exact ks_cv (ih (vi + 1) _ _ _ xh5 hM hS hF hmd1 (fun j hj => (hout1 j hj).trans (hout j hj)) (by omega) (by rw [List.take_add_one, hve, Option.toList_some, List.foldl_append, hq1]; rfl) (by omega)) rfl rfl rfl
  refine ks_pick [3, 4, 5, 6, 2, 1, 0] [(0, _), (1, _), (2, _), (3, _), (4, _), (5, _), (6, _)] rfl ?_
  exact ks_cv (L19 _ 0 _ _ _ h hM hS hF hmd (fun _ _ => rfl) (Nat.zero_le _) rfl (Nat.lt_succ_self _)) rfl rfl rfl
