
/-! THE MODEL: an edge crossed -/
theorem kMd.fld {f : Nat → Int32} {b k c : Nat} {σ : kS} (x : kMd f b σ) (hk : k < σ.2.2.1) (hc : c < 7) : f (b + 10 + 7 * k + c) = σ.2.2.2.2.2.1 c k := x.2.2.2.2.2.2.2.1 k c hk hc
theorem kMd.put {f : Nat → Int32} {b k c : Nat} {v : Int32} {se : Nat → Int32} {tu : Int32} {ki : Nat} {ma re : Int32} {kf : Nat → Nat → Int32} {L : List (Nat × Nat)} {P : List kP} (x : kMd f b (se, tu, ki, ma, re, kf, L, P)) (hk : k < ki) (hc : c < 7) : kMd (upd f (b + 10 + 7 * k + c) v) b (se, tu, ki, ma, re, kPut kf c k v, L, P) := by
  obtain ⟨mS, m4, m5, m6, m7, m8, m9, mK, mP, mL, mki, mLl, mPl, mLp, mPp⟩ := x
  dsimp only at mS m4 m5 m6 m7 m8 m9 mK mP mL mki mLl mPl mLp mPp
  refine ⟨fun j hj => (kU_n (by omega)).trans (mS j hj), (kU_n (by omega)).trans m4, (kU_n (by omega)).trans m5, (kU_n (by omega)).trans m6, (kU_n (by omega)).trans m7, (kU_n (by omega)).trans m8, (kU_n (by omega)).trans m9, fun k2 c2 hk2 hc2 => ?_, fun r t1 k1 y hr => ?_, fun i e w hi => (kU_n (by omega)).trans (mL i e w hi), mki, mLl, mPl, mLp, mPp⟩
  · have hk3 : k2 < ki := hk2
    show upd f _ v _ = kPut kf c k v c2 k2
    by_cases q1 : c2 = c
    · subst q1
      rw [kPut_s]
      by_cases q2 : k2 = k
      · subst q2; rw [kU_s, kU_s]
      · rw [kU_n (by omega), kU_n q2]; exact mK k2 c2 hk3 hc2
    · rw [kPut_n q1, kU_n (by omega)]; exact mK k2 c2 hk3 hc2
  · have hr2 := (List.getElem?_eq_some_iff.mp (show P[r]? = some (t1, k1, y) from hr)).1
    obtain ⟨q1, q2, q3⟩ := mP r t1 k1 y hr
    exact ⟨(kU_n (by omega)).trans q1, (kU_n (by omega)).trans q2, (kU_n (by omega)).trans q3⟩
theorem kMd.lay {f : Nat → Int32} {b e k : Nat} {se : Nat → Int32} {tu : Int32} {ki : Nat} {ma re : Int32} {kf : Nat → Nat → Int32} {L : List (Nat × Nat)} {P : List kP} (x : kMd f b (se, tu, ki, ma, re, kf, L, P)) (hl : L.length < 240) (he : e < 15) (hk : k < 6) : kMd (upd (upd f (b + 100 + L.length) (nI (16 * k + e))) (b + 8) (nI (L.length + 1))) b (se, tu, ki, ma, re, kf, kLay L (e, k), P) := by
  obtain ⟨mS, m4, m5, m6, m7, m8, m9, mK, mP, mL, mki, mLl, mPl, mLp, mPp⟩ := x
  dsimp only at mS m4 m5 m6 m7 m8 m9 mK mP mL mki mLl mPl mLp mPp
  rw [show kLay L (e, k) = L ++ [(e, k)] from if_pos hl]
  have hn : ∀ j, j ≠ b + 8 → j ≠ b + 100 + L.length → upd (upd f (b + 100 + L.length) (nI (16 * k + e))) (b + 8) (nI (L.length + 1)) j = f j := fun j q1 q2 => (kU_n q1).trans (kU_n q2)
  refine ⟨fun j hj => (hn _ (by omega) (by omega)).trans (mS j hj), (hn _ (by omega) (by omega)).trans m4, (hn _ (by omega) (by omega)).trans m5, (hn _ (by omega) (by omega)).trans m6, (hn _ (by omega) (by omega)).trans m7, ?_, (hn _ (by omega) (by omega)).trans m9, fun k2 c2 hk2 hc2 => ?_, fun r t1 k1 y hr => ?_, fun i e1 w hi => ?_, mki, ?_, mPl, fun p hp => ?_, mPp⟩
  · show upd _ (b + 8) _ (b + 8) = nI (L ++ [(e, k)]).length
    rw [kU_s, List.length_append]; rfl
  · have hk3 : k2 < ki := hk2
    exact (hn _ (by omega) (by omega)).trans (mK k2 c2 hk3 hc2)
  · have hr2 := (List.getElem?_eq_some_iff.mp (show P[r]? = some (t1, k1, y) from hr)).1
    obtain ⟨q1, q2, q3⟩ := mP r t1 k1 y hr
    exact ⟨(hn _ (by omega) (by omega)).trans q1, (hn _ (by omega) (by omega)).trans q2, (hn _ (by omega) (by omega)).trans q3⟩
  · have hi2 : (L ++ [(e, k)])[i]? = some (e1, w) := hi
    by_cases hil : i < L.length
    · rw [List.getElem?_append_left hil] at hi2
      exact (hn _ (by omega) (by omega)).trans (mL i e1 w hi2)
    · have hi3 := (List.getElem?_eq_some_iff.mp hi2).1
      rw [List.length_append] at hi3
      have hi4 : i = L.length := by simp at hi3; omega
      subst hi4
      rw [List.getElem?_append_right (Nat.le_refl _), Nat.sub_self] at hi2
      have hi5 := Option.some.inj hi2
      cases hi5
      exact (kU_n (by omega)).trans kU_s
  · show (L ++ [(e, k)]).length ≤ 240
    rw [List.length_append]
    exact hl
  · rcases List.mem_append.mp (show p ∈ L ++ [(e, k)] from hp) with q | q
    · exact mLp p q
    · rw [List.mem_singleton.mp q]; exact ⟨he, hk⟩
theorem kPut_comm {kf : Nat → Nat → Int32} {c d k : Nat} {v w : Int32} (h : c ≠ d) : kPut (kPut kf c k v) d k w = kPut (kPut kf d k w) c k v := by
  funext z
  by_cases q1 : z = c
  · subst q1
    rw [kPut_n h, kPut_s, kPut_s, kPut_n h]
  · rw [kPut_n (f := c) q1]
    by_cases q2 : z = d
    · subst q2
      rw [kPut_s, kPut_s, kPut_n q1]
    · rw [kPut_n q2, kPut_n q2, kPut_n q1]
set_option maxRecDepth 100000 in
set_option maxHeartbeats 4000000 in
theorem c_Model_crosses {g : ks_G} {h : ks_H} {m b : Nat} {fs : List Value} {f : Nat → Int32} {se : Nat → Int32} {tu : Int32} {ki : Nat} {ma re : Int32} {kf : Nat → Nat → Int32} {L : List (Nat × Nat)} {P : List kP} {e k : Nat} (hM : h[m]? = some (ks_O 7 (ks_ref g (m + 1) :: fs))) (hS : h[m + 1]? = some (ks_I g 3400 f)) (hb : b + 340 ≤ 3400) (hmd : kMd f b (se, tu, ki, ma, re, kf, L, P)) (he : e < 15) (hk : k < ki) (hlt : ¬ kTop e L = some k → L.length < 240) : ks_Met g (yX7_crosses, cX7_crosses, 5, none) 3 0 0 [ks_ref g m, .int (nI b), .int (nI k), .int (nI e)] h (ks_Pv (fun h' => kMP g m b h h' f (se, tu, ki, ma, re, (kOver k (kf, L) e).1, (kOver k (kf, L) e).2, P))) := by
  obtain ⟨mS, m4, m5, m6, m7, m8, m9, mK, mP, mL, mki, mLl, mPl, mLp, mPp⟩ := id hmd
  dsimp only at mS m4 m5 m6 m7 m8 m9 mK mP mL mki mLl mPl mLp mPp
  refine ks_intro (by decide) (Nat.le_of_ble_eq_true rfl) (fun κ hκ hRt => ?_)
  refine ks_cv (ls := [(0, ks_ref g m), (1, .int (nI b)), (2, .int (nI k)), (3, .int (nI e))]) ?_ rfl rfl rfl
  have hF : ks_Fr h h (m + 1) (m + 2) := ks_Fr.rf
  refine ks_iload_n hκ 0 1 dX7_crosses_0 rfl ?_
  refine ks_iload_n hκ 1 2 dX7_crosses_1 rfl ?_
  refine ks_pureS2 hκ 2 dX7_crosses_2 kc_X7_28 (c_Model_kittenAt) (by decide) (Nat.le_of_ble_eq_true rfl) (by decide) (by decide) ?_
  refine ks_istore hκ 5 4 [(4, _), (0, _), (1, _), (2, _), (3, _)] dX7_crosses_5 (by decide) rfl ?_
  refine ks_aload_n hκ 7 1 dX7_crosses_7 rfl ?_
  refine ks_iload_n hκ 8 2 dX7_crosses_8 rfl ?_
  refine ks_iload_n hκ 9 3 dX7_crosses_9 rfl ?_
  refine ks_iload_n hκ 10 4 dX7_crosses_10 rfl ?_
  refine ks_pureV3 hκ 11 dX7_crosses_11 kc_X7_39 (c_Model_windsBack hM hS hb hmd he (by omega)) hM rfl (by decide) (Nat.le_of_ble_eq_true rfl) (by decide) (by decide) ?_
  refine ks_if_eq hκ 14 55 dX7_crosses_14 rfl (fun c14 => ?_) (fun c14 => ?_)
  · skip
    have hT : ¬ kTop e L = some k := fun q => by
      unfold kWB at c14
      rw [if_pos q] at c14
      exact absurd c14 (by decide)
    refine ks_aload_n hκ 55 1 dX7_crosses_55 rfl ?_
    refine ks_get hκ 56 dX7_crosses_56 kf_X7_7 hM rfl ?_
    refine ks_iload_n hκ 59 2 dX7_crosses_59 rfl ?_
    refine ks_bipush hκ 60 (nI 100) dX7_crosses_60 kq_b100 ?_
    refine ks_iaddN hκ 62 dX7_crosses_62 ?_
    refine ks_aload_n hκ 63 1 dX7_crosses_63 rfl ?_
    refine ks_get hκ 64 dX7_crosses_64 kf_X7_7 hM rfl ?_
    refine ks_iload_n hκ 67 2 dX7_crosses_67 rfl ?_
    refine ks_bipush hκ 68 (nI 8) dX7_crosses_68 kq_b8 ?_
    refine ks_iaddN hκ 70 dX7_crosses_70 ?_
    refine ks_iald hκ 71 ((b + 8)) dX7_crosses_71 hS rfl (by omega) (by decide) ?_
    have hltT := hlt hT
    refine ks_top (nI L.length) m8 ?_
    refine ks_iaddN hκ 72 dX7_crosses_72 ?_
    refine ks_bipush hκ 73 (nI 16) dX7_crosses_73 kq_b16 ?_
    refine ks_iload_n hκ 75 3 dX7_crosses_75 rfl ?_
    refine ks_imulN hκ 76 dX7_crosses_76 ?_
    refine ks_iload_n hκ 77 4 dX7_crosses_77 rfl ?_
    refine ks_iaddN hκ 78 dX7_crosses_78 ?_
    refine ks_iast hκ 79 (((b + 100) + L.length)) dX7_crosses_79 hS rfl (by omega) (by decide) ?_
    refine ks_gen (fun xh1 exh1 => ?_)
    replace hM := ks_gn exh1 (ks_nb (b := m) (i := 1) (j := 0) rfl) hM
    replace hS := ks_gs exh1 hS
    replace hF := ks_Fr.st hF exh1 (by omega) (by omega)
    clear exh1
    refine ks_aload_n hκ 80 1 dX7_crosses_80 rfl ?_
    refine ks_get hκ 81 dX7_crosses_81 kf_X7_7 hM rfl ?_
    refine ks_iload_n hκ 84 2 dX7_crosses_84 rfl ?_
    refine ks_bipush hκ 85 (nI 8) dX7_crosses_85 kq_b8 ?_
    refine ks_iaddN hκ 87 dX7_crosses_87 ?_
    refine ks_dup2 hκ 88 dX7_crosses_88 rfl rfl ?_
    refine ks_iald hκ 89 ((b + 8)) dX7_crosses_89 hS rfl (by omega) (by decide) ?_
    refine ks_top (nI L.length) ((kU_n (by omega)).trans m8) ?_
    refine ks_iconst hκ 90 (nI 1) dX7_crosses_90 kq_i1 ?_
    refine ks_iaddN hκ 91 dX7_crosses_91 ?_
    refine ks_iast hκ 92 ((b + 8)) dX7_crosses_92 hS rfl (by omega) (by decide) ?_
    refine ks_gen (fun xh2 exh2 => ?_)
    replace hM := ks_gn exh2 (ks_nb (b := m) (i := 1) (j := 0) rfl) hM
    replace hS := ks_gs exh2 hS
    replace hF := ks_Fr.st hF exh2 (by omega) (by omega)
    clear exh2
    have hmd1 := hmd.lay (e := e) (k := k) (hlt hT) he (by omega)
    refine ks_aload_n hκ 93 1 dX7_crosses_93 rfl ?_
    refine ks_get hκ 94 dX7_crosses_94 kf_X7_7 hM rfl ?_
    refine ks_iload hκ 97 0 dX7_crosses_97 rfl ?_
    refine ks_iconst hκ 99 (nI 3) dX7_crosses_99 kq_i3 ?_
    refine ks_iaddN hκ 100 dX7_crosses_100 ?_
    refine ks_dup2 hκ 101 dX7_crosses_101 rfl rfl ?_
    refine ks_iald hκ 102 (((b + 10 + 7 * k) + 3)) dX7_crosses_102 hS rfl (by omega) (by decide) ?_
    refine ks_top (kf 3 k) (hmd1.fld (c := 3) hk (by decide)) ?_
    refine ks_iconst hκ 103 (nI 1) dX7_crosses_103 kq_i1 ?_
    refine ks_isub hκ 104 dX7_crosses_104 ?_
    refine ks_iast hκ 105 (((b + 10 + 7 * k) + 3)) dX7_crosses_105 hS rfl (by omega) (by decide) ?_
    refine ks_gen (fun xh3 exh3 => ?_)
    replace hM := ks_gn exh3 (ks_nb (b := m) (i := 1) (j := 0) rfl) hM
    replace hS := ks_gs exh3 hS
    replace hF := ks_Fr.st hF exh3 (by omega) (by omega)
    clear exh3
    have hmd2 := hmd1.put (c := 3) (v := kf 3 k - nI 1) hk (by decide)
    refine ks_aload_n hκ 106 1 dX7_crosses_106 rfl ?_
    refine ks_get hκ 107 dX7_crosses_107 kf_X7_7 hM rfl ?_
    refine ks_iload hκ 110 0 dX7_crosses_110 rfl ?_
    refine ks_iconst hκ 112 (nI 4) dX7_crosses_112 kq_i4 ?_
    refine ks_iaddN hκ 113 dX7_crosses_113 ?_
    refine ks_dup2 hκ 114 dX7_crosses_114 rfl rfl ?_
    refine ks_iald hκ 115 (((b + 10 + 7 * k) + 4)) dX7_crosses_115 hS rfl (by omega) (by decide) ?_
    refine ks_top (kf 4 k) (hmd2.fld (c := 4) hk (by decide)) ?_
    refine ks_iconst hκ 116 (nI 1) dX7_crosses_116 kq_i1 ?_
    refine ks_iadd hκ 117 dX7_crosses_117 ?_
    refine ks_iast hκ 118 (((b + 10 + 7 * k) + 4)) dX7_crosses_118 hS rfl (by omega) (by decide) ?_
    refine ks_gen (fun xh4 exh4 => ?_)
    replace hM := ks_gn exh4 (ks_nb (b := m) (i := 1) (j := 0) rfl) hM
    replace hS := ks_gs exh4 hS
    replace hF := ks_Fr.st hF exh4 (by omega) (by omega)
    clear exh4
    refine ks_vret hκ 119 hRt dX7_crosses_119 (by decide) (by decide) ?_
    have hmd3 := hmd2.put (c := 4) (v := kf 4 k + nI 1) hk (by decide)
    rw [kPut_comm (by decide)] at hmd3
    have hq : kOver k (kf, L) e = (kPut (kPut kf 4 k (kf 4 k + nI 1)) 3 k (kf 3 k - nI 1), kLay L (e, k)) := if_neg hT
    rw [hq]
    exact ⟨rfl, _, hS, hF, hmd3, fun j hj => by rw [kU_n (by omega), kU_n (by omega), kU_n (by omega), kU_n (by omega)]⟩
  · skip
    have hT : kTop e L = some k := by
      by_cases q : kTop e L = some k
      · exact q
      · exact absurd (if_neg q) c14
    obtain ⟨vt, hI, hLt, -⟩ := kIdx_some hT
    have hvt := (List.getElem?_eq_some_iff.mp hLt).1
    refine ks_aload_n hκ 17 1 dX7_crosses_17 rfl ?_
    refine ks_iload_n hκ 18 2 dX7_crosses_18 rfl ?_
    refine ks_aload_n hκ 19 1 dX7_crosses_19 rfl ?_
    refine ks_iload_n hκ 20 2 dX7_crosses_20 rfl ?_
    refine ks_iload_n hκ 21 4 dX7_crosses_21 rfl ?_
    refine ks_pureV2 hκ 22 dX7_crosses_22 kc_X7_36 (c_Model_top hM hS hb hmd he) hM rfl (by decide) (Nat.le_of_ble_eq_true rfl) (by decide) (by decide) ?_
    refine ks_top (nI vt) (by rw [hI]; rfl) ?_
    refine ks_voidV2 hκ 25 dX7_crosses_25 kc_X7_43 (c_Model_removesStrand (t := vt) hM hS hb hmd hvt) hM rfl (by decide) (Nat.le_of_ble_eq_true rfl) (by decide) (by decide) (fun xh5 hp25 => ?_)
    obtain ⟨f1, hS, hF1, hmd1, hout⟩ := hp25
    replace hM := hF1.at hM (by omega)
    replace hF := hF.tr (hF1.wd (by omega) (by omega))
    refine ks_aload_n hκ 28 1 dX7_crosses_28 rfl ?_
    refine ks_get hκ 29 dX7_crosses_29 kf_X7_7 hM rfl ?_
    refine ks_iload hκ 32 0 dX7_crosses_32 rfl ?_
    refine ks_iconst hκ 34 (nI 3) dX7_crosses_34 kq_i3 ?_
    refine ks_iaddN hκ 35 dX7_crosses_35 ?_
    refine ks_dup2 hκ 36 dX7_crosses_36 rfl rfl ?_
    refine ks_iald hκ 37 (((b + 10 + 7 * k) + 3)) dX7_crosses_37 hS rfl (by omega) (by decide) ?_
    refine ks_top (kf 3 k) (hmd1.fld (c := 3) hk (by decide)) ?_
    refine ks_iconst hκ 38 (nI 1) dX7_crosses_38 kq_i1 ?_
    refine ks_iadd hκ 39 dX7_crosses_39 ?_
    refine ks_iast hκ 40 (((b + 10 + 7 * k) + 3)) dX7_crosses_40 hS rfl (by omega) (by decide) ?_
    refine ks_gen (fun xh6 exh6 => ?_)
    replace hM := ks_gn exh6 (ks_nb (b := m) (i := 1) (j := 0) rfl) hM
    replace hS := ks_gs exh6 hS
    replace hF := ks_Fr.st hF exh6 (by omega) (by omega)
    clear exh6
    have hmd2 := hmd1.put (c := 3) (v := kf 3 k + nI 1) hk (by decide)
    refine ks_aload_n hκ 41 1 dX7_crosses_41 rfl ?_
    refine ks_get hκ 42 dX7_crosses_42 kf_X7_7 hM rfl ?_
    refine ks_iload hκ 45 0 dX7_crosses_45 rfl ?_
    refine ks_iconst hκ 47 (nI 5) dX7_crosses_47 kq_i5 ?_
    refine ks_iaddN hκ 48 dX7_crosses_48 ?_
    refine ks_dup2 hκ 49 dX7_crosses_49 rfl rfl ?_
    refine ks_iald hκ 50 (((b + 10 + 7 * k) + 5)) dX7_crosses_50 hS rfl (by omega) (by decide) ?_
    refine ks_top (kf 5 k) (hmd2.fld (c := 5) hk (by decide)) ?_
    refine ks_iconst hκ 51 (nI 1) dX7_crosses_51 kq_i1 ?_
    refine ks_iadd hκ 52 dX7_crosses_52 ?_
    refine ks_iast hκ 53 (((b + 10 + 7 * k) + 5)) dX7_crosses_53 hS rfl (by omega) (by decide) ?_
    refine ks_gen (fun xh7 exh7 => ?_)
    replace hM := ks_gn exh7 (ks_nb (b := m) (i := 1) (j := 0) rfl) hM
    replace hS := ks_gs exh7 hS
    replace hF := ks_Fr.st hF exh7 (by omega) (by omega)
    clear exh7
    refine ks_vret hκ 54 hRt dX7_crosses_54 (by decide) (by decide) ?_
    have hmd3 := hmd2.put (c := 5) (v := kf 5 k + nI 1) hk (by decide)
    rw [kPut_comm (by decide)] at hmd3
    have hq : kOver k (kf, L) e = (kPut (kPut kf 5 k (kf 5 k + nI 1)) 3 k (kf 3 k + nI 1), kUnd e L) := if_pos hT
    rw [hq, show kUnd e L = L.eraseIdx vt by unfold kUnd; rw [hI]]
    exact ⟨rfl, _, hS, hF, hmd3, fun j hj => by rw [kU_n (by omega), kU_n (by omega)]; exact hout j hj⟩
