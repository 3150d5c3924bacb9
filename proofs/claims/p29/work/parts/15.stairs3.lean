/-! what changes Stairs -/
def kPut (kf : Nat → Nat → Int32) (f k : Nat) (v : Int32) : Nat → Nat → Int32 := fun f' => if f' = f then upd (kf f) k v else kf f'
theorem kPut_s {kf : Nat → Nat → Int32} {f k : Nat} {v : Int32} : kPut kf f k v f = upd (kf f) k v := if_pos rfl
theorem kPut_n {kf : Nat → Nat → Int32} {f f' k : Nat} {v : Int32} (h : f' ≠ f) : kPut kf f k v f' = kf f' := if_neg h
/-- the place of the last strand at an edge -/
def kIdx (e : Nat) : List (Nat × Nat) → Option Nat
  | [] => none
  | p :: l => match kIdx e l with
    | some i => some (i + 1)
    | none => if p.1 = e then some 0 else none
theorem kTop_foldl (e : Nat) : ∀ (l : List (Nat × Nat)) (x : Option Nat), l.foldl (kTopS e) x = (match kTop e l with | some o => some o | none => x)
  | [], x => rfl
  | p :: l, x => by
    show l.foldl (kTopS e) (kTopS e x p) = (match l.foldl (kTopS e) (kTopS e none p) with | some o => some o | none => x)
    rw [kTop_foldl e l (kTopS e x p), kTop_foldl e l (kTopS e none p)]
    cases kTop e l with
    | some o => rfl
    | none =>
      unfold kTopS
      by_cases hp : p.1 = e
      · simp [hp]
      · simp [hp]
theorem kTop_cons (e : Nat) (p : Nat × Nat) (l : List (Nat × Nat)) : kTop e (p :: l) = (match kTop e l with | some o => some o | none => if p.1 = e then some p.2 else none) := by
  show l.foldl (kTopS e) (kTopS e none p) = _
  rw [kTop_foldl]
  rfl
theorem kIdx_top {e : Nat} : ∀ (L : List (Nat × Nat)), (match kTop e L with | some o => ∃ t, kIdx e L = some t ∧ L[t]? = some (e, o) ∧ ∀ (k : Nat) (p : Nat × Nat), t < k → L[k]? = some p → p.1 ≠ e | none => kIdx e L = none ∧ ∀ (k : Nat) (p : Nat × Nat), L[k]? = some p → p.1 ≠ e)
  | [] => ⟨rfl, fun k p h => by simp at h⟩
  | p :: l => by
    have ih := kIdx_top (e := e) l
    rw [kTop_cons]
    cases ht : kTop e l with
    | some o =>
      rw [ht] at ih
      obtain ⟨t, h1, h2, h3⟩ := ih
      refine ⟨t + 1, by rw [kIdx, h1], by rw [List.getElem?_cons_succ]; exact h2, fun k p' hk hp => ?_⟩
      obtain ⟨k', rfl⟩ : ∃ k', k = k' + 1 := ⟨k - 1, by omega⟩
      rw [List.getElem?_cons_succ] at hp
      exact h3 k' p' (by omega) hp
    | none =>
      rw [ht] at ih
      obtain ⟨h1, h2⟩ := ih
      by_cases hp : p.1 = e
      · simp only [if_pos hp]
        refine ⟨0, by rw [kIdx, h1]; exact if_pos hp, by rw [← hp]; rfl, fun k p' hk hp' => ?_⟩
        obtain ⟨k', rfl⟩ : ∃ k', k = k' + 1 := ⟨k - 1, by omega⟩
        rw [List.getElem?_cons_succ] at hp'
        exact h2 k' p' hp'
      · simp only [if_neg hp]
        refine ⟨by rw [kIdx, h1]; exact if_neg hp, fun k p' hp' => ?_⟩
        cases k with
        | zero => simp at hp'; rw [← hp']; exact hp
        | succ k' => rw [List.getElem?_cons_succ] at hp'; exact h2 k' p' hp'
theorem kIdx_some {e o : Nat} {L : List (Nat × Nat)} (h : kTop e L = some o) : ∃ t, kIdx e L = some t ∧ L[t]? = some (e, o) ∧ ∀ (k : Nat) (p : Nat × Nat), t < k → L[k]? = some p → p.1 ≠ e := by
  have := kIdx_top (e := e) L
  rw [h] at this
  exact this
def kUnd (e : Nat) (L : List (Nat × Nat)) : List (Nat × Nat) := match kIdx e L with
  | none => L
  | some t => L.eraseIdx t
/-- a kitten comes over an edge -/
def kOver (k : Nat) (q : (Nat → Nat → Int32) × List (Nat × Nat)) (e : Nat) : (Nat → Nat → Int32) × List (Nat × Nat) :=
  if kTop e q.2 = some k then (kPut (kPut q.1 5 k (q.1 5 k + nI 1)) 3 k (q.1 3 k + nI 1), kUnd e q.2)
  else (kPut (kPut q.1 4 k (q.1 4 k + nI 1)) 3 k (q.1 3 k - nI 1), kLay q.2 (e, k))
theorem kOver_0 {k : Nat} {q : (Nat → Nat → Int32) × List (Nat × Nat)} {e : Nat} : (kOver k q e).1 0 = q.1 0 := by
  unfold kOver
  split
  · simp only; rw [kPut_n (by decide), kPut_n (by decide)]
  · simp only; rw [kPut_n (by decide), kPut_n (by decide)]
/-- a leap that is not refused is made -/
def kLeap (σ : kS) (k : Nat) (x : Int32) : kS :=
  let q := (kWay (σ.2.2.2.2.2.1 0 k).toNatClampNeg (σ.2.2.2.2.2.1 0 k + x).toNatClampNeg).foldl (kOver k) (σ.2.2.2.2.2.1, σ.2.2.2.2.2.2.1)
  (σ.1, σ.2.1, σ.2.2.1, σ.2.2.2.1 + nI 1, σ.2.2.2.2.1, kPut (kPut q.1 0 k (q.1 0 k + x)) 1 k (q.1 1 k - kCost x), q.2, σ.2.2.2.2.2.2.2)
def kNewV (st vi : Int32) (f : Nat) : Int32 := match f with
  | 0 => st
  | 1 => vi
  | 2 => -6
  | 3 => nI 40
  | _ => nI 0
def kAdd (σ : kS) (st : Int32) : Int32 × kS :=
  if st < 0 then (-1, σ) else if nI 16 ≤ st then (-1, σ) else if 6 ≤ σ.2.2.1 then (-4, σ)
  else (nI σ.2.2.1, (σ.1, σ.2.1, σ.2.2.1 + 1, σ.2.2.2.1, σ.2.2.2.2.1, fun f => upd (σ.2.2.2.2.2.1 f) σ.2.2.1 (kNewV st (σ.1 3) f), σ.2.2.2.2.2.2.1, σ.2.2.2.2.2.2.2))
def kChg (σ : kS) (s v : Int32) : Int32 × kS :=
  if s < 0 then (-2, σ) else if nI 4 ≤ s then (-2, σ)
  else if v < ([1, 0, 1, 2] : List Int32).getD s.toNatClampNeg 0 then (-2, σ) else if ([8, 15, 30, 60] : List Int32).getD s.toNatClampNeg 0 < v then (-2, σ)
  else (σ.1 s.toNatClampNeg, (upd σ.1 s.toNatClampNeg v, σ.2))
def kTry (σ : kS) (k x : Int32) : Int32 × kS :=
  if kHas σ.2.2.1 k = 0 then (-1, σ) else if kIsL x = 0 then (-2, σ) else if ¬ kRef σ k.toNatClampNeg x = 0 then (-5, σ)
  else ((kLeap σ k.toNatClampNeg x).2.2.2.2.2.1 0 k.toNatClampNeg, kLeap σ k.toNatClampNeg x)
def kNap (σ : kS) (k : Int32) : Int32 × kS :=
  if kHas σ.2.2.1 k = 0 then (-1, σ) else if ¬ kNaps σ.2.2.2.2.2.1 k.toNatClampNeg = 0 then (-5, σ)
  else (σ.2.1 + σ.1 2, (σ.1, σ.2.1, σ.2.2.1, σ.2.2.2.1, σ.2.2.2.2.1, kPut σ.2.2.2.2.2.1 2 k.toNatClampNeg (σ.2.1 + σ.1 2), σ.2.2.2.2.2.2.1, σ.2.2.2.2.2.2.2))
def kSnip (σ : kS) (e k : Int32) : Int32 × kS :=
  if kIsE e = 0 then (-1, σ) else if kHas σ.2.2.1 k = 0 then (-1, σ)
  else if σ.2.2.2.2.2.2.1.length - (kCut e.toNatClampNeg k.toNatClampNeg σ.2.2.2.2.2.2.1).length = 0 then (-5, σ)
  else (nI (σ.2.2.2.2.2.2.1.length - (kCut e.toNatClampNeg k.toNatClampNeg σ.2.2.2.2.2.2.1).length), (σ.1, σ.2.1, σ.2.2.1, σ.2.2.2.1, σ.2.2.2.2.1, kPut σ.2.2.2.2.2.1 6 k.toNatClampNeg (σ.2.2.2.2.2.1 6 k.toNatClampNeg + nI (σ.2.2.2.2.2.2.1.length - (kCut e.toNatClampNeg k.toNatClampNeg σ.2.2.2.2.2.2.1).length)), kCut e.toNatClampNeg k.toNatClampNeg σ.2.2.2.2.2.2.1, σ.2.2.2.2.2.2.2))
def kPlan (σ : kS) (n k x : Int32) : Int32 × kS :=
  if kHas σ.2.2.1 k = 0 then (-1, σ) else if n < nI 1 then (-2, σ) else if nI 99 < n then (-2, σ) else if kIsL x = 0 then (-2, σ) else if 16 ≤ σ.2.2.2.2.2.2.2.length then (-4, σ)
  else (nI (σ.2.2.2.2.2.2.2.length + 1), (σ.1, σ.2.1, σ.2.2.1, σ.2.2.2.1, σ.2.2.2.2.1, σ.2.2.2.2.2.1, σ.2.2.2.2.2.2.1, kIns σ.2.2.2.2.2.2.2 (σ.2.1 + n, k.toNatClampNeg, x)))
def kWakeS (tu vi : Int32) (kf : Nat → Nat → Int32) (j : Nat) : Nat → Nat → Int32 := if kf 2 j = tu then kPut (kPut kf 2 j (-6)) 1 j vi else kf
def kWakes (ki : Nat) (tu vi : Int32) (kf : Nat → Nat → Int32) : Nat → Nat → Int32 := (List.range ki).foldl (kWakeS tu vi) kf
def kFreshS (vi : Int32) (kf : Nat → Nat → Int32) (j : Nat) : Nat → Nat → Int32 := if ¬ kNaps kf j = 0 then kf else if vi ≤ kf 1 j then kf else kPut kf 1 j (kf 1 j + nI 1)
def kFresh (ki : Nat) (vi : Int32) (kf : Nat → Nat → Int32) : Nat → Nat → Int32 := (List.range ki).foldl (kFreshS vi) kf
/-- the plans of this turn, at most n of them -/
def kRun : Nat → kS → Nat → Nat × kS
  | 0, σ, m => (m, σ)
  | n + 1, (se, tu, ki, ma, re, kf, L, P), m => match P with
    | [] => (m, (se, tu, ki, ma, re, kf, L, P))
    | p :: P' => if p.1 = tu then (if kRef (se, tu, ki, ma, re, kf, L, P') p.2.1 p.2.2 = 0 then kRun n (kLeap (se, tu, ki, ma, re, kf, L, P') p.2.1 p.2.2) (m + 1) else kRun n (se, tu, ki, ma, re + nI 1, kf, L, P') m)
      else (m, (se, tu, ki, ma, re, kf, L, P))
def kTurn (σ : kS) : Nat × kS :=
  let r := kRun 16 (σ.1, σ.2.1 + nI 1, σ.2.2.1, σ.2.2.2.1, σ.2.2.2.2.1, kWakes σ.2.2.1 (σ.2.1 + nI 1) (σ.1 3) σ.2.2.2.2.2.1, σ.2.2.2.2.2.2.1, σ.2.2.2.2.2.2.2) 0
  (r.1, (r.2.1, r.2.2.1, r.2.2.2.1, r.2.2.2.2.1, r.2.2.2.2.2.1, kFresh r.2.2.2.1 (r.2.1 3) r.2.2.2.2.2.2.1, r.2.2.2.2.2.2.2.1, r.2.2.2.2.2.2.2.2))
set_option maxRecDepth 100000 in
set_option maxHeartbeats 4000000 in
theorem c_Stairs_comeOver {g : ks_G} {h : ks_H} {b : Nat} {se : Nat → Int32} {tu : Int32} {ki : Nat} {ma re : Int32} {kf : Nat → Nat → Int32} {L : List (Nat × Nat)} {P : List kP} {k e : Nat} (hst : kStairs g h b (se, tu, ki, ma, re, kf, L, P)) (hk : k < 6) (he : e < 15) : ks_Met g (yX4_comeOver, cX4_comeOver, 3, none) 1 0 0 [ks_ref g b, .int (nI e), .int (nI k)] h (ks_Pv (fun h' => kStairs g h' b (se, tu, ki, ma, re, (kOver k (kf, L) e).1, (kOver k (kf, L) e).2, P) ∧ ks_Fr h h' b (b + 16))) := by
  have hst0 := hst
  obtain ⟨h0, h1, h2, h3, h4, h5, h6, h7, h8, hyarn, hplans, hki⟩ := hst
  dsimp only at h0 h1 h2 h3 h4 h5 h6 h7 h8 hyarn hplans hki
  obtain ⟨E, O, hY, -⟩ := id hyarn
  refine ks_intro (by decide) (Nat.le_of_ble_eq_true rfl) (fun κ hκ hRt => ?_)
  refine ks_cv (ls := [(0, ks_ref g b), (1, .int (nI e)), (2, .int (nI k))]) ?_ rfl rfl rfl
  have hF : ks_Fr h h b (b + 16) := ks_Fr.rf
  refine ks_aload_n hκ 0 0 dX4_comeOver_0 rfl ?_
  refine ks_get hκ 1 dX4_comeOver_1 kf_X4_52 h0 rfl ?_
  refine ks_iload_n hκ 4 1 dX4_comeOver_4 rfl ?_
  refine ks_pureV1 hκ 5 dX4_comeOver_5 kc_X4_160 (c_Yarn_topOwner hyarn he) hY rfl (by decide) (Nat.le_of_ble_eq_true rfl) (by decide) (by decide) ?_
  refine ks_iload_n hκ 8 2 dX4_comeOver_8 rfl ?_
  refine ks_icmp_ne hκ 9 43 dX4_comeOver_9 rfl (fun c9 => ?_) (fun c9 => ?_)
  · skip
    have htop : ¬ kTop e L = some k := mt (kON_eq (fun a ha => kTop_lt hyarn ha) hk).mpr c9
    refine ks_aload_n hκ 43 0 dX4_comeOver_43 rfl ?_
    refine ks_get hκ 44 dX4_comeOver_44 kf_X4_52 h0 rfl ?_
    refine ks_iload_n hκ 47 1 dX4_comeOver_47 rfl ?_
    refine ks_iload_n hκ 48 2 dX4_comeOver_48 rfl ?_
    refine ks_voidV2 hκ 49 dX4_comeOver_49 kc_X4_170 (c_Yarn_lay hyarn he hk) hY rfl (by decide) (Nat.le_of_ble_eq_true rfl) (by decide) (by decide) (fun xh1 hp49 => ?_)
    obtain ⟨hyarn, hF9⟩ := hp49
    replace h0 := hF9.at h0 (by omega)
    replace h1 := hF9.at h1 (by omega)
    replace h2 := hF9.at h2 (by omega)
    replace h3 := hF9.at h3 (by omega)
    replace h4 := hF9.at h4 (by omega)
    replace h5 := hF9.at h5 (by omega)
    replace h6 := hF9.at h6 (by omega)
    replace h7 := hF9.at h7 (by omega)
    replace h8 := hF9.at h8 (by omega)
    replace hplans := hplans.fr hF9 (by omega)
    replace hF := hF.tr (hF9.wd (by omega) (by omega))
    refine ks_aload_n hκ 52 0 dX4_comeOver_52 rfl ?_
    refine ks_get hκ 53 dX4_comeOver_53 kf_X4_40 h0 rfl ?_
    refine ks_iload_n hκ 56 2 dX4_comeOver_56 rfl ?_
    refine ks_dup2 hκ 57 dX4_comeOver_57 rfl rfl ?_
    refine ks_iald hκ 58 (k) dX4_comeOver_58 h6 rfl (by omega) (by decide) ?_
    refine ks_iconst hκ 59 (nI 1) dX4_comeOver_59 kq_i1 ?_
    refine ks_iadd hκ 60 dX4_comeOver_60 ?_
    refine ks_iast hκ 61 (k) dX4_comeOver_61 h6 rfl (by omega) (by decide) ?_
    refine ks_gen (fun xh2 exh2 => ?_)
    replace h0 := ks_gn exh2 (ks_nb (b := b) (i := 6) (j := 0) rfl) h0
    replace h1 := ks_gn exh2 (ks_nb (b := b) (i := 6) (j := 1) rfl) h1
    replace h2 := ks_gn exh2 (ks_nb (b := b) (i := 6) (j := 2) rfl) h2
    replace h3 := ks_gn exh2 (ks_nb (b := b) (i := 6) (j := 3) rfl) h3
    replace h4 := ks_gn exh2 (ks_nb (b := b) (i := 6) (j := 4) rfl) h4
    replace h5 := ks_gn exh2 (ks_nb (b := b) (i := 6) (j := 5) rfl) h5
    replace h6 := ks_gs exh2 h6
    replace h7 := ks_gn exh2 (ks_nb (b := b) (i := 6) (j := 7) rfl) h7
    replace h8 := ks_gn exh2 (ks_nb (b := b) (i := 6) (j := 8) rfl) h8
    replace hyarn := hyarn.fr (ks_Fr.one exh2) (by omega)
    replace hplans := hplans.fr (ks_Fr.one exh2) (by omega)
    replace hF := ks_Fr.st hF exh2 (by omega) (by omega)
    clear exh2
    refine ks_aload_n hκ 62 0 dX4_comeOver_62 rfl ?_
    refine ks_get hκ 63 dX4_comeOver_63 kf_X4_37 h0 rfl ?_
    refine ks_iload_n hκ 66 2 dX4_comeOver_66 rfl ?_
    refine ks_dup2 hκ 67 dX4_comeOver_67 rfl rfl ?_
    refine ks_iald hκ 68 (k) dX4_comeOver_68 h5 rfl (by omega) (by decide) ?_
    refine ks_iconst hκ 69 (nI 1) dX4_comeOver_69 kq_i1 ?_
    refine ks_isub hκ 70 dX4_comeOver_70 ?_
    refine ks_iast hκ 71 (k) dX4_comeOver_71 h5 rfl (by omega) (by decide) ?_
    refine ks_gen (fun xh3 exh3 => ?_)
    replace h0 := ks_gn exh3 (ks_nb (b := b) (i := 5) (j := 0) rfl) h0
    replace h1 := ks_gn exh3 (ks_nb (b := b) (i := 5) (j := 1) rfl) h1
    replace h2 := ks_gn exh3 (ks_nb (b := b) (i := 5) (j := 2) rfl) h2
    replace h3 := ks_gn exh3 (ks_nb (b := b) (i := 5) (j := 3) rfl) h3
    replace h4 := ks_gn exh3 (ks_nb (b := b) (i := 5) (j := 4) rfl) h4
    replace h5 := ks_gs exh3 h5
    replace h6 := ks_gn exh3 (ks_nb (b := b) (i := 5) (j := 6) rfl) h6
    replace h7 := ks_gn exh3 (ks_nb (b := b) (i := 5) (j := 7) rfl) h7
    replace h8 := ks_gn exh3 (ks_nb (b := b) (i := 5) (j := 8) rfl) h8
    replace hyarn := hyarn.fr (ks_Fr.one exh3) (by omega)
    replace hplans := hplans.fr (ks_Fr.one exh3) (by omega)
    replace hF := ks_Fr.st hF exh3 (by omega) (by omega)
    clear exh3
    refine ks_vret hκ 72 hRt dX4_comeOver_72 (by decide) (by decide) ?_
    refine ⟨rfl, ?_, hF⟩
    unfold kOver
    first
      | (rw [if_pos htop]; exact ⟨h0, h1, h2, h3, h4, h5, h6, h7, h8, by unfold kUnd; rw [hvt1]; exact hyarn, hplans, hki⟩)
      | (rw [if_neg htop]; exact ⟨h0, h1, h2, h3, h4, h5, h6, h7, h8, hyarn, hplans, hki⟩)
  · skip
    have htop : kTop e L = some k := (kON_eq (fun a ha => kTop_lt hyarn ha) hk).mp c9
    obtain ⟨vt, hvt1, hvt2, hvt3⟩ := kIdx_some htop
    refine ks_aload_n hκ 12 0 dX4_comeOver_12 rfl ?_
    refine ks_get hκ 13 dX4_comeOver_13 kf_X4_52 h0 rfl ?_
    refine ks_iload_n hκ 16 1 dX4_comeOver_16 rfl ?_
    refine ks_voidV1 hκ 17 dX4_comeOver_17 kc_X4_166 (c_Yarn_removeTop hyarn he hvt2 hvt3) hY rfl (by decide) (Nat.le_of_ble_eq_true rfl) (by decide) (by decide) (fun xh4 hp17 => ?_)
    obtain ⟨hyarn, hF9⟩ := hp17
    replace h0 := hF9.at h0 (by omega)
    replace h1 := hF9.at h1 (by omega)
    replace h2 := hF9.at h2 (by omega)
    replace h3 := hF9.at h3 (by omega)
    replace h4 := hF9.at h4 (by omega)
    replace h5 := hF9.at h5 (by omega)
    replace h6 := hF9.at h6 (by omega)
    replace h7 := hF9.at h7 (by omega)
    replace h8 := hF9.at h8 (by omega)
    replace hplans := hplans.fr hF9 (by omega)
    replace hF := hF.tr (hF9.wd (by omega) (by omega))
    refine ks_aload_n hκ 20 0 dX4_comeOver_20 rfl ?_
    refine ks_get hκ 21 dX4_comeOver_21 kf_X4_43 h0 rfl ?_
    refine ks_iload_n hκ 24 2 dX4_comeOver_24 rfl ?_
    refine ks_dup2 hκ 25 dX4_comeOver_25 rfl rfl ?_
    refine ks_iald hκ 26 (k) dX4_comeOver_26 h7 rfl (by omega) (by decide) ?_
    refine ks_iconst hκ 27 (nI 1) dX4_comeOver_27 kq_i1 ?_
    refine ks_iadd hκ 28 dX4_comeOver_28 ?_
    refine ks_iast hκ 29 (k) dX4_comeOver_29 h7 rfl (by omega) (by decide) ?_
    refine ks_gen (fun xh5 exh5 => ?_)
    replace h0 := ks_gn exh5 (ks_nb (b := b) (i := 7) (j := 0) rfl) h0
    replace h1 := ks_gn exh5 (ks_nb (b := b) (i := 7) (j := 1) rfl) h1
    replace h2 := ks_gn exh5 (ks_nb (b := b) (i := 7) (j := 2) rfl) h2
    replace h3 := ks_gn exh5 (ks_nb (b := b) (i := 7) (j := 3) rfl) h3
    replace h4 := ks_gn exh5 (ks_nb (b := b) (i := 7) (j := 4) rfl) h4
    replace h5 := ks_gn exh5 (ks_nb (b := b) (i := 7) (j := 5) rfl) h5
    replace h6 := ks_gn exh5 (ks_nb (b := b) (i := 7) (j := 6) rfl) h6
    replace h7 := ks_gs exh5 h7
    replace h8 := ks_gn exh5 (ks_nb (b := b) (i := 7) (j := 8) rfl) h8
    replace hyarn := hyarn.fr (ks_Fr.one exh5) (by omega)
    replace hplans := hplans.fr (ks_Fr.one exh5) (by omega)
    replace hF := ks_Fr.st hF exh5 (by omega) (by omega)
    clear exh5
    refine ks_aload_n hκ 30 0 dX4_comeOver_30 rfl ?_
    refine ks_get hκ 31 dX4_comeOver_31 kf_X4_37 h0 rfl ?_
    refine ks_iload_n hκ 34 2 dX4_comeOver_34 rfl ?_
    refine ks_dup2 hκ 35 dX4_comeOver_35 rfl rfl ?_
    refine ks_iald hκ 36 (k) dX4_comeOver_36 h5 rfl (by omega) (by decide) ?_
    refine ks_iconst hκ 37 (nI 1) dX4_comeOver_37 kq_i1 ?_
    refine ks_iadd hκ 38 dX4_comeOver_38 ?_
    refine ks_iast hκ 39 (k) dX4_comeOver_39 h5 rfl (by omega) (by decide) ?_
    refine ks_gen (fun xh6 exh6 => ?_)
    replace h0 := ks_gn exh6 (ks_nb (b := b) (i := 5) (j := 0) rfl) h0
    replace h1 := ks_gn exh6 (ks_nb (b := b) (i := 5) (j := 1) rfl) h1
    replace h2 := ks_gn exh6 (ks_nb (b := b) (i := 5) (j := 2) rfl) h2
    replace h3 := ks_gn exh6 (ks_nb (b := b) (i := 5) (j := 3) rfl) h3
    replace h4 := ks_gn exh6 (ks_nb (b := b) (i := 5) (j := 4) rfl) h4
    replace h5 := ks_gs exh6 h5
    replace h6 := ks_gn exh6 (ks_nb (b := b) (i := 5) (j := 6) rfl) h6
    replace h7 := ks_gn exh6 (ks_nb (b := b) (i := 5) (j := 7) rfl) h7
    replace h8 := ks_gn exh6 (ks_nb (b := b) (i := 5) (j := 8) rfl) h8
    replace hyarn := hyarn.fr (ks_Fr.one exh6) (by omega)
    replace hplans := hplans.fr (ks_Fr.one exh6) (by omega)
    replace hF := ks_Fr.st hF exh6 (by omega) (by omega)
    clear exh6
    refine ks_goto hκ 40 72 dX4_comeOver_40 rfl ?_
    refine ks_vret hκ 72 hRt dX4_comeOver_72 (by decide) (by decide) ?_
    refine ⟨rfl, ?_, hF⟩
    unfold kOver
    first
      | (rw [if_pos htop]; exact ⟨h0, h1, h2, h3, h4, h5, h6, h7, h8, by unfold kUnd; rw [hvt1]; exact hyarn, hplans, hki⟩)
      | (rw [if_neg htop]; exact ⟨h0, h1, h2, h3, h4, h5, h6, h7, h8, hyarn, hplans, hki⟩)
set_option maxRecDepth 100000 in
set_option maxHeartbeats 4000000 in
theorem c_Stairs_makeLeap {g : ks_G} {h : ks_H} {b : Nat} {se : Nat → Int32} {tu : Int32} {ki : Nat} {ma re : Int32} {kf : Nat → Nat → Int32} {L : List (Nat × Nat)} {P : List kP} {k s t : Nat} (hst : kStairs g h b (se, tu, ki, ma, re, kf, L, P)) (hk : k < 6) (hs : s < 16) (ht : t < 16) (hks : kf 0 k = nI s) : ks_Met g (yX4_makeLeap, cX4_makeLeap, 5, none) 2 0 0 [ks_ref g b, .int (nI k), .int (nI t - nI s)] h (ks_Pv (fun h' => kStairs g h' b (kLeap (se, tu, ki, ma, re, kf, L, P) k (nI t - nI s)) ∧ ks_Fr h h' b (b + 16))) := by
  have hst0 := hst
  obtain ⟨h0, h1, h2, h3, h4, h5, h6, h7, h8, hyarn, hplans, hki⟩ := hst
  dsimp only at h0 h1 h2 h3 h4 h5 h6 h7 h8 hyarn hplans hki
  have hwl : (kWay s t).length < 16 := by rw [kWay_len]; split <;> omega
  refine ks_intro (by decide) (Nat.le_of_ble_eq_true rfl) (fun κ hκ hRt => ?_)
  refine ks_cv (ls := [(0, ks_ref g b), (1, .int (nI k)), (2, .int (nI t - nI s))]) ?_ rfl rfl rfl
  have hF : ks_Fr h h b (b + 16) := ks_Fr.rf
  refine ks_iload_n hκ 0 2 dX4_makeLeap_0 rfl ?_
  refine ks_abs hκ 1 dX4_makeLeap_1 kj_X4_148 ku_abss ku_mi ku_absc (by decide) (by decide) (by decide) (Nat.le_of_ble_eq_true rfl) ?_
  refine ks_top (nI (kWay s t).length) (kDiff_abs hs ht) ?_
  refine ks_istore_n hκ 4 3 [(3, _), (0, _), (1, _), (2, _)] dX4_makeLeap_4 rfl (by decide) rfl ?_
  refine ks_iconst hκ 5 (nI 0) dX4_makeLeap_5 kq_i0 ?_
  refine ks_istore hκ 6 4 [(4, _), (3, _), (0, _), (1, _), (2, _)] dX4_makeLeap_6 (by decide) rfl ?_
  have L8 : ∀ (fuel : Nat) (vi : Nat) (kf1 : Nat → Nat → Int32) (L1 : List (Nat × Nat)) (hh : ks_H) (hst : kStairs g hh b (se, tu, ki, ma, re, kf1, L1, P)) (hF : ks_Fr h hh b (b + 16)) (hks1 : kf1 0 k = nI s) (hvi : vi ≤ (kWay s t).length) (hinv : ((kWay s t).drop vi).foldl (kOver k) (kf1, L1) = (kWay s t).foldl (kOver k) (kf, L)) (hfuel : (kWay s t).length - vi < fuel), ks_K κ g 5 hh 0 0 8 [(0, ks_ref g b), (1, .int (nI k)), (2, .int (nI t - nI s)), (3, .int (nI (kWay s t).length)), (4, .int (nI vi))] [] := by
    intro fuel
    induction fuel with
    | zero => intro vi kf1 L1 hh hst hF hks1 hvi hinv hfuel; exact absurd hfuel (Nat.not_lt_zero _)
    | succ fuel ih =>
      intro vi kf1 L1 hh hst hF hks1 hvi hinv hfuel
      have hst0 := hst
      obtain ⟨h0, h1, h2, h3, h4, h5, h6, h7, h8, hyarn, hplans, hki⟩ := hst
      dsimp only at h0 h1 h2 h3 h4 h5 h6 h7 h8 hyarn hplans hki
      refine ks_iload hκ 8 4 dX4_makeLeap_8 rfl ?_
      refine ks_iload_n hκ 10 3 dX4_makeLeap_10 rfl ?_
      refine ks_icmp_ge hκ 11 37 dX4_makeLeap_11 rfl (fun c11 => ?_) (fun c11 => ?_)
      · skip
        have c11 := (nI_leI (by omega) (by omega)).mp c11
        refine ks_aload_n hκ 37 0 dX4_makeLeap_37 rfl ?_
        refine ks_get hκ 38 dX4_makeLeap_38 kf_X4_28 h0 rfl ?_
        refine ks_iload_n hκ 41 1 dX4_makeLeap_41 rfl ?_
        refine ks_dup2 hκ 42 dX4_makeLeap_42 rfl rfl ?_
        refine ks_iald hκ 43 (k) dX4_makeLeap_43 h2 rfl (by omega) (by decide) ?_
        refine ks_iload_n hκ 44 2 dX4_makeLeap_44 rfl ?_
        refine ks_iadd hκ 45 dX4_makeLeap_45 ?_
        refine ks_iast hκ 46 (k) dX4_makeLeap_46 h2 rfl (by omega) (by decide) ?_
        refine ks_gen (fun xh1 exh1 => ?_)
        replace h0 := ks_gn exh1 (ks_nb (b := b) (i := 2) (j := 0) rfl) h0
        replace h1 := ks_gn exh1 (ks_nb (b := b) (i := 2) (j := 1) rfl) h1
        replace h2 := ks_gs exh1 h2
        replace h3 := ks_gn exh1 (ks_nb (b := b) (i := 2) (j := 3) rfl) h3
        replace h4 := ks_gn exh1 (ks_nb (b := b) (i := 2) (j := 4) rfl) h4
        replace h5 := ks_gn exh1 (ks_nb (b := b) (i := 2) (j := 5) rfl) h5
        replace h6 := ks_gn exh1 (ks_nb (b := b) (i := 2) (j := 6) rfl) h6
        replace h7 := ks_gn exh1 (ks_nb (b := b) (i := 2) (j := 7) rfl) h7
        replace h8 := ks_gn exh1 (ks_nb (b := b) (i := 2) (j := 8) rfl) h8
        replace hyarn := hyarn.fr (ks_Fr.one exh1) (by omega)
        replace hplans := hplans.fr (ks_Fr.one exh1) (by omega)
        replace hF := ks_Fr.st hF exh1 (by omega) (by omega)
        clear exh1
        refine ks_aload_n hκ 47 0 dX4_makeLeap_47 rfl ?_
        refine ks_get hκ 48 dX4_makeLeap_48 kf_X4_31 h0 rfl ?_
        refine ks_iload_n hκ 51 1 dX4_makeLeap_51 rfl ?_
        refine ks_dup2 hκ 52 dX4_makeLeap_52 rfl rfl ?_
        refine ks_iald hκ 53 (k) dX4_makeLeap_53 h3 rfl (by omega) (by decide) ?_
        refine ks_iload_n hκ 54 2 dX4_makeLeap_54 rfl ?_
        refine ks_pureS1 hκ 55 dX4_makeLeap_55 kc_X4_137 (c_Stairs_cost) (by decide) (Nat.le_of_ble_eq_true rfl) (by decide) (by decide) ?_
        refine ks_isub hκ 58 dX4_makeLeap_58 ?_
        refine ks_iast hκ 59 (k) dX4_makeLeap_59 h3 rfl (by omega) (by decide) ?_
        refine ks_gen (fun xh2 exh2 => ?_)
        replace h0 := ks_gn exh2 (ks_nb (b := b) (i := 3) (j := 0) rfl) h0
        replace h1 := ks_gn exh2 (ks_nb (b := b) (i := 3) (j := 1) rfl) h1
        replace h2 := ks_gn exh2 (ks_nb (b := b) (i := 3) (j := 2) rfl) h2
        replace h3 := ks_gs exh2 h3
        replace h4 := ks_gn exh2 (ks_nb (b := b) (i := 3) (j := 4) rfl) h4
        replace h5 := ks_gn exh2 (ks_nb (b := b) (i := 3) (j := 5) rfl) h5
        replace h6 := ks_gn exh2 (ks_nb (b := b) (i := 3) (j := 6) rfl) h6
        replace h7 := ks_gn exh2 (ks_nb (b := b) (i := 3) (j := 7) rfl) h7
        replace h8 := ks_gn exh2 (ks_nb (b := b) (i := 3) (j := 8) rfl) h8
        replace hyarn := hyarn.fr (ks_Fr.one exh2) (by omega)
        replace hplans := hplans.fr (ks_Fr.one exh2) (by omega)
        replace hF := ks_Fr.st hF exh2 (by omega) (by omega)
        clear exh2
        refine ks_aload_n hκ 60 0 dX4_makeLeap_60 rfl ?_
        refine ks_dup hκ 61 dX4_makeLeap_61 rfl ?_
        refine ks_get hκ 62 dX4_makeLeap_62 kf_X4_22 h0 rfl ?_
        refine ks_iconst hκ 65 (nI 1) dX4_makeLeap_65 kq_i1 ?_
        refine ks_iadd hκ 66 dX4_makeLeap_66 ?_
        refine ks_putS hκ 67 [_, _, _, _, _, _, _, _, _, _, _, _, _, _] dX4_makeLeap_67 kf_X4_22 h0 rfl rfl (Nat.le_of_ble_eq_true rfl) rfl ?_
        refine ks_gen (fun xh3 exh3 => ?_)
        replace h0 := ks_gs exh3 h0
        replace h1 := ks_gn exh3 (ks_nb (b := b) (i := 0) (j := 1) rfl) h1
        replace h2 := ks_gn exh3 (ks_nb (b := b) (i := 0) (j := 2) rfl) h2
        replace h3 := ks_gn exh3 (ks_nb (b := b) (i := 0) (j := 3) rfl) h3
        replace h4 := ks_gn exh3 (ks_nb (b := b) (i := 0) (j := 4) rfl) h4
        replace h5 := ks_gn exh3 (ks_nb (b := b) (i := 0) (j := 5) rfl) h5
        replace h6 := ks_gn exh3 (ks_nb (b := b) (i := 0) (j := 6) rfl) h6
        replace h7 := ks_gn exh3 (ks_nb (b := b) (i := 0) (j := 7) rfl) h7
        replace h8 := ks_gn exh3 (ks_nb (b := b) (i := 0) (j := 8) rfl) h8
        replace hyarn := hyarn.fr (ks_Fr.one exh3) (by omega)
        replace hplans := hplans.fr (ks_Fr.one exh3) (by omega)
        replace hF := ks_Fr.st hF exh3 (by omega) (by omega)
        clear exh3
        refine ks_vret hκ 70 hRt dX4_makeLeap_70 (by decide) (by decide) ?_
        refine ⟨rfl, ?_, hF⟩
        rw [kdropN c11] at hinv
        have hq : (kWay s t).foldl (kOver k) (kf, L) = (kf1, L1) := hinv.symm
        have hcl : (kf 0 k).toNatClampNeg = s ∧ (kf 0 k + (nI t - nI s)).toNatClampNeg = t := ⟨by rw [hks]; exact nI_clamp (by omega), by rw [hks, Int32.add_comm, Int32.sub_add_cancel]; exact nI_clamp (by omega)⟩
        unfold kLeap
        simp only [hcl.1, hcl.2, hq]
        exact ⟨h0, h1, h2, h3, h4, h5, h6, h7, h8, hyarn, hplans, hki⟩
      · skip
        have c11 := mt (nI_leI (by omega) (by omega)).mpr c11
        obtain ⟨ve, hve⟩ := kget (L := kWay s t) (i := vi) (by omega)
        have hve15 := kWay_lt hs ht (List.mem_of_getElem? hve)
        rw [kdrop hve] at hinv
        refine ks_aload_n hκ 14 0 dX4_makeLeap_14 rfl ?_
        refine ks_aload_n hκ 15 0 dX4_makeLeap_15 rfl ?_
        refine ks_get hκ 16 dX4_makeLeap_16 kf_X4_28 h0 rfl ?_
        refine ks_iload_n hκ 19 1 dX4_makeLeap_19 rfl ?_
        refine ks_iald hκ 20 (k) dX4_makeLeap_20 h2 rfl (by omega) (by decide) ?_
        refine ks_iload_n hκ 21 2 dX4_makeLeap_21 rfl ?_
        refine ks_iload hκ 22 4 dX4_makeLeap_22 rfl ?_
        refine ks_pureS3 hκ 24 dX4_makeLeap_24 kc_X4_156 (c_Stairs_edgeOnWay) (by decide) (Nat.le_of_ble_eq_true rfl) (by decide) (by decide) ?_
        refine ks_top (nI ve) (by rw [hks1]; exact kEdge_at hs ht hve) ?_
        refine ks_iload_n hκ 27 1 dX4_makeLeap_27 rfl ?_
        refine ks_voidV2 hκ 28 dX4_makeLeap_28 kc_X4_163 (c_Stairs_comeOver hst0 hk hve15) h0 rfl (by decide) (Nat.le_of_ble_eq_true rfl) (by decide) (by decide) (fun xh4 hp28 => ?_)
        obtain ⟨hst, hF9⟩ := hp28
        have hF := hF.tr hF9
        refine ks_iinc hκ 31 4 4 (nI (vi + 1)) [(4, _), (0, _), (1, _), (2, _), (3, _)] dX4_makeLeap_31 rfl (ks_inc1 _) (by decide) rfl ?_
        refine ks_goto hκ 34 8 dX4_makeLeap_34 rfl ?_
        refine ks_pick [1, 2, 3, 4, 0] [(0, _), (1, _), (2, _), (3, _), (4, _)] rfl ?_
        exact ks_cv (ih (vi + 1) _ _ xh4 hst hF (by rw [kOver_0]; exact hks1) (by omega) (by rw [← hinv]; rfl) (by omega)) rfl rfl rfl
  refine ks_pick [2, 3, 4, 1, 0] [(0, _), (1, _), (2, _), (3, _), (4, _)] rfl ?_
  exact ks_cv (L8 _ 0 _ _ h hst0 hF hks (Nat.zero_le _) rfl (Nat.lt_succ_self _)) rfl rfl rfl
