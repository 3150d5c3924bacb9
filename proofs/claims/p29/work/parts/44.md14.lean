/-! BALLS: what is left of one and its strands are 40 at most; so no strand too many is ever laid -/
def kBalQ (ki : Nat) (kf : Nat → Nat → Int32) (L : List (Nat × Nat)) : Prop := (∀ j, j < ki → ∃ c : Nat, kf 3 j = nI c ∧ c + kOf j L ≤ 40) ∧ ∀ p ∈ L, p.2 < ki
def kBal (σ : kS) : Prop := kBalQ σ.2.2.1 σ.2.2.2.2.2.1 σ.2.2.2.2.2.2.1
theorem kOf_foldl (o : Nat) : ∀ (L : List (Nat × Nat)) (a : Nat), L.foldl (kOfS o) a = a + kOf o L
  | [], a => rfl
  | p :: L, a => by
    have h1 := kOf_foldl o L (kOfS o a p)
    have h2 := kOf_foldl o L (kOfS o 0 p)
    unfold kOf
    rw [List.foldl_cons, List.foldl_cons, h1, h2]
    unfold kOfS
    split <;> omega
theorem kOf_cons {o : Nat} {p : Nat × Nat} {L : List (Nat × Nat)} : kOf o (p :: L) = (if p.2 = o then 1 else 0) + kOf o L := by
  show (p :: L).foldl (kOfS o) 0 = _
  rw [List.foldl_cons, kOf_foldl]
  unfold kOfS
  split <;> rfl
theorem kOf_snoc {o : Nat} {p : Nat × Nat} {L : List (Nat × Nat)} : kOf o (L ++ [p]) = kOf o L + if p.2 = o then 1 else 0 := by
  show (L ++ [p]).foldl (kOfS o) 0 = _
  rw [List.foldl_append, List.foldl_cons, List.foldl_nil]
  show kOfS o (kOf o L) p = _
  unfold kOfS
  split <;> rfl
theorem kOf_erase {o e k : Nat} : ∀ (L : List (Nat × Nat)) (t : Nat), L[t]? = some (e, k) → kOf o L = kOf o (L.eraseIdx t) + if k = o then 1 else 0
  | [], t, h => by simp at h
  | p :: L, 0, h => by
    have hp : p = (e, k) := Option.some.inj h
    subst hp
    rw [List.eraseIdx_cons_zero, kOf_cons]
    dsimp only
    omega
  | p :: L, t + 1, h => by
    rw [List.getElem?_cons_succ] at h
    rw [List.eraseIdx_cons_succ, kOf_cons, kOf_cons, kOf_erase L t h]
    omega
def kCnt : Nat → List (Nat × Nat) → Nat
  | 0, _ => 0
  | n + 1, L => kCnt n L + kOf n L
theorem kCnt_nil : ∀ n, kCnt n [] = 0
  | 0 => rfl
  | n + 1 => by show kCnt n [] + kOf n [] = 0; rw [kCnt_nil n]; rfl
theorem kCnt_cons {p : Nat × Nat} {L : List (Nat × Nat)} : ∀ n, kCnt n (p :: L) = kCnt n L + if p.2 < n then 1 else 0
  | 0 => by rw [if_neg (Nat.not_lt_zero _)]; rfl
  | n + 1 => by
    show kCnt n (p :: L) + kOf n (p :: L) = kCnt n L + kOf n L + _
    rw [kCnt_cons n, kOf_cons]
    by_cases h1 : p.2 = n
    · rw [if_pos h1, if_neg (by omega), if_pos (by omega)]; omega
    · rw [if_neg h1]
      by_cases h2 : p.2 < n
      · rw [if_pos h2, if_pos (by omega)]; omega
      · rw [if_neg h2, if_neg (by omega)]; omega
theorem kLen_cnt {n : Nat} : ∀ (L : List (Nat × Nat)), (∀ p ∈ L, p.2 < n) → L.length = kCnt n L
  | [], _ => (kCnt_nil n).symm
  | p :: L, h => by
    rw [List.length_cons, kCnt_cons, if_pos (h p List.mem_cons_self), kLen_cnt L (fun q hq => h q (List.mem_cons_of_mem _ hq))]
theorem kCnt_le {L : List (Nat × Nat)} : ∀ n, (∀ j, j < n → kOf j L ≤ 40) → kCnt n L ≤ 40 * n
  | 0, _ => Nat.le_refl _
  | n + 1, h => by
    show kCnt n L + kOf n L ≤ _
    have h1 := kCnt_le n (fun j hj => h j (by omega))
    have h2 := h n (by omega)
    omega
theorem kCnt_lt {L : List (Nat × Nat)} {k : Nat} : ∀ n, (∀ j, j < n → kOf j L ≤ 40) → k < n → kOf k L < 40 → kCnt n L < 40 * n
  | 0, _, hk, _ => absurd hk (Nat.not_lt_zero _)
  | n + 1, h, hk, hl => by
    show kCnt n L + kOf n L < _
    have h2 := h n (by omega)
    by_cases q : k = n
    · subst q
      have h1 := kCnt_le k (fun j hj => h j (by omega))
      omega
    · have h1 := kCnt_lt n (fun j hj => h j (by omega)) (by omega) hl
      omega
theorem kBalQ.room {ki k c : Nat} {kf : Nat → Nat → Int32} {L : List (Nat × Nat)} (h : kBalQ ki kf L) (hki : ki ≤ 6) (hk : k < ki) (hl : c + kOf k L ≤ 40) (hc : 0 < c) : L.length < 240 := by
  have h1 : ∀ j, j < ki → kOf j L ≤ 40 := fun j hj => by
    obtain ⟨c2, -, h2⟩ := h.1 j hj
    omega
  have h2 := kCnt_lt (k := k) ki h1 hk (by omega)
  rw [kLen_cnt L h.2]
  omega
theorem kTop_erase {e e1 o : Nat} (hne : ¬ e1 = e) : ∀ (L : List (Nat × Nat)) (t : Nat), L[t]? = some (e, o) → kTop e1 (L.eraseIdx t) = kTop e1 L
  | [], t, h => by simp at h
  | p :: L, 0, h => by
    have hp : p = (e, o) := Option.some.inj h
    subst hp
    rw [List.eraseIdx_cons_zero, kTop_cons]
    dsimp only
    rw [if_neg (fun q => hne q.symm)]
    cases kTop e1 L <;> rfl
  | p :: L, t + 1, h => by
    rw [List.getElem?_cons_succ] at h
    rw [List.eraseIdx_cons_succ, kTop_cons, kTop_cons, kTop_erase hne L t h]
theorem kLst_congr {L L' : List (Nat × Nat)} {k : Nat} : ∀ (es : List Nat) (x : Int32), (∀ e ∈ es, kTop e L' = kTop e L) → kLst L' k es x = kLst L k es x
  | [], _, _ => rfl
  | e :: es, x, h => by
    rw [kLst, kLst, h e List.mem_cons_self, kLst_congr es _ (fun e1 h1 => h e1 (List.mem_cons_of_mem _ h1))]
theorem kM1 {c : Nat} (h : 0 < c) : nI c + (-1 : Int32) = nI (c - 1) := ks_dec1 h
/-- one edge of a leap that the ball lasts for -/
theorem kOver_bal {ki k e : Nat} {es : List Nat} {kf : Nat → Nat → Int32} {L : List (Nat × Nat)} (hki : ki ≤ 6) (hk : k < ki) (hN : ∀ e1 ∈ es, ¬ e1 = e) (hB : kBalQ ki kf L) (hL : kLst L k (e :: es) (kf 3 k) = true) :
    (¬ kTop e L = some k → L.length < 240) ∧ kBalQ ki (kOver k (kf, L) e).1 (kOver k (kf, L) e).2 ∧ kLst (kOver k (kf, L) e).2 k es ((kOver k (kf, L) e).1 3 k) = true := by
  obtain ⟨c, hc, hcl⟩ := hB.1 k hk
  rw [kLst] at hL
  by_cases hT : kTop e L = some k
  · have hq : kOver k (kf, L) e = (kPut (kPut kf 5 k (kf 5 k + nI 1)) 3 k (kf 3 k + nI 1), kUnd e L) := if_pos hT
    obtain ⟨t, hI, hLt, -⟩ := kIdx_some hT
    rw [if_pos hT] at hL
    have hL2 : kLst L k es (kf 3 k + nI 1) = true := by
      by_cases q : kf 3 k + nI 1 < 0
      · rw [if_pos q] at hL; cases hL
      · rw [if_neg q] at hL; exact hL
    rw [hq, show kUnd e L = L.eraseIdx t by unfold kUnd; rw [hI]]
    dsimp only
    refine ⟨fun q => absurd hT q, ⟨fun j hj => ?_, fun p hp => hB.2 p (List.mem_of_mem_eraseIdx hp)⟩, ?_⟩
    · rw [kPut_s]
      have h1 := kOf_erase (o := j) L t hLt
      by_cases hjk : j = k
      · subst hjk
        rw [if_pos rfl] at h1
        exact ⟨c + 1, by rw [kU_s, hc, nI_add], by omega⟩
      · obtain ⟨c2, h2, h3⟩ := hB.1 j hj
        rw [if_neg (fun q => hjk q.symm)] at h1
        exact ⟨c2, by rw [kU_n hjk]; rw [kPut_n (by decide)]; exact h2, by omega⟩
    · rw [kPut_s, kU_s, kLst_congr es _ (fun e1 h1 => kTop_erase (hN e1 h1) L t hLt)]
      exact hL2
  · rw [if_neg hT, hc] at hL
    have hc0 : 0 < c := by
      rcases Nat.eq_zero_or_pos c with q | q
      · subst q; rw [if_pos (show nI 0 + (-1 : Int32) < 0 by decide)] at hL; cases hL
      · exact q
    have hl := hB.room hki hk hcl hc0
    have hq : kOver k (kf, L) e = (kPut (kPut kf 4 k (kf 4 k + nI 1)) 3 k (kf 3 k - nI 1), kLay L (e, k)) := if_neg hT
    have hL2 : kLst L k es (nI (c - 1)) = true := by
      rw [kM1 hc0] at hL
      by_cases q : nI (c - 1) < 0
      · rw [if_pos q] at hL; cases hL
      · rw [if_neg q] at hL; exact hL
    rw [hq, show kLay L (e, k) = L ++ [(e, k)] from if_pos hl]
    dsimp only
    have hd : kf 3 k - nI 1 = nI (c - 1) := by rw [hc]; exact pk_sub hc0
    refine ⟨fun _ => hl, ⟨fun j hj => ?_, fun p hp => ?_⟩, ?_⟩
    · rw [kPut_s, kOf_snoc]
      dsimp only
      by_cases hjk : j = k
      · subst hjk
        rw [if_pos rfl]
        exact ⟨c - 1, by rw [kU_s, hd], by omega⟩
      · obtain ⟨c2, h2, h3⟩ := hB.1 j hj
        rw [if_neg (fun q => hjk q.symm)]
        exact ⟨c2, by rw [kU_n hjk]; rw [kPut_n (by decide)]; exact h2, by omega⟩
    · rcases List.mem_append.mp hp with q | q
      · exact hB.2 p q
      · rw [List.mem_singleton.mp q]; exact hk
    · rw [kPut_s, kU_s, hd, kLst_congr (L := L) (L' := L ++ [(e, k)]) es _ (fun e1 h1 => by rw [ktop_snoc, if_neg (fun q => hN e1 h1 q.symm)])]
      exact hL2
theorem kWay_bal {ki k : Nat} (hki : ki ≤ 6) (hk : k < ki) : ∀ (es : List Nat) (kf : Nat → Nat → Int32) (L : List (Nat × Nat)), es.Nodup → kBalQ ki kf L → kLst L k es (kf 3 k) = true →
    (∀ i e, es[i]? = some e → ¬ kTop e ((es.take i).foldl (kOver k) (kf, L)).2 = some k → ((es.take i).foldl (kOver k) (kf, L)).2.length < 240) ∧ kBalQ ki (es.foldl (kOver k) (kf, L)).1 (es.foldl (kOver k) (kf, L)).2
  | [], kf, L, _, hB, _ => ⟨fun i e h => by simp at h, hB⟩
  | e :: es, kf, L, hN, hB, hL => by
    have hN2 := List.nodup_cons.mp hN
    obtain ⟨k1, k2, k3⟩ := kOver_bal hki hk (fun e1 h1 (q : e1 = e) => hN2.1 (q ▸ h1)) hB hL
    have ih := kWay_bal hki hk es _ _ hN2.2 k2 k3
    refine ⟨fun i e1 hi ht => ?_, ih.2⟩
    cases i with
    | zero =>
      cases Option.some.inj hi
      exact k1 ht
    | succ i => exact ih.1 i e1 hi ht
theorem kWay_nodup {s t : Nat} (hs : s < 16) (ht : t < 16) : (kWay s t).Nodup := by
  have q : ∀ s t : Fin 16, (kWay s.val t.val).Nodup := by decide +kernel
  exact q ⟨s, hs⟩ ⟨t, ht⟩
theorem kRef_L {σ : kS} {k : Nat} {x : Int32} (h : kRef σ k x = 0) : kLst σ.2.2.2.2.2.2.1 k (kWay (σ.2.2.2.2.2.1 0 k).toNatClampNeg (σ.2.2.2.2.2.1 0 k + x).toNatClampNeg) (σ.2.2.2.2.2.1 3 k) = true := by
  unfold kRef at h
  split at h
  · exact absurd h (by decide)
  split at h
  · exact absurd h (by decide)
  split at h
  · exact absurd h (by decide)
  split at h
  · exact absurd h (by decide)
  split at h
  · exact absurd h (by decide)
  split at h
  · exact absurd h (by decide)
  split at h
  · exact absurd h (by decide)
  split at h
  · assumption
  · exact absurd h (by decide)
theorem kLeap_bal {σ : kS} {k s t : Nat} (hB : kBal σ) (hki : σ.2.2.1 ≤ 6) (hk : k < σ.2.2.1) (hs : s < 16) (ht : t < 16) (hks : σ.2.2.2.2.2.1 0 k = nI s) (hr : kRef σ k (nI t - nI s) = 0) :
    (∀ i e, (kWay s t)[i]? = some e → ¬ kTop e (((kWay s t).take i).foldl (kOver k) (σ.2.2.2.2.2.1, σ.2.2.2.2.2.2.1)).2 = some k → (((kWay s t).take i).foldl (kOver k) (σ.2.2.2.2.2.1, σ.2.2.2.2.2.2.1)).2.length < 240) ∧ kBal (kLeap σ k (nI t - nI s)) := by
  have hcl : (σ.2.2.2.2.2.1 0 k).toNatClampNeg = s ∧ (σ.2.2.2.2.2.1 0 k + (nI t - nI s)).toNatClampNeg = t := ⟨by rw [hks]; exact nI_clamp (by omega), by rw [hks, Int32.add_comm, Int32.sub_add_cancel]; exact nI_clamp (by omega)⟩
  have hl := kRef_L hr
  rw [hcl.1, hcl.2] at hl
  have h1 := kWay_bal hki hk _ _ _ (kWay_nodup hs ht) hB hl
  refine ⟨h1.1, ?_⟩
  unfold kBal kLeap
  simp only [hcl.1, hcl.2]
  refine ⟨fun j hj => ?_, h1.2.2⟩
  rw [kPut_n (by decide), kPut_n (by decide)]
  exact h1.2.1 j hj
theorem kWakeS_3 {tu vi : Int32} {kf : Nat → Nat → Int32} {j : Nat} : kWakeS tu vi kf j 3 = kf 3 := by
  unfold kWakeS
  split
  · rw [kPut_n (by decide), kPut_n (by decide)]
  · rfl
theorem kWakes_3 {tu vi : Int32} : ∀ (l : List Nat) (kf : Nat → Nat → Int32), l.foldl (kWakeS tu vi) kf 3 = kf 3
  | [], kf => rfl
  | j :: l, kf => by rw [List.foldl_cons, kWakes_3 l, kWakeS_3]
theorem kFreshS_3 {vi : Int32} {kf : Nat → Nat → Int32} {j : Nat} : kFreshS vi kf j 3 = kf 3 := by
  unfold kFreshS
  split
  · rfl
  · split
    · rfl
    · rw [kPut_n (by decide)]
theorem kFresh_3 {vi : Int32} : ∀ (l : List Nat) (kf : Nat → Nat → Int32), l.foldl (kFreshS vi) kf 3 = kf 3
  | [], kf => rfl
  | j :: l, kf => by rw [List.foldl_cons, kFresh_3 l, kFreshS_3]
theorem kRun_bal : ∀ (n : Nat) (σ : kS) (m : Nat), kOk2 σ → σ.2.2.1 ≤ 6 → kBal σ → kBal (kRun n σ m).2
  | 0, σ, m, _, _, h => by rw [kRun_0]; exact h
  | n + 1, (se, tu, ki, ma, re, kf, L, P), m, hok, hki, h => by
    cases P with
    | nil => rw [kRun_nil]; exact h
    | cons p P =>
      by_cases h1 : p.1 = tu
      · rw [kRun_go h1]
        obtain ⟨hst, hpk⟩ := hok
        have hpk6 : p.2.1 < ki := hpk p List.mem_cons_self
        have hpk2 : ∀ q ∈ P, q.2.1 < ki := fun q hq => hpk q (List.mem_cons_of_mem _ hq)
        obtain ⟨s, hs, hs2⟩ := hst p.2.1 hpk6
        by_cases h2 : kRef (se, tu, ki, ma, re, kf, L, P) p.2.1 p.2.2 = 0
        · rw [if_pos h2]
          obtain ⟨t, ht, ht2⟩ := kRef_0 h2 hs2 hs
          rw [ht2] at h2 ⊢
          exact kRun_bal n _ _ ⟨kLeap_steps (σ := (se, tu, ki, ma, re, kf, L, P)) hst hs2 ht, hpk2⟩ hki (kLeap_bal (σ := (se, tu, ki, ma, re, kf, L, P)) h hki hpk6 hs ht hs2 h2).2
        · rw [if_neg h2]
          exact kRun_bal n _ _ ⟨hst, hpk2⟩ hki h
      · rw [kRun_ne h1]; exact h
theorem kTurn_bal {σ : kS} (hok : kOk2 σ) (hki : σ.2.2.1 ≤ 6) (h : kBal σ) : kBal (kTurn σ).2 := by
  have h1 := kRun_bal 16 (σ.1, σ.2.1 + nI 1, σ.2.2.1, σ.2.2.2.1, σ.2.2.2.2.1, kWakes σ.2.2.1 (σ.2.1 + nI 1) (σ.1 3) σ.2.2.2.2.2.1, σ.2.2.2.2.2.2.1, σ.2.2.2.2.2.2.2) 0 ⟨fun k hk => by
      show ∃ s, s < 16 ∧ kWakes σ.2.2.1 (σ.2.1 + nI 1) (σ.1 3) σ.2.2.2.2.2.1 0 k = nI s
      unfold kWakes; rw [kWakes_0]; exact hok.1 k hk, hok.2⟩ hki ⟨fun j hj => by
      show ∃ c : Nat, kWakes σ.2.2.1 (σ.2.1 + nI 1) (σ.1 3) σ.2.2.2.2.2.1 3 j = nI c ∧ _
      unfold kWakes; rw [kWakes_3]; exact h.1 j hj, h.2⟩
  unfold kTurn
  refine ⟨fun j hj => ?_, h1.2⟩
  dsimp only
  unfold kFresh
  rw [kFresh_3]
  exact h1.1 j hj
theorem kPass_bal : ∀ (n : Nat) (σ : kS) (m : Nat), kOk2 σ → σ.2.2.1 ≤ 6 → kBal σ → kBal (kPass n σ m).2
  | 0, σ, m, _, _, h => h
  | n + 1, σ, m, hok, hki, h => by
    rw [kPass]
    exact kPass_bal n _ _ (kTurn_ok hok).1 (by rw [(kTurn_ok hok).2.2.2]; exact hki) (kTurn_bal hok hki h)
