
/-! P29: the class as the law sees it -/
def q9K (g : ks_G) (h : ks_H) (σ : kS) (H : List kS) : Prop := kKS g h 0 (fun _ => False) σ none H (fun _ => none) []
section KSJ
variable {κ : ks_C} {g : ks_G} {nL k n : Nat} {h : ks_H} {ls : List (Nat × Value)} {st : List Value}
theorem ks_cut {pc : Nat} (tgt : Nat) (w : Int32) (m : Nat) (st' : List Value) (e : st.drop m = st') (J : ks_K κ g nL h k n tgt ls (.int w :: st')) (kk : ks_K κ g nL h k n tgt ls (.int w :: st') → ks_K κ g nL h k n pc ls st) : ks_K κ g nL h k n pc ls st := kk J
theorem ks_cut0 {pc : Nat} (tgt m : Nat) (st' : List Value) (e : st.drop m = st') (J : ks_K κ g nL h k n tgt ls st') (kk : ks_K κ g nL h k n tgt ls st' → ks_K κ g nL h k n pc ls st) : ks_K κ g nL h k n pc ls st := kk J
end KSJ
theorem q9K.ob {g : ks_G} {h : ks_H} {σ : kS} {H : List kS} (x : q9K g h σ H) : h[0]? = some (ks_O 6 [ks_ref g (0 + 1), ks_ref g (0 + 17), ks_ref g (0 + 33), ks_ref g (0 + 35), ks_ref g (0 + 36), ks_ref g (0 + 38)]) := by
  obtain ⟨τ, dp, F, G, Q, LT, PT, vs, vn, hO, -⟩ := x
  exact hO
theorem q9K.hl {g : ks_G} {h : ks_H} {σ : kS} {H : List kS} (x : q9K g h σ H) : H.length ≤ 6 := by
  obtain ⟨τ, dp, F, G, Q, LT, PT, vs, vn, hO, hnow, htri, hH, hF7, hG2, hpad, hord, hrooms, ⟨h1, h2, h3⟩, hX⟩ := x
  exact h2
theorem q9K.yarn {g : ks_G} {h : ks_H} {σ : kS} {H : List kS} (x : q9K g h σ H) : σ.2.2.2.2.2.2.1.length ≤ 240 ∧ ∀ p ∈ σ.2.2.2.2.2.2.1, p.1 < 15 := by
  obtain ⟨τ, dp, F, G, Q, LT, PT, vs, vn, hO, hnow, -⟩ := x
  obtain ⟨h0, h1, h2, h3, h4, h5, h6, h7, h8, ⟨E, O, y1, y2, y3, y4, y5, y6⟩, hp, hk⟩ := hnow
  exact ⟨y5, fun p hp => (y6 p hp).1⟩
theorem q9Has {ki k : Nat} (hk : k < ki) (hki : ki ≤ 6) : ¬ kHas ki (nI k) = 0 := by
  unfold kHas
  rw [if_neg (nI_pos (by omega)), if_neg (fun q => by have := (nI_leI (by omega) (by omega)).mp q; omega)]
  decide
theorem q9HasE {ki : Nat} (hki : ki ≤ 6) : kHas ki (nI ki) = 0 := by
  unfold kHas
  rw [if_neg (nI_pos (by omega)), if_pos ((nI_leI (by omega) (by omega)).mpr (Nat.le_refl _))]
  rfl
theorem q9IsE {e : Nat} (he : e < 15) : ¬ kIsE (nI e) = 0 := by
  unfold kIsE
  rw [if_neg (nI_pos (by omega)), if_neg (fun q => by have := (nI_leI (by decide) (by omega)).mp q; omega)]
  decide
theorem w_of {g : ks_G} {h : ks_H} {σ : kS} {H : List kS} (hks : q9K g h σ H) (hJ : q9J σ) {k w : Nat} (hk : k < σ.2.2.1) (hw : w ≤ 9) (v : Int32) (hv : kOfN σ k w = v) : ks_Met g (yX6_of, cX6_of, 3, some .int) 4 0 0 [ks_ref g 0, .int (nI k), .int (nI w)] h (ks_Pi v h) := by
  obtain ⟨se, tu, ki, ma, re, kf, L, P⟩ := σ
  have hki := hJ.1.2.2.2.2.2
  have q := c_of (x := nI k) (z := nI w) hks hJ.1.1.1
  unfold kOfQ at q
  have hk2 : k < ki := hk
  rw [if_neg (q9Has hk hki), kSw_in hw (by decide), nI_clamp (by have hki2 : ki ≤ 6 := hki; omega), hv] at q
  exact q
theorem w_ofE {g : ks_G} {h : ks_H} {σ : kS} {H : List kS} (hks : q9K g h σ H) (hJ : q9J σ) {x : Int32} : ks_Met g (yX6_of, cX6_of, 3, some .int) 4 0 0 [ks_ref g 0, .int (nI σ.2.2.1), .int x] h (ks_Pi (-1) h) := by
  obtain ⟨se, tu, ki, ma, re, kf, L, P⟩ := σ
  have hki := hJ.1.2.2.2.2.2
  have q := c_of (x := nI ki) (z := x) hks hJ.1.1.1
  unfold kOfQ at q
  rw [if_pos (q9HasE hki)] at q
  exact q
theorem w_count {g : ks_G} {h : ks_H} {σ : kS} {H : List kS} (hks : q9K g h σ H) {w : Nat} (hw : w ≤ 16) (v : Int32) (hv : kCnN σ 0 H.length w = v) : ks_Met g (yX6_count, cX6_count, 2, some .int) 2 0 0 [ks_ref g 0, .int (nI w)] h (ks_Pi v h) := by
  obtain ⟨se, tu, ki, ma, re, kf, L, P⟩ := σ
  have q := c_count (x := nI w) hks
  unfold kCnQ at q
  rw [kSw_in hw (by decide)] at q
  rw [← hv]
  exact q
theorem w_bound {g : ks_G} {h : ks_H} {σ : kS} {H : List kS} (hks : q9K g h σ H) (hJ : q9J σ) {k m : Nat} (hk : k < σ.2.2.1) (hm : m < σ.2.2.1) (hkm : k ≠ m) (v : Int32) (hv : kBes k m σ.2.2.2.2.2.2.1 = v) : ks_Met g (yX6_bound, cX6_bound, 3, some .int) 1 0 0 [ks_ref g 0, .int (nI k), .int (nI m)] h (ks_Pi v h) := by
  obtain ⟨se, tu, ki, ma, re, kf, L, P⟩ := σ
  have hki : ki ≤ 6 := hJ.1.2.2.2.2.2
  have hk2 : k < ki := hk
  have hm2 : m < ki := hm
  have q := c_bound (x := nI k) (z := nI m) hks
  unfold kBnQ at q
  rw [if_neg (q9Has hk hki), if_neg (q9Has hm hki), if_neg (fun z => hkm ((nI_eq (by omega) (by omega)).mp z)), nI_clamp (by omega), nI_clamp (by omega), hv] at q
  exact q
theorem w_frees {g : ks_G} {h : ks_H} {σ : kS} {H : List kS} (hks : q9K g h σ H) (hJ : q9J σ) {k m : Nat} (hk : k < σ.2.2.1) (hm : m < σ.2.2.1) (hkm : k ≠ m) (v : Int32) (hv : kFrees σ.2.2.2.2.2.2.1 k m = v) : ks_Met g (yX6_frees, cX6_frees, 5, some .int) 3 0 0 [ks_ref g 0, .int (nI k), .int (nI m)] h (ks_Pi v h) := by
  obtain ⟨se, tu, ki, ma, re, kf, L, P⟩ := σ
  have hki : ki ≤ 6 := hJ.1.2.2.2.2.2
  have hk2 : k < ki := hk
  have hm2 : m < ki := hm
  have q := c_frees (x := nI k) (z := nI m) hks
  unfold kFrQ at q
  rw [if_neg (q9Has hk hki), if_neg (q9Has hm hki), if_neg (fun z => hkm ((nI_eq (by omega) (by omega)).mp z)), nI_clamp (by omega), nI_clamp (by omega), hv] at q
  exact q
theorem w_edge {g : ks_G} {h : ks_H} {σ : kS} {H : List kS} (hks : q9K g h σ H) {e w : Nat} (he : e < 15) (hw : w ≤ 3) (v : Int32) (hv : kEdN σ e w = v) : ks_Met g (yX6_ofEdge, cX6_ofEdge, 3, some .int) 2 0 0 [ks_ref g 0, .int (nI e), .int (nI w)] h (ks_Pi v h) := by
  obtain ⟨se, tu, ki, ma, re, kf, L, P⟩ := σ
  have q := c_ofEdge (x := nI e) (z := nI w) hks
  unfold kEdQ at q
  rw [if_neg (q9IsE he), kSw_in hw (by decide), nI_clamp (by omega), hv] at q
  exact q
theorem w_strand {g : ks_G} {h : ks_H} {σ : kS} {H : List kS} (hks : q9K g h σ H) {e r : Nat} (he : e < 15) (hr : r < 2 ^ 20) (v : Int32) (hv : q9Rk e σ.2.2.2.2.2.2.1 r = v) : ks_Met g (yX6_strand, cX6_strand, 3, some .int) 1 0 0 [ks_ref g 0, .int (nI e), .int (nI r)] h (ks_Pi v h) := by
  obtain ⟨se, tu, ki, ma, re, kf, L, P⟩ := σ
  have q := c_strand (x := nI e) (z := nI r) hks
  unfold kStQ at q
  rw [if_neg (q9IsE he), nI_clamp (by omega), q9Rank hr, hv] at q
  exact q
theorem w_planned {g : ks_G} {h : ks_H} {σ : kS} {H : List kS} (hks : q9K g h σ H) {r w : Nat} {p : kP} (hp : σ.2.2.2.2.2.2.2[r]? = some p) (hl : σ.2.2.2.2.2.2.2.length ≤ 16) (hw : w ≤ 2) (v : Int32) (hv : kPlN p w = v) : ks_Met g (yX6_planned, cX6_planned, 3, some .int) 0 0 0 [ks_ref g 0, .int (nI r), .int (nI w)] h (ks_Pi v h) := by
  obtain ⟨se, tu, ki, ma, re, kf, L, P⟩ := σ
  have hr := (List.getElem?_eq_some_iff.mp hp).1
  have hr2 : r < P.length := hr
  have hl2 : P.length ≤ 16 := hl
  have hp2 : P[r]? = some p := hp
  have q := c_planned (x := nI r) (z := nI w) hks
  unfold kPlQ at q
  dsimp only at q
  rw [if_neg (nI_pos (by omega)), if_neg (fun z => by have := (nI_leI (by omega) (by omega)).mp z; omega), nI_clamp (by omega), hp2] at q
  dsimp only at q
  rw [kSw_in hw (by decide), hv] at q
  exact q
theorem w_plannedE {g : ks_G} {h : ks_H} {σ : kS} {H : List kS} (hks : q9K g h σ H) (hl : σ.2.2.2.2.2.2.2.length ≤ 16) {x : Int32} : ks_Met g (yX6_planned, cX6_planned, 3, some .int) 0 0 0 [ks_ref g 0, .int (nI σ.2.2.2.2.2.2.2.length), .int x] h (ks_Pi (-1) h) := by
  obtain ⟨se, tu, ki, ma, re, kf, L, P⟩ := σ
  have hl2 : P.length ≤ 16 := hl
  have q := c_planned (x := nI P.length) (z := x) hks
  unfold kPlQ at q
  dsimp only at q
  rw [if_neg (nI_pos (by omega)), if_pos ((nI_leI (by omega) (by omega)).mpr (Nat.le_refl _))] at q
  exact q
theorem w_quiet {g : ks_G} {h : ks_H} {σ : kS} {H : List kS} (hks : q9K g h σ H) (v : Int32) (hv : kQuQ σ = v) : ks_Met g (yX6_quietIn, cX6_quietIn, 2, some .int) 2 0 0 [ks_ref g 0] h (ks_Pi v h) := by
  obtain ⟨se, tu, ki, ma, re, kf, L, P⟩ := σ
  have q := c_quietIn hks
  rw [hv] at q
  exact q
theorem w_thickest {g : ks_G} {h : ks_H} {σ : kS} {H : List kS} (hks : q9K g h σ H) : ks_Met g (yX6_thickest, cX6_thickest, 5, some .int) 1 0 0 [ks_ref g 0] h (ks_Pi (kThQ σ) h) := by
  obtain ⟨se, tu, ki, ma, re, kf, L, P⟩ := σ
  exact c_thickest hks
theorem w_why {g : ks_G} {h : ks_H} {σ : kS} {H : List kS} (hks : q9K g h σ H) (hJ : q9J σ) {k : Nat} {x : Int32} (hk : k < σ.2.2.1) (hx : ¬ kIsL x = 0) : ks_Met g (yX6_why, cX6_why, 3, some .int) 3 0 0 [ks_ref g 0, .int (nI k), .int x] h (ks_Pi (kRef σ k x) h) := by
  obtain ⟨se, tu, ki, ma, re, kf, L, P⟩ := σ
  have hki : ki ≤ 6 := hJ.1.2.2.2.2.2
  have hk2 : k < ki := hk
  have q := c_why (x := nI k) (z := x) hks hJ.1.1.1
  unfold kWhQ at q
  rw [if_neg (q9Has hk hki), if_neg hx, nI_clamp (by omega)] at q
  exact q
theorem w_ifLeapt {g : ks_G} {h : ks_H} {σ : kS} {H : List kS} (hks : q9K g h σ H) (hJ : q9J σ) {k w : Nat} {x : Int32} (hk : k < σ.2.2.1) (hx : ¬ kIsL x = 0) (hw : w ≤ 3) : ks_Met g (yX6_ifLeapt, cX6_ifLeapt, 4, some .int) 3 0 0 [ks_ref g 0, .int (nI k), .int x, .int (nI w)] h (ks_Ph (fun r h' => r = (if kRef σ k x = 0 then kIfN σ (kLeap σ k x) k w else -5) ∧ q9K g h' σ H)) := by
  obtain ⟨se, tu, ki, ma, re, kf, L, P⟩ := σ
  have hki : ki ≤ 6 := hJ.1.2.2.2.2.2
  have hk2 : k < ki := hk
  refine (c_ifLeapt (x := nI k) (z := x) (w := nI w) hks hJ.1.1.1).weak (fun v h' hp => ?_)
  obtain ⟨r, h1, h2, h3, h4⟩ := hp
  refine ⟨r, h1, ?_, h3⟩
  rw [h2]
  unfold kIfQ
  rw [if_neg (q9Has hk hki), if_neg hx, if_neg (nI_pos (by omega)), if_neg (fun q => by have := (nI_ltI (by decide) (by omega)).mp q; omega), nI_clamp (by omega), nI_clamp (by omega)]
  by_cases q : kRef (se, tu, ki, ma, re, kf, L, P) k x = 0
  · rw [if_neg (fun z => z q), if_pos q]
  · rw [if_pos q, if_neg q]
theorem w_stepIn {g : ks_G} {h : ks_H} {σ : kS} {H : List kS} (hks : q9K g h σ H) (hJ : q9J σ) {k d : Nat} (hk : k < σ.2.2.1) (hd : 1 ≤ d) (hd2 : d ≤ 99) : ks_Met g (yX6_stepIn, cX6_stepIn, 4, some .int) 4 0 0 [ks_ref g 0, .int (nI k), .int (nI d)] h (ks_Ph (fun r h' => r = (kPass d σ 0).2.2.2.2.2.2.1 0 k ∧ q9K g h' σ H)) := by
  obtain ⟨se, tu, ki, ma, re, kf, L, P⟩ := σ
  have hki : ki ≤ 6 := hJ.1.2.2.2.2.2
  have hk2 : k < ki := hk
  obtain ⟨n0, hn0, htu⟩ := hJ.1.1.2
  have htu : tu = nI n0 := htu
  refine (c_stepIn (x := nI k) (z := nI d) hks hJ.1.1.1 htu (show n0 ≤ 20000 by omega)).weak (fun v h' hp => ?_)
  obtain ⟨r, h1, h2, h3, h4⟩ := hp
  refine ⟨r, h1, ?_, h3⟩
  rw [h2]
  unfold kSpQ
  rw [if_neg (q9Has hk hki), if_neg (fun q => by have := (nI_ltI (by omega) (by decide)).mp q; omega), if_neg (fun q => by have := (nI_ltI (by decide) (by omega)).mp q; omega), nI_clamp (by omega), nI_clamp (by omega)]
/-- a change: what it answers, what it makes of the state -/
def q9C (g : ks_G) (σ : kS) (H : List kS) (q : Int32 × kS) : Int32 → ks_H → Prop := fun r h' => r = q.1 ∧ q9K g h' q.2 (kKeep q.1 σ H)
theorem w_set {g : ks_G} {h : ks_H} {σ : kS} {H : List kS} {x z : Int32} (hks : q9K g h σ H) : ks_Met g (yX6_set, cX6_set, 3, some .int) 5 16 595 [ks_ref g 0, .int x, .int z] h (ks_Ph (q9C g σ H (kChg σ x z))) := by
  obtain ⟨se, tu, ki, ma, re, kf, L, P⟩ := σ
  exact (c_set hks).weak (fun v h' hp => by obtain ⟨r, h1, h2, h3, h4⟩ := hp; exact ⟨r, h1, h2, h3⟩)
theorem w_kitten {g : ks_G} {h : ks_H} {σ : kS} {H : List kS} {x : Int32} (hks : q9K g h σ H) : ks_Met g (yX6_kitten, cX6_kitten, 2, some .int) 5 16 595 [ks_ref g 0, .int x] h (ks_Ph (q9C g σ H (kAdd σ x))) := by
  obtain ⟨se, tu, ki, ma, re, kf, L, P⟩ := σ
  exact (c_kitten hks).weak (fun v h' hp => by obtain ⟨r, h1, h2, h3, h4⟩ := hp; exact ⟨r, h1, h2, h3⟩)
theorem w_leap {g : ks_G} {h : ks_H} {σ : kS} {H : List kS} {x z : Int32} (hks : q9K g h σ H) (hJ : q9J σ) : ks_Met g (yX6_leap, cX6_leap, 3, some .int) 5 16 595 [ks_ref g 0, .int x, .int z] h (ks_Ph (q9C g σ H (kTry σ x z))) := by
  obtain ⟨se, tu, ki, ma, re, kf, L, P⟩ := σ
  exact (c_leap hks hJ.1.1.1).weak (fun v h' hp => by obtain ⟨r, h1, h2, h3, h4⟩ := hp; exact ⟨r, h1, h2, h3⟩)
theorem w_nap {g : ks_G} {h : ks_H} {σ : kS} {H : List kS} {x : Int32} (hks : q9K g h σ H) : ks_Met g (yX6_nap, cX6_nap, 2, some .int) 5 16 595 [ks_ref g 0, .int x] h (ks_Ph (q9C g σ H (kNap σ x))) := by
  obtain ⟨se, tu, ki, ma, re, kf, L, P⟩ := σ
  exact (c_nap hks).weak (fun v h' hp => by obtain ⟨r, h1, h2, h3, h4⟩ := hp; exact ⟨r, h1, h2, h3⟩)
theorem w_snip {g : ks_G} {h : ks_H} {σ : kS} {H : List kS} {x z : Int32} (hks : q9K g h σ H) : ks_Met g (yX6_snip, cX6_snip, 3, some .int) 5 16 595 [ks_ref g 0, .int x, .int z] h (ks_Ph (q9C g σ H (kSnip σ x z))) := by
  obtain ⟨se, tu, ki, ma, re, kf, L, P⟩ := σ
  exact (c_snip hks).weak (fun v h' hp => by obtain ⟨r, h1, h2, h3, h4⟩ := hp; exact ⟨r, h1, h2, h3⟩)
theorem w_plan {g : ks_G} {h : ks_H} {σ : kS} {H : List kS} {w x z : Int32} (hks : q9K g h σ H) : ks_Met g (yX6_plan, cX6_plan, 4, some .int) 5 16 595 [ks_ref g 0, .int w, .int x, .int z] h (ks_Ph (q9C g σ H (kPlan σ w x z))) := by
  obtain ⟨se, tu, ki, ma, re, kf, L, P⟩ := σ
  exact (c_plan hks).weak (fun v h' hp => by obtain ⟨r, h1, h2, h3, h4⟩ := hp; exact ⟨r, h1, h2, h3⟩)
theorem w_pass {g : ks_G} {h : ks_H} {σ : kS} {H : List kS} {x : Int32} (hks : q9K g h σ H) (hJ : q9J σ) : ks_Met g (yX6_pass, cX6_pass, 2, some .int) 5 16 595 [ks_ref g 0, .int x] h (ks_Ph (q9C g σ H (kPassT σ x))) := by
  obtain ⟨se, tu, ki, ma, re, kf, L, P⟩ := σ
  obtain ⟨n0, hn0, htu⟩ := hJ.1.1.2
  have htu : tu = nI n0 := htu
  exact (c_pass hks hJ.1.1.1 htu (show n0 ≤ 20000 by omega)).weak (fun v h' hp => by obtain ⟨r, h1, h2, h3, h4⟩ := hp; exact ⟨r, h1, h2, h3⟩)
theorem w_undo {g : ks_G} {h : ks_H} {σ τ : kS} {H : List kS} (hks : q9K g h σ (τ :: H)) : ks_Met g (yX6_undo, cX6_undo, 1, some .int) 5 16 595 [ks_ref g 0] h (ks_Ph (fun r h' => r = nI H.length ∧ q9K g h' τ H)) := by
  exact (c_undo hks).weak (fun v h' hp => by obtain ⟨r, h1, h2, h3, h4⟩ := hp; exact ⟨r, h1, h2, h3⟩)
