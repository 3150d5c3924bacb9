def kUnR (H : List kS) : Int32 := match H with
  | [] => -5
  | _ :: H => nI H.length
def kUnS (σ : kS) (H : List kS) : kS := match H with
  | [] => σ
  | x :: _ => x
set_option maxRecDepth 100000 in
set_option maxHeartbeats 4000000 in
theorem c_undo {g : ks_G} {h : ks_H} {o : Nat} {X : Nat → Prop} {σ : kS} {δ : Option kS} {H : List kS} {S : Nat → Option kS} {l : List Int32} (hks : kKS g h o X σ δ H S l) : ks_Met g (yX6_undo, cX6_undo, 1, some .int) 5 16 595 [ks_ref g o] h (ks_Ph (fun r h' => r = kUnR H ∧ kKS g h' o X (kUnS σ H) none H.tail S l ∧ kFX X h h')) := by
  have hks0 := hks
  have hol := hks.len
  obtain ⟨τ, dp, F, G, Q, LT, PT, vs, vn, hO, hnow, htri, hH, hF7, hG2, hpad, hord, hrooms, hring, hX⟩ := hks
  obtain ⟨hdp, hHl, hrH, hrD, hrS⟩ := id hring
  refine ks_intro (by decide) (Nat.le_of_ble_eq_true rfl) (fun κ hκ hRt => ?_)
  refine ks_cv (ls := [(0, ks_ref g o)]) ?_ rfl rfl rfl
  refine ks_aload_n hκ 0 0 dX6_undo_0 rfl ?_
  refine ks_get hκ 1 dX6_undo_1 kf_X6_22 hO rfl ?_
  refine ks_get hκ 4 dX6_undo_4 kf_X6_184 hH rfl ?_
  refine ks_if_ne hκ 7 13 dX6_undo_7 rfl (fun c7 => ?_) (fun c7 => ?_)
  · skip
    have c7 := mt (ks_eq0 (by omega)).mpr c7
    obtain ⟨y, H1, rfl⟩ : ∃ y H1, H = y :: H1 := by
      cases H with
      | nil => exact absurd rfl c7
      | cons y H1 => exact ⟨y, H1, rfl⟩
    refine ks_aload_n hκ 13 0 dX6_undo_13 rfl ?_
    refine ks_get hκ 14 dX6_undo_14 kf_X6_22 hO rfl ?_
    refine ks_aload_n hκ 17 0 dX6_undo_17 rfl ?_
    refine ks_get hκ 18 dX6_undo_18 kf_X6_12 hO rfl ?_
    refine ks_voidV1 hκ 21 dX6_undo_21 kc_X6_230 (c_History_takeBack hks0) hH rfl (by decide) (Nat.le_of_ble_eq_true rfl) (by decide) (by decide) (fun xh1 hp21 => ?_)
    obtain ⟨hks1, hfx1⟩ := hp21
    clear hO hH
    have hks2 := hks1
    obtain ⟨τ1, dp1, F1, G1, Q1, LT1, PT1, vs1, vn1, hO, hnow1, -, hH, -, hG1, -, -, hrooms1, hring1, hX1⟩ := hks1
    have hN0 := hnow1.1
    refine ks_aload_n hκ 24 0 dX6_undo_24 rfl ?_
    refine ks_get hκ 25 dX6_undo_25 kf_X6_22 hO rfl ?_
    refine ks_get hκ 28 dX6_undo_28 kf_X6_184 hH rfl ?_
    refine ks_iret hκ 31 hRt dX6_undo_31 (by decide) (by decide) rfl ?_
    exact ⟨_, rfl, rfl, hks2, hfx1⟩
  · skip
    have c7 := (ks_eq0 (by omega)).mp c7
    have hnil : H = [] := List.length_eq_zero_iff.mp c7
    subst hnil
    refine ks_bipush hκ 10 (-5) dX6_undo_10 kq_bm5 ?_
    refine ks_iret hκ 12 hRt dX6_undo_12 (by decide) (by decide) rfl ?_
    exact ⟨_, rfl, rfl, hks0.bare, kFX.rf⟩
