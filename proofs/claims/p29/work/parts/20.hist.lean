
/-! ROOMS: states that are made when they are wanted; the history -/
section KSN
variable {κ : ks_C} {g : ks_G} {own nm : String} {cc : ByteArray} {nL d mc ms k n : Nat} {h : ks_H} {ls : List (Nat × Value)} {st : List Value}
theorem ks_aload_nN (hκ : ks_Ok κ g own nm cc nL d mc ms) (pc : Nat) (j : Nat) {q : Fin 4} (hd : decode cc pc = .ok (.aload_n q, 1)) (hj : ls[j]? = some (q.val, .null)) (kk : ks_K κ g nL h k n (pc + 1) ls (.null :: st)) : ks_K κ g nL h k n pc ls st := by
  obtain ⟨p, l, e, R, s, m, args, below, meth, c, Q⟩ := κ
  obtain ⟨hx, hb, hrest⟩ := hκ
  exact fun H locs la hR hS hl => lv_aload_nN hx hb hd rfl (lv_at hl j hj) (kk H locs la hR hS hl)
theorem ks_astore_nN (hκ : ks_Ok κ g own nm cc nL d mc ms) (pc : Nat) (i : Nat) {q : Fin 4} (lv : List (Nat × Value)) (hd : decode cc pc = .ok (.astore_n q, 1)) (hq : (q : Nat) = i) (hn : i < nL) (hl0 : (i, .null) :: ls.filter (fun q => !(q.1 == i) && !(q.1 + 1 == i && q.2.category == 2)) = lv) (kk : ks_K κ g nL h k n (pc + 1) lv st) : ks_K κ g nL h k n pc ls (.null :: st) := by
  obtain ⟨p, l, e, R, s, m, args, below, meth, c, Q⟩ := κ
  obtain ⟨hx, hb, hrest⟩ := hκ
  exact fun H locs la hR hS hl => lv_astore_nN hx hb hd hq hl hn hl0 (fun la' hl' => kk H locs la' hR hS hl')
end KSN
def kRoomQ (g : ks_G) (h : ks_H) (ra N vj : Nat) (F : Nat → Option Nat) : Option Value → ks_H → Prop := fun v h' => ∃ a : Nat, v = some (ks_ref g a) ∧ h'[ra]? = some (ks_S g N (va_up F vj (some a))) ∧ (F vj = some a ∧ h' = h ∨ F vj = none ∧ a = h.length ∧ kStairs g h' a kNew ∧ h'.length = h.length + 16 ∧ ∀ i : Nat, i < h.length → i ≠ ra → h'[i]? = h[i]?)
set_option maxRecDepth 100000 in
set_option maxHeartbeats 4000000 in
theorem c_roomAt_some {g : ks_G} {h : ks_H} {ra N vj va : Nat} {F : Nat → Option Nat} (hA : h[ra]? = some (ks_S g N F)) (hj : vj < N) (hN : N < 100) (hFj : F vj = some va) : ks_Met g (yX6_roomAt, cX6_roomAt, 3, some (.object "KittenStairs$Stairs")) 3 16 595 [ks_ref g ra, .int (nI vj)] h (kRoomQ g h ra N vj F) := by
  refine ks_intro (by decide) (Nat.le_of_ble_eq_true rfl) (fun κ hκ hRt => ?_)
  refine ks_cv (ls := [(0, ks_ref g ra), (1, .int (nI vj))]) ?_ rfl rfl rfl
  refine ks_aload_n hκ 0 0 dX6_roomAt_0 rfl ?_
  refine ks_iload_n hκ 1 1 dX6_roomAt_1 rfl ?_
  refine ks_aald hκ 2 (vj) dX6_roomAt_2 hA rfl hj (by omega) ?_
  refine ks_cv (st := [ks_ref g va]) ?_ rfl rfl (by rw [hFj]; rfl)
  refine ks_astore_n hκ 3 2 [(2, _), (0, _), (1, _)] dX6_roomAt_3 rfl (by decide) rfl ?_
  refine ks_aload_n hκ 4 0 dX6_roomAt_4 rfl ?_
  refine ks_ifnonnull hκ 5 20 dX6_roomAt_5 rfl ?_
  refine ks_aload_n hκ 20 0 dX6_roomAt_20 rfl ?_
  refine ks_aret hκ 21 hRt dX6_roomAt_21 (by decide) (by decide) ?_
  refine ⟨va, rfl, ?_, Or.inl ⟨hFj, rfl⟩⟩
  rw [hA]
  congr 2
  funext z
  by_cases hz : z = vj
  · subst hz; simp [va_up, hFj]
  · simp [va_up, hz]
set_option maxRecDepth 100000 in
set_option maxHeartbeats 4000000 in
theorem c_roomAt_none {g : ks_G} {h : ks_H} {ra N vj : Nat} {F : Nat → Option Nat} (hA : h[ra]? = some (ks_S g N F)) (hj : vj < N) (hN : N < 100) (hFj : F vj = none) : ks_Met g (yX6_roomAt, cX6_roomAt, 3, some (.object "KittenStairs$Stairs")) 3 16 595 [ks_ref g ra, .int (nI vj)] h (kRoomQ g h ra N vj F) := by
  have hra : ra < h.length := (List.getElem?_eq_some_iff.mp hA).1
  obtain ⟨vq, hlen⟩ : ∃ vq, h.length = vq := ⟨_, rfl⟩
  refine ks_intro (by decide) (Nat.le_of_ble_eq_true rfl) (fun κ hκ hRt => ?_)
  refine ks_cv (ls := [(0, ks_ref g ra), (1, .int (nI vj))]) ?_ rfl rfl rfl
  have hX : ks_Ex h h vq := ks_Ex.rf
  have hlen0 := hlen
  refine ks_aload_n hκ 0 0 dX6_roomAt_0 rfl ?_
  refine ks_iload_n hκ 1 1 dX6_roomAt_1 rfl ?_
  refine ks_aald hκ 2 (vj) dX6_roomAt_2 hA rfl hj (by omega) ?_
  refine ks_cv (st := [.null]) ?_ rfl rfl (by rw [hFj]; rfl)
  refine ks_astore_nN hκ 3 2 [(2, _), (0, _), (1, _)] dX6_roomAt_3 rfl (by decide) rfl ?_
  refine ks_aload_nN hκ 4 0 dX6_roomAt_4 rfl ?_
  refine ks_ifnonnullN hκ 5 dX6_roomAt_5 ?_
  refine ks_newB hκ 8 hlen dX6_roomAt_8 kn_X6_9 rfl (by decide) (by decide) (fun xh1 exh1 => ?_)
  replace hA := ks_gb exh1 hA
  have hB := ks_ga exh1 hlen
  replace hX := ks_Ex.ps hX exh1 (by omega)
  replace hlen := ks_gl exh1 hlen
  clear exh1
  refine ks_dup hκ 11 dX6_roomAt_11 rfl ?_
  refine ks_callI0 hκ 12 dX6_roomAt_12 kc_X6_11 (c_Stairs_init hB hlen) (by decide) (by decide) (by decide) (Nat.le_of_ble_eq_true rfl) (fun v12 xh2 hp12 => ?_)
  obtain ⟨rfl, hnew, hX9, hlen2⟩ := hp12
  have hS0 := hnew.1
  replace hA := (hX9 _ (by omega)).trans hA
  replace hX := hX.tr (hX9.wd (by omega))
  refine ks_astore_n hκ 15 2 [(2, _), (0, _), (1, _)] dX6_roomAt_15 rfl (by decide) rfl ?_
  refine ks_aload_n hκ 16 1 dX6_roomAt_16 rfl ?_
  refine ks_iload_n hκ 17 2 dX6_roomAt_17 rfl ?_
  refine ks_aload_n hκ 18 0 dX6_roomAt_18 rfl ?_
  have hX1 := hX
  refine ks_aast hκ 19 (vj) dX6_roomAt_19 hA hS0 rfl hj (by omega) ?_
  refine ks_gen (fun xh3 exh3 => ?_)
  replace hA := ks_gs exh3 hA
  replace hS0 := ks_gn exh3 (by omega) hS0
  replace hnew := hnew.fr (ks_Fr.one exh3) (by omega)
  refine ks_aload_n hκ 20 0 dX6_roomAt_20 rfl ?_
  refine ks_aret hκ 21 hRt dX6_roomAt_21 (by decide) (by decide) ?_
  refine ⟨vq, rfl, hA, Or.inr ⟨hFj, hlen0.symm, hnew, ?_, ?_⟩⟩
  · rw [exh3, List.length_set, hlen2, hlen0]
  · intro i hi hne
    rw [exh3, List.getElem?_set_ne (Ne.symm hne)]
    exact hX1 i (by omega)
