
/-! P29: edges -/
def q9Th (L : List (Nat × Nat)) (n : Nat) : Int32 × Nat := (List.range n).foldl (kThS L) ((-6 : Int32), 0)
theorem q9Th_s {L : List (Nat × Nat)} {n : Nat} : q9Th L (n + 1) = kThS L (q9Th L n) n := by
  unfold q9Th
  rw [List.range_succ, List.foldl_append, List.foldl_cons, List.foldl_nil]
theorem q9ThT {L : List (Nat × Nat)} {a : Int32 × Nat} {e : Nat} (h : kAt e L ≤ a.2) : kThS L a e = a := if_pos h
theorem q9ThF {L : List (Nat × Nat)} {a : Int32 × Nat} {e : Nat} (h : ¬ kAt e L ≤ a.2) : kThS L a e = (nI e, kAt e L) := if_neg h
theorem q9Th_le {L : List (Nat × Nat)} : ∀ n, (q9Th L n).2 ≤ L.length
  | 0 => Nat.zero_le _
  | n + 1 => by
    rw [q9Th_s]
    by_cases h : kAt n L ≤ (q9Th L n).2
    · rw [q9ThT h]; exact q9Th_le n
    · rw [q9ThF h]; exact kAt_le n L
theorem q9El_mem {e r o : Nat} {L : List (Nat × Nat)} (h : (q9El e L)[r]? = some o) : ∃ p ∈ L, p.2 = o := by
  have h1 := List.mem_of_getElem? h
  unfold q9El at h1
  obtain ⟨p, hp, e1⟩ := List.mem_map.mp h1
  exact ⟨p, (List.mem_filter.mp hp).1, e1⟩
theorem q9NoNb {σ : kS} (hJ : q9J σ) {e r o p : Nat} (hr : ¬ r = 0) (ho : (q9El e σ.2.2.2.2.2.2.1)[r]? = some o) (hp : (q9El e σ.2.2.2.2.2.2.1)[r - 1]? = some p) (heq : nI o = nI p) (h0 : kSum σ.2.2.1 (σ.2.2.2.2.2.1 6) = 0) : False := by
  have hki := hJ.1.2.2.2.2.2
  have hb : ∀ {r o : Nat}, (q9El e σ.2.2.2.2.2.2.1)[r]? = some o → o < 6 := fun h => by
    obtain ⟨p, h1, h2⟩ := q9El_mem h
    have := hJ.1.2.1.2 p h1
    omega
  have ho6 := hb ho
  have hp6 := hb hp
  have h1 := (nI_eq (by omega) (by omega)).mp heq
  obtain ⟨S, s1, s2, s3⟩ := q9Sum_0 (f := σ.2.2.2.2.2.1 6) σ.2.2.1 (fun j hj => by
    obtain ⟨b, s, e3, e6, e40, e4⟩ := hJ.2.2.1.1 j hj
    exact ⟨s, by omega, e6⟩)
  rw [s2] at h0
  have h2 : S = 0 := (ks_eq0 (by omega)).mp h0
  have h3 := hJ.2.2.1.2.2 (s3 h2) e (r - 1) p hp
  rw [show r - 1 + 1 = r by omega, ho, h1] at h3
  exact h3 rfl
set_option maxRecDepth 100000 in
set_option maxHeartbeats 4000000 in
theorem l_edges {g : ks_G} {h : ks_H} {σ : kS} {H : List kS} (hks : q9K g h σ H) (hJ : q9J σ) : ks_Met g (yL_edges, cL_edges, 10, some .boolean) 6 0 0 [ks_ref g 0] h (ks_Pi (nI 1) h) := by
  refine ks_intro (by decide) (Nat.le_of_ble_eq_true rfl) (fun κ hκ hRt => ?_)
  refine ks_cv (ls := [(0, ks_ref g 0)]) ?_ rfl rfl rfl
  have hX0 := hks.ob
  have hki : σ.2.2.1 ≤ 6 := hJ.1.2.2.2.2.2
  obtain ⟨n0, hn0, hn0e⟩ := hJ.1.1.2
  obtain ⟨hyl, hye⟩ := hks.yarn
  refine ks_iconst hκ 0 (nI 0) dL_edges_0 kq_i0 ?_
  refine ks_istore_n hκ 1 1 [(1, _), (0, _)] dL_edges_1 rfl (by decide) rfl ?_
  refine ks_iconst hκ 2 (nI 0) dL_edges_2 kq_i0 ?_
  refine ks_istore_n hκ 3 2 [(2, _), (1, _), (0, _)] dL_edges_3 rfl (by decide) rfl ?_
  refine ks_bipush hκ 4 (-6) dL_edges_4 kq_bm6 ?_
  refine ks_istore_n hκ 6 3 [(3, _), (2, _), (1, _), (0, _)] dL_edges_6 rfl (by decide) rfl ?_
  refine ks_iconst hκ 7 (nI 0) dL_edges_7 kq_i0 ?_
  refine ks_istore hκ 8 4 [(4, _), (3, _), (2, _), (1, _), (0, _)] dL_edges_8 (by decide) rfl ?_
  have L10 : ∀ (fuel : Nat) (ve : Nat) (he : ve ≤ 15) (hfuel : 15 - ve < fuel), ks_K κ g 10 h 0 0 10 [(0, ks_ref g 0), (1, .int (nI (q9Cn ve σ.2.2.2.2.2.2.1))), (2, .int (nI (q9Th σ.2.2.2.2.2.2.1 ve).2)), (3, .int (q9Th σ.2.2.2.2.2.2.1 ve).1), (4, .int (nI ve))] [] := by
    intro fuel
    induction fuel with
    | zero => intro ve  he hfuel; exact absurd hfuel (Nat.not_lt_zero _)
    | succ fuel ih =>
      intro ve  he hfuel
      refine ks_iload hκ 10 4 dL_edges_10 rfl ?_
      refine ks_bipush hκ 12 (nI 15) dL_edges_12 kq_b15 ?_
      refine ks_icmp_ge hκ 14 258 dL_edges_14 rfl (fun c14 => ?_) (fun c14 => ?_)
      · skip
        have c14 := (nI_leI (by omega) (by omega)).mp c14
        have hve : ve = 15 := by omega
        subst hve
        have hcl : σ.2.2.2.2.2.2.1.length = q9Cn 15 σ.2.2.2.2.2.2.1 := q9Cn_len _ hye
        refine ks_iload_n hκ 258 1 dL_edges_258 rfl ?_
        refine ks_aload_n hκ 259 0 dL_edges_259 rfl ?_
        refine ks_iconst hκ 260 (nI 3) dL_edges_260 kq_i3 ?_
        refine ks_pureV1 hκ 261 dL_edges_261 kc_L_10 (w_count hks (by decide) (nI σ.2.2.2.2.2.2.1.length) rfl) hX0 rfl (by decide) (Nat.le_of_ble_eq_true rfl) (by decide) (by decide) ?_
        refine ks_icmp_ne hκ 264 279 dL_edges_264 rfl (fun c264 => ?_) (fun c264 => ?_)
        · exfalso
          have c264 := mt (nI_eq (by omega) (by omega)).mpr c264
          omega
        · skip
          have c264 := (nI_eq (by omega) (by omega)).mp c264
          refine ks_aload_n hκ 267 0 dL_edges_267 rfl ?_
          refine ks_pureV0 hκ 268 dL_edges_268 kc_L_37 (w_thickest hks) hX0 rfl (by decide) (Nat.le_of_ble_eq_true rfl) (by decide) (by decide) ?_
          refine ks_iload_n hκ 271 3 dL_edges_271 rfl ?_
          refine ks_icmp_ne hκ 272 279 dL_edges_272 rfl (fun c272 => ?_) (fun c272 => ?_)
          · exfalso
            exact c272 rfl
          · skip
            refine ks_iconst hκ 275 (nI 1) dL_edges_275 kq_i1 ?_
            refine ks_goto hκ 276 280 dL_edges_276 rfl ?_
            refine ks_iret hκ 280 hRt dL_edges_280 (by decide) (by decide) (by decide) ?_
            exact ⟨rfl, rfl⟩
      · skip
        have c14 := mt (nI_leI (by omega) (by omega)).mpr c14
        have hat := kAt_le ve σ.2.2.2.2.2.2.1
        have hth := q9Th_le (L := σ.2.2.2.2.2.2.1) ve
        have hprl := q9Pr_le (e := ve) (L := σ.2.2.2.2.2.2.1) σ.2.2.1 hki
        refine ks_aload_n hκ 17 0 dL_edges_17 rfl ?_
        refine ks_iload hκ 18 4 dL_edges_18 rfl ?_
        refine ks_iconst hκ 20 (nI 0) dL_edges_20 kq_i0 ?_
        refine ks_pureV2 hκ 21 dL_edges_21 kc_L_31 (w_edge hks (e := ve) (w := 0) (by omega) (by decide) (nI (kAt ve σ.2.2.2.2.2.2.1)) rfl) hX0 rfl (by decide) (Nat.le_of_ble_eq_true rfl) (by decide) (by decide) ?_
        refine ks_istore hκ 24 5 [(5, _), (0, _), (1, _), (2, _), (3, _), (4, _)] dL_edges_24 (by decide) rfl ?_
        refine ks_iconst hκ 26 (nI 0) dL_edges_26 kq_i0 ?_
        refine ks_istore hκ 27 6 [(6, _), (5, _), (0, _), (1, _), (2, _), (3, _), (4, _)] dL_edges_27 (by decide) rfl ?_
        refine ks_iconst hκ 29 (nI 0) dL_edges_29 kq_i0 ?_
        refine ks_istore hκ 30 7 [(7, _), (6, _), (5, _), (0, _), (1, _), (2, _), (3, _), (4, _)] dL_edges_30 (by decide) rfl ?_
        refine ks_iconst hκ 32 (nI 0) dL_edges_32 kq_i0 ?_
        refine ks_istore hκ 33 8 [(8, _), (7, _), (6, _), (5, _), (0, _), (1, _), (2, _), (3, _), (4, _)] dL_edges_33 (by decide) rfl ?_
        have L35 : ∀ (fuel2 : Nat) (vr : Nat) (hr : vr ≤ (kAt ve σ.2.2.2.2.2.2.1)) (hfuel2 : (kAt ve σ.2.2.2.2.2.2.1) - vr < fuel2), ks_K κ g 10 h 0 0 35 [(0, ks_ref g 0), (1, .int (nI (q9Cn ve σ.2.2.2.2.2.2.1))), (2, .int (nI (q9Th σ.2.2.2.2.2.2.1 ve).2)), (3, .int (q9Th σ.2.2.2.2.2.2.1 ve).1), (4, .int (nI ve)), (5, .int (nI (kAt ve σ.2.2.2.2.2.2.1))), (6, .int (((q9El ve σ.2.2.2.2.2.2.1).take vr).foldl (fun a o => a ||| kBit o) (nI 0))), (7, .int (nI 0)), (8, .int (nI vr))] [] := by
          intro fuel2
          induction fuel2 with
          | zero => intro vr  hr hfuel2; exact absurd hfuel2 (Nat.not_lt_zero _)
          | succ fuel2 ih2 =>
            intro vr  hr hfuel2
            refine ks_iload hκ 35 8 dL_edges_35 rfl ?_
            refine ks_iload hκ 37 5 dL_edges_37 rfl ?_
            refine ks_icmp_ge hκ 39 100 dL_edges_39 rfl (fun c39 => ?_) (fun c39 => ?_)
            · skip
              have c39 := (nI_leI (by omega) (by omega)).mp c39
              have hst2 : (((q9El ve σ.2.2.2.2.2.2.1).take vr).foldl (fun a o => a ||| kBit o) (nI 0)) = kSet ve σ.2.2.2.2.2.2.1 := by rw [q9Set, List.take_of_length_le (by rw [← q9At]; omega)]
              rw [hst2]
              refine ks_iconst hκ 100 (nI 0) dL_edges_100 kq_i0 ?_
              refine ks_istore hκ 101 8 [(8, _), (0, _), (1, _), (2, _), (3, _), (4, _), (5, _), (6, _), (7, _)] dL_edges_101 (by decide) rfl ?_
              have L103 : ∀ (fuel2 : Nat) (vk : Nat) (hk : vk ≤ σ.2.2.1) (hfuel2 : σ.2.2.1 - vk < fuel2), ks_K κ g 10 h 0 0 103 [(0, ks_ref g 0), (1, .int (nI (q9Cn ve σ.2.2.2.2.2.2.1))), (2, .int (nI (q9Th σ.2.2.2.2.2.2.1 ve).2)), (3, .int (q9Th σ.2.2.2.2.2.2.1 ve).1), (4, .int (nI ve)), (5, .int (nI (kAt ve σ.2.2.2.2.2.2.1))), (6, .int (kSet ve σ.2.2.2.2.2.2.1)), (7, .int (nI (q9Pr ve σ.2.2.2.2.2.2.1 vk))), (8, .int (nI vk))] [] := by
                intro fuel2
                induction fuel2 with
                | zero => intro vk  hk hfuel2; exact absurd hfuel2 (Nat.not_lt_zero _)
                | succ fuel2 ih2 =>
                  intro vk  hk hfuel2
                  refine ks_iload hκ 103 8 dL_edges_103 rfl ?_
                  refine ks_aload_n hκ 105 0 dL_edges_105 rfl ?_
                  refine ks_iconst hκ 106 (nI 1) dL_edges_106 kq_i1 ?_
                  refine ks_pureV1 hκ 107 dL_edges_107 kc_L_10 (w_count hks (by decide) (nI σ.2.2.1) rfl) hX0 rfl (by decide) (Nat.le_of_ble_eq_true rfl) (by decide) (by decide) ?_
                  refine ks_icmp_ge hκ 110 153 dL_edges_110 rfl (fun c110 => ?_) (fun c110 => ?_)
                  · skip
                    have c110 := (nI_leI (by omega) (by omega)).mp c110
                    have hvk : vk = σ.2.2.1 := by omega
                    subst hvk
                    refine ks_iload_n hκ 153 1 dL_edges_153 rfl ?_
                    refine ks_iload hκ 154 5 dL_edges_154 rfl ?_
                    refine ks_iaddN hκ 156 dL_edges_156 ?_
                    refine ks_istore_n hκ 157 1 [(1, _), (0, _), (2, _), (3, _), (4, _), (5, _), (6, _), (7, _), (8, _)] dL_edges_157 rfl (by decide) rfl ?_
                    refine ks_iload hκ 158 5 dL_edges_158 rfl ?_
                    refine ks_iload_n hκ 160 2 dL_edges_160 rfl ?_
                    refine ks_cut 170 ((kThS σ.2.2.2.2.2.2.1 (q9Th σ.2.2.2.2.2.2.1 ve) ve).1) 2 [] rfl ?_ (fun J161 => ?_)
                    · skip
                      refine ks_istore_n hκ 170 3 [(3, _), (1, _), (0, _), (2, _), (4, _), (5, _), (6, _), (7, _), (8, _)] dL_edges_170 rfl (by decide) rfl ?_
                      refine ks_iload hκ 171 5 dL_edges_171 rfl ?_
                      refine ks_iload_n hκ 173 3 dL_edges_173 rfl ?_
                      refine ks_cut 183 (nI (kThS σ.2.2.2.2.2.2.1 (q9Th σ.2.2.2.2.2.2.1 ve) ve).2) 2 [] rfl ?_ (fun J174 => ?_)
                      · skip
                        refine ks_istore_n hκ 183 2 [(2, _), (3, _), (1, _), (0, _), (4, _), (5, _), (6, _), (7, _), (8, _)] dL_edges_183 rfl (by decide) rfl ?_
                        refine ks_aload_n hκ 184 3 dL_edges_184 rfl ?_
                        refine ks_iload hκ 185 4 dL_edges_185 rfl ?_
                        refine ks_iconst hκ 187 (nI 1) dL_edges_187 kq_i1 ?_
                        refine ks_pureV2 hκ 188 dL_edges_188 kc_L_31 (w_edge hks (e := ve) (w := 1) (by omega) (by decide) (kON (kTop ve σ.2.2.2.2.2.2.1)) rfl) hX0 rfl (by decide) (Nat.le_of_ble_eq_true rfl) (by decide) (by decide) ?_
                        refine ks_iload hκ 191 5 dL_edges_191 rfl ?_
                        refine ks_cut 211 (kON (kTop ve σ.2.2.2.2.2.2.1)) 1 [_] rfl ?_ (fun J193 => ?_)
                        · skip
                          refine ks_icmp_ne hκ 211 250 dL_edges_211 rfl (fun c211 => ?_) (fun c211 => ?_)
                          · exfalso
                            exact c211 rfl
                          · skip
                            refine ks_aload_n hκ 214 3 dL_edges_214 rfl ?_
                            refine ks_iload hκ 215 4 dL_edges_215 rfl ?_
                            refine ks_iconst hκ 217 (nI 2) dL_edges_217 kq_i2 ?_
                            refine ks_pureV2 hκ 218 dL_edges_218 kc_L_31 (w_edge hks (e := ve) (w := 2) (by omega) (by decide) (kSet ve σ.2.2.2.2.2.2.1) rfl) hX0 rfl (by decide) (Nat.le_of_ble_eq_true rfl) (by decide) (by decide) ?_
                            refine ks_iload hκ 221 6 dL_edges_221 rfl ?_
                            refine ks_icmp_ne hκ 223 250 dL_edges_223 rfl (fun c223 => ?_) (fun c223 => ?_)
                            · exfalso
                              exact c223 rfl
                            · skip
                              refine ks_aload_n hκ 226 3 dL_edges_226 rfl ?_
                              refine ks_iload hκ 227 4 dL_edges_227 rfl ?_
                              refine ks_iconst hκ 229 (nI 3) dL_edges_229 kq_i3 ?_
                              refine ks_pureV2 hκ 230 dL_edges_230 kc_L_31 (w_edge hks (e := ve) (w := 3) (by omega) (by decide) (nI (q9Pr ve σ.2.2.2.2.2.2.1 σ.2.2.1)) (congrArg nI (q9Pairs (by omega) hki hye))) hX0 rfl (by decide) (Nat.le_of_ble_eq_true rfl) (by decide) (by decide) ?_
                              refine ks_iload hκ 233 7 dL_edges_233 rfl ?_
                              refine ks_icmp_ne hκ 235 250 dL_edges_235 rfl (fun c235 => ?_) (fun c235 => ?_)
                              · exfalso
                                have c235 := mt (nI_eq (by omega) (by omega)).mpr c235
                                omega
                              · skip
                                have c235 := (nI_eq (by omega) (by omega)).mp c235
                                refine ks_aload_n hκ 238 3 dL_edges_238 rfl ?_
                                refine ks_iload hκ 239 4 dL_edges_239 rfl ?_
                                refine ks_iload hκ 241 5 dL_edges_241 rfl ?_
                                refine ks_pureV2 hκ 243 dL_edges_243 kc_L_34 (w_strand hks (e := ve) (r := (kAt ve σ.2.2.2.2.2.2.1)) (by omega) (by omega) (-1) q9Rk_end) hX0 rfl (by decide) (Nat.le_of_ble_eq_true rfl) (by decide) (by decide) ?_
                                refine ks_iconst hκ 246 (-1) dL_edges_246 kq_im1 ?_
                                refine ks_icmp_eq hκ 247 252 dL_edges_247 rfl (fun c247 => ?_) (fun c247 => ?_)
                                · skip
                                  refine ks_iinc hκ 252 4 4 (nI (ve + 1)) [(4, _), (2, _), (3, _), (1, _), (0, _), (5, _), (6, _), (7, _), (8, _)] dL_edges_252 rfl (ks_inc1 _) (by decide) rfl ?_
                                  refine ks_goto hκ 255 10 dL_edges_255 rfl ?_
                                  refine ks_pick [4, 3, 1, 2, 0] [(0, _), (1, _), (2, _), (3, _), (4, _)] rfl ?_
                                  exact ks_cv (ih (ve + 1)  (by omega) (by omega)) rfl (by rw [q9Th_s]; rfl) rfl
                                · exfalso
                                  exact c247 rfl
                        · skip
                          refine ks_if_ne hκ 193 201 dL_edges_193 rfl (fun c193 => ?_) (fun c193 => ?_)
                          · skip
                            have c193 := mt (ks_eq0 (by omega)).mpr c193
                            refine ks_aload_n hκ 201 3 dL_edges_201 rfl ?_
                            refine ks_iload hκ 202 4 dL_edges_202 rfl ?_
                            refine ks_iload hκ 204 5 dL_edges_204 rfl ?_
                            refine ks_iconst hκ 206 (nI 1) dL_edges_206 kq_i1 ?_
                            refine ks_isubN hκ 207 dL_edges_207 (by omega) ?_
                            refine ks_pureV2 hκ 208 dL_edges_208 kc_L_34 (w_strand hks (e := ve) (r := ((kAt ve σ.2.2.2.2.2.2.1) - 1)) (by omega) (by omega) (kON (kTop ve σ.2.2.2.2.2.2.1)) (q9TopR (by omega)).symm) hX0 rfl (by decide) (Nat.le_of_ble_eq_true rfl) (by decide) (by decide) ?_
                            exact ks_top _ rfl J193
                          · skip
                            have c193 := (ks_eq0 (by omega)).mp c193
                            refine ks_bipush hκ 196 (-6) dL_edges_196 kq_bm6 ?_
                            refine ks_goto hκ 198 211 dL_edges_198 rfl ?_
                            exact ks_top _ (q9Top0 c193).symm J193
                      · skip
                        refine ks_icmp_le hκ 174 182 dL_edges_174 rfl (fun c174 => ?_) (fun c174 => ?_)
                        · skip
                          have c174 := (nI_leI (by omega) (by omega)).mp c174
                          refine ks_iload_n hκ 182 3 dL_edges_182 rfl ?_
                          exact ks_top _ (by rw [q9ThT c174]) J174
                        · skip
                          have c174 := mt (nI_leI (by omega) (by omega)).mpr c174
                          refine ks_iload hκ 177 5 dL_edges_177 rfl ?_
                          refine ks_goto hκ 179 183 dL_edges_179 rfl ?_
                          exact ks_top _ (by rw [q9ThF c174]) J174
                    · skip
                      refine ks_icmp_le hκ 161 169 dL_edges_161 rfl (fun c161 => ?_) (fun c161 => ?_)
                      · skip
                        have c161 := (nI_leI (by omega) (by omega)).mp c161
                        refine ks_iload_n hκ 169 3 dL_edges_169 rfl ?_
                        exact ks_top _ (by rw [q9ThT c161]) J161
                      · skip
                        have c161 := mt (nI_leI (by omega) (by omega)).mpr c161
                        refine ks_iload hκ 164 4 dL_edges_164 rfl ?_
                        refine ks_goto hκ 166 170 dL_edges_166 rfl ?_
                        exact ks_top _ (by rw [q9ThF c161]) J161
                  · skip
                    have c110 := mt (nI_leI (by omega) (by omega)).mpr c110
                    refine ks_iconst hκ 113 (nI 0) dL_edges_113 kq_i0 ?_
                    refine ks_istore hκ 114 9 [(9, _), (0, _), (1, _), (2, _), (3, _), (4, _), (5, _), (6, _), (7, _), (8, _)] dL_edges_114 (by decide) rfl ?_
                    have L116 : ∀ (fuel3 : Nat) (vm : Nat) (hm : vm ≤ vk) (hfuel3 : vk - vm < fuel3), ks_K κ g 10 h 0 0 116 [(0, ks_ref g 0), (1, .int (nI (q9Cn ve σ.2.2.2.2.2.2.1))), (2, .int (nI (q9Th σ.2.2.2.2.2.2.1 ve).2)), (3, .int (q9Th σ.2.2.2.2.2.2.1 ve).1), (4, .int (nI ve)), (5, .int (nI (kAt ve σ.2.2.2.2.2.2.1))), (6, .int (kSet ve σ.2.2.2.2.2.2.1)), (7, .int (nI (q9Pi ve σ.2.2.2.2.2.2.1 vk vm))), (8, .int (nI vk)), (9, .int (nI vm))] [] := by
                      intro fuel3
                      induction fuel3 with
                      | zero => intro vm  hm hfuel3; exact absurd hfuel3 (Nat.not_lt_zero _)
                      | succ fuel3 ih3 =>
                        intro vm  hm hfuel3
                        refine ks_iload hκ 116 9 dL_edges_116 rfl ?_
                        refine ks_iload hκ 118 8 dL_edges_118 rfl ?_
                        refine ks_icmp_ge hκ 120 147 dL_edges_120 rfl (fun c120 => ?_) (fun c120 => ?_)
                        · skip
                          have c120 := (nI_leI (by omega) (by omega)).mp c120
                          have hvm : vk = vm := by omega
                          subst hvm
                          refine ks_iinc hκ 147 8 8 (nI (vk + 1)) [(8, _), (0, _), (1, _), (2, _), (3, _), (4, _), (5, _), (6, _), (7, _), (9, _)] dL_edges_147 rfl (ks_inc1 _) (by decide) rfl ?_
                          refine ks_goto hκ 150 103 dL_edges_150 rfl ?_
                          refine ks_pick [1, 2, 3, 4, 5, 6, 7, 8, 0] [(0, _), (1, _), (2, _), (3, _), (4, _), (5, _), (6, _), (7, _), (8, _)] rfl ?_
                          exact ks_cv (ih2 (vk + 1)  (by omega) (by omega)) rfl (by rw [← q9Pi_e]) rfl
                        · skip
                          have c120 := mt (nI_leI (by omega) (by omega)).mpr c120
                          refine ks_iload hκ 123 7 dL_edges_123 rfl ?_
                          refine ks_aload_n hκ 125 0 dL_edges_125 rfl ?_
                          refine ks_iload hκ 126 8 dL_edges_126 rfl ?_
                          refine ks_iload hκ 128 9 dL_edges_128 rfl ?_
                          refine ks_pureV2 hκ 130 dL_edges_130 kc_L_25 (w_bound hks hJ (k := vk) (m := vm) (by omega) (by omega) (by omega) (kBes vk vm σ.2.2.2.2.2.2.1) rfl) hX0 rfl (by decide) (Nat.le_of_ble_eq_true rfl) (by decide) (by decide) ?_
                          refine ks_iload hκ 133 4 dL_edges_133 rfl ?_
                          refine ks_ishr hκ 135 dL_edges_135 ?_
                          refine ks_iconst hκ 136 (nI 1) dL_edges_136 kq_i1 ?_
                          refine ks_iand hκ 137 dL_edges_137 ?_
                          refine ks_top (nI (q9W ve σ.2.2.2.2.2.2.1 vk vm)) (q9Sh (by omega)) ?_
                          refine ks_iaddN hκ 138 dL_edges_138 ?_
                          refine ks_istore hκ 139 7 [(7, _), (0, _), (1, _), (2, _), (3, _), (4, _), (5, _), (6, _), (8, _), (9, _)] dL_edges_139 (by decide) rfl ?_
                          refine ks_iinc hκ 141 9 9 (nI (vm + 1)) [(9, _), (7, _), (0, _), (1, _), (2, _), (3, _), (4, _), (5, _), (6, _), (8, _)] dL_edges_141 rfl (ks_inc1 _) (by decide) rfl ?_
                          refine ks_goto hκ 144 116 dL_edges_144 rfl ?_
                          refine ks_pick [2, 3, 4, 5, 6, 7, 8, 1, 9, 0] [(0, _), (1, _), (2, _), (3, _), (4, _), (5, _), (6, _), (7, _), (8, _), (9, _)] rfl ?_
                          exact ks_cv (ih3 (vm + 1)  (by omega) (by omega)) rfl (by rw [q9Pi_s]) rfl
                    refine ks_pick [1, 2, 3, 4, 5, 6, 7, 8, 9, 0] [(0, _), (1, _), (2, _), (3, _), (4, _), (5, _), (6, _), (7, _), (8, _), (9, _)] rfl ?_
                    exact ks_cv (L116 _ 0  (Nat.zero_le _) (Nat.lt_succ_self _)) rfl rfl rfl
              refine ks_pick [1, 2, 3, 4, 5, 6, 7, 8, 0] [(0, _), (1, _), (2, _), (3, _), (4, _), (5, _), (6, _), (7, _), (8, _)] rfl ?_
              exact ks_cv (L103 _ 0  (Nat.zero_le _) (Nat.lt_succ_self _)) rfl rfl rfl
            · skip
              have c39 := mt (nI_leI (by omega) (by omega)).mpr c39
              obtain ⟨vo, hvo⟩ := kget (L := q9El ve σ.2.2.2.2.2.2.1) (i := vr) (by rw [← q9At]; omega)
              refine ks_iload hκ 42 6 dL_edges_42 rfl ?_
              refine ks_iconst hκ 44 (nI 1) dL_edges_44 kq_i1 ?_
              refine ks_aload_n hκ 45 0 dL_edges_45 rfl ?_
              refine ks_iload hκ 46 4 dL_edges_46 rfl ?_
              refine ks_iload hκ 48 8 dL_edges_48 rfl ?_
              refine ks_pureV2 hκ 50 dL_edges_50 kc_L_34 (w_strand hks (e := ve) (r := vr) (by omega) (by omega) (nI vo) (q9Rk_some hvo)) hX0 rfl (by decide) (Nat.le_of_ble_eq_true rfl) (by decide) (by decide) ?_
              refine ks_ishl hκ 53 dL_edges_53 ?_
              refine ks_ior hκ 54 dL_edges_54 ?_
              refine ks_istore hκ 55 6 [(6, _), (0, _), (1, _), (2, _), (3, _), (4, _), (5, _), (7, _), (8, _)] dL_edges_55 (by decide) rfl ?_
              refine ks_iload hκ 57 8 dL_edges_57 rfl ?_
              refine ks_if_le hκ 59 94 dL_edges_59 rfl (fun c59 => ?_) (fun c59 => ?_)
              · skip
                have c59 := (ks_le0 (by omega)).mp c59
                refine ks_iinc hκ 94 8 8 (nI (vr + 1)) [(8, _), (6, _), (0, _), (1, _), (2, _), (3, _), (4, _), (5, _), (7, _)] dL_edges_94 rfl (ks_inc1 _) (by decide) rfl ?_
                refine ks_goto hκ 97 35 dL_edges_97 rfl ?_
                refine ks_pick [2, 3, 4, 5, 6, 7, 1, 8, 0] [(0, _), (1, _), (2, _), (3, _), (4, _), (5, _), (6, _), (7, _), (8, _)] rfl ?_
                exact ks_cv (ih2 (vr + 1)  (by omega) (by omega)) rfl (by rw [ktake hvo, List.foldl_append]; rfl) rfl
              · skip
                have c59 := mt (ks_le0 (by omega)).mpr c59
                obtain ⟨vp, hvp⟩ := kget (L := q9El ve σ.2.2.2.2.2.2.1) (i := vr - 1) (by rw [← q9At]; omega)
                refine ks_aload_n hκ 62 1 dL_edges_62 rfl ?_
                refine ks_iload hκ 63 5 dL_edges_63 rfl ?_
                refine ks_iload hκ 65 8 dL_edges_65 rfl ?_
                refine ks_pureV2 hκ 67 dL_edges_67 kc_L_34 (w_strand hks (e := ve) (r := vr) (by omega) (by omega) (nI vo) (q9Rk_some hvo)) hX0 rfl (by decide) (Nat.le_of_ble_eq_true rfl) (by decide) (by decide) ?_
                refine ks_aload_n hκ 70 1 dL_edges_70 rfl ?_
                refine ks_iload hκ 71 5 dL_edges_71 rfl ?_
                refine ks_iload hκ 73 8 dL_edges_73 rfl ?_
                refine ks_iconst hκ 75 (nI 1) dL_edges_75 kq_i1 ?_
                refine ks_isubN hκ 76 dL_edges_76 (by omega) ?_
                refine ks_pureV2 hκ 77 dL_edges_77 kc_L_34 (w_strand hks (e := ve) (r := (vr - 1)) (by omega) (by omega) (nI vp) (q9Rk_some hvp)) hX0 rfl (by decide) (Nat.le_of_ble_eq_true rfl) (by decide) (by decide) ?_
                refine ks_icmp_ne hκ 80 94 dL_edges_80 rfl (fun c80 => ?_) (fun c80 => ?_)
                · skip
                  refine ks_iinc hκ 94 8 8 (nI (vr + 1)) [(8, _), (6, _), (0, _), (1, _), (2, _), (3, _), (4, _), (5, _), (7, _)] dL_edges_94 rfl (ks_inc1 _) (by decide) rfl ?_
                  refine ks_goto hκ 97 35 dL_edges_97 rfl ?_
                  refine ks_pick [2, 3, 4, 5, 6, 7, 1, 8, 0] [(0, _), (1, _), (2, _), (3, _), (4, _), (5, _), (6, _), (7, _), (8, _)] rfl ?_
                  exact ks_cv (ih2 (vr + 1)  (by omega) (by omega)) rfl (by rw [ktake hvo, List.foldl_append]; rfl) rfl
                · skip
                  refine ks_aload_n hκ 83 1 dL_edges_83 rfl ?_
                  refine ks_bipush hκ 84 (nI 6) dL_edges_84 kq_b6 ?_
                  refine ks_pureV1 hκ 86 dL_edges_86 kc_L_10 (w_count hks (by decide) (kSum σ.2.2.1 (σ.2.2.2.2.2.1 6)) rfl) hX0 rfl (by decide) (Nat.le_of_ble_eq_true rfl) (by decide) (by decide) ?_
                  refine ks_if_ne hκ 89 94 dL_edges_89 rfl (fun c89 => ?_) (fun c89 => ?_)
                  · skip
                    refine ks_iinc hκ 94 8 8 (nI (vr + 1)) [(8, _), (6, _), (0, _), (1, _), (2, _), (3, _), (4, _), (5, _), (7, _)] dL_edges_94 rfl (ks_inc1 _) (by decide) rfl ?_
                    refine ks_goto hκ 97 35 dL_edges_97 rfl ?_
                    refine ks_pick [2, 3, 4, 5, 6, 7, 1, 8, 0] [(0, _), (1, _), (2, _), (3, _), (4, _), (5, _), (6, _), (7, _), (8, _)] rfl ?_
                    exact ks_cv (ih2 (vr + 1)  (by omega) (by omega)) rfl (by rw [ktake hvo, List.foldl_append]; rfl) rfl
                  · exfalso
                    exact q9NoNb hJ c59 hvo hvp c80 c89
        refine ks_pick [4, 5, 6, 7, 8, 3, 2, 1, 0] [(0, _), (1, _), (2, _), (3, _), (4, _), (5, _), (6, _), (7, _), (8, _)] rfl ?_
        exact ks_cv (L35 _ 0  (Nat.zero_le _) (Nat.lt_succ_self _)) rfl rfl rfl
  refine ks_pick [4, 3, 2, 1, 0] [(0, _), (1, _), (2, _), (3, _), (4, _)] rfl ?_
  exact ks_cv (L10 _ 0  (Nat.zero_le _) (Nat.lt_succ_self _)) rfl rfl rfl
