
/-! THE LAW: its loop -/
set_option maxRecDepth 100000 in
set_option maxHeartbeats 16000000 in
theorem law_loop {κ : ks_C} {g : ks_G} {nm : String} {b L : Nat} {xs : Nat → Int32} (hκ : ks_Ok κ g RL nm code 4 12 600000 7302250) (hsc : ks_Sc κ g b L xs) (hle : ks_Le κ g) (hL : L ≤ 2048) : ∀ (fuel vi : Nat) (σ : kS) (H : List kS) (S : Nat → Option kS) (l : List Int32) (h : ks_H), kKS g h 0 kXM σ none H S l → kMM g h 41 σ H S l → kIv σ → (∀ x ∈ H, kIv x) → (∀ s y, S s = some y → kIv y) → 4 * vi ≤ L → L - 4 * vi < fuel → ks_K κ g 4 h (45 + 16 * vi) (4894 + 595 * vi) 18 [(0, .ref b), (1, ks_ref g 0), (2, ks_ref g 41), (3, .int (nI (4 * vi)))] [] := by
  intro fuel
  induction fuel with
  | zero => intro vi σ H S l h _ _ _ _ _ _ hf; exact absurd hf (Nat.not_lt_zero _)
  | succ fuel ih =>
    intro vi σ H S l h hks hmm hiv hHv hSv hvi hfuel
    obtain ⟨se, tu, ki, ma, re, kf, Ls, P⟩ := σ
    have hX0 := hks.ob
    obtain ⟨fsM, hM0⟩ := hmm.ob
    refine ks_iload_n hκ 18 3 dL_law_18 rfl ?_
    refine ks_aload_nr hκ 19 0 dL_law_19 rfl ?_
    refine ks_slen hκ hsc 20 dL_law_20 ?_
    refine ks_iconst hκ 21 (nI 4) dL_law_21 kq_i4 ?_
    refine ks_isub hκ 22 dL_law_22 ?_
    refine ks_icmp_gt hκ 23 876 dL_law_23 rfl (fun c23 => ?_) (fun c23 => ?_)
    · skip
      refine ks_iconst hκ 876 (nI 1) dL_law_876 kq_i1 ?_
      exact ks_lret hle 877 dL_law_877 (by omega) (by omega)
    · skip
      have c23 := law_lt hL (by omega) c23
      refine ks_aload_nr hκ 26 0 dL_law_26 rfl ?_
      refine ks_iload_n hκ 27 3 dL_law_27 rfl ?_
      refine ks_sld hκ hsc 28 (4 * vi) (by omega) hL dL_law_28 ?_
      refine ks_bipush hκ 29 (nI 31) dL_law_29 kq_b31 ?_
      refine ks_iand hκ 31 dL_law_31 ?_
      rcases ks_sw (xs (4 * vi) &&& nI 31) 0 25 (by decide) with hs32 | hs32 | ⟨sj32, ha32, hb32, hs32⟩
      · skip
        refine ks_tableOut hκ 32 870 dL_law_32 (Or.inl hs32) rfl ?_
        refine ks_iinc hκ 870 3 3 (nI (4 * (vi + 1))) [(3, _), (0, _), (1, _), (2, _)] dL_law_870 rfl (law_inc vi) (by decide) rfl ?_
        refine ks_goto hκ 873 18 dL_law_873 rfl ?_
        refine ks_widen (45 + 16 * (vi + 1)) (4894 + 595 * (vi + 1)) (by omega) (by omega) ?_
        refine ks_pick [1, 2, 3, 0] [(0, _), (1, _), (2, _), (3, _)] rfl ?_
        exact ks_cv (ih (vi + 1) _ _ _ _ _  hks hmm hiv hHv hSv (by omega) (by omega)) rfl rfl rfl
      · skip
        refine ks_tableOut hκ 32 870 dL_law_32 (Or.inr hs32) rfl ?_
        refine ks_iinc hκ 870 3 3 (nI (4 * (vi + 1))) [(3, _), (0, _), (1, _), (2, _)] dL_law_870 rfl (law_inc vi) (by decide) rfl ?_
        refine ks_goto hκ 873 18 dL_law_873 rfl ?_
        refine ks_widen (45 + 16 * (vi + 1)) (4894 + 595 * (vi + 1)) (by omega) (by omega) ?_
        refine ks_pick [1, 2, 3, 0] [(0, _), (1, _), (2, _), (3, _)] rfl ?_
        exact ks_cv (ih (vi + 1) _ _ _ _ _  hks hmm hiv hHv hSv (by omega) (by omega)) rfl rfl rfl
      · skip
        rcases (show sj32 = 0 ∨ sj32 = 1 ∨ sj32 = 2 ∨ sj32 = 3 ∨ sj32 = 4 ∨ sj32 = 5 ∨ sj32 = 6 ∨ sj32 = 7 ∨ sj32 = 8 ∨ sj32 = 9 ∨ sj32 = 10 ∨ sj32 = 11 ∨ sj32 = 12 ∨ sj32 = 13 ∨ sj32 = 14 ∨ sj32 = 15 ∨ sj32 = 16 ∨ sj32 = 17 ∨ sj32 = 18 ∨ sj32 = 19 ∨ sj32 = 20 ∨ sj32 = 21 ∨ sj32 = 22 ∨ sj32 = 23 ∨ sj32 = 24 ∨ sj32 = 25 by omega) with rfl | rfl | rfl | rfl | rfl | rfl | rfl | rfl | rfl | rfl | rfl | rfl | rfl | rfl | rfl | rfl | rfl | rfl | rfl | rfl | rfl | rfl | rfl | rfl | rfl | rfl
        · skip
          refine ks_top (nI 0) hs32 ?_
          refine ks_tableIn hκ 32 152 dL_law_32 (off := 120) (by decide) (by decide) (by decide) rfl ?_
          refine ks_aload_n hκ 152 1 dL_law_152 rfl ?_
          refine ks_aload_nr hκ 153 0 dL_law_153 rfl ?_
          refine ks_iload_n hκ 154 3 dL_law_154 rfl ?_
          refine ks_iconst hκ 155 (nI 1) dL_law_155 kq_i1 ?_
          refine ks_iaddN hκ 156 dL_law_156 ?_
          refine ks_sld hκ hsc 157 ((4 * vi) + 1) (by omega) hL dL_law_157 ?_
          refine ks_aload_nr hκ 158 0 dL_law_158 rfl ?_
          refine ks_iload_n hκ 159 3 dL_law_159 rfl ?_
          refine ks_iconst hκ 160 (nI 2) dL_law_160 kq_i2 ?_
          refine ks_iaddN hκ 161 dL_law_161 ?_
          refine ks_sld hκ hsc 162 ((4 * vi) + 2) (by omega) hL dL_law_162 ?_
          refine ks_intcV2 hκ 163 dL_law_163 kc_L_13 (c_set hks) hX0 rfl (by decide) (Nat.le_of_ble_eq_true rfl) (by omega) (by omega) (fun r163 xh1 hp163 => ?_)
          obtain ⟨rfl, hks, hfx⟩ := hp163
          have hmm := hmm.fx hfx (fun i a b => ⟨a, b⟩)
          have hX0 := hks.ob
          obtain ⟨fsM, hM0⟩ := hmm.ob
          refine ks_aload_n hκ 166 2 dL_law_166 rfl ?_
          refine ks_aload_nr hκ 167 0 dL_law_167 rfl ?_
          refine ks_iload_n hκ 168 3 dL_law_168 rfl ?_
          refine ks_iconst hκ 169 (nI 1) dL_law_169 kq_i1 ?_
          refine ks_iaddN hκ 170 dL_law_170 ?_
          refine ks_sld hκ hsc 171 ((4 * vi) + 1) (by omega) hL dL_law_171 ?_
          refine ks_aload_nr hκ 172 0 dL_law_172 rfl ?_
          refine ks_iload_n hκ 173 3 dL_law_173 rfl ?_
          refine ks_iconst hκ 174 (nI 2) dL_law_174 kq_i2 ?_
          refine ks_iaddN hκ 175 dL_law_175 ?_
          refine ks_sld hκ hsc 176 ((4 * vi) + 2) (by omega) hL dL_law_176 ?_
          refine ks_intcV2 hκ 177 dL_law_177 kc_L_17 (c_Model_set hmm hiv.2.2.1) hM0 rfl (by decide) (Nat.le_of_ble_eq_true rfl) (by omega) (by omega) (fun r177 xh2 hp177 => ?_)
          obtain ⟨rfl, hmm, hfr⟩ := hp177
          have hks := hks.out hfr (fun i a b => ⟨a, b⟩)
          have hX0 := hks.ob
          obtain ⟨fsM, hM0⟩ := hmm.ob
          refine ks_icmp_eq hκ 180 870 dL_law_180 rfl (fun c180 => ?_) (fun c180 => ?_)
          · skip
            have hHv := kHv_keep (r := (kChg (se, tu, ki, ma, re, kf, Ls, P) (xs (4 * vi + 1)) (xs (4 * vi + 2))).1) hHv hiv
            have hiv := kIv_chg (x := xs (4 * vi + 1)) (z := xs (4 * vi + 2)) hiv
            refine ks_iinc hκ 870 3 3 (nI (4 * (vi + 1))) [(3, _), (0, _), (1, _), (2, _)] dL_law_870 rfl (law_inc vi) (by decide) rfl ?_
            refine ks_goto hκ 873 18 dL_law_873 rfl ?_
            refine ks_widen (45 + 16 * (vi + 1)) (4894 + 595 * (vi + 1)) (by omega) (by omega) ?_
            refine ks_pick [1, 2, 3, 0] [(0, _), (1, _), (2, _), (3, _)] rfl ?_
            exact ks_cv (ih (vi + 1) _ _ _ _ _  hks hmm hiv hHv hSv (by omega) (by omega)) rfl rfl rfl
          · exfalso
            exact c180 rfl
        · skip
          refine ks_top (nI 1) hs32 ?_
          refine ks_tableIn hκ 32 185 dL_law_32 (off := 153) (by decide) (by decide) (by decide) rfl ?_
          refine ks_aload_n hκ 185 1 dL_law_185 rfl ?_
          refine ks_aload_nr hκ 186 0 dL_law_186 rfl ?_
          refine ks_iload_n hκ 187 3 dL_law_187 rfl ?_
          refine ks_iconst hκ 188 (nI 1) dL_law_188 kq_i1 ?_
          refine ks_iaddN hκ 189 dL_law_189 ?_
          refine ks_sld hκ hsc 190 ((4 * vi) + 1) (by omega) hL dL_law_190 ?_
          refine ks_intcV1 hκ 191 dL_law_191 kc_L_18 (c_kitten hks) hX0 rfl (by decide) (Nat.le_of_ble_eq_true rfl) (by omega) (by omega) (fun r191 xh3 hp191 => ?_)
          obtain ⟨rfl, hks, hfx⟩ := hp191
          have hmm := hmm.fx hfx (fun i a b => ⟨a, b⟩)
          have hX0 := hks.ob
          obtain ⟨fsM, hM0⟩ := hmm.ob
          refine ks_aload_n hκ 194 2 dL_law_194 rfl ?_
          refine ks_aload_nr hκ 195 0 dL_law_195 rfl ?_
          refine ks_iload_n hκ 196 3 dL_law_196 rfl ?_
          refine ks_iconst hκ 197 (nI 1) dL_law_197 kq_i1 ?_
          refine ks_iaddN hκ 198 dL_law_198 ?_
          refine ks_sld hκ hsc 199 ((4 * vi) + 1) (by omega) hL dL_law_199 ?_
          refine ks_intcV1 hκ 200 dL_law_200 kc_L_22 (c_Model_kitten hmm) hM0 rfl (by decide) (Nat.le_of_ble_eq_true rfl) (by omega) (by omega) (fun r200 xh4 hp200 => ?_)
          obtain ⟨rfl, hmm, hfr⟩ := hp200
          have hks := hks.out hfr (fun i a b => ⟨a, b⟩)
          have hX0 := hks.ob
          obtain ⟨fsM, hM0⟩ := hmm.ob
          refine ks_icmp_eq hκ 203 870 dL_law_203 rfl (fun c203 => ?_) (fun c203 => ?_)
          · skip
            have hHv := kHv_keep (r := (kAdd (se, tu, ki, ma, re, kf, Ls, P) (xs (4 * vi + 1))).1) hHv hiv
            have hiv := kIv_add (x := xs (4 * vi + 1)) hiv
            refine ks_iinc hκ 870 3 3 (nI (4 * (vi + 1))) [(3, _), (0, _), (1, _), (2, _)] dL_law_870 rfl (law_inc vi) (by decide) rfl ?_
            refine ks_goto hκ 873 18 dL_law_873 rfl ?_
            refine ks_widen (45 + 16 * (vi + 1)) (4894 + 595 * (vi + 1)) (by omega) (by omega) ?_
            refine ks_pick [1, 2, 3, 0] [(0, _), (1, _), (2, _), (3, _)] rfl ?_
            exact ks_cv (ih (vi + 1) _ _ _ _ _  hks hmm hiv hHv hSv (by omega) (by omega)) rfl rfl rfl
          · exfalso
            exact c203 rfl
        · skip
          refine ks_top (nI 2) hs32 ?_
          refine ks_tableIn hκ 32 208 dL_law_32 (off := 176) (by decide) (by decide) (by decide) rfl ?_
          refine ks_aload_n hκ 208 1 dL_law_208 rfl ?_
          refine ks_aload_nr hκ 209 0 dL_law_209 rfl ?_
          refine ks_iload_n hκ 210 3 dL_law_210 rfl ?_
          refine ks_iconst hκ 211 (nI 1) dL_law_211 kq_i1 ?_
          refine ks_iaddN hκ 212 dL_law_212 ?_
          refine ks_sld hκ hsc 213 ((4 * vi) + 1) (by omega) hL dL_law_213 ?_
          refine ks_aload_nr hκ 214 0 dL_law_214 rfl ?_
          refine ks_iload_n hκ 215 3 dL_law_215 rfl ?_
          refine ks_iconst hκ 216 (nI 2) dL_law_216 kq_i2 ?_
          refine ks_iaddN hκ 217 dL_law_217 ?_
          refine ks_sld hκ hsc 218 ((4 * vi) + 2) (by omega) hL dL_law_218 ?_
          refine ks_intcV2 hκ 219 dL_law_219 kc_L_23 (c_leap hks hiv.1.1) hX0 rfl (by decide) (Nat.le_of_ble_eq_true rfl) (by omega) (by omega) (fun r219 xh5 hp219 => ?_)
          obtain ⟨rfl, hks, hfx⟩ := hp219
          have hmm := hmm.fx hfx (fun i a b => ⟨a, b⟩)
          have hX0 := hks.ob
          obtain ⟨fsM, hM0⟩ := hmm.ob
          refine ks_aload_n hκ 222 2 dL_law_222 rfl ?_
          refine ks_aload_nr hκ 223 0 dL_law_223 rfl ?_
          refine ks_iload_n hκ 224 3 dL_law_224 rfl ?_
          refine ks_iconst hκ 225 (nI 1) dL_law_225 kq_i1 ?_
          refine ks_iaddN hκ 226 dL_law_226 ?_
          refine ks_sld hκ hsc 227 ((4 * vi) + 1) (by omega) hL dL_law_227 ?_
          refine ks_aload_nr hκ 228 0 dL_law_228 rfl ?_
          refine ks_iload_n hκ 229 3 dL_law_229 rfl ?_
          refine ks_iconst hκ 230 (nI 2) dL_law_230 kq_i2 ?_
          refine ks_iaddN hκ 231 dL_law_231 ?_
          refine ks_sld hκ hsc 232 ((4 * vi) + 2) (by omega) hL dL_law_232 ?_
          refine ks_intcV2 hκ 233 dL_law_233 kc_L_26 (c_Model_leap hmm hiv.1.1 hiv.2.1) hM0 rfl (by decide) (Nat.le_of_ble_eq_true rfl) (by omega) (by omega) (fun r233 xh6 hp233 => ?_)
          obtain ⟨rfl, hmm, hfr⟩ := hp233
          have hks := hks.out hfr (fun i a b => ⟨a, b⟩)
          have hX0 := hks.ob
          obtain ⟨fsM, hM0⟩ := hmm.ob
          refine ks_icmp_eq hκ 236 870 dL_law_236 rfl (fun c236 => ?_) (fun c236 => ?_)
          · skip
            have hHv := kHv_keep (r := (kTry (se, tu, ki, ma, re, kf, Ls, P) (xs (4 * vi + 1)) (xs (4 * vi + 2))).1) hHv hiv
            have hiv := kIv_try (x := xs (4 * vi + 1)) (z := xs (4 * vi + 2)) hiv
            refine ks_iinc hκ 870 3 3 (nI (4 * (vi + 1))) [(3, _), (0, _), (1, _), (2, _)] dL_law_870 rfl (law_inc vi) (by decide) rfl ?_
            refine ks_goto hκ 873 18 dL_law_873 rfl ?_
            refine ks_widen (45 + 16 * (vi + 1)) (4894 + 595 * (vi + 1)) (by omega) (by omega) ?_
            refine ks_pick [1, 2, 3, 0] [(0, _), (1, _), (2, _), (3, _)] rfl ?_
            exact ks_cv (ih (vi + 1) _ _ _ _ _  hks hmm hiv hHv hSv (by omega) (by omega)) rfl rfl rfl
          · exfalso
            exact c236 rfl
        · skip
          refine ks_top (nI 3) hs32 ?_
          refine ks_tableIn hκ 32 241 dL_law_32 (off := 209) (by decide) (by decide) (by decide) rfl ?_
          refine ks_aload_n hκ 241 1 dL_law_241 rfl ?_
          refine ks_aload_nr hκ 242 0 dL_law_242 rfl ?_
          refine ks_iload_n hκ 243 3 dL_law_243 rfl ?_
          refine ks_iconst hκ 244 (nI 1) dL_law_244 kq_i1 ?_
          refine ks_iaddN hκ 245 dL_law_245 ?_
          refine ks_sld hκ hsc 246 ((4 * vi) + 1) (by omega) hL dL_law_246 ?_
          refine ks_intcV1 hκ 247 dL_law_247 kc_L_27 (c_nap hks) hX0 rfl (by decide) (Nat.le_of_ble_eq_true rfl) (by omega) (by omega) (fun r247 xh7 hp247 => ?_)
          obtain ⟨rfl, hks, hfx⟩ := hp247
          have hmm := hmm.fx hfx (fun i a b => ⟨a, b⟩)
          have hX0 := hks.ob
          obtain ⟨fsM, hM0⟩ := hmm.ob
          refine ks_aload_n hκ 250 2 dL_law_250 rfl ?_
          refine ks_aload_nr hκ 251 0 dL_law_251 rfl ?_
          refine ks_iload_n hκ 252 3 dL_law_252 rfl ?_
          refine ks_iconst hκ 253 (nI 1) dL_law_253 kq_i1 ?_
          refine ks_iaddN hκ 254 dL_law_254 ?_
          refine ks_sld hκ hsc 255 ((4 * vi) + 1) (by omega) hL dL_law_255 ?_
          refine ks_intcV1 hκ 256 dL_law_256 kc_L_30 (c_Model_nap hmm hiv.2.2.1 hiv.1.2) hM0 rfl (by decide) (Nat.le_of_ble_eq_true rfl) (by omega) (by omega) (fun r256 xh8 hp256 => ?_)
          obtain ⟨rfl, hmm, hfr⟩ := hp256
          have hks := hks.out hfr (fun i a b => ⟨a, b⟩)
          have hX0 := hks.ob
          obtain ⟨fsM, hM0⟩ := hmm.ob
          refine ks_icmp_eq hκ 259 870 dL_law_259 rfl (fun c259 => ?_) (fun c259 => ?_)
          · skip
            have hHv := kHv_keep (r := (kNap (se, tu, ki, ma, re, kf, Ls, P) (xs (4 * vi + 1))).1) hHv hiv
            have hiv := kIv_nap (x := xs (4 * vi + 1)) hiv
            refine ks_iinc hκ 870 3 3 (nI (4 * (vi + 1))) [(3, _), (0, _), (1, _), (2, _)] dL_law_870 rfl (law_inc vi) (by decide) rfl ?_
            refine ks_goto hκ 873 18 dL_law_873 rfl ?_
            refine ks_widen (45 + 16 * (vi + 1)) (4894 + 595 * (vi + 1)) (by omega) (by omega) ?_
            refine ks_pick [1, 2, 3, 0] [(0, _), (1, _), (2, _), (3, _)] rfl ?_
            exact ks_cv (ih (vi + 1) _ _ _ _ _  hks hmm hiv hHv hSv (by omega) (by omega)) rfl rfl rfl
          · exfalso
            exact c259 rfl
        · skip
          refine ks_top (nI 4) hs32 ?_
          refine ks_tableIn hκ 32 264 dL_law_32 (off := 232) (by decide) (by decide) (by decide) rfl ?_
          refine ks_aload_n hκ 264 1 dL_law_264 rfl ?_
          refine ks_aload_nr hκ 265 0 dL_law_265 rfl ?_
          refine ks_iload_n hκ 266 3 dL_law_266 rfl ?_
          refine ks_iconst hκ 267 (nI 1) dL_law_267 kq_i1 ?_
          refine ks_iaddN hκ 268 dL_law_268 ?_
          refine ks_sld hκ hsc 269 ((4 * vi) + 1) (by omega) hL dL_law_269 ?_
          refine ks_aload_nr hκ 270 0 dL_law_270 rfl ?_
          refine ks_iload_n hκ 271 3 dL_law_271 rfl ?_
          refine ks_iconst hκ 272 (nI 2) dL_law_272 kq_i2 ?_
          refine ks_iaddN hκ 273 dL_law_273 ?_
          refine ks_sld hκ hsc 274 ((4 * vi) + 2) (by omega) hL dL_law_274 ?_
          refine ks_intcV2 hκ 275 dL_law_275 kc_L_31 (c_snip hks) hX0 rfl (by decide) (Nat.le_of_ble_eq_true rfl) (by omega) (by omega) (fun r275 xh9 hp275 => ?_)
          obtain ⟨rfl, hks, hfx⟩ := hp275
          have hmm := hmm.fx hfx (fun i a b => ⟨a, b⟩)
          have hX0 := hks.ob
          obtain ⟨fsM, hM0⟩ := hmm.ob
          refine ks_aload_n hκ 278 2 dL_law_278 rfl ?_
          refine ks_aload_nr hκ 279 0 dL_law_279 rfl ?_
          refine ks_iload_n hκ 280 3 dL_law_280 rfl ?_
          refine ks_iconst hκ 281 (nI 1) dL_law_281 kq_i1 ?_
          refine ks_iaddN hκ 282 dL_law_282 ?_
          refine ks_sld hκ hsc 283 ((4 * vi) + 1) (by omega) hL dL_law_283 ?_
          refine ks_aload_nr hκ 284 0 dL_law_284 rfl ?_
          refine ks_iload_n hκ 285 3 dL_law_285 rfl ?_
          refine ks_iconst hκ 286 (nI 2) dL_law_286 kq_i2 ?_
          refine ks_iaddN hκ 287 dL_law_287 ?_
          refine ks_sld hκ hsc 288 ((4 * vi) + 2) (by omega) hL dL_law_288 ?_
          refine ks_intcV2 hκ 289 dL_law_289 kc_L_34 (c_Model_snip hmm) hM0 rfl (by decide) (Nat.le_of_ble_eq_true rfl) (by omega) (by omega) (fun r289 xh10 hp289 => ?_)
          obtain ⟨rfl, hmm, hfr⟩ := hp289
          have hks := hks.out hfr (fun i a b => ⟨a, b⟩)
          have hX0 := hks.ob
          obtain ⟨fsM, hM0⟩ := hmm.ob
          refine ks_icmp_eq hκ 292 870 dL_law_292 rfl (fun c292 => ?_) (fun c292 => ?_)
          · skip
            have hHv := kHv_keep (r := (kSnip (se, tu, ki, ma, re, kf, Ls, P) (xs (4 * vi + 1)) (xs (4 * vi + 2))).1) hHv hiv
            have hiv := kIv_snip (x := xs (4 * vi + 1)) (z := xs (4 * vi + 2)) hiv
            refine ks_iinc hκ 870 3 3 (nI (4 * (vi + 1))) [(3, _), (0, _), (1, _), (2, _)] dL_law_870 rfl (law_inc vi) (by decide) rfl ?_
            refine ks_goto hκ 873 18 dL_law_873 rfl ?_
            refine ks_widen (45 + 16 * (vi + 1)) (4894 + 595 * (vi + 1)) (by omega) (by omega) ?_
            refine ks_pick [1, 2, 3, 0] [(0, _), (1, _), (2, _), (3, _)] rfl ?_
            exact ks_cv (ih (vi + 1) _ _ _ _ _  hks hmm hiv hHv hSv (by omega) (by omega)) rfl rfl rfl
          · exfalso
            exact c292 rfl
        · skip
          refine ks_top (nI 5) hs32 ?_
          refine ks_tableIn hκ 32 297 dL_law_32 (off := 265) (by decide) (by decide) (by decide) rfl ?_
          refine ks_aload_n hκ 297 1 dL_law_297 rfl ?_
          refine ks_aload_nr hκ 298 0 dL_law_298 rfl ?_
          refine ks_iload_n hκ 299 3 dL_law_299 rfl ?_
          refine ks_iconst hκ 300 (nI 1) dL_law_300 kq_i1 ?_
          refine ks_iaddN hκ 301 dL_law_301 ?_
          refine ks_sld hκ hsc 302 ((4 * vi) + 1) (by omega) hL dL_law_302 ?_
          refine ks_aload_nr hκ 303 0 dL_law_303 rfl ?_
          refine ks_iload_n hκ 304 3 dL_law_304 rfl ?_
          refine ks_iconst hκ 305 (nI 2) dL_law_305 kq_i2 ?_
          refine ks_iaddN hκ 306 dL_law_306 ?_
          refine ks_sld hκ hsc 307 ((4 * vi) + 2) (by omega) hL dL_law_307 ?_
          refine ks_aload_nr hκ 308 0 dL_law_308 rfl ?_
          refine ks_iload_n hκ 309 3 dL_law_309 rfl ?_
          refine ks_iconst hκ 310 (nI 3) dL_law_310 kq_i3 ?_
          refine ks_iaddN hκ 311 dL_law_311 ?_
          refine ks_sld hκ hsc 312 ((4 * vi) + 3) (by omega) hL dL_law_312 ?_
          refine ks_intcV3 hκ 313 dL_law_313 kc_L_35 (c_plan hks) hX0 rfl (by decide) (Nat.le_of_ble_eq_true rfl) (by omega) (by omega) (fun r313 xh11 hp313 => ?_)
          obtain ⟨rfl, hks, hfx⟩ := hp313
          have hmm := hmm.fx hfx (fun i a b => ⟨a, b⟩)
          have hX0 := hks.ob
          obtain ⟨fsM, hM0⟩ := hmm.ob
          refine ks_aload_n hκ 316 2 dL_law_316 rfl ?_
          refine ks_aload_nr hκ 317 0 dL_law_317 rfl ?_
          refine ks_iload_n hκ 318 3 dL_law_318 rfl ?_
          refine ks_iconst hκ 319 (nI 1) dL_law_319 kq_i1 ?_
          refine ks_iaddN hκ 320 dL_law_320 ?_
          refine ks_sld hκ hsc 321 ((4 * vi) + 1) (by omega) hL dL_law_321 ?_
          refine ks_aload_nr hκ 322 0 dL_law_322 rfl ?_
          refine ks_iload_n hκ 323 3 dL_law_323 rfl ?_
          refine ks_iconst hκ 324 (nI 2) dL_law_324 kq_i2 ?_
          refine ks_iaddN hκ 325 dL_law_325 ?_
          refine ks_sld hκ hsc 326 ((4 * vi) + 2) (by omega) hL dL_law_326 ?_
          refine ks_aload_nr hκ 327 0 dL_law_327 rfl ?_
          refine ks_iload_n hκ 328 3 dL_law_328 rfl ?_
          refine ks_iconst hκ 329 (nI 3) dL_law_329 kq_i3 ?_
          refine ks_iaddN hκ 330 dL_law_330 ?_
          refine ks_sld hκ hsc 331 ((4 * vi) + 3) (by omega) hL dL_law_331 ?_
          refine ks_intcV3 hκ 332 dL_law_332 kc_L_39 (c_Model_plan hmm) hM0 rfl (by decide) (Nat.le_of_ble_eq_true rfl) (by omega) (by omega) (fun r332 xh12 hp332 => ?_)
          obtain ⟨rfl, hmm, hfr⟩ := hp332
          have hks := hks.out hfr (fun i a b => ⟨a, b⟩)
          have hX0 := hks.ob
          obtain ⟨fsM, hM0⟩ := hmm.ob
          refine ks_icmp_eq hκ 335 870 dL_law_335 rfl (fun c335 => ?_) (fun c335 => ?_)
          · skip
            have hHv := kHv_keep (r := (kPlan (se, tu, ki, ma, re, kf, Ls, P) (xs (4 * vi + 1)) (xs (4 * vi + 2)) (xs (4 * vi + 3))).1) hHv hiv
            have hiv := kIv_plan (w := xs (4 * vi + 1)) (x := xs (4 * vi + 2)) (z := xs (4 * vi + 3)) hiv
            refine ks_iinc hκ 870 3 3 (nI (4 * (vi + 1))) [(3, _), (0, _), (1, _), (2, _)] dL_law_870 rfl (law_inc vi) (by decide) rfl ?_
            refine ks_goto hκ 873 18 dL_law_873 rfl ?_
            refine ks_widen (45 + 16 * (vi + 1)) (4894 + 595 * (vi + 1)) (by omega) (by omega) ?_
            refine ks_pick [1, 2, 3, 0] [(0, _), (1, _), (2, _), (3, _)] rfl ?_
            exact ks_cv (ih (vi + 1) _ _ _ _ _  hks hmm hiv hHv hSv (by omega) (by omega)) rfl rfl rfl
          · exfalso
            exact c335 rfl
        · skip
          refine ks_top (nI 6) hs32 ?_
          refine ks_tableIn hκ 32 340 dL_law_32 (off := 308) (by decide) (by decide) (by decide) rfl ?_
          refine ks_aload_n hκ 340 1 dL_law_340 rfl ?_
          refine ks_aload_nr hκ 341 0 dL_law_341 rfl ?_
          refine ks_iload_n hκ 342 3 dL_law_342 rfl ?_
          refine ks_iconst hκ 343 (nI 1) dL_law_343 kq_i1 ?_
          refine ks_iaddN hκ 344 dL_law_344 ?_
          refine ks_sld hκ hsc 345 ((4 * vi) + 1) (by omega) hL dL_law_345 ?_
          obtain ⟨n0, hn0, htu⟩ := hiv.1.2
          have htu : tu = nI n0 := htu
          refine ks_intcV1 hκ 346 dL_law_346 kc_L_40 (c_pass hks hiv.1.1 htu (show n0 ≤ 20000 by omega)) hX0 rfl (by decide) (Nat.le_of_ble_eq_true rfl) (by omega) (by omega) (fun r346 xh13 hp346 => ?_)
          obtain ⟨rfl, hks, hfx⟩ := hp346
          have hmm := hmm.fx hfx (fun i a b => ⟨a, b⟩)
          have hX0 := hks.ob
          obtain ⟨fsM, hM0⟩ := hmm.ob
          refine ks_aload_n hκ 349 2 dL_law_349 rfl ?_
          refine ks_aload_nr hκ 350 0 dL_law_350 rfl ?_
          refine ks_iload_n hκ 351 3 dL_law_351 rfl ?_
          refine ks_iconst hκ 352 (nI 1) dL_law_352 kq_i1 ?_
          refine ks_iaddN hκ 353 dL_law_353 ?_
          refine ks_sld hκ hsc 354 ((4 * vi) + 1) (by omega) hL dL_law_354 ?_
          refine ks_intcV1 hκ 355 dL_law_355 kc_L_43 (c_Model_pass hmm hiv.1.1 hiv.2.1) hM0 rfl (by decide) (Nat.le_of_ble_eq_true rfl) (by omega) (by omega) (fun r355 xh14 hp355 => ?_)
          obtain ⟨rfl, hmm, hfr⟩ := hp355
          have hks := hks.out hfr (fun i a b => ⟨a, b⟩)
          have hX0 := hks.ob
          obtain ⟨fsM, hM0⟩ := hmm.ob
          refine ks_icmp_eq hκ 358 870 dL_law_358 rfl (fun c358 => ?_) (fun c358 => ?_)
          · skip
            have hHv := kHv_keep (r := (kPassT (se, tu, ki, ma, re, kf, Ls, P) (xs (4 * vi + 1))).1) hHv hiv
            have hiv := kIv_pass (x := xs (4 * vi + 1)) hiv
            refine ks_iinc hκ 870 3 3 (nI (4 * (vi + 1))) [(3, _), (0, _), (1, _), (2, _)] dL_law_870 rfl (law_inc vi) (by decide) rfl ?_
            refine ks_goto hκ 873 18 dL_law_873 rfl ?_
            refine ks_widen (45 + 16 * (vi + 1)) (4894 + 595 * (vi + 1)) (by omega) (by omega) ?_
            refine ks_pick [1, 2, 3, 0] [(0, _), (1, _), (2, _), (3, _)] rfl ?_
            exact ks_cv (ih (vi + 1) _ _ _ _ _  hks hmm hiv hHv hSv (by omega) (by omega)) rfl rfl rfl
          · exfalso
            exact c358 rfl
        · skip
          refine ks_top (nI 7) hs32 ?_
          refine ks_tableIn hκ 32 363 dL_law_32 (off := 331) (by decide) (by decide) (by decide) rfl ?_
          refine ks_aload_n hκ 363 1 dL_law_363 rfl ?_
          refine ks_aload_nr hκ 364 0 dL_law_364 rfl ?_
          refine ks_iload_n hκ 365 3 dL_law_365 rfl ?_
          refine ks_iconst hκ 366 (nI 1) dL_law_366 kq_i1 ?_
          refine ks_iaddN hκ 367 dL_law_367 ?_
          refine ks_sld hκ hsc 368 ((4 * vi) + 1) (by omega) hL dL_law_368 ?_
          refine ks_aload_nr hκ 369 0 dL_law_369 rfl ?_
          refine ks_iload_n hκ 370 3 dL_law_370 rfl ?_
          refine ks_iconst hκ 371 (nI 2) dL_law_371 kq_i2 ?_
          refine ks_iaddN hκ 372 dL_law_372 ?_
          refine ks_sld hκ hsc 373 ((4 * vi) + 2) (by omega) hL dL_law_373 ?_
          refine ks_pureV2 hκ 374 dL_law_374 kc_L_44 (c_of hks hiv.1.1) hX0 rfl (by decide) (Nat.le_of_ble_eq_true rfl) (by omega) (by omega) ?_
          refine ks_aload_n hκ 377 2 dL_law_377 rfl ?_
          refine ks_aload_nr hκ 378 0 dL_law_378 rfl ?_
          refine ks_iload_n hκ 379 3 dL_law_379 rfl ?_
          refine ks_iconst hκ 380 (nI 1) dL_law_380 kq_i1 ?_
          refine ks_iaddN hκ 381 dL_law_381 ?_
          refine ks_sld hκ hsc 382 ((4 * vi) + 1) (by omega) hL dL_law_382 ?_
          refine ks_aload_nr hκ 383 0 dL_law_383 rfl ?_
          refine ks_iload_n hκ 384 3 dL_law_384 rfl ?_
          refine ks_iconst hκ 385 (nI 2) dL_law_385 kq_i2 ?_
          refine ks_iaddN hκ 386 dL_law_386 ?_
          refine ks_sld hκ hsc 387 ((4 * vi) + 2) (by omega) hL dL_law_387 ?_
          obtain ⟨f, Z, T, sp, kd, on, tw, bx, hM, hS, hZ, hT, hmd, hHs, hHl, hSl, hTO, hll, hch⟩ := id hmm
          refine ks_pureV2 hκ 388 dL_law_388 kc_L_47 (c_Model_of hM hS hmd hiv.1.1) hM0 rfl (by decide) (Nat.le_of_ble_eq_true rfl) (by omega) (by omega) ?_
          refine ks_icmp_eq hκ 391 870 dL_law_391 rfl (fun c391 => ?_) (fun c391 => ?_)
          · skip
            refine ks_iinc hκ 870 3 3 (nI (4 * (vi + 1))) [(3, _), (0, _), (1, _), (2, _)] dL_law_870 rfl (law_inc vi) (by decide) rfl ?_
            refine ks_goto hκ 873 18 dL_law_873 rfl ?_
            refine ks_widen (45 + 16 * (vi + 1)) (4894 + 595 * (vi + 1)) (by omega) (by omega) ?_
            refine ks_pick [1, 2, 3, 0] [(0, _), (1, _), (2, _), (3, _)] rfl ?_
            exact ks_cv (ih (vi + 1) _ _ _ _ _  hks hmm hiv hHv hSv (by omega) (by omega)) rfl rfl rfl
          · exfalso
            exact c391 rfl
        · skip
          refine ks_top (nI 8) hs32 ?_
          refine ks_tableIn hκ 32 396 dL_law_32 (off := 364) (by decide) (by decide) (by decide) rfl ?_
          refine ks_aload_n hκ 396 1 dL_law_396 rfl ?_
          refine ks_aload_nr hκ 397 0 dL_law_397 rfl ?_
          refine ks_iload_n hκ 398 3 dL_law_398 rfl ?_
          refine ks_iconst hκ 399 (nI 1) dL_law_399 kq_i1 ?_
          refine ks_iaddN hκ 400 dL_law_400 ?_
          refine ks_sld hκ hsc 401 ((4 * vi) + 1) (by omega) hL dL_law_401 ?_
          refine ks_aload_nr hκ 402 0 dL_law_402 rfl ?_
          refine ks_iload_n hκ 403 3 dL_law_403 rfl ?_
          refine ks_iconst hκ 404 (nI 2) dL_law_404 kq_i2 ?_
          refine ks_iaddN hκ 405 dL_law_405 ?_
          refine ks_sld hκ hsc 406 ((4 * vi) + 2) (by omega) hL dL_law_406 ?_
          refine ks_pureV2 hκ 407 dL_law_407 kc_L_48 (c_ofEdge hks) hX0 rfl (by decide) (Nat.le_of_ble_eq_true rfl) (by omega) (by omega) ?_
          refine ks_aload_n hκ 410 2 dL_law_410 rfl ?_
          refine ks_aload_nr hκ 411 0 dL_law_411 rfl ?_
          refine ks_iload_n hκ 412 3 dL_law_412 rfl ?_
          refine ks_iconst hκ 413 (nI 1) dL_law_413 kq_i1 ?_
          refine ks_iaddN hκ 414 dL_law_414 ?_
          refine ks_sld hκ hsc 415 ((4 * vi) + 1) (by omega) hL dL_law_415 ?_
          refine ks_aload_nr hκ 416 0 dL_law_416 rfl ?_
          refine ks_iload_n hκ 417 3 dL_law_417 rfl ?_
          refine ks_iconst hκ 418 (nI 2) dL_law_418 kq_i2 ?_
          refine ks_iaddN hκ 419 dL_law_419 ?_
          refine ks_sld hκ hsc 420 ((4 * vi) + 2) (by omega) hL dL_law_420 ?_
          obtain ⟨f, Z, T, sp, kd, on, tw, bx, hM, hS, hZ, hT, hmd, hHs, hHl, hSl, hTO, hll, hch⟩ := id hmm
          refine ks_pureV2 hκ 421 dL_law_421 kc_L_51 (c_Model_ofEdge hM hS hmd) hM0 rfl (by decide) (Nat.le_of_ble_eq_true rfl) (by omega) (by omega) ?_
          refine ks_icmp_eq hκ 424 870 dL_law_424 rfl (fun c424 => ?_) (fun c424 => ?_)
          · skip
            refine ks_iinc hκ 870 3 3 (nI (4 * (vi + 1))) [(3, _), (0, _), (1, _), (2, _)] dL_law_870 rfl (law_inc vi) (by decide) rfl ?_
            refine ks_goto hκ 873 18 dL_law_873 rfl ?_
            refine ks_widen (45 + 16 * (vi + 1)) (4894 + 595 * (vi + 1)) (by omega) (by omega) ?_
            refine ks_pick [1, 2, 3, 0] [(0, _), (1, _), (2, _), (3, _)] rfl ?_
            exact ks_cv (ih (vi + 1) _ _ _ _ _  hks hmm hiv hHv hSv (by omega) (by omega)) rfl rfl rfl
          · exfalso
            exact c424 rfl
        · skip
          refine ks_top (nI 9) hs32 ?_
          refine ks_tableIn hκ 32 429 dL_law_32 (off := 397) (by decide) (by decide) (by decide) rfl ?_
          refine ks_aload_n hκ 429 1 dL_law_429 rfl ?_
          refine ks_aload_nr hκ 430 0 dL_law_430 rfl ?_
          refine ks_iload_n hκ 431 3 dL_law_431 rfl ?_
          refine ks_iconst hκ 432 (nI 1) dL_law_432 kq_i1 ?_
          refine ks_iaddN hκ 433 dL_law_433 ?_
          refine ks_sld hκ hsc 434 ((4 * vi) + 1) (by omega) hL dL_law_434 ?_
          refine ks_aload_nr hκ 435 0 dL_law_435 rfl ?_
          refine ks_iload_n hκ 436 3 dL_law_436 rfl ?_
          refine ks_iconst hκ 437 (nI 2) dL_law_437 kq_i2 ?_
          refine ks_iaddN hκ 438 dL_law_438 ?_
          refine ks_sld hκ hsc 439 ((4 * vi) + 2) (by omega) hL dL_law_439 ?_
          refine ks_pureV2 hκ 440 dL_law_440 kc_L_52 (c_strand hks) hX0 rfl (by decide) (Nat.le_of_ble_eq_true rfl) (by omega) (by omega) ?_
          refine ks_aload_n hκ 443 2 dL_law_443 rfl ?_
          refine ks_aload_nr hκ 444 0 dL_law_444 rfl ?_
          refine ks_iload_n hκ 445 3 dL_law_445 rfl ?_
          refine ks_iconst hκ 446 (nI 1) dL_law_446 kq_i1 ?_
          refine ks_iaddN hκ 447 dL_law_447 ?_
          refine ks_sld hκ hsc 448 ((4 * vi) + 1) (by omega) hL dL_law_448 ?_
          refine ks_aload_nr hκ 449 0 dL_law_449 rfl ?_
          refine ks_iload_n hκ 450 3 dL_law_450 rfl ?_
          refine ks_iconst hκ 451 (nI 2) dL_law_451 kq_i2 ?_
          refine ks_iaddN hκ 452 dL_law_452 ?_
          refine ks_sld hκ hsc 453 ((4 * vi) + 2) (by omega) hL dL_law_453 ?_
          obtain ⟨f, Z, T, sp, kd, on, tw, bx, hM, hS, hZ, hT, hmd, hHs, hHl, hSl, hTO, hll, hch⟩ := id hmm
          refine ks_pureV2 hκ 454 dL_law_454 kc_L_55 (c_Model_strand hM hS hmd) hM0 rfl (by decide) (Nat.le_of_ble_eq_true rfl) (by omega) (by omega) ?_
          refine ks_icmp_eq hκ 457 870 dL_law_457 rfl (fun c457 => ?_) (fun c457 => ?_)
          · skip
            refine ks_iinc hκ 870 3 3 (nI (4 * (vi + 1))) [(3, _), (0, _), (1, _), (2, _)] dL_law_870 rfl (law_inc vi) (by decide) rfl ?_
            refine ks_goto hκ 873 18 dL_law_873 rfl ?_
            refine ks_widen (45 + 16 * (vi + 1)) (4894 + 595 * (vi + 1)) (by omega) (by omega) ?_
            refine ks_pick [1, 2, 3, 0] [(0, _), (1, _), (2, _), (3, _)] rfl ?_
            exact ks_cv (ih (vi + 1) _ _ _ _ _  hks hmm hiv hHv hSv (by omega) (by omega)) rfl rfl rfl
          · exfalso
            exact c457 rfl
        · skip
          refine ks_top (nI 10) hs32 ?_
          refine ks_tableIn hκ 32 462 dL_law_32 (off := 430) (by decide) (by decide) (by decide) rfl ?_
          refine ks_aload_n hκ 462 1 dL_law_462 rfl ?_
          refine ks_aload_nr hκ 463 0 dL_law_463 rfl ?_
          refine ks_iload_n hκ 464 3 dL_law_464 rfl ?_
          refine ks_iconst hκ 465 (nI 1) dL_law_465 kq_i1 ?_
          refine ks_iaddN hκ 466 dL_law_466 ?_
          refine ks_sld hκ hsc 467 ((4 * vi) + 1) (by omega) hL dL_law_467 ?_
          refine ks_aload_nr hκ 468 0 dL_law_468 rfl ?_
          refine ks_iload_n hκ 469 3 dL_law_469 rfl ?_
          refine ks_iconst hκ 470 (nI 2) dL_law_470 kq_i2 ?_
          refine ks_iaddN hκ 471 dL_law_471 ?_
          refine ks_sld hκ hsc 472 ((4 * vi) + 2) (by omega) hL dL_law_472 ?_
          refine ks_pureV2 hκ 473 dL_law_473 kc_L_56 (c_bound hks) hX0 rfl (by decide) (Nat.le_of_ble_eq_true rfl) (by omega) (by omega) ?_
          refine ks_aload_n hκ 476 2 dL_law_476 rfl ?_
          refine ks_aload_nr hκ 477 0 dL_law_477 rfl ?_
          refine ks_iload_n hκ 478 3 dL_law_478 rfl ?_
          refine ks_iconst hκ 479 (nI 1) dL_law_479 kq_i1 ?_
          refine ks_iaddN hκ 480 dL_law_480 ?_
          refine ks_sld hκ hsc 481 ((4 * vi) + 1) (by omega) hL dL_law_481 ?_
          refine ks_aload_nr hκ 482 0 dL_law_482 rfl ?_
          refine ks_iload_n hκ 483 3 dL_law_483 rfl ?_
          refine ks_iconst hκ 484 (nI 2) dL_law_484 kq_i2 ?_
          refine ks_iaddN hκ 485 dL_law_485 ?_
          refine ks_sld hκ hsc 486 ((4 * vi) + 2) (by omega) hL dL_law_486 ?_
          obtain ⟨f, Z, T, sp, kd, on, tw, bx, hM, hS, hZ, hT, hmd, hHs, hHl, hSl, hTO, hll, hch⟩ := id hmm
          refine ks_pureV2 hκ 487 dL_law_487 kc_L_59 (c_Model_bound hM hS hmd) hM0 rfl (by decide) (Nat.le_of_ble_eq_true rfl) (by omega) (by omega) ?_
          refine ks_icmp_eq hκ 490 870 dL_law_490 rfl (fun c490 => ?_) (fun c490 => ?_)
          · skip
            refine ks_iinc hκ 870 3 3 (nI (4 * (vi + 1))) [(3, _), (0, _), (1, _), (2, _)] dL_law_870 rfl (law_inc vi) (by decide) rfl ?_
            refine ks_goto hκ 873 18 dL_law_873 rfl ?_
            refine ks_widen (45 + 16 * (vi + 1)) (4894 + 595 * (vi + 1)) (by omega) (by omega) ?_
            refine ks_pick [1, 2, 3, 0] [(0, _), (1, _), (2, _), (3, _)] rfl ?_
            exact ks_cv (ih (vi + 1) _ _ _ _ _  hks hmm hiv hHv hSv (by omega) (by omega)) rfl rfl rfl
          · exfalso
            exact c490 rfl
        · skip
          refine ks_top (nI 11) hs32 ?_
          refine ks_tableIn hκ 32 495 dL_law_32 (off := 463) (by decide) (by decide) (by decide) rfl ?_
          refine ks_aload_n hκ 495 1 dL_law_495 rfl ?_
          refine ks_aload_nr hκ 496 0 dL_law_496 rfl ?_
          refine ks_iload_n hκ 497 3 dL_law_497 rfl ?_
          refine ks_iconst hκ 498 (nI 1) dL_law_498 kq_i1 ?_
          refine ks_iaddN hκ 499 dL_law_499 ?_
          refine ks_sld hκ hsc 500 ((4 * vi) + 1) (by omega) hL dL_law_500 ?_
          refine ks_aload_nr hκ 501 0 dL_law_501 rfl ?_
          refine ks_iload_n hκ 502 3 dL_law_502 rfl ?_
          refine ks_iconst hκ 503 (nI 2) dL_law_503 kq_i2 ?_
          refine ks_iaddN hκ 504 dL_law_504 ?_
          refine ks_sld hκ hsc 505 ((4 * vi) + 2) (by omega) hL dL_law_505 ?_
          refine ks_pureV2 hκ 506 dL_law_506 kc_L_60 (c_planned hks) hX0 rfl (by decide) (Nat.le_of_ble_eq_true rfl) (by omega) (by omega) ?_
          refine ks_aload_n hκ 509 2 dL_law_509 rfl ?_
          refine ks_aload_nr hκ 510 0 dL_law_510 rfl ?_
          refine ks_iload_n hκ 511 3 dL_law_511 rfl ?_
          refine ks_iconst hκ 512 (nI 1) dL_law_512 kq_i1 ?_
          refine ks_iaddN hκ 513 dL_law_513 ?_
          refine ks_sld hκ hsc 514 ((4 * vi) + 1) (by omega) hL dL_law_514 ?_
          refine ks_aload_nr hκ 515 0 dL_law_515 rfl ?_
          refine ks_iload_n hκ 516 3 dL_law_516 rfl ?_
          refine ks_iconst hκ 517 (nI 2) dL_law_517 kq_i2 ?_
          refine ks_iaddN hκ 518 dL_law_518 ?_
          refine ks_sld hκ hsc 519 ((4 * vi) + 2) (by omega) hL dL_law_519 ?_
          obtain ⟨f, Z, T, sp, kd, on, tw, bx, hM, hS, hZ, hT, hmd, hHs, hHl, hSl, hTO, hll, hch⟩ := id hmm
          refine ks_pureV2 hκ 520 dL_law_520 kc_L_63 (c_Model_planned hM hS hmd) hM0 rfl (by decide) (Nat.le_of_ble_eq_true rfl) (by omega) (by omega) ?_
          refine ks_icmp_eq hκ 523 870 dL_law_523 rfl (fun c523 => ?_) (fun c523 => ?_)
          · skip
            refine ks_iinc hκ 870 3 3 (nI (4 * (vi + 1))) [(3, _), (0, _), (1, _), (2, _)] dL_law_870 rfl (law_inc vi) (by decide) rfl ?_
            refine ks_goto hκ 873 18 dL_law_873 rfl ?_
            refine ks_widen (45 + 16 * (vi + 1)) (4894 + 595 * (vi + 1)) (by omega) (by omega) ?_
            refine ks_pick [1, 2, 3, 0] [(0, _), (1, _), (2, _), (3, _)] rfl ?_
            exact ks_cv (ih (vi + 1) _ _ _ _ _  hks hmm hiv hHv hSv (by omega) (by omega)) rfl rfl rfl
          · exfalso
            exact c523 rfl
        · skip
          refine ks_top (nI 12) hs32 ?_
          refine ks_tableIn hκ 32 528 dL_law_32 (off := 496) (by decide) (by decide) (by decide) rfl ?_
          refine ks_aload_n hκ 528 1 dL_law_528 rfl ?_
          refine ks_aload_nr hκ 529 0 dL_law_529 rfl ?_
          refine ks_iload_n hκ 530 3 dL_law_530 rfl ?_
          refine ks_iconst hκ 531 (nI 1) dL_law_531 kq_i1 ?_
          refine ks_iaddN hκ 532 dL_law_532 ?_
          refine ks_sld hκ hsc 533 ((4 * vi) + 1) (by omega) hL dL_law_533 ?_
          refine ks_pureV1 hκ 534 dL_law_534 kc_L_64 (c_count hks) hX0 rfl (by decide) (Nat.le_of_ble_eq_true rfl) (by omega) (by omega) ?_
          refine ks_aload_n hκ 537 2 dL_law_537 rfl ?_
          refine ks_aload_nr hκ 538 0 dL_law_538 rfl ?_
          refine ks_iload_n hκ 539 3 dL_law_539 rfl ?_
          refine ks_iconst hκ 540 (nI 1) dL_law_540 kq_i1 ?_
          refine ks_iaddN hκ 541 dL_law_541 ?_
          refine ks_sld hκ hsc 542 ((4 * vi) + 1) (by omega) hL dL_law_542 ?_
          obtain ⟨f, Z, T, sp, kd, on, tw, bx, hM, hS, hZ, hT, hmd, hHs, hHl, hSl, hTO, hll, hch⟩ := id hmm
          refine ks_pureV1 hκ 543 dL_law_543 kc_L_67 (c_Model_count hmm) hM0 rfl (by decide) (Nat.le_of_ble_eq_true rfl) (by omega) (by omega) ?_
          refine ks_icmp_eq hκ 546 870 dL_law_546 rfl (fun c546 => ?_) (fun c546 => ?_)
          · skip
            refine ks_iinc hκ 870 3 3 (nI (4 * (vi + 1))) [(3, _), (0, _), (1, _), (2, _)] dL_law_870 rfl (law_inc vi) (by decide) rfl ?_
            refine ks_goto hκ 873 18 dL_law_873 rfl ?_
            refine ks_widen (45 + 16 * (vi + 1)) (4894 + 595 * (vi + 1)) (by omega) (by omega) ?_
            refine ks_pick [1, 2, 3, 0] [(0, _), (1, _), (2, _), (3, _)] rfl ?_
            exact ks_cv (ih (vi + 1) _ _ _ _ _  hks hmm hiv hHv hSv (by omega) (by omega)) rfl rfl rfl
          · exfalso
            exact c546 rfl
        · skip
          refine ks_top (nI 13) hs32 ?_
          refine ks_tableIn hκ 32 551 dL_law_32 (off := 519) (by decide) (by decide) (by decide) rfl ?_
          refine ks_aload_n hκ 551 1 dL_law_551 rfl ?_
          refine ks_aload_nr hκ 552 0 dL_law_552 rfl ?_
          refine ks_iload_n hκ 553 3 dL_law_553 rfl ?_
          refine ks_iconst hκ 554 (nI 1) dL_law_554 kq_i1 ?_
          refine ks_iaddN hκ 555 dL_law_555 ?_
          refine ks_sld hκ hsc 556 ((4 * vi) + 1) (by omega) hL dL_law_556 ?_
          refine ks_aload_nr hκ 557 0 dL_law_557 rfl ?_
          refine ks_iload_n hκ 558 3 dL_law_558 rfl ?_
          refine ks_iconst hκ 559 (nI 2) dL_law_559 kq_i2 ?_
          refine ks_iaddN hκ 560 dL_law_560 ?_
          refine ks_sld hκ hsc 561 ((4 * vi) + 2) (by omega) hL dL_law_561 ?_
          refine ks_pureV2 hκ 562 dL_law_562 kc_L_68 (c_why hks hiv.1.1) hX0 rfl (by decide) (Nat.le_of_ble_eq_true rfl) (by omega) (by omega) ?_
          refine ks_aload_n hκ 565 2 dL_law_565 rfl ?_
          refine ks_aload_nr hκ 566 0 dL_law_566 rfl ?_
          refine ks_iload_n hκ 567 3 dL_law_567 rfl ?_
          refine ks_iconst hκ 568 (nI 1) dL_law_568 kq_i1 ?_
          refine ks_iaddN hκ 569 dL_law_569 ?_
          refine ks_sld hκ hsc 570 ((4 * vi) + 1) (by omega) hL dL_law_570 ?_
          refine ks_aload_nr hκ 571 0 dL_law_571 rfl ?_
          refine ks_iload_n hκ 572 3 dL_law_572 rfl ?_
          refine ks_iconst hκ 573 (nI 2) dL_law_573 kq_i2 ?_
          refine ks_iaddN hκ 574 dL_law_574 ?_
          refine ks_sld hκ hsc 575 ((4 * vi) + 2) (by omega) hL dL_law_575 ?_
          obtain ⟨f, Z, T, sp, kd, on, tw, bx, hM, hS, hZ, hT, hmd, hHs, hHl, hSl, hTO, hll, hch⟩ := id hmm
          refine ks_pureV2 hκ 576 dL_law_576 kc_L_71 (c_Model_why hM hS hmd hiv.1.1) hM0 rfl (by decide) (Nat.le_of_ble_eq_true rfl) (by omega) (by omega) ?_
          refine ks_icmp_eq hκ 579 870 dL_law_579 rfl (fun c579 => ?_) (fun c579 => ?_)
          · skip
            refine ks_iinc hκ 870 3 3 (nI (4 * (vi + 1))) [(3, _), (0, _), (1, _), (2, _)] dL_law_870 rfl (law_inc vi) (by decide) rfl ?_
            refine ks_goto hκ 873 18 dL_law_873 rfl ?_
            refine ks_widen (45 + 16 * (vi + 1)) (4894 + 595 * (vi + 1)) (by omega) (by omega) ?_
            refine ks_pick [1, 2, 3, 0] [(0, _), (1, _), (2, _), (3, _)] rfl ?_
            exact ks_cv (ih (vi + 1) _ _ _ _ _  hks hmm hiv hHv hSv (by omega) (by omega)) rfl rfl rfl
          · exfalso
            exact c579 rfl
        · skip
          refine ks_top (nI 14) hs32 ?_
          refine ks_tableIn hκ 32 584 dL_law_32 (off := 552) (by decide) (by decide) (by decide) rfl ?_
          refine ks_aload_n hκ 584 1 dL_law_584 rfl ?_
          refine ks_aload_nr hκ 585 0 dL_law_585 rfl ?_
          refine ks_iload_n hκ 586 3 dL_law_586 rfl ?_
          refine ks_iconst hκ 587 (nI 1) dL_law_587 kq_i1 ?_
          refine ks_iaddN hκ 588 dL_law_588 ?_
          refine ks_sld hκ hsc 589 ((4 * vi) + 1) (by omega) hL dL_law_589 ?_
          refine ks_aload_nr hκ 590 0 dL_law_590 rfl ?_
          refine ks_iload_n hκ 591 3 dL_law_591 rfl ?_
          refine ks_iconst hκ 592 (nI 2) dL_law_592 kq_i2 ?_
          refine ks_iaddN hκ 593 dL_law_593 ?_
          refine ks_sld hκ hsc 594 ((4 * vi) + 2) (by omega) hL dL_law_594 ?_
          refine ks_aload_nr hκ 595 0 dL_law_595 rfl ?_
          refine ks_iload_n hκ 596 3 dL_law_596 rfl ?_
          refine ks_iconst hκ 597 (nI 3) dL_law_597 kq_i3 ?_
          refine ks_iaddN hκ 598 dL_law_598 ?_
          refine ks_sld hκ hsc 599 ((4 * vi) + 3) (by omega) hL dL_law_599 ?_
          refine ks_intcV3 hκ 600 dL_law_600 kc_L_72 (c_ifLeapt hks hiv.1.1) hX0 rfl (by decide) (Nat.le_of_ble_eq_true rfl) (by omega) (by omega) (fun r600 xh15 hp600 => ?_)
          obtain ⟨rfl, hks, hfx⟩ := hp600
          have hmm := hmm.fx hfx (fun i a b => ⟨a, b⟩)
          have hX0 := hks.ob
          obtain ⟨fsM, hM0⟩ := hmm.ob
          refine ks_aload_n hκ 603 2 dL_law_603 rfl ?_
          refine ks_aload_nr hκ 604 0 dL_law_604 rfl ?_
          refine ks_iload_n hκ 605 3 dL_law_605 rfl ?_
          refine ks_iconst hκ 606 (nI 1) dL_law_606 kq_i1 ?_
          refine ks_iaddN hκ 607 dL_law_607 ?_
          refine ks_sld hκ hsc 608 ((4 * vi) + 1) (by omega) hL dL_law_608 ?_
          refine ks_aload_nr hκ 609 0 dL_law_609 rfl ?_
          refine ks_iload_n hκ 610 3 dL_law_610 rfl ?_
          refine ks_iconst hκ 611 (nI 2) dL_law_611 kq_i2 ?_
          refine ks_iaddN hκ 612 dL_law_612 ?_
          refine ks_sld hκ hsc 613 ((4 * vi) + 2) (by omega) hL dL_law_613 ?_
          refine ks_aload_nr hκ 614 0 dL_law_614 rfl ?_
          refine ks_iload_n hκ 615 3 dL_law_615 rfl ?_
          refine ks_iconst hκ 616 (nI 3) dL_law_616 kq_i3 ?_
          refine ks_iaddN hκ 617 dL_law_617 ?_
          refine ks_sld hκ hsc 618 ((4 * vi) + 3) (by omega) hL dL_law_618 ?_
          refine ks_intcV3 hκ 619 dL_law_619 kc_L_75 (c_Model_ifLeapt hmm hiv.1.1 hiv.2.1) hM0 rfl (by decide) (Nat.le_of_ble_eq_true rfl) (by omega) (by omega) (fun r619 xh16 hp619 => ?_)
          obtain ⟨rfl, hmm, hfr⟩ := hp619
          have hks := hks.out hfr (fun i a b => ⟨a, b⟩)
          have hX0 := hks.ob
          obtain ⟨fsM, hM0⟩ := hmm.ob
          refine ks_icmp_eq hκ 622 870 dL_law_622 rfl (fun c622 => ?_) (fun c622 => ?_)
          · skip
            refine ks_iinc hκ 870 3 3 (nI (4 * (vi + 1))) [(3, _), (0, _), (1, _), (2, _)] dL_law_870 rfl (law_inc vi) (by decide) rfl ?_
            refine ks_goto hκ 873 18 dL_law_873 rfl ?_
            refine ks_widen (45 + 16 * (vi + 1)) (4894 + 595 * (vi + 1)) (by omega) (by omega) ?_
            refine ks_pick [1, 2, 3, 0] [(0, _), (1, _), (2, _), (3, _)] rfl ?_
            exact ks_cv (ih (vi + 1) _ _ _ _ _  hks hmm hiv hHv hSv (by omega) (by omega)) rfl rfl rfl
          · exfalso
            exact c622 rfl
        · skip
          refine ks_top (nI 15) hs32 ?_
          refine ks_tableIn hκ 32 627 dL_law_32 (off := 595) (by decide) (by decide) (by decide) rfl ?_
          refine ks_aload_n hκ 627 1 dL_law_627 rfl ?_
          refine ks_aload_nr hκ 628 0 dL_law_628 rfl ?_
          refine ks_iload_n hκ 629 3 dL_law_629 rfl ?_
          refine ks_iconst hκ 630 (nI 1) dL_law_630 kq_i1 ?_
          refine ks_iaddN hκ 631 dL_law_631 ?_
          refine ks_sld hκ hsc 632 ((4 * vi) + 1) (by omega) hL dL_law_632 ?_
          refine ks_aload_nr hκ 633 0 dL_law_633 rfl ?_
          refine ks_iload_n hκ 634 3 dL_law_634 rfl ?_
          refine ks_iconst hκ 635 (nI 2) dL_law_635 kq_i2 ?_
          refine ks_iaddN hκ 636 dL_law_636 ?_
          refine ks_sld hκ hsc 637 ((4 * vi) + 2) (by omega) hL dL_law_637 ?_
          refine ks_pureV2 hκ 638 dL_law_638 kc_L_76 (c_frees hks) hX0 rfl (by decide) (Nat.le_of_ble_eq_true rfl) (by omega) (by omega) ?_
          refine ks_aload_n hκ 641 2 dL_law_641 rfl ?_
          refine ks_aload_nr hκ 642 0 dL_law_642 rfl ?_
          refine ks_iload_n hκ 643 3 dL_law_643 rfl ?_
          refine ks_iconst hκ 644 (nI 1) dL_law_644 kq_i1 ?_
          refine ks_iaddN hκ 645 dL_law_645 ?_
          refine ks_sld hκ hsc 646 ((4 * vi) + 1) (by omega) hL dL_law_646 ?_
          refine ks_aload_nr hκ 647 0 dL_law_647 rfl ?_
          refine ks_iload_n hκ 648 3 dL_law_648 rfl ?_
          refine ks_iconst hκ 649 (nI 2) dL_law_649 kq_i2 ?_
          refine ks_iaddN hκ 650 dL_law_650 ?_
          refine ks_sld hκ hsc 651 ((4 * vi) + 2) (by omega) hL dL_law_651 ?_
          obtain ⟨f, Z, T, sp, kd, on, tw, bx, hM, hS, hZ, hT, hmd, hHs, hHl, hSl, hTO, hll, hch⟩ := id hmm
          refine ks_pureV2 hκ 652 dL_law_652 kc_L_79 (c_Model_frees hM hS hmd) hM0 rfl (by decide) (Nat.le_of_ble_eq_true rfl) (by omega) (by omega) ?_
          refine ks_icmp_eq hκ 655 870 dL_law_655 rfl (fun c655 => ?_) (fun c655 => ?_)
          · skip
            refine ks_iinc hκ 870 3 3 (nI (4 * (vi + 1))) [(3, _), (0, _), (1, _), (2, _)] dL_law_870 rfl (law_inc vi) (by decide) rfl ?_
            refine ks_goto hκ 873 18 dL_law_873 rfl ?_
            refine ks_widen (45 + 16 * (vi + 1)) (4894 + 595 * (vi + 1)) (by omega) (by omega) ?_
            refine ks_pick [1, 2, 3, 0] [(0, _), (1, _), (2, _), (3, _)] rfl ?_
            exact ks_cv (ih (vi + 1) _ _ _ _ _  hks hmm hiv hHv hSv (by omega) (by omega)) rfl rfl rfl
          · exfalso
            exact c655 rfl
        · skip
          refine ks_top (nI 16) hs32 ?_
          refine ks_tableIn hκ 32 660 dL_law_32 (off := 628) (by decide) (by decide) (by decide) rfl ?_
          refine ks_aload_n hκ 660 1 dL_law_660 rfl ?_
          refine ks_pureV0 hκ 661 dL_law_661 kc_L_80 (c_quietIn hks) hX0 rfl (by decide) (Nat.le_of_ble_eq_true rfl) (by omega) (by omega) ?_
          refine ks_aload_n hκ 664 2 dL_law_664 rfl ?_
          obtain ⟨f, Z, T, sp, kd, on, tw, bx, hM, hS, hZ, hT, hmd, hHs, hHl, hSl, hTO, hll, hch⟩ := id hmm
          obtain ⟨n0, hn0, htu⟩ := hiv.1.2
          have htu : tu = nI n0 := htu
          refine ks_pureV0 hκ 665 dL_law_665 kc_L_84 (c_Model_quietIn hM hS hmd htu hn0 hiv.2.2.2.1 hiv.2.2.2.2.1.2 hiv.2.2.2.2.1.1) hM0 rfl (by decide) (Nat.le_of_ble_eq_true rfl) (by omega) (by omega) ?_
          refine ks_icmp_eq hκ 668 870 dL_law_668 rfl (fun c668 => ?_) (fun c668 => ?_)
          · skip
            refine ks_iinc hκ 870 3 3 (nI (4 * (vi + 1))) [(3, _), (0, _), (1, _), (2, _)] dL_law_870 rfl (law_inc vi) (by decide) rfl ?_
            refine ks_goto hκ 873 18 dL_law_873 rfl ?_
            refine ks_widen (45 + 16 * (vi + 1)) (4894 + 595 * (vi + 1)) (by omega) (by omega) ?_
            refine ks_pick [1, 2, 3, 0] [(0, _), (1, _), (2, _), (3, _)] rfl ?_
            exact ks_cv (ih (vi + 1) _ _ _ _ _  hks hmm hiv hHv hSv (by omega) (by omega)) rfl rfl rfl
          · exfalso
            exact c668 rfl
        · skip
          refine ks_top (nI 17) hs32 ?_
          refine ks_tableIn hκ 32 673 dL_law_32 (off := 641) (by decide) (by decide) (by decide) rfl ?_
          refine ks_aload_n hκ 673 1 dL_law_673 rfl ?_
          refine ks_aload_nr hκ 674 0 dL_law_674 rfl ?_
          refine ks_iload_n hκ 675 3 dL_law_675 rfl ?_
          refine ks_iconst hκ 676 (nI 1) dL_law_676 kq_i1 ?_
          refine ks_iaddN hκ 677 dL_law_677 ?_
          refine ks_sld hκ hsc 678 ((4 * vi) + 1) (by omega) hL dL_law_678 ?_
          refine ks_aload_nr hκ 679 0 dL_law_679 rfl ?_
          refine ks_iload_n hκ 680 3 dL_law_680 rfl ?_
          refine ks_iconst hκ 681 (nI 2) dL_law_681 kq_i2 ?_
          refine ks_iaddN hκ 682 dL_law_682 ?_
          refine ks_sld hκ hsc 683 ((4 * vi) + 2) (by omega) hL dL_law_683 ?_
          obtain ⟨n0, hn0, htu⟩ := hiv.1.2
          have htu : tu = nI n0 := htu
          refine ks_intcV2 hκ 684 dL_law_684 kc_L_85 (c_stepIn hks hiv.1.1 htu (show n0 ≤ 20000 by omega)) hX0 rfl (by decide) (Nat.le_of_ble_eq_true rfl) (by omega) (by omega) (fun r684 xh17 hp684 => ?_)
          obtain ⟨rfl, hks, hfx⟩ := hp684
          have hmm := hmm.fx hfx (fun i a b => ⟨a, b⟩)
          have hX0 := hks.ob
          obtain ⟨fsM, hM0⟩ := hmm.ob
          refine ks_aload_n hκ 687 2 dL_law_687 rfl ?_
          refine ks_aload_nr hκ 688 0 dL_law_688 rfl ?_
          refine ks_iload_n hκ 689 3 dL_law_689 rfl ?_
          refine ks_iconst hκ 690 (nI 1) dL_law_690 kq_i1 ?_
          refine ks_iaddN hκ 691 dL_law_691 ?_
          refine ks_sld hκ hsc 692 ((4 * vi) + 1) (by omega) hL dL_law_692 ?_
          refine ks_aload_nr hκ 693 0 dL_law_693 rfl ?_
          refine ks_iload_n hκ 694 3 dL_law_694 rfl ?_
          refine ks_iconst hκ 695 (nI 2) dL_law_695 kq_i2 ?_
          refine ks_iaddN hκ 696 dL_law_696 ?_
          refine ks_sld hκ hsc 697 ((4 * vi) + 2) (by omega) hL dL_law_697 ?_
          refine ks_intcV2 hκ 698 dL_law_698 kc_L_88 (c_Model_stepIn hmm hiv.1.1 hiv.2.1) hM0 rfl (by decide) (Nat.le_of_ble_eq_true rfl) (by omega) (by omega) (fun r698 xh18 hp698 => ?_)
          obtain ⟨rfl, hmm, hfr⟩ := hp698
          have hks := hks.out hfr (fun i a b => ⟨a, b⟩)
          have hX0 := hks.ob
          obtain ⟨fsM, hM0⟩ := hmm.ob
          refine ks_icmp_eq hκ 701 870 dL_law_701 rfl (fun c701 => ?_) (fun c701 => ?_)
          · skip
            refine ks_iinc hκ 870 3 3 (nI (4 * (vi + 1))) [(3, _), (0, _), (1, _), (2, _)] dL_law_870 rfl (law_inc vi) (by decide) rfl ?_
            refine ks_goto hκ 873 18 dL_law_873 rfl ?_
            refine ks_widen (45 + 16 * (vi + 1)) (4894 + 595 * (vi + 1)) (by omega) (by omega) ?_
            refine ks_pick [1, 2, 3, 0] [(0, _), (1, _), (2, _), (3, _)] rfl ?_
            exact ks_cv (ih (vi + 1) _ _ _ _ _  hks hmm hiv hHv hSv (by omega) (by omega)) rfl rfl rfl
          · exfalso
            exact c701 rfl
        · skip
          refine ks_top (nI 18) hs32 ?_
          refine ks_tableIn hκ 32 706 dL_law_32 (off := 674) (by decide) (by decide) (by decide) rfl ?_
          refine ks_aload_n hκ 706 1 dL_law_706 rfl ?_
          refine ks_pureV0 hκ 707 dL_law_707 kc_L_89 (c_thickest hks) hX0 rfl (by decide) (Nat.le_of_ble_eq_true rfl) (by omega) (by omega) ?_
          refine ks_aload_n hκ 710 2 dL_law_710 rfl ?_
          obtain ⟨f, Z, T, sp, kd, on, tw, bx, hM, hS, hZ, hT, hmd, hHs, hHl, hSl, hTO, hll, hch⟩ := id hmm
          refine ks_pureV0 hκ 711 dL_law_711 kc_L_92 (c_Model_thickest hM hS hmd) hM0 rfl (by decide) (Nat.le_of_ble_eq_true rfl) (by omega) (by omega) ?_
          refine ks_icmp_eq hκ 714 870 dL_law_714 rfl (fun c714 => ?_) (fun c714 => ?_)
          · skip
            refine ks_iinc hκ 870 3 3 (nI (4 * (vi + 1))) [(3, _), (0, _), (1, _), (2, _)] dL_law_870 rfl (law_inc vi) (by decide) rfl ?_
            refine ks_goto hκ 873 18 dL_law_873 rfl ?_
            refine ks_widen (45 + 16 * (vi + 1)) (4894 + 595 * (vi + 1)) (by omega) (by omega) ?_
            refine ks_pick [1, 2, 3, 0] [(0, _), (1, _), (2, _), (3, _)] rfl ?_
            exact ks_cv (ih (vi + 1) _ _ _ _ _  hks hmm hiv hHv hSv (by omega) (by omega)) rfl rfl rfl
          · exfalso
            exact c714 rfl
        · skip
          refine ks_top (nI 19) hs32 ?_
          refine ks_tableIn hκ 32 719 dL_law_32 (off := 687) (by decide) (by decide) (by decide) rfl ?_
          refine ks_aload_n hκ 719 1 dL_law_719 rfl ?_
          refine ks_aload_nr hκ 720 0 dL_law_720 rfl ?_
          refine ks_iload_n hκ 721 3 dL_law_721 rfl ?_
          refine ks_iconst hκ 722 (nI 1) dL_law_722 kq_i1 ?_
          refine ks_iaddN hκ 723 dL_law_723 ?_
          refine ks_sld hκ hsc 724 ((4 * vi) + 1) (by omega) hL dL_law_724 ?_
          refine ks_i2l hκ 725 dL_law_725 ?_
          refine ks_bipush hκ 726 (nI 32) dL_law_726 kq_b32 ?_
          refine ks_lshl hκ 728 dL_law_728 ?_
          refine ks_aload_nr hκ 729 0 dL_law_729 rfl ?_
          refine ks_iload_n hκ 730 3 dL_law_730 rfl ?_
          refine ks_iconst hκ 731 (nI 2) dL_law_731 kq_i2 ?_
          refine ks_iaddN hκ 732 dL_law_732 ?_
          refine ks_sld hκ hsc 733 ((4 * vi) + 2) (by omega) hL dL_law_733 ?_
          refine ks_i2l hκ 734 dL_law_734 ?_
          refine ks_ldc2 hκ 735 _ dL_law_735 kl_L_93 ?_
          refine ks_land hκ 738 dL_law_738 ?_
          refine ks_lor hκ 739 dL_law_739 ?_
          refine ks_intcV1 hκ 740 dL_law_740 kc_L_95 (c_put hks) hX0 rfl (by decide) (Nat.le_of_ble_eq_true rfl) (by omega) (by omega) (fun r740 xh19 hp740 => ?_)
          obtain ⟨rfl, hks, hfx⟩ := hp740
          have hmm := hmm.fx hfx (fun i a b => ⟨a, b⟩)
          have hX0 := hks.ob
          obtain ⟨fsM, hM0⟩ := hmm.ob
          refine ks_aload_n hκ 743 2 dL_law_743 rfl ?_
          refine ks_aload_nr hκ 744 0 dL_law_744 rfl ?_
          refine ks_iload_n hκ 745 3 dL_law_745 rfl ?_
          refine ks_iconst hκ 746 (nI 1) dL_law_746 kq_i1 ?_
          refine ks_iaddN hκ 747 dL_law_747 ?_
          refine ks_sld hκ hsc 748 ((4 * vi) + 1) (by omega) hL dL_law_748 ?_
          refine ks_i2l hκ 749 dL_law_749 ?_
          refine ks_bipush hκ 750 (nI 32) dL_law_750 kq_b32 ?_
          refine ks_lshl hκ 752 dL_law_752 ?_
          refine ks_aload_nr hκ 753 0 dL_law_753 rfl ?_
          refine ks_iload_n hκ 754 3 dL_law_754 rfl ?_
          refine ks_iconst hκ 755 (nI 2) dL_law_755 kq_i2 ?_
          refine ks_iaddN hκ 756 dL_law_756 ?_
          refine ks_sld hκ hsc 757 ((4 * vi) + 2) (by omega) hL dL_law_757 ?_
          refine ks_i2l hκ 758 dL_law_758 ?_
          refine ks_ldc2 hκ 759 _ dL_law_759 kl_L_93 ?_
          refine ks_land hκ 762 dL_law_762 ?_
          refine ks_lor hκ 763 dL_law_763 ?_
          refine ks_intcV1 hκ 764 dL_law_764 kc_L_99 (c_Model_put hmm) hM0 rfl (by decide) (Nat.le_of_ble_eq_true rfl) (by omega) (by omega) (fun r764 xh20 hp764 => ?_)
          obtain ⟨rfl, hmm, hfr⟩ := hp764
          have hks := hks.out hfr (fun i a b => ⟨a, b⟩)
          have hX0 := hks.ob
          obtain ⟨fsM, hM0⟩ := hmm.ob
          refine ks_icmp_eq hκ 767 870 dL_law_767 rfl (fun c767 => ?_) (fun c767 => ?_)
          · skip
            refine ks_iinc hκ 870 3 3 (nI (4 * (vi + 1))) [(3, _), (0, _), (1, _), (2, _)] dL_law_870 rfl (law_inc vi) (by decide) rfl ?_
            refine ks_goto hκ 873 18 dL_law_873 rfl ?_
            refine ks_widen (45 + 16 * (vi + 1)) (4894 + 595 * (vi + 1)) (by omega) (by omega) ?_
            refine ks_pick [1, 2, 3, 0] [(0, _), (1, _), (2, _), (3, _)] rfl ?_
            exact ks_cv (ih (vi + 1) _ _ _ _ _  hks hmm hiv hHv hSv (by omega) (by omega)) rfl rfl rfl
          · exfalso
            exact c767 rfl
        · skip
          refine ks_top (nI 20) hs32 ?_
          refine ks_tableIn hκ 32 772 dL_law_32 (off := 740) (by decide) (by decide) (by decide) rfl ?_
          refine ks_aload_n hκ 772 1 dL_law_772 rfl ?_
          refine ks_intcV0 hκ 773 dL_law_773 kc_L_100 (c_wipe hks) hX0 rfl (by decide) (Nat.le_of_ble_eq_true rfl) (by omega) (by omega) (fun r773 xh21 hp773 => ?_)
          obtain ⟨rfl, hks, hfx⟩ := hp773
          have hmm := hmm.fx hfx (fun i a b => ⟨a, b⟩)
          have hX0 := hks.ob
          obtain ⟨fsM, hM0⟩ := hmm.ob
          refine ks_aload_n hκ 776 2 dL_law_776 rfl ?_
          refine ks_intcV0 hκ 777 dL_law_777 kc_L_103 (c_Model_wipe hmm) hM0 rfl (by decide) (Nat.le_of_ble_eq_true rfl) (by omega) (by omega) (fun r777 xh22 hp777 => ?_)
          obtain ⟨rfl, hmm, hfr⟩ := hp777
          have hks := hks.out hfr (fun i a b => ⟨a, b⟩)
          have hX0 := hks.ob
          obtain ⟨fsM, hM0⟩ := hmm.ob
          refine ks_icmp_eq hκ 780 870 dL_law_780 rfl (fun c780 => ?_) (fun c780 => ?_)
          · skip
            refine ks_iinc hκ 870 3 3 (nI (4 * (vi + 1))) [(3, _), (0, _), (1, _), (2, _)] dL_law_870 rfl (law_inc vi) (by decide) rfl ?_
            refine ks_goto hκ 873 18 dL_law_873 rfl ?_
            refine ks_widen (45 + 16 * (vi + 1)) (4894 + 595 * (vi + 1)) (by omega) (by omega) ?_
            refine ks_pick [1, 2, 3, 0] [(0, _), (1, _), (2, _), (3, _)] rfl ?_
            exact ks_cv (ih (vi + 1) _ _ _ _ _  hks hmm hiv hHv hSv (by omega) (by omega)) rfl rfl rfl
          · exfalso
            exact c780 rfl
        · skip
          refine ks_top (nI 21) hs32 ?_
          refine ks_tableIn hκ 32 785 dL_law_32 (off := 753) (by decide) (by decide) (by decide) rfl ?_
          refine ks_aload_n hκ 785 1 dL_law_785 rfl ?_
          refine ks_intcV0 hκ 786 dL_law_786 kc_L_104 (c_fault hks) hX0 rfl (by decide) (Nat.le_of_ble_eq_true rfl) (by omega) (by omega) (fun r786 xh23 hp786 => ?_)
          obtain ⟨rfl, hks, hfx⟩ := hp786
          have hmm := hmm.fx hfx (fun i a b => ⟨a, b⟩)
          have hX0 := hks.ob
          obtain ⟨fsM, hM0⟩ := hmm.ob
          refine ks_aload_n hκ 789 2 dL_law_789 rfl ?_
          refine ks_intcV0 hκ 790 dL_law_790 kc_L_107 (c_Model_faultM hmm) hM0 rfl (by decide) (Nat.le_of_ble_eq_true rfl) (by omega) (by omega) (fun r790 xh24 hp790 => ?_)
          obtain ⟨rfl, hmm, hfr⟩ := hp790
          have hks := hks.out hfr (fun i a b => ⟨a, b⟩)
          have hX0 := hks.ob
          obtain ⟨fsM, hM0⟩ := hmm.ob
          refine ks_icmp_eq hκ 793 870 dL_law_793 rfl (fun c793 => ?_) (fun c793 => ?_)
          · skip
            refine ks_iinc hκ 870 3 3 (nI (4 * (vi + 1))) [(3, _), (0, _), (1, _), (2, _)] dL_law_870 rfl (law_inc vi) (by decide) rfl ?_
            refine ks_goto hκ 873 18 dL_law_873 rfl ?_
            refine ks_widen (45 + 16 * (vi + 1)) (4894 + 595 * (vi + 1)) (by omega) (by omega) ?_
            refine ks_pick [1, 2, 3, 0] [(0, _), (1, _), (2, _), (3, _)] rfl ?_
            exact ks_cv (ih (vi + 1) _ _ _ _ _  hks hmm hiv hHv hSv (by omega) (by omega)) rfl rfl rfl
          · exfalso
            exact c793 rfl
        · skip
          refine ks_top (nI 22) hs32 ?_
          refine ks_tableIn hκ 32 798 dL_law_32 (off := 766) (by decide) (by decide) (by decide) rfl ?_
          refine ks_aload_n hκ 798 1 dL_law_798 rfl ?_
          refine ks_intcV0 hκ 799 dL_law_799 kc_L_108 (c_carryOut hks hiv.1) hX0 rfl (by decide) (Nat.le_of_ble_eq_true rfl) (by omega) (by omega) (fun r799 xh25 hp799 => ?_)
          obtain ⟨rfl, hks, hfx⟩ := hp799
          have hmm := hmm.fx hfx (fun i a b => ⟨a, b⟩)
          have hX0 := hks.ob
          obtain ⟨fsM, hM0⟩ := hmm.ob
          refine ks_aload_n hκ 802 2 dL_law_802 rfl ?_
          refine ks_intcV0 hκ 803 dL_law_803 kc_L_111 (c_Model_carryOut hmm hiv) hM0 rfl (by decide) (Nat.le_of_ble_eq_true rfl) (by omega) (by omega) (fun r803 xh26 hp803 => ?_)
          obtain ⟨rfl, hmm, hfr⟩ := hp803
          have hks := hks.out hfr (fun i a b => ⟨a, b⟩)
          have hX0 := hks.ob
          obtain ⟨fsM, hM0⟩ := hmm.ob
          refine ks_icmp_eq hκ 806 870 dL_law_806 rfl (fun c806 => ?_) (fun c806 => ?_)
          · skip
            obtain ⟨hiv, hHv⟩ := kHv_car (l := l) hHv hiv
            refine ks_iinc hκ 870 3 3 (nI (4 * (vi + 1))) [(3, _), (0, _), (1, _), (2, _)] dL_law_870 rfl (law_inc vi) (by decide) rfl ?_
            refine ks_goto hκ 873 18 dL_law_873 rfl ?_
            refine ks_widen (45 + 16 * (vi + 1)) (4894 + 595 * (vi + 1)) (by omega) (by omega) ?_
            refine ks_pick [1, 2, 3, 0] [(0, _), (1, _), (2, _), (3, _)] rfl ?_
            exact ks_cv (ih (vi + 1) _ _ _ _ _  hks hmm hiv hHv hSv (by omega) (by omega)) rfl rfl rfl
          · exfalso
            exact c806 rfl
        · skip
          refine ks_top (nI 23) hs32 ?_
          refine ks_tableIn hκ 32 811 dL_law_32 (off := 779) (by decide) (by decide) (by decide) rfl ?_
          refine ks_aload_n hκ 811 1 dL_law_811 rfl ?_
          refine ks_intcV0 hκ 812 dL_law_812 kc_L_112 (c_undo hks) hX0 rfl (by decide) (Nat.le_of_ble_eq_true rfl) (by omega) (by omega) (fun r812 xh27 hp812 => ?_)
          obtain ⟨rfl, hks, hfx⟩ := hp812
          have hmm := hmm.fx hfx (fun i a b => ⟨a, b⟩)
          have hX0 := hks.ob
          obtain ⟨fsM, hM0⟩ := hmm.ob
          refine ks_aload_n hκ 815 2 dL_law_815 rfl ?_
          refine ks_intcV0 hκ 816 dL_law_816 kc_L_115 (c_Model_undo hmm) hM0 rfl (by decide) (Nat.le_of_ble_eq_true rfl) (by omega) (by omega) (fun r816 xh28 hp816 => ?_)
          obtain ⟨rfl, hmm, hfr⟩ := hp816
          have hks := hks.out hfr (fun i a b => ⟨a, b⟩)
          have hX0 := hks.ob
          obtain ⟨fsM, hM0⟩ := hmm.ob
          refine ks_icmp_eq hκ 819 870 dL_law_819 rfl (fun c819 => ?_) (fun c819 => ?_)
          · skip
            have hiv := kHv_un hHv hiv
            have hHv : ∀ z ∈ H.tail, kIv z := fun z hz => hHv z (List.mem_of_mem_tail hz)
            refine ks_iinc hκ 870 3 3 (nI (4 * (vi + 1))) [(3, _), (0, _), (1, _), (2, _)] dL_law_870 rfl (law_inc vi) (by decide) rfl ?_
            refine ks_goto hκ 873 18 dL_law_873 rfl ?_
            refine ks_widen (45 + 16 * (vi + 1)) (4894 + 595 * (vi + 1)) (by omega) (by omega) ?_
            refine ks_pick [1, 2, 3, 0] [(0, _), (1, _), (2, _), (3, _)] rfl ?_
            exact ks_cv (ih (vi + 1) _ _ _ _ _  hks hmm hiv hHv hSv (by omega) (by omega)) rfl rfl rfl
          · exfalso
            exact c819 rfl
        · skip
          refine ks_top (nI 24) hs32 ?_
          refine ks_tableIn hκ 32 824 dL_law_32 (off := 792) (by decide) (by decide) (by decide) rfl ?_
          refine ks_aload_n hκ 824 1 dL_law_824 rfl ?_
          refine ks_aload_nr hκ 825 0 dL_law_825 rfl ?_
          refine ks_iload_n hκ 826 3 dL_law_826 rfl ?_
          refine ks_iconst hκ 827 (nI 1) dL_law_827 kq_i1 ?_
          refine ks_iaddN hκ 828 dL_law_828 ?_
          refine ks_sld hκ hsc 829 ((4 * vi) + 1) (by omega) hL dL_law_829 ?_
          refine ks_intcV1 hκ 830 dL_law_830 kc_L_116 (c_save hks) hX0 rfl (by decide) (Nat.le_of_ble_eq_true rfl) (by omega) (by omega) (fun r830 xh29 hp830 => ?_)
          obtain ⟨rfl, hks, hfx⟩ := hp830
          have hmm := hmm.fx hfx (fun i a b => ⟨a, b⟩)
          have hX0 := hks.ob
          obtain ⟨fsM, hM0⟩ := hmm.ob
          refine ks_aload_n hκ 833 2 dL_law_833 rfl ?_
          refine ks_aload_nr hκ 834 0 dL_law_834 rfl ?_
          refine ks_iload_n hκ 835 3 dL_law_835 rfl ?_
          refine ks_iconst hκ 836 (nI 1) dL_law_836 kq_i1 ?_
          refine ks_iaddN hκ 837 dL_law_837 ?_
          refine ks_sld hκ hsc 838 ((4 * vi) + 1) (by omega) hL dL_law_838 ?_
          refine ks_intcV1 hκ 839 dL_law_839 kc_L_119 (c_Model_save hmm) hM0 rfl (by decide) (Nat.le_of_ble_eq_true rfl) (by omega) (by omega) (fun r839 xh30 hp839 => ?_)
          obtain ⟨rfl, hmm, hfr⟩ := hp839
          have hks := hks.out hfr (fun i a b => ⟨a, b⟩)
          have hX0 := hks.ob
          obtain ⟨fsM, hM0⟩ := hmm.ob
          refine ks_icmp_eq hκ 842 870 dL_law_842 rfl (fun c842 => ?_) (fun c842 => ?_)
          · skip
            have hSv := kHv_sav (x := xs (4 * vi + 1)) hSv hiv
            refine ks_iinc hκ 870 3 3 (nI (4 * (vi + 1))) [(3, _), (0, _), (1, _), (2, _)] dL_law_870 rfl (law_inc vi) (by decide) rfl ?_
            refine ks_goto hκ 873 18 dL_law_873 rfl ?_
            refine ks_widen (45 + 16 * (vi + 1)) (4894 + 595 * (vi + 1)) (by omega) (by omega) ?_
            refine ks_pick [1, 2, 3, 0] [(0, _), (1, _), (2, _), (3, _)] rfl ?_
            exact ks_cv (ih (vi + 1) _ _ _ _ _  hks hmm hiv hHv hSv (by omega) (by omega)) rfl rfl rfl
          · exfalso
            exact c842 rfl
        · skip
          refine ks_top (nI 25) hs32 ?_
          refine ks_tableIn hκ 32 847 dL_law_32 (off := 815) (by decide) (by decide) (by decide) rfl ?_
          refine ks_aload_n hκ 847 1 dL_law_847 rfl ?_
          refine ks_aload_nr hκ 848 0 dL_law_848 rfl ?_
          refine ks_iload_n hκ 849 3 dL_law_849 rfl ?_
          refine ks_iconst hκ 850 (nI 1) dL_law_850 kq_i1 ?_
          refine ks_iaddN hκ 851 dL_law_851 ?_
          refine ks_sld hκ hsc 852 ((4 * vi) + 1) (by omega) hL dL_law_852 ?_
          refine ks_intcV1 hκ 853 dL_law_853 kc_L_120 (c_restore hks) hX0 rfl (by decide) (Nat.le_of_ble_eq_true rfl) (by omega) (by omega) (fun r853 xh31 hp853 => ?_)
          obtain ⟨rfl, hks, hfx⟩ := hp853
          have hmm := hmm.fx hfx (fun i a b => ⟨a, b⟩)
          have hX0 := hks.ob
          obtain ⟨fsM, hM0⟩ := hmm.ob
          refine ks_aload_n hκ 856 2 dL_law_856 rfl ?_
          refine ks_aload_nr hκ 857 0 dL_law_857 rfl ?_
          refine ks_iload_n hκ 858 3 dL_law_858 rfl ?_
          refine ks_iconst hκ 859 (nI 1) dL_law_859 kq_i1 ?_
          refine ks_iaddN hκ 860 dL_law_860 ?_
          refine ks_sld hκ hsc 861 ((4 * vi) + 1) (by omega) hL dL_law_861 ?_
          refine ks_intcV1 hκ 862 dL_law_862 kc_L_123 (c_Model_restore hmm) hM0 rfl (by decide) (Nat.le_of_ble_eq_true rfl) (by omega) (by omega) (fun r862 xh32 hp862 => ?_)
          obtain ⟨rfl, hmm, hfr⟩ := hp862
          have hks := hks.out hfr (fun i a b => ⟨a, b⟩)
          have hX0 := hks.ob
          obtain ⟨fsM, hM0⟩ := hmm.ob
          refine ks_icmp_eq hκ 865 870 dL_law_865 rfl (fun c865 => ?_) (fun c865 => ?_)
          · skip
            obtain ⟨hiv, hHv⟩ := kHv_rst (x := xs (4 * vi + 1)) hHv hSv hiv
            refine ks_iinc hκ 870 3 3 (nI (4 * (vi + 1))) [(3, _), (0, _), (1, _), (2, _)] dL_law_870 rfl (law_inc vi) (by decide) rfl ?_
            refine ks_goto hκ 873 18 dL_law_873 rfl ?_
            refine ks_widen (45 + 16 * (vi + 1)) (4894 + 595 * (vi + 1)) (by omega) (by omega) ?_
            refine ks_pick [1, 2, 3, 0] [(0, _), (1, _), (2, _), (3, _)] rfl ?_
            exact ks_cv (ih (vi + 1) _ _ _ _ _  hks hmm hiv hHv hSv (by omega) (by omega)) rfl rfl rfl
          · exfalso
            exact c865 rfl
