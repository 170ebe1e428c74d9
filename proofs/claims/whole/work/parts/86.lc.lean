theorem zcmpS (x : Int64) : lg_cmp x x = 0 := Classical.byContradiction fun h => zcmp1 h rfl
section ZLC
variable {g : zGt} {X : zX} {d b L x m out K N : Nat} {xs : Nat → Int32} {w : zW} {wm : Nat} {u : zU} {cm : Nat} {fo : Nat → Int64} {G : zG} {k n : Nat} {o5 o6 : Option Value}
theorem lc_kind (hX : zOK g X b_L_law y_L_law (some .boolean) [] 7 d 601024 7293034) (hd9 : 100 ≤ d) (hs : zSc X b L xs) (hL : L ≤ 3584) (t : Nat) (ht : 7 * t + 7 ≤ L) (h0 : zL0 x m out w u fo G) (hI : zIn w wm u cm) (hk : k + zPc w wm ≤ K) (hn : n + zPs w wm ≤ N) (hK : K + 2 ≤ 601024) (hN : N + 4101 ≤ 7293034) (kk : zNext g X b x m out t (K + 2) (N + 4101)) : zw g X (fun r _ => r = .inl (some (.int 1))) 148 (zll b x m out (7 * t) o5 o6) [] G k n := by
  obtain ⟨v, u2, cm2, mc9, ms9, ⟨bc, bs⟩, hS, hM⟩ := P_kind (g := g) hI (xs (7 * t + 1)) (xs (7 * t + 2))
  obtain rfl := h0.2.2.2.1
  unfold zll
  refine zr_aload_n hX rfl d_L_law_148 ?_
  refine zr_aload_n hX rfl d_L_law_149 ?_
  refine zr_iload hX rfl d_L_law_150 ?_
  refine zr_iconst (v := nI 1) hX rfl d_L_law_152 ?_
  refine zn_iadd hX d_L_law_153 ?_
  refine zr_sld hX hs (by omega) hL d_L_law_154 ?_
  refine zr_aload_n hX rfl d_L_law_155 ?_
  refine zr_iload hX rfl d_L_law_156 ?_
  refine zr_iconst (v := nI 2) hX rfl d_L_law_158 ?_
  refine zn_iadd hX d_L_law_159 ?_
  refine zr_sld hX hs (by omega) hL d_L_law_160 ?_
  refine zr_callV hX (hS (d - 1) G (by omega) h0.1) l_L_54 im_S_kind se_S_kind f_S_kind k_S.1 (h0.1.at 0 0 rfl) rfl (Nat.le_of_ble_eq_true rfl) (by omega) (by omega) (by omega) d_L_law_161 (fun v9 G1 hq => ?_) (fun E9 G1 hq => by cases hq.1)
  obtain ⟨e9, w2, wm2, h2, hI2, p1, p2⟩ := h0.S hq
  cases e9
  refine zr_aload_n hX rfl d_L_law_164 ?_
  refine zr_aload_n hX rfl d_L_law_165 ?_
  refine zr_iload hX rfl d_L_law_166 ?_
  refine zr_iconst (v := nI 1) hX rfl d_L_law_168 ?_
  refine zn_iadd hX d_L_law_169 ?_
  refine zr_sld hX hs (by omega) hL d_L_law_170 ?_
  refine zr_aload_n hX rfl d_L_law_171 ?_
  refine zr_iload hX rfl d_L_law_172 ?_
  refine zr_iconst (v := nI 2) hX rfl d_L_law_174 ?_
  refine zn_iadd hX d_L_law_175 ?_
  refine zr_sld hX hs (by omega) hL d_L_law_176 ?_
  refine zr_callV hX (hM (d - 1) _ m (by omega) h2.2.1) l_L_58 im_M_kind se_M_kind f_M_kind k_M.1 h2.2.1.m rfl (Nat.le_of_ble_eq_true rfl) (by omega) (by omega) (by omega) d_L_law_177 (fun v9 G2 hq2 => ?_) (fun E9 G2 hq2 => by cases hq2.1)
  obtain ⟨e9, u3, h3, hI3, c3⟩ := h2.M hI2 hq2
  cases e9
  refine zr_icmp_eq hX (tgt := 1455) d_L_law_180 (by decide) (fun _ => ?_) (fun z => absurd rfl z)
  exact kk w2 wm2 u3 cm2 fo G2 _ _ o5 o6 h3 hI3 (by omega) (by omega)
theorem lc_branch (hX : zOK g X b_L_law y_L_law (some .boolean) [] 7 d 601024 7293034) (hd9 : 100 ≤ d) (hs : zSc X b L xs) (hL : L ≤ 3584) (t : Nat) (ht : 7 * t + 7 ≤ L) (h0 : zL0 x m out w u fo G) (hI : zIn w wm u cm) (hk : k + zPc w wm ≤ K) (hn : n + zPs w wm ≤ N) (hK : K + 2 ≤ 601024) (hN : N + 4101 ≤ 7293034) (kk : zNext g X b x m out t (K + 2) (N + 4101)) : zw g X (fun r _ => r = .inl (some (.int 1))) 185 (zll b x m out (7 * t) o5 o6) [] G k n := by
  obtain ⟨code, u2, cm2, mc9, ms9, ⟨bc, bs⟩, hS, hM⟩ := P_branch (g := g) hI (xs (7 * t + 1)) (xs (7 * t + 2))
  obtain rfl := h0.2.2.2.1
  unfold zll
  refine zr_aload_n hX rfl d_L_law_185 ?_
  refine zr_aload_n hX rfl d_L_law_186 ?_
  refine zr_iload hX rfl d_L_law_187 ?_
  refine zr_iconst (v := nI 1) hX rfl d_L_law_189 ?_
  refine zn_iadd hX d_L_law_190 ?_
  refine zr_sld hX hs (by omega) hL d_L_law_191 ?_
  refine zr_aload_n hX rfl d_L_law_192 ?_
  refine zr_iload hX rfl d_L_law_193 ?_
  refine zr_iconst (v := nI 2) hX rfl d_L_law_195 ?_
  refine zn_iadd hX d_L_law_196 ?_
  refine zr_sld hX hs (by omega) hL d_L_law_197 ?_
  refine zr_callS hX (hS (d - 1) G (by omega) h0.1) l_L_59 st_L_branch f_L_branch rfl (Nat.le_of_ble_eq_true rfl) (by omega) (by omega) (by omega) d_L_law_198 (fun v9 G1 hq => ?_) (fun E9 G1 hq => by cases hq.1)
  obtain ⟨e9, w2, wm2, h2, hI2, p1, p2⟩ := h0.S hq
  cases e9
  refine zs_istore hX (by decide) rfl d_L_law_201 ?_
  refine zr_aload_n hX rfl d_L_law_203 ?_
  refine zr_aload_n hX rfl d_L_law_204 ?_
  refine zr_iload hX rfl d_L_law_205 ?_
  refine zr_iconst (v := nI 1) hX rfl d_L_law_207 ?_
  refine zn_iadd hX d_L_law_208 ?_
  refine zr_sld hX hs (by omega) hL d_L_law_209 ?_
  refine zr_aload_n hX rfl d_L_law_210 ?_
  refine zr_iload hX rfl d_L_law_211 ?_
  refine zr_iconst (v := nI 2) hX rfl d_L_law_213 ?_
  refine zn_iadd hX d_L_law_214 ?_
  refine zr_sld hX hs (by omega) hL d_L_law_215 ?_
  refine zr_callV hX (hM (d - 1) _ m (by omega) h2.2.1) l_L_64 im_M_branch se_M_branch f_M_branch k_M.1 h2.2.1.m rfl (Nat.le_of_ble_eq_true rfl) (by omega) (by omega) (by omega) d_L_law_216 (fun v9 G2 hq2 => ?_) (fun E9 G2 hq2 => by cases hq2.1)
  obtain ⟨e9, u3, h3, hI3, c3⟩ := h2.M hI2 hq2
  cases e9
  refine zr_aload_n hX rfl d_L_law_219 ?_
  refine zr_pV hX (c_M_thrown g (d - 1) G2 u3 m h3.2.1) l_L_65 im_M_thrown se_M_thrown f_M_thrown k_M.1 h3.2.1.m rfl (Nat.le_of_ble_eq_true rfl) (by omega) (by omega) (by omega) d_L_law_220 ?_
  refine zr_iload hX rfl d_L_law_223 ?_
  refine zr_icmp_eq hX (tgt := 230) d_L_law_225 (by decide) (fun _ => ?_) (fun z => absurd (show s_M_thrown u3 = code from c3) z)
  refine zr_goto hX (tgt := 1455) (by decide) d_L_law_230 ?_
  exact kk w2 wm2 u3 cm2 fo G2 _ _ (some (.int code)) o6 h3 hI3 (by omega) (by omega)
theorem lc_drop (hX : zOK g X b_L_law y_L_law (some .boolean) [] 7 d 601024 7293034) (hd9 : 100 ≤ d) (hs : zSc X b L xs) (hL : L ≤ 3584) (t : Nat) (ht : 7 * t + 7 ≤ L) (h0 : zL0 x m out w u fo G) (hI : zIn w wm u cm) (hk : k + zPc w wm ≤ K) (hn : n + zPs w wm ≤ N) (hK : K + 2 ≤ 601024) (hN : N + 4101 ≤ 7293034) (kk : zNext g X b x m out t (K + 2) (N + 4101)) : zw g X (fun r _ => r = .inl (some (.int 1))) 233 (zll b x m out (7 * t) o5 o6) [] G k n := by
  obtain ⟨v, u2, cm2, mc9, ms9, ⟨bc, bs⟩, hS, hM⟩ := P_drop (g := g) hI (xs (7 * t + 1))
  obtain rfl := h0.2.2.2.1
  unfold zll
  refine zr_aload_n hX rfl d_L_law_233 ?_
  refine zr_aload_n hX rfl d_L_law_234 ?_
  refine zr_iload hX rfl d_L_law_235 ?_
  refine zr_iconst (v := nI 1) hX rfl d_L_law_237 ?_
  refine zn_iadd hX d_L_law_238 ?_
  refine zr_sld hX hs (by omega) hL d_L_law_239 ?_
  refine zr_callV hX (hS (d - 1) G (by omega) h0.1) l_L_69 im_S_drop se_S_drop f_S_drop k_S.1 (h0.1.at 0 0 rfl) rfl (Nat.le_of_ble_eq_true rfl) (by omega) (by omega) (by omega) d_L_law_240 (fun v9 G1 hq => ?_) (fun E9 G1 hq => by cases hq.1)
  obtain ⟨e9, w2, wm2, h2, hI2, p1, p2⟩ := h0.S hq
  cases e9
  refine zr_aload_n hX rfl d_L_law_243 ?_
  refine zr_aload_n hX rfl d_L_law_244 ?_
  refine zr_iload hX rfl d_L_law_245 ?_
  refine zr_iconst (v := nI 1) hX rfl d_L_law_247 ?_
  refine zn_iadd hX d_L_law_248 ?_
  refine zr_sld hX hs (by omega) hL d_L_law_249 ?_
  refine zr_callV hX (hM (d - 1) _ m (by omega) h2.2.1) l_L_73 im_M_drop se_M_drop f_M_drop k_M.1 h2.2.1.m rfl (Nat.le_of_ble_eq_true rfl) (by omega) (by omega) (by omega) d_L_law_250 (fun v9 G2 hq2 => ?_) (fun E9 G2 hq2 => by cases hq2.1)
  obtain ⟨e9, u3, h3, hI3, c3⟩ := h2.M hI2 hq2
  cases e9
  refine zr_icmp_eq hX (tgt := 1455) d_L_law_253 (by decide) (fun _ => ?_) (fun z => absurd rfl z)
  exact kk w2 wm2 u3 cm2 fo G2 _ _ o5 o6 h3 hI3 (by omega) (by omega)
theorem lc_region (hX : zOK g X b_L_law y_L_law (some .boolean) [] 7 d 601024 7293034) (hd9 : 100 ≤ d) (hs : zSc X b L xs) (hL : L ≤ 3584) (t : Nat) (ht : 7 * t + 7 ≤ L) (h0 : zL0 x m out w u fo G) (hI : zIn w wm u cm) (hk : k + zPc w wm ≤ K) (hn : n + zPs w wm ≤ N) (hK : K + 2 ≤ 601024) (hN : N + 4101 ≤ 7293034) (kk : zNext g X b x m out t (K + 2) (N + 4101)) : zw g X (fun r _ => r = .inl (some (.int 1))) 258 (zll b x m out (7 * t) o5 o6) [] G k n := by
  obtain ⟨v, u2, cm2, mc9, ms9, ⟨bc, bs⟩, hS, hM⟩ := P_region (g := g) hI (xs (7 * t + 1)) (xs (7 * t + 2)) (xs (7 * t + 3)) (xs (7 * t + 4))
  obtain rfl := h0.2.2.2.1
  unfold zll
  refine zr_aload_n hX rfl d_L_law_258 ?_
  refine zr_aload_n hX rfl d_L_law_259 ?_
  refine zr_iload hX rfl d_L_law_260 ?_
  refine zr_iconst (v := nI 1) hX rfl d_L_law_262 ?_
  refine zn_iadd hX d_L_law_263 ?_
  refine zr_sld hX hs (by omega) hL d_L_law_264 ?_
  refine zr_aload_n hX rfl d_L_law_265 ?_
  refine zr_iload hX rfl d_L_law_266 ?_
  refine zr_iconst (v := nI 2) hX rfl d_L_law_268 ?_
  refine zn_iadd hX d_L_law_269 ?_
  refine zr_sld hX hs (by omega) hL d_L_law_270 ?_
  refine zr_aload_n hX rfl d_L_law_271 ?_
  refine zr_iload hX rfl d_L_law_272 ?_
  refine zr_iconst (v := nI 3) hX rfl d_L_law_274 ?_
  refine zn_iadd hX d_L_law_275 ?_
  refine zr_sld hX hs (by omega) hL d_L_law_276 ?_
  refine zr_aload_n hX rfl d_L_law_277 ?_
  refine zr_iload hX rfl d_L_law_278 ?_
  refine zr_iconst (v := nI 4) hX rfl d_L_law_280 ?_
  refine zn_iadd hX d_L_law_281 ?_
  refine zr_sld hX hs (by omega) hL d_L_law_282 ?_
  refine zr_callV hX (hS (d - 1) G (by omega) h0.1) l_L_74 im_S_region se_S_region f_S_region k_S.1 (h0.1.at 0 0 rfl) rfl (Nat.le_of_ble_eq_true rfl) (by omega) (by omega) (by omega) d_L_law_283 (fun v9 G1 hq => ?_) (fun E9 G1 hq => by cases hq.1)
  obtain ⟨e9, w2, wm2, h2, hI2, p1, p2⟩ := h0.S hq
  cases e9
  refine zr_aload_n hX rfl d_L_law_286 ?_
  refine zr_aload_n hX rfl d_L_law_287 ?_
  refine zr_iload hX rfl d_L_law_288 ?_
  refine zr_iconst (v := nI 1) hX rfl d_L_law_290 ?_
  refine zn_iadd hX d_L_law_291 ?_
  refine zr_sld hX hs (by omega) hL d_L_law_292 ?_
  refine zr_aload_n hX rfl d_L_law_293 ?_
  refine zr_iload hX rfl d_L_law_294 ?_
  refine zr_iconst (v := nI 2) hX rfl d_L_law_296 ?_
  refine zn_iadd hX d_L_law_297 ?_
  refine zr_sld hX hs (by omega) hL d_L_law_298 ?_
  refine zr_aload_n hX rfl d_L_law_299 ?_
  refine zr_iload hX rfl d_L_law_300 ?_
  refine zr_iconst (v := nI 3) hX rfl d_L_law_302 ?_
  refine zn_iadd hX d_L_law_303 ?_
  refine zr_sld hX hs (by omega) hL d_L_law_304 ?_
  refine zr_aload_n hX rfl d_L_law_305 ?_
  refine zr_iload hX rfl d_L_law_306 ?_
  refine zr_iconst (v := nI 4) hX rfl d_L_law_308 ?_
  refine zn_iadd hX d_L_law_309 ?_
  refine zr_sld hX hs (by omega) hL d_L_law_310 ?_
  refine zr_callV hX (hM (d - 1) _ m (by omega) h2.2.1) l_L_78 im_M_region se_M_region f_M_region k_M.1 h2.2.1.m rfl (Nat.le_of_ble_eq_true rfl) (by omega) (by omega) (by omega) d_L_law_311 (fun v9 G2 hq2 => ?_) (fun E9 G2 hq2 => by cases hq2.1)
  obtain ⟨e9, u3, h3, hI3, c3⟩ := h2.M hI2 hq2
  cases e9
  refine zr_icmp_eq hX (tgt := 1455) d_L_law_314 (by decide) (fun _ => ?_) (fun z => absurd rfl z)
  exact kk w2 wm2 u3 cm2 fo G2 _ _ o5 o6 h3 hI3 (by omega) (by omega)
theorem lc_paint (hX : zOK g X b_L_law y_L_law (some .boolean) [] 7 d 601024 7293034) (hd9 : 100 ≤ d) (hs : zSc X b L xs) (hL : L ≤ 3584) (t : Nat) (ht : 7 * t + 7 ≤ L) (h0 : zL0 x m out w u fo G) (hI : zIn w wm u cm) (hk : k + zPc w wm ≤ K) (hn : n + zPs w wm ≤ N) (hK : K + 2 ≤ 601024) (hN : N + 4101 ≤ 7293034) (kk : zNext g X b x m out t (K + 2) (N + 4101)) : zw g X (fun r _ => r = .inl (some (.int 1))) 319 (zll b x m out (7 * t) o5 o6) [] G k n := by
  obtain ⟨code, u2, cm2, mc9, ms9, ⟨bc, bs⟩, hS, hM⟩ := P_paint (g := g) hI (xs (7 * t + 1)) (xs (7 * t + 2)) (xs (7 * t + 3))
  obtain rfl := h0.2.2.2.1
  unfold zll
  refine zr_aload_n hX rfl d_L_law_319 ?_
  refine zr_aload_n hX rfl d_L_law_320 ?_
  refine zr_iload hX rfl d_L_law_321 ?_
  refine zr_iconst (v := nI 1) hX rfl d_L_law_323 ?_
  refine zn_iadd hX d_L_law_324 ?_
  refine zr_sld hX hs (by omega) hL d_L_law_325 ?_
  refine zr_aload_n hX rfl d_L_law_326 ?_
  refine zr_iload hX rfl d_L_law_327 ?_
  refine zr_iconst (v := nI 2) hX rfl d_L_law_329 ?_
  refine zn_iadd hX d_L_law_330 ?_
  refine zr_sld hX hs (by omega) hL d_L_law_331 ?_
  refine zr_aload_n hX rfl d_L_law_332 ?_
  refine zr_iload hX rfl d_L_law_333 ?_
  refine zr_iconst (v := nI 3) hX rfl d_L_law_335 ?_
  refine zn_iadd hX d_L_law_336 ?_
  refine zr_sld hX hs (by omega) hL d_L_law_337 ?_
  refine zr_callS hX (hS (d - 1) G (by omega) h0.1) l_L_79 st_L_paint f_L_paint rfl (Nat.le_of_ble_eq_true rfl) (by omega) (by omega) (by omega) d_L_law_338 (fun v9 G1 hq => ?_) (fun E9 G1 hq => by cases hq.1)
  obtain ⟨e9, w2, wm2, h2, hI2, p1, p2⟩ := h0.S hq
  cases e9
  refine zs_istore hX (by decide) rfl d_L_law_341 ?_
  refine zr_aload_n hX rfl d_L_law_343 ?_
  refine zr_aload_n hX rfl d_L_law_344 ?_
  refine zr_iload hX rfl d_L_law_345 ?_
  refine zr_iconst (v := nI 1) hX rfl d_L_law_347 ?_
  refine zn_iadd hX d_L_law_348 ?_
  refine zr_sld hX hs (by omega) hL d_L_law_349 ?_
  refine zr_aload_n hX rfl d_L_law_350 ?_
  refine zr_iload hX rfl d_L_law_351 ?_
  refine zr_iconst (v := nI 2) hX rfl d_L_law_353 ?_
  refine zn_iadd hX d_L_law_354 ?_
  refine zr_sld hX hs (by omega) hL d_L_law_355 ?_
  refine zr_aload_n hX rfl d_L_law_356 ?_
  refine zr_iload hX rfl d_L_law_357 ?_
  refine zr_iconst (v := nI 3) hX rfl d_L_law_359 ?_
  refine zn_iadd hX d_L_law_360 ?_
  refine zr_sld hX hs (by omega) hL d_L_law_361 ?_
  refine zr_callV hX (hM (d - 1) _ m (by omega) h2.2.1) l_L_82 im_M_paint se_M_paint f_M_paint k_M.1 h2.2.1.m rfl (Nat.le_of_ble_eq_true rfl) (by omega) (by omega) (by omega) d_L_law_362 (fun v9 G2 hq2 => ?_) (fun E9 G2 hq2 => by cases hq2.1)
  obtain ⟨e9, u3, h3, hI3, c3⟩ := h2.M hI2 hq2
  cases e9
  refine zr_aload_n hX rfl d_L_law_365 ?_
  refine zr_pV hX (c_M_thrown g (d - 1) G2 u3 m h3.2.1) l_L_65 im_M_thrown se_M_thrown f_M_thrown k_M.1 h3.2.1.m rfl (Nat.le_of_ble_eq_true rfl) (by omega) (by omega) (by omega) d_L_law_366 ?_
  refine zr_iload hX rfl d_L_law_369 ?_
  refine zr_icmp_eq hX (tgt := 376) d_L_law_371 (by decide) (fun _ => ?_) (fun z => absurd (show s_M_thrown u3 = code from c3) z)
  refine zr_goto hX (tgt := 1455) (by decide) d_L_law_376 ?_
  exact kk w2 wm2 u3 cm2 fo G2 _ _ (some (.int code)) o6 h3 hI3 (by omega) (by omega)
theorem lc_corner (hX : zOK g X b_L_law y_L_law (some .boolean) [] 7 d 601024 7293034) (hd9 : 100 ≤ d) (hs : zSc X b L xs) (hL : L ≤ 3584) (t : Nat) (ht : 7 * t + 7 ≤ L) (h0 : zL0 x m out w u fo G) (hI : zIn w wm u cm) (hk : k + zPc w wm ≤ K) (hn : n + zPs w wm ≤ N) (hK : K + 2 ≤ 601024) (hN : N + 4101 ≤ 7293034) (kk : zNext g X b x m out t (K + 2) (N + 4101)) : zw g X (fun r _ => r = .inl (some (.int 1))) 379 (zll b x m out (7 * t) o5 o6) [] G k n := by
  obtain ⟨v, u2, cm2, mc9, ms9, ⟨bc, bs⟩, hS, hM⟩ := P_corner (g := g) hI (xs (7 * t + 1)) (xs (7 * t + 2)) (xs (7 * t + 3))
  obtain rfl := h0.2.2.2.1
  unfold zll
  refine zr_aload_n hX rfl d_L_law_379 ?_
  refine zr_aload_n hX rfl d_L_law_380 ?_
  refine zr_iload hX rfl d_L_law_381 ?_
  refine zr_iconst (v := nI 1) hX rfl d_L_law_383 ?_
  refine zn_iadd hX d_L_law_384 ?_
  refine zr_sld hX hs (by omega) hL d_L_law_385 ?_
  refine zr_aload_n hX rfl d_L_law_386 ?_
  refine zr_iload hX rfl d_L_law_387 ?_
  refine zr_iconst (v := nI 2) hX rfl d_L_law_389 ?_
  refine zn_iadd hX d_L_law_390 ?_
  refine zr_sld hX hs (by omega) hL d_L_law_391 ?_
  refine zr_aload_n hX rfl d_L_law_392 ?_
  refine zr_iload hX rfl d_L_law_393 ?_
  refine zr_iconst (v := nI 3) hX rfl d_L_law_395 ?_
  refine zn_iadd hX d_L_law_396 ?_
  refine zr_sld hX hs (by omega) hL d_L_law_397 ?_
  refine zr_callV hX (hS (d - 1) G (by omega) h0.1) l_L_83 im_S_corner se_S_corner f_S_corner k_S.1 (h0.1.at 0 0 rfl) rfl (Nat.le_of_ble_eq_true rfl) (by omega) (by omega) (by omega) d_L_law_398 (fun v9 G1 hq => ?_) (fun E9 G1 hq => by cases hq.1)
  obtain ⟨e9, w2, wm2, h2, hI2, p1, p2⟩ := h0.S hq
  cases e9
  refine zr_aload_n hX rfl d_L_law_401 ?_
  refine zr_aload_n hX rfl d_L_law_402 ?_
  refine zr_iload hX rfl d_L_law_403 ?_
  refine zr_iconst (v := nI 1) hX rfl d_L_law_405 ?_
  refine zn_iadd hX d_L_law_406 ?_
  refine zr_sld hX hs (by omega) hL d_L_law_407 ?_
  refine zr_aload_n hX rfl d_L_law_408 ?_
  refine zr_iload hX rfl d_L_law_409 ?_
  refine zr_iconst (v := nI 2) hX rfl d_L_law_411 ?_
  refine zn_iadd hX d_L_law_412 ?_
  refine zr_sld hX hs (by omega) hL d_L_law_413 ?_
  refine zr_aload_n hX rfl d_L_law_414 ?_
  refine zr_iload hX rfl d_L_law_415 ?_
  refine zr_iconst (v := nI 3) hX rfl d_L_law_417 ?_
  refine zn_iadd hX d_L_law_418 ?_
  refine zr_sld hX hs (by omega) hL d_L_law_419 ?_
  refine zr_callV hX (hM (d - 1) _ m (by omega) h2.2.1) l_L_87 im_M_corner se_M_corner f_M_corner k_M.1 h2.2.1.m rfl (Nat.le_of_ble_eq_true rfl) (by omega) (by omega) (by omega) d_L_law_420 (fun v9 G2 hq2 => ?_) (fun E9 G2 hq2 => by cases hq2.1)
  obtain ⟨e9, u3, h3, hI3, c3⟩ := h2.M hI2 hq2
  cases e9
  refine zr_icmp_eq hX (tgt := 1455) d_L_law_423 (by decide) (fun _ => ?_) (fun z => absurd rfl z)
  exact kk w2 wm2 u3 cm2 fo G2 _ _ o5 o6 h3 hI3 (by omega) (by omega)
theorem lc_polygon (hX : zOK g X b_L_law y_L_law (some .boolean) [] 7 d 601024 7293034) (hd9 : 100 ≤ d) (hs : zSc X b L xs) (hL : L ≤ 3584) (t : Nat) (ht : 7 * t + 7 ≤ L) (h0 : zL0 x m out w u fo G) (hI : zIn w wm u cm) (hk : k + zPc w wm ≤ K) (hn : n + zPs w wm ≤ N) (hK : K + 2 ≤ 601024) (hN : N + 4101 ≤ 7293034) (kk : zNext g X b x m out t (K + 2) (N + 4101)) : zw g X (fun r _ => r = .inl (some (.int 1))) 428 (zll b x m out (7 * t) o5 o6) [] G k n := by
  obtain ⟨code, u2, cm2, mc9, ms9, ⟨bc, bs⟩, hS, hM⟩ := P_polygon (g := g) hI (xs (7 * t + 1)) (xs (7 * t + 2)) (xs (7 * t + 3)) (xs (7 * t + 4))
  obtain rfl := h0.2.2.2.1
  unfold zll
  refine zr_aload_n hX rfl d_L_law_428 ?_
  refine zr_aload_n hX rfl d_L_law_429 ?_
  refine zr_iload hX rfl d_L_law_430 ?_
  refine zr_iconst (v := nI 1) hX rfl d_L_law_432 ?_
  refine zn_iadd hX d_L_law_433 ?_
  refine zr_sld hX hs (by omega) hL d_L_law_434 ?_
  refine zr_aload_n hX rfl d_L_law_435 ?_
  refine zr_iload hX rfl d_L_law_436 ?_
  refine zr_iconst (v := nI 2) hX rfl d_L_law_438 ?_
  refine zn_iadd hX d_L_law_439 ?_
  refine zr_sld hX hs (by omega) hL d_L_law_440 ?_
  refine zr_aload_n hX rfl d_L_law_441 ?_
  refine zr_iload hX rfl d_L_law_442 ?_
  refine zr_iconst (v := nI 3) hX rfl d_L_law_444 ?_
  refine zn_iadd hX d_L_law_445 ?_
  refine zr_sld hX hs (by omega) hL d_L_law_446 ?_
  refine zr_aload_n hX rfl d_L_law_447 ?_
  refine zr_iload hX rfl d_L_law_448 ?_
  refine zr_iconst (v := nI 4) hX rfl d_L_law_450 ?_
  refine zn_iadd hX d_L_law_451 ?_
  refine zr_sld hX hs (by omega) hL d_L_law_452 ?_
  refine zr_callS hX (hS (d - 1) G (by omega) h0.1) l_L_88 st_L_polygon f_L_polygon rfl (Nat.le_of_ble_eq_true rfl) (by omega) (by omega) (by omega) d_L_law_453 (fun v9 G1 hq => ?_) (fun E9 G1 hq => by cases hq.1)
  obtain ⟨e9, w2, wm2, h2, hI2, p1, p2⟩ := h0.S hq
  cases e9
  refine zs_istore hX (by decide) rfl d_L_law_456 ?_
  refine zr_aload_n hX rfl d_L_law_458 ?_
  refine zr_aload_n hX rfl d_L_law_459 ?_
  refine zr_iload hX rfl d_L_law_460 ?_
  refine zr_iconst (v := nI 1) hX rfl d_L_law_462 ?_
  refine zn_iadd hX d_L_law_463 ?_
  refine zr_sld hX hs (by omega) hL d_L_law_464 ?_
  refine zr_aload_n hX rfl d_L_law_465 ?_
  refine zr_iload hX rfl d_L_law_466 ?_
  refine zr_iconst (v := nI 2) hX rfl d_L_law_468 ?_
  refine zn_iadd hX d_L_law_469 ?_
  refine zr_sld hX hs (by omega) hL d_L_law_470 ?_
  refine zr_aload_n hX rfl d_L_law_471 ?_
  refine zr_iload hX rfl d_L_law_472 ?_
  refine zr_iconst (v := nI 3) hX rfl d_L_law_474 ?_
  refine zn_iadd hX d_L_law_475 ?_
  refine zr_sld hX hs (by omega) hL d_L_law_476 ?_
  refine zr_aload_n hX rfl d_L_law_477 ?_
  refine zr_iload hX rfl d_L_law_478 ?_
  refine zr_iconst (v := nI 4) hX rfl d_L_law_480 ?_
  refine zn_iadd hX d_L_law_481 ?_
  refine zr_sld hX hs (by omega) hL d_L_law_482 ?_
  refine zr_callV hX (hM (d - 1) _ m (by omega) h2.2.1) l_L_91 im_M_polygon se_M_polygon f_M_polygon k_M.1 h2.2.1.m rfl (Nat.le_of_ble_eq_true rfl) (by omega) (by omega) (by omega) d_L_law_483 (fun v9 G2 hq2 => ?_) (fun E9 G2 hq2 => by cases hq2.1)
  obtain ⟨e9, u3, h3, hI3, c3⟩ := h2.M hI2 hq2
  cases e9
  refine zr_aload_n hX rfl d_L_law_486 ?_
  refine zr_pV hX (c_M_thrown g (d - 1) G2 u3 m h3.2.1) l_L_65 im_M_thrown se_M_thrown f_M_thrown k_M.1 h3.2.1.m rfl (Nat.le_of_ble_eq_true rfl) (by omega) (by omega) (by omega) d_L_law_487 ?_
  refine zr_iload hX rfl d_L_law_490 ?_
  refine zr_icmp_eq hX (tgt := 497) d_L_law_492 (by decide) (fun _ => ?_) (fun z => absurd (show s_M_thrown u3 = code from c3) z)
  refine zr_goto hX (tgt := 1455) (by decide) d_L_law_497 ?_
  exact kk w2 wm2 u3 cm2 fo G2 _ _ (some (.int code)) o6 h3 hI3 (by omega) (by omega)
theorem lc_copy (hX : zOK g X b_L_law y_L_law (some .boolean) [] 7 d 601024 7293034) (hd9 : 100 ≤ d) (hs : zSc X b L xs) (hL : L ≤ 3584) (t : Nat) (ht : 7 * t + 7 ≤ L) (h0 : zL0 x m out w u fo G) (hI : zIn w wm u cm) (hk : k + zPc w wm ≤ K) (hn : n + zPs w wm ≤ N) (hK : K + 2 ≤ 601024) (hN : N + 4101 ≤ 7293034) (kk : zNext g X b x m out t (K + 2) (N + 4101)) : zw g X (fun r _ => r = .inl (some (.int 1))) 500 (zll b x m out (7 * t) o5 o6) [] G k n := by
  obtain ⟨code, u2, cm2, mc9, ms9, ⟨bc, bs⟩, hS, hM⟩ := P_copy (g := g) hI (xs (7 * t + 1)) (xs (7 * t + 2)) (xs (7 * t + 3)) (xs (7 * t + 4)) (xs (7 * t + 5)) (xs (7 * t + 6))
  obtain rfl := h0.2.2.2.1
  unfold zll
  refine zr_aload_n hX rfl d_L_law_500 ?_
  refine zr_aload_n hX rfl d_L_law_501 ?_
  refine zr_iload hX rfl d_L_law_502 ?_
  refine zr_iconst (v := nI 1) hX rfl d_L_law_504 ?_
  refine zn_iadd hX d_L_law_505 ?_
  refine zr_sld hX hs (by omega) hL d_L_law_506 ?_
  refine zr_aload_n hX rfl d_L_law_507 ?_
  refine zr_iload hX rfl d_L_law_508 ?_
  refine zr_iconst (v := nI 2) hX rfl d_L_law_510 ?_
  refine zn_iadd hX d_L_law_511 ?_
  refine zr_sld hX hs (by omega) hL d_L_law_512 ?_
  refine zr_aload_n hX rfl d_L_law_513 ?_
  refine zr_iload hX rfl d_L_law_514 ?_
  refine zr_iconst (v := nI 3) hX rfl d_L_law_516 ?_
  refine zn_iadd hX d_L_law_517 ?_
  refine zr_sld hX hs (by omega) hL d_L_law_518 ?_
  refine zr_aload_n hX rfl d_L_law_519 ?_
  refine zr_iload hX rfl d_L_law_520 ?_
  refine zr_iconst (v := nI 4) hX rfl d_L_law_522 ?_
  refine zn_iadd hX d_L_law_523 ?_
  refine zr_sld hX hs (by omega) hL d_L_law_524 ?_
  refine zr_aload_n hX rfl d_L_law_525 ?_
  refine zr_iload hX rfl d_L_law_526 ?_
  refine zr_iconst (v := nI 5) hX rfl d_L_law_528 ?_
  refine zn_iadd hX d_L_law_529 ?_
  refine zr_sld hX hs (by omega) hL d_L_law_530 ?_
  refine zr_aload_n hX rfl d_L_law_531 ?_
  refine zr_iload hX rfl d_L_law_532 ?_
  refine zr_bipush (v := nI 6) hX rfl d_L_law_534 ?_
  refine zn_iadd hX d_L_law_536 ?_
  refine zr_sld hX hs (by omega) hL d_L_law_537 ?_
  refine zr_callS hX (hS (d - 1) G (by omega) h0.1) l_L_92 st_L_copy f_L_copy rfl (Nat.le_of_ble_eq_true rfl) (by omega) (by omega) (by omega) d_L_law_538 (fun v9 G1 hq => ?_) (fun E9 G1 hq => by cases hq.1)
  obtain ⟨e9, w2, wm2, h2, hI2, p1, p2⟩ := h0.S hq
  cases e9
  refine zs_istore hX (by decide) rfl d_L_law_541 ?_
  refine zr_aload_n hX rfl d_L_law_543 ?_
  refine zr_aload_n hX rfl d_L_law_544 ?_
  refine zr_iload hX rfl d_L_law_545 ?_
  refine zr_iconst (v := nI 1) hX rfl d_L_law_547 ?_
  refine zn_iadd hX d_L_law_548 ?_
  refine zr_sld hX hs (by omega) hL d_L_law_549 ?_
  refine zr_aload_n hX rfl d_L_law_550 ?_
  refine zr_iload hX rfl d_L_law_551 ?_
  refine zr_iconst (v := nI 2) hX rfl d_L_law_553 ?_
  refine zn_iadd hX d_L_law_554 ?_
  refine zr_sld hX hs (by omega) hL d_L_law_555 ?_
  refine zr_aload_n hX rfl d_L_law_556 ?_
  refine zr_iload hX rfl d_L_law_557 ?_
  refine zr_iconst (v := nI 3) hX rfl d_L_law_559 ?_
  refine zn_iadd hX d_L_law_560 ?_
  refine zr_sld hX hs (by omega) hL d_L_law_561 ?_
  refine zr_aload_n hX rfl d_L_law_562 ?_
  refine zr_iload hX rfl d_L_law_563 ?_
  refine zr_iconst (v := nI 4) hX rfl d_L_law_565 ?_
  refine zn_iadd hX d_L_law_566 ?_
  refine zr_sld hX hs (by omega) hL d_L_law_567 ?_
  refine zr_aload_n hX rfl d_L_law_568 ?_
  refine zr_iload hX rfl d_L_law_569 ?_
  refine zr_iconst (v := nI 5) hX rfl d_L_law_571 ?_
  refine zn_iadd hX d_L_law_572 ?_
  refine zr_sld hX hs (by omega) hL d_L_law_573 ?_
  refine zr_aload_n hX rfl d_L_law_574 ?_
  refine zr_iload hX rfl d_L_law_575 ?_
  refine zr_bipush (v := nI 6) hX rfl d_L_law_577 ?_
  refine zn_iadd hX d_L_law_579 ?_
  refine zr_sld hX hs (by omega) hL d_L_law_580 ?_
  refine zr_callV hX (hM (d - 1) _ m (by omega) h2.2.1) l_L_95 im_M_copy se_M_copy f_M_copy k_M.1 h2.2.1.m rfl (Nat.le_of_ble_eq_true rfl) (by omega) (by omega) (by omega) d_L_law_581 (fun v9 G2 hq2 => ?_) (fun E9 G2 hq2 => by cases hq2.1)
  obtain ⟨e9, u3, h3, hI3, c3⟩ := h2.M hI2 hq2
  cases e9
  refine zr_aload_n hX rfl d_L_law_584 ?_
  refine zr_pV hX (c_M_thrown g (d - 1) G2 u3 m h3.2.1) l_L_65 im_M_thrown se_M_thrown f_M_thrown k_M.1 h3.2.1.m rfl (Nat.le_of_ble_eq_true rfl) (by omega) (by omega) (by omega) d_L_law_585 ?_
  refine zr_iload hX rfl d_L_law_588 ?_
  refine zr_icmp_eq hX (tgt := 595) d_L_law_590 (by decide) (fun _ => ?_) (fun z => absurd (show s_M_thrown u3 = code from c3) z)
  refine zr_goto hX (tgt := 1455) (by decide) d_L_law_595 ?_
  exact kk w2 wm2 u3 cm2 fo G2 _ _ (some (.int code)) o6 h3 hI3 (by omega) (by omega)
theorem lc_entry (hX : zOK g X b_L_law y_L_law (some .boolean) [] 7 d 601024 7293034) (hd9 : 100 ≤ d) (hs : zSc X b L xs) (hL : L ≤ 3584) (t : Nat) (ht : 7 * t + 7 ≤ L) (h0 : zL0 x m out w u fo G) (hI : zIn w wm u cm) (hk : k + zPc w wm ≤ K) (hn : n + zPs w wm ≤ N) (hK : K + 2 ≤ 601024) (hN : N + 4101 ≤ 7293034) (kk : zNext g X b x m out t (K + 2) (N + 4101)) : zw g X (fun r _ => r = .inl (some (.int 1))) 598 (zll b x m out (7 * t) o5 o6) [] G k n := by
  obtain ⟨v, u2, cm2, mc9, ms9, ⟨bc, bs⟩, hS, hM⟩ := P_entry (g := g) hI (xs (7 * t + 1)) (xs (7 * t + 2)) (xs (7 * t + 3))
  obtain rfl := h0.2.2.2.1
  unfold zll
  refine zr_aload_n hX rfl d_L_law_598 ?_
  refine zr_aload_n hX rfl d_L_law_599 ?_
  refine zr_iload hX rfl d_L_law_600 ?_
  refine zr_iconst (v := nI 1) hX rfl d_L_law_602 ?_
  refine zn_iadd hX d_L_law_603 ?_
  refine zr_sld hX hs (by omega) hL d_L_law_604 ?_
  refine zr_aload_n hX rfl d_L_law_605 ?_
  refine zr_iload hX rfl d_L_law_606 ?_
  refine zr_iconst (v := nI 2) hX rfl d_L_law_608 ?_
  refine zn_iadd hX d_L_law_609 ?_
  refine zr_sld hX hs (by omega) hL d_L_law_610 ?_
  refine zr_aload_n hX rfl d_L_law_611 ?_
  refine zr_iload hX rfl d_L_law_612 ?_
  refine zr_iconst (v := nI 3) hX rfl d_L_law_614 ?_
  refine zn_iadd hX d_L_law_615 ?_
  refine zr_sld hX hs (by omega) hL d_L_law_616 ?_
  refine zr_callV hX (hS (d - 1) G (by omega) h0.1) l_L_96 im_S_entry se_S_entry f_S_entry k_S.1 (h0.1.at 0 0 rfl) rfl (Nat.le_of_ble_eq_true rfl) (by omega) (by omega) (by omega) d_L_law_617 (fun v9 G1 hq => ?_) (fun E9 G1 hq => by cases hq.1)
  obtain ⟨e9, w2, wm2, h2, hI2, p1, p2⟩ := h0.S hq
  cases e9
  refine zr_aload_n hX rfl d_L_law_620 ?_
  refine zr_aload_n hX rfl d_L_law_621 ?_
  refine zr_iload hX rfl d_L_law_622 ?_
  refine zr_iconst (v := nI 1) hX rfl d_L_law_624 ?_
  refine zn_iadd hX d_L_law_625 ?_
  refine zr_sld hX hs (by omega) hL d_L_law_626 ?_
  refine zr_aload_n hX rfl d_L_law_627 ?_
  refine zr_iload hX rfl d_L_law_628 ?_
  refine zr_iconst (v := nI 2) hX rfl d_L_law_630 ?_
  refine zn_iadd hX d_L_law_631 ?_
  refine zr_sld hX hs (by omega) hL d_L_law_632 ?_
  refine zr_aload_n hX rfl d_L_law_633 ?_
  refine zr_iload hX rfl d_L_law_634 ?_
  refine zr_iconst (v := nI 3) hX rfl d_L_law_636 ?_
  refine zn_iadd hX d_L_law_637 ?_
  refine zr_sld hX hs (by omega) hL d_L_law_638 ?_
  refine zr_callV hX (hM (d - 1) _ m (by omega) h2.2.1) l_L_99 im_M_entry se_M_entry f_M_entry k_M.1 h2.2.1.m rfl (Nat.le_of_ble_eq_true rfl) (by omega) (by omega) (by omega) d_L_law_639 (fun v9 G2 hq2 => ?_) (fun E9 G2 hq2 => by cases hq2.1)
  obtain ⟨e9, u3, h3, hI3, c3⟩ := h2.M hI2 hq2
  cases e9
  refine zr_icmp_eq hX (tgt := 1455) d_L_law_642 (by decide) (fun _ => ?_) (fun z => absurd rfl z)
  exact kk w2 wm2 u3 cm2 fo G2 _ _ o5 o6 h3 hI3 (by omega) (by omega)
theorem lc_map (hX : zOK g X b_L_law y_L_law (some .boolean) [] 7 d 601024 7293034) (hd9 : 100 ≤ d) (hs : zSc X b L xs) (hL : L ≤ 3584) (t : Nat) (ht : 7 * t + 7 ≤ L) (h0 : zL0 x m out w u fo G) (hI : zIn w wm u cm) (hk : k + zPc w wm ≤ K) (hn : n + zPs w wm ≤ N) (hK : K + 2 ≤ 601024) (hN : N + 4101 ≤ 7293034) (kk : zNext g X b x m out t (K + 2) (N + 4101)) : zw g X (fun r _ => r = .inl (some (.int 1))) 647 (zll b x m out (7 * t) o5 o6) [] G k n := by
  obtain ⟨code, u2, cm2, mc9, ms9, ⟨bc, bs⟩, hS, hM⟩ := P_map (g := g) hI (xs (7 * t + 1)) (xs (7 * t + 2))
  obtain rfl := h0.2.2.2.1
  unfold zll
  refine zr_aload_n hX rfl d_L_law_647 ?_
  refine zr_aload_n hX rfl d_L_law_648 ?_
  refine zr_iload hX rfl d_L_law_649 ?_
  refine zr_iconst (v := nI 1) hX rfl d_L_law_651 ?_
  refine zn_iadd hX d_L_law_652 ?_
  refine zr_sld hX hs (by omega) hL d_L_law_653 ?_
  refine zr_aload_n hX rfl d_L_law_654 ?_
  refine zr_iload hX rfl d_L_law_655 ?_
  refine zr_iconst (v := nI 2) hX rfl d_L_law_657 ?_
  refine zn_iadd hX d_L_law_658 ?_
  refine zr_sld hX hs (by omega) hL d_L_law_659 ?_
  refine zr_callS hX (hS (d - 1) G (by omega) h0.1) l_L_100 st_L_map f_L_map rfl (Nat.le_of_ble_eq_true rfl) (by omega) (by omega) (by omega) d_L_law_660 (fun v9 G1 hq => ?_) (fun E9 G1 hq => by cases hq.1)
  obtain ⟨e9, w2, wm2, h2, hI2, p1, p2⟩ := h0.S hq
  cases e9
  refine zs_istore hX (by decide) rfl d_L_law_663 ?_
  refine zr_aload_n hX rfl d_L_law_665 ?_
  refine zr_aload_n hX rfl d_L_law_666 ?_
  refine zr_iload hX rfl d_L_law_667 ?_
  refine zr_iconst (v := nI 1) hX rfl d_L_law_669 ?_
  refine zn_iadd hX d_L_law_670 ?_
  refine zr_sld hX hs (by omega) hL d_L_law_671 ?_
  refine zr_aload_n hX rfl d_L_law_672 ?_
  refine zr_iload hX rfl d_L_law_673 ?_
  refine zr_iconst (v := nI 2) hX rfl d_L_law_675 ?_
  refine zn_iadd hX d_L_law_676 ?_
  refine zr_sld hX hs (by omega) hL d_L_law_677 ?_
  refine zr_callV hX (hM (d - 1) _ m (by omega) h2.2.1) l_L_102 im_M_map se_M_map f_M_map k_M.1 h2.2.1.m rfl (Nat.le_of_ble_eq_true rfl) (by omega) (by omega) (by omega) d_L_law_678 (fun v9 G2 hq2 => ?_) (fun E9 G2 hq2 => by cases hq2.1)
  obtain ⟨e9, u3, h3, hI3, c3⟩ := h2.M hI2 hq2
  cases e9
  refine zr_aload_n hX rfl d_L_law_681 ?_
  refine zr_pV hX (c_M_thrown g (d - 1) G2 u3 m h3.2.1) l_L_65 im_M_thrown se_M_thrown f_M_thrown k_M.1 h3.2.1.m rfl (Nat.le_of_ble_eq_true rfl) (by omega) (by omega) (by omega) d_L_law_682 ?_
  refine zr_iload hX rfl d_L_law_685 ?_
  refine zr_icmp_eq hX (tgt := 692) d_L_law_687 (by decide) (fun _ => ?_) (fun z => absurd (show s_M_thrown u3 = code from c3) z)
  refine zr_goto hX (tgt := 1455) (by decide) d_L_law_692 ?_
  exact kk w2 wm2 u3 cm2 fo G2 _ _ (some (.int code)) o6 h3 hI3 (by omega) (by omega)
theorem lc_combine (hX : zOK g X b_L_law y_L_law (some .boolean) [] 7 d 601024 7293034) (hd9 : 100 ≤ d) (hs : zSc X b L xs) (hL : L ≤ 3584) (t : Nat) (ht : 7 * t + 7 ≤ L) (h0 : zL0 x m out w u fo G) (hI : zIn w wm u cm) (hk : k + zPc w wm ≤ K) (hn : n + zPs w wm ≤ N) (hK : K + 2 ≤ 601024) (hN : N + 4101 ≤ 7293034) (kk : zNext g X b x m out t (K + 2) (N + 4101)) : zw g X (fun r _ => r = .inl (some (.int 1))) 695 (zll b x m out (7 * t) o5 o6) [] G k n := by
  obtain ⟨code, u2, cm2, mc9, ms9, ⟨bc, bs⟩, hS, hM⟩ := P_combine (g := g) hI (xs (7 * t + 1)) (xs (7 * t + 2)) (xs (7 * t + 3)) (xs (7 * t + 4))
  obtain rfl := h0.2.2.2.1
  unfold zll
  refine zr_aload_n hX rfl d_L_law_695 ?_
  refine zr_aload_n hX rfl d_L_law_696 ?_
  refine zr_iload hX rfl d_L_law_697 ?_
  refine zr_iconst (v := nI 1) hX rfl d_L_law_699 ?_
  refine zn_iadd hX d_L_law_700 ?_
  refine zr_sld hX hs (by omega) hL d_L_law_701 ?_
  refine zr_aload_n hX rfl d_L_law_702 ?_
  refine zr_iload hX rfl d_L_law_703 ?_
  refine zr_iconst (v := nI 2) hX rfl d_L_law_705 ?_
  refine zn_iadd hX d_L_law_706 ?_
  refine zr_sld hX hs (by omega) hL d_L_law_707 ?_
  refine zr_aload_n hX rfl d_L_law_708 ?_
  refine zr_iload hX rfl d_L_law_709 ?_
  refine zr_iconst (v := nI 3) hX rfl d_L_law_711 ?_
  refine zn_iadd hX d_L_law_712 ?_
  refine zr_sld hX hs (by omega) hL d_L_law_713 ?_
  refine zr_aload_n hX rfl d_L_law_714 ?_
  refine zr_iload hX rfl d_L_law_715 ?_
  refine zr_iconst (v := nI 4) hX rfl d_L_law_717 ?_
  refine zn_iadd hX d_L_law_718 ?_
  refine zr_sld hX hs (by omega) hL d_L_law_719 ?_
  refine zr_callS hX (hS (d - 1) G (by omega) h0.1) l_L_103 st_L_combine f_L_combine rfl (Nat.le_of_ble_eq_true rfl) (by omega) (by omega) (by omega) d_L_law_720 (fun v9 G1 hq => ?_) (fun E9 G1 hq => by cases hq.1)
  obtain ⟨e9, w2, wm2, h2, hI2, p1, p2⟩ := h0.S hq
  cases e9
  refine zs_istore hX (by decide) rfl d_L_law_723 ?_
  refine zr_aload_n hX rfl d_L_law_725 ?_
  refine zr_aload_n hX rfl d_L_law_726 ?_
  refine zr_iload hX rfl d_L_law_727 ?_
  refine zr_iconst (v := nI 1) hX rfl d_L_law_729 ?_
  refine zn_iadd hX d_L_law_730 ?_
  refine zr_sld hX hs (by omega) hL d_L_law_731 ?_
  refine zr_aload_n hX rfl d_L_law_732 ?_
  refine zr_iload hX rfl d_L_law_733 ?_
  refine zr_iconst (v := nI 2) hX rfl d_L_law_735 ?_
  refine zn_iadd hX d_L_law_736 ?_
  refine zr_sld hX hs (by omega) hL d_L_law_737 ?_
  refine zr_aload_n hX rfl d_L_law_738 ?_
  refine zr_iload hX rfl d_L_law_739 ?_
  refine zr_iconst (v := nI 3) hX rfl d_L_law_741 ?_
  refine zn_iadd hX d_L_law_742 ?_
  refine zr_sld hX hs (by omega) hL d_L_law_743 ?_
  refine zr_aload_n hX rfl d_L_law_744 ?_
  refine zr_iload hX rfl d_L_law_745 ?_
  refine zr_iconst (v := nI 4) hX rfl d_L_law_747 ?_
  refine zn_iadd hX d_L_law_748 ?_
  refine zr_sld hX hs (by omega) hL d_L_law_749 ?_
  refine zr_callV hX (hM (d - 1) _ m (by omega) h2.2.1) l_L_105 im_M_combine se_M_combine f_M_combine k_M.1 h2.2.1.m rfl (Nat.le_of_ble_eq_true rfl) (by omega) (by omega) (by omega) d_L_law_750 (fun v9 G2 hq2 => ?_) (fun E9 G2 hq2 => by cases hq2.1)
  obtain ⟨e9, u3, h3, hI3, c3⟩ := h2.M hI2 hq2
  cases e9
  refine zr_aload_n hX rfl d_L_law_753 ?_
  refine zr_pV hX (c_M_thrown g (d - 1) G2 u3 m h3.2.1) l_L_65 im_M_thrown se_M_thrown f_M_thrown k_M.1 h3.2.1.m rfl (Nat.le_of_ble_eq_true rfl) (by omega) (by omega) (by omega) d_L_law_754 ?_
  refine zr_iload hX rfl d_L_law_757 ?_
  refine zr_icmp_eq hX (tgt := 764) d_L_law_759 (by decide) (fun _ => ?_) (fun z => absurd (show s_M_thrown u3 = code from c3) z)
  refine zr_goto hX (tgt := 1455) (by decide) d_L_law_764 ?_
  exact kk w2 wm2 u3 cm2 fo G2 _ _ (some (.int code)) o6 h3 hI3 (by omega) (by omega)
theorem lc_commit (hX : zOK g X b_L_law y_L_law (some .boolean) [] 7 d 601024 7293034) (hd9 : 100 ≤ d) (hs : zSc X b L xs) (hL : L ≤ 3584) (t : Nat) (ht : 7 * t + 7 ≤ L) (h0 : zL0 x m out w u fo G) (hI : zIn w wm u cm) (hk : k + zPc w wm ≤ K) (hn : n + zPs w wm ≤ N) (hK : K + 2 ≤ 601024) (hN : N + 4101 ≤ 7293034) (kk : zNext g X b x m out t (K + 2) (N + 4101)) : zw g X (fun r _ => r = .inl (some (.int 1))) 767 (zll b x m out (7 * t) o5 o6) [] G k n := by
  obtain ⟨code, v, u2, cm2, mc9, ms9, ⟨bc, bs⟩, hS, hM⟩ := P_commit (g := g) hI (xs (7 * t + 1))
  obtain rfl := h0.2.2.2.1
  unfold zll
  refine zr_aload_n hX rfl d_L_law_767 ?_
  refine zr_aload_n hX rfl d_L_law_768 ?_
  refine zr_iload hX rfl d_L_law_769 ?_
  refine zr_iconst (v := nI 1) hX rfl d_L_law_771 ?_
  refine zn_iadd hX d_L_law_772 ?_
  refine zr_sld hX hs (by omega) hL d_L_law_773 ?_
  refine zr_aload_n hX rfl d_L_law_774 ?_
  refine zr_callS hX (hS (d - 1) G out fo (by omega) h0.1 h0.2.2.1 (fun f i z => (h0.2.2.2.2.1 f i _ z).2.1 rfl)) l_L_106 st_L_commit f_L_commit rfl (Nat.le_of_ble_eq_true rfl) (by omega) (by omega) (by omega) d_L_law_775 (fun v9 G1 hq => ?_) (fun E9 G1 hq => by obtain ⟨_, _, _, _, hq⟩ := hq; cases hq.1)
  obtain ⟨G8, fo2, e1, e2, hq⟩ := hq
  obtain ⟨e9, w2, wm2, h2, hI2, p1, p2⟩ := h0.S hq
  cases e9
  subst e1
  replace h2 := h2.o fo2
  refine zs_istore hX (by decide) rfl d_L_law_778 ?_
  refine zr_aload_n hX rfl d_L_law_780 ?_
  refine zr_aload_n hX rfl d_L_law_781 ?_
  refine zr_iload hX rfl d_L_law_782 ?_
  refine zr_iconst (v := nI 1) hX rfl d_L_law_784 ?_
  refine zn_iadd hX d_L_law_785 ?_
  refine zr_sld hX hs (by omega) hL d_L_law_786 ?_
  refine zr_callV hX (hM (d - 1) _ m (by omega) h2.2.1) l_L_109 im_M_commit se_M_commit f_M_commit k_M.1 h2.2.1.m rfl (Nat.le_of_ble_eq_true rfl) (by omega) (by omega) (by omega) d_L_law_787 (fun v9 G2 hq2 => ?_) (fun E9 G2 hq2 => by cases hq2.1)
  obtain ⟨e9, u3, h3, hI3, c3⟩ := h2.M hI2 hq2
  cases e9
  refine zs_istore hX (by decide) rfl d_L_law_790 ?_
  refine zr_aload_n hX rfl d_L_law_792 ?_
  refine zr_pV hX (c_M_thrown g (d - 1) G2 u3 m h3.2.1) l_L_65 im_M_thrown se_M_thrown f_M_thrown k_M.1 h3.2.1.m rfl (Nat.le_of_ble_eq_true rfl) (by omega) (by omega) (by omega) d_L_law_793 ?_
  refine zr_iload hX rfl d_L_law_796 ?_
  refine zr_icmp_eq hX (tgt := 803) d_L_law_798 (by decide) (fun _ => ?_) (fun z => absurd (show s_M_thrown u3 = code from c3) z)
  refine zr_iload hX rfl d_L_law_803 ?_
  refine zr_if_ne hX (tgt := 820) d_L_law_805 (by decide) (fun _ => ?_) (fun z0 => ?_)
  · refine zr_goto hX (tgt := 1455) (by decide) d_L_law_820 ?_
    exact kk w2 wm2 u3 cm2 fo2 G2 _ _ (some (.int code)) (some (.int v)) h3 hI3 (by omega) (by omega)
  · refine zr_aload_n hX rfl d_L_law_808 ?_
    refine zr_iconst (v := 0) hX rfl d_L_law_809 ?_
    refine zr_lald hX h3.2.2.1 (show vp_in 0 1 from nI_in (c := 0) (by decide) (by decide)) d_L_law_810 ?_
    refine zr_iload hX rfl d_L_law_811 ?_
    refine zr_i2l hX d_L_law_813 ?_
    refine zr_lcmp hX d_L_law_814 ?_
    refine zr_if_eq hX (tgt := 820) d_L_law_815 (by decide) (fun _ => ?_) (fun z => absurd (show lg_cmp (fo2 0) v.toInt64 = 0 by rw [e2 z0]; exact zcmpS _) z)
    refine zr_goto hX (tgt := 1455) (by decide) d_L_law_820 ?_
    exact kk w2 wm2 u3 cm2 fo2 G2 _ _ (some (.int code)) (some (.int v)) h3 hI3 (by omega) (by omega)
theorem lc_merge (hX : zOK g X b_L_law y_L_law (some .boolean) [] 7 d 601024 7293034) (hd9 : 100 ≤ d) (hs : zSc X b L xs) (hL : L ≤ 3584) (t : Nat) (ht : 7 * t + 7 ≤ L) (h0 : zL0 x m out w u fo G) (hI : zIn w wm u cm) (hk : k + zPc w wm ≤ K) (hn : n + zPs w wm ≤ N) (hK : K + 2 ≤ 601024) (hN : N + 4101 ≤ 7293034) (kk : zNext g X b x m out t (K + 2) (N + 4101)) : zw g X (fun r _ => r = .inl (some (.int 1))) 823 (zll b x m out (7 * t) o5 o6) [] G k n := by
  obtain ⟨code, v, u2, cm2, mc9, ms9, ⟨bc, bs⟩, hS, hM⟩ := P_merge (g := g) hI (xs (7 * t + 1)) (xs (7 * t + 2))
  obtain rfl := h0.2.2.2.1
  unfold zll
  refine zr_aload_n hX rfl d_L_law_823 ?_
  refine zr_aload_n hX rfl d_L_law_824 ?_
  refine zr_iload hX rfl d_L_law_825 ?_
  refine zr_iconst (v := nI 1) hX rfl d_L_law_827 ?_
  refine zn_iadd hX d_L_law_828 ?_
  refine zr_sld hX hs (by omega) hL d_L_law_829 ?_
  refine zr_aload_n hX rfl d_L_law_830 ?_
  refine zr_iload hX rfl d_L_law_831 ?_
  refine zr_iconst (v := nI 2) hX rfl d_L_law_833 ?_
  refine zn_iadd hX d_L_law_834 ?_
  refine zr_sld hX hs (by omega) hL d_L_law_835 ?_
  refine zr_aload_n hX rfl d_L_law_836 ?_
  refine zr_callS hX (hS (d - 1) G out fo (by omega) h0.1 h0.2.2.1 (fun f i z => (h0.2.2.2.2.1 f i _ z).2.1 rfl)) l_L_110 st_L_merge f_L_merge rfl (Nat.le_of_ble_eq_true rfl) (by omega) (by omega) (by omega) d_L_law_837 (fun v9 G1 hq => ?_) (fun E9 G1 hq => by obtain ⟨_, _, _, _, hq⟩ := hq; cases hq.1)
  obtain ⟨G8, fo2, e1, e2, hq⟩ := hq
  obtain ⟨e9, w2, wm2, h2, hI2, p1, p2⟩ := h0.S hq
  cases e9
  subst e1
  replace h2 := h2.o fo2
  refine zs_istore hX (by decide) rfl d_L_law_840 ?_
  refine zr_aload_n hX rfl d_L_law_842 ?_
  refine zr_aload_n hX rfl d_L_law_843 ?_
  refine zr_iload hX rfl d_L_law_844 ?_
  refine zr_iconst (v := nI 1) hX rfl d_L_law_846 ?_
  refine zn_iadd hX d_L_law_847 ?_
  refine zr_sld hX hs (by omega) hL d_L_law_848 ?_
  refine zr_aload_n hX rfl d_L_law_849 ?_
  refine zr_iload hX rfl d_L_law_850 ?_
  refine zr_iconst (v := nI 2) hX rfl d_L_law_852 ?_
  refine zn_iadd hX d_L_law_853 ?_
  refine zr_sld hX hs (by omega) hL d_L_law_854 ?_
  refine zr_callV hX (hM (d - 1) _ m (by omega) h2.2.1) l_L_113 im_M_merge se_M_merge f_M_merge k_M.1 h2.2.1.m rfl (Nat.le_of_ble_eq_true rfl) (by omega) (by omega) (by omega) d_L_law_855 (fun v9 G2 hq2 => ?_) (fun E9 G2 hq2 => by cases hq2.1)
  obtain ⟨e9, u3, h3, hI3, c3⟩ := h2.M hI2 hq2
  cases e9
  refine zs_istore hX (by decide) rfl d_L_law_858 ?_
  refine zr_aload_n hX rfl d_L_law_860 ?_
  refine zr_pV hX (c_M_thrown g (d - 1) G2 u3 m h3.2.1) l_L_65 im_M_thrown se_M_thrown f_M_thrown k_M.1 h3.2.1.m rfl (Nat.le_of_ble_eq_true rfl) (by omega) (by omega) (by omega) d_L_law_861 ?_
  refine zr_iload hX rfl d_L_law_864 ?_
  refine zr_icmp_eq hX (tgt := 871) d_L_law_866 (by decide) (fun _ => ?_) (fun z => absurd (show s_M_thrown u3 = code from c3) z)
  refine zr_iload hX rfl d_L_law_871 ?_
  refine zr_if_ne hX (tgt := 888) d_L_law_873 (by decide) (fun _ => ?_) (fun z0 => ?_)
  · refine zr_goto hX (tgt := 1455) (by decide) d_L_law_888 ?_
    exact kk w2 wm2 u3 cm2 fo2 G2 _ _ (some (.int code)) (some (.int v)) h3 hI3 (by omega) (by omega)
  · refine zr_aload_n hX rfl d_L_law_876 ?_
    refine zr_iconst (v := 0) hX rfl d_L_law_877 ?_
    refine zr_lald hX h3.2.2.1 (show vp_in 0 1 from nI_in (c := 0) (by decide) (by decide)) d_L_law_878 ?_
    refine zr_iload hX rfl d_L_law_879 ?_
    refine zr_i2l hX d_L_law_881 ?_
    refine zr_lcmp hX d_L_law_882 ?_
    refine zr_if_eq hX (tgt := 888) d_L_law_883 (by decide) (fun _ => ?_) (fun z => absurd (show lg_cmp (fo2 0) v.toInt64 = 0 by rw [e2 z0]; exact zcmpS _) z)
    refine zr_goto hX (tgt := 1455) (by decide) d_L_law_888 ?_
    exact kk w2 wm2 u3 cm2 fo2 G2 _ _ (some (.int code)) (some (.int v)) h3 hI3 (by omega) (by omega)
theorem lc_conflict (hX : zOK g X b_L_law y_L_law (some .boolean) [] 7 d 601024 7293034) (hd9 : 100 ≤ d) (hs : zSc X b L xs) (hL : L ≤ 3584) (t : Nat) (ht : 7 * t + 7 ≤ L) (h0 : zL0 x m out w u fo G) (hI : zIn w wm u cm) (hk : k + zPc w wm ≤ K) (hn : n + zPs w wm ≤ N) (hK : K + 2 ≤ 601024) (hN : N + 4101 ≤ 7293034) (kk : zNext g X b x m out t (K + 2) (N + 4101)) : zw g X (fun r _ => r = .inl (some (.int 1))) 891 (zll b x m out (7 * t) o5 o6) [] G k n := by
  obtain ⟨v, u2, cm2, mc9, ms9, ⟨bc, bs⟩, hS, hM⟩ := P_conflict (g := g) hI (xs (7 * t + 1)) (xs (7 * t + 2)) (xs (7 * t + 3))
  obtain rfl := h0.2.2.2.1
  unfold zll
  refine zr_aload_n hX rfl d_L_law_891 ?_
  refine zr_aload_n hX rfl d_L_law_892 ?_
  refine zr_iload hX rfl d_L_law_893 ?_
  refine zr_iconst (v := nI 1) hX rfl d_L_law_895 ?_
  refine zn_iadd hX d_L_law_896 ?_
  refine zr_sld hX hs (by omega) hL d_L_law_897 ?_
  refine zr_aload_n hX rfl d_L_law_898 ?_
  refine zr_iload hX rfl d_L_law_899 ?_
  refine zr_iconst (v := nI 2) hX rfl d_L_law_901 ?_
  refine zn_iadd hX d_L_law_902 ?_
  refine zr_sld hX hs (by omega) hL d_L_law_903 ?_
  refine zr_aload_n hX rfl d_L_law_904 ?_
  refine zr_iload hX rfl d_L_law_905 ?_
  refine zr_iconst (v := nI 3) hX rfl d_L_law_907 ?_
  refine zn_iadd hX d_L_law_908 ?_
  refine zr_sld hX hs (by omega) hL d_L_law_909 ?_
  refine zr_callV hX (hS (d - 1) G (by omega) h0.1) l_L_114 im_S_conflict se_S_conflict f_S_conflict k_S.1 (h0.1.at 0 0 rfl) rfl (Nat.le_of_ble_eq_true rfl) (by omega) (by omega) (by omega) d_L_law_910 (fun v9 G1 hq => ?_) (fun E9 G1 hq => by cases hq.1)
  obtain ⟨e9, w2, wm2, h2, hI2, p1, p2⟩ := h0.S hq
  cases e9
  refine zr_aload_n hX rfl d_L_law_913 ?_
  refine zr_aload_n hX rfl d_L_law_914 ?_
  refine zr_iload hX rfl d_L_law_915 ?_
  refine zr_iconst (v := nI 1) hX rfl d_L_law_917 ?_
  refine zn_iadd hX d_L_law_918 ?_
  refine zr_sld hX hs (by omega) hL d_L_law_919 ?_
  refine zr_aload_n hX rfl d_L_law_920 ?_
  refine zr_iload hX rfl d_L_law_921 ?_
  refine zr_iconst (v := nI 2) hX rfl d_L_law_923 ?_
  refine zn_iadd hX d_L_law_924 ?_
  refine zr_sld hX hs (by omega) hL d_L_law_925 ?_
  refine zr_aload_n hX rfl d_L_law_926 ?_
  refine zr_iload hX rfl d_L_law_927 ?_
  refine zr_iconst (v := nI 3) hX rfl d_L_law_929 ?_
  refine zn_iadd hX d_L_law_930 ?_
  refine zr_sld hX hs (by omega) hL d_L_law_931 ?_
  refine zr_callV hX (hM (d - 1) _ m (by omega) h2.2.1) l_L_117 im_M_conflict se_M_conflict f_M_conflict k_M.1 h2.2.1.m rfl (Nat.le_of_ble_eq_true rfl) (by omega) (by omega) (by omega) d_L_law_932 (fun v9 G2 hq2 => ?_) (fun E9 G2 hq2 => by cases hq2.1)
  obtain ⟨e9, u3, h3, hI3, c3⟩ := h2.M hI2 hq2
  cases e9
  refine zr_icmp_eq hX (tgt := 1455) d_L_law_935 (by decide) (fun _ => ?_) (fun z => absurd rfl z)
  exact kk w2 wm2 u3 cm2 fo G2 _ _ o5 o6 h3 hI3 (by omega) (by omega)
theorem lc_settle (hX : zOK g X b_L_law y_L_law (some .boolean) [] 7 d 601024 7293034) (hd9 : 100 ≤ d) (hs : zSc X b L xs) (hL : L ≤ 3584) (t : Nat) (ht : 7 * t + 7 ≤ L) (h0 : zL0 x m out w u fo G) (hI : zIn w wm u cm) (hk : k + zPc w wm ≤ K) (hn : n + zPs w wm ≤ N) (hK : K + 2 ≤ 601024) (hN : N + 4101 ≤ 7293034) (kk : zNext g X b x m out t (K + 2) (N + 4101)) : zw g X (fun r _ => r = .inl (some (.int 1))) 940 (zll b x m out (7 * t) o5 o6) [] G k n := by
  obtain ⟨code, v, u2, cm2, mc9, ms9, ⟨bc, bs⟩, hS, hM⟩ := P_settle (g := g) hI (xs (7 * t + 1)) (xs (7 * t + 2)) (xs (7 * t + 3))
  obtain rfl := h0.2.2.2.1
  unfold zll
  refine zr_aload_n hX rfl d_L_law_940 ?_
  refine zr_aload_n hX rfl d_L_law_941 ?_
  refine zr_iload hX rfl d_L_law_942 ?_
  refine zr_iconst (v := nI 1) hX rfl d_L_law_944 ?_
  refine zn_iadd hX d_L_law_945 ?_
  refine zr_sld hX hs (by omega) hL d_L_law_946 ?_
  refine zr_aload_n hX rfl d_L_law_947 ?_
  refine zr_iload hX rfl d_L_law_948 ?_
  refine zr_iconst (v := nI 2) hX rfl d_L_law_950 ?_
  refine zn_iadd hX d_L_law_951 ?_
  refine zr_sld hX hs (by omega) hL d_L_law_952 ?_
  refine zr_aload_n hX rfl d_L_law_953 ?_
  refine zr_iload hX rfl d_L_law_954 ?_
  refine zr_iconst (v := nI 3) hX rfl d_L_law_956 ?_
  refine zn_iadd hX d_L_law_957 ?_
  refine zr_sld hX hs (by omega) hL d_L_law_958 ?_
  refine zr_aload_n hX rfl d_L_law_959 ?_
  refine zr_callS hX (hS (d - 1) G out fo (by omega) h0.1 h0.2.2.1 (fun f i z => (h0.2.2.2.2.1 f i _ z).2.1 rfl)) l_L_118 st_L_settle f_L_settle rfl (Nat.le_of_ble_eq_true rfl) (by omega) (by omega) (by omega) d_L_law_960 (fun v9 G1 hq => ?_) (fun E9 G1 hq => by obtain ⟨_, _, _, _, hq⟩ := hq; cases hq.1)
  obtain ⟨G8, fo2, e1, e2, hq⟩ := hq
  obtain ⟨e9, w2, wm2, h2, hI2, p1, p2⟩ := h0.S hq
  cases e9
  subst e1
  replace h2 := h2.o fo2
  refine zs_istore hX (by decide) rfl d_L_law_963 ?_
  refine zr_aload_n hX rfl d_L_law_965 ?_
  refine zr_aload_n hX rfl d_L_law_966 ?_
  refine zr_iload hX rfl d_L_law_967 ?_
  refine zr_iconst (v := nI 1) hX rfl d_L_law_969 ?_
  refine zn_iadd hX d_L_law_970 ?_
  refine zr_sld hX hs (by omega) hL d_L_law_971 ?_
  refine zr_aload_n hX rfl d_L_law_972 ?_
  refine zr_iload hX rfl d_L_law_973 ?_
  refine zr_iconst (v := nI 2) hX rfl d_L_law_975 ?_
  refine zn_iadd hX d_L_law_976 ?_
  refine zr_sld hX hs (by omega) hL d_L_law_977 ?_
  refine zr_aload_n hX rfl d_L_law_978 ?_
  refine zr_iload hX rfl d_L_law_979 ?_
  refine zr_iconst (v := nI 3) hX rfl d_L_law_981 ?_
  refine zn_iadd hX d_L_law_982 ?_
  refine zr_sld hX hs (by omega) hL d_L_law_983 ?_
  refine zr_callV hX (hM (d - 1) _ m (by omega) h2.2.1) l_L_121 im_M_settle se_M_settle f_M_settle k_M.1 h2.2.1.m rfl (Nat.le_of_ble_eq_true rfl) (by omega) (by omega) (by omega) d_L_law_984 (fun v9 G2 hq2 => ?_) (fun E9 G2 hq2 => by cases hq2.1)
  obtain ⟨e9, u3, h3, hI3, c3⟩ := h2.M hI2 hq2
  cases e9
  refine zs_istore hX (by decide) rfl d_L_law_987 ?_
  refine zr_aload_n hX rfl d_L_law_989 ?_
  refine zr_pV hX (c_M_thrown g (d - 1) G2 u3 m h3.2.1) l_L_65 im_M_thrown se_M_thrown f_M_thrown k_M.1 h3.2.1.m rfl (Nat.le_of_ble_eq_true rfl) (by omega) (by omega) (by omega) d_L_law_990 ?_
  refine zr_iload hX rfl d_L_law_993 ?_
  refine zr_icmp_eq hX (tgt := 1000) d_L_law_995 (by decide) (fun _ => ?_) (fun z => absurd (show s_M_thrown u3 = code from c3) z)
  refine zr_iload hX rfl d_L_law_1000 ?_
  refine zr_if_ne hX (tgt := 1017) d_L_law_1002 (by decide) (fun _ => ?_) (fun z0 => ?_)
  · refine zr_goto hX (tgt := 1455) (by decide) d_L_law_1017 ?_
    exact kk w2 wm2 u3 cm2 fo2 G2 _ _ (some (.int code)) (some (.int v)) h3 hI3 (by omega) (by omega)
  · refine zr_aload_n hX rfl d_L_law_1005 ?_
    refine zr_iconst (v := 0) hX rfl d_L_law_1006 ?_
    refine zr_lald hX h3.2.2.1 (show vp_in 0 1 from nI_in (c := 0) (by decide) (by decide)) d_L_law_1007 ?_
    refine zr_iload hX rfl d_L_law_1008 ?_
    refine zr_i2l hX d_L_law_1010 ?_
    refine zr_lcmp hX d_L_law_1011 ?_
    refine zr_if_eq hX (tgt := 1017) d_L_law_1012 (by decide) (fun _ => ?_) (fun z => absurd (show lg_cmp (fo2 0) v.toInt64 = 0 by rw [e2 z0]; exact zcmpS _) z)
    refine zr_goto hX (tgt := 1455) (by decide) d_L_law_1017 ?_
    exact kk w2 wm2 u3 cm2 fo2 G2 _ _ (some (.int code)) (some (.int v)) h3 hI3 (by omega) (by omega)
theorem lc_value (hX : zOK g X b_L_law y_L_law (some .boolean) [] 7 d 601024 7293034) (hd9 : 100 ≤ d) (hs : zSc X b L xs) (hL : L ≤ 3584) (t : Nat) (ht : 7 * t + 7 ≤ L) (h0 : zL0 x m out w u fo G) (hI : zIn w wm u cm) (hk : k + zPc w wm ≤ K) (hn : n + zPs w wm ≤ N) (hK : K + 2 ≤ 601024) (hN : N + 4101 ≤ 7293034) (kk : zNext g X b x m out t (K + 2) (N + 4101)) : zw g X (fun r _ => r = .inl (some (.int 1))) 1020 (zll b x m out (7 * t) o5 o6) [] G k n := by
  obtain ⟨v, u2, cm2, mc9, ms9, ⟨bc, bs⟩, hS, hM⟩ := P_value (g := g) hI (xs (7 * t + 1)) (xs (7 * t + 2)) (xs (7 * t + 3)) (xs (7 * t + 4))
  obtain rfl := h0.2.2.2.1
  unfold zll
  refine zr_aload_n hX rfl d_L_law_1020 ?_
  refine zr_aload_n hX rfl d_L_law_1021 ?_
  refine zr_iload hX rfl d_L_law_1022 ?_
  refine zr_iconst (v := nI 1) hX rfl d_L_law_1024 ?_
  refine zn_iadd hX d_L_law_1025 ?_
  refine zr_sld hX hs (by omega) hL d_L_law_1026 ?_
  refine zr_aload_n hX rfl d_L_law_1027 ?_
  refine zr_iload hX rfl d_L_law_1028 ?_
  refine zr_iconst (v := nI 2) hX rfl d_L_law_1030 ?_
  refine zn_iadd hX d_L_law_1031 ?_
  refine zr_sld hX hs (by omega) hL d_L_law_1032 ?_
  refine zr_aload_n hX rfl d_L_law_1033 ?_
  refine zr_iload hX rfl d_L_law_1034 ?_
  refine zr_iconst (v := nI 3) hX rfl d_L_law_1036 ?_
  refine zn_iadd hX d_L_law_1037 ?_
  refine zr_sld hX hs (by omega) hL d_L_law_1038 ?_
  refine zr_aload_n hX rfl d_L_law_1039 ?_
  refine zr_iload hX rfl d_L_law_1040 ?_
  refine zr_iconst (v := nI 4) hX rfl d_L_law_1042 ?_
  refine zn_iadd hX d_L_law_1043 ?_
  refine zr_sld hX hs (by omega) hL d_L_law_1044 ?_
  refine zr_callV hX (hS (d - 1) G (by omega) h0.1) l_L_122 im_S_value se_S_value f_S_value k_S.1 (h0.1.at 0 0 rfl) rfl (Nat.le_of_ble_eq_true rfl) (by omega) (by omega) (by omega) d_L_law_1045 (fun v9 G1 hq => ?_) (fun E9 G1 hq => by cases hq.1)
  obtain ⟨e9, w2, wm2, h2, hI2, p1, p2⟩ := h0.S hq
  cases e9
  refine zr_aload_n hX rfl d_L_law_1048 ?_
  refine zr_aload_n hX rfl d_L_law_1049 ?_
  refine zr_iload hX rfl d_L_law_1050 ?_
  refine zr_iconst (v := nI 1) hX rfl d_L_law_1052 ?_
  refine zn_iadd hX d_L_law_1053 ?_
  refine zr_sld hX hs (by omega) hL d_L_law_1054 ?_
  refine zr_aload_n hX rfl d_L_law_1055 ?_
  refine zr_iload hX rfl d_L_law_1056 ?_
  refine zr_iconst (v := nI 2) hX rfl d_L_law_1058 ?_
  refine zn_iadd hX d_L_law_1059 ?_
  refine zr_sld hX hs (by omega) hL d_L_law_1060 ?_
  refine zr_aload_n hX rfl d_L_law_1061 ?_
  refine zr_iload hX rfl d_L_law_1062 ?_
  refine zr_iconst (v := nI 3) hX rfl d_L_law_1064 ?_
  refine zn_iadd hX d_L_law_1065 ?_
  refine zr_sld hX hs (by omega) hL d_L_law_1066 ?_
  refine zr_aload_n hX rfl d_L_law_1067 ?_
  refine zr_iload hX rfl d_L_law_1068 ?_
  refine zr_iconst (v := nI 4) hX rfl d_L_law_1070 ?_
  refine zn_iadd hX d_L_law_1071 ?_
  refine zr_sld hX hs (by omega) hL d_L_law_1072 ?_
  refine zr_callV hX (hM (d - 1) _ m (by omega) h2.2.1) l_L_126 im_M_value se_M_value f_M_value k_M.1 h2.2.1.m rfl (Nat.le_of_ble_eq_true rfl) (by omega) (by omega) (by omega) d_L_law_1073 (fun v9 G2 hq2 => ?_) (fun E9 G2 hq2 => by cases hq2.1)
  obtain ⟨e9, u3, h3, hI3, c3⟩ := h2.M hI2 hq2
  cases e9
  refine zr_icmp_eq hX (tgt := 1455) d_L_law_1076 (by decide) (fun _ => ?_) (fun z => absurd rfl z)
  exact kk w2 wm2 u3 cm2 fo G2 _ _ o5 o6 h3 hI3 (by omega) (by omega)
theorem lc_origin (hX : zOK g X b_L_law y_L_law (some .boolean) [] 7 d 601024 7293034) (hd9 : 100 ≤ d) (hs : zSc X b L xs) (hL : L ≤ 3584) (t : Nat) (ht : 7 * t + 7 ≤ L) (h0 : zL0 x m out w u fo G) (hI : zIn w wm u cm) (hk : k + zPc w wm ≤ K) (hn : n + zPs w wm ≤ N) (hK : K + 2 ≤ 601024) (hN : N + 4101 ≤ 7293034) (kk : zNext g X b x m out t (K + 2) (N + 4101)) : zw g X (fun r _ => r = .inl (some (.int 1))) 1081 (zll b x m out (7 * t) o5 o6) [] G k n := by
  obtain ⟨v, u2, cm2, mc9, ms9, ⟨bc, bs⟩, hS, hM⟩ := P_origin (g := g) hI (xs (7 * t + 1)) (xs (7 * t + 2)) (xs (7 * t + 3)) (xs (7 * t + 4)) (xs (7 * t + 5))
  obtain rfl := h0.2.2.2.1
  unfold zll
  refine zr_aload_n hX rfl d_L_law_1081 ?_
  refine zr_aload_n hX rfl d_L_law_1082 ?_
  refine zr_iload hX rfl d_L_law_1083 ?_
  refine zr_iconst (v := nI 1) hX rfl d_L_law_1085 ?_
  refine zn_iadd hX d_L_law_1086 ?_
  refine zr_sld hX hs (by omega) hL d_L_law_1087 ?_
  refine zr_aload_n hX rfl d_L_law_1088 ?_
  refine zr_iload hX rfl d_L_law_1089 ?_
  refine zr_iconst (v := nI 2) hX rfl d_L_law_1091 ?_
  refine zn_iadd hX d_L_law_1092 ?_
  refine zr_sld hX hs (by omega) hL d_L_law_1093 ?_
  refine zr_aload_n hX rfl d_L_law_1094 ?_
  refine zr_iload hX rfl d_L_law_1095 ?_
  refine zr_iconst (v := nI 3) hX rfl d_L_law_1097 ?_
  refine zn_iadd hX d_L_law_1098 ?_
  refine zr_sld hX hs (by omega) hL d_L_law_1099 ?_
  refine zr_aload_n hX rfl d_L_law_1100 ?_
  refine zr_iload hX rfl d_L_law_1101 ?_
  refine zr_iconst (v := nI 4) hX rfl d_L_law_1103 ?_
  refine zn_iadd hX d_L_law_1104 ?_
  refine zr_sld hX hs (by omega) hL d_L_law_1105 ?_
  refine zr_aload_n hX rfl d_L_law_1106 ?_
  refine zr_iload hX rfl d_L_law_1107 ?_
  refine zr_iconst (v := nI 5) hX rfl d_L_law_1109 ?_
  refine zn_iadd hX d_L_law_1110 ?_
  refine zr_sld hX hs (by omega) hL d_L_law_1111 ?_
  refine zr_callV hX (hS (d - 1) G (by omega) h0.1) l_L_127 im_S_origin se_S_origin f_S_origin k_S.1 (h0.1.at 0 0 rfl) rfl (Nat.le_of_ble_eq_true rfl) (by omega) (by omega) (by omega) d_L_law_1112 (fun v9 G1 hq => ?_) (fun E9 G1 hq => by cases hq.1)
  obtain ⟨e9, w2, wm2, h2, hI2, p1, p2⟩ := h0.S hq
  cases e9
  refine zr_aload_n hX rfl d_L_law_1115 ?_
  refine zr_aload_n hX rfl d_L_law_1116 ?_
  refine zr_iload hX rfl d_L_law_1117 ?_
  refine zr_iconst (v := nI 1) hX rfl d_L_law_1119 ?_
  refine zn_iadd hX d_L_law_1120 ?_
  refine zr_sld hX hs (by omega) hL d_L_law_1121 ?_
  refine zr_aload_n hX rfl d_L_law_1122 ?_
  refine zr_iload hX rfl d_L_law_1123 ?_
  refine zr_iconst (v := nI 2) hX rfl d_L_law_1125 ?_
  refine zn_iadd hX d_L_law_1126 ?_
  refine zr_sld hX hs (by omega) hL d_L_law_1127 ?_
  refine zr_aload_n hX rfl d_L_law_1128 ?_
  refine zr_iload hX rfl d_L_law_1129 ?_
  refine zr_iconst (v := nI 3) hX rfl d_L_law_1131 ?_
  refine zn_iadd hX d_L_law_1132 ?_
  refine zr_sld hX hs (by omega) hL d_L_law_1133 ?_
  refine zr_aload_n hX rfl d_L_law_1134 ?_
  refine zr_iload hX rfl d_L_law_1135 ?_
  refine zr_iconst (v := nI 4) hX rfl d_L_law_1137 ?_
  refine zn_iadd hX d_L_law_1138 ?_
  refine zr_sld hX hs (by omega) hL d_L_law_1139 ?_
  refine zr_aload_n hX rfl d_L_law_1140 ?_
  refine zr_iload hX rfl d_L_law_1141 ?_
  refine zr_iconst (v := nI 5) hX rfl d_L_law_1143 ?_
  refine zn_iadd hX d_L_law_1144 ?_
  refine zr_sld hX hs (by omega) hL d_L_law_1145 ?_
  refine zr_callV hX (hM (d - 1) _ m (by omega) h2.2.1) l_L_131 im_M_origin se_M_origin f_M_origin k_M.1 h2.2.1.m rfl (Nat.le_of_ble_eq_true rfl) (by omega) (by omega) (by omega) d_L_law_1146 (fun v9 G2 hq2 => ?_) (fun E9 G2 hq2 => by cases hq2.1)
  obtain ⟨e9, u3, h3, hI3, c3⟩ := h2.M hI2 hq2
  cases e9
  refine zr_icmp_eq hX (tgt := 1455) d_L_law_1149 (by decide) (fun _ => ?_) (fun z => absurd rfl z)
  exact kk w2 wm2 u3 cm2 fo G2 _ _ o5 o6 h3 hI3 (by omega) (by omega)
theorem lc_total (hX : zOK g X b_L_law y_L_law (some .boolean) [] 7 d 601024 7293034) (hd9 : 100 ≤ d) (hs : zSc X b L xs) (hL : L ≤ 3584) (t : Nat) (ht : 7 * t + 7 ≤ L) (h0 : zL0 x m out w u fo G) (hI : zIn w wm u cm) (hk : k + zPc w wm ≤ K) (hn : n + zPs w wm ≤ N) (hK : K + 2 ≤ 601024) (hN : N + 4101 ≤ 7293034) (kk : zNext g X b x m out t (K + 2) (N + 4101)) : zw g X (fun r _ => r = .inl (some (.int 1))) 1154 (zll b x m out (7 * t) o5 o6) [] G k n := by
  obtain ⟨code, v, u2, cm2, mc9, ms9, ⟨bc, bs⟩, hS, hM⟩ := P_total (g := g) hI (xs (7 * t + 1)) (xs (7 * t + 2)) (xs (7 * t + 3))
  obtain rfl := h0.2.2.2.1
  unfold zll
  refine zr_aload_n hX rfl d_L_law_1154 ?_
  refine zr_aload_n hX rfl d_L_law_1155 ?_
  refine zr_iload hX rfl d_L_law_1156 ?_
  refine zr_iconst (v := nI 1) hX rfl d_L_law_1158 ?_
  refine zn_iadd hX d_L_law_1159 ?_
  refine zr_sld hX hs (by omega) hL d_L_law_1160 ?_
  refine zr_aload_n hX rfl d_L_law_1161 ?_
  refine zr_iload hX rfl d_L_law_1162 ?_
  refine zr_iconst (v := nI 2) hX rfl d_L_law_1164 ?_
  refine zn_iadd hX d_L_law_1165 ?_
  refine zr_sld hX hs (by omega) hL d_L_law_1166 ?_
  refine zr_aload_n hX rfl d_L_law_1167 ?_
  refine zr_iload hX rfl d_L_law_1168 ?_
  refine zr_iconst (v := nI 3) hX rfl d_L_law_1170 ?_
  refine zn_iadd hX d_L_law_1171 ?_
  refine zr_sld hX hs (by omega) hL d_L_law_1172 ?_
  refine zr_aload_n hX rfl d_L_law_1173 ?_
  refine zr_callS hX (hS (d - 1) G out fo (by omega) h0.1 h0.2.2.1 (fun f i z => (h0.2.2.2.2.1 f i _ z).2.1 rfl)) l_L_132 st_L_total f_L_total rfl (Nat.le_of_ble_eq_true rfl) (by omega) (by omega) (by omega) d_L_law_1174 (fun v9 G1 hq => ?_) (fun E9 G1 hq => by obtain ⟨_, _, _, _, hq⟩ := hq; cases hq.1)
  obtain ⟨G8, fo2, e1, e2, hq⟩ := hq
  obtain ⟨e9, w2, wm2, h2, hI2, p1, p2⟩ := h0.S hq
  cases e9
  subst e1
  replace h2 := h2.o fo2
  refine zs_istore hX (by decide) rfl d_L_law_1177 ?_
  refine zr_aload_n hX rfl d_L_law_1179 ?_
  refine zr_aload_n hX rfl d_L_law_1180 ?_
  refine zr_iload hX rfl d_L_law_1181 ?_
  refine zr_iconst (v := nI 1) hX rfl d_L_law_1183 ?_
  refine zn_iadd hX d_L_law_1184 ?_
  refine zr_sld hX hs (by omega) hL d_L_law_1185 ?_
  refine zr_aload_n hX rfl d_L_law_1186 ?_
  refine zr_iload hX rfl d_L_law_1187 ?_
  refine zr_iconst (v := nI 2) hX rfl d_L_law_1189 ?_
  refine zn_iadd hX d_L_law_1190 ?_
  refine zr_sld hX hs (by omega) hL d_L_law_1191 ?_
  refine zr_aload_n hX rfl d_L_law_1192 ?_
  refine zr_iload hX rfl d_L_law_1193 ?_
  refine zr_iconst (v := nI 3) hX rfl d_L_law_1195 ?_
  refine zn_iadd hX d_L_law_1196 ?_
  refine zr_sld hX hs (by omega) hL d_L_law_1197 ?_
  refine zr_callV hX (hM (d - 1) _ m (by omega) h2.2.1) l_L_134 im_M_total se_M_total f_M_total k_M.1 h2.2.1.m rfl (Nat.le_of_ble_eq_true rfl) (by omega) (by omega) (by omega) d_L_law_1198 (fun v9 G2 hq2 => ?_) (fun E9 G2 hq2 => by cases hq2.1)
  obtain ⟨e9, u3, h3, hI3, c3⟩ := h2.M hI2 hq2
  cases e9
  refine zs_istore hX (by decide) rfl d_L_law_1201 ?_
  refine zr_aload_n hX rfl d_L_law_1203 ?_
  refine zr_pV hX (c_M_thrown g (d - 1) G2 u3 m h3.2.1) l_L_65 im_M_thrown se_M_thrown f_M_thrown k_M.1 h3.2.1.m rfl (Nat.le_of_ble_eq_true rfl) (by omega) (by omega) (by omega) d_L_law_1204 ?_
  refine zr_iload hX rfl d_L_law_1207 ?_
  refine zr_icmp_eq hX (tgt := 1214) d_L_law_1209 (by decide) (fun _ => ?_) (fun z => absurd (show s_M_thrown u3 = code from c3) z)
  refine zr_iload hX rfl d_L_law_1214 ?_
  refine zr_if_ne hX (tgt := 1231) d_L_law_1216 (by decide) (fun _ => ?_) (fun z0 => ?_)
  · refine zr_goto hX (tgt := 1455) (by decide) d_L_law_1231 ?_
    exact kk w2 wm2 u3 cm2 fo2 G2 _ _ (some (.int code)) (some (.int v)) h3 hI3 (by omega) (by omega)
  · refine zr_aload_n hX rfl d_L_law_1219 ?_
    refine zr_iconst (v := 0) hX rfl d_L_law_1220 ?_
    refine zr_lald hX h3.2.2.1 (show vp_in 0 1 from nI_in (c := 0) (by decide) (by decide)) d_L_law_1221 ?_
    refine zr_iload hX rfl d_L_law_1222 ?_
    refine zr_i2l hX d_L_law_1224 ?_
    refine zr_lcmp hX d_L_law_1225 ?_
    refine zr_if_eq hX (tgt := 1231) d_L_law_1226 (by decide) (fun _ => ?_) (fun z => absurd (show lg_cmp (fo2 0) v.toInt64 = 0 by rw [e2 z0]; exact zcmpS _) z)
    refine zr_goto hX (tgt := 1455) (by decide) d_L_law_1231 ?_
    exact kk w2 wm2 u3 cm2 fo2 G2 _ _ (some (.int code)) (some (.int v)) h3 hI3 (by omega) (by omega)
theorem lc_differing (hX : zOK g X b_L_law y_L_law (some .boolean) [] 7 d 601024 7293034) (hd9 : 100 ≤ d) (hs : zSc X b L xs) (hL : L ≤ 3584) (t : Nat) (ht : 7 * t + 7 ≤ L) (h0 : zL0 x m out w u fo G) (hI : zIn w wm u cm) (hk : k + zPc w wm ≤ K) (hn : n + zPs w wm ≤ N) (hK : K + 2 ≤ 601024) (hN : N + 4101 ≤ 7293034) (kk : zNext g X b x m out t (K + 2) (N + 4101)) : zw g X (fun r _ => r = .inl (some (.int 1))) 1234 (zll b x m out (7 * t) o5 o6) [] G k n := by
  obtain ⟨v, u2, cm2, mc9, ms9, ⟨bc, bs⟩, hS, hM⟩ := P_differing (g := g) hI (xs (7 * t + 1)) (xs (7 * t + 2)) (xs (7 * t + 3))
  obtain rfl := h0.2.2.2.1
  unfold zll
  refine zr_aload_n hX rfl d_L_law_1234 ?_
  refine zr_aload_n hX rfl d_L_law_1235 ?_
  refine zr_iload hX rfl d_L_law_1236 ?_
  refine zr_iconst (v := nI 1) hX rfl d_L_law_1238 ?_
  refine zn_iadd hX d_L_law_1239 ?_
  refine zr_sld hX hs (by omega) hL d_L_law_1240 ?_
  refine zr_aload_n hX rfl d_L_law_1241 ?_
  refine zr_iload hX rfl d_L_law_1242 ?_
  refine zr_iconst (v := nI 2) hX rfl d_L_law_1244 ?_
  refine zn_iadd hX d_L_law_1245 ?_
  refine zr_sld hX hs (by omega) hL d_L_law_1246 ?_
  refine zr_aload_n hX rfl d_L_law_1247 ?_
  refine zr_iload hX rfl d_L_law_1248 ?_
  refine zr_iconst (v := nI 3) hX rfl d_L_law_1250 ?_
  refine zn_iadd hX d_L_law_1251 ?_
  refine zr_sld hX hs (by omega) hL d_L_law_1252 ?_
  refine zr_callV hX (hS (d - 1) G (by omega) h0.1) l_L_135 im_S_differing se_S_differing f_S_differing k_S.1 (h0.1.at 0 0 rfl) rfl (Nat.le_of_ble_eq_true rfl) (by omega) (by omega) (by omega) d_L_law_1253 (fun v9 G1 hq => ?_) (fun E9 G1 hq => by cases hq.1)
  obtain ⟨e9, w2, wm2, h2, hI2, p1, p2⟩ := h0.S hq
  cases e9
  refine zr_aload_n hX rfl d_L_law_1256 ?_
  refine zr_aload_n hX rfl d_L_law_1257 ?_
  refine zr_iload hX rfl d_L_law_1258 ?_
  refine zr_iconst (v := nI 1) hX rfl d_L_law_1260 ?_
  refine zn_iadd hX d_L_law_1261 ?_
  refine zr_sld hX hs (by omega) hL d_L_law_1262 ?_
  refine zr_aload_n hX rfl d_L_law_1263 ?_
  refine zr_iload hX rfl d_L_law_1264 ?_
  refine zr_iconst (v := nI 2) hX rfl d_L_law_1266 ?_
  refine zn_iadd hX d_L_law_1267 ?_
  refine zr_sld hX hs (by omega) hL d_L_law_1268 ?_
  refine zr_aload_n hX rfl d_L_law_1269 ?_
  refine zr_iload hX rfl d_L_law_1270 ?_
  refine zr_iconst (v := nI 3) hX rfl d_L_law_1272 ?_
  refine zn_iadd hX d_L_law_1273 ?_
  refine zr_sld hX hs (by omega) hL d_L_law_1274 ?_
  refine zr_callV hX (hM (d - 1) _ m (by omega) h2.2.1) l_L_138 im_M_differing se_M_differing f_M_differing k_M.1 h2.2.1.m rfl (Nat.le_of_ble_eq_true rfl) (by omega) (by omega) (by omega) d_L_law_1275 (fun v9 G2 hq2 => ?_) (fun E9 G2 hq2 => by cases hq2.1)
  obtain ⟨e9, u3, h3, hI3, c3⟩ := h2.M hI2 hq2
  cases e9
  refine zr_icmp_eq hX (tgt := 1455) d_L_law_1278 (by decide) (fun _ => ?_) (fun z => absurd rfl z)
  exact kk w2 wm2 u3 cm2 fo G2 _ _ o5 o6 h3 hI3 (by omega) (by omega)
theorem lc_differs (hX : zOK g X b_L_law y_L_law (some .boolean) [] 7 d 601024 7293034) (hd9 : 100 ≤ d) (hs : zSc X b L xs) (hL : L ≤ 3584) (t : Nat) (ht : 7 * t + 7 ≤ L) (h0 : zL0 x m out w u fo G) (hI : zIn w wm u cm) (hk : k + zPc w wm ≤ K) (hn : n + zPs w wm ≤ N) (hK : K + 2 ≤ 601024) (hN : N + 4101 ≤ 7293034) (kk : zNext g X b x m out t (K + 2) (N + 4101)) : zw g X (fun r _ => r = .inl (some (.int 1))) 1283 (zll b x m out (7 * t) o5 o6) [] G k n := by
  obtain ⟨v, u2, cm2, mc9, ms9, ⟨bc, bs⟩, hS, hM⟩ := P_differs (g := g) hI (xs (7 * t + 1)) (xs (7 * t + 2)) (xs (7 * t + 3)) (xs (7 * t + 4))
  obtain rfl := h0.2.2.2.1
  unfold zll
  refine zr_aload_n hX rfl d_L_law_1283 ?_
  refine zr_aload_n hX rfl d_L_law_1284 ?_
  refine zr_iload hX rfl d_L_law_1285 ?_
  refine zr_iconst (v := nI 1) hX rfl d_L_law_1287 ?_
  refine zn_iadd hX d_L_law_1288 ?_
  refine zr_sld hX hs (by omega) hL d_L_law_1289 ?_
  refine zr_aload_n hX rfl d_L_law_1290 ?_
  refine zr_iload hX rfl d_L_law_1291 ?_
  refine zr_iconst (v := nI 2) hX rfl d_L_law_1293 ?_
  refine zn_iadd hX d_L_law_1294 ?_
  refine zr_sld hX hs (by omega) hL d_L_law_1295 ?_
  refine zr_aload_n hX rfl d_L_law_1296 ?_
  refine zr_iload hX rfl d_L_law_1297 ?_
  refine zr_iconst (v := nI 3) hX rfl d_L_law_1299 ?_
  refine zn_iadd hX d_L_law_1300 ?_
  refine zr_sld hX hs (by omega) hL d_L_law_1301 ?_
  refine zr_aload_n hX rfl d_L_law_1302 ?_
  refine zr_iload hX rfl d_L_law_1303 ?_
  refine zr_iconst (v := nI 4) hX rfl d_L_law_1305 ?_
  refine zn_iadd hX d_L_law_1306 ?_
  refine zr_sld hX hs (by omega) hL d_L_law_1307 ?_
  refine zr_callV hX (hS (d - 1) G (by omega) h0.1) l_L_139 im_S_differs se_S_differs f_S_differs k_S.1 (h0.1.at 0 0 rfl) rfl (Nat.le_of_ble_eq_true rfl) (by omega) (by omega) (by omega) d_L_law_1308 (fun v9 G1 hq => ?_) (fun E9 G1 hq => by cases hq.1)
  obtain ⟨e9, w2, wm2, h2, hI2, p1, p2⟩ := h0.S hq
  cases e9
  refine zr_aload_n hX rfl d_L_law_1311 ?_
  refine zr_aload_n hX rfl d_L_law_1312 ?_
  refine zr_iload hX rfl d_L_law_1313 ?_
  refine zr_iconst (v := nI 1) hX rfl d_L_law_1315 ?_
  refine zn_iadd hX d_L_law_1316 ?_
  refine zr_sld hX hs (by omega) hL d_L_law_1317 ?_
  refine zr_aload_n hX rfl d_L_law_1318 ?_
  refine zr_iload hX rfl d_L_law_1319 ?_
  refine zr_iconst (v := nI 2) hX rfl d_L_law_1321 ?_
  refine zn_iadd hX d_L_law_1322 ?_
  refine zr_sld hX hs (by omega) hL d_L_law_1323 ?_
  refine zr_aload_n hX rfl d_L_law_1324 ?_
  refine zr_iload hX rfl d_L_law_1325 ?_
  refine zr_iconst (v := nI 3) hX rfl d_L_law_1327 ?_
  refine zn_iadd hX d_L_law_1328 ?_
  refine zr_sld hX hs (by omega) hL d_L_law_1329 ?_
  refine zr_aload_n hX rfl d_L_law_1330 ?_
  refine zr_iload hX rfl d_L_law_1331 ?_
  refine zr_iconst (v := nI 4) hX rfl d_L_law_1333 ?_
  refine zn_iadd hX d_L_law_1334 ?_
  refine zr_sld hX hs (by omega) hL d_L_law_1335 ?_
  refine zr_callV hX (hM (d - 1) _ m (by omega) h2.2.1) l_L_142 im_M_differs se_M_differs f_M_differs k_M.1 h2.2.1.m rfl (Nat.le_of_ble_eq_true rfl) (by omega) (by omega) (by omega) d_L_law_1336 (fun v9 G2 hq2 => ?_) (fun E9 G2 hq2 => by cases hq2.1)
  obtain ⟨e9, u3, h3, hI3, c3⟩ := h2.M hI2 hq2
  cases e9
  refine zr_icmp_eq hX (tgt := 1455) d_L_law_1339 (by decide) (fun _ => ?_) (fun z => absurd rfl z)
  exact kk w2 wm2 u3 cm2 fo G2 _ _ o5 o6 h3 hI3 (by omega) (by omega)
theorem lc_nearest (hX : zOK g X b_L_law y_L_law (some .boolean) [] 7 d 601024 7293034) (hd9 : 100 ≤ d) (hs : zSc X b L xs) (hL : L ≤ 3584) (t : Nat) (ht : 7 * t + 7 ≤ L) (h0 : zL0 x m out w u fo G) (hI : zIn w wm u cm) (hk : k + zPc w wm ≤ K) (hn : n + zPs w wm ≤ N) (hK : K + 2 ≤ 601024) (hN : N + 4101 ≤ 7293034) (kk : zNext g X b x m out t (K + 2) (N + 4101)) : zw g X (fun r _ => r = .inl (some (.int 1))) 1344 (zll b x m out (7 * t) o5 o6) [] G k n := by
  obtain ⟨v, u2, cm2, mc9, ms9, ⟨bc, bs⟩, hS, hM⟩ := P_nearest (g := g) hI (xs (7 * t + 1)) (xs (7 * t + 2)) (xs (7 * t + 3))
  obtain rfl := h0.2.2.2.1
  unfold zll
  refine zr_aload_n hX rfl d_L_law_1344 ?_
  refine zr_aload_n hX rfl d_L_law_1345 ?_
  refine zr_iload hX rfl d_L_law_1346 ?_
  refine zr_iconst (v := nI 1) hX rfl d_L_law_1348 ?_
  refine zn_iadd hX d_L_law_1349 ?_
  refine zr_sld hX hs (by omega) hL d_L_law_1350 ?_
  refine zr_aload_n hX rfl d_L_law_1351 ?_
  refine zr_iload hX rfl d_L_law_1352 ?_
  refine zr_iconst (v := nI 2) hX rfl d_L_law_1354 ?_
  refine zn_iadd hX d_L_law_1355 ?_
  refine zr_sld hX hs (by omega) hL d_L_law_1356 ?_
  refine zr_aload_n hX rfl d_L_law_1357 ?_
  refine zr_iload hX rfl d_L_law_1358 ?_
  refine zr_iconst (v := nI 3) hX rfl d_L_law_1360 ?_
  refine zn_iadd hX d_L_law_1361 ?_
  refine zr_sld hX hs (by omega) hL d_L_law_1362 ?_
  refine zr_callV hX (hS (d - 1) G (by omega) h0.1) l_L_143 im_S_nearest se_S_nearest f_S_nearest k_S.1 (h0.1.at 0 0 rfl) rfl (Nat.le_of_ble_eq_true rfl) (by omega) (by omega) (by omega) d_L_law_1363 (fun v9 G1 hq => ?_) (fun E9 G1 hq => by cases hq.1)
  obtain ⟨e9, w2, wm2, h2, hI2, p1, p2⟩ := h0.S hq
  cases e9
  refine zr_aload_n hX rfl d_L_law_1366 ?_
  refine zr_aload_n hX rfl d_L_law_1367 ?_
  refine zr_iload hX rfl d_L_law_1368 ?_
  refine zr_iconst (v := nI 1) hX rfl d_L_law_1370 ?_
  refine zn_iadd hX d_L_law_1371 ?_
  refine zr_sld hX hs (by omega) hL d_L_law_1372 ?_
  refine zr_aload_n hX rfl d_L_law_1373 ?_
  refine zr_iload hX rfl d_L_law_1374 ?_
  refine zr_iconst (v := nI 2) hX rfl d_L_law_1376 ?_
  refine zn_iadd hX d_L_law_1377 ?_
  refine zr_sld hX hs (by omega) hL d_L_law_1378 ?_
  refine zr_aload_n hX rfl d_L_law_1379 ?_
  refine zr_iload hX rfl d_L_law_1380 ?_
  refine zr_iconst (v := nI 3) hX rfl d_L_law_1382 ?_
  refine zn_iadd hX d_L_law_1383 ?_
  refine zr_sld hX hs (by omega) hL d_L_law_1384 ?_
  refine zr_callV hX (hM (d - 1) _ m (by omega) h2.2.1) l_L_146 im_M_nearest se_M_nearest f_M_nearest k_M.1 h2.2.1.m rfl (Nat.le_of_ble_eq_true rfl) (by omega) (by omega) (by omega) d_L_law_1385 (fun v9 G2 hq2 => ?_) (fun E9 G2 hq2 => by cases hq2.1)
  obtain ⟨e9, u3, h3, hI3, c3⟩ := h2.M hI2 hq2
  cases e9
  refine zr_icmp_eq hX (tgt := 1455) d_L_law_1388 (by decide) (fun _ => ?_) (fun z => absurd rfl z)
  exact kk w2 wm2 u3 cm2 fo G2 _ _ o5 o6 h3 hI3 (by omega) (by omega)
theorem lc_about (hX : zOK g X b_L_law y_L_law (some .boolean) [] 7 d 601024 7293034) (hd9 : 100 ≤ d) (hs : zSc X b L xs) (hL : L ≤ 3584) (t : Nat) (ht : 7 * t + 7 ≤ L) (h0 : zL0 x m out w u fo G) (hI : zIn w wm u cm) (hk : k + zPc w wm ≤ K) (hn : n + zPs w wm ≤ N) (hK : K + 2 ≤ 601024) (hN : N + 4101 ≤ 7293034) (kk : zNext g X b x m out t (K + 2) (N + 4101)) : zw g X (fun r _ => r = .inl (some (.int 1))) 1393 (zll b x m out (7 * t) o5 o6) [] G k n := by
  obtain ⟨v, u2, cm2, mc9, ms9, ⟨bc, bs⟩, hS, hM⟩ := P_about (g := g) hI (xs (7 * t + 1)) (xs (7 * t + 2))
  obtain rfl := h0.2.2.2.1
  unfold zll
  refine zr_aload_n hX rfl d_L_law_1393 ?_
  refine zr_aload_n hX rfl d_L_law_1394 ?_
  refine zr_iload hX rfl d_L_law_1395 ?_
  refine zr_iconst (v := nI 1) hX rfl d_L_law_1397 ?_
  refine zn_iadd hX d_L_law_1398 ?_
  refine zr_sld hX hs (by omega) hL d_L_law_1399 ?_
  refine zr_aload_n hX rfl d_L_law_1400 ?_
  refine zr_iload hX rfl d_L_law_1401 ?_
  refine zr_iconst (v := nI 2) hX rfl d_L_law_1403 ?_
  refine zn_iadd hX d_L_law_1404 ?_
  refine zr_sld hX hs (by omega) hL d_L_law_1405 ?_
  refine zr_callV hX (hS (d - 1) G (by omega) h0.1) l_L_147 im_S_about se_S_about f_S_about k_S.1 (h0.1.at 0 0 rfl) rfl (Nat.le_of_ble_eq_true rfl) (by omega) (by omega) (by omega) d_L_law_1406 (fun v9 G1 hq => ?_) (fun E9 G1 hq => by cases hq.1)
  obtain ⟨e9, w2, wm2, h2, hI2, p1, p2⟩ := h0.S hq
  cases e9
  refine zr_aload_n hX rfl d_L_law_1409 ?_
  refine zr_aload_n hX rfl d_L_law_1410 ?_
  refine zr_iload hX rfl d_L_law_1411 ?_
  refine zr_iconst (v := nI 1) hX rfl d_L_law_1413 ?_
  refine zn_iadd hX d_L_law_1414 ?_
  refine zr_sld hX hs (by omega) hL d_L_law_1415 ?_
  refine zr_aload_n hX rfl d_L_law_1416 ?_
  refine zr_iload hX rfl d_L_law_1417 ?_
  refine zr_iconst (v := nI 2) hX rfl d_L_law_1419 ?_
  refine zn_iadd hX d_L_law_1420 ?_
  refine zr_sld hX hs (by omega) hL d_L_law_1421 ?_
  refine zr_callV hX (hM (d - 1) _ m (by omega) h2.2.1) l_L_150 im_M_about se_M_about f_M_about k_M.1 h2.2.1.m rfl (Nat.le_of_ble_eq_true rfl) (by omega) (by omega) (by omega) d_L_law_1422 (fun v9 G2 hq2 => ?_) (fun E9 G2 hq2 => by cases hq2.1)
  obtain ⟨e9, u3, h3, hI3, c3⟩ := h2.M hI2 hq2
  cases e9
  refine zr_icmp_eq hX (tgt := 1455) d_L_law_1425 (by decide) (fun _ => ?_) (fun z => absurd rfl z)
  exact kk w2 wm2 u3 cm2 fo G2 _ _ o5 o6 h3 hI3 (by omega) (by omega)
theorem lc_blocks (hX : zOK g X b_L_law y_L_law (some .boolean) [] 7 d 601024 7293034) (hd9 : 100 ≤ d) (hs : zSc X b L xs) (hL : L ≤ 3584) (t : Nat) (ht : 7 * t + 7 ≤ L) (h0 : zL0 x m out w u fo G) (hI : zIn w wm u cm) (hk : k + zPc w wm ≤ K) (hn : n + zPs w wm ≤ N) (hK : K + 2 ≤ 601024) (hN : N + 4101 ≤ 7293034) (kk : zNext g X b x m out t (K + 2) (N + 4101)) : zw g X (fun r _ => r = .inl (some (.int 1))) 1430 (zll b x m out (7 * t) o5 o6) [] G k n := by
  obtain ⟨v, u2, cm2, mc9, ms9, ⟨bc, bs⟩, hS, hM⟩ := P_blocks (g := g) hI (xs (7 * t + 1))
  obtain rfl := h0.2.2.2.1
  unfold zll
  refine zr_aload_n hX rfl d_L_law_1430 ?_
  refine zr_aload_n hX rfl d_L_law_1431 ?_
  refine zr_iload hX rfl d_L_law_1432 ?_
  refine zr_iconst (v := nI 1) hX rfl d_L_law_1434 ?_
  refine zn_iadd hX d_L_law_1435 ?_
  refine zr_sld hX hs (by omega) hL d_L_law_1436 ?_
  refine zr_callV hX (hS (d - 1) G (by omega) h0.1) l_L_151 im_S_blocks se_S_blocks f_S_blocks k_S.1 (h0.1.at 0 0 rfl) rfl (Nat.le_of_ble_eq_true rfl) (by omega) (by omega) (by omega) d_L_law_1437 (fun v9 G1 hq => ?_) (fun E9 G1 hq => by cases hq.1)
  obtain ⟨e9, w2, wm2, h2, hI2, p1, p2⟩ := h0.S hq
  cases e9
  refine zr_aload_n hX rfl d_L_law_1440 ?_
  refine zr_aload_n hX rfl d_L_law_1441 ?_
  refine zr_iload hX rfl d_L_law_1442 ?_
  refine zr_iconst (v := nI 1) hX rfl d_L_law_1444 ?_
  refine zn_iadd hX d_L_law_1445 ?_
  refine zr_sld hX hs (by omega) hL d_L_law_1446 ?_
  refine zr_callV hX (hM (d - 1) _ m (by omega) h2.2.1) l_L_154 im_M_blocks se_M_blocks f_M_blocks k_M.1 h2.2.1.m rfl (Nat.le_of_ble_eq_true rfl) (by omega) (by omega) (by omega) d_L_law_1447 (fun v9 G2 hq2 => ?_) (fun E9 G2 hq2 => by cases hq2.1)
  obtain ⟨e9, u3, h3, hI3, c3⟩ := h2.M hI2 hq2
  cases e9
  refine zr_icmp_eq hX (tgt := 1455) d_L_law_1450 (by decide) (fun _ => ?_) (fun z => absurd rfl z)
  exact kk w2 wm2 u3 cm2 fo G2 _ _ o5 o6 h3 hI3 (by omega) (by omega)
end ZLC
