/-! The law: its calls, one by one. -/
set_option maxHeartbeats 4000000 in
theorem law0_3 {xs : List Int32} {ac : Int} {M : nM} {i a1 a2 a3 a4 : Int} (hS : Sf 3 ac M M) (hdm : M 112 0 = 3) (rl : RLQ 3 M) (hx : xs.length ≤ 2560) (hi : 0 ≤ i ∧ i + 5 ≤ (xs.length : Int)) (ea1 : (xs.getD (i + 1).toNat 0).toInt = a1) (ea2 : (xs.getD (i + 2).toNat 0).toInt = a2) (ea3 : (xs.getD (i + 3).toNat 0).toInt = a3) (ea4 : (xs.getD (i + 4).toNat 0).toInt = a4) (ra1 : -2147483648 ≤ a1 ∧ a1 ≤ 2147483647) (ra2 : -2147483648 ≤ a2 ∧ a2 ≤ 2147483647) (ra3 : -2147483648 ≤ a3 ∧ a3 ≤ 2147483647) (ra4 : -2147483648 ≤ a4 ∧ a4 ≤ 2147483647) (h : ∀ (d2 ac2 : Int) (M2 : nM), (d2 = 2 ∨ d2 = 3) → Sf d2 ac2 M2 M2 → M2 112 0 = d2 → RLQ d2 M2 → nW xs 60 0 991 [some (2, 2), some (2, 3), some (2, 112), some (0, i)] [] M2 (nPI fun z M1 => z = 1)) : nW xs 60 0 164 [some (2, 2), some (2, 3), some (2, 112), some (0, i)] [] M (nPI fun z M1 => z = 1) := by
  have hd2 : (2 : Int) = 2 ∨ (2 : Int) = 3 := by decide
  have hd3 : (3 : Int) = 2 ∨ (3 : Int) = 3 := by decide
  have hac := hS.2.2.2.2
  rcases (show (-2147483648 ≤ a1 ∧ a1 ≤ 1) ∨ a1 = 2 ∨ a1 = 3 ∨ (4 ≤ a1 ∧ a1 ≤ 2147483647) by omega) with hq | rfl | rfl | hq
  · skip
    refine n_aload_n c_0_164 rfl ?_
    refine n_aload_n c_0_165 rfl ?_
    refine n_iload_n c_0_166 rfl ?_
    refine n_iconst c_0_167 ?_
    refine n_iadd c_0_168 rfl ?_
    refine n_sld c_0_169 (by omega) (by omega) ea1 ?_
    refine n_v1I c_0_170 rfl sc_3.n rfl rfl rfl rfl (freshL_3 (a := a1) hS (by omega)) ?_
    intro z1 M2 hP3
    obtain ⟨eM, f3⟩ := hP3
    subst eM
    obtain rfl : z1 = 0 := by omega
    refine n_pop c_0_173 ?_
    refine n_aload_n c_0_174 rfl ?_
    refine n_aload_n c_0_175 rfl ?_
    refine n_iload_n c_0_176 rfl ?_
    refine n_iconst c_0_177 ?_
    refine n_iadd c_0_178 rfl ?_
    refine n_sld c_0_179 (by omega) (by omega) ea1 ?_
    refine n_v1I c_0_180 rfl sc_112.n rfl rfl rfl rfl (mfreshL_3 (a := a1) hS (by omega)) ?_
    intro z4 M5 hP6
    obtain ⟨eM, f6⟩ := hP6
    subst eM
    obtain rfl : z4 = 0 := by omega
    refine n_pop c_0_183 ?_
    refine n_goto c_0_184 ?_
    exact h _ _ _ hd3 hS (by omega) rl
  · skip
    refine n_aload_n c_0_164 rfl ?_
    refine n_aload_n c_0_165 rfl ?_
    refine n_iload_n c_0_166 rfl ?_
    refine n_iconst c_0_167 ?_
    refine n_iadd c_0_168 rfl ?_
    refine n_sld c_0_169 (by omega) (by omega) ea1 ?_
    refine n_v1I c_0_170 rfl sc_3.n rfl rfl rfl rfl (freshX2_3  hS ) ?_
    intro z1 M2 hP3
    obtain ⟨hS2, f3, f3p0, f3p1, f3p2⟩ := hP3
    obtain rfl : z1 = 1 := by omega
    refine n_pop c_0_173 ?_
    refine n_aload_n c_0_174 rfl ?_
    refine n_aload_n c_0_175 rfl ?_
    refine n_iload_n c_0_176 rfl ?_
    refine n_iconst c_0_177 ?_
    refine n_iadd c_0_178 rfl ?_
    refine n_sld c_0_179 (by omega) (by omega) ea1 ?_
    refine n_v1I c_0_180 rfl sc_112.n rfl rfl rfl rfl (mfreshX_2  hS2 ) ?_
    intro z4 M5 hP6
    obtain ⟨hS5, f6, f6p0, f6p1, f6p2⟩ := hP6
    have rlf : RLQ 2 M5 := RLQ.fre rl (t_ac hS2) ⟨f3p1, f3p2⟩ ⟨f6p1, f6p2⟩
    obtain rfl : z4 = 1 := by omega
    refine n_pop c_0_183 ?_
    refine n_goto c_0_184 ?_
    exact h _ _ _ hd2 hS5 (by omega) rlf
  · skip
    refine n_aload_n c_0_164 rfl ?_
    refine n_aload_n c_0_165 rfl ?_
    refine n_iload_n c_0_166 rfl ?_
    refine n_iconst c_0_167 ?_
    refine n_iadd c_0_168 rfl ?_
    refine n_sld c_0_169 (by omega) (by omega) ea1 ?_
    refine n_v1I c_0_170 rfl sc_3.n rfl rfl rfl rfl (freshX3_3  hS ) ?_
    intro z1 M2 hP3
    obtain ⟨hS2, f3, f3p0, f3p1, f3p2⟩ := hP3
    obtain rfl : z1 = 1 := by omega
    refine n_pop c_0_173 ?_
    refine n_aload_n c_0_174 rfl ?_
    refine n_aload_n c_0_175 rfl ?_
    refine n_iload_n c_0_176 rfl ?_
    refine n_iconst c_0_177 ?_
    refine n_iadd c_0_178 rfl ?_
    refine n_sld c_0_179 (by omega) (by omega) ea1 ?_
    refine n_v1I c_0_180 rfl sc_112.n rfl rfl rfl rfl (mfreshX_3  hS2 ) ?_
    intro z4 M5 hP6
    obtain ⟨hS5, f6, f6p0, f6p1, f6p2⟩ := hP6
    have rlf : RLQ 3 M5 := RLQ.fre rl (t_ac hS2) ⟨f3p1, f3p2⟩ ⟨f6p1, f6p2⟩
    obtain rfl : z4 = 1 := by omega
    refine n_pop c_0_183 ?_
    refine n_goto c_0_184 ?_
    exact h _ _ _ hd3 hS5 (by omega) rlf
  · skip
    refine n_aload_n c_0_164 rfl ?_
    refine n_aload_n c_0_165 rfl ?_
    refine n_iload_n c_0_166 rfl ?_
    refine n_iconst c_0_167 ?_
    refine n_iadd c_0_168 rfl ?_
    refine n_sld c_0_169 (by omega) (by omega) ea1 ?_
    refine n_v1I c_0_170 rfl sc_3.n rfl rfl rfl rfl (freshH_3 (a := a1) hS (by omega)) ?_
    intro z1 M2 hP3
    obtain ⟨eM, f3⟩ := hP3
    subst eM
    obtain rfl : z1 = 0 := by omega
    refine n_pop c_0_173 ?_
    refine n_aload_n c_0_174 rfl ?_
    refine n_aload_n c_0_175 rfl ?_
    refine n_iload_n c_0_176 rfl ?_
    refine n_iconst c_0_177 ?_
    refine n_iadd c_0_178 rfl ?_
    refine n_sld c_0_179 (by omega) (by omega) ea1 ?_
    refine n_v1I c_0_180 rfl sc_112.n rfl rfl rfl rfl (mfreshH_3 (a := a1) hS (by omega)) ?_
    intro z4 M5 hP6
    obtain ⟨eM, f6⟩ := hP6
    subst eM
    obtain rfl : z4 = 0 := by omega
    refine n_pop c_0_183 ?_
    refine n_goto c_0_184 ?_
    exact h _ _ _ hd3 hS (by omega) rl
set_option maxHeartbeats 4000000 in
theorem law1_3 {xs : List Int32} {ac : Int} {M : nM} {i a1 a2 a3 a4 : Int} (hS : Sf 3 ac M M) (hdm : M 112 0 = 3) (rl : RLQ 3 M) (hx : xs.length ≤ 2560) (hi : 0 ≤ i ∧ i + 5 ≤ (xs.length : Int)) (ea1 : (xs.getD (i + 1).toNat 0).toInt = a1) (ea2 : (xs.getD (i + 2).toNat 0).toInt = a2) (ea3 : (xs.getD (i + 3).toNat 0).toInt = a3) (ea4 : (xs.getD (i + 4).toNat 0).toInt = a4) (ra1 : -2147483648 ≤ a1 ∧ a1 ≤ 2147483647) (ra2 : -2147483648 ≤ a2 ∧ a2 ≤ 2147483647) (ra3 : -2147483648 ≤ a3 ∧ a3 ≤ 2147483647) (ra4 : -2147483648 ≤ a4 ∧ a4 ≤ 2147483647) (h : ∀ (d2 ac2 : Int) (M2 : nM), (d2 = 2 ∨ d2 = 3) → Sf d2 ac2 M2 M2 → M2 112 0 = d2 → RLQ d2 M2 → nW xs 60 0 991 [some (2, 2), some (2, 3), some (2, 112), some (0, i)] [] M2 (nPI fun z M1 => z = 1)) : nW xs 60 0 187 [some (2, 2), some (2, 3), some (2, 112), some (0, i)] [] M (nPI fun z M1 => z = 1) := by
  have hd2 : (2 : Int) = 2 ∨ (2 : Int) = 3 := by decide
  have hd3 : (3 : Int) = 2 ∨ (3 : Int) = 3 := by decide
  have hac := hS.2.2.2.2
  refine n_aload_n c_0_187 rfl ?_
  refine n_aload_n c_0_188 rfl ?_
  refine n_iload_n c_0_189 rfl ?_
  refine n_iconst c_0_190 ?_
  refine n_iadd c_0_191 rfl ?_
  refine n_sld c_0_192 (by omega) (by omega) ea1 ?_
  refine n_aload_n c_0_193 rfl ?_
  refine n_iload_n c_0_194 rfl ?_
  refine n_iconst c_0_195 ?_
  refine n_iadd c_0_196 rfl ?_
  refine n_sld c_0_197 (by omega) (by omega) ea2 ?_
  refine n_aload_n c_0_198 rfl ?_
  refine n_iload_n c_0_199 rfl ?_
  refine n_iconst c_0_200 ?_
  refine n_iadd c_0_201 rfl ?_
  refine n_sld c_0_202 (by omega) (by omega) ea3 ?_
  refine n_v3I c_0_203 rfl sc_3.n rfl rfl rfl rfl (rowX_3 (s := a1) (w := a2) (n := a3) (gd := (M 112 0)) hS (by omega) (by omega) (by omega) rfl) ?_
  intro z1 M2 hP3
  obtain ⟨hS2, f3, f3g0, f3p0⟩ := hP3
  refine n_pop c_0_206 ?_
  refine n_aload_n c_0_207 rfl ?_
  refine n_aload_n c_0_208 rfl ?_
  refine n_iload_n c_0_209 rfl ?_
  refine n_iconst c_0_210 ?_
  refine n_iadd c_0_211 rfl ?_
  refine n_sld c_0_212 (by omega) (by omega) ea1 ?_
  refine n_aload_n c_0_213 rfl ?_
  refine n_iload_n c_0_214 rfl ?_
  refine n_iconst c_0_215 ?_
  refine n_iadd c_0_216 rfl ?_
  refine n_sld c_0_217 (by omega) (by omega) ea2 ?_
  refine n_aload_n c_0_218 rfl ?_
  refine n_iload_n c_0_219 rfl ?_
  refine n_iconst c_0_220 ?_
  refine n_iadd c_0_221 rfl ?_
  refine n_sld c_0_222 (by omega) (by omega) ea3 ?_
  refine n_v3I c_0_223 rfl sc_112.n rfl rfl rfl rfl (mrowX_3 (s := a1) (w := a2) (n := a3) (gd := (M2 112 0)) (Ms := M2) hS2 (by omega) (by omega) (by omega) (by omega) rfl (by rfl)) ?_
  intro z4 M5 hP6
  obtain ⟨hS5, f6, f6g0, f6p0⟩ := hP6
  obtain ⟨rl2, hzz⟩ := RLQ.row hd3 rl hS f3p0 f6p0
  refine n_pop c_0_226 ?_
  refine n_goto c_0_227 ?_
  exact h _ _ _ hd3 hS5 (by omega) rl2
set_option maxHeartbeats 4000000 in
theorem law2_3 {xs : List Int32} {ac : Int} {M : nM} {i a1 a2 a3 a4 : Int} (hS : Sf 3 ac M M) (hdm : M 112 0 = 3) (rl : RLQ 3 M) (hx : xs.length ≤ 2560) (hi : 0 ≤ i ∧ i + 5 ≤ (xs.length : Int)) (ea1 : (xs.getD (i + 1).toNat 0).toInt = a1) (ea2 : (xs.getD (i + 2).toNat 0).toInt = a2) (ea3 : (xs.getD (i + 3).toNat 0).toInt = a3) (ea4 : (xs.getD (i + 4).toNat 0).toInt = a4) (ra1 : -2147483648 ≤ a1 ∧ a1 ≤ 2147483647) (ra2 : -2147483648 ≤ a2 ∧ a2 ≤ 2147483647) (ra3 : -2147483648 ≤ a3 ∧ a3 ≤ 2147483647) (ra4 : -2147483648 ≤ a4 ∧ a4 ≤ 2147483647) (h : ∀ (d2 ac2 : Int) (M2 : nM), (d2 = 2 ∨ d2 = 3) → Sf d2 ac2 M2 M2 → M2 112 0 = d2 → RLQ d2 M2 → nW xs 60 0 991 [some (2, 2), some (2, 3), some (2, 112), some (0, i)] [] M2 (nPI fun z M1 => z = 1)) : nW xs 60 0 230 [some (2, 2), some (2, 3), some (2, 112), some (0, i)] [] M (nPI fun z M1 => z = 1) := by
  have hd2 : (2 : Int) = 2 ∨ (2 : Int) = 3 := by decide
  have hd3 : (3 : Int) = 2 ∨ (3 : Int) = 3 := by decide
  have hac := hS.2.2.2.2
  refine n_aload_n c_0_230 rfl ?_
  refine n_aload_n c_0_231 rfl ?_
  refine n_iload_n c_0_232 rfl ?_
  refine n_iconst c_0_233 ?_
  refine n_iadd c_0_234 rfl ?_
  refine n_sld c_0_235 (by omega) (by omega) ea1 ?_
  refine n_v1I c_0_236 rfl sc_3.n rfl rfl rfl rfl (tearX_3 (s := a1) (gd := (M 112 0)) hS (by omega) rfl) ?_
  intro z1 M2 hP3
  obtain ⟨hS2, f3, f3g0, f3p0⟩ := hP3
  refine n_pop c_0_239 ?_
  refine n_aload_n c_0_240 rfl ?_
  refine n_aload_n c_0_241 rfl ?_
  refine n_iload_n c_0_242 rfl ?_
  refine n_iconst c_0_243 ?_
  refine n_iadd c_0_244 rfl ?_
  refine n_sld c_0_245 (by omega) (by omega) ea1 ?_
  refine n_v1I c_0_246 rfl sc_112.n rfl rfl rfl rfl (mtearX_3 (s := a1) (gd := (M2 112 0)) hS2 (by omega) (by omega) rfl) ?_
  intro z4 M5 hP6
  obtain ⟨hS5, f6, f6g0, f6p0⟩ := hP6
  obtain ⟨rl2, hzz⟩ := RLQ.tear hd3 rl hS f3p0 f6p0
  refine n_pop c_0_249 ?_
  refine n_goto c_0_250 ?_
  exact h _ _ _ hd3 hS5 (by omega) rl2
set_option maxHeartbeats 4000000 in
theorem law3_3 {xs : List Int32} {ac : Int} {M : nM} {i a1 a2 a3 a4 : Int} (hS : Sf 3 ac M M) (hdm : M 112 0 = 3) (rl : RLQ 3 M) (hx : xs.length ≤ 2560) (hi : 0 ≤ i ∧ i + 5 ≤ (xs.length : Int)) (ea1 : (xs.getD (i + 1).toNat 0).toInt = a1) (ea2 : (xs.getD (i + 2).toNat 0).toInt = a2) (ea3 : (xs.getD (i + 3).toNat 0).toInt = a3) (ea4 : (xs.getD (i + 4).toNat 0).toInt = a4) (ra1 : -2147483648 ≤ a1 ∧ a1 ≤ 2147483647) (ra2 : -2147483648 ≤ a2 ∧ a2 ≤ 2147483647) (ra3 : -2147483648 ≤ a3 ∧ a3 ≤ 2147483647) (ra4 : -2147483648 ≤ a4 ∧ a4 ≤ 2147483647) (h : ∀ (d2 ac2 : Int) (M2 : nM), (d2 = 2 ∨ d2 = 3) → Sf d2 ac2 M2 M2 → M2 112 0 = d2 → RLQ d2 M2 → nW xs 60 0 991 [some (2, 2), some (2, 3), some (2, 112), some (0, i)] [] M2 (nPI fun z M1 => z = 1)) : nW xs 60 0 253 [some (2, 2), some (2, 3), some (2, 112), some (0, i)] [] M (nPI fun z M1 => z = 1) := by
  have hd2 : (2 : Int) = 2 ∨ (2 : Int) = 3 := by decide
  have hd3 : (3 : Int) = 2 ∨ (3 : Int) = 3 := by decide
  have hac := hS.2.2.2.2
  refine n_aload_n c_0_253 rfl ?_
  refine n_aload_n c_0_254 rfl ?_
  refine n_iload_n c_0_255 rfl ?_
  refine n_iconst c_0_256 ?_
  refine n_iadd c_0_257 rfl ?_
  refine n_sld c_0_258 (by omega) (by omega) ea1 ?_
  refine n_aload_n c_0_259 rfl ?_
  refine n_iload_n c_0_260 rfl ?_
  refine n_iconst c_0_261 ?_
  refine n_iadd c_0_262 rfl ?_
  refine n_sld c_0_263 (by omega) (by omega) ea2 ?_
  refine n_aload_n c_0_264 rfl ?_
  refine n_iload_n c_0_265 rfl ?_
  refine n_iconst c_0_266 ?_
  refine n_iadd c_0_267 rfl ?_
  refine n_sld c_0_268 (by omega) (by omega) ea3 ?_
  refine n_i2l c_0_269 (by omega) ?_
  refine n_bipush c_0_270 rfl ?_
  refine n_i_lshl c_0_272 rfl ?_
  have f1 := n_lshl_r a3 32
  refine n_aload_n c_0_273 rfl ?_
  refine n_iload_n c_0_274 rfl ?_
  refine n_iconst c_0_275 ?_
  refine n_iadd c_0_276 rfl ?_
  refine n_sld c_0_277 (by omega) (by omega) ea4 ?_
  refine n_i2l c_0_278 (by omega) ?_
  refine n_ldc2 (n := 4294967295) c_0_279 rfl ?_
  refine n_i_land c_0_282 rfl ?_
  have f2 := n_land_r a4 4294967295
  refine n_i_lor c_0_283 rfl ?_
  have f3 := n_lor_r (n_lshl a3 32) (n_land a4 4294967295)
  refine n_v3I c_0_284 rfl sc_3.n rfl rfl rfl rfl (writeX_3 (s := a1) (i := a2) (v := (n_lor (n_lshl a3 32) (n_land a4 4294967295))) (gd := (M 112 0)) hS (by omega) (by omega) (by omega) rfl) ?_
  intro z4 M5 hP6
  obtain ⟨hS5, f6, f6g0, f6p0⟩ := hP6
  refine n_pop c_0_287 ?_
  refine n_aload_n c_0_288 rfl ?_
  refine n_aload_n c_0_289 rfl ?_
  refine n_iload_n c_0_290 rfl ?_
  refine n_iconst c_0_291 ?_
  refine n_iadd c_0_292 rfl ?_
  refine n_sld c_0_293 (by omega) (by omega) ea1 ?_
  refine n_aload_n c_0_294 rfl ?_
  refine n_iload_n c_0_295 rfl ?_
  refine n_iconst c_0_296 ?_
  refine n_iadd c_0_297 rfl ?_
  refine n_sld c_0_298 (by omega) (by omega) ea2 ?_
  refine n_aload_n c_0_299 rfl ?_
  refine n_iload_n c_0_300 rfl ?_
  refine n_iconst c_0_301 ?_
  refine n_iadd c_0_302 rfl ?_
  refine n_sld c_0_303 (by omega) (by omega) ea3 ?_
  refine n_i2l c_0_304 (by omega) ?_
  refine n_bipush c_0_305 rfl ?_
  refine n_i_lshl c_0_307 rfl ?_
  have f7 := n_lshl_r a3 32
  refine n_aload_n c_0_308 rfl ?_
  refine n_iload_n c_0_309 rfl ?_
  refine n_iconst c_0_310 ?_
  refine n_iadd c_0_311 rfl ?_
  refine n_sld c_0_312 (by omega) (by omega) ea4 ?_
  refine n_i2l c_0_313 (by omega) ?_
  refine n_ldc2 (n := 4294967295) c_0_314 rfl ?_
  refine n_i_land c_0_317 rfl ?_
  have f8 := n_land_r a4 4294967295
  refine n_i_lor c_0_318 rfl ?_
  have f9 := n_lor_r (n_lshl a3 32) (n_land a4 4294967295)
  refine n_v3I c_0_319 rfl sc_112.n rfl rfl rfl rfl (mwriteX_3 (s := a1) (i := a2) (v := (n_lor (n_lshl a3 32) (n_land a4 4294967295))) (gd := (M5 112 0)) hS5 (by omega) (by omega) (by omega) (by omega) rfl) ?_
  intro z10 M11 hP12
  obtain ⟨hS11, f12, f12g0, f12p0⟩ := hP12
  obtain ⟨rl2, hzz⟩ := RLQ.wri hd3 rl hS f6p0 f12p0
  refine n_pop c_0_322 ?_
  refine n_goto c_0_323 ?_
  exact h _ _ _ hd3 hS11 (by omega) rl2
set_option maxHeartbeats 4000000 in
theorem law4_3 {xs : List Int32} {ac : Int} {M : nM} {i a1 a2 a3 a4 : Int} (hS : Sf 3 ac M M) (hdm : M 112 0 = 3) (rl : RLQ 3 M) (hx : xs.length ≤ 2560) (hi : 0 ≤ i ∧ i + 5 ≤ (xs.length : Int)) (ea1 : (xs.getD (i + 1).toNat 0).toInt = a1) (ea2 : (xs.getD (i + 2).toNat 0).toInt = a2) (ea3 : (xs.getD (i + 3).toNat 0).toInt = a3) (ea4 : (xs.getD (i + 4).toNat 0).toInt = a4) (ra1 : -2147483648 ≤ a1 ∧ a1 ≤ 2147483647) (ra2 : -2147483648 ≤ a2 ∧ a2 ≤ 2147483647) (ra3 : -2147483648 ≤ a3 ∧ a3 ≤ 2147483647) (ra4 : -2147483648 ≤ a4 ∧ a4 ≤ 2147483647) (h : ∀ (d2 ac2 : Int) (M2 : nM), (d2 = 2 ∨ d2 = 3) → Sf d2 ac2 M2 M2 → M2 112 0 = d2 → RLQ d2 M2 → nW xs 60 0 991 [some (2, 2), some (2, 3), some (2, 112), some (0, i)] [] M2 (nPI fun z M1 => z = 1)) : nW xs 60 0 326 [some (2, 2), some (2, 3), some (2, 112), some (0, i)] [] M (nPI fun z M1 => z = 1) := by
  have hd2 : (2 : Int) = 2 ∨ (2 : Int) = 3 := by decide
  have hd3 : (3 : Int) = 2 ∨ (3 : Int) = 3 := by decide
  have hac := hS.2.2.2.2
  refine n_aload_n c_0_326 rfl ?_
  refine n_aload_n c_0_327 rfl ?_
  refine n_iload_n c_0_328 rfl ?_
  refine n_iconst c_0_329 ?_
  refine n_iadd c_0_330 rfl ?_
  refine n_sld c_0_331 (by omega) (by omega) ea1 ?_
  refine n_aload_n c_0_332 rfl ?_
  refine n_iload_n c_0_333 rfl ?_
  refine n_iconst c_0_334 ?_
  refine n_iadd c_0_335 rfl ?_
  refine n_sld c_0_336 (by omega) (by omega) ea2 ?_
  refine n_v2I c_0_337 rfl sc_3.n rfl rfl rfl rfl (actXA_3 (k := a1) (s := a2) (gd := (M 112 0)) hS (by omega) (by omega) rfl) ?_
  intro z1 M2 hP3
  obtain ⟨hS2, f3, f3g0, f3p0⟩ := hP3
  obtain ⟨ac3, hS2⟩ := hS2
  refine n_pop c_0_340 ?_
  refine n_aload_n c_0_341 rfl ?_
  refine n_aload_n c_0_342 rfl ?_
  refine n_iload_n c_0_343 rfl ?_
  refine n_iconst c_0_344 ?_
  refine n_iadd c_0_345 rfl ?_
  refine n_sld c_0_346 (by omega) (by omega) ea1 ?_
  refine n_aload_n c_0_347 rfl ?_
  refine n_iload_n c_0_348 rfl ?_
  refine n_iconst c_0_349 ?_
  refine n_iadd c_0_350 rfl ?_
  refine n_sld c_0_351 (by omega) (by omega) ea2 ?_
  refine n_v2I c_0_352 rfl sc_112.n rfl rfl rfl rfl (mactXA_3 (k := a1) (s := a2) (gd := (M2 112 0)) hS2 (by omega) (by omega) (by omega) rfl) ?_
  intro z4 M5 hP6
  obtain ⟨hS5, f6, f6g0, f6p0⟩ := hP6
  obtain ⟨rl2, hzz⟩ := RLQ.act hd3 (fun _ => rfl) rl hS f3p0 f6p0
  refine n_pop c_0_355 ?_
  refine n_goto c_0_356 ?_
  exact h _ _ _ hd3 hS5 (by omega) rl2
set_option maxHeartbeats 4000000 in
theorem law5_3 {xs : List Int32} {ac : Int} {M : nM} {i a1 a2 a3 a4 : Int} (hS : Sf 3 ac M M) (hdm : M 112 0 = 3) (rl : RLQ 3 M) (hx : xs.length ≤ 2560) (hi : 0 ≤ i ∧ i + 5 ≤ (xs.length : Int)) (ea1 : (xs.getD (i + 1).toNat 0).toInt = a1) (ea2 : (xs.getD (i + 2).toNat 0).toInt = a2) (ea3 : (xs.getD (i + 3).toNat 0).toInt = a3) (ea4 : (xs.getD (i + 4).toNat 0).toInt = a4) (ra1 : -2147483648 ≤ a1 ∧ a1 ≤ 2147483647) (ra2 : -2147483648 ≤ a2 ∧ a2 ≤ 2147483647) (ra3 : -2147483648 ≤ a3 ∧ a3 ≤ 2147483647) (ra4 : -2147483648 ≤ a4 ∧ a4 ≤ 2147483647) (h : ∀ (d2 ac2 : Int) (M2 : nM), (d2 = 2 ∨ d2 = 3) → Sf d2 ac2 M2 M2 → M2 112 0 = d2 → RLQ d2 M2 → nW xs 60 0 991 [some (2, 2), some (2, 3), some (2, 112), some (0, i)] [] M2 (nPI fun z M1 => z = 1)) : nW xs 60 0 359 [some (2, 2), some (2, 3), some (2, 112), some (0, i)] [] M (nPI fun z M1 => z = 1) := by
  have hd2 : (2 : Int) = 2 ∨ (2 : Int) = 3 := by decide
  have hd3 : (3 : Int) = 2 ∨ (3 : Int) = 3 := by decide
  have hac := hS.2.2.2.2
  refine n_aload_n c_0_359 rfl ?_
  refine n_aload_n c_0_360 rfl ?_
  refine n_iload_n c_0_361 rfl ?_
  refine n_iconst c_0_362 ?_
  refine n_iadd c_0_363 rfl ?_
  refine n_sld c_0_364 (by omega) (by omega) ea1 ?_
  refine n_aload_n c_0_365 rfl ?_
  refine n_iload_n c_0_366 rfl ?_
  refine n_iconst c_0_367 ?_
  refine n_iadd c_0_368 rfl ?_
  refine n_sld c_0_369 (by omega) (by omega) ea2 ?_
  refine n_v2I c_0_370 rfl sc_3.n rfl rfl rfl rfl (lawYA_3 (k := a1) (s := a2) (gd := (M 112 0)) hS (by omega) (by omega) rfl) ?_
  intro z1 M2 hP3
  obtain ⟨hS2, f3, f3g0, f3p0, f3p1⟩ := hP3
  refine n_pop c_0_373 ?_
  refine n_aload_n c_0_374 rfl ?_
  refine n_aload_n c_0_375 rfl ?_
  refine n_iload_n c_0_376 rfl ?_
  refine n_iconst c_0_377 ?_
  refine n_iadd c_0_378 rfl ?_
  refine n_sld c_0_379 (by omega) (by omega) ea1 ?_
  refine n_aload_n c_0_380 rfl ?_
  refine n_iload_n c_0_381 rfl ?_
  refine n_iconst c_0_382 ?_
  refine n_iadd c_0_383 rfl ?_
  refine n_sld c_0_384 (by omega) (by omega) ea2 ?_
  refine n_v2I c_0_385 rfl sc_112.n rfl rfl rfl rfl (mlawXA_3 (k := a1) (s := a2) (gd := (M2 112 0)) hS2 (by omega) (by omega) (by omega) rfl) ?_
  intro z4 M5 hP6
  obtain ⟨hS5, f6, f6g0, f6p0⟩ := hP6
  obtain ⟨rl2, hzz⟩ := RLQ.law hd3 rl hS ⟨f3p0, f3p1⟩ f6p0
  refine n_pop c_0_388 ?_
  refine n_goto c_0_389 ?_
  exact h _ _ _ hd3 hS5 (by omega) rl2
set_option maxHeartbeats 4000000 in
theorem law6_3 {xs : List Int32} {ac : Int} {M : nM} {i a1 a2 a3 a4 : Int} (hS : Sf 3 ac M M) (hdm : M 112 0 = 3) (rl : RLQ 3 M) (hx : xs.length ≤ 2560) (hi : 0 ≤ i ∧ i + 5 ≤ (xs.length : Int)) (ea1 : (xs.getD (i + 1).toNat 0).toInt = a1) (ea2 : (xs.getD (i + 2).toNat 0).toInt = a2) (ea3 : (xs.getD (i + 3).toNat 0).toInt = a3) (ea4 : (xs.getD (i + 4).toNat 0).toInt = a4) (ra1 : -2147483648 ≤ a1 ∧ a1 ≤ 2147483647) (ra2 : -2147483648 ≤ a2 ∧ a2 ≤ 2147483647) (ra3 : -2147483648 ≤ a3 ∧ a3 ≤ 2147483647) (ra4 : -2147483648 ≤ a4 ∧ a4 ≤ 2147483647) (h : ∀ (d2 ac2 : Int) (M2 : nM), (d2 = 2 ∨ d2 = 3) → Sf d2 ac2 M2 M2 → M2 112 0 = d2 → RLQ d2 M2 → nW xs 60 0 991 [some (2, 2), some (2, 3), some (2, 112), some (0, i)] [] M2 (nPI fun z M1 => z = 1)) : nW xs 60 0 392 [some (2, 2), some (2, 3), some (2, 112), some (0, i)] [] M (nPI fun z M1 => z = 1) := by
  have hd2 : (2 : Int) = 2 ∨ (2 : Int) = 3 := by decide
  have hd3 : (3 : Int) = 2 ∨ (3 : Int) = 3 := by decide
  have hac := hS.2.2.2.2
  refine n_aload_n c_0_392 rfl ?_
  refine n_aload_n c_0_393 rfl ?_
  refine n_iload_n c_0_394 rfl ?_
  refine n_iconst c_0_395 ?_
  refine n_iadd c_0_396 rfl ?_
  refine n_sld c_0_397 (by omega) (by omega) ea1 ?_
  refine n_aload_n c_0_398 rfl ?_
  refine n_iload_n c_0_399 rfl ?_
  refine n_iconst c_0_400 ?_
  refine n_iadd c_0_401 rfl ?_
  refine n_sld c_0_402 (by omega) (by omega) ea2 ?_
  refine n_v2I c_0_403 rfl sc_3.n rfl rfl rfl rfl (at_3 (a := a1) (r := a2) hS (by omega) (by omega)) ?_
  intro z1 M2 hP3
  obtain ⟨eM, f3⟩ := hP3
  subst eM
  refine n_pop c_0_406 ?_
  refine n_aload_n c_0_407 rfl ?_
  refine n_aload_n c_0_408 rfl ?_
  refine n_iload_n c_0_409 rfl ?_
  refine n_iconst c_0_410 ?_
  refine n_iadd c_0_411 rfl ?_
  refine n_sld c_0_412 (by omega) (by omega) ea1 ?_
  refine n_aload_n c_0_413 rfl ?_
  refine n_iload_n c_0_414 rfl ?_
  refine n_iconst c_0_415 ?_
  refine n_iadd c_0_416 rfl ?_
  refine n_sld c_0_417 (by omega) (by omega) ea2 ?_
  refine n_v2I c_0_418 rfl sc_112.n rfl rfl rfl rfl (mat_3 (a := a1) (r := a2) hS (by omega) (by omega) (by omega)) ?_
  intro z4 M5 hP6
  obtain ⟨eM, f6⟩ := hP6
  subst eM
  refine n_pop c_0_421 ?_
  refine n_goto c_0_422 ?_
  exact h _ _ _ hd3 hS (by omega) rl
set_option maxHeartbeats 4000000 in
theorem law7_3 {xs : List Int32} {ac : Int} {M : nM} {i a1 a2 a3 a4 : Int} (hS : Sf 3 ac M M) (hdm : M 112 0 = 3) (rl : RLQ 3 M) (hx : xs.length ≤ 2560) (hi : 0 ≤ i ∧ i + 5 ≤ (xs.length : Int)) (ea1 : (xs.getD (i + 1).toNat 0).toInt = a1) (ea2 : (xs.getD (i + 2).toNat 0).toInt = a2) (ea3 : (xs.getD (i + 3).toNat 0).toInt = a3) (ea4 : (xs.getD (i + 4).toNat 0).toInt = a4) (ra1 : -2147483648 ≤ a1 ∧ a1 ≤ 2147483647) (ra2 : -2147483648 ≤ a2 ∧ a2 ≤ 2147483647) (ra3 : -2147483648 ≤ a3 ∧ a3 ≤ 2147483647) (ra4 : -2147483648 ≤ a4 ∧ a4 ≤ 2147483647) (h : ∀ (d2 ac2 : Int) (M2 : nM), (d2 = 2 ∨ d2 = 3) → Sf d2 ac2 M2 M2 → M2 112 0 = d2 → RLQ d2 M2 → nW xs 60 0 991 [some (2, 2), some (2, 3), some (2, 112), some (0, i)] [] M2 (nPI fun z M1 => z = 1)) : nW xs 60 0 425 [some (2, 2), some (2, 3), some (2, 112), some (0, i)] [] M (nPI fun z M1 => z = 1) := by
  have hd2 : (2 : Int) = 2 ∨ (2 : Int) = 3 := by decide
  have hd3 : (3 : Int) = 2 ∨ (3 : Int) = 3 := by decide
  have hac := hS.2.2.2.2
  refine n_aload_n c_0_425 rfl ?_
  refine n_aload_n c_0_426 rfl ?_
  refine n_iload_n c_0_427 rfl ?_
  refine n_iconst c_0_428 ?_
  refine n_iadd c_0_429 rfl ?_
  refine n_sld c_0_430 (by omega) (by omega) ea1 ?_
  refine n_v1J c_0_431 rfl sc_3.n rfl rfl rfl rfl (lawOf_3 (l := a1) hS (by omega)) ?_
  intro z1 M2 hP3
  obtain ⟨eM, f3⟩ := hP3
  subst eM
  refine n_pop2 c_0_434 ?_
  refine n_aload_n c_0_435 rfl ?_
  refine n_aload_n c_0_436 rfl ?_
  refine n_iload_n c_0_437 rfl ?_
  refine n_iconst c_0_438 ?_
  refine n_iadd c_0_439 rfl ?_
  refine n_sld c_0_440 (by omega) (by omega) ea1 ?_
  refine n_v1J c_0_441 rfl sc_112.n rfl rfl rfl rfl (mlawOf_3 (l := a1) hS (by omega) (by omega)) ?_
  intro z4 M5 hP6
  obtain ⟨eM, f6⟩ := hP6
  subst eM
  refine n_pop2 c_0_444 ?_
  refine n_goto c_0_445 ?_
  exact h _ _ _ hd3 hS (by omega) rl
set_option maxHeartbeats 4000000 in
theorem law8_3 {xs : List Int32} {ac : Int} {M : nM} {i a1 a2 a3 a4 : Int} (hS : Sf 3 ac M M) (hdm : M 112 0 = 3) (rl : RLQ 3 M) (hx : xs.length ≤ 2560) (hi : 0 ≤ i ∧ i + 5 ≤ (xs.length : Int)) (ea1 : (xs.getD (i + 1).toNat 0).toInt = a1) (ea2 : (xs.getD (i + 2).toNat 0).toInt = a2) (ea3 : (xs.getD (i + 3).toNat 0).toInt = a3) (ea4 : (xs.getD (i + 4).toNat 0).toInt = a4) (ra1 : -2147483648 ≤ a1 ∧ a1 ≤ 2147483647) (ra2 : -2147483648 ≤ a2 ∧ a2 ≤ 2147483647) (ra3 : -2147483648 ≤ a3 ∧ a3 ≤ 2147483647) (ra4 : -2147483648 ≤ a4 ∧ a4 ≤ 2147483647) (h : ∀ (d2 ac2 : Int) (M2 : nM), (d2 = 2 ∨ d2 = 3) → Sf d2 ac2 M2 M2 → M2 112 0 = d2 → RLQ d2 M2 → nW xs 60 0 991 [some (2, 2), some (2, 3), some (2, 112), some (0, i)] [] M2 (nPI fun z M1 => z = 1)) : nW xs 60 0 448 [some (2, 2), some (2, 3), some (2, 112), some (0, i)] [] M (nPI fun z M1 => z = 1) := by
  have hd2 : (2 : Int) = 2 ∨ (2 : Int) = 3 := by decide
  have hd3 : (3 : Int) = 2 ∨ (3 : Int) = 3 := by decide
  have hac := hS.2.2.2.2
  refine n_aload_n c_0_448 rfl ?_
  refine n_aload_n c_0_449 rfl ?_
  refine n_iload_n c_0_450 rfl ?_
  refine n_iconst c_0_451 ?_
  refine n_iadd c_0_452 rfl ?_
  refine n_sld c_0_453 (by omega) (by omega) ea1 ?_
  refine n_aload_n c_0_454 rfl ?_
  refine n_iload_n c_0_455 rfl ?_
  refine n_iconst c_0_456 ?_
  refine n_iadd c_0_457 rfl ?_
  refine n_sld c_0_458 (by omega) (by omega) ea2 ?_
  refine n_v2I c_0_459 rfl sc_3.n rfl rfl rfl rfl (keeps_3 (a := a1) (l := a2) hS (by omega) (by omega)) ?_
  intro z1 M2 hP3
  obtain ⟨hS2, f3⟩ := hP3
  have hS2c := hS2.2.2.2.1.1
  have hS2 := hS2.refl
  have hS2k0 := hS2c 112 0 (by unfold core; omega)
  have rl4 := RLQ.of rl hd3 hS hS2c
  refine n_pop c_0_462 ?_
  refine n_aload_n c_0_463 rfl ?_
  refine n_aload_n c_0_464 rfl ?_
  refine n_iload_n c_0_465 rfl ?_
  refine n_iconst c_0_466 ?_
  refine n_iadd c_0_467 rfl ?_
  refine n_sld c_0_468 (by omega) (by omega) ea1 ?_
  refine n_aload_n c_0_469 rfl ?_
  refine n_iload_n c_0_470 rfl ?_
  refine n_iconst c_0_471 ?_
  refine n_iadd c_0_472 rfl ?_
  refine n_sld c_0_473 (by omega) (by omega) ea2 ?_
  refine n_v2I c_0_474 rfl sc_112.n rfl rfl rfl rfl (mkeeps_3 (a := a1) (l := a2) hS2 (by omega) (by omega) (by omega)) ?_
  intro z5 M6 hP7
  obtain ⟨eM, f7⟩ := hP7
  subst eM
  refine n_pop c_0_477 ?_
  refine n_goto c_0_478 ?_
  exact h _ _ _ hd3 hS2 (by omega) rl4
set_option maxHeartbeats 4000000 in
theorem law9_3 {xs : List Int32} {ac : Int} {M : nM} {i a1 a2 a3 a4 : Int} (hS : Sf 3 ac M M) (hdm : M 112 0 = 3) (rl : RLQ 3 M) (hx : xs.length ≤ 2560) (hi : 0 ≤ i ∧ i + 5 ≤ (xs.length : Int)) (ea1 : (xs.getD (i + 1).toNat 0).toInt = a1) (ea2 : (xs.getD (i + 2).toNat 0).toInt = a2) (ea3 : (xs.getD (i + 3).toNat 0).toInt = a3) (ea4 : (xs.getD (i + 4).toNat 0).toInt = a4) (ra1 : -2147483648 ≤ a1 ∧ a1 ≤ 2147483647) (ra2 : -2147483648 ≤ a2 ∧ a2 ≤ 2147483647) (ra3 : -2147483648 ≤ a3 ∧ a3 ≤ 2147483647) (ra4 : -2147483648 ≤ a4 ∧ a4 ≤ 2147483647) (h : ∀ (d2 ac2 : Int) (M2 : nM), (d2 = 2 ∨ d2 = 3) → Sf d2 ac2 M2 M2 → M2 112 0 = d2 → RLQ d2 M2 → nW xs 60 0 991 [some (2, 2), some (2, 3), some (2, 112), some (0, i)] [] M2 (nPI fun z M1 => z = 1)) : nW xs 60 0 481 [some (2, 2), some (2, 3), some (2, 112), some (0, i)] [] M (nPI fun z M1 => z = 1) := by
  have hd2 : (2 : Int) = 2 ∨ (2 : Int) = 3 := by decide
  have hd3 : (3 : Int) = 2 ∨ (3 : Int) = 3 := by decide
  have hac := hS.2.2.2.2
  refine n_aload_n c_0_481 rfl ?_
  refine n_aload_n c_0_482 rfl ?_
  refine n_iload_n c_0_483 rfl ?_
  refine n_iconst c_0_484 ?_
  refine n_iadd c_0_485 rfl ?_
  refine n_sld c_0_486 (by omega) (by omega) ea1 ?_
  refine n_v1J c_0_487 rfl sc_3.n rfl rfl rfl rfl (closed_3 (l := a1) hS (by omega)) ?_
  intro z1 M2 hP3
  obtain ⟨hS2, f3⟩ := hP3
  have hS2c := hS2.2.2.2.1.1
  have hS2 := hS2.refl
  have hS2k0 := hS2c 112 0 (by unfold core; omega)
  have rl4 := RLQ.of rl hd3 hS hS2c
  refine n_pop2 c_0_490 ?_
  refine n_aload_n c_0_491 rfl ?_
  refine n_aload_n c_0_492 rfl ?_
  refine n_iload_n c_0_493 rfl ?_
  refine n_iconst c_0_494 ?_
  refine n_iadd c_0_495 rfl ?_
  refine n_sld c_0_496 (by omega) (by omega) ea1 ?_
  refine n_v1J c_0_497 rfl sc_112.n rfl rfl rfl rfl (mclosed_3 (l := a1) hS2 (by omega) (by omega)) ?_
  intro z5 M6 hP7
  obtain ⟨eM, f7⟩ := hP7
  subst eM
  refine n_pop2 c_0_500 ?_
  refine n_goto c_0_501 ?_
  exact h _ _ _ hd3 hS2 (by omega) rl4
set_option maxHeartbeats 4000000 in
theorem law10_3 {xs : List Int32} {ac : Int} {M : nM} {i a1 a2 a3 a4 : Int} (hS : Sf 3 ac M M) (hdm : M 112 0 = 3) (rl : RLQ 3 M) (hx : xs.length ≤ 2560) (hi : 0 ≤ i ∧ i + 5 ≤ (xs.length : Int)) (ea1 : (xs.getD (i + 1).toNat 0).toInt = a1) (ea2 : (xs.getD (i + 2).toNat 0).toInt = a2) (ea3 : (xs.getD (i + 3).toNat 0).toInt = a3) (ea4 : (xs.getD (i + 4).toNat 0).toInt = a4) (ra1 : -2147483648 ≤ a1 ∧ a1 ≤ 2147483647) (ra2 : -2147483648 ≤ a2 ∧ a2 ≤ 2147483647) (ra3 : -2147483648 ≤ a3 ∧ a3 ≤ 2147483647) (ra4 : -2147483648 ≤ a4 ∧ a4 ≤ 2147483647) (h : ∀ (d2 ac2 : Int) (M2 : nM), (d2 = 2 ∨ d2 = 3) → Sf d2 ac2 M2 M2 → M2 112 0 = d2 → RLQ d2 M2 → nW xs 60 0 991 [some (2, 2), some (2, 3), some (2, 112), some (0, i)] [] M2 (nPI fun z M1 => z = 1)) : nW xs 60 0 504 [some (2, 2), some (2, 3), some (2, 112), some (0, i)] [] M (nPI fun z M1 => z = 1) := by
  have hd2 : (2 : Int) = 2 ∨ (2 : Int) = 3 := by decide
  have hd3 : (3 : Int) = 2 ∨ (3 : Int) = 3 := by decide
  have hac := hS.2.2.2.2
  refine n_aload_n c_0_504 rfl ?_
  refine n_aload_n c_0_505 rfl ?_
  refine n_iload_n c_0_506 rfl ?_
  refine n_iconst c_0_507 ?_
  refine n_iadd c_0_508 rfl ?_
  refine n_sld c_0_509 (by omega) (by omega) ea1 ?_
  refine n_v1I c_0_510 rfl sc_3.n rfl rfl rfl rfl (laws_3 (k := a1) hS (by omega)) ?_
  intro z1 M2 hP3
  obtain ⟨hS2, f3⟩ := hP3
  have hS2c := hS2.2.2.2.1.1
  have hS2 := hS2.refl
  have hS2k0 := hS2c 112 0 (by unfold core; omega)
  have rl4 := RLQ.of rl hd3 hS hS2c
  refine n_pop c_0_513 ?_
  refine n_aload_n c_0_514 rfl ?_
  refine n_aload_n c_0_515 rfl ?_
  refine n_iload_n c_0_516 rfl ?_
  refine n_iconst c_0_517 ?_
  refine n_iadd c_0_518 rfl ?_
  refine n_sld c_0_519 (by omega) (by omega) ea1 ?_
  refine n_v1I c_0_520 rfl sc_112.n rfl rfl rfl rfl (mlaws_3 (k := a1) hS2 (by omega) (by omega)) ?_
  intro z5 M6 hP7
  obtain ⟨eM, f7⟩ := hP7
  subst eM
  refine n_pop c_0_523 ?_
  refine n_goto c_0_524 ?_
  exact h _ _ _ hd3 hS2 (by omega) rl4
set_option maxHeartbeats 4000000 in
theorem law11_3 {xs : List Int32} {ac : Int} {M : nM} {i a1 a2 a3 a4 : Int} (hS : Sf 3 ac M M) (hdm : M 112 0 = 3) (rl : RLQ 3 M) (hx : xs.length ≤ 2560) (hi : 0 ≤ i ∧ i + 5 ≤ (xs.length : Int)) (ea1 : (xs.getD (i + 1).toNat 0).toInt = a1) (ea2 : (xs.getD (i + 2).toNat 0).toInt = a2) (ea3 : (xs.getD (i + 3).toNat 0).toInt = a3) (ea4 : (xs.getD (i + 4).toNat 0).toInt = a4) (ra1 : -2147483648 ≤ a1 ∧ a1 ≤ 2147483647) (ra2 : -2147483648 ≤ a2 ∧ a2 ≤ 2147483647) (ra3 : -2147483648 ≤ a3 ∧ a3 ≤ 2147483647) (ra4 : -2147483648 ≤ a4 ∧ a4 ≤ 2147483647) (h : ∀ (d2 ac2 : Int) (M2 : nM), (d2 = 2 ∨ d2 = 3) → Sf d2 ac2 M2 M2 → M2 112 0 = d2 → RLQ d2 M2 → nW xs 60 0 991 [some (2, 2), some (2, 3), some (2, 112), some (0, i)] [] M2 (nPI fun z M1 => z = 1)) : nW xs 60 0 527 [some (2, 2), some (2, 3), some (2, 112), some (0, i)] [] M (nPI fun z M1 => z = 1) := by
  have hd2 : (2 : Int) = 2 ∨ (2 : Int) = 3 := by decide
  have hd3 : (3 : Int) = 2 ∨ (3 : Int) = 3 := by decide
  have hac := hS.2.2.2.2
  refine n_aload_n c_0_527 rfl ?_
  refine n_aload_n c_0_528 rfl ?_
  refine n_iload_n c_0_529 rfl ?_
  refine n_iconst c_0_530 ?_
  refine n_iadd c_0_531 rfl ?_
  refine n_sld c_0_532 (by omega) (by omega) ea1 ?_
  refine n_v1I c_0_533 rfl sc_3.n rfl rfl rfl rfl (made_3 (n := a1) hS (by omega)) ?_
  intro z1 M2 hP3
  obtain ⟨hS2, f3⟩ := hP3
  have hS2c := hS2.2.2.2.1.1
  have hS2 := hS2.refl
  have hS2k0 := hS2c 112 0 (by unfold core; omega)
  have rl4 := RLQ.of rl hd3 hS hS2c
  refine n_pop c_0_536 ?_
  refine n_aload_n c_0_537 rfl ?_
  refine n_aload_n c_0_538 rfl ?_
  refine n_iload_n c_0_539 rfl ?_
  refine n_iconst c_0_540 ?_
  refine n_iadd c_0_541 rfl ?_
  refine n_sld c_0_542 (by omega) (by omega) ea1 ?_
  refine n_v1I c_0_543 rfl sc_112.n rfl rfl rfl rfl (mmade_3 (n := a1) hS2 (by omega) (by omega)) ?_
  intro z5 M6 hP7
  obtain ⟨hS6, f7⟩ := hP7
  have hS6c := hS6.2.2.2.1.1
  have hS6 := hS6.refl
  have hS6k0 := hS6c 112 0 (by unfold core; omega)
  have rl8 := RLQ.of rl4 hd3 hS2 hS6c
  refine n_pop c_0_546 ?_
  refine n_goto c_0_547 ?_
  exact h _ _ _ hd3 hS6 (by omega) rl8
set_option maxHeartbeats 4000000 in
theorem law12_3 {xs : List Int32} {ac : Int} {M : nM} {i a1 a2 a3 a4 : Int} (hS : Sf 3 ac M M) (hdm : M 112 0 = 3) (rl : RLQ 3 M) (hx : xs.length ≤ 2560) (hi : 0 ≤ i ∧ i + 5 ≤ (xs.length : Int)) (ea1 : (xs.getD (i + 1).toNat 0).toInt = a1) (ea2 : (xs.getD (i + 2).toNat 0).toInt = a2) (ea3 : (xs.getD (i + 3).toNat 0).toInt = a3) (ea4 : (xs.getD (i + 4).toNat 0).toInt = a4) (ra1 : -2147483648 ≤ a1 ∧ a1 ≤ 2147483647) (ra2 : -2147483648 ≤ a2 ∧ a2 ≤ 2147483647) (ra3 : -2147483648 ≤ a3 ∧ a3 ≤ 2147483647) (ra4 : -2147483648 ≤ a4 ∧ a4 ≤ 2147483647) (h : ∀ (d2 ac2 : Int) (M2 : nM), (d2 = 2 ∨ d2 = 3) → Sf d2 ac2 M2 M2 → M2 112 0 = d2 → RLQ d2 M2 → nW xs 60 0 991 [some (2, 2), some (2, 3), some (2, 112), some (0, i)] [] M2 (nPI fun z M1 => z = 1)) : nW xs 60 0 550 [some (2, 2), some (2, 3), some (2, 112), some (0, i)] [] M (nPI fun z M1 => z = 1) := by
  have hd2 : (2 : Int) = 2 ∨ (2 : Int) = 3 := by decide
  have hd3 : (3 : Int) = 2 ∨ (3 : Int) = 3 := by decide
  have hac := hS.2.2.2.2
  refine n_aload_n c_0_550 rfl ?_
  refine n_aload_n c_0_551 rfl ?_
  refine n_iload_n c_0_552 rfl ?_
  refine n_iconst c_0_553 ?_
  refine n_iadd c_0_554 rfl ?_
  refine n_sld c_0_555 (by omega) (by omega) ea1 ?_
  refine n_aload_n c_0_556 rfl ?_
  refine n_iload_n c_0_557 rfl ?_
  refine n_iconst c_0_558 ?_
  refine n_iadd c_0_559 rfl ?_
  refine n_sld c_0_560 (by omega) (by omega) ea2 ?_
  refine n_aload_n c_0_561 rfl ?_
  refine n_iload_n c_0_562 rfl ?_
  refine n_iconst c_0_563 ?_
  refine n_iadd c_0_564 rfl ?_
  refine n_sld c_0_565 (by omega) (by omega) ea3 ?_
  refine n_v3I c_0_566 rfl sc_3.n rfl rfl rfl rfl (madeOf_3 (n := a1) (i := a2) (w := a3) hS (by omega) (by omega) (by omega)) ?_
  intro z1 M2 hP3
  obtain ⟨hS2, f3⟩ := hP3
  have hS2c := hS2.2.2.2.1.1
  have hS2 := hS2.refl
  have hS2k0 := hS2c 112 0 (by unfold core; omega)
  have rl4 := RLQ.of rl hd3 hS hS2c
  refine n_pop c_0_569 ?_
  refine n_aload_n c_0_570 rfl ?_
  refine n_aload_n c_0_571 rfl ?_
  refine n_iload_n c_0_572 rfl ?_
  refine n_iconst c_0_573 ?_
  refine n_iadd c_0_574 rfl ?_
  refine n_sld c_0_575 (by omega) (by omega) ea1 ?_
  refine n_aload_n c_0_576 rfl ?_
  refine n_iload_n c_0_577 rfl ?_
  refine n_iconst c_0_578 ?_
  refine n_iadd c_0_579 rfl ?_
  refine n_sld c_0_580 (by omega) (by omega) ea2 ?_
  refine n_aload_n c_0_581 rfl ?_
  refine n_iload_n c_0_582 rfl ?_
  refine n_iconst c_0_583 ?_
  refine n_iadd c_0_584 rfl ?_
  refine n_sld c_0_585 (by omega) (by omega) ea3 ?_
  refine n_v3I c_0_586 rfl sc_112.n rfl rfl rfl rfl (mmadeOf_3 (n := a1) (i := a2) (w := a3) hS2 (by omega) (by omega) (by omega) (by omega)) ?_
  intro z5 M6 hP7
  obtain ⟨hS6, f7⟩ := hP7
  have hS6c := hS6.2.2.2.1.1
  have hS6 := hS6.refl
  have hS6k0 := hS6c 112 0 (by unfold core; omega)
  have rl8 := RLQ.of rl4 hd3 hS2 hS6c
  refine n_pop c_0_589 ?_
  refine n_goto c_0_590 ?_
  exact h _ _ _ hd3 hS6 (by omega) rl8
set_option maxHeartbeats 4000000 in
theorem law13_3 {xs : List Int32} {ac : Int} {M : nM} {i a1 a2 a3 a4 : Int} (hS : Sf 3 ac M M) (hdm : M 112 0 = 3) (rl : RLQ 3 M) (hx : xs.length ≤ 2560) (hi : 0 ≤ i ∧ i + 5 ≤ (xs.length : Int)) (ea1 : (xs.getD (i + 1).toNat 0).toInt = a1) (ea2 : (xs.getD (i + 2).toNat 0).toInt = a2) (ea3 : (xs.getD (i + 3).toNat 0).toInt = a3) (ea4 : (xs.getD (i + 4).toNat 0).toInt = a4) (ra1 : -2147483648 ≤ a1 ∧ a1 ≤ 2147483647) (ra2 : -2147483648 ≤ a2 ∧ a2 ≤ 2147483647) (ra3 : -2147483648 ≤ a3 ∧ a3 ≤ 2147483647) (ra4 : -2147483648 ≤ a4 ∧ a4 ≤ 2147483647) (h : ∀ (d2 ac2 : Int) (M2 : nM), (d2 = 2 ∨ d2 = 3) → Sf d2 ac2 M2 M2 → M2 112 0 = d2 → RLQ d2 M2 → nW xs 60 0 991 [some (2, 2), some (2, 3), some (2, 112), some (0, i)] [] M2 (nPI fun z M1 => z = 1)) : nW xs 60 0 593 [some (2, 2), some (2, 3), some (2, 112), some (0, i)] [] M (nPI fun z M1 => z = 1) := by
  have hd2 : (2 : Int) = 2 ∨ (2 : Int) = 3 := by decide
  have hd3 : (3 : Int) = 2 ∨ (3 : Int) = 3 := by decide
  have hac := hS.2.2.2.2
  refine n_aload_n c_0_593 rfl ?_
  refine n_aload_n c_0_594 rfl ?_
  refine n_iload_n c_0_595 rfl ?_
  refine n_iconst c_0_596 ?_
  refine n_iadd c_0_597 rfl ?_
  refine n_sld c_0_598 (by omega) (by omega) ea1 ?_
  refine n_aload_n c_0_599 rfl ?_
  refine n_iload_n c_0_600 rfl ?_
  refine n_iconst c_0_601 ?_
  refine n_iadd c_0_602 rfl ?_
  refine n_sld c_0_603 (by omega) (by omega) ea2 ?_
  refine n_v2I c_0_604 rfl sc_3.n rfl rfl rfl rfl (size_3 (n := a1) (c := a2) hS (by omega) (by omega)) ?_
  intro z1 M2 hP3
  obtain ⟨hS2, f3⟩ := hP3
  have hS2c := hS2.2.2.2.1.1
  have hS2 := hS2.refl
  have hS2k0 := hS2c 112 0 (by unfold core; omega)
  have rl4 := RLQ.of rl hd3 hS hS2c
  refine n_pop c_0_607 ?_
  refine n_aload_n c_0_608 rfl ?_
  refine n_aload_n c_0_609 rfl ?_
  refine n_iload_n c_0_610 rfl ?_
  refine n_iconst c_0_611 ?_
  refine n_iadd c_0_612 rfl ?_
  refine n_sld c_0_613 (by omega) (by omega) ea1 ?_
  refine n_aload_n c_0_614 rfl ?_
  refine n_iload_n c_0_615 rfl ?_
  refine n_iconst c_0_616 ?_
  refine n_iadd c_0_617 rfl ?_
  refine n_sld c_0_618 (by omega) (by omega) ea2 ?_
  refine n_v2I c_0_619 rfl sc_112.n rfl rfl rfl rfl (msize_3 (n := a1) (c := a2) hS2 (by omega) (by omega) (by omega)) ?_
  intro z5 M6 hP7
  obtain ⟨hS6, f7⟩ := hP7
  have hS6c := hS6.2.2.2.1.1
  have hS6 := hS6.refl
  have hS6k0 := hS6c 112 0 (by unfold core; omega)
  have rl8 := RLQ.of rl4 hd3 hS2 hS6c
  refine n_pop c_0_622 ?_
  refine n_goto c_0_623 ?_
  exact h _ _ _ hd3 hS6 (by omega) rl8
set_option maxHeartbeats 4000000 in
theorem law14_3 {xs : List Int32} {ac : Int} {M : nM} {i a1 a2 a3 a4 : Int} (hS : Sf 3 ac M M) (hdm : M 112 0 = 3) (rl : RLQ 3 M) (hx : xs.length ≤ 2560) (hi : 0 ≤ i ∧ i + 5 ≤ (xs.length : Int)) (ea1 : (xs.getD (i + 1).toNat 0).toInt = a1) (ea2 : (xs.getD (i + 2).toNat 0).toInt = a2) (ea3 : (xs.getD (i + 3).toNat 0).toInt = a3) (ea4 : (xs.getD (i + 4).toNat 0).toInt = a4) (ra1 : -2147483648 ≤ a1 ∧ a1 ≤ 2147483647) (ra2 : -2147483648 ≤ a2 ∧ a2 ≤ 2147483647) (ra3 : -2147483648 ≤ a3 ∧ a3 ≤ 2147483647) (ra4 : -2147483648 ≤ a4 ∧ a4 ≤ 2147483647) (h : ∀ (d2 ac2 : Int) (M2 : nM), (d2 = 2 ∨ d2 = 3) → Sf d2 ac2 M2 M2 → M2 112 0 = d2 → RLQ d2 M2 → nW xs 60 0 991 [some (2, 2), some (2, 3), some (2, 112), some (0, i)] [] M2 (nPI fun z M1 => z = 1)) : nW xs 60 0 626 [some (2, 2), some (2, 3), some (2, 112), some (0, i)] [] M (nPI fun z M1 => z = 1) := by
  have hd2 : (2 : Int) = 2 ∨ (2 : Int) = 3 := by decide
  have hd3 : (3 : Int) = 2 ∨ (3 : Int) = 3 := by decide
  have hac := hS.2.2.2.2
  rcases (show (-2147483648 ≤ a2 ∧ a2 ≤ 0) ∨ a2 = 1 ∨ a2 = 2 ∨ (3 ≤ a2 ∧ a2 ≤ 2147483647) by omega) with hq | rfl | rfl | hq
  · skip
    refine n_aload_n c_0_626 rfl ?_
    refine n_aload_n c_0_627 rfl ?_
    refine n_iload_n c_0_628 rfl ?_
    refine n_iconst c_0_629 ?_
    refine n_iadd c_0_630 rfl ?_
    refine n_sld c_0_631 (by omega) (by omega) ea1 ?_
    refine n_aload_n c_0_632 rfl ?_
    refine n_iload_n c_0_633 rfl ?_
    refine n_iconst c_0_634 ?_
    refine n_iadd c_0_635 rfl ?_
    refine n_sld c_0_636 (by omega) (by omega) ea2 ?_
    refine n_v2I c_0_637 rfl sc_3.n rfl rfl rfl rfl (actsOfXL_3 (m := a1) (n := a2) hS (by omega) (by omega)) ?_
    intro z1 M2 hP3
    obtain ⟨eM, f3⟩ := hP3
    subst eM
    obtain rfl : z1 = (-1) := by omega
    refine n_pop c_0_640 ?_
    refine n_aload_n c_0_641 rfl ?_
    refine n_aload_n c_0_642 rfl ?_
    refine n_iload_n c_0_643 rfl ?_
    refine n_iconst c_0_644 ?_
    refine n_iadd c_0_645 rfl ?_
    refine n_sld c_0_646 (by omega) (by omega) ea1 ?_
    refine n_aload_n c_0_647 rfl ?_
    refine n_iload_n c_0_648 rfl ?_
    refine n_iconst c_0_649 ?_
    refine n_iadd c_0_650 rfl ?_
    refine n_sld c_0_651 (by omega) (by omega) ea2 ?_
    refine n_v2I c_0_652 rfl sc_112.n rfl rfl rfl rfl (mactsOfXL_3 (m := a1) (n := a2) hS (by omega) (by omega) (by omega)) ?_
    intro z4 M5 hP6
    obtain ⟨eM, f6⟩ := hP6
    subst eM
    obtain rfl : z4 = (-1) := by omega
    refine n_pop c_0_655 ?_
    refine n_goto c_0_656 ?_
    exact h _ _ _ hd3 hS (by omega) rl
  · skip
    refine n_aload_n c_0_626 rfl ?_
    refine n_aload_n c_0_627 rfl ?_
    refine n_iload_n c_0_628 rfl ?_
    refine n_iconst c_0_629 ?_
    refine n_iadd c_0_630 rfl ?_
    refine n_sld c_0_631 (by omega) (by omega) ea1 ?_
    refine n_aload_n c_0_632 rfl ?_
    refine n_iload_n c_0_633 rfl ?_
    refine n_iconst c_0_634 ?_
    refine n_iadd c_0_635 rfl ?_
    refine n_sld c_0_636 (by omega) (by omega) ea2 ?_
    refine n_v2I c_0_637 rfl sc_3.n rfl rfl rfl rfl (actsOfX1_3 (m := a1) (gd := (M 112 0)) (Ms := M) hS (by omega) rfl (by rfl) (by exact fun l h0 h1 => (rl.1.2 l h0 h1).1) (by exact fun u => ⟨(rl.2.1 1 (by omega) u).1, (rl.2.1 1 (by omega) u).2.2.2⟩)) ?_
    intro z1 M2 hP3
    obtain ⟨hS2, f3, f3g0, f3p0, f3p1⟩ := hP3
    have rlc := RLQ.kc hd3 rl hS f3p0
    refine n_pop c_0_640 ?_
    refine n_aload_n c_0_641 rfl ?_
    refine n_aload_n c_0_642 rfl ?_
    refine n_iload_n c_0_643 rfl ?_
    refine n_iconst c_0_644 ?_
    refine n_iadd c_0_645 rfl ?_
    refine n_sld c_0_646 (by omega) (by omega) ea1 ?_
    refine n_aload_n c_0_647 rfl ?_
    refine n_iload_n c_0_648 rfl ?_
    refine n_iconst c_0_649 ?_
    refine n_iadd c_0_650 rfl ?_
    refine n_sld c_0_651 (by omega) (by omega) ea2 ?_
    refine n_v2I c_0_652 rfl sc_112.n rfl rfl rfl rfl (mactsOfX1_3 (m := a1) (gd := (M2 112 0)) (Ms := M2) hS2 (by omega) (by omega) rfl (by rfl) (by exact fun u q => ⟨(rlc.2.2 1 u q).1, (rlc.2.2 1 u q).2.2⟩) (by exact RLX.hlp rlc.1)) ?_
    intro z4 M5 hP6
    obtain ⟨hS5, f6, f6g0, f6p0, f6p1⟩ := hP6
    have rlm := RLQ.mc hd3 rlc hS2 f6p0
    refine n_pop c_0_655 ?_
    refine n_goto c_0_656 ?_
    exact h _ _ _ hd3 hS5 (by omega) rlm
  · skip
    refine n_aload_n c_0_626 rfl ?_
    refine n_aload_n c_0_627 rfl ?_
    refine n_iload_n c_0_628 rfl ?_
    refine n_iconst c_0_629 ?_
    refine n_iadd c_0_630 rfl ?_
    refine n_sld c_0_631 (by omega) (by omega) ea1 ?_
    refine n_aload_n c_0_632 rfl ?_
    refine n_iload_n c_0_633 rfl ?_
    refine n_iconst c_0_634 ?_
    refine n_iadd c_0_635 rfl ?_
    refine n_sld c_0_636 (by omega) (by omega) ea2 ?_
    refine n_v2I c_0_637 rfl sc_3.n rfl rfl rfl rfl (actsOfX2_3 (m := a1) (gd := (M 112 0)) (Ms := M) hS (by omega) rfl (by rfl) (by exact fun l h0 h1 => (rl.1.2 l h0 h1).1) (by exact fun u => ⟨(rl.2.1 2 (by omega) u).1, (rl.2.1 2 (by omega) u).2.2.2⟩)) ?_
    intro z1 M2 hP3
    obtain ⟨hS2, f3, f3g0, f3p0, f3p1⟩ := hP3
    have rlc := RLQ.kc hd3 rl hS f3p0
    refine n_pop c_0_640 ?_
    refine n_aload_n c_0_641 rfl ?_
    refine n_aload_n c_0_642 rfl ?_
    refine n_iload_n c_0_643 rfl ?_
    refine n_iconst c_0_644 ?_
    refine n_iadd c_0_645 rfl ?_
    refine n_sld c_0_646 (by omega) (by omega) ea1 ?_
    refine n_aload_n c_0_647 rfl ?_
    refine n_iload_n c_0_648 rfl ?_
    refine n_iconst c_0_649 ?_
    refine n_iadd c_0_650 rfl ?_
    refine n_sld c_0_651 (by omega) (by omega) ea2 ?_
    refine n_v2I c_0_652 rfl sc_112.n rfl rfl rfl rfl (mactsOfX2_3 (m := a1) (gd := (M2 112 0)) (Ms := M2) hS2 (by omega) (by omega) rfl (by rfl) (by exact fun u q => ⟨(rlc.2.2 2 u q).1, (rlc.2.2 2 u q).2.2⟩) (by exact RLX.hlp rlc.1)) ?_
    intro z4 M5 hP6
    obtain ⟨hS5, f6, f6g0, f6p0, f6p1⟩ := hP6
    have rlm := RLQ.mc hd3 rlc hS2 f6p0
    refine n_pop c_0_655 ?_
    refine n_goto c_0_656 ?_
    exact h _ _ _ hd3 hS5 (by omega) rlm
  · skip
    refine n_aload_n c_0_626 rfl ?_
    refine n_aload_n c_0_627 rfl ?_
    refine n_iload_n c_0_628 rfl ?_
    refine n_iconst c_0_629 ?_
    refine n_iadd c_0_630 rfl ?_
    refine n_sld c_0_631 (by omega) (by omega) ea1 ?_
    refine n_aload_n c_0_632 rfl ?_
    refine n_iload_n c_0_633 rfl ?_
    refine n_iconst c_0_634 ?_
    refine n_iadd c_0_635 rfl ?_
    refine n_sld c_0_636 (by omega) (by omega) ea2 ?_
    refine n_v2I c_0_637 rfl sc_3.n rfl rfl rfl rfl (actsOfXH_3 (m := a1) (n := a2) hS (by omega) (by omega)) ?_
    intro z1 M2 hP3
    obtain ⟨eM, f3⟩ := hP3
    subst eM
    obtain rfl : z1 = (-1) := by omega
    refine n_pop c_0_640 ?_
    refine n_aload_n c_0_641 rfl ?_
    refine n_aload_n c_0_642 rfl ?_
    refine n_iload_n c_0_643 rfl ?_
    refine n_iconst c_0_644 ?_
    refine n_iadd c_0_645 rfl ?_
    refine n_sld c_0_646 (by omega) (by omega) ea1 ?_
    refine n_aload_n c_0_647 rfl ?_
    refine n_iload_n c_0_648 rfl ?_
    refine n_iconst c_0_649 ?_
    refine n_iadd c_0_650 rfl ?_
    refine n_sld c_0_651 (by omega) (by omega) ea2 ?_
    refine n_v2I c_0_652 rfl sc_112.n rfl rfl rfl rfl (mactsOfXH_3 (m := a1) (n := a2) hS (by omega) (by omega) (by omega)) ?_
    intro z4 M5 hP6
    obtain ⟨eM, f6⟩ := hP6
    subst eM
    obtain rfl : z4 = (-1) := by omega
    refine n_pop c_0_655 ?_
    refine n_goto c_0_656 ?_
    exact h _ _ _ hd3 hS (by omega) rl
set_option maxHeartbeats 4000000 in
theorem law15_3 {xs : List Int32} {ac : Int} {M : nM} {i a1 a2 a3 a4 : Int} (hS : Sf 3 ac M M) (hdm : M 112 0 = 3) (rl : RLQ 3 M) (hx : xs.length ≤ 2560) (hi : 0 ≤ i ∧ i + 5 ≤ (xs.length : Int)) (ea1 : (xs.getD (i + 1).toNat 0).toInt = a1) (ea2 : (xs.getD (i + 2).toNat 0).toInt = a2) (ea3 : (xs.getD (i + 3).toNat 0).toInt = a3) (ea4 : (xs.getD (i + 4).toNat 0).toInt = a4) (ra1 : -2147483648 ≤ a1 ∧ a1 ≤ 2147483647) (ra2 : -2147483648 ≤ a2 ∧ a2 ≤ 2147483647) (ra3 : -2147483648 ≤ a3 ∧ a3 ≤ 2147483647) (ra4 : -2147483648 ≤ a4 ∧ a4 ≤ 2147483647) (h : ∀ (d2 ac2 : Int) (M2 : nM), (d2 = 2 ∨ d2 = 3) → Sf d2 ac2 M2 M2 → M2 112 0 = d2 → RLQ d2 M2 → nW xs 60 0 991 [some (2, 2), some (2, 3), some (2, 112), some (0, i)] [] M2 (nPI fun z M1 => z = 1)) : nW xs 60 0 659 [some (2, 2), some (2, 3), some (2, 112), some (0, i)] [] M (nPI fun z M1 => z = 1) := by
  have hd2 : (2 : Int) = 2 ∨ (2 : Int) = 3 := by decide
  have hd3 : (3 : Int) = 2 ∨ (3 : Int) = 3 := by decide
  have hac := hS.2.2.2.2
  rcases (show (-2147483648 ≤ a2 ∧ a2 ≤ 0) ∨ a2 = 1 ∨ a2 = 2 ∨ (3 ≤ a2 ∧ a2 ≤ 2147483647) by omega) with hq | rfl | rfl | hq
  · skip
    refine n_aload_n c_0_659 rfl ?_
    refine n_aload_n c_0_660 rfl ?_
    refine n_iload_n c_0_661 rfl ?_
    refine n_iconst c_0_662 ?_
    refine n_iadd c_0_663 rfl ?_
    refine n_sld c_0_664 (by omega) (by omega) ea1 ?_
    refine n_aload_n c_0_665 rfl ?_
    refine n_iload_n c_0_666 rfl ?_
    refine n_iconst c_0_667 ?_
    refine n_iadd c_0_668 rfl ?_
    refine n_sld c_0_669 (by omega) (by omega) ea2 ?_
    refine n_aload_n c_0_670 rfl ?_
    refine n_iload_n c_0_671 rfl ?_
    refine n_iconst c_0_672 ?_
    refine n_iadd c_0_673 rfl ?_
    refine n_sld c_0_674 (by omega) (by omega) ea3 ?_
    refine n_v3I c_0_675 rfl sc_3.n rfl rfl rfl rfl (actOfXL_3 (m := a1) (n := a2) (i := a3) hS (by omega) (by omega) (by omega)) ?_
    intro z1 M2 hP3
    obtain ⟨eM, f3⟩ := hP3
    subst eM
    obtain rfl : z1 = (-1) := by omega
    refine n_aload_n c_0_678 rfl ?_
    refine n_aload_n c_0_679 rfl ?_
    refine n_iload_n c_0_680 rfl ?_
    refine n_iconst c_0_681 ?_
    refine n_iadd c_0_682 rfl ?_
    refine n_sld c_0_683 (by omega) (by omega) ea1 ?_
    refine n_aload_n c_0_684 rfl ?_
    refine n_iload_n c_0_685 rfl ?_
    refine n_iconst c_0_686 ?_
    refine n_iadd c_0_687 rfl ?_
    refine n_sld c_0_688 (by omega) (by omega) ea2 ?_
    refine n_aload_n c_0_689 rfl ?_
    refine n_iload_n c_0_690 rfl ?_
    refine n_iconst c_0_691 ?_
    refine n_iadd c_0_692 rfl ?_
    refine n_sld c_0_693 (by omega) (by omega) ea3 ?_
    refine n_v3I c_0_694 rfl sc_112.n rfl rfl rfl rfl (mactOfXL_3 (m := a1) (n := a2) (i := a3) hS (by omega) (by omega) (by omega) (by omega)) ?_
    intro z4 M5 hP6
    obtain ⟨eM, f6⟩ := hP6
    subst eM
    obtain rfl : z4 = (-1) := by omega
    refine n_if2_eq c_0_697 (by omega) (by omega) ?_ ?_
    · intro h7
      exact h _ _ _ hd3 hS (by omega) rl
    · intro h8
      exfalso; omega
  · skip
    refine n_aload_n c_0_659 rfl ?_
    refine n_aload_n c_0_660 rfl ?_
    refine n_iload_n c_0_661 rfl ?_
    refine n_iconst c_0_662 ?_
    refine n_iadd c_0_663 rfl ?_
    refine n_sld c_0_664 (by omega) (by omega) ea1 ?_
    refine n_aload_n c_0_665 rfl ?_
    refine n_iload_n c_0_666 rfl ?_
    refine n_iconst c_0_667 ?_
    refine n_iadd c_0_668 rfl ?_
    refine n_sld c_0_669 (by omega) (by omega) ea2 ?_
    refine n_aload_n c_0_670 rfl ?_
    refine n_iload_n c_0_671 rfl ?_
    refine n_iconst c_0_672 ?_
    refine n_iadd c_0_673 rfl ?_
    refine n_sld c_0_674 (by omega) (by omega) ea3 ?_
    refine n_v3I c_0_675 rfl sc_3.n rfl rfl rfl rfl (actOfX1_3 (m := a1) (i := a3) (gd := (M 112 0)) (Ms := M) hS (by omega) (by omega) rfl (by rfl) (by exact fun l h0 h1 => (rl.1.2 l h0 h1).1) (by exact fun u => ⟨(rl.2.1 1 (by omega) u).1, (rl.2.1 1 (by omega) u).2.2.2⟩)) ?_
    intro z1 M2 hP3
    obtain ⟨hS2, f3, f3g0, f3p0, f3p1⟩ := hP3
    have rlc := RLQ.kc hd3 rl hS f3p0
    refine n_aload_n c_0_678 rfl ?_
    refine n_aload_n c_0_679 rfl ?_
    refine n_iload_n c_0_680 rfl ?_
    refine n_iconst c_0_681 ?_
    refine n_iadd c_0_682 rfl ?_
    refine n_sld c_0_683 (by omega) (by omega) ea1 ?_
    refine n_aload_n c_0_684 rfl ?_
    refine n_iload_n c_0_685 rfl ?_
    refine n_iconst c_0_686 ?_
    refine n_iadd c_0_687 rfl ?_
    refine n_sld c_0_688 (by omega) (by omega) ea2 ?_
    refine n_aload_n c_0_689 rfl ?_
    refine n_iload_n c_0_690 rfl ?_
    refine n_iconst c_0_691 ?_
    refine n_iadd c_0_692 rfl ?_
    refine n_sld c_0_693 (by omega) (by omega) ea3 ?_
    refine n_v3I c_0_694 rfl sc_112.n rfl rfl rfl rfl (mactOfX1_3 (m := a1) (i := a3) (gd := (M2 112 0)) (Ms := M2) hS2 (by omega) (by omega) (by omega) rfl (by rfl) (by exact fun u q => ⟨(rlc.2.2 1 u q).1, (rlc.2.2 1 u q).2.2⟩) (by exact RLX.hlp rlc.1)) ?_
    intro z4 M5 hP6
    obtain ⟨hS5, f6, f6g0, f6p0, f6p1⟩ := hP6
    have rlm := RLQ.mc hd3 rlc hS2 f6p0
    have hzz := RLQ.io (by decide +kernel) rl f3p0 f3p1 f6p0 f6p1
    refine n_if2_eq c_0_697 (by omega) (by omega) ?_ ?_
    · intro h7
      exact h _ _ _ hd3 hS5 (by omega) rlm
    · intro h8
      exfalso; omega
  · skip
    refine n_aload_n c_0_659 rfl ?_
    refine n_aload_n c_0_660 rfl ?_
    refine n_iload_n c_0_661 rfl ?_
    refine n_iconst c_0_662 ?_
    refine n_iadd c_0_663 rfl ?_
    refine n_sld c_0_664 (by omega) (by omega) ea1 ?_
    refine n_aload_n c_0_665 rfl ?_
    refine n_iload_n c_0_666 rfl ?_
    refine n_iconst c_0_667 ?_
    refine n_iadd c_0_668 rfl ?_
    refine n_sld c_0_669 (by omega) (by omega) ea2 ?_
    refine n_aload_n c_0_670 rfl ?_
    refine n_iload_n c_0_671 rfl ?_
    refine n_iconst c_0_672 ?_
    refine n_iadd c_0_673 rfl ?_
    refine n_sld c_0_674 (by omega) (by omega) ea3 ?_
    refine n_v3I c_0_675 rfl sc_3.n rfl rfl rfl rfl (actOfX2_3 (m := a1) (i := a3) (gd := (M 112 0)) (Ms := M) hS (by omega) (by omega) rfl (by rfl) (by exact fun l h0 h1 => (rl.1.2 l h0 h1).1) (by exact fun u => ⟨(rl.2.1 2 (by omega) u).1, (rl.2.1 2 (by omega) u).2.2.2⟩)) ?_
    intro z1 M2 hP3
    obtain ⟨hS2, f3, f3g0, f3p0, f3p1⟩ := hP3
    have rlc := RLQ.kc hd3 rl hS f3p0
    refine n_aload_n c_0_678 rfl ?_
    refine n_aload_n c_0_679 rfl ?_
    refine n_iload_n c_0_680 rfl ?_
    refine n_iconst c_0_681 ?_
    refine n_iadd c_0_682 rfl ?_
    refine n_sld c_0_683 (by omega) (by omega) ea1 ?_
    refine n_aload_n c_0_684 rfl ?_
    refine n_iload_n c_0_685 rfl ?_
    refine n_iconst c_0_686 ?_
    refine n_iadd c_0_687 rfl ?_
    refine n_sld c_0_688 (by omega) (by omega) ea2 ?_
    refine n_aload_n c_0_689 rfl ?_
    refine n_iload_n c_0_690 rfl ?_
    refine n_iconst c_0_691 ?_
    refine n_iadd c_0_692 rfl ?_
    refine n_sld c_0_693 (by omega) (by omega) ea3 ?_
    refine n_v3I c_0_694 rfl sc_112.n rfl rfl rfl rfl (mactOfX2_3 (m := a1) (i := a3) (gd := (M2 112 0)) (Ms := M2) hS2 (by omega) (by omega) (by omega) rfl (by rfl) (by exact fun u q => ⟨(rlc.2.2 2 u q).1, (rlc.2.2 2 u q).2.2⟩) (by exact RLX.hlp rlc.1)) ?_
    intro z4 M5 hP6
    obtain ⟨hS5, f6, f6g0, f6p0, f6p1⟩ := hP6
    have rlm := RLQ.mc hd3 rlc hS2 f6p0
    have hzz := RLQ.io (by decide +kernel) rl f3p0 f3p1 f6p0 f6p1
    refine n_if2_eq c_0_697 (by omega) (by omega) ?_ ?_
    · intro h7
      exact h _ _ _ hd3 hS5 (by omega) rlm
    · intro h8
      exfalso; omega
  · skip
    refine n_aload_n c_0_659 rfl ?_
    refine n_aload_n c_0_660 rfl ?_
    refine n_iload_n c_0_661 rfl ?_
    refine n_iconst c_0_662 ?_
    refine n_iadd c_0_663 rfl ?_
    refine n_sld c_0_664 (by omega) (by omega) ea1 ?_
    refine n_aload_n c_0_665 rfl ?_
    refine n_iload_n c_0_666 rfl ?_
    refine n_iconst c_0_667 ?_
    refine n_iadd c_0_668 rfl ?_
    refine n_sld c_0_669 (by omega) (by omega) ea2 ?_
    refine n_aload_n c_0_670 rfl ?_
    refine n_iload_n c_0_671 rfl ?_
    refine n_iconst c_0_672 ?_
    refine n_iadd c_0_673 rfl ?_
    refine n_sld c_0_674 (by omega) (by omega) ea3 ?_
    refine n_v3I c_0_675 rfl sc_3.n rfl rfl rfl rfl (actOfXH_3 (m := a1) (n := a2) (i := a3) hS (by omega) (by omega) (by omega)) ?_
    intro z1 M2 hP3
    obtain ⟨eM, f3⟩ := hP3
    subst eM
    obtain rfl : z1 = (-1) := by omega
    refine n_aload_n c_0_678 rfl ?_
    refine n_aload_n c_0_679 rfl ?_
    refine n_iload_n c_0_680 rfl ?_
    refine n_iconst c_0_681 ?_
    refine n_iadd c_0_682 rfl ?_
    refine n_sld c_0_683 (by omega) (by omega) ea1 ?_
    refine n_aload_n c_0_684 rfl ?_
    refine n_iload_n c_0_685 rfl ?_
    refine n_iconst c_0_686 ?_
    refine n_iadd c_0_687 rfl ?_
    refine n_sld c_0_688 (by omega) (by omega) ea2 ?_
    refine n_aload_n c_0_689 rfl ?_
    refine n_iload_n c_0_690 rfl ?_
    refine n_iconst c_0_691 ?_
    refine n_iadd c_0_692 rfl ?_
    refine n_sld c_0_693 (by omega) (by omega) ea3 ?_
    refine n_v3I c_0_694 rfl sc_112.n rfl rfl rfl rfl (mactOfXH_3 (m := a1) (n := a2) (i := a3) hS (by omega) (by omega) (by omega) (by omega)) ?_
    intro z4 M5 hP6
    obtain ⟨eM, f6⟩ := hP6
    subst eM
    obtain rfl : z4 = (-1) := by omega
    refine n_if2_eq c_0_697 (by omega) (by omega) ?_ ?_
    · intro h7
      exact h _ _ _ hd3 hS (by omega) rl
    · intro h8
      exfalso; omega
set_option maxHeartbeats 4000000 in
theorem law16_3 {xs : List Int32} {ac : Int} {M : nM} {i a1 a2 a3 a4 : Int} (hS : Sf 3 ac M M) (hdm : M 112 0 = 3) (rl : RLQ 3 M) (hx : xs.length ≤ 2560) (hi : 0 ≤ i ∧ i + 5 ≤ (xs.length : Int)) (ea1 : (xs.getD (i + 1).toNat 0).toInt = a1) (ea2 : (xs.getD (i + 2).toNat 0).toInt = a2) (ea3 : (xs.getD (i + 3).toNat 0).toInt = a3) (ea4 : (xs.getD (i + 4).toNat 0).toInt = a4) (ra1 : -2147483648 ≤ a1 ∧ a1 ≤ 2147483647) (ra2 : -2147483648 ≤ a2 ∧ a2 ≤ 2147483647) (ra3 : -2147483648 ≤ a3 ∧ a3 ≤ 2147483647) (ra4 : -2147483648 ≤ a4 ∧ a4 ≤ 2147483647) (h : ∀ (d2 ac2 : Int) (M2 : nM), (d2 = 2 ∨ d2 = 3) → Sf d2 ac2 M2 M2 → M2 112 0 = d2 → RLQ d2 M2 → nW xs 60 0 991 [some (2, 2), some (2, 3), some (2, 112), some (0, i)] [] M2 (nPI fun z M1 => z = 1)) : nW xs 60 0 702 [some (2, 2), some (2, 3), some (2, 112), some (0, i)] [] M (nPI fun z M1 => z = 1) := by
  have hd2 : (2 : Int) = 2 ∨ (2 : Int) = 3 := by decide
  have hd3 : (3 : Int) = 2 ∨ (3 : Int) = 3 := by decide
  have hac := hS.2.2.2.2
  refine n_aload_n c_0_702 rfl ?_
  refine n_v0I c_0_703 rfl sc_3.n rfl rfl rfl rfl (heaps_3  hS ) ?_
  intro z1 M2 hP3
  obtain ⟨eM, f3⟩ := hP3
  subst eM
  refine n_pop c_0_706 ?_
  refine n_aload_n c_0_707 rfl ?_
  refine n_v0I c_0_708 rfl sc_112.n rfl rfl rfl rfl (mheaps_3  hS (by omega)) ?_
  intro z4 M5 hP6
  obtain ⟨eM, f6⟩ := hP6
  subst eM
  refine n_pop c_0_711 ?_
  refine n_goto c_0_712 ?_
  exact h _ _ _ hd3 hS (by omega) rl
set_option maxHeartbeats 4000000 in
theorem law17_3 {xs : List Int32} {ac : Int} {M : nM} {i a1 a2 a3 a4 : Int} (hS : Sf 3 ac M M) (hdm : M 112 0 = 3) (rl : RLQ 3 M) (hx : xs.length ≤ 2560) (hi : 0 ≤ i ∧ i + 5 ≤ (xs.length : Int)) (ea1 : (xs.getD (i + 1).toNat 0).toInt = a1) (ea2 : (xs.getD (i + 2).toNat 0).toInt = a2) (ea3 : (xs.getD (i + 3).toNat 0).toInt = a3) (ea4 : (xs.getD (i + 4).toNat 0).toInt = a4) (ra1 : -2147483648 ≤ a1 ∧ a1 ≤ 2147483647) (ra2 : -2147483648 ≤ a2 ∧ a2 ≤ 2147483647) (ra3 : -2147483648 ≤ a3 ∧ a3 ≤ 2147483647) (ra4 : -2147483648 ≤ a4 ∧ a4 ≤ 2147483647) (h : ∀ (d2 ac2 : Int) (M2 : nM), (d2 = 2 ∨ d2 = 3) → Sf d2 ac2 M2 M2 → M2 112 0 = d2 → RLQ d2 M2 → nW xs 60 0 991 [some (2, 2), some (2, 3), some (2, 112), some (0, i)] [] M2 (nPI fun z M1 => z = 1)) : nW xs 60 0 715 [some (2, 2), some (2, 3), some (2, 112), some (0, i)] [] M (nPI fun z M1 => z = 1) := by
  have hd2 : (2 : Int) = 2 ∨ (2 : Int) = 3 := by decide
  have hd3 : (3 : Int) = 2 ∨ (3 : Int) = 3 := by decide
  have hac := hS.2.2.2.2
  refine n_aload_n c_0_715 rfl ?_
  refine n_aload_n c_0_716 rfl ?_
  refine n_iload_n c_0_717 rfl ?_
  refine n_iconst c_0_718 ?_
  refine n_iadd c_0_719 rfl ?_
  refine n_sld c_0_720 (by omega) (by omega) ea1 ?_
  refine n_v1I c_0_721 rfl sc_3.n rfl rfl rfl rfl (heap_3 (m := a1) hS (by omega)) ?_
  intro z1 M2 hP3
  obtain ⟨eM, f3⟩ := hP3
  subst eM
  refine n_pop c_0_724 ?_
  refine n_aload_n c_0_725 rfl ?_
  refine n_aload_n c_0_726 rfl ?_
  refine n_iload_n c_0_727 rfl ?_
  refine n_iconst c_0_728 ?_
  refine n_iadd c_0_729 rfl ?_
  refine n_sld c_0_730 (by omega) (by omega) ea1 ?_
  refine n_v1I c_0_731 rfl sc_112.n rfl rfl rfl rfl (mheap_3 (m := a1) hS (by omega) (by omega)) ?_
  intro z4 M5 hP6
  obtain ⟨eM, f6⟩ := hP6
  subst eM
  refine n_pop c_0_734 ?_
  refine n_goto c_0_735 ?_
  exact h _ _ _ hd3 hS (by omega) rl
set_option maxHeartbeats 4000000 in
theorem law18_3 {xs : List Int32} {ac : Int} {M : nM} {i a1 a2 a3 a4 : Int} (hS : Sf 3 ac M M) (hdm : M 112 0 = 3) (rl : RLQ 3 M) (hx : xs.length ≤ 2560) (hi : 0 ≤ i ∧ i + 5 ≤ (xs.length : Int)) (ea1 : (xs.getD (i + 1).toNat 0).toInt = a1) (ea2 : (xs.getD (i + 2).toNat 0).toInt = a2) (ea3 : (xs.getD (i + 3).toNat 0).toInt = a3) (ea4 : (xs.getD (i + 4).toNat 0).toInt = a4) (ra1 : -2147483648 ≤ a1 ∧ a1 ≤ 2147483647) (ra2 : -2147483648 ≤ a2 ∧ a2 ≤ 2147483647) (ra3 : -2147483648 ≤ a3 ∧ a3 ≤ 2147483647) (ra4 : -2147483648 ≤ a4 ∧ a4 ≤ 2147483647) (h : ∀ (d2 ac2 : Int) (M2 : nM), (d2 = 2 ∨ d2 = 3) → Sf d2 ac2 M2 M2 → M2 112 0 = d2 → RLQ d2 M2 → nW xs 60 0 991 [some (2, 2), some (2, 3), some (2, 112), some (0, i)] [] M2 (nPI fun z M1 => z = 1)) : nW xs 60 0 738 [some (2, 2), some (2, 3), some (2, 112), some (0, i)] [] M (nPI fun z M1 => z = 1) := by
  have hd2 : (2 : Int) = 2 ∨ (2 : Int) = 3 := by decide
  have hd3 : (3 : Int) = 2 ∨ (3 : Int) = 3 := by decide
  have hac := hS.2.2.2.2
  refine n_aload_n c_0_738 rfl ?_
  refine n_v0I c_0_739 rfl sc_3.n rfl rfl rfl rfl (pairings_3  hS ) ?_
  intro z1 M2 hP3
  obtain ⟨eM, f3⟩ := hP3
  subst eM
  refine n_pop c_0_742 ?_
  refine n_aload_n c_0_743 rfl ?_
  refine n_v0I c_0_744 rfl sc_112.n rfl rfl rfl rfl (mpairings_3  hS (by omega)) ?_
  intro z4 M5 hP6
  obtain ⟨eM, f6⟩ := hP6
  subst eM
  refine n_pop c_0_747 ?_
  refine n_goto c_0_748 ?_
  exact h _ _ _ hd3 hS (by omega) rl
set_option maxHeartbeats 4000000 in
theorem law19_3 {xs : List Int32} {ac : Int} {M : nM} {i a1 a2 a3 a4 : Int} (hS : Sf 3 ac M M) (hdm : M 112 0 = 3) (rl : RLQ 3 M) (hx : xs.length ≤ 2560) (hi : 0 ≤ i ∧ i + 5 ≤ (xs.length : Int)) (ea1 : (xs.getD (i + 1).toNat 0).toInt = a1) (ea2 : (xs.getD (i + 2).toNat 0).toInt = a2) (ea3 : (xs.getD (i + 3).toNat 0).toInt = a3) (ea4 : (xs.getD (i + 4).toNat 0).toInt = a4) (ra1 : -2147483648 ≤ a1 ∧ a1 ≤ 2147483647) (ra2 : -2147483648 ≤ a2 ∧ a2 ≤ 2147483647) (ra3 : -2147483648 ≤ a3 ∧ a3 ≤ 2147483647) (ra4 : -2147483648 ≤ a4 ∧ a4 ≤ 2147483647) (h : ∀ (d2 ac2 : Int) (M2 : nM), (d2 = 2 ∨ d2 = 3) → Sf d2 ac2 M2 M2 → M2 112 0 = d2 → RLQ d2 M2 → nW xs 60 0 991 [some (2, 2), some (2, 3), some (2, 112), some (0, i)] [] M2 (nPI fun z M1 => z = 1)) : nW xs 60 0 751 [some (2, 2), some (2, 3), some (2, 112), some (0, i)] [] M (nPI fun z M1 => z = 1) := by
  have hd2 : (2 : Int) = 2 ∨ (2 : Int) = 3 := by decide
  have hd3 : (3 : Int) = 2 ∨ (3 : Int) = 3 := by decide
  have hac := hS.2.2.2.2
  refine n_aload_n c_0_751 rfl ?_
  refine n_aload_n c_0_752 rfl ?_
  refine n_iload_n c_0_753 rfl ?_
  refine n_iconst c_0_754 ?_
  refine n_iadd c_0_755 rfl ?_
  refine n_sld c_0_756 (by omega) (by omega) ea1 ?_
  refine n_v1I c_0_757 rfl sc_3.n rfl rfl rfl rfl (pairing_3 (i := a1) hS (by omega)) ?_
  intro z1 M2 hP3
  obtain ⟨eM, f3⟩ := hP3
  subst eM
  refine n_pop c_0_760 ?_
  refine n_aload_n c_0_761 rfl ?_
  refine n_aload_n c_0_762 rfl ?_
  refine n_iload_n c_0_763 rfl ?_
  refine n_iconst c_0_764 ?_
  refine n_iadd c_0_765 rfl ?_
  refine n_sld c_0_766 (by omega) (by omega) ea1 ?_
  refine n_v1I c_0_767 rfl sc_112.n rfl rfl rfl rfl (mpairing_3 (i := a1) hS (by omega) (by omega)) ?_
  intro z4 M5 hP6
  obtain ⟨eM, f6⟩ := hP6
  subst eM
  refine n_pop c_0_770 ?_
  refine n_goto c_0_771 ?_
  exact h _ _ _ hd3 hS (by omega) rl
set_option maxHeartbeats 4000000 in
theorem law20_3 {xs : List Int32} {ac : Int} {M : nM} {i a1 a2 a3 a4 : Int} (hS : Sf 3 ac M M) (hdm : M 112 0 = 3) (rl : RLQ 3 M) (hx : xs.length ≤ 2560) (hi : 0 ≤ i ∧ i + 5 ≤ (xs.length : Int)) (ea1 : (xs.getD (i + 1).toNat 0).toInt = a1) (ea2 : (xs.getD (i + 2).toNat 0).toInt = a2) (ea3 : (xs.getD (i + 3).toNat 0).toInt = a3) (ea4 : (xs.getD (i + 4).toNat 0).toInt = a4) (ra1 : -2147483648 ≤ a1 ∧ a1 ≤ 2147483647) (ra2 : -2147483648 ≤ a2 ∧ a2 ≤ 2147483647) (ra3 : -2147483648 ≤ a3 ∧ a3 ≤ 2147483647) (ra4 : -2147483648 ≤ a4 ∧ a4 ≤ 2147483647) (h : ∀ (d2 ac2 : Int) (M2 : nM), (d2 = 2 ∨ d2 = 3) → Sf d2 ac2 M2 M2 → M2 112 0 = d2 → RLQ d2 M2 → nW xs 60 0 991 [some (2, 2), some (2, 3), some (2, 112), some (0, i)] [] M2 (nPI fun z M1 => z = 1)) : nW xs 60 0 774 [some (2, 2), some (2, 3), some (2, 112), some (0, i)] [] M (nPI fun z M1 => z = 1) := by
  have hd2 : (2 : Int) = 2 ∨ (2 : Int) = 3 := by decide
  have hd3 : (3 : Int) = 2 ∨ (3 : Int) = 3 := by decide
  have hac := hS.2.2.2.2
  refine n_aload_n c_0_774 rfl ?_
  refine n_aload_n c_0_775 rfl ?_
  refine n_iload_n c_0_776 rfl ?_
  refine n_iconst c_0_777 ?_
  refine n_iadd c_0_778 rfl ?_
  refine n_sld c_0_779 (by omega) (by omega) ea1 ?_
  refine n_v1I c_0_780 rfl sc_3.n rfl rfl rfl rfl (signs_3 (a := a1) hS (by omega)) ?_
  intro z1 M2 hP3
  obtain ⟨eM, f3⟩ := hP3
  subst eM
  refine n_pop c_0_783 ?_
  refine n_aload_n c_0_784 rfl ?_
  refine n_aload_n c_0_785 rfl ?_
  refine n_iload_n c_0_786 rfl ?_
  refine n_iconst c_0_787 ?_
  refine n_iadd c_0_788 rfl ?_
  refine n_sld c_0_789 (by omega) (by omega) ea1 ?_
  refine n_v1I c_0_790 rfl sc_112.n rfl rfl rfl rfl (msigns_3 (a := a1) hS (by omega) (by omega)) ?_
  intro z4 M5 hP6
  obtain ⟨eM, f6⟩ := hP6
  subst eM
  refine n_pop c_0_793 ?_
  refine n_goto c_0_794 ?_
  exact h _ _ _ hd3 hS (by omega) rl
set_option maxHeartbeats 4000000 in
theorem law21_3 {xs : List Int32} {ac : Int} {M : nM} {i a1 a2 a3 a4 : Int} (hS : Sf 3 ac M M) (hdm : M 112 0 = 3) (rl : RLQ 3 M) (hx : xs.length ≤ 2560) (hi : 0 ≤ i ∧ i + 5 ≤ (xs.length : Int)) (ea1 : (xs.getD (i + 1).toNat 0).toInt = a1) (ea2 : (xs.getD (i + 2).toNat 0).toInt = a2) (ea3 : (xs.getD (i + 3).toNat 0).toInt = a3) (ea4 : (xs.getD (i + 4).toNat 0).toInt = a4) (ra1 : -2147483648 ≤ a1 ∧ a1 ≤ 2147483647) (ra2 : -2147483648 ≤ a2 ∧ a2 ≤ 2147483647) (ra3 : -2147483648 ≤ a3 ∧ a3 ≤ 2147483647) (ra4 : -2147483648 ≤ a4 ∧ a4 ≤ 2147483647) (h : ∀ (d2 ac2 : Int) (M2 : nM), (d2 = 2 ∨ d2 = 3) → Sf d2 ac2 M2 M2 → M2 112 0 = d2 → RLQ d2 M2 → nW xs 60 0 991 [some (2, 2), some (2, 3), some (2, 112), some (0, i)] [] M2 (nPI fun z M1 => z = 1)) : nW xs 60 0 797 [some (2, 2), some (2, 3), some (2, 112), some (0, i)] [] M (nPI fun z M1 => z = 1) := by
  have hd2 : (2 : Int) = 2 ∨ (2 : Int) = 3 := by decide
  have hd3 : (3 : Int) = 2 ∨ (3 : Int) = 3 := by decide
  have hac := hS.2.2.2.2
  refine n_aload_n c_0_797 rfl ?_
  refine n_v0I c_0_798 rfl sc_3.n rfl rfl rfl rfl (whole_3  hS ) ?_
  intro z1 M2 hP3
  obtain ⟨eM, f3⟩ := hP3
  subst eM
  refine n_pop c_0_801 ?_
  refine n_aload_n c_0_802 rfl ?_
  refine n_v0I c_0_803 rfl sc_112.n rfl rfl rfl rfl (mwhole_3  hS (by omega)) ?_
  intro z4 M5 hP6
  obtain ⟨eM, f6⟩ := hP6
  subst eM
  refine n_pop c_0_806 ?_
  refine n_goto c_0_807 ?_
  exact h _ _ _ hd3 hS (by omega) rl
set_option maxHeartbeats 4000000 in
theorem law22_3 {xs : List Int32} {ac : Int} {M : nM} {i a1 a2 a3 a4 : Int} (hS : Sf 3 ac M M) (hdm : M 112 0 = 3) (rl : RLQ 3 M) (hx : xs.length ≤ 2560) (hi : 0 ≤ i ∧ i + 5 ≤ (xs.length : Int)) (ea1 : (xs.getD (i + 1).toNat 0).toInt = a1) (ea2 : (xs.getD (i + 2).toNat 0).toInt = a2) (ea3 : (xs.getD (i + 3).toNat 0).toInt = a3) (ea4 : (xs.getD (i + 4).toNat 0).toInt = a4) (ra1 : -2147483648 ≤ a1 ∧ a1 ≤ 2147483647) (ra2 : -2147483648 ≤ a2 ∧ a2 ≤ 2147483647) (ra3 : -2147483648 ≤ a3 ∧ a3 ≤ 2147483647) (ra4 : -2147483648 ≤ a4 ∧ a4 ≤ 2147483647) (h : ∀ (d2 ac2 : Int) (M2 : nM), (d2 = 2 ∨ d2 = 3) → Sf d2 ac2 M2 M2 → M2 112 0 = d2 → RLQ d2 M2 → nW xs 60 0 991 [some (2, 2), some (2, 3), some (2, 112), some (0, i)] [] M2 (nPI fun z M1 => z = 1)) : nW xs 60 0 810 [some (2, 2), some (2, 3), some (2, 112), some (0, i)] [] M (nPI fun z M1 => z = 1) := by
  have hd2 : (2 : Int) = 2 ∨ (2 : Int) = 3 := by decide
  have hd3 : (3 : Int) = 2 ∨ (3 : Int) = 3 := by decide
  have hac := hS.2.2.2.2
  refine n_aload_n c_0_810 rfl ?_
  refine n_aload_n c_0_811 rfl ?_
  refine n_iload_n c_0_812 rfl ?_
  refine n_iconst c_0_813 ?_
  refine n_iadd c_0_814 rfl ?_
  refine n_sld c_0_815 (by omega) (by omega) ea1 ?_
  refine n_v1I c_0_816 rfl sc_3.n rfl rfl rfl rfl (riddleX_3 (u := a1) (gd := (M 112 0)) hS (by omega) rfl) ?_
  intro z1 M2 hP3
  obtain ⟨hS2, f3, f3g0, f3p0⟩ := hP3
  refine n_pop c_0_819 ?_
  refine n_aload_n c_0_820 rfl ?_
  refine n_aload_n c_0_821 rfl ?_
  refine n_iload_n c_0_822 rfl ?_
  refine n_iconst c_0_823 ?_
  refine n_iadd c_0_824 rfl ?_
  refine n_sld c_0_825 (by omega) (by omega) ea1 ?_
  refine n_v1I c_0_826 rfl sc_112.n rfl rfl rfl rfl (mriddleX_3 (u := a1) (gd := (M2 112 0)) hS2 (by omega) (by omega) rfl) ?_
  intro z4 M5 hP6
  obtain ⟨hS5, f6, f6g0, f6p0⟩ := hP6
  obtain ⟨rl2, hzz⟩ := RLQ.rid hd3 rl hS f3p0 f6p0
  refine n_pop c_0_829 ?_
  refine n_goto c_0_830 ?_
  exact h _ _ _ hd3 hS5 (by omega) rl2
set_option maxHeartbeats 4000000 in
theorem law23_3 {xs : List Int32} {ac : Int} {M : nM} {i a1 a2 a3 a4 : Int} (hS : Sf 3 ac M M) (hdm : M 112 0 = 3) (rl : RLQ 3 M) (hx : xs.length ≤ 2560) (hi : 0 ≤ i ∧ i + 5 ≤ (xs.length : Int)) (ea1 : (xs.getD (i + 1).toNat 0).toInt = a1) (ea2 : (xs.getD (i + 2).toNat 0).toInt = a2) (ea3 : (xs.getD (i + 3).toNat 0).toInt = a3) (ea4 : (xs.getD (i + 4).toNat 0).toInt = a4) (ra1 : -2147483648 ≤ a1 ∧ a1 ≤ 2147483647) (ra2 : -2147483648 ≤ a2 ∧ a2 ≤ 2147483647) (ra3 : -2147483648 ≤ a3 ∧ a3 ≤ 2147483647) (ra4 : -2147483648 ≤ a4 ∧ a4 ≤ 2147483647) (h : ∀ (d2 ac2 : Int) (M2 : nM), (d2 = 2 ∨ d2 = 3) → Sf d2 ac2 M2 M2 → M2 112 0 = d2 → RLQ d2 M2 → nW xs 60 0 991 [some (2, 2), some (2, 3), some (2, 112), some (0, i)] [] M2 (nPI fun z M1 => z = 1)) : nW xs 60 0 833 [some (2, 2), some (2, 3), some (2, 112), some (0, i)] [] M (nPI fun z M1 => z = 1) := by
  have hd2 : (2 : Int) = 2 ∨ (2 : Int) = 3 := by decide
  have hd3 : (3 : Int) = 2 ∨ (3 : Int) = 3 := by decide
  have hac := hS.2.2.2.2
  refine n_aload_n c_0_833 rfl ?_
  refine n_aload_n c_0_834 rfl ?_
  refine n_iload_n c_0_835 rfl ?_
  refine n_iconst c_0_836 ?_
  refine n_iadd c_0_837 rfl ?_
  refine n_sld c_0_838 (by omega) (by omega) ea1 ?_
  refine n_aload_n c_0_839 rfl ?_
  refine n_iload_n c_0_840 rfl ?_
  refine n_iconst c_0_841 ?_
  refine n_iadd c_0_842 rfl ?_
  refine n_sld c_0_843 (by omega) (by omega) ea2 ?_
  refine n_aload_n c_0_844 rfl ?_
  refine n_iload_n c_0_845 rfl ?_
  refine n_iconst c_0_846 ?_
  refine n_iadd c_0_847 rfl ?_
  refine n_sld c_0_848 (by omega) (by omega) ea3 ?_
  refine n_aload_n c_0_849 rfl ?_
  refine n_iload_n c_0_850 rfl ?_
  refine n_iconst c_0_851 ?_
  refine n_iadd c_0_852 rfl ?_
  refine n_sld c_0_853 (by omega) (by omega) ea4 ?_
  refine n_v4I c_0_854 rfl sc_3.n rfl rfl rfl rfl (askX_3 (l := a1) (x := a2) (y := a3) (w := a4) (gd := (M 112 0)) hS (by omega) (by omega) (by omega) (by omega) rfl) ?_
  intro z1 M2 hP3
  obtain ⟨hS2, f3, f3g0, f3p0⟩ := hP3
  refine n_pop c_0_857 ?_
  refine n_aload_n c_0_858 rfl ?_
  refine n_aload_n c_0_859 rfl ?_
  refine n_iload_n c_0_860 rfl ?_
  refine n_iconst c_0_861 ?_
  refine n_iadd c_0_862 rfl ?_
  refine n_sld c_0_863 (by omega) (by omega) ea1 ?_
  refine n_aload_n c_0_864 rfl ?_
  refine n_iload_n c_0_865 rfl ?_
  refine n_iconst c_0_866 ?_
  refine n_iadd c_0_867 rfl ?_
  refine n_sld c_0_868 (by omega) (by omega) ea2 ?_
  refine n_aload_n c_0_869 rfl ?_
  refine n_iload_n c_0_870 rfl ?_
  refine n_iconst c_0_871 ?_
  refine n_iadd c_0_872 rfl ?_
  refine n_sld c_0_873 (by omega) (by omega) ea3 ?_
  refine n_aload_n c_0_874 rfl ?_
  refine n_iload_n c_0_875 rfl ?_
  refine n_iconst c_0_876 ?_
  refine n_iadd c_0_877 rfl ?_
  refine n_sld c_0_878 (by omega) (by omega) ea4 ?_
  refine n_v4I c_0_879 rfl sc_112.n rfl rfl rfl rfl (maskX_3 (l := a1) (x := a2) (y := a3) (w := a4) (gd := (M2 112 0)) hS2 (by omega) (by omega) (by omega) (by omega) (by omega) rfl) ?_
  intro z4 M5 hP6
  obtain ⟨hS5, f6, f6g0, f6p0⟩ := hP6
  obtain ⟨rl2, hzz⟩ := RLQ.ask hd3 rl hS f3p0 f6p0
  refine n_pop c_0_882 ?_
  refine n_goto c_0_883 ?_
  exact h _ _ _ hd3 hS5 (by omega) rl2
set_option maxHeartbeats 4000000 in
theorem law24_3 {xs : List Int32} {ac : Int} {M : nM} {i a1 a2 a3 a4 : Int} (hS : Sf 3 ac M M) (hdm : M 112 0 = 3) (rl : RLQ 3 M) (hx : xs.length ≤ 2560) (hi : 0 ≤ i ∧ i + 5 ≤ (xs.length : Int)) (ea1 : (xs.getD (i + 1).toNat 0).toInt = a1) (ea2 : (xs.getD (i + 2).toNat 0).toInt = a2) (ea3 : (xs.getD (i + 3).toNat 0).toInt = a3) (ea4 : (xs.getD (i + 4).toNat 0).toInt = a4) (ra1 : -2147483648 ≤ a1 ∧ a1 ≤ 2147483647) (ra2 : -2147483648 ≤ a2 ∧ a2 ≤ 2147483647) (ra3 : -2147483648 ≤ a3 ∧ a3 ≤ 2147483647) (ra4 : -2147483648 ≤ a4 ∧ a4 ≤ 2147483647) (h : ∀ (d2 ac2 : Int) (M2 : nM), (d2 = 2 ∨ d2 = 3) → Sf d2 ac2 M2 M2 → M2 112 0 = d2 → RLQ d2 M2 → nW xs 60 0 991 [some (2, 2), some (2, 3), some (2, 112), some (0, i)] [] M2 (nPI fun z M1 => z = 1)) : nW xs 60 0 886 [some (2, 2), some (2, 3), some (2, 112), some (0, i)] [] M (nPI fun z M1 => z = 1) := by
  have hd2 : (2 : Int) = 2 ∨ (2 : Int) = 3 := by decide
  have hd3 : (3 : Int) = 2 ∨ (3 : Int) = 3 := by decide
  have hac := hS.2.2.2.2
  refine n_aload_n c_0_886 rfl ?_
  refine n_aload_n c_0_887 rfl ?_
  refine n_iload_n c_0_888 rfl ?_
  refine n_iconst c_0_889 ?_
  refine n_iadd c_0_890 rfl ?_
  refine n_sld c_0_891 (by omega) (by omega) ea1 ?_
  refine n_v1I c_0_892 rfl sc_3.n rfl rfl rfl rfl (narrowed_3 (u := a1) hS (by omega)) ?_
  intro z1 M2 hP3
  obtain ⟨hS2, f3⟩ := hP3
  have hS2c := hS2.2.2.2.1.1
  have hS2 := hS2.refl
  have hS2k0 := hS2c 112 0 (by unfold core; omega)
  have rl4 := RLQ.of rl hd3 hS hS2c
  refine n_pop c_0_895 ?_
  refine n_aload_n c_0_896 rfl ?_
  refine n_aload_n c_0_897 rfl ?_
  refine n_iload_n c_0_898 rfl ?_
  refine n_iconst c_0_899 ?_
  refine n_iadd c_0_900 rfl ?_
  refine n_sld c_0_901 (by omega) (by omega) ea1 ?_
  refine n_v1I c_0_902 rfl sc_112.n rfl rfl rfl rfl (mnarrowed_3 (u := a1) hS2 (by omega) (by omega)) ?_
  intro z5 M6 hP7
  obtain ⟨hS6, f7⟩ := hP7
  have hS6c := hS6.2.2.2.1.1
  have hS6 := hS6.refl
  have hS6k0 := hS6c 112 0 (by unfold core; omega)
  have rl8 := RLQ.of rl4 hd3 hS2 hS6c
  refine n_pop c_0_905 ?_
  refine n_goto c_0_906 ?_
  exact h _ _ _ hd3 hS6 (by omega) rl8
set_option maxHeartbeats 4000000 in
theorem law25_3 {xs : List Int32} {ac : Int} {M : nM} {i a1 a2 a3 a4 : Int} (hS : Sf 3 ac M M) (hdm : M 112 0 = 3) (rl : RLQ 3 M) (hx : xs.length ≤ 2560) (hi : 0 ≤ i ∧ i + 5 ≤ (xs.length : Int)) (ea1 : (xs.getD (i + 1).toNat 0).toInt = a1) (ea2 : (xs.getD (i + 2).toNat 0).toInt = a2) (ea3 : (xs.getD (i + 3).toNat 0).toInt = a3) (ea4 : (xs.getD (i + 4).toNat 0).toInt = a4) (ra1 : -2147483648 ≤ a1 ∧ a1 ≤ 2147483647) (ra2 : -2147483648 ≤ a2 ∧ a2 ≤ 2147483647) (ra3 : -2147483648 ≤ a3 ∧ a3 ≤ 2147483647) (ra4 : -2147483648 ≤ a4 ∧ a4 ≤ 2147483647) (h : ∀ (d2 ac2 : Int) (M2 : nM), (d2 = 2 ∨ d2 = 3) → Sf d2 ac2 M2 M2 → M2 112 0 = d2 → RLQ d2 M2 → nW xs 60 0 991 [some (2, 2), some (2, 3), some (2, 112), some (0, i)] [] M2 (nPI fun z M1 => z = 1)) : nW xs 60 0 909 [some (2, 2), some (2, 3), some (2, 112), some (0, i)] [] M (nPI fun z M1 => z = 1) := by
  have hd2 : (2 : Int) = 2 ∨ (2 : Int) = 3 := by decide
  have hd3 : (3 : Int) = 2 ∨ (3 : Int) = 3 := by decide
  have hac := hS.2.2.2.2
  refine n_aload_n c_0_909 rfl ?_
  refine n_v0I c_0_910 rfl sc_3.n rfl rfl rfl rfl (answers_3  hS ) ?_
  intro z1 M2 hP3
  obtain ⟨hS2, f3⟩ := hP3
  have hS2c := hS2.2.2.2.1.1
  have hS2 := hS2.refl
  have hS2k0 := hS2c 112 0 (by unfold core; omega)
  have rl4 := RLQ.of rl hd3 hS hS2c
  refine n_pop c_0_913 ?_
  refine n_aload_n c_0_914 rfl ?_
  refine n_v0I c_0_915 rfl sc_112.n rfl rfl rfl rfl (manswers_3  hS2 (by omega)) ?_
  intro z5 M6 hP7
  obtain ⟨eM, f7⟩ := hP7
  subst eM
  refine n_pop c_0_918 ?_
  refine n_goto c_0_919 ?_
  exact h _ _ _ hd3 hS2 (by omega) rl4
set_option maxHeartbeats 4000000 in
theorem law26_3 {xs : List Int32} {ac : Int} {M : nM} {i a1 a2 a3 a4 : Int} (hS : Sf 3 ac M M) (hdm : M 112 0 = 3) (rl : RLQ 3 M) (hx : xs.length ≤ 2560) (hi : 0 ≤ i ∧ i + 5 ≤ (xs.length : Int)) (ea1 : (xs.getD (i + 1).toNat 0).toInt = a1) (ea2 : (xs.getD (i + 2).toNat 0).toInt = a2) (ea3 : (xs.getD (i + 3).toNat 0).toInt = a3) (ea4 : (xs.getD (i + 4).toNat 0).toInt = a4) (ra1 : -2147483648 ≤ a1 ∧ a1 ≤ 2147483647) (ra2 : -2147483648 ≤ a2 ∧ a2 ≤ 2147483647) (ra3 : -2147483648 ≤ a3 ∧ a3 ≤ 2147483647) (ra4 : -2147483648 ≤ a4 ∧ a4 ≤ 2147483647) (h : ∀ (d2 ac2 : Int) (M2 : nM), (d2 = 2 ∨ d2 = 3) → Sf d2 ac2 M2 M2 → M2 112 0 = d2 → RLQ d2 M2 → nW xs 60 0 991 [some (2, 2), some (2, 3), some (2, 112), some (0, i)] [] M2 (nPI fun z M1 => z = 1)) : nW xs 60 0 922 [some (2, 2), some (2, 3), some (2, 112), some (0, i)] [] M (nPI fun z M1 => z = 1) := by
  have hd2 : (2 : Int) = 2 ∨ (2 : Int) = 3 := by decide
  have hd3 : (3 : Int) = 2 ∨ (3 : Int) = 3 := by decide
  have hac := hS.2.2.2.2
  refine n_aload_n c_0_922 rfl ?_
  refine n_aload_n c_0_923 rfl ?_
  refine n_iload_n c_0_924 rfl ?_
  refine n_iconst c_0_925 ?_
  refine n_iadd c_0_926 rfl ?_
  refine n_sld c_0_927 (by omega) (by omega) ea1 ?_
  refine n_v1I c_0_928 rfl sc_3.n rfl rfl rfl rfl (answer_3 (i := a1) hS (by omega)) ?_
  intro z1 M2 hP3
  obtain ⟨hS2, f3⟩ := hP3
  have hS2c := hS2.2.2.2.1.1
  have hS2 := hS2.refl
  have hS2k0 := hS2c 112 0 (by unfold core; omega)
  have rl4 := RLQ.of rl hd3 hS hS2c
  refine n_pop c_0_931 ?_
  refine n_aload_n c_0_932 rfl ?_
  refine n_aload_n c_0_933 rfl ?_
  refine n_iload_n c_0_934 rfl ?_
  refine n_iconst c_0_935 ?_
  refine n_iadd c_0_936 rfl ?_
  refine n_sld c_0_937 (by omega) (by omega) ea1 ?_
  refine n_v1I c_0_938 rfl sc_112.n rfl rfl rfl rfl (manswer_3 (i := a1) hS2 (by omega) (by omega)) ?_
  intro z5 M6 hP7
  obtain ⟨eM, f7⟩ := hP7
  subst eM
  refine n_pop c_0_941 ?_
  refine n_goto c_0_942 ?_
  exact h _ _ _ hd3 hS2 (by omega) rl4
set_option maxHeartbeats 4000000 in
theorem law27_3 {xs : List Int32} {ac : Int} {M : nM} {i a1 a2 a3 a4 : Int} (hS : Sf 3 ac M M) (hdm : M 112 0 = 3) (rl : RLQ 3 M) (hx : xs.length ≤ 2560) (hi : 0 ≤ i ∧ i + 5 ≤ (xs.length : Int)) (ea1 : (xs.getD (i + 1).toNat 0).toInt = a1) (ea2 : (xs.getD (i + 2).toNat 0).toInt = a2) (ea3 : (xs.getD (i + 3).toNat 0).toInt = a3) (ea4 : (xs.getD (i + 4).toNat 0).toInt = a4) (ra1 : -2147483648 ≤ a1 ∧ a1 ≤ 2147483647) (ra2 : -2147483648 ≤ a2 ∧ a2 ≤ 2147483647) (ra3 : -2147483648 ≤ a3 ∧ a3 ≤ 2147483647) (ra4 : -2147483648 ≤ a4 ∧ a4 ≤ 2147483647) (h : ∀ (d2 ac2 : Int) (M2 : nM), (d2 = 2 ∨ d2 = 3) → Sf d2 ac2 M2 M2 → M2 112 0 = d2 → RLQ d2 M2 → nW xs 60 0 991 [some (2, 2), some (2, 3), some (2, 112), some (0, i)] [] M2 (nPI fun z M1 => z = 1)) : nW xs 60 0 945 [some (2, 2), some (2, 3), some (2, 112), some (0, i)] [] M (nPI fun z M1 => z = 1) := by
  have hd2 : (2 : Int) = 2 ∨ (2 : Int) = 3 := by decide
  have hd3 : (3 : Int) = 2 ∨ (3 : Int) = 3 := by decide
  have hac := hS.2.2.2.2
  refine n_aload_n c_0_945 rfl ?_
  refine n_aload_n c_0_946 rfl ?_
  refine n_iload_n c_0_947 rfl ?_
  refine n_iconst c_0_948 ?_
  refine n_iadd c_0_949 rfl ?_
  refine n_sld c_0_950 (by omega) (by omega) ea1 ?_
  refine n_v1J c_0_951 rfl sc_3.n rfl rfl rfl rfl (quick_3 (k := a1) hS (by omega)) ?_
  intro z1 M2 hP3
  obtain ⟨hS2, f3⟩ := hP3
  have hS2c := hS2.2.2.2.1.1
  have hS2 := hS2.refl
  have hS2k0 := hS2c 112 0 (by unfold core; omega)
  have rl4 := RLQ.of rl hd3 hS hS2c
  refine n_pop2 c_0_954 ?_
  refine n_aload_n c_0_955 rfl ?_
  refine n_aload_n c_0_956 rfl ?_
  refine n_iload_n c_0_957 rfl ?_
  refine n_iconst c_0_958 ?_
  refine n_iadd c_0_959 rfl ?_
  refine n_sld c_0_960 (by omega) (by omega) ea1 ?_
  refine n_v1J c_0_961 rfl sc_112.n rfl rfl rfl rfl (mquick_3 (k := a1) hS2 (by omega) (by omega)) ?_
  intro z5 M6 hP7
  obtain ⟨hS6, f7⟩ := hP7
  have hS6c := hS6.2.2.2.1.1
  have hS6 := hS6.refl
  have hS6k0 := hS6c 112 0 (by unfold core; omega)
  have rl8 := RLQ.of rl4 hd3 hS2 hS6c
  refine n_pop2 c_0_964 ?_
  refine n_goto c_0_965 ?_
  exact h _ _ _ hd3 hS6 (by omega) rl8
set_option maxHeartbeats 4000000 in
theorem law28_3 {xs : List Int32} {ac : Int} {M : nM} {i a1 a2 a3 a4 : Int} (hS : Sf 3 ac M M) (hdm : M 112 0 = 3) (rl : RLQ 3 M) (hx : xs.length ≤ 2560) (hi : 0 ≤ i ∧ i + 5 ≤ (xs.length : Int)) (ea1 : (xs.getD (i + 1).toNat 0).toInt = a1) (ea2 : (xs.getD (i + 2).toNat 0).toInt = a2) (ea3 : (xs.getD (i + 3).toNat 0).toInt = a3) (ea4 : (xs.getD (i + 4).toNat 0).toInt = a4) (ra1 : -2147483648 ≤ a1 ∧ a1 ≤ 2147483647) (ra2 : -2147483648 ≤ a2 ∧ a2 ≤ 2147483647) (ra3 : -2147483648 ≤ a3 ∧ a3 ≤ 2147483647) (ra4 : -2147483648 ≤ a4 ∧ a4 ≤ 2147483647) (h : ∀ (d2 ac2 : Int) (M2 : nM), (d2 = 2 ∨ d2 = 3) → Sf d2 ac2 M2 M2 → M2 112 0 = d2 → RLQ d2 M2 → nW xs 60 0 991 [some (2, 2), some (2, 3), some (2, 112), some (0, i)] [] M2 (nPI fun z M1 => z = 1)) : nW xs 60 0 968 [some (2, 2), some (2, 3), some (2, 112), some (0, i)] [] M (nPI fun z M1 => z = 1) := by
  have hd2 : (2 : Int) = 2 ∨ (2 : Int) = 3 := by decide
  have hd3 : (3 : Int) = 2 ∨ (3 : Int) = 3 := by decide
  have hac := hS.2.2.2.2
  refine n_aload_n c_0_968 rfl ?_
  refine n_aload_n c_0_969 rfl ?_
  refine n_iload_n c_0_970 rfl ?_
  refine n_iconst c_0_971 ?_
  refine n_iadd c_0_972 rfl ?_
  refine n_sld c_0_973 (by omega) (by omega) ea1 ?_
  refine n_v1I c_0_974 rfl sc_3.n rfl rfl rfl rfl (count_3 (w := a1) hS (by omega)) ?_
  intro z1 M2 hP3
  obtain ⟨eM, f3⟩ := hP3
  subst eM
  refine n_pop c_0_977 ?_
  refine n_aload_n c_0_978 rfl ?_
  refine n_aload_n c_0_979 rfl ?_
  refine n_iload_n c_0_980 rfl ?_
  refine n_iconst c_0_981 ?_
  refine n_iadd c_0_982 rfl ?_
  refine n_sld c_0_983 (by omega) (by omega) ea1 ?_
  refine n_v1I c_0_984 rfl sc_112.n rfl rfl rfl rfl (mcount_3 (w := a1) hS (by omega) (by omega)) ?_
  intro z4 M5 hP6
  obtain ⟨eM, f6⟩ := hP6
  subst eM
  refine n_pop c_0_987 ?_
  refine n_goto c_0_988 ?_
  exact h _ _ _ hd3 hS (by omega) rl
set_option maxHeartbeats 4000000 in
theorem law_step_3 {xs : List Int32} {ac : Int} {M : nM} {i : Int} (hS : Sf 3 ac M M) (hdm : M 112 0 = 3) (rl : RLQ 3 M) (hx : xs.length ≤ 2560) (hi : 0 ≤ i ∧ i ≤ (xs.length : Int)) (h : ∀ (d2 ac2 : Int) (M2 : nM), i + 5 ≤ (xs.length : Int) → (d2 = 2 ∨ d2 = 3) → Sf d2 ac2 M2 M2 → M2 112 0 = d2 → RLQ d2 M2 → nW xs 60 0 991 [some (2, 2), some (2, 3), some (2, 112), some (0, i)] [] M2 (nPI fun z M1 => z = 1)) : nW xs 60 0 18 [some (2, 2), some (2, 3), some (2, 112), some (0, i)] [] M (nPI fun z M1 => z = 1) := by
  generalize ea0 : (xs.getD i.toNat 0).toInt = a0
  generalize ea1 : (xs.getD (i + 1).toNat 0).toInt = a1
  generalize ea2 : (xs.getD (i + 2).toNat 0).toInt = a2
  generalize ea3 : (xs.getD (i + 3).toNat 0).toInt = a3
  generalize ea4 : (xs.getD (i + 4).toNat 0).toInt = a4
  have ra0 : -2147483648 ≤ a0 ∧ a0 ≤ 2147483647 := by rw [← ea0]; exact n_toInt _
  have ra1 : -2147483648 ≤ a1 ∧ a1 ≤ 2147483647 := by rw [← ea1]; exact n_toInt _
  have ra2 : -2147483648 ≤ a2 ∧ a2 ≤ 2147483647 := by rw [← ea2]; exact n_toInt _
  have ra3 : -2147483648 ≤ a3 ∧ a3 ≤ 2147483647 := by rw [← ea3]; exact n_toInt _
  have ra4 : -2147483648 ≤ a4 ∧ a4 ≤ 2147483647 := by rw [← ea4]; exact n_toInt _
  refine n_iload_n c_0_18 rfl ?_
  refine n_aload_n c_0_19 rfl ?_
  refine n_slen c_0_20 ?_
  refine n_iconst c_0_21 ?_
  refine n_isub c_0_22 rfl ?_
  refine n_if2_gt c_0_23 (by omega) (by omega) ?_ ?_
  · intro h1
    refine n_iconst c_0_997 ?_
    exact n_rZ c_0_998 rfl (by omega) rfl
  · intro h2
    refine n_aload_n c_0_26 rfl ?_
    refine n_iload_n c_0_27 rfl ?_
    refine n_sld c_0_28 (by omega) (by omega) ea0 ?_
    refine n_bipush c_0_29 rfl ?_
    refine n_i_iand c_0_31 rfl ?_
    have f3 := n_and_y (x := a0) (y := 31) (by omega)
    generalize (n_and a0 31) = z4 at f3 ⊢
    refine n_sw c_0_32 (by omega) (by decide) ?_ ?_
    · intro h5
      refine n_pc (k2 := 991) rfl ?_
      exact h _ _ _ (by omega) (by decide) hS hdm rl
    · intro h6 h6b
      rcases (show z4 = 0 ∨ z4 = 1 ∨ z4 = 2 ∨ z4 = 3 ∨ z4 = 4 ∨ z4 = 5 ∨ z4 = 6 ∨ z4 = 7 ∨ z4 = 8 ∨ z4 = 9 ∨ z4 = 10 ∨ z4 = 11 ∨ z4 = 12 ∨ z4 = 13 ∨ z4 = 14 ∨ z4 = 15 ∨ z4 = 16 ∨ z4 = 17 ∨ z4 = 18 ∨ z4 = 19 ∨ z4 = 20 ∨ z4 = 21 ∨ z4 = 22 ∨ z4 = 23 ∨ z4 = 24 ∨ z4 = 25 ∨ z4 = 26 ∨ z4 = 27 ∨ z4 = 28 by omega) with h6c | h6c | h6c | h6c | h6c | h6c | h6c | h6c | h6c | h6c | h6c | h6c | h6c | h6c | h6c | h6c | h6c | h6c | h6c | h6c | h6c | h6c | h6c | h6c | h6c | h6c | h6c | h6c | h6c
      · refine ⟨_, by rw [h6c]; rfl, by decide, ?_⟩
        refine n_pc (k2 := 164) rfl ?_
        exact law0_3 hS hdm rl hx (by omega) ea1 ea2 ea3 ea4 ra1 ra2 ra3 ra4 (fun d2 ac2 M2 => h d2 ac2 M2 (by omega))
      · refine ⟨_, by rw [h6c]; rfl, by decide, ?_⟩
        refine n_pc (k2 := 187) rfl ?_
        exact law1_3 hS hdm rl hx (by omega) ea1 ea2 ea3 ea4 ra1 ra2 ra3 ra4 (fun d2 ac2 M2 => h d2 ac2 M2 (by omega))
      · refine ⟨_, by rw [h6c]; rfl, by decide, ?_⟩
        refine n_pc (k2 := 230) rfl ?_
        exact law2_3 hS hdm rl hx (by omega) ea1 ea2 ea3 ea4 ra1 ra2 ra3 ra4 (fun d2 ac2 M2 => h d2 ac2 M2 (by omega))
      · refine ⟨_, by rw [h6c]; rfl, by decide, ?_⟩
        refine n_pc (k2 := 253) rfl ?_
        exact law3_3 hS hdm rl hx (by omega) ea1 ea2 ea3 ea4 ra1 ra2 ra3 ra4 (fun d2 ac2 M2 => h d2 ac2 M2 (by omega))
      · refine ⟨_, by rw [h6c]; rfl, by decide, ?_⟩
        refine n_pc (k2 := 326) rfl ?_
        exact law4_3 hS hdm rl hx (by omega) ea1 ea2 ea3 ea4 ra1 ra2 ra3 ra4 (fun d2 ac2 M2 => h d2 ac2 M2 (by omega))
      · refine ⟨_, by rw [h6c]; rfl, by decide, ?_⟩
        refine n_pc (k2 := 359) rfl ?_
        exact law5_3 hS hdm rl hx (by omega) ea1 ea2 ea3 ea4 ra1 ra2 ra3 ra4 (fun d2 ac2 M2 => h d2 ac2 M2 (by omega))
      · refine ⟨_, by rw [h6c]; rfl, by decide, ?_⟩
        refine n_pc (k2 := 392) rfl ?_
        exact law6_3 hS hdm rl hx (by omega) ea1 ea2 ea3 ea4 ra1 ra2 ra3 ra4 (fun d2 ac2 M2 => h d2 ac2 M2 (by omega))
      · refine ⟨_, by rw [h6c]; rfl, by decide, ?_⟩
        refine n_pc (k2 := 425) rfl ?_
        exact law7_3 hS hdm rl hx (by omega) ea1 ea2 ea3 ea4 ra1 ra2 ra3 ra4 (fun d2 ac2 M2 => h d2 ac2 M2 (by omega))
      · refine ⟨_, by rw [h6c]; rfl, by decide, ?_⟩
        refine n_pc (k2 := 448) rfl ?_
        exact law8_3 hS hdm rl hx (by omega) ea1 ea2 ea3 ea4 ra1 ra2 ra3 ra4 (fun d2 ac2 M2 => h d2 ac2 M2 (by omega))
      · refine ⟨_, by rw [h6c]; rfl, by decide, ?_⟩
        refine n_pc (k2 := 481) rfl ?_
        exact law9_3 hS hdm rl hx (by omega) ea1 ea2 ea3 ea4 ra1 ra2 ra3 ra4 (fun d2 ac2 M2 => h d2 ac2 M2 (by omega))
      · refine ⟨_, by rw [h6c]; rfl, by decide, ?_⟩
        refine n_pc (k2 := 504) rfl ?_
        exact law10_3 hS hdm rl hx (by omega) ea1 ea2 ea3 ea4 ra1 ra2 ra3 ra4 (fun d2 ac2 M2 => h d2 ac2 M2 (by omega))
      · refine ⟨_, by rw [h6c]; rfl, by decide, ?_⟩
        refine n_pc (k2 := 527) rfl ?_
        exact law11_3 hS hdm rl hx (by omega) ea1 ea2 ea3 ea4 ra1 ra2 ra3 ra4 (fun d2 ac2 M2 => h d2 ac2 M2 (by omega))
      · refine ⟨_, by rw [h6c]; rfl, by decide, ?_⟩
        refine n_pc (k2 := 550) rfl ?_
        exact law12_3 hS hdm rl hx (by omega) ea1 ea2 ea3 ea4 ra1 ra2 ra3 ra4 (fun d2 ac2 M2 => h d2 ac2 M2 (by omega))
      · refine ⟨_, by rw [h6c]; rfl, by decide, ?_⟩
        refine n_pc (k2 := 593) rfl ?_
        exact law13_3 hS hdm rl hx (by omega) ea1 ea2 ea3 ea4 ra1 ra2 ra3 ra4 (fun d2 ac2 M2 => h d2 ac2 M2 (by omega))
      · refine ⟨_, by rw [h6c]; rfl, by decide, ?_⟩
        refine n_pc (k2 := 626) rfl ?_
        exact law14_3 hS hdm rl hx (by omega) ea1 ea2 ea3 ea4 ra1 ra2 ra3 ra4 (fun d2 ac2 M2 => h d2 ac2 M2 (by omega))
      · refine ⟨_, by rw [h6c]; rfl, by decide, ?_⟩
        refine n_pc (k2 := 659) rfl ?_
        exact law15_3 hS hdm rl hx (by omega) ea1 ea2 ea3 ea4 ra1 ra2 ra3 ra4 (fun d2 ac2 M2 => h d2 ac2 M2 (by omega))
      · refine ⟨_, by rw [h6c]; rfl, by decide, ?_⟩
        refine n_pc (k2 := 702) rfl ?_
        exact law16_3 hS hdm rl hx (by omega) ea1 ea2 ea3 ea4 ra1 ra2 ra3 ra4 (fun d2 ac2 M2 => h d2 ac2 M2 (by omega))
      · refine ⟨_, by rw [h6c]; rfl, by decide, ?_⟩
        refine n_pc (k2 := 715) rfl ?_
        exact law17_3 hS hdm rl hx (by omega) ea1 ea2 ea3 ea4 ra1 ra2 ra3 ra4 (fun d2 ac2 M2 => h d2 ac2 M2 (by omega))
      · refine ⟨_, by rw [h6c]; rfl, by decide, ?_⟩
        refine n_pc (k2 := 738) rfl ?_
        exact law18_3 hS hdm rl hx (by omega) ea1 ea2 ea3 ea4 ra1 ra2 ra3 ra4 (fun d2 ac2 M2 => h d2 ac2 M2 (by omega))
      · refine ⟨_, by rw [h6c]; rfl, by decide, ?_⟩
        refine n_pc (k2 := 751) rfl ?_
        exact law19_3 hS hdm rl hx (by omega) ea1 ea2 ea3 ea4 ra1 ra2 ra3 ra4 (fun d2 ac2 M2 => h d2 ac2 M2 (by omega))
      · refine ⟨_, by rw [h6c]; rfl, by decide, ?_⟩
        refine n_pc (k2 := 774) rfl ?_
        exact law20_3 hS hdm rl hx (by omega) ea1 ea2 ea3 ea4 ra1 ra2 ra3 ra4 (fun d2 ac2 M2 => h d2 ac2 M2 (by omega))
      · refine ⟨_, by rw [h6c]; rfl, by decide, ?_⟩
        refine n_pc (k2 := 797) rfl ?_
        exact law21_3 hS hdm rl hx (by omega) ea1 ea2 ea3 ea4 ra1 ra2 ra3 ra4 (fun d2 ac2 M2 => h d2 ac2 M2 (by omega))
      · refine ⟨_, by rw [h6c]; rfl, by decide, ?_⟩
        refine n_pc (k2 := 810) rfl ?_
        exact law22_3 hS hdm rl hx (by omega) ea1 ea2 ea3 ea4 ra1 ra2 ra3 ra4 (fun d2 ac2 M2 => h d2 ac2 M2 (by omega))
      · refine ⟨_, by rw [h6c]; rfl, by decide, ?_⟩
        refine n_pc (k2 := 833) rfl ?_
        exact law23_3 hS hdm rl hx (by omega) ea1 ea2 ea3 ea4 ra1 ra2 ra3 ra4 (fun d2 ac2 M2 => h d2 ac2 M2 (by omega))
      · refine ⟨_, by rw [h6c]; rfl, by decide, ?_⟩
        refine n_pc (k2 := 886) rfl ?_
        exact law24_3 hS hdm rl hx (by omega) ea1 ea2 ea3 ea4 ra1 ra2 ra3 ra4 (fun d2 ac2 M2 => h d2 ac2 M2 (by omega))
      · refine ⟨_, by rw [h6c]; rfl, by decide, ?_⟩
        refine n_pc (k2 := 909) rfl ?_
        exact law25_3 hS hdm rl hx (by omega) ea1 ea2 ea3 ea4 ra1 ra2 ra3 ra4 (fun d2 ac2 M2 => h d2 ac2 M2 (by omega))
      · refine ⟨_, by rw [h6c]; rfl, by decide, ?_⟩
        refine n_pc (k2 := 922) rfl ?_
        exact law26_3 hS hdm rl hx (by omega) ea1 ea2 ea3 ea4 ra1 ra2 ra3 ra4 (fun d2 ac2 M2 => h d2 ac2 M2 (by omega))
      · refine ⟨_, by rw [h6c]; rfl, by decide, ?_⟩
        refine n_pc (k2 := 945) rfl ?_
        exact law27_3 hS hdm rl hx (by omega) ea1 ea2 ea3 ea4 ra1 ra2 ra3 ra4 (fun d2 ac2 M2 => h d2 ac2 M2 (by omega))
      · refine ⟨_, by rw [h6c]; rfl, by decide, ?_⟩
        refine n_pc (k2 := 968) rfl ?_
        exact law28_3 hS hdm rl hx (by omega) ea1 ea2 ea3 ea4 ra1 ra2 ra3 ra4 (fun d2 ac2 M2 => h d2 ac2 M2 (by omega))
