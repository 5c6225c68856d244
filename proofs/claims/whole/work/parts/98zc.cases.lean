theorem zq_law {x y : UInt64} (h : zq x y) : Op.cmpValue (FP.dcmp x y) .l = 0 ∨ ¬ Op.cmpValue (FP.dcmp x x) .l = 0 ∧ ¬ Op.cmpValue (FP.dcmp y y) .l = 0 := by
  rcases h with rfl | ⟨h1, h2⟩
  · by_cases h : Op.cmpValue (FP.dcmp x x) .l = 0
    · exact Or.inl h
    · exact Or.inr ⟨h, h⟩
  · left
    obtain ⟨s1, e1⟩ := zz_val h1
    obtain ⟨s2, e2⟩ := zz_val h2
    show Op.cmpValue (FP.Core.order (FP.Core.val64 x) (FP.Core.val64 y)) .l = 0
    rw [e1, e2]
    cases s1 <;> cases s2 <;> decide +kernel
def zLI (gC : ZG) (n w h : Nat) (ly : Int32) (μ m : ZMem) : Prop := REL n w h ly μ m ∧ zWf gC μ
abbrev zKL : ZK := (RL, cL_law, 8, ret, room_1, none, zM0)
set_option maxHeartbeats 4000000 in
set_option maxRecDepth 100000 in
theorem law_depth {g : ZG} {W9 : ZW9} {Q9 : ZQ9} {n w h i : Nat} {ly : Int32} {μ m : ZMem} (hGC : zGC W9.1 (w * h) (fcA w h)) (hGM : zGM W9.2.1) (hi : i + 5 ≤ W9.2.2.2.1) (hL9 : W9.2.2.2.1 ≤ 2563) (hn : n + 200 < 2 ^ 17) (H : zLI W9.1 n w h ly μ m) (kk : ∀ n' μ' m', n' ≤ n + 200 → zLI W9.1 n' w h ly μ' m' → zLW g W9 Q9 zKL 1283 (zls [(0, zr (some 0)), (1, zr (some 1)), (2, zr (some 2)), (3, zi (nI i))]) [] (μ', m')) : zLW g W9 Q9 zKL 168 (zls [(0, zr (some 0)), (1, zr (some 1)), (2, zr (some 2)), (3, zi (nI i))]) [] (μ, m) := by
  obtain ⟨HR, hW⟩ := H
  have HR0 := HR
  obtain ⟨⟨hd, hF4, hL, hB, hM, -⟩, hCl, hSp, hSi, hWi, hTi, hNI, hNe, hGa, hFi, hSa, hOu⟩ := HR0
  have hC0 : zO W9.1 6 0 := hGC.fix 0 (by decide)
  have hM0 : zO W9.2.1 7 0 := ⟨(hGM 0 rfl).1, (hGM 0 rfl).2.1⟩
  obtain ⟨T, t0, t1, t2, -⟩ := id hNe
  refine zq_aload_n dL_law_168 rfl rfl ?_
  refine zq_aload_n dL_law_169 rfl rfl ?_
  refine zq_iload_n dL_law_170 rfl rfl ?_
  refine zq_iconst 1 dL_law_171 (by decide) ?_
  refine zq_iadd dL_law_172 ?_
  refine zq_sald (i + 1) (nI_add i 1) ⟨by omega, by omega⟩ dL_law_173 ?_
  refine zq_aload_n dL_law_174 rfl rfl ?_
  refine zq_iload_n dL_law_175 rfl rfl ?_
  refine zq_iconst 2 dL_law_176 (by decide) ?_
  refine zq_iadd dL_law_177 ?_
  refine zq_sald (i + 2) (nI_add i 2) ⟨by omega, by omega⟩ dL_law_178 ?_
  refine zq_aload_n dL_law_179 rfl rfl ?_
  refine zq_iload_n dL_law_180 rfl rfl ?_
  refine zq_iconst 3 dL_law_181 (by decide) ?_
  refine zq_iadd dL_law_182 ?_
  refine zq_sald (i + 3) (nI_add i 3) ⟨by omega, by omega⟩ dL_law_183 ?_
  refine zq_i2d dL_law_184 ?_
  refine zq_ldc2d 4593671619917905920 zk_L_21 (by decide +kernel) dL_law_185 ?_
  refine zq_dmul dL_law_188 ?_
  refine zq_callC _ zv_L_23 (m_X6_depth hGC hL hW hB) hC0 rfl rfl ⟨rfl, rfl⟩ rfl ⟨rfl, rfl, (Nat.le_of_ble_eq_true rfl), (Nat.le_of_ble_eq_true rfl)⟩ (Nat.le_of_ble_eq_true rfl) dL_law_189 ?_
  refine zq_aload_n dL_law_192 rfl rfl ?_
  refine zq_aload_n dL_law_193 rfl rfl ?_
  refine zq_iload_n dL_law_194 rfl rfl ?_
  refine zq_iconst 1 dL_law_195 (by decide) ?_
  refine zq_iadd dL_law_196 ?_
  refine zq_sald (i + 1) (nI_add i 1) ⟨by omega, by omega⟩ dL_law_197 ?_
  refine zq_aload_n dL_law_198 rfl rfl ?_
  refine zq_iload_n dL_law_199 rfl rfl ?_
  refine zq_iconst 2 dL_law_200 (by decide) ?_
  refine zq_iadd dL_law_201 ?_
  refine zq_sald (i + 2) (nI_add i 2) ⟨by omega, by omega⟩ dL_law_202 ?_
  refine zq_aload_n dL_law_203 rfl rfl ?_
  refine zq_iload_n dL_law_204 rfl rfl ?_
  refine zq_iconst 3 dL_law_205 (by decide) ?_
  refine zq_iadd dL_law_206 ?_
  refine zq_sald (i + 3) (nI_add i 3) ⟨by omega, by omega⟩ dL_law_207 ?_
  refine zq_i2d dL_law_208 ?_
  refine zq_ldc2d 4593671619917905920 zk_L_21 (by decide +kernel) dL_law_209 ?_
  refine zq_dmul dL_law_212 ?_
  refine zq_callM _ zv_L_27 (m_X7_depth hGM hM t0 t2) hM0 rfl rfl ⟨rfl, rfl⟩ rfl ⟨rfl, rfl, (Nat.le_of_ble_eq_true rfl), (Nat.le_of_ble_eq_true rfl)⟩ (Nat.le_of_ble_eq_true rfl) dL_law_213 ?_
  refine zq_icmp_eq (tgt := 1283) dL_law_216 (by decide) (fun _ => ?_) (fun h_ => absurd (depth_rel (by omega) HR t2 t0 _ _ _).1 h_)
  exact zLW_to (kk (n + 1) _ _ (by omega) ⟨(depth_rel (by omega) HR t2 t0 _ _ _).2, wf_depth hW⟩) ⟨rfl, rfl, rfl, rfl, trivial⟩

set_option maxHeartbeats 4000000 in
set_option maxRecDepth 100000 in
theorem law_border {g : ZG} {W9 : ZW9} {Q9 : ZQ9} {n w h i : Nat} {ly : Int32} {μ m : ZMem} (hGC : zGC W9.1 (w * h) (fcA w h)) (hGM : zGM W9.2.1) (hi : i + 5 ≤ W9.2.2.2.1) (hL9 : W9.2.2.2.1 ≤ 2563) (hn : n + 200 < 2 ^ 17) (H : zLI W9.1 n w h ly μ m) (kk : ∀ n' μ' m', n' ≤ n + 200 → zLI W9.1 n' w h ly μ' m' → zLW g W9 Q9 zKL 1283 (zls [(0, zr (some 0)), (1, zr (some 1)), (2, zr (some 2)), (3, zi (nI i))]) [] (μ', m')) : zLW g W9 Q9 zKL 221 (zls [(0, zr (some 0)), (1, zr (some 1)), (2, zr (some 2)), (3, zi (nI i))]) [] (μ, m) := by
  obtain ⟨HR, hW⟩ := H
  have HR0 := HR
  obtain ⟨⟨hd, hF4, hL, hB, hM, -⟩, hCl, hSp, hSi, hWi, hTi, hNI, hNe, hGa, hFi, hSa, hOu⟩ := HR0
  have hC0 : zO W9.1 6 0 := hGC.fix 0 (by decide)
  have hM0 : zO W9.2.1 7 0 := ⟨(hGM 0 rfl).1, (hGM 0 rfl).2.1⟩
  refine zq_aload_n dL_law_221 rfl rfl ?_
  refine zq_aload_n dL_law_222 rfl rfl ?_
  refine zq_iload_n dL_law_223 rfl rfl ?_
  refine zq_iconst 1 dL_law_224 (by decide) ?_
  refine zq_iadd dL_law_225 ?_
  refine zq_sald (i + 1) (nI_add i 1) ⟨by omega, by omega⟩ dL_law_226 ?_
  refine zq_aload_n dL_law_227 rfl rfl ?_
  refine zq_iload_n dL_law_228 rfl rfl ?_
  refine zq_iconst 2 dL_law_229 (by decide) ?_
  refine zq_iadd dL_law_230 ?_
  refine zq_sald (i + 2) (nI_add i 2) ⟨by omega, by omega⟩ dL_law_231 ?_
  refine zq_aload_n dL_law_232 rfl rfl ?_
  refine zq_iload_n dL_law_233 rfl rfl ?_
  refine zq_iconst 3 dL_law_234 (by decide) ?_
  refine zq_iadd dL_law_235 ?_
  refine zq_sald (i + 3) (nI_add i 3) ⟨by omega, by omega⟩ dL_law_236 ?_
  refine zq_i2d dL_law_237 ?_
  refine zq_ldc2d 4593671619917905920 zk_L_21 (by decide +kernel) dL_law_238 ?_
  refine zq_dmul dL_law_241 ?_
  refine zq_aload_n dL_law_242 rfl rfl ?_
  refine zq_iload_n dL_law_243 rfl rfl ?_
  refine zq_iconst 4 dL_law_244 (by decide) ?_
  refine zq_iadd dL_law_245 ?_
  refine zq_sald (i + 4) (nI_add i 4) ⟨by omega, by omega⟩ dL_law_246 ?_
  refine zq_i2d dL_law_247 ?_
  refine zq_ldc2d 4593671619917905920 zk_L_21 (by decide +kernel) dL_law_248 ?_
  refine zq_dmul dL_law_251 ?_
  refine zq_callC _ zv_L_28 (m_X6_border hGC hL hW) hC0 rfl rfl ⟨rfl, rfl⟩ rfl ⟨rfl, rfl, (Nat.le_of_ble_eq_true rfl), (Nat.le_of_ble_eq_true rfl)⟩ (Nat.le_of_ble_eq_true rfl) dL_law_252 ?_
  refine zq_aload_n dL_law_255 rfl rfl ?_
  refine zq_aload_n dL_law_256 rfl rfl ?_
  refine zq_iload_n dL_law_257 rfl rfl ?_
  refine zq_iconst 1 dL_law_258 (by decide) ?_
  refine zq_iadd dL_law_259 ?_
  refine zq_sald (i + 1) (nI_add i 1) ⟨by omega, by omega⟩ dL_law_260 ?_
  refine zq_aload_n dL_law_261 rfl rfl ?_
  refine zq_iload_n dL_law_262 rfl rfl ?_
  refine zq_iconst 2 dL_law_263 (by decide) ?_
  refine zq_iadd dL_law_264 ?_
  refine zq_sald (i + 2) (nI_add i 2) ⟨by omega, by omega⟩ dL_law_265 ?_
  refine zq_aload_n dL_law_266 rfl rfl ?_
  refine zq_iload_n dL_law_267 rfl rfl ?_
  refine zq_iconst 3 dL_law_268 (by decide) ?_
  refine zq_iadd dL_law_269 ?_
  refine zq_sald (i + 3) (nI_add i 3) ⟨by omega, by omega⟩ dL_law_270 ?_
  refine zq_i2d dL_law_271 ?_
  refine zq_ldc2d 4593671619917905920 zk_L_21 (by decide +kernel) dL_law_272 ?_
  refine zq_dmul dL_law_275 ?_
  refine zq_aload_n dL_law_276 rfl rfl ?_
  refine zq_iload_n dL_law_277 rfl rfl ?_
  refine zq_iconst 4 dL_law_278 (by decide) ?_
  refine zq_iadd dL_law_279 ?_
  refine zq_sald (i + 4) (nI_add i 4) ⟨by omega, by omega⟩ dL_law_280 ?_
  refine zq_i2d dL_law_281 ?_
  refine zq_ldc2d 4593671619917905920 zk_L_21 (by decide +kernel) dL_law_282 ?_
  refine zq_dmul dL_law_285 ?_
  refine zq_callM _ zv_L_32 (m_X7_border hGM hM) hM0 rfl rfl ⟨rfl, rfl⟩ rfl ⟨rfl, rfl, (Nat.le_of_ble_eq_true rfl), (Nat.le_of_ble_eq_true rfl)⟩ (Nat.le_of_ble_eq_true rfl) dL_law_286 ?_
  refine zq_icmp_eq (tgt := 1283) dL_law_289 (by decide) (fun _ => ?_) (fun h_ => absurd (border_rel HR _ _ _ _).1 h_)
  exact zLW_to (kk n _ _ (by omega) ⟨(border_rel HR _ _ _ _).2, wf_border hW⟩) ⟨rfl, rfl, rfl, rfl, trivial⟩

set_option maxHeartbeats 4000000 in
set_option maxRecDepth 100000 in
theorem law_wind {g : ZG} {W9 : ZW9} {Q9 : ZQ9} {n w h i : Nat} {ly : Int32} {μ m : ZMem} (hGC : zGC W9.1 (w * h) (fcA w h)) (hGM : zGM W9.2.1) (hi : i + 5 ≤ W9.2.2.2.1) (hL9 : W9.2.2.2.1 ≤ 2563) (hn : n + 200 < 2 ^ 17) (H : zLI W9.1 n w h ly μ m) (kk : ∀ n' μ' m', n' ≤ n + 200 → zLI W9.1 n' w h ly μ' m' → zLW g W9 Q9 zKL 1283 (zls [(0, zr (some 0)), (1, zr (some 1)), (2, zr (some 2)), (3, zi (nI i))]) [] (μ', m')) : zLW g W9 Q9 zKL 294 (zls [(0, zr (some 0)), (1, zr (some 1)), (2, zr (some 2)), (3, zi (nI i))]) [] (μ, m) := by
  obtain ⟨HR, hW⟩ := H
  have HR0 := HR
  obtain ⟨⟨hd, hF4, hL, hB, hM, -⟩, hCl, hSp, hSi, hWi, hTi, hNI, hNe, hGa, hFi, hSa, hOu⟩ := HR0
  have hC0 : zO W9.1 6 0 := hGC.fix 0 (by decide)
  have hM0 : zO W9.2.1 7 0 := ⟨(hGM 0 rfl).1, (hGM 0 rfl).2.1⟩
  refine zq_aload_n dL_law_294 rfl rfl ?_
  refine zq_aload_n dL_law_295 rfl rfl ?_
  refine zq_iload_n dL_law_296 rfl rfl ?_
  refine zq_iconst 1 dL_law_297 (by decide) ?_
  refine zq_iadd dL_law_298 ?_
  refine zq_sald (i + 1) (nI_add i 1) ⟨by omega, by omega⟩ dL_law_299 ?_
  refine zq_aload_n dL_law_300 rfl rfl ?_
  refine zq_iload_n dL_law_301 rfl rfl ?_
  refine zq_iconst 2 dL_law_302 (by decide) ?_
  refine zq_iadd dL_law_303 ?_
  refine zq_sald (i + 2) (nI_add i 2) ⟨by omega, by omega⟩ dL_law_304 ?_
  refine zq_i2d dL_law_305 ?_
  refine zq_ldc2d 4593671619917905920 zk_L_21 (by decide +kernel) dL_law_306 ?_
  refine zq_dmul dL_law_309 ?_
  refine zq_aload_n dL_law_310 rfl rfl ?_
  refine zq_iload_n dL_law_311 rfl rfl ?_
  refine zq_iconst 3 dL_law_312 (by decide) ?_
  refine zq_iadd dL_law_313 ?_
  refine zq_sald (i + 3) (nI_add i 3) ⟨by omega, by omega⟩ dL_law_314 ?_
  refine zq_i2d dL_law_315 ?_
  refine zq_ldc2d 4593671619917905920 zk_L_21 (by decide +kernel) dL_law_316 ?_
  refine zq_dmul dL_law_319 ?_
  refine zq_callC _ zv_L_33 (m_X6_wind hGC hL hW) hC0 rfl rfl ⟨rfl, rfl⟩ rfl ⟨rfl, rfl, (Nat.le_of_ble_eq_true rfl), (Nat.le_of_ble_eq_true rfl)⟩ (Nat.le_of_ble_eq_true rfl) dL_law_320 ?_
  refine zq_aload_n dL_law_323 rfl rfl ?_
  refine zq_aload_n dL_law_324 rfl rfl ?_
  refine zq_iload_n dL_law_325 rfl rfl ?_
  refine zq_iconst 1 dL_law_326 (by decide) ?_
  refine zq_iadd dL_law_327 ?_
  refine zq_sald (i + 1) (nI_add i 1) ⟨by omega, by omega⟩ dL_law_328 ?_
  refine zq_aload_n dL_law_329 rfl rfl ?_
  refine zq_iload_n dL_law_330 rfl rfl ?_
  refine zq_iconst 2 dL_law_331 (by decide) ?_
  refine zq_iadd dL_law_332 ?_
  refine zq_sald (i + 2) (nI_add i 2) ⟨by omega, by omega⟩ dL_law_333 ?_
  refine zq_i2d dL_law_334 ?_
  refine zq_ldc2d 4593671619917905920 zk_L_21 (by decide +kernel) dL_law_335 ?_
  refine zq_dmul dL_law_338 ?_
  refine zq_aload_n dL_law_339 rfl rfl ?_
  refine zq_iload_n dL_law_340 rfl rfl ?_
  refine zq_iconst 3 dL_law_341 (by decide) ?_
  refine zq_iadd dL_law_342 ?_
  refine zq_sald (i + 3) (nI_add i 3) ⟨by omega, by omega⟩ dL_law_343 ?_
  refine zq_i2d dL_law_344 ?_
  refine zq_ldc2d 4593671619917905920 zk_L_21 (by decide +kernel) dL_law_345 ?_
  refine zq_dmul dL_law_348 ?_
  refine zq_callM _ zv_L_37 (m_X7_wind hGM hM) hM0 rfl rfl ⟨rfl, rfl⟩ rfl ⟨rfl, rfl, (Nat.le_of_ble_eq_true rfl), (Nat.le_of_ble_eq_true rfl)⟩ (Nat.le_of_ble_eq_true rfl) dL_law_349 ?_
  refine zq_icmp_eq (tgt := 1283) dL_law_352 (by decide) (fun _ => ?_) (fun h_ => absurd (wind_rel HR _ _ _).1 h_)
  exact zLW_to (kk n _ _ (by omega) ⟨(wind_rel HR _ _ _).2, wf_wind hW⟩) ⟨rfl, rfl, rfl, rfl, trivial⟩

set_option maxHeartbeats 4000000 in
set_option maxRecDepth 100000 in
theorem law_river {g : ZG} {W9 : ZW9} {Q9 : ZQ9} {n w h i : Nat} {ly : Int32} {μ m : ZMem} (hGC : zGC W9.1 (w * h) (fcA w h)) (hGM : zGM W9.2.1) (hi : i + 5 ≤ W9.2.2.2.1) (hL9 : W9.2.2.2.1 ≤ 2563) (hn : n + 200 < 2 ^ 17) (H : zLI W9.1 n w h ly μ m) (kk : ∀ n' μ' m', n' ≤ n + 200 → zLI W9.1 n' w h ly μ' m' → zLW g W9 Q9 zKL 1283 (zls [(0, zr (some 0)), (1, zr (some 1)), (2, zr (some 2)), (3, zi (nI i))]) [] (μ', m')) : zLW g W9 Q9 zKL 357 (zls [(0, zr (some 0)), (1, zr (some 1)), (2, zr (some 2)), (3, zi (nI i))]) [] (μ, m) := by
  obtain ⟨HR, hW⟩ := H
  have HR0 := HR
  obtain ⟨⟨hd, hF4, hL, hB, hM, -⟩, hCl, hSp, hSi, hWi, hTi, hNI, hNe, hGa, hFi, hSa, hOu⟩ := HR0
  have hC0 : zO W9.1 6 0 := hGC.fix 0 (by decide)
  have hM0 : zO W9.2.1 7 0 := ⟨(hGM 0 rfl).1, (hGM 0 rfl).2.1⟩
  refine zq_aload_n dL_law_357 rfl rfl ?_
  refine zq_aload_n dL_law_358 rfl rfl ?_
  refine zq_iload_n dL_law_359 rfl rfl ?_
  refine zq_iconst 1 dL_law_360 (by decide) ?_
  refine zq_iadd dL_law_361 ?_
  refine zq_sald (i + 1) (nI_add i 1) ⟨by omega, by omega⟩ dL_law_362 ?_
  refine zq_aload_n dL_law_363 rfl rfl ?_
  refine zq_iload_n dL_law_364 rfl rfl ?_
  refine zq_iconst 2 dL_law_365 (by decide) ?_
  refine zq_iadd dL_law_366 ?_
  refine zq_sald (i + 2) (nI_add i 2) ⟨by omega, by omega⟩ dL_law_367 ?_
  refine zq_aload_n dL_law_368 rfl rfl ?_
  refine zq_iload_n dL_law_369 rfl rfl ?_
  refine zq_iconst 3 dL_law_370 (by decide) ?_
  refine zq_iadd dL_law_371 ?_
  refine zq_sald (i + 3) (nI_add i 3) ⟨by omega, by omega⟩ dL_law_372 ?_
  refine zq_i2d dL_law_373 ?_
  refine zq_ldc2d 4593671619917905920 zk_L_21 (by decide +kernel) dL_law_374 ?_
  refine zq_dmul dL_law_377 ?_
  refine zq_callC _ zv_L_38 (m_X6_river hGC hL hW) hC0 rfl rfl ⟨rfl, rfl⟩ rfl ⟨rfl, rfl, (Nat.le_of_ble_eq_true rfl), (Nat.le_of_ble_eq_true rfl)⟩ (Nat.le_of_ble_eq_true rfl) dL_law_378 ?_
  refine zq_aload_n dL_law_381 rfl rfl ?_
  refine zq_aload_n dL_law_382 rfl rfl ?_
  refine zq_iload_n dL_law_383 rfl rfl ?_
  refine zq_iconst 1 dL_law_384 (by decide) ?_
  refine zq_iadd dL_law_385 ?_
  refine zq_sald (i + 1) (nI_add i 1) ⟨by omega, by omega⟩ dL_law_386 ?_
  refine zq_aload_n dL_law_387 rfl rfl ?_
  refine zq_iload_n dL_law_388 rfl rfl ?_
  refine zq_iconst 2 dL_law_389 (by decide) ?_
  refine zq_iadd dL_law_390 ?_
  refine zq_sald (i + 2) (nI_add i 2) ⟨by omega, by omega⟩ dL_law_391 ?_
  refine zq_aload_n dL_law_392 rfl rfl ?_
  refine zq_iload_n dL_law_393 rfl rfl ?_
  refine zq_iconst 3 dL_law_394 (by decide) ?_
  refine zq_iadd dL_law_395 ?_
  refine zq_sald (i + 3) (nI_add i 3) ⟨by omega, by omega⟩ dL_law_396 ?_
  refine zq_i2d dL_law_397 ?_
  refine zq_ldc2d 4593671619917905920 zk_L_21 (by decide +kernel) dL_law_398 ?_
  refine zq_dmul dL_law_401 ?_
  refine zq_callM _ zv_L_41 (m_X7_river hGM hM) hM0 rfl rfl ⟨rfl, rfl⟩ rfl ⟨rfl, rfl, (Nat.le_of_ble_eq_true rfl), (Nat.le_of_ble_eq_true rfl)⟩ (Nat.le_of_ble_eq_true rfl) dL_law_402 ?_
  refine zq_icmp_eq (tgt := 1283) dL_law_405 (by decide) (fun _ => ?_) (fun h_ => absurd (river_rel HR _ _ _).1 h_)
  exact zLW_to (kk n _ _ (by omega) ⟨(river_rel HR _ _ _).2, wf_river hW⟩) ⟨rfl, rfl, rfl, rfl, trivial⟩

set_option maxHeartbeats 4000000 in
set_option maxRecDepth 100000 in
theorem law_run {g : ZG} {W9 : ZW9} {Q9 : ZQ9} {n w h i : Nat} {ly : Int32} {μ m : ZMem} (hGC : zGC W9.1 (w * h) (fcA w h)) (hGM : zGM W9.2.1) (hi : i + 5 ≤ W9.2.2.2.1) (hL9 : W9.2.2.2.1 ≤ 2563) (hn : n + 200 < 2 ^ 17) (H : zLI W9.1 n w h ly μ m) (kk : ∀ n' μ' m', n' ≤ n + 200 → zLI W9.1 n' w h ly μ' m' → zLW g W9 Q9 zKL 1283 (zls [(0, zr (some 0)), (1, zr (some 1)), (2, zr (some 2)), (3, zi (nI i))]) [] (μ', m')) : zLW g W9 Q9 zKL 410 (zls [(0, zr (some 0)), (1, zr (some 1)), (2, zr (some 2)), (3, zi (nI i))]) [] (μ, m) := by
  obtain ⟨HR, hW⟩ := H
  have HR0 := HR
  obtain ⟨⟨hd, hF4, hL, hB, hM, -⟩, hCl, hSp, hSi, hWi, hTi, hNI, hNe, hGa, hFi, hSa, hOu⟩ := HR0
  have hC0 : zO W9.1 6 0 := hGC.fix 0 (by decide)
  have hM0 : zO W9.2.1 7 0 := ⟨(hGM 0 rfl).1, (hGM 0 rfl).2.1⟩
  refine zq_aload_n dL_law_410 rfl rfl ?_
  refine zq_aload_n dL_law_411 rfl rfl ?_
  refine zq_iload_n dL_law_412 rfl rfl ?_
  refine zq_iconst 1 dL_law_413 (by decide) ?_
  refine zq_iadd dL_law_414 ?_
  refine zq_sald (i + 1) (nI_add i 1) ⟨by omega, by omega⟩ dL_law_415 ?_
  refine zq_aload_n dL_law_416 rfl rfl ?_
  refine zq_iload_n dL_law_417 rfl rfl ?_
  refine zq_iconst 2 dL_law_418 (by decide) ?_
  refine zq_iadd dL_law_419 ?_
  refine zq_sald (i + 2) (nI_add i 2) ⟨by omega, by omega⟩ dL_law_420 ?_
  refine zq_i2d dL_law_421 ?_
  refine zq_ldc2d 4593671619917905920 zk_L_21 (by decide +kernel) dL_law_422 ?_
  refine zq_dmul dL_law_425 ?_
  refine zq_callC _ zv_L_42 (m_X6_run hGC hL hW hB) hC0 rfl rfl ⟨rfl, rfl⟩ rfl ⟨rfl, rfl, (Nat.le_of_ble_eq_true rfl), (Nat.le_of_ble_eq_true rfl)⟩ (Nat.le_of_ble_eq_true rfl) dL_law_426 ?_
  refine zq_aload_n dL_law_429 rfl rfl ?_
  refine zq_aload_n dL_law_430 rfl rfl ?_
  refine zq_iload_n dL_law_431 rfl rfl ?_
  refine zq_iconst 1 dL_law_432 (by decide) ?_
  refine zq_iadd dL_law_433 ?_
  refine zq_sald (i + 1) (nI_add i 1) ⟨by omega, by omega⟩ dL_law_434 ?_
  refine zq_aload_n dL_law_435 rfl rfl ?_
  refine zq_iload_n dL_law_436 rfl rfl ?_
  refine zq_iconst 2 dL_law_437 (by decide) ?_
  refine zq_iadd dL_law_438 ?_
  refine zq_sald (i + 2) (nI_add i 2) ⟨by omega, by omega⟩ dL_law_439 ?_
  refine zq_i2d dL_law_440 ?_
  refine zq_ldc2d 4593671619917905920 zk_L_21 (by decide +kernel) dL_law_441 ?_
  refine zq_dmul dL_law_444 ?_
  refine zq_callM _ zv_L_46 (m_X7_run hGM hM (run_rel HR hn _ _).2.2) hM0 rfl rfl ⟨rfl, rfl⟩ rfl ⟨rfl, rfl, (Nat.le_of_ble_eq_true rfl), (Nat.le_of_ble_eq_true rfl)⟩ (Nat.le_of_ble_eq_true rfl) dL_law_445 ?_
  refine zq_icmp_eq (tgt := 1283) dL_law_448 (by decide) (fun _ => ?_) (fun h_ => absurd (run_rel HR hn _ _).1 h_)
  exact zLW_to (kk (n + 200) _ _ (by omega) ⟨(run_rel HR hn _ _).2.1, wf_run hW⟩) ⟨rfl, rfl, rfl, rfl, trivial⟩

set_option maxHeartbeats 4000000 in
set_option maxRecDepth 100000 in
theorem law_level {g : ZG} {W9 : ZW9} {Q9 : ZQ9} {n w h i : Nat} {ly : Int32} {μ m : ZMem} (hGC : zGC W9.1 (w * h) (fcA w h)) (hGM : zGM W9.2.1) (hi : i + 5 ≤ W9.2.2.2.1) (hL9 : W9.2.2.2.1 ≤ 2563) (hn : n + 200 < 2 ^ 17) (H : zLI W9.1 n w h ly μ m) (kk : ∀ n' μ' m', n' ≤ n + 200 → zLI W9.1 n' w h ly μ' m' → zLW g W9 Q9 zKL 1283 (zls [(0, zr (some 0)), (1, zr (some 1)), (2, zr (some 2)), (3, zi (nI i))]) [] (μ', m')) : zLW g W9 Q9 zKL 453 (zls [(0, zr (some 0)), (1, zr (some 1)), (2, zr (some 2)), (3, zi (nI i))]) [] (μ, m) := by
  obtain ⟨HR, hW⟩ := H
  have HR0 := HR
  obtain ⟨⟨hd, hF4, hL, hB, hM, -⟩, hCl, hSp, hSi, hWi, hTi, hNI, hNe, hGa, hFi, hSa, hOu⟩ := HR0
  have hC0 : zO W9.1 6 0 := hGC.fix 0 (by decide)
  have hM0 : zO W9.2.1 7 0 := ⟨(hGM 0 rfl).1, (hGM 0 rfl).2.1⟩
  refine zq_aload_n dL_law_453 rfl rfl ?_
  refine zq_aload_n dL_law_454 rfl rfl ?_
  refine zq_iload_n dL_law_455 rfl rfl ?_
  refine zq_iconst 1 dL_law_456 (by decide) ?_
  refine zq_iadd dL_law_457 ?_
  refine zq_sald (i + 1) (nI_add i 1) ⟨by omega, by omega⟩ dL_law_458 ?_
  refine zq_aload_n dL_law_459 rfl rfl ?_
  refine zq_iload_n dL_law_460 rfl rfl ?_
  refine zq_iconst 2 dL_law_461 (by decide) ?_
  refine zq_iadd dL_law_462 ?_
  refine zq_sald (i + 2) (nI_add i 2) ⟨by omega, by omega⟩ dL_law_463 ?_
  refine zq_callC _ zv_L_47 (m_X6_level hGC hL hW) hC0 rfl rfl ⟨rfl, rfl⟩ rfl ⟨rfl, rfl, (Nat.le_of_ble_eq_true rfl), (Nat.le_of_ble_eq_true rfl)⟩ (Nat.le_of_ble_eq_true rfl) dL_law_464 ?_
  refine zq_dstore dL_law_467 (Nat.le_of_ble_eq_true rfl) ?_
  refine zq_aload_n dL_law_469 rfl rfl ?_
  refine zq_aload_n dL_law_470 rfl rfl ?_
  refine zq_iload_n dL_law_471 rfl rfl ?_
  refine zq_iconst 1 dL_law_472 (by decide) ?_
  refine zq_iadd dL_law_473 ?_
  refine zq_sald (i + 1) (nI_add i 1) ⟨by omega, by omega⟩ dL_law_474 ?_
  refine zq_aload_n dL_law_475 rfl rfl ?_
  refine zq_iload_n dL_law_476 rfl rfl ?_
  refine zq_iconst 2 dL_law_477 (by decide) ?_
  refine zq_iadd dL_law_478 ?_
  refine zq_sald (i + 2) (nI_add i 2) ⟨by omega, by omega⟩ dL_law_479 ?_
  refine zq_callM _ zv_L_51 (m_X7_level hGM hM) hM0 rfl rfl ⟨rfl, rfl⟩ rfl ⟨rfl, rfl, (Nat.le_of_ble_eq_true rfl), (Nat.le_of_ble_eq_true rfl)⟩ (Nat.le_of_ble_eq_true rfl) dL_law_480 ?_
  refine zq_dstore dL_law_483 (Nat.le_of_ble_eq_true rfl) ?_
  have hz_ := zq_law (Or.inl (level_rel hd hCl (W9.2.2.2.2 (i + 1)) (W9.2.2.2.2 (i + 2))))
  refine zq_dload dL_law_485 rfl ?_
  refine zq_dload dL_law_487 rfl ?_
  refine zq_dcmp dL_law_489 ?_
  refine zq_if_eq (tgt := 511) dL_law_490 (by decide) (fun _ => ?_) (fun c1_ => ?_)
  · exact zq_goto (tgt := 1283) dL_law_511 (by decide) (zLW_to (kk n _ _ (by omega) ⟨HR, hW⟩) ⟨rfl, rfl, rfl, rfl, trivial⟩)
  have hz1 := hz_.resolve_left c1_
  refine zq_dload dL_law_493 rfl ?_
  refine zq_dload dL_law_495 rfl ?_
  refine zq_dcmp dL_law_497 ?_
  refine zq_if_eq (tgt := 509) dL_law_498 (by decide) (fun h_ => absurd h_ hz1.1) (fun _ => ?_)
  refine zq_dload dL_law_501 rfl ?_
  refine zq_dload dL_law_503 rfl ?_
  refine zq_dcmp dL_law_505 ?_
  refine zq_if_ne (tgt := 511) dL_law_506 (by decide) (fun _ => ?_) (fun h_ => by first | exact absurd h_ hz1.2 | exact absurd hz1.2 h_)
  exact zq_goto (tgt := 1283) dL_law_511 (by decide) (zLW_to (kk n _ _ (by omega) ⟨HR, hW⟩) ⟨rfl, rfl, rfl, rfl, trivial⟩)

set_option maxHeartbeats 4000000 in
set_option maxRecDepth 100000 in
theorem law_speed {g : ZG} {W9 : ZW9} {Q9 : ZQ9} {n w h i : Nat} {ly : Int32} {μ m : ZMem} (hGC : zGC W9.1 (w * h) (fcA w h)) (hGM : zGM W9.2.1) (hi : i + 5 ≤ W9.2.2.2.1) (hL9 : W9.2.2.2.1 ≤ 2563) (hn : n + 200 < 2 ^ 17) (H : zLI W9.1 n w h ly μ m) (kk : ∀ n' μ' m', n' ≤ n + 200 → zLI W9.1 n' w h ly μ' m' → zLW g W9 Q9 zKL 1283 (zls [(0, zr (some 0)), (1, zr (some 1)), (2, zr (some 2)), (3, zi (nI i))]) [] (μ', m')) : zLW g W9 Q9 zKL 514 (zls [(0, zr (some 0)), (1, zr (some 1)), (2, zr (some 2)), (3, zi (nI i))]) [] (μ, m) := by
  obtain ⟨HR, hW⟩ := H
  have HR0 := HR
  obtain ⟨⟨hd, hF4, hL, hB, hM, -⟩, hCl, hSp, hSi, hWi, hTi, hNI, hNe, hGa, hFi, hSa, hOu⟩ := HR0
  have hC0 : zO W9.1 6 0 := hGC.fix 0 (by decide)
  have hM0 : zO W9.2.1 7 0 := ⟨(hGM 0 rfl).1, (hGM 0 rfl).2.1⟩
  refine zq_aload_n dL_law_514 rfl rfl ?_
  refine zq_aload_n dL_law_515 rfl rfl ?_
  refine zq_iload_n dL_law_516 rfl rfl ?_
  refine zq_iconst 1 dL_law_517 (by decide) ?_
  refine zq_iadd dL_law_518 ?_
  refine zq_sald (i + 1) (nI_add i 1) ⟨by omega, by omega⟩ dL_law_519 ?_
  refine zq_aload_n dL_law_520 rfl rfl ?_
  refine zq_iload_n dL_law_521 rfl rfl ?_
  refine zq_iconst 2 dL_law_522 (by decide) ?_
  refine zq_iadd dL_law_523 ?_
  refine zq_sald (i + 2) (nI_add i 2) ⟨by omega, by omega⟩ dL_law_524 ?_
  refine zq_aload_n dL_law_525 rfl rfl ?_
  refine zq_iload_n dL_law_526 rfl rfl ?_
  refine zq_iconst 3 dL_law_527 (by decide) ?_
  refine zq_iadd dL_law_528 ?_
  refine zq_sald (i + 3) (nI_add i 3) ⟨by omega, by omega⟩ dL_law_529 ?_
  refine zq_aload_n dL_law_530 rfl rfl ?_
  refine zq_iload_n dL_law_531 rfl rfl ?_
  refine zq_iconst 4 dL_law_532 (by decide) ?_
  refine zq_iadd dL_law_533 ?_
  refine zq_sald (i + 4) (nI_add i 4) ⟨by omega, by omega⟩ dL_law_534 ?_
  refine zq_callC _ zv_L_52 (m_X6_speed hGC hL hW) hC0 rfl rfl ⟨rfl, rfl⟩ rfl ⟨rfl, rfl, (Nat.le_of_ble_eq_true rfl), (Nat.le_of_ble_eq_true rfl)⟩ (Nat.le_of_ble_eq_true rfl) dL_law_535 ?_
  refine zq_dstore dL_law_538 (Nat.le_of_ble_eq_true rfl) ?_
  refine zq_aload_n dL_law_540 rfl rfl ?_
  refine zq_aload_n dL_law_541 rfl rfl ?_
  refine zq_iload_n dL_law_542 rfl rfl ?_
  refine zq_iconst 1 dL_law_543 (by decide) ?_
  refine zq_iadd dL_law_544 ?_
  refine zq_sald (i + 1) (nI_add i 1) ⟨by omega, by omega⟩ dL_law_545 ?_
  refine zq_aload_n dL_law_546 rfl rfl ?_
  refine zq_iload_n dL_law_547 rfl rfl ?_
  refine zq_iconst 2 dL_law_548 (by decide) ?_
  refine zq_iadd dL_law_549 ?_
  refine zq_sald (i + 2) (nI_add i 2) ⟨by omega, by omega⟩ dL_law_550 ?_
  refine zq_aload_n dL_law_551 rfl rfl ?_
  refine zq_iload_n dL_law_552 rfl rfl ?_
  refine zq_iconst 3 dL_law_553 (by decide) ?_
  refine zq_iadd dL_law_554 ?_
  refine zq_sald (i + 3) (nI_add i 3) ⟨by omega, by omega⟩ dL_law_555 ?_
  refine zq_aload_n dL_law_556 rfl rfl ?_
  refine zq_iload_n dL_law_557 rfl rfl ?_
  refine zq_iconst 4 dL_law_558 (by decide) ?_
  refine zq_iadd dL_law_559 ?_
  refine zq_sald (i + 4) (nI_add i 4) ⟨by omega, by omega⟩ dL_law_560 ?_
  refine zq_callM _ zv_L_56 (m_X7_speed hGM hM) hM0 rfl rfl ⟨rfl, rfl⟩ rfl ⟨rfl, rfl, (Nat.le_of_ble_eq_true rfl), (Nat.le_of_ble_eq_true rfl)⟩ (Nat.le_of_ble_eq_true rfl) dL_law_561 ?_
  refine zq_dstore dL_law_564 (Nat.le_of_ble_eq_true rfl) ?_
  have hz_ := zq_law (speed_rel HR (by omega) (W9.2.2.2.2 (i + 1)) (W9.2.2.2.2 (i + 2)) (W9.2.2.2.2 (i + 3)) (W9.2.2.2.2 (i + 4)))
  refine zq_dload dL_law_566 rfl ?_
  refine zq_dload dL_law_568 rfl ?_
  refine zq_dcmp dL_law_570 ?_
  refine zq_if_eq (tgt := 592) dL_law_571 (by decide) (fun _ => ?_) (fun c1_ => ?_)
  · exact zq_goto (tgt := 1283) dL_law_592 (by decide) (zLW_to (kk n _ _ (by omega) ⟨HR, hW⟩) ⟨rfl, rfl, rfl, rfl, trivial⟩)
  have hz1 := hz_.resolve_left c1_
  refine zq_dload dL_law_574 rfl ?_
  refine zq_dload dL_law_576 rfl ?_
  refine zq_dcmp dL_law_578 ?_
  refine zq_if_eq (tgt := 590) dL_law_579 (by decide) (fun h_ => absurd h_ hz1.1) (fun _ => ?_)
  refine zq_dload dL_law_582 rfl ?_
  refine zq_dload dL_law_584 rfl ?_
  refine zq_dcmp dL_law_586 ?_
  refine zq_if_ne (tgt := 592) dL_law_587 (by decide) (fun _ => ?_) (fun h_ => by first | exact absurd h_ hz1.2 | exact absurd hz1.2 h_)
  exact zq_goto (tgt := 1283) dL_law_592 (by decide) (zLW_to (kk n _ _ (by omega) ⟨HR, hW⟩) ⟨rfl, rfl, rfl, rfl, trivial⟩)

set_option maxHeartbeats 4000000 in
set_option maxRecDepth 100000 in
theorem law_volume {g : ZG} {W9 : ZW9} {Q9 : ZQ9} {n w h i : Nat} {ly : Int32} {μ m : ZMem} (hGC : zGC W9.1 (w * h) (fcA w h)) (hGM : zGM W9.2.1) (hi : i + 5 ≤ W9.2.2.2.1) (hL9 : W9.2.2.2.1 ≤ 2563) (hn : n + 200 < 2 ^ 17) (H : zLI W9.1 n w h ly μ m) (kk : ∀ n' μ' m', n' ≤ n + 200 → zLI W9.1 n' w h ly μ' m' → zLW g W9 Q9 zKL 1283 (zls [(0, zr (some 0)), (1, zr (some 1)), (2, zr (some 2)), (3, zi (nI i))]) [] (μ', m')) : zLW g W9 Q9 zKL 595 (zls [(0, zr (some 0)), (1, zr (some 1)), (2, zr (some 2)), (3, zi (nI i))]) [] (μ, m) := by
  obtain ⟨HR, hW⟩ := H
  have HR0 := HR
  obtain ⟨⟨hd, hF4, hL, hB, hM, -⟩, hCl, hSp, hSi, hWi, hTi, hNI, hNe, hGa, hFi, hSa, hOu⟩ := HR0
  have hC0 : zO W9.1 6 0 := hGC.fix 0 (by decide)
  have hM0 : zO W9.2.1 7 0 := ⟨(hGM 0 rfl).1, (hGM 0 rfl).2.1⟩
  refine zq_aload_n dL_law_595 rfl rfl ?_
  refine zq_aload_n dL_law_596 rfl rfl ?_
  refine zq_iload_n dL_law_597 rfl rfl ?_
  refine zq_iconst 1 dL_law_598 (by decide) ?_
  refine zq_iadd dL_law_599 ?_
  refine zq_sald (i + 1) (nI_add i 1) ⟨by omega, by omega⟩ dL_law_600 ?_
  refine zq_callC _ zv_L_57 (m_X6_volume hGC hL hW) hC0 rfl rfl ⟨rfl, rfl⟩ rfl ⟨rfl, rfl, (Nat.le_of_ble_eq_true rfl), (Nat.le_of_ble_eq_true rfl)⟩ (Nat.le_of_ble_eq_true rfl) dL_law_601 ?_
  refine zq_aload_n dL_law_604 rfl rfl ?_
  refine zq_aload_n dL_law_605 rfl rfl ?_
  refine zq_iload_n dL_law_606 rfl rfl ?_
  refine zq_iconst 1 dL_law_607 (by decide) ?_
  refine zq_iadd dL_law_608 ?_
  refine zq_sald (i + 1) (nI_add i 1) ⟨by omega, by omega⟩ dL_law_609 ?_
  refine zq_callM _ zv_L_61 (m_X7_volume hGM hM) hM0 rfl rfl ⟨rfl, rfl⟩ rfl ⟨rfl, rfl, (Nat.le_of_ble_eq_true rfl), (Nat.le_of_ble_eq_true rfl)⟩ (Nat.le_of_ble_eq_true rfl) dL_law_610 ?_
  refine zq_lcmp dL_law_613 ?_
  refine zq_if_eq (tgt := 1283) dL_law_614 (by decide) (fun _ => ?_) (fun h_ => absurd ((zlc_eq _ _).mpr (volume_rel hd hCl hOu _)) h_)
  exact zLW_to (kk n _ _ (by omega) ⟨HR, hW⟩) ⟨rfl, rfl, rfl, rfl, trivial⟩

set_option maxHeartbeats 4000000 in
set_option maxRecDepth 100000 in
theorem law_through {g : ZG} {W9 : ZW9} {Q9 : ZQ9} {n w h i : Nat} {ly : Int32} {μ m : ZMem} (hGC : zGC W9.1 (w * h) (fcA w h)) (hGM : zGM W9.2.1) (hi : i + 5 ≤ W9.2.2.2.1) (hL9 : W9.2.2.2.1 ≤ 2563) (hn : n + 200 < 2 ^ 17) (H : zLI W9.1 n w h ly μ m) (kk : ∀ n' μ' m', n' ≤ n + 200 → zLI W9.1 n' w h ly μ' m' → zLW g W9 Q9 zKL 1283 (zls [(0, zr (some 0)), (1, zr (some 1)), (2, zr (some 2)), (3, zi (nI i))]) [] (μ', m')) : zLW g W9 Q9 zKL 619 (zls [(0, zr (some 0)), (1, zr (some 1)), (2, zr (some 2)), (3, zi (nI i))]) [] (μ, m) := by
  obtain ⟨HR, hW⟩ := H
  have HR0 := HR
  obtain ⟨⟨hd, hF4, hL, hB, hM, -⟩, hCl, hSp, hSi, hWi, hTi, hNI, hNe, hGa, hFi, hSa, hOu⟩ := HR0
  have hC0 : zO W9.1 6 0 := hGC.fix 0 (by decide)
  have hM0 : zO W9.2.1 7 0 := ⟨(hGM 0 rfl).1, (hGM 0 rfl).2.1⟩
  refine zq_aload_n dL_law_619 rfl rfl ?_
  refine zq_aload_n dL_law_620 rfl rfl ?_
  refine zq_iload_n dL_law_621 rfl rfl ?_
  refine zq_iconst 1 dL_law_622 (by decide) ?_
  refine zq_iadd dL_law_623 ?_
  refine zq_sald (i + 1) (nI_add i 1) ⟨by omega, by omega⟩ dL_law_624 ?_
  refine zq_aload_n dL_law_625 rfl rfl ?_
  refine zq_iload_n dL_law_626 rfl rfl ?_
  refine zq_iconst 2 dL_law_627 (by decide) ?_
  refine zq_iadd dL_law_628 ?_
  refine zq_sald (i + 2) (nI_add i 2) ⟨by omega, by omega⟩ dL_law_629 ?_
  refine zq_callC _ zv_L_62 (m_X6_through hGC hL hW) hC0 rfl rfl ⟨rfl, rfl⟩ rfl ⟨rfl, rfl, (Nat.le_of_ble_eq_true rfl), (Nat.le_of_ble_eq_true rfl)⟩ (Nat.le_of_ble_eq_true rfl) dL_law_630 ?_
  refine zq_aload_n dL_law_633 rfl rfl ?_
  refine zq_aload_n dL_law_634 rfl rfl ?_
  refine zq_iload_n dL_law_635 rfl rfl ?_
  refine zq_iconst 1 dL_law_636 (by decide) ?_
  refine zq_iadd dL_law_637 ?_
  refine zq_sald (i + 1) (nI_add i 1) ⟨by omega, by omega⟩ dL_law_638 ?_
  refine zq_aload_n dL_law_639 rfl rfl ?_
  refine zq_iload_n dL_law_640 rfl rfl ?_
  refine zq_iconst 2 dL_law_641 (by decide) ?_
  refine zq_iadd dL_law_642 ?_
  refine zq_sald (i + 2) (nI_add i 2) ⟨by omega, by omega⟩ dL_law_643 ?_
  refine zq_callM _ zv_L_66 (m_X7_through hGM hM) hM0 rfl rfl ⟨rfl, rfl⟩ rfl ⟨rfl, rfl, (Nat.le_of_ble_eq_true rfl), (Nat.le_of_ble_eq_true rfl)⟩ (Nat.le_of_ble_eq_true rfl) dL_law_644 ?_
  refine zq_lcmp dL_law_647 ?_
  refine zq_if_eq (tgt := 1283) dL_law_648 (by decide) (fun _ => ?_) (fun h_ => absurd ((zlc_eq _ _).mpr (through_rel hSi _ _)) h_)
  exact zLW_to (kk n _ _ (by omega) ⟨HR, hW⟩) ⟨rfl, rfl, rfl, rfl, trivial⟩

set_option maxHeartbeats 4000000 in
set_option maxRecDepth 100000 in
theorem law_kept {g : ZG} {W9 : ZW9} {Q9 : ZQ9} {n w h i : Nat} {ly : Int32} {μ m : ZMem} (hGC : zGC W9.1 (w * h) (fcA w h)) (hGM : zGM W9.2.1) (hi : i + 5 ≤ W9.2.2.2.1) (hL9 : W9.2.2.2.1 ≤ 2563) (hn : n + 200 < 2 ^ 17) (H : zLI W9.1 n w h ly μ m) (kk : ∀ n' μ' m', n' ≤ n + 200 → zLI W9.1 n' w h ly μ' m' → zLW g W9 Q9 zKL 1283 (zls [(0, zr (some 0)), (1, zr (some 1)), (2, zr (some 2)), (3, zi (nI i))]) [] (μ', m')) : zLW g W9 Q9 zKL 653 (zls [(0, zr (some 0)), (1, zr (some 1)), (2, zr (some 2)), (3, zi (nI i))]) [] (μ, m) := by
  obtain ⟨HR, hW⟩ := H
  have HR0 := HR
  obtain ⟨⟨hd, hF4, hL, hB, hM, -⟩, hCl, hSp, hSi, hWi, hTi, hNI, hNe, hGa, hFi, hSa, hOu⟩ := HR0
  have hC0 : zO W9.1 6 0 := hGC.fix 0 (by decide)
  have hM0 : zO W9.2.1 7 0 := ⟨(hGM 0 rfl).1, (hGM 0 rfl).2.1⟩
  refine zq_aload_n dL_law_653 rfl rfl ?_
  refine zq_callC _ zv_L_67 (m_X6_kept hGC hL hW) hC0 rfl rfl ⟨rfl, rfl⟩ rfl ⟨rfl, rfl, (Nat.le_of_ble_eq_true rfl), (Nat.le_of_ble_eq_true rfl)⟩ (Nat.le_of_ble_eq_true rfl) dL_law_654 ?_
  refine zq_aload_n dL_law_657 rfl rfl ?_
  refine zq_callM _ zv_L_71 (m_X7_kept hGM hM) hM0 rfl rfl ⟨rfl, rfl⟩ rfl ⟨rfl, rfl, (Nat.le_of_ble_eq_true rfl), (Nat.le_of_ble_eq_true rfl)⟩ (Nat.le_of_ble_eq_true rfl) dL_law_658 ?_
  refine zq_icmp_eq (tgt := 1283) dL_law_661 (by decide) (fun _ => ?_) (fun h_ => absurd (kept_rel hd hCl hOu hSi hTi) h_)
  exact zLW_to (kk n _ _ (by omega) ⟨HR, hW⟩) ⟨rfl, rfl, rfl, rfl, trivial⟩

set_option maxHeartbeats 4000000 in
set_option maxRecDepth 100000 in
theorem law_warm {g : ZG} {W9 : ZW9} {Q9 : ZQ9} {n w h i : Nat} {ly : Int32} {μ m : ZMem} (hGC : zGC W9.1 (w * h) (fcA w h)) (hGM : zGM W9.2.1) (hi : i + 5 ≤ W9.2.2.2.1) (hL9 : W9.2.2.2.1 ≤ 2563) (hn : n + 200 < 2 ^ 17) (H : zLI W9.1 n w h ly μ m) (kk : ∀ n' μ' m', n' ≤ n + 200 → zLI W9.1 n' w h ly μ' m' → zLW g W9 Q9 zKL 1283 (zls [(0, zr (some 0)), (1, zr (some 1)), (2, zr (some 2)), (3, zi (nI i))]) [] (μ', m')) : zLW g W9 Q9 zKL 666 (zls [(0, zr (some 0)), (1, zr (some 1)), (2, zr (some 2)), (3, zi (nI i))]) [] (μ, m) := by
  obtain ⟨HR, hW⟩ := H
  have HR0 := HR
  obtain ⟨⟨hd, hF4, hL, hB, hM, -⟩, hCl, hSp, hSi, hWi, hTi, hNI, hNe, hGa, hFi, hSa, hOu⟩ := HR0
  have hC0 : zO W9.1 6 0 := hGC.fix 0 (by decide)
  have hM0 : zO W9.2.1 7 0 := ⟨(hGM 0 rfl).1, (hGM 0 rfl).2.1⟩
  refine zq_aload_n dL_law_666 rfl rfl ?_
  refine zq_aload_n dL_law_667 rfl rfl ?_
  refine zq_iload_n dL_law_668 rfl rfl ?_
  refine zq_iconst 1 dL_law_669 (by decide) ?_
  refine zq_iadd dL_law_670 ?_
  refine zq_sald (i + 1) (nI_add i 1) ⟨by omega, by omega⟩ dL_law_671 ?_
  refine zq_aload_n dL_law_672 rfl rfl ?_
  refine zq_iload_n dL_law_673 rfl rfl ?_
  refine zq_iconst 2 dL_law_674 (by decide) ?_
  refine zq_iadd dL_law_675 ?_
  refine zq_sald (i + 2) (nI_add i 2) ⟨by omega, by omega⟩ dL_law_676 ?_
  refine zq_aload_n dL_law_677 rfl rfl ?_
  refine zq_iload_n dL_law_678 rfl rfl ?_
  refine zq_iconst 3 dL_law_679 (by decide) ?_
  refine zq_iadd dL_law_680 ?_
  refine zq_sald (i + 3) (nI_add i 3) ⟨by omega, by omega⟩ dL_law_681 ?_
  refine zq_callC _ zv_L_72 (m_X6_warm hGC hL hW) hC0 rfl rfl ⟨rfl, rfl⟩ rfl ⟨rfl, rfl, (Nat.le_of_ble_eq_true rfl), (Nat.le_of_ble_eq_true rfl)⟩ (Nat.le_of_ble_eq_true rfl) dL_law_682 ?_
  refine zq_dstore dL_law_685 (Nat.le_of_ble_eq_true rfl) ?_
  refine zq_aload_n dL_law_687 rfl rfl ?_
  refine zq_aload_n dL_law_688 rfl rfl ?_
  refine zq_iload_n dL_law_689 rfl rfl ?_
  refine zq_iconst 1 dL_law_690 (by decide) ?_
  refine zq_iadd dL_law_691 ?_
  refine zq_sald (i + 1) (nI_add i 1) ⟨by omega, by omega⟩ dL_law_692 ?_
  refine zq_aload_n dL_law_693 rfl rfl ?_
  refine zq_iload_n dL_law_694 rfl rfl ?_
  refine zq_iconst 2 dL_law_695 (by decide) ?_
  refine zq_iadd dL_law_696 ?_
  refine zq_sald (i + 2) (nI_add i 2) ⟨by omega, by omega⟩ dL_law_697 ?_
  refine zq_aload_n dL_law_698 rfl rfl ?_
  refine zq_iload_n dL_law_699 rfl rfl ?_
  refine zq_iconst 3 dL_law_700 (by decide) ?_
  refine zq_iadd dL_law_701 ?_
  refine zq_sald (i + 3) (nI_add i 3) ⟨by omega, by omega⟩ dL_law_702 ?_
  refine zq_callM _ zv_L_76 (m_X7_warm hGM hM) hM0 rfl rfl ⟨rfl, rfl⟩ rfl ⟨rfl, rfl, (Nat.le_of_ble_eq_true rfl), (Nat.le_of_ble_eq_true rfl)⟩ (Nat.le_of_ble_eq_true rfl) dL_law_703 ?_
  refine zq_dstore dL_law_706 (Nat.le_of_ble_eq_true rfl) ?_
  have hz_ := zq_law (warm_rel hd hCl ly (W9.2.2.2.2 (i + 1)) (W9.2.2.2.2 (i + 2)) (W9.2.2.2.2 (i + 3)))
  refine zq_dload dL_law_708 rfl ?_
  refine zq_dload dL_law_710 rfl ?_
  refine zq_dcmp dL_law_712 ?_
  refine zq_if_eq (tgt := 734) dL_law_713 (by decide) (fun _ => ?_) (fun c1_ => ?_)
  · exact zq_goto (tgt := 1283) dL_law_734 (by decide) (zLW_to (kk n _ _ (by omega) ⟨HR, hW⟩) ⟨rfl, rfl, rfl, rfl, trivial⟩)
  have hz1 := hz_.resolve_left c1_
  refine zq_dload dL_law_716 rfl ?_
  refine zq_dload dL_law_718 rfl ?_
  refine zq_dcmp dL_law_720 ?_
  refine zq_if_eq (tgt := 732) dL_law_721 (by decide) (fun h_ => absurd h_ hz1.1) (fun _ => ?_)
  refine zq_dload dL_law_724 rfl ?_
  refine zq_dload dL_law_726 rfl ?_
  refine zq_dcmp dL_law_728 ?_
  refine zq_if_ne (tgt := 734) dL_law_729 (by decide) (fun _ => ?_) (fun h_ => by first | exact absurd h_ hz1.2 | exact absurd hz1.2 h_)
  exact zq_goto (tgt := 1283) dL_law_734 (by decide) (zLW_to (kk n _ _ (by omega) ⟨HR, hW⟩) ⟨rfl, rfl, rfl, rfl, trivial⟩)

set_option maxHeartbeats 4000000 in
set_option maxRecDepth 100000 in
theorem law_salt {g : ZG} {W9 : ZW9} {Q9 : ZQ9} {n w h i : Nat} {ly : Int32} {μ m : ZMem} (hGC : zGC W9.1 (w * h) (fcA w h)) (hGM : zGM W9.2.1) (hi : i + 5 ≤ W9.2.2.2.1) (hL9 : W9.2.2.2.1 ≤ 2563) (hn : n + 200 < 2 ^ 17) (H : zLI W9.1 n w h ly μ m) (kk : ∀ n' μ' m', n' ≤ n + 200 → zLI W9.1 n' w h ly μ' m' → zLW g W9 Q9 zKL 1283 (zls [(0, zr (some 0)), (1, zr (some 1)), (2, zr (some 2)), (3, zi (nI i))]) [] (μ', m')) : zLW g W9 Q9 zKL 737 (zls [(0, zr (some 0)), (1, zr (some 1)), (2, zr (some 2)), (3, zi (nI i))]) [] (μ, m) := by
  obtain ⟨HR, hW⟩ := H
  have HR0 := HR
  obtain ⟨⟨hd, hF4, hL, hB, hM, -⟩, hCl, hSp, hSi, hWi, hTi, hNI, hNe, hGa, hFi, hSa, hOu⟩ := HR0
  have hC0 : zO W9.1 6 0 := hGC.fix 0 (by decide)
  have hM0 : zO W9.2.1 7 0 := ⟨(hGM 0 rfl).1, (hGM 0 rfl).2.1⟩
  refine zq_aload_n dL_law_737 rfl rfl ?_
  refine zq_aload_n dL_law_738 rfl rfl ?_
  refine zq_iload_n dL_law_739 rfl rfl ?_
  refine zq_iconst 1 dL_law_740 (by decide) ?_
  refine zq_iadd dL_law_741 ?_
  refine zq_sald (i + 1) (nI_add i 1) ⟨by omega, by omega⟩ dL_law_742 ?_
  refine zq_aload_n dL_law_743 rfl rfl ?_
  refine zq_iload_n dL_law_744 rfl rfl ?_
  refine zq_iconst 2 dL_law_745 (by decide) ?_
  refine zq_iadd dL_law_746 ?_
  refine zq_sald (i + 2) (nI_add i 2) ⟨by omega, by omega⟩ dL_law_747 ?_
  refine zq_aload_n dL_law_748 rfl rfl ?_
  refine zq_iload_n dL_law_749 rfl rfl ?_
  refine zq_iconst 3 dL_law_750 (by decide) ?_
  refine zq_iadd dL_law_751 ?_
  refine zq_sald (i + 3) (nI_add i 3) ⟨by omega, by omega⟩ dL_law_752 ?_
  refine zq_callC _ zv_L_77 (m_X6_salt hGC hL hW) hC0 rfl rfl ⟨rfl, rfl⟩ rfl ⟨rfl, rfl, (Nat.le_of_ble_eq_true rfl), (Nat.le_of_ble_eq_true rfl)⟩ (Nat.le_of_ble_eq_true rfl) dL_law_753 ?_
  refine zq_dstore dL_law_756 (Nat.le_of_ble_eq_true rfl) ?_
  refine zq_aload_n dL_law_758 rfl rfl ?_
  refine zq_aload_n dL_law_759 rfl rfl ?_
  refine zq_iload_n dL_law_760 rfl rfl ?_
  refine zq_iconst 1 dL_law_761 (by decide) ?_
  refine zq_iadd dL_law_762 ?_
  refine zq_sald (i + 1) (nI_add i 1) ⟨by omega, by omega⟩ dL_law_763 ?_
  refine zq_aload_n dL_law_764 rfl rfl ?_
  refine zq_iload_n dL_law_765 rfl rfl ?_
  refine zq_iconst 2 dL_law_766 (by decide) ?_
  refine zq_iadd dL_law_767 ?_
  refine zq_sald (i + 2) (nI_add i 2) ⟨by omega, by omega⟩ dL_law_768 ?_
  refine zq_aload_n dL_law_769 rfl rfl ?_
  refine zq_iload_n dL_law_770 rfl rfl ?_
  refine zq_iconst 3 dL_law_771 (by decide) ?_
  refine zq_iadd dL_law_772 ?_
  refine zq_sald (i + 3) (nI_add i 3) ⟨by omega, by omega⟩ dL_law_773 ?_
  refine zq_callM _ zv_L_80 (m_X7_salt hGM hM) hM0 rfl rfl ⟨rfl, rfl⟩ rfl ⟨rfl, rfl, (Nat.le_of_ble_eq_true rfl), (Nat.le_of_ble_eq_true rfl)⟩ (Nat.le_of_ble_eq_true rfl) dL_law_774 ?_
  refine zq_dstore dL_law_777 (Nat.le_of_ble_eq_true rfl) ?_
  have hz_ := zq_law (salt_rel hd hCl ly (W9.2.2.2.2 (i + 1)) (W9.2.2.2.2 (i + 2)) (W9.2.2.2.2 (i + 3)))
  refine zq_dload dL_law_779 rfl ?_
  refine zq_dload dL_law_781 rfl ?_
  refine zq_dcmp dL_law_783 ?_
  refine zq_if_eq (tgt := 805) dL_law_784 (by decide) (fun _ => ?_) (fun c1_ => ?_)
  · exact zq_goto (tgt := 1283) dL_law_805 (by decide) (zLW_to (kk n _ _ (by omega) ⟨HR, hW⟩) ⟨rfl, rfl, rfl, rfl, trivial⟩)
  have hz1 := hz_.resolve_left c1_
  refine zq_dload dL_law_787 rfl ?_
  refine zq_dload dL_law_789 rfl ?_
  refine zq_dcmp dL_law_791 ?_
  refine zq_if_eq (tgt := 803) dL_law_792 (by decide) (fun h_ => absurd h_ hz1.1) (fun _ => ?_)
  refine zq_dload dL_law_795 rfl ?_
  refine zq_dload dL_law_797 rfl ?_
  refine zq_dcmp dL_law_799 ?_
  refine zq_if_ne (tgt := 805) dL_law_800 (by decide) (fun _ => ?_) (fun h_ => by first | exact absurd h_ hz1.2 | exact absurd hz1.2 h_)
  exact zq_goto (tgt := 1283) dL_law_805 (by decide) (zLW_to (kk n _ _ (by omega) ⟨HR, hW⟩) ⟨rfl, rfl, rfl, rfl, trivial⟩)

set_option maxHeartbeats 4000000 in
set_option maxRecDepth 100000 in
theorem law_dry {g : ZG} {W9 : ZW9} {Q9 : ZQ9} {n w h i : Nat} {ly : Int32} {μ m : ZMem} (hGC : zGC W9.1 (w * h) (fcA w h)) (hGM : zGM W9.2.1) (hi : i + 5 ≤ W9.2.2.2.1) (hL9 : W9.2.2.2.1 ≤ 2563) (hn : n + 200 < 2 ^ 17) (H : zLI W9.1 n w h ly μ m) (kk : ∀ n' μ' m', n' ≤ n + 200 → zLI W9.1 n' w h ly μ' m' → zLW g W9 Q9 zKL 1283 (zls [(0, zr (some 0)), (1, zr (some 1)), (2, zr (some 2)), (3, zi (nI i))]) [] (μ', m')) : zLW g W9 Q9 zKL 808 (zls [(0, zr (some 0)), (1, zr (some 1)), (2, zr (some 2)), (3, zi (nI i))]) [] (μ, m) := by
  obtain ⟨HR, hW⟩ := H
  have HR0 := HR
  obtain ⟨⟨hd, hF4, hL, hB, hM, -⟩, hCl, hSp, hSi, hWi, hTi, hNI, hNe, hGa, hFi, hSa, hOu⟩ := HR0
  have hC0 : zO W9.1 6 0 := hGC.fix 0 (by decide)
  have hM0 : zO W9.2.1 7 0 := ⟨(hGM 0 rfl).1, (hGM 0 rfl).2.1⟩
  refine zq_aload_n dL_law_808 rfl rfl ?_
  refine zq_aload_n dL_law_809 rfl rfl ?_
  refine zq_iload_n dL_law_810 rfl rfl ?_
  refine zq_iconst 1 dL_law_811 (by decide) ?_
  refine zq_iadd dL_law_812 ?_
  refine zq_sald (i + 1) (nI_add i 1) ⟨by omega, by omega⟩ dL_law_813 ?_
  refine zq_aload_n dL_law_814 rfl rfl ?_
  refine zq_iload_n dL_law_815 rfl rfl ?_
  refine zq_iconst 2 dL_law_816 (by decide) ?_
  refine zq_iadd dL_law_817 ?_
  refine zq_sald (i + 2) (nI_add i 2) ⟨by omega, by omega⟩ dL_law_818 ?_
  refine zq_callC _ zv_L_81 (m_X6_dry hGC hL hW) hC0 rfl rfl ⟨rfl, rfl⟩ rfl ⟨rfl, rfl, (Nat.le_of_ble_eq_true rfl), (Nat.le_of_ble_eq_true rfl)⟩ (Nat.le_of_ble_eq_true rfl) dL_law_819 ?_
  refine zq_aload_n dL_law_822 rfl rfl ?_
  refine zq_aload_n dL_law_823 rfl rfl ?_
  refine zq_iload_n dL_law_824 rfl rfl ?_
  refine zq_iconst 1 dL_law_825 (by decide) ?_
  refine zq_iadd dL_law_826 ?_
  refine zq_sald (i + 1) (nI_add i 1) ⟨by omega, by omega⟩ dL_law_827 ?_
  refine zq_aload_n dL_law_828 rfl rfl ?_
  refine zq_iload_n dL_law_829 rfl rfl ?_
  refine zq_iconst 2 dL_law_830 (by decide) ?_
  refine zq_iadd dL_law_831 ?_
  refine zq_sald (i + 2) (nI_add i 2) ⟨by omega, by omega⟩ dL_law_832 ?_
  refine zq_callM _ zv_L_85 (m_X7_dry hGM hM) hM0 rfl rfl ⟨rfl, rfl⟩ rfl ⟨rfl, rfl, (Nat.le_of_ble_eq_true rfl), (Nat.le_of_ble_eq_true rfl)⟩ (Nat.le_of_ble_eq_true rfl) dL_law_833 ?_
  refine zq_icmp_eq (tgt := 1283) dL_law_836 (by decide) (fun _ => ?_) (fun h_ => absurd (dry_rel hd hCl _ _) h_)
  exact zLW_to (kk n _ _ (by omega) ⟨HR, hW⟩) ⟨rfl, rfl, rfl, rfl, trivial⟩

set_option maxHeartbeats 4000000 in
set_option maxRecDepth 100000 in
theorem law_nest {g : ZG} {W9 : ZW9} {Q9 : ZQ9} {n w h i : Nat} {ly : Int32} {μ m : ZMem} (hGC : zGC W9.1 (w * h) (fcA w h)) (hGM : zGM W9.2.1) (hi : i + 5 ≤ W9.2.2.2.1) (hL9 : W9.2.2.2.1 ≤ 2563) (hn : n + 200 < 2 ^ 17) (H : zLI W9.1 n w h ly μ m) (kk : ∀ n' μ' m', n' ≤ n + 200 → zLI W9.1 n' w h ly μ' m' → zLW g W9 Q9 zKL 1283 (zls [(0, zr (some 0)), (1, zr (some 1)), (2, zr (some 2)), (3, zi (nI i))]) [] (μ', m')) : zLW g W9 Q9 zKL 841 (zls [(0, zr (some 0)), (1, zr (some 1)), (2, zr (some 2)), (3, zi (nI i))]) [] (μ, m) := by
  obtain ⟨HR, hW⟩ := H
  have HR0 := HR
  obtain ⟨⟨hd, hF4, hL, hB, hM, -⟩, hCl, hSp, hSi, hWi, hTi, hNI, hNe, hGa, hFi, hSa, hOu⟩ := HR0
  have hC0 : zO W9.1 6 0 := hGC.fix 0 (by decide)
  have hM0 : zO W9.2.1 7 0 := ⟨(hGM 0 rfl).1, (hGM 0 rfl).2.1⟩
  obtain ⟨T, t0, t1, t2, -⟩ := id hNe
  rcases (show T < 10 ∨ T = 10 by omega) with hT | hT
  · skip
    refine zq_aload_n dL_law_841 rfl rfl ?_
    refine zq_aload_n dL_law_842 rfl rfl ?_
    refine zq_iload_n dL_law_843 rfl rfl ?_
    refine zq_iconst 1 dL_law_844 (by decide) ?_
    refine zq_iadd dL_law_845 ?_
    refine zq_sald (i + 1) (nI_add i 1) ⟨by omega, by omega⟩ dL_law_846 ?_
    refine zq_aload_n dL_law_847 rfl rfl ?_
    refine zq_iload_n dL_law_848 rfl rfl ?_
    refine zq_iconst 2 dL_law_849 (by decide) ?_
    refine zq_iadd dL_law_850 ?_
    refine zq_sald (i + 2) (nI_add i 2) ⟨by omega, by omega⟩ dL_law_851 ?_
    refine zq_aload_n dL_law_852 rfl rfl ?_
    refine zq_iload_n dL_law_853 rfl rfl ?_
    refine zq_iconst 3 dL_law_854 (by decide) ?_
    refine zq_iadd dL_law_855 ?_
    refine zq_sald (i + 3) (nI_add i 3) ⟨by omega, by omega⟩ dL_law_856 ?_
    refine zq_callC _ zv_L_86 (m_X6_nest hGC hL hW t1 hT) hC0 rfl rfl ⟨rfl, rfl⟩ rfl ⟨rfl, rfl, (Nat.le_of_ble_eq_true rfl), (Nat.le_of_ble_eq_true rfl)⟩ (Nat.le_of_ble_eq_true rfl) dL_law_857 ?_
    refine zq_aload_n dL_law_860 rfl rfl ?_
    refine zq_aload_n dL_law_861 rfl rfl ?_
    refine zq_iload_n dL_law_862 rfl rfl ?_
    refine zq_iconst 1 dL_law_863 (by decide) ?_
    refine zq_iadd dL_law_864 ?_
    refine zq_sald (i + 1) (nI_add i 1) ⟨by omega, by omega⟩ dL_law_865 ?_
    refine zq_aload_n dL_law_866 rfl rfl ?_
    refine zq_iload_n dL_law_867 rfl rfl ?_
    refine zq_iconst 2 dL_law_868 (by decide) ?_
    refine zq_iadd dL_law_869 ?_
    refine zq_sald (i + 2) (nI_add i 2) ⟨by omega, by omega⟩ dL_law_870 ?_
    refine zq_aload_n dL_law_871 rfl rfl ?_
    refine zq_iload_n dL_law_872 rfl rfl ?_
    refine zq_iconst 3 dL_law_873 (by decide) ?_
    refine zq_iadd dL_law_874 ?_
    refine zq_sald (i + 3) (nI_add i 3) ⟨by omega, by omega⟩ dL_law_875 ?_
    refine zq_callM _ zv_L_90 (m_X7_nest hGM hM t2 hT) hM0 rfl rfl ⟨rfl, rfl⟩ rfl ⟨rfl, rfl, (Nat.le_of_ble_eq_true rfl), (Nat.le_of_ble_eq_true rfl)⟩ (Nat.le_of_ble_eq_true rfl) dL_law_876 ?_
    refine zq_icmp_eq (tgt := 1283) dL_law_879 (by decide) (fun _ => ?_) (fun h_ => absurd (nest_rel (by omega) HR t2 t0 _ _ _).1 h_)
    exact zLW_to (kk (n + 1) _ _ (by omega) ⟨(nest_rel (by omega) HR t2 t0 _ _ _).2, wf_nest hGC hL hW⟩) ⟨rfl, rfl, rfl, rfl, trivial⟩
  · skip
    refine zq_aload_n dL_law_841 rfl rfl ?_
    refine zq_aload_n dL_law_842 rfl rfl ?_
    refine zq_iload_n dL_law_843 rfl rfl ?_
    refine zq_iconst 1 dL_law_844 (by decide) ?_
    refine zq_iadd dL_law_845 ?_
    refine zq_sald (i + 1) (nI_add i 1) ⟨by omega, by omega⟩ dL_law_846 ?_
    refine zq_aload_n dL_law_847 rfl rfl ?_
    refine zq_iload_n dL_law_848 rfl rfl ?_
    refine zq_iconst 2 dL_law_849 (by decide) ?_
    refine zq_iadd dL_law_850 ?_
    refine zq_sald (i + 2) (nI_add i 2) ⟨by omega, by omega⟩ dL_law_851 ?_
    refine zq_aload_n dL_law_852 rfl rfl ?_
    refine zq_iload_n dL_law_853 rfl rfl ?_
    refine zq_iconst 3 dL_law_854 (by decide) ?_
    refine zq_iadd dL_law_855 ?_
    refine zq_sald (i + 3) (nI_add i 3) ⟨by omega, by omega⟩ dL_law_856 ?_
    refine zq_callC _ zv_L_86 (m_X6_nest_full hGC hL hW t1 hT) hC0 rfl rfl ⟨rfl, rfl⟩ rfl ⟨rfl, rfl, (Nat.le_of_ble_eq_true rfl), (Nat.le_of_ble_eq_true rfl)⟩ (Nat.le_of_ble_eq_true rfl) dL_law_857 ?_
    refine zq_aload_n dL_law_860 rfl rfl ?_
    refine zq_aload_n dL_law_861 rfl rfl ?_
    refine zq_iload_n dL_law_862 rfl rfl ?_
    refine zq_iconst 1 dL_law_863 (by decide) ?_
    refine zq_iadd dL_law_864 ?_
    refine zq_sald (i + 1) (nI_add i 1) ⟨by omega, by omega⟩ dL_law_865 ?_
    refine zq_aload_n dL_law_866 rfl rfl ?_
    refine zq_iload_n dL_law_867 rfl rfl ?_
    refine zq_iconst 2 dL_law_868 (by decide) ?_
    refine zq_iadd dL_law_869 ?_
    refine zq_sald (i + 2) (nI_add i 2) ⟨by omega, by omega⟩ dL_law_870 ?_
    refine zq_aload_n dL_law_871 rfl rfl ?_
    refine zq_iload_n dL_law_872 rfl rfl ?_
    refine zq_iconst 3 dL_law_873 (by decide) ?_
    refine zq_iadd dL_law_874 ?_
    refine zq_sald (i + 3) (nI_add i 3) ⟨by omega, by omega⟩ dL_law_875 ?_
    refine zq_callM _ zv_L_90 (m_X7_nest_full hGM hM t2 hT) hM0 rfl rfl ⟨rfl, rfl⟩ rfl ⟨rfl, rfl, (Nat.le_of_ble_eq_true rfl), (Nat.le_of_ble_eq_true rfl)⟩ (Nat.le_of_ble_eq_true rfl) dL_law_876 ?_
    refine zq_icmp_eq (tgt := 1283) dL_law_879 (by decide) (fun _ => ?_) (fun h_ => absurd (nest_rel (by omega) HR t2 t0 _ _ _).1 h_)
    exact zLW_to (kk (n + 1) _ _ (by omega) ⟨(nest_rel (by omega) HR t2 t0 _ _ _).2, wf_nest hGC hL hW⟩) ⟨rfl, rfl, rfl, rfl, trivial⟩

set_option maxHeartbeats 4000000 in
set_option maxRecDepth 100000 in
theorem law_equal {g : ZG} {W9 : ZW9} {Q9 : ZQ9} {n w h i : Nat} {ly : Int32} {μ m : ZMem} (hGC : zGC W9.1 (w * h) (fcA w h)) (hGM : zGM W9.2.1) (hi : i + 5 ≤ W9.2.2.2.1) (hL9 : W9.2.2.2.1 ≤ 2563) (hn : n + 200 < 2 ^ 17) (H : zLI W9.1 n w h ly μ m) (kk : ∀ n' μ' m', n' ≤ n + 200 → zLI W9.1 n' w h ly μ' m' → zLW g W9 Q9 zKL 1283 (zls [(0, zr (some 0)), (1, zr (some 1)), (2, zr (some 2)), (3, zi (nI i))]) [] (μ', m')) : zLW g W9 Q9 zKL 884 (zls [(0, zr (some 0)), (1, zr (some 1)), (2, zr (some 2)), (3, zi (nI i))]) [] (μ, m) := by
  obtain ⟨HR, hW⟩ := H
  have HR0 := HR
  obtain ⟨⟨hd, hF4, hL, hB, hM, -⟩, hCl, hSp, hSi, hWi, hTi, hNI, hNe, hGa, hFi, hSa, hOu⟩ := HR0
  have hC0 : zO W9.1 6 0 := hGC.fix 0 (by decide)
  have hM0 : zO W9.2.1 7 0 := ⟨(hGM 0 rfl).1, (hGM 0 rfl).2.1⟩
  obtain ⟨T, t0, t1, t2, -⟩ := id hNe
  refine zq_aload_n dL_law_884 rfl rfl ?_
  refine zq_aload_n dL_law_885 rfl rfl ?_
  refine zq_iload_n dL_law_886 rfl rfl ?_
  refine zq_iconst 1 dL_law_887 (by decide) ?_
  refine zq_iadd dL_law_888 ?_
  refine zq_sald (i + 1) (nI_add i 1) ⟨by omega, by omega⟩ dL_law_889 ?_
  refine zq_callC _ zv_L_91 (m_X6_equal hGC hL hW hB) hC0 rfl rfl ⟨rfl, rfl⟩ rfl ⟨rfl, rfl, (Nat.le_of_ble_eq_true rfl), (Nat.le_of_ble_eq_true rfl)⟩ (Nat.le_of_ble_eq_true rfl) dL_law_890 ?_
  refine zq_aload_n dL_law_893 rfl rfl ?_
  refine zq_aload_n dL_law_894 rfl rfl ?_
  refine zq_iload_n dL_law_895 rfl rfl ?_
  refine zq_iconst 1 dL_law_896 (by decide) ?_
  refine zq_iadd dL_law_897 ?_
  refine zq_sald (i + 1) (nI_add i 1) ⟨by omega, by omega⟩ dL_law_898 ?_
  refine zq_callM _ zv_L_95 (m_X7_equal hGM hM t0 t2) hM0 rfl rfl ⟨rfl, rfl⟩ rfl ⟨rfl, rfl, (Nat.le_of_ble_eq_true rfl), (Nat.le_of_ble_eq_true rfl)⟩ (Nat.le_of_ble_eq_true rfl) dL_law_899 ?_
  refine zq_icmp_eq (tgt := 1283) dL_law_902 (by decide) (fun _ => ?_) (fun h_ => absurd (equal_rel hNe _) h_)
  exact zLW_to (kk n _ _ (by omega) ⟨HR, hW⟩) ⟨rfl, rfl, rfl, rfl, trivial⟩

set_option maxHeartbeats 4000000 in
set_option maxRecDepth 100000 in
theorem law_fit {g : ZG} {W9 : ZW9} {Q9 : ZQ9} {n w h i : Nat} {ly : Int32} {μ m : ZMem} (hGC : zGC W9.1 (w * h) (fcA w h)) (hGM : zGM W9.2.1) (hi : i + 5 ≤ W9.2.2.2.1) (hL9 : W9.2.2.2.1 ≤ 2563) (hn : n + 200 < 2 ^ 17) (H : zLI W9.1 n w h ly μ m) (kk : ∀ n' μ' m', n' ≤ n + 200 → zLI W9.1 n' w h ly μ' m' → zLW g W9 Q9 zKL 1283 (zls [(0, zr (some 0)), (1, zr (some 1)), (2, zr (some 2)), (3, zi (nI i))]) [] (μ', m')) : zLW g W9 Q9 zKL 907 (zls [(0, zr (some 0)), (1, zr (some 1)), (2, zr (some 2)), (3, zi (nI i))]) [] (μ, m) := by
  obtain ⟨HR, hW⟩ := H
  have HR0 := HR
  obtain ⟨⟨hd, hF4, hL, hB, hM, -⟩, hCl, hSp, hSi, hWi, hTi, hNI, hNe, hGa, hFi, hSa, hOu⟩ := HR0
  have hC0 : zO W9.1 6 0 := hGC.fix 0 (by decide)
  have hM0 : zO W9.2.1 7 0 := ⟨(hGM 0 rfl).1, (hGM 0 rfl).2.1⟩
  obtain ⟨T, t0, t1, t2, -⟩ := id hGa
  refine zq_aload_n dL_law_907 rfl rfl ?_
  refine zq_aload_n dL_law_908 rfl rfl ?_
  refine zq_iload_n dL_law_909 rfl rfl ?_
  refine zq_iconst 1 dL_law_910 (by decide) ?_
  refine zq_iadd dL_law_911 ?_
  refine zq_sald (i + 1) (nI_add i 1) ⟨by omega, by omega⟩ dL_law_912 ?_
  refine zq_callC _ zv_L_96 (m_X6_fit hGC hL hW t0 t1) hC0 rfl rfl ⟨rfl, rfl⟩ rfl ⟨rfl, rfl, (Nat.le_of_ble_eq_true rfl), (Nat.le_of_ble_eq_true rfl)⟩ (Nat.le_of_ble_eq_true rfl) dL_law_913 ?_
  refine zq_aload_n dL_law_916 rfl rfl ?_
  refine zq_aload_n dL_law_917 rfl rfl ?_
  refine zq_iload_n dL_law_918 rfl rfl ?_
  refine zq_iconst 1 dL_law_919 (by decide) ?_
  refine zq_iadd dL_law_920 ?_
  refine zq_sald (i + 1) (nI_add i 1) ⟨by omega, by omega⟩ dL_law_921 ?_
  refine zq_callM _ zv_L_100 (m_X7_fit hGM hM t0 t2) hM0 rfl rfl ⟨rfl, rfl⟩ rfl ⟨rfl, rfl, (Nat.le_of_ble_eq_true rfl), (Nat.le_of_ble_eq_true rfl)⟩ (Nat.le_of_ble_eq_true rfl) dL_law_922 ?_
  refine zq_icmp_eq (tgt := 1283) dL_law_925 (by decide) (fun _ => ?_) (fun h_ => absurd (fit_rel HR t2 t0 _).1 h_)
  exact zLW_to (kk n _ _ (by omega) ⟨(fit_rel HR t2 t0 _).2, wf_fit hW⟩) ⟨rfl, rfl, rfl, rfl, trivial⟩

set_option maxHeartbeats 4000000 in
set_option maxRecDepth 100000 in
theorem law_gauge {g : ZG} {W9 : ZW9} {Q9 : ZQ9} {n w h i : Nat} {ly : Int32} {μ m : ZMem} (hGC : zGC W9.1 (w * h) (fcA w h)) (hGM : zGM W9.2.1) (hi : i + 5 ≤ W9.2.2.2.1) (hL9 : W9.2.2.2.1 ≤ 2563) (hn : n + 200 < 2 ^ 17) (H : zLI W9.1 n w h ly μ m) (kk : ∀ n' μ' m', n' ≤ n + 200 → zLI W9.1 n' w h ly μ' m' → zLW g W9 Q9 zKL 1283 (zls [(0, zr (some 0)), (1, zr (some 1)), (2, zr (some 2)), (3, zi (nI i))]) [] (μ', m')) : zLW g W9 Q9 zKL 930 (zls [(0, zr (some 0)), (1, zr (some 1)), (2, zr (some 2)), (3, zi (nI i))]) [] (μ, m) := by
  obtain ⟨HR, hW⟩ := H
  have HR0 := HR
  obtain ⟨⟨hd, hF4, hL, hB, hM, -⟩, hCl, hSp, hSi, hWi, hTi, hNI, hNe, hGa, hFi, hSa, hOu⟩ := HR0
  have hC0 : zO W9.1 6 0 := hGC.fix 0 (by decide)
  have hM0 : zO W9.2.1 7 0 := ⟨(hGM 0 rfl).1, (hGM 0 rfl).2.1⟩
  obtain ⟨T, t0, t1, t2, -⟩ := id hGa
  rcases (show T < 40 ∨ T = 40 by omega) with hT | hT
  · skip
    refine zq_aload_n dL_law_930 rfl rfl ?_
    refine zq_aload_n dL_law_931 rfl rfl ?_
    refine zq_iload_n dL_law_932 rfl rfl ?_
    refine zq_iconst 1 dL_law_933 (by decide) ?_
    refine zq_iadd dL_law_934 ?_
    refine zq_sald (i + 1) (nI_add i 1) ⟨by omega, by omega⟩ dL_law_935 ?_
    refine zq_aload_n dL_law_936 rfl rfl ?_
    refine zq_iload_n dL_law_937 rfl rfl ?_
    refine zq_iconst 2 dL_law_938 (by decide) ?_
    refine zq_iadd dL_law_939 ?_
    refine zq_sald (i + 2) (nI_add i 2) ⟨by omega, by omega⟩ dL_law_940 ?_
    refine zq_aload_n dL_law_941 rfl rfl ?_
    refine zq_iload_n dL_law_942 rfl rfl ?_
    refine zq_iconst 3 dL_law_943 (by decide) ?_
    refine zq_iadd dL_law_944 ?_
    refine zq_sald (i + 3) (nI_add i 3) ⟨by omega, by omega⟩ dL_law_945 ?_
    refine zq_i2d dL_law_946 ?_
    refine zq_ldc2d 4593671619917905920 zk_L_21 (by decide +kernel) dL_law_947 ?_
    refine zq_dmul dL_law_950 ?_
    refine zq_aload_n dL_law_951 rfl rfl ?_
    refine zq_iload_n dL_law_952 rfl rfl ?_
    refine zq_iconst 4 dL_law_953 (by decide) ?_
    refine zq_iadd dL_law_954 ?_
    refine zq_sald (i + 4) (nI_add i 4) ⟨by omega, by omega⟩ dL_law_955 ?_
    refine zq_i2d dL_law_956 ?_
    refine zq_ldc2d 4593671619917905920 zk_L_21 (by decide +kernel) dL_law_957 ?_
    refine zq_dmul dL_law_960 ?_
    refine zq_callC _ zv_L_101 (m_X6_gauge hGC hL hW t1 hT) hC0 rfl rfl ⟨rfl, rfl⟩ rfl ⟨rfl, rfl, (Nat.le_of_ble_eq_true rfl), (Nat.le_of_ble_eq_true rfl)⟩ (Nat.le_of_ble_eq_true rfl) dL_law_961 ?_
    refine zq_aload_n dL_law_964 rfl rfl ?_
    refine zq_aload_n dL_law_965 rfl rfl ?_
    refine zq_iload_n dL_law_966 rfl rfl ?_
    refine zq_iconst 1 dL_law_967 (by decide) ?_
    refine zq_iadd dL_law_968 ?_
    refine zq_sald (i + 1) (nI_add i 1) ⟨by omega, by omega⟩ dL_law_969 ?_
    refine zq_aload_n dL_law_970 rfl rfl ?_
    refine zq_iload_n dL_law_971 rfl rfl ?_
    refine zq_iconst 2 dL_law_972 (by decide) ?_
    refine zq_iadd dL_law_973 ?_
    refine zq_sald (i + 2) (nI_add i 2) ⟨by omega, by omega⟩ dL_law_974 ?_
    refine zq_aload_n dL_law_975 rfl rfl ?_
    refine zq_iload_n dL_law_976 rfl rfl ?_
    refine zq_iconst 3 dL_law_977 (by decide) ?_
    refine zq_iadd dL_law_978 ?_
    refine zq_sald (i + 3) (nI_add i 3) ⟨by omega, by omega⟩ dL_law_979 ?_
    refine zq_i2d dL_law_980 ?_
    refine zq_ldc2d 4593671619917905920 zk_L_21 (by decide +kernel) dL_law_981 ?_
    refine zq_dmul dL_law_984 ?_
    refine zq_aload_n dL_law_985 rfl rfl ?_
    refine zq_iload_n dL_law_986 rfl rfl ?_
    refine zq_iconst 4 dL_law_987 (by decide) ?_
    refine zq_iadd dL_law_988 ?_
    refine zq_sald (i + 4) (nI_add i 4) ⟨by omega, by omega⟩ dL_law_989 ?_
    refine zq_i2d dL_law_990 ?_
    refine zq_ldc2d 4593671619917905920 zk_L_21 (by decide +kernel) dL_law_991 ?_
    refine zq_dmul dL_law_994 ?_
    refine zq_callM _ zv_L_104 (m_X7_gauge hGM hM t2 hT) hM0 rfl rfl ⟨rfl, rfl⟩ rfl ⟨rfl, rfl, (Nat.le_of_ble_eq_true rfl), (Nat.le_of_ble_eq_true rfl)⟩ (Nat.le_of_ble_eq_true rfl) dL_law_995 ?_
    refine zq_icmp_eq (tgt := 1283) dL_law_998 (by decide) (fun _ => ?_) (fun h_ => absurd (gauge_rel HR t2 t0 _ _ _ _).1 h_)
    exact zLW_to (kk n _ _ (by omega) ⟨(gauge_rel HR t2 t0 _ _ _ _).2, wf_gauge hW⟩) ⟨rfl, rfl, rfl, rfl, trivial⟩
  · skip
    refine zq_aload_n dL_law_930 rfl rfl ?_
    refine zq_aload_n dL_law_931 rfl rfl ?_
    refine zq_iload_n dL_law_932 rfl rfl ?_
    refine zq_iconst 1 dL_law_933 (by decide) ?_
    refine zq_iadd dL_law_934 ?_
    refine zq_sald (i + 1) (nI_add i 1) ⟨by omega, by omega⟩ dL_law_935 ?_
    refine zq_aload_n dL_law_936 rfl rfl ?_
    refine zq_iload_n dL_law_937 rfl rfl ?_
    refine zq_iconst 2 dL_law_938 (by decide) ?_
    refine zq_iadd dL_law_939 ?_
    refine zq_sald (i + 2) (nI_add i 2) ⟨by omega, by omega⟩ dL_law_940 ?_
    refine zq_aload_n dL_law_941 rfl rfl ?_
    refine zq_iload_n dL_law_942 rfl rfl ?_
    refine zq_iconst 3 dL_law_943 (by decide) ?_
    refine zq_iadd dL_law_944 ?_
    refine zq_sald (i + 3) (nI_add i 3) ⟨by omega, by omega⟩ dL_law_945 ?_
    refine zq_i2d dL_law_946 ?_
    refine zq_ldc2d 4593671619917905920 zk_L_21 (by decide +kernel) dL_law_947 ?_
    refine zq_dmul dL_law_950 ?_
    refine zq_aload_n dL_law_951 rfl rfl ?_
    refine zq_iload_n dL_law_952 rfl rfl ?_
    refine zq_iconst 4 dL_law_953 (by decide) ?_
    refine zq_iadd dL_law_954 ?_
    refine zq_sald (i + 4) (nI_add i 4) ⟨by omega, by omega⟩ dL_law_955 ?_
    refine zq_i2d dL_law_956 ?_
    refine zq_ldc2d 4593671619917905920 zk_L_21 (by decide +kernel) dL_law_957 ?_
    refine zq_dmul dL_law_960 ?_
    refine zq_callC _ zv_L_101 (m_X6_gauge_full hGC hL hW t1 hT) hC0 rfl rfl ⟨rfl, rfl⟩ rfl ⟨rfl, rfl, (Nat.le_of_ble_eq_true rfl), (Nat.le_of_ble_eq_true rfl)⟩ (Nat.le_of_ble_eq_true rfl) dL_law_961 ?_
    refine zq_aload_n dL_law_964 rfl rfl ?_
    refine zq_aload_n dL_law_965 rfl rfl ?_
    refine zq_iload_n dL_law_966 rfl rfl ?_
    refine zq_iconst 1 dL_law_967 (by decide) ?_
    refine zq_iadd dL_law_968 ?_
    refine zq_sald (i + 1) (nI_add i 1) ⟨by omega, by omega⟩ dL_law_969 ?_
    refine zq_aload_n dL_law_970 rfl rfl ?_
    refine zq_iload_n dL_law_971 rfl rfl ?_
    refine zq_iconst 2 dL_law_972 (by decide) ?_
    refine zq_iadd dL_law_973 ?_
    refine zq_sald (i + 2) (nI_add i 2) ⟨by omega, by omega⟩ dL_law_974 ?_
    refine zq_aload_n dL_law_975 rfl rfl ?_
    refine zq_iload_n dL_law_976 rfl rfl ?_
    refine zq_iconst 3 dL_law_977 (by decide) ?_
    refine zq_iadd dL_law_978 ?_
    refine zq_sald (i + 3) (nI_add i 3) ⟨by omega, by omega⟩ dL_law_979 ?_
    refine zq_i2d dL_law_980 ?_
    refine zq_ldc2d 4593671619917905920 zk_L_21 (by decide +kernel) dL_law_981 ?_
    refine zq_dmul dL_law_984 ?_
    refine zq_aload_n dL_law_985 rfl rfl ?_
    refine zq_iload_n dL_law_986 rfl rfl ?_
    refine zq_iconst 4 dL_law_987 (by decide) ?_
    refine zq_iadd dL_law_988 ?_
    refine zq_sald (i + 4) (nI_add i 4) ⟨by omega, by omega⟩ dL_law_989 ?_
    refine zq_i2d dL_law_990 ?_
    refine zq_ldc2d 4593671619917905920 zk_L_21 (by decide +kernel) dL_law_991 ?_
    refine zq_dmul dL_law_994 ?_
    refine zq_callM _ zv_L_104 (m_X7_gauge_full hGM hM t2 hT) hM0 rfl rfl ⟨rfl, rfl⟩ rfl ⟨rfl, rfl, (Nat.le_of_ble_eq_true rfl), (Nat.le_of_ble_eq_true rfl)⟩ (Nat.le_of_ble_eq_true rfl) dL_law_995 ?_
    refine zq_icmp_eq (tgt := 1283) dL_law_998 (by decide) (fun _ => ?_) (fun h_ => absurd (gauge_rel HR t2 t0 _ _ _ _).1 h_)
    exact zLW_to (kk n _ _ (by omega) ⟨(gauge_rel HR t2 t0 _ _ _ _).2, wf_gauge hW⟩) ⟨rfl, rfl, rfl, rfl, trivial⟩

set_option maxHeartbeats 4000000 in
set_option maxRecDepth 100000 in
theorem law_tide {g : ZG} {W9 : ZW9} {Q9 : ZQ9} {n w h i : Nat} {ly : Int32} {μ m : ZMem} (hGC : zGC W9.1 (w * h) (fcA w h)) (hGM : zGM W9.2.1) (hi : i + 5 ≤ W9.2.2.2.1) (hL9 : W9.2.2.2.1 ≤ 2563) (hn : n + 200 < 2 ^ 17) (H : zLI W9.1 n w h ly μ m) (kk : ∀ n' μ' m', n' ≤ n + 200 → zLI W9.1 n' w h ly μ' m' → zLW g W9 Q9 zKL 1283 (zls [(0, zr (some 0)), (1, zr (some 1)), (2, zr (some 2)), (3, zi (nI i))]) [] (μ', m')) : zLW g W9 Q9 zKL 1003 (zls [(0, zr (some 0)), (1, zr (some 1)), (2, zr (some 2)), (3, zi (nI i))]) [] (μ, m) := by
  obtain ⟨HR, hW⟩ := H
  have HR0 := HR
  obtain ⟨⟨hd, hF4, hL, hB, hM, -⟩, hCl, hSp, hSi, hWi, hTi, hNI, hNe, hGa, hFi, hSa, hOu⟩ := HR0
  have hC0 : zO W9.1 6 0 := hGC.fix 0 (by decide)
  have hM0 : zO W9.2.1 7 0 := ⟨(hGM 0 rfl).1, (hGM 0 rfl).2.1⟩
  rcases tide_rel HR (zmul (FP.i2d (W9.2.2.2.2 (i + 1))) 4593671619917905920) with ⟨f1, f2, f3⟩ | ⟨Q, hQ, f1, f2, f3, f4⟩
  · skip
    refine zq_aload_n dL_law_1003 rfl rfl ?_
    refine zq_aload_n dL_law_1004 rfl rfl ?_
    refine zq_iload_n dL_law_1005 rfl rfl ?_
    refine zq_iconst 1 dL_law_1006 (by decide) ?_
    refine zq_iadd dL_law_1007 ?_
    refine zq_sald (i + 1) (nI_add i 1) ⟨by omega, by omega⟩ dL_law_1008 ?_
    refine zq_i2d dL_law_1009 ?_
    refine zq_ldc2d 4593671619917905920 zk_L_21 (by decide +kernel) dL_law_1010 ?_
    refine zq_dmul dL_law_1013 ?_
    refine zq_callC _ zv_L_105 (m_X6_tide_0 hGC hL hW f1) hC0 rfl rfl ⟨rfl, rfl⟩ rfl ⟨rfl, rfl, (Nat.le_of_ble_eq_true rfl), (Nat.le_of_ble_eq_true rfl)⟩ (Nat.le_of_ble_eq_true rfl) dL_law_1014 ?_
    refine zq_dstore dL_law_1017 (Nat.le_of_ble_eq_true rfl) ?_
    refine zq_aload_n dL_law_1019 rfl rfl ?_
    refine zq_aload_n dL_law_1020 rfl rfl ?_
    refine zq_iload_n dL_law_1021 rfl rfl ?_
    refine zq_iconst 1 dL_law_1022 (by decide) ?_
    refine zq_iadd dL_law_1023 ?_
    refine zq_sald (i + 1) (nI_add i 1) ⟨by omega, by omega⟩ dL_law_1024 ?_
    refine zq_i2d dL_law_1025 ?_
    refine zq_ldc2d 4593671619917905920 zk_L_21 (by decide +kernel) dL_law_1026 ?_
    refine zq_dmul dL_law_1029 ?_
    refine zq_callM _ zv_L_109 (m_X7_tide hGM hM (C := 0) (by decide) f2) hM0 rfl rfl ⟨rfl, rfl⟩ rfl ⟨rfl, rfl, (Nat.le_of_ble_eq_true rfl), (Nat.le_of_ble_eq_true rfl)⟩ (Nat.le_of_ble_eq_true rfl) dL_law_1030 ?_
    refine zq_dstore dL_law_1033 (Nat.le_of_ble_eq_true rfl) ?_
    have hz_ := zq_law (Or.inl f3.symm)
    refine zq_dload dL_law_1035 rfl ?_
    refine zq_dload dL_law_1037 rfl ?_
    refine zq_dcmp dL_law_1039 ?_
    refine zq_if_eq (tgt := 1061) dL_law_1040 (by decide) (fun _ => ?_) (fun c1_ => ?_)
    · exact zq_goto (tgt := 1283) dL_law_1061 (by decide) (zLW_to (kk n _ _ (by omega) ⟨HR, hW⟩) ⟨rfl, rfl, rfl, rfl, trivial⟩)
    have hz1 := hz_.resolve_left c1_
    refine zq_dload dL_law_1043 rfl ?_
    refine zq_dload dL_law_1045 rfl ?_
    refine zq_dcmp dL_law_1047 ?_
    refine zq_if_eq (tgt := 1059) dL_law_1048 (by decide) (fun h_ => absurd h_ hz1.1) (fun _ => ?_)
    refine zq_dload dL_law_1051 rfl ?_
    refine zq_dload dL_law_1053 rfl ?_
    refine zq_dcmp dL_law_1055 ?_
    refine zq_if_ne (tgt := 1061) dL_law_1056 (by decide) (fun _ => ?_) (fun h_ => by first | exact absurd h_ hz1.2 | exact absurd hz1.2 h_)
    exact zq_goto (tgt := 1283) dL_law_1061 (by decide) (zLW_to (kk n _ _ (by omega) ⟨HR, hW⟩) ⟨rfl, rfl, rfl, rfl, trivial⟩)
  · skip
    refine zq_aload_n dL_law_1003 rfl rfl ?_
    refine zq_aload_n dL_law_1004 rfl rfl ?_
    refine zq_iload_n dL_law_1005 rfl rfl ?_
    refine zq_iconst 1 dL_law_1006 (by decide) ?_
    refine zq_iadd dL_law_1007 ?_
    refine zq_sald (i + 1) (nI_add i 1) ⟨by omega, by omega⟩ dL_law_1008 ?_
    refine zq_i2d dL_law_1009 ?_
    refine zq_ldc2d 4593671619917905920 zk_L_21 (by decide +kernel) dL_law_1010 ?_
    refine zq_dmul dL_law_1013 ?_
    refine zq_callC _ zv_L_105 (m_X6_tide hGC hL hW hQ f1) hC0 rfl rfl ⟨rfl, rfl⟩ rfl ⟨rfl, rfl, (Nat.le_of_ble_eq_true rfl), (Nat.le_of_ble_eq_true rfl)⟩ (Nat.le_of_ble_eq_true rfl) dL_law_1014 ?_
    refine zq_dstore dL_law_1017 (Nat.le_of_ble_eq_true rfl) ?_
    refine zq_aload_n dL_law_1019 rfl rfl ?_
    refine zq_aload_n dL_law_1020 rfl rfl ?_
    refine zq_iload_n dL_law_1021 rfl rfl ?_
    refine zq_iconst 1 dL_law_1022 (by decide) ?_
    refine zq_iadd dL_law_1023 ?_
    refine zq_sald (i + 1) (nI_add i 1) ⟨by omega, by omega⟩ dL_law_1024 ?_
    refine zq_i2d dL_law_1025 ?_
    refine zq_ldc2d 4593671619917905920 zk_L_21 (by decide +kernel) dL_law_1026 ?_
    refine zq_dmul dL_law_1029 ?_
    refine zq_callM _ zv_L_109 (m_X7_tide hGM hM (C := 2 * Q + 1) (by omega) f2) hM0 rfl rfl ⟨rfl, rfl⟩ rfl ⟨rfl, rfl, (Nat.le_of_ble_eq_true rfl), (Nat.le_of_ble_eq_true rfl)⟩ (Nat.le_of_ble_eq_true rfl) dL_law_1030 ?_
    refine zq_dstore dL_law_1033 (Nat.le_of_ble_eq_true rfl) ?_
    have hz_ := zq_law (Or.inl f3)
    refine zq_dload dL_law_1035 rfl ?_
    refine zq_dload dL_law_1037 rfl ?_
    refine zq_dcmp dL_law_1039 ?_
    refine zq_if_eq (tgt := 1061) dL_law_1040 (by decide) (fun _ => ?_) (fun c1_ => ?_)
    · exact zq_goto (tgt := 1283) dL_law_1061 (by decide) (zLW_to (kk n _ _ (by omega) ⟨f4, wf_tide hW⟩) ⟨rfl, rfl, rfl, rfl, trivial⟩)
    have hz1 := hz_.resolve_left c1_
    refine zq_dload dL_law_1043 rfl ?_
    refine zq_dload dL_law_1045 rfl ?_
    refine zq_dcmp dL_law_1047 ?_
    refine zq_if_eq (tgt := 1059) dL_law_1048 (by decide) (fun h_ => absurd h_ hz1.1) (fun _ => ?_)
    refine zq_dload dL_law_1051 rfl ?_
    refine zq_dload dL_law_1053 rfl ?_
    refine zq_dcmp dL_law_1055 ?_
    refine zq_if_ne (tgt := 1061) dL_law_1056 (by decide) (fun _ => ?_) (fun h_ => by first | exact absurd h_ hz1.2 | exact absurd hz1.2 h_)
    exact zq_goto (tgt := 1283) dL_law_1061 (by decide) (zLW_to (kk n _ _ (by omega) ⟨f4, wf_tide hW⟩) ⟨rfl, rfl, rfl, rfl, trivial⟩)

set_option maxHeartbeats 4000000 in
set_option maxRecDepth 100000 in
theorem law_save {g : ZG} {W9 : ZW9} {Q9 : ZQ9} {n w h i : Nat} {ly : Int32} {μ m : ZMem} (hGC : zGC W9.1 (w * h) (fcA w h)) (hGM : zGM W9.2.1) (hi : i + 5 ≤ W9.2.2.2.1) (hL9 : W9.2.2.2.1 ≤ 2563) (hn : n + 200 < 2 ^ 17) (H : zLI W9.1 n w h ly μ m) (kk : ∀ n' μ' m', n' ≤ n + 200 → zLI W9.1 n' w h ly μ' m' → zLW g W9 Q9 zKL 1283 (zls [(0, zr (some 0)), (1, zr (some 1)), (2, zr (some 2)), (3, zi (nI i))]) [] (μ', m')) : zLW g W9 Q9 zKL 1064 (zls [(0, zr (some 0)), (1, zr (some 1)), (2, zr (some 2)), (3, zi (nI i))]) [] (μ, m) := by
  obtain ⟨HR, hW⟩ := H
  have HR0 := HR
  obtain ⟨⟨hd, hF4, hL, hB, hM, -⟩, hCl, hSp, hSi, hWi, hTi, hNI, hNe, hGa, hFi, hSa, hOu⟩ := HR0
  have hC0 : zO W9.1 6 0 := hGC.fix 0 (by decide)
  have hM0 : zO W9.2.1 7 0 := ⟨(hGM 0 rfl).1, (hGM 0 rfl).2.1⟩
  obtain ⟨S, CH, t0, -, t1, t2, -⟩ := id hSa
  rcases (show S < 4 ∨ S = 4 by omega) with hT | hT
  · skip
    refine zq_aload_n dL_law_1064 rfl rfl ?_
    refine zq_callC _ zv_L_110 (m_X6_save hGC hL hW t1 hT) hC0 rfl rfl ⟨rfl, rfl⟩ rfl ⟨rfl, rfl, (Nat.le_of_ble_eq_true rfl), (Nat.le_of_ble_eq_true rfl)⟩ (Nat.le_of_ble_eq_true rfl) dL_law_1065 ?_
    refine zq_aload_n dL_law_1068 rfl rfl ?_
    refine zq_callM _ zv_L_114 (m_X7_save hGM hM hT t2) hM0 rfl rfl ⟨rfl, rfl⟩ rfl ⟨rfl, rfl, (Nat.le_of_ble_eq_true rfl), (Nat.le_of_ble_eq_true rfl)⟩ (Nat.le_of_ble_eq_true rfl) dL_law_1069 ?_
    refine zq_icmp_eq (tgt := 1283) dL_law_1072 (by decide) (fun _ => ?_) (fun h_ => absurd rfl h_)
    exact zLW_to (kk n _ _ (by omega) ⟨save_rel HR t2 t0, wf_save hW⟩) ⟨rfl, rfl, rfl, rfl, trivial⟩
  · skip
    refine zq_aload_n dL_law_1064 rfl rfl ?_
    refine zq_callC _ zv_L_110 (m_X6_save_full hGC hL hW t1 hT) hC0 rfl rfl ⟨rfl, rfl⟩ rfl ⟨rfl, rfl, (Nat.le_of_ble_eq_true rfl), (Nat.le_of_ble_eq_true rfl)⟩ (Nat.le_of_ble_eq_true rfl) dL_law_1065 ?_
    refine zq_aload_n dL_law_1068 rfl rfl ?_
    refine zq_callM _ zv_L_114 (m_X7_save_full hGM hM hT t2) hM0 rfl rfl ⟨rfl, rfl⟩ rfl ⟨rfl, rfl, (Nat.le_of_ble_eq_true rfl), (Nat.le_of_ble_eq_true rfl)⟩ (Nat.le_of_ble_eq_true rfl) dL_law_1069 ?_
    refine zq_icmp_eq (tgt := 1283) dL_law_1072 (by decide) (fun _ => ?_) (fun h_ => absurd rfl h_)
    exact zLW_to (kk n _ _ (by omega) ⟨save_rel HR t2 t0, wf_save hW⟩) ⟨rfl, rfl, rfl, rfl, trivial⟩

set_option maxHeartbeats 4000000 in
set_option maxRecDepth 100000 in
theorem law_back {g : ZG} {W9 : ZW9} {Q9 : ZQ9} {n w h i : Nat} {ly : Int32} {μ m : ZMem} (hGC : zGC W9.1 (w * h) (fcA w h)) (hGM : zGM W9.2.1) (hi : i + 5 ≤ W9.2.2.2.1) (hL9 : W9.2.2.2.1 ≤ 2563) (hn : n + 200 < 2 ^ 17) (H : zLI W9.1 n w h ly μ m) (kk : ∀ n' μ' m', n' ≤ n + 200 → zLI W9.1 n' w h ly μ' m' → zLW g W9 Q9 zKL 1283 (zls [(0, zr (some 0)), (1, zr (some 1)), (2, zr (some 2)), (3, zi (nI i))]) [] (μ', m')) : zLW g W9 Q9 zKL 1077 (zls [(0, zr (some 0)), (1, zr (some 1)), (2, zr (some 2)), (3, zi (nI i))]) [] (μ, m) := by
  obtain ⟨HR, hW⟩ := H
  have HR0 := HR
  obtain ⟨⟨hd, hF4, hL, hB, hM, -⟩, hCl, hSp, hSi, hWi, hTi, hNI, hNe, hGa, hFi, hSa, hOu⟩ := HR0
  have hC0 : zO W9.1 6 0 := hGC.fix 0 (by decide)
  have hM0 : zO W9.2.1 7 0 := ⟨(hGM 0 rfl).1, (hGM 0 rfl).2.1⟩
  obtain ⟨S, CH, t0, -, t1, t2, -⟩ := id hSa
  refine zq_aload_n dL_law_1077 rfl rfl ?_
  refine zq_aload_n dL_law_1078 rfl rfl ?_
  refine zq_iload_n dL_law_1079 rfl rfl ?_
  refine zq_iconst 1 dL_law_1080 (by decide) ?_
  refine zq_iadd dL_law_1081 ?_
  refine zq_sald (i + 1) (nI_add i 1) ⟨by omega, by omega⟩ dL_law_1082 ?_
  refine zq_callC _ zv_L_115 (m_X6_back hGC hL hW) hC0 rfl rfl ⟨rfl, rfl⟩ rfl ⟨rfl, rfl, (Nat.le_of_ble_eq_true rfl), (Nat.le_of_ble_eq_true rfl)⟩ (Nat.le_of_ble_eq_true rfl) dL_law_1083 ?_
  refine zq_aload_n dL_law_1086 rfl rfl ?_
  refine zq_aload_n dL_law_1087 rfl rfl ?_
  refine zq_iload_n dL_law_1088 rfl rfl ?_
  refine zq_iconst 1 dL_law_1089 (by decide) ?_
  refine zq_iadd dL_law_1090 ?_
  refine zq_sald (i + 1) (nI_add i 1) ⟨by omega, by omega⟩ dL_law_1091 ?_
  refine zq_callM _ zv_L_118 (m_X7_back hGM hM t0 t2) hM0 rfl rfl ⟨rfl, rfl⟩ rfl ⟨rfl, rfl, (Nat.le_of_ble_eq_true rfl), (Nat.le_of_ble_eq_true rfl)⟩ (Nat.le_of_ble_eq_true rfl) dL_law_1092 ?_
  refine zq_icmp_eq (tgt := 1283) dL_law_1095 (by decide) (fun _ => ?_) (fun h_ => absurd (back_rel (by omega) HR t2 t0 _).1 h_)
  exact zLW_to (kk n _ _ (by omega) ⟨(back_rel (by omega) HR t2 t0 _).2, wf_back hW⟩) ⟨rfl, rfl, rfl, rfl, trivial⟩

set_option maxHeartbeats 4000000 in
set_option maxRecDepth 100000 in
theorem law_ice {g : ZG} {W9 : ZW9} {Q9 : ZQ9} {n w h i : Nat} {ly : Int32} {μ m : ZMem} (hGC : zGC W9.1 (w * h) (fcA w h)) (hGM : zGM W9.2.1) (hi : i + 5 ≤ W9.2.2.2.1) (hL9 : W9.2.2.2.1 ≤ 2563) (hn : n + 200 < 2 ^ 17) (H : zLI W9.1 n w h ly μ m) (kk : ∀ n' μ' m', n' ≤ n + 200 → zLI W9.1 n' w h ly μ' m' → zLW g W9 Q9 zKL 1283 (zls [(0, zr (some 0)), (1, zr (some 1)), (2, zr (some 2)), (3, zi (nI i))]) [] (μ', m')) : zLW g W9 Q9 zKL 1100 (zls [(0, zr (some 0)), (1, zr (some 1)), (2, zr (some 2)), (3, zi (nI i))]) [] (μ, m) := by
  obtain ⟨HR, hW⟩ := H
  have HR0 := HR
  obtain ⟨⟨hd, hF4, hL, hB, hM, -⟩, hCl, hSp, hSi, hWi, hTi, hNI, hNe, hGa, hFi, hSa, hOu⟩ := HR0
  have hC0 : zO W9.1 6 0 := hGC.fix 0 (by decide)
  have hM0 : zO W9.2.1 7 0 := ⟨(hGM 0 rfl).1, (hGM 0 rfl).2.1⟩
  refine zq_aload_n dL_law_1100 rfl rfl ?_
  refine zq_aload_n dL_law_1101 rfl rfl ?_
  refine zq_iload_n dL_law_1102 rfl rfl ?_
  refine zq_iconst 1 dL_law_1103 (by decide) ?_
  refine zq_iadd dL_law_1104 ?_
  refine zq_sald (i + 1) (nI_add i 1) ⟨by omega, by omega⟩ dL_law_1105 ?_
  refine zq_aload_n dL_law_1106 rfl rfl ?_
  refine zq_iload_n dL_law_1107 rfl rfl ?_
  refine zq_iconst 2 dL_law_1108 (by decide) ?_
  refine zq_iadd dL_law_1109 ?_
  refine zq_sald (i + 2) (nI_add i 2) ⟨by omega, by omega⟩ dL_law_1110 ?_
  refine zq_callC _ zv_L_119 (m_X6_ice hGC hL hW) hC0 rfl rfl ⟨rfl, rfl⟩ rfl ⟨rfl, rfl, (Nat.le_of_ble_eq_true rfl), (Nat.le_of_ble_eq_true rfl)⟩ (Nat.le_of_ble_eq_true rfl) dL_law_1111 ?_
  refine zq_dstore dL_law_1114 (Nat.le_of_ble_eq_true rfl) ?_
  refine zq_aload_n dL_law_1116 rfl rfl ?_
  refine zq_aload_n dL_law_1117 rfl rfl ?_
  refine zq_iload_n dL_law_1118 rfl rfl ?_
  refine zq_iconst 1 dL_law_1119 (by decide) ?_
  refine zq_iadd dL_law_1120 ?_
  refine zq_sald (i + 1) (nI_add i 1) ⟨by omega, by omega⟩ dL_law_1121 ?_
  refine zq_aload_n dL_law_1122 rfl rfl ?_
  refine zq_iload_n dL_law_1123 rfl rfl ?_
  refine zq_iconst 2 dL_law_1124 (by decide) ?_
  refine zq_iadd dL_law_1125 ?_
  refine zq_sald (i + 2) (nI_add i 2) ⟨by omega, by omega⟩ dL_law_1126 ?_
  refine zq_callM _ zv_L_122 (m_X7_ice hGM hM) hM0 rfl rfl ⟨rfl, rfl⟩ rfl ⟨rfl, rfl, (Nat.le_of_ble_eq_true rfl), (Nat.le_of_ble_eq_true rfl)⟩ (Nat.le_of_ble_eq_true rfl) dL_law_1127 ?_
  refine zq_dstore dL_law_1130 (Nat.le_of_ble_eq_true rfl) ?_
  have hz_ := zq_law (ice_rel hd hCl (W9.2.2.2.2 (i + 1)) (W9.2.2.2.2 (i + 2)))
  refine zq_dload dL_law_1132 rfl ?_
  refine zq_dload dL_law_1134 rfl ?_
  refine zq_dcmp dL_law_1136 ?_
  refine zq_if_eq (tgt := 1158) dL_law_1137 (by decide) (fun _ => ?_) (fun c1_ => ?_)
  · exact zq_goto (tgt := 1283) dL_law_1158 (by decide) (zLW_to (kk n _ _ (by omega) ⟨HR, hW⟩) ⟨rfl, rfl, rfl, rfl, trivial⟩)
  have hz1 := hz_.resolve_left c1_
  refine zq_dload dL_law_1140 rfl ?_
  refine zq_dload dL_law_1142 rfl ?_
  refine zq_dcmp dL_law_1144 ?_
  refine zq_if_eq (tgt := 1156) dL_law_1145 (by decide) (fun h_ => absurd h_ hz1.1) (fun _ => ?_)
  refine zq_dload dL_law_1148 rfl ?_
  refine zq_dload dL_law_1150 rfl ?_
  refine zq_dcmp dL_law_1152 ?_
  refine zq_if_ne (tgt := 1158) dL_law_1153 (by decide) (fun _ => ?_) (fun h_ => by first | exact absurd h_ hz1.2 | exact absurd hz1.2 h_)
  exact zq_goto (tgt := 1283) dL_law_1158 (by decide) (zLW_to (kk n _ _ (by omega) ⟨HR, hW⟩) ⟨rfl, rfl, rfl, rfl, trivial⟩)

set_option maxHeartbeats 4000000 in
set_option maxRecDepth 100000 in
theorem law_mud {g : ZG} {W9 : ZW9} {Q9 : ZQ9} {n w h i : Nat} {ly : Int32} {μ m : ZMem} (hGC : zGC W9.1 (w * h) (fcA w h)) (hGM : zGM W9.2.1) (hi : i + 5 ≤ W9.2.2.2.1) (hL9 : W9.2.2.2.1 ≤ 2563) (hn : n + 200 < 2 ^ 17) (H : zLI W9.1 n w h ly μ m) (kk : ∀ n' μ' m', n' ≤ n + 200 → zLI W9.1 n' w h ly μ' m' → zLW g W9 Q9 zKL 1283 (zls [(0, zr (some 0)), (1, zr (some 1)), (2, zr (some 2)), (3, zi (nI i))]) [] (μ', m')) : zLW g W9 Q9 zKL 1161 (zls [(0, zr (some 0)), (1, zr (some 1)), (2, zr (some 2)), (3, zi (nI i))]) [] (μ, m) := by
  obtain ⟨HR, hW⟩ := H
  have HR0 := HR
  obtain ⟨⟨hd, hF4, hL, hB, hM, -⟩, hCl, hSp, hSi, hWi, hTi, hNI, hNe, hGa, hFi, hSa, hOu⟩ := HR0
  have hC0 : zO W9.1 6 0 := hGC.fix 0 (by decide)
  have hM0 : zO W9.2.1 7 0 := ⟨(hGM 0 rfl).1, (hGM 0 rfl).2.1⟩
  refine zq_aload_n dL_law_1161 rfl rfl ?_
  refine zq_aload_n dL_law_1162 rfl rfl ?_
  refine zq_iload_n dL_law_1163 rfl rfl ?_
  refine zq_iconst 1 dL_law_1164 (by decide) ?_
  refine zq_iadd dL_law_1165 ?_
  refine zq_sald (i + 1) (nI_add i 1) ⟨by omega, by omega⟩ dL_law_1166 ?_
  refine zq_aload_n dL_law_1167 rfl rfl ?_
  refine zq_iload_n dL_law_1168 rfl rfl ?_
  refine zq_iconst 2 dL_law_1169 (by decide) ?_
  refine zq_iadd dL_law_1170 ?_
  refine zq_sald (i + 2) (nI_add i 2) ⟨by omega, by omega⟩ dL_law_1171 ?_
  refine zq_callC _ zv_L_123 (m_X6_mud hGC hL hW) hC0 rfl rfl ⟨rfl, rfl⟩ rfl ⟨rfl, rfl, (Nat.le_of_ble_eq_true rfl), (Nat.le_of_ble_eq_true rfl)⟩ (Nat.le_of_ble_eq_true rfl) dL_law_1172 ?_
  refine zq_dstore dL_law_1175 (Nat.le_of_ble_eq_true rfl) ?_
  refine zq_aload_n dL_law_1177 rfl rfl ?_
  refine zq_aload_n dL_law_1178 rfl rfl ?_
  refine zq_iload_n dL_law_1179 rfl rfl ?_
  refine zq_iconst 1 dL_law_1180 (by decide) ?_
  refine zq_iadd dL_law_1181 ?_
  refine zq_sald (i + 1) (nI_add i 1) ⟨by omega, by omega⟩ dL_law_1182 ?_
  refine zq_aload_n dL_law_1183 rfl rfl ?_
  refine zq_iload_n dL_law_1184 rfl rfl ?_
  refine zq_iconst 2 dL_law_1185 (by decide) ?_
  refine zq_iadd dL_law_1186 ?_
  refine zq_sald (i + 2) (nI_add i 2) ⟨by omega, by omega⟩ dL_law_1187 ?_
  refine zq_callM _ zv_L_126 (m_X7_mud hGM hM) hM0 rfl rfl ⟨rfl, rfl⟩ rfl ⟨rfl, rfl, (Nat.le_of_ble_eq_true rfl), (Nat.le_of_ble_eq_true rfl)⟩ (Nat.le_of_ble_eq_true rfl) dL_law_1188 ?_
  refine zq_dstore dL_law_1191 (Nat.le_of_ble_eq_true rfl) ?_
  have hz_ := zq_law (mud_rel hd hCl (W9.2.2.2.2 (i + 1)) (W9.2.2.2.2 (i + 2)))
  refine zq_dload dL_law_1193 rfl ?_
  refine zq_dload dL_law_1195 rfl ?_
  refine zq_dcmp dL_law_1197 ?_
  refine zq_if_eq (tgt := 1219) dL_law_1198 (by decide) (fun _ => ?_) (fun c1_ => ?_)
  · exact zq_goto (tgt := 1283) dL_law_1219 (by decide) (zLW_to (kk n _ _ (by omega) ⟨HR, hW⟩) ⟨rfl, rfl, rfl, rfl, trivial⟩)
  have hz1 := hz_.resolve_left c1_
  refine zq_dload dL_law_1201 rfl ?_
  refine zq_dload dL_law_1203 rfl ?_
  refine zq_dcmp dL_law_1205 ?_
  refine zq_if_eq (tgt := 1217) dL_law_1206 (by decide) (fun h_ => absurd h_ hz1.1) (fun _ => ?_)
  refine zq_dload dL_law_1209 rfl ?_
  refine zq_dload dL_law_1211 rfl ?_
  refine zq_dcmp dL_law_1213 ?_
  refine zq_if_ne (tgt := 1219) dL_law_1214 (by decide) (fun _ => ?_) (fun h_ => by first | exact absurd h_ hz1.2 | exact absurd hz1.2 h_)
  exact zq_goto (tgt := 1283) dL_law_1219 (by decide) (zLW_to (kk n _ _ (by omega) ⟨HR, hW⟩) ⟨rfl, rfl, rfl, rfl, trivial⟩)

set_option maxHeartbeats 4000000 in
set_option maxRecDepth 100000 in
theorem law_differs {g : ZG} {W9 : ZW9} {Q9 : ZQ9} {n w h i : Nat} {ly : Int32} {μ m : ZMem} (hGC : zGC W9.1 (w * h) (fcA w h)) (hGM : zGM W9.2.1) (hi : i + 5 ≤ W9.2.2.2.1) (hL9 : W9.2.2.2.1 ≤ 2563) (hn : n + 200 < 2 ^ 17) (H : zLI W9.1 n w h ly μ m) (kk : ∀ n' μ' m', n' ≤ n + 200 → zLI W9.1 n' w h ly μ' m' → zLW g W9 Q9 zKL 1283 (zls [(0, zr (some 0)), (1, zr (some 1)), (2, zr (some 2)), (3, zi (nI i))]) [] (μ', m')) : zLW g W9 Q9 zKL 1222 (zls [(0, zr (some 0)), (1, zr (some 1)), (2, zr (some 2)), (3, zi (nI i))]) [] (μ, m) := by
  obtain ⟨HR, hW⟩ := H
  have HR0 := HR
  obtain ⟨⟨hd, hF4, hL, hB, hM, -⟩, hCl, hSp, hSi, hWi, hTi, hNI, hNe, hGa, hFi, hSa, hOu⟩ := HR0
  have hC0 : zO W9.1 6 0 := hGC.fix 0 (by decide)
  have hM0 : zO W9.2.1 7 0 := ⟨(hGM 0 rfl).1, (hGM 0 rfl).2.1⟩
  obtain ⟨T, t0, t1, t2, -⟩ := id hGa
  by_cases hw : t_isWater m w h (W9.2.2.2.2 (i + 1)) (W9.2.2.2.2 (i + 2)) = 0
  · skip
    refine zq_aload_n dL_law_1222 rfl rfl ?_
    refine zq_aload_n dL_law_1223 rfl rfl ?_
    refine zq_iload_n dL_law_1224 rfl rfl ?_
    refine zq_iconst 1 dL_law_1225 (by decide) ?_
    refine zq_iadd dL_law_1226 ?_
    refine zq_sald (i + 1) (nI_add i 1) ⟨by omega, by omega⟩ dL_law_1227 ?_
    refine zq_aload_n dL_law_1228 rfl rfl ?_
    refine zq_iload_n dL_law_1229 rfl rfl ?_
    refine zq_iconst 2 dL_law_1230 (by decide) ?_
    refine zq_iadd dL_law_1231 ?_
    refine zq_sald (i + 2) (nI_add i 2) ⟨by omega, by omega⟩ dL_law_1232 ?_
    refine zq_callC _ zv_L_127 (m_X6_differs hGC hL hW) hC0 rfl rfl ⟨rfl, rfl⟩ rfl ⟨rfl, rfl, (Nat.le_of_ble_eq_true rfl), (Nat.le_of_ble_eq_true rfl)⟩ (Nat.le_of_ble_eq_true rfl) dL_law_1233 ?_
    refine zq_dstore dL_law_1236 (Nat.le_of_ble_eq_true rfl) ?_
    refine zq_aload_n dL_law_1238 rfl rfl ?_
    refine zq_aload_n dL_law_1239 rfl rfl ?_
    refine zq_iload_n dL_law_1240 rfl rfl ?_
    refine zq_iconst 1 dL_law_1241 (by decide) ?_
    refine zq_iadd dL_law_1242 ?_
    refine zq_sald (i + 1) (nI_add i 1) ⟨by omega, by omega⟩ dL_law_1243 ?_
    refine zq_aload_n dL_law_1244 rfl rfl ?_
    refine zq_iload_n dL_law_1245 rfl rfl ?_
    refine zq_iconst 2 dL_law_1246 (by decide) ?_
    refine zq_iadd dL_law_1247 ?_
    refine zq_sald (i + 2) (nI_add i 2) ⟨by omega, by omega⟩ dL_law_1248 ?_
    refine zq_callM _ zv_L_130 (m_X7_differs_dry hGM hM t0 t2 hw) hM0 rfl rfl ⟨rfl, rfl⟩ rfl ⟨rfl, rfl, (Nat.le_of_ble_eq_true rfl), (Nat.le_of_ble_eq_true rfl)⟩ (Nat.le_of_ble_eq_true rfl) dL_law_1249 ?_
    refine zq_dstore dL_law_1252 (Nat.le_of_ble_eq_true rfl) ?_
    have hz_ := zq_law (Or.inl (differs_rel hd hCl hGa t2 t0 (W9.2.2.2.2 (i + 1)) (W9.2.2.2.2 (i + 2))))
    refine zq_dload dL_law_1254 rfl ?_
    refine zq_dload dL_law_1256 rfl ?_
    refine zq_dcmp dL_law_1258 ?_
    refine zq_if_eq (tgt := 1280) dL_law_1259 (by decide) (fun _ => ?_) (fun c1_ => ?_)
    · exact zq_goto (tgt := 1283) dL_law_1280 (by decide) (zLW_to (kk n _ _ (by omega) ⟨HR, hW⟩) ⟨rfl, rfl, rfl, rfl, trivial⟩)
    have hz1 := hz_.resolve_left c1_
    refine zq_dload dL_law_1262 rfl ?_
    refine zq_dload dL_law_1264 rfl ?_
    refine zq_dcmp dL_law_1266 ?_
    refine zq_if_eq (tgt := 1278) dL_law_1267 (by decide) (fun h_ => absurd h_ hz1.1) (fun _ => ?_)
    refine zq_dload dL_law_1270 rfl ?_
    refine zq_dload dL_law_1272 rfl ?_
    refine zq_dcmp dL_law_1274 ?_
    refine zq_if_ne (tgt := 1280) dL_law_1275 (by decide) (fun _ => ?_) (fun h_ => by first | exact absurd h_ hz1.2 | exact absurd hz1.2 h_)
    exact zq_goto (tgt := 1283) dL_law_1280 (by decide) (zLW_to (kk n _ _ (by omega) ⟨HR, hW⟩) ⟨rfl, rfl, rfl, rfl, trivial⟩)
  · skip
    refine zq_aload_n dL_law_1222 rfl rfl ?_
    refine zq_aload_n dL_law_1223 rfl rfl ?_
    refine zq_iload_n dL_law_1224 rfl rfl ?_
    refine zq_iconst 1 dL_law_1225 (by decide) ?_
    refine zq_iadd dL_law_1226 ?_
    refine zq_sald (i + 1) (nI_add i 1) ⟨by omega, by omega⟩ dL_law_1227 ?_
    refine zq_aload_n dL_law_1228 rfl rfl ?_
    refine zq_iload_n dL_law_1229 rfl rfl ?_
    refine zq_iconst 2 dL_law_1230 (by decide) ?_
    refine zq_iadd dL_law_1231 ?_
    refine zq_sald (i + 2) (nI_add i 2) ⟨by omega, by omega⟩ dL_law_1232 ?_
    refine zq_callC _ zv_L_127 (m_X6_differs hGC hL hW) hC0 rfl rfl ⟨rfl, rfl⟩ rfl ⟨rfl, rfl, (Nat.le_of_ble_eq_true rfl), (Nat.le_of_ble_eq_true rfl)⟩ (Nat.le_of_ble_eq_true rfl) dL_law_1233 ?_
    refine zq_dstore dL_law_1236 (Nat.le_of_ble_eq_true rfl) ?_
    refine zq_aload_n dL_law_1238 rfl rfl ?_
    refine zq_aload_n dL_law_1239 rfl rfl ?_
    refine zq_iload_n dL_law_1240 rfl rfl ?_
    refine zq_iconst 1 dL_law_1241 (by decide) ?_
    refine zq_iadd dL_law_1242 ?_
    refine zq_sald (i + 1) (nI_add i 1) ⟨by omega, by omega⟩ dL_law_1243 ?_
    refine zq_aload_n dL_law_1244 rfl rfl ?_
    refine zq_iload_n dL_law_1245 rfl rfl ?_
    refine zq_iconst 2 dL_law_1246 (by decide) ?_
    refine zq_iadd dL_law_1247 ?_
    refine zq_sald (i + 2) (nI_add i 2) ⟨by omega, by omega⟩ dL_law_1248 ?_
    refine zq_callM _ zv_L_130 (m_X7_differs hGM hM t0 t2 hw) hM0 rfl rfl ⟨rfl, rfl⟩ rfl ⟨rfl, rfl, (Nat.le_of_ble_eq_true rfl), (Nat.le_of_ble_eq_true rfl)⟩ (Nat.le_of_ble_eq_true rfl) dL_law_1249 ?_
    refine zq_dstore dL_law_1252 (Nat.le_of_ble_eq_true rfl) ?_
    have hz_ := zq_law (Or.inl (differs_rel hd hCl hGa t2 t0 (W9.2.2.2.2 (i + 1)) (W9.2.2.2.2 (i + 2))))
    refine zq_dload dL_law_1254 rfl ?_
    refine zq_dload dL_law_1256 rfl ?_
    refine zq_dcmp dL_law_1258 ?_
    refine zq_if_eq (tgt := 1280) dL_law_1259 (by decide) (fun _ => ?_) (fun c1_ => ?_)
    · exact zq_goto (tgt := 1283) dL_law_1280 (by decide) (zLW_to (kk n _ _ (by omega) ⟨HR, hW⟩) ⟨rfl, rfl, rfl, rfl, trivial⟩)
    have hz1 := hz_.resolve_left c1_
    refine zq_dload dL_law_1262 rfl ?_
    refine zq_dload dL_law_1264 rfl ?_
    refine zq_dcmp dL_law_1266 ?_
    refine zq_if_eq (tgt := 1278) dL_law_1267 (by decide) (fun h_ => absurd h_ hz1.1) (fun _ => ?_)
    refine zq_dload dL_law_1270 rfl ?_
    refine zq_dload dL_law_1272 rfl ?_
    refine zq_dcmp dL_law_1274 ?_
    refine zq_if_ne (tgt := 1280) dL_law_1275 (by decide) (fun _ => ?_) (fun h_ => by first | exact absurd h_ hz1.2 | exact absurd hz1.2 h_)
    exact zq_goto (tgt := 1283) dL_law_1280 (by decide) (zLW_to (kk n _ _ (by omega) ⟨HR, hW⟩) ⟨rfl, rfl, rfl, rfl, trivial⟩)
