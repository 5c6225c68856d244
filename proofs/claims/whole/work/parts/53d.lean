set_option maxHeartbeats 4000000 in
set_option maxRecDepth 100000 in
theorem L_X7_stC {g : ZG} {μ : ZMem} {w h : Nat} {ly : Int32} (hG : zGM g) (hL : zLM w h ly μ) {v : UInt64} {res : Option ZV} {μ' : ZMem} (hx : zWA g (RX7, cX7_step, 7, none, zrm 4, res, μ') 283 (zls [(0, zr (some 0)), (1, zd v), (3, zi (nI (144)))]) [] (zit q_cp (144) μ)) : zWA g (RX7, cX7_step, 7, none, zrm 4, res, μ') 234 (zls [(0, zr (some 0)), (1, zd v), (3, zi (nI (0)))]) [] μ := by
  have hO0 : zO g 7 0 := hG.o 0 (by decide)
  have hO7 : zO g 10 7 := hG.o 7 (by decide)
  have hl7 : zln g 7 = 144 := hG.l 7 (by decide)
  have hO8 : zO g 8 8 := hG.o 8 (by decide)
  have hl8 : zln g 8 = 144 := hG.l 8 (by decide)
  have hO9 : zO g 8 9 := hG.o 9 (by decide)
  have hl9 : zln g 9 = 144 := hG.l 9 (by decide)
  have hO16 : zO g 10 16 := hG.o 16 (by decide)
  have hl16 : zln g 16 = 144 := hG.l 16 (by decide)
  have hO17 : zO g 8 17 := hG.o 17 (by decide)
  have hl17 : zln g 17 = 144 := hG.l 17 (by decide)
  have hO18 : zO g 8 18 := hG.o 18 (by decide)
  have hl18 : zln g 18 = 144 := hG.l 18 (by decide)
  have hO19 : zO g 10 19 := hG.o 19 (by decide)
  have hl19 : zln g 19 = 336 := hG.l 19 (by decide)
  have hw0 : zI μ 0 0 = nI w := hL.2.1
  have hh0 : zI μ 0 1 = nI h := hL.2.2.1
  have hy0 : zI μ 0 2 = ly := hL.2.2.2.1
  obtain ⟨hb1, hb2, hb3, hb4⟩ := hL.2.2.2.2
  have hKk : ∀ k, zKp (zit q_cp k μ) μ := fun k => zKp_it (zKp_cp) k μ
  have hLk : ∀ k, zLM w h ly (zit q_cp k μ) := fun k => zLM_kp (hKk k) hL
  have hwk : ∀ k, zI (zit q_cp k μ) 0 0 = nI w := fun k => (hLk k).2.1
  have hhk : ∀ k, zI (zit q_cp k μ) 0 1 = nI h := fun k => (hLk k).2.2.1
  refine zloop (P := fun k => zWA g (RX7, cX7_step, 7, none, zrm 4, res, μ') 234 (zls [(0, zr (some 0)), (1, zd v), (3, zi (nI (k)))]) [] (zit q_cp (k) μ)) (N := 144) ?_ ?_ 0 (Nat.zero_le _)
  · show zWA _ _ _ _ _ _
    refine zx_iload_n dX7_step_234 rfl rfl ?_
    refine zx_sipush 144 dX7_step_235 (by decide) ?_
    refine zx_icmp_ge (tgt := 283) dX7_step_238 (by decide) (fun _ => ?_) (fun h_ => absurd h_ (fun q => q (by first | decide | exact Int32.le_refl _)))
    exact zWA_to hx ⟨rfl, rfl, rfl, trivial⟩
  · intro k hk hn_
    show zWA _ _ _ _ _ _
    refine zx_iload_n dX7_step_234 rfl rfl ?_
    refine zx_sipush 144 dX7_step_235 (by decide) ?_
    refine zx_icmp_ge (tgt := 283) dX7_step_238 (by decide) (fun h_ => absurd h_ (nI_ge hk (by decide))) (fun _ => ?_)
    refine zx_aload_n dX7_step_241 rfl rfl ?_
    refine zx_getR zf_X7_39 (by assumption) (show _ = some 16 from (hLk k).1 15 (by decide)) rfl dX7_step_242 ?_
    refine zx_iload_n dX7_step_245 rfl rfl ?_
    refine zx_aload_n dX7_step_246 rfl rfl ?_
    refine zx_getR zf_X7_20 (by assumption) (show _ = some 7 from (hLk k).1 6 (by decide)) rfl dX7_step_247 ?_
    refine zx_iload_n dX7_step_250 rfl rfl ?_
    refine zx_lald (k) (by assumption) rfl ⟨by rw [hl7]; exact hk, by rw [hl7]; decide⟩ dX7_step_251 ?_
    refine zx_last (k) (by assumption) rfl ⟨by rw [hl16]; exact hk, by rw [hl16]; decide⟩ dX7_step_252 ?_
    refine zx_aload_n dX7_step_253 rfl rfl ?_
    refine zx_getR zf_X7_42 (by assumption) (show _ = some 17 from (hLk k).1 16 (by decide)) rfl dX7_step_254 ?_
    refine zx_iload_n dX7_step_257 rfl rfl ?_
    refine zx_aload_n dX7_step_258 rfl rfl ?_
    refine zx_getR zf_X7_24 (by assumption) (show _ = some 8 from (hLk k).1 7 (by decide)) rfl dX7_step_259 ?_
    refine zx_iload_n dX7_step_262 rfl rfl ?_
    refine zx_dald (k) (by assumption) rfl ⟨by rw [hl8]; exact hk, by rw [hl8]; decide⟩ dX7_step_263 ?_
    refine zx_dast (k) (by assumption) rfl ⟨by rw [hl17]; exact hk, by rw [hl17]; decide⟩ dX7_step_264 ?_
    refine zx_aload_n dX7_step_265 rfl rfl ?_
    refine zx_getR zf_X7_45 (by assumption) (show _ = some 18 from (hLk k).1 17 (by decide)) rfl dX7_step_266 ?_
    refine zx_iload_n dX7_step_269 rfl rfl ?_
    refine zx_aload_n dX7_step_270 rfl rfl ?_
    refine zx_getR zf_X7_27 (by assumption) (show _ = some 9 from (hLk k).1 8 (by decide)) rfl dX7_step_271 ?_
    refine zx_iload_n dX7_step_274 rfl rfl ?_
    refine zx_dald (k) (by assumption) rfl ⟨by rw [hl9]; exact hk, by rw [hl9]; decide⟩ dX7_step_275 ?_
    refine zx_dast (k) (by assumption) rfl ⟨by rw [hl18]; exact hk, by rw [hl18]; decide⟩ dX7_step_276 ?_
    refine zx_iinc (nI (k + 1)) dX7_step_277 rfl (by exact nI_1 k) (Nat.le_of_ble_eq_true rfl) ?_
    refine zx_goto (tgt := 234) dX7_step_280 (by decide) ?_
    exact zWA_to (zWA_mem hn_ (by rfl)) ⟨rfl, rfl, rfl, trivial⟩

set_option maxHeartbeats 4000000 in
set_option maxRecDepth 100000 in
theorem L_X7_stgI {g : ZG} {μ : ZMem} {w h : Nat} {ly : Int32} (hG : zGM g) (hL : zLM w h ly μ) {v : UInt64} {j : Nat} (hj : j < h) {res : Option ZV} {μ' : ZMem} (hx : zWA g (RX7, cX7_step, 7, none, zrm 4, res, μ') 329 (zls [(0, zr (some 0)), (1, zd v), (3, zi (nI j)), (4, zi (nI (w)))]) [] (zit (q_gI w h j v) (w) μ)) : zWA g (RX7, cX7_step, 7, none, zrm 4, res, μ') 296 (zls [(0, zr (some 0)), (1, zd v), (3, zi (nI j)), (4, zi (nI (0)))]) [] μ := by
  have hO0 : zO g 7 0 := hG.o 0 (by decide)
  have hO7 : zO g 10 7 := hG.o 7 (by decide)
  have hl7 : zln g 7 = 144 := hG.l 7 (by decide)
  have hO8 : zO g 8 8 := hG.o 8 (by decide)
  have hl8 : zln g 8 = 144 := hG.l 8 (by decide)
  have hO9 : zO g 8 9 := hG.o 9 (by decide)
  have hl9 : zln g 9 = 144 := hG.l 9 (by decide)
  have hO16 : zO g 10 16 := hG.o 16 (by decide)
  have hl16 : zln g 16 = 144 := hG.l 16 (by decide)
  have hO17 : zO g 8 17 := hG.o 17 (by decide)
  have hl17 : zln g 17 = 144 := hG.l 17 (by decide)
  have hO18 : zO g 8 18 := hG.o 18 (by decide)
  have hl18 : zln g 18 = 144 := hG.l 18 (by decide)
  have hO19 : zO g 10 19 := hG.o 19 (by decide)
  have hl19 : zln g 19 = 336 := hG.l 19 (by decide)
  have hw0 : zI μ 0 0 = nI w := hL.2.1
  have hh0 : zI μ 0 1 = nI h := hL.2.2.1
  have hy0 : zI μ 0 2 = ly := hL.2.2.2.1
  obtain ⟨hb1, hb2, hb3, hb4⟩ := hL.2.2.2.2
  have hKk : ∀ k, zKp (zit (q_gI w h j v) k μ) μ := fun k => zKp_it (zKp_gI w h j v) k μ
  have hLk : ∀ k, zLM w h ly (zit (q_gI w h j v) k μ) := fun k => zLM_kp (hKk k) hL
  have hwk : ∀ k, zI (zit (q_gI w h j v) k μ) 0 0 = nI w := fun k => (hLk k).2.1
  have hhk : ∀ k, zI (zit (q_gI w h j v) k μ) 0 1 = nI h := fun k => (hLk k).2.2.1
  refine zloop (P := fun k => zWA g (RX7, cX7_step, 7, none, zrm 4, res, μ') 296 (zls [(0, zr (some 0)), (1, zd v), (3, zi (nI j)), (4, zi (nI (k)))]) [] (zit (q_gI w h j v) (k) μ)) (N := w) ?_ ?_ 0 (Nat.zero_le _)
  · show zWA _ _ _ _ _ _
    refine zx_iload dX7_step_296 rfl ?_
    refine zx_aload_n dX7_step_298 rfl rfl ?_
    refine zx_getI zf_X7_121 (by assumption) (Or.inl rfl) dX7_step_299 ?_
    rw [hwk]
    refine zx_icmp_ge (tgt := 329) dX7_step_302 (by decide) (fun _ => ?_) (fun h_ => absurd h_ (fun q => q (by first | decide | exact Int32.le_refl _)))
    exact zWA_to hx ⟨rfl, rfl, rfl, rfl, trivial⟩
  · intro k hk hn_
    show zWA _ _ _ _ _ _
    refine zx_iload dX7_step_296 rfl ?_
    refine zx_aload_n dX7_step_298 rfl rfl ?_
    refine zx_getI zf_X7_121 (by assumption) (Or.inl rfl) dX7_step_299 ?_
    rw [hwk]
    refine zx_icmp_ge (tgt := 329) dX7_step_302 (by decide) (fun h_ => absurd h_ (nI_ge hk (by omega))) (fun _ => ?_)
    refine zx_aload_n dX7_step_305 rfl rfl ?_
    refine zx_iload dX7_step_306 rfl ?_
    refine zx_iload_n dX7_step_308 rfl rfl ?_
    refine zx_callV1 _ zv_X7_139 (m_X7_isWater hG (hLk k)) (by assumption) (by decide) rfl rfl rfl ⟨rfl, rfl, (Nat.le_of_ble_eq_true rfl), (Nat.le_of_ble_eq_true rfl)⟩ (Nat.le_of_ble_eq_true rfl) dX7_step_309 ?_
    refine zx_if_eq (tgt := 323) dX7_step_312 (by decide) (fun c_312 => ?_) (fun c_312 => ?_)
    · skip
      refine zx_iinc (nI (k + 1)) dX7_step_323 rfl (by exact nI_1 k) (Nat.le_of_ble_eq_true rfl) ?_
      refine zx_goto (tgt := 296) dX7_step_326 (by decide) ?_
      exact zWA_to (zWA_mem hn_ (by exact (show q_gI w h j v k (zit (q_gI w h j v) k μ) = _ from if_pos c_312))) ⟨rfl, rfl, rfl, rfl, trivial⟩
    · skip
      refine zx_aload_n dX7_step_315 rfl rfl ?_
      refine zx_iload dX7_step_316 rfl ?_
      refine zx_iload_n dX7_step_318 rfl rfl ?_
      refine zx_dload_n dX7_step_319 rfl rfl ?_
      refine zx_callV0 _ zv_X7_236 (m_X7_change hG (hLk k) hk hj) (by assumption) (by decide) rfl rfl rfl ⟨rfl, rfl, (Nat.le_of_ble_eq_true rfl), (Nat.le_of_ble_eq_true rfl)⟩ (Nat.le_of_ble_eq_true rfl) dX7_step_320 ?_
      refine zx_iinc (nI (k + 1)) dX7_step_323 rfl (by exact nI_1 k) (Nat.le_of_ble_eq_true rfl) ?_
      refine zx_goto (tgt := 296) dX7_step_326 (by decide) ?_
      exact zWA_to (zWA_mem hn_ (by exact (show q_gI w h j v k (zit (q_gI w h j v) k μ) = _ from if_neg c_312))) ⟨rfl, rfl, rfl, rfl, trivial⟩

set_option maxHeartbeats 4000000 in
set_option maxRecDepth 100000 in
theorem L_X7_stgJ {g : ZG} {μ : ZMem} {w h : Nat} {ly : Int32} (hG : zGM g) (hL : zLM w h ly μ) {v : UInt64} {res : Option ZV} {μ' : ZMem} (hx : zWA g (RX7, cX7_step, 7, none, zrm 4, res, μ') 335 (zls [(0, zr (some 0)), (1, zd v), (3, zi (nI (h)))]) [] (zit (q_gJ w h v) (h) μ)) : zWA g (RX7, cX7_step, 7, none, zrm 4, res, μ') 285 (zls [(0, zr (some 0)), (1, zd v), (3, zi (nI (0)))]) [] μ := by
  have hO0 : zO g 7 0 := hG.o 0 (by decide)
  have hO7 : zO g 10 7 := hG.o 7 (by decide)
  have hl7 : zln g 7 = 144 := hG.l 7 (by decide)
  have hO8 : zO g 8 8 := hG.o 8 (by decide)
  have hl8 : zln g 8 = 144 := hG.l 8 (by decide)
  have hO9 : zO g 8 9 := hG.o 9 (by decide)
  have hl9 : zln g 9 = 144 := hG.l 9 (by decide)
  have hO16 : zO g 10 16 := hG.o 16 (by decide)
  have hl16 : zln g 16 = 144 := hG.l 16 (by decide)
  have hO17 : zO g 8 17 := hG.o 17 (by decide)
  have hl17 : zln g 17 = 144 := hG.l 17 (by decide)
  have hO18 : zO g 8 18 := hG.o 18 (by decide)
  have hl18 : zln g 18 = 144 := hG.l 18 (by decide)
  have hO19 : zO g 10 19 := hG.o 19 (by decide)
  have hl19 : zln g 19 = 336 := hG.l 19 (by decide)
  have hw0 : zI μ 0 0 = nI w := hL.2.1
  have hh0 : zI μ 0 1 = nI h := hL.2.2.1
  have hy0 : zI μ 0 2 = ly := hL.2.2.2.1
  obtain ⟨hb1, hb2, hb3, hb4⟩ := hL.2.2.2.2
  have hKk : ∀ k, zKp (zit (q_gJ w h v) k μ) μ := fun k => zKp_it (zKp_gJ w h v) k μ
  have hLk : ∀ k, zLM w h ly (zit (q_gJ w h v) k μ) := fun k => zLM_kp (hKk k) hL
  have hwk : ∀ k, zI (zit (q_gJ w h v) k μ) 0 0 = nI w := fun k => (hLk k).2.1
  have hhk : ∀ k, zI (zit (q_gJ w h v) k μ) 0 1 = nI h := fun k => (hLk k).2.2.1
  refine zloop (P := fun k => zWA g (RX7, cX7_step, 7, none, zrm 4, res, μ') 285 (zls [(0, zr (some 0)), (1, zd v), (3, zi (nI (k)))]) [] (zit (q_gJ w h v) (k) μ)) (N := h) ?_ ?_ 0 (Nat.zero_le _)
  · show zWA _ _ _ _ _ _
    refine zx_iload_n dX7_step_285 rfl rfl ?_
    refine zx_aload_n dX7_step_286 rfl rfl ?_
    refine zx_getI zf_X7_125 (by assumption) (Or.inl rfl) dX7_step_287 ?_
    rw [hhk]
    refine zx_icmp_ge (tgt := 335) dX7_step_290 (by decide) (fun _ => ?_) (fun h_ => absurd h_ (fun q => q (by first | decide | exact Int32.le_refl _)))
    exact zWA_to hx ⟨rfl, rfl, rfl, trivial⟩
  · intro k hk hn_
    show zWA _ _ _ _ _ _
    refine zx_iload_n dX7_step_285 rfl rfl ?_
    refine zx_aload_n dX7_step_286 rfl rfl ?_
    refine zx_getI zf_X7_125 (by assumption) (Or.inl rfl) dX7_step_287 ?_
    rw [hhk]
    refine zx_icmp_ge (tgt := 335) dX7_step_290 (by decide) (fun h_ => absurd h_ (nI_ge hk (by omega))) (fun _ => ?_)
    refine zx_iconst 0 dX7_step_293 (by decide) ?_
    refine zx_istore dX7_step_294 (Nat.le_of_ble_eq_true rfl) ?_
    refine zWA_to (L_X7_stgI (μ := zit (q_gJ w h v) k μ) hG (hLk k) hk ?_) ⟨rfl, rfl, rfl, rfl, trivial⟩
    refine zx_iinc (nI (k + 1)) dX7_step_329 rfl (by exact nI_1 k) (Nat.le_of_ble_eq_true rfl) ?_
    refine zx_goto (tgt := 285) dX7_step_332 (by decide) ?_
    exact zWA_to (zWA_mem hn_ (by rfl)) ⟨rfl, rfl, rfl, trivial⟩

set_option maxHeartbeats 4000000 in
set_option maxRecDepth 100000 in
theorem m_X7_step {g : ZG} {μ : ZMem} {w h : Nat} {ly : Int32} (hG : zGM g) (hL : zLM w h ly μ) {v : UInt64} {hr : Nat} (hhr : hr < 24) (hH : (FP.d2l (zdiv (zD μ 0 13) k3600) - FP.d2l (zdiv (zD μ 0 13) k3600) / 24 * 24).toInt32 = nI hr) : zCab g RX7 yX7_step cX7_step 7 (none) (zrm 4) [zr (some 0), zd v] μ none (q_step w h hr v μ) := by
  refine zCab_w (by decide +kernel) rfl (Nat.le_of_ble_eq_true rfl) ?_
  have hO0 : zO g 7 0 := hG.o 0 (by decide)
  have hO7 : zO g 10 7 := hG.o 7 (by decide)
  have hl7 : zln g 7 = 144 := hG.l 7 (by decide)
  have hO8 : zO g 8 8 := hG.o 8 (by decide)
  have hl8 : zln g 8 = 144 := hG.l 8 (by decide)
  have hO9 : zO g 8 9 := hG.o 9 (by decide)
  have hl9 : zln g 9 = 144 := hG.l 9 (by decide)
  have hO16 : zO g 10 16 := hG.o 16 (by decide)
  have hl16 : zln g 16 = 144 := hG.l 16 (by decide)
  have hO17 : zO g 8 17 := hG.o 17 (by decide)
  have hl17 : zln g 17 = 144 := hG.l 17 (by decide)
  have hO18 : zO g 8 18 := hG.o 18 (by decide)
  have hl18 : zln g 18 = 144 := hG.l 18 (by decide)
  have hO19 : zO g 10 19 := hG.o 19 (by decide)
  have hl19 : zln g 19 = 336 := hG.l 19 (by decide)
  have hw0 : zI μ 0 0 = nI w := hL.2.1
  have hh0 : zI μ 0 1 = nI h := hL.2.2.1
  have hy0 : zI μ 0 2 = ly := hL.2.2.2.1
  obtain ⟨hb1, hb2, hb3, hb4⟩ := hL.2.2.2.2
  have hK1 := zKt_it zKt_fl0 336 μ
  have hL1 := zLM_kp hK1.1 hL
  have hL2 := zLM_kp (zKt_it (zKt_fJ w h hr v) h _).1 hL1
  have hL3 := zLM_kp (zKp_it zKp_cp 144 _) hL2
  refine zx_iconst 0 dX7_step_0 (by decide) ?_
  refine zx_istore_n dX7_step_1 rfl (Nat.le_of_ble_eq_true rfl) ?_
  refine zWA_to (L_X7_st0 hG hL ?_) ⟨rfl, rfl, rfl, trivial⟩
  refine zx_iconst 0 dX7_step_22 (by decide) ?_
  refine zx_istore_n dX7_step_23 rfl (Nat.le_of_ble_eq_true rfl) ?_
  refine zWA_to (L_X7_stJ (μ := (zit q_fl0 336 μ)) hG hL1 hhr (by rw [hK1.2]; exact hH) ?_) ⟨rfl, rfl, rfl, trivial⟩
  refine zx_iconst 0 dX7_step_232 (by decide) ?_
  refine zx_istore_n dX7_step_233 rfl (Nat.le_of_ble_eq_true rfl) ?_
  refine zWA_to (L_X7_stC (μ := (zit (q_fJ w h hr v) h (zit q_fl0 336 μ))) hG hL2 ?_) ⟨rfl, rfl, rfl, trivial⟩
  refine zx_iconst 0 dX7_step_283 (by decide) ?_
  refine zx_istore_n dX7_step_284 rfl (Nat.le_of_ble_eq_true rfl) ?_
  refine zWA_to (L_X7_stgJ (μ := (zit q_cp 144 (zit (q_fJ w h hr v) h (zit q_fl0 336 μ)))) hG hL3 ?_) ⟨rfl, rfl, rfl, trivial⟩
  refine zx_aload_n dX7_step_335 rfl rfl ?_
  refine zx_aload_n dX7_step_336 rfl rfl ?_
  refine zx_getD zf_X7_186 (by assumption) rfl dX7_step_337 ?_
  refine zx_dload_n dX7_step_340 rfl rfl ?_
  refine zx_dadd dX7_step_341 ?_
  refine zx_putD zf_X7_186 (by assumption) rfl dX7_step_342 ?_
  exact zx_return rfl rfl (by rfl) dX7_step_345

