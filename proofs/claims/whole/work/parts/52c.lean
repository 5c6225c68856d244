set_option maxHeartbeats 4000000 in
set_option maxRecDepth 100000 in
theorem L_X7_chS {g : ZG} {μ : ZMem} {w h : Nat} {ly : Int32} (hG : zGM g) (hL : zLM w h ly μ) {i j : Nat} (hi : i < w) (hj : j < h) {v : UInt64} {res : Option ZV} {μ' : ZMem} (hx : zWA g (RX7, cX7_change, 10, none, zrm 3, res, μ') 319 (zls [(0, zr (some 0)), (1, zi (nI i)), (2, zi (nI j)), (3, zd v), (5, zi (nI (12 * j + i))), (6, zi (nI (4)))]) [] (zit (q_chS w h i j) (4) μ)) : zWA g (RX7, cX7_change, 10, none, zrm 3, res, μ') 233 (zls [(0, zr (some 0)), (1, zi (nI i)), (2, zi (nI j)), (3, zd v), (5, zi (nI (12 * j + i))), (6, zi (nI (0)))]) [] μ := by
  have hO0 : zO g 7 0 := hG.o 0 (by decide)
  have hO6 : zO g 8 6 := hG.o 6 (by decide)
  have hl6 : zln g 6 = 144 := hG.l 6 (by decide)
  have hO7 : zO g 10 7 := hG.o 7 (by decide)
  have hl7 : zln g 7 = 144 := hG.l 7 (by decide)
  have hO8 : zO g 8 8 := hG.o 8 (by decide)
  have hl8 : zln g 8 = 144 := hG.l 8 (by decide)
  have hO9 : zO g 8 9 := hG.o 9 (by decide)
  have hl9 : zln g 9 = 144 := hG.l 9 (by decide)
  have hO10 : zO g 8 10 := hG.o 10 (by decide)
  have hl10 : zln g 10 = 144 := hG.l 10 (by decide)
  have hO12 : zO g 10 12 := hG.o 12 (by decide)
  have hl12 : zln g 12 = 4 := hG.l 12 (by decide)
  have hO16 : zO g 10 16 := hG.o 16 (by decide)
  have hl16 : zln g 16 = 144 := hG.l 16 (by decide)
  have hO17 : zO g 8 17 := hG.o 17 (by decide)
  have hl17 : zln g 17 = 144 := hG.l 17 (by decide)
  have hO18 : zO g 8 18 := hG.o 18 (by decide)
  have hl18 : zln g 18 = 144 := hG.l 18 (by decide)
  have hO19 : zO g 10 19 := hG.o 19 (by decide)
  have hl19 : zln g 19 = 336 := hG.l 19 (by decide)
  have hw0 : zI μ 0 0 = nI w := hL.2.1
  have hh0 : zI μ 0 1 = nI h := hL.2.2.1
  have hy0 : zI μ 0 2 = ly := hL.2.2.2.1
  obtain ⟨hb1, hb2, hb3, hb4⟩ := hL.2.2.2.2
  have hLk : ∀ k, zLM w h ly (zit (q_chS w h i j) k μ) := fun k => zLM_kp (zKp_it (zKp_chS w h i j) k μ) hL
  refine zloop (P := fun k => zWA g (RX7, cX7_change, 10, none, zrm 3, res, μ') 233 (zls [(0, zr (some 0)), (1, zi (nI i)), (2, zi (nI j)), (3, zd v), (5, zi (nI (12 * j + i))), (6, zi (nI (k)))]) [] (zit (q_chS w h i j) (k) μ)) (N := 4) ?_ ?_ 0 (Nat.zero_le _)
  · show zWA _ _ _ _ _ _
    refine zx_iload dX7_change_233 rfl ?_
    refine zx_iconst 4 dX7_change_235 (by decide) ?_
    refine zx_icmp_ge (tgt := 319) dX7_change_236 (by decide) (fun _ => ?_) (fun h_ => absurd h_ (fun q => q (by decide)))
    exact zWA_to hx ⟨rfl, rfl, rfl, rfl, rfl, rfl, trivial⟩
  · intro k hk hn_
    show zWA _ _ _ _ _ _
    refine zx_iload dX7_change_233 rfl ?_
    refine zx_iconst 4 dX7_change_235 (by decide) ?_
    refine zx_icmp_ge (tgt := 319) dX7_change_236 (by decide) (fun h_ => absurd h_ (nI_ge hk (by decide))) (fun _ => ?_)
    refine zx_aload_n dX7_change_239 rfl rfl ?_
    refine zx_iload_n dX7_change_240 rfl rfl ?_
    refine zx_iload_n dX7_change_241 rfl rfl ?_
    refine zx_iload dX7_change_242 rfl ?_
    refine zx_callV1 _ zv_X7_230 (m_X7_hasSideFace hG (hLk k) hk) (by assumption) (by decide) rfl rfl rfl ⟨rfl, rfl, (Nat.le_of_ble_eq_true rfl), (Nat.le_of_ble_eq_true rfl)⟩ (Nat.le_of_ble_eq_true rfl) dX7_change_244 ?_
    refine zx_if_eq (tgt := 313) dX7_change_247 (by decide) (fun c_247 => ?_) (fun c_247 => ?_)
    · skip
      refine zx_iinc (nI (k + 1)) dX7_change_313 rfl (by exact nI_1 k) (Nat.le_of_ble_eq_true rfl) ?_
      refine zx_goto (tgt := 233) dX7_change_316 (by decide) ?_
      exact zWA_to (zWA_mem hn_ (by exact (show q_chS w h i j k (zit (q_chS w h i j) k μ) = (zit (q_chS w h i j) k μ) from if_pos c_247))) ⟨rfl, rfl, rfl, rfl, rfl, rfl, trivial⟩
    · skip
      refine zx_iload_n dX7_change_250 rfl rfl ?_
      refine zx_iload_n dX7_change_251 rfl rfl ?_
      refine zx_iload dX7_change_252 rfl ?_
      refine zx_callS1 _ zs_X7_164 m_X7_sideFace rfl rfl ⟨rfl, rfl, (Nat.le_of_ble_eq_true rfl), (Nat.le_of_ble_eq_true rfl)⟩ (Nat.le_of_ble_eq_true rfl) dX7_change_254 ?_
      rw [t_sideFace_nI _ _ _ hk]
      refine zx_istore dX7_change_257 (Nat.le_of_ble_eq_true rfl) ?_
      refine zx_iload dX7_change_259 rfl ?_
      refine zx_if_eq (tgt := 270) dX7_change_261 (by decide) (fun c_261 => ?_) (fun c_261 => ?_)
      · skip
        refine zx_aload_n dX7_change_270 rfl rfl ?_
        refine zx_getR zf_X7_48 (by assumption) (show _ = some 19 from (hLk k).1 18 (by decide)) rfl dX7_change_271 ?_
        refine zx_iload dX7_change_274 rfl ?_
        refine zx_lald (sfN i j k) (by assumption) rfl ⟨by rw [hl19]; exact sfN_lt (by omega) (by omega) hk, by rw [hl19]; decide⟩ dX7_change_276 ?_
        refine zx_goto (tgt := 288) dX7_change_277 (by decide) ?_
        refine zx_lstore dX7_change_288 (Nat.le_of_ble_eq_true rfl) ?_
        refine zx_aload_n dX7_change_290 rfl rfl ?_
        refine zx_iload dX7_change_291 rfl ?_
        refine zx_iload dX7_change_293 rfl ?_
        refine zx_lload dX7_change_295 rfl ?_
        refine zx_iconst (-1) dX7_change_297 (by decide) ?_
        refine zx_callV0 _ zv_X7_257 (m_X7_pass_n hG (hLk k) (c := 12 * j + i) (by omega) (f := sfN i j k) (sfN_lt (by omega) (by omega) hk)) (by assumption) (by decide) rfl rfl rfl ⟨rfl, rfl, (Nat.le_of_ble_eq_true rfl), (Nat.le_of_ble_eq_true rfl)⟩ (Nat.le_of_ble_eq_true rfl) dX7_change_298 ?_
        refine zx_aload_n dX7_change_301 rfl rfl ?_
        refine zx_getR zf_X7_36 (by assumption) (show _ = some 12 from (congrFun (congrFun (zKp_pass _ _ _ _ _).1 0) 11).trans ((hLk k).1 11 (by decide))) rfl dX7_change_302 ?_
        refine zx_iload dX7_change_305 rfl ?_
        refine zx_dup2_11 dX7_change_307 rfl rfl ?_
        refine zx_lald (k) (by assumption) rfl ⟨by rw [hl12]; assumption, by rw [hl12]; decide⟩ dX7_change_308 ?_
        refine zx_lload dX7_change_309 rfl ?_
        refine zx_ladd dX7_change_311 ?_
        refine zx_last (k) (by assumption) rfl ⟨by rw [hl12]; assumption, by rw [hl12]; decide⟩ dX7_change_312 ?_
        refine zx_iinc (nI (k + 1)) dX7_change_313 rfl (by exact nI_1 k) (Nat.le_of_ble_eq_true rfl) ?_
        refine zx_goto (tgt := 233) dX7_change_316 (by decide) ?_
        exact zWA_to (zWA_mem hn_ (by exact Eq.trans (show q_chS w h i j k (zit (q_chS w h i j) k μ) = q_ov (q_pass (zit (q_chS w h i j) k μ) (12 * j + i) (sfN i j k) (t_comes (zit (q_chS w h i j) k μ) (sfN i j k) k) none) k (t_comes (zit (q_chS w h i j) k μ) (sfN i j k) k) from if_neg c_247) (congrArg (fun n => q_ov (q_pass (zit (q_chS w h i j) k μ) (12 * j + i) (sfN i j k) n none) k n) (show t_comes (zit (q_chS w h i j) k μ) (sfN i j k) k = _ from (if_pos c_261))))) ⟨rfl, rfl, rfl, rfl, rfl, rfl, trivial⟩
      · skip
        refine zx_iload dX7_change_264 rfl ?_
        refine zx_iconst 2 dX7_change_266 (by decide) ?_
        refine zx_icmp_ne (tgt := 280) dX7_change_267 (by decide) (fun c_267 => ?_) (fun c_267 => ?_)
        · skip
          refine zx_aload_n dX7_change_280 rfl rfl ?_
          refine zx_getR zf_X7_48 (by assumption) (show _ = some 19 from (hLk k).1 18 (by decide)) rfl dX7_change_281 ?_
          refine zx_iload dX7_change_284 rfl ?_
          refine zx_lald (sfN i j k) (by assumption) rfl ⟨by rw [hl19]; exact sfN_lt (by omega) (by omega) hk, by rw [hl19]; decide⟩ dX7_change_286 ?_
          refine zx_lneg dX7_change_287 ?_
          refine zx_lstore dX7_change_288 (Nat.le_of_ble_eq_true rfl) ?_
          refine zx_aload_n dX7_change_290 rfl rfl ?_
          refine zx_iload dX7_change_291 rfl ?_
          refine zx_iload dX7_change_293 rfl ?_
          refine zx_lload dX7_change_295 rfl ?_
          refine zx_iconst (-1) dX7_change_297 (by decide) ?_
          refine zx_callV0 _ zv_X7_257 (m_X7_pass_n hG (hLk k) (c := 12 * j + i) (by omega) (f := sfN i j k) (sfN_lt (by omega) (by omega) hk)) (by assumption) (by decide) rfl rfl rfl ⟨rfl, rfl, (Nat.le_of_ble_eq_true rfl), (Nat.le_of_ble_eq_true rfl)⟩ (Nat.le_of_ble_eq_true rfl) dX7_change_298 ?_
          refine zx_aload_n dX7_change_301 rfl rfl ?_
          refine zx_getR zf_X7_36 (by assumption) (show _ = some 12 from (congrFun (congrFun (zKp_pass _ _ _ _ _).1 0) 11).trans ((hLk k).1 11 (by decide))) rfl dX7_change_302 ?_
          refine zx_iload dX7_change_305 rfl ?_
          refine zx_dup2_11 dX7_change_307 rfl rfl ?_
          refine zx_lald (k) (by assumption) rfl ⟨by rw [hl12]; assumption, by rw [hl12]; decide⟩ dX7_change_308 ?_
          refine zx_lload dX7_change_309 rfl ?_
          refine zx_ladd dX7_change_311 ?_
          refine zx_last (k) (by assumption) rfl ⟨by rw [hl12]; assumption, by rw [hl12]; decide⟩ dX7_change_312 ?_
          refine zx_iinc (nI (k + 1)) dX7_change_313 rfl (by exact nI_1 k) (Nat.le_of_ble_eq_true rfl) ?_
          refine zx_goto (tgt := 233) dX7_change_316 (by decide) ?_
          exact zWA_to (zWA_mem hn_ (by exact Eq.trans (show q_chS w h i j k (zit (q_chS w h i j) k μ) = q_ov (q_pass (zit (q_chS w h i j) k μ) (12 * j + i) (sfN i j k) (t_comes (zit (q_chS w h i j) k μ) (sfN i j k) k) none) k (t_comes (zit (q_chS w h i j) k μ) (sfN i j k) k) from if_neg c_247) (congrArg (fun n => q_ov (q_pass (zit (q_chS w h i j) k μ) (12 * j + i) (sfN i j k) n none) k n) (show t_comes (zit (q_chS w h i j) k μ) (sfN i j k) k = _ from (Eq.trans (if_neg c_261) (if_neg c_267)))))) ⟨rfl, rfl, rfl, rfl, rfl, rfl, trivial⟩
        · skip
          refine zx_aload_n dX7_change_270 rfl rfl ?_
          refine zx_getR zf_X7_48 (by assumption) (show _ = some 19 from (hLk k).1 18 (by decide)) rfl dX7_change_271 ?_
          refine zx_iload dX7_change_274 rfl ?_
          refine zx_lald (sfN i j k) (by assumption) rfl ⟨by rw [hl19]; exact sfN_lt (by omega) (by omega) hk, by rw [hl19]; decide⟩ dX7_change_276 ?_
          refine zx_goto (tgt := 288) dX7_change_277 (by decide) ?_
          refine zx_lstore dX7_change_288 (Nat.le_of_ble_eq_true rfl) ?_
          refine zx_aload_n dX7_change_290 rfl rfl ?_
          refine zx_iload dX7_change_291 rfl ?_
          refine zx_iload dX7_change_293 rfl ?_
          refine zx_lload dX7_change_295 rfl ?_
          refine zx_iconst (-1) dX7_change_297 (by decide) ?_
          refine zx_callV0 _ zv_X7_257 (m_X7_pass_n hG (hLk k) (c := 12 * j + i) (by omega) (f := sfN i j k) (sfN_lt (by omega) (by omega) hk)) (by assumption) (by decide) rfl rfl rfl ⟨rfl, rfl, (Nat.le_of_ble_eq_true rfl), (Nat.le_of_ble_eq_true rfl)⟩ (Nat.le_of_ble_eq_true rfl) dX7_change_298 ?_
          refine zx_aload_n dX7_change_301 rfl rfl ?_
          refine zx_getR zf_X7_36 (by assumption) (show _ = some 12 from (congrFun (congrFun (zKp_pass _ _ _ _ _).1 0) 11).trans ((hLk k).1 11 (by decide))) rfl dX7_change_302 ?_
          refine zx_iload dX7_change_305 rfl ?_
          refine zx_dup2_11 dX7_change_307 rfl rfl ?_
          refine zx_lald (k) (by assumption) rfl ⟨by rw [hl12]; assumption, by rw [hl12]; decide⟩ dX7_change_308 ?_
          refine zx_lload dX7_change_309 rfl ?_
          refine zx_ladd dX7_change_311 ?_
          refine zx_last (k) (by assumption) rfl ⟨by rw [hl12]; assumption, by rw [hl12]; decide⟩ dX7_change_312 ?_
          refine zx_iinc (nI (k + 1)) dX7_change_313 rfl (by exact nI_1 k) (Nat.le_of_ble_eq_true rfl) ?_
          refine zx_goto (tgt := 233) dX7_change_316 (by decide) ?_
          exact zWA_to (zWA_mem hn_ (by exact Eq.trans (show q_chS w h i j k (zit (q_chS w h i j) k μ) = q_ov (q_pass (zit (q_chS w h i j) k μ) (12 * j + i) (sfN i j k) (t_comes (zit (q_chS w h i j) k μ) (sfN i j k) k) none) k (t_comes (zit (q_chS w h i j) k μ) (sfN i j k) k) from if_neg c_247) (congrArg (fun n => q_ov (q_pass (zit (q_chS w h i j) k μ) (12 * j + i) (sfN i j k) n none) k n) (show t_comes (zit (q_chS w h i j) k μ) (sfN i j k) k = _ from (Eq.trans (if_neg c_261) (if_pos c_267)))))) ⟨rfl, rfl, rfl, rfl, rfl, rfl, trivial⟩

