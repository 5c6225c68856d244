set_option maxHeartbeats 4000000 in
set_option maxRecDepth 100000 in
theorem S_X7_chR1 {g : ZG} {μ : ZMem} {w h : Nat} {ly : Int32} (hG : zGM g) (hL : zLM w h ly μ) {i j : Nat} (hi : i < w) (hj : j < h) {v : UInt64} {res : Option ZV} {μ' : ZMem} (hx : zWA g (RX7, cX7_change, 10, none, zrm 3, res, μ') 384 (zls [(0, zr (some 0)), (1, zi (nI i)), (2, zi (nI j)), (3, zd v), (5, zi (nI (12 * j + i)))]) [] (q_chR1 μ (12 * j + i) (FP.d2l (zmul (zD μ 6 (12 * j + i)) v)))) : zWA g (RX7, cX7_change, 10, none, zrm 3, res, μ') 319 (zls [(0, zr (some 0)), (1, zi (nI i)), (2, zi (nI j)), (3, zd v), (5, zi (nI (12 * j + i)))]) [] μ := by
  have hO0 : zO g 7 0 := hG.o 0 (by decide)
  have hO6 : zO g 8 6 := hG.o 6 (by decide)
  have hl6 : zln g 6 = 144 := hG.l 6 (by decide)
  have hO7 : zO g 10 7 := hG.o 7 (by decide)
  have hl7 : zln g 7 = 144 := hG.l 7 (by decide)
  have hO8 : zO g 8 8 := hG.o 8 (by decide)
  have hl8 : zln g 8 = 144 := hG.l 8 (by decide)
  have hO9 : zO g 8 9 := hG.o 9 (by decide)
  have hl9 : zln g 9 = 144 := hG.l 9 (by decide)
  have hO10 : zO g 8 10 := hG.o 10 (by decide)
  have hl10 : zln g 10 = 144 := hG.l 10 (by decide)
  have hO12 : zO g 10 12 := hG.o 12 (by decide)
  have hl12 : zln g 12 = 4 := hG.l 12 (by decide)
  have hO16 : zO g 10 16 := hG.o 16 (by decide)
  have hl16 : zln g 16 = 144 := hG.l 16 (by decide)
  have hO17 : zO g 8 17 := hG.o 17 (by decide)
  have hl17 : zln g 17 = 144 := hG.l 17 (by decide)
  have hO18 : zO g 8 18 := hG.o 18 (by decide)
  have hl18 : zln g 18 = 144 := hG.l 18 (by decide)
  have hO19 : zO g 10 19 := hG.o 19 (by decide)
  have hl19 : zln g 19 = 336 := hG.l 19 (by decide)
  have hw0 : zI μ 0 0 = nI w := hL.2.1
  have hh0 : zI μ 0 1 = nI h := hL.2.2.1
  have hy0 : zI μ 0 2 = ly := hL.2.2.2.1
  obtain ⟨hb1, hb2, hb3, hb4⟩ := hL.2.2.2.2
  refine zx_aload_n dX7_change_319 rfl rfl ?_
  refine zx_getR zf_X7_17 (by assumption) (show _ = some 6 from hL.1 5 (by decide)) rfl dX7_change_320 ?_
  refine zx_iload dX7_change_323 rfl ?_
  refine zx_dald (12 * j + i) (by assumption) rfl ⟨by rw [hl6]; omega, by rw [hl6]; decide⟩ dX7_change_325 ?_
  refine zx_dload_n dX7_change_326 rfl rfl ?_
  refine zx_dmul dX7_change_327 ?_
  refine zx_d2l dX7_change_328 ?_
  refine zx_lstore dX7_change_329 (Nat.le_of_ble_eq_true rfl) ?_
  refine zx_aload_n dX7_change_331 rfl rfl ?_
  refine zx_getR zf_X7_20 (by assumption) (show _ = some 7 from hL.1 6 (by decide)) rfl dX7_change_332 ?_
  refine zx_iload dX7_change_335 rfl ?_
  refine zx_dup2_11 dX7_change_337 rfl rfl ?_
  refine zx_lald (12 * j + i) (by assumption) rfl ⟨by rw [hl7]; omega, by rw [hl7]; decide⟩ dX7_change_338 ?_
  refine zx_lload dX7_change_339 rfl ?_
  refine zx_ladd dX7_change_341 ?_
  refine zx_last (12 * j + i) (by assumption) rfl ⟨by rw [hl7]; omega, by rw [hl7]; decide⟩ dX7_change_342 ?_
  refine zx_aload_n dX7_change_343 rfl rfl ?_
  refine zx_dup dX7_change_344 rfl ?_
  refine zx_getL zf_X7_261 (by assumption) rfl dX7_change_345 ?_
  refine zx_lload dX7_change_348 rfl ?_
  refine zx_ladd dX7_change_350 ?_
  refine zx_putL zf_X7_261 (by assumption) rfl dX7_change_351 ?_
  refine zx_aload_n dX7_change_354 rfl rfl ?_
  refine zx_aload_n dX7_change_355 rfl rfl ?_
  refine zx_getD zf_X7_240 (by assumption) rfl dX7_change_356 ?_
  refine zx_lload dX7_change_359 rfl ?_
  refine zx_l2d dX7_change_361 ?_
  refine zx_ldc2d 4622945017495814144 zk_X7_264 (by decide +kernel) dX7_change_362 ?_
  refine zx_dmul dX7_change_365 ?_
  refine zx_dadd dX7_change_366 ?_
  refine zx_putD zf_X7_240 (by assumption) rfl dX7_change_367 ?_
  refine zx_aload_n dX7_change_370 rfl rfl ?_
  refine zx_aload_n dX7_change_371 rfl rfl ?_
  refine zx_getD zf_X7_245 (by assumption) rfl dX7_change_372 ?_
  refine zx_lload dX7_change_375 rfl ?_
  refine zx_l2d dX7_change_377 ?_
  refine zx_dconst0 dX7_change_378 ?_
  refine zx_dmul dX7_change_379 ?_
  refine zx_dadd dX7_change_380 ?_
  refine zx_putD zf_X7_245 (by assumption) rfl dX7_change_381 ?_
  exact zWA_to (zWA_mem hx (by rfl)) ⟨rfl, rfl, rfl, rfl, rfl, trivial⟩

set_option maxHeartbeats 4000000 in
set_option maxRecDepth 100000 in
theorem S_X7_chR2 {g : ZG} {μ : ZMem} {w h : Nat} {ly : Int32} (hG : zGM g) (hL : zLM w h ly μ) {i j : Nat} (hi : i < w) (hj : j < h) {v : UInt64} {res : Option ZV} {μ' : ZMem} (hx : zWA g (RX7, cX7_change, 10, none, zrm 3, res, μ') 436 (zls [(0, zr (some 0)), (1, zi (nI i)), (2, zi (nI j)), (3, zd v), (5, zi (nI (12 * j + i)))]) [] (q_chR2 μ (12 * j + i))) : zWA g (RX7, cX7_change, 10, none, zrm 3, res, μ') 384 (zls [(0, zr (some 0)), (1, zi (nI i)), (2, zi (nI j)), (3, zd v), (5, zi (nI (12 * j + i)))]) [] μ := by
  have hO0 : zO g 7 0 := hG.o 0 (by decide)
  have hO6 : zO g 8 6 := hG.o 6 (by decide)
  have hl6 : zln g 6 = 144 := hG.l 6 (by decide)
  have hO7 : zO g 10 7 := hG.o 7 (by decide)
  have hl7 : zln g 7 = 144 := hG.l 7 (by decide)
  have hO8 : zO g 8 8 := hG.o 8 (by decide)
  have hl8 : zln g 8 = 144 := hG.l 8 (by decide)
  have hO9 : zO g 8 9 := hG.o 9 (by decide)
  have hl9 : zln g 9 = 144 := hG.l 9 (by decide)
  have hO10 : zO g 8 10 := hG.o 10 (by decide)
  have hl10 : zln g 10 = 144 := hG.l 10 (by decide)
  have hO12 : zO g 10 12 := hG.o 12 (by decide)
  have hl12 : zln g 12 = 4 := hG.l 12 (by decide)
  have hO16 : zO g 10 16 := hG.o 16 (by decide)
  have hl16 : zln g 16 = 144 := hG.l 16 (by decide)
  have hO17 : zO g 8 17 := hG.o 17 (by decide)
  have hl17 : zln g 17 = 144 := hG.l 17 (by decide)
  have hO18 : zO g 8 18 := hG.o 18 (by decide)
  have hl18 : zln g 18 = 144 := hG.l 18 (by decide)
  have hO19 : zO g 10 19 := hG.o 19 (by decide)
  have hl19 : zln g 19 = 336 := hG.l 19 (by decide)
  have hw0 : zI μ 0 0 = nI w := hL.2.1
  have hh0 : zI μ 0 1 = nI h := hL.2.2.1
  have hy0 : zI μ 0 2 = ly := hL.2.2.2.1
  obtain ⟨hb1, hb2, hb3, hb4⟩ := hL.2.2.2.2
  refine zx_aload_n dX7_change_384 rfl rfl ?_
  refine zx_getR zf_X7_20 (by assumption) (show _ = some 7 from hL.1 6 (by decide)) rfl dX7_change_385 ?_
  refine zx_iload dX7_change_388 rfl ?_
  refine zx_lald (12 * j + i) (by assumption) rfl ⟨by rw [hl7]; omega, by rw [hl7]; decide⟩ dX7_change_390 ?_
  refine zx_lconst 0 dX7_change_391 (by decide) ?_
  refine zx_lc_le (tgt := 436) dX7_change_392 dX7_change_393 (by decide) (fun c_392 => ?_) (fun c_392 => ?_)
  · skip
    exact zWA_to (zWA_mem hx (by exact (show q_chR2 μ (12 * j + i) = _ from if_neg c_392))) ⟨rfl, rfl, rfl, rfl, rfl, trivial⟩
  · skip
    refine zx_aload_n dX7_change_396 rfl rfl ?_
    refine zx_getR zf_X7_24 (by assumption) (show _ = some 8 from hL.1 7 (by decide)) rfl dX7_change_397 ?_
    refine zx_iload dX7_change_400 rfl ?_
    refine zx_aload_n dX7_change_402 rfl rfl ?_
    refine zx_getD zf_X7_240 (by assumption) rfl dX7_change_403 ?_
    refine zx_aload_n dX7_change_406 rfl rfl ?_
    refine zx_getR zf_X7_20 (by assumption) (show _ = some 7 from hL.1 6 (by decide)) rfl dX7_change_407 ?_
    refine zx_iload dX7_change_410 rfl ?_
    refine zx_lald (12 * j + i) (by assumption) rfl ⟨by rw [hl7]; omega, by rw [hl7]; decide⟩ dX7_change_412 ?_
    refine zx_l2d dX7_change_413 ?_
    refine zx_ddiv dX7_change_414 ?_
    refine zx_dast (12 * j + i) (by assumption) rfl ⟨by rw [hl8]; omega, by rw [hl8]; decide⟩ dX7_change_415 ?_
    refine zx_aload_n dX7_change_416 rfl rfl ?_
    refine zx_getR zf_X7_27 (by assumption) (show _ = some 9 from hL.1 8 (by decide)) rfl dX7_change_417 ?_
    refine zx_iload dX7_change_420 rfl ?_
    refine zx_aload_n dX7_change_422 rfl rfl ?_
    refine zx_getD zf_X7_245 (by assumption) rfl dX7_change_423 ?_
    refine zx_aload_n dX7_change_426 rfl rfl ?_
    refine zx_getR zf_X7_20 (by assumption) (show _ = some 7 from hL.1 6 (by decide)) rfl dX7_change_427 ?_
    refine zx_iload dX7_change_430 rfl ?_
    refine zx_lald (12 * j + i) (by assumption) rfl ⟨by rw [hl7]; omega, by rw [hl7]; decide⟩ dX7_change_432 ?_
    refine zx_l2d dX7_change_433 ?_
    refine zx_ddiv dX7_change_434 ?_
    refine zx_dast (12 * j + i) (by assumption) rfl ⟨by rw [hl9]; omega, by rw [hl9]; decide⟩ dX7_change_435 ?_
    exact zWA_to (zWA_mem hx (by exact (show q_chR2 μ (12 * j + i) = _ from if_pos c_392))) ⟨rfl, rfl, rfl, rfl, rfl, trivial⟩

set_option maxHeartbeats 4000000 in
set_option maxRecDepth 100000 in
theorem S_X7_chR3 {g : ZG} {μ : ZMem} {w h : Nat} {ly : Int32} (hG : zGM g) (hL : zLM w h ly μ) {i j : Nat} (hi : i < w) (hj : j < h) {v : UInt64} : zWA g (RX7, cX7_change, 10, none, zrm 3, none, (q_chR3 v μ (12 * j + i))) 436 (zls [(0, zr (some 0)), (1, zi (nI i)), (2, zi (nI j)), (3, zd v), (5, zi (nI (12 * j + i)))]) [] μ := by
  have hO0 : zO g 7 0 := hG.o 0 (by decide)
  have hO6 : zO g 8 6 := hG.o 6 (by decide)
  have hl6 : zln g 6 = 144 := hG.l 6 (by decide)
  have hO7 : zO g 10 7 := hG.o 7 (by decide)
  have hl7 : zln g 7 = 144 := hG.l 7 (by decide)
  have hO8 : zO g 8 8 := hG.o 8 (by decide)
  have hl8 : zln g 8 = 144 := hG.l 8 (by decide)
  have hO9 : zO g 8 9 := hG.o 9 (by decide)
  have hl9 : zln g 9 = 144 := hG.l 9 (by decide)
  have hO10 : zO g 8 10 := hG.o 10 (by decide)
  have hl10 : zln g 10 = 144 := hG.l 10 (by decide)
  have hO12 : zO g 10 12 := hG.o 12 (by decide)
  have hl12 : zln g 12 = 4 := hG.l 12 (by decide)
  have hO16 : zO g 10 16 := hG.o 16 (by decide)
  have hl16 : zln g 16 = 144 := hG.l 16 (by decide)
  have hO17 : zO g 8 17 := hG.o 17 (by decide)
  have hl17 : zln g 17 = 144 := hG.l 17 (by decide)
  have hO18 : zO g 8 18 := hG.o 18 (by decide)
  have hl18 : zln g 18 = 144 := hG.l 18 (by decide)
  have hO19 : zO g 10 19 := hG.o 19 (by decide)
  have hl19 : zln g 19 = 336 := hG.l 19 (by decide)
  have hw0 : zI μ 0 0 = nI w := hL.2.1
  have hh0 : zI μ 0 1 = nI h := hL.2.2.1
  have hy0 : zI μ 0 2 = ly := hL.2.2.2.1
  obtain ⟨hb1, hb2, hb3, hb4⟩ := hL.2.2.2.2
  refine zx_aload_n dX7_change_436 rfl rfl ?_
  refine zx_getD zf_X7_250 (by assumption) rfl dX7_change_437 ?_
  refine zx_ldc2d 4596373779694328218 zk_X7_266 (by decide +kernel) dX7_change_440 ?_
  refine zx_dl_le (tgt := 476) dX7_change_443 dX7_change_444 (by decide) (fun c_443 => ?_) (fun c_443 => ?_)
  · skip
    exact zx_return rfl rfl (by show q_chR3 v μ (12 * j + i) = _; unfold q_chR3; rw [if_neg (by rw [show zgt (zD μ 0 21) k02 = false from c_443]; decide)]) dX7_change_476
  · skip
    refine zx_aload_n dX7_change_447 rfl rfl ?_
    refine zx_getR zf_X7_30 (by assumption) (show _ = some 10 from hL.1 9 (by decide)) rfl dX7_change_448 ?_
    refine zx_iload dX7_change_451 rfl ?_
    refine zx_aload_n dX7_change_453 rfl rfl ?_
    refine zx_getR zf_X7_30 (by assumption) (show _ = some 10 from hL.1 9 (by decide)) rfl dX7_change_454 ?_
    refine zx_iload dX7_change_457 rfl ?_
    refine zx_dald (12 * j + i) (by assumption) rfl ⟨by rw [hl10]; omega, by rw [hl10]; decide⟩ dX7_change_459 ?_
    refine zx_ldc2d 4562254508917369340 zk_X7_196 (by decide +kernel) dX7_change_460 ?_
    refine zx_dload_n dX7_change_463 rfl rfl ?_
    refine zx_dmul dX7_change_464 ?_
    refine zx_aload_n dX7_change_465 rfl rfl ?_
    refine zx_getD zf_X7_250 (by assumption) rfl dX7_change_466 ?_
    refine zx_ldc2d 4596373779694328218 zk_X7_266 (by decide +kernel) dX7_change_469 ?_
    refine zx_dsub dX7_change_472 ?_
    refine zx_dmul dX7_change_473 ?_
    refine zx_dadd dX7_change_474 ?_
    refine zx_dast (12 * j + i) (by assumption) rfl ⟨by rw [hl10]; omega, by rw [hl10]; decide⟩ dX7_change_475 ?_
    exact zx_return rfl rfl (by show q_chR3 v μ (12 * j + i) = _; unfold q_chR3; rw [if_pos (show zgt (zD μ 0 21) k02 = true from c_443)]) dX7_change_476

