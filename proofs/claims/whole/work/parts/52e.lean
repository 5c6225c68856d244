set_option maxHeartbeats 4000000 in
set_option maxRecDepth 100000 in
theorem m_X7_change {g : ZG} {μ : ZMem} {w h : Nat} {ly : Int32} (hG : zGM g) (hL : zLM w h ly μ) {i j : Nat} (hi : i < w) (hj : j < h) {v : UInt64} : zCab g RX7 yX7_change cX7_change 10 (none) (zrm 3) [zr (some 0), zi (nI i), zi (nI j), zd v] μ none (q_change w h i j v μ) := by
  refine zCab_w (by decide +kernel) rfl (Nat.le_of_ble_eq_true rfl) ?_
  have hO0 : zO g 7 0 := hG.o 0 (by decide)
  have hO6 : zO g 8 6 := hG.o 6 (by decide)
  have hl6 : zln g 6 = 144 := hG.l 6 (by decide)
  have hO7 : zO g 10 7 := hG.o 7 (by decide)
  have hl7 : zln g 7 = 144 := hG.l 7 (by decide)
  have hO8 : zO g 8 8 := hG.o 8 (by decide)
  have hl8 : zln g 8 = 144 := hG.l 8 (by decide)
  have hO9 : zO g 8 9 := hG.o 9 (by decide)
  have hl9 : zln g 9 = 144 := hG.l 9 (by decide)
  have hO10 : zO g 8 10 := hG.o 10 (by decide)
  have hl10 : zln g 10 = 144 := hG.l 10 (by decide)
  have hO12 : zO g 10 12 := hG.o 12 (by decide)
  have hl12 : zln g 12 = 4 := hG.l 12 (by decide)
  have hO16 : zO g 10 16 := hG.o 16 (by decide)
  have hl16 : zln g 16 = 144 := hG.l 16 (by decide)
  have hO17 : zO g 8 17 := hG.o 17 (by decide)
  have hl17 : zln g 17 = 144 := hG.l 17 (by decide)
  have hO18 : zO g 8 18 := hG.o 18 (by decide)
  have hl18 : zln g 18 = 144 := hG.l 18 (by decide)
  have hO19 : zO g 10 19 := hG.o 19 (by decide)
  have hl19 : zln g 19 = 336 := hG.l 19 (by decide)
  have hw0 : zI μ 0 0 = nI w := hL.2.1
  have hh0 : zI μ 0 1 = nI h := hL.2.2.1
  have hy0 : zI μ 0 2 = ly := hL.2.2.2.1
  obtain ⟨hb1, hb2, hb3, hb4⟩ := hL.2.2.2.2
  have hL0 := zLM_kp (zKp_ch0 μ (12 * j + i)) hL
  have hLA := zLM_kp (zKp_chA w h i j _) hL0
  have hLB := zLM_kp (zKp_chB w h i j _) hLA
  have hLC := zLM_kp (zKp_chC w h i j _) hLB
  have hLD := zLM_kp (zKp_chD w h i j _) hLC
  have hLS := zLM_kp (zKp_it (zKp_chS w h i j) 4 _) hLD
  have hL1 : zLM w h ly (q_chR1 (zit (q_chS w h i j) 4 (q_chD w h i j (q_chC w h i j (q_chB w h i j (q_chA w h i j (q_ch0 μ (12 * j + i))))))) (12 * j + i) (FP.d2l (zmul (zD (zit (q_chS w h i j) 4 (q_chD w h i j (q_chC w h i j (q_chB w h i j (q_chA w h i j (q_ch0 μ (12 * j + i))))))) 6 (12 * j + i)) v))) := zLM_kp (zKp_chR1 _ _ _) hLS
  have hL2 : zLM w h ly (q_chR2 (q_chR1 (zit (q_chS w h i j) 4 (q_chD w h i j (q_chC w h i j (q_chB w h i j (q_chA w h i j (q_ch0 μ (12 * j + i))))))) (12 * j + i) (FP.d2l (zmul (zD (zit (q_chS w h i j) 4 (q_chD w h i j (q_chC w h i j (q_chB w h i j (q_chA w h i j (q_ch0 μ (12 * j + i))))))) 6 (12 * j + i)) v))) (12 * j + i)) := zLM_kp (zKp_chR2 _ _) hL1
  refine zx_iload_n dX7_change_0 rfl rfl ?_
  refine zx_iload_n dX7_change_1 rfl rfl ?_
  refine zx_callS1 _ zs_X7_135 m_X7_at rfl rfl ⟨rfl, rfl, (Nat.le_of_ble_eq_true rfl), (Nat.le_of_ble_eq_true rfl)⟩ (Nat.le_of_ble_eq_true rfl) dX7_change_2 ?_
  rw [zat]
  refine zx_istore dX7_change_5 (Nat.le_of_ble_eq_true rfl) ?_
  refine zx_aload_n dX7_change_7 rfl rfl ?_
  refine zx_aload_n dX7_change_8 rfl rfl ?_
  refine zx_getR zf_X7_42 (by assumption) (show _ = some 17 from hL.1 16 (by decide)) rfl dX7_change_9 ?_
  refine zx_iload dX7_change_12 rfl ?_
  refine zx_dald (12 * j + i) (by assumption) rfl ⟨by rw [hl17]; omega, by rw [hl17]; decide⟩ dX7_change_14 ?_
  refine zx_aload_n dX7_change_15 rfl rfl ?_
  refine zx_getR zf_X7_39 (by assumption) (show _ = some 16 from hL.1 15 (by decide)) rfl dX7_change_16 ?_
  refine zx_iload dX7_change_19 rfl ?_
  refine zx_lald (12 * j + i) (by assumption) rfl ⟨by rw [hl16]; omega, by rw [hl16]; decide⟩ dX7_change_21 ?_
  refine zx_l2d dX7_change_22 ?_
  refine zx_dmul dX7_change_23 ?_
  refine zx_putD zf_X7_240 (by assumption) rfl dX7_change_24 ?_
  refine zx_aload_n dX7_change_27 rfl rfl ?_
  refine zx_aload_n dX7_change_28 rfl rfl ?_
  refine zx_getR zf_X7_45 (by assumption) (show _ = some 18 from hL.1 17 (by decide)) rfl dX7_change_29 ?_
  refine zx_iload dX7_change_32 rfl ?_
  refine zx_dald (12 * j + i) (by assumption) rfl ⟨by rw [hl18]; omega, by rw [hl18]; decide⟩ dX7_change_34 ?_
  refine zx_aload_n dX7_change_35 rfl rfl ?_
  refine zx_getR zf_X7_39 (by assumption) (show _ = some 16 from hL.1 15 (by decide)) rfl dX7_change_36 ?_
  refine zx_iload dX7_change_39 rfl ?_
  refine zx_lald (12 * j + i) (by assumption) rfl ⟨by rw [hl16]; omega, by rw [hl16]; decide⟩ dX7_change_41 ?_
  refine zx_l2d dX7_change_42 ?_
  refine zx_dmul dX7_change_43 ?_
  refine zx_putD zf_X7_245 (by assumption) rfl dX7_change_44 ?_
  refine zx_aload_n dX7_change_47 rfl rfl ?_
  refine zx_dconst0 dX7_change_48 ?_
  refine zx_putD zf_X7_250 (by assumption) rfl dX7_change_49 ?_
  refine zWA_to (S_X7_chA hG hL0 hi hj ?_) ⟨rfl, rfl, rfl, rfl, rfl, trivial⟩
  refine S_X7_chB hG hLA hi hj ?_
  refine S_X7_chC hG hLB hi hj ?_
  refine S_X7_chD hG hLC hi hj ?_
  refine zx_iconst 0 dX7_change_230 (by decide) ?_
  refine zx_istore dX7_change_231 (Nat.le_of_ble_eq_true rfl) ?_
  refine zWA_to (L_X7_chS (μ := (q_chD w h i j (q_chC w h i j (q_chB w h i j (q_chA w h i j (q_ch0 μ (12 * j + i))))))) hG hLD hi hj ?_) ⟨rfl, rfl, rfl, rfl, rfl, rfl, trivial⟩
  refine zWA_to (t := [(0, zr (some 0)), (1, zi (nI i)), (2, zi (nI j)), (3, zd v), (5, zi (nI (12 * j + i)))]) (S_X7_chR1 (μ := (zit (q_chS w h i j) 4 (q_chD w h i j (q_chC w h i j (q_chB w h i j (q_chA w h i j (q_ch0 μ (12 * j + i)))))))) hG hLS hi hj ?_) ⟨rfl, rfl, rfl, rfl, rfl, trivial⟩
  refine S_X7_chR2 hG hL1 hi hj ?_
  exact S_X7_chR3 hG hL2 hi hj

