set_option maxHeartbeats 4000000 in
set_option maxRecDepth 100000 in
theorem L_X7_dpN {g : ZG} {μ : ZMem} {w h : Nat} {ly : Int32} (hG : zGM g) (hL : zLM w h ly μ) {i j : Nat} (hi : i < w) (hj : j < h) {v : UInt64} {T : Nat} (hT : T ≤ 10) (hI : zI μ 0 27 = nI T) {res : Option ZV} {μ' : ZMem} (hx : zWA g (RX7, cX7_depth, 7, ((some FieldType.boolean)), zrm 2, res, μ') 277 (zls [(0, zr (some 0)), (1, zi (nI i)), (2, zi (nI j)), (3, zd v), (5, zi (nI (12 * j + i))), (6, zi (nI (T)))]) [] (zit (q_dpN (12 * j + i)) (T) μ)) : zWA g (RX7, cX7_depth, 7, ((some FieldType.boolean)), zrm 2, res, μ') 228 (zls [(0, zr (some 0)), (1, zi (nI i)), (2, zi (nI j)), (3, zd v), (5, zi (nI (12 * j + i))), (6, zi (nI (0)))]) [] μ := by
  have hO0 : zO g 7 0 := hG.o 0 (by decide)
  have hO4 : zO g 11 4 := hG.o 4 (by decide)
  have hl4 : zln g 4 = 144 := hG.l 4 (by decide)
  have hO5 : zO g 8 5 := hG.o 5 (by decide)
  have hl5 : zln g 5 = 144 := hG.l 5 (by decide)
  have hO7 : zO g 10 7 := hG.o 7 (by decide)
  have hl7 : zln g 7 = 144 := hG.l 7 (by decide)
  have hO8 : zO g 8 8 := hG.o 8 (by decide)
  have hl8 : zln g 8 = 144 := hG.l 8 (by decide)
  have hO9 : zO g 8 9 := hG.o 9 (by decide)
  have hl9 : zln g 9 = 144 := hG.l 9 (by decide)
  have hO10 : zO g 8 10 := hG.o 10 (by decide)
  have hl10 : zln g 10 = 144 := hG.l 10 (by decide)
  have hO11 : zO g 8 11 := hG.o 11 (by decide)
  have hl11 : zln g 11 = 336 := hG.l 11 (by decide)
  have hO29 : zO g 9 29 := hG.o 29 (by decide)
  have hl29 : zln g 29 = 10 := hG.l 29 (by decide)
  have hO30 : zO g 11 30 := hG.o 30 (by decide)
  have hl30 : zln g 30 = 144 := hG.l 30 (by decide)
  have hO31 : zO g 11 31 := hG.o 31 (by decide)
  have hl31 : zln g 31 = 10 := hG.l 31 (by decide)
  have hw0 : zI μ 0 0 = nI w := hL.2.1
  have hh0 : zI μ 0 1 = nI h := hL.2.2.1
  have hy0 : zI μ 0 2 = ly := hL.2.2.2.1
  obtain ⟨hb1, hb2, hb3, hb4⟩ := hL.2.2.2.2
  have hKk : ∀ k, zKp (zit (q_dpN (12 * j + i)) k μ) μ := fun k => zKp_it (zKp_dpN (12 * j + i)) k μ
  have hLk : ∀ k, zLM w h ly (zit (q_dpN (12 * j + i)) k μ) := fun k => zLM_kp (hKk k) hL
  have hwk : ∀ k, zI (zit (q_dpN (12 * j + i)) k μ) 0 0 = nI w := fun k => (hLk k).2.1
  have hhk : ∀ k, zI (zit (q_dpN (12 * j + i)) k μ) 0 1 = nI h := fun k => (hLk k).2.2.1
  have hIk : ∀ k, zI (zit (q_dpN (12 * j + i)) k μ) 0 27 = nI T := fun k => by rw [(hKk k).2]; exact hI
  refine zloop (P := fun k => zWA g (RX7, cX7_depth, 7, ((some FieldType.boolean)), zrm 2, res, μ') 228 (zls [(0, zr (some 0)), (1, zi (nI i)), (2, zi (nI j)), (3, zd v), (5, zi (nI (12 * j + i))), (6, zi (nI (k)))]) [] (zit (q_dpN (12 * j + i)) (k) μ)) (N := T) ?_ ?_ 0 (Nat.zero_le _)
  · show zWA _ _ _ _ _ _
    refine zx_iload dX7_depth_228 rfl ?_
    refine zx_aload_n dX7_depth_230 rfl rfl ?_
    refine zx_getI zf_X7_168 (by assumption) (Or.inl rfl) dX7_depth_231 ?_
    rw [hIk]
    refine zx_icmp_ge (tgt := 277) dX7_depth_234 (by decide) (fun _ => ?_) (fun h_ => absurd h_ (fun q => q (by first | decide | exact Int32.le_refl _)))
    exact zWA_to hx ⟨rfl, rfl, rfl, rfl, rfl, rfl, trivial⟩
  · intro k hk hn_
    show zWA _ _ _ _ _ _
    refine zx_iload dX7_depth_228 rfl ?_
    refine zx_aload_n dX7_depth_230 rfl rfl ?_
    refine zx_getI zf_X7_168 (by assumption) (Or.inl rfl) dX7_depth_231 ?_
    rw [hIk]
    refine zx_icmp_ge (tgt := 277) dX7_depth_234 (by decide) (fun h_ => absurd h_ (nI_ge hk (by omega))) (fun _ => ?_)
    refine zx_aload_n dX7_depth_237 rfl rfl ?_
    refine zx_getR zf_X7_73 (by assumption) (show _ = some 31 from (hLk k).1 30 (by decide)) rfl dX7_depth_238 ?_
    refine zx_iload dX7_depth_241 rfl ?_
    refine zx_aload_n dX7_depth_243 rfl rfl ?_
    refine zx_getR zf_X7_73 (by assumption) (show _ = some 31 from (hLk k).1 30 (by decide)) rfl dX7_depth_244 ?_
    refine zx_iload dX7_depth_247 rfl ?_
    refine zx_zald k (by assumption) rfl ⟨by rw [hl31]; omega, by rw [hl31]; decide⟩ dX7_depth_249 ?_
    refine zx_if_eq (tgt := 269) dX7_depth_250 (by decide) (fun c_250 => ?_) (fun c_250 => ?_)
    · skip
      refine zx_iconst 0 dX7_depth_269 (by decide) ?_
      refine zx_zast k (by decide +kernel) (by assumption) rfl ⟨by rw [hl31]; omega, by rw [hl31]; decide⟩ dX7_depth_270 ?_
      refine zx_iinc (nI (k + 1)) dX7_depth_271 rfl (by exact nI_1 k) (Nat.le_of_ble_eq_true rfl) ?_
      refine zx_goto (tgt := 228) dX7_depth_274 (by decide) ?_
      exact zWA_to (zWA_mem hn_ (by exact (congrArg (zsI (zit (q_dpN (12 * j + i)) k μ) 31 k) (if_pos c_250)))) ⟨rfl, rfl, rfl, rfl, rfl, rfl, trivial⟩
    · skip
      refine zx_aload_n dX7_depth_253 rfl rfl ?_
      refine zx_getR zf_X7_66 (by assumption) (show _ = some 29 from (hLk k).1 28 (by decide)) rfl dX7_depth_254 ?_
      refine zx_iload dX7_depth_257 rfl ?_
      refine zx_iald k (by assumption) rfl ⟨by rw [hl29]; omega, by rw [hl29]; decide⟩ dX7_depth_259 ?_
      refine zx_iload dX7_depth_260 rfl ?_
      refine zx_icmp_eq (tgt := 269) dX7_depth_262 (by decide) (fun c_262 => ?_) (fun c_262 => ?_)
      · skip
        refine zx_iconst 0 dX7_depth_269 (by decide) ?_
        refine zx_zast k (by decide +kernel) (by assumption) rfl ⟨by rw [hl31]; omega, by rw [hl31]; decide⟩ dX7_depth_270 ?_
        refine zx_iinc (nI (k + 1)) dX7_depth_271 rfl (by exact nI_1 k) (Nat.le_of_ble_eq_true rfl) ?_
        refine zx_goto (tgt := 228) dX7_depth_274 (by decide) ?_
        exact zWA_to (zWA_mem hn_ (by exact (congrArg (zsI (zit (q_dpN (12 * j + i)) k μ) 31 k) (Eq.trans (if_neg c_250) (if_pos c_262))))) ⟨rfl, rfl, rfl, rfl, rfl, rfl, trivial⟩
      · skip
        refine zx_iconst 1 dX7_depth_265 (by decide) ?_
        refine zx_goto (tgt := 270) dX7_depth_266 (by decide) ?_
        refine zx_zast k (by decide +kernel) (by assumption) rfl ⟨by rw [hl31]; omega, by rw [hl31]; decide⟩ dX7_depth_270 ?_
        refine zx_iinc (nI (k + 1)) dX7_depth_271 rfl (by exact nI_1 k) (Nat.le_of_ble_eq_true rfl) ?_
        refine zx_goto (tgt := 228) dX7_depth_274 (by decide) ?_
        exact zWA_to (zWA_mem hn_ (by exact (congrArg (zsI (zit (q_dpN (12 * j + i)) k μ) 31 k) (Eq.trans (if_neg c_250) (if_neg c_262))))) ⟨rfl, rfl, rfl, rfl, rfl, rfl, trivial⟩

set_option maxHeartbeats 4000000 in
set_option maxRecDepth 100000 in
theorem m_X7_depth {g : ZG} {μ : ZMem} {w h : Nat} {ly : Int32} (hG : zGM g) (hL : zLM w h ly μ) {T : Nat} (hT : T ≤ 10) (hI : zI μ 0 27 = nI T) {x y : Int32} {v : UInt64} : zCab g RX7 yX7_depth cX7_depth 7 ((some FieldType.boolean)) (zrm 2) [zr (some 0), zi x, zi y, zd v] μ (some (zi (t_depth w h x y v))) (q_depth μ w h T x y v) := by
  refine zCab_w (by decide +kernel) rfl (Nat.le_of_ble_eq_true rfl) ?_
  have hO0 : zO g 7 0 := hG.o 0 (by decide)
  have hO4 : zO g 11 4 := hG.o 4 (by decide)
  have hl4 : zln g 4 = 144 := hG.l 4 (by decide)
  have hO5 : zO g 8 5 := hG.o 5 (by decide)
  have hl5 : zln g 5 = 144 := hG.l 5 (by decide)
  have hO7 : zO g 10 7 := hG.o 7 (by decide)
  have hl7 : zln g 7 = 144 := hG.l 7 (by decide)
  have hO8 : zO g 8 8 := hG.o 8 (by decide)
  have hl8 : zln g 8 = 144 := hG.l 8 (by decide)
  have hO9 : zO g 8 9 := hG.o 9 (by decide)
  have hl9 : zln g 9 = 144 := hG.l 9 (by decide)
  have hO10 : zO g 8 10 := hG.o 10 (by decide)
  have hl10 : zln g 10 = 144 := hG.l 10 (by decide)
  have hO11 : zO g 8 11 := hG.o 11 (by decide)
  have hl11 : zln g 11 = 336 := hG.l 11 (by decide)
  have hO29 : zO g 9 29 := hG.o 29 (by decide)
  have hl29 : zln g 29 = 10 := hG.l 29 (by decide)
  have hO30 : zO g 11 30 := hG.o 30 (by decide)
  have hl30 : zln g 30 = 144 := hG.l 30 (by decide)
  have hO31 : zO g 11 31 := hG.o 31 (by decide)
  have hl31 : zln g 31 = 10 := hG.l 31 (by decide)
  have hw0 : zI μ 0 0 = nI w := hL.2.1
  have hh0 : zI μ 0 1 = nI h := hL.2.2.1
  have hy0 : zI μ 0 2 = ly := hL.2.2.2.1
  obtain ⟨hb1, hb2, hb3, hb4⟩ := hL.2.2.2.2
  refine zx_aload_n dX7_depth_0 rfl rfl ?_
  refine zx_iload_n dX7_depth_1 rfl rfl ?_
  refine zx_iload_n dX7_depth_2 rfl rfl ?_
  refine zx_callV1 _ zv_X7_131 (m_X7_isCell hG hL) (by assumption) (by decide) rfl rfl rfl ⟨rfl, rfl, (Nat.le_of_ble_eq_true rfl), (Nat.le_of_ble_eq_true rfl)⟩ (Nat.le_of_ble_eq_true rfl) dX7_depth_3 ?_
  refine zx_if_eq (tgt := 20) dX7_depth_6 (by decide) (fun c_6 => ?_) (fun c_6 => ?_)
  · skip
    refine zx_iconst 0 dX7_depth_20 (by decide) ?_
    exact zx_zreturn rfl (by decide +kernel) (by simp [zKa, t_depth, c_6]) (by simp [zKm, q_depth, t_depth, c_6]) dX7_depth_21
  · skip
    refine zx_dload_n dX7_depth_9 rfl rfl ?_
    refine zx_dconst0 dX7_depth_10 ?_
    refine zx_ldc2d 4652007308841189376 zk_X7_150 (by decide +kernel) dX7_depth_11 ?_
    refine zx_callS1 _ zs_X7_152 m_X7_isIn rfl rfl ⟨rfl, rfl, (Nat.le_of_ble_eq_true rfl), (Nat.le_of_ble_eq_true rfl)⟩ (Nat.le_of_ble_eq_true rfl) dX7_depth_14 ?_
    refine zx_if_ne (tgt := 22) dX7_depth_17 (by decide) (fun c_17 => ?_) (fun c_17 => ?_)
    · skip
      obtain ⟨i, j, hi, hj, rfl, rfl⟩ := t_isCell_in hb2 hb4 c_6
      have hK1 := zKp_dp1 μ (12 * j + i) v
      have hK2 := (zKp_dp2 _ (12 * j + i) v).trans hK1
      have hK3 := (zKp_dpA i j _).trans hK2
      have hK4 := (zKp_dpB i j _).trans hK3
      have hK5 := (zKp_it (zKp_dpS w h i j) 4 _).trans hK4
      have hK6 := (zKp_it (zKp_dpN (12 * j + i)) T _).trans hK5
      have hL1 := zLM_kp hK1 hL
      have hL2 := zLM_kp hK2 hL
      have hL3 := zLM_kp hK3 hL
      have hL4 := zLM_kp hK4 hL
      have hL5 := zLM_kp hK5 hL
      have hL6 := zLM_kp hK6 hL
      refine zx_iload_n dX7_depth_22 rfl rfl ?_
      refine zx_iload_n dX7_depth_23 rfl rfl ?_
      refine zx_callS1 _ zs_X7_135 m_X7_at rfl rfl ⟨rfl, rfl, (Nat.le_of_ble_eq_true rfl), (Nat.le_of_ble_eq_true rfl)⟩ (Nat.le_of_ble_eq_true rfl) dX7_depth_24 ?_
      rw [zat]
      refine zx_istore dX7_depth_27 (Nat.le_of_ble_eq_true rfl) ?_
      refine zx_aload_n dX7_depth_29 rfl rfl ?_
      refine zx_dup dX7_depth_30 rfl ?_
      refine zx_getL zf_X7_156 (by assumption) rfl dX7_depth_31 ?_
      refine zx_aload_n dX7_depth_34 rfl rfl ?_
      refine zx_getR zf_X7_20 (by assumption) (show _ = some 7 from hL.1 6 (by decide)) rfl dX7_depth_35 ?_
      refine zx_iload dX7_depth_38 rfl ?_
      refine zx_lald (12 * j + i) (by assumption) rfl ⟨by rw [hl7]; omega, by rw [hl7]; decide⟩ dX7_depth_40 ?_
      refine zx_lsub dX7_depth_41 ?_
      refine zx_putL zf_X7_156 (by assumption) rfl dX7_depth_42 ?_
      refine zx_aload_n dX7_depth_45 rfl rfl ?_
      refine zx_getR zf_X7_7 (by assumption) (show _ = some 4 from hL.1 3 (by decide)) rfl dX7_depth_46 ?_
      refine zx_iload dX7_depth_49 rfl ?_
      refine zx_dload_n dX7_depth_51 rfl rfl ?_
      refine zx_dconst0 dX7_depth_52 ?_
      refine zx_dl_le (tgt := 61) dX7_depth_53 dX7_depth_54 (by decide) (fun c_53 => ?_) (fun c_53 => ?_)
      · skip
        refine zx_iconst 0 dX7_depth_61 (by decide) ?_
        refine zx_zast (12 * j + i) (by decide +kernel) (by assumption) rfl ⟨by rw [hl4]; omega, by rw [hl4]; decide⟩ dX7_depth_62 ?_
        refine zWA_to (t := [(0, zr (some 0)), (1, zi (nI i)), (2, zi (nI j)), (3, zd v), (5, zi (nI (12 * j + i)))]) (zWA_mem (μ := (q_dp1 μ (12 * j + i) v)) ?_ (by unfold q_dp1 s_wet; rw [if_neg (by rw [show zgt v 0 = false from c_53]; decide)])) ⟨rfl, rfl, rfl, rfl, rfl, trivial⟩
        refine S_X7_dp2 hG hL1 hi hj ?_
        refine S_X7_dpA hG hL2 hi hj ?_
        refine S_X7_dpB hG hL3 hi hj ?_
        refine zx_iconst 0 dX7_depth_186 (by decide) ?_
        refine zx_istore dX7_depth_187 (Nat.le_of_ble_eq_true rfl) ?_
        refine zWA_to (L_X7_dpS (μ := (q_dpB i j (q_dpA i j (q_dp2 (q_dp1 μ (12 * j + i) v) (12 * j + i) v)))) hG hL4 hi hj ?_) ⟨rfl, rfl, rfl, rfl, rfl, rfl, trivial⟩
        refine zx_iconst 0 dX7_depth_225 (by decide) ?_
        refine zx_istore dX7_depth_226 (Nat.le_of_ble_eq_true rfl) ?_
        refine zWA_to (L_X7_dpN (μ := (zit (q_dpS w h i j) 4 (q_dpB i j (q_dpA i j (q_dp2 (q_dp1 μ (12 * j + i) v) (12 * j + i) v))))) hG hL5 hi hj hT (by rw [hK5.2]; exact hI) ?_) ⟨rfl, rfl, rfl, rfl, rfl, rfl, trivial⟩
        refine zx_aload_n dX7_depth_277 rfl rfl ?_
        refine zx_getR zf_X7_70 (by assumption) (show _ = some 30 from hL6.1 29 (by decide)) rfl dX7_depth_278 ?_
        refine zx_iload dX7_depth_281 rfl ?_
        refine zx_iconst 0 dX7_depth_283 (by decide) ?_
        refine zx_zast (12 * j + i) (by decide +kernel) (by assumption) rfl ⟨by rw [hl30]; omega, by rw [hl30]; decide⟩ dX7_depth_284 ?_
        refine zx_aload_n dX7_depth_285 rfl rfl ?_
        refine zx_dup dX7_depth_286 rfl ?_
        refine zx_getI zf_X7_171 (by assumption) (Or.inl rfl) dX7_depth_287 ?_
        refine zx_iconst 1 dX7_depth_290 (by decide) ?_
        refine zx_iadd dX7_depth_291 ?_
        refine zx_putI zf_X7_171 (by assumption) ⟨rfl, rfl⟩ (Or.inl rfl) dX7_depth_292 ?_
        refine zx_iconst 1 dX7_depth_295 (by decide) ?_
        exact zx_zreturn rfl (by decide +kernel) (by show some (zi (t_depth w h (nI i) (nI j) v)) = _; unfold t_depth; rw [if_neg c_6, if_neg c_17]) (by show q_depth μ w h T (nI i) (nI j) v = _; unfold q_depth; rw [if_neg (by unfold t_depth; rw [if_neg c_6, if_neg c_17]; decide), nI_clamp (by omega), nI_clamp (by omega)]; rfl) dX7_depth_296
      · skip
        refine zx_iconst 1 dX7_depth_57 (by decide) ?_
        refine zx_goto (tgt := 62) dX7_depth_58 (by decide) ?_
        refine zx_zast (12 * j + i) (by decide +kernel) (by assumption) rfl ⟨by rw [hl4]; omega, by rw [hl4]; decide⟩ dX7_depth_62 ?_
        refine zWA_to (t := [(0, zr (some 0)), (1, zi (nI i)), (2, zi (nI j)), (3, zd v), (5, zi (nI (12 * j + i)))]) (zWA_mem (μ := (q_dp1 μ (12 * j + i) v)) ?_ (by unfold q_dp1 s_wet; rw [if_pos (show zgt v 0 = true from c_53)])) ⟨rfl, rfl, rfl, rfl, rfl, trivial⟩
        refine S_X7_dp2 hG hL1 hi hj ?_
        refine S_X7_dpA hG hL2 hi hj ?_
        refine S_X7_dpB hG hL3 hi hj ?_
        refine zx_iconst 0 dX7_depth_186 (by decide) ?_
        refine zx_istore dX7_depth_187 (Nat.le_of_ble_eq_true rfl) ?_
        refine zWA_to (L_X7_dpS (μ := (q_dpB i j (q_dpA i j (q_dp2 (q_dp1 μ (12 * j + i) v) (12 * j + i) v)))) hG hL4 hi hj ?_) ⟨rfl, rfl, rfl, rfl, rfl, rfl, trivial⟩
        refine zx_iconst 0 dX7_depth_225 (by decide) ?_
        refine zx_istore dX7_depth_226 (Nat.le_of_ble_eq_true rfl) ?_
        refine zWA_to (L_X7_dpN (μ := (zit (q_dpS w h i j) 4 (q_dpB i j (q_dpA i j (q_dp2 (q_dp1 μ (12 * j + i) v) (12 * j + i) v))))) hG hL5 hi hj hT (by rw [hK5.2]; exact hI) ?_) ⟨rfl, rfl, rfl, rfl, rfl, rfl, trivial⟩
        refine zx_aload_n dX7_depth_277 rfl rfl ?_
        refine zx_getR zf_X7_70 (by assumption) (show _ = some 30 from hL6.1 29 (by decide)) rfl dX7_depth_278 ?_
        refine zx_iload dX7_depth_281 rfl ?_
        refine zx_iconst 0 dX7_depth_283 (by decide) ?_
        refine zx_zast (12 * j + i) (by decide +kernel) (by assumption) rfl ⟨by rw [hl30]; omega, by rw [hl30]; decide⟩ dX7_depth_284 ?_
        refine zx_aload_n dX7_depth_285 rfl rfl ?_
        refine zx_dup dX7_depth_286 rfl ?_
        refine zx_getI zf_X7_171 (by assumption) (Or.inl rfl) dX7_depth_287 ?_
        refine zx_iconst 1 dX7_depth_290 (by decide) ?_
        refine zx_iadd dX7_depth_291 ?_
        refine zx_putI zf_X7_171 (by assumption) ⟨rfl, rfl⟩ (Or.inl rfl) dX7_depth_292 ?_
        refine zx_iconst 1 dX7_depth_295 (by decide) ?_
        exact zx_zreturn rfl (by decide +kernel) (by show some (zi (t_depth w h (nI i) (nI j) v)) = _; unfold t_depth; rw [if_neg c_6, if_neg c_17]) (by show q_depth μ w h T (nI i) (nI j) v = _; unfold q_depth; rw [if_neg (by unfold t_depth; rw [if_neg c_6, if_neg c_17]; decide), nI_clamp (by omega), nI_clamp (by omega)]; rfl) dX7_depth_296
    · skip
      refine zx_iconst 0 dX7_depth_20 (by decide) ?_
      exact zx_zreturn rfl (by decide +kernel) (by simp [zKa, t_depth, c_6, c_17]) (by simp [zKm, q_depth, t_depth, c_6, c_17]) dX7_depth_21

