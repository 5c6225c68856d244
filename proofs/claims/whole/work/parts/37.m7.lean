theorem s_waterAt_in {μ : ZMem} {w h : Nat} {x y : Int32} {c : Nat} (e : s_waterAt μ w h x y = some c) : s_cellAt w h x y = some c ∧ ¬ zI μ c 0 = 0 := by
  unfold s_waterAt at e
  split at e
  · cases e
  · rename_i c2 hc
    split at e
    · cases e
    · rename_i hz
      cases e
      exact ⟨hc, hz⟩
abbrev kNo : UInt64 := 13920209183539462144
def s_level (μ : ZMem) (w h : Nat) (x y : Int32) : UInt64 := match s_waterAt μ w h x y with
  | none => kNo
  | some c => s_surface μ c
set_option maxHeartbeats 4000000 in
set_option maxRecDepth 100000 in
theorem m_X6_level {g : ZG} {μ : ZMem} {w h : Nat} {ly : Int32} (hG : zGC g (w * h) (fcA w h)) (hL : zLC w h ly μ) (hW : zWf g μ) {x y : Int32} : zCab g RX6 yX6_level cX6_level 4 ((some FieldType.double)) (zrm 2) [zr (some 0), zi x, zi y] μ (some (zd (s_level μ w h x y))) μ := by
  refine zCab_w (by decide +kernel) rfl (Nat.le_of_ble_eq_true rfl) ?_
  have hO0 : zO g 6 0 := hG.fix 0 (by decide)
  have hO1 : zO g 12 1 := hG.fix 1 (by decide)
  have hO2 : zO g 13 2 := hG.fix 2 (by decide)
  have hO3 : zO g 15 3 := hG.fix 3 (by decide)
  have hO4 : zO g 8 4 := hG.fix 4 (by decide)
  have hO5 : zO g 8 5 := hG.fix 5 (by decide)
  have hO6 : zO g 14 6 := hG.fix 6 (by decide)
  have hO7 : zO g 16 7 := hG.fix 7 (by decide)
  have hO8 : zO g 5 8 := hG.fix 8 (by decide)
  have hl1 : zln g 1 = w * h := hG.l _ (Or.inl (by decide)) rfl
  have hl2 : zln g 2 = fcA w h := hG.l _ (Or.inl (by decide)) rfl
  have hl3 : zln g 3 = 4 := hG.l _ (Or.inl (by decide)) rfl
  have hl4 : zln g 4 = 24 := hG.l _ (Or.inl (by decide)) rfl
  have hl5 : zln g 5 = 24 := hG.l _ (Or.inl (by decide)) rfl
  have hl6 : zln g 6 = 10 := hG.l _ (Or.inl (by decide)) rfl
  have hl7 : zln g 7 = 4 := hG.l _ (Or.inl (by decide)) rfl
  have hN := hG.1
  have hF := hG.2.1
  have hw0 : zI μ 0 0 = nI w := hL.2.2.2.2.2.2.2.2.1
  have hh0 : zI μ 0 1 = nI h := hL.2.2.2.2.2.2.2.2.2.1
  have hy0 : zI μ 0 2 = ly := hL.2.2.2.2.2.2.2.2.2.2.1
  have hwb := hL.2.2.2.2.2.2.2.2.2.2.2
  refine zx_aload_n dX6_level_0 rfl rfl ?_
  refine zx_iload_n dX6_level_1 rfl rfl ?_
  refine zx_iload_n dX6_level_2 rfl rfl ?_
  refine zx_callV1 _ zv_X6_128 (m_X6_waterAt hG hL hW) (by assumption) (by decide) rfl rfl rfl ⟨rfl, rfl, (Nat.le_of_ble_eq_true rfl), (Nat.le_of_ble_eq_true rfl)⟩ (Nat.le_of_ble_eq_true rfl) dX6_level_3 ?_
  refine zx_astore_n dX6_level_6 rfl (Nat.le_of_ble_eq_true rfl) ?_
  refine zx_aload_n dX6_level_7 rfl rfl ?_
  refine zx_ifnonnull (tgt := 17) dX6_level_8 (by decide) (fun c_8 => ?_) (fun r_8 c_8 => ?_)
  · skip
    rw [c_8]
    refine zx_callS1 _ zs_X6_140 m_X6_noReading rfl rfl ⟨rfl, rfl, (Nat.le_of_ble_eq_true rfl), (Nat.le_of_ble_eq_true rfl)⟩ (Nat.le_of_ble_eq_true rfl) dX6_level_11 ?_
    refine zx_goto (tgt := 21) dX6_level_14 (by decide) ?_
    exact zx_dreturn rfl (by first | rfl | simp [zKa, zKm, s_level, c_8]) (by rfl) dX6_level_21
  · skip
    have hO_8 : zO g 0 r_8 := (by obtain ⟨i, j, hi, hj, -, -, rfl⟩ := s_cellAt_in (by omega) (by omega) (s_waterAt_in c_8).1; exact hG.cell (zplace hi hj))
    rw [c_8]
    refine zx_aload_n dX6_level_17 rfl rfl ?_
    refine zx_callV1 _ zv_X6_144 (m_X0_surface (by assumption)) (by assumption) (by decide) rfl rfl rfl ⟨rfl, rfl, (Nat.le_of_ble_eq_true rfl), (Nat.le_of_ble_eq_true rfl)⟩ (Nat.le_of_ble_eq_true rfl) dX6_level_18 ?_
    exact zx_dreturn rfl (by first | rfl | simp [zKa, zKm, s_level, c_8]) (by rfl) dX6_level_21

def s_volume (μ : ZMem) (w h : Nat) (x : Int32) : Int64 := s_limbOf (s_all μ (w * h)) x
set_option maxHeartbeats 4000000 in
set_option maxRecDepth 100000 in
theorem m_X6_volume {g : ZG} {μ : ZMem} {w h : Nat} {ly : Int32} (hG : zGC g (w * h) (fcA w h)) (hL : zLC w h ly μ) (hW : zWf g μ) {x : Int32} : zCab g RX6 yX6_volume cX6_volume 2 ((some FieldType.long)) (zrm 2) [zr (some 0), zi x] μ (some (zl (s_volume μ w h x))) μ := by
  refine zCab_w (by decide +kernel) rfl (Nat.le_of_ble_eq_true rfl) ?_
  have hO0 : zO g 6 0 := hG.fix 0 (by decide)
  have hO1 : zO g 12 1 := hG.fix 1 (by decide)
  have hO2 : zO g 13 2 := hG.fix 2 (by decide)
  have hO3 : zO g 15 3 := hG.fix 3 (by decide)
  have hO4 : zO g 8 4 := hG.fix 4 (by decide)
  have hO5 : zO g 8 5 := hG.fix 5 (by decide)
  have hO6 : zO g 14 6 := hG.fix 6 (by decide)
  have hO7 : zO g 16 7 := hG.fix 7 (by decide)
  have hO8 : zO g 5 8 := hG.fix 8 (by decide)
  have hl1 : zln g 1 = w * h := hG.l _ (Or.inl (by decide)) rfl
  have hl2 : zln g 2 = fcA w h := hG.l _ (Or.inl (by decide)) rfl
  have hl3 : zln g 3 = 4 := hG.l _ (Or.inl (by decide)) rfl
  have hl4 : zln g 4 = 24 := hG.l _ (Or.inl (by decide)) rfl
  have hl5 : zln g 5 = 24 := hG.l _ (Or.inl (by decide)) rfl
  have hl6 : zln g 6 = 10 := hG.l _ (Or.inl (by decide)) rfl
  have hl7 : zln g 7 = 4 := hG.l _ (Or.inl (by decide)) rfl
  have hN := hG.1
  have hF := hG.2.1
  have hw0 : zI μ 0 0 = nI w := hL.2.2.2.2.2.2.2.2.1
  have hh0 : zI μ 0 1 = nI h := hL.2.2.2.2.2.2.2.2.2.1
  have hy0 : zI μ 0 2 = ly := hL.2.2.2.2.2.2.2.2.2.2.1
  have hwb := hL.2.2.2.2.2.2.2.2.2.2.2
  refine zx_aload_n dX6_volume_0 rfl rfl ?_
  refine zx_callV1 _ zv_X6_167 (m_X6_allParts hG hL hW) (by assumption) (by decide) rfl rfl rfl ⟨rfl, rfl, (Nat.le_of_ble_eq_true rfl), (Nat.le_of_ble_eq_true rfl)⟩ (Nat.le_of_ble_eq_true rfl) dX6_volume_1 ?_
  refine zx_iload_n dX6_volume_4 rfl rfl ?_
  refine zx_callS1 _ zs_X6_171 m_X6_limbOf rfl rfl ⟨rfl, rfl, (Nat.le_of_ble_eq_true rfl), (Nat.le_of_ble_eq_true rfl)⟩ (Nat.le_of_ble_eq_true rfl) dX6_volume_5 ?_
  exact zx_lreturn rfl (by first | rfl | simp [zKa, zKm, s_volume]) (by rfl) dX6_volume_8

theorem s_sideAt_in {x : Int32} {s : Nat} (e : s_sideAt x = some s) : ∃ i, i < 4 ∧ x = nI i ∧ s = 30 + i := by
  unfold s_sideAt at e
  split at e
  · cases e
  · split at e
    · rename_i a1 a2
      obtain ⟨i, hi, rfl⟩ := zix a1 (Int32.not_le.mpr a2) (by decide)
      rw [nI_clamp (by omega)] at e
      cases e
      exact ⟨i, hi, rfl, rfl⟩
    · cases e
theorem s_sideAt_o {g : ZG} {N F : Nat} (hG : zGC g N F) {x : Int32} {s : Nat} (e : s_sideAt x = some s) : zO g 3 s := by
  obtain ⟨i, hi, -, rfl⟩ := s_sideAt_in e
  exact hG.side hi
def s_through (μ : ZMem) (x y : Int32) : Int64 := match s_sideAt x with
  | none => -1
  | some s => s_limbOf (zL μ s 4) y
set_option maxHeartbeats 4000000 in
set_option maxRecDepth 100000 in
theorem m_X6_through {g : ZG} {μ : ZMem} {w h : Nat} {ly : Int32} (hG : zGC g (w * h) (fcA w h)) (hL : zLC w h ly μ) (hW : zWf g μ) {x y : Int32} : zCab g RX6 yX6_through cX6_through 4 ((some FieldType.long)) (zrm 2) [zr (some 0), zi x, zi y] μ (some (zl (s_through μ x y))) μ := by
  refine zCab_w (by decide +kernel) rfl (Nat.le_of_ble_eq_true rfl) ?_
  have hO0 : zO g 6 0 := hG.fix 0 (by decide)
  have hO1 : zO g 12 1 := hG.fix 1 (by decide)
  have hO2 : zO g 13 2 := hG.fix 2 (by decide)
  have hO3 : zO g 15 3 := hG.fix 3 (by decide)
  have hO4 : zO g 8 4 := hG.fix 4 (by decide)
  have hO5 : zO g 8 5 := hG.fix 5 (by decide)
  have hO6 : zO g 14 6 := hG.fix 6 (by decide)
  have hO7 : zO g 16 7 := hG.fix 7 (by decide)
  have hO8 : zO g 5 8 := hG.fix 8 (by decide)
  have hl1 : zln g 1 = w * h := hG.l _ (Or.inl (by decide)) rfl
  have hl2 : zln g 2 = fcA w h := hG.l _ (Or.inl (by decide)) rfl
  have hl3 : zln g 3 = 4 := hG.l _ (Or.inl (by decide)) rfl
  have hl4 : zln g 4 = 24 := hG.l _ (Or.inl (by decide)) rfl
  have hl5 : zln g 5 = 24 := hG.l _ (Or.inl (by decide)) rfl
  have hl6 : zln g 6 = 10 := hG.l _ (Or.inl (by decide)) rfl
  have hl7 : zln g 7 = 4 := hG.l _ (Or.inl (by decide)) rfl
  have hN := hG.1
  have hF := hG.2.1
  have hw0 : zI μ 0 0 = nI w := hL.2.2.2.2.2.2.2.2.1
  have hh0 : zI μ 0 1 = nI h := hL.2.2.2.2.2.2.2.2.2.1
  have hy0 : zI μ 0 2 = ly := hL.2.2.2.2.2.2.2.2.2.2.1
  have hwb := hL.2.2.2.2.2.2.2.2.2.2.2
  refine zx_aload_n dX6_through_0 rfl rfl ?_
  refine zx_iload_n dX6_through_1 rfl rfl ?_
  refine zx_callV1 _ zv_X6_112 (m_X6_sideAt hG hL hW) (by assumption) (by decide) rfl rfl rfl ⟨rfl, rfl, (Nat.le_of_ble_eq_true rfl), (Nat.le_of_ble_eq_true rfl)⟩ (Nat.le_of_ble_eq_true rfl) dX6_through_2 ?_
  refine zx_astore_n dX6_through_5 rfl (Nat.le_of_ble_eq_true rfl) ?_
  refine zx_aload_n dX6_through_6 rfl rfl ?_
  refine zx_ifnonnull (tgt := 16) dX6_through_7 (by decide) (fun c_7 => ?_) (fun r_7 c_7 => ?_)
  · skip
    rw [c_7]
    refine zx_ldc2l (-1) zk_X6_175 dX6_through_10 ?_
    refine zx_goto (tgt := 24) dX6_through_13 (by decide) ?_
    exact zx_lreturn rfl (by first | rfl | simp [zKa, zKm, s_through, c_7]) (by rfl) dX6_through_24
  · skip
    have hO_7 : zO g 3 r_7 := s_sideAt_o hG c_7
    rw [c_7]
    refine zx_aload_n dX6_through_16 rfl rfl ?_
    refine zx_getL zf_X6_177 (by assumption) rfl dX6_through_17 ?_
    refine zx_iload_n dX6_through_20 rfl rfl ?_
    refine zx_callS1 _ zs_X6_171 m_X6_limbOf rfl rfl ⟨rfl, rfl, (Nat.le_of_ble_eq_true rfl), (Nat.le_of_ble_eq_true rfl)⟩ (Nat.le_of_ble_eq_true rfl) dX6_through_21 ?_
    exact zx_lreturn rfl (by first | rfl | simp [zKa, zKm, s_through, c_7]) (by rfl) dX6_through_24

def s_warm (μ : ZMem) (w h : Nat) (ly x y z : Int32) : UInt64 := match s_waterAt μ w h x y with
  | none => kNo
  | some c => if s_isLayer ly z = 0 then kNo else zsub (zD μ c 3) (zmul k05 (FP.i2d z))
set_option maxHeartbeats 4000000 in
set_option maxRecDepth 100000 in
theorem m_X6_warm {g : ZG} {μ : ZMem} {w h : Nat} {ly : Int32} (hG : zGC g (w * h) (fcA w h)) (hL : zLC w h ly μ) (hW : zWf g μ) {x y z : Int32} : zCab g RX6 yX6_warm cX6_warm 5 ((some FieldType.double)) (zrm 2) [zr (some 0), zi x, zi y, zi z] μ (some (zd (s_warm μ w h ly x y z))) μ := by
  refine zCab_w (by decide +kernel) rfl (Nat.le_of_ble_eq_true rfl) ?_
  have hO0 : zO g 6 0 := hG.fix 0 (by decide)
  have hO1 : zO g 12 1 := hG.fix 1 (by decide)
  have hO2 : zO g 13 2 := hG.fix 2 (by decide)
  have hO3 : zO g 15 3 := hG.fix 3 (by decide)
  have hO4 : zO g 8 4 := hG.fix 4 (by decide)
  have hO5 : zO g 8 5 := hG.fix 5 (by decide)
  have hO6 : zO g 14 6 := hG.fix 6 (by decide)
  have hO7 : zO g 16 7 := hG.fix 7 (by decide)
  have hO8 : zO g 5 8 := hG.fix 8 (by decide)
  have hl1 : zln g 1 = w * h := hG.l _ (Or.inl (by decide)) rfl
  have hl2 : zln g 2 = fcA w h := hG.l _ (Or.inl (by decide)) rfl
  have hl3 : zln g 3 = 4 := hG.l _ (Or.inl (by decide)) rfl
  have hl4 : zln g 4 = 24 := hG.l _ (Or.inl (by decide)) rfl
  have hl5 : zln g 5 = 24 := hG.l _ (Or.inl (by decide)) rfl
  have hl6 : zln g 6 = 10 := hG.l _ (Or.inl (by decide)) rfl
  have hl7 : zln g 7 = 4 := hG.l _ (Or.inl (by decide)) rfl
  have hN := hG.1
  have hF := hG.2.1
  have hw0 : zI μ 0 0 = nI w := hL.2.2.2.2.2.2.2.2.1
  have hh0 : zI μ 0 1 = nI h := hL.2.2.2.2.2.2.2.2.2.1
  have hy0 : zI μ 0 2 = ly := hL.2.2.2.2.2.2.2.2.2.2.1
  have hwb := hL.2.2.2.2.2.2.2.2.2.2.2
  refine zx_aload_n dX6_warm_0 rfl rfl ?_
  refine zx_iload_n dX6_warm_1 rfl rfl ?_
  refine zx_iload_n dX6_warm_2 rfl rfl ?_
  refine zx_callV1 _ zv_X6_128 (m_X6_waterAt hG hL hW) (by assumption) (by decide) rfl rfl rfl ⟨rfl, rfl, (Nat.le_of_ble_eq_true rfl), (Nat.le_of_ble_eq_true rfl)⟩ (Nat.le_of_ble_eq_true rfl) dX6_warm_3 ?_
  refine zx_astore dX6_warm_6 (Nat.le_of_ble_eq_true rfl) ?_
  refine zx_aload dX6_warm_8 rfl ?_
  refine zx_ifnull (tgt := 21) dX6_warm_10 (by decide) (fun c_10 => ?_) (fun r_10 c_10 => ?_)
  · skip
    rw [c_10]
    refine zx_callS1 _ zs_X6_140 m_X6_noReading rfl rfl ⟨rfl, rfl, (Nat.le_of_ble_eq_true rfl), (Nat.le_of_ble_eq_true rfl)⟩ (Nat.le_of_ble_eq_true rfl) dX6_warm_21 ?_
    exact zx_dreturn rfl (by first | rfl | simp [zKa, zKm, s_warm, c_10]) (by rfl) dX6_warm_24
  · skip
    have hO_10 : zO g 0 r_10 := (by obtain ⟨i, j, hi, hj, -, -, rfl⟩ := s_cellAt_in (by omega) (by omega) (s_waterAt_in c_10).1; exact hG.cell (zplace hi hj))
    rw [c_10]
    refine zx_aload_n dX6_warm_13 rfl rfl ?_
    refine zx_iload_n dX6_warm_14 rfl rfl ?_
    refine zx_callV1 _ zv_X6_147 (m_X6_isLayer hG hL hW) (by assumption) (by decide) rfl rfl rfl ⟨rfl, rfl, (Nat.le_of_ble_eq_true rfl), (Nat.le_of_ble_eq_true rfl)⟩ (Nat.le_of_ble_eq_true rfl) dX6_warm_15 ?_
    refine zx_if_ne (tgt := 25) dX6_warm_18 (by decide) (fun c_18 => ?_) (fun c_18 => ?_)
    · skip
      refine zx_aload dX6_warm_25 rfl ?_
      refine zx_getD zf_X6_183 (by assumption) rfl dX6_warm_27 ?_
      refine zx_ldc2d 4602678819172646912 zk_X6_186 (by decide +kernel) dX6_warm_30 ?_
      refine zx_iload_n dX6_warm_33 rfl rfl ?_
      refine zx_i2d dX6_warm_34 ?_
      refine zx_dmul dX6_warm_35 ?_
      refine zx_dsub dX6_warm_36 ?_
      exact zx_dreturn rfl (by first | rfl | simp [zKa, zKm, s_warm, c_10, c_18]) (by rfl) dX6_warm_37
    · skip
      refine zx_callS1 _ zs_X6_140 m_X6_noReading rfl rfl ⟨rfl, rfl, (Nat.le_of_ble_eq_true rfl), (Nat.le_of_ble_eq_true rfl)⟩ (Nat.le_of_ble_eq_true rfl) dX6_warm_21 ?_
      exact zx_dreturn rfl (by first | rfl | simp [zKa, zKm, s_warm, c_10, c_18]) (by rfl) dX6_warm_24

abbrev k01 : UInt64 := 4591870180066957722
def s_salt (μ : ZMem) (w h : Nat) (ly x y z : Int32) : UInt64 := match s_waterAt μ w h x y with
  | none => kNo
  | some c => if s_isLayer ly z = 0 then kNo else zadd (zD μ c 4) (zmul k01 (FP.i2d z))
set_option maxHeartbeats 4000000 in
set_option maxRecDepth 100000 in
theorem m_X6_salt {g : ZG} {μ : ZMem} {w h : Nat} {ly : Int32} (hG : zGC g (w * h) (fcA w h)) (hL : zLC w h ly μ) (hW : zWf g μ) {x y z : Int32} : zCab g RX6 yX6_salt cX6_salt 5 ((some FieldType.double)) (zrm 2) [zr (some 0), zi x, zi y, zi z] μ (some (zd (s_salt μ w h ly x y z))) μ := by
  refine zCab_w (by decide +kernel) rfl (Nat.le_of_ble_eq_true rfl) ?_
  have hO0 : zO g 6 0 := hG.fix 0 (by decide)
  have hO1 : zO g 12 1 := hG.fix 1 (by decide)
  have hO2 : zO g 13 2 := hG.fix 2 (by decide)
  have hO3 : zO g 15 3 := hG.fix 3 (by decide)
  have hO4 : zO g 8 4 := hG.fix 4 (by decide)
  have hO5 : zO g 8 5 := hG.fix 5 (by decide)
  have hO6 : zO g 14 6 := hG.fix 6 (by decide)
  have hO7 : zO g 16 7 := hG.fix 7 (by decide)
  have hO8 : zO g 5 8 := hG.fix 8 (by decide)
  have hl1 : zln g 1 = w * h := hG.l _ (Or.inl (by decide)) rfl
  have hl2 : zln g 2 = fcA w h := hG.l _ (Or.inl (by decide)) rfl
  have hl3 : zln g 3 = 4 := hG.l _ (Or.inl (by decide)) rfl
  have hl4 : zln g 4 = 24 := hG.l _ (Or.inl (by decide)) rfl
  have hl5 : zln g 5 = 24 := hG.l _ (Or.inl (by decide)) rfl
  have hl6 : zln g 6 = 10 := hG.l _ (Or.inl (by decide)) rfl
  have hl7 : zln g 7 = 4 := hG.l _ (Or.inl (by decide)) rfl
  have hN := hG.1
  have hF := hG.2.1
  have hw0 : zI μ 0 0 = nI w := hL.2.2.2.2.2.2.2.2.1
  have hh0 : zI μ 0 1 = nI h := hL.2.2.2.2.2.2.2.2.2.1
  have hy0 : zI μ 0 2 = ly := hL.2.2.2.2.2.2.2.2.2.2.1
  have hwb := hL.2.2.2.2.2.2.2.2.2.2.2
  refine zx_aload_n dX6_salt_0 rfl rfl ?_
  refine zx_iload_n dX6_salt_1 rfl rfl ?_
  refine zx_iload_n dX6_salt_2 rfl rfl ?_
  refine zx_callV1 _ zv_X6_128 (m_X6_waterAt hG hL hW) (by assumption) (by decide) rfl rfl rfl ⟨rfl, rfl, (Nat.le_of_ble_eq_true rfl), (Nat.le_of_ble_eq_true rfl)⟩ (Nat.le_of_ble_eq_true rfl) dX6_salt_3 ?_
  refine zx_astore dX6_salt_6 (Nat.le_of_ble_eq_true rfl) ?_
  refine zx_aload dX6_salt_8 rfl ?_
  refine zx_ifnull (tgt := 21) dX6_salt_10 (by decide) (fun c_10 => ?_) (fun r_10 c_10 => ?_)
  · skip
    rw [c_10]
    refine zx_callS1 _ zs_X6_140 m_X6_noReading rfl rfl ⟨rfl, rfl, (Nat.le_of_ble_eq_true rfl), (Nat.le_of_ble_eq_true rfl)⟩ (Nat.le_of_ble_eq_true rfl) dX6_salt_21 ?_
    exact zx_dreturn rfl (by first | rfl | simp [zKa, zKm, s_salt, c_10]) (by rfl) dX6_salt_24
  · skip
    have hO_10 : zO g 0 r_10 := (by obtain ⟨i, j, hi, hj, -, -, rfl⟩ := s_cellAt_in (by omega) (by omega) (s_waterAt_in c_10).1; exact hG.cell (zplace hi hj))
    rw [c_10]
    refine zx_aload_n dX6_salt_13 rfl rfl ?_
    refine zx_iload_n dX6_salt_14 rfl rfl ?_
    refine zx_callV1 _ zv_X6_147 (m_X6_isLayer hG hL hW) (by assumption) (by decide) rfl rfl rfl ⟨rfl, rfl, (Nat.le_of_ble_eq_true rfl), (Nat.le_of_ble_eq_true rfl)⟩ (Nat.le_of_ble_eq_true rfl) dX6_salt_15 ?_
    refine zx_if_ne (tgt := 25) dX6_salt_18 (by decide) (fun c_18 => ?_) (fun c_18 => ?_)
    · skip
      refine zx_aload dX6_salt_25 rfl ?_
      refine zx_getD zf_X6_188 (by assumption) rfl dX6_salt_27 ?_
      refine zx_ldc2d 4591870180066957722 zk_X6_191 (by decide +kernel) dX6_salt_30 ?_
      refine zx_iload_n dX6_salt_33 rfl rfl ?_
      refine zx_i2d dX6_salt_34 ?_
      refine zx_dmul dX6_salt_35 ?_
      refine zx_dadd dX6_salt_36 ?_
      exact zx_dreturn rfl (by first | rfl | simp [zKa, zKm, s_salt, c_10, c_18]) (by rfl) dX6_salt_37
    · skip
      refine zx_callS1 _ zs_X6_140 m_X6_noReading rfl rfl ⟨rfl, rfl, (Nat.le_of_ble_eq_true rfl), (Nat.le_of_ble_eq_true rfl)⟩ (Nat.le_of_ble_eq_true rfl) dX6_salt_21 ?_
      exact zx_dreturn rfl (by first | rfl | simp [zKa, zKm, s_salt, c_10, c_18]) (by rfl) dX6_salt_24

def s_dry (μ : ZMem) (w h : Nat) (x y : Int32) : Int32 := match s_waterAt μ w h x y with
  | none => 1
  | some c => if s_isDry μ c = 0 then 0 else 1
set_option maxHeartbeats 4000000 in
set_option maxRecDepth 100000 in
theorem m_X6_dry {g : ZG} {μ : ZMem} {w h : Nat} {ly : Int32} (hG : zGC g (w * h) (fcA w h)) (hL : zLC w h ly μ) (hW : zWf g μ) {x y : Int32} : zCab g RX6 yX6_dry cX6_dry 4 ((some FieldType.boolean)) (zrm 2) [zr (some 0), zi x, zi y] μ (some (zi (s_dry μ w h x y))) μ := by
  refine zCab_w (by decide +kernel) rfl (Nat.le_of_ble_eq_true rfl) ?_
  have hO0 : zO g 6 0 := hG.fix 0 (by decide)
  have hO1 : zO g 12 1 := hG.fix 1 (by decide)
  have hO2 : zO g 13 2 := hG.fix 2 (by decide)
  have hO3 : zO g 15 3 := hG.fix 3 (by decide)
  have hO4 : zO g 8 4 := hG.fix 4 (by decide)
  have hO5 : zO g 8 5 := hG.fix 5 (by decide)
  have hO6 : zO g 14 6 := hG.fix 6 (by decide)
  have hO7 : zO g 16 7 := hG.fix 7 (by decide)
  have hO8 : zO g 5 8 := hG.fix 8 (by decide)
  have hl1 : zln g 1 = w * h := hG.l _ (Or.inl (by decide)) rfl
  have hl2 : zln g 2 = fcA w h := hG.l _ (Or.inl (by decide)) rfl
  have hl3 : zln g 3 = 4 := hG.l _ (Or.inl (by decide)) rfl
  have hl4 : zln g 4 = 24 := hG.l _ (Or.inl (by decide)) rfl
  have hl5 : zln g 5 = 24 := hG.l _ (Or.inl (by decide)) rfl
  have hl6 : zln g 6 = 10 := hG.l _ (Or.inl (by decide)) rfl
  have hl7 : zln g 7 = 4 := hG.l _ (Or.inl (by decide)) rfl
  have hN := hG.1
  have hF := hG.2.1
  have hw0 : zI μ 0 0 = nI w := hL.2.2.2.2.2.2.2.2.1
  have hh0 : zI μ 0 1 = nI h := hL.2.2.2.2.2.2.2.2.2.1
  have hy0 : zI μ 0 2 = ly := hL.2.2.2.2.2.2.2.2.2.2.1
  have hwb := hL.2.2.2.2.2.2.2.2.2.2.2
  refine zx_aload_n dX6_dry_0 rfl rfl ?_
  refine zx_iload_n dX6_dry_1 rfl rfl ?_
  refine zx_iload_n dX6_dry_2 rfl rfl ?_
  refine zx_callV1 _ zv_X6_128 (m_X6_waterAt hG hL hW) (by assumption) (by decide) rfl rfl rfl ⟨rfl, rfl, (Nat.le_of_ble_eq_true rfl), (Nat.le_of_ble_eq_true rfl)⟩ (Nat.le_of_ble_eq_true rfl) dX6_dry_3 ?_
  refine zx_astore_n dX6_dry_6 rfl (Nat.le_of_ble_eq_true rfl) ?_
  refine zx_aload_n dX6_dry_7 rfl rfl ?_
  refine zx_ifnull (tgt := 18) dX6_dry_8 (by decide) (fun c_8 => ?_) (fun r_8 c_8 => ?_)
  · skip
    rw [c_8]
    refine zx_iconst 1 dX6_dry_18 (by decide) ?_
    refine zx_goto (tgt := 23) dX6_dry_19 (by decide) ?_
    exact zx_zreturn rfl (by decide +kernel) (by first | rfl | simp [zKa, zKm, s_dry, c_8]) (by rfl) dX6_dry_23
  · skip
    have hO_8 : zO g 0 r_8 := (by obtain ⟨i, j, hi, hj, -, -, rfl⟩ := s_cellAt_in (by omega) (by omega) (s_waterAt_in c_8).1; exact hG.cell (zplace hi hj))
    rw [c_8]
    refine zx_aload_n dX6_dry_11 rfl rfl ?_
    refine zx_callV1 _ zv_X6_193 (m_X0_isDry (by assumption)) (by assumption) (by decide) rfl rfl rfl ⟨rfl, rfl, (Nat.le_of_ble_eq_true rfl), (Nat.le_of_ble_eq_true rfl)⟩ (Nat.le_of_ble_eq_true rfl) dX6_dry_12 ?_
    refine zx_if_eq (tgt := 22) dX6_dry_15 (by decide) (fun c_15 => ?_) (fun c_15 => ?_)
    · skip
      refine zx_iconst 0 dX6_dry_22 (by decide) ?_
      exact zx_zreturn rfl (by decide +kernel) (by first | rfl | simp [zKa, zKm, s_dry, c_8, c_15]) (by rfl) dX6_dry_23
    · skip
      refine zx_iconst 1 dX6_dry_18 (by decide) ?_
      refine zx_goto (tgt := 23) dX6_dry_19 (by decide) ?_
      exact zx_zreturn rfl (by decide +kernel) (by first | rfl | simp [zKa, zKm, s_dry, c_8, c_15]) (by rfl) dX6_dry_23

def s_mud (μ : ZMem) (w h : Nat) (x y : Int32) : UInt64 := match s_waterAt μ w h x y with
  | none => 0
  | some c => zD μ c 5
set_option maxHeartbeats 4000000 in
set_option maxRecDepth 100000 in
theorem m_X6_mud {g : ZG} {μ : ZMem} {w h : Nat} {ly : Int32} (hG : zGC g (w * h) (fcA w h)) (hL : zLC w h ly μ) (hW : zWf g μ) {x y : Int32} : zCab g RX6 yX6_mud cX6_mud 4 ((some FieldType.double)) (zrm 2) [zr (some 0), zi x, zi y] μ (some (zd (s_mud μ w h x y))) μ := by
  refine zCab_w (by decide +kernel) rfl (Nat.le_of_ble_eq_true rfl) ?_
  have hO0 : zO g 6 0 := hG.fix 0 (by decide)
  have hO1 : zO g 12 1 := hG.fix 1 (by decide)
  have hO2 : zO g 13 2 := hG.fix 2 (by decide)
  have hO3 : zO g 15 3 := hG.fix 3 (by decide)
  have hO4 : zO g 8 4 := hG.fix 4 (by decide)
  have hO5 : zO g 8 5 := hG.fix 5 (by decide)
  have hO6 : zO g 14 6 := hG.fix 6 (by decide)
  have hO7 : zO g 16 7 := hG.fix 7 (by decide)
  have hO8 : zO g 5 8 := hG.fix 8 (by decide)
  have hl1 : zln g 1 = w * h := hG.l _ (Or.inl (by decide)) rfl
  have hl2 : zln g 2 = fcA w h := hG.l _ (Or.inl (by decide)) rfl
  have hl3 : zln g 3 = 4 := hG.l _ (Or.inl (by decide)) rfl
  have hl4 : zln g 4 = 24 := hG.l _ (Or.inl (by decide)) rfl
  have hl5 : zln g 5 = 24 := hG.l _ (Or.inl (by decide)) rfl
  have hl6 : zln g 6 = 10 := hG.l _ (Or.inl (by decide)) rfl
  have hl7 : zln g 7 = 4 := hG.l _ (Or.inl (by decide)) rfl
  have hN := hG.1
  have hF := hG.2.1
  have hw0 : zI μ 0 0 = nI w := hL.2.2.2.2.2.2.2.2.1
  have hh0 : zI μ 0 1 = nI h := hL.2.2.2.2.2.2.2.2.2.1
  have hy0 : zI μ 0 2 = ly := hL.2.2.2.2.2.2.2.2.2.2.1
  have hwb := hL.2.2.2.2.2.2.2.2.2.2.2
  refine zx_aload_n dX6_mud_0 rfl rfl ?_
  refine zx_iload_n dX6_mud_1 rfl rfl ?_
  refine zx_iload_n dX6_mud_2 rfl rfl ?_
  refine zx_callV1 _ zv_X6_128 (m_X6_waterAt hG hL hW) (by assumption) (by decide) rfl rfl rfl ⟨rfl, rfl, (Nat.le_of_ble_eq_true rfl), (Nat.le_of_ble_eq_true rfl)⟩ (Nat.le_of_ble_eq_true rfl) dX6_mud_3 ?_
  refine zx_astore_n dX6_mud_6 rfl (Nat.le_of_ble_eq_true rfl) ?_
  refine zx_aload_n dX6_mud_7 rfl rfl ?_
  refine zx_ifnonnull (tgt := 15) dX6_mud_8 (by decide) (fun c_8 => ?_) (fun r_8 c_8 => ?_)
  · skip
    rw [c_8]
    refine zx_dconst0 dX6_mud_11 ?_
    refine zx_goto (tgt := 19) dX6_mud_12 (by decide) ?_
    exact zx_dreturn rfl (by first | rfl | simp [zKa, zKm, s_mud, c_8]) (by rfl) dX6_mud_19
  · skip
    have hO_8 : zO g 0 r_8 := (by obtain ⟨i, j, hi, hj, -, -, rfl⟩ := s_cellAt_in (by omega) (by omega) (s_waterAt_in c_8).1; exact hG.cell (zplace hi hj))
    rw [c_8]
    refine zx_aload_n dX6_mud_15 rfl rfl ?_
    refine zx_getD zf_X6_274 (by assumption) rfl dX6_mud_16 ?_
    exact zx_dreturn rfl (by first | rfl | simp [zKa, zKm, s_mud, c_8]) (by rfl) dX6_mud_19

def s_differs (μ : ZMem) (w h : Nat) (x y : Int32) : UInt64 := match s_waterAt μ w h x y with
  | none => 0
  | some c => if zI μ c 8 = 0 then 0 else zsub (zD μ c 9) (s_surface μ c)
set_option maxHeartbeats 4000000 in
set_option maxRecDepth 100000 in
theorem m_X6_differs {g : ZG} {μ : ZMem} {w h : Nat} {ly : Int32} (hG : zGC g (w * h) (fcA w h)) (hL : zLC w h ly μ) (hW : zWf g μ) {x y : Int32} : zCab g RX6 yX6_differs cX6_differs 4 ((some FieldType.double)) (zrm 2) [zr (some 0), zi x, zi y] μ (some (zd (s_differs μ w h x y))) μ := by
  refine zCab_w (by decide +kernel) rfl (Nat.le_of_ble_eq_true rfl) ?_
  have hO0 : zO g 6 0 := hG.fix 0 (by decide)
  have hO1 : zO g 12 1 := hG.fix 1 (by decide)
  have hO2 : zO g 13 2 := hG.fix 2 (by decide)
  have hO3 : zO g 15 3 := hG.fix 3 (by decide)
  have hO4 : zO g 8 4 := hG.fix 4 (by decide)
  have hO5 : zO g 8 5 := hG.fix 5 (by decide)
  have hO6 : zO g 14 6 := hG.fix 6 (by decide)
  have hO7 : zO g 16 7 := hG.fix 7 (by decide)
  have hO8 : zO g 5 8 := hG.fix 8 (by decide)
  have hl1 : zln g 1 = w * h := hG.l _ (Or.inl (by decide)) rfl
  have hl2 : zln g 2 = fcA w h := hG.l _ (Or.inl (by decide)) rfl
  have hl3 : zln g 3 = 4 := hG.l _ (Or.inl (by decide)) rfl
  have hl4 : zln g 4 = 24 := hG.l _ (Or.inl (by decide)) rfl
  have hl5 : zln g 5 = 24 := hG.l _ (Or.inl (by decide)) rfl
  have hl6 : zln g 6 = 10 := hG.l _ (Or.inl (by decide)) rfl
  have hl7 : zln g 7 = 4 := hG.l _ (Or.inl (by decide)) rfl
  have hN := hG.1
  have hF := hG.2.1
  have hw0 : zI μ 0 0 = nI w := hL.2.2.2.2.2.2.2.2.1
  have hh0 : zI μ 0 1 = nI h := hL.2.2.2.2.2.2.2.2.2.1
  have hy0 : zI μ 0 2 = ly := hL.2.2.2.2.2.2.2.2.2.2.1
  have hwb := hL.2.2.2.2.2.2.2.2.2.2.2
  refine zx_aload_n dX6_differs_0 rfl rfl ?_
  refine zx_iload_n dX6_differs_1 rfl rfl ?_
  refine zx_iload_n dX6_differs_2 rfl rfl ?_
  refine zx_callV1 _ zv_X6_128 (m_X6_waterAt hG hL hW) (by assumption) (by decide) rfl rfl rfl ⟨rfl, rfl, (Nat.le_of_ble_eq_true rfl), (Nat.le_of_ble_eq_true rfl)⟩ (Nat.le_of_ble_eq_true rfl) dX6_differs_3 ?_
  refine zx_astore_n dX6_differs_6 rfl (Nat.le_of_ble_eq_true rfl) ?_
  refine zx_aload_n dX6_differs_7 rfl rfl ?_
  refine zx_ifnull (tgt := 18) dX6_differs_8 (by decide) (fun c_8 => ?_) (fun r_8 c_8 => ?_)
  · skip
    rw [c_8]
    refine zx_dconst0 dX6_differs_18 ?_
    exact zx_dreturn rfl (by first | rfl | simp [zKa, zKm, s_differs, c_8]) (by rfl) dX6_differs_19
  · skip
    have hO_8 : zO g 0 r_8 := (by obtain ⟨i, j, hi, hj, -, -, rfl⟩ := s_cellAt_in (by omega) (by omega) (s_waterAt_in c_8).1; exact hG.cell (zplace hi hj))
    rw [c_8]
    refine zx_aload_n dX6_differs_11 rfl rfl ?_
    refine zx_getI zf_X6_220 (by assumption) (Or.inr rfl) dX6_differs_12 ?_
    refine zx_if_ne (tgt := 20) dX6_differs_15 (by decide) (fun c_15 => ?_) (fun c_15 => ?_)
    · skip
      refine zx_aload_n dX6_differs_20 rfl rfl ?_
      refine zx_getD zf_X6_224 (by assumption) rfl dX6_differs_21 ?_
      refine zx_aload_n dX6_differs_24 rfl rfl ?_
      refine zx_callV1 _ zv_X6_144 (m_X0_surface (by assumption)) (by assumption) (by decide) rfl rfl rfl ⟨rfl, rfl, (Nat.le_of_ble_eq_true rfl), (Nat.le_of_ble_eq_true rfl)⟩ (Nat.le_of_ble_eq_true rfl) dX6_differs_25 ?_
      refine zx_dsub dX6_differs_28 ?_
      exact zx_dreturn rfl (by first | rfl | simp [zKa, zKm, s_differs, c_8, c_15]) (by rfl) dX6_differs_29
    · skip
      refine zx_dconst0 dX6_differs_18 ?_
      exact zx_dreturn rfl (by first | rfl | simp [zKa, zKm, s_differs, c_8, c_15]) (by rfl) dX6_differs_19

abbrev k2715 : UInt64 := 4643483894702669824
abbrev k27315 : UInt64 := 4643512921809643110
def s_iceV (μ : ZMem) (c : Nat) : UInt64 := zmul (zsub k2715 (zadd k27315 (zD μ c 3))) k05
def s_clampI (v : UInt64) : UInt64 := if zlt v 0 = true then 0 else if zgt v k1 = true then k1 else v
def s_ice (μ : ZMem) (w h : Nat) (x y : Int32) : UInt64 := match s_waterAt μ w h x y with
  | none => 0
  | some c => s_clampI (s_iceV μ c)
set_option maxHeartbeats 4000000 in
set_option maxRecDepth 100000 in
theorem m_X6_ice {g : ZG} {μ : ZMem} {w h : Nat} {ly : Int32} (hG : zGC g (w * h) (fcA w h)) (hL : zLC w h ly μ) (hW : zWf g μ) {x y : Int32} : zCab g RX6 yX6_ice cX6_ice 6 ((some FieldType.double)) (zrm 2) [zr (some 0), zi x, zi y] μ (some (zd (s_ice μ w h x y))) μ := by
  refine zCab_w (by decide +kernel) rfl (Nat.le_of_ble_eq_true rfl) ?_
  have hO0 : zO g 6 0 := hG.fix 0 (by decide)
  have hO1 : zO g 12 1 := hG.fix 1 (by decide)
  have hO2 : zO g 13 2 := hG.fix 2 (by decide)
  have hO3 : zO g 15 3 := hG.fix 3 (by decide)
  have hO4 : zO g 8 4 := hG.fix 4 (by decide)
  have hO5 : zO g 8 5 := hG.fix 5 (by decide)
  have hO6 : zO g 14 6 := hG.fix 6 (by decide)
  have hO7 : zO g 16 7 := hG.fix 7 (by decide)
  have hO8 : zO g 5 8 := hG.fix 8 (by decide)
  have hl1 : zln g 1 = w * h := hG.l _ (Or.inl (by decide)) rfl
  have hl2 : zln g 2 = fcA w h := hG.l _ (Or.inl (by decide)) rfl
  have hl3 : zln g 3 = 4 := hG.l _ (Or.inl (by decide)) rfl
  have hl4 : zln g 4 = 24 := hG.l _ (Or.inl (by decide)) rfl
  have hl5 : zln g 5 = 24 := hG.l _ (Or.inl (by decide)) rfl
  have hl6 : zln g 6 = 10 := hG.l _ (Or.inl (by decide)) rfl
  have hl7 : zln g 7 = 4 := hG.l _ (Or.inl (by decide)) rfl
  have hN := hG.1
  have hF := hG.2.1
  have hw0 : zI μ 0 0 = nI w := hL.2.2.2.2.2.2.2.2.1
  have hh0 : zI μ 0 1 = nI h := hL.2.2.2.2.2.2.2.2.2.1
  have hy0 : zI μ 0 2 = ly := hL.2.2.2.2.2.2.2.2.2.2.1
  have hwb := hL.2.2.2.2.2.2.2.2.2.2.2
  refine zx_aload_n dX6_ice_0 rfl rfl ?_
  refine zx_iload_n dX6_ice_1 rfl rfl ?_
  refine zx_iload_n dX6_ice_2 rfl rfl ?_
  refine zx_callV1 _ zv_X6_128 (m_X6_waterAt hG hL hW) (by assumption) (by decide) rfl rfl rfl ⟨rfl, rfl, (Nat.le_of_ble_eq_true rfl), (Nat.le_of_ble_eq_true rfl)⟩ (Nat.le_of_ble_eq_true rfl) dX6_ice_3 ?_
  refine zx_astore_n dX6_ice_6 rfl (Nat.le_of_ble_eq_true rfl) ?_
  refine zx_aload_n dX6_ice_7 rfl rfl ?_
  refine zx_ifnonnull (tgt := 13) dX6_ice_8 (by decide) (fun c_8 => ?_) (fun r_8 c_8 => ?_)
  · skip
    rw [c_8]
    refine zx_dconst0 dX6_ice_11 ?_
    exact zx_dreturn rfl (by simp [zKa, s_ice, c_8]) (by rfl) dX6_ice_12
  · skip
    have hO_8 : zO g 0 r_8 := (by obtain ⟨i, j, hi, hj, -, -, rfl⟩ := s_cellAt_in (by omega) (by omega) (s_waterAt_in c_8).1; exact hG.cell (zplace hi hj))
    rw [c_8]
    refine zx_ldc2d 4643483894702669824 zk_X6_270 (by decide +kernel) dX6_ice_13 ?_
    refine zx_ldc2d 4643512921809643110 zk_X6_272 (by decide +kernel) dX6_ice_16 ?_
    refine zx_aload_n dX6_ice_19 rfl rfl ?_
    refine zx_getD zf_X6_183 (by assumption) rfl dX6_ice_20 ?_
    refine zx_dadd dX6_ice_23 ?_
    refine zx_dsub dX6_ice_24 ?_
    refine zx_ldc2d 4602678819172646912 zk_X6_186 (by decide +kernel) dX6_ice_25 ?_
    refine zx_dmul dX6_ice_28 ?_
    refine zx_dstore dX6_ice_29 (Nat.le_of_ble_eq_true rfl) ?_
    refine zx_dload dX6_ice_31 rfl ?_
    refine zx_dconst0 dX6_ice_33 ?_
    refine zx_dg_ge (tgt := 40) dX6_ice_34 dX6_ice_35 (by decide) (fun c_34 => ?_) (fun c_34 => ?_)
    · skip
      refine zx_dload dX6_ice_40 rfl ?_
      refine zx_dconst1 dX6_ice_42 ?_
      refine zx_dl_le (tgt := 51) dX6_ice_43 dX6_ice_44 (by decide) (fun c_43 => ?_) (fun c_43 => ?_)
      · skip
        refine zx_dload dX6_ice_51 rfl ?_
        exact zx_dreturn rfl (by first | rfl | (simp only [zKa, s_ice, s_clampI, s_iceV, c_8, c_34, c_43]; first | rfl | (simp [c_34, c_43]; done))) (by rfl) dX6_ice_53
      · skip
        refine zx_dconst1 dX6_ice_47 ?_
        refine zx_goto (tgt := 53) dX6_ice_48 (by decide) ?_
        exact zx_dreturn rfl (by first | rfl | (simp only [zKa, s_ice, s_clampI, s_iceV, c_8, c_34, c_43]; first | rfl | (simp [c_34, c_43]; done))) (by rfl) dX6_ice_53
    · skip
      refine zx_dconst0 dX6_ice_38 ?_
      exact zx_dreturn rfl (by first | rfl | (simp only [zKa, s_ice, s_clampI, s_iceV, c_8, c_34]; first | rfl | (simp [c_34]; done))) (by rfl) dX6_ice_39

def s_river (μ : ZMem) (w h : Nat) (x y : Int32) (v : UInt64) : Int32 := match s_waterAt μ w h x y with
  | none => 0
  | some c => if s_inside v 0 k1000 = 0 then 0 else 1
def u_river (μ : ZMem) (w h : Nat) (x y : Int32) (v : UInt64) : ZMem := match s_waterAt μ w h x y with
  | none => μ
  | some c => if s_inside v 0 k1000 = 0 then μ else zsD μ c 6 v
set_option maxHeartbeats 4000000 in
set_option maxRecDepth 100000 in
theorem m_X6_river {g : ZG} {μ : ZMem} {w h : Nat} {ly : Int32} (hG : zGC g (w * h) (fcA w h)) (hL : zLC w h ly μ) (hW : zWf g μ) {x y : Int32} {v : UInt64} : zCab g RX6 yX6_river cX6_river 6 ((some FieldType.boolean)) (zrm 2) [zr (some 0), zi x, zi y, zd v] μ (some (zi (s_river μ w h x y v))) (u_river μ w h x y v) := by
  refine zCab_w (by decide +kernel) rfl (Nat.le_of_ble_eq_true rfl) ?_
  have hO0 : zO g 6 0 := hG.fix 0 (by decide)
  have hO1 : zO g 12 1 := hG.fix 1 (by decide)
  have hO2 : zO g 13 2 := hG.fix 2 (by decide)
  have hO3 : zO g 15 3 := hG.fix 3 (by decide)
  have hO4 : zO g 8 4 := hG.fix 4 (by decide)
  have hO5 : zO g 8 5 := hG.fix 5 (by decide)
  have hO6 : zO g 14 6 := hG.fix 6 (by decide)
  have hO7 : zO g 16 7 := hG.fix 7 (by decide)
  have hO8 : zO g 5 8 := hG.fix 8 (by decide)
  have hl1 : zln g 1 = w * h := hG.l _ (Or.inl (by decide)) rfl
  have hl2 : zln g 2 = fcA w h := hG.l _ (Or.inl (by decide)) rfl
  have hl3 : zln g 3 = 4 := hG.l _ (Or.inl (by decide)) rfl
  have hl4 : zln g 4 = 24 := hG.l _ (Or.inl (by decide)) rfl
  have hl5 : zln g 5 = 24 := hG.l _ (Or.inl (by decide)) rfl
  have hl6 : zln g 6 = 10 := hG.l _ (Or.inl (by decide)) rfl
  have hl7 : zln g 7 = 4 := hG.l _ (Or.inl (by decide)) rfl
  have hN := hG.1
  have hF := hG.2.1
  have hw0 : zI μ 0 0 = nI w := hL.2.2.2.2.2.2.2.2.1
  have hh0 : zI μ 0 1 = nI h := hL.2.2.2.2.2.2.2.2.2.1
  have hy0 : zI μ 0 2 = ly := hL.2.2.2.2.2.2.2.2.2.2.1
  have hwb := hL.2.2.2.2.2.2.2.2.2.2.2
  refine zx_aload_n dX6_river_0 rfl rfl ?_
  refine zx_iload_n dX6_river_1 rfl rfl ?_
  refine zx_iload_n dX6_river_2 rfl rfl ?_
  refine zx_callV1 _ zv_X6_128 (m_X6_waterAt hG hL hW) (by assumption) (by decide) rfl rfl rfl ⟨rfl, rfl, (Nat.le_of_ble_eq_true rfl), (Nat.le_of_ble_eq_true rfl)⟩ (Nat.le_of_ble_eq_true rfl) dX6_river_3 ?_
  refine zx_astore dX6_river_6 (Nat.le_of_ble_eq_true rfl) ?_
  refine zx_aload dX6_river_8 rfl ?_
  refine zx_ifnull (tgt := 24) dX6_river_10 (by decide) (fun c_10 => ?_) (fun r_10 c_10 => ?_)
  · skip
    rw [c_10]
    refine zx_iconst 0 dX6_river_24 (by decide) ?_
    exact zx_zreturn rfl (by decide +kernel) (by first | rfl | simp [zKa, zKm, s_river, c_10]) (by first | rfl | simp [zKa, zKm, u_river, c_10]) dX6_river_25
  · skip
    have hO_10 : zO g 0 r_10 := (by obtain ⟨i, j, hi, hj, -, -, rfl⟩ := s_cellAt_in (by omega) (by omega) (s_waterAt_in c_10).1; exact hG.cell (zplace hi hj))
    rw [c_10]
    refine zx_dload_n dX6_river_13 rfl rfl ?_
    refine zx_dconst0 dX6_river_14 ?_
    refine zx_ldc2d 4652007308841189376 zk_X6_84 (by decide +kernel) dX6_river_15 ?_
    refine zx_callS1 _ zs_X6_86 m_X6_inside rfl rfl ⟨rfl, rfl, (Nat.le_of_ble_eq_true rfl), (Nat.le_of_ble_eq_true rfl)⟩ (Nat.le_of_ble_eq_true rfl) dX6_river_18 ?_
    refine zx_if_ne (tgt := 26) dX6_river_21 (by decide) (fun c_21 => ?_) (fun c_21 => ?_)
    · skip
      refine zx_aload dX6_river_26 rfl ?_
      refine zx_dload_n dX6_river_28 rfl rfl ?_
      refine zx_putD zf_X6_131 (by assumption) rfl dX6_river_29 ?_
      refine zx_iconst 1 dX6_river_32 (by decide) ?_
      exact zx_zreturn rfl (by decide +kernel) (by first | rfl | simp [zKa, zKm, s_river, c_10, c_21]) (by first | rfl | simp [zKa, zKm, u_river, c_10, c_21]) dX6_river_33
    · skip
      refine zx_iconst 0 dX6_river_24 (by decide) ?_
      exact zx_zreturn rfl (by decide +kernel) (by first | rfl | simp [zKa, zKm, s_river, c_10, c_21]) (by first | rfl | simp [zKa, zKm, u_river, c_10, c_21]) dX6_river_25

abbrev km100 : UInt64 := 13860109328209412096
abbrev k100 : UInt64 := 4636737291354636288
abbrev k600 : UInt64 := 4648488871632306176
abbrev k20 : UInt64 := 4626322717216342016
def s_wind (x : Int32) (u v : UInt64) : Int32 := if x < 0 then 0 else if x < 24 then (if s_inside u km100 k100 = 0 then 0 else if s_inside v km100 k100 = 0 then 0 else 1) else 0
def u_wind (μ : ZMem) (x : Int32) (u v : UInt64) : ZMem := if s_wind x u v = 0 then μ else zsD (zsD μ 4 x.toNatClampNeg u) 5 x.toNatClampNeg v
set_option maxHeartbeats 4000000 in
set_option maxRecDepth 100000 in
theorem m_X6_wind {g : ZG} {μ : ZMem} {w h : Nat} {ly : Int32} (hG : zGC g (w * h) (fcA w h)) (hL : zLC w h ly μ) (hW : zWf g μ) {x : Int32} {u v : UInt64} : zCab g RX6 yX6_wind cX6_wind 6 ((some FieldType.boolean)) (zrm 2) [zr (some 0), zi x, zd u, zd v] μ (some (zi (s_wind x u v))) (u_wind μ x u v) := by
  refine zCab_w (by decide +kernel) rfl (Nat.le_of_ble_eq_true rfl) ?_
  have hO0 : zO g 6 0 := hG.fix 0 (by decide)
  have hO1 : zO g 12 1 := hG.fix 1 (by decide)
  have hO2 : zO g 13 2 := hG.fix 2 (by decide)
  have hO3 : zO g 15 3 := hG.fix 3 (by decide)
  have hO4 : zO g 8 4 := hG.fix 4 (by decide)
  have hO5 : zO g 8 5 := hG.fix 5 (by decide)
  have hO6 : zO g 14 6 := hG.fix 6 (by decide)
  have hO7 : zO g 16 7 := hG.fix 7 (by decide)
  have hO8 : zO g 5 8 := hG.fix 8 (by decide)
  have hl1 : zln g 1 = w * h := hG.l _ (Or.inl (by decide)) rfl
  have hl2 : zln g 2 = fcA w h := hG.l _ (Or.inl (by decide)) rfl
  have hl3 : zln g 3 = 4 := hG.l _ (Or.inl (by decide)) rfl
  have hl4 : zln g 4 = 24 := hG.l _ (Or.inl (by decide)) rfl
  have hl5 : zln g 5 = 24 := hG.l _ (Or.inl (by decide)) rfl
  have hl6 : zln g 6 = 10 := hG.l _ (Or.inl (by decide)) rfl
  have hl7 : zln g 7 = 4 := hG.l _ (Or.inl (by decide)) rfl
  have hN := hG.1
  have hF := hG.2.1
  have hw0 : zI μ 0 0 = nI w := hL.2.2.2.2.2.2.2.2.1
  have hh0 : zI μ 0 1 = nI h := hL.2.2.2.2.2.2.2.2.2.1
  have hy0 : zI μ 0 2 = ly := hL.2.2.2.2.2.2.2.2.2.2.1
  have hwb := hL.2.2.2.2.2.2.2.2.2.2.2
  refine zx_iload_n dX6_wind_0 rfl rfl ?_
  refine zx_if_lt (tgt := 10) dX6_wind_1 (by decide) (fun c_1 => ?_) (fun c_1 => ?_)
  · skip
    refine zx_iconst 0 dX6_wind_10 (by decide) ?_
    exact zx_zreturn rfl (by decide +kernel) (by first | rfl | simp [zKa, zKm, s_wind, c_1]) (by simp [zKm, u_wind, s_wind, c_1]) dX6_wind_11
  · skip
    refine zx_iload_n dX6_wind_4 rfl rfl ?_
    refine zx_bipush 24 dX6_wind_5 (by decide) ?_
    refine zx_icmp_lt (tgt := 12) dX6_wind_7 (by decide) (fun c_7 => ?_) (fun c_7 => ?_)
    · skip
      refine zx_dload_n dX6_wind_12 rfl rfl ?_
      refine zx_ldc2d 13860109328209412096 zk_X6_124 (by decide +kernel) dX6_wind_13 ?_
      refine zx_ldc2d 4636737291354636288 zk_X6_126 (by decide +kernel) dX6_wind_16 ?_
      refine zx_callS1 _ zs_X6_86 m_X6_inside rfl rfl ⟨rfl, rfl, (Nat.le_of_ble_eq_true rfl), (Nat.le_of_ble_eq_true rfl)⟩ (Nat.le_of_ble_eq_true rfl) dX6_wind_19 ?_
      refine zx_if_eq (tgt := 39) dX6_wind_22 (by decide) (fun c_22 => ?_) (fun c_22 => ?_)
      · skip
        refine zx_iconst 0 dX6_wind_39 (by decide) ?_
        exact zx_zreturn rfl (by decide +kernel) (by first | rfl | simp [zKa, zKm, s_wind, c_1, c_7, c_22]) (by simp [zKm, u_wind, s_wind, c_1, c_7, c_22]) dX6_wind_40
      · skip
        refine zx_dload dX6_wind_25 rfl ?_
        refine zx_ldc2d 13860109328209412096 zk_X6_124 (by decide +kernel) dX6_wind_27 ?_
        refine zx_ldc2d 4636737291354636288 zk_X6_126 (by decide +kernel) dX6_wind_30 ?_
        refine zx_callS1 _ zs_X6_86 m_X6_inside rfl rfl ⟨rfl, rfl, (Nat.le_of_ble_eq_true rfl), (Nat.le_of_ble_eq_true rfl)⟩ (Nat.le_of_ble_eq_true rfl) dX6_wind_33 ?_
        refine zx_if_ne (tgt := 41) dX6_wind_36 (by decide) (fun c_36 => ?_) (fun c_36 => ?_)
        · skip
          obtain ⟨i, hi, rfl⟩ := zix c_1 (Int32.not_le.mpr (show x < nI 24 from c_7)) (by decide)
          refine zx_aload_n dX6_wind_41 rfl rfl ?_
          refine zx_getR zf_X6_47 (by assumption) (show _ = some 4 from hL.R0 (k := 6) (by decide)) rfl dX6_wind_42 ?_
          refine zx_iload_n dX6_wind_45 rfl rfl ?_
          refine zx_dload_n dX6_wind_46 rfl rfl ?_
          refine zx_dast i (by assumption) rfl ⟨by rw [hl4]; exact hi, by rw [hl4]; decide⟩ dX6_wind_47 ?_
          refine zx_aload_n dX6_wind_48 rfl rfl ?_
          refine zx_getR zf_X6_51 (by assumption) (show _ = some 5 from hL.R0 (k := 7) (by decide)) rfl dX6_wind_49 ?_
          refine zx_iload_n dX6_wind_52 rfl rfl ?_
          refine zx_dload dX6_wind_53 rfl ?_
          refine zx_dast i (by assumption) rfl ⟨by rw [hl5]; exact hi, by rw [hl5]; decide⟩ dX6_wind_55 ?_
          refine zx_iconst 1 dX6_wind_56 (by decide) ?_
          exact zx_zreturn rfl (by decide +kernel) (by first | rfl | simp [zKa, zKm, s_wind, c_1, c_7, c_22, c_36]) (by show u_wind μ (nI i) u v = _; unfold u_wind; rw [if_neg (show ¬ s_wind (nI i) u v = 0 by simp [s_wind, c_1, c_7, c_22, c_36]), nI_clamp (by omega)]) dX6_wind_57
        · skip
          refine zx_iconst 0 dX6_wind_39 (by decide) ?_
          exact zx_zreturn rfl (by decide +kernel) (by first | rfl | simp [zKa, zKm, s_wind, c_1, c_7, c_22, c_36]) (by simp [zKm, u_wind, s_wind, c_1, c_7, c_22, c_36]) dX6_wind_40
    · skip
      refine zx_iconst 0 dX6_wind_10 (by decide) ?_
      exact zx_zreturn rfl (by decide +kernel) (by first | rfl | simp [zKa, zKm, s_wind, c_1, c_7]) (by simp [zKm, u_wind, s_wind, c_1, c_7]) dX6_wind_11

def s_border (x y : Int32) (a b : UInt64) : Int32 := match s_sideAt x with
  | none => 0
  | some s => if y < 0 then 0 else if y < 8 then (if s_inside a 0 k20 = 0 then 0 else if s_inside b 0 k1 = 0 then 0 else 1) else 0
def u_border (μ : ZMem) (x y : Int32) (a b : UInt64) : ZMem := match s_sideAt x with
  | none => μ
  | some s => if s_border x y a b = 0 then μ else u_tell μ s (s + 10) (s + 20) y.toNatClampNeg a b
set_option maxHeartbeats 4000000 in
set_option maxRecDepth 100000 in
theorem m_X6_border {g : ZG} {μ : ZMem} {w h : Nat} {ly : Int32} (hG : zGC g (w * h) (fcA w h)) (hL : zLC w h ly μ) (hW : zWf g μ) {x y : Int32} {a b : UInt64} : zCab g RX6 yX6_border cX6_border 8 ((some FieldType.boolean)) (zrm 2) [zr (some 0), zi x, zi y, zd a, zd b] μ (some (zi (s_border x y a b))) (u_border μ x y a b) := by
  refine zCab_w (by decide +kernel) rfl (Nat.le_of_ble_eq_true rfl) ?_
  have hO0 : zO g 6 0 := hG.fix 0 (by decide)
  have hO1 : zO g 12 1 := hG.fix 1 (by decide)
  have hO2 : zO g 13 2 := hG.fix 2 (by decide)
  have hO3 : zO g 15 3 := hG.fix 3 (by decide)
  have hO4 : zO g 8 4 := hG.fix 4 (by decide)
  have hO5 : zO g 8 5 := hG.fix 5 (by decide)
  have hO6 : zO g 14 6 := hG.fix 6 (by decide)
  have hO7 : zO g 16 7 := hG.fix 7 (by decide)
  have hO8 : zO g 5 8 := hG.fix 8 (by decide)
  have hl1 : zln g 1 = w * h := hG.l _ (Or.inl (by decide)) rfl
  have hl2 : zln g 2 = fcA w h := hG.l _ (Or.inl (by decide)) rfl
  have hl3 : zln g 3 = 4 := hG.l _ (Or.inl (by decide)) rfl
  have hl4 : zln g 4 = 24 := hG.l _ (Or.inl (by decide)) rfl
  have hl5 : zln g 5 = 24 := hG.l _ (Or.inl (by decide)) rfl
  have hl6 : zln g 6 = 10 := hG.l _ (Or.inl (by decide)) rfl
  have hl7 : zln g 7 = 4 := hG.l _ (Or.inl (by decide)) rfl
  have hN := hG.1
  have hF := hG.2.1
  have hw0 : zI μ 0 0 = nI w := hL.2.2.2.2.2.2.2.2.1
  have hh0 : zI μ 0 1 = nI h := hL.2.2.2.2.2.2.2.2.2.1
  have hy0 : zI μ 0 2 = ly := hL.2.2.2.2.2.2.2.2.2.2.1
  have hwb := hL.2.2.2.2.2.2.2.2.2.2.2
  refine zx_aload_n dX6_border_0 rfl rfl ?_
  refine zx_iload_n dX6_border_1 rfl rfl ?_
  refine zx_callV1 _ zv_X6_112 (m_X6_sideAt hG hL hW) (by assumption) (by decide) rfl rfl rfl ⟨rfl, rfl, (Nat.le_of_ble_eq_true rfl), (Nat.le_of_ble_eq_true rfl)⟩ (Nat.le_of_ble_eq_true rfl) dX6_border_2 ?_
  refine zx_astore dX6_border_5 (Nat.le_of_ble_eq_true rfl) ?_
  refine zx_aload dX6_border_7 rfl ?_
  refine zx_ifnull (tgt := 22) dX6_border_9 (by decide) (fun c_9 => ?_) (fun r_9 c_9 => ?_)
  · skip
    rw [c_9]
    refine zx_iconst 0 dX6_border_22 (by decide) ?_
    exact zx_zreturn rfl (by decide +kernel) (by first | rfl | simp [zKa, zKm, s_border, c_9]) (by simp [zKm, u_border, s_border, c_9]) dX6_border_23
  · skip
    have hO_9 : zO g 3 r_9 := s_sideAt_o hG c_9
    rw [c_9]
    refine zx_iload_n dX6_border_12 rfl rfl ?_
    refine zx_if_lt (tgt := 22) dX6_border_13 (by decide) (fun c_13 => ?_) (fun c_13 => ?_)
    · skip
      refine zx_iconst 0 dX6_border_22 (by decide) ?_
      exact zx_zreturn rfl (by decide +kernel) (by first | rfl | simp [zKa, zKm, s_border, c_9, c_13]) (by simp [zKm, u_border, s_border, c_9, c_13]) dX6_border_23
    · skip
      refine zx_iload_n dX6_border_16 rfl rfl ?_
      refine zx_bipush 8 dX6_border_17 (by decide) ?_
      refine zx_icmp_lt (tgt := 24) dX6_border_19 (by decide) (fun c_19 => ?_) (fun c_19 => ?_)
      · skip
        refine zx_dload_n dX6_border_24 rfl rfl ?_
        refine zx_dconst0 dX6_border_25 ?_
        refine zx_ldc2d 4626322717216342016 zk_X6_116 (by decide +kernel) dX6_border_26 ?_
        refine zx_callS1 _ zs_X6_86 m_X6_inside rfl rfl ⟨rfl, rfl, (Nat.le_of_ble_eq_true rfl), (Nat.le_of_ble_eq_true rfl)⟩ (Nat.le_of_ble_eq_true rfl) dX6_border_29 ?_
        refine zx_if_eq (tgt := 45) dX6_border_32 (by decide) (fun c_32 => ?_) (fun c_32 => ?_)
        · skip
          refine zx_iconst 0 dX6_border_45 (by decide) ?_
          exact zx_zreturn rfl (by decide +kernel) (by first | rfl | simp [zKa, zKm, s_border, c_9, c_13, c_19, c_32]) (by simp [zKm, u_border, s_border, c_9, c_13, c_19, c_32]) dX6_border_46
        · skip
          refine zx_dload dX6_border_35 rfl ?_
          refine zx_dconst0 dX6_border_37 ?_
          refine zx_dconst1 dX6_border_38 ?_
          refine zx_callS1 _ zs_X6_86 m_X6_inside rfl rfl ⟨rfl, rfl, (Nat.le_of_ble_eq_true rfl), (Nat.le_of_ble_eq_true rfl)⟩ (Nat.le_of_ble_eq_true rfl) dX6_border_39 ?_
          refine zx_if_ne (tgt := 47) dX6_border_42 (by decide) (fun c_42 => ?_) (fun c_42 => ?_)
          · skip
            obtain ⟨k, hk, rfl⟩ := zix c_13 (Int32.not_le.mpr (show y < nI 8 from c_19)) (by decide)
            obtain ⟨i, hi, -, rfl⟩ := s_sideAt_in c_9
            refine zx_aload dX6_border_47 rfl ?_
            refine zx_iload_n dX6_border_49 rfl rfl ?_
            refine zx_dload_n dX6_border_50 rfl rfl ?_
            refine zx_dload dX6_border_51 rfl ?_
            refine zx_callV0 _ zv_X6_118 (m_X3_tell (sz := 30 + i + 10) (ph := 30 + i + 20) (w := k) (hG.side hi) hW ((hL.2.2.2.1 i hi).2.1.trans (by rw [show 40 + i = 30 + i + 10 by omega])) ((hL.2.2.2.1 i hi).2.2.trans (by rw [show 50 + i = 30 + i + 20 by omega])) (by rw [show 30 + i + 10 = 40 + i by omega]; exact (hG.size hi).2) (by rw [show 30 + i + 20 = 50 + i by omega]; exact (hG.phase hi).2) hk) (by assumption) (by decide) rfl rfl rfl ⟨rfl, rfl, (Nat.le_of_ble_eq_true rfl), (Nat.le_of_ble_eq_true rfl)⟩ (Nat.le_of_ble_eq_true rfl) dX6_border_53 ?_
            refine zx_iconst 1 dX6_border_56 (by decide) ?_
            exact zx_zreturn rfl (by decide +kernel) (by first | rfl | simp [zKa, zKm, s_border, c_9, c_13, c_19, c_32, c_42]) (by show u_border μ x (nI k) a b = _; unfold u_border; rw [c_9]; show (if s_border x (nI k) a b = 0 then μ else _) = _; rw [if_neg (show ¬ s_border x (nI k) a b = 0 by simp [s_border, c_9, c_13, c_19, c_32, c_42]), nI_clamp (by omega)]) dX6_border_57
          · skip
            refine zx_iconst 0 dX6_border_45 (by decide) ?_
            exact zx_zreturn rfl (by decide +kernel) (by first | rfl | simp [zKa, zKm, s_border, c_9, c_13, c_19, c_32, c_42]) (by simp [zKm, u_border, s_border, c_9, c_13, c_19, c_32, c_42]) dX6_border_46
      · skip
        refine zx_iconst 0 dX6_border_22 (by decide) ?_
        exact zx_zreturn rfl (by decide +kernel) (by first | rfl | simp [zKa, zKm, s_border, c_9, c_13, c_19]) (by simp [zKm, u_border, s_border, c_9, c_13, c_19]) dX6_border_23

