/-! the model lies in a world of its own: role 0 is the object, role 1 + k what its field k holds -/
def kdM (r : Nat) : Nat := ([7, 99, 99, 99, 11, 8, 8, 10, 8, 8, 8, 8, 10, 99, 99, 99, 10, 8, 8, 10, 99, 99, 99, 11, 8, 8, 8, 8, 99, 9, 11, 11, 99, 9, 8, 8, 8, 8, 8, 99, 99, 99, 9, 10, 8, 8, 8, 8, 10, 10, 8] : List Nat).getD r 99
def lnM (r : Nat) : Nat := ([0, 0, 0, 0, 144, 144, 144, 144, 144, 144, 144, 336, 4, 0, 0, 0, 144, 144, 144, 336, 0, 0, 0, 32, 32, 32, 24, 24, 0, 10, 144, 10, 0, 40, 40, 40, 25, 5, 5, 0, 0, 0, 4, 576, 576, 576, 576, 1344, 16, 4, 4] : List Nat).getD r 0
def zGM (g : ZG) : Prop := ∀ r, (kdM r == 99) = false → r ∈ zrs g ∧ zkd g r = kdM r ∧ zln g r = lnM r
theorem zGM.o {g : ZG} (h : zGM g) (r : Nat) (hl : (kdM r == 99) = false) : zO g (kdM r) r := ⟨(h r hl).1, (h r hl).2.1⟩
theorem zGM.l {g : ZG} (h : zGM g) (r : Nat) (hl : (kdM r == 99) = false) : zln g r = lnM r := (h r hl).2.2
def zLM (w h : Nat) (ly : Int32) (μ : ZMem) : Prop := (∀ k, (kdM (k + 1) == 99) = false → zR μ 0 k = some (k + 1)) ∧ zI μ 0 0 = nI w ∧ zI μ 0 1 = nI h ∧ zI μ 0 2 = ly ∧ 1 ≤ w ∧ w ≤ 12 ∧ 1 ≤ h ∧ h ≤ 12
/-- the same object: references and the int fields -/
def zKp (μ' μ : ZMem) : Prop := zR μ' = zR μ ∧ zI μ' 0 = zI μ 0
theorem zKp.rfl' (μ : ZMem) : zKp μ μ := ⟨rfl, rfl⟩
theorem zKp.trans {a b c : ZMem} (h1 : zKp a b) (h2 : zKp b c) : zKp a c := ⟨h1.1.trans h2.1, h1.2.trans h2.2⟩
theorem zLM_kp {w h : Nat} {ly : Int32} {μ μ' : ZMem} (e : zKp μ' μ) (H : zLM w h ly μ) : zLM w h ly μ' := by
  unfold zLM at H ⊢
  rw [e.1, e.2]
  exact H
theorem zKp_it {f : Nat → ZMem → ZMem} (h : ∀ k s, zKp (f k s) s) : ∀ n s, zKp (zit f n s) s
  | 0, s => zKp.rfl' s
  | n + 1, s => (h n _).trans (zKp_it h n s)
theorem zat (i j : Nat) : (12 : Int32) * nI j + nI i = nI (12 * j + i) := by
  rw [show (12 : Int32) = nI 12 from rfl, pk_mul, nI_add]
theorem zat8 (s k : Nat) : (8 : Int32) * nI s + nI k = nI (8 * s + k) := by
  rw [show (8 : Int32) = nI 8 from rfl, pk_mul, nI_add]
theorem z288 (s q : Nat) : (288 : Int32) + 12 * nI s + nI q = nI (288 + 12 * s + q) := by
  rw [show (12 : Int32) = nI 12 from rfl, show (288 : Int32) = nI 288 from rfl, pk_mul, nI_add, nI_add]
theorem nI_ne1 {n : Nat} (h : n < 2 ^ 31) : ¬ nI n = -1 := fun q => nI_pos h (by rw [q]; decide)
set_option maxHeartbeats 4000000 in
set_option maxRecDepth 100000 in
theorem m_X7_isIn {g : ZG} {μ : ZMem} {v a c : UInt64} : zCab g RX7 yX7_isIn cX7_isIn 6 ((some FieldType.boolean)) (zrm 0) [zd v, zd a, zd c] μ (some (zi (s_inside v a c))) μ := by
  refine zCab_w (by decide +kernel) rfl (Nat.le_of_ble_eq_true rfl) ?_
  refine zx_dload_n dX7_isIn_0 rfl rfl ?_
  refine zx_dload_n dX7_isIn_1 rfl rfl ?_
  refine zx_dl_lt (tgt := 17) dX7_isIn_2 dX7_isIn_3 (by decide) (fun c_2 => ?_) (fun c_2 => ?_)
  · skip
    refine zx_iconst 0 dX7_isIn_17 (by decide) ?_
    exact zx_zreturn rfl (by decide +kernel) (by first | rfl | simp [zKa, zKm, s_inside, zI_sI, zI_sL, zI_sD, zI_sR, zL_sI, zL_sL, zL_sD, zL_sR, zD_sI, zD_sL, zD_sD, zD_sR, zR_sI, zR_sL, zR_sD, zR_sR, c_2]) (by rfl) dX7_isIn_18
  · skip
    refine zx_dload_n dX7_isIn_6 rfl rfl ?_
    refine zx_dload dX7_isIn_7 rfl ?_
    refine zx_dg_gt (tgt := 17) dX7_isIn_9 dX7_isIn_10 (by decide) (fun c_9 => ?_) (fun c_9 => ?_)
    · skip
      refine zx_iconst 0 dX7_isIn_17 (by decide) ?_
      exact zx_zreturn rfl (by decide +kernel) (by first | rfl | simp [zKa, zKm, s_inside, zI_sI, zI_sL, zI_sD, zI_sR, zL_sI, zL_sL, zL_sD, zL_sR, zD_sI, zD_sL, zD_sD, zD_sR, zR_sI, zR_sL, zR_sD, zR_sR, c_2, c_9]) (by rfl) dX7_isIn_18
    · skip
      refine zx_iconst 1 dX7_isIn_13 (by decide) ?_
      refine zx_goto (tgt := 18) dX7_isIn_14 (by decide) ?_
      exact zx_zreturn rfl (by decide +kernel) (by first | rfl | simp [zKa, zKm, s_inside, zI_sI, zI_sL, zI_sD, zI_sR, zL_sI, zL_sL, zL_sD, zL_sR, zD_sI, zD_sL, zD_sD, zD_sR, zR_sI, zR_sL, zR_sD, zR_sR, c_2, c_9]) (by rfl) dX7_isIn_18

def t_isCell (w h : Nat) (x y : Int32) : Int32 := if x < 0 then 0 else if nI w ≤ x then 0 else if y < 0 then 0 else if nI h ≤ y then 0 else 1
set_option maxHeartbeats 4000000 in
set_option maxRecDepth 100000 in
theorem m_X7_isCell {g : ZG} {μ : ZMem} {w h : Nat} {ly : Int32} (hG : zGM g) (hL : zLM w h ly μ) {x y : Int32} : zCab g RX7 yX7_isCell cX7_isCell 3 ((some FieldType.boolean)) (zrm 0) [zr (some 0), zi x, zi y] μ (some (zi (t_isCell w h x y))) μ := by
  refine zCab_w (by decide +kernel) rfl (Nat.le_of_ble_eq_true rfl) ?_
  have hO0 : zO g 7 0 := hG.o 0 (by decide)
  have hw0 : zI μ 0 0 = nI w := hL.2.1
  have hh0 : zI μ 0 1 = nI h := hL.2.2.1
  have hy0 : zI μ 0 2 = ly := hL.2.2.2.1
  obtain ⟨hb1, hb2, hb3, hb4⟩ := hL.2.2.2.2
  refine zx_iload_n dX7_isCell_0 rfl rfl ?_
  refine zx_if_lt (tgt := 28) dX7_isCell_1 (by decide) (fun c_1 => ?_) (fun c_1 => ?_)
  · skip
    refine zx_iconst 0 dX7_isCell_28 (by decide) ?_
    exact zx_zreturn rfl (by decide +kernel) (by first | rfl | simp [zKa, zKm, t_isCell, c_1]) (by rfl) dX7_isCell_29
  · skip
    refine zx_iload_n dX7_isCell_4 rfl rfl ?_
    refine zx_aload_n dX7_isCell_5 rfl rfl ?_
    refine zx_getI zf_X7_121 (by assumption) (Or.inl rfl) dX7_isCell_6 ?_
    rw [hw0]
    refine zx_icmp_ge (tgt := 28) dX7_isCell_9 (by decide) (fun c_9 => ?_) (fun c_9 => ?_)
    · skip
      refine zx_iconst 0 dX7_isCell_28 (by decide) ?_
      exact zx_zreturn rfl (by decide +kernel) (by first | rfl | simp [zKa, zKm, t_isCell, c_1, c_9]) (by rfl) dX7_isCell_29
    · skip
      refine zx_iload_n dX7_isCell_12 rfl rfl ?_
      refine zx_if_lt (tgt := 28) dX7_isCell_13 (by decide) (fun c_13 => ?_) (fun c_13 => ?_)
      · skip
        refine zx_iconst 0 dX7_isCell_28 (by decide) ?_
        exact zx_zreturn rfl (by decide +kernel) (by first | rfl | simp [zKa, zKm, t_isCell, c_1, c_9, c_13]) (by rfl) dX7_isCell_29
      · skip
        refine zx_iload_n dX7_isCell_16 rfl rfl ?_
        refine zx_aload_n dX7_isCell_17 rfl rfl ?_
        refine zx_getI zf_X7_125 (by assumption) (Or.inl rfl) dX7_isCell_18 ?_
        rw [hh0]
        refine zx_icmp_ge (tgt := 28) dX7_isCell_21 (by decide) (fun c_21 => ?_) (fun c_21 => ?_)
        · skip
          refine zx_iconst 0 dX7_isCell_28 (by decide) ?_
          exact zx_zreturn rfl (by decide +kernel) (by first | rfl | simp [zKa, zKm, t_isCell, c_1, c_9, c_13, c_21]) (by rfl) dX7_isCell_29
        · skip
          refine zx_iconst 1 dX7_isCell_24 (by decide) ?_
          refine zx_goto (tgt := 29) dX7_isCell_25 (by decide) ?_
          exact zx_zreturn rfl (by decide +kernel) (by first | rfl | simp [zKa, zKm, t_isCell, c_1, c_9, c_13, c_21]) (by rfl) dX7_isCell_29

theorem t_isCell_in {w h : Nat} {x y : Int32} (hw : w ≤ 12) (hh : h ≤ 12) (e : ¬ t_isCell w h x y = 0) : ∃ i j, i < w ∧ j < h ∧ x = nI i ∧ y = nI j := by
  unfold t_isCell at e
  split at e
  · exact absurd rfl e
  · split at e
    · exact absurd rfl e
    · split at e
      · exact absurd rfl e
      · split at e
        · exact absurd rfl e
        · rename_i a1 a2 a3 a4
          obtain ⟨i, hi, rfl⟩ := zix a1 a2 (by omega)
          obtain ⟨j, hj, rfl⟩ := zix a3 a4 (by omega)
          exact ⟨i, j, hi, hj, rfl, rfl⟩
theorem t_isCell_nI {w h i j : Nat} (hw : w ≤ 12) (hh : h ≤ 12) (hi : i < w) (hj : j < h) : t_isCell w h (nI i) (nI j) = 1 := by
  unfold t_isCell
  rw [if_neg (nI_pos (by omega)), if_neg (nI_ge hi (by omega)), if_neg (nI_pos (by omega)), if_neg (nI_ge hj (by omega))]
set_option maxHeartbeats 4000000 in
set_option maxRecDepth 100000 in
theorem m_X7_at {g : ZG} {μ : ZMem} {x y : Int32} : zCab g RX7 yX7_at cX7_at 2 ((some FieldType.int)) (zrm 0) [zi x, zi y] μ (some (zi (12 * y + x))) μ := by
  refine zCab_w (by decide +kernel) rfl (Nat.le_of_ble_eq_true rfl) ?_
  refine zx_bipush 12 dX7_at_0 (by decide) ?_
  refine zx_iload_n dX7_at_2 rfl rfl ?_
  refine zx_imul dX7_at_3 ?_
  refine zx_iload_n dX7_at_4 rfl rfl ?_
  refine zx_iadd dX7_at_5 ?_
  exact zx_ireturn rfl (by rfl) (by rfl) dX7_at_6

def t_isWater (μ : ZMem) (w h : Nat) (x y : Int32) : Int32 := if t_isCell w h x y = 0 then 0 else if zI μ 4 (12 * y.toNatClampNeg + x.toNatClampNeg) = 0 then 0 else 1
set_option maxHeartbeats 4000000 in
set_option maxRecDepth 100000 in
theorem m_X7_isWater {g : ZG} {μ : ZMem} {w h : Nat} {ly : Int32} (hG : zGM g) (hL : zLM w h ly μ) {x y : Int32} : zCab g RX7 yX7_isWater cX7_isWater 3 ((some FieldType.boolean)) (zrm 1) [zr (some 0), zi x, zi y] μ (some (zi (t_isWater μ w h x y))) μ := by
  refine zCab_w (by decide +kernel) rfl (Nat.le_of_ble_eq_true rfl) ?_
  have hO0 : zO g 7 0 := hG.o 0 (by decide)
  have hO4 : zO g 11 4 := hG.o 4 (by decide)
  have hl4 : zln g 4 = 144 := hG.l 4 (by decide)
  have hw0 : zI μ 0 0 = nI w := hL.2.1
  have hh0 : zI μ 0 1 = nI h := hL.2.2.1
  have hy0 : zI μ 0 2 = ly := hL.2.2.2.1
  obtain ⟨hb1, hb2, hb3, hb4⟩ := hL.2.2.2.2
  refine zx_aload_n dX7_isWater_0 rfl rfl ?_
  refine zx_iload_n dX7_isWater_1 rfl rfl ?_
  refine zx_iload_n dX7_isWater_2 rfl rfl ?_
  refine zx_callV1 _ zv_X7_131 (m_X7_isCell hG hL) (by assumption) (by decide) rfl rfl rfl ⟨rfl, rfl, (Nat.le_of_ble_eq_true rfl), (Nat.le_of_ble_eq_true rfl)⟩ (Nat.le_of_ble_eq_true rfl) dX7_isWater_3 ?_
  refine zx_if_eq (tgt := 26) dX7_isWater_6 (by decide) (fun c_6 => ?_) (fun c_6 => ?_)
  · skip
    refine zx_iconst 0 dX7_isWater_26 (by decide) ?_
    exact zx_zreturn rfl (by decide +kernel) (by simp [zKa, t_isWater, c_6]) (by rfl) dX7_isWater_27
  · skip
    obtain ⟨i, j, hi, hj, rfl, rfl⟩ := t_isCell_in hb2 hb4 c_6
    refine zx_aload_n dX7_isWater_9 rfl rfl ?_
    refine zx_getR zf_X7_7 (by assumption) (show _ = some 4 from hL.1 3 (by decide)) rfl dX7_isWater_10 ?_
    refine zx_iload_n dX7_isWater_13 rfl rfl ?_
    refine zx_iload_n dX7_isWater_14 rfl rfl ?_
    refine zx_callS1 _ zs_X7_135 m_X7_at rfl rfl ⟨rfl, rfl, (Nat.le_of_ble_eq_true rfl), (Nat.le_of_ble_eq_true rfl)⟩ (Nat.le_of_ble_eq_true rfl) dX7_isWater_15 ?_
    refine zx_zald (12 * j + i) (by assumption) (zat i j) ⟨by rw [hl4]; omega, by rw [hl4]; decide⟩ dX7_isWater_18 ?_
    refine zx_if_eq (tgt := 26) dX7_isWater_19 (by decide) (fun c_19 => ?_) (fun c_19 => ?_)
    · skip
      refine zx_iconst 0 dX7_isWater_26 (by decide) ?_
      exact zx_zreturn rfl (by decide +kernel) (by simp [zKa, t_isWater, c_6, c_19, nI_clamp (show i < 2 ^ 31 by omega), nI_clamp (show j < 2 ^ 31 by omega)]) (by rfl) dX7_isWater_27
    · skip
      refine zx_iconst 1 dX7_isWater_22 (by decide) ?_
      refine zx_goto (tgt := 27) dX7_isWater_23 (by decide) ?_
      exact zx_zreturn rfl (by decide +kernel) (by simp [zKa, t_isWater, c_6, c_19, nI_clamp (show i < 2 ^ 31 by omega), nI_clamp (show j < 2 ^ 31 by omega)]) (by rfl) dX7_isWater_27

theorem t_isWater_in {μ : ZMem} {w h : Nat} {x y : Int32} (hw : w ≤ 12) (hh : h ≤ 12) (e : ¬ t_isWater μ w h x y = 0) : ∃ i j, i < w ∧ j < h ∧ x = nI i ∧ y = nI j := by
  refine t_isCell_in hw hh (fun q => e ?_)
  unfold t_isWater
  rw [if_pos q]
theorem t_isWater_nI {μ : ZMem} {w h i j : Nat} (hw : w ≤ 12) (hh : h ≤ 12) (hi : i < w) (hj : j < h) : t_isWater μ w h (nI i) (nI j) = if zI μ 4 (12 * j + i) = 0 then 0 else 1 := by
  unfold t_isWater
  rw [t_isCell_nI hw hh hi hj, if_neg (by decide), nI_clamp (by omega), nI_clamp (by omega)]
def t_hasFace (μ : ZMem) (w h : Nat) (x y a : Int32) : Int32 := if t_isWater μ w h x y = 0 then 0 else if a = 0 then (if t_isWater μ w h (x + 1) y = 0 then 0 else 1) else (if t_isWater μ w h x (y + 1) = 0 then 0 else 1)
set_option maxHeartbeats 4000000 in
set_option maxRecDepth 100000 in
theorem m_X7_hasFace {g : ZG} {μ : ZMem} {w h : Nat} {ly : Int32} (hG : zGM g) (hL : zLM w h ly μ) {x y a : Int32} : zCab g RX7 yX7_hasFace cX7_hasFace 4 ((some FieldType.boolean)) (zrm 2) [zr (some 0), zi x, zi y, zi a] μ (some (zi (t_hasFace μ w h x y a))) μ := by
  refine zCab_w (by decide +kernel) rfl (Nat.le_of_ble_eq_true rfl) ?_
  have hO0 : zO g 7 0 := hG.o 0 (by decide)
  have hw0 : zI μ 0 0 = nI w := hL.2.1
  have hh0 : zI μ 0 1 = nI h := hL.2.2.1
  have hy0 : zI μ 0 2 = ly := hL.2.2.2.1
  obtain ⟨hb1, hb2, hb3, hb4⟩ := hL.2.2.2.2
  refine zx_aload_n dX7_hasFace_0 rfl rfl ?_
  refine zx_iload_n dX7_hasFace_1 rfl rfl ?_
  refine zx_iload_n dX7_hasFace_2 rfl rfl ?_
  refine zx_callV1 _ zv_X7_139 (m_X7_isWater hG hL) (by assumption) (by decide) rfl rfl rfl ⟨rfl, rfl, (Nat.le_of_ble_eq_true rfl), (Nat.le_of_ble_eq_true rfl)⟩ (Nat.le_of_ble_eq_true rfl) dX7_hasFace_3 ?_
  refine zx_if_eq (tgt := 42) dX7_hasFace_6 (by decide) (fun c_6 => ?_) (fun c_6 => ?_)
  · skip
    refine zx_iconst 0 dX7_hasFace_42 (by decide) ?_
    exact zx_zreturn rfl (by decide +kernel) (by first | rfl | simp [zKa, zKm, t_hasFace, c_6]) (by rfl) dX7_hasFace_43
  · skip
    refine zx_iload_n dX7_hasFace_9 rfl rfl ?_
    refine zx_if_ne (tgt := 27) dX7_hasFace_10 (by decide) (fun c_10 => ?_) (fun c_10 => ?_)
    · skip
      refine zx_aload_n dX7_hasFace_27 rfl rfl ?_
      refine zx_iload_n dX7_hasFace_28 rfl rfl ?_
      refine zx_iload_n dX7_hasFace_29 rfl rfl ?_
      refine zx_iconst 1 dX7_hasFace_30 (by decide) ?_
      refine zx_iadd dX7_hasFace_31 ?_
      refine zx_callV1 _ zv_X7_139 (m_X7_isWater hG hL) (by assumption) (by decide) rfl rfl rfl ⟨rfl, rfl, (Nat.le_of_ble_eq_true rfl), (Nat.le_of_ble_eq_true rfl)⟩ (Nat.le_of_ble_eq_true rfl) dX7_hasFace_32 ?_
      refine zx_if_eq (tgt := 42) dX7_hasFace_35 (by decide) (fun c_35 => ?_) (fun c_35 => ?_)
      · skip
        refine zx_iconst 0 dX7_hasFace_42 (by decide) ?_
        exact zx_zreturn rfl (by decide +kernel) (by first | rfl | simp [zKa, zKm, t_hasFace, c_6, c_10, c_35]) (by rfl) dX7_hasFace_43
      · skip
        refine zx_iconst 1 dX7_hasFace_38 (by decide) ?_
        refine zx_goto (tgt := 43) dX7_hasFace_39 (by decide) ?_
        exact zx_zreturn rfl (by decide +kernel) (by first | rfl | simp [zKa, zKm, t_hasFace, c_6, c_10, c_35]) (by rfl) dX7_hasFace_43
    · skip
      refine zx_aload_n dX7_hasFace_13 rfl rfl ?_
      refine zx_iload_n dX7_hasFace_14 rfl rfl ?_
      refine zx_iconst 1 dX7_hasFace_15 (by decide) ?_
      refine zx_iadd dX7_hasFace_16 ?_
      refine zx_iload_n dX7_hasFace_17 rfl rfl ?_
      refine zx_callV1 _ zv_X7_139 (m_X7_isWater hG hL) (by assumption) (by decide) rfl rfl rfl ⟨rfl, rfl, (Nat.le_of_ble_eq_true rfl), (Nat.le_of_ble_eq_true rfl)⟩ (Nat.le_of_ble_eq_true rfl) dX7_hasFace_18 ?_
      refine zx_if_eq (tgt := 42) dX7_hasFace_21 (by decide) (fun c_21 => ?_) (fun c_21 => ?_)
      · skip
        refine zx_iconst 0 dX7_hasFace_42 (by decide) ?_
        exact zx_zreturn rfl (by decide +kernel) (by first | rfl | simp [zKa, zKm, t_hasFace, c_6, c_10, c_21]) (by rfl) dX7_hasFace_43
      · skip
        refine zx_goto (tgt := 38) dX7_hasFace_24 (by decide) ?_
        refine zx_iconst 1 dX7_hasFace_38 (by decide) ?_
        refine zx_goto (tgt := 43) dX7_hasFace_39 (by decide) ?_
        exact zx_zreturn rfl (by decide +kernel) (by first | rfl | simp [zKa, zKm, t_hasFace, c_6, c_10, c_21]) (by rfl) dX7_hasFace_43

def t_isAtSide (w h : Nat) (x y s : Int32) : Int32 := if s = 0 then (if x = 0 then 1 else 0) else if s = 1 then (if x = nI w - 1 then 1 else 0) else if s = 2 then (if y = 0 then 1 else 0) else if y = nI h - 1 then 1 else 0
set_option maxHeartbeats 4000000 in
set_option maxRecDepth 100000 in
theorem m_X7_isAtSide {g : ZG} {μ : ZMem} {w h : Nat} {ly : Int32} (hG : zGM g) (hL : zLM w h ly μ) {x y s : Int32} : zCab g RX7 yX7_isAtSide cX7_isAtSide 4 ((some FieldType.boolean)) (zrm 0) [zr (some 0), zi x, zi y, zi s] μ (some (zi (t_isAtSide w h x y s))) μ := by
  refine zCab_w (by decide +kernel) rfl (Nat.le_of_ble_eq_true rfl) ?_
  have hO0 : zO g 7 0 := hG.o 0 (by decide)
  have hw0 : zI μ 0 0 = nI w := hL.2.1
  have hh0 : zI μ 0 1 = nI h := hL.2.2.1
  have hy0 : zI μ 0 2 = ly := hL.2.2.2.1
  obtain ⟨hb1, hb2, hb3, hb4⟩ := hL.2.2.2.2
  refine zx_iload_n dX7_isAtSide_0 rfl rfl ?_
  refine zx_if_ne (tgt := 16) dX7_isAtSide_1 (by decide) (fun c_1 => ?_) (fun c_1 => ?_)
  · skip
    refine zx_iload_n dX7_isAtSide_16 rfl rfl ?_
    refine zx_iconst 1 dX7_isAtSide_17 (by decide) ?_
    refine zx_icmp_ne (tgt := 39) dX7_isAtSide_18 (by decide) (fun c_18 => ?_) (fun c_18 => ?_)
    · skip
      refine zx_iload_n dX7_isAtSide_39 rfl rfl ?_
      refine zx_iconst 2 dX7_isAtSide_40 (by decide) ?_
      refine zx_icmp_ne (tgt := 56) dX7_isAtSide_41 (by decide) (fun c_41 => ?_) (fun c_41 => ?_)
      · skip
        refine zx_iload_n dX7_isAtSide_56 rfl rfl ?_
        refine zx_aload_n dX7_isAtSide_57 rfl rfl ?_
        refine zx_getI zf_X7_125 (by assumption) (Or.inl rfl) dX7_isAtSide_58 ?_
        rw [hh0]
        refine zx_iconst 1 dX7_isAtSide_61 (by decide) ?_
        refine zx_isub dX7_isAtSide_62 ?_
        refine zx_icmp_ne (tgt := 70) dX7_isAtSide_63 (by decide) (fun c_63 => ?_) (fun c_63 => ?_)
        · skip
          refine zx_iconst 0 dX7_isAtSide_70 (by decide) ?_
          exact zx_zreturn rfl (by decide +kernel) (by first | rfl | simp [zKa, zKm, t_isAtSide, c_1, c_18, c_41, c_63]) (by rfl) dX7_isAtSide_71
        · skip
          refine zx_iconst 1 dX7_isAtSide_66 (by decide) ?_
          refine zx_goto (tgt := 71) dX7_isAtSide_67 (by decide) ?_
          exact zx_zreturn rfl (by decide +kernel) (by first | rfl | simp [zKa, zKm, t_isAtSide, c_1, c_18, c_41, c_63]) (by rfl) dX7_isAtSide_71
      · skip
        refine zx_iload_n dX7_isAtSide_44 rfl rfl ?_
        refine zx_if_ne (tgt := 52) dX7_isAtSide_45 (by decide) (fun c_45 => ?_) (fun c_45 => ?_)
        · skip
          refine zx_iconst 0 dX7_isAtSide_52 (by decide) ?_
          refine zx_goto (tgt := 71) dX7_isAtSide_53 (by decide) ?_
          exact zx_zreturn rfl (by decide +kernel) (by first | rfl | simp [zKa, zKm, t_isAtSide, c_1, c_18, c_41, c_45]) (by rfl) dX7_isAtSide_71
        · skip
          refine zx_iconst 1 dX7_isAtSide_48 (by decide) ?_
          refine zx_goto (tgt := 71) dX7_isAtSide_49 (by decide) ?_
          exact zx_zreturn rfl (by decide +kernel) (by first | rfl | simp [zKa, zKm, t_isAtSide, c_1, c_18, c_41, c_45]) (by rfl) dX7_isAtSide_71
    · skip
      refine zx_iload_n dX7_isAtSide_21 rfl rfl ?_
      refine zx_aload_n dX7_isAtSide_22 rfl rfl ?_
      refine zx_getI zf_X7_121 (by assumption) (Or.inl rfl) dX7_isAtSide_23 ?_
      rw [hw0]
      refine zx_iconst 1 dX7_isAtSide_26 (by decide) ?_
      refine zx_isub dX7_isAtSide_27 ?_
      refine zx_icmp_ne (tgt := 35) dX7_isAtSide_28 (by decide) (fun c_28 => ?_) (fun c_28 => ?_)
      · skip
        refine zx_iconst 0 dX7_isAtSide_35 (by decide) ?_
        refine zx_goto (tgt := 71) dX7_isAtSide_36 (by decide) ?_
        exact zx_zreturn rfl (by decide +kernel) (by first | rfl | simp [zKa, zKm, t_isAtSide, c_1, c_18, c_28]) (by rfl) dX7_isAtSide_71
      · skip
        refine zx_iconst 1 dX7_isAtSide_31 (by decide) ?_
        refine zx_goto (tgt := 71) dX7_isAtSide_32 (by decide) ?_
        exact zx_zreturn rfl (by decide +kernel) (by first | rfl | simp [zKa, zKm, t_isAtSide, c_1, c_18, c_28]) (by rfl) dX7_isAtSide_71
  · skip
    refine zx_iload_n dX7_isAtSide_4 rfl rfl ?_
    refine zx_if_ne (tgt := 12) dX7_isAtSide_5 (by decide) (fun c_5 => ?_) (fun c_5 => ?_)
    · skip
      refine zx_iconst 0 dX7_isAtSide_12 (by decide) ?_
      refine zx_goto (tgt := 71) dX7_isAtSide_13 (by decide) ?_
      exact zx_zreturn rfl (by decide +kernel) (by first | rfl | simp [zKa, zKm, t_isAtSide, c_1, c_5]) (by rfl) dX7_isAtSide_71
    · skip
      refine zx_iconst 1 dX7_isAtSide_8 (by decide) ?_
      refine zx_goto (tgt := 71) dX7_isAtSide_9 (by decide) ?_
      exact zx_zreturn rfl (by decide +kernel) (by first | rfl | simp [zKa, zKm, t_isAtSide, c_1, c_5]) (by rfl) dX7_isAtSide_71

def t_sideFace (x y s : Int32) : Int32 := 288 + 12 * s + (if s < 2 then y else x)
set_option maxHeartbeats 4000000 in
set_option maxRecDepth 100000 in
theorem m_X7_sideFace {g : ZG} {μ : ZMem} {x y s : Int32} : zCab g RX7 yX7_sideFace cX7_sideFace 3 ((some FieldType.int)) (zrm 0) [zi x, zi y, zi s] μ (some (zi (t_sideFace x y s))) μ := by
  refine zCab_w (by decide +kernel) rfl (Nat.le_of_ble_eq_true rfl) ?_
  refine zx_sipush 288 dX7_sideFace_0 (by decide) ?_
  refine zx_bipush 12 dX7_sideFace_3 (by decide) ?_
  refine zx_iload_n dX7_sideFace_5 rfl rfl ?_
  refine zx_imul dX7_sideFace_6 ?_
  refine zx_iadd dX7_sideFace_7 ?_
  refine zx_iload_n dX7_sideFace_8 rfl rfl ?_
  refine zx_iconst 2 dX7_sideFace_9 (by decide) ?_
  refine zx_icmp_ge (tgt := 17) dX7_sideFace_10 (by decide) (fun c_10 => ?_) (fun c_10 => ?_)
  · skip
    refine zx_iload_n dX7_sideFace_17 rfl rfl ?_
    refine zx_iadd dX7_sideFace_18 ?_
    exact zx_ireturn rfl (by first | (show some (zi _) = _; unfold t_sideFace; rw [if_pos (Int32.not_le.mp c_10)]) | (show some (zi _) = _; unfold t_sideFace; rw [if_neg (Int32.not_lt.mpr c_10)])) (by rfl) dX7_sideFace_19
  · skip
    refine zx_iload_n dX7_sideFace_13 rfl rfl ?_
    refine zx_goto (tgt := 18) dX7_sideFace_14 (by decide) ?_
    refine zx_iadd dX7_sideFace_18 ?_
    exact zx_ireturn rfl (by first | (show some (zi _) = _; unfold t_sideFace; rw [if_pos (Int32.not_le.mp c_10)]) | (show some (zi _) = _; unfold t_sideFace; rw [if_neg (Int32.not_lt.mpr c_10)])) (by rfl) dX7_sideFace_19

def t_opn (μ : ZMem) (s n : Nat) : Int32 := zit (fun k x => if x = 0 then (if zI μ 23 (8 * s + k) = 0 then 0 else 1) else 1) n 0
def t_isOpen (μ : ZMem) (s : Nat) : Int32 := t_opn μ s 8
theorem t_opn_s (μ : ZMem) (s k : Nat) : t_opn μ s (k + 1) = if t_opn μ s k = 0 then (if zI μ 23 (8 * s + k) = 0 then 0 else 1) else 1 := rfl
theorem t_opn_b (μ : ZMem) (s : Nat) : ∀ k, t_opn μ s k = 0 ∨ t_opn μ s k = 1
  | 0 => Or.inl rfl
  | k + 1 => by
    rw [t_opn_s]
    split
    · split
      · exact Or.inl rfl
      · exact Or.inr rfl
    · exact Or.inr rfl
theorem znz1 {x : Int32} (h : x = 0 ∨ x = 1) : narrow .boolean (.int x) = .int x := by rcases h with rfl | rfl <;> decide +kernel
set_option maxHeartbeats 4000000 in
set_option maxRecDepth 100000 in
theorem L_X7_isOpen {g : ZG} {μ : ZMem} {w h : Nat} {ly : Int32} (hG : zGM g) (hL : zLM w h ly μ) {s : Nat} (hs : s < 4) {res : Option ZV} {μ' : ZMem} (hx : zWA g (RX7, cX7_isOpen, 4, ((some FieldType.boolean)), zrm 0, res, μ') 40 (zls [(0, zr (some 0)), (1, zi (nI s)), (2, zi (t_opn μ s (8))), (3, zi (nI (8)))]) [] μ) : zWA g (RX7, cX7_isOpen, 4, ((some FieldType.boolean)), zrm 0, res, μ') 4 (zls [(0, zr (some 0)), (1, zi (nI s)), (2, zi (t_opn μ s (0))), (3, zi (nI (0)))]) [] μ := by
  have hO0 : zO g 7 0 := hG.o 0 (by decide)
  have hO23 : zO g 11 23 := hG.o 23 (by decide)
  have hl23 : zln g 23 = 32 := hG.l 23 (by decide)
  have hw0 : zI μ 0 0 = nI w := hL.2.1
  have hh0 : zI μ 0 1 = nI h := hL.2.2.1
  have hy0 : zI μ 0 2 = ly := hL.2.2.2.1
  obtain ⟨hb1, hb2, hb3, hb4⟩ := hL.2.2.2.2
  refine zloop (P := fun k => zWA g (RX7, cX7_isOpen, 4, ((some FieldType.boolean)), zrm 0, res, μ') 4 (zls [(0, zr (some 0)), (1, zi (nI s)), (2, zi (t_opn μ s (k))), (3, zi (nI (k)))]) [] μ) (N := 8) ?_ ?_ 0 (Nat.zero_le _)
  · show zWA _ _ _ _ _ _
    refine zx_iload_n dX7_isOpen_4 rfl rfl ?_
    refine zx_bipush 8 dX7_isOpen_5 (by decide) ?_
    refine zx_icmp_ge (tgt := 40) dX7_isOpen_7 (by decide) (fun _ => ?_) (fun h_ => absurd h_ (fun q => q (by decide)))
    exact zWA_to hx ⟨rfl, rfl, rfl, rfl, trivial⟩
  · intro k hk hn_
    show zWA _ _ _ _ _ _
    refine zx_iload_n dX7_isOpen_4 rfl rfl ?_
    refine zx_bipush 8 dX7_isOpen_5 (by decide) ?_
    refine zx_icmp_ge (tgt := 40) dX7_isOpen_7 (by decide) (fun h_ => absurd h_ (nI_ge hk (by decide))) (fun _ => ?_)
    refine zx_iload_n dX7_isOpen_10 rfl rfl ?_
    refine zx_if_ne (tgt := 28) dX7_isOpen_11 (by decide) (fun c_11 => ?_) (fun c_11 => ?_)
    · skip
      refine zx_iconst 1 dX7_isOpen_28 (by decide) ?_
      refine zx_goto (tgt := 33) dX7_isOpen_29 (by decide) ?_
      refine zx_istore_n dX7_isOpen_33 rfl (Nat.le_of_ble_eq_true rfl) ?_
      have e_ : t_opn μ s (k + 1) = 1 := by rw [t_opn_s, if_neg c_11]
      refine zx_iinc (nI (k + 1)) dX7_isOpen_34 rfl (by exact nI_1 k) (Nat.le_of_ble_eq_true rfl) ?_
      refine zx_goto (tgt := 4) dX7_isOpen_37 (by decide) ?_
      exact zWA_to (zWA_mem hn_ (by rfl)) ⟨rfl, rfl, congrArg (fun q => some (zi q)) e_.symm, rfl, trivial⟩
    · skip
      refine zx_aload_n dX7_isOpen_14 rfl rfl ?_
      refine zx_getR zf_X7_51 (by assumption) (show _ = some 23 from hL.1 22 (by decide)) rfl dX7_isOpen_15 ?_
      refine zx_bipush 8 dX7_isOpen_18 (by decide) ?_
      refine zx_iload_n dX7_isOpen_20 rfl rfl ?_
      refine zx_imul dX7_isOpen_21 ?_
      refine zx_iload_n dX7_isOpen_22 rfl rfl ?_
      refine zx_iadd dX7_isOpen_23 ?_
      refine zx_zald (8 * s + k) (by assumption) (zat8 s k) ⟨by rw [hl23]; omega, by rw [hl23]; decide⟩ dX7_isOpen_24 ?_
      refine zx_if_eq (tgt := 32) dX7_isOpen_25 (by decide) (fun c_25 => ?_) (fun c_25 => ?_)
      · skip
        refine zx_iconst 0 dX7_isOpen_32 (by decide) ?_
        refine zx_istore_n dX7_isOpen_33 rfl (Nat.le_of_ble_eq_true rfl) ?_
        have e_ : t_opn μ s (k + 1) = 0 := by rw [t_opn_s, if_pos (c_11), if_pos c_25]
        refine zx_iinc (nI (k + 1)) dX7_isOpen_34 rfl (by exact nI_1 k) (Nat.le_of_ble_eq_true rfl) ?_
        refine zx_goto (tgt := 4) dX7_isOpen_37 (by decide) ?_
        exact zWA_to (zWA_mem hn_ (by rfl)) ⟨rfl, rfl, congrArg (fun q => some (zi q)) e_.symm, rfl, trivial⟩
      · skip
        refine zx_iconst 1 dX7_isOpen_28 (by decide) ?_
        refine zx_goto (tgt := 33) dX7_isOpen_29 (by decide) ?_
        refine zx_istore_n dX7_isOpen_33 rfl (Nat.le_of_ble_eq_true rfl) ?_
        have e_ : t_opn μ s (k + 1) = 1 := by rw [t_opn_s, if_pos (c_11), if_neg c_25]
        refine zx_iinc (nI (k + 1)) dX7_isOpen_34 rfl (by exact nI_1 k) (Nat.le_of_ble_eq_true rfl) ?_
        refine zx_goto (tgt := 4) dX7_isOpen_37 (by decide) ?_
        exact zWA_to (zWA_mem hn_ (by rfl)) ⟨rfl, rfl, congrArg (fun q => some (zi q)) e_.symm, rfl, trivial⟩

set_option maxHeartbeats 4000000 in
set_option maxRecDepth 100000 in
theorem m_X7_isOpen {g : ZG} {μ : ZMem} {w h : Nat} {ly : Int32} (hG : zGM g) (hL : zLM w h ly μ) {s : Nat} (hs : s < 4) : zCab g RX7 yX7_isOpen cX7_isOpen 4 ((some FieldType.boolean)) (zrm 0) [zr (some 0), zi (nI s)] μ (some (zi (t_isOpen μ s))) μ := by
  refine zCab_w (by decide +kernel) rfl (Nat.le_of_ble_eq_true rfl) ?_
  have hO0 : zO g 7 0 := hG.o 0 (by decide)
  have hO23 : zO g 11 23 := hG.o 23 (by decide)
  have hl23 : zln g 23 = 32 := hG.l 23 (by decide)
  have hw0 : zI μ 0 0 = nI w := hL.2.1
  have hh0 : zI μ 0 1 = nI h := hL.2.2.1
  have hy0 : zI μ 0 2 = ly := hL.2.2.2.1
  obtain ⟨hb1, hb2, hb3, hb4⟩ := hL.2.2.2.2
  refine zx_iconst 0 dX7_isOpen_0 (by decide) ?_
  refine zx_istore_n dX7_isOpen_1 rfl (Nat.le_of_ble_eq_true rfl) ?_
  refine zx_iconst 0 dX7_isOpen_2 (by decide) ?_
  refine zx_istore_n dX7_isOpen_3 rfl (Nat.le_of_ble_eq_true rfl) ?_
  refine zWA_to (L_X7_isOpen hG hL hs ?_) ⟨rfl, rfl, rfl, rfl, trivial⟩
  refine zx_iload_n dX7_isOpen_40 rfl rfl ?_
  exact zx_zreturn rfl (znz1 (t_opn_b μ s 8)) rfl rfl dX7_isOpen_41

def t_hasSide (μ : ZMem) (w h : Nat) (x y : Int32) (s : Nat) : Int32 := if t_isWater μ w h x y = 0 then 0 else if t_isAtSide w h x y (nI s) = 0 then 0 else if t_isOpen μ s = 0 then 0 else 1
set_option maxHeartbeats 4000000 in
set_option maxRecDepth 100000 in
theorem m_X7_hasSideFace {g : ZG} {μ : ZMem} {w h : Nat} {ly : Int32} (hG : zGM g) (hL : zLM w h ly μ) {x y : Int32} {s : Nat} (hs : s < 4) : zCab g RX7 yX7_hasSideFace cX7_hasSideFace 4 ((some FieldType.boolean)) (zrm 2) [zr (some 0), zi x, zi y, zi (nI s)] μ (some (zi (t_hasSide μ w h x y s))) μ := by
  refine zCab_w (by decide +kernel) rfl (Nat.le_of_ble_eq_true rfl) ?_
  have hO0 : zO g 7 0 := hG.o 0 (by decide)
  have hw0 : zI μ 0 0 = nI w := hL.2.1
  have hh0 : zI μ 0 1 = nI h := hL.2.2.1
  have hy0 : zI μ 0 2 = ly := hL.2.2.2.1
  obtain ⟨hb1, hb2, hb3, hb4⟩ := hL.2.2.2.2
  refine zx_aload_n dX7_hasSideFace_0 rfl rfl ?_
  refine zx_iload_n dX7_hasSideFace_1 rfl rfl ?_
  refine zx_iload_n dX7_hasSideFace_2 rfl rfl ?_
  refine zx_callV1 _ zv_X7_139 (m_X7_isWater hG hL) (by assumption) (by decide) rfl rfl rfl ⟨rfl, rfl, (Nat.le_of_ble_eq_true rfl), (Nat.le_of_ble_eq_true rfl)⟩ (Nat.le_of_ble_eq_true rfl) dX7_hasSideFace_3 ?_
  refine zx_if_eq (tgt := 31) dX7_hasSideFace_6 (by decide) (fun c_6 => ?_) (fun c_6 => ?_)
  · skip
    refine zx_iconst 0 dX7_hasSideFace_31 (by decide) ?_
    exact zx_zreturn rfl (by decide +kernel) (by first | rfl | simp [zKa, zKm, t_hasSide, c_6]) (by rfl) dX7_hasSideFace_32
  · skip
    refine zx_aload_n dX7_hasSideFace_9 rfl rfl ?_
    refine zx_iload_n dX7_hasSideFace_10 rfl rfl ?_
    refine zx_iload_n dX7_hasSideFace_11 rfl rfl ?_
    refine zx_iload_n dX7_hasSideFace_12 rfl rfl ?_
    refine zx_callV1 _ zv_X7_142 (m_X7_isAtSide hG hL) (by assumption) (by decide) rfl rfl rfl ⟨rfl, rfl, (Nat.le_of_ble_eq_true rfl), (Nat.le_of_ble_eq_true rfl)⟩ (Nat.le_of_ble_eq_true rfl) dX7_hasSideFace_13 ?_
    refine zx_if_eq (tgt := 31) dX7_hasSideFace_16 (by decide) (fun c_16 => ?_) (fun c_16 => ?_)
    · skip
      refine zx_iconst 0 dX7_hasSideFace_31 (by decide) ?_
      exact zx_zreturn rfl (by decide +kernel) (by first | rfl | simp [zKa, zKm, t_hasSide, c_6, c_16]) (by rfl) dX7_hasSideFace_32
    · skip
      refine zx_aload_n dX7_hasSideFace_19 rfl rfl ?_
      refine zx_iload_n dX7_hasSideFace_20 rfl rfl ?_
      refine zx_callV1 _ zv_X7_146 (m_X7_isOpen hG hL hs) (by assumption) (by decide) rfl rfl rfl ⟨rfl, rfl, (Nat.le_of_ble_eq_true rfl), (Nat.le_of_ble_eq_true rfl)⟩ (Nat.le_of_ble_eq_true rfl) dX7_hasSideFace_21 ?_
      refine zx_if_eq (tgt := 31) dX7_hasSideFace_24 (by decide) (fun c_24 => ?_) (fun c_24 => ?_)
      · skip
        refine zx_iconst 0 dX7_hasSideFace_31 (by decide) ?_
        exact zx_zreturn rfl (by decide +kernel) (by first | rfl | simp [zKa, zKm, t_hasSide, c_6, c_16, c_24]) (by rfl) dX7_hasSideFace_32
      · skip
        refine zx_iconst 1 dX7_hasSideFace_27 (by decide) ?_
        refine zx_goto (tgt := 32) dX7_hasSideFace_28 (by decide) ?_
        exact zx_zreturn rfl (by decide +kernel) (by first | rfl | simp [zKa, zKm, t_hasSide, c_6, c_16, c_24]) (by rfl) dX7_hasSideFace_32

def t_size (v : UInt64) : UInt64 := if zlt v 0 = true then zsub 0 v else v
set_option maxHeartbeats 4000000 in
set_option maxRecDepth 100000 in
theorem m_X7_size {g : ZG} {μ : ZMem} {v : UInt64} : zCab g RX7 yX7_size cX7_size 2 ((some FieldType.double)) (zrm 0) [zd v] μ (some (zd (t_size v))) μ := by
  refine zCab_w (by decide +kernel) rfl (Nat.le_of_ble_eq_true rfl) ?_
  refine zx_dload_n dX7_size_0 rfl rfl ?_
  refine zx_dconst0 dX7_size_1 ?_
  refine zx_dg_ge (tgt := 12) dX7_size_2 dX7_size_3 (by decide) (fun c_2 => ?_) (fun c_2 => ?_)
  · skip
    refine zx_dload_n dX7_size_12 rfl rfl ?_
    exact zx_dreturn rfl (by first | rfl | simp [zKa, zKm, t_size, c_2]) (by rfl) dX7_size_13
  · skip
    refine zx_dconst0 dX7_size_6 ?_
    refine zx_dload_n dX7_size_7 rfl rfl ?_
    refine zx_dsub dX7_size_8 ?_
    refine zx_goto (tgt := 13) dX7_size_9 (by decide) ?_
    exact zx_dreturn rfl (by first | rfl | simp [zKa, zKm, t_size, c_2]) (by rfl) dX7_size_13

set_option maxHeartbeats 4000000 in
set_option maxRecDepth 100000 in
theorem m_X7_saw {g : ZG} {μ : ZMem} {u : UInt64} : zCab g RX7 yX7_saw cX7_saw 4 ((some FieldType.double)) (zrm 0) [zd u] μ (some (zd (s_saw u))) μ := by
  refine zCab_w (by decide +kernel) rfl (Nat.le_of_ble_eq_true rfl) ?_
  refine zx_dload_n dX7_saw_0 rfl rfl ?_
  refine zx_dload_n dX7_saw_1 rfl rfl ?_
  refine zx_d2l dX7_saw_2 ?_
  refine zx_l2d dX7_saw_3 ?_
  refine zx_dsub dX7_saw_4 ?_
  refine zx_dstore_n dX7_saw_5 rfl (Nat.le_of_ble_eq_true rfl) ?_
  refine zx_dload_n dX7_saw_6 rfl rfl ?_
  refine zx_ldc2d 4602678819172646912 zk_X7_180 (by decide +kernel) dX7_saw_7 ?_
  refine zx_dg_ge (tgt := 24) dX7_saw_10 dX7_saw_11 (by decide) (fun c_10 => ?_) (fun c_10 => ?_)
  · skip
    refine zx_ldc2d 4616189618054758400 zk_X7_182 (by decide +kernel) dX7_saw_24 ?_
    refine zx_dload_n dX7_saw_27 rfl rfl ?_
    refine zx_dmul dX7_saw_28 ?_
    refine zx_ldc2d 4613937818241073152 zk_X7_184 (by decide +kernel) dX7_saw_29 ?_
    refine zx_dsub dX7_saw_32 ?_
    exact zx_dreturn rfl (by first | (show some (zd _) = _; unfold s_saw s_sawf; rw [if_pos c_10]) | (show some (zd _) = _; unfold s_saw s_sawf; rw [if_neg (by rw [c_10]; decide)])) (by rfl) dX7_saw_33
  · skip
    refine zx_dconst1 dX7_saw_14 ?_
    refine zx_ldc2d 4616189618054758400 zk_X7_182 (by decide +kernel) dX7_saw_15 ?_
    refine zx_dload_n dX7_saw_18 rfl rfl ?_
    refine zx_dmul dX7_saw_19 ?_
    refine zx_dsub dX7_saw_20 ?_
    refine zx_goto (tgt := 33) dX7_saw_21 (by decide) ?_
    exact zx_dreturn rfl (by first | (show some (zd _) = _; unfold s_saw s_sawf; rw [if_pos c_10]) | (show some (zd _) = _; unfold s_saw s_sawf; rw [if_neg (by rw [c_10]; decide)])) (by rfl) dX7_saw_33

def t_lev (μ : ZMem) (c : Nat) : UInt64 := zsub (zmul (FP.l2d (zL μ 7 c)) k0001) (zD μ 5 c)
set_option maxHeartbeats 4000000 in
set_option maxRecDepth 100000 in
theorem m_X7_levelOf {g : ZG} {μ : ZMem} {w h : Nat} {ly : Int32} (hG : zGM g) (hL : zLM w h ly μ) {c : Nat} (hc : c < 144) : zCab g RX7 yX7_levelOf cX7_levelOf 2 ((some FieldType.double)) (zrm 0) [zr (some 0), zi (nI c)] μ (some (zd (t_lev μ c))) μ := by
  refine zCab_w (by decide +kernel) rfl (Nat.le_of_ble_eq_true rfl) ?_
  have hO0 : zO g 7 0 := hG.o 0 (by decide)
  have hO5 : zO g 8 5 := hG.o 5 (by decide)
  have hl5 : zln g 5 = 144 := hG.l 5 (by decide)
  have hO7 : zO g 10 7 := hG.o 7 (by decide)
  have hl7 : zln g 7 = 144 := hG.l 7 (by decide)
  have hw0 : zI μ 0 0 = nI w := hL.2.1
  have hh0 : zI μ 0 1 = nI h := hL.2.2.1
  have hy0 : zI μ 0 2 = ly := hL.2.2.2.1
  obtain ⟨hb1, hb2, hb3, hb4⟩ := hL.2.2.2.2
  refine zx_aload_n dX7_levelOf_0 rfl rfl ?_
  refine zx_getR zf_X7_20 (by assumption) (show _ = some 7 from hL.1 6 (by decide)) rfl dX7_levelOf_1 ?_
  refine zx_iload_n dX7_levelOf_4 rfl rfl ?_
  refine zx_lald (c) (by assumption) rfl ⟨by rw [hl7]; exact hc, by rw [hl7]; decide⟩ dX7_levelOf_5 ?_
  refine zx_l2d dX7_levelOf_6 ?_
  refine zx_ldc2d 4562254508917369340 zk_X7_196 (by decide +kernel) dX7_levelOf_7 ?_
  refine zx_dmul dX7_levelOf_10 ?_
  refine zx_aload_n dX7_levelOf_11 rfl rfl ?_
  refine zx_getR zf_X7_13 (by assumption) (show _ = some 5 from hL.1 4 (by decide)) rfl dX7_levelOf_12 ?_
  refine zx_iload_n dX7_levelOf_15 rfl rfl ?_
  refine zx_dald (c) (by assumption) rfl ⟨by rw [hl5]; exact hc, by rw [hl5]; decide⟩ dX7_levelOf_16 ?_
  refine zx_dsub dX7_levelOf_17 ?_
  exact zx_dreturn rfl (by rfl) (by rfl) dX7_levelOf_18

set_option maxHeartbeats 4000000 in
set_option maxRecDepth 100000 in
theorem m_X7_limb {g : ZG} {μ : ZMem} {v : Int64} {n : Int32} : zCab g RX7 yX7_limb cX7_limb 3 ((some FieldType.long)) (zrm 0) [zl v, zi n] μ (some (zl (s_limbOf v n))) μ := by
  refine zCab_w (by decide +kernel) rfl (Nat.le_of_ble_eq_true rfl) ?_
  refine zx_iload_n dX7_limb_0 rfl rfl ?_
  refine zx_if_ne (tgt := 12) dX7_limb_1 (by decide) (fun c_1 => ?_) (fun c_1 => ?_)
  · skip
    refine zx_iload_n dX7_limb_12 rfl rfl ?_
    refine zx_iconst 1 dX7_limb_13 (by decide) ?_
    refine zx_icmp_ne (tgt := 24) dX7_limb_14 (by decide) (fun c_14 => ?_) (fun c_14 => ?_)
    · skip
      refine zx_ldc2l (-1) zk_X7_283 dX7_limb_24 ?_
      exact zx_lreturn rfl (by first | rfl | simp [zKa, zKm, s_limbOf, zI_sI, zI_sL, zI_sD, zI_sR, zL_sI, zL_sL, zL_sD, zL_sR, zD_sI, zD_sL, zD_sD, zD_sR, zR_sI, zR_sL, zR_sD, zR_sR, c_1, c_14]) (by rfl) dX7_limb_27
    · skip
      refine zx_lload_n dX7_limb_17 rfl rfl ?_
      refine zx_bipush 32 dX7_limb_18 (by decide) ?_
      refine zx_lshr dX7_limb_20 ?_
      refine zx_goto (tgt := 27) dX7_limb_21 (by decide) ?_
      exact zx_lreturn rfl (by first | rfl | simp [zKa, zKm, s_limbOf, zI_sI, zI_sL, zI_sD, zI_sR, zL_sI, zL_sL, zL_sD, zL_sR, zD_sI, zD_sL, zD_sD, zD_sR, zR_sI, zR_sL, zR_sD, zR_sR, c_1, c_14]) (by rfl) dX7_limb_27
  · skip
    refine zx_lload_n dX7_limb_4 rfl rfl ?_
    refine zx_ldc2l 4294967295 zk_X7_281 dX7_limb_5 ?_
    refine zx_land dX7_limb_8 ?_
    refine zx_goto (tgt := 27) dX7_limb_9 (by decide) ?_
    exact zx_lreturn rfl (by first | rfl | simp [zKa, zKm, s_limbOf, zI_sI, zI_sL, zI_sD, zI_sR, zL_sI, zL_sL, zL_sD, zL_sR, zD_sI, zD_sL, zD_sD, zD_sR, zR_sI, zR_sL, zR_sD, zR_sR, c_1]) (by rfl) dX7_limb_27

set_option maxHeartbeats 4000000 in
set_option maxRecDepth 100000 in
theorem m_X7_isLayer {g : ZG} {μ : ZMem} {w h : Nat} {ly : Int32} (hG : zGM g) (hL : zLM w h ly μ) {x : Int32} : zCab g RX7 yX7_isLayer cX7_isLayer 2 ((some FieldType.boolean)) (zrm 0) [zr (some 0), zi x] μ (some (zi (s_isLayer ly x))) μ := by
  refine zCab_w (by decide +kernel) rfl (Nat.le_of_ble_eq_true rfl) ?_
  have hO0 : zO g 7 0 := hG.o 0 (by decide)
  have hw0 : zI μ 0 0 = nI w := hL.2.1
  have hh0 : zI μ 0 1 = nI h := hL.2.2.1
  have hy0 : zI μ 0 2 = ly := hL.2.2.2.1
  obtain ⟨hb1, hb2, hb3, hb4⟩ := hL.2.2.2.2
  refine zx_iload_n dX7_isLayer_0 rfl rfl ?_
  refine zx_if_lt (tgt := 16) dX7_isLayer_1 (by decide) (fun c_1 => ?_) (fun c_1 => ?_)
  · skip
    refine zx_iconst 0 dX7_isLayer_16 (by decide) ?_
    exact zx_zreturn rfl (by decide +kernel) (by first | rfl | simp [zKa, zKm, s_isLayer, zI_sI, zI_sL, zI_sD, zI_sR, zL_sI, zL_sL, zL_sD, zL_sR, zD_sI, zD_sL, zD_sD, zD_sR, zR_sI, zR_sL, zR_sD, zR_sR, c_1]) (by rfl) dX7_isLayer_17
  · skip
    refine zx_iload_n dX7_isLayer_4 rfl rfl ?_
    refine zx_aload_n dX7_isLayer_5 rfl rfl ?_
    refine zx_getI zf_X7_128 (by assumption) (Or.inl rfl) dX7_isLayer_6 ?_
    rw [hy0]
    refine zx_icmp_ge (tgt := 16) dX7_isLayer_9 (by decide) (fun c_9 => ?_) (fun c_9 => ?_)
    · skip
      refine zx_iconst 0 dX7_isLayer_16 (by decide) ?_
      exact zx_zreturn rfl (by decide +kernel) (by first | rfl | simp [zKa, zKm, s_isLayer, zI_sI, zI_sL, zI_sD, zI_sR, zL_sI, zL_sL, zL_sD, zL_sR, zD_sI, zD_sL, zD_sD, zD_sR, zR_sI, zR_sL, zR_sD, zR_sR, c_1, c_9]) (by rfl) dX7_isLayer_17
    · skip
      refine zx_iconst 1 dX7_isLayer_12 (by decide) ?_
      refine zx_goto (tgt := 17) dX7_isLayer_13 (by decide) ?_
      exact zx_zreturn rfl (by decide +kernel) (by first | rfl | simp [zKa, zKm, s_isLayer, zI_sI, zI_sL, zI_sD, zI_sR, zL_sI, zL_sL, zL_sD, zL_sR, zD_sI, zD_sL, zD_sD, zD_sR, zR_sI, zR_sL, zR_sD, zR_sR, c_1, c_9]) (by rfl) dX7_isLayer_17

def t_total (μ : ZMem) : Int64 := zit (fun k s => s + zL μ 7 k) 144 0
set_option maxHeartbeats 4000000 in
set_option maxRecDepth 100000 in
theorem L_X7_total {g : ZG} {μ : ZMem} {w h : Nat} {ly : Int32} (hG : zGM g) (hL : zLM w h ly μ) {res : Option ZV} {μ' : ZMem} (hx : zWA g (RX7, cX7_total, 4, ((some FieldType.long)), zrm 0, res, μ') 26 (zls [(0, zr (some 0)), (1, zl (zit (fun k s => s + zL μ 7 k) (144) 0)), (3, zi (nI (144)))]) [] μ) : zWA g (RX7, cX7_total, 4, ((some FieldType.long)), zrm 0, res, μ') 4 (zls [(0, zr (some 0)), (1, zl (zit (fun k s => s + zL μ 7 k) (0) 0)), (3, zi (nI (0)))]) [] μ := by
  have hO0 : zO g 7 0 := hG.o 0 (by decide)
  have hO7 : zO g 10 7 := hG.o 7 (by decide)
  have hl7 : zln g 7 = 144 := hG.l 7 (by decide)
  have hw0 : zI μ 0 0 = nI w := hL.2.1
  have hh0 : zI μ 0 1 = nI h := hL.2.2.1
  have hy0 : zI μ 0 2 = ly := hL.2.2.2.1
  obtain ⟨hb1, hb2, hb3, hb4⟩ := hL.2.2.2.2
  refine zloop (P := fun k => zWA g (RX7, cX7_total, 4, ((some FieldType.long)), zrm 0, res, μ') 4 (zls [(0, zr (some 0)), (1, zl (zit (fun k s => s + zL μ 7 k) (k) 0)), (3, zi (nI (k)))]) [] μ) (N := 144) ?_ ?_ 0 (Nat.zero_le _)
  · show zWA _ _ _ _ _ _
    refine zx_iload_n dX7_total_4 rfl rfl ?_
    refine zx_sipush 144 dX7_total_5 (by decide) ?_
    refine zx_icmp_ge (tgt := 26) dX7_total_8 (by decide) (fun _ => ?_) (fun h_ => absurd h_ (fun q => q (by decide)))
    exact zWA_to hx ⟨rfl, rfl, rfl, trivial⟩
  · intro k hk hn_
    show zWA _ _ _ _ _ _
    refine zx_iload_n dX7_total_4 rfl rfl ?_
    refine zx_sipush 144 dX7_total_5 (by decide) ?_
    refine zx_icmp_ge (tgt := 26) dX7_total_8 (by decide) (fun h_ => absurd h_ (nI_ge hk (by decide))) (fun _ => ?_)
    refine zx_lload_n dX7_total_11 rfl rfl ?_
    refine zx_aload_n dX7_total_12 rfl rfl ?_
    refine zx_getR zf_X7_20 (by assumption) (show _ = some 7 from hL.1 6 (by decide)) rfl dX7_total_13 ?_
    refine zx_iload_n dX7_total_16 rfl rfl ?_
    refine zx_lald (k) (by assumption) rfl ⟨by rw [hl7]; exact hk, by rw [hl7]; decide⟩ dX7_total_17 ?_
    refine zx_ladd dX7_total_18 ?_
    refine zx_lstore_n dX7_total_19 rfl (Nat.le_of_ble_eq_true rfl) ?_
    refine zx_iinc (nI (k + 1)) dX7_total_20 rfl (by exact nI_1 k) (Nat.le_of_ble_eq_true rfl) ?_
    refine zx_goto (tgt := 4) dX7_total_23 (by decide) ?_
    exact zWA_to (zWA_mem hn_ (by rfl)) ⟨rfl, rfl, rfl, trivial⟩

set_option maxHeartbeats 4000000 in
set_option maxRecDepth 100000 in
theorem m_X7_total {g : ZG} {μ : ZMem} {w h : Nat} {ly : Int32} (hG : zGM g) (hL : zLM w h ly μ) : zCab g RX7 yX7_total cX7_total 4 ((some FieldType.long)) (zrm 0) [zr (some 0)] μ (some (zl (t_total μ))) μ := by
  refine zCab_w (by decide +kernel) rfl (Nat.le_of_ble_eq_true rfl) ?_
  have hO0 : zO g 7 0 := hG.o 0 (by decide)
  have hO7 : zO g 10 7 := hG.o 7 (by decide)
  have hl7 : zln g 7 = 144 := hG.l 7 (by decide)
  have hw0 : zI μ 0 0 = nI w := hL.2.1
  have hh0 : zI μ 0 1 = nI h := hL.2.2.1
  have hy0 : zI μ 0 2 = ly := hL.2.2.2.1
  obtain ⟨hb1, hb2, hb3, hb4⟩ := hL.2.2.2.2
  refine zx_lconst 0 dX7_total_0 (by decide) ?_
  refine zx_lstore_n dX7_total_1 rfl (Nat.le_of_ble_eq_true rfl) ?_
  refine zx_iconst 0 dX7_total_2 (by decide) ?_
  refine zx_istore_n dX7_total_3 rfl (Nat.le_of_ble_eq_true rfl) ?_
  refine zWA_to (L_X7_total hG hL ?_) ⟨rfl, rfl, rfl, trivial⟩
  refine zx_lload_n dX7_total_26 rfl rfl ?_
  exact zx_lreturn rfl (by rfl) (by rfl) dX7_total_27

set_option maxHeartbeats 4000000 in
set_option maxRecDepth 100000 in
theorem m_X7_volume {g : ZG} {μ : ZMem} {w h : Nat} {ly : Int32} (hG : zGM g) (hL : zLM w h ly μ) {x : Int32} : zCab g RX7 yX7_volume cX7_volume 2 ((some FieldType.long)) (zrm 1) [zr (some 0), zi x] μ (some (zl (s_limbOf (t_total μ) x))) μ := by
  refine zCab_w (by decide +kernel) rfl (Nat.le_of_ble_eq_true rfl) ?_
  have hO0 : zO g 7 0 := hG.o 0 (by decide)
  have hw0 : zI μ 0 0 = nI w := hL.2.1
  have hh0 : zI μ 0 1 = nI h := hL.2.2.1
  have hy0 : zI μ 0 2 = ly := hL.2.2.2.1
  obtain ⟨hb1, hb2, hb3, hb4⟩ := hL.2.2.2.2
  refine zx_aload_n dX7_volume_0 rfl rfl ?_
  refine zx_callV1 _ zv_X7_285 (m_X7_total hG hL) (by assumption) (by decide) rfl rfl rfl ⟨rfl, rfl, (Nat.le_of_ble_eq_true rfl), (Nat.le_of_ble_eq_true rfl)⟩ (Nat.le_of_ble_eq_true rfl) dX7_volume_1 ?_
  refine zx_iload_n dX7_volume_4 rfl rfl ?_
  refine zx_callS1 _ zs_X7_289 m_X7_limb rfl rfl ⟨rfl, rfl, (Nat.le_of_ble_eq_true rfl), (Nat.le_of_ble_eq_true rfl)⟩ (Nat.le_of_ble_eq_true rfl) dX7_volume_5 ?_
  exact zx_lreturn rfl (by rfl) (by rfl) dX7_volume_8

def t_through (μ : ZMem) (x y : Int32) : Int64 := if x < 0 then -1 else if 3 < x then -1 else s_limbOf (zL μ 12 x.toNatClampNeg) y
set_option maxHeartbeats 4000000 in
set_option maxRecDepth 100000 in
theorem m_X7_through {g : ZG} {μ : ZMem} {w h : Nat} {ly : Int32} (hG : zGM g) (hL : zLM w h ly μ) {x y : Int32} : zCab g RX7 yX7_through cX7_through 3 ((some FieldType.long)) (zrm 1) [zr (some 0), zi x, zi y] μ (some (zl (t_through μ x y))) μ := by
  refine zCab_w (by decide +kernel) rfl (Nat.le_of_ble_eq_true rfl) ?_
  have hO0 : zO g 7 0 := hG.o 0 (by decide)
  have hO12 : zO g 10 12 := hG.o 12 (by decide)
  have hl12 : zln g 12 = 4 := hG.l 12 (by decide)
  have hw0 : zI μ 0 0 = nI w := hL.2.1
  have hh0 : zI μ 0 1 = nI h := hL.2.2.1
  have hy0 : zI μ 0 2 = ly := hL.2.2.2.1
  obtain ⟨hb1, hb2, hb3, hb4⟩ := hL.2.2.2.2
  refine zx_iload_n dX7_through_0 rfl rfl ?_
  refine zx_if_lt (tgt := 9) dX7_through_1 (by decide) (fun c_1 => ?_) (fun c_1 => ?_)
  · skip
    refine zx_ldc2l (-1) zk_X7_283 dX7_through_9 ?_
    refine zx_goto (tgt := 25) dX7_through_12 (by decide) ?_
    exact zx_lreturn rfl (by simp [zKa, t_through, c_1]) (by rfl) dX7_through_25
  · skip
    refine zx_iload_n dX7_through_4 rfl rfl ?_
    refine zx_iconst 3 dX7_through_5 (by decide) ?_
    refine zx_icmp_le (tgt := 15) dX7_through_6 (by decide) (fun c_6 => ?_) (fun c_6 => ?_)
    · skip
      obtain ⟨i, hi, rfl⟩ := nI_of2 (M := 3) (n := 3) (by decide) c_1 c_6
      refine zx_aload_n dX7_through_15 rfl rfl ?_
      refine zx_getR zf_X7_36 (by assumption) (show _ = some 12 from hL.1 11 (by decide)) rfl dX7_through_16 ?_
      refine zx_iload_n dX7_through_19 rfl rfl ?_
      refine zx_lald (i) (by assumption) rfl ⟨by rw [hl12]; omega, by rw [hl12]; decide⟩ dX7_through_20 ?_
      refine zx_iload_n dX7_through_21 rfl rfl ?_
      refine zx_callS1 _ zs_X7_289 m_X7_limb rfl rfl ⟨rfl, rfl, (Nat.le_of_ble_eq_true rfl), (Nat.le_of_ble_eq_true rfl)⟩ (Nat.le_of_ble_eq_true rfl) dX7_through_22 ?_
      exact zx_lreturn rfl (by show some (zl (t_through μ (nI i) y)) = _; unfold t_through; rw [if_neg c_1, if_neg (Int32.not_lt.mpr c_6), nI_clamp (by omega)]) (by rfl) dX7_through_25
    · skip
      refine zx_ldc2l (-1) zk_X7_283 dX7_through_9 ?_
      refine zx_goto (tgt := 25) dX7_through_12 (by decide) ?_
      exact zx_lreturn rfl (by simp [zKa, t_through, c_1, c_6]) (by rfl) dX7_through_25

def t_kept (μ : ZMem) : Int32 := if t_total μ = zL μ 0 14 + zL μ 12 0 + zL μ 12 1 + zL μ 12 2 + zL μ 12 3 + zL μ 0 12 then 1 else 0
set_option maxHeartbeats 4000000 in
set_option maxRecDepth 100000 in
theorem m_X7_kept {g : ZG} {μ : ZMem} {w h : Nat} {ly : Int32} (hG : zGM g) (hL : zLM w h ly μ) : zCab g RX7 yX7_kept cX7_kept 1 ((some FieldType.boolean)) (zrm 1) [zr (some 0)] μ (some (zi (t_kept μ))) μ := by
  refine zCab_w (by decide +kernel) rfl (Nat.le_of_ble_eq_true rfl) ?_
  have hO0 : zO g 7 0 := hG.o 0 (by decide)
  have hO12 : zO g 10 12 := hG.o 12 (by decide)
  have hl12 : zln g 12 = 4 := hG.l 12 (by decide)
  have hw0 : zI μ 0 0 = nI w := hL.2.1
  have hh0 : zI μ 0 1 = nI h := hL.2.2.1
  have hy0 : zI μ 0 2 = ly := hL.2.2.2.1
  obtain ⟨hb1, hb2, hb3, hb4⟩ := hL.2.2.2.2
  refine zx_aload_n dX7_kept_0 rfl rfl ?_
  refine zx_callV1 _ zv_X7_285 (m_X7_total hG hL) (by assumption) (by decide) rfl rfl rfl ⟨rfl, rfl, (Nat.le_of_ble_eq_true rfl), (Nat.le_of_ble_eq_true rfl)⟩ (Nat.le_of_ble_eq_true rfl) dX7_kept_1 ?_
  refine zx_aload_n dX7_kept_4 rfl rfl ?_
  refine zx_getL zf_X7_156 (by assumption) rfl dX7_kept_5 ?_
  refine zx_aload_n dX7_kept_8 rfl rfl ?_
  refine zx_getR zf_X7_36 (by assumption) (show _ = some 12 from hL.1 11 (by decide)) rfl dX7_kept_9 ?_
  refine zx_iconst 0 dX7_kept_12 (by decide) ?_
  refine zx_lald (0) (by assumption) rfl ⟨by rw [hl12]; decide, by rw [hl12]; decide⟩ dX7_kept_13 ?_
  refine zx_ladd dX7_kept_14 ?_
  refine zx_aload_n dX7_kept_15 rfl rfl ?_
  refine zx_getR zf_X7_36 (by assumption) (show _ = some 12 from hL.1 11 (by decide)) rfl dX7_kept_16 ?_
  refine zx_iconst 1 dX7_kept_19 (by decide) ?_
  refine zx_lald (1) (by assumption) rfl ⟨by rw [hl12]; decide, by rw [hl12]; decide⟩ dX7_kept_20 ?_
  refine zx_ladd dX7_kept_21 ?_
  refine zx_aload_n dX7_kept_22 rfl rfl ?_
  refine zx_getR zf_X7_36 (by assumption) (show _ = some 12 from hL.1 11 (by decide)) rfl dX7_kept_23 ?_
  refine zx_iconst 2 dX7_kept_26 (by decide) ?_
  refine zx_lald (2) (by assumption) rfl ⟨by rw [hl12]; decide, by rw [hl12]; decide⟩ dX7_kept_27 ?_
  refine zx_ladd dX7_kept_28 ?_
  refine zx_aload_n dX7_kept_29 rfl rfl ?_
  refine zx_getR zf_X7_36 (by assumption) (show _ = some 12 from hL.1 11 (by decide)) rfl dX7_kept_30 ?_
  refine zx_iconst 3 dX7_kept_33 (by decide) ?_
  refine zx_lald (3) (by assumption) rfl ⟨by rw [hl12]; decide, by rw [hl12]; decide⟩ dX7_kept_34 ?_
  refine zx_ladd dX7_kept_35 ?_
  refine zx_aload_n dX7_kept_36 rfl rfl ?_
  refine zx_getL zf_X7_261 (by assumption) rfl dX7_kept_37 ?_
  refine zx_ladd dX7_kept_40 ?_
  refine zx_lc_ne (tgt := 49) dX7_kept_41 dX7_kept_42 (by decide) (fun c_41 => ?_) (fun c_41 => ?_)
  · skip
    refine zx_iconst 0 dX7_kept_49 (by decide) ?_
    exact zx_zreturn rfl (by decide +kernel) (by first | rfl | simp [zKa, zKm, t_kept, c_41]) (by rfl) dX7_kept_50
  · skip
    refine zx_iconst 1 dX7_kept_45 (by decide) ?_
    refine zx_goto (tgt := 50) dX7_kept_46 (by decide) ?_
    exact zx_zreturn rfl (by decide +kernel) (by first | rfl | simp [zKa, zKm, t_kept, c_41]) (by rfl) dX7_kept_50

def t_level (μ : ZMem) (w h : Nat) (x y : Int32) : UInt64 := if t_isWater μ w h x y = 0 then kNo else t_lev μ (12 * y.toNatClampNeg + x.toNatClampNeg)
set_option maxHeartbeats 4000000 in
set_option maxRecDepth 100000 in
theorem m_X7_level {g : ZG} {μ : ZMem} {w h : Nat} {ly : Int32} (hG : zGM g) (hL : zLM w h ly μ) {x y : Int32} : zCab g RX7 yX7_level cX7_level 3 ((some FieldType.double)) (zrm 2) [zr (some 0), zi x, zi y] μ (some (zd (t_level μ w h x y))) μ := by
  refine zCab_w (by decide +kernel) rfl (Nat.le_of_ble_eq_true rfl) ?_
  have hO0 : zO g 7 0 := hG.o 0 (by decide)
  have hw0 : zI μ 0 0 = nI w := hL.2.1
  have hh0 : zI μ 0 1 = nI h := hL.2.2.1
  have hy0 : zI μ 0 2 = ly := hL.2.2.2.1
  obtain ⟨hb1, hb2, hb3, hb4⟩ := hL.2.2.2.2
  refine zx_aload_n dX7_level_0 rfl rfl ?_
  refine zx_iload_n dX7_level_1 rfl rfl ?_
  refine zx_iload_n dX7_level_2 rfl rfl ?_
  refine zx_callV1 _ zv_X7_139 (m_X7_isWater hG hL) (by assumption) (by decide) rfl rfl rfl ⟨rfl, rfl, (Nat.le_of_ble_eq_true rfl), (Nat.le_of_ble_eq_true rfl)⟩ (Nat.le_of_ble_eq_true rfl) dX7_level_3 ?_
  refine zx_if_eq (tgt := 21) dX7_level_6 (by decide) (fun c_6 => ?_) (fun c_6 => ?_)
  · skip
    refine zx_ldc2d 13920209183539462144 zk_X7_274 (by decide +kernel) dX7_level_21 ?_
    exact zx_dreturn rfl (by simp [zKa, zKm, t_level, c_6]) (by rfl) dX7_level_24
  · skip
    obtain ⟨i, j, hi, hj, rfl, rfl⟩ := t_isWater_in hb2 hb4 c_6
    refine zx_aload_n dX7_level_9 rfl rfl ?_
    refine zx_iload_n dX7_level_10 rfl rfl ?_
    refine zx_iload_n dX7_level_11 rfl rfl ?_
    refine zx_callS1 _ zs_X7_135 m_X7_at rfl rfl ⟨rfl, rfl, (Nat.le_of_ble_eq_true rfl), (Nat.le_of_ble_eq_true rfl)⟩ (Nat.le_of_ble_eq_true rfl) dX7_level_12 ?_
    rw [zat]
    refine zx_callV1 _ zv_X7_198 (m_X7_levelOf hG hL (c := 12 * j + i) (by omega)) (by assumption) (by decide) rfl rfl rfl ⟨rfl, rfl, (Nat.le_of_ble_eq_true rfl), (Nat.le_of_ble_eq_true rfl)⟩ (Nat.le_of_ble_eq_true rfl) dX7_level_15 ?_
    refine zx_goto (tgt := 24) dX7_level_18 (by decide) ?_
    exact zx_dreturn rfl (by simp [zKa, zKm, t_level, c_6, nI_clamp (show i < 2 ^ 31 by omega), nI_clamp (show j < 2 ^ 31 by omega)]) (by rfl) dX7_level_24

def t_warm (μ : ZMem) (w h : Nat) (ly x y z : Int32) : UInt64 := if t_isWater μ w h x y = 0 then kNo else if s_isLayer ly z = 0 then kNo else zsub (zD μ 8 (12 * y.toNatClampNeg + x.toNatClampNeg)) (zmul k05 (FP.i2d z))
set_option maxHeartbeats 4000000 in
set_option maxRecDepth 100000 in
theorem m_X7_warm {g : ZG} {μ : ZMem} {w h : Nat} {ly : Int32} (hG : zGM g) (hL : zLM w h ly μ) {x y z : Int32} : zCab g RX7 yX7_warm cX7_warm 4 ((some FieldType.double)) (zrm 2) [zr (some 0), zi x, zi y, zi z] μ (some (zd (t_warm μ w h ly x y z))) μ := by
  refine zCab_w (by decide +kernel) rfl (Nat.le_of_ble_eq_true rfl) ?_
  have hO0 : zO g 7 0 := hG.o 0 (by decide)
  have hO8 : zO g 8 8 := hG.o 8 (by decide)
  have hl8 : zln g 8 = 144 := hG.l 8 (by decide)
  have hw0 : zI μ 0 0 = nI w := hL.2.1
  have hh0 : zI μ 0 1 = nI h := hL.2.2.1
  have hy0 : zI μ 0 2 = ly := hL.2.2.2.1
  obtain ⟨hb1, hb2, hb3, hb4⟩ := hL.2.2.2.2
  refine zx_aload_n dX7_warm_0 rfl rfl ?_
  refine zx_iload_n dX7_warm_1 rfl rfl ?_
  refine zx_iload_n dX7_warm_2 rfl rfl ?_
  refine zx_callV1 _ zv_X7_139 (m_X7_isWater hG hL) (by assumption) (by decide) rfl rfl rfl ⟨rfl, rfl, (Nat.le_of_ble_eq_true rfl), (Nat.le_of_ble_eq_true rfl)⟩ (Nat.le_of_ble_eq_true rfl) dX7_warm_3 ?_
  refine zx_if_eq (tgt := 37) dX7_warm_6 (by decide) (fun c_6 => ?_) (fun c_6 => ?_)
  · skip
    refine zx_ldc2d 13920209183539462144 zk_X7_274 (by decide +kernel) dX7_warm_37 ?_
    exact zx_dreturn rfl (by simp [zKa, zKm, t_warm, c_6]) (by rfl) dX7_warm_40
  · skip
    refine zx_aload_n dX7_warm_9 rfl rfl ?_
    refine zx_iload_n dX7_warm_10 rfl rfl ?_
    refine zx_callV1 _ zv_X7_276 (m_X7_isLayer hG hL) (by assumption) (by decide) rfl rfl rfl ⟨rfl, rfl, (Nat.le_of_ble_eq_true rfl), (Nat.le_of_ble_eq_true rfl)⟩ (Nat.le_of_ble_eq_true rfl) dX7_warm_11 ?_
    refine zx_if_eq (tgt := 37) dX7_warm_14 (by decide) (fun c_14 => ?_) (fun c_14 => ?_)
    · skip
      refine zx_ldc2d 13920209183539462144 zk_X7_274 (by decide +kernel) dX7_warm_37 ?_
      exact zx_dreturn rfl (by simp [zKa, zKm, t_warm, c_6, c_14]) (by rfl) dX7_warm_40
    · skip
      obtain ⟨i, j, hi, hj, rfl, rfl⟩ := t_isWater_in hb2 hb4 c_6
      refine zx_aload_n dX7_warm_17 rfl rfl ?_
      refine zx_getR zf_X7_24 (by assumption) (show _ = some 8 from hL.1 7 (by decide)) rfl dX7_warm_18 ?_
      refine zx_iload_n dX7_warm_21 rfl rfl ?_
      refine zx_iload_n dX7_warm_22 rfl rfl ?_
      refine zx_callS1 _ zs_X7_135 m_X7_at rfl rfl ⟨rfl, rfl, (Nat.le_of_ble_eq_true rfl), (Nat.le_of_ble_eq_true rfl)⟩ (Nat.le_of_ble_eq_true rfl) dX7_warm_23 ?_
      refine zx_dald (12 * j + i) (by assumption) (zat i j) ⟨by rw [hl8]; omega, by rw [hl8]; decide⟩ dX7_warm_26 ?_
      refine zx_ldc2d 4602678819172646912 zk_X7_180 (by decide +kernel) dX7_warm_27 ?_
      refine zx_iload_n dX7_warm_30 rfl rfl ?_
      refine zx_i2d dX7_warm_31 ?_
      refine zx_dmul dX7_warm_32 ?_
      refine zx_dsub dX7_warm_33 ?_
      refine zx_goto (tgt := 40) dX7_warm_34 (by decide) ?_
      exact zx_dreturn rfl (by simp [zKa, zKm, t_warm, c_6, c_14, nI_clamp (show i < 2 ^ 31 by omega), nI_clamp (show j < 2 ^ 31 by omega)]) (by rfl) dX7_warm_40

def t_salt (μ : ZMem) (w h : Nat) (ly x y z : Int32) : UInt64 := if t_isWater μ w h x y = 0 then kNo else if s_isLayer ly z = 0 then kNo else zadd (zD μ 9 (12 * y.toNatClampNeg + x.toNatClampNeg)) (zmul k01 (FP.i2d z))
set_option maxHeartbeats 4000000 in
set_option maxRecDepth 100000 in
theorem m_X7_salt {g : ZG} {μ : ZMem} {w h : Nat} {ly : Int32} (hG : zGM g) (hL : zLM w h ly μ) {x y z : Int32} : zCab g RX7 yX7_salt cX7_salt 4 ((some FieldType.double)) (zrm 2) [zr (some 0), zi x, zi y, zi z] μ (some (zd (t_salt μ w h ly x y z))) μ := by
  refine zCab_w (by decide +kernel) rfl (Nat.le_of_ble_eq_true rfl) ?_
  have hO0 : zO g 7 0 := hG.o 0 (by decide)
  have hO9 : zO g 8 9 := hG.o 9 (by decide)
  have hl9 : zln g 9 = 144 := hG.l 9 (by decide)
  have hw0 : zI μ 0 0 = nI w := hL.2.1
  have hh0 : zI μ 0 1 = nI h := hL.2.2.1
  have hy0 : zI μ 0 2 = ly := hL.2.2.2.1
  obtain ⟨hb1, hb2, hb3, hb4⟩ := hL.2.2.2.2
  refine zx_aload_n dX7_salt_0 rfl rfl ?_
  refine zx_iload_n dX7_salt_1 rfl rfl ?_
  refine zx_iload_n dX7_salt_2 rfl rfl ?_
  refine zx_callV1 _ zv_X7_139 (m_X7_isWater hG hL) (by assumption) (by decide) rfl rfl rfl ⟨rfl, rfl, (Nat.le_of_ble_eq_true rfl), (Nat.le_of_ble_eq_true rfl)⟩ (Nat.le_of_ble_eq_true rfl) dX7_salt_3 ?_
  refine zx_if_eq (tgt := 37) dX7_salt_6 (by decide) (fun c_6 => ?_) (fun c_6 => ?_)
  · skip
    refine zx_ldc2d 13920209183539462144 zk_X7_274 (by decide +kernel) dX7_salt_37 ?_
    exact zx_dreturn rfl (by simp [zKa, zKm, t_salt, c_6]) (by rfl) dX7_salt_40
  · skip
    refine zx_aload_n dX7_salt_9 rfl rfl ?_
    refine zx_iload_n dX7_salt_10 rfl rfl ?_
    refine zx_callV1 _ zv_X7_276 (m_X7_isLayer hG hL) (by assumption) (by decide) rfl rfl rfl ⟨rfl, rfl, (Nat.le_of_ble_eq_true rfl), (Nat.le_of_ble_eq_true rfl)⟩ (Nat.le_of_ble_eq_true rfl) dX7_salt_11 ?_
    refine zx_if_eq (tgt := 37) dX7_salt_14 (by decide) (fun c_14 => ?_) (fun c_14 => ?_)
    · skip
      refine zx_ldc2d 13920209183539462144 zk_X7_274 (by decide +kernel) dX7_salt_37 ?_
      exact zx_dreturn rfl (by simp [zKa, zKm, t_salt, c_6, c_14]) (by rfl) dX7_salt_40
    · skip
      obtain ⟨i, j, hi, hj, rfl, rfl⟩ := t_isWater_in hb2 hb4 c_6
      refine zx_aload_n dX7_salt_17 rfl rfl ?_
      refine zx_getR zf_X7_27 (by assumption) (show _ = some 9 from hL.1 8 (by decide)) rfl dX7_salt_18 ?_
      refine zx_iload_n dX7_salt_21 rfl rfl ?_
      refine zx_iload_n dX7_salt_22 rfl rfl ?_
      refine zx_callS1 _ zs_X7_135 m_X7_at rfl rfl ⟨rfl, rfl, (Nat.le_of_ble_eq_true rfl), (Nat.le_of_ble_eq_true rfl)⟩ (Nat.le_of_ble_eq_true rfl) dX7_salt_23 ?_
      refine zx_dald (12 * j + i) (by assumption) (zat i j) ⟨by rw [hl9]; omega, by rw [hl9]; decide⟩ dX7_salt_26 ?_
      refine zx_ldc2d 4591870180066957722 zk_X7_293 (by decide +kernel) dX7_salt_27 ?_
      refine zx_iload_n dX7_salt_30 rfl rfl ?_
      refine zx_i2d dX7_salt_31 ?_
      refine zx_dmul dX7_salt_32 ?_
      refine zx_dadd dX7_salt_33 ?_
      refine zx_goto (tgt := 40) dX7_salt_34 (by decide) ?_
      exact zx_dreturn rfl (by simp [zKa, zKm, t_salt, c_6, c_14, nI_clamp (show i < 2 ^ 31 by omega), nI_clamp (show j < 2 ^ 31 by omega)]) (by rfl) dX7_salt_40

def t_dry (μ : ZMem) (w h : Nat) (x y : Int32) : Int32 := if t_isWater μ w h x y = 0 then 1 else if zL μ 7 (12 * y.toNatClampNeg + x.toNatClampNeg) < 50 then 1 else 0
set_option maxHeartbeats 4000000 in
set_option maxRecDepth 100000 in
theorem m_X7_dry {g : ZG} {μ : ZMem} {w h : Nat} {ly : Int32} (hG : zGM g) (hL : zLM w h ly μ) {x y : Int32} : zCab g RX7 yX7_dry cX7_dry 3 ((some FieldType.boolean)) (zrm 2) [zr (some 0), zi x, zi y] μ (some (zi (t_dry μ w h x y))) μ := by
  refine zCab_w (by decide +kernel) rfl (Nat.le_of_ble_eq_true rfl) ?_
  have hO0 : zO g 7 0 := hG.o 0 (by decide)
  have hO7 : zO g 10 7 := hG.o 7 (by decide)
  have hl7 : zln g 7 = 144 := hG.l 7 (by decide)
  have hw0 : zI μ 0 0 = nI w := hL.2.1
  have hh0 : zI μ 0 1 = nI h := hL.2.2.1
  have hy0 : zI μ 0 2 = ly := hL.2.2.2.1
  obtain ⟨hb1, hb2, hb3, hb4⟩ := hL.2.2.2.2
  refine zx_aload_n dX7_dry_0 rfl rfl ?_
  refine zx_iload_n dX7_dry_1 rfl rfl ?_
  refine zx_iload_n dX7_dry_2 rfl rfl ?_
  refine zx_callV1 _ zv_X7_139 (m_X7_isWater hG hL) (by assumption) (by decide) rfl rfl rfl ⟨rfl, rfl, (Nat.le_of_ble_eq_true rfl), (Nat.le_of_ble_eq_true rfl)⟩ (Nat.le_of_ble_eq_true rfl) dX7_dry_3 ?_
  refine zx_if_eq (tgt := 26) dX7_dry_6 (by decide) (fun c_6 => ?_) (fun c_6 => ?_)
  · skip
    refine zx_iconst 1 dX7_dry_26 (by decide) ?_
    refine zx_goto (tgt := 31) dX7_dry_27 (by decide) ?_
    exact zx_zreturn rfl (by decide +kernel) (by simp [zKa, zKm, t_dry, c_6]) (by rfl) dX7_dry_31
  · skip
    obtain ⟨i, j, hi, hj, rfl, rfl⟩ := t_isWater_in hb2 hb4 c_6
    refine zx_aload_n dX7_dry_9 rfl rfl ?_
    refine zx_getR zf_X7_20 (by assumption) (show _ = some 7 from hL.1 6 (by decide)) rfl dX7_dry_10 ?_
    refine zx_iload_n dX7_dry_13 rfl rfl ?_
    refine zx_iload_n dX7_dry_14 rfl rfl ?_
    refine zx_callS1 _ zs_X7_135 m_X7_at rfl rfl ⟨rfl, rfl, (Nat.le_of_ble_eq_true rfl), (Nat.le_of_ble_eq_true rfl)⟩ (Nat.le_of_ble_eq_true rfl) dX7_dry_15 ?_
    refine zx_lald (12 * j + i) (by assumption) (zat i j) ⟨by rw [hl7]; omega, by rw [hl7]; decide⟩ dX7_dry_18 ?_
    refine zx_ldc2l 50 zk_X7_221 dX7_dry_19 ?_
    refine zx_lc_ge (tgt := 30) dX7_dry_22 dX7_dry_23 (by decide) (fun c_22 => ?_) (fun c_22 => ?_)
    · skip
      refine zx_iconst 0 dX7_dry_30 (by decide) ?_
      exact zx_zreturn rfl (by decide +kernel) (by simp [zKa, zKm, t_dry, c_6, c_22, nI_clamp (show i < 2 ^ 31 by omega), nI_clamp (show j < 2 ^ 31 by omega)]) (by rfl) dX7_dry_31
    · skip
      refine zx_iconst 1 dX7_dry_26 (by decide) ?_
      refine zx_goto (tgt := 31) dX7_dry_27 (by decide) ?_
      exact zx_zreturn rfl (by decide +kernel) (by simp [zKa, zKm, t_dry, c_6, c_22, nI_clamp (show i < 2 ^ 31 by omega), nI_clamp (show j < 2 ^ 31 by omega)]) (by rfl) dX7_dry_31

def t_mud (μ : ZMem) (w h : Nat) (x y : Int32) : UInt64 := if t_isWater μ w h x y = 0 then 0 else zD μ 10 (12 * y.toNatClampNeg + x.toNatClampNeg)
set_option maxHeartbeats 4000000 in
set_option maxRecDepth 100000 in
theorem m_X7_mud {g : ZG} {μ : ZMem} {w h : Nat} {ly : Int32} (hG : zGM g) (hL : zLM w h ly μ) {x y : Int32} : zCab g RX7 yX7_mud cX7_mud 3 ((some FieldType.double)) (zrm 2) [zr (some 0), zi x, zi y] μ (some (zd (t_mud μ w h x y))) μ := by
  refine zCab_w (by decide +kernel) rfl (Nat.le_of_ble_eq_true rfl) ?_
  have hO0 : zO g 7 0 := hG.o 0 (by decide)
  have hO10 : zO g 8 10 := hG.o 10 (by decide)
  have hl10 : zln g 10 = 144 := hG.l 10 (by decide)
  have hw0 : zI μ 0 0 = nI w := hL.2.1
  have hh0 : zI μ 0 1 = nI h := hL.2.2.1
  have hy0 : zI μ 0 2 = ly := hL.2.2.2.1
  obtain ⟨hb1, hb2, hb3, hb4⟩ := hL.2.2.2.2
  refine zx_aload_n dX7_mud_0 rfl rfl ?_
  refine zx_iload_n dX7_mud_1 rfl rfl ?_
  refine zx_iload_n dX7_mud_2 rfl rfl ?_
  refine zx_callV1 _ zv_X7_139 (m_X7_isWater hG hL) (by assumption) (by decide) rfl rfl rfl ⟨rfl, rfl, (Nat.le_of_ble_eq_true rfl), (Nat.le_of_ble_eq_true rfl)⟩ (Nat.le_of_ble_eq_true rfl) dX7_mud_3 ?_
  refine zx_if_eq (tgt := 22) dX7_mud_6 (by decide) (fun c_6 => ?_) (fun c_6 => ?_)
  · skip
    refine zx_dconst0 dX7_mud_22 ?_
    exact zx_dreturn rfl (by simp [zKa, zKm, t_mud, c_6]) (by rfl) dX7_mud_23
  · skip
    obtain ⟨i, j, hi, hj, rfl, rfl⟩ := t_isWater_in hb2 hb4 c_6
    refine zx_aload_n dX7_mud_9 rfl rfl ?_
    refine zx_getR zf_X7_30 (by assumption) (show _ = some 10 from hL.1 9 (by decide)) rfl dX7_mud_10 ?_
    refine zx_iload_n dX7_mud_13 rfl rfl ?_
    refine zx_iload_n dX7_mud_14 rfl rfl ?_
    refine zx_callS1 _ zs_X7_135 m_X7_at rfl rfl ⟨rfl, rfl, (Nat.le_of_ble_eq_true rfl), (Nat.le_of_ble_eq_true rfl)⟩ (Nat.le_of_ble_eq_true rfl) dX7_mud_15 ?_
    refine zx_dald (12 * j + i) (by assumption) (zat i j) ⟨by rw [hl10]; omega, by rw [hl10]; decide⟩ dX7_mud_18 ?_
    refine zx_goto (tgt := 23) dX7_mud_19 (by decide) ?_
    exact zx_dreturn rfl (by simp [zKa, zKm, t_mud, c_6, nI_clamp (show i < 2 ^ 31 by omega), nI_clamp (show j < 2 ^ 31 by omega)]) (by rfl) dX7_mud_23

def t_iceV (μ : ZMem) (c : Nat) : UInt64 := zmul (zsub k2715 (zadd k27315 (zD μ 8 c))) k05
def t_ice (μ : ZMem) (w h : Nat) (x y : Int32) : UInt64 := if t_isWater μ w h x y = 0 then 0 else if zlt (t_iceV μ (12 * y.toNatClampNeg + x.toNatClampNeg)) 0 = true then 0 else if zgt (t_iceV μ (12 * y.toNatClampNeg + x.toNatClampNeg)) k1 = true then k1 else t_iceV μ (12 * y.toNatClampNeg + x.toNatClampNeg)
set_option maxHeartbeats 4000000 in
set_option maxRecDepth 100000 in
theorem m_X7_ice {g : ZG} {μ : ZMem} {w h : Nat} {ly : Int32} (hG : zGM g) (hL : zLM w h ly μ) {x y : Int32} : zCab g RX7 yX7_ice cX7_ice 5 ((some FieldType.double)) (zrm 2) [zr (some 0), zi x, zi y] μ (some (zd (t_ice μ w h x y))) μ := by
  refine zCab_w (by decide +kernel) rfl (Nat.le_of_ble_eq_true rfl) ?_
  have hO0 : zO g 7 0 := hG.o 0 (by decide)
  have hO8 : zO g 8 8 := hG.o 8 (by decide)
  have hl8 : zln g 8 = 144 := hG.l 8 (by decide)
  have hw0 : zI μ 0 0 = nI w := hL.2.1
  have hh0 : zI μ 0 1 = nI h := hL.2.2.1
  have hy0 : zI μ 0 2 = ly := hL.2.2.2.1
  obtain ⟨hb1, hb2, hb3, hb4⟩ := hL.2.2.2.2
  refine zx_aload_n dX7_ice_0 rfl rfl ?_
  refine zx_iload_n dX7_ice_1 rfl rfl ?_
  refine zx_iload_n dX7_ice_2 rfl rfl ?_
  refine zx_callV1 _ zv_X7_139 (m_X7_isWater hG hL) (by assumption) (by decide) rfl rfl rfl ⟨rfl, rfl, (Nat.le_of_ble_eq_true rfl), (Nat.le_of_ble_eq_true rfl)⟩ (Nat.le_of_ble_eq_true rfl) dX7_ice_3 ?_
  refine zx_if_ne (tgt := 11) dX7_ice_6 (by decide) (fun c_6 => ?_) (fun c_6 => ?_)
  · skip
    obtain ⟨i, j, hi, hj, rfl, rfl⟩ := t_isWater_in hb2 hb4 c_6
    refine zx_ldc2d 4643483894702669824 zk_X7_295 (by decide +kernel) dX7_ice_11 ?_
    refine zx_ldc2d 4643512921809643110 zk_X7_297 (by decide +kernel) dX7_ice_14 ?_
    refine zx_aload_n dX7_ice_17 rfl rfl ?_
    refine zx_getR zf_X7_24 (by assumption) (show _ = some 8 from hL.1 7 (by decide)) rfl dX7_ice_18 ?_
    refine zx_iload_n dX7_ice_21 rfl rfl ?_
    refine zx_iload_n dX7_ice_22 rfl rfl ?_
    refine zx_callS1 _ zs_X7_135 m_X7_at rfl rfl ⟨rfl, rfl, (Nat.le_of_ble_eq_true rfl), (Nat.le_of_ble_eq_true rfl)⟩ (Nat.le_of_ble_eq_true rfl) dX7_ice_23 ?_
    refine zx_dald (12 * j + i) (by assumption) (zat i j) ⟨by rw [hl8]; omega, by rw [hl8]; decide⟩ dX7_ice_26 ?_
    refine zx_dadd dX7_ice_27 ?_
    refine zx_dsub dX7_ice_28 ?_
    refine zx_ldc2d 4602678819172646912 zk_X7_180 (by decide +kernel) dX7_ice_29 ?_
    refine zx_dmul dX7_ice_32 ?_
    refine zx_dstore_n dX7_ice_33 rfl (Nat.le_of_ble_eq_true rfl) ?_
    refine zx_dload_n dX7_ice_34 rfl rfl ?_
    refine zx_dconst0 dX7_ice_35 ?_
    refine zx_dg_ge (tgt := 44) dX7_ice_36 dX7_ice_37 (by decide) (fun c_36 => ?_) (fun c_36 => ?_)
    · skip
      refine zx_dload_n dX7_ice_44 rfl rfl ?_
      refine zx_dconst1 dX7_ice_45 ?_
      refine zx_dl_le (tgt := 54) dX7_ice_46 dX7_ice_47 (by decide) (fun c_46 => ?_) (fun c_46 => ?_)
      · skip
        refine zx_dload_n dX7_ice_54 rfl rfl ?_
        exact zx_dreturn rfl (by show some (zd (t_ice μ w h (nI i) (nI j))) = _; unfold t_ice; rw [if_neg c_6, nI_clamp (by omega), nI_clamp (by omega)]; rw [if_neg (by rw [show zlt (t_iceV μ (12 * j + i)) 0 = false from c_36]; decide), if_neg (by rw [show zgt (t_iceV μ (12 * j + i)) k1 = false from c_46]; decide)] <;> rfl) (by rfl) dX7_ice_55
      · skip
        refine zx_dconst1 dX7_ice_50 ?_
        refine zx_goto (tgt := 55) dX7_ice_51 (by decide) ?_
        exact zx_dreturn rfl (by show some (zd (t_ice μ w h (nI i) (nI j))) = _; unfold t_ice; rw [if_neg c_6, nI_clamp (by omega), nI_clamp (by omega)]; rw [if_neg (by rw [show zlt (t_iceV μ (12 * j + i)) 0 = false from c_36]; decide), if_pos (show zgt (t_iceV μ (12 * j + i)) k1 = true from c_46)] <;> rfl) (by rfl) dX7_ice_55
    · skip
      refine zx_dconst0 dX7_ice_40 ?_
      refine zx_goto (tgt := 55) dX7_ice_41 (by decide) ?_
      exact zx_dreturn rfl (by show some (zd (t_ice μ w h (nI i) (nI j))) = _; unfold t_ice; rw [if_neg c_6, nI_clamp (by omega), nI_clamp (by omega)]; rw [if_pos (show zlt (t_iceV μ (12 * j + i)) 0 = true from c_36)]) (by rfl) dX7_ice_55
  · skip
    refine zx_dconst0 dX7_ice_9 ?_
    exact zx_dreturn rfl (by simp [zKa, t_ice, c_6]) (by rfl) dX7_ice_10

def t_equal (μ : ZMem) (x : Int32) : Int32 := if x < 0 then 0 else if zI μ 0 27 ≤ x then 0 else if zI μ 31 x.toNatClampNeg = 0 then 0 else 1
set_option maxHeartbeats 4000000 in
set_option maxRecDepth 100000 in
theorem m_X7_equal {g : ZG} {μ : ZMem} {w h : Nat} {ly : Int32} (hG : zGM g) (hL : zLM w h ly μ) {n : Nat} (hn : n ≤ 10) (hI : zI μ 0 27 = nI n) {x : Int32} : zCab g RX7 yX7_equal cX7_equal 2 ((some FieldType.boolean)) (zrm 0) [zr (some 0), zi x] μ (some (zi (t_equal μ x))) μ := by
  refine zCab_w (by decide +kernel) rfl (Nat.le_of_ble_eq_true rfl) ?_
  have hO0 : zO g 7 0 := hG.o 0 (by decide)
  have hO31 : zO g 11 31 := hG.o 31 (by decide)
  have hl31 : zln g 31 = 10 := hG.l 31 (by decide)
  have hw0 : zI μ 0 0 = nI w := hL.2.1
  have hh0 : zI μ 0 1 = nI h := hL.2.2.1
  have hy0 : zI μ 0 2 = ly := hL.2.2.2.1
  obtain ⟨hb1, hb2, hb3, hb4⟩ := hL.2.2.2.2
  refine zx_iload_n dX7_equal_0 rfl rfl ?_
  refine zx_if_lt (tgt := 25) dX7_equal_1 (by decide) (fun c_1 => ?_) (fun c_1 => ?_)
  · skip
    refine zx_iconst 0 dX7_equal_25 (by decide) ?_
    exact zx_zreturn rfl (by decide +kernel) (by simp [zKa, t_equal, hI, c_1]) (by rfl) dX7_equal_26
  · skip
    refine zx_iload_n dX7_equal_4 rfl rfl ?_
    refine zx_aload_n dX7_equal_5 rfl rfl ?_
    refine zx_getI zf_X7_168 (by assumption) (Or.inl rfl) dX7_equal_6 ?_
    rw [hI]
    refine zx_icmp_ge (tgt := 25) dX7_equal_9 (by decide) (fun c_9 => ?_) (fun c_9 => ?_)
    · skip
      refine zx_iconst 0 dX7_equal_25 (by decide) ?_
      exact zx_zreturn rfl (by decide +kernel) (by simp [zKa, t_equal, hI, c_1, c_9]) (by rfl) dX7_equal_26
    · skip
      obtain ⟨i, hi, rfl⟩ := zix c_1 c_9 (by omega)
      refine zx_aload_n dX7_equal_12 rfl rfl ?_
      refine zx_getR zf_X7_73 (by assumption) (show _ = some 31 from hL.1 30 (by decide)) rfl dX7_equal_13 ?_
      refine zx_iload_n dX7_equal_16 rfl rfl ?_
      refine zx_zald (i) (by assumption) rfl ⟨by rw [hl31]; omega, by rw [hl31]; decide⟩ dX7_equal_17 ?_
      refine zx_if_eq (tgt := 25) dX7_equal_18 (by decide) (fun c_18 => ?_) (fun c_18 => ?_)
      · skip
        refine zx_iconst 0 dX7_equal_25 (by decide) ?_
        exact zx_zreturn rfl (by decide +kernel) (by simp [zKa, t_equal, hI, c_1, c_9, c_18, nI_clamp (show i < 2 ^ 31 by omega)]) (by rfl) dX7_equal_26
      · skip
        refine zx_iconst 1 dX7_equal_21 (by decide) ?_
        refine zx_goto (tgt := 26) dX7_equal_22 (by decide) ?_
        exact zx_zreturn rfl (by decide +kernel) (by simp [zKa, t_equal, hI, c_1, c_9, c_18, nI_clamp (show i < 2 ^ 31 by omega)]) (by rfl) dX7_equal_26

