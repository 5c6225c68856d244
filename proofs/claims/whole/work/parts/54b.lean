def t_nest (μ : ZMem) (w h T : Nat) (x y z : Int32) : Int32 := if t_isWater μ w h x y = 0 then -1 else if ¬ zI μ 30 (12 * y.toNatClampNeg + x.toNatClampNeg) = 0 then -1 else if z < 2 then -1 else if 8 < z then -1 else if T = 10 then -1 else nI T
def q_nest1 (μ : ZMem) (T c : Nat) : ZMem := (fun m : ZMem => zsI m 0 40 (zI m 0 40 + 1)) (zsI (zsI (zsI (zsI μ 29 T (nI c)) 31 T 1) 30 c 1) 0 27 (nI (T + 1)))
def q_nest (μ : ZMem) (w h T : Nat) (x y z : Int32) : ZMem := if t_nest μ w h T x y z = -1 then μ else q_nest1 μ T (12 * y.toNatClampNeg + x.toNatClampNeg)
set_option maxHeartbeats 4000000 in
set_option maxRecDepth 100000 in
theorem m_X7_nest {g : ZG} {μ : ZMem} {w h : Nat} {ly : Int32} (hG : zGM g) (hL : zLM w h ly μ) {T : Nat} (hI : zI μ 0 27 = nI T) {x y z : Int32} (hT : T < 10) : zCab g RX7 yX7_nest cX7_nest 4 ((some FieldType.int)) (zrm 2) [zr (some 0), zi x, zi y, zi z] μ (some (zi (t_nest μ w h T x y z))) (q_nest μ w h T x y z) := by
  refine zCab_w (by decide +kernel) rfl (Nat.le_of_ble_eq_true rfl) ?_
  have hO0 : zO g 7 0 := hG.o 0 (by decide)
  have hO29 : zO g 9 29 := hG.o 29 (by decide)
  have hl29 : zln g 29 = 10 := hG.l 29 (by decide)
  have hO30 : zO g 11 30 := hG.o 30 (by decide)
  have hl30 : zln g 30 = 144 := hG.l 30 (by decide)
  have hO31 : zO g 11 31 := hG.o 31 (by decide)
  have hl31 : zln g 31 = 10 := hG.l 31 (by decide)
  have hw0 : zI μ 0 0 = nI w := hL.2.1
  have hh0 : zI μ 0 1 = nI h := hL.2.2.1
  have hy0 : zI μ 0 2 = ly := hL.2.2.2.1
  obtain ⟨hb1, hb2, hb3, hb4⟩ := hL.2.2.2.2
  refine zx_aload_n dX7_nest_0 rfl rfl ?_
  refine zx_iload_n dX7_nest_1 rfl rfl ?_
  refine zx_iload_n dX7_nest_2 rfl rfl ?_
  refine zx_callV1 _ zv_X7_139 (m_X7_isWater hG hL) (by assumption) (by decide) rfl rfl rfl ⟨rfl, rfl, (Nat.le_of_ble_eq_true rfl), (Nat.le_of_ble_eq_true rfl)⟩ (Nat.le_of_ble_eq_true rfl) dX7_nest_3 ?_
  refine zx_if_eq (tgt := 42) dX7_nest_6 (by decide) (fun c_6 => ?_) (fun c_6 => ?_)
  · skip
    refine zx_iconst (-1) dX7_nest_42 (by decide) ?_
    exact zx_ireturn rfl (by simp [zKa, t_nest, c_6]) (by simp [zKm, q_nest, t_nest, c_6]) dX7_nest_43
  · skip
    obtain ⟨i, j, hi, hj, rfl, rfl⟩ := t_isWater_in hb2 hb4 c_6
    refine zx_aload_n dX7_nest_9 rfl rfl ?_
    refine zx_getR zf_X7_70 (by assumption) (show _ = some 30 from hL.1 29 (by decide)) rfl dX7_nest_10 ?_
    refine zx_iload_n dX7_nest_13 rfl rfl ?_
    refine zx_iload_n dX7_nest_14 rfl rfl ?_
    refine zx_callS1 _ zs_X7_135 m_X7_at rfl rfl ⟨rfl, rfl, (Nat.le_of_ble_eq_true rfl), (Nat.le_of_ble_eq_true rfl)⟩ (Nat.le_of_ble_eq_true rfl) dX7_nest_15 ?_
    refine zx_zald (12 * j + i) (by assumption) (zat i j) ⟨by rw [hl30]; omega, by rw [hl30]; decide⟩ dX7_nest_18 ?_
    refine zx_if_ne (tgt := 42) dX7_nest_19 (by decide) (fun c_19 => ?_) (fun c_19 => ?_)
    · skip
      refine zx_iconst (-1) dX7_nest_42 (by decide) ?_
      exact zx_ireturn rfl (by simp [zKa, t_nest, c_6, c_19, nI_clamp (show i < 2 ^ 31 by omega), nI_clamp (show j < 2 ^ 31 by omega)]) (by simp [zKm, q_nest, t_nest, c_6, c_19, nI_clamp (show i < 2 ^ 31 by omega), nI_clamp (show j < 2 ^ 31 by omega)]) dX7_nest_43
    · skip
      refine zx_iload_n dX7_nest_22 rfl rfl ?_
      refine zx_iconst 2 dX7_nest_23 (by decide) ?_
      refine zx_icmp_lt (tgt := 42) dX7_nest_24 (by decide) (fun c_24 => ?_) (fun c_24 => ?_)
      · skip
        refine zx_iconst (-1) dX7_nest_42 (by decide) ?_
        exact zx_ireturn rfl (by simp [zKa, t_nest, c_6, c_19, c_24, nI_clamp (show i < 2 ^ 31 by omega), nI_clamp (show j < 2 ^ 31 by omega)]) (by simp [zKm, q_nest, t_nest, c_6, c_19, c_24, nI_clamp (show i < 2 ^ 31 by omega), nI_clamp (show j < 2 ^ 31 by omega)]) dX7_nest_43
      · skip
        refine zx_iload_n dX7_nest_27 rfl rfl ?_
        refine zx_bipush 8 dX7_nest_28 (by decide) ?_
        refine zx_icmp_gt (tgt := 42) dX7_nest_30 (by decide) (fun c_30 => ?_) (fun c_30 => ?_)
        · skip
          refine zx_iconst (-1) dX7_nest_42 (by decide) ?_
          exact zx_ireturn rfl (by simp [zKa, t_nest, c_6, c_19, c_24, c_30, nI_clamp (show i < 2 ^ 31 by omega), nI_clamp (show j < 2 ^ 31 by omega)]) (by simp [zKm, q_nest, t_nest, c_6, c_19, c_24, c_30, nI_clamp (show i < 2 ^ 31 by omega), nI_clamp (show j < 2 ^ 31 by omega)]) dX7_nest_43
        · skip
          refine zx_aload_n dX7_nest_33 rfl rfl ?_
          refine zx_getI zf_X7_168 (by assumption) (Or.inl rfl) dX7_nest_34 ?_
          rw [hI]
          refine zx_bipush 10 dX7_nest_37 (by decide) ?_
          refine zx_icmp_ne (tgt := 44) dX7_nest_39 (by decide) (fun _ => ?_) (fun h_ => absurd h_ (fun q => by have := (nI_eq (show T < 2 ^ 31 by omega) (show 10 < 2 ^ 31 by omega)).mp q; omega))
          refine zx_aload_n dX7_nest_44 rfl rfl ?_
          refine zx_getR zf_X7_66 (by assumption) (show _ = some 29 from hL.1 28 (by decide)) rfl dX7_nest_45 ?_
          refine zx_aload_n dX7_nest_48 rfl rfl ?_
          refine zx_getI zf_X7_168 (by assumption) (Or.inl rfl) dX7_nest_49 ?_
          rw [hI]
          refine zx_iload_n dX7_nest_52 rfl rfl ?_
          refine zx_iload_n dX7_nest_53 rfl rfl ?_
          refine zx_callS1 _ zs_X7_135 m_X7_at rfl rfl ⟨rfl, rfl, (Nat.le_of_ble_eq_true rfl), (Nat.le_of_ble_eq_true rfl)⟩ (Nat.le_of_ble_eq_true rfl) dX7_nest_54 ?_
          rw [zat]
          refine zx_iast T (by assumption) rfl ⟨by rw [hl29]; omega, by rw [hl29]; decide⟩ dX7_nest_57 ?_
          refine zx_aload_n dX7_nest_58 rfl rfl ?_
          refine zx_getR zf_X7_73 (by assumption) (show _ = some 31 from hL.1 30 (by decide)) rfl dX7_nest_59 ?_
          refine zx_aload_n dX7_nest_62 rfl rfl ?_
          refine zx_getI zf_X7_168 (by assumption) (Or.inl rfl) dX7_nest_63 ?_
          rw [show zI (zsI μ 29 T (nI (12 * j + i))) 0 27 = nI T from hI]
          refine zx_iconst 1 dX7_nest_66 (by decide) ?_
          refine zx_zast T (by decide +kernel) (by assumption) rfl ⟨by rw [hl31]; omega, by rw [hl31]; decide⟩ dX7_nest_67 ?_
          refine zx_aload_n dX7_nest_68 rfl rfl ?_
          refine zx_getR zf_X7_70 (by assumption) (show _ = some 30 from hL.1 29 (by decide)) rfl dX7_nest_69 ?_
          refine zx_iload_n dX7_nest_72 rfl rfl ?_
          refine zx_iload_n dX7_nest_73 rfl rfl ?_
          refine zx_callS1 _ zs_X7_135 m_X7_at rfl rfl ⟨rfl, rfl, (Nat.le_of_ble_eq_true rfl), (Nat.le_of_ble_eq_true rfl)⟩ (Nat.le_of_ble_eq_true rfl) dX7_nest_74 ?_
          refine zx_iconst 1 dX7_nest_77 (by decide) ?_
          refine zx_zast (12 * j + i) (by decide +kernel) (by assumption) (zat i j) ⟨by rw [hl30]; omega, by rw [hl30]; decide⟩ dX7_nest_78 ?_
          refine zx_aload_n dX7_nest_79 rfl rfl ?_
          refine zx_dup dX7_nest_80 rfl ?_
          refine zx_getI zf_X7_168 (by assumption) (Or.inl rfl) dX7_nest_81 ?_
          rw [show zI (zsI (zsI (zsI μ 29 T (nI (12 * j + i))) 31 T 1) 30 (12 * j + i) 1) 0 27 = nI T from hI]
          refine zx_iconst 1 dX7_nest_84 (by decide) ?_
          refine zx_iadd dX7_nest_85 ?_
          rw [nI_1]
          refine zx_putI zf_X7_168 (by assumption) ⟨rfl, rfl⟩ (Or.inl rfl) dX7_nest_86 ?_
          refine zx_aload_n dX7_nest_89 rfl rfl ?_
          refine zx_dup dX7_nest_90 rfl ?_
          refine zx_getI zf_X7_171 (by assumption) (Or.inl rfl) dX7_nest_91 ?_
          refine zx_iconst 1 dX7_nest_94 (by decide) ?_
          refine zx_iadd dX7_nest_95 ?_
          refine zx_putI zf_X7_171 (by assumption) ⟨rfl, rfl⟩ (Or.inl rfl) dX7_nest_96 ?_
          refine zx_aload_n dX7_nest_99 rfl rfl ?_
          refine zx_getI zf_X7_168 (by assumption) (Or.inl rfl) dX7_nest_100 ?_
          rw [show zI (zsI (zsI (zsI (zsI (zsI μ 29 T (nI (12 * j + i))) 31 T 1) 30 (12 * j + i) 1) 0 27 (nI (T + 1))) 0 40 (zI (zsI (zsI (zsI (zsI μ 29 T (nI (12 * j + i))) 31 T 1) 30 (12 * j + i) 1) 0 27 (nI (T + 1))) 0 40 + 1)) 0 27 = nI (T + 1) by rw [zI_sI, if_neg (by omega), zI_sI, if_pos ⟨rfl, rfl⟩]]
          refine zx_iconst 1 dX7_nest_103 (by decide) ?_
          refine zx_isub dX7_nest_104 ?_
          exact zx_ireturn rfl (by show some (zi (t_nest μ w h T (nI i) (nI j) z)) = _; unfold t_nest; rw [if_neg c_6, nI_clamp (by omega), nI_clamp (by omega), if_neg (fun q => q c_19), if_neg c_24, if_neg c_30, if_neg (by omega), nI_pred]) (by show q_nest μ w h T (nI i) (nI j) z = _; unfold q_nest; rw [if_neg (by unfold t_nest; rw [if_neg c_6, nI_clamp (by omega), nI_clamp (by omega), if_neg (fun q => q c_19), if_neg c_24, if_neg c_30, if_neg (by omega)]; exact nI_ne1 (by omega)), nI_clamp (by omega), nI_clamp (by omega)]; rfl) dX7_nest_105

set_option maxHeartbeats 4000000 in
set_option maxRecDepth 100000 in
theorem m_X7_nest_full {g : ZG} {μ : ZMem} {w h : Nat} {ly : Int32} (hG : zGM g) (hL : zLM w h ly μ) {T : Nat} (hI : zI μ 0 27 = nI T) {x y z : Int32} (hT : T = 10) : zCab g RX7 yX7_nest cX7_nest 4 ((some FieldType.int)) (zrm 2) [zr (some 0), zi x, zi y, zi z] μ (some (zi (t_nest μ w h T x y z))) (q_nest μ w h T x y z) := by
  refine zCab_w (by decide +kernel) rfl (Nat.le_of_ble_eq_true rfl) ?_
  have hO0 : zO g 7 0 := hG.o 0 (by decide)
  have hO29 : zO g 9 29 := hG.o 29 (by decide)
  have hl29 : zln g 29 = 10 := hG.l 29 (by decide)
  have hO30 : zO g 11 30 := hG.o 30 (by decide)
  have hl30 : zln g 30 = 144 := hG.l 30 (by decide)
  have hO31 : zO g 11 31 := hG.o 31 (by decide)
  have hl31 : zln g 31 = 10 := hG.l 31 (by decide)
  have hw0 : zI μ 0 0 = nI w := hL.2.1
  have hh0 : zI μ 0 1 = nI h := hL.2.2.1
  have hy0 : zI μ 0 2 = ly := hL.2.2.2.1
  obtain ⟨hb1, hb2, hb3, hb4⟩ := hL.2.2.2.2
  refine zx_aload_n dX7_nest_0 rfl rfl ?_
  refine zx_iload_n dX7_nest_1 rfl rfl ?_
  refine zx_iload_n dX7_nest_2 rfl rfl ?_
  refine zx_callV1 _ zv_X7_139 (m_X7_isWater hG hL) (by assumption) (by decide) rfl rfl rfl ⟨rfl, rfl, (Nat.le_of_ble_eq_true rfl), (Nat.le_of_ble_eq_true rfl)⟩ (Nat.le_of_ble_eq_true rfl) dX7_nest_3 ?_
  refine zx_if_eq (tgt := 42) dX7_nest_6 (by decide) (fun c_6 => ?_) (fun c_6 => ?_)
  · skip
    refine zx_iconst (-1) dX7_nest_42 (by decide) ?_
    exact zx_ireturn rfl (by simp [zKa, t_nest, c_6, hT]) (by simp [zKm, q_nest, t_nest, c_6, hT]) dX7_nest_43
  · skip
    obtain ⟨i, j, hi, hj, rfl, rfl⟩ := t_isWater_in hb2 hb4 c_6
    refine zx_aload_n dX7_nest_9 rfl rfl ?_
    refine zx_getR zf_X7_70 (by assumption) (show _ = some 30 from hL.1 29 (by decide)) rfl dX7_nest_10 ?_
    refine zx_iload_n dX7_nest_13 rfl rfl ?_
    refine zx_iload_n dX7_nest_14 rfl rfl ?_
    refine zx_callS1 _ zs_X7_135 m_X7_at rfl rfl ⟨rfl, rfl, (Nat.le_of_ble_eq_true rfl), (Nat.le_of_ble_eq_true rfl)⟩ (Nat.le_of_ble_eq_true rfl) dX7_nest_15 ?_
    refine zx_zald (12 * j + i) (by assumption) (zat i j) ⟨by rw [hl30]; omega, by rw [hl30]; decide⟩ dX7_nest_18 ?_
    refine zx_if_ne (tgt := 42) dX7_nest_19 (by decide) (fun c_19 => ?_) (fun c_19 => ?_)
    · skip
      refine zx_iconst (-1) dX7_nest_42 (by decide) ?_
      exact zx_ireturn rfl (by simp [zKa, t_nest, c_6, c_19, hT, nI_clamp (show i < 2 ^ 31 by omega), nI_clamp (show j < 2 ^ 31 by omega)]) (by simp [zKm, q_nest, t_nest, c_6, c_19, hT, nI_clamp (show i < 2 ^ 31 by omega), nI_clamp (show j < 2 ^ 31 by omega)]) dX7_nest_43
    · skip
      refine zx_iload_n dX7_nest_22 rfl rfl ?_
      refine zx_iconst 2 dX7_nest_23 (by decide) ?_
      refine zx_icmp_lt (tgt := 42) dX7_nest_24 (by decide) (fun c_24 => ?_) (fun c_24 => ?_)
      · skip
        refine zx_iconst (-1) dX7_nest_42 (by decide) ?_
        exact zx_ireturn rfl (by simp [zKa, t_nest, c_6, c_19, c_24, hT, nI_clamp (show i < 2 ^ 31 by omega), nI_clamp (show j < 2 ^ 31 by omega)]) (by simp [zKm, q_nest, t_nest, c_6, c_19, c_24, hT, nI_clamp (show i < 2 ^ 31 by omega), nI_clamp (show j < 2 ^ 31 by omega)]) dX7_nest_43
      · skip
        refine zx_iload_n dX7_nest_27 rfl rfl ?_
        refine zx_bipush 8 dX7_nest_28 (by decide) ?_
        refine zx_icmp_gt (tgt := 42) dX7_nest_30 (by decide) (fun c_30 => ?_) (fun c_30 => ?_)
        · skip
          refine zx_iconst (-1) dX7_nest_42 (by decide) ?_
          exact zx_ireturn rfl (by simp [zKa, t_nest, c_6, c_19, c_24, c_30, hT, nI_clamp (show i < 2 ^ 31 by omega), nI_clamp (show j < 2 ^ 31 by omega)]) (by simp [zKm, q_nest, t_nest, c_6, c_19, c_24, c_30, hT, nI_clamp (show i < 2 ^ 31 by omega), nI_clamp (show j < 2 ^ 31 by omega)]) dX7_nest_43
        · skip
          refine zx_aload_n dX7_nest_33 rfl rfl ?_
          refine zx_getI zf_X7_168 (by assumption) (Or.inl rfl) dX7_nest_34 ?_
          rw [hI, hT]
          refine zx_bipush 10 dX7_nest_37 (by decide) ?_
          refine zx_icmp_ne (tgt := 44) dX7_nest_39 (by decide) (fun h_ => absurd h_ (fun q => q rfl)) (fun _ => ?_)
          refine zx_iconst (-1) dX7_nest_42 (by decide) ?_
          exact zx_ireturn rfl (by simp [zKa, t_nest, c_6, c_19, c_24, c_30, hT, nI_clamp (show i < 2 ^ 31 by omega), nI_clamp (show j < 2 ^ 31 by omega)]) (by simp [zKm, q_nest, t_nest, c_6, c_19, c_24, c_30, hT, nI_clamp (show i < 2 ^ 31 by omega), nI_clamp (show j < 2 ^ 31 by omega)]) dX7_nest_43

