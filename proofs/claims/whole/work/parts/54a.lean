def t_border (x y : Int32) (a b : UInt64) : Int32 := if x < 0 then 0 else if 3 < x then 0 else if y < 0 then 0 else if 7 < y then 0 else if s_inside a 0 k20 = 0 then 0 else if s_inside b 0 k1 = 0 then 0 else 1
def q_bord1 (μ : ZMem) (e : Nat) (a b : UInt64) : ZMem := zsD (zsD (zsI μ 23 e 1) 24 e a) 25 e b
def q_border (μ : ZMem) (x y : Int32) (a b : UInt64) : ZMem := if t_border x y a b = 0 then μ else q_bord1 μ (8 * x.toNatClampNeg + y.toNatClampNeg) a b
def t_wind (x : Int32) (a b : UInt64) : Int32 := if x < 0 then 0 else if 23 < x then 0 else if s_inside a km100 k100 = 0 then 0 else if s_inside b km100 k100 = 0 then 0 else 1
def q_wind (μ : ZMem) (x : Int32) (a b : UInt64) : ZMem := if t_wind x a b = 0 then μ else zsD (zsD μ 26 x.toNatClampNeg a) 27 x.toNatClampNeg b
def t_river (μ : ZMem) (w h : Nat) (x y : Int32) (a : UInt64) : Int32 := if t_isWater μ w h x y = 0 then 0 else if s_inside a 0 k1000 = 0 then 0 else 1
def q_river (μ : ZMem) (w h : Nat) (x y : Int32) (a : UInt64) : ZMem := if t_river μ w h x y a = 0 then μ else zsD μ 6 (12 * y.toNatClampNeg + x.toNatClampNeg) a
set_option maxHeartbeats 4000000 in
set_option maxRecDepth 100000 in
theorem m_X7_border {g : ZG} {μ : ZMem} {w h : Nat} {ly : Int32} (hG : zGM g) (hL : zLM w h ly μ) {x y : Int32} {a b : UInt64} : zCab g RX7 yX7_border cX7_border 7 ((some FieldType.boolean)) (zrm 1) [zr (some 0), zi x, zi y, zd a, zd b] μ (some (zi (t_border x y a b))) (q_border μ x y a b) := by
  refine zCab_w (by decide +kernel) rfl (Nat.le_of_ble_eq_true rfl) ?_
  have hO0 : zO g 7 0 := hG.o 0 (by decide)
  have hO23 : zO g 11 23 := hG.o 23 (by decide)
  have hl23 : zln g 23 = 32 := hG.l 23 (by decide)
  have hO24 : zO g 8 24 := hG.o 24 (by decide)
  have hl24 : zln g 24 = 32 := hG.l 24 (by decide)
  have hO25 : zO g 8 25 := hG.o 25 (by decide)
  have hl25 : zln g 25 = 32 := hG.l 25 (by decide)
  have hw0 : zI μ 0 0 = nI w := hL.2.1
  have hh0 : zI μ 0 1 = nI h := hL.2.2.1
  have hy0 : zI μ 0 2 = ly := hL.2.2.2.1
  obtain ⟨hb1, hb2, hb3, hb4⟩ := hL.2.2.2.2
  refine zx_iload_n dX7_border_0 rfl rfl ?_
  refine zx_if_lt (tgt := 40) dX7_border_1 (by decide) (fun c_1 => ?_) (fun c_1 => ?_)
  · skip
    refine zx_iconst 0 dX7_border_40 (by decide) ?_
    exact zx_zreturn rfl (by decide +kernel) (by simp [zKa, t_border, c_1]) (by simp [zKm, q_border, t_border, c_1]) dX7_border_41
  · skip
    refine zx_iload_n dX7_border_4 rfl rfl ?_
    refine zx_iconst 3 dX7_border_5 (by decide) ?_
    refine zx_icmp_gt (tgt := 40) dX7_border_6 (by decide) (fun c_6 => ?_) (fun c_6 => ?_)
    · skip
      refine zx_iconst 0 dX7_border_40 (by decide) ?_
      exact zx_zreturn rfl (by decide +kernel) (by simp [zKa, t_border, c_1, c_6]) (by simp [zKm, q_border, t_border, c_1, c_6]) dX7_border_41
    · skip
      refine zx_iload_n dX7_border_9 rfl rfl ?_
      refine zx_if_lt (tgt := 40) dX7_border_10 (by decide) (fun c_10 => ?_) (fun c_10 => ?_)
      · skip
        refine zx_iconst 0 dX7_border_40 (by decide) ?_
        exact zx_zreturn rfl (by decide +kernel) (by simp [zKa, t_border, c_1, c_6, c_10]) (by simp [zKm, q_border, t_border, c_1, c_6, c_10]) dX7_border_41
      · skip
        refine zx_iload_n dX7_border_13 rfl rfl ?_
        refine zx_bipush 7 dX7_border_14 (by decide) ?_
        refine zx_icmp_gt (tgt := 40) dX7_border_16 (by decide) (fun c_16 => ?_) (fun c_16 => ?_)
        · skip
          refine zx_iconst 0 dX7_border_40 (by decide) ?_
          exact zx_zreturn rfl (by decide +kernel) (by simp [zKa, t_border, c_1, c_6, c_10, c_16]) (by simp [zKm, q_border, t_border, c_1, c_6, c_10, c_16]) dX7_border_41
        · skip
          refine zx_dload_n dX7_border_19 rfl rfl ?_
          refine zx_dconst0 dX7_border_20 ?_
          refine zx_ldc2d 4626322717216342016 zk_X7_174 (by decide +kernel) dX7_border_21 ?_
          refine zx_callS1 _ zs_X7_152 m_X7_isIn rfl rfl ⟨rfl, rfl, (Nat.le_of_ble_eq_true rfl), (Nat.le_of_ble_eq_true rfl)⟩ (Nat.le_of_ble_eq_true rfl) dX7_border_24 ?_
          refine zx_if_eq (tgt := 40) dX7_border_27 (by decide) (fun c_27 => ?_) (fun c_27 => ?_)
          · skip
            refine zx_iconst 0 dX7_border_40 (by decide) ?_
            exact zx_zreturn rfl (by decide +kernel) (by simp [zKa, t_border, c_1, c_6, c_10, c_16, c_27]) (by simp [zKm, q_border, t_border, c_1, c_6, c_10, c_16, c_27]) dX7_border_41
          · skip
            refine zx_dload dX7_border_30 rfl ?_
            refine zx_dconst0 dX7_border_32 ?_
            refine zx_dconst1 dX7_border_33 ?_
            refine zx_callS1 _ zs_X7_152 m_X7_isIn rfl rfl ⟨rfl, rfl, (Nat.le_of_ble_eq_true rfl), (Nat.le_of_ble_eq_true rfl)⟩ (Nat.le_of_ble_eq_true rfl) dX7_border_34 ?_
            refine zx_if_ne (tgt := 42) dX7_border_37 (by decide) (fun c_37 => ?_) (fun c_37 => ?_)
            · skip
              obtain ⟨s, hs, rfl⟩ := nI_of2 (M := 3) (n := 3) (by decide) c_1 (Int32.not_lt.mp c_6)
              obtain ⟨k, hk, rfl⟩ := nI_of2 (M := 7) (n := 7) (by decide) c_10 (Int32.not_lt.mp c_16)
              refine zx_aload_n dX7_border_42 rfl rfl ?_
              refine zx_getR zf_X7_51 (by assumption) (show _ = some 23 from hL.1 22 (by decide)) rfl dX7_border_43 ?_
              refine zx_bipush 8 dX7_border_46 (by decide) ?_
              refine zx_iload_n dX7_border_48 rfl rfl ?_
              refine zx_imul dX7_border_49 ?_
              refine zx_iload_n dX7_border_50 rfl rfl ?_
              refine zx_iadd dX7_border_51 ?_
              refine zx_iconst 1 dX7_border_52 (by decide) ?_
              refine zx_zast (8 * s + k) (by decide +kernel) (by assumption) (zat8 s k) ⟨by rw [hl23]; omega, by rw [hl23]; decide⟩ dX7_border_53 ?_
              refine zx_aload_n dX7_border_54 rfl rfl ?_
              refine zx_getR zf_X7_54 (by assumption) (show _ = some 24 from hL.1 23 (by decide)) rfl dX7_border_55 ?_
              refine zx_bipush 8 dX7_border_58 (by decide) ?_
              refine zx_iload_n dX7_border_60 rfl rfl ?_
              refine zx_imul dX7_border_61 ?_
              refine zx_iload_n dX7_border_62 rfl rfl ?_
              refine zx_iadd dX7_border_63 ?_
              refine zx_dload_n dX7_border_64 rfl rfl ?_
              refine zx_dast (8 * s + k) (by assumption) (zat8 s k) ⟨by rw [hl24]; omega, by rw [hl24]; decide⟩ dX7_border_65 ?_
              refine zx_aload_n dX7_border_66 rfl rfl ?_
              refine zx_getR zf_X7_57 (by assumption) (show _ = some 25 from hL.1 24 (by decide)) rfl dX7_border_67 ?_
              refine zx_bipush 8 dX7_border_70 (by decide) ?_
              refine zx_iload_n dX7_border_72 rfl rfl ?_
              refine zx_imul dX7_border_73 ?_
              refine zx_iload_n dX7_border_74 rfl rfl ?_
              refine zx_iadd dX7_border_75 ?_
              refine zx_dload dX7_border_76 rfl ?_
              refine zx_dast (8 * s + k) (by assumption) (zat8 s k) ⟨by rw [hl25]; omega, by rw [hl25]; decide⟩ dX7_border_78 ?_
              refine zx_iconst 1 dX7_border_79 (by decide) ?_
              exact zx_zreturn rfl (by decide +kernel) (by show some (zi (t_border (nI s) (nI k) a b)) = _; unfold t_border; rw [if_neg c_1, if_neg c_6, if_neg c_10, if_neg c_16, if_neg c_27, if_neg c_37]) (by show q_border μ (nI s) (nI k) a b = _; unfold q_border; rw [if_neg (by unfold t_border; rw [if_neg c_1, if_neg c_6, if_neg c_10, if_neg c_16, if_neg c_27, if_neg c_37]; decide), nI_clamp (show s < 2 ^ 31 by omega), nI_clamp (show k < 2 ^ 31 by omega)]; rfl) dX7_border_80
            · skip
              refine zx_iconst 0 dX7_border_40 (by decide) ?_
              exact zx_zreturn rfl (by decide +kernel) (by simp [zKa, t_border, c_1, c_6, c_10, c_16, c_27, c_37]) (by simp [zKm, q_border, t_border, c_1, c_6, c_10, c_16, c_27, c_37]) dX7_border_41

set_option maxHeartbeats 4000000 in
set_option maxRecDepth 100000 in
theorem m_X7_wind {g : ZG} {μ : ZMem} {w h : Nat} {ly : Int32} (hG : zGM g) (hL : zLM w h ly μ) {x : Int32} {a b : UInt64} : zCab g RX7 yX7_wind cX7_wind 6 ((some FieldType.boolean)) (zrm 1) [zr (some 0), zi x, zd a, zd b] μ (some (zi (t_wind x a b))) (q_wind μ x a b) := by
  refine zCab_w (by decide +kernel) rfl (Nat.le_of_ble_eq_true rfl) ?_
  have hO0 : zO g 7 0 := hG.o 0 (by decide)
  have hO26 : zO g 8 26 := hG.o 26 (by decide)
  have hl26 : zln g 26 = 24 := hG.l 26 (by decide)
  have hO27 : zO g 8 27 := hG.o 27 (by decide)
  have hl27 : zln g 27 = 24 := hG.l 27 (by decide)
  have hw0 : zI μ 0 0 = nI w := hL.2.1
  have hh0 : zI μ 0 1 = nI h := hL.2.2.1
  have hy0 : zI μ 0 2 = ly := hL.2.2.2.1
  obtain ⟨hb1, hb2, hb3, hb4⟩ := hL.2.2.2.2
  refine zx_iload_n dX7_wind_0 rfl rfl ?_
  refine zx_if_lt (tgt := 37) dX7_wind_1 (by decide) (fun c_1 => ?_) (fun c_1 => ?_)
  · skip
    refine zx_iconst 0 dX7_wind_37 (by decide) ?_
    exact zx_zreturn rfl (by decide +kernel) (by simp [zKa, t_wind, c_1]) (by simp [zKm, q_wind, t_wind, c_1]) dX7_wind_38
  · skip
    refine zx_iload_n dX7_wind_4 rfl rfl ?_
    refine zx_bipush 23 dX7_wind_5 (by decide) ?_
    refine zx_icmp_gt (tgt := 37) dX7_wind_7 (by decide) (fun c_7 => ?_) (fun c_7 => ?_)
    · skip
      refine zx_iconst 0 dX7_wind_37 (by decide) ?_
      exact zx_zreturn rfl (by decide +kernel) (by simp [zKa, t_wind, c_1, c_7]) (by simp [zKm, q_wind, t_wind, c_1, c_7]) dX7_wind_38
    · skip
      refine zx_dload_n dX7_wind_10 rfl rfl ?_
      refine zx_ldc2d 13860109328209412096 zk_X7_176 (by decide +kernel) dX7_wind_11 ?_
      refine zx_ldc2d 4636737291354636288 zk_X7_178 (by decide +kernel) dX7_wind_14 ?_
      refine zx_callS1 _ zs_X7_152 m_X7_isIn rfl rfl ⟨rfl, rfl, (Nat.le_of_ble_eq_true rfl), (Nat.le_of_ble_eq_true rfl)⟩ (Nat.le_of_ble_eq_true rfl) dX7_wind_17 ?_
      refine zx_if_eq (tgt := 37) dX7_wind_20 (by decide) (fun c_20 => ?_) (fun c_20 => ?_)
      · skip
        refine zx_iconst 0 dX7_wind_37 (by decide) ?_
        exact zx_zreturn rfl (by decide +kernel) (by simp [zKa, t_wind, c_1, c_7, c_20]) (by simp [zKm, q_wind, t_wind, c_1, c_7, c_20]) dX7_wind_38
      · skip
        refine zx_dload dX7_wind_23 rfl ?_
        refine zx_ldc2d 13860109328209412096 zk_X7_176 (by decide +kernel) dX7_wind_25 ?_
        refine zx_ldc2d 4636737291354636288 zk_X7_178 (by decide +kernel) dX7_wind_28 ?_
        refine zx_callS1 _ zs_X7_152 m_X7_isIn rfl rfl ⟨rfl, rfl, (Nat.le_of_ble_eq_true rfl), (Nat.le_of_ble_eq_true rfl)⟩ (Nat.le_of_ble_eq_true rfl) dX7_wind_31 ?_
        refine zx_if_ne (tgt := 39) dX7_wind_34 (by decide) (fun c_34 => ?_) (fun c_34 => ?_)
        · skip
          obtain ⟨s, hs, rfl⟩ := nI_of2 (M := 23) (n := 23) (by decide) c_1 (Int32.not_lt.mp c_7)
          refine zx_aload_n dX7_wind_39 rfl rfl ?_
          refine zx_getR zf_X7_60 (by assumption) (show _ = some 26 from hL.1 25 (by decide)) rfl dX7_wind_40 ?_
          refine zx_iload_n dX7_wind_43 rfl rfl ?_
          refine zx_dload_n dX7_wind_44 rfl rfl ?_
          refine zx_dast (s) (by assumption) rfl ⟨by rw [hl26]; omega, by rw [hl26]; decide⟩ dX7_wind_45 ?_
          refine zx_aload_n dX7_wind_46 rfl rfl ?_
          refine zx_getR zf_X7_63 (by assumption) (show _ = some 27 from hL.1 26 (by decide)) rfl dX7_wind_47 ?_
          refine zx_iload_n dX7_wind_50 rfl rfl ?_
          refine zx_dload dX7_wind_51 rfl ?_
          refine zx_dast (s) (by assumption) rfl ⟨by rw [hl27]; omega, by rw [hl27]; decide⟩ dX7_wind_53 ?_
          refine zx_iconst 1 dX7_wind_54 (by decide) ?_
          exact zx_zreturn rfl (by decide +kernel) (by show some (zi (t_wind (nI s) a b)) = _; unfold t_wind; rw [if_neg c_1, if_neg c_7, if_neg c_20, if_neg c_34]) (by show q_wind μ (nI s) a b = _; unfold q_wind; rw [if_neg (by unfold t_wind; rw [if_neg c_1, if_neg c_7, if_neg c_20, if_neg c_34]; decide), nI_clamp (show s < 2 ^ 31 by omega)]) dX7_wind_55
        · skip
          refine zx_iconst 0 dX7_wind_37 (by decide) ?_
          exact zx_zreturn rfl (by decide +kernel) (by simp [zKa, t_wind, c_1, c_7, c_20, c_34]) (by simp [zKm, q_wind, t_wind, c_1, c_7, c_20, c_34]) dX7_wind_38

set_option maxHeartbeats 4000000 in
set_option maxRecDepth 100000 in
theorem m_X7_river {g : ZG} {μ : ZMem} {w h : Nat} {ly : Int32} (hG : zGM g) (hL : zLM w h ly μ) {x y : Int32} {a : UInt64} : zCab g RX7 yX7_river cX7_river 5 ((some FieldType.boolean)) (zrm 2) [zr (some 0), zi x, zi y, zd a] μ (some (zi (t_river μ w h x y a))) (q_river μ w h x y a) := by
  refine zCab_w (by decide +kernel) rfl (Nat.le_of_ble_eq_true rfl) ?_
  have hO0 : zO g 7 0 := hG.o 0 (by decide)
  have hO6 : zO g 8 6 := hG.o 6 (by decide)
  have hl6 : zln g 6 = 144 := hG.l 6 (by decide)
  have hw0 : zI μ 0 0 = nI w := hL.2.1
  have hh0 : zI μ 0 1 = nI h := hL.2.2.1
  have hy0 : zI μ 0 2 = ly := hL.2.2.2.1
  obtain ⟨hb1, hb2, hb3, hb4⟩ := hL.2.2.2.2
  refine zx_aload_n dX7_river_0 rfl rfl ?_
  refine zx_iload_n dX7_river_1 rfl rfl ?_
  refine zx_iload_n dX7_river_2 rfl rfl ?_
  refine zx_callV1 _ zv_X7_139 (m_X7_isWater hG hL) (by assumption) (by decide) rfl rfl rfl ⟨rfl, rfl, (Nat.le_of_ble_eq_true rfl), (Nat.le_of_ble_eq_true rfl)⟩ (Nat.le_of_ble_eq_true rfl) dX7_river_3 ?_
  refine zx_if_eq (tgt := 20) dX7_river_6 (by decide) (fun c_6 => ?_) (fun c_6 => ?_)
  · skip
    refine zx_iconst 0 dX7_river_20 (by decide) ?_
    exact zx_zreturn rfl (by decide +kernel) (by simp [zKa, t_river, c_6]) (by simp [zKm, q_river, t_river, c_6]) dX7_river_21
  · skip
    refine zx_dload_n dX7_river_9 rfl rfl ?_
    refine zx_dconst0 dX7_river_10 ?_
    refine zx_ldc2d 4652007308841189376 zk_X7_150 (by decide +kernel) dX7_river_11 ?_
    refine zx_callS1 _ zs_X7_152 m_X7_isIn rfl rfl ⟨rfl, rfl, (Nat.le_of_ble_eq_true rfl), (Nat.le_of_ble_eq_true rfl)⟩ (Nat.le_of_ble_eq_true rfl) dX7_river_14 ?_
    refine zx_if_ne (tgt := 22) dX7_river_17 (by decide) (fun c_17 => ?_) (fun c_17 => ?_)
    · skip
      obtain ⟨i, j, hi, hj, rfl, rfl⟩ := t_isWater_in hb2 hb4 c_6
      refine zx_aload_n dX7_river_22 rfl rfl ?_
      refine zx_getR zf_X7_17 (by assumption) (show _ = some 6 from hL.1 5 (by decide)) rfl dX7_river_23 ?_
      refine zx_iload_n dX7_river_26 rfl rfl ?_
      refine zx_iload_n dX7_river_27 rfl rfl ?_
      refine zx_callS1 _ zs_X7_135 m_X7_at rfl rfl ⟨rfl, rfl, (Nat.le_of_ble_eq_true rfl), (Nat.le_of_ble_eq_true rfl)⟩ (Nat.le_of_ble_eq_true rfl) dX7_river_28 ?_
      refine zx_dload_n dX7_river_31 rfl rfl ?_
      refine zx_dast (12 * j + i) (by assumption) (zat i j) ⟨by rw [hl6]; omega, by rw [hl6]; decide⟩ dX7_river_32 ?_
      refine zx_iconst 1 dX7_river_33 (by decide) ?_
      exact zx_zreturn rfl (by decide +kernel) (by show some (zi (t_river μ w h (nI i) (nI j) a)) = _; unfold t_river; rw [if_neg c_6, if_neg c_17]) (by show q_river μ w h (nI i) (nI j) a = _; unfold q_river; rw [if_neg (by unfold t_river; rw [if_neg c_6, if_neg c_17]; decide), nI_clamp (show i < 2 ^ 31 by omega), nI_clamp (show j < 2 ^ 31 by omega)]) dX7_river_34
    · skip
      refine zx_iconst 0 dX7_river_20 (by decide) ?_
      exact zx_zreturn rfl (by decide +kernel) (by simp [zKa, t_river, c_6, c_17]) (by simp [zKm, q_river, t_river, c_6, c_17]) dX7_river_21

