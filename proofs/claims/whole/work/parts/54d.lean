def t_spf (ly z : Int32) (s : UInt64) : UInt64 := zmul s (zadd k1 (zmul k025 (FP.i2d (ly - 1 - 2 * z))))
def t_spS (μ : ZMem) (w h : Nat) (x y a : Int32) (s : Nat) : UInt64 := if ¬ t_hasFace μ w h x y a = 0 then zD μ 11 (144 * a.toNatClampNeg + (12 * y.toNatClampNeg + x.toNatClampNeg)) else if ¬ t_hasSide μ w h x y s = 0 then zD μ 11 (sfN x.toNatClampNeg y.toNatClampNeg s) else 0
def t_speed (μ : ZMem) (w h : Nat) (ly x y z a : Int32) : UInt64 := if t_isWater μ w h x y = 0 then 0 else if s_isLayer ly z = 0 then 0 else if a < 0 then 0 else if 1 < a then 0 else t_spf ly z (t_spS μ w h x y a (if a = 0 then 1 else 3))
set_option maxHeartbeats 4000000 in
set_option maxRecDepth 100000 in
theorem m_X7_speed {g : ZG} {μ : ZMem} {w h : Nat} {ly : Int32} (hG : zGM g) (hL : zLM w h ly μ) {x y z a : Int32} : zCab g RX7 yX7_speed cX7_speed 8 ((some FieldType.double)) (zrm 3) [zr (some 0), zi x, zi y, zi z, zi a] μ (some (zd (t_speed μ w h ly x y z a))) μ := by
  refine zCab_w (by decide +kernel) rfl (Nat.le_of_ble_eq_true rfl) ?_
  have hO0 : zO g 7 0 := hG.o 0 (by decide)
  have hO11 : zO g 8 11 := hG.o 11 (by decide)
  have hl11 : zln g 11 = 336 := hG.l 11 (by decide)
  have hw0 : zI μ 0 0 = nI w := hL.2.1
  have hh0 : zI μ 0 1 = nI h := hL.2.2.1
  have hy0 : zI μ 0 2 = ly := hL.2.2.2.1
  obtain ⟨hb1, hb2, hb3, hb4⟩ := hL.2.2.2.2
  refine zx_aload_n dX7_speed_0 rfl rfl ?_
  refine zx_iload_n dX7_speed_1 rfl rfl ?_
  refine zx_iload_n dX7_speed_2 rfl rfl ?_
  refine zx_callV1 _ zv_X7_139 (m_X7_isWater hG hL) (by assumption) (by decide) rfl rfl rfl ⟨rfl, rfl, (Nat.le_of_ble_eq_true rfl), (Nat.le_of_ble_eq_true rfl)⟩ (Nat.le_of_ble_eq_true rfl) dX7_speed_3 ?_
  refine zx_if_eq (tgt := 28) dX7_speed_6 (by decide) (fun c_6 => ?_) (fun c_6 => ?_)
  · skip
    refine zx_dconst0 dX7_speed_28 ?_
    exact zx_dreturn rfl (by simp [zKa, t_speed, c_6]) (by rfl) dX7_speed_29
  · skip
    refine zx_aload_n dX7_speed_9 rfl rfl ?_
    refine zx_iload_n dX7_speed_10 rfl rfl ?_
    refine zx_callV1 _ zv_X7_276 (m_X7_isLayer hG hL) (by assumption) (by decide) rfl rfl rfl ⟨rfl, rfl, (Nat.le_of_ble_eq_true rfl), (Nat.le_of_ble_eq_true rfl)⟩ (Nat.le_of_ble_eq_true rfl) dX7_speed_11 ?_
    refine zx_if_eq (tgt := 28) dX7_speed_14 (by decide) (fun c_14 => ?_) (fun c_14 => ?_)
    · skip
      refine zx_dconst0 dX7_speed_28 ?_
      exact zx_dreturn rfl (by simp [zKa, t_speed, c_6, c_14]) (by rfl) dX7_speed_29
    · skip
      refine zx_iload dX7_speed_17 rfl ?_
      refine zx_if_lt (tgt := 28) dX7_speed_19 (by decide) (fun c_19 => ?_) (fun c_19 => ?_)
      · skip
        refine zx_dconst0 dX7_speed_28 ?_
        exact zx_dreturn rfl (by simp [zKa, t_speed, c_6, c_14, c_19]) (by rfl) dX7_speed_29
      · skip
        refine zx_iload dX7_speed_22 rfl ?_
        refine zx_iconst 1 dX7_speed_24 (by decide) ?_
        refine zx_icmp_le (tgt := 30) dX7_speed_25 (by decide) (fun c_25 => ?_) (fun c_25 => ?_)
        · skip
          obtain ⟨i, j, hi, hj, rfl, rfl⟩ := t_isWater_in hb2 hb4 c_6
          obtain ⟨a, ha, rfl⟩ := nI_of2 (M := 1) (n := 1) (by decide) c_19 c_25
          refine zx_iload dX7_speed_30 rfl ?_
          refine zx_if_ne (tgt := 39) dX7_speed_32 (by decide) (fun c_32 => ?_) (fun c_32 => ?_)
          · skip
            refine zx_iconst 3 dX7_speed_39 (by decide) ?_
            refine zx_istore dX7_speed_40 (Nat.le_of_ble_eq_true rfl) ?_
            refine zx_aload_n dX7_speed_42 rfl rfl ?_
            refine zx_iload_n dX7_speed_43 rfl rfl ?_
            refine zx_iload_n dX7_speed_44 rfl rfl ?_
            refine zx_iload dX7_speed_45 rfl ?_
            refine zx_callV1 _ zv_X7_223 (m_X7_hasFace hG hL) (by assumption) (by decide) rfl rfl rfl ⟨rfl, rfl, (Nat.le_of_ble_eq_true rfl), (Nat.le_of_ble_eq_true rfl)⟩ (Nat.le_of_ble_eq_true rfl) dX7_speed_47 ?_
            refine zx_if_eq (tgt := 73) dX7_speed_50 (by decide) (fun c_50 => ?_) (fun c_50 => ?_)
            · skip
              refine zx_aload_n dX7_speed_73 rfl rfl ?_
              refine zx_iload_n dX7_speed_74 rfl rfl ?_
              refine zx_iload_n dX7_speed_75 rfl rfl ?_
              refine zx_iload dX7_speed_76 rfl ?_
              refine zx_callV1 _ zv_X7_230 (m_X7_hasSideFace hG hL (s := 3) (by decide)) (by assumption) (by decide) rfl rfl rfl ⟨rfl, rfl, (Nat.le_of_ble_eq_true rfl), (Nat.le_of_ble_eq_true rfl)⟩ (Nat.le_of_ble_eq_true rfl) dX7_speed_78 ?_
              refine zx_if_eq (tgt := 99) dX7_speed_81 (by decide) (fun c_81 => ?_) (fun c_81 => ?_)
              · skip
                refine zx_dconst0 dX7_speed_99 ?_
                refine zx_dstore dX7_speed_100 (Nat.le_of_ble_eq_true rfl) ?_
                refine zx_dload dX7_speed_102 rfl ?_
                refine zx_dconst1 dX7_speed_104 ?_
                refine zx_ldc2d 4598175219545276416 zk_X7_279 (by decide +kernel) dX7_speed_105 ?_
                refine zx_aload_n dX7_speed_108 rfl rfl ?_
                refine zx_getI zf_X7_128 (by assumption) (Or.inl rfl) dX7_speed_109 ?_
                rw [hy0]
                refine zx_iconst 1 dX7_speed_112 (by decide) ?_
                refine zx_isub dX7_speed_113 ?_
                refine zx_iconst 2 dX7_speed_114 (by decide) ?_
                refine zx_iload_n dX7_speed_115 rfl rfl ?_
                refine zx_imul dX7_speed_116 ?_
                refine zx_isub dX7_speed_117 ?_
                refine zx_i2d dX7_speed_118 ?_
                refine zx_dmul dX7_speed_119 ?_
                refine zx_dadd dX7_speed_120 ?_
                refine zx_dmul dX7_speed_121 ?_
                exact zx_dreturn rfl (by show some (zd (t_speed μ w h ly (nI i) (nI j) z (nI a))) = _; unfold t_speed; rw [if_neg c_6, if_neg c_14, if_neg c_19, if_neg (Int32.not_lt.mpr c_25), if_neg c_32]; unfold t_spS; rw [if_neg (fun q => q c_50), if_neg (fun q => q c_81)]; rfl) (by rfl) dX7_speed_122
              · skip
                refine zx_aload_n dX7_speed_84 rfl rfl ?_
                refine zx_getR zf_X7_33 (by assumption) (show _ = some 11 from hL.1 10 (by decide)) rfl dX7_speed_85 ?_
                refine zx_iload_n dX7_speed_88 rfl rfl ?_
                refine zx_iload_n dX7_speed_89 rfl rfl ?_
                refine zx_iload dX7_speed_90 rfl ?_
                refine zx_callS1 _ zs_X7_164 m_X7_sideFace rfl rfl ⟨rfl, rfl, (Nat.le_of_ble_eq_true rfl), (Nat.le_of_ble_eq_true rfl)⟩ (Nat.le_of_ble_eq_true rfl) dX7_speed_92 ?_
                rw [show t_sideFace (nI i) (nI j) 3 = nI (sfN i j 3) from t_sideFace_nI i j 3 (by decide)]
                refine zx_dald (sfN i j 3) (by assumption) rfl ⟨by rw [hl11]; exact sfN_lt (by omega) (by omega) (by decide), by rw [hl11]; decide⟩ dX7_speed_95 ?_
                refine zx_goto (tgt := 100) dX7_speed_96 (by decide) ?_
                refine zx_dstore dX7_speed_100 (Nat.le_of_ble_eq_true rfl) ?_
                refine zx_dload dX7_speed_102 rfl ?_
                refine zx_dconst1 dX7_speed_104 ?_
                refine zx_ldc2d 4598175219545276416 zk_X7_279 (by decide +kernel) dX7_speed_105 ?_
                refine zx_aload_n dX7_speed_108 rfl rfl ?_
                refine zx_getI zf_X7_128 (by assumption) (Or.inl rfl) dX7_speed_109 ?_
                rw [hy0]
                refine zx_iconst 1 dX7_speed_112 (by decide) ?_
                refine zx_isub dX7_speed_113 ?_
                refine zx_iconst 2 dX7_speed_114 (by decide) ?_
                refine zx_iload_n dX7_speed_115 rfl rfl ?_
                refine zx_imul dX7_speed_116 ?_
                refine zx_isub dX7_speed_117 ?_
                refine zx_i2d dX7_speed_118 ?_
                refine zx_dmul dX7_speed_119 ?_
                refine zx_dadd dX7_speed_120 ?_
                refine zx_dmul dX7_speed_121 ?_
                exact zx_dreturn rfl (by show some (zd (t_speed μ w h ly (nI i) (nI j) z (nI a))) = _; unfold t_speed; rw [if_neg c_6, if_neg c_14, if_neg c_19, if_neg (Int32.not_lt.mpr c_25), if_neg c_32]; unfold t_spS; rw [if_neg (fun q => q c_50), if_pos c_81, nI_clamp (by omega), nI_clamp (by omega)]; rfl) (by rfl) dX7_speed_122
            · skip
              refine zx_aload_n dX7_speed_53 rfl rfl ?_
              refine zx_getR zf_X7_33 (by assumption) (show _ = some 11 from hL.1 10 (by decide)) rfl dX7_speed_54 ?_
              refine zx_sipush 144 dX7_speed_57 (by decide) ?_
              refine zx_iload dX7_speed_60 rfl ?_
              refine zx_imul dX7_speed_62 ?_
              refine zx_iload_n dX7_speed_63 rfl rfl ?_
              refine zx_iload_n dX7_speed_64 rfl rfl ?_
              refine zx_callS1 _ zs_X7_135 m_X7_at rfl rfl ⟨rfl, rfl, (Nat.le_of_ble_eq_true rfl), (Nat.le_of_ble_eq_true rfl)⟩ (Nat.le_of_ble_eq_true rfl) dX7_speed_65 ?_
              refine zx_iadd dX7_speed_68 ?_
              rw [zat, show (144 : Int32) * nI a + nI (12 * j + i) = nI (144 * a + (12 * j + i)) from z144 _ _]
              refine zx_dald (144 * a + (12 * j + i)) (by assumption) rfl ⟨by rw [hl11]; omega, by rw [hl11]; decide⟩ dX7_speed_69 ?_
              refine zx_goto (tgt := 100) dX7_speed_70 (by decide) ?_
              refine zx_dstore dX7_speed_100 (Nat.le_of_ble_eq_true rfl) ?_
              refine zx_dload dX7_speed_102 rfl ?_
              refine zx_dconst1 dX7_speed_104 ?_
              refine zx_ldc2d 4598175219545276416 zk_X7_279 (by decide +kernel) dX7_speed_105 ?_
              refine zx_aload_n dX7_speed_108 rfl rfl ?_
              refine zx_getI zf_X7_128 (by assumption) (Or.inl rfl) dX7_speed_109 ?_
              rw [hy0]
              refine zx_iconst 1 dX7_speed_112 (by decide) ?_
              refine zx_isub dX7_speed_113 ?_
              refine zx_iconst 2 dX7_speed_114 (by decide) ?_
              refine zx_iload_n dX7_speed_115 rfl rfl ?_
              refine zx_imul dX7_speed_116 ?_
              refine zx_isub dX7_speed_117 ?_
              refine zx_i2d dX7_speed_118 ?_
              refine zx_dmul dX7_speed_119 ?_
              refine zx_dadd dX7_speed_120 ?_
              refine zx_dmul dX7_speed_121 ?_
              exact zx_dreturn rfl (by show some (zd (t_speed μ w h ly (nI i) (nI j) z (nI a))) = _; unfold t_speed; rw [if_neg c_6, if_neg c_14, if_neg c_19, if_neg (Int32.not_lt.mpr c_25), if_neg c_32]; unfold t_spS; rw [if_pos c_50, nI_clamp (by omega), nI_clamp (by omega), nI_clamp (by omega)]; rfl) (by rfl) dX7_speed_122
          · skip
            refine zx_iconst 1 dX7_speed_35 (by decide) ?_
            refine zx_goto (tgt := 40) dX7_speed_36 (by decide) ?_
            refine zx_istore dX7_speed_40 (Nat.le_of_ble_eq_true rfl) ?_
            refine zx_aload_n dX7_speed_42 rfl rfl ?_
            refine zx_iload_n dX7_speed_43 rfl rfl ?_
            refine zx_iload_n dX7_speed_44 rfl rfl ?_
            refine zx_iload dX7_speed_45 rfl ?_
            refine zx_callV1 _ zv_X7_223 (m_X7_hasFace hG hL) (by assumption) (by decide) rfl rfl rfl ⟨rfl, rfl, (Nat.le_of_ble_eq_true rfl), (Nat.le_of_ble_eq_true rfl)⟩ (Nat.le_of_ble_eq_true rfl) dX7_speed_47 ?_
            refine zx_if_eq (tgt := 73) dX7_speed_50 (by decide) (fun c_50 => ?_) (fun c_50 => ?_)
            · skip
              refine zx_aload_n dX7_speed_73 rfl rfl ?_
              refine zx_iload_n dX7_speed_74 rfl rfl ?_
              refine zx_iload_n dX7_speed_75 rfl rfl ?_
              refine zx_iload dX7_speed_76 rfl ?_
              refine zx_callV1 _ zv_X7_230 (m_X7_hasSideFace hG hL (s := 1) (by decide)) (by assumption) (by decide) rfl rfl rfl ⟨rfl, rfl, (Nat.le_of_ble_eq_true rfl), (Nat.le_of_ble_eq_true rfl)⟩ (Nat.le_of_ble_eq_true rfl) dX7_speed_78 ?_
              refine zx_if_eq (tgt := 99) dX7_speed_81 (by decide) (fun c_81 => ?_) (fun c_81 => ?_)
              · skip
                refine zx_dconst0 dX7_speed_99 ?_
                refine zx_dstore dX7_speed_100 (Nat.le_of_ble_eq_true rfl) ?_
                refine zx_dload dX7_speed_102 rfl ?_
                refine zx_dconst1 dX7_speed_104 ?_
                refine zx_ldc2d 4598175219545276416 zk_X7_279 (by decide +kernel) dX7_speed_105 ?_
                refine zx_aload_n dX7_speed_108 rfl rfl ?_
                refine zx_getI zf_X7_128 (by assumption) (Or.inl rfl) dX7_speed_109 ?_
                rw [hy0]
                refine zx_iconst 1 dX7_speed_112 (by decide) ?_
                refine zx_isub dX7_speed_113 ?_
                refine zx_iconst 2 dX7_speed_114 (by decide) ?_
                refine zx_iload_n dX7_speed_115 rfl rfl ?_
                refine zx_imul dX7_speed_116 ?_
                refine zx_isub dX7_speed_117 ?_
                refine zx_i2d dX7_speed_118 ?_
                refine zx_dmul dX7_speed_119 ?_
                refine zx_dadd dX7_speed_120 ?_
                refine zx_dmul dX7_speed_121 ?_
                exact zx_dreturn rfl (by show some (zd (t_speed μ w h ly (nI i) (nI j) z (nI a))) = _; unfold t_speed; rw [if_neg c_6, if_neg c_14, if_neg c_19, if_neg (Int32.not_lt.mpr c_25), if_pos c_32]; unfold t_spS; rw [if_neg (fun q => q c_50), if_neg (fun q => q c_81)]; rfl) (by rfl) dX7_speed_122
              · skip
                refine zx_aload_n dX7_speed_84 rfl rfl ?_
                refine zx_getR zf_X7_33 (by assumption) (show _ = some 11 from hL.1 10 (by decide)) rfl dX7_speed_85 ?_
                refine zx_iload_n dX7_speed_88 rfl rfl ?_
                refine zx_iload_n dX7_speed_89 rfl rfl ?_
                refine zx_iload dX7_speed_90 rfl ?_
                refine zx_callS1 _ zs_X7_164 m_X7_sideFace rfl rfl ⟨rfl, rfl, (Nat.le_of_ble_eq_true rfl), (Nat.le_of_ble_eq_true rfl)⟩ (Nat.le_of_ble_eq_true rfl) dX7_speed_92 ?_
                rw [show t_sideFace (nI i) (nI j) 1 = nI (sfN i j 1) from t_sideFace_nI i j 1 (by decide)]
                refine zx_dald (sfN i j 1) (by assumption) rfl ⟨by rw [hl11]; exact sfN_lt (by omega) (by omega) (by decide), by rw [hl11]; decide⟩ dX7_speed_95 ?_
                refine zx_goto (tgt := 100) dX7_speed_96 (by decide) ?_
                refine zx_dstore dX7_speed_100 (Nat.le_of_ble_eq_true rfl) ?_
                refine zx_dload dX7_speed_102 rfl ?_
                refine zx_dconst1 dX7_speed_104 ?_
                refine zx_ldc2d 4598175219545276416 zk_X7_279 (by decide +kernel) dX7_speed_105 ?_
                refine zx_aload_n dX7_speed_108 rfl rfl ?_
                refine zx_getI zf_X7_128 (by assumption) (Or.inl rfl) dX7_speed_109 ?_
                rw [hy0]
                refine zx_iconst 1 dX7_speed_112 (by decide) ?_
                refine zx_isub dX7_speed_113 ?_
                refine zx_iconst 2 dX7_speed_114 (by decide) ?_
                refine zx_iload_n dX7_speed_115 rfl rfl ?_
                refine zx_imul dX7_speed_116 ?_
                refine zx_isub dX7_speed_117 ?_
                refine zx_i2d dX7_speed_118 ?_
                refine zx_dmul dX7_speed_119 ?_
                refine zx_dadd dX7_speed_120 ?_
                refine zx_dmul dX7_speed_121 ?_
                exact zx_dreturn rfl (by show some (zd (t_speed μ w h ly (nI i) (nI j) z (nI a))) = _; unfold t_speed; rw [if_neg c_6, if_neg c_14, if_neg c_19, if_neg (Int32.not_lt.mpr c_25), if_pos c_32]; unfold t_spS; rw [if_neg (fun q => q c_50), if_pos c_81, nI_clamp (by omega), nI_clamp (by omega)]; rfl) (by rfl) dX7_speed_122
            · skip
              refine zx_aload_n dX7_speed_53 rfl rfl ?_
              refine zx_getR zf_X7_33 (by assumption) (show _ = some 11 from hL.1 10 (by decide)) rfl dX7_speed_54 ?_
              refine zx_sipush 144 dX7_speed_57 (by decide) ?_
              refine zx_iload dX7_speed_60 rfl ?_
              refine zx_imul dX7_speed_62 ?_
              refine zx_iload_n dX7_speed_63 rfl rfl ?_
              refine zx_iload_n dX7_speed_64 rfl rfl ?_
              refine zx_callS1 _ zs_X7_135 m_X7_at rfl rfl ⟨rfl, rfl, (Nat.le_of_ble_eq_true rfl), (Nat.le_of_ble_eq_true rfl)⟩ (Nat.le_of_ble_eq_true rfl) dX7_speed_65 ?_
              refine zx_iadd dX7_speed_68 ?_
              rw [zat, show (144 : Int32) * nI a + nI (12 * j + i) = nI (144 * a + (12 * j + i)) from z144 _ _]
              refine zx_dald (144 * a + (12 * j + i)) (by assumption) rfl ⟨by rw [hl11]; omega, by rw [hl11]; decide⟩ dX7_speed_69 ?_
              refine zx_goto (tgt := 100) dX7_speed_70 (by decide) ?_
              refine zx_dstore dX7_speed_100 (Nat.le_of_ble_eq_true rfl) ?_
              refine zx_dload dX7_speed_102 rfl ?_
              refine zx_dconst1 dX7_speed_104 ?_
              refine zx_ldc2d 4598175219545276416 zk_X7_279 (by decide +kernel) dX7_speed_105 ?_
              refine zx_aload_n dX7_speed_108 rfl rfl ?_
              refine zx_getI zf_X7_128 (by assumption) (Or.inl rfl) dX7_speed_109 ?_
              rw [hy0]
              refine zx_iconst 1 dX7_speed_112 (by decide) ?_
              refine zx_isub dX7_speed_113 ?_
              refine zx_iconst 2 dX7_speed_114 (by decide) ?_
              refine zx_iload_n dX7_speed_115 rfl rfl ?_
              refine zx_imul dX7_speed_116 ?_
              refine zx_isub dX7_speed_117 ?_
              refine zx_i2d dX7_speed_118 ?_
              refine zx_dmul dX7_speed_119 ?_
              refine zx_dadd dX7_speed_120 ?_
              refine zx_dmul dX7_speed_121 ?_
              exact zx_dreturn rfl (by show some (zd (t_speed μ w h ly (nI i) (nI j) z (nI a))) = _; unfold t_speed; rw [if_neg c_6, if_neg c_14, if_neg c_19, if_neg (Int32.not_lt.mpr c_25), if_pos c_32]; unfold t_spS; rw [if_pos c_50, nI_clamp (by omega), nI_clamp (by omega), nI_clamp (by omega)]; rfl) (by rfl) dX7_speed_122
        · skip
          refine zx_dconst0 dX7_speed_28 ?_
          exact zx_dreturn rfl (by simp [zKa, t_speed, c_6, c_14, c_19, c_25]) (by rfl) dX7_speed_29

