abbrev k7200 : UInt64 := 4664638498421080064
def t_turn (k : Nat) (v : UInt64) : UInt64 := zdiv (zmul v k3600) (if nI k < 3 then k3600 else k7200)
def t_col (k : Nat) (v : UInt64) : UInt64 := if nI k = 0 then k1 else if nI k - nI k / 2 * 2 = 1 then s_saw (t_turn k v) else s_saw (zadd (t_turn k v) k025)
theorem z5 (f c : Nat) : (5 : Int32) * nI f + nI c = nI (5 * f + c) := by
  rw [show (5 : Int32) = nI 5 from rfl, pk_mul, nI_add]
theorem z6 (c : Nat) : (6 : Int32) * nI c = nI (6 * c) := by
  rw [show (6 : Int32) = nI 6 from rfl, pk_mul]
set_option maxHeartbeats 4000000 in
set_option maxRecDepth 100000 in
theorem m_X7_column {g : ZG} {μ : ZMem} {k : Nat} {v : UInt64} : zCab g RX7 yX7_column cX7_column 5 ((some FieldType.double)) (zrm 1) [zi (nI k), zd v] μ (some (zd (t_col k v))) μ := by
  refine zCab_w (by decide +kernel) rfl (Nat.le_of_ble_eq_true rfl) ?_
  refine zx_iload_n dX7_column_0 rfl rfl ?_
  refine zx_if_ne (tgt := 6) dX7_column_1 (by decide) (fun c_1 => ?_) (fun c_1 => ?_)
  · skip
    refine zx_dload_n dX7_column_6 rfl rfl ?_
    refine zx_ldc2d 4660134898793709568 zk_X7_190 (by decide +kernel) dX7_column_7 ?_
    refine zx_dmul dX7_column_10 ?_
    refine zx_iload_n dX7_column_11 rfl rfl ?_
    refine zx_iconst 3 dX7_column_12 (by decide) ?_
    refine zx_icmp_ge (tgt := 22) dX7_column_13 (by decide) (fun c_13 => ?_) (fun c_13 => ?_)
    · skip
      refine zx_ldc2d 4664638498421080064 zk_X7_302 (by decide +kernel) dX7_column_22 ?_
      refine zx_ddiv dX7_column_25 ?_
      refine zx_dstore_n dX7_column_26 rfl (Nat.le_of_ble_eq_true rfl) ?_
      refine zx_iload_n dX7_column_27 rfl rfl ?_
      refine zx_iconst 2 dX7_column_28 (by decide) ?_
      refine zx_irem dX7_column_29 (by decide) ?_
      refine zx_iconst 1 dX7_column_30 (by decide) ?_
      refine zx_icmp_ne (tgt := 38) dX7_column_31 (by decide) (fun c_31 => ?_) (fun c_31 => ?_)
      · skip
        refine zx_dload_n dX7_column_38 rfl rfl ?_
        refine zx_ldc2d 4598175219545276416 zk_X7_279 (by decide +kernel) dX7_column_39 ?_
        refine zx_dadd dX7_column_42 ?_
        refine zx_callS1 _ zs_X7_192 m_X7_saw rfl rfl ⟨rfl, rfl, (Nat.le_of_ble_eq_true rfl), (Nat.le_of_ble_eq_true rfl)⟩ (Nat.le_of_ble_eq_true rfl) dX7_column_43 ?_
        exact zx_dreturn rfl (by show some (zd (t_col k v)) = _; unfold t_col; rw [if_neg c_1, if_neg c_31]; unfold t_turn; rw [if_neg (Int32.not_lt.mpr c_13)]) (by rfl) dX7_column_46
      · skip
        refine zx_dload_n dX7_column_34 rfl rfl ?_
        refine zx_goto (tgt := 43) dX7_column_35 (by decide) ?_
        refine zx_callS1 _ zs_X7_192 m_X7_saw rfl rfl ⟨rfl, rfl, (Nat.le_of_ble_eq_true rfl), (Nat.le_of_ble_eq_true rfl)⟩ (Nat.le_of_ble_eq_true rfl) dX7_column_43 ?_
        exact zx_dreturn rfl (by show some (zd (t_col k v)) = _; unfold t_col; rw [if_neg c_1, if_pos c_31]; unfold t_turn; rw [if_neg (Int32.not_lt.mpr c_13)]) (by rfl) dX7_column_46
    · skip
      refine zx_ldc2d 4660134898793709568 zk_X7_190 (by decide +kernel) dX7_column_16 ?_
      refine zx_goto (tgt := 25) dX7_column_19 (by decide) ?_
      refine zx_ddiv dX7_column_25 ?_
      refine zx_dstore_n dX7_column_26 rfl (Nat.le_of_ble_eq_true rfl) ?_
      refine zx_iload_n dX7_column_27 rfl rfl ?_
      refine zx_iconst 2 dX7_column_28 (by decide) ?_
      refine zx_irem dX7_column_29 (by decide) ?_
      refine zx_iconst 1 dX7_column_30 (by decide) ?_
      refine zx_icmp_ne (tgt := 38) dX7_column_31 (by decide) (fun c_31 => ?_) (fun c_31 => ?_)
      · skip
        refine zx_dload_n dX7_column_38 rfl rfl ?_
        refine zx_ldc2d 4598175219545276416 zk_X7_279 (by decide +kernel) dX7_column_39 ?_
        refine zx_dadd dX7_column_42 ?_
        refine zx_callS1 _ zs_X7_192 m_X7_saw rfl rfl ⟨rfl, rfl, (Nat.le_of_ble_eq_true rfl), (Nat.le_of_ble_eq_true rfl)⟩ (Nat.le_of_ble_eq_true rfl) dX7_column_43 ?_
        exact zx_dreturn rfl (by show some (zd (t_col k v)) = _; unfold t_col; rw [if_neg c_1, if_neg c_31]; unfold t_turn; rw [if_pos (Int32.not_le.mp c_13)]) (by rfl) dX7_column_46
      · skip
        refine zx_dload_n dX7_column_34 rfl rfl ?_
        refine zx_goto (tgt := 43) dX7_column_35 (by decide) ?_
        refine zx_callS1 _ zs_X7_192 m_X7_saw rfl rfl ⟨rfl, rfl, (Nat.le_of_ble_eq_true rfl), (Nat.le_of_ble_eq_true rfl)⟩ (Nat.le_of_ble_eq_true rfl) dX7_column_43 ?_
        exact zx_dreturn rfl (by show some (zd (t_col k v)) = _; unfold t_col; rw [if_neg c_1, if_pos c_31]; unfold t_turn; rw [if_pos (Int32.not_le.mp c_13)]) (by rfl) dX7_column_46
  · skip
    refine zx_dconst1 dX7_column_4 ?_
    exact zx_dreturn rfl (by show some (zd (t_col k v)) = _; unfold t_col; rw [if_pos c_1]) (by rfl) dX7_column_5

def t_td1 (μ : ZMem) (v : UInt64) (m : Nat) (s : UInt64) : UInt64 := zadd s (zmul (zD μ 38 (1 + m)) (t_col (1 + m) v))
def t_tide (μ : ZMem) (C : Nat) (v : UInt64) : UInt64 := if nI C = 0 then 0 else if s_inside v 0 k1000 = 0 then 0 else zit (t_td1 μ v) (C - 1) (zD μ 38 0)
set_option maxHeartbeats 4000000 in
set_option maxRecDepth 100000 in
theorem L_X7_tide {g : ZG} {μ : ZMem} {w h : Nat} {ly : Int32} (hG : zGM g) (hL : zLM w h ly μ) {C : Nat} (hC : C ≤ 5) (hI : zI μ 0 38 = nI C) {v : UInt64} (hC1 : 1 ≤ C) {res : Option ZV} {μ' : ZMem} (hx : zWA g (RX7, cX7_tide, 6, ((some FieldType.double)), zrm 2, res, μ') 62 (zls [(0, zr (some 0)), (1, zd v), (3, zd (zit (t_td1 μ v) ((C - 1)) (zD μ 38 0))), (5, zi (nI (1 + ((C - 1)))))]) [] μ) : zWA g (RX7, cX7_tide, 6, ((some FieldType.double)), zrm 2, res, μ') 30 (zls [(0, zr (some 0)), (1, zd v), (3, zd (zit (t_td1 μ v) (0) (zD μ 38 0))), (5, zi (nI (1 + (0))))]) [] μ := by
  have hO0 : zO g 7 0 := hG.o 0 (by decide)
  have hO38 : zO g 8 38 := hG.o 38 (by decide)
  have hl38 : zln g 38 = 5 := hG.l 38 (by decide)
  have hw0 : zI μ 0 0 = nI w := hL.2.1
  have hh0 : zI μ 0 1 = nI h := hL.2.2.1
  have hy0 : zI μ 0 2 = ly := hL.2.2.2.1
  obtain ⟨hb1, hb2, hb3, hb4⟩ := hL.2.2.2.2
  refine zloop (P := fun k => zWA g (RX7, cX7_tide, 6, ((some FieldType.double)), zrm 2, res, μ') 30 (zls [(0, zr (some 0)), (1, zd v), (3, zd (zit (t_td1 μ v) (k) (zD μ 38 0))), (5, zi (nI (1 + (k))))]) [] μ) (N := (C - 1)) ?_ ?_ 0 (Nat.zero_le _)
  · show zWA _ _ _ _ _ _
    refine zx_iload dX7_tide_30 rfl ?_
    refine zx_aload_n dX7_tide_32 rfl rfl ?_
    refine zx_getI zf_X7_310 (by assumption) (Or.inl rfl) dX7_tide_33 ?_
    rw [hI]
    refine zx_icmp_ge (tgt := 62) dX7_tide_36 (by decide) (fun _ => ?_) (fun h_ => absurd h_ (by rw [show 1 + (C - 1) = C by omega]; exact fun q => q (Int32.le_refl _)))
    exact zWA_to hx ⟨rfl, rfl, rfl, rfl, trivial⟩
  · intro k hk hn_
    show zWA _ _ _ _ _ _
    refine zx_iload dX7_tide_30 rfl ?_
    refine zx_aload_n dX7_tide_32 rfl rfl ?_
    refine zx_getI zf_X7_310 (by assumption) (Or.inl rfl) dX7_tide_33 ?_
    rw [hI]
    refine zx_icmp_ge (tgt := 62) dX7_tide_36 (by decide) (fun h_ => absurd h_ (nI_ge (show 1 + k < C by omega) (by omega))) (fun _ => ?_)
    refine zx_dload_n dX7_tide_39 rfl rfl ?_
    refine zx_aload_n dX7_tide_40 rfl rfl ?_
    refine zx_getR zf_X7_91 (by assumption) (show _ = some 38 from hL.1 37 (by decide)) rfl dX7_tide_41 ?_
    refine zx_iload dX7_tide_44 rfl ?_
    refine zx_dald (1 + k) (by assumption) rfl ⟨by rw [hl38]; omega, by rw [hl38]; decide⟩ dX7_tide_46 ?_
    refine zx_iload dX7_tide_47 rfl ?_
    refine zx_dload_n dX7_tide_49 rfl rfl ?_
    refine zx_callS1 _ zs_X7_304 m_X7_column rfl rfl ⟨rfl, rfl, (Nat.le_of_ble_eq_true rfl), (Nat.le_of_ble_eq_true rfl)⟩ (Nat.le_of_ble_eq_true rfl) dX7_tide_50 ?_
    refine zx_dmul dX7_tide_53 ?_
    refine zx_dadd dX7_tide_54 ?_
    refine zx_dstore_n dX7_tide_55 rfl (Nat.le_of_ble_eq_true rfl) ?_
    refine zx_iinc (nI (1 + (k + 1))) dX7_tide_56 rfl (by rw [show Int32.ofInt 1 = nI 1 from rfl, nI_add] <;> rfl) (Nat.le_of_ble_eq_true rfl) ?_
    refine zx_goto (tgt := 30) dX7_tide_59 (by decide) ?_
    exact zWA_to (zWA_mem hn_ (by rfl)) ⟨rfl, rfl, rfl, rfl, trivial⟩

set_option maxHeartbeats 4000000 in
set_option maxRecDepth 100000 in
theorem m_X7_tide {g : ZG} {μ : ZMem} {w h : Nat} {ly : Int32} (hG : zGM g) (hL : zLM w h ly μ) {C : Nat} (hC : C ≤ 5) (hI : zI μ 0 38 = nI C) {v : UInt64} : zCab g RX7 yX7_tide cX7_tide 6 ((some FieldType.double)) (zrm 2) [zr (some 0), zd v] μ (some (zd (t_tide μ C v))) μ := by
  refine zCab_w (by decide +kernel) rfl (Nat.le_of_ble_eq_true rfl) ?_
  have hO0 : zO g 7 0 := hG.o 0 (by decide)
  have hO38 : zO g 8 38 := hG.o 38 (by decide)
  have hl38 : zln g 38 = 5 := hG.l 38 (by decide)
  have hw0 : zI μ 0 0 = nI w := hL.2.1
  have hh0 : zI μ 0 1 = nI h := hL.2.2.1
  have hy0 : zI μ 0 2 = ly := hL.2.2.2.1
  obtain ⟨hb1, hb2, hb3, hb4⟩ := hL.2.2.2.2
  refine zx_aload_n dX7_tide_0 rfl rfl ?_
  refine zx_getI zf_X7_310 (by assumption) (Or.inl rfl) dX7_tide_1 ?_
  rw [hI]
  refine zx_if_eq (tgt := 18) dX7_tide_4 (by decide) (fun c_4 => ?_) (fun c_4 => ?_)
  · skip
    refine zx_dconst0 dX7_tide_18 ?_
    exact zx_dreturn rfl (by simp [zKa, t_tide, c_4]) (by rfl) dX7_tide_19
  · skip
    refine zx_dload_n dX7_tide_7 rfl rfl ?_
    refine zx_dconst0 dX7_tide_8 ?_
    refine zx_ldc2d 4652007308841189376 zk_X7_150 (by decide +kernel) dX7_tide_9 ?_
    refine zx_callS1 _ zs_X7_152 m_X7_isIn rfl rfl ⟨rfl, rfl, (Nat.le_of_ble_eq_true rfl), (Nat.le_of_ble_eq_true rfl)⟩ (Nat.le_of_ble_eq_true rfl) dX7_tide_12 ?_
    refine zx_if_ne (tgt := 20) dX7_tide_15 (by decide) (fun c_15 => ?_) (fun c_15 => ?_)
    · skip
      have hC1 : 1 ≤ C := by rcases Nat.eq_zero_or_pos C with rfl | q; exact absurd rfl c_4; exact q
      refine zx_aload_n dX7_tide_20 rfl rfl ?_
      refine zx_getR zf_X7_91 (by assumption) (show _ = some 38 from hL.1 37 (by decide)) rfl dX7_tide_21 ?_
      refine zx_iconst 0 dX7_tide_24 (by decide) ?_
      refine zx_dald (0) (by assumption) rfl ⟨by rw [hl38]; decide, by rw [hl38]; decide⟩ dX7_tide_25 ?_
      refine zx_dstore_n dX7_tide_26 rfl (Nat.le_of_ble_eq_true rfl) ?_
      refine zx_iconst 1 dX7_tide_27 (by decide) ?_
      refine zx_istore dX7_tide_28 (Nat.le_of_ble_eq_true rfl) ?_
      refine zWA_to (L_X7_tide hG hL hC hI hC1 ?_) ⟨rfl, rfl, rfl, rfl, trivial⟩
      refine zx_dload_n dX7_tide_62 rfl rfl ?_
      exact zx_dreturn rfl (by show some (zd (t_tide μ C v)) = _; unfold t_tide; rw [if_neg c_4, if_neg c_15]) (by rfl) dX7_tide_63
    · skip
      refine zx_dconst0 dX7_tide_18 ?_
      exact zx_dreturn rfl (by simp [zKa, t_tide, c_4, c_15]) (by rfl) dX7_tide_19

