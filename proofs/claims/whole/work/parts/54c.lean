def t_gauge (w h T : Nat) (x y : Int32) (a b : UInt64) : Int32 := if t_isCell w h x y = 0 then 0 else if T = 40 then 0 else if s_inside a 0 k1000 = 0 then 0 else if s_inside b km100 k100 = 0 then 0 else 1
def q_gauge1 (μ : ZMem) (T c : Nat) (a b : UInt64) : ZMem := zsI (zsD (zsD (zsI μ 33 T (nI c)) 34 T a) 35 T b) 0 31 (nI (T + 1))
def q_gauge (μ : ZMem) (w h T : Nat) (x y : Int32) (a b : UInt64) : ZMem := if t_gauge w h T x y a b = 0 then μ else q_gauge1 μ T (12 * y.toNatClampNeg + x.toNatClampNeg) a b
set_option maxHeartbeats 4000000 in
set_option maxRecDepth 100000 in
theorem m_X7_gauge {g : ZG} {μ : ZMem} {w h : Nat} {ly : Int32} (hG : zGM g) (hL : zLM w h ly μ) {T : Nat} (hI : zI μ 0 31 = nI T) {x y : Int32} {a b : UInt64} (hT : T < 40) : zCab g RX7 yX7_gauge cX7_gauge 7 ((some FieldType.boolean)) (zrm 1) [zr (some 0), zi x, zi y, zd a, zd b] μ (some (zi (t_gauge w h T x y a b))) (q_gauge μ w h T x y a b) := by
  refine zCab_w (by decide +kernel) rfl (Nat.le_of_ble_eq_true rfl) ?_
  have hO0 : zO g 7 0 := hG.o 0 (by decide)
  have hO33 : zO g 9 33 := hG.o 33 (by decide)
  have hl33 : zln g 33 = 40 := hG.l 33 (by decide)
  have hO34 : zO g 8 34 := hG.o 34 (by decide)
  have hl34 : zln g 34 = 40 := hG.l 34 (by decide)
  have hO35 : zO g 8 35 := hG.o 35 (by decide)
  have hl35 : zln g 35 = 40 := hG.l 35 (by decide)
  have hw0 : zI μ 0 0 = nI w := hL.2.1
  have hh0 : zI μ 0 1 = nI h := hL.2.2.1
  have hy0 : zI μ 0 2 = ly := hL.2.2.2.1
  obtain ⟨hb1, hb2, hb3, hb4⟩ := hL.2.2.2.2
  refine zx_aload_n dX7_gauge_0 rfl rfl ?_
  refine zx_iload_n dX7_gauge_1 rfl rfl ?_
  refine zx_iload_n dX7_gauge_2 rfl rfl ?_
  refine zx_callV1 _ zv_X7_131 (m_X7_isCell hG hL) (by assumption) (by decide) rfl rfl rfl ⟨rfl, rfl, (Nat.le_of_ble_eq_true rfl), (Nat.le_of_ble_eq_true rfl)⟩ (Nat.le_of_ble_eq_true rfl) dX7_gauge_3 ?_
  refine zx_if_eq (tgt := 43) dX7_gauge_6 (by decide) (fun c_6 => ?_) (fun c_6 => ?_)
  · skip
    refine zx_iconst 0 dX7_gauge_43 (by decide) ?_
    exact zx_zreturn rfl (by decide +kernel) (by simp [zKa, t_gauge, c_6]) (by simp [zKm, q_gauge, t_gauge, c_6]) dX7_gauge_44
  · skip
    refine zx_aload_n dX7_gauge_9 rfl rfl ?_
    refine zx_getI zf_X7_299 (by assumption) (Or.inl rfl) dX7_gauge_10 ?_
    rw [hI]
    refine zx_bipush 40 dX7_gauge_13 (by decide) ?_
    refine zx_icmp_eq (tgt := 43) dX7_gauge_15 (by decide) (fun h_ => absurd h_ (fun q => by have := (nI_eq (show T < 2 ^ 31 by omega) (show 40 < 2 ^ 31 by omega)).mp q; omega)) (fun _ => ?_)
    refine zx_dload_n dX7_gauge_18 rfl rfl ?_
    refine zx_dconst0 dX7_gauge_19 ?_
    refine zx_ldc2d 4652007308841189376 zk_X7_150 (by decide +kernel) dX7_gauge_20 ?_
    refine zx_callS1 _ zs_X7_152 m_X7_isIn rfl rfl ⟨rfl, rfl, (Nat.le_of_ble_eq_true rfl), (Nat.le_of_ble_eq_true rfl)⟩ (Nat.le_of_ble_eq_true rfl) dX7_gauge_23 ?_
    refine zx_if_eq (tgt := 43) dX7_gauge_26 (by decide) (fun c_26 => ?_) (fun c_26 => ?_)
    · skip
      refine zx_iconst 0 dX7_gauge_43 (by decide) ?_
      exact zx_zreturn rfl (by decide +kernel) (by simp [zKa, t_gauge, c_6, c_26]) (by simp [zKm, q_gauge, t_gauge, c_6, c_26]) dX7_gauge_44
    · skip
      refine zx_dload dX7_gauge_29 rfl ?_
      refine zx_ldc2d 13860109328209412096 zk_X7_176 (by decide +kernel) dX7_gauge_31 ?_
      refine zx_ldc2d 4636737291354636288 zk_X7_178 (by decide +kernel) dX7_gauge_34 ?_
      refine zx_callS1 _ zs_X7_152 m_X7_isIn rfl rfl ⟨rfl, rfl, (Nat.le_of_ble_eq_true rfl), (Nat.le_of_ble_eq_true rfl)⟩ (Nat.le_of_ble_eq_true rfl) dX7_gauge_37 ?_
      refine zx_if_ne (tgt := 45) dX7_gauge_40 (by decide) (fun c_40 => ?_) (fun c_40 => ?_)
      · skip
        obtain ⟨i, j, hi, hj, rfl, rfl⟩ := t_isCell_in hb2 hb4 c_6
        refine zx_aload_n dX7_gauge_45 rfl rfl ?_
        refine zx_getR zf_X7_76 (by assumption) (show _ = some 33 from hL.1 32 (by decide)) rfl dX7_gauge_46 ?_
        refine zx_aload_n dX7_gauge_49 rfl rfl ?_
        refine zx_getI zf_X7_299 (by assumption) (Or.inl rfl) dX7_gauge_50 ?_
        rw [hI]
        refine zx_iload_n dX7_gauge_53 rfl rfl ?_
        refine zx_iload_n dX7_gauge_54 rfl rfl ?_
        refine zx_callS1 _ zs_X7_135 m_X7_at rfl rfl ⟨rfl, rfl, (Nat.le_of_ble_eq_true rfl), (Nat.le_of_ble_eq_true rfl)⟩ (Nat.le_of_ble_eq_true rfl) dX7_gauge_55 ?_
        rw [zat]
        refine zx_iast T (by assumption) rfl ⟨by rw [hl33]; omega, by rw [hl33]; decide⟩ dX7_gauge_58 ?_
        refine zx_aload_n dX7_gauge_59 rfl rfl ?_
        refine zx_getR zf_X7_79 (by assumption) (show _ = some 34 from hL.1 33 (by decide)) rfl dX7_gauge_60 ?_
        refine zx_aload_n dX7_gauge_63 rfl rfl ?_
        refine zx_getI zf_X7_299 (by assumption) (Or.inl rfl) dX7_gauge_64 ?_
        rw [show zI (zsI μ 33 T (nI (12 * j + i))) 0 31 = nI T from hI]
        refine zx_dload_n dX7_gauge_67 rfl rfl ?_
        refine zx_dast T (by assumption) rfl ⟨by rw [hl34]; omega, by rw [hl34]; decide⟩ dX7_gauge_68 ?_
        refine zx_aload_n dX7_gauge_69 rfl rfl ?_
        refine zx_getR zf_X7_82 (by assumption) (show _ = some 35 from hL.1 34 (by decide)) rfl dX7_gauge_70 ?_
        refine zx_aload_n dX7_gauge_73 rfl rfl ?_
        refine zx_getI zf_X7_299 (by assumption) (Or.inl rfl) dX7_gauge_74 ?_
        rw [show zI (zsD (zsI μ 33 T (nI (12 * j + i))) 34 T a) 0 31 = nI T from hI]
        refine zx_dload dX7_gauge_77 rfl ?_
        refine zx_dast T (by assumption) rfl ⟨by rw [hl35]; omega, by rw [hl35]; decide⟩ dX7_gauge_79 ?_
        refine zx_aload_n dX7_gauge_80 rfl rfl ?_
        refine zx_dup dX7_gauge_81 rfl ?_
        refine zx_getI zf_X7_299 (by assumption) (Or.inl rfl) dX7_gauge_82 ?_
        rw [show zI (zsD (zsD (zsI μ 33 T (nI (12 * j + i))) 34 T a) 35 T b) 0 31 = nI T from hI]
        refine zx_iconst 1 dX7_gauge_85 (by decide) ?_
        refine zx_iadd dX7_gauge_86 ?_
        rw [nI_1]
        refine zx_putI zf_X7_299 (by assumption) ⟨rfl, rfl⟩ (Or.inl rfl) dX7_gauge_87 ?_
        refine zx_iconst 1 dX7_gauge_90 (by decide) ?_
        exact zx_zreturn rfl (by decide +kernel) (by show some (zi (t_gauge w h T (nI i) (nI j) a b)) = _; unfold t_gauge; rw [if_neg c_6, if_neg (by omega), if_neg c_26, if_neg c_40]) (by show q_gauge μ w h T (nI i) (nI j) a b = _; unfold q_gauge; rw [if_neg (by unfold t_gauge; rw [if_neg c_6, if_neg (by omega), if_neg c_26, if_neg c_40]; decide), nI_clamp (by omega), nI_clamp (by omega)]; rfl) dX7_gauge_91
      · skip
        refine zx_iconst 0 dX7_gauge_43 (by decide) ?_
        exact zx_zreturn rfl (by decide +kernel) (by simp [zKa, t_gauge, c_6, c_26, c_40]) (by simp [zKm, q_gauge, t_gauge, c_6, c_26, c_40]) dX7_gauge_44

set_option maxHeartbeats 4000000 in
set_option maxRecDepth 100000 in
theorem m_X7_gauge_full {g : ZG} {μ : ZMem} {w h : Nat} {ly : Int32} (hG : zGM g) (hL : zLM w h ly μ) {T : Nat} (hI : zI μ 0 31 = nI T) {x y : Int32} {a b : UInt64} (hT : T = 40) : zCab g RX7 yX7_gauge cX7_gauge 7 ((some FieldType.boolean)) (zrm 1) [zr (some 0), zi x, zi y, zd a, zd b] μ (some (zi (t_gauge w h T x y a b))) (q_gauge μ w h T x y a b) := by
  refine zCab_w (by decide +kernel) rfl (Nat.le_of_ble_eq_true rfl) ?_
  have hO0 : zO g 7 0 := hG.o 0 (by decide)
  have hO33 : zO g 9 33 := hG.o 33 (by decide)
  have hl33 : zln g 33 = 40 := hG.l 33 (by decide)
  have hO34 : zO g 8 34 := hG.o 34 (by decide)
  have hl34 : zln g 34 = 40 := hG.l 34 (by decide)
  have hO35 : zO g 8 35 := hG.o 35 (by decide)
  have hl35 : zln g 35 = 40 := hG.l 35 (by decide)
  have hw0 : zI μ 0 0 = nI w := hL.2.1
  have hh0 : zI μ 0 1 = nI h := hL.2.2.1
  have hy0 : zI μ 0 2 = ly := hL.2.2.2.1
  obtain ⟨hb1, hb2, hb3, hb4⟩ := hL.2.2.2.2
  refine zx_aload_n dX7_gauge_0 rfl rfl ?_
  refine zx_iload_n dX7_gauge_1 rfl rfl ?_
  refine zx_iload_n dX7_gauge_2 rfl rfl ?_
  refine zx_callV1 _ zv_X7_131 (m_X7_isCell hG hL) (by assumption) (by decide) rfl rfl rfl ⟨rfl, rfl, (Nat.le_of_ble_eq_true rfl), (Nat.le_of_ble_eq_true rfl)⟩ (Nat.le_of_ble_eq_true rfl) dX7_gauge_3 ?_
  refine zx_if_eq (tgt := 43) dX7_gauge_6 (by decide) (fun c_6 => ?_) (fun c_6 => ?_)
  · skip
    refine zx_iconst 0 dX7_gauge_43 (by decide) ?_
    exact zx_zreturn rfl (by decide +kernel) (by simp [zKa, t_gauge, c_6, hT]) (by simp [zKm, q_gauge, t_gauge, c_6, hT]) dX7_gauge_44
  · skip
    refine zx_aload_n dX7_gauge_9 rfl rfl ?_
    refine zx_getI zf_X7_299 (by assumption) (Or.inl rfl) dX7_gauge_10 ?_
    rw [hI, hT]
    refine zx_bipush 40 dX7_gauge_13 (by decide) ?_
    refine zx_icmp_eq (tgt := 43) dX7_gauge_15 (by decide) (fun _ => ?_) (fun h_ => absurd h_ (fun q => q rfl))
    refine zx_iconst 0 dX7_gauge_43 (by decide) ?_
    exact zx_zreturn rfl (by decide +kernel) (by simp [zKa, t_gauge, c_6, hT]) (by simp [zKm, q_gauge, t_gauge, c_6, hT]) dX7_gauge_44

def t_df1 (μ : ZMem) (c k : Nat) (v : UInt64) : UInt64 := if zI μ 33 k = nI c then zsub (zD μ 35 k) (t_lev μ c) else v
def t_differs (μ : ZMem) (w h T : Nat) (x y : Int32) : UInt64 := if t_isWater μ w h x y = 0 then 0 else zit (t_df1 μ (12 * y.toNatClampNeg + x.toNatClampNeg)) T 0
set_option maxHeartbeats 4000000 in
set_option maxRecDepth 100000 in
theorem L_X7_differs {g : ZG} {μ : ZMem} {w h : Nat} {ly : Int32} (hG : zGM g) (hL : zLM w h ly μ) {i j : Nat} (hi : i < w) (hj : j < h) {T : Nat} (hT : T ≤ 40) (hI : zI μ 0 31 = nI T) (hw : ¬ t_isWater μ w h (nI i) (nI j) = 0) {res : Option ZV} {μ' : ZMem} (hx : zWA g (RX7, cX7_differs, 6, ((some FieldType.double)), zrm 2, res, μ') 66 (zls [(0, zr (some 0)), (1, zi (nI i)), (2, zi (nI j)), (3, zd (zit (t_df1 μ (12 * j + i)) (T) 0)), (5, zi (nI (T)))]) [] μ) : zWA g (RX7, cX7_differs, 6, ((some FieldType.double)), zrm 2, res, μ') 5 (zls [(0, zr (some 0)), (1, zi (nI i)), (2, zi (nI j)), (3, zd (zit (t_df1 μ (12 * j + i)) (0) 0)), (5, zi (nI (0)))]) [] μ := by
  have hO0 : zO g 7 0 := hG.o 0 (by decide)
  have hO33 : zO g 9 33 := hG.o 33 (by decide)
  have hl33 : zln g 33 = 40 := hG.l 33 (by decide)
  have hO35 : zO g 8 35 := hG.o 35 (by decide)
  have hl35 : zln g 35 = 40 := hG.l 35 (by decide)
  have hw0 : zI μ 0 0 = nI w := hL.2.1
  have hh0 : zI μ 0 1 = nI h := hL.2.2.1
  have hy0 : zI μ 0 2 = ly := hL.2.2.2.1
  obtain ⟨hb1, hb2, hb3, hb4⟩ := hL.2.2.2.2
  refine zloop (P := fun k => zWA g (RX7, cX7_differs, 6, ((some FieldType.double)), zrm 2, res, μ') 5 (zls [(0, zr (some 0)), (1, zi (nI i)), (2, zi (nI j)), (3, zd (zit (t_df1 μ (12 * j + i)) (k) 0)), (5, zi (nI (k)))]) [] μ) (N := T) ?_ ?_ 0 (Nat.zero_le _)
  · show zWA _ _ _ _ _ _
    refine zx_iload dX7_differs_5 rfl ?_
    refine zx_aload_n dX7_differs_7 rfl rfl ?_
    refine zx_getI zf_X7_299 (by assumption) (Or.inl rfl) dX7_differs_8 ?_
    rw [hI]
    refine zx_icmp_ge (tgt := 66) dX7_differs_11 (by decide) (fun _ => ?_) (fun h_ => absurd h_ (fun q => q (by first | decide | exact Int32.le_refl _)))
    exact zWA_to hx ⟨rfl, rfl, rfl, rfl, rfl, trivial⟩
  · intro k hk hn_
    show zWA _ _ _ _ _ _
    refine zx_iload dX7_differs_5 rfl ?_
    refine zx_aload_n dX7_differs_7 rfl rfl ?_
    refine zx_getI zf_X7_299 (by assumption) (Or.inl rfl) dX7_differs_8 ?_
    rw [hI]
    refine zx_icmp_ge (tgt := 66) dX7_differs_11 (by decide) (fun h_ => absurd h_ (nI_ge hk (by omega))) (fun _ => ?_)
    refine zx_aload_n dX7_differs_14 rfl rfl ?_
    refine zx_iload_n dX7_differs_15 rfl rfl ?_
    refine zx_iload_n dX7_differs_16 rfl rfl ?_
    refine zx_callV1 _ zv_X7_139 (m_X7_isWater hG hL) (by assumption) (by decide) rfl rfl rfl ⟨rfl, rfl, (Nat.le_of_ble_eq_true rfl), (Nat.le_of_ble_eq_true rfl)⟩ (Nat.le_of_ble_eq_true rfl) dX7_differs_17 ?_
    refine zx_if_eq (tgt := 66) dX7_differs_20 (by decide) (fun h_ => absurd h_ hw) (fun _ => ?_)
    refine zx_aload_n dX7_differs_23 rfl rfl ?_
    refine zx_getR zf_X7_76 (by assumption) (show _ = some 33 from hL.1 32 (by decide)) rfl dX7_differs_24 ?_
    refine zx_iload dX7_differs_27 rfl ?_
    refine zx_iald (k) (by assumption) rfl ⟨by rw [hl33]; omega, by rw [hl33]; decide⟩ dX7_differs_29 ?_
    refine zx_iload_n dX7_differs_30 rfl rfl ?_
    refine zx_iload_n dX7_differs_31 rfl rfl ?_
    refine zx_callS1 _ zs_X7_135 m_X7_at rfl rfl ⟨rfl, rfl, (Nat.le_of_ble_eq_true rfl), (Nat.le_of_ble_eq_true rfl)⟩ (Nat.le_of_ble_eq_true rfl) dX7_differs_32 ?_
    rw [zat]
    refine zx_icmp_ne (tgt := 58) dX7_differs_35 (by decide) (fun c_35 => ?_) (fun c_35 => ?_)
    · skip
      refine zx_dload_n dX7_differs_58 rfl rfl ?_
      refine zx_dstore_n dX7_differs_59 rfl (Nat.le_of_ble_eq_true rfl) ?_
      have e_ : zit (t_df1 μ (12 * j + i)) (k + 1) 0 = zit (t_df1 μ (12 * j + i)) k 0 := if_neg (show ¬ (zI μ 33 k = nI (12 * j + i)) from c_35)
      refine zx_iinc (nI (k + 1)) dX7_differs_60 rfl (by exact nI_1 k) (Nat.le_of_ble_eq_true rfl) ?_
      refine zx_goto (tgt := 5) dX7_differs_63 (by decide) ?_
      exact zWA_to (zWA_mem hn_ (by rfl)) ⟨rfl, rfl, rfl, congrArg (fun q => some (zd q)) e_.symm, rfl, trivial⟩
    · skip
      refine zx_aload_n dX7_differs_38 rfl rfl ?_
      refine zx_getR zf_X7_82 (by assumption) (show _ = some 35 from hL.1 34 (by decide)) rfl dX7_differs_39 ?_
      refine zx_iload dX7_differs_42 rfl ?_
      refine zx_dald (k) (by assumption) rfl ⟨by rw [hl35]; omega, by rw [hl35]; decide⟩ dX7_differs_44 ?_
      refine zx_aload_n dX7_differs_45 rfl rfl ?_
      refine zx_iload_n dX7_differs_46 rfl rfl ?_
      refine zx_iload_n dX7_differs_47 rfl rfl ?_
      refine zx_callS1 _ zs_X7_135 m_X7_at rfl rfl ⟨rfl, rfl, (Nat.le_of_ble_eq_true rfl), (Nat.le_of_ble_eq_true rfl)⟩ (Nat.le_of_ble_eq_true rfl) dX7_differs_48 ?_
      rw [zat]
      refine zx_callV1 _ zv_X7_198 (m_X7_levelOf hG hL (c := 12 * j + i) (by omega)) (by assumption) (by decide) rfl rfl rfl ⟨rfl, rfl, (Nat.le_of_ble_eq_true rfl), (Nat.le_of_ble_eq_true rfl)⟩ (Nat.le_of_ble_eq_true rfl) dX7_differs_51 ?_
      refine zx_dsub dX7_differs_54 ?_
      refine zx_goto (tgt := 59) dX7_differs_55 (by decide) ?_
      refine zx_dstore_n dX7_differs_59 rfl (Nat.le_of_ble_eq_true rfl) ?_
      have e_ : zit (t_df1 μ (12 * j + i)) (k + 1) 0 = _ := if_pos (show (zI μ 33 k = nI (12 * j + i)) from c_35)
      refine zx_iinc (nI (k + 1)) dX7_differs_60 rfl (by exact nI_1 k) (Nat.le_of_ble_eq_true rfl) ?_
      refine zx_goto (tgt := 5) dX7_differs_63 (by decide) ?_
      exact zWA_to (zWA_mem hn_ (by rfl)) ⟨rfl, rfl, rfl, congrArg (fun q => some (zd q)) e_.symm, rfl, trivial⟩

set_option maxHeartbeats 4000000 in
set_option maxRecDepth 100000 in
theorem m_X7_differs_dry {g : ZG} {μ : ZMem} {w h : Nat} {ly : Int32} (hG : zGM g) (hL : zLM w h ly μ) {T : Nat} (hT : T ≤ 40) (hI : zI μ 0 31 = nI T) {x y : Int32} (hw : t_isWater μ w h x y = 0) : zCab g RX7 yX7_differs cX7_differs 6 ((some FieldType.double)) (zrm 2) [zr (some 0), zi x, zi y] μ (some (zd (t_differs μ w h T x y))) μ := by
  refine zCab_w (by decide +kernel) rfl (Nat.le_of_ble_eq_true rfl) ?_
  have hO0 : zO g 7 0 := hG.o 0 (by decide)
  have hO33 : zO g 9 33 := hG.o 33 (by decide)
  have hl33 : zln g 33 = 40 := hG.l 33 (by decide)
  have hO35 : zO g 8 35 := hG.o 35 (by decide)
  have hl35 : zln g 35 = 40 := hG.l 35 (by decide)
  have hw0 : zI μ 0 0 = nI w := hL.2.1
  have hh0 : zI μ 0 1 = nI h := hL.2.2.1
  have hy0 : zI μ 0 2 = ly := hL.2.2.2.1
  obtain ⟨hb1, hb2, hb3, hb4⟩ := hL.2.2.2.2
  refine zx_dconst0 dX7_differs_0 ?_
  refine zx_dstore_n dX7_differs_1 rfl (Nat.le_of_ble_eq_true rfl) ?_
  refine zx_iconst 0 dX7_differs_2 (by decide) ?_
  refine zx_istore dX7_differs_3 (Nat.le_of_ble_eq_true rfl) ?_
  refine zx_iload dX7_differs_5 rfl ?_
  refine zx_aload_n dX7_differs_7 rfl rfl ?_
  refine zx_getI zf_X7_299 (by assumption) (Or.inl rfl) dX7_differs_8 ?_
  rw [hI]
  refine zx_icmp_ge (tgt := 66) dX7_differs_11 (by decide) (fun c_11 => ?_) (fun c_11 => ?_)
  · skip
    refine zx_dload_n dX7_differs_66 rfl rfl ?_
    exact zx_dreturn rfl (by simp [zKa, t_differs, hw]) (by rfl) dX7_differs_67
  · skip
    refine zx_aload_n dX7_differs_14 rfl rfl ?_
    refine zx_iload_n dX7_differs_15 rfl rfl ?_
    refine zx_iload_n dX7_differs_16 rfl rfl ?_
    refine zx_callV1 _ zv_X7_139 (m_X7_isWater hG hL) (by assumption) (by decide) rfl rfl rfl ⟨rfl, rfl, (Nat.le_of_ble_eq_true rfl), (Nat.le_of_ble_eq_true rfl)⟩ (Nat.le_of_ble_eq_true rfl) dX7_differs_17 ?_
    refine zx_if_eq (tgt := 66) dX7_differs_20 (by decide) (fun _ => ?_) (fun h_ => absurd h_ (fun q => q hw))
    refine zx_dload_n dX7_differs_66 rfl rfl ?_
    exact zx_dreturn rfl (by simp [zKa, t_differs, hw]) (by rfl) dX7_differs_67

set_option maxHeartbeats 4000000 in
set_option maxRecDepth 100000 in
theorem m_X7_differs {g : ZG} {μ : ZMem} {w h : Nat} {ly : Int32} (hG : zGM g) (hL : zLM w h ly μ) {T : Nat} (hT : T ≤ 40) (hI : zI μ 0 31 = nI T) {x y : Int32} (hw : ¬ t_isWater μ w h x y = 0) : zCab g RX7 yX7_differs cX7_differs 6 ((some FieldType.double)) (zrm 2) [zr (some 0), zi x, zi y] μ (some (zd (t_differs μ w h T x y))) μ := by
  refine zCab_w (by decide +kernel) rfl (Nat.le_of_ble_eq_true rfl) ?_
  have hO0 : zO g 7 0 := hG.o 0 (by decide)
  have hO33 : zO g 9 33 := hG.o 33 (by decide)
  have hl33 : zln g 33 = 40 := hG.l 33 (by decide)
  have hO35 : zO g 8 35 := hG.o 35 (by decide)
  have hl35 : zln g 35 = 40 := hG.l 35 (by decide)
  have hw0 : zI μ 0 0 = nI w := hL.2.1
  have hh0 : zI μ 0 1 = nI h := hL.2.2.1
  have hy0 : zI μ 0 2 = ly := hL.2.2.2.1
  obtain ⟨hb1, hb2, hb3, hb4⟩ := hL.2.2.2.2
  obtain ⟨i, j, hi, hj, rfl, rfl⟩ := t_isWater_in hb2 hb4 hw
  refine zx_dconst0 dX7_differs_0 ?_
  refine zx_dstore_n dX7_differs_1 rfl (Nat.le_of_ble_eq_true rfl) ?_
  refine zx_iconst 0 dX7_differs_2 (by decide) ?_
  refine zx_istore dX7_differs_3 (Nat.le_of_ble_eq_true rfl) ?_
  refine zWA_to (L_X7_differs hG hL hi hj hT hI hw ?_) ⟨rfl, rfl, rfl, rfl, rfl, trivial⟩
  refine zx_dload_n dX7_differs_66 rfl rfl ?_
  exact zx_dreturn rfl (by show some (zd (t_differs μ w h T (nI i) (nI j))) = _; unfold t_differs; rw [if_neg hw, nI_clamp (by omega), nI_clamp (by omega)]) (by rfl) dX7_differs_67

