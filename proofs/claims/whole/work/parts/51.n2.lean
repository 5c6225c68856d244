def t_wv (μ : ZMem) (s k : Nat) (x : UInt64) : UInt64 := if zI μ 23 (8 * s + k) = 0 then x else zadd x (zmul (zD μ 24 (8 * s + k)) (s_saw (zadd (zdiv (zD μ 0 13) (zmul k3600 (FP.i2d (nI k + 1)))) (zD μ 25 (8 * s + k)))))
def t_outside (μ : ZMem) (s : Nat) : UInt64 := zit (t_wv μ s) 8 0
set_option maxHeartbeats 4000000 in
set_option maxRecDepth 100000 in
theorem L_X7_outside {g : ZG} {μ : ZMem} {w h : Nat} {ly : Int32} (hG : zGM g) (hL : zLM w h ly μ) {s : Nat} (hs : s < 4) {res : Option ZV} {μ' : ZMem} (hx : zWA g (RX7, cX7_outside, 5, ((some FieldType.double)), zrm 1, res, μ') 79 (zls [(0, zr (some 0)), (1, zi (nI s)), (2, zd (zit (t_wv μ s) (8) 0)), (4, zi (nI (8)))]) [] μ) : zWA g (RX7, cX7_outside, 5, ((some FieldType.double)), zrm 1, res, μ') 5 (zls [(0, zr (some 0)), (1, zi (nI s)), (2, zd (zit (t_wv μ s) (0) 0)), (4, zi (nI (0)))]) [] μ := by
  have hO0 : zO g 7 0 := hG.o 0 (by decide)
  have hO23 : zO g 11 23 := hG.o 23 (by decide)
  have hl23 : zln g 23 = 32 := hG.l 23 (by decide)
  have hO24 : zO g 8 24 := hG.o 24 (by decide)
  have hl24 : zln g 24 = 32 := hG.l 24 (by decide)
  have hO25 : zO g 8 25 := hG.o 25 (by decide)
  have hl25 : zln g 25 = 32 := hG.l 25 (by decide)
  have hw0 : zI μ 0 0 = nI w := hL.2.1
  have hh0 : zI μ 0 1 = nI h := hL.2.2.1
  have hy0 : zI μ 0 2 = ly := hL.2.2.2.1
  obtain ⟨hb1, hb2, hb3, hb4⟩ := hL.2.2.2.2
  refine zloop (P := fun k => zWA g (RX7, cX7_outside, 5, ((some FieldType.double)), zrm 1, res, μ') 5 (zls [(0, zr (some 0)), (1, zi (nI s)), (2, zd (zit (t_wv μ s) (k) 0)), (4, zi (nI (k)))]) [] μ) (N := 8) ?_ ?_ 0 (Nat.zero_le _)
  · show zWA _ _ _ _ _ _
    refine zx_iload dX7_outside_5 rfl ?_
    refine zx_bipush 8 dX7_outside_7 (by decide) ?_
    refine zx_icmp_ge (tgt := 79) dX7_outside_9 (by decide) (fun _ => ?_) (fun h_ => absurd h_ (fun q => q (by decide)))
    exact zWA_to hx ⟨rfl, rfl, rfl, rfl, trivial⟩
  · intro k hk hn_
    show zWA _ _ _ _ _ _
    refine zx_iload dX7_outside_5 rfl ?_
    refine zx_bipush 8 dX7_outside_7 (by decide) ?_
    refine zx_icmp_ge (tgt := 79) dX7_outside_9 (by decide) (fun h_ => absurd h_ (nI_ge hk (by decide))) (fun _ => ?_)
    refine zx_aload_n dX7_outside_12 rfl rfl ?_
    refine zx_getR zf_X7_51 (by assumption) (show _ = some 23 from hL.1 22 (by decide)) rfl dX7_outside_13 ?_
    refine zx_bipush 8 dX7_outside_16 (by decide) ?_
    refine zx_iload_n dX7_outside_18 rfl rfl ?_
    refine zx_imul dX7_outside_19 ?_
    refine zx_iload dX7_outside_20 rfl ?_
    refine zx_iadd dX7_outside_22 ?_
    refine zx_zald (8 * s + k) (by assumption) (zat8 s k) ⟨by rw [hl23]; omega, by rw [hl23]; decide⟩ dX7_outside_23 ?_
    refine zx_if_eq (tgt := 73) dX7_outside_24 (by decide) (fun c_24 => ?_) (fun c_24 => ?_)
    · skip
      have e_ : zit (t_wv μ s) (k + 1) 0 = zit (t_wv μ s) k 0 := if_pos (show (zI μ 23 (8 * s + k) = 0) from c_24)
      refine zx_iinc (nI (k + 1)) dX7_outside_73 rfl (by exact nI_1 k) (Nat.le_of_ble_eq_true rfl) ?_
      refine zx_goto (tgt := 5) dX7_outside_76 (by decide) ?_
      exact zWA_to (zWA_mem hn_ (by rfl)) ⟨rfl, rfl, congrArg (fun q => some (zd q)) e_.symm, rfl, trivial⟩
    · skip
      refine zx_dload_n dX7_outside_27 rfl rfl ?_
      refine zx_aload_n dX7_outside_28 rfl rfl ?_
      refine zx_getR zf_X7_54 (by assumption) (show _ = some 24 from hL.1 23 (by decide)) rfl dX7_outside_29 ?_
      refine zx_bipush 8 dX7_outside_32 (by decide) ?_
      refine zx_iload_n dX7_outside_34 rfl rfl ?_
      refine zx_imul dX7_outside_35 ?_
      refine zx_iload dX7_outside_36 rfl ?_
      refine zx_iadd dX7_outside_38 ?_
      refine zx_dald (8 * s + k) (by assumption) (zat8 s k) ⟨by rw [hl24]; omega, by rw [hl24]; decide⟩ dX7_outside_39 ?_
      refine zx_aload_n dX7_outside_40 rfl rfl ?_
      refine zx_getD zf_X7_186 (by assumption) rfl dX7_outside_41 ?_
      refine zx_ldc2d 4660134898793709568 zk_X7_190 (by decide +kernel) dX7_outside_44 ?_
      refine zx_iload dX7_outside_47 rfl ?_
      refine zx_iconst 1 dX7_outside_49 (by decide) ?_
      refine zx_iadd dX7_outside_50 ?_
      refine zx_i2d dX7_outside_51 ?_
      refine zx_dmul dX7_outside_52 ?_
      refine zx_ddiv dX7_outside_53 ?_
      refine zx_aload_n dX7_outside_54 rfl rfl ?_
      refine zx_getR zf_X7_57 (by assumption) (show _ = some 25 from hL.1 24 (by decide)) rfl dX7_outside_55 ?_
      refine zx_bipush 8 dX7_outside_58 (by decide) ?_
      refine zx_iload_n dX7_outside_60 rfl rfl ?_
      refine zx_imul dX7_outside_61 ?_
      refine zx_iload dX7_outside_62 rfl ?_
      refine zx_iadd dX7_outside_64 ?_
      refine zx_dald (8 * s + k) (by assumption) (zat8 s k) ⟨by rw [hl25]; omega, by rw [hl25]; decide⟩ dX7_outside_65 ?_
      refine zx_dadd dX7_outside_66 ?_
      refine zx_callS1 _ zs_X7_192 m_X7_saw rfl rfl ⟨rfl, rfl, (Nat.le_of_ble_eq_true rfl), (Nat.le_of_ble_eq_true rfl)⟩ (Nat.le_of_ble_eq_true rfl) dX7_outside_67 ?_
      refine zx_dmul dX7_outside_70 ?_
      refine zx_dadd dX7_outside_71 ?_
      refine zx_dstore_n dX7_outside_72 rfl (Nat.le_of_ble_eq_true rfl) ?_
      have e_ : zit (t_wv μ s) (k + 1) 0 = _ := if_neg (show ¬ (zI μ 23 (8 * s + k) = 0) from c_24)
      refine zx_iinc (nI (k + 1)) dX7_outside_73 rfl (by exact nI_1 k) (Nat.le_of_ble_eq_true rfl) ?_
      refine zx_goto (tgt := 5) dX7_outside_76 (by decide) ?_
      exact zWA_to (zWA_mem hn_ (by rfl)) ⟨rfl, rfl, congrArg (fun q => some (zd q)) e_.symm, rfl, trivial⟩

set_option maxHeartbeats 4000000 in
set_option maxRecDepth 100000 in
theorem m_X7_outside {g : ZG} {μ : ZMem} {w h : Nat} {ly : Int32} (hG : zGM g) (hL : zLM w h ly μ) {s : Nat} (hs : s < 4) : zCab g RX7 yX7_outside cX7_outside 5 ((some FieldType.double)) (zrm 1) [zr (some 0), zi (nI s)] μ (some (zd (t_outside μ s))) μ := by
  refine zCab_w (by decide +kernel) rfl (Nat.le_of_ble_eq_true rfl) ?_
  have hO0 : zO g 7 0 := hG.o 0 (by decide)
  have hO23 : zO g 11 23 := hG.o 23 (by decide)
  have hl23 : zln g 23 = 32 := hG.l 23 (by decide)
  have hO24 : zO g 8 24 := hG.o 24 (by decide)
  have hl24 : zln g 24 = 32 := hG.l 24 (by decide)
  have hO25 : zO g 8 25 := hG.o 25 (by decide)
  have hl25 : zln g 25 = 32 := hG.l 25 (by decide)
  have hw0 : zI μ 0 0 = nI w := hL.2.1
  have hh0 : zI μ 0 1 = nI h := hL.2.2.1
  have hy0 : zI μ 0 2 = ly := hL.2.2.2.1
  obtain ⟨hb1, hb2, hb3, hb4⟩ := hL.2.2.2.2
  refine zx_dconst0 dX7_outside_0 ?_
  refine zx_dstore_n dX7_outside_1 rfl (Nat.le_of_ble_eq_true rfl) ?_
  refine zx_iconst 0 dX7_outside_2 (by decide) ?_
  refine zx_istore dX7_outside_3 (Nat.le_of_ble_eq_true rfl) ?_
  refine zWA_to (L_X7_outside hG hL hs ?_) ⟨rfl, rfl, rfl, rfl, trivial⟩
  refine zx_dload_n dX7_outside_79 rfl rfl ?_
  exact zx_dreturn rfl (by rfl) (by rfl) dX7_outside_80

def t_at (μ : ZMem) (x : Option Nat) (out : UInt64) : UInt64 := match x with
  | none => out
  | some c => t_lev μ c
def t_spd (μ : ZMem) (f : Nat) (b e : Option Nat) (out h w : UInt64) : UInt64 := zdiv (zadd (zD μ 11 f) (zmul h (zadd (zmul kg (zsub (t_at μ b out) (t_at μ e out))) (zmul kw w)))) (zadd k1 (zmul (zmul kf h) (t_size (zD μ 11 f))))
def t_min (μ : ZMem) (b e : Option Nat) : Int64 := match b, e with
  | none, none => 0
  | none, some c => zL μ 7 c
  | some c, none => zL μ 7 c
  | some c, some d => s_min64 (zL μ 7 c) (zL μ 7 d)
def t_lim1 (μ : ZMem) (x : Option Nat) (q : Int64) : Int64 := match x with
  | none => q
  | some c => if zL μ 7 c < 50 then 0 else if zL μ 7 c / 8 < q then zL μ 7 c / 8 else if q < -(zL μ 7 c / 8) then -(zL μ 7 c / 8) else q
def t_lim (μ : ZMem) (b e : Option Nat) (q : Int64) : Int64 := if 0 < q then t_lim1 μ b q else t_lim1 μ e q
def q_flow1 (μ : ZMem) (f : Nat) (s : UInt64) (b e : Option Nat) (h : UInt64) : ZMem := zsL (zsD μ 11 f s) 19 f (t_lim μ b e (FP.d2l (zmul (zmul s h) (zmul (FP.l2d (t_min μ b e)) k0001))))
def q_flow (μ : ZMem) (f : Nat) (a : Int32) (b e : Option Nat) (out h : UInt64) (hr : Nat) : ZMem := q_flow1 μ f (t_spd μ f b e out h (if a = 0 then zD μ 26 hr else zD μ 27 hr)) b e h
theorem zKp_flow (μ : ZMem) (f : Nat) (a : Int32) (b e : Option Nat) (out h : UInt64) (hr : Nat) : zKp (q_flow μ f a b e out h hr) μ := ⟨rfl, rfl⟩
set_option maxHeartbeats 4000000 in
set_option maxRecDepth 100000 in
theorem m_X7_flow_ne {g : ZG} {μ : ZMem} {w h : Nat} {ly : Int32} (hG : zGM g) (hL : zLM w h ly μ) {f : Nat} (hf : f < 336) {a : Int32} {d : Nat} (hd : d < 144) {out v : UInt64} {hr : Nat} (hhr : hr < 24) (hH : (FP.d2l (zdiv (zD μ 0 13) k3600) - FP.d2l (zdiv (zD μ 0 13) k3600) / 24 * 24).toInt32 = nI hr) : zCab g RX7 yX7_flow cX7_flow 23 (none) (zrm 1) [zr (some 0), zi (nI f), zi a, zi (-1), zi (nI d), zd out, zd v] μ none (q_flow μ f a none (some d) out v hr) := by
  refine zCab_w (by decide +kernel) rfl (Nat.le_of_ble_eq_true rfl) ?_
  have hO0 : zO g 7 0 := hG.o 0 (by decide)
  have hO7 : zO g 10 7 := hG.o 7 (by decide)
  have hl7 : zln g 7 = 144 := hG.l 7 (by decide)
  have hO11 : zO g 8 11 := hG.o 11 (by decide)
  have hl11 : zln g 11 = 336 := hG.l 11 (by decide)
  have hO19 : zO g 10 19 := hG.o 19 (by decide)
  have hl19 : zln g 19 = 336 := hG.l 19 (by decide)
  have hO26 : zO g 8 26 := hG.o 26 (by decide)
  have hl26 : zln g 26 = 24 := hG.l 26 (by decide)
  have hO27 : zO g 8 27 := hG.o 27 (by decide)
  have hl27 : zln g 27 = 24 := hG.l 27 (by decide)
  have hw0 : zI μ 0 0 = nI w := hL.2.1
  have hh0 : zI μ 0 1 = nI h := hL.2.2.1
  have hy0 : zI μ 0 2 = ly := hL.2.2.2.1
  obtain ⟨hb1, hb2, hb3, hb4⟩ := hL.2.2.2.2
  refine zx_iload_n dX7_flow_0 rfl rfl ?_
  refine zx_iconst (-1) dX7_flow_1 (by decide) ?_
  refine zx_icmp_ne (tgt := 10) dX7_flow_2 (by decide) (fun h_ => absurd h_ (fun q => q rfl)) (fun _ => ?_)
  refine zx_dload dX7_flow_5 rfl ?_
  refine zx_goto (tgt := 15) dX7_flow_7 (by decide) ?_
  refine zx_iload dX7_flow_15 rfl ?_
  refine zx_iconst (-1) dX7_flow_17 (by decide) ?_
  refine zx_icmp_ne (tgt := 26) dX7_flow_18 (by decide) (fun _ => ?_) (fun h_ => absurd h_ (nI_ne1 (show d < 2 ^ 31 by omega)))
  refine zx_aload_n dX7_flow_26 rfl rfl ?_
  refine zx_iload dX7_flow_27 rfl ?_
  refine zx_callV1 _ zv_X7_198 (m_X7_levelOf hG hL hd) (by assumption) (by decide) rfl rfl rfl ⟨rfl, rfl, (Nat.le_of_ble_eq_true rfl), (Nat.le_of_ble_eq_true rfl)⟩ (Nat.le_of_ble_eq_true rfl) dX7_flow_29 ?_
  refine zx_dsub dX7_flow_32 ?_
  refine zx_dstore dX7_flow_33 (Nat.le_of_ble_eq_true rfl) ?_
  refine zx_aload_n dX7_flow_35 rfl rfl ?_
  refine zx_getD zf_X7_186 (by assumption) rfl dX7_flow_36 ?_
  refine zx_ldc2d 4660134898793709568 zk_X7_190 (by decide +kernel) dX7_flow_39 ?_
  refine zx_ddiv dX7_flow_42 ?_
  refine zx_d2l dX7_flow_43 ?_
  refine zx_ldc2l 24 zk_X7_202 dX7_flow_44 ?_
  refine zx_lrem dX7_flow_47 (by decide) ?_
  refine zx_l2i dX7_flow_48 ?_
  refine zx_istore dX7_flow_49 (Nat.le_of_ble_eq_true rfl) ?_
  rw [hH]
  refine zx_iload_n dX7_flow_51 rfl rfl ?_
  refine zx_if_ne (tgt := 65) dX7_flow_52 (by decide) (fun c_52 => ?_) (fun c_52 => ?_)
  · skip
    refine zx_aload_n dX7_flow_65 rfl rfl ?_
    refine zx_getR zf_X7_63 (by assumption) (show _ = some 27 from hL.1 26 (by decide)) rfl dX7_flow_66 ?_
    refine zx_iload dX7_flow_69 rfl ?_
    refine zx_dald (hr) (by assumption) rfl ⟨by rw [hl27]; assumption, by rw [hl27]; decide⟩ dX7_flow_71 ?_
    refine zx_dstore dX7_flow_72 (Nat.le_of_ble_eq_true rfl) ?_
    refine zx_aload_n dX7_flow_74 rfl rfl ?_
    refine zx_getR zf_X7_33 (by assumption) (show _ = some 11 from hL.1 10 (by decide)) rfl dX7_flow_75 ?_
    refine zx_iload_n dX7_flow_78 rfl rfl ?_
    refine zx_dald (f) (by assumption) rfl ⟨by rw [hl11]; assumption, by rw [hl11]; decide⟩ dX7_flow_79 ?_
    refine zx_dstore dX7_flow_80 (Nat.le_of_ble_eq_true rfl) ?_
    refine zx_dload dX7_flow_82 rfl ?_
    refine zx_dload dX7_flow_84 rfl ?_
    refine zx_ldc2d 4576808701761150024 zk_X7_204 (by decide +kernel) dX7_flow_86 ?_
    refine zx_dload dX7_flow_89 rfl ?_
    refine zx_dmul dX7_flow_91 ?_
    refine zx_ldc2d 4532020583610935537 zk_X7_206 (by decide +kernel) dX7_flow_92 ?_
    refine zx_dload dX7_flow_95 rfl ?_
    refine zx_dmul dX7_flow_97 ?_
    refine zx_dadd dX7_flow_98 ?_
    refine zx_dmul dX7_flow_99 ?_
    refine zx_dadd dX7_flow_100 ?_
    refine zx_dconst1 dX7_flow_101 ?_
    refine zx_ldc2d 4566758108544739836 zk_X7_208 (by decide +kernel) dX7_flow_102 ?_
    refine zx_dload dX7_flow_105 rfl ?_
    refine zx_dmul dX7_flow_107 ?_
    refine zx_dload dX7_flow_108 rfl ?_
    refine zx_callS1 _ zs_X7_210 m_X7_size rfl rfl ⟨rfl, rfl, (Nat.le_of_ble_eq_true rfl), (Nat.le_of_ble_eq_true rfl)⟩ (Nat.le_of_ble_eq_true rfl) dX7_flow_110 ?_
    refine zx_dmul dX7_flow_113 ?_
    refine zx_dadd dX7_flow_114 ?_
    refine zx_ddiv dX7_flow_115 ?_
    refine zx_dstore dX7_flow_116 (Nat.le_of_ble_eq_true rfl) ?_
    refine zx_aload_n dX7_flow_118 rfl rfl ?_
    refine zx_getR zf_X7_33 (by assumption) (show _ = some 11 from hL.1 10 (by decide)) rfl dX7_flow_119 ?_
    refine zx_iload_n dX7_flow_122 rfl rfl ?_
    refine zx_dload dX7_flow_123 rfl ?_
    refine zx_dast (f) (by assumption) rfl ⟨by rw [hl11]; assumption, by rw [hl11]; decide⟩ dX7_flow_125 ?_
    refine zx_iload_n dX7_flow_126 rfl rfl ?_
    refine zx_iconst (-1) dX7_flow_127 (by decide) ?_
    refine zx_icmp_ne (tgt := 141) dX7_flow_128 (by decide) (fun h_ => absurd h_ (fun q => q rfl)) (fun _ => ?_)
    refine zx_aload_n dX7_flow_131 rfl rfl ?_
    refine zx_getR zf_X7_20 (by assumption) (show _ = some 7 from hL.1 6 (by decide)) rfl dX7_flow_132 ?_
    refine zx_iload dX7_flow_135 rfl ?_
    refine zx_lald (d) (by assumption) rfl ⟨by rw [hl7]; assumption, by rw [hl7]; decide⟩ dX7_flow_137 ?_
    refine zx_goto (tgt := 172) dX7_flow_138 (by decide) ?_
    refine zx_lstore dX7_flow_172 (Nat.le_of_ble_eq_true rfl) ?_
    refine zx_dload dX7_flow_174 rfl ?_
    refine zx_dload dX7_flow_176 rfl ?_
    refine zx_dmul dX7_flow_178 ?_
    refine zx_lload dX7_flow_179 rfl ?_
    refine zx_l2d dX7_flow_181 ?_
    refine zx_ldc2d 4562254508917369340 zk_X7_196 (by decide +kernel) dX7_flow_182 ?_
    refine zx_dmul dX7_flow_185 ?_
    refine zx_dmul dX7_flow_186 ?_
    refine zx_d2l dX7_flow_187 ?_
    refine zx_lstore dX7_flow_188 (Nat.le_of_ble_eq_true rfl) ?_
    refine zx_lload dX7_flow_190 rfl ?_
    refine zx_lconst 0 dX7_flow_192 (by decide) ?_
    refine zx_lc_le (tgt := 201) dX7_flow_193 dX7_flow_194 (by decide) (fun c_193 => ?_) (fun c_193 => ?_)
    · skip
      refine zx_iload dX7_flow_201 rfl ?_
      refine zx_istore dX7_flow_203 (Nat.le_of_ble_eq_true rfl) ?_
      refine zx_iload dX7_flow_205 rfl ?_
      refine zx_iconst (-1) dX7_flow_207 (by decide) ?_
      refine zx_icmp_eq (tgt := 274) dX7_flow_208 (by decide) (fun h_ => absurd h_ (nI_ne1 (show d < 2 ^ 31 by omega))) (fun _ => ?_)
      refine zx_aload_n dX7_flow_211 rfl rfl ?_
      refine zx_getR zf_X7_20 (by assumption) (show _ = some 7 from hL.1 6 (by decide)) rfl dX7_flow_212 ?_
      refine zx_iload dX7_flow_215 rfl ?_
      refine zx_lald (d) (by assumption) rfl ⟨by rw [hl7]; assumption, by rw [hl7]; decide⟩ dX7_flow_217 ?_
      refine zx_ldc2l 8 zk_X7_219 dX7_flow_218 ?_
      refine zx_ldiv dX7_flow_221 (by decide) ?_
      refine zx_lstore dX7_flow_222 (Nat.le_of_ble_eq_true rfl) ?_
      refine zx_aload_n dX7_flow_224 rfl rfl ?_
      refine zx_getR zf_X7_20 (by assumption) (show _ = some 7 from hL.1 6 (by decide)) rfl dX7_flow_225 ?_
      refine zx_iload dX7_flow_228 rfl ?_
      refine zx_lald (d) (by assumption) rfl ⟨by rw [hl7]; assumption, by rw [hl7]; decide⟩ dX7_flow_230 ?_
      refine zx_ldc2l 50 zk_X7_221 dX7_flow_231 ?_
      refine zx_lc_ge (tgt := 242) dX7_flow_234 dX7_flow_235 (by decide) (fun c_234 => ?_) (fun c_234 => ?_)
      · skip
        refine zx_lload dX7_flow_242 rfl ?_
        refine zx_lload dX7_flow_244 rfl ?_
        refine zx_lc_le (tgt := 255) dX7_flow_246 dX7_flow_247 (by decide) (fun c_246 => ?_) (fun c_246 => ?_)
        · skip
          refine zx_lload dX7_flow_255 rfl ?_
          refine zx_lload dX7_flow_257 rfl ?_
          refine zx_lneg dX7_flow_259 ?_
          refine zx_lc_ge (tgt := 270) dX7_flow_260 dX7_flow_261 (by decide) (fun c_260 => ?_) (fun c_260 => ?_)
          · skip
            refine zx_lload dX7_flow_270 rfl ?_
            refine zx_lstore dX7_flow_272 (Nat.le_of_ble_eq_true rfl) ?_
            refine zx_aload_n dX7_flow_274 rfl rfl ?_
            refine zx_getR zf_X7_48 (by assumption) (show _ = some 19 from hL.1 18 (by decide)) rfl dX7_flow_275 ?_
            refine zx_iload_n dX7_flow_278 rfl rfl ?_
            refine zx_lload dX7_flow_279 rfl ?_
            refine zx_last (f) (by assumption) rfl ⟨by rw [hl19]; assumption, by rw [hl19]; decide⟩ dX7_flow_281 ?_
            exact zx_return rfl rfl (by exact (Eq.trans (congrArg (fun w => q_flow1 μ f (t_spd μ f none (some d) out v w) none (some d) v) (if_neg c_52)) (congrArg (zsL (zsD μ 11 f _) 19 f) (Eq.trans (if_neg c_193) (Eq.trans (if_neg c_234) (Eq.trans (if_neg c_246) (if_neg c_260))))))) dX7_flow_282
          · skip
            refine zx_lload dX7_flow_264 rfl ?_
            refine zx_lneg dX7_flow_266 ?_
            refine zx_goto (tgt := 272) dX7_flow_267 (by decide) ?_
            refine zx_lstore dX7_flow_272 (Nat.le_of_ble_eq_true rfl) ?_
            refine zx_aload_n dX7_flow_274 rfl rfl ?_
            refine zx_getR zf_X7_48 (by assumption) (show _ = some 19 from hL.1 18 (by decide)) rfl dX7_flow_275 ?_
            refine zx_iload_n dX7_flow_278 rfl rfl ?_
            refine zx_lload dX7_flow_279 rfl ?_
            refine zx_last (f) (by assumption) rfl ⟨by rw [hl19]; assumption, by rw [hl19]; decide⟩ dX7_flow_281 ?_
            exact zx_return rfl rfl (by exact (Eq.trans (congrArg (fun w => q_flow1 μ f (t_spd μ f none (some d) out v w) none (some d) v) (if_neg c_52)) (congrArg (zsL (zsD μ 11 f _) 19 f) (Eq.trans (if_neg c_193) (Eq.trans (if_neg c_234) (Eq.trans (if_neg c_246) (if_pos c_260))))))) dX7_flow_282
        · skip
          refine zx_lload dX7_flow_250 rfl ?_
          refine zx_goto (tgt := 272) dX7_flow_252 (by decide) ?_
          refine zx_lstore dX7_flow_272 (Nat.le_of_ble_eq_true rfl) ?_
          refine zx_aload_n dX7_flow_274 rfl rfl ?_
          refine zx_getR zf_X7_48 (by assumption) (show _ = some 19 from hL.1 18 (by decide)) rfl dX7_flow_275 ?_
          refine zx_iload_n dX7_flow_278 rfl rfl ?_
          refine zx_lload dX7_flow_279 rfl ?_
          refine zx_last (f) (by assumption) rfl ⟨by rw [hl19]; assumption, by rw [hl19]; decide⟩ dX7_flow_281 ?_
          exact zx_return rfl rfl (by exact (Eq.trans (congrArg (fun w => q_flow1 μ f (t_spd μ f none (some d) out v w) none (some d) v) (if_neg c_52)) (congrArg (zsL (zsD μ 11 f _) 19 f) (Eq.trans (if_neg c_193) (Eq.trans (if_neg c_234) (if_pos c_246)))))) dX7_flow_282
      · skip
        refine zx_lconst 0 dX7_flow_238 (by decide) ?_
        refine zx_goto (tgt := 272) dX7_flow_239 (by decide) ?_
        refine zx_lstore dX7_flow_272 (Nat.le_of_ble_eq_true rfl) ?_
        refine zx_aload_n dX7_flow_274 rfl rfl ?_
        refine zx_getR zf_X7_48 (by assumption) (show _ = some 19 from hL.1 18 (by decide)) rfl dX7_flow_275 ?_
        refine zx_iload_n dX7_flow_278 rfl rfl ?_
        refine zx_lload dX7_flow_279 rfl ?_
        refine zx_last (f) (by assumption) rfl ⟨by rw [hl19]; assumption, by rw [hl19]; decide⟩ dX7_flow_281 ?_
        exact zx_return rfl rfl (by exact (Eq.trans (congrArg (fun w => q_flow1 μ f (t_spd μ f none (some d) out v w) none (some d) v) (if_neg c_52)) (congrArg (zsL (zsD μ 11 f _) 19 f) (Eq.trans (if_neg c_193) (if_pos c_234))))) dX7_flow_282
    · skip
      refine zx_iload_n dX7_flow_197 rfl rfl ?_
      refine zx_goto (tgt := 203) dX7_flow_198 (by decide) ?_
      refine zx_istore dX7_flow_203 (Nat.le_of_ble_eq_true rfl) ?_
      refine zx_iload dX7_flow_205 rfl ?_
      refine zx_iconst (-1) dX7_flow_207 (by decide) ?_
      refine zx_icmp_eq (tgt := 274) dX7_flow_208 (by decide) (fun _ => ?_) (fun h_ => absurd h_ (fun q => q rfl))
      refine zx_aload_n dX7_flow_274 rfl rfl ?_
      refine zx_getR zf_X7_48 (by assumption) (show _ = some 19 from hL.1 18 (by decide)) rfl dX7_flow_275 ?_
      refine zx_iload_n dX7_flow_278 rfl rfl ?_
      refine zx_lload dX7_flow_279 rfl ?_
      refine zx_last (f) (by assumption) rfl ⟨by rw [hl19]; assumption, by rw [hl19]; decide⟩ dX7_flow_281 ?_
      exact zx_return rfl rfl (by exact (Eq.trans (congrArg (fun w => q_flow1 μ f (t_spd μ f none (some d) out v w) none (some d) v) (if_neg c_52)) (congrArg (zsL (zsD μ 11 f _) 19 f) (if_pos c_193)))) dX7_flow_282
  · skip
    refine zx_aload_n dX7_flow_55 rfl rfl ?_
    refine zx_getR zf_X7_60 (by assumption) (show _ = some 26 from hL.1 25 (by decide)) rfl dX7_flow_56 ?_
    refine zx_iload dX7_flow_59 rfl ?_
    refine zx_dald (hr) (by assumption) rfl ⟨by rw [hl26]; assumption, by rw [hl26]; decide⟩ dX7_flow_61 ?_
    refine zx_goto (tgt := 72) dX7_flow_62 (by decide) ?_
    refine zx_dstore dX7_flow_72 (Nat.le_of_ble_eq_true rfl) ?_
    refine zx_aload_n dX7_flow_74 rfl rfl ?_
    refine zx_getR zf_X7_33 (by assumption) (show _ = some 11 from hL.1 10 (by decide)) rfl dX7_flow_75 ?_
    refine zx_iload_n dX7_flow_78 rfl rfl ?_
    refine zx_dald (f) (by assumption) rfl ⟨by rw [hl11]; assumption, by rw [hl11]; decide⟩ dX7_flow_79 ?_
    refine zx_dstore dX7_flow_80 (Nat.le_of_ble_eq_true rfl) ?_
    refine zx_dload dX7_flow_82 rfl ?_
    refine zx_dload dX7_flow_84 rfl ?_
    refine zx_ldc2d 4576808701761150024 zk_X7_204 (by decide +kernel) dX7_flow_86 ?_
    refine zx_dload dX7_flow_89 rfl ?_
    refine zx_dmul dX7_flow_91 ?_
    refine zx_ldc2d 4532020583610935537 zk_X7_206 (by decide +kernel) dX7_flow_92 ?_
    refine zx_dload dX7_flow_95 rfl ?_
    refine zx_dmul dX7_flow_97 ?_
    refine zx_dadd dX7_flow_98 ?_
    refine zx_dmul dX7_flow_99 ?_
    refine zx_dadd dX7_flow_100 ?_
    refine zx_dconst1 dX7_flow_101 ?_
    refine zx_ldc2d 4566758108544739836 zk_X7_208 (by decide +kernel) dX7_flow_102 ?_
    refine zx_dload dX7_flow_105 rfl ?_
    refine zx_dmul dX7_flow_107 ?_
    refine zx_dload dX7_flow_108 rfl ?_
    refine zx_callS1 _ zs_X7_210 m_X7_size rfl rfl ⟨rfl, rfl, (Nat.le_of_ble_eq_true rfl), (Nat.le_of_ble_eq_true rfl)⟩ (Nat.le_of_ble_eq_true rfl) dX7_flow_110 ?_
    refine zx_dmul dX7_flow_113 ?_
    refine zx_dadd dX7_flow_114 ?_
    refine zx_ddiv dX7_flow_115 ?_
    refine zx_dstore dX7_flow_116 (Nat.le_of_ble_eq_true rfl) ?_
    refine zx_aload_n dX7_flow_118 rfl rfl ?_
    refine zx_getR zf_X7_33 (by assumption) (show _ = some 11 from hL.1 10 (by decide)) rfl dX7_flow_119 ?_
    refine zx_iload_n dX7_flow_122 rfl rfl ?_
    refine zx_dload dX7_flow_123 rfl ?_
    refine zx_dast (f) (by assumption) rfl ⟨by rw [hl11]; assumption, by rw [hl11]; decide⟩ dX7_flow_125 ?_
    refine zx_iload_n dX7_flow_126 rfl rfl ?_
    refine zx_iconst (-1) dX7_flow_127 (by decide) ?_
    refine zx_icmp_ne (tgt := 141) dX7_flow_128 (by decide) (fun h_ => absurd h_ (fun q => q rfl)) (fun _ => ?_)
    refine zx_aload_n dX7_flow_131 rfl rfl ?_
    refine zx_getR zf_X7_20 (by assumption) (show _ = some 7 from hL.1 6 (by decide)) rfl dX7_flow_132 ?_
    refine zx_iload dX7_flow_135 rfl ?_
    refine zx_lald (d) (by assumption) rfl ⟨by rw [hl7]; assumption, by rw [hl7]; decide⟩ dX7_flow_137 ?_
    refine zx_goto (tgt := 172) dX7_flow_138 (by decide) ?_
    refine zx_lstore dX7_flow_172 (Nat.le_of_ble_eq_true rfl) ?_
    refine zx_dload dX7_flow_174 rfl ?_
    refine zx_dload dX7_flow_176 rfl ?_
    refine zx_dmul dX7_flow_178 ?_
    refine zx_lload dX7_flow_179 rfl ?_
    refine zx_l2d dX7_flow_181 ?_
    refine zx_ldc2d 4562254508917369340 zk_X7_196 (by decide +kernel) dX7_flow_182 ?_
    refine zx_dmul dX7_flow_185 ?_
    refine zx_dmul dX7_flow_186 ?_
    refine zx_d2l dX7_flow_187 ?_
    refine zx_lstore dX7_flow_188 (Nat.le_of_ble_eq_true rfl) ?_
    refine zx_lload dX7_flow_190 rfl ?_
    refine zx_lconst 0 dX7_flow_192 (by decide) ?_
    refine zx_lc_le (tgt := 201) dX7_flow_193 dX7_flow_194 (by decide) (fun c_193 => ?_) (fun c_193 => ?_)
    · skip
      refine zx_iload dX7_flow_201 rfl ?_
      refine zx_istore dX7_flow_203 (Nat.le_of_ble_eq_true rfl) ?_
      refine zx_iload dX7_flow_205 rfl ?_
      refine zx_iconst (-1) dX7_flow_207 (by decide) ?_
      refine zx_icmp_eq (tgt := 274) dX7_flow_208 (by decide) (fun h_ => absurd h_ (nI_ne1 (show d < 2 ^ 31 by omega))) (fun _ => ?_)
      refine zx_aload_n dX7_flow_211 rfl rfl ?_
      refine zx_getR zf_X7_20 (by assumption) (show _ = some 7 from hL.1 6 (by decide)) rfl dX7_flow_212 ?_
      refine zx_iload dX7_flow_215 rfl ?_
      refine zx_lald (d) (by assumption) rfl ⟨by rw [hl7]; assumption, by rw [hl7]; decide⟩ dX7_flow_217 ?_
      refine zx_ldc2l 8 zk_X7_219 dX7_flow_218 ?_
      refine zx_ldiv dX7_flow_221 (by decide) ?_
      refine zx_lstore dX7_flow_222 (Nat.le_of_ble_eq_true rfl) ?_
      refine zx_aload_n dX7_flow_224 rfl rfl ?_
      refine zx_getR zf_X7_20 (by assumption) (show _ = some 7 from hL.1 6 (by decide)) rfl dX7_flow_225 ?_
      refine zx_iload dX7_flow_228 rfl ?_
      refine zx_lald (d) (by assumption) rfl ⟨by rw [hl7]; assumption, by rw [hl7]; decide⟩ dX7_flow_230 ?_
      refine zx_ldc2l 50 zk_X7_221 dX7_flow_231 ?_
      refine zx_lc_ge (tgt := 242) dX7_flow_234 dX7_flow_235 (by decide) (fun c_234 => ?_) (fun c_234 => ?_)
      · skip
        refine zx_lload dX7_flow_242 rfl ?_
        refine zx_lload dX7_flow_244 rfl ?_
        refine zx_lc_le (tgt := 255) dX7_flow_246 dX7_flow_247 (by decide) (fun c_246 => ?_) (fun c_246 => ?_)
        · skip
          refine zx_lload dX7_flow_255 rfl ?_
          refine zx_lload dX7_flow_257 rfl ?_
          refine zx_lneg dX7_flow_259 ?_
          refine zx_lc_ge (tgt := 270) dX7_flow_260 dX7_flow_261 (by decide) (fun c_260 => ?_) (fun c_260 => ?_)
          · skip
            refine zx_lload dX7_flow_270 rfl ?_
            refine zx_lstore dX7_flow_272 (Nat.le_of_ble_eq_true rfl) ?_
            refine zx_aload_n dX7_flow_274 rfl rfl ?_
            refine zx_getR zf_X7_48 (by assumption) (show _ = some 19 from hL.1 18 (by decide)) rfl dX7_flow_275 ?_
            refine zx_iload_n dX7_flow_278 rfl rfl ?_
            refine zx_lload dX7_flow_279 rfl ?_
            refine zx_last (f) (by assumption) rfl ⟨by rw [hl19]; assumption, by rw [hl19]; decide⟩ dX7_flow_281 ?_
            exact zx_return rfl rfl (by exact (Eq.trans (congrArg (fun w => q_flow1 μ f (t_spd μ f none (some d) out v w) none (some d) v) (if_pos c_52)) (congrArg (zsL (zsD μ 11 f _) 19 f) (Eq.trans (if_neg c_193) (Eq.trans (if_neg c_234) (Eq.trans (if_neg c_246) (if_neg c_260))))))) dX7_flow_282
          · skip
            refine zx_lload dX7_flow_264 rfl ?_
            refine zx_lneg dX7_flow_266 ?_
            refine zx_goto (tgt := 272) dX7_flow_267 (by decide) ?_
            refine zx_lstore dX7_flow_272 (Nat.le_of_ble_eq_true rfl) ?_
            refine zx_aload_n dX7_flow_274 rfl rfl ?_
            refine zx_getR zf_X7_48 (by assumption) (show _ = some 19 from hL.1 18 (by decide)) rfl dX7_flow_275 ?_
            refine zx_iload_n dX7_flow_278 rfl rfl ?_
            refine zx_lload dX7_flow_279 rfl ?_
            refine zx_last (f) (by assumption) rfl ⟨by rw [hl19]; assumption, by rw [hl19]; decide⟩ dX7_flow_281 ?_
            exact zx_return rfl rfl (by exact (Eq.trans (congrArg (fun w => q_flow1 μ f (t_spd μ f none (some d) out v w) none (some d) v) (if_pos c_52)) (congrArg (zsL (zsD μ 11 f _) 19 f) (Eq.trans (if_neg c_193) (Eq.trans (if_neg c_234) (Eq.trans (if_neg c_246) (if_pos c_260))))))) dX7_flow_282
        · skip
          refine zx_lload dX7_flow_250 rfl ?_
          refine zx_goto (tgt := 272) dX7_flow_252 (by decide) ?_
          refine zx_lstore dX7_flow_272 (Nat.le_of_ble_eq_true rfl) ?_
          refine zx_aload_n dX7_flow_274 rfl rfl ?_
          refine zx_getR zf_X7_48 (by assumption) (show _ = some 19 from hL.1 18 (by decide)) rfl dX7_flow_275 ?_
          refine zx_iload_n dX7_flow_278 rfl rfl ?_
          refine zx_lload dX7_flow_279 rfl ?_
          refine zx_last (f) (by assumption) rfl ⟨by rw [hl19]; assumption, by rw [hl19]; decide⟩ dX7_flow_281 ?_
          exact zx_return rfl rfl (by exact (Eq.trans (congrArg (fun w => q_flow1 μ f (t_spd μ f none (some d) out v w) none (some d) v) (if_pos c_52)) (congrArg (zsL (zsD μ 11 f _) 19 f) (Eq.trans (if_neg c_193) (Eq.trans (if_neg c_234) (if_pos c_246)))))) dX7_flow_282
      · skip
        refine zx_lconst 0 dX7_flow_238 (by decide) ?_
        refine zx_goto (tgt := 272) dX7_flow_239 (by decide) ?_
        refine zx_lstore dX7_flow_272 (Nat.le_of_ble_eq_true rfl) ?_
        refine zx_aload_n dX7_flow_274 rfl rfl ?_
        refine zx_getR zf_X7_48 (by assumption) (show _ = some 19 from hL.1 18 (by decide)) rfl dX7_flow_275 ?_
        refine zx_iload_n dX7_flow_278 rfl rfl ?_
        refine zx_lload dX7_flow_279 rfl ?_
        refine zx_last (f) (by assumption) rfl ⟨by rw [hl19]; assumption, by rw [hl19]; decide⟩ dX7_flow_281 ?_
        exact zx_return rfl rfl (by exact (Eq.trans (congrArg (fun w => q_flow1 μ f (t_spd μ f none (some d) out v w) none (some d) v) (if_pos c_52)) (congrArg (zsL (zsD μ 11 f _) 19 f) (Eq.trans (if_neg c_193) (if_pos c_234))))) dX7_flow_282
    · skip
      refine zx_iload_n dX7_flow_197 rfl rfl ?_
      refine zx_goto (tgt := 203) dX7_flow_198 (by decide) ?_
      refine zx_istore dX7_flow_203 (Nat.le_of_ble_eq_true rfl) ?_
      refine zx_iload dX7_flow_205 rfl ?_
      refine zx_iconst (-1) dX7_flow_207 (by decide) ?_
      refine zx_icmp_eq (tgt := 274) dX7_flow_208 (by decide) (fun _ => ?_) (fun h_ => absurd h_ (fun q => q rfl))
      refine zx_aload_n dX7_flow_274 rfl rfl ?_
      refine zx_getR zf_X7_48 (by assumption) (show _ = some 19 from hL.1 18 (by decide)) rfl dX7_flow_275 ?_
      refine zx_iload_n dX7_flow_278 rfl rfl ?_
      refine zx_lload dX7_flow_279 rfl ?_
      refine zx_last (f) (by assumption) rfl ⟨by rw [hl19]; assumption, by rw [hl19]; decide⟩ dX7_flow_281 ?_
      exact zx_return rfl rfl (by exact (Eq.trans (congrArg (fun w => q_flow1 μ f (t_spd μ f none (some d) out v w) none (some d) v) (if_pos c_52)) (congrArg (zsL (zsD μ 11 f _) 19 f) (if_pos c_193)))) dX7_flow_282

set_option maxHeartbeats 4000000 in
set_option maxRecDepth 100000 in
theorem m_X7_flow_bn {g : ZG} {μ : ZMem} {w h : Nat} {ly : Int32} (hG : zGM g) (hL : zLM w h ly μ) {f : Nat} (hf : f < 336) {a : Int32} {c : Nat} (hc : c < 144) {out v : UInt64} {hr : Nat} (hhr : hr < 24) (hH : (FP.d2l (zdiv (zD μ 0 13) k3600) - FP.d2l (zdiv (zD μ 0 13) k3600) / 24 * 24).toInt32 = nI hr) : zCab g RX7 yX7_flow cX7_flow 23 (none) (zrm 1) [zr (some 0), zi (nI f), zi a, zi (nI c), zi (-1), zd out, zd v] μ none (q_flow μ f a (some c) none out v hr) := by
  refine zCab_w (by decide +kernel) rfl (Nat.le_of_ble_eq_true rfl) ?_
  have hO0 : zO g 7 0 := hG.o 0 (by decide)
  have hO7 : zO g 10 7 := hG.o 7 (by decide)
  have hl7 : zln g 7 = 144 := hG.l 7 (by decide)
  have hO11 : zO g 8 11 := hG.o 11 (by decide)
  have hl11 : zln g 11 = 336 := hG.l 11 (by decide)
  have hO19 : zO g 10 19 := hG.o 19 (by decide)
  have hl19 : zln g 19 = 336 := hG.l 19 (by decide)
  have hO26 : zO g 8 26 := hG.o 26 (by decide)
  have hl26 : zln g 26 = 24 := hG.l 26 (by decide)
  have hO27 : zO g 8 27 := hG.o 27 (by decide)
  have hl27 : zln g 27 = 24 := hG.l 27 (by decide)
  have hw0 : zI μ 0 0 = nI w := hL.2.1
  have hh0 : zI μ 0 1 = nI h := hL.2.2.1
  have hy0 : zI μ 0 2 = ly := hL.2.2.2.1
  obtain ⟨hb1, hb2, hb3, hb4⟩ := hL.2.2.2.2
  refine zx_iload_n dX7_flow_0 rfl rfl ?_
  refine zx_iconst (-1) dX7_flow_1 (by decide) ?_
  refine zx_icmp_ne (tgt := 10) dX7_flow_2 (by decide) (fun _ => ?_) (fun h_ => absurd h_ (nI_ne1 (show c < 2 ^ 31 by omega)))
  refine zx_aload_n dX7_flow_10 rfl rfl ?_
  refine zx_iload_n dX7_flow_11 rfl rfl ?_
  refine zx_callV1 _ zv_X7_198 (m_X7_levelOf hG hL hc) (by assumption) (by decide) rfl rfl rfl ⟨rfl, rfl, (Nat.le_of_ble_eq_true rfl), (Nat.le_of_ble_eq_true rfl)⟩ (Nat.le_of_ble_eq_true rfl) dX7_flow_12 ?_
  refine zx_iload dX7_flow_15 rfl ?_
  refine zx_iconst (-1) dX7_flow_17 (by decide) ?_
  refine zx_icmp_ne (tgt := 26) dX7_flow_18 (by decide) (fun h_ => absurd h_ (fun q => q rfl)) (fun _ => ?_)
  refine zx_dload dX7_flow_21 rfl ?_
  refine zx_goto (tgt := 32) dX7_flow_23 (by decide) ?_
  refine zx_dsub dX7_flow_32 ?_
  refine zx_dstore dX7_flow_33 (Nat.le_of_ble_eq_true rfl) ?_
  refine zx_aload_n dX7_flow_35 rfl rfl ?_
  refine zx_getD zf_X7_186 (by assumption) rfl dX7_flow_36 ?_
  refine zx_ldc2d 4660134898793709568 zk_X7_190 (by decide +kernel) dX7_flow_39 ?_
  refine zx_ddiv dX7_flow_42 ?_
  refine zx_d2l dX7_flow_43 ?_
  refine zx_ldc2l 24 zk_X7_202 dX7_flow_44 ?_
  refine zx_lrem dX7_flow_47 (by decide) ?_
  refine zx_l2i dX7_flow_48 ?_
  refine zx_istore dX7_flow_49 (Nat.le_of_ble_eq_true rfl) ?_
  rw [hH]
  refine zx_iload_n dX7_flow_51 rfl rfl ?_
  refine zx_if_ne (tgt := 65) dX7_flow_52 (by decide) (fun c_52 => ?_) (fun c_52 => ?_)
  · skip
    refine zx_aload_n dX7_flow_65 rfl rfl ?_
    refine zx_getR zf_X7_63 (by assumption) (show _ = some 27 from hL.1 26 (by decide)) rfl dX7_flow_66 ?_
    refine zx_iload dX7_flow_69 rfl ?_
    refine zx_dald (hr) (by assumption) rfl ⟨by rw [hl27]; assumption, by rw [hl27]; decide⟩ dX7_flow_71 ?_
    refine zx_dstore dX7_flow_72 (Nat.le_of_ble_eq_true rfl) ?_
    refine zx_aload_n dX7_flow_74 rfl rfl ?_
    refine zx_getR zf_X7_33 (by assumption) (show _ = some 11 from hL.1 10 (by decide)) rfl dX7_flow_75 ?_
    refine zx_iload_n dX7_flow_78 rfl rfl ?_
    refine zx_dald (f) (by assumption) rfl ⟨by rw [hl11]; assumption, by rw [hl11]; decide⟩ dX7_flow_79 ?_
    refine zx_dstore dX7_flow_80 (Nat.le_of_ble_eq_true rfl) ?_
    refine zx_dload dX7_flow_82 rfl ?_
    refine zx_dload dX7_flow_84 rfl ?_
    refine zx_ldc2d 4576808701761150024 zk_X7_204 (by decide +kernel) dX7_flow_86 ?_
    refine zx_dload dX7_flow_89 rfl ?_
    refine zx_dmul dX7_flow_91 ?_
    refine zx_ldc2d 4532020583610935537 zk_X7_206 (by decide +kernel) dX7_flow_92 ?_
    refine zx_dload dX7_flow_95 rfl ?_
    refine zx_dmul dX7_flow_97 ?_
    refine zx_dadd dX7_flow_98 ?_
    refine zx_dmul dX7_flow_99 ?_
    refine zx_dadd dX7_flow_100 ?_
    refine zx_dconst1 dX7_flow_101 ?_
    refine zx_ldc2d 4566758108544739836 zk_X7_208 (by decide +kernel) dX7_flow_102 ?_
    refine zx_dload dX7_flow_105 rfl ?_
    refine zx_dmul dX7_flow_107 ?_
    refine zx_dload dX7_flow_108 rfl ?_
    refine zx_callS1 _ zs_X7_210 m_X7_size rfl rfl ⟨rfl, rfl, (Nat.le_of_ble_eq_true rfl), (Nat.le_of_ble_eq_true rfl)⟩ (Nat.le_of_ble_eq_true rfl) dX7_flow_110 ?_
    refine zx_dmul dX7_flow_113 ?_
    refine zx_dadd dX7_flow_114 ?_
    refine zx_ddiv dX7_flow_115 ?_
    refine zx_dstore dX7_flow_116 (Nat.le_of_ble_eq_true rfl) ?_
    refine zx_aload_n dX7_flow_118 rfl rfl ?_
    refine zx_getR zf_X7_33 (by assumption) (show _ = some 11 from hL.1 10 (by decide)) rfl dX7_flow_119 ?_
    refine zx_iload_n dX7_flow_122 rfl rfl ?_
    refine zx_dload dX7_flow_123 rfl ?_
    refine zx_dast (f) (by assumption) rfl ⟨by rw [hl11]; assumption, by rw [hl11]; decide⟩ dX7_flow_125 ?_
    refine zx_iload_n dX7_flow_126 rfl rfl ?_
    refine zx_iconst (-1) dX7_flow_127 (by decide) ?_
    refine zx_icmp_ne (tgt := 141) dX7_flow_128 (by decide) (fun _ => ?_) (fun h_ => absurd h_ (nI_ne1 (show c < 2 ^ 31 by omega)))
    refine zx_iload dX7_flow_141 rfl ?_
    refine zx_iconst (-1) dX7_flow_143 (by decide) ?_
    refine zx_icmp_ne (tgt := 156) dX7_flow_144 (by decide) (fun h_ => absurd h_ (fun q => q rfl)) (fun _ => ?_)
    refine zx_aload_n dX7_flow_147 rfl rfl ?_
    refine zx_getR zf_X7_20 (by assumption) (show _ = some 7 from hL.1 6 (by decide)) rfl dX7_flow_148 ?_
    refine zx_iload_n dX7_flow_151 rfl rfl ?_
    refine zx_lald (c) (by assumption) rfl ⟨by rw [hl7]; assumption, by rw [hl7]; decide⟩ dX7_flow_152 ?_
    refine zx_goto (tgt := 172) dX7_flow_153 (by decide) ?_
    refine zx_lstore dX7_flow_172 (Nat.le_of_ble_eq_true rfl) ?_
    refine zx_dload dX7_flow_174 rfl ?_
    refine zx_dload dX7_flow_176 rfl ?_
    refine zx_dmul dX7_flow_178 ?_
    refine zx_lload dX7_flow_179 rfl ?_
    refine zx_l2d dX7_flow_181 ?_
    refine zx_ldc2d 4562254508917369340 zk_X7_196 (by decide +kernel) dX7_flow_182 ?_
    refine zx_dmul dX7_flow_185 ?_
    refine zx_dmul dX7_flow_186 ?_
    refine zx_d2l dX7_flow_187 ?_
    refine zx_lstore dX7_flow_188 (Nat.le_of_ble_eq_true rfl) ?_
    refine zx_lload dX7_flow_190 rfl ?_
    refine zx_lconst 0 dX7_flow_192 (by decide) ?_
    refine zx_lc_le (tgt := 201) dX7_flow_193 dX7_flow_194 (by decide) (fun c_193 => ?_) (fun c_193 => ?_)
    · skip
      refine zx_iload dX7_flow_201 rfl ?_
      refine zx_istore dX7_flow_203 (Nat.le_of_ble_eq_true rfl) ?_
      refine zx_iload dX7_flow_205 rfl ?_
      refine zx_iconst (-1) dX7_flow_207 (by decide) ?_
      refine zx_icmp_eq (tgt := 274) dX7_flow_208 (by decide) (fun _ => ?_) (fun h_ => absurd h_ (fun q => q rfl))
      refine zx_aload_n dX7_flow_274 rfl rfl ?_
      refine zx_getR zf_X7_48 (by assumption) (show _ = some 19 from hL.1 18 (by decide)) rfl dX7_flow_275 ?_
      refine zx_iload_n dX7_flow_278 rfl rfl ?_
      refine zx_lload dX7_flow_279 rfl ?_
      refine zx_last (f) (by assumption) rfl ⟨by rw [hl19]; assumption, by rw [hl19]; decide⟩ dX7_flow_281 ?_
      exact zx_return rfl rfl (by exact (Eq.trans (congrArg (fun w => q_flow1 μ f (t_spd μ f (some c) none out v w) (some c) none v) (if_neg c_52)) (congrArg (zsL (zsD μ 11 f _) 19 f) (if_neg c_193)))) dX7_flow_282
    · skip
      refine zx_iload_n dX7_flow_197 rfl rfl ?_
      refine zx_goto (tgt := 203) dX7_flow_198 (by decide) ?_
      refine zx_istore dX7_flow_203 (Nat.le_of_ble_eq_true rfl) ?_
      refine zx_iload dX7_flow_205 rfl ?_
      refine zx_iconst (-1) dX7_flow_207 (by decide) ?_
      refine zx_icmp_eq (tgt := 274) dX7_flow_208 (by decide) (fun h_ => absurd h_ (nI_ne1 (show c < 2 ^ 31 by omega))) (fun _ => ?_)
      refine zx_aload_n dX7_flow_211 rfl rfl ?_
      refine zx_getR zf_X7_20 (by assumption) (show _ = some 7 from hL.1 6 (by decide)) rfl dX7_flow_212 ?_
      refine zx_iload dX7_flow_215 rfl ?_
      refine zx_lald (c) (by assumption) rfl ⟨by rw [hl7]; assumption, by rw [hl7]; decide⟩ dX7_flow_217 ?_
      refine zx_ldc2l 8 zk_X7_219 dX7_flow_218 ?_
      refine zx_ldiv dX7_flow_221 (by decide) ?_
      refine zx_lstore dX7_flow_222 (Nat.le_of_ble_eq_true rfl) ?_
      refine zx_aload_n dX7_flow_224 rfl rfl ?_
      refine zx_getR zf_X7_20 (by assumption) (show _ = some 7 from hL.1 6 (by decide)) rfl dX7_flow_225 ?_
      refine zx_iload dX7_flow_228 rfl ?_
      refine zx_lald (c) (by assumption) rfl ⟨by rw [hl7]; assumption, by rw [hl7]; decide⟩ dX7_flow_230 ?_
      refine zx_ldc2l 50 zk_X7_221 dX7_flow_231 ?_
      refine zx_lc_ge (tgt := 242) dX7_flow_234 dX7_flow_235 (by decide) (fun c_234 => ?_) (fun c_234 => ?_)
      · skip
        refine zx_lload dX7_flow_242 rfl ?_
        refine zx_lload dX7_flow_244 rfl ?_
        refine zx_lc_le (tgt := 255) dX7_flow_246 dX7_flow_247 (by decide) (fun c_246 => ?_) (fun c_246 => ?_)
        · skip
          refine zx_lload dX7_flow_255 rfl ?_
          refine zx_lload dX7_flow_257 rfl ?_
          refine zx_lneg dX7_flow_259 ?_
          refine zx_lc_ge (tgt := 270) dX7_flow_260 dX7_flow_261 (by decide) (fun c_260 => ?_) (fun c_260 => ?_)
          · skip
            refine zx_lload dX7_flow_270 rfl ?_
            refine zx_lstore dX7_flow_272 (Nat.le_of_ble_eq_true rfl) ?_
            refine zx_aload_n dX7_flow_274 rfl rfl ?_
            refine zx_getR zf_X7_48 (by assumption) (show _ = some 19 from hL.1 18 (by decide)) rfl dX7_flow_275 ?_
            refine zx_iload_n dX7_flow_278 rfl rfl ?_
            refine zx_lload dX7_flow_279 rfl ?_
            refine zx_last (f) (by assumption) rfl ⟨by rw [hl19]; assumption, by rw [hl19]; decide⟩ dX7_flow_281 ?_
            exact zx_return rfl rfl (by exact (Eq.trans (congrArg (fun w => q_flow1 μ f (t_spd μ f (some c) none out v w) (some c) none v) (if_neg c_52)) (congrArg (zsL (zsD μ 11 f _) 19 f) (Eq.trans (if_pos c_193) (Eq.trans (if_neg c_234) (Eq.trans (if_neg c_246) (if_neg c_260))))))) dX7_flow_282
          · skip
            refine zx_lload dX7_flow_264 rfl ?_
            refine zx_lneg dX7_flow_266 ?_
            refine zx_goto (tgt := 272) dX7_flow_267 (by decide) ?_
            refine zx_lstore dX7_flow_272 (Nat.le_of_ble_eq_true rfl) ?_
            refine zx_aload_n dX7_flow_274 rfl rfl ?_
            refine zx_getR zf_X7_48 (by assumption) (show _ = some 19 from hL.1 18 (by decide)) rfl dX7_flow_275 ?_
            refine zx_iload_n dX7_flow_278 rfl rfl ?_
            refine zx_lload dX7_flow_279 rfl ?_
            refine zx_last (f) (by assumption) rfl ⟨by rw [hl19]; assumption, by rw [hl19]; decide⟩ dX7_flow_281 ?_
            exact zx_return rfl rfl (by exact (Eq.trans (congrArg (fun w => q_flow1 μ f (t_spd μ f (some c) none out v w) (some c) none v) (if_neg c_52)) (congrArg (zsL (zsD μ 11 f _) 19 f) (Eq.trans (if_pos c_193) (Eq.trans (if_neg c_234) (Eq.trans (if_neg c_246) (if_pos c_260))))))) dX7_flow_282
        · skip
          refine zx_lload dX7_flow_250 rfl ?_
          refine zx_goto (tgt := 272) dX7_flow_252 (by decide) ?_
          refine zx_lstore dX7_flow_272 (Nat.le_of_ble_eq_true rfl) ?_
          refine zx_aload_n dX7_flow_274 rfl rfl ?_
          refine zx_getR zf_X7_48 (by assumption) (show _ = some 19 from hL.1 18 (by decide)) rfl dX7_flow_275 ?_
          refine zx_iload_n dX7_flow_278 rfl rfl ?_
          refine zx_lload dX7_flow_279 rfl ?_
          refine zx_last (f) (by assumption) rfl ⟨by rw [hl19]; assumption, by rw [hl19]; decide⟩ dX7_flow_281 ?_
          exact zx_return rfl rfl (by exact (Eq.trans (congrArg (fun w => q_flow1 μ f (t_spd μ f (some c) none out v w) (some c) none v) (if_neg c_52)) (congrArg (zsL (zsD μ 11 f _) 19 f) (Eq.trans (if_pos c_193) (Eq.trans (if_neg c_234) (if_pos c_246)))))) dX7_flow_282
      · skip
        refine zx_lconst 0 dX7_flow_238 (by decide) ?_
        refine zx_goto (tgt := 272) dX7_flow_239 (by decide) ?_
        refine zx_lstore dX7_flow_272 (Nat.le_of_ble_eq_true rfl) ?_
        refine zx_aload_n dX7_flow_274 rfl rfl ?_
        refine zx_getR zf_X7_48 (by assumption) (show _ = some 19 from hL.1 18 (by decide)) rfl dX7_flow_275 ?_
        refine zx_iload_n dX7_flow_278 rfl rfl ?_
        refine zx_lload dX7_flow_279 rfl ?_
        refine zx_last (f) (by assumption) rfl ⟨by rw [hl19]; assumption, by rw [hl19]; decide⟩ dX7_flow_281 ?_
        exact zx_return rfl rfl (by exact (Eq.trans (congrArg (fun w => q_flow1 μ f (t_spd μ f (some c) none out v w) (some c) none v) (if_neg c_52)) (congrArg (zsL (zsD μ 11 f _) 19 f) (Eq.trans (if_pos c_193) (if_pos c_234))))) dX7_flow_282
  · skip
    refine zx_aload_n dX7_flow_55 rfl rfl ?_
    refine zx_getR zf_X7_60 (by assumption) (show _ = some 26 from hL.1 25 (by decide)) rfl dX7_flow_56 ?_
    refine zx_iload dX7_flow_59 rfl ?_
    refine zx_dald (hr) (by assumption) rfl ⟨by rw [hl26]; assumption, by rw [hl26]; decide⟩ dX7_flow_61 ?_
    refine zx_goto (tgt := 72) dX7_flow_62 (by decide) ?_
    refine zx_dstore dX7_flow_72 (Nat.le_of_ble_eq_true rfl) ?_
    refine zx_aload_n dX7_flow_74 rfl rfl ?_
    refine zx_getR zf_X7_33 (by assumption) (show _ = some 11 from hL.1 10 (by decide)) rfl dX7_flow_75 ?_
    refine zx_iload_n dX7_flow_78 rfl rfl ?_
    refine zx_dald (f) (by assumption) rfl ⟨by rw [hl11]; assumption, by rw [hl11]; decide⟩ dX7_flow_79 ?_
    refine zx_dstore dX7_flow_80 (Nat.le_of_ble_eq_true rfl) ?_
    refine zx_dload dX7_flow_82 rfl ?_
    refine zx_dload dX7_flow_84 rfl ?_
    refine zx_ldc2d 4576808701761150024 zk_X7_204 (by decide +kernel) dX7_flow_86 ?_
    refine zx_dload dX7_flow_89 rfl ?_
    refine zx_dmul dX7_flow_91 ?_
    refine zx_ldc2d 4532020583610935537 zk_X7_206 (by decide +kernel) dX7_flow_92 ?_
    refine zx_dload dX7_flow_95 rfl ?_
    refine zx_dmul dX7_flow_97 ?_
    refine zx_dadd dX7_flow_98 ?_
    refine zx_dmul dX7_flow_99 ?_
    refine zx_dadd dX7_flow_100 ?_
    refine zx_dconst1 dX7_flow_101 ?_
    refine zx_ldc2d 4566758108544739836 zk_X7_208 (by decide +kernel) dX7_flow_102 ?_
    refine zx_dload dX7_flow_105 rfl ?_
    refine zx_dmul dX7_flow_107 ?_
    refine zx_dload dX7_flow_108 rfl ?_
    refine zx_callS1 _ zs_X7_210 m_X7_size rfl rfl ⟨rfl, rfl, (Nat.le_of_ble_eq_true rfl), (Nat.le_of_ble_eq_true rfl)⟩ (Nat.le_of_ble_eq_true rfl) dX7_flow_110 ?_
    refine zx_dmul dX7_flow_113 ?_
    refine zx_dadd dX7_flow_114 ?_
    refine zx_ddiv dX7_flow_115 ?_
    refine zx_dstore dX7_flow_116 (Nat.le_of_ble_eq_true rfl) ?_
    refine zx_aload_n dX7_flow_118 rfl rfl ?_
    refine zx_getR zf_X7_33 (by assumption) (show _ = some 11 from hL.1 10 (by decide)) rfl dX7_flow_119 ?_
    refine zx_iload_n dX7_flow_122 rfl rfl ?_
    refine zx_dload dX7_flow_123 rfl ?_
    refine zx_dast (f) (by assumption) rfl ⟨by rw [hl11]; assumption, by rw [hl11]; decide⟩ dX7_flow_125 ?_
    refine zx_iload_n dX7_flow_126 rfl rfl ?_
    refine zx_iconst (-1) dX7_flow_127 (by decide) ?_
    refine zx_icmp_ne (tgt := 141) dX7_flow_128 (by decide) (fun _ => ?_) (fun h_ => absurd h_ (nI_ne1 (show c < 2 ^ 31 by omega)))
    refine zx_iload dX7_flow_141 rfl ?_
    refine zx_iconst (-1) dX7_flow_143 (by decide) ?_
    refine zx_icmp_ne (tgt := 156) dX7_flow_144 (by decide) (fun h_ => absurd h_ (fun q => q rfl)) (fun _ => ?_)
    refine zx_aload_n dX7_flow_147 rfl rfl ?_
    refine zx_getR zf_X7_20 (by assumption) (show _ = some 7 from hL.1 6 (by decide)) rfl dX7_flow_148 ?_
    refine zx_iload_n dX7_flow_151 rfl rfl ?_
    refine zx_lald (c) (by assumption) rfl ⟨by rw [hl7]; assumption, by rw [hl7]; decide⟩ dX7_flow_152 ?_
    refine zx_goto (tgt := 172) dX7_flow_153 (by decide) ?_
    refine zx_lstore dX7_flow_172 (Nat.le_of_ble_eq_true rfl) ?_
    refine zx_dload dX7_flow_174 rfl ?_
    refine zx_dload dX7_flow_176 rfl ?_
    refine zx_dmul dX7_flow_178 ?_
    refine zx_lload dX7_flow_179 rfl ?_
    refine zx_l2d dX7_flow_181 ?_
    refine zx_ldc2d 4562254508917369340 zk_X7_196 (by decide +kernel) dX7_flow_182 ?_
    refine zx_dmul dX7_flow_185 ?_
    refine zx_dmul dX7_flow_186 ?_
    refine zx_d2l dX7_flow_187 ?_
    refine zx_lstore dX7_flow_188 (Nat.le_of_ble_eq_true rfl) ?_
    refine zx_lload dX7_flow_190 rfl ?_
    refine zx_lconst 0 dX7_flow_192 (by decide) ?_
    refine zx_lc_le (tgt := 201) dX7_flow_193 dX7_flow_194 (by decide) (fun c_193 => ?_) (fun c_193 => ?_)
    · skip
      refine zx_iload dX7_flow_201 rfl ?_
      refine zx_istore dX7_flow_203 (Nat.le_of_ble_eq_true rfl) ?_
      refine zx_iload dX7_flow_205 rfl ?_
      refine zx_iconst (-1) dX7_flow_207 (by decide) ?_
      refine zx_icmp_eq (tgt := 274) dX7_flow_208 (by decide) (fun _ => ?_) (fun h_ => absurd h_ (fun q => q rfl))
      refine zx_aload_n dX7_flow_274 rfl rfl ?_
      refine zx_getR zf_X7_48 (by assumption) (show _ = some 19 from hL.1 18 (by decide)) rfl dX7_flow_275 ?_
      refine zx_iload_n dX7_flow_278 rfl rfl ?_
      refine zx_lload dX7_flow_279 rfl ?_
      refine zx_last (f) (by assumption) rfl ⟨by rw [hl19]; assumption, by rw [hl19]; decide⟩ dX7_flow_281 ?_
      exact zx_return rfl rfl (by exact (Eq.trans (congrArg (fun w => q_flow1 μ f (t_spd μ f (some c) none out v w) (some c) none v) (if_pos c_52)) (congrArg (zsL (zsD μ 11 f _) 19 f) (if_neg c_193)))) dX7_flow_282
    · skip
      refine zx_iload_n dX7_flow_197 rfl rfl ?_
      refine zx_goto (tgt := 203) dX7_flow_198 (by decide) ?_
      refine zx_istore dX7_flow_203 (Nat.le_of_ble_eq_true rfl) ?_
      refine zx_iload dX7_flow_205 rfl ?_
      refine zx_iconst (-1) dX7_flow_207 (by decide) ?_
      refine zx_icmp_eq (tgt := 274) dX7_flow_208 (by decide) (fun h_ => absurd h_ (nI_ne1 (show c < 2 ^ 31 by omega))) (fun _ => ?_)
      refine zx_aload_n dX7_flow_211 rfl rfl ?_
      refine zx_getR zf_X7_20 (by assumption) (show _ = some 7 from hL.1 6 (by decide)) rfl dX7_flow_212 ?_
      refine zx_iload dX7_flow_215 rfl ?_
      refine zx_lald (c) (by assumption) rfl ⟨by rw [hl7]; assumption, by rw [hl7]; decide⟩ dX7_flow_217 ?_
      refine zx_ldc2l 8 zk_X7_219 dX7_flow_218 ?_
      refine zx_ldiv dX7_flow_221 (by decide) ?_
      refine zx_lstore dX7_flow_222 (Nat.le_of_ble_eq_true rfl) ?_
      refine zx_aload_n dX7_flow_224 rfl rfl ?_
      refine zx_getR zf_X7_20 (by assumption) (show _ = some 7 from hL.1 6 (by decide)) rfl dX7_flow_225 ?_
      refine zx_iload dX7_flow_228 rfl ?_
      refine zx_lald (c) (by assumption) rfl ⟨by rw [hl7]; assumption, by rw [hl7]; decide⟩ dX7_flow_230 ?_
      refine zx_ldc2l 50 zk_X7_221 dX7_flow_231 ?_
      refine zx_lc_ge (tgt := 242) dX7_flow_234 dX7_flow_235 (by decide) (fun c_234 => ?_) (fun c_234 => ?_)
      · skip
        refine zx_lload dX7_flow_242 rfl ?_
        refine zx_lload dX7_flow_244 rfl ?_
        refine zx_lc_le (tgt := 255) dX7_flow_246 dX7_flow_247 (by decide) (fun c_246 => ?_) (fun c_246 => ?_)
        · skip
          refine zx_lload dX7_flow_255 rfl ?_
          refine zx_lload dX7_flow_257 rfl ?_
          refine zx_lneg dX7_flow_259 ?_
          refine zx_lc_ge (tgt := 270) dX7_flow_260 dX7_flow_261 (by decide) (fun c_260 => ?_) (fun c_260 => ?_)
          · skip
            refine zx_lload dX7_flow_270 rfl ?_
            refine zx_lstore dX7_flow_272 (Nat.le_of_ble_eq_true rfl) ?_
            refine zx_aload_n dX7_flow_274 rfl rfl ?_
            refine zx_getR zf_X7_48 (by assumption) (show _ = some 19 from hL.1 18 (by decide)) rfl dX7_flow_275 ?_
            refine zx_iload_n dX7_flow_278 rfl rfl ?_
            refine zx_lload dX7_flow_279 rfl ?_
            refine zx_last (f) (by assumption) rfl ⟨by rw [hl19]; assumption, by rw [hl19]; decide⟩ dX7_flow_281 ?_
            exact zx_return rfl rfl (by exact (Eq.trans (congrArg (fun w => q_flow1 μ f (t_spd μ f (some c) none out v w) (some c) none v) (if_pos c_52)) (congrArg (zsL (zsD μ 11 f _) 19 f) (Eq.trans (if_pos c_193) (Eq.trans (if_neg c_234) (Eq.trans (if_neg c_246) (if_neg c_260))))))) dX7_flow_282
          · skip
            refine zx_lload dX7_flow_264 rfl ?_
            refine zx_lneg dX7_flow_266 ?_
            refine zx_goto (tgt := 272) dX7_flow_267 (by decide) ?_
            refine zx_lstore dX7_flow_272 (Nat.le_of_ble_eq_true rfl) ?_
            refine zx_aload_n dX7_flow_274 rfl rfl ?_
            refine zx_getR zf_X7_48 (by assumption) (show _ = some 19 from hL.1 18 (by decide)) rfl dX7_flow_275 ?_
            refine zx_iload_n dX7_flow_278 rfl rfl ?_
            refine zx_lload dX7_flow_279 rfl ?_
            refine zx_last (f) (by assumption) rfl ⟨by rw [hl19]; assumption, by rw [hl19]; decide⟩ dX7_flow_281 ?_
            exact zx_return rfl rfl (by exact (Eq.trans (congrArg (fun w => q_flow1 μ f (t_spd μ f (some c) none out v w) (some c) none v) (if_pos c_52)) (congrArg (zsL (zsD μ 11 f _) 19 f) (Eq.trans (if_pos c_193) (Eq.trans (if_neg c_234) (Eq.trans (if_neg c_246) (if_pos c_260))))))) dX7_flow_282
        · skip
          refine zx_lload dX7_flow_250 rfl ?_
          refine zx_goto (tgt := 272) dX7_flow_252 (by decide) ?_
          refine zx_lstore dX7_flow_272 (Nat.le_of_ble_eq_true rfl) ?_
          refine zx_aload_n dX7_flow_274 rfl rfl ?_
          refine zx_getR zf_X7_48 (by assumption) (show _ = some 19 from hL.1 18 (by decide)) rfl dX7_flow_275 ?_
          refine zx_iload_n dX7_flow_278 rfl rfl ?_
          refine zx_lload dX7_flow_279 rfl ?_
          refine zx_last (f) (by assumption) rfl ⟨by rw [hl19]; assumption, by rw [hl19]; decide⟩ dX7_flow_281 ?_
          exact zx_return rfl rfl (by exact (Eq.trans (congrArg (fun w => q_flow1 μ f (t_spd μ f (some c) none out v w) (some c) none v) (if_pos c_52)) (congrArg (zsL (zsD μ 11 f _) 19 f) (Eq.trans (if_pos c_193) (Eq.trans (if_neg c_234) (if_pos c_246)))))) dX7_flow_282
      · skip
        refine zx_lconst 0 dX7_flow_238 (by decide) ?_
        refine zx_goto (tgt := 272) dX7_flow_239 (by decide) ?_
        refine zx_lstore dX7_flow_272 (Nat.le_of_ble_eq_true rfl) ?_
        refine zx_aload_n dX7_flow_274 rfl rfl ?_
        refine zx_getR zf_X7_48 (by assumption) (show _ = some 19 from hL.1 18 (by decide)) rfl dX7_flow_275 ?_
        refine zx_iload_n dX7_flow_278 rfl rfl ?_
        refine zx_lload dX7_flow_279 rfl ?_
        refine zx_last (f) (by assumption) rfl ⟨by rw [hl19]; assumption, by rw [hl19]; decide⟩ dX7_flow_281 ?_
        exact zx_return rfl rfl (by exact (Eq.trans (congrArg (fun w => q_flow1 μ f (t_spd μ f (some c) none out v w) (some c) none v) (if_pos c_52)) (congrArg (zsL (zsD μ 11 f _) 19 f) (Eq.trans (if_pos c_193) (if_pos c_234))))) dX7_flow_282

set_option maxHeartbeats 4000000 in
set_option maxRecDepth 100000 in
theorem m_X7_flow_bb {g : ZG} {μ : ZMem} {w h : Nat} {ly : Int32} (hG : zGM g) (hL : zLM w h ly μ) {f : Nat} (hf : f < 336) {a : Int32} {c : Nat} (hc : c < 144) {d : Nat} (hd : d < 144) {out v : UInt64} {hr : Nat} (hhr : hr < 24) (hH : (FP.d2l (zdiv (zD μ 0 13) k3600) - FP.d2l (zdiv (zD μ 0 13) k3600) / 24 * 24).toInt32 = nI hr) : zCab g RX7 yX7_flow cX7_flow 23 (none) (zrm 1) [zr (some 0), zi (nI f), zi a, zi (nI c), zi (nI d), zd out, zd v] μ none (q_flow μ f a (some c) (some d) out v hr) := by
  refine zCab_w (by decide +kernel) rfl (Nat.le_of_ble_eq_true rfl) ?_
  have hO0 : zO g 7 0 := hG.o 0 (by decide)
  have hO7 : zO g 10 7 := hG.o 7 (by decide)
  have hl7 : zln g 7 = 144 := hG.l 7 (by decide)
  have hO11 : zO g 8 11 := hG.o 11 (by decide)
  have hl11 : zln g 11 = 336 := hG.l 11 (by decide)
  have hO19 : zO g 10 19 := hG.o 19 (by decide)
  have hl19 : zln g 19 = 336 := hG.l 19 (by decide)
  have hO26 : zO g 8 26 := hG.o 26 (by decide)
  have hl26 : zln g 26 = 24 := hG.l 26 (by decide)
  have hO27 : zO g 8 27 := hG.o 27 (by decide)
  have hl27 : zln g 27 = 24 := hG.l 27 (by decide)
  have hw0 : zI μ 0 0 = nI w := hL.2.1
  have hh0 : zI μ 0 1 = nI h := hL.2.2.1
  have hy0 : zI μ 0 2 = ly := hL.2.2.2.1
  obtain ⟨hb1, hb2, hb3, hb4⟩ := hL.2.2.2.2
  refine zx_iload_n dX7_flow_0 rfl rfl ?_
  refine zx_iconst (-1) dX7_flow_1 (by decide) ?_
  refine zx_icmp_ne (tgt := 10) dX7_flow_2 (by decide) (fun _ => ?_) (fun h_ => absurd h_ (nI_ne1 (show c < 2 ^ 31 by omega)))
  refine zx_aload_n dX7_flow_10 rfl rfl ?_
  refine zx_iload_n dX7_flow_11 rfl rfl ?_
  refine zx_callV1 _ zv_X7_198 (m_X7_levelOf hG hL hc) (by assumption) (by decide) rfl rfl rfl ⟨rfl, rfl, (Nat.le_of_ble_eq_true rfl), (Nat.le_of_ble_eq_true rfl)⟩ (Nat.le_of_ble_eq_true rfl) dX7_flow_12 ?_
  refine zx_iload dX7_flow_15 rfl ?_
  refine zx_iconst (-1) dX7_flow_17 (by decide) ?_
  refine zx_icmp_ne (tgt := 26) dX7_flow_18 (by decide) (fun _ => ?_) (fun h_ => absurd h_ (nI_ne1 (show d < 2 ^ 31 by omega)))
  refine zx_aload_n dX7_flow_26 rfl rfl ?_
  refine zx_iload dX7_flow_27 rfl ?_
  refine zx_callV1 _ zv_X7_198 (m_X7_levelOf hG hL hd) (by assumption) (by decide) rfl rfl rfl ⟨rfl, rfl, (Nat.le_of_ble_eq_true rfl), (Nat.le_of_ble_eq_true rfl)⟩ (Nat.le_of_ble_eq_true rfl) dX7_flow_29 ?_
  refine zx_dsub dX7_flow_32 ?_
  refine zx_dstore dX7_flow_33 (Nat.le_of_ble_eq_true rfl) ?_
  refine zx_aload_n dX7_flow_35 rfl rfl ?_
  refine zx_getD zf_X7_186 (by assumption) rfl dX7_flow_36 ?_
  refine zx_ldc2d 4660134898793709568 zk_X7_190 (by decide +kernel) dX7_flow_39 ?_
  refine zx_ddiv dX7_flow_42 ?_
  refine zx_d2l dX7_flow_43 ?_
  refine zx_ldc2l 24 zk_X7_202 dX7_flow_44 ?_
  refine zx_lrem dX7_flow_47 (by decide) ?_
  refine zx_l2i dX7_flow_48 ?_
  refine zx_istore dX7_flow_49 (Nat.le_of_ble_eq_true rfl) ?_
  rw [hH]
  refine zx_iload_n dX7_flow_51 rfl rfl ?_
  refine zx_if_ne (tgt := 65) dX7_flow_52 (by decide) (fun c_52 => ?_) (fun c_52 => ?_)
  · skip
    refine zx_aload_n dX7_flow_65 rfl rfl ?_
    refine zx_getR zf_X7_63 (by assumption) (show _ = some 27 from hL.1 26 (by decide)) rfl dX7_flow_66 ?_
    refine zx_iload dX7_flow_69 rfl ?_
    refine zx_dald (hr) (by assumption) rfl ⟨by rw [hl27]; assumption, by rw [hl27]; decide⟩ dX7_flow_71 ?_
    refine zx_dstore dX7_flow_72 (Nat.le_of_ble_eq_true rfl) ?_
    refine zx_aload_n dX7_flow_74 rfl rfl ?_
    refine zx_getR zf_X7_33 (by assumption) (show _ = some 11 from hL.1 10 (by decide)) rfl dX7_flow_75 ?_
    refine zx_iload_n dX7_flow_78 rfl rfl ?_
    refine zx_dald (f) (by assumption) rfl ⟨by rw [hl11]; assumption, by rw [hl11]; decide⟩ dX7_flow_79 ?_
    refine zx_dstore dX7_flow_80 (Nat.le_of_ble_eq_true rfl) ?_
    refine zx_dload dX7_flow_82 rfl ?_
    refine zx_dload dX7_flow_84 rfl ?_
    refine zx_ldc2d 4576808701761150024 zk_X7_204 (by decide +kernel) dX7_flow_86 ?_
    refine zx_dload dX7_flow_89 rfl ?_
    refine zx_dmul dX7_flow_91 ?_
    refine zx_ldc2d 4532020583610935537 zk_X7_206 (by decide +kernel) dX7_flow_92 ?_
    refine zx_dload dX7_flow_95 rfl ?_
    refine zx_dmul dX7_flow_97 ?_
    refine zx_dadd dX7_flow_98 ?_
    refine zx_dmul dX7_flow_99 ?_
    refine zx_dadd dX7_flow_100 ?_
    refine zx_dconst1 dX7_flow_101 ?_
    refine zx_ldc2d 4566758108544739836 zk_X7_208 (by decide +kernel) dX7_flow_102 ?_
    refine zx_dload dX7_flow_105 rfl ?_
    refine zx_dmul dX7_flow_107 ?_
    refine zx_dload dX7_flow_108 rfl ?_
    refine zx_callS1 _ zs_X7_210 m_X7_size rfl rfl ⟨rfl, rfl, (Nat.le_of_ble_eq_true rfl), (Nat.le_of_ble_eq_true rfl)⟩ (Nat.le_of_ble_eq_true rfl) dX7_flow_110 ?_
    refine zx_dmul dX7_flow_113 ?_
    refine zx_dadd dX7_flow_114 ?_
    refine zx_ddiv dX7_flow_115 ?_
    refine zx_dstore dX7_flow_116 (Nat.le_of_ble_eq_true rfl) ?_
    refine zx_aload_n dX7_flow_118 rfl rfl ?_
    refine zx_getR zf_X7_33 (by assumption) (show _ = some 11 from hL.1 10 (by decide)) rfl dX7_flow_119 ?_
    refine zx_iload_n dX7_flow_122 rfl rfl ?_
    refine zx_dload dX7_flow_123 rfl ?_
    refine zx_dast (f) (by assumption) rfl ⟨by rw [hl11]; assumption, by rw [hl11]; decide⟩ dX7_flow_125 ?_
    refine zx_iload_n dX7_flow_126 rfl rfl ?_
    refine zx_iconst (-1) dX7_flow_127 (by decide) ?_
    refine zx_icmp_ne (tgt := 141) dX7_flow_128 (by decide) (fun _ => ?_) (fun h_ => absurd h_ (nI_ne1 (show c < 2 ^ 31 by omega)))
    refine zx_iload dX7_flow_141 rfl ?_
    refine zx_iconst (-1) dX7_flow_143 (by decide) ?_
    refine zx_icmp_ne (tgt := 156) dX7_flow_144 (by decide) (fun _ => ?_) (fun h_ => absurd h_ (nI_ne1 (show d < 2 ^ 31 by omega)))
    refine zx_aload_n dX7_flow_156 rfl rfl ?_
    refine zx_getR zf_X7_20 (by assumption) (show _ = some 7 from hL.1 6 (by decide)) rfl dX7_flow_157 ?_
    refine zx_iload_n dX7_flow_160 rfl rfl ?_
    refine zx_lald (c) (by assumption) rfl ⟨by rw [hl7]; assumption, by rw [hl7]; decide⟩ dX7_flow_161 ?_
    refine zx_aload_n dX7_flow_162 rfl rfl ?_
    refine zx_getR zf_X7_20 (by assumption) (show _ = some 7 from hL.1 6 (by decide)) rfl dX7_flow_163 ?_
    refine zx_iload dX7_flow_166 rfl ?_
    refine zx_lald (d) (by assumption) rfl ⟨by rw [hl7]; assumption, by rw [hl7]; decide⟩ dX7_flow_168 ?_
    refine zx_callS1 _ zs_X7_213 m_J9_min_f86c9 rfl rfl ⟨rfl, rfl, (Nat.le_of_ble_eq_true rfl), (Nat.le_of_ble_eq_true rfl)⟩ (Nat.le_of_ble_eq_true rfl) dX7_flow_169 ?_
    refine zx_lstore dX7_flow_172 (Nat.le_of_ble_eq_true rfl) ?_
    refine zx_dload dX7_flow_174 rfl ?_
    refine zx_dload dX7_flow_176 rfl ?_
    refine zx_dmul dX7_flow_178 ?_
    refine zx_lload dX7_flow_179 rfl ?_
    refine zx_l2d dX7_flow_181 ?_
    refine zx_ldc2d 4562254508917369340 zk_X7_196 (by decide +kernel) dX7_flow_182 ?_
    refine zx_dmul dX7_flow_185 ?_
    refine zx_dmul dX7_flow_186 ?_
    refine zx_d2l dX7_flow_187 ?_
    refine zx_lstore dX7_flow_188 (Nat.le_of_ble_eq_true rfl) ?_
    refine zx_lload dX7_flow_190 rfl ?_
    refine zx_lconst 0 dX7_flow_192 (by decide) ?_
    refine zx_lc_le (tgt := 201) dX7_flow_193 dX7_flow_194 (by decide) (fun c_193 => ?_) (fun c_193 => ?_)
    · skip
      refine zx_iload dX7_flow_201 rfl ?_
      refine zx_istore dX7_flow_203 (Nat.le_of_ble_eq_true rfl) ?_
      refine zx_iload dX7_flow_205 rfl ?_
      refine zx_iconst (-1) dX7_flow_207 (by decide) ?_
      refine zx_icmp_eq (tgt := 274) dX7_flow_208 (by decide) (fun h_ => absurd h_ (nI_ne1 (show d < 2 ^ 31 by omega))) (fun _ => ?_)
      refine zx_aload_n dX7_flow_211 rfl rfl ?_
      refine zx_getR zf_X7_20 (by assumption) (show _ = some 7 from hL.1 6 (by decide)) rfl dX7_flow_212 ?_
      refine zx_iload dX7_flow_215 rfl ?_
      refine zx_lald (d) (by assumption) rfl ⟨by rw [hl7]; assumption, by rw [hl7]; decide⟩ dX7_flow_217 ?_
      refine zx_ldc2l 8 zk_X7_219 dX7_flow_218 ?_
      refine zx_ldiv dX7_flow_221 (by decide) ?_
      refine zx_lstore dX7_flow_222 (Nat.le_of_ble_eq_true rfl) ?_
      refine zx_aload_n dX7_flow_224 rfl rfl ?_
      refine zx_getR zf_X7_20 (by assumption) (show _ = some 7 from hL.1 6 (by decide)) rfl dX7_flow_225 ?_
      refine zx_iload dX7_flow_228 rfl ?_
      refine zx_lald (d) (by assumption) rfl ⟨by rw [hl7]; assumption, by rw [hl7]; decide⟩ dX7_flow_230 ?_
      refine zx_ldc2l 50 zk_X7_221 dX7_flow_231 ?_
      refine zx_lc_ge (tgt := 242) dX7_flow_234 dX7_flow_235 (by decide) (fun c_234 => ?_) (fun c_234 => ?_)
      · skip
        refine zx_lload dX7_flow_242 rfl ?_
        refine zx_lload dX7_flow_244 rfl ?_
        refine zx_lc_le (tgt := 255) dX7_flow_246 dX7_flow_247 (by decide) (fun c_246 => ?_) (fun c_246 => ?_)
        · skip
          refine zx_lload dX7_flow_255 rfl ?_
          refine zx_lload dX7_flow_257 rfl ?_
          refine zx_lneg dX7_flow_259 ?_
          refine zx_lc_ge (tgt := 270) dX7_flow_260 dX7_flow_261 (by decide) (fun c_260 => ?_) (fun c_260 => ?_)
          · skip
            refine zx_lload dX7_flow_270 rfl ?_
            refine zx_lstore dX7_flow_272 (Nat.le_of_ble_eq_true rfl) ?_
            refine zx_aload_n dX7_flow_274 rfl rfl ?_
            refine zx_getR zf_X7_48 (by assumption) (show _ = some 19 from hL.1 18 (by decide)) rfl dX7_flow_275 ?_
            refine zx_iload_n dX7_flow_278 rfl rfl ?_
            refine zx_lload dX7_flow_279 rfl ?_
            refine zx_last (f) (by assumption) rfl ⟨by rw [hl19]; assumption, by rw [hl19]; decide⟩ dX7_flow_281 ?_
            exact zx_return rfl rfl (by exact (Eq.trans (congrArg (fun w => q_flow1 μ f (t_spd μ f (some c) (some d) out v w) (some c) (some d) v) (if_neg c_52)) (congrArg (zsL (zsD μ 11 f _) 19 f) (Eq.trans (if_neg c_193) (Eq.trans (if_neg c_234) (Eq.trans (if_neg c_246) (if_neg c_260))))))) dX7_flow_282
          · skip
            refine zx_lload dX7_flow_264 rfl ?_
            refine zx_lneg dX7_flow_266 ?_
            refine zx_goto (tgt := 272) dX7_flow_267 (by decide) ?_
            refine zx_lstore dX7_flow_272 (Nat.le_of_ble_eq_true rfl) ?_
            refine zx_aload_n dX7_flow_274 rfl rfl ?_
            refine zx_getR zf_X7_48 (by assumption) (show _ = some 19 from hL.1 18 (by decide)) rfl dX7_flow_275 ?_
            refine zx_iload_n dX7_flow_278 rfl rfl ?_
            refine zx_lload dX7_flow_279 rfl ?_
            refine zx_last (f) (by assumption) rfl ⟨by rw [hl19]; assumption, by rw [hl19]; decide⟩ dX7_flow_281 ?_
            exact zx_return rfl rfl (by exact (Eq.trans (congrArg (fun w => q_flow1 μ f (t_spd μ f (some c) (some d) out v w) (some c) (some d) v) (if_neg c_52)) (congrArg (zsL (zsD μ 11 f _) 19 f) (Eq.trans (if_neg c_193) (Eq.trans (if_neg c_234) (Eq.trans (if_neg c_246) (if_pos c_260))))))) dX7_flow_282
        · skip
          refine zx_lload dX7_flow_250 rfl ?_
          refine zx_goto (tgt := 272) dX7_flow_252 (by decide) ?_
          refine zx_lstore dX7_flow_272 (Nat.le_of_ble_eq_true rfl) ?_
          refine zx_aload_n dX7_flow_274 rfl rfl ?_
          refine zx_getR zf_X7_48 (by assumption) (show _ = some 19 from hL.1 18 (by decide)) rfl dX7_flow_275 ?_
          refine zx_iload_n dX7_flow_278 rfl rfl ?_
          refine zx_lload dX7_flow_279 rfl ?_
          refine zx_last (f) (by assumption) rfl ⟨by rw [hl19]; assumption, by rw [hl19]; decide⟩ dX7_flow_281 ?_
          exact zx_return rfl rfl (by exact (Eq.trans (congrArg (fun w => q_flow1 μ f (t_spd μ f (some c) (some d) out v w) (some c) (some d) v) (if_neg c_52)) (congrArg (zsL (zsD μ 11 f _) 19 f) (Eq.trans (if_neg c_193) (Eq.trans (if_neg c_234) (if_pos c_246)))))) dX7_flow_282
      · skip
        refine zx_lconst 0 dX7_flow_238 (by decide) ?_
        refine zx_goto (tgt := 272) dX7_flow_239 (by decide) ?_
        refine zx_lstore dX7_flow_272 (Nat.le_of_ble_eq_true rfl) ?_
        refine zx_aload_n dX7_flow_274 rfl rfl ?_
        refine zx_getR zf_X7_48 (by assumption) (show _ = some 19 from hL.1 18 (by decide)) rfl dX7_flow_275 ?_
        refine zx_iload_n dX7_flow_278 rfl rfl ?_
        refine zx_lload dX7_flow_279 rfl ?_
        refine zx_last (f) (by assumption) rfl ⟨by rw [hl19]; assumption, by rw [hl19]; decide⟩ dX7_flow_281 ?_
        exact zx_return rfl rfl (by exact (Eq.trans (congrArg (fun w => q_flow1 μ f (t_spd μ f (some c) (some d) out v w) (some c) (some d) v) (if_neg c_52)) (congrArg (zsL (zsD μ 11 f _) 19 f) (Eq.trans (if_neg c_193) (if_pos c_234))))) dX7_flow_282
    · skip
      refine zx_iload_n dX7_flow_197 rfl rfl ?_
      refine zx_goto (tgt := 203) dX7_flow_198 (by decide) ?_
      refine zx_istore dX7_flow_203 (Nat.le_of_ble_eq_true rfl) ?_
      refine zx_iload dX7_flow_205 rfl ?_
      refine zx_iconst (-1) dX7_flow_207 (by decide) ?_
      refine zx_icmp_eq (tgt := 274) dX7_flow_208 (by decide) (fun h_ => absurd h_ (nI_ne1 (show c < 2 ^ 31 by omega))) (fun _ => ?_)
      refine zx_aload_n dX7_flow_211 rfl rfl ?_
      refine zx_getR zf_X7_20 (by assumption) (show _ = some 7 from hL.1 6 (by decide)) rfl dX7_flow_212 ?_
      refine zx_iload dX7_flow_215 rfl ?_
      refine zx_lald (c) (by assumption) rfl ⟨by rw [hl7]; assumption, by rw [hl7]; decide⟩ dX7_flow_217 ?_
      refine zx_ldc2l 8 zk_X7_219 dX7_flow_218 ?_
      refine zx_ldiv dX7_flow_221 (by decide) ?_
      refine zx_lstore dX7_flow_222 (Nat.le_of_ble_eq_true rfl) ?_
      refine zx_aload_n dX7_flow_224 rfl rfl ?_
      refine zx_getR zf_X7_20 (by assumption) (show _ = some 7 from hL.1 6 (by decide)) rfl dX7_flow_225 ?_
      refine zx_iload dX7_flow_228 rfl ?_
      refine zx_lald (c) (by assumption) rfl ⟨by rw [hl7]; assumption, by rw [hl7]; decide⟩ dX7_flow_230 ?_
      refine zx_ldc2l 50 zk_X7_221 dX7_flow_231 ?_
      refine zx_lc_ge (tgt := 242) dX7_flow_234 dX7_flow_235 (by decide) (fun c_234 => ?_) (fun c_234 => ?_)
      · skip
        refine zx_lload dX7_flow_242 rfl ?_
        refine zx_lload dX7_flow_244 rfl ?_
        refine zx_lc_le (tgt := 255) dX7_flow_246 dX7_flow_247 (by decide) (fun c_246 => ?_) (fun c_246 => ?_)
        · skip
          refine zx_lload dX7_flow_255 rfl ?_
          refine zx_lload dX7_flow_257 rfl ?_
          refine zx_lneg dX7_flow_259 ?_
          refine zx_lc_ge (tgt := 270) dX7_flow_260 dX7_flow_261 (by decide) (fun c_260 => ?_) (fun c_260 => ?_)
          · skip
            refine zx_lload dX7_flow_270 rfl ?_
            refine zx_lstore dX7_flow_272 (Nat.le_of_ble_eq_true rfl) ?_
            refine zx_aload_n dX7_flow_274 rfl rfl ?_
            refine zx_getR zf_X7_48 (by assumption) (show _ = some 19 from hL.1 18 (by decide)) rfl dX7_flow_275 ?_
            refine zx_iload_n dX7_flow_278 rfl rfl ?_
            refine zx_lload dX7_flow_279 rfl ?_
            refine zx_last (f) (by assumption) rfl ⟨by rw [hl19]; assumption, by rw [hl19]; decide⟩ dX7_flow_281 ?_
            exact zx_return rfl rfl (by exact (Eq.trans (congrArg (fun w => q_flow1 μ f (t_spd μ f (some c) (some d) out v w) (some c) (some d) v) (if_neg c_52)) (congrArg (zsL (zsD μ 11 f _) 19 f) (Eq.trans (if_pos c_193) (Eq.trans (if_neg c_234) (Eq.trans (if_neg c_246) (if_neg c_260))))))) dX7_flow_282
          · skip
            refine zx_lload dX7_flow_264 rfl ?_
            refine zx_lneg dX7_flow_266 ?_
            refine zx_goto (tgt := 272) dX7_flow_267 (by decide) ?_
            refine zx_lstore dX7_flow_272 (Nat.le_of_ble_eq_true rfl) ?_
            refine zx_aload_n dX7_flow_274 rfl rfl ?_
            refine zx_getR zf_X7_48 (by assumption) (show _ = some 19 from hL.1 18 (by decide)) rfl dX7_flow_275 ?_
            refine zx_iload_n dX7_flow_278 rfl rfl ?_
            refine zx_lload dX7_flow_279 rfl ?_
            refine zx_last (f) (by assumption) rfl ⟨by rw [hl19]; assumption, by rw [hl19]; decide⟩ dX7_flow_281 ?_
            exact zx_return rfl rfl (by exact (Eq.trans (congrArg (fun w => q_flow1 μ f (t_spd μ f (some c) (some d) out v w) (some c) (some d) v) (if_neg c_52)) (congrArg (zsL (zsD μ 11 f _) 19 f) (Eq.trans (if_pos c_193) (Eq.trans (if_neg c_234) (Eq.trans (if_neg c_246) (if_pos c_260))))))) dX7_flow_282
        · skip
          refine zx_lload dX7_flow_250 rfl ?_
          refine zx_goto (tgt := 272) dX7_flow_252 (by decide) ?_
          refine zx_lstore dX7_flow_272 (Nat.le_of_ble_eq_true rfl) ?_
          refine zx_aload_n dX7_flow_274 rfl rfl ?_
          refine zx_getR zf_X7_48 (by assumption) (show _ = some 19 from hL.1 18 (by decide)) rfl dX7_flow_275 ?_
          refine zx_iload_n dX7_flow_278 rfl rfl ?_
          refine zx_lload dX7_flow_279 rfl ?_
          refine zx_last (f) (by assumption) rfl ⟨by rw [hl19]; assumption, by rw [hl19]; decide⟩ dX7_flow_281 ?_
          exact zx_return rfl rfl (by exact (Eq.trans (congrArg (fun w => q_flow1 μ f (t_spd μ f (some c) (some d) out v w) (some c) (some d) v) (if_neg c_52)) (congrArg (zsL (zsD μ 11 f _) 19 f) (Eq.trans (if_pos c_193) (Eq.trans (if_neg c_234) (if_pos c_246)))))) dX7_flow_282
      · skip
        refine zx_lconst 0 dX7_flow_238 (by decide) ?_
        refine zx_goto (tgt := 272) dX7_flow_239 (by decide) ?_
        refine zx_lstore dX7_flow_272 (Nat.le_of_ble_eq_true rfl) ?_
        refine zx_aload_n dX7_flow_274 rfl rfl ?_
        refine zx_getR zf_X7_48 (by assumption) (show _ = some 19 from hL.1 18 (by decide)) rfl dX7_flow_275 ?_
        refine zx_iload_n dX7_flow_278 rfl rfl ?_
        refine zx_lload dX7_flow_279 rfl ?_
        refine zx_last (f) (by assumption) rfl ⟨by rw [hl19]; assumption, by rw [hl19]; decide⟩ dX7_flow_281 ?_
        exact zx_return rfl rfl (by exact (Eq.trans (congrArg (fun w => q_flow1 μ f (t_spd μ f (some c) (some d) out v w) (some c) (some d) v) (if_neg c_52)) (congrArg (zsL (zsD μ 11 f _) 19 f) (Eq.trans (if_pos c_193) (if_pos c_234))))) dX7_flow_282
  · skip
    refine zx_aload_n dX7_flow_55 rfl rfl ?_
    refine zx_getR zf_X7_60 (by assumption) (show _ = some 26 from hL.1 25 (by decide)) rfl dX7_flow_56 ?_
    refine zx_iload dX7_flow_59 rfl ?_
    refine zx_dald (hr) (by assumption) rfl ⟨by rw [hl26]; assumption, by rw [hl26]; decide⟩ dX7_flow_61 ?_
    refine zx_goto (tgt := 72) dX7_flow_62 (by decide) ?_
    refine zx_dstore dX7_flow_72 (Nat.le_of_ble_eq_true rfl) ?_
    refine zx_aload_n dX7_flow_74 rfl rfl ?_
    refine zx_getR zf_X7_33 (by assumption) (show _ = some 11 from hL.1 10 (by decide)) rfl dX7_flow_75 ?_
    refine zx_iload_n dX7_flow_78 rfl rfl ?_
    refine zx_dald (f) (by assumption) rfl ⟨by rw [hl11]; assumption, by rw [hl11]; decide⟩ dX7_flow_79 ?_
    refine zx_dstore dX7_flow_80 (Nat.le_of_ble_eq_true rfl) ?_
    refine zx_dload dX7_flow_82 rfl ?_
    refine zx_dload dX7_flow_84 rfl ?_
    refine zx_ldc2d 4576808701761150024 zk_X7_204 (by decide +kernel) dX7_flow_86 ?_
    refine zx_dload dX7_flow_89 rfl ?_
    refine zx_dmul dX7_flow_91 ?_
    refine zx_ldc2d 4532020583610935537 zk_X7_206 (by decide +kernel) dX7_flow_92 ?_
    refine zx_dload dX7_flow_95 rfl ?_
    refine zx_dmul dX7_flow_97 ?_
    refine zx_dadd dX7_flow_98 ?_
    refine zx_dmul dX7_flow_99 ?_
    refine zx_dadd dX7_flow_100 ?_
    refine zx_dconst1 dX7_flow_101 ?_
    refine zx_ldc2d 4566758108544739836 zk_X7_208 (by decide +kernel) dX7_flow_102 ?_
    refine zx_dload dX7_flow_105 rfl ?_
    refine zx_dmul dX7_flow_107 ?_
    refine zx_dload dX7_flow_108 rfl ?_
    refine zx_callS1 _ zs_X7_210 m_X7_size rfl rfl ⟨rfl, rfl, (Nat.le_of_ble_eq_true rfl), (Nat.le_of_ble_eq_true rfl)⟩ (Nat.le_of_ble_eq_true rfl) dX7_flow_110 ?_
    refine zx_dmul dX7_flow_113 ?_
    refine zx_dadd dX7_flow_114 ?_
    refine zx_ddiv dX7_flow_115 ?_
    refine zx_dstore dX7_flow_116 (Nat.le_of_ble_eq_true rfl) ?_
    refine zx_aload_n dX7_flow_118 rfl rfl ?_
    refine zx_getR zf_X7_33 (by assumption) (show _ = some 11 from hL.1 10 (by decide)) rfl dX7_flow_119 ?_
    refine zx_iload_n dX7_flow_122 rfl rfl ?_
    refine zx_dload dX7_flow_123 rfl ?_
    refine zx_dast (f) (by assumption) rfl ⟨by rw [hl11]; assumption, by rw [hl11]; decide⟩ dX7_flow_125 ?_
    refine zx_iload_n dX7_flow_126 rfl rfl ?_
    refine zx_iconst (-1) dX7_flow_127 (by decide) ?_
    refine zx_icmp_ne (tgt := 141) dX7_flow_128 (by decide) (fun _ => ?_) (fun h_ => absurd h_ (nI_ne1 (show c < 2 ^ 31 by omega)))
    refine zx_iload dX7_flow_141 rfl ?_
    refine zx_iconst (-1) dX7_flow_143 (by decide) ?_
    refine zx_icmp_ne (tgt := 156) dX7_flow_144 (by decide) (fun _ => ?_) (fun h_ => absurd h_ (nI_ne1 (show d < 2 ^ 31 by omega)))
    refine zx_aload_n dX7_flow_156 rfl rfl ?_
    refine zx_getR zf_X7_20 (by assumption) (show _ = some 7 from hL.1 6 (by decide)) rfl dX7_flow_157 ?_
    refine zx_iload_n dX7_flow_160 rfl rfl ?_
    refine zx_lald (c) (by assumption) rfl ⟨by rw [hl7]; assumption, by rw [hl7]; decide⟩ dX7_flow_161 ?_
    refine zx_aload_n dX7_flow_162 rfl rfl ?_
    refine zx_getR zf_X7_20 (by assumption) (show _ = some 7 from hL.1 6 (by decide)) rfl dX7_flow_163 ?_
    refine zx_iload dX7_flow_166 rfl ?_
    refine zx_lald (d) (by assumption) rfl ⟨by rw [hl7]; assumption, by rw [hl7]; decide⟩ dX7_flow_168 ?_
    refine zx_callS1 _ zs_X7_213 m_J9_min_f86c9 rfl rfl ⟨rfl, rfl, (Nat.le_of_ble_eq_true rfl), (Nat.le_of_ble_eq_true rfl)⟩ (Nat.le_of_ble_eq_true rfl) dX7_flow_169 ?_
    refine zx_lstore dX7_flow_172 (Nat.le_of_ble_eq_true rfl) ?_
    refine zx_dload dX7_flow_174 rfl ?_
    refine zx_dload dX7_flow_176 rfl ?_
    refine zx_dmul dX7_flow_178 ?_
    refine zx_lload dX7_flow_179 rfl ?_
    refine zx_l2d dX7_flow_181 ?_
    refine zx_ldc2d 4562254508917369340 zk_X7_196 (by decide +kernel) dX7_flow_182 ?_
    refine zx_dmul dX7_flow_185 ?_
    refine zx_dmul dX7_flow_186 ?_
    refine zx_d2l dX7_flow_187 ?_
    refine zx_lstore dX7_flow_188 (Nat.le_of_ble_eq_true rfl) ?_
    refine zx_lload dX7_flow_190 rfl ?_
    refine zx_lconst 0 dX7_flow_192 (by decide) ?_
    refine zx_lc_le (tgt := 201) dX7_flow_193 dX7_flow_194 (by decide) (fun c_193 => ?_) (fun c_193 => ?_)
    · skip
      refine zx_iload dX7_flow_201 rfl ?_
      refine zx_istore dX7_flow_203 (Nat.le_of_ble_eq_true rfl) ?_
      refine zx_iload dX7_flow_205 rfl ?_
      refine zx_iconst (-1) dX7_flow_207 (by decide) ?_
      refine zx_icmp_eq (tgt := 274) dX7_flow_208 (by decide) (fun h_ => absurd h_ (nI_ne1 (show d < 2 ^ 31 by omega))) (fun _ => ?_)
      refine zx_aload_n dX7_flow_211 rfl rfl ?_
      refine zx_getR zf_X7_20 (by assumption) (show _ = some 7 from hL.1 6 (by decide)) rfl dX7_flow_212 ?_
      refine zx_iload dX7_flow_215 rfl ?_
      refine zx_lald (d) (by assumption) rfl ⟨by rw [hl7]; assumption, by rw [hl7]; decide⟩ dX7_flow_217 ?_
      refine zx_ldc2l 8 zk_X7_219 dX7_flow_218 ?_
      refine zx_ldiv dX7_flow_221 (by decide) ?_
      refine zx_lstore dX7_flow_222 (Nat.le_of_ble_eq_true rfl) ?_
      refine zx_aload_n dX7_flow_224 rfl rfl ?_
      refine zx_getR zf_X7_20 (by assumption) (show _ = some 7 from hL.1 6 (by decide)) rfl dX7_flow_225 ?_
      refine zx_iload dX7_flow_228 rfl ?_
      refine zx_lald (d) (by assumption) rfl ⟨by rw [hl7]; assumption, by rw [hl7]; decide⟩ dX7_flow_230 ?_
      refine zx_ldc2l 50 zk_X7_221 dX7_flow_231 ?_
      refine zx_lc_ge (tgt := 242) dX7_flow_234 dX7_flow_235 (by decide) (fun c_234 => ?_) (fun c_234 => ?_)
      · skip
        refine zx_lload dX7_flow_242 rfl ?_
        refine zx_lload dX7_flow_244 rfl ?_
        refine zx_lc_le (tgt := 255) dX7_flow_246 dX7_flow_247 (by decide) (fun c_246 => ?_) (fun c_246 => ?_)
        · skip
          refine zx_lload dX7_flow_255 rfl ?_
          refine zx_lload dX7_flow_257 rfl ?_
          refine zx_lneg dX7_flow_259 ?_
          refine zx_lc_ge (tgt := 270) dX7_flow_260 dX7_flow_261 (by decide) (fun c_260 => ?_) (fun c_260 => ?_)
          · skip
            refine zx_lload dX7_flow_270 rfl ?_
            refine zx_lstore dX7_flow_272 (Nat.le_of_ble_eq_true rfl) ?_
            refine zx_aload_n dX7_flow_274 rfl rfl ?_
            refine zx_getR zf_X7_48 (by assumption) (show _ = some 19 from hL.1 18 (by decide)) rfl dX7_flow_275 ?_
            refine zx_iload_n dX7_flow_278 rfl rfl ?_
            refine zx_lload dX7_flow_279 rfl ?_
            refine zx_last (f) (by assumption) rfl ⟨by rw [hl19]; assumption, by rw [hl19]; decide⟩ dX7_flow_281 ?_
            exact zx_return rfl rfl (by exact (Eq.trans (congrArg (fun w => q_flow1 μ f (t_spd μ f (some c) (some d) out v w) (some c) (some d) v) (if_pos c_52)) (congrArg (zsL (zsD μ 11 f _) 19 f) (Eq.trans (if_neg c_193) (Eq.trans (if_neg c_234) (Eq.trans (if_neg c_246) (if_neg c_260))))))) dX7_flow_282
          · skip
            refine zx_lload dX7_flow_264 rfl ?_
            refine zx_lneg dX7_flow_266 ?_
            refine zx_goto (tgt := 272) dX7_flow_267 (by decide) ?_
            refine zx_lstore dX7_flow_272 (Nat.le_of_ble_eq_true rfl) ?_
            refine zx_aload_n dX7_flow_274 rfl rfl ?_
            refine zx_getR zf_X7_48 (by assumption) (show _ = some 19 from hL.1 18 (by decide)) rfl dX7_flow_275 ?_
            refine zx_iload_n dX7_flow_278 rfl rfl ?_
            refine zx_lload dX7_flow_279 rfl ?_
            refine zx_last (f) (by assumption) rfl ⟨by rw [hl19]; assumption, by rw [hl19]; decide⟩ dX7_flow_281 ?_
            exact zx_return rfl rfl (by exact (Eq.trans (congrArg (fun w => q_flow1 μ f (t_spd μ f (some c) (some d) out v w) (some c) (some d) v) (if_pos c_52)) (congrArg (zsL (zsD μ 11 f _) 19 f) (Eq.trans (if_neg c_193) (Eq.trans (if_neg c_234) (Eq.trans (if_neg c_246) (if_pos c_260))))))) dX7_flow_282
        · skip
          refine zx_lload dX7_flow_250 rfl ?_
          refine zx_goto (tgt := 272) dX7_flow_252 (by decide) ?_
          refine zx_lstore dX7_flow_272 (Nat.le_of_ble_eq_true rfl) ?_
          refine zx_aload_n dX7_flow_274 rfl rfl ?_
          refine zx_getR zf_X7_48 (by assumption) (show _ = some 19 from hL.1 18 (by decide)) rfl dX7_flow_275 ?_
          refine zx_iload_n dX7_flow_278 rfl rfl ?_
          refine zx_lload dX7_flow_279 rfl ?_
          refine zx_last (f) (by assumption) rfl ⟨by rw [hl19]; assumption, by rw [hl19]; decide⟩ dX7_flow_281 ?_
          exact zx_return rfl rfl (by exact (Eq.trans (congrArg (fun w => q_flow1 μ f (t_spd μ f (some c) (some d) out v w) (some c) (some d) v) (if_pos c_52)) (congrArg (zsL (zsD μ 11 f _) 19 f) (Eq.trans (if_neg c_193) (Eq.trans (if_neg c_234) (if_pos c_246)))))) dX7_flow_282
      · skip
        refine zx_lconst 0 dX7_flow_238 (by decide) ?_
        refine zx_goto (tgt := 272) dX7_flow_239 (by decide) ?_
        refine zx_lstore dX7_flow_272 (Nat.le_of_ble_eq_true rfl) ?_
        refine zx_aload_n dX7_flow_274 rfl rfl ?_
        refine zx_getR zf_X7_48 (by assumption) (show _ = some 19 from hL.1 18 (by decide)) rfl dX7_flow_275 ?_
        refine zx_iload_n dX7_flow_278 rfl rfl ?_
        refine zx_lload dX7_flow_279 rfl ?_
        refine zx_last (f) (by assumption) rfl ⟨by rw [hl19]; assumption, by rw [hl19]; decide⟩ dX7_flow_281 ?_
        exact zx_return rfl rfl (by exact (Eq.trans (congrArg (fun w => q_flow1 μ f (t_spd μ f (some c) (some d) out v w) (some c) (some d) v) (if_pos c_52)) (congrArg (zsL (zsD μ 11 f _) 19 f) (Eq.trans (if_neg c_193) (if_pos c_234))))) dX7_flow_282
    · skip
      refine zx_iload_n dX7_flow_197 rfl rfl ?_
      refine zx_goto (tgt := 203) dX7_flow_198 (by decide) ?_
      refine zx_istore dX7_flow_203 (Nat.le_of_ble_eq_true rfl) ?_
      refine zx_iload dX7_flow_205 rfl ?_
      refine zx_iconst (-1) dX7_flow_207 (by decide) ?_
      refine zx_icmp_eq (tgt := 274) dX7_flow_208 (by decide) (fun h_ => absurd h_ (nI_ne1 (show c < 2 ^ 31 by omega))) (fun _ => ?_)
      refine zx_aload_n dX7_flow_211 rfl rfl ?_
      refine zx_getR zf_X7_20 (by assumption) (show _ = some 7 from hL.1 6 (by decide)) rfl dX7_flow_212 ?_
      refine zx_iload dX7_flow_215 rfl ?_
      refine zx_lald (c) (by assumption) rfl ⟨by rw [hl7]; assumption, by rw [hl7]; decide⟩ dX7_flow_217 ?_
      refine zx_ldc2l 8 zk_X7_219 dX7_flow_218 ?_
      refine zx_ldiv dX7_flow_221 (by decide) ?_
      refine zx_lstore dX7_flow_222 (Nat.le_of_ble_eq_true rfl) ?_
      refine zx_aload_n dX7_flow_224 rfl rfl ?_
      refine zx_getR zf_X7_20 (by assumption) (show _ = some 7 from hL.1 6 (by decide)) rfl dX7_flow_225 ?_
      refine zx_iload dX7_flow_228 rfl ?_
      refine zx_lald (c) (by assumption) rfl ⟨by rw [hl7]; assumption, by rw [hl7]; decide⟩ dX7_flow_230 ?_
      refine zx_ldc2l 50 zk_X7_221 dX7_flow_231 ?_
      refine zx_lc_ge (tgt := 242) dX7_flow_234 dX7_flow_235 (by decide) (fun c_234 => ?_) (fun c_234 => ?_)
      · skip
        refine zx_lload dX7_flow_242 rfl ?_
        refine zx_lload dX7_flow_244 rfl ?_
        refine zx_lc_le (tgt := 255) dX7_flow_246 dX7_flow_247 (by decide) (fun c_246 => ?_) (fun c_246 => ?_)
        · skip
          refine zx_lload dX7_flow_255 rfl ?_
          refine zx_lload dX7_flow_257 rfl ?_
          refine zx_lneg dX7_flow_259 ?_
          refine zx_lc_ge (tgt := 270) dX7_flow_260 dX7_flow_261 (by decide) (fun c_260 => ?_) (fun c_260 => ?_)
          · skip
            refine zx_lload dX7_flow_270 rfl ?_
            refine zx_lstore dX7_flow_272 (Nat.le_of_ble_eq_true rfl) ?_
            refine zx_aload_n dX7_flow_274 rfl rfl ?_
            refine zx_getR zf_X7_48 (by assumption) (show _ = some 19 from hL.1 18 (by decide)) rfl dX7_flow_275 ?_
            refine zx_iload_n dX7_flow_278 rfl rfl ?_
            refine zx_lload dX7_flow_279 rfl ?_
            refine zx_last (f) (by assumption) rfl ⟨by rw [hl19]; assumption, by rw [hl19]; decide⟩ dX7_flow_281 ?_
            exact zx_return rfl rfl (by exact (Eq.trans (congrArg (fun w => q_flow1 μ f (t_spd μ f (some c) (some d) out v w) (some c) (some d) v) (if_pos c_52)) (congrArg (zsL (zsD μ 11 f _) 19 f) (Eq.trans (if_pos c_193) (Eq.trans (if_neg c_234) (Eq.trans (if_neg c_246) (if_neg c_260))))))) dX7_flow_282
          · skip
            refine zx_lload dX7_flow_264 rfl ?_
            refine zx_lneg dX7_flow_266 ?_
            refine zx_goto (tgt := 272) dX7_flow_267 (by decide) ?_
            refine zx_lstore dX7_flow_272 (Nat.le_of_ble_eq_true rfl) ?_
            refine zx_aload_n dX7_flow_274 rfl rfl ?_
            refine zx_getR zf_X7_48 (by assumption) (show _ = some 19 from hL.1 18 (by decide)) rfl dX7_flow_275 ?_
            refine zx_iload_n dX7_flow_278 rfl rfl ?_
            refine zx_lload dX7_flow_279 rfl ?_
            refine zx_last (f) (by assumption) rfl ⟨by rw [hl19]; assumption, by rw [hl19]; decide⟩ dX7_flow_281 ?_
            exact zx_return rfl rfl (by exact (Eq.trans (congrArg (fun w => q_flow1 μ f (t_spd μ f (some c) (some d) out v w) (some c) (some d) v) (if_pos c_52)) (congrArg (zsL (zsD μ 11 f _) 19 f) (Eq.trans (if_pos c_193) (Eq.trans (if_neg c_234) (Eq.trans (if_neg c_246) (if_pos c_260))))))) dX7_flow_282
        · skip
          refine zx_lload dX7_flow_250 rfl ?_
          refine zx_goto (tgt := 272) dX7_flow_252 (by decide) ?_
          refine zx_lstore dX7_flow_272 (Nat.le_of_ble_eq_true rfl) ?_
          refine zx_aload_n dX7_flow_274 rfl rfl ?_
          refine zx_getR zf_X7_48 (by assumption) (show _ = some 19 from hL.1 18 (by decide)) rfl dX7_flow_275 ?_
          refine zx_iload_n dX7_flow_278 rfl rfl ?_
          refine zx_lload dX7_flow_279 rfl ?_
          refine zx_last (f) (by assumption) rfl ⟨by rw [hl19]; assumption, by rw [hl19]; decide⟩ dX7_flow_281 ?_
          exact zx_return rfl rfl (by exact (Eq.trans (congrArg (fun w => q_flow1 μ f (t_spd μ f (some c) (some d) out v w) (some c) (some d) v) (if_pos c_52)) (congrArg (zsL (zsD μ 11 f _) 19 f) (Eq.trans (if_pos c_193) (Eq.trans (if_neg c_234) (if_pos c_246)))))) dX7_flow_282
      · skip
        refine zx_lconst 0 dX7_flow_238 (by decide) ?_
        refine zx_goto (tgt := 272) dX7_flow_239 (by decide) ?_
        refine zx_lstore dX7_flow_272 (Nat.le_of_ble_eq_true rfl) ?_
        refine zx_aload_n dX7_flow_274 rfl rfl ?_
        refine zx_getR zf_X7_48 (by assumption) (show _ = some 19 from hL.1 18 (by decide)) rfl dX7_flow_275 ?_
        refine zx_iload_n dX7_flow_278 rfl rfl ?_
        refine zx_lload dX7_flow_279 rfl ?_
        refine zx_last (f) (by assumption) rfl ⟨by rw [hl19]; assumption, by rw [hl19]; decide⟩ dX7_flow_281 ?_
        exact zx_return rfl rfl (by exact (Eq.trans (congrArg (fun w => q_flow1 μ f (t_spd μ f (some c) (some d) out v w) (some c) (some d) v) (if_pos c_52)) (congrArg (zsL (zsD μ 11 f _) 19 f) (Eq.trans (if_pos c_193) (if_pos c_234))))) dX7_flow_282

