def t_ow (μ : ZMem) (r : Nat) (k : UInt64) (x : Option Nat) : UInt64 := match x with
  | none => k
  | some d => zD μ r d
def q_passP (μ : ZMem) (n : Int64) (x : Option Nat) : ZMem := (fun m : ZMem => zsD m 0 20 (zadd (zD m 0 20) (zmul (FP.l2d n) (t_ow m 18 k34 x)))) (zsD μ 0 19 (zadd (zD μ 0 19) (zmul (FP.l2d n) (t_ow μ 17 k8 x))))
def q_passM (μ : ZMem) (c : Nat) (n : Int64) : ZMem := (fun m : ZMem => zsD m 0 20 (zsub (zD m 0 20) (zmul (FP.l2d (-n)) (zD m 18 c)))) (zsD μ 0 19 (zsub (zD μ 0 19) (zmul (FP.l2d (-n)) (zD μ 17 c))))
def q_passT (m : ZMem) (c f : Nat) (n : Int64) : ZMem := (fun m : ZMem => zsD m 0 21 (s_dmax (zD m 0 21) (t_size (zD m 11 f)))) (zsL m 7 c (zL m 7 c + n))
def q_pass (μ : ZMem) (c f : Nat) (n : Int64) (x : Option Nat) : ZMem := q_passT (if 0 < n then q_passP μ n x else q_passM μ c n) c f n
theorem zKp_pass (μ : ZMem) (c f : Nat) (n : Int64) (x : Option Nat) : zKp (q_pass μ c f n x) μ := by
  unfold q_pass
  split <;> exact ⟨rfl, rfl⟩
set_option maxHeartbeats 4000000 in
set_option maxRecDepth 100000 in
theorem m_X7_pass_n {g : ZG} {μ : ZMem} {w h : Nat} {ly : Int32} (hG : zGM g) (hL : zLM w h ly μ) {c : Nat} (hc : c < 144) {f : Nat} (hf : f < 336) {n : Int64} : zCab g RX7 yX7_pass cX7_pass 6 (none) (zrm 1) [zr (some 0), zi (nI c), zi (nI f), zl n, zi (-1)] μ none (q_pass μ c f n none) := by
  refine zCab_w (by decide +kernel) rfl (Nat.le_of_ble_eq_true rfl) ?_
  have hO0 : zO g 7 0 := hG.o 0 (by decide)
  have hO7 : zO g 10 7 := hG.o 7 (by decide)
  have hl7 : zln g 7 = 144 := hG.l 7 (by decide)
  have hO11 : zO g 8 11 := hG.o 11 (by decide)
  have hl11 : zln g 11 = 336 := hG.l 11 (by decide)
  have hO17 : zO g 8 17 := hG.o 17 (by decide)
  have hl17 : zln g 17 = 144 := hG.l 17 (by decide)
  have hO18 : zO g 8 18 := hG.o 18 (by decide)
  have hl18 : zln g 18 = 144 := hG.l 18 (by decide)
  have hw0 : zI μ 0 0 = nI w := hL.2.1
  have hh0 : zI μ 0 1 = nI h := hL.2.2.1
  have hy0 : zI μ 0 2 = ly := hL.2.2.2.1
  obtain ⟨hb1, hb2, hb3, hb4⟩ := hL.2.2.2.2
  refine zx_lload_n dX7_pass_0 rfl rfl ?_
  refine zx_lconst 0 dX7_pass_1 (by decide) ?_
  refine zx_lc_le (tgt := 71) dX7_pass_2 dX7_pass_3 (by decide) (fun c_2 => ?_) (fun c_2 => ?_)
  · skip
    refine zx_aload_n dX7_pass_71 rfl rfl ?_
    refine zx_aload_n dX7_pass_72 rfl rfl ?_
    refine zx_getD zf_X7_240 (by assumption) rfl dX7_pass_73 ?_
    refine zx_lload_n dX7_pass_76 rfl rfl ?_
    refine zx_lneg dX7_pass_77 ?_
    refine zx_l2d dX7_pass_78 ?_
    refine zx_aload_n dX7_pass_79 rfl rfl ?_
    refine zx_getR zf_X7_42 (by assumption) (show _ = some 17 from hL.1 16 (by decide)) rfl dX7_pass_80 ?_
    refine zx_iload_n dX7_pass_83 rfl rfl ?_
    refine zx_dald (c) (by assumption) rfl ⟨by rw [hl17]; assumption, by rw [hl17]; decide⟩ dX7_pass_84 ?_
    refine zx_dmul dX7_pass_85 ?_
    refine zx_dsub dX7_pass_86 ?_
    refine zx_putD zf_X7_240 (by assumption) rfl dX7_pass_87 ?_
    refine zx_aload_n dX7_pass_90 rfl rfl ?_
    refine zx_aload_n dX7_pass_91 rfl rfl ?_
    refine zx_getD zf_X7_245 (by assumption) rfl dX7_pass_92 ?_
    refine zx_lload_n dX7_pass_95 rfl rfl ?_
    refine zx_lneg dX7_pass_96 ?_
    refine zx_l2d dX7_pass_97 ?_
    refine zx_aload_n dX7_pass_98 rfl rfl ?_
    refine zx_getR zf_X7_45 (by assumption) (show _ = some 18 from hL.1 17 (by decide)) rfl dX7_pass_99 ?_
    refine zx_iload_n dX7_pass_102 rfl rfl ?_
    refine zx_dald (c) (by assumption) rfl ⟨by rw [hl18]; assumption, by rw [hl18]; decide⟩ dX7_pass_103 ?_
    refine zx_dmul dX7_pass_104 ?_
    refine zx_dsub dX7_pass_105 ?_
    refine zx_putD zf_X7_245 (by assumption) rfl dX7_pass_106 ?_
    refine zx_aload_n dX7_pass_109 rfl rfl ?_
    refine zx_getR zf_X7_20 (by assumption) (show _ = some 7 from hL.1 6 (by decide)) rfl dX7_pass_110 ?_
    refine zx_iload_n dX7_pass_113 rfl rfl ?_
    refine zx_dup2_11 dX7_pass_114 rfl rfl ?_
    refine zx_lald (c) (by assumption) rfl ⟨by rw [hl7]; assumption, by rw [hl7]; decide⟩ dX7_pass_115 ?_
    refine zx_lload_n dX7_pass_116 rfl rfl ?_
    refine zx_ladd dX7_pass_117 ?_
    refine zx_last (c) (by assumption) rfl ⟨by rw [hl7]; assumption, by rw [hl7]; decide⟩ dX7_pass_118 ?_
    refine zx_aload_n dX7_pass_119 rfl rfl ?_
    refine zx_aload_n dX7_pass_120 rfl rfl ?_
    refine zx_getD zf_X7_250 (by assumption) rfl dX7_pass_121 ?_
    refine zx_aload_n dX7_pass_124 rfl rfl ?_
    refine zx_getR zf_X7_33 (by assumption) (show _ = some 11 from hL.1 10 (by decide)) rfl dX7_pass_125 ?_
    refine zx_iload_n dX7_pass_128 rfl rfl ?_
    refine zx_dald (f) (by assumption) rfl ⟨by rw [hl11]; assumption, by rw [hl11]; decide⟩ dX7_pass_129 ?_
    refine zx_callS1 _ zs_X7_210 m_X7_size rfl rfl ⟨rfl, rfl, (Nat.le_of_ble_eq_true rfl), (Nat.le_of_ble_eq_true rfl)⟩ (Nat.le_of_ble_eq_true rfl) dX7_pass_130 ?_
    refine zx_dmax zs_X7_253 ⟨Nat.le_of_ble_eq_true rfl, Nat.le_of_ble_eq_true rfl⟩ (by decide) dX7_pass_133 ?_
    refine zx_putD zf_X7_250 (by assumption) rfl dX7_pass_136 ?_
    exact zx_return rfl rfl (by exact congrArg (fun m => q_passT m c f n) (if_neg c_2)) dX7_pass_139
  · skip
    refine zx_aload_n dX7_pass_6 rfl rfl ?_
    refine zx_aload_n dX7_pass_7 rfl rfl ?_
    refine zx_getD zf_X7_240 (by assumption) rfl dX7_pass_8 ?_
    refine zx_lload_n dX7_pass_11 rfl rfl ?_
    refine zx_l2d dX7_pass_12 ?_
    refine zx_iload dX7_pass_13 rfl ?_
    refine zx_iconst (-1) dX7_pass_15 (by decide) ?_
    refine zx_icmp_ne (tgt := 25) dX7_pass_16 (by decide) (fun h_ => absurd h_ (fun q => q rfl)) (fun _ => ?_)
    refine zx_ldc2d 4620693217682128896 zk_X7_243 (by decide +kernel) dX7_pass_19 ?_
    refine zx_goto (tgt := 32) dX7_pass_22 (by decide) ?_
    refine zx_dmul dX7_pass_32 ?_
    refine zx_dadd dX7_pass_33 ?_
    refine zx_putD zf_X7_240 (by assumption) rfl dX7_pass_34 ?_
    refine zx_aload_n dX7_pass_37 rfl rfl ?_
    refine zx_aload_n dX7_pass_38 rfl rfl ?_
    refine zx_getD zf_X7_245 (by assumption) rfl dX7_pass_39 ?_
    refine zx_lload_n dX7_pass_42 rfl rfl ?_
    refine zx_l2d dX7_pass_43 ?_
    refine zx_iload dX7_pass_44 rfl ?_
    refine zx_iconst (-1) dX7_pass_46 (by decide) ?_
    refine zx_icmp_ne (tgt := 56) dX7_pass_47 (by decide) (fun h_ => absurd h_ (fun q => q rfl)) (fun _ => ?_)
    refine zx_ldc2d 4629981891913580544 zk_X7_248 (by decide +kernel) dX7_pass_50 ?_
    refine zx_goto (tgt := 63) dX7_pass_53 (by decide) ?_
    refine zx_dmul dX7_pass_63 ?_
    refine zx_dadd dX7_pass_64 ?_
    refine zx_putD zf_X7_245 (by assumption) rfl dX7_pass_65 ?_
    refine zx_goto (tgt := 109) dX7_pass_68 (by decide) ?_
    refine zx_aload_n dX7_pass_109 rfl rfl ?_
    refine zx_getR zf_X7_20 (by assumption) (show _ = some 7 from hL.1 6 (by decide)) rfl dX7_pass_110 ?_
    refine zx_iload_n dX7_pass_113 rfl rfl ?_
    refine zx_dup2_11 dX7_pass_114 rfl rfl ?_
    refine zx_lald (c) (by assumption) rfl ⟨by rw [hl7]; assumption, by rw [hl7]; decide⟩ dX7_pass_115 ?_
    refine zx_lload_n dX7_pass_116 rfl rfl ?_
    refine zx_ladd dX7_pass_117 ?_
    refine zx_last (c) (by assumption) rfl ⟨by rw [hl7]; assumption, by rw [hl7]; decide⟩ dX7_pass_118 ?_
    refine zx_aload_n dX7_pass_119 rfl rfl ?_
    refine zx_aload_n dX7_pass_120 rfl rfl ?_
    refine zx_getD zf_X7_250 (by assumption) rfl dX7_pass_121 ?_
    refine zx_aload_n dX7_pass_124 rfl rfl ?_
    refine zx_getR zf_X7_33 (by assumption) (show _ = some 11 from hL.1 10 (by decide)) rfl dX7_pass_125 ?_
    refine zx_iload_n dX7_pass_128 rfl rfl ?_
    refine zx_dald (f) (by assumption) rfl ⟨by rw [hl11]; assumption, by rw [hl11]; decide⟩ dX7_pass_129 ?_
    refine zx_callS1 _ zs_X7_210 m_X7_size rfl rfl ⟨rfl, rfl, (Nat.le_of_ble_eq_true rfl), (Nat.le_of_ble_eq_true rfl)⟩ (Nat.le_of_ble_eq_true rfl) dX7_pass_130 ?_
    refine zx_dmax zs_X7_253 ⟨Nat.le_of_ble_eq_true rfl, Nat.le_of_ble_eq_true rfl⟩ (by decide) dX7_pass_133 ?_
    refine zx_putD zf_X7_250 (by assumption) rfl dX7_pass_136 ?_
    exact zx_return rfl rfl (by exact congrArg (fun m => q_passT m c f n) (if_pos c_2)) dX7_pass_139

set_option maxHeartbeats 4000000 in
set_option maxRecDepth 100000 in
theorem m_X7_pass_d {g : ZG} {μ : ZMem} {w h : Nat} {ly : Int32} (hG : zGM g) (hL : zLM w h ly μ) {c : Nat} (hc : c < 144) {f : Nat} (hf : f < 336) {n : Int64} {d : Nat} (hd : d < 144) : zCab g RX7 yX7_pass cX7_pass 6 (none) (zrm 1) [zr (some 0), zi (nI c), zi (nI f), zl n, zi (nI d)] μ none (q_pass μ c f n (some d)) := by
  refine zCab_w (by decide +kernel) rfl (Nat.le_of_ble_eq_true rfl) ?_
  have hO0 : zO g 7 0 := hG.o 0 (by decide)
  have hO7 : zO g 10 7 := hG.o 7 (by decide)
  have hl7 : zln g 7 = 144 := hG.l 7 (by decide)
  have hO11 : zO g 8 11 := hG.o 11 (by decide)
  have hl11 : zln g 11 = 336 := hG.l 11 (by decide)
  have hO17 : zO g 8 17 := hG.o 17 (by decide)
  have hl17 : zln g 17 = 144 := hG.l 17 (by decide)
  have hO18 : zO g 8 18 := hG.o 18 (by decide)
  have hl18 : zln g 18 = 144 := hG.l 18 (by decide)
  have hw0 : zI μ 0 0 = nI w := hL.2.1
  have hh0 : zI μ 0 1 = nI h := hL.2.2.1
  have hy0 : zI μ 0 2 = ly := hL.2.2.2.1
  obtain ⟨hb1, hb2, hb3, hb4⟩ := hL.2.2.2.2
  refine zx_lload_n dX7_pass_0 rfl rfl ?_
  refine zx_lconst 0 dX7_pass_1 (by decide) ?_
  refine zx_lc_le (tgt := 71) dX7_pass_2 dX7_pass_3 (by decide) (fun c_2 => ?_) (fun c_2 => ?_)
  · skip
    refine zx_aload_n dX7_pass_71 rfl rfl ?_
    refine zx_aload_n dX7_pass_72 rfl rfl ?_
    refine zx_getD zf_X7_240 (by assumption) rfl dX7_pass_73 ?_
    refine zx_lload_n dX7_pass_76 rfl rfl ?_
    refine zx_lneg dX7_pass_77 ?_
    refine zx_l2d dX7_pass_78 ?_
    refine zx_aload_n dX7_pass_79 rfl rfl ?_
    refine zx_getR zf_X7_42 (by assumption) (show _ = some 17 from hL.1 16 (by decide)) rfl dX7_pass_80 ?_
    refine zx_iload_n dX7_pass_83 rfl rfl ?_
    refine zx_dald (c) (by assumption) rfl ⟨by rw [hl17]; assumption, by rw [hl17]; decide⟩ dX7_pass_84 ?_
    refine zx_dmul dX7_pass_85 ?_
    refine zx_dsub dX7_pass_86 ?_
    refine zx_putD zf_X7_240 (by assumption) rfl dX7_pass_87 ?_
    refine zx_aload_n dX7_pass_90 rfl rfl ?_
    refine zx_aload_n dX7_pass_91 rfl rfl ?_
    refine zx_getD zf_X7_245 (by assumption) rfl dX7_pass_92 ?_
    refine zx_lload_n dX7_pass_95 rfl rfl ?_
    refine zx_lneg dX7_pass_96 ?_
    refine zx_l2d dX7_pass_97 ?_
    refine zx_aload_n dX7_pass_98 rfl rfl ?_
    refine zx_getR zf_X7_45 (by assumption) (show _ = some 18 from hL.1 17 (by decide)) rfl dX7_pass_99 ?_
    refine zx_iload_n dX7_pass_102 rfl rfl ?_
    refine zx_dald (c) (by assumption) rfl ⟨by rw [hl18]; assumption, by rw [hl18]; decide⟩ dX7_pass_103 ?_
    refine zx_dmul dX7_pass_104 ?_
    refine zx_dsub dX7_pass_105 ?_
    refine zx_putD zf_X7_245 (by assumption) rfl dX7_pass_106 ?_
    refine zx_aload_n dX7_pass_109 rfl rfl ?_
    refine zx_getR zf_X7_20 (by assumption) (show _ = some 7 from hL.1 6 (by decide)) rfl dX7_pass_110 ?_
    refine zx_iload_n dX7_pass_113 rfl rfl ?_
    refine zx_dup2_11 dX7_pass_114 rfl rfl ?_
    refine zx_lald (c) (by assumption) rfl ⟨by rw [hl7]; assumption, by rw [hl7]; decide⟩ dX7_pass_115 ?_
    refine zx_lload_n dX7_pass_116 rfl rfl ?_
    refine zx_ladd dX7_pass_117 ?_
    refine zx_last (c) (by assumption) rfl ⟨by rw [hl7]; assumption, by rw [hl7]; decide⟩ dX7_pass_118 ?_
    refine zx_aload_n dX7_pass_119 rfl rfl ?_
    refine zx_aload_n dX7_pass_120 rfl rfl ?_
    refine zx_getD zf_X7_250 (by assumption) rfl dX7_pass_121 ?_
    refine zx_aload_n dX7_pass_124 rfl rfl ?_
    refine zx_getR zf_X7_33 (by assumption) (show _ = some 11 from hL.1 10 (by decide)) rfl dX7_pass_125 ?_
    refine zx_iload_n dX7_pass_128 rfl rfl ?_
    refine zx_dald (f) (by assumption) rfl ⟨by rw [hl11]; assumption, by rw [hl11]; decide⟩ dX7_pass_129 ?_
    refine zx_callS1 _ zs_X7_210 m_X7_size rfl rfl ⟨rfl, rfl, (Nat.le_of_ble_eq_true rfl), (Nat.le_of_ble_eq_true rfl)⟩ (Nat.le_of_ble_eq_true rfl) dX7_pass_130 ?_
    refine zx_dmax zs_X7_253 ⟨Nat.le_of_ble_eq_true rfl, Nat.le_of_ble_eq_true rfl⟩ (by decide) dX7_pass_133 ?_
    refine zx_putD zf_X7_250 (by assumption) rfl dX7_pass_136 ?_
    exact zx_return rfl rfl (by exact congrArg (fun m => q_passT m c f n) (if_neg c_2)) dX7_pass_139
  · skip
    refine zx_aload_n dX7_pass_6 rfl rfl ?_
    refine zx_aload_n dX7_pass_7 rfl rfl ?_
    refine zx_getD zf_X7_240 (by assumption) rfl dX7_pass_8 ?_
    refine zx_lload_n dX7_pass_11 rfl rfl ?_
    refine zx_l2d dX7_pass_12 ?_
    refine zx_iload dX7_pass_13 rfl ?_
    refine zx_iconst (-1) dX7_pass_15 (by decide) ?_
    refine zx_icmp_ne (tgt := 25) dX7_pass_16 (by decide) (fun _ => ?_) (fun h_ => absurd h_ (nI_ne1 (show d < 2 ^ 31 by omega)))
    refine zx_aload_n dX7_pass_25 rfl rfl ?_
    refine zx_getR zf_X7_42 (by assumption) (show _ = some 17 from hL.1 16 (by decide)) rfl dX7_pass_26 ?_
    refine zx_iload dX7_pass_29 rfl ?_
    refine zx_dald (d) (by assumption) rfl ⟨by rw [hl17]; assumption, by rw [hl17]; decide⟩ dX7_pass_31 ?_
    refine zx_dmul dX7_pass_32 ?_
    refine zx_dadd dX7_pass_33 ?_
    refine zx_putD zf_X7_240 (by assumption) rfl dX7_pass_34 ?_
    refine zx_aload_n dX7_pass_37 rfl rfl ?_
    refine zx_aload_n dX7_pass_38 rfl rfl ?_
    refine zx_getD zf_X7_245 (by assumption) rfl dX7_pass_39 ?_
    refine zx_lload_n dX7_pass_42 rfl rfl ?_
    refine zx_l2d dX7_pass_43 ?_
    refine zx_iload dX7_pass_44 rfl ?_
    refine zx_iconst (-1) dX7_pass_46 (by decide) ?_
    refine zx_icmp_ne (tgt := 56) dX7_pass_47 (by decide) (fun _ => ?_) (fun h_ => absurd h_ (nI_ne1 (show d < 2 ^ 31 by omega)))
    refine zx_aload_n dX7_pass_56 rfl rfl ?_
    refine zx_getR zf_X7_45 (by assumption) (show _ = some 18 from hL.1 17 (by decide)) rfl dX7_pass_57 ?_
    refine zx_iload dX7_pass_60 rfl ?_
    refine zx_dald (d) (by assumption) rfl ⟨by rw [hl18]; assumption, by rw [hl18]; decide⟩ dX7_pass_62 ?_
    refine zx_dmul dX7_pass_63 ?_
    refine zx_dadd dX7_pass_64 ?_
    refine zx_putD zf_X7_245 (by assumption) rfl dX7_pass_65 ?_
    refine zx_goto (tgt := 109) dX7_pass_68 (by decide) ?_
    refine zx_aload_n dX7_pass_109 rfl rfl ?_
    refine zx_getR zf_X7_20 (by assumption) (show _ = some 7 from hL.1 6 (by decide)) rfl dX7_pass_110 ?_
    refine zx_iload_n dX7_pass_113 rfl rfl ?_
    refine zx_dup2_11 dX7_pass_114 rfl rfl ?_
    refine zx_lald (c) (by assumption) rfl ⟨by rw [hl7]; assumption, by rw [hl7]; decide⟩ dX7_pass_115 ?_
    refine zx_lload_n dX7_pass_116 rfl rfl ?_
    refine zx_ladd dX7_pass_117 ?_
    refine zx_last (c) (by assumption) rfl ⟨by rw [hl7]; assumption, by rw [hl7]; decide⟩ dX7_pass_118 ?_
    refine zx_aload_n dX7_pass_119 rfl rfl ?_
    refine zx_aload_n dX7_pass_120 rfl rfl ?_
    refine zx_getD zf_X7_250 (by assumption) rfl dX7_pass_121 ?_
    refine zx_aload_n dX7_pass_124 rfl rfl ?_
    refine zx_getR zf_X7_33 (by assumption) (show _ = some 11 from hL.1 10 (by decide)) rfl dX7_pass_125 ?_
    refine zx_iload_n dX7_pass_128 rfl rfl ?_
    refine zx_dald (f) (by assumption) rfl ⟨by rw [hl11]; assumption, by rw [hl11]; decide⟩ dX7_pass_129 ?_
    refine zx_callS1 _ zs_X7_210 m_X7_size rfl rfl ⟨rfl, rfl, (Nat.le_of_ble_eq_true rfl), (Nat.le_of_ble_eq_true rfl)⟩ (Nat.le_of_ble_eq_true rfl) dX7_pass_130 ?_
    refine zx_dmax zs_X7_253 ⟨Nat.le_of_ble_eq_true rfl, Nat.le_of_ble_eq_true rfl⟩ (by decide) dX7_pass_133 ?_
    refine zx_putD zf_X7_250 (by assumption) rfl dX7_pass_136 ?_
    exact zx_return rfl rfl (by exact congrArg (fun m => q_passT m c f n) (if_pos c_2)) dX7_pass_139

