theorem zKp_sI {r : Nat} (hr : 0 ≠ r) (μ : ZMem) (k : Nat) (v : Int32) : zKp (zsI μ r k v) μ := ⟨rfl, zup_row _ _ _ hr⟩
def q_dp1 (μ : ZMem) (c : Nat) (v : UInt64) : ZMem := zsI (zsL μ 0 14 (zL μ 0 14 - zL μ 7 c)) 4 c (s_wet v)
def q_dp2 (m : ZMem) (c : Nat) (v : UInt64) : ZMem := (fun m : ZMem => zsD (zsD (zsD (zsD (zsD m 8 c k10) 9 c k35) 10 c 0) 11 c 0) 11 (144 + c) 0) ((fun m : ZMem => zsL m 0 14 (zL m 0 14 + zL m 7 c)) (zsL (zsD m 5 c v) 7 c (FP.d2l (zmul v k1000))))
def q_dpA (i j : Nat) (m : ZMem) : ZMem := if nI i ≤ 0 then m else zsD m 11 (12 * j + (i - 1)) 0
def q_dpB (i j : Nat) (m : ZMem) : ZMem := if nI j ≤ 0 then m else zsD m 11 (144 + (12 * (j - 1) + i)) 0
def q_dpS (w h i j k : Nat) (m : ZMem) : ZMem := if t_isAtSide w h (nI i) (nI j) (nI k) = 0 then m else zsD m 11 (sfN i j k) 0
def q_dpN (c k : Nat) (m : ZMem) : ZMem := zsI m 31 k (if zI m 31 k = 0 then 0 else if zI m 29 k = nI c then 0 else 1)
def q_dpE (m : ZMem) (c : Nat) : ZMem := (fun m : ZMem => zsI m 0 40 (zI m 0 40 + 1)) (zsI m 30 c 0)
def q_dep (μ : ZMem) (w h T i j : Nat) (v : UInt64) : ZMem := q_dpE (zit (q_dpN (12 * j + i)) T (zit (q_dpS w h i j) 4 (q_dpB i j (q_dpA i j (q_dp2 (q_dp1 μ (12 * j + i) v) (12 * j + i) v))))) (12 * j + i)
def t_depth (w h : Nat) (x y : Int32) (v : UInt64) : Int32 := if t_isCell w h x y = 0 then 0 else if s_inside v 0 k1000 = 0 then 0 else 1
def q_depth (μ : ZMem) (w h T : Nat) (x y : Int32) (v : UInt64) : ZMem := if t_depth w h x y v = 0 then μ else q_dep μ w h T x.toNatClampNeg y.toNatClampNeg v
theorem zKp_dp1 (μ : ZMem) (c : Nat) (v : UInt64) : zKp (q_dp1 μ c v) μ := (zKp_sI (by decide) _ _ _).trans ⟨rfl, rfl⟩
theorem zKp_dp2 (μ : ZMem) (c : Nat) (v : UInt64) : zKp (q_dp2 μ c v) μ := ⟨rfl, rfl⟩
theorem zKp_dpA (i j : Nat) (m : ZMem) : zKp (q_dpA i j m) m := by
  unfold q_dpA
  split <;> exact ⟨rfl, rfl⟩
theorem zKp_dpB (i j : Nat) (m : ZMem) : zKp (q_dpB i j m) m := by
  unfold q_dpB
  split <;> exact ⟨rfl, rfl⟩
theorem zKp_dpS (w h i j k : Nat) (m : ZMem) : zKp (q_dpS w h i j k m) m := by
  unfold q_dpS
  split <;> exact ⟨rfl, rfl⟩
theorem zKp_dpN (c k : Nat) (m : ZMem) : zKp (q_dpN c k m) m := zKp_sI (by decide) _ _ _
set_option maxHeartbeats 4000000 in
set_option maxRecDepth 100000 in
theorem S_X7_dp2 {g : ZG} {μ : ZMem} {w h : Nat} {ly : Int32} (hG : zGM g) (hL : zLM w h ly μ) {i j : Nat} (hi : i < w) (hj : j < h) {v : UInt64} {res : Option ZV} {μ' : ZMem} (hx : zWA g (RX7, cX7_depth, 7, ((some FieldType.boolean)), zrm 2, res, μ') 148 (zls [(0, zr (some 0)), (1, zi (nI i)), (2, zi (nI j)), (3, zd v), (5, zi (nI (12 * j + i)))]) [] (q_dp2 μ (12 * j + i) v)) : zWA g (RX7, cX7_depth, 7, ((some FieldType.boolean)), zrm 2, res, μ') 63 (zls [(0, zr (some 0)), (1, zi (nI i)), (2, zi (nI j)), (3, zd v), (5, zi (nI (12 * j + i)))]) [] μ := by
  have hO0 : zO g 7 0 := hG.o 0 (by decide)
  have hO4 : zO g 11 4 := hG.o 4 (by decide)
  have hl4 : zln g 4 = 144 := hG.l 4 (by decide)
  have hO5 : zO g 8 5 := hG.o 5 (by decide)
  have hl5 : zln g 5 = 144 := hG.l 5 (by decide)
  have hO7 : zO g 10 7 := hG.o 7 (by decide)
  have hl7 : zln g 7 = 144 := hG.l 7 (by decide)
  have hO8 : zO g 8 8 := hG.o 8 (by decide)
  have hl8 : zln g 8 = 144 := hG.l 8 (by decide)
  have hO9 : zO g 8 9 := hG.o 9 (by decide)
  have hl9 : zln g 9 = 144 := hG.l 9 (by decide)
  have hO10 : zO g 8 10 := hG.o 10 (by decide)
  have hl10 : zln g 10 = 144 := hG.l 10 (by decide)
  have hO11 : zO g 8 11 := hG.o 11 (by decide)
  have hl11 : zln g 11 = 336 := hG.l 11 (by decide)
  have hO29 : zO g 9 29 := hG.o 29 (by decide)
  have hl29 : zln g 29 = 10 := hG.l 29 (by decide)
  have hO30 : zO g 11 30 := hG.o 30 (by decide)
  have hl30 : zln g 30 = 144 := hG.l 30 (by decide)
  have hO31 : zO g 11 31 := hG.o 31 (by decide)
  have hl31 : zln g 31 = 10 := hG.l 31 (by decide)
  have hw0 : zI μ 0 0 = nI w := hL.2.1
  have hh0 : zI μ 0 1 = nI h := hL.2.2.1
  have hy0 : zI μ 0 2 = ly := hL.2.2.2.1
  obtain ⟨hb1, hb2, hb3, hb4⟩ := hL.2.2.2.2
  refine zx_aload_n dX7_depth_63 rfl rfl ?_
  refine zx_getR zf_X7_13 (by assumption) (show _ = some 5 from hL.1 4 (by decide)) rfl dX7_depth_64 ?_
  refine zx_iload dX7_depth_67 rfl ?_
  refine zx_dload_n dX7_depth_69 rfl rfl ?_
  refine zx_dast (12 * j + i) (by assumption) rfl ⟨by rw [hl5]; omega, by rw [hl5]; decide⟩ dX7_depth_70 ?_
  refine zx_aload_n dX7_depth_71 rfl rfl ?_
  refine zx_getR zf_X7_20 (by assumption) (show _ = some 7 from hL.1 6 (by decide)) rfl dX7_depth_72 ?_
  refine zx_iload dX7_depth_75 rfl ?_
  refine zx_dload_n dX7_depth_77 rfl rfl ?_
  refine zx_ldc2d 4652007308841189376 zk_X7_150 (by decide +kernel) dX7_depth_78 ?_
  refine zx_dmul dX7_depth_81 ?_
  refine zx_d2l dX7_depth_82 ?_
  refine zx_last (12 * j + i) (by assumption) rfl ⟨by rw [hl7]; omega, by rw [hl7]; decide⟩ dX7_depth_83 ?_
  refine zx_aload_n dX7_depth_84 rfl rfl ?_
  refine zx_dup dX7_depth_85 rfl ?_
  refine zx_getL zf_X7_156 (by assumption) rfl dX7_depth_86 ?_
  refine zx_aload_n dX7_depth_89 rfl rfl ?_
  refine zx_getR zf_X7_20 (by assumption) (show _ = some 7 from hL.1 6 (by decide)) rfl dX7_depth_90 ?_
  refine zx_iload dX7_depth_93 rfl ?_
  refine zx_lald (12 * j + i) (by assumption) rfl ⟨by rw [hl7]; omega, by rw [hl7]; decide⟩ dX7_depth_95 ?_
  refine zx_ladd dX7_depth_96 ?_
  refine zx_putL zf_X7_156 (by assumption) rfl dX7_depth_97 ?_
  refine zx_aload_n dX7_depth_100 rfl rfl ?_
  refine zx_getR zf_X7_24 (by assumption) (show _ = some 8 from hL.1 7 (by decide)) rfl dX7_depth_101 ?_
  refine zx_iload dX7_depth_104 rfl ?_
  refine zx_ldc2d 4621819117588971520 zk_X7_160 (by decide +kernel) dX7_depth_106 ?_
  refine zx_dast (12 * j + i) (by assumption) rfl ⟨by rw [hl8]; omega, by rw [hl8]; decide⟩ dX7_depth_109 ?_
  refine zx_aload_n dX7_depth_110 rfl rfl ?_
  refine zx_getR zf_X7_27 (by assumption) (show _ = some 9 from hL.1 8 (by decide)) rfl dX7_depth_111 ?_
  refine zx_iload dX7_depth_114 rfl ?_
  refine zx_ldc2d 4630122629401935872 zk_X7_162 (by decide +kernel) dX7_depth_116 ?_
  refine zx_dast (12 * j + i) (by assumption) rfl ⟨by rw [hl9]; omega, by rw [hl9]; decide⟩ dX7_depth_119 ?_
  refine zx_aload_n dX7_depth_120 rfl rfl ?_
  refine zx_getR zf_X7_30 (by assumption) (show _ = some 10 from hL.1 9 (by decide)) rfl dX7_depth_121 ?_
  refine zx_iload dX7_depth_124 rfl ?_
  refine zx_dconst0 dX7_depth_126 ?_
  refine zx_dast (12 * j + i) (by assumption) rfl ⟨by rw [hl10]; omega, by rw [hl10]; decide⟩ dX7_depth_127 ?_
  refine zx_aload_n dX7_depth_128 rfl rfl ?_
  refine zx_getR zf_X7_33 (by assumption) (show _ = some 11 from hL.1 10 (by decide)) rfl dX7_depth_129 ?_
  refine zx_iload dX7_depth_132 rfl ?_
  refine zx_dconst0 dX7_depth_134 ?_
  refine zx_dast (12 * j + i) (by assumption) rfl ⟨by rw [hl11]; omega, by rw [hl11]; decide⟩ dX7_depth_135 ?_
  refine zx_aload_n dX7_depth_136 rfl rfl ?_
  refine zx_getR zf_X7_33 (by assumption) (show _ = some 11 from hL.1 10 (by decide)) rfl dX7_depth_137 ?_
  refine zx_sipush 144 dX7_depth_140 (by decide) ?_
  refine zx_iload dX7_depth_143 rfl ?_
  refine zx_iadd dX7_depth_145 ?_
  refine zx_dconst0 dX7_depth_146 ?_
  refine zx_dast (144 + (12 * j + i)) (by assumption) (z144a _) ⟨by rw [hl11]; omega, by rw [hl11]; decide⟩ dX7_depth_147 ?_
  exact zWA_to (zWA_mem hx (by rfl)) ⟨rfl, rfl, rfl, rfl, rfl, trivial⟩

set_option maxHeartbeats 4000000 in
set_option maxRecDepth 100000 in
theorem S_X7_dpA {g : ZG} {μ : ZMem} {w h : Nat} {ly : Int32} (hG : zGM g) (hL : zLM w h ly μ) {i j : Nat} (hi : i < w) (hj : j < h) {v : UInt64} {res : Option ZV} {μ' : ZMem} (hx : zWA g (RX7, cX7_depth, 7, ((some FieldType.boolean)), zrm 2, res, μ') 165 (zls [(0, zr (some 0)), (1, zi (nI i)), (2, zi (nI j)), (3, zd v), (5, zi (nI (12 * j + i)))]) [] (q_dpA i j μ)) : zWA g (RX7, cX7_depth, 7, ((some FieldType.boolean)), zrm 2, res, μ') 148 (zls [(0, zr (some 0)), (1, zi (nI i)), (2, zi (nI j)), (3, zd v), (5, zi (nI (12 * j + i)))]) [] μ := by
  have hO0 : zO g 7 0 := hG.o 0 (by decide)
  have hO4 : zO g 11 4 := hG.o 4 (by decide)
  have hl4 : zln g 4 = 144 := hG.l 4 (by decide)
  have hO5 : zO g 8 5 := hG.o 5 (by decide)
  have hl5 : zln g 5 = 144 := hG.l 5 (by decide)
  have hO7 : zO g 10 7 := hG.o 7 (by decide)
  have hl7 : zln g 7 = 144 := hG.l 7 (by decide)
  have hO8 : zO g 8 8 := hG.o 8 (by decide)
  have hl8 : zln g 8 = 144 := hG.l 8 (by decide)
  have hO9 : zO g 8 9 := hG.o 9 (by decide)
  have hl9 : zln g 9 = 144 := hG.l 9 (by decide)
  have hO10 : zO g 8 10 := hG.o 10 (by decide)
  have hl10 : zln g 10 = 144 := hG.l 10 (by decide)
  have hO11 : zO g 8 11 := hG.o 11 (by decide)
  have hl11 : zln g 11 = 336 := hG.l 11 (by decide)
  have hO29 : zO g 9 29 := hG.o 29 (by decide)
  have hl29 : zln g 29 = 10 := hG.l 29 (by decide)
  have hO30 : zO g 11 30 := hG.o 30 (by decide)
  have hl30 : zln g 30 = 144 := hG.l 30 (by decide)
  have hO31 : zO g 11 31 := hG.o 31 (by decide)
  have hl31 : zln g 31 = 10 := hG.l 31 (by decide)
  have hw0 : zI μ 0 0 = nI w := hL.2.1
  have hh0 : zI μ 0 1 = nI h := hL.2.2.1
  have hy0 : zI μ 0 2 = ly := hL.2.2.2.1
  obtain ⟨hb1, hb2, hb3, hb4⟩ := hL.2.2.2.2
  refine zx_iload_n dX7_depth_148 rfl rfl ?_
  refine zx_if_le (tgt := 165) dX7_depth_149 (by decide) (fun c_149 => ?_) (fun c_149 => ?_)
  · skip
    exact zWA_to (zWA_mem hx (by unfold q_dpA; rw [if_pos c_149])) ⟨rfl, rfl, rfl, rfl, rfl, trivial⟩
  · skip
    have e1 : 1 ≤ i := znle c_149
    refine zx_aload_n dX7_depth_152 rfl rfl ?_
    refine zx_getR zf_X7_33 (by assumption) (show _ = some 11 from hL.1 10 (by decide)) rfl dX7_depth_153 ?_
    refine zx_iload_n dX7_depth_156 rfl rfl ?_
    refine zx_iconst 1 dX7_depth_157 (by decide) ?_
    refine zx_isub dX7_depth_158 ?_
    refine zx_iload_n dX7_depth_159 rfl rfl ?_
    refine zx_callS1 _ zs_X7_135 m_X7_at rfl rfl ⟨rfl, rfl, (Nat.le_of_ble_eq_true rfl), (Nat.le_of_ble_eq_true rfl)⟩ (Nat.le_of_ble_eq_true rfl) dX7_depth_160 ?_
    rw [show nI i - 1 = nI (i - 1) from pk_sub (b := 1) e1, zat]
    refine zx_dconst0 dX7_depth_163 ?_
    refine zx_dast (12 * j + (i - 1)) (by assumption) rfl ⟨by rw [hl11]; omega, by rw [hl11]; decide⟩ dX7_depth_164 ?_
    exact zWA_to (zWA_mem hx (by unfold q_dpA; rw [if_neg c_149])) ⟨rfl, rfl, rfl, rfl, rfl, trivial⟩

set_option maxHeartbeats 4000000 in
set_option maxRecDepth 100000 in
theorem S_X7_dpB {g : ZG} {μ : ZMem} {w h : Nat} {ly : Int32} (hG : zGM g) (hL : zLM w h ly μ) {i j : Nat} (hi : i < w) (hj : j < h) {v : UInt64} {res : Option ZV} {μ' : ZMem} (hx : zWA g (RX7, cX7_depth, 7, ((some FieldType.boolean)), zrm 2, res, μ') 186 (zls [(0, zr (some 0)), (1, zi (nI i)), (2, zi (nI j)), (3, zd v), (5, zi (nI (12 * j + i)))]) [] (q_dpB i j μ)) : zWA g (RX7, cX7_depth, 7, ((some FieldType.boolean)), zrm 2, res, μ') 165 (zls [(0, zr (some 0)), (1, zi (nI i)), (2, zi (nI j)), (3, zd v), (5, zi (nI (12 * j + i)))]) [] μ := by
  have hO0 : zO g 7 0 := hG.o 0 (by decide)
  have hO4 : zO g 11 4 := hG.o 4 (by decide)
  have hl4 : zln g 4 = 144 := hG.l 4 (by decide)
  have hO5 : zO g 8 5 := hG.o 5 (by decide)
  have hl5 : zln g 5 = 144 := hG.l 5 (by decide)
  have hO7 : zO g 10 7 := hG.o 7 (by decide)
  have hl7 : zln g 7 = 144 := hG.l 7 (by decide)
  have hO8 : zO g 8 8 := hG.o 8 (by decide)
  have hl8 : zln g 8 = 144 := hG.l 8 (by decide)
  have hO9 : zO g 8 9 := hG.o 9 (by decide)
  have hl9 : zln g 9 = 144 := hG.l 9 (by decide)
  have hO10 : zO g 8 10 := hG.o 10 (by decide)
  have hl10 : zln g 10 = 144 := hG.l 10 (by decide)
  have hO11 : zO g 8 11 := hG.o 11 (by decide)
  have hl11 : zln g 11 = 336 := hG.l 11 (by decide)
  have hO29 : zO g 9 29 := hG.o 29 (by decide)
  have hl29 : zln g 29 = 10 := hG.l 29 (by decide)
  have hO30 : zO g 11 30 := hG.o 30 (by decide)
  have hl30 : zln g 30 = 144 := hG.l 30 (by decide)
  have hO31 : zO g 11 31 := hG.o 31 (by decide)
  have hl31 : zln g 31 = 10 := hG.l 31 (by decide)
  have hw0 : zI μ 0 0 = nI w := hL.2.1
  have hh0 : zI μ 0 1 = nI h := hL.2.2.1
  have hy0 : zI μ 0 2 = ly := hL.2.2.2.1
  obtain ⟨hb1, hb2, hb3, hb4⟩ := hL.2.2.2.2
  refine zx_iload_n dX7_depth_165 rfl rfl ?_
  refine zx_if_le (tgt := 186) dX7_depth_166 (by decide) (fun c_166 => ?_) (fun c_166 => ?_)
  · skip
    exact zWA_to (zWA_mem hx (by unfold q_dpB; rw [if_pos c_166])) ⟨rfl, rfl, rfl, rfl, rfl, trivial⟩
  · skip
    have e1 : 1 ≤ j := znle c_166
    refine zx_aload_n dX7_depth_169 rfl rfl ?_
    refine zx_getR zf_X7_33 (by assumption) (show _ = some 11 from hL.1 10 (by decide)) rfl dX7_depth_170 ?_
    refine zx_sipush 144 dX7_depth_173 (by decide) ?_
    refine zx_iload_n dX7_depth_176 rfl rfl ?_
    refine zx_iload_n dX7_depth_177 rfl rfl ?_
    refine zx_iconst 1 dX7_depth_178 (by decide) ?_
    refine zx_isub dX7_depth_179 ?_
    refine zx_callS1 _ zs_X7_135 m_X7_at rfl rfl ⟨rfl, rfl, (Nat.le_of_ble_eq_true rfl), (Nat.le_of_ble_eq_true rfl)⟩ (Nat.le_of_ble_eq_true rfl) dX7_depth_180 ?_
    refine zx_iadd dX7_depth_183 ?_
    rw [show nI j - 1 = nI (j - 1) from pk_sub (b := 1) e1, zat, z144a]
    refine zx_dconst0 dX7_depth_184 ?_
    refine zx_dast (144 + (12 * (j - 1) + i)) (by assumption) rfl ⟨by rw [hl11]; omega, by rw [hl11]; decide⟩ dX7_depth_185 ?_
    exact zWA_to (zWA_mem hx (by unfold q_dpB; rw [if_neg c_166])) ⟨rfl, rfl, rfl, rfl, rfl, trivial⟩

set_option maxHeartbeats 4000000 in
set_option maxRecDepth 100000 in
theorem L_X7_dpS {g : ZG} {μ : ZMem} {w h : Nat} {ly : Int32} (hG : zGM g) (hL : zLM w h ly μ) {i j : Nat} (hi : i < w) (hj : j < h) {v : UInt64} {res : Option ZV} {μ' : ZMem} (hx : zWA g (RX7, cX7_depth, 7, ((some FieldType.boolean)), zrm 2, res, μ') 225 (zls [(0, zr (some 0)), (1, zi (nI i)), (2, zi (nI j)), (3, zd v), (5, zi (nI (12 * j + i))), (6, zi (nI (4)))]) [] (zit (q_dpS w h i j) (4) μ)) : zWA g (RX7, cX7_depth, 7, ((some FieldType.boolean)), zrm 2, res, μ') 189 (zls [(0, zr (some 0)), (1, zi (nI i)), (2, zi (nI j)), (3, zd v), (5, zi (nI (12 * j + i))), (6, zi (nI (0)))]) [] μ := by
  have hO0 : zO g 7 0 := hG.o 0 (by decide)
  have hO4 : zO g 11 4 := hG.o 4 (by decide)
  have hl4 : zln g 4 = 144 := hG.l 4 (by decide)
  have hO5 : zO g 8 5 := hG.o 5 (by decide)
  have hl5 : zln g 5 = 144 := hG.l 5 (by decide)
  have hO7 : zO g 10 7 := hG.o 7 (by decide)
  have hl7 : zln g 7 = 144 := hG.l 7 (by decide)
  have hO8 : zO g 8 8 := hG.o 8 (by decide)
  have hl8 : zln g 8 = 144 := hG.l 8 (by decide)
  have hO9 : zO g 8 9 := hG.o 9 (by decide)
  have hl9 : zln g 9 = 144 := hG.l 9 (by decide)
  have hO10 : zO g 8 10 := hG.o 10 (by decide)
  have hl10 : zln g 10 = 144 := hG.l 10 (by decide)
  have hO11 : zO g 8 11 := hG.o 11 (by decide)
  have hl11 : zln g 11 = 336 := hG.l 11 (by decide)
  have hO29 : zO g 9 29 := hG.o 29 (by decide)
  have hl29 : zln g 29 = 10 := hG.l 29 (by decide)
  have hO30 : zO g 11 30 := hG.o 30 (by decide)
  have hl30 : zln g 30 = 144 := hG.l 30 (by decide)
  have hO31 : zO g 11 31 := hG.o 31 (by decide)
  have hl31 : zln g 31 = 10 := hG.l 31 (by decide)
  have hw0 : zI μ 0 0 = nI w := hL.2.1
  have hh0 : zI μ 0 1 = nI h := hL.2.2.1
  have hy0 : zI μ 0 2 = ly := hL.2.2.2.1
  obtain ⟨hb1, hb2, hb3, hb4⟩ := hL.2.2.2.2
  have hKk : ∀ k, zKp (zit (q_dpS w h i j) k μ) μ := fun k => zKp_it (zKp_dpS w h i j) k μ
  have hLk : ∀ k, zLM w h ly (zit (q_dpS w h i j) k μ) := fun k => zLM_kp (hKk k) hL
  have hwk : ∀ k, zI (zit (q_dpS w h i j) k μ) 0 0 = nI w := fun k => (hLk k).2.1
  have hhk : ∀ k, zI (zit (q_dpS w h i j) k μ) 0 1 = nI h := fun k => (hLk k).2.2.1
  refine zloop (P := fun k => zWA g (RX7, cX7_depth, 7, ((some FieldType.boolean)), zrm 2, res, μ') 189 (zls [(0, zr (some 0)), (1, zi (nI i)), (2, zi (nI j)), (3, zd v), (5, zi (nI (12 * j + i))), (6, zi (nI (k)))]) [] (zit (q_dpS w h i j) (k) μ)) (N := 4) ?_ ?_ 0 (Nat.zero_le _)
  · show zWA _ _ _ _ _ _
    refine zx_iload dX7_depth_189 rfl ?_
    refine zx_iconst 4 dX7_depth_191 (by decide) ?_
    refine zx_icmp_ge (tgt := 225) dX7_depth_192 (by decide) (fun _ => ?_) (fun h_ => absurd h_ (fun q => q (by first | decide | exact Int32.le_refl _)))
    exact zWA_to hx ⟨rfl, rfl, rfl, rfl, rfl, rfl, trivial⟩
  · intro k hk hn_
    show zWA _ _ _ _ _ _
    refine zx_iload dX7_depth_189 rfl ?_
    refine zx_iconst 4 dX7_depth_191 (by decide) ?_
    refine zx_icmp_ge (tgt := 225) dX7_depth_192 (by decide) (fun h_ => absurd h_ (nI_ge hk (by decide))) (fun _ => ?_)
    refine zx_aload_n dX7_depth_195 rfl rfl ?_
    refine zx_iload_n dX7_depth_196 rfl rfl ?_
    refine zx_iload_n dX7_depth_197 rfl rfl ?_
    refine zx_iload dX7_depth_198 rfl ?_
    refine zx_callV1 _ zv_X7_142 (m_X7_isAtSide hG (hLk k)) (by assumption) (by decide) rfl rfl rfl ⟨rfl, rfl, (Nat.le_of_ble_eq_true rfl), (Nat.le_of_ble_eq_true rfl)⟩ (Nat.le_of_ble_eq_true rfl) dX7_depth_200 ?_
    refine zx_if_eq (tgt := 219) dX7_depth_203 (by decide) (fun c_203 => ?_) (fun c_203 => ?_)
    · skip
      refine zx_iinc (nI (k + 1)) dX7_depth_219 rfl (by exact nI_1 k) (Nat.le_of_ble_eq_true rfl) ?_
      refine zx_goto (tgt := 189) dX7_depth_222 (by decide) ?_
      exact zWA_to (zWA_mem hn_ (by exact (show q_dpS w h i j k (zit (q_dpS w h i j) k μ) = _ from if_pos c_203))) ⟨rfl, rfl, rfl, rfl, rfl, rfl, trivial⟩
    · skip
      refine zx_aload_n dX7_depth_206 rfl rfl ?_
      refine zx_getR zf_X7_33 (by assumption) (show _ = some 11 from (hLk k).1 10 (by decide)) rfl dX7_depth_207 ?_
      refine zx_iload_n dX7_depth_210 rfl rfl ?_
      refine zx_iload_n dX7_depth_211 rfl rfl ?_
      refine zx_iload dX7_depth_212 rfl ?_
      refine zx_callS1 _ zs_X7_164 m_X7_sideFace rfl rfl ⟨rfl, rfl, (Nat.le_of_ble_eq_true rfl), (Nat.le_of_ble_eq_true rfl)⟩ (Nat.le_of_ble_eq_true rfl) dX7_depth_214 ?_
      rw [t_sideFace_nI _ _ _ hk]
      refine zx_dconst0 dX7_depth_217 ?_
      refine zx_dast (sfN i j k) (by assumption) rfl ⟨by rw [hl11]; exact sfN_lt (by omega) (by omega) hk, by rw [hl11]; decide⟩ dX7_depth_218 ?_
      refine zx_iinc (nI (k + 1)) dX7_depth_219 rfl (by exact nI_1 k) (Nat.le_of_ble_eq_true rfl) ?_
      refine zx_goto (tgt := 189) dX7_depth_222 (by decide) ?_
      exact zWA_to (zWA_mem hn_ (by exact (show q_dpS w h i j k (zit (q_dpS w h i j) k μ) = _ from if_neg c_203))) ⟨rfl, rfl, rfl, rfl, rfl, rfl, trivial⟩

