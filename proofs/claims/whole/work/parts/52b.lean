theorem t_isWater_lt {μ : ZMem} {w h : Nat} {x y : Nat} (hx : x < 2 ^ 31) (hy : y < 2 ^ 31) (hw : w ≤ 12) (hh : h ≤ 12) (e : ¬ t_isWater μ w h (nI x) (nI y) = 0) : x < w ∧ y < h := by
  obtain ⟨i, j, hi, hj, ex, ey⟩ := t_isWater_in hw hh e
  have e1 := (nI_eq hx (by omega)).mp ex
  have e2 := (nI_eq hy (by omega)).mp ey
  omega
theorem t_hasFace_0 {μ : ZMem} {w h i j : Nat} (hw : w ≤ 12) (hh : h ≤ 12) (hi : i < 12) (hj : j < 12) (e : ¬ t_hasFace μ w h (nI i) (nI j) 0 = 0) : i + 1 < w ∧ j < h := by
  unfold t_hasFace at e
  split at e
  · exact absurd rfl e
  · rw [if_pos rfl, nI_1] at e
    split at e
    · exact absurd rfl e
    · rename_i q
      exact t_isWater_lt (by omega) (by omega) hw hh q
theorem t_hasFace_1 {μ : ZMem} {w h i j : Nat} {a : Int32} (ha : ¬ a = 0) (hw : w ≤ 12) (hh : h ≤ 12) (hi : i < 12) (hj : j < 12) (e : ¬ t_hasFace μ w h (nI i) (nI j) a = 0) : i < w ∧ j + 1 < h := by
  unfold t_hasFace at e
  split at e
  · exact absurd rfl e
  · rw [nI_1] at e
    split at e
    · exact absurd rfl e
    · rename_i q
      exact t_isWater_lt (by omega) (by omega) hw hh q
theorem znle {i : Nat} (h : ¬ nI i ≤ 0) : 1 ≤ i := by
  rcases Nat.eq_zero_or_pos i with rfl | q
  · exact absurd (by decide) h
  · exact q
def sfN (i j k : Nat) : Nat := 288 + 12 * k + (if k < 2 then j else i)
theorem sfN_lt {i j k : Nat} (hi : i < 12) (hj : j < 12) (hk : k < 4) : sfN i j k < 336 := by
  unfold sfN
  split <;> omega
theorem t_sideFace_nI (i j k : Nat) (hk : k < 4) : t_sideFace (nI i) (nI j) (nI k) = nI (sfN i j k) := by
  unfold t_sideFace sfN
  by_cases h : k < 2
  · rw [if_pos h, if_pos (show nI k < 2 from nI_lt h (by decide)), z288]
  · rw [if_neg h, if_neg (show ¬ nI k < 2 from nI_nlt (b := 2) (by omega) (by omega)), z288]
theorem z144 (k q : Nat) : (144 : Int32) * nI k + nI q = nI (144 * k + q) := by
  rw [show (144 : Int32) = nI 144 from rfl, pk_mul, nI_add]
theorem z144a (q : Nat) : (144 : Int32) + nI q = nI (144 + q) := by
  rw [show (144 : Int32) = nI 144 from rfl, nI_add]
def q_ch0 (μ : ZMem) (c : Nat) : ZMem := zsD (zsD (zsD μ 0 19 (zmul (zD μ 17 c) (FP.l2d (zL μ 16 c)))) 0 20 (zmul (zD μ 18 c) (FP.l2d (zL μ 16 c)))) 0 21 0
def q_chA (w h i j : Nat) (m : ZMem) : ZMem := if nI i ≤ 0 then m else if t_hasFace m w h (nI (i - 1)) (nI j) 0 = 0 then m else q_pass m (12 * j + i) (12 * j + (i - 1)) (zL m 19 (12 * j + (i - 1))) (some (12 * j + (i - 1)))
def q_chB (w h i j : Nat) (m : ZMem) : ZMem := if t_hasFace m w h (nI i) (nI j) 0 = 0 then m else q_pass m (12 * j + i) (12 * j + i) (-(zL m 19 (12 * j + i))) (some (12 * j + (i + 1)))
def q_chC (w h i j : Nat) (m : ZMem) : ZMem := if nI j ≤ 0 then m else if t_hasFace m w h (nI i) (nI (j - 1)) 1 = 0 then m else q_pass m (12 * j + i) (144 + (12 * (j - 1) + i)) (zL m 19 (144 + (12 * (j - 1) + i))) (some (12 * (j - 1) + i))
def q_chD (w h i j : Nat) (m : ZMem) : ZMem := if t_hasFace m w h (nI i) (nI j) 1 = 0 then m else q_pass m (12 * j + i) (144 + (12 * j + i)) (-(zL m 19 (144 + (12 * j + i)))) (some (12 * (j + 1) + i))
def t_comes (m : ZMem) (f k : Nat) : Int64 := if nI k = 0 then zL m 19 f else if nI k = 2 then zL m 19 f else -(zL m 19 f)
def q_ov (m : ZMem) (k : Nat) (n : Int64) : ZMem := zsL m 12 k (zL m 12 k + n)
def q_chS (w h i j k : Nat) (m : ZMem) : ZMem := if t_hasSide m w h (nI i) (nI j) k = 0 then m else q_ov (q_pass m (12 * j + i) (sfN i j k) (t_comes m (sfN i j k) k) none) k (t_comes m (sfN i j k) k)
def q_chR1 (m : ZMem) (c : Nat) (n : Int64) : ZMem := (fun m : ZMem => (fun m : ZMem => (fun m : ZMem => zsD m 0 20 (zadd (zD m 0 20) (zmul (FP.l2d n) 0))) (zsD m 0 19 (zadd (zD m 0 19) (zmul (FP.l2d n) k12)))) (zsL m 0 12 (zL m 0 12 + n))) (zsL m 7 c (zL m 7 c + n))
def q_chR2 (m : ZMem) (c : Nat) : ZMem := if 0 < zL m 7 c then (fun m : ZMem => zsD m 9 c (zdiv (zD m 0 20) (FP.l2d (zL m 7 c)))) (zsD m 8 c (zdiv (zD m 0 19) (FP.l2d (zL m 7 c)))) else m
def q_chR3 (v : UInt64) (m : ZMem) (c : Nat) : ZMem := if zgt (zD m 0 21) k02 = true then zsD m 10 c (zadd (zD m 10 c) (zmul (zmul k0001 v) (zsub (zD m 0 21) k02))) else m
def q_chR (v : UInt64) (m : ZMem) (c : Nat) : ZMem := q_chR3 v (q_chR2 (q_chR1 m c (FP.d2l (zmul (zD m 6 c) v))) c) c
def q_change (w h i j : Nat) (v : UInt64) (μ : ZMem) : ZMem := q_chR v (zit (q_chS w h i j) 4 (q_chD w h i j (q_chC w h i j (q_chB w h i j (q_chA w h i j (q_ch0 μ (12 * j + i))))))) (12 * j + i)
theorem zKp_ch0 (μ : ZMem) (c : Nat) : zKp (q_ch0 μ c) μ := ⟨rfl, rfl⟩
theorem zKp_chA (w h i j : Nat) (m : ZMem) : zKp (q_chA w h i j m) m := by
  unfold q_chA
  split
  · exact zKp.rfl' m
  · split
    · exact zKp.rfl' m
    · exact zKp_pass _ _ _ _ _
theorem zKp_chB (w h i j : Nat) (m : ZMem) : zKp (q_chB w h i j m) m := by
  unfold q_chB
  split
  · exact zKp.rfl' m
  · exact zKp_pass _ _ _ _ _
theorem zKp_chC (w h i j : Nat) (m : ZMem) : zKp (q_chC w h i j m) m := by
  unfold q_chC
  split
  · exact zKp.rfl' m
  · split
    · exact zKp.rfl' m
    · exact zKp_pass _ _ _ _ _
theorem zKp_chD (w h i j : Nat) (m : ZMem) : zKp (q_chD w h i j m) m := by
  unfold q_chD
  split
  · exact zKp.rfl' m
  · exact zKp_pass _ _ _ _ _
theorem zKp_chS (w h i j k : Nat) (m : ZMem) : zKp (q_chS w h i j k m) m := by
  unfold q_chS
  split
  · exact zKp.rfl' m
  · exact (show zKp (q_ov _ _ _) _ from ⟨rfl, rfl⟩).trans (zKp_pass _ _ _ _ _)
theorem zKp_chR (v : UInt64) (m : ZMem) (c : Nat) : zKp (q_chR v m c) m := by
  unfold q_chR q_chR3 q_chR2
  split <;> split <;> exact ⟨rfl, rfl⟩
theorem zKp_chR1 (m : ZMem) (c : Nat) (n : Int64) : zKp (q_chR1 m c n) m := ⟨rfl, rfl⟩
theorem zKp_chR2 (m : ZMem) (c : Nat) : zKp (q_chR2 m c) m := by
  unfold q_chR2
  split <;> exact ⟨rfl, rfl⟩
theorem zKp_sD (m : ZMem) (r k : Nat) (v : UInt64) : zKp (zsD m r k v) m := ⟨rfl, rfl⟩
theorem zKp_sL (m : ZMem) (r k : Nat) (v : Int64) : zKp (zsL m r k v) m := ⟨rfl, rfl⟩
theorem zKp_change (w h i j : Nat) (v : UInt64) (μ : ZMem) : zKp (q_change w h i j v μ) μ := (zKp_chR _ _ _).trans ((zKp_it (zKp_chS w h i j) _ _).trans ((zKp_chD _ _ _ _ _).trans ((zKp_chC _ _ _ _ _).trans ((zKp_chB _ _ _ _ _).trans ((zKp_chA _ _ _ _ _).trans (zKp_ch0 _ _))))))
set_option maxHeartbeats 4000000 in
set_option maxRecDepth 100000 in
theorem S_X7_chA {g : ZG} {μ : ZMem} {w h : Nat} {ly : Int32} (hG : zGM g) (hL : zLM w h ly μ) {i j : Nat} (hi : i < w) (hj : j < h) {v : UInt64} {res : Option ZV} {μ' : ZMem} (hx : zWA g (RX7, cX7_change, 10, none, zrm 3, res, μ') 100 (zls [(0, zr (some 0)), (1, zi (nI i)), (2, zi (nI j)), (3, zd v), (5, zi (nI (12 * j + i)))]) [] (q_chA w h i j μ)) : zWA g (RX7, cX7_change, 10, none, zrm 3, res, μ') 52 (zls [(0, zr (some 0)), (1, zi (nI i)), (2, zi (nI j)), (3, zd v), (5, zi (nI (12 * j + i)))]) [] μ := by
  have hO0 : zO g 7 0 := hG.o 0 (by decide)
  have hO6 : zO g 8 6 := hG.o 6 (by decide)
  have hl6 : zln g 6 = 144 := hG.l 6 (by decide)
  have hO7 : zO g 10 7 := hG.o 7 (by decide)
  have hl7 : zln g 7 = 144 := hG.l 7 (by decide)
  have hO8 : zO g 8 8 := hG.o 8 (by decide)
  have hl8 : zln g 8 = 144 := hG.l 8 (by decide)
  have hO9 : zO g 8 9 := hG.o 9 (by decide)
  have hl9 : zln g 9 = 144 := hG.l 9 (by decide)
  have hO10 : zO g 8 10 := hG.o 10 (by decide)
  have hl10 : zln g 10 = 144 := hG.l 10 (by decide)
  have hO12 : zO g 10 12 := hG.o 12 (by decide)
  have hl12 : zln g 12 = 4 := hG.l 12 (by decide)
  have hO16 : zO g 10 16 := hG.o 16 (by decide)
  have hl16 : zln g 16 = 144 := hG.l 16 (by decide)
  have hO17 : zO g 8 17 := hG.o 17 (by decide)
  have hl17 : zln g 17 = 144 := hG.l 17 (by decide)
  have hO18 : zO g 8 18 := hG.o 18 (by decide)
  have hl18 : zln g 18 = 144 := hG.l 18 (by decide)
  have hO19 : zO g 10 19 := hG.o 19 (by decide)
  have hl19 : zln g 19 = 336 := hG.l 19 (by decide)
  have hw0 : zI μ 0 0 = nI w := hL.2.1
  have hh0 : zI μ 0 1 = nI h := hL.2.2.1
  have hy0 : zI μ 0 2 = ly := hL.2.2.2.1
  obtain ⟨hb1, hb2, hb3, hb4⟩ := hL.2.2.2.2
  refine zx_iload_n dX7_change_52 rfl rfl ?_
  refine zx_if_le (tgt := 100) dX7_change_53 (by decide) (fun c_53 => ?_) (fun c_53 => ?_)
  · skip
    exact zWA_to (zWA_mem hx (by unfold q_chA; rw [if_pos c_53])) ⟨rfl, rfl, rfl, rfl, rfl, trivial⟩
  · skip
    have e1 : 1 ≤ i := znle c_53
    refine zx_aload_n dX7_change_56 rfl rfl ?_
    refine zx_iload_n dX7_change_57 rfl rfl ?_
    refine zx_iconst 1 dX7_change_58 (by decide) ?_
    refine zx_isub dX7_change_59 ?_
    rw [show nI i - 1 = nI (i - 1) from pk_sub (b := 1) e1]
    refine zx_iload_n dX7_change_60 rfl rfl ?_
    refine zx_iconst 0 dX7_change_61 (by decide) ?_
    refine zx_callV1 _ zv_X7_223 (m_X7_hasFace hG hL) (by assumption) (by decide) rfl rfl rfl ⟨rfl, rfl, (Nat.le_of_ble_eq_true rfl), (Nat.le_of_ble_eq_true rfl)⟩ (Nat.le_of_ble_eq_true rfl) dX7_change_62 ?_
    refine zx_if_eq (tgt := 100) dX7_change_65 (by decide) (fun c_65 => ?_) (fun c_65 => ?_)
    · skip
      exact zWA_to (zWA_mem hx (by unfold q_chA; rw [if_neg c_53, if_pos c_65])) ⟨rfl, rfl, rfl, rfl, rfl, trivial⟩
    · skip
      have e2 := t_hasFace_0 (show w ≤ 12 by omega) (show h ≤ 12 by omega) (show i - 1 < 12 by omega) (show j < 12 by omega) c_65
      refine zx_aload_n dX7_change_68 rfl rfl ?_
      refine zx_iload dX7_change_69 rfl ?_
      refine zx_iload_n dX7_change_71 rfl rfl ?_
      refine zx_iconst 1 dX7_change_72 (by decide) ?_
      refine zx_isub dX7_change_73 ?_
      refine zx_iload_n dX7_change_74 rfl rfl ?_
      refine zx_callS1 _ zs_X7_135 m_X7_at rfl rfl ⟨rfl, rfl, (Nat.le_of_ble_eq_true rfl), (Nat.le_of_ble_eq_true rfl)⟩ (Nat.le_of_ble_eq_true rfl) dX7_change_75 ?_
      rw [show nI i - 1 = nI (i - 1) from pk_sub (b := 1) e1, zat]
      refine zx_aload_n dX7_change_78 rfl rfl ?_
      refine zx_getR zf_X7_48 (by assumption) (show _ = some 19 from hL.1 18 (by decide)) rfl dX7_change_79 ?_
      refine zx_iload_n dX7_change_82 rfl rfl ?_
      refine zx_iconst 1 dX7_change_83 (by decide) ?_
      refine zx_isub dX7_change_84 ?_
      refine zx_iload_n dX7_change_85 rfl rfl ?_
      refine zx_callS1 _ zs_X7_135 m_X7_at rfl rfl ⟨rfl, rfl, (Nat.le_of_ble_eq_true rfl), (Nat.le_of_ble_eq_true rfl)⟩ (Nat.le_of_ble_eq_true rfl) dX7_change_86 ?_
      rw [show nI i - 1 = nI (i - 1) from pk_sub (b := 1) e1, zat]
      refine zx_lald (12 * j + (i - 1)) (by assumption) rfl ⟨by rw [hl19]; omega, by rw [hl19]; decide⟩ dX7_change_89 ?_
      refine zx_iload_n dX7_change_90 rfl rfl ?_
      refine zx_iconst 1 dX7_change_91 (by decide) ?_
      refine zx_isub dX7_change_92 ?_
      refine zx_iload_n dX7_change_93 rfl rfl ?_
      refine zx_callS1 _ zs_X7_135 m_X7_at rfl rfl ⟨rfl, rfl, (Nat.le_of_ble_eq_true rfl), (Nat.le_of_ble_eq_true rfl)⟩ (Nat.le_of_ble_eq_true rfl) dX7_change_94 ?_
      rw [show nI i - 1 = nI (i - 1) from pk_sub (b := 1) e1, zat]
      refine zx_callV0 _ zv_X7_257 (m_X7_pass_d hG hL (c := 12 * j + i) (by omega) (f := 12 * j + (i - 1)) (by omega) (d := 12 * j + (i - 1)) (by omega)) (by assumption) (by decide) rfl rfl rfl ⟨rfl, rfl, (Nat.le_of_ble_eq_true rfl), (Nat.le_of_ble_eq_true rfl)⟩ (Nat.le_of_ble_eq_true rfl) dX7_change_97 ?_
      exact zWA_to (zWA_mem hx (by unfold q_chA; rw [if_neg c_53, if_neg c_65])) ⟨rfl, rfl, rfl, rfl, rfl, trivial⟩

set_option maxHeartbeats 4000000 in
set_option maxRecDepth 100000 in
theorem S_X7_chB {g : ZG} {μ : ZMem} {w h : Nat} {ly : Int32} (hG : zGM g) (hL : zLM w h ly μ) {i j : Nat} (hi : i < w) (hj : j < h) {v : UInt64} {res : Option ZV} {μ' : ZMem} (hx : zWA g (RX7, cX7_change, 10, none, zrm 3, res, μ') 133 (zls [(0, zr (some 0)), (1, zi (nI i)), (2, zi (nI j)), (3, zd v), (5, zi (nI (12 * j + i)))]) [] (q_chB w h i j μ)) : zWA g (RX7, cX7_change, 10, none, zrm 3, res, μ') 100 (zls [(0, zr (some 0)), (1, zi (nI i)), (2, zi (nI j)), (3, zd v), (5, zi (nI (12 * j + i)))]) [] μ := by
  have hO0 : zO g 7 0 := hG.o 0 (by decide)
  have hO6 : zO g 8 6 := hG.o 6 (by decide)
  have hl6 : zln g 6 = 144 := hG.l 6 (by decide)
  have hO7 : zO g 10 7 := hG.o 7 (by decide)
  have hl7 : zln g 7 = 144 := hG.l 7 (by decide)
  have hO8 : zO g 8 8 := hG.o 8 (by decide)
  have hl8 : zln g 8 = 144 := hG.l 8 (by decide)
  have hO9 : zO g 8 9 := hG.o 9 (by decide)
  have hl9 : zln g 9 = 144 := hG.l 9 (by decide)
  have hO10 : zO g 8 10 := hG.o 10 (by decide)
  have hl10 : zln g 10 = 144 := hG.l 10 (by decide)
  have hO12 : zO g 10 12 := hG.o 12 (by decide)
  have hl12 : zln g 12 = 4 := hG.l 12 (by decide)
  have hO16 : zO g 10 16 := hG.o 16 (by decide)
  have hl16 : zln g 16 = 144 := hG.l 16 (by decide)
  have hO17 : zO g 8 17 := hG.o 17 (by decide)
  have hl17 : zln g 17 = 144 := hG.l 17 (by decide)
  have hO18 : zO g 8 18 := hG.o 18 (by decide)
  have hl18 : zln g 18 = 144 := hG.l 18 (by decide)
  have hO19 : zO g 10 19 := hG.o 19 (by decide)
  have hl19 : zln g 19 = 336 := hG.l 19 (by decide)
  have hw0 : zI μ 0 0 = nI w := hL.2.1
  have hh0 : zI μ 0 1 = nI h := hL.2.2.1
  have hy0 : zI μ 0 2 = ly := hL.2.2.2.1
  obtain ⟨hb1, hb2, hb3, hb4⟩ := hL.2.2.2.2
  refine zx_aload_n dX7_change_100 rfl rfl ?_
  refine zx_iload_n dX7_change_101 rfl rfl ?_
  refine zx_iload_n dX7_change_102 rfl rfl ?_
  refine zx_iconst 0 dX7_change_103 (by decide) ?_
  refine zx_callV1 _ zv_X7_223 (m_X7_hasFace hG hL) (by assumption) (by decide) rfl rfl rfl ⟨rfl, rfl, (Nat.le_of_ble_eq_true rfl), (Nat.le_of_ble_eq_true rfl)⟩ (Nat.le_of_ble_eq_true rfl) dX7_change_104 ?_
  refine zx_if_eq (tgt := 133) dX7_change_107 (by decide) (fun c_107 => ?_) (fun c_107 => ?_)
  · skip
    exact zWA_to (zWA_mem hx (by unfold q_chB; rw [if_pos c_107])) ⟨rfl, rfl, rfl, rfl, rfl, trivial⟩
  · skip
    have e2 := t_hasFace_0 (show w ≤ 12 by omega) (show h ≤ 12 by omega) (show i < 12 by omega) (show j < 12 by omega) c_107
    refine zx_aload_n dX7_change_110 rfl rfl ?_
    refine zx_iload dX7_change_111 rfl ?_
    refine zx_iload dX7_change_113 rfl ?_
    refine zx_aload_n dX7_change_115 rfl rfl ?_
    refine zx_getR zf_X7_48 (by assumption) (show _ = some 19 from hL.1 18 (by decide)) rfl dX7_change_116 ?_
    refine zx_iload dX7_change_119 rfl ?_
    refine zx_lald (12 * j + i) (by assumption) rfl ⟨by rw [hl19]; omega, by rw [hl19]; decide⟩ dX7_change_121 ?_
    refine zx_lneg dX7_change_122 ?_
    refine zx_iload_n dX7_change_123 rfl rfl ?_
    refine zx_iconst 1 dX7_change_124 (by decide) ?_
    refine zx_iadd dX7_change_125 ?_
    refine zx_iload_n dX7_change_126 rfl rfl ?_
    refine zx_callS1 _ zs_X7_135 m_X7_at rfl rfl ⟨rfl, rfl, (Nat.le_of_ble_eq_true rfl), (Nat.le_of_ble_eq_true rfl)⟩ (Nat.le_of_ble_eq_true rfl) dX7_change_127 ?_
    rw [nI_1, zat]
    refine zx_callV0 _ zv_X7_257 (m_X7_pass_d hG hL (c := 12 * j + i) (by omega) (f := 12 * j + i) (by omega) (d := 12 * j + (i + 1)) (by omega)) (by assumption) (by decide) rfl rfl rfl ⟨rfl, rfl, (Nat.le_of_ble_eq_true rfl), (Nat.le_of_ble_eq_true rfl)⟩ (Nat.le_of_ble_eq_true rfl) dX7_change_130 ?_
    exact zWA_to (zWA_mem hx (by unfold q_chB; rw [if_neg c_107])) ⟨rfl, rfl, rfl, rfl, rfl, trivial⟩

set_option maxHeartbeats 4000000 in
set_option maxRecDepth 100000 in
theorem S_X7_chC {g : ZG} {μ : ZMem} {w h : Nat} {ly : Int32} (hG : zGM g) (hL : zLM w h ly μ) {i j : Nat} (hi : i < w) (hj : j < h) {v : UInt64} {res : Option ZV} {μ' : ZMem} (hx : zWA g (RX7, cX7_change, 10, none, zrm 3, res, μ') 189 (zls [(0, zr (some 0)), (1, zi (nI i)), (2, zi (nI j)), (3, zd v), (5, zi (nI (12 * j + i)))]) [] (q_chC w h i j μ)) : zWA g (RX7, cX7_change, 10, none, zrm 3, res, μ') 133 (zls [(0, zr (some 0)), (1, zi (nI i)), (2, zi (nI j)), (3, zd v), (5, zi (nI (12 * j + i)))]) [] μ := by
  have hO0 : zO g 7 0 := hG.o 0 (by decide)
  have hO6 : zO g 8 6 := hG.o 6 (by decide)
  have hl6 : zln g 6 = 144 := hG.l 6 (by decide)
  have hO7 : zO g 10 7 := hG.o 7 (by decide)
  have hl7 : zln g 7 = 144 := hG.l 7 (by decide)
  have hO8 : zO g 8 8 := hG.o 8 (by decide)
  have hl8 : zln g 8 = 144 := hG.l 8 (by decide)
  have hO9 : zO g 8 9 := hG.o 9 (by decide)
  have hl9 : zln g 9 = 144 := hG.l 9 (by decide)
  have hO10 : zO g 8 10 := hG.o 10 (by decide)
  have hl10 : zln g 10 = 144 := hG.l 10 (by decide)
  have hO12 : zO g 10 12 := hG.o 12 (by decide)
  have hl12 : zln g 12 = 4 := hG.l 12 (by decide)
  have hO16 : zO g 10 16 := hG.o 16 (by decide)
  have hl16 : zln g 16 = 144 := hG.l 16 (by decide)
  have hO17 : zO g 8 17 := hG.o 17 (by decide)
  have hl17 : zln g 17 = 144 := hG.l 17 (by decide)
  have hO18 : zO g 8 18 := hG.o 18 (by decide)
  have hl18 : zln g 18 = 144 := hG.l 18 (by decide)
  have hO19 : zO g 10 19 := hG.o 19 (by decide)
  have hl19 : zln g 19 = 336 := hG.l 19 (by decide)
  have hw0 : zI μ 0 0 = nI w := hL.2.1
  have hh0 : zI μ 0 1 = nI h := hL.2.2.1
  have hy0 : zI μ 0 2 = ly := hL.2.2.2.1
  obtain ⟨hb1, hb2, hb3, hb4⟩ := hL.2.2.2.2
  refine zx_iload_n dX7_change_133 rfl rfl ?_
  refine zx_if_le (tgt := 189) dX7_change_134 (by decide) (fun c_134 => ?_) (fun c_134 => ?_)
  · skip
    exact zWA_to (zWA_mem hx (by unfold q_chC; rw [if_pos c_134])) ⟨rfl, rfl, rfl, rfl, rfl, trivial⟩
  · skip
    have e1 : 1 ≤ j := znle c_134
    refine zx_aload_n dX7_change_137 rfl rfl ?_
    refine zx_iload_n dX7_change_138 rfl rfl ?_
    refine zx_iload_n dX7_change_139 rfl rfl ?_
    refine zx_iconst 1 dX7_change_140 (by decide) ?_
    refine zx_isub dX7_change_141 ?_
    rw [show nI j - 1 = nI (j - 1) from pk_sub (b := 1) e1]
    refine zx_iconst 1 dX7_change_142 (by decide) ?_
    refine zx_callV1 _ zv_X7_223 (m_X7_hasFace hG hL) (by assumption) (by decide) rfl rfl rfl ⟨rfl, rfl, (Nat.le_of_ble_eq_true rfl), (Nat.le_of_ble_eq_true rfl)⟩ (Nat.le_of_ble_eq_true rfl) dX7_change_143 ?_
    refine zx_if_eq (tgt := 189) dX7_change_146 (by decide) (fun c_146 => ?_) (fun c_146 => ?_)
    · skip
      exact zWA_to (zWA_mem hx (by unfold q_chC; rw [if_neg c_134, if_pos c_146])) ⟨rfl, rfl, rfl, rfl, rfl, trivial⟩
    · skip
      have e2 := t_hasFace_1 (show ¬ (1 : Int32) = 0 by decide) (show w ≤ 12 by omega) (show h ≤ 12 by omega) (show i < 12 by omega) (show j - 1 < 12 by omega) c_146
      refine zx_aload_n dX7_change_149 rfl rfl ?_
      refine zx_iload dX7_change_150 rfl ?_
      refine zx_sipush 144 dX7_change_152 (by decide) ?_
      refine zx_iload_n dX7_change_155 rfl rfl ?_
      refine zx_iload_n dX7_change_156 rfl rfl ?_
      refine zx_iconst 1 dX7_change_157 (by decide) ?_
      refine zx_isub dX7_change_158 ?_
      refine zx_callS1 _ zs_X7_135 m_X7_at rfl rfl ⟨rfl, rfl, (Nat.le_of_ble_eq_true rfl), (Nat.le_of_ble_eq_true rfl)⟩ (Nat.le_of_ble_eq_true rfl) dX7_change_159 ?_
      refine zx_iadd dX7_change_162 ?_
      rw [show nI j - 1 = nI (j - 1) from pk_sub (b := 1) e1, zat, z144a]
      refine zx_aload_n dX7_change_163 rfl rfl ?_
      refine zx_getR zf_X7_48 (by assumption) (show _ = some 19 from hL.1 18 (by decide)) rfl dX7_change_164 ?_
      refine zx_sipush 144 dX7_change_167 (by decide) ?_
      refine zx_iload_n dX7_change_170 rfl rfl ?_
      refine zx_iload_n dX7_change_171 rfl rfl ?_
      refine zx_iconst 1 dX7_change_172 (by decide) ?_
      refine zx_isub dX7_change_173 ?_
      refine zx_callS1 _ zs_X7_135 m_X7_at rfl rfl ⟨rfl, rfl, (Nat.le_of_ble_eq_true rfl), (Nat.le_of_ble_eq_true rfl)⟩ (Nat.le_of_ble_eq_true rfl) dX7_change_174 ?_
      refine zx_iadd dX7_change_177 ?_
      rw [show nI j - 1 = nI (j - 1) from pk_sub (b := 1) e1, zat, z144a]
      refine zx_lald (144 + (12 * (j - 1) + i)) (by assumption) rfl ⟨by rw [hl19]; omega, by rw [hl19]; decide⟩ dX7_change_178 ?_
      refine zx_iload_n dX7_change_179 rfl rfl ?_
      refine zx_iload_n dX7_change_180 rfl rfl ?_
      refine zx_iconst 1 dX7_change_181 (by decide) ?_
      refine zx_isub dX7_change_182 ?_
      refine zx_callS1 _ zs_X7_135 m_X7_at rfl rfl ⟨rfl, rfl, (Nat.le_of_ble_eq_true rfl), (Nat.le_of_ble_eq_true rfl)⟩ (Nat.le_of_ble_eq_true rfl) dX7_change_183 ?_
      rw [show nI j - 1 = nI (j - 1) from pk_sub (b := 1) e1, zat]
      refine zx_callV0 _ zv_X7_257 (m_X7_pass_d hG hL (c := 12 * j + i) (by omega) (f := 144 + (12 * (j - 1) + i)) (by omega) (d := 12 * (j - 1) + i) (by omega)) (by assumption) (by decide) rfl rfl rfl ⟨rfl, rfl, (Nat.le_of_ble_eq_true rfl), (Nat.le_of_ble_eq_true rfl)⟩ (Nat.le_of_ble_eq_true rfl) dX7_change_186 ?_
      exact zWA_to (zWA_mem hx (by unfold q_chC; rw [if_neg c_134, if_neg c_146])) ⟨rfl, rfl, rfl, rfl, rfl, trivial⟩

set_option maxHeartbeats 4000000 in
set_option maxRecDepth 100000 in
theorem S_X7_chD {g : ZG} {μ : ZMem} {w h : Nat} {ly : Int32} (hG : zGM g) (hL : zLM w h ly μ) {i j : Nat} (hi : i < w) (hj : j < h) {v : UInt64} {res : Option ZV} {μ' : ZMem} (hx : zWA g (RX7, cX7_change, 10, none, zrm 3, res, μ') 230 (zls [(0, zr (some 0)), (1, zi (nI i)), (2, zi (nI j)), (3, zd v), (5, zi (nI (12 * j + i)))]) [] (q_chD w h i j μ)) : zWA g (RX7, cX7_change, 10, none, zrm 3, res, μ') 189 (zls [(0, zr (some 0)), (1, zi (nI i)), (2, zi (nI j)), (3, zd v), (5, zi (nI (12 * j + i)))]) [] μ := by
  have hO0 : zO g 7 0 := hG.o 0 (by decide)
  have hO6 : zO g 8 6 := hG.o 6 (by decide)
  have hl6 : zln g 6 = 144 := hG.l 6 (by decide)
  have hO7 : zO g 10 7 := hG.o 7 (by decide)
  have hl7 : zln g 7 = 144 := hG.l 7 (by decide)
  have hO8 : zO g 8 8 := hG.o 8 (by decide)
  have hl8 : zln g 8 = 144 := hG.l 8 (by decide)
  have hO9 : zO g 8 9 := hG.o 9 (by decide)
  have hl9 : zln g 9 = 144 := hG.l 9 (by decide)
  have hO10 : zO g 8 10 := hG.o 10 (by decide)
  have hl10 : zln g 10 = 144 := hG.l 10 (by decide)
  have hO12 : zO g 10 12 := hG.o 12 (by decide)
  have hl12 : zln g 12 = 4 := hG.l 12 (by decide)
  have hO16 : zO g 10 16 := hG.o 16 (by decide)
  have hl16 : zln g 16 = 144 := hG.l 16 (by decide)
  have hO17 : zO g 8 17 := hG.o 17 (by decide)
  have hl17 : zln g 17 = 144 := hG.l 17 (by decide)
  have hO18 : zO g 8 18 := hG.o 18 (by decide)
  have hl18 : zln g 18 = 144 := hG.l 18 (by decide)
  have hO19 : zO g 10 19 := hG.o 19 (by decide)
  have hl19 : zln g 19 = 336 := hG.l 19 (by decide)
  have hw0 : zI μ 0 0 = nI w := hL.2.1
  have hh0 : zI μ 0 1 = nI h := hL.2.2.1
  have hy0 : zI μ 0 2 = ly := hL.2.2.2.1
  obtain ⟨hb1, hb2, hb3, hb4⟩ := hL.2.2.2.2
  refine zx_aload_n dX7_change_189 rfl rfl ?_
  refine zx_iload_n dX7_change_190 rfl rfl ?_
  refine zx_iload_n dX7_change_191 rfl rfl ?_
  refine zx_iconst 1 dX7_change_192 (by decide) ?_
  refine zx_callV1 _ zv_X7_223 (m_X7_hasFace hG hL) (by assumption) (by decide) rfl rfl rfl ⟨rfl, rfl, (Nat.le_of_ble_eq_true rfl), (Nat.le_of_ble_eq_true rfl)⟩ (Nat.le_of_ble_eq_true rfl) dX7_change_193 ?_
  refine zx_if_eq (tgt := 230) dX7_change_196 (by decide) (fun c_196 => ?_) (fun c_196 => ?_)
  · skip
    exact zWA_to (zWA_mem hx (by unfold q_chD; rw [if_pos c_196])) ⟨rfl, rfl, rfl, rfl, rfl, trivial⟩
  · skip
    have e2 := t_hasFace_1 (show ¬ (1 : Int32) = 0 by decide) (show w ≤ 12 by omega) (show h ≤ 12 by omega) (show i < 12 by omega) (show j < 12 by omega) c_196
    refine zx_aload_n dX7_change_199 rfl rfl ?_
    refine zx_iload dX7_change_200 rfl ?_
    refine zx_sipush 144 dX7_change_202 (by decide) ?_
    refine zx_iload dX7_change_205 rfl ?_
    refine zx_iadd dX7_change_207 ?_
    rw [z144a]
    refine zx_aload_n dX7_change_208 rfl rfl ?_
    refine zx_getR zf_X7_48 (by assumption) (show _ = some 19 from hL.1 18 (by decide)) rfl dX7_change_209 ?_
    refine zx_sipush 144 dX7_change_212 (by decide) ?_
    refine zx_iload dX7_change_215 rfl ?_
    refine zx_iadd dX7_change_217 ?_
    rw [z144a]
    refine zx_lald (144 + (12 * j + i)) (by assumption) rfl ⟨by rw [hl19]; omega, by rw [hl19]; decide⟩ dX7_change_218 ?_
    refine zx_lneg dX7_change_219 ?_
    refine zx_iload_n dX7_change_220 rfl rfl ?_
    refine zx_iload_n dX7_change_221 rfl rfl ?_
    refine zx_iconst 1 dX7_change_222 (by decide) ?_
    refine zx_iadd dX7_change_223 ?_
    refine zx_callS1 _ zs_X7_135 m_X7_at rfl rfl ⟨rfl, rfl, (Nat.le_of_ble_eq_true rfl), (Nat.le_of_ble_eq_true rfl)⟩ (Nat.le_of_ble_eq_true rfl) dX7_change_224 ?_
    rw [nI_1, zat]
    refine zx_callV0 _ zv_X7_257 (m_X7_pass_d hG hL (c := 12 * j + i) (by omega) (f := 144 + (12 * j + i)) (by omega) (d := 12 * (j + 1) + i) (by omega)) (by assumption) (by decide) rfl rfl rfl ⟨rfl, rfl, (Nat.le_of_ble_eq_true rfl), (Nat.le_of_ble_eq_true rfl)⟩ (Nat.le_of_ble_eq_true rfl) dX7_change_227 ?_
    exact zWA_to (zWA_mem hx (by unfold q_chD; rw [if_neg c_196])) ⟨rfl, rfl, rfl, rfl, rfl, trivial⟩

