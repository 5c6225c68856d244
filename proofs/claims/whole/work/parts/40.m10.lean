theorem zx_lxor {g : ZG} {K : ZK} {pc : Nat} {ls : ZLS} {st : List ZV} {μ : ZMem} {x y : Int64} (hd : decode (zKc K) pc = .ok (.lxor, 1)) (k : zWA g K (pc + 1) ls (zl (x ^^^ y) :: st) μ) : zWA g K pc ls (zl y :: zl x :: st) μ := by
  intro l p e s m args below meth c C d H locs sl stk μr hd0 hS hP hμ hL hT
  obtain ⟨a1, stkh1, rfl, h1, hT1⟩ := zSR_cons hT
  cases h1
  obtain ⟨a2, stkh2, rfl, h2, hT2⟩ := zSR_cons hT1
  cases h2
  exact lv_lxor C.1 C.2.1 hd (k l p e s m args below meth c C d H locs sl _ μr hd0 hS hP hμ hL ⟨rfl, hT2⟩)
set_option maxHeartbeats 4000000 in
set_option maxRecDepth 100000 in
theorem m_J9_floorMod_f86c9 {g : ZG} {μ : ZMem} {x y : Int64} (hy : ¬ y = 0) : zCab g RJ9 yJ9_floorMod_f86c9 cJ9_floorMod_f86c9 6 ((some FieldType.long)) (zrm 0) [zl x, zl y] μ (some (zl (s_fmod x y))) μ := by
  refine zCab_w (by decide +kernel) rfl (Nat.le_of_ble_eq_true rfl) ?_
  refine zx_lload_n dJ9_floorMod_f86c9_0 rfl rfl ?_
  refine zx_lload_n dJ9_floorMod_f86c9_1 rfl rfl ?_
  refine zx_lrem dJ9_floorMod_f86c9_2 hy ?_
  refine zx_lstore dJ9_floorMod_f86c9_3 (Nat.le_of_ble_eq_true rfl) ?_
  refine zx_lload_n dJ9_floorMod_f86c9_5 rfl rfl ?_
  refine zx_lload_n dJ9_floorMod_f86c9_6 rfl rfl ?_
  refine zx_lxor dJ9_floorMod_f86c9_7 ?_
  refine zx_lconst 0 dJ9_floorMod_f86c9_8 (by decide) ?_
  refine zx_lc_ge (tgt := 25) dJ9_floorMod_f86c9_9 dJ9_floorMod_f86c9_10 (by decide) (fun c_9 => ?_) (fun c_9 => ?_)
  · skip
    refine zx_lload dJ9_floorMod_f86c9_25 rfl ?_
    exact zx_lreturn rfl (by simp [zKa, s_fmod, c_9]) (by rfl) dJ9_floorMod_f86c9_27
  · skip
    refine zx_lload dJ9_floorMod_f86c9_13 rfl ?_
    refine zx_lconst 0 dJ9_floorMod_f86c9_15 (by decide) ?_
    refine zx_lc_eq (tgt := 25) dJ9_floorMod_f86c9_16 dJ9_floorMod_f86c9_17 (by decide) (fun c_16 => ?_) (fun c_16 => ?_)
    · skip
      refine zx_lload dJ9_floorMod_f86c9_25 rfl ?_
      exact zx_lreturn rfl (by simp [zKa, s_fmod, c_9, c_16]) (by rfl) dJ9_floorMod_f86c9_27
    · skip
      refine zx_lload dJ9_floorMod_f86c9_20 rfl ?_
      refine zx_lload_n dJ9_floorMod_f86c9_22 rfl rfl ?_
      refine zx_ladd dJ9_floorMod_f86c9_23 ?_
      exact zx_lreturn rfl (by simp [zKa, s_fmod, c_9, c_16]) (by rfl) dJ9_floorMod_f86c9_24

def s_spv (μ : ZMem) (ly z : Int32) (n : Nat) : UInt64 := zmul (zD μ (2000 + n) 4) (zadd k1 (zmul k025 (FP.i2d (ly - 1 - 2 * z))))
def s_spd (μ : ZMem) (c : Nat) (ly z ax : Int32) : Nat → Nat → UInt64
  | 0, _ => 0
  | d + 1, k => if zR μ (2000 + k) 0 = some c then (if zI μ (2000 + k) 3 = ax then (if s_exists μ (2000 + k) = 0 then s_spd μ c ly z ax d (k + 1) else s_spv μ ly z k) else s_spd μ c ly z ax d (k + 1)) else s_spd μ c ly z ax d (k + 1)
def s_speed (μ : ZMem) (w h : Nat) (ly x y z ax : Int32) : UInt64 := match s_cellAt w h x y with
  | none => 0
  | some c => if s_isLayer ly z = 0 then 0 else s_spd μ c ly z ax (fcA w h) 0
set_option maxHeartbeats 4000000 in
set_option maxRecDepth 100000 in
theorem L_X6_speed {g : ZG} {μ : ZMem} {w h : Nat} {ly : Int32} (hG : zGC g (w * h) (fcA w h)) (hL : zLC w h ly μ) (hW : zWf g μ) {c : Nat} (hc : zO g 0 c) {z ax : Int32} : zWA g (RX6, cX6_speed, 10, ((some FieldType.double)), zrm 2, some (zd (s_spd μ c ly z ax (fcA w h) 0)), μ) 37 (zls [(0, zr (some 0)), (3, zi z), (4, zi ax), (5, zr (some c)), (6, zr (some 2)), (7, zi (nI (fcA w h))), (8, zi (nI (0)))]) [] μ := by
  have hO0 : zO g 6 0 := hG.fix 0 (by decide)
  have hO1 : zO g 12 1 := hG.fix 1 (by decide)
  have hO2 : zO g 13 2 := hG.fix 2 (by decide)
  have hO3 : zO g 15 3 := hG.fix 3 (by decide)
  have hO4 : zO g 8 4 := hG.fix 4 (by decide)
  have hO5 : zO g 8 5 := hG.fix 5 (by decide)
  have hO6 : zO g 14 6 := hG.fix 6 (by decide)
  have hO7 : zO g 16 7 := hG.fix 7 (by decide)
  have hO8 : zO g 5 8 := hG.fix 8 (by decide)
  have hl1 : zln g 1 = w * h := hG.l _ (Or.inl (by decide)) rfl
  have hl2 : zln g 2 = fcA w h := hG.l _ (Or.inl (by decide)) rfl
  have hl3 : zln g 3 = 4 := hG.l _ (Or.inl (by decide)) rfl
  have hl4 : zln g 4 = 24 := hG.l _ (Or.inl (by decide)) rfl
  have hl5 : zln g 5 = 24 := hG.l _ (Or.inl (by decide)) rfl
  have hl6 : zln g 6 = 10 := hG.l _ (Or.inl (by decide)) rfl
  have hl7 : zln g 7 = 4 := hG.l _ (Or.inl (by decide)) rfl
  have hN := hG.1
  have hF := hG.2.1
  have hw0 : zI μ 0 0 = nI w := hL.2.2.2.2.2.2.2.2.1
  have hh0 : zI μ 0 1 = nI h := hL.2.2.2.2.2.2.2.2.2.1
  have hy0 : zI μ 0 2 = ly := hL.2.2.2.2.2.2.2.2.2.2.1
  have hwb := hL.2.2.2.2.2.2.2.2.2.2.2
  refine zloop (P := fun k => ∀ res, res = some (zd (s_spd μ c ly z ax (fcA w h - k) k)) → zWA g (RX6, cX6_speed, 10, ((some FieldType.double)), zrm 2, res, μ) 37 (zls [(0, zr (some 0)), (3, zi z), (4, zi ax), (5, zr (some c)), (6, zr (some 2)), (7, zi (nI (fcA w h))), (8, zi (nI (k)))]) [] μ) (N := fcA w h) ?_ ?_ 0 (Nat.zero_le _) _ rfl
  · intro res hres
    rw [Nat.sub_self] at hres
    show zWA _ _ _ _ _ _
    refine zx_iload dX6_speed_37 rfl ?_
    refine zx_iload dX6_speed_39 rfl ?_
    refine zx_icmp_ge (tgt := 109) dX6_speed_41 (by decide) (fun _ => ?_) (fun h_ => absurd h_ (by simp))
    refine zx_dconst0 dX6_speed_109 ?_
    exact zx_dreturn rfl (by exact hres) (by rfl) dX6_speed_110
  · intro k hk hn_ res hres
    show zWA _ _ _ _ _ _
    refine zx_iload dX6_speed_37 rfl ?_
    refine zx_iload dX6_speed_39 rfl ?_
    refine zx_icmp_ge (tgt := 109) dX6_speed_41 (by decide) (fun h_ => absurd h_ (nI_ge hk (by omega))) (fun _ => ?_)
    refine zx_aload dX6_speed_44 rfl ?_
    refine zx_iload dX6_speed_46 rfl ?_
    refine zx_aald k (by assumption) (by decide) rfl ⟨by rw [hl2]; exact hk, by omega⟩ (hL.2.2.1 k hk) dX6_speed_48 ?_
    refine zx_astore dX6_speed_49 (Nat.le_of_ble_eq_true rfl) ?_
    refine zx_aload dX6_speed_51 rfl ?_
    refine zx_getR zf_X6_151 (hG.face hk) (show _ = zR μ (2000 + k) 0 from rfl) rfl dX6_speed_53 ?_
    refine zx_aload dX6_speed_56 rfl ?_
    refine zx_acmp_ne (tgt := 103) dX6_speed_58 (by decide) (fun r h => (hW 1 _ _ _ (hG.face hk) h).1) (fun r h => by cases h; exact hc.1) (fun c_58 => ?_) (fun c_58 => ?_)
    · skip
      refine zx_iinc (nI (k + 1)) dX6_speed_103 rfl (by exact nI_1 k) (Nat.le_of_ble_eq_true rfl) ?_
      refine zx_goto (tgt := 37) dX6_speed_106 (by decide) ?_
      exact zWA_to (hn_ res (by rw [hres, show fcA w h - k = (fcA w h - (k + 1)) + 1 by omega]; simp [s_spd, c_58])) ⟨rfl, rfl, rfl, rfl, rfl, rfl, rfl, trivial⟩
    · skip
      refine zx_aload dX6_speed_61 rfl ?_
      refine zx_getI zf_X6_155 (hG.face hk) (Or.inl rfl) dX6_speed_63 ?_
      refine zx_iload dX6_speed_66 rfl ?_
      refine zx_icmp_ne (tgt := 103) dX6_speed_68 (by decide) (fun c_68 => ?_) (fun c_68 => ?_)
      · skip
        refine zx_iinc (nI (k + 1)) dX6_speed_103 rfl (by exact nI_1 k) (Nat.le_of_ble_eq_true rfl) ?_
        refine zx_goto (tgt := 37) dX6_speed_106 (by decide) ?_
        exact zWA_to (hn_ res (by rw [hres, show fcA w h - k = (fcA w h - (k + 1)) + 1 by omega]; simp [s_spd, c_58, c_68])) ⟨rfl, rfl, rfl, rfl, rfl, rfl, rfl, trivial⟩
      · skip
        refine zx_aload dX6_speed_71 rfl ?_
        refine zx_callV1 _ zv_X6_158 (m_X1_exists (hG.face hk) hW) (hG.face hk) (by decide) rfl rfl rfl ⟨rfl, rfl, (Nat.le_of_ble_eq_true rfl), (Nat.le_of_ble_eq_true rfl)⟩ (Nat.le_of_ble_eq_true rfl) dX6_speed_73 ?_
        refine zx_if_eq (tgt := 103) dX6_speed_76 (by decide) (fun c_76 => ?_) (fun c_76 => ?_)
        · skip
          refine zx_iinc (nI (k + 1)) dX6_speed_103 rfl (by exact nI_1 k) (Nat.le_of_ble_eq_true rfl) ?_
          refine zx_goto (tgt := 37) dX6_speed_106 (by decide) ?_
          exact zWA_to (hn_ res (by rw [hres, show fcA w h - k = (fcA w h - (k + 1)) + 1 by omega]; simp [s_spd, c_58, c_68, c_76])) ⟨rfl, rfl, rfl, rfl, rfl, rfl, rfl, trivial⟩
        · skip
          refine zx_aload dX6_speed_79 rfl ?_
          refine zx_getD zf_X6_162 (hG.face hk) rfl dX6_speed_81 ?_
          refine zx_dconst1 dX6_speed_84 ?_
          refine zx_ldc2d 4598175219545276416 zk_X6_165 (by decide +kernel) dX6_speed_85 ?_
          refine zx_aload_n dX6_speed_88 rfl rfl ?_
          refine zx_getI zf_X6_28 (by assumption) (Or.inl rfl) dX6_speed_89 ?_
          rw [hy0]
          refine zx_iconst 1 dX6_speed_92 (by decide) ?_
          refine zx_isub dX6_speed_93 ?_
          refine zx_iconst 2 dX6_speed_94 (by decide) ?_
          refine zx_iload_n dX6_speed_95 rfl rfl ?_
          refine zx_imul dX6_speed_96 ?_
          refine zx_isub dX6_speed_97 ?_
          refine zx_i2d dX6_speed_98 ?_
          refine zx_dmul dX6_speed_99 ?_
          refine zx_dadd dX6_speed_100 ?_
          refine zx_dmul dX6_speed_101 ?_
          exact zx_dreturn rfl (by show res = some (zd _); rw [hres, show fcA w h - k = (fcA w h - (k + 1)) + 1 by omega]; simp [s_spd, s_spv, c_58, c_68, c_76]) (by rfl) dX6_speed_102

set_option maxHeartbeats 4000000 in
set_option maxRecDepth 100000 in
theorem m_X6_speed {g : ZG} {μ : ZMem} {w h : Nat} {ly : Int32} (hG : zGC g (w * h) (fcA w h)) (hL : zLC w h ly μ) (hW : zWf g μ) {x y z ax : Int32} : zCab g RX6 yX6_speed cX6_speed 10 ((some FieldType.double)) (zrm 2) [zr (some 0), zi x, zi y, zi z, zi ax] μ (some (zd (s_speed μ w h ly x y z ax))) μ := by
  refine zCab_w (by decide +kernel) rfl (Nat.le_of_ble_eq_true rfl) ?_
  have hO0 : zO g 6 0 := hG.fix 0 (by decide)
  have hO1 : zO g 12 1 := hG.fix 1 (by decide)
  have hO2 : zO g 13 2 := hG.fix 2 (by decide)
  have hO3 : zO g 15 3 := hG.fix 3 (by decide)
  have hO4 : zO g 8 4 := hG.fix 4 (by decide)
  have hO5 : zO g 8 5 := hG.fix 5 (by decide)
  have hO6 : zO g 14 6 := hG.fix 6 (by decide)
  have hO7 : zO g 16 7 := hG.fix 7 (by decide)
  have hO8 : zO g 5 8 := hG.fix 8 (by decide)
  have hl1 : zln g 1 = w * h := hG.l _ (Or.inl (by decide)) rfl
  have hl2 : zln g 2 = fcA w h := hG.l _ (Or.inl (by decide)) rfl
  have hl3 : zln g 3 = 4 := hG.l _ (Or.inl (by decide)) rfl
  have hl4 : zln g 4 = 24 := hG.l _ (Or.inl (by decide)) rfl
  have hl5 : zln g 5 = 24 := hG.l _ (Or.inl (by decide)) rfl
  have hl6 : zln g 6 = 10 := hG.l _ (Or.inl (by decide)) rfl
  have hl7 : zln g 7 = 4 := hG.l _ (Or.inl (by decide)) rfl
  have hN := hG.1
  have hF := hG.2.1
  have hw0 : zI μ 0 0 = nI w := hL.2.2.2.2.2.2.2.2.1
  have hh0 : zI μ 0 1 = nI h := hL.2.2.2.2.2.2.2.2.2.1
  have hy0 : zI μ 0 2 = ly := hL.2.2.2.2.2.2.2.2.2.2.1
  have hwb := hL.2.2.2.2.2.2.2.2.2.2.2
  refine zx_aload_n dX6_speed_0 rfl rfl ?_
  refine zx_iload_n dX6_speed_1 rfl rfl ?_
  refine zx_iload_n dX6_speed_2 rfl rfl ?_
  refine zx_callV1 _ zv_X6_80 (m_X6_cellAt hG hL hW) (by assumption) (by decide) rfl rfl rfl ⟨rfl, rfl, (Nat.le_of_ble_eq_true rfl), (Nat.le_of_ble_eq_true rfl)⟩ (Nat.le_of_ble_eq_true rfl) dX6_speed_3 ?_
  refine zx_astore dX6_speed_6 (Nat.le_of_ble_eq_true rfl) ?_
  refine zx_aload dX6_speed_8 rfl ?_
  refine zx_ifnull (tgt := 21) dX6_speed_10 (by decide) (fun c_10 => ?_) (fun r_10 c_10 => ?_)
  · skip
    rw [c_10]
    refine zx_dconst0 dX6_speed_21 ?_
    exact zx_dreturn rfl (by first | rfl | simp [zKa, zKm, s_speed, c_10]) (by rfl) dX6_speed_22
  · skip
    have hO_10 : zO g 0 r_10 := (by obtain ⟨i, j, hi, hj, -, -, rfl⟩ := s_cellAt_in (by omega) (by omega) c_10; exact hG.cell (zplace hi hj))
    rw [c_10]
    refine zx_aload_n dX6_speed_13 rfl rfl ?_
    refine zx_iload_n dX6_speed_14 rfl rfl ?_
    refine zx_callV1 _ zv_X6_147 (m_X6_isLayer hG hL hW) (by assumption) (by decide) rfl rfl rfl ⟨rfl, rfl, (Nat.le_of_ble_eq_true rfl), (Nat.le_of_ble_eq_true rfl)⟩ (Nat.le_of_ble_eq_true rfl) dX6_speed_15 ?_
    refine zx_if_ne (tgt := 23) dX6_speed_18 (by decide) (fun c_18 => ?_) (fun c_18 => ?_)
    · skip
      refine zx_aload_n dX6_speed_23 rfl rfl ?_
      refine zx_getR zf_X6_43 (by assumption) (show _ = some 2 from hL.R0 (k := 4) (by decide)) rfl dX6_speed_24 ?_
      refine zx_astore dX6_speed_27 (Nat.le_of_ble_eq_true rfl) ?_
      refine zx_aload dX6_speed_29 rfl ?_
      refine zx_alen (nI (fcA w h)) (by assumption) (by decide) (by rw [hl2]) dX6_speed_31 ?_
      refine zx_istore dX6_speed_32 (Nat.le_of_ble_eq_true rfl) ?_
      refine zx_iconst 0 dX6_speed_34 (by decide) ?_
      refine zx_istore dX6_speed_35 (Nat.le_of_ble_eq_true rfl) ?_
      have e9 : s_speed μ w h ly x y z ax = s_spd μ r_10 ly z ax (fcA w h) 0 := by unfold s_speed; rw [c_10]; exact if_neg c_18
      rw [e9]
      exact zWA_to (L_X6_speed (c := r_10) (z := z) (ax := ax) hG hL hW hO_10) ⟨rfl, rfl, rfl, rfl, rfl, rfl, rfl, trivial⟩
    · skip
      refine zx_dconst0 dX6_speed_21 ?_
      exact zx_dreturn rfl (by first | rfl | simp [zKa, zKm, s_speed, c_10, c_18]) (by rfl) dX6_speed_22

