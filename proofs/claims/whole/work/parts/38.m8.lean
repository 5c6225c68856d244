def s_dueK (μ : ZMem) (k : Nat) : Int64 := zit (fun k s => s + zL μ (30 + k) 4) k (zL μ 0 15 + zL μ 0 16)
def s_kept (μ : ZMem) (w h : Nat) : Int32 := if s_all μ (w * h) = s_dueK μ 4 then 1 else 0
set_option maxHeartbeats 4000000 in
set_option maxRecDepth 100000 in
theorem L_X6_kept {g : ZG} {μ : ZMem} {w h : Nat} {ly : Int32} (hG : zGC g (w * h) (fcA w h)) (hL : zLC w h ly μ) (hW : zWf g μ) {res : Option ZV} {μ' : ZMem} (hx : zWA g (RX6, cX6_kept, 7, ((some FieldType.boolean)), zrm 2, res, μ') 49 (zls [(0, zr (some 0)), (1, zl (s_dueK μ (4))), (3, zr (some 3)), (4, zi (nI 4)), (5, zi (nI (4)))]) [] μ) : zWA g (RX6, cX6_kept, 7, ((some FieldType.boolean)), zrm 2, res, μ') 22 (zls [(0, zr (some 0)), (1, zl (s_dueK μ (0))), (3, zr (some 3)), (4, zi (nI 4)), (5, zi (nI (0)))]) [] μ := by
  have hO0 : zO g 6 0 := hG.fix 0 (by decide)
  have hO1 : zO g 12 1 := hG.fix 1 (by decide)
  have hO2 : zO g 13 2 := hG.fix 2 (by decide)
  have hO3 : zO g 15 3 := hG.fix 3 (by decide)
  have hO4 : zO g 8 4 := hG.fix 4 (by decide)
  have hO5 : zO g 8 5 := hG.fix 5 (by decide)
  have hO6 : zO g 14 6 := hG.fix 6 (by decide)
  have hO7 : zO g 16 7 := hG.fix 7 (by decide)
  have hO8 : zO g 5 8 := hG.fix 8 (by decide)
  have hl1 : zln g 1 = w * h := hG.l _ (Or.inl (by decide)) rfl
  have hl2 : zln g 2 = fcA w h := hG.l _ (Or.inl (by decide)) rfl
  have hl3 : zln g 3 = 4 := hG.l _ (Or.inl (by decide)) rfl
  have hl4 : zln g 4 = 24 := hG.l _ (Or.inl (by decide)) rfl
  have hl5 : zln g 5 = 24 := hG.l _ (Or.inl (by decide)) rfl
  have hl6 : zln g 6 = 10 := hG.l _ (Or.inl (by decide)) rfl
  have hl7 : zln g 7 = 4 := hG.l _ (Or.inl (by decide)) rfl
  have hN := hG.1
  have hF := hG.2.1
  have hw0 : zI μ 0 0 = nI w := hL.2.2.2.2.2.2.2.2.1
  have hh0 : zI μ 0 1 = nI h := hL.2.2.2.2.2.2.2.2.2.1
  have hy0 : zI μ 0 2 = ly := hL.2.2.2.2.2.2.2.2.2.2.1
  have hwb := hL.2.2.2.2.2.2.2.2.2.2.2
  refine zloop (P := fun k => zWA g (RX6, cX6_kept, 7, ((some FieldType.boolean)), zrm 2, res, μ') 22 (zls [(0, zr (some 0)), (1, zl (s_dueK μ (k))), (3, zr (some 3)), (4, zi (nI 4)), (5, zi (nI (k)))]) [] μ) (N := 4) ?_ ?_ 0 (Nat.zero_le _)
  · show zWA _ _ _ _ _ _
    refine zx_iload dX6_kept_22 rfl ?_
    refine zx_iload dX6_kept_24 rfl ?_
    refine zx_icmp_ge (tgt := 49) dX6_kept_26 (by decide) (fun _ => ?_) (fun h_ => absurd h_ (by simp))
    exact zWA_to hx ⟨rfl, rfl, rfl, rfl, rfl, trivial⟩
  · intro k hk hn_
    show zWA _ _ _ _ _ _
    refine zx_iload dX6_kept_22 rfl ?_
    refine zx_iload dX6_kept_24 rfl ?_
    refine zx_icmp_ge (tgt := 49) dX6_kept_26 (by decide) (fun h_ => absurd h_ (nI_ge hk (by decide))) (fun _ => ?_)
    refine zx_aload_n dX6_kept_29 rfl rfl ?_
    refine zx_iload dX6_kept_30 rfl ?_
    refine zx_aald k (by assumption) (by decide) rfl ⟨by rw [hl3]; exact hk, by rw [hl3]; decide⟩ (hL.2.2.2.1 k hk).1 dX6_kept_32 ?_
    refine zx_astore dX6_kept_33 (Nat.le_of_ble_eq_true rfl) ?_
    refine zx_lload_n dX6_kept_35 rfl rfl ?_
    refine zx_aload dX6_kept_36 rfl ?_
    refine zx_getL zf_X6_177 (hG.side hk) rfl dX6_kept_38 ?_
    refine zx_ladd dX6_kept_41 ?_
    refine zx_lstore_n dX6_kept_42 rfl (Nat.le_of_ble_eq_true rfl) ?_
    refine zx_iinc (nI (k + 1)) dX6_kept_43 rfl (by exact nI_1 k) (Nat.le_of_ble_eq_true rfl) ?_
    refine zx_goto (tgt := 22) dX6_kept_46 (by decide) ?_
    exact zWA_to (zWA_mem hn_ (by rfl)) ⟨rfl, rfl, rfl, rfl, rfl, trivial⟩

set_option maxHeartbeats 4000000 in
set_option maxRecDepth 100000 in
theorem m_X6_kept {g : ZG} {μ : ZMem} {w h : Nat} {ly : Int32} (hG : zGC g (w * h) (fcA w h)) (hL : zLC w h ly μ) (hW : zWf g μ) : zCab g RX6 yX6_kept cX6_kept 7 ((some FieldType.boolean)) (zrm 2) [zr (some 0)] μ (some (zi (s_kept μ w h))) μ := by
  refine zCab_w (by decide +kernel) rfl (Nat.le_of_ble_eq_true rfl) ?_
  have hO0 : zO g 6 0 := hG.fix 0 (by decide)
  have hO1 : zO g 12 1 := hG.fix 1 (by decide)
  have hO2 : zO g 13 2 := hG.fix 2 (by decide)
  have hO3 : zO g 15 3 := hG.fix 3 (by decide)
  have hO4 : zO g 8 4 := hG.fix 4 (by decide)
  have hO5 : zO g 8 5 := hG.fix 5 (by decide)
  have hO6 : zO g 14 6 := hG.fix 6 (by decide)
  have hO7 : zO g 16 7 := hG.fix 7 (by decide)
  have hO8 : zO g 5 8 := hG.fix 8 (by decide)
  have hl1 : zln g 1 = w * h := hG.l _ (Or.inl (by decide)) rfl
  have hl2 : zln g 2 = fcA w h := hG.l _ (Or.inl (by decide)) rfl
  have hl3 : zln g 3 = 4 := hG.l _ (Or.inl (by decide)) rfl
  have hl4 : zln g 4 = 24 := hG.l _ (Or.inl (by decide)) rfl
  have hl5 : zln g 5 = 24 := hG.l _ (Or.inl (by decide)) rfl
  have hl6 : zln g 6 = 10 := hG.l _ (Or.inl (by decide)) rfl
  have hl7 : zln g 7 = 4 := hG.l _ (Or.inl (by decide)) rfl
  have hN := hG.1
  have hF := hG.2.1
  have hw0 : zI μ 0 0 = nI w := hL.2.2.2.2.2.2.2.2.1
  have hh0 : zI μ 0 1 = nI h := hL.2.2.2.2.2.2.2.2.2.1
  have hy0 : zI μ 0 2 = ly := hL.2.2.2.2.2.2.2.2.2.2.1
  have hwb := hL.2.2.2.2.2.2.2.2.2.2.2
  refine zx_aload_n dX6_kept_0 rfl rfl ?_
  refine zx_getL zf_X6_90 (by assumption) rfl dX6_kept_1 ?_
  refine zx_aload_n dX6_kept_4 rfl rfl ?_
  refine zx_getL zf_X6_180 (by assumption) rfl dX6_kept_5 ?_
  refine zx_ladd dX6_kept_8 ?_
  refine zx_lstore_n dX6_kept_9 rfl (Nat.le_of_ble_eq_true rfl) ?_
  refine zx_aload_n dX6_kept_10 rfl rfl ?_
  refine zx_getR zf_X6_35 (by assumption) (show _ = some 3 from hL.R0 (k := 5) (by decide)) rfl dX6_kept_11 ?_
  refine zx_astore_n dX6_kept_14 rfl (Nat.le_of_ble_eq_true rfl) ?_
  refine zx_aload_n dX6_kept_15 rfl rfl ?_
  refine zx_alen (nI 4) (by assumption) (by decide) (by rw [hl3]) dX6_kept_16 ?_
  refine zx_istore dX6_kept_17 (Nat.le_of_ble_eq_true rfl) ?_
  refine zx_iconst 0 dX6_kept_19 (by decide) ?_
  refine zx_istore dX6_kept_20 (Nat.le_of_ble_eq_true rfl) ?_
  refine zWA_to (L_X6_kept hG hL hW ?_) ⟨rfl, rfl, rfl, rfl, rfl, trivial⟩
  refine zx_aload_n dX6_kept_49 rfl rfl ?_
  refine zx_callV1 _ zv_X6_167 (m_X6_allParts hG hL hW) (by assumption) (by decide) rfl rfl rfl ⟨rfl, rfl, (Nat.le_of_ble_eq_true rfl), (Nat.le_of_ble_eq_true rfl)⟩ (Nat.le_of_ble_eq_true rfl) dX6_kept_50 ?_
  refine zx_lload_n dX6_kept_53 rfl rfl ?_
  refine zx_lc_ne (tgt := 62) dX6_kept_54 dX6_kept_55 (by decide) (fun c_54 => ?_) (fun c_54 => ?_)
  · skip
    refine zx_iconst 0 dX6_kept_62 (by decide) ?_
    exact zx_zreturn rfl (by decide +kernel) (by simp [zKa, s_kept, c_54]) (by rfl) dX6_kept_63
  · skip
    refine zx_iconst 1 dX6_kept_58 (by decide) ?_
    refine zx_goto (tgt := 63) dX6_kept_59 (by decide) ?_
    exact zx_zreturn rfl (by decide +kernel) (by simp [zKa, s_kept, c_54]) (by rfl) dX6_kept_63

def zNB (N : Nat) (μ : ZMem) : Prop := (∀ k n, k < N → zR μ (1000 + k) 7 = some n → ∃ i, i < 10 ∧ n = 60 + i) ∧ ∀ i, i < 10 → ∃ C, C ≤ 8 ∧ zI μ (60 + i) 2 = nI C
def s_cnt (μ : ZMem) (n : Nat) : Nat := (zI μ n 2).toNatClampNeg
theorem zNB.cnt {N : Nat} {μ : ZMem} (H : zNB N μ) {i : Nat} (hi : i < 10) : zI μ (60 + i) 2 = nI (s_cnt μ (60 + i)) ∧ s_cnt μ (60 + i) ≤ 8 := by
  obtain ⟨C, hC, e⟩ := H.2 i hi
  unfold s_cnt
  rw [e, nI_clamp (by omega)]
  exact ⟨rfl, hC⟩
def s_equal (μ : ZMem) (x : Int32) : Int32 := if x < 0 then 0 else if nI 10 ≤ x then 0 else if s_agrees μ (60 + x.toNatClampNeg) (70 + x.toNatClampNeg) (s_cnt μ (60 + x.toNatClampNeg)) = 0 then 0 else 1
set_option maxHeartbeats 4000000 in
set_option maxRecDepth 100000 in
theorem m_X6_equal {g : ZG} {μ : ZMem} {w h : Nat} {ly : Int32} (hG : zGC g (w * h) (fcA w h)) (hL : zLC w h ly μ) (hW : zWf g μ) (hB : zNB (w * h) μ) {x : Int32} : zCab g RX6 yX6_equal cX6_equal 2 ((some FieldType.boolean)) (zrm 2) [zr (some 0), zi x] μ (some (zi (s_equal μ x))) μ := by
  refine zCab_w (by decide +kernel) rfl (Nat.le_of_ble_eq_true rfl) ?_
  have hO0 : zO g 6 0 := hG.fix 0 (by decide)
  have hO1 : zO g 12 1 := hG.fix 1 (by decide)
  have hO2 : zO g 13 2 := hG.fix 2 (by decide)
  have hO3 : zO g 15 3 := hG.fix 3 (by decide)
  have hO4 : zO g 8 4 := hG.fix 4 (by decide)
  have hO5 : zO g 8 5 := hG.fix 5 (by decide)
  have hO6 : zO g 14 6 := hG.fix 6 (by decide)
  have hO7 : zO g 16 7 := hG.fix 7 (by decide)
  have hO8 : zO g 5 8 := hG.fix 8 (by decide)
  have hl1 : zln g 1 = w * h := hG.l _ (Or.inl (by decide)) rfl
  have hl2 : zln g 2 = fcA w h := hG.l _ (Or.inl (by decide)) rfl
  have hl3 : zln g 3 = 4 := hG.l _ (Or.inl (by decide)) rfl
  have hl4 : zln g 4 = 24 := hG.l _ (Or.inl (by decide)) rfl
  have hl5 : zln g 5 = 24 := hG.l _ (Or.inl (by decide)) rfl
  have hl6 : zln g 6 = 10 := hG.l _ (Or.inl (by decide)) rfl
  have hl7 : zln g 7 = 4 := hG.l _ (Or.inl (by decide)) rfl
  have hN := hG.1
  have hF := hG.2.1
  have hw0 : zI μ 0 0 = nI w := hL.2.2.2.2.2.2.2.2.1
  have hh0 : zI μ 0 1 = nI h := hL.2.2.2.2.2.2.2.2.2.1
  have hy0 : zI μ 0 2 = ly := hL.2.2.2.2.2.2.2.2.2.2.1
  have hwb := hL.2.2.2.2.2.2.2.2.2.2.2
  refine zx_iload_n dX6_equal_0 rfl rfl ?_
  refine zx_if_lt (tgt := 29) dX6_equal_1 (by decide) (fun c_1 => ?_) (fun c_1 => ?_)
  · skip
    refine zx_iconst 0 dX6_equal_29 (by decide) ?_
    exact zx_zreturn rfl (by decide +kernel) (by simp [zKa, s_equal, c_1]) (by rfl) dX6_equal_30
  · skip
    refine zx_iload_n dX6_equal_4 rfl rfl ?_
    refine zx_aload_n dX6_equal_5 rfl rfl ?_
    refine zx_getR zf_X6_58 (by assumption) (show _ = some 6 from hL.R0 (k := 8) (by decide)) rfl dX6_equal_6 ?_
    refine zx_alen (nI 10) (by assumption) (by decide) (by rw [hl6]) dX6_equal_9 ?_
    refine zx_icmp_ge (tgt := 29) dX6_equal_10 (by decide) (fun c_10 => ?_) (fun c_10 => ?_)
    · skip
      refine zx_iconst 0 dX6_equal_29 (by decide) ?_
      exact zx_zreturn rfl (by decide +kernel) (by simp [zKa, s_equal, c_1, c_10]) (by rfl) dX6_equal_30
    · skip
      obtain ⟨i, hi, rfl⟩ := zix c_1 c_10 (by decide)
      refine zx_aload_n dX6_equal_13 rfl rfl ?_
      refine zx_getR zf_X6_58 (by assumption) (show _ = some 6 from hL.R0 (k := 8) (by decide)) rfl dX6_equal_14 ?_
      refine zx_iload_n dX6_equal_17 rfl rfl ?_
      refine zx_aald i hO6 (by decide) rfl ⟨by rw [hl6]; exact hi, by rw [hl6]; decide⟩ (hL.2.2.2.2.1 i hi).1 dX6_equal_18 ?_
      refine zx_callV1 _ zv_X6_209 (m_X2_agrees (n := 60 + i) (sh := 70 + i) (C := s_cnt μ (60 + i)) (hG.nest hi) hW (hL.2.2.2.2.1 i hi).2 (hG.share hi).2 (hB.cnt hi).1 (hB.cnt hi).2) (hG.nest hi) (by decide) rfl rfl rfl ⟨rfl, rfl, (Nat.le_of_ble_eq_true rfl), (Nat.le_of_ble_eq_true rfl)⟩ (Nat.le_of_ble_eq_true rfl) dX6_equal_19 ?_
      refine zx_if_eq (tgt := 29) dX6_equal_22 (by decide) (fun c_22 => ?_) (fun c_22 => ?_)
      · skip
        refine zx_iconst 0 dX6_equal_29 (by decide) ?_
        exact zx_zreturn rfl (by decide +kernel) (by show some (zi (s_equal μ (nI i))) = _; unfold s_equal; rw [if_neg c_1, if_neg c_10, nI_clamp (by omega)]; simp [c_22]) (by rfl) dX6_equal_30
      · skip
        refine zx_iconst 1 dX6_equal_25 (by decide) ?_
        refine zx_goto (tgt := 30) dX6_equal_26 (by decide) ?_
        exact zx_zreturn rfl (by decide +kernel) (by show some (zi (s_equal μ (nI i))) = _; unfold s_equal; rw [if_neg c_1, if_neg c_10, nI_clamp (by omega)]; simp [c_22]) (by rfl) dX6_equal_30

def s_fit (μ : ZMem) (T : Nat) (x : Int32) : Int32 := if x < 0 then -1 else if x ≤ 2 then s_solve μ x.toNatClampNeg T else -1
def u_fit (μ : ZMem) (T : Nat) (x : Int32) : ZMem := if x < 0 then μ else if x ≤ 2 then u_solve μ x.toNatClampNeg T else μ
theorem zfitx {x : Int32} (h0 : ¬ x < 0) (h1 : x ≤ 2) : ∃ Q, Q ≤ 2 ∧ x = nI Q := nI_of2 (M := 2) (n := 2) (by decide) h0 h1
theorem zfitn {Q : Nat} (hQ : Q ≤ 2) : (1 : Int32) + 2 * nI Q = nI (2 * Q + 1) := by
  have h : ∀ Q : Fin 3, (1 : Int32) + 2 * nI Q.val = nI (2 * Q.val + 1) := by decide +kernel
  exact h ⟨Q, by omega⟩
theorem zLC.tc {w h : Nat} {ly : Int32} {μ : ZMem} (H : zLC w h ly μ) : zTC μ := H.2.2.2.2.2.2.1
set_option maxHeartbeats 4000000 in
set_option maxRecDepth 100000 in
theorem m_X6_fit {g : ZG} {μ : ZMem} {w h : Nat} {ly : Int32} (hG : zGC g (w * h) (fcA w h)) (hL : zLC w h ly μ) (hW : zWf g μ) {T : Nat} (hTt : T ≤ 40) (hI : zI μ 8 7 = nI T) {x : Int32} : zCab g RX6 yX6_fit cX6_fit 2 ((some FieldType.int)) (zrm 4) [zr (some 0), zi x] μ (some (zi (s_fit μ T x))) (u_fit μ T x) := by
  refine zCab_w (by decide +kernel) rfl (Nat.le_of_ble_eq_true rfl) ?_
  have hO0 : zO g 6 0 := hG.fix 0 (by decide)
  have hO1 : zO g 12 1 := hG.fix 1 (by decide)
  have hO2 : zO g 13 2 := hG.fix 2 (by decide)
  have hO3 : zO g 15 3 := hG.fix 3 (by decide)
  have hO4 : zO g 8 4 := hG.fix 4 (by decide)
  have hO5 : zO g 8 5 := hG.fix 5 (by decide)
  have hO6 : zO g 14 6 := hG.fix 6 (by decide)
  have hO7 : zO g 16 7 := hG.fix 7 (by decide)
  have hO8 : zO g 5 8 := hG.fix 8 (by decide)
  have hl1 : zln g 1 = w * h := hG.l _ (Or.inl (by decide)) rfl
  have hl2 : zln g 2 = fcA w h := hG.l _ (Or.inl (by decide)) rfl
  have hl3 : zln g 3 = 4 := hG.l _ (Or.inl (by decide)) rfl
  have hl4 : zln g 4 = 24 := hG.l _ (Or.inl (by decide)) rfl
  have hl5 : zln g 5 = 24 := hG.l _ (Or.inl (by decide)) rfl
  have hl6 : zln g 6 = 10 := hG.l _ (Or.inl (by decide)) rfl
  have hl7 : zln g 7 = 4 := hG.l _ (Or.inl (by decide)) rfl
  have hN := hG.1
  have hF := hG.2.1
  have hw0 : zI μ 0 0 = nI w := hL.2.2.2.2.2.2.2.2.1
  have hh0 : zI μ 0 1 = nI h := hL.2.2.2.2.2.2.2.2.2.1
  have hy0 : zI μ 0 2 = ly := hL.2.2.2.2.2.2.2.2.2.2.1
  have hwb := hL.2.2.2.2.2.2.2.2.2.2.2
  refine zx_iload_n dX6_fit_0 rfl rfl ?_
  refine zx_if_lt (tgt := 9) dX6_fit_1 (by decide) (fun c_1 => ?_) (fun c_1 => ?_)
  · skip
    refine zx_iconst (-1) dX6_fit_9 (by decide) ?_
    exact zx_ireturn rfl (by simp [zKa, s_fit, c_1]) (by simp [zKm, u_fit, c_1]) dX6_fit_10
  · skip
    refine zx_iload_n dX6_fit_4 rfl rfl ?_
    refine zx_iconst 2 dX6_fit_5 (by decide) ?_
    refine zx_icmp_le (tgt := 11) dX6_fit_6 (by decide) (fun c_6 => ?_) (fun c_6 => ?_)
    · skip
      obtain ⟨Q, hQ, rfl⟩ := zfitx c_1 c_6
      refine zx_aload_n dX6_fit_11 rfl rfl ?_
      refine zx_getR zf_X6_76 (by assumption) (show _ = some 8 from hL.R0 (k := 10) (by decide)) rfl dX6_fit_12 ?_
      refine zx_iconst 1 dX6_fit_15 (by decide) ?_
      refine zx_iconst 2 dX6_fit_16 (by decide) ?_
      refine zx_iload_n dX6_fit_17 rfl rfl ?_
      refine zx_imul dX6_fit_18 ?_
      refine zx_iadd dX6_fit_19 ?_
      rw [zfitn hQ]
      refine zx_callV1 _ zv_X6_212 (m_X5_solve hG hL.tc hQ hTt hI) (by assumption) (by decide) rfl rfl rfl ⟨rfl, rfl, (Nat.le_of_ble_eq_true rfl), (Nat.le_of_ble_eq_true rfl)⟩ (Nat.le_of_ble_eq_true rfl) dX6_fit_20 ?_
      exact zx_ireturn rfl (by show some (zi (s_fit μ T (nI Q))) = _; unfold s_fit; rw [if_neg c_1, if_pos c_6, nI_clamp (by omega)]) (by show u_fit μ T (nI Q) = _; unfold u_fit; rw [if_neg c_1, if_pos c_6, nI_clamp (by omega)]) dX6_fit_23
    · skip
      refine zx_iconst (-1) dX6_fit_9 (by decide) ?_
      exact zx_ireturn rfl (by simp [zKa, s_fit, c_1, c_6]) (by simp [zKm, u_fit, c_1, c_6]) dX6_fit_10

def s_tide (μ : ZMem) (Q : Nat) (v : UInt64) : UInt64 := if s_inside v 0 k1000 = 0 then 0 else s_heightK (u_saws μ v Q) (2 * Q + 1 - 1)
def u_tide (μ : ZMem) (Q : Nat) (v : UInt64) : ZMem := if s_inside v 0 k1000 = 0 then μ else u_saws μ v Q
set_option maxHeartbeats 4000000 in
set_option maxRecDepth 100000 in
theorem m_X6_tide {g : ZG} {μ : ZMem} {w h : Nat} {ly : Int32} (hG : zGC g (w * h) (fcA w h)) (hL : zLC w h ly μ) (hW : zWf g μ) {Q : Nat} (hQ : Q ≤ 2) (hf : zI μ 8 8 = nI (2 * Q + 1)) {v : UInt64} : zCab g RX6 yX6_tide cX6_tide 3 ((some FieldType.double)) (zrm 4) [zr (some 0), zd v] μ (some (zd (s_tide μ Q v))) (u_tide μ Q v) := by
  refine zCab_w (by decide +kernel) rfl (Nat.le_of_ble_eq_true rfl) ?_
  have hO0 : zO g 6 0 := hG.fix 0 (by decide)
  have hO1 : zO g 12 1 := hG.fix 1 (by decide)
  have hO2 : zO g 13 2 := hG.fix 2 (by decide)
  have hO3 : zO g 15 3 := hG.fix 3 (by decide)
  have hO4 : zO g 8 4 := hG.fix 4 (by decide)
  have hO5 : zO g 8 5 := hG.fix 5 (by decide)
  have hO6 : zO g 14 6 := hG.fix 6 (by decide)
  have hO7 : zO g 16 7 := hG.fix 7 (by decide)
  have hO8 : zO g 5 8 := hG.fix 8 (by decide)
  have hl1 : zln g 1 = w * h := hG.l _ (Or.inl (by decide)) rfl
  have hl2 : zln g 2 = fcA w h := hG.l _ (Or.inl (by decide)) rfl
  have hl3 : zln g 3 = 4 := hG.l _ (Or.inl (by decide)) rfl
  have hl4 : zln g 4 = 24 := hG.l _ (Or.inl (by decide)) rfl
  have hl5 : zln g 5 = 24 := hG.l _ (Or.inl (by decide)) rfl
  have hl6 : zln g 6 = 10 := hG.l _ (Or.inl (by decide)) rfl
  have hl7 : zln g 7 = 4 := hG.l _ (Or.inl (by decide)) rfl
  have hN := hG.1
  have hF := hG.2.1
  have hw0 : zI μ 0 0 = nI w := hL.2.2.2.2.2.2.2.2.1
  have hh0 : zI μ 0 1 = nI h := hL.2.2.2.2.2.2.2.2.2.1
  have hy0 : zI μ 0 2 = ly := hL.2.2.2.2.2.2.2.2.2.2.1
  have hwb := hL.2.2.2.2.2.2.2.2.2.2.2
  refine zx_dload_n dX6_tide_0 rfl rfl ?_
  refine zx_dconst0 dX6_tide_1 ?_
  refine zx_ldc2d 4652007308841189376 zk_X6_84 (by decide +kernel) dX6_tide_2 ?_
  refine zx_callS1 _ zs_X6_86 m_X6_inside rfl rfl ⟨rfl, rfl, (Nat.le_of_ble_eq_true rfl), (Nat.le_of_ble_eq_true rfl)⟩ (Nat.le_of_ble_eq_true rfl) dX6_tide_5 ?_
  refine zx_if_eq (tgt := 22) dX6_tide_8 (by decide) (fun c_8 => ?_) (fun c_8 => ?_)
  · skip
    refine zx_dconst0 dX6_tide_22 ?_
    exact zx_dreturn rfl (by first | rfl | simp [zKa, zKm, s_tide, c_8]) (by first | rfl | simp [zKa, zKm, u_tide, c_8]) dX6_tide_23
  · skip
    refine zx_aload_n dX6_tide_11 rfl rfl ?_
    refine zx_getR zf_X6_76 (by assumption) (show _ = some 8 from hL.R0 (k := 10) (by decide)) rfl dX6_tide_12 ?_
    refine zx_dload_n dX6_tide_15 rfl rfl ?_
    refine zx_callV1 _ zv_X6_227 (m_X5_heightAt hG hL.tc hQ hf) (by assumption) (by decide) rfl rfl rfl ⟨rfl, rfl, (Nat.le_of_ble_eq_true rfl), (Nat.le_of_ble_eq_true rfl)⟩ (Nat.le_of_ble_eq_true rfl) dX6_tide_16 ?_
    refine zx_goto (tgt := 23) dX6_tide_19 (by decide) ?_
    exact zx_dreturn rfl (by first | rfl | simp [zKa, zKm, s_tide, c_8]) (by first | rfl | simp [zKa, zKm, u_tide, c_8]) dX6_tide_23

set_option maxHeartbeats 4000000 in
set_option maxRecDepth 100000 in
theorem m_X6_tide_0 {g : ZG} {μ : ZMem} {w h : Nat} {ly : Int32} (hG : zGC g (w * h) (fcA w h)) (hL : zLC w h ly μ) (hW : zWf g μ) (hf : zI μ 8 8 = 0) {v : UInt64} : zCab g RX6 yX6_tide cX6_tide 3 ((some FieldType.double)) (zrm 4) [zr (some 0), zd v] μ (some (zd 0)) μ := by
  refine zCab_w (by decide +kernel) rfl (Nat.le_of_ble_eq_true rfl) ?_
  have hO0 : zO g 6 0 := hG.fix 0 (by decide)
  have hO1 : zO g 12 1 := hG.fix 1 (by decide)
  have hO2 : zO g 13 2 := hG.fix 2 (by decide)
  have hO3 : zO g 15 3 := hG.fix 3 (by decide)
  have hO4 : zO g 8 4 := hG.fix 4 (by decide)
  have hO5 : zO g 8 5 := hG.fix 5 (by decide)
  have hO6 : zO g 14 6 := hG.fix 6 (by decide)
  have hO7 : zO g 16 7 := hG.fix 7 (by decide)
  have hO8 : zO g 5 8 := hG.fix 8 (by decide)
  have hl1 : zln g 1 = w * h := hG.l _ (Or.inl (by decide)) rfl
  have hl2 : zln g 2 = fcA w h := hG.l _ (Or.inl (by decide)) rfl
  have hl3 : zln g 3 = 4 := hG.l _ (Or.inl (by decide)) rfl
  have hl4 : zln g 4 = 24 := hG.l _ (Or.inl (by decide)) rfl
  have hl5 : zln g 5 = 24 := hG.l _ (Or.inl (by decide)) rfl
  have hl6 : zln g 6 = 10 := hG.l _ (Or.inl (by decide)) rfl
  have hl7 : zln g 7 = 4 := hG.l _ (Or.inl (by decide)) rfl
  have hN := hG.1
  have hF := hG.2.1
  have hw0 : zI μ 0 0 = nI w := hL.2.2.2.2.2.2.2.2.1
  have hh0 : zI μ 0 1 = nI h := hL.2.2.2.2.2.2.2.2.2.1
  have hy0 : zI μ 0 2 = ly := hL.2.2.2.2.2.2.2.2.2.2.1
  have hwb := hL.2.2.2.2.2.2.2.2.2.2.2
  refine zx_dload_n dX6_tide_0 rfl rfl ?_
  refine zx_dconst0 dX6_tide_1 ?_
  refine zx_ldc2d 4652007308841189376 zk_X6_84 (by decide +kernel) dX6_tide_2 ?_
  refine zx_callS1 _ zs_X6_86 m_X6_inside rfl rfl ⟨rfl, rfl, (Nat.le_of_ble_eq_true rfl), (Nat.le_of_ble_eq_true rfl)⟩ (Nat.le_of_ble_eq_true rfl) dX6_tide_5 ?_
  refine zx_if_eq (tgt := 22) dX6_tide_8 (by decide) (fun c_8 => ?_) (fun c_8 => ?_)
  · skip
    refine zx_dconst0 dX6_tide_22 ?_
    exact zx_dreturn rfl (by rfl) (by rfl) dX6_tide_23
  · skip
    refine zx_aload_n dX6_tide_11 rfl rfl ?_
    refine zx_getR zf_X6_76 (by assumption) (show _ = some 8 from hL.R0 (k := 10) (by decide)) rfl dX6_tide_12 ?_
    refine zx_dload_n dX6_tide_15 rfl rfl ?_
    refine zx_callV1 _ zv_X6_227 (m_X5_heightAt_0 hG hL.tc hf) (by assumption) (by decide) rfl rfl rfl ⟨rfl, rfl, (Nat.le_of_ble_eq_true rfl), (Nat.le_of_ble_eq_true rfl)⟩ (Nat.le_of_ble_eq_true rfl) dX6_tide_16 ?_
    refine zx_goto (tgt := 23) dX6_tide_19 (by decide) ?_
    exact zx_dreturn rfl (by rfl) (by rfl) dX6_tide_23

def s_gauge (μ : ZMem) (w h T : Nat) (x y : Int32) (a b : UInt64) : Int32 := match s_cellAt w h x y with
  | none => 0
  | some c => if s_inside a 0 k1000 = 0 then 0 else if s_inside b km100 k100 = 0 then 0 else if T < 40 then 1 else 0
def u_gauge (μ : ZMem) (w h T : Nat) (x y : Int32) (a b : UInt64) : ZMem := match s_cellAt w h x y with
  | none => μ
  | some c => if s_inside a 0 k1000 = 0 then μ else if s_inside b km100 k100 = 0 then μ else if T < 40 then zsD (zsI (u_note μ T a b) c 8 1) c 9 b else μ
set_option maxHeartbeats 4000000 in
set_option maxRecDepth 100000 in
theorem m_X6_gauge {g : ZG} {μ : ZMem} {w h : Nat} {ly : Int32} (hG : zGC g (w * h) (fcA w h)) (hL : zLC w h ly μ) (hW : zWf g μ) {T : Nat} (hI : zI μ 8 7 = nI T) {x y : Int32} {a b : UInt64} (hT : T < 40) : zCab g RX6 yX6_gauge cX6_gauge 8 ((some FieldType.boolean)) (zrm 2) [zr (some 0), zi x, zi y, zd a, zd b] μ (some (zi (s_gauge μ w h T x y a b))) (u_gauge μ w h T x y a b) := by
  refine zCab_w (by decide +kernel) rfl (Nat.le_of_ble_eq_true rfl) ?_
  have hO0 : zO g 6 0 := hG.fix 0 (by decide)
  have hO1 : zO g 12 1 := hG.fix 1 (by decide)
  have hO2 : zO g 13 2 := hG.fix 2 (by decide)
  have hO3 : zO g 15 3 := hG.fix 3 (by decide)
  have hO4 : zO g 8 4 := hG.fix 4 (by decide)
  have hO5 : zO g 8 5 := hG.fix 5 (by decide)
  have hO6 : zO g 14 6 := hG.fix 6 (by decide)
  have hO7 : zO g 16 7 := hG.fix 7 (by decide)
  have hO8 : zO g 5 8 := hG.fix 8 (by decide)
  have hl1 : zln g 1 = w * h := hG.l _ (Or.inl (by decide)) rfl
  have hl2 : zln g 2 = fcA w h := hG.l _ (Or.inl (by decide)) rfl
  have hl3 : zln g 3 = 4 := hG.l _ (Or.inl (by decide)) rfl
  have hl4 : zln g 4 = 24 := hG.l _ (Or.inl (by decide)) rfl
  have hl5 : zln g 5 = 24 := hG.l _ (Or.inl (by decide)) rfl
  have hl6 : zln g 6 = 10 := hG.l _ (Or.inl (by decide)) rfl
  have hl7 : zln g 7 = 4 := hG.l _ (Or.inl (by decide)) rfl
  have hN := hG.1
  have hF := hG.2.1
  have hw0 : zI μ 0 0 = nI w := hL.2.2.2.2.2.2.2.2.1
  have hh0 : zI μ 0 1 = nI h := hL.2.2.2.2.2.2.2.2.2.1
  have hy0 : zI μ 0 2 = ly := hL.2.2.2.2.2.2.2.2.2.2.1
  have hwb := hL.2.2.2.2.2.2.2.2.2.2.2
  refine zx_aload_n dX6_gauge_0 rfl rfl ?_
  refine zx_iload_n dX6_gauge_1 rfl rfl ?_
  refine zx_iload_n dX6_gauge_2 rfl rfl ?_
  refine zx_callV1 _ zv_X6_80 (m_X6_cellAt hG hL hW) (by assumption) (by decide) rfl rfl rfl ⟨rfl, rfl, (Nat.le_of_ble_eq_true rfl), (Nat.le_of_ble_eq_true rfl)⟩ (Nat.le_of_ble_eq_true rfl) dX6_gauge_3 ?_
  refine zx_astore dX6_gauge_6 (Nat.le_of_ble_eq_true rfl) ?_
  refine zx_aload dX6_gauge_8 rfl ?_
  refine zx_ifnull (tgt := 38) dX6_gauge_10 (by decide) (fun c_10 => ?_) (fun r_10 c_10 => ?_)
  · skip
    rw [c_10]
    refine zx_iconst 0 dX6_gauge_38 (by decide) ?_
    exact zx_zreturn rfl (by decide +kernel) (by first | rfl | simp [zKa, zKm, s_gauge, c_10, hT]) (by first | rfl | simp [zKa, zKm, u_gauge, c_10, hT]) dX6_gauge_39
  · skip
    have hO_10 : zO g 0 r_10 := (by obtain ⟨i, j, hi, hj, -, -, rfl⟩ := s_cellAt_in (by omega) (by omega) c_10; exact hG.cell (zplace hi hj))
    rw [c_10]
    refine zx_dload_n dX6_gauge_13 rfl rfl ?_
    refine zx_dconst0 dX6_gauge_14 ?_
    refine zx_ldc2d 4652007308841189376 zk_X6_84 (by decide +kernel) dX6_gauge_15 ?_
    refine zx_callS1 _ zs_X6_86 m_X6_inside rfl rfl ⟨rfl, rfl, (Nat.le_of_ble_eq_true rfl), (Nat.le_of_ble_eq_true rfl)⟩ (Nat.le_of_ble_eq_true rfl) dX6_gauge_18 ?_
    refine zx_if_eq (tgt := 38) dX6_gauge_21 (by decide) (fun c_21 => ?_) (fun c_21 => ?_)
    · skip
      refine zx_iconst 0 dX6_gauge_38 (by decide) ?_
      exact zx_zreturn rfl (by decide +kernel) (by first | rfl | simp [zKa, zKm, s_gauge, c_10, c_21, hT]) (by first | rfl | simp [zKa, zKm, u_gauge, c_10, c_21, hT]) dX6_gauge_39
    · skip
      refine zx_dload dX6_gauge_24 rfl ?_
      refine zx_ldc2d 13860109328209412096 zk_X6_124 (by decide +kernel) dX6_gauge_26 ?_
      refine zx_ldc2d 4636737291354636288 zk_X6_126 (by decide +kernel) dX6_gauge_29 ?_
      refine zx_callS1 _ zs_X6_86 m_X6_inside rfl rfl ⟨rfl, rfl, (Nat.le_of_ble_eq_true rfl), (Nat.le_of_ble_eq_true rfl)⟩ (Nat.le_of_ble_eq_true rfl) dX6_gauge_32 ?_
      refine zx_if_ne (tgt := 40) dX6_gauge_35 (by decide) (fun c_35 => ?_) (fun c_35 => ?_)
      · skip
        refine zx_aload_n dX6_gauge_40 rfl rfl ?_
        refine zx_getR zf_X6_76 (by assumption) (show _ = some 8 from hL.R0 (k := 10) (by decide)) rfl dX6_gauge_41 ?_
        refine zx_dload_n dX6_gauge_44 rfl rfl ?_
        refine zx_dload dX6_gauge_45 rfl ?_
        refine zx_callV1 _ zv_X6_216 (m_X5_note hG hL.tc hI hT) (by assumption) (by decide) rfl rfl rfl ⟨rfl, rfl, (Nat.le_of_ble_eq_true rfl), (Nat.le_of_ble_eq_true rfl)⟩ (Nat.le_of_ble_eq_true rfl) dX6_gauge_47 ?_
        refine zx_if_ne (tgt := 55) dX6_gauge_50 (by decide) (fun _ => ?_) (fun h_ => absurd h_ (by decide))
        refine zx_aload dX6_gauge_55 rfl ?_
        refine zx_iconst 1 dX6_gauge_57 (by decide) ?_
        refine zx_putI zf_X6_220 (by assumption) ⟨by decide +kernel, by decide +kernel⟩ (Or.inr rfl) dX6_gauge_58 ?_
        refine zx_aload dX6_gauge_61 rfl ?_
        refine zx_dload dX6_gauge_63 rfl ?_
        refine zx_putD zf_X6_224 (by assumption) rfl dX6_gauge_65 ?_
        refine zx_iconst 1 dX6_gauge_68 (by decide) ?_
        exact zx_zreturn rfl (by decide +kernel) (by first | rfl | simp [zKa, zKm, s_gauge, c_10, c_21, c_35, hT]) (by first | rfl | simp [zKa, zKm, u_gauge, c_10, c_21, c_35, hT]) dX6_gauge_69
      · skip
        refine zx_iconst 0 dX6_gauge_38 (by decide) ?_
        exact zx_zreturn rfl (by decide +kernel) (by first | rfl | simp [zKa, zKm, s_gauge, c_10, c_21, c_35, hT]) (by first | rfl | simp [zKa, zKm, u_gauge, c_10, c_21, c_35, hT]) dX6_gauge_39

set_option maxHeartbeats 4000000 in
set_option maxRecDepth 100000 in
theorem m_X6_gauge_full {g : ZG} {μ : ZMem} {w h : Nat} {ly : Int32} (hG : zGC g (w * h) (fcA w h)) (hL : zLC w h ly μ) (hW : zWf g μ) {T : Nat} (hI : zI μ 8 7 = nI T) {x y : Int32} {a b : UInt64} (hT : T = 40) : zCab g RX6 yX6_gauge cX6_gauge 8 ((some FieldType.boolean)) (zrm 2) [zr (some 0), zi x, zi y, zd a, zd b] μ (some (zi (s_gauge μ w h T x y a b))) (u_gauge μ w h T x y a b) := by
  refine zCab_w (by decide +kernel) rfl (Nat.le_of_ble_eq_true rfl) ?_
  have hO0 : zO g 6 0 := hG.fix 0 (by decide)
  have hO1 : zO g 12 1 := hG.fix 1 (by decide)
  have hO2 : zO g 13 2 := hG.fix 2 (by decide)
  have hO3 : zO g 15 3 := hG.fix 3 (by decide)
  have hO4 : zO g 8 4 := hG.fix 4 (by decide)
  have hO5 : zO g 8 5 := hG.fix 5 (by decide)
  have hO6 : zO g 14 6 := hG.fix 6 (by decide)
  have hO7 : zO g 16 7 := hG.fix 7 (by decide)
  have hO8 : zO g 5 8 := hG.fix 8 (by decide)
  have hl1 : zln g 1 = w * h := hG.l _ (Or.inl (by decide)) rfl
  have hl2 : zln g 2 = fcA w h := hG.l _ (Or.inl (by decide)) rfl
  have hl3 : zln g 3 = 4 := hG.l _ (Or.inl (by decide)) rfl
  have hl4 : zln g 4 = 24 := hG.l _ (Or.inl (by decide)) rfl
  have hl5 : zln g 5 = 24 := hG.l _ (Or.inl (by decide)) rfl
  have hl6 : zln g 6 = 10 := hG.l _ (Or.inl (by decide)) rfl
  have hl7 : zln g 7 = 4 := hG.l _ (Or.inl (by decide)) rfl
  have hN := hG.1
  have hF := hG.2.1
  have hw0 : zI μ 0 0 = nI w := hL.2.2.2.2.2.2.2.2.1
  have hh0 : zI μ 0 1 = nI h := hL.2.2.2.2.2.2.2.2.2.1
  have hy0 : zI μ 0 2 = ly := hL.2.2.2.2.2.2.2.2.2.2.1
  have hwb := hL.2.2.2.2.2.2.2.2.2.2.2
  refine zx_aload_n dX6_gauge_0 rfl rfl ?_
  refine zx_iload_n dX6_gauge_1 rfl rfl ?_
  refine zx_iload_n dX6_gauge_2 rfl rfl ?_
  refine zx_callV1 _ zv_X6_80 (m_X6_cellAt hG hL hW) (by assumption) (by decide) rfl rfl rfl ⟨rfl, rfl, (Nat.le_of_ble_eq_true rfl), (Nat.le_of_ble_eq_true rfl)⟩ (Nat.le_of_ble_eq_true rfl) dX6_gauge_3 ?_
  refine zx_astore dX6_gauge_6 (Nat.le_of_ble_eq_true rfl) ?_
  refine zx_aload dX6_gauge_8 rfl ?_
  refine zx_ifnull (tgt := 38) dX6_gauge_10 (by decide) (fun c_10 => ?_) (fun r_10 c_10 => ?_)
  · skip
    rw [c_10]
    refine zx_iconst 0 dX6_gauge_38 (by decide) ?_
    exact zx_zreturn rfl (by decide +kernel) (by first | rfl | simp [zKa, zKm, s_gauge, c_10, hT]) (by first | rfl | simp [zKa, zKm, u_gauge, c_10, hT]) dX6_gauge_39
  · skip
    have hO_10 : zO g 0 r_10 := (by obtain ⟨i, j, hi, hj, -, -, rfl⟩ := s_cellAt_in (by omega) (by omega) c_10; exact hG.cell (zplace hi hj))
    rw [c_10]
    refine zx_dload_n dX6_gauge_13 rfl rfl ?_
    refine zx_dconst0 dX6_gauge_14 ?_
    refine zx_ldc2d 4652007308841189376 zk_X6_84 (by decide +kernel) dX6_gauge_15 ?_
    refine zx_callS1 _ zs_X6_86 m_X6_inside rfl rfl ⟨rfl, rfl, (Nat.le_of_ble_eq_true rfl), (Nat.le_of_ble_eq_true rfl)⟩ (Nat.le_of_ble_eq_true rfl) dX6_gauge_18 ?_
    refine zx_if_eq (tgt := 38) dX6_gauge_21 (by decide) (fun c_21 => ?_) (fun c_21 => ?_)
    · skip
      refine zx_iconst 0 dX6_gauge_38 (by decide) ?_
      exact zx_zreturn rfl (by decide +kernel) (by first | rfl | simp [zKa, zKm, s_gauge, c_10, c_21, hT]) (by first | rfl | simp [zKa, zKm, u_gauge, c_10, c_21, hT]) dX6_gauge_39
    · skip
      refine zx_dload dX6_gauge_24 rfl ?_
      refine zx_ldc2d 13860109328209412096 zk_X6_124 (by decide +kernel) dX6_gauge_26 ?_
      refine zx_ldc2d 4636737291354636288 zk_X6_126 (by decide +kernel) dX6_gauge_29 ?_
      refine zx_callS1 _ zs_X6_86 m_X6_inside rfl rfl ⟨rfl, rfl, (Nat.le_of_ble_eq_true rfl), (Nat.le_of_ble_eq_true rfl)⟩ (Nat.le_of_ble_eq_true rfl) dX6_gauge_32 ?_
      refine zx_if_ne (tgt := 40) dX6_gauge_35 (by decide) (fun c_35 => ?_) (fun c_35 => ?_)
      · skip
        refine zx_aload_n dX6_gauge_40 rfl rfl ?_
        refine zx_getR zf_X6_76 (by assumption) (show _ = some 8 from hL.R0 (k := 10) (by decide)) rfl dX6_gauge_41 ?_
        refine zx_dload_n dX6_gauge_44 rfl rfl ?_
        refine zx_dload dX6_gauge_45 rfl ?_
        refine zx_callV1 _ zv_X6_216 (m_X5_note_full hG hL.tc hI hT) (by assumption) (by decide) rfl rfl rfl ⟨rfl, rfl, (Nat.le_of_ble_eq_true rfl), (Nat.le_of_ble_eq_true rfl)⟩ (Nat.le_of_ble_eq_true rfl) dX6_gauge_47 ?_
        refine zx_if_ne (tgt := 55) dX6_gauge_50 (by decide) (fun h_ => absurd h_ (by decide)) (fun _ => ?_)
        refine zx_iconst 0 dX6_gauge_53 (by decide) ?_
        exact zx_zreturn rfl (by decide +kernel) (by first | rfl | simp [zKa, zKm, s_gauge, c_10, c_21, c_35, hT]) (by first | rfl | simp [zKa, zKm, u_gauge, c_10, c_21, c_35, hT]) dX6_gauge_54
      · skip
        refine zx_iconst 0 dX6_gauge_38 (by decide) ?_
        exact zx_zreturn rfl (by decide +kernel) (by first | rfl | simp [zKa, zKm, s_gauge, c_10, c_21, c_35, hT]) (by first | rfl | simp [zKa, zKm, u_gauge, c_10, c_21, c_35, hT]) dX6_gauge_39

