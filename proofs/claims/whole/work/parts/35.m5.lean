theorem zGC.row {g : ZG} {N F : Nat} (h : zGC g N F) {k : Nat} (hk : k < 5) : zO g 8 (12 + k) ∧ zln g (12 + k) = 5 := by
  rcases (show k = 0 ∨ k = 1 ∨ k = 2 ∨ k = 3 ∨ k = 4 by omega) with rfl | rfl | rfl | rfl | rfl <;> exact ⟨h.o 8 (Or.inl (by decide)) (by decide), h.l 5 (Or.inl (by decide)) rfl⟩
/-- the tide table's references -/
def zTC (μ : ZMem) : Prop := zR μ 8 0 = some 9 ∧ zR μ 8 1 = some 10 ∧ zR μ 8 2 = some 11 ∧ zR μ 8 3 = some 17 ∧ zR μ 8 4 = some 18 ∧ zR μ 8 5 = some 19 ∧ zR μ 8 6 = some 20 ∧ ∀ k, k < 5 → zR μ 11 k = some (12 + k)
theorem zTC_R {μ μ' : ZMem} (e : zR μ' = zR μ) (h : zTC μ) : zTC μ' := by
  unfold zTC at h ⊢
  rw [e]
  exact h
def s_turn (t : UInt64) (m : Nat) : UInt64 := zdiv t (FP.i2d (3600 * ((nI (2 * m + 1) + 1) / 2)))
def u_saws1 (t : UInt64) (m : Nat) (μ : ZMem) : ZMem := zsD (zsD μ 19 (2 * m + 1) (s_saw (s_turn t m))) 19 (2 * m + 2) (s_saw (zadd (s_turn t m) k025))
def u_saws (μ : ZMem) (hour : UInt64) (Q : Nat) : ZMem := zit (u_saws1 (zmul hour k3600)) Q (zsD μ 19 0 k1)
theorem zR_saws1 (t : UInt64) (n : Nat) (μ : ZMem) : zR (zit (u_saws1 t) n μ) = zR μ := zit_keep (f := u_saws1 t) zR (fun _ _ => rfl) n μ
theorem zR_saws (μ : ZMem) (hour : UInt64) (Q : Nat) : zR (u_saws μ hour Q) = zR μ := zR_saws1 _ _ _
theorem zI_saws (μ : ZMem) (hour : UInt64) (Q : Nat) : zI (u_saws μ hour Q) = zI μ := zit_keep (f := u_saws1 (zmul hour k3600)) zI (fun _ _ => rfl) Q _
set_option maxHeartbeats 4000000 in
set_option maxRecDepth 100000 in
theorem L_X5_fillSaws {g : ZG} {μ : ZMem} {N F : Nat} (hG : zGC g N F) (hT : zTC μ) {Q : Nat} (hQ : Q ≤ 2) {t : UInt64} {res : Option ZV} {μ' : ZMem} (hx : zWA g (RX5, cX5_fillSaws, 9, none, zrm 1, res, μ') 77 (zls [(0, zr (some 8)), (3, zi (nI (2 * Q + 1))), (4, zd t), (6, zi (nI (2 * (Q) + 1)))]) [] (zit (u_saws1 t) (Q) μ)) : zWA g (RX5, cX5_fillSaws, 9, none, zrm 1, res, μ') 17 (zls [(0, zr (some 8)), (3, zi (nI (2 * Q + 1))), (4, zd t), (6, zi (nI (2 * (0) + 1)))]) [] μ := by
  have hO8 : zO g 5 8 := hG.fix 8 (by decide)
  have hO9 : zO g 8 9 := hG.fix 9 (by decide)
  have hO10 : zO g 8 10 := hG.fix 10 (by decide)
  have hO11 : zO g 17 11 := hG.fix 11 (by decide)
  have hO17 : zO g 8 17 := hG.fix 17 (by decide)
  have hO18 : zO g 11 18 := hG.fix 18 (by decide)
  have hO19 : zO g 8 19 := hG.fix 19 (by decide)
  have hO20 : zO g 8 20 := hG.fix 20 (by decide)
  have hl9 : zln g 9 = 40 := hG.l 40 (Or.inl (by decide)) rfl
  have hl10 : zln g 10 = 40 := hG.l 40 (Or.inl (by decide)) rfl
  have hl11 : zln g 11 = 5 := hG.l 5 (Or.inl (by decide)) rfl
  have hl17 : zln g 17 = 5 := hG.l 5 (Or.inl (by decide)) rfl
  have hl18 : zln g 18 = 5 := hG.l 5 (Or.inl (by decide)) rfl
  have hl19 : zln g 19 = 5 := hG.l 5 (Or.inl (by decide)) rfl
  have hl20 : zln g 20 = 5 := hG.l 5 (Or.inl (by decide)) rfl
  have hTk : ∀ k, zTC (zit (u_saws1 t) k μ) := fun k => zTC_R (zR_saws1 _ _ _) hT
  refine zloop (P := fun k => zWA g (RX5, cX5_fillSaws, 9, none, zrm 1, res, μ') 17 (zls [(0, zr (some 8)), (3, zi (nI (2 * Q + 1))), (4, zd t), (6, zi (nI (2 * (k) + 1)))]) [] (zit (u_saws1 t) (k) μ)) (N := Q) ?_ ?_ 0 (Nat.zero_le _)
  · show zWA _ _ _ _ _ _
    refine zx_iload dX5_fillSaws_17 rfl ?_
    refine zx_iconst 1 dX5_fillSaws_19 (by decide) ?_
    refine zx_iadd dX5_fillSaws_20 ?_
    refine zx_iload_n dX5_fillSaws_21 rfl rfl ?_
    refine zx_icmp_ge (tgt := 77) dX5_fillSaws_22 (by decide) (fun _ => ?_) (fun h_ => absurd h_ (fun q => q (by rw [show (1 : Int32) = nI 1 from rfl, nI_add]; exact nI_le (by omega) (by omega))))
    exact zWA_to hx ⟨rfl, rfl, rfl, rfl, trivial⟩
  · intro k hk hn_
    show zWA _ _ _ _ _ _
    refine zx_iload dX5_fillSaws_17 rfl ?_
    refine zx_iconst 1 dX5_fillSaws_19 (by decide) ?_
    refine zx_iadd dX5_fillSaws_20 ?_
    refine zx_iload_n dX5_fillSaws_21 rfl rfl ?_
    refine zx_icmp_ge (tgt := 77) dX5_fillSaws_22 (by decide) (fun h_ => absurd h_ (by rw [show (1 : Int32) = nI 1 from rfl, nI_add]; exact nI_ge (by omega) (by omega))) (fun _ => ?_)
    refine zx_dload dX5_fillSaws_25 rfl ?_
    refine zx_sipush 3600 dX5_fillSaws_27 (by decide) ?_
    refine zx_iload dX5_fillSaws_30 rfl ?_
    refine zx_iconst 1 dX5_fillSaws_32 (by decide) ?_
    refine zx_iadd dX5_fillSaws_33 ?_
    refine zx_iconst 2 dX5_fillSaws_34 (by decide) ?_
    refine zx_idiv dX5_fillSaws_35 (by decide) ?_
    refine zx_imul dX5_fillSaws_36 ?_
    refine zx_i2d dX5_fillSaws_37 ?_
    refine zx_ddiv dX5_fillSaws_38 ?_
    refine zx_dstore dX5_fillSaws_39 (Nat.le_of_ble_eq_true rfl) ?_
    refine zx_aload_n dX5_fillSaws_41 rfl rfl ?_
    refine zx_getR zf_X5_30 (by assumption) (hTk _).2.2.2.2.2.1 rfl dX5_fillSaws_42 ?_
    refine zx_iload dX5_fillSaws_45 rfl ?_
    refine zx_dload dX5_fillSaws_47 rfl ?_
    refine zx_callN1 _ zn_X5_76 m_X6_saw rfl rfl ⟨rfl, rfl, (Nat.le_of_ble_eq_true rfl), (Nat.le_of_ble_eq_true rfl)⟩ (Nat.le_of_ble_eq_true rfl) dX5_fillSaws_49 ?_
    refine zx_dast (2 * k + 1) hO19 rfl ⟨by rw [hl19]; omega, by rw [hl19]; decide⟩ dX5_fillSaws_52 ?_
    refine zx_aload_n dX5_fillSaws_53 rfl rfl ?_
    refine zx_getR zf_X5_30 (by assumption) (hTk _).2.2.2.2.2.1 rfl dX5_fillSaws_54 ?_
    refine zx_iload dX5_fillSaws_57 rfl ?_
    refine zx_iconst 1 dX5_fillSaws_59 (by decide) ?_
    refine zx_iadd dX5_fillSaws_60 ?_
    refine zx_dload dX5_fillSaws_61 rfl ?_
    refine zx_ldc2d 4598175219545276416 zk_X5_79 (by decide +kernel) dX5_fillSaws_63 ?_
    refine zx_dadd dX5_fillSaws_66 ?_
    refine zx_callN1 _ zn_X5_76 m_X6_saw rfl rfl ⟨rfl, rfl, (Nat.le_of_ble_eq_true rfl), (Nat.le_of_ble_eq_true rfl)⟩ (Nat.le_of_ble_eq_true rfl) dX5_fillSaws_67 ?_
    refine zx_dast (2 * k + 2) hO19 (by exact nI_1 (2 * k + 1)) ⟨by rw [hl19]; omega, by rw [hl19]; decide⟩ dX5_fillSaws_70 ?_
    refine zx_iinc (nI (2 * (k + 1) + 1)) dX5_fillSaws_71 rfl (by rw [show (Int32.ofInt 2) = nI 2 from rfl, nI_add, show 2 * k + 1 + 2 = 2 * (k + 1) + 1 by omega]) (Nat.le_of_ble_eq_true rfl) ?_
    refine zx_goto (tgt := 17) dX5_fillSaws_74 (by decide) ?_
    exact zWA_to (zWA_mem hn_ (by rfl)) ⟨rfl, rfl, rfl, rfl, trivial⟩

set_option maxHeartbeats 4000000 in
set_option maxRecDepth 100000 in
theorem m_X5_fillSaws {g : ZG} {μ : ZMem} {N F : Nat} (hG : zGC g N F) (hT : zTC μ) {Q : Nat} (hQ : Q ≤ 2) {hour : UInt64} : zCab g RX5 yX5_fillSaws cX5_fillSaws 9 (none) (zrm 1) [zr (some 8), zd hour, zi (nI (2 * Q + 1))] μ none (u_saws μ hour Q) := by
  refine zCab_w (by decide +kernel) rfl (Nat.le_of_ble_eq_true rfl) ?_
  have hO8 : zO g 5 8 := hG.fix 8 (by decide)
  have hO9 : zO g 8 9 := hG.fix 9 (by decide)
  have hO10 : zO g 8 10 := hG.fix 10 (by decide)
  have hO11 : zO g 17 11 := hG.fix 11 (by decide)
  have hO17 : zO g 8 17 := hG.fix 17 (by decide)
  have hO18 : zO g 11 18 := hG.fix 18 (by decide)
  have hO19 : zO g 8 19 := hG.fix 19 (by decide)
  have hO20 : zO g 8 20 := hG.fix 20 (by decide)
  have hl9 : zln g 9 = 40 := hG.l 40 (Or.inl (by decide)) rfl
  have hl10 : zln g 10 = 40 := hG.l 40 (Or.inl (by decide)) rfl
  have hl11 : zln g 11 = 5 := hG.l 5 (Or.inl (by decide)) rfl
  have hl17 : zln g 17 = 5 := hG.l 5 (Or.inl (by decide)) rfl
  have hl18 : zln g 18 = 5 := hG.l 5 (Or.inl (by decide)) rfl
  have hl19 : zln g 19 = 5 := hG.l 5 (Or.inl (by decide)) rfl
  have hl20 : zln g 20 = 5 := hG.l 5 (Or.inl (by decide)) rfl
  refine zx_dload_n dX5_fillSaws_0 rfl rfl ?_
  refine zx_ldc2d 4660134898793709568 zk_X5_74 (by decide +kernel) dX5_fillSaws_1 ?_
  refine zx_dmul dX5_fillSaws_4 ?_
  refine zx_dstore dX5_fillSaws_5 (Nat.le_of_ble_eq_true rfl) ?_
  refine zx_aload_n dX5_fillSaws_7 rfl rfl ?_
  refine zx_getR zf_X5_30 (by assumption) hT.2.2.2.2.2.1 rfl dX5_fillSaws_8 ?_
  refine zx_iconst 0 dX5_fillSaws_11 (by decide) ?_
  refine zx_dconst1 dX5_fillSaws_12 ?_
  refine zx_dast 0 hO19 rfl ⟨by rw [hl19]; decide, by rw [hl19]; decide⟩ dX5_fillSaws_13 ?_
  refine zx_iconst 1 dX5_fillSaws_14 (by decide) ?_
  refine zx_istore dX5_fillSaws_15 (Nat.le_of_ble_eq_true rfl) ?_
  exact zWA_to (L_X5_fillSaws (μ := zsD μ 19 0 k1) (Q := Q) (t := zmul hour k3600) hG hT hQ (zx_return rfl rfl rfl dX5_fillSaws_77)) ⟨rfl, rfl, rfl, rfl, trivial⟩

def u_note (μ : ZMem) (j : Nat) (a b : UInt64) : ZMem := zsI (zsD (zsD μ 9 j a) 10 j b) 8 7 (nI j + 1)
set_option maxHeartbeats 4000000 in
set_option maxRecDepth 100000 in
theorem m_X5_note {g : ZG} {μ : ZMem} {N F : Nat} (hG : zGC g N F) (hT : zTC μ) {j : Nat} (hj : zI μ 8 7 = nI j) {a b : UInt64} (hl : j < 40) : zCab g RX5 yX5_note cX5_note 6 ((some FieldType.boolean)) (zrm 0) [zr (some 8), zd a, zd b] μ (some (zi 1)) (u_note μ j a b) := by
  refine zCab_w (by decide +kernel) rfl (Nat.le_of_ble_eq_true rfl) ?_
  have hO8 : zO g 5 8 := hG.fix 8 (by decide)
  have hO9 : zO g 8 9 := hG.fix 9 (by decide)
  have hO10 : zO g 8 10 := hG.fix 10 (by decide)
  have hO11 : zO g 17 11 := hG.fix 11 (by decide)
  have hO17 : zO g 8 17 := hG.fix 17 (by decide)
  have hO18 : zO g 11 18 := hG.fix 18 (by decide)
  have hO19 : zO g 8 19 := hG.fix 19 (by decide)
  have hO20 : zO g 8 20 := hG.fix 20 (by decide)
  have hl9 : zln g 9 = 40 := hG.l 40 (Or.inl (by decide)) rfl
  have hl10 : zln g 10 = 40 := hG.l 40 (Or.inl (by decide)) rfl
  have hl11 : zln g 11 = 5 := hG.l 5 (Or.inl (by decide)) rfl
  have hl17 : zln g 17 = 5 := hG.l 5 (Or.inl (by decide)) rfl
  have hl18 : zln g 18 = 5 := hG.l 5 (Or.inl (by decide)) rfl
  have hl19 : zln g 19 = 5 := hG.l 5 (Or.inl (by decide)) rfl
  have hl20 : zln g 20 = 5 := hG.l 5 (Or.inl (by decide)) rfl
  refine zx_aload_n dX5_note_0 rfl rfl ?_
  refine zx_getI zf_X5_36 (by assumption) (Or.inl rfl) dX5_note_1 ?_
  rw [hj]
  refine zx_istore dX5_note_4 (Nat.le_of_ble_eq_true rfl) ?_
  refine zx_iload dX5_note_6 rfl ?_
  refine zx_if_lt (tgt := 31) dX5_note_8 (by decide) (fun h_ => absurd h_ (by have := nI_pos (show j < 2 ^ 31 by omega); exact this)) (fun _ => ?_)
  refine zx_iload dX5_note_11 rfl ?_
  refine zx_aload_n dX5_note_13 rfl rfl ?_
  refine zx_getR zf_X5_9 (by assumption) hT.1 rfl dX5_note_14 ?_
  refine zx_alen (nI 40) (by assumption) (by decide) (by rw [hl9]) dX5_note_17 ?_
  refine zx_icmp_ge (tgt := 31) dX5_note_18 (by decide) (fun h_ => absurd h_ (nI_ge hl (by decide))) (fun _ => ?_)
  refine zx_iload dX5_note_21 rfl ?_
  refine zx_aload_n dX5_note_23 rfl rfl ?_
  refine zx_getR zf_X5_15 (by assumption) hT.2.1 rfl dX5_note_24 ?_
  refine zx_alen (nI 40) (by assumption) (by decide) (by rw [hl10]) dX5_note_27 ?_
  refine zx_icmp_lt (tgt := 33) dX5_note_28 (by decide) (fun _ => ?_) (fun h_ => absurd h_ (fun q => q (nI_lt hl (by decide))))
  refine zx_aload_n dX5_note_33 rfl rfl ?_
  refine zx_getR zf_X5_9 (by assumption) hT.1 rfl dX5_note_34 ?_
  refine zx_iload dX5_note_37 rfl ?_
  refine zx_dload_n dX5_note_39 rfl rfl ?_
  refine zx_dast j hO9 rfl ⟨by rw [hl9]; omega, by rw [hl9]; decide⟩ dX5_note_40 ?_
  refine zx_aload_n dX5_note_41 rfl rfl ?_
  refine zx_getR zf_X5_15 (by assumption) hT.2.1 rfl dX5_note_42 ?_
  refine zx_iload dX5_note_45 rfl ?_
  refine zx_dload_n dX5_note_47 rfl rfl ?_
  refine zx_dast j hO10 rfl ⟨by rw [hl10]; omega, by rw [hl10]; decide⟩ dX5_note_48 ?_
  refine zx_aload_n dX5_note_49 rfl rfl ?_
  refine zx_iload dX5_note_50 rfl ?_
  refine zx_iconst 1 dX5_note_52 (by decide) ?_
  refine zx_iadd dX5_note_53 ?_
  refine zx_putI zf_X5_36 (by assumption) ⟨rfl, rfl⟩ (Or.inl rfl) dX5_note_54 ?_
  refine zx_iconst 1 dX5_note_57 (by decide) ?_
  exact zx_zreturn rfl (by decide +kernel) (by rfl) (by rfl) dX5_note_58

set_option maxHeartbeats 4000000 in
set_option maxRecDepth 100000 in
theorem m_X5_note_full {g : ZG} {μ : ZMem} {N F : Nat} (hG : zGC g N F) (hT : zTC μ) {j : Nat} (hj : zI μ 8 7 = nI j) {a b : UInt64} (hl : j = 40) : zCab g RX5 yX5_note cX5_note 6 ((some FieldType.boolean)) (zrm 0) [zr (some 8), zd a, zd b] μ (some (zi 0)) μ := by
  refine zCab_w (by decide +kernel) rfl (Nat.le_of_ble_eq_true rfl) ?_
  have hO8 : zO g 5 8 := hG.fix 8 (by decide)
  have hO9 : zO g 8 9 := hG.fix 9 (by decide)
  have hO10 : zO g 8 10 := hG.fix 10 (by decide)
  have hO11 : zO g 17 11 := hG.fix 11 (by decide)
  have hO17 : zO g 8 17 := hG.fix 17 (by decide)
  have hO18 : zO g 11 18 := hG.fix 18 (by decide)
  have hO19 : zO g 8 19 := hG.fix 19 (by decide)
  have hO20 : zO g 8 20 := hG.fix 20 (by decide)
  have hl9 : zln g 9 = 40 := hG.l 40 (Or.inl (by decide)) rfl
  have hl10 : zln g 10 = 40 := hG.l 40 (Or.inl (by decide)) rfl
  have hl11 : zln g 11 = 5 := hG.l 5 (Or.inl (by decide)) rfl
  have hl17 : zln g 17 = 5 := hG.l 5 (Or.inl (by decide)) rfl
  have hl18 : zln g 18 = 5 := hG.l 5 (Or.inl (by decide)) rfl
  have hl19 : zln g 19 = 5 := hG.l 5 (Or.inl (by decide)) rfl
  have hl20 : zln g 20 = 5 := hG.l 5 (Or.inl (by decide)) rfl
  refine zx_aload_n dX5_note_0 rfl rfl ?_
  refine zx_getI zf_X5_36 (by assumption) (Or.inl rfl) dX5_note_1 ?_
  rw [hj, hl]
  refine zx_istore dX5_note_4 (Nat.le_of_ble_eq_true rfl) ?_
  refine zx_iload dX5_note_6 rfl ?_
  refine zx_if_lt (tgt := 31) dX5_note_8 (by decide) (fun h_ => absurd h_ (by decide)) (fun _ => ?_)
  refine zx_iload dX5_note_11 rfl ?_
  refine zx_aload_n dX5_note_13 rfl rfl ?_
  refine zx_getR zf_X5_9 (by assumption) hT.1 rfl dX5_note_14 ?_
  refine zx_alen (nI 40) (by assumption) (by decide) (by rw [hl9]) dX5_note_17 ?_
  refine zx_icmp_ge (tgt := 31) dX5_note_18 (by decide) (fun _ => ?_) (fun h_ => absurd h_ (by decide))
  refine zx_iconst 0 dX5_note_31 (by decide) ?_
  exact zx_zreturn rfl (by decide +kernel) (by rfl) (by rfl) dX5_note_32

def s_height (μ : ZMem) (n : Nat) : UInt64 := zit (fun m s => zadd s (zmul (zD μ 20 (1 + m)) (zD μ 19 (1 + m)))) (n - 1) (zD μ 20 0)
def s_heightK (μ : ZMem) (k : Nat) : UInt64 := zit (fun m s => zadd s (zmul (zD μ 20 (1 + m)) (zD μ 19 (1 + m)))) k (zD μ 20 0)
set_option maxHeartbeats 4000000 in
set_option maxRecDepth 100000 in
theorem L_X5_heightAt {g : ZG} {μ : ZMem} {N F : Nat} (hG : zGC g N F) (hT : zTC μ) {n : Nat} (hn5 : n ≤ 5) (hn1 : 1 ≤ n) (hf : zI μ 8 8 = nI n) {res : Option ZV} {μ' : ZMem} (hx : zWA g (RX5, cX5_heightAt, 6, ((some FieldType.double)), zrm 2, res, μ') 71 (zls [(0, zr (some 8)), (3, zd (s_heightK μ ((n - 1)))), (5, zi (nI (1 + ((n - 1)))))]) [] μ) : zWA g (RX5, cX5_heightAt, 6, ((some FieldType.double)), zrm 2, res, μ') 28 (zls [(0, zr (some 8)), (3, zd (s_heightK μ (0))), (5, zi (nI (1 + (0))))]) [] μ := by
  have hO8 : zO g 5 8 := hG.fix 8 (by decide)
  have hO9 : zO g 8 9 := hG.fix 9 (by decide)
  have hO10 : zO g 8 10 := hG.fix 10 (by decide)
  have hO11 : zO g 17 11 := hG.fix 11 (by decide)
  have hO17 : zO g 8 17 := hG.fix 17 (by decide)
  have hO18 : zO g 11 18 := hG.fix 18 (by decide)
  have hO19 : zO g 8 19 := hG.fix 19 (by decide)
  have hO20 : zO g 8 20 := hG.fix 20 (by decide)
  have hl9 : zln g 9 = 40 := hG.l 40 (Or.inl (by decide)) rfl
  have hl10 : zln g 10 = 40 := hG.l 40 (Or.inl (by decide)) rfl
  have hl11 : zln g 11 = 5 := hG.l 5 (Or.inl (by decide)) rfl
  have hl17 : zln g 17 = 5 := hG.l 5 (Or.inl (by decide)) rfl
  have hl18 : zln g 18 = 5 := hG.l 5 (Or.inl (by decide)) rfl
  have hl19 : zln g 19 = 5 := hG.l 5 (Or.inl (by decide)) rfl
  have hl20 : zln g 20 = 5 := hG.l 5 (Or.inl (by decide)) rfl
  refine zloop (P := fun k => zWA g (RX5, cX5_heightAt, 6, ((some FieldType.double)), zrm 2, res, μ') 28 (zls [(0, zr (some 8)), (3, zd (s_heightK μ (k))), (5, zi (nI (1 + (k))))]) [] μ) (N := (n - 1)) ?_ ?_ 0 (Nat.zero_le _)
  · show zWA _ _ _ _ _ _
    refine zx_iload dX5_heightAt_28 rfl ?_
    refine zx_aload_n dX5_heightAt_30 rfl rfl ?_
    refine zx_getI zf_X5_57 (by assumption) (Or.inl rfl) dX5_heightAt_31 ?_
    rw [hf]
    refine zx_icmp_ge (tgt := 71) dX5_heightAt_34 (by decide) (fun _ => ?_) (fun h_ => absurd h_ (by rw [show 1 + (n - 1) = n by omega]; simp))
    exact zWA_to hx ⟨rfl, rfl, rfl, trivial⟩
  · intro k hk hn_
    show zWA _ _ _ _ _ _
    refine zx_iload dX5_heightAt_28 rfl ?_
    refine zx_aload_n dX5_heightAt_30 rfl rfl ?_
    refine zx_getI zf_X5_57 (by assumption) (Or.inl rfl) dX5_heightAt_31 ?_
    rw [hf]
    refine zx_icmp_ge (tgt := 71) dX5_heightAt_34 (by decide) (fun h_ => absurd h_ (nI_ge (show 1 + k < n by omega) (by omega))) (fun _ => ?_)
    refine zx_iload dX5_heightAt_37 rfl ?_
    refine zx_aload_n dX5_heightAt_39 rfl rfl ?_
    refine zx_getR zf_X5_33 (by assumption) hT.2.2.2.2.2.2.1 rfl dX5_heightAt_40 ?_
    refine zx_alen (nI 5) (by assumption) (by decide) (by rw [hl20]) dX5_heightAt_43 ?_
    refine zx_icmp_ge (tgt := 71) dX5_heightAt_44 (by decide) (fun h_ => absurd h_ (nI_ge (show 1 + k < 5 by omega) (by decide))) (fun _ => ?_)
    refine zx_dload_n dX5_heightAt_47 rfl rfl ?_
    refine zx_aload_n dX5_heightAt_48 rfl rfl ?_
    refine zx_getR zf_X5_33 (by assumption) hT.2.2.2.2.2.2.1 rfl dX5_heightAt_49 ?_
    refine zx_iload dX5_heightAt_52 rfl ?_
    refine zx_dald (1 + k) hO20 rfl ⟨by rw [hl20]; omega, by rw [hl20]; decide⟩ dX5_heightAt_54 ?_
    refine zx_aload_n dX5_heightAt_55 rfl rfl ?_
    refine zx_getR zf_X5_30 (by assumption) hT.2.2.2.2.2.1 rfl dX5_heightAt_56 ?_
    refine zx_iload dX5_heightAt_59 rfl ?_
    refine zx_dald (1 + k) hO19 rfl ⟨by rw [hl19]; omega, by rw [hl19]; decide⟩ dX5_heightAt_61 ?_
    refine zx_dmul dX5_heightAt_62 ?_
    refine zx_dadd dX5_heightAt_63 ?_
    refine zx_dstore_n dX5_heightAt_64 rfl (Nat.le_of_ble_eq_true rfl) ?_
    refine zx_iinc (nI (1 + (k + 1))) dX5_heightAt_65 rfl (by rw [show Int32.ofInt 1 = nI 1 from rfl, nI_add, Nat.add_assoc]) (Nat.le_of_ble_eq_true rfl) ?_
    refine zx_goto (tgt := 28) dX5_heightAt_68 (by decide) ?_
    exact zWA_to (zWA_mem hn_ (by rfl)) ⟨rfl, rfl, rfl, trivial⟩

set_option maxHeartbeats 4000000 in
set_option maxRecDepth 100000 in
theorem m_X5_heightAt {g : ZG} {μ : ZMem} {N F : Nat} (hG : zGC g N F) (hT : zTC μ) {Q : Nat} (hQ : Q ≤ 2) (hf : zI μ 8 8 = nI (2 * Q + 1)) {hour : UInt64} : zCab g RX5 yX5_heightAt cX5_heightAt 6 ((some FieldType.double)) (zrm 2) [zr (some 8), zd hour] μ (some (zd (s_heightK (u_saws μ hour Q) (2 * Q + 1 - 1)))) (u_saws μ hour Q) := by
  refine zCab_w (by decide +kernel) rfl (Nat.le_of_ble_eq_true rfl) ?_
  have hO8 : zO g 5 8 := hG.fix 8 (by decide)
  have hO9 : zO g 8 9 := hG.fix 9 (by decide)
  have hO10 : zO g 8 10 := hG.fix 10 (by decide)
  have hO11 : zO g 17 11 := hG.fix 11 (by decide)
  have hO17 : zO g 8 17 := hG.fix 17 (by decide)
  have hO18 : zO g 11 18 := hG.fix 18 (by decide)
  have hO19 : zO g 8 19 := hG.fix 19 (by decide)
  have hO20 : zO g 8 20 := hG.fix 20 (by decide)
  have hl9 : zln g 9 = 40 := hG.l 40 (Or.inl (by decide)) rfl
  have hl10 : zln g 10 = 40 := hG.l 40 (Or.inl (by decide)) rfl
  have hl11 : zln g 11 = 5 := hG.l 5 (Or.inl (by decide)) rfl
  have hl17 : zln g 17 = 5 := hG.l 5 (Or.inl (by decide)) rfl
  have hl18 : zln g 18 = 5 := hG.l 5 (Or.inl (by decide)) rfl
  have hl19 : zln g 19 = 5 := hG.l 5 (Or.inl (by decide)) rfl
  have hl20 : zln g 20 = 5 := hG.l 5 (Or.inl (by decide)) rfl
  refine zx_aload_n dX5_heightAt_0 rfl rfl ?_
  refine zx_getI zf_X5_57 (by assumption) (Or.inl rfl) dX5_heightAt_1 ?_
  rw [hf]
  refine zx_if_ne (tgt := 9) dX5_heightAt_4 (by decide) (fun _ => ?_) (fun h_ => absurd h_ (nI_ne0 (show 0 < 2 * Q + 1 by omega) (by omega)))
  refine zx_aload_n dX5_heightAt_9 rfl rfl ?_
  refine zx_dload_n dX5_heightAt_10 rfl rfl ?_
  refine zx_aload_n dX5_heightAt_11 rfl rfl ?_
  refine zx_getI zf_X5_57 (by assumption) (Or.inl rfl) dX5_heightAt_12 ?_
  rw [hf]
  refine zx_callV0 _ zv_X5_60 (m_X5_fillSaws hG hT hQ) (by assumption) (by decide) rfl rfl rfl ⟨rfl, rfl, (Nat.le_of_ble_eq_true rfl), (Nat.le_of_ble_eq_true rfl)⟩ (Nat.le_of_ble_eq_true rfl) dX5_heightAt_15 ?_
  refine zx_aload_n dX5_heightAt_18 rfl rfl ?_
  refine zx_getR zf_X5_33 (by assumption) (zTC_R (zR_saws _ _ _) hT).2.2.2.2.2.2.1 rfl dX5_heightAt_19 ?_
  refine zx_iconst 0 dX5_heightAt_22 (by decide) ?_
  refine zx_dald 0 hO20 rfl ⟨by rw [hl20]; decide, by rw [hl20]; decide⟩ dX5_heightAt_23 ?_
  refine zx_dstore_n dX5_heightAt_24 rfl (Nat.le_of_ble_eq_true rfl) ?_
  refine zx_iconst 1 dX5_heightAt_25 (by decide) ?_
  refine zx_istore dX5_heightAt_26 (Nat.le_of_ble_eq_true rfl) ?_
  refine zWA_to (L_X5_heightAt (μ := u_saws μ hour Q) (n := 2 * Q + 1) hG (zTC_R (zR_saws _ _ _) hT) (by omega) (by omega) (by rw [zI_saws]; exact hf) ?_) ⟨rfl, rfl, rfl, trivial⟩
  refine zx_dload_n dX5_heightAt_71 rfl rfl ?_
  exact zx_dreturn rfl (by rfl) (by rfl) dX5_heightAt_72

set_option maxHeartbeats 4000000 in
set_option maxRecDepth 100000 in
theorem m_X5_heightAt_0 {g : ZG} {μ : ZMem} {N F : Nat} (hG : zGC g N F) (hT : zTC μ) (hf : zI μ 8 8 = 0) {hour : UInt64} : zCab g RX5 yX5_heightAt cX5_heightAt 6 ((some FieldType.double)) (zrm 0) [zr (some 8), zd hour] μ (some (zd 0)) μ := by
  refine zCab_w (by decide +kernel) rfl (Nat.le_of_ble_eq_true rfl) ?_
  have hO8 : zO g 5 8 := hG.fix 8 (by decide)
  have hO9 : zO g 8 9 := hG.fix 9 (by decide)
  have hO10 : zO g 8 10 := hG.fix 10 (by decide)
  have hO11 : zO g 17 11 := hG.fix 11 (by decide)
  have hO17 : zO g 8 17 := hG.fix 17 (by decide)
  have hO18 : zO g 11 18 := hG.fix 18 (by decide)
  have hO19 : zO g 8 19 := hG.fix 19 (by decide)
  have hO20 : zO g 8 20 := hG.fix 20 (by decide)
  have hl9 : zln g 9 = 40 := hG.l 40 (Or.inl (by decide)) rfl
  have hl10 : zln g 10 = 40 := hG.l 40 (Or.inl (by decide)) rfl
  have hl11 : zln g 11 = 5 := hG.l 5 (Or.inl (by decide)) rfl
  have hl17 : zln g 17 = 5 := hG.l 5 (Or.inl (by decide)) rfl
  have hl18 : zln g 18 = 5 := hG.l 5 (Or.inl (by decide)) rfl
  have hl19 : zln g 19 = 5 := hG.l 5 (Or.inl (by decide)) rfl
  have hl20 : zln g 20 = 5 := hG.l 5 (Or.inl (by decide)) rfl
  refine zx_aload_n dX5_heightAt_0 rfl rfl ?_
  refine zx_getI zf_X5_57 (by assumption) (Or.inl rfl) dX5_heightAt_1 ?_
  refine zx_if_ne (tgt := 9) dX5_heightAt_4 (by decide) (fun h_ => absurd h_ (fun q => q hf)) (fun _ => ?_)
  refine zx_dconst0 dX5_heightAt_7 ?_
  exact zx_dreturn rfl (by rfl) (by rfl) dX5_heightAt_8

def u_sub1 (r c : Nat) (x : UInt64) (m : Nat) (μ : ZMem) : ZMem := zsD μ (12 + r) (c + m) (zsub (zD μ (12 + r) (c + m)) (zmul x (zD μ (12 + c) (c + m))))
def u_subRow (μ : ZMem) (r c : Nat) (x : UInt64) (n : Nat) : ZMem := (fun m1 : ZMem => zsD m1 17 r (zsub (zD m1 17 r) (zmul x (zD m1 17 c)))) (zit (u_sub1 r c x) (n - c) μ)
theorem zR_sub1 (r c : Nat) (x : UInt64) (n : Nat) (μ : ZMem) : zR (zit (u_sub1 r c x) n μ) = zR μ := zit_keep (f := u_sub1 r c x) zR (fun _ _ => rfl) n μ
theorem zR_subRow (μ : ZMem) (r c : Nat) (x : UInt64) (n : Nat) : zR (u_subRow μ r c x n) = zR μ := zR_sub1 _ _ _ _ _
set_option maxHeartbeats 4000000 in
set_option maxRecDepth 100000 in
theorem L_X5_subtractRow {g : ZG} {μ : ZMem} {N F : Nat} (hG : zGC g N F) (hT : zTC μ) {r c n : Nat} (hn : n ≤ 5) (hr : r < n) (hc : c < n) {x : UInt64} {res : Option ZV} {μ' : ZMem} (hx : zWA g (RX5, cX5_subtractRow, 7, none, zrm 0, res, μ') 46 (zls [(0, zr (some 8)), (1, zi (nI r)), (2, zi (nI c)), (3, zd x), (5, zi (nI n)), (6, zi (nI (c + ((n - c)))))]) [] (zit (u_sub1 r c x) ((n - c)) μ)) : zWA g (RX5, cX5_subtractRow, 7, none, zrm 0, res, μ') 3 (zls [(0, zr (some 8)), (1, zi (nI r)), (2, zi (nI c)), (3, zd x), (5, zi (nI n)), (6, zi (nI (c + (0))))]) [] μ := by
  have hO8 : zO g 5 8 := hG.fix 8 (by decide)
  have hO9 : zO g 8 9 := hG.fix 9 (by decide)
  have hO10 : zO g 8 10 := hG.fix 10 (by decide)
  have hO11 : zO g 17 11 := hG.fix 11 (by decide)
  have hO17 : zO g 8 17 := hG.fix 17 (by decide)
  have hO18 : zO g 11 18 := hG.fix 18 (by decide)
  have hO19 : zO g 8 19 := hG.fix 19 (by decide)
  have hO20 : zO g 8 20 := hG.fix 20 (by decide)
  have hl9 : zln g 9 = 40 := hG.l 40 (Or.inl (by decide)) rfl
  have hl10 : zln g 10 = 40 := hG.l 40 (Or.inl (by decide)) rfl
  have hl11 : zln g 11 = 5 := hG.l 5 (Or.inl (by decide)) rfl
  have hl17 : zln g 17 = 5 := hG.l 5 (Or.inl (by decide)) rfl
  have hl18 : zln g 18 = 5 := hG.l 5 (Or.inl (by decide)) rfl
  have hl19 : zln g 19 = 5 := hG.l 5 (Or.inl (by decide)) rfl
  have hl20 : zln g 20 = 5 := hG.l 5 (Or.inl (by decide)) rfl
  have hTk : ∀ k, zTC (zit (u_sub1 r c x) k μ) := fun k => zTC_R (zR_sub1 _ _ _ _ _) hT
  refine zloop (P := fun k => zWA g (RX5, cX5_subtractRow, 7, none, zrm 0, res, μ') 3 (zls [(0, zr (some 8)), (1, zi (nI r)), (2, zi (nI c)), (3, zd x), (5, zi (nI n)), (6, zi (nI (c + (k))))]) [] (zit (u_sub1 r c x) (k) μ)) (N := (n - c)) ?_ ?_ 0 (Nat.zero_le _)
  · show zWA _ _ _ _ _ _
    refine zx_iload dX5_subtractRow_3 rfl ?_
    refine zx_iload dX5_subtractRow_5 rfl ?_
    refine zx_icmp_ge (tgt := 46) dX5_subtractRow_7 (by decide) (fun _ => ?_) (fun h_ => absurd h_ (by rw [show c + (n - c) = n by omega]; simp))
    exact zWA_to hx ⟨rfl, rfl, rfl, rfl, rfl, rfl, trivial⟩
  · intro k hk hn_
    show zWA _ _ _ _ _ _
    refine zx_iload dX5_subtractRow_3 rfl ?_
    refine zx_iload dX5_subtractRow_5 rfl ?_
    refine zx_icmp_ge (tgt := 46) dX5_subtractRow_7 (by decide) (fun h_ => absurd h_ (nI_ge (show c + k < n by omega) (by omega))) (fun _ => ?_)
    refine zx_aload_n dX5_subtractRow_10 rfl rfl ?_
    refine zx_getR zf_X5_20 (by assumption) (hTk _).2.2.1 rfl dX5_subtractRow_11 ?_
    refine zx_iload_n dX5_subtractRow_14 rfl rfl ?_
    refine zx_aald r (by assumption) (by decide) rfl ⟨by rw [hl11]; have := hr; omega, by rw [hl11]; decide⟩ ((hTk _).2.2.2.2.2.2.2 r (by have := hr; omega)) dX5_subtractRow_15 ?_
    refine zx_iload dX5_subtractRow_16 rfl ?_
    refine zx_aload_n dX5_subtractRow_18 rfl rfl ?_
    refine zx_getR zf_X5_20 (by assumption) (hTk _).2.2.1 rfl dX5_subtractRow_19 ?_
    refine zx_iload_n dX5_subtractRow_22 rfl rfl ?_
    refine zx_aald r (by assumption) (by decide) rfl ⟨by rw [hl11]; have := hr; omega, by rw [hl11]; decide⟩ ((hTk _).2.2.2.2.2.2.2 r (by have := hr; omega)) dX5_subtractRow_23 ?_
    refine zx_iload dX5_subtractRow_24 rfl ?_
    refine zx_dald (c + k) ((hG.row (k := r) (by have := hr; omega)).1) rfl ⟨by rw [(hG.row (k := r) (by have := hr; omega)).2]; have := hk; omega, by rw [(hG.row (k := r) (by have := hr; omega)).2]; decide⟩ dX5_subtractRow_26 ?_
    refine zx_dload_n dX5_subtractRow_27 rfl rfl ?_
    refine zx_aload_n dX5_subtractRow_28 rfl rfl ?_
    refine zx_getR zf_X5_20 (by assumption) (hTk _).2.2.1 rfl dX5_subtractRow_29 ?_
    refine zx_iload_n dX5_subtractRow_32 rfl rfl ?_
    refine zx_aald c (by assumption) (by decide) rfl ⟨by rw [hl11]; have := hc; omega, by rw [hl11]; decide⟩ ((hTk _).2.2.2.2.2.2.2 c (by have := hc; omega)) dX5_subtractRow_33 ?_
    refine zx_iload dX5_subtractRow_34 rfl ?_
    refine zx_dald (c + k) ((hG.row (k := c) (by have := hc; omega)).1) rfl ⟨by rw [(hG.row (k := c) (by have := hc; omega)).2]; have := hk; omega, by rw [(hG.row (k := c) (by have := hc; omega)).2]; decide⟩ dX5_subtractRow_36 ?_
    refine zx_dmul dX5_subtractRow_37 ?_
    refine zx_dsub dX5_subtractRow_38 ?_
    refine zx_dast (c + k) ((hG.row (k := r) (by have := hr; omega)).1) rfl ⟨by rw [(hG.row (k := r) (by have := hr; omega)).2]; have := hk; omega, by rw [(hG.row (k := r) (by have := hr; omega)).2]; decide⟩ dX5_subtractRow_39 ?_
    refine zx_iinc (nI (c + (k + 1))) dX5_subtractRow_40 rfl (by rw [show Int32.ofInt 1 = nI 1 from rfl, nI_add] <;> rfl) (Nat.le_of_ble_eq_true rfl) ?_
    refine zx_goto (tgt := 3) dX5_subtractRow_43 (by decide) ?_
    exact zWA_to (zWA_mem hn_ (by rfl)) ⟨rfl, rfl, rfl, rfl, rfl, rfl, trivial⟩

set_option maxHeartbeats 4000000 in
set_option maxRecDepth 100000 in
theorem m_X5_subtractRow {g : ZG} {μ : ZMem} {N F : Nat} (hG : zGC g N F) (hT : zTC μ) {r c n : Nat} (hn : n ≤ 5) (hr : r < n) (hc : c < n) {x : UInt64} : zCab g RX5 yX5_subtractRow cX5_subtractRow 7 (none) (zrm 0) [zr (some 8), zi (nI r), zi (nI c), zd x, zi (nI n)] μ none (u_subRow μ r c x n) := by
  refine zCab_w (by decide +kernel) rfl (Nat.le_of_ble_eq_true rfl) ?_
  have hO8 : zO g 5 8 := hG.fix 8 (by decide)
  have hO9 : zO g 8 9 := hG.fix 9 (by decide)
  have hO10 : zO g 8 10 := hG.fix 10 (by decide)
  have hO11 : zO g 17 11 := hG.fix 11 (by decide)
  have hO17 : zO g 8 17 := hG.fix 17 (by decide)
  have hO18 : zO g 11 18 := hG.fix 18 (by decide)
  have hO19 : zO g 8 19 := hG.fix 19 (by decide)
  have hO20 : zO g 8 20 := hG.fix 20 (by decide)
  have hl9 : zln g 9 = 40 := hG.l 40 (Or.inl (by decide)) rfl
  have hl10 : zln g 10 = 40 := hG.l 40 (Or.inl (by decide)) rfl
  have hl11 : zln g 11 = 5 := hG.l 5 (Or.inl (by decide)) rfl
  have hl17 : zln g 17 = 5 := hG.l 5 (Or.inl (by decide)) rfl
  have hl18 : zln g 18 = 5 := hG.l 5 (Or.inl (by decide)) rfl
  have hl19 : zln g 19 = 5 := hG.l 5 (Or.inl (by decide)) rfl
  have hl20 : zln g 20 = 5 := hG.l 5 (Or.inl (by decide)) rfl
  have hTe : zTC (zit (u_sub1 r c x) (n - c) μ) := zTC_R (zR_sub1 _ _ _ _ _) hT
  refine zx_iload_n dX5_subtractRow_0 rfl rfl ?_
  refine zx_istore dX5_subtractRow_1 (Nat.le_of_ble_eq_true rfl) ?_
  refine zWA_to (L_X5_subtractRow (r := r) (c := c) (n := n) (x := x) hG hT hn hr hc ?_) ⟨rfl, rfl, rfl, rfl, rfl, rfl, trivial⟩
  refine zx_aload_n dX5_subtractRow_46 rfl rfl ?_
  refine zx_getR zf_X5_23 (by assumption) hTe.2.2.2.1 rfl dX5_subtractRow_47 ?_
  refine zx_iload_n dX5_subtractRow_50 rfl rfl ?_
  refine zx_aload_n dX5_subtractRow_51 rfl rfl ?_
  refine zx_getR zf_X5_23 (by assumption) hTe.2.2.2.1 rfl dX5_subtractRow_52 ?_
  refine zx_iload_n dX5_subtractRow_55 rfl rfl ?_
  refine zx_dald r hO17 rfl ⟨by rw [hl17]; have := hr; omega, by rw [hl17]; decide⟩ dX5_subtractRow_56 ?_
  refine zx_dload_n dX5_subtractRow_57 rfl rfl ?_
  refine zx_aload_n dX5_subtractRow_58 rfl rfl ?_
  refine zx_getR zf_X5_23 (by assumption) hTe.2.2.2.1 rfl dX5_subtractRow_59 ?_
  refine zx_iload_n dX5_subtractRow_62 rfl rfl ?_
  refine zx_dald c hO17 rfl ⟨by rw [hl17]; have := hc; omega, by rw [hl17]; decide⟩ dX5_subtractRow_63 ?_
  refine zx_dmul dX5_subtractRow_64 ?_
  refine zx_dsub dX5_subtractRow_65 ?_
  refine zx_dast r hO17 rfl ⟨by rw [hl17]; have := hr; omega, by rw [hl17]; decide⟩ dX5_subtractRow_66 ?_
  exact zx_return rfl rfl (by rfl) dX5_subtractRow_67

def u_zc (r c : Nat) (μ : ZMem) : ZMem := zsD μ (12 + r) c 0
def u_zr (n r : Nat) (μ : ZMem) : ZMem := zit (u_zc r) n (zsD μ 17 r 0)
def u_ac (r c : Nat) (μ : ZMem) : ZMem := zsD μ (12 + r) c (zadd (zD μ (12 + r) c) (zmul (zD μ 19 r) (zD μ 19 c)))
def u_ar (n q r : Nat) (μ : ZMem) : ZMem := zit (u_ac r) n (zsD μ 17 r (zadd (zD μ 17 r) (zmul (zD μ 19 r) (zD μ 10 q))))
def u_ag (Q n q : Nat) (μ : ZMem) : ZMem := zit (u_ar n q) n (u_saws μ (zD μ 9 q) Q)
def u_addUp (μ : ZMem) (Q n T : Nat) : ZMem := zit (u_ag Q n) T (zit (u_zr n) n μ)
theorem zR_zc (r n : Nat) (μ : ZMem) : zR (zit (u_zc r) n μ) = zR μ := zit_keep (f := u_zc r) zR (fun _ _ => rfl) n μ
theorem zI_zc (r n : Nat) (μ : ZMem) : zI (zit (u_zc r) n μ) = zI μ := zit_keep (f := u_zc r) zI (fun _ _ => rfl) n μ
theorem zR_zr (n k : Nat) (μ : ZMem) : zR (zit (u_zr n) k μ) = zR μ := zit_keep (f := u_zr n) zR (fun _ _ => zR_zc _ _ _) k μ
theorem zI_zr (n k : Nat) (μ : ZMem) : zI (zit (u_zr n) k μ) = zI μ := zit_keep (f := u_zr n) zI (fun _ _ => zI_zc _ _ _) k μ
theorem zR_ac (r n : Nat) (μ : ZMem) : zR (zit (u_ac r) n μ) = zR μ := zit_keep (f := u_ac r) zR (fun _ _ => rfl) n μ
theorem zI_ac (r n : Nat) (μ : ZMem) : zI (zit (u_ac r) n μ) = zI μ := zit_keep (f := u_ac r) zI (fun _ _ => rfl) n μ
theorem zR_ar (n q k : Nat) (μ : ZMem) : zR (zit (u_ar n q) k μ) = zR μ := zit_keep (f := u_ar n q) zR (fun _ _ => zR_ac _ _ _) k μ
theorem zI_ar (n q k : Nat) (μ : ZMem) : zI (zit (u_ar n q) k μ) = zI μ := zit_keep (f := u_ar n q) zI (fun _ _ => zI_ac _ _ _) k μ
theorem zR_ag (Q n k : Nat) (μ : ZMem) : zR (zit (u_ag Q n) k μ) = zR μ := zit_keep (f := u_ag Q n) zR (fun _ _ => (zR_ar _ _ _ _).trans (zR_saws _ _ _)) k μ
theorem zI_ag (Q n k : Nat) (μ : ZMem) : zI (zit (u_ag Q n) k μ) = zI μ := zit_keep (f := u_ag Q n) zI (fun _ _ => (zI_ar _ _ _ _).trans (zI_saws _ _ _)) k μ
theorem zR_addUp (μ : ZMem) (Q n T : Nat) : zR (u_addUp μ Q n T) = zR μ := (zR_ag _ _ _ _).trans (zR_zr _ _ _)
theorem zI_addUp (μ : ZMem) (Q n T : Nat) : zI (u_addUp μ Q n T) = zI μ := (zI_ag _ _ _ _).trans (zI_zr _ _ _)
set_option maxHeartbeats 4000000 in
set_option maxRecDepth 100000 in
theorem L_X5_addUp1 {g : ZG} {μ : ZMem} {N F : Nat} (hG : zGC g N F) (hT : zTC μ) {n : Nat} (hn : n ≤ 5) {r : Nat} (hr : r < n) {res : Option ZV} {μ' : ZMem} (hx : zWA g (RX5, cX5_addUp, 5, none, zrm 2, res, μ') 36 (zls [(0, zr (some 8)), (1, zi (nI n)), (2, zi (nI r)), (3, zi (nI (n)))]) [] (zit (u_zc r) (n) μ)) : zWA g (RX5, cX5_addUp, 5, none, zrm 2, res, μ') 16 (zls [(0, zr (some 8)), (1, zi (nI n)), (2, zi (nI r)), (3, zi (nI (0)))]) [] μ := by
  have hO8 : zO g 5 8 := hG.fix 8 (by decide)
  have hO9 : zO g 8 9 := hG.fix 9 (by decide)
  have hO10 : zO g 8 10 := hG.fix 10 (by decide)
  have hO11 : zO g 17 11 := hG.fix 11 (by decide)
  have hO17 : zO g 8 17 := hG.fix 17 (by decide)
  have hO18 : zO g 11 18 := hG.fix 18 (by decide)
  have hO19 : zO g 8 19 := hG.fix 19 (by decide)
  have hO20 : zO g 8 20 := hG.fix 20 (by decide)
  have hl9 : zln g 9 = 40 := hG.l 40 (Or.inl (by decide)) rfl
  have hl10 : zln g 10 = 40 := hG.l 40 (Or.inl (by decide)) rfl
  have hl11 : zln g 11 = 5 := hG.l 5 (Or.inl (by decide)) rfl
  have hl17 : zln g 17 = 5 := hG.l 5 (Or.inl (by decide)) rfl
  have hl18 : zln g 18 = 5 := hG.l 5 (Or.inl (by decide)) rfl
  have hl19 : zln g 19 = 5 := hG.l 5 (Or.inl (by decide)) rfl
  have hl20 : zln g 20 = 5 := hG.l 5 (Or.inl (by decide)) rfl
  have hTk : ∀ k, zTC (zit (u_zc r) k μ) := fun k => zTC_R (zR_zc _ _ _) hT
  refine zloop (P := fun k => zWA g (RX5, cX5_addUp, 5, none, zrm 2, res, μ') 16 (zls [(0, zr (some 8)), (1, zi (nI n)), (2, zi (nI r)), (3, zi (nI (k)))]) [] (zit (u_zc r) (k) μ)) (N := n) ?_ ?_ 0 (Nat.zero_le _)
  · show zWA _ _ _ _ _ _
    refine zx_iload_n dX5_addUp_16 rfl rfl ?_
    refine zx_iload_n dX5_addUp_17 rfl rfl ?_
    refine zx_icmp_ge (tgt := 36) dX5_addUp_18 (by decide) (fun _ => ?_) (fun h_ => absurd h_ (by simp))
    exact zWA_to hx ⟨rfl, rfl, rfl, rfl, trivial⟩
  · intro k hk hn_
    show zWA _ _ _ _ _ _
    refine zx_iload_n dX5_addUp_16 rfl rfl ?_
    refine zx_iload_n dX5_addUp_17 rfl rfl ?_
    refine zx_icmp_ge (tgt := 36) dX5_addUp_18 (by decide) (fun h_ => absurd h_ (nI_ge hk (by omega))) (fun _ => ?_)
    refine zx_aload_n dX5_addUp_21 rfl rfl ?_
    refine zx_getR zf_X5_20 (by assumption) (hTk _).2.2.1 rfl dX5_addUp_22 ?_
    refine zx_iload_n dX5_addUp_25 rfl rfl ?_
    refine zx_aald r (by assumption) (by decide) rfl ⟨by rw [hl11]; have := hr; omega, by rw [hl11]; decide⟩ ((hTk _).2.2.2.2.2.2.2 r (by have := hr; omega)) dX5_addUp_26 ?_
    refine zx_iload_n dX5_addUp_27 rfl rfl ?_
    refine zx_dconst0 dX5_addUp_28 ?_
    refine zx_dast k ((hG.row (k := r) (by have := hr; omega)).1) rfl ⟨by rw [(hG.row (k := r) (by have := hr; omega)).2]; have := hk; omega, by rw [(hG.row (k := r) (by have := hr; omega)).2]; decide⟩ dX5_addUp_29 ?_
    refine zx_iinc (nI (k + 1)) dX5_addUp_30 rfl (by rw [show Int32.ofInt 1 = nI 1 from rfl, nI_add] <;> rfl) (Nat.le_of_ble_eq_true rfl) ?_
    refine zx_goto (tgt := 16) dX5_addUp_33 (by decide) ?_
    exact zWA_to (zWA_mem hn_ (by rfl)) ⟨rfl, rfl, rfl, rfl, trivial⟩

set_option maxHeartbeats 4000000 in
set_option maxRecDepth 100000 in
theorem L_X5_addUp2 {g : ZG} {μ : ZMem} {N F : Nat} (hG : zGC g N F) (hT : zTC μ) {n : Nat} (hn : n ≤ 5) {res : Option ZV} {μ' : ZMem} (hx : zWA g (RX5, cX5_addUp, 5, none, zrm 2, res, μ') 42 (zls [(0, zr (some 8)), (1, zi (nI n)), (2, zi (nI (n)))]) [] (zit (u_zr n) (n) μ)) : zWA g (RX5, cX5_addUp, 5, none, zrm 2, res, μ') 2 (zls [(0, zr (some 8)), (1, zi (nI n)), (2, zi (nI (0)))]) [] μ := by
  have hO8 : zO g 5 8 := hG.fix 8 (by decide)
  have hO9 : zO g 8 9 := hG.fix 9 (by decide)
  have hO10 : zO g 8 10 := hG.fix 10 (by decide)
  have hO11 : zO g 17 11 := hG.fix 11 (by decide)
  have hO17 : zO g 8 17 := hG.fix 17 (by decide)
  have hO18 : zO g 11 18 := hG.fix 18 (by decide)
  have hO19 : zO g 8 19 := hG.fix 19 (by decide)
  have hO20 : zO g 8 20 := hG.fix 20 (by decide)
  have hl9 : zln g 9 = 40 := hG.l 40 (Or.inl (by decide)) rfl
  have hl10 : zln g 10 = 40 := hG.l 40 (Or.inl (by decide)) rfl
  have hl11 : zln g 11 = 5 := hG.l 5 (Or.inl (by decide)) rfl
  have hl17 : zln g 17 = 5 := hG.l 5 (Or.inl (by decide)) rfl
  have hl18 : zln g 18 = 5 := hG.l 5 (Or.inl (by decide)) rfl
  have hl19 : zln g 19 = 5 := hG.l 5 (Or.inl (by decide)) rfl
  have hl20 : zln g 20 = 5 := hG.l 5 (Or.inl (by decide)) rfl
  have hTk : ∀ k, zTC (zit (u_zr n) k μ) := fun k => zTC_R (zR_zr _ _ _) hT
  refine zloop (P := fun k => zWA g (RX5, cX5_addUp, 5, none, zrm 2, res, μ') 2 (zls [(0, zr (some 8)), (1, zi (nI n)), (2, zi (nI (k)))]) [] (zit (u_zr n) (k) μ)) (N := n) ?_ ?_ 0 (Nat.zero_le _)
  · show zWA _ _ _ _ _ _
    refine zx_iload_n dX5_addUp_2 rfl rfl ?_
    refine zx_iload_n dX5_addUp_3 rfl rfl ?_
    refine zx_icmp_ge (tgt := 42) dX5_addUp_4 (by decide) (fun _ => ?_) (fun h_ => absurd h_ (by simp))
    exact zWA_to hx ⟨rfl, rfl, rfl, trivial⟩
  · intro k hk hn_
    show zWA _ _ _ _ _ _
    refine zx_iload_n dX5_addUp_2 rfl rfl ?_
    refine zx_iload_n dX5_addUp_3 rfl rfl ?_
    refine zx_icmp_ge (tgt := 42) dX5_addUp_4 (by decide) (fun h_ => absurd h_ (nI_ge hk (by omega))) (fun _ => ?_)
    refine zx_aload_n dX5_addUp_7 rfl rfl ?_
    refine zx_getR zf_X5_23 (by assumption) (hTk _).2.2.2.1 rfl dX5_addUp_8 ?_
    refine zx_iload_n dX5_addUp_11 rfl rfl ?_
    refine zx_dconst0 dX5_addUp_12 ?_
    refine zx_dast k hO17 rfl ⟨by rw [hl17]; have := hk; omega, by rw [hl17]; decide⟩ dX5_addUp_13 ?_
    refine zx_iconst 0 dX5_addUp_14 (by decide) ?_
    refine zx_istore_n dX5_addUp_15 rfl (Nat.le_of_ble_eq_true rfl) ?_
    refine zWA_to (L_X5_addUp1 (μ := zsD (zit (u_zr n) k μ) 17 k 0) (n := n) (r := k) hG (hTk k) hn hk ?_) ⟨rfl, rfl, rfl, rfl, trivial⟩
    refine zx_iinc (nI (k + 1)) dX5_addUp_36 rfl (by rw [show Int32.ofInt 1 = nI 1 from rfl, nI_add] <;> rfl) (Nat.le_of_ble_eq_true rfl) ?_
    refine zx_goto (tgt := 2) dX5_addUp_39 (by decide) ?_
    exact zWA_to (zWA_mem hn_ (by rfl)) ⟨rfl, rfl, rfl, trivial⟩

set_option maxHeartbeats 4000000 in
set_option maxRecDepth 100000 in
theorem L_X5_addUp3 {g : ZG} {μ : ZMem} {N F : Nat} (hG : zGC g N F) (hT : zTC μ) {n : Nat} (hn : n ≤ 5) {r q : Nat} (hr : r < n) {res : Option ZV} {μ' : ZMem} (hx : zWA g (RX5, cX5_addUp, 5, none, zrm 2, res, μ') 153 (zls [(0, zr (some 8)), (1, zi (nI n)), (2, zi (nI q)), (3, zi (nI r)), (4, zi (nI (n)))]) [] (zit (u_ac r) (n) μ)) : zWA g (RX5, cX5_addUp, 5, none, zrm 2, res, μ') 108 (zls [(0, zr (some 8)), (1, zi (nI n)), (2, zi (nI q)), (3, zi (nI r)), (4, zi (nI (0)))]) [] μ := by
  have hO8 : zO g 5 8 := hG.fix 8 (by decide)
  have hO9 : zO g 8 9 := hG.fix 9 (by decide)
  have hO10 : zO g 8 10 := hG.fix 10 (by decide)
  have hO11 : zO g 17 11 := hG.fix 11 (by decide)
  have hO17 : zO g 8 17 := hG.fix 17 (by decide)
  have hO18 : zO g 11 18 := hG.fix 18 (by decide)
  have hO19 : zO g 8 19 := hG.fix 19 (by decide)
  have hO20 : zO g 8 20 := hG.fix 20 (by decide)
  have hl9 : zln g 9 = 40 := hG.l 40 (Or.inl (by decide)) rfl
  have hl10 : zln g 10 = 40 := hG.l 40 (Or.inl (by decide)) rfl
  have hl11 : zln g 11 = 5 := hG.l 5 (Or.inl (by decide)) rfl
  have hl17 : zln g 17 = 5 := hG.l 5 (Or.inl (by decide)) rfl
  have hl18 : zln g 18 = 5 := hG.l 5 (Or.inl (by decide)) rfl
  have hl19 : zln g 19 = 5 := hG.l 5 (Or.inl (by decide)) rfl
  have hl20 : zln g 20 = 5 := hG.l 5 (Or.inl (by decide)) rfl
  have hTk : ∀ k, zTC (zit (u_ac r) k μ) := fun k => zTC_R (zR_ac _ _ _) hT
  refine zloop (P := fun k => zWA g (RX5, cX5_addUp, 5, none, zrm 2, res, μ') 108 (zls [(0, zr (some 8)), (1, zi (nI n)), (2, zi (nI q)), (3, zi (nI r)), (4, zi (nI (k)))]) [] (zit (u_ac r) (k) μ)) (N := n) ?_ ?_ 0 (Nat.zero_le _)
  · show zWA _ _ _ _ _ _
    refine zx_iload dX5_addUp_108 rfl ?_
    refine zx_iload_n dX5_addUp_110 rfl rfl ?_
    refine zx_icmp_ge (tgt := 153) dX5_addUp_111 (by decide) (fun _ => ?_) (fun h_ => absurd h_ (by simp))
    exact zWA_to hx ⟨rfl, rfl, rfl, rfl, rfl, trivial⟩
  · intro k hk hn_
    show zWA _ _ _ _ _ _
    refine zx_iload dX5_addUp_108 rfl ?_
    refine zx_iload_n dX5_addUp_110 rfl rfl ?_
    refine zx_icmp_ge (tgt := 153) dX5_addUp_111 (by decide) (fun h_ => absurd h_ (nI_ge hk (by omega))) (fun _ => ?_)
    refine zx_aload_n dX5_addUp_114 rfl rfl ?_
    refine zx_getR zf_X5_20 (by assumption) (hTk _).2.2.1 rfl dX5_addUp_115 ?_
    refine zx_iload_n dX5_addUp_118 rfl rfl ?_
    refine zx_aald r (by assumption) (by decide) rfl ⟨by rw [hl11]; have := hr; omega, by rw [hl11]; decide⟩ ((hTk _).2.2.2.2.2.2.2 r (by have := hr; omega)) dX5_addUp_119 ?_
    refine zx_iload dX5_addUp_120 rfl ?_
    refine zx_aload_n dX5_addUp_122 rfl rfl ?_
    refine zx_getR zf_X5_20 (by assumption) (hTk _).2.2.1 rfl dX5_addUp_123 ?_
    refine zx_iload_n dX5_addUp_126 rfl rfl ?_
    refine zx_aald r (by assumption) (by decide) rfl ⟨by rw [hl11]; have := hr; omega, by rw [hl11]; decide⟩ ((hTk _).2.2.2.2.2.2.2 r (by have := hr; omega)) dX5_addUp_127 ?_
    refine zx_iload dX5_addUp_128 rfl ?_
    refine zx_dald k ((hG.row (k := r) (by have := hr; omega)).1) rfl ⟨by rw [(hG.row (k := r) (by have := hr; omega)).2]; have := hk; omega, by rw [(hG.row (k := r) (by have := hr; omega)).2]; decide⟩ dX5_addUp_130 ?_
    refine zx_aload_n dX5_addUp_131 rfl rfl ?_
    refine zx_getR zf_X5_30 (by assumption) (hTk _).2.2.2.2.2.1 rfl dX5_addUp_132 ?_
    refine zx_iload_n dX5_addUp_135 rfl rfl ?_
    refine zx_dald r hO19 rfl ⟨by rw [hl19]; have := hr; omega, by rw [hl19]; decide⟩ dX5_addUp_136 ?_
    refine zx_aload_n dX5_addUp_137 rfl rfl ?_
    refine zx_getR zf_X5_30 (by assumption) (hTk _).2.2.2.2.2.1 rfl dX5_addUp_138 ?_
    refine zx_iload dX5_addUp_141 rfl ?_
    refine zx_dald k hO19 rfl ⟨by rw [hl19]; have := hk; omega, by rw [hl19]; decide⟩ dX5_addUp_143 ?_
    refine zx_dmul dX5_addUp_144 ?_
    refine zx_dadd dX5_addUp_145 ?_
    refine zx_dast k ((hG.row (k := r) (by have := hr; omega)).1) rfl ⟨by rw [(hG.row (k := r) (by have := hr; omega)).2]; have := hk; omega, by rw [(hG.row (k := r) (by have := hr; omega)).2]; decide⟩ dX5_addUp_146 ?_
    refine zx_iinc (nI (k + 1)) dX5_addUp_147 rfl (by rw [show Int32.ofInt 1 = nI 1 from rfl, nI_add] <;> rfl) (Nat.le_of_ble_eq_true rfl) ?_
    refine zx_goto (tgt := 108) dX5_addUp_150 (by decide) ?_
    exact zWA_to (zWA_mem hn_ (by rfl)) ⟨rfl, rfl, rfl, rfl, rfl, trivial⟩

set_option maxHeartbeats 4000000 in
set_option maxRecDepth 100000 in
theorem L_X5_addUp4 {g : ZG} {μ : ZMem} {N F : Nat} (hG : zGC g N F) (hT : zTC μ) {n : Nat} (hn : n ≤ 5) {q : Nat} (hq : q < 40) {res : Option ZV} {μ' : ZMem} (hx : zWA g (RX5, cX5_addUp, 5, none, zrm 2, res, μ') 159 (zls [(0, zr (some 8)), (1, zi (nI n)), (2, zi (nI q)), (3, zi (nI (n)))]) [] (zit (u_ar n q) (n) μ)) : zWA g (RX5, cX5_addUp, 5, none, zrm 2, res, μ') 74 (zls [(0, zr (some 8)), (1, zi (nI n)), (2, zi (nI q)), (3, zi (nI (0)))]) [] μ := by
  have hO8 : zO g 5 8 := hG.fix 8 (by decide)
  have hO9 : zO g 8 9 := hG.fix 9 (by decide)
  have hO10 : zO g 8 10 := hG.fix 10 (by decide)
  have hO11 : zO g 17 11 := hG.fix 11 (by decide)
  have hO17 : zO g 8 17 := hG.fix 17 (by decide)
  have hO18 : zO g 11 18 := hG.fix 18 (by decide)
  have hO19 : zO g 8 19 := hG.fix 19 (by decide)
  have hO20 : zO g 8 20 := hG.fix 20 (by decide)
  have hl9 : zln g 9 = 40 := hG.l 40 (Or.inl (by decide)) rfl
  have hl10 : zln g 10 = 40 := hG.l 40 (Or.inl (by decide)) rfl
  have hl11 : zln g 11 = 5 := hG.l 5 (Or.inl (by decide)) rfl
  have hl17 : zln g 17 = 5 := hG.l 5 (Or.inl (by decide)) rfl
  have hl18 : zln g 18 = 5 := hG.l 5 (Or.inl (by decide)) rfl
  have hl19 : zln g 19 = 5 := hG.l 5 (Or.inl (by decide)) rfl
  have hl20 : zln g 20 = 5 := hG.l 5 (Or.inl (by decide)) rfl
  have hTk : ∀ k, zTC (zit (u_ar n q) k μ) := fun k => zTC_R (zR_ar _ _ _ _) hT
  refine zloop (P := fun k => zWA g (RX5, cX5_addUp, 5, none, zrm 2, res, μ') 74 (zls [(0, zr (some 8)), (1, zi (nI n)), (2, zi (nI q)), (3, zi (nI (k)))]) [] (zit (u_ar n q) (k) μ)) (N := n) ?_ ?_ 0 (Nat.zero_le _)
  · show zWA _ _ _ _ _ _
    refine zx_iload_n dX5_addUp_74 rfl rfl ?_
    refine zx_iload_n dX5_addUp_75 rfl rfl ?_
    refine zx_icmp_ge (tgt := 159) dX5_addUp_76 (by decide) (fun _ => ?_) (fun h_ => absurd h_ (by simp))
    exact zWA_to hx ⟨rfl, rfl, rfl, rfl, trivial⟩
  · intro k hk hn_
    show zWA _ _ _ _ _ _
    refine zx_iload_n dX5_addUp_74 rfl rfl ?_
    refine zx_iload_n dX5_addUp_75 rfl rfl ?_
    refine zx_icmp_ge (tgt := 159) dX5_addUp_76 (by decide) (fun h_ => absurd h_ (nI_ge hk (by omega))) (fun _ => ?_)
    refine zx_aload_n dX5_addUp_79 rfl rfl ?_
    refine zx_getR zf_X5_23 (by assumption) (hTk _).2.2.2.1 rfl dX5_addUp_80 ?_
    refine zx_iload_n dX5_addUp_83 rfl rfl ?_
    refine zx_aload_n dX5_addUp_84 rfl rfl ?_
    refine zx_getR zf_X5_23 (by assumption) (hTk _).2.2.2.1 rfl dX5_addUp_85 ?_
    refine zx_iload_n dX5_addUp_88 rfl rfl ?_
    refine zx_dald k hO17 rfl ⟨by rw [hl17]; have := hk; omega, by rw [hl17]; decide⟩ dX5_addUp_89 ?_
    refine zx_aload_n dX5_addUp_90 rfl rfl ?_
    refine zx_getR zf_X5_30 (by assumption) (hTk _).2.2.2.2.2.1 rfl dX5_addUp_91 ?_
    refine zx_iload_n dX5_addUp_94 rfl rfl ?_
    refine zx_dald k hO19 rfl ⟨by rw [hl19]; have := hk; omega, by rw [hl19]; decide⟩ dX5_addUp_95 ?_
    refine zx_aload_n dX5_addUp_96 rfl rfl ?_
    refine zx_getR zf_X5_15 (by assumption) (hTk _).2.1 rfl dX5_addUp_97 ?_
    refine zx_iload_n dX5_addUp_100 rfl rfl ?_
    refine zx_dald q hO10 rfl ⟨by rw [hl10]; have := hq; omega, by rw [hl10]; decide⟩ dX5_addUp_101 ?_
    refine zx_dmul dX5_addUp_102 ?_
    refine zx_dadd dX5_addUp_103 ?_
    refine zx_dast k hO17 rfl ⟨by rw [hl17]; have := hk; omega, by rw [hl17]; decide⟩ dX5_addUp_104 ?_
    refine zx_iconst 0 dX5_addUp_105 (by decide) ?_
    refine zx_istore dX5_addUp_106 (Nat.le_of_ble_eq_true rfl) ?_
    refine zWA_to (L_X5_addUp3 (μ := zsD (zit (u_ar n q) k μ) 17 k (zadd (zD (zit (u_ar n q) k μ) 17 k) (zmul (zD (zit (u_ar n q) k μ) 19 k) (zD (zit (u_ar n q) k μ) 10 q)))) (n := n) (r := k) (q := q) hG (hTk k) hn hk ?_) ⟨rfl, rfl, rfl, rfl, rfl, trivial⟩
    refine zx_iinc (nI (k + 1)) dX5_addUp_153 rfl (by rw [show Int32.ofInt 1 = nI 1 from rfl, nI_add] <;> rfl) (Nat.le_of_ble_eq_true rfl) ?_
    refine zx_goto (tgt := 74) dX5_addUp_156 (by decide) ?_
    exact zWA_to (zWA_mem hn_ (by rfl)) ⟨rfl, rfl, rfl, rfl, trivial⟩

set_option maxHeartbeats 4000000 in
set_option maxRecDepth 100000 in
theorem L_X5_addUp5 {g : ZG} {μ : ZMem} {N F : Nat} (hG : zGC g N F) (hT : zTC μ) {Q T : Nat} (hQ : Q ≤ 2) (hTt : T ≤ 40) (hI : zI μ 8 7 = nI T) {res : Option ZV} {μ' : ZMem} (hx : zWA g (RX5, cX5_addUp, 5, none, zrm 2, res, μ') 165 (zls [(0, zr (some 8)), (1, zi (nI (2 * Q + 1))), (2, zi (nI (T)))]) [] (zit (u_ag Q (2 * Q + 1)) (T) μ)) : zWA g (RX5, cX5_addUp, 5, none, zrm 2, res, μ') 44 (zls [(0, zr (some 8)), (1, zi (nI (2 * Q + 1))), (2, zi (nI (0)))]) [] μ := by
  have hO8 : zO g 5 8 := hG.fix 8 (by decide)
  have hO9 : zO g 8 9 := hG.fix 9 (by decide)
  have hO10 : zO g 8 10 := hG.fix 10 (by decide)
  have hO11 : zO g 17 11 := hG.fix 11 (by decide)
  have hO17 : zO g 8 17 := hG.fix 17 (by decide)
  have hO18 : zO g 11 18 := hG.fix 18 (by decide)
  have hO19 : zO g 8 19 := hG.fix 19 (by decide)
  have hO20 : zO g 8 20 := hG.fix 20 (by decide)
  have hl9 : zln g 9 = 40 := hG.l 40 (Or.inl (by decide)) rfl
  have hl10 : zln g 10 = 40 := hG.l 40 (Or.inl (by decide)) rfl
  have hl11 : zln g 11 = 5 := hG.l 5 (Or.inl (by decide)) rfl
  have hl17 : zln g 17 = 5 := hG.l 5 (Or.inl (by decide)) rfl
  have hl18 : zln g 18 = 5 := hG.l 5 (Or.inl (by decide)) rfl
  have hl19 : zln g 19 = 5 := hG.l 5 (Or.inl (by decide)) rfl
  have hl20 : zln g 20 = 5 := hG.l 5 (Or.inl (by decide)) rfl
  have hTk : ∀ k, zTC (zit (u_ag Q (2 * Q + 1)) k μ) := fun k => zTC_R (zR_ag _ _ _ _) hT
  have hIk : ∀ k, zI (zit (u_ag Q (2 * Q + 1)) k μ) 8 7 = nI T := fun k => by rw [zI_ag]; exact hI
  refine zloop (P := fun k => zWA g (RX5, cX5_addUp, 5, none, zrm 2, res, μ') 44 (zls [(0, zr (some 8)), (1, zi (nI (2 * Q + 1))), (2, zi (nI (k)))]) [] (zit (u_ag Q (2 * Q + 1)) (k) μ)) (N := T) ?_ ?_ 0 (Nat.zero_le _)
  · show zWA _ _ _ _ _ _
    refine zx_iload_n dX5_addUp_44 rfl rfl ?_
    refine zx_aload_n dX5_addUp_45 rfl rfl ?_
    refine zx_getI zf_X5_36 (by assumption) (Or.inl rfl) dX5_addUp_46 ?_
    rw [hIk]
    refine zx_icmp_ge (tgt := 165) dX5_addUp_49 (by decide) (fun _ => ?_) (fun h_ => absurd h_ (by simp))
    exact zWA_to hx ⟨rfl, rfl, rfl, trivial⟩
  · intro k hk hn_
    show zWA _ _ _ _ _ _
    refine zx_iload_n dX5_addUp_44 rfl rfl ?_
    refine zx_aload_n dX5_addUp_45 rfl rfl ?_
    refine zx_getI zf_X5_36 (by assumption) (Or.inl rfl) dX5_addUp_46 ?_
    rw [hIk]
    refine zx_icmp_ge (tgt := 165) dX5_addUp_49 (by decide) (fun h_ => absurd h_ (nI_ge hk (by omega))) (fun _ => ?_)
    refine zx_iload_n dX5_addUp_52 rfl rfl ?_
    refine zx_aload_n dX5_addUp_53 rfl rfl ?_
    refine zx_getR zf_X5_9 (by assumption) (hTk _).1 rfl dX5_addUp_54 ?_
    refine zx_alen (nI 40) (by assumption) (by decide) (by rw [hl9]) dX5_addUp_57 ?_
    refine zx_icmp_ge (tgt := 165) dX5_addUp_58 (by decide) (fun h_ => absurd h_ (nI_ge (show k < 40 by omega) (by decide))) (fun _ => ?_)
    refine zx_aload_n dX5_addUp_61 rfl rfl ?_
    refine zx_aload_n dX5_addUp_62 rfl rfl ?_
    refine zx_getR zf_X5_9 (by assumption) (hTk _).1 rfl dX5_addUp_63 ?_
    refine zx_iload_n dX5_addUp_66 rfl rfl ?_
    refine zx_dald k hO9 rfl ⟨by rw [hl9]; have := hk; omega, by rw [hl9]; decide⟩ dX5_addUp_67 ?_
    refine zx_iload_n dX5_addUp_68 rfl rfl ?_
    refine zx_callV0 _ zv_X5_60 (m_X5_fillSaws (Q := Q) hG (hTk k) hQ) (by assumption) (by decide) rfl rfl rfl ⟨rfl, rfl, (Nat.le_of_ble_eq_true rfl), (Nat.le_of_ble_eq_true rfl)⟩ (Nat.le_of_ble_eq_true rfl) dX5_addUp_69 ?_
    refine zx_iconst 0 dX5_addUp_72 (by decide) ?_
    refine zx_istore_n dX5_addUp_73 rfl (Nat.le_of_ble_eq_true rfl) ?_
    refine zWA_to (L_X5_addUp4 (μ := u_saws (zit (u_ag Q (2 * Q + 1)) k μ) (zD (zit (u_ag Q (2 * Q + 1)) k μ) 9 k) Q) (n := 2 * Q + 1) (q := k) hG (zTC_R (zR_saws _ _ _) (hTk k)) (by omega) (by omega) ?_) ⟨rfl, rfl, rfl, rfl, trivial⟩
    refine zx_iinc (nI (k + 1)) dX5_addUp_159 rfl (by rw [show Int32.ofInt 1 = nI 1 from rfl, nI_add] <;> rfl) (Nat.le_of_ble_eq_true rfl) ?_
    refine zx_goto (tgt := 44) dX5_addUp_162 (by decide) ?_
    exact zWA_to (zWA_mem hn_ (by rfl)) ⟨rfl, rfl, rfl, trivial⟩

set_option maxHeartbeats 4000000 in
set_option maxRecDepth 100000 in
theorem m_X5_addUp {g : ZG} {μ : ZMem} {N F : Nat} (hG : zGC g N F) (hT : zTC μ) {Q T : Nat} (hQ : Q ≤ 2) (hTt : T ≤ 40) (hI : zI μ 8 7 = nI T) : zCab g RX5 yX5_addUp cX5_addUp 5 (none) (zrm 2) [zr (some 8), zi (nI (2 * Q + 1))] μ none (u_addUp μ Q (2 * Q + 1) T) := by
  refine zCab_w (by decide +kernel) rfl (Nat.le_of_ble_eq_true rfl) ?_
  refine zx_iconst 0 dX5_addUp_0 (by decide) ?_
  refine zx_istore_n dX5_addUp_1 rfl (Nat.le_of_ble_eq_true rfl) ?_
  refine zWA_to (L_X5_addUp2 (n := 2 * Q + 1) hG hT (by omega) ?_) ⟨rfl, rfl, rfl, trivial⟩
  refine zx_iconst 0 dX5_addUp_42 (by decide) ?_
  refine zx_istore_n dX5_addUp_43 rfl (Nat.le_of_ble_eq_true rfl) ?_
  exact zWA_to (L_X5_addUp5 (μ := zit (u_zr (2 * Q + 1)) (2 * Q + 1) μ) (Q := Q) (T := T) hG (zTC_R (zR_zr _ _ _) hT) hQ hTt (by rw [zI_zr]; exact hI) (zx_return rfl rfl rfl dX5_addUp_165)) ⟨rfl, rfl, rfl, trivial⟩

abbrev k1e9 : UInt64 := 4472406533629990549
def u_cl1 (c : Nat) (p : UInt64) (n m : Nat) (μ : ZMem) : ZMem := u_subRow μ (c + 1 + m) c (zdiv (zD μ (12 + (c + 1 + m)) c) p) n
def u_piv (c : Nat) (μ : ZMem) : ZMem := zsI μ 18 c (if zgt (s_sizeOf (zD μ (12 + c) c)) k1e9 = true then 1 else 0)
def u_clr (n c : Nat) (s : Int32 × ZMem) : Int32 × ZMem := if zI (u_piv c s.2) 18 c = 0 then (s.1, u_piv c s.2) else (s.1 + 1, zit (u_cl1 c (zD s.2 (12 + c) c) n) (n - (c + 1)) (u_piv c s.2))
def u_clear (μ : ZMem) (n : Nat) : Int32 × ZMem := zit (u_clr n) n (0, μ)
theorem zR_cl1 (c : Nat) (p : UInt64) (n k : Nat) (μ : ZMem) : zR (zit (u_cl1 c p n) k μ) = zR μ := zit_keep (f := u_cl1 c p n) zR (fun _ _ => zR_subRow _ _ _ _ _) k μ
theorem zR_clr (n k : Nat) (s : Int32 × ZMem) : zR (zit (u_clr n) k s).2 = zR s.2 := zit_keep (f := u_clr n) (fun s => zR s.2) (fun c s => by
  unfold u_clr
  split
  · rfl
  · exact zR_cl1 _ _ _ _ _) k s
set_option maxHeartbeats 4000000 in
set_option maxRecDepth 100000 in
theorem L_X5_clear1 {g : ZG} {μ : ZMem} {N F : Nat} (hG : zGC g N F) (hT : zTC μ) {n c : Nat} (hn : n ≤ 5) (hc : c < n) {p : UInt64} {fnd : Int32} {res : Option ZV} {μ' : ZMem} (hx : zWA g (RX5, cX5_clearBelow, 7, ((some FieldType.int)), zrm 2, res, μ') 91 (zls [(0, zr (some 8)), (1, zi (nI n)), (2, zi fnd), (3, zi (nI c)), (4, zd p), (6, zi (nI (c + 1 + ((n - (c + 1))))))]) [] (zit (u_cl1 c p n) ((n - (c + 1))) μ)) : zWA g (RX5, cX5_clearBelow, 7, ((some FieldType.int)), zrm 2, res, μ') 59 (zls [(0, zr (some 8)), (1, zi (nI n)), (2, zi fnd), (3, zi (nI c)), (4, zd p), (6, zi (nI (c + 1 + (0))))]) [] μ := by
  have hO8 : zO g 5 8 := hG.fix 8 (by decide)
  have hO9 : zO g 8 9 := hG.fix 9 (by decide)
  have hO10 : zO g 8 10 := hG.fix 10 (by decide)
  have hO11 : zO g 17 11 := hG.fix 11 (by decide)
  have hO17 : zO g 8 17 := hG.fix 17 (by decide)
  have hO18 : zO g 11 18 := hG.fix 18 (by decide)
  have hO19 : zO g 8 19 := hG.fix 19 (by decide)
  have hO20 : zO g 8 20 := hG.fix 20 (by decide)
  have hl9 : zln g 9 = 40 := hG.l 40 (Or.inl (by decide)) rfl
  have hl10 : zln g 10 = 40 := hG.l 40 (Or.inl (by decide)) rfl
  have hl11 : zln g 11 = 5 := hG.l 5 (Or.inl (by decide)) rfl
  have hl17 : zln g 17 = 5 := hG.l 5 (Or.inl (by decide)) rfl
  have hl18 : zln g 18 = 5 := hG.l 5 (Or.inl (by decide)) rfl
  have hl19 : zln g 19 = 5 := hG.l 5 (Or.inl (by decide)) rfl
  have hl20 : zln g 20 = 5 := hG.l 5 (Or.inl (by decide)) rfl
  have hTk : ∀ k, zTC (zit (u_cl1 c p n) k μ) := fun k => zTC_R (zR_cl1 _ _ _ _ _) hT
  refine zloop (P := fun k => zWA g (RX5, cX5_clearBelow, 7, ((some FieldType.int)), zrm 2, res, μ') 59 (zls [(0, zr (some 8)), (1, zi (nI n)), (2, zi fnd), (3, zi (nI c)), (4, zd p), (6, zi (nI (c + 1 + (k))))]) [] (zit (u_cl1 c p n) (k) μ)) (N := (n - (c + 1))) ?_ ?_ 0 (Nat.zero_le _)
  · show zWA _ _ _ _ _ _
    refine zx_iload dX5_clearBelow_59 rfl ?_
    refine zx_iload_n dX5_clearBelow_61 rfl rfl ?_
    refine zx_icmp_ge (tgt := 91) dX5_clearBelow_62 (by decide) (fun _ => ?_) (fun h_ => absurd h_ (by rw [show c + 1 + (n - (c + 1)) = n by omega]; simp))
    exact zWA_to hx ⟨rfl, rfl, rfl, rfl, rfl, rfl, trivial⟩
  · intro k hk hn_
    show zWA _ _ _ _ _ _
    refine zx_iload dX5_clearBelow_59 rfl ?_
    refine zx_iload_n dX5_clearBelow_61 rfl rfl ?_
    refine zx_icmp_ge (tgt := 91) dX5_clearBelow_62 (by decide) (fun h_ => absurd h_ (nI_ge (show c + 1 + k < n by omega) (by omega))) (fun _ => ?_)
    refine zx_aload_n dX5_clearBelow_65 rfl rfl ?_
    refine zx_iload dX5_clearBelow_66 rfl ?_
    refine zx_iload_n dX5_clearBelow_68 rfl rfl ?_
    refine zx_aload_n dX5_clearBelow_69 rfl rfl ?_
    refine zx_getR zf_X5_20 (by assumption) (hTk _).2.2.1 rfl dX5_clearBelow_70 ?_
    refine zx_iload dX5_clearBelow_73 rfl ?_
    refine zx_aald (c + 1 + k) (by assumption) (by decide) rfl ⟨by rw [hl11]; have := hk; omega, by rw [hl11]; decide⟩ ((hTk _).2.2.2.2.2.2.2 (c + 1 + k) (by have := hk; omega)) dX5_clearBelow_75 ?_
    refine zx_iload_n dX5_clearBelow_76 rfl rfl ?_
    refine zx_dald c ((hG.row (k := (c + 1 + k)) (by have := hk; omega)).1) rfl ⟨by rw [(hG.row (k := (c + 1 + k)) (by have := hk; omega)).2]; have := hc; omega, by rw [(hG.row (k := (c + 1 + k)) (by have := hk; omega)).2]; decide⟩ dX5_clearBelow_77 ?_
    refine zx_dload dX5_clearBelow_78 rfl ?_
    refine zx_ddiv dX5_clearBelow_80 ?_
    refine zx_iload_n dX5_clearBelow_81 rfl rfl ?_
    refine zx_callV0 _ zv_X5_70 (m_X5_subtractRow (r := c + 1 + k) (c := c) (n := n) hG (hTk k) hn (by omega) hc) (by assumption) (by decide) rfl rfl rfl ⟨rfl, rfl, (Nat.le_of_ble_eq_true rfl), (Nat.le_of_ble_eq_true rfl)⟩ (Nat.le_of_ble_eq_true rfl) dX5_clearBelow_82 ?_
    refine zx_iinc (nI (c + 1 + (k + 1))) dX5_clearBelow_85 rfl (by rw [show Int32.ofInt 1 = nI 1 from rfl, nI_add] <;> rfl) (Nat.le_of_ble_eq_true rfl) ?_
    refine zx_goto (tgt := 59) dX5_clearBelow_88 (by decide) ?_
    exact zWA_to (zWA_mem hn_ (by rfl)) ⟨rfl, rfl, rfl, rfl, rfl, rfl, trivial⟩

set_option maxHeartbeats 4000000 in
set_option maxRecDepth 100000 in
theorem L_X5_clear2 {g : ZG} {μ : ZMem} {N F : Nat} (hG : zGC g N F) (hT : zTC μ) {n : Nat} (hn : n ≤ 5) {fnd0 : Int32} {res : Option ZV} {μ' : ZMem} (hx : zWA g (RX5, cX5_clearBelow, 7, ((some FieldType.int)), zrm 2, res, μ') 97 (zls [(0, zr (some 8)), (1, zi (nI n)), (2, zi (zit (u_clr n) (n) (fnd0, μ)).1), (3, zi (nI (n)))]) [] (zit (u_clr n) (n) (fnd0, μ)).2) : zWA g (RX5, cX5_clearBelow, 7, ((some FieldType.int)), zrm 2, res, μ') 4 (zls [(0, zr (some 8)), (1, zi (nI n)), (2, zi (zit (u_clr n) (0) (fnd0, μ)).1), (3, zi (nI (0)))]) [] μ := by
  have hO8 : zO g 5 8 := hG.fix 8 (by decide)
  have hO9 : zO g 8 9 := hG.fix 9 (by decide)
  have hO10 : zO g 8 10 := hG.fix 10 (by decide)
  have hO11 : zO g 17 11 := hG.fix 11 (by decide)
  have hO17 : zO g 8 17 := hG.fix 17 (by decide)
  have hO18 : zO g 11 18 := hG.fix 18 (by decide)
  have hO19 : zO g 8 19 := hG.fix 19 (by decide)
  have hO20 : zO g 8 20 := hG.fix 20 (by decide)
  have hl9 : zln g 9 = 40 := hG.l 40 (Or.inl (by decide)) rfl
  have hl10 : zln g 10 = 40 := hG.l 40 (Or.inl (by decide)) rfl
  have hl11 : zln g 11 = 5 := hG.l 5 (Or.inl (by decide)) rfl
  have hl17 : zln g 17 = 5 := hG.l 5 (Or.inl (by decide)) rfl
  have hl18 : zln g 18 = 5 := hG.l 5 (Or.inl (by decide)) rfl
  have hl19 : zln g 19 = 5 := hG.l 5 (Or.inl (by decide)) rfl
  have hl20 : zln g 20 = 5 := hG.l 5 (Or.inl (by decide)) rfl
  have hTk : ∀ k, zTC (zit (u_clr n) k (fnd0, μ)).2 := fun k => zTC_R (zR_clr _ _ _) hT
  refine zloop (P := fun k => zWA g (RX5, cX5_clearBelow, 7, ((some FieldType.int)), zrm 2, res, μ') 4 (zls [(0, zr (some 8)), (1, zi (nI n)), (2, zi (zit (u_clr n) (k) (fnd0, μ)).1), (3, zi (nI (k)))]) [] (zit (u_clr n) (k) (fnd0, μ)).2) (N := n) ?_ ?_ 0 (Nat.zero_le _)
  · show zWA _ _ _ _ _ _
    refine zx_iload_n dX5_clearBelow_4 rfl rfl ?_
    refine zx_iload_n dX5_clearBelow_5 rfl rfl ?_
    refine zx_icmp_ge (tgt := 97) dX5_clearBelow_6 (by decide) (fun _ => ?_) (fun h_ => absurd h_ (by simp))
    exact zWA_to hx ⟨rfl, rfl, rfl, rfl, trivial⟩
  · intro k hk hn_
    show zWA _ _ _ _ _ _
    refine zx_iload_n dX5_clearBelow_4 rfl rfl ?_
    refine zx_iload_n dX5_clearBelow_5 rfl rfl ?_
    refine zx_icmp_ge (tgt := 97) dX5_clearBelow_6 (by decide) (fun h_ => absurd h_ (nI_ge hk (by omega))) (fun _ => ?_)
    refine zx_aload_n dX5_clearBelow_9 rfl rfl ?_
    refine zx_getR zf_X5_20 (by assumption) (hTk _).2.2.1 rfl dX5_clearBelow_10 ?_
    refine zx_iload_n dX5_clearBelow_13 rfl rfl ?_
    refine zx_aald k (by assumption) (by decide) rfl ⟨by rw [hl11]; have := hk; omega, by rw [hl11]; decide⟩ ((hTk _).2.2.2.2.2.2.2 k (by have := hk; omega)) dX5_clearBelow_14 ?_
    refine zx_iload_n dX5_clearBelow_15 rfl rfl ?_
    refine zx_dald k ((hG.row (k := k) (by have := hk; omega)).1) rfl ⟨by rw [(hG.row (k := k) (by have := hk; omega)).2]; have := hk; omega, by rw [(hG.row (k := k) (by have := hk; omega)).2]; decide⟩ dX5_clearBelow_16 ?_
    refine zx_dstore dX5_clearBelow_17 (Nat.le_of_ble_eq_true rfl) ?_
    refine zx_aload_n dX5_clearBelow_19 rfl rfl ?_
    refine zx_getR zf_X5_26 (by assumption) (hTk _).2.2.2.2.1 rfl dX5_clearBelow_20 ?_
    refine zx_iload_n dX5_clearBelow_23 rfl rfl ?_
    refine zx_dload dX5_clearBelow_24 rfl ?_
    refine zx_callN1 _ zn_X5_64 m_X6_sizeOf rfl rfl ⟨rfl, rfl, (Nat.le_of_ble_eq_true rfl), (Nat.le_of_ble_eq_true rfl)⟩ (Nat.le_of_ble_eq_true rfl) dX5_clearBelow_26 ?_
    refine zx_ldc2d 4472406533629990549 zk_X5_68 (by decide +kernel) dX5_clearBelow_29 ?_
    refine zx_dl_le (tgt := 40) dX5_clearBelow_32 dX5_clearBelow_33 (by decide) (fun c_32 => ?_) (fun c_32 => ?_)
    · skip
      refine zx_iconst 0 dX5_clearBelow_40 (by decide) ?_
      refine zx_zast k (by decide +kernel) hO18 rfl ⟨by rw [hl18]; have := hk; omega, by rw [hl18]; decide⟩ dX5_clearBelow_41 ?_
      have ep : u_piv k (zit (u_clr n) k (fnd0, μ)).2 = zsI (zit (u_clr n) k (fnd0, μ)).2 18 k 0 := by
        unfold u_piv
        rw [if_neg (fun q => absurd (q.symm.trans c_32) (by decide))]
      rw [← ep]
      refine zx_aload_n dX5_clearBelow_42 rfl rfl ?_
      refine zx_getR zf_X5_26 (by assumption) (hTk _).2.2.2.2.1 rfl dX5_clearBelow_43 ?_
      refine zx_iload_n dX5_clearBelow_46 rfl rfl ?_
      refine zx_zald k hO18 rfl ⟨by rw [hl18]; have := hk; omega, by rw [hl18]; decide⟩ dX5_clearBelow_47 ?_
      refine zx_if_eq (tgt := 91) dX5_clearBelow_48 (by decide) (fun c_48 => ?_) (fun c_48 => ?_)
      · skip
        refine zx_iinc (nI (k + 1)) dX5_clearBelow_91 rfl (by rw [show Int32.ofInt 1 = nI 1 from rfl, nI_add] <;> rfl) (Nat.le_of_ble_eq_true rfl) ?_
        refine zx_goto (tgt := 4) dX5_clearBelow_94 (by decide) ?_
        exact (by (have e : u_clr n k (zit (u_clr n) k (fnd0, μ)) = ((zit (u_clr n) k (fnd0, μ)).1, u_piv k (zit (u_clr n) k (fnd0, μ)).2) := if_pos c_48); exact zWA_to (zWA_mem hn_ (by show (u_clr n k (zit (u_clr n) k (fnd0, μ))).2 = _; rw [e])) ⟨rfl, rfl, by show some (zi _) = some (zi (u_clr n k (zit (u_clr n) k (fnd0, μ))).1); rw [e], rfl, trivial⟩)
      · skip
        refine zx_iinc ((zit (u_clr n) k (fnd0, μ)).1 + 1) dX5_clearBelow_51 rfl (show _ = (zit (u_clr n) k (fnd0, μ)).1 + 1 from rfl) (Nat.le_of_ble_eq_true rfl) ?_
        refine zx_iload_n dX5_clearBelow_54 rfl rfl ?_
        refine zx_iconst 1 dX5_clearBelow_55 (by decide) ?_
        refine zx_iadd dX5_clearBelow_56 ?_
        refine zx_istore dX5_clearBelow_57 (Nat.le_of_ble_eq_true rfl) ?_
        refine zWA_to (L_X5_clear1 (μ := u_piv k (zit (u_clr n) k (fnd0, μ)).2) (n := n) (c := k) (p := zD (zit (u_clr n) k (fnd0, μ)).2 (12 + k) k) (fnd := (zit (u_clr n) k (fnd0, μ)).1 + 1) hG (hTk k) hn hk ?_) ⟨rfl, rfl, rfl, rfl, rfl, by show some (zi _) = some (zi _); rw [show (1 : Int32) = nI 1 from rfl, nI_add] <;> rfl, trivial⟩
        refine zx_iinc (nI (k + 1)) dX5_clearBelow_91 rfl (by rw [show Int32.ofInt 1 = nI 1 from rfl, nI_add] <;> rfl) (Nat.le_of_ble_eq_true rfl) ?_
        refine zx_goto (tgt := 4) dX5_clearBelow_94 (by decide) ?_
        exact (by (have e : u_clr n k (zit (u_clr n) k (fnd0, μ)) = ((zit (u_clr n) k (fnd0, μ)).1 + 1, zit (u_cl1 k (zD (zit (u_clr n) k (fnd0, μ)).2 (12 + k) k) n) (n - (k + 1)) (u_piv k (zit (u_clr n) k (fnd0, μ)).2)) := if_neg c_48); exact zWA_to (zWA_mem hn_ (by show (u_clr n k (zit (u_clr n) k (fnd0, μ))).2 = _; rw [e])) ⟨rfl, rfl, by show some (zi _) = some (zi (u_clr n k (zit (u_clr n) k (fnd0, μ))).1); rw [e], rfl, trivial⟩)
    · skip
      refine zx_iconst 1 dX5_clearBelow_36 (by decide) ?_
      refine zx_goto (tgt := 41) dX5_clearBelow_37 (by decide) ?_
      refine zx_zast k (by decide +kernel) hO18 rfl ⟨by rw [hl18]; have := hk; omega, by rw [hl18]; decide⟩ dX5_clearBelow_41 ?_
      have ep : u_piv k (zit (u_clr n) k (fnd0, μ)).2 = zsI (zit (u_clr n) k (fnd0, μ)).2 18 k 1 := by
        unfold u_piv
        rw [if_pos c_32]
      rw [← ep]
      refine zx_aload_n dX5_clearBelow_42 rfl rfl ?_
      refine zx_getR zf_X5_26 (by assumption) (hTk _).2.2.2.2.1 rfl dX5_clearBelow_43 ?_
      refine zx_iload_n dX5_clearBelow_46 rfl rfl ?_
      refine zx_zald k hO18 rfl ⟨by rw [hl18]; have := hk; omega, by rw [hl18]; decide⟩ dX5_clearBelow_47 ?_
      refine zx_if_eq (tgt := 91) dX5_clearBelow_48 (by decide) (fun c_48 => ?_) (fun c_48 => ?_)
      · skip
        refine zx_iinc (nI (k + 1)) dX5_clearBelow_91 rfl (by rw [show Int32.ofInt 1 = nI 1 from rfl, nI_add] <;> rfl) (Nat.le_of_ble_eq_true rfl) ?_
        refine zx_goto (tgt := 4) dX5_clearBelow_94 (by decide) ?_
        exact (by (have e : u_clr n k (zit (u_clr n) k (fnd0, μ)) = ((zit (u_clr n) k (fnd0, μ)).1, u_piv k (zit (u_clr n) k (fnd0, μ)).2) := if_pos c_48); exact zWA_to (zWA_mem hn_ (by show (u_clr n k (zit (u_clr n) k (fnd0, μ))).2 = _; rw [e])) ⟨rfl, rfl, by show some (zi _) = some (zi (u_clr n k (zit (u_clr n) k (fnd0, μ))).1); rw [e], rfl, trivial⟩)
      · skip
        refine zx_iinc ((zit (u_clr n) k (fnd0, μ)).1 + 1) dX5_clearBelow_51 rfl (show _ = (zit (u_clr n) k (fnd0, μ)).1 + 1 from rfl) (Nat.le_of_ble_eq_true rfl) ?_
        refine zx_iload_n dX5_clearBelow_54 rfl rfl ?_
        refine zx_iconst 1 dX5_clearBelow_55 (by decide) ?_
        refine zx_iadd dX5_clearBelow_56 ?_
        refine zx_istore dX5_clearBelow_57 (Nat.le_of_ble_eq_true rfl) ?_
        refine zWA_to (L_X5_clear1 (μ := u_piv k (zit (u_clr n) k (fnd0, μ)).2) (n := n) (c := k) (p := zD (zit (u_clr n) k (fnd0, μ)).2 (12 + k) k) (fnd := (zit (u_clr n) k (fnd0, μ)).1 + 1) hG (hTk k) hn hk ?_) ⟨rfl, rfl, rfl, rfl, rfl, by show some (zi _) = some (zi _); rw [show (1 : Int32) = nI 1 from rfl, nI_add] <;> rfl, trivial⟩
        refine zx_iinc (nI (k + 1)) dX5_clearBelow_91 rfl (by rw [show Int32.ofInt 1 = nI 1 from rfl, nI_add] <;> rfl) (Nat.le_of_ble_eq_true rfl) ?_
        refine zx_goto (tgt := 4) dX5_clearBelow_94 (by decide) ?_
        exact (by (have e : u_clr n k (zit (u_clr n) k (fnd0, μ)) = ((zit (u_clr n) k (fnd0, μ)).1 + 1, zit (u_cl1 k (zD (zit (u_clr n) k (fnd0, μ)).2 (12 + k) k) n) (n - (k + 1)) (u_piv k (zit (u_clr n) k (fnd0, μ)).2)) := if_neg c_48); exact zWA_to (zWA_mem hn_ (by show (u_clr n k (zit (u_clr n) k (fnd0, μ))).2 = _; rw [e])) ⟨rfl, rfl, by show some (zi _) = some (zi (u_clr n k (zit (u_clr n) k (fnd0, μ))).1); rw [e], rfl, trivial⟩)

set_option maxHeartbeats 4000000 in
set_option maxRecDepth 100000 in
theorem m_X5_clearBelow {g : ZG} {μ : ZMem} {N F : Nat} (hG : zGC g N F) (hT : zTC μ) {n : Nat} (hn : n ≤ 5) : zCab g RX5 yX5_clearBelow cX5_clearBelow 7 ((some FieldType.int)) (zrm 2) [zr (some 8), zi (nI n)] μ (some (zi (u_clear μ n).1)) (u_clear μ n).2 := by
  refine zCab_w (by decide +kernel) rfl (Nat.le_of_ble_eq_true rfl) ?_
  refine zx_iconst 0 dX5_clearBelow_0 (by decide) ?_
  refine zx_istore_n dX5_clearBelow_1 rfl (Nat.le_of_ble_eq_true rfl) ?_
  refine zx_iconst 0 dX5_clearBelow_2 (by decide) ?_
  refine zx_istore_n dX5_clearBelow_3 rfl (Nat.le_of_ble_eq_true rfl) ?_
  refine zWA_to (L_X5_clear2 (μ := μ) (n := n) (fnd0 := 0) hG hT hn ?_) ⟨rfl, rfl, rfl, rfl, trivial⟩
  refine zx_iload_n dX5_clearBelow_97 rfl rfl ?_
  exact zx_ireturn rfl (by rfl) (by rfl) dX5_clearBelow_98

def s_rest1 (μ : ZMem) (c m : Nat) (r : UInt64) : UInt64 := zsub r (zmul (zD μ (12 + c) (c + 1 + m)) (zD μ 20 (c + 1 + m)))
def s_rest (μ : ZMem) (n c : Nat) : UInt64 := zit (s_rest1 μ c) (n - (c + 1)) (zD μ 17 c)
def u_up1 (n m : Nat) (μ : ZMem) : ZMem := zsD μ 20 (n - (m + 1)) (if zI μ 18 (n - (m + 1)) = 0 then 0 else zdiv (s_rest μ n (n - (m + 1))) (zD μ (12 + (n - (m + 1))) (n - (m + 1))))
def u_up (μ : ZMem) (n : Nat) : ZMem := zit (u_up1 n) n μ
theorem zR_up1 (n k : Nat) (μ : ZMem) : zR (zit (u_up1 n) k μ) = zR μ := zit_keep (f := u_up1 n) zR (fun _ _ => rfl) k μ
theorem zup_i {n : Nat} (hn : n ≤ 5) {m : Nat} (hm : m ≤ 5) : nI n - nI (m + 1) + Int32.ofInt (-1) = nI n - nI (m + 1 + 1) := by
  have h : ∀ n : Fin 6, ∀ m : Fin 6, nI n.val - nI (m.val + 1) + Int32.ofInt (-1) = nI n.val - nI (m.val + 1 + 1) := by decide +kernel
  exact h ⟨n, by omega⟩ ⟨m, by omega⟩
theorem zup_n {n : Nat} (hn : n ≤ 5) : nI n - nI (n + 1) < 0 := by
  have h : ∀ n : Fin 6, nI n.val - nI (n.val + 1) < 0 := by decide +kernel
  exact h ⟨n, by omega⟩
set_option maxHeartbeats 4000000 in
set_option maxRecDepth 100000 in
theorem L_X5_up1 {g : ZG} {μ : ZMem} {N F : Nat} (hG : zGC g N F) (hT : zTC μ) {n c : Nat} (hn : n ≤ 5) (hc : c < n) {res : Option ZV} {μ' : ZMem} (hx : zWA g (RX5, cX5_solveUpwards, 6, none, zrm 0, res, μ') 52 (zls [(0, zr (some 8)), (1, zi (nI n)), (2, zi (nI c)), (3, zd (zit (s_rest1 μ c) ((n - (c + 1))) (zD μ 17 c))), (5, zi (nI (c + 1 + ((n - (c + 1))))))]) [] μ) : zWA g (RX5, cX5_solveUpwards, 6, none, zrm 0, res, μ') 20 (zls [(0, zr (some 8)), (1, zi (nI n)), (2, zi (nI c)), (3, zd (zit (s_rest1 μ c) (0) (zD μ 17 c))), (5, zi (nI (c + 1 + (0))))]) [] μ := by
  have hO8 : zO g 5 8 := hG.fix 8 (by decide)
  have hO9 : zO g 8 9 := hG.fix 9 (by decide)
  have hO10 : zO g 8 10 := hG.fix 10 (by decide)
  have hO11 : zO g 17 11 := hG.fix 11 (by decide)
  have hO17 : zO g 8 17 := hG.fix 17 (by decide)
  have hO18 : zO g 11 18 := hG.fix 18 (by decide)
  have hO19 : zO g 8 19 := hG.fix 19 (by decide)
  have hO20 : zO g 8 20 := hG.fix 20 (by decide)
  have hl9 : zln g 9 = 40 := hG.l 40 (Or.inl (by decide)) rfl
  have hl10 : zln g 10 = 40 := hG.l 40 (Or.inl (by decide)) rfl
  have hl11 : zln g 11 = 5 := hG.l 5 (Or.inl (by decide)) rfl
  have hl17 : zln g 17 = 5 := hG.l 5 (Or.inl (by decide)) rfl
  have hl18 : zln g 18 = 5 := hG.l 5 (Or.inl (by decide)) rfl
  have hl19 : zln g 19 = 5 := hG.l 5 (Or.inl (by decide)) rfl
  have hl20 : zln g 20 = 5 := hG.l 5 (Or.inl (by decide)) rfl
  refine zloop (P := fun k => zWA g (RX5, cX5_solveUpwards, 6, none, zrm 0, res, μ') 20 (zls [(0, zr (some 8)), (1, zi (nI n)), (2, zi (nI c)), (3, zd (zit (s_rest1 μ c) (k) (zD μ 17 c))), (5, zi (nI (c + 1 + (k))))]) [] μ) (N := (n - (c + 1))) ?_ ?_ 0 (Nat.zero_le _)
  · show zWA _ _ _ _ _ _
    refine zx_iload dX5_solveUpwards_20 rfl ?_
    refine zx_iload_n dX5_solveUpwards_22 rfl rfl ?_
    refine zx_icmp_ge (tgt := 52) dX5_solveUpwards_23 (by decide) (fun _ => ?_) (fun h_ => absurd h_ (by rw [show c + 1 + (n - (c + 1)) = n by omega]; simp))
    exact zWA_to hx ⟨rfl, rfl, rfl, rfl, rfl, trivial⟩
  · intro k hk hn_
    show zWA _ _ _ _ _ _
    refine zx_iload dX5_solveUpwards_20 rfl ?_
    refine zx_iload_n dX5_solveUpwards_22 rfl rfl ?_
    refine zx_icmp_ge (tgt := 52) dX5_solveUpwards_23 (by decide) (fun h_ => absurd h_ (nI_ge (show c + 1 + k < n by omega) (by omega))) (fun _ => ?_)
    refine zx_dload_n dX5_solveUpwards_26 rfl rfl ?_
    refine zx_aload_n dX5_solveUpwards_27 rfl rfl ?_
    refine zx_getR zf_X5_20 (by assumption) hT.2.2.1 rfl dX5_solveUpwards_28 ?_
    refine zx_iload_n dX5_solveUpwards_31 rfl rfl ?_
    refine zx_aald c (by assumption) (by decide) rfl ⟨by rw [hl11]; have := hc; omega, by rw [hl11]; decide⟩ (hT.2.2.2.2.2.2.2 c (by have := hc; omega)) dX5_solveUpwards_32 ?_
    refine zx_iload dX5_solveUpwards_33 rfl ?_
    refine zx_dald (c + 1 + k) ((hG.row (k := c) (by have := hc; omega)).1) rfl ⟨by rw [(hG.row (k := c) (by have := hc; omega)).2]; have := hk; omega, by rw [(hG.row (k := c) (by have := hc; omega)).2]; decide⟩ dX5_solveUpwards_35 ?_
    refine zx_aload_n dX5_solveUpwards_36 rfl rfl ?_
    refine zx_getR zf_X5_33 (by assumption) hT.2.2.2.2.2.2.1 rfl dX5_solveUpwards_37 ?_
    refine zx_iload dX5_solveUpwards_40 rfl ?_
    refine zx_dald (c + 1 + k) hO20 rfl ⟨by rw [hl20]; have := hk; omega, by rw [hl20]; decide⟩ dX5_solveUpwards_42 ?_
    refine zx_dmul dX5_solveUpwards_43 ?_
    refine zx_dsub dX5_solveUpwards_44 ?_
    refine zx_dstore_n dX5_solveUpwards_45 rfl (Nat.le_of_ble_eq_true rfl) ?_
    refine zx_iinc (nI (c + 1 + (k + 1))) dX5_solveUpwards_46 rfl (by rw [show Int32.ofInt 1 = nI 1 from rfl, nI_add] <;> rfl) (Nat.le_of_ble_eq_true rfl) ?_
    refine zx_goto (tgt := 20) dX5_solveUpwards_49 (by decide) ?_
    exact zWA_to (zWA_mem hn_ (by rfl)) ⟨rfl, rfl, rfl, rfl, rfl, trivial⟩

set_option maxHeartbeats 4000000 in
set_option maxRecDepth 100000 in
theorem L_X5_up2 {g : ZG} {μ : ZMem} {N F : Nat} (hG : zGC g N F) (hT : zTC μ) {n : Nat} (hn : n ≤ 5) {res : Option ZV} {μ' : ZMem} (hx : zWA g (RX5, cX5_solveUpwards, 6, none, zrm 0, res, μ') 87 (zls [(0, zr (some 8)), (1, zi (nI n)), (2, zi (nI n - nI ((n) + 1)))]) [] (zit (u_up1 n) (n) μ)) : zWA g (RX5, cX5_solveUpwards, 6, none, zrm 0, res, μ') 4 (zls [(0, zr (some 8)), (1, zi (nI n)), (2, zi (nI n - nI ((0) + 1)))]) [] μ := by
  have hO8 : zO g 5 8 := hG.fix 8 (by decide)
  have hO9 : zO g 8 9 := hG.fix 9 (by decide)
  have hO10 : zO g 8 10 := hG.fix 10 (by decide)
  have hO11 : zO g 17 11 := hG.fix 11 (by decide)
  have hO17 : zO g 8 17 := hG.fix 17 (by decide)
  have hO18 : zO g 11 18 := hG.fix 18 (by decide)
  have hO19 : zO g 8 19 := hG.fix 19 (by decide)
  have hO20 : zO g 8 20 := hG.fix 20 (by decide)
  have hl9 : zln g 9 = 40 := hG.l 40 (Or.inl (by decide)) rfl
  have hl10 : zln g 10 = 40 := hG.l 40 (Or.inl (by decide)) rfl
  have hl11 : zln g 11 = 5 := hG.l 5 (Or.inl (by decide)) rfl
  have hl17 : zln g 17 = 5 := hG.l 5 (Or.inl (by decide)) rfl
  have hl18 : zln g 18 = 5 := hG.l 5 (Or.inl (by decide)) rfl
  have hl19 : zln g 19 = 5 := hG.l 5 (Or.inl (by decide)) rfl
  have hl20 : zln g 20 = 5 := hG.l 5 (Or.inl (by decide)) rfl
  have hTk : ∀ k, zTC (zit (u_up1 n) k μ) := fun k => zTC_R (zR_up1 _ _ _) hT
  refine zloop (P := fun k => zWA g (RX5, cX5_solveUpwards, 6, none, zrm 0, res, μ') 4 (zls [(0, zr (some 8)), (1, zi (nI n)), (2, zi (nI n - nI ((k) + 1)))]) [] (zit (u_up1 n) (k) μ)) (N := n) ?_ ?_ 0 (Nat.zero_le _)
  · show zWA _ _ _ _ _ _
    refine zx_iload_n dX5_solveUpwards_4 rfl rfl ?_
    refine zx_if_lt (tgt := 87) dX5_solveUpwards_5 (by decide) (fun _ => ?_) (fun h_ => absurd h_ (fun q => q (zup_n hn)))
    exact zWA_to hx ⟨rfl, rfl, rfl, trivial⟩
  · intro k hk hn_
    have hcv : nI n - nI (k + 1) = nI (n - (k + 1)) := pk_sub (by omega)
    show zWA _ _ _ _ _ _
    rw [hcv]
    refine zx_iload_n dX5_solveUpwards_4 rfl rfl ?_
    refine zx_if_lt (tgt := 87) dX5_solveUpwards_5 (by decide) (fun h_ => absurd h_ (by have := nI_pos (show n - (k + 1) < 2 ^ 31 by omega); exact this)) (fun _ => ?_)
    refine zx_aload_n dX5_solveUpwards_8 rfl rfl ?_
    refine zx_getR zf_X5_23 (by assumption) (hTk _).2.2.2.1 rfl dX5_solveUpwards_9 ?_
    refine zx_iload_n dX5_solveUpwards_12 rfl rfl ?_
    refine zx_dald (n - (k + 1)) hO17 rfl ⟨by rw [hl17]; have := hk; omega, by rw [hl17]; decide⟩ dX5_solveUpwards_13 ?_
    refine zx_dstore_n dX5_solveUpwards_14 rfl (Nat.le_of_ble_eq_true rfl) ?_
    refine zx_iload_n dX5_solveUpwards_15 rfl rfl ?_
    refine zx_iconst 1 dX5_solveUpwards_16 (by decide) ?_
    refine zx_iadd dX5_solveUpwards_17 ?_
    refine zx_istore dX5_solveUpwards_18 (Nat.le_of_ble_eq_true rfl) ?_
    refine zWA_to (L_X5_up1 (μ := zit (u_up1 n) k μ) (n := n) (c := n - (k + 1)) hG (hTk k) hn (by omega) ?_) ⟨rfl, rfl, rfl, rfl, by show some (zi _) = some (zi _); rw [show (1 : Int32) = nI 1 from rfl, nI_add] <;> rfl, trivial⟩
    refine zx_aload_n dX5_solveUpwards_52 rfl rfl ?_
    refine zx_getR zf_X5_33 (by assumption) (hTk _).2.2.2.2.2.2.1 rfl dX5_solveUpwards_53 ?_
    refine zx_iload_n dX5_solveUpwards_56 rfl rfl ?_
    refine zx_aload_n dX5_solveUpwards_57 rfl rfl ?_
    refine zx_getR zf_X5_26 (by assumption) (hTk _).2.2.2.2.1 rfl dX5_solveUpwards_58 ?_
    refine zx_iload_n dX5_solveUpwards_61 rfl rfl ?_
    refine zx_zald (n - (k + 1)) hO18 rfl ⟨by rw [hl18]; have := hk; omega, by rw [hl18]; decide⟩ dX5_solveUpwards_62 ?_
    refine zx_if_eq (tgt := 79) dX5_solveUpwards_63 (by decide) (fun c_63 => ?_) (fun c_63 => ?_)
    · skip
      refine zx_dconst0 dX5_solveUpwards_79 ?_
      refine zx_dast (n - (k + 1)) hO20 rfl ⟨by rw [hl20]; have := hk; omega, by rw [hl20]; decide⟩ dX5_solveUpwards_80 ?_
      refine zx_iinc (nI n - nI (k + 1 + 1)) dX5_solveUpwards_81 rfl (by rw [← hcv]; exact zup_i hn (by omega)) (Nat.le_of_ble_eq_true rfl) ?_
      refine zx_goto (tgt := 4) dX5_solveUpwards_84 (by decide) ?_
      exact zWA_to (zWA_mem hn_ (congrArg (fun v => zsD (zit (u_up1 n) k μ) 20 (n - (k + 1)) v) (if_pos c_63))) ⟨rfl, rfl, rfl, trivial⟩
    · skip
      refine zx_dload_n dX5_solveUpwards_66 rfl rfl ?_
      refine zx_aload_n dX5_solveUpwards_67 rfl rfl ?_
      refine zx_getR zf_X5_20 (by assumption) (hTk _).2.2.1 rfl dX5_solveUpwards_68 ?_
      refine zx_iload_n dX5_solveUpwards_71 rfl rfl ?_
      refine zx_aald (n - (k + 1)) (by assumption) (by decide) rfl ⟨by rw [hl11]; have := hk; omega, by rw [hl11]; decide⟩ ((hTk _).2.2.2.2.2.2.2 (n - (k + 1)) (by have := hk; omega)) dX5_solveUpwards_72 ?_
      refine zx_iload_n dX5_solveUpwards_73 rfl rfl ?_
      refine zx_dald (n - (k + 1)) ((hG.row (k := (n - (k + 1))) (by have := hk; omega)).1) rfl ⟨by rw [(hG.row (k := (n - (k + 1))) (by have := hk; omega)).2]; have := hk; omega, by rw [(hG.row (k := (n - (k + 1))) (by have := hk; omega)).2]; decide⟩ dX5_solveUpwards_74 ?_
      refine zx_ddiv dX5_solveUpwards_75 ?_
      refine zx_goto (tgt := 80) dX5_solveUpwards_76 (by decide) ?_
      refine zx_dast (n - (k + 1)) hO20 rfl ⟨by rw [hl20]; have := hk; omega, by rw [hl20]; decide⟩ dX5_solveUpwards_80 ?_
      refine zx_iinc (nI n - nI (k + 1 + 1)) dX5_solveUpwards_81 rfl (by rw [← hcv]; exact zup_i hn (by omega)) (Nat.le_of_ble_eq_true rfl) ?_
      refine zx_goto (tgt := 4) dX5_solveUpwards_84 (by decide) ?_
      exact zWA_to (zWA_mem hn_ (congrArg (fun v => zsD (zit (u_up1 n) k μ) 20 (n - (k + 1)) v) (if_neg c_63))) ⟨rfl, rfl, rfl, trivial⟩

set_option maxHeartbeats 4000000 in
set_option maxRecDepth 100000 in
theorem m_X5_solveUpwards {g : ZG} {μ : ZMem} {N F : Nat} (hG : zGC g N F) (hT : zTC μ) {n : Nat} (hn : n ≤ 5) : zCab g RX5 yX5_solveUpwards cX5_solveUpwards 6 (none) (zrm 0) [zr (some 8), zi (nI n)] μ none (u_up μ n) := by
  refine zCab_w (by decide +kernel) rfl (Nat.le_of_ble_eq_true rfl) ?_
  refine zx_iload_n dX5_solveUpwards_0 rfl rfl ?_
  refine zx_iconst 1 dX5_solveUpwards_1 (by decide) ?_
  refine zx_isub dX5_solveUpwards_2 ?_
  refine zx_istore_n dX5_solveUpwards_3 rfl (Nat.le_of_ble_eq_true rfl) ?_
  exact zWA_to (L_X5_up2 (μ := μ) (n := n) hG hT hn (zx_return rfl rfl rfl dX5_solveUpwards_87)) ⟨rfl, rfl, rfl, trivial⟩

theorem zR_clear (μ : ZMem) (n : Nat) : zR (u_clear μ n).2 = zR μ := zR_clr _ _ _
def u_solve (μ : ZMem) (Q T : Nat) : ZMem := zsI (u_up (u_clear (u_addUp μ Q (2 * Q + 1) T) (2 * Q + 1)).2 (2 * Q + 1)) 8 8 (nI (2 * Q + 1))
def s_solve (μ : ZMem) (Q T : Nat) : Int32 := (u_clear (u_addUp μ Q (2 * Q + 1) T) (2 * Q + 1)).1
theorem zmin5 {Q : Nat} (hQ : Q ≤ 2) : s_min32 (nI (2 * Q + 1)) 5 = nI (2 * Q + 1) := by
  have h : ∀ Q : Fin 3, s_min32 (nI (2 * Q.val + 1)) 5 = nI (2 * Q.val + 1) := by decide +kernel
  exact h ⟨Q, by omega⟩
set_option maxHeartbeats 4000000 in
set_option maxRecDepth 100000 in
theorem m_X5_solve {g : ZG} {μ : ZMem} {N F : Nat} (hG : zGC g N F) (hT : zTC μ) {Q T : Nat} (hQ : Q ≤ 2) (hTt : T ≤ 40) (hI : zI μ 8 7 = nI T) : zCab g RX5 yX5_solve cX5_solve 4 ((some FieldType.int)) (zrm 3) [zr (some 8), zi (nI (2 * Q + 1))] μ (some (zi (s_solve μ Q T))) (u_solve μ Q T) := by
  refine zCab_w (by decide +kernel) rfl (Nat.le_of_ble_eq_true rfl) ?_
  have hO8 : zO g 5 8 := hG.fix 8 (by decide)
  have hO9 : zO g 8 9 := hG.fix 9 (by decide)
  have hO10 : zO g 8 10 := hG.fix 10 (by decide)
  have hO11 : zO g 17 11 := hG.fix 11 (by decide)
  have hO17 : zO g 8 17 := hG.fix 17 (by decide)
  have hO18 : zO g 11 18 := hG.fix 18 (by decide)
  have hO19 : zO g 8 19 := hG.fix 19 (by decide)
  have hO20 : zO g 8 20 := hG.fix 20 (by decide)
  have hl9 : zln g 9 = 40 := hG.l 40 (Or.inl (by decide)) rfl
  have hl10 : zln g 10 = 40 := hG.l 40 (Or.inl (by decide)) rfl
  have hl11 : zln g 11 = 5 := hG.l 5 (Or.inl (by decide)) rfl
  have hl17 : zln g 17 = 5 := hG.l 5 (Or.inl (by decide)) rfl
  have hl18 : zln g 18 = 5 := hG.l 5 (Or.inl (by decide)) rfl
  have hl19 : zln g 19 = 5 := hG.l 5 (Or.inl (by decide)) rfl
  have hl20 : zln g 20 = 5 := hG.l 5 (Or.inl (by decide)) rfl
  refine zx_iload_n dX5_solve_0 rfl rfl ?_
  refine zx_iconst 5 dX5_solve_1 (by decide) ?_
  refine zx_callS1 _ zs_X5_40 m_J9_min_7cf53 rfl rfl ⟨rfl, rfl, (Nat.le_of_ble_eq_true rfl), (Nat.le_of_ble_eq_true rfl)⟩ (Nat.le_of_ble_eq_true rfl) dX5_solve_2 ?_
  rw [zmin5 hQ]
  refine zx_istore_n dX5_solve_5 rfl (Nat.le_of_ble_eq_true rfl) ?_
  refine zx_aload_n dX5_solve_6 rfl rfl ?_
  refine zx_iload_n dX5_solve_7 rfl rfl ?_
  refine zx_callV0 _ zv_X5_46 (m_X5_addUp hG hT hQ hTt hI) (by assumption) (by decide) rfl rfl rfl ⟨rfl, rfl, (Nat.le_of_ble_eq_true rfl), (Nat.le_of_ble_eq_true rfl)⟩ (Nat.le_of_ble_eq_true rfl) dX5_solve_8 ?_
  refine zx_aload_n dX5_solve_11 rfl rfl ?_
  refine zx_iload_n dX5_solve_12 rfl rfl ?_
  refine zx_callV1 _ zv_X5_50 (m_X5_clearBelow (μ := u_addUp μ Q (2 * Q + 1) T) (n := 2 * Q + 1) hG (zTC_R (zR_addUp _ _ _ _) hT) (by omega)) (by assumption) (by decide) rfl rfl rfl ⟨rfl, rfl, (Nat.le_of_ble_eq_true rfl), (Nat.le_of_ble_eq_true rfl)⟩ (Nat.le_of_ble_eq_true rfl) dX5_solve_13 ?_
  refine zx_istore_n dX5_solve_16 rfl (Nat.le_of_ble_eq_true rfl) ?_
  refine zx_aload_n dX5_solve_17 rfl rfl ?_
  refine zx_iload_n dX5_solve_18 rfl rfl ?_
  refine zx_callV0 _ zv_X5_54 (m_X5_solveUpwards (μ := (u_clear (u_addUp μ Q (2 * Q + 1) T) (2 * Q + 1)).2) (n := 2 * Q + 1) hG (zTC_R (zR_clear _ _) (zTC_R (zR_addUp _ _ _ _) hT)) (by omega)) (by assumption) (by decide) rfl rfl rfl ⟨rfl, rfl, (Nat.le_of_ble_eq_true rfl), (Nat.le_of_ble_eq_true rfl)⟩ (Nat.le_of_ble_eq_true rfl) dX5_solve_19 ?_
  refine zx_aload_n dX5_solve_22 rfl rfl ?_
  refine zx_iload_n dX5_solve_23 rfl rfl ?_
  refine zx_putI zf_X5_57 (by assumption) ⟨rfl, rfl⟩ (Or.inl rfl) dX5_solve_24 ?_
  refine zx_iload_n dX5_solve_27 rfl rfl ?_
  exact zx_ireturn rfl (by rfl) (by rfl) dX5_solve_28

