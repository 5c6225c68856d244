theorem zI_u_feel (μ : ZMem) (c : Nat) (v : UInt64) : zI (u_feel μ c v) = zI μ := by
  unfold u_feel
  split <;> rfl
theorem zI_u_felt (μ : ZMem) (f : Nat) (x : Option Nat) : zI (u_felt μ f x) = zI μ := by
  unfold u_felt
  cases x with
  | none => rfl
  | some a => exact zI_u_feel _ _ _
theorem zI_u_settle (μ : ZMem) (f : Nat) (h w : UInt64) : zI (u_settle μ f h w) = zI μ := by
  unfold u_settle
  split
  · rfl
  · rw [zI_u_felt, zI_u_felt]
    rfl
theorem zRI_carry (μ : ZMem) (f : Nat) : zR (u_carry μ f) = zR μ ∧ zI (u_carry μ f) = zI μ := by
  unfold u_carry
  split
  · exact ⟨rfl, rfl⟩
  · cases s_from μ f <;> cases s_to μ f <;> cases zR μ f 2 <;> exact ⟨rfl, rfl⟩
theorem zRI_take (μ : ZMem) (c : Nat) (h : UInt64) : zR (u_take μ c h) = zR μ ∧ zI (u_take μ c h) = zI μ := by
  unfold u_take
  split <;> exact ⟨rfl, rfl⟩
theorem zRI_grow (μ : ZMem) (sh : Nat) (v : Int64) (C : Nat) : zR (u_grow μ sh v C) = zR μ ∧ zI (u_grow μ sh v C) = zI μ := by
  unfold u_grow
  split
  · exact ⟨rfl, rfl⟩
  · exact ⟨zR_grow1 _ _ _ _ _, zI_grow1 _ _ _ _ _⟩
theorem zRI_end1 (μ : ZMem) (c : Nat) : zR (u_end1 μ c) = zR μ ∧ zI (u_end1 μ c) = zI μ := by
  unfold u_end1
  split <;> exact ⟨rfl, rfl⟩
theorem zRI_end2 (μ : ZMem) (c : Nat) (h : UInt64) : zR (u_end2 μ c h) = zR μ ∧ zI (u_end2 μ c h) = zI μ := by
  unfold u_end2
  split <;> exact ⟨rfl, rfl⟩
theorem zRI_end (μ : ZMem) (c sh C : Nat) (h : UInt64) : zR (u_endStep μ c sh C h) = zR μ ∧ zI (u_endStep μ c sh C h) = zI μ := by
  have e : zR (u_end2 (u_end1 μ c) c h) = zR μ ∧ zI (u_end2 (u_end1 μ c) c h) = zI μ := ⟨(zRI_end2 _ _ _).1.trans (zRI_end1 _ _).1, (zRI_end2 _ _ _).2.trans (zRI_end1 _ _).2⟩
  unfold u_endStep
  cases zR μ c 7 with
  | none => exact e
  | some n => exact ⟨(zRI_grow _ _ _ _).1.trans e.1, (zRI_grow _ _ _ _).2.trans e.2⟩
theorem zI_u_stand (μ : ZMem) (s sz ph : Nat) (t : UInt64) : zI (u_stand μ s sz ph t) = zI μ := by
  unfold u_stand
  split
  · rfl
  · rw [zI_stand1]; rfl
theorem zI_u_restAt (μ : ZMem) (f c : Nat) : zI (u_restAt μ f c) = zI μ := by
  unfold u_restAt
  split
  · rfl
  · split <;> rfl
theorem zLC_of {w h : Nat} {ly : Int32} {μ μ' : ZMem} (hR : ∀ r k, (r < 60 ∨ (70 ≤ r ∧ r < 1000) ∨ 2000 ≤ r ∨ (k = 0 ∧ r < 1000)) → zR μ' r k = zR μ r k) (hI : ∀ r k, ((r = 0 ∧ k < 3) ∨ 2000 ≤ r) → zI μ' r k = zI μ r k) (H : zLC w h ly μ) : zLC w h ly μ' := by
  obtain ⟨a1, a2, a3, a4, a5, a6, ⟨b1, b2, b3, b4, b5, b6, b7, b8⟩, a8, a9, a10, a11, a12⟩ := H
  refine ⟨fun k hk => by rw [hR _ _ (by omega)]; exact a1 k hk, fun k hk => by rw [hR _ _ (by omega)]; exact a2 k hk, fun k hk => by rw [hR _ _ (by omega)]; exact a3 k hk,
    fun k hk => by rw [hR _ _ (by omega), hR _ _ (by omega), hR _ _ (by omega)]; exact a4 k hk, fun k hk => by rw [hR _ _ (by omega), hR _ _ (by omega)]; exact a5 k hk,
    fun k hk => ⟨by rw [hR _ _ (by omega)]; exact (a6 k hk).1, fun j hj => by rw [hR _ _ (by omega)]; exact (a6 k hk).2 j hj⟩,
    ⟨by rw [hR _ _ (by omega)]; exact b1, by rw [hR _ _ (by omega)]; exact b2, by rw [hR _ _ (by omega)]; exact b3, by rw [hR _ _ (by omega)]; exact b4, by rw [hR _ _ (by omega)]; exact b5, by rw [hR _ _ (by omega)]; exact b6, by rw [hR _ _ (by omega)]; exact b7, fun k hk => by rw [hR _ _ (by omega)]; exact b8 k hk⟩,
    fun n hn => by rw [hR _ _ (by omega), hR _ _ (by omega), hR _ _ (by omega), hI _ _ (by omega)]; exact a8 n hn, by rw [hI _ _ (by omega)]; exact a9, by rw [hI _ _ (by omega)]; exact a10, by rw [hI _ _ (by omega)]; exact a11, a12⟩
theorem zLC_RI {w h : Nat} {ly : Int32} {μ μ' : ZMem} (e : zR μ' = zR μ ∧ zI μ' = zI μ) (H : zLC w h ly μ) : zLC w h ly μ' := zLC_of (fun r k _ => by rw [e.1]) (fun r k _ => by rw [e.2]) H
theorem zWf_E {g : ZG} {μ μ' : ZMem} (e : zR μ' = zR μ) (H : zWf g μ) : zWf g μ' := zWf_R H (fun r k => by rw [e])
theorem zNB_RI {N : Nat} {μ μ' : ZMem} (e : zR μ' = zR μ ∧ zI μ' = zI μ) (H : zNB N μ) : zNB N μ' := by
  unfold zNB at H ⊢
  rw [e.1, e.2]
  exact H
theorem zWf_become {g : ZG} {μ : ZMem} {c : Nat} {v : UInt64} (H : zWf g μ) : zWf g (u_become μ c v) := by
  unfold u_become
  cases zR μ c 7 with
  | none => exact H
  | some n => exact zWf_none (zWf_none (μ := u_bec1 μ c v) H)
theorem zLC_become {w h : Nat} {ly : Int32} {μ : ZMem} {k : Nat} {v : UInt64} (hn : ∀ n, zR μ (1000 + k) 7 = some n → 60 ≤ n ∧ n < 70) (hk : k < 1000) (H : zLC w h ly μ) : zLC w h ly (u_become μ (1000 + k) v) := by
  have h1 : zLC w h ly (u_bec1 μ (1000 + k) v) := zLC_of (μ := μ) (fun r k _ => rfl) (fun r j hj => by
    show zup μ.1 (1000 + k) 0 _ r j = μ.1 r j
    exact zup_ne _ _ (by omega)) H
  unfold u_become
  cases e : zR μ (1000 + k) 7 with
  | none => exact h1
  | some n =>
    have hn' := hn n e
    refine zLC_of (μ := u_bec1 μ (1000 + k) v) (μ' := zsR (u_leave (u_bec1 μ (1000 + k) v) n) (1000 + k) 7 none) (fun r j hj => ?_) (fun r j _ => rfl) h1
    show zup (zup μ.2.2.2 n 1 none) (1000 + k) 7 none r j = μ.2.2.2 r j
    rw [zup_ne _ _ (by omega), zup_ne _ _ (by omega)]
def u_rest1 (c n : Nat) (μ : ZMem) : ZMem := u_restAt μ (2000 + n) c
def u_dep1 (μ : ZMem) (c : Nat) (v : UInt64) : ZMem := u_become (zsL μ 0 15 (zL μ 0 15 - zL μ c 2)) c v
def u_dep2 (μ : ZMem) (c : Nat) (v : UInt64) : ZMem := zsL (u_dep1 μ c v) 0 15 (zL (u_dep1 μ c v) 0 15 + zL (u_dep1 μ c v) c 2)
def u_dep3 (μ : ZMem) (c F : Nat) (v : UInt64) : ZMem := (fun m : ZMem => zsI m 0 13 (zI m 0 13 + 1)) (zit (u_rest1 c) F (u_dep2 μ c v))
def s_depth (w h : Nat) (x y : Int32) (v : UInt64) : Int32 := match s_cellAt w h x y with
  | none => 0
  | some _ => if s_inside v 0 k1000 = 0 then 0 else 1
def u_depth (μ : ZMem) (w h : Nat) (x y : Int32) (v : UInt64) : ZMem := match s_cellAt w h x y with
  | none => μ
  | some c => if s_inside v 0 k1000 = 0 then μ else u_dep3 μ c (fcA w h) v
theorem zRI_rest1 (c n : Nat) (μ : ZMem) : zR (zit (u_rest1 c) n μ) = zR μ ∧ zI (zit (u_rest1 c) n μ) = zI μ := ⟨zit_keep (f := u_rest1 c) zR (fun _ _ => zR_u_restAt _ _ _) n μ, zit_keep (f := u_rest1 c) zI (fun _ _ => zI_u_restAt _ _ _) n μ⟩
set_option maxHeartbeats 4000000 in
set_option maxRecDepth 100000 in
theorem L_X6_depth {g : ZG} {μ : ZMem} {w h : Nat} {ly : Int32} (hG : zGC g (w * h) (fcA w h)) (hL : zLC w h ly μ) (hW : zWf g μ) {c : Nat} (hc : zO g 0 c) {res : Option ZV} {μ' : ZMem} (hx : zWA g (RX6, cX6_depth, 10, ((some FieldType.boolean)), zrm 2, res, μ') 101 (zls [(0, zr (some 0)), (5, zr (some c)), (6, zr (some 2)), (7, zi (nI (fcA w h))), (8, zi (nI ((fcA w h))))]) [] (zit (u_rest1 c) ((fcA w h)) μ)) : zWA g (RX6, cX6_depth, 10, ((some FieldType.boolean)), zrm 2, res, μ') 74 (zls [(0, zr (some 0)), (5, zr (some c)), (6, zr (some 2)), (7, zi (nI (fcA w h))), (8, zi (nI (0)))]) [] μ := by
  have hO0 : zO g 6 0 := hG.fix 0 (by decide)
  have hO1 : zO g 12 1 := hG.fix 1 (by decide)
  have hO2 : zO g 13 2 := hG.fix 2 (by decide)
  have hO3 : zO g 15 3 := hG.fix 3 (by decide)
  have hO4 : zO g 8 4 := hG.fix 4 (by decide)
  have hO5 : zO g 8 5 := hG.fix 5 (by decide)
  have hO6 : zO g 14 6 := hG.fix 6 (by decide)
  have hO7 : zO g 16 7 := hG.fix 7 (by decide)
  have hO8 : zO g 5 8 := hG.fix 8 (by decide)
  have hl1 : zln g 1 = w * h := hG.l _ (Or.inl (by decide)) rfl
  have hl2 : zln g 2 = fcA w h := hG.l _ (Or.inl (by decide)) rfl
  have hl3 : zln g 3 = 4 := hG.l _ (Or.inl (by decide)) rfl
  have hl4 : zln g 4 = 24 := hG.l _ (Or.inl (by decide)) rfl
  have hl5 : zln g 5 = 24 := hG.l _ (Or.inl (by decide)) rfl
  have hl6 : zln g 6 = 10 := hG.l _ (Or.inl (by decide)) rfl
  have hl7 : zln g 7 = 4 := hG.l _ (Or.inl (by decide)) rfl
  have hN := hG.1
  have hF := hG.2.1
  have hw0 : zI μ 0 0 = nI w := hL.2.2.2.2.2.2.2.2.1
  have hh0 : zI μ 0 1 = nI h := hL.2.2.2.2.2.2.2.2.2.1
  have hy0 : zI μ 0 2 = ly := hL.2.2.2.2.2.2.2.2.2.2.1
  have hwb := hL.2.2.2.2.2.2.2.2.2.2.2
  have hRk : ∀ k, k < fcA w h → zR (zit (u_rest1 c) k μ) 2 k = some (2000 + k) := fun k hk => by rw [(zRI_rest1 c k μ).1]; exact hL.2.2.1 k hk
  refine zloop (P := fun k => zWA g (RX6, cX6_depth, 10, ((some FieldType.boolean)), zrm 2, res, μ') 74 (zls [(0, zr (some 0)), (5, zr (some c)), (6, zr (some 2)), (7, zi (nI (fcA w h))), (8, zi (nI (k)))]) [] (zit (u_rest1 c) (k) μ)) (N := (fcA w h)) ?_ ?_ 0 (Nat.zero_le _)
  · show zWA _ _ _ _ _ _
    refine zx_iload dX6_depth_74 rfl ?_
    refine zx_iload dX6_depth_76 rfl ?_
    refine zx_icmp_ge (tgt := 101) dX6_depth_78 (by decide) (fun _ => ?_) (fun h_ => absurd h_ (by simp))
    exact zWA_to hx ⟨rfl, rfl, rfl, rfl, rfl, trivial⟩
  · intro k hk hn_
    show zWA _ _ _ _ _ _
    refine zx_iload dX6_depth_74 rfl ?_
    refine zx_iload dX6_depth_76 rfl ?_
    refine zx_icmp_ge (tgt := 101) dX6_depth_78 (by decide) (fun h_ => absurd h_ (nI_ge hk (by omega))) (fun _ => ?_)
    refine zx_aload dX6_depth_81 rfl ?_
    refine zx_iload dX6_depth_83 rfl ?_
    refine zx_aald k (by assumption) (by decide) rfl ⟨by rw [hl2]; exact hk, by omega⟩ (hRk k hk) dX6_depth_85 ?_
    refine zx_astore dX6_depth_86 (Nat.le_of_ble_eq_true rfl) ?_
    refine zx_aload dX6_depth_88 rfl ?_
    refine zx_aload dX6_depth_90 rfl ?_
    refine zx_callV0 _ zv_X6_103 (m_X1_restAt (hG.face hk) (zWf_E (zRI_rest1 c k μ).1 hW) hc) (hG.face hk) (by decide) rfl rfl rfl ⟨rfl, rfl, (Nat.le_of_ble_eq_true rfl), (Nat.le_of_ble_eq_true rfl)⟩ (Nat.le_of_ble_eq_true rfl) dX6_depth_92 ?_
    refine zx_iinc (nI (k + 1)) dX6_depth_95 rfl (by exact nI_1 k) (Nat.le_of_ble_eq_true rfl) ?_
    refine zx_goto (tgt := 74) dX6_depth_98 (by decide) ?_
    exact zWA_to (zWA_mem hn_ (by rfl)) ⟨rfl, rfl, rfl, rfl, rfl, trivial⟩

set_option maxHeartbeats 4000000 in
set_option maxRecDepth 100000 in
theorem m_X6_depth {g : ZG} {μ : ZMem} {w h : Nat} {ly : Int32} (hG : zGC g (w * h) (fcA w h)) (hL : zLC w h ly μ) (hW : zWf g μ) (hB : zNB (w * h) μ) {x y : Int32} {v : UInt64} : zCab g RX6 yX6_depth cX6_depth 10 ((some FieldType.boolean)) (zrm 2) [zr (some 0), zi x, zi y, zd v] μ (some (zi (s_depth w h x y v))) (u_depth μ w h x y v) := by
  refine zCab_w (by decide +kernel) rfl (Nat.le_of_ble_eq_true rfl) ?_
  have hO0 : zO g 6 0 := hG.fix 0 (by decide)
  have hO1 : zO g 12 1 := hG.fix 1 (by decide)
  have hO2 : zO g 13 2 := hG.fix 2 (by decide)
  have hO3 : zO g 15 3 := hG.fix 3 (by decide)
  have hO4 : zO g 8 4 := hG.fix 4 (by decide)
  have hO5 : zO g 8 5 := hG.fix 5 (by decide)
  have hO6 : zO g 14 6 := hG.fix 6 (by decide)
  have hO7 : zO g 16 7 := hG.fix 7 (by decide)
  have hO8 : zO g 5 8 := hG.fix 8 (by decide)
  have hl1 : zln g 1 = w * h := hG.l _ (Or.inl (by decide)) rfl
  have hl2 : zln g 2 = fcA w h := hG.l _ (Or.inl (by decide)) rfl
  have hl3 : zln g 3 = 4 := hG.l _ (Or.inl (by decide)) rfl
  have hl4 : zln g 4 = 24 := hG.l _ (Or.inl (by decide)) rfl
  have hl5 : zln g 5 = 24 := hG.l _ (Or.inl (by decide)) rfl
  have hl6 : zln g 6 = 10 := hG.l _ (Or.inl (by decide)) rfl
  have hl7 : zln g 7 = 4 := hG.l _ (Or.inl (by decide)) rfl
  have hN := hG.1
  have hF := hG.2.1
  have hw0 : zI μ 0 0 = nI w := hL.2.2.2.2.2.2.2.2.1
  have hh0 : zI μ 0 1 = nI h := hL.2.2.2.2.2.2.2.2.2.1
  have hy0 : zI μ 0 2 = ly := hL.2.2.2.2.2.2.2.2.2.2.1
  have hwb := hL.2.2.2.2.2.2.2.2.2.2.2
  refine zx_aload_n dX6_depth_0 rfl rfl ?_
  refine zx_iload_n dX6_depth_1 rfl rfl ?_
  refine zx_iload_n dX6_depth_2 rfl rfl ?_
  refine zx_callV1 _ zv_X6_80 (m_X6_cellAt hG hL hW) (by assumption) (by decide) rfl rfl rfl ⟨rfl, rfl, (Nat.le_of_ble_eq_true rfl), (Nat.le_of_ble_eq_true rfl)⟩ (Nat.le_of_ble_eq_true rfl) dX6_depth_3 ?_
  refine zx_astore dX6_depth_6 (Nat.le_of_ble_eq_true rfl) ?_
  refine zx_aload dX6_depth_8 rfl ?_
  refine zx_ifnull (tgt := 24) dX6_depth_10 (by decide) (fun c_10 => ?_) (fun r_10 c_10 => ?_)
  · skip
    rw [c_10]
    refine zx_iconst 0 dX6_depth_24 (by decide) ?_
    exact zx_zreturn rfl (by decide +kernel) (by first | rfl | simp [zKa, zKm, s_depth, c_10]) (by first | rfl | simp [zKm, u_depth, c_10]) dX6_depth_25
  · skip
    have hO_10 : zO g 0 r_10 := (by obtain ⟨i, j, hi, hj, -, -, rfl⟩ := s_cellAt_in (by omega) (by omega) c_10; exact hG.cell (zplace hi hj))
    rw [c_10]
    refine zx_dload_n dX6_depth_13 rfl rfl ?_
    refine zx_dconst0 dX6_depth_14 ?_
    refine zx_ldc2d 4652007308841189376 zk_X6_84 (by decide +kernel) dX6_depth_15 ?_
    refine zx_callS1 _ zs_X6_86 m_X6_inside rfl rfl ⟨rfl, rfl, (Nat.le_of_ble_eq_true rfl), (Nat.le_of_ble_eq_true rfl)⟩ (Nat.le_of_ble_eq_true rfl) dX6_depth_18 ?_
    refine zx_if_ne (tgt := 26) dX6_depth_21 (by decide) (fun c_21 => ?_) (fun c_21 => ?_)
    · skip
      obtain ⟨i, j, hi, hj, -, -, ec⟩ := s_cellAt_in (by omega) (by omega) c_10
      have hpl := zplace hi hj
      have hW1 : zWf g (u_dep2 μ r_10 v) := zWf_E (μ := u_dep1 μ r_10 v) rfl (zWf_become (μ := zsL μ 0 15 (zL μ 0 15 - zL μ r_10 2)) hW)
      have hL1 : zLC w h ly (u_dep2 μ r_10 v) := by
        rw [ec]
        exact zLC_RI (μ := u_dep1 μ (1000 + (j * w + i)) v) ⟨rfl, rfl⟩ (zLC_become (μ := zsL μ 0 15 (zL μ 0 15 - zL μ (1000 + (j * w + i)) 2)) (fun n hn => by obtain ⟨q, hq, rfl⟩ := hB.1 _ n hpl hn; omega) (by omega) hL)
      refine zx_aload_n dX6_depth_26 rfl rfl ?_
      refine zx_aload_n dX6_depth_27 rfl rfl ?_
      refine zx_getL zf_X6_90 (by assumption) rfl dX6_depth_28 ?_
      refine zx_aload dX6_depth_31 rfl ?_
      refine zx_getL zf_X6_94 (by assumption) rfl dX6_depth_33 ?_
      refine zx_lsub dX6_depth_36 ?_
      refine zx_putL zf_X6_90 (by assumption) rfl dX6_depth_37 ?_
      refine zx_aload dX6_depth_40 rfl ?_
      refine zx_dload_n dX6_depth_42 rfl rfl ?_
      refine zx_callV0 _ zv_X6_99 (m_X0_become (μ := zsL μ 0 15 (zL μ 0 15 - zL μ r_10 2)) hO_10 hW) (by assumption) (by decide) rfl rfl rfl ⟨rfl, rfl, (Nat.le_of_ble_eq_true rfl), (Nat.le_of_ble_eq_true rfl)⟩ (Nat.le_of_ble_eq_true rfl) dX6_depth_43 ?_
      refine zx_aload_n dX6_depth_46 rfl rfl ?_
      refine zx_aload_n dX6_depth_47 rfl rfl ?_
      refine zx_getL zf_X6_90 (by assumption) rfl dX6_depth_48 ?_
      refine zx_aload dX6_depth_51 rfl ?_
      refine zx_getL zf_X6_94 (by assumption) rfl dX6_depth_53 ?_
      refine zx_ladd dX6_depth_56 ?_
      refine zx_putL zf_X6_90 (by assumption) rfl dX6_depth_57 ?_
      refine zx_aload_n dX6_depth_60 rfl rfl ?_
      refine zx_getR zf_X6_43 (by assumption) (show _ = some 2 from hL1.R0 (k := 4) (by decide)) rfl dX6_depth_61 ?_
      refine zx_astore dX6_depth_64 (Nat.le_of_ble_eq_true rfl) ?_
      refine zx_aload dX6_depth_66 rfl ?_
      refine zx_alen (nI (fcA w h)) (by assumption) (by decide) (by rw [hl2]) dX6_depth_68 ?_
      refine zx_istore dX6_depth_69 (Nat.le_of_ble_eq_true rfl) ?_
      refine zx_iconst 0 dX6_depth_71 (by decide) ?_
      refine zx_istore dX6_depth_72 (Nat.le_of_ble_eq_true rfl) ?_
      refine zWA_to (L_X6_depth (μ := u_dep2 μ r_10 v) (c := r_10) hG hL1 hW1 hO_10 ?_) ⟨rfl, rfl, rfl, rfl, rfl, trivial⟩
      refine zx_aload_n dX6_depth_101 rfl rfl ?_
      refine zx_dup dX6_depth_102 rfl ?_
      refine zx_getI zf_X6_109 (by assumption) (Or.inl rfl) dX6_depth_103 ?_
      refine zx_iconst 1 dX6_depth_106 (by decide) ?_
      refine zx_iadd dX6_depth_107 ?_
      refine zx_putI zf_X6_109 (by assumption) ⟨rfl, rfl⟩ (Or.inl rfl) dX6_depth_108 ?_
      refine zx_iconst 1 dX6_depth_111 (by decide) ?_
      exact zx_zreturn rfl (by decide +kernel) (by simp [zKa, s_depth, c_10, c_21]) (by show u_depth μ w h x y v = _; unfold u_depth; rw [c_10]; show (if s_inside v 0 k1000 = 0 then μ else u_dep3 μ r_10 (fcA w h) v) = _; rw [if_neg c_21]; rfl) dX6_depth_112
    · skip
      refine zx_iconst 0 dX6_depth_24 (by decide) ?_
      exact zx_zreturn rfl (by decide +kernel) (by first | rfl | simp [zKa, zKm, s_depth, c_10, c_21]) (by first | rfl | simp [zKm, u_depth, c_10, c_21]) dX6_depth_25

def s_nest (μ : ZMem) (w h T : Nat) (x y z : Int32) : Int32 := match s_waterAt μ w h x y with
  | none => -1
  | some c => match zR μ c 7 with
    | some _ => -1
    | none => if z < 2 then -1 else if z ≤ 8 then (if T < 10 then nI T else -1) else -1
def u_nest1 (μ : ZMem) (c T C : Nat) : ZMem := (fun m : ZMem => (fun m2 : ZMem => zsI m2 0 13 (zI m2 0 13 + 1)) (zsI m 0 11 (nI T + 1))) (u_settleIn μ (60 + T) c (70 + T) C)
def u_nest (μ : ZMem) (w h T : Nat) (x y z : Int32) : ZMem := match s_waterAt μ w h x y with
  | none => μ
  | some c => match zR μ c 7 with
    | some _ => μ
    | none => if z < 2 then μ else if z ≤ 8 then (if T < 10 then u_nest1 μ c T z.toNatClampNeg else μ) else μ
theorem znz8 {z : Int32} (h0 : ¬ z < 2) (h1 : z ≤ 8) : ∃ C, C ≤ 8 ∧ z = nI C := by
  have h2 : ¬ z < 0 := fun q => h0 (by rw [Int32.lt_iff_toInt_lt] at q ⊢; have e1 : (0 : Int32).toInt = 0 := rfl; have e2 : (2 : Int32).toInt = 2 := rfl; omega)
  exact nI_of2 (M := 8) (n := 8) (by decide) h2 h1
set_option maxHeartbeats 4000000 in
set_option maxRecDepth 100000 in
theorem m_X6_nest {g : ZG} {μ : ZMem} {w h : Nat} {ly : Int32} (hG : zGC g (w * h) (fcA w h)) (hL : zLC w h ly μ) (hW : zWf g μ) {T : Nat} (hI : zI μ 0 11 = nI T) {x y z : Int32} (hT : T < 10) : zCab g RX6 yX6_nest cX6_nest 6 ((some FieldType.int)) (zrm 2) [zr (some 0), zi x, zi y, zi z] μ (some (zi (s_nest μ w h T x y z))) (u_nest μ w h T x y z) := by
  refine zCab_w (by decide +kernel) rfl (Nat.le_of_ble_eq_true rfl) ?_
  have hO0 : zO g 6 0 := hG.fix 0 (by decide)
  have hO1 : zO g 12 1 := hG.fix 1 (by decide)
  have hO2 : zO g 13 2 := hG.fix 2 (by decide)
  have hO3 : zO g 15 3 := hG.fix 3 (by decide)
  have hO4 : zO g 8 4 := hG.fix 4 (by decide)
  have hO5 : zO g 8 5 := hG.fix 5 (by decide)
  have hO6 : zO g 14 6 := hG.fix 6 (by decide)
  have hO7 : zO g 16 7 := hG.fix 7 (by decide)
  have hO8 : zO g 5 8 := hG.fix 8 (by decide)
  have hl1 : zln g 1 = w * h := hG.l _ (Or.inl (by decide)) rfl
  have hl2 : zln g 2 = fcA w h := hG.l _ (Or.inl (by decide)) rfl
  have hl3 : zln g 3 = 4 := hG.l _ (Or.inl (by decide)) rfl
  have hl4 : zln g 4 = 24 := hG.l _ (Or.inl (by decide)) rfl
  have hl5 : zln g 5 = 24 := hG.l _ (Or.inl (by decide)) rfl
  have hl6 : zln g 6 = 10 := hG.l _ (Or.inl (by decide)) rfl
  have hl7 : zln g 7 = 4 := hG.l _ (Or.inl (by decide)) rfl
  have hN := hG.1
  have hF := hG.2.1
  have hw0 : zI μ 0 0 = nI w := hL.2.2.2.2.2.2.2.2.1
  have hh0 : zI μ 0 1 = nI h := hL.2.2.2.2.2.2.2.2.2.1
  have hy0 : zI μ 0 2 = ly := hL.2.2.2.2.2.2.2.2.2.2.1
  have hwb := hL.2.2.2.2.2.2.2.2.2.2.2
  refine zx_aload_n dX6_nest_0 rfl rfl ?_
  refine zx_iload_n dX6_nest_1 rfl rfl ?_
  refine zx_iload_n dX6_nest_2 rfl rfl ?_
  refine zx_callV1 _ zv_X6_128 (m_X6_waterAt hG hL hW) (by assumption) (by decide) rfl rfl rfl ⟨rfl, rfl, (Nat.le_of_ble_eq_true rfl), (Nat.le_of_ble_eq_true rfl)⟩ (Nat.le_of_ble_eq_true rfl) dX6_nest_3 ?_
  refine zx_astore dX6_nest_6 (Nat.le_of_ble_eq_true rfl) ?_
  refine zx_aload dX6_nest_8 rfl ?_
  refine zx_ifnull (tgt := 32) dX6_nest_10 (by decide) (fun c_10 => ?_) (fun r_10 c_10 => ?_)
  · skip
    rw [c_10]
    refine zx_iconst (-1) dX6_nest_32 (by decide) ?_
    exact zx_ireturn rfl (by simp [zKa, s_nest, c_10, hT]) (by simp [zKm, u_nest, c_10, hT]) dX6_nest_33
  · skip
    have hO_10 : zO g 0 r_10 := (by obtain ⟨i, j, hi, hj, -, -, rfl⟩ := s_cellAt_in (by omega) (by omega) (s_waterAt_in c_10).1; exact hG.cell (zplace hi hj))
    rw [c_10]
    refine zx_aload dX6_nest_13 rfl ?_
    refine zx_getR zf_X6_196 (by assumption) (show _ = zR μ r_10 7 from rfl) rfl dX6_nest_15 ?_
    refine zx_ifnonnull (tgt := 32) dX6_nest_18 (by decide) (fun c_18 => ?_) (fun r_18 c_18 => ?_)
    · skip
      refine zx_iload_n dX6_nest_21 rfl rfl ?_
      refine zx_iconst 2 dX6_nest_22 (by decide) ?_
      refine zx_icmp_lt (tgt := 32) dX6_nest_23 (by decide) (fun c_23 => ?_) (fun c_23 => ?_)
      · skip
        refine zx_iconst (-1) dX6_nest_32 (by decide) ?_
        exact zx_ireturn rfl (by simp [zKa, s_nest, c_10, c_18, c_23, hT]) (by simp [zKm, u_nest, c_10, c_18, c_23, hT]) dX6_nest_33
      · skip
        refine zx_iload_n dX6_nest_26 rfl rfl ?_
        refine zx_bipush 8 dX6_nest_27 (by decide) ?_
        refine zx_icmp_le (tgt := 34) dX6_nest_29 (by decide) (fun c_29 => ?_) (fun c_29 => ?_)
        · skip
          obtain ⟨C, hC, rfl⟩ := znz8 c_23 c_29
          refine zx_aload_n dX6_nest_34 rfl rfl ?_
          refine zx_getI zf_X6_200 (by assumption) (Or.inl rfl) dX6_nest_35 ?_
          rw [hI]
          refine zx_istore dX6_nest_38 (Nat.le_of_ble_eq_true rfl) ?_
          refine zx_iload dX6_nest_40 rfl ?_
          refine zx_if_lt (tgt := 55) dX6_nest_42 (by decide) (fun h_ => absurd h_ (by have := nI_pos (show T < 2 ^ 31 by omega); exact this)) (fun _ => ?_)
          refine zx_iload dX6_nest_45 rfl ?_
          refine zx_aload_n dX6_nest_47 rfl rfl ?_
          refine zx_getR zf_X6_58 (by assumption) (show _ = some 6 from hL.R0 (k := 8) (by decide)) rfl dX6_nest_48 ?_
          refine zx_alen (nI 10) (by assumption) (by decide) (by rw [hl6]) dX6_nest_51 ?_
          refine zx_icmp_lt (tgt := 57) dX6_nest_52 (by decide) (fun _ => ?_) (fun h_ => absurd h_ (fun q => q (nI_lt hT (by decide))))
          refine zx_aload_n dX6_nest_57 rfl rfl ?_
          refine zx_getR zf_X6_58 (by assumption) (show _ = some 6 from hL.R0 (k := 8) (by decide)) rfl dX6_nest_58 ?_
          refine zx_iload dX6_nest_61 rfl ?_
          refine zx_aald T hO6 (by decide) rfl ⟨by rw [hl6]; exact hT, by rw [hl6]; decide⟩ (hL.2.2.2.2.1 T hT).1 dX6_nest_63 ?_
          refine zx_aload dX6_nest_64 rfl ?_
          refine zx_iload_n dX6_nest_66 rfl rfl ?_
          refine zx_callV0 _ zv_X6_203 (m_X2_settleIn (n := 60 + T) (c := r_10) (sh := 70 + T) (C := C) (hG.nest hT) hO_10 hW (hL.2.2.2.2.1 T hT).2 (hG.share hT).2 hC) (hG.nest hT) (by decide) rfl rfl rfl ⟨rfl, rfl, (Nat.le_of_ble_eq_true rfl), (Nat.le_of_ble_eq_true rfl)⟩ (Nat.le_of_ble_eq_true rfl) dX6_nest_67 ?_
          refine zx_aload_n dX6_nest_70 rfl rfl ?_
          refine zx_iload dX6_nest_71 rfl ?_
          refine zx_iconst 1 dX6_nest_73 (by decide) ?_
          refine zx_iadd dX6_nest_74 ?_
          refine zx_putI zf_X6_200 (by assumption) ⟨rfl, rfl⟩ (Or.inl rfl) dX6_nest_75 ?_
          refine zx_aload_n dX6_nest_78 rfl rfl ?_
          refine zx_dup dX6_nest_79 rfl ?_
          refine zx_getI zf_X6_109 (by assumption) (Or.inl rfl) dX6_nest_80 ?_
          refine zx_iconst 1 dX6_nest_83 (by decide) ?_
          refine zx_iadd dX6_nest_84 ?_
          refine zx_putI zf_X6_109 (by assumption) ⟨rfl, rfl⟩ (Or.inl rfl) dX6_nest_85 ?_
          refine zx_iload dX6_nest_88 rfl ?_
          exact zx_ireturn rfl (by simp [zKa, s_nest, c_10, c_18, c_23, c_29, hT]) (by show u_nest μ w h T x y (nI C) = _; unfold u_nest; rw [c_10]; show (match zR μ r_10 7 with | some _ => μ | none => if nI C < 2 then μ else if nI C ≤ 8 then (if T < 10 then u_nest1 μ r_10 T (nI C).toNatClampNeg else μ) else μ) = _; rw [c_18]; show (if nI C < 2 then μ else if nI C ≤ 8 then (if T < 10 then u_nest1 μ r_10 T (nI C).toNatClampNeg else μ) else μ) = _; rw [if_neg c_23, if_pos c_29, if_pos hT, nI_clamp (by omega)]; rfl) dX6_nest_90
        · skip
          refine zx_iconst (-1) dX6_nest_32 (by decide) ?_
          exact zx_ireturn rfl (by simp [zKa, s_nest, c_10, c_18, c_23, c_29, hT]) (by simp [zKm, u_nest, c_10, c_18, c_23, c_29, hT]) dX6_nest_33
    · skip
      have hO_18 : zO g 2 r_18 := hW 0 _ _ _ (by assumption) c_18
      refine zx_iconst (-1) dX6_nest_32 (by decide) ?_
      exact zx_ireturn rfl (by simp [zKa, s_nest, c_10, c_18, hT]) (by simp [zKm, u_nest, c_10, c_18, hT]) dX6_nest_33

set_option maxHeartbeats 4000000 in
set_option maxRecDepth 100000 in
theorem m_X6_nest_full {g : ZG} {μ : ZMem} {w h : Nat} {ly : Int32} (hG : zGC g (w * h) (fcA w h)) (hL : zLC w h ly μ) (hW : zWf g μ) {T : Nat} (hI : zI μ 0 11 = nI T) {x y z : Int32} (hT : T = 10) : zCab g RX6 yX6_nest cX6_nest 6 ((some FieldType.int)) (zrm 2) [zr (some 0), zi x, zi y, zi z] μ (some (zi (s_nest μ w h T x y z))) (u_nest μ w h T x y z) := by
  refine zCab_w (by decide +kernel) rfl (Nat.le_of_ble_eq_true rfl) ?_
  have hO0 : zO g 6 0 := hG.fix 0 (by decide)
  have hO1 : zO g 12 1 := hG.fix 1 (by decide)
  have hO2 : zO g 13 2 := hG.fix 2 (by decide)
  have hO3 : zO g 15 3 := hG.fix 3 (by decide)
  have hO4 : zO g 8 4 := hG.fix 4 (by decide)
  have hO5 : zO g 8 5 := hG.fix 5 (by decide)
  have hO6 : zO g 14 6 := hG.fix 6 (by decide)
  have hO7 : zO g 16 7 := hG.fix 7 (by decide)
  have hO8 : zO g 5 8 := hG.fix 8 (by decide)
  have hl1 : zln g 1 = w * h := hG.l _ (Or.inl (by decide)) rfl
  have hl2 : zln g 2 = fcA w h := hG.l _ (Or.inl (by decide)) rfl
  have hl3 : zln g 3 = 4 := hG.l _ (Or.inl (by decide)) rfl
  have hl4 : zln g 4 = 24 := hG.l _ (Or.inl (by decide)) rfl
  have hl5 : zln g 5 = 24 := hG.l _ (Or.inl (by decide)) rfl
  have hl6 : zln g 6 = 10 := hG.l _ (Or.inl (by decide)) rfl
  have hl7 : zln g 7 = 4 := hG.l _ (Or.inl (by decide)) rfl
  have hN := hG.1
  have hF := hG.2.1
  have hw0 : zI μ 0 0 = nI w := hL.2.2.2.2.2.2.2.2.1
  have hh0 : zI μ 0 1 = nI h := hL.2.2.2.2.2.2.2.2.2.1
  have hy0 : zI μ 0 2 = ly := hL.2.2.2.2.2.2.2.2.2.2.1
  have hwb := hL.2.2.2.2.2.2.2.2.2.2.2
  refine zx_aload_n dX6_nest_0 rfl rfl ?_
  refine zx_iload_n dX6_nest_1 rfl rfl ?_
  refine zx_iload_n dX6_nest_2 rfl rfl ?_
  refine zx_callV1 _ zv_X6_128 (m_X6_waterAt hG hL hW) (by assumption) (by decide) rfl rfl rfl ⟨rfl, rfl, (Nat.le_of_ble_eq_true rfl), (Nat.le_of_ble_eq_true rfl)⟩ (Nat.le_of_ble_eq_true rfl) dX6_nest_3 ?_
  refine zx_astore dX6_nest_6 (Nat.le_of_ble_eq_true rfl) ?_
  refine zx_aload dX6_nest_8 rfl ?_
  refine zx_ifnull (tgt := 32) dX6_nest_10 (by decide) (fun c_10 => ?_) (fun r_10 c_10 => ?_)
  · skip
    rw [c_10]
    refine zx_iconst (-1) dX6_nest_32 (by decide) ?_
    exact zx_ireturn rfl (by simp [zKa, s_nest, c_10, hT]) (by simp [zKm, u_nest, c_10, hT]) dX6_nest_33
  · skip
    have hO_10 : zO g 0 r_10 := (by obtain ⟨i, j, hi, hj, -, -, rfl⟩ := s_cellAt_in (by omega) (by omega) (s_waterAt_in c_10).1; exact hG.cell (zplace hi hj))
    rw [c_10]
    refine zx_aload dX6_nest_13 rfl ?_
    refine zx_getR zf_X6_196 (by assumption) (show _ = zR μ r_10 7 from rfl) rfl dX6_nest_15 ?_
    refine zx_ifnonnull (tgt := 32) dX6_nest_18 (by decide) (fun c_18 => ?_) (fun r_18 c_18 => ?_)
    · skip
      refine zx_iload_n dX6_nest_21 rfl rfl ?_
      refine zx_iconst 2 dX6_nest_22 (by decide) ?_
      refine zx_icmp_lt (tgt := 32) dX6_nest_23 (by decide) (fun c_23 => ?_) (fun c_23 => ?_)
      · skip
        refine zx_iconst (-1) dX6_nest_32 (by decide) ?_
        exact zx_ireturn rfl (by simp [zKa, s_nest, c_10, c_18, c_23, hT]) (by simp [zKm, u_nest, c_10, c_18, c_23, hT]) dX6_nest_33
      · skip
        refine zx_iload_n dX6_nest_26 rfl rfl ?_
        refine zx_bipush 8 dX6_nest_27 (by decide) ?_
        refine zx_icmp_le (tgt := 34) dX6_nest_29 (by decide) (fun c_29 => ?_) (fun c_29 => ?_)
        · skip
          refine zx_aload_n dX6_nest_34 rfl rfl ?_
          refine zx_getI zf_X6_200 (by assumption) (Or.inl rfl) dX6_nest_35 ?_
          rw [hI, hT]
          refine zx_istore dX6_nest_38 (Nat.le_of_ble_eq_true rfl) ?_
          refine zx_iload dX6_nest_40 rfl ?_
          refine zx_if_lt (tgt := 55) dX6_nest_42 (by decide) (fun h_ => absurd h_ (by decide)) (fun _ => ?_)
          refine zx_iload dX6_nest_45 rfl ?_
          refine zx_aload_n dX6_nest_47 rfl rfl ?_
          refine zx_getR zf_X6_58 (by assumption) (show _ = some 6 from hL.R0 (k := 8) (by decide)) rfl dX6_nest_48 ?_
          refine zx_alen (nI 10) (by assumption) (by decide) (by rw [hl6]) dX6_nest_51 ?_
          refine zx_icmp_lt (tgt := 57) dX6_nest_52 (by decide) (fun h_ => absurd h_ (by decide)) (fun _ => ?_)
          refine zx_iconst (-1) dX6_nest_55 (by decide) ?_
          exact zx_ireturn rfl (by simp [zKa, s_nest, c_10, c_18, c_23, c_29, hT]) (by simp [zKm, u_nest, c_10, c_18, c_23, c_29, hT]) dX6_nest_56
        · skip
          refine zx_iconst (-1) dX6_nest_32 (by decide) ?_
          exact zx_ireturn rfl (by simp [zKa, s_nest, c_10, c_18, c_23, c_29, hT]) (by simp [zKm, u_nest, c_10, c_18, c_23, c_29, hT]) dX6_nest_33
    · skip
      have hO_18 : zO g 2 r_18 := hW 0 _ _ _ (by assumption) c_18
      refine zx_iconst (-1) dX6_nest_32 (by decide) ?_
      exact zx_ireturn rfl (by simp [zKa, s_nest, c_10, c_18, hT]) (by simp [zKm, u_nest, c_10, c_18, hT]) dX6_nest_33

