def s_bsh (μ : ZMem) (c : Nat) : Nat := match zR μ c 7 with
  | none => 0
  | some n => (zR μ n 0).getD 0
def s_bC (μ : ZMem) (c : Nat) : Nat := match zR μ c 7 with
  | none => 0
  | some n => s_cnt μ n
theorem zbeds {g : ZG} {w h : Nat} {ly : Int32} {μ : ZMem} (hG : zGC g (w * h) (fcA w h)) (hL : zLC w h ly μ) (hB : zNB (w * h) μ) {k : Nat} (hk : k < w * h) : ∀ n, zR μ (1000 + k) 7 = some n → zR μ n 0 = some (s_bsh μ (1000 + k)) ∧ zln g (s_bsh μ (1000 + k)) = 8 ∧ zI μ n 2 = nI (s_bC μ (1000 + k)) ∧ s_bC μ (1000 + k) ≤ 8 := by
  intro n hn
  obtain ⟨i, hi, rfl⟩ := hB.1 k n hk hn
  have e1 : s_bsh μ (1000 + k) = 70 + i := by
    unfold s_bsh
    rw [hn]
    show (zR μ (60 + i) 0).getD 0 = _
    rw [(hL.2.2.2.2.1 i hi).2]
    rfl
  have e2 : s_bC μ (1000 + k) = s_cnt μ (60 + i) := by
    unfold s_bC
    rw [hn]
  rw [e1, e2]
  exact ⟨(hL.2.2.2.2.1 i hi).2, (hG.share hi).2, (hB.cnt hi).1, (hB.cnt hi).2⟩
def u_sB (k : Nat) (μ : ZMem) : ZMem := u_beginStep μ (1000 + k)
def u_sS (k : Nat) (μ : ZMem) : ZMem := u_stand μ (30 + k) (40 + k) (50 + k) (zD μ 0 14)
def u_sF (hr : Nat) (h : UInt64) (n : Nat) (μ : ZMem) : ZMem := u_settle μ (2000 + n) h (if zI μ (2000 + n) 3 = 0 then zD μ 4 hr else zD μ 5 hr)
def u_sC (n : Nat) (μ : ZMem) : ZMem := u_carry μ (2000 + n)
def u_sE1 (h : UInt64) (k : Nat) (μ : ZMem) : ZMem := zsL (u_take μ (1000 + k) h) 0 16 (zL μ 0 16 + s_take μ (1000 + k) h)
def u_sE (h : UInt64) (k : Nat) (μ : ZMem) : ZMem := u_endStep (u_sE1 h k μ) (1000 + k) (s_bsh (u_sE1 h k μ) (1000 + k)) (s_bC (u_sE1 h k μ) (1000 + k)) h
theorem zRI_sB (n : Nat) (μ : ZMem) : zR (zit u_sB n μ) = zR μ ∧ zI (zit u_sB n μ) = zI μ := ⟨zit_keep (f := u_sB) zR (fun _ _ => rfl) n μ, zit_keep (f := u_sB) zI (fun _ _ => rfl) n μ⟩
theorem zRI_sS (n : Nat) (μ : ZMem) : zR (zit u_sS n μ) = zR μ ∧ zI (zit u_sS n μ) = zI μ := ⟨zit_keep (f := u_sS) zR (fun _ _ => zR_u_stand _ _ _ _ _) n μ, zit_keep (f := u_sS) zI (fun _ _ => zI_u_stand _ _ _ _ _) n μ⟩
theorem zRI_sF (hr : Nat) (h : UInt64) (n : Nat) (μ : ZMem) : zR (zit (u_sF hr h) n μ) = zR μ ∧ zI (zit (u_sF hr h) n μ) = zI μ := ⟨zit_keep (f := u_sF hr h) zR (fun _ _ => zR_u_settle _ _ _ _) n μ, zit_keep (f := u_sF hr h) zI (fun _ _ => zI_u_settle _ _ _ _) n μ⟩
theorem zRI_sC (n : Nat) (μ : ZMem) : zR (zit u_sC n μ) = zR μ ∧ zI (zit u_sC n μ) = zI μ := ⟨zit_keep (f := u_sC) zR (fun _ _ => (zRI_carry _ _).1) n μ, zit_keep (f := u_sC) zI (fun _ _ => (zRI_carry _ _).2) n μ⟩
theorem zRI_sE1 (h : UInt64) (k : Nat) (μ : ZMem) : zR (u_sE1 h k μ) = zR μ ∧ zI (u_sE1 h k μ) = zI μ := zRI_take μ (1000 + k) h
theorem zRI_sE (h : UInt64) (n : Nat) (μ : ZMem) : zR (zit (u_sE h) n μ) = zR μ ∧ zI (zit (u_sE h) n μ) = zI μ := ⟨zit_keep (f := u_sE h) zR (fun k m => (zRI_end _ _ _ _ _).1.trans (zRI_sE1 h k m).1) n μ, zit_keep (f := u_sE h) zI (fun k m => (zRI_end _ _ _ _ _).2.trans (zRI_sE1 h k m).2) n μ⟩
def u_step (N F hr : Nat) (h : UInt64) (μ : ZMem) : ZMem := (fun m : ZMem => zsD m 0 14 (zadd (zD m 0 14) h)) (zit (u_sE h) N (zit u_sC F (zit (u_sF hr h) F (zit u_sS 4 (zit u_sB N μ)))))
theorem zRI_step (N F hr : Nat) (h : UInt64) (μ : ZMem) : zR (u_step N F hr h μ) = zR μ ∧ zI (u_step N F hr h μ) = zI μ := zRI_trans (zRI_sE _ _ _) (zRI_trans (zRI_sC _ _) (zRI_trans (zRI_sF _ _ _ _) (zRI_trans (zRI_sS _ _) (zRI_sB _ _))))
set_option maxHeartbeats 4000000 in
set_option maxRecDepth 100000 in
theorem L_X6_step1 {g : ZG} {μ : ZMem} {w h : Nat} {ly : Int32} (hG : zGC g (w * h) (fcA w h)) (hL : zLC w h ly μ) (hW : zWf g μ) {hr : Nat} (hhr : hr < 24) {v : UInt64} {res : Option ZV} {μ' : ZMem} (hx : zWA g (RX6, cX6_step, 8, none, zrm 3, res, μ') 56 (zls [(0, zr (some 0)), (1, zd v), (3, zi (nI hr)), (4, zr (some 1)), (5, zi (nI (w * h))), (6, zi (nI ((w * h))))]) [] (zit u_sB ((w * h)) μ)) : zWA g (RX6, cX6_step, 8, none, zrm 3, res, μ') 31 (zls [(0, zr (some 0)), (1, zd v), (3, zi (nI hr)), (4, zr (some 1)), (5, zi (nI (w * h))), (6, zi (nI (0)))]) [] μ := by
  have hO0 : zO g 6 0 := hG.fix 0 (by decide)
  have hO1 : zO g 12 1 := hG.fix 1 (by decide)
  have hO2 : zO g 13 2 := hG.fix 2 (by decide)
  have hO3 : zO g 15 3 := hG.fix 3 (by decide)
  have hO4 : zO g 8 4 := hG.fix 4 (by decide)
  have hO5 : zO g 8 5 := hG.fix 5 (by decide)
  have hO6 : zO g 14 6 := hG.fix 6 (by decide)
  have hO7 : zO g 16 7 := hG.fix 7 (by decide)
  have hO8 : zO g 5 8 := hG.fix 8 (by decide)
  have hl1 : zln g 1 = w * h := hG.l _ (Or.inl (by decide)) rfl
  have hl2 : zln g 2 = fcA w h := hG.l _ (Or.inl (by decide)) rfl
  have hl3 : zln g 3 = 4 := hG.l _ (Or.inl (by decide)) rfl
  have hl4 : zln g 4 = 24 := hG.l _ (Or.inl (by decide)) rfl
  have hl5 : zln g 5 = 24 := hG.l _ (Or.inl (by decide)) rfl
  have hl6 : zln g 6 = 10 := hG.l _ (Or.inl (by decide)) rfl
  have hl7 : zln g 7 = 4 := hG.l _ (Or.inl (by decide)) rfl
  have hN := hG.1
  have hF := hG.2.1
  have hw0 : zI μ 0 0 = nI w := hL.2.2.2.2.2.2.2.2.1
  have hh0 : zI μ 0 1 = nI h := hL.2.2.2.2.2.2.2.2.2.1
  have hy0 : zI μ 0 2 = ly := hL.2.2.2.2.2.2.2.2.2.2.1
  have hwb := hL.2.2.2.2.2.2.2.2.2.2.2
  have hE : ∀ k, zR (zit u_sB k μ) = zR μ ∧ zI (zit u_sB k μ) = zI μ := fun k => zRI_sB _ _
  have hWk : ∀ k, zWf g (zit u_sB k μ) := fun k => zWf_E (hE k).1 hW
  have hLk : ∀ k, zLC w h ly (zit u_sB k μ) := fun k => zLC_RI (hE k) hL
  refine zloop (P := fun k => zWA g (RX6, cX6_step, 8, none, zrm 3, res, μ') 31 (zls [(0, zr (some 0)), (1, zd v), (3, zi (nI hr)), (4, zr (some 1)), (5, zi (nI (w * h))), (6, zi (nI (k)))]) [] (zit u_sB (k) μ)) (N := (w * h)) ?_ ?_ 0 (Nat.zero_le _)
  · show zWA _ _ _ _ _ _
    refine zx_iload dX6_step_31 rfl ?_
    refine zx_iload dX6_step_33 rfl ?_
    refine zx_icmp_ge (tgt := 56) dX6_step_35 (by decide) (fun _ => ?_) (fun h_ => absurd h_ (by simp))
    exact zWA_to hx ⟨rfl, rfl, rfl, rfl, rfl, rfl, trivial⟩
  · intro k hk hn_
    show zWA _ _ _ _ _ _
    refine zx_iload dX6_step_31 rfl ?_
    refine zx_iload dX6_step_33 rfl ?_
    refine zx_icmp_ge (tgt := 56) dX6_step_35 (by decide) (fun h_ => absurd h_ (nI_ge hk (by omega))) (fun _ => ?_)
    refine zx_aload dX6_step_38 rfl ?_
    refine zx_iload dX6_step_40 rfl ?_
    refine zx_aald k (by assumption) (by decide) rfl ⟨by rw [hl1]; exact hk, by rw [hl1]; omega⟩ ((hLk _).2.1 k hk) dX6_step_42 ?_
    refine zx_astore dX6_step_43 (Nat.le_of_ble_eq_true rfl) ?_
    refine zx_aload dX6_step_45 rfl ?_
    refine zx_callV0 _ zv_X6_287 (m_X0_beginStep (hG.cell hk)) (hG.cell hk) (by decide) rfl rfl rfl ⟨rfl, rfl, (Nat.le_of_ble_eq_true rfl), (Nat.le_of_ble_eq_true rfl)⟩ (Nat.le_of_ble_eq_true rfl) dX6_step_47 ?_
    refine zx_iinc (nI (k + 1)) dX6_step_50 rfl (by exact nI_1 k) (Nat.le_of_ble_eq_true rfl) ?_
    refine zx_goto (tgt := 31) dX6_step_53 (by decide) ?_
    exact zWA_to (zWA_mem hn_ (by rfl)) ⟨rfl, rfl, rfl, rfl, rfl, rfl, trivial⟩

set_option maxHeartbeats 4000000 in
set_option maxRecDepth 100000 in
theorem L_X6_step2 {g : ZG} {μ : ZMem} {w h : Nat} {ly : Int32} (hG : zGC g (w * h) (fcA w h)) (hL : zLC w h ly μ) (hW : zWf g μ) {hr : Nat} (hhr : hr < 24) {v : UInt64} {res : Option ZV} {μ' : ZMem} (hx : zWA g (RX6, cX6_step, 8, none, zrm 3, res, μ') 99 (zls [(0, zr (some 0)), (1, zd v), (3, zi (nI hr)), (4, zr (some 3)), (5, zi (nI 4)), (6, zi (nI (4)))]) [] (zit u_sS (4) μ)) : zWA g (RX6, cX6_step, 8, none, zrm 3, res, μ') 70 (zls [(0, zr (some 0)), (1, zd v), (3, zi (nI hr)), (4, zr (some 3)), (5, zi (nI 4)), (6, zi (nI (0)))]) [] μ := by
  have hO0 : zO g 6 0 := hG.fix 0 (by decide)
  have hO1 : zO g 12 1 := hG.fix 1 (by decide)
  have hO2 : zO g 13 2 := hG.fix 2 (by decide)
  have hO3 : zO g 15 3 := hG.fix 3 (by decide)
  have hO4 : zO g 8 4 := hG.fix 4 (by decide)
  have hO5 : zO g 8 5 := hG.fix 5 (by decide)
  have hO6 : zO g 14 6 := hG.fix 6 (by decide)
  have hO7 : zO g 16 7 := hG.fix 7 (by decide)
  have hO8 : zO g 5 8 := hG.fix 8 (by decide)
  have hl1 : zln g 1 = w * h := hG.l _ (Or.inl (by decide)) rfl
  have hl2 : zln g 2 = fcA w h := hG.l _ (Or.inl (by decide)) rfl
  have hl3 : zln g 3 = 4 := hG.l _ (Or.inl (by decide)) rfl
  have hl4 : zln g 4 = 24 := hG.l _ (Or.inl (by decide)) rfl
  have hl5 : zln g 5 = 24 := hG.l _ (Or.inl (by decide)) rfl
  have hl6 : zln g 6 = 10 := hG.l _ (Or.inl (by decide)) rfl
  have hl7 : zln g 7 = 4 := hG.l _ (Or.inl (by decide)) rfl
  have hN := hG.1
  have hF := hG.2.1
  have hw0 : zI μ 0 0 = nI w := hL.2.2.2.2.2.2.2.2.1
  have hh0 : zI μ 0 1 = nI h := hL.2.2.2.2.2.2.2.2.2.1
  have hy0 : zI μ 0 2 = ly := hL.2.2.2.2.2.2.2.2.2.2.1
  have hwb := hL.2.2.2.2.2.2.2.2.2.2.2
  have hE : ∀ k, zR (zit u_sS k μ) = zR μ ∧ zI (zit u_sS k μ) = zI μ := fun k => zRI_sS _ _
  have hWk : ∀ k, zWf g (zit u_sS k μ) := fun k => zWf_E (hE k).1 hW
  have hLk : ∀ k, zLC w h ly (zit u_sS k μ) := fun k => zLC_RI (hE k) hL
  refine zloop (P := fun k => zWA g (RX6, cX6_step, 8, none, zrm 3, res, μ') 70 (zls [(0, zr (some 0)), (1, zd v), (3, zi (nI hr)), (4, zr (some 3)), (5, zi (nI 4)), (6, zi (nI (k)))]) [] (zit u_sS (k) μ)) (N := 4) ?_ ?_ 0 (Nat.zero_le _)
  · show zWA _ _ _ _ _ _
    refine zx_iload dX6_step_70 rfl ?_
    refine zx_iload dX6_step_72 rfl ?_
    refine zx_icmp_ge (tgt := 99) dX6_step_74 (by decide) (fun _ => ?_) (fun h_ => absurd h_ (by simp))
    exact zWA_to hx ⟨rfl, rfl, rfl, rfl, rfl, rfl, trivial⟩
  · intro k hk hn_
    show zWA _ _ _ _ _ _
    refine zx_iload dX6_step_70 rfl ?_
    refine zx_iload dX6_step_72 rfl ?_
    refine zx_icmp_ge (tgt := 99) dX6_step_74 (by decide) (fun h_ => absurd h_ (nI_ge hk (by omega))) (fun _ => ?_)
    refine zx_aload dX6_step_77 rfl ?_
    refine zx_iload dX6_step_79 rfl ?_
    refine zx_aald k (by assumption) (by decide) rfl ⟨by rw [hl3]; exact hk, by rw [hl3]; omega⟩ ((hLk _).2.2.2.1 k hk).1 dX6_step_81 ?_
    refine zx_astore dX6_step_82 (Nat.le_of_ble_eq_true rfl) ?_
    refine zx_aload dX6_step_84 rfl ?_
    refine zx_aload_n dX6_step_86 rfl rfl ?_
    refine zx_getD zf_X6_252 (by assumption) rfl dX6_step_87 ?_
    refine zx_callV0 _ zv_X6_290 (m_X3_stand (hG.side hk) (hWk k) ((hLk k).2.2.2.1 k hk).2.1 ((hLk k).2.2.2.1 k hk).2.2 (hG.size hk).2 (hG.phase hk).2) (hG.side hk) (by decide) rfl rfl rfl ⟨rfl, rfl, (Nat.le_of_ble_eq_true rfl), (Nat.le_of_ble_eq_true rfl)⟩ (Nat.le_of_ble_eq_true rfl) dX6_step_90 ?_
    refine zx_iinc (nI (k + 1)) dX6_step_93 rfl (by exact nI_1 k) (Nat.le_of_ble_eq_true rfl) ?_
    refine zx_goto (tgt := 70) dX6_step_96 (by decide) ?_
    exact zWA_to (zWA_mem hn_ (by rfl)) ⟨rfl, rfl, rfl, rfl, rfl, rfl, trivial⟩

set_option maxHeartbeats 4000000 in
set_option maxRecDepth 100000 in
theorem L_X6_step3 {g : ZG} {μ : ZMem} {w h : Nat} {ly : Int32} (hG : zGC g (w * h) (fcA w h)) (hL : zLC w h ly μ) (hW : zWf g μ) {hr : Nat} (hhr : hr < 24) {v : UInt64} {res : Option ZV} {μ' : ZMem} (hx : zWA g (RX6, cX6_step, 8, none, zrm 3, res, μ') 162 (zls [(0, zr (some 0)), (1, zd v), (3, zi (nI hr)), (4, zr (some 2)), (5, zi (nI (fcA w h))), (6, zi (nI ((fcA w h))))]) [] (zit (u_sF hr v) ((fcA w h)) μ)) : zWA g (RX6, cX6_step, 8, none, zrm 3, res, μ') 113 (zls [(0, zr (some 0)), (1, zd v), (3, zi (nI hr)), (4, zr (some 2)), (5, zi (nI (fcA w h))), (6, zi (nI (0)))]) [] μ := by
  have hO0 : zO g 6 0 := hG.fix 0 (by decide)
  have hO1 : zO g 12 1 := hG.fix 1 (by decide)
  have hO2 : zO g 13 2 := hG.fix 2 (by decide)
  have hO3 : zO g 15 3 := hG.fix 3 (by decide)
  have hO4 : zO g 8 4 := hG.fix 4 (by decide)
  have hO5 : zO g 8 5 := hG.fix 5 (by decide)
  have hO6 : zO g 14 6 := hG.fix 6 (by decide)
  have hO7 : zO g 16 7 := hG.fix 7 (by decide)
  have hO8 : zO g 5 8 := hG.fix 8 (by decide)
  have hl1 : zln g 1 = w * h := hG.l _ (Or.inl (by decide)) rfl
  have hl2 : zln g 2 = fcA w h := hG.l _ (Or.inl (by decide)) rfl
  have hl3 : zln g 3 = 4 := hG.l _ (Or.inl (by decide)) rfl
  have hl4 : zln g 4 = 24 := hG.l _ (Or.inl (by decide)) rfl
  have hl5 : zln g 5 = 24 := hG.l _ (Or.inl (by decide)) rfl
  have hl6 : zln g 6 = 10 := hG.l _ (Or.inl (by decide)) rfl
  have hl7 : zln g 7 = 4 := hG.l _ (Or.inl (by decide)) rfl
  have hN := hG.1
  have hF := hG.2.1
  have hw0 : zI μ 0 0 = nI w := hL.2.2.2.2.2.2.2.2.1
  have hh0 : zI μ 0 1 = nI h := hL.2.2.2.2.2.2.2.2.2.1
  have hy0 : zI μ 0 2 = ly := hL.2.2.2.2.2.2.2.2.2.2.1
  have hwb := hL.2.2.2.2.2.2.2.2.2.2.2
  have hE : ∀ k, zR (zit (u_sF hr v) k μ) = zR μ ∧ zI (zit (u_sF hr v) k μ) = zI μ := fun k => zRI_sF _ _ _ _
  have hWk : ∀ k, zWf g (zit (u_sF hr v) k μ) := fun k => zWf_E (hE k).1 hW
  have hLk : ∀ k, zLC w h ly (zit (u_sF hr v) k μ) := fun k => zLC_RI (hE k) hL
  refine zloop (P := fun k => zWA g (RX6, cX6_step, 8, none, zrm 3, res, μ') 113 (zls [(0, zr (some 0)), (1, zd v), (3, zi (nI hr)), (4, zr (some 2)), (5, zi (nI (fcA w h))), (6, zi (nI (k)))]) [] (zit (u_sF hr v) (k) μ)) (N := (fcA w h)) ?_ ?_ 0 (Nat.zero_le _)
  · show zWA _ _ _ _ _ _
    refine zx_iload dX6_step_113 rfl ?_
    refine zx_iload dX6_step_115 rfl ?_
    refine zx_icmp_ge (tgt := 162) dX6_step_117 (by decide) (fun _ => ?_) (fun h_ => absurd h_ (by simp))
    exact zWA_to hx ⟨rfl, rfl, rfl, rfl, rfl, rfl, trivial⟩
  · intro k hk hn_
    show zWA _ _ _ _ _ _
    refine zx_iload dX6_step_113 rfl ?_
    refine zx_iload dX6_step_115 rfl ?_
    refine zx_icmp_ge (tgt := 162) dX6_step_117 (by decide) (fun h_ => absurd h_ (nI_ge hk (by omega))) (fun _ => ?_)
    refine zx_aload dX6_step_120 rfl ?_
    refine zx_iload dX6_step_122 rfl ?_
    refine zx_aald k (by assumption) (by decide) rfl ⟨by rw [hl2]; exact hk, by rw [hl2]; omega⟩ ((hLk _).2.2.1 k hk) dX6_step_124 ?_
    refine zx_astore dX6_step_125 (Nat.le_of_ble_eq_true rfl) ?_
    refine zx_aload dX6_step_127 rfl ?_
    refine zx_dload_n dX6_step_129 rfl rfl ?_
    refine zx_aload dX6_step_130 rfl ?_
    refine zx_getI zf_X6_155 (hG.face hk) (Or.inl rfl) dX6_step_132 ?_
    refine zx_if_ne (tgt := 147) dX6_step_135 (by decide) (fun c_135 => ?_) (fun c_135 => ?_)
    · skip
      refine zx_aload_n dX6_step_147 rfl rfl ?_
      refine zx_getR zf_X6_51 (by assumption) (show _ = some 5 from (hLk k).R0 (k := 7) (by decide)) rfl dX6_step_148 ?_
      refine zx_iload_n dX6_step_151 rfl rfl ?_
      refine zx_dald hr hO5 rfl ⟨by rw [hl5]; exact hhr, by rw [hl5]; decide⟩ dX6_step_152 ?_
      refine zx_callV0 _ zv_X6_293 (m_X1_settle (hG.face hk) (hWk k)) (hG.face hk) (by decide) rfl rfl rfl ⟨rfl, rfl, (Nat.le_of_ble_eq_true rfl), (Nat.le_of_ble_eq_true rfl)⟩ (Nat.le_of_ble_eq_true rfl) dX6_step_153 ?_
      refine zx_iinc (nI (k + 1)) dX6_step_156 rfl (by exact nI_1 k) (Nat.le_of_ble_eq_true rfl) ?_
      refine zx_goto (tgt := 113) dX6_step_159 (by decide) ?_
      exact zWA_to (zWA_mem hn_ (by exact (congrArg (fun q => u_settle (zit (u_sF hr v) k μ) (2000 + k) v q) (if_neg c_135)))) ⟨rfl, rfl, rfl, rfl, rfl, rfl, trivial⟩
    · skip
      refine zx_aload_n dX6_step_138 rfl rfl ?_
      refine zx_getR zf_X6_47 (by assumption) (show _ = some 4 from (hLk k).R0 (k := 6) (by decide)) rfl dX6_step_139 ?_
      refine zx_iload_n dX6_step_142 rfl rfl ?_
      refine zx_dald hr hO4 rfl ⟨by rw [hl4]; exact hhr, by rw [hl4]; decide⟩ dX6_step_143 ?_
      refine zx_goto (tgt := 153) dX6_step_144 (by decide) ?_
      refine zx_callV0 _ zv_X6_293 (m_X1_settle (hG.face hk) (hWk k)) (hG.face hk) (by decide) rfl rfl rfl ⟨rfl, rfl, (Nat.le_of_ble_eq_true rfl), (Nat.le_of_ble_eq_true rfl)⟩ (Nat.le_of_ble_eq_true rfl) dX6_step_153 ?_
      refine zx_iinc (nI (k + 1)) dX6_step_156 rfl (by exact nI_1 k) (Nat.le_of_ble_eq_true rfl) ?_
      refine zx_goto (tgt := 113) dX6_step_159 (by decide) ?_
      exact zWA_to (zWA_mem hn_ (by exact (congrArg (fun q => u_settle (zit (u_sF hr v) k μ) (2000 + k) v q) (if_pos c_135)))) ⟨rfl, rfl, rfl, rfl, rfl, rfl, trivial⟩

set_option maxHeartbeats 4000000 in
set_option maxRecDepth 100000 in
theorem L_X6_step4 {g : ZG} {μ : ZMem} {w h : Nat} {ly : Int32} (hG : zGC g (w * h) (fcA w h)) (hL : zLC w h ly μ) (hW : zWf g μ) {hr : Nat} (hhr : hr < 24) {v : UInt64} {res : Option ZV} {μ' : ZMem} (hx : zWA g (RX6, cX6_step, 8, none, zrm 3, res, μ') 201 (zls [(0, zr (some 0)), (1, zd v), (3, zi (nI hr)), (4, zr (some 2)), (5, zi (nI (fcA w h))), (6, zi (nI ((fcA w h))))]) [] (zit u_sC ((fcA w h)) μ)) : zWA g (RX6, cX6_step, 8, none, zrm 3, res, μ') 176 (zls [(0, zr (some 0)), (1, zd v), (3, zi (nI hr)), (4, zr (some 2)), (5, zi (nI (fcA w h))), (6, zi (nI (0)))]) [] μ := by
  have hO0 : zO g 6 0 := hG.fix 0 (by decide)
  have hO1 : zO g 12 1 := hG.fix 1 (by decide)
  have hO2 : zO g 13 2 := hG.fix 2 (by decide)
  have hO3 : zO g 15 3 := hG.fix 3 (by decide)
  have hO4 : zO g 8 4 := hG.fix 4 (by decide)
  have hO5 : zO g 8 5 := hG.fix 5 (by decide)
  have hO6 : zO g 14 6 := hG.fix 6 (by decide)
  have hO7 : zO g 16 7 := hG.fix 7 (by decide)
  have hO8 : zO g 5 8 := hG.fix 8 (by decide)
  have hl1 : zln g 1 = w * h := hG.l _ (Or.inl (by decide)) rfl
  have hl2 : zln g 2 = fcA w h := hG.l _ (Or.inl (by decide)) rfl
  have hl3 : zln g 3 = 4 := hG.l _ (Or.inl (by decide)) rfl
  have hl4 : zln g 4 = 24 := hG.l _ (Or.inl (by decide)) rfl
  have hl5 : zln g 5 = 24 := hG.l _ (Or.inl (by decide)) rfl
  have hl6 : zln g 6 = 10 := hG.l _ (Or.inl (by decide)) rfl
  have hl7 : zln g 7 = 4 := hG.l _ (Or.inl (by decide)) rfl
  have hN := hG.1
  have hF := hG.2.1
  have hw0 : zI μ 0 0 = nI w := hL.2.2.2.2.2.2.2.2.1
  have hh0 : zI μ 0 1 = nI h := hL.2.2.2.2.2.2.2.2.2.1
  have hy0 : zI μ 0 2 = ly := hL.2.2.2.2.2.2.2.2.2.2.1
  have hwb := hL.2.2.2.2.2.2.2.2.2.2.2
  have hE : ∀ k, zR (zit u_sC k μ) = zR μ ∧ zI (zit u_sC k μ) = zI μ := fun k => zRI_sC _ _
  have hWk : ∀ k, zWf g (zit u_sC k μ) := fun k => zWf_E (hE k).1 hW
  have hLk : ∀ k, zLC w h ly (zit u_sC k μ) := fun k => zLC_RI (hE k) hL
  refine zloop (P := fun k => zWA g (RX6, cX6_step, 8, none, zrm 3, res, μ') 176 (zls [(0, zr (some 0)), (1, zd v), (3, zi (nI hr)), (4, zr (some 2)), (5, zi (nI (fcA w h))), (6, zi (nI (k)))]) [] (zit u_sC (k) μ)) (N := (fcA w h)) ?_ ?_ 0 (Nat.zero_le _)
  · show zWA _ _ _ _ _ _
    refine zx_iload dX6_step_176 rfl ?_
    refine zx_iload dX6_step_178 rfl ?_
    refine zx_icmp_ge (tgt := 201) dX6_step_180 (by decide) (fun _ => ?_) (fun h_ => absurd h_ (by simp))
    exact zWA_to hx ⟨rfl, rfl, rfl, rfl, rfl, rfl, trivial⟩
  · intro k hk hn_
    show zWA _ _ _ _ _ _
    refine zx_iload dX6_step_176 rfl ?_
    refine zx_iload dX6_step_178 rfl ?_
    refine zx_icmp_ge (tgt := 201) dX6_step_180 (by decide) (fun h_ => absurd h_ (nI_ge hk (by omega))) (fun _ => ?_)
    refine zx_aload dX6_step_183 rfl ?_
    refine zx_iload dX6_step_185 rfl ?_
    refine zx_aald k (by assumption) (by decide) rfl ⟨by rw [hl2]; exact hk, by rw [hl2]; omega⟩ ((hLk _).2.2.1 k hk) dX6_step_187 ?_
    refine zx_astore dX6_step_188 (Nat.le_of_ble_eq_true rfl) ?_
    refine zx_aload dX6_step_190 rfl ?_
    refine zx_callV0 _ zv_X6_297 (m_X1_carry (hG.face hk) (hWk k)) (hG.face hk) (by decide) rfl rfl rfl ⟨rfl, rfl, (Nat.le_of_ble_eq_true rfl), (Nat.le_of_ble_eq_true rfl)⟩ (Nat.le_of_ble_eq_true rfl) dX6_step_192 ?_
    refine zx_iinc (nI (k + 1)) dX6_step_195 rfl (by exact nI_1 k) (Nat.le_of_ble_eq_true rfl) ?_
    refine zx_goto (tgt := 176) dX6_step_198 (by decide) ?_
    exact zWA_to (zWA_mem hn_ (by rfl)) ⟨rfl, rfl, rfl, rfl, rfl, rfl, trivial⟩

set_option maxHeartbeats 4000000 in
set_option maxRecDepth 100000 in
theorem L_X6_step5 {g : ZG} {μ : ZMem} {w h : Nat} {ly : Int32} (hG : zGC g (w * h) (fcA w h)) (hL : zLC w h ly μ) (hW : zWf g μ) {hr : Nat} (hhr : hr < 24) {v : UInt64} (hB : zNB (w * h) μ) {res : Option ZV} {μ' : ZMem} (hx : zWA g (RX6, cX6_step, 8, none, zrm 3, res, μ') 256 (zls [(0, zr (some 0)), (1, zd v), (3, zi (nI hr)), (4, zr (some 1)), (5, zi (nI (w * h))), (6, zi (nI ((w * h))))]) [] (zit (u_sE v) ((w * h)) μ)) : zWA g (RX6, cX6_step, 8, none, zrm 3, res, μ') 215 (zls [(0, zr (some 0)), (1, zd v), (3, zi (nI hr)), (4, zr (some 1)), (5, zi (nI (w * h))), (6, zi (nI (0)))]) [] μ := by
  have hO0 : zO g 6 0 := hG.fix 0 (by decide)
  have hO1 : zO g 12 1 := hG.fix 1 (by decide)
  have hO2 : zO g 13 2 := hG.fix 2 (by decide)
  have hO3 : zO g 15 3 := hG.fix 3 (by decide)
  have hO4 : zO g 8 4 := hG.fix 4 (by decide)
  have hO5 : zO g 8 5 := hG.fix 5 (by decide)
  have hO6 : zO g 14 6 := hG.fix 6 (by decide)
  have hO7 : zO g 16 7 := hG.fix 7 (by decide)
  have hO8 : zO g 5 8 := hG.fix 8 (by decide)
  have hl1 : zln g 1 = w * h := hG.l _ (Or.inl (by decide)) rfl
  have hl2 : zln g 2 = fcA w h := hG.l _ (Or.inl (by decide)) rfl
  have hl3 : zln g 3 = 4 := hG.l _ (Or.inl (by decide)) rfl
  have hl4 : zln g 4 = 24 := hG.l _ (Or.inl (by decide)) rfl
  have hl5 : zln g 5 = 24 := hG.l _ (Or.inl (by decide)) rfl
  have hl6 : zln g 6 = 10 := hG.l _ (Or.inl (by decide)) rfl
  have hl7 : zln g 7 = 4 := hG.l _ (Or.inl (by decide)) rfl
  have hN := hG.1
  have hF := hG.2.1
  have hw0 : zI μ 0 0 = nI w := hL.2.2.2.2.2.2.2.2.1
  have hh0 : zI μ 0 1 = nI h := hL.2.2.2.2.2.2.2.2.2.1
  have hy0 : zI μ 0 2 = ly := hL.2.2.2.2.2.2.2.2.2.2.1
  have hwb := hL.2.2.2.2.2.2.2.2.2.2.2
  have hE : ∀ k, zR (zit (u_sE v) k μ) = zR μ ∧ zI (zit (u_sE v) k μ) = zI μ := fun k => zRI_sE _ _ _
  have hWk : ∀ k, zWf g (zit (u_sE v) k μ) := fun k => zWf_E (hE k).1 hW
  have hLk : ∀ k, zLC w h ly (zit (u_sE v) k μ) := fun k => zLC_RI (hE k) hL
  refine zloop (P := fun k => zWA g (RX6, cX6_step, 8, none, zrm 3, res, μ') 215 (zls [(0, zr (some 0)), (1, zd v), (3, zi (nI hr)), (4, zr (some 1)), (5, zi (nI (w * h))), (6, zi (nI (k)))]) [] (zit (u_sE v) (k) μ)) (N := (w * h)) ?_ ?_ 0 (Nat.zero_le _)
  · show zWA _ _ _ _ _ _
    refine zx_iload dX6_step_215 rfl ?_
    refine zx_iload dX6_step_217 rfl ?_
    refine zx_icmp_ge (tgt := 256) dX6_step_219 (by decide) (fun _ => ?_) (fun h_ => absurd h_ (by simp))
    exact zWA_to hx ⟨rfl, rfl, rfl, rfl, rfl, rfl, trivial⟩
  · intro k hk hn_
    show zWA _ _ _ _ _ _
    refine zx_iload dX6_step_215 rfl ?_
    refine zx_iload dX6_step_217 rfl ?_
    refine zx_icmp_ge (tgt := 256) dX6_step_219 (by decide) (fun h_ => absurd h_ (nI_ge hk (by omega))) (fun _ => ?_)
    refine zx_aload dX6_step_222 rfl ?_
    refine zx_iload dX6_step_224 rfl ?_
    refine zx_aald k (by assumption) (by decide) rfl ⟨by rw [hl1]; exact hk, by rw [hl1]; omega⟩ ((hLk _).2.1 k hk) dX6_step_226 ?_
    refine zx_astore dX6_step_227 (Nat.le_of_ble_eq_true rfl) ?_
    refine zx_aload_n dX6_step_229 rfl rfl ?_
    refine zx_aload_n dX6_step_230 rfl rfl ?_
    refine zx_getL zf_X6_180 (by assumption) rfl dX6_step_231 ?_
    refine zx_aload dX6_step_234 rfl ?_
    refine zx_dload_n dX6_step_236 rfl rfl ?_
    refine zx_callV1 _ zv_X6_300 (m_X0_takeRiver (hG.cell hk)) (hG.cell hk) (by decide) rfl rfl rfl ⟨rfl, rfl, (Nat.le_of_ble_eq_true rfl), (Nat.le_of_ble_eq_true rfl)⟩ (Nat.le_of_ble_eq_true rfl) dX6_step_237 ?_
    refine zx_ladd dX6_step_240 ?_
    refine zx_putL zf_X6_180 (by assumption) rfl dX6_step_241 ?_
    refine zx_aload dX6_step_244 rfl ?_
    refine zx_dload_n dX6_step_246 rfl rfl ?_
    refine zx_callV0 _ zv_X6_304 (m_X0_endStep (μ := u_sE1 v k (zit (u_sE v) k μ)) (hG.cell hk) (zWf_E (zRI_sE1 _ _ _).1 (hWk k)) (zbeds hG (zLC_RI (zRI_sE1 _ _ _) (hLk k)) (zNB_RI (zRI_trans (zRI_sE1 _ _ _) (hE k)) hB) hk)) (hG.cell hk) (by decide) rfl rfl rfl ⟨rfl, rfl, (Nat.le_of_ble_eq_true rfl), (Nat.le_of_ble_eq_true rfl)⟩ (Nat.le_of_ble_eq_true rfl) dX6_step_247 ?_
    refine zx_iinc (nI (k + 1)) dX6_step_250 rfl (by exact nI_1 k) (Nat.le_of_ble_eq_true rfl) ?_
    refine zx_goto (tgt := 215) dX6_step_253 (by decide) ?_
    exact zWA_to (zWA_mem hn_ (by rfl)) ⟨rfl, rfl, rfl, rfl, rfl, rfl, trivial⟩

set_option maxHeartbeats 4000000 in
set_option maxRecDepth 100000 in
theorem m_X6_step {g : ZG} {μ : ZMem} {w h : Nat} {ly : Int32} (hG : zGC g (w * h) (fcA w h)) (hL : zLC w h ly μ) (hW : zWf g μ) {hr : Nat} (hhr : hr < 24)  (hh : (s_fmod (FP.d2l (zdiv (zD μ 0 14) k3600)) 24).toInt32 = nI hr) (hB : zNB (w * h) μ) {v : UInt64} : zCab g RX6 yX6_step cX6_step 8 (none) (zrm 3) [zr (some 0), zd v] μ none (u_step (w * h) (fcA w h) hr v μ) := by
  refine zCab_w (by decide +kernel) rfl (Nat.le_of_ble_eq_true rfl) ?_
  have hO0 : zO g 6 0 := hG.fix 0 (by decide)
  have hO1 : zO g 12 1 := hG.fix 1 (by decide)
  have hO2 : zO g 13 2 := hG.fix 2 (by decide)
  have hO3 : zO g 15 3 := hG.fix 3 (by decide)
  have hO4 : zO g 8 4 := hG.fix 4 (by decide)
  have hO5 : zO g 8 5 := hG.fix 5 (by decide)
  have hO6 : zO g 14 6 := hG.fix 6 (by decide)
  have hO7 : zO g 16 7 := hG.fix 7 (by decide)
  have hO8 : zO g 5 8 := hG.fix 8 (by decide)
  have hl1 : zln g 1 = w * h := hG.l _ (Or.inl (by decide)) rfl
  have hl2 : zln g 2 = fcA w h := hG.l _ (Or.inl (by decide)) rfl
  have hl3 : zln g 3 = 4 := hG.l _ (Or.inl (by decide)) rfl
  have hl4 : zln g 4 = 24 := hG.l _ (Or.inl (by decide)) rfl
  have hl5 : zln g 5 = 24 := hG.l _ (Or.inl (by decide)) rfl
  have hl6 : zln g 6 = 10 := hG.l _ (Or.inl (by decide)) rfl
  have hl7 : zln g 7 = 4 := hG.l _ (Or.inl (by decide)) rfl
  have hN := hG.1
  have hF := hG.2.1
  have hw0 : zI μ 0 0 = nI w := hL.2.2.2.2.2.2.2.2.1
  have hh0 : zI μ 0 1 = nI h := hL.2.2.2.2.2.2.2.2.2.1
  have hy0 : zI μ 0 2 = ly := hL.2.2.2.2.2.2.2.2.2.2.1
  have hwb := hL.2.2.2.2.2.2.2.2.2.2.2
  have hE1 := zRI_sB (w * h) μ
  have hE2 := zRI_trans (zRI_sS 4 (zit u_sB (w * h) μ)) hE1
  have hE3 := zRI_trans (zRI_sF hr v (fcA w h) (zit u_sS 4 (zit u_sB (w * h) μ))) hE2
  have hE4 := zRI_trans (zRI_sC (fcA w h) (zit (u_sF hr v) (fcA w h) (zit u_sS 4 (zit u_sB (w * h) μ)))) hE3
  have hL1 := zLC_RI hE1 hL
  have hW1 := zWf_E hE1.1 hW
  have hL2 := zLC_RI hE2 hL
  have hW2 := zWf_E hE2.1 hW
  have hL3 := zLC_RI hE3 hL
  have hW3 := zWf_E hE3.1 hW
  have hL4 := zLC_RI hE4 hL
  have hW4 := zWf_E hE4.1 hW
  refine zx_aload_n dX6_step_0 rfl rfl ?_
  refine zx_getD zf_X6_252 (by assumption) rfl dX6_step_1 ?_
  refine zx_ldc2d 4660134898793709568 zk_X6_277 (by decide +kernel) dX6_step_4 ?_
  refine zx_ddiv dX6_step_7 ?_
  refine zx_d2l dX6_step_8 ?_
  refine zx_ldc2l 24 zk_X6_279 dX6_step_9 ?_
  refine zx_callS1 _ zs_X6_281 (m_J9_floorMod_f86c9 (by decide)) rfl rfl ⟨rfl, rfl, (Nat.le_of_ble_eq_true rfl), (Nat.le_of_ble_eq_true rfl)⟩ (Nat.le_of_ble_eq_true rfl) dX6_step_12 ?_
  refine zx_l2i dX6_step_15 ?_
  rw [hh]
  refine zx_istore_n dX6_step_16 rfl (Nat.le_of_ble_eq_true rfl) ?_
  refine zx_aload_n dX6_step_17 rfl rfl ?_
  refine zx_getR zf_X6_31 (by assumption) (show _ = some 1 from hL.R0 (k := 3) (by decide)) rfl dX6_step_18 ?_
  refine zx_astore dX6_step_21 (Nat.le_of_ble_eq_true rfl) ?_
  refine zx_aload dX6_step_23 rfl ?_
  refine zx_alen (nI (w * h)) (by assumption) (by decide) (by rw [hl1]) dX6_step_25 ?_
  refine zx_istore dX6_step_26 (Nat.le_of_ble_eq_true rfl) ?_
  refine zx_iconst 0 dX6_step_28 (by decide) ?_
  refine zx_istore dX6_step_29 (Nat.le_of_ble_eq_true rfl) ?_
  refine zWA_to (L_X6_step1 (μ := μ) (hr := hr) (v := v) hG hL hW hhr ?_) ⟨rfl, rfl, rfl, rfl, rfl, rfl, trivial⟩
  refine zx_aload_n dX6_step_56 rfl rfl ?_
  refine zx_getR zf_X6_35 (by assumption) (show _ = some 3 from hL1.R0 (k := 5) (by decide)) rfl dX6_step_57 ?_
  refine zx_astore dX6_step_60 (Nat.le_of_ble_eq_true rfl) ?_
  refine zx_aload dX6_step_62 rfl ?_
  refine zx_alen (nI 4) (by assumption) (by decide) (by rw [hl3]) dX6_step_64 ?_
  refine zx_istore dX6_step_65 (Nat.le_of_ble_eq_true rfl) ?_
  refine zx_iconst 0 dX6_step_67 (by decide) ?_
  refine zx_istore dX6_step_68 (Nat.le_of_ble_eq_true rfl) ?_
  refine zWA_to (L_X6_step2 (μ := (zit u_sB (w * h) μ)) (hr := hr) (v := v) hG hL1 hW1 hhr ?_) ⟨rfl, rfl, rfl, rfl, rfl, rfl, trivial⟩
  refine zx_aload_n dX6_step_99 rfl rfl ?_
  refine zx_getR zf_X6_43 (by assumption) (show _ = some 2 from hL2.R0 (k := 4) (by decide)) rfl dX6_step_100 ?_
  refine zx_astore dX6_step_103 (Nat.le_of_ble_eq_true rfl) ?_
  refine zx_aload dX6_step_105 rfl ?_
  refine zx_alen (nI (fcA w h)) (by assumption) (by decide) (by rw [hl2]) dX6_step_107 ?_
  refine zx_istore dX6_step_108 (Nat.le_of_ble_eq_true rfl) ?_
  refine zx_iconst 0 dX6_step_110 (by decide) ?_
  refine zx_istore dX6_step_111 (Nat.le_of_ble_eq_true rfl) ?_
  refine zWA_to (L_X6_step3 (μ := (zit u_sS 4 (zit u_sB (w * h) μ))) (hr := hr) (v := v) hG hL2 hW2 hhr ?_) ⟨rfl, rfl, rfl, rfl, rfl, rfl, trivial⟩
  refine zx_aload_n dX6_step_162 rfl rfl ?_
  refine zx_getR zf_X6_43 (by assumption) (show _ = some 2 from hL3.R0 (k := 4) (by decide)) rfl dX6_step_163 ?_
  refine zx_astore dX6_step_166 (Nat.le_of_ble_eq_true rfl) ?_
  refine zx_aload dX6_step_168 rfl ?_
  refine zx_alen (nI (fcA w h)) (by assumption) (by decide) (by rw [hl2]) dX6_step_170 ?_
  refine zx_istore dX6_step_171 (Nat.le_of_ble_eq_true rfl) ?_
  refine zx_iconst 0 dX6_step_173 (by decide) ?_
  refine zx_istore dX6_step_174 (Nat.le_of_ble_eq_true rfl) ?_
  refine zWA_to (L_X6_step4 (μ := (zit (u_sF hr v) (fcA w h) (zit u_sS 4 (zit u_sB (w * h) μ)))) (hr := hr) (v := v) hG hL3 hW3 hhr ?_) ⟨rfl, rfl, rfl, rfl, rfl, rfl, trivial⟩
  refine zx_aload_n dX6_step_201 rfl rfl ?_
  refine zx_getR zf_X6_31 (by assumption) (show _ = some 1 from hL4.R0 (k := 3) (by decide)) rfl dX6_step_202 ?_
  refine zx_astore dX6_step_205 (Nat.le_of_ble_eq_true rfl) ?_
  refine zx_aload dX6_step_207 rfl ?_
  refine zx_alen (nI (w * h)) (by assumption) (by decide) (by rw [hl1]) dX6_step_209 ?_
  refine zx_istore dX6_step_210 (Nat.le_of_ble_eq_true rfl) ?_
  refine zx_iconst 0 dX6_step_212 (by decide) ?_
  refine zx_istore dX6_step_213 (Nat.le_of_ble_eq_true rfl) ?_
  refine zWA_to (L_X6_step5 (μ := (zit u_sC (fcA w h) (zit (u_sF hr v) (fcA w h) (zit u_sS 4 (zit u_sB (w * h) μ))))) (hr := hr) (v := v) hG hL4 hW4 hhr (zNB_RI hE4 hB) ?_) ⟨rfl, rfl, rfl, rfl, rfl, rfl, trivial⟩
  refine zx_aload_n dX6_step_256 rfl rfl ?_
  refine zx_aload_n dX6_step_257 rfl rfl ?_
  refine zx_getD zf_X6_252 (by assumption) rfl dX6_step_258 ?_
  refine zx_dload_n dX6_step_261 rfl rfl ?_
  refine zx_dadd dX6_step_262 ?_
  refine zx_putD zf_X6_252 (by assumption) rfl dX6_step_263 ?_
  exact zx_return rfl rfl (by rfl) dX6_step_266

def s_hour (μ : ZMem) : Nat := (s_fmod (FP.d2l (zdiv (zD μ 0 14) k3600)) 24).toInt32.toNatClampNeg
theorem s_hour_in (μ : ZMem) : s_hour μ < 24 ∧ (s_fmod (FP.d2l (zdiv (zD μ 0 14) k3600)) 24).toInt32 = nI (s_hour μ) := by
  obtain ⟨r, hr, e⟩ := zhour (FP.d2l (zdiv (zD μ 0 14) k3600))
  unfold s_hour
  rw [e, nI_clamp (by omega)]
  exact ⟨hr, rfl⟩
def u_stepH (N F : Nat) (v : UInt64) (_ : Nat) (μ : ZMem) : ZMem := u_step N F (s_hour μ) v μ
theorem zRI_stepH (N F : Nat) (v : UInt64) (n : Nat) (μ : ZMem) : zR (zit (u_stepH N F v) n μ) = zR μ ∧ zI (zit (u_stepH N F v) n μ) = zI μ := ⟨zit_keep (f := u_stepH N F v) zR (fun _ _ => (zRI_step _ _ _ _ _).1) n μ, zit_keep (f := u_stepH N F v) zI (fun _ _ => (zRI_step _ _ _ _ _).2) n μ⟩
def s_run (x : Int32) (v : UInt64) : Int32 := if x < 0 then -1 else if 200 < x then -1 else if s_inside v k1 k600 = 0 then -1 else x
def u_run (μ : ZMem) (N F : Nat) (x : Int32) (v : UInt64) : ZMem := if s_run x v < 0 then μ else zit (u_stepH N F v) x.toNatClampNeg μ
set_option maxHeartbeats 4000000 in
set_option maxRecDepth 100000 in
theorem L_X6_run {g : ZG} {μ : ZMem} {w h : Nat} {ly : Int32} (hG : zGC g (w * h) (fcA w h)) (hL : zLC w h ly μ) (hW : zWf g μ) (hB : zNB (w * h) μ) {n : Nat} (hn : n ≤ 200) {v : UInt64} {res : Option ZV} {μ' : ZMem} (hx : zWA g (RX6, cX6_run, 5, ((some FieldType.int)), zrm 4, res, μ') 44 (zls [(0, zr (some 0)), (1, zi (nI n)), (2, zd v), (4, zi (nI (n)))]) [] (zit (u_stepH (w * h) (fcA w h) v) (n) μ)) : zWA g (RX6, cX6_run, 5, ((some FieldType.int)), zrm 4, res, μ') 27 (zls [(0, zr (some 0)), (1, zi (nI n)), (2, zd v), (4, zi (nI (0)))]) [] μ := by
  have hO0 : zO g 6 0 := hG.fix 0 (by decide)
  have hO1 : zO g 12 1 := hG.fix 1 (by decide)
  have hO2 : zO g 13 2 := hG.fix 2 (by decide)
  have hO3 : zO g 15 3 := hG.fix 3 (by decide)
  have hO4 : zO g 8 4 := hG.fix 4 (by decide)
  have hO5 : zO g 8 5 := hG.fix 5 (by decide)
  have hO6 : zO g 14 6 := hG.fix 6 (by decide)
  have hO7 : zO g 16 7 := hG.fix 7 (by decide)
  have hO8 : zO g 5 8 := hG.fix 8 (by decide)
  have hl1 : zln g 1 = w * h := hG.l _ (Or.inl (by decide)) rfl
  have hl2 : zln g 2 = fcA w h := hG.l _ (Or.inl (by decide)) rfl
  have hl3 : zln g 3 = 4 := hG.l _ (Or.inl (by decide)) rfl
  have hl4 : zln g 4 = 24 := hG.l _ (Or.inl (by decide)) rfl
  have hl5 : zln g 5 = 24 := hG.l _ (Or.inl (by decide)) rfl
  have hl6 : zln g 6 = 10 := hG.l _ (Or.inl (by decide)) rfl
  have hl7 : zln g 7 = 4 := hG.l _ (Or.inl (by decide)) rfl
  have hN := hG.1
  have hF := hG.2.1
  have hw0 : zI μ 0 0 = nI w := hL.2.2.2.2.2.2.2.2.1
  have hh0 : zI μ 0 1 = nI h := hL.2.2.2.2.2.2.2.2.2.1
  have hy0 : zI μ 0 2 = ly := hL.2.2.2.2.2.2.2.2.2.2.1
  have hwb := hL.2.2.2.2.2.2.2.2.2.2.2
  have hE : ∀ k, zR (zit (u_stepH (w * h) (fcA w h) v) k μ) = zR μ ∧ zI (zit (u_stepH (w * h) (fcA w h) v) k μ) = zI μ := fun k => zRI_stepH _ _ _ _ _
  have hWk : ∀ k, zWf g (zit (u_stepH (w * h) (fcA w h) v) k μ) := fun k => zWf_E (hE k).1 hW
  have hLk : ∀ k, zLC w h ly (zit (u_stepH (w * h) (fcA w h) v) k μ) := fun k => zLC_RI (hE k) hL
  refine zloop (P := fun k => zWA g (RX6, cX6_run, 5, ((some FieldType.int)), zrm 4, res, μ') 27 (zls [(0, zr (some 0)), (1, zi (nI n)), (2, zd v), (4, zi (nI (k)))]) [] (zit (u_stepH (w * h) (fcA w h) v) (k) μ)) (N := n) ?_ ?_ 0 (Nat.zero_le _)
  · show zWA _ _ _ _ _ _
    refine zx_iload dX6_run_27 rfl ?_
    refine zx_iload_n dX6_run_29 rfl rfl ?_
    refine zx_icmp_ge (tgt := 44) dX6_run_30 (by decide) (fun _ => ?_) (fun h_ => absurd h_ (by simp))
    exact zWA_to hx ⟨rfl, rfl, rfl, rfl, trivial⟩
  · intro k hk hn_
    show zWA _ _ _ _ _ _
    refine zx_iload dX6_run_27 rfl ?_
    refine zx_iload_n dX6_run_29 rfl rfl ?_
    refine zx_icmp_ge (tgt := 44) dX6_run_30 (by decide) (fun h_ => absurd h_ (nI_ge hk (by omega))) (fun _ => ?_)
    refine zx_aload_n dX6_run_33 rfl rfl ?_
    refine zx_dload_n dX6_run_34 rfl rfl ?_
    refine zx_callV0 _ zv_X6_137 (m_X6_step (μ := zit (u_stepH (w * h) (fcA w h) v) k μ) (hr := s_hour (zit (u_stepH (w * h) (fcA w h) v) k μ)) hG (hLk k) (hWk k) (s_hour_in _).1 (s_hour_in _).2 (zNB_RI (hE k) hB)) (by assumption) (by decide) rfl rfl rfl ⟨rfl, rfl, (Nat.le_of_ble_eq_true rfl), (Nat.le_of_ble_eq_true rfl)⟩ (Nat.le_of_ble_eq_true rfl) dX6_run_35 ?_
    refine zx_iinc (nI (k + 1)) dX6_run_38 rfl (by exact nI_1 k) (Nat.le_of_ble_eq_true rfl) ?_
    refine zx_goto (tgt := 27) dX6_run_41 (by decide) ?_
    exact zWA_to (zWA_mem hn_ (by rfl)) ⟨rfl, rfl, rfl, rfl, trivial⟩

set_option maxHeartbeats 4000000 in
set_option maxRecDepth 100000 in
theorem m_X6_run {g : ZG} {μ : ZMem} {w h : Nat} {ly : Int32} (hG : zGC g (w * h) (fcA w h)) (hL : zLC w h ly μ) (hW : zWf g μ) (hB : zNB (w * h) μ) {x : Int32} {v : UInt64} : zCab g RX6 yX6_run cX6_run 5 ((some FieldType.int)) (zrm 4) [zr (some 0), zi x, zd v] μ (some (zi (s_run x v))) (u_run μ (w * h) (fcA w h) x v) := by
  refine zCab_w (by decide +kernel) rfl (Nat.le_of_ble_eq_true rfl) ?_
  have hO0 : zO g 6 0 := hG.fix 0 (by decide)
  have hO1 : zO g 12 1 := hG.fix 1 (by decide)
  have hO2 : zO g 13 2 := hG.fix 2 (by decide)
  have hO3 : zO g 15 3 := hG.fix 3 (by decide)
  have hO4 : zO g 8 4 := hG.fix 4 (by decide)
  have hO5 : zO g 8 5 := hG.fix 5 (by decide)
  have hO6 : zO g 14 6 := hG.fix 6 (by decide)
  have hO7 : zO g 16 7 := hG.fix 7 (by decide)
  have hO8 : zO g 5 8 := hG.fix 8 (by decide)
  have hl1 : zln g 1 = w * h := hG.l _ (Or.inl (by decide)) rfl
  have hl2 : zln g 2 = fcA w h := hG.l _ (Or.inl (by decide)) rfl
  have hl3 : zln g 3 = 4 := hG.l _ (Or.inl (by decide)) rfl
  have hl4 : zln g 4 = 24 := hG.l _ (Or.inl (by decide)) rfl
  have hl5 : zln g 5 = 24 := hG.l _ (Or.inl (by decide)) rfl
  have hl6 : zln g 6 = 10 := hG.l _ (Or.inl (by decide)) rfl
  have hl7 : zln g 7 = 4 := hG.l _ (Or.inl (by decide)) rfl
  have hN := hG.1
  have hF := hG.2.1
  have hw0 : zI μ 0 0 = nI w := hL.2.2.2.2.2.2.2.2.1
  have hh0 : zI μ 0 1 = nI h := hL.2.2.2.2.2.2.2.2.2.1
  have hy0 : zI μ 0 2 = ly := hL.2.2.2.2.2.2.2.2.2.2.1
  have hwb := hL.2.2.2.2.2.2.2.2.2.2.2
  refine zx_iload_n dX6_run_0 rfl rfl ?_
  refine zx_if_lt (tgt := 22) dX6_run_1 (by decide) (fun c_1 => ?_) (fun c_1 => ?_)
  · skip
    refine zx_iconst (-1) dX6_run_22 (by decide) ?_
    exact zx_ireturn rfl (by simp [zKa, s_run, c_1]) (by simp [zKm, u_run, s_run, c_1]) dX6_run_23
  · skip
    refine zx_iload_n dX6_run_4 rfl rfl ?_
    refine zx_sipush 200 dX6_run_5 (by decide) ?_
    refine zx_icmp_gt (tgt := 22) dX6_run_8 (by decide) (fun c_8 => ?_) (fun c_8 => ?_)
    · skip
      refine zx_iconst (-1) dX6_run_22 (by decide) ?_
      exact zx_ireturn rfl (by simp [zKa, s_run, c_1, c_8]) (by simp [zKm, u_run, s_run, c_1, c_8]) dX6_run_23
    · skip
      refine zx_dload_n dX6_run_11 rfl rfl ?_
      refine zx_dconst1 dX6_run_12 ?_
      refine zx_ldc2d 4648488871632306176 zk_X6_135 (by decide +kernel) dX6_run_13 ?_
      refine zx_callS1 _ zs_X6_86 m_X6_inside rfl rfl ⟨rfl, rfl, (Nat.le_of_ble_eq_true rfl), (Nat.le_of_ble_eq_true rfl)⟩ (Nat.le_of_ble_eq_true rfl) dX6_run_16 ?_
      refine zx_if_ne (tgt := 24) dX6_run_19 (by decide) (fun c_19 => ?_) (fun c_19 => ?_)
      · skip
        obtain ⟨n, hn, rfl⟩ := nI_of2 (M := 200) (n := 200) (by decide) c_1 (Int32.not_lt.mp c_8)
        refine zx_iconst 0 dX6_run_24 (by decide) ?_
        refine zx_istore dX6_run_25 (Nat.le_of_ble_eq_true rfl) ?_
        refine zWA_to (L_X6_run (n := n) (v := v) hG hL hW hB hn ?_) ⟨rfl, rfl, rfl, rfl, trivial⟩
        refine zx_iload_n dX6_run_44 rfl rfl ?_
        exact zx_ireturn rfl (by simp [zKa, s_run, c_1, c_8, c_19]) (by show u_run μ (w * h) (fcA w h) (nI n) v = _; unfold u_run; rw [if_neg (show ¬ s_run (nI n) v < 0 by rw [show s_run (nI n) v = nI n by simp [s_run, c_1, c_8, c_19]]; exact c_1), nI_clamp (by omega)]) dX6_run_45
      · skip
        refine zx_iconst (-1) dX6_run_22 (by decide) ?_
        exact zx_ireturn rfl (by simp [zKa, s_run, c_1, c_8, c_19]) (by simp [zKm, u_run, s_run, c_1, c_8, c_19]) dX6_run_23

