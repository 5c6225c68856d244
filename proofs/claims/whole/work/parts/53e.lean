def t_hraw (μ : ZMem) : Int32 := (FP.d2l (zdiv (zD μ 0 13) k3600) - FP.d2l (zdiv (zD μ 0 13) k3600) / 24 * 24).toInt32
def t_hour (μ : ZMem) : Nat := (t_hraw μ).toNatClampNeg
/-- the hour is one of the day -/
def t_hok (μ : ZMem) : Prop := t_hour μ < 24 ∧ t_hraw μ = nI (t_hour μ)
def q_stepH (w h : Nat) (v : UInt64) (_ : Nat) (μ : ZMem) : ZMem := q_step w h (t_hour μ) v μ
def t_run (x : Int32) (v : UInt64) : Int32 := if x < 0 then -1 else if 200 < x then -1 else if s_inside v k1 k600 = 0 then -1 else x
def q_run (w h : Nat) (x : Int32) (v : UInt64) (μ : ZMem) : ZMem := if t_run x v < 0 then μ else zit (q_stepH w h v) x.toNatClampNeg μ
theorem zKp_stepH (w h : Nat) (v : UInt64) (k : Nat) (μ : ZMem) : zKp (q_stepH w h v k μ) μ := zKp_step _ _ _ _ _
set_option maxHeartbeats 4000000 in
set_option maxRecDepth 100000 in
theorem L_X7_run {g : ZG} {μ : ZMem} {w h : Nat} {ly : Int32} (hG : zGM g) (hL : zLM w h ly μ) {v : UInt64} {n : Nat} (hn : n ≤ 200) (hok : ∀ k, k < n → t_hok (zit (q_stepH w h v) k μ)) {res : Option ZV} {μ' : ZMem} (hx : zWA g (RX7, cX7_run, 5, ((some FieldType.int)), zrm 5, res, μ') 44 (zls [(0, zr (some 0)), (1, zi (nI n)), (2, zd v), (4, zi (nI (n)))]) [] (zit (q_stepH w h v) (n) μ)) : zWA g (RX7, cX7_run, 5, ((some FieldType.int)), zrm 5, res, μ') 27 (zls [(0, zr (some 0)), (1, zi (nI n)), (2, zd v), (4, zi (nI (0)))]) [] μ := by
  have hO0 : zO g 7 0 := hG.o 0 (by decide)
  have hKk : ∀ k, zKp (zit (q_stepH w h v) k μ) μ := fun k => zKp_it (zKp_stepH w h v) k μ
  have hLk : ∀ k, zLM w h ly (zit (q_stepH w h v) k μ) := fun k => zLM_kp (hKk k) hL
  have hwk : ∀ k, zI (zit (q_stepH w h v) k μ) 0 0 = nI w := fun k => (hLk k).2.1
  have hhk : ∀ k, zI (zit (q_stepH w h v) k μ) 0 1 = nI h := fun k => (hLk k).2.2.1
  refine zloop (P := fun k => zWA g (RX7, cX7_run, 5, ((some FieldType.int)), zrm 5, res, μ') 27 (zls [(0, zr (some 0)), (1, zi (nI n)), (2, zd v), (4, zi (nI (k)))]) [] (zit (q_stepH w h v) (k) μ)) (N := n) ?_ ?_ 0 (Nat.zero_le _)
  · show zWA _ _ _ _ _ _
    refine zx_iload dX7_run_27 rfl ?_
    refine zx_iload_n dX7_run_29 rfl rfl ?_
    refine zx_icmp_ge (tgt := 44) dX7_run_30 (by decide) (fun _ => ?_) (fun h_ => absurd h_ (fun q => q (by first | decide | exact Int32.le_refl _)))
    exact zWA_to hx ⟨rfl, rfl, rfl, rfl, trivial⟩
  · intro k hk hn_
    show zWA _ _ _ _ _ _
    refine zx_iload dX7_run_27 rfl ?_
    refine zx_iload_n dX7_run_29 rfl rfl ?_
    refine zx_icmp_ge (tgt := 44) dX7_run_30 (by decide) (fun h_ => absurd h_ (nI_ge hk (by omega))) (fun _ => ?_)
    refine zx_aload_n dX7_run_33 rfl rfl ?_
    refine zx_dload_n dX7_run_34 rfl rfl ?_
    refine zx_callV0 _ zv_X7_270 (m_X7_step hG (hLk k) (hr := t_hour (zit (q_stepH w h v) k μ)) (hok k hk).1 (hok k hk).2) (by assumption) (by decide) rfl rfl rfl ⟨rfl, rfl, (Nat.le_of_ble_eq_true rfl), (Nat.le_of_ble_eq_true rfl)⟩ (Nat.le_of_ble_eq_true rfl) dX7_run_35 ?_
    refine zx_iinc (nI (k + 1)) dX7_run_38 rfl (by exact nI_1 k) (Nat.le_of_ble_eq_true rfl) ?_
    refine zx_goto (tgt := 27) dX7_run_41 (by decide) ?_
    exact zWA_to (zWA_mem hn_ (by rfl)) ⟨rfl, rfl, rfl, rfl, trivial⟩

set_option maxHeartbeats 4000000 in
set_option maxRecDepth 100000 in
theorem m_X7_run {g : ZG} {μ : ZMem} {w h : Nat} {ly : Int32} (hG : zGM g) (hL : zLM w h ly μ) {x : Int32} {v : UInt64} (hok : ¬ t_run x v < 0 → ∀ k, k < x.toNatClampNeg → t_hok (zit (q_stepH w h v) k μ)) : zCab g RX7 yX7_run cX7_run 5 ((some FieldType.int)) (zrm 5) [zr (some 0), zi x, zd v] μ (some (zi (t_run x v))) (q_run w h x v μ) := by
  refine zCab_w (by decide +kernel) rfl (Nat.le_of_ble_eq_true rfl) ?_
  have hO0 : zO g 7 0 := hG.o 0 (by decide)
  have hw0 : zI μ 0 0 = nI w := hL.2.1
  have hh0 : zI μ 0 1 = nI h := hL.2.2.1
  have hy0 : zI μ 0 2 = ly := hL.2.2.2.1
  obtain ⟨hb1, hb2, hb3, hb4⟩ := hL.2.2.2.2
  refine zx_iload_n dX7_run_0 rfl rfl ?_
  refine zx_if_lt (tgt := 22) dX7_run_1 (by decide) (fun c_1 => ?_) (fun c_1 => ?_)
  · skip
    refine zx_iconst (-1) dX7_run_22 (by decide) ?_
    exact zx_ireturn rfl (by simp [zKa, t_run, c_1]) (by show q_run w h x v μ = _; unfold q_run; rw [if_pos (by simp [t_run, c_1])]) dX7_run_23
  · skip
    refine zx_iload_n dX7_run_4 rfl rfl ?_
    refine zx_sipush 200 dX7_run_5 (by decide) ?_
    refine zx_icmp_gt (tgt := 22) dX7_run_8 (by decide) (fun c_8 => ?_) (fun c_8 => ?_)
    · skip
      refine zx_iconst (-1) dX7_run_22 (by decide) ?_
      exact zx_ireturn rfl (by simp [zKa, t_run, c_1, c_8]) (by show q_run w h x v μ = _; unfold q_run; rw [if_pos (by simp [t_run, c_1, c_8])]) dX7_run_23
    · skip
      refine zx_dload_n dX7_run_11 rfl rfl ?_
      refine zx_dconst1 dX7_run_12 ?_
      refine zx_ldc2d 4648488871632306176 zk_X7_268 (by decide +kernel) dX7_run_13 ?_
      refine zx_callS1 _ zs_X7_152 m_X7_isIn rfl rfl ⟨rfl, rfl, (Nat.le_of_ble_eq_true rfl), (Nat.le_of_ble_eq_true rfl)⟩ (Nat.le_of_ble_eq_true rfl) dX7_run_16 ?_
      refine zx_if_ne (tgt := 24) dX7_run_19 (by decide) (fun c_19 => ?_) (fun c_19 => ?_)
      · skip
        obtain ⟨n, hn, rfl⟩ := nI_of2 (M := 200) (n := 200) (by decide) c_1 (Int32.not_lt.mp c_8)
        have hok := hok (by unfold t_run; rw [if_neg c_1, if_neg c_8, if_neg c_19]; exact c_1)
        rw [nI_clamp (by omega)] at hok
        refine zx_iconst 0 dX7_run_24 (by decide) ?_
        refine zx_istore dX7_run_25 (Nat.le_of_ble_eq_true rfl) ?_
        refine zWA_to (L_X7_run hG hL hn hok ?_) ⟨rfl, rfl, rfl, rfl, trivial⟩
        refine zx_iload_n dX7_run_44 rfl rfl ?_
        exact zx_ireturn rfl (by show some (zi (t_run (nI n) v)) = _; unfold t_run; rw [if_neg c_1, if_neg c_8, if_neg c_19]) (by show q_run w h (nI n) v μ = _; unfold q_run; rw [if_neg (by unfold t_run; rw [if_neg c_1, if_neg c_8, if_neg c_19]; exact c_1), nI_clamp (by omega)]) dX7_run_45
      · skip
        refine zx_iconst (-1) dX7_run_22 (by decide) ?_
        exact zx_ireturn rfl (by simp [zKa, t_run, c_1, c_8, c_19]) (by show q_run w h x v μ = _; unfold q_run; rw [if_pos (by simp [t_run, c_1, c_8, c_19])]) dX7_run_23

