set_option maxHeartbeats 4000000 in
set_option maxRecDepth 100000 in
theorem L_X7_stI {g : ZG} {μ : ZMem} {w h : Nat} {ly : Int32} (hG : zGM g) (hL : zLM w h ly μ) {v : UInt64} {j : Nat} (hj : j < h) {hr : Nat} (hhr : hr < 24) (hH : (FP.d2l (zdiv (zD μ 0 13) k3600) - FP.d2l (zdiv (zD μ 0 13) k3600) / 24 * 24).toInt32 = nI hr) {res : Option ZV} {μ' : ZMem} (hx : zWA g (RX7, cX7_step, 7, none, zrm 4, res, μ') 226 (zls [(0, zr (some 0)), (1, zd v), (3, zi (nI j)), (4, zi (nI (w)))]) [] (zit (q_fI w h j hr v) (w) μ)) : zWA g (RX7, cX7_step, 7, none, zrm 4, res, μ') 35 (zls [(0, zr (some 0)), (1, zd v), (3, zi (nI j)), (4, zi (nI (0)))]) [] μ := by
  have hO0 : zO g 7 0 := hG.o 0 (by decide)
  have hO7 : zO g 10 7 := hG.o 7 (by decide)
  have hl7 : zln g 7 = 144 := hG.l 7 (by decide)
  have hO8 : zO g 8 8 := hG.o 8 (by decide)
  have hl8 : zln g 8 = 144 := hG.l 8 (by decide)
  have hO9 : zO g 8 9 := hG.o 9 (by decide)
  have hl9 : zln g 9 = 144 := hG.l 9 (by decide)
  have hO16 : zO g 10 16 := hG.o 16 (by decide)
  have hl16 : zln g 16 = 144 := hG.l 16 (by decide)
  have hO17 : zO g 8 17 := hG.o 17 (by decide)
  have hl17 : zln g 17 = 144 := hG.l 17 (by decide)
  have hO18 : zO g 8 18 := hG.o 18 (by decide)
  have hl18 : zln g 18 = 144 := hG.l 18 (by decide)
  have hO19 : zO g 10 19 := hG.o 19 (by decide)
  have hl19 : zln g 19 = 336 := hG.l 19 (by decide)
  have hw0 : zI μ 0 0 = nI w := hL.2.1
  have hh0 : zI μ 0 1 = nI h := hL.2.2.1
  have hy0 : zI μ 0 2 = ly := hL.2.2.2.1
  obtain ⟨hb1, hb2, hb3, hb4⟩ := hL.2.2.2.2
  have hKk : ∀ k, zKt (zit (q_fI w h j hr v) k μ) μ := fun k => zKt_it (zKt_fI w h j hr v) k μ
  have hLk : ∀ k, zLM w h ly (zit (q_fI w h j hr v) k μ) := fun k => zLM_kp (hKk k).1 hL
  have hwk : ∀ k, zI (zit (q_fI w h j hr v) k μ) 0 0 = nI w := fun k => (hLk k).2.1
  have hhk : ∀ k, zI (zit (q_fI w h j hr v) k μ) 0 1 = nI h := fun k => (hLk k).2.2.1
  have hHk : ∀ k, (FP.d2l (zdiv (zD (zit (q_fI w h j hr v) k μ) 0 13) k3600) - FP.d2l (zdiv (zD (zit (q_fI w h j hr v) k μ) 0 13) k3600) / 24 * 24).toInt32 = nI hr := fun k => by rw [(hKk k).2]; exact hH
  refine zloop (P := fun k => zWA g (RX7, cX7_step, 7, none, zrm 4, res, μ') 35 (zls [(0, zr (some 0)), (1, zd v), (3, zi (nI j)), (4, zi (nI (k)))]) [] (zit (q_fI w h j hr v) (k) μ)) (N := w) ?_ ?_ 0 (Nat.zero_le _)
  · show zWA _ _ _ _ _ _
    refine zx_iload dX7_step_35 rfl ?_
    refine zx_aload_n dX7_step_37 rfl rfl ?_
    refine zx_getI zf_X7_121 (by assumption) (Or.inl rfl) dX7_step_38 ?_
    rw [hwk]
    refine zx_icmp_ge (tgt := 226) dX7_step_41 (by decide) (fun _ => ?_) (fun h_ => absurd h_ (fun q => q (by first | decide | exact Int32.le_refl _)))
    exact zWA_to hx ⟨rfl, rfl, rfl, rfl, trivial⟩
  · intro k hk hn_
    show zWA _ _ _ _ _ _
    refine zx_iload dX7_step_35 rfl ?_
    refine zx_aload_n dX7_step_37 rfl rfl ?_
    refine zx_getI zf_X7_121 (by assumption) (Or.inl rfl) dX7_step_38 ?_
    rw [hwk]
    refine zx_icmp_ge (tgt := 226) dX7_step_41 (by decide) (fun h_ => absurd h_ (nI_ge hk (by omega))) (fun _ => ?_)
    refine zx_iconst 0 dX7_step_44 (by decide) ?_
    refine zx_istore dX7_step_45 (Nat.le_of_ble_eq_true rfl) ?_
    refine zWA_to (L_X7_stA (μ := zit (q_fI w h j hr v) k μ) hG (hLk k) hk hj hhr (hHk k) ?_) ⟨rfl, rfl, rfl, rfl, rfl, trivial⟩
    refine zx_iconst 0 dX7_step_122 (by decide) ?_
    refine zx_istore dX7_step_123 (Nat.le_of_ble_eq_true rfl) ?_
    refine zWA_to (L_X7_stS (μ := zit (q_fA w h k j hr v) 2 (zit (q_fI w h j hr v) k μ)) hG (zLM_kp (zKt_it (zKt_fA w h k j hr v) 2 _).1 (hLk k)) hk hj hhr (by rw [(zKt_it (zKt_fA w h k j hr v) 2 _).2]; exact hHk k) ?_) ⟨rfl, rfl, rfl, rfl, rfl, trivial⟩
    refine zx_iinc (nI (k + 1)) dX7_step_220 rfl (by exact nI_1 k) (Nat.le_of_ble_eq_true rfl) ?_
    refine zx_goto (tgt := 35) dX7_step_223 (by decide) ?_
    exact zWA_to (zWA_mem hn_ (by rfl)) ⟨rfl, rfl, rfl, rfl, trivial⟩

set_option maxHeartbeats 4000000 in
set_option maxRecDepth 100000 in
theorem L_X7_stJ {g : ZG} {μ : ZMem} {w h : Nat} {ly : Int32} (hG : zGM g) (hL : zLM w h ly μ) {v : UInt64} {hr : Nat} (hhr : hr < 24) (hH : (FP.d2l (zdiv (zD μ 0 13) k3600) - FP.d2l (zdiv (zD μ 0 13) k3600) / 24 * 24).toInt32 = nI hr) {res : Option ZV} {μ' : ZMem} (hx : zWA g (RX7, cX7_step, 7, none, zrm 4, res, μ') 232 (zls [(0, zr (some 0)), (1, zd v), (3, zi (nI (h)))]) [] (zit (q_fJ w h hr v) (h) μ)) : zWA g (RX7, cX7_step, 7, none, zrm 4, res, μ') 24 (zls [(0, zr (some 0)), (1, zd v), (3, zi (nI (0)))]) [] μ := by
  have hO0 : zO g 7 0 := hG.o 0 (by decide)
  have hO7 : zO g 10 7 := hG.o 7 (by decide)
  have hl7 : zln g 7 = 144 := hG.l 7 (by decide)
  have hO8 : zO g 8 8 := hG.o 8 (by decide)
  have hl8 : zln g 8 = 144 := hG.l 8 (by decide)
  have hO9 : zO g 8 9 := hG.o 9 (by decide)
  have hl9 : zln g 9 = 144 := hG.l 9 (by decide)
  have hO16 : zO g 10 16 := hG.o 16 (by decide)
  have hl16 : zln g 16 = 144 := hG.l 16 (by decide)
  have hO17 : zO g 8 17 := hG.o 17 (by decide)
  have hl17 : zln g 17 = 144 := hG.l 17 (by decide)
  have hO18 : zO g 8 18 := hG.o 18 (by decide)
  have hl18 : zln g 18 = 144 := hG.l 18 (by decide)
  have hO19 : zO g 10 19 := hG.o 19 (by decide)
  have hl19 : zln g 19 = 336 := hG.l 19 (by decide)
  have hw0 : zI μ 0 0 = nI w := hL.2.1
  have hh0 : zI μ 0 1 = nI h := hL.2.2.1
  have hy0 : zI μ 0 2 = ly := hL.2.2.2.1
  obtain ⟨hb1, hb2, hb3, hb4⟩ := hL.2.2.2.2
  have hKk : ∀ k, zKt (zit (q_fJ w h hr v) k μ) μ := fun k => zKt_it (zKt_fJ w h hr v) k μ
  have hLk : ∀ k, zLM w h ly (zit (q_fJ w h hr v) k μ) := fun k => zLM_kp (hKk k).1 hL
  have hwk : ∀ k, zI (zit (q_fJ w h hr v) k μ) 0 0 = nI w := fun k => (hLk k).2.1
  have hhk : ∀ k, zI (zit (q_fJ w h hr v) k μ) 0 1 = nI h := fun k => (hLk k).2.2.1
  have hHk : ∀ k, (FP.d2l (zdiv (zD (zit (q_fJ w h hr v) k μ) 0 13) k3600) - FP.d2l (zdiv (zD (zit (q_fJ w h hr v) k μ) 0 13) k3600) / 24 * 24).toInt32 = nI hr := fun k => by rw [(hKk k).2]; exact hH
  refine zloop (P := fun k => zWA g (RX7, cX7_step, 7, none, zrm 4, res, μ') 24 (zls [(0, zr (some 0)), (1, zd v), (3, zi (nI (k)))]) [] (zit (q_fJ w h hr v) (k) μ)) (N := h) ?_ ?_ 0 (Nat.zero_le _)
  · show zWA _ _ _ _ _ _
    refine zx_iload_n dX7_step_24 rfl rfl ?_
    refine zx_aload_n dX7_step_25 rfl rfl ?_
    refine zx_getI zf_X7_125 (by assumption) (Or.inl rfl) dX7_step_26 ?_
    rw [hhk]
    refine zx_icmp_ge (tgt := 232) dX7_step_29 (by decide) (fun _ => ?_) (fun h_ => absurd h_ (fun q => q (by first | decide | exact Int32.le_refl _)))
    exact zWA_to hx ⟨rfl, rfl, rfl, trivial⟩
  · intro k hk hn_
    show zWA _ _ _ _ _ _
    refine zx_iload_n dX7_step_24 rfl rfl ?_
    refine zx_aload_n dX7_step_25 rfl rfl ?_
    refine zx_getI zf_X7_125 (by assumption) (Or.inl rfl) dX7_step_26 ?_
    rw [hhk]
    refine zx_icmp_ge (tgt := 232) dX7_step_29 (by decide) (fun h_ => absurd h_ (nI_ge hk (by omega))) (fun _ => ?_)
    refine zx_iconst 0 dX7_step_32 (by decide) ?_
    refine zx_istore dX7_step_33 (Nat.le_of_ble_eq_true rfl) ?_
    refine zWA_to (L_X7_stI (μ := zit (q_fJ w h hr v) k μ) hG (hLk k) hk hhr (hHk k) ?_) ⟨rfl, rfl, rfl, rfl, trivial⟩
    refine zx_iinc (nI (k + 1)) dX7_step_226 rfl (by exact nI_1 k) (Nat.le_of_ble_eq_true rfl) ?_
    refine zx_goto (tgt := 24) dX7_step_229 (by decide) ?_
    exact zWA_to (zWA_mem hn_ (by rfl)) ⟨rfl, rfl, rfl, trivial⟩

