set_option maxHeartbeats 4000000 in
set_option maxRecDepth 100000 in
theorem L_X7_fit7 {g : ZG} {μ : ZMem} {w h : Nat} {ly : Int32} (hG : zGM g) (hL : zLM w h ly μ) {n : Nat} (hn : n ≤ 5) {res : Option ZV} {μ' : ZMem} (hx : zWA g (RX7, cX7_fit, 9, ((some FieldType.int)), zrm 3, res, μ') 340 (zls [(0, zr (some 0)), (2, zi (nI n)), (3, zi (zit (q_clr n) (n) (0, μ)).1), (4, zi (nI (n)))]) [] (zit (q_clr n) (n) (0, μ)).2) : zWA g (RX7, cX7_fit, 9, ((some FieldType.int)), zrm 3, res, μ') 181 (zls [(0, zr (some 0)), (2, zi (nI n)), (3, zi (zit (q_clr n) (0) (0, μ)).1), (4, zi (nI (0)))]) [] μ := by
  have hO0 : zO g 7 0 := hG.o 0 (by decide)
  have hO34 : zO g 8 34 := hG.o 34 (by decide)
  have hl34 : zln g 34 = 40 := hG.l 34 (by decide)
  have hO35 : zO g 8 35 := hG.o 35 (by decide)
  have hl35 : zln g 35 = 40 := hG.l 35 (by decide)
  have hO36 : zO g 8 36 := hG.o 36 (by decide)
  have hl36 : zln g 36 = 25 := hG.l 36 (by decide)
  have hO37 : zO g 8 37 := hG.o 37 (by decide)
  have hl37 : zln g 37 = 5 := hG.l 37 (by decide)
  have hO38 : zO g 8 38 := hG.o 38 (by decide)
  have hl38 : zln g 38 = 5 := hG.l 38 (by decide)
  have hw0 : zI μ 0 0 = nI w := hL.2.1
  have hh0 : zI μ 0 1 = nI h := hL.2.2.1
  have hy0 : zI μ 0 2 = ly := hL.2.2.2.1
  obtain ⟨hb1, hb2, hb3, hb4⟩ := hL.2.2.2.2
  have hKk : ∀ k, zKp (zit (q_clr n) k (0, μ)).2 μ := fun k => zKp_clr n 0 k μ
  have hLk : ∀ k, zLM w h ly (zit (q_clr n) k (0, μ)).2 := fun k => zLM_kp (hKk k) hL
  refine zloop (P := fun k => zWA g (RX7, cX7_fit, 9, ((some FieldType.int)), zrm 3, res, μ') 181 (zls [(0, zr (some 0)), (2, zi (nI n)), (3, zi (zit (q_clr n) (k) (0, μ)).1), (4, zi (nI (k)))]) [] (zit (q_clr n) (k) (0, μ)).2) (N := n) ?_ ?_ 0 (Nat.zero_le _)
  · show zWA _ _ _ _ _ _
    refine zx_iload dX7_fit_181 rfl ?_
    refine zx_iload_n dX7_fit_183 rfl rfl ?_
    refine zx_icmp_ge (tgt := 340) dX7_fit_184 (by decide) (fun _ => ?_) (fun h_ => absurd h_ (fun q => q (by first | decide | exact Int32.le_refl _)))
    exact zWA_to hx ⟨rfl, rfl, rfl, rfl, trivial⟩
  · intro k hk hn_
    show zWA _ _ _ _ _ _
    refine zx_iload dX7_fit_181 rfl ?_
    refine zx_iload_n dX7_fit_183 rfl rfl ?_
    refine zx_icmp_ge (tgt := 340) dX7_fit_184 (by decide) (fun h_ => absurd h_ (nI_ge hk (by omega))) (fun _ => ?_)
    refine zx_aload_n dX7_fit_187 rfl rfl ?_
    refine zx_getR zf_X7_85 (by assumption) (show _ = some 36 from (hLk k).1 35 (by decide)) rfl dX7_fit_188 ?_
    refine zx_bipush 6 dX7_fit_191 (by decide) ?_
    refine zx_iload dX7_fit_193 rfl ?_
    refine zx_imul dX7_fit_195 ?_
    refine zx_dald (6 * k) (by assumption) (z6 _) ⟨by rw [hl36]; omega, by rw [hl36]; decide⟩ dX7_fit_196 ?_
    refine zx_callS1 _ zs_X7_210 m_X7_size rfl rfl ⟨rfl, rfl, (Nat.le_of_ble_eq_true rfl), (Nat.le_of_ble_eq_true rfl)⟩ (Nat.le_of_ble_eq_true rfl) dX7_fit_197 ?_
    refine zx_ldc2d 4472406533629990549 zk_X7_308 (by decide +kernel) dX7_fit_200 ?_
    refine zx_dl_le (tgt := 334) dX7_fit_203 dX7_fit_204 (by decide) (fun c_203 => ?_) (fun c_203 => ?_)
    · skip
      refine zx_iinc (nI (k + 1)) dX7_fit_334 rfl (by exact nI_1 k) (Nat.le_of_ble_eq_true rfl) ?_
      refine zx_goto (tgt := 181) dX7_fit_337 (by decide) ?_
      exact (by (have e : q_clr n k (zit (q_clr n) k (0, μ)) = (zit (q_clr n) k (0, μ)) := if_neg (by rw [show zgt (t_size (zD (zit (q_clr n) k (0, μ)).2 36 (6 * k))) k1e9 = false from c_203]; decide)); exact zWA_to (zWA_mem hn_ (by show (q_clr n k (zit (q_clr n) k (0, μ))).2 = _; rw [e])) ⟨rfl, rfl, by show some (zi _) = some (zi (q_clr n k (zit (q_clr n) k (0, μ))).1); rw [e], rfl, trivial⟩)
    · skip
      refine zx_iinc ((zit (q_clr n) k (0, μ)).1 + 1) dX7_fit_207 rfl (show _ = (zit (q_clr n) k (0, μ)).1 + 1 from rfl) (Nat.le_of_ble_eq_true rfl) ?_
      refine zx_iload dX7_fit_210 rfl ?_
      refine zx_iconst 1 dX7_fit_212 (by decide) ?_
      refine zx_iadd dX7_fit_213 ?_
      refine zx_istore dX7_fit_214 (Nat.le_of_ble_eq_true rfl) ?_
      refine zWA_to (L_X7_fit6 (μ := (zit (q_clr n) k (0, μ)).2) (n := n) (c := k) (fnd := (zit (q_clr n) k (0, μ)).1 + 1) hG (hLk k) hn hk ?_) ⟨rfl, rfl, rfl, rfl, by show some (zi _) = some (zi _); rw [show (1 : Int32) = nI 1 from rfl, nI_add] <;> rfl, trivial⟩
      refine zx_iinc (nI (k + 1)) dX7_fit_334 rfl (by exact nI_1 k) (Nat.le_of_ble_eq_true rfl) ?_
      refine zx_goto (tgt := 181) dX7_fit_337 (by decide) ?_
      exact (by (have e : q_clr n k (zit (q_clr n) k (0, μ)) = ((zit (q_clr n) k (0, μ)).1 + 1, zit (q_row n k) (n - (k + 1)) (zit (q_clr n) k (0, μ)).2) := if_pos c_203); exact zWA_to (zWA_mem hn_ (by show (q_clr n k (zit (q_clr n) k (0, μ))).2 = _; rw [e])) ⟨rfl, rfl, by show some (zi _) = some (zi (q_clr n k (zit (q_clr n) k (0, μ))).1); rw [e], rfl, trivial⟩)

