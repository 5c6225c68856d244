set_option maxHeartbeats 4000000 in
set_option maxRecDepth 100000 in
theorem L_X7_stA {g : ZG} {μ : ZMem} {w h : Nat} {ly : Int32} (hG : zGM g) (hL : zLM w h ly μ) {v : UInt64} {i j : Nat} (hi : i < w) (hj : j < h) {hr : Nat} (hhr : hr < 24) (hH : (FP.d2l (zdiv (zD μ 0 13) k3600) - FP.d2l (zdiv (zD μ 0 13) k3600) / 24 * 24).toInt32 = nI hr) {res : Option ZV} {μ' : ZMem} (hx : zWA g (RX7, cX7_step, 7, none, zrm 4, res, μ') 122 (zls [(0, zr (some 0)), (1, zd v), (3, zi (nI j)), (4, zi (nI i)), (5, zi (nI (2)))]) [] (zit (q_fA w h i j hr v) (2) μ)) : zWA g (RX7, cX7_step, 7, none, zrm 4, res, μ') 47 (zls [(0, zr (some 0)), (1, zd v), (3, zi (nI j)), (4, zi (nI i)), (5, zi (nI (0)))]) [] μ := by
  have hO0 : zO g 7 0 := hG.o 0 (by decide)
  have hO7 : zO g 10 7 := hG.o 7 (by decide)
  have hl7 : zln g 7 = 144 := hG.l 7 (by decide)
  have hO8 : zO g 8 8 := hG.o 8 (by decide)
  have hl8 : zln g 8 = 144 := hG.l 8 (by decide)
  have hO9 : zO g 8 9 := hG.o 9 (by decide)
  have hl9 : zln g 9 = 144 := hG.l 9 (by decide)
  have hO16 : zO g 10 16 := hG.o 16 (by decide)
  have hl16 : zln g 16 = 144 := hG.l 16 (by decide)
  have hO17 : zO g 8 17 := hG.o 17 (by decide)
  have hl17 : zln g 17 = 144 := hG.l 17 (by decide)
  have hO18 : zO g 8 18 := hG.o 18 (by decide)
  have hl18 : zln g 18 = 144 := hG.l 18 (by decide)
  have hO19 : zO g 10 19 := hG.o 19 (by decide)
  have hl19 : zln g 19 = 336 := hG.l 19 (by decide)
  have hw0 : zI μ 0 0 = nI w := hL.2.1
  have hh0 : zI μ 0 1 = nI h := hL.2.2.1
  have hy0 : zI μ 0 2 = ly := hL.2.2.2.1
  obtain ⟨hb1, hb2, hb3, hb4⟩ := hL.2.2.2.2
  have hKk : ∀ k, zKt (zit (q_fA w h i j hr v) k μ) μ := fun k => zKt_it (zKt_fA w h i j hr v) k μ
  have hLk : ∀ k, zLM w h ly (zit (q_fA w h i j hr v) k μ) := fun k => zLM_kp (hKk k).1 hL
  have hwk : ∀ k, zI (zit (q_fA w h i j hr v) k μ) 0 0 = nI w := fun k => (hLk k).2.1
  have hhk : ∀ k, zI (zit (q_fA w h i j hr v) k μ) 0 1 = nI h := fun k => (hLk k).2.2.1
  have hHk : ∀ k, (FP.d2l (zdiv (zD (zit (q_fA w h i j hr v) k μ) 0 13) k3600) - FP.d2l (zdiv (zD (zit (q_fA w h i j hr v) k μ) 0 13) k3600) / 24 * 24).toInt32 = nI hr := fun k => by rw [(hKk k).2]; exact hH
  refine zloop (P := fun k => zWA g (RX7, cX7_step, 7, none, zrm 4, res, μ') 47 (zls [(0, zr (some 0)), (1, zd v), (3, zi (nI j)), (4, zi (nI i)), (5, zi (nI (k)))]) [] (zit (q_fA w h i j hr v) (k) μ)) (N := 2) ?_ ?_ 0 (Nat.zero_le _)
  · show zWA _ _ _ _ _ _
    refine zx_iload dX7_step_47 rfl ?_
    refine zx_iconst 2 dX7_step_49 (by decide) ?_
    refine zx_icmp_ge (tgt := 122) dX7_step_50 (by decide) (fun _ => ?_) (fun h_ => absurd h_ (fun q => q (by decide)))
    exact zWA_to hx ⟨rfl, rfl, rfl, rfl, rfl, trivial⟩
  · intro k hk hn_
    show zWA _ _ _ _ _ _
    refine zx_iload dX7_step_47 rfl ?_
    refine zx_iconst 2 dX7_step_49 (by decide) ?_
    refine zx_icmp_ge (tgt := 122) dX7_step_50 (by decide) (fun h_ => absurd h_ (nI_ge hk (by decide))) (fun _ => ?_)
    refine zx_aload_n dX7_step_53 rfl rfl ?_
    refine zx_iload dX7_step_54 rfl ?_
    refine zx_iload_n dX7_step_56 rfl rfl ?_
    refine zx_iload dX7_step_57 rfl ?_
    refine zx_callV1 _ zv_X7_223 (m_X7_hasFace hG (hLk k)) (by assumption) (by decide) rfl rfl rfl ⟨rfl, rfl, (Nat.le_of_ble_eq_true rfl), (Nat.le_of_ble_eq_true rfl)⟩ (Nat.le_of_ble_eq_true rfl) dX7_step_59 ?_
    refine zx_if_eq (tgt := 116) dX7_step_62 (by decide) (fun c_62 => ?_) (fun c_62 => ?_)
    · skip
      refine zx_iinc (nI (k + 1)) dX7_step_116 rfl (by exact nI_1 k) (Nat.le_of_ble_eq_true rfl) ?_
      refine zx_goto (tgt := 47) dX7_step_119 (by decide) ?_
      exact zWA_to (zWA_mem hn_ (by exact q_fA_no c_62)) ⟨rfl, rfl, rfl, rfl, rfl, trivial⟩
    · skip
      refine zx_aload_n dX7_step_65 rfl rfl ?_
      refine zx_sipush 144 dX7_step_66 (by decide) ?_
      refine zx_iload dX7_step_69 rfl ?_
      refine zx_imul dX7_step_71 ?_
      refine zx_iload dX7_step_72 rfl ?_
      refine zx_iload_n dX7_step_74 rfl rfl ?_
      refine zx_callS1 _ zs_X7_135 m_X7_at rfl rfl ⟨rfl, rfl, (Nat.le_of_ble_eq_true rfl), (Nat.le_of_ble_eq_true rfl)⟩ (Nat.le_of_ble_eq_true rfl) dX7_step_75 ?_
      refine zx_iadd dX7_step_78 ?_
      rw [zat, show (144 : Int32) * nI k + nI (12 * j + i) = nI (144 * k + (12 * j + i)) from z144 _ _]
      refine zx_iload dX7_step_79 rfl ?_
      refine zx_iload dX7_step_81 rfl ?_
      refine zx_iload_n dX7_step_83 rfl rfl ?_
      refine zx_callS1 _ zs_X7_135 m_X7_at rfl rfl ⟨rfl, rfl, (Nat.le_of_ble_eq_true rfl), (Nat.le_of_ble_eq_true rfl)⟩ (Nat.le_of_ble_eq_true rfl) dX7_step_84 ?_
      refine zx_iload dX7_step_87 rfl ?_
      refine zx_if_ne (tgt := 103) dX7_step_89 (by decide) (fun c_89 => ?_) (fun c_89 => ?_)
      · skip
        refine zx_iload dX7_step_103 rfl ?_
        refine zx_iload_n dX7_step_105 rfl rfl ?_
        refine zx_iconst 1 dX7_step_106 (by decide) ?_
        refine zx_iadd dX7_step_107 ?_
        refine zx_callS1 _ zs_X7_135 m_X7_at rfl rfl ⟨rfl, rfl, (Nat.le_of_ble_eq_true rfl), (Nat.le_of_ble_eq_true rfl)⟩ (Nat.le_of_ble_eq_true rfl) dX7_step_108 ?_
        refine zx_dconst0 dX7_step_111 ?_
        refine zx_dload_n dX7_step_112 rfl rfl ?_
        rw [nI_1, zat, zat]
        refine zx_callV0 _ zv_X7_226 (m_X7_flow_bb hG (hLk k) (f := 144 * k + (12 * j + i)) (by omega) (c := 12 * j + i) (by omega) (d := 12 * (j + 1) + i) (by have := t_hasFace_1 c_89 (by omega) (by omega) (show i < 12 by omega) (show j < 12 by omega) c_62; omega) hhr (hHk k)) (by assumption) (by decide) rfl rfl rfl ⟨rfl, rfl, (Nat.le_of_ble_eq_true rfl), (Nat.le_of_ble_eq_true rfl)⟩ (Nat.le_of_ble_eq_true rfl) dX7_step_113 ?_
        refine zx_iinc (nI (k + 1)) dX7_step_116 rfl (by exact nI_1 k) (Nat.le_of_ble_eq_true rfl) ?_
        refine zx_goto (tgt := 47) dX7_step_119 (by decide) ?_
        exact zWA_to (zWA_mem hn_ (by exact q_fA_1 c_62 c_89)) ⟨rfl, rfl, rfl, rfl, rfl, trivial⟩
      · skip
        refine zx_iload dX7_step_92 rfl ?_
        refine zx_iconst 1 dX7_step_94 (by decide) ?_
        refine zx_iadd dX7_step_95 ?_
        refine zx_iload_n dX7_step_96 rfl rfl ?_
        refine zx_callS1 _ zs_X7_135 m_X7_at rfl rfl ⟨rfl, rfl, (Nat.le_of_ble_eq_true rfl), (Nat.le_of_ble_eq_true rfl)⟩ (Nat.le_of_ble_eq_true rfl) dX7_step_97 ?_
        refine zx_goto (tgt := 111) dX7_step_100 (by decide) ?_
        refine zx_dconst0 dX7_step_111 ?_
        refine zx_dload_n dX7_step_112 rfl rfl ?_
        rw [nI_1, zat, zat]
        refine zx_callV0 _ zv_X7_226 (m_X7_flow_bb hG (hLk k) (f := 144 * k + (12 * j + i)) (by omega) (c := 12 * j + i) (by omega) (d := 12 * j + (i + 1)) (by have := t_hasFace_0 (show w ≤ 12 by omega) (show h ≤ 12 by omega) (show i < 12 by omega) (show j < 12 by omega) (by rw [c_89] at c_62; exact c_62); omega) hhr (hHk k)) (by assumption) (by decide) rfl rfl rfl ⟨rfl, rfl, (Nat.le_of_ble_eq_true rfl), (Nat.le_of_ble_eq_true rfl)⟩ (Nat.le_of_ble_eq_true rfl) dX7_step_113 ?_
        refine zx_iinc (nI (k + 1)) dX7_step_116 rfl (by exact nI_1 k) (Nat.le_of_ble_eq_true rfl) ?_
        refine zx_goto (tgt := 47) dX7_step_119 (by decide) ?_
        exact zWA_to (zWA_mem hn_ (by exact q_fA_0 c_62 c_89)) ⟨rfl, rfl, rfl, rfl, rfl, trivial⟩

set_option maxHeartbeats 4000000 in
set_option maxRecDepth 100000 in
theorem L_X7_stS {g : ZG} {μ : ZMem} {w h : Nat} {ly : Int32} (hG : zGM g) (hL : zLM w h ly μ) {v : UInt64} {i j : Nat} (hi : i < w) (hj : j < h) {hr : Nat} (hhr : hr < 24) (hH : (FP.d2l (zdiv (zD μ 0 13) k3600) - FP.d2l (zdiv (zD μ 0 13) k3600) / 24 * 24).toInt32 = nI hr) {res : Option ZV} {μ' : ZMem} (hx : zWA g (RX7, cX7_step, 7, none, zrm 4, res, μ') 220 (zls [(0, zr (some 0)), (1, zd v), (3, zi (nI j)), (4, zi (nI i)), (5, zi (nI (4)))]) [] (zit (q_fS w h i j hr v) (4) μ)) : zWA g (RX7, cX7_step, 7, none, zrm 4, res, μ') 125 (zls [(0, zr (some 0)), (1, zd v), (3, zi (nI j)), (4, zi (nI i)), (5, zi (nI (0)))]) [] μ := by
  have hO0 : zO g 7 0 := hG.o 0 (by decide)
  have hO7 : zO g 10 7 := hG.o 7 (by decide)
  have hl7 : zln g 7 = 144 := hG.l 7 (by decide)
  have hO8 : zO g 8 8 := hG.o 8 (by decide)
  have hl8 : zln g 8 = 144 := hG.l 8 (by decide)
  have hO9 : zO g 8 9 := hG.o 9 (by decide)
  have hl9 : zln g 9 = 144 := hG.l 9 (by decide)
  have hO16 : zO g 10 16 := hG.o 16 (by decide)
  have hl16 : zln g 16 = 144 := hG.l 16 (by decide)
  have hO17 : zO g 8 17 := hG.o 17 (by decide)
  have hl17 : zln g 17 = 144 := hG.l 17 (by decide)
  have hO18 : zO g 8 18 := hG.o 18 (by decide)
  have hl18 : zln g 18 = 144 := hG.l 18 (by decide)
  have hO19 : zO g 10 19 := hG.o 19 (by decide)
  have hl19 : zln g 19 = 336 := hG.l 19 (by decide)
  have hw0 : zI μ 0 0 = nI w := hL.2.1
  have hh0 : zI μ 0 1 = nI h := hL.2.2.1
  have hy0 : zI μ 0 2 = ly := hL.2.2.2.1
  obtain ⟨hb1, hb2, hb3, hb4⟩ := hL.2.2.2.2
  have hKk : ∀ k, zKt (zit (q_fS w h i j hr v) k μ) μ := fun k => zKt_it (zKt_fS w h i j hr v) k μ
  have hLk : ∀ k, zLM w h ly (zit (q_fS w h i j hr v) k μ) := fun k => zLM_kp (hKk k).1 hL
  have hwk : ∀ k, zI (zit (q_fS w h i j hr v) k μ) 0 0 = nI w := fun k => (hLk k).2.1
  have hhk : ∀ k, zI (zit (q_fS w h i j hr v) k μ) 0 1 = nI h := fun k => (hLk k).2.2.1
  have hHk : ∀ k, (FP.d2l (zdiv (zD (zit (q_fS w h i j hr v) k μ) 0 13) k3600) - FP.d2l (zdiv (zD (zit (q_fS w h i j hr v) k μ) 0 13) k3600) / 24 * 24).toInt32 = nI hr := fun k => by rw [(hKk k).2]; exact hH
  refine zloop (P := fun k => zWA g (RX7, cX7_step, 7, none, zrm 4, res, μ') 125 (zls [(0, zr (some 0)), (1, zd v), (3, zi (nI j)), (4, zi (nI i)), (5, zi (nI (k)))]) [] (zit (q_fS w h i j hr v) (k) μ)) (N := 4) ?_ ?_ 0 (Nat.zero_le _)
  · show zWA _ _ _ _ _ _
    refine zx_iload dX7_step_125 rfl ?_
    refine zx_iconst 4 dX7_step_127 (by decide) ?_
    refine zx_icmp_ge (tgt := 220) dX7_step_128 (by decide) (fun _ => ?_) (fun h_ => absurd h_ (fun q => q (by decide)))
    exact zWA_to hx ⟨rfl, rfl, rfl, rfl, rfl, trivial⟩
  · intro k hk hn_
    show zWA _ _ _ _ _ _
    refine zx_iload dX7_step_125 rfl ?_
    refine zx_iconst 4 dX7_step_127 (by decide) ?_
    refine zx_icmp_ge (tgt := 220) dX7_step_128 (by decide) (fun h_ => absurd h_ (nI_ge hk (by decide))) (fun _ => ?_)
    refine zx_aload_n dX7_step_131 rfl rfl ?_
    refine zx_iload dX7_step_132 rfl ?_
    refine zx_iload_n dX7_step_134 rfl rfl ?_
    refine zx_iload dX7_step_135 rfl ?_
    refine zx_callV1 _ zv_X7_230 (m_X7_hasSideFace hG (hLk k) hk) (by assumption) (by decide) rfl rfl rfl ⟨rfl, rfl, (Nat.le_of_ble_eq_true rfl), (Nat.le_of_ble_eq_true rfl)⟩ (Nat.le_of_ble_eq_true rfl) dX7_step_137 ?_
    refine zx_if_eq (tgt := 214) dX7_step_140 (by decide) (fun c_140 => ?_) (fun c_140 => ?_)
    · skip
      refine zx_iinc (nI (k + 1)) dX7_step_214 rfl (by exact nI_1 k) (Nat.le_of_ble_eq_true rfl) ?_
      refine zx_goto (tgt := 125) dX7_step_217 (by decide) ?_
      exact zWA_to (zWA_mem hn_ (by exact q_fS_no c_140)) ⟨rfl, rfl, rfl, rfl, rfl, trivial⟩
    · skip
      refine zx_iload dX7_step_143 rfl ?_
      refine zx_if_eq (tgt := 154) dX7_step_145 (by decide) (fun c_145 => ?_) (fun c_145 => ?_)
      · skip
        refine zx_iconst 1 dX7_step_154 (by decide) ?_
        refine zx_goto (tgt := 159) dX7_step_155 (by decide) ?_
        refine zx_istore dX7_step_159 (Nat.le_of_ble_eq_true rfl) ?_
        refine zx_aload_n dX7_step_161 rfl rfl ?_
        refine zx_iload dX7_step_162 rfl ?_
        refine zx_iload_n dX7_step_164 rfl rfl ?_
        refine zx_iload dX7_step_165 rfl ?_
        refine zx_callS1 _ zs_X7_164 m_X7_sideFace rfl rfl ⟨rfl, rfl, (Nat.le_of_ble_eq_true rfl), (Nat.le_of_ble_eq_true rfl)⟩ (Nat.le_of_ble_eq_true rfl) dX7_step_167 ?_
        rw [t_sideFace_nI _ _ _ hk]
        refine zx_iload dX7_step_170 rfl ?_
        refine zx_iconst 2 dX7_step_172 (by decide) ?_
        refine zx_idiv dX7_step_173 (by decide) ?_
        refine zx_iload dX7_step_174 rfl ?_
        refine zx_if_eq (tgt := 183) dX7_step_176 (by decide) (fun h_ => absurd h_ (by decide)) (fun _ => ?_)
        refine zx_iconst (-1) dX7_step_179 (by decide) ?_
        refine zx_goto (tgt := 189) dX7_step_180 (by decide) ?_
        refine zx_iload dX7_step_189 rfl ?_
        refine zx_if_eq (tgt := 203) dX7_step_191 (by decide) (fun h_ => absurd h_ (by decide)) (fun _ => ?_)
        refine zx_iload dX7_step_194 rfl ?_
        refine zx_iload_n dX7_step_196 rfl rfl ?_
        refine zx_callS1 _ zs_X7_135 m_X7_at rfl rfl ⟨rfl, rfl, (Nat.le_of_ble_eq_true rfl), (Nat.le_of_ble_eq_true rfl)⟩ (Nat.le_of_ble_eq_true rfl) dX7_step_197 ?_
        refine zx_goto (tgt := 204) dX7_step_200 (by decide) ?_
        rw [zat]
        refine zx_aload_n dX7_step_204 rfl rfl ?_
        refine zx_iload dX7_step_205 rfl ?_
        refine zx_callV1 _ zv_X7_233 (m_X7_outside hG (hLk k) hk) (by assumption) (by decide) rfl rfl rfl ⟨rfl, rfl, (Nat.le_of_ble_eq_true rfl), (Nat.le_of_ble_eq_true rfl)⟩ (Nat.le_of_ble_eq_true rfl) dX7_step_207 ?_
        refine zx_dload_n dX7_step_210 rfl rfl ?_
        refine zx_callV0 _ zv_X7_226 (m_X7_flow_ne hG (hLk k) (f := sfN i j k) (sfN_lt (by omega) (by omega) hk) (d := 12 * j + i) (by omega) hhr (hHk k)) (by assumption) (by decide) rfl rfl rfl ⟨rfl, rfl, (Nat.le_of_ble_eq_true rfl), (Nat.le_of_ble_eq_true rfl)⟩ (Nat.le_of_ble_eq_true rfl) dX7_step_211 ?_
        refine zx_iinc (nI (k + 1)) dX7_step_214 rfl (by exact nI_1 k) (Nat.le_of_ble_eq_true rfl) ?_
        refine zx_goto (tgt := 125) dX7_step_217 (by decide) ?_
        exact zWA_to (zWA_mem hn_ (by exact q_fS_t c_140 (t_bhd_0 c_145))) ⟨rfl, rfl, rfl, rfl, rfl, trivial⟩
      · skip
        refine zx_iload dX7_step_148 rfl ?_
        refine zx_iconst 2 dX7_step_150 (by decide) ?_
        refine zx_icmp_ne (tgt := 158) dX7_step_151 (by decide) (fun c_151 => ?_) (fun c_151 => ?_)
        · skip
          refine zx_iconst 0 dX7_step_158 (by decide) ?_
          refine zx_istore dX7_step_159 (Nat.le_of_ble_eq_true rfl) ?_
          refine zx_aload_n dX7_step_161 rfl rfl ?_
          refine zx_iload dX7_step_162 rfl ?_
          refine zx_iload_n dX7_step_164 rfl rfl ?_
          refine zx_iload dX7_step_165 rfl ?_
          refine zx_callS1 _ zs_X7_164 m_X7_sideFace rfl rfl ⟨rfl, rfl, (Nat.le_of_ble_eq_true rfl), (Nat.le_of_ble_eq_true rfl)⟩ (Nat.le_of_ble_eq_true rfl) dX7_step_167 ?_
          rw [t_sideFace_nI _ _ _ hk]
          refine zx_iload dX7_step_170 rfl ?_
          refine zx_iconst 2 dX7_step_172 (by decide) ?_
          refine zx_idiv dX7_step_173 (by decide) ?_
          refine zx_iload dX7_step_174 rfl ?_
          refine zx_if_eq (tgt := 183) dX7_step_176 (by decide) (fun _ => ?_) (fun h_ => absurd h_ (fun q => q (by decide)))
          refine zx_iload dX7_step_183 rfl ?_
          refine zx_iload_n dX7_step_185 rfl rfl ?_
          refine zx_callS1 _ zs_X7_135 m_X7_at rfl rfl ⟨rfl, rfl, (Nat.le_of_ble_eq_true rfl), (Nat.le_of_ble_eq_true rfl)⟩ (Nat.le_of_ble_eq_true rfl) dX7_step_186 ?_
          refine zx_iload dX7_step_189 rfl ?_
          refine zx_if_eq (tgt := 203) dX7_step_191 (by decide) (fun _ => ?_) (fun h_ => absurd h_ (fun q => q (by decide)))
          refine zx_iconst (-1) dX7_step_203 (by decide) ?_
          rw [zat]
          refine zx_aload_n dX7_step_204 rfl rfl ?_
          refine zx_iload dX7_step_205 rfl ?_
          refine zx_callV1 _ zv_X7_233 (m_X7_outside hG (hLk k) hk) (by assumption) (by decide) rfl rfl rfl ⟨rfl, rfl, (Nat.le_of_ble_eq_true rfl), (Nat.le_of_ble_eq_true rfl)⟩ (Nat.le_of_ble_eq_true rfl) dX7_step_207 ?_
          refine zx_dload_n dX7_step_210 rfl rfl ?_
          refine zx_callV0 _ zv_X7_226 (m_X7_flow_bn hG (hLk k) (f := sfN i j k) (sfN_lt (by omega) (by omega) hk) (c := 12 * j + i) (by omega) hhr (hHk k)) (by assumption) (by decide) rfl rfl rfl ⟨rfl, rfl, (Nat.le_of_ble_eq_true rfl), (Nat.le_of_ble_eq_true rfl)⟩ (Nat.le_of_ble_eq_true rfl) dX7_step_211 ?_
          refine zx_iinc (nI (k + 1)) dX7_step_214 rfl (by exact nI_1 k) (Nat.le_of_ble_eq_true rfl) ?_
          refine zx_goto (tgt := 125) dX7_step_217 (by decide) ?_
          exact zWA_to (zWA_mem hn_ (by exact q_fS_f c_140 (t_bhd_n c_145 c_151))) ⟨rfl, rfl, rfl, rfl, rfl, trivial⟩
        · skip
          refine zx_iconst 1 dX7_step_154 (by decide) ?_
          refine zx_goto (tgt := 159) dX7_step_155 (by decide) ?_
          refine zx_istore dX7_step_159 (Nat.le_of_ble_eq_true rfl) ?_
          refine zx_aload_n dX7_step_161 rfl rfl ?_
          refine zx_iload dX7_step_162 rfl ?_
          refine zx_iload_n dX7_step_164 rfl rfl ?_
          refine zx_iload dX7_step_165 rfl ?_
          refine zx_callS1 _ zs_X7_164 m_X7_sideFace rfl rfl ⟨rfl, rfl, (Nat.le_of_ble_eq_true rfl), (Nat.le_of_ble_eq_true rfl)⟩ (Nat.le_of_ble_eq_true rfl) dX7_step_167 ?_
          rw [t_sideFace_nI _ _ _ hk]
          refine zx_iload dX7_step_170 rfl ?_
          refine zx_iconst 2 dX7_step_172 (by decide) ?_
          refine zx_idiv dX7_step_173 (by decide) ?_
          refine zx_iload dX7_step_174 rfl ?_
          refine zx_if_eq (tgt := 183) dX7_step_176 (by decide) (fun h_ => absurd h_ (by decide)) (fun _ => ?_)
          refine zx_iconst (-1) dX7_step_179 (by decide) ?_
          refine zx_goto (tgt := 189) dX7_step_180 (by decide) ?_
          refine zx_iload dX7_step_189 rfl ?_
          refine zx_if_eq (tgt := 203) dX7_step_191 (by decide) (fun h_ => absurd h_ (by decide)) (fun _ => ?_)
          refine zx_iload dX7_step_194 rfl ?_
          refine zx_iload_n dX7_step_196 rfl rfl ?_
          refine zx_callS1 _ zs_X7_135 m_X7_at rfl rfl ⟨rfl, rfl, (Nat.le_of_ble_eq_true rfl), (Nat.le_of_ble_eq_true rfl)⟩ (Nat.le_of_ble_eq_true rfl) dX7_step_197 ?_
          refine zx_goto (tgt := 204) dX7_step_200 (by decide) ?_
          rw [zat]
          refine zx_aload_n dX7_step_204 rfl rfl ?_
          refine zx_iload dX7_step_205 rfl ?_
          refine zx_callV1 _ zv_X7_233 (m_X7_outside hG (hLk k) hk) (by assumption) (by decide) rfl rfl rfl ⟨rfl, rfl, (Nat.le_of_ble_eq_true rfl), (Nat.le_of_ble_eq_true rfl)⟩ (Nat.le_of_ble_eq_true rfl) dX7_step_207 ?_
          refine zx_dload_n dX7_step_210 rfl rfl ?_
          refine zx_callV0 _ zv_X7_226 (m_X7_flow_ne hG (hLk k) (f := sfN i j k) (sfN_lt (by omega) (by omega) hk) (d := 12 * j + i) (by omega) hhr (hHk k)) (by assumption) (by decide) rfl rfl rfl ⟨rfl, rfl, (Nat.le_of_ble_eq_true rfl), (Nat.le_of_ble_eq_true rfl)⟩ (Nat.le_of_ble_eq_true rfl) dX7_step_211 ?_
          refine zx_iinc (nI (k + 1)) dX7_step_214 rfl (by exact nI_1 k) (Nat.le_of_ble_eq_true rfl) ?_
          refine zx_goto (tgt := 125) dX7_step_217 (by decide) ?_
          exact zWA_to (zWA_mem hn_ (by exact q_fS_t c_140 (t_bhd_2 c_145 c_151))) ⟨rfl, rfl, rfl, rfl, rfl, trivial⟩

