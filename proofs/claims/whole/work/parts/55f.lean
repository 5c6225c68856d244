set_option maxHeartbeats 4000000 in
set_option maxRecDepth 100000 in
theorem L_X7_back1 {g : ZG} {μ : ZMem} {w h : Nat} {ly : Int32} (hG : zGM g) (hL : zLM w h ly μ) {T : Nat} (hT : T < 4) {res : Option ZV} {μ' : ZMem} (hx : zWA g (RX7, cX7_back, 3, ((some FieldType.boolean)), zrm 1, res, μ') 114 (zls [(0, zr (some 0)), (1, zi (nI T)), (2, zi (nI (144)))]) [] (zit (q_bkC T) (144) μ)) : zWA g (RX7, cX7_back, 3, ((some FieldType.boolean)), zrm 1, res, μ') 29 (zls [(0, zr (some 0)), (1, zi (nI T)), (2, zi (nI (0)))]) [] μ := by
  have hO0 : zO g 7 0 := hG.o 0 (by decide)
  have hO7 : zO g 10 7 := hG.o 7 (by decide)
  have hl7 : zln g 7 = 144 := hG.l 7 (by decide)
  have hO8 : zO g 8 8 := hG.o 8 (by decide)
  have hl8 : zln g 8 = 144 := hG.l 8 (by decide)
  have hO9 : zO g 8 9 := hG.o 9 (by decide)
  have hl9 : zln g 9 = 144 := hG.l 9 (by decide)
  have hO10 : zO g 8 10 := hG.o 10 (by decide)
  have hl10 : zln g 10 = 144 := hG.l 10 (by decide)
  have hO11 : zO g 8 11 := hG.o 11 (by decide)
  have hl11 : zln g 11 = 336 := hG.l 11 (by decide)
  have hO12 : zO g 10 12 := hG.o 12 (by decide)
  have hl12 : zln g 12 = 4 := hG.l 12 (by decide)
  have hO42 : zO g 9 42 := hG.o 42 (by decide)
  have hl42 : zln g 42 = 4 := hG.l 42 (by decide)
  have hO43 : zO g 10 43 := hG.o 43 (by decide)
  have hl43 : zln g 43 = 576 := hG.l 43 (by decide)
  have hO44 : zO g 8 44 := hG.o 44 (by decide)
  have hl44 : zln g 44 = 576 := hG.l 44 (by decide)
  have hO45 : zO g 8 45 := hG.o 45 (by decide)
  have hl45 : zln g 45 = 576 := hG.l 45 (by decide)
  have hO46 : zO g 8 46 := hG.o 46 (by decide)
  have hl46 : zln g 46 = 576 := hG.l 46 (by decide)
  have hO47 : zO g 8 47 := hG.o 47 (by decide)
  have hl47 : zln g 47 = 1344 := hG.l 47 (by decide)
  have hO48 : zO g 10 48 := hG.o 48 (by decide)
  have hl48 : zln g 48 = 16 := hG.l 48 (by decide)
  have hO49 : zO g 10 49 := hG.o 49 (by decide)
  have hl49 : zln g 49 = 4 := hG.l 49 (by decide)
  have hO50 : zO g 8 50 := hG.o 50 (by decide)
  have hl50 : zln g 50 = 4 := hG.l 50 (by decide)
  have hw0 : zI μ 0 0 = nI w := hL.2.1
  have hh0 : zI μ 0 1 = nI h := hL.2.2.1
  have hy0 : zI μ 0 2 = ly := hL.2.2.2.1
  obtain ⟨hb1, hb2, hb3, hb4⟩ := hL.2.2.2.2
  have hKk : ∀ k, zKp (zit (q_bkC T) k μ) μ := fun k => zKp_it (zKp_bkC T) k μ
  have hLk : ∀ k, zLM w h ly (zit (q_bkC T) k μ) := fun k => zLM_kp (hKk k) hL
  have hwk : ∀ k, zI (zit (q_bkC T) k μ) 0 0 = nI w := fun k => (hLk k).2.1
  have hhk : ∀ k, zI (zit (q_bkC T) k μ) 0 1 = nI h := fun k => (hLk k).2.2.1
  refine zloop (P := fun k => zWA g (RX7, cX7_back, 3, ((some FieldType.boolean)), zrm 1, res, μ') 29 (zls [(0, zr (some 0)), (1, zi (nI T)), (2, zi (nI (k)))]) [] (zit (q_bkC T) (k) μ)) (N := 144) ?_ ?_ 0 (Nat.zero_le _)
  · show zWA _ _ _ _ _ _
    refine zx_iload_n dX7_back_29 rfl rfl ?_
    refine zx_sipush 144 dX7_back_30 (by decide) ?_
    refine zx_icmp_ge (tgt := 114) dX7_back_33 (by decide) (fun _ => ?_) (fun h_ => absurd h_ (fun q => q (by first | decide | exact Int32.le_refl _)))
    exact zWA_to hx ⟨rfl, rfl, rfl, trivial⟩
  · intro k hk hn_
    show zWA _ _ _ _ _ _
    refine zx_iload_n dX7_back_29 rfl rfl ?_
    refine zx_sipush 144 dX7_back_30 (by decide) ?_
    refine zx_icmp_ge (tgt := 114) dX7_back_33 (by decide) (fun h_ => absurd h_ (nI_ge hk (by decide))) (fun _ => ?_)
    refine zx_aload_n dX7_back_36 rfl rfl ?_
    refine zx_getR zf_X7_20 (by assumption) (show _ = some 7 from (hLk k).1 6 (by decide)) rfl dX7_back_37 ?_
    refine zx_iload_n dX7_back_40 rfl rfl ?_
    refine zx_aload_n dX7_back_41 rfl rfl ?_
    refine zx_getR zf_X7_97 (by assumption) (show _ = some 43 from (hLk k).1 42 (by decide)) rfl dX7_back_42 ?_
    refine zx_sipush 144 dX7_back_45 (by decide) ?_
    refine zx_iload_n dX7_back_48 rfl rfl ?_
    refine zx_imul dX7_back_49 ?_
    refine zx_iload_n dX7_back_50 rfl rfl ?_
    refine zx_iadd dX7_back_51 ?_
    refine zx_lald (144 * T + k) (by assumption) (z144 T k) ⟨by rw [hl43]; omega, by rw [hl43]; decide⟩ dX7_back_52 ?_
    refine zx_last k (by assumption) rfl ⟨by rw [hl7]; omega, by rw [hl7]; decide⟩ dX7_back_53 ?_
    refine zx_aload_n dX7_back_54 rfl rfl ?_
    refine zx_getR zf_X7_24 (by assumption) (show _ = some 8 from (hLk k).1 7 (by decide)) rfl dX7_back_55 ?_
    refine zx_iload_n dX7_back_58 rfl rfl ?_
    refine zx_aload_n dX7_back_59 rfl rfl ?_
    refine zx_getR zf_X7_100 (by assumption) (show _ = some 44 from (hLk k).1 43 (by decide)) rfl dX7_back_60 ?_
    refine zx_sipush 144 dX7_back_63 (by decide) ?_
    refine zx_iload_n dX7_back_66 rfl rfl ?_
    refine zx_imul dX7_back_67 ?_
    refine zx_iload_n dX7_back_68 rfl rfl ?_
    refine zx_iadd dX7_back_69 ?_
    refine zx_dald (144 * T + k) (by assumption) (z144 T k) ⟨by rw [hl44]; omega, by rw [hl44]; decide⟩ dX7_back_70 ?_
    refine zx_dast k (by assumption) rfl ⟨by rw [hl8]; omega, by rw [hl8]; decide⟩ dX7_back_71 ?_
    refine zx_aload_n dX7_back_72 rfl rfl ?_
    refine zx_getR zf_X7_27 (by assumption) (show _ = some 9 from (hLk k).1 8 (by decide)) rfl dX7_back_73 ?_
    refine zx_iload_n dX7_back_76 rfl rfl ?_
    refine zx_aload_n dX7_back_77 rfl rfl ?_
    refine zx_getR zf_X7_103 (by assumption) (show _ = some 45 from (hLk k).1 44 (by decide)) rfl dX7_back_78 ?_
    refine zx_sipush 144 dX7_back_81 (by decide) ?_
    refine zx_iload_n dX7_back_84 rfl rfl ?_
    refine zx_imul dX7_back_85 ?_
    refine zx_iload_n dX7_back_86 rfl rfl ?_
    refine zx_iadd dX7_back_87 ?_
    refine zx_dald (144 * T + k) (by assumption) (z144 T k) ⟨by rw [hl45]; omega, by rw [hl45]; decide⟩ dX7_back_88 ?_
    refine zx_dast k (by assumption) rfl ⟨by rw [hl9]; omega, by rw [hl9]; decide⟩ dX7_back_89 ?_
    refine zx_aload_n dX7_back_90 rfl rfl ?_
    refine zx_getR zf_X7_30 (by assumption) (show _ = some 10 from (hLk k).1 9 (by decide)) rfl dX7_back_91 ?_
    refine zx_iload_n dX7_back_94 rfl rfl ?_
    refine zx_aload_n dX7_back_95 rfl rfl ?_
    refine zx_getR zf_X7_106 (by assumption) (show _ = some 46 from (hLk k).1 45 (by decide)) rfl dX7_back_96 ?_
    refine zx_sipush 144 dX7_back_99 (by decide) ?_
    refine zx_iload_n dX7_back_102 rfl rfl ?_
    refine zx_imul dX7_back_103 ?_
    refine zx_iload_n dX7_back_104 rfl rfl ?_
    refine zx_iadd dX7_back_105 ?_
    refine zx_dald (144 * T + k) (by assumption) (z144 T k) ⟨by rw [hl46]; omega, by rw [hl46]; decide⟩ dX7_back_106 ?_
    refine zx_dast k (by assumption) rfl ⟨by rw [hl10]; omega, by rw [hl10]; decide⟩ dX7_back_107 ?_
    refine zx_iinc (nI (k + 1)) dX7_back_108 rfl (by exact nI_1 k) (Nat.le_of_ble_eq_true rfl) ?_
    refine zx_goto (tgt := 29) dX7_back_111 (by decide) ?_
    exact zWA_to (zWA_mem hn_ (by rfl)) ⟨rfl, rfl, rfl, trivial⟩

set_option maxHeartbeats 4000000 in
set_option maxRecDepth 100000 in
theorem L_X7_back2 {g : ZG} {μ : ZMem} {w h : Nat} {ly : Int32} (hG : zGM g) (hL : zLM w h ly μ) {T : Nat} (hT : T < 4) {res : Option ZV} {μ' : ZMem} (hx : zWA g (RX7, cX7_back, 3, ((some FieldType.boolean)), zrm 1, res, μ') 147 (zls [(0, zr (some 0)), (1, zi (nI T)), (2, zi (nI (336)))]) [] (zit (q_bkF T) (336) μ)) : zWA g (RX7, cX7_back, 3, ((some FieldType.boolean)), zrm 1, res, μ') 116 (zls [(0, zr (some 0)), (1, zi (nI T)), (2, zi (nI (0)))]) [] μ := by
  have hO0 : zO g 7 0 := hG.o 0 (by decide)
  have hO7 : zO g 10 7 := hG.o 7 (by decide)
  have hl7 : zln g 7 = 144 := hG.l 7 (by decide)
  have hO8 : zO g 8 8 := hG.o 8 (by decide)
  have hl8 : zln g 8 = 144 := hG.l 8 (by decide)
  have hO9 : zO g 8 9 := hG.o 9 (by decide)
  have hl9 : zln g 9 = 144 := hG.l 9 (by decide)
  have hO10 : zO g 8 10 := hG.o 10 (by decide)
  have hl10 : zln g 10 = 144 := hG.l 10 (by decide)
  have hO11 : zO g 8 11 := hG.o 11 (by decide)
  have hl11 : zln g 11 = 336 := hG.l 11 (by decide)
  have hO12 : zO g 10 12 := hG.o 12 (by decide)
  have hl12 : zln g 12 = 4 := hG.l 12 (by decide)
  have hO42 : zO g 9 42 := hG.o 42 (by decide)
  have hl42 : zln g 42 = 4 := hG.l 42 (by decide)
  have hO43 : zO g 10 43 := hG.o 43 (by decide)
  have hl43 : zln g 43 = 576 := hG.l 43 (by decide)
  have hO44 : zO g 8 44 := hG.o 44 (by decide)
  have hl44 : zln g 44 = 576 := hG.l 44 (by decide)
  have hO45 : zO g 8 45 := hG.o 45 (by decide)
  have hl45 : zln g 45 = 576 := hG.l 45 (by decide)
  have hO46 : zO g 8 46 := hG.o 46 (by decide)
  have hl46 : zln g 46 = 576 := hG.l 46 (by decide)
  have hO47 : zO g 8 47 := hG.o 47 (by decide)
  have hl47 : zln g 47 = 1344 := hG.l 47 (by decide)
  have hO48 : zO g 10 48 := hG.o 48 (by decide)
  have hl48 : zln g 48 = 16 := hG.l 48 (by decide)
  have hO49 : zO g 10 49 := hG.o 49 (by decide)
  have hl49 : zln g 49 = 4 := hG.l 49 (by decide)
  have hO50 : zO g 8 50 := hG.o 50 (by decide)
  have hl50 : zln g 50 = 4 := hG.l 50 (by decide)
  have hw0 : zI μ 0 0 = nI w := hL.2.1
  have hh0 : zI μ 0 1 = nI h := hL.2.2.1
  have hy0 : zI μ 0 2 = ly := hL.2.2.2.1
  obtain ⟨hb1, hb2, hb3, hb4⟩ := hL.2.2.2.2
  have hKk : ∀ k, zKp (zit (q_bkF T) k μ) μ := fun k => zKp_it (zKp_bkF T) k μ
  have hLk : ∀ k, zLM w h ly (zit (q_bkF T) k μ) := fun k => zLM_kp (hKk k) hL
  have hwk : ∀ k, zI (zit (q_bkF T) k μ) 0 0 = nI w := fun k => (hLk k).2.1
  have hhk : ∀ k, zI (zit (q_bkF T) k μ) 0 1 = nI h := fun k => (hLk k).2.2.1
  refine zloop (P := fun k => zWA g (RX7, cX7_back, 3, ((some FieldType.boolean)), zrm 1, res, μ') 116 (zls [(0, zr (some 0)), (1, zi (nI T)), (2, zi (nI (k)))]) [] (zit (q_bkF T) (k) μ)) (N := 336) ?_ ?_ 0 (Nat.zero_le _)
  · show zWA _ _ _ _ _ _
    refine zx_iload_n dX7_back_116 rfl rfl ?_
    refine zx_sipush 336 dX7_back_117 (by decide) ?_
    refine zx_icmp_ge (tgt := 147) dX7_back_120 (by decide) (fun _ => ?_) (fun h_ => absurd h_ (fun q => q (by first | decide | exact Int32.le_refl _)))
    exact zWA_to hx ⟨rfl, rfl, rfl, trivial⟩
  · intro k hk hn_
    show zWA _ _ _ _ _ _
    refine zx_iload_n dX7_back_116 rfl rfl ?_
    refine zx_sipush 336 dX7_back_117 (by decide) ?_
    refine zx_icmp_ge (tgt := 147) dX7_back_120 (by decide) (fun h_ => absurd h_ (nI_ge hk (by decide))) (fun _ => ?_)
    refine zx_aload_n dX7_back_123 rfl rfl ?_
    refine zx_getR zf_X7_33 (by assumption) (show _ = some 11 from (hLk k).1 10 (by decide)) rfl dX7_back_124 ?_
    refine zx_iload_n dX7_back_127 rfl rfl ?_
    refine zx_aload_n dX7_back_128 rfl rfl ?_
    refine zx_getR zf_X7_109 (by assumption) (show _ = some 47 from (hLk k).1 46 (by decide)) rfl dX7_back_129 ?_
    refine zx_sipush 336 dX7_back_132 (by decide) ?_
    refine zx_iload_n dX7_back_135 rfl rfl ?_
    refine zx_imul dX7_back_136 ?_
    refine zx_iload_n dX7_back_137 rfl rfl ?_
    refine zx_iadd dX7_back_138 ?_
    refine zx_dald (336 * T + k) (by assumption) (z336 T k) ⟨by rw [hl47]; omega, by rw [hl47]; decide⟩ dX7_back_139 ?_
    refine zx_dast k (by assumption) rfl ⟨by rw [hl11]; omega, by rw [hl11]; decide⟩ dX7_back_140 ?_
    refine zx_iinc (nI (k + 1)) dX7_back_141 rfl (by exact nI_1 k) (Nat.le_of_ble_eq_true rfl) ?_
    refine zx_goto (tgt := 116) dX7_back_144 (by decide) ?_
    exact zWA_to (zWA_mem hn_ (by rfl)) ⟨rfl, rfl, rfl, trivial⟩

set_option maxHeartbeats 4000000 in
set_option maxRecDepth 100000 in
theorem L_X7_back3 {g : ZG} {μ : ZMem} {w h : Nat} {ly : Int32} (hG : zGM g) (hL : zLM w h ly μ) {T : Nat} (hT : T < 4) {res : Option ZV} {μ' : ZMem} (hx : zWA g (RX7, cX7_back, 3, ((some FieldType.boolean)), zrm 1, res, μ') 176 (zls [(0, zr (some 0)), (1, zi (nI T)), (2, zi (nI (4)))]) [] (zit (q_bkO T) (4) μ)) : zWA g (RX7, cX7_back, 3, ((some FieldType.boolean)), zrm 1, res, μ') 149 (zls [(0, zr (some 0)), (1, zi (nI T)), (2, zi (nI (0)))]) [] μ := by
  have hO0 : zO g 7 0 := hG.o 0 (by decide)
  have hO7 : zO g 10 7 := hG.o 7 (by decide)
  have hl7 : zln g 7 = 144 := hG.l 7 (by decide)
  have hO8 : zO g 8 8 := hG.o 8 (by decide)
  have hl8 : zln g 8 = 144 := hG.l 8 (by decide)
  have hO9 : zO g 8 9 := hG.o 9 (by decide)
  have hl9 : zln g 9 = 144 := hG.l 9 (by decide)
  have hO10 : zO g 8 10 := hG.o 10 (by decide)
  have hl10 : zln g 10 = 144 := hG.l 10 (by decide)
  have hO11 : zO g 8 11 := hG.o 11 (by decide)
  have hl11 : zln g 11 = 336 := hG.l 11 (by decide)
  have hO12 : zO g 10 12 := hG.o 12 (by decide)
  have hl12 : zln g 12 = 4 := hG.l 12 (by decide)
  have hO42 : zO g 9 42 := hG.o 42 (by decide)
  have hl42 : zln g 42 = 4 := hG.l 42 (by decide)
  have hO43 : zO g 10 43 := hG.o 43 (by decide)
  have hl43 : zln g 43 = 576 := hG.l 43 (by decide)
  have hO44 : zO g 8 44 := hG.o 44 (by decide)
  have hl44 : zln g 44 = 576 := hG.l 44 (by decide)
  have hO45 : zO g 8 45 := hG.o 45 (by decide)
  have hl45 : zln g 45 = 576 := hG.l 45 (by decide)
  have hO46 : zO g 8 46 := hG.o 46 (by decide)
  have hl46 : zln g 46 = 576 := hG.l 46 (by decide)
  have hO47 : zO g 8 47 := hG.o 47 (by decide)
  have hl47 : zln g 47 = 1344 := hG.l 47 (by decide)
  have hO48 : zO g 10 48 := hG.o 48 (by decide)
  have hl48 : zln g 48 = 16 := hG.l 48 (by decide)
  have hO49 : zO g 10 49 := hG.o 49 (by decide)
  have hl49 : zln g 49 = 4 := hG.l 49 (by decide)
  have hO50 : zO g 8 50 := hG.o 50 (by decide)
  have hl50 : zln g 50 = 4 := hG.l 50 (by decide)
  have hw0 : zI μ 0 0 = nI w := hL.2.1
  have hh0 : zI μ 0 1 = nI h := hL.2.2.1
  have hy0 : zI μ 0 2 = ly := hL.2.2.2.1
  obtain ⟨hb1, hb2, hb3, hb4⟩ := hL.2.2.2.2
  have hKk : ∀ k, zKp (zit (q_bkO T) k μ) μ := fun k => zKp_it (zKp_bkO T) k μ
  have hLk : ∀ k, zLM w h ly (zit (q_bkO T) k μ) := fun k => zLM_kp (hKk k) hL
  have hwk : ∀ k, zI (zit (q_bkO T) k μ) 0 0 = nI w := fun k => (hLk k).2.1
  have hhk : ∀ k, zI (zit (q_bkO T) k μ) 0 1 = nI h := fun k => (hLk k).2.2.1
  refine zloop (P := fun k => zWA g (RX7, cX7_back, 3, ((some FieldType.boolean)), zrm 1, res, μ') 149 (zls [(0, zr (some 0)), (1, zi (nI T)), (2, zi (nI (k)))]) [] (zit (q_bkO T) (k) μ)) (N := 4) ?_ ?_ 0 (Nat.zero_le _)
  · show zWA _ _ _ _ _ _
    refine zx_iload_n dX7_back_149 rfl rfl ?_
    refine zx_iconst 4 dX7_back_150 (by decide) ?_
    refine zx_icmp_ge (tgt := 176) dX7_back_151 (by decide) (fun _ => ?_) (fun h_ => absurd h_ (fun q => q (by first | decide | exact Int32.le_refl _)))
    exact zWA_to hx ⟨rfl, rfl, rfl, trivial⟩
  · intro k hk hn_
    show zWA _ _ _ _ _ _
    refine zx_iload_n dX7_back_149 rfl rfl ?_
    refine zx_iconst 4 dX7_back_150 (by decide) ?_
    refine zx_icmp_ge (tgt := 176) dX7_back_151 (by decide) (fun h_ => absurd h_ (nI_ge hk (by decide))) (fun _ => ?_)
    refine zx_aload_n dX7_back_154 rfl rfl ?_
    refine zx_getR zf_X7_36 (by assumption) (show _ = some 12 from (hLk k).1 11 (by decide)) rfl dX7_back_155 ?_
    refine zx_iload_n dX7_back_158 rfl rfl ?_
    refine zx_aload_n dX7_back_159 rfl rfl ?_
    refine zx_getR zf_X7_112 (by assumption) (show _ = some 48 from (hLk k).1 47 (by decide)) rfl dX7_back_160 ?_
    refine zx_iconst 4 dX7_back_163 (by decide) ?_
    refine zx_iload_n dX7_back_164 rfl rfl ?_
    refine zx_imul dX7_back_165 ?_
    refine zx_iload_n dX7_back_166 rfl rfl ?_
    refine zx_iadd dX7_back_167 ?_
    refine zx_lald (4 * T + k) (by assumption) (z4 T k) ⟨by rw [hl48]; omega, by rw [hl48]; decide⟩ dX7_back_168 ?_
    refine zx_last k (by assumption) rfl ⟨by rw [hl12]; omega, by rw [hl12]; decide⟩ dX7_back_169 ?_
    refine zx_iinc (nI (k + 1)) dX7_back_170 rfl (by exact nI_1 k) (Nat.le_of_ble_eq_true rfl) ?_
    refine zx_goto (tgt := 149) dX7_back_173 (by decide) ?_
    exact zWA_to (zWA_mem hn_ (by rfl)) ⟨rfl, rfl, rfl, trivial⟩

set_option maxHeartbeats 4000000 in
set_option maxRecDepth 100000 in
theorem S_X7_back4 {g : ZG} {μ : ZMem} {w h : Nat} {ly : Int32} (hG : zGM g) (hL : zLM w h ly μ) {T : Nat} (hT : T < 4) : zWA g (RX7, cX7_back, 3, ((some FieldType.boolean)), zrm 1, (some (zi 1)), (q_bkE T μ)) 176 (zls [(0, zr (some 0)), (1, zi (nI T))]) [] μ := by
  have hO0 : zO g 7 0 := hG.o 0 (by decide)
  have hO7 : zO g 10 7 := hG.o 7 (by decide)
  have hl7 : zln g 7 = 144 := hG.l 7 (by decide)
  have hO8 : zO g 8 8 := hG.o 8 (by decide)
  have hl8 : zln g 8 = 144 := hG.l 8 (by decide)
  have hO9 : zO g 8 9 := hG.o 9 (by decide)
  have hl9 : zln g 9 = 144 := hG.l 9 (by decide)
  have hO10 : zO g 8 10 := hG.o 10 (by decide)
  have hl10 : zln g 10 = 144 := hG.l 10 (by decide)
  have hO11 : zO g 8 11 := hG.o 11 (by decide)
  have hl11 : zln g 11 = 336 := hG.l 11 (by decide)
  have hO12 : zO g 10 12 := hG.o 12 (by decide)
  have hl12 : zln g 12 = 4 := hG.l 12 (by decide)
  have hO42 : zO g 9 42 := hG.o 42 (by decide)
  have hl42 : zln g 42 = 4 := hG.l 42 (by decide)
  have hO43 : zO g 10 43 := hG.o 43 (by decide)
  have hl43 : zln g 43 = 576 := hG.l 43 (by decide)
  have hO44 : zO g 8 44 := hG.o 44 (by decide)
  have hl44 : zln g 44 = 576 := hG.l 44 (by decide)
  have hO45 : zO g 8 45 := hG.o 45 (by decide)
  have hl45 : zln g 45 = 576 := hG.l 45 (by decide)
  have hO46 : zO g 8 46 := hG.o 46 (by decide)
  have hl46 : zln g 46 = 576 := hG.l 46 (by decide)
  have hO47 : zO g 8 47 := hG.o 47 (by decide)
  have hl47 : zln g 47 = 1344 := hG.l 47 (by decide)
  have hO48 : zO g 10 48 := hG.o 48 (by decide)
  have hl48 : zln g 48 = 16 := hG.l 48 (by decide)
  have hO49 : zO g 10 49 := hG.o 49 (by decide)
  have hl49 : zln g 49 = 4 := hG.l 49 (by decide)
  have hO50 : zO g 8 50 := hG.o 50 (by decide)
  have hl50 : zln g 50 = 4 := hG.l 50 (by decide)
  have hw0 : zI μ 0 0 = nI w := hL.2.1
  have hh0 : zI μ 0 1 = nI h := hL.2.2.1
  have hy0 : zI μ 0 2 = ly := hL.2.2.2.1
  obtain ⟨hb1, hb2, hb3, hb4⟩ := hL.2.2.2.2
  refine zx_aload_n dX7_back_176 rfl rfl ?_
  refine zx_aload_n dX7_back_177 rfl rfl ?_
  refine zx_getR zf_X7_115 (by assumption) (show _ = some 49 from hL.1 48 (by decide)) rfl dX7_back_178 ?_
  refine zx_iload_n dX7_back_181 rfl rfl ?_
  refine zx_lald T (by assumption) rfl ⟨by rw [hl49]; omega, by rw [hl49]; decide⟩ dX7_back_182 ?_
  refine zx_putL zf_X7_261 (by assumption) rfl dX7_back_183 ?_
  refine zx_aload_n dX7_back_186 rfl rfl ?_
  refine zx_aload_n dX7_back_187 rfl rfl ?_
  refine zx_getR zf_X7_118 (by assumption) (show _ = some 50 from hL.1 49 (by decide)) rfl dX7_back_188 ?_
  refine zx_iload_n dX7_back_191 rfl rfl ?_
  refine zx_dald T (by assumption) rfl ⟨by rw [hl50]; omega, by rw [hl50]; decide⟩ dX7_back_192 ?_
  refine zx_putD zf_X7_186 (by assumption) rfl dX7_back_193 ?_
  refine zx_iconst 1 dX7_back_196 (by decide) ?_
  exact zx_zreturn rfl (by decide +kernel) (by rfl) (by rfl) dX7_back_197

set_option maxHeartbeats 4000000 in
set_option maxRecDepth 100000 in
theorem m_X7_back {g : ZG} {μ : ZMem} {w h : Nat} {ly : Int32} (hG : zGM g) (hL : zLM w h ly μ) {S : Nat} (hS : S ≤ 4) (hI : zI μ 0 39 = nI S) {x : Int32} : zCab g RX7 yX7_back cX7_back 3 ((some FieldType.boolean)) (zrm 1) [zr (some 0), zi x] μ (some (zi (t_back μ S x))) (q_back μ S x) := by
  refine zCab_w (by decide +kernel) rfl (Nat.le_of_ble_eq_true rfl) ?_
  have hO0 : zO g 7 0 := hG.o 0 (by decide)
  have hO7 : zO g 10 7 := hG.o 7 (by decide)
  have hl7 : zln g 7 = 144 := hG.l 7 (by decide)
  have hO8 : zO g 8 8 := hG.o 8 (by decide)
  have hl8 : zln g 8 = 144 := hG.l 8 (by decide)
  have hO9 : zO g 8 9 := hG.o 9 (by decide)
  have hl9 : zln g 9 = 144 := hG.l 9 (by decide)
  have hO10 : zO g 8 10 := hG.o 10 (by decide)
  have hl10 : zln g 10 = 144 := hG.l 10 (by decide)
  have hO11 : zO g 8 11 := hG.o 11 (by decide)
  have hl11 : zln g 11 = 336 := hG.l 11 (by decide)
  have hO12 : zO g 10 12 := hG.o 12 (by decide)
  have hl12 : zln g 12 = 4 := hG.l 12 (by decide)
  have hO42 : zO g 9 42 := hG.o 42 (by decide)
  have hl42 : zln g 42 = 4 := hG.l 42 (by decide)
  have hO43 : zO g 10 43 := hG.o 43 (by decide)
  have hl43 : zln g 43 = 576 := hG.l 43 (by decide)
  have hO44 : zO g 8 44 := hG.o 44 (by decide)
  have hl44 : zln g 44 = 576 := hG.l 44 (by decide)
  have hO45 : zO g 8 45 := hG.o 45 (by decide)
  have hl45 : zln g 45 = 576 := hG.l 45 (by decide)
  have hO46 : zO g 8 46 := hG.o 46 (by decide)
  have hl46 : zln g 46 = 576 := hG.l 46 (by decide)
  have hO47 : zO g 8 47 := hG.o 47 (by decide)
  have hl47 : zln g 47 = 1344 := hG.l 47 (by decide)
  have hO48 : zO g 10 48 := hG.o 48 (by decide)
  have hl48 : zln g 48 = 16 := hG.l 48 (by decide)
  have hO49 : zO g 10 49 := hG.o 49 (by decide)
  have hl49 : zln g 49 = 4 := hG.l 49 (by decide)
  have hO50 : zO g 8 50 := hG.o 50 (by decide)
  have hl50 : zln g 50 = 4 := hG.l 50 (by decide)
  have hw0 : zI μ 0 0 = nI w := hL.2.1
  have hh0 : zI μ 0 1 = nI h := hL.2.2.1
  have hy0 : zI μ 0 2 = ly := hL.2.2.2.1
  obtain ⟨hb1, hb2, hb3, hb4⟩ := hL.2.2.2.2
  refine zx_iload_n dX7_back_0 rfl rfl ?_
  refine zx_if_lt (tgt := 25) dX7_back_1 (by decide) (fun c_1 => ?_) (fun c_1 => ?_)
  · skip
    refine zx_iconst 0 dX7_back_25 (by decide) ?_
    exact zx_zreturn rfl (by decide +kernel) (by simp [zKa, t_back, c_1]) (by simp [zKm, q_back, t_back, c_1]) dX7_back_26
  · skip
    refine zx_iload_n dX7_back_4 rfl rfl ?_
    refine zx_aload_n dX7_back_5 rfl rfl ?_
    refine zx_getI zf_X7_313 (by assumption) (Or.inl rfl) dX7_back_6 ?_
    rw [hI]
    refine zx_icmp_ge (tgt := 25) dX7_back_9 (by decide) (fun c_9 => ?_) (fun c_9 => ?_)
    · skip
      refine zx_iconst 0 dX7_back_25 (by decide) ?_
      exact zx_zreturn rfl (by decide +kernel) (by simp [zKa, t_back, c_1, c_9]) (by simp [zKm, q_back, t_back, c_1, c_9]) dX7_back_26
    · skip
      obtain ⟨T, hT, rfl⟩ := zix c_1 c_9 (by omega)
      have hT4 : T < 4 := by omega
      have hK1 := zKp_it (zKp_bkC T) 144 μ
      have hK2 := (zKp_it (zKp_bkF T) 336 _).trans hK1
      have hK3 := (zKp_it (zKp_bkO T) 4 _).trans hK2
      have hL1 := zLM_kp hK1 hL
      have hL2 := zLM_kp hK2 hL
      have hL3 := zLM_kp hK3 hL
      refine zx_aload_n dX7_back_12 rfl rfl ?_
      refine zx_getR zf_X7_94 (by assumption) (show _ = some 42 from hL.1 41 (by decide)) rfl dX7_back_13 ?_
      refine zx_iload_n dX7_back_16 rfl rfl ?_
      refine zx_iald T (by assumption) rfl ⟨by rw [hl42]; omega, by rw [hl42]; decide⟩ dX7_back_17 ?_
      refine zx_aload_n dX7_back_18 rfl rfl ?_
      refine zx_getI zf_X7_171 (by assumption) (Or.inl rfl) dX7_back_19 ?_
      refine zx_icmp_eq (tgt := 27) dX7_back_22 (by decide) (fun c_22 => ?_) (fun c_22 => ?_)
      · skip
        refine zx_iconst 0 dX7_back_27 (by decide) ?_
        refine zx_istore_n dX7_back_28 rfl (Nat.le_of_ble_eq_true rfl) ?_
        refine zWA_to (L_X7_back1 hG hL hT4 ?_) ⟨rfl, rfl, rfl, trivial⟩
        refine zx_iconst 0 dX7_back_114 (by decide) ?_
        refine zx_istore_n dX7_back_115 rfl (Nat.le_of_ble_eq_true rfl) ?_
        refine zWA_to (L_X7_back2 (μ := (zit (q_bkC T) 144 μ)) hG hL1 hT4 ?_) ⟨rfl, rfl, rfl, trivial⟩
        refine zx_iconst 0 dX7_back_147 (by decide) ?_
        refine zx_istore_n dX7_back_148 rfl (Nat.le_of_ble_eq_true rfl) ?_
        refine zWA_to (L_X7_back3 (μ := (zit (q_bkF T) 336 (zit (q_bkC T) 144 μ))) hG hL2 hT4 ?_) ⟨rfl, rfl, rfl, trivial⟩
        rw [show t_back μ S (nI T) = 1 by unfold t_back; rw [if_neg c_1, if_neg c_9, nI_clamp (by omega), if_pos c_22], show q_back μ S (nI T) = q_bkE T (zit (q_bkO T) 4 (zit (q_bkF T) 336 (zit (q_bkC T) 144 μ))) by unfold q_back; rw [if_neg (by unfold t_back; rw [if_neg c_1, if_neg c_9, nI_clamp (by omega), if_pos c_22]; decide), nI_clamp (by omega)]; rfl]
        exact zWA_to (S_X7_back4 (μ := (zit (q_bkO T) 4 (zit (q_bkF T) 336 (zit (q_bkC T) 144 μ)))) hG hL3 hT4) ⟨rfl, rfl, trivial⟩
      · skip
        refine zx_iconst 0 dX7_back_25 (by decide) ?_
        exact zx_zreturn rfl (by decide +kernel) (by show some (zi (t_back μ S (nI T))) = _; unfold t_back; rw [if_neg c_1, if_neg c_9, nI_clamp (by omega), if_neg c_22]) (by show q_back μ S (nI T) = _; unfold q_back; rw [if_pos (by unfold t_back; rw [if_neg c_1, if_neg c_9, nI_clamp (by omega), if_neg c_22])]) dX7_back_26

