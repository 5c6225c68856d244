def q_svC (T k : Nat) (m : ZMem) : ZMem := (fun m : ZMem => (fun m : ZMem => (fun m : ZMem => zsD m 46 (144 * T + k) (zD m 10 k)) (zsD m 45 (144 * T + k) (zD m 9 k))) (zsD m 44 (144 * T + k) (zD m 8 k))) (zsL m 43 (144 * T + k) (zL m 7 k))
def q_svF (T k : Nat) (m : ZMem) : ZMem := zsD m 47 (336 * T + k) (zD m 11 k)
def q_svO (T k : Nat) (m : ZMem) : ZMem := zsL m 48 (4 * T + k) (zL m 12 k)
def q_svE (T : Nat) (m : ZMem) : ZMem := (fun m : ZMem => (fun m : ZMem => (fun m : ZMem => zsI m 0 39 (nI (T + 1))) (zsI m 42 T (zI m 0 40))) (zsD m 50 T (zD m 0 13))) (zsL m 49 T (zL m 0 12))
def q_save1 (μ : ZMem) (T : Nat) : ZMem := q_svE T (zit (q_svO T) 4 (zit (q_svF T) 336 (zit (q_svC T) 144 μ)))
def q_save (μ : ZMem) (T : Nat) : ZMem := if T < 4 then q_save1 μ T else μ
def q_bkC (T k : Nat) (m : ZMem) : ZMem := (fun m : ZMem => (fun m : ZMem => (fun m : ZMem => zsD m 10 k (zD m 46 (144 * T + k))) (zsD m 9 k (zD m 45 (144 * T + k)))) (zsD m 8 k (zD m 44 (144 * T + k)))) (zsL m 7 k (zL m 43 (144 * T + k)))
def q_bkF (T k : Nat) (m : ZMem) : ZMem := zsD m 11 k (zD m 47 (336 * T + k))
def q_bkO (T k : Nat) (m : ZMem) : ZMem := zsL m 12 k (zL m 48 (4 * T + k))
def q_bkE (T : Nat) (m : ZMem) : ZMem := (fun m : ZMem => zsD m 0 13 (zD m 50 T)) (zsL m 0 12 (zL m 49 T))
def q_back1 (μ : ZMem) (T : Nat) : ZMem := q_bkE T (zit (q_bkO T) 4 (zit (q_bkF T) 336 (zit (q_bkC T) 144 μ)))
def t_back (μ : ZMem) (S : Nat) (x : Int32) : Int32 := if x < 0 then 0 else if nI S ≤ x then 0 else if zI μ 42 x.toNatClampNeg = zI μ 0 40 then 1 else 0
def q_back (μ : ZMem) (S : Nat) (x : Int32) : ZMem := if t_back μ S x = 0 then μ else q_back1 μ x.toNatClampNeg
theorem z336 (k q : Nat) : (336 : Int32) * nI k + nI q = nI (336 * k + q) := by
  rw [show (336 : Int32) = nI 336 from rfl, pk_mul, nI_add]
theorem z4 (k q : Nat) : (4 : Int32) * nI k + nI q = nI (4 * k + q) := by
  rw [show (4 : Int32) = nI 4 from rfl, pk_mul, nI_add]
theorem zKp_svC (T k : Nat) (m : ZMem) : zKp (q_svC T k m) m := ⟨rfl, rfl⟩
theorem zKp_svF (T k : Nat) (m : ZMem) : zKp (q_svF T k m) m := ⟨rfl, rfl⟩
theorem zKp_svO (T k : Nat) (m : ZMem) : zKp (q_svO T k m) m := ⟨rfl, rfl⟩
theorem zKp_bkC (T k : Nat) (m : ZMem) : zKp (q_bkC T k m) m := ⟨rfl, rfl⟩
theorem zKp_bkF (T k : Nat) (m : ZMem) : zKp (q_bkF T k m) m := ⟨rfl, rfl⟩
theorem zKp_bkO (T k : Nat) (m : ZMem) : zKp (q_bkO T k m) m := ⟨rfl, rfl⟩
set_option maxHeartbeats 4000000 in
set_option maxRecDepth 100000 in
theorem L_X7_save1 {g : ZG} {μ : ZMem} {w h : Nat} {ly : Int32} (hG : zGM g) (hL : zLM w h ly μ) {T : Nat} (hT : T < 4) (hI : zI μ 0 39 = nI T) {res : Option ZV} {μ' : ZMem} (hx : zWA g (RX7, cX7_save, 2, ((some FieldType.int)), zrm 1, res, μ') 109 (zls [(0, zr (some 0)), (1, zi (nI (144)))]) [] (zit (q_svC T) (144) μ)) : zWA g (RX7, cX7_save, 2, ((some FieldType.int)), zrm 1, res, μ') 12 (zls [(0, zr (some 0)), (1, zi (nI (0)))]) [] μ := by
  have hO0 : zO g 7 0 := hG.o 0 (by decide)
  have hO7 : zO g 10 7 := hG.o 7 (by decide)
  have hl7 : zln g 7 = 144 := hG.l 7 (by decide)
  have hO8 : zO g 8 8 := hG.o 8 (by decide)
  have hl8 : zln g 8 = 144 := hG.l 8 (by decide)
  have hO9 : zO g 8 9 := hG.o 9 (by decide)
  have hl9 : zln g 9 = 144 := hG.l 9 (by decide)
  have hO10 : zO g 8 10 := hG.o 10 (by decide)
  have hl10 : zln g 10 = 144 := hG.l 10 (by decide)
  have hO11 : zO g 8 11 := hG.o 11 (by decide)
  have hl11 : zln g 11 = 336 := hG.l 11 (by decide)
  have hO12 : zO g 10 12 := hG.o 12 (by decide)
  have hl12 : zln g 12 = 4 := hG.l 12 (by decide)
  have hO42 : zO g 9 42 := hG.o 42 (by decide)
  have hl42 : zln g 42 = 4 := hG.l 42 (by decide)
  have hO43 : zO g 10 43 := hG.o 43 (by decide)
  have hl43 : zln g 43 = 576 := hG.l 43 (by decide)
  have hO44 : zO g 8 44 := hG.o 44 (by decide)
  have hl44 : zln g 44 = 576 := hG.l 44 (by decide)
  have hO45 : zO g 8 45 := hG.o 45 (by decide)
  have hl45 : zln g 45 = 576 := hG.l 45 (by decide)
  have hO46 : zO g 8 46 := hG.o 46 (by decide)
  have hl46 : zln g 46 = 576 := hG.l 46 (by decide)
  have hO47 : zO g 8 47 := hG.o 47 (by decide)
  have hl47 : zln g 47 = 1344 := hG.l 47 (by decide)
  have hO48 : zO g 10 48 := hG.o 48 (by decide)
  have hl48 : zln g 48 = 16 := hG.l 48 (by decide)
  have hO49 : zO g 10 49 := hG.o 49 (by decide)
  have hl49 : zln g 49 = 4 := hG.l 49 (by decide)
  have hO50 : zO g 8 50 := hG.o 50 (by decide)
  have hl50 : zln g 50 = 4 := hG.l 50 (by decide)
  have hw0 : zI μ 0 0 = nI w := hL.2.1
  have hh0 : zI μ 0 1 = nI h := hL.2.2.1
  have hy0 : zI μ 0 2 = ly := hL.2.2.2.1
  obtain ⟨hb1, hb2, hb3, hb4⟩ := hL.2.2.2.2
  have hKk : ∀ k, zKp (zit (q_svC T) k μ) μ := fun k => zKp_it (zKp_svC T) k μ
  have hLk : ∀ k, zLM w h ly (zit (q_svC T) k μ) := fun k => zLM_kp (hKk k) hL
  have hwk : ∀ k, zI (zit (q_svC T) k μ) 0 0 = nI w := fun k => (hLk k).2.1
  have hhk : ∀ k, zI (zit (q_svC T) k μ) 0 1 = nI h := fun k => (hLk k).2.2.1
  have hIk : ∀ k, zI (zit (q_svC T) k μ) 0 39 = nI T := fun k => by rw [(hKk k).2]; exact hI
  have hJk : ∀ k, (144 : Int32) * zI (zit (q_svC T) k μ) 0 39 + nI k = nI (144 * T + k) := fun k => by rw [hIk]; exact z144 T k
  refine zloop (P := fun k => zWA g (RX7, cX7_save, 2, ((some FieldType.int)), zrm 1, res, μ') 12 (zls [(0, zr (some 0)), (1, zi (nI (k)))]) [] (zit (q_svC T) (k) μ)) (N := 144) ?_ ?_ 0 (Nat.zero_le _)
  · show zWA _ _ _ _ _ _
    refine zx_iload_n dX7_save_12 rfl rfl ?_
    refine zx_sipush 144 dX7_save_13 (by decide) ?_
    refine zx_icmp_ge (tgt := 109) dX7_save_16 (by decide) (fun _ => ?_) (fun h_ => absurd h_ (fun q => q (by first | decide | exact Int32.le_refl _)))
    exact zWA_to hx ⟨rfl, rfl, trivial⟩
  · intro k hk hn_
    show zWA _ _ _ _ _ _
    refine zx_iload_n dX7_save_12 rfl rfl ?_
    refine zx_sipush 144 dX7_save_13 (by decide) ?_
    refine zx_icmp_ge (tgt := 109) dX7_save_16 (by decide) (fun h_ => absurd h_ (nI_ge hk (by decide))) (fun _ => ?_)
    refine zx_aload_n dX7_save_19 rfl rfl ?_
    refine zx_getR zf_X7_97 (by assumption) (show _ = some 43 from (hLk k).1 42 (by decide)) rfl dX7_save_20 ?_
    refine zx_sipush 144 dX7_save_23 (by decide) ?_
    refine zx_aload_n dX7_save_26 rfl rfl ?_
    refine zx_getI zf_X7_313 (by assumption) (Or.inl rfl) dX7_save_27 ?_
    refine zx_imul dX7_save_30 ?_
    refine zx_iload_n dX7_save_31 rfl rfl ?_
    refine zx_iadd dX7_save_32 ?_
    refine zx_aload_n dX7_save_33 rfl rfl ?_
    refine zx_getR zf_X7_20 (by assumption) (show _ = some 7 from (hLk k).1 6 (by decide)) rfl dX7_save_34 ?_
    refine zx_iload_n dX7_save_37 rfl rfl ?_
    refine zx_lald k (by assumption) rfl ⟨by rw [hl7]; omega, by rw [hl7]; decide⟩ dX7_save_38 ?_
    refine zx_last (144 * T + k) (by assumption) (hJk k) ⟨by rw [hl43]; omega, by rw [hl43]; decide⟩ dX7_save_39 ?_
    refine zx_aload_n dX7_save_40 rfl rfl ?_
    refine zx_getR zf_X7_100 (by assumption) (show _ = some 44 from (hLk k).1 43 (by decide)) rfl dX7_save_41 ?_
    refine zx_sipush 144 dX7_save_44 (by decide) ?_
    refine zx_aload_n dX7_save_47 rfl rfl ?_
    refine zx_getI zf_X7_313 (by assumption) (Or.inl rfl) dX7_save_48 ?_
    refine zx_imul dX7_save_51 ?_
    refine zx_iload_n dX7_save_52 rfl rfl ?_
    refine zx_iadd dX7_save_53 ?_
    refine zx_aload_n dX7_save_54 rfl rfl ?_
    refine zx_getR zf_X7_24 (by assumption) (show _ = some 8 from (hLk k).1 7 (by decide)) rfl dX7_save_55 ?_
    refine zx_iload_n dX7_save_58 rfl rfl ?_
    refine zx_dald k (by assumption) rfl ⟨by rw [hl8]; omega, by rw [hl8]; decide⟩ dX7_save_59 ?_
    refine zx_dast (144 * T + k) (by assumption) (hJk k) ⟨by rw [hl44]; omega, by rw [hl44]; decide⟩ dX7_save_60 ?_
    refine zx_aload_n dX7_save_61 rfl rfl ?_
    refine zx_getR zf_X7_103 (by assumption) (show _ = some 45 from (hLk k).1 44 (by decide)) rfl dX7_save_62 ?_
    refine zx_sipush 144 dX7_save_65 (by decide) ?_
    refine zx_aload_n dX7_save_68 rfl rfl ?_
    refine zx_getI zf_X7_313 (by assumption) (Or.inl rfl) dX7_save_69 ?_
    refine zx_imul dX7_save_72 ?_
    refine zx_iload_n dX7_save_73 rfl rfl ?_
    refine zx_iadd dX7_save_74 ?_
    refine zx_aload_n dX7_save_75 rfl rfl ?_
    refine zx_getR zf_X7_27 (by assumption) (show _ = some 9 from (hLk k).1 8 (by decide)) rfl dX7_save_76 ?_
    refine zx_iload_n dX7_save_79 rfl rfl ?_
    refine zx_dald k (by assumption) rfl ⟨by rw [hl9]; omega, by rw [hl9]; decide⟩ dX7_save_80 ?_
    refine zx_dast (144 * T + k) (by assumption) (hJk k) ⟨by rw [hl45]; omega, by rw [hl45]; decide⟩ dX7_save_81 ?_
    refine zx_aload_n dX7_save_82 rfl rfl ?_
    refine zx_getR zf_X7_106 (by assumption) (show _ = some 46 from (hLk k).1 45 (by decide)) rfl dX7_save_83 ?_
    refine zx_sipush 144 dX7_save_86 (by decide) ?_
    refine zx_aload_n dX7_save_89 rfl rfl ?_
    refine zx_getI zf_X7_313 (by assumption) (Or.inl rfl) dX7_save_90 ?_
    refine zx_imul dX7_save_93 ?_
    refine zx_iload_n dX7_save_94 rfl rfl ?_
    refine zx_iadd dX7_save_95 ?_
    refine zx_aload_n dX7_save_96 rfl rfl ?_
    refine zx_getR zf_X7_30 (by assumption) (show _ = some 10 from (hLk k).1 9 (by decide)) rfl dX7_save_97 ?_
    refine zx_iload_n dX7_save_100 rfl rfl ?_
    refine zx_dald k (by assumption) rfl ⟨by rw [hl10]; omega, by rw [hl10]; decide⟩ dX7_save_101 ?_
    refine zx_dast (144 * T + k) (by assumption) (hJk k) ⟨by rw [hl46]; omega, by rw [hl46]; decide⟩ dX7_save_102 ?_
    refine zx_iinc (nI (k + 1)) dX7_save_103 rfl (by exact nI_1 k) (Nat.le_of_ble_eq_true rfl) ?_
    refine zx_goto (tgt := 12) dX7_save_106 (by decide) ?_
    exact zWA_to (zWA_mem hn_ (by rfl)) ⟨rfl, rfl, trivial⟩

set_option maxHeartbeats 4000000 in
set_option maxRecDepth 100000 in
theorem L_X7_save2 {g : ZG} {μ : ZMem} {w h : Nat} {ly : Int32} (hG : zGM g) (hL : zLM w h ly μ) {T : Nat} (hT : T < 4) (hI : zI μ 0 39 = nI T) {res : Option ZV} {μ' : ZMem} (hx : zWA g (RX7, cX7_save, 2, ((some FieldType.int)), zrm 1, res, μ') 145 (zls [(0, zr (some 0)), (1, zi (nI (336)))]) [] (zit (q_svF T) (336) μ)) : zWA g (RX7, cX7_save, 2, ((some FieldType.int)), zrm 1, res, μ') 111 (zls [(0, zr (some 0)), (1, zi (nI (0)))]) [] μ := by
  have hO0 : zO g 7 0 := hG.o 0 (by decide)
  have hO7 : zO g 10 7 := hG.o 7 (by decide)
  have hl7 : zln g 7 = 144 := hG.l 7 (by decide)
  have hO8 : zO g 8 8 := hG.o 8 (by decide)
  have hl8 : zln g 8 = 144 := hG.l 8 (by decide)
  have hO9 : zO g 8 9 := hG.o 9 (by decide)
  have hl9 : zln g 9 = 144 := hG.l 9 (by decide)
  have hO10 : zO g 8 10 := hG.o 10 (by decide)
  have hl10 : zln g 10 = 144 := hG.l 10 (by decide)
  have hO11 : zO g 8 11 := hG.o 11 (by decide)
  have hl11 : zln g 11 = 336 := hG.l 11 (by decide)
  have hO12 : zO g 10 12 := hG.o 12 (by decide)
  have hl12 : zln g 12 = 4 := hG.l 12 (by decide)
  have hO42 : zO g 9 42 := hG.o 42 (by decide)
  have hl42 : zln g 42 = 4 := hG.l 42 (by decide)
  have hO43 : zO g 10 43 := hG.o 43 (by decide)
  have hl43 : zln g 43 = 576 := hG.l 43 (by decide)
  have hO44 : zO g 8 44 := hG.o 44 (by decide)
  have hl44 : zln g 44 = 576 := hG.l 44 (by decide)
  have hO45 : zO g 8 45 := hG.o 45 (by decide)
  have hl45 : zln g 45 = 576 := hG.l 45 (by decide)
  have hO46 : zO g 8 46 := hG.o 46 (by decide)
  have hl46 : zln g 46 = 576 := hG.l 46 (by decide)
  have hO47 : zO g 8 47 := hG.o 47 (by decide)
  have hl47 : zln g 47 = 1344 := hG.l 47 (by decide)
  have hO48 : zO g 10 48 := hG.o 48 (by decide)
  have hl48 : zln g 48 = 16 := hG.l 48 (by decide)
  have hO49 : zO g 10 49 := hG.o 49 (by decide)
  have hl49 : zln g 49 = 4 := hG.l 49 (by decide)
  have hO50 : zO g 8 50 := hG.o 50 (by decide)
  have hl50 : zln g 50 = 4 := hG.l 50 (by decide)
  have hw0 : zI μ 0 0 = nI w := hL.2.1
  have hh0 : zI μ 0 1 = nI h := hL.2.2.1
  have hy0 : zI μ 0 2 = ly := hL.2.2.2.1
  obtain ⟨hb1, hb2, hb3, hb4⟩ := hL.2.2.2.2
  have hKk : ∀ k, zKp (zit (q_svF T) k μ) μ := fun k => zKp_it (zKp_svF T) k μ
  have hLk : ∀ k, zLM w h ly (zit (q_svF T) k μ) := fun k => zLM_kp (hKk k) hL
  have hwk : ∀ k, zI (zit (q_svF T) k μ) 0 0 = nI w := fun k => (hLk k).2.1
  have hhk : ∀ k, zI (zit (q_svF T) k μ) 0 1 = nI h := fun k => (hLk k).2.2.1
  have hIk : ∀ k, zI (zit (q_svF T) k μ) 0 39 = nI T := fun k => by rw [(hKk k).2]; exact hI
  have hJk : ∀ k, (336 : Int32) * zI (zit (q_svF T) k μ) 0 39 + nI k = nI (336 * T + k) := fun k => by rw [hIk]; exact z336 T k
  refine zloop (P := fun k => zWA g (RX7, cX7_save, 2, ((some FieldType.int)), zrm 1, res, μ') 111 (zls [(0, zr (some 0)), (1, zi (nI (k)))]) [] (zit (q_svF T) (k) μ)) (N := 336) ?_ ?_ 0 (Nat.zero_le _)
  · show zWA _ _ _ _ _ _
    refine zx_iload_n dX7_save_111 rfl rfl ?_
    refine zx_sipush 336 dX7_save_112 (by decide) ?_
    refine zx_icmp_ge (tgt := 145) dX7_save_115 (by decide) (fun _ => ?_) (fun h_ => absurd h_ (fun q => q (by first | decide | exact Int32.le_refl _)))
    exact zWA_to hx ⟨rfl, rfl, trivial⟩
  · intro k hk hn_
    show zWA _ _ _ _ _ _
    refine zx_iload_n dX7_save_111 rfl rfl ?_
    refine zx_sipush 336 dX7_save_112 (by decide) ?_
    refine zx_icmp_ge (tgt := 145) dX7_save_115 (by decide) (fun h_ => absurd h_ (nI_ge hk (by decide))) (fun _ => ?_)
    refine zx_aload_n dX7_save_118 rfl rfl ?_
    refine zx_getR zf_X7_109 (by assumption) (show _ = some 47 from (hLk k).1 46 (by decide)) rfl dX7_save_119 ?_
    refine zx_sipush 336 dX7_save_122 (by decide) ?_
    refine zx_aload_n dX7_save_125 rfl rfl ?_
    refine zx_getI zf_X7_313 (by assumption) (Or.inl rfl) dX7_save_126 ?_
    refine zx_imul dX7_save_129 ?_
    refine zx_iload_n dX7_save_130 rfl rfl ?_
    refine zx_iadd dX7_save_131 ?_
    refine zx_aload_n dX7_save_132 rfl rfl ?_
    refine zx_getR zf_X7_33 (by assumption) (show _ = some 11 from (hLk k).1 10 (by decide)) rfl dX7_save_133 ?_
    refine zx_iload_n dX7_save_136 rfl rfl ?_
    refine zx_dald k (by assumption) rfl ⟨by rw [hl11]; omega, by rw [hl11]; decide⟩ dX7_save_137 ?_
    refine zx_dast (336 * T + k) (by assumption) (hJk k) ⟨by rw [hl47]; omega, by rw [hl47]; decide⟩ dX7_save_138 ?_
    refine zx_iinc (nI (k + 1)) dX7_save_139 rfl (by exact nI_1 k) (Nat.le_of_ble_eq_true rfl) ?_
    refine zx_goto (tgt := 111) dX7_save_142 (by decide) ?_
    exact zWA_to (zWA_mem hn_ (by rfl)) ⟨rfl, rfl, trivial⟩

set_option maxHeartbeats 4000000 in
set_option maxRecDepth 100000 in
theorem L_X7_save3 {g : ZG} {μ : ZMem} {w h : Nat} {ly : Int32} (hG : zGM g) (hL : zLM w h ly μ) {T : Nat} (hT : T < 4) (hI : zI μ 0 39 = nI T) {res : Option ZV} {μ' : ZMem} (hx : zWA g (RX7, cX7_save, 2, ((some FieldType.int)), zrm 1, res, μ') 177 (zls [(0, zr (some 0)), (1, zi (nI (4)))]) [] (zit (q_svO T) (4) μ)) : zWA g (RX7, cX7_save, 2, ((some FieldType.int)), zrm 1, res, μ') 147 (zls [(0, zr (some 0)), (1, zi (nI (0)))]) [] μ := by
  have hO0 : zO g 7 0 := hG.o 0 (by decide)
  have hO7 : zO g 10 7 := hG.o 7 (by decide)
  have hl7 : zln g 7 = 144 := hG.l 7 (by decide)
  have hO8 : zO g 8 8 := hG.o 8 (by decide)
  have hl8 : zln g 8 = 144 := hG.l 8 (by decide)
  have hO9 : zO g 8 9 := hG.o 9 (by decide)
  have hl9 : zln g 9 = 144 := hG.l 9 (by decide)
  have hO10 : zO g 8 10 := hG.o 10 (by decide)
  have hl10 : zln g 10 = 144 := hG.l 10 (by decide)
  have hO11 : zO g 8 11 := hG.o 11 (by decide)
  have hl11 : zln g 11 = 336 := hG.l 11 (by decide)
  have hO12 : zO g 10 12 := hG.o 12 (by decide)
  have hl12 : zln g 12 = 4 := hG.l 12 (by decide)
  have hO42 : zO g 9 42 := hG.o 42 (by decide)
  have hl42 : zln g 42 = 4 := hG.l 42 (by decide)
  have hO43 : zO g 10 43 := hG.o 43 (by decide)
  have hl43 : zln g 43 = 576 := hG.l 43 (by decide)
  have hO44 : zO g 8 44 := hG.o 44 (by decide)
  have hl44 : zln g 44 = 576 := hG.l 44 (by decide)
  have hO45 : zO g 8 45 := hG.o 45 (by decide)
  have hl45 : zln g 45 = 576 := hG.l 45 (by decide)
  have hO46 : zO g 8 46 := hG.o 46 (by decide)
  have hl46 : zln g 46 = 576 := hG.l 46 (by decide)
  have hO47 : zO g 8 47 := hG.o 47 (by decide)
  have hl47 : zln g 47 = 1344 := hG.l 47 (by decide)
  have hO48 : zO g 10 48 := hG.o 48 (by decide)
  have hl48 : zln g 48 = 16 := hG.l 48 (by decide)
  have hO49 : zO g 10 49 := hG.o 49 (by decide)
  have hl49 : zln g 49 = 4 := hG.l 49 (by decide)
  have hO50 : zO g 8 50 := hG.o 50 (by decide)
  have hl50 : zln g 50 = 4 := hG.l 50 (by decide)
  have hw0 : zI μ 0 0 = nI w := hL.2.1
  have hh0 : zI μ 0 1 = nI h := hL.2.2.1
  have hy0 : zI μ 0 2 = ly := hL.2.2.2.1
  obtain ⟨hb1, hb2, hb3, hb4⟩ := hL.2.2.2.2
  have hKk : ∀ k, zKp (zit (q_svO T) k μ) μ := fun k => zKp_it (zKp_svO T) k μ
  have hLk : ∀ k, zLM w h ly (zit (q_svO T) k μ) := fun k => zLM_kp (hKk k) hL
  have hwk : ∀ k, zI (zit (q_svO T) k μ) 0 0 = nI w := fun k => (hLk k).2.1
  have hhk : ∀ k, zI (zit (q_svO T) k μ) 0 1 = nI h := fun k => (hLk k).2.2.1
  have hIk : ∀ k, zI (zit (q_svO T) k μ) 0 39 = nI T := fun k => by rw [(hKk k).2]; exact hI
  have hJk : ∀ k, (4 : Int32) * zI (zit (q_svO T) k μ) 0 39 + nI k = nI (4 * T + k) := fun k => by rw [hIk]; exact z4 T k
  refine zloop (P := fun k => zWA g (RX7, cX7_save, 2, ((some FieldType.int)), zrm 1, res, μ') 147 (zls [(0, zr (some 0)), (1, zi (nI (k)))]) [] (zit (q_svO T) (k) μ)) (N := 4) ?_ ?_ 0 (Nat.zero_le _)
  · show zWA _ _ _ _ _ _
    refine zx_iload_n dX7_save_147 rfl rfl ?_
    refine zx_iconst 4 dX7_save_148 (by decide) ?_
    refine zx_icmp_ge (tgt := 177) dX7_save_149 (by decide) (fun _ => ?_) (fun h_ => absurd h_ (fun q => q (by first | decide | exact Int32.le_refl _)))
    exact zWA_to hx ⟨rfl, rfl, trivial⟩
  · intro k hk hn_
    show zWA _ _ _ _ _ _
    refine zx_iload_n dX7_save_147 rfl rfl ?_
    refine zx_iconst 4 dX7_save_148 (by decide) ?_
    refine zx_icmp_ge (tgt := 177) dX7_save_149 (by decide) (fun h_ => absurd h_ (nI_ge hk (by decide))) (fun _ => ?_)
    refine zx_aload_n dX7_save_152 rfl rfl ?_
    refine zx_getR zf_X7_112 (by assumption) (show _ = some 48 from (hLk k).1 47 (by decide)) rfl dX7_save_153 ?_
    refine zx_iconst 4 dX7_save_156 (by decide) ?_
    refine zx_aload_n dX7_save_157 rfl rfl ?_
    refine zx_getI zf_X7_313 (by assumption) (Or.inl rfl) dX7_save_158 ?_
    refine zx_imul dX7_save_161 ?_
    refine zx_iload_n dX7_save_162 rfl rfl ?_
    refine zx_iadd dX7_save_163 ?_
    refine zx_aload_n dX7_save_164 rfl rfl ?_
    refine zx_getR zf_X7_36 (by assumption) (show _ = some 12 from (hLk k).1 11 (by decide)) rfl dX7_save_165 ?_
    refine zx_iload_n dX7_save_168 rfl rfl ?_
    refine zx_lald k (by assumption) rfl ⟨by rw [hl12]; omega, by rw [hl12]; decide⟩ dX7_save_169 ?_
    refine zx_last (4 * T + k) (by assumption) (hJk k) ⟨by rw [hl48]; omega, by rw [hl48]; decide⟩ dX7_save_170 ?_
    refine zx_iinc (nI (k + 1)) dX7_save_171 rfl (by exact nI_1 k) (Nat.le_of_ble_eq_true rfl) ?_
    refine zx_goto (tgt := 147) dX7_save_174 (by decide) ?_
    exact zWA_to (zWA_mem hn_ (by rfl)) ⟨rfl, rfl, trivial⟩

set_option maxHeartbeats 4000000 in
set_option maxRecDepth 100000 in
theorem S_X7_save4 {g : ZG} {μ : ZMem} {w h : Nat} {ly : Int32} (hG : zGM g) (hL : zLM w h ly μ) {T : Nat} (hT : T < 4) (hI : zI μ 0 39 = nI T) : zWA g (RX7, cX7_save, 2, ((some FieldType.int)), zrm 1, (some (zi (s_save T))), (q_svE T μ)) 177 (zls [(0, zr (some 0))]) [] μ := by
  have hO0 : zO g 7 0 := hG.o 0 (by decide)
  have hO7 : zO g 10 7 := hG.o 7 (by decide)
  have hl7 : zln g 7 = 144 := hG.l 7 (by decide)
  have hO8 : zO g 8 8 := hG.o 8 (by decide)
  have hl8 : zln g 8 = 144 := hG.l 8 (by decide)
  have hO9 : zO g 8 9 := hG.o 9 (by decide)
  have hl9 : zln g 9 = 144 := hG.l 9 (by decide)
  have hO10 : zO g 8 10 := hG.o 10 (by decide)
  have hl10 : zln g 10 = 144 := hG.l 10 (by decide)
  have hO11 : zO g 8 11 := hG.o 11 (by decide)
  have hl11 : zln g 11 = 336 := hG.l 11 (by decide)
  have hO12 : zO g 10 12 := hG.o 12 (by decide)
  have hl12 : zln g 12 = 4 := hG.l 12 (by decide)
  have hO42 : zO g 9 42 := hG.o 42 (by decide)
  have hl42 : zln g 42 = 4 := hG.l 42 (by decide)
  have hO43 : zO g 10 43 := hG.o 43 (by decide)
  have hl43 : zln g 43 = 576 := hG.l 43 (by decide)
  have hO44 : zO g 8 44 := hG.o 44 (by decide)
  have hl44 : zln g 44 = 576 := hG.l 44 (by decide)
  have hO45 : zO g 8 45 := hG.o 45 (by decide)
  have hl45 : zln g 45 = 576 := hG.l 45 (by decide)
  have hO46 : zO g 8 46 := hG.o 46 (by decide)
  have hl46 : zln g 46 = 576 := hG.l 46 (by decide)
  have hO47 : zO g 8 47 := hG.o 47 (by decide)
  have hl47 : zln g 47 = 1344 := hG.l 47 (by decide)
  have hO48 : zO g 10 48 := hG.o 48 (by decide)
  have hl48 : zln g 48 = 16 := hG.l 48 (by decide)
  have hO49 : zO g 10 49 := hG.o 49 (by decide)
  have hl49 : zln g 49 = 4 := hG.l 49 (by decide)
  have hO50 : zO g 8 50 := hG.o 50 (by decide)
  have hl50 : zln g 50 = 4 := hG.l 50 (by decide)
  have hw0 : zI μ 0 0 = nI w := hL.2.1
  have hh0 : zI μ 0 1 = nI h := hL.2.2.1
  have hy0 : zI μ 0 2 = ly := hL.2.2.2.1
  obtain ⟨hb1, hb2, hb3, hb4⟩ := hL.2.2.2.2
  refine zx_aload_n dX7_save_177 rfl rfl ?_
  refine zx_getR zf_X7_115 (by assumption) (show _ = some 49 from hL.1 48 (by decide)) rfl dX7_save_178 ?_
  refine zx_aload_n dX7_save_181 rfl rfl ?_
  refine zx_getI zf_X7_313 (by assumption) (Or.inl rfl) dX7_save_182 ?_
  rw [hI]
  refine zx_aload_n dX7_save_185 rfl rfl ?_
  refine zx_getL zf_X7_261 (by assumption) rfl dX7_save_186 ?_
  refine zx_last T (by assumption) rfl ⟨by rw [hl49]; omega, by rw [hl49]; decide⟩ dX7_save_189 ?_
  refine zx_aload_n dX7_save_190 rfl rfl ?_
  refine zx_getR zf_X7_118 (by assumption) (show _ = some 50 from hL.1 49 (by decide)) rfl dX7_save_191 ?_
  refine zx_aload_n dX7_save_194 rfl rfl ?_
  refine zx_getI zf_X7_313 (by assumption) (Or.inl rfl) dX7_save_195 ?_
  rw [show zI (zsL μ 49 T (zL μ 0 12)) 0 39 = nI T from hI]
  refine zx_aload_n dX7_save_198 rfl rfl ?_
  refine zx_getD zf_X7_186 (by assumption) rfl dX7_save_199 ?_
  refine zx_dast T (by assumption) rfl ⟨by rw [hl50]; omega, by rw [hl50]; decide⟩ dX7_save_202 ?_
  refine zx_aload_n dX7_save_203 rfl rfl ?_
  refine zx_getR zf_X7_94 (by assumption) (show _ = some 42 from hL.1 41 (by decide)) rfl dX7_save_204 ?_
  refine zx_aload_n dX7_save_207 rfl rfl ?_
  refine zx_getI zf_X7_313 (by assumption) (Or.inl rfl) dX7_save_208 ?_
  rw [show zI (zsD (zsL μ 49 T (zL μ 0 12)) 50 T (zD (zsL μ 49 T (zL μ 0 12)) 0 13)) 0 39 = nI T from hI]
  refine zx_aload_n dX7_save_211 rfl rfl ?_
  refine zx_getI zf_X7_171 (by assumption) (Or.inl rfl) dX7_save_212 ?_
  refine zx_iast T (by assumption) rfl ⟨by rw [hl42]; omega, by rw [hl42]; decide⟩ dX7_save_215 ?_
  refine zx_aload_n dX7_save_216 rfl rfl ?_
  refine zx_dup dX7_save_217 rfl ?_
  refine zx_getI zf_X7_313 (by assumption) (Or.inl rfl) dX7_save_218 ?_
  rw [show zI (zsI (zsD (zsL μ 49 T (zL μ 0 12)) 50 T (zD (zsL μ 49 T (zL μ 0 12)) 0 13)) 42 T (zI (zsD (zsL μ 49 T (zL μ 0 12)) 50 T (zD (zsL μ 49 T (zL μ 0 12)) 0 13)) 0 40)) 0 39 = nI T from hI]
  refine zx_iconst 1 dX7_save_221 (by decide) ?_
  refine zx_iadd dX7_save_222 ?_
  rw [nI_1]
  refine zx_putI zf_X7_313 (by assumption) ⟨rfl, rfl⟩ (Or.inl rfl) dX7_save_223 ?_
  refine zx_aload_n dX7_save_226 rfl rfl ?_
  refine zx_getI zf_X7_313 (by assumption) (Or.inl rfl) dX7_save_227 ?_
  rw [zI_sI, if_pos ⟨rfl, rfl⟩]
  refine zx_iconst 1 dX7_save_230 (by decide) ?_
  refine zx_isub dX7_save_231 ?_
  exact zx_ireturn rfl (by show some (zi (s_save T)) = _; unfold s_save; rw [if_pos hT, nI_pred]) (by rfl) dX7_save_232

set_option maxHeartbeats 4000000 in
set_option maxRecDepth 100000 in
theorem m_X7_save {g : ZG} {μ : ZMem} {w h : Nat} {ly : Int32} (hG : zGM g) (hL : zLM w h ly μ) {T : Nat} (hT : T < 4) (hI : zI μ 0 39 = nI T) : zCab g RX7 yX7_save cX7_save 2 ((some FieldType.int)) (zrm 1) [zr (some 0)] μ (some (zi (s_save T))) (q_save μ T) := by
  refine zCab_w (by decide +kernel) rfl (Nat.le_of_ble_eq_true rfl) ?_
  have hO0 : zO g 7 0 := hG.o 0 (by decide)
  have hO7 : zO g 10 7 := hG.o 7 (by decide)
  have hl7 : zln g 7 = 144 := hG.l 7 (by decide)
  have hO8 : zO g 8 8 := hG.o 8 (by decide)
  have hl8 : zln g 8 = 144 := hG.l 8 (by decide)
  have hO9 : zO g 8 9 := hG.o 9 (by decide)
  have hl9 : zln g 9 = 144 := hG.l 9 (by decide)
  have hO10 : zO g 8 10 := hG.o 10 (by decide)
  have hl10 : zln g 10 = 144 := hG.l 10 (by decide)
  have hO11 : zO g 8 11 := hG.o 11 (by decide)
  have hl11 : zln g 11 = 336 := hG.l 11 (by decide)
  have hO12 : zO g 10 12 := hG.o 12 (by decide)
  have hl12 : zln g 12 = 4 := hG.l 12 (by decide)
  have hO42 : zO g 9 42 := hG.o 42 (by decide)
  have hl42 : zln g 42 = 4 := hG.l 42 (by decide)
  have hO43 : zO g 10 43 := hG.o 43 (by decide)
  have hl43 : zln g 43 = 576 := hG.l 43 (by decide)
  have hO44 : zO g 8 44 := hG.o 44 (by decide)
  have hl44 : zln g 44 = 576 := hG.l 44 (by decide)
  have hO45 : zO g 8 45 := hG.o 45 (by decide)
  have hl45 : zln g 45 = 576 := hG.l 45 (by decide)
  have hO46 : zO g 8 46 := hG.o 46 (by decide)
  have hl46 : zln g 46 = 576 := hG.l 46 (by decide)
  have hO47 : zO g 8 47 := hG.o 47 (by decide)
  have hl47 : zln g 47 = 1344 := hG.l 47 (by decide)
  have hO48 : zO g 10 48 := hG.o 48 (by decide)
  have hl48 : zln g 48 = 16 := hG.l 48 (by decide)
  have hO49 : zO g 10 49 := hG.o 49 (by decide)
  have hl49 : zln g 49 = 4 := hG.l 49 (by decide)
  have hO50 : zO g 8 50 := hG.o 50 (by decide)
  have hl50 : zln g 50 = 4 := hG.l 50 (by decide)
  have hw0 : zI μ 0 0 = nI w := hL.2.1
  have hh0 : zI μ 0 1 = nI h := hL.2.2.1
  have hy0 : zI μ 0 2 = ly := hL.2.2.2.1
  obtain ⟨hb1, hb2, hb3, hb4⟩ := hL.2.2.2.2
  have hK1 := zKp_it (zKp_svC T) 144 μ
  have hK2 := (zKp_it (zKp_svF T) 336 _).trans hK1
  have hK3 := (zKp_it (zKp_svO T) 4 _).trans hK2
  have hL1 := zLM_kp hK1 hL
  have hL2 := zLM_kp hK2 hL
  have hL3 := zLM_kp hK3 hL
  have hI1 : zI (zit (q_svC T) 144 μ) 0 39 = nI T := by rw [hK1.2]; exact hI
  have hI2 : zI (zit (q_svF T) 336 (zit (q_svC T) 144 μ)) 0 39 = nI T := by rw [hK2.2]; exact hI
  have hI3 : zI (zit (q_svO T) 4 (zit (q_svF T) 336 (zit (q_svC T) 144 μ))) 0 39 = nI T := by rw [hK3.2]; exact hI
  rw [show q_save μ T = q_svE T (zit (q_svO T) 4 (zit (q_svF T) 336 (zit (q_svC T) 144 μ))) from if_pos hT]
  refine zx_aload_n dX7_save_0 rfl rfl ?_
  refine zx_getI zf_X7_313 (by assumption) (Or.inl rfl) dX7_save_1 ?_
  refine zx_iconst 4 dX7_save_4 (by decide) ?_
  rw [hI]
  refine zx_icmp_ne (tgt := 10) dX7_save_5 (by decide) (fun _ => ?_) (fun h_ => absurd h_ (fun z => by have := (nI_eq (show T < 2 ^ 31 by omega) (show 4 < 2 ^ 31 by omega)).mp z; omega))
  refine zx_iconst 0 dX7_save_10 (by decide) ?_
  refine zx_istore_n dX7_save_11 rfl (Nat.le_of_ble_eq_true rfl) ?_
  refine zWA_to (L_X7_save1 hG hL hT hI ?_) ⟨rfl, rfl, trivial⟩
  refine zx_iconst 0 dX7_save_109 (by decide) ?_
  refine zx_istore_n dX7_save_110 rfl (Nat.le_of_ble_eq_true rfl) ?_
  refine zWA_to (L_X7_save2 (μ := (zit (q_svC T) 144 μ)) hG hL1 hT hI1 ?_) ⟨rfl, rfl, trivial⟩
  refine zx_iconst 0 dX7_save_145 (by decide) ?_
  refine zx_istore_n dX7_save_146 rfl (Nat.le_of_ble_eq_true rfl) ?_
  refine zWA_to (L_X7_save3 (μ := (zit (q_svF T) 336 (zit (q_svC T) 144 μ))) hG hL2 hT hI2 ?_) ⟨rfl, rfl, trivial⟩
  exact zWA_to (S_X7_save4 (μ := (zit (q_svO T) 4 (zit (q_svF T) 336 (zit (q_svC T) 144 μ)))) hG hL3 hT hI3) ⟨rfl, trivial⟩

set_option maxHeartbeats 4000000 in
set_option maxRecDepth 100000 in
theorem m_X7_save_full {g : ZG} {μ : ZMem} {w h : Nat} {ly : Int32} (hG : zGM g) (hL : zLM w h ly μ) {T : Nat} (hT : T = 4) (hI : zI μ 0 39 = nI T) : zCab g RX7 yX7_save cX7_save 2 ((some FieldType.int)) (zrm 1) [zr (some 0)] μ (some (zi (s_save T))) (q_save μ T) := by
  refine zCab_w (by decide +kernel) rfl (Nat.le_of_ble_eq_true rfl) ?_
  have hO0 : zO g 7 0 := hG.o 0 (by decide)
  have hO7 : zO g 10 7 := hG.o 7 (by decide)
  have hl7 : zln g 7 = 144 := hG.l 7 (by decide)
  have hO8 : zO g 8 8 := hG.o 8 (by decide)
  have hl8 : zln g 8 = 144 := hG.l 8 (by decide)
  have hO9 : zO g 8 9 := hG.o 9 (by decide)
  have hl9 : zln g 9 = 144 := hG.l 9 (by decide)
  have hO10 : zO g 8 10 := hG.o 10 (by decide)
  have hl10 : zln g 10 = 144 := hG.l 10 (by decide)
  have hO11 : zO g 8 11 := hG.o 11 (by decide)
  have hl11 : zln g 11 = 336 := hG.l 11 (by decide)
  have hO12 : zO g 10 12 := hG.o 12 (by decide)
  have hl12 : zln g 12 = 4 := hG.l 12 (by decide)
  have hO42 : zO g 9 42 := hG.o 42 (by decide)
  have hl42 : zln g 42 = 4 := hG.l 42 (by decide)
  have hO43 : zO g 10 43 := hG.o 43 (by decide)
  have hl43 : zln g 43 = 576 := hG.l 43 (by decide)
  have hO44 : zO g 8 44 := hG.o 44 (by decide)
  have hl44 : zln g 44 = 576 := hG.l 44 (by decide)
  have hO45 : zO g 8 45 := hG.o 45 (by decide)
  have hl45 : zln g 45 = 576 := hG.l 45 (by decide)
  have hO46 : zO g 8 46 := hG.o 46 (by decide)
  have hl46 : zln g 46 = 576 := hG.l 46 (by decide)
  have hO47 : zO g 8 47 := hG.o 47 (by decide)
  have hl47 : zln g 47 = 1344 := hG.l 47 (by decide)
  have hO48 : zO g 10 48 := hG.o 48 (by decide)
  have hl48 : zln g 48 = 16 := hG.l 48 (by decide)
  have hO49 : zO g 10 49 := hG.o 49 (by decide)
  have hl49 : zln g 49 = 4 := hG.l 49 (by decide)
  have hO50 : zO g 8 50 := hG.o 50 (by decide)
  have hl50 : zln g 50 = 4 := hG.l 50 (by decide)
  have hw0 : zI μ 0 0 = nI w := hL.2.1
  have hh0 : zI μ 0 1 = nI h := hL.2.2.1
  have hy0 : zI μ 0 2 = ly := hL.2.2.2.1
  obtain ⟨hb1, hb2, hb3, hb4⟩ := hL.2.2.2.2
  refine zx_aload_n dX7_save_0 rfl rfl ?_
  refine zx_getI zf_X7_313 (by assumption) (Or.inl rfl) dX7_save_1 ?_
  refine zx_iconst 4 dX7_save_4 (by decide) ?_
  rw [hI, hT]
  refine zx_icmp_ne (tgt := 10) dX7_save_5 (by decide) (fun h_ => absurd h_ (fun q => q rfl)) (fun _ => ?_)
  refine zx_iconst (-1) dX7_save_8 (by decide) ?_
  exact zx_ireturn rfl (by simp [zKa, s_save, hT]) (by simp [zKm, q_save, hT]) dX7_save_9

