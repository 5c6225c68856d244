def q_az (f c : Nat) (m : ZMem) : ZMem := zsD m 36 (5 * f + c) 0
def q_ac (f q c : Nat) (m : ZMem) : ZMem := zsD m 36 (5 * f + c) (zadd (zD m 36 (5 * f + c)) (zmul (t_col f (zD m 34 q)) (t_col c (zD m 34 q))))
def q_bk (f q : Nat) (m : ZMem) : ZMem := zsD m 37 f (zadd (zD m 37 f) (zmul (t_col f (zD m 34 q)) (zD m 35 q)))
def q_gk (n f q : Nat) (m : ZMem) : ZMem := q_bk f q (zit (q_ac f q) n m)
def q_fr (n T f : Nat) (m : ZMem) : ZMem := zit (q_gk n f) T (zit (q_az f) n (zsD m 37 f 0))
def q_el (c i : Nat) (x : UInt64) (t : Nat) (m : ZMem) : ZMem := zsD m 36 (5 * i + (c + t)) (zsub (zD m 36 (5 * i + (c + t))) (zmul x (zD m 36 (5 * c + (c + t)))))
def q_rowx (n c i : Nat) (x : UInt64) (m : ZMem) : ZMem := (fun m : ZMem => zsD m 37 i (zsub (zD m 37 i) (zmul x (zD m 37 c)))) (zit (q_el c i x) (n - c) m)
def q_row (n c t : Nat) (m : ZMem) : ZMem := q_rowx n c (c + 1 + t) (zdiv (zD m 36 (5 * (c + 1 + t) + c)) (zD m 36 (6 * c))) m
def q_clr (n c : Nat) (s : Int32 × ZMem) : Int32 × ZMem := if zgt (t_size (zD s.2 36 (6 * c))) k1e9 = true then (s.1 + 1, zit (q_row n c) (n - (c + 1)) s.2) else s
def q_clear (n : Nat) (m : ZMem) : Int32 × ZMem := zit (q_clr n) n (0, m)
def t_rs (m : ZMem) (c t : Nat) (v : UInt64) : UInt64 := zsub v (zmul (zD m 36 (5 * c + (c + 1 + t))) (zD m 38 (c + 1 + t)))
def q_up1 (n t : Nat) (m : ZMem) : ZMem := zsD m 38 (n - (t + 1)) (if zgt (t_size (zD m 36 (6 * (n - (t + 1))))) k1e9 = true then zdiv (zit (t_rs m (n - (t + 1))) (n - (n - (t + 1) + 1)) (zD m 37 (n - (t + 1)))) (zD m 36 (6 * (n - (t + 1)))) else 0)
def q_add (n T : Nat) (m : ZMem) : ZMem := zit (q_fr n T) n m
def q_fit1 (μ : ZMem) (n T : Nat) : ZMem := zsI (zit (q_up1 n) n (q_clear n (q_add n T μ)).2) 0 38 (nI n)
def t_fit (μ : ZMem) (T : Nat) (x : Int32) : Int32 := if x < 0 then -1 else if x ≤ 2 then (q_clear (2 * x.toNatClampNeg + 1) (q_add (2 * x.toNatClampNeg + 1) T μ)).1 else -1
def q_fit (μ : ZMem) (T : Nat) (x : Int32) : ZMem := if x < 0 then μ else if x ≤ 2 then q_fit1 μ (2 * x.toNatClampNeg + 1) T else μ
theorem zKp_az (f c : Nat) (m : ZMem) : zKp (q_az f c m) m := ⟨rfl, rfl⟩
theorem zKp_ac (f q c : Nat) (m : ZMem) : zKp (q_ac f q c m) m := ⟨rfl, rfl⟩
theorem zKp_bk (f q : Nat) (m : ZMem) : zKp (q_bk f q m) m := ⟨rfl, rfl⟩
theorem zKp_gk (n f q : Nat) (m : ZMem) : zKp (q_gk n f q m) m := (zKp_bk f q _).trans (zKp_it (zKp_ac f q) n m)
theorem zKp_fr (n T f : Nat) (m : ZMem) : zKp (q_fr n T f m) m := (zKp_it (zKp_gk n f) T _).trans ((zKp_it (zKp_az f) n _).trans (zKp_sD _ _ _ _))
theorem zKp_el (c i : Nat) (x : UInt64) (t : Nat) (m : ZMem) : zKp (q_el c i x t m) m := ⟨rfl, rfl⟩
theorem zKp_rowx (n c i : Nat) (x : UInt64) (m : ZMem) : zKp (q_rowx n c i x m) m := (zKp_sD _ _ _ _).trans (zKp_it (zKp_el c i x) _ m)
theorem zKp_row (n c t : Nat) (m : ZMem) : zKp (q_row n c t m) m := zKp_rowx _ _ _ _ _
theorem zKp_clr (n : Nat) (fnd : Int32) : ∀ (k : Nat) (m : ZMem), zKp (zit (q_clr n) k (fnd, m)).2 m
  | 0, m => zKp.rfl' m
  | k + 1, m => by
    show zKp (q_clr n k (zit (q_clr n) k (fnd, m))).2 m
    unfold q_clr
    split
    · exact (zKp_it (zKp_row n k) _ _).trans (zKp_clr n fnd k m)
    · exact zKp_clr n fnd k m
theorem zKp_up1 (n t : Nat) (m : ZMem) : zKp (q_up1 n t m) m := ⟨rfl, rfl⟩
set_option maxHeartbeats 4000000 in
set_option maxRecDepth 100000 in
theorem L_X7_fit1 {g : ZG} {μ : ZMem} {w h : Nat} {ly : Int32} (hG : zGM g) (hL : zLM w h ly μ) {n : Nat} (hn : n ≤ 5) {f : Nat} (hf : f < n) {res : Option ZV} {μ' : ZMem} (hx : zWA g (RX7, cX7_fit, 9, ((some FieldType.int)), zrm 3, res, μ') 58 (zls [(0, zr (some 0)), (2, zi (nI n)), (3, zi (nI f)), (4, zi (nI (n)))]) [] (zit (q_az f) (n) μ)) : zWA g (RX7, cX7_fit, 9, ((some FieldType.int)), zrm 3, res, μ') 34 (zls [(0, zr (some 0)), (2, zi (nI n)), (3, zi (nI f)), (4, zi (nI (0)))]) [] μ := by
  have hO0 : zO g 7 0 := hG.o 0 (by decide)
  have hO34 : zO g 8 34 := hG.o 34 (by decide)
  have hl34 : zln g 34 = 40 := hG.l 34 (by decide)
  have hO35 : zO g 8 35 := hG.o 35 (by decide)
  have hl35 : zln g 35 = 40 := hG.l 35 (by decide)
  have hO36 : zO g 8 36 := hG.o 36 (by decide)
  have hl36 : zln g 36 = 25 := hG.l 36 (by decide)
  have hO37 : zO g 8 37 := hG.o 37 (by decide)
  have hl37 : zln g 37 = 5 := hG.l 37 (by decide)
  have hO38 : zO g 8 38 := hG.o 38 (by decide)
  have hl38 : zln g 38 = 5 := hG.l 38 (by decide)
  have hw0 : zI μ 0 0 = nI w := hL.2.1
  have hh0 : zI μ 0 1 = nI h := hL.2.2.1
  have hy0 : zI μ 0 2 = ly := hL.2.2.2.1
  obtain ⟨hb1, hb2, hb3, hb4⟩ := hL.2.2.2.2
  have hKk : ∀ k, zKp (zit (q_az f) k μ) μ := fun k => zKp_it (zKp_az f) k μ
  have hLk : ∀ k, zLM w h ly (zit (q_az f) k μ) := fun k => zLM_kp (hKk k) hL
  have hwk : ∀ k, zI (zit (q_az f) k μ) 0 0 = nI w := fun k => (hLk k).2.1
  have hhk : ∀ k, zI (zit (q_az f) k μ) 0 1 = nI h := fun k => (hLk k).2.2.1
  refine zloop (P := fun k => zWA g (RX7, cX7_fit, 9, ((some FieldType.int)), zrm 3, res, μ') 34 (zls [(0, zr (some 0)), (2, zi (nI n)), (3, zi (nI f)), (4, zi (nI (k)))]) [] (zit (q_az f) (k) μ)) (N := n) ?_ ?_ 0 (Nat.zero_le _)
  · show zWA _ _ _ _ _ _
    refine zx_iload dX7_fit_34 rfl ?_
    refine zx_iload_n dX7_fit_36 rfl rfl ?_
    refine zx_icmp_ge (tgt := 58) dX7_fit_37 (by decide) (fun _ => ?_) (fun h_ => absurd h_ (fun q => q (by first | decide | exact Int32.le_refl _)))
    exact zWA_to hx ⟨rfl, rfl, rfl, rfl, trivial⟩
  · intro k hk hn_
    show zWA _ _ _ _ _ _
    refine zx_iload dX7_fit_34 rfl ?_
    refine zx_iload_n dX7_fit_36 rfl rfl ?_
    refine zx_icmp_ge (tgt := 58) dX7_fit_37 (by decide) (fun h_ => absurd h_ (nI_ge hk (by omega))) (fun _ => ?_)
    refine zx_aload_n dX7_fit_40 rfl rfl ?_
    refine zx_getR zf_X7_85 (by assumption) (show _ = some 36 from (hLk k).1 35 (by decide)) rfl dX7_fit_41 ?_
    refine zx_iconst 5 dX7_fit_44 (by decide) ?_
    refine zx_iload_n dX7_fit_45 rfl rfl ?_
    refine zx_imul dX7_fit_46 ?_
    refine zx_iload dX7_fit_47 rfl ?_
    refine zx_iadd dX7_fit_49 ?_
    refine zx_dconst0 dX7_fit_50 ?_
    refine zx_dast (5 * f + k) (by assumption) (z5 _ _) ⟨by rw [hl36]; omega, by rw [hl36]; decide⟩ dX7_fit_51 ?_
    refine zx_iinc (nI (k + 1)) dX7_fit_52 rfl (by rw [show Int32.ofInt 1 = nI 1 from rfl, nI_add] <;> rfl) (Nat.le_of_ble_eq_true rfl) ?_
    refine zx_goto (tgt := 34) dX7_fit_55 (by decide) ?_
    exact zWA_to (zWA_mem hn_ (by rfl)) ⟨rfl, rfl, rfl, rfl, trivial⟩

set_option maxHeartbeats 4000000 in
set_option maxRecDepth 100000 in
theorem L_X7_fit2 {g : ZG} {μ : ZMem} {w h : Nat} {ly : Int32} (hG : zGM g) (hL : zLM w h ly μ) {n : Nat} (hn : n ≤ 5) {f q : Nat} (hf : f < n) (hq : q < 40) {res : Option ZV} {μ' : ZMem} (hx : zWA g (RX7, cX7_fit, 9, ((some FieldType.int)), zrm 3, res, μ') 132 (zls [(0, zr (some 0)), (2, zi (nI n)), (3, zi (nI f)), (4, zi (nI q)), (5, zi (nI (n)))]) [] (zit (q_ac f q) (n) μ)) : zWA g (RX7, cX7_fit, 9, ((some FieldType.int)), zrm 3, res, μ') 73 (zls [(0, zr (some 0)), (2, zi (nI n)), (3, zi (nI f)), (4, zi (nI q)), (5, zi (nI (0)))]) [] μ := by
  have hO0 : zO g 7 0 := hG.o 0 (by decide)
  have hO34 : zO g 8 34 := hG.o 34 (by decide)
  have hl34 : zln g 34 = 40 := hG.l 34 (by decide)
  have hO35 : zO g 8 35 := hG.o 35 (by decide)
  have hl35 : zln g 35 = 40 := hG.l 35 (by decide)
  have hO36 : zO g 8 36 := hG.o 36 (by decide)
  have hl36 : zln g 36 = 25 := hG.l 36 (by decide)
  have hO37 : zO g 8 37 := hG.o 37 (by decide)
  have hl37 : zln g 37 = 5 := hG.l 37 (by decide)
  have hO38 : zO g 8 38 := hG.o 38 (by decide)
  have hl38 : zln g 38 = 5 := hG.l 38 (by decide)
  have hw0 : zI μ 0 0 = nI w := hL.2.1
  have hh0 : zI μ 0 1 = nI h := hL.2.2.1
  have hy0 : zI μ 0 2 = ly := hL.2.2.2.1
  obtain ⟨hb1, hb2, hb3, hb4⟩ := hL.2.2.2.2
  have hKk : ∀ k, zKp (zit (q_ac f q) k μ) μ := fun k => zKp_it (zKp_ac f q) k μ
  have hLk : ∀ k, zLM w h ly (zit (q_ac f q) k μ) := fun k => zLM_kp (hKk k) hL
  have hwk : ∀ k, zI (zit (q_ac f q) k μ) 0 0 = nI w := fun k => (hLk k).2.1
  have hhk : ∀ k, zI (zit (q_ac f q) k μ) 0 1 = nI h := fun k => (hLk k).2.2.1
  refine zloop (P := fun k => zWA g (RX7, cX7_fit, 9, ((some FieldType.int)), zrm 3, res, μ') 73 (zls [(0, zr (some 0)), (2, zi (nI n)), (3, zi (nI f)), (4, zi (nI q)), (5, zi (nI (k)))]) [] (zit (q_ac f q) (k) μ)) (N := n) ?_ ?_ 0 (Nat.zero_le _)
  · show zWA _ _ _ _ _ _
    refine zx_iload dX7_fit_73 rfl ?_
    refine zx_iload_n dX7_fit_75 rfl rfl ?_
    refine zx_icmp_ge (tgt := 132) dX7_fit_76 (by decide) (fun _ => ?_) (fun h_ => absurd h_ (fun q => q (by first | decide | exact Int32.le_refl _)))
    exact zWA_to hx ⟨rfl, rfl, rfl, rfl, rfl, trivial⟩
  · intro k hk hn_
    show zWA _ _ _ _ _ _
    refine zx_iload dX7_fit_73 rfl ?_
    refine zx_iload_n dX7_fit_75 rfl rfl ?_
    refine zx_icmp_ge (tgt := 132) dX7_fit_76 (by decide) (fun h_ => absurd h_ (nI_ge hk (by omega))) (fun _ => ?_)
    refine zx_aload_n dX7_fit_79 rfl rfl ?_
    refine zx_getR zf_X7_85 (by assumption) (show _ = some 36 from (hLk k).1 35 (by decide)) rfl dX7_fit_80 ?_
    refine zx_iconst 5 dX7_fit_83 (by decide) ?_
    refine zx_iload_n dX7_fit_84 rfl rfl ?_
    refine zx_imul dX7_fit_85 ?_
    refine zx_iload dX7_fit_86 rfl ?_
    refine zx_iadd dX7_fit_88 ?_
    refine zx_aload_n dX7_fit_89 rfl rfl ?_
    refine zx_getR zf_X7_85 (by assumption) (show _ = some 36 from (hLk k).1 35 (by decide)) rfl dX7_fit_90 ?_
    refine zx_iconst 5 dX7_fit_93 (by decide) ?_
    refine zx_iload_n dX7_fit_94 rfl rfl ?_
    refine zx_imul dX7_fit_95 ?_
    refine zx_iload dX7_fit_96 rfl ?_
    refine zx_iadd dX7_fit_98 ?_
    refine zx_dald (5 * f + k) (by assumption) (z5 _ _) ⟨by rw [hl36]; omega, by rw [hl36]; decide⟩ dX7_fit_99 ?_
    refine zx_iload_n dX7_fit_100 rfl rfl ?_
    refine zx_aload_n dX7_fit_101 rfl rfl ?_
    refine zx_getR zf_X7_79 (by assumption) (show _ = some 34 from (hLk k).1 33 (by decide)) rfl dX7_fit_102 ?_
    refine zx_iload dX7_fit_105 rfl ?_
    refine zx_dald q (by assumption) rfl ⟨by rw [hl34]; omega, by rw [hl34]; decide⟩ dX7_fit_107 ?_
    refine zx_callS1 _ zs_X7_304 m_X7_column rfl rfl ⟨rfl, rfl, (Nat.le_of_ble_eq_true rfl), (Nat.le_of_ble_eq_true rfl)⟩ (Nat.le_of_ble_eq_true rfl) dX7_fit_108 ?_
    refine zx_iload dX7_fit_111 rfl ?_
    refine zx_aload_n dX7_fit_113 rfl rfl ?_
    refine zx_getR zf_X7_79 (by assumption) (show _ = some 34 from (hLk k).1 33 (by decide)) rfl dX7_fit_114 ?_
    refine zx_iload dX7_fit_117 rfl ?_
    refine zx_dald q (by assumption) rfl ⟨by rw [hl34]; omega, by rw [hl34]; decide⟩ dX7_fit_119 ?_
    refine zx_callS1 _ zs_X7_304 m_X7_column rfl rfl ⟨rfl, rfl, (Nat.le_of_ble_eq_true rfl), (Nat.le_of_ble_eq_true rfl)⟩ (Nat.le_of_ble_eq_true rfl) dX7_fit_120 ?_
    refine zx_dmul dX7_fit_123 ?_
    refine zx_dadd dX7_fit_124 ?_
    refine zx_dast (5 * f + k) (by assumption) (z5 _ _) ⟨by rw [hl36]; omega, by rw [hl36]; decide⟩ dX7_fit_125 ?_
    refine zx_iinc (nI (k + 1)) dX7_fit_126 rfl (by rw [show Int32.ofInt 1 = nI 1 from rfl, nI_add] <;> rfl) (Nat.le_of_ble_eq_true rfl) ?_
    refine zx_goto (tgt := 73) dX7_fit_129 (by decide) ?_
    exact zWA_to (zWA_mem hn_ (by rfl)) ⟨rfl, rfl, rfl, rfl, rfl, trivial⟩

set_option maxHeartbeats 4000000 in
set_option maxRecDepth 100000 in
theorem L_X7_fit3 {g : ZG} {μ : ZMem} {w h : Nat} {ly : Int32} (hG : zGM g) (hL : zLM w h ly μ) {n : Nat} (hn : n ≤ 5) {f T : Nat} (hf : f < n) (hT : T ≤ 40) (hI : zI μ 0 31 = nI T) {res : Option ZV} {μ' : ZMem} (hx : zWA g (RX7, cX7_fit, 9, ((some FieldType.int)), zrm 3, res, μ') 170 (zls [(0, zr (some 0)), (2, zi (nI n)), (3, zi (nI f)), (4, zi (nI (T)))]) [] (zit (q_gk n f) (T) μ)) : zWA g (RX7, cX7_fit, 9, ((some FieldType.int)), zrm 3, res, μ') 61 (zls [(0, zr (some 0)), (2, zi (nI n)), (3, zi (nI f)), (4, zi (nI (0)))]) [] μ := by
  have hO0 : zO g 7 0 := hG.o 0 (by decide)
  have hO34 : zO g 8 34 := hG.o 34 (by decide)
  have hl34 : zln g 34 = 40 := hG.l 34 (by decide)
  have hO35 : zO g 8 35 := hG.o 35 (by decide)
  have hl35 : zln g 35 = 40 := hG.l 35 (by decide)
  have hO36 : zO g 8 36 := hG.o 36 (by decide)
  have hl36 : zln g 36 = 25 := hG.l 36 (by decide)
  have hO37 : zO g 8 37 := hG.o 37 (by decide)
  have hl37 : zln g 37 = 5 := hG.l 37 (by decide)
  have hO38 : zO g 8 38 := hG.o 38 (by decide)
  have hl38 : zln g 38 = 5 := hG.l 38 (by decide)
  have hw0 : zI μ 0 0 = nI w := hL.2.1
  have hh0 : zI μ 0 1 = nI h := hL.2.2.1
  have hy0 : zI μ 0 2 = ly := hL.2.2.2.1
  obtain ⟨hb1, hb2, hb3, hb4⟩ := hL.2.2.2.2
  have hKk : ∀ k, zKp (zit (q_gk n f) k μ) μ := fun k => zKp_it (zKp_gk n f) k μ
  have hLk : ∀ k, zLM w h ly (zit (q_gk n f) k μ) := fun k => zLM_kp (hKk k) hL
  have hwk : ∀ k, zI (zit (q_gk n f) k μ) 0 0 = nI w := fun k => (hLk k).2.1
  have hhk : ∀ k, zI (zit (q_gk n f) k μ) 0 1 = nI h := fun k => (hLk k).2.2.1
  have hIk : ∀ k, zI (zit (q_gk n f) k μ) 0 31 = nI T := fun k => by rw [(hKk k).2]; exact hI
  have hM : ∀ k, zLM w h ly (zit (q_ac f k) n (zit (q_gk n f) k μ)) := fun k => zLM_kp (zKp_it (zKp_ac f k) n _) (hLk k)
  refine zloop (P := fun k => zWA g (RX7, cX7_fit, 9, ((some FieldType.int)), zrm 3, res, μ') 61 (zls [(0, zr (some 0)), (2, zi (nI n)), (3, zi (nI f)), (4, zi (nI (k)))]) [] (zit (q_gk n f) (k) μ)) (N := T) ?_ ?_ 0 (Nat.zero_le _)
  · show zWA _ _ _ _ _ _
    refine zx_iload dX7_fit_61 rfl ?_
    refine zx_aload_n dX7_fit_63 rfl rfl ?_
    refine zx_getI zf_X7_299 (by assumption) (Or.inl rfl) dX7_fit_64 ?_
    rw [hIk]
    refine zx_icmp_ge (tgt := 170) dX7_fit_67 (by decide) (fun _ => ?_) (fun h_ => absurd h_ (fun q => q (by first | decide | exact Int32.le_refl _)))
    exact zWA_to hx ⟨rfl, rfl, rfl, rfl, trivial⟩
  · intro k hk hn_
    show zWA _ _ _ _ _ _
    refine zx_iload dX7_fit_61 rfl ?_
    refine zx_aload_n dX7_fit_63 rfl rfl ?_
    refine zx_getI zf_X7_299 (by assumption) (Or.inl rfl) dX7_fit_64 ?_
    rw [hIk]
    refine zx_icmp_ge (tgt := 170) dX7_fit_67 (by decide) (fun h_ => absurd h_ (nI_ge hk (by omega))) (fun _ => ?_)
    refine zx_iconst 0 dX7_fit_70 (by decide) ?_
    refine zx_istore dX7_fit_71 (Nat.le_of_ble_eq_true rfl) ?_
    refine zWA_to (L_X7_fit2 (μ := zit (q_gk n f) k μ) hG (hLk k) hn hf (q := k) (by omega) ?_) ⟨rfl, rfl, rfl, rfl, rfl, trivial⟩
    refine zx_aload_n dX7_fit_132 rfl rfl ?_
    refine zx_getR zf_X7_88 (by assumption) (show _ = some 37 from (hM k).1 36 (by decide)) rfl dX7_fit_133 ?_
    refine zx_iload_n dX7_fit_136 rfl rfl ?_
    refine zx_aload_n dX7_fit_137 rfl rfl ?_
    refine zx_getR zf_X7_88 (by assumption) (show _ = some 37 from (hM k).1 36 (by decide)) rfl dX7_fit_138 ?_
    refine zx_iload_n dX7_fit_141 rfl rfl ?_
    refine zx_dald f (by assumption) rfl ⟨by rw [hl37]; omega, by rw [hl37]; decide⟩ dX7_fit_142 ?_
    refine zx_iload_n dX7_fit_143 rfl rfl ?_
    refine zx_aload_n dX7_fit_144 rfl rfl ?_
    refine zx_getR zf_X7_79 (by assumption) (show _ = some 34 from (hM k).1 33 (by decide)) rfl dX7_fit_145 ?_
    refine zx_iload dX7_fit_148 rfl ?_
    refine zx_dald k (by assumption) rfl ⟨by rw [hl34]; omega, by rw [hl34]; decide⟩ dX7_fit_150 ?_
    refine zx_callS1 _ zs_X7_304 m_X7_column rfl rfl ⟨rfl, rfl, (Nat.le_of_ble_eq_true rfl), (Nat.le_of_ble_eq_true rfl)⟩ (Nat.le_of_ble_eq_true rfl) dX7_fit_151 ?_
    refine zx_aload_n dX7_fit_154 rfl rfl ?_
    refine zx_getR zf_X7_82 (by assumption) (show _ = some 35 from (hM k).1 34 (by decide)) rfl dX7_fit_155 ?_
    refine zx_iload dX7_fit_158 rfl ?_
    refine zx_dald k (by assumption) rfl ⟨by rw [hl35]; omega, by rw [hl35]; decide⟩ dX7_fit_160 ?_
    refine zx_dmul dX7_fit_161 ?_
    refine zx_dadd dX7_fit_162 ?_
    refine zx_dast f (by assumption) rfl ⟨by rw [hl37]; omega, by rw [hl37]; decide⟩ dX7_fit_163 ?_
    refine zx_iinc (nI (k + 1)) dX7_fit_164 rfl (by rw [show Int32.ofInt 1 = nI 1 from rfl, nI_add] <;> rfl) (Nat.le_of_ble_eq_true rfl) ?_
    refine zx_goto (tgt := 61) dX7_fit_167 (by decide) ?_
    exact zWA_to (zWA_mem hn_ (by rfl)) ⟨rfl, rfl, rfl, rfl, trivial⟩

set_option maxHeartbeats 4000000 in
set_option maxRecDepth 100000 in
theorem L_X7_fit4 {g : ZG} {μ : ZMem} {w h : Nat} {ly : Int32} (hG : zGM g) (hL : zLM w h ly μ) {n : Nat} (hn : n ≤ 5) {T : Nat} (hT : T ≤ 40) (hI : zI μ 0 31 = nI T) {res : Option ZV} {μ' : ZMem} (hx : zWA g (RX7, cX7_fit, 9, ((some FieldType.int)), zrm 3, res, μ') 176 (zls [(0, zr (some 0)), (2, zi (nI n)), (3, zi (nI (n)))]) [] (zit (q_fr n T) (n) μ)) : zWA g (RX7, cX7_fit, 9, ((some FieldType.int)), zrm 3, res, μ') 19 (zls [(0, zr (some 0)), (2, zi (nI n)), (3, zi (nI (0)))]) [] μ := by
  have hO0 : zO g 7 0 := hG.o 0 (by decide)
  have hO34 : zO g 8 34 := hG.o 34 (by decide)
  have hl34 : zln g 34 = 40 := hG.l 34 (by decide)
  have hO35 : zO g 8 35 := hG.o 35 (by decide)
  have hl35 : zln g 35 = 40 := hG.l 35 (by decide)
  have hO36 : zO g 8 36 := hG.o 36 (by decide)
  have hl36 : zln g 36 = 25 := hG.l 36 (by decide)
  have hO37 : zO g 8 37 := hG.o 37 (by decide)
  have hl37 : zln g 37 = 5 := hG.l 37 (by decide)
  have hO38 : zO g 8 38 := hG.o 38 (by decide)
  have hl38 : zln g 38 = 5 := hG.l 38 (by decide)
  have hw0 : zI μ 0 0 = nI w := hL.2.1
  have hh0 : zI μ 0 1 = nI h := hL.2.2.1
  have hy0 : zI μ 0 2 = ly := hL.2.2.2.1
  obtain ⟨hb1, hb2, hb3, hb4⟩ := hL.2.2.2.2
  have hKk : ∀ k, zKp (zit (q_fr n T) k μ) μ := fun k => zKp_it (zKp_fr n T) k μ
  have hLk : ∀ k, zLM w h ly (zit (q_fr n T) k μ) := fun k => zLM_kp (hKk k) hL
  have hwk : ∀ k, zI (zit (q_fr n T) k μ) 0 0 = nI w := fun k => (hLk k).2.1
  have hhk : ∀ k, zI (zit (q_fr n T) k μ) 0 1 = nI h := fun k => (hLk k).2.2.1
  have hIk : ∀ k, zI (zit (q_fr n T) k μ) 0 31 = nI T := fun k => by rw [(hKk k).2]; exact hI
  have hLz : ∀ k, zLM w h ly (zit (q_az k) n (zsD (zit (q_fr n T) k μ) 37 k 0)) := fun k => zLM_kp ((zKp_it (zKp_az k) n _).trans (zKp_sD _ _ _ _)) (hLk k)
  have hIz : ∀ k, zI (zit (q_az k) n (zsD (zit (q_fr n T) k μ) 37 k 0)) 0 31 = nI T := fun k => by rw [((zKp_it (zKp_az k) n _).trans (zKp_sD _ _ _ _)).2]; exact hIk k
  refine zloop (P := fun k => zWA g (RX7, cX7_fit, 9, ((some FieldType.int)), zrm 3, res, μ') 19 (zls [(0, zr (some 0)), (2, zi (nI n)), (3, zi (nI (k)))]) [] (zit (q_fr n T) (k) μ)) (N := n) ?_ ?_ 0 (Nat.zero_le _)
  · show zWA _ _ _ _ _ _
    refine zx_iload_n dX7_fit_19 rfl rfl ?_
    refine zx_iload_n dX7_fit_20 rfl rfl ?_
    refine zx_icmp_ge (tgt := 176) dX7_fit_21 (by decide) (fun _ => ?_) (fun h_ => absurd h_ (fun q => q (by first | decide | exact Int32.le_refl _)))
    exact zWA_to hx ⟨rfl, rfl, rfl, trivial⟩
  · intro k hk hn_
    show zWA _ _ _ _ _ _
    refine zx_iload_n dX7_fit_19 rfl rfl ?_
    refine zx_iload_n dX7_fit_20 rfl rfl ?_
    refine zx_icmp_ge (tgt := 176) dX7_fit_21 (by decide) (fun h_ => absurd h_ (nI_ge hk (by omega))) (fun _ => ?_)
    refine zx_aload_n dX7_fit_24 rfl rfl ?_
    refine zx_getR zf_X7_88 (by assumption) (show _ = some 37 from (hLk k).1 36 (by decide)) rfl dX7_fit_25 ?_
    refine zx_iload_n dX7_fit_28 rfl rfl ?_
    refine zx_dconst0 dX7_fit_29 ?_
    refine zx_dast k (by assumption) rfl ⟨by rw [hl37]; omega, by rw [hl37]; decide⟩ dX7_fit_30 ?_
    refine zx_iconst 0 dX7_fit_31 (by decide) ?_
    refine zx_istore dX7_fit_32 (Nat.le_of_ble_eq_true rfl) ?_
    refine zWA_to (L_X7_fit1 (μ := zsD (zit (q_fr n T) k μ) 37 k 0) (n := n) hG (hLk k) hn hk ?_) ⟨rfl, rfl, rfl, rfl, trivial⟩
    refine zx_iconst 0 dX7_fit_58 (by decide) ?_
    refine zx_istore dX7_fit_59 (Nat.le_of_ble_eq_true rfl) ?_
    refine zWA_to (L_X7_fit3 (μ := zit (q_az k) n (zsD (zit (q_fr n T) k μ) 37 k 0)) hG (hLz k) hn hk hT (hIz k) ?_) ⟨rfl, rfl, rfl, rfl, trivial⟩
    refine zx_iinc (nI (k + 1)) dX7_fit_170 rfl (by rw [show Int32.ofInt 1 = nI 1 from rfl, nI_add] <;> rfl) (Nat.le_of_ble_eq_true rfl) ?_
    refine zx_goto (tgt := 19) dX7_fit_173 (by decide) ?_
    exact zWA_to (zWA_mem hn_ (by rfl)) ⟨rfl, rfl, rfl, trivial⟩

set_option maxHeartbeats 4000000 in
set_option maxRecDepth 100000 in
theorem L_X7_fit5 {g : ZG} {μ : ZMem} {w h : Nat} {ly : Int32} (hG : zGM g) (hL : zLM w h ly μ) {n : Nat} (hn : n ≤ 5) {c i : Nat} (hc : c < n) (hi : i < n) {x : UInt64} {fnd : Int32} {res : Option ZV} {μ' : ZMem} (hx : zWA g (RX7, cX7_fit, 9, ((some FieldType.int)), zrm 3, res, μ') 303 (zls [(0, zr (some 0)), (2, zi (nI n)), (3, zi fnd), (4, zi (nI c)), (5, zi (nI i)), (6, zd x), (8, zi (nI (c + ((n - c)))))]) [] (zit (q_el c i x) ((n - c)) μ)) : zWA g (RX7, cX7_fit, 9, ((some FieldType.int)), zrm 3, res, μ') 251 (zls [(0, zr (some 0)), (2, zi (nI n)), (3, zi fnd), (4, zi (nI c)), (5, zi (nI i)), (6, zd x), (8, zi (nI (c + (0))))]) [] μ := by
  have hO0 : zO g 7 0 := hG.o 0 (by decide)
  have hO34 : zO g 8 34 := hG.o 34 (by decide)
  have hl34 : zln g 34 = 40 := hG.l 34 (by decide)
  have hO35 : zO g 8 35 := hG.o 35 (by decide)
  have hl35 : zln g 35 = 40 := hG.l 35 (by decide)
  have hO36 : zO g 8 36 := hG.o 36 (by decide)
  have hl36 : zln g 36 = 25 := hG.l 36 (by decide)
  have hO37 : zO g 8 37 := hG.o 37 (by decide)
  have hl37 : zln g 37 = 5 := hG.l 37 (by decide)
  have hO38 : zO g 8 38 := hG.o 38 (by decide)
  have hl38 : zln g 38 = 5 := hG.l 38 (by decide)
  have hw0 : zI μ 0 0 = nI w := hL.2.1
  have hh0 : zI μ 0 1 = nI h := hL.2.2.1
  have hy0 : zI μ 0 2 = ly := hL.2.2.2.1
  obtain ⟨hb1, hb2, hb3, hb4⟩ := hL.2.2.2.2
  have hKk : ∀ k, zKp (zit (q_el c i x) k μ) μ := fun k => zKp_it (zKp_el c i x) k μ
  have hLk : ∀ k, zLM w h ly (zit (q_el c i x) k μ) := fun k => zLM_kp (hKk k) hL
  have hwk : ∀ k, zI (zit (q_el c i x) k μ) 0 0 = nI w := fun k => (hLk k).2.1
  have hhk : ∀ k, zI (zit (q_el c i x) k μ) 0 1 = nI h := fun k => (hLk k).2.2.1
  refine zloop (P := fun k => zWA g (RX7, cX7_fit, 9, ((some FieldType.int)), zrm 3, res, μ') 251 (zls [(0, zr (some 0)), (2, zi (nI n)), (3, zi fnd), (4, zi (nI c)), (5, zi (nI i)), (6, zd x), (8, zi (nI (c + (k))))]) [] (zit (q_el c i x) (k) μ)) (N := (n - c)) ?_ ?_ 0 (Nat.zero_le _)
  · show zWA _ _ _ _ _ _
    refine zx_iload dX7_fit_251 rfl ?_
    refine zx_iload_n dX7_fit_253 rfl rfl ?_
    refine zx_icmp_ge (tgt := 303) dX7_fit_254 (by decide) (fun _ => ?_) (fun h_ => absurd h_ (by rw [show c + (n - c) = n by omega]; exact fun q => q (Int32.le_refl _)))
    exact zWA_to hx ⟨rfl, rfl, rfl, rfl, rfl, rfl, rfl, trivial⟩
  · intro k hk hn_
    show zWA _ _ _ _ _ _
    refine zx_iload dX7_fit_251 rfl ?_
    refine zx_iload_n dX7_fit_253 rfl rfl ?_
    refine zx_icmp_ge (tgt := 303) dX7_fit_254 (by decide) (fun h_ => absurd h_ (nI_ge (show c + k < n by omega) (by omega))) (fun _ => ?_)
    refine zx_aload_n dX7_fit_257 rfl rfl ?_
    refine zx_getR zf_X7_85 (by assumption) (show _ = some 36 from (hLk k).1 35 (by decide)) rfl dX7_fit_258 ?_
    refine zx_iconst 5 dX7_fit_261 (by decide) ?_
    refine zx_iload dX7_fit_262 rfl ?_
    refine zx_imul dX7_fit_264 ?_
    refine zx_iload dX7_fit_265 rfl ?_
    refine zx_iadd dX7_fit_267 ?_
    refine zx_aload_n dX7_fit_268 rfl rfl ?_
    refine zx_getR zf_X7_85 (by assumption) (show _ = some 36 from (hLk k).1 35 (by decide)) rfl dX7_fit_269 ?_
    refine zx_iconst 5 dX7_fit_272 (by decide) ?_
    refine zx_iload dX7_fit_273 rfl ?_
    refine zx_imul dX7_fit_275 ?_
    refine zx_iload dX7_fit_276 rfl ?_
    refine zx_iadd dX7_fit_278 ?_
    refine zx_dald (5 * i + (c + k)) (by assumption) (z5 _ _) ⟨by rw [hl36]; omega, by rw [hl36]; decide⟩ dX7_fit_279 ?_
    refine zx_dload dX7_fit_280 rfl ?_
    refine zx_aload_n dX7_fit_282 rfl rfl ?_
    refine zx_getR zf_X7_85 (by assumption) (show _ = some 36 from (hLk k).1 35 (by decide)) rfl dX7_fit_283 ?_
    refine zx_iconst 5 dX7_fit_286 (by decide) ?_
    refine zx_iload dX7_fit_287 rfl ?_
    refine zx_imul dX7_fit_289 ?_
    refine zx_iload dX7_fit_290 rfl ?_
    refine zx_iadd dX7_fit_292 ?_
    refine zx_dald (5 * c + (c + k)) (by assumption) (z5 _ _) ⟨by rw [hl36]; omega, by rw [hl36]; decide⟩ dX7_fit_293 ?_
    refine zx_dmul dX7_fit_294 ?_
    refine zx_dsub dX7_fit_295 ?_
    refine zx_dast (5 * i + (c + k)) (by assumption) (z5 _ _) ⟨by rw [hl36]; omega, by rw [hl36]; decide⟩ dX7_fit_296 ?_
    refine zx_iinc (nI (c + (k + 1))) dX7_fit_297 rfl (by rw [show Int32.ofInt 1 = nI 1 from rfl, nI_add] <;> rfl) (Nat.le_of_ble_eq_true rfl) ?_
    refine zx_goto (tgt := 251) dX7_fit_300 (by decide) ?_
    exact zWA_to (zWA_mem hn_ (by rfl)) ⟨rfl, rfl, rfl, rfl, rfl, rfl, rfl, trivial⟩

set_option maxHeartbeats 4000000 in
set_option maxRecDepth 100000 in
theorem L_X7_fit6 {g : ZG} {μ : ZMem} {w h : Nat} {ly : Int32} (hG : zGM g) (hL : zLM w h ly μ) {n : Nat} (hn : n ≤ 5) {c : Nat} (hc : c < n) {fnd : Int32} {res : Option ZV} {μ' : ZMem} (hx : zWA g (RX7, cX7_fit, 9, ((some FieldType.int)), zrm 3, res, μ') 334 (zls [(0, zr (some 0)), (2, zi (nI n)), (3, zi fnd), (4, zi (nI c)), (5, zi (nI (c + 1 + ((n - (c + 1))))))]) [] (zit (q_row n c) ((n - (c + 1))) μ)) : zWA g (RX7, cX7_fit, 9, ((some FieldType.int)), zrm 3, res, μ') 216 (zls [(0, zr (some 0)), (2, zi (nI n)), (3, zi fnd), (4, zi (nI c)), (5, zi (nI (c + 1 + (0))))]) [] μ := by
  have hO0 : zO g 7 0 := hG.o 0 (by decide)
  have hO34 : zO g 8 34 := hG.o 34 (by decide)
  have hl34 : zln g 34 = 40 := hG.l 34 (by decide)
  have hO35 : zO g 8 35 := hG.o 35 (by decide)
  have hl35 : zln g 35 = 40 := hG.l 35 (by decide)
  have hO36 : zO g 8 36 := hG.o 36 (by decide)
  have hl36 : zln g 36 = 25 := hG.l 36 (by decide)
  have hO37 : zO g 8 37 := hG.o 37 (by decide)
  have hl37 : zln g 37 = 5 := hG.l 37 (by decide)
  have hO38 : zO g 8 38 := hG.o 38 (by decide)
  have hl38 : zln g 38 = 5 := hG.l 38 (by decide)
  have hw0 : zI μ 0 0 = nI w := hL.2.1
  have hh0 : zI μ 0 1 = nI h := hL.2.2.1
  have hy0 : zI μ 0 2 = ly := hL.2.2.2.1
  obtain ⟨hb1, hb2, hb3, hb4⟩ := hL.2.2.2.2
  have hKk : ∀ k, zKp (zit (q_row n c) k μ) μ := fun k => zKp_it (zKp_row n c) k μ
  have hLk : ∀ k, zLM w h ly (zit (q_row n c) k μ) := fun k => zLM_kp (hKk k) hL
  have hwk : ∀ k, zI (zit (q_row n c) k μ) 0 0 = nI w := fun k => (hLk k).2.1
  have hhk : ∀ k, zI (zit (q_row n c) k μ) 0 1 = nI h := fun k => (hLk k).2.2.1
  have hM : ∀ k, zLM w h ly (zit (q_el c (c + 1 + k) (zdiv (zD (zit (q_row n c) k μ) 36 (5 * (c + 1 + k) + c)) (zD (zit (q_row n c) k μ) 36 (6 * c)))) (n - c) (zit (q_row n c) k μ)) := fun k => zLM_kp (zKp_it (zKp_el c (c + 1 + k) _) _ _) (hLk k)
  refine zloop (P := fun k => zWA g (RX7, cX7_fit, 9, ((some FieldType.int)), zrm 3, res, μ') 216 (zls [(0, zr (some 0)), (2, zi (nI n)), (3, zi fnd), (4, zi (nI c)), (5, zi (nI (c + 1 + (k))))]) [] (zit (q_row n c) (k) μ)) (N := (n - (c + 1))) ?_ ?_ 0 (Nat.zero_le _)
  · show zWA _ _ _ _ _ _
    refine zx_iload dX7_fit_216 rfl ?_
    refine zx_iload_n dX7_fit_218 rfl rfl ?_
    refine zx_icmp_ge (tgt := 334) dX7_fit_219 (by decide) (fun _ => ?_) (fun h_ => absurd h_ (by rw [show c + 1 + (n - (c + 1)) = n by omega]; exact fun q => q (Int32.le_refl _)))
    exact zWA_to hx ⟨rfl, rfl, rfl, rfl, rfl, trivial⟩
  · intro k hk hn_
    show zWA _ _ _ _ _ _
    refine zx_iload dX7_fit_216 rfl ?_
    refine zx_iload_n dX7_fit_218 rfl rfl ?_
    refine zx_icmp_ge (tgt := 334) dX7_fit_219 (by decide) (fun h_ => absurd h_ (nI_ge (show c + 1 + k < n by omega) (by omega))) (fun _ => ?_)
    refine zx_aload_n dX7_fit_222 rfl rfl ?_
    refine zx_getR zf_X7_85 (by assumption) (show _ = some 36 from (hLk k).1 35 (by decide)) rfl dX7_fit_223 ?_
    refine zx_iconst 5 dX7_fit_226 (by decide) ?_
    refine zx_iload dX7_fit_227 rfl ?_
    refine zx_imul dX7_fit_229 ?_
    refine zx_iload dX7_fit_230 rfl ?_
    refine zx_iadd dX7_fit_232 ?_
    refine zx_dald (5 * (c + 1 + k) + c) (by assumption) (z5 _ _) ⟨by rw [hl36]; omega, by rw [hl36]; decide⟩ dX7_fit_233 ?_
    refine zx_aload_n dX7_fit_234 rfl rfl ?_
    refine zx_getR zf_X7_85 (by assumption) (show _ = some 36 from (hLk k).1 35 (by decide)) rfl dX7_fit_235 ?_
    refine zx_bipush 6 dX7_fit_238 (by decide) ?_
    refine zx_iload dX7_fit_240 rfl ?_
    refine zx_imul dX7_fit_242 ?_
    refine zx_dald (6 * c) (by assumption) (z6 _) ⟨by rw [hl36]; omega, by rw [hl36]; decide⟩ dX7_fit_243 ?_
    refine zx_ddiv dX7_fit_244 ?_
    refine zx_dstore dX7_fit_245 (Nat.le_of_ble_eq_true rfl) ?_
    refine zx_iload dX7_fit_247 rfl ?_
    refine zx_istore dX7_fit_249 (Nat.le_of_ble_eq_true rfl) ?_
    refine zWA_to (L_X7_fit5 (μ := zit (q_row n c) k μ) (n := n) (c := c) (i := c + 1 + k) (x := (zdiv (zD (zit (q_row n c) k μ) 36 (5 * (c + 1 + k) + c)) (zD (zit (q_row n c) k μ) 36 (6 * c)))) (fnd := fnd) hG (hLk k) hn hc (by omega) ?_) ⟨rfl, rfl, rfl, rfl, rfl, rfl, rfl, trivial⟩
    refine zx_aload_n dX7_fit_303 rfl rfl ?_
    refine zx_getR zf_X7_88 (by assumption) (show _ = some 37 from (hM k).1 36 (by decide)) rfl dX7_fit_304 ?_
    refine zx_iload dX7_fit_307 rfl ?_
    refine zx_aload_n dX7_fit_309 rfl rfl ?_
    refine zx_getR zf_X7_88 (by assumption) (show _ = some 37 from (hM k).1 36 (by decide)) rfl dX7_fit_310 ?_
    refine zx_iload dX7_fit_313 rfl ?_
    refine zx_dald (c + 1 + k) (by assumption) rfl ⟨by rw [hl37]; omega, by rw [hl37]; decide⟩ dX7_fit_315 ?_
    refine zx_dload dX7_fit_316 rfl ?_
    refine zx_aload_n dX7_fit_318 rfl rfl ?_
    refine zx_getR zf_X7_88 (by assumption) (show _ = some 37 from (hM k).1 36 (by decide)) rfl dX7_fit_319 ?_
    refine zx_iload dX7_fit_322 rfl ?_
    refine zx_dald c (by assumption) rfl ⟨by rw [hl37]; omega, by rw [hl37]; decide⟩ dX7_fit_324 ?_
    refine zx_dmul dX7_fit_325 ?_
    refine zx_dsub dX7_fit_326 ?_
    refine zx_dast (c + 1 + k) (by assumption) rfl ⟨by rw [hl37]; omega, by rw [hl37]; decide⟩ dX7_fit_327 ?_
    refine zx_iinc (nI (c + 1 + (k + 1))) dX7_fit_328 rfl (by rw [show Int32.ofInt 1 = nI 1 from rfl, nI_add] <;> rfl) (Nat.le_of_ble_eq_true rfl) ?_
    refine zx_goto (tgt := 216) dX7_fit_331 (by decide) ?_
    exact zWA_to (zWA_mem hn_ (by rfl)) ⟨rfl, rfl, rfl, rfl, rfl, trivial⟩

