/-! the class's memory beside the model's -/
def rCell (μ m : ZMem) (c c' : Nat) : Prop := zI μ c 0 = zI m 4 c' ∧ zD μ c 1 = zD m 5 c' ∧ zL μ c 2 = zL m 7 c' ∧ zq (zD μ c 3) (zD m 8 c') ∧ zq (zD μ c 4) (zD m 9 c') ∧ zq (zD μ c 5) (zD m 10 c') ∧ zD μ c 6 = zD m 6 c'
def rCells (w h : Nat) (μ m : ZMem) : Prop := ∀ j, j < h → ∀ i, i < w → rCell μ m (1000 + (j * w + i)) (12 * j + i)
def rSpd (w h : Nat) (μ m : ZMem) : Prop := (∀ i j, i + 1 < w → j < h → zq (zD μ (2000 + nA0 w i j) 4) (zD m 11 (12 * j + i))) ∧ (∀ i j, i < w → j + 1 < h → zq (zD μ (2000 + nA1 w h i j) 4) (zD m 11 (144 + (12 * j + i)))) ∧ ∀ s t, s < 4 → t < (if s < 2 then h else w) → zq (zD μ (2000 + nSd4 w h s t) 4) (zD m 11 (288 + 12 * s + t))
def rSide (μ m : ZMem) : Prop := ∀ s, s < 4 → zL μ (30 + s) 4 = zL m 12 s ∧ (zI μ (30 + s) 2 = 0 ↔ ∀ k, k < 8 → zI m 23 (8 * s + k) = 0) ∧ ∀ k, k < 8 → (zI m 23 (8 * s + k) = 0 → zD μ (40 + s) k = 0) ∧ (¬ zI m 23 (8 * s + k) = 0 → zD μ (40 + s) k = zD m 24 (8 * s + k) ∧ zD μ (50 + s) k = zD m 25 (8 * s + k))
def rWind (μ m : ZMem) : Prop := ∀ k, k < 24 → zD μ 4 k = zD m 26 k ∧ zD μ 5 k = zD m 27 k
def rTime (μ m : ZMem) : Prop := zD μ 0 14 = zD m 0 13 ∧ zL μ 0 15 = zL m 0 14 ∧ zL μ 0 16 = zL m 0 12
/-- how the class's geometry lies -/
def gGeo (w h : Nat) (μ : ZMem) : Prop := fRf w h μ ∧ fAx w h μ ∧ fcA w h ≤ 400
theorem opn_iff (m : ZMem) (s : Nat) : t_isOpen m s = 0 ↔ ∀ k, k < 8 → zI m 23 (8 * s + k) = 0 := by
  have h : ∀ n, t_opn m s n = 0 ↔ ∀ k, k < n → zI m 23 (8 * s + k) = 0 := by
    intro n
    induction n with
    | zero => exact ⟨fun _ k hk => absurd hk (by omega), fun _ => rfl⟩
    | succ n ih =>
      have e : t_opn m s (n + 1) = if t_opn m s n = 0 then (if zI m 23 (8 * s + n) = 0 then 0 else 1) else 1 := rfl
      rw [e]
      by_cases g : t_opn m s n = 0
      · rw [if_pos g]
        by_cases g2 : zI m 23 (8 * s + n) = 0
        · rw [if_pos g2]
          refine ⟨fun _ k hk => ?_, fun _ => rfl⟩
          by_cases e2 : k = n
          · rw [e2]; exact g2
          · exact ih.mp g k (by omega)
        · rw [if_neg g2]
          exact ⟨fun q => absurd q (by decide), fun q => absurd (q n (by omega)) g2⟩
      · rw [if_neg g]
        exact ⟨fun q => absurd q (by decide), fun q => absurd (ih.mpr (fun k hk => q k (by omega))) g⟩
  exact h 8
theorem wave_eq (t : UInt64) {k : Nat} (hk : k < 8) : s_wave t k = zdiv t (zmul k3600 (FP.i2d (nI k + 1))) := by
  have e : ∀ k : Fin 8, FP.i2d (3600 * (nI k.val + 1)) = zmul k3600 (FP.i2d (nI k.val + 1)) := by decide +kernel
  unfold s_wave
  rw [e ⟨k, hk⟩]
theorem zq_addz {x z : UInt64} (hz : FP.Core.DZero z) (hx : zcn x = x) : zq (zadd x z) x := by
  by_cases h : FP.Core.DZero x
  · exact Or.inr ⟨zz_cn (zz_add h hz), h⟩
  · rw [zadd_z hz h, hx]
    exact zq.rf x
theorem zz_mul {z b : UInt64} (hz : FP.Core.DZero z) (hb : zfi b) : FP.Core.DZero (zmul z b) := by
  obtain ⟨h1, h2⟩ := zz_iff.mp hz
  obtain ⟨a, c⟩ := zRd_mul hz.fin hb
  refine zz_iff.mpr ⟨c, ?_⟩
  rw [h2, Int.zero_mul] at a
  have u := (a 0 zRep_0).1 (by omega)
  have l := (a 0 zRep_0).2 (by omega)
  omega
theorem out_rel {μ m : ZMem} (hS : rSide μ m) (hT : zD μ 0 14 = zD m 0 13) {s : Nat} (hs : s < 4) (hW : zWv m s) (ht : zTm (zD m 0 13)) : zq (s_out μ s) (t_outside m s) := by
  obtain ⟨_, s2, s3⟩ := hS s hs
  unfold s_out t_outside
  by_cases e : zI μ (30 + s) 2 = 0
  · rw [if_pos e]
    have : zit (t_wv m s) 8 0 = zit (fun _ x => x) 8 0 := zit_cg 8 0 (fun k x hk => if_pos (s2.mp e k hk))
    rw [this]
    exact zq.rf 0
  · rw [if_neg e]
    have : ∀ n, n ≤ 8 → zq (zit (s_wv μ s) n 0) (zit (t_wv m s) n 0) ∧ zcn (zit (t_wv m s) n 0) = zit (t_wv m s) n 0 := by
      intro n
      induction n with
      | zero => exact fun _ => ⟨zq.rf 0, show zcn 0 = 0 by decide +kernel⟩
      | succ n ih =>
        intro hn
        obtain ⟨i1, i2⟩ := ih (by omega)
        obtain ⟨w1, w2⟩ := s3 n (by omega)
        show zq (s_wv μ s n (zit (s_wv μ s) n 0)) (t_wv m s n (zit (t_wv m s) n 0)) ∧ zcn (t_wv m s n (zit (t_wv m s) n 0)) = t_wv m s n (zit (t_wv m s) n 0)
        generalize zit (s_wv μ s) n 0 = X at *
        generalize zit (t_wv m s) n 0 = Y at *
        unfold s_wv t_wv
        by_cases g : zI m 23 (8 * s + n) = 0
        · rw [if_pos g, w1 g, if_neg (by decide +kernel)]
          exact ⟨i1, i2⟩
        · obtain ⟨e1, e2⟩ := w2 g
          obtain ⟨z1, z2, z3, z4, z5, z6⟩ := hW n (by omega) g
          rw [if_neg g, e1, e2, hT, wave_eq _ (by omega)]
          obtain ⟨f1, _, _⟩ := zsaw_w ht z4 z5 z6 (k := n) (by omega)
          by_cases p : zgt (zD m 24 (8 * s + n)) 0 = true
          · rw [if_pos p]
            exact ⟨zq_add i1 (zq.rf _), zcn_cn _⟩
          · rw [if_neg p]
            have zz : FP.Core.DZero (zD m 24 (8 * s + n)) := by
              have q : ¬ zv 0 < zv (zD m 24 (8 * s + n)) := fun y => p ((zgt_iff (zfi_nn z1) znn_0).mpr y)
              rw [zv_0] at q
              exact zz_iff.mpr ⟨zfi_nn z1, by omega⟩
            exact ⟨i1.tr (zq_addz (zz_mul zz f1) i2).sy, zcn_cn _⟩
    exact (this 8 (Nat.le_refl 8)).1
theorem k1_nz : ¬ FP.Core.DZero k1 := fun h => by
  have := (zz_iff.mp h).2
  rw [zk_1] at this
  have := zU_pos
  omega
theorem zadd_k1 {a b : UInt64} (h : zq a b) : zadd k1 a = zadd k1 b := by
  rcases h with rfl | ⟨h1, h2⟩
  · rfl
  · rw [zadd_z h1 k1_nz, zadd_z h2 k1_nz]
/-- the speed of a face -/
theorem spd_rel {β m : ZMem} {f : Nat} {a b : Option Nat} {f' : Nat} {b' e' : Option Nat} {out v x y : UInt64} (h4 : zq (zD β f 4) (zD m 11 f')) (hn : FP.Core.val64 (zD β f 4) ≠ .nan) (e0 : zR β f 0 = a) (e1 : zR β f 1 = b) (s0 : zq (s_surfaceOf β f a) (t_at m b' out)) (s1 : zq (s_surfaceOf β f b) (t_at m e' out)) (hw : x = y) : zq (v_speed β f v x) (t_spd m f' b' e' out v y) := by
  unfold v_speed t_spd
  rw [e0, e1, hw, zadd_k1 (zq_mul (zq.rf _) (zq_size h4 hn))]
  exact zq_div _ (zq_add h4 (zq_mul (zq.rf _) (zq_add (zq_mul (zq.rf _) (zq_sub s0 s1)) (zq.rf _))))
def lim1 (V q : Int64) : Int64 := if V < 50 then 0 else if V / 8 < q then V / 8 else if q < -(V / 8) then -(V / 8) else q
def lim2 (V q : Int64) : Int64 := if V < 50 then 0 else s_max64 (-(V / 8)) (s_min64 (V / 8) q)
theorem lim_eq {V q : Int64} (h0 : 0 ≤ V.toInt) : lim2 V q = lim1 V q := by
  have e8 := zi_d8 h0
  have b8 := Int64.toInt_lt V
  have en : (-(V / 8)).toInt = -(V.toInt / 8) := by rw [zi_neg (by omega), e8]
  unfold lim2 lim1 s_max64 s_min64
  by_cases g : V < 50
  · rw [if_pos g, if_pos g]
  · rw [if_neg g, if_neg g]
    by_cases a : V / 8 < q
    · have a' := zi_lt.mp a
      have m : (if q < V / 8 then q else V / 8) = V / 8 := if_neg (fun y => by have := zi_lt.mp y; omega)
      rw [m, if_pos a]
      by_cases b : -(V / 8) < V / 8
      · rw [if_pos b]
      · rw [if_neg b]
        rw [zi_lt] at b
        apply Int64.toInt_inj.mp
        omega
    · have a' : ¬ (V / 8).toInt < q.toInt := fun y => a (zi_lt.mpr y)
      have m : (if q < V / 8 then q else V / 8) = q := by
        by_cases b : q < V / 8
        · rw [if_pos b]
        · rw [if_neg b]
          rw [zi_lt] at b
          apply Int64.toInt_inj.mp
          omega
      rw [m, if_neg a]
      by_cases c : q < -(V / 8)
      · have c' := zi_lt.mp c
        rw [if_pos c, if_neg (fun y => by have := zi_lt.mp y; omega)]
      · rw [if_neg c]
        by_cases d : -(V / 8) < q
        · rw [if_pos d]
        · rw [if_neg d]
          rw [zi_lt] at c d
          apply Int64.toInt_inj.mp
          omega
theorem lim1_0 {V : Int64} (h0 : 0 ≤ V.toInt) : lim1 V 0 = 0 := by
  have e8 := zi_d8 h0
  have b8 := Int64.toInt_lt V
  have en : (-(V / 8)).toInt = -(V.toInt / 8) := by rw [zi_neg (by omega), e8]
  unfold lim1
  have z0 := zi_0
  split
  · rfl
  · rw [if_neg (fun y => by have := zi_lt.mp y; omega), if_neg (fun y => by have := zi_lt.mp y; omega)]
def vOf (m : ZMem) (x : Option Nat) : Prop := match x with
  | none => True
  | some c => 0 ≤ (zL m 7 c).toInt
def cell2 (μ m : ZMem) (a b' : Option Nat) : Prop := match a, b' with
  | none, none => True
  | some c, some c' => zL μ c 2 = zL m 7 c' ∧ 0 ≤ (zL m 7 c').toInt
  | _, _ => False
/-- the flow over a face -/
theorem lim_rel {β m : ZMem} {f : Nat} {a b : Option Nat} {b' e' : Option Nat} (e0 : zR β f 0 = a) (e1 : zR β f 1 = b) (h0 : cell2 β m a b') (h1 : cell2 β m b e') (q : Int64) : s_limited β f q = t_lim m b' e' q := by
  have one : ∀ {a b' : Option Nat}, cell2 β m a b' → (match a with | none => q | some c => if s_isDry β c = 0 then s_max64 (-(zL β c 2 / 8)) (s_min64 (zL β c 2 / 8) q) else 0) = t_lim1 m b' q := by
    intro a b' h
    cases a with
    | none =>
      cases b' with
      | none => rfl
      | some c' => exact absurd h id
    | some c =>
      cases b' with
      | none => exact absurd h id
      | some c' =>
        obtain ⟨e, p⟩ := h
        show (if s_isDry β c = 0 then s_max64 (-(zL β c 2 / 8)) (s_min64 (zL β c 2 / 8) q) else 0) = lim1 (zL m 7 c') q
        rw [← lim_eq p]
        unfold s_isDry lim2
        rw [e]
        by_cases g : zL m 7 c' < 50
        · rw [if_pos g, if_pos g, if_neg (by decide)]
        · rw [if_neg g, if_neg g, if_pos rfl]
  have zero : ∀ {a b' : Option Nat}, cell2 β m a b' → q = 0 → t_lim1 m b' q = 0 := by
    intro a b' h hq
    cases b' with
    | none => exact hq
    | some c' =>
      cases a with
      | none => exact absurd h id
      | some c =>
        show lim1 (zL m 7 c') q = 0
        rw [hq]
        exact lim1_0 h.2
  unfold s_limited t_lim
  rw [e0, e1]
  by_cases n : q < 0
  · rw [if_pos n, if_neg (fun y => by have := zi_lt.mp n; have := zi_lt.mp y; omega)]
    exact one h1
  · rw [if_neg n]
    by_cases p : 0 < q
    · rw [if_pos p]
      exact one h0
    · rw [if_neg p]
      have hq : q = 0 := by
        rw [zi_lt] at n p
        apply Int64.toInt_inj.mp
        have := zi_0
        omega
      exact (one h0).trans ((zero h0 hq).trans (zero h1 hq).symm)
theorem min_max (x : Int64) : s_min64 9223372036854775807 x = x := by
  have h := Int64.toInt_lt x
  unfold s_min64
  by_cases g : x < 9223372036854775807
  · rw [if_pos g]
  · rw [if_neg g]
    rw [zi_lt, show (9223372036854775807 : Int64).toInt = 9223372036854775807 from rfl] at g
    apply Int64.toInt_inj.mp
    rw [show (9223372036854775807 : Int64).toInt = 9223372036854775807 from rfl]
    omega
theorem les_rel {β m : ZMem} {f : Nat} {a b : Option Nat} {b' e' : Option Nat} (e0 : zR β f 0 = a) (e1 : zR β f 1 = b) (h0 : cell2 β m a b') (h1 : cell2 β m b e') (hn : ¬ (a = none ∧ b = none)) : s_lesser β f = t_min m b' e' := by
  unfold s_lesser
  rw [e0, e1]
  cases a with
  | none =>
    cases b with
    | none => exact absurd ⟨rfl, rfl⟩ hn
    | some d =>
      cases b' with
      | some x => exact absurd h0 id
      | none =>
        cases e' with
        | none => exact absurd h1 id
        | some d' =>
          show s_min64 9223372036854775807 (zL β d 2) = zL m 7 d'
          rw [min_max, h1.1]
  | some c =>
    cases b' with
    | none => exact absurd h0 id
    | some c' =>
      cases b with
      | none =>
        cases e' with
        | some x => exact absurd h1 id
        | none =>
          show s_min64 9223372036854775807 (zL β c 2) = zL m 7 c'
          rw [min_max, h0.1]
      | some d =>
        cases e' with
        | none => exact absurd h1 id
        | some d' =>
          show s_min64 (s_min64 9223372036854775807 (zL β c 2)) (zL β d 2) = s_min64 (zL m 7 c') (zL m 7 d')
          rw [min_max, h0.1, h1.1]
theorem q_rel {β m : ZMem} {f : Nat} {a b : Option Nat} {b' e' : Option Nat} {v s s' : UInt64} (e0 : zR β f 0 = a) (e1 : zR β f 1 = b) (h0 : cell2 β m a b') (h1 : cell2 β m b e') (hn : ¬ (a = none ∧ b = none)) (hs : zq s s') : e_q β f v s = f_q m v b' e' s' := by
  unfold e_q f_q
  rw [les_rel e0 e1 h0 h1 hn, zq_d2l (zq_mul (zq_mul hs (zq.rf v)) (zq.rf (zmul (FP.l2d (t_min m b' e')) k0001)))]
  exact lim_rel e0 e1 h0 h1 _
