/-! the ports of a cell -/
theorem wt_cg {κ ν : ZMem} (e : ∀ r, zI κ r = zI ν r) (w h : Nat) (x y : Int32) : t_isWater κ w h x y = t_isWater ν w h x y := by
  unfold t_isWater
  rw [e]
theorem hf_cg {κ ν : ZMem} (e : ∀ r, zI κ r = zI ν r) (w h : Nat) (x y a : Int32) : t_hasFace κ w h x y a = t_hasFace ν w h x y a := by
  unfold t_hasFace
  rw [wt_cg e, wt_cg e, wt_cg e]
theorem op_cg {κ ν : ZMem} (e : ∀ r, zI κ r = zI ν r) (s : Nat) : t_isOpen κ s = t_isOpen ν s := by
  unfold t_isOpen t_opn
  rw [e]
theorem hs_cg {κ ν : ZMem} (e : ∀ r, zI κ r = zI ν r) (w h : Nat) (x y : Int32) (s : Nat) : t_hasSide κ w h x y s = t_hasSide ν w h x y s := by
  unfold t_hasSide
  rw [wt_cg e, op_cg e]
def zsu (f : Nat → Int) : Nat → Int
  | 0 => 0
  | n + 1 => zsu f n + f n
theorem zsu_le {f g : Nat → Int} : ∀ n : Nat, (∀ k, k < n → f k ≤ g k) → zsu f n ≤ zsu g n
  | 0, _ => Int.le_refl _
  | n + 1, h => Int.add_le_add (zsu_le n (fun k hk => h k (by omega))) (h n (by omega))
theorem zsu_cg {f g : Nat → Int} : ∀ n : Nat, (∀ k, k < n → f k = g k) → zsu f n = zsu g n
  | 0, _ => rfl
  | n + 1, h => by
    show zsu f n + f n = zsu g n + g n
    rw [zsu_cg n (fun k hk => h k (by omega)), h n (by omega)]
theorem zsu_add (f g : Nat → Int) : ∀ n : Nat, zsu (fun k => f k + g k) n = zsu f n + zsu g n
  | 0 => rfl
  | n + 1 => by
    show zsu (fun k => f k + g k) n + (f n + g n) = zsu f n + f n + (zsu g n + g n)
    rw [zsu_add f g n]
    omega
theorem zsu_0 : ∀ n : Nat, zsu (fun _ => 0) n = 0
  | 0 => rfl
  | n + 1 => by
    show zsu (fun _ => 0) n + 0 = 0
    rw [zsu_0 n]
    rfl
theorem zsu_nn {f : Nat → Int} (n : Nat) (h : ∀ k, k < n → 0 ≤ f k) : 0 ≤ zsu f n := by
  have := zsu_le (f := fun _ => 0) (g := f) n h
  rw [zsu_0] at this
  exact this
theorem zsu_ge {f : Nat → Int} : ∀ (n : Nat) (k : Nat), (∀ k, k < n → 0 ≤ f k) → k < n → f k ≤ zsu f n
  | 0, _, _, hk => absurd hk (by omega)
  | n + 1, k, h, hk => by
    show f k ≤ zsu f n + f n
    have hn := h n (by omega)
    by_cases e : k = n
    · subst e
      have := zsu_nn (f := f) k (fun l hl => h l (by omega))
      omega
    · have := zsu_ge (f := f) n k (fun l hl => h l (by omega)) (by omega)
      omega
theorem zsu_c {c : Int} (h0 : 0 ≤ c) : ∀ n : Nat, n ≤ 12 → zsu (fun _ => c) n ≤ 12 * c := by
  have e : ∀ n : Nat, zsu (fun _ => c) n = n * c := by
    intro n
    induction n with
    | zero => simp [zsu]
    | succ n ih =>
      show zsu (fun _ => c) n + c = _
      rw [ih, Int.natCast_add, Int.add_mul]
      omega
  intro n hn
  rw [e]
  exact Int.mul_le_mul_of_nonneg_right (by omega) h0
theorem zsu_one {M : Int} (h0 : 0 ≤ M) (a : Nat) : ∀ n : Nat, zsu (fun k => if k = a then M else 0) n = if a < n then M else 0
  | 0 => by simp [zsu]
  | n + 1 => by
    show zsu (fun k => if k = a then M else 0) n + (if n = a then M else 0) = _
    rw [zsu_one h0 a n]
    by_cases e : n = a
    · rw [if_pos e, if_neg (by omega), if_pos (by omega)]
      omega
    · rw [if_neg e]
      by_cases g : a < n
      · rw [if_pos g, if_pos (by omega)]
        omega
      · rw [if_neg g, if_neg (by omega)]
        rfl
theorem zsu_tele {q f : Nat → Int} : ∀ n : Nat, (∀ k, k < n → f k = (if k = 0 then 0 else q (k - 1)) + -q k) → zsu f n = if n = 0 then 0 else -q (n - 1)
  | 0, _ => rfl
  | n + 1, h => by
    show zsu f n + f n = _
    rw [zsu_tele n (fun k hk => h k (by omega)), h n (by omega), if_neg (show ¬ n + 1 = 0 by omega), Nat.add_sub_cancel]
    by_cases e : n = 0
    · subst e
      simp
    · rw [if_neg e, if_neg e]
      omega
def zs2 (f : Nat → Nat → Int) (w h : Nat) : Int := zsu (fun j => zsu (fun i => f i j) w) h
theorem zs2_le {f g : Nat → Nat → Int} {w h : Nat} (H : ∀ j, j < h → ∀ i, i < w → f i j ≤ g i j) : zs2 f w h ≤ zs2 g w h := zsu_le h (fun j hj => zsu_le w (H j hj))
theorem zs2_cg {f g : Nat → Nat → Int} {w h : Nat} (H : ∀ j, j < h → ∀ i, i < w → f i j = g i j) : zs2 f w h = zs2 g w h := zsu_cg h (fun j hj => zsu_cg w (H j hj))
theorem zs2_add (f g : Nat → Nat → Int) (w h : Nat) : zs2 (fun i j => f i j + g i j) w h = zs2 f w h + zs2 g w h := by
  unfold zs2
  rw [← zsu_add]
  exact zsu_cg h (fun j _ => zsu_add _ _ w)
theorem zs2_ge {f : Nat → Nat → Int} {w h i j : Nat} (H : ∀ j, j < h → ∀ i, i < w → 0 ≤ f i j) (hi : i < w) (hj : j < h) : f i j ≤ zs2 f w h := by
  have h1 := zsu_ge (f := fun i => f i j) w i (H j hj) hi
  have h2 := zsu_ge (f := fun j => zsu (fun i => f i j) w) h j (fun l hl => zsu_nn w (H l hl)) hj
  exact Int.le_trans h1 h2
/-- all that stands in a sea -/
def zTt (w h : Nat) (m : ZMem) : Int := zs2 (fun i j => (zL m 7 (12 * j + i)).toInt) w h
def zTn (n : Nat) (t : UInt64) : Prop := zfi t ∧ 0 ≤ zv t ∧ zv t ≤ ((600 * n : Nat) : Int) * zU
def nRv (x : UInt64) : Prop := zfi x ∧ 0 ≤ zv x ∧ zv x ≤ 1000 * zU
/-- what holds of the model's numbers after n steps -/
def NI (n w h : Nat) (m : ZMem) : Prop := (∀ j, j < h → ∀ i, i < w → 0 ≤ (zL m 7 (12 * j + i)).toInt ∧ (¬ wtr m i j → zL m 7 (12 * j + i) = 0) ∧ zBw n (zD m 8 (12 * j + i)) ∧ zBw n (zD m 9 (12 * j + i)) ∧ nRv (zD m 6 (12 * j + i))) ∧ zTt w h m ≤ (n : Int) * 2 ^ 44 ∧ nDep w h m ∧ nWind m ∧ nSpd n w h m ∧ (∀ k, k < 4 → zWv m k) ∧ zTn n (zD m 0 13)
theorem NI.V {n w h : Nat} {m : ZMem} (hn : n < 2 ^ 17) (H : NI n w h m) : nV w h m := by
  intro j hj i hi
  have h0 := (H.1 j hj i hi).1
  have h1 := zs2_ge (f := fun i j => (zL m 7 (12 * j + i)).toInt) (fun j hj i hi => (H.1 j hj i hi).1) hi hj
  have h2 : zs2 (fun i j => (zL m 7 (12 * j + i)).toInt) w h ≤ (n : Int) * 2 ^ 44 := H.2.1
  have h3 : (zL m 7 (12 * j + i)).toInt ≤ zs2 (fun i j => (zL m 7 (12 * j + i)).toInt) w h := h1
  omega
theorem zTn.m {n : Nat} (hn : n < 2 ^ 17) {t : UInt64} (H : zTn n t) : zTm t := by
  obtain ⟨a, b, c⟩ := H
  have hU := zU_pos
  have : ((600 * n : Nat) : Int) * zU ≤ 549755813888 * zU := Int.mul_le_mul_of_nonneg_right (by omega) (by omega)
  exact ⟨a, b, by omega⟩
/-- where a step begins -/
def nCx (n w h hr : Nat) (v : UInt64) (ν : ZMem) : Prop := zDim w h ∧ n < 2 ^ 17 ∧ zHh v ∧ hr < 24 ∧ NI n w h ν
theorem fA_b {n w h hr : Nat} {v : UInt64} {ν κ : ZMem} (C : nCx n w h hr v ν) {i j : Nat} (hi : i < w) (hj : j < h) (D : cDone ν κ w h hr v i j) {k : Nat} (hk : k < 2) : (t_hasFace ν w h (nI i) (nI j) (nI k) = 0 → zL κ 19 (144 * k + (12 * j + i)) = 0) ∧ (¬ t_hasFace ν w h (nI i) (nI j) (nI k) = 0 → -((zL ν 7 (fNx i j k)).toInt / 8) ≤ (zL κ 19 (144 * k + (12 * j + i))).toInt ∧ (zL κ 19 (144 * k + (12 * j + i))).toInt ≤ (zL ν 7 (12 * j + i)).toInt / 8) ∧ zSp (n + 1) (zD κ 11 (144 * k + (12 * j + i))) := by
  obtain ⟨hd, hn, hh, hhr, hN⟩ := C
  have hV := hN.V hn
  obtain ⟨n1, n2, n3, n4, n5, n6, n7⟩ := hN
  have d := D.1 k hk
  unfold dA fDone at d
  have s0 := (n5 j hj i hi).1 k hk
  by_cases e : t_hasFace ν w h (nI i) (nI j) (nI k) = 0
  · obtain ⟨d1, d2⟩ := d.2 e
    refine ⟨fun _ => d2, fun q => absurd e q, ?_⟩
    rw [d1]
    obtain ⟨a, b, c⟩ := s0
    have hU := zU_pos
    refine ⟨a, ?_, ?_⟩ <;> rw [Int.natCast_add, Int.add_mul, Int.add_mul] <;> omega
  · obtain ⟨d1, d2⟩ := d.1 e
    have hk2 : k = 0 ∨ k = 1 := by omega
    rcases hk2 with rfl | rfl
    · obtain ⟨e1, e2, e3⟩ := (hF0 hd hi hj).mp e
      have F := flow_in (n := n) (by omega) hh n4 hhr hV n3 s0 (a := nI 0) hi hj e1 hj
      have e4 : fNx i j 0 = 12 * j + (i + 1) := if_pos rfl
      rw [e4] at d1 d2 ⊢
      rw [d1, d2]
      exact ⟨fun q => absurd q e, fun _ => F.2 _, F.1⟩
    · obtain ⟨e1, e2, e3⟩ := (hF1 hd hi hj).mp e
      have F := flow_in (n := n) (by omega) hh n4 hhr hV n3 s0 (a := nI 1) hi hj hi e1
      have e4 : fNx i j 1 = 12 * (j + 1) + i := if_neg (by decide)
      rw [e4] at d1 d2 ⊢
      rw [d1, d2]
      exact ⟨fun q => absurd q e, fun _ => F.2 _, F.1⟩
theorem fS_b {n w h hr : Nat} {v : UInt64} {ν κ : ZMem} (C : nCx n w h hr v ν) {i j : Nat} (hi : i < w) (hj : j < h) (D : cDone ν κ w h hr v i j) {k : Nat} (hk : k < 4) (ha : atP w h i j k) : (t_hasSide ν w h (nI i) (nI j) k = 0 → zL κ 19 (sfN i j k) = 0) ∧ (-((zL ν 7 (12 * j + i)).toInt / 8) ≤ (t_comes κ (sfN i j k) k).toInt ∧ (t_comes κ (sfN i j k) k).toInt ≤ 274877906944) ∧ zSp (n + 1) (zD κ 11 (sfN i j k)) ∧ nSd k (zD κ 11 (sfN i j k)) := by
  obtain ⟨hd, hn, hh, hhr, hN⟩ := C
  have hV := hN.V hn
  obtain ⟨n1, n2, n3, n4, n5, n6, n7⟩ := hN
  have v0 := (hV j hj i hi).1
  have v1 := (hV j hj i hi).2
  have d := D.2 k hk ha
  unfold dS fDone at d
  obtain ⟨s0, s1⟩ := (n5 j hj i hi).2 k hk ha
  have z0 := zi_0
  by_cases e : t_hasSide ν w h (nI i) (nI j) k = 0
  · obtain ⟨d1, d2⟩ := d.2 e
    refine ⟨fun _ => d2, ?_, ?_, ?_⟩
    · unfold t_comes
      rw [d2]
      split
      · omega
      · split
        · omega
        · rw [show (-(0 : Int64)).toInt = 0 from rfl]
          omega
    · rw [d1]
      obtain ⟨a, b, c⟩ := s0
      have hU := zU_pos
      refine ⟨a, ?_, ?_⟩ <;> rw [Int.natCast_add, Int.add_mul, Int.add_mul] <;> omega
    · rw [d1]
      exact s1
  · obtain ⟨d1, d2⟩ := d.1 e
    have hk4 : k = 0 ∨ k = 1 ∨ k = 2 ∨ k = 3 := by omega
    refine ⟨fun q => absurd q e, ?_⟩
    rcases hk4 with rfl | rfl | rfl | rfl
    · obtain ⟨f1, f2, f3⟩ := flow_bh (n := n) (k := 0) (by omega) hh n4 hhr hV n3 s0 (s1.1 (Or.inl rfl)) (n6 0 (by omega)) (n7.m hn) hi hj d1
      have ec : t_comes κ (sfN i j 0) 0 = zL κ 19 (sfN i j 0) := if_pos rfl
      rw [ec, d2, ← d1]
      exact ⟨f3, f1, fun _ => f2, fun q => absurd q (by decide)⟩
    · obtain ⟨f1, f2, f3, f4⟩ := flow_bf (n := n) (k := 1) (by omega) hh n4 hhr hV n3 s0 (s1.2 (Or.inl rfl)) (n6 1 (by omega)) (n7.m hn) hi hj d1
      have ec : t_comes κ (sfN i j 1) 1 = -(zL κ 19 (sfN i j 1)) := (if_neg (by decide)).trans (if_neg (by decide))
      have d2' := d2
      rw [← d1] at d2'
      have ed : (zL κ 19 (sfN i j 1)) = f_q ν v (some (12 * j + i)) none (zD κ 11 (sfN i j 1)) := d2'
      rw [ec, zi_neg (by rw [ed]; omega), ed]
      exact ⟨⟨by omega, by omega⟩, f1, fun q => absurd q (by decide), fun _ => f2⟩
    · obtain ⟨f1, f2, f3⟩ := flow_bh (n := n) (k := 2) (by omega) hh n4 hhr hV n3 s0 (s1.1 (Or.inr rfl)) (n6 2 (by omega)) (n7.m hn) hi hj d1
      have ec : t_comes κ (sfN i j 2) 2 = zL κ 19 (sfN i j 2) := (if_neg (by decide)).trans (if_pos rfl)
      rw [ec, d2, ← d1]
      exact ⟨f3, f1, fun _ => f2, fun q => absurd q (by decide)⟩
    · obtain ⟨f1, f2, f3, f4⟩ := flow_bf (n := n) (k := 3) (by omega) hh n4 hhr hV n3 s0 (s1.2 (Or.inr rfl)) (n6 3 (by omega)) (n7.m hn) hi hj d1
      have ec : t_comes κ (sfN i j 3) 3 = -(zL κ 19 (sfN i j 3)) := (if_neg (by decide)).trans (if_neg (by decide))
      have d2' := d2
      rw [← d1] at d2'
      have ed : (zL κ 19 (sfN i j 3)) = f_q ν v (some (12 * j + i)) none (zD κ 11 (sfN i j 3)) := d2'
      rw [ec, zi_neg (by rw [ed]; omega), ed]
      exact ⟨⟨by omega, by omega⟩, f1, fun q => absurd q (by decide), fun _ => f2⟩
