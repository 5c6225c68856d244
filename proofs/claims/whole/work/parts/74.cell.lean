/-! warmth and salt of a cell through a step -/
def Bd (n : Nat) : Int := (((41943040 + n) * 2 ^ 1054 : Nat) : Int)
theorem Bd_rep {n : Nat} (hn : n < 2 ^ 20) : zRep (Bd n) := zRep_mk (41943040 + n) 1054 (by omega) (by decide)
theorem zU_P : zU = ((1048576 * 2 ^ 1054 : Nat) : Int) := by decide +kernel
theorem Bd_b {n : Nat} (hn : n < 2 ^ 20) : 40 * zU ≤ Bd n ∧ Bd n ≤ 128 * zU := by
  unfold Bd
  rw [zU_P]
  have h1 : 41943040 * 2 ^ 1054 ≤ (41943040 + n) * 2 ^ 1054 := Nat.mul_le_mul_right _ (by omega)
  have h2 : (41943040 + n) * 2 ^ 1054 ≤ 134217728 * 2 ^ 1054 := Nat.mul_le_mul_right _ (by omega)
  generalize (41943040 + n) * 2 ^ 1054 = X at *
  generalize 2 ^ 1054 = P at *
  omega
theorem Bd_s (n : Nat) : 2 ^ 20 * (Bd (n + 1) - Bd n) = zU := by
  unfold Bd
  rw [zU_P, show 41943040 + (n + 1) = (41943040 + n) + 1 by omega, Nat.succ_mul]
  generalize (41943040 + n) * 2 ^ 1054 = X at *
  generalize 2 ^ 1054 = P at *
  omega
theorem Bd_le {n m : Nat} (h : n ≤ m) : Bd n ≤ Bd m := by
  unfold Bd
  exact Int.ofNat_le.mpr (Nat.mul_le_mul_right _ (by omega))
def zBw (n : Nat) (x : UInt64) : Prop := zfi x ∧ zv x ≤ Bd n ∧ -Bd n ≤ zv x
theorem zHI_mk {A A' B w H R I : Int} {k k' : Nat} (hA : A ≤ A') (hA0 : 0 ≤ A) (hB : 0 ≤ B) (hk : k ≤ k') (h : zHI A B w H R I k) : zHI A' B w H R I k' := by
  obtain ⟨a, b, c, T, t1, t2, t3, t4⟩ := h
  have e1 : A * B ≤ A' * B := Int.mul_le_mul_of_nonneg_right hA hB
  have e0 : 0 ≤ A * B := Int.mul_nonneg hA0 hB
  have e2 : (k : Int) * (A * B) ≤ (k' : Int) * (A * B) := Int.mul_le_mul_of_nonneg_right (by omega) e0
  have e3 : (k' : Int) * (A * B) ≤ (k' : Int) * (A' * B) := Int.mul_le_mul_of_nonneg_left e1 (by omega)
  exact ⟨a, b, by omega, T, t1, t2, by omega, by omega⟩
/-- what one amount of warmth (or of salt) keeps through a step -/
def hI (V0 B w : Int) (V : Int64) (H : UInt64) (k c : Nat) : Prop := ∃ R I : Int, V.toInt = R + I ∧ zHI (V0 + I + 1) B w (zv H) R I k ∧ zfi H ∧ V0 - (c : Int) * (V0 / 8) ≤ R ∧ R ≤ V0 ∧ I ≤ (k : Int) * 2 ^ 58
def hOK (V0 B w : Int) : Prop := 0 ≤ V0 ∧ V0 < 2 ^ 61 ∧ zU ≤ B ∧ B ≤ 128 * zU ∧ w ≤ B ∧ -B ≤ w
theorem hOK.B {V0 B w : Int} (h : hOK V0 B w) {I : Int} (h0 : 0 ≤ I) (h1 : I < 2 ^ 63) : zHB (V0 + I + 1) B w := by
  obtain ⟨a, b, c, d, e, f⟩ := h
  exact ⟨by omega, by omega, c, d, e, f⟩
theorem hI.mo {V0 B w : Int} {V : Int64} {H : UInt64} {k c k' c' : Nat} (ok : hOK V0 B w) (h : hI V0 B w V H k c) (hk : k ≤ k') (hc : c ≤ c') : hI V0 B w V H k' c' := by
  obtain ⟨R, I, e, a, f, b, d, g⟩ := h
  obtain ⟨o1, o2, o3, o4, o5, o6⟩ := ok
  have hU := zU_pos
  have e1 : (c : Int) * (V0 / 8) ≤ (c' : Int) * (V0 / 8) := Int.mul_le_mul_of_nonneg_right (by omega) (by omega)
  have i0 : 0 ≤ I := a.2.1
  refine ⟨R, I, e, zHI_mk (Int.le_refl _) (by omega) (by omega) hk a, f, by omega, d, by omega⟩
theorem hfin {V0 B w : Int} {R I : Int} {x : UInt64} {k : Nat} (ok : hOK V0 B w) (h1 : I < 2 ^ 63) (hk : k ≤ 100) (hi : zHI (V0 + I + 1) B w (zv x) R I k) (hn : FP.Core.val64 x ≠ .nan) : zfi x := by
  obtain ⟨a1, a2⟩ := zHI_sz (ok.B hi.2.1 h1) hk hi
  obtain ⟨o1, o2, o3, o4, o5, o6⟩ := ok
  have i0 : 0 ≤ I := hi.2.1
  have hU := zU_pos
  have m1 : (V0 + I + 1) * B ≤ (V0 + I + 1) * (128 * zU) := Int.mul_le_mul_of_nonneg_left o4 (by omega)
  have m2 : (V0 + I + 1) * (128 * zU) ≤ 2 ^ 64 * (128 * zU) := Int.mul_le_mul_of_nonneg_right (by omega) (by omega)
  refine zfi_of hn (V := ((1 : Int) * 2 ^ 80) * zU) (W := -(((1 : Int) * 2 ^ 80) * zU)) (zRk 1 80 (by decide) (by decide) rfl) (zRkm 1 80 (by decide) (by decide) rfl) ?_ ?_ <;> omega
theorem l2d_b {q : Int64} (h0 : 0 ≤ q.toInt) : 0 ≤ zv (FP.l2d q) ∧ zv (FP.l2d q) ≤ ((1 : Int) * 2 ^ 63) * zU := by
  have h1 := Int64.toInt_lt q
  have hU := zU_pos
  have hm : 0 ≤ q.toInt * zU := Int.mul_nonneg h0 (by omega)
  have hm2 : q.toInt * zU ≤ 2 ^ 63 * zU := Int.mul_le_mul_of_nonneg_right (by omega) (by omega)
  exact ⟨((zRd_l2d q) 0 zRep_0).2 (by omega), ((zRd_l2d q) (((1 : Int) * 2 ^ 63) * zU) (zRk 1 63 (by decide) (by decide) rfl)).1 (by omega)⟩
theorem hmul {q : Int64} {v : UInt64} {B : Int} (h0 : 0 ≤ q.toInt) (hv : zfi v) (hB : B ≤ 128 * zU) (v1 : zv v ≤ B) (v2 : -B ≤ zv v) : zfi (zmul (FP.l2d q) v) ∧ zRd (zv (FP.l2d q) * zv v) zU (zv (zmul (FP.l2d q) v)) := by
  obtain ⟨l0, l1⟩ := l2d_b h0
  have hU := zU_pos
  obtain ⟨m1, m2⟩ := zabs_mul (a := zv (FP.l2d q)) (b := zv v) (A := ((1 : Int) * 2 ^ 63) * zU) (B := 128 * zU) l1 (by omega) (by omega) (by omega)
  have e : ((1 : Int) * 2 ^ 63) * zU * (128 * zU) = ((1 : Int) * 2 ^ 70) * zU * zU := by
    generalize zU = u
    rw [show ((1 : Int) * 2 ^ 70) = ((1 : Int) * 2 ^ 63) * 128 by decide]
    ac_rfl
  exact ⟨(zB_mul (zfi_l2d q) hv (V := ((1 : Int) * 2 ^ 70) * zU) (W := -(((1 : Int) * 2 ^ 70) * zU)) (zRk 1 70 (by decide) (by decide) rfl) (zRkm 1 70 (by decide) (by decide) rfl) (by omega) (by rw [Int.neg_mul]; omega)).1, (zRd_mul (zfi_l2d q) hv).1⟩
theorem hI_0 {V0 : Int64} {B : Int} {v : UInt64} (hv : zfi v) (ok : hOK V0.toInt B (zv v)) : hI V0.toInt B (zv v) V0 (zmul v (FP.l2d V0)) 1 0 := by
  obtain ⟨o1, o2, o3, o4, o5, o6⟩ := id ok
  obtain ⟨m1, m2⟩ := hmul (q := V0) o1 hv o4 o5 o6
  have hz := zHI_0 (ok.B (I := 0) (by omega) (by omega)) o1 (by omega) (zRd_l2d V0) m2
  rw [zmul_cm]
  exact ⟨V0.toInt, 0, by omega, hz, m1, by omega, by omega, by omega⟩
theorem hI_in {V0 B w : Int} {V n : Int64} {H v : UInt64} {k c : Nat} (ok : hOK V0 B w) (hk : k ≤ 10) (h : hI V0 B w V H k c) (n0 : 0 ≤ n.toInt) (n1 : n.toInt ≤ 2 ^ 58) (hv : zfi v) (v1 : zv v ≤ B) (v2 : -B ≤ zv v) : hI V0 B w (V + n) (zadd H (zmul (FP.l2d n) v)) (k + 1) c ∧ (V + n).toInt = V.toInt + n.toInt := by
  obtain ⟨R, I, e, a, f, b, d, g⟩ := h
  obtain ⟨o1, o2, o3, o4, o5, o6⟩ := id ok
  have hU := zU_pos
  have i0 : 0 ≤ I := a.2.1
  have r0 : 0 ≤ R := a.1
  have eV : (V + n).toInt = V.toInt + n.toInt := zi_add (by omega) (by omega)
  obtain ⟨m1, m2⟩ := hmul (q := n) n0 hv o4 v1 v2
  obtain ⟨s1, s2⟩ := zRd_add f m1
  have a' := zHI_mk (A' := V0 + (I + n.toInt) + 1) (by omega) (by omega) (by omega) (Nat.le_refl k) a
  have hz := zHI_in (ok.B (I := I + n.toInt) (by omega) (by omega)) (by omega) a' n0 (by omega) v1 v2 (zRd_l2d n) m2 s1
  exact ⟨⟨R, I + n.toInt, by omega, hz, hfin ok (by omega) (by omega) hz s2, b, d, by omega⟩, eV⟩
theorem hI_out {V0 B : Int} {V n : Int64} {H v : UInt64} {k c : Nat} (ok : hOK V0 B (zv v)) (hk : k ≤ 10) (hc : c < 8) (h : hI V0 B (zv v) V H k c) (n0 : n.toInt ≤ 0) (n1 : -(V0 / 8) ≤ n.toInt) (hv : zfi v) : hI V0 B (zv v) (V + n) (zsub H (zmul (FP.l2d (-n)) v)) (k + 1) (c + 1) ∧ (V + n).toInt = V.toInt + n.toInt := by
  obtain ⟨R, I, e, a, f, b, d, g⟩ := h
  obtain ⟨o1, o2, o3, o4, o5, o6⟩ := id ok
  have hU := zU_pos
  have i0 : 0 ≤ I := a.2.1
  have r0 : 0 ≤ R := a.1
  have en : (-n).toInt = -n.toInt := zi_neg (by omega)
  have e8 : ((c + 1 : Nat) : Int) * (V0 / 8) ≤ 8 * (V0 / 8) := Int.mul_le_mul_of_nonneg_right (by omega) (by omega)
  have e9 : ((c + 1 : Nat) : Int) * (V0 / 8) = (c : Int) * (V0 / 8) + V0 / 8 := by
    rw [Int.natCast_add, Int.add_mul]
    omega
  have eV : (V + n).toInt = V.toInt + n.toInt := zi_add (by omega) (by omega)
  obtain ⟨m1, m2⟩ := hmul (q := -n) (by omega) hv o4 o5 o6
  obtain ⟨s1, s2⟩ := zRd_sub f m1
  have hz := zHI_out (ok.B (I := I) (by omega) (by omega)) (by omega) a (q := (-n).toInt) (by omega) (by omega) (zRd_l2d (-n)) m2 s1
  exact ⟨⟨R - (-n).toInt, I, by omega, hz, hfin ok (by omega) (by omega) hz s2, by omega, by omega, by omega⟩, eV⟩
theorem hI_end {V0 : Int} {n : Nat} {w : Int} {V : Int64} {H : UInt64} {k c : Nat} (hn : n + 1 < 2 ^ 20) (ok : hOK V0 (Bd n) w) (hk : k ≤ 20) (hc : c ≤ 4) (h : hI V0 (Bd n) w V H k c) (hp : 0 < V) : zBw (n + 1) (zdiv H (FP.l2d V)) := by
  obtain ⟨R, I, e, a, f, b, d, g⟩ := h
  obtain ⟨o1, o2, o3, o4, o5, o6⟩ := id ok
  have hU := zU_pos
  have i0 : 0 ≤ I := a.2.1
  have r0 : 0 ≤ R := a.1
  rw [zi_lt, zi_0] at hp
  have e8 : (c : Int) * (V0 / 8) ≤ 4 * (V0 / 8) := Int.mul_le_mul_of_nonneg_right (by omega) (by omega)
  have hD : zU ≤ zv (FP.l2d V) := by
    have hm : 1 * zU ≤ V.toInt * zU := Int.mul_le_mul_of_nonneg_right (by omega) (by omega)
    have hr : zRep zU := zRn 1 (by decide) (by omega)
    exact ((zRd_l2d V) zU hr).2 (by omega)
  obtain ⟨q1, q2⟩ := zRd_div f (zfi_l2d V) (by omega)
  have l := zRd_l2d V
  rw [e] at l
  have hs := Bd_s n
  have hb := Bd_b (n := n + 1) hn
  obtain ⟨z1, z2, z3⟩ := zHI_end (B' := Bd (n + 1)) (ok.B (I := I) i0 (by omega)) hk a (by omega) (by omega) l q1 (Bd_rep hn) (by omega) (by omega)
  exact ⟨zfi_of q2 (Bd_rep hn) (zRep_neg (Bd_rep hn)) z2 z3, z2, z3⟩
