/-! numbers: a double's value as a whole number of the least ones -/
def zv (x : UInt64) : Int := FP.Core.zval FP.Core.b64 (FP.Core.val64 x)
def zU : Int := ((2 ^ 1074 : Nat) : Int)
theorem zU_pos : 0 < zU := by
  unfold zU
  exact Int.ofNat_lt.mpr (Nat.two_pow_pos 1074)
def zfi (x : UInt64) : Prop := FP.Core.DFin x
/-- a whole number that some finite double has for its value -/
def zRep (V : Int) : Prop := ∃ (s : Bool) (c : Nat) (q : Int), FP.Core.fits FP.Core.b64 (.fin s c q) ∧ FP.Core.zval FP.Core.b64 (.fin s c q) = V
/-- r is E / P rounded -/
def zRd (E P r : Int) : Prop := ∀ V, zRep V → (E ≤ V * P → r ≤ V) ∧ (V * P ≤ E → V ≤ r)
theorem zRep_neg {V : Int} (h : zRep V) : zRep (-V) := by
  obtain ⟨s, c, q, h1, h2⟩ := h
  refine ⟨!s, c, q, FP.Core.negate_fits (d := .fin s c q) h1, ?_⟩
  rw [← h2, ← FP.Core.zval_negate]
  rfl
theorem zRep_zv {x : UInt64} (h : zfi x) : zRep (zv x) := by
  obtain ⟨s, c, q, h⟩ := h
  exact ⟨s, c, q, by rw [← h]; exact FP.Core.val64_fits x, by unfold zv; rw [h]⟩
theorem zRep_mk (n k : Nat) (hn : n < 2 ^ 53) (hk : k ≤ 2045) : zRep ((n * 2 ^ k : Nat) : Int) := by
  have hq : FP.Core.b64.qmin = -1074 := FP.Core.qmin_b64
  have hm : FP.Core.b64.qmax = 971 := by decide +kernel
  obtain ⟨c, q, h1, h2⟩ := FP.Core.round_exact (f := FP.Core.b64) FP.Core.good_b64 false (c := n) (q := -1074 + (k : Int)) hn (by omega) (by omega)
  refine ⟨false, c, q, by rw [← h1]; exact FP.Core.round_fits FP.Core.good_b64 _, ?_⟩
  show FP.Core.signed false (FP.Core.inUnits c q FP.Core.b64.qmin) = _
  rw [h2, hq]
  unfold FP.Core.inUnits
  rw [show (-1074 + (k : Int) - -1074).toNat = k by omega]
  rfl
theorem zRep_0 : zRep 0 := zRep_mk 0 0 (by decide) (by decide)
theorem zRep_n (n : Nat) (hn : n < 2 ^ 53) : zRep ((n : Int) * zU) := by
  have := zRep_mk n 1074 hn (by decide)
  rw [Int.natCast_mul] at this
  exact this
/-- infinity's -/
def zTop : Int := ((FP.Core.b64.tails * 2 ^ (FP.Core.b64.exps - 2) : Nat) : Int)
theorem zRep_top {V : Int} (h : zRep V) : V < zTop := by
  obtain ⟨s, c, q, h1, rfl⟩ := h
  have h2 := FP.Core.zmag_lt_top FP.Core.good_b64 h1
  unfold zTop
  cases s
  · show ((FP.Core.inUnits c q FP.Core.b64.qmin : Nat) : Int) < _
    exact Int.ofNat_lt.mpr h2
  · show -((FP.Core.inUnits c q FP.Core.b64.qmin : Nat) : Int) < _
    omega
/-- a value below that of infinity -/
theorem zfi_of {x : UInt64} {V W : Int} (hn : FP.Core.val64 x ≠ .nan) (hV : zRep V) (hW : zRep W) (h1 : zv x ≤ V) (h2 : W ≤ zv x) : zfi x := by
  unfold zfi FP.Core.DFin
  cases hx : FP.Core.val64 x with
  | nan => exact absurd hx hn
  | inf s =>
    exfalso
    have a1 := zRep_top hV
    have a2 := zRep_top (zRep_neg hW)
    unfold zv at h1 h2
    rw [hx] at h1 h2
    cases s
    · have : FP.Core.zval FP.Core.b64 (.inf false) = zTop := rfl
      rw [this] at h1
      omega
    · have : FP.Core.zval FP.Core.b64 (.inf true) = -zTop := rfl
      rw [this] at h2
      omega
  | fin s c q => exact ⟨s, c, q, rfl⟩
theorem zfi_nn {x : UInt64} (h : zfi x) : FP.Core.val64 x ≠ .nan := FP.Core.DFin.ne_nan h
/-- the operations, rounded -/
theorem zv_cn (x : UInt64) : zv (zcn x) = zv x := by
  unfold zv
  rw [zval_cn]
theorem znn_cn {x : UInt64} (h : FP.Core.val64 x ≠ .nan) : FP.Core.val64 (zcn x) ≠ .nan := by
  rw [zval_cn]
  exact h
theorem zRd_sum {X Y : FP.Core.Datum} (hX : ∃ s c q, X = .fin s c q) (hY : ∃ s c q, Y = .fin s c q) (fX : FP.Core.fits FP.Core.b64 X) (fY : FP.Core.fits FP.Core.b64 Y) : zRd (FP.Core.zval FP.Core.b64 X + FP.Core.zval FP.Core.b64 Y) 1 (FP.Core.zval FP.Core.b64 (FP.Core.round FP.Core.b64 (FP.Core.exactSum X Y))) := by
  intro V hV
  obtain ⟨s, c, q, h1, rfl⟩ := hV
  rw [Int.mul_one]
  exact ⟨fun h => FP.Core.sum_le FP.Core.good_b64 hX hY fX fY h1 (by simp) h, fun h => FP.Core.sum_ge FP.Core.good_b64 hX hY fX fY h1 (by simp) h⟩
theorem zRd_add {a b : UInt64} (ha : zfi a) (hb : zfi b) : zRd (zv a + zv b) 1 (zv (zadd a b)) ∧ FP.Core.val64 (zadd a b) ≠ .nan := by
  unfold zadd
  rw [zv_cn]
  refine ⟨?_, znn_cn ((FP.Core.notNaN_iff _).mp (FP.Core.dadd_out (FP.Core.DFin.notNaN ha) hb))⟩
  unfold zv
  rw [FP.Core.val64_dadd]
  exact zRd_sum ha hb (FP.Core.val64_fits a) (FP.Core.val64_fits b)
theorem zfin_neg {b : UInt64} (hb : zfi b) : ∃ s c q, FP.Core.negate (FP.Core.val64 b) = .fin s c q := by
  obtain ⟨s, c, q, h⟩ := hb
  exact ⟨!s, c, q, by rw [h]; rfl⟩
theorem zRd_sub {a b : UInt64} (ha : zfi a) (hb : zfi b) : zRd (zv a - zv b) 1 (zv (zsub a b)) ∧ FP.Core.val64 (zsub a b) ≠ .nan := by
  unfold zsub
  rw [zv_cn]
  refine ⟨?_, znn_cn ((FP.Core.notNaN_iff _).mp (FP.Core.dsub_out (FP.Core.DFin.notNaN ha) hb))⟩
  unfold zv
  rw [FP.Core.val64_dsub, Int.sub_eq_add_neg, ← FP.Core.zval_negate]
  exact zRd_sum ha (zfin_neg hb) (FP.Core.val64_fits a) (FP.Core.negate_fits (FP.Core.val64_fits b))
theorem zRd_mul {a b : UInt64} (ha : zfi a) (hb : zfi b) : zRd (zv a * zv b) zU (zv (zmul a b)) ∧ FP.Core.val64 (zmul a b) ≠ .nan := by
  unfold zmul
  rw [zv_cn]
  refine ⟨?_, znn_cn ((FP.Core.notNaN_iff _).mp (FP.Core.dmul_out ha hb))⟩
  obtain ⟨s, c, q, h1⟩ := ha
  obtain ⟨t, d, r, h2⟩ := hb
  have f1 := FP.Core.val64_fits a
  have f2 := FP.Core.val64_fits b
  unfold zv
  rw [FP.Core.val64_dmul, h1, h2]
  rw [h1] at f1
  rw [h2] at f2
  obtain ⟨e1, e2, e3⟩ := FP.Core.product_units f1 f2
  rw [e1]
  have hP : (FP.Core.b64.qmin - 2 * FP.Core.b64.qmin).toNat = 1074 := by decide +kernel
  have hE : FP.Core.zval FP.Core.b64 (.fin s c q) * FP.Core.zval FP.Core.b64 (.fin t d r) = FP.Core.signed (s != t) (FP.Core.inUnits (c * d) (q + r) (2 * FP.Core.b64.qmin)) := by
    rw [e3, FP.Core.signed_xor]
    rfl
  have hq : 2 * FP.Core.b64.qmin ≤ FP.Core.b64.qmin := by decide +kernel
  intro V hV
  obtain ⟨s', c', q', g1, rfl⟩ := hV
  rw [hE]
  refine ⟨fun h => FP.Core.zval_round_le FP.Core.good_b64 (e0 := 2 * FP.Core.b64.qmin) g1 (by simp) hq e2 ?_, fun h => FP.Core.zval_round_ge FP.Core.good_b64 (e0 := 2 * FP.Core.b64.qmin) g1 (by simp) hq e2 ?_⟩
  · rw [hP]
    exact h
  · rw [hP]
    exact h
theorem zRd_l2d (v : Int64) : zRd (v.toInt * zU) 1 (zv (FP.l2d v)) := by
  unfold zv
  rw [FP.Core.val64_l2d]
  have hq : FP.Core.b64.qmin ≤ 0 := by decide +kernel
  have hE : v.toInt * zU = FP.Core.signed (decide (v.toInt < 0)) (FP.Core.inUnits v.toInt.natAbs 0 FP.Core.b64.qmin) := by
    have hP : ((0 : Int) - FP.Core.b64.qmin).toNat = 1074 := by decide +kernel
    unfold FP.Core.inUnits zU
    rw [FP.Core.signed_mul, hP]
    congr 1
    unfold FP.Core.signed
    by_cases h : v.toInt < 0
    · rw [if_pos (by simpa using h)]
      omega
    · rw [if_neg (by simpa using h)]
      omega
  intro V hV
  obtain ⟨s', c', q', g1, rfl⟩ := hV
  rw [hE, Int.mul_one]
  have hz : (FP.Core.b64.qmin - FP.Core.b64.qmin).toNat = 0 := by rw [Int.sub_self]; rfl
  refine ⟨fun h => FP.Core.zval_round_le FP.Core.good_b64 (e0 := FP.Core.b64.qmin) g1 (by simp) (Int.le_refl _) hq ?_, fun h => FP.Core.zval_round_ge FP.Core.good_b64 (e0 := FP.Core.b64.qmin) g1 (by simp) (Int.le_refl _) hq ?_⟩
  · rw [hz]
    show _ ≤ _ * ((1 : Nat) : Int)
    omega
  · rw [hz]
    show _ * ((1 : Nat) : Int) ≤ _
    omega
theorem zfi_l2d (v : Int64) : zfi (FP.l2d v) := FP.Core.l2d_fin v
