theorem zneg_iff (x : Int64) : x < 0 ↔ x.toBitVec.msb = true := by
  rw [Int64.lt_iff_toInt_lt, BitVec.msb_eq_toInt, decide_eq_true_eq]
  exact Iff.rfl
theorem zxor24 (x : Int64) : (x ^^^ 24) < 0 ↔ x < 0 := by
  rw [zneg_iff, zneg_iff, Int64.toBitVec_xor, BitVec.msb_xor, show (24 : Int64).toBitVec.msb = false by decide, Bool.xor_false]
theorem zrem24 (x : Int64) : ∃ d r : Int, x.toInt = d * 24 + r ∧ (x - x / 24 * 24).toInt = r ∧ (0 ≤ x.toInt → 0 ≤ r ∧ r < 24) ∧ (x.toInt < 0 → -24 < r ∧ r ≤ 0) := by
  have e24 : (24 : Int64).toInt = 24 := by decide
  have hd : (x / 24).toInt = x.toInt.tdiv 24 := by rw [Int64.toInt_div_of_ne_right x 24 (by decide), e24]
  have l1 := Int64.toInt_lt x
  have l2 := Int64.le_toInt x
  have key : (0 ≤ x.toInt → x.toInt.tdiv 24 = x.toInt / 24) ∧ (x.toInt < 0 → x.toInt.tdiv 24 = -((-x.toInt) / 24)) := by
    constructor
    · intro h
      exact Int.tdiv_eq_ediv_of_nonneg h
    · intro h
      rw [← Int.tdiv_eq_ediv_of_nonneg (show 0 ≤ -x.toInt by omega), Int.neg_tdiv, Int.neg_neg]
  have hm : (x / 24 * 24).toInt = x.toInt.tdiv 24 * 24 := by
    rw [FP.Core.int64_mul (by rw [hd, e24]; by_cases h : 0 ≤ x.toInt; · rw [key.1 h]; omega
                              · rw [key.2 (by omega)]; omega) (by rw [hd, e24]; by_cases h : 0 ≤ x.toInt; · rw [key.1 h]; omega
                                                                  · rw [key.2 (by omega)]; omega), hd, e24]
  have hs : (x - x / 24 * 24).toInt = x.toInt - x.toInt.tdiv 24 * 24 := by
    rw [FP.Core.int64_sub (by rw [hm]; by_cases h : 0 ≤ x.toInt; · rw [key.1 h]; omega
                              · rw [key.2 (by omega)]; omega) (by rw [hm]; by_cases h : 0 ≤ x.toInt; · rw [key.1 h]; omega
                                                                  · rw [key.2 (by omega)]; omega), hm]
  refine ⟨x.toInt.tdiv 24, x.toInt - x.toInt.tdiv 24 * 24, by omega, hs, fun h => ?_, fun h => ?_⟩
  · rw [key.1 h]; omega
  · rw [key.2 h]; omega
theorem zl2i {x : Int64} {r : Nat} (hr : r < 2 ^ 31) (h : x.toInt = (r : Int)) : x.toInt32 = nI r := by
  have e : x = lN r := by
    apply Int64.toInt_inj.mp
    rw [h, lN_toInt hr]
  rw [e, lN_i]
/-- the hour of the day is one of 24, whatever the time -/
theorem zhour (x : Int64) : ∃ r, r < 24 ∧ (s_fmod x 24).toInt32 = nI r := by
  obtain ⟨d, r, h1, h2, h3, h4⟩ := zrem24 x
  unfold s_fmod
  by_cases hx : x < 0
  · rw [if_pos ((zxor24 x).mpr hx)]
    have hx' : x.toInt < 0 := by rw [Int64.lt_iff_toInt_lt] at hx; exact hx
    by_cases h0 : x - x / 24 * 24 = 0
    · rw [if_pos h0, h0]
      exact ⟨0, by decide, by decide⟩
    · rw [if_neg h0]
      have hr0 : r ≠ 0 := fun q => h0 (Int64.toInt_inj.mp (by rw [h2, q]; decide))
      have hb := h4 hx'
      have e : (x - x / 24 * 24 + 24).toInt = r + 24 := by
        have e24 : (24 : Int64).toInt = 24 := by decide
        rw [FP.Core.int64_add (by rw [h2, e24]; omega) (by rw [h2, e24]; omega), h2, e24]
      refine ⟨(r + 24).toNat, by omega, zl2i (by omega) ?_⟩
      rw [e]
      omega
  · rw [if_neg (fun q => hx ((zxor24 x).mp q))]
    have hx' : 0 ≤ x.toInt := by
      rw [Int64.lt_iff_toInt_lt] at hx
      have e0 : (0 : Int64).toInt = 0 := by decide
      rw [e0] at hx
      omega
    have hb := h3 hx'
    exact ⟨r.toNat, by omega, zl2i (by omega) (by rw [h2]; omega)⟩
