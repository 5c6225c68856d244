theorem zRd_neg {E P r : Int} (h : zRd E P r) : zRd (-E) P (-r) := by
  intro V hV
  obtain ⟨h1, h2⟩ := h (-V) (zRep_neg hV)
  rw [Int.neg_mul] at h1 h2
  exact ⟨fun q => by have := h2 (by omega); omega, fun q => by have := h1 (by omega); omega⟩
/-- division by what is above 0 -/
theorem zquo_le {c d α β n V : Nat} (h : c * 2 ^ α * 2 ^ 1074 ≤ V * (d * 2 ^ β)) {k : Nat} (hk : k + β = α + 1074 + n) : c * 2 ^ k ≤ V * 2 ^ n * d := by
  have h1 : c * 2 ^ α * 2 ^ 1074 * 2 ^ n ≤ V * (d * 2 ^ β) * 2 ^ n := Nat.mul_le_mul_right _ h
  have e1 : c * 2 ^ α * 2 ^ 1074 * 2 ^ n = c * 2 ^ k * 2 ^ β := by
    rw [Nat.mul_assoc, Nat.mul_assoc, Nat.mul_assoc, ← Nat.pow_add, ← Nat.pow_add, ← Nat.pow_add, hk]
    congr 2
    omega
  have e2 : V * (d * 2 ^ β) * 2 ^ n = V * 2 ^ n * d * 2 ^ β := by ac_rfl
  rw [e1, e2] at h1
  exact Nat.le_of_mul_le_mul_right h1 (Nat.two_pow_pos β)
theorem zquo_ge {c d α β n V : Nat} (h : V * (d * 2 ^ β) ≤ c * 2 ^ α * 2 ^ 1074) {k : Nat} (hk : k + β = α + 1074 + n) : V * 2 ^ n * d ≤ c * 2 ^ k := by
  have h1 : V * (d * 2 ^ β) * 2 ^ n ≤ c * 2 ^ α * 2 ^ 1074 * 2 ^ n := Nat.mul_le_mul_right _ h
  have e1 : c * 2 ^ α * 2 ^ 1074 * 2 ^ n = c * 2 ^ k * 2 ^ β := by
    rw [Nat.mul_assoc, Nat.mul_assoc, Nat.mul_assoc, ← Nat.pow_add, ← Nat.pow_add, ← Nat.pow_add, hk]
    congr 2
    omega
  have e2 : V * (d * 2 ^ β) * 2 ^ n = V * 2 ^ n * d * 2 ^ β := by ac_rfl
  rw [e1, e2] at h1
  exact Nat.le_of_mul_le_mul_right h1 (Nat.two_pow_pos β)
theorem zv_sgn {s : Bool} {c : Nat} {q : Int} : FP.Core.zval FP.Core.b64 (.fin s c q) = FP.Core.signed s (c * 2 ^ (q - FP.Core.b64.qmin).toNat) := rfl
theorem zRd_div {a b : UInt64} (ha : zfi a) (hb : zfi b) (h0 : 0 < zv b) : zRd (zv a * zU) (zv b) (zv (zdiv a b)) ∧ FP.Core.val64 (zdiv a b) ≠ .nan := by
  obtain ⟨s, c, q, h1⟩ := ha
  obtain ⟨t, d, r, h2⟩ := hb
  have f1 := FP.Core.val64_fits a
  have f2 := FP.Core.val64_fits b
  rw [h1] at f1
  rw [h2] at f2
  have hqm : FP.Core.b64.qmin = -1074 := FP.Core.qmin_b64
  have g1 := f1.2.1
  have g2 := f2.2.1
  rw [hqm] at g1 g2
  have hb : zv b = FP.Core.signed t (d * 2 ^ (r - FP.Core.b64.qmin).toNat) := by unfold zv; rw [h2, zv_sgn]
  have hza : zv a = FP.Core.signed s (c * 2 ^ (q - FP.Core.b64.qmin).toNat) := by unfold zv; rw [h1, zv_sgn]
  have ht : t = false := by
    cases t
    · rfl
    · rw [hb] at h0
      unfold FP.Core.signed at h0
      rw [if_pos rfl] at h0
      omega
  subst ht
  have hb' : zv b = ((d * 2 ^ (r - FP.Core.b64.qmin).toNat : Nat) : Int) := hb
  have hd : ¬ d = 0 := by
    intro e
    rw [hb', e, Nat.zero_mul] at h0
    exact absurd h0 (by decide)
  have hdp : 0 < d := by omega
  have hR : FP.Core.val64 (FP.ddiv a b) = FP.Core.roundRatio FP.Core.b64 (s != false) c d (q - r) := by
    rw [FP.Core.val64_ddiv, h1, h2]
    show (if d = 0 then _ else _) = _
    rw [if_neg hd]
  have hs : (s != false) = s := by cases s <;> rfl
  rw [hs] at hR
  have hnn : FP.Core.val64 (FP.ddiv a b) ≠ .nan := by rw [hR]; exact FP.Core.roundRatio_ne_nan _ _ _ _ _
  refine ⟨?_, by unfold zdiv; exact znn_cn hnn⟩
  have hzr : zv (zdiv a b) = FP.Core.signed s (FP.Core.zmag FP.Core.b64 (FP.Core.roundRatio FP.Core.b64 s c d (q - r))) := by
    unfold zdiv
    rw [zv_cn]
    unfold zv
    rw [hR]
    unfold FP.Core.zval
    rw [FP.Core.sgn_roundRatio]
  rw [hzr, hza, hb']
  obtain ⟨α, hα⟩ : ∃ α : Nat, α = (q - FP.Core.b64.qmin).toNat := ⟨_, rfl⟩
  obtain ⟨β, hβ⟩ : ∃ β : Nat, β = (r - FP.Core.b64.qmin).toNat := ⟨_, rfl⟩
  obtain ⟨n, hn⟩ : ∃ n : Nat, n = (FP.Core.b64.qmin - min FP.Core.b64.qmin (q - r)).toNat := ⟨_, rfl⟩
  obtain ⟨k, hk⟩ : ∃ k : Nat, k = (q - r - min FP.Core.b64.qmin (q - r)).toNat := ⟨_, rfl⟩
  have hkk : k + β = α + 1074 + n := by
    rw [hk, hβ, hα, hn, hqm]
    omega
  have he1 : min FP.Core.b64.qmin (q - r) ≤ FP.Core.b64.qmin := Int.min_le_left _ _
  have he2 : min FP.Core.b64.qmin (q - r) ≤ q - r := Int.min_le_right _ _
  rw [← hα, ← hβ]
  intro V hV
  obtain ⟨s', c', q', k1, rfl⟩ := hV
  have A1 : c * 2 ^ α * 2 ^ 1074 ≤ FP.Core.zmag FP.Core.b64 (.fin s' c' q') * (d * 2 ^ β) → FP.Core.zmag FP.Core.b64 (FP.Core.roundRatio FP.Core.b64 s c d (q - r)) ≤ FP.Core.zmag FP.Core.b64 (.fin s' c' q') := by
    intro h
    refine FP.Core.zmag_roundRatio_le FP.Core.good_b64 (e0 := min FP.Core.b64.qmin (q - r)) hdp k1 (by simp) he1 he2 ?_
    rw [← hn]
    unfold FP.Core.inUnits
    rw [← hk]
    exact zquo_le h hkk
  have A2 : FP.Core.zmag FP.Core.b64 (.fin s' c' q') * (d * 2 ^ β) ≤ c * 2 ^ α * 2 ^ 1074 → FP.Core.zmag FP.Core.b64 (.fin s' c' q') ≤ FP.Core.zmag FP.Core.b64 (FP.Core.roundRatio FP.Core.b64 s c d (q - r)) := by
    intro h
    refine FP.Core.zmag_roundRatio_ge FP.Core.good_b64 (e0 := min FP.Core.b64.qmin (q - r)) hdp k1 he1 he2 ?_
    rw [← hn]
    unfold FP.Core.inUnits
    rw [← hk]
    exact zquo_ge h hkk
  have hdb : 0 < d * 2 ^ β := Nat.mul_pos hdp (Nat.two_pow_pos _)
  have hzV : FP.Core.zval FP.Core.b64 (.fin s' c' q') = FP.Core.signed s' (FP.Core.zmag FP.Core.b64 (.fin s' c' q')) := rfl
  rw [hzV]
  unfold zU
  rw [← FP.Core.signed_mul, ← FP.Core.signed_mul]
  generalize FP.Core.zmag FP.Core.b64 (FP.Core.roundRatio FP.Core.b64 s c d (q - r)) = zr at *
  generalize FP.Core.zmag FP.Core.b64 (.fin s' c' q') = vm at *
  generalize c * 2 ^ α * 2 ^ 1074 = ca at *
  generalize d * 2 ^ β = db at *
  have hz : vm * db = 0 → vm = 0 := by
    intro h
    rcases Nat.mul_eq_zero.mp h with h | h <;> omega
  have hz2 : vm = 0 → vm * db = 0 := by
    intro h
    rw [h, Nat.zero_mul]
  generalize vm * db = vd at *
  unfold FP.Core.signed
  cases s <;> cases s' <;> simp only [if_true, Bool.false_eq_true, if_false]
  · exact ⟨fun h => by have := A1 (by omega); omega, fun h => by have := A2 (by omega); omega⟩
  · exact ⟨fun h => by have := A1 (by omega); have := hz (by omega); omega, fun h => by omega⟩
  · exact ⟨fun h => by omega, fun h => by have := A1 (by omega); have := hz (by omega); omega⟩
  · exact ⟨fun h => by have := A2 (by omega); omega, fun h => by have := A1 (by omega); omega⟩
/-- bounds of the results -/
theorem zB_add {a b : UInt64} (ha : zfi a) (hb : zfi b) {V W : Int} (hV : zRep V) (hW : zRep W) (h1 : zv a + zv b ≤ V) (h2 : W ≤ zv a + zv b) : zfi (zadd a b) ∧ zv (zadd a b) ≤ V ∧ W ≤ zv (zadd a b) := by
  obtain ⟨h3, h4⟩ := zRd_add ha hb
  have a1 := (h3 V hV).1 (by omega)
  have a2 := (h3 W hW).2 (by omega)
  exact ⟨zfi_of h4 hV hW a1 a2, a1, a2⟩
theorem zB_sub {a b : UInt64} (ha : zfi a) (hb : zfi b) {V W : Int} (hV : zRep V) (hW : zRep W) (h1 : zv a - zv b ≤ V) (h2 : W ≤ zv a - zv b) : zfi (zsub a b) ∧ zv (zsub a b) ≤ V ∧ W ≤ zv (zsub a b) := by
  obtain ⟨h3, h4⟩ := zRd_sub ha hb
  have a1 := (h3 V hV).1 (by omega)
  have a2 := (h3 W hW).2 (by omega)
  exact ⟨zfi_of h4 hV hW a1 a2, a1, a2⟩
theorem zB_mul {a b : UInt64} (ha : zfi a) (hb : zfi b) {V W : Int} (hV : zRep V) (hW : zRep W) (h1 : zv a * zv b ≤ V * zU) (h2 : W * zU ≤ zv a * zv b) : zfi (zmul a b) ∧ zv (zmul a b) ≤ V ∧ W ≤ zv (zmul a b) := by
  obtain ⟨h3, h4⟩ := zRd_mul ha hb
  have a1 := (h3 V hV).1 h1
  have a2 := (h3 W hW).2 h2
  exact ⟨zfi_of h4 hV hW a1 a2, a1, a2⟩
theorem zB_div {a b : UInt64} (ha : zfi a) (hb : zfi b) (h0 : 0 < zv b) {V W : Int} (hV : zRep V) (hW : zRep W) (h1 : zv a * zU ≤ V * zv b) (h2 : W * zv b ≤ zv a * zU) : zfi (zdiv a b) ∧ zv (zdiv a b) ≤ V ∧ W ≤ zv (zdiv a b) := by
  obtain ⟨h3, h4⟩ := zRd_div ha hb h0
  have a1 := (h3 V hV).1 h1
  have a2 := (h3 W hW).2 h2
  exact ⟨zfi_of h4 hV hW a1 a2, a1, a2⟩
/-- the error of a rounding -/
theorem zRd_err0 {E P r : Int} (hP : 0 < P) (h : zRd E P r) (h0 : 0 ≤ E) (hE : E < 2 ^ 1900 * P) : r * P - E ≤ E / 2 ^ 52 + P ∧ E - r * P ≤ E / 2 ^ 52 + P := by
  obtain ⟨N, hN⟩ : ∃ N : Nat, (N : Int) = E / P := ⟨(E / P).toNat, Int.toNat_of_nonneg (Int.ediv_nonneg h0 (Int.le_of_lt hP))⟩
  have n1 : (N : Int) * P ≤ E := by rw [hN]; exact Int.ediv_mul_le E (Int.ne_of_gt hP)
  have n2 : E < ((N : Int) + 1) * P := by
    rw [hN]
    have := Int.lt_ediv_add_one_mul_self E hP
    exact this
  have n3 : N < 2 ^ 1900 := by
    have h1 : (N : Int) * P < 2 ^ 1900 * P := Int.lt_of_le_of_lt n1 hE
    have h2 := Int.lt_of_mul_lt_mul_right h1 (Int.le_of_lt hP)
    have h3 : ((2 ^ 1900 : Nat) : Int) = (2 : Int) ^ 1900 := by rw [Int.natCast_pow]; rfl
    rw [← h3] at h2
    exact Int.ofNat_lt.mp h2
  obtain ⟨p, hp⟩ : ∃ p : Nat, p = N.log2 - 52 := ⟨_, rfl⟩
  have hp2 : p ≤ 1900 := by
    have : N.log2 < 1900 := by
      rcases Nat.eq_zero_or_pos N with e | e
      · rw [e]; decide
      · exact (Nat.log2_lt (by omega)).mpr n3
    omega
  have hc : N / 2 ^ p < 2 ^ 53 := by
    rw [Nat.div_lt_iff_lt_mul (Nat.two_pow_pos p), ← Nat.pow_add]
    exact Nat.lt_of_lt_of_le Nat.lt_log2_self (Nat.pow_le_pow_right (by decide) (by omega))
  have hlo : zRep ((N / 2 ^ p * 2 ^ p : Nat) : Int) := zRep_mk _ p hc (by omega)
  have hhi : zRep (((N / 2 ^ p + 1) * 2 ^ p : Nat) : Int) := by
    by_cases e : N / 2 ^ p + 1 < 2 ^ 53
    · exact zRep_mk _ p e (by omega)
    · have e2 : N / 2 ^ p + 1 = 2 ^ 53 := by omega
      rw [e2, ← Nat.pow_add, ← Nat.one_mul (2 ^ (53 + p))]
      exact zRep_mk 1 (53 + p) (by decide) (by omega)
  have l1 : N / 2 ^ p * 2 ^ p ≤ N := Nat.div_mul_le_self N (2 ^ p)
  have l2 : N + 1 ≤ (N / 2 ^ p + 1) * 2 ^ p := by
    have := Nat.lt_div_mul_add (a := N) (Nat.two_pow_pos p)
    rw [Nat.add_mul, Nat.one_mul]
    omega
  have r1 := (h _ hlo).2 (Int.le_trans (Int.mul_le_mul_of_nonneg_right (Int.ofNat_le.mpr l1) (Int.le_of_lt hP)) n1)
  have r2 := (h _ hhi).1 (Int.le_trans (Int.le_of_lt n2) (Int.mul_le_mul_of_nonneg_right (by exact_mod_cast l2) (Int.le_of_lt hP)))
  have r3 := Int.mul_le_mul_of_nonneg_right r1 (Int.le_of_lt hP)
  have r4 := Int.mul_le_mul_of_nonneg_right r2 (Int.le_of_lt hP)
  have e1 : (((N / 2 ^ p + 1) * 2 ^ p : Nat) : Int) * P = ((N / 2 ^ p * 2 ^ p : Nat) : Int) * P + ((2 ^ p : Nat) : Int) * P := by
    rw [← Int.add_mul, ← Int.natCast_add, Nat.add_mul, Nat.one_mul]
  have s1 := Int.mul_le_mul_of_nonneg_right (Int.ofNat_le.mpr l1) (Int.le_of_lt hP)
  have s2 : E ≤ (((N / 2 ^ p + 1) * 2 ^ p : Nat) : Int) * P := Int.le_trans (Int.le_of_lt n2) (Int.mul_le_mul_of_nonneg_right (by exact_mod_cast l2) (Int.le_of_lt hP))
  have hw : ((2 ^ p : Nat) : Int) * P ≤ E / 2 ^ 52 + P := by
    rcases Nat.eq_zero_or_pos p with e | e
    · rw [e]
      have : 0 ≤ E / 2 ^ 52 := Int.ediv_nonneg h0 (by decide)
      show ((1 : Nat) : Int) * P ≤ _
      omega
    · have b1 : 2 ^ (p + 52) ≤ N := by
        have : 2 ^ N.log2 ≤ N := Nat.log2_self_le (by intro q; rw [q] at hp; have : Nat.log2 0 = 0 := by decide
                                                      omega)
        rw [show p + 52 = N.log2 by omega]
        exact this
      have b2 : ((2 ^ (p + 52) : Nat) : Int) * P ≤ E := Int.le_trans (Int.mul_le_mul_of_nonneg_right (Int.ofNat_le.mpr b1) (Int.le_of_lt hP)) n1
      have b3 : ((2 ^ p : Nat) : Int) * P ≤ E / 2 ^ 52 := by
        rw [Int.le_ediv_iff_mul_le (by decide)]
        rw [Nat.pow_add, Int.natCast_mul] at b2
        have : ((2 ^ p : Nat) : Int) * P * 2 ^ 52 = ((2 ^ p : Nat) : Int) * ((2 ^ 52 : Nat) : Int) * P := by
          rw [show ((2 ^ 52 : Nat) : Int) = (2 : Int) ^ 52 by decide]
          rw [Int.mul_assoc, Int.mul_comm P, ← Int.mul_assoc]
        omega
      omega
  generalize ((2 ^ p : Nat) : Int) * P = w at *
  generalize ((N / 2 ^ p * 2 ^ p : Nat) : Int) * P = lo at *
  generalize (((N / 2 ^ p + 1) * 2 ^ p : Nat) : Int) * P = hi at *
  constructor <;> omega
