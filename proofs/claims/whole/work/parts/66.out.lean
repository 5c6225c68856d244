/-! the cast to a long, the saw, the level outside -/
theorem ztr {s : Bool} {c : Nat} {q : Int} (hq : -1074 ≤ q) : FP.Core.truncate s c q = FP.Core.signed s (c * 2 ^ (q - FP.Core.b64.qmin).toNat / 2 ^ 1074) := by
  have hqn : FP.Core.b64.qmin = -1074 := FP.Core.qmin_b64
  unfold FP.Core.truncate
  congr 1
  rw [hqn]
  by_cases h : 0 ≤ q
  · rw [show (-q).toNat = 0 by omega, show (q - -1074).toNat = q.toNat + 1074 by omega, Nat.pow_zero, Nat.div_one, Nat.pow_add, ← Nat.mul_assoc, Nat.mul_div_cancel _ (Nat.two_pow_pos 1074)]
  · obtain ⟨k, hk⟩ : ∃ k : Nat, k = (q - -1074).toNat := ⟨_, rfl⟩
    obtain ⟨j, hj⟩ : ∃ j : Nat, j = (-q).toNat := ⟨_, rfl⟩
    have e : 1074 = j + k := by omega
    rw [show q.toNat = 0 by omega, Nat.pow_zero, Nat.mul_one, ← hk, ← hj, show (2 ^ 1074 : Nat) = 2 ^ j * 2 ^ k by rw [← Nat.pow_add, ← e], Nat.mul_div_mul_right _ _ (Nat.two_pow_pos k)]
theorem zd2l_v {x : UInt64} (hx : zfi x) : ∃ (s : Bool) (z : Nat), zv x = FP.Core.signed s z ∧ ∀ n : Nat, n < 2 ^ 62 → z ≤ n * 2 ^ 1074 → (FP.d2l x).toInt = FP.Core.signed s (z / 2 ^ 1074) := by
  obtain ⟨s, c, q, h⟩ := hx
  have hf := FP.Core.val64_fits x
  rw [h] at hf
  have hq := hf.2.1
  have hqn : FP.Core.b64.qmin = -1074 := FP.Core.qmin_b64
  refine ⟨s, c * 2 ^ (q - FP.Core.b64.qmin).toNat, by unfold zv; rw [h, zv_sgn], fun n hn hz => ?_⟩
  have e : FP.d2l x = Int64.ofInt (max (-2 ^ 63) (min (2 ^ 63 - 1) (FP.Core.truncate s c q))) := by
    show FP.Core.toL (FP.Core.val64 x) = _
    rw [h]
    rfl
  rw [e, ztr (by omega)]
  generalize c * 2 ^ (q - FP.Core.b64.qmin).toNat = z at *
  have hb : z / 2 ^ 1074 ≤ n := Nat.div_le_of_le_mul (by rw [Nat.mul_comm]; exact hz)
  generalize z / 2 ^ 1074 = y at *
  have b1 : -(2 ^ 62 : Int) ≤ FP.Core.signed s y ∧ FP.Core.signed s y ≤ 2 ^ 62 := by
    unfold FP.Core.signed
    cases s <;> simp only [if_true, Bool.false_eq_true, if_false] <;> omega
  rw [Int64.toInt_ofInt_of_le (by omega) (by omega)]
  omega
theorem zd2l_pos {x : UInt64} (hx : zfi x) (h0 : 0 ≤ zv x) {n : Nat} (hn : n < 2 ^ 62) (h1 : zv x ≤ (n : Int) * zU) : 0 ≤ (FP.d2l x).toInt ∧ (FP.d2l x).toInt ≤ n ∧ (FP.d2l x).toInt * zU ≤ zv x ∧ zv x < ((FP.d2l x).toInt + 1) * zU := by
  obtain ⟨s, z, e, h⟩ := zd2l_v hx
  have hz : zv x = (z : Int) := by
    cases s
    · exact e
    · have e2 : zv x = -(z : Int) := e
      omega
  rw [hz] at h1 ⊢
  have h2 : z ≤ n * 2 ^ 1074 := by
    unfold zU at h1
    rw [← Int.natCast_mul] at h1
    exact Int.ofNat_le.mp h1
  have h3 := h n hn h2
  have hs : FP.Core.signed s (z / 2 ^ 1074) = ((z / 2 ^ 1074 : Nat) : Int) := by
    cases s
    · rfl
    · have e2 : zv x = -(z : Int) := e
      have : z = 0 := by omega
      rw [this]
      decide +kernel
  rw [h3, hs]
  have d1 : z / 2 ^ 1074 * 2 ^ 1074 ≤ z := Nat.div_mul_le_self _ _
  have d2 : z < (z / 2 ^ 1074 + 1) * 2 ^ 1074 := by
    have := Nat.lt_div_mul_add (a := z) (Nat.two_pow_pos 1074)
    rw [Nat.add_mul, Nat.one_mul]
    omega
  have d3 : z / 2 ^ 1074 ≤ n := Nat.div_le_of_le_mul (by rw [Nat.mul_comm]; exact h2)
  refine ⟨by omega, by omega, ?_, ?_⟩
  · unfold zU
    rw [← Int.natCast_mul]
    exact Int.ofNat_le.mpr d1
  · unfold zU
    rw [show ((z / 2 ^ 1074 : Nat) : Int) + 1 = ((z / 2 ^ 1074 + 1 : Nat) : Int) from rfl, ← Int.natCast_mul]
    exact Int.ofNat_lt.mpr d2
theorem zd2l_neg {x : UInt64} (hx : zfi x) (h0 : zv x ≤ 0) {n : Nat} (hn : n < 2 ^ 62) (h1 : -((n : Int) * zU) ≤ zv x) : (FP.d2l x).toInt ≤ 0 ∧ -(n : Int) ≤ (FP.d2l x).toInt := by
  obtain ⟨s, z, e, h⟩ := zd2l_v hx
  have hz : zv x = -(z : Int) := by
    cases s
    · have e2 : zv x = (z : Int) := e
      omega
    · exact e
  rw [hz] at h1
  have h2 : z ≤ n * 2 ^ 1074 := by
    unfold zU at h1
    rw [← Int.natCast_mul] at h1
    omega
  have h3 := h n hn h2
  have d3 : z / 2 ^ 1074 ≤ n := Nat.div_le_of_le_mul (by rw [Nat.mul_comm]; exact h2)
  have hs : FP.Core.signed s (z / 2 ^ 1074) = -((z / 2 ^ 1074 : Nat) : Int) := by
    cases s
    · have e2 : zv x = (z : Int) := e
      have : z = 0 := by omega
      rw [this]
      decide +kernel
    · rfl
  rw [h3, hs]
  omega
theorem zRd_ex {E r : Int} (h : zRd E 1 r) (hr : zRep E) : r = E := by
  obtain ⟨a, b⟩ := h E hr
  have := a (by omega)
  have := b (by omega)
  omega
theorem zv_l2d {v : Int64} (h0 : 0 ≤ v.toInt) (h1 : v.toInt < 2 ^ 53) : zv (FP.l2d v) = v.toInt * zU := by
  refine zRd_ex (zRd_l2d v) ?_
  have := zRep_n v.toInt.toNat (by omega)
  rw [show (v.toInt.toNat : Int) = v.toInt by omega] at this
  exact this
theorem zk_4 : zv k4 = 4 * zU := by decide +kernel
theorem zk_3 : zv k3 = 3 * zU := by decide +kernel
theorem zfk (x : UInt64) (h : (x.toNat % 2 ^ 63 < 9218868437227405312 : Bool) = true) : zfi x := (FP.Core.fin_bits x).mpr (of_decide_eq_true h)
theorem zsaw_b {u : UInt64} (hu : zfi u) (h0 : 0 ≤ zv u) (h1 : zv u ≤ 1099511627776 * zU) : zfi (s_saw u) ∧ zv (s_saw u) ≤ 8 * zU ∧ -(8 * zU) ≤ zv (s_saw u) := by
  have hU := zU_pos
  obtain ⟨m0, m1, m2, m3⟩ := zd2l_pos hu h0 (n := 1099511627776) (by decide) h1
  have el := zv_l2d m0 (by omega)
  obtain ⟨f1, f2, f3⟩ := zB_sub hu (zfi_l2d (FP.d2l u)) (zRn 1 (by decide) rfl) zRep_0 (by rw [el]; rw [Int.add_mul] at m3; simp; omega) (by rw [el]; omega)
  have hf : s_sawf u = zsub u (FP.l2d (FP.d2l u)) := rfl
  rw [← hf] at f1 f2 f3
  obtain ⟨g1, g2, g3⟩ := zB_mul (zfk k4 (by decide)) f1 (zRn 4 (by decide) rfl) zRep_0 (by
    rw [zk_4]
    have := Int.mul_le_mul_of_nonneg_left f2 (show 0 ≤ 4 * zU by omega)
    simp at this ⊢
    exact this) (by rw [zk_4, Int.zero_mul]; exact Int.mul_nonneg (by omega) f3)
  unfold s_saw
  split
  · obtain ⟨a, b, c⟩ := zB_sub (zfk k1 (by decide)) g1 (zRn 8 (by decide) rfl) (zRm 8 (by decide) rfl) (by rw [zk_1]; simp at g2 ⊢; omega) (by rw [zk_1]; simp at g2 ⊢; omega)
    exact ⟨a, b, c⟩
  · obtain ⟨a, b, c⟩ := zB_sub g1 (zfk k3 (by decide)) (zRn 8 (by decide) rfl) (zRm 8 (by decide) rfl) (by rw [zk_3]; simp at g2 ⊢; omega) (by rw [zk_3]; simp at g2 ⊢; omega)
    exact ⟨a, b, c⟩
theorem zden (k : Nat) (hk : k < 8) : zfi (zmul k3600 (FP.i2d (nI k + 1))) ∧ zU ≤ zv (zmul k3600 (FP.i2d (nI k + 1))) := by
  have h : ∀ k : Fin 8, ((zmul k3600 (FP.i2d (nI k.val + 1))).toNat % 2 ^ 63 < 9218868437227405312) ∧ zU ≤ zv (zmul k3600 (FP.i2d (nI k.val + 1))) := by decide +kernel
  exact ⟨(FP.Core.fin_bits _).mpr (h ⟨k, hk⟩).1, (h ⟨k, hk⟩).2⟩
/-- the waves of a side are as they may be told, the time is not too great -/
def zWv (μ : ZMem) (s : Nat) : Prop := ∀ k, k < 8 → ¬ zI μ 23 (8 * s + k) = 0 → zfi (zD μ 24 (8 * s + k)) ∧ 0 ≤ zv (zD μ 24 (8 * s + k)) ∧ zv (zD μ 24 (8 * s + k)) ≤ 20 * zU ∧ zfi (zD μ 25 (8 * s + k)) ∧ 0 ≤ zv (zD μ 25 (8 * s + k)) ∧ zv (zD μ 25 (8 * s + k)) ≤ zU
def zTm (t : UInt64) : Prop := zfi t ∧ 0 ≤ zv t ∧ zv t ≤ 549755813888 * zU
theorem zsaw_w {t p : UInt64} (ht : zTm t) (hp : zfi p) (p0 : 0 ≤ zv p) (p1 : zv p ≤ zU) {k : Nat} (hk : k < 8) : zfi (s_saw (zadd (zdiv t (zmul k3600 (FP.i2d (nI k + 1)))) p)) ∧ zv (s_saw (zadd (zdiv t (zmul k3600 (FP.i2d (nI k + 1)))) p)) ≤ 8 * zU ∧ -(8 * zU) ≤ zv (s_saw (zadd (zdiv t (zmul k3600 (FP.i2d (nI k + 1)))) p)) := by
  have hU := zU_pos
  obtain ⟨t1, t2, t3⟩ := ht
  obtain ⟨d1, d2⟩ := zden k hk
  obtain ⟨q1, q2, q3⟩ := zB_div t1 d1 (by omega) (zRn 549755813888 (by decide) rfl) zRep_0 (Int.mul_le_mul t3 d2 (Int.le_of_lt hU) (by omega)) (by rw [Int.zero_mul]; exact Int.mul_nonneg t2 (Int.le_of_lt hU))
  obtain ⟨a1, a2, a3⟩ := zB_add q1 hp (zRn 1099511627776 (by decide) rfl) zRep_0 (by simp at q2 ⊢; omega) (by omega)
  exact zsaw_b a1 a3 a2
theorem zwv_b {μ : ZMem} {s : Nat} (hW : zWv μ s) (ht : zTm (zD μ 0 13)) : ∀ n, n ≤ 8 → zfi (zit (t_wv μ s) n 0) ∧ zv (zit (t_wv μ s) n 0) ≤ (160 * n : Nat) * zU ∧ -((160 * n : Nat) * zU) ≤ zv (zit (t_wv μ s) n 0)
  | 0, _ => ⟨zfi_0, by rw [show zit (t_wv μ s) 0 0 = 0 from rfl, zv_0]; decide +kernel, by rw [show zit (t_wv μ s) 0 0 = 0 from rfl, zv_0]; decide +kernel⟩
  | n + 1, hn => by
    obtain ⟨h1, h2, h3⟩ := zwv_b hW ht n (by omega)
    have hU := zU_pos
    have e : zit (t_wv μ s) (n + 1) 0 = t_wv μ s n (zit (t_wv μ s) n 0) := rfl
    rw [e]
    generalize zit (t_wv μ s) n 0 = x at h1 h2 h3 ⊢
    unfold t_wv
    have e160 : ((160 : Nat) : Int) = 160 := rfl
    have em : ((160 * (n + 1) : Nat) : Int) * zU = ((160 * n : Nat) : Int) * zU + 160 * zU := by
      rw [show 160 * (n + 1) = 160 * n + 160 by omega, Int.natCast_add, Int.add_mul]
      rfl
    split
    · rw [em]
      exact ⟨h1, by omega, by omega⟩
    · rename_i hw
      obtain ⟨w1, w2, w3, w4, w5, w6⟩ := hW n (by omega) hw
      obtain ⟨s1, s2, s3⟩ := zsaw_w ht w4 w5 w6 (k := n) (by omega)
      obtain ⟨p1, p2, p3⟩ := zB_mul w1 s1 (zRn 160 (by decide) rfl) (zRm 160 (by decide) rfl) (by
        have q1 := Int.mul_le_mul_of_nonneg_left s2 w2
        have q2 := Int.mul_le_mul_of_nonneg_right w3 (show 0 ≤ 8 * zU by omega)
        simp
        grind) (by
        have q1 := Int.mul_le_mul_of_nonneg_left s3 w2
        have q2 := Int.mul_le_mul_of_nonneg_right w3 (show 0 ≤ 8 * zU by omega)
        simp
        grind)
      obtain ⟨a1, a2, a3⟩ := zB_add h1 p1 (V := ((160 * (n + 1) : Nat) : Int) * zU) (W := -(((160 * (n + 1) : Nat) : Int) * zU)) (zRn (160 * (n + 1)) (by omega) rfl) (zRm (160 * (n + 1)) (by omega) rfl) (by rw [em]; rw [e160] at p2; omega) (by rw [em]; rw [e160] at p3; omega)
      exact ⟨a1, a2, a3⟩
theorem zout_b {μ : ZMem} {s : Nat} (hW : zWv μ s) (ht : zTm (zD μ 0 13)) : zfi (t_outside μ s) ∧ zv (t_outside μ s) ≤ 1280 * zU ∧ -(1280 * zU) ≤ zv (t_outside μ s) := zwv_b hW ht 8 (Nat.le_refl 8)
