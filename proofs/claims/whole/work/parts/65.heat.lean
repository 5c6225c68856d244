/-- a cell's sum on its way: R parts are left of its own (of warmth w), I came in; k roundings -/
def zHI (A B w H R I : Int) (k : Nat) : Prop := 0 ≤ R ∧ 0 ≤ I ∧ R + I ≤ A ∧ ∃ T : Int, T ≤ B * I ∧ -(B * I) ≤ T ∧ 2 ^ 46 * (H - (w * R + T)) ≤ (k : Int) * (A * B) ∧ 2 ^ 46 * (w * R + T - H) ≤ (k : Int) * (A * B)
def zHB (A B w : Int) : Prop := 1 ≤ A ∧ A < 2 ^ 64 ∧ zU ≤ B ∧ B ≤ 128 * zU ∧ w ≤ B ∧ -B ≤ w
theorem zHB_Y {A B w : Int} (h : zHB A B w) : 2 ^ 80 ≤ A * B ∧ 8 * (A * B) < 2 ^ 1900 * 1 := by
  obtain ⟨h1, h2, h3, h4, -, -⟩ := h
  have hU := zU_pos
  have hUb := zU_big
  constructor
  · have := Int.mul_le_mul_of_nonneg_right h1 (show 0 ≤ B by omega)
    omega
  · have p1 : A * B ≤ 2 ^ 64 * (128 * zU) := Int.mul_le_mul (by omega) h4 (by omega) (by omega)
    have p2 : (8 : Int) * (2 ^ 64 * (128 * zU)) < 2 ^ 1900 * 1 := by decide +kernel
    omega
theorem zHI_0 {A B w V D P : Int} (h : zHB A B w) (hV0 : 0 ≤ V) (hV : V ≤ A) (hD1 : zRd (V * zU) 1 D) (hP1 : zRd (D * w) zU P) : zHI A B w P V 0 1 := by
  obtain ⟨h1, h2, h3, h4, h5, h6⟩ := h
  obtain ⟨a, b⟩ := hP hV (by omega) h2 h1 h3 h4 h5 h6 hD1 hP1
  refine ⟨hV0, Int.le_refl _, by omega, 0, by rw [Int.mul_zero]; exact Int.le_refl _, by rw [Int.mul_zero]; decide, ?_, ?_⟩
  · rw [Int.mul_comm w V, Int.add_zero]
    generalize A * B = Y at *
    omega
  · rw [Int.mul_comm w V, Int.add_zero]
    generalize A * B = Y at *
    omega
theorem zHI_sz {A B w H R I : Int} {k : Nat} (h : zHB A B w) (hk : k ≤ 100) (hi : zHI A B w H R I k) : H ≤ 2 * (A * B) ∧ -(2 * (A * B)) ≤ H := by
  obtain ⟨hY, -⟩ := zHB_Y h
  obtain ⟨h1, h2, h3, h4, h5, h6⟩ := h
  obtain ⟨r0, i0, ri, T, t1, t2, e1, e2⟩ := hi
  have hB0 : 0 ≤ B := by have := zU_pos; omega
  obtain ⟨a1, a2⟩ := zabs_mul h5 h6 (Int.le_refl R) (show -R ≤ R by omega)
  have b1 : B * R + B * I ≤ A * B := by
    have := Int.mul_le_mul_of_nonneg_left ri hB0
    rw [Int.mul_add, Int.mul_comm B A] at this
    exact this
  have k1 : (k : Int) * (A * B) ≤ 100 * (A * B) := Int.mul_le_mul_of_nonneg_right (by omega) (by omega)
  generalize (k : Int) * (A * B) = kY at *
  generalize A * B = Y at *
  generalize B * R = BR at *
  generalize B * I = BI at *
  generalize w * R = wR at *
  constructor <;> omega
theorem zHI_in {A B w H R I q v D P H' : Int} {k : Nat} (h : zHB A B w) (hk : k < 100) (hi : zHI A B w H R I k) (hq0 : 0 ≤ q) (hq : R + I + q ≤ A) (hv1 : v ≤ B) (hv2 : -B ≤ v) (hD1 : zRd (q * zU) 1 D) (hP1 : zRd (D * v) zU P) (hS : zRd (H + P) 1 H') : zHI A B w H' R (I + q) (k + 1) := by
  obtain ⟨s1, s2⟩ := zHI_sz h (by omega) hi
  obtain ⟨hY, hl⟩ := zHB_Y h
  obtain ⟨h1, h2, h3, h4, h5, h6⟩ := h
  obtain ⟨r0, i0, ri, T, t1, t2, e1, e2⟩ := hi
  have hB0 : 0 ≤ B := by have := zU_pos; omega
  obtain ⟨p1, p2⟩ := hP (show q ≤ A by omega) (by omega) h2 h1 h3 h4 hv1 hv2 hD1 hP1
  obtain ⟨m1, m2⟩ := zabs_mul (Int.le_refl q) (show -q ≤ q by omega) hv1 hv2
  have b1 : q * B ≤ A * B := Int.mul_le_mul_of_nonneg_right (by omega) hB0
  obtain ⟨f1, f2⟩ := zRd_err (M := 8 * (A * B)) (by decide) hS (by generalize A * B = Y at *; generalize q * B = qB at *; generalize q * v = qv at *; omega) (by generalize A * B = Y at *; generalize q * B = qB at *; generalize q * v = qv at *; omega) hl
  refine ⟨r0, by omega, by omega, T + q * v, ?_, ?_, ?_, ?_⟩
  · rw [Int.mul_add, Int.mul_comm B q]
    omega
  · rw [Int.mul_add, Int.mul_comm B q]
    omega
  · rw [show ((k + 1 : Nat) : Int) * (A * B) = (k : Int) * (A * B) + A * B by rw [Int.natCast_add, Int.add_mul]; simp]
    generalize (k : Int) * (A * B) = kY at *
    generalize A * B = Y at *
    generalize q * v = qv at *
    generalize w * R = wR at *
    omega
  · rw [show ((k + 1 : Nat) : Int) * (A * B) = (k : Int) * (A * B) + A * B by rw [Int.natCast_add, Int.add_mul]; simp]
    generalize (k : Int) * (A * B) = kY at *
    generalize A * B = Y at *
    generalize q * v = qv at *
    generalize w * R = wR at *
    omega
theorem zHI_out {A B w H R I q D P H' : Int} {k : Nat} (h : zHB A B w) (hk : k < 100) (hi : zHI A B w H R I k) (hq0 : 0 ≤ q) (hq : q ≤ R) (hD1 : zRd (q * zU) 1 D) (hP1 : zRd (D * w) zU P) (hS : zRd (H - P) 1 H') : zHI A B w H' (R - q) I (k + 1) := by
  obtain ⟨s1, s2⟩ := zHI_sz h (by omega) hi
  obtain ⟨hY, hl⟩ := zHB_Y h
  obtain ⟨h1, h2, h3, h4, h5, h6⟩ := h
  obtain ⟨r0, i0, ri, T, t1, t2, e1, e2⟩ := hi
  have hB0 : 0 ≤ B := by have := zU_pos; omega
  obtain ⟨p1, p2⟩ := hP (show q ≤ A by omega) (by omega) h2 h1 h3 h4 h5 h6 hD1 hP1
  obtain ⟨m1, m2⟩ := zabs_mul (Int.le_refl q) (show -q ≤ q by omega) h5 h6
  have b1 : q * B ≤ A * B := Int.mul_le_mul_of_nonneg_right (by omega) hB0
  obtain ⟨f1, f2⟩ := zRd_err (M := 8 * (A * B)) (by decide) hS (by generalize A * B = Y at *; generalize q * B = qB at *; generalize q * w = qv at *; omega) (by generalize A * B = Y at *; generalize q * B = qB at *; generalize q * w = qv at *; omega) hl
  have ew : w * (R - q) = w * R - q * w := by rw [Int.mul_sub, Int.mul_comm w q]
  refine ⟨by omega, i0, by omega, T, t1, t2, ?_, ?_⟩
  · rw [ew, show ((k + 1 : Nat) : Int) * (A * B) = (k : Int) * (A * B) + A * B by rw [Int.natCast_add, Int.add_mul]; simp]
    generalize (k : Int) * (A * B) = kY at *
    generalize A * B = Y at *
    generalize q * w = qv at *
    generalize w * R = wR at *
    omega
  · rw [ew, show ((k + 1 : Nat) : Int) * (A * B) = (k : Int) * (A * B) + A * B by rw [Int.natCast_add, Int.add_mul]; simp]
    generalize (k : Int) * (A * B) = kY at *
    generalize A * B = Y at *
    generalize q * w = qv at *
    generalize w * R = wR at *
    omega
/-- the new warmth -/
theorem zHI_end {A B w H R I D W B' : Int} {k : Nat} (h : zHB A B w) (hk : k ≤ 20) (hi : zHI A B w H R I k) (hA : A ≤ 3 * (R + I)) (hV1 : 1 ≤ R + I) (hD1 : zRd ((R + I) * zU) 1 D) (hW : zRd (H * zU) D W) (hr : zRep B') (hb1 : zU ≤ 2 ^ 20 * (B' - B)) (hb2 : B' ≤ 129 * zU) : 0 < D ∧ W ≤ B' ∧ -B' ≤ W := by
  obtain ⟨hY, -⟩ := zHB_Y h
  obtain ⟨h1, h2, h3, h4, h5, h6⟩ := h
  obtain ⟨r0, i0, ri, T, t1, t2, e1, e2⟩ := hi
  have hU := zU_pos
  have hUb := zU_big
  have hB0 : 0 ≤ B := by omega
  obtain ⟨d1, d2⟩ := hD (Int.le_refl (R + I)) (by omega) (by omega) (by omega) hD1
  obtain ⟨a1, a2⟩ := zabs_mul h5 h6 (Int.le_refl R) (show -R ≤ R by omega)
  have k1 : (k : Int) * (A * B) ≤ 20 * (A * B) := Int.mul_le_mul_of_nonneg_right (by omega) (by omega)
  have ab : A * B ≤ 3 * (R + I) * B := Int.mul_le_mul_of_nonneg_right hA hB0
  obtain ⟨V, hV⟩ : ∃ V, V = R + I := ⟨_, rfl⟩
  rw [← hV] at hA hV1 hD1 d1 d2 ab
  have bv : B * R + B * I = V * B := by rw [← Int.mul_add, ← hV, Int.mul_comm]
  have eab : 3 * V * B = 3 * (V * B) := Int.mul_assoc 3 V B
  rw [eab] at ab
  have hH1 : 2 ^ 46 * H ≤ 2 ^ 46 * (V * B) + 60 * (V * B) := by
    generalize (k : Int) * (A * B) = kY at *
    generalize A * B = Y at *
    generalize B * R = BR at *
    generalize B * I = BI at *
    generalize w * R = wR at *
    generalize V * B = VB at *
    omega
  have hH2 : -(2 ^ 46 * (V * B) + 60 * (V * B)) ≤ 2 ^ 46 * H := by
    generalize (k : Int) * (A * B) = kY at *
    generalize A * B = Y at *
    generalize B * R = BR at *
    generalize B * I = BI at *
    generalize w * R = wR at *
    generalize V * B = VB at *
    omega
  have hVU : zU ≤ V * zU := by
    have := Int.mul_le_mul_of_nonneg_right hV1 (Int.le_of_lt hU)
    omega
  have hD0 : 0 < D := by
    generalize V * zU = VU at *
    omega
  -- B' * D from below
  have c1 : 2 ^ 52 * (V * zU) - V * zU - 2 ^ 52 ≤ 2 ^ 52 * D := by
    generalize V * zU = VU at *
    omega
  have hB'0 : 0 ≤ B' := by omega
  have c2 := Int.mul_le_mul_of_nonneg_left c1 hB'0
  have c3 : 2 ^ 52 * (B' * D) = B' * (2 ^ 52 * D) := by grind
  have c4 : B' * (2 ^ 52 * (V * zU) - V * zU - 2 ^ 52) = 2 ^ 52 * (V * B * zU) + 2 ^ 52 * ((B' - B) * (V * zU)) - B' * (V * zU) - 2 ^ 52 * B' := by grind
  have c5 := Int.mul_le_mul_of_nonneg_right hb1 (show 0 ≤ V * zU by omega)
  have c6 := Int.mul_le_mul_of_nonneg_right hb2 (show 0 ≤ V * zU by omega)
  have c7 := Int.mul_le_mul_of_nonneg_right h4 (show 0 ≤ V * zU by omega)
  have c8 : V * B * zU = B * (V * zU) := by grind
  have c9 : (2 : Int) ^ 52 * B' ≤ 2 ^ 20 * (zU * (V * zU)) := by
    have q1 : zU * zU ≤ zU * (V * zU) := Int.mul_le_mul_of_nonneg_left hVU (Int.le_of_lt hU)
    have q2 : (2 : Int) ^ 80 * zU ≤ zU * zU := Int.mul_le_mul_of_nonneg_right hUb (Int.le_of_lt hU)
    omega
  have fin : 2 ^ 52 * (V * B * zU) + 3840 * (V * B * zU) ≤ 2 ^ 52 * (B' * D) := by
    rw [c3]
    refine Int.le_trans ?_ c2
    rw [c4, c8]
    have e1 : 2 ^ 20 * (B' - B) * (V * zU) = 2 ^ 20 * ((B' - B) * (V * zU)) := Int.mul_assoc _ _ _
    have e2 : 129 * zU * (V * zU) = 129 * (zU * (V * zU)) := Int.mul_assoc _ _ _
    have e3 : 128 * zU * (V * zU) = 128 * (zU * (V * zU)) := Int.mul_assoc _ _ _
    rw [e1] at c5
    rw [e2] at c6
    rw [e3] at c7
    generalize (B' - B) * (V * zU) = x1 at *
    generalize B' * (V * zU) = x2 at *
    generalize B * (V * zU) = x3 at *
    generalize zU * (V * zU) = x4 at *
    omega
  have u1 := Int.mul_le_mul_of_nonneg_right hH1 (Int.le_of_lt hU)
  have u2 := Int.mul_le_mul_of_nonneg_right hH2 (Int.le_of_lt hU)
  have v1 : 2 ^ 46 * H * zU = 2 ^ 46 * (H * zU) := Int.mul_assoc _ _ _
  have v2 : (2 ^ 46 * (V * B) + 60 * (V * B)) * zU = 2 ^ 46 * (V * B * zU) + 60 * (V * B * zU) := by grind
  have v3 : -(2 ^ 46 * (V * B) + 60 * (V * B)) * zU = -(2 ^ 46 * (V * B * zU) + 60 * (V * B * zU)) := by grind
  rw [v1, v2] at u1
  rw [v1, v3] at u2
  refine ⟨hD0, (hW B' hr).1 ?_, (hW (-B') (zRep_neg hr)).2 ?_⟩
  · generalize V * B * zU = x3 at *
    generalize B' * D = x5 at *
    omega
  · rw [Int.neg_mul]
    generalize V * B * zU = x3 at *
    generalize B' * D = x5 at *
    omega
