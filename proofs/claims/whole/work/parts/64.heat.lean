/-! warmth stays within bounds: what a cell's sum is, with its error -/
theorem zU_big : (2 : Int) ^ 80 ≤ zU := by decide +kernel
theorem zabs_mul {a b A B : Int} (ha1 : a ≤ A) (ha2 : -A ≤ a) (hb1 : b ≤ B) (hb2 : -B ≤ b) : a * b ≤ A * B ∧ -(A * B) ≤ a * b := by
  have hA : 0 ≤ A := by omega
  have hB : 0 ≤ B := by omega
  have e : (a * b).natAbs ≤ (A * B).natAbs := by
    rw [Int.natAbs_mul, Int.natAbs_mul]
    exact Nat.mul_le_mul (by omega) (by omega)
  have h2 : 0 ≤ A * B := Int.mul_nonneg hA hB
  omega
theorem zsm {M K : Int} (hM : M < 2 ^ 1800 * K) (hK : 0 < K) : M < 2 ^ 1900 * K := by
  have : (2 : Int) ^ 1800 * K ≤ 2 ^ 1900 * K := Int.mul_le_mul_of_nonneg_right (by decide +kernel) (Int.le_of_lt hK)
  omega
/-- a volume as a double -/
theorem hD {x X D : Int} (hx1 : x ≤ X) (hx2 : -X ≤ x) (hX : X < 2 ^ 64) (hX0 : 0 ≤ X) (hD : zRd (x * zU) 1 D) : 2 ^ 52 * (D - x * zU) ≤ X * zU + 2 ^ 52 ∧ 2 ^ 52 * (x * zU - D) ≤ X * zU + 2 ^ 52 := by
  have hU := zU_pos
  have hl : X * zU < 2 ^ 1900 * 1 := by
    have p1 := Int.mul_lt_mul_of_pos_right hX hU
    have p2 : (2 : Int) ^ 64 * zU < 2 ^ 1900 * 1 := by decide +kernel
    omega
  have p1 := Int.mul_le_mul_of_nonneg_right hx1 (Int.le_of_lt hU)
  have p2 := Int.mul_le_mul_of_nonneg_right hx2 (Int.le_of_lt hU)
  obtain ⟨a, b⟩ := zRd_err (M := X * zU) (by decide) hD p1 (by rw [Int.neg_mul] at p2; exact p2) hl
  generalize X * zU = XU at *
  generalize x * zU = xU at *
  constructor <;> omega
/-- a product of a volume and a warmth -/
theorem hP {x X D w B P : Int} (hx1 : x ≤ X) (hx2 : -X ≤ x) (hX : X < 2 ^ 64) (hX1 : 1 ≤ X) (hB1 : zU ≤ B) (hB2 : B ≤ 128 * zU) (hw1 : w ≤ B) (hw2 : -B ≤ w) (hD1 : zRd (x * zU) 1 D) (hP : zRd (D * w) zU P) : 2 ^ 48 * (P - x * w) ≤ X * B ∧ 2 ^ 48 * (x * w - P) ≤ X * B := by
  have hU := zU_pos
  have hUb := zU_big
  have hB0 : 0 < B := by omega
  obtain ⟨d1, d2⟩ := hD hx1 hx2 hX (by omega) hD1
  have hXU : zU ≤ X * zU := by
    have := Int.mul_le_mul_of_nonneg_right hX1 (Int.le_of_lt hU)
    omega
  have px1 := Int.mul_le_mul_of_nonneg_right hx1 (Int.le_of_lt hU)
  have px2 := Int.mul_le_mul_of_nonneg_right hx2 (Int.le_of_lt hU)
  rw [Int.neg_mul] at px2
  have D1 : D ≤ 2 * (X * zU) := by
    generalize X * zU = XU at *
    generalize x * zU = xU at *
    omega
  have D2 : -(2 * (X * zU)) ≤ D := by
    generalize X * zU = XU at *
    generalize x * zU = xU at *
    omega
  have hlim : 2 * (X * zU) * B < 2 ^ 1900 * zU := by
    have p1 : X * zU ≤ 2 ^ 64 * zU := Int.mul_le_mul_of_nonneg_right (by omega) (Int.le_of_lt hU)
    have p2 : 2 * (X * zU) * B ≤ 2 * (2 ^ 64 * zU) * (128 * zU) := Int.mul_le_mul (by omega) hB2 (by omega) (by omega)
    have p3 : (2 : Int) * (2 ^ 64 * zU) * (128 * zU) < 2 ^ 1900 * zU := by decide +kernel
    omega
  obtain ⟨m1, m2⟩ := zabs_mul D1 D2 hw1 hw2
  obtain ⟨e1, e2⟩ := zRd_err hU hP m1 m2 hlim
  -- the error of D, times w
  have f1 : 2 ^ 52 * (D - x * zU) * w ≤ (X * zU + 2 ^ 52) * B ∧ -((X * zU + 2 ^ 52) * B) ≤ 2 ^ 52 * (D - x * zU) * w := zabs_mul d1 (by omega) hw1 hw2
  have g1 : 2 * (X * zU) * B / 2 ^ 52 * 2 ^ 52 ≤ 2 * (X * zU) * B := Int.ediv_mul_le _ (by decide)
  have hBU : B ≤ X * B := by
    have := Int.mul_le_mul_of_nonneg_right hX1 (Int.le_of_lt hB0)
    omega
  have key : ∀ t : Int, 2 ^ 52 * t ≤ (3 * (X * B) + 2 ^ 8 * 2 ^ 52) → 2 ^ 48 * t ≤ X * B := by
    intro t ht
    omega
  have hpos : 0 < zU := hU
  constructor
  · apply key
    have : 2 ^ 52 * (P - x * w) * zU ≤ (3 * (X * B) + 2 ^ 8 * 2 ^ 52) * zU := by
      have q1 : (2 : Int) ^ 52 * B ≤ 2 ^ 52 * (128 * zU) := Int.mul_le_mul_of_nonneg_left hB2 (by decide)
      have e3 : 2 ^ 52 * (P - x * w) * zU = 2 ^ 52 * (P * zU - D * w) + 2 ^ 52 * (D - x * zU) * w := by grind
      have e4 : (X * zU + 2 ^ 52) * B = X * B * zU + 2 ^ 52 * B := by grind
      have e5 : 2 * (X * zU) * B = 2 * (X * B * zU) := by grind
      have e6 : (3 * (X * B) + 2 ^ 8 * 2 ^ 52) * zU = 3 * (X * B * zU) + 2 ^ 60 * zU := by grind
      rw [e3, e6]
      rw [e4] at f1
      rw [e5] at e1 g1
      generalize X * B * zU = Y at *
      generalize 2 ^ 52 * (D - x * zU) * w = Z at *
      generalize P * zU - D * w = T at *
      omega
    exact Int.le_of_mul_le_mul_right this hU
  · apply key
    have : 2 ^ 52 * (x * w - P) * zU ≤ (3 * (X * B) + 2 ^ 8 * 2 ^ 52) * zU := by
      have q1 : (2 : Int) ^ 52 * B ≤ 2 ^ 52 * (128 * zU) := Int.mul_le_mul_of_nonneg_left hB2 (by decide)
      have e3 : 2 ^ 52 * (x * w - P) * zU = 2 ^ 52 * (D * w - P * zU) - 2 ^ 52 * (D - x * zU) * w := by grind
      have e4 : (X * zU + 2 ^ 52) * B = X * B * zU + 2 ^ 52 * B := by grind
      have e5 : 2 * (X * zU) * B = 2 * (X * B * zU) := by grind
      have e6 : (3 * (X * B) + 2 ^ 8 * 2 ^ 52) * zU = 3 * (X * B * zU) + 2 ^ 60 * zU := by grind
      rw [e3, e6]
      rw [e4] at f1
      rw [e5] at e2 g1
      generalize X * B * zU = Y at *
      generalize 2 ^ 52 * (D - x * zU) * w = Z at *
      generalize D * w - P * zU = T at *
      omega
    exact Int.le_of_mul_le_mul_right this hU
