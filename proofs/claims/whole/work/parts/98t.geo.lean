def posC (N F r : Nat) : Nat :=
  if r < 21 then [0, 0, 14 + N, 1 + N, 15 + N + F, 16 + N + F, 17 + N + F, 38 + N + F, 71 + N + F, 72 + N + F, 73 + N + F, 74 + N + F, 75 + N + F, 76 + N + F, 77 + N + F, 78 + N + F, 79 + N + F, 80 + N + F, 81 + N + F, 82 + N + F, 83 + N + F].getD r 0
  else if r < 40 then 2 + N + 3 * (r - 30) else if r < 50 then 3 + N + 3 * (r - 40) else if r < 60 then 4 + N + 3 * (r - 50) else if r < 70 then 18 + N + F + 2 * (r - 60) else if r < 80 then 19 + N + F + 2 * (r - 70) else if r < 84 then 39 + N + F + 8 * (r - 80)
  else if r < 140 then (if r % 10 = 5 then 40 + N + F + 8 * (r / 10 - 10) else if r % 10 = 6 then 41 + N + F + 8 * (r / 10 - 10) else 42 + N + F + 8 * (r / 10 - 10) + r % 10) else if r < 2000 then 1 + (r - 1000) else 15 + N + (r - 2000)
def c_geo (g : ZG) (hs N F : Nat) : Prop := N ≤ 144 ∧ F ≤ 400 ∧ ∀ r, liveC N F r → zkd g r = kdC r ∧ zln g r = lnC N F r ∧ (r ≠ 0 → zad g r = hs + posC N F r)
theorem c_geo_f {g : ZG} {hs N F : Nat} (H : c_geo g hs N F) (r : Nat) (h : r < 21) : zkd g r = kdC r ∧ zln g r = lnC N F r ∧ (r ≠ 0 → zad g r = hs + posC N F r) := H.2.2 r (Or.inl h)
theorem c_geo_cell {g : ZG} {hs N F : Nat} (H : c_geo g hs N F) {k : Nat} (h : k < N) : zkd g (1000 + k) = 0 ∧ zln g (1000 + k) = 0 ∧ zad g (1000 + k) = hs + (1 + k) := by
  obtain ⟨h1, h2, h3⟩ := H.2.2 (1000 + k) (by unfold liveC; omega)
  have hN := H.1
  have hF := H.2.1
  rw [h1, h2, h3 (by omega)]
  refine ⟨?_, ?_, ?_⟩
  · unfold kdC; repeat (first | rw [if_pos (by omega)] | rw [if_neg (by omega)])
  · unfold lnC; repeat (first | rw [if_pos (by omega)] | rw [if_neg (by omega)])
  · unfold posC; (repeat (first | rw [if_pos (by omega)] | rw [if_neg (by omega)])) <;> omega
theorem c_geo_face {g : ZG} {hs N F : Nat} (H : c_geo g hs N F) {k : Nat} (h : k < F) : zkd g (2000 + k) = 1 ∧ zln g (2000 + k) = 0 ∧ zad g (2000 + k) = hs + (15 + N + k) := by
  obtain ⟨h1, h2, h3⟩ := H.2.2 (2000 + k) (by unfold liveC; omega)
  have hN := H.1
  have hF := H.2.1
  rw [h1, h2, h3 (by omega)]
  refine ⟨?_, ?_, ?_⟩
  · unfold kdC; repeat (first | rw [if_pos (by omega)] | rw [if_neg (by omega)])
  · unfold lnC; repeat (first | rw [if_pos (by omega)] | rw [if_neg (by omega)])
  · unfold posC; (repeat (first | rw [if_pos (by omega)] | rw [if_neg (by omega)])) <;> omega
theorem c_geo_side {g : ZG} {hs N F : Nat} (H : c_geo g hs N F) {k : Nat} (h : k < 4) : zkd g (30 + k) = 3 ∧ zln g (30 + k) = 0 ∧ zad g (30 + k) = hs + (2 + N + 3 * k) := by
  obtain ⟨h1, h2, h3⟩ := H.2.2 (30 + k) (by unfold liveC; omega)
  have hN := H.1
  have hF := H.2.1
  rw [h1, h2, h3 (by omega)]
  refine ⟨?_, ?_, ?_⟩
  · unfold kdC; repeat (first | rw [if_pos (by omega)] | rw [if_neg (by omega)])
  · unfold lnC; repeat (first | rw [if_pos (by omega)] | rw [if_neg (by omega)])
  · unfold posC; (repeat (first | rw [if_pos (by omega)] | rw [if_neg (by omega)])) <;> omega
theorem c_geo_size {g : ZG} {hs N F : Nat} (H : c_geo g hs N F) {k : Nat} (h : k < 4) : zkd g (40 + k) = 8 ∧ zln g (40 + k) = 8 ∧ zad g (40 + k) = hs + (3 + N + 3 * k) := by
  obtain ⟨h1, h2, h3⟩ := H.2.2 (40 + k) (by unfold liveC; omega)
  have hN := H.1
  have hF := H.2.1
  rw [h1, h2, h3 (by omega)]
  refine ⟨?_, ?_, ?_⟩
  · unfold kdC; repeat (first | rw [if_pos (by omega)] | rw [if_neg (by omega)])
  · unfold lnC; repeat (first | rw [if_pos (by omega)] | rw [if_neg (by omega)])
  · unfold posC; (repeat (first | rw [if_pos (by omega)] | rw [if_neg (by omega)])) <;> omega
theorem c_geo_phase {g : ZG} {hs N F : Nat} (H : c_geo g hs N F) {k : Nat} (h : k < 4) : zkd g (50 + k) = 8 ∧ zln g (50 + k) = 8 ∧ zad g (50 + k) = hs + (4 + N + 3 * k) := by
  obtain ⟨h1, h2, h3⟩ := H.2.2 (50 + k) (by unfold liveC; omega)
  have hN := H.1
  have hF := H.2.1
  rw [h1, h2, h3 (by omega)]
  refine ⟨?_, ?_, ?_⟩
  · unfold kdC; repeat (first | rw [if_pos (by omega)] | rw [if_neg (by omega)])
  · unfold lnC; repeat (first | rw [if_pos (by omega)] | rw [if_neg (by omega)])
  · unfold posC; (repeat (first | rw [if_pos (by omega)] | rw [if_neg (by omega)])) <;> omega
theorem c_geo_nest {g : ZG} {hs N F : Nat} (H : c_geo g hs N F) {k : Nat} (h : k < 10) : zkd g (60 + k) = 2 ∧ zln g (60 + k) = 0 ∧ zad g (60 + k) = hs + (18 + N + F + 2 * k) := by
  obtain ⟨h1, h2, h3⟩ := H.2.2 (60 + k) (by unfold liveC; omega)
  have hN := H.1
  have hF := H.2.1
  rw [h1, h2, h3 (by omega)]
  refine ⟨?_, ?_, ?_⟩
  · unfold kdC; repeat (first | rw [if_pos (by omega)] | rw [if_neg (by omega)])
  · unfold lnC; repeat (first | rw [if_pos (by omega)] | rw [if_neg (by omega)])
  · unfold posC; (repeat (first | rw [if_pos (by omega)] | rw [if_neg (by omega)])) <;> omega
theorem c_geo_share {g : ZG} {hs N F : Nat} (H : c_geo g hs N F) {k : Nat} (h : k < 10) : zkd g (70 + k) = 10 ∧ zln g (70 + k) = 8 ∧ zad g (70 + k) = hs + (19 + N + F + 2 * k) := by
  obtain ⟨h1, h2, h3⟩ := H.2.2 (70 + k) (by unfold liveC; omega)
  have hN := H.1
  have hF := H.2.1
  rw [h1, h2, h3 (by omega)]
  refine ⟨?_, ?_, ?_⟩
  · unfold kdC; repeat (first | rw [if_pos (by omega)] | rw [if_neg (by omega)])
  · unfold lnC; repeat (first | rw [if_pos (by omega)] | rw [if_neg (by omega)])
  · unfold posC; (repeat (first | rw [if_pos (by omega)] | rw [if_neg (by omega)])) <;> omega
theorem c_geo_state {g : ZG} {hs N F : Nat} (H : c_geo g hs N F) {k : Nat} (h : k < 4) : zkd g (80 + k) = 4 ∧ zln g (80 + k) = 0 ∧ zad g (80 + k) = hs + (39 + N + F + 8 * k) := by
  obtain ⟨h1, h2, h3⟩ := H.2.2 (80 + k) (by unfold liveC; omega)
  have hN := H.1
  have hF := H.2.1
  rw [h1, h2, h3 (by omega)]
  refine ⟨?_, ?_, ?_⟩
  · unfold kdC; repeat (first | rw [if_pos (by omega)] | rw [if_neg (by omega)])
  · unfold lnC; repeat (first | rw [if_pos (by omega)] | rw [if_neg (by omega)])
  · unfold posC; (repeat (first | rw [if_pos (by omega)] | rw [if_neg (by omega)])) <;> omega
theorem c_geo_st5 {g : ZG} {hs N F : Nat} (H : c_geo g hs N F) {k : Nat} (h : k < 4) : zkd g (100 + 10 * k + 5) = 10 ∧ zln g (100 + 10 * k + 5) = 80 ∧ zad g (100 + 10 * k + 5) = hs + (40 + N + F + 8 * k) := by
  obtain ⟨h1, h2, h3⟩ := H.2.2 (100 + 10 * k + 5) (by unfold liveC; omega)
  have hN := H.1
  have hF := H.2.1
  rw [h1, h2, h3 (by omega)]
  refine ⟨?_, ?_, ?_⟩
  · unfold kdC; repeat (first | rw [if_pos (by omega)] | rw [if_neg (by omega)])
  · unfold lnC; repeat (first | rw [if_pos (by omega)] | rw [if_neg (by omega)])
  · unfold posC; (repeat (first | rw [if_pos (by omega)] | rw [if_neg (by omega)])) <;> omega
theorem c_geo_st6 {g : ZG} {hs N F : Nat} (H : c_geo g hs N F) {k : Nat} (h : k < 4) : zkd g (100 + 10 * k + 6) = 10 ∧ zln g (100 + 10 * k + 6) = 4 ∧ zad g (100 + 10 * k + 6) = hs + (41 + N + F + 8 * k) := by
  obtain ⟨h1, h2, h3⟩ := H.2.2 (100 + 10 * k + 6) (by unfold liveC; omega)
  have hN := H.1
  have hF := H.2.1
  rw [h1, h2, h3 (by omega)]
  refine ⟨?_, ?_, ?_⟩
  · unfold kdC; repeat (first | rw [if_pos (by omega)] | rw [if_neg (by omega)])
  · unfold lnC; repeat (first | rw [if_pos (by omega)] | rw [if_neg (by omega)])
  · unfold posC; (repeat (first | rw [if_pos (by omega)] | rw [if_neg (by omega)])) <;> omega
theorem c_geo_st0 {g : ZG} {hs N F : Nat} (H : c_geo g hs N F) {k : Nat} (h : k < 4) : zkd g (100 + 10 * k) = 10 ∧ zln g (100 + 10 * k) = N ∧ zad g (100 + 10 * k) = hs + (42 + N + F + 8 * k) := by
  obtain ⟨h1, h2, h3⟩ := H.2.2 (100 + 10 * k) (by unfold liveC; omega)
  have hN := H.1
  have hF := H.2.1
  rw [h1, h2, h3 (by omega)]
  refine ⟨?_, ?_, ?_⟩
  · unfold kdC; repeat (first | rw [if_pos (by omega)] | rw [if_neg (by omega)])
  · unfold lnC; repeat (first | rw [if_pos (by omega)] | rw [if_neg (by omega)])
  · unfold posC; (repeat (first | rw [if_pos (by omega)] | rw [if_neg (by omega)])) <;> omega
theorem c_geo_st1 {g : ZG} {hs N F : Nat} (H : c_geo g hs N F) {k : Nat} (h : k < 4) : zkd g (100 + 10 * k + 1) = 8 ∧ zln g (100 + 10 * k + 1) = N ∧ zad g (100 + 10 * k + 1) = hs + (43 + N + F + 8 * k) := by
  obtain ⟨h1, h2, h3⟩ := H.2.2 (100 + 10 * k + 1) (by unfold liveC; omega)
  have hN := H.1
  have hF := H.2.1
  rw [h1, h2, h3 (by omega)]
  refine ⟨?_, ?_, ?_⟩
  · unfold kdC; repeat (first | rw [if_pos (by omega)] | rw [if_neg (by omega)])
  · unfold lnC; repeat (first | rw [if_pos (by omega)] | rw [if_neg (by omega)])
  · unfold posC; (repeat (first | rw [if_pos (by omega)] | rw [if_neg (by omega)])) <;> omega
theorem c_geo_st2 {g : ZG} {hs N F : Nat} (H : c_geo g hs N F) {k : Nat} (h : k < 4) : zkd g (100 + 10 * k + 2) = 8 ∧ zln g (100 + 10 * k + 2) = N ∧ zad g (100 + 10 * k + 2) = hs + (44 + N + F + 8 * k) := by
  obtain ⟨h1, h2, h3⟩ := H.2.2 (100 + 10 * k + 2) (by unfold liveC; omega)
  have hN := H.1
  have hF := H.2.1
  rw [h1, h2, h3 (by omega)]
  refine ⟨?_, ?_, ?_⟩
  · unfold kdC; repeat (first | rw [if_pos (by omega)] | rw [if_neg (by omega)])
  · unfold lnC; repeat (first | rw [if_pos (by omega)] | rw [if_neg (by omega)])
  · unfold posC; (repeat (first | rw [if_pos (by omega)] | rw [if_neg (by omega)])) <;> omega
theorem c_geo_st3 {g : ZG} {hs N F : Nat} (H : c_geo g hs N F) {k : Nat} (h : k < 4) : zkd g (100 + 10 * k + 3) = 8 ∧ zln g (100 + 10 * k + 3) = N ∧ zad g (100 + 10 * k + 3) = hs + (45 + N + F + 8 * k) := by
  obtain ⟨h1, h2, h3⟩ := H.2.2 (100 + 10 * k + 3) (by unfold liveC; omega)
  have hN := H.1
  have hF := H.2.1
  rw [h1, h2, h3 (by omega)]
  refine ⟨?_, ?_, ?_⟩
  · unfold kdC; repeat (first | rw [if_pos (by omega)] | rw [if_neg (by omega)])
  · unfold lnC; repeat (first | rw [if_pos (by omega)] | rw [if_neg (by omega)])
  · unfold posC; (repeat (first | rw [if_pos (by omega)] | rw [if_neg (by omega)])) <;> omega
theorem c_geo_st4 {g : ZG} {hs N F : Nat} (H : c_geo g hs N F) {k : Nat} (h : k < 4) : zkd g (100 + 10 * k + 4) = 8 ∧ zln g (100 + 10 * k + 4) = F ∧ zad g (100 + 10 * k + 4) = hs + (46 + N + F + 8 * k) := by
  obtain ⟨h1, h2, h3⟩ := H.2.2 (100 + 10 * k + 4) (by unfold liveC; omega)
  have hN := H.1
  have hF := H.2.1
  rw [h1, h2, h3 (by omega)]
  refine ⟨?_, ?_, ?_⟩
  · unfold kdC; repeat (first | rw [if_pos (by omega)] | rw [if_neg (by omega)])
  · unfold lnC; repeat (first | rw [if_pos (by omega)] | rw [if_neg (by omega)])
  · unfold posC; (repeat (first | rw [if_pos (by omega)] | rw [if_neg (by omega)])) <;> omega
