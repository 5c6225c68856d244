theorem nests_b {m : ZMem} {k b : Nat} : ∀ {n : Nat}, k < n → b ≠ 0 → zR (zit c_nests n m) (60 + k) b = zR m (60 + k) b
  | 0, h_, _ => absurd h_ (Nat.not_lt_zero _)
  | n + 1, h_, hb => by
    show zR (c_nests n (zit c_nests n m)) (60 + k) b = _
    by_cases e : k = n
    · subst e
      have ih := c_nests_Ro (m := m) (a := 60 + k) (b := b) (n := k) (by omega)
      revert ih
      generalize zit c_nests k m = M
      intro ih
      unfold c_nests
      simp only [zR_sR]
      repeat (first | rw [if_pos (by omega)] | rw [if_neg (by omega)])
      exact ih
    · have ih := nests_b (m := m) (k := k) (b := b) (n := n) (by omega) hb
      revert ih
      generalize zit c_nests n m = M
      intro ih
      unfold c_nests
      simp only [zR_sR]
      repeat (first | rw [if_pos (by omega)] | rw [if_neg (by omega)])
      exact ih
theorem m5_D (m : ZMem) (a b : Nat) : zD (zm5 m) a b = zD m a b := rfl
theorem m5_L (m : ZMem) (a b : Nat) : zL (zm5 m) a b = zL m a b := rfl
theorem m5_I (m : ZMem) (a b : Nat) : zI (zm5 m) a b = zI m a b := rfl
theorem m5_R (m : ZMem) (a b : Nat) : zR (zm5 m) a b = if a = 11 ∧ b < 5 then some (12 + b) else zR m a b := rfl
section C6
variable (w h : Nat) (ly : Int32)
theorem c6_D (a b : Nat) : zD (c_X6 w h ly) a b = 0 := by
  unfold c_X6 c_tide
  simp only [zD_sR, m5_D]
  unfold c_m15
  rw [zD_sR, c_states_Do]
  unfold c_m13
  rw [zD_sR, c_nests_Do]
  unfold c_m11
  simp only [zD_sR]
  rw [c_face_Do]
  unfold c_m7
  simp only [zD_sR, zD_sI]
  rw [c_sides_Do, c_cells_Do]
  rfl
theorem c6_L (a b : Nat) : zL (c_X6 w h ly) a b = 0 := by
  unfold c_X6 c_tide
  simp only [zL_sR, m5_L]
  unfold c_m15
  rw [zL_sR, c_states_Lo]
  unfold c_m13
  rw [zL_sR, c_nests_Lo]
  unfold c_m11
  simp only [zL_sR]
  rw [c_face_Lo]
  unfold c_m7
  simp only [zL_sR, zL_sI]
  rw [c_sides_Lo, c_cells_Lo]
  rfl
theorem c6_I0 (a b : Nat) : zI (c_X6 w h ly) a b = zI (zit c_states 4 (c_m13 w h ly)) a b := by
  unfold c_X6 c_tide
  simp only [zI_sR, m5_I]
  unfold c_m15
  rw [zI_sR]
theorem c6_I1 (a b : Nat) : zI (c_m13 w h ly) a b = zI (zit (c_face w h) (fcA w h) (c_m7 w h ly)) a b := by
  unfold c_m13
  rw [zI_sR, c_nests_Io]
  unfold c_m11
  simp only [zI_sR]
theorem c6_I2 (a b : Nat) : zI (c_m7 w h ly) a b = if a = 0 ∧ b = 2 then ly else if a = 0 ∧ b = 1 then nI h else if a = 0 ∧ b = 0 then nI w else 0 := by
  unfold c_m7
  simp only [zI_sR, zI_sI]
  rw [c_sides_Io, c_cells_Io]
  rfl
theorem c6_I {a b : Nat} (h1 : a < 80 ∨ 84 ≤ a) (h2 : a < 2000) (h3 : a ≠ 0 ∨ 3 ≤ b) : zI (c_X6 w h ly) a b = 0 := by
  rw [c6_I0, c_states_Io (by omega), c6_I1, c_face_Io w h (by omega), c6_I2]
  repeat (first | rw [if_pos (by omega)] | rw [if_neg (by omega)])
theorem c6_Iw : zI (c_X6 w h ly) 0 0 = nI w ∧ zI (c_X6 w h ly) 0 1 = nI h ∧ zI (c_X6 w h ly) 0 2 = ly := by
  refine ⟨?_, ?_, ?_⟩ <;> (rw [c6_I0, c_states_Io (by omega), c6_I1, c_face_Io w h (by omega), c6_I2] <;> rfl)
theorem c6_Ich {T : Nat} (hT : T < 4) : zI (c_X6 w h ly) (80 + T) 9 = -1 := by
  rw [c6_I0, c_states_r1 hT]
theorem c6_Iax {n : Nat} (hn : n < fcA w h) : zI (c_X6 w h ly) (2000 + n) 3 = fAxi w h n := by
  rw [c6_I0, c_states_Io (by omega), c6_I1, c_face_r4 w h hn]
/-- the references, row by row -/
theorem c6_R0 {a b : Nat} (h0 : a ≠ 0 ∧ a ≠ 8 ∧ a ≠ 11) : zR (c_X6 w h ly) a b = zR (zit c_states 4 (c_m13 w h ly)) a b := by
  unfold c_X6 c_tide
  simp only [zR_sR, m5_R]
  repeat (first | rw [if_pos (by omega)] | rw [if_neg (by omega)])
  unfold c_m15
  rw [zR_sR]
  repeat (first | rw [if_pos (by omega)] | rw [if_neg (by omega)])
theorem c6_R1 {a b : Nat} (h0 : a ≠ 0) : zR (c_m13 w h ly) a b = zR (zit c_nests 10 (c_m11 w h ly)) a b := by
  unfold c_m13
  rw [zR_sR]
  repeat (first | rw [if_pos (by omega)] | rw [if_neg (by omega)])
theorem c6_R2 {a b : Nat} (h0 : a ≠ 0) : zR (c_m11 w h ly) a b = zR (zit (c_face w h) (fcA w h) (c_m7 w h ly)) a b := by
  unfold c_m11
  simp only [zR_sR]
  repeat (first | rw [if_pos (by omega)] | rw [if_neg (by omega)])
theorem c6_R3 {a b : Nat} (h0 : a ≠ 0) : zR (c_m7 w h ly) a b = zR (zit c_sides 4 (zit c_cells (w * h) zM0)) a b := by
  unfold c_m7
  simp only [zR_sR, zR_sI]
  repeat (first | rw [if_pos (by omega)] | rw [if_neg (by omega)])
theorem c6_Rz {a b : Nat} (h1 : (9 ≤ a ∧ a ≠ 11 ∧ a < 30) ∨ (34 ≤ a ∧ a < 60) ∨ (70 ≤ a ∧ a < 80) ∨ (84 ≤ a ∧ a < 2000)) : zR (c_X6 w h ly) a b = none := by
  rw [c6_R0 w h ly (by omega), c_states_Ro (by omega), c6_R1 w h ly (by omega), c_nests_Ro (by omega), c6_R2 w h ly (by omega), c_face_Ro w h (by omega), c6_R3 w h ly (by omega), c_sides_Ro (by omega), c_cells_Ro (by omega)]
  rfl
theorem c6_R60 {k b : Nat} (hk : k < 10) (hb : b ≠ 0) : zR (c_X6 w h ly) (60 + k) b = none := by
  rw [c6_R0 w h ly (by omega), c_states_Ro (by omega), c6_R1 w h ly (by omega), nests_b hk hb, c6_R2 w h ly (by omega), c_face_Ro w h (by omega), c6_R3 w h ly (by omega), c_sides_Ro (by omega), c_cells_Ro (by omega)]
  rfl
theorem c6_r1 {k : Nat} (hk : k < w * h) : zR (c_X6 w h ly) 1 k = some (1000 + k) := by
  rw [c6_R0 w h ly (by omega), c_states_Ro (by omega), c6_R1 w h ly (by omega), c_nests_Ro (by omega), c6_R2 w h ly (by omega), c_face_Ro w h (by omega), c6_R3 w h ly (by omega), c_sides_Ro (by omega), c_cells_r0 hk]
theorem c6_r3 {k : Nat} (hk : k < 4) : zR (c_X6 w h ly) 3 k = some (30 + k) ∧ zR (c_X6 w h ly) (30 + k) 0 = some (40 + k) ∧ zR (c_X6 w h ly) (30 + k) 1 = some (50 + k) := by
  refine ⟨?_, ?_, ?_⟩
  · rw [c6_R0 w h ly (by omega), c_states_Ro (by omega), c6_R1 w h ly (by omega), c_nests_Ro (by omega), c6_R2 w h ly (by omega), c_face_Ro w h (by omega), c6_R3 w h ly (by omega), c_sides_r0 hk]
  · rw [c6_R0 w h ly (by omega), c_states_Ro (by omega), c6_R1 w h ly (by omega), c_nests_Ro (by omega), c6_R2 w h ly (by omega), c_face_Ro w h (by omega), c6_R3 w h ly (by omega), c_sides_r1 hk]
  · rw [c6_R0 w h ly (by omega), c_states_Ro (by omega), c6_R1 w h ly (by omega), c_nests_Ro (by omega), c6_R2 w h ly (by omega), c_face_Ro w h (by omega), c6_R3 w h ly (by omega), c_sides_r2 hk]
theorem c6_r2 {n : Nat} (hn : n < fcA w h) : zR (c_X6 w h ly) 2 n = some (2000 + n) ∧ zR (c_X6 w h ly) (2000 + n) 0 = fBef w h n ∧ zR (c_X6 w h ly) (2000 + n) 1 = fBeh w h n ∧ zR (c_X6 w h ly) (2000 + n) 2 = fSid w h n := by
  refine ⟨?_, ?_, ?_, ?_⟩
  · rw [c6_R0 w h ly (by omega), c_states_Ro (by omega), c6_R1 w h ly (by omega), c_nests_Ro (by omega), c6_R2 w h ly (by omega), c_face_r0 w h hn]
  · rw [c6_R0 w h ly (by omega), c_states_Ro (by omega), c6_R1 w h ly (by omega), c_nests_Ro (by omega), c6_R2 w h ly (by omega), c_face_r1 w h hn]
  · rw [c6_R0 w h ly (by omega), c_states_Ro (by omega), c6_R1 w h ly (by omega), c_nests_Ro (by omega), c6_R2 w h ly (by omega), c_face_r2 w h hn]
  · rw [c6_R0 w h ly (by omega), c_states_Ro (by omega), c6_R1 w h ly (by omega), c_nests_Ro (by omega), c6_R2 w h ly (by omega), c_face_r3 w h hn]
theorem c6_r6 {k : Nat} (hk : k < 10) : zR (c_X6 w h ly) 6 k = some (60 + k) ∧ zR (c_X6 w h ly) (60 + k) 0 = some (70 + k) := by
  refine ⟨?_, ?_⟩
  · rw [c6_R0 w h ly (by omega), c_states_Ro (by omega), c6_R1 w h ly (by omega), c_nests_r0 hk]
  · rw [c6_R0 w h ly (by omega), c_states_Ro (by omega), c6_R1 w h ly (by omega), c_nests_r1 hk]
theorem c6_r7 {k : Nat} (hk : k < 4) : zR (c_X6 w h ly) 7 k = some (80 + k) ∧ ∀ j, j < 7 → zR (c_X6 w h ly) (80 + k) j = some (100 + 10 * k + j) := by
  refine ⟨?_, fun j hj => ?_⟩
  · rw [c6_R0 w h ly (by omega), c_states_r0 hk]
  · rw [c6_R0 w h ly (by omega), c_states_r2 hk hj]
theorem c6_r8 : zR (c_X6 w h ly) 8 0 = some 9 ∧ zR (c_X6 w h ly) 8 1 = some 10 ∧ zR (c_X6 w h ly) 8 2 = some 11 ∧ zR (c_X6 w h ly) 8 3 = some 17 ∧ zR (c_X6 w h ly) 8 4 = some 18 ∧ zR (c_X6 w h ly) 8 5 = some 19 ∧ zR (c_X6 w h ly) 8 6 = some 20 ∧ ∀ k, k < 5 → zR (c_X6 w h ly) 11 k = some (12 + k) := by
  refine ⟨rfl, rfl, rfl, rfl, rfl, rfl, rfl, fun k hk => ?_⟩
  unfold c_X6 c_tide
  simp only [zR_sR, m5_R, true_and]
  repeat (first | rw [if_pos (by omega)] | rw [if_neg (by omega)])
theorem c6_r0 {k : Nat} (hk : k < 8) : zR (c_X6 w h ly) 0 (3 + k) = some (1 + k) := by
  have e : zR (c_X6 w h ly) 0 (3 + k) = if 3 + k = 10 then some 8 else if 3 + k = 9 then some 7 else zR (c_m13 w h ly) 0 (3 + k) := by
    unfold c_X6 c_tide
    simp only [zR_sR, m5_R, true_and]
    rw [if_neg (show ¬ (0 = 8 ∧ 3 + k = 6) by omega), if_neg (show ¬ (0 = 8 ∧ 3 + k = 5) by omega), if_neg (show ¬ (0 = 8 ∧ 3 + k = 4) by omega), if_neg (show ¬ (0 = 8 ∧ 3 + k = 3) by omega), if_neg (show ¬ (0 = 8 ∧ 3 + k = 2) by omega), if_neg (show ¬ (0 = 11 ∧ 3 + k < 5) by omega), if_neg (show ¬ (0 = 8 ∧ 3 + k = 1) by omega), if_neg (show ¬ (0 = 8 ∧ 3 + k = 0) by omega)]
    unfold c_m15
    simp only [zR_sR, true_and]
    rw [c_states_Ro (by omega)]
  have e2 : zR (c_m13 w h ly) 0 (3 + k) = if 3 + k = 8 then some 6 else if 3 + k = 7 then some 5 else if 3 + k = 6 then some 4 else if 3 + k = 4 then some 2 else if 3 + k = 5 then some 3 else if 3 + k = 3 then some 1 else none := by
    unfold c_m13
    simp only [zR_sR, true_and]
    rw [c_nests_Ro (by omega)]
    unfold c_m11
    simp only [zR_sR, true_and]
    rw [c_face_Ro w h (by omega)]
    unfold c_m7
    simp only [zR_sR, zR_sI, true_and]
    rw [c_sides_Ro (by omega), c_cells_Ro (by omega)]
    rfl
  rw [e, e2]
  rcases (show k = 0 ∨ k = 1 ∨ k = 2 ∨ k = 3 ∨ k = 4 ∨ k = 5 ∨ k = 6 ∨ k = 7 by omega) with q | q | q | q | q | q | q | q <;> subst q <;> rfl
end C6
theorem c7_D (w h : Nat) (ly : Int32) (a b : Nat) : zD (c_X7 w h ly) a b = 0 := rfl
theorem c7_L (w h : Nat) (ly : Int32) (a b : Nat) : zL (c_X7 w h ly) a b = 0 := rfl
theorem c7_I (w h : Nat) (ly : Int32) {a b : Nat} (h3 : a ≠ 0 ∨ 3 ≤ b) : zI (c_X7 w h ly) a b = 0 := by
  unfold c_X7
  simp only [zI_sI]
  repeat (first | rw [if_pos (by omega)] | rw [if_neg (by omega)])
  rfl
theorem c7_R (w h : Nat) (ly : Int32) (k : Nat) (hk : (kdM (k + 1) == 99) = false) : zR (c_X7 w h ly) 0 k = some (k + 1) := by
  have h50 : k < 50 := Decidable.byContradiction (fun q => by
    have e : kdM (k + 1) = 99 := by
      unfold kdM
      rw [List.getD_eq_getElem?_getD, List.getElem?_eq_none (by simp only [List.length_cons, List.length_nil]; omega)]
      rfl
    rw [e] at hk
    exact absurd hk (by decide))
  have h : ∀ k : Fin 50, (kdM (k.val + 1) == 99) = false → zR c_M7_36 0 k.val = some (k.val + 1) := by decide +kernel
  exact h ⟨k, h50⟩ hk
