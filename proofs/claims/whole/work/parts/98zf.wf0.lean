theorem cells_e {m : ZMem} {k : Nat} : ∀ {n : Nat}, n ≤ k → zR (zit c_cells n m) (1) (k) = zR m (1) (k)
  | 0, _ => rfl
  | n + 1, h_ => by
    have ih := cells_e (m := m) (k := k) (n := n) (by omega)
    revert ih
    show _ → zR (c_cells n (zit c_cells n m)) (1) (k) = _
    generalize zit c_cells n m = M
    intro ih
    unfold c_cells
    simp only [zR_sR, zR_sI, true_and, and_true, and_self, if_true]
    repeat (first | rw [if_pos (by omega)] | rw [if_neg (by omega)])
    exact ih
theorem sides_e {m : ZMem} {k : Nat} : ∀ {n : Nat}, n ≤ k → zR (zit c_sides n m) (3) (k) = zR m (3) (k)
  | 0, _ => rfl
  | n + 1, h_ => by
    have ih := sides_e (m := m) (k := k) (n := n) (by omega)
    revert ih
    show _ → zR (c_sides n (zit c_sides n m)) (3) (k) = _
    generalize zit c_sides n m = M
    intro ih
    unfold c_sides
    simp only [zR_sR, zR_sI, true_and, and_true, and_self, if_true]
    repeat (first | rw [if_pos (by omega)] | rw [if_neg (by omega)])
    exact ih
theorem sides_e2 {m : ZMem} {k b : Nat} : ∀ {n : Nat}, 2 ≤ b → zR (zit c_sides n m) (30 + k) (b) = zR m (30 + k) (b)
  | 0, _ => rfl
  | n + 1, h_ => by
    have ih := sides_e2 (m := m) (k := k) (b := b) (n := n) (by omega)
    revert ih
    show _ → zR (c_sides n (zit c_sides n m)) (30 + k) (b) = _
    generalize zit c_sides n m = M
    intro ih
    unfold c_sides
    simp only [zR_sR, zR_sI, true_and, and_true, and_self, if_true]
    repeat (first | rw [if_pos (by omega)] | rw [if_neg (by omega)])
    exact ih
theorem face_e (w h : Nat) {m : ZMem} {k : Nat} : ∀ {n : Nat}, n ≤ k → zR (zit (c_face w h) n m) (2) (k) = zR m (2) (k)
  | 0, _ => rfl
  | n + 1, h_ => by
    have ih := face_e w h (m := m) (k := k) (n := n) (by omega)
    revert ih
    show _ → zR (c_face w h n (zit (c_face w h) n m)) (2) (k) = _
    generalize zit (c_face w h) n m = M
    intro ih
    unfold c_face
    simp only [zR_sR, zR_sI, true_and, and_true, and_self, if_true]
    repeat (first | rw [if_pos (by omega)] | rw [if_neg (by omega)])
    exact ih
theorem face_e2 (w h : Nat) {m : ZMem} {k b : Nat} : ∀ {n : Nat}, 3 ≤ b → zR (zit (c_face w h) n m) (2000 + k) (b) = zR m (2000 + k) (b)
  | 0, _ => rfl
  | n + 1, h_ => by
    have ih := face_e2 w h (m := m) (k := k) (b := b) (n := n) (by omega)
    revert ih
    show _ → zR (c_face w h n (zit (c_face w h) n m)) (2000 + k) (b) = _
    generalize zit (c_face w h) n m = M
    intro ih
    unfold c_face
    simp only [zR_sR, zR_sI, true_and, and_true, and_self, if_true]
    repeat (first | rw [if_pos (by omega)] | rw [if_neg (by omega)])
    exact ih
theorem nests_e {m : ZMem} {k : Nat} : ∀ {n : Nat}, n ≤ k → zR (zit c_nests n m) (6) (k) = zR m (6) (k)
  | 0, _ => rfl
  | n + 1, h_ => by
    have ih := nests_e (m := m) (k := k) (n := n) (by omega)
    revert ih
    show _ → zR (c_nests n (zit c_nests n m)) (6) (k) = _
    generalize zit c_nests n m = M
    intro ih
    unfold c_nests
    simp only [zR_sR, zR_sI, true_and, and_true, and_self, if_true]
    repeat (first | rw [if_pos (by omega)] | rw [if_neg (by omega)])
    exact ih
theorem states_e {m : ZMem} {k : Nat} : ∀ {n : Nat}, n ≤ k → zR (zit c_states n m) (7) (k) = zR m (7) (k)
  | 0, _ => rfl
  | n + 1, h_ => by
    have ih := states_e (m := m) (k := k) (n := n) (by omega)
    revert ih
    show _ → zR (c_states n (zit c_states n m)) (7) (k) = _
    generalize zit c_states n m = M
    intro ih
    unfold c_states c_state
    simp only [zR_sR, zR_sI, true_and, and_true, and_self, if_true]
    repeat (first | rw [if_pos (by omega)] | rw [if_neg (by omega)])
    exact ih
theorem states_e2 {m : ZMem} {k b : Nat} : ∀ {n : Nat}, 7 ≤ b → zR (zit c_states n m) (80 + k) (b) = zR m (80 + k) (b)
  | 0, _ => rfl
  | n + 1, h_ => by
    have ih := states_e2 (m := m) (k := k) (b := b) (n := n) (by omega)
    revert ih
    show _ → zR (c_states n (zit c_states n m)) (80 + k) (b) = _
    generalize zit c_states n m = M
    intro ih
    unfold c_states c_state
    simp only [zR_sR, zR_sI, true_and, and_true, and_self, if_true]
    repeat (first | rw [if_pos (by omega)] | rw [if_neg (by omega)])
    exact ih
theorem x6e_1 (w h : Nat) (ly : Int32) {k : Nat} (hc : w * h ≤ k) : zR (c_X6 w h ly) (1) (k) = none := by
  rw [c6_R0 w h ly (by omega), c_states_Ro (by omega), c6_R1 w h ly (by omega), c_nests_Ro (by omega), c6_R2 w h ly (by omega), c_face_Ro w h (by omega), c6_R3 w h ly (by omega), c_sides_Ro (by omega), cells_e hc]
  rfl
theorem x6e_3 (w h : Nat) (ly : Int32) {k : Nat} (hc : 4 ≤ k) : zR (c_X6 w h ly) (3) (k) = none := by
  rw [c6_R0 w h ly (by omega), c_states_Ro (by omega), c6_R1 w h ly (by omega), c_nests_Ro (by omega), c6_R2 w h ly (by omega), c_face_Ro w h (by omega), c6_R3 w h ly (by omega), sides_e hc, c_cells_Ro (by omega)]
  rfl
theorem x6e_30 (w h : Nat) (ly : Int32) {k b : Nat} (hc : k < 4 ∧ 2 ≤ b) : zR (c_X6 w h ly) (30 + k) (b) = none := by
  rw [c6_R0 w h ly (by omega), c_states_Ro (by omega), c6_R1 w h ly (by omega), c_nests_Ro (by omega), c6_R2 w h ly (by omega), c_face_Ro w h (by omega), c6_R3 w h ly (by omega), sides_e2 hc.2, c_cells_Ro (by omega)]
  rfl
theorem x6e_2 (w h : Nat) (ly : Int32) {k : Nat} (hc : fcA w h ≤ k) : zR (c_X6 w h ly) (2) (k) = none := by
  rw [c6_R0 w h ly (by omega), c_states_Ro (by omega), c6_R1 w h ly (by omega), c_nests_Ro (by omega), c6_R2 w h ly (by omega), face_e w h hc, c6_R3 w h ly (by omega), c_sides_Ro (by omega), c_cells_Ro (by omega)]
  rfl
theorem x6e_2000 (w h : Nat) (ly : Int32) {k b : Nat} (hc : 3 ≤ b) : zR (c_X6 w h ly) (2000 + k) (b) = none := by
  rw [c6_R0 w h ly (by omega), c_states_Ro (by omega), c6_R1 w h ly (by omega), c_nests_Ro (by omega), c6_R2 w h ly (by omega), face_e2 w h hc, c6_R3 w h ly (by omega), c_sides_Ro (by omega), c_cells_Ro (by omega)]
  rfl
theorem x6e_6 (w h : Nat) (ly : Int32) {k : Nat} (hc : 10 ≤ k) : zR (c_X6 w h ly) (6) (k) = none := by
  rw [c6_R0 w h ly (by omega), c_states_Ro (by omega), c6_R1 w h ly (by omega), nests_e hc, c6_R2 w h ly (by omega), c_face_Ro w h (by omega), c6_R3 w h ly (by omega), c_sides_Ro (by omega), c_cells_Ro (by omega)]
  rfl
theorem x6e_7 (w h : Nat) (ly : Int32) {k : Nat} (hc : 4 ≤ k) : zR (c_X6 w h ly) (7) (k) = none := by
  rw [c6_R0 w h ly (by omega), states_e hc, c6_R1 w h ly (by omega), c_nests_Ro (by omega), c6_R2 w h ly (by omega), c_face_Ro w h (by omega), c6_R3 w h ly (by omega), c_sides_Ro (by omega), c_cells_Ro (by omega)]
  rfl
theorem x6e_80 (w h : Nat) (ly : Int32) {k b : Nat} (hc : k < 4 ∧ 7 ≤ b) : zR (c_X6 w h ly) (80 + k) (b) = none := by
  rw [c6_R0 w h ly (by omega), states_e2 hc.2, c6_R1 w h ly (by omega), c_nests_Ro (by omega), c6_R2 w h ly (by omega), c_face_Ro w h (by omega), c6_R3 w h ly (by omega), c_sides_Ro (by omega), c_cells_Ro (by omega)]
  rfl
theorem x6_row0 (w h : Nat) (ly : Int32) (k : Nat) : zR (c_X6 w h ly) 0 k = if k = 10 then some 8 else if k = 9 then some 7 else if k = 8 then some 6 else if k = 7 then some 5 else if k = 6 then some 4 else if k = 4 then some 2 else if k = 5 then some 3 else if k = 3 then some 1 else none := by
  have e : zR (c_X6 w h ly) 0 k = if k = 10 then some 8 else if k = 9 then some 7 else zR (c_m13 w h ly) 0 k := by
    unfold c_X6 c_tide
    simp only [zR_sR, m5_R, true_and]
    rw [if_neg (show ¬ (0 = 8 ∧ k = 6) by omega), if_neg (show ¬ (0 = 8 ∧ k = 5) by omega), if_neg (show ¬ (0 = 8 ∧ k = 4) by omega), if_neg (show ¬ (0 = 8 ∧ k = 3) by omega), if_neg (show ¬ (0 = 8 ∧ k = 2) by omega), if_neg (show ¬ (0 = 11 ∧ k < 5) by omega), if_neg (show ¬ (0 = 8 ∧ k = 1) by omega), if_neg (show ¬ (0 = 8 ∧ k = 0) by omega)]
    unfold c_m15
    simp only [zR_sR, true_and]
    rw [c_states_Ro (by omega)]
  have e2 : zR (c_m13 w h ly) 0 k = if k = 8 then some 6 else if k = 7 then some 5 else if k = 6 then some 4 else if k = 4 then some 2 else if k = 5 then some 3 else if k = 3 then some 1 else none := by
    unfold c_m13
    simp only [zR_sR, true_and]
    rw [c_nests_Ro (by omega)]
    unfold c_m11
    simp only [zR_sR, true_and]
    rw [c_face_Ro w h (by omega)]
    unfold c_m7
    simp only [zR_sR, zR_sI, true_and]
    rw [c_sides_Ro (by omega), c_cells_Ro (by omega)]
    rfl
  rw [e, e2]
theorem x6_row8 (w h : Nat) (ly : Int32) (k : Nat) : zR (c_X6 w h ly) 8 k = if k = 6 then some 20 else if k = 5 then some 19 else if k = 4 then some 18 else if k = 3 then some 17 else if k = 2 then some 11 else if k = 1 then some 10 else if k = 0 then some 9 else none := by
  unfold c_X6 c_tide
  simp only [zR_sR, m5_R, true_and]
  rw [if_neg (show ¬ (8 = 0 ∧ k = 10) by omega), if_neg (show ¬ (8 = 11 ∧ k < 5) by omega)]
  have e : zR (c_m15 w h ly) 8 k = none := by
    unfold c_m15
    rw [zR_sR, if_neg (by omega), c_states_Ro (by omega), c6_R1 w h ly (by omega), c_nests_Ro (by omega), c6_R2 w h ly (by omega), c_face_Ro w h (by omega), c6_R3 w h ly (by omega), c_sides_Ro (by omega), c_cells_Ro (by omega)]
    rfl
  rw [e]
theorem x6_row11 (w h : Nat) (ly : Int32) (k : Nat) : zR (c_X6 w h ly) 11 k = if k < 5 then some (12 + k) else none := by
  unfold c_X6 c_tide
  simp only [zR_sR, m5_R, true_and]
  have e : zR (c_m15 w h ly) 11 k = none := by
    unfold c_m15
    rw [zR_sR, if_neg (by omega), c_states_Ro (by omega), c6_R1 w h ly (by omega), c_nests_Ro (by omega), c6_R2 w h ly (by omega), c_face_Ro w h (by omega), c6_R3 w h ly (by omega), c_sides_Ro (by omega), c_cells_Ro (by omega)]
    rfl
  rw [e]
  by_cases h5 : k < 5
  · repeat (first | rw [if_pos (by omega)] | rw [if_neg (by omega)])
  · repeat (first | rw [if_pos (by omega)] | rw [if_neg (by omega)])
theorem fBef_in {w h n c : Nat} (hd : zDim w h) (hn : n < fcA w h) (e : fBef w h n = some c) : ∃ k, k < w * h ∧ c = 1000 + k := by
  obtain ⟨hw1, hw2, hh1, hh2⟩ := hd
  have hF : fcA w h = fc1 w h + 2 * w + 2 * h := rfl
  have e1 : fc1 w h = fc0 w h + w * (h - 1) := rfl
  have e0 : fc0 w h = (w - 1) * h := rfl
  have hm : ∀ y, y < h → y * w + w ≤ w * h := fun y hy => by
    have h1 := Nat.mul_le_mul_right w (show y + 1 ≤ h by omega)
    rw [Nat.succ_mul, Nat.mul_comm h w] at h1
    exact h1
  have hp : w * (h - 1) + w = w * h := by
    obtain ⟨q, rfl⟩ : ∃ q, h = q + 1 := ⟨h - 1, by omega⟩
    rw [Nat.add_sub_cancel, Nat.mul_succ]
  unfold fBef at e
  split at e
  · rename_i h0
    cases e
    refine ⟨_, ?_, rfl⟩
    have hw : 0 < w - 1 := by
      rcases Nat.eq_zero_or_pos (w - 1) with q | q
      · rw [e0, q, Nat.zero_mul] at h0; omega
      · exact q
    have h1 : n / (w - 1) < h := Nat.div_lt_of_lt_mul (by rw [← e0]; exact h0)
    have h2 := Nat.mod_lt n hw
    have := hm _ h1
    omega
  · split at e
    · cases e
      exact ⟨_, by omega, rfl⟩
    · split at e
      · cases e
      · split at e
        · cases e
          refine ⟨(n - fc1 w h - h) * w + w - 1, ?_, by have := hm (n - fc1 w h - h) (by omega); omega⟩
          have := hm (n - fc1 w h - h) (by omega)
          omega
        · split at e
          · cases e
          · cases e
            refine ⟨_, ?_, rfl⟩
            have := hm (h - 1) (by omega)
            omega
theorem fBeh_in {w h n c : Nat} (hd : zDim w h) (hn : n < fcA w h) (e : fBeh w h n = some c) : ∃ k, k < w * h ∧ c = 1000 + k := by
  obtain ⟨hw1, hw2, hh1, hh2⟩ := hd
  have hF : fcA w h = fc1 w h + 2 * w + 2 * h := rfl
  have e1 : fc1 w h = fc0 w h + w * (h - 1) := rfl
  have e0 : fc0 w h = (w - 1) * h := rfl
  have hm : ∀ y, y < h → y * w + w ≤ w * h := fun y hy => by
    have h1 := Nat.mul_le_mul_right w (show y + 1 ≤ h by omega)
    rw [Nat.succ_mul, Nat.mul_comm h w] at h1
    exact h1
  have hp : w * (h - 1) + w = w * h := by
    obtain ⟨q, rfl⟩ : ∃ q, h = q + 1 := ⟨h - 1, by omega⟩
    rw [Nat.add_sub_cancel, Nat.mul_succ]
  unfold fBeh at e
  split at e
  · rename_i h0
    cases e
    refine ⟨n / (w - 1) * w + n % (w - 1) + 1, ?_, rfl⟩
    have hw : 0 < w - 1 := by
      rcases Nat.eq_zero_or_pos (w - 1) with q | q
      · rw [e0, q, Nat.zero_mul] at h0; omega
      · exact q
    have h1 : n / (w - 1) < h := Nat.div_lt_of_lt_mul (by rw [← e0]; exact h0)
    have h2 := Nat.mod_lt n hw
    have := hm _ h1
    omega
  · split at e
    · cases e
      exact ⟨n - fc0 w h + w, by omega, rfl⟩
    · split at e
      · cases e
        refine ⟨_, ?_, rfl⟩
        have := hm (n - fc1 w h) (by omega)
        omega
      · split at e
        · cases e
        · split at e
          · cases e
            refine ⟨_, ?_, rfl⟩
            have := hm 0 (by omega)
            omega
          · cases e
theorem fSid_in {w h n c : Nat} (e : fSid w h n = some c) : ∃ k, k < 4 ∧ c = 30 + k := by
  unfold fSid at e
  split at e
  · cases e
  · split at e
    · cases e; exact ⟨0, by decide, rfl⟩
    · split at e
      · cases e; exact ⟨1, by decide, rfl⟩
      · split at e
        · cases e; exact ⟨2, by decide, rfl⟩
        · cases e; exact ⟨3, by decide, rfl⟩
