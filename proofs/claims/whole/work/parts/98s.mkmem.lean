def zM0 : ZMem := (fun _ _ => 0, fun _ _ => 0, fun _ _ => 0, fun _ _ => none)
theorem zM0_zr (r : Nat) : zZr zM0 r := fun _ => ⟨rfl, rfl, rfl, rfl⟩
theorem c_cells_Ro {m : ZMem} {a b : Nat} : ∀ {n : Nat}, a ≠ 1 → zR (zit c_cells n m) a b = zR m a b
  | 0, _ => rfl
  | n + 1, h_ => by
    have ih := c_cells_Ro (m := m) (a := a) (b := b) (n := n) (by omega)
    revert ih
    show _ → zR (c_cells n (zit c_cells n m)) a b = _
    generalize zit c_cells n m = M
    intro ih
    unfold c_cells
    simp only [zR_sR, zR_sI, zI_sR, zI_sI, zR_sD, zI_sD, true_and, and_true, and_self, if_true]
    repeat (first | rw [if_pos (by omega)] | rw [if_neg (by omega)])
    exact ih
theorem c_cells_Io {m : ZMem} {a b : Nat} : ∀ {n : Nat}, zI (zit c_cells n m) a b = zI m a b
  | 0 => rfl
  | n + 1 => c_cells_Io (n := n)
theorem c_cells_Lo {m : ZMem} {a b : Nat} : ∀ {n : Nat}, zL (zit c_cells n m) a b = zL m a b
  | 0 => rfl
  | n + 1 => c_cells_Lo (n := n)
theorem c_cells_Do {m : ZMem} {a b : Nat} : ∀ {n : Nat}, zD (zit c_cells n m) a b = zD m a b
  | 0 => rfl
  | n + 1 => c_cells_Do (n := n)
theorem c_cells_r0 {m : ZMem} {k : Nat} : ∀ {n : Nat}, k < n → zR (zit c_cells n m) (1) (k) = some (1000 + k)
  | 0, h_ => absurd h_ (Nat.not_lt_zero _)
  | n + 1, h_ => by
    show zR (c_cells n (zit c_cells n m)) (1) (k) = _
    by_cases e : k = n
    · subst e
      generalize zit c_cells k m = M
      unfold c_cells
      simp only [zR_sR, zR_sI, zI_sR, zI_sI, zR_sD, zI_sD, true_and, and_true, and_self, if_true]
      repeat (first | rw [if_pos (by omega)] | rw [if_neg (by omega)])
    · have ih := c_cells_r0 (m := m) (k := k) (n := n) (by omega)
      revert ih
      generalize zit c_cells n m = M
      intro ih
      unfold c_cells
      simp only [zR_sR, zR_sI, zI_sR, zI_sI, zR_sD, zI_sD, true_and, and_true, and_self, if_true]
      repeat (first | rw [if_pos (by omega)] | rw [if_neg (by omega)])
      exact ih
theorem c_cells_zr {m : ZMem} {r n : Nat} (hz : zZr m r) (hr : r ≠ 1) : zZr (zit c_cells n m) r := fun b => ⟨by rw [c_cells_Io]; exact (hz b).1, by rw [c_cells_Lo]; exact (hz b).2.1, by rw [c_cells_Do]; exact (hz b).2.2.1, by rw [c_cells_Ro (by omega)]; exact (hz b).2.2.2⟩
theorem c_sides_Ro {m : ZMem} {a b : Nat} : ∀ {n : Nat}, a ≠ 3 ∧ (a < 30 ∨ 30 + n ≤ a) → zR (zit c_sides n m) a b = zR m a b
  | 0, _ => rfl
  | n + 1, h_ => by
    have ih := c_sides_Ro (m := m) (a := a) (b := b) (n := n) (by omega)
    revert ih
    show _ → zR (c_sides n (zit c_sides n m)) a b = _
    generalize zit c_sides n m = M
    intro ih
    unfold c_sides
    simp only [zR_sR, zR_sI, zI_sR, zI_sI, zR_sD, zI_sD, true_and, and_true, and_self, if_true]
    repeat (first | rw [if_pos (by omega)] | rw [if_neg (by omega)])
    exact ih
theorem c_sides_Io {m : ZMem} {a b : Nat} : ∀ {n : Nat}, zI (zit c_sides n m) a b = zI m a b
  | 0 => rfl
  | n + 1 => c_sides_Io (n := n)
theorem c_sides_Lo {m : ZMem} {a b : Nat} : ∀ {n : Nat}, zL (zit c_sides n m) a b = zL m a b
  | 0 => rfl
  | n + 1 => c_sides_Lo (n := n)
theorem c_sides_Do {m : ZMem} {a b : Nat} : ∀ {n : Nat}, zD (zit c_sides n m) a b = zD m a b
  | 0 => rfl
  | n + 1 => c_sides_Do (n := n)
theorem c_sides_r0 {m : ZMem} {k : Nat} : ∀ {n : Nat}, k < n → zR (zit c_sides n m) (3) (k) = some (30 + k)
  | 0, h_ => absurd h_ (Nat.not_lt_zero _)
  | n + 1, h_ => by
    show zR (c_sides n (zit c_sides n m)) (3) (k) = _
    by_cases e : k = n
    · subst e
      generalize zit c_sides k m = M
      unfold c_sides
      simp only [zR_sR, zR_sI, zI_sR, zI_sI, zR_sD, zI_sD, true_and, and_true, and_self, if_true]
      repeat (first | rw [if_pos (by omega)] | rw [if_neg (by omega)])
    · have ih := c_sides_r0 (m := m) (k := k) (n := n) (by omega)
      revert ih
      generalize zit c_sides n m = M
      intro ih
      unfold c_sides
      simp only [zR_sR, zR_sI, zI_sR, zI_sI, zR_sD, zI_sD, true_and, and_true, and_self, if_true]
      repeat (first | rw [if_pos (by omega)] | rw [if_neg (by omega)])
      exact ih
theorem c_sides_r1 {m : ZMem} {k : Nat} : ∀ {n : Nat}, k < n → zR (zit c_sides n m) (30 + k) (0) = some (40 + k)
  | 0, h_ => absurd h_ (Nat.not_lt_zero _)
  | n + 1, h_ => by
    show zR (c_sides n (zit c_sides n m)) (30 + k) (0) = _
    by_cases e : k = n
    · subst e
      generalize zit c_sides k m = M
      unfold c_sides
      simp only [zR_sR, zR_sI, zI_sR, zI_sI, zR_sD, zI_sD, true_and, and_true, and_self, if_true]
      repeat (first | rw [if_pos (by omega)] | rw [if_neg (by omega)])
    · have ih := c_sides_r1 (m := m) (k := k) (n := n) (by omega)
      revert ih
      generalize zit c_sides n m = M
      intro ih
      unfold c_sides
      simp only [zR_sR, zR_sI, zI_sR, zI_sI, zR_sD, zI_sD, true_and, and_true, and_self, if_true]
      repeat (first | rw [if_pos (by omega)] | rw [if_neg (by omega)])
      exact ih
theorem c_sides_r2 {m : ZMem} {k : Nat} : ∀ {n : Nat}, k < n → zR (zit c_sides n m) (30 + k) (1) = some (50 + k)
  | 0, h_ => absurd h_ (Nat.not_lt_zero _)
  | n + 1, h_ => by
    show zR (c_sides n (zit c_sides n m)) (30 + k) (1) = _
    by_cases e : k = n
    · subst e
      generalize zit c_sides k m = M
      unfold c_sides
      simp only [zR_sR, zR_sI, zI_sR, zI_sI, zR_sD, zI_sD, true_and, and_true, and_self, if_true]
      repeat (first | rw [if_pos (by omega)] | rw [if_neg (by omega)])
    · have ih := c_sides_r2 (m := m) (k := k) (n := n) (by omega)
      revert ih
      generalize zit c_sides n m = M
      intro ih
      unfold c_sides
      simp only [zR_sR, zR_sI, zI_sR, zI_sI, zR_sD, zI_sD, true_and, and_true, and_self, if_true]
      repeat (first | rw [if_pos (by omega)] | rw [if_neg (by omega)])
      exact ih
theorem c_sides_zr {m : ZMem} {r n : Nat} (hz : zZr m r) (hr : r ≠ 3 ∧ (r < 30 ∨ 30 + n ≤ r)) : zZr (zit c_sides n m) r := fun b => ⟨by rw [c_sides_Io]; exact (hz b).1, by rw [c_sides_Lo]; exact (hz b).2.1, by rw [c_sides_Do]; exact (hz b).2.2.1, by rw [c_sides_Ro (by omega)]; exact (hz b).2.2.2⟩
theorem c_face_Ro (w h : Nat) {m : ZMem} {a b : Nat} : ∀ {n : Nat}, a ≠ 2 ∧ (a < 2000 ∨ 2000 + n ≤ a) → zR (zit (c_face w h) n m) a b = zR m a b
  | 0, _ => rfl
  | n + 1, h_ => by
    have ih := c_face_Ro w h (m := m) (a := a) (b := b) (n := n) (by omega)
    revert ih
    show _ → zR (c_face w h n (zit (c_face w h) n m)) a b = _
    generalize zit (c_face w h) n m = M
    intro ih
    unfold c_face
    simp only [zR_sR, zR_sI, zI_sR, zI_sI, zR_sD, zI_sD, true_and, and_true, and_self, if_true]
    repeat (first | rw [if_pos (by omega)] | rw [if_neg (by omega)])
    exact ih
theorem c_face_Io (w h : Nat) {m : ZMem} {a b : Nat} : ∀ {n : Nat}, (a < 2000 ∨ 2000 + n ≤ a) → zI (zit (c_face w h) n m) a b = zI m a b
  | 0, _ => rfl
  | n + 1, h_ => by
    have ih := c_face_Io w h (m := m) (a := a) (b := b) (n := n) (by omega)
    revert ih
    show _ → zI (c_face w h n (zit (c_face w h) n m)) a b = _
    generalize zit (c_face w h) n m = M
    intro ih
    unfold c_face
    simp only [zR_sR, zR_sI, zI_sR, zI_sI, zR_sD, zI_sD, true_and, and_true, and_self, if_true]
    repeat (first | rw [if_pos (by omega)] | rw [if_neg (by omega)])
    exact ih
theorem c_face_Lo (w h : Nat) {m : ZMem} {a b : Nat} : ∀ {n : Nat}, zL (zit (c_face w h) n m) a b = zL m a b
  | 0 => rfl
  | n + 1 => c_face_Lo w h (n := n)
theorem c_face_Do (w h : Nat) {m : ZMem} {a b : Nat} : ∀ {n : Nat}, zD (zit (c_face w h) n m) a b = zD m a b
  | 0 => rfl
  | n + 1 => c_face_Do w h (n := n)
theorem c_face_r0 (w h : Nat) {m : ZMem} {k : Nat} : ∀ {n : Nat}, k < n → zR (zit (c_face w h) n m) (2) (k) = some (2000 + k)
  | 0, h_ => absurd h_ (Nat.not_lt_zero _)
  | n + 1, h_ => by
    show zR (c_face w h n (zit (c_face w h) n m)) (2) (k) = _
    by_cases e : k = n
    · subst e
      generalize zit (c_face w h) k m = M
      unfold c_face
      simp only [zR_sR, zR_sI, zI_sR, zI_sI, zR_sD, zI_sD, true_and, and_true, and_self, if_true]
      repeat (first | rw [if_pos (by omega)] | rw [if_neg (by omega)])
    · have ih := c_face_r0 w h (m := m) (k := k) (n := n) (by omega)
      revert ih
      generalize zit (c_face w h) n m = M
      intro ih
      unfold c_face
      simp only [zR_sR, zR_sI, zI_sR, zI_sI, zR_sD, zI_sD, true_and, and_true, and_self, if_true]
      repeat (first | rw [if_pos (by omega)] | rw [if_neg (by omega)])
      exact ih
theorem c_face_r1 (w h : Nat) {m : ZMem} {k : Nat} : ∀ {n : Nat}, k < n → zR (zit (c_face w h) n m) (2000 + k) (0) = fBef w h k
  | 0, h_ => absurd h_ (Nat.not_lt_zero _)
  | n + 1, h_ => by
    show zR (c_face w h n (zit (c_face w h) n m)) (2000 + k) (0) = _
    by_cases e : k = n
    · subst e
      generalize zit (c_face w h) k m = M
      unfold c_face
      simp only [zR_sR, zR_sI, zI_sR, zI_sI, zR_sD, zI_sD, true_and, and_true, and_self, if_true]
      repeat (first | rw [if_pos (by omega)] | rw [if_neg (by omega)])
    · have ih := c_face_r1 w h (m := m) (k := k) (n := n) (by omega)
      revert ih
      generalize zit (c_face w h) n m = M
      intro ih
      unfold c_face
      simp only [zR_sR, zR_sI, zI_sR, zI_sI, zR_sD, zI_sD, true_and, and_true, and_self, if_true]
      repeat (first | rw [if_pos (by omega)] | rw [if_neg (by omega)])
      exact ih
theorem c_face_r2 (w h : Nat) {m : ZMem} {k : Nat} : ∀ {n : Nat}, k < n → zR (zit (c_face w h) n m) (2000 + k) (1) = fBeh w h k
  | 0, h_ => absurd h_ (Nat.not_lt_zero _)
  | n + 1, h_ => by
    show zR (c_face w h n (zit (c_face w h) n m)) (2000 + k) (1) = _
    by_cases e : k = n
    · subst e
      generalize zit (c_face w h) k m = M
      unfold c_face
      simp only [zR_sR, zR_sI, zI_sR, zI_sI, zR_sD, zI_sD, true_and, and_true, and_self, if_true]
      repeat (first | rw [if_pos (by omega)] | rw [if_neg (by omega)])
    · have ih := c_face_r2 w h (m := m) (k := k) (n := n) (by omega)
      revert ih
      generalize zit (c_face w h) n m = M
      intro ih
      unfold c_face
      simp only [zR_sR, zR_sI, zI_sR, zI_sI, zR_sD, zI_sD, true_and, and_true, and_self, if_true]
      repeat (first | rw [if_pos (by omega)] | rw [if_neg (by omega)])
      exact ih
theorem c_face_r3 (w h : Nat) {m : ZMem} {k : Nat} : ∀ {n : Nat}, k < n → zR (zit (c_face w h) n m) (2000 + k) (2) = fSid w h k
  | 0, h_ => absurd h_ (Nat.not_lt_zero _)
  | n + 1, h_ => by
    show zR (c_face w h n (zit (c_face w h) n m)) (2000 + k) (2) = _
    by_cases e : k = n
    · subst e
      generalize zit (c_face w h) k m = M
      unfold c_face
      simp only [zR_sR, zR_sI, zI_sR, zI_sI, zR_sD, zI_sD, true_and, and_true, and_self, if_true]
      repeat (first | rw [if_pos (by omega)] | rw [if_neg (by omega)])
    · have ih := c_face_r3 w h (m := m) (k := k) (n := n) (by omega)
      revert ih
      generalize zit (c_face w h) n m = M
      intro ih
      unfold c_face
      simp only [zR_sR, zR_sI, zI_sR, zI_sI, zR_sD, zI_sD, true_and, and_true, and_self, if_true]
      repeat (first | rw [if_pos (by omega)] | rw [if_neg (by omega)])
      exact ih
theorem c_face_r4 (w h : Nat) {m : ZMem} {k : Nat} : ∀ {n : Nat}, k < n → zI (zit (c_face w h) n m) (2000 + k) (3) = fAxi w h k
  | 0, h_ => absurd h_ (Nat.not_lt_zero _)
  | n + 1, h_ => by
    show zI (c_face w h n (zit (c_face w h) n m)) (2000 + k) (3) = _
    by_cases e : k = n
    · subst e
      generalize zit (c_face w h) k m = M
      unfold c_face
      simp only [zR_sR, zR_sI, zI_sR, zI_sI, zR_sD, zI_sD, true_and, and_true, and_self, if_true]
      repeat (first | rw [if_pos (by omega)] | rw [if_neg (by omega)])
    · have ih := c_face_r4 w h (m := m) (k := k) (n := n) (by omega)
      revert ih
      generalize zit (c_face w h) n m = M
      intro ih
      unfold c_face
      simp only [zR_sR, zR_sI, zI_sR, zI_sI, zR_sD, zI_sD, true_and, and_true, and_self, if_true]
      repeat (first | rw [if_pos (by omega)] | rw [if_neg (by omega)])
      exact ih
theorem c_face_zr (w h : Nat) {m : ZMem} {r n : Nat} (hz : zZr m r) (hr : r ≠ 2 ∧ (r < 2000 ∨ 2000 + n ≤ r)) : zZr (zit (c_face w h) n m) r := fun b => ⟨by rw [c_face_Io w h (by omega)]; exact (hz b).1, by rw [c_face_Lo w h]; exact (hz b).2.1, by rw [c_face_Do w h]; exact (hz b).2.2.1, by rw [c_face_Ro w h (by omega)]; exact (hz b).2.2.2⟩
theorem c_nests_Ro {m : ZMem} {a b : Nat} : ∀ {n : Nat}, a ≠ 6 ∧ (a < 60 ∨ 60 + n ≤ a) → zR (zit c_nests n m) a b = zR m a b
  | 0, _ => rfl
  | n + 1, h_ => by
    have ih := c_nests_Ro (m := m) (a := a) (b := b) (n := n) (by omega)
    revert ih
    show _ → zR (c_nests n (zit c_nests n m)) a b = _
    generalize zit c_nests n m = M
    intro ih
    unfold c_nests
    simp only [zR_sR, zR_sI, zI_sR, zI_sI, zR_sD, zI_sD, true_and, and_true, and_self, if_true]
    repeat (first | rw [if_pos (by omega)] | rw [if_neg (by omega)])
    exact ih
theorem c_nests_Io {m : ZMem} {a b : Nat} : ∀ {n : Nat}, zI (zit c_nests n m) a b = zI m a b
  | 0 => rfl
  | n + 1 => c_nests_Io (n := n)
theorem c_nests_Lo {m : ZMem} {a b : Nat} : ∀ {n : Nat}, zL (zit c_nests n m) a b = zL m a b
  | 0 => rfl
  | n + 1 => c_nests_Lo (n := n)
theorem c_nests_Do {m : ZMem} {a b : Nat} : ∀ {n : Nat}, zD (zit c_nests n m) a b = zD m a b
  | 0 => rfl
  | n + 1 => c_nests_Do (n := n)
theorem c_nests_r0 {m : ZMem} {k : Nat} : ∀ {n : Nat}, k < n → zR (zit c_nests n m) (6) (k) = some (60 + k)
  | 0, h_ => absurd h_ (Nat.not_lt_zero _)
  | n + 1, h_ => by
    show zR (c_nests n (zit c_nests n m)) (6) (k) = _
    by_cases e : k = n
    · subst e
      generalize zit c_nests k m = M
      unfold c_nests
      simp only [zR_sR, zR_sI, zI_sR, zI_sI, zR_sD, zI_sD, true_and, and_true, and_self, if_true]
      repeat (first | rw [if_pos (by omega)] | rw [if_neg (by omega)])
    · have ih := c_nests_r0 (m := m) (k := k) (n := n) (by omega)
      revert ih
      generalize zit c_nests n m = M
      intro ih
      unfold c_nests
      simp only [zR_sR, zR_sI, zI_sR, zI_sI, zR_sD, zI_sD, true_and, and_true, and_self, if_true]
      repeat (first | rw [if_pos (by omega)] | rw [if_neg (by omega)])
      exact ih
theorem c_nests_r1 {m : ZMem} {k : Nat} : ∀ {n : Nat}, k < n → zR (zit c_nests n m) (60 + k) (0) = some (70 + k)
  | 0, h_ => absurd h_ (Nat.not_lt_zero _)
  | n + 1, h_ => by
    show zR (c_nests n (zit c_nests n m)) (60 + k) (0) = _
    by_cases e : k = n
    · subst e
      generalize zit c_nests k m = M
      unfold c_nests
      simp only [zR_sR, zR_sI, zI_sR, zI_sI, zR_sD, zI_sD, true_and, and_true, and_self, if_true]
      repeat (first | rw [if_pos (by omega)] | rw [if_neg (by omega)])
    · have ih := c_nests_r1 (m := m) (k := k) (n := n) (by omega)
      revert ih
      generalize zit c_nests n m = M
      intro ih
      unfold c_nests
      simp only [zR_sR, zR_sI, zI_sR, zI_sI, zR_sD, zI_sD, true_and, and_true, and_self, if_true]
      repeat (first | rw [if_pos (by omega)] | rw [if_neg (by omega)])
      exact ih
theorem c_nests_zr {m : ZMem} {r n : Nat} (hz : zZr m r) (hr : r ≠ 6 ∧ (r < 60 ∨ 60 + n ≤ r)) : zZr (zit c_nests n m) r := fun b => ⟨by rw [c_nests_Io]; exact (hz b).1, by rw [c_nests_Lo]; exact (hz b).2.1, by rw [c_nests_Do]; exact (hz b).2.2.1, by rw [c_nests_Ro (by omega)]; exact (hz b).2.2.2⟩
theorem c_states_Ro {m : ZMem} {a b : Nat} : ∀ {n : Nat}, a ≠ 7 ∧ (a < 80 ∨ 80 + n ≤ a) → zR (zit c_states n m) a b = zR m a b
  | 0, _ => rfl
  | n + 1, h_ => by
    have ih := c_states_Ro (m := m) (a := a) (b := b) (n := n) (by omega)
    revert ih
    show _ → zR (c_states n (zit c_states n m)) a b = _
    generalize zit c_states n m = M
    intro ih
    unfold c_states c_state
    simp only [zR_sR, zR_sI, zI_sR, zI_sI, zR_sD, zI_sD, true_and, and_true, and_self, if_true]
    repeat (first | rw [if_pos (by omega)] | rw [if_neg (by omega)])
    exact ih
theorem c_states_Io {m : ZMem} {a b : Nat} : ∀ {n : Nat}, (a < 80 ∨ 80 + n ≤ a) → zI (zit c_states n m) a b = zI m a b
  | 0, _ => rfl
  | n + 1, h_ => by
    have ih := c_states_Io (m := m) (a := a) (b := b) (n := n) (by omega)
    revert ih
    show _ → zI (c_states n (zit c_states n m)) a b = _
    generalize zit c_states n m = M
    intro ih
    unfold c_states c_state
    simp only [zR_sR, zR_sI, zI_sR, zI_sI, zR_sD, zI_sD, true_and, and_true, and_self, if_true]
    repeat (first | rw [if_pos (by omega)] | rw [if_neg (by omega)])
    exact ih
theorem c_states_Lo {m : ZMem} {a b : Nat} : ∀ {n : Nat}, zL (zit c_states n m) a b = zL m a b
  | 0 => rfl
  | n + 1 => c_states_Lo (n := n)
theorem c_states_Do {m : ZMem} {a b : Nat} : ∀ {n : Nat}, zD (zit c_states n m) a b = zD m a b
  | 0 => rfl
  | n + 1 => c_states_Do (n := n)
theorem c_states_r0 {m : ZMem} {k : Nat} : ∀ {n : Nat}, k < n → zR (zit c_states n m) (7) (k) = some (80 + k)
  | 0, h_ => absurd h_ (Nat.not_lt_zero _)
  | n + 1, h_ => by
    show zR (c_states n (zit c_states n m)) (7) (k) = _
    by_cases e : k = n
    · subst e
      generalize zit c_states k m = M
      unfold c_states c_state
      simp only [zR_sR, zR_sI, zI_sR, zI_sI, zR_sD, zI_sD, true_and, and_true, and_self, if_true]
      repeat (first | rw [if_pos (by omega)] | rw [if_neg (by omega)])
    · have ih := c_states_r0 (m := m) (k := k) (n := n) (by omega)
      revert ih
      generalize zit c_states n m = M
      intro ih
      unfold c_states c_state
      simp only [zR_sR, zR_sI, zI_sR, zI_sI, zR_sD, zI_sD, true_and, and_true, and_self, if_true]
      repeat (first | rw [if_pos (by omega)] | rw [if_neg (by omega)])
      exact ih
theorem c_states_r1 {m : ZMem} {k : Nat} : ∀ {n : Nat}, k < n → zI (zit c_states n m) (80 + k) (9) = -1
  | 0, h_ => absurd h_ (Nat.not_lt_zero _)
  | n + 1, h_ => by
    show zI (c_states n (zit c_states n m)) (80 + k) (9) = _
    by_cases e : k = n
    · subst e
      generalize zit c_states k m = M
      unfold c_states c_state
      simp only [zR_sR, zR_sI, zI_sR, zI_sI, zR_sD, zI_sD, true_and, and_true, and_self, if_true]
      repeat (first | rw [if_pos (by omega)] | rw [if_neg (by omega)])
    · have ih := c_states_r1 (m := m) (k := k) (n := n) (by omega)
      revert ih
      generalize zit c_states n m = M
      intro ih
      unfold c_states c_state
      simp only [zR_sR, zR_sI, zI_sR, zI_sI, zR_sD, zI_sD, true_and, and_true, and_self, if_true]
      repeat (first | rw [if_pos (by omega)] | rw [if_neg (by omega)])
      exact ih
theorem c_states_r2 {m : ZMem} {k j : Nat} : ∀ {n : Nat}, k < n → j < 7 → zR (zit c_states n m) (80 + k) (j) = some (100 + 10 * k + j)
  | 0, h_, _ => absurd h_ (Nat.not_lt_zero _)
  | n + 1, h_, hj => by
    show zR (c_states n (zit c_states n m)) (80 + k) (j) = _
    by_cases e : k = n
    · subst e
      generalize zit c_states k m = M
      unfold c_states c_state
      simp only [zR_sR, zR_sI, zI_sR, zI_sI, zR_sD, zI_sD, true_and, and_true, and_self, if_true]
      rcases (show j = 0 ∨ j = 1 ∨ j = 2 ∨ j = 3 ∨ j = 4 ∨ j = 5 ∨ j = 6 by omega) with z | z | z | z | z | z | z <;> subst z <;> ((repeat (first | rw [if_pos (by omega)] | rw [if_neg (by omega)])) <;> rfl)
    · have ih := c_states_r2 (m := m) (k := k) (n := n) (by omega) hj
      revert ih
      generalize zit c_states n m = M
      intro ih
      unfold c_states c_state
      simp only [zR_sR, zR_sI, zI_sR, zI_sI, zR_sD, zI_sD, true_and, and_true, and_self, if_true]
      repeat (first | rw [if_pos (by omega)] | rw [if_neg (by omega)])
      exact ih
theorem c_states_zr {m : ZMem} {r n : Nat} (hz : zZr m r) (hr : r ≠ 7 ∧ (r < 80 ∨ 80 + n ≤ r)) : zZr (zit c_states n m) r := fun b => ⟨by rw [c_states_Io (by omega)]; exact (hz b).1, by rw [c_states_Lo]; exact (hz b).2.1, by rw [c_states_Do]; exact (hz b).2.2.1, by rw [c_states_Ro (by omega)]; exact (hz b).2.2.2⟩
