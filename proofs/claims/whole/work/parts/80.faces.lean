/-! the class's faces by their places -/
def nA0 (w i j : Nat) : Nat := j * (w - 1) + i
def nA1 (w h i j : Nat) : Nat := fc0 w h + (j * w + i)
def nSd4 (w h s t : Nat) : Nat := fc1 w h + ((if s = 0 then 0 else if s = 1 then h else if s = 2 then 2 * h else 2 * h + w) + t)
theorem gu {w i j i' j' : Nat} (hi : i < w) (hi' : i' < w) (e : j' * w + i' = j * w + i) : i' = i ∧ j' = j := by
  have h1 : (j' * w + i') / w = j' := by rw [Nat.mul_comm, Nat.mul_add_div (by omega), Nat.div_eq_of_lt hi']; omega
  have h2 : (j * w + i) / w = j := by rw [Nat.mul_comm, Nat.mul_add_div (by omega), Nat.div_eq_of_lt hi]; omega
  have ej : j' = j := by rw [← h1, ← h2, e]
  subst ej
  omega
theorem gdm {w i j : Nat} (hi : i < w) : (j * w + i) / w = j ∧ (j * w + i) % w = i := by
  constructor
  · rw [Nat.mul_comm, Nat.mul_add_div (by omega), Nat.div_eq_of_lt hi]
    omega
  · rw [Nat.mul_comm, Nat.mul_add_mod, Nat.mod_eq_of_lt hi]
theorem glt {w h i j : Nat} (hi : i < w) (hj : j < h) : j * w + i < w * h := by
  have : (j + 1) * w ≤ h * w := Nat.mul_le_mul_right w (by omega)
  rw [Nat.succ_mul] at this
  rw [Nat.mul_comm w h]
  omega
theorem gm {w k h : Nat} (hk : k < w * h) : k % w < w ∧ k / w < h ∧ k = k / w * w + k % w := by
  have hw : 0 < w := by
    rcases Nat.eq_zero_or_pos w with rfl | q
    · rw [Nat.zero_mul] at hk
      exact absurd hk (by omega)
    · exact q
  refine ⟨Nat.mod_lt _ hw, Nat.div_lt_of_lt_mul hk, ?_⟩
  have := Nat.div_add_mod k w
  rw [Nat.mul_comm] at this
  exact this.symm
theorem fc0_1 {w h : Nat} (hd : zDim w h) : fc0 w h ≤ fc1 w h ∧ fcA w h = fc1 w h + 2 * w + 2 * h := ⟨by unfold fc1; omega, rfl⟩
theorem nA0_lt {w h i j : Nat} (hi : i + 1 < w) (hj : j < h) : nA0 w i j < fc0 w h := glt (w := w - 1) (by omega) hj
theorem nA1_lt {w h i j : Nat} (hi : i < w) (hj : j + 1 < h) : fc0 w h ≤ nA1 w h i j ∧ nA1 w h i j < fc1 w h := by
  have := glt (w := w) (h := h - 1) hi (show j < h - 1 by omega)
  unfold nA1 fc1
  omega
theorem nSd_lt {w h s t : Nat} (hs : s < 4) (ht : t < if s < 2 then h else w) : fc1 w h ≤ nSd4 w h s t ∧ nSd4 w h s t < fcA w h := by
  unfold nSd4 fcA
  rcases (show s = 0 ∨ s = 1 ∨ s = 2 ∨ s = 3 by omega) with rfl | rfl | rfl | rfl <;> simp at ht ⊢ <;> omega
theorem face_A0 {w h i j : Nat} (hd : zDim w h) (hi : i + 1 < w) (hj : j < h) : fBef w h (nA0 w i j) = some (1000 + (j * w + i)) ∧ fBeh w h (nA0 w i j) = some (1000 + (j * w + i + 1)) ∧ fSid w h (nA0 w i j) = none ∧ fAxi w h (nA0 w i j) = 0 := by
  have l := nA0_lt (h := h) hi hj
  have ⟨l1, _⟩ := fc0_1 hd
  obtain ⟨d1, d2⟩ := gdm (w := w - 1) (i := i) (j := j) (by omega)
  unfold fBef fBeh fSid fAxi
  rw [if_pos l, if_pos l, if_pos (by omega), if_pos l]
  unfold nA0
  rw [d1, d2]
  exact ⟨rfl, rfl, rfl, rfl⟩
theorem face_A1 {w h i j : Nat} (hd : zDim w h) (hi : i < w) (hj : j + 1 < h) : fBef w h (nA1 w h i j) = some (1000 + (j * w + i)) ∧ fBeh w h (nA1 w h i j) = some (1000 + (j * w + i + w)) ∧ fSid w h (nA1 w h i j) = none ∧ fAxi w h (nA1 w h i j) = 1 := by
  obtain ⟨l1, l2⟩ := nA1_lt (w := w) (h := h) hi hj
  unfold fBef fBeh fSid fAxi
  rw [if_neg (by omega), if_pos l2, if_neg (by omega), if_pos l2, if_pos l2, if_neg (by omega), if_pos l2]
  have e : nA1 w h i j - fc0 w h = j * w + i := by unfold nA1; omega
  rw [e]
  exact ⟨rfl, rfl, rfl, rfl⟩
theorem face_S0 {w h t : Nat} (hd : zDim w h) (ht : t < h) : fBef w h (nSd4 w h 0 t) = none ∧ fBeh w h (nSd4 w h 0 t) = some (1000 + t * w) ∧ fSid w h (nSd4 w h 0 t) = some 30 ∧ fAxi w h (nSd4 w h 0 t) = 0 := by
  have e : nSd4 w h 0 t = fc1 w h + t := by unfold nSd4; simp
  have ⟨l1, _⟩ := fc0_1 hd
  rw [e]
  unfold fBef fBeh fSid fAxi
  rw [if_neg (by omega), if_neg (by omega), if_pos (by omega), if_neg (by omega), if_neg (by omega), if_pos (by omega), if_neg (by omega), if_pos (by omega), if_neg (by omega), if_neg (by omega), if_pos (by omega), show fc1 w h + t - fc1 w h = t by omega]
  exact ⟨rfl, rfl, rfl, rfl⟩
theorem face_S1 {w h t : Nat} (hd : zDim w h) (ht : t < h) : fBef w h (nSd4 w h 1 t) = some (1000 + (t * w + (w - 1))) ∧ fBeh w h (nSd4 w h 1 t) = none ∧ fSid w h (nSd4 w h 1 t) = some 31 ∧ fAxi w h (nSd4 w h 1 t) = 0 := by
  have e : nSd4 w h 1 t = fc1 w h + h + t := by unfold nSd4; simp; omega
  have ⟨l1, _⟩ := fc0_1 hd
  obtain ⟨d1, d2, d3, d4⟩ := hd
  rw [e]
  unfold fBef fBeh fSid fAxi
  rw [if_neg (by omega), if_neg (by omega), if_neg (by omega), if_pos (by omega), if_neg (by omega), if_neg (by omega), if_neg (by omega), if_pos (by omega), if_neg (by omega), if_neg (by omega), if_pos (by omega), if_neg (by omega), if_neg (by omega), if_pos (by omega), show fc1 w h + h + t - fc1 w h - h = t by omega, show t * w + w - 1 = t * w + (w - 1) by omega]
  exact ⟨rfl, rfl, rfl, rfl⟩
theorem face_S2 {w h t : Nat} (hd : zDim w h) (ht : t < w) : fBef w h (nSd4 w h 2 t) = none ∧ fBeh w h (nSd4 w h 2 t) = some (1000 + t) ∧ fSid w h (nSd4 w h 2 t) = some 32 ∧ fAxi w h (nSd4 w h 2 t) = 1 := by
  have e : nSd4 w h 2 t = fc1 w h + 2 * h + t := by unfold nSd4; simp; omega
  have ⟨l1, _⟩ := fc0_1 hd
  rw [e]
  unfold fBef fBeh fSid fAxi
  rw [if_neg (by omega), if_neg (by omega), if_neg (by omega), if_neg (by omega), if_pos (by omega), if_neg (by omega), if_neg (by omega), if_neg (by omega), if_neg (by omega), if_pos (by omega), if_neg (by omega), if_neg (by omega), if_neg (by omega), if_pos (by omega), if_neg (by omega), if_neg (by omega), if_neg (by omega), show fc1 w h + 2 * h + t - fc1 w h - 2 * h = t by omega]
  exact ⟨rfl, rfl, rfl, rfl⟩
theorem face_S3 {w h t : Nat} (hd : zDim w h) (ht : t < w) : fBef w h (nSd4 w h 3 t) = some (1000 + ((h - 1) * w + t)) ∧ fBeh w h (nSd4 w h 3 t) = none ∧ fSid w h (nSd4 w h 3 t) = some 33 ∧ fAxi w h (nSd4 w h 3 t) = 1 := by
  have e : nSd4 w h 3 t = fc1 w h + 2 * h + w + t := by unfold nSd4; simp; omega
  have ⟨l1, _⟩ := fc0_1 hd
  rw [e]
  unfold fBef fBeh fSid fAxi
  rw [if_neg (by omega), if_neg (by omega), if_neg (by omega), if_neg (by omega), if_neg (by omega), if_neg (by omega), if_neg (by omega), if_neg (by omega), if_neg (by omega), if_neg (by omega), if_neg (by omega), if_neg (by omega), if_neg (by omega), if_neg (by omega), if_neg (by omega), if_neg (by omega), if_neg (by omega), show fc1 w h + 2 * h + w + t - fc1 w h - 2 * h - w = t by omega]
  exact ⟨rfl, rfl, rfl, rfl⟩
theorem fCases {w h n : Nat} (hd : zDim w h) (hn : n < fcA w h) : (∃ i j, i + 1 < w ∧ j < h ∧ n = nA0 w i j) ∨ (∃ i j, i < w ∧ j + 1 < h ∧ n = nA1 w h i j) ∨ ∃ s t, s < 4 ∧ t < (if s < 2 then h else w) ∧ n = nSd4 w h s t := by
  obtain ⟨d1, d2, d3, d4⟩ := hd
  by_cases a : n < fc0 w h
  · obtain ⟨g1, g2, g3⟩ := gm (w := w - 1) (h := h) (k := n) a
    exact Or.inl ⟨n % (w - 1), n / (w - 1), by omega, g2, g3⟩
  by_cases b : n < fc1 w h
  · have c : n - fc0 w h < w * (h - 1) := by
      have e : fc1 w h = fc0 w h + w * (h - 1) := rfl
      rw [e] at b
      omega
    obtain ⟨g1, g2, g3⟩ := gm c
    exact Or.inr (Or.inl ⟨(n - fc0 w h) % w, (n - fc0 w h) / w, g1, by omega, by unfold nA1; omega⟩)
  have e : fcA w h = fc1 w h + 2 * w + 2 * h := rfl
  rw [e] at hn
  refine Or.inr (Or.inr ?_)
  by_cases c0 : n < fc1 w h + h
  · exact ⟨0, n - fc1 w h, by decide, by simp; omega, by unfold nSd4; simp; omega⟩
  by_cases c1 : n < fc1 w h + 2 * h
  · exact ⟨1, n - fc1 w h - h, by decide, by simp; omega, by unfold nSd4; simp; omega⟩
  by_cases c2 : n < fc1 w h + 2 * h + w
  · exact ⟨2, n - fc1 w h - 2 * h, by decide, by simp; omega, by unfold nSd4; simp; omega⟩
  · exact ⟨3, n - fc1 w h - 2 * h - w, by decide, by simp; omega, by unfold nSd4; simp; omega⟩
/-- the model's face of a class's face -/
theorem sfN_S {i j s : Nat} : sfN i j s = 288 + 12 * s + (if s < 2 then j else i) := rfl
/-- loops, segment by segment -/
theorem zit_ids {σ : Type} {c : Nat → σ → σ} {a : Nat} : ∀ b, a ≤ b → (∀ n, a ≤ n → n < b → ∀ x, c n x = x) → ∀ x0, zit c b x0 = zit c a x0
  | 0, hab, _, x0 => by rw [show a = 0 by omega]
  | b + 1, hab, H, x0 => by
    by_cases e : a = b + 1
    · rw [e]
    · show c b (zit c b x0) = _
      rw [H b (by omega) (by omega), zit_ids b (by omega) (fun n h1 h2 => H n h1 (by omega)) x0]
theorem zit_one {σ : Type} {c : Nat → σ → σ} {a b t : Nat} (h1 : a ≤ t) (h2 : t < b) (H : ∀ n, a ≤ n → n < b → n ≠ t → ∀ x, c n x = x) (x0 : σ) : zit c b x0 = c t (zit c a x0) := by
  rw [zit_ids (a := t + 1) b (by omega) (fun n q1 q2 => H n (by omega) q2 (by omega))]
  show c t (zit c t x0) = _
  rw [zit_ids (a := a) t h1 (fun n q1 q2 => H n q1 (by omega) (by omega))]
theorem zit_grid {σ : Type} (f : Nat → σ → σ) {w : Nat} (hw : 0 < w) (x : σ) : ∀ h, zit f (w * h) x = zit (fun j s => zit (fun i => f (j * w + i)) w s) h x
  | 0 => by rw [Nat.mul_zero]; rfl
  | h + 1 => by
    show _ = zit (fun i => f (h * w + i)) w (zit (fun j s => zit (fun i => f (j * w + i)) w s) h x)
    rw [← zit_grid f hw x h, Nat.mul_succ]
    have : ∀ m, zit f (w * h + m) x = zit (fun i => f (h * w + i)) m (zit f (w * h) x) := by
      intro m
      induction m with
      | zero => rfl
      | succ m ih =>
        show f (w * h + m) (zit f (w * h + m) x) = f (h * w + m) (zit (fun i => f (h * w + i)) m (zit f (w * h) x))
        rw [ih, Nat.mul_comm w h]
    exact this w
