/-! how the class lies in its world: kinds, lengths, which roles are there, and what the references that never change hold -/
def kdC (r : Nat) : Nat :=
  if r < 21 then [6, 12, 13, 15, 8, 8, 14, 16, 5, 8, 8, 17, 8, 8, 8, 8, 8, 8, 11, 8, 8].getD r 99
  else if 30 ≤ r ∧ r < 34 then 3 else if 40 ≤ r ∧ r < 44 then 8 else if 50 ≤ r ∧ r < 54 then 8 else if 60 ≤ r ∧ r < 70 then 2 else if 70 ≤ r ∧ r < 80 then 10 else if 80 ≤ r ∧ r < 84 then 4
  else if 100 ≤ r ∧ r < 140 then (if r % 10 = 0 ∨ r % 10 = 5 ∨ r % 10 = 6 then 10 else 8) else if 1000 ≤ r ∧ r < 2000 then 0 else if 2000 ≤ r ∧ r < 3000 then 1 else 99
def lnC (N F r : Nat) : Nat :=
  if r < 21 then [0, N, F, 4, 24, 24, 10, 4, 0, 40, 40, 5, 5, 5, 5, 5, 5, 5, 5, 5, 5].getD r 0
  else if 40 ≤ r ∧ r < 60 then 8 else if 70 ≤ r ∧ r < 80 then 8
  else if 100 ≤ r ∧ r < 140 then (if r % 10 < 4 then N else if r % 10 = 4 then F else if r % 10 = 5 then 80 else 4) else 0
def liveC (N F r : Nat) : Prop := r < 21 ∨ (30 ≤ r ∧ r < 34) ∨ (40 ≤ r ∧ r < 44) ∨ (50 ≤ r ∧ r < 54) ∨ (60 ≤ r ∧ r < 84) ∨ (100 ≤ r ∧ r < 140 ∧ r % 10 < 7) ∨ (1000 ≤ r ∧ r < 1000 + N) ∨ (2000 ≤ r ∧ r < 2000 + F)
def zGC (g : ZG) (N F : Nat) : Prop := N ≤ 144 ∧ F ≤ 400 ∧ ∀ r, liveC N F r → r ∈ zrs g ∧ zkd g r = kdC r ∧ zln g r = lnC N F r
theorem zGC.o {g : ZG} {N F : Nat} (h : zGC g N F) {r : Nat} (kd : Nat) (hl : liveC N F r) (hk : kdC r = kd) : zO g kd r := ⟨(h.2.2 r hl).1, (h.2.2 r hl).2.1.trans hk⟩
theorem zGC.l {g : ZG} {N F : Nat} (h : zGC g N F) {r : Nat} (n : Nat) (hl : liveC N F r) (hk : lnC N F r = n) : zln g r = n := (h.2.2 r hl).2.2.trans hk
theorem zGC.fix {g : ZG} {N F : Nat} (h : zGC g N F) (r : Nat) (hr : r < 21) : zO g (kdC r) r := h.o _ (Or.inl hr) rfl
theorem zGC.cell {g : ZG} {N F : Nat} (h : zGC g N F) {k : Nat} (hk : k < N) : zO g 0 (1000 + k) := h.o 0 (by unfold liveC; omega) (by
  have := h.1
  unfold kdC
  rw [if_neg (by omega), if_neg (by omega), if_neg (by omega), if_neg (by omega), if_neg (by omega), if_neg (by omega), if_neg (by omega), if_neg (by omega), if_pos (by omega)])
theorem zGC.face {g : ZG} {N F : Nat} (h : zGC g N F) {k : Nat} (hk : k < F) : zO g 1 (2000 + k) := h.o 1 (by unfold liveC; omega) (by
  have := h.2.1
  unfold kdC
  rw [if_neg (by omega), if_neg (by omega), if_neg (by omega), if_neg (by omega), if_neg (by omega), if_neg (by omega), if_neg (by omega), if_neg (by omega), if_neg (by omega), if_pos (by omega)])
theorem zGC.side {g : ZG} {N F : Nat} (h : zGC g N F) {k : Nat} (hk : k < 4) : zO g 3 (30 + k) := h.o 3 (by unfold liveC; omega) (by
  unfold kdC
  rw [if_neg (by omega), if_pos (by omega)])
theorem zGC.size {g : ZG} {N F : Nat} (h : zGC g N F) {k : Nat} (hk : k < 4) : zO g 8 (40 + k) ∧ zln g (40 + k) = 8 := ⟨h.o 8 (by unfold liveC; omega) (by
  unfold kdC
  rw [if_neg (by omega), if_neg (by omega), if_pos (by omega)]), h.l 8 (by unfold liveC; omega) (by unfold lnC; rw [if_neg (by omega), if_pos (by omega)])⟩
theorem zGC.phase {g : ZG} {N F : Nat} (h : zGC g N F) {k : Nat} (hk : k < 4) : zO g 8 (50 + k) ∧ zln g (50 + k) = 8 := ⟨h.o 8 (by unfold liveC; omega) (by
  unfold kdC
  rw [if_neg (by omega), if_neg (by omega), if_neg (by omega), if_pos (by omega)]), h.l 8 (by unfold liveC; omega) (by unfold lnC; rw [if_neg (by omega), if_pos (by omega)])⟩
theorem zGC.nest {g : ZG} {N F : Nat} (h : zGC g N F) {k : Nat} (hk : k < 10) : zO g 2 (60 + k) := h.o 2 (by unfold liveC; omega) (by
  unfold kdC
  rw [if_neg (by omega), if_neg (by omega), if_neg (by omega), if_neg (by omega), if_pos (by omega)])
theorem zGC.share {g : ZG} {N F : Nat} (h : zGC g N F) {k : Nat} (hk : k < 10) : zO g 10 (70 + k) ∧ zln g (70 + k) = 8 := ⟨h.o 10 (by unfold liveC; omega) (by
  unfold kdC
  rw [if_neg (by omega), if_neg (by omega), if_neg (by omega), if_neg (by omega), if_neg (by omega), if_pos (by omega)]), h.l 8 (by unfold liveC; omega) (by unfold lnC; rw [if_neg (by omega), if_neg (by omega), if_pos (by omega)])⟩
theorem zGC.state {g : ZG} {N F : Nat} (h : zGC g N F) {k : Nat} (hk : k < 4) : zO g 4 (80 + k) := h.o 4 (by unfold liveC; omega) (by
  unfold kdC
  rw [if_neg (by omega), if_neg (by omega), if_neg (by omega), if_neg (by omega), if_neg (by omega), if_neg (by omega), if_pos (by omega)])
theorem zGC.kept {g : ZG} {N F : Nat} (h : zGC g N F) {i j : Nat} (hi : i < 4) (hj : j < 7) : zO g (if j = 0 ∨ j = 5 ∨ j = 6 then 10 else 8) (100 + 10 * i + j) ∧ zln g (100 + 10 * i + j) = (if j < 4 then N else if j = 4 then F else if j = 5 then 80 else 4) := by
  have e : (100 + 10 * i + j) % 10 = j := by omega
  refine ⟨h.o _ (by unfold liveC; omega) ?_, h.l _ (by unfold liveC; omega) ?_⟩
  · unfold kdC
    rw [if_neg (by omega), if_neg (by omega), if_neg (by omega), if_neg (by omega), if_neg (by omega), if_neg (by omega), if_neg (by omega), if_pos (by omega), e]
  · unfold lnC
    rw [if_neg (by omega), if_neg (by omega), if_neg (by omega), if_pos (by omega), e]
/-- the faces of a sea, by their numbers: those of axis 0, those of axis 1, then the sides' -/
def fc0 (w h : Nat) : Nat := (w - 1) * h
def fc1 (w h : Nat) : Nat := fc0 w h + w * (h - 1)
def fcA (w h : Nat) : Nat := fc1 w h + 2 * w + 2 * h
def fBef (w h n : Nat) : Option Nat :=
  if n < fc0 w h then some (1000 + (n / (w - 1) * w + n % (w - 1)))
  else if n < fc1 w h then some (1000 + (n - fc0 w h))
  else if n < fc1 w h + h then none
  else if n < fc1 w h + 2 * h then some (1000 + ((n - fc1 w h - h) * w + w - 1))
  else if n < fc1 w h + 2 * h + w then none
  else some (1000 + ((h - 1) * w + (n - fc1 w h - 2 * h - w)))
def fBeh (w h n : Nat) : Option Nat :=
  if n < fc0 w h then some (1000 + (n / (w - 1) * w + n % (w - 1) + 1))
  else if n < fc1 w h then some (1000 + (n - fc0 w h + w))
  else if n < fc1 w h + h then some (1000 + (n - fc1 w h) * w)
  else if n < fc1 w h + 2 * h then none
  else if n < fc1 w h + 2 * h + w then some (1000 + (n - fc1 w h - 2 * h))
  else none
def fSid (w h n : Nat) : Option Nat :=
  if n < fc1 w h then none
  else if n < fc1 w h + h then some 30
  else if n < fc1 w h + 2 * h then some 31
  else if n < fc1 w h + 2 * h + w then some 32
  else some 33
def fAxi (w h n : Nat) : Int32 :=
  if n < fc0 w h then 0 else if n < fc1 w h then 1 else if n < fc1 w h + 2 * h then 0 else 1
/-- what the references that never change hold -/
def zLC (w h : Nat) (ly : Int32) (μ : ZMem) : Prop :=
  (∀ k, k < 8 → zR μ 0 (3 + k) = some (1 + k)) ∧ (∀ k, k < w * h → zR μ 1 k = some (1000 + k)) ∧ (∀ n, n < fcA w h → zR μ 2 n = some (2000 + n)) ∧ (∀ k, k < 4 → zR μ 3 k = some (30 + k) ∧ zR μ (30 + k) 0 = some (40 + k) ∧ zR μ (30 + k) 1 = some (50 + k)) ∧
  (∀ k, k < 10 → zR μ 6 k = some (60 + k) ∧ zR μ (60 + k) 0 = some (70 + k)) ∧ (∀ k, k < 4 → zR μ 7 k = some (80 + k) ∧ ∀ j, j < 7 → zR μ (80 + k) j = some (100 + 10 * k + j)) ∧
  (zR μ 8 0 = some 9 ∧ zR μ 8 1 = some 10 ∧ zR μ 8 2 = some 11 ∧ zR μ 8 3 = some 17 ∧ zR μ 8 4 = some 18 ∧ zR μ 8 5 = some 19 ∧ zR μ 8 6 = some 20 ∧ ∀ k, k < 5 → zR μ 11 k = some (12 + k)) ∧
  (∀ n, n < fcA w h → zR μ (2000 + n) 0 = fBef w h n ∧ zR μ (2000 + n) 1 = fBeh w h n ∧ zR μ (2000 + n) 2 = fSid w h n ∧ zI μ (2000 + n) 3 = fAxi w h n) ∧
  zI μ 0 0 = nI w ∧ zI μ 0 1 = nI h ∧ zI μ 0 2 = ly ∧ 1 ≤ w ∧ w ≤ 12 ∧ 1 ≤ h ∧ h ≤ 12
theorem zLC.R0 {w h : Nat} {ly : Int32} {μ : ZMem} (H : zLC w h ly μ) {k : Nat} (hk : 3 ≤ k ∧ k < 11) : zR μ 0 k = some (k - 2) := by
  have := H.1 (k - 3) (by omega)
  rw [show 3 + (k - 3) = k by omega, show 1 + (k - 3) = k - 2 by omega] at this
  exact this
