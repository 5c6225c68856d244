/-! a depth: what it leaves -/
def inc (w h n c : Nat) : Prop := fBef w h n = some c ∨ fBeh w h n = some c
theorem rest_pt {M : ZMem} {w h c : Nat} (hR : fRf w h M) : ∀ N, N ≤ fcA w h → zR (zit (u_rest1 c) N M) = zR M ∧ zI (zit (u_rest1 c) N M) = zI M ∧ zL (zit (u_rest1 c) N M) = zL M ∧ (∀ n, n < N → inc w h n c → zD (zit (u_rest1 c) N M) (2000 + n) 4 = 0) ∧ ∀ r k, (∀ n, n < N → inc w h n c → ¬ (r = 2000 + n ∧ k = 4)) → zD (zit (u_rest1 c) N M) r k = zD M r k := by
  intro N
  induction N with
  | zero => exact fun _ => ⟨rfl, rfl, rfl, fun n hn => absurd hn (by omega), fun _ _ _ => rfl⟩
  | succ N ih =>
    intro hN
    obtain ⟨a1, a2, a3, a4, a5⟩ := ih (by omega)
    obtain ⟨r0, r1, _⟩ := hR N (by omega)
    show zR (u_rest1 c N (zit (u_rest1 c) N M)) = zR M ∧ zI (u_rest1 c N (zit (u_rest1 c) N M)) = zI M ∧ zL (u_rest1 c N (zit (u_rest1 c) N M)) = zL M ∧ (∀ n, n < N + 1 → inc w h n c → zD (u_rest1 c N (zit (u_rest1 c) N M)) (2000 + n) 4 = 0) ∧ ∀ r k, (∀ n, n < N + 1 → inc w h n c → ¬ (r = 2000 + n ∧ k = 4)) → zD (u_rest1 c N (zit (u_rest1 c) N M)) r k = zD M r k
    generalize zit (u_rest1 c) N M = X at *
    have e : u_rest1 c N X = if fBef w h N = some c then zsD X (2000 + N) 4 0 else if fBeh w h N = some c then zsD X (2000 + N) 4 0 else X := by
      unfold u_rest1 u_restAt
      rw [a1, r0, r1]
    rw [e]
    by_cases g : inc w h N c
    · have e2 : (if fBef w h N = some c then zsD X (2000 + N) 4 0 else if fBeh w h N = some c then zsD X (2000 + N) 4 0 else X) = zsD X (2000 + N) 4 0 := by
        rcases g with g | g
        · rw [if_pos g]
        · by_cases g2 : fBef w h N = some c
          · rw [if_pos g2]
          · rw [if_neg g2, if_pos g]
      rw [e2]
      refine ⟨a1, a2, a3, fun n hn hi => ?_, fun r k q => ?_⟩
      · rw [zD_sD]
        by_cases en : n = N
        · rw [if_pos ⟨by omega, rfl⟩]
        · rw [if_neg (by omega)]
          exact a4 n (by omega) hi
      · rw [zD_sD, if_neg (fun y => q N (by omega) g ⟨y.1, y.2⟩)]
        exact a5 r k (fun n hn => q n (by omega))
    · have e2 : (if fBef w h N = some c then zsD X (2000 + N) 4 0 else if fBeh w h N = some c then zsD X (2000 + N) 4 0 else X) = X := by
        rw [if_neg (fun y => g (Or.inl y)), if_neg (fun y => g (Or.inr y))]
      rw [e2]
      refine ⟨a1, a2, a3, fun n hn hi => ?_, fun r k q => a5 r k (fun n hn => q n (by omega))⟩
      by_cases en : n = N
      · subst en
        exact absurd hi g
      · exact a4 n (by omega) hi
def dV (v : UInt64) : Int64 := FP.d2l (zmul v k1000)
theorem cdep_pt {μ : ZMem} {w h k : Nat} (hk : k < w * h) (h144 : w * h ≤ 144) (hR : fRf w h μ) (v : UInt64) (hb : ∀ n, zR μ (1000 + k) 7 = some n → ∃ i, i < 10 ∧ n = 60 + i) : (∀ r a, ¬ (r = 1000 + k ∧ a = 7) → ¬ (zR μ (1000 + k) 7 = some r ∧ a = 1) → zR (u_dep3 μ (1000 + k) (fcA w h) v) r a = zR μ r a) ∧ zR (u_dep3 μ (1000 + k) (fcA w h) v) (1000 + k) 7 = none ∧ (∀ n, zR μ (1000 + k) 7 = some n → zR (u_dep3 μ (1000 + k) (fcA w h) v) n 1 = none) ∧ (∀ r a, ¬ (r = 1000 + k ∧ a = 0) → ¬ (r = 0 ∧ a = 13) → zI (u_dep3 μ (1000 + k) (fcA w h) v) r a = zI μ r a) ∧ zI (u_dep3 μ (1000 + k) (fcA w h) v) (1000 + k) 0 = s_wet v ∧ zI (u_dep3 μ (1000 + k) (fcA w h) v) 0 13 = zI μ 0 13 + 1 ∧ (∀ r a, ¬ (r = 1000 + k ∧ a = 2) → ¬ (r = 0 ∧ a = 15) → zL (u_dep3 μ (1000 + k) (fcA w h) v) r a = zL μ r a) ∧ zL (u_dep3 μ (1000 + k) (fcA w h) v) (1000 + k) 2 = dV v ∧ zL (u_dep3 μ (1000 + k) (fcA w h) v) 0 15 = zL μ 0 15 - zL μ (1000 + k) 2 + dV v ∧ (zD (u_dep3 μ (1000 + k) (fcA w h) v) (1000 + k) 1 = v ∧ zD (u_dep3 μ (1000 + k) (fcA w h) v) (1000 + k) 3 = k10 ∧ zD (u_dep3 μ (1000 + k) (fcA w h) v) (1000 + k) 4 = k35 ∧ zD (u_dep3 μ (1000 + k) (fcA w h) v) (1000 + k) 5 = 0) ∧ (∀ n, n < fcA w h → inc w h n (1000 + k) → zD (u_dep3 μ (1000 + k) (fcA w h) v) (2000 + n) 4 = 0) ∧ ∀ r a, ¬ (r = 1000 + k ∧ (a = 1 ∨ a = 3 ∨ a = 4 ∨ a = 5)) → (∀ n, n < fcA w h → inc w h n (1000 + k) → ¬ (r = 2000 + n ∧ a = 4)) → zD (u_dep3 μ (1000 + k) (fcA w h) v) r a = zD μ r a := by
  have b1 : ∀ M : ZMem, zR (u_bec1 M (1000 + k) v) = zR M := fun _ => rfl
  have X : ∃ Y : ZMem, u_dep1 μ (1000 + k) v = Y ∧ (∀ r a, ¬ (r = 1000 + k ∧ a = 7) → ¬ (zR μ (1000 + k) 7 = some r ∧ a = 1) → zR Y r a = zR μ r a) ∧ zR Y (1000 + k) 7 = none ∧ (∀ n, zR μ (1000 + k) 7 = some n → zR Y n 1 = none) ∧ zI Y = zI (u_bec1 (zsL μ 0 15 (zL μ 0 15 - zL μ (1000 + k) 2)) (1000 + k) v) ∧ zL Y = zL (u_bec1 (zsL μ 0 15 (zL μ 0 15 - zL μ (1000 + k) 2)) (1000 + k) v) ∧ zD Y = zD (u_bec1 (zsL μ 0 15 (zL μ 0 15 - zL μ (1000 + k) 2)) (1000 + k) v) := by
    refine ⟨_, rfl, ?_⟩
    unfold u_dep1 u_become
    cases hh : zR μ (1000 + k) 7 with
    | none =>
      have : zR (zsL μ 0 15 (zL μ 0 15 - zL μ (1000 + k) 2)) (1000 + k) 7 = none := hh
      rw [this]
      exact ⟨fun _ _ _ _ => rfl, hh, fun n q => absurd q (by simp), rfl, rfl, rfl⟩
    | some n =>
      have : zR (zsL μ 0 15 (zL μ 0 15 - zL μ (1000 + k) 2)) (1000 + k) 7 = some n := hh
      rw [this]
      obtain ⟨i, hi, rfl⟩ := hb n hh
      show (∀ r a, _ → _ → zR (zsR (zsR (u_bec1 (zsL μ 0 15 (zL μ 0 15 - zL μ (1000 + k) 2)) (1000 + k) v) (60 + i) 1 none) (1000 + k) 7 none) r a = zR μ r a) ∧ zR (zsR (zsR (u_bec1 (zsL μ 0 15 (zL μ 0 15 - zL μ (1000 + k) 2)) (1000 + k) v) (60 + i) 1 none) (1000 + k) 7 none) (1000 + k) 7 = none ∧ (∀ n', _ → zR (zsR (zsR (u_bec1 (zsL μ 0 15 (zL μ 0 15 - zL μ (1000 + k) 2)) (1000 + k) v) (60 + i) 1 none) (1000 + k) 7 none) n' 1 = none) ∧ _
      refine ⟨fun r a h1 h2 => ?_, ?_, fun n' q => ?_, rfl, rfl, rfl⟩
      · rw [zR_sR, if_neg h1, zR_sR, if_neg (fun e => h2 ⟨by rw [e.1], e.2⟩)]
        rfl
      · rw [zR_sR, if_pos ⟨rfl, rfl⟩]
      · have := Option.some.inj q
        rw [zR_sR, if_neg (by omega), zR_sR, if_pos ⟨by omega, rfl⟩]
  obtain ⟨Y, y0, y1, y2, y3, y4, y5, y6⟩ := X
  have eu : u_dep3 μ (1000 + k) (fcA w h) v = (fun m : ZMem => zsI m 0 13 (zI m 0 13 + 1)) (zit (u_rest1 (1000 + k)) (fcA w h) (zsL Y 0 15 (zL Y 0 15 + zL Y (1000 + k) 2))) := by
    unfold u_dep3 u_dep2
    rw [y0]
  have hRY : fRf w h (zsL Y 0 15 (zL Y 0 15 + zL Y (1000 + k) 2)) := fun n hn => by
    have g : ∀ a, zR (zsL Y 0 15 (zL Y 0 15 + zL Y (1000 + k) 2)) (2000 + n) a = zR μ (2000 + n) a := fun a => y1 _ _ (by omega) (fun q => by
      obtain ⟨i, hi, e⟩ := hb _ q.1
      omega)
    rw [g, g, g]
    exact hR n hn
  obtain ⟨z1, z2, z3, z4, z5⟩ := rest_pt (c := 1000 + k) hRY (fcA w h) (Nat.le_refl _)
  rw [eu]
  generalize zit (u_rest1 (1000 + k)) (fcA w h) (zsL Y 0 15 (zL Y 0 15 + zL Y (1000 + k) 2)) = Z at *
  have fin : ∀ n, n < fcA w h → 2000 + n ≠ 1000 + k := fun n _ => by omega
  have yI : ∀ r a, ¬ (r = 1000 + k ∧ a = 0) → zI Y r a = zI μ r a := fun r a h => by
    rw [y4]
    unfold u_bec1
    simp only [zI_sD, zI_sL]
    rw [zI_sI, if_neg h]
    rfl
  have yI0 : zI Y (1000 + k) 0 = s_wet v := by
    rw [y4]
    unfold u_bec1
    simp only [zI_sD, zI_sL]
    rw [zI_sI, if_pos ⟨rfl, rfl⟩]
  have yL : ∀ r a, ¬ (r = 1000 + k ∧ a = 2) → ¬ (r = 0 ∧ a = 15) → zL Y r a = zL μ r a := fun r a h1 h2 => by
    rw [y5]
    unfold u_bec1
    simp only [zL_sD]
    rw [zL_sL, if_neg h1]
    simp only [zL_sD, zL_sI]
    rw [zL_sL, if_neg h2]
  have yL2 : zL Y (1000 + k) 2 = dV v := by
    rw [y5]
    unfold u_bec1
    simp only [zL_sD]
    rw [zL_sL, if_pos ⟨rfl, rfl⟩]
    rfl
  have yL15 : zL Y 0 15 = zL μ 0 15 - zL μ (1000 + k) 2 := by
    rw [y5]
    unfold u_bec1
    simp only [zL_sD]
    rw [zL_sL, if_neg (by omega)]
    simp only [zL_sD, zL_sI]
    rw [zL_sL, if_pos ⟨rfl, rfl⟩]
  have yD : ∀ r a, ¬ (r = 1000 + k ∧ (a = 1 ∨ a = 3 ∨ a = 4 ∨ a = 5)) → zD Y r a = zD μ r a := fun r a h => by
    rw [y6]
    unfold u_bec1
    rw [zD_sD, if_neg (by omega), zD_sD, if_neg (by omega), zD_sD, if_neg (by omega), zD_sL, zD_sD, if_neg (by omega)]
    rfl
  have yD4 : zD Y (1000 + k) 1 = v ∧ zD Y (1000 + k) 3 = k10 ∧ zD Y (1000 + k) 4 = k35 ∧ zD Y (1000 + k) 5 = 0 := by
    rw [y6]
    unfold u_bec1
    refine ⟨?_, ?_, ?_, ?_⟩
    · rw [zD_sD, if_neg (by omega), zD_sD, if_neg (by omega), zD_sD, if_neg (by omega), zD_sL, zD_sD, if_pos ⟨rfl, rfl⟩]
    · rw [zD_sD, if_neg (by omega), zD_sD, if_neg (by omega), zD_sD, if_pos ⟨rfl, rfl⟩]
    · rw [zD_sD, if_neg (by omega), zD_sD, if_pos ⟨rfl, rfl⟩]
    · rw [zD_sD, if_pos ⟨rfl, rfl⟩]
  have zDc : ∀ a, zD Z (1000 + k) a = zD Y (1000 + k) a := fun a => z5 _ _ (fun n hn _ q => by omega)
  refine ⟨fun r a h1 h2 => ?_, ?_, fun n q => ?_, fun r a h1 h2 => ?_, ?_, ?_, fun r a h1 h2 => ?_, ?_, ?_, ⟨?_, ?_, ?_, ?_⟩, fun n hn hi => ?_, fun r a h1 h2 => ?_⟩
  · show zR Z r a = _
    rw [z1]
    exact y1 r a h1 h2
  · show zR Z (1000 + k) 7 = _
    rw [z1]
    exact y2
  · show zR Z n 1 = _
    rw [z1]
    exact y3 n q
  · show zI (zsI Z 0 13 (zI Z 0 13 + 1)) r a = _
    rw [zI_sI, if_neg h2, z2]
    exact yI r a h1
  · show zI (zsI Z 0 13 (zI Z 0 13 + 1)) (1000 + k) 0 = _
    rw [zI_sI, if_neg (by omega), z2]
    exact yI0
  · show zI (zsI Z 0 13 (zI Z 0 13 + 1)) 0 13 = _
    rw [zI_sI, if_pos ⟨rfl, rfl⟩, z2]
    show zI Y 0 13 + 1 = _
    rw [yI 0 13 (by omega)]
  · show zL Z r a = _
    rw [z3, zL_sL, if_neg h2]
    exact yL r a h1 h2
  · show zL Z (1000 + k) 2 = _
    rw [z3, zL_sL, if_neg (by omega)]
    exact yL2
  · show zL Z 0 15 = _
    rw [z3, zL_sL, if_pos ⟨rfl, rfl⟩, yL15, yL2]
  · show zD Z (1000 + k) 1 = _
    rw [zDc]
    exact yD4.1
  · show zD Z (1000 + k) 3 = _
    rw [zDc]
    exact yD4.2.1
  · show zD Z (1000 + k) 4 = _
    rw [zDc]
    exact yD4.2.2.1
  · show zD Z (1000 + k) 5 = _
    rw [zDc]
    exact yD4.2.2.2
  · exact z4 n hn hi
  · show zD Z r a = _
    rw [z5 r a h2]
    exact yD r a h1
/-- the faces that the model sets to rest -/
def zRs (w h i j f : Nat) : Prop := f = 12 * j + i ∨ f = 144 + (12 * j + i) ∨ (0 < i ∧ f = 12 * j + (i - 1)) ∨ (0 < j ∧ f = 144 + (12 * (j - 1) + i)) ∨ ∃ k, k < 4 ∧ atP w h i j k ∧ f = sfN i j k
theorem mdep_pt {m : ZMem} {w h T i j : Nat} (hd : zDim w h) (hi : i < w) (hj : j < h) (v : UInt64) : zR (q_dep m w h T i j v) = zR m ∧ (∀ r a, ¬ (r = 4 ∧ a = 12 * j + i) → ¬ (r = 31 ∧ a < T) → ¬ (r = 30 ∧ a = 12 * j + i) → ¬ (r = 0 ∧ a = 40) → zI (q_dep m w h T i j v) r a = zI m r a) ∧ zI (q_dep m w h T i j v) 4 (12 * j + i) = s_wet v ∧ (∀ a, a < T → zI (q_dep m w h T i j v) 31 a = if zI m 31 a = 0 then 0 else if zI m 29 a = nI (12 * j + i) then 0 else 1) ∧ zI (q_dep m w h T i j v) 30 (12 * j + i) = 0 ∧ zI (q_dep m w h T i j v) 0 40 = zI m 0 40 + 1 ∧ (∀ r a, ¬ (r = 7 ∧ a = 12 * j + i) → ¬ (r = 0 ∧ a = 14) → zL (q_dep m w h T i j v) r a = zL m r a) ∧ zL (q_dep m w h T i j v) 7 (12 * j + i) = dV v ∧ zL (q_dep m w h T i j v) 0 14 = zL m 0 14 - zL m 7 (12 * j + i) + dV v ∧ (zD (q_dep m w h T i j v) 5 (12 * j + i) = v ∧ zD (q_dep m w h T i j v) 8 (12 * j + i) = k10 ∧ zD (q_dep m w h T i j v) 9 (12 * j + i) = k35 ∧ zD (q_dep m w h T i j v) 10 (12 * j + i) = 0) ∧ (∀ r a, r ≠ 11 → ¬ (r = 5 ∧ a = 12 * j + i) → ¬ (r = 8 ∧ a = 12 * j + i) → ¬ (r = 9 ∧ a = 12 * j + i) → ¬ (r = 10 ∧ a = 12 * j + i) → zD (q_dep m w h T i j v) r a = zD m r a) ∧ (∀ f, zRs w h i j f → zD (q_dep m w h T i j v) 11 f = 0) ∧ ∀ f, ¬ zRs w h i j f → zD (q_dep m w h T i j v) 11 f = zD m 11 f := by
  obtain ⟨d1, d2, d3, d4⟩ := id hd
  unfold q_dep
  -- the cell
  have x1 : ∃ X, q_dp2 (q_dp1 m (12 * j + i) v) (12 * j + i) v = X ∧ zR X = zR m ∧ (∀ r a, zI X r a = if r = 4 ∧ a = 12 * j + i then s_wet v else zI m r a) ∧ (∀ r a, ¬ (r = 7 ∧ a = 12 * j + i) → ¬ (r = 0 ∧ a = 14) → zL X r a = zL m r a) ∧ zL X 7 (12 * j + i) = dV v ∧ zL X 0 14 = zL m 0 14 - zL m 7 (12 * j + i) + dV v ∧ (zD X 5 (12 * j + i) = v ∧ zD X 8 (12 * j + i) = k10 ∧ zD X 9 (12 * j + i) = k35 ∧ zD X 10 (12 * j + i) = 0) ∧ (∀ r a, r ≠ 11 → ¬ (r = 5 ∧ a = 12 * j + i) → ¬ (r = 8 ∧ a = 12 * j + i) → ¬ (r = 9 ∧ a = 12 * j + i) → ¬ (r = 10 ∧ a = 12 * j + i) → zD X r a = zD m r a) ∧ ∀ f, zD X 11 f = if f = 12 * j + i ∨ f = 144 + (12 * j + i) then 0 else zD m 11 f := by
    refine ⟨_, rfl, ?_⟩
    unfold q_dp2 q_dp1
    simp only []
    refine ⟨rfl, fun r a => ?_, fun r a h1 h2 => ?_, ?_, ?_, ⟨?_, ?_, ?_, ?_⟩, fun r a h1 h2 h3 h4 h5 => ?_, fun f => ?_⟩
    · simp only [zI_sD, zI_sL]
      rw [zI_sI]
      rfl
    · simp only [zL_sD]
      rw [zL_sL, if_neg h2, zL_sL, if_neg h1]
      simp only [zL_sD, zL_sI]
      rw [zL_sL, if_neg h2]
    · simp only [zL_sD]
      rw [zL_sL, if_neg (by omega), zL_sL, if_pos ⟨rfl, rfl⟩]
      rfl
    · simp only [zL_sD]
      rw [zL_sL, if_pos ⟨rfl, rfl⟩, zL_sL, if_neg (by omega), zL_sL, if_pos ⟨rfl, rfl⟩]
      simp only [zL_sD, zL_sI]
      rw [zL_sL, if_pos ⟨rfl, rfl⟩]
      rfl
    · rw [zD_sD, if_neg (by omega), zD_sD, if_neg (by omega), zD_sD, if_neg (by omega), zD_sD, if_neg (by omega), zD_sD, if_neg (by omega), zD_sL, zD_sL, zD_sD, if_pos ⟨rfl, rfl⟩]
    · rw [zD_sD, if_neg (by omega), zD_sD, if_neg (by omega), zD_sD, if_neg (by omega), zD_sD, if_neg (by omega), zD_sD, if_pos ⟨rfl, rfl⟩]
    · rw [zD_sD, if_neg (by omega), zD_sD, if_neg (by omega), zD_sD, if_neg (by omega), zD_sD, if_pos ⟨rfl, rfl⟩]
    · rw [zD_sD, if_neg (by omega), zD_sD, if_neg (by omega), zD_sD, if_pos ⟨rfl, rfl⟩]
    · rw [zD_sD, if_neg (by omega), zD_sD, if_neg (by omega), zD_sD, if_neg h5, zD_sD, if_neg h4, zD_sD, if_neg h3, zD_sL, zD_sL, zD_sD, if_neg h2]
      rfl
    · by_cases g : f = 12 * j + i ∨ f = 144 + (12 * j + i)
      · rw [if_pos g]
        rcases g with g | g
        · rw [zD_sD, if_neg (by omega), zD_sD, if_pos ⟨rfl, g⟩]
        · rw [zD_sD, if_pos ⟨rfl, g⟩]
      · rw [if_neg g, zD_sD, if_neg (by omega), zD_sD, if_neg (by omega), zD_sD, if_neg (by omega), zD_sD, if_neg (by omega), zD_sD, if_neg (by omega), zD_sL, zD_sL, zD_sD, if_neg (by omega)]
        rfl
  obtain ⟨X, x0, xR, xI, xL, xL7, xL0, xD5, xD, xF⟩ := x1
  rw [x0]
  -- the faces
  have only : ∀ (M M' : ZMem), (∃ f, M' = zsD M 11 f 0) ∨ M' = M → zR M' = zR M ∧ zI M' = zI M ∧ zL M' = zL M ∧ ∀ r a, r ≠ 11 → zD M' r a = zD M r a := fun M M' q => by
    rcases q with ⟨f, rfl⟩ | rfl
    · exact ⟨rfl, rfl, rfl, fun r a hr => by rw [zD_sD, if_neg (fun e => hr e.1)]⟩
    · exact ⟨rfl, rfl, rfl, fun _ _ _ => rfl⟩
  have pi : nI i ≤ 0 ↔ i = 0 := nI_p (by omega)
  have pj : nI j ≤ 0 ↔ j = 0 := nI_p (by omega)
  have sA : zR (q_dpA i j X) = zR X ∧ zI (q_dpA i j X) = zI X ∧ zL (q_dpA i j X) = zL X ∧ (∀ r a, r ≠ 11 → zD (q_dpA i j X) r a = zD X r a) ∧ ∀ f, zD (q_dpA i j X) 11 f = if 0 < i ∧ f = 12 * j + (i - 1) then 0 else zD X 11 f := by
    unfold q_dpA
    by_cases g : nI i ≤ 0
    · rw [if_pos g]
      exact ⟨rfl, rfl, rfl, fun _ _ _ => rfl, fun f => by rw [if_neg (fun q => by have := pi.mp g; omega)]⟩
    · rw [if_neg g]
      obtain ⟨o1, o2, o3, o4⟩ := only X (zsD X 11 (12 * j + (i - 1)) 0) (Or.inl ⟨_, rfl⟩)
      refine ⟨o1, o2, o3, o4, fun f => ?_⟩
      have gi : 0 < i := by
        rcases Nat.eq_zero_or_pos i with e | e
        · exact absurd (pi.mpr e) g
        · exact e
      rw [zD_sD]
      by_cases q : f = 12 * j + (i - 1)
      · rw [if_pos ⟨rfl, q⟩, if_pos ⟨gi, q⟩]
      · rw [if_neg (fun e => q e.2), if_neg (fun e => q e.2)]
  obtain ⟨a1, a2, a3, a4, a5⟩ := sA
  generalize q_dpA i j X = XA at *
  have sB : zR (q_dpB i j XA) = zR XA ∧ zI (q_dpB i j XA) = zI XA ∧ zL (q_dpB i j XA) = zL XA ∧ (∀ r a, r ≠ 11 → zD (q_dpB i j XA) r a = zD XA r a) ∧ ∀ f, zD (q_dpB i j XA) 11 f = if 0 < j ∧ f = 144 + (12 * (j - 1) + i) then 0 else zD XA 11 f := by
    unfold q_dpB
    by_cases g : nI j ≤ 0
    · rw [if_pos g]
      exact ⟨rfl, rfl, rfl, fun _ _ _ => rfl, fun f => by rw [if_neg (fun q => by have := pj.mp g; omega)]⟩
    · rw [if_neg g]
      obtain ⟨o1, o2, o3, o4⟩ := only XA (zsD XA 11 (144 + (12 * (j - 1) + i)) 0) (Or.inl ⟨_, rfl⟩)
      refine ⟨o1, o2, o3, o4, fun f => ?_⟩
      have gi : 0 < j := by
        rcases Nat.eq_zero_or_pos j with e | e
        · exact absurd (pj.mpr e) g
        · exact e
      rw [zD_sD]
      by_cases q : f = 144 + (12 * (j - 1) + i)
      · rw [if_pos ⟨rfl, q⟩, if_pos ⟨gi, q⟩]
      · rw [if_neg (fun e => q e.2), if_neg (fun e => q e.2)]
  obtain ⟨b1, b2, b3, b4, b5⟩ := sB
  generalize q_dpB i j XA = XB at *
  have sS : ∀ N, N ≤ 4 → zR (zit (q_dpS w h i j) N XB) = zR XB ∧ zI (zit (q_dpS w h i j) N XB) = zI XB ∧ zL (zit (q_dpS w h i j) N XB) = zL XB ∧ (∀ r a, r ≠ 11 → zD (zit (q_dpS w h i j) N XB) r a = zD XB r a) ∧ (∀ f, (∃ k, k < N ∧ atP w h i j k ∧ f = sfN i j k) → zD (zit (q_dpS w h i j) N XB) 11 f = 0) ∧ ∀ f, (¬ ∃ k, k < N ∧ atP w h i j k ∧ f = sfN i j k) → zD (zit (q_dpS w h i j) N XB) 11 f = zD XB 11 f := by
    intro N
    induction N with
    | zero => exact fun _ => ⟨rfl, rfl, rfl, fun _ _ _ => rfl, fun f ⟨k, hk, _⟩ => absurd hk (by omega), fun _ _ => rfl⟩
    | succ N ih =>
      intro hN
      obtain ⟨i1, i2, i3, i4, i5, i6⟩ := ih (by omega)
      have e : zit (q_dpS w h i j) (N + 1) XB = q_dpS w h i j N (zit (q_dpS w h i j) N XB) := rfl
      rw [e]
      generalize zit (q_dpS w h i j) N XB = Y at *
      have at' := atP_iff d1 d2 d3 d4 hi hj (k := N) (by omega)
      unfold q_dpS
      by_cases g : t_isAtSide w h (nI i) (nI j) (nI N) = 0
      · rw [if_pos g]
        refine ⟨i1, i2, i3, i4, fun f ⟨k, hk, ha, hf⟩ => ?_, fun f q => i6 f (fun ⟨k, hk, ha, hf⟩ => q ⟨k, by omega, ha, hf⟩)⟩
        by_cases ek : k = N
        · subst ek
          exact absurd g (at'.mpr ha)
        · exact i5 f ⟨k, by omega, ha, hf⟩
      · rw [if_neg g]
        have hat := at'.mp g
        obtain ⟨o1, o2, o3, o4⟩ := only Y (zsD Y 11 (sfN i j N) 0) (Or.inl ⟨_, rfl⟩)
        refine ⟨o1.trans i1, o2.trans i2, o3.trans i3, fun r a hr => (o4 r a hr).trans (i4 r a hr), fun f ⟨k, hk, ha, hf⟩ => ?_, fun f q => ?_⟩
        · rw [zD_sD]
          by_cases ek : f = sfN i j N
          · rw [if_pos ⟨rfl, ek⟩]
          · rw [if_neg (fun e => ek e.2)]
            exact i5 f ⟨k, by
              rcases Nat.lt_or_ge k N with u | u
              · exact u
              · have : k = N := by omega
                subst this
                exact absurd hf ek, ha, hf⟩
        · rw [zD_sD, if_neg (fun e => q ⟨N, by omega, hat, e.2⟩)]
          exact i6 f (fun ⟨k, hk, ha, hf⟩ => q ⟨k, by omega, ha, hf⟩)
  obtain ⟨s1, s2, s3, s4, s5, s6⟩ := sS 4 (Nat.le_refl 4)
  generalize zit (q_dpS w h i j) 4 XB = XS at *
  have sN : ∀ N, N ≤ T → zR (zit (q_dpN (12 * j + i)) N XS) = zR XS ∧ zL (zit (q_dpN (12 * j + i)) N XS) = zL XS ∧ zD (zit (q_dpN (12 * j + i)) N XS) = zD XS ∧ (∀ r a, ¬ (r = 31 ∧ a < N) → zI (zit (q_dpN (12 * j + i)) N XS) r a = zI XS r a) ∧ ∀ a, a < N → zI (zit (q_dpN (12 * j + i)) N XS) 31 a = if zI XS 31 a = 0 then 0 else if zI XS 29 a = nI (12 * j + i) then 0 else 1 := by
    intro N
    induction N with
    | zero => exact fun _ => ⟨rfl, rfl, rfl, fun _ _ _ => rfl, fun a ha => absurd ha (by omega)⟩
    | succ N ih =>
      intro hN
      obtain ⟨i1, i2, i3, i4, i5⟩ := ih (by omega)
      have e : zit (q_dpN (12 * j + i)) (N + 1) XS = q_dpN (12 * j + i) N (zit (q_dpN (12 * j + i)) N XS) := rfl
      rw [e]
      generalize zit (q_dpN (12 * j + i)) N XS = Y at *
      unfold q_dpN
      refine ⟨i1, i2, i3, fun r a q => ?_, fun a ha => ?_⟩
      · rw [zI_sI, if_neg (by omega)]
        exact i4 r a (by omega)
      · rw [zI_sI]
        by_cases ea : a = N
        · rw [if_pos ⟨rfl, ea⟩, i4 31 N (by omega), i4 29 N (by omega), ea]
        · rw [if_neg (fun e => ea e.2)]
          exact i5 a (by omega)
  obtain ⟨n1, n2, n3, n4, n5⟩ := sN T (Nat.le_refl T)
  generalize zit (q_dpN (12 * j + i)) T XS = XN at *
  have eI : ∀ r a, zI XS r a = if r = 4 ∧ a = 12 * j + i then s_wet v else zI m r a := fun r a => by
    rw [s2, b2, a2]
    exact xI r a
  have eL : zL XN = zL X := n2.trans (s3.trans (b3.trans a3))
  have eD : ∀ r a, r ≠ 11 → zD XN r a = zD X r a := fun r a hr => by
    rw [n3, s4 r a hr, b4 r a hr, a4 r a hr]
  unfold q_dpE
  simp only []
  refine ⟨n1.trans (s1.trans (b1.trans (a1.trans xR))), fun r a h1 h2 h3 h4 => ?_, ?_, fun a ha => ?_, ?_, ?_, fun r a h1 h2 => ?_, ?_, ?_, ⟨?_, ?_, ?_, ?_⟩, fun r a h1 h2 h3 h4 h5 => ?_, fun f hf => ?_, fun f hf => ?_⟩
  · rw [zI_sI, if_neg h4, zI_sI, if_neg h3, n4 r a h2, eI, if_neg h1]
  · rw [zI_sI, if_neg (by omega), zI_sI, if_neg (by omega), n4 _ _ (by omega), eI, if_pos ⟨rfl, rfl⟩]
  · have e31 : zI XS 31 a = zI m 31 a := (eI 31 a).trans (if_neg (by omega))
    have e29 : zI XS 29 a = zI m 29 a := (eI 29 a).trans (if_neg (by omega))
    rw [zI_sI, if_neg (by omega), zI_sI, if_neg (by omega), n5 a ha, e31, e29]
  · rw [zI_sI, if_neg (by omega), zI_sI, if_pos ⟨rfl, rfl⟩]
  · rw [zI_sI, if_pos ⟨rfl, rfl⟩, zI_sI, if_neg (by omega), n4 _ _ (by omega), eI, if_neg (by omega)]
  · show zL XN r a = _
    rw [eL]
    exact xL r a h1 h2
  · show zL XN 7 (12 * j + i) = _
    rw [eL]
    exact xL7
  · show zL XN 0 14 = _
    rw [eL]
    exact xL0
  · exact (eD 5 _ (by decide)).trans xD5.1
  · exact (eD 8 _ (by decide)).trans xD5.2.1
  · exact (eD 9 _ (by decide)).trans xD5.2.2.1
  · exact (eD 10 _ (by decide)).trans xD5.2.2.2
  · exact (eD r a h1).trans (xD r a h1 h2 h3 h4 h5)
  · show zD XN 11 f = 0
    rw [n3]
    by_cases g : ∃ k, k < 4 ∧ atP w h i j k ∧ f = sfN i j k
    · exact s5 f g
    · rw [s6 f g, b5]
      by_cases g2 : 0 < j ∧ f = 144 + (12 * (j - 1) + i)
      · rw [if_pos g2]
      · rw [if_neg g2, a5]
        by_cases g3 : 0 < i ∧ f = 12 * j + (i - 1)
        · rw [if_pos g3]
        · rw [if_neg g3, xF, if_pos]
          unfold zRs at hf
          rcases hf with q | q | q | q | q
          · exact Or.inl q
          · exact Or.inr q
          · exact absurd q g3
          · exact absurd q g2
          · exact absurd q g
  · show zD XN 11 f = _
    unfold zRs at hf
    rw [n3, s6 f (fun q => hf (Or.inr (Or.inr (Or.inr (Or.inr q))))), b5, if_neg (fun q => hf (Or.inr (Or.inr (Or.inr (Or.inl q))))), a5, if_neg (fun q => hf (Or.inr (Or.inr (Or.inl q)))), xF, if_neg (fun q => hf (q.elim Or.inl (fun y => Or.inr (Or.inl y))))]
