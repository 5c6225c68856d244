/-! the model's save and back, place by place -/
theorem svC_pt (T : Nat) (m : ZMem) : ∀ n, zR (zit (q_svC T) n m) = zR m ∧ zI (zit (q_svC T) n m) = zI m ∧ (∀ k, k < n → zL (zit (q_svC T) n m) 43 (144 * T + k) = zL m 7 k ∧ zD (zit (q_svC T) n m) 44 (144 * T + k) = zD m 8 k ∧ zD (zit (q_svC T) n m) 45 (144 * T + k) = zD m 9 k ∧ zD (zit (q_svC T) n m) 46 (144 * T + k) = zD m 10 k) ∧ (∀ r a, ¬ (r = 43 ∧ 144 * T ≤ a ∧ a < 144 * T + n) → zL (zit (q_svC T) n m) r a = zL m r a) ∧ ∀ r a, ¬ (44 ≤ r ∧ r ≤ 46 ∧ 144 * T ≤ a ∧ a < 144 * T + n) → zD (zit (q_svC T) n m) r a = zD m r a := by
  intro n
  induction n with
  | zero => exact ⟨rfl, rfl, fun k hk => absurd hk (by omega), fun _ _ _ => rfl, fun _ _ _ => rfl⟩
  | succ n ih =>
    obtain ⟨a1, a2, a3, a4, a5⟩ := ih
    have e : zit (q_svC T) (n + 1) m = q_svC T n (zit (q_svC T) n m) := rfl
    rw [e]
    generalize zit (q_svC T) n m = X at *
    have eX : q_svC T n X = zsD (zsD (zsD (zsL X 43 (144 * T + n) (zL m 7 n)) 44 (144 * T + n) (zD m 8 n)) 45 (144 * T + n) (zD m 9 n)) 46 (144 * T + n) (zD m 10 n) := by
      unfold q_svC
      simp only [zD_sD, zD_sL]
      rw [a4 7 n (by omega), a5 8 n (by omega), if_neg (by omega), a5 9 n (by omega), if_neg (by omega), if_neg (by omega), a5 10 n (by omega)]
    rw [eX]
    refine ⟨a1, a2, fun k hk => ?_, fun r a hr => ?_, fun r a hr => ?_⟩
    · by_cases ek : k = n
      · subst ek
        refine ⟨?_, ?_, ?_, ?_⟩
        · rw [zL_sD, zL_sD, zL_sD, zL_sL, if_pos ⟨rfl, rfl⟩]
        · rw [zD_sD, if_neg (by omega), zD_sD, if_neg (by omega), zD_sD, if_pos ⟨rfl, rfl⟩]
        · rw [zD_sD, if_neg (by omega), zD_sD, if_pos ⟨rfl, rfl⟩]
        · rw [zD_sD, if_pos ⟨rfl, rfl⟩]
      · obtain ⟨b1, b2, b3, b4⟩ := a3 k (by omega)
        refine ⟨?_, ?_, ?_, ?_⟩
        · rw [zL_sD, zL_sD, zL_sD, zL_sL, if_neg (by omega), b1]
        · rw [zD_sD, if_neg (by omega), zD_sD, if_neg (by omega), zD_sD, if_neg (by omega), zD_sL, b2]
        · rw [zD_sD, if_neg (by omega), zD_sD, if_neg (by omega), zD_sD, if_neg (by omega), zD_sL, b3]
        · rw [zD_sD, if_neg (by omega), zD_sD, if_neg (by omega), zD_sD, if_neg (by omega), zD_sL, b4]
    · rw [zL_sD, zL_sD, zL_sD, zL_sL, if_neg (by omega)]
      exact a4 r a (by omega)
    · rw [zD_sD, if_neg (by omega), zD_sD, if_neg (by omega), zD_sD, if_neg (by omega), zD_sL]
      exact a5 r a (by omega)
theorem bkC_pt (T : Nat) (m : ZMem) : ∀ n, zR (zit (q_bkC T) n m) = zR m ∧ zI (zit (q_bkC T) n m) = zI m ∧ (∀ k, k < n → zL (zit (q_bkC T) n m) 7 k = zL m 43 (144 * T + k) ∧ zD (zit (q_bkC T) n m) 8 k = zD m 44 (144 * T + k) ∧ zD (zit (q_bkC T) n m) 9 k = zD m 45 (144 * T + k) ∧ zD (zit (q_bkC T) n m) 10 k = zD m 46 (144 * T + k)) ∧ (∀ r, r ≠ 7 → zL (zit (q_bkC T) n m) r = zL m r) ∧ ∀ r, ¬ (8 ≤ r ∧ r ≤ 10) → zD (zit (q_bkC T) n m) r = zD m r := by
  intro n
  induction n with
  | zero => exact ⟨rfl, rfl, fun k hk => absurd hk (by omega), fun _ _ => rfl, fun _ _ => rfl⟩
  | succ n ih =>
    obtain ⟨a1, a2, a3, a4, a5⟩ := ih
    have e : zit (q_bkC T) (n + 1) m = q_bkC T n (zit (q_bkC T) n m) := rfl
    rw [e]
    generalize zit (q_bkC T) n m = X at *
    have eX : q_bkC T n X = zsD (zsD (zsD (zsL X 7 n (zL m 43 (144 * T + n))) 8 n (zD m 44 (144 * T + n))) 9 n (zD m 45 (144 * T + n))) 10 n (zD m 46 (144 * T + n)) := by
      unfold q_bkC
      simp only [zD_sD, zD_sL]
      rw [a4 43 (by omega), a5 44 (by omega), if_neg (by omega), a5 45 (by omega), if_neg (by omega), if_neg (by omega), a5 46 (by omega)]
    rw [eX]
    refine ⟨a1, a2, fun k hk => ?_, fun r hr => ?_, fun r hr => ?_⟩
    · by_cases ek : k = n
      · subst ek
        refine ⟨?_, ?_, ?_, ?_⟩
        · rw [zL_sD, zL_sD, zL_sD, zL_sL, if_pos ⟨rfl, rfl⟩]
        · rw [zD_sD, if_neg (by omega), zD_sD, if_neg (by omega), zD_sD, if_pos ⟨rfl, rfl⟩]
        · rw [zD_sD, if_neg (by omega), zD_sD, if_pos ⟨rfl, rfl⟩]
        · rw [zD_sD, if_pos ⟨rfl, rfl⟩]
      · obtain ⟨b1, b2, b3, b4⟩ := a3 k (by omega)
        refine ⟨?_, ?_, ?_, ?_⟩
        · rw [zL_sD, zL_sD, zL_sD, zL_sL, if_neg (by omega), b1]
        · rw [zD_sD, if_neg (by omega), zD_sD, if_neg (by omega), zD_sD, if_neg (by omega), zD_sL, b2]
        · rw [zD_sD, if_neg (by omega), zD_sD, if_neg (by omega), zD_sD, if_neg (by omega), zD_sL, b3]
        · rw [zD_sD, if_neg (by omega), zD_sD, if_neg (by omega), zD_sD, if_neg (by omega), zD_sL, b4]
    · rw [show zL (zsD (zsD (zsD (zsL X 7 n (zL m 43 (144 * T + n))) 8 n (zD m 44 (144 * T + n))) 9 n (zD m 45 (144 * T + n))) 10 n (zD m 46 (144 * T + n))) r = zL (zsL X 7 n (zL m 43 (144 * T + n))) r from rfl, zLr _ _ _ hr]
      exact a4 r hr
    · rw [zDr _ _ _ (by omega), zDr _ _ _ (by omega), zDr _ _ _ (by omega)]
      exact a5 r hr
theorem svF_pt (T : Nat) (m : ZMem) : ∀ n, zR (zit (q_svF T) n m) = zR m ∧ zI (zit (q_svF T) n m) = zI m ∧ zL (zit (q_svF T) n m) = zL m ∧ (∀ k, k < n → zD (zit (q_svF T) n m) 47 (336 * T + k) = zD m 11 k) ∧ ∀ r a, ¬ (r = 47 ∧ 336 * T ≤ a ∧ a < 336 * T + n) → zD (zit (q_svF T) n m) r a = zD m r a := by
  intro n
  induction n with
  | zero => exact ⟨rfl, rfl, rfl, fun k hk => absurd hk (by omega), fun _ _ _ => rfl⟩
  | succ n ih =>
    obtain ⟨a1, a2, a3, a4, a5⟩ := ih
    have e : zit (q_svF T) (n + 1) m = zsD (zit (q_svF T) n m) 47 (336 * T + n) (zD (zit (q_svF T) n m) 11 n) := rfl
    rw [e]
    generalize zit (q_svF T) n m = X at *
    refine ⟨a1, a2, a3, fun k hk => ?_, fun r a hr => ?_⟩
    · rw [zD_sD]
      by_cases ek : k = n
      · subst ek
        rw [if_pos ⟨rfl, rfl⟩]
        exact a5 11 k (by omega)
      · rw [if_neg (by omega)]
        exact a4 k (by omega)
    · rw [zD_sD, if_neg (by omega)]
      exact a5 r a (by omega)
theorem svO_pt (T : Nat) (m : ZMem) : ∀ n, zR (zit (q_svO T) n m) = zR m ∧ zI (zit (q_svO T) n m) = zI m ∧ zD (zit (q_svO T) n m) = zD m ∧ (∀ k, k < n → zL (zit (q_svO T) n m) 48 (4 * T + k) = zL m 12 k) ∧ ∀ r a, ¬ (r = 48 ∧ 4 * T ≤ a ∧ a < 4 * T + n) → zL (zit (q_svO T) n m) r a = zL m r a := by
  intro n
  induction n with
  | zero => exact ⟨rfl, rfl, rfl, fun k hk => absurd hk (by omega), fun _ _ _ => rfl⟩
  | succ n ih =>
    obtain ⟨a1, a2, a3, a4, a5⟩ := ih
    have e : zit (q_svO T) (n + 1) m = zsL (zit (q_svO T) n m) 48 (4 * T + n) (zL (zit (q_svO T) n m) 12 n) := rfl
    rw [e]
    generalize zit (q_svO T) n m = X at *
    refine ⟨a1, a2, a3, fun k hk => ?_, fun r a hr => ?_⟩
    · rw [zL_sL]
      by_cases ek : k = n
      · subst ek
        rw [if_pos ⟨rfl, rfl⟩]
        exact a5 12 k (by omega)
      · rw [if_neg (by omega)]
        exact a4 k (by omega)
    · rw [zL_sL, if_neg (by omega)]
      exact a5 r a (by omega)
theorem bkF_pt (T : Nat) (m : ZMem) : ∀ n, zR (zit (q_bkF T) n m) = zR m ∧ zI (zit (q_bkF T) n m) = zI m ∧ zL (zit (q_bkF T) n m) = zL m ∧ (∀ k, k < n → zD (zit (q_bkF T) n m) 11 k = zD m 47 (336 * T + k)) ∧ ∀ r, r ≠ 11 → zD (zit (q_bkF T) n m) r = zD m r := by
  intro n
  induction n with
  | zero => exact ⟨rfl, rfl, rfl, fun k hk => absurd hk (by omega), fun _ _ => rfl⟩
  | succ n ih =>
    obtain ⟨a1, a2, a3, a4, a5⟩ := ih
    have e : zit (q_bkF T) (n + 1) m = zsD (zit (q_bkF T) n m) 11 n (zD (zit (q_bkF T) n m) 47 (336 * T + n)) := rfl
    rw [e]
    generalize zit (q_bkF T) n m = X at *
    refine ⟨a1, a2, a3, fun k hk => ?_, fun r hr => ?_⟩
    · rw [zD_sD]
      by_cases ek : k = n
      · subst ek
        rw [if_pos ⟨rfl, rfl⟩, a5 47 (by decide)]
      · rw [if_neg (by omega)]
        exact a4 k (by omega)
    · rw [zDr _ _ _ hr]
      exact a5 r hr
theorem bkO_pt (T : Nat) (m : ZMem) : ∀ n, zR (zit (q_bkO T) n m) = zR m ∧ zI (zit (q_bkO T) n m) = zI m ∧ zD (zit (q_bkO T) n m) = zD m ∧ (∀ k, k < n → zL (zit (q_bkO T) n m) 12 k = zL m 48 (4 * T + k)) ∧ ∀ r, r ≠ 12 → zL (zit (q_bkO T) n m) r = zL m r := by
  intro n
  induction n with
  | zero => exact ⟨rfl, rfl, rfl, fun k hk => absurd hk (by omega), fun _ _ => rfl⟩
  | succ n ih =>
    obtain ⟨a1, a2, a3, a4, a5⟩ := ih
    have e : zit (q_bkO T) (n + 1) m = zsL (zit (q_bkO T) n m) 12 n (zL (zit (q_bkO T) n m) 48 (4 * T + n)) := rfl
    rw [e]
    generalize zit (q_bkO T) n m = X at *
    refine ⟨a1, a2, a3, fun k hk => ?_, fun r hr => ?_⟩
    · rw [zL_sL]
      by_cases ek : k = n
      · subst ek
        rw [if_pos ⟨rfl, rfl⟩, a5 48 (by decide)]
      · rw [if_neg (by omega)]
        exact a4 k (by omega)
    · rw [zLr _ _ _ hr]
      exact a5 r hr
theorem msave_key (m : ZMem) (T : Nat) (A B C : ZMem) (hA : zR A = zR m ∧ zI A = zI m ∧ (∀ k, k < 144 → zL A 43 (144 * T + k) = zL m 7 k ∧ zD A 44 (144 * T + k) = zD m 8 k ∧ zD A 45 (144 * T + k) = zD m 9 k ∧ zD A 46 (144 * T + k) = zD m 10 k) ∧ (∀ r a, ¬ (r = 43 ∧ 144 * T ≤ a ∧ a < 144 * T + 144) → zL A r a = zL m r a) ∧ ∀ r a, ¬ (44 ≤ r ∧ r ≤ 46 ∧ 144 * T ≤ a ∧ a < 144 * T + 144) → zD A r a = zD m r a) (hB : zR B = zR A ∧ zI B = zI A ∧ zL B = zL A ∧ (∀ k, k < 336 → zD B 47 (336 * T + k) = zD A 11 k) ∧ ∀ r a, ¬ (r = 47 ∧ 336 * T ≤ a ∧ a < 336 * T + 336) → zD B r a = zD A r a) (hC : zR C = zR B ∧ zI C = zI B ∧ zD C = zD B ∧ (∀ k, k < 4 → zL C 48 (4 * T + k) = zL B 12 k) ∧ ∀ r a, ¬ (r = 48 ∧ 4 * T ≤ a ∧ a < 4 * T + 4) → zL C r a = zL B r a) : zR (q_svE T C) = zR m ∧ (∀ r a, ¬ (r = 42 ∧ a = T) → ¬ (r = 0 ∧ a = 39) → zI (q_svE T C) r a = zI m r a) ∧ zI (q_svE T C) 42 T = zI m 0 40 ∧ zI (q_svE T C) 0 39 = nI (T + 1) ∧ (∀ k, k < 144 → zL (q_svE T C) 43 (144 * T + k) = zL m 7 k ∧ zD (q_svE T C) 44 (144 * T + k) = zD m 8 k ∧ zD (q_svE T C) 45 (144 * T + k) = zD m 9 k ∧ zD (q_svE T C) 46 (144 * T + k) = zD m 10 k) ∧ (∀ k, k < 336 → zD (q_svE T C) 47 (336 * T + k) = zD m 11 k) ∧ (∀ k, k < 4 → zL (q_svE T C) 48 (4 * T + k) = zL m 12 k) ∧ zL (q_svE T C) 49 T = zL m 0 12 ∧ zD (q_svE T C) 50 T = zD m 0 13 ∧ (∀ r a, ¬ (r = 43 ∧ 144 * T ≤ a ∧ a < 144 * T + 144) → ¬ (r = 48 ∧ 4 * T ≤ a ∧ a < 4 * T + 4) → ¬ (r = 49 ∧ a = T) → zL (q_svE T C) r a = zL m r a) ∧ ∀ r a, ¬ (44 ≤ r ∧ r ≤ 46 ∧ 144 * T ≤ a ∧ a < 144 * T + 144) → ¬ (r = 47 ∧ 336 * T ≤ a ∧ a < 336 * T + 336) → ¬ (r = 50 ∧ a = T) → zD (q_svE T C) r a = zD m r a := by
  obtain ⟨a1, a2, a3, a4, a5⟩ := hA
  obtain ⟨b1, b2, b3, b4, b5⟩ := hB
  obtain ⟨c1, c2, c3, c4, c5⟩ := hC
  have eu : q_svE T C = zsI (zsI (zsD (zsL C 49 T (zL C 0 12)) 50 T (zD C 0 13)) 42 T (zI C 0 40)) 0 39 (nI (T + 1)) := rfl
  rw [eu]
  have eI : zI C = zI m := c2.trans (b2.trans a2)
  have eL : ∀ r a, ¬ (r = 43 ∧ 144 * T ≤ a ∧ a < 144 * T + 144) → ¬ (r = 48 ∧ 4 * T ≤ a ∧ a < 4 * T + 4) → zL C r a = zL m r a := fun r a h1 h2 => by
    rw [c5 r a h2, b3, a4 r a h1]
  have eD : ∀ r a, ¬ (44 ≤ r ∧ r ≤ 46 ∧ 144 * T ≤ a ∧ a < 144 * T + 144) → ¬ (r = 47 ∧ 336 * T ≤ a ∧ a < 336 * T + 336) → zD C r a = zD m r a := fun r a h1 h2 => by
    rw [c3, b5 r a h2, a5 r a h1]
  refine ⟨c1.trans (b1.trans a1), fun r a h1 h2 => ?_, ?_, ?_, fun k hk => ?_, fun k hk => ?_, fun k hk => ?_, ?_, ?_, fun r a h1 h2 h3 => ?_, fun r a h1 h2 h3 => ?_⟩
  · rw [zI_sI, if_neg h2, zI_sI, if_neg h1, zI_sD, zI_sL, eI]
  · rw [zI_sI, if_neg (by omega), zI_sI, if_pos ⟨rfl, rfl⟩, eI]
  · rw [zI_sI, if_pos ⟨rfl, rfl⟩]
  · obtain ⟨p1, p2, p3, p4⟩ := a3 k hk
    refine ⟨?_, ?_, ?_, ?_⟩
    · show zL (zsL C 49 T (zL C 0 12)) 43 (144 * T + k) = _
      rw [zL_sL, if_neg (by omega), c5 _ _ (by omega), b3, p1]
    · show zD (zsD (zsL C 49 T (zL C 0 12)) 50 T (zD C 0 13)) 44 (144 * T + k) = _
      rw [zD_sD, if_neg (by omega), zD_sL, c3, b5 _ _ (by omega), p2]
    · show zD (zsD (zsL C 49 T (zL C 0 12)) 50 T (zD C 0 13)) 45 (144 * T + k) = _
      rw [zD_sD, if_neg (by omega), zD_sL, c3, b5 _ _ (by omega), p3]
    · show zD (zsD (zsL C 49 T (zL C 0 12)) 50 T (zD C 0 13)) 46 (144 * T + k) = _
      rw [zD_sD, if_neg (by omega), zD_sL, c3, b5 _ _ (by omega), p4]
  · show zD (zsD (zsL C 49 T (zL C 0 12)) 50 T (zD C 0 13)) 47 (336 * T + k) = _
    rw [zD_sD, if_neg (by omega), zD_sL, c3, b4 k hk, a5 _ _ (by omega)]
  · show zL (zsL C 49 T (zL C 0 12)) 48 (4 * T + k) = _
    rw [zL_sL, if_neg (by omega), c4 k hk, b3, a4 _ _ (by omega)]
  · show zL (zsL C 49 T (zL C 0 12)) 49 T = _
    rw [zL_sL, if_pos ⟨rfl, rfl⟩]
    exact eL _ _ (by omega) (by omega)
  · show zD (zsD (zsL C 49 T (zL C 0 12)) 50 T (zD C 0 13)) 50 T = _
    rw [zD_sD, if_pos ⟨rfl, rfl⟩]
    exact eD _ _ (by omega) (by omega)
  · show zL (zsL C 49 T (zL C 0 12)) r a = _
    rw [zL_sL, if_neg h3]
    exact eL r a h1 h2
  · show zD (zsD (zsL C 49 T (zL C 0 12)) 50 T (zD C 0 13)) r a = _
    rw [zD_sD, if_neg h3, zD_sL]
    exact eD r a h1 h2
theorem msave_pt (m : ZMem) (T : Nat) : zR (q_save1 m T) = zR m ∧ (∀ r a, ¬ (r = 42 ∧ a = T) → ¬ (r = 0 ∧ a = 39) → zI (q_save1 m T) r a = zI m r a) ∧ zI (q_save1 m T) 42 T = zI m 0 40 ∧ zI (q_save1 m T) 0 39 = nI (T + 1) ∧ (∀ k, k < 144 → zL (q_save1 m T) 43 (144 * T + k) = zL m 7 k ∧ zD (q_save1 m T) 44 (144 * T + k) = zD m 8 k ∧ zD (q_save1 m T) 45 (144 * T + k) = zD m 9 k ∧ zD (q_save1 m T) 46 (144 * T + k) = zD m 10 k) ∧ (∀ k, k < 336 → zD (q_save1 m T) 47 (336 * T + k) = zD m 11 k) ∧ (∀ k, k < 4 → zL (q_save1 m T) 48 (4 * T + k) = zL m 12 k) ∧ zL (q_save1 m T) 49 T = zL m 0 12 ∧ zD (q_save1 m T) 50 T = zD m 0 13 ∧ (∀ r a, ¬ (r = 43 ∧ 144 * T ≤ a ∧ a < 144 * T + 144) → ¬ (r = 48 ∧ 4 * T ≤ a ∧ a < 4 * T + 4) → ¬ (r = 49 ∧ a = T) → zL (q_save1 m T) r a = zL m r a) ∧ ∀ r a, ¬ (44 ≤ r ∧ r ≤ 46 ∧ 144 * T ≤ a ∧ a < 144 * T + 144) → ¬ (r = 47 ∧ 336 * T ≤ a ∧ a < 336 * T + 336) → ¬ (r = 50 ∧ a = T) → zD (q_save1 m T) r a = zD m r a := msave_key m T _ _ _ (svC_pt T m 144) (svF_pt T _ 336) (svO_pt T _ 4)
theorem mback_key (m : ZMem) (T : Nat) (A B C : ZMem) (hA : zR A = zR m ∧ zI A = zI m ∧ (∀ k, k < 144 → zL A 7 k = zL m 43 (144 * T + k) ∧ zD A 8 k = zD m 44 (144 * T + k) ∧ zD A 9 k = zD m 45 (144 * T + k) ∧ zD A 10 k = zD m 46 (144 * T + k)) ∧ (∀ r, r ≠ 7 → zL A r = zL m r) ∧ ∀ r, ¬ (8 ≤ r ∧ r ≤ 10) → zD A r = zD m r) (hB : zR B = zR A ∧ zI B = zI A ∧ zL B = zL A ∧ (∀ k, k < 336 → zD B 11 k = zD A 47 (336 * T + k)) ∧ ∀ r, r ≠ 11 → zD B r = zD A r) (hC : zR C = zR B ∧ zI C = zI B ∧ zD C = zD B ∧ (∀ k, k < 4 → zL C 12 k = zL B 48 (4 * T + k)) ∧ ∀ r, r ≠ 12 → zL C r = zL B r) : zR (q_bkE T C) = zR m ∧ zI (q_bkE T C) = zI m ∧ (∀ k, k < 144 → zL (q_bkE T C) 7 k = zL m 43 (144 * T + k) ∧ zD (q_bkE T C) 8 k = zD m 44 (144 * T + k) ∧ zD (q_bkE T C) 9 k = zD m 45 (144 * T + k) ∧ zD (q_bkE T C) 10 k = zD m 46 (144 * T + k)) ∧ (∀ k, k < 336 → zD (q_bkE T C) 11 k = zD m 47 (336 * T + k)) ∧ (∀ k, k < 4 → zL (q_bkE T C) 12 k = zL m 48 (4 * T + k)) ∧ zL (q_bkE T C) 0 12 = zL m 49 T ∧ zD (q_bkE T C) 0 13 = zD m 50 T ∧ (∀ r a, r ≠ 7 → r ≠ 12 → ¬ (r = 0 ∧ a = 12) → zL (q_bkE T C) r a = zL m r a) ∧ ∀ r a, ¬ (8 ≤ r ∧ r ≤ 11) → ¬ (r = 0 ∧ a = 13) → zD (q_bkE T C) r a = zD m r a := by
  obtain ⟨a1, a2, a3, a4, a5⟩ := hA
  obtain ⟨b1, b2, b3, b4, b5⟩ := hB
  obtain ⟨c1, c2, c3, c4, c5⟩ := hC
  have eu : q_bkE T C = zsD (zsL C 0 12 (zL C 49 T)) 0 13 (zD C 50 T) := rfl
  rw [eu]
  have eL : ∀ r, r ≠ 7 → r ≠ 12 → zL C r = zL m r := fun r h1 h2 => by rw [c5 r h2, b3, a4 r h1]
  have eD : ∀ r, ¬ (8 ≤ r ∧ r ≤ 11) → zD C r = zD m r := fun r h1 => by rw [c3, b5 r (by omega), a5 r (by omega)]
  refine ⟨c1.trans (b1.trans a1), c2.trans (b2.trans a2), fun k hk => ?_, fun k hk => ?_, fun k hk => ?_, ?_, ?_, fun r a h1 h2 h3 => ?_, fun r a h1 h2 => ?_⟩
  · obtain ⟨p1, p2, p3, p4⟩ := a3 k hk
    refine ⟨?_, ?_, ?_, ?_⟩
    · rw [zL_sD, zL_sL, if_neg (by omega), c5 _ (by omega), b3, p1]
    · rw [zD_sD, if_neg (by omega), zD_sL, c3, b5 _ (by omega), p2]
    · rw [zD_sD, if_neg (by omega), zD_sL, c3, b5 _ (by omega), p3]
    · rw [zD_sD, if_neg (by omega), zD_sL, c3, b5 _ (by omega), p4]
  · rw [zD_sD, if_neg (by omega), zD_sL, c3, b4 k hk, a5 _ (by omega)]
  · rw [zL_sD, zL_sL, if_neg (by omega), c4 k hk, b3, a4 _ (by omega)]
  · rw [zL_sD, zL_sL, if_pos ⟨rfl, rfl⟩, eL _ (by omega) (by omega)]
  · rw [zD_sD, if_pos ⟨rfl, rfl⟩, eD _ (by omega)]
  · rw [zL_sD, zL_sL, if_neg h3, eL r h1 h2]
  · rw [zD_sD, if_neg h2, zD_sL, eD r h1]
theorem mback_pt (m : ZMem) (T : Nat) : zR (q_back1 m T) = zR m ∧ zI (q_back1 m T) = zI m ∧ (∀ k, k < 144 → zL (q_back1 m T) 7 k = zL m 43 (144 * T + k) ∧ zD (q_back1 m T) 8 k = zD m 44 (144 * T + k) ∧ zD (q_back1 m T) 9 k = zD m 45 (144 * T + k) ∧ zD (q_back1 m T) 10 k = zD m 46 (144 * T + k)) ∧ (∀ k, k < 336 → zD (q_back1 m T) 11 k = zD m 47 (336 * T + k)) ∧ (∀ k, k < 4 → zL (q_back1 m T) 12 k = zL m 48 (4 * T + k)) ∧ zL (q_back1 m T) 0 12 = zL m 49 T ∧ zD (q_back1 m T) 0 13 = zD m 50 T ∧ (∀ r a, r ≠ 7 → r ≠ 12 → ¬ (r = 0 ∧ a = 12) → zL (q_back1 m T) r a = zL m r a) ∧ ∀ r a, ¬ (8 ≤ r ∧ r ≤ 11) → ¬ (r = 0 ∧ a = 13) → zD (q_back1 m T) r a = zD m r a := mback_key m T _ _ _ (bkC_pt T m 144) (bkF_pt T _ 336) (bkO_pt T _ 4)
