/-! keeping a state and taking it back: what each leaves -/
theorem cpL {q N : Nat} {g1 g2 : Nat → Nat} (μ : ZMem) : ∀ n, n ≤ N → (∀ k, k < N → g1 k ≠ q) → zR (zit (fun k m => zsL m q k (zL m (g1 k) (g2 k))) n μ) = zR μ ∧ zI (zit (fun k m => zsL m q k (zL m (g1 k) (g2 k))) n μ) = zI μ ∧ zD (zit (fun k m => zsL m q k (zL m (g1 k) (g2 k))) n μ) = zD μ ∧ (∀ k, k < n → zL (zit (fun k m => zsL m q k (zL m (g1 k) (g2 k))) n μ) q k = zL μ (g1 k) (g2 k)) ∧ ∀ r, r ≠ q → zL (zit (fun k m => zsL m q k (zL m (g1 k) (g2 k))) n μ) r = zL μ r := by
  intro n
  induction n with
  | zero => exact fun _ _ => ⟨rfl, rfl, rfl, fun k hk => absurd hk (by omega), fun _ _ => rfl⟩
  | succ n ih =>
    intro hn hq
    obtain ⟨a1, a2, a3, a4, a5⟩ := ih (by omega) hq
    have e : zit (fun k m => zsL m q k (zL m (g1 k) (g2 k))) (n + 1) μ = zsL (zit (fun k m => zsL m q k (zL m (g1 k) (g2 k))) n μ) q n (zL (zit (fun k m => zsL m q k (zL m (g1 k) (g2 k))) n μ) (g1 n) (g2 n)) := rfl
    rw [e]
    generalize zit (fun k m => zsL m q k (zL m (g1 k) (g2 k))) n μ = X at *
    refine ⟨a1, a2, a3, fun k hk => ?_, fun r hr => ?_⟩
    · rw [zL_sL]
      by_cases ek : k = n
      · subst ek
        rw [if_pos ⟨rfl, rfl⟩, a5 _ (hq k (by omega))]
      · rw [if_neg (fun y => ek y.2)]
        exact a4 k (by omega)
    · rw [zLr _ _ _ hr]
      exact a5 r hr
theorem cpD {q N : Nat} {g1 g2 : Nat → Nat} (μ : ZMem) : ∀ n, n ≤ N → (∀ k, k < N → g1 k ≠ q) → zR (zit (fun k m => zsD m q k (zD m (g1 k) (g2 k))) n μ) = zR μ ∧ zI (zit (fun k m => zsD m q k (zD m (g1 k) (g2 k))) n μ) = zI μ ∧ zL (zit (fun k m => zsD m q k (zD m (g1 k) (g2 k))) n μ) = zL μ ∧ (∀ k, k < n → zD (zit (fun k m => zsD m q k (zD m (g1 k) (g2 k))) n μ) q k = zD μ (g1 k) (g2 k)) ∧ ∀ r, r ≠ q → zD (zit (fun k m => zsD m q k (zD m (g1 k) (g2 k))) n μ) r = zD μ r := by
  intro n
  induction n with
  | zero => exact fun _ _ => ⟨rfl, rfl, rfl, fun k hk => absurd hk (by omega), fun _ _ => rfl⟩
  | succ n ih =>
    intro hn hq
    obtain ⟨a1, a2, a3, a4, a5⟩ := ih (by omega) hq
    have e : zit (fun k m => zsD m q k (zD m (g1 k) (g2 k))) (n + 1) μ = zsD (zit (fun k m => zsD m q k (zD m (g1 k) (g2 k))) n μ) q n (zD (zit (fun k m => zsD m q k (zD m (g1 k) (g2 k))) n μ) (g1 n) (g2 n)) := rfl
    rw [e]
    generalize zit (fun k m => zsD m q k (zD m (g1 k) (g2 k))) n μ = X at *
    refine ⟨a1, a2, a3, fun k hk => ?_, fun r hr => ?_⟩
    · rw [zD_sD]
      by_cases ek : k = n
      · subst ek
        rw [if_pos ⟨rfl, rfl⟩, a5 _ (hq k (by omega))]
      · rw [if_neg (fun y => ek y.2)]
        exact a4 k (by omega)
    · rw [zDr _ _ _ hr]
      exact a5 r hr
theorem gvL {q N : Nat} {g1 g2 : Nat → Nat} (μ : ZMem) (hq : ∀ k, k < N → g1 k ≠ q) (inj : ∀ k l, k < N → l < N → g1 k = g1 l → g2 k = g2 l → k = l) : ∀ n, n ≤ N → zR (zit (fun k m => zsL m (g1 k) (g2 k) (zL m q k)) n μ) = zR μ ∧ zI (zit (fun k m => zsL m (g1 k) (g2 k) (zL m q k)) n μ) = zI μ ∧ zD (zit (fun k m => zsL m (g1 k) (g2 k) (zL m q k)) n μ) = zD μ ∧ (∀ k, k < n → zL (zit (fun k m => zsL m (g1 k) (g2 k) (zL m q k)) n μ) (g1 k) (g2 k) = zL μ q k) ∧ ∀ r a, (∀ k, k < n → ¬ (r = g1 k ∧ a = g2 k)) → zL (zit (fun k m => zsL m (g1 k) (g2 k) (zL m q k)) n μ) r a = zL μ r a := by
  intro n
  induction n with
  | zero => exact fun _ => ⟨rfl, rfl, rfl, fun k hk => absurd hk (by omega), fun _ _ _ => rfl⟩
  | succ n ih =>
    intro hn
    obtain ⟨a1, a2, a3, a4, a5⟩ := ih (by omega)
    have e : zit (fun k m => zsL m (g1 k) (g2 k) (zL m q k)) (n + 1) μ = zsL (zit (fun k m => zsL m (g1 k) (g2 k) (zL m q k)) n μ) (g1 n) (g2 n) (zL (zit (fun k m => zsL m (g1 k) (g2 k) (zL m q k)) n μ) q n) := rfl
    rw [e]
    generalize zit (fun k m => zsL m (g1 k) (g2 k) (zL m q k)) n μ = X at *
    refine ⟨a1, a2, a3, fun k hk => ?_, fun r a hr => ?_⟩
    · rw [zL_sL]
      by_cases ek : k = n
      · subst ek
        rw [if_pos ⟨rfl, rfl⟩]
        exact a5 q k (fun l hl y => hq l (by omega) y.1.symm)
      · rw [if_neg (fun y => ek (inj k n (by omega) (by omega) y.1 y.2))]
        exact a4 k (by omega)
    · rw [zL_sL, if_neg (hr n (by omega))]
      exact a5 r a (fun k hk => hr k (by omega))
theorem gvD {q N : Nat} {g1 g2 : Nat → Nat} (μ : ZMem) (hq : ∀ k, k < N → g1 k ≠ q) (inj : ∀ k l, k < N → l < N → g1 k = g1 l → g2 k = g2 l → k = l) : ∀ n, n ≤ N → zR (zit (fun k m => zsD m (g1 k) (g2 k) (zD m q k)) n μ) = zR μ ∧ zI (zit (fun k m => zsD m (g1 k) (g2 k) (zD m q k)) n μ) = zI μ ∧ zL (zit (fun k m => zsD m (g1 k) (g2 k) (zD m q k)) n μ) = zL μ ∧ (∀ k, k < n → zD (zit (fun k m => zsD m (g1 k) (g2 k) (zD m q k)) n μ) (g1 k) (g2 k) = zD μ q k) ∧ ∀ r a, (∀ k, k < n → ¬ (r = g1 k ∧ a = g2 k)) → zD (zit (fun k m => zsD m (g1 k) (g2 k) (zD m q k)) n μ) r a = zD μ r a := by
  intro n
  induction n with
  | zero => exact fun _ => ⟨rfl, rfl, rfl, fun k hk => absurd hk (by omega), fun _ _ _ => rfl⟩
  | succ n ih =>
    intro hn
    obtain ⟨a1, a2, a3, a4, a5⟩ := ih (by omega)
    have e : zit (fun k m => zsD m (g1 k) (g2 k) (zD m q k)) (n + 1) μ = zsD (zit (fun k m => zsD m (g1 k) (g2 k) (zD m q k)) n μ) (g1 n) (g2 n) (zD (zit (fun k m => zsD m (g1 k) (g2 k) (zD m q k)) n μ) q n) := rfl
    rw [e]
    generalize zit (fun k m => zsD m (g1 k) (g2 k) (zD m q k)) n μ = X at *
    refine ⟨a1, a2, a3, fun k hk => ?_, fun r a hr => ?_⟩
    · rw [zD_sD]
      by_cases ek : k = n
      · subst ek
        rw [if_pos ⟨rfl, rfl⟩]
        exact a5 q k (fun l hl y => hq l (by omega) y.1.symm)
      · rw [if_neg (fun y => ek (inj k n (by omega) (by omega) y.1 y.2))]
        exact a4 k (by omega)
    · rw [zD_sD, if_neg (hr n (by omega))]
      exact a5 r a (fun k hk => hr k (by omega))
theorem keepC_pt {q : Nat} (hq : q + 4 ≤ 1000) (μ : ZMem) : ∀ n, zR (zit (u_keepC1 q (q + 1) (q + 2) (q + 3)) n μ) = zR μ ∧ zI (zit (u_keepC1 q (q + 1) (q + 2) (q + 3)) n μ) = zI μ ∧ (∀ k, k < n → zL (zit (u_keepC1 q (q + 1) (q + 2) (q + 3)) n μ) q k = zL μ (1000 + k) 2 ∧ zD (zit (u_keepC1 q (q + 1) (q + 2) (q + 3)) n μ) (q + 1) k = zD μ (1000 + k) 3 ∧ zD (zit (u_keepC1 q (q + 1) (q + 2) (q + 3)) n μ) (q + 2) k = zD μ (1000 + k) 4 ∧ zD (zit (u_keepC1 q (q + 1) (q + 2) (q + 3)) n μ) (q + 3) k = zD μ (1000 + k) 5) ∧ (∀ r, r ≠ q → zL (zit (u_keepC1 q (q + 1) (q + 2) (q + 3)) n μ) r = zL μ r) ∧ ∀ r, ¬ (q + 1 ≤ r ∧ r ≤ q + 3) → zD (zit (u_keepC1 q (q + 1) (q + 2) (q + 3)) n μ) r = zD μ r := by
  intro n
  induction n with
  | zero => exact ⟨rfl, rfl, fun k hk => absurd hk (by omega), fun _ _ => rfl, fun _ _ => rfl⟩
  | succ n ih =>
    obtain ⟨a1, a2, a3, a4, a5⟩ := ih
    have e : zit (u_keepC1 q (q + 1) (q + 2) (q + 3)) (n + 1) μ = u_keepC1 q (q + 1) (q + 2) (q + 3) n (zit (u_keepC1 q (q + 1) (q + 2) (q + 3)) n μ) := rfl
    rw [e]
    generalize zit (u_keepC1 q (q + 1) (q + 2) (q + 3)) n μ = X at *
    have eX : u_keepC1 q (q + 1) (q + 2) (q + 3) n X = zsD (zsD (zsD (zsL X q n (zL μ (1000 + n) 2)) (q + 1) n (zD μ (1000 + n) 3)) (q + 2) n (zD μ (1000 + n) 4)) (q + 3) n (zD μ (1000 + n) 5) := by
      have e3 : ∀ a, zD X (1000 + n) a = zD μ (1000 + n) a := fun a => by rw [a5 _ (by omega)]
      unfold u_keepC1
      rw [zD_sD, if_neg (by omega), zD_sD, if_neg (by omega), zD_sD, if_neg (by omega), a4 (1000 + n) (by omega), e3, e3, e3]
    rw [eX]
    refine ⟨a1, a2, fun k hk => ?_, fun r hr => ?_, fun r hr => ?_⟩
    · by_cases ek : k = n
      · subst ek
        refine ⟨?_, ?_, ?_, ?_⟩
        · rw [zL_sD, zL_sD, zL_sD, zL_sL, if_pos ⟨rfl, rfl⟩]
        · rw [zD_sD, if_neg (by omega), zD_sD, if_neg (by omega), zD_sD, if_pos ⟨rfl, rfl⟩]
        · rw [zD_sD, if_neg (by omega), zD_sD, if_pos ⟨rfl, rfl⟩]
        · rw [zD_sD, if_pos ⟨rfl, rfl⟩]
      · obtain ⟨b1, b2, b3, b4⟩ := a3 k (by omega)
        refine ⟨?_, ?_, ?_, ?_⟩
        · rw [zL_sD, zL_sD, zL_sD, zL_sL, if_neg (by omega), b1]
        · rw [zD_sD, if_neg (by omega), zD_sD, if_neg (by omega), zD_sD, if_neg (by omega), zD_sL, b2]
        · rw [zD_sD, if_neg (by omega), zD_sD, if_neg (by omega), zD_sD, if_neg (by omega), zD_sL, b3]
        · rw [zD_sD, if_neg (by omega), zD_sD, if_neg (by omega), zD_sD, if_neg (by omega), zD_sL, b4]
    · rw [show zL (zsD (zsD (zsD (zsL X q n (zL μ (1000 + n) 2)) (q + 1) n (zD μ (1000 + n) 3)) (q + 2) n (zD μ (1000 + n) 4)) (q + 3) n (zD μ (1000 + n) 5)) r = zL (zsL X q n (zL μ (1000 + n) 2)) r from rfl, zLr _ _ _ hr]
      exact a4 r hr
    · rw [zDr _ _ _ (by omega), zDr _ _ _ (by omega), zDr _ _ _ (by omega)]
      exact a5 r hr
theorem giveC_pt {q : Nat} (hq : q + 4 ≤ 1000) (μ : ZMem) : ∀ n, zR (zit (u_giveC1 q (q + 1) (q + 2) (q + 3)) n μ) = zR μ ∧ zI (zit (u_giveC1 q (q + 1) (q + 2) (q + 3)) n μ) = zI μ ∧ (∀ k, k < n → zL (zit (u_giveC1 q (q + 1) (q + 2) (q + 3)) n μ) (1000 + k) 2 = zL μ q k ∧ zD (zit (u_giveC1 q (q + 1) (q + 2) (q + 3)) n μ) (1000 + k) 3 = zD μ (q + 1) k ∧ zD (zit (u_giveC1 q (q + 1) (q + 2) (q + 3)) n μ) (1000 + k) 4 = zD μ (q + 2) k ∧ zD (zit (u_giveC1 q (q + 1) (q + 2) (q + 3)) n μ) (1000 + k) 5 = zD μ (q + 3) k) ∧ (∀ r a, ¬ (1000 ≤ r ∧ r < 1000 + n ∧ a = 2) → zL (zit (u_giveC1 q (q + 1) (q + 2) (q + 3)) n μ) r a = zL μ r a) ∧ ∀ r a, ¬ (1000 ≤ r ∧ r < 1000 + n ∧ (3 ≤ a ∧ a ≤ 5)) → zD (zit (u_giveC1 q (q + 1) (q + 2) (q + 3)) n μ) r a = zD μ r a := by
  intro n
  induction n with
  | zero => exact ⟨rfl, rfl, fun k hk => absurd hk (by omega), fun _ _ _ => rfl, fun _ _ _ => rfl⟩
  | succ n ih =>
    obtain ⟨a1, a2, a3, a4, a5⟩ := ih
    have e : zit (u_giveC1 q (q + 1) (q + 2) (q + 3)) (n + 1) μ = u_giveC1 q (q + 1) (q + 2) (q + 3) n (zit (u_giveC1 q (q + 1) (q + 2) (q + 3)) n μ) := rfl
    rw [e]
    generalize zit (u_giveC1 q (q + 1) (q + 2) (q + 3)) n μ = X at *
    have eX : u_giveC1 q (q + 1) (q + 2) (q + 3) n X = zsD (zsD (zsD (zsL X (1000 + n) 2 (zL μ q n)) (1000 + n) 3 (zD μ (q + 1) n)) (1000 + n) 4 (zD μ (q + 2) n)) (1000 + n) 5 (zD μ (q + 3) n) := by
      have e3 : ∀ r, r < 1000 → zD X r n = zD μ r n := fun r hr => a5 _ _ (by omega)
      unfold u_giveC1
      rw [zD_sD, if_neg (by omega), zD_sD, if_neg (by omega), zD_sD, if_neg (by omega), a4 q n (by omega), e3 _ (by omega), e3 _ (by omega), e3 _ (by omega)]
    rw [eX]
    refine ⟨a1, a2, fun k hk => ?_, fun r a hr => ?_, fun r a hr => ?_⟩
    · by_cases ek : k = n
      · subst ek
        refine ⟨?_, ?_, ?_, ?_⟩
        · rw [zL_sD, zL_sD, zL_sD, zL_sL, if_pos ⟨rfl, rfl⟩]
        · rw [zD_sD, if_neg (by omega), zD_sD, if_neg (by omega), zD_sD, if_pos ⟨rfl, rfl⟩]
        · rw [zD_sD, if_neg (by omega), zD_sD, if_pos ⟨rfl, rfl⟩]
        · rw [zD_sD, if_pos ⟨rfl, rfl⟩]
      · obtain ⟨b1, b2, b3, b4⟩ := a3 k (by omega)
        refine ⟨?_, ?_, ?_, ?_⟩
        · rw [zL_sD, zL_sD, zL_sD, zL_sL, if_neg (by omega), b1]
        · rw [zD_sD, if_neg (by omega), zD_sD, if_neg (by omega), zD_sD, if_neg (by omega), zD_sL, b2]
        · rw [zD_sD, if_neg (by omega), zD_sD, if_neg (by omega), zD_sD, if_neg (by omega), zD_sL, b3]
        · rw [zD_sD, if_neg (by omega), zD_sD, if_neg (by omega), zD_sD, if_neg (by omega), zD_sL, b4]
    · rw [zL_sD, zL_sD, zL_sD, zL_sL, if_neg (by omega)]
      exact a4 r a (by omega)
    · rw [zD_sD, if_neg (by omega), zD_sD, if_neg (by omega), zD_sD, if_neg (by omega), zD_sL]
      exact a5 r a (by omega)
theorem keepF_pt {q : Nat} (hq : q < 2000) (A : ZMem) (F : Nat) : zR (zit (u_keepF1 q) F A) = zR A ∧ zI (zit (u_keepF1 q) F A) = zI A ∧ zL (zit (u_keepF1 q) F A) = zL A ∧ (∀ k, k < F → zD (zit (u_keepF1 q) F A) q k = zD A (2000 + k) 4) ∧ ∀ r, r ≠ q → zD (zit (u_keepF1 q) F A) r = zD A r := cpD (q := q) (N := F) (g1 := fun k => 2000 + k) (g2 := fun _ => 4) A F (Nat.le_refl _) (fun k _ => by show 2000 + k ≠ _; omega)
theorem keepN_pt {q : Nat} (hq : 80 ≤ q) (A : ZMem) : zR (zit (u_keepN1 q) 80 A) = zR A ∧ zI (zit (u_keepN1 q) 80 A) = zI A ∧ zD (zit (u_keepN1 q) 80 A) = zD A ∧ (∀ k, k < 80 → zL (zit (u_keepN1 q) 80 A) q k = zL A (70 + k / 8) (k % 8)) ∧ ∀ r, r ≠ q → zL (zit (u_keepN1 q) 80 A) r = zL A r := cpL (q := q) (N := 80) (g1 := fun k => 70 + k / 8) (g2 := fun k => k % 8) A 80 (Nat.le_refl _) (fun k _ => by show 70 + k / 8 ≠ _; omega)
theorem keepS_pt {q : Nat} (hq : 80 ≤ q) (A : ZMem) : zR (zit (u_keepS1 q) 4 A) = zR A ∧ zI (zit (u_keepS1 q) 4 A) = zI A ∧ zD (zit (u_keepS1 q) 4 A) = zD A ∧ (∀ k, k < 4 → zL (zit (u_keepS1 q) 4 A) q k = zL A (30 + k) 4) ∧ ∀ r, r ≠ q → zL (zit (u_keepS1 q) 4 A) r = zL A r := cpL (q := q) (N := 4) (g1 := fun k => 30 + k) (g2 := fun _ => 4) A 4 (Nat.le_refl _) (fun k _ => by show 30 + k ≠ _; omega)
theorem giveF_pt {q : Nat} (hq : q < 2000) (A : ZMem) (F : Nat) : zR (zit (u_giveF1 q) F A) = zR A ∧ zI (zit (u_giveF1 q) F A) = zI A ∧ zL (zit (u_giveF1 q) F A) = zL A ∧ (∀ k, k < F → zD (zit (u_giveF1 q) F A) (2000 + k) 4 = zD A q k) ∧ ∀ r a, (∀ k, k < F → ¬ (r = 2000 + k ∧ a = 4)) → zD (zit (u_giveF1 q) F A) r a = zD A r a := gvD (q := q) (N := F) (g1 := fun k => 2000 + k) (g2 := fun _ => 4) A (fun k _ => by show 2000 + k ≠ _; omega) (fun k l _ _ e _ => by have : 2000 + k = 2000 + l := e; omega) F (Nat.le_refl _)
theorem giveN_pt {q : Nat} (hq : 80 ≤ q) (A : ZMem) : zR (zit (u_giveN1 q) 80 A) = zR A ∧ zI (zit (u_giveN1 q) 80 A) = zI A ∧ zD (zit (u_giveN1 q) 80 A) = zD A ∧ (∀ k, k < 80 → zL (zit (u_giveN1 q) 80 A) (70 + k / 8) (k % 8) = zL A q k) ∧ ∀ r a, (∀ k, k < 80 → ¬ (r = 70 + k / 8 ∧ a = k % 8)) → zL (zit (u_giveN1 q) 80 A) r a = zL A r a := gvL (q := q) (N := 80) (g1 := fun k => 70 + k / 8) (g2 := fun k => k % 8) A (fun k _ => by show 70 + k / 8 ≠ _; omega) (fun k l _ _ e e2 => by have h1 : 70 + k / 8 = 70 + l / 8 := e; have h2 : k % 8 = l % 8 := e2; omega) 80 (Nat.le_refl _)
theorem giveS_pt {q : Nat} (hq : 80 ≤ q) (A : ZMem) : zR (zit (u_giveS1 q) 4 A) = zR A ∧ zI (zit (u_giveS1 q) 4 A) = zI A ∧ zD (zit (u_giveS1 q) 4 A) = zD A ∧ (∀ k, k < 4 → zL (zit (u_giveS1 q) 4 A) (30 + k) 4 = zL A q k) ∧ ∀ r a, (∀ k, k < 4 → ¬ (r = 30 + k ∧ a = 4)) → zL (zit (u_giveS1 q) 4 A) r a = zL A r a := gvL (q := q) (N := 4) (g1 := fun k => 30 + k) (g2 := fun _ => 4) A (fun k _ => by show 30 + k ≠ _; omega) (fun k l _ _ e _ => by have : 30 + k = 30 + l := e; omega) 4 (Nat.le_refl _)
/-- the class's save -/
theorem csave_pt (μ : ZMem) {N F j : Nat} (hj : j < 4) : zR (u_save1 μ N F j) = zR μ ∧ (∀ r a, ¬ (r = 80 + j ∧ a = 9) → ¬ (r = 0 ∧ a = 12) → zI (u_save1 μ N F j) r a = zI μ r a) ∧ zI (u_save1 μ N F j) (80 + j) 9 = zI μ 0 13 ∧ zI (u_save1 μ N F j) 0 12 = nI j + 1 ∧ (∀ k, k < N → zL (u_save1 μ N F j) (100 + 10 * j + 0) k = zL μ (1000 + k) 2 ∧ zD (u_save1 μ N F j) (100 + 10 * j + 1) k = zD μ (1000 + k) 3 ∧ zD (u_save1 μ N F j) (100 + 10 * j + 2) k = zD μ (1000 + k) 4 ∧ zD (u_save1 μ N F j) (100 + 10 * j + 3) k = zD μ (1000 + k) 5) ∧ (∀ k, k < F → zD (u_save1 μ N F j) (100 + 10 * j + 4) k = zD μ (2000 + k) 4) ∧ (∀ k, k < 80 → zL (u_save1 μ N F j) (100 + 10 * j + 5) k = zL μ (70 + k / 8) (k % 8)) ∧ (∀ s, s < 4 → zL (u_save1 μ N F j) (100 + 10 * j + 6) s = zL μ (30 + s) 4) ∧ zL (u_save1 μ N F j) (80 + j) 8 = zL μ 0 16 ∧ zD (u_save1 μ N F j) (80 + j) 7 = zD μ 0 14 ∧ (∀ r a, ¬ (r = 80 + j) → ¬ (100 + 10 * j ≤ r ∧ r < 110 + 10 * j) → zL (u_save1 μ N F j) r a = zL μ r a ∧ zD (u_save1 μ N F j) r a = zD μ r a) := by
  obtain ⟨a1, a2, a3, a4, a5⟩ := keepC_pt (q := 100 + 10 * j + 0) (by omega) μ N
  rw [show 100 + 10 * j + 0 + 1 = 100 + 10 * j + 1 from rfl, show 100 + 10 * j + 0 + 2 = 100 + 10 * j + 2 from rfl, show 100 + 10 * j + 0 + 3 = 100 + 10 * j + 3 from rfl] at a1 a2 a3 a4 a5
  have e0 : ∀ D : ZMem, (fun m : ZMem => (fun m2 : ZMem => zsI m2 0 12 (nI j + 1)) ((fun m1 : ZMem => zsI m1 (80 + j) 9 (zI m1 0 13)) ((fun m0 : ZMem => zsL m0 (80 + j) 8 (zL m0 0 16)) (zsD m (80 + j) 7 (zD m 0 14))))) D = zsI (zsI (zsL (zsD D (80 + j) 7 (zD D 0 14)) (80 + j) 8 (zL D 0 16)) (80 + j) 9 (zI D 0 13)) 0 12 (nI j + 1) := fun D => rfl
  unfold u_save1 u_keepAll
  simp only [e0]
  generalize zit (u_keepC1 (100 + 10 * j + 0) (100 + 10 * j + 1) (100 + 10 * j + 2) (100 + 10 * j + 3)) N μ = A at *
  obtain ⟨b1, b2, b3, b4, b5⟩ := keepF_pt (q := 100 + 10 * j + 4) (by omega) A F
  generalize zit (u_keepF1 (100 + 10 * j + 4)) F A = B at *
  obtain ⟨c1, c2, c3, c4, c5⟩ := keepN_pt (q := 100 + 10 * j + 5) (by omega) B
  generalize zit (u_keepN1 (100 + 10 * j + 5)) 80 B = C at *
  obtain ⟨d1, d2, d3, d4, d5⟩ := keepS_pt (q := 100 + 10 * j + 6) (by omega) C
  generalize zit (u_keepS1 (100 + 10 * j + 6)) 4 C = D at *
  have LD : ∀ r a, r ≠ 100 + 10 * j + 0 → r ≠ 100 + 10 * j + 5 → r ≠ 100 + 10 * j + 6 → zL D r a = zL μ r a := fun r a h1 h2 h3 => by
    rw [d5 r h3, c5 r h2, b3, a4 r h1]
  have DD : ∀ r a, ¬ (100 + 10 * j + 1 ≤ r ∧ r ≤ 100 + 10 * j + 4) → zD D r a = zD μ r a := fun r a h1 => by
    rw [d3, c3, b5 r (by omega), a5 r (by omega)]
  have eR : zR D = zR μ := d1.trans (c1.trans (b1.trans a1))
  have eI : zI D = zI μ := d2.trans (c2.trans (b2.trans a2))
  refine ⟨eR, fun r a h1 h2 => ?_, ?_, ?_, fun k hk => ⟨?_, ?_, ?_, ?_⟩, fun k hk => ?_, fun k hk => ?_, fun s hs => ?_, ?_, ?_, fun r a h1 h2 => ⟨?_, ?_⟩⟩
  · rw [zI_sI, if_neg h2, zI_sI, if_neg h1, zI_sL, zI_sD, eI]
  · rw [zI_sI, if_neg (by omega), zI_sI, if_pos ⟨rfl, rfl⟩, eI]
  · rw [zI_sI, if_pos ⟨rfl, rfl⟩]
  · show zL (zsL (zsD D (80 + j) 7 (zD D 0 14)) (80 + j) 8 (zL D 0 16)) (100 + 10 * j + 0) k = _
    rw [zL_sL, if_neg (by omega), zL_sD, d5 _ (by omega), c5 _ (by omega), b3]
    exact (a3 k hk).1
  · show zD (zsD D (80 + j) 7 (zD D 0 14)) (100 + 10 * j + 1) k = _
    rw [zD_sD, if_neg (by omega), d3, c3, b5 _ (by omega)]
    exact (a3 k hk).2.1
  · show zD (zsD D (80 + j) 7 (zD D 0 14)) (100 + 10 * j + 2) k = _
    rw [zD_sD, if_neg (by omega), d3, c3, b5 _ (by omega)]
    exact (a3 k hk).2.2.1
  · show zD (zsD D (80 + j) 7 (zD D 0 14)) (100 + 10 * j + 3) k = _
    rw [zD_sD, if_neg (by omega), d3, c3, b5 _ (by omega)]
    exact (a3 k hk).2.2.2
  · show zD (zsD D (80 + j) 7 (zD D 0 14)) (100 + 10 * j + 4) k = _
    rw [zD_sD, if_neg (by omega), d3, c3, b4 k hk]
    show zD A (2000 + k) 4 = _
    rw [a5 _ (by omega)]
  · show zL (zsL (zsD D (80 + j) 7 (zD D 0 14)) (80 + j) 8 (zL D 0 16)) (100 + 10 * j + 5) k = _
    rw [zL_sL, if_neg (by omega), zL_sD, d5 _ (by omega), c4 k hk]
    show zL B (70 + k / 8) (k % 8) = _
    rw [b3, a4 _ (by omega)]
  · show zL (zsL (zsD D (80 + j) 7 (zD D 0 14)) (80 + j) 8 (zL D 0 16)) (100 + 10 * j + 6) s = _
    rw [zL_sL, if_neg (by omega), zL_sD, d4 s hs]
    show zL C (30 + s) 4 = _
    rw [c5 _ (by omega), b3, a4 _ (by omega)]
  · show zL (zsL (zsD D (80 + j) 7 (zD D 0 14)) (80 + j) 8 (zL D 0 16)) (80 + j) 8 = _
    rw [zL_sL, if_pos ⟨rfl, rfl⟩]
    exact LD _ _ (by omega) (by omega) (by omega)
  · show zD (zsD D (80 + j) 7 (zD D 0 14)) (80 + j) 7 = _
    rw [zD_sD, if_pos ⟨rfl, rfl⟩]
    exact DD _ _ (by omega)
  · show zL (zsL (zsD D (80 + j) 7 (zD D 0 14)) (80 + j) 8 (zL D 0 16)) r a = _
    rw [zL_sL, if_neg (by omega), zL_sD]
    exact LD _ _ (by omega) (by omega) (by omega)
  · show zD (zsD D (80 + j) 7 (zD D 0 14)) r a = _
    rw [zD_sD, if_neg (by omega)]
    exact DD _ _ (by omega)
theorem cback_pt (μ : ZMem) {N F j : Nat} (hN : N ≤ 144) (hj : j < 4) : zR (u_back1 μ N F j) = zR μ ∧ zI (u_back1 μ N F j) = zI μ ∧ (∀ k, k < N → zL (u_back1 μ N F j) (1000 + k) 2 = zL μ (100 + 10 * j + 0) k ∧ zD (u_back1 μ N F j) (1000 + k) 3 = zD μ (100 + 10 * j + 1) k ∧ zD (u_back1 μ N F j) (1000 + k) 4 = zD μ (100 + 10 * j + 2) k ∧ zD (u_back1 μ N F j) (1000 + k) 5 = zD μ (100 + 10 * j + 3) k) ∧ (∀ k, k < F → zD (u_back1 μ N F j) (2000 + k) 4 = zD μ (100 + 10 * j + 4) k) ∧ (∀ k, k < 80 → zL (u_back1 μ N F j) (70 + k / 8) (k % 8) = zL μ (100 + 10 * j + 5) k) ∧ (∀ s, s < 4 → zL (u_back1 μ N F j) (30 + s) 4 = zL μ (100 + 10 * j + 6) s) ∧ zL (u_back1 μ N F j) 0 16 = zL μ (80 + j) 8 ∧ zD (u_back1 μ N F j) 0 14 = zD μ (80 + j) 7 ∧ (∀ r a, ¬ (1000 ≤ r ∧ r < 1000 + N ∧ a = 2) → ¬ (70 ≤ r ∧ r < 80) → ¬ (30 ≤ r ∧ r < 34 ∧ a = 4) → ¬ (r = 0 ∧ a = 16) → zL (u_back1 μ N F j) r a = zL μ r a) ∧ ∀ r a, ¬ (1000 ≤ r ∧ r < 1000 + N ∧ (3 ≤ a ∧ a ≤ 5)) → ¬ (2000 ≤ r ∧ r < 2000 + F ∧ a = 4) → ¬ (r = 0 ∧ a = 14) → zD (u_back1 μ N F j) r a = zD μ r a := by
  obtain ⟨a1, a2, a3, a4, a5⟩ := giveC_pt (q := 100 + 10 * j + 0) (by omega) μ N
  rw [show 100 + 10 * j + 0 + 1 = 100 + 10 * j + 1 from rfl, show 100 + 10 * j + 0 + 2 = 100 + 10 * j + 2 from rfl, show 100 + 10 * j + 0 + 3 = 100 + 10 * j + 3 from rfl] at a1 a2 a3 a4 a5
  have e0 : ∀ D : ZMem, (fun m : ZMem => (fun m1 : ZMem => zsL m1 0 16 (zL m1 (80 + j) 8)) (zsD m 0 14 (zD m (80 + j) 7))) D = zsL (zsD D 0 14 (zD D (80 + j) 7)) 0 16 (zL D (80 + j) 8) := fun D => rfl
  unfold u_back1 u_giveAll
  simp only [e0]
  generalize zit (u_giveC1 (100 + 10 * j + 0) (100 + 10 * j + 1) (100 + 10 * j + 2) (100 + 10 * j + 3)) N μ = A at *
  obtain ⟨b1, b2, b3, b4, b5⟩ := giveF_pt (q := 100 + 10 * j + 4) (by omega) A F
  generalize zit (u_giveF1 (100 + 10 * j + 4)) F A = B at *
  obtain ⟨c1, c2, c3, c4, c5⟩ := giveN_pt (q := 100 + 10 * j + 5) (by omega) B
  generalize zit (u_giveN1 (100 + 10 * j + 5)) 80 B = C at *
  obtain ⟨d1, d2, d3, d4, d5⟩ := giveS_pt (q := 100 + 10 * j + 6) (by omega) C
  generalize zit (u_giveS1 (100 + 10 * j + 6)) 4 C = D at *
  have eC : ∀ r a, ¬ (70 ≤ r ∧ r < 80) → zL C r a = zL B r a := fun r a h => c5 r a (fun k hk y => by have h1 : r = 70 + k / 8 := y.1; omega)
  have eDL : ∀ r a, ¬ (30 ≤ r ∧ r < 34 ∧ a = 4) → zL D r a = zL C r a := fun r a h => d5 r a (fun k hk y => by have h1 : r = 30 + k := y.1; have h2 : a = 4 := y.2; omega)
  have eBD : ∀ r a, ¬ (2000 ≤ r ∧ r < 2000 + F ∧ a = 4) → zD B r a = zD A r a := fun r a h => b5 r a (fun k hk y => by have h1 : r = 2000 + k := y.1; have h2 : a = 4 := y.2; omega)
  refine ⟨d1.trans (c1.trans (b1.trans a1)), d2.trans (c2.trans (b2.trans a2)), fun k hk => ⟨?_, ?_, ?_, ?_⟩, fun k hk => ?_, fun k hk => ?_, fun s hs => ?_, ?_, ?_, fun r a h1 h2 h3 h4 => ?_, fun r a h1 h2 h3 => ?_⟩
  · rw [zL_sL, if_neg (by omega), zL_sD, eDL _ _ (by omega), eC _ _ (by omega), b3]
    exact (a3 k hk).1
  · rw [zD_sL, zD_sD, if_neg (by omega), d3, c3, eBD _ _ (by omega)]
    exact (a3 k hk).2.1
  · rw [zD_sL, zD_sD, if_neg (by omega), d3, c3, eBD _ _ (by omega)]
    exact (a3 k hk).2.2.1
  · rw [zD_sL, zD_sD, if_neg (by omega), d3, c3, eBD _ _ (by omega)]
    exact (a3 k hk).2.2.2
  · rw [zD_sL, zD_sD, if_neg (by omega), d3, c3]
    have := b4 k hk
    rw [show zD B (2000 + k) 4 = zD A (100 + 10 * j + 4) k from this]
    exact a5 _ _ (by omega)
  · rw [zL_sL, if_neg (by omega), zL_sD, eDL _ _ (by omega), show zL C (70 + k / 8) (k % 8) = zL B (100 + 10 * j + 5) k from c4 k hk, b3]
    exact a4 _ _ (by omega)
  · rw [zL_sL, if_neg (by omega), zL_sD, show zL D (30 + s) 4 = zL C (100 + 10 * j + 6) s from d4 s hs, eC _ _ (by omega), b3]
    exact a4 _ _ (by omega)
  · rw [zL_sL, if_pos ⟨rfl, rfl⟩, eDL _ _ (by omega), eC _ _ (by omega), b3]
    exact a4 _ _ (by omega)
  · rw [zD_sL, zD_sD, if_pos ⟨rfl, rfl⟩, d3, c3, eBD _ _ (by omega)]
    exact a5 _ _ (by omega)
  · rw [zL_sL, if_neg h4, zL_sD, eDL _ _ h3, eC _ _ h2, b3]
    exact a4 _ _ h1
  · rw [zD_sL, zD_sD, if_neg h3, d3, c3, eBD _ _ h2]
    exact a5 _ _ h1
