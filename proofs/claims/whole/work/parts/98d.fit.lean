/-! tides are fitted alike -/
theorem zit_rel {α β : Type} {R : α → β → Prop} {f : Nat → α → α} {g : Nat → β → β} : ∀ n, (∀ k a b, k < n → R a b → R (f k a) (g k b)) → ∀ a b, R a b → R (zit f n a) (zit g n b)
  | 0, _, _, _, h => h
  | n + 1, H, a, b, h => H n _ _ (by omega) (zit_rel n (fun k a b hk => H k a b (by omega)) a b h)
/-- what a fit leaves alone -/
def cFt (X μ : ZMem) : Prop := zR X = zR μ ∧ zL X = zL μ ∧ (∀ r, r ≠ 18 → zI X r = zI μ r) ∧ ∀ r, ¬ (12 ≤ r ∧ r ≤ 17) → r ≠ 19 → r ≠ 20 → zD X r = zD μ r
theorem cFt.rf (μ : ZMem) : cFt μ μ := ⟨rfl, rfl, fun _ _ => rfl, fun _ _ _ _ => rfl⟩
theorem cFt.tr {a b c : ZMem} (h1 : cFt a b) (h2 : cFt b c) : cFt a c := ⟨h1.1.trans h2.1, h1.2.1.trans h2.2.1, fun r h => (h1.2.2.1 r h).trans (h2.2.2.1 r h), fun r x y z => (h1.2.2.2 r x y z).trans (h2.2.2.2 r x y z)⟩
theorem cFt_D (m : ZMem) {r k : Nat} (v : UInt64) (h : (12 ≤ r ∧ r ≤ 17) ∨ r = 19 ∨ r = 20) : cFt (zsD m r k v) m := ⟨rfl, rfl, fun _ _ => rfl, fun a x y z => zDr _ _ _ (by omega)⟩
theorem cFt_I (m : ZMem) (k : Nat) (v : Int32) : cFt (zsI m 18 k v) m := ⟨rfl, rfl, fun a x => zIr _ _ _ x, fun _ _ _ _ => rfl⟩
theorem cFt_it {f : Nat → ZMem → ZMem} (n : Nat) (h : ∀ k s, k < n → cFt (f k s) s) (s : ZMem) : cFt (zit f n s) s := zit_in (J := fun x => cFt x s) n (fun k x hk q => (h k x hk).tr q) (cFt.rf s)
def mFt (X μ : ZMem) : Prop := zR X = zR μ ∧ zL X = zL μ ∧ zI X = zI μ ∧ ∀ r, ¬ (36 ≤ r ∧ r ≤ 38) → zD X r = zD μ r
theorem mFt.rf (μ : ZMem) : mFt μ μ := ⟨rfl, rfl, rfl, fun _ _ => rfl⟩
theorem mFt.tr {a b c : ZMem} (h1 : mFt a b) (h2 : mFt b c) : mFt a c := ⟨h1.1.trans h2.1, h1.2.1.trans h2.2.1, h1.2.2.1.trans h2.2.2.1, fun r x => (h1.2.2.2 r x).trans (h2.2.2.2 r x)⟩
theorem mFt_D (m : ZMem) {r k : Nat} (v : UInt64) (h : 36 ≤ r ∧ r ≤ 38) : mFt (zsD m r k v) m := ⟨rfl, rfl, rfl, fun a x => zDr _ _ _ (by omega)⟩
theorem mFt_it {f : Nat → ZMem → ZMem} (n : Nat) (h : ∀ k s, k < n → mFt (f k s) s) (s : ZMem) : mFt (zit f n s) s := zit_in (J := fun x => mFt x s) n (fun k x hk q => (h k x hk).tr q) (mFt.rf s)
/-- the two tables -/
def tRl (n : Nat) (A B : ZMem) : Prop := ∀ r, r < n → (∀ c, c < n → zD A (12 + r) c = zD B 36 (5 * r + c)) ∧ zD A 17 r = zD B 37 r
theorem tRl_a {n : Nat} (hn : n ≤ 5) {A B : ZMem} (H : tRl n A B) {r c : Nat} (hr : r < n) (hc : c < n) (v : UInt64) : tRl n (zsD A (12 + r) c v) (zsD B 36 (5 * r + c) v) := fun r' hr' => by
  obtain ⟨h1, h2⟩ := H r' hr'
  refine ⟨fun c' hc' => ?_, ?_⟩
  · rw [zD_sD, zD_sD]
    by_cases e : r' = r ∧ c' = c
    · rw [if_pos ⟨by omega, e.2⟩, if_pos ⟨rfl, by omega⟩]
    · rw [if_neg (fun q => e (by omega)), if_neg (fun q => e (by omega))]
      exact h1 c' hc'
  · rw [zD_sD, if_neg (by omega), zD_sD, if_neg (by omega)]
    exact h2
theorem tRl_b {n : Nat} (hn : n ≤ 5) {A B : ZMem} (H : tRl n A B) {r : Nat} (hr : r < n) (v : UInt64) : tRl n (zsD A 17 r v) (zsD B 37 r v) := fun r' hr' => by
  obtain ⟨h1, h2⟩ := H r' hr'
  refine ⟨fun c' hc' => ?_, ?_⟩
  · rw [zD_sD, if_neg (by omega), zD_sD, if_neg (by omega)]
    exact h1 c' hc'
  · rw [zD_sD, zD_sD]
    by_cases e : r' = r
    · rw [if_pos ⟨rfl, e⟩, if_pos ⟨rfl, e⟩]
    · rw [if_neg (fun q => e q.2), if_neg (fun q => e q.2)]
      exact h2
/-! the sums -/
theorem saws_pt (μ : ZMem) (v : UInt64) {Q : Nat} (hQ : Q ≤ 2) : (∀ k, k < 2 * Q + 1 → zD (u_saws μ v Q) 19 k = t_col k v) ∧ zR (u_saws μ v Q) = zR μ ∧ zL (u_saws μ v Q) = zL μ ∧ zI (u_saws μ v Q) = zI μ ∧ ∀ r, r ≠ 19 → zD (u_saws μ v Q) r = zD μ r := by
  have e1 : s_turn (zmul v k3600) 0 = t_turn 1 v ∧ s_turn (zmul v k3600) 0 = t_turn 2 v ∧ s_turn (zmul v k3600) 1 = t_turn 3 v ∧ s_turn (zmul v k3600) 1 = t_turn 4 v := by
    have a : FP.i2d (3600 * ((nI (2 * 0 + 1) + 1) / 2)) = k3600 := by decide +kernel
    have b : FP.i2d (3600 * ((nI (2 * 1 + 1) + 1) / 2)) = k7200 := by decide +kernel
    unfold s_turn t_turn
    rw [a, b]
    exact ⟨rfl, rfl, rfl, rfl⟩
  have base : ∀ k, zD (zsD μ 19 0 k1) 19 k = if k = 0 then k1 else zD μ 19 k := fun k => by
    rw [zD_sD]
    by_cases e : k = 0
    · rw [if_pos ⟨rfl, e⟩, if_pos e]
    · rw [if_neg (fun q => e q.2), if_neg e]
  have row : ∀ r, r ≠ 19 → zD (zsD μ 19 0 k1) r = zD μ r := fun r hr => zDr _ _ _ hr
  have two : ∀ (X : ZMem) t m, (∀ r, r ≠ 19 → zD (u_saws1 t m X) r = zD X r) ∧ ∀ k, zD (u_saws1 t m X) 19 k = if k = 2 * m + 2 then s_saw (zadd (s_turn t m) k025) else if k = 2 * m + 1 then s_saw (s_turn t m) else zD X 19 k := fun X t m => by
    unfold u_saws1
    refine ⟨fun r hr => by rw [zDr _ _ _ hr, zDr _ _ _ hr], fun k => ?_⟩
    rw [zD_sD, zD_sD]
    by_cases e : k = 2 * m + 2
    · rw [if_pos ⟨rfl, e⟩, if_pos e]
    · rw [if_neg (fun q => e q.2), if_neg e]
      by_cases e2 : k = 2 * m + 1
      · rw [if_pos ⟨rfl, e2⟩, if_pos e2]
      · rw [if_neg (fun q => e2 q.2), if_neg e2]
  rcases (show Q = 0 ∨ Q = 1 ∨ Q = 2 by omega) with rfl | rfl | rfl
  · have e : u_saws μ v 0 = zsD μ 19 0 k1 := rfl
    rw [e]
    refine ⟨fun k hk => ?_, rfl, rfl, rfl, row⟩
    have : k = 0 := by omega
    subst this
    rw [base, if_pos rfl]
    rfl
  · have e : u_saws μ v 1 = u_saws1 (zmul v k3600) 0 (zsD μ 19 0 k1) := rfl
    rw [e]
    obtain ⟨a, b⟩ := two (zsD μ 19 0 k1) (zmul v k3600) 0
    refine ⟨fun k hk => ?_, rfl, rfl, rfl, fun r hr => (a r hr).trans (row r hr)⟩
    rw [b, base]
    rcases (show k = 0 ∨ k = 1 ∨ k = 2 by omega) with rfl | rfl | rfl
    · rfl
    · show s_saw (s_turn (zmul v k3600) 0) = s_saw (t_turn 1 v)
      rw [e1.1]
    · show s_saw (zadd (s_turn (zmul v k3600) 0) k025) = s_saw (zadd (t_turn 2 v) k025)
      rw [e1.2.1]
  · have e : u_saws μ v 2 = u_saws1 (zmul v k3600) 1 (u_saws1 (zmul v k3600) 0 (zsD μ 19 0 k1)) := rfl
    rw [e]
    obtain ⟨a, b⟩ := two (zsD μ 19 0 k1) (zmul v k3600) 0
    obtain ⟨c, d⟩ := two (u_saws1 (zmul v k3600) 0 (zsD μ 19 0 k1)) (zmul v k3600) 1
    refine ⟨fun k hk => ?_, rfl, rfl, rfl, fun r hr => (c r hr).trans ((a r hr).trans (row r hr))⟩
    rw [d, b, base]
    rcases (show k = 0 ∨ k = 1 ∨ k = 2 ∨ k = 3 ∨ k = 4 by omega) with rfl | rfl | rfl | rfl | rfl
    · rfl
    · show s_saw (s_turn (zmul v k3600) 0) = s_saw (t_turn 1 v)
      rw [e1.1]
    · show s_saw (zadd (s_turn (zmul v k3600) 0) k025) = s_saw (zadd (t_turn 2 v) k025)
      rw [e1.2.1]
    · show s_saw (s_turn (zmul v k3600) 1) = s_saw (t_turn 3 v)
      rw [e1.2.2.1]
    · show s_saw (zadd (s_turn (zmul v k3600) 1) k025) = s_saw (zadd (t_turn 4 v) k025)
      rw [e1.2.2.2]
def gS (m : ZMem) (f c : Nat) : Nat → UInt64 → UInt64 := fun q s => zadd s (zmul (t_col f (zD m 34 q)) (t_col c (zD m 34 q)))
def gB (m : ZMem) (f : Nat) : Nat → UInt64 → UInt64 := fun q s => zadd s (zmul (t_col f (zD m 34 q)) (zD m 35 q))
/-- rows that all do the same, one place each -/
theorem row_D (r : Nat) (F : ZMem → Nat → UInt64) (M : ZMem) (hF : ∀ X c, (∀ a, c ≤ a → zD X r a = zD M r a) → (∀ s, s ≠ r → zD X s = zD M s) → F X c = F M c) : ∀ n, (∀ c, c < n → zD (zit (fun c m => zsD m r c (F m c)) n M) r c = F M c) ∧ (∀ c, n ≤ c → zD (zit (fun c m => zsD m r c (F m c)) n M) r c = zD M r c) ∧ (∀ s, s ≠ r → zD (zit (fun c m => zsD m r c (F m c)) n M) s = zD M s) ∧ zR (zit (fun c m => zsD m r c (F m c)) n M) = zR M ∧ zL (zit (fun c m => zsD m r c (F m c)) n M) = zL M ∧ zI (zit (fun c m => zsD m r c (F m c)) n M) = zI M := by
  intro n
  induction n with
  | zero => exact ⟨fun c hc => absurd hc (by omega), fun _ _ => rfl, fun _ _ => rfl, rfl, rfl, rfl⟩
  | succ n ih =>
    obtain ⟨a1, a2, a3, a4, a5, a6⟩ := ih
    have e : zit (fun c m => zsD m r c (F m c)) (n + 1) M = zsD (zit (fun c m => zsD m r c (F m c)) n M) r n (F (zit (fun c m => zsD m r c (F m c)) n M) n) := rfl
    rw [e]
    generalize zit (fun c m => zsD m r c (F m c)) n M = X at *
    rw [hF X n (fun a ha => a2 a ha) a3]
    refine ⟨fun c hc => ?_, fun c hc => ?_, fun s hs => ?_, a4, a5, a6⟩
    · rw [zD_sD]
      by_cases q : c = n
      · subst q
        rw [if_pos ⟨rfl, rfl⟩]
      · rw [if_neg (fun y => q y.2)]
        exact a1 c (by omega)
    · rw [zD_sD, if_neg (by omega)]
      exact a2 c (by omega)
    · rw [zDr _ _ _ hs]
      exact a3 s hs
/-- one gauge more -/
theorem ar_pt {M : ZMem} {n q : Nat} (hn : n ≤ 5) : ∀ N, N ≤ n → (∀ r, r < N → (∀ c, c < n → zD (zit (u_ar n q) N M) (12 + r) c = zadd (zD M (12 + r) c) (zmul (zD M 19 r) (zD M 19 c))) ∧ zD (zit (u_ar n q) N M) 17 r = zadd (zD M 17 r) (zmul (zD M 19 r) (zD M 10 q))) ∧ (∀ r, N ≤ r → r < n → (∀ c, zD (zit (u_ar n q) N M) (12 + r) c = zD M (12 + r) c) ∧ zD (zit (u_ar n q) N M) 17 r = zD M 17 r) ∧ (∀ r, ¬ (12 ≤ r ∧ r ≤ 17) → zD (zit (u_ar n q) N M) r = zD M r) ∧ zR (zit (u_ar n q) N M) = zR M ∧ zL (zit (u_ar n q) N M) = zL M ∧ zI (zit (u_ar n q) N M) = zI M := by
  intro N
  induction N with
  | zero => exact fun _ => ⟨fun r hr => absurd hr (by omega), fun _ _ _ => ⟨fun _ => rfl, rfl⟩, fun _ _ => rfl, rfl, rfl, rfl⟩
  | succ N ih =>
    intro hN
    obtain ⟨a1, a2, a3, a4, a5, a6⟩ := ih (by omega)
    have e : zit (u_ar n q) (N + 1) M = zit (fun c m => zsD m (12 + N) c (zadd (zD m (12 + N) c) (zmul (zD m 19 N) (zD m 19 c)))) n (zsD (zit (u_ar n q) N M) 17 N (zadd (zD (zit (u_ar n q) N M) 17 N) (zmul (zD (zit (u_ar n q) N M) 19 N) (zD (zit (u_ar n q) N M) 10 q)))) := rfl
    rw [e]
    generalize zit (u_ar n q) N M = X at *
    obtain ⟨x1, x2⟩ := a2 N (Nat.le_refl N) (by omega)
    obtain ⟨b1, b2, b3, b4, b5, b6⟩ := row_D (12 + N) (fun m c => zadd (zD m (12 + N) c) (zmul (zD m 19 N) (zD m 19 c))) (zsD X 17 N (zadd (zD X 17 N) (zmul (zD X 19 N) (zD X 10 q)))) (fun Y c h1 h2 => by
      show zadd (zD Y (12 + N) c) (zmul (zD Y 19 N) (zD Y 19 c)) = _
      rw [h1 c (Nat.le_refl c), h2 19 (by omega)]) n
    generalize hZ : zit (fun c m => zsD m (12 + N) c (zadd (zD m (12 + N) c) (zmul (zD m 19 N) (zD m 19 c)))) n (zsD X 17 N (zadd (zD X 17 N) (zmul (zD X 19 N) (zD X 10 q)))) = Z at *
    have s19 : zD X 19 = zD M 19 := a3 19 (by omega)
    have s10 : zD X 10 = zD M 10 := a3 10 (by omega)
    refine ⟨fun r hr => ?_, fun r h1 h2 => ?_, fun r hr => ?_, b4.trans a4, b5.trans a5, b6.trans a6⟩
    · by_cases er : r = N
      · subst er
        refine ⟨fun c hc => ?_, ?_⟩
        · rw [b1 c hc]
          show zadd (zD (zsD X 17 r _) (12 + r) c) (zmul (zD (zsD X 17 r _) 19 r) (zD (zsD X 17 r _) 19 c)) = _
          rw [zD_sD, if_neg (by omega), zD_sD, if_neg (by omega), zD_sD, if_neg (by omega), x1, s19]
        · rw [b3 17 (by omega), zD_sD, if_pos ⟨rfl, rfl⟩, x2, s19, s10]
      · obtain ⟨y1, y2⟩ := a1 r (by omega)
        refine ⟨fun c hc => ?_, ?_⟩
        · rw [b3 (12 + r) (by omega), zDr _ _ _ (by omega)]
          exact y1 c hc
        · rw [b3 17 (by omega), zD_sD, if_neg (by omega)]
          exact y2
    · obtain ⟨y1, y2⟩ := a2 r (by omega) h2
      refine ⟨fun c => ?_, ?_⟩
      · rw [b3 (12 + r) (by omega), zDr _ _ _ (by omega)]
        exact y1 c
      · rw [b3 17 (by omega), zD_sD, if_neg (by omega)]
        exact y2
    · rw [b3 r (by omega), zDr _ _ _ (by omega)]
      exact a3 r hr
theorem zr_pt {M : ZMem} {n : Nat} (hn : n ≤ 5) : ∀ N, N ≤ n → (∀ r, r < N → (∀ c, c < n → zD (zit (u_zr n) N M) (12 + r) c = 0) ∧ zD (zit (u_zr n) N M) 17 r = 0) ∧ (∀ r, ¬ (12 ≤ r ∧ r ≤ 17) → zD (zit (u_zr n) N M) r = zD M r) ∧ zR (zit (u_zr n) N M) = zR M ∧ zL (zit (u_zr n) N M) = zL M ∧ zI (zit (u_zr n) N M) = zI M := by
  intro N
  induction N with
  | zero => exact fun _ => ⟨fun r hr => absurd hr (by omega), fun _ _ => rfl, rfl, rfl, rfl⟩
  | succ N ih =>
    intro hN
    obtain ⟨a1, a3, a4, a5, a6⟩ := ih (by omega)
    have e : zit (u_zr n) (N + 1) M = zit (fun c m => zsD m (12 + N) c ((fun _ _ => 0) m c)) n (zsD (zit (u_zr n) N M) 17 N 0) := rfl
    rw [e]
    generalize zit (u_zr n) N M = X at *
    obtain ⟨b1, b2, b3, b4, b5, b6⟩ := row_D (12 + N) (fun _ _ => 0) (zsD X 17 N 0) (fun Y c h1 h2 => rfl) n
    generalize zit (fun c m => zsD m (12 + N) c ((fun _ _ => 0) m c)) n (zsD X 17 N 0) = Z at *
    refine ⟨fun r hr => ?_, fun r hr => ?_, b4.trans a4, b5.trans a5, b6.trans a6⟩
    · by_cases er : r = N
      · subst er
        refine ⟨fun c hc => b1 c hc, ?_⟩
        rw [b3 17 (by omega), zD_sD, if_pos ⟨rfl, rfl⟩]
      · obtain ⟨y1, y2⟩ := a1 r (by omega)
        refine ⟨fun c hc => ?_, ?_⟩
        · rw [b3 (12 + r) (by omega), zDr _ _ _ (by omega)]
          exact y1 c hc
        · rw [b3 17 (by omega), zD_sD, if_neg (by omega)]
          exact y2
    · rw [b3 r (by omega), zDr _ _ _ (by omega)]
      exact a3 r hr
theorem addUp_pt {μ m : ZMem} {Q T : Nat} (hQ : Q ≤ 2) (hg : ∀ g, g < T → zD μ 9 g = zD m 34 g ∧ zD μ 10 g = zD m 35 g) : cFt (u_addUp μ Q (2 * Q + 1) T) μ ∧ (∀ r, r < 2 * Q + 1 → (∀ c, c < 2 * Q + 1 → zD (u_addUp μ Q (2 * Q + 1) T) (12 + r) c = zit (gS m r c) T 0) ∧ zD (u_addUp μ Q (2 * Q + 1) T) 17 r = zit (gB m r) T 0) ∧ zI (u_addUp μ Q (2 * Q + 1) T) = zI μ := by
  obtain ⟨z1, z3, z4, z5, z6⟩ := zr_pt (M := μ) (n := 2 * Q + 1) (by omega) (2 * Q + 1) (Nat.le_refl _)
  unfold u_addUp
  generalize zit (u_zr (2 * Q + 1)) (2 * Q + 1) μ = A at *
  have loop : ∀ N, N ≤ T → (∀ r, r < 2 * Q + 1 → (∀ c, c < 2 * Q + 1 → zD (zit (u_ag Q (2 * Q + 1)) N A) (12 + r) c = zit (gS m r c) N 0) ∧ zD (zit (u_ag Q (2 * Q + 1)) N A) 17 r = zit (gB m r) N 0) ∧ (∀ r, ¬ (12 ≤ r ∧ r ≤ 17) → r ≠ 19 → zD (zit (u_ag Q (2 * Q + 1)) N A) r = zD μ r) ∧ zR (zit (u_ag Q (2 * Q + 1)) N A) = zR μ ∧ zL (zit (u_ag Q (2 * Q + 1)) N A) = zL μ ∧ zI (zit (u_ag Q (2 * Q + 1)) N A) = zI μ := by
    intro N
    induction N with
    | zero => exact fun _ => ⟨fun r hr => ⟨fun c hc => (z1 r hr).1 c hc, (z1 r hr).2⟩, fun r h1 _ => z3 r h1, z4, z5, z6⟩
    | succ N ih =>
      intro hN
      obtain ⟨i1, i3, i4, i5, i6⟩ := ih (by omega)
      have e : zit (u_ag Q (2 * Q + 1)) (N + 1) A = zit (u_ar (2 * Q + 1) N) (2 * Q + 1) (u_saws (zit (u_ag Q (2 * Q + 1)) N A) (zD (zit (u_ag Q (2 * Q + 1)) N A) 9 N) Q) := rfl
      rw [e]
      generalize zit (u_ag Q (2 * Q + 1)) N A = X at *
      have e9 : zD X 9 N = zD m 34 N := by rw [i3 9 (by omega) (by omega)]; exact (hg N (by omega)).1
      have e10 : zD X 10 N = zD m 35 N := by rw [i3 10 (by omega) (by omega)]; exact (hg N (by omega)).2
      obtain ⟨s1, s2, s3, s4, s5⟩ := saws_pt X (zD X 9 N) hQ
      rw [e9] at s1 s2 s3 s4 s5 ⊢
      generalize u_saws X (zD m 34 N) Q = Y at *
      obtain ⟨b1, _, b3, b4, b5, b6⟩ := ar_pt (M := Y) (n := 2 * Q + 1) (q := N) (by omega) (2 * Q + 1) (Nat.le_refl _)
      refine ⟨fun r hr => ?_, fun r h1 h2 => ?_, b4.trans (s2.trans i4), b5.trans (s3.trans i5), b6.trans (s4.trans i6)⟩
      · obtain ⟨c1, c2⟩ := b1 r hr
        obtain ⟨d1, d2⟩ := i1 r hr
        refine ⟨fun c hc => ?_, ?_⟩
        · rw [c1 c hc, s1 r hr, s1 c hc, s5 (12 + r) (by omega), d1 c hc]
          rfl
        · rw [c2, s1 r hr, s5 17 (by omega), s5 10 (by omega), d2, e10]
          rfl
      · rw [b3 r h1, s5 r h2]
        exact i3 r h1 h2
  obtain ⟨l1, l3, l4, l5, l6⟩ := loop T (Nat.le_refl T)
  exact ⟨⟨l4, l5, fun r _ => by rw [l6], fun r h1 h2 _ => l3 r h1 h2⟩, l1, l6⟩
/-! the model's sums -/
theorem mrow_D (r base : Nat) (F : ZMem → Nat → UInt64) (M : ZMem) (hF : ∀ X c, zD X r (base + c) = zD M r (base + c) → (∀ s, s ≠ r → zD X s = zD M s) → F X c = F M c) : ∀ n, (∀ c, c < n → zD (zit (fun c m => zsD m r (base + c) (F m c)) n M) r (base + c) = F M c) ∧ (∀ a, (∀ c, c < n → a ≠ base + c) → zD (zit (fun c m => zsD m r (base + c) (F m c)) n M) r a = zD M r a) ∧ (∀ s, s ≠ r → zD (zit (fun c m => zsD m r (base + c) (F m c)) n M) s = zD M s) := by
  intro n
  induction n with
  | zero => exact ⟨fun c hc => absurd hc (by omega), fun _ _ => rfl, fun _ _ => rfl⟩
  | succ n ih =>
    obtain ⟨a1, a2, a3⟩ := ih
    have e : zit (fun c m => zsD m r (base + c) (F m c)) (n + 1) M = zsD (zit (fun c m => zsD m r (base + c) (F m c)) n M) r (base + n) (F (zit (fun c m => zsD m r (base + c) (F m c)) n M) n) := rfl
    rw [e]
    generalize zit (fun c m => zsD m r (base + c) (F m c)) n M = X at *
    rw [hF X n (a2 _ (fun c hc => by omega)) a3]
    refine ⟨fun c hc => ?_, fun a ha => ?_, fun s hs => ?_⟩
    · rw [zD_sD]
      by_cases q : c = n
      · subst q
        rw [if_pos ⟨rfl, rfl⟩]
      · rw [if_neg (by omega)]
        exact a1 c (by omega)
    · rw [zD_sD, if_neg (fun y => ha n (by omega) y.2)]
      exact a2 a (fun c hc => ha c (by omega))
    · rw [zDr _ _ _ hs]
      exact a3 s hs
theorem mFt_add (n T : Nat) (m : ZMem) : mFt (q_add n T m) m := by
  unfold q_add
  refine mFt_it n (fun f s _ => ?_) m
  unfold q_fr
  refine (mFt_it T (fun q s _ => ?_) _).tr ((mFt_it n (fun c s _ => mFt_D s 0 (by omega)) _).tr (mFt_D s 0 (by omega)))
  unfold q_gk q_bk
  exact (mFt_D _ _ (by omega)).tr (mFt_it n (fun c s _ => mFt_D s _ (by omega)) s)
theorem gk_pt {m X : ZMem} {n f q : Nat} (hn : n ≤ 5) (h34 : zD X 34 = zD m 34) (h35 : zD X 35 = zD m 35) : (∀ c, c < n → zD (q_gk n f q X) 36 (5 * f + c) = gS m f c q (zD X 36 (5 * f + c))) ∧ zD (q_gk n f q X) 37 f = gB m f q (zD X 37 f) ∧ (∀ a, (∀ c, c < n → a ≠ 5 * f + c) → zD (q_gk n f q X) 36 a = zD X 36 a) ∧ (∀ a, a ≠ f → zD (q_gk n f q X) 37 a = zD X 37 a) := by
  have b := mrow_D 36 (5 * f) (fun M c => zadd (zD M 36 (5 * f + c)) (zmul (t_col f (zD M 34 q)) (t_col c (zD M 34 q)))) X (fun Y c h1 h2 => by
    show zadd (zD Y 36 (5 * f + c)) (zmul (t_col f (zD Y 34 q)) (t_col c (zD Y 34 q))) = _
    rw [h1, h2 34 (by decide)]) n
  obtain ⟨b1, b2, b3⟩ := b
  have e : q_gk n f q X = q_bk f q (zit (fun c m => zsD m 36 (5 * f + c) ((fun M c => zadd (zD M 36 (5 * f + c)) (zmul (t_col f (zD M 34 q)) (t_col c (zD M 34 q)))) m c)) n X) := rfl
  rw [e]
  generalize zit (fun c m => zsD m 36 (5 * f + c) ((fun M c => zadd (zD M 36 (5 * f + c)) (zmul (t_col f (zD M 34 q)) (t_col c (zD M 34 q)))) m c)) n X = Y at *
  unfold q_bk
  refine ⟨fun c hc => ?_, ?_, fun a ha => ?_, fun a ha => ?_⟩
  · rw [zD_sD, if_neg (by omega), b1 c hc]
    show zadd (zD X 36 (5 * f + c)) (zmul (t_col f (zD X 34 q)) (t_col c (zD X 34 q))) = _
    rw [h34]
    rfl
  · rw [zD_sD, if_pos ⟨rfl, rfl⟩, b3 37 (by decide), b3 34 (by decide), b3 35 (by decide), h34, h35]
    rfl
  · rw [zD_sD, if_neg (by omega)]
    exact b2 a ha
  · rw [zD_sD, if_neg (fun q => ha q.2), b3 37 (by decide)]
theorem madd_pt {m : ZMem} {n T : Nat} (hn : n ≤ 5) : ∀ N, N ≤ n → (∀ f, f < N → (∀ c, c < n → zD (zit (q_fr n T) N m) 36 (5 * f + c) = zit (gS m f c) T 0) ∧ zD (zit (q_fr n T) N m) 37 f = zit (gB m f) T 0) := by
  intro N
  induction N with
  | zero => exact fun _ f hf => absurd hf (by omega)
  | succ N ih =>
    intro hN f hf
    have I := ih (by omega)
    have frm : mFt (zit (q_fr n T) N m) m := by
      refine mFt_it N (fun f s _ => ?_) m
      unfold q_fr
      refine (mFt_it T (fun q s _ => ?_) _).tr ((mFt_it n (fun c s _ => mFt_D s 0 (by omega)) _).tr (mFt_D s 0 (by omega)))
      unfold q_gk q_bk
      exact (mFt_D _ _ (by omega)).tr (mFt_it n (fun c s _ => mFt_D s _ (by omega)) s)
    have e : zit (q_fr n T) (N + 1) m = zit (q_gk n N) T (zit (fun c m => zsD m 36 (5 * N + c) ((fun _ _ => 0) m c)) n (zsD (zit (q_fr n T) N m) 37 N 0)) := rfl
    rw [e]
    generalize zit (q_fr n T) N m = X at *
    obtain ⟨z1, z2, z3⟩ := mrow_D 36 (5 * N) (fun _ _ => 0) (zsD X 37 N 0) (fun _ _ _ _ => rfl) n
    have fr2 : mFt (zit (fun c m => zsD m 36 (5 * N + c) ((fun _ _ => 0) m c)) n (zsD X 37 N 0)) m := (mFt_it n (fun c s _ => mFt_D s 0 (by omega)) _).tr ((mFt_D X 0 (by omega)).tr frm)
    generalize zit (fun c m => zsD m 36 (5 * N + c) ((fun _ _ => 0) m c)) n (zsD X 37 N 0) = Y at *
    have loop : ∀ K, (∀ c, c < n → zD (zit (q_gk n N) K Y) 36 (5 * N + c) = zit (gS m N c) K 0) ∧ zD (zit (q_gk n N) K Y) 37 N = zit (gB m N) K 0 ∧ (∀ a, (∀ c, c < n → a ≠ 5 * N + c) → zD (zit (q_gk n N) K Y) 36 a = zD X 36 a) ∧ (∀ a, a ≠ N → zD (zit (q_gk n N) K Y) 37 a = zD X 37 a) ∧ mFt (zit (q_gk n N) K Y) m := by
      intro K
      induction K with
      | zero =>
        refine ⟨fun c hc => z1 c hc, ?_, fun a ha => ?_, fun a ha => ?_, fr2⟩
        · show zD Y 37 N = 0
          rw [z3 37 (by decide), zD_sD, if_pos ⟨rfl, rfl⟩]
        · show zD Y 36 a = _
          rw [z2 a ha, zD_sD, if_neg (by omega)]
        · show zD Y 37 a = _
          rw [z3 37 (by decide), zD_sD, if_neg (fun q => ha q.2)]
      | succ K ihK =>
        obtain ⟨k1, k2, k3, k4, k5⟩ := ihK
        have eK : zit (q_gk n N) (K + 1) Y = q_gk n N K (zit (q_gk n N) K Y) := rfl
        rw [eK]
        generalize zit (q_gk n N) K Y = W at *
        obtain ⟨g1, g2, g3, g4⟩ := gk_pt (m := m) (X := W) (n := n) (f := N) (q := K) hn (k5.2.2.2 34 (by omega)) (k5.2.2.2 35 (by omega))
        refine ⟨fun c hc => ?_, ?_, fun a ha => (g3 a ha).trans (k3 a ha), fun a ha => (g4 a ha).trans (k4 a ha), ?_⟩
        · rw [g1 c hc, k1 c hc]
          rfl
        · rw [g2, k2]
          rfl
        · refine mFt.tr ?_ k5
          unfold q_gk q_bk
          exact (mFt_D _ _ (by omega)).tr (mFt_it n (fun c s _ => mFt_D s _ (by omega)) W)
    obtain ⟨l1, l2, l3, l4, l5⟩ := loop T
    by_cases ef : f = N
    · subst ef
      exact ⟨l1, l2⟩
    · obtain ⟨i1, i2⟩ := I f (by omega)
      refine ⟨fun c hc => ?_, ?_⟩
      · rw [l3 _ (fun c' hc' => by omega)]
        exact i1 c hc
      · rw [l4 _ ef]
        exact i2
