/-! the class's step: what each loop leaves, place by place -/
def cS (XL XD : Nat → Nat → Prop) (a b : ZMem) : Prop := zR a = zR b ∧ zI a = zI b ∧ (∀ r k, ¬ XL r k → zL a r k = zL b r k) ∧ (∀ r k, ¬ XD r k → zD a r k = zD b r k)
theorem cS.rf (XL XD : Nat → Nat → Prop) (a : ZMem) : cS XL XD a a := ⟨rfl, rfl, fun _ _ _ => rfl, fun _ _ _ => rfl⟩
theorem cS.tr {XL XD : Nat → Nat → Prop} {a b c : ZMem} (h1 : cS XL XD a b) (h2 : cS XL XD b c) : cS XL XD a c := ⟨h1.1.trans h2.1, h1.2.1.trans h2.2.1, fun r k h => (h1.2.2.1 r k h).trans (h2.2.2.1 r k h), fun r k h => (h1.2.2.2 r k h).trans (h2.2.2.2 r k h)⟩
theorem cS.mo {XL XD YL YD : Nat → Nat → Prop} {a b : ZMem} (h : cS XL XD a b) (hL : ∀ r k, XL r k → YL r k) (hD : ∀ r k, XD r k → YD r k) : cS YL YD a b := ⟨h.1, h.2.1, fun r k q => h.2.2.1 r k (fun x => q (hL r k x)), fun r k q => h.2.2.2 r k (fun x => q (hD r k x))⟩
theorem cS_sL {XL XD : Nat → Nat → Prop} (m : ZMem) {r k : Nat} (v : Int64) (h : XL r k) : cS XL XD (zsL m r k v) m := ⟨rfl, rfl, fun a b q => by
  rw [zL_sL, if_neg (fun e => q (by rw [e.1, e.2]; exact h))], fun _ _ _ => rfl⟩
theorem cS_sD {XL XD : Nat → Nat → Prop} (m : ZMem) {r k : Nat} (v : UInt64) (h : XD r k) : cS XL XD (zsD m r k v) m := ⟨rfl, rfl, fun _ _ _ => rfl, fun a b q => by
  rw [zD_sD, if_neg (fun e => q (by rw [e.1, e.2]; exact h))]⟩
def no2 : Nat → Nat → Prop := fun _ _ => False
/-- a cell's role -/
def cR (r : Nat) : Prop := 1000 ≤ r ∧ r < 2000
def fR (r : Nat) : Prop := 2000 ≤ r ∧ r < 3000
def BL (r k : Nat) : Prop := cR r ∧ k = 10
def BD (r k : Nat) : Prop := cR r ∧ 11 ≤ k ∧ k ≤ 14
def bDone (μ M : ZMem) (c : Nat) : Prop := zL M c 10 = zL μ c 2 ∧ zD M c 11 = s_surface μ c ∧ zD M c 12 = zmul (zD μ c 3) (FP.l2d (zL μ c 2)) ∧ zD M c 13 = zmul (zD μ c 4) (FP.l2d (zL μ c 2)) ∧ zD M c 14 = 0
theorem cB_pt (μ : ZMem) (N : Nat) (hN : N ≤ 144) : cS BL BD (zit u_sB N μ) μ ∧ ∀ k, k < N → bDone μ (zit u_sB N μ) (1000 + k) := by
  refine zpt (f := u_sB) (J := fun s => cS BL BD s μ) (P := fun k s => bDone μ s (1000 + k)) (Q := fun _ _ => True) N (fun k s hk q => ?_) (fun k s hk q _ => ?_) (fun k l s hk hl ne _ q => ?_) (fun _ _ _ _ _ _ _ _ => trivial) (cS.rf _ _ μ) (fun _ _ => trivial)
  · refine cS.tr ?_ q
    have hc : cR (1000 + k) := ⟨by omega, by omega⟩
    unfold u_sB u_beginStep
    exact (cS_sD _ _ ⟨hc, by omega, by omega⟩).tr ((cS_sD _ _ ⟨hc, by omega, by omega⟩).tr ((cS_sD _ _ ⟨hc, by omega, by omega⟩).tr ((cS_sD _ _ ⟨hc, by omega, by omega⟩).tr (cS_sL _ _ ⟨hc, rfl⟩))))
  · have e2 : zL s (1000 + k) 2 = zL μ (1000 + k) 2 := q.2.2.1 _ _ (fun x => by have := x.2; omega)
    have e3 : ∀ a, a < 11 → zD s (1000 + k) a = zD μ (1000 + k) a := fun a ha => q.2.2.2 _ _ (fun x => by have := x.2; omega)
    unfold bDone u_sB u_beginStep s_surface
    refine ⟨?_, ?_, ?_, ?_, ?_⟩
    · rw [zL_sD, zL_sD, zL_sD, zL_sD, zL_sL, if_pos ⟨rfl, rfl⟩, e2]
    · rw [zD_sD, if_neg (by omega), zD_sD, if_neg (by omega), zD_sD, if_neg (by omega), zD_sD, if_pos ⟨rfl, rfl⟩, e2, e3 1 (by decide)]
    · rw [zD_sD, if_neg (by omega), zD_sD, if_neg (by omega), zD_sD, if_pos ⟨rfl, rfl⟩, e2, e3 3 (by decide)]
    · rw [zD_sD, if_neg (by omega), zD_sD, if_pos ⟨rfl, rfl⟩, e2, e3 4 (by decide)]
    · rw [zD_sD, if_pos ⟨rfl, rfl⟩]
  · obtain ⟨q1, q2, q3, q4, q5⟩ := q
    unfold bDone u_sB u_beginStep
    refine ⟨?_, ?_, ?_, ?_, ?_⟩
    · rw [zL_sD, zL_sD, zL_sD, zL_sD, zL_sL, if_neg (by omega), q1]
    · rw [zD_sD, if_neg (by omega), zD_sD, if_neg (by omega), zD_sD, if_neg (by omega), zD_sD, if_neg (by omega), zD_sL, q2]
    · rw [zD_sD, if_neg (by omega), zD_sD, if_neg (by omega), zD_sD, if_neg (by omega), zD_sD, if_neg (by omega), zD_sL, q3]
    · rw [zD_sD, if_neg (by omega), zD_sD, if_neg (by omega), zD_sD, if_neg (by omega), zD_sD, if_neg (by omega), zD_sL, q4]
    · rw [zD_sD, if_neg (by omega), zD_sD, if_neg (by omega), zD_sD, if_neg (by omega), zD_sD, if_neg (by omega), zD_sL, q5]
/-- how high the outside of a side stands -/
def s_wv (μ : ZMem) (s k : Nat) (x : UInt64) : UInt64 := if zgt (zD μ (40 + s) k) 0 = true then zadd x (zmul (zD μ (40 + s) k) (s_saw (zadd (s_wave (zD μ 0 14) k) (zD μ (50 + s) k)))) else x
def s_out (μ : ZMem) (s : Nat) : UInt64 := if zI μ (30 + s) 2 = 0 then 0 else zit (s_wv μ s) 8 0
def SD (r k : Nat) : Prop := (30 ≤ r ∧ r < 34) ∧ k = 3
theorem cS1_pt {μ M : ZMem} (hM : cS no2 SD M μ) {s : Nat} (hs : s < 4) : ∀ n, n ≤ 8 → cS no2 SD (zit (u_stand1 (30 + s) (40 + s) (50 + s) (zD μ 0 14)) n (zsD M (30 + s) 3 0)) M ∧ zD (zit (u_stand1 (30 + s) (40 + s) (50 + s) (zD μ 0 14)) n (zsD M (30 + s) 3 0)) (30 + s) 3 = zit (s_wv μ s) n 0 ∧ ∀ s', s' ≠ s → zD (zit (u_stand1 (30 + s) (40 + s) (50 + s) (zD μ 0 14)) n (zsD M (30 + s) 3 0)) (30 + s') 3 = zD M (30 + s') 3 := by
  intro n
  have hS : SD (30 + s) 3 := ⟨⟨by omega, by omega⟩, rfl⟩
  induction n with
  | zero =>
    intro _
    refine ⟨cS_sD _ _ hS, ?_, fun s' h => ?_⟩
    · show zD (zsD M (30 + s) 3 0) (30 + s) 3 = 0
      rw [zD_sD, if_pos ⟨rfl, rfl⟩]
    · show zD (zsD M (30 + s) 3 0) (30 + s') 3 = _
      rw [zD_sD, if_neg (by omega)]
  | succ n ih =>
    intro hn
    obtain ⟨a1, a2, a3⟩ := ih (by omega)
    have c := a1.tr hM
    show cS no2 SD (u_stand1 (30 + s) (40 + s) (50 + s) (zD μ 0 14) n (zit (u_stand1 (30 + s) (40 + s) (50 + s) (zD μ 0 14)) n (zsD M (30 + s) 3 0))) M ∧ zD (u_stand1 (30 + s) (40 + s) (50 + s) (zD μ 0 14) n (zit (u_stand1 (30 + s) (40 + s) (50 + s) (zD μ 0 14)) n (zsD M (30 + s) 3 0))) (30 + s) 3 = s_wv μ s n (zit (s_wv μ s) n 0) ∧ ∀ s', s' ≠ s → zD (u_stand1 (30 + s) (40 + s) (50 + s) (zD μ 0 14) n (zit (u_stand1 (30 + s) (40 + s) (50 + s) (zD μ 0 14)) n (zsD M (30 + s) 3 0))) (30 + s') 3 = zD M (30 + s') 3
    generalize zit (u_stand1 (30 + s) (40 + s) (50 + s) (zD μ 0 14)) n (zsD M (30 + s) 3 0) = X at *
    have e4 : zD X (40 + s) n = zD μ (40 + s) n := c.2.2.2 _ _ (fun x => by have := x.1; omega)
    have e5 : zD X (50 + s) n = zD μ (50 + s) n := c.2.2.2 _ _ (fun x => by have := x.1; omega)
    unfold u_stand1
    rw [e4, e5]
    by_cases g : zgt (zD μ (40 + s) n) 0 = true
    · rw [if_pos g, show s_wv μ s n (zit (s_wv μ s) n 0) = _ from if_pos g, a2]
      refine ⟨(cS_sD _ _ hS).tr a1, ?_, fun s' h => ?_⟩
      · rw [zD_sD, if_pos ⟨rfl, rfl⟩]
      · rw [zD_sD, if_neg (by omega), a3 s' h]
    · rw [if_neg g, show s_wv μ s n (zit (s_wv μ s) n 0) = _ from if_neg g]
      exact ⟨a1, a2, a3⟩
theorem cSs_pt {μ M : ZMem} (hM : cS no2 SD M μ) {s : Nat} (hs : s < 4) : cS no2 SD (u_sS s M) M ∧ zD (u_sS s M) (30 + s) 3 = s_out μ s ∧ ∀ s', s' ≠ s → zD (u_sS s M) (30 + s') 3 = zD M (30 + s') 3 := by
  have hS : SD (30 + s) 3 := ⟨⟨by omega, by omega⟩, rfl⟩
  have et : zD M 0 14 = zD μ 0 14 := hM.2.2.2 _ _ (fun x => by have := x.1; omega)
  unfold u_sS u_stand s_out
  rw [et, hM.2.1]
  by_cases e : zI μ (30 + s) 2 = 0
  · rw [if_pos e, if_pos e]
    refine ⟨cS_sD _ _ hS, ?_, fun s' h => ?_⟩
    · rw [zD_sD, if_pos ⟨rfl, rfl⟩]
    · rw [zD_sD, if_neg (by omega)]
  · rw [if_neg e, if_neg e]
    exact cS1_pt hM hs 8 (Nat.le_refl 8)
theorem cSS_pt (μ : ZMem) : cS no2 SD (zit u_sS 4 μ) μ ∧ ∀ s, s < 4 → zD (zit u_sS 4 μ) (30 + s) 3 = s_out μ s :=
  zpt (f := u_sS) (J := fun m => cS no2 SD m μ) (P := fun s m => zD m (30 + s) 3 = s_out μ s) (Q := fun _ _ => True) 4 (fun k s hk q => (cSs_pt q hk).1.tr q) (fun k s hk q _ => (cSs_pt q hk).2.1) (fun k l s hk hl ne q p => ((cSs_pt q hk).2.2 l (fun e => ne e.symm)).trans p) (fun _ _ _ _ _ _ _ _ => trivial) (cS.rf _ _ μ) (fun _ _ => trivial)
/-! the faces settle -/
def FL (r k : Nat) : Prop := fR r ∧ k = 5
def FD (r k : Nat) : Prop := (fR r ∧ k = 4) ∨ (cR r ∧ k = 14)
def e_q (β : ZMem) (f : Nat) (v s : UInt64) : Int64 := s_limited β f (FP.d2l (zmul (zmul s v) (zmul (FP.l2d (s_lesser β f)) k0001)))
theorem ex_cg {M β : ZMem} (h : cS FL FD M β) (f : Nat) : s_exists M f = s_exists β f := by
  unfold s_exists s_isWater
  rw [h.1, h.2.1]
theorem so_cg {M β : ZMem} (h : cS FL FD M β) (f : Nat) (x : Option Nat) : s_surfaceOf M f x = s_surfaceOf β f x := by
  have e : ∀ r k, k ≠ 4 → k ≠ 14 → zD M r k = zD β r k := fun r k h1 h2 => h.2.2.2 r k (fun x => x.elim (fun y => h1 y.2) (fun y => h2 y.2))
  unfold s_surfaceOf
  rw [h.1]
  cases x with
  | some c => exact e _ _ (by decide) (by decide)
  | none =>
    cases zR β f 2 with
    | none => rfl
    | some s => exact e _ _ (by decide) (by decide)
theorem le_cg {M β : ZMem} (h : cS FL FD M β) (f : Nat) : s_lesser M f = s_lesser β f := by
  have e : ∀ r, zL M r 2 = zL β r 2 := fun r => h.2.2.1 r 2 (fun x => by have := x.2; omega)
  unfold s_lesser
  rw [h.1]
  cases zR β f 0 <;> cases zR β f 1 <;> simp only [e]
theorem li_cg {M β : ZMem} (h : cS FL FD M β) (f : Nat) (q : Int64) : s_limited M f q = s_limited β f q := by
  have e : ∀ r, zL M r 2 = zL β r 2 := fun r => h.2.2.1 r 2 (fun x => by have := x.2; omega)
  unfold s_limited s_isDry
  rw [h.1]
  cases (if q < 0 then zR β f 1 else zR β f 0) <;> simp only [e]
theorem sp_cg {M β : ZMem} (h : cS FL FD M β) (f : Nat) (h4 : zD M f 4 = zD β f 4) (v w : UInt64) : v_speed M f v w = v_speed β f v w := by
  unfold v_speed
  rw [so_cg h, so_cg h, h4, h.1]
def fl1 (P : Prop) [Decidable P] (s x : UInt64) : UInt64 := if P then (if zgt (s_sizeOf s) x = true then s_sizeOf s else x) else x
def c_feel (w h : Nat) (ex : Nat → Int32) (sp : Nat → UInt64) (k n : Nat) (x : UInt64) : UInt64 := if ex n = 0 then x else fl1 (fBeh w h n = some (1000 + k)) (sp n) (fl1 (fBef w h n = some (1000 + k)) (sp n) x)
/-- the faces' references -/
def fRf (w h : Nat) (μ : ZMem) : Prop := ∀ n, n < fcA w h → zR μ (2000 + n) 0 = fBef w h n ∧ zR μ (2000 + n) 1 = fBeh w h n ∧ zR μ (2000 + n) 2 = fSid w h n
theorem fBB {w h n c : Nat} (hd : zDim w h) (hn : n < fcA w h) : (fBef w h n = some c → ∃ k, k < w * h ∧ c = 1000 + k) ∧ (fBeh w h n = some c → ∃ k, k < w * h ∧ c = 1000 + k) := by
  obtain ⟨d1, d2, d3, d4⟩ := id hd
  rcases fCases hd hn with ⟨i, j, hi, hj, rfl⟩ | ⟨i, j, hi, hj, rfl⟩ | ⟨s, t, hs, ht, rfl⟩
  · obtain ⟨a, b, _, _⟩ := face_A0 hd hi hj
    rw [a, b]
    have g1 := glt (w := w) (h := h) (show i < w by omega) hj
    have g2 := glt (w := w) (h := h) hi hj
    exact ⟨fun e => ⟨_, g1, (Option.some.inj e).symm⟩, fun e => ⟨_, g2, by have := (Option.some.inj e).symm; omega⟩⟩
  · obtain ⟨a, b, _, _⟩ := face_A1 hd hi hj
    rw [a, b]
    have g1 := glt (w := w) (h := h) hi (show j < h by omega)
    have g2 := glt (w := w) (h := h) hi hj
    rw [Nat.succ_mul] at g2
    exact ⟨fun e => ⟨_, g1, (Option.some.inj e).symm⟩, fun e => ⟨j * w + i + w, by omega, by have := (Option.some.inj e).symm; omega⟩⟩
  · rcases (show s = 0 ∨ s = 1 ∨ s = 2 ∨ s = 3 by omega) with rfl | rfl | rfl | rfl
    · obtain ⟨a, b, _, _⟩ := face_S0 hd (show t < h from ht)
      rw [a, b]
      have g1 := glt (w := w) (h := h) (show 0 < w by omega) (show t < h from ht)
      exact ⟨fun e => absurd e (by simp), fun e => ⟨_, g1, by have := (Option.some.inj e).symm; omega⟩⟩
    · obtain ⟨a, b, _, _⟩ := face_S1 hd (show t < h from ht)
      rw [a, b]
      have g1 := glt (w := w) (h := h) (show w - 1 < w by omega) (show t < h from ht)
      exact ⟨fun e => ⟨_, g1, (Option.some.inj e).symm⟩, fun e => absurd e (by simp)⟩
    · obtain ⟨a, b, _, _⟩ := face_S2 hd (show t < w from ht)
      rw [a, b]
      have g1 := glt (w := w) (h := h) (show t < w from ht) (show 0 < h by omega)
      exact ⟨fun e => absurd e (by simp), fun e => ⟨_, g1, by have := (Option.some.inj e).symm; omega⟩⟩
    · obtain ⟨a, b, _, _⟩ := face_S3 hd (show t < w from ht)
      rw [a, b]
      have g1 := glt (w := w) (h := h) (show t < w from ht) (show h - 1 < h by omega)
      exact ⟨fun e => ⟨_, g1, (Option.some.inj e).symm⟩, fun e => absurd e (by simp)⟩
theorem felt_pt (M : ZMem) (f : Nat) (x : Option Nat) (hx : ∀ c, x = some c → cR c) (hf : fR f) : cS no2 (fun r k => cR r ∧ k = 14) (u_felt M f x) M ∧ ∀ c, zD (u_felt M f x) c 14 = fl1 (x = some c) (zD M f 4) (zD M c 14) := by
  cases x with
  | none => exact ⟨cS.rf _ _ _, fun c => by unfold fl1; rw [if_neg (by simp)]; rfl⟩
  | some a =>
    have ha := hx a rfl
    show cS no2 (fun r k => cR r ∧ k = 14) (u_feel M a (zD M f 4)) M ∧ ∀ c, zD (u_feel M a (zD M f 4)) c 14 = _
    unfold u_feel fl1
    by_cases g : zgt (s_sizeOf (zD M f 4)) (zD M a 14) = true
    · rw [if_pos g]
      refine ⟨cS_sD _ _ ⟨ha, rfl⟩, fun c => ?_⟩
      rw [zD_sD]
      by_cases e : a = c
      · subst e
        rw [if_pos ⟨rfl, rfl⟩, if_pos rfl, if_pos g]
      · rw [if_neg (fun q => e q.1.symm), if_neg (fun q => e (Option.some.inj q))]
    · rw [if_neg g]
      refine ⟨cS.rf _ _ _, fun c => ?_⟩
      by_cases e : a = c
      · subst e
        rw [if_pos rfl, if_neg g]
      · rw [if_neg (fun q => e (Option.some.inj q))]
def fDn (β M : ZMem) (f : Nat) (v w : UInt64) : Prop := (s_exists β f = 0 → zD M f 4 = zD β f 4 ∧ zL M f 5 = 0) ∧ (¬ s_exists β f = 0 → zD M f 4 = v_speed β f v w ∧ zL M f 5 = e_q β f v (v_speed β f v w))
theorem settle_pt {β M : ZMem} (hM : cS FL FD M β) {f : Nat} (hf : fR f) {x y : Option Nat} (hx : ∀ c, x = some c → cR c) (hy : ∀ c, y = some c → cR c) (e0 : zR β f 0 = x) (e1 : zR β f 1 = y) (h4 : zD M f 4 = zD β f 4) (v w : UInt64) : cS FL FD (u_settle M f v w) M ∧ fDn β (u_settle M f v w) f v w ∧ (∀ f', f' ≠ f → fR f' → zD (u_settle M f v w) f' 4 = zD M f' 4 ∧ zL (u_settle M f v w) f' 5 = zL M f' 5) ∧ ∀ c, cR c → zD (u_settle M f v w) c 14 = if s_exists β f = 0 then zD M c 14 else fl1 (y = some c) (v_speed β f v w) (fl1 (x = some c) (v_speed β f v w) (zD M c 14)) := by
  have c0 : cS FL FD (u_settle0 M f) M := cS_sL _ _ ⟨hf, rfl⟩
  have ex : s_exists (u_settle0 M f) f = s_exists β f := ex_cg (c0.tr hM) f
  unfold u_settle fDn
  rw [ex]
  by_cases e : s_exists β f = 0
  · rw [if_pos e]
    refine ⟨c0, ⟨fun _ => ⟨h4, ?_⟩, fun q => absurd e q⟩, fun f' ne _ => ⟨rfl, ?_⟩, fun c _ => by rw [if_pos e]; rfl⟩
    · show zL (zsL M f 5 0) f 5 = 0
      rw [zL_sL, if_pos ⟨rfl, rfl⟩]
    · show zL (zsL M f 5 0) f' 5 = _
      rw [zL_sL, if_neg (fun q => ne q.1)]
  · rw [if_neg e, hM.1, e0, e1]
    have sp : v_speed (u_settle0 M f) f v w = v_speed β f v w := sp_cg (c0.tr hM) f h4 v w
    have c1 : cS FL FD (u_settle1 M f v w) M := (cS_sD _ _ (Or.inl ⟨hf, rfl⟩)).tr c0
    have c2 : cS FL FD (u_settle2 M f v w) M := (cS_sL _ _ ⟨hf, rfl⟩).tr c1
    have d1 : zD (u_settle1 M f v w) f 4 = v_speed β f v w := by
      unfold u_settle1
      rw [zD_sD, if_pos ⟨rfl, rfl⟩, sp]
    have d2 : zD (u_settle2 M f v w) f 4 = v_speed β f v w := d1
    have l2 : zL (u_settle2 M f v w) f 5 = e_q β f v (v_speed β f v w) := by
      unfold u_settle2 e_q
      rw [zL_sL, if_pos ⟨rfl, rfl⟩, d1, li_cg (c1.tr hM), le_cg (c1.tr hM)]
    have o2 : ∀ f', f' ≠ f → fR f' → zD (u_settle2 M f v w) f' 4 = zD M f' 4 ∧ zL (u_settle2 M f v w) f' 5 = zL M f' 5 := by
      intro f' ne _
      unfold u_settle2 u_settle1 u_settle0
      constructor
      · rw [zD_sL, zD_sD, if_neg (fun q => ne q.1), zD_sL]
      · rw [zL_sL, if_neg (fun q => ne q.1), zL_sD, zL_sL, if_neg (fun q => ne q.1)]
    have w2 : ∀ c, cR c → zD (u_settle2 M f v w) c 14 = zD M c 14 := by
      intro c hc
      unfold u_settle2 u_settle1 u_settle0
      rw [zD_sL, zD_sD, if_neg (fun q => by omega), zD_sL]
    generalize u_settle2 M f v w = X at *
    obtain ⟨a1, a2⟩ := felt_pt X f x hx hf
    have a4 : zD (u_felt X f x) f 4 = v_speed β f v w := (a1.2.2.2 _ _ (fun q => by have := q.2; omega)).trans d2
    have aL : ∀ r k, zL (u_felt X f x) r k = zL X r k := fun r k => a1.2.2.1 r k (fun q => q)
    have aD : ∀ r, zD (u_felt X f x) r 4 = zD X r 4 := fun r => a1.2.2.2 r 4 (fun q => by have := q.2; omega)
    have ac : cS FL FD (u_felt X f x) X := a1.mo (fun _ _ q => absurd q id) (fun _ _ q => Or.inr q)
    generalize u_felt X f x = Y at *
    obtain ⟨b1, b2⟩ := felt_pt Y f y hy hf
    have bL : ∀ r k, zL (u_felt Y f y) r k = zL Y r k := fun r k => b1.2.2.1 r k (fun q => q)
    have bD : ∀ r, zD (u_felt Y f y) r 4 = zD Y r 4 := fun r => b1.2.2.2 r 4 (fun q => by have := q.2; omega)
    have bc : cS FL FD (u_felt Y f y) Y := b1.mo (fun _ _ q => absurd q id) (fun _ _ q => Or.inr q)
    refine ⟨bc.tr (ac.tr c2), ⟨fun q => absurd q e, fun _ => ⟨(bD f).trans a4, ((bL f 5).trans (aL f 5)).trans l2⟩⟩, fun f' ne hf' => ⟨((bD f').trans (aD f')).trans (o2 f' ne hf').1, ((bL f' 5).trans (aL f' 5)).trans (o2 f' ne hf').2⟩, fun c hc => ?_⟩
    rw [b2, a2, a4, d2, w2 c hc, if_neg e]
/-- the wind of a face -/
def e_w (β : ZMem) (w h hr n : Nat) : UInt64 := if fAxi w h n = 0 then zD β 4 hr else zD β 5 hr
def e_sp (β : ZMem) (w h hr : Nat) (v : UInt64) (n : Nat) : UInt64 := v_speed β (2000 + n) v (e_w β w h hr n)
def fAx (w h : Nat) (μ : ZMem) : Prop := ∀ n, n < fcA w h → zI μ (2000 + n) 3 = fAxi w h n
theorem cF_pt {β : ZMem} {w h hr : Nat} {v : UInt64} (hd : zDim w h) (hF : fcA w h ≤ 400) (hR : fRf w h β) (hA : fAx w h β) : ∀ n, n ≤ fcA w h → cS FL FD (zit (u_sF hr v) n β) β ∧ (∀ f, f < n → fDn β (zit (u_sF hr v) n β) (2000 + f) v (e_w β w h hr f)) ∧ (∀ f, n ≤ f → f < fcA w h → zD (zit (u_sF hr v) n β) (2000 + f) 4 = zD β (2000 + f) 4) ∧ ∀ k, k < 144 → zD (zit (u_sF hr v) n β) (1000 + k) 14 = zit (c_feel w h (fun f => s_exists β (2000 + f)) (e_sp β w h hr v) k) n (zD β (1000 + k) 14) := by
  intro n
  induction n with
  | zero => exact fun _ => ⟨cS.rf _ _ _, fun f hf => absurd hf (by omega), fun _ _ _ => rfl, fun _ _ => rfl⟩
  | succ n ih =>
    intro hn
    obtain ⟨a1, a2, a3, a4⟩ := ih (by omega)
    have hB := hd.2.1
    have hH := hd.2.2.2
    have h144 : w * h ≤ 12 * 12 := Nat.mul_le_mul hB hH
    obtain ⟨r0, r1, _⟩ := hR n (by omega)
    have hx : ∀ c, fBef w h n = some c → cR c := fun c e => by
      obtain ⟨k, hk, rfl⟩ := (fBB hd (by omega)).1 e
      exact ⟨by omega, by omega⟩
    have hy : ∀ c, fBeh w h n = some c → cR c := fun c e => by
      obtain ⟨k, hk, rfl⟩ := (fBB hd (by omega)).2 e
      exact ⟨by omega, by omega⟩
    show cS FL FD (u_sF hr v n (zit (u_sF hr v) n β)) β ∧ (∀ f, f < n + 1 → fDn β (u_sF hr v n (zit (u_sF hr v) n β)) (2000 + f) v (e_w β w h hr f)) ∧ (∀ f, n + 1 ≤ f → f < fcA w h → zD (u_sF hr v n (zit (u_sF hr v) n β)) (2000 + f) 4 = zD β (2000 + f) 4) ∧ ∀ k, k < 144 → zD (u_sF hr v n (zit (u_sF hr v) n β)) (1000 + k) 14 = c_feel w h (fun f => s_exists β (2000 + f)) (e_sp β w h hr v) k n (zit (c_feel w h (fun f => s_exists β (2000 + f)) (e_sp β w h hr v) k) n (zD β (1000 + k) 14))
    generalize zit (u_sF hr v) n β = M at *
    have eM : u_sF hr v n M = u_settle M (2000 + n) v (e_w β w h hr n) := by
      unfold u_sF e_w
      rw [a1.2.1, hA n (by omega), a1.2.2.2 4 hr (fun q => q.elim (fun y => absurd y.1.1 (by omega)) (fun y => absurd y.1.1 (by omega))), a1.2.2.2 5 hr (fun q => q.elim (fun y => absurd y.1.1 (by omega)) (fun y => absurd y.1.1 (by omega)))]
    rw [eM]
    obtain ⟨b1, b2, b3, b4⟩ := settle_pt a1 (f := 2000 + n) ⟨by omega, by omega⟩ hx hy r0 r1 (a3 n (by omega) (by omega)) v (e_w β w h hr n)
    refine ⟨b1.tr a1, fun f hf => ?_, fun f h1 h2 => ?_, fun k hk => ?_⟩
    · by_cases e : f = n
      · subst e
        exact b2
      · obtain ⟨c1, c2⟩ := b3 (2000 + f) (by omega) ⟨by omega, by omega⟩
        have := a2 f (by omega)
        unfold fDn at this ⊢
        rw [c1, c2]
        exact this
    · exact (b3 (2000 + f) (by omega) ⟨by omega, by omega⟩).1.trans (a3 f (by omega) h2)
    · rw [b4 (1000 + k) ⟨by omega, by omega⟩, a4 k hk]
      rfl
