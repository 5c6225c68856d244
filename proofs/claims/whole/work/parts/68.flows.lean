/-! memories that agree but in some rows; loops, point by point -/
def zSame (XI XL XD : Nat → Bool) (a b : ZMem) : Prop := zR a = zR b ∧ (∀ r, XI r = false → zI a r = zI b r) ∧ (∀ r, XL r = false → zL a r = zL b r) ∧ (∀ r, XD r = false → zD a r = zD b r)
theorem zSame.rf (XI XL XD : Nat → Bool) (a : ZMem) : zSame XI XL XD a a := ⟨rfl, fun _ _ => rfl, fun _ _ => rfl, fun _ _ => rfl⟩
theorem zSame.tr {XI XL XD : Nat → Bool} {a b c : ZMem} (h1 : zSame XI XL XD a b) (h2 : zSame XI XL XD b c) : zSame XI XL XD a c := ⟨h1.1.trans h2.1, fun r h => (h1.2.1 r h).trans (h2.2.1 r h), fun r h => (h1.2.2.1 r h).trans (h2.2.2.1 r h), fun r h => (h1.2.2.2 r h).trans (h2.2.2.2 r h)⟩
theorem zSame_it {XI XL XD : Nat → Bool} {f : Nat → ZMem → ZMem} (h : ∀ k s, zSame XI XL XD (f k s) s) : ∀ n s, zSame XI XL XD (zit f n s) s
  | 0, s => zSame.rf _ _ _ s
  | n + 1, s => (h n _).tr (zSame_it h n s)
theorem zSame_sI {XI XL XD : Nat → Bool} (m : ZMem) {r : Nat} (k : Nat) (v : Int32) (h : XI r = true) : zSame XI XL XD (zsI m r k v) m := ⟨rfl, fun q hq => zup_row _ _ _ (fun e => by rw [e, h] at hq; exact absurd hq (by decide)), fun _ _ => rfl, fun _ _ => rfl⟩
theorem zSame_sL {XI XL XD : Nat → Bool} (m : ZMem) {r : Nat} (k : Nat) (v : Int64) (h : XL r = true) : zSame XI XL XD (zsL m r k v) m := ⟨rfl, fun _ _ => rfl, fun q hq => zup_row _ _ _ (fun e => by rw [e, h] at hq; exact absurd hq (by decide)), fun _ _ => rfl⟩
theorem zSame_sD {XI XL XD : Nat → Bool} (m : ZMem) {r : Nat} (k : Nat) (v : UInt64) (h : XD r = true) : zSame XI XL XD (zsD m r k v) m := ⟨rfl, fun _ _ => rfl, fun _ _ => rfl, fun q hq => zup_row _ _ _ (fun e => by rw [e, h] at hq; exact absurd hq (by decide))⟩
theorem zSame.mo {XI XL XD YI YL YD : Nat → Bool} {a b : ZMem} (h : zSame XI XL XD a b) (hI : ∀ r, YI r = false → XI r = false) (hL : ∀ r, YL r = false → XL r = false) (hD : ∀ r, YD r = false → XD r = false) : zSame YI YL YD a b := ⟨h.1, fun r q => h.2.1 r (hI r q), fun r q => h.2.2.1 r (hL r q), fun r q => h.2.2.2 r (hD r q)⟩
theorem zpt {σ : Type} {f : Nat → σ → σ} {J : σ → Prop} {P Q : Nat → σ → Prop} (N : Nat) (hJ : ∀ k s, k < N → J s → J (f k s)) (h1 : ∀ k s, k < N → J s → Q k s → P k (f k s)) (h2 : ∀ k l s, k < N → l < N → k ≠ l → J s → P l s → P l (f k s)) (h3 : ∀ k l s, k < N → l < N → k ≠ l → J s → Q l s → Q l (f k s)) {s0 : σ} (j0 : J s0) (q0 : ∀ k, k < N → Q k s0) : J (zit f N s0) ∧ ∀ k, k < N → P k (zit f N s0) := by
  have h : ∀ n, n ≤ N → J (zit f n s0) ∧ (∀ k, k < n → P k (zit f n s0)) ∧ ∀ k, n ≤ k → k < N → Q k (zit f n s0) := by
    intro n
    induction n with
    | zero => exact fun _ => ⟨j0, fun k hk => absurd hk (by omega), fun k _ hk => q0 k hk⟩
    | succ n ih =>
      intro hn
      obtain ⟨a, b, c⟩ := ih (by omega)
      refine ⟨hJ n _ (by omega) a, fun k hk => ?_, fun k h1' hk => h3 n k _ (by omega) hk (by omega) a (c k (by omega) hk)⟩
      by_cases e : k = n
      · subst e
        exact h1 k _ (by omega) a (c k (Nat.le_refl k) (by omega))
      · exact h2 n k _ (by omega) (by omega) (fun q => e q.symm) a (b k (by omega))
  have := h N (Nat.le_refl N)
  exact ⟨this.1, this.2.1⟩
theorem zit_in {σ : Type} {f : Nat → σ → σ} {J : σ → Prop} (N : Nat) (h : ∀ k s, k < N → J s → J (f k s)) {s0 : σ} (j0 : J s0) : J (zit f N s0) := by
  have : ∀ n, n ≤ N → J (zit f n s0) := by
    intro n
    induction n with
    | zero => exact fun _ => j0
    | succ n ih => exact fun hn => h n _ (by omega) (ih (by omega))
  exact this N (Nat.le_refl N)
/-! the model's flows, all from what there is at the beginning -/
def x0 : Nat → Bool := fun _ => false
def xF : Nat → Bool := fun r => r == 19
def xS : Nat → Bool := fun r => r == 11
abbrev zB1 (m ν : ZMem) : Prop := zSame x0 xF xS m ν
theorem zB1.i {m ν : ZMem} (h : zB1 m ν) (r : Nat) : zI m r = zI ν r := h.2.1 r rfl
theorem zB1.l {m ν : ZMem} (h : zB1 m ν) {r : Nat} (hr : xF r = false) : zL m r = zL ν r := h.2.2.1 r hr
theorem zB1.d {m ν : ZMem} (h : zB1 m ν) {r : Nat} (hr : xS r = false) : zD m r = zD ν r := h.2.2.2 r hr
theorem zB1.water {m ν : ZMem} (h : zB1 m ν) (w hh : Nat) (x y : Int32) : t_isWater m w hh x y = t_isWater ν w hh x y := by
  unfold t_isWater
  rw [h.i]
theorem zB1.face {m ν : ZMem} (h : zB1 m ν) (w hh : Nat) (x y a : Int32) : t_hasFace m w hh x y a = t_hasFace ν w hh x y a := by
  unfold t_hasFace
  rw [h.water, h.water, h.water]
theorem zB1.opn {m ν : ZMem} (h : zB1 m ν) (s : Nat) : t_isOpen m s = t_isOpen ν s := by
  unfold t_isOpen t_opn
  rw [h.i]
theorem zB1.side {m ν : ZMem} (h : zB1 m ν) (w hh : Nat) (x y : Int32) (s : Nat) : t_hasSide m w hh x y s = t_hasSide ν w hh x y s := by
  unfold t_hasSide
  rw [h.water, h.opn]
theorem zB1.out {m ν : ZMem} (h : zB1 m ν) (s : Nat) : t_outside m s = t_outside ν s := by
  unfold t_outside
  have : t_wv m s = t_wv ν s := by
    funext k x
    unfold t_wv
    rw [h.i, h.d (r := 24) rfl, h.d (r := 25) rfl, h.d (r := 0) rfl]
  rw [this]
theorem zB1.at {m ν : ZMem} (h : zB1 m ν) (x : Option Nat) (out : UInt64) : t_at m x out = t_at ν x out := by
  cases x with
  | none => rfl
  | some c =>
    show t_lev m c = t_lev ν c
    unfold t_lev
    rw [h.l (r := 7) rfl, h.d (r := 5) rfl]
theorem zB1.min {m ν : ZMem} (h : zB1 m ν) (b e : Option Nat) : t_min m b e = t_min ν b e := by
  cases b <;> cases e <;> unfold t_min <;> simp only [h.l (r := 7) rfl]
theorem zB1.lim {m ν : ZMem} (h : zB1 m ν) (b e : Option Nat) (q : Int64) : t_lim m b e q = t_lim ν b e q := by
  cases b <;> cases e <;> unfold t_lim t_lim1 <;> simp only [h.l (r := 7) rfl]
def f_s (ν : ZMem) (hr : Nat) (v : UInt64) (f : Nat) (a : Int32) (b e : Option Nat) (out : UInt64) : UInt64 := t_spd ν f b e out v (if a = 0 then zD ν 26 hr else zD ν 27 hr)
def f_q (ν : ZMem) (v : UInt64) (b e : Option Nat) (s : UInt64) : Int64 := t_lim ν b e (FP.d2l (zmul (zmul s v) (zmul (FP.l2d (t_min ν b e)) k0001)))
theorem q_flow_eq {m ν : ZMem} (h : zB1 m ν) {f : Nat} (hf : zD m 11 f = zD ν 11 f) (a : Int32) (b e : Option Nat) (out v : UInt64) (hr : Nat) : q_flow m f a b e out v hr = zsL (zsD m 11 f (f_s ν hr v f a b e out)) 19 f (f_q ν v b e (f_s ν hr v f a b e out)) := by
  unfold q_flow q_flow1 f_q f_s t_spd
  rw [h.at, h.at, h.min, h.lim, hf, h.d (r := 26) rfl, h.d (r := 27) rfl]
def fInit (ν m : ZMem) (f : Nat) : Prop := zD m 11 f = zD ν 11 f ∧ zL m 19 f = 0
def fDone (ν m : ZMem) (f : Nat) (x : Int32) (s : UInt64) (q : Int64) : Prop := (¬ x = 0 → zD m 11 f = s ∧ zL m 19 f = q) ∧ (x = 0 → zD m 11 f = zD ν 11 f ∧ zL m 19 f = 0)
def fKeep (m' m : ZMem) (f : Nat) : Prop := zD m' 11 f = zD m 11 f ∧ zL m' 19 f = zL m 19 f
theorem fKeep.init {ν m' m : ZMem} {f : Nat} (h : fKeep m' m f) (q : fInit ν m f) : fInit ν m' f := ⟨h.1.trans q.1, h.2.trans q.2⟩
theorem fKeep.done {ν m' m : ZMem} {f : Nat} {x : Int32} {s : UInt64} {q : Int64} (h : fKeep m' m f) (d : fDone ν m f x s q) : fDone ν m' f x s q := ⟨fun e => ⟨h.1.trans (d.1 e).1, h.2.trans (d.1 e).2⟩, fun e => ⟨h.1.trans (d.2 e).1, h.2.trans (d.2 e).2⟩⟩
theorem fKeep.rf (m : ZMem) (f : Nat) : fKeep m m f := ⟨rfl, rfl⟩
theorem fKeep.tr {a b c : ZMem} {f : Nat} (h1 : fKeep a b f) (h2 : fKeep b c f) : fKeep a c f := ⟨h1.1.trans h2.1, h1.2.trans h2.2⟩
theorem fKeep_w (m : ZMem) {f g : Nat} (s : UInt64) (q : Int64) (h : g ≠ f) : fKeep (zsL (zsD m 11 f s) 19 f q) m g := ⟨by rw [zD_sL, zD_sD, if_neg (by omega)], by rw [zL_sL, if_neg (by omega), zL_sD]⟩
theorem fW (m : ZMem) (f : Nat) (s : UInt64) (q : Int64) : zD (zsL (zsD m 11 f s) 19 f q) 11 f = s ∧ zL (zsL (zsD m 11 f s) 19 f q) 19 f = q := ⟨by rw [zD_sL, zD_sD, if_pos ⟨rfl, rfl⟩], by rw [zL_sL, if_pos ⟨rfl, rfl⟩]⟩
theorem zB1_flow (m : ZMem) (f : Nat) (a : Int32) (b e : Option Nat) (out v : UInt64) (hr : Nat) : zB1 (q_flow m f a b e out v hr) m := (zSame_sL (XI := x0) (XL := xF) (XD := xS) (zsD m 11 f _) f _ rfl).tr (zSame_sD m f _ rfl)
theorem zB1_fA (w h i j hr : Nat) (v : UInt64) (k : Nat) (m : ZMem) : zB1 (q_fA w h i j hr v k m) m := by
  unfold q_fA
  split
  · exact zSame.rf _ _ _ _
  · exact zB1_flow _ _ _ _ _ _ _ _
theorem zB1_fS (w h i j hr : Nat) (v : UInt64) (k : Nat) (m : ZMem) : zB1 (q_fS w h i j hr v k m) m := by
  unfold q_fS
  split
  · exact zSame.rf _ _ _ _
  · exact zB1_flow _ _ _ _ _ _ _ _
theorem zB1_fI (w h j hr : Nat) (v : UInt64) (i : Nat) (m : ZMem) : zB1 (q_fI w h j hr v i m) m := (zSame_it (zB1_fS w h i j hr v) 4 _).tr (zSame_it (zB1_fA w h i j hr v) 2 m)
theorem zB1_fJ (w h hr : Nat) (v : UInt64) (j : Nat) (m : ZMem) : zB1 (q_fJ w h hr v j m) m := zSame_it (zB1_fI w h j hr v) w m
theorem zB1_fl0 (k : Nat) (m : ZMem) : zB1 (q_fl0 k m) m := zSame_sL m k 0 rfl
/-- the cell behind a face of an axis -/
def fNx (i j k : Nat) : Nat := if nI k = 0 then 12 * j + (i + 1) else 12 * (j + 1) + i
theorem fA_ne (w h i j hr : Nat) (v : UInt64) (k : Nat) (m : ZMem) {g : Nat} (hg : g ≠ 144 * k + (12 * j + i)) : fKeep (q_fA w h i j hr v k m) m g := by
  unfold q_fA
  split
  · exact fKeep.rf _ _
  · exact fKeep_w _ _ _ hg
def dA (ν m : ZMem) (w h hr : Nat) (v : UInt64) (i j k : Nat) : Prop := fDone ν m (144 * k + (12 * j + i)) (t_hasFace ν w h (nI i) (nI j) (nI k)) (f_s ν hr v (144 * k + (12 * j + i)) (nI k) (some (12 * j + i)) (some (fNx i j k)) 0) (f_q ν v (some (12 * j + i)) (some (fNx i j k)) (f_s ν hr v (144 * k + (12 * j + i)) (nI k) (some (12 * j + i)) (some (fNx i j k)) 0))
theorem fA_eq {ν m : ZMem} (hB : zB1 m ν) {w h i j hr : Nat} {v : UInt64} {k : Nat} (hi : fInit ν m (144 * k + (12 * j + i))) : dA ν (q_fA w h i j hr v k m) w h hr v i j k := by
  unfold dA q_fA
  rw [hB.face]
  by_cases e : t_hasFace ν w h (nI i) (nI j) (nI k) = 0
  · rw [if_pos e]
    exact ⟨fun q => absurd e q, fun _ => hi⟩
  · rw [if_neg e, q_flow_eq hB hi.1]
    exact ⟨fun _ => fW _ _ _ _, fun q => absurd q e⟩
def atP (w h i j k : Nat) : Prop := (k = 0 ∧ i = 0) ∨ (k = 1 ∧ i + 1 = w) ∨ (k = 2 ∧ j = 0) ∨ (k = 3 ∧ j + 1 = h)
theorem atP_iff {w h i j k : Nat} (hw1 : 1 ≤ w) (hw : w ≤ 12) (hh1 : 1 ≤ h) (hh : h ≤ 12) (hi : i < w) (hj : j < h) (hk : k < 4) : ¬ t_isAtSide w h (nI i) (nI j) (nI k) = 0 ↔ atP w h i j k := by
  unfold t_isAtSide atP
  have e0 := nI_eq (a := i) (b := 0) (by omega) (by omega)
  have e1 := nI_eq (a := j) (b := 0) (by omega) (by omega)
  have e2 := nI_eq (a := i) (b := w - 1) (by omega) (by omega)
  have e3 := nI_eq (a := j) (b := h - 1) (by omega) (by omega)
  have z0 : nI 0 = 0 := rfl
  rw [z0] at e0 e1
  rw [show nI w - 1 = nI (w - 1) from pk_sub (b := 1) hw1, show nI h - 1 = nI (h - 1) from pk_sub (b := 1) hh1]
  simp only [e0, e1, e2, e3]
  rcases (show k = 0 ∨ k = 1 ∨ k = 2 ∨ k = 3 by omega) with rfl | rfl | rfl | rfl
  · rw [if_pos (show nI 0 = 0 from rfl)]
    split <;> simp <;> omega
  · rw [if_neg (show ¬ nI 1 = 0 by decide), if_pos (show nI 1 = 1 from rfl)]
    split <;> simp <;> omega
  · rw [if_neg (show ¬ nI 2 = 0 by decide), if_neg (show ¬ nI 2 = 1 by decide), if_pos (show nI 2 = 2 from rfl)]
    split <;> simp <;> omega
  · rw [if_neg (show ¬ nI 3 = 0 by decide), if_neg (show ¬ nI 3 = 1 by decide), if_neg (show ¬ nI 3 = 2 by decide)]
    split <;> simp <;> omega
def fBe (k : Nat) (c : Nat) : Option Nat := if t_bhd k then none else some c
def fEn (k : Nat) (c : Nat) : Option Nat := if t_bhd k then some c else none
def dS (ν m : ZMem) (w h hr : Nat) (v : UInt64) (i j k : Nat) : Prop := fDone ν m (sfN i j k) (t_hasSide ν w h (nI i) (nI j) k) (f_s ν hr v (sfN i j k) (nI k / 2) (fBe k (12 * j + i)) (fEn k (12 * j + i)) (t_outside ν k)) (f_q ν v (fBe k (12 * j + i)) (fEn k (12 * j + i)) (f_s ν hr v (sfN i j k) (nI k / 2) (fBe k (12 * j + i)) (fEn k (12 * j + i)) (t_outside ν k)))
theorem fS_ne (w h i j hr : Nat) (v : UInt64) (k : Nat) (m : ZMem) {g : Nat} (hg : ¬ t_isAtSide w h (nI i) (nI j) (nI k) = 0 → g ≠ sfN i j k) : fKeep (q_fS w h i j hr v k m) m g := by
  unfold q_fS
  split
  · exact fKeep.rf _ _
  · rename_i e
    refine fKeep_w _ _ _ (hg fun q => e ?_)
    unfold t_hasSide
    rw [if_pos q]
    split <;> rfl
theorem fS_eq {ν m : ZMem} (hB : zB1 m ν) {w h i j hr : Nat} {v : UInt64} {k : Nat} (hi : fInit ν m (sfN i j k)) : dS ν (q_fS w h i j hr v k m) w h hr v i j k := by
  unfold dS q_fS
  rw [hB.side, hB.out]
  by_cases e : t_hasSide ν w h (nI i) (nI j) k = 0
  · rw [if_pos e]
    exact ⟨fun q => absurd e q, fun _ => hi⟩
  · rw [if_neg e, q_flow_eq hB hi.1]
    exact ⟨fun _ => fW _ _ _ _, fun q => absurd q e⟩
