/-! the class's faces carry -/
def CL (r k : Nat) : Prop := (cR r ∧ k = 2) ∨ ((30 ≤ r ∧ r < 34) ∧ k = 4)
def CD (r k : Nat) : Prop := cR r ∧ (k = 12 ∨ k = 13)
abbrev TV : Type := Int64 × UInt64 × UInt64
def w_of (k : UInt64) (W : Nat → UInt64) (x : Option Nat) : UInt64 := match x with
  | none => k
  | some a => W a
def x_fr (w h : Nat) (q : Int64) (n : Nat) : Option Nat := if q < 0 then fBeh w h n else fBef w h n
def x_to (w h : Nat) (q : Int64) (n : Nat) : Option Nat := if q < 0 then fBef w h n else fBeh w h n
def t_gain (P : Prop) [Decidable P] (a : Int64) (wo so : UInt64) (x : TV) : TV := if P then (x.1 + a, zadd x.2.1 (zmul (FP.l2d a) wo), zadd x.2.2 (zmul (FP.l2d a) so)) else x
def t_lose (P : Prop) [Decidable P] (a : Int64) (wc sc : UInt64) (x : TV) : TV := if P then (x.1 - a, zsub x.2.1 (zmul (FP.l2d a) wc), zsub x.2.2 (zmul (FP.l2d a) sc)) else x
def c_car (w h : Nat) (q : Nat → Int64) (W S : Nat → UInt64) (k n : Nat) (x : TV) : TV := if q n = 0 then x else t_lose (x_fr w h (q n) n = some (1000 + k)) (s_abs (q n)) (W (1000 + k)) (S (1000 + k)) (t_gain (x_to w h (q n) n = some (1000 + k)) (s_abs (q n)) (w_of k8 W (x_fr w h (q n) n)) (w_of k34 S (x_fr w h (q n) n)) x)
def x_in (w h : Nat) (q : Int64) (n : Nat) : Int64 := match x_fr w h q n with
  | none => s_abs q
  | some _ => -s_abs q
def c_cam (w h : Nat) (q : Nat → Int64) (s n : Nat) (x : Int64) : Int64 := if q n = 0 then x else if fSid w h n = some (30 + s) then x + x_in w h (q n) n else x
def tvw (m : ZMem) (c : Nat) : TV := (zL m c 2, zD m c 12, zD m c 13)
def o_gain (M : ZMem) (x : Option Nat) (a : Int64) (wo so : UInt64) : ZMem := match x with
  | none => M
  | some t => u_gain M t a wo so
def o_lose (M : ZMem) (x : Option Nat) (a : Int64) : ZMem := match x with
  | none => M
  | some t => u_lose M t a
def o_add (M : ZMem) (x : Option Nat) (a : Int64) : ZMem := match x with
  | none => M
  | some s => zsL M s 4 (zL M s 4 + a)
theorem gain_pt (M : ZMem) (x : Option Nat) (a : Int64) (wo so : UInt64) (hx : ∀ c, x = some c → cR c) : cS CL CD (o_gain M x a wo so) M ∧ (∀ c, tvw (o_gain M x a wo so) c = t_gain (x = some c) a wo so (tvw M c)) ∧ ∀ r, r < 100 → zL (o_gain M x a wo so) r = zL M r := by
  cases x with
  | none => exact ⟨cS.rf _ _ _, fun c => by unfold t_gain; rw [if_neg (by simp)]; rfl, fun _ _ => rfl⟩
  | some t =>
    have ht := hx t rfl
    show cS CL CD (u_gain M t a wo so) M ∧ (∀ c, tvw (u_gain M t a wo so) c = _) ∧ ∀ r, r < 100 → zL (u_gain M t a wo so) r = zL M r
    unfold u_gain t_gain tvw
    refine ⟨(cS_sD _ _ ⟨ht, Or.inr rfl⟩).tr ((cS_sD _ _ ⟨ht, Or.inl rfl⟩).tr (cS_sL _ _ (Or.inl ⟨ht, rfl⟩))), fun c => ?_, fun r hr => ?_⟩
    · by_cases e : t = c
      · subst e
        rw [if_pos rfl]
        rw [zL_sD, zL_sD, zL_sL, if_pos ⟨rfl, rfl⟩, zD_sD, if_neg (by omega), zD_sD, if_pos ⟨rfl, rfl⟩, zD_sD, if_pos ⟨rfl, rfl⟩]
      · rw [if_neg (fun q => e (Option.some.inj q))]
        rw [zL_sD, zL_sD, zL_sL, if_neg (fun q => e q.1.symm), zD_sD, if_neg (fun q => e q.1.symm), zD_sD, if_neg (fun q => e q.1.symm), zD_sL, zD_sD, if_neg (fun q => e q.1.symm), zD_sD, if_neg (fun q => e q.1.symm), zD_sL]
    · show zL (zsL M t 2 (zL M t 2 + a)) r = zL M r
      exact zLr _ _ _ (by have := ht.1; omega)
theorem lose_pt (M : ZMem) (x : Option Nat) (a : Int64) (hx : ∀ c, x = some c → cR c) : cS CL CD (o_lose M x a) M ∧ (∀ c, tvw (o_lose M x a) c = t_lose (x = some c) a (zD M c 3) (zD M c 4) (tvw M c)) ∧ ∀ r, r < 100 → zL (o_lose M x a) r = zL M r := by
  cases x with
  | none => exact ⟨cS.rf _ _ _, fun c => by unfold t_lose; rw [if_neg (by simp)]; rfl, fun _ _ => rfl⟩
  | some t =>
    have ht := hx t rfl
    show cS CL CD (u_lose M t a) M ∧ (∀ c, tvw (u_lose M t a) c = _) ∧ ∀ r, r < 100 → zL (u_lose M t a) r = zL M r
    unfold u_lose t_lose tvw
    refine ⟨(cS_sD _ _ ⟨ht, Or.inr rfl⟩).tr ((cS_sD _ _ ⟨ht, Or.inl rfl⟩).tr (cS_sL _ _ (Or.inl ⟨ht, rfl⟩))), fun c => ?_, fun r hr => ?_⟩
    · by_cases e : t = c
      · subst e
        rw [if_pos rfl]
        rw [zL_sD, zL_sD, zL_sL, if_pos ⟨rfl, rfl⟩, zD_sD, if_neg (by omega), zD_sD, if_pos ⟨rfl, rfl⟩, zD_sD, if_pos ⟨rfl, rfl⟩]
      · rw [if_neg (fun q => e (Option.some.inj q))]
        rw [zL_sD, zL_sD, zL_sL, if_neg (fun q => e q.1.symm), zD_sD, if_neg (fun q => e q.1.symm), zD_sD, if_neg (fun q => e q.1.symm), zD_sL, zD_sD, if_neg (fun q => e q.1.symm), zD_sD, if_neg (fun q => e q.1.symm), zD_sL]
    · show zL (zsL M t 2 (zL M t 2 - a)) r = zL M r
      exact zLr _ _ _ (by have := ht.1; omega)
theorem carry_pt {γ M : ZMem} (hM : cS CL CD M γ) {w h n : Nat} {q : Int64} (hn : n ≤ 500) (eq : zL γ (2000 + n) 5 = q) (e0 : zR γ (2000 + n) 0 = fBef w h n) (e1 : zR γ (2000 + n) 1 = fBeh w h n) (e2 : zR γ (2000 + n) 2 = fSid w h n) (hx : ∀ c, fBef w h n = some c → cR c) (hy : ∀ c, fBeh w h n = some c → cR c) (hs : ∀ s, fSid w h n = some s → 30 ≤ s ∧ s < 34) : cS CL CD (u_carry M (2000 + n)) M ∧ (∀ c, tvw (u_carry M (2000 + n)) c = if q = 0 then tvw M c else t_lose (x_fr w h q n = some c) (s_abs q) (zD γ c 3) (zD γ c 4) (t_gain (x_to w h q n = some c) (s_abs q) (w_of k8 (fun r => zD γ r 3) (x_fr w h q n)) (w_of k34 (fun r => zD γ r 4) (x_fr w h q n)) (tvw M c))) ∧ ∀ s, s < 4 → zL (u_carry M (2000 + n)) (30 + s) 4 = if q = 0 then zL M (30 + s) 4 else if fSid w h n = some (30 + s) then zL M (30 + s) 4 + x_in w h q n else zL M (30 + s) 4 := by
  have eqM : zL M (2000 + n) 5 = q := (hM.2.2.1 _ _ (fun x => x.elim (fun y => by have := y.2; omega) (fun y => by have := y.2; omega))).trans eq
  have e3 : ∀ r, zD M r 3 = zD γ r 3 := fun r => hM.2.2.2 _ _ (fun x => x.2.elim (fun y => by omega) (fun y => by omega))
  have e4 : ∀ r, zD M r 4 = zD γ r 4 := fun r => hM.2.2.2 _ _ (fun x => x.2.elim (fun y => by omega) (fun y => by omega))
  have hu : u_carry M (2000 + n) = if q = 0 then M else o_add (o_lose (o_gain M (x_to w h q n) (s_abs q) (w_of k8 (fun r => zD γ r 3) (x_fr w h q n)) (w_of k34 (fun r => zD γ r 4) (x_fr w h q n))) (x_fr w h q n) (s_abs q)) (fSid w h n) (x_in w h q n) := by
    have f1 : s_from M (2000 + n) = x_fr w h q n := by unfold s_from x_fr; rw [eqM, hM.1, e0, e1]
    have f2 : s_to M (2000 + n) = x_to w h q n := by unfold s_to x_to; rw [eqM, hM.1, e0, e1]
    have f3 : zR M (2000 + n) 2 = fSid w h n := by rw [hM.1, e2]
    unfold u_carry x_in
    rw [eqM, f1, f2, f3]
    by_cases g : q = 0
    · rw [if_pos g, if_pos g]
    · rw [if_neg g, if_neg g]
      cases x_fr w h q n with
      | none => cases x_to w h q n <;> cases fSid w h n <;> rfl
      | some a =>
        show _ = o_add (o_lose (o_gain M (x_to w h q n) (s_abs q) (zD γ a 3) (zD γ a 4)) (some a) (s_abs q)) (fSid w h n) (-s_abs q)
        rw [← e3 a, ← e4 a]
        cases x_to w h q n <;> cases fSid w h n <;> rfl
  rw [hu]
  by_cases g : q = 0
  · rw [if_pos g]
    exact ⟨cS.rf _ _ _, fun c => by rw [if_pos g], fun s _ => by rw [if_pos g]⟩
  · rw [if_neg g]
    have hf : ∀ c, x_fr w h q n = some c → cR c := fun c => by
      unfold x_fr
      split
      · exact hy c
      · exact hx c
    have ht : ∀ c, x_to w h q n = some c → cR c := fun c => by
      unfold x_to
      split
      · exact hx c
      · exact hy c
    obtain ⟨a1, a2, a3⟩ := gain_pt M (x_to w h q n) (s_abs q) (w_of k8 (fun r => zD γ r 3) (x_fr w h q n)) (w_of k34 (fun r => zD γ r 4) (x_fr w h q n)) ht
    have a5 : ∀ r, zD (o_gain M (x_to w h q n) (s_abs q) (w_of k8 (fun r => zD γ r 3) (x_fr w h q n)) (w_of k34 (fun r => zD γ r 4) (x_fr w h q n))) r 3 = zD γ r 3 := fun r => (a1.2.2.2 _ _ (fun x => x.2.elim (fun y => by omega) (fun y => by omega))).trans (e3 r)
    have a6 : ∀ r, zD (o_gain M (x_to w h q n) (s_abs q) (w_of k8 (fun r => zD γ r 3) (x_fr w h q n)) (w_of k34 (fun r => zD γ r 4) (x_fr w h q n))) r 4 = zD γ r 4 := fun r => (a1.2.2.2 _ _ (fun x => x.2.elim (fun y => by omega) (fun y => by omega))).trans (e4 r)
    generalize o_gain M (x_to w h q n) (s_abs q) (w_of k8 (fun r => zD γ r 3) (x_fr w h q n)) (w_of k34 (fun r => zD γ r 4) (x_fr w h q n)) = X at *
    obtain ⟨b1, b2, b3⟩ := lose_pt X (x_fr w h q n) (s_abs q) hf
    generalize o_lose X (x_fr w h q n) (s_abs q) = Y at *
    have cv : ∀ c, tvw Y c = t_lose (x_fr w h q n = some c) (s_abs q) (zD γ c 3) (zD γ c 4) (t_gain (x_to w h q n = some c) (s_abs q) (w_of k8 (fun r => zD γ r 3) (x_fr w h q n)) (w_of k34 (fun r => zD γ r 4) (x_fr w h q n)) (tvw M c)) := fun c => by
      rw [b2, a2, a5, a6]
    have sv : ∀ s, s < 4 → zL Y (30 + s) 4 = zL M (30 + s) 4 := fun s hs' => by
      rw [b3 _ (by omega), a3 _ (by omega)]
    cases hsd : fSid w h n with
    | none =>
      refine ⟨b1.tr a1, fun c => ?_, fun s hs' => ?_⟩
      · rw [if_neg g]
        exact cv c
      · rw [if_neg g, if_neg (by simp)]
        exact sv s hs'
    | some t =>
      have htt := hs t hsd
      refine ⟨(cS_sL _ _ (Or.inr ⟨htt, rfl⟩)).tr (b1.tr a1), fun c => ?_, fun s hs' => ?_⟩
      · rw [if_neg g, ← cv c]
        show (zL (zsL Y t 4 (zL Y t 4 + x_in w h q n)) c 2, zD Y c 12, zD Y c 13) = (zL Y c 2, zD Y c 12, zD Y c 13)
        rw [zL_sL, if_neg (by omega)]
      · rw [if_neg g]
        show zL (zsL Y t 4 (zL Y t 4 + x_in w h q n)) (30 + s) 4 = _
        rw [zL_sL]
        by_cases e : t = 30 + s
        · subst e
          rw [if_pos ⟨rfl, rfl⟩, if_pos rfl, sv s hs']
        · rw [if_neg (fun q => e q.1.symm), if_neg (fun q => e (Option.some.inj q)), sv s hs']
theorem fSS {w h n s : Nat} (e : fSid w h n = some s) : 30 ≤ s ∧ s < 34 := by
  unfold fSid at e
  split at e
  · exact absurd e (by simp)
  · split at e
    · have := Option.some.inj e
      omega
    · split at e
      · have := Option.some.inj e
        omega
      · split at e
        · have := Option.some.inj e
          omega
        · have := Option.some.inj e
          omega
theorem cC_pt {γ : ZMem} {w h : Nat} (hd : zDim w h) (hF : fcA w h ≤ 400) (hR : fRf w h γ) : ∀ n, n ≤ fcA w h → cS CL CD (zit u_sC n γ) γ ∧ (∀ k, k < 144 → tvw (zit u_sC n γ) (1000 + k) = zit (c_car w h (fun n => zL γ (2000 + n) 5) (fun r => zD γ r 3) (fun r => zD γ r 4) k) n (tvw γ (1000 + k))) ∧ ∀ s, s < 4 → zL (zit u_sC n γ) (30 + s) 4 = zit (c_cam w h (fun n => zL γ (2000 + n) 5) s) n (zL γ (30 + s) 4) := by
  intro n
  induction n with
  | zero => exact fun _ => ⟨cS.rf _ _ _, fun _ _ => rfl, fun _ _ => rfl⟩
  | succ n ih =>
    intro hn
    obtain ⟨a1, a2, a3⟩ := ih (by omega)
    have h144 : w * h ≤ 12 * 12 := Nat.mul_le_mul hd.2.1 hd.2.2.2
    obtain ⟨r0, r1, r2⟩ := hR n (by omega)
    have hx : ∀ c, fBef w h n = some c → cR c := fun c e => by
      obtain ⟨k, hk, rfl⟩ := (fBB hd (by omega)).1 e
      exact ⟨by omega, by omega⟩
    have hy : ∀ c, fBeh w h n = some c → cR c := fun c e => by
      obtain ⟨k, hk, rfl⟩ := (fBB hd (by omega)).2 e
      exact ⟨by omega, by omega⟩
    obtain ⟨b1, b2, b3⟩ := carry_pt a1 (w := w) (h := h) (n := n) (by omega) rfl r0 r1 r2 hx hy (fun s e => fSS e)
    refine ⟨b1.tr a1, fun k hk => ?_, fun s hs => ?_⟩
    · show tvw (u_carry (zit u_sC n γ) (2000 + n)) (1000 + k) = c_car w h _ _ _ k n (zit (c_car w h _ _ _ k) n (tvw γ (1000 + k)))
      rw [b2, a2 k hk]
      rfl
    · show zL (u_carry (zit u_sC n γ) (2000 + n)) (30 + s) 4 = c_cam w h _ s n (zit (c_cam w h _ s) n (zL γ (30 + s) 4))
      rw [b3 s hs, a3 s hs]
      rfl
