/-! what stays -/
def agr (D : Nat → Nat → Prop) (a b : ZMem) : Prop := ∀ r k, D r k → zI a r k = zI b r k ∧ zL a r k = zL b r k ∧ zD a r k = zD b r k ∧ zR a r k = zR b r k
theorem agr.rf (D : Nat → Nat → Prop) (a : ZMem) : agr D a a := fun _ _ _ => ⟨rfl, rfl, rfl, rfl⟩
theorem agr.tr {D : Nat → Nat → Prop} {a b c : ZMem} (h1 : agr D a b) (h2 : agr D b c) : agr D a c := fun r k h => ⟨(h1 r k h).1.trans (h2 r k h).1, (h1 r k h).2.1.trans (h2 r k h).2.1, (h1 r k h).2.2.1.trans (h2 r k h).2.2.1, (h1 r k h).2.2.2.trans (h2 r k h).2.2.2⟩
theorem agr.sy {D : Nat → Nat → Prop} {a b : ZMem} (h1 : agr D a b) : agr D b a := fun r k h => ⟨(h1 r k h).1.symm, (h1 r k h).2.1.symm, (h1 r k h).2.2.1.symm, (h1 r k h).2.2.2.symm⟩
theorem agr.mo {D E : Nat → Nat → Prop} {a b : ZMem} (h1 : agr D a b) (h : ∀ r k, E r k → D r k) : agr E a b := fun r k e => h1 r k (h r k e)
theorem agr.i {D : Nat → Nat → Prop} {a b : ZMem} (h : agr D a b) {r k : Nat} (d : D r k) : zI a r k = zI b r k := (h r k d).1
theorem agr.l {D : Nat → Nat → Prop} {a b : ZMem} (h : agr D a b) {r k : Nat} (d : D r k) : zL a r k = zL b r k := (h r k d).2.1
theorem agr.d {D : Nat → Nat → Prop} {a b : ZMem} (h : agr D a b) {r k : Nat} (d : D r k) : zD a r k = zD b r k := (h r k d).2.2.1
theorem agr.r {D : Nat → Nat → Prop} {a b : ZMem} (h : agr D a b) {r k : Nat} (d : D r k) : zR a r k = zR b r k := (h r k d).2.2.2
theorem agr_sI {D : Nat → Nat → Prop} (m : ZMem) {r k : Nat} (v : Int32) (h : ¬ D r k) : agr D (zsI m r k v) m := fun a b d => ⟨by rw [zI_sI, if_neg (fun e => h (by rw [← e.1, ← e.2]; exact d))], rfl, rfl, rfl⟩
theorem agr_sL {D : Nat → Nat → Prop} (m : ZMem) {r k : Nat} (v : Int64) (h : ¬ D r k) : agr D (zsL m r k v) m := fun a b d => ⟨rfl, by rw [zL_sL, if_neg (fun e => h (by rw [← e.1, ← e.2]; exact d))], rfl, rfl⟩
theorem agr_sD {D : Nat → Nat → Prop} (m : ZMem) {r k : Nat} (v : UInt64) (h : ¬ D r k) : agr D (zsD m r k v) m := fun a b d => ⟨rfl, rfl, by rw [zD_sD, if_neg (fun e => h (by rw [← e.1, ← e.2]; exact d))], rfl⟩
theorem agr_sR {D : Nat → Nat → Prop} (m : ZMem) {r k : Nat} (v : Option Nat) (h : ¬ D r k) : agr D (zsR m r k v) m := fun a b d => ⟨rfl, rfl, rfl, by rw [zR_sR, if_neg (fun e => h (by rw [← e.1, ← e.2]; exact d))]⟩
theorem agr_it {D : Nat → Nat → Prop} {f : Nat → ZMem → ZMem} (n : Nat) (h : ∀ k s, k < n → agr D (f k s) s) (s : ZMem) : agr D (zit f n s) s := zit_in (J := fun x => agr D x s) n (fun k x hk q => (h k x hk).tr q) (agr.rf D s)
theorem agr_cS {XL XD D : Nat → Nat → Prop} {a b : ZMem} (h : cS XL XD a b) (hL : ∀ r k, D r k → ¬ XL r k) (hD : ∀ r k, D r k → ¬ XD r k) : agr D a b := fun r k d => ⟨by rw [h.2.1], h.2.2.1 r k (hL r k d), h.2.2.2 r k (hD r k d), by rw [h.1]⟩
/-! where each part of the relation looks: the class's places, the model's -/
def dCell (r k : Nat) : Prop := cR r ∧ k ≤ 6
def dCellM (r _k : Nat) : Prop := 4 ≤ r ∧ r ≤ 10
def dSpd (r k : Nat) : Prop := fR r ∧ k = 4
def dSpdM (r _k : Nat) : Prop := r = 11
def dSide (r k : Nat) : Prop := (30 ≤ r ∧ r < 34 ∧ (k = 2 ∨ k = 4)) ∨ (40 ≤ r ∧ r < 44) ∨ (50 ≤ r ∧ r < 54)
def dSideM (r _k : Nat) : Prop := r = 12 ∨ r = 23 ∨ r = 24 ∨ r = 25
def dWind (r _k : Nat) : Prop := r = 4 ∨ r = 5
def dWindM (r _k : Nat) : Prop := r = 26 ∨ r = 27
def dTime (r k : Nat) : Prop := r = 0 ∧ 14 ≤ k ∧ k ≤ 16
def dTimeM (r k : Nat) : Prop := r = 0 ∧ 12 ≤ k ∧ k ≤ 14
def dNum (r k : Nat) : Prop := (4 ≤ r ∧ r ≤ 11) ∨ (23 ≤ r ∧ r ≤ 27) ∨ (r = 0 ∧ k = 13)
theorem rCells.mo {w h : Nat} {μ μ' m m' : ZMem} (hd : zDim w h) (a : agr dCell μ' μ) (b : agr dCellM m' m) (H : rCells w h μ m) : rCells w h μ' m' := fun j hj i hi => by
  have R := H j hj i hi
  have g := glt hi hj
  have h144 : w * h ≤ 12 * 12 := Nat.mul_le_mul hd.2.1 hd.2.2.2
  have c : ∀ k, k ≤ 6 → dCell (1000 + (j * w + i)) k := fun k hk => ⟨⟨by omega, by omega⟩, hk⟩
  have e : ∀ r k, 4 ≤ r → r ≤ 10 → dCellM r k := fun r k h1 h2 => ⟨h1, h2⟩
  unfold rCell at R ⊢
  rw [a.i (c 0 (by omega)), a.d (c 1 (by omega)), a.l (c 2 (by omega)), a.d (c 3 (by omega)), a.d (c 4 (by omega)), a.d (c 5 (by omega)), a.d (c 6 (by omega)), b.i (e 4 _ (by omega) (by omega)), b.d (e 5 _ (by omega) (by omega)), b.l (e 7 _ (by omega) (by omega)), b.d (e 8 _ (by omega) (by omega)), b.d (e 9 _ (by omega) (by omega)), b.d (e 10 _ (by omega) (by omega)), b.d (e 6 _ (by omega) (by omega))]
  exact R
theorem rSpd.mo {w h : Nat} {μ μ' m m' : ZMem} (hd : zDim w h) (hF : fcA w h ≤ 400) (a : agr dSpd μ' μ) (b : agr dSpdM m' m) (H : rSpd w h μ m) : rSpd w h μ' m' := by
  have c : ∀ n, n < fcA w h → dSpd (2000 + n) 4 := fun n hn => ⟨⟨by omega, by omega⟩, rfl⟩
  have l := fc0_1 hd
  obtain ⟨h1, h2, h3⟩ := H
  refine ⟨fun i j hi hj => ?_, fun i j hi hj => ?_, fun s t hs ht => ?_⟩
  · rw [a.d (c _ (by have := nA0_lt hi hj; omega)), b.d rfl]
    exact h1 i j hi hj
  · rw [a.d (c _ (by have := nA1_lt (w := w) (h := h) hi hj; omega)), b.d rfl]
    exact h2 i j hi hj
  · rw [a.d (c _ (nSd_lt hs ht).2), b.d rfl]
    exact h3 s t hs ht
theorem rSide.mo {μ μ' m m' : ZMem} (a : agr dSide μ' μ) (b : agr dSideM m' m) (H : rSide μ m) : rSide μ' m' := fun s hs => by
  obtain ⟨h1, h2, h3⟩ := H s hs
  have e : ∀ k, zI m' 23 k = zI m 23 k := fun k => b.i (Or.inr (Or.inl rfl))
  rw [a.l (Or.inl ⟨by omega, by omega, Or.inr rfl⟩), a.i (Or.inl ⟨by omega, by omega, Or.inl rfl⟩), b.l (Or.inl rfl)]
  refine ⟨h1, ?_, fun k hk => ?_⟩
  · simp only [e]
    exact h2
  · rw [e, a.d (Or.inr (Or.inl ⟨by omega, by omega⟩)), a.d (r := 50 + s) (Or.inr (Or.inr ⟨by omega, by omega⟩)), b.d (r := 24) (Or.inr (Or.inr (Or.inl rfl))), b.d (r := 25) (Or.inr (Or.inr (Or.inr rfl)))]
    exact h3 k hk
theorem rWind.mo {μ μ' m m' : ZMem} (a : agr dWind μ' μ) (b : agr dWindM m' m) (H : rWind μ m) : rWind μ' m' := fun k hk => by
  rw [a.d (Or.inl rfl), a.d (Or.inr rfl), b.d (Or.inl rfl), b.d (Or.inr rfl)]
  exact H k hk
theorem rTime.mo {μ μ' m m' : ZMem} (a : agr dTime μ' μ) (b : agr dTimeM m' m) (H : rTime μ m) : rTime μ' m' := by
  unfold rTime
  rw [a.d ⟨rfl, by omega, by omega⟩, a.l ⟨rfl, by omega, by omega⟩, a.l ⟨rfl, by omega, by omega⟩, b.d ⟨rfl, by omega, by omega⟩, b.l ⟨rfl, by omega, by omega⟩, b.l ⟨rfl, by omega, by omega⟩]
  exact H
theorem NI.mo {n w h : Nat} {m m' : ZMem} (b : agr dNum m' m) (H : NI n w h m) : NI n w h m' := by
  obtain ⟨h1, h2, h3, h4, h5, h6, h7⟩ := H
  have e : ∀ r k, (4 ≤ r ∧ r ≤ 11) ∨ (23 ≤ r ∧ r ≤ 27) → dNum r k := fun r k q => q.elim (fun x => Or.inl x) (fun x => Or.inr (Or.inl x))
  have eI : ∀ r k, (4 ≤ r ∧ r ≤ 11) ∨ (23 ≤ r ∧ r ≤ 27) → zI m' r k = zI m r k := fun r k q => b.i (e r k q)
  have eL : ∀ r k, (4 ≤ r ∧ r ≤ 11) ∨ (23 ≤ r ∧ r ≤ 27) → zL m' r k = zL m r k := fun r k q => b.l (e r k q)
  have eD : ∀ r k, (4 ≤ r ∧ r ≤ 11) ∨ (23 ≤ r ∧ r ≤ 27) → zD m' r k = zD m r k := fun r k q => b.d (e r k q)
  refine ⟨fun j hj i hi => ?_, ?_, fun j hj i hi => ?_, fun k hk => ?_, fun j hj i hi => ?_, fun k hk => ?_, ?_⟩
  · unfold wtr
    rw [eL 7 _ (by omega), eI 4 _ (by omega), eD 8 _ (by omega), eD 9 _ (by omega), eD 6 _ (by omega)]
    exact h1 j hj i hi
  · have : zTt w h m' = zTt w h m := zs2_cg (fun j _ i _ => by rw [eL 7 _ (by omega)])
    rw [this]
    exact h2
  · rw [eD 5 _ (by omega)]
    exact h3 j hj i hi
  · rw [eD 26 _ (by omega), eD 27 _ (by omega)]
    exact h4 k hk
  · simp only [eD 11 _ (by omega)]
    exact h5 j hj i hi
  · have := h6 k hk
    unfold zWv at this ⊢
    simp only [eI 23 _ (by omega), eD 24 _ (by omega), eD 25 _ (by omega)]
    exact this
  · rw [b.d (Or.inr (Or.inr ⟨rfl, rfl⟩))]
    exact h7
theorem NI.up {n n' w h : Nat} {m : ZMem} (hn : n ≤ n') (H : NI n w h m) : NI n' w h m := by
  obtain ⟨h1, h2, h3, h4, h5, h6, h7⟩ := H
  have hU := zU_pos
  have sp : ∀ x, zSp n x → zSp n' x := fun x q => by
    obtain ⟨a, b, c⟩ := q
    have : ((n : Int) * 2 ^ 59) * zU ≤ ((n' : Int) * 2 ^ 59) * zU := Int.mul_le_mul_of_nonneg_right (by omega) (by omega)
    exact ⟨a, by omega, by omega⟩
  refine ⟨fun j hj i hi => ?_, ?_, h3, h4, fun j hj i hi => ⟨fun k hk => sp _ ((h5 j hj i hi).1 k hk), fun k hk ha => ⟨sp _ ((h5 j hj i hi).2 k hk ha).1, ((h5 j hj i hi).2 k hk ha).2⟩⟩, h6, ?_⟩
  · obtain ⟨a, b, c, d, e⟩ := h1 j hj i hi
    exact ⟨a, b, c.mo hn, d.mo hn, e⟩
  · omega
  · obtain ⟨a, b, c⟩ := h7
    have : ((600 * n : Nat) : Int) * zU ≤ ((600 * n' : Nat) : Int) * zU := Int.mul_le_mul_of_nonneg_right (by omega) (by omega)
    exact ⟨a, b, by omega⟩
