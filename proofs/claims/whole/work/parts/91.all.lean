/-! the whole relation: nests, gauges, fits, kept states -/
def rNest (w h : Nat) (μ m : ZMem) : Prop := ∃ T, T ≤ 10 ∧ zI μ 0 11 = nI T ∧ zI m 0 27 = nI T ∧ (∀ i, T ≤ i → i < 10 → zR μ (60 + i) 1 = none ∧ ∀ k, k < 8 → zL μ (70 + i) k = 0) ∧ (∀ i, i < T → (zI m 31 i = 0 ↔ zR μ (60 + i) 1 = none)) ∧ (∀ i, i < 10 → ∀ c, zR μ (60 + i) 1 = some c → ∃ a b, a < w ∧ b < h ∧ c = 1000 + (b * w + a) ∧ zR μ c 7 = some (60 + i) ∧ zI m 29 i = nI (12 * b + a) ∧ 1 ≤ s_cnt μ (60 + i) ∧ s_cnt μ (60 + i) ≤ 8 ∧ s_sumS μ (70 + i) (s_cnt μ (60 + i)) = zL μ c 2) ∧ ∀ a b, a < w → b < h → (zI m 30 (12 * b + a) = 0 ↔ zR μ (1000 + (b * w + a)) 7 = none) ∧ ∀ n, zR μ (1000 + (b * w + a)) 7 = some n → ∃ i, i < T ∧ n = 60 + i ∧ zR μ n 1 = some (1000 + (b * w + a))
def dNest (r k : Nat) : Prop := (60 ≤ r ∧ r < 80) ∨ (cR r ∧ (k = 2 ∨ k = 7)) ∨ (r = 0 ∧ k = 11)
def dNestM (r _k : Nat) : Prop := 29 ≤ r ∧ r ≤ 31
def rGauge (w h : Nat) (μ m : ZMem) : Prop := ∃ T, T ≤ 40 ∧ zI μ 8 7 = nI T ∧ zI m 0 31 = nI T ∧ (∀ g, g < T → zD μ 9 g = zD m 34 g ∧ zD μ 10 g = zD m 35 g) ∧ ∀ a b, a < w → b < h → (zI μ (1000 + (b * w + a)) 8 = 0 → ∀ g, g < T → ¬ zI m 33 g = nI (12 * b + a)) ∧ (¬ zI μ (1000 + (b * w + a)) 8 = 0 → ∃ g, g < T ∧ zI m 33 g = nI (12 * b + a) ∧ zD μ (1000 + (b * w + a)) 9 = zD m 35 g ∧ ∀ g', g < g' → g' < T → ¬ zI m 33 g' = nI (12 * b + a))
def dGauge (r k : Nat) : Prop := (r = 8 ∧ k = 7) ∨ r = 9 ∨ r = 10 ∨ (cR r ∧ (k = 8 ∨ k = 9))
def dGaugeM (r _k : Nat) : Prop := r = 33 ∨ r = 34 ∨ r = 35
def rFit (μ m : ZMem) : Prop := ∃ C, (C = 0 ∨ C = 1 ∨ C = 3 ∨ C = 5) ∧ zI μ 8 8 = nI C ∧ zI m 0 38 = nI C ∧ ∀ k, k < C → zD μ 20 k = zD m 38 k
def dFit (r k : Nat) : Prop := (r = 8 ∧ k = 8) ∨ r = 20
def dFitM (r _k : Nat) : Prop := r = 38
/-- all that steps change, of the class and of the model -/
def dRel (n w h : Nat) (cV : Nat → Int64) (cW cS cM cF : Nat → UInt64) (cO : Nat → Int64) (cQ : Int64) (cT : UInt64) (mV : Nat → Int64) (mW mS mM mF : Nat → UInt64) (mO : Nat → Int64) (mQ : Int64) (mT : UInt64) : Prop :=
  (∀ j, j < h → ∀ i, i < w → cV (j * w + i) = mV (12 * j + i) ∧ zq (cW (j * w + i)) (mW (12 * j + i)) ∧ zq (cS (j * w + i)) (mS (12 * j + i)) ∧ zq (cM (j * w + i)) (mM (12 * j + i)) ∧ 0 ≤ (mV (12 * j + i)).toInt ∧ zBw n (mW (12 * j + i)) ∧ zBw n (mS (12 * j + i))) ∧
  zs2 (fun i j => (mV (12 * j + i)).toInt) w h ≤ (n : Int) * 2 ^ 44 ∧
  ((∀ i j, i + 1 < w → j < h → zq (cF (nA0 w i j)) (mF (12 * j + i))) ∧ (∀ i j, i < w → j + 1 < h → zq (cF (nA1 w h i j)) (mF (144 + (12 * j + i)))) ∧ ∀ s t, s < 4 → t < (if s < 2 then h else w) → zq (cF (nSd4 w h s t)) (mF (288 + 12 * s + t))) ∧
  (∀ j, j < h → ∀ i, i < w → (∀ k, k < 2 → zSp n (mF (144 * k + (12 * j + i)))) ∧ ∀ k, k < 4 → atP w h i j k → zSp n (mF (sfN i j k)) ∧ nSd k (mF (sfN i j k))) ∧
  (∀ s, s < 4 → cO s = mO s) ∧ cQ = mQ ∧ cT = mT ∧ zTn n mT
theorem dRel_cg {n w h : Nat} (hd : zDim w h) {cV cV' : Nat → Int64} {cW cS cM cF cW' cS' cM' cF' : Nat → UInt64} {cO cO' : Nat → Int64} {cQ cQ' : Int64} {cT cT' : UInt64} {mV mV' : Nat → Int64} {mW mS mM mF mW' mS' mM' mF' : Nat → UInt64} {mO mO' : Nat → Int64} {mQ mQ' : Int64} {mT mT' : UInt64}
    (a : ∀ k, k < w * h → cV' k = cV k ∧ cW' k = cW k ∧ cS' k = cS k ∧ cM' k = cM k) (b : ∀ k, k < fcA w h → cF' k = cF k) (c : ∀ s, s < 4 → cO' s = cO s ∧ mO' s = mO s) (d : cQ' = cQ ∧ cT' = cT ∧ mQ' = mQ ∧ mT' = mT) (e : ∀ k, k < 144 → mV' k = mV k ∧ mW' k = mW k ∧ mS' k = mS k ∧ mM' k = mM k) (f : ∀ k, k < 336 → mF' k = mF k)
    (H : dRel n w h cV cW cS cM cF cO cQ cT mV mW mS mM mF mO mQ mT) : dRel n w h cV' cW' cS' cM' cF' cO' cQ' cT' mV' mW' mS' mM' mF' mO' mQ' mT' := by
  obtain ⟨h1, h2, ⟨h3, h4, h5⟩, h6, h7, h8, h9, h10⟩ := H
  have l := fc0_1 hd
  obtain ⟨d1, d2, d3, d4⟩ := id hd
  refine ⟨fun j hj i hi => ?_, ?_, ⟨fun i j hi hj => ?_, fun i j hi hj => ?_, fun s t hs ht => ?_⟩, fun j hj i hi => ⟨fun k hk => ?_, fun k hk ha => ?_⟩, fun s hs => ?_, ?_, ?_, ?_⟩
  · obtain ⟨a1, a2, a3, a4⟩ := a (j * w + i) (glt hi hj)
    obtain ⟨e1, e2, e3, e4⟩ := e (12 * j + i) (by omega)
    rw [a1, a2, a3, a4, e1, e2, e3, e4]
    exact h1 j hj i hi
  · rw [zs2_cg (g := fun i j => (mV (12 * j + i)).toInt) (fun j hj i hi => by rw [(e (12 * j + i) (by omega)).1])]
    exact h2
  · rw [b _ (by have := nA0_lt hi hj; omega), f _ (by omega)]
    exact h3 i j hi hj
  · rw [b _ (by have := nA1_lt (w := w) (h := h) hi hj; omega), f _ (by omega)]
    exact h4 i j hi hj
  · rw [b _ (nSd_lt hs ht).2, f _ (by split at ht <;> omega)]
    exact h5 s t hs ht
  · rw [f _ (by omega)]
    exact (h6 j hj i hi).1 k hk
  · rw [f _ (sfN_lt (by omega) (by omega) hk)]
    exact (h6 j hj i hi).2 k hk ha
  · rw [(c s hs).1, (c s hs).2]
    exact h7 s hs
  · rw [d.1, d.2.2.1]
    exact h8
  · rw [d.2.1, d.2.2.2]
    exact h9
  · rw [d.2.2.2]
    exact h10
theorem zSp.up {n n' : Nat} (hn : n ≤ n') {x : UInt64} (q : zSp n x) : zSp n' x := by
  obtain ⟨a, b, c⟩ := q
  have hU := zU_pos
  have : ((n : Int) * 2 ^ 59) * zU ≤ ((n' : Int) * 2 ^ 59) * zU := Int.mul_le_mul_of_nonneg_right (by omega) (by omega)
  exact ⟨a, by omega, by omega⟩
theorem zTn.up {n n' : Nat} (hn : n ≤ n') {x : UInt64} (q : zTn n x) : zTn n' x := by
  obtain ⟨a, b, c⟩ := q
  have hU := zU_pos
  have : ((600 * n : Nat) : Int) * zU ≤ ((600 * n' : Nat) : Int) * zU := Int.mul_le_mul_of_nonneg_right (by omega) (by omega)
  exact ⟨a, b, by omega⟩
theorem dRel.up {n n' w h : Nat} (hn : n ≤ n') {cV : Nat → Int64} {cW cS cM cF : Nat → UInt64} {cO : Nat → Int64} {cQ : Int64} {cT : UInt64} {mV : Nat → Int64} {mW mS mM mF : Nat → UInt64} {mO : Nat → Int64} {mQ : Int64} {mT : UInt64} (H : dRel n w h cV cW cS cM cF cO cQ cT mV mW mS mM mF mO mQ mT) : dRel n' w h cV cW cS cM cF cO cQ cT mV mW mS mM mF mO mQ mT := by
  obtain ⟨h1, h2, h3, h6, h7, h8, h9, h10⟩ := H
  refine ⟨fun j hj i hi => ?_, by omega, h3, fun j hj i hi => ⟨fun k hk => ((h6 j hj i hi).1 k hk).up hn, fun k hk ha => ⟨((h6 j hj i hi).2 k hk ha).1.up hn, ((h6 j hj i hi).2 k hk ha).2⟩⟩, h7, h8, h9, h10.up hn⟩
  obtain ⟨a1, a2, a3, a4, a5, a6, a7⟩ := h1 j hj i hi
  exact ⟨a1, a2, a3, a4, a5, a6.mo hn, a7.mo hn⟩
def dCur (n w h : Nat) (μ m : ZMem) : Prop := dRel n w h (fun k => zL μ (1000 + k) 2) (fun k => zD μ (1000 + k) 3) (fun k => zD μ (1000 + k) 4) (fun k => zD μ (1000 + k) 5) (fun k => zD μ (2000 + k) 4) (fun s => zL μ (30 + s) 4) (zL μ 0 16) (zD μ 0 14) (fun k => zL m 7 k) (fun k => zD m 8 k) (fun k => zD m 9 k) (fun k => zD m 10 k) (fun k => zD m 11 k) (fun s => zL m 12 s) (zL m 0 12) (zD m 0 13)
def dSav (n w h T : Nat) (μ m : ZMem) : Prop := dRel n w h (fun k => zL μ (100 + 10 * T + 0) k) (fun k => zD μ (100 + 10 * T + 1) k) (fun k => zD μ (100 + 10 * T + 2) k) (fun k => zD μ (100 + 10 * T + 3) k) (fun k => zD μ (100 + 10 * T + 4) k) (fun s => zL μ (100 + 10 * T + 6) s) (zL μ (80 + T) 8) (zD μ (80 + T) 7) (fun k => zL m 43 (144 * T + k)) (fun k => zD m 44 (144 * T + k)) (fun k => zD m 45 (144 * T + k)) (fun k => zD m 46 (144 * T + k)) (fun k => zD m 47 (336 * T + k)) (fun s => zL m 48 (4 * T + s)) (zL m 49 T) (zD m 50 T)
theorem dCur_of {n w h : Nat} {μ m : ZMem} (hC : rCells w h μ m) (hS : rSpd w h μ m) (hs : rSide μ m) (ht : rTime μ m) (hN : NI n w h m) : dCur n w h μ m := by
  refine ⟨fun j hj i hi => ?_, hN.2.1, hS, hN.2.2.2.2.1, fun s h4 => (hs s h4).1, ht.2.2, ht.1, hN.2.2.2.2.2.2⟩
  obtain ⟨_, _, a2, a3, a4, a5, _⟩ := hC j hj i hi
  obtain ⟨b1, _, b3, b4, _⟩ := hN.1 j hj i hi
  exact ⟨a2, a3, a4, a5, b1, b3, b4⟩
/-- the sum of a nest's kept shares -/
def sumK (μ : ZMem) (T i C : Nat) : Int64 := zit (fun k s => s + zL μ (100 + 10 * T + 5) (8 * i + k)) C 0
def sOK (n w h T CH : Nat) (μ m : ZMem) : Prop := zI μ (80 + T) 9 = zI m 42 T ∧ (∃ CT, CT ≤ CH ∧ zI m 42 T = nI CT) ∧ dSav n w h T μ m ∧ (zI m 42 T = nI CH → (∀ j, j < h → ∀ i, i < w → ¬ wtr m i j → zL m 43 (144 * T + (12 * j + i)) = 0) ∧ (∀ i, i < 10 → ∀ k, k < w * h → zR μ (60 + i) 1 = some (1000 + k) → sumK μ T i (s_cnt μ (60 + i)) = zL μ (100 + 10 * T + 0) k) ∧ ∀ i R, i < 10 → R ≤ i → zI μ 0 11 = nI R → ∀ k, k < 8 → zL μ (100 + 10 * T + 5) (8 * i + k) = 0)
def rSave (n w h : Nat) (μ m : ZMem) : Prop := ∃ S CH, S ≤ 4 ∧ CH ≤ n ∧ zI μ 0 12 = nI S ∧ zI m 0 39 = nI S ∧ zI μ 0 13 = nI CH ∧ zI m 0 40 = nI CH ∧ (∀ T, S ≤ T → T < 4 → zI μ (80 + T) 9 = -1) ∧ ∀ T, T < S → sOK n w h T CH μ m
def dSave (r k : Nat) : Prop := (80 ≤ r ∧ r < 84) ∨ (100 ≤ r ∧ r < 140) ∨ (r = 0 ∧ (k = 11 ∨ k = 12 ∨ k = 13)) ∨ (60 ≤ r ∧ r < 70)
def dSaveM (r _k : Nat) : Prop := (42 ≤ r ∧ r ≤ 50) ∨ r = 4
/-- the model's cells outside the sea stay empty -/
def rOut (w h : Nat) (m : ZMem) : Prop := ∀ c, c < 144 → (w ≤ c % 12 ∨ h ≤ c / 12) → zL m 7 c = 0 ∧ ∀ T, T < 4 → zL m 43 (144 * T + c) = 0
def dOut (r _k : Nat) : Prop := r = 7 ∨ r = 43
theorem rOut.mo {w h : Nat} {m m' : ZMem} (b : agr dOut m' m) (H : rOut w h m) : rOut w h m' := fun c h1 h2 => by
  obtain ⟨a1, a2⟩ := H c h1 h2
  refine ⟨(b.l (Or.inl rfl)).trans a1, fun T hT => (b.l (Or.inr rfl)).trans (a2 T hT)⟩
def REL (n w h : Nat) (ly : Int32) (μ m : ZMem) : Prop := (zDim w h ∧ fcA w h ≤ 400 ∧ zLC w h ly μ ∧ zNB (w * h) μ ∧ zLM w h ly m ∧ ∃ L, L ≤ 4 ∧ ly = nI L) ∧ rCells w h μ m ∧ rSpd w h μ m ∧ rSide μ m ∧ rWind μ m ∧ rTime μ m ∧ NI n w h m ∧ rNest w h μ m ∧ rGauge w h μ m ∧ rFit μ m ∧ rSave n w h μ m ∧ rOut w h m
theorem cnt_mo {μ μ' : ZMem} {D : Nat → Nat → Prop} (a : agr D μ' μ) {i : Nat} (h : D (60 + i) 2) : s_cnt μ' (60 + i) = s_cnt μ (60 + i) := by
  unfold s_cnt
  rw [a.i h]
theorem sum_mo {μ μ' : ZMem} {D : Nat → Nat → Prop} (a : agr D μ' μ) {r : Nat} (h : ∀ k, D r k) (C : Nat) : s_sumS μ' r C = s_sumS μ r C := sumS_cg (funext fun k => a.l (h k)) C
theorem rNest.mo {w h : Nat} {μ μ' m m' : ZMem} (hd : zDim w h) (a : agr dNest μ' μ) (b : agr dNestM m' m) (e0 : zI m' 0 27 = zI m 0 27) (H : rNest w h μ m) : rNest w h μ' m' := by
  obtain ⟨T, t0, t1, t2, t3, t4, t5, t6⟩ := H
  have h144 : w * h ≤ 12 * 12 := Nat.mul_le_mul hd.2.1 hd.2.2.2
  have c6 : ∀ i k, i < 10 → dNest (60 + i) k := fun i k hi => Or.inl ⟨by omega, by omega⟩
  have cc : ∀ x y, x < w → y < h → ∀ k, k = 2 ∨ k = 7 → dNest (1000 + (y * w + x)) k := fun x y hx hy k hk => Or.inr (Or.inl ⟨⟨by omega, by have := glt hx hy; omega⟩, hk⟩)
  refine ⟨T, t0, ?_, ?_, fun i h1 h2 => ?_, fun i hi => ?_, fun i hi c hc => ?_, fun x y hx hy => ⟨?_, fun n hn => ?_⟩⟩
  · rw [a.i (Or.inr (Or.inr ⟨rfl, rfl⟩))]
    exact t1
  · rw [e0]
    exact t2
  · rw [a.r (c6 i _ h2)]
    refine ⟨(t3 i h1 h2).1, fun k hk => ?_⟩
    rw [a.l (Or.inl ⟨by omega, by omega⟩)]
    exact (t3 i h1 h2).2 k hk
  · rw [a.r (c6 i _ (by omega)), b.i ⟨by omega, by omega⟩]
    exact t4 i hi
  · rw [a.r (c6 i _ hi)] at hc
    obtain ⟨x, y, hx, hy, rfl, e1, e2, e3, e4, e5⟩ := t5 i hi c hc
    refine ⟨x, y, hx, hy, rfl, ?_, ?_, ?_, ?_, ?_⟩
    · rw [a.r (cc x y hx hy 7 (Or.inr rfl))]
      exact e1
    · rw [b.i ⟨by omega, by omega⟩]
      exact e2
    · rw [cnt_mo a (c6 i _ hi)]
      exact e3
    · rw [cnt_mo a (c6 i _ hi)]
      exact e4
    · rw [cnt_mo a (c6 i _ hi), sum_mo a (fun k => Or.inl ⟨by omega, by omega⟩), a.l (cc x y hx hy 2 (Or.inl rfl))]
      exact e5
  · rw [b.i ⟨by omega, by omega⟩, a.r (cc x y hx hy 7 (Or.inr rfl))]
    exact (t6 x y hx hy).1
  · rw [a.r (cc x y hx hy 7 (Or.inr rfl))] at hn
    obtain ⟨i, hi, rfl, e⟩ := (t6 x y hx hy).2 n hn
    refine ⟨i, hi, rfl, ?_⟩
    rw [a.r (c6 i _ (by omega))]
    exact e
theorem rGauge.mo {w h : Nat} {μ μ' m m' : ZMem} (hd : zDim w h) (a : agr dGauge μ' μ) (b : agr dGaugeM m' m) (e0 : zI m' 0 31 = zI m 0 31) (H : rGauge w h μ m) : rGauge w h μ' m' := by
  obtain ⟨T, t0, t1, t2, t3, t4⟩ := H
  have h144 : w * h ≤ 12 * 12 := Nat.mul_le_mul hd.2.1 hd.2.2.2
  have e33 : ∀ g, zI m' 33 g = zI m 33 g := fun g => b.i (Or.inl rfl)
  have e35 : ∀ g, zD m' 35 g = zD m 35 g := fun g => b.d (Or.inr (Or.inr rfl))
  refine ⟨T, t0, ?_, ?_, fun g hg => ?_, fun x y hx hy => ?_⟩
  · rw [a.i (Or.inl ⟨rfl, rfl⟩)]
    exact t1
  · rw [e0]
    exact t2
  · rw [a.d (Or.inr (Or.inl rfl)), a.d (Or.inr (Or.inr (Or.inl rfl))), b.d (Or.inr (Or.inl rfl)), e35]
    exact t3 g hg
  · have c : cR (1000 + (y * w + x)) := ⟨by omega, by have := glt hx hy; omega⟩
    rw [a.i (Or.inr (Or.inr (Or.inr ⟨c, Or.inl rfl⟩))), a.d (Or.inr (Or.inr (Or.inr ⟨c, Or.inr rfl⟩)))]
    simp only [e33, e35]
    exact t4 x y hx hy
theorem rFit.mo {μ μ' m m' : ZMem} (a : agr dFit μ' μ) (b : agr dFitM m' m) (e0 : zI m' 0 38 = zI m 0 38) (H : rFit μ m) : rFit μ' m' := by
  obtain ⟨C, t0, t1, t2, t3⟩ := H
  refine ⟨C, t0, ?_, ?_, fun k hk => ?_⟩
  · rw [a.i (Or.inl ⟨rfl, rfl⟩)]
    exact t1
  · rw [e0]
    exact t2
  · rw [a.d (Or.inr rfl), b.d rfl]
    exact t3 k hk
theorem dSav.mo {n w h T : Nat} {μ μ' m m' : ZMem} (hd : zDim w h) (hT : T < 4) (a : agr dSave μ' μ) (b : agr dSaveM m' m) (H : dSav n w h T μ m) : dSav n w h T μ' m' := by
  have c1 : ∀ x k, x < 7 → dSave (100 + 10 * T + x) k := fun x k hx => Or.inr (Or.inl ⟨by omega, by omega⟩)
  have c2 : ∀ r k, 42 ≤ r → r ≤ 50 → dSaveM r k := fun r k h1 h2 => Or.inl ⟨h1, h2⟩
  refine dRel_cg hd (fun k _ => ⟨a.l (c1 0 _ (by omega)), a.d (c1 1 _ (by omega)), a.d (c1 2 _ (by omega)), a.d (c1 3 _ (by omega))⟩) (fun k _ => a.d (c1 4 _ (by omega))) (fun s _ => ⟨a.l (c1 6 _ (by omega)), b.l (c2 _ _ (by omega) (by omega))⟩) ⟨a.l (Or.inl ⟨by omega, by omega⟩), a.d (Or.inl ⟨by omega, by omega⟩), b.l (c2 _ _ (by omega) (by omega)), b.d (c2 _ _ (by omega) (by omega))⟩ (fun k _ => ⟨b.l (c2 _ _ (by omega) (by omega)), b.d (c2 _ _ (by omega) (by omega)), b.d (c2 _ _ (by omega) (by omega)), b.d (c2 _ _ (by omega) (by omega))⟩) (fun k _ => b.d (c2 _ _ (by omega) (by omega))) H
theorem sumK_mo {μ μ' : ZMem} {T : Nat} (hT : T < 4) (a : agr dSave μ' μ) (i C : Nat) : sumK μ' T i C = sumK μ T i C := by
  unfold sumK
  exact zit_sc C (fun k _ => a.l (Or.inr (Or.inl ⟨by omega, by omega⟩)))
theorem sOK.mo {n w h T CH : Nat} {μ μ' m m' : ZMem} (hd : zDim w h) (hT : T < 4) (a : agr dSave μ' μ) (b : agr dSaveM m' m) (H : sOK n w h T CH μ m) : sOK n w h T CH μ' m' := by
  obtain ⟨h1, h2, h3, h4⟩ := H
  have e42 : zI m' 42 T = zI m 42 T := b.i (Or.inl ⟨by omega, by omega⟩)
  refine ⟨?_, ?_, h3.mo hd hT a b, fun q => ?_⟩
  · rw [a.i (Or.inl ⟨by omega, by omega⟩), e42]
    exact h1
  · rw [e42]
    exact h2
  · rw [e42] at q
    obtain ⟨q1, q2, q3⟩ := h4 q
    refine ⟨fun j hj i hi nw => ?_, fun i hi k hk hr => ?_, fun i R hi hR e k hk => ?_⟩
    · rw [b.l (Or.inl ⟨by omega, by omega⟩)]
      refine q1 j hj i hi (fun y => nw ?_)
      unfold wtr at y ⊢
      rw [b.i (Or.inr rfl)]
      exact y
    · rw [a.r (Or.inr (Or.inr (Or.inr ⟨by omega, by omega⟩)))] at hr
      rw [sumK_mo hT a, cnt_mo a (Or.inr (Or.inr (Or.inr ⟨by omega, by omega⟩))), a.l (Or.inr (Or.inl ⟨by omega, by omega⟩))]
      exact q2 i hi k hk hr
    · rw [a.i (Or.inr (Or.inr (Or.inl ⟨rfl, Or.inl rfl⟩)))] at e
      rw [a.l (Or.inr (Or.inl ⟨by omega, by omega⟩))]
      exact q3 i R hi hR e k hk
theorem sOK.up {n n' w h T CH : Nat} (hn : n ≤ n') {μ m : ZMem} (H : sOK n w h T CH μ m) : sOK n' w h T CH μ m := ⟨H.1, H.2.1, dRel.up hn H.2.2.1, H.2.2.2⟩
theorem rSave.mo {n n' w h : Nat} {μ μ' m m' : ZMem} (hd : zDim w h) (hn : n ≤ n') (a : agr dSave μ' μ) (b : agr dSaveM m' m) (e9 : zI m' 0 39 = zI m 0 39) (e0 : zI m' 0 40 = zI m 0 40) (H : rSave n w h μ m) : rSave n' w h μ' m' := by
  obtain ⟨S, CH, s0, s1, s2, s3, s4, s5, s6, s7⟩ := H
  refine ⟨S, CH, s0, by omega, ?_, ?_, ?_, ?_, fun T h1 h2 => ?_, fun T hT => ((s7 T hT).mo hd (by omega) a b).up hn⟩
  · rw [a.i (Or.inr (Or.inr (Or.inl ⟨rfl, Or.inr (Or.inl rfl)⟩)))]
    exact s2
  · rw [e9]
    exact s3
  · rw [a.i (Or.inr (Or.inr (Or.inl ⟨rfl, Or.inr (Or.inr rfl)⟩)))]
    exact s4
  · rw [e0]
    exact s5
  · rw [a.i (Or.inl ⟨by omega, by omega⟩)]
    exact s6 T h1 h2
