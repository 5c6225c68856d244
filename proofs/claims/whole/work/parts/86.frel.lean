/-! a face of the class beside its face of the model -/
def fRel (μ β ν κ : ZMem) (w h hr : Nat) (v : UInt64) (n f' : Nat) (x' : Int32) : Prop := s_exists μ (2000 + n) = x' ∧ q_fl μ β w h hr v n = zL κ 19 f' ∧ (¬ x' = 0 → zq (e_sp β w h hr v n) (zD κ 11 f') ∧ zcn (zD κ 11 f') = zD κ 11 f' ∧ zfi (zD κ 11 f')) ∧ (x' = 0 → zD κ 11 f' = zD ν 11 f' ∧ zL κ 19 f' = 0)
theorem face_rel {μ β ν κ : ZMem} {w h hr : Nat} {v : UInt64} {n f' : Nat} {x' ax : Int32} {a b b' e' : Option Nat} {out : UInt64} (hx : s_exists μ (2000 + n) = x') (e0 : zR β (2000 + n) 0 = a) (e1 : zR β (2000 + n) 1 = b) (s0 : zq (s_surfaceOf β (2000 + n) a) (t_at ν b' out)) (s1 : zq (s_surfaceOf β (2000 + n) b) (t_at ν e' out)) (c0 : cell2 β ν a b') (c1 : cell2 β ν b e') (hn : ¬ (a = none ∧ b = none)) (h4 : zq (zD β (2000 + n) 4) (zD ν 11 f')) (hf : zfi (zD ν 11 f')) (hw : e_w β w h hr n = if ax = 0 then zD ν 26 hr else zD ν 27 hr) (D : fDone ν κ f' x' (f_s ν hr v f' ax b' e' out) (f_q ν v b' e' (f_s ν hr v f' ax b' e' out))) (hk : zfi (zD κ 11 f')) : fRel μ β ν κ w h hr v n f' x' := by
  have hs : zq (e_sp β w h hr v n) (f_s ν hr v f' ax b' e' out) := spd_rel h4 (zfi_nn (zq_fi h4.sy hf)) e0 e1 s0 s1 hw
  refine ⟨hx, ?_, fun q => ?_, fun q => D.2 q⟩
  · unfold q_fl
    rw [hx]
    by_cases g : x' = 0
    · rw [if_pos g, (D.2 g).2]
    · rw [if_neg g, (D.1 g).2]
      exact q_rel e0 e1 c0 c1 hn hs
  · obtain ⟨d1, d2⟩ := D.1 q
    refine ⟨by rw [d1]; exact hs, ?_, hk⟩
    rw [d1]
    exact zcn_cn _
/-- where the two steps begin -/
def rCx (n w h hr : Nat) (v : UInt64) (μ ν : ZMem) : Prop := nCx n w h hr v ν ∧ gGeo w h μ ∧ rCells w h μ ν ∧ rSpd w h μ ν ∧ rSide μ ν ∧ rWind μ ν ∧ rTime μ ν
theorem surf_rel {μ ν : ZMem} {c c' : Nat} (h : rCell μ ν c c') : s_surface μ c = t_lev ν c' := by
  obtain ⟨_, h1, h2, _⟩ := h
  unfold s_surface t_lev
  rw [h1, h2]
theorem rCx.cell {n w h hr : Nat} {v : UInt64} {μ ν : ZMem} (C : rCx n w h hr v μ ν) {i j : Nat} (hi : i < w) (hj : j < h) (f : Nat) (out : UInt64) : zq (s_surfaceOf (mBeg (w * h) μ) f (some (1000 + (j * w + i)))) (t_at ν (some (12 * j + i)) out) ∧ cell2 (mBeg (w * h) μ) ν (some (1000 + (j * w + i))) (some (12 * j + i)) ∧ (zI μ (1000 + (j * w + i)) 0 = 0 ↔ ¬ wtr ν i j) := by
  obtain ⟨⟨hd, hn, hh, hhr, hN⟩, hg, hC, _⟩ := C
  have h144 : w * h ≤ 12 * 12 := Nat.mul_le_mul hd.2.1 hd.2.2.2
  have g := glt (w := w) (h := h) hi hj
  obtain ⟨b1, b2, b3, b4, b5, b6⟩ := mBeg_pt μ (N := w * h) (by omega)
  have R := hC j hj i hi
  refine ⟨?_, ⟨?_, (hN.V hn j hj i hi).1⟩, ?_⟩
  · show zq (zD (mBeg (w * h) μ) (1000 + (j * w + i)) 11) (t_lev ν (12 * j + i))
    rw [(b5 _ g).2.1, surf_rel R]
    exact zq.rf _
  · rw [b3 _ _ (fun q => by have := q.2; omega)]
    exact R.2.2.1
  · rw [R.1]
    unfold wtr
    exact ⟨fun q y => y q, fun q => Classical.byContradiction q⟩
theorem zSp.fi {n : Nat} {x : UInt64} (h : zSp n x) : zfi x := h.1
theorem frel_A0 {n w h hr : Nat} {v : UInt64} {μ ν κ : ZMem} (C : rCx n w h hr v μ ν) (K : kCx w h hr v ν κ) {i j : Nat} (hi : i + 1 < w) (hj : j < h) : fRel μ (mBeg (w * h) μ) ν κ w h hr v (nA0 w i j) (12 * j + i) (t_hasFace ν w h (nI i) (nI j) 0) := by
  obtain ⟨N, hg, hC, hS, hSd, hW, hT⟩ := id C
  obtain ⟨hd, hn, hh, hhr, hN⟩ := id N
  have h144 : w * h ≤ 12 * 12 := Nat.mul_le_mul hd.2.1 hd.2.2.2
  obtain ⟨b1, b2, b3, b4, b5, b6⟩ := mBeg_pt μ (N := w * h) (by omega)
  obtain ⟨a1, a2, a3, a4⟩ := face_A0 hd hi hj
  have hl := nA0_lt hi hj
  have hl2 := fc0_1 hd
  obtain ⟨r0, r1, r2⟩ := hg.1 (nA0 w i j) (by omega)
  obtain ⟨p1, p2, p3⟩ := C.cell (show i < w by omega) hj (2000 + nA0 w i j) 0
  obtain ⟨q1, q2, q3⟩ := C.cell hi hj (2000 + nA0 w i j) 0
  rw [show j * w + (i + 1) = j * w + i + 1 by omega, show 1000 + (j * w + i + 1) = 1000 + (j * w + i + 1) from rfl] at q1 q2 q3
  have D := (K.2.2 j hj i (by omega)).1 0 (by decide)
  have F := (fA_b N (show i < w by omega) hj (K.2.2 j hj i (by omega)) (k := 0) (by decide)).2.2
  unfold dA at D
  rw [show 144 * 0 + (12 * j + i) = 12 * j + i by omega, show fNx i j 0 = 12 * j + (i + 1) from if_pos rfl, show nI 0 = 0 from rfl] at D
  rw [show 144 * 0 + (12 * j + i) = 12 * j + i by omega] at F
  refine face_rel (a := some (1000 + (j * w + i))) (b := some (1000 + (j * w + i + 1))) ?_ ((congrFun (congrFun b1 _) 0).trans (r0.trans a1)) ((congrFun (congrFun b1 _) 1).trans (r1.trans a2)) p1 q1 p2 q2 (fun y => absurd y.1 (by simp)) ?_ ?_ ?_ D F.fi
  · have e2 := hF0 (m := ν) hd (show i < w by omega) hj
    unfold s_exists
    rw [r0, r1, a1, a2]
    show (if zI μ (1000 + (j * w + i)) 0 = 0 then 0 else if zI μ (1000 + (j * w + i + 1)) 0 = 0 then 0 else 1 : Int32) = _
    by_cases x1 : zI μ (1000 + (j * w + i)) 0 = 0
    · rw [if_pos x1]
      by_cases y : t_hasFace ν w h (nI i) (nI j) 0 = 0
      · exact y.symm
      · exact absurd (e2.mp y).2.1 (p3.mp x1)
    · rw [if_neg x1]
      by_cases x2 : zI μ (1000 + (j * w + i + 1)) 0 = 0
      · rw [if_pos x2]
        by_cases y : t_hasFace ν w h (nI i) (nI j) 0 = 0
        · exact y.symm
        · exact absurd (e2.mp y).2.2 (q3.mp x2)
      · rw [if_neg x2]
        unfold t_hasFace
        have w1 : wtr ν i j := Classical.byContradiction (fun y => x1 (p3.mpr y))
        have w2 : wtr ν (i + 1) j := Classical.byContradiction (fun y => x2 (q3.mpr y))
        rw [if_neg ((hWt hd (by omega) hj).mpr w1), if_pos rfl, nI_1, if_neg ((hWt hd hi hj).mpr w2)]
  · rw [b4 _ _ (fun q => by unfold BD cR at q; omega) (fun q => by unfold SD at q; omega)]
    exact hS.1 i j hi hj
  · have := (hN.2.2.2.2.1 j hj i (by omega)).1 0 (by decide)
    rw [show 144 * 0 + (12 * j + i) = 12 * j + i by omega] at this
    exact this.1
  · unfold e_w
    rw [a4, if_pos rfl, if_pos rfl, b4 _ _ (fun q => by unfold BD cR at q; omega) (fun q => by unfold SD at q; omega)]
    exact (hW hr hhr).1
theorem frel_A1 {n w h hr : Nat} {v : UInt64} {μ ν κ : ZMem} (C : rCx n w h hr v μ ν) (K : kCx w h hr v ν κ) {i j : Nat} (hi : i < w) (hj : j + 1 < h) : fRel μ (mBeg (w * h) μ) ν κ w h hr v (nA1 w h i j) (144 + (12 * j + i)) (t_hasFace ν w h (nI i) (nI j) 1) := by
  obtain ⟨N, hg, hC, hS, hSd, hW, hT⟩ := id C
  obtain ⟨hd, hn, hh, hhr, hN⟩ := id N
  have h144 : w * h ≤ 12 * 12 := Nat.mul_le_mul hd.2.1 hd.2.2.2
  obtain ⟨b1, b2, b3, b4, b5, b6⟩ := mBeg_pt μ (N := w * h) (by omega)
  obtain ⟨a1, a2, a3, a4⟩ := face_A1 hd hi hj
  have hl := nA1_lt (w := w) (h := h) hi hj
  have hl2 := fc0_1 hd
  obtain ⟨r0, r1, r2⟩ := hg.1 (nA1 w h i j) (by omega)
  obtain ⟨p1, p2, p3⟩ := C.cell hi (show j < h by omega) (2000 + nA1 w h i j) 0
  obtain ⟨q1, q2, q3⟩ := C.cell hi hj (2000 + nA1 w h i j) 0
  rw [show (j + 1) * w + i = j * w + i + w by rw [Nat.succ_mul]; omega] at q1 q2 q3
  have D := (K.2.2 j (by omega) i hi).1 1 (by decide)
  have F := (fA_b N hi (show j < h by omega) (K.2.2 j (by omega) i hi) (k := 1) (by decide)).2.2
  unfold dA at D
  rw [show 144 * 1 + (12 * j + i) = 144 + (12 * j + i) by omega, show fNx i j 1 = 12 * (j + 1) + i from if_neg (by decide), show nI 1 = 1 from rfl] at D
  rw [show 144 * 1 + (12 * j + i) = 144 + (12 * j + i) by omega] at F
  refine face_rel (a := some (1000 + (j * w + i))) (b := some (1000 + (j * w + i + w))) ?_ ((congrFun (congrFun b1 _) 0).trans (r0.trans a1)) ((congrFun (congrFun b1 _) 1).trans (r1.trans a2)) p1 q1 p2 q2 (fun y => absurd y.1 (by simp)) ?_ ?_ ?_ D F.fi
  · have e2 := hF1 (m := ν) hd hi (show j < h by omega)
    unfold s_exists
    rw [r0, r1, a1, a2]
    show (if zI μ (1000 + (j * w + i)) 0 = 0 then 0 else if zI μ (1000 + (j * w + i + w)) 0 = 0 then 0 else 1 : Int32) = _
    by_cases x1 : zI μ (1000 + (j * w + i)) 0 = 0
    · rw [if_pos x1]
      by_cases y : t_hasFace ν w h (nI i) (nI j) 1 = 0
      · exact y.symm
      · exact absurd (e2.mp y).2.1 (p3.mp x1)
    · rw [if_neg x1]
      by_cases x2 : zI μ (1000 + (j * w + i + w)) 0 = 0
      · rw [if_pos x2]
        by_cases y : t_hasFace ν w h (nI i) (nI j) 1 = 0
        · exact y.symm
        · exact absurd (e2.mp y).2.2 (q3.mp x2)
      · rw [if_neg x2]
        unfold t_hasFace
        have w1 : wtr ν i j := Classical.byContradiction (fun y => x1 (p3.mpr y))
        have w2 : wtr ν i (j + 1) := Classical.byContradiction (fun y => x2 (q3.mpr y))
        rw [if_neg ((hWt hd hi (by omega)).mpr w1), if_neg (by decide), nI_1, if_neg ((hWt hd hi hj).mpr w2)]
  · rw [b4 _ _ (fun q => by unfold BD cR at q; omega) (fun q => by unfold SD at q; omega)]
    exact hS.2.1 i j hi hj
  · have := (hN.2.2.2.2.1 j (by omega) i hi).1 1 (by decide)
    rw [show 144 * 1 + (12 * j + i) = 144 + (12 * j + i) by omega] at this
    exact this.1
  · unfold e_w
    rw [a4, if_neg (by decide), if_neg (by decide), b4 _ _ (fun q => by unfold BD cR at q; omega) (fun q => by unfold SD at q; omega)]
    exact (hW hr hhr).2
/-- a face over a side: the cell at its place -/
def sI (w s t : Nat) : Nat := if s = 0 then 0 else if s = 1 then w - 1 else t
def sJ (h s t : Nat) : Nat := if s < 2 then t else if s = 2 then 0 else h - 1
theorem sIJ {w h s t : Nat} (hd : zDim w h) (hs : s < 4) (ht : t < if s < 2 then h else w) : sI w s t < w ∧ sJ h s t < h ∧ atP w h (sI w s t) (sJ h s t) s ∧ sfN (sI w s t) (sJ h s t) s = 288 + 12 * s + t := by
  obtain ⟨d1, d2, d3, d4⟩ := hd
  unfold sI sJ atP sfN
  rcases (show s = 0 ∨ s = 1 ∨ s = 2 ∨ s = 3 by omega) with rfl | rfl | rfl | rfl <;> simp at ht ⊢ <;> omega
theorem side_ex {μ ν : ZMem} {w h s i j n : Nat} {a b : Option Nat} (hd : zDim w h) (hs : s < 4) (hi : i < w) (hj : j < h) (hat : atP w h i j s) (hSr : rSide μ ν) (e0 : zR μ (2000 + n) 0 = a) (e1 : zR μ (2000 + n) 1 = b) (e2 : zR μ (2000 + n) 2 = some (30 + s)) (hc : zI μ (1000 + (j * w + i)) 0 = 0 ↔ ¬ wtr ν i j) (ho : (a = none ∧ b = some (1000 + (j * w + i))) ∨ (b = none ∧ a = some (1000 + (j * w + i)))) : s_exists μ (2000 + n) = t_hasSide ν w h (nI i) (nI j) s := by
  have e3 := (hSr s hs).2.1
  have e4 := opn_iff ν s
  have key : (if zI μ (30 + s) 2 = 0 then 0 else if zI μ (1000 + (j * w + i)) 0 = 0 then 0 else 1 : Int32) = t_hasSide ν w h (nI i) (nI j) s := by
    have e6 := hSd (m := ν) hd hi hj hs
    by_cases x1 : zI μ (30 + s) 2 = 0
    · rw [if_pos x1]
      by_cases y : t_hasSide ν w h (nI i) (nI j) s = 0
      · exact y.symm
      · exact absurd (e4.mpr (e3.mp x1)) (e6.mp y).2.2
    · rw [if_neg x1]
      by_cases x2 : zI μ (1000 + (j * w + i)) 0 = 0
      · rw [if_pos x2]
        by_cases y : t_hasSide ν w h (nI i) (nI j) s = 0
        · exact y.symm
        · exact absurd (e6.mp y).1 (hc.mp x2)
      · rw [if_neg x2]
        have w1 : wtr ν i j := Classical.byContradiction (fun y => x2 (hc.mpr y))
        have op : ¬ t_isOpen ν s = 0 := fun y => x1 (e3.mpr (e4.mp y))
        obtain ⟨d1, d2, d3, d4⟩ := hd
        unfold t_hasSide
        rw [if_neg ((hWt ⟨d1, d2, d3, d4⟩ hi hj).mpr w1), if_neg ((atP_iff d1 d2 d3 d4 hi hj hs).mpr hat), if_neg op]
  rw [← key]
  unfold s_exists
  rw [e0, e1, e2]
  rcases ho with ⟨rfl, rfl⟩ | ⟨rfl, rfl⟩
  · show (if zI μ (30 + s) 2 = 0 then 0 else if (0 : Int32) = 0 then (if (if zI μ (1000 + (j * w + i)) 0 = 0 then 0 else 1 : Int32) = 0 then 0 else 1) else 1 : Int32) = _
    rw [if_pos rfl]
    by_cases x1 : zI μ (30 + s) 2 = 0
    · rw [if_pos x1, if_pos x1]
    · rw [if_neg x1, if_neg x1]
      by_cases x2 : zI μ (1000 + (j * w + i)) 0 = 0
      · rw [if_pos x2, if_pos rfl]
      · rw [if_neg x2, if_neg (by decide)]
  · show (if zI μ (30 + s) 2 = 0 then 0 else if (if zI μ (1000 + (j * w + i)) 0 = 0 then 0 else 1 : Int32) = 0 then (if (0 : Int32) = 0 then 0 else 1) else 1 : Int32) = _
    by_cases x1 : zI μ (30 + s) 2 = 0
    · rw [if_pos x1, if_pos x1]
    · rw [if_neg x1, if_neg x1]
      by_cases x2 : zI μ (1000 + (j * w + i)) 0 = 0
      · rw [if_pos x2, if_pos rfl, if_pos rfl]
      · rw [if_neg x2, if_neg (by decide)]
theorem face_S {w h s t : Nat} (hd : zDim w h) (hs : s < 4) (ht : t < if s < 2 then h else w) : fBef w h (nSd4 w h s t) = (if s = 0 ∨ s = 2 then none else some (1000 + (sJ h s t * w + sI w s t))) ∧ fBeh w h (nSd4 w h s t) = (if s = 0 ∨ s = 2 then some (1000 + (sJ h s t * w + sI w s t)) else none) ∧ fSid w h (nSd4 w h s t) = some (30 + s) ∧ fAxi w h (nSd4 w h s t) = nI s / 2 := by
  rcases (show s = 0 ∨ s = 1 ∨ s = 2 ∨ s = 3 by omega) with rfl | rfl | rfl | rfl
  · obtain ⟨a, b, c, d⟩ := face_S0 hd (show t < h from ht)
    rw [a, b, c, d]
    exact ⟨rfl, rfl, rfl, rfl⟩
  · obtain ⟨a, b, c, d⟩ := face_S1 hd (show t < h from ht)
    rw [a, b, c, d]
    exact ⟨rfl, rfl, rfl, rfl⟩
  · obtain ⟨a, b, c, d⟩ := face_S2 hd (show t < w from ht)
    rw [a, b, c, d]
    refine ⟨rfl, ?_, rfl, rfl⟩
    show some (1000 + t) = some (1000 + (0 * w + t))
    rw [Nat.zero_mul, Nat.zero_add]
  · obtain ⟨a, b, c, d⟩ := face_S3 hd (show t < w from ht)
    rw [a, b, c, d]
    exact ⟨rfl, rfl, rfl, rfl⟩
theorem fBe_e {s : Nat} (hs : s < 4) (c : Nat) : fBe s c = (if s = 0 ∨ s = 2 then none else some c) ∧ fEn s c = (if s = 0 ∨ s = 2 then some c else none) := by
  rcases (show s = 0 ∨ s = 1 ∨ s = 2 ∨ s = 3 by omega) with rfl | rfl | rfl | rfl <;> exact ⟨rfl, rfl⟩
theorem frel_S {n w h hr : Nat} {v : UInt64} {μ ν κ : ZMem} (C : rCx n w h hr v μ ν) (K : kCx w h hr v ν κ) {s t : Nat} (hs : s < 4) (ht : t < if s < 2 then h else w) : fRel μ (mBeg (w * h) μ) ν κ w h hr v (nSd4 w h s t) (sfN (sI w s t) (sJ h s t) s) (t_hasSide ν w h (nI (sI w s t)) (nI (sJ h s t)) s) := by
  obtain ⟨N, hg, hC, hS, hSd, hW, hT⟩ := id C
  obtain ⟨hd, hn, hh, hhr, hN⟩ := id N
  have h144 : w * h ≤ 12 * 12 := Nat.mul_le_mul hd.2.1 hd.2.2.2
  obtain ⟨b1, b2, b3, b4, b5, b6⟩ := mBeg_pt μ (N := w * h) (by omega)
  obtain ⟨a1, a2, a3, a4⟩ := face_S hd hs ht
  obtain ⟨hi, hj, hat, hsf⟩ := sIJ hd hs ht
  have hl := nSd_lt (w := w) (h := h) hs ht
  obtain ⟨r0, r1, r2⟩ := hg.1 (nSd4 w h s t) hl.2
  have PP := C.cell hi hj (2000 + nSd4 w h s t) (t_outside ν s)
  have D := (K.2.2 _ hj _ hi).2 s hs hat
  have F := (fS_b N hi hj (K.2.2 _ hj _ hi) hs hat).2.2.1
  have h4 := hS.2.2 s t hs ht
  rw [← hsf] at h4
  have h5 := ((hN.2.2.2.2.1 _ hj _ hi).2 s hs hat).1
  have out : zq (s_surfaceOf (mBeg (w * h) μ) (2000 + nSd4 w h s t) none) (t_outside ν s) := by
    have e : s_surfaceOf (mBeg (w * h) μ) (2000 + nSd4 w h s t) none = s_out μ s := by
      unfold s_surfaceOf
      rw [b1, r2, a3]
      exact b6 s hs
    rw [e]
    exact out_rel hSd hT.1 hs (hN.2.2.2.2.2.1 s hs) (hN.2.2.2.2.2.2.m hn)
  unfold dS at D
  obtain ⟨fb, fe⟩ := fBe_e hs (12 * sJ h s t + sI w s t)
  rw [fb, fe] at D
  generalize hI : sI w s t = i at *
  generalize hJ : sJ h s t = j at *
  obtain ⟨p1, p2, p3⟩ := PP
  have hw : e_w (mBeg (w * h) μ) w h hr (nSd4 w h s t) = if nI s / 2 = 0 then zD ν 26 hr else zD ν 27 hr := by
    unfold e_w
    rw [a4]
    by_cases x : nI s / 2 = 0
    · rw [if_pos x, if_pos x, b4 _ _ (fun q => by unfold BD cR at q; omega) (fun q => by unfold SD at q; omega)]
      exact (hW hr hhr).1
    · rw [if_neg x, if_neg x, b4 _ _ (fun q => by unfold BD cR at q; omega) (fun q => by unfold SD at q; omega)]
      exact (hW hr hhr).2
  have h4' : zq (zD (mBeg (w * h) μ) (2000 + nSd4 w h s t) 4) (zD ν 11 (sfN i j s)) := by
    rw [b4 _ _ (fun q => by unfold BD cR at q; omega) (fun q => by unfold SD at q; omega)]
    exact h4
  by_cases z : s = 0 ∨ s = 2
  · rw [if_pos z] at a1 a2 D
    rw [if_pos z] at D
    refine face_rel (a := none) (b := some (1000 + (j * w + i))) (b' := none) (e' := some (12 * j + i)) (out := t_outside ν s) (side_ex hd hs hi hj hat hSd (r0.trans a1) (r1.trans a2) (r2.trans a3) p3 (Or.inl ⟨rfl, rfl⟩)) ((congrFun (congrFun b1 _) 0).trans (r0.trans a1)) ((congrFun (congrFun b1 _) 1).trans (r1.trans a2)) out p1 trivial p2 (fun y => absurd y.2 (by simp)) h4' h5.1 hw D F.fi
  · rw [if_neg z] at a1 a2 D
    rw [if_neg z] at D
    refine face_rel (a := some (1000 + (j * w + i))) (b := none) (b' := some (12 * j + i)) (e' := none) (out := t_outside ν s) (side_ex hd hs hi hj hat hSd (r0.trans a1) (r1.trans a2) (r2.trans a3) p3 (Or.inr ⟨rfl, rfl⟩)) ((congrFun (congrFun b1 _) 0).trans (r0.trans a1)) ((congrFun (congrFun b1 _) 1).trans (r1.trans a2)) p1 out p2 trivial (fun y => absurd y.1 (by simp)) h4' h5.1 hw D F.fi
