/-! a step keeps what holds of the model's numbers -/
/-- the memory when the flows are known -/
def kCx (w h hr : Nat) (v : UInt64) (ν κ : ZMem) : Prop := (∀ r, zI κ r = zI ν r) ∧ (∀ j, j < h → ∀ i, i < w → zL κ 16 (12 * j + i) = zL ν 7 (12 * j + i) ∧ zL κ 7 (12 * j + i) = zL ν 7 (12 * j + i) ∧ zD κ 17 (12 * j + i) = zD ν 8 (12 * j + i) ∧ zD κ 18 (12 * j + i) = zD ν 9 (12 * j + i) ∧ cOf κ (12 * j + i) = cOf ν (12 * j + i) ∧ zD κ 6 (12 * j + i) = zD ν 6 (12 * j + i)) ∧ ∀ j, j < h → ∀ i, i < w → cDone ν κ w h hr v i j
theorem mKap_cx {ν : ZMem} {w h : Nat} (hd : zDim w h) (hr : Nat) (v : UInt64) : kCx w h hr v ν (mKap w h hr v ν) := by
  obtain ⟨a, b, c⟩ := mKap_pt (ν := ν) hd hr v
  obtain ⟨d1, d2, d3, d4⟩ := hd
  refine ⟨fun r => a.2.1 r rfl, fun j hj i hi => ?_, c⟩
  obtain ⟨b1, b2, b3⟩ := b (12 * j + i) (by omega)
  refine ⟨b1, congrFun (a.2.2.1 7 rfl) _, b2, b3, ?_, congrFun (a.2.2.2 6 rfl) _⟩
  unfold cOf
  rw [a.2.2.1 7 rfl, a.2.2.2 8 rfl, a.2.2.2 9 rfl, a.2.2.2 10 rfl]
theorem zk_8 : zv k8 = 8 * zU := by decide +kernel
theorem zk_34 : zv k34 = 34 * zU := by decide +kernel
theorem zk_12 : zv k12 = 12 * zU := by decide +kernel
theorem zBw_k {n : Nat} (hn : n < 2 ^ 20) {x : UInt64} (hf : zfi x) (h0 : 0 ≤ zv x) (h1 : zv x ≤ 40 * zU) : zBw n x := by
  obtain ⟨b1, b2⟩ := Bd_b hn
  have hU := zU_pos
  exact ⟨hf, by omega, by omega⟩
theorem zBw_8 {n : Nat} (hn : n < 2 ^ 20) : zBw n k8 := by
  have hU := zU_pos
  exact zBw_k hn (zfk k8 (by decide +kernel)) (by rw [zk_8]; omega) (by rw [zk_8]; omega)
theorem zBw_34 {n : Nat} (hn : n < 2 ^ 20) : zBw n k34 := by
  have hU := zU_pos
  exact zBw_k hn (zfk k34 (by decide +kernel)) (by rw [zk_34]; omega) (by rw [zk_34]; omega)
theorem nI_p {i : Nat} (hi : i < 12) : nI i ≤ 0 ↔ i = 0 := by
  constructor
  · intro q
    rcases Nat.eq_zero_or_pos i with e | e
    · exact e
    · exact absurd q (by
        have : ∀ k : Fin 12, 0 < k.val → ¬ nI k.val ≤ 0 := by decide
        exact this ⟨i, hi⟩ e)
  · rintro rfl
    decide
/-- the flow over an inner face, as a number -/
def qF (κ : ZMem) (k i j : Nat) : Int := (zL κ 19 (144 * k + (12 * j + i))).toInt
theorem port_b {n w h hr : Nat} {v : UInt64} {ν κ : ZMem} (C : nCx n w h hr v ν) (K : kCx w h hr v ν κ) {i j : Nat} (hi : i < w) (hj : j < h) : (pM κ w h i j 0).toInt = (if i = 0 then 0 else qF κ 0 (i - 1) j) ∧ (pM κ w h i j 1).toInt = -qF κ 0 i j ∧ (pM κ w h i j 2).toInt = (if j = 0 then 0 else qF κ 1 i (j - 1)) ∧ (pM κ w h i j 3).toInt = -qF κ 1 i j ∧ (∀ k, k < 4 → (atP w h i j k → (pM κ w h i j (k + 4)).toInt ≤ 274877906944) ∧ (¬ atP w h i j k → (pM κ w h i j (k + 4)).toInt ≤ 0)) ∧ ∀ p, p < 8 → (-((zL ν 7 (12 * j + i)).toInt / 8) ≤ (pM κ w h i j p).toInt ∧ (pM κ w h i j p).toInt ≤ 2 ^ 58) ∧ (¬ pE κ w h i j p = 0 → zBw n (t_ow κ 17 k8 (pO i j p)) ∧ zBw n (t_ow κ 18 k34 (pO i j p)) ∧ wtr ν i j) := by
  obtain ⟨hd, hn, hh, hhr, hN⟩ := id C
  obtain ⟨d1, d2, d3, d4⟩ := id hd
  obtain ⟨K1, K2, K3⟩ := K
  have hV := hN.V hn
  obtain ⟨v0, v1⟩ := hV j hj i hi
  have z0 := zi_0
  have ow : ∀ i' j', i' < w → j' < h → zBw n (t_ow κ 17 k8 (some (12 * j' + i'))) ∧ zBw n (t_ow κ 18 k34 (some (12 * j' + i'))) := by
    intro i' j' hi' hj'
    obtain ⟨_, _, e1, e2, _⟩ := K2 j' hj' i' hi'
    obtain ⟨_, _, f1, f2, _⟩ := hN.1 j' hj' i' hi'
    show zBw n (zD κ 17 (12 * j' + i')) ∧ zBw n (zD κ 18 (12 * j' + i'))
    rw [e1, e2]
    exact ⟨f1, f2⟩
  have q0 : (pM κ w h i j 0).toInt = (if i = 0 then 0 else qF κ 0 (i - 1) j) ∧ (-((zL ν 7 (12 * j + i)).toInt / 8) ≤ (pM κ w h i j 0).toInt ∧ (pM κ w h i j 0).toInt ≤ 2 ^ 58) ∧ (¬ pE κ w h i j 0 = 0 → zBw n (t_ow κ 17 k8 (pO i j 0)) ∧ zBw n (t_ow κ 18 k34 (pO i j 0)) ∧ wtr ν i j) := by
    unfold pM
    rw [pE_0, pN_0, pO_0, hf_cg K1]
    by_cases e : i = 0
    · rw [if_pos ((nI_p (by omega)).mpr e), if_pos rfl, if_pos e]
      exact ⟨z0, ⟨by omega, by omega⟩, fun q => absurd rfl q⟩
    · rw [if_neg (fun q => e ((nI_p (by omega)).mp q)), if_neg e]
      obtain ⟨A1, A2, A3⟩ := fA_b C (show i - 1 < w by omega) hj (K3 j hj (i - 1) (by omega)) (k := 0) (by decide)
      have eq1 : qF κ 0 (i - 1) j = (zL κ 19 (12 * j + (i - 1))).toInt := by
        unfold qF
        rw [show 144 * 0 + (12 * j + (i - 1)) = 12 * j + (i - 1) by omega]
      rw [show 144 * 0 + (12 * j + (i - 1)) = 12 * j + (i - 1) by omega] at A1 A2
      rw [show fNx (i - 1) j 0 = 12 * j + i from (if_pos rfl).trans (by omega)] at A2
      rw [eq1]
      by_cases e2 : t_hasFace ν w h (nI (i - 1)) (nI j) 0 = 0
      · rw [if_pos e2, A1 e2]
        exact ⟨rfl, ⟨by omega, by omega⟩, fun q => absurd e2 q⟩
      · rw [if_neg e2]
        have A2' := A2 e2
        have vw := hV j hj (i - 1) (by omega)
        obtain ⟨e3, e4, e5⟩ := (hF0 hd (show i - 1 < w by omega) hj).mp e2
        rw [show i - 1 + 1 = i by omega] at e5
        exact ⟨rfl, ⟨by omega, by omega⟩, fun _ => ⟨(ow (i - 1) j (by omega) hj).1, (ow (i - 1) j (by omega) hj).2, e5⟩⟩
  have q1 : (pM κ w h i j 1).toInt = -qF κ 0 i j ∧ (-((zL ν 7 (12 * j + i)).toInt / 8) ≤ (pM κ w h i j 1).toInt ∧ (pM κ w h i j 1).toInt ≤ 2 ^ 58) ∧ (¬ pE κ w h i j 1 = 0 → zBw n (t_ow κ 17 k8 (pO i j 1)) ∧ zBw n (t_ow κ 18 k34 (pO i j 1)) ∧ wtr ν i j) := by
    unfold pM
    rw [pE_1, pN_1, pO_1, hf_cg K1]
    obtain ⟨A1, A2, A3⟩ := fA_b C hi hj (K3 j hj i hi) (k := 0) (by decide)
    have eq1 : qF κ 0 i j = (zL κ 19 (12 * j + i)).toInt := by
      unfold qF
      rw [show 144 * 0 + (12 * j + i) = 12 * j + i by omega]
    rw [show 144 * 0 + (12 * j + i) = 12 * j + i by omega] at A1 A2
    rw [show fNx i j 0 = 12 * j + (i + 1) from if_pos rfl] at A2
    rw [eq1]
    by_cases e2 : t_hasFace ν w h (nI i) (nI j) 0 = 0
    · rw [if_pos e2, A1 e2]
      exact ⟨rfl, ⟨by omega, by omega⟩, fun q => absurd e2 q⟩
    · rw [if_neg e2]
      have A2' := A2 e2
      obtain ⟨e3, e4, e5⟩ := (hF0 hd hi hj).mp e2
      have vw := hV j hj (i + 1) e3
      rw [zi_neg (by omega)]
      exact ⟨rfl, ⟨by omega, by omega⟩, fun _ => ⟨(ow (i + 1) j e3 hj).1, (ow (i + 1) j e3 hj).2, e4⟩⟩
  have q2 : (pM κ w h i j 2).toInt = (if j = 0 then 0 else qF κ 1 i (j - 1)) ∧ (-((zL ν 7 (12 * j + i)).toInt / 8) ≤ (pM κ w h i j 2).toInt ∧ (pM κ w h i j 2).toInt ≤ 2 ^ 58) ∧ (¬ pE κ w h i j 2 = 0 → zBw n (t_ow κ 17 k8 (pO i j 2)) ∧ zBw n (t_ow κ 18 k34 (pO i j 2)) ∧ wtr ν i j) := by
    unfold pM
    rw [pE_2, pN_2, pO_2, hf_cg K1]
    by_cases e : j = 0
    · rw [if_pos ((nI_p (by omega)).mpr e), if_pos rfl, if_pos e]
      exact ⟨z0, ⟨by omega, by omega⟩, fun q => absurd rfl q⟩
    · rw [if_neg (fun q => e ((nI_p (by omega)).mp q)), if_neg e]
      obtain ⟨A1, A2, A3⟩ := fA_b C hi (show j - 1 < h by omega) (K3 (j - 1) (by omega) i hi) (k := 1) (by decide)
      have eq1 : qF κ 1 i (j - 1) = (zL κ 19 (144 + (12 * (j - 1) + i))).toInt := by
        unfold qF
        rw [show 144 * 1 + (12 * (j - 1) + i) = 144 + (12 * (j - 1) + i) by omega]
      rw [show 144 * 1 + (12 * (j - 1) + i) = 144 + (12 * (j - 1) + i) by omega, show nI 1 = 1 from rfl] at A1 A2
      rw [show fNx i (j - 1) 1 = 12 * j + i from (if_neg (by decide)).trans (by omega)] at A2
      rw [eq1]
      by_cases e2 : t_hasFace ν w h (nI i) (nI (j - 1)) 1 = 0
      · rw [if_pos e2, A1 e2]
        exact ⟨rfl, ⟨by omega, by omega⟩, fun q => absurd e2 q⟩
      · rw [if_neg e2]
        have A2' := A2 e2
        have vw := hV (j - 1) (by omega) i hi
        obtain ⟨e3, e4, e5⟩ := (hF1 hd hi (show j - 1 < h by omega)).mp e2
        rw [show j - 1 + 1 = j by omega] at e5
        exact ⟨rfl, ⟨by omega, by omega⟩, fun _ => ⟨(ow i (j - 1) hi (by omega)).1, (ow i (j - 1) hi (by omega)).2, e5⟩⟩
  have q3 : (pM κ w h i j 3).toInt = -qF κ 1 i j ∧ (-((zL ν 7 (12 * j + i)).toInt / 8) ≤ (pM κ w h i j 3).toInt ∧ (pM κ w h i j 3).toInt ≤ 2 ^ 58) ∧ (¬ pE κ w h i j 3 = 0 → zBw n (t_ow κ 17 k8 (pO i j 3)) ∧ zBw n (t_ow κ 18 k34 (pO i j 3)) ∧ wtr ν i j) := by
    unfold pM
    rw [pE_3, pN_3, pO_3, hf_cg K1]
    obtain ⟨A1, A2, A3⟩ := fA_b C hi hj (K3 j hj i hi) (k := 1) (by decide)
    have eq1 : qF κ 1 i j = (zL κ 19 (144 + (12 * j + i))).toInt := by
      unfold qF
      rw [show 144 * 1 + (12 * j + i) = 144 + (12 * j + i) by omega]
    rw [show 144 * 1 + (12 * j + i) = 144 + (12 * j + i) by omega, show nI 1 = 1 from rfl] at A1 A2
    rw [show fNx i j 1 = 12 * (j + 1) + i from if_neg (by decide)] at A2
    rw [eq1]
    by_cases e2 : t_hasFace ν w h (nI i) (nI j) 1 = 0
    · rw [if_pos e2, A1 e2]
      exact ⟨rfl, ⟨by omega, by omega⟩, fun q => absurd e2 q⟩
    · rw [if_neg e2]
      have A2' := A2 e2
      obtain ⟨e3, e4, e5⟩ := (hF1 hd hi hj).mp e2
      have vw := hV (j + 1) e3 i hi
      rw [zi_neg (by omega)]
      exact ⟨rfl, ⟨by omega, by omega⟩, fun _ => ⟨(ow i (j + 1) hi e3).1, (ow i (j + 1) hi e3).2, e4⟩⟩
  have qs : ∀ k, k < 4 → ((atP w h i j k → (pM κ w h i j (k + 4)).toInt ≤ 274877906944) ∧ (¬ atP w h i j k → (pM κ w h i j (k + 4)).toInt ≤ 0)) ∧ (-((zL ν 7 (12 * j + i)).toInt / 8) ≤ (pM κ w h i j (k + 4)).toInt ∧ (pM κ w h i j (k + 4)).toInt ≤ 2 ^ 58) ∧ (¬ pE κ w h i j (k + 4) = 0 → zBw n (t_ow κ 17 k8 (pO i j (k + 4))) ∧ zBw n (t_ow κ 18 k34 (pO i j (k + 4))) ∧ wtr ν i j) := by
    intro k hk
    unfold pM
    rw [pE_s, pN_s, pO_s, hs_cg K1]
    by_cases e : t_hasSide ν w h (nI i) (nI j) k = 0
    · rw [if_pos e, z0]
      exact ⟨⟨fun _ => by omega, fun _ => by omega⟩, ⟨by omega, by omega⟩, fun q => absurd e q⟩
    · rw [if_neg e]
      obtain ⟨e3, e4, e5⟩ := (hSd hd hi hj hk).mp e
      obtain ⟨A1, A2, A3⟩ := fS_b C hi hj (K3 j hj i hi) hk e4
      exact ⟨⟨fun _ => A2.2, fun q => absurd e4 q⟩, ⟨A2.1, by omega⟩, fun _ => ⟨zBw_8 (by omega), zBw_34 (by omega), e3⟩⟩
  refine ⟨q0.1, q1.1, q2.1, q3.1, fun k hk => (qs k hk).1, fun p hp => ?_⟩
  rcases (show p = 0 ∨ p = 1 ∨ p = 2 ∨ p = 3 ∨ 4 ≤ p by omega) with rfl | rfl | rfl | rfl | g
  · exact q0.2
  · exact q1.2
  · exact q2.2
  · exact q3.2
  · have := (qs (p - 4) (by omega)).2
    rw [show p - 4 + 4 = p by omega] at this
    exact this
def bp (κ : ZMem) (w h i j p : Nat) : Nat := if pE κ w h i j p = 0 then 0 else 1
def pcn (κ : ZMem) (w h i j : Nat) : Nat → Nat
  | 0 => 0
  | p + 1 => pcn κ w h i j p + bp κ w h i j p
theorem pcn_le {w h i j : Nat} {ν κ : ZMem} (hd : zDim w h) (hi : i < w) (hj : j < h) (e : ∀ r, zI κ r = zI ν r) : pcn κ w h i j 8 ≤ 4 := by
  obtain ⟨d1, d2, d3, d4⟩ := id hd
  have b1 : ∀ p, bp κ w h i j p ≤ 1 := fun p => by unfold bp; split <;> omega
  have ex : ∀ p, p < 4 → bp κ w h i j p + bp κ w h i j (p + 4) ≤ 1 := by
    intro p hp
    by_cases z : pE κ w h i j (p + 4) = 0
    · have : bp κ w h i j (p + 4) = 0 := if_pos z
      have := b1 p
      omega
    · have y : pE κ w h i j p = 0 := by
        rw [pE_s] at z
        obtain ⟨_, a, _⟩ := (hSd hd hi hj hp).mp z
        rcases (show p = 0 ∨ p = 1 ∨ p = 2 ∨ p = 3 by omega) with rfl | rfl | rfl | rfl
        · rw [pE_0, if_pos ((nI_p (by omega)).mpr (by unfold atP at a; omega))]
        · rw [pE_1]
          by_cases f : t_hasFace κ w h (nI i) (nI j) 0 = 0
          · exact f
          · have := (hF0 hd hi hj).mp f
            unfold atP at a
            omega
        · rw [pE_2, if_pos ((nI_p (by omega)).mpr (by unfold atP at a; omega))]
        · rw [pE_3]
          by_cases f : t_hasFace κ w h (nI i) (nI j) 1 = 0
          · exact f
          · have := (hF1 hd hi hj).mp f
            unfold atP at a
            omega
      have e1 : bp κ w h i j p = 0 := if_pos y
      have := b1 (p + 4)
      omega
  have e0 := ex 0 (by decide)
  have e1 := ex 1 (by decide)
  have e2 := ex 2 (by decide)
  have e3 := ex 3 (by decide)
  show 0 + bp κ w h i j 0 + bp κ w h i j 1 + bp κ w h i j 2 + bp κ w h i j 3 + bp κ w h i j 4 + bp κ w h i j 5 + bp κ w h i j 6 + bp κ w h i j 7 ≤ 4
  rw [show 0 + 4 = 4 from rfl] at e0
  rw [show 1 + 4 = 5 from rfl] at e1
  rw [show 2 + 4 = 6 from rfl] at e2
  rw [show 3 + 4 = 7 from rfl] at e3
  omega
theorem psum_b {n w h hr : Nat} {v : UInt64} {ν κ : ZMem} (C : nCx n w h hr v ν) (K : kCx w h hr v ν κ) {i j : Nat} (hi : i < w) (hj : j < h) : ∀ p, p ≤ 8 → hI (zL ν 7 (12 * j + i)).toInt (Bd n) (zv (zD ν 8 (12 * j + i))) (zit (p_port κ w h i j) p (c0 κ (12 * j + i))).1 (zit (p_port κ w h i j) p (c0 κ (12 * j + i))).2.1 (p + 1) (pcn κ w h i j p) ∧ hI (zL ν 7 (12 * j + i)).toInt (Bd n) (zv (zD ν 9 (12 * j + i))) (zit (p_port κ w h i j) p (c0 κ (12 * j + i))).1 (zit (p_port κ w h i j) p (c0 κ (12 * j + i))).2.2.1 (p + 1) (pcn κ w h i j p) ∧ (zit (p_port κ w h i j) p (c0 κ (12 * j + i))).1.toInt = (zL ν 7 (12 * j + i)).toInt + zsu (fun p => (pM κ w h i j p).toInt) p := by
  obtain ⟨hd, hn, hh, hhr, hN⟩ := id C
  obtain ⟨K1, K2, K3⟩ := id K
  obtain ⟨k1, k2, k3, k4, k5, k6⟩ := K2 j hj i hi
  obtain ⟨v0, v1⟩ := hN.V hn j hj i hi
  obtain ⟨_, _, w8, w9, _⟩ := hN.1 j hj i hi
  obtain ⟨b1, b2⟩ := Bd_b (n := n) (by omega)
  have hU := zU_pos
  have ok8 : hOK (zL ν 7 (12 * j + i)).toInt (Bd n) (zv (zD ν 8 (12 * j + i))) := ⟨v0, v1, by omega, b2, w8.2.1, w8.2.2⟩
  have ok9 : hOK (zL ν 7 (12 * j + i)).toInt (Bd n) (zv (zD ν 9 (12 * j + i))) := ⟨v0, v1, by omega, b2, w9.2.1, w9.2.2⟩
  obtain ⟨P0, P1, P2, P3, P4, P5⟩ := port_b C K hi hj
  intro p
  induction p with
  | zero =>
    intro _
    show hI _ _ _ (zL κ 7 (12 * j + i)) (zmul (zD κ 17 (12 * j + i)) (FP.l2d (zL κ 16 (12 * j + i)))) 1 0 ∧ hI _ _ _ (zL κ 7 (12 * j + i)) (zmul (zD κ 18 (12 * j + i)) (FP.l2d (zL κ 16 (12 * j + i)))) 1 0 ∧ (zL κ 7 (12 * j + i)).toInt = _ + 0
    rw [k1, k2, k3, k4]
    exact ⟨hI_0 w8.1 ok8, hI_0 w9.1 ok9, by omega⟩
  | succ p ih =>
    intro hp
    obtain ⟨i1, i2, i3⟩ := ih (by omega)
    obtain ⟨⟨m1, m2⟩, m3⟩ := P5 p (by omega)
    show hI _ _ _ (p_port κ w h i j p (zit (p_port κ w h i j) p (c0 κ (12 * j + i)))).1 (p_port κ w h i j p (zit (p_port κ w h i j) p (c0 κ (12 * j + i)))).2.1 (p + 2) (pcn κ w h i j p + bp κ w h i j p) ∧ hI _ _ _ (p_port κ w h i j p (zit (p_port κ w h i j) p (c0 κ (12 * j + i)))).1 (p_port κ w h i j p (zit (p_port κ w h i j) p (c0 κ (12 * j + i)))).2.2.1 (p + 2) (pcn κ w h i j p + bp κ w h i j p) ∧ (p_port κ w h i j p (zit (p_port κ w h i j) p (c0 κ (12 * j + i)))).1.toInt = _ + (zsu (fun p => (pM κ w h i j p).toInt) p + (pM κ w h i j p).toInt)
    have pc : pcn κ w h i j p ≤ p := by
      have : ∀ q, pcn κ w h i j q ≤ q := fun q => by
        induction q with
        | zero => exact Nat.le_refl _
        | succ q ih =>
          show pcn κ w h i j q + bp κ w h i j q ≤ q + 1
          have : bp κ w h i j q ≤ 1 := by unfold bp; split <;> omega
          omega
      exact this p
    generalize zit (p_port κ w h i j) p (c0 κ (12 * j + i)) = x at *
    by_cases e : pE κ w h i j p = 0
    · have e1 : p_port κ w h i j p x = x := if_pos e
      have e2 : pM κ w h i j p = 0 := if_pos e
      rw [e1, e2, zi_0]
      exact ⟨i1.mo ok8 (by omega) (by omega), i2.mo ok9 (by omega) (by omega), by omega⟩
    · have e1 : p_port κ w h i j p x = p_pass (pN κ i j p) (zD κ 11 (pF i j p)) (t_ow κ 17 k8 (pO i j p)) (t_ow κ 18 k34 (pO i j p)) (zD κ 17 (12 * j + i)) (zD κ 18 (12 * j + i)) x := if_neg e
      have e2 : pM κ w h i j p = pN κ i j p := if_neg e
      have e3 : bp κ w h i j p = 1 := if_neg e
      obtain ⟨o1, o2, o3⟩ := m3 e
      rw [e2] at m1 m2 ⊢
      rw [e1, e3, k3, k4]
      generalize pN κ i j p = N at *
      unfold p_pass
      by_cases g : 0 < N
      · simp only [if_pos g]
        have g' := zi_lt.mp g
        rw [zi_0] at g'
        obtain ⟨a1, a2⟩ := hI_in ok8 (by omega) i1 (n := N) (by omega) m2 o1.1 o1.2.1 o1.2.2
        obtain ⟨c1, c2⟩ := hI_in ok9 (by omega) i2 (n := N) (by omega) m2 o2.1 o2.2.1 o2.2.2
        exact ⟨a1.mo ok8 (by omega) (by omega), c1.mo ok9 (by omega) (by omega), by omega⟩
      · simp only [if_neg g]
        rw [zi_lt, zi_0] at g
        obtain ⟨a1, a2⟩ := hI_out ok8 (by omega) (by omega) i1 (n := N) (by omega) m1 w8.1
        obtain ⟨c1, c2⟩ := hI_out ok9 (by omega) (by omega) i2 (n := N) (by omega) m1 w9.1
        exact ⟨a1, c1, by omega⟩
