/-! a cell of the class and its cell of the model, through a step -/
def cAll (μ β : ZMem) (w h hr : Nat) (v : UInt64) (k : Nat) : Nat → SV → SV := c_all w h (q_fl μ β w h hr v) (fun r => zD μ r 3) (fun r => zD μ r 4) (fun n => s_exists μ (2000 + n)) (e_sp β w h hr v) k
theorem wc_rel {n w h hr : Nat} {v : UInt64} {μ ν κ : ZMem} (C : rCx n w h hr v μ ν) (K : kCx w h hr v ν κ) {i j : Nat} (hi : i < w) (hj : j < h) : zq (zD μ (1000 + (j * w + i)) 3) (zD κ 17 (12 * j + i)) ∧ zq (zD μ (1000 + (j * w + i)) 4) (zD κ 18 (12 * j + i)) ∧ zfi (zD κ 17 (12 * j + i)) ∧ zfi (zD κ 18 (12 * j + i)) := by
  obtain ⟨⟨hd, hn, hh, hhr, hN⟩, hg, hC, _⟩ := C
  obtain ⟨_, _, k3, k4, _⟩ := K.2.1 j hj i hi
  obtain ⟨_, _, _, r3, r4, _⟩ := hC j hj i hi
  obtain ⟨_, _, b3, b4, _⟩ := hN.1 j hj i hi
  rw [k3, k4]
  exact ⟨r3, r4, b3.1, b4.1⟩
theorem so_ne {a b : Nat} (h : a ≠ b) : ¬ some a = some b := fun e => h (Option.some.inj e)
theorem q_nmin {n w h hr : Nat} {v : UInt64} {μ ν κ : ZMem} (C : rCx n w h hr v μ ν) (K : kCx w h hr v ν κ) {i j : Nat} (hi : i < w) (hj : j < h) : (∀ k, k < 2 → (zL κ 19 (144 * k + (12 * j + i))).toInt ≠ -2 ^ 63) ∧ ∀ s, s < 4 → atP w h i j s → (zL κ 19 (sfN i j s)).toInt ≠ -2 ^ 63 := by
  obtain ⟨N, _⟩ := C
  obtain ⟨hd, hn, hh, hhr, hN⟩ := id N
  have hV := hN.V hn
  obtain ⟨v0, v1⟩ := hV j hj i hi
  have z0 := zi_0
  refine ⟨fun k hk => ?_, fun s hs ha => ?_⟩
  · obtain ⟨a1, a2, _⟩ := fA_b N hi hj (K.2.2 j hj i hi) hk
    by_cases f : t_hasFace ν w h (nI i) (nI j) (nI k) = 0
    · rw [a1 f]
      omega
    · obtain ⟨b1, b2⟩ := a2 f
      have hx : 0 ≤ (zL ν 7 (fNx i j k)).toInt ∧ (zL ν 7 (fNx i j k)).toInt < 2 ^ 61 := by
        rcases (show k = 0 ∨ k = 1 by omega) with rfl | rfl
        · rw [show fNx i j 0 = 12 * j + (i + 1) from if_pos rfl]
          exact hV j hj (i + 1) ((hF0 hd hi hj).mp f).1
        · rw [show fNx i j 1 = 12 * (j + 1) + i from if_neg (by decide)]
          exact hV (j + 1) ((hF1 hd hi hj).mp f).1 i hi
      omega
  · obtain ⟨_, ⟨a2, a3⟩, _⟩ := fS_b N hi hj (K.2.2 j hj i hi) hs ha
    intro e
    unfold t_comes at a2 a3
    have en : (-(zL κ 19 (sfN i j s))).toInt = -2 ^ 63 := by
      rw [Int64.toInt_neg, e]
      decide
    split at a2
    · omega
    · split at a2
      · omega
      · omega
theorem pp_eq (κ : ZMem) (w h i j p : Nat) (y : CV) : p_port κ w h i j p y = if pE κ w h i j p = 0 then y else p_pass (pN κ i j p) (zD κ 11 (pF i j p)) (t_ow κ 17 k8 (pO i j p)) (t_ow κ 18 k34 (pO i j p)) (zD κ 17 (12 * j + i)) (zD κ 18 (12 * j + i)) y := rfl
theorem stW {n w h hr : Nat} {v : UInt64} {μ ν κ : ZMem} (C : rCx n w h hr v μ ν) (K : kCx w h hr v ν κ) {i j : Nat} (hi : i < w) (hj : j < h) (h1 : 1 ≤ i) {s : SV} {y : CV} (hR : cRel s y) : cRel (cAll μ (mBeg (w * h) μ) w h hr v (j * w + i) (nA0 w (i - 1) j) s) (p_port κ w h i j 0 y) := by
  have hd := C.1.1
  have e1 : i - 1 + 1 = i := by omega
  obtain ⟨f1, f2, f3, f4⟩ := frel_A0 C K (show i - 1 + 1 < w by omega) hj
  obtain ⟨a1, a2, _, _⟩ := face_A0 (w := w) (h := h) (i := i - 1) (j := j) hd (by omega) hj
  rw [show j * w + (i - 1) + 1 = j * w + i by omega] at a2
  obtain ⟨o1, o2, _, _⟩ := wc_rel C K (show i - 1 < w by omega) hj
  obtain ⟨p1, p2, p3, p4⟩ := wc_rel C K hi hj
  have R := port_bh (W := fun r => zD μ r 3) (S := fun r => zD μ r 4) (Q := q_fl μ (mBeg (w * h) μ) w h hr v) (EX := fun n => s_exists μ (2000 + n)) (SP := e_sp (mBeg (w * h) μ) w h hr v) (k := j * w + i) (wO := zD κ 17 (12 * j + (i - 1))) (sO := zD κ 18 (12 * j + (i - 1))) a2 (by rw [a1]; exact so_ne (by omega)) f1 (fun q => f2.trans (f4 q).2) f3 (by rw [a1]; exact o1) (by rw [a1]; exact o2) p1 p2 p3 p4 hR
  rw [f2] at R
  rw [pp_eq, pE_0, pN_0, pF_0, pO_0, if_neg (show ¬ nI i ≤ 0 from fun q => by have := (nI_p (show i < 12 by have := hd.2.1; omega)).mp q; omega), hf_cg K.1]
  exact R
theorem stE {n w h hr : Nat} {v : UInt64} {μ ν κ : ZMem} (C : rCx n w h hr v μ ν) (K : kCx w h hr v ν κ) {i j : Nat} (hi : i + 1 < w) (hj : j < h) {s : SV} {y : CV} (hR : cRel s y) : cRel (cAll μ (mBeg (w * h) μ) w h hr v (j * w + i) (nA0 w i j) s) (p_port κ w h i j 1 y) := by
  have hd := C.1.1
  obtain ⟨f1, f2, f3, f4⟩ := frel_A0 C K hi hj
  obtain ⟨a1, a2, _, _⟩ := face_A0 (w := w) (h := h) (i := i) (j := j) hd hi hj
  obtain ⟨o1, o2, _, _⟩ := wc_rel C K hi hj
  rw [show j * w + (i + 1) = j * w + i + 1 by omega] at o1 o2
  obtain ⟨p1, p2, p3, p4⟩ := wc_rel C K (show i < w by omega) hj
  have nm := (q_nmin C K (show i < w by omega) hj).1 0 (by decide)
  rw [show 144 * 0 + (12 * j + i) = 12 * j + i by omega] at nm
  have R := port_bf (W := fun r => zD μ r 3) (S := fun r => zD μ r 4) (Q := q_fl μ (mBeg (w * h) μ) w h hr v) (EX := fun n => s_exists μ (2000 + n)) (SP := e_sp (mBeg (w * h) μ) w h hr v) (k := j * w + i) (wO := zD κ 17 (12 * j + (i + 1))) (sO := zD κ 18 (12 * j + (i + 1))) a1 (by rw [a2]; exact so_ne (by omega)) f1 (fun q => f2.trans (f4 q).2) f3 (by rw [a2]; exact o1) (by rw [a2]; exact o2) p1 p2 p3 p4 (by rw [f2]; exact nm) hR
  rw [f2] at R
  rw [pp_eq, pE_1, pN_1, pF_1, pO_1, hf_cg K.1]
  exact R
theorem stN {n w h hr : Nat} {v : UInt64} {μ ν κ : ZMem} (C : rCx n w h hr v μ ν) (K : kCx w h hr v ν κ) {i j : Nat} (hi : i < w) (hj : j < h) (h1 : 1 ≤ j) {s : SV} {y : CV} (hR : cRel s y) : cRel (cAll μ (mBeg (w * h) μ) w h hr v (j * w + i) (nA1 w h i (j - 1)) s) (p_port κ w h i j 2 y) := by
  have hd := C.1.1
  have ej : (j - 1) * w + i + w = j * w + i := by
    have : j = (j - 1) + 1 := by omega
    have e := Nat.succ_mul (j - 1) w
    rw [show (j - 1).succ = j by omega] at e
    omega
  obtain ⟨f1, f2, f3, f4⟩ := frel_A1 C K hi (show j - 1 + 1 < h by omega)
  obtain ⟨a1, a2, _, _⟩ := face_A1 (w := w) (h := h) (i := i) (j := j - 1) hd hi (by omega)
  rw [ej] at a2
  obtain ⟨o1, o2, _, _⟩ := wc_rel C K hi (show j - 1 < h by omega)
  obtain ⟨p1, p2, p3, p4⟩ := wc_rel C K hi hj
  have R := port_bh (W := fun r => zD μ r 3) (S := fun r => zD μ r 4) (Q := q_fl μ (mBeg (w * h) μ) w h hr v) (EX := fun n => s_exists μ (2000 + n)) (SP := e_sp (mBeg (w * h) μ) w h hr v) (k := j * w + i) (wO := zD κ 17 (12 * (j - 1) + i)) (sO := zD κ 18 (12 * (j - 1) + i)) a2 (by rw [a1]; exact so_ne (by omega)) f1 (fun q => f2.trans (f4 q).2) f3 (by rw [a1]; exact o1) (by rw [a1]; exact o2) p1 p2 p3 p4 hR
  rw [f2] at R
  rw [pp_eq, pE_2, pN_2, pF_2, pO_2, if_neg (show ¬ nI j ≤ 0 from fun q => by have := (nI_p (show j < 12 by have := hd.2.2.2; omega)).mp q; omega), hf_cg K.1]
  exact R
theorem stS {n w h hr : Nat} {v : UInt64} {μ ν κ : ZMem} (C : rCx n w h hr v μ ν) (K : kCx w h hr v ν κ) {i j : Nat} (hi : i < w) (hj : j + 1 < h) {s : SV} {y : CV} (hR : cRel s y) : cRel (cAll μ (mBeg (w * h) μ) w h hr v (j * w + i) (nA1 w h i j) s) (p_port κ w h i j 3 y) := by
  have hd := C.1.1
  obtain ⟨f1, f2, f3, f4⟩ := frel_A1 C K hi hj
  obtain ⟨a1, a2, _, _⟩ := face_A1 (w := w) (h := h) (i := i) (j := j) hd hi hj
  obtain ⟨o1, o2, _, _⟩ := wc_rel C K hi hj
  rw [show (j + 1) * w + i = j * w + i + w by rw [Nat.succ_mul]; omega] at o1 o2
  obtain ⟨p1, p2, p3, p4⟩ := wc_rel C K hi (show j < h by omega)
  have nm := (q_nmin C K hi (show j < h by omega)).1 1 (by decide)
  rw [show 144 * 1 + (12 * j + i) = 144 + (12 * j + i) by omega] at nm
  have R := port_bf (W := fun r => zD μ r 3) (S := fun r => zD μ r 4) (Q := q_fl μ (mBeg (w * h) μ) w h hr v) (EX := fun n => s_exists μ (2000 + n)) (SP := e_sp (mBeg (w * h) μ) w h hr v) (k := j * w + i) (wO := zD κ 17 (12 * (j + 1) + i)) (sO := zD κ 18 (12 * (j + 1) + i)) a1 (by rw [a2]; exact so_ne (by have := hd.1; omega)) f1 (fun q => f2.trans (f4 q).2) f3 (by rw [a2]; exact o1) (by rw [a2]; exact o2) p1 p2 p3 p4 (by rw [f2]; exact nm) hR
  rw [f2] at R
  rw [pp_eq, pE_3, pN_3, pF_3, pO_3, hf_cg K.1]
  exact R
theorem atP_IJ {w h i j s : Nat} (hd : zDim w h) (hi : i < w) (hj : j < h) (hs : s < 4) (ha : atP w h i j s) : (if s < 2 then j else i) < (if s < 2 then h else w) ∧ sI w s (if s < 2 then j else i) = i ∧ sJ h s (if s < 2 then j else i) = j := by
  obtain ⟨d1, d2, d3, d4⟩ := hd
  unfold atP at ha
  unfold sI sJ
  rcases (show s = 0 ∨ s = 1 ∨ s = 2 ∨ s = 3 by omega) with rfl | rfl | rfl | rfl <;> simp at ha ⊢ <;> omega
theorem stB {n w h hr : Nat} {v : UInt64} {μ ν κ : ZMem} (C : rCx n w h hr v μ ν) (K : kCx w h hr v ν κ) {i j s : Nat} (hi : i < w) (hj : j < h) (hs : s < 4) (ha : atP w h i j s) {x : SV} {y : CV} (hR : cRel x y) : cRel (cAll μ (mBeg (w * h) μ) w h hr v (j * w + i) (nSd4 w h s (if s < 2 then j else i)) x) (p_port κ w h i j (s + 4) y) := by
  have hd := C.1.1
  obtain ⟨ht, eI, eJ⟩ := atP_IJ hd hi hj hs ha
  obtain ⟨f1, f2, f3, f4⟩ := frel_S C K hs ht
  obtain ⟨a1, a2, _, _⟩ := face_S hd hs ht
  rw [eI, eJ] at f1 f2 f3 f4 a1 a2
  obtain ⟨p1, p2, p3, p4⟩ := wc_rel C K hi hj
  have nm := (q_nmin C K hi hj).2 s hs ha
  rw [pp_eq, pE_s, pN_s, pF_s, pO_s, hs_cg K.1]
  by_cases z : s = 0 ∨ s = 2
  · rw [if_pos z] at a1 a2
    have R := port_bh (W := fun r => zD μ r 3) (S := fun r => zD μ r 4) (Q := q_fl μ (mBeg (w * h) μ) w h hr v) (EX := fun n => s_exists μ (2000 + n)) (SP := e_sp (mBeg (w * h) μ) w h hr v) (k := j * w + i) (wO := k8) (sO := k34) a2 (by rw [a1]; simp) f1 (fun q => f2.trans (f4 q).2) f3 (by rw [a1]; exact zq.rf _) (by rw [a1]; exact zq.rf _) p1 p2 p3 p4 hR
    rw [f2] at R
    have e : t_comes κ (sfN i j s) s = zL κ 19 (sfN i j s) := by
      rcases z with rfl | rfl <;> rfl
    rw [e]
    exact R
  · rw [if_neg z] at a1 a2
    have R := port_bf (W := fun r => zD μ r 3) (S := fun r => zD μ r 4) (Q := q_fl μ (mBeg (w * h) μ) w h hr v) (EX := fun n => s_exists μ (2000 + n)) (SP := e_sp (mBeg (w * h) μ) w h hr v) (k := j * w + i) (wO := k8) (sO := k34) a1 (by rw [a2]; simp) f1 (fun q => f2.trans (f4 q).2) f3 (by rw [a2]; exact zq.rf _) (by rw [a2]; exact zq.rf _) p1 p2 p3 p4 (by rw [f2]; exact nm) hR
    rw [f2] at R
    have e : t_comes κ (sfN i j s) s = -(zL κ 19 (sfN i j s)) := by
      rcases (show s = 1 ∨ s = 3 by omega) with rfl | rfl <;> rfl
    rw [e]
    exact R
theorem cell_r0 {n w h hr : Nat} {v : UInt64} {μ ν κ : ZMem} (C : rCx n w h hr v μ ν) (K : kCx w h hr v ν κ) {i j : Nat} (hi : i < w) (hj : j < h) {x : SV} {y : CV} (hR : cRel x y) : cRel (zit (cAll μ (mBeg (w * h) μ) w h hr v (j * w + i)) (fc0 w h) x) (p_port κ w h i j 1 (p_port κ w h i j 0 y)) := by
  have hd := C.1.1
  obtain ⟨d1, d2, d3, d4⟩ := id hd
  have idn : ∀ m, ¬ fBef w h m = some (1000 + (j * w + i)) → ¬ fBeh w h m = some (1000 + (j * w + i)) → ∀ s, cAll μ (mBeg (w * h) μ) w h hr v (j * w + i) m s = s := fun m h0 h1 s => c_all_id h0 h1 s
  generalize hc : cAll μ (mBeg (w * h) μ) w h hr v (j * w + i) = c at *
  have l10 := fc0_1 hd
  -- axis 0
  have b1le : j * (w - 1) + i ≤ fc0 w h := by
    have : (j + 1) * (w - 1) ≤ h * (w - 1) := Nat.mul_le_mul_right _ (by omega)
    unfold fc0
    rw [Nat.succ_mul, Nat.mul_comm h] at this
    omega
  have R1 : cRel (zit c (j * (w - 1) + i) x) (p_port κ w h i j 0 y) := by
    by_cases g : 1 ≤ i
    · rw [zit_one (a := 0) (t := nA0 w (i - 1) j) (Nat.zero_le _) (by unfold nA0; omega) (fun m _ hm ne s => idn m (fun q => by
        have := ((incA0 hd hi (show m < fc0 w h by omega)).1 q).2
        unfold nA0 at this
        omega) (fun q => ne ((incA0 hd hi (show m < fc0 w h by omega)).2 q).2) s) x]
      subst hc
      exact stW C K hi hj g hR
    · rw [zit_ids (a := 0) _ (Nat.zero_le _) (fun m _ hm s => idn m (fun q => by
        have := ((incA0 hd hi (show m < fc0 w h by omega)).1 q).2
        unfold nA0 at this
        omega) (fun q => g ((incA0 hd hi (show m < fc0 w h by omega)).2 q).1) s) x]
      rw [pp_eq, pE_0, if_pos ((nI_p (by omega)).mpr (by omega)), if_pos rfl]
      exact hR
  have R2 : cRel (zit c (fc0 w h) x) (p_port κ w h i j 1 (p_port κ w h i j 0 y)) := by
    by_cases g : i + 1 < w
    · rw [zit_one (a := j * (w - 1) + i) (t := nA0 w i j) (Nat.le_refl _) (nA0_lt g hj) (fun m m1 hm ne s => idn m (fun q => ne ((incA0 hd hi hm).1 q).2) (fun q => by
        have := ((incA0 hd hi hm).2 q)
        unfold nA0 at this
        omega) s) x]
      subst hc
      exact stE C K g hj R1
    · rw [zit_ids (a := j * (w - 1) + i) _ b1le (fun m m1 hm s => idn m (fun q => g ((incA0 hd hi hm).1 q).1) (fun q => by
        have := ((incA0 hd hi hm).2 q)
        unfold nA0 at this
        omega) s) x]
      have e : pE κ w h i j 1 = 0 := by
        rw [pE_1, hf_cg K.1]
        by_cases f : t_hasFace ν w h (nI i) (nI j) 0 = 0
        · exact f
        · exact absurd ((hF0 hd hi hj).mp f).1 g
      rw [pp_eq κ w h i j 1, e, if_pos rfl]
      exact R1
  exact R2
theorem cell_r1 {n w h hr : Nat} {v : UInt64} {μ ν κ : ZMem} (C : rCx n w h hr v μ ν) (K : kCx w h hr v ν κ) {i j : Nat} (hi : i < w) (hj : j < h) {x : SV} {y : CV} (R2 : cRel (zit (cAll μ (mBeg (w * h) μ) w h hr v (j * w + i)) (fc0 w h) x) (p_port κ w h i j 1 (p_port κ w h i j 0 y))) : cRel (zit (cAll μ (mBeg (w * h) μ) w h hr v (j * w + i)) (fc1 w h) x) (p_port κ w h i j 3 (p_port κ w h i j 2 (p_port κ w h i j 1 (p_port κ w h i j 0 y)))) := by
  have hd := C.1.1
  obtain ⟨d1, d2, d3, d4⟩ := id hd
  have idn : ∀ m, ¬ fBef w h m = some (1000 + (j * w + i)) → ¬ fBeh w h m = some (1000 + (j * w + i)) → ∀ s, cAll μ (mBeg (w * h) μ) w h hr v (j * w + i) m s = s := fun m h0 h1 s => c_all_id h0 h1 s
  generalize hc : cAll μ (mBeg (w * h) μ) w h hr v (j * w + i) = c at *
  have l10 := fc0_1 hd
  -- axis 1
  have R3 : cRel (zit c (fc0 w h + (if j + 1 < h then j * w + i else w * (h - 1))) x) (p_port κ w h i j 2 (p_port κ w h i j 1 (p_port κ w h i j 0 y))) := by
    have hle : fc0 w h + (if j + 1 < h then j * w + i else w * (h - 1)) ≤ fc1 w h := by
      unfold fc1
      split
      · have := glt (w := w) (h := h - 1) hi (show j < h - 1 by omega)
        omega
      · omega
    have noB : ∀ m, m < fc0 w h + (if j + 1 < h then j * w + i else w * (h - 1)) → fc0 w h ≤ m → ¬ fBef w h m = some (1000 + (j * w + i)) := fun m hm h0 q => by
      obtain ⟨u1, u2⟩ := (incA1 hd hi h0 (show m < fc1 w h by omega)).1 q
      rw [if_pos u1] at hm
      unfold nA1 at u2
      omega
    by_cases g : 1 ≤ j
    · have tl : nA1 w h i (j - 1) < fc0 w h + (if j + 1 < h then j * w + i else w * (h - 1)) := by
        have e := Nat.succ_mul (j - 1) w
        rw [show (j - 1).succ = j by omega] at e
        unfold nA1
        split
        · omega
        · have : j = h - 1 := by omega
          subst this
          rw [Nat.mul_comm w]
          omega
      rw [zit_one (a := fc0 w h) (t := nA1 w h i (j - 1)) (by unfold nA1; omega) tl (fun m m1 hm ne s => idn m (noB m hm m1) (fun q => ne ((incA1 hd hi m1 (show m < fc1 w h by omega)).2 q).2) s) x]
      subst hc
      exact stN C K hi hj g R2
    · rw [zit_ids (a := fc0 w h) _ (by omega) (fun m m1 hm s => idn m (noB m hm m1) (fun q => g ((incA1 hd hi m1 (show m < fc1 w h by omega)).2 q).1) s) x]
      have e : pE κ w h i j 2 = 0 := by rw [pE_2, if_pos ((nI_p (by omega)).mpr (by omega))]
      rw [pp_eq κ w h i j 2, e, if_pos rfl]
      exact R2
  have R4 : cRel (zit c (fc1 w h) x) (p_port κ w h i j 3 (p_port κ w h i j 2 (p_port κ w h i j 1 (p_port κ w h i j 0 y)))) := by
    by_cases g : j + 1 < h
    · rw [if_pos g] at R3
      have noH : ∀ m, fc0 w h + (j * w + i) ≤ m → m < fc1 w h → ¬ fBeh w h m = some (1000 + (j * w + i)) := fun m m1 hm q => by
        obtain ⟨u1, u2⟩ := (incA1 hd hi (show fc0 w h ≤ m by omega) hm).2 q
        have e := Nat.succ_mul (j - 1) w
        rw [show (j - 1).succ = j by omega] at e
        unfold nA1 at u2
        omega
      rw [zit_one (a := fc0 w h + (j * w + i)) (t := nA1 w h i j) (Nat.le_refl _) (nA1_lt hi g).2 (fun m m1 hm ne s => idn m (fun q => ne ((incA1 hd hi (show fc0 w h ≤ m by omega) hm).1 q).2) (noH m m1 hm) s) x]
      subst hc
      exact stS C K hi g R3
    · rw [if_neg g] at R3
      have e : pE κ w h i j 3 = 0 := by
        rw [pE_3, hf_cg K.1]
        by_cases f : t_hasFace ν w h (nI i) (nI j) 1 = 0
        · exact f
        · exact absurd ((hF1 hd hi hj).mp f).1 g
      rw [pp_eq κ w h i j 3, e, if_pos rfl]
      exact R3
  exact R4
theorem cell_rs {n w h hr : Nat} {v : UInt64} {μ ν κ : ZMem} (C : rCx n w h hr v μ ν) (K : kCx w h hr v ν κ) {i j : Nat} (hi : i < w) (hj : j < h) {x : SV} {z : CV} {s : Nat} (hs : s < 4) (hz : cRel (zit (cAll μ (mBeg (w * h) μ) w h hr v (j * w + i)) (cs4 w h s) x) z) : cRel (zit (cAll μ (mBeg (w * h) μ) w h hr v (j * w + i)) (cs4 w h (s + 1)) x) (p_port κ w h i j (s + 4) z) := by
  have hd := C.1.1
  obtain ⟨d1, d2, d3, d4⟩ := id hd
  have idn : ∀ m, ¬ fBef w h m = some (1000 + (j * w + i)) → ¬ fBeh w h m = some (1000 + (j * w + i)) → ∀ s, cAll μ (mBeg (w * h) μ) w h hr v (j * w + i) m s = s := fun m h0 h1 s => c_all_id h0 h1 s
  generalize hc : cAll μ (mBeg (w * h) μ) w h hr v (j * w + i) = c at *
  have l10 := fc0_1 hd
  have mono : cs4 w h s ≤ cs4 w h (s + 1) := by
    unfold cs4
    rcases (show s = 0 ∨ s = 1 ∨ s = 2 ∨ s = 3 by omega) with rfl | rfl | rfl | rfl <;> simp <;> omega
  by_cases g : atP w h i j s
  · obtain ⟨ht, eI, eJ⟩ := atP_IJ hd hi hj hs g
    obtain ⟨t1, t2⟩ := cs4_in hs ht
    rw [zit_one (a := cs4 w h s) t1 t2 (fun m m1 hm ne u => by
      obtain ⟨t, ht', rfl⟩ := cs4_t hs m1 hm
      have no : ∀ q : fBef w h (nSd4 w h s t) = some (1000 + (j * w + i)) ∨ fBeh w h (nSd4 w h s t) = some (1000 + (j * w + i)), False := fun q => by
        obtain ⟨y1, y2⟩ := incS hd hi hs ht' q
        apply ne
        have : t = if s < 2 then j else i := by
          unfold sI at y1
          unfold sJ at y2
          rcases (show s = 0 ∨ s = 1 ∨ s = 2 ∨ s = 3 by omega) with rfl | rfl | rfl | rfl <;> simp at y1 y2 ⊢ <;> omega
        rw [this]
      exact idn _ (fun q => no (Or.inl q)) (fun q => no (Or.inr q)) u) x]
    subst hc
    exact stB C K hi hj hs g hz
  · rw [zit_ids (a := cs4 w h s) _ mono (fun m m1 hm u => by
      obtain ⟨t, ht', rfl⟩ := cs4_t hs m1 hm
      have no : ∀ q : fBef w h (nSd4 w h s t) = some (1000 + (j * w + i)) ∨ fBeh w h (nSd4 w h s t) = some (1000 + (j * w + i)), False := fun q => by
        obtain ⟨y1, y2⟩ := incS hd hi hs ht' q
        have := (sIJ hd hs ht').2.2.1
        rw [y1, y2] at this
        exact g this
      exact idn _ (fun q => no (Or.inl q)) (fun q => no (Or.inr q)) u) x]
    have e : pE κ w h i j (s + 4) = 0 := by
      rw [pE_s, hs_cg K.1]
      by_cases f : t_hasSide ν w h (nI i) (nI j) s = 0
      · exact f
      · exact absurd ((hSd hd hi hj hs).mp f).2.1 g
    rw [pp_eq κ w h i j (s + 4), e, if_pos rfl]
    exact hz
theorem zit_8 {σ : Type} (P : Nat → σ → σ) (y : σ) : zit P 8 y = P 7 (P 6 (P 5 (P 4 (P 3 (P 2 (P 1 (P 0 y))))))) := rfl
/-- all of a cell's faces -/
theorem cell_rel {n w h hr : Nat} {v : UInt64} {μ ν κ : ZMem} (C : rCx n w h hr v μ ν) (K : kCx w h hr v ν κ) {i j : Nat} (hi : i < w) (hj : j < h) {x : SV} {y : CV} (hR : cRel x y) : cRel (zit (cAll μ (mBeg (w * h) μ) w h hr v (j * w + i)) (fcA w h) x) (zit (p_port κ w h i j) 8 y) := by
  have R4 := cell_r1 C K hi hj (cell_r0 C K hi hj hR)
  have c0e : cs4 w h 0 = fc1 w h := rfl
  have c4e : cs4 w h 4 = fcA w h := by
    unfold cs4 fcA
    simp
    omega
  rw [← c0e] at R4
  have R5 := cell_rs C K hi hj (s := 0) (by decide) R4
  have R6 := cell_rs C K hi hj (s := 1) (by decide) R5
  have R7 := cell_rs C K hi hj (s := 2) (by decide) R6
  have R8 := cell_rs C K hi hj (s := 3) (by decide) R7
  rw [show 3 + 1 = 4 from rfl, c4e, show 3 + 4 = 7 from rfl, show 2 + 4 = 6 from rfl, show 1 + 4 = 5 from rfl] at R8
  rw [zit_8]
  exact R8
