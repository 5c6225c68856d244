/-! a cell's faces of the class beside the ports of the model -/
theorem zq_subz {x z : UInt64} (hz : FP.Core.DZero z) (hx : zcn x = x) : zq (zsub x z) x := by
  rw [zsub_eq]
  exact zq_addz (zz_neg hz) hx
theorem l2d_0 : FP.Core.DZero (FP.l2d 0) := zz_iff.mpr ⟨zfi_nn (zfi_l2d 0), by
  have u := (zRd_l2d 0 0 zRep_0).1 (by rw [zi_0]; omega)
  have l := (zRd_l2d 0 0 zRep_0).2 (by rw [zi_0]; omega)
  omega⟩
theorem t_size_cn {v : UInt64} (h : zcn v = v) : zcn (t_size v) = t_size v := by
  unfold t_size
  split
  · exact zcn_cn _
  · exact h
abbrev SV : Type := TV × UInt64
def c_all (w h : Nat) (Q : Nat → Int64) (W S : Nat → UInt64) (EX : Nat → Int32) (SP : Nat → UInt64) (k n : Nat) (s : SV) : SV := (c_car w h Q W S k n s.1, c_feel w h EX SP k n s.2)
theorem c_all_it (w h : Nat) (Q : Nat → Int64) (W S : Nat → UInt64) (EX : Nat → Int32) (SP : Nat → UInt64) (k : Nat) (x : TV) (y : UInt64) : ∀ n, zit (c_all w h Q W S EX SP k) n (x, y) = (zit (c_car w h Q W S k) n x, zit (c_feel w h EX SP k) n y)
  | 0 => rfl
  | n + 1 => by
    show c_all w h Q W S EX SP k n (zit (c_all w h Q W S EX SP k) n (x, y)) = _
    rw [c_all_it w h Q W S EX SP k x y n]
    rfl
def cRel (s : SV) (y : CV) : Prop := s.1.1 = y.1 ∧ zq s.1.2.1 y.2.1 ∧ zq s.1.2.2 y.2.2.1 ∧ zq s.2 y.2.2.2 ∧ zfi s.2 ∧ zcn y.2.1 = y.2.1 ∧ zcn y.2.2.1 = y.2.2.1 ∧ zcn y.2.2.2 = y.2.2.2
theorem c_all_id {w h k n : Nat} {Q : Nat → Int64} {W S : Nat → UInt64} {EX : Nat → Int32} {SP : Nat → UInt64} (h0 : ¬ fBef w h n = some (1000 + k)) (h1 : ¬ fBeh w h n = some (1000 + k)) (s : SV) : c_all w h Q W S EX SP k n s = s := by
  have hf : ¬ x_fr w h (Q n) n = some (1000 + k) := by unfold x_fr; split <;> assumption
  have ht : ¬ x_to w h (Q n) n = some (1000 + k) := by unfold x_to; split <;> assumption
  unfold c_all c_car c_feel t_lose t_gain fl1
  rw [if_neg hf, if_neg ht, if_neg h0, if_neg h1]
  simp
theorem feel_rel {sp sp' x y : UInt64} (hs : zq sp sp') (cs : zcn sp' = sp') (fs : zfi sp') (hx : zq x y) (fx : zfi x) (cy : zcn y = y) : zq (if zgt (s_sizeOf sp) x = true then s_sizeOf sp else x) (s_dmax y (t_size sp')) ∧ zfi (if zgt (s_sizeOf sp) x = true then s_sizeOf sp else x) := by
  have fsp : zfi sp := zq_fi hs.sy fs
  obtain ⟨f1, _, _⟩ := zsize_v fsp
  refine ⟨zq_max hx (zq_size hs (zfi_nn fsp)) (zfi_nn fx) (zfi_nn f1) cy (t_size_cn cs), ?_⟩
  split
  · exact f1
  · exact fx
theorem car_neg {w h k n : Nat} {Q : Nat → Int64} {W S : Nat → UInt64} (x : TV) (hq : Q n < 0) : c_car w h Q W S k n x = t_lose (fBeh w h n = some (1000 + k)) (-(Q n)) (W (1000 + k)) (S (1000 + k)) (t_gain (fBef w h n = some (1000 + k)) (-(Q n)) (w_of k8 W (fBeh w h n)) (w_of k34 S (fBeh w h n)) x) := by
  unfold c_car x_fr x_to s_abs
  rw [if_neg (fun e => by rw [e] at hq; exact absurd hq (by decide))]
  simp only [if_pos hq]
theorem car_pos {w h k n : Nat} {Q : Nat → Int64} {W S : Nat → UInt64} (x : TV) (hq : 0 < Q n) : c_car w h Q W S k n x = t_lose (fBef w h n = some (1000 + k)) (Q n) (W (1000 + k)) (S (1000 + k)) (t_gain (fBeh w h n = some (1000 + k)) (Q n) (w_of k8 W (fBef w h n)) (w_of k34 S (fBef w h n)) x) := by
  have nq : ¬ Q n < 0 := fun e => by have := zi_lt.mp e; have := zi_lt.mp hq; omega
  unfold c_car x_fr x_to s_abs
  rw [if_neg (fun e => by rw [e] at hq; exact absurd hq (by decide))]
  simp only [if_neg nq]
theorem i_tri (q : Int64) : q < 0 ∨ q = 0 ∨ 0 < q := by
  rcases Int.lt_trichotomy q.toInt 0 with g | g | g
  · exact Or.inl (zi_lt.mpr (by rw [zi_0]; exact g))
  · exact Or.inr (Or.inl (Int64.toInt_inj.mp (by rw [zi_0]; exact g)))
  · exact Or.inr (Or.inr (zi_lt.mpr (by rw [zi_0]; exact g)))
/-- a flow of nothing changes nothing, up to a zero's sign -/
theorem none_rel {x y wC : UInt64} (h : zq x y) (hy : zcn y = y) (hw : zfi wC) {z : Int64} (hz : z = 0) : zq x (zsub y (zmul (FP.l2d z) wC)) := by
  rw [hz]
  exact h.tr (zq_subz (zz_mul l2d_0 hw) hy).sy
theorem port_bf {w h k n : Nat} {Q : Nat → Int64} {W S : Nat → UInt64} {EX : Nat → Int32} {SP : Nat → UInt64} {s : SV} {y : CV} {x' : Int32} {sp' wO sO wC sC : UInt64} (hb : fBef w h n = some (1000 + k)) (hb2 : ¬ fBeh w h n = some (1000 + k)) (hex : EX n = x') (hq0 : x' = 0 → Q n = 0) (hsp : ¬ x' = 0 → zq (SP n) sp' ∧ zcn sp' = sp' ∧ zfi sp') (hwo : zq (w_of k8 W (fBeh w h n)) wO) (hso : zq (w_of k34 S (fBeh w h n)) sO) (hwc : zq (W (1000 + k)) wC) (hsc : zq (S (1000 + k)) sC) (fwc : zfi wC) (fsc : zfi sC) (hm : (Q n).toInt ≠ -2 ^ 63) (hR : cRel s y) : cRel (c_all w h Q W S EX SP k n s) (if x' = 0 then y else p_pass (-(Q n)) sp' wO sO wC sC y) := by
  obtain ⟨r1, r2, r3, r4, r5, r6, r7, r8⟩ := hR
  by_cases g : x' = 0
  · rw [if_pos g]
    have e : c_all w h Q W S EX SP k n s = s := by
      unfold c_all c_car c_feel
      rw [if_pos (hq0 g), hex, if_pos g]
    rw [e]
    exact ⟨r1, r2, r3, r4, r5, r6, r7, r8⟩
  · rw [if_neg g]
    obtain ⟨p1, p2, p3⟩ := hsp g
    obtain ⟨f1, f2⟩ := feel_rel p1 p2 p3 r4 r5 r8
    have ef : c_feel w h EX SP k n s.2 = if zgt (s_sizeOf (SP n)) s.2 = true then s_sizeOf (SP n) else s.2 := by
      unfold c_feel fl1
      rw [hex, if_neg g, if_neg hb2, if_pos hb]
    unfold c_all cRel p_pass
    rw [ef]
    have z0 := zi_0
    have en := zi_neg hm
    rcases i_tri (Q n) with z | z | z
    · have ec : c_car w h Q W S k n s.1 = (s.1.1 + -(Q n), zadd s.1.2.1 (zmul (FP.l2d (-(Q n))) (w_of k8 W (fBeh w h n))), zadd s.1.2.2 (zmul (FP.l2d (-(Q n))) (w_of k34 S (fBeh w h n)))) := by
        rw [car_neg _ z]
        unfold t_lose t_gain
        rw [if_neg hb2, if_pos hb]
      have p : (0 : Int64) < -(Q n) := zi_lt.mpr (by have := zi_lt.mp z; omega)
      rw [ec, if_pos p, if_pos p]
      refine ⟨?_, zq_add r2 (zq_mul (zq.rf _) hwo), zq_add r3 (zq_mul (zq.rf _) hso), f1, f2, zcn_cn _, zcn_cn _, zcn_cn _⟩
      show s.1.1 + -(Q n) = y.1 + -(Q n)
      rw [r1]
    · have ec : c_car w h Q W S k n s.1 = s.1 := by
        unfold c_car
        rw [if_pos z]
      have p : ¬ (0 : Int64) < -(Q n) := by
        rw [z]
        decide
      have zz : - -(Q n) = 0 := by
        rw [z]
        decide
      rw [ec, if_neg p, if_neg p]
      refine ⟨?_, none_rel r2 r6 fwc zz, none_rel r3 r7 fsc zz, f1, f2, zcn_cn _, zcn_cn _, zcn_cn _⟩
      show s.1.1 = y.1 + -(Q n)
      rw [z, r1, show (-(0 : Int64)) = 0 by decide, Int64.add_zero]
    · have ec : c_car w h Q W S k n s.1 = (s.1.1 - Q n, zsub s.1.2.1 (zmul (FP.l2d (Q n)) (W (1000 + k))), zsub s.1.2.2 (zmul (FP.l2d (Q n)) (S (1000 + k)))) := by
        rw [car_pos _ z]
        unfold t_lose t_gain
        rw [if_pos hb, if_neg hb2]
      have p : ¬ (0 : Int64) < -(Q n) := fun e => by
        have := zi_lt.mp e
        have := zi_lt.mp z
        omega
      have nn : - -(Q n) = Q n := Int64.neg_neg
      rw [ec, if_neg p, if_neg p, nn]
      refine ⟨?_, zq_sub r2 (zq_mul (zq.rf _) hwc), zq_sub r3 (zq_mul (zq.rf _) hsc), f1, f2, zcn_cn _, zcn_cn _, zcn_cn _⟩
      show s.1.1 - Q n = y.1 + -(Q n)
      rw [r1, Int64.sub_eq_add_neg]
theorem port_bh {w h k n : Nat} {Q : Nat → Int64} {W S : Nat → UInt64} {EX : Nat → Int32} {SP : Nat → UInt64} {s : SV} {y : CV} {x' : Int32} {sp' wO sO wC sC : UInt64} (hb : fBeh w h n = some (1000 + k)) (hb2 : ¬ fBef w h n = some (1000 + k)) (hex : EX n = x') (hq0 : x' = 0 → Q n = 0) (hsp : ¬ x' = 0 → zq (SP n) sp' ∧ zcn sp' = sp' ∧ zfi sp') (hwo : zq (w_of k8 W (fBef w h n)) wO) (hso : zq (w_of k34 S (fBef w h n)) sO) (hwc : zq (W (1000 + k)) wC) (hsc : zq (S (1000 + k)) sC) (fwc : zfi wC) (fsc : zfi sC) (hR : cRel s y) : cRel (c_all w h Q W S EX SP k n s) (if x' = 0 then y else p_pass (Q n) sp' wO sO wC sC y) := by
  obtain ⟨r1, r2, r3, r4, r5, r6, r7, r8⟩ := hR
  by_cases g : x' = 0
  · rw [if_pos g]
    have e : c_all w h Q W S EX SP k n s = s := by
      unfold c_all c_car c_feel
      rw [if_pos (hq0 g), hex, if_pos g]
    rw [e]
    exact ⟨r1, r2, r3, r4, r5, r6, r7, r8⟩
  · rw [if_neg g]
    obtain ⟨p1, p2, p3⟩ := hsp g
    obtain ⟨f1, f2⟩ := feel_rel p1 p2 p3 r4 r5 r8
    have ef : c_feel w h EX SP k n s.2 = if zgt (s_sizeOf (SP n)) s.2 = true then s_sizeOf (SP n) else s.2 := by
      unfold c_feel fl1
      rw [hex, if_neg g, if_neg hb2, if_pos hb]
    unfold c_all cRel p_pass
    rw [ef]
    have z0 := zi_0
    rcases i_tri (Q n) with z | z | z
    · have ec : c_car w h Q W S k n s.1 = (s.1.1 - -(Q n), zsub s.1.2.1 (zmul (FP.l2d (-(Q n))) (W (1000 + k))), zsub s.1.2.2 (zmul (FP.l2d (-(Q n))) (S (1000 + k)))) := by
        rw [car_neg _ z]
        unfold t_lose t_gain
        rw [if_pos hb, if_neg hb2]
      have p : ¬ (0 : Int64) < Q n := fun e => by
        have := zi_lt.mp e
        have := zi_lt.mp z
        omega
      rw [ec, if_neg p, if_neg p]
      refine ⟨?_, zq_sub r2 (zq_mul (zq.rf _) hwc), zq_sub r3 (zq_mul (zq.rf _) hsc), f1, f2, zcn_cn _, zcn_cn _, zcn_cn _⟩
      show s.1.1 - -(Q n) = y.1 + Q n
      rw [r1, Int64.sub_eq_add_neg, Int64.neg_neg]
    · have ec : c_car w h Q W S k n s.1 = s.1 := by
        unfold c_car
        rw [if_pos z]
      have p : ¬ (0 : Int64) < Q n := by
        rw [z]
        decide
      have zz : -(Q n) = 0 := by
        rw [z]
        decide
      rw [ec, if_neg p, if_neg p]
      refine ⟨?_, none_rel r2 r6 fwc zz, none_rel r3 r7 fsc zz, f1, f2, zcn_cn _, zcn_cn _, zcn_cn _⟩
      show s.1.1 = y.1 + Q n
      rw [z, r1, Int64.add_zero]
    · have ec : c_car w h Q W S k n s.1 = (s.1.1 + Q n, zadd s.1.2.1 (zmul (FP.l2d (Q n)) (w_of k8 W (fBef w h n))), zadd s.1.2.2 (zmul (FP.l2d (Q n)) (w_of k34 S (fBef w h n)))) := by
        rw [car_pos _ z]
        unfold t_lose t_gain
        rw [if_neg hb2, if_pos hb]
      rw [ec, if_pos z, if_pos z]
      refine ⟨?_, zq_add r2 (zq_mul (zq.rf _) hwo), zq_add r3 (zq_mul (zq.rf _) hso), f1, f2, zcn_cn _, zcn_cn _, zcn_cn _⟩
      show s.1.1 + Q n = y.1 + Q n
      rw [r1]
/-! which faces touch a cell -/
theorem incA0 {w h i j n : Nat} (hd : zDim w h) (hi : i < w) (hn : n < fc0 w h) : (fBef w h n = some (1000 + (j * w + i)) → i + 1 < w ∧ n = nA0 w i j) ∧ (fBeh w h n = some (1000 + (j * w + i)) → 1 ≤ i ∧ n = nA0 w (i - 1) j) := by
  obtain ⟨g1, g2, g3⟩ := gm (w := w - 1) (h := h) (k := n) hn
  have e : n = nA0 w (n % (w - 1)) (n / (w - 1)) := g3
  obtain ⟨a, b, _, _⟩ := face_A0 (w := w) (h := h) (i := n % (w - 1)) (j := n / (w - 1)) hd (by omega) g2
  rw [← e] at a b
  generalize n % (w - 1) = i' at *
  generalize n / (w - 1) = j' at *
  constructor
  · intro q
    rw [a] at q
    have q2 := Option.some.inj q
    obtain ⟨u1, u2⟩ := gu (w := w) (i := i) (j := j) (i' := i') (j' := j') hi (by omega) (by omega)
    subst u1 u2
    exact ⟨by omega, e⟩
  · intro q
    rw [b] at q
    have q2 := Option.some.inj q
    obtain ⟨u1, u2⟩ := gu (w := w) (i := i) (j := j) (i' := i' + 1) (j' := j') hi (by omega) (by omega)
    subst u1 u2
    exact ⟨by omega, by rw [Nat.add_sub_cancel]; exact e⟩
theorem incA1 {w h i j n : Nat} (hd : zDim w h) (hi : i < w) (hn0 : fc0 w h ≤ n) (hn : n < fc1 w h) : (fBef w h n = some (1000 + (j * w + i)) → j + 1 < h ∧ n = nA1 w h i j) ∧ (fBeh w h n = some (1000 + (j * w + i)) → 1 ≤ j ∧ n = nA1 w h i (j - 1)) := by
  have c : n - fc0 w h < w * (h - 1) := by
    have e : fc1 w h = fc0 w h + w * (h - 1) := rfl
    rw [e] at hn
    omega
  obtain ⟨g1, g2, g3⟩ := gm c
  have e : n = nA1 w h ((n - fc0 w h) % w) ((n - fc0 w h) / w) := by unfold nA1; omega
  obtain ⟨a, b, _, _⟩ := face_A1 (w := w) (h := h) (i := (n - fc0 w h) % w) (j := (n - fc0 w h) / w) hd g1 (Nat.add_lt_of_lt_sub g2)
  rw [← e] at a b
  generalize (n - fc0 w h) % w = i' at *
  generalize (n - fc0 w h) / w = j' at *
  constructor
  · intro q
    rw [a] at q
    have q2 := Option.some.inj q
    obtain ⟨u1, u2⟩ := gu (w := w) (i := i) (j := j) (i' := i') (j' := j') hi (by omega) (by omega)
    subst u1 u2
    exact ⟨by omega, e⟩
  · intro q
    rw [b] at q
    have q2 := Option.some.inj q
    obtain ⟨u1, u2⟩ := gu (w := w) (i := i) (j := j) (i' := i') (j' := j' + 1) hi (by omega) (by rw [Nat.succ_mul]; omega)
    subst u1 u2
    exact ⟨by omega, by rw [Nat.add_sub_cancel]; exact e⟩
def cs4 (w h s : Nat) : Nat := fc1 w h + (if s = 0 then 0 else if s = 1 then h else if s = 2 then 2 * h else if s = 3 then 2 * h + w else 2 * h + 2 * w)
theorem cs4_t {w h s n : Nat} (hs : s < 4) (h0 : cs4 w h s ≤ n) (h1 : n < cs4 w h (s + 1)) : ∃ t, t < (if s < 2 then h else w) ∧ n = nSd4 w h s t := by
  unfold cs4 at h0 h1
  rcases (show s = 0 ∨ s = 1 ∨ s = 2 ∨ s = 3 by omega) with rfl | rfl | rfl | rfl <;> simp at h0 h1
  · exact ⟨n - fc1 w h, by simp; omega, by unfold nSd4; simp; omega⟩
  · exact ⟨n - fc1 w h - h, by simp; omega, by unfold nSd4; simp; omega⟩
  · exact ⟨n - fc1 w h - 2 * h, by simp; omega, by unfold nSd4; simp; omega⟩
  · exact ⟨n - fc1 w h - 2 * h - w, by simp; omega, by unfold nSd4; simp; omega⟩
theorem cs4_in {w h s t : Nat} (hs : s < 4) (ht : t < (if s < 2 then h else w)) : cs4 w h s ≤ nSd4 w h s t ∧ nSd4 w h s t < cs4 w h (s + 1) := by
  unfold cs4 nSd4
  rcases (show s = 0 ∨ s = 1 ∨ s = 2 ∨ s = 3 by omega) with rfl | rfl | rfl | rfl <;> simp at ht ⊢ <;> omega
theorem incS {w h i j s t : Nat} (hd : zDim w h) (hi : i < w) (hs : s < 4) (ht : t < (if s < 2 then h else w)) (q : fBef w h (nSd4 w h s t) = some (1000 + (j * w + i)) ∨ fBeh w h (nSd4 w h s t) = some (1000 + (j * w + i))) : sI w s t = i ∧ sJ h s t = j := by
  obtain ⟨a1, a2, _, _⟩ := face_S hd hs ht
  obtain ⟨x1, x2, _, _⟩ := sIJ hd hs ht
  rw [a1, a2] at q
  have e : some (1000 + (sJ h s t * w + sI w s t)) = some (1000 + (j * w + i)) := by
    by_cases z : s = 0 ∨ s = 2
    · rw [if_pos z, if_pos z] at q
      rcases q with q | q
      · exact absurd q (by simp)
      · exact q
    · rw [if_neg z, if_neg z] at q
      rcases q with q | q
      · exact q
      · exact absurd q (by simp)
  have e2 := Option.some.inj e
  exact gu hi x1 (by omega)
