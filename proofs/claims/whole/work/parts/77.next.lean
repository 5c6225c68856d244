/-! a step keeps what holds of the model's numbers: the whole sea -/
theorem zBw.mo {n m : Nat} (h : n ≤ m) {x : UInt64} (H : zBw n x) : zBw m x := by
  obtain ⟨a, b, c⟩ := H
  have := Bd_le h
  exact ⟨a, by omega, by omega⟩
theorem riv_b {x v : UInt64} (hx : nRv x) (hv : zHh v) : 0 ≤ (FP.d2l (zmul x v)).toInt ∧ (FP.d2l (zmul x v)).toInt ≤ 600000 := by
  obtain ⟨a, b, c⟩ := hx
  obtain ⟨d, e, f⟩ := hv
  have hU := zU_pos
  obtain ⟨m1, m2⟩ := zabs_mul (a := zv x) (b := zv v) (A := 1000 * zU) (B := 600 * zU) c (by omega) f (by omega)
  have m3 : 0 ≤ zv x * zv v := Int.mul_nonneg b (by omega)
  have e1 : 1000 * zU * (600 * zU) = ((600000 : Nat) : Int) * zU * zU := by
    generalize zU = u
    rw [show ((600000 : Nat) : Int) = 1000 * 600 from rfl]
    ac_rfl
  obtain ⟨z1, z2, z3⟩ := zB_mul a d (V := ((600000 : Nat) : Int) * zU) (W := 0) (zRn 600000 (by decide) rfl) zRep_0 (by omega) (by omega)
  obtain ⟨q1, q2, _, _⟩ := zd2l_pos z1 z3 (n := 600000) (by decide) z2
  exact ⟨q1, q2⟩
theorem pnew_b {n w h hr : Nat} {v : UInt64} {ν κ : ZMem} (C : nCx n w h hr v ν) (K : kCx w h hr v ν κ) {i j : Nat} (hi : i < w) (hj : j < h) : 0 ≤ (p_new κ w h v i j).1.toInt ∧ (p_new κ w h v i j).1.toInt = (zL ν 7 (12 * j + i)).toInt + zsu (fun p => (pM κ w h i j p).toInt) 8 + (gRiv κ w h v i j).toInt ∧ (0 ≤ (gRiv κ w h v i j).toInt ∧ (gRiv κ w h v i j).toInt ≤ 600000) ∧ (¬ wtr ν i j → (p_new κ w h v i j).1 = 0) ∧ zBw (n + 1) (p_new κ w h v i j).2.1 ∧ zBw (n + 1) (p_new κ w h v i j).2.2.1 := by
  obtain ⟨hd, hn, hh, hhr, hN⟩ := id C
  obtain ⟨K1, K2, K3⟩ := id K
  obtain ⟨k1, k2, k3, k4, k5, k6⟩ := K2 j hj i hi
  obtain ⟨v0, v1⟩ := hN.V hn j hj i hi
  obtain ⟨_, L0, w8, w9, rv⟩ := hN.1 j hj i hi
  obtain ⟨b1, b2⟩ := Bd_b (n := n) (by omega)
  have hU := zU_pos
  have z0 := zi_0
  have hP := (port_b C K hi hj).2.2.2.2.2
  unfold p_new gRiv
  rw [wt_cg K1]
  by_cases e : t_isWater ν w h (nI i) (nI j) = 0
  · have e' : ¬ wtr ν i j := fun q => (hWt hd hi hj).mpr q e
    rw [if_pos e, if_pos e, k5]
    have hs : zsu (fun p => (pM κ w h i j p).toInt) 8 = 0 := by
      rw [zsu_cg (g := fun _ => 0) 8 (fun p hp => ?_), zsu_0]
      by_cases y : pE κ w h i j p = 0
      · have : pM κ w h i j p = 0 := if_pos y
        rw [this]
        rfl
      · exact absurd ((hP p hp).2 y).2.2 e'
    show 0 ≤ (zL ν 7 (12 * j + i)).toInt ∧ (zL ν 7 (12 * j + i)).toInt = (zL ν 7 (12 * j + i)).toInt + _ + (0 : Int64).toInt ∧ _ ∧ (¬ wtr ν i j → zL ν 7 (12 * j + i) = 0) ∧ zBw (n + 1) (zD ν 8 (12 * j + i)) ∧ zBw (n + 1) (zD ν 9 (12 * j + i))
    rw [hs]
    exact ⟨v0, by omega, ⟨by omega, by omega⟩, L0, w8.mo (by omega), w9.mo (by omega)⟩
  · have e' : wtr ν i j := (hWt hd hi hj).mp e
    rw [if_neg e, if_neg e]
    obtain ⟨i1, i2, i3⟩ := psum_b C K hi hj 8 (Nat.le_refl 8)
    have ok8 : hOK (zL ν 7 (12 * j + i)).toInt (Bd n) (zv (zD ν 8 (12 * j + i))) := ⟨v0, v1, by omega, b2, w8.2.1, w8.2.2⟩
    have ok9 : hOK (zL ν 7 (12 * j + i)).toInt (Bd n) (zv (zD ν 9 (12 * j + i))) := ⟨v0, v1, by omega, b2, w9.2.1, w9.2.2⟩
    have hc := pcn_le hd hi hj K1
    obtain ⟨r0, r1⟩ := riv_b rv hh
    have er : p_riv κ i j v = FP.d2l (zmul (zD ν 6 (12 * j + i)) v) := by unfold p_riv; rw [k6]
    obtain ⟨_, c2, c3⟩ := zBw_k (n := n) (by omega) (x := k12) (zfk k12 (by decide +kernel)) (by rw [zk_12]; omega) (by rw [zk_12]; omega)
    have kc : cOf κ (12 * j + i) = (zL κ 7 (12 * j + i), zD κ 8 (12 * j + i), zD κ 9 (12 * j + i), zD κ 10 (12 * j + i)) := rfl
    have ks8 : zD κ 8 (12 * j + i) = zD ν 8 (12 * j + i) := congrArg (fun q : CV => q.2.1) k5
    have ks9 : zD κ 9 (12 * j + i) = zD ν 9 (12 * j + i) := congrArg (fun q : CV => q.2.2.1) k5
    unfold p_cell p_end
    rw [er, k6, ks8, ks9]
    show 0 ≤ ((p_sum κ w h i j (c0 κ (12 * j + i))).1 + FP.d2l (zmul (zD ν 6 (12 * j + i)) v)).toInt ∧ ((p_sum κ w h i j (c0 κ (12 * j + i))).1 + FP.d2l (zmul (zD ν 6 (12 * j + i)) v)).toInt = _ ∧ _ ∧ (_ → _) ∧ zBw (n + 1) (if 0 < (p_sum κ w h i j (c0 κ (12 * j + i))).1 + FP.d2l (zmul (zD ν 6 (12 * j + i)) v) then zdiv (zadd (p_sum κ w h i j (c0 κ (12 * j + i))).2.1 (zmul (FP.l2d (FP.d2l (zmul (zD ν 6 (12 * j + i)) v))) k12)) (FP.l2d ((p_sum κ w h i j (c0 κ (12 * j + i))).1 + FP.d2l (zmul (zD ν 6 (12 * j + i)) v))) else zD ν 8 (12 * j + i)) ∧ zBw (n + 1) (if 0 < (p_sum κ w h i j (c0 κ (12 * j + i))).1 + FP.d2l (zmul (zD ν 6 (12 * j + i)) v) then zdiv (zadd (p_sum κ w h i j (c0 κ (12 * j + i))).2.2.1 (zmul (FP.l2d (FP.d2l (zmul (zD ν 6 (12 * j + i)) v))) 0)) (FP.l2d ((p_sum κ w h i j (c0 κ (12 * j + i))).1 + FP.d2l (zmul (zD ν 6 (12 * j + i)) v))) else zD ν 9 (12 * j + i))
    unfold p_sum
    generalize zit (p_port κ w h i j) 8 (c0 κ (12 * j + i)) = x at *
    generalize FP.d2l (zmul (zD ν 6 (12 * j + i)) v) = N at *
    generalize pcn κ w h i j 8 = pc at *
    obtain ⟨a1, a2⟩ := hI_in ok8 (by omega) i1 (n := N) r0 (by omega) (v := k12) (zfk k12 (by decide +kernel)) c2 c3
    obtain ⟨d1, d2⟩ := hI_in ok9 (by omega) i2 (n := N) r0 (by omega) (v := 0) zfi_0 (by rw [zv_0]; omega) (by rw [zv_0]; omega)
    have v' : 0 ≤ (x.1 + N).toInt := by
      obtain ⟨R, I, y1, y2, _⟩ := a1
      have := y2.1
      have := y2.2.1
      omega
    refine ⟨v', by omega, ⟨r0, r1⟩, fun q => absurd e' q, ?_, ?_⟩
    · by_cases g : 0 < x.1 + N
      · rw [if_pos g]
        exact hI_end (by omega) ok8 (by omega) hc a1 g
      · rw [if_neg g]
        exact w8.mo (by omega)
    · by_cases g : 0 < x.1 + N
      · rw [if_pos g]
        exact hI_end (by omega) ok9 (by omega) hc d1 g
      · rw [if_neg g]
        exact w9.mo (by omega)
theorem zs2_c {c : Int} (h0 : 0 ≤ c) {w h : Nat} (hw : w ≤ 12) (hh : h ≤ 12) : zs2 (fun _ _ => c) w h ≤ 144 * c := by
  have e1 : zsu (fun _ => zsu (fun _ => c) w) h ≤ zsu (fun _ => 12 * c) h := zsu_le h (fun _ _ => zsu_c h0 w hw)
  have e2 := zsu_c (c := 12 * c) (by omega) h hh
  have e3 : zs2 (fun _ _ => c) w h = zsu (fun _ => zsu (fun _ => c) w) h := rfl
  omega
def tA (κ : ZMem) (i j : Nat) : Int := (if i = 0 then 0 else qF κ 0 (i - 1) j) + -qF κ 0 i j
def tB (κ : ZMem) (i j : Nat) : Int := (if j = 0 then 0 else qF κ 1 i (j - 1)) + -qF κ 1 i j
theorem tot_b {n w h hr : Nat} {v : UInt64} {ν κ : ZMem} (C : nCx n w h hr v ν) (K : kCx w h hr v ν κ) : zs2 (fun i j => (p_new κ w h v i j).1.toInt) w h ≤ zTt w h ν + 2 ^ 44 := by
  obtain ⟨hd, hn, hh, hhr, hN⟩ := id C
  obtain ⟨d1, d2, d3, d4⟩ := id hd
  obtain ⟨K1, K2, K3⟩ := id K
  have hM : (0 : Int) ≤ 274877906944 := by decide
  have e1 : zs2 (fun i j => (p_new κ w h v i j).1.toInt) w h ≤ zs2 (fun i j => (zL ν 7 (12 * j + i)).toInt + (tA κ i j + (tB κ i j + ((if i = 0 then 274877906944 else 0) + ((if i = w - 1 then 274877906944 else 0) + ((if j = 0 then 274877906944 else 0) + ((if j = h - 1 then 274877906944 else 0) + 600000))))))) w h := by
    refine zs2_le (fun j hj i hi => ?_)
    obtain ⟨_, a2, a3, _⟩ := pnew_b C K hi hj
    obtain ⟨p0, p1, p2, p3, ps, _⟩ := port_b C K hi hj
    have s0 := ps 0 (by decide)
    have s1 := ps 1 (by decide)
    have s2 := ps 2 (by decide)
    have s3 := ps 3 (by decide)
    have u0 : (pM κ w h i j (0 + 4)).toInt ≤ if i = 0 then 274877906944 else 0 := by
      unfold atP at s0
      split <;> omega
    have u1 : (pM κ w h i j (1 + 4)).toInt ≤ if i = w - 1 then 274877906944 else 0 := by
      unfold atP at s1
      split <;> omega
    have u2 : (pM κ w h i j (2 + 4)).toInt ≤ if j = 0 then 274877906944 else 0 := by
      unfold atP at s2
      split <;> omega
    have u3 : (pM κ w h i j (3 + 4)).toInt ≤ if j = h - 1 then 274877906944 else 0 := by
      unfold atP at s3
      split <;> omega
    have e8 : zsu (fun p => (pM κ w h i j p).toInt) 8 = 0 + (pM κ w h i j 0).toInt + (pM κ w h i j 1).toInt + (pM κ w h i j 2).toInt + (pM κ w h i j 3).toInt + (pM κ w h i j (0 + 4)).toInt + (pM κ w h i j (1 + 4)).toInt + (pM κ w h i j (2 + 4)).toInt + (pM κ w h i j (3 + 4)).toInt := rfl
    rw [a2, e8, p0, p1, p2, p3]
    unfold tA tB
    omega
  have z0 := zi_0
  have b0 : ∀ i j, j < h → i < w → i + 1 = w → qF κ 0 i j = 0 := by
    intro i j hj hi hiw
    obtain ⟨A1, _, _⟩ := fA_b C hi hj (K3 j hj i hi) (k := 0) (by decide)
    unfold qF
    by_cases f : t_hasFace ν w h (nI i) (nI j) (nI 0) = 0
    · rw [A1 f]
      rfl
    · have := ((hF0 hd hi hj).mp f).1
      omega
  have b1 : ∀ i j, j < h → i < w → j + 1 = h → qF κ 1 i j = 0 := by
    intro i j hj hi hiw
    obtain ⟨A1, _, _⟩ := fA_b C hi hj (K3 j hj i hi) (k := 1) (by decide)
    unfold qF
    by_cases f : t_hasFace ν w h (nI i) (nI j) (nI 1) = 0
    · rw [A1 f]
      rfl
    · have := ((hF1 hd hi hj).mp f).1
      omega
  have t0 : zs2 (fun i j => tA κ i j) w h = 0 := by
    unfold zs2
    rw [zsu_cg (g := fun _ => 0) h (fun j hj => ?_), zsu_0]
    rw [zsu_tele (f := fun i => (fun i j => tA κ i j) i j) (q := fun i => qF κ 0 i j) w (fun k hk => rfl), if_neg (by omega), b0 (w - 1) j hj (by omega) (by omega)]
    rfl
  have t1 : zs2 (fun i j => tB κ i j) w h = 0 := by
    unfold zs2
    rw [zsu_tele (f := fun j => zsu (fun i => (fun i j => tB κ i j) i j) w) (q := fun j => zsu (fun i => qF κ 1 i j) w) h (fun j hj => ?_), if_neg (by omega), zsu_cg (g := fun _ => 0) w (fun i hi => b1 i (h - 1) (by omega) hi (by omega)), zsu_0]
    · rfl
    · show zsu (fun i => (if j = 0 then 0 else qF κ 1 i (j - 1)) + -qF κ 1 i j) w = _
      rw [zsu_add]
      congr 1
      · by_cases e : j = 0
        · simp only [if_pos e]
          exact zsu_0 w
        · simp only [if_neg e]
      · have : ∀ m, zsu (fun i => -qF κ 1 i j) m = -zsu (fun i => qF κ 1 i j) m := by
          intro m
          induction m with
          | zero => rfl
          | succ m ih =>
            show zsu (fun i => -qF κ 1 i j) m + -qF κ 1 m j = -(zsu (fun i => qF κ 1 i j) m + qF κ 1 m j)
            rw [ih]
            omega
        exact this w
  have si : ∀ a, zs2 (fun i _ => if i = a then 274877906944 else 0) w h ≤ 12 * 274877906944 := by
    intro a
    refine Int.le_trans (zsu_le (g := fun _ => 274877906944) h (fun j _ => ?_)) (zsu_c hM h d4)
    show zsu (fun i => if i = a then 274877906944 else 0) w ≤ _
    rw [zsu_one hM]
    split <;> omega
  have sj : ∀ a, zs2 (fun _ j => if j = a then 274877906944 else 0) w h ≤ 12 * 274877906944 := by
    intro a
    refine Int.le_trans (zsu_le (g := fun j => if j = a then 12 * 274877906944 else 0) h (fun j _ => ?_)) ?_
    · by_cases e : j = a
      · simp only [if_pos e]
        exact zsu_c hM w d2
      · simp only [if_neg e]
        rw [zsu_0]
        omega
    · rw [zsu_one (by decide)]
      split <;> omega
  have r0 := zs2_c (c := 600000) (by decide) d2 d4
  rw [zs2_add, zs2_add, zs2_add, zs2_add, zs2_add, zs2_add, zs2_add, t0, t1] at e1
  have s0 := si 0
  have s1 := si (w - 1)
  have s2 := sj 0
  have s3 := sj (h - 1)
  unfold zTt
  omega
theorem NI_step {n w h hr : Nat} {v : UInt64} {ν : ZMem} (C : nCx n w h hr v ν) : NI (n + 1) w h (q_step w h hr v ν) := by
  obtain ⟨hd, hn, hh, hhr, hN⟩ := id C
  have K := mKap_cx (ν := ν) hd hr v
  obtain ⟨S1, S2, S3, S4, S5, S6, S7, S8⟩ := step_pt (ν := ν) hd hr v
  obtain ⟨n1, n2, n3, n4, n5, n6, n7⟩ := id hN
  generalize q_step w h hr v ν = ρ at *
  have hU := zU_pos
  refine ⟨fun j hj i hi => ?_, ?_, fun j hj i hi => ?_, fun k hk => ?_, fun j hj i hi => ?_, fun k hk => ?_, ?_⟩
  · obtain ⟨a1, a2, a3, a4, a5, a6⟩ := pnew_b C K hi hj
    have s := S2 j hj i hi
    have e7 : zL ρ 7 (12 * j + i) = (p_new (mKap w h hr v ν) w h v i j).1 := congrArg (fun q : CV => q.1) s
    have e8 : zD ρ 8 (12 * j + i) = (p_new (mKap w h hr v ν) w h v i j).2.1 := congrArg (fun q : CV => q.2.1) s
    have e9 : zD ρ 9 (12 * j + i) = (p_new (mKap w h hr v ν) w h v i j).2.2.1 := congrArg (fun q : CV => q.2.2.1) s
    rw [e7, e8, e9, S1.2.2.2 6 rfl]
    refine ⟨a1, fun q => a4 (fun y => q ?_), a5, a6, (n1 j hj i hi).2.2.2.2⟩
    unfold wtr at y ⊢
    rw [S1.2.1 4 rfl]
    exact y
  · have e : zTt w h ρ = zs2 (fun i j => (p_new (mKap w h hr v ν) w h v i j).1.toInt) w h := zs2_cg (fun j hj i hi => congrArg (fun q : CV => q.1.toInt) (S2 j hj i hi))
    rw [e]
    have := tot_b C K
    rw [Int.natCast_add, Int.add_mul]
    omega
  · rw [S1.2.2.2 5 rfl]
    exact n3 j hj i hi
  · rw [S1.2.2.2 26 rfl, S1.2.2.2 27 rfl]
    exact n4 k hk
  · rw [S8]
    refine ⟨fun k hk => (fA_b C hi hj (K.2.2 j hj i hi) hk).2.2, fun k hk ha => (fS_b C hi hj (K.2.2 j hj i hi) hk ha).2.2⟩
  · unfold zWv
    rw [S1.2.1 23 rfl, S1.2.2.2 24 rfl, S1.2.2.2 25 rfl]
    exact n6 k hk
  · rw [S7]
    obtain ⟨a, b, c⟩ := n7
    obtain ⟨d, e, f⟩ := hh
    have em : ((600 * (n + 1) : Nat) : Int) * zU = ((600 * n : Nat) : Int) * zU + 600 * zU := by
      rw [show 600 * (n + 1) = 600 * n + 600 by omega, Int.natCast_add, Int.add_mul]
      rfl
    obtain ⟨z1, z2, z3⟩ := zB_add a d (V := ((600 * (n + 1) : Nat) : Int) * zU) (W := 0) (zRn (600 * (n + 1)) (by omega) rfl) zRep_0 (by omega) (by omega)
    exact ⟨z1, z3, z2⟩
