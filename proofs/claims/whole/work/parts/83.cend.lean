/-! a nest's shares grow -/
theorem over_v (v : Int64) {C : Nat} (h1 : 1 ≤ C) (h8 : C ≤ 8) : (nI C).toInt64.toInt = C ∧ (s_over v C).toInt < C ∧ -(C : Int) < (s_over v C).toInt := by
  have e : (nI C).toInt64.toInt = C := by
    have : ∀ c : Fin 9, (nI c.val).toInt64.toInt = c.val := by decide
    exact this ⟨C, by omega⟩
  have l1 := Int64.toInt_lt v
  have l2 := Int64.le_toInt v
  have q : (v / (nI C).toInt64).toInt = v.toInt.tdiv C ∧ (C : Int) * v.toInt.tdiv C + v.toInt.tmod C = v.toInt := by
    refine ⟨?_, Int.mul_tdiv_add_tmod _ _⟩
    rw [Int64.toInt_div, e]
    have a1 : (v.toInt.tdiv C).natAbs ≤ v.toInt.natAbs := by
      rw [Int.natAbs_tdiv]
      exact Nat.div_le_self _ _
    rcases (show C = 1 ∨ 2 ≤ C by omega) with rfl | h2
    · rw [show ((1 : Nat) : Int) = 1 from rfl, Int.tdiv_one]
      exact Int.bmod_eq_of_le (by omega) (by omega)
    · have a2 : (v.toInt.tdiv C).natAbs ≤ v.toInt.natAbs / 2 := by
        rw [Int.natAbs_tdiv]
        exact Nat.div_le_div_left (by omega) (by omega)
      exact Int.bmod_eq_of_le (by omega) (by omega)
  obtain ⟨q1, q2⟩ := q
  have m1 : (v.toInt.tmod C).natAbs < C := by
    rw [Int.natAbs_tmod]
    exact Nat.mod_lt _ (by omega)
  have m3 : (C : Int) * v.toInt.tdiv C = v.toInt - v.toInt.tmod C := by omega
  have m2 : -2 ^ 63 ≤ v.toInt - v.toInt.tmod C ∧ v.toInt - v.toInt.tmod C < 2 ^ 63 := by
    have a3 : ((C : Int) * v.toInt.tdiv C).natAbs ≤ v.toInt.natAbs := by
      rw [Int.natAbs_mul, Int.natAbs_tdiv]
      exact Nat.mul_div_le _ _
    rw [m3] at a3
    omega
  have p : (v / (nI C).toInt64 * (nI C).toInt64).toInt = v.toInt - v.toInt.tmod C := by
    rw [Int64.toInt_mul, q1, e, Int.mul_comm, m3]
    exact Int.bmod_eq_of_le (by omega) (by omega)
  have o : (s_over v C).toInt = v.toInt.tmod C := by
    unfold s_over
    rw [Int64.toInt_sub, p, show v.toInt - (v.toInt - v.toInt.tmod C) = v.toInt.tmod C by omega]
    exact Int.bmod_eq_of_le (by omega) (by omega)
  refine ⟨e, ?_, ?_⟩ <;> omega
theorem inc_sum : ∀ c : Fin 9, ∀ t : Fin 15, (t.val : Int) - 7 < c.val → -(c.val : Int) < (t.val : Int) - 7 → zit (fun k s => s + (if (nI k).toInt64 < Int64.ofInt ((t.val : Int) - 7) * (if Int64.ofInt ((t.val : Int) - 7) < 0 then -1 else 1) then (if Int64.ofInt ((t.val : Int) - 7) < 0 then -1 else 1) else 0)) c.val 0 = Int64.ofInt ((t.val : Int) - 7) := by decide +kernel
theorem inc_all (v : Int64) {C : Nat} (h1 : 1 ≤ C) (h8 : C ≤ 8) : zit (fun k s => s + s_inc v C k) C 0 = s_over v C := by
  obtain ⟨_, o1, o2⟩ := over_v v h1 h8
  have e : s_over v C = Int64.ofInt (((((s_over v C).toInt + 7).toNat : Nat) : Int) - 7) := by
    apply Int64.toInt_inj.mp
    rw [Int64.toInt_ofInt, show Int64.size = 2 ^ 64 from rfl]
    rw [show ((((s_over v C).toInt + 7).toNat : Nat) : Int) - 7 = (s_over v C).toInt by omega]
    exact (Int.bmod_eq_of_le (by omega) (by omega)).symm
  have h := inc_sum ⟨C, by omega⟩ ⟨((s_over v C).toInt + 7).toNat, by omega⟩ (by show ((((s_over v C).toInt + 7).toNat : Nat) : Int) - 7 < (C : Int); omega) (by show -(C : Int) < ((((s_over v C).toInt + 7).toNat : Nat) : Int) - 7; omega)
  rw [← e] at h
  exact h
theorem zit_sadd (f g : Nat → Int64) : ∀ n : Nat, zit (fun k s => s + (f k + g k)) n 0 = zit (fun k s => s + f k) n 0 + zit (fun k s => s + g k) n 0
  | 0 => rfl
  | n + 1 => by
    show zit (fun k s => s + (f k + g k)) n 0 + (f n + g n) = zit (fun k s => s + f k) n 0 + f n + (zit (fun k s => s + g k) n 0 + g n)
    rw [zit_sadd f g n]
    ac_rfl
theorem each_sum (e : Int64) : ∀ c : Nat, zit (fun _ s => s + e) c 0 = e * Int64.ofNat c
  | 0 => by
    show 0 = e * 0
    simp
  | n + 1 => by
    show zit (fun _ s => s + e) n 0 + e = _
    rw [each_sum e n, Int64.ofNat_add, Int64.mul_add, show Int64.ofNat 1 = 1 from rfl, Int64.mul_one]
theorem grow_sum (v : Int64) {C : Nat} (h1 : 1 ≤ C) (h8 : C ≤ 8) : zit (fun k s => s + (s_each v C + s_inc v C k)) C 0 = v := by
  rw [zit_sadd (fun _ => s_each v C), inc_all v h1 h8, each_sum]
  have e : Int64.ofNat C = (nI C).toInt64 := by
    have : ∀ c : Fin 9, Int64.ofNat c.val = (nI c.val).toInt64 := by decide
    exact this ⟨C, by omega⟩
  unfold s_each s_over
  rw [e]
  generalize v / (nI C).toInt64 * (nI C).toInt64 = x
  rw [Int64.add_comm, Int64.sub_add_cancel]
theorem grow_pt (v : Int64) (C sh : Nat) (μ : ZMem) : ∀ n, (∀ k, zL (zit (u_grow1 v C sh) n μ) sh k = if k < n then zL μ sh k + (s_each v C + s_inc v C k) else zL μ sh k) ∧ (∀ r, r ≠ sh → zL (zit (u_grow1 v C sh) n μ) r = zL μ r) ∧ zD (zit (u_grow1 v C sh) n μ) = zD μ := by
  intro n
  induction n with
  | zero => exact ⟨fun k => by rw [if_neg (by omega)]; rfl, fun _ _ => rfl, rfl⟩
  | succ n ih =>
    obtain ⟨a, b, c⟩ := ih
    refine ⟨fun k => ?_, fun r hr => ?_, ?_⟩
    · show zL (zsL (zit (u_grow1 v C sh) n μ) sh n (zL (zit (u_grow1 v C sh) n μ) sh n + s_each v C + s_inc v C n)) sh k = _
      rw [zL_sL]
      by_cases e : k = n
      · subst e
        rw [if_pos ⟨rfl, rfl⟩, if_pos (by omega), a, if_neg (by omega), Int64.add_assoc]
      · rw [if_neg (fun q => e q.2), a]
        by_cases g : k < n
        · rw [if_pos g, if_pos (by omega)]
        · rw [if_neg g, if_neg (by omega)]
    · show zL (zsL (zit (u_grow1 v C sh) n μ) sh n _) r = _
      rw [zLr _ _ _ hr, b r hr]
    · exact c
theorem zit_sc {f g : Nat → Int64} : ∀ n : Nat, (∀ k, k < n → f k = g k) → zit (fun k s => s + f k) n (0 : Int64) = zit (fun k s => s + g k) n 0
  | 0, _ => rfl
  | n + 1, h => by
    show zit (fun k s => s + f k) n 0 + f n = zit (fun k s => s + g k) n 0 + g n
    rw [zit_sc n (fun k hk => h k (by omega)), h n (by omega)]
theorem u_grow_pt (v : Int64) {C : Nat} (h1 : 1 ≤ C) (h8 : C ≤ 8) (sh : Nat) (μ : ZMem) : s_sumS (u_grow μ sh v C) sh C = s_sumS μ sh C + v ∧ (∀ r, r ≠ sh → zL (u_grow μ sh v C) r = zL μ r) ∧ zD (u_grow μ sh v C) = zD μ ∧ zR (u_grow μ sh v C) = zR μ ∧ zI (u_grow μ sh v C) = zI μ := by
  have e : u_grow μ sh v C = zit (u_grow1 v C sh) C μ := if_neg (by omega)
  obtain ⟨a, b, c⟩ := grow_pt v C sh μ C
  rw [e]
  refine ⟨?_, b, c, zR_grow1 _ _ _ _ _, zI_grow1 _ _ _ _ _⟩
  unfold s_sumS
  rw [zit_sc (g := fun k => zL μ sh k + (s_each v C + s_inc v C k)) C (fun k hk => by rw [a, if_pos hk]), zit_sadd (fun k => zL μ sh k), grow_sum v h1 h8]
theorem sumS_cg {μ ν : ZMem} {sh : Nat} (h : zL μ sh = zL ν sh) (C : Nat) : s_sumS μ sh C = s_sumS ν sh C := by
  unfold s_sumS
  rw [h]
/-! a cell's end of a step -/
def c_end (wat : Int32) (riv v mud wm sl fast : UInt64) (x : TV) : CV :=
  (fun y : TV => (y.1, if 0 < y.1 then zdiv y.2.1 (FP.l2d y.1) else wm, if 0 < y.1 then zdiv y.2.2 (FP.l2d y.1) else sl, if zgt fast k02 = true then zadd mud (zmul (zmul k0001 v) (zsub fast k02)) else mud))
  (if wat = 0 then x else (x.1 + FP.d2l (zmul riv v), zadd x.2.1 (zmul (FP.l2d (FP.d2l (zmul riv v))) k12), zadd x.2.2 (zmul (FP.l2d (FP.d2l (zmul riv v))) 0)))
def kOf (m : ZMem) (c : Nat) : CV := (zL m c 2, zD m c 3, zD m c 4, zD m c 5)
def c_cell (M : ZMem) (v : UInt64) (c : Nat) : CV := c_end (zI M c 0) (zD M c 6) v (zD M c 5) (zD M c 3) (zD M c 4) (zD M c 14) (tvw M c)
def EL (r k : Nat) : Prop := (cR r ∧ k = 2) ∨ (70 ≤ r ∧ r < 80) ∨ (r = 0 ∧ k = 16)
def ED (r k : Nat) : Prop := cR r ∧ (k = 3 ∨ k = 4 ∨ k = 5 ∨ k = 12 ∨ k = 13)
theorem e1_pt (M : ZMem) (v : UInt64) {k : Nat} (hk : k < 144) : cS EL ED (u_end2 (u_end1 (u_sE1 v k M) (1000 + k)) (1000 + k) v) M ∧ kOf (u_end2 (u_end1 (u_sE1 v k M) (1000 + k)) (1000 + k) v) (1000 + k) = c_cell M v (1000 + k) ∧ (∀ r, r < 100 → 0 < r → zL (u_end2 (u_end1 (u_sE1 v k M) (1000 + k)) (1000 + k) v) r = zL M r) ∧ (∀ c, c ≠ 1000 + k → cR c → zL (u_end2 (u_end1 (u_sE1 v k M) (1000 + k)) (1000 + k) v) c = zL M c ∧ zD (u_end2 (u_end1 (u_sE1 v k M) (1000 + k)) (1000 + k) v) c = zD M c) ∧ zL (u_end2 (u_end1 (u_sE1 v k M) (1000 + k)) (1000 + k) v) 0 16 = zL M 0 16 + s_take M (1000 + k) v := by
  have hc : cR (1000 + k) := ⟨by omega, by omega⟩
  have t1 : cS EL ED (u_sE1 v k M) M ∧ tvw (u_sE1 v k M) (1000 + k) = (if zI M (1000 + k) 0 = 0 then tvw M (1000 + k) else (zL M (1000 + k) 2 + FP.d2l (zmul (zD M (1000 + k) 6) v), zadd (zD M (1000 + k) 12) (zmul (FP.l2d (FP.d2l (zmul (zD M (1000 + k) 6) v))) k12), zadd (zD M (1000 + k) 13) (zmul (FP.l2d (FP.d2l (zmul (zD M (1000 + k) 6) v))) 0))) ∧ (∀ r, r < 100 → 0 < r → zL (u_sE1 v k M) r = zL M r) ∧ (∀ c, c ≠ 1000 + k → cR c → zL (u_sE1 v k M) c = zL M c ∧ zD (u_sE1 v k M) c = zD M c) ∧ zL (u_sE1 v k M) 0 16 = zL M 0 16 + s_take M (1000 + k) v ∧ ∀ a, a ≠ 12 → a ≠ 13 → zD (u_sE1 v k M) (1000 + k) a = zD M (1000 + k) a := by
    unfold u_sE1 u_take
    by_cases e : zI M (1000 + k) 0 = 0
    · rw [if_pos e, if_pos e]
      refine ⟨cS_sL _ _ (Or.inr (Or.inr ⟨rfl, rfl⟩)), ?_, fun r h1 h2 => zLr _ _ _ (by omega), fun c h1 h2 => ⟨zLr _ _ _ (by have := h2.1; omega), rfl⟩, ?_, fun _ _ _ => rfl⟩
      · unfold tvw
        rw [zL_sL, if_neg (by omega), zD_sL, zD_sL]
      · rw [zL_sL, if_pos ⟨rfl, rfl⟩]
    · rw [if_neg e, if_neg e]
      unfold u_gain
      refine ⟨(cS_sL _ _ (Or.inr (Or.inr ⟨rfl, rfl⟩))).tr ((cS_sD _ _ ⟨hc, by omega⟩).tr ((cS_sD _ _ ⟨hc, by omega⟩).tr (cS_sL _ _ (Or.inl ⟨hc, rfl⟩)))), ?_, fun r h1 h2 => ?_, fun c h1 h2 => ⟨?_, ?_⟩, ?_, fun a h1 h2 => ?_⟩
      · unfold tvw
        rw [zL_sL, if_neg (by omega), zL_sD, zL_sD, zL_sL, if_pos ⟨rfl, rfl⟩, zD_sL, zD_sD, if_neg (by omega), zD_sD, if_pos ⟨rfl, rfl⟩, zD_sL, zD_sD, if_pos ⟨rfl, rfl⟩]
      · rw [zLr _ _ _ (by omega)]
        exact zLr _ _ _ (by omega)
      · rw [zLr _ _ _ (by have := h2.1; omega)]
        exact zLr _ _ _ h1
      · show zD (zsD (zsD (zsL M (1000 + k) 2 _) (1000 + k) 12 _) (1000 + k) 13 _) c = _
        rw [zDr _ _ _ h1, zDr _ _ _ h1]
        rfl
      · rw [zL_sL, if_pos ⟨rfl, rfl⟩]
      · rw [zD_sL, zD_sD, if_neg (by omega), zD_sD, if_neg (by omega), zD_sL]
  obtain ⟨a1, a2, a3, a4, a5, a6⟩ := t1
  have b6 := a6 6 (by decide) (by decide)
  have b5 := a6 5 (by decide) (by decide)
  have b3 := a6 3 (by decide) (by decide)
  have b4 := a6 4 (by decide) (by decide)
  have b14 := a6 14 (by decide) (by decide)
  generalize u_sE1 v k M = X at *
  have xe : c_cell M v (1000 + k) = (fun y : TV => (y.1, if 0 < y.1 then zdiv y.2.1 (FP.l2d y.1) else zD M (1000 + k) 3, if 0 < y.1 then zdiv y.2.2 (FP.l2d y.1) else zD M (1000 + k) 4, if zgt (zD M (1000 + k) 14) k02 = true then zadd (zD M (1000 + k) 5) (zmul (zmul k0001 v) (zsub (zD M (1000 + k) 14) k02)) else zD M (1000 + k) 5)) (tvw X (1000 + k)) := by
    rw [a2]
    rfl
  rw [xe]
  have t2 : cS EL ED (u_end1 X (1000 + k)) X ∧ zL (u_end1 X (1000 + k)) = zL X ∧ zD (u_end1 X (1000 + k)) (1000 + k) 3 = (if 0 < zL X (1000 + k) 2 then zdiv (zD X (1000 + k) 12) (FP.l2d (zL X (1000 + k) 2)) else zD X (1000 + k) 3) ∧ zD (u_end1 X (1000 + k)) (1000 + k) 4 = (if 0 < zL X (1000 + k) 2 then zdiv (zD X (1000 + k) 13) (FP.l2d (zL X (1000 + k) 2)) else zD X (1000 + k) 4) ∧ (∀ a, a ≠ 3 → a ≠ 4 → zD (u_end1 X (1000 + k)) (1000 + k) a = zD X (1000 + k) a) ∧ ∀ c, c ≠ 1000 + k → zD (u_end1 X (1000 + k)) c = zD X c := by
    unfold u_end1
    by_cases e : 0 < zL X (1000 + k) 2
    · rw [if_pos e, if_pos e, if_pos e]
      unfold u_w4 u_w3
      refine ⟨(cS_sD _ _ ⟨hc, by omega⟩).tr (cS_sD _ _ ⟨hc, by omega⟩), rfl, ?_, ?_, fun a h1 h2 => ?_, fun c h1 => ?_⟩
      · rw [zD_sD, if_neg (by omega), zD_sD, if_pos ⟨rfl, rfl⟩]
      · rw [zD_sD, if_pos ⟨rfl, rfl⟩, zD_sD, if_neg (by omega)]
        rfl
      · rw [zD_sD, if_neg (by omega), zD_sD, if_neg (by omega)]
      · rw [zDr _ _ _ h1, zDr _ _ _ h1]
    · rw [if_neg e, if_neg e, if_neg e]
      exact ⟨cS.rf _ _ _, rfl, rfl, rfl, fun _ _ _ => rfl, fun _ _ => rfl⟩
  obtain ⟨c1, c2, c3, c4, c5, c6⟩ := t2
  have d5 := c5 5 (by decide) (by decide)
  have d14 := c5 14 (by decide) (by decide)
  generalize u_end1 X (1000 + k) = Y at *
  unfold u_end2
  by_cases e : zgt (zD Y (1000 + k) 14) k02 = true
  · rw [if_pos e]
    unfold u_w5
    refine ⟨(cS_sD _ _ ⟨hc, by omega⟩).tr (c1.tr a1), ?_, fun r h1 h2 => ?_, fun c h1 h2 => ⟨?_, ?_⟩, ?_⟩
    · unfold kOf tvw
      rw [zL_sD, c2, zD_sD, if_neg (by omega), zD_sD, if_neg (by omega), zD_sD, if_pos ⟨rfl, rfl⟩, c3, c4, d5, d14, b3, b4, b5, b14]
      rw [d14, b14] at e
      simp only [if_pos e]
    · show zL Y r = _
      rw [c2, a3 r h1 h2]
    · show zL Y c = _
      rw [c2, (a4 c h1 h2).1]
    · rw [zDr _ _ _ h1, c6 c h1, (a4 c h1 h2).2]
    · show zL Y 0 16 = _
      rw [c2, a5]
  · rw [if_neg e]
    refine ⟨c1.tr a1, ?_, fun r h1 h2 => ?_, fun c h1 h2 => ⟨?_, ?_⟩, ?_⟩
    · unfold kOf tvw
      rw [c2, c3, c4, d5, b3, b4, b5]
      rw [d14, b14] at e
      simp only [if_neg e]
    · rw [c2, a3 r h1 h2]
    · rw [c2, (a4 c h1 h2).1]
    · rw [c6 c h1, (a4 c h1 h2).2]
    · rw [c2, a5]
/-- the nests of a sea, as they lie -/
def nB (N : Nat) (γ : ZMem) : Prop := (∀ k n, k < N → zR γ (1000 + k) 7 = some n → ∃ i, i < 10 ∧ n = 60 + i ∧ zR γ n 0 = some (70 + i) ∧ 1 ≤ s_cnt γ n ∧ s_cnt γ n ≤ 8) ∧ ∀ k l n, k < N → l < N → zR γ (1000 + k) 7 = some n → zR γ (1000 + l) 7 = some n → k = l
theorem eS_pt {γ M : ZMem} {N k : Nat} (hN : N ≤ 144) (hk : k < N) (hM : cS EL ED M γ) (hB : nB N γ) (v : UInt64) : cS EL ED (u_sE v k M) M ∧ kOf (u_sE v k M) (1000 + k) = c_cell M v (1000 + k) ∧ (∀ i, i < 10 → zR γ (1000 + k) 7 = some (60 + i) → s_sumS (u_sE v k M) (70 + i) (s_cnt γ (60 + i)) = s_sumS M (70 + i) (s_cnt γ (60 + i)) + ((c_cell M v (1000 + k)).1 - zL M (1000 + k) 10)) ∧ (∀ i, i < 10 → ¬ zR γ (1000 + k) 7 = some (60 + i) → zL (u_sE v k M) (70 + i) = zL M (70 + i)) ∧ (∀ c, c ≠ 1000 + k → cR c → zL (u_sE v k M) c = zL M c ∧ zD (u_sE v k M) c = zD M c) ∧ zL (u_sE v k M) 0 16 = zL M 0 16 + s_take M (1000 + k) v := by
  obtain ⟨a1, a2, a3, a4, a5⟩ := e1_pt M v (k := k) (by omega)
  have eR : zR (u_sE1 v k M) = zR γ := (zRI_sE1 v k M).1.trans hM.1
  have eI : zI (u_sE1 v k M) = zI γ := (zRI_sE1 v k M).2.trans hM.2.1
  have e2 : zL (u_end2 (u_end1 (u_sE1 v k M) (1000 + k)) (1000 + k) v) (1000 + k) 2 = zL (u_sE1 v k M) (1000 + k) 2 := by
    unfold u_end2 u_end1 u_w5 u_w4 u_w3
    split <;> split <;> rfl
  have e10 : zL (u_sE1 v k M) (1000 + k) 10 = zL M (1000 + k) 10 := by
    unfold u_sE1 u_take u_gain
    rw [zL_sL, if_neg (by omega)]
    split
    · rfl
    · rw [zL_sD, zL_sD, zL_sL, if_neg (by omega)]
  cases hb : zR γ (1000 + k) 7 with
  | none =>
    have eu : u_sE v k M = u_end2 (u_end1 (u_sE1 v k M) (1000 + k)) (1000 + k) v := by
      unfold u_sE u_endStep
      rw [eR, hb]
    rw [eu]
    exact ⟨a1, a2, fun i _ q => absurd q (by simp), fun i hi _ => a3 _ (by omega) (by omega), a4, a5⟩
  | some n =>
    obtain ⟨i, hi, rfl, hs, h1, h8⟩ := hB.1 k n hk hb
    have s1 : s_bsh (u_sE1 v k M) (1000 + k) = 70 + i := by
      unfold s_bsh
      rw [eR, hb]
      show (zR γ (60 + i) 0).getD 0 = _
      rw [hs]
      rfl
    have s2 : s_bC (u_sE1 v k M) (1000 + k) = s_cnt γ (60 + i) := by
      unfold s_bC
      rw [eR, hb]
      show s_cnt (u_sE1 v k M) (60 + i) = _
      unfold s_cnt
      rw [eI]
    have eu : u_sE v k M = u_grow (u_end2 (u_end1 (u_sE1 v k M) (1000 + k)) (1000 + k) v) (70 + i) (zL (u_sE1 v k M) (1000 + k) 2 - zL (u_sE1 v k M) (1000 + k) 10) (s_cnt γ (60 + i)) := by
      unfold u_sE u_endStep
      rw [s1, s2, eR, hb]
    rw [eu, ← e2, e10]
    generalize u_end2 (u_end1 (u_sE1 v k M) (1000 + k)) (1000 + k) v = Y at *
    have eV : zL Y (1000 + k) 2 = (c_cell M v (1000 + k)).1 := congrArg (fun q : CV => q.1) a2
    rw [eV]
    obtain ⟨g1, g2, g3, g4, g5⟩ := u_grow_pt ((c_cell M v (1000 + k)).1 - zL M (1000 + k) 10) h1 h8 (70 + i) Y
    generalize u_grow Y (70 + i) ((c_cell M v (1000 + k)).1 - zL M (1000 + k) 10) (s_cnt γ (60 + i)) = Z at *
    have cz : cS EL ED Z Y := ⟨g4, g5, fun r k q => by
      rw [g2 r (fun e => q (Or.inr (Or.inl ⟨by omega, by omega⟩)))], fun r k _ => by rw [g3]⟩
    refine ⟨cz.tr a1, ?_, fun i' hi' q => ?_, fun i' hi' q => ?_, fun c h1' h2' => ?_, ?_⟩
    · rw [← a2]
      unfold kOf
      rw [g2 _ (by omega), g3]
    · have e : i' = i := by have := Option.some.inj q; omega
      subst e
      rw [g1, sumS_cg (a3 (70 + i') (by omega) (by omega))]
    · rw [g2 _ (by intro e; exact q (by rw [show i' = i by omega])), a3 _ (by omega) (by omega)]
    · rw [g2 _ (by have := h2'.1; omega), g3]
      exact a4 c h1' h2'
    · rw [g2 _ (by omega)]
      exact a5
theorem cE_pt {γ : ZMem} {N : Nat} (hN : N ≤ 144) (hB : nB N γ) (v : UInt64) : ∀ n, n ≤ N → cS EL ED (zit (u_sE v) n γ) γ ∧ (∀ k, k < n → kOf (zit (u_sE v) n γ) (1000 + k) = c_cell γ v (1000 + k) ∧ ∀ i, i < 10 → zR γ (1000 + k) 7 = some (60 + i) → s_sumS (zit (u_sE v) n γ) (70 + i) (s_cnt γ (60 + i)) = s_sumS γ (70 + i) (s_cnt γ (60 + i)) + ((c_cell γ v (1000 + k)).1 - zL γ (1000 + k) 10)) ∧ (∀ k, n ≤ k → k < N → zL (zit (u_sE v) n γ) (1000 + k) = zL γ (1000 + k) ∧ zD (zit (u_sE v) n γ) (1000 + k) = zD γ (1000 + k) ∧ ∀ i, i < 10 → zR γ (1000 + k) 7 = some (60 + i) → zL (zit (u_sE v) n γ) (70 + i) = zL γ (70 + i)) ∧ zL (zit (u_sE v) n γ) 0 16 = zit (fun k s => s + s_take γ (1000 + k) v) n (zL γ 0 16) := by
  intro n
  induction n with
  | zero => exact fun _ => ⟨cS.rf _ _ _, fun k hk => absurd hk (by omega), fun _ _ _ => ⟨rfl, rfl, fun _ _ _ => rfl⟩, rfl⟩
  | succ n ih =>
    intro hn
    obtain ⟨a1, a2, a3, a4⟩ := ih (by omega)
    obtain ⟨b1, b2, b3, b4, b5, b6⟩ := eS_pt hN (show n < N by omega) a1 hB v
    obtain ⟨u1, u2, u3⟩ := a3 n (by omega) (by omega)
    have ec : c_cell (zit (u_sE v) n γ) v (1000 + n) = c_cell γ v (1000 + n) := by
      unfold c_cell tvw
      rw [u1, u2, a1.2.1]
    have et : s_take (zit (u_sE v) n γ) (1000 + n) v = s_take γ (1000 + n) v := by
      unfold s_take
      rw [u2, a1.2.1]
    show cS EL ED (u_sE v n (zit (u_sE v) n γ)) γ ∧ (∀ k, k < n + 1 → kOf (u_sE v n (zit (u_sE v) n γ)) (1000 + k) = c_cell γ v (1000 + k) ∧ ∀ i, i < 10 → zR γ (1000 + k) 7 = some (60 + i) → s_sumS (u_sE v n (zit (u_sE v) n γ)) (70 + i) (s_cnt γ (60 + i)) = s_sumS γ (70 + i) (s_cnt γ (60 + i)) + ((c_cell γ v (1000 + k)).1 - zL γ (1000 + k) 10)) ∧ (∀ k, n + 1 ≤ k → k < N → zL (u_sE v n (zit (u_sE v) n γ)) (1000 + k) = zL γ (1000 + k) ∧ zD (u_sE v n (zit (u_sE v) n γ)) (1000 + k) = zD γ (1000 + k) ∧ ∀ i, i < 10 → zR γ (1000 + k) 7 = some (60 + i) → zL (u_sE v n (zit (u_sE v) n γ)) (70 + i) = zL γ (70 + i)) ∧ zL (u_sE v n (zit (u_sE v) n γ)) 0 16 = zit (fun k s => s + s_take γ (1000 + k) v) n (zL γ 0 16) + s_take γ (1000 + n) v
    generalize zit (u_sE v) n γ = M at *
    refine ⟨b1.tr a1, fun k hk => ?_, fun k h1 h2 => ?_, by rw [b6, a4, et]⟩
    · by_cases e : k = n
      · subst e
        refine ⟨b2.trans ec, fun i hi q => ?_⟩
        rw [b3 i hi q, ec, sumS_cg (u3 i hi q), u1]
      · obtain ⟨p1, p2⟩ := a2 k (by omega)
        obtain ⟨o1, o2⟩ := b5 (1000 + k) (by omega) ⟨by omega, by omega⟩
        refine ⟨?_, fun i hi q => ?_⟩
        · rw [← p1]
          unfold kOf
          rw [o1, o2]
        · rw [← p2 i hi q]
          exact sumS_cg (b4 i hi (fun q2 => e (hB.2 k n _ (by omega) (by omega) q q2))) _
    · obtain ⟨p1, p2, p3⟩ := a3 k (by omega) h2
      obtain ⟨o1, o2⟩ := b5 (1000 + k) (by omega) ⟨by omega, by omega⟩
      refine ⟨o1.trans p1, o2.trans p2, fun i hi q => ?_⟩
      rw [b4 i hi (fun q2 => by have := hB.2 k n _ h2 (by omega) q q2; omega), p3 i hi q]
