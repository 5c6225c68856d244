theorem zit_add {σ : Type} (p : Nat → σ → σ) (a b : Nat) (x : σ) : zit p (a + b) x = zit (fun k => p (k + a)) b (zit p a x) := by
  induction b with
  | zero => rfl
  | succ b ih =>
    show p (a + b) (zit p (a + b) x) = p (b + a) (zit (fun k => p (k + a)) b (zit p a x))
    rw [ih, Nat.add_comm a b]
theorem zit_cg {σ : Type} {p q : Nat → σ → σ} : ∀ (n : Nat) (x : σ), (∀ k y, k < n → p k y = q k y) → zit p n x = zit q n x
  | 0, _, _ => rfl
  | n + 1, x, h => by
    show p n (zit p n x) = q n (zit q n x)
    rw [zit_cg n x (fun k y hk => h k y (by omega)), h n _ (by omega)]
def p_sum (κ : ZMem) (w h i j : Nat) (x : CV) : CV := zit (p_port κ w h i j) 8 x
def c0 (κ : ZMem) (c : Nat) : CV := (zL κ 7 c, zmul (zD κ 17 c) (FP.l2d (zL κ 16 c)), zmul (zD κ 18 c) (FP.l2d (zL κ 16 c)), 0)
def mSum (w h i j : Nat) (m : ZMem) : ZMem := zit (q_chS w h i j) 4 (q_chD w h i j (q_chC w h i j (q_chB w h i j (q_chA w h i j (q_ch0 m (12 * j + i))))))
theorem ch_0 {κ m : ZMem} (hC : zCh m κ) (c : Nat) (h7 : zL m 7 c = zL κ 7 c) : zCh (q_ch0 m c) m ∧ zKl (q_ch0 m c) m c ∧ cvw (q_ch0 m c) c = c0 κ c ∧ zL (q_ch0 m c) 12 = zL m 12 := by
  unfold q_ch0
  refine ⟨(zSame_sD (XI := x0) (XL := xL3) (XD := xD4) (r := 0) _ 21 _ rfl).tr ((zSame_sD (XI := x0) (XL := xL3) (XD := xD4) (r := 0) _ 20 _ rfl).tr (zSame_sD m 19 _ rfl)), (zKl_0 _ _ 21 _ (by decide)).tr ((zKl_0 _ _ 20 _ (by decide)).tr (zKl_0 _ _ 19 _ (by decide))), ?_, rfl⟩
  unfold cvw c0
  rw [zD_sD, if_neg (by omega), zD_sD, if_neg (by omega), zD_sD, if_pos ⟨rfl, rfl⟩, zD_sD, if_neg (by omega), zD_sD, if_pos ⟨rfl, rfl⟩, zD_sD, if_pos ⟨rfl, rfl⟩, hC.d (r := 17) rfl, hC.d (r := 18) rfl, hC.l (r := 16) rfl, ← h7]
  rfl
theorem mSum_pt {κ m : ZMem} (hC : zCh m κ) (w h i j : Nat) (h7 : zL m 7 (12 * j + i) = zL κ 7 (12 * j + i)) : zCh (mSum w h i j m) κ ∧ zKl (mSum w h i j m) m (12 * j + i) ∧ cvw (mSum w h i j m) (12 * j + i) = p_sum κ w h i j (c0 κ (12 * j + i)) ∧ ∀ k, k < 4 → zL (mSum w h i j m) 12 k = zL m 12 k + pM κ w h i j (k + 4) := by
  obtain ⟨o1, o2, o3, o4⟩ := ch_0 hC (12 * j + i) h7
  have C0 := o1.tr hC
  obtain ⟨⟨a1, a2, a3⟩, a4⟩ := ch_A C0 w h i j
  have CA := a1.tr C0
  obtain ⟨⟨b1, b2, b3⟩, b4⟩ := ch_B CA w h i j
  have CB := b1.tr CA
  obtain ⟨⟨c1, c2, c3⟩, c4⟩ := ch_C CB w h i j
  have CC := c1.tr CB
  obtain ⟨⟨d1, d2, d3⟩, d4⟩ := ch_D CC w h i j
  have CD := d1.tr CC
  have K := d2.tr (c2.tr (b2.tr (a2.tr o2)))
  have L12 : zL (q_chD w h i j (q_chC w h i j (q_chB w h i j (q_chA w h i j (q_ch0 m (12 * j + i)))))) 12 = zL m 12 := d4.trans (c4.trans (b4.trans (a4.trans o4)))
  have V4 : cvw (q_chD w h i j (q_chC w h i j (q_chB w h i j (q_chA w h i j (q_ch0 m (12 * j + i)))))) (12 * j + i) = zit (p_port κ w h i j) 4 (c0 κ (12 * j + i)) := by
    rw [d3, c3, b3, a3, o3]
    rfl
  unfold mSum p_sum
  generalize q_chD w h i j (q_chC w h i j (q_chB w h i j (q_chA w h i j (q_ch0 m (12 * j + i))))) = M at *
  have e8 : zit (p_port κ w h i j) 8 (c0 κ (12 * j + i)) = zit (fun k => p_port κ w h i j (k + 4)) 4 (zit (p_port κ w h i j) 4 (c0 κ (12 * j + i))) := zit_add (p_port κ w h i j) 4 4 _
  have loop : ∀ n, zCh (zit (q_chS w h i j) n M) κ ∧ zKl (zit (q_chS w h i j) n M) m (12 * j + i) ∧ cvw (zit (q_chS w h i j) n M) (12 * j + i) = zit (fun k => p_port κ w h i j (k + 4)) n (cvw M (12 * j + i)) ∧ (∀ k, k < n → zL (zit (q_chS w h i j) n M) 12 k = zL m 12 k + pM κ w h i j (k + 4)) ∧ ∀ k, n ≤ k → zL (zit (q_chS w h i j) n M) 12 k = zL m 12 k := by
    intro n
    induction n with
    | zero => exact ⟨CD, K, rfl, fun k hk => absurd hk (by omega), fun k _ => by rw [← L12]; rfl⟩
    | succ n ih =>
      obtain ⟨i1, i2, i3, i4, i5⟩ := ih
      obtain ⟨⟨s1, s2, s3⟩, s4, s5⟩ := ch_S i1 w h i j n
      refine ⟨s1.tr i1, s2.tr i2, ?_, fun k hk => ?_, fun k hk => ?_⟩
      · show cvw (q_chS w h i j n (zit (q_chS w h i j) n M)) (12 * j + i) = p_port κ w h i j (n + 4) (zit (fun k => p_port κ w h i j (k + 4)) n (cvw M (12 * j + i)))
        rw [s3, i3]
      · show zL (q_chS w h i j n (zit (q_chS w h i j) n M)) 12 k = _
        by_cases e : k = n
        · rw [e, s4, i5 n (Nat.le_refl n)]
        · rw [s5 k e, i4 k (by omega)]
      · show zL (q_chS w h i j n (zit (q_chS w h i j) n M)) 12 k = _
        rw [s5 k (by omega), i5 k (by omega)]
  obtain ⟨l1, l2, l3, l4, -⟩ := loop 4
  exact ⟨l1, l2, by rw [l3, V4, e8], l4⟩
/-- a cell at the step's end -/
def p_end (v riv mud wm sl : UInt64) (x : CV) : CV := (fun n : Int64 => (x.1 + n, if 0 < x.1 + n then zdiv (zadd x.2.1 (zmul (FP.l2d n) k12)) (FP.l2d (x.1 + n)) else wm, if 0 < x.1 + n then zdiv (zadd x.2.2.1 (zmul (FP.l2d n) 0)) (FP.l2d (x.1 + n)) else sl, if zgt x.2.2.2 k02 = true then zadd mud (zmul (zmul k0001 v) (zsub x.2.2.2 k02)) else mud)) (FP.d2l (zmul riv v))
def cOf (m : ZMem) (c : Nat) : CV := (zL m 7 c, zD m 8 c, zD m 9 c, zD m 10 c)
/-- what the end leaves -/
def zKe (m' m : ZMem) (c : Nat) (n : Int64) : Prop := (∀ c', c' ≠ c → cOf m' c' = cOf m c') ∧ zL m' 0 12 = zL m 0 12 + n ∧ (∀ a, a ≠ 12 → zL m' 0 a = zL m 0 a) ∧ zL m' 12 = zL m 12 ∧ zD m' 0 13 = zD m 0 13
theorem chR1_pt (m : ZMem) (c : Nat) (n : Int64) : zCh (q_chR1 m c n) m ∧ zKe (q_chR1 m c n) m c n ∧ cOf (q_chR1 m c n) c = (zL m 7 c + n, zD m 8 c, zD m 9 c, zD m 10 c) ∧ zD (q_chR1 m c n) 0 19 = zadd (zD m 0 19) (zmul (FP.l2d n) k12) ∧ zD (q_chR1 m c n) 0 20 = zadd (zD m 0 20) (zmul (FP.l2d n) 0) ∧ zD (q_chR1 m c n) 0 21 = zD m 0 21 := by
  unfold q_chR1
  refine ⟨(zSame_sD (XI := x0) (XL := xL3) (XD := xD4) (r := 0) _ 20 _ rfl).tr ((zSame_sD (XI := x0) (XL := xL3) (XD := xD4) (r := 0) _ 19 _ rfl).tr ((zSame_sL (XI := x0) (XL := xL3) (XD := xD4) (r := 0) _ 12 _ rfl).tr (zSame_sL m c _ rfl))), ⟨fun c' h => ?_, ?_, fun a h => ?_, ?_, ?_⟩, ?_, ?_, ?_, ?_⟩
  · unfold cOf
    rw [zL_sD, zL_sD, zL_sL, if_neg (by omega), zL_sL, if_neg (by omega), zDr _ _ _ (by decide), zDr _ _ _ (by decide), zDr _ _ _ (by decide), zDr _ _ _ (by decide), zDr _ _ _ (by decide), zDr _ _ _ (by decide)]
    rfl
  · rw [zL_sD, zL_sD, zL_sL, if_pos ⟨rfl, rfl⟩, zL_sL, if_neg (by omega)]
  · rw [zL_sD, zL_sD, zL_sL, if_neg (by omega), zL_sL, if_neg (by omega)]
  · rw [show ∀ (a : ZMem) (k : Nat) (v : UInt64), zL (zsD a 0 k v) = zL a from fun _ _ _ => rfl, show ∀ (a : ZMem) (k : Nat) (v : UInt64), zL (zsD a 0 k v) = zL a from fun _ _ _ => rfl, zLr _ _ _ (by decide), zLr _ _ _ (by decide)]
  · rw [zD_sD, if_neg (by omega), zD_sD, if_neg (by omega)]
    rfl
  · unfold cOf
    rw [zL_sD, zL_sD, zL_sL, if_neg (by omega), zL_sL, if_pos ⟨rfl, rfl⟩, zDr _ _ _ (by decide), zDr _ _ _ (by decide), zDr _ _ _ (by decide), zDr _ _ _ (by decide), zDr _ _ _ (by decide), zDr _ _ _ (by decide)]
    rfl
  · rw [zD_sD, if_neg (by omega), zD_sD, if_pos ⟨rfl, rfl⟩]
    rfl
  · rw [zD_sD, if_pos ⟨rfl, rfl⟩, zD_sD, if_neg (by omega)]
    rfl
  · rw [zD_sD, if_neg (by omega), zD_sD, if_neg (by omega)]
    rfl
theorem chR2_pt (m : ZMem) (c : Nat) : zCh (q_chR2 m c) m ∧ zL (q_chR2 m c) = zL m ∧ zD (q_chR2 m c) 0 = zD m 0 ∧ (∀ c', c' ≠ c → cOf (q_chR2 m c) c' = cOf m c') ∧ cOf (q_chR2 m c) c = (zL m 7 c, if 0 < zL m 7 c then zdiv (zD m 0 19) (FP.l2d (zL m 7 c)) else zD m 8 c, if 0 < zL m 7 c then zdiv (zD m 0 20) (FP.l2d (zL m 7 c)) else zD m 9 c, zD m 10 c) := by
  unfold q_chR2
  by_cases hp : 0 < zL m 7 c
  · rw [if_pos hp, if_pos hp, if_pos hp]
    refine ⟨(zSame_sD (XI := x0) (XL := xL3) (XD := xD4) (r := 9) _ c _ rfl).tr (zSame_sD m c _ rfl), rfl, (zDr _ _ _ (by decide)).trans (zDr _ _ _ (by decide)), fun c' h => ?_, ?_⟩
    · unfold cOf
      rw [zD_sD, if_neg (by omega), zD_sD, if_neg (by omega), zD_sD, if_neg (by omega), zD_sD, if_neg (by omega), zD_sD, if_neg (by omega), zD_sD, if_neg (by omega)]
      rfl
    · unfold cOf
      rw [zD_sD, if_neg (by omega), zD_sD, if_pos ⟨rfl, rfl⟩, zD_sD, if_pos ⟨rfl, rfl⟩, zD_sD, if_neg (by omega), zD_sD, if_neg (by omega), zD_sD, if_neg (by omega)]
      rfl
  · rw [if_neg hp, if_neg hp, if_neg hp]
    exact ⟨zSame.rf _ _ _ _, rfl, rfl, fun _ _ => rfl, rfl⟩
theorem chR3_pt (v : UInt64) (m : ZMem) (c : Nat) : zCh (q_chR3 v m c) m ∧ zL (q_chR3 v m c) = zL m ∧ zD (q_chR3 v m c) 0 = zD m 0 ∧ (∀ c', c' ≠ c → cOf (q_chR3 v m c) c' = cOf m c') ∧ cOf (q_chR3 v m c) c = (zL m 7 c, zD m 8 c, zD m 9 c, if zgt (zD m 0 21) k02 = true then zadd (zD m 10 c) (zmul (zmul k0001 v) (zsub (zD m 0 21) k02)) else zD m 10 c) := by
  unfold q_chR3
  by_cases hp : zgt (zD m 0 21) k02 = true
  · rw [if_pos hp, if_pos hp]
    refine ⟨zSame_sD m c _ rfl, rfl, zDr _ _ _ (by decide), fun c' h => ?_, ?_⟩
    · unfold cOf
      rw [zD_sD, if_neg (by omega), zD_sD, if_neg (by omega), zD_sD, if_neg (by omega)]
      rfl
    · unfold cOf
      rw [zD_sD, if_neg (by omega), zD_sD, if_neg (by omega), zD_sD, if_pos ⟨rfl, rfl⟩]
      rfl
  · rw [if_neg hp, if_neg hp]
    exact ⟨zSame.rf _ _ _ _, rfl, rfl, fun _ _ => rfl, rfl⟩
/-- what a cell becomes -/
def p_cell (κ : ZMem) (w h i j : Nat) (v : UInt64) : CV := p_end v (zD κ 6 (12 * j + i)) (zD κ 10 (12 * j + i)) (zD κ 8 (12 * j + i)) (zD κ 9 (12 * j + i)) (p_sum κ w h i j (c0 κ (12 * j + i)))
def p_riv (κ : ZMem) (i j : Nat) (v : UInt64) : Int64 := FP.d2l (zmul (zD κ 6 (12 * j + i)) v)
theorem change_pt {κ m : ZMem} (hC : zCh m κ) (w h i j : Nat) (v : UInt64) (hc : cOf m (12 * j + i) = cOf κ (12 * j + i)) : zCh (q_change w h i j v m) κ ∧ cOf (q_change w h i j v m) (12 * j + i) = p_cell κ w h i j v ∧ (∀ c', c' ≠ 12 * j + i → cOf (q_change w h i j v m) c' = cOf m c') ∧ zL (q_change w h i j v m) 0 12 = zL m 0 12 + p_riv κ i j v ∧ (∀ a, a ≠ 12 → zL (q_change w h i j v m) 0 a = zL m 0 a) ∧ (∀ k, k < 4 → zL (q_change w h i j v m) 12 k = zL m 12 k + pM κ w h i j (k + 4)) ∧ zD (q_change w h i j v m) 0 13 = zD m 0 13 := by
  have h7 : zL m 7 (12 * j + i) = zL κ 7 (12 * j + i) := congrArg (fun q : CV => q.1) hc
  have h8 : zD m 8 (12 * j + i) = zD κ 8 (12 * j + i) := congrArg (fun q : CV => q.2.1) hc
  have h9 : zD m 9 (12 * j + i) = zD κ 9 (12 * j + i) := congrArg (fun q : CV => q.2.2.1) hc
  have h10 : zD m 10 (12 * j + i) = zD κ 10 (12 * j + i) := congrArg (fun q : CV => q.2.2.2) hc
  obtain ⟨s1, s2, s3, s4⟩ := mSum_pt hC w h i j h7
  have e : q_change w h i j v m = q_chR v (mSum w h i j m) (12 * j + i) := rfl
  rw [e]
  unfold q_chR
  rw [s1.d (r := 6) rfl, show FP.d2l (zmul (zD κ 6 (12 * j + i)) v) = p_riv κ i j v from rfl]
  obtain ⟨g1, g2, g3, g4, g5, g6⟩ := s2
  generalize mSum w h i j m = M at *
  obtain ⟨r1, ⟨r2, r3, r4, r5, r6⟩, r7, r8, r9, r10⟩ := chR1_pt M (12 * j + i) (p_riv κ i j v)
  have q7 : zL (q_chR1 M (12 * j + i) (p_riv κ i j v)) 7 (12 * j + i) = zL M 7 (12 * j + i) + p_riv κ i j v := congrArg (fun q : CV => q.1) r7
  have q8 : zD (q_chR1 M (12 * j + i) (p_riv κ i j v)) 8 (12 * j + i) = zD M 8 (12 * j + i) := congrArg (fun q : CV => q.2.1) r7
  have q9 : zD (q_chR1 M (12 * j + i) (p_riv κ i j v)) 9 (12 * j + i) = zD M 9 (12 * j + i) := congrArg (fun q : CV => q.2.2.1) r7
  have q10 : zD (q_chR1 M (12 * j + i) (p_riv κ i j v)) 10 (12 * j + i) = zD M 10 (12 * j + i) := congrArg (fun q : CV => q.2.2.2) r7
  generalize q_chR1 M (12 * j + i) (p_riv κ i j v) = M1 at *
  obtain ⟨t1, t2, t3, t4, t5⟩ := chR2_pt M1 (12 * j + i)
  have u7 : zL (q_chR2 M1 (12 * j + i)) 7 (12 * j + i) = zL M1 7 (12 * j + i) := congrArg (fun q : CV => q.1) t5
  have u8 := congrArg (fun q : CV => q.2.1) t5
  have u9 := congrArg (fun q : CV => q.2.2.1) t5
  have u10 : zD (q_chR2 M1 (12 * j + i)) 10 (12 * j + i) = zD M1 10 (12 * j + i) := congrArg (fun q : CV => q.2.2.2) t5
  generalize q_chR2 M1 (12 * j + i) = M2 at *
  obtain ⟨v1, v2, v3, v4, v5⟩ := chR3_pt v M2 (12 * j + i)
  have x1 : zL M 7 (12 * j + i) = (p_sum κ w h i j (c0 κ (12 * j + i))).1 := congrArg (fun q : CV => q.1) s3
  have x2 : zD M 0 19 = (p_sum κ w h i j (c0 κ (12 * j + i))).2.1 := congrArg (fun q : CV => q.2.1) s3
  have x3 : zD M 0 20 = (p_sum κ w h i j (c0 κ (12 * j + i))).2.2.1 := congrArg (fun q : CV => q.2.2.1) s3
  have x4 : zD M 0 21 = (p_sum κ w h i j (c0 κ (12 * j + i))).2.2.2 := congrArg (fun q : CV => q.2.2.2) s3
  refine ⟨v1.tr (t1.tr (r1.tr s1)), ?_, fun c' hc' => ?_, ?_, fun a ha => ?_, fun k hk => ?_, ?_⟩
  · rw [v5, u7, u10, show zD M2 8 (12 * j + i) = _ from u8, show zD M2 9 (12 * j + i) = _ from u9, t3, q7, q8, q9, q10, r8, r9, r10, g3, g4, g5, h8, h9, h10, x1, x2, x3, x4]
    rfl
  · rw [v4 c' hc', t4 c' hc', r2 c' hc']
    unfold cOf
    rw [g1 c' hc', g3, g4, g5]
  · rw [v2, t2, r3, g2]
  · rw [v2, t2, r4 a ha, g2]
  · rw [v2, t2, r5, s4 k hk]
  · rw [v3, t3, r6, g6]
