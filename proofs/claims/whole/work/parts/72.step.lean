/-! the model's step, cell by cell -/
def xC16 : Nat → Bool := fun r => r == 16
def xC17 : Nat → Bool := fun r => r == 17 || r == 18
theorem cp_same (k : Nat) (m : ZMem) : zSame x0 xC16 xC17 (q_cp k m) m := (zSame_sD (XI := x0) (XL := xC16) (XD := xC17) (r := 18) _ k _ rfl).tr ((zSame_sD (XI := x0) (XL := xC16) (XD := xC17) (r := 17) _ k _ rfl).tr (zSame_sL m k _ rfl))
theorem mCp_pt (m : ZMem) : zSame x0 xC16 xC17 (zit q_cp 144 m) m ∧ ∀ k, k < 144 → zL (zit q_cp 144 m) 16 k = zL m 7 k ∧ zD (zit q_cp 144 m) 17 k = zD m 8 k ∧ zD (zit q_cp 144 m) 18 k = zD m 9 k := by
  refine zpt (f := q_cp) (J := fun s => zSame x0 xC16 xC17 s m) (P := fun k s => zL s 16 k = zL m 7 k ∧ zD s 17 k = zD m 8 k ∧ zD s 18 k = zD m 9 k) (Q := fun _ _ => True) 144 (fun k s _ q => (cp_same k s).tr q) (fun k s _ q _ => ?_) (fun k l s _ _ ne _ q => ?_) (fun _ _ _ _ _ _ _ _ => trivial) (zSame.rf _ _ _ m) (fun _ _ => trivial)
  · unfold q_cp
    refine ⟨?_, ?_, ?_⟩
    · rw [zL_sD, zL_sD, zL_sL, if_pos ⟨rfl, rfl⟩, q.2.2.1 7 rfl]
    · rw [zD_sD, if_neg (by omega), zD_sD, if_pos ⟨rfl, rfl⟩, zD_sL, q.2.2.2 8 rfl]
    · rw [zD_sD, if_pos ⟨rfl, rfl⟩, zD_sD, if_neg (by omega), zD_sL, q.2.2.2 9 rfl]
  · obtain ⟨q1, q2, q3⟩ := q
    unfold q_cp
    refine ⟨?_, ?_, ?_⟩
    · rw [zL_sD, zL_sD, zL_sL, if_neg (by omega), q1]
    · rw [zD_sD, if_neg (by omega), zD_sD, if_neg (by omega), zD_sL, q2]
    · rw [zD_sD, if_neg (by omega), zD_sD, if_neg (by omega), zD_sL, q3]
def p_new (κ : ZMem) (w h : Nat) (v : UInt64) (i j : Nat) : CV := if t_isWater κ w h (nI i) (nI j) = 0 then cOf κ (12 * j + i) else p_cell κ w h i j v
def gRiv (κ : ZMem) (w h : Nat) (v : UInt64) (i j : Nat) : Int64 := if t_isWater κ w h (nI i) (nI j) = 0 then 0 else p_riv κ i j v
def gOv (κ : ZMem) (w h k i j : Nat) : Int64 := if t_isWater κ w h (nI i) (nI j) = 0 then 0 else pM κ w h i j (k + 4)
theorem gI_pt {κ m : ZMem} (hC : zCh m κ) (w h i j : Nat) (v : UInt64) (hc : cOf m (12 * j + i) = cOf κ (12 * j + i)) : zCh (q_gI w h j v i m) κ ∧ cOf (q_gI w h j v i m) (12 * j + i) = p_new κ w h v i j ∧ (∀ c', c' ≠ 12 * j + i → cOf (q_gI w h j v i m) c' = cOf m c') ∧ zL (q_gI w h j v i m) 0 12 = zL m 0 12 + gRiv κ w h v i j ∧ (∀ a, a ≠ 12 → zL (q_gI w h j v i m) 0 a = zL m 0 a) ∧ (∀ k, k < 4 → zL (q_gI w h j v i m) 12 k = zL m 12 k + gOv κ w h k i j) ∧ zD (q_gI w h j v i m) 0 13 = zD m 0 13 := by
  by_cases e : t_isWater κ w h (nI i) (nI j) = 0
  · have e0 : q_gI w h j v i m = m := if_pos (by rw [hC.water]; exact e)
    have e1 : p_new κ w h v i j = cOf κ (12 * j + i) := if_pos e
    have e2 : gRiv κ w h v i j = 0 := if_pos e
    have e3 : ∀ k, gOv κ w h k i j = 0 := fun k => if_pos e
    rw [e0, e1, e2]
    refine ⟨hC, hc, fun _ _ => rfl, ?_, fun _ _ => rfl, fun k _ => ?_, rfl⟩
    · simp
    · rw [e3]
      simp
  · have e0 : q_gI w h j v i m = q_change w h i j v m := if_neg (by rw [hC.water]; exact e)
    have e1 : p_new κ w h v i j = p_cell κ w h i j v := if_neg e
    have e2 : gRiv κ w h v i j = p_riv κ i j v := if_neg e
    have e3 : ∀ k, gOv κ w h k i j = pM κ w h i j (k + 4) := fun k => if_neg e
    rw [e0, e1, e2]
    obtain ⟨a1, a2, a3, a4, a5, a6, a7⟩ := change_pt hC w h i j v hc
    exact ⟨a1, a2, a3, a4, a5, fun k hk => (a6 k hk).trans (by rw [e3]), a7⟩
theorem gJ_pt {κ m : ZMem} (hC : zCh m κ) (w h j : Nat) (v : UInt64) (hw : w ≤ 12) (hc : ∀ i, i < w → cOf m (12 * j + i) = cOf κ (12 * j + i)) : ∀ n, n ≤ w → zCh (zit (q_gI w h j v) n m) κ ∧ (∀ i, i < n → cOf (zit (q_gI w h j v) n m) (12 * j + i) = p_new κ w h v i j) ∧ (∀ c', (∀ i, i < n → c' ≠ 12 * j + i) → cOf (zit (q_gI w h j v) n m) c' = cOf m c') ∧ zL (zit (q_gI w h j v) n m) 0 12 = zit (fun i s => s + gRiv κ w h v i j) n (zL m 0 12) ∧ (∀ a, a ≠ 12 → zL (zit (q_gI w h j v) n m) 0 a = zL m 0 a) ∧ (∀ k, k < 4 → zL (zit (q_gI w h j v) n m) 12 k = zit (fun i s => s + gOv κ w h k i j) n (zL m 12 k)) ∧ zD (zit (q_gI w h j v) n m) 0 13 = zD m 0 13 := by
  intro n
  induction n with
  | zero => exact fun _ => ⟨hC, fun i hi => absurd hi (by omega), fun _ _ => rfl, rfl, fun _ _ => rfl, fun _ _ => rfl, rfl⟩
  | succ n ih =>
    intro hn
    obtain ⟨a1, a2, a3, a4, a5, a6, a7⟩ := ih (by omega)
    have hcn : cOf (zit (q_gI w h j v) n m) (12 * j + n) = cOf κ (12 * j + n) := (a3 _ (fun i hi => by omega)).trans (hc n (by omega))
    obtain ⟨b1, b2, b3, b4, b5, b6, b7⟩ := gI_pt a1 w h n j v hcn
    refine ⟨b1, fun i hi => ?_, fun c' hc' => ?_, b4.trans ?_, fun a ha => (b5 a ha).trans (a5 a ha), fun k hk => (b6 k hk).trans ?_, b7.trans a7⟩
    · by_cases e : i = n
      · subst e
        exact b2
      · exact (b3 _ (by omega)).trans (a2 i (by omega))
    · exact (b3 _ (hc' n (by omega))).trans (a3 c' (fun i hi => hc' i (by omega)))
    · rw [a4]
      rfl
    · rw [a6 k hk]
      rfl
theorem gAll_pt {κ : ZMem} (w h : Nat) (v : UInt64) (hw : w ≤ 12) : ∀ n, n ≤ h → zCh (zit (q_gJ w h v) n κ) κ ∧ (∀ j, j < n → ∀ i, i < w → cOf (zit (q_gJ w h v) n κ) (12 * j + i) = p_new κ w h v i j) ∧ (∀ c', (∀ j, j < n → ∀ i, i < w → c' ≠ 12 * j + i) → cOf (zit (q_gJ w h v) n κ) c' = cOf κ c') ∧ zL (zit (q_gJ w h v) n κ) 0 12 = zit (fun j s => zit (fun i s => s + gRiv κ w h v i j) w s) n (zL κ 0 12) ∧ (∀ a, a ≠ 12 → zL (zit (q_gJ w h v) n κ) 0 a = zL κ 0 a) ∧ (∀ k, k < 4 → zL (zit (q_gJ w h v) n κ) 12 k = zit (fun j s => zit (fun i s => s + gOv κ w h k i j) w s) n (zL κ 12 k)) ∧ zD (zit (q_gJ w h v) n κ) 0 13 = zD κ 0 13 := by
  intro n
  induction n with
  | zero => exact fun _ => ⟨zSame.rf _ _ _ _, fun i hi => absurd hi (by omega), fun _ _ => rfl, rfl, fun _ _ => rfl, fun _ _ => rfl, rfl⟩
  | succ n ih =>
    intro hn
    obtain ⟨a1, a2, a3, a4, a5, a6, a7⟩ := ih (by omega)
    have hcn : ∀ i, i < w → cOf (zit (q_gJ w h v) n κ) (12 * n + i) = cOf κ (12 * n + i) := fun i hi => a3 _ (fun j hj i' hi' => by omega)
    obtain ⟨b1, b2, b3, b4, b5, b6, b7⟩ := gJ_pt a1 w h n v hw hcn w (Nat.le_refl w)
    refine ⟨b1, fun j hj i hi => ?_, fun c' hc' => ?_, b4.trans ?_, fun a ha => (b5 a ha).trans (a5 a ha), fun k hk => (b6 k hk).trans ?_, b7.trans a7⟩
    · by_cases e : j = n
      · subst e
        exact b2 i hi
      · exact (b3 _ (fun i' hi' => by omega)).trans (a2 j (by omega) i hi)
    · exact (b3 _ (hc' n (by omega))).trans (a3 c' (fun j hj => hc' j (by omega)))
    · rw [a4]
      rfl
    · rw [a6 k hk]
      rfl
/-- what there is when the flows are known and the start is kept -/
def mKap (w h hr : Nat) (v : UInt64) (ν : ZMem) : ZMem := zit q_cp 144 (mFl w h hr v ν)
def xKL : Nat → Bool := fun r => r == 19 || r == 16
def xKD : Nat → Bool := fun r => r == 11 || (r == 17 || r == 18)
theorem xor_or {a b : Bool} (h : (a || b) = false) : a = false ∧ b = false := by
  revert h
  cases a <;> cases b <;> decide
theorem mKap_pt {ν : ZMem} {w h : Nat} (hd : zDim w h) (hr : Nat) (v : UInt64) : zSame x0 xKL xKD (mKap w h hr v ν) ν ∧ (∀ k, k < 144 → zL (mKap w h hr v ν) 16 k = zL ν 7 k ∧ zD (mKap w h hr v ν) 17 k = zD ν 8 k ∧ zD (mKap w h hr v ν) 18 k = zD ν 9 k) ∧ ∀ j, j < h → ∀ i, i < w → cDone ν (mKap w h hr v ν) w h hr v i j := by
  obtain ⟨a1, a2⟩ := mFl_pt (ν := ν) hd hr v
  obtain ⟨b1, b2⟩ := mCp_pt (mFl w h hr v ν)
  have hS : ∀ f, zD (mKap w h hr v ν) 11 f = zD (mFl w h hr v ν) 11 f := fun f => congrFun (b1.2.2.2 11 rfl) f
  have hF : ∀ f, zL (mKap w h hr v ν) 19 f = zL (mFl w h hr v ν) 19 f := fun f => congrFun (b1.2.2.1 19 rfl) f
  refine ⟨(b1.mo (fun _ q => q) (fun r q => (xor_or q).2) (fun r q => (xor_or q).2)).tr (a1.mo (fun _ q => q) (fun r q => (xor_or q).1) (fun r q => (xor_or q).1)), fun k hk => ?_, fun j hj i hi => ?_⟩
  · obtain ⟨c1, c2, c3⟩ := b2 k hk
    exact ⟨c1.trans (congrFun (a1.l (r := 7) rfl) k), c2.trans (congrFun (a1.d (r := 8) rfl) k), c3.trans (congrFun (a1.d (r := 9) rfl) k)⟩
  · obtain ⟨d1, d2⟩ := a2 j hj i hi
    exact ⟨fun k hk => fKeep.done ⟨hS _, hF _⟩ (d1 k hk), fun k hk ha => fKeep.done ⟨hS _, hF _⟩ (d2 k hk ha)⟩
def xRL : Nat → Bool := fun r => r == 19 || (r == 16 || (r == 7 || (r == 12 || r == 0)))
def xRD : Nat → Bool := fun r => r == 11 || (r == 17 || (r == 18 || (r == 0 || (r == 8 || (r == 9 || r == 10)))))
theorem step_pt {ν : ZMem} {w h : Nat} (hd : zDim w h) (hr : Nat) (v : UInt64) : zSame x0 xRL xRD (q_step w h hr v ν) ν ∧ (∀ j, j < h → ∀ i, i < w → cOf (q_step w h hr v ν) (12 * j + i) = p_new (mKap w h hr v ν) w h v i j) ∧ (∀ c', (∀ j, j < h → ∀ i, i < w → c' ≠ 12 * j + i) → cOf (q_step w h hr v ν) c' = cOf ν c') ∧ zL (q_step w h hr v ν) 0 12 = zit (fun j s => zit (fun i s => s + gRiv (mKap w h hr v ν) w h v i j) w s) h (zL ν 0 12) ∧ (∀ a, a ≠ 12 → zL (q_step w h hr v ν) 0 a = zL ν 0 a) ∧ (∀ k, k < 4 → zL (q_step w h hr v ν) 12 k = zit (fun j s => zit (fun i s => s + gOv (mKap w h hr v ν) w h k i j) w s) h (zL ν 12 k)) ∧ zD (q_step w h hr v ν) 0 13 = zadd (zD ν 0 13) v ∧ zD (q_step w h hr v ν) 11 = zD (mKap w h hr v ν) 11 := by
  obtain ⟨k1, k2, k3⟩ := mKap_pt (ν := ν) hd hr v
  have e : q_step w h hr v ν = q_tm v (zit (q_gJ w h v) h (mKap w h hr v ν)) := rfl
  rw [e]
  generalize mKap w h hr v ν = κ at *
  obtain ⟨a1, a2, a3, a4, a5, a6, a7⟩ := gAll_pt (κ := κ) w h v hd.2.1 h (Nat.le_refl h)
  generalize zit (q_gJ w h v) h κ = M at *
  have t1 : zSame x0 x0 (fun r => r == 0) (q_tm v M) M := zSame_sD M 13 _ rfl
  have tc : ∀ c, cOf (q_tm v M) c = cOf M c := fun c => rfl
  have t0 : ∀ a b, zL (q_tm v M) a b = zL M a b := fun _ _ => rfl
  have hcO : ∀ c, cOf κ c = cOf ν c := fun c => by
    unfold cOf
    rw [k1.2.2.1 7 rfl, k1.2.2.2 8 rfl, k1.2.2.2 9 rfl, k1.2.2.2 10 rfl]
  refine ⟨?_, fun j hj i hi => (tc _).trans (a2 j hj i hi), fun c' hc' => (tc _).trans ((a3 c' hc').trans (hcO c')), ?_, fun a ha => ?_, fun k hk => ?_, ?_, ?_⟩
  · refine (t1.mo (fun _ q => q) (fun _ _ => rfl) (fun r q => ?_)).tr ((a1.mo (fun _ q => q) (fun r q => ?_) (fun r q => ?_)).tr (k1.mo (fun _ q => q) (fun r q => ?_) (fun r q => ?_)))
    · exact (xor_or (xor_or (xor_or (xor_or q).2).2).2).1
    · exact (xor_or (xor_or q).2).2
    · exact (xor_or (xor_or (xor_or q).2).2).2
    · obtain ⟨q1, q2⟩ := xor_or q
      show (r == 19 || r == 16) = false
      rw [q1, (xor_or q2).1]
      rfl
    · obtain ⟨q1, q2⟩ := xor_or q
      obtain ⟨q3, q4⟩ := xor_or q2
      show (r == 11 || (r == 17 || r == 18)) = false
      rw [q1, q3, (xor_or q4).1]
      rfl
  · rw [t0, a4, k1.2.2.1 0 rfl]
  · rw [t0, a5 a ha, k1.2.2.1 0 rfl]
  · rw [t0, a6 k hk, k1.2.2.1 12 rfl]
  · show zD (zsD M 0 13 (zadd (zD M 0 13) v)) 0 13 = _
    rw [zD_sD, if_pos ⟨rfl, rfl⟩, a7, k1.2.2.2 0 rfl]
  · show zD (zsD M 0 13 (zadd (zD M 0 13) v)) 11 = _
    rw [zDr _ _ _ (by decide)]
    exact a1.d (r := 11) rfl
