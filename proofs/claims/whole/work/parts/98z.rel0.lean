theorem zsu_z : ∀ n : Nat, zsu (fun _ => 0) n = 0
  | 0 => rfl
  | n + 1 => by
    show zsu (fun _ => 0) n + 0 = 0
    rw [zsu_z n]
    rfl
theorem zv_z : zv 0 = 0 := zv_0
theorem zU_p : (0 : Int) ≤ zU := by decide +kernel
theorem zBw_0 (n : Nat) : zBw n 0 := ⟨zfi_0, by rw [zv_0]; have := Bd_40 n; have := zU_p; omega, by rw [zv_0]; have := Bd_40 n; have := zU_p; omega⟩
theorem zSp_0 (n : Nat) : zSp n 0 := ⟨zfi_0, by rw [zv_0]; exact Int.mul_nonneg (Int.mul_nonneg (Int.natCast_nonneg n) (by decide)) zU_p, by rw [zv_0]; have := Int.mul_nonneg (Int.mul_nonneg (Int.natCast_nonneg n) (by decide : (0:Int) ≤ 2 ^ 59)) zU_p; omega⟩
theorem rel0_cell {μ m : ZMem} {c c' : Nat} (h1 : zI μ c 0 = 0 ∧ zI m 4 c' = 0) (hD : ∀ a b, zD μ a b = 0 ∧ zD m a b = 0) (hL : zL μ c 2 = 0 ∧ zL m 7 c' = 0) : rCell μ m c c' :=
  ⟨h1.1.trans h1.2.symm, (hD _ _).1.trans (hD _ _).2.symm, hL.1.trans hL.2.symm, Or.inl ((hD _ _).1.trans (hD _ _).2.symm), Or.inl ((hD _ _).1.trans (hD _ _).2.symm), Or.inl ((hD _ _).1.trans (hD _ _).2.symm), (hD _ _).1.trans (hD _ _).2.symm⟩
set_option maxHeartbeats 4000000 in
theorem rel0 {w h L : Nat} (hd : zDim w h) (hL4 : L ≤ 4) : REL 0 w h (nI L) (c_X6 w h (nI L)) (c_X7 w h (nI L)) := by
  obtain ⟨hw1, hw2, hh1, hh2⟩ := hd
  have hwh : w * h ≤ 144 := Nat.le_trans (Nat.mul_le_mul hw2 hh2) (by decide)
  have hwh1 : (w - 1) * h ≤ 144 := Nat.le_trans (Nat.mul_le_mul (show w - 1 ≤ 12 by omega) hh2) (by decide)
  have hwh2 : w * (h - 1) ≤ 144 := Nat.le_trans (Nat.mul_le_mul hw2 (show h - 1 ≤ 12 by omega)) (by decide)
  have hF : fcA w h = (w - 1) * h + w * (h - 1) + 2 * w + 2 * h := rfl
  have hc : ∀ i j, i < w → j < h → 1000 + (j * w + i) < 1144 := fun i j hi hj => by
    have h1 := Nat.mul_le_mul_right w (show j + 1 ≤ h by omega)
    rw [Nat.succ_mul, Nat.mul_comm h w] at h1
    omega
  have D6 := c6_D w h (nI L)
  have L6 := c6_L w h (nI L)
  have D7 := c7_D w h (nI L)
  have L7 := c7_L w h (nI L)
  have I7 : ∀ a b, a ≠ 0 ∨ 3 ≤ b → zI (c_X7 w h (nI L)) a b = 0 := fun a b q => c7_I w h (nI L) q
  have I6 : ∀ a b, (a < 80 ∨ 84 ≤ a) → a < 2000 → (a ≠ 0 ∨ 3 ≤ b) → zI (c_X6 w h (nI L)) a b = 0 := fun a b q1 q2 q3 => c6_I w h (nI L) q1 q2 q3
  have Rc : ∀ c b, 1000 ≤ c → c < 1144 → zR (c_X6 w h (nI L)) c b = none := fun c b q1 q2 => c6_Rz w h (nI L) (by omega)
  have n0 : nI 0 = 0 := nI_0
  refine ⟨⟨⟨hw1, hw2, hh1, hh2⟩, by omega, ?_, ?_, ?_, L, hL4, rfl⟩, ?_, ?_, ?_, ?_, ?_, ?_, ?_, ?_, ?_, ?_, ?_⟩
  · exact ⟨fun k hk => c6_r0 w h _ hk, fun k hk => c6_r1 w h _ hk, fun n hn => (c6_r2 w h _ hn).1, fun k hk => c6_r3 w h _ hk, fun k hk => c6_r6 w h _ hk, fun k hk => c6_r7 w h _ hk, c6_r8 w h _, fun n hn => ⟨(c6_r2 w h _ hn).2.1, (c6_r2 w h _ hn).2.2.1, (c6_r2 w h _ hn).2.2.2, c6_Iax w h _ hn⟩, (c6_Iw w h _).1, (c6_Iw w h _).2.1, (c6_Iw w h _).2.2, hw1, hw2, hh1, hh2⟩
  · refine ⟨fun k n hk hn => ?_, fun i hi => ⟨0, by decide, ?_⟩⟩
    · rw [Rc _ _ (by omega) (by omega)] at hn
      cases hn
    · rw [I6 _ _ (by omega) (by omega) (by omega), n0]
  · exact ⟨fun k hk => c7_R w h _ k hk, rfl, rfl, rfl, hw1, hw2, hh1, hh2⟩
  · intro j hj i hi
    have := hc i j hi hj
    exact rel0_cell ⟨I6 _ _ (by omega) (by omega) (by omega), I7 _ _ (by omega)⟩ (fun a b => ⟨D6 a b, D7 a b⟩) ⟨L6 _ _, L7 _ _⟩
  · exact ⟨fun i j _ _ => Or.inl ((D6 _ _).trans (D7 _ _).symm), fun i j _ _ => Or.inl ((D6 _ _).trans (D7 _ _).symm), fun s t _ _ => Or.inl ((D6 _ _).trans (D7 _ _).symm)⟩
  · intro s hs
    refine ⟨(L6 _ _).trans (L7 _ _).symm, ⟨fun _ k _ => I7 _ _ (by omega), fun _ => I6 _ _ (by omega) (by omega) (by omega)⟩, fun k _ => ⟨fun _ => D6 _ _, fun q => absurd (I7 _ _ (by omega)) q⟩⟩
  · intro k _
    exact ⟨(D6 _ _).trans (D7 _ _).symm, (D6 _ _).trans (D7 _ _).symm⟩
  · exact ⟨(D6 _ _).trans (D7 _ _).symm, (L6 _ _).trans (L7 _ _).symm, (L6 _ _).trans (L7 _ _).symm⟩
  · refine ⟨fun j _ i _ => ⟨by rw [L7]; decide, fun _ => L7 _ _, by rw [D7]; exact zBw_0 0, by rw [D7]; exact zBw_0 0, by rw [D7]; exact ⟨zfi_0, by rw [zv_0]; decide, by rw [zv_0]; have := zU_p; omega⟩⟩, ?_, ?_, ?_, ?_, ?_, ?_⟩
    · have e : zTt w h (c_X7 w h (nI L)) = 0 := by
        unfold zTt zs2
        have e1 : (fun j => zsu (fun i => (zL (c_X7 w h (nI L)) 7 (12 * j + i)).toInt) w) = fun _ => 0 := by
          funext j
          have e2 : (fun i => (zL (c_X7 w h (nI L)) 7 (12 * j + i)).toInt) = fun _ => 0 := by
            funext i
            rw [L7]
            rfl
          rw [e2, zsu_z]
        rw [e1, zsu_z]
      rw [e]
      decide
    · intro j _ i _
      rw [D7]
      exact ⟨zfi_0, by rw [zv_0]; decide, by rw [zv_0]; have := zU_p; omega⟩
    · intro k _
      rw [D7, D7]
      exact ⟨⟨zfi_0, by rw [zv_0]; have := zU_p; omega, by rw [zv_0]; have := zU_p; omega⟩, zfi_0, by rw [zv_0]; have := zU_p; omega, by rw [zv_0]; have := zU_p; omega⟩
    · intro j _ i _
      refine ⟨fun k _ => by rw [D7]; exact zSp_0 0, fun k _ _ => by rw [D7]; exact ⟨zSp_0 0, fun _ => by rw [zv_0]; have := zU_p; omega, fun _ => by rw [zv_0]; have := zU_p; omega⟩⟩
    · intro s hs k hk q
      exact absurd (I7 _ _ (by omega)) q
    · rw [D7]
      exact ⟨zfi_0, by rw [zv_0]; decide, by rw [zv_0]; simp⟩
  · refine ⟨0, by decide, ?_, ?_, fun i _ hi => ⟨c6_R60 w h _ hi (by decide), fun k _ => L6 _ _⟩, fun i hi => absurd hi (Nat.not_lt_zero _), fun i hi c hcc => ?_, fun x y hx hy => ⟨⟨fun _ => ?_, fun _ => I7 _ _ (by omega)⟩, fun n hn => ?_⟩⟩
    · rw [I6 _ _ (by omega) (by omega) (by omega), n0]
    · rw [I7 _ _ (by omega), n0]
    · rw [c6_R60 w h _ hi (by decide)] at hcc
      cases hcc
    · exact Rc _ _ (by omega) (hc x y hx hy)
    · rw [Rc _ _ (by omega) (hc x y hx hy)] at hn
      cases hn
  · refine ⟨0, by decide, ?_, ?_, fun g hg => absurd hg (Nat.not_lt_zero _), fun x y hx hy => ⟨fun _ g hg => absurd hg (Nat.not_lt_zero _), fun q => absurd (I6 _ _ (by omega) (by have := hc x y hx hy; omega) (by omega)) q⟩⟩
    · rw [I6 _ _ (by omega) (by omega) (by omega), n0]
    · rw [I7 _ _ (by omega), n0]
  · refine ⟨0, Or.inl rfl, ?_, ?_, fun k hk => absurd hk (Nat.not_lt_zero _)⟩
    · rw [I6 _ _ (by omega) (by omega) (by omega), n0]
    · rw [I7 _ _ (by omega), n0]
  · refine ⟨0, 0, by decide, Nat.le_refl _, ?_, ?_, ?_, ?_, fun T _ hT => c6_Ich w h _ hT, fun T hT => absurd hT (Nat.not_lt_zero _)⟩
    · rw [I6 _ _ (by omega) (by omega) (by omega), n0]
    · rw [I7 _ _ (by omega), n0]
    · rw [I6 _ _ (by omega) (by omega) (by omega), n0]
    · rw [I7 _ _ (by omega), n0]
  · exact fun c _ _ => ⟨L7 _ _, fun T _ => L7 _ _⟩
