/-! a face's speed and flow, as whole numbers rounded -/
theorem zk_1 : zv k1 = zU := by decide +kernel
theorem zk_g1 : zU ≤ 128 * zv kg := by decide +kernel
theorem zk_g2 : 100 * zv kg ≤ zU := by decide +kernel
theorem zk_g0 : 0 ≤ zv kg := by decide +kernel
theorem zk_w0 : 0 ≤ zv kw := by decide +kernel
theorem zk_w2 : 65536 * zv kw ≤ zU := by decide +kernel
theorem zk_f1 : zU ≤ 512 * zv kf := by decide +kernel
theorem zk_f0 : 0 ≤ zv kf := by decide +kernel
theorem zRn (n : Nat) (hn : n < 2 ^ 53) {V : Int} (h : V = (n : Int) * zU) : zRep V := by
  rw [h]
  exact zRep_n n hn
theorem zRm (n : Nat) (hn : n < 2 ^ 53) {V : Int} (h : V = -((n : Int) * zU)) : zRep V := by
  rw [h]
  exact zRep_neg (zRep_n n hn)
theorem zU512 : ∃ u : Int, zU = 512 * u ∧ zRep u := ⟨((1 * 2 ^ 1065 : Nat) : Int), by decide +kernel, zRep_mk 1 1065 (by decide) (by decide)⟩
theorem sp_up {S D W H A B Y X N K L E R aS : Int} (hH1 : zU ≤ H) (hH2 : H ≤ 600 * zU) (hW : W ≤ 100 * zU) (hA : zRd (zv kg * D) zU A) (hB : zRd (zv kw * W) zU B) (hY : zRd (A + B) 1 Y) (hX : zRd (H * Y) zU X) (hN : zRd (S + X) 1 N) (hK : zRd (zv kf * H) zU K) (hL : zRd (K * aS) zU L) (ha1 : S ≤ aS) (ha0 : 0 ≤ aS) (hE : zRd (zU + L) 1 E) (hR : zRd (N * zU) E R) (hS : S ≤ 16384 * zU) (hD : D ≤ 2300 * zU) : R ≤ 16384 * zU ∧ B ≤ zU ∧ zU ≤ E := by
  have hU := zU_pos
  have hUU : 0 < zU * zU := Int.mul_pos hU hU
  have g0 := zk_g0
  have g2 := zk_g2
  have w0 := zk_w0
  have w2 := zk_w2
  have f1 := zk_f1
  have f0 := zk_f0
  generalize zv kg = G at *
  generalize zv kw = Wk at *
  generalize zv kf = F at *
  have a1 : A ≤ 23 * zU := by
    refine (hA _ (zRn 23 (by decide) (by simp))).1 ?_
    have p1 := Int.mul_le_mul_of_nonneg_left hD g0
    have p2 := Int.mul_le_mul_of_nonneg_right g2 (Int.le_of_lt hU)
    grind
  have b1 : B ≤ zU := by
    refine (hB _ (zRn 1 (by decide) (by simp))).1 ?_
    have p1 := Int.mul_le_mul_of_nonneg_left hW w0
    have p2 := Int.mul_le_mul_of_nonneg_right w2 (Int.le_of_lt hU)
    have p3 := Int.mul_nonneg w0 (Int.le_of_lt hU)
    grind
  have y1 : Y ≤ 24 * zU := (hY _ (zRn 24 (by decide) (by simp))).1 (by omega)
  have x1 : X ≤ 14400 * zU := by
    refine (hX _ (zRn 14400 (by decide) (by simp))).1 ?_
    have p1 := Int.mul_le_mul_of_nonneg_left y1 (show 0 ≤ H by omega)
    have p2 := Int.mul_le_mul_of_nonneg_right hH2 (Int.le_of_lt hU)
    grind
  have k0 : 0 ≤ K := (hK 0 zRep_0).2 (by rw [Int.zero_mul]; exact Int.mul_nonneg f0 (by omega))
  have l0 : 0 ≤ L := (hL 0 zRep_0).2 (by rw [Int.zero_mul]; exact Int.mul_nonneg k0 ha0)
  have e1 : zU ≤ E := (hE _ (zRn 1 (by decide) (by simp))).2 (by omega)
  refine ⟨?_, b1, e1⟩
  by_cases hc : S ≤ 1024 * zU
  · have n1 : N ≤ 15424 * zU := (hN _ (zRn 15424 (by decide) (by simp))).1 (by omega)
    have r1 : R ≤ 15424 * zU := by
      refine (hR _ (zRn 15424 (by decide) (by simp))).1 ?_
      have p1 := Int.mul_le_mul_of_nonneg_right n1 (Int.le_of_lt hU)
      have p2 := Int.mul_le_mul_of_nonneg_left e1 (show 0 ≤ 15424 * zU by omega)
      omega
    omega
  · have n1 : N ≤ 30784 * zU := (hN _ (zRn 30784 (by decide) (by simp))).1 (by omega)
    obtain ⟨u, hu, ru⟩ := zU512
    have k1 : u ≤ K := by
      refine (hK u ru).2 ?_
      have p1 := Int.mul_le_mul_of_nonneg_left hH1 f0
      have p2 := Int.mul_le_mul_of_nonneg_right f1 (Int.le_of_lt hU)
      rw [hu] at p1 p2 ⊢
      grind
    have l1 : 2 * zU ≤ L := by
      refine (hL _ (zRn 2 (by decide) (by simp))).2 ?_
      have p1 := Int.mul_le_mul_of_nonneg_right k1 ha0
      have p2 := Int.mul_le_mul_of_nonneg_left (show 1024 * zU ≤ aS by omega) (show 0 ≤ u by omega)
      rw [hu] at p2 ⊢
      grind
    have e2 : 3 * zU ≤ E := (hE _ (zRn 3 (by decide) (by simp))).2 (by omega)
    have r1 : R ≤ 10262 * zU := by
      refine (hR _ (zRn 10262 (by decide) (by simp))).1 ?_
      have p1 := Int.mul_le_mul_of_nonneg_right n1 (Int.le_of_lt hU)
      have p2 := Int.mul_le_mul_of_nonneg_left e2 (show 0 ≤ 10262 * zU by omega)
      grind
    omega
theorem zRep_cut {M : Int} (h : zRep M) (hM : zU ≤ M) : ∃ m : Int, M = 1024 * m ∧ zRep m ∧ zRep (2 * m) ∧ zRep (256 * m) ∧ zRep (512 * m) := by
  obtain ⟨s, c, q, h1, h2⟩ := h
  have hU := zU_pos
  rw [zv_sgn] at h2
  have hs : s = false := by
    cases s
    · rfl
    · unfold FP.Core.signed at h2
      rw [if_pos rfl] at h2
      omega
  subst hs
  have h3 : ((c * 2 ^ (q - FP.Core.b64.qmin).toNat : Nat) : Int) = M := h2
  have hc : c < 2 ^ 53 := h1.1
  have hq := h1.2.2.1
  have hqm : FP.Core.b64.qmax = 971 := by decide +kernel
  have hqn : FP.Core.b64.qmin = -1074 := FP.Core.qmin_b64
  obtain ⟨k, hk⟩ : ∃ k : Nat, k = (q - FP.Core.b64.qmin).toNat := ⟨_, rfl⟩
  rw [← hk] at h3
  have hk2 : k ≤ 2045 := by rw [hk]; omega
  have hk1 : 1022 ≤ k := by
    refine Nat.le_of_not_lt fun q => ?_
    have a1 : c * 2 ^ k < 2 ^ 53 * 2 ^ 1021 := Nat.mul_lt_mul_of_lt_of_le hc (Nat.pow_le_pow_right (by decide) (by omega)) (Nat.two_pow_pos _)
    rw [← Nat.pow_add] at a1
    have a2 : M < zU := by
      rw [← h3]
      unfold zU
      exact Int.ofNat_lt.mpr a1
    omega
  obtain ⟨j, rfl⟩ : ∃ j, k = j + 10 := ⟨k - 10, by omega⟩
  have e : ∀ i, i ≤ 10 → ((2 ^ i : Nat) : Int) * ((c * 2 ^ j : Nat) : Int) = ((c * 2 ^ (j + i) : Nat) : Int) := by
    intro i _
    rw [← Int.natCast_mul, Nat.pow_add]
    congr 1
    ac_rfl
  refine ⟨((c * 2 ^ j : Nat) : Int), ?_, zRep_mk c j hc (by omega), ?_, ?_, ?_⟩
  · rw [← h3, ← e 10 (by decide)]
    rfl
  · rw [show (2 : Int) = ((2 ^ 1 : Nat) : Int) from rfl, e 1 (by decide)]
    exact zRep_mk c _ hc (by omega)
  · rw [show (256 : Int) = ((2 ^ 8 : Nat) : Int) from rfl, e 8 (by decide)]
    exact zRep_mk c _ hc (by omega)
  · rw [show (512 : Int) = ((2 ^ 9 : Nat) : Int) from rfl, e 9 (by decide)]
    exact zRep_mk c _ hc (by omega)
/-- a bounded double, 2 ^ 14 times as great -/
theorem zRep_up {H : Int} (h : zRep H) (h0 : 0 ≤ H) (h1 : H ≤ 600 * zU) : zRep (16384 * H) := by
  obtain ⟨s, c, q, g1, g2⟩ := h
  rw [zv_sgn] at g2
  have hc : c < 2 ^ 53 := g1.1
  obtain ⟨k, hk⟩ : ∃ k : Nat, k = (q - FP.Core.b64.qmin).toNat := ⟨_, rfl⟩
  rw [← hk] at g2
  have hu : 600 * zU < ((2 ^ 1084 : Nat) : Int) := by decide +kernel
  have hn : FP.Core.signed s (c * 2 ^ k) = ((c * 2 ^ k : Nat) : Int) := by
    cases s
    · rfl
    · unfold FP.Core.signed at g2 ⊢
      rw [if_pos rfl] at g2 ⊢
      omega
  rw [hn] at g2
  rcases Nat.eq_zero_or_pos c with e | e
  · rw [← g2, e, Nat.zero_mul]
    exact zRep_0
  · have hk2 : k < 1084 := by
      refine Nat.lt_of_not_le fun q => ?_
      have a1 : 2 ^ 1084 ≤ c * 2 ^ k := Nat.le_trans (Nat.pow_le_pow_right (by decide) q) (Nat.le_mul_of_pos_left _ e)
      have a2 : ((2 ^ 1084 : Nat) : Int) ≤ H := by
        rw [← g2]
        exact Int.ofNat_le.mpr a1
      omega
    have := zRep_mk c (k + 14) hc (by omega)
    rw [← g2, show (16384 : Int) = ((2 ^ 14 : Nat) : Int) from rfl, ← Int.natCast_mul, show 2 ^ 14 * (c * 2 ^ k) = c * 2 ^ (k + 14) by rw [Nat.pow_add]; ac_rfl]
    exact this
theorem sp_q {S D H A B Y X N E R M dep lev O Q1 Q : Int} (hH1 : zU ≤ H) (hH2 : H ≤ 600 * zU) (hHr : zRep H) (hA : zRd (zv kg * D) zU A) (hB1 : B ≤ zU) (hY : zRd (A + B) 1 Y) (hX : zRd (H * Y) zU X) (hN : zRd (S + X) 1 N) (hE : zU ≤ E) (hR : zRd (N * zU) E R) (hS : S ≤ 16384 * zU) (hR1 : R ≤ 16384 * zU)
    (hM0 : 0 ≤ M) (hMr : zRep M) (hdep : dep ≤ 1000 * zU) (hlev : zRd (M - dep) 1 lev) (hO : O ≤ 1280 * zU) (hD : zRd (O - lev) 1 D) (hQ1 : zRd (R * H) zU Q1) (hQ : zRd (Q1 * M) zU Q) : Q ≤ 274877906944 * zU := by
  have hU := zU_pos
  have hUU : 0 < zU * zU := Int.mul_pos hU hU
  have g1 := zk_g1
  have g0 := zk_g0
  generalize zv kg = G at *
  refine (hQ _ (zRn 274877906944 (by decide) (by simp))).1 ?_
  by_cases hR0 : R ≤ 0
  · have q1 : Q1 ≤ 0 := by
      refine (hQ1 0 zRep_0).1 ?_
      have := Int.mul_le_mul_of_nonneg_right hR0 (show 0 ≤ H by omega)
      omega
    have p1 := Int.mul_le_mul_of_nonneg_right q1 hM0
    have p2 : 0 ≤ 274877906944 * zU * zU := by
      rw [Int.mul_assoc]
      omega
    omega
  · by_cases hM : M ≤ 5120 * zU
    · have q1 : Q1 ≤ 9830400 * zU := by
        refine (hQ1 _ (zRn 9830400 (by decide) (by simp))).1 ?_
        have p1 := Int.mul_le_mul_of_nonneg_right hR1 (show 0 ≤ H by omega)
        have p2 := Int.mul_le_mul_of_nonneg_left hH2 (show 0 ≤ 16384 * zU by omega)
        grind
      have p1 := Int.mul_le_mul_of_nonneg_right q1 hM0
      have p2 := Int.mul_le_mul_of_nonneg_left hM (show 0 ≤ 9830400 * zU by omega)
      grind
    · obtain ⟨m, hm, r1, r2, r3, r4⟩ := zRep_cut hMr (by omega)
      have l1 : 512 * m ≤ lev := (hlev _ r4).2 (by omega)
      have d1 : D ≤ -(256 * m) := (hD _ (zRep_neg r3)).1 (by omega)
      have a1 : A ≤ -(2 * m) := by
        refine (hA _ (zRep_neg r2)).1 ?_
        have p1 := Int.mul_le_mul_of_nonneg_left d1 g0
        have p2 := Int.mul_le_mul_of_nonneg_right g1 (show 0 ≤ 2 * m by omega)
        grind
      have y1 : Y ≤ -m := (hY _ (zRep_neg r1)).1 (by omega)
      have n1 : 0 < N := by
        refine Int.lt_of_not_ge fun q => hR0 ((hR 0 zRep_0).1 ?_)
        have := Int.mul_le_mul_of_nonneg_right q (Int.le_of_lt hU)
        omega
      have s1 : 0 < S + X := by
        refine Int.lt_of_not_ge fun q => ?_
        have := (hN 0 zRep_0).1 (by omega)
        omega
      have x1 : -(16384 * zU * zU) < H * Y := by
        refine Int.lt_of_not_ge fun q => ?_
        have := (hX _ (zRm 16384 (by decide) rfl)).1 (by rw [Int.neg_mul]; exact q)
        have e : ((16384 : Nat) : Int) = 16384 := rfl
        omega
      have h1 : H * m < 16384 * zU * zU := by
        have p1 := Int.mul_le_mul_of_nonneg_left y1 (show 0 ≤ H by omega)
        grind
      have q1 : Q1 ≤ 16384 * H := by
        refine (hQ1 _ (zRep_up hHr (by omega) hH2)).1 ?_
        have p1 := Int.mul_le_mul_of_nonneg_right hR1 (show 0 ≤ H by omega)
        grind
      have p1 := Int.mul_le_mul_of_nonneg_right q1 hM0
      rw [hm] at p1 ⊢
      grind
