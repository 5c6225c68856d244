/-! a depth, side by side -/
theorem dV_b {v : UInt64} (h : nRv v) : 0 ≤ (dV v).toInt ∧ (dV v).toInt ≤ 1000000 ∧ (s_wet v = 0 → dV v = 0) := by
  obtain ⟨a, b, c⟩ := h
  obtain ⟨k1, k2⟩ := fk_1000
  have hU := zU_pos
  have m1 : 0 ≤ zv v * zv k1000 := Int.mul_nonneg b (by omega)
  obtain ⟨m2, _⟩ := zabs_mul (a := zv v) (b := zv k1000) (A := 1000 * zU) (B := 1000 * zU) c (by omega) (by omega) (by omega)
  have e1 : 1000 * zU * (1000 * zU) = ((1000000 : Nat) : Int) * zU * zU := by
    generalize zU = u
    rw [show ((1000000 : Nat) : Int) = 1000 * 1000 from rfl]
    ac_rfl
  obtain ⟨z1, z2, z3⟩ := zB_mul a k1 (V := ((1000000 : Nat) : Int) * zU) (W := 0) (zRn 1000000 (by decide) rfl) zRep_0 (by omega) (by omega)
  obtain ⟨q1, q2, _, _⟩ := zd2l_pos z1 z3 (n := 1000000) (by decide) z2
  refine ⟨q1, q2, fun hw => ?_⟩
  unfold s_wet at hw
  have ng : ¬ zgt v 0 = true := fun e => by
    rw [if_pos e] at hw
    exact absurd hw (by decide)
  have nz : ¬ zv 0 < zv v := fun y => ng ((zgt_iff (zfi_nn a) znn_0).mpr y)
  rw [zv_0] at nz
  have zz : FP.Core.DZero v := zz_iff.mpr ⟨zfi_nn a, by omega⟩
  unfold dV
  rw [zq_d2l (Or.inr ⟨zz_mul zz k1, zero_DZ⟩ : zq (zmul v k1000) 0)]
  decide +kernel
theorem Bd_40 (n : Nat) : 40 * zU ≤ Bd n := by
  unfold Bd
  rw [zU_P]
  have h1 : 41943040 * 2 ^ 1054 ≤ (41943040 + n) * 2 ^ 1054 := Nat.mul_le_mul_right _ (by omega)
  generalize (41943040 + n) * 2 ^ 1054 = X at *
  generalize 2 ^ 1054 = P at *
  omega
theorem depth_rel {n w h : Nat} {ly : Int32} {μ m : ZMem} (hn : n < 2 ^ 30) (H : REL n w h ly μ m) {T : Nat} (hT : zI m 0 27 = nI T) (hT2 : T ≤ 10) (x y : Int32) (v : UInt64) : s_depth w h x y v = t_depth w h x y v ∧ REL (n + 1) w h ly (u_depth μ w h x y v) (q_depth m w h T x y v) := by
  obtain ⟨⟨hd, hF, hL, hB, hM, hly⟩, hC, hS, hs, hW, ht, hN, hne, hga, hfi, hsa, hou⟩ := id H
  have up : REL (n + 1) w h ly μ m := H.up (by omega)
  unfold s_depth t_depth u_depth q_depth t_depth
  rcases cell_cases hd x y with ⟨c1, c2⟩ | ⟨i, j, hi, hj, _, _, c1, c2, cx, cy⟩
  · rw [c1, c2, if_pos rfl]
    exact ⟨rfl, by rw [if_pos rfl]; exact up⟩
  · rw [c1, c2, if_neg (show ¬ (1 : Int32) = 0 by decide), cx, cy]
    refine ⟨rfl, ?_⟩
    show REL (n + 1) w h ly (if s_inside v 0 k1000 = 0 then μ else u_dep3 μ (1000 + (j * w + i)) (fcA w h) v) _
    by_cases g : s_inside v 0 k1000 = 0
    · rw [if_pos g, if_pos (by rw [if_pos g])]
      exact up
    · rw [if_neg g, if_neg (by rw [if_neg g]; decide)]
      obtain ⟨T', t0, t1, t2, t3, t4, t5, t6⟩ := id hne
      have eT : T' = T := (nI_eq (by omega) (by omega)).mp (t2.symm.trans hT)
      subst eT
      have gl := glt hi hj
      have h144 : w * h ≤ 12 * 12 := Nat.mul_le_mul hd.2.1 hd.2.2.2
      have hg := geo_of hL hF
      obtain ⟨d1, d2, d3, d4⟩ := id hd
      have hv : nRv v := by
        obtain ⟨x1, x2, x3⟩ := s_in g zfi_0 fk_1000.1
        rw [zv_0] at x2
        rw [fk_1000.2] at x3
        exact ⟨x1, x2, x3⟩
      obtain ⟨v0, v1, v2⟩ := dV_b hv
      obtain ⟨a1, a2, a3, a4, a5, a6, a7, a8, a9, ⟨p1, p3, p4, p5⟩, a10, a11⟩ := cdep_pt gl (by omega) hg.1 v (fun n' q => by
        obtain ⟨i', hi', e, _⟩ := (t6 i j hi hj).2 n' q
        exact ⟨i', by omega, e⟩)
      obtain ⟨b1, b2, b3, b4, b5, b6, b7, b8, b9, ⟨q5, q8, q9, q10⟩, b10, b11, b12⟩ := mdep_pt (m := m) (T := T') hd hi hj v
      generalize u_dep3 μ (1000 + (j * w + i)) (fcA w h) v = ρ at *
      generalize q_dep m w h T' i j v = σ at *
      have nbR : ∀ r, zR μ (1000 + (j * w + i)) 7 = some r → ∃ i', i' < T' ∧ r = 60 + i' ∧ zR μ r 1 = some (1000 + (j * w + i)) := (t6 i j hi hj).2
      have agC : ∀ D : Nat → Nat → Prop, (∀ k, ¬ D (1000 + (j * w + i)) k ∨ (6 ≤ k ∧ k ≠ 7)) → (∀ r k, D r k → ¬ (60 ≤ r ∧ r < 70 ∧ k = 1)) → ¬ D 0 13 → ¬ D 0 15 → (∀ r, D r 4 → ¬ fR r) → agr D ρ μ := fun D h1 h2 h3 h4 h5 r k hD => by
        have nc : r = 1000 + (j * w + i) → 6 ≤ k ∧ k ≠ 7 := fun e => (h1 k).elim (fun q => absurd (e ▸ hD) q) id
        refine ⟨a4 r k (fun q => by have := nc q.1; omega) (fun q => h3 (q.1 ▸ q.2 ▸ hD)), a7 r k (fun q => by have := nc q.1; omega) (fun q => h4 (q.1 ▸ q.2 ▸ hD)), a11 r k (fun q => by have := nc q.1; omega) (fun n' hn' _ q => h5 r (q.2 ▸ hD) ⟨by omega, by omega⟩), a1 r k (fun q => by have := nc q.1; omega) (fun q => ?_)⟩
        obtain ⟨i', hi', e, _⟩ := nbR r q.1
        exact h2 r k hD ⟨by omega, by omega, q.2⟩
      have agM : ∀ D : Nat → Nat → Prop, (∀ k, ¬ D 4 k ∧ ¬ D 5 k ∧ ¬ D 7 k ∧ ¬ D 8 k ∧ ¬ D 9 k ∧ ¬ D 10 k ∧ ¬ D 11 k ∧ ¬ D 30 k ∧ ¬ D 31 k) → ¬ D 0 14 ∧ ¬ D 0 40 → agr D σ m := fun D h1 h2 r k hD => by
        have e : ∀ s, (∀ k, ¬ D s k) → r ≠ s := fun s q e => q k (e ▸ hD)
        have n4 := e 4 (fun k => (h1 k).1)
        have n5 := e 5 (fun k => (h1 k).2.1)
        have n7 := e 7 (fun k => (h1 k).2.2.1)
        have n8 := e 8 (fun k => (h1 k).2.2.2.1)
        have n9 := e 9 (fun k => (h1 k).2.2.2.2.1)
        have n10 := e 10 (fun k => (h1 k).2.2.2.2.2.1)
        have n11 := e 11 (fun k => (h1 k).2.2.2.2.2.2.1)
        have n30 := e 30 (fun k => (h1 k).2.2.2.2.2.2.2.1)
        have n31 := e 31 (fun k => (h1 k).2.2.2.2.2.2.2.2)
        have n14 : ¬ (r = 0 ∧ k = 14) := fun q => h2.1 (q.1 ▸ q.2 ▸ hD)
        have n40 : ¬ (r = 0 ∧ k = 40) := fun q => h2.2 (q.1 ▸ q.2 ▸ hD)
        exact ⟨b2 r k (by omega) (by omega) (by omega) n40, b7 r k (by omega) n14, b10 r k n11 (by omega) (by omega) (by omega) (by omega), by rw [b1]⟩
      have m0 : ∀ k, k ≠ 40 → zI σ 0 k = zI m 0 k := fun k hk => b2 0 k (by omega) (by omega) (by omega) (by omega)
      -- the faces
      have spd : ∀ n' f', n' < fcA w h → (inc w h n' (1000 + (j * w + i)) ↔ zRs w h i j f') → zq (zD μ (2000 + n') 4) (zD m 11 f') → zq (zD ρ (2000 + n') 4) (zD σ 11 f') := fun n' f' hn' hi' hq => by
        by_cases z : inc w h n' (1000 + (j * w + i))
        · rw [a10 n' hn' z, b11 f' (hi'.mp z)]
          exact zq.rf 0
        · rw [a11 _ _ (by omega) (fun n2 hn2 hz q => z (by rw [show n' = n2 by omega]; exact hz)), b12 f' (fun q => z (hi'.mpr q))]
          exact hq
      have spd' : ∀ f, zD σ 11 f = 0 ∨ zD σ 11 f = zD m 11 f := fun f => by
        by_cases z : zRs w h i j f
        · exact Or.inl (b11 f z)
        · exact Or.inr (b12 f z)
      have sp0 : ∀ k, zSp k 0 := fun k => by
        have hU := zU_pos
        have : 0 ≤ ((k : Int) * 2 ^ 59) * zU := Int.mul_nonneg (by omega) (by omega)
        refine ⟨zfi_0, ?_, ?_⟩ <;> rw [zv_0] <;> omega
      refine REL.mk' (n' := n + 1) (by omega) H (zLC_of (fun r k q => a1 r k (by omega) (fun e => ?_)) (fun r k q => a4 r k (by omega) (by omega))) (fun q => ⟨fun k n' hk hr => ?_, fun i' hi' => ?_⟩) (fun q => ⟨fun k hk => by rw [b1]; exact q.1 k hk, (m0 0 (by decide)).trans q.2.1, (m0 1 (by decide)).trans q.2.2.1, (m0 2 (by decide)).trans q.2.2.2.1, q.2.2.2.2⟩) (fun j' hj' i' hi' => ?_) ⟨fun i' j' hi' hj' => ?_, fun i' j' hi' hj' => ?_, fun s t hs' ht' => ?_⟩ (hs.mo (agC _ (fun k => by unfold dSide; omega) (fun r k => by unfold dSide; omega) (by unfold dSide; omega) (by unfold dSide; omega) (fun r => by unfold dSide fR; omega)) (agM _ (fun k => by unfold dSideM; omega) (by unfold dSideM; omega))) (hW.mo (agC _ (fun k => by unfold dWind; omega) (fun r k => by unfold dWind; omega) (by unfold dWind; omega) (by unfold dWind; omega) (fun r => by unfold dWind fR; omega)) (agM _ (fun k => by unfold dWindM; omega) (by unfold dWindM; omega))) ⟨?_, ?_, ?_⟩ ⟨fun j' hj' i' hi' => ?_, ?_, fun j' hj' i' hi' => ?_, fun k hk => ?_, fun j' hj' i' hi' => ⟨fun k hk => ?_, fun k hk ha => ?_⟩, fun k hk => ?_, ?_⟩ ⟨T', by omega, ?_, ?_, fun i' h1 h2 => ?_, fun i' h1 => ?_, fun i' h1 c' hc' => ?_, fun x' y' hx' hy' => ?_⟩ (hga.mo hd (agC _ (fun k => by unfold dGauge cR; omega) (fun r k => by unfold dGauge cR; omega) (by unfold dGauge cR; omega) (by unfold dGauge cR; omega) (fun r => by unfold dGauge cR fR; omega)) (agM _ (fun k => by unfold dGaugeM; omega) (by unfold dGaugeM; omega)) (m0 31 (by decide))) (hfi.mo (agC _ (fun k => by unfold dFit; omega) (fun r k => by unfold dFit; omega) (by unfold dFit; omega) (by unfold dFit; omega) (fun r => by unfold dFit fR; omega)) (agM _ (fun k => by unfold dFitM; omega) (by unfold dFitM; omega)) (m0 38 (by decide))) (hsa.chg hd hn (agC _ (fun k => by unfold dSav1; omega) (fun r k => by unfold dSav1; omega) (by unfold dSav1; omega) (by unfold dSav1; omega) (fun r => by unfold dSav1 fR; omega)) (agM _ (fun k => by unfold dSavM1; omega) (by unfold dSavM1; omega)) (a4 0 12 (by omega) (by omega)) a6 (m0 39 (by decide)) b6) ?_
      · obtain ⟨i', hi', e2, _⟩ := nbR r e.1
        omega
      · by_cases ek : k = j * w + i
        · subst ek
          rw [a2] at hr
          exact absurd hr (by simp)
        · rw [a1 _ _ (by omega) (fun e => by omega)] at hr
          exact q.1 k n' hk hr
      · rw [a4 _ _ (by omega) (by omega)]
        exact q.2 i' hi'
      · by_cases ec : i' = i ∧ j' = j
        · obtain ⟨rfl, rfl⟩ := ec
          have R := hC j' hj' i' hi'
          unfold rCell at R ⊢
          rw [a5, b3, p1, q5, a8, b8, p3, q8, p4, q9, p5, q10, a11 _ 6 (by omega) (fun n2 _ _ q => by omega), b10 6 _ (by decide) (by omega) (by omega) (by omega) (by omega)]
          exact ⟨rfl, rfl, rfl, zq.rf _, zq.rf _, zq.rf _, R.2.2.2.2.2.2⟩
        · have ne : ¬ 1000 + (j' * w + i') = 1000 + (j * w + i) := fun q => ec (gu hi hi' (by omega))
          have gl' := glt hi' hj'
          have R := hC j' hj' i' hi'
          unfold rCell at R ⊢
          have dd : ∀ k, k ≠ 4 ∨ True → zD ρ (1000 + (j' * w + i')) k = zD μ (1000 + (j' * w + i')) k := fun k _ => a11 _ _ (by omega) (fun n2 _ _ q => by omega)
          have ni : ¬ 12 * j' + i' = 12 * j + i := fun q => ec (by omega)
          rw [a4 _ _ (by omega) (by omega), b2 4 _ (by omega) (by omega) (by omega) (by omega), a7 _ _ (by omega) (by omega), b7 7 _ (by omega) (by omega), dd 1 (Or.inr trivial), dd 3 (Or.inr trivial), dd 4 (Or.inr trivial), dd 5 (Or.inr trivial), dd 6 (Or.inr trivial), b10 5 _ (by decide) (by omega) (by omega) (by omega) (by omega), b10 8 _ (by decide) (by omega) (by omega) (by omega) (by omega), b10 9 _ (by decide) (by omega) (by omega) (by omega) (by omega), b10 10 _ (by decide) (by omega) (by omega) (by omega) (by omega), b10 6 _ (by decide) (by omega) (by omega) (by omega) (by omega)]
          exact R
      · obtain ⟨u1, u2, _, _⟩ := face_A0 hd hi' hj'
        refine spd _ _ (by have := nA0_lt hi' hj'; have := fc0_1 hd; omega) ⟨fun z => ?_, fun z => ?_⟩ (hS.1 i' j' hi' hj')
        · rcases z with z | z
          · rw [u1] at z
            obtain ⟨rfl, rfl⟩ := gu (j := j) (j' := j') hi (show i' < w by omega) (by have := Option.some.inj z; omega)
            exact Or.inl rfl
          · rw [u2] at z
            obtain ⟨e1, rfl⟩ := gu (j := j) (j' := j') hi hi' (by have := Option.some.inj z; omega)
            exact Or.inr (Or.inr (Or.inl ⟨by omega, by omega⟩))
        · unfold inc
          rw [u1, u2]
          rcases z with z | z | ⟨z0, z⟩ | ⟨z0, z⟩ | ⟨k, hk, ha, z⟩
          · have e1 : i' = i ∧ j' = j := by omega
            obtain ⟨rfl, rfl⟩ := e1
            exact Or.inl rfl
          · omega
          · have e1 : i' + 1 = i ∧ j' = j := by omega
            obtain ⟨rfl, rfl⟩ := e1
            exact Or.inr rfl
          · omega
          · have := sfN_S (i := i) (j := j) (s := k)
            omega
      · obtain ⟨u1, u2, _, _⟩ := face_A1 hd hi' hj'
        refine spd _ _ (by have := nA1_lt (w := w) (h := h) hi' hj'; have := fc0_1 hd; omega) ⟨fun z => ?_, fun z => ?_⟩ (hS.2.1 i' j' hi' hj')
        · rcases z with z | z
          · rw [u1] at z
            obtain ⟨rfl, rfl⟩ := gu (j := j) (j' := j') hi hi' (by have := Option.some.inj z; omega)
            exact Or.inr (Or.inl rfl)
          · rw [u2] at z
            obtain ⟨rfl, e1⟩ := gu (j := j) (j' := j' + 1) hi hi' (by rw [Nat.succ_mul]; have := Option.some.inj z; omega)
            exact Or.inr (Or.inr (Or.inr (Or.inl ⟨by omega, by omega⟩)))
        · unfold inc
          rw [u1, u2]
          rcases z with z | z | ⟨z0, z⟩ | ⟨z0, z⟩ | ⟨k, hk, ha, z⟩
          · omega
          · have e1 : i' = i ∧ j' = j := by omega
            obtain ⟨rfl, rfl⟩ := e1
            exact Or.inl rfl
          · omega
          · have e1 : i' = i ∧ j' + 1 = j := by omega
            obtain ⟨rfl, rfl⟩ := e1
            rw [Nat.succ_mul]
            exact Or.inr (congrArg some (by omega))
          · have := sfN_S (i := i) (j := j) (s := k)
            split at this <;> omega
      · obtain ⟨u1, u2, _, _⟩ := face_S hd hs' ht'
        obtain ⟨w1, w2, w3, w4⟩ := sIJ hd hs' ht'
        refine spd _ _ (nSd_lt hs' ht').2 ⟨fun z => ?_, fun z => ?_⟩ (hS.2.2 s t hs' ht')
        · obtain ⟨e1, e2⟩ := incS hd hi hs' ht' z
          rw [e1, e2] at w3 w4
          exact Or.inr (Or.inr (Or.inr (Or.inr ⟨s, hs', w3, w4.symm⟩)))
        · have hlt : t < 12 := by split at ht' <;> omega
          rcases z with z | z | ⟨z0, z⟩ | ⟨z0, z⟩ | ⟨k, hk, ha, z⟩
          · omega
          · omega
          · omega
          · omega
          · have e3 := sfN_S (i := i) (j := j) (s := k)
            have ek : k = s := by split at e3 <;> omega
            subst ek
            obtain ⟨_, f2, f3⟩ := atP_IJ hd hi hj hk ha
            have et : t = if k < 2 then j else i := by omega
            rw [← et] at f2 f3
            unfold inc
            rw [u1, u2, f2, f3]
            by_cases z2 : k = 0 ∨ k = 2
            · rw [if_pos z2]
              exact Or.inr (by rw [if_pos z2])
            · rw [if_neg z2]
              exact Or.inl rfl
      · rw [a11 0 14 (by omega) (fun n2 _ _ q => by omega), b10 0 13 (by decide) (by omega) (by omega) (by omega) (by omega)]
        exact ht.1
      · rw [a9, b9, ht.2.1, (hC j hj i hi).2.2.1]
      · rw [a7 0 16 (by omega) (by omega), b7 0 12 (by omega) (by omega)]
        exact ht.2.2
      · obtain ⟨c0, cL0, c8, c9, c6⟩ := hN.1 j' hj' i' hi'
        by_cases ec : i' = i ∧ j' = j
        · obtain ⟨rfl, rfl⟩ := ec
          rw [b8, q8, q9, b10 6 _ (by decide) (by omega) (by omega) (by omega) (by omega)]
          have k10v : zv k10 = 10 * zU := by decide +kernel
          have k35v : zv k35 = 35 * zU := by decide +kernel
          have hU := zU_pos
          obtain ⟨w1, w2⟩ := c8
          refine ⟨v0, fun nw => v2 ?_, ?_, ?_, c6⟩
          · unfold wtr at nw
            rw [b3] at nw
            exact Classical.byContradiction nw
          · obtain ⟨B0, B1⟩ : 40 * zU ≤ Bd (n + 1) ∧ True := ⟨Bd_40 _, trivial⟩
            exact ⟨zfk k10 (by decide +kernel), by omega, by omega⟩
          · obtain ⟨B0, B1⟩ : 40 * zU ≤ Bd (n + 1) ∧ True := ⟨Bd_40 _, trivial⟩
            exact ⟨zfk k35 (by decide +kernel), by omega, by omega⟩
        · have ni : ¬ 12 * j' + i' = 12 * j + i := fun q => ec (by omega)
          rw [b7 7 _ (by omega) (by omega), b10 8 _ (by decide) (by omega) (by omega) (by omega) (by omega), b10 9 _ (by decide) (by omega) (by omega) (by omega) (by omega), b10 6 _ (by decide) (by omega) (by omega) (by omega) (by omega)]
          unfold wtr
          rw [b2 4 _ (by omega) (by omega) (by omega) (by omega)]
          exact ⟨c0, cL0, c8.mo (by omega), c9.mo (by omega), c6⟩
      · have e1 : zTt w h σ ≤ zs2 (fun a b => (zL m 7 (12 * b + a)).toInt + (if a = i then 1000000 else 0)) w h := by
          refine zs2_le (fun j' hj' i' hi' => ?_)
          have c0 := (hN.1 j' hj' i' hi').1
          by_cases ec : i' = i ∧ j' = j
          · obtain ⟨rfl, rfl⟩ := ec
            rw [b8, if_pos rfl]
            omega
          · have ni : ¬ 12 * j' + i' = 12 * j + i := fun q => ec (by omega)
            rw [b7 7 _ (by omega) (by omega)]
            split <;> omega
        rw [zs2_add] at e1
        have e2 : zs2 (fun a _ => if a = i then 1000000 else 0) w h ≤ 12 * 1000000 := by
          refine Int.le_trans (zsu_le (g := fun _ => 1000000) h (fun j _ => ?_)) (zsu_c (by decide) h d4)
          show zsu (fun a => if a = i then 1000000 else 0) w ≤ _
          rw [zsu_one (by decide)]
          split <;> omega
        have e3 : zs2 (fun a b => (zL m 7 (12 * b + a)).toInt) w h ≤ (n : Int) * 2 ^ 44 := hN.2.1
        rw [Int.natCast_add, Int.add_mul]
        omega
      · by_cases ec : i' = i ∧ j' = j
        · obtain ⟨rfl, rfl⟩ := ec
          rw [q5]
          exact hv
        · have ni : ¬ 12 * j' + i' = 12 * j + i := fun q => ec (by omega)
          rw [b10 5 _ (by decide) (by omega) (by omega) (by omega) (by omega)]
          exact hN.2.2.1 j' hj' i' hi'
      · rw [b10 26 _ (by decide) (by omega) (by omega) (by omega) (by omega), b10 27 _ (by decide) (by omega) (by omega) (by omega) (by omega)]
        exact hN.2.2.2.1 k hk
      · rcases spd' (144 * k + (12 * j' + i')) with e | e <;> rw [e]
        · exact sp0 _
        · exact ((hN.2.2.2.2.1 j' hj' i' hi').1 k hk).up (by omega)
      · rcases spd' (sfN i' j' k) with e | e <;> rw [e]
        · refine ⟨sp0 _, ?_, ?_⟩ <;> intro _ <;> rw [zv_0] <;> have := zU_pos <;> omega
        · exact ⟨((hN.2.2.2.2.1 j' hj' i' hi').2 k hk ha).1.up (by omega), ((hN.2.2.2.2.1 j' hj' i' hi').2 k hk ha).2⟩
      · have := hN.2.2.2.2.2.1 k hk
        unfold zWv at this ⊢
        intro l hl
        rw [b2 23 _ (by omega) (by omega) (by omega) (by omega), b10 24 _ (by decide) (by omega) (by omega) (by omega) (by omega), b10 25 _ (by decide) (by omega) (by omega) (by omega) (by omega)]
        exact this l hl
      · rw [b10 0 13 (by decide) (by omega) (by omega) (by omega) (by omega)]
        exact hN.2.2.2.2.2.2.up (by omega)
      · rw [a4 0 11 (by omega) (by omega)]
        exact t1
      · rw [m0 27 (by decide)]
        exact t2
      · obtain ⟨u1, u2⟩ := t3 i' h1 h2
        refine ⟨?_, fun k hk => ?_⟩
        · rw [a1 _ _ (by omega) (fun e => by
            obtain ⟨i2, hi2, e2, _⟩ := nbR _ e.1
            omega)]
          exact u1
        · rw [a7 _ _ (by omega) (by omega)]
          exact u2 k hk
      · rw [b4 i' h1]
        by_cases eh : zR μ (1000 + (j * w + i)) 7 = some (60 + i')
        · rw [a3 _ eh]
          obtain ⟨i2, hi2, e2, e3⟩ := nbR _ eh
          have e4 : zI m 29 i' = nI (12 * j + i) := by
            obtain ⟨x', y', hx', hy', e5, _, e6, _⟩ := t5 i' (by omega) _ e3
            obtain ⟨rfl, rfl⟩ := gu (j := y') (j' := j) hx' hi (by omega)
            exact e6
          refine ⟨fun _ => rfl, fun _ => ?_⟩
          rw [if_pos e4]
          split <;> rfl
        · rw [a1 _ _ (by omega) (fun e => eh e.1)]
          by_cases ez : zI m 31 i' = 0
          · rw [if_pos ez]
            exact ⟨fun _ => (t4 i' h1).mp ez, fun _ => rfl⟩
          · rw [if_neg ez]
            have nn : ¬ zR μ (60 + i') 1 = none := fun e => ez ((t4 i' h1).mpr e)
            have n29 : ¬ zI m 29 i' = nI (12 * j + i) := fun e => by
              cases hh : zR μ (60 + i') 1 with
              | none => exact nn hh
              | some c' =>
                obtain ⟨x', y', hx', hy', rfl, e5, e6, _⟩ := t5 i' (by omega) _ hh
                rw [e] at e6
                have := (nI_eq (by omega) (by omega)).mp e6
                have e7 : x' = i ∧ y' = j := by omega
                obtain ⟨rfl, rfl⟩ := e7
                exact eh e5
            rw [if_neg n29]
            exact ⟨fun q => absurd q (by decide), fun q => absurd q nn⟩
      · have ne : ¬ zR μ (1000 + (j * w + i)) 7 = some (60 + i') := fun e => by
          rw [a3 _ e] at hc'
          exact absurd hc' (by simp)
        rw [a1 _ _ (by omega) (fun e => ne e.1)] at hc'
        obtain ⟨x', y', hx', hy', rfl, e1', e2', e3', e4', e5'⟩ := t5 i' h1 c' hc'
        have nc : ¬ 1000 + (y' * w + x') = 1000 + (j * w + i) := fun q => ne (q ▸ e1')
        have gl' := glt hx' hy'
        have ecn : s_cnt ρ (60 + i') = s_cnt μ (60 + i') := by
          unfold s_cnt
          rw [a4 _ _ (by omega) (by omega)]
        refine ⟨x', y', hx', hy', rfl, ?_, ?_, ?_, ?_, ?_⟩
        · rw [a1 _ _ (by omega) (fun e => by omega)]
          exact e1'
        · rw [b2 29 _ (by omega) (by omega) (by omega) (by omega)]
          exact e2'
        · rw [ecn]
          exact e3'
        · rw [ecn]
          exact e4'
        · rw [ecn, sumS_cg (funext fun k => a7 _ _ (by omega) (by omega)), a7 _ _ (by omega) (by omega)]
          exact e5'
      · by_cases ec : x' = i ∧ y' = j
        · obtain ⟨rfl, rfl⟩ := ec
          rw [b5, a2]
          exact ⟨⟨fun _ => rfl, fun _ => rfl⟩, fun n' q => absurd q (by simp)⟩
        · have nc : ¬ 1000 + (y' * w + x') = 1000 + (j * w + i) := fun q => ec (gu hi hx' (by omega))
          rw [b2 30 _ (by omega) (by omega) (by omega) (by omega), a1 (1000 + (y' * w + x')) 7 (by omega) (fun e => by omega)]
          refine ⟨(t6 x' y' hx' hy').1, fun n' hn' => ?_⟩
          obtain ⟨i', hi', rfl, e'⟩ := (t6 x' y' hx' hy').2 n' hn'
          refine ⟨i', hi', rfl, ?_⟩
          rw [a1 _ _ (by omega) (fun e => by
            obtain ⟨i2, hi2, e2, e3⟩ := nbR _ e.1
            rw [e'] at e3
            have := Option.some.inj e3
            omega)]
          exact e'
      · intro c hc1 hc2
        obtain ⟨o1, o2⟩ := hou c hc1 hc2
        refine ⟨?_, fun T hT => ?_⟩
        · rw [b7 7 c (by omega) (by omega)]
          exact o1
        · rw [b7 43 _ (by omega) (by omega)]
          exact o2 T hT
