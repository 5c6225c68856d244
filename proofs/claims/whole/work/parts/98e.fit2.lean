/-! tides are fitted alike: the rows, from above and from below -/
theorem sz_gt {x : UInt64} : zgt (s_sizeOf x) k1e9 = zgt (t_size x) k1e9 := by
  by_cases h : FP.Core.val64 x = .nan
  · have e : zlt x 0 = false := by
      unfold zlt
      have : FP.dcmp x 0 = none := by
        show FP.Core.order (FP.Core.val64 x) (FP.Core.val64 0) = none
        rw [h]
        rfl
      rw [this]
    unfold s_sizeOf t_size
    rw [show zlt x k0 = false from e]
    rfl
  · exact zq_gt (zq_size (zq.rf x) h) (zq.rf _)
theorem sub_rel {n : Nat} (hn : n ≤ 5) {r c : Nat} (hr : r < n) (hc : c < n) (hne : r ≠ c) {x : UInt64} {A B : ZMem} (H : tRl n A B) : tRl n (u_subRow A r c x n) (q_rowx n c r x B) := by
  have L := zit_rel (R := tRl n) (f := u_sub1 r c x) (g := q_el c r x) (n - c) (fun k a b hk h => by
    unfold u_sub1 q_el
    rw [(h r hr).1 (c + k) (by omega), (h c hc).1 (c + k) (by omega)]
    exact tRl_a hn h hr (by omega) _) A B H
  unfold u_subRow q_rowx
  simp only []
  generalize zit (u_sub1 r c x) (n - c) A = A' at *
  generalize zit (q_el c r x) (n - c) B = B' at *
  rw [(L r hr).2, (L c hc).2]
  exact tRl_b hn L hr _
theorem subRow_D (A : ZMem) {r : Nat} (hr : r ≤ 4) (c : Nat) (x : UInt64) (n : Nat) : cFt (u_subRow A r c x n) A ∧ zI (u_subRow A r c x n) = zI A := by
  have l : ∀ k, zI (zit (u_sub1 r c x) k A) = zI A := fun k => zit_keep (f := u_sub1 r c x) zI (fun _ _ => rfl) k A
  unfold u_subRow
  exact ⟨(cFt_D _ _ (by omega)).tr ⟨zit_keep (f := u_sub1 r c x) zR (fun _ _ => rfl) _ A, zit_keep (f := u_sub1 r c x) zL (fun _ _ => rfl) _ A, fun _ _ => by rw [l], fun a h1 h2 h3 => by
    have : ∀ k, zD (zit (u_sub1 r c x) k A) a = zD A a := fun k => by
      exact zit_keep (f := u_sub1 r c x) (fun m => zD m a) (fun k s => zDr _ _ _ (by omega)) k A
    exact this _⟩, l _⟩
theorem rowx_D {n : Nat} (hn : n ≤ 5) {c i : Nat} (hi : i < n) (x : UInt64) (B : ZMem) : mFt (q_rowx n c i x B) B ∧ ∀ a, (a < 5 * i ∨ 5 * i + 5 ≤ a) → zD (q_rowx n c i x B) 36 a = zD B 36 a := by
  unfold q_rowx
  simp only []
  refine ⟨(mFt_D _ _ (by omega)).tr (mFt_it _ (fun k s _ => mFt_D s _ (by omega)) B), fun a ha => ?_⟩
  rw [zD_sD, if_neg (by omega)]
  have : ∀ k, k ≤ n - c → zD (zit (q_el c i x) k B) 36 a = zD B 36 a := by
    intro k
    induction k with
    | zero => exact fun _ => rfl
    | succ k ih =>
      intro hk
      show zD (q_el c i x k (zit (q_el c i x) k B)) 36 a = _
      unfold q_el
      rw [zD_sD, if_neg (by omega)]
      exact ih (by omega)
  exact this _ (Nat.le_refl _)
/-- pivots as they were told -/
def pvt (k : Nat) (A B : ZMem) : Prop := ∀ c, c < k → zI A 18 c = if zgt (t_size (zD B 36 (6 * c))) k1e9 = true then 1 else 0
theorem clr_rel {n : Nat} (hn : n ≤ 5) {A B : ZMem} (H : tRl n A B) : ∀ N, N ≤ n → (zit (u_clr n) N (0, A)).1 = (zit (q_clr n) N (0, B)).1 ∧ tRl n (zit (u_clr n) N (0, A)).2 (zit (q_clr n) N (0, B)).2 ∧ pvt N (zit (u_clr n) N (0, A)).2 (zit (q_clr n) N (0, B)).2 ∧ cFt (zit (u_clr n) N (0, A)).2 A ∧ mFt (zit (q_clr n) N (0, B)).2 B := by
  intro N
  induction N with
  | zero => exact fun _ => ⟨rfl, H, fun c hc => absurd hc (by omega), cFt.rf A, mFt.rf B⟩
  | succ N ih =>
    intro hN
    obtain ⟨i1, i2, i3, i4, i5⟩ := ih (by omega)
    show (u_clr n N (zit (u_clr n) N (0, A))).1 = (q_clr n N (zit (q_clr n) N (0, B))).1 ∧ tRl n (u_clr n N (zit (u_clr n) N (0, A))).2 (q_clr n N (zit (q_clr n) N (0, B))).2 ∧ pvt (N + 1) (u_clr n N (zit (u_clr n) N (0, A))).2 (q_clr n N (zit (q_clr n) N (0, B))).2 ∧ cFt (u_clr n N (zit (u_clr n) N (0, A))).2 A ∧ mFt (q_clr n N (zit (q_clr n) N (0, B))).2 B
    generalize zit (u_clr n) N (0, A) = a at *
    generalize zit (q_clr n) N (0, B) = b at *
    obtain ⟨a1, a2⟩ := a
    obtain ⟨b1, b2⟩ := b
    simp only [] at i1 i2 i3 i4 i5
    have e6 : zD a2 (12 + N) N = zD b2 36 (6 * N) := by rw [(i2 N (by omega)).1 N (by omega), show 5 * N + N = 6 * N by omega]
    have pI : zI (u_piv N a2) 18 N = if zgt (t_size (zD b2 36 (6 * N))) k1e9 = true then 1 else 0 := by
      unfold u_piv
      rw [zI_sI, if_pos ⟨rfl, rfl⟩, e6, sz_gt]
    have pT : tRl n (u_piv N a2) b2 := i2
    have pP : pvt (N + 1) (u_piv N a2) b2 := fun c hc => by
      by_cases ec : c = N
      · rw [ec]
        exact pI
      · unfold u_piv
        rw [zI_sI, if_neg (fun q => ec q.2)]
        exact i3 c (by omega)
    have pF : cFt (u_piv N a2) A := (cFt_I a2 N _).tr i4
    unfold u_clr q_clr
    simp only []
    rw [pI]
    by_cases g : zgt (t_size (zD b2 36 (6 * N))) k1e9 = true
    · rw [if_pos g, if_neg (show ¬ (1 : Int32) = 0 by decide), if_pos g]
      simp only []
      -- the rows below
      have loop := zit_rel (R := fun X Y => tRl n X Y ∧ pvt (N + 1) X Y ∧ zD Y 36 (6 * N) = zD b2 36 (6 * N) ∧ cFt X A ∧ mFt Y B) (f := u_cl1 N (zD a2 (12 + N) N) n) (g := q_row n N) (n - (N + 1)) (fun k X Y hk h => by
        obtain ⟨h1, h2, h3, h4, h5⟩ := h
        unfold u_cl1 q_row
        rw [(h1 (N + 1 + k) (by omega)).1 N (by omega), e6, ← h3]
        obtain ⟨s1, s2⟩ := subRow_D X (r := N + 1 + k) (by omega) N (zdiv (zD Y 36 (5 * (N + 1 + k) + N)) (zD Y 36 (6 * N))) n
        obtain ⟨r1, r2⟩ := rowx_D hn (c := N) (show N + 1 + k < n by omega) (zdiv (zD Y 36 (5 * (N + 1 + k) + N)) (zD Y 36 (6 * N))) Y
        refine ⟨sub_rel hn (by omega) (by omega) (by omega) h1, fun c hc => ?_, ?_, s1.tr h4, r1.tr h5⟩
        · rw [s2, r2 (6 * c) (by omega)]
          exact h2 c hc
        · rw [r2 (6 * N) (by omega)]) (u_piv N a2) b2 ⟨pT, pP, rfl, pF, i5⟩
      obtain ⟨l1, l2, _, l4, l5⟩ := loop
      exact ⟨by rw [i1], l1, l2, l4, l5⟩
    · rw [if_neg g, if_pos rfl, if_neg g]
      exact ⟨i1, pT, pP, pF, i5⟩
theorem up_rel {n : Nat} (hn : n ≤ 5) {A B : ZMem} (H : tRl n A B) (P : pvt n A B) : ∀ N, N ≤ n → tRl n (zit (u_up1 n) N A) (zit (q_up1 n) N B) ∧ pvt n (zit (u_up1 n) N A) (zit (q_up1 n) N B) ∧ (∀ k, n - N ≤ k → k < n → zD (zit (u_up1 n) N A) 20 k = zD (zit (q_up1 n) N B) 38 k) ∧ cFt (zit (u_up1 n) N A) A ∧ mFt (zit (q_up1 n) N B) B := by
  intro N
  induction N with
  | zero => exact fun _ => ⟨H, P, fun k h1 h2 => by omega, cFt.rf A, mFt.rf B⟩
  | succ N ih =>
    intro hN
    obtain ⟨i1, i2, i3, i4, i5⟩ := ih (by omega)
    show tRl n (u_up1 n N (zit (u_up1 n) N A)) (q_up1 n N (zit (q_up1 n) N B)) ∧ pvt n (u_up1 n N (zit (u_up1 n) N A)) (q_up1 n N (zit (q_up1 n) N B)) ∧ (∀ k, n - (N + 1) ≤ k → k < n → zD (u_up1 n N (zit (u_up1 n) N A)) 20 k = zD (q_up1 n N (zit (q_up1 n) N B)) 38 k) ∧ cFt (u_up1 n N (zit (u_up1 n) N A)) A ∧ mFt (q_up1 n N (zit (q_up1 n) N B)) B
    generalize zit (u_up1 n) N A = X at *
    generalize zit (q_up1 n) N B = Y at *
    have hc : n - (N + 1) < n := by omega
    generalize hcc : n - (N + 1) = c at *
    have rest : s_rest X n c = zit (t_rs Y c) (n - (c + 1)) (zD Y 37 c) := by
      unfold s_rest
      rw [(i1 c hc).2]
      refine zit_cg _ _ (fun k y hk => ?_)
      unfold s_rest1 t_rs
      rw [(i1 c hc).1 (c + 1 + k) (by omega), i3 (c + 1 + k) (by omega) (by omega)]
    have val : (if zI X 18 c = 0 then 0 else zdiv (s_rest X n c) (zD X (12 + c) c)) = if zgt (t_size (zD Y 36 (6 * c))) k1e9 = true then zdiv (zit (t_rs Y c) (n - (c + 1)) (zD Y 37 c)) (zD Y 36 (6 * c)) else 0 := by
      rw [i2 c hc, rest, (i1 c hc).1 c hc, show 5 * c + c = 6 * c by omega]
      by_cases g : zgt (t_size (zD Y 36 (6 * c))) k1e9 = true
      · rw [if_pos g, if_neg (show ¬ (1 : Int32) = 0 by decide), if_pos g]
      · rw [if_neg g, if_pos rfl, if_neg g]
    have eX : u_up1 n N X = zsD X 20 c (if zgt (t_size (zD Y 36 (6 * c))) k1e9 = true then zdiv (zit (t_rs Y c) (n - (c + 1)) (zD Y 37 c)) (zD Y 36 (6 * c)) else 0) := by
      unfold u_up1
      rw [hcc, val]
    have eY : q_up1 n N Y = zsD Y 38 c (if zgt (t_size (zD Y 36 (6 * c))) k1e9 = true then zdiv (zit (t_rs Y c) (n - (c + 1)) (zD Y 37 c)) (zD Y 36 (6 * c)) else 0) := by
      unfold q_up1
      rw [hcc]
    rw [eX, eY]
    generalize (if zgt (t_size (zD Y 36 (6 * c))) k1e9 = true then zdiv (zit (t_rs Y c) (n - (c + 1)) (zD Y 37 c)) (zD Y 36 (6 * c)) else 0) = V
    refine ⟨fun r hr => ?_, fun c' hc' => ?_, fun k h1 h2 => ?_, (cFt_D _ _ (by omega)).tr i4, (mFt_D _ _ (by omega)).tr i5⟩
    · obtain ⟨h1, h2⟩ := i1 r hr
      refine ⟨fun c' hc' => ?_, ?_⟩
      · rw [zD_sD, if_neg (by omega), zD_sD, if_neg (by omega)]
        exact h1 c' hc'
      · rw [zD_sD, if_neg (by omega), zD_sD, if_neg (by omega)]
        exact h2
    · rw [zI_sD, zD_sD, if_neg (show ¬ (36 = 38 ∧ 6 * c' = c) by omega)]
      exact i2 c' hc'
    · rw [zD_sD, zD_sD]
      by_cases ek : k = c
      · rw [if_pos ⟨rfl, ek⟩, if_pos ⟨rfl, ek⟩]
      · rw [if_neg (fun q => ek q.2), if_neg (fun q => ek q.2)]
        exact i3 k (by omega) h2
theorem w2_cases (x : Int32) : (x < 0 ∧ True) ∨ (¬ x < 0 ∧ ¬ x ≤ 2) ∨ ∃ Q, Q ≤ 2 ∧ x = nI Q ∧ ¬ x < 0 ∧ x ≤ 2 ∧ x.toNatClampNeg = Q := by
  by_cases a : x < 0
  · exact Or.inl ⟨a, trivial⟩
  · by_cases b : x ≤ 2
    · obtain ⟨Q, hQ, rfl⟩ := zix (n := 3) (x := x) a (fun q => by
        rw [Int32.le_iff_toInt_le] at q b
        rw [show (nI 3).toInt = 3 from rfl] at q
        rw [show (2 : Int32).toInt = 2 from rfl] at b
        omega) (by decide)
      exact Or.inr (Or.inr ⟨Q, by omega, rfl, a, b, nI_clamp (by omega)⟩)
    · exact Or.inr (Or.inl ⟨a, b⟩)
theorem fit_rel {n w h : Nat} {ly : Int32} {μ m : ZMem} (H : REL n w h ly μ m) {T : Nat} (hT : zI m 0 31 = nI T) (hT2 : T ≤ 40) (x : Int32) : s_fit μ T x = t_fit m T x ∧ REL n w h ly (u_fit μ T x) (q_fit m T x) := by
  obtain ⟨⟨hd, hF, hL, hB, hM, hly⟩, hC, hS, hs, hW, ht, hN, hne, hga, hfi, hsa, hou⟩ := id H
  unfold s_fit t_fit u_fit q_fit
  rcases w2_cases x with ⟨a, _⟩ | ⟨a, b⟩ | ⟨Q, hQ, _, a, b, cl⟩
  · rw [if_pos a, if_pos a, if_pos a, if_pos a]
    exact ⟨rfl, H⟩
  · rw [if_neg a, if_neg a, if_neg a, if_neg a, if_neg b, if_neg b, if_neg b, if_neg b]
    exact ⟨rfl, H⟩
  · rw [if_neg a, if_neg a, if_neg a, if_neg a, if_pos b, if_pos b, if_pos b, if_pos b, cl]
    obtain ⟨T', t0, t1, t2, t3, t4⟩ := id hga
    have eT : T' = T := (nI_eq (by omega) (by omega)).mp (t2.symm.trans hT)
    subst eT
    obtain ⟨u1, u2, u3⟩ := addUp_pt (μ := μ) (m := m) hQ t3
    have v1 := madd_pt (m := m) (n := 2 * Q + 1) (T := T') (by omega) (2 * Q + 1) (Nat.le_refl _)
    have v2 := mFt_add (2 * Q + 1) T' m
    have R0 : tRl (2 * Q + 1) (u_addUp μ Q (2 * Q + 1) T') (q_add (2 * Q + 1) T' m) := fun r hr => ⟨fun c hc => ((u2 r hr).1 c hc).trans ((v1 r hr).1 c hc).symm, (u2 r hr).2.trans (v1 r hr).2.symm⟩
    unfold s_solve u_solve q_fit1
    generalize u_addUp μ Q (2 * Q + 1) T' = A at *
    have ea : q_add (2 * Q + 1) T' m = zit (q_fr (2 * Q + 1) T') (2 * Q + 1) m := rfl
    generalize q_add (2 * Q + 1) T' m = B at *
    obtain ⟨c1, c2, c3, c4, c5⟩ := clr_rel (n := 2 * Q + 1) (by omega) R0 (2 * Q + 1) (Nat.le_refl _)
    unfold u_clear q_clear
    generalize zit (u_clr (2 * Q + 1)) (2 * Q + 1) (0, A) = ca at *
    generalize zit (q_clr (2 * Q + 1)) (2 * Q + 1) (0, B) = cb at *
    refine ⟨c1, ?_⟩
    obtain ⟨d1, d2, d3, d4, d5⟩ := up_rel (n := 2 * Q + 1) (by omega) c2 c3 (2 * Q + 1) (Nat.le_refl _)
    unfold u_up
    generalize zit (u_up1 (2 * Q + 1)) (2 * Q + 1) ca.2 = X at *
    generalize zit (q_up1 (2 * Q + 1)) (2 * Q + 1) cb.2 = Y at *
    have fX : cFt X μ := d4.tr (c4.tr u1)
    have fY : mFt Y m := d5.tr (c5.tr v2)
    have fc : ∀ D : Nat → Nat → Prop, (∀ r k, D r k → ¬ (12 ≤ r ∧ r ≤ 20)) → ¬ D 8 8 → agr D (zsI X 8 8 (nI (2 * Q + 1))) μ := fun D h1 h2 => (agr_sI _ _ h2).tr (fun r k hD => by
      have q := h1 r k hD
      exact ⟨by rw [fX.2.2.1 r (by omega)], by rw [fX.2.1], by rw [fX.2.2.2 r (by omega) (by omega) (by omega)], by rw [fX.1]⟩)
    have fm : ∀ D : Nat → Nat → Prop, (∀ r k, D r k → ¬ (36 ≤ r ∧ r ≤ 38)) → ¬ D 0 38 → agr D (zsI Y 0 38 (nI (2 * Q + 1))) m := fun D h1 h2 => (agr_sI _ _ h2).tr (fun r k hD => by
      have q := h1 r k hD
      exact ⟨by rw [fY.2.2.1], by rw [fY.2.1], by rw [fY.2.2.2 r (by omega)], by rw [fY.1]⟩)
    have m0 : ∀ k, k ≠ 38 → zI (zsI Y 0 38 (nI (2 * Q + 1))) 0 k = zI m 0 k := fun k hk => by
      rw [zI_sI, if_neg (fun e => hk e.2), fY.2.2.1]
    refine REL.mk' (Nat.le_refl n) H (zLC_of (fun r k q => by
        show zR X r k = _
        rw [fX.1]) (fun r k q => by rw [zI_sI, if_neg (by omega), fX.2.2.1 r (by omega)])) (fun q => ⟨fun k n' hk hr => q.1 k n' hk (by
        have e : zR (zsI X 8 8 (nI (2 * Q + 1))) (1000 + k) 7 = zR μ (1000 + k) 7 := by
          show zR X _ _ = _
          rw [fX.1]
        rw [← e]
        exact hr), fun i' hi' => by
        rw [zI_sI, if_neg (by omega), fX.2.2.1 _ (by omega)]
        exact q.2 i' hi'⟩) (fun q => ⟨fun k hk => by
        show zR Y 0 k = _
        rw [fY.1]
        exact q.1 k hk, (m0 0 (by decide)).trans q.2.1, (m0 1 (by decide)).trans q.2.2.1, (m0 2 (by decide)).trans q.2.2.2.1, q.2.2.2.2⟩) (hC.mo hd (fc _ (fun r k => by unfold dCell cR; omega) (by unfold dCell cR; omega)) (fm _ (fun r k => by unfold dCellM; omega) (by unfold dCellM; omega))) (hS.mo hd hF (fc _ (fun r k => by unfold dSpd fR; omega) (by unfold dSpd fR; omega)) (fm _ (fun r k => by unfold dSpdM; omega) (by unfold dSpdM; omega))) (hs.mo (fc _ (fun r k => by unfold dSide; omega) (by unfold dSide; omega)) (fm _ (fun r k => by unfold dSideM; omega) (by unfold dSideM; omega))) (hW.mo (fc _ (fun r k => by unfold dWind; omega) (by unfold dWind; omega)) (fm _ (fun r k => by unfold dWindM; omega) (by unfold dWindM; omega))) (ht.mo (fc _ (fun r k => by unfold dTime; omega) (by unfold dTime; omega)) (fm _ (fun r k => by unfold dTimeM; omega) (by unfold dTimeM; omega))) (hN.mo (fm _ (fun r k => by unfold dNum; omega) (by unfold dNum; omega))) (hne.mo hd (fc _ (fun r k => by unfold dNest cR; omega) (by unfold dNest cR; omega)) (fm _ (fun r k => by unfold dNestM; omega) (by unfold dNestM; omega)) (m0 27 (by decide))) (hga.mo hd (fc _ (fun r k => by unfold dGauge cR; omega) (by unfold dGauge cR; omega)) (fm _ (fun r k => by unfold dGaugeM; omega) (by unfold dGaugeM; omega)) (m0 31 (by decide))) ⟨2 * Q + 1, by omega, ?_, ?_, fun k hk => ?_⟩ (hsa.mo hd (Nat.le_refl n) (fc _ (fun r k => by unfold dSave; omega) (by unfold dSave; omega)) (fm _ (fun r k => by unfold dSaveM; omega) (by unfold dSaveM; omega)) (m0 39 (by decide)) (m0 40 (by decide))) (hou.mo (fm _ (fun r k => by unfold dOut; omega) (by unfold dOut; omega)))
    · rw [zI_sI, if_pos ⟨rfl, rfl⟩]
    · rw [zI_sI, if_pos ⟨rfl, rfl⟩]
    · exact d3 k (by omega) hk
theorem tide_rel {n w h : Nat} {ly : Int32} {μ m : ZMem} (H : REL n w h ly μ m) (v : UInt64) : (zI μ 8 8 = 0 ∧ zI m 0 38 = nI 0 ∧ t_tide m 0 v = 0) ∨ ∃ Q, Q ≤ 2 ∧ zI μ 8 8 = nI (2 * Q + 1) ∧ zI m 0 38 = nI (2 * Q + 1) ∧ s_tide μ Q v = t_tide m (2 * Q + 1) v ∧ REL n w h ly (u_tide μ Q v) m := by
  obtain ⟨⟨hd, hF, hL, hB, hM, hly⟩, hC, hS, hs, hW, ht, hN, hne, hga, hfi, hsa, hou⟩ := id H
  obtain ⟨C, c0, c1, c2, c3⟩ := id hfi
  by_cases e0 : C = 0
  · subst e0
    exact Or.inl ⟨c1, c2, by unfold t_tide; rw [if_pos (show nI 0 = 0 from rfl)]⟩
  · obtain ⟨Q, hQ, rfl⟩ : ∃ Q, Q ≤ 2 ∧ C = 2 * Q + 1 := by
      rcases c0 with h | h | h | h
      · exact absurd h e0
      · exact ⟨0, by omega, by omega⟩
      · exact ⟨1, by omega, by omega⟩
      · exact ⟨2, by omega, by omega⟩
    refine Or.inr ⟨Q, hQ, c1, c2, ?_, ?_⟩
    · unfold s_tide t_tide
      have nz : ¬ nI (2 * Q + 1) = 0 := fun q => by
        have := (nI_eq (a := 2 * Q + 1) (b := 0) (by omega) (by omega)).mp q
        omega
      rw [if_neg nz]
      by_cases g : s_inside v 0 k1000 = 0
      · rw [if_pos g, if_pos g]
      · rw [if_neg g, if_neg g]
        obtain ⟨s1, _, _, _, s5⟩ := saws_pt μ v hQ
        unfold s_heightK
        rw [s5 20 (by decide), c3 0 (by omega)]
        refine zit_cg _ _ (fun k y hk => ?_)
        unfold t_td1
        rw [s1 (1 + k) (by omega), c3 (1 + k) (by omega)]
    · unfold u_tide
      by_cases g : s_inside v 0 k1000 = 0
      · rw [if_pos g]
        exact H
      · rw [if_neg g]
        obtain ⟨_, s2, s3, s4, s5⟩ := saws_pt μ v hQ
        generalize u_saws μ v Q = X at *
        have fc : ∀ D : Nat → Nat → Prop, (∀ r k, D r k → r ≠ 19) → agr D X μ := fun D h1 r k hD => ⟨by rw [s4], by rw [s3], by rw [s5 r (h1 r k hD)], by rw [s2]⟩
        refine REL.mk' (Nat.le_refl n) H (zLC_RI ⟨s2, s4⟩) (zNB_RI ⟨s2, s4⟩) id (hC.mo hd (fc _ (fun r k => by unfold dCell cR; omega)) (agr.rf _ _)) (hS.mo hd hF (fc _ (fun r k => by unfold dSpd fR; omega)) (agr.rf _ _)) (hs.mo (fc _ (fun r k => by unfold dSide; omega)) (agr.rf _ _)) (hW.mo (fc _ (fun r k => by unfold dWind; omega)) (agr.rf _ _)) (ht.mo (fc _ (fun r k => by unfold dTime; omega)) (agr.rf _ _)) hN (hne.mo hd (fc _ (fun r k => by unfold dNest cR; omega)) (agr.rf _ _) rfl) (hga.mo hd (fc _ (fun r k => by unfold dGauge cR; omega)) (agr.rf _ _) rfl) (hfi.mo (fc _ (fun r k => by unfold dFit; omega)) (agr.rf _ _) rfl) (hsa.mo hd (Nat.le_refl n) (fc _ (fun r k => by unfold dSave; omega)) (agr.rf _ _) rfl rfl) hou
