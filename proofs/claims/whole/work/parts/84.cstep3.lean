/-! the class's step, all in all -/
def mBeg (N : Nat) (μ : ZMem) : ZMem := zit u_sS 4 (zit u_sB N μ)
def GL (r k : Nat) : Prop := (cR r ∧ (k = 2 ∨ k = 10)) ∨ (fR r ∧ k = 5) ∨ ((30 ≤ r ∧ r < 34) ∧ k = 4) ∨ (70 ≤ r ∧ r < 80) ∨ (r = 0 ∧ k = 16)
def GD (r k : Nat) : Prop := (cR r ∧ (k = 3 ∨ k = 4 ∨ k = 5 ∨ k = 11 ∨ k = 12 ∨ k = 13 ∨ k = 14)) ∨ (fR r ∧ k = 4) ∨ ((30 ≤ r ∧ r < 34) ∧ k = 3) ∨ (r = 0 ∧ k = 14)
theorem mBeg_pt (μ : ZMem) {N : Nat} (hN : N ≤ 144) : zR (mBeg N μ) = zR μ ∧ zI (mBeg N μ) = zI μ ∧ (∀ r k, ¬ BL r k → zL (mBeg N μ) r k = zL μ r k) ∧ (∀ r k, ¬ BD r k → ¬ SD r k → zD (mBeg N μ) r k = zD μ r k) ∧ (∀ k, k < N → bDone μ (mBeg N μ) (1000 + k)) ∧ ∀ s, s < 4 → zD (mBeg N μ) (30 + s) 3 = s_out μ s := by
  obtain ⟨a1, a2⟩ := cB_pt μ N hN
  obtain ⟨b1, b2⟩ := cSS_pt (zit u_sB N μ)
  refine ⟨b1.1.trans a1.1, b1.2.1.trans a1.2.1, fun r k h => (b1.2.2.1 r k id).trans (a1.2.2.1 r k h), fun r k h1 h2 => (b1.2.2.2 r k h2).trans (a1.2.2.2 r k h1), fun k hk => ?_, fun s hs => ?_⟩
  · obtain ⟨c1, c2, c3, c4, c5⟩ := a2 k hk
    have e : ∀ a, zD (mBeg N μ) (1000 + k) a = zD (zit u_sB N μ) (1000 + k) a := fun a => b1.2.2.2 _ _ (fun q => by have := q.1; omega)
    refine ⟨(b1.2.2.1 _ _ id).trans c1, ?_, ?_, ?_, ?_⟩ <;> rw [e] <;> assumption
  · refine (b2 s hs).trans ?_
    have e : ∀ r a, ¬ cR r → zD (zit u_sB N μ) r a = zD μ r a := fun r a h => a1.2.2.2 r a (fun q => h q.1)
    have ew : ∀ k x, s_wv (zit u_sB N μ) s k x = s_wv μ s k x := fun k x => by
      unfold s_wv
      rw [e (40 + s) k (fun q => by have := q.1; omega), e (50 + s) k (fun q => by have := q.1; omega), e 0 14 (fun q => by have := q.1; omega)]
    unfold s_out
    rw [a1.2.1, zit_cg (q := s_wv μ s) 8 0 (fun k y _ => ew k y)]
theorem c_car_cg {w h k n : Nat} {Q Q' : Nat → Int64} {W W' S S' : Nat → UInt64} (y : TV) (e : Q n = Q' n) (a : W (1000 + k) = W' (1000 + k)) (b : S (1000 + k) = S' (1000 + k)) (c : w_of k8 W (x_fr w h (Q' n) n) = w_of k8 W' (x_fr w h (Q' n) n)) (d : w_of k34 S (x_fr w h (Q' n) n) = w_of k34 S' (x_fr w h (Q' n) n)) : c_car w h Q W S k n y = c_car w h Q' W' S' k n y := by
  unfold c_car
  rw [e, a, b, c, d]
theorem c_feel_cg {w h k n : Nat} {E E' : Nat → Int32} {S : Nat → UInt64} (y : UInt64) (e : E n = E' n) : c_feel w h E S k n y = c_feel w h E' S k n y := by
  unfold c_feel
  rw [e]
theorem c_cam_cg {w h s n : Nat} {Q Q' : Nat → Int64} (y : Int64) (e : Q n = Q' n) : c_cam w h Q s n y = c_cam w h Q' s n y := by
  unfold c_cam
  rw [e]
def q_fl (μ β : ZMem) (w h hr : Nat) (v : UInt64) (n : Nat) : Int64 := if s_exists μ (2000 + n) = 0 then 0 else e_q β (2000 + n) v (e_sp β w h hr v n)
def x_tv (μ β : ZMem) (w h hr : Nat) (v : UInt64) (k : Nat) : TV := zit (c_car w h (q_fl μ β w h hr v) (fun r => zD μ r 3) (fun r => zD μ r 4) k) (fcA w h) (zL μ (1000 + k) 2, zmul (zD μ (1000 + k) 3) (FP.l2d (zL μ (1000 + k) 2)), zmul (zD μ (1000 + k) 4) (FP.l2d (zL μ (1000 + k) 2)))
def x_fa (μ β : ZMem) (w h hr : Nat) (v : UInt64) (k : Nat) : UInt64 := zit (c_feel w h (fun n => s_exists μ (2000 + n)) (e_sp β w h hr v) k) (fcA w h) 0
theorem cstep_pt {μ : ZMem} {w h hr : Nat} {v : UInt64} (hd : zDim w h) (hF : fcA w h ≤ 400) (hR : fRf w h μ) (hA : fAx w h μ) (hB : nB (w * h) μ) : cS GL GD (u_step (w * h) (fcA w h) hr v μ) μ ∧ (∀ k, k < w * h → kOf (u_step (w * h) (fcA w h) hr v μ) (1000 + k) = c_end (zI μ (1000 + k) 0) (zD μ (1000 + k) 6) v (zD μ (1000 + k) 5) (zD μ (1000 + k) 3) (zD μ (1000 + k) 4) (x_fa μ (mBeg (w * h) μ) w h hr v k) (x_tv μ (mBeg (w * h) μ) w h hr v k)) ∧ (∀ k i, k < w * h → i < 10 → zR μ (1000 + k) 7 = some (60 + i) → s_sumS (u_step (w * h) (fcA w h) hr v μ) (70 + i) (s_cnt μ (60 + i)) = s_sumS μ (70 + i) (s_cnt μ (60 + i)) + (zL (u_step (w * h) (fcA w h) hr v μ) (1000 + k) 2 - zL μ (1000 + k) 2)) ∧ (∀ n, n < fcA w h → zD (u_step (w * h) (fcA w h) hr v μ) (2000 + n) 4 = if s_exists μ (2000 + n) = 0 then zD μ (2000 + n) 4 else e_sp (mBeg (w * h) μ) w h hr v n) ∧ (∀ s, s < 4 → zL (u_step (w * h) (fcA w h) hr v μ) (30 + s) 4 = zit (c_cam w h (q_fl μ (mBeg (w * h) μ) w h hr v) s) (fcA w h) (zL μ (30 + s) 4)) ∧ zL (u_step (w * h) (fcA w h) hr v μ) 0 16 = zit (fun k s => s + s_take μ (1000 + k) v) (w * h) (zL μ 0 16) ∧ zD (u_step (w * h) (fcA w h) hr v μ) 0 14 = zadd (zD μ 0 14) v := by
  have h144 : w * h ≤ 12 * 12 := Nat.mul_le_mul hd.2.1 hd.2.2.2
  obtain ⟨b1, b2, b3, b4, b5, b6⟩ := mBeg_pt μ (N := w * h) (by omega)
  have eu : u_step (w * h) (fcA w h) hr v μ = (fun m : ZMem => zsD m 0 14 (zadd (zD m 0 14) v)) (zit (u_sE v) (w * h) (zit u_sC (fcA w h) (zit (u_sF hr v) (fcA w h) (mBeg (w * h) μ)))) := rfl
  rw [eu]
  unfold x_tv x_fa q_fl
  generalize mBeg (w * h) μ = β at *
  have hRb : fRf w h β := fun n hn => by rw [b1]; exact hR n hn
  have hAb : fAx w h β := fun n hn => by rw [b2]; exact hA n hn
  obtain ⟨f1, f2, _, f4⟩ := cF_pt (hr := hr) (v := v) hd hF hRb hAb (fcA w h) (Nat.le_refl _)
  generalize zit (u_sF hr v) (fcA w h) β = γ at *
  have hRg : fRf w h γ := fun n hn => by rw [f1.1]; exact hRb n hn
  obtain ⟨c1, c2, c3⟩ := cC_pt hd hF hRg (fcA w h) (Nat.le_refl _)
  generalize zit u_sC (fcA w h) γ = δ at *
  have eR : zR δ = zR μ := c1.1.trans (f1.1.trans b1)
  have eI : zI δ = zI μ := c1.2.1.trans (f1.2.1.trans b2)
  have ex : ∀ n, s_exists β n = s_exists μ n := fun n => by
    unfold s_exists s_isWater
    rw [b1, b2]
  have hBd : nB (w * h) δ := by
    have ec : ∀ n, s_cnt δ n = s_cnt μ n := fun n => by unfold s_cnt; rw [eI]
    unfold nB
    simp only [ec]
    rw [eR]
    exact hB
  obtain ⟨e1, e2, _, e4⟩ := cE_pt (by omega) hBd v (w * h) (Nat.le_refl _)
  generalize zit (u_sE v) (w * h) δ = ε at *
  have q19 : ∀ n, n < fcA w h → zL γ (2000 + n) 5 = if s_exists μ (2000 + n) = 0 then 0 else e_q β (2000 + n) v (e_sp β w h hr v n) := fun n hn => by
    have d := f2 n hn
    unfold fDn at d
    rw [ex] at d
    by_cases g : s_exists μ (2000 + n) = 0
    · rw [if_pos g, (d.1 g).2]
    · rw [if_neg g, (d.2 g).2]
      rfl
  have gl : ∀ c k, ¬ FL c k → ¬ BL c k → zL γ c k = zL μ c k := fun c k h1 h2 => (f1.2.2.1 c k h1).trans (b3 c k h2)
  have gd : ∀ c k, ¬ FD c k → ¬ BD c k → ¬ SD c k → zD γ c k = zD μ c k := fun c k h1 h2 h3 => (f1.2.2.2 c k h1).trans (b4 c k h2 h3)
  have g2 : ∀ k, k < w * h → zL γ (1000 + k) 2 = zL μ (1000 + k) 2 := fun k hk => gl _ _ (fun q => by have := q.2; omega) (fun q => by have := q.2; omega)
  have gw : ∀ r a, a = 3 ∨ a = 4 → r < 2000 → (a = 3 → ¬ SD r 3) → zD γ r a = zD μ r a := fun r a ha hr hs => gd r a (fun q => q.elim (fun y => by have := y.1.1; omega) (fun y => by have := y.2; omega)) (fun q => by have := q.2.1; omega) (fun q => by
    have := q.2
    rcases ha with rfl | rfl
    · exact hs rfl q
    · omega)
  have dl : ∀ k, k < w * h → zL δ (1000 + k) 10 = zL μ (1000 + k) 2 := fun k hk => (c1.2.2.1 _ _ (fun q => q.elim (fun y => by have := y.2; omega) (fun y => by have := y.2; omega))).trans ((f1.2.2.1 _ _ (fun q => by have := q.2; omega)).trans (b5 k hk).1)
  have dd : ∀ k a, k < w * h → a = 3 ∨ a = 4 ∨ a = 5 ∨ a = 6 → zD δ (1000 + k) a = zD μ (1000 + k) a := fun k a hk ha => (c1.2.2.2 _ _ (fun q => by have := q.2; omega)).trans (gd _ _ (fun q => q.elim (fun y => by have := y.1.1; omega) (fun y => by have := y.2; omega)) (fun q => by have := q.2.1; omega) (fun q => by have := q.1; omega))
  have wof : ∀ n : Nat, n < fcA w h → ∀ q : Int64, w_of k8 (fun r => zD γ r 3) (x_fr w h q n) = w_of k8 (fun r => zD μ r 3) (x_fr w h q n) ∧ w_of k34 (fun r => zD γ r 4) (x_fr w h q n) = w_of k34 (fun r => zD μ r 4) (x_fr w h q n) := fun n hn q => by
    cases hx : x_fr w h q n with
    | none => exact ⟨rfl, rfl⟩
    | some a =>
      have ha : ∃ k, k < w * h ∧ a = 1000 + k := by
        unfold x_fr at hx
        split at hx
        · exact (fBB hd hn).2 hx
        · exact (fBB hd hn).1 hx
      obtain ⟨k, hk, rfl⟩ := ha
      exact ⟨gw _ 3 (Or.inl rfl) (by omega) (fun _ q => by have := q.1; omega), gw _ 4 (Or.inr rfl) (by omega) (fun q => absurd q (by decide))⟩
  have tv : ∀ k, k < w * h → tvw δ (1000 + k) = zit (c_car w h (fun n => if s_exists μ (2000 + n) = 0 then 0 else e_q β (2000 + n) v (e_sp β w h hr v n)) (fun r => zD μ r 3) (fun r => zD μ r 4) k) (fcA w h) (zL μ (1000 + k) 2, zmul (zD μ (1000 + k) 3) (FP.l2d (zL μ (1000 + k) 2)), zmul (zD μ (1000 + k) 4) (FP.l2d (zL μ (1000 + k) 2))) := fun k hk => by
    obtain ⟨_, _, p3, p4, _⟩ := b5 k hk
    have t0 : tvw γ (1000 + k) = (zL μ (1000 + k) 2, zmul (zD μ (1000 + k) 3) (FP.l2d (zL μ (1000 + k) 2)), zmul (zD μ (1000 + k) 4) (FP.l2d (zL μ (1000 + k) 2))) := by
      unfold tvw
      rw [g2 k hk, f1.2.2.2 _ 12 (fun q => q.elim (fun y => by have := y.1.1; omega) (fun y => by have := y.2; omega)), f1.2.2.2 _ 13 (fun q => q.elim (fun y => by have := y.1.1; omega) (fun y => by have := y.2; omega)), p3, p4]
    rw [c2 k (by omega), t0]
    refine zit_cg _ _ (fun n y hn => ?_)
    exact c_car_cg y (q19 n hn) (gw _ 3 (Or.inl rfl) (by omega) (fun _ q => by have := q.1; omega)) (gw _ 4 (Or.inr rfl) (by omega) (fun q => absurd q (by decide))) (wof n hn _).1 (wof n hn _).2
  have fa : ∀ k, k < w * h → zD δ (1000 + k) 14 = zit (c_feel w h (fun n => s_exists μ (2000 + n)) (e_sp β w h hr v) k) (fcA w h) 0 := fun k hk => by
    rw [c1.2.2.2 _ _ (fun q => by have := q.2; omega), f4 k (by omega), (b5 k hk).2.2.2.2]
    refine zit_cg _ _ (fun n y hn => ?_)
    exact c_feel_cg y (ex _)
  have eo : ∀ r k, (r, k) ≠ (0, 14) → zD (zsD ε 0 14 (zadd (zD ε 0 14) v)) r k = zD ε r k := fun r k h => by
    rw [zD_sD, if_neg (fun q => h (by rw [q.1, q.2]))]
  refine ⟨⟨?_, ?_, fun r k h => ?_, fun r k h => ?_⟩, fun k hk => ?_, fun k i hk hi q => ?_, fun n hn => ?_, fun s hs => ?_, ?_, ?_⟩
  · exact e1.1.trans eR
  · exact e1.2.1.trans eI
  · show zL ε r k = _
    unfold GL cR fR at h
    rw [e1.2.2.1 r k (fun q => h (by unfold EL cR at q; omega)), c1.2.2.1 r k (fun q => h (by unfold CL cR at q; omega))]
    exact gl r k (fun q => h (by unfold FL fR at q; omega)) (fun q => h (by unfold BL cR at q; omega))
  · unfold GD cR fR at h
    show zD (zsD ε 0 14 (zadd (zD ε 0 14) v)) r k = _
    rw [zD_sD, if_neg (fun q => h (by omega)), e1.2.2.2 r k (fun q => h (by unfold ED cR at q; omega)), c1.2.2.2 r k (fun q => h (by unfold CD cR at q; omega))]
    exact gd r k (fun q => h (by unfold FD fR cR at q; omega)) (fun q => h (by unfold BD cR at q; omega)) (fun q => h (by unfold SD at q; omega))
  · have p := (e2 k hk).1
    have pe : kOf (zsD ε 0 14 (zadd (zD ε 0 14) v)) (1000 + k) = kOf ε (1000 + k) := by
      unfold kOf
      rw [eo _ 3 (by simp), eo _ 4 (by simp), eo _ 5 (by simp)]
      rfl
    show kOf (zsD ε 0 14 (zadd (zD ε 0 14) v)) (1000 + k) = _
    rw [pe, p]
    unfold c_cell
    rw [tv k hk, fa k hk, eI, dd k 3 hk (by omega), dd k 4 hk (by omega), dd k 5 hk (by omega), dd k 6 hk (by omega)]
  · have p := (e2 k hk).2 i hi (by rw [eR]; exact q)
    have pk : (c_cell δ v (1000 + k)).1 = zL ε (1000 + k) 2 := (congrArg (fun q : CV => q.1) (e2 k hk).1).symm
    have ec : s_cnt δ (60 + i) = s_cnt μ (60 + i) := by unfold s_cnt; rw [eI]
    rw [ec, pk, dl k hk] at p
    show s_sumS ε (70 + i) (s_cnt μ (60 + i)) = _ + (zL ε (1000 + k) 2 - _)
    rw [p]
    congr 1
    refine sumS_cg (funext fun a => ?_) _
    rw [c1.2.2.1 _ _ (fun q => by unfold CL cR at q; omega)]
    exact gl _ _ (fun q => by unfold FL fR at q; omega) (fun q => by unfold BL cR at q; omega)
  · show zD (zsD ε 0 14 (zadd (zD ε 0 14) v)) (2000 + n) 4 = _
    rw [eo _ _ (by simp), e1.2.2.2 _ _ (fun q => by unfold ED cR at q; omega), c1.2.2.2 _ _ (fun q => by unfold CD cR at q; omega)]
    have d := f2 n hn
    unfold fDn at d
    rw [ex] at d
    by_cases g : s_exists μ (2000 + n) = 0
    · rw [if_pos g, (d.1 g).1]
      exact b4 _ _ (fun q => by unfold BD cR at q; omega) (fun q => by unfold SD at q; omega)
    · rw [if_neg g, (d.2 g).1]
      rfl
  · show zL ε (30 + s) 4 = _
    rw [e1.2.2.1 _ _ (fun q => by unfold EL cR at q; omega), c3 s hs, gl _ _ (fun q => by unfold FL fR at q; omega) (fun q => by unfold BL cR at q; omega)]
    refine zit_cg _ _ (fun n y hn => ?_)
    exact c_cam_cg y (q19 n hn)
  · show zL ε 0 16 = _
    rw [e4, c1.2.2.1 _ _ (fun q => by unfold CL cR at q; omega), gl _ _ (fun q => by unfold FL fR at q; omega) (fun q => by unfold BL cR at q; omega)]
    refine zit_cg _ _ (fun k y hk => ?_)
    unfold s_take
    rw [eI, dd k 6 hk (by omega)]
  · show zD (zsD ε 0 14 (zadd (zD ε 0 14) v)) 0 14 = _
    rw [zD_sD, if_pos ⟨rfl, rfl⟩, e1.2.2.2 _ _ (fun q => by unfold ED cR at q; omega), c1.2.2.2 _ _ (fun q => by unfold CD cR at q; omega)]
    rw [gd 0 14 (fun q => by unfold FD fR cR at q; omega) (fun q => by unfold BD cR at q; omega) (fun q => by unfold SD at q; omega)]
