/-! the relation through steps -/
theorem agr_zS {XI XL XD : Nat → Bool} {D : Nat → Nat → Prop} {a b : ZMem} (h : zSame XI XL XD a b) (hI : ∀ r k, D r k → XI r = false) (hL : ∀ r k, D r k → XL r = false) (hD : ∀ r k, D r k → XD r = false) : agr D a b := fun r k d => ⟨by rw [h.2.1 r (hI r k d)], by rw [h.2.2.1 r (hL r k d)], by rw [h.2.2.2 r (hD r k d)], by rw [h.1]⟩
theorem xR_f {r : Nat} (h : (20 ≤ r ∧ r ≤ 60) ∨ (4 ≤ r ∧ r ≤ 6)) : xRL r = false ∧ xRD r = false := by
  unfold xRL xRD
  simp only [Bool.or_eq_false_iff, beq_eq_false_iff_ne]
  omega
theorem geo_of {w h : Nat} {ly : Int32} {μ : ZMem} (hL : zLC w h ly μ) (hF : fcA w h ≤ 400) : gGeo w h μ := by
  have g := hL.2.2.2.2.2.2.2.1
  exact ⟨fun n hn => ⟨(g n hn).1, (g n hn).2.1, (g n hn).2.2.1⟩, fun n hn => (g n hn).2.2.2, hF⟩
theorem nB_of {w h : Nat} {ly : Int32} {μ m : ZMem} (hd : zDim w h) (hL : zLC w h ly μ) (H : rNest w h μ m) : nB (w * h) μ := by
  obtain ⟨T, t0, t1, t2, t3, t4, t5, t6⟩ := H
  have dec : ∀ k, k < w * h → ∃ a b, a < w ∧ b < h ∧ k = b * w + a := fun k hk => by
    obtain ⟨g1, g2, g3⟩ := gm hk
    exact ⟨k % w, k / w, g1, g2, g3⟩
  refine ⟨fun k n hk hn => ?_, fun k l n hk hl h1 h2 => ?_⟩
  · obtain ⟨a, b, ha, hb, rfl⟩ := dec k hk
    obtain ⟨i, hi, rfl, e⟩ := (t6 a b ha hb).2 n hn
    obtain ⟨_, _, _, _, _, _, _, e3, e4, _⟩ := t5 i (by omega) _ e
    exact ⟨i, by omega, rfl, (hL.2.2.2.2.1 i (by omega)).2, e3, e4⟩
  · obtain ⟨a, b, ha, hb, rfl⟩ := dec k hk
    obtain ⟨a', b', ha', hb', rfl⟩ := dec l hl
    obtain ⟨i, hi, rfl, e⟩ := (t6 a b ha hb).2 n h1
    obtain ⟨i', hi', e2, e'⟩ := (t6 a' b' ha' hb').2 (60 + i) h2
    rw [e] at e'
    have := Option.some.inj e'
    omega
theorem cE_sh {γ : ZMem} {N : Nat} (hN : N ≤ 144) (hB : nB N γ) (v : UInt64) {i : Nat} (hi : i < 10) (hno : ∀ k, k < N → ¬ zR γ (1000 + k) 7 = some (60 + i)) : ∀ n, n ≤ N → zL (zit (u_sE v) n γ) (70 + i) = zL γ (70 + i) := by
  intro n
  induction n with
  | zero => exact fun _ => rfl
  | succ n ih =>
    intro hn
    have a1 := (cE_pt hN hB v n (by omega)).1
    obtain ⟨_, _, _, b4, _, _⟩ := eS_pt hN (show n < N by omega) a1 hB v
    exact (b4 i hi (hno n (by omega))).trans (ih (by omega))
theorem cstep_sh {μ : ZMem} {w h hr : Nat} {v : UInt64} (hd : zDim w h) (hF : fcA w h ≤ 400) (hR : fRf w h μ) (hA : fAx w h μ) (hB : nB (w * h) μ) {i : Nat} (hi : i < 10) (hno : ∀ k, k < w * h → ¬ zR μ (1000 + k) 7 = some (60 + i)) : zL (u_step (w * h) (fcA w h) hr v μ) (70 + i) = zL μ (70 + i) := by
  have h144 : w * h ≤ 12 * 12 := Nat.mul_le_mul hd.2.1 hd.2.2.2
  obtain ⟨b1, b2, b3, b4, b5, b6⟩ := mBeg_pt μ (N := w * h) (by omega)
  have eu : u_step (w * h) (fcA w h) hr v μ = (fun m : ZMem => zsD m 0 14 (zadd (zD m 0 14) v)) (zit (u_sE v) (w * h) (zit u_sC (fcA w h) (zit (u_sF hr v) (fcA w h) (mBeg (w * h) μ)))) := rfl
  rw [eu]
  generalize mBeg (w * h) μ = β at *
  have hRb : fRf w h β := fun n hn => by rw [b1]; exact hR n hn
  have hAb : fAx w h β := fun n hn => by rw [b2]; exact hA n hn
  obtain ⟨f1, _, _, _⟩ := cF_pt (hr := hr) (v := v) hd hF hRb hAb (fcA w h) (Nat.le_refl _)
  generalize zit (u_sF hr v) (fcA w h) β = γ at *
  have hRg : fRf w h γ := fun n hn => by rw [f1.1]; exact hRb n hn
  obtain ⟨c1, _, _⟩ := cC_pt hd hF hRg (fcA w h) (Nat.le_refl _)
  generalize zit u_sC (fcA w h) γ = δ at *
  have eR : zR δ = zR μ := c1.1.trans (f1.1.trans b1)
  have eI : zI δ = zI μ := c1.2.1.trans (f1.2.1.trans b2)
  have hBd : nB (w * h) δ := by
    have ec : ∀ n, s_cnt δ n = s_cnt μ n := fun n => by unfold s_cnt; rw [eI]
    unfold nB
    simp only [ec]
    rw [eR]
    exact hB
  have e := cE_sh (by omega) hBd v hi (fun k hk => by rw [eR]; exact hno k hk) (w * h) (Nat.le_refl _)
  show zL (zit (u_sE v) (w * h) δ) (70 + i) = _
  rw [e]
  funext a
  rw [c1.2.2.1 _ _ (fun q => by unfold CL cR at q; omega), f1.2.2.1 _ _ (fun q => by unfold FL fR at q; omega)]
  exact b3 _ _ (fun q => by unfold BL cR at q; omega)
theorem rSave.up {n n' w h : Nat} (hn : n ≤ n') {μ m : ZMem} (H : rSave n w h μ m) : rSave n' w h μ m := by
  obtain ⟨S, CH, s0, s1, s2, s3, s4, s5, s6, s7⟩ := H
  exact ⟨S, CH, s0, by omega, s2, s3, s4, s5, s6, fun T hT => (s7 T hT).up hn⟩
theorem REL.up {n n' w h : Nat} {ly : Int32} (hn : n ≤ n') {μ m : ZMem} (H : REL n w h ly μ m) : REL n' w h ly μ m := by
  obtain ⟨h0, hC, hS, hs, hW, ht, hN, hne, hga, hfi, hsa, hou⟩ := H
  exact ⟨h0, hC, hS, hs, hW, ht, hN.up hn, hne, hga, hfi, hsa.up hn, hou⟩
theorem REL.cx {n w h : Nat} {ly : Int32} {μ m : ZMem} (H : REL n w h ly μ m) (hn : n < 2 ^ 17) {v : UInt64} (hv : zHh v) {hr : Nat} (hhr : hr < 24) : rCx n w h hr v μ m := by
  obtain ⟨⟨hd, hF, hL, hB, hM, _⟩, hC, hS, hs, hW, ht, hN, _⟩ := H
  exact ⟨⟨hd, hn, hv, hhr, hN⟩, geo_of hL hF, hC, hS, hs, hW, ht⟩
theorem REL_step {n w h : Nat} {ly : Int32} {μ m : ZMem} (H : REL n w h ly μ m) (hn : n < 2 ^ 17) {v : UInt64} (hv : zHh v) {hr : Nat} (hhr : hr < 24) : REL (n + 1) w h ly (u_step (w * h) (fcA w h) hr v μ) (q_step w h hr v m) := by
  have C := H.cx hn hv hhr
  obtain ⟨⟨hd, hF, hL, hB, hM, hly⟩, hC, hS, hs, hW, ht, hN, hne, hga, hfi, hsa, hou⟩ := id H
  have hg := geo_of hL hF
  have hb := nB_of hd hL hne
  have h144 : w * h ≤ 12 * 12 := Nat.mul_le_mul hd.2.1 hd.2.2.2
  have K := mKap_cx (ν := m) hd hr v
  have hkc : ∀ j, j < h → ∀ i, i < w → kRel (kOf (u_step (w * h) (fcA w h) hr v μ) (1000 + (j * w + i))) (cOf (q_step w h hr v m) (12 * j + i)) := fun j hj i hi => kcell_rel C hb hi hj
  obtain ⟨c1, _, c3, c4, c5, c6, c7⟩ := cstep_pt (hr := hr) (v := v) hd hF hg.1 hg.2.1 hb
  obtain ⟨s1, _, s3, s4, s5, s6, s7, s8⟩ := step_pt (ν := m) hd hr v
  have c8 : ∀ i, i < 10 → (∀ k, k < w * h → ¬ zR μ (1000 + k) 7 = some (60 + i)) → zL (u_step (w * h) (fcA w h) hr v μ) (70 + i) = zL μ (70 + i) := fun i hi hno => cstep_sh hd hF hg.1 hg.2.1 hb hi hno
  have hN' := NI_step C.1
  have fA0 : ∀ i j, i + 1 < w → j < h → fRel μ (mBeg (w * h) μ) m (mKap w h hr v m) w h hr v (nA0 w i j) (12 * j + i) (t_hasFace m w h (nI i) (nI j) 0) := fun i j hi hj => frel_A0 C K hi hj
  have fA1 : ∀ i j, i < w → j + 1 < h → fRel μ (mBeg (w * h) μ) m (mKap w h hr v m) w h hr v (nA1 w h i j) (144 + (12 * j + i)) (t_hasFace m w h (nI i) (nI j) 1) := fun i j hi hj => frel_A1 C K hi hj
  have fSS' : ∀ s t, s < 4 → t < (if s < 2 then h else w) → fRel μ (mBeg (w * h) μ) m (mKap w h hr v m) w h hr v (nSd4 w h s t) (sfN (sI w s t) (sJ h s t) s) (t_hasSide m w h (nI (sI w s t)) (nI (sJ h s t)) s) := fun s t hs ht => frel_S C K hs ht
  have ov : ∀ s, s < 4 → ∀ x, zit (c_cam w h (q_fl μ (mBeg (w * h) μ) w h hr v) s) (fcA w h) x = zit (fun j s' => zit (fun i s' => s' + gOv (mKap w h hr v m) w h s i j) w s') h x := fun s hs x => over_rel C K hs x
  have rv : ∀ x, zit (fun k s => s + s_take μ (1000 + k) v) (w * h) x = zit (fun j s => zit (fun i s => s + gRiv (mKap w h hr v m) w h v i j) w s) h x := fun x => rivers_rel C K x
  generalize mKap w h hr v m = κ at *
  generalize mBeg (w * h) μ = β at *
  generalize u_step (w * h) (fcA w h) hr v μ = ρ at *
  generalize q_step w h hr v m = σ at *
  have RI : zR ρ = zR μ ∧ zI ρ = zI μ := ⟨c1.1, c1.2.1⟩
  have spd1 : ∀ n f' x', fRel μ β m κ w h hr v n f' x' → n < fcA w h → zq (zD μ (2000 + n) 4) (zD m 11 f') → zq (zD ρ (2000 + n) 4) (zD σ 11 f') := fun n f' x' F hn h4 => by
    obtain ⟨f1, f2, f3, f4⟩ := F
    rw [c4 n hn, s8, f1]
    by_cases g : x' = 0
    · rw [if_pos g, (f4 g).1]
      exact h4
    · rw [if_neg g]
      exact (f3 g).1
  refine ⟨⟨hd, hF, zLC_RI RI hL, zNB_RI RI hB, zLM_kp ⟨s1.1, s1.2.1 0 rfl⟩ hM, hly⟩, fun j hj i hi => ?_, ⟨fun i j hi hj => ?_, fun i j hi hj => ?_, fun s t hs' ht' => ?_⟩, fun s hs' => ?_, ?_, ⟨?_, ?_, ?_⟩, hN', ?_, ?_, ?_, ?_, ?_⟩
  · have R := hC j hj i hi
    have k := hkc j hj i hi
    have g := glt hi hj
    obtain ⟨k1, k2, k3, k4⟩ := k
    refine ⟨?_, ?_, k1, k2, k3, k4, ?_⟩
    · rw [RI.2, s1.2.1 4 rfl]
      exact R.1
    · rw [c1.2.2.2 _ _ (fun q => by unfold GD cR fR at q; omega), s1.2.2.2 5 rfl]
      exact R.2.1
    · rw [c1.2.2.2 _ _ (fun q => by unfold GD cR fR at q; omega), s1.2.2.2 6 rfl]
      exact R.2.2.2.2.2.2
  · exact spd1 _ _ _ (fA0 i j hi hj) (by have := nA0_lt hi hj; have := fc0_1 hd; omega) (hS.1 i j hi hj)
  · exact spd1 _ _ _ (fA1 i j hi hj) (by have := nA1_lt (w := w) (h := h) hi hj; have := fc0_1 hd; omega) (hS.2.1 i j hi hj)
  · have F := fSS' s t hs' ht'
    rw [(sIJ hd hs' ht').2.2.2] at F
    exact spd1 _ _ _ F (nSd_lt hs' ht').2 (hS.2.2 s t hs' ht')
  · obtain ⟨a1, a2, a3⟩ := hs s hs'
    refine ⟨?_, ?_, fun k hk => ?_⟩
    · rw [c5 s hs', ov s hs', s6 s hs', a1]
    · rw [RI.2, s1.2.1 23 rfl]
      exact a2
    · rw [s1.2.1 23 rfl, c1.2.2.2 _ _ (fun q => by unfold GD cR fR at q; omega), c1.2.2.2 (50 + s) _ (fun q => by unfold GD cR fR at q; omega), s1.2.2.2 24 rfl, s1.2.2.2 25 rfl]
      exact a3 k hk
  · refine rWind.mo (agr_cS c1 (fun r k d q => by unfold dWind at d; unfold GL cR fR at q; omega) (fun r k d q => by unfold dWind at d; unfold GD cR fR at q; omega)) (agr_zS s1 (fun _ _ _ => rfl) (fun r k d => (xR_f (by unfold dWindM at d; omega)).1) (fun r k d => (xR_f (by unfold dWindM at d; omega)).2)) hW
  · rw [c7, s7, ht.1]
  · rw [c1.2.2.1 _ _ (fun q => by unfold GL cR fR at q; omega), s5 14 (by decide)]
    exact ht.2.1
  · rw [c6, rv, s4, ht.2.2]
  · obtain ⟨T, t0, t1, t2, t3, t4, t5, t6⟩ := hne
    have ec : ∀ i, s_cnt ρ i = s_cnt μ i := fun i => by unfold s_cnt; rw [RI.2]
    refine ⟨T, t0, ?_, ?_, fun i h1 h2 => ?_, fun i hi => ?_, fun i hi c hc => ?_, fun x y hx hy => ⟨?_, fun n hn => ?_⟩⟩
    · rw [RI.2]
      exact t1
    · rw [s1.2.1 0 rfl]
      exact t2
    · rw [RI.1]
      refine ⟨(t3 i h1 h2).1, fun k hk => ?_⟩
      rw [c8 i h2 (fun x hx q => by
        obtain ⟨g1, g2, g3⟩ := gm hx
        rw [g3] at q
        obtain ⟨i', hi', e, _⟩ := (t6 (x % w) (x / w) g1 g2).2 _ q
        omega)]
      exact (t3 i h1 h2).2 k hk
    · rw [RI.1, s1.2.1 31 rfl]
      exact t4 i hi
    · rw [RI.1] at hc
      obtain ⟨x, y, hx, hy, rfl, e1, e2, e3, e4, e5⟩ := t5 i hi c hc
      refine ⟨x, y, hx, hy, rfl, ?_, ?_, ?_, ?_, ?_⟩
      · rw [RI.1]
        exact e1
      · rw [s1.2.1 29 rfl]
        exact e2
      · rw [ec]
        exact e3
      · rw [ec]
        exact e4
      · rw [ec, c3 (y * w + x) i (glt hx hy) hi e1, e5, Int64.add_comm, Int64.sub_add_cancel]
    · rw [RI.1, s1.2.1 30 rfl]
      exact (t6 x y hx hy).1
    · rw [RI.1] at hn
      obtain ⟨i, hi, rfl, e⟩ := (t6 x y hx hy).2 n hn
      refine ⟨i, hi, rfl, ?_⟩
      rw [RI.1]
      exact e
  · exact rGauge.mo hd (agr_cS c1 (fun r k d q => by unfold dGauge cR at d; unfold GL cR fR at q; omega) (fun r k d q => by unfold dGauge cR at d; unfold GD cR fR at q; omega)) (agr_zS s1 (fun _ _ _ => rfl) (fun r k d => (xR_f (by unfold dGaugeM at d; omega)).1) (fun r k d => (xR_f (by unfold dGaugeM at d; omega)).2)) (by rw [s1.2.1 0 rfl]) hga
  · exact rFit.mo (agr_cS c1 (fun r k d q => by unfold dFit at d; unfold GL cR fR at q; omega) (fun r k d q => by unfold dFit at d; unfold GD cR fR at q; omega)) (agr_zS s1 (fun _ _ _ => rfl) (fun r k d => (xR_f (by unfold dFitM at d; omega)).1) (fun r k d => (xR_f (by unfold dFitM at d; omega)).2)) (by rw [s1.2.1 0 rfl]) hfi
  · exact rSave.mo hd (by omega) (agr_cS c1 (fun r k d q => by unfold dSave at d; unfold GL cR fR at q; omega) (fun r k d q => by unfold dSave at d; unfold GD cR fR at q; omega)) (agr_zS s1 (fun _ _ _ => rfl) (fun r k d => (xR_f (by unfold dSaveM at d; omega)).1) (fun r k d => (xR_f (by unfold dSaveM at d; omega)).2)) (by rw [s1.2.1 0 rfl]) (by rw [s1.2.1 0 rfl]) hsa
  · intro c h1 h2
    obtain ⟨a1, a2⟩ := hou c h1 h2
    refine ⟨?_, fun T hT => ?_⟩
    · have e : cOf σ c = cOf m c := s3 c (fun j hj i hi => by have := hd.2.1; omega)
      have e7 : zL σ 7 c = zL m 7 c := congrArg (fun q : CV => q.1) e
      rw [e7]
      exact a1
    · rw [s1.2.2.1 43 rfl]
      exact a2 T hT
/-! inside of a range -/
theorem s_in {v a c : UInt64} (h : ¬ s_inside v a c = 0) (ha : zfi a) (hc : zfi c) : zfi v ∧ zv a ≤ zv v ∧ zv v ≤ zv c := by
  unfold s_inside at h
  by_cases h1 : zge v a = true
  · rw [if_pos h1] at h
    by_cases h2 : zle v c = true
    · have nn : FP.Core.val64 v ≠ .nan := by
        intro e
        unfold zge at h1
        have : FP.dcmp v a = none := by
          show FP.Core.order (FP.Core.val64 v) (FP.Core.val64 a) = none
          rw [e]
          rfl
        rw [this] at h1
        exact absurd h1 (by decide)
      have g1 := (zge_iff nn (zfi_nn ha)).mp h1
      have g2 := (zle_iff nn (zfi_nn hc)).mp h2
      exact ⟨zfi_of nn (zRep_zv hc) (zRep_zv ha) g2 g1, g1, g2⟩
    · rw [if_neg h2] at h
      exact absurd rfl h
  · rw [if_neg h1] at h
    exact absurd rfl h
theorem zk_600 : zv k600 = 600 * zU := by decide +kernel
theorem hh_in {v : UInt64} (h : ¬ s_inside v k1 k600 = 0) : zHh v := by
  obtain ⟨a, b, c⟩ := s_in h (zfk k1 (by decide +kernel)) (zfk k600 (by decide +kernel))
  rw [zk_1] at b
  rw [zk_600] at c
  exact ⟨a, b, c⟩
theorem hour_rel {n w h : Nat} {μ m : ZMem} (ht : rTime μ m) (hN : NI n w h m) (hn : n < 2 ^ 17) : s_hour μ = t_hour m ∧ t_hok m := by
  obtain ⟨a, b, c⟩ := hN.2.2.2.2.2.2.m hn
  have hU := zU_pos
  have k36 : zv k3600 = 3600 * zU := by decide +kernel
  have f36 : zfi k3600 := zfk k3600 (by decide +kernel)
  have hd : 0 ≤ (FP.d2l (zdiv (zD m 0 13) k3600)).toInt := by
    have m1 : 0 ≤ zv (zD m 0 13) * zU := Int.mul_nonneg b (by omega)
    have m2 : zv (zD m 0 13) * zU ≤ 549755813888 * zU * zU := Int.mul_le_mul_of_nonneg_right c (by omega)
    have m3 : 549755813888 * zU * zU ≤ 549755813888 * zU * zv k3600 := Int.mul_le_mul_of_nonneg_left (by omega) (by omega)
    obtain ⟨z1, z2, z3⟩ := zB_div a f36 (by omega) (V := 549755813888 * zU) (W := 0) (zRn 549755813888 (by decide) rfl) zRep_0 (by omega) (by omega)
    exact (zd2l_s z1).2 z3
  have e : s_fmod (FP.d2l (zdiv (zD m 0 13) k3600)) 24 = FP.d2l (zdiv (zD m 0 13) k3600) - FP.d2l (zdiv (zD m 0 13) k3600) / 24 * 24 := by
    generalize FP.d2l (zdiv (zD m 0 13) k3600) = x at *
    obtain ⟨d, r, r1, r2, r3, r4⟩ := zrem24 x
    have h0 := r3 hd
    unfold s_fmod
    have hx : ¬ (x ^^^ 24) < 0 := by
      rw [zi_lt, zi_0]
      have : 0 ≤ (x ^^^ 24).toInt := by
        have e1 : (x ^^^ 24).toInt = (x.toBitVec ^^^ (24 : Int64).toBitVec).toInt := by
          rw [← Int64.toBitVec_xor]
          rfl
        rw [e1]
        have m0 : x.toBitVec.msb = false := by
          rw [BitVec.msb_eq_toInt]
          have : x.toBitVec.toInt = x.toInt := rfl
          rw [this]
          simp
          omega
        have m1 : (x.toBitVec ^^^ (24 : Int64).toBitVec).msb = false := by
          rw [BitVec.msb_xor, m0]
          decide
        rw [BitVec.msb_eq_toInt] at m1
        have m2 := of_decide_eq_false m1
        omega
      omega
    rw [if_neg hx]
  have hr := s_hour_in μ
  have eh : s_hour μ = t_hour m := by
    unfold s_hour t_hour t_hraw
    rw [ht.1, e]
  refine ⟨eh, ?_, ?_⟩
  · rw [← eh]
    exact hr.1
  · rw [← eh, ← hr.2, ht.1, e]
    rfl
theorem run_rel {n w h : Nat} {ly : Int32} {μ m : ZMem} (H : REL n w h ly μ m) (hn : n + 200 < 2 ^ 17) (x : Int32) (v : UInt64) : s_run x v = t_run x v ∧ REL (n + 200) w h ly (u_run μ (w * h) (fcA w h) x v) (q_run w h x v m) ∧ (¬ t_run x v < 0 → ∀ k, k < x.toNatClampNeg → t_hok (zit (q_stepH w h v) k m)) := by
  have e : s_run x v = t_run x v := rfl
  by_cases g : t_run x v < 0
  · refine ⟨e, ?_, fun q => absurd g q⟩
    unfold u_run q_run
    rw [if_pos (by rw [e]; exact g), if_pos g]
    exact REL.up (by omega) H
  · have hx : ¬ x < 0 ∧ ¬ 200 < x ∧ ¬ s_inside v k1 k600 = 0 := by
      unfold t_run at g
      by_cases a : x < 0
      · rw [if_pos a] at g
        exact absurd (by decide) g
      · rw [if_neg a] at g
        by_cases b : 200 < x
        · rw [if_pos b] at g
          exact absurd (by decide) g
        · rw [if_neg b] at g
          by_cases c : s_inside v k1 k600 = 0
          · rw [if_pos c] at g
            exact absurd (by decide) g
          · exact ⟨a, b, c⟩
    obtain ⟨x0, x1, x2⟩ := hx
    obtain ⟨N, hN, rfl⟩ := nI_of2 (M := 200) (n := 200) (by decide) x0 (Int32.not_lt.mp x1)
    have hv := hh_in x2
    have st : ∀ k, k ≤ N → REL (n + k) w h ly (zit (u_stepH (w * h) (fcA w h) v) k μ) (zit (q_stepH w h v) k m) := by
      intro k
      induction k with
      | zero => exact fun _ => H
      | succ k ih =>
        intro hk
        have I := ih (by omega)
        obtain ⟨e1, e2⟩ := hour_rel I.2.2.2.2.2.1 I.2.2.2.2.2.2.1 (by omega)
        have S := REL_step I (by omega) hv (hr := t_hour (zit (q_stepH w h v) k m)) e2.1
        show REL (n + k + 1) w h ly (u_step (w * h) (fcA w h) (s_hour (zit (u_stepH (w * h) (fcA w h) v) k μ)) v (zit (u_stepH (w * h) (fcA w h) v) k μ)) (q_step w h (t_hour (zit (q_stepH w h v) k m)) v (zit (q_stepH w h v) k m))
        rw [e1]
        exact S
    refine ⟨e, ?_, fun _ k hk => ?_⟩
    · unfold u_run q_run
      rw [if_neg (by rw [e]; exact g), if_neg g, nI_clamp (by omega)]
      exact REL.up (by omega) (st N (Nat.le_refl N))
    · rw [nI_clamp (by omega)] at hk
      have I := st k (by omega)
      exact (hour_rel I.2.2.2.2.2.1 I.2.2.2.2.2.2.1 (by omega)).2
