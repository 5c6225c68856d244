/-! the two steps side by side -/
theorem rivers_rel {n w h hr : Nat} {v : UInt64} {μ ν κ : ZMem} (C : rCx n w h hr v μ ν) (K : kCx w h hr v ν κ) (x : Int64) : zit (fun k s => s + s_take μ (1000 + k) v) (w * h) x = zit (fun j s => zit (fun i s => s + gRiv κ w h v i j) w s) h x := by
  obtain ⟨⟨hd, hn, hh, hhr, hN⟩, hg, hC, _⟩ := id C
  rw [zit_grid (fun k s => s + s_take μ (1000 + k) v) (by have := hd.1; omega)]
  refine zit_cg _ _ (fun j y hj => zit_cg _ _ (fun i z hi => ?_))
  have R := hC j hj i hi
  have W := hWt (m := ν) hd hi hj
  obtain ⟨_, _, _, _, _, k6⟩ := K.2.1 j hj i hi
  show z + s_take μ (1000 + (j * w + i)) v = z + gRiv κ w h v i j
  unfold s_take gRiv p_riv
  rw [wt_cg K.1, R.1, k6, R.2.2.2.2.2.2]
  unfold wtr at W
  by_cases e : zI ν 4 (12 * j + i) = 0
  · rw [if_pos e]
    by_cases f : t_isWater ν w h (nI i) (nI j) = 0
    · rw [if_pos f]
    · exact absurd e (W.mp f)
  · rw [if_neg e, if_neg (W.mpr e)]
theorem cRel_0 {n w h hr : Nat} {v : UInt64} {μ ν κ : ZMem} (C : rCx n w h hr v μ ν) (K : kCx w h hr v ν κ) {i j : Nat} (hi : i < w) (hj : j < h) : cRel ((zL μ (1000 + (j * w + i)) 2, zmul (zD μ (1000 + (j * w + i)) 3) (FP.l2d (zL μ (1000 + (j * w + i)) 2)), zmul (zD μ (1000 + (j * w + i)) 4) (FP.l2d (zL μ (1000 + (j * w + i)) 2))), 0) (c0 κ (12 * j + i)) := by
  obtain ⟨p1, p2, p3, p4⟩ := wc_rel C K hi hj
  obtain ⟨⟨hd, hn, hh, hhr, hN⟩, hg, hC, _⟩ := id C
  obtain ⟨k1, k2, _⟩ := K.2.1 j hj i hi
  have R := (hC j hj i hi).2.2.1
  unfold cRel c0
  refine ⟨?_, ?_, ?_, zq.rf 0, zfi_0, zcn_cn _, zcn_cn _, show zcn 0 = 0 by decide +kernel⟩
  · show zL μ (1000 + (j * w + i)) 2 = zL κ 7 (12 * j + i)
    rw [R, k2]
  · show zq (zmul _ (FP.l2d (zL μ (1000 + (j * w + i)) 2))) (zmul _ (FP.l2d (zL κ 16 (12 * j + i))))
    rw [R, k1]
    exact zq_mul p1 (zq.rf _)
  · show zq (zmul _ (FP.l2d (zL μ (1000 + (j * w + i)) 2))) (zmul _ (FP.l2d (zL κ 16 (12 * j + i))))
    rw [R, k1]
    exact zq_mul p2 (zq.rf _)
/-- two cells' contents -/
def kRel (a b : CV) : Prop := a.1 = b.1 ∧ zq a.2.1 b.2.1 ∧ zq a.2.2.1 b.2.2.1 ∧ zq a.2.2.2 b.2.2.2
theorem end_rel {wat : Int32} {riv v mud mud' wm wm' sl sl' : UInt64} {s : SV} {y : CV} (hw : ¬ wat = 0) (hR : cRel s y) (h1 : zq mud mud') (h2 : zq wm wm') (h3 : zq sl sl') : kRel (c_end wat riv v mud wm sl s.2 s.1) (p_end v riv mud' wm' sl' y) := by
  obtain ⟨r1, r2, r3, r4, _, _, _, _⟩ := hR
  unfold c_end p_end kRel
  rw [if_neg hw]
  simp only []
  have e : s.1.1 + FP.d2l (zmul riv v) = y.1 + FP.d2l (zmul riv v) := by rw [r1]
  rw [e, zq_gt r4 (zq.rf k02)]
  refine ⟨rfl, ?_, ?_, ?_⟩
  · by_cases g : 0 < y.1 + FP.d2l (zmul riv v)
    · rw [if_pos g, if_pos g]
      exact zq_div _ (zq_add r2 (zq.rf _))
    · rw [if_neg g, if_neg g]
      exact h2
  · by_cases g : 0 < y.1 + FP.d2l (zmul riv v)
    · rw [if_pos g, if_pos g]
      exact zq_div _ (zq_add r3 (zq.rf _))
    · rw [if_neg g, if_neg g]
      exact h3
  · by_cases g : zgt y.2.2.2 k02 = true
    · rw [if_pos g, if_pos g]
      exact zq_add h1 (zq_mul (zq.rf _) (zq_sub r4 (zq.rf _)))
    · rw [if_neg g, if_neg g]
      exact h1
theorem land_rel {riv v mud wm sl : UInt64} {s : SV} {y : CV} (hR : cRel s y) (hy : y.1 = 0) (hf : y.2.2.2 = 0) : c_end 0 riv v mud wm sl s.2 s.1 = (0, wm, sl, mud) := by
  obtain ⟨r1, _, _, r4, _⟩ := hR
  have e0 : s.1.1 = 0 := r1.trans hy
  have e1 : zgt s.2 k02 = false := by
    rw [zq_gt r4 (zq.rf k02), hf]
    decide +kernel
  unfold c_end
  rw [if_pos rfl]
  simp only []
  rw [e0, e1, if_neg (by decide), if_neg (by decide), if_neg (by decide)]
theorem kcell_rel {n w h hr : Nat} {v : UInt64} {μ ν : ZMem} (C : rCx n w h hr v μ ν) (hB : nB (w * h) μ) {i j : Nat} (hi : i < w) (hj : j < h) : kRel (kOf (u_step (w * h) (fcA w h) hr v μ) (1000 + (j * w + i))) (cOf (q_step w h hr v ν) (12 * j + i)) := by
  obtain ⟨⟨hd, hn, hh, hhr, hN⟩, hg, hC, _⟩ := id C
  have K := mKap_cx (ν := ν) hd hr v
  have hk := glt hi hj
  obtain ⟨_, c2, _⟩ := cstep_pt (hr := hr) (v := v) hd hg.2.2 hg.1 hg.2.1 hB
  obtain ⟨_, s2, _⟩ := step_pt (ν := ν) hd hr v
  rw [c2 _ hk, s2 j hj i hi]
  have hz := cell_rel C K hi hj (cRel_0 C K hi hj)
  have ez := c_all_it w h (q_fl μ (mBeg (w * h) μ) w h hr v) (fun r => zD μ r 3) (fun r => zD μ r 4) (fun n => s_exists μ (2000 + n)) (e_sp (mBeg (w * h) μ) w h hr v) (j * w + i) (zL μ (1000 + (j * w + i)) 2, zmul (zD μ (1000 + (j * w + i)) 3) (FP.l2d (zL μ (1000 + (j * w + i)) 2)), zmul (zD μ (1000 + (j * w + i)) 4) (FP.l2d (zL μ (1000 + (j * w + i)) 2))) 0 (fcA w h)
  have hz2 : cRel (x_tv μ (mBeg (w * h) μ) w h hr v (j * w + i), x_fa μ (mBeg (w * h) μ) w h hr v (j * w + i)) (zit (p_port (mKap w h hr v ν) w h i j) 8 (c0 (mKap w h hr v ν) (12 * j + i))) := by
    unfold cAll at hz
    rw [ez] at hz
    exact hz
  generalize mKap w h hr v ν = κ at *
  obtain ⟨k1, k2, k3, k4, k5, k6⟩ := K.2.1 j hj i hi
  obtain ⟨R0, _, R2, R3, R4, R5, R6⟩ := hC j hj i hi
  have W := hWt (m := ν) hd hi hj
  unfold p_new
  rw [wt_cg K.1]
  by_cases f : t_isWater ν w h (nI i) (nI j) = 0
  · rw [if_pos f, k5]
    have nw : ¬ wtr ν i j := fun q => (W.mpr q) f
    have z4 : zI ν 4 (12 * j + i) = 0 := Classical.byContradiction nw
    have pid : zit (p_port κ w h i j) 8 (c0 κ (12 * j + i)) = c0 κ (12 * j + i) := by
      have hp := (port_b (C.1) K hi hj).2.2.2.2.2
      rw [zit_ids (a := 0) 8 (by omega) (fun p _ hp8 x => ?_) _]
      · rfl
      · by_cases e : pE κ w h i j p = 0
        · rw [pp_eq, if_pos e]
        · exact absurd ((hp p hp8).2 e).2.2 nw
    rw [pid] at hz2
    have v0 : zL ν 7 (12 * j + i) = 0 := (hN.1 j hj i hi).2.1 nw
    have y1 : (c0 κ (12 * j + i)).1 = 0 := by
      show zL κ 7 (12 * j + i) = 0
      rw [k2, v0]
    rw [R0, z4, land_rel hz2 y1 rfl]
    refine ⟨?_, R3, R4, R5⟩
    show 0 = zL ν 7 (12 * j + i)
    rw [v0]
  · rw [if_neg f]
    have w1 : wtr ν i j := W.mp f
    unfold p_cell p_sum
    have e6 : zD κ 6 (12 * j + i) = zD μ (1000 + (j * w + i)) 6 := by rw [k6, R6]
    have e8 : zD κ 8 (12 * j + i) = zD ν 8 (12 * j + i) := congrArg (fun q : CV => q.2.1) k5
    have e9 : zD κ 9 (12 * j + i) = zD ν 9 (12 * j + i) := congrArg (fun q : CV => q.2.2.1) k5
    have e10 : zD κ 10 (12 * j + i) = zD ν 10 (12 * j + i) := congrArg (fun q : CV => q.2.2.2) k5
    rw [e6, e8, e9, e10]
    exact end_rel (by rw [R0]; exact w1) hz2 R5 R3 R4
/-- what comes over a side -/
theorem cam_seg {w h s : Nat} {Q : Nat → Int64} (hd : zDim w h) (hs : s < 4) (x : Int64) : zit (c_cam w h Q s) (fcA w h) x = zit (fun t y => y + (if s = 0 ∨ s = 2 then Q (nSd4 w h s t) else -(Q (nSd4 w h s t)))) (if s < 2 then h else w) x := by
  have idn : ∀ m, m < fcA w h → (m < cs4 w h s ∨ cs4 w h (s + 1) ≤ m) → ∀ y, c_cam w h Q s m y = y := by
    intro m hm ho y
    have ns : ¬ fSid w h m = some (30 + s) := by
      intro q
      rcases fCases hd hm with ⟨i, j, hi, hj, rfl⟩ | ⟨i, j, hi, hj, rfl⟩ | ⟨s', t, hs', ht, rfl⟩
      · rw [(face_A0 hd hi hj).2.2.1] at q
        exact absurd q (by simp)
      · rw [(face_A1 hd hi hj).2.2.1] at q
        exact absurd q (by simp)
      · rw [(face_S hd hs' ht).2.2.1] at q
        have e := Option.some.inj q
        have e2 : s' = s := by omega
        subst e2
        have := cs4_in hs ht
        omega
    unfold c_cam
    rw [if_neg ns]
    simp
  have b0 : cs4 w h s ≤ fcA w h := by
    unfold cs4 fcA
    rcases (show s = 0 ∨ s = 1 ∨ s = 2 ∨ s = 3 by omega) with rfl | rfl | rfl | rfl <;> simp <;> omega
  have b1 : cs4 w h (s + 1) ≤ fcA w h := by
    unfold cs4 fcA
    rcases (show s = 0 ∨ s = 1 ∨ s = 2 ∨ s = 3 by omega) with rfl | rfl | rfl | rfl <;> simp <;> omega
  have b2 : cs4 w h (s + 1) = cs4 w h s + (if s < 2 then h else w) := by
    unfold cs4
    rcases (show s = 0 ∨ s = 1 ∨ s = 2 ∨ s = 3 by omega) with rfl | rfl | rfl | rfl <;> simp <;> omega
  rw [zit_ids (a := cs4 w h (s + 1)) _ b1 (fun m m1 hm => idn m hm (Or.inr m1)), b2, Nat.add_comm, Nat.add_comm _ (cs4 w h s), zit_add, zit_ids (a := 0) _ (Nat.zero_le _) (fun m _ hm => idn m (by omega) (Or.inl hm))]
  refine zit_cg _ _ (fun t y ht => ?_)
  have en : t + cs4 w h s = nSd4 w h s t := by
    unfold cs4 nSd4
    rcases (show s = 0 ∨ s = 1 ∨ s = 2 ∨ s = 3 by omega) with rfl | rfl | rfl | rfl <;> simp <;> omega
  show c_cam w h Q s (t + cs4 w h s) y = _
  rw [en]
  obtain ⟨f1, f2, f3, _⟩ := face_S hd hs ht
  unfold c_cam
  rw [f3, if_pos rfl]
  unfold x_in x_fr
  rw [f1, f2]
  generalize Q (nSd4 w h s t) = q
  by_cases z : s = 0 ∨ s = 2
  · rw [if_pos z, if_pos z, if_pos z]
    unfold s_abs
    by_cases e : q = 0
    · rw [if_pos e, e, Int64.add_zero]
    · rw [if_neg e]
      by_cases g : q < 0
      · rw [if_pos g, if_pos g]
        show y + - -q = y + q
        rw [Int64.neg_neg]
      · rw [if_neg g, if_neg g]
  · rw [if_neg z, if_neg z, if_neg z]
    unfold s_abs
    by_cases e : q = 0
    · rw [if_pos e, e, show (-(0 : Int64)) = 0 by decide, Int64.add_zero]
    · rw [if_neg e]
      by_cases g : q < 0
      · rw [if_pos g, if_pos g]
      · rw [if_neg g, if_neg g]
theorem ov_one {f : Nat → Int64} {w a : Nat} (ha : a < w) (H : ∀ i, i < w → i ≠ a → f i = 0) (x : Int64) : zit (fun i s => s + f i) w x = x + f a := by
  rw [zit_one (a := 0) (t := a) (Nat.zero_le _) ha (fun m _ hm ne y => by
    show y + f m = y
    rw [H m hm ne, Int64.add_zero]) x]
  rfl
theorem gOv_e {n w h hr : Nat} {v : UInt64} {μ ν κ : ZMem} (C : rCx n w h hr v μ ν) (K : kCx w h hr v ν κ) {i j s : Nat} (hi : i < w) (hj : j < h) (hs : s < 4) : (¬ atP w h i j s → gOv κ w h s i j = 0) ∧ (atP w h i j s → gOv κ w h s i j = if s = 0 ∨ s = 2 then zL κ 19 (sfN i j s) else -(zL κ 19 (sfN i j s))) := by
  have hd := C.1.1
  have S := hSd (m := ν) hd hi hj hs
  have W := hWt (m := ν) hd hi hj
  have ec : t_comes κ (sfN i j s) s = if s = 0 ∨ s = 2 then zL κ 19 (sfN i j s) else -(zL κ 19 (sfN i j s)) := by
    rcases (show s = 0 ∨ s = 1 ∨ s = 2 ∨ s = 3 by omega) with rfl | rfl | rfl | rfl <;> rfl
  unfold gOv pM
  rw [wt_cg K.1, pE_s, pN_s, hs_cg K.1, ec]
  refine ⟨fun na => ?_, fun ha => ?_⟩
  · have e : t_hasSide ν w h (nI i) (nI j) s = 0 := Classical.byContradiction (fun q => na (S.mp q).2.1)
    rw [if_pos e]
    split <;> rfl
  · have F := (fS_b C.1 hi hj (K.2.2 j hj i hi) hs ha).1
    by_cases e : t_hasSide ν w h (nI i) (nI j) s = 0
    · rw [if_pos e, F e]
      split <;> split <;> rfl
    · rw [if_neg e, if_neg (W.mpr (S.mp e).1)]
theorem over_rel {n w h hr : Nat} {v : UInt64} {μ ν κ : ZMem} (C : rCx n w h hr v μ ν) (K : kCx w h hr v ν κ) {s : Nat} (hs : s < 4) (x : Int64) : zit (c_cam w h (q_fl μ (mBeg (w * h) μ) w h hr v) s) (fcA w h) x = zit (fun j s' => zit (fun i s' => s' + gOv κ w h s i j) w s') h x := by
  have hd := C.1.1
  obtain ⟨d1, d2, d3, d4⟩ := id hd
  rw [cam_seg hd hs]
  have key : ∀ t, t < (if s < 2 then h else w) → (if s = 0 ∨ s = 2 then q_fl μ (mBeg (w * h) μ) w h hr v (nSd4 w h s t) else -(q_fl μ (mBeg (w * h) μ) w h hr v (nSd4 w h s t))) = gOv κ w h s (sI w s t) (sJ h s t) := fun t ht => by
    obtain ⟨a, b, c, _⟩ := sIJ hd hs ht
    rw [(gOv_e C K a b hs).2 c, (frel_S C K hs ht).2.1]
  by_cases l : s < 2
  · have eh : (if s < 2 then h else w) = h := if_pos l
    rw [eh] at key ⊢
    refine zit_cg _ _ (fun j y hj => ?_)
    show y + _ = zit (fun i s' => s' + gOv κ w h s i j) w y
    rw [key j hj]
    obtain ⟨a, b, c, _⟩ := sIJ (t := j) hd hs (by rw [eh]; exact hj)
    have ej : sJ h s j = j := if_pos l
    rw [ej] at b c ⊢
    rw [ov_one (f := fun i => gOv κ w h s i j) a (fun i hi ne => (gOv_e C K hi hj hs).1 (fun q => ne (by
      unfold atP at q
      unfold sI
      rcases (show s = 0 ∨ s = 1 by omega) with rfl | rfl <;> simp at q ⊢ <;> omega))) y]
  · have ew : (if s < 2 then h else w) = w := if_neg l
    rw [ew] at key ⊢
    have j0 : ∃ j0, j0 < h ∧ (∀ t, sJ h s t = j0) ∧ ∀ i j, atP w h i j s → j = j0 := by
      unfold sJ atP
      rcases (show s = 2 ∨ s = 3 by omega) with rfl | rfl
      · exact ⟨0, by omega, fun t => by simp, fun i j q => by omega⟩
      · exact ⟨h - 1, by omega, fun t => by simp, fun i j q => by omega⟩
    obtain ⟨j0, h0, h1, h2⟩ := j0
    have out : ∀ j, j < h → j ≠ j0 → ∀ y : Int64, zit (fun i s' => s' + gOv κ w h s i j) w y = y := fun j hj ne y => by
      rw [zit_ids (a := 0) w (Nat.zero_le _) (fun i _ hi y => by
        show y + gOv κ w h s i j = y
        rw [(gOv_e C K hi hj hs).1 (fun q => ne (h2 i j q)), Int64.add_zero]) y]
      rfl
    rw [zit_one (c := fun j s' => zit (fun i s' => s' + gOv κ w h s i j) w s') (a := 0) (t := j0) (Nat.zero_le _) h0 (fun j _ hj ne y => out j hj ne y) x]
    show _ = zit (fun i s' => s' + gOv κ w h s i j0) w x
    refine zit_cg _ _ (fun i y hi => ?_)
    show y + _ = y + gOv κ w h s i j0
    rw [key i hi, h1]
    have ei : sI w s i = i := by
      unfold sI
      rw [if_neg (by omega), if_neg (by omega)]
    rw [ei]
