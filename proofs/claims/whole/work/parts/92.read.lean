/-! what the calls that only read answer -/
theorem cell_cases {w h : Nat} (hd : zDim w h) (x y : Int32) : (s_cellAt w h x y = none ∧ t_isCell w h x y = 0) ∨ ∃ i j, i < w ∧ j < h ∧ x = nI i ∧ y = nI j ∧ s_cellAt w h x y = some (1000 + (j * w + i)) ∧ t_isCell w h x y = 1 ∧ x.toNatClampNeg = i ∧ y.toNatClampNeg = j := by
  obtain ⟨d1, d2, d3, d4⟩ := hd
  by_cases e : t_isCell w h x y = 0
  · refine Or.inl ⟨?_, e⟩
    cases q : s_cellAt w h x y with
    | none => rfl
    | some c =>
      obtain ⟨i, j, hi, hj, rfl, rfl, _⟩ := s_cellAt_in d2 d4 q
      rw [t_isCell_nI d2 d4 hi hj] at e
      exact absurd e (by decide)
  · obtain ⟨i, j, hi, hj, rfl, rfl⟩ := t_isCell_in d2 d4 e
    refine Or.inr ⟨i, j, hi, hj, rfl, rfl, ?_, t_isCell_nI d2 d4 hi hj, nI_clamp (by omega), nI_clamp (by omega)⟩
    unfold s_cellAt
    rw [if_neg (nI_pos (by omega)), if_neg (nI_ge hi (by omega)), if_neg (nI_pos (by omega)), if_pos (nI_lt hj (by omega)), nI_clamp (by omega), nI_clamp (by omega)]
theorem water_cases {w h : Nat} {μ m : ZMem} (hd : zDim w h) (hC : rCells w h μ m) (x y : Int32) : (s_waterAt μ w h x y = none ∧ t_isWater m w h x y = 0) ∨ ∃ i j, i < w ∧ j < h ∧ x = nI i ∧ y = nI j ∧ s_waterAt μ w h x y = some (1000 + (j * w + i)) ∧ ¬ t_isWater m w h x y = 0 ∧ x.toNatClampNeg = i ∧ y.toNatClampNeg = j ∧ wtr m i j := by
  rcases cell_cases hd x y with ⟨a, b⟩ | ⟨i, j, hi, hj, hx, hy, a, b, cx, cy⟩
  · refine Or.inl ⟨?_, ?_⟩
    · unfold s_waterAt
      rw [a]
    · unfold t_isWater
      rw [if_pos b]
  · have R := (hC j hj i hi).1
    have W := hWt (m := m) hd hi hj
    by_cases e : zI m 4 (12 * j + i) = 0
    · refine Or.inl ⟨?_, ?_⟩
      · unfold s_waterAt
        rw [a]
        show (if zI μ (1000 + (j * w + i)) 0 = 0 then none else some (1000 + (j * w + i))) = none
        rw [R, if_pos e]
      · rw [hx, hy]
        exact Classical.byContradiction (fun q => (W.mp q) e)
    · refine Or.inr ⟨i, j, hi, hj, hx, hy, ?_, ?_, cx, cy, e⟩
      · unfold s_waterAt
        rw [a]
        show (if zI μ (1000 + (j * w + i)) 0 = 0 then none else some (1000 + (j * w + i))) = _
        rw [R, if_neg e]
      · rw [hx, hy]
        exact W.mpr e
theorem level_rel {w h : Nat} {μ m : ZMem} (hd : zDim w h) (hC : rCells w h μ m) (x y : Int32) : s_level μ w h x y = t_level m w h x y := by
  unfold s_level t_level
  rcases water_cases hd hC x y with ⟨a, b⟩ | ⟨i, j, hi, hj, hx, hy, a, b, cx, cy, _⟩
  · rw [a, if_pos b]
  · rw [a, if_neg b, cx, cy]
    exact surf_rel (hC j hj i hi)
theorem warm_rel {w h : Nat} {μ m : ZMem} (hd : zDim w h) (hC : rCells w h μ m) (ly x y z : Int32) : zq (s_warm μ w h ly x y z) (t_warm m w h ly x y z) := by
  unfold s_warm t_warm
  rcases water_cases hd hC x y with ⟨a, b⟩ | ⟨i, j, hi, hj, hx, hy, a, b, cx, cy, _⟩
  · rw [a, if_pos b]
    exact zq.rf _
  · rw [a, if_neg b, cx, cy]
    by_cases l : s_isLayer ly z = 0
    · rw [if_pos l]
      show zq (if s_isLayer ly z = 0 then kNo else _) _
      rw [if_pos l]
      exact zq.rf _
    · rw [if_neg l]
      show zq (if s_isLayer ly z = 0 then kNo else _) _
      rw [if_neg l]
      exact zq_sub (hC j hj i hi).2.2.2.1 (zq.rf _)
theorem salt_rel {w h : Nat} {μ m : ZMem} (hd : zDim w h) (hC : rCells w h μ m) (ly x y z : Int32) : zq (s_salt μ w h ly x y z) (t_salt m w h ly x y z) := by
  unfold s_salt t_salt
  rcases water_cases hd hC x y with ⟨a, b⟩ | ⟨i, j, hi, hj, hx, hy, a, b, cx, cy, _⟩
  · rw [a, if_pos b]
    exact zq.rf _
  · rw [a, if_neg b, cx, cy]
    by_cases l : s_isLayer ly z = 0
    · rw [if_pos l]
      show zq (if s_isLayer ly z = 0 then kNo else _) _
      rw [if_pos l]
      exact zq.rf _
    · rw [if_neg l]
      show zq (if s_isLayer ly z = 0 then kNo else _) _
      rw [if_neg l]
      exact zq_add (hC j hj i hi).2.2.2.2.1 (zq.rf _)
theorem dry_rel {w h : Nat} {μ m : ZMem} (hd : zDim w h) (hC : rCells w h μ m) (x y : Int32) : s_dry μ w h x y = t_dry m w h x y := by
  unfold s_dry t_dry
  rcases water_cases hd hC x y with ⟨a, b⟩ | ⟨i, j, hi, hj, hx, hy, a, b, cx, cy, _⟩
  · rw [a, if_pos b]
  · rw [a, if_neg b, cx, cy]
    show (if s_isDry μ (1000 + (j * w + i)) = 0 then 0 else 1 : Int32) = _
    unfold s_isDry
    rw [(hC j hj i hi).2.2.1]
    by_cases g : zL m 7 (12 * j + i) < 50
    · rw [if_pos g]
      rfl
    · rw [if_neg g]
      rfl
theorem mud_rel {w h : Nat} {μ m : ZMem} (hd : zDim w h) (hC : rCells w h μ m) (x y : Int32) : zq (s_mud μ w h x y) (t_mud m w h x y) := by
  unfold s_mud t_mud
  rcases water_cases hd hC x y with ⟨a, b⟩ | ⟨i, j, hi, hj, hx, hy, a, b, cx, cy, _⟩
  · rw [a, if_pos b]
    exact zq.rf _
  · rw [a, if_neg b, cx, cy]
    exact (hC j hj i hi).2.2.2.2.2.1
theorem ice_rel {w h : Nat} {μ m : ZMem} (hd : zDim w h) (hC : rCells w h μ m) (x y : Int32) : zq (s_ice μ w h x y) (t_ice m w h x y) := by
  unfold s_ice t_ice
  rcases water_cases hd hC x y with ⟨a, b⟩ | ⟨i, j, hi, hj, hx, hy, a, b, cx, cy, _⟩
  · rw [a, if_pos b]
    exact zq.rf _
  · rw [a, if_neg b, cx, cy]
    have e : zq (s_iceV μ (1000 + (j * w + i))) (t_iceV m (12 * j + i)) := zq_mul (zq_sub (zq.rf _) (zq_add (zq.rf _) (hC j hj i hi).2.2.2.1)) (zq.rf _)
    show zq (s_clampI (s_iceV μ (1000 + (j * w + i)))) _
    unfold s_clampI
    rw [zq_lt e (zq.rf 0), zq_gt e (zq.rf k1)]
    by_cases g1 : zlt (t_iceV m (12 * j + i)) 0 = true
    · rw [if_pos g1, if_pos g1]
      exact zq.rf _
    · rw [if_neg g1, if_neg g1]
      by_cases g2 : zgt (t_iceV m (12 * j + i)) k1 = true
      · rw [if_pos g2, if_pos g2]
        exact zq.rf _
      · rw [if_neg g2, if_neg g2]
        exact e
theorem all_rel {w h : Nat} {μ m : ZMem} (hd : zDim w h) (hC : rCells w h μ m) (hO : rOut w h m) : s_all μ (w * h) = t_total m := by
  obtain ⟨d1, d2, d3, d4⟩ := id hd
  unfold s_all t_total
  rw [zit_grid (fun k s => s + zL μ (1000 + k) 2) (by omega), show (144 : Nat) = 12 * 12 from rfl, zit_grid (fun k s => s + zL m 7 k) (by decide)]
  have o1 : ∀ i j, i < 12 → j < 12 → (w ≤ i ∨ h ≤ j) → zL m 7 (j * 12 + i) = 0 := fun i j hi hj q => (hO (j * 12 + i) (by omega) (by omega)).1
  rw [zit_ids (c := fun j s => zit (fun i s => s + zL m 7 (j * 12 + i)) 12 s) (a := h) 12 d4 (fun j h1 h2 x => by
    rw [zit_ids (a := 0) 12 (Nat.zero_le _) (fun i _ hi y => by
      show y + zL m 7 (j * 12 + i) = y
      rw [o1 i j hi h2 (Or.inr h1), Int64.add_zero]) x]
    rfl) 0]
  refine zit_cg _ _ (fun j y hj => ?_)
  rw [zit_ids (c := fun i s => s + zL m 7 (j * 12 + i)) (a := w) 12 d2 (fun i h1 h2 x => by
    show x + zL m 7 (j * 12 + i) = x
    rw [o1 i j h2 (by omega) (Or.inl h1), Int64.add_zero]) y]
  refine zit_cg _ _ (fun i z hi => ?_)
  show z + zL μ (1000 + (j * w + i)) 2 = z + zL m 7 (j * 12 + i)
  rw [(hC j hj i hi).2.2.1, Nat.mul_comm 12 j]
theorem volume_rel {w h : Nat} {μ m : ZMem} (hd : zDim w h) (hC : rCells w h μ m) (hO : rOut w h m) (x : Int32) : s_volume μ w h x = s_limbOf (t_total m) x := by
  unfold s_volume
  rw [all_rel hd hC hO]
theorem side_cases (x : Int32) : (s_sideAt x = none ∧ (x < 0 ∨ (¬ x < 0 ∧ 3 < x))) ∨ ∃ s, s < 4 ∧ x = nI s ∧ s_sideAt x = some (30 + s) ∧ ¬ x < 0 ∧ ¬ 3 < x ∧ x.toNatClampNeg = s := by
  unfold s_sideAt
  by_cases a : x < 0
  · exact Or.inl ⟨if_pos a, Or.inl a⟩
  · by_cases b : nI 4 ≤ x
    · refine Or.inl ⟨?_, Or.inr ⟨a, ?_⟩⟩
      · rw [if_neg a, if_neg (fun q => by
          have h1 := Int32.lt_iff_toInt_lt.mp q
          have h2 := Int32.le_iff_toInt_le.mp b
          omega)]
      · rw [Int32.lt_iff_toInt_lt]
        have h2 := Int32.le_iff_toInt_le.mp b
        rw [show (nI 4).toInt = 4 from rfl] at h2
        rw [show (3 : Int32).toInt = 3 from rfl]
        omega
    · obtain ⟨s, hs, rfl⟩ := zix a b (by decide)
      refine Or.inr ⟨s, hs, rfl, ?_, a, ?_, nI_clamp (by omega)⟩
      · rw [if_neg a, if_pos (nI_lt hs (by decide)), nI_clamp (by omega)]
      · have : ∀ k : Fin 4, ¬ 3 < nI k.val := by decide
        exact this ⟨s, hs⟩
theorem through_rel {μ m : ZMem} (hS : rSide μ m) (x y : Int32) : s_through μ x y = t_through m x y := by
  unfold s_through t_through
  rcases side_cases x with ⟨a, b | ⟨b, c⟩⟩ | ⟨s, hs, rfl, a, b, c, d⟩
  · rw [a, if_pos b]
  · rw [a, if_neg b, if_pos c]
  · rw [a, if_neg b, if_neg c, d]
    show s_limbOf (zL μ (30 + s) 4) y = _
    rw [(hS s hs).1]
theorem kept_rel {w h : Nat} {μ m : ZMem} (hd : zDim w h) (hC : rCells w h μ m) (hO : rOut w h m) (hS : rSide μ m) (hT : rTime μ m) : s_kept μ w h = t_kept m := by
  unfold s_kept t_kept
  have e : s_dueK μ 4 = zL m 0 14 + zL m 12 0 + zL m 12 1 + zL m 12 2 + zL m 12 3 + zL m 0 12 := by
    show zL μ 0 15 + zL μ 0 16 + zL μ (30 + 0) 4 + zL μ (30 + 1) 4 + zL μ (30 + 2) 4 + zL μ (30 + 3) 4 = _
    rw [hT.2.1, hT.2.2, (hS 0 (by decide)).1, (hS 1 (by decide)).1, (hS 2 (by decide)).1, (hS 3 (by decide)).1]
    ac_rfl
  rw [all_rel hd hC hO, e]
theorem equal_rel {w h : Nat} {μ m : ZMem} (H : rNest w h μ m) (x : Int32) : s_equal μ x = t_equal m x := by
  obtain ⟨T, t0, t1, t2, t3, t4, t5, t6⟩ := H
  unfold s_equal t_equal
  rw [t2]
  by_cases a : x < 0
  · rw [if_pos a, if_pos a]
  · rw [if_neg a, if_neg a]
    have out : ∀ i, T ≤ i → i < 10 → s_agrees μ (60 + i) (70 + i) (s_cnt μ (60 + i)) = 0 := fun i h1 h2 => by
      unfold s_agrees
      rw [(t3 i h1 h2).1]
    by_cases b : nI 10 ≤ x
    · rw [if_pos b, if_pos (show nI T ≤ x by
        rw [Int32.le_iff_toInt_le] at b ⊢
        have : ∀ k : Fin 11, (nI k.val).toInt ≤ (nI 10).toInt := by decide
        have h5 : (nI T).toInt ≤ (nI 10).toInt := this ⟨T, by omega⟩
        omega)]
    · rw [if_neg b]
      obtain ⟨i, hi, rfl⟩ := zix a b (by decide)
      rw [nI_clamp (by omega)]
      by_cases c : nI T ≤ nI i
      · have hTi : T ≤ i := by
          rcases Nat.lt_or_ge i T with q | q
          · exact absurd c (nI_ge q (by omega))
          · exact q
        rw [if_pos c, out i hTi hi, if_pos rfl]
      · have hTi : i < T := by
          rcases Nat.lt_or_ge i T with q | q
          · exact q
          · exfalso
            apply c
            have : ∀ k l : Fin 11, k.val ≤ l.val → nI k.val ≤ nI l.val := by decide
            exact this ⟨T, by omega⟩ ⟨i, by omega⟩ q
        rw [if_neg c]
        cases hh : zR μ (60 + i) 1 with
        | none =>
          have e : s_agrees μ (60 + i) (70 + i) (s_cnt μ (60 + i)) = 0 := by
            unfold s_agrees
            rw [hh]
          rw [e, if_pos rfl, if_pos ((t4 i hTi).mpr hh)]
        | some cc =>
          obtain ⟨_, _, _, _, _, _, _, _, _, e5⟩ := t5 i hi cc hh
          have e : s_agrees μ (60 + i) (70 + i) (s_cnt μ (60 + i)) = 1 := by
            unfold s_agrees
            rw [hh]
            show (if s_sumS μ (70 + i) (s_cnt μ (60 + i)) = zL μ cc 2 then 1 else 0 : Int32) = 1
            rw [if_pos e5]
          rw [e, if_neg (by decide), if_neg (fun q => by
            have := (t4 i hTi).mp q
            rw [hh] at this
            exact absurd this (by simp))]
theorem df_last {m : ZMem} {c g T : Nat} (hg : g < T) (h1 : zI m 33 g = nI c) (h2 : ∀ g', g < g' → g' < T → ¬ zI m 33 g' = nI c) (x : UInt64) : zit (t_df1 m c) T x = zsub (zD m 35 g) (t_lev m c) := by
  rw [zit_ids (c := t_df1 m c) (a := g + 1) T (by omega) (fun k a b y => if_neg (h2 k (by omega) b)) x]
  show t_df1 m c g (zit (t_df1 m c) g x) = _
  unfold t_df1
  rw [if_pos h1]
theorem differs_rel {w h : Nat} {μ m : ZMem} (hd : zDim w h) (hC : rCells w h μ m) (H : rGauge w h μ m) {T : Nat} (hT : zI m 0 31 = nI T) (hT2 : T ≤ 40) (x y : Int32) : s_differs μ w h x y = t_differs m w h T x y := by
  obtain ⟨T', t0, _, t2, _, t4⟩ := H
  have eT : T' = T := (nI_eq (by omega) (by omega)).mp (t2.symm.trans hT)
  subst eT
  unfold s_differs t_differs
  rcases water_cases hd hC x y with ⟨a, b⟩ | ⟨i, j, hi, hj, hx, hy, a, b, cx, cy, _⟩
  · rw [a, if_pos b]
  · rw [a, if_neg b, cx, cy]
    obtain ⟨g0, g1⟩ := t4 i j hi hj
    show (if zI μ (1000 + (j * w + i)) 8 = 0 then 0 else zsub (zD μ (1000 + (j * w + i)) 9) (s_surface μ (1000 + (j * w + i)))) = _
    by_cases e : zI μ (1000 + (j * w + i)) 8 = 0
    · rw [if_pos e, zit_ids (c := t_df1 m (12 * j + i)) (a := 0) T' (Nat.zero_le _) (fun k _ hk y => if_neg (g0 e k hk)) 0]
      rfl
    · rw [if_neg e]
      obtain ⟨g, h1, h2, h3, h4⟩ := g1 e
      rw [df_last h1 h2 h4, h3, surf_rel (hC j hj i hi)]
