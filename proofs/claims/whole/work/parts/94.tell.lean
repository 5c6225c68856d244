/-! calls that tell: wind, river, border, gauge -/
theorem REL.mk' {n n' w h : Nat} {ly : Int32} {μ μ' m m' : ZMem} (hn : n ≤ n') (H : REL n w h ly μ m) (hL : zLC w h ly μ → zLC w h ly μ') (hB : zNB (w * h) μ → zNB (w * h) μ') (hM : zLM w h ly m → zLM w h ly m') (hC : rCells w h μ' m') (hS : rSpd w h μ' m') (hs : rSide μ' m') (hW : rWind μ' m') (ht : rTime μ' m') (hN : NI n' w h m') (hne : rNest w h μ' m') (hga : rGauge w h μ' m') (hfi : rFit μ' m') (hsa : rSave n' w h μ' m') (ho : rOut w h m') : REL n' w h ly μ' m' := by
  obtain ⟨⟨a1, a2, a3, a4, a5, a6⟩, _⟩ := H
  exact ⟨⟨a1, a2, hL a3, hB a4, hM a5, a6⟩, hC, hS, hs, hW, ht, hN, hne, hga, hfi, hsa, ho⟩
theorem k24_cases (x : Int32) : (x < 0 ∧ True) ∨ (¬ x < 0 ∧ ¬ x < 24 ∧ 23 < x) ∨ ∃ k, k < 24 ∧ x = nI k ∧ ¬ x < 0 ∧ x < 24 ∧ ¬ 23 < x ∧ x.toNatClampNeg = k := by
  by_cases a : x < 0
  · exact Or.inl ⟨a, trivial⟩
  · by_cases b : nI 24 ≤ x
    · refine Or.inr (Or.inl ⟨a, Int32.not_lt.mpr b, ?_⟩)
      rw [Int32.lt_iff_toInt_lt]
      have h2 := Int32.le_iff_toInt_le.mp b
      rw [show (nI 24).toInt = 24 from rfl] at h2
      rw [show (23 : Int32).toInt = 23 from rfl]
      omega
    · obtain ⟨s, hs, rfl⟩ := zix a b (by decide)
      have : ∀ k : Fin 24, ¬ 23 < nI k.val ∧ nI k.val < 24 := by decide
      exact Or.inr (Or.inr ⟨s, hs, rfl, a, (this ⟨s, hs⟩).2, (this ⟨s, hs⟩).1, nI_clamp (by omega)⟩)
theorem k8_cases (x : Int32) : (x < 0 ∧ True) ∨ (¬ x < 0 ∧ ¬ x < 8 ∧ 7 < x) ∨ ∃ k, k < 8 ∧ x = nI k ∧ ¬ x < 0 ∧ x < 8 ∧ ¬ 7 < x ∧ x.toNatClampNeg = k := by
  by_cases a : x < 0
  · exact Or.inl ⟨a, trivial⟩
  · by_cases b : nI 8 ≤ x
    · refine Or.inr (Or.inl ⟨a, Int32.not_lt.mpr b, ?_⟩)
      rw [Int32.lt_iff_toInt_lt]
      have h2 := Int32.le_iff_toInt_le.mp b
      rw [show (nI 8).toInt = 8 from rfl] at h2
      rw [show (7 : Int32).toInt = 7 from rfl]
      omega
    · obtain ⟨s, hs, rfl⟩ := zix a b (by decide)
      have : ∀ k : Fin 8, ¬ 7 < nI k.val ∧ nI k.val < 8 := by decide
      exact Or.inr (Or.inr ⟨s, hs, rfl, a, (this ⟨s, hs⟩).2, (this ⟨s, hs⟩).1, nI_clamp (by omega)⟩)
theorem fk_100 : zfi k100 ∧ zfi km100 ∧ zv k100 = 100 * zU ∧ zv km100 = -(100 * zU) := ⟨zfk _ (by decide +kernel), zfk _ (by decide +kernel), by decide +kernel, by decide +kernel⟩
theorem fk_1000 : zfi k1000 ∧ zv k1000 = 1000 * zU := ⟨zfk _ (by decide +kernel), by decide +kernel⟩
theorem fk_20 : zfi k20 ∧ zv k20 = 20 * zU := ⟨zfk _ (by decide +kernel), by decide +kernel⟩
theorem wd_in {v : UInt64} (h : ¬ s_inside v km100 k100 = 0) : zWd v := by
  obtain ⟨a, b, c, d⟩ := fk_100
  obtain ⟨x, y, z⟩ := s_in h b a
  exact ⟨x, by omega, by omega⟩
theorem wind_rel {n w h : Nat} {ly : Int32} {μ m : ZMem} (H : REL n w h ly μ m) (x : Int32) (u v : UInt64) : s_wind x u v = t_wind x u v ∧ REL n w h ly (u_wind μ x u v) (q_wind m x u v) := by
  obtain ⟨⟨hd, hF, hL, hB, hM, hly⟩, hC, hS, hs, hW, ht, hN, hne, hga, hfi, hsa, hou⟩ := id H
  have e : s_wind x u v = t_wind x u v := by
    unfold s_wind t_wind
    rcases k24_cases x with ⟨a, _⟩ | ⟨a, b, c⟩ | ⟨k, hk, _, a, b, c, _⟩
    · rw [if_pos a, if_pos a]
    · rw [if_neg a, if_neg a, if_neg b, if_pos c]
    · rw [if_neg a, if_neg a, if_pos b, if_neg c]
  refine ⟨e, ?_⟩
  unfold u_wind q_wind
  rw [e]
  by_cases g : t_wind x u v = 0
  · rw [if_pos g, if_pos g]
    exact H
  · rw [if_neg g, if_neg g]
    unfold t_wind at g
    rcases k24_cases x with ⟨a, _⟩ | ⟨a, b, c⟩ | ⟨k, hk, _, a, b, c, cl⟩
    · rw [if_pos a] at g
      exact absurd rfl g
    · rw [if_neg a, if_pos c] at g
      exact absurd rfl g
    · rw [if_neg a, if_neg c] at g
      have hu : ¬ s_inside u km100 k100 = 0 := fun q => g (by rw [if_pos q])
      have hv : ¬ s_inside v km100 k100 = 0 := fun q => g (by rw [if_neg hu, if_pos q])
      rw [cl]
      have fc : ∀ D : Nat → Nat → Prop, (∀ k, ¬ D 4 k ∧ ¬ D 5 k) → agr D (zsD (zsD μ 4 k u) 5 k v) μ := fun D q => (agr_sD _ _ (q k).2).tr (agr_sD _ _ (q k).1)
      have fm : ∀ D : Nat → Nat → Prop, (∀ k, ¬ D 26 k ∧ ¬ D 27 k) → agr D (zsD (zsD m 26 k u) 27 k v) m := fun D q => (agr_sD _ _ (q k).2).tr (agr_sD _ _ (q k).1)
      refine REL.mk' (Nat.le_refl n) H (zLC_of (fun _ _ _ => rfl) (fun _ _ _ => rfl)) (zNB_RI ⟨rfl, rfl⟩) (zLM_kp ⟨rfl, rfl⟩) (hC.mo hd (fc _ fun k => by unfold dCell cR; omega) (fm _ fun k => by unfold dCellM; omega)) (hS.mo hd hF (fc _ fun k => by unfold dSpd fR; omega) (fm _ fun k => by unfold dSpdM; omega)) (hs.mo (fc _ fun k => by unfold dSide; omega) (fm _ fun k => by unfold dSideM; omega)) (fun l hl => ?_) (ht.mo (fc _ fun k => by unfold dTime; omega) (fm _ fun k => by unfold dTimeM; omega)) ?_ (hne.mo hd (fc _ fun k => by unfold dNest cR; omega) (fm _ fun k => by unfold dNestM; omega) rfl) (hga.mo hd (fc _ fun k => by unfold dGauge cR; omega) (fm _ fun k => by unfold dGaugeM; omega) rfl) (hfi.mo (fc _ fun k => by unfold dFit; omega) (fm _ fun k => by unfold dFitM; omega) rfl) (hsa.mo hd (Nat.le_refl n) (fc _ fun k => by unfold dSave; omega) (fm _ fun k => by unfold dSaveM; omega) rfl rfl) (hou.mo (fm _ fun k => by unfold dOut; omega))
      · simp only [zD_sD]
        by_cases q : l = k
        · subst q
          simp
        · simp [q]
          exact hW l hl
      · obtain ⟨n1, n2, n3, n4, n5, n6, n7⟩ := hN
        refine ⟨n1, n2, n3, fun l hl => ?_, n5, n6, n7⟩
        simp only [zD_sD]
        by_cases q : l = k
        · subst q
          simp
          exact ⟨wd_in hu, wd_in hv⟩
        · simp [q]
          exact n4 l hl
theorem river_rel {n w h : Nat} {ly : Int32} {μ m : ZMem} (H : REL n w h ly μ m) (x y : Int32) (v : UInt64) : s_river μ w h x y v = t_river m w h x y v ∧ REL n w h ly (u_river μ w h x y v) (q_river m w h x y v) := by
  obtain ⟨⟨hd, hF, hL, hB, hM, hly⟩, hC, hS, hs, hW, ht, hN, hne, hga, hfi, hsa, hou⟩ := id H
  unfold s_river t_river u_river q_river t_river
  rcases water_cases hd hC x y with ⟨a, b⟩ | ⟨i, j, hi, hj, _, _, a, b, cx, cy, _⟩
  · rw [a, if_pos b]
    refine ⟨rfl, ?_⟩
    rw [if_pos rfl]
    exact H
  · rw [a, if_neg b, cx, cy]
    refine ⟨rfl, ?_⟩
    show REL n w h ly (if s_inside v 0 k1000 = 0 then μ else zsD μ (1000 + (j * w + i)) 6 v) _
    by_cases g : s_inside v 0 k1000 = 0
    · rw [if_pos g, if_pos (by rw [if_pos g])]
      exact H
    · rw [if_neg g, if_neg (by rw [if_neg g]; decide)]
      have gl := glt hi hj
      have h144 : w * h ≤ 12 * 12 := Nat.mul_le_mul hd.2.1 hd.2.2.2
      have fc : ∀ D : Nat → Nat → Prop, ¬ D (1000 + (j * w + i)) 6 → agr D (zsD μ (1000 + (j * w + i)) 6 v) μ := fun D q => agr_sD _ _ q
      have fm : ∀ D : Nat → Nat → Prop, (∀ k, ¬ D 6 k) → agr D (zsD m 6 (12 * j + i) v) m := fun D q => agr_sD _ _ (q _)
      refine REL.mk' (Nat.le_refl n) H (zLC_of (fun _ _ _ => rfl) (fun _ _ _ => rfl)) (zNB_RI ⟨rfl, rfl⟩) (zLM_kp ⟨rfl, rfl⟩) (fun j' hj' i' hi' => ?_) (hS.mo hd hF (fc _ (by unfold dSpd fR; omega)) (fm _ fun k => by unfold dSpdM; omega)) (hs.mo (fc _ (by unfold dSide; omega)) (fm _ fun k => by unfold dSideM; omega)) (hW.mo (fc _ (by unfold dWind; omega)) (fm _ fun k => by unfold dWindM; omega)) (ht.mo (fc _ (by unfold dTime; omega)) (fm _ fun k => by unfold dTimeM; omega)) ?_ (hne.mo hd (fc _ (by unfold dNest cR; omega)) (fm _ fun k => by unfold dNestM; omega) rfl) (hga.mo hd (fc _ (by unfold dGauge cR; omega)) (fm _ fun k => by unfold dGaugeM; omega) rfl) (hfi.mo (fc _ (by unfold dFit; omega)) (fm _ fun k => by unfold dFitM; omega) rfl) (hsa.mo hd (Nat.le_refl n) (fc _ (by unfold dSave; omega)) (fm _ fun k => by unfold dSaveM; omega) rfl rfl) (hou.mo (fm _ fun k => by unfold dOut; omega))
      · have R := hC j' hj' i' hi'
        unfold rCell at R ⊢
        obtain ⟨r0, r1, r2, r3, r4, r5, r6⟩ := R
        have dm : ∀ r k, r ≠ 6 → zD (zsD m 6 (12 * j + i) v) r k = zD m r k := fun r k q => by rw [zD_sD, if_neg (fun e => q e.1)]
        have dc : ∀ k, k ≠ 6 → zD (zsD μ (1000 + (j * w + i)) 6 v) (1000 + (j' * w + i')) k = zD μ (1000 + (j' * w + i')) k := fun k q => by rw [zD_sD, if_neg (fun e => q e.2)]
        rw [dc 1 (by decide), dc 3 (by decide), dc 4 (by decide), dc 5 (by decide), dm 5 _ (by decide), dm 8 _ (by decide), dm 9 _ (by decide), dm 10 _ (by decide)]
        refine ⟨r0, r1, r2, r3, r4, r5, ?_⟩
        rw [zD_sD, zD_sD]
        by_cases q : i' = i ∧ j' = j
        · obtain ⟨rfl, rfl⟩ := q
          rw [if_pos ⟨rfl, rfl⟩, if_pos ⟨rfl, rfl⟩]
        · rw [if_neg (fun e => q (gu hi hi' (by omega))), if_neg (fun e => q (by have := hd.2.1; omega))]
          exact r6
      · obtain ⟨n1, n2, n3, n4, n5, n6, n7⟩ := hN
        refine ⟨fun j' hj' i' hi' => ?_, n2, n3, n4, n5, n6, n7⟩
        obtain ⟨a1, a2, a3, a4, a5⟩ := n1 j' hj' i' hi'
        refine ⟨a1, a2, a3, a4, ?_⟩
        rw [zD_sD]
        split
        · obtain ⟨x1, x2, x3⟩ := s_in g zfi_0 fk_1000.1
          rw [zv_0] at x2
          rw [fk_1000.2] at x3
          exact ⟨x1, x2, x3⟩
        · exact a5
theorem border_rel {n w h : Nat} {ly : Int32} {μ m : ZMem} (H : REL n w h ly μ m) (x y : Int32) (a b : UInt64) : s_border x y a b = t_border x y a b ∧ REL n w h ly (u_border μ x y a b) (q_border m x y a b) := by
  obtain ⟨⟨hd, hF, hL, hB, hM, hly⟩, hC, hS, hs, hW, ht, hN, hne, hga, hfi, hsa, hou⟩ := id H
  have e : s_border x y a b = t_border x y a b := by
    unfold s_border t_border
    rcases side_cases x with ⟨s1, s2 | ⟨s2, s3⟩⟩ | ⟨s, h4, _, s1, s2, s3, _⟩
    · rw [s1, if_pos s2]
    · rw [s1, if_neg s2, if_pos s3]
    · rw [s1, if_neg s2, if_neg s3]
      show (if y < 0 then 0 else if y < 8 then (if s_inside a 0 k20 = 0 then 0 else if s_inside b 0 k1 = 0 then 0 else 1) else 0 : Int32) = _
      rcases k8_cases y with ⟨p, _⟩ | ⟨p, q, r⟩ | ⟨k, hk, _, p, q, r, _⟩
      · rw [if_pos p, if_pos p]
      · rw [if_neg p, if_neg p, if_neg q, if_pos r]
      · rw [if_neg p, if_neg p, if_pos q, if_neg r]
  refine ⟨e, ?_⟩
  unfold u_border q_border
  rw [e]
  rcases side_cases x with ⟨s1, s2⟩ | ⟨s, h4, _, s1, s2, s3, cx⟩
  · have z : t_border x y a b = 0 := by
      unfold t_border
      rcases s2 with s2 | ⟨s2, s3⟩
      · rw [if_pos s2]
      · rw [if_neg s2, if_pos s3]
    rw [s1, if_pos z]
    exact H
  · rw [s1]
    show REL n w h ly (if t_border x y a b = 0 then μ else u_tell μ (30 + s) (30 + s + 10) (30 + s + 20) y.toNatClampNeg a b) _
    by_cases g : t_border x y a b = 0
    · rw [if_pos g, if_pos g]
      exact H
    · rw [if_neg g, if_neg g]
      unfold t_border at g
      rw [if_neg s2, if_neg s3] at g
      rcases k8_cases y with ⟨p, _⟩ | ⟨p, q, r⟩ | ⟨k, hk, _, p, q, r, cy⟩
      · rw [if_pos p] at g
        exact absurd rfl g
      · rw [if_neg p, if_pos r] at g
        exact absurd rfl g
      · rw [if_neg p, if_neg r] at g
        have ha : ¬ s_inside a 0 k20 = 0 := fun q => g (by rw [if_pos q])
        have hb : ¬ s_inside b 0 k1 = 0 := fun q => g (by rw [if_neg ha, if_pos q])
        rw [cx, cy]
        unfold u_tell q_bord1
        rw [show 30 + s + 10 = 40 + s by omega, show 30 + s + 20 = 50 + s by omega]
        have fc : ∀ D : Nat → Nat → Prop, ¬ D (40 + s) k ∧ ¬ D (50 + s) k ∧ ¬ D (30 + s) 2 → agr D (zsI (zsD (zsD μ (40 + s) k a) (50 + s) k b) (30 + s) 2 1) μ := fun D q => (agr_sI _ _ q.2.2).tr ((agr_sD _ _ q.2.1).tr (agr_sD _ _ q.1))
        have fm : ∀ D : Nat → Nat → Prop, (∀ k, ¬ D 23 k ∧ ¬ D 24 k ∧ ¬ D 25 k) → agr D (zsD (zsD (zsI m 23 (8 * s + k) 1) 24 (8 * s + k) a) 25 (8 * s + k) b) m := fun D q => (agr_sD _ _ (q _).2.2).tr ((agr_sD _ _ (q _).2.1).tr (agr_sI _ _ (q _).1))
        have i23 : ∀ l, zI (zsD (zsD (zsI m 23 (8 * s + k) 1) 24 (8 * s + k) a) 25 (8 * s + k) b) 23 l = if l = 8 * s + k then 1 else zI m 23 l := fun l => by
          rw [zI_sD, zI_sD, zI_sI]
          by_cases q : l = 8 * s + k
          · rw [if_pos ⟨rfl, q⟩, if_pos q]
          · rw [if_neg (fun e => q e.2), if_neg q]
        have m4 : ∀ l, zD (zsD (zsD (zsI m 23 (8 * s + k) 1) 24 (8 * s + k) a) 25 (8 * s + k) b) 24 l = if l = 8 * s + k then a else zD m 24 l := fun l => by
          rw [zD_sD, if_neg (by omega), zD_sD]
          by_cases q : l = 8 * s + k
          · rw [if_pos ⟨rfl, q⟩, if_pos q]
          · rw [if_neg (fun e => q e.2), if_neg q]
            rfl
        have m5 : ∀ l, zD (zsD (zsD (zsI m 23 (8 * s + k) 1) 24 (8 * s + k) a) 25 (8 * s + k) b) 25 l = if l = 8 * s + k then b else zD m 25 l := fun l => by
          rw [zD_sD]
          by_cases q : l = 8 * s + k
          · rw [if_pos ⟨rfl, q⟩, if_pos q]
          · rw [if_neg (fun e => q e.2), if_neg q, zD_sD, if_neg (by omega)]
            rfl
        have z0 : zI (zsD (zsD (zsI m 23 (8 * s + k) 1) 24 (8 * s + k) a) 25 (8 * s + k) b) 0 = zI m 0 := by
          show zI (zsI m 23 (8 * s + k) 1) 0 = zI m 0
          exact zIr m _ _ (by decide)
        refine REL.mk' (Nat.le_refl n) H (zLC_of (fun _ _ _ => rfl) (fun r k q => by rw [zI_sI, if_neg (by omega)]; rfl)) (fun q => ⟨q.1, fun i hi => by
            rw [zI_sI, if_neg (by omega)]
            exact q.2 i hi⟩) (zLM_kp ⟨rfl, z0⟩) (hC.mo hd (fc _ (by unfold dCell cR; omega)) (fm _ fun k => by unfold dCellM; omega)) (hS.mo hd hF (fc _ (by unfold dSpd fR; omega)) (fm _ fun k => by unfold dSpdM; omega)) (fun s' hs' => ?_) (hW.mo (fc _ (by unfold dWind; omega)) (fm _ fun k => by unfold dWindM; omega)) (ht.mo (fc _ (by unfold dTime; omega)) (fm _ fun k => by unfold dTimeM; omega)) ?_ (hne.mo hd (fc _ (by unfold dNest cR; omega)) (fm _ fun k => by unfold dNestM; omega) (congrFun z0 _)) (hga.mo hd (fc _ (by unfold dGauge cR; omega)) (fm _ fun k => by unfold dGaugeM; omega) (congrFun z0 _)) (hfi.mo (fc _ (by unfold dFit; omega)) (fm _ fun k => by unfold dFitM; omega) (congrFun z0 _)) (hsa.mo hd (Nat.le_refl n) (fc _ (by unfold dSave; omega)) (fm _ fun k => by unfold dSaveM; omega) (congrFun z0 _) (congrFun z0 _)) (hou.mo (fm _ fun k => by unfold dOut; omega))
        · obtain ⟨a1, a2, a3⟩ := hs s' hs'
          have ci : zI (zsI (zsD (zsD μ (40 + s) k a) (50 + s) k b) (30 + s) 2 1) (30 + s') 2 = if s' = s then 1 else zI μ (30 + s') 2 := by
            rw [zI_sI]
            by_cases q : s' = s
            · rw [if_pos ⟨by omega, rfl⟩, if_pos q]
            · rw [if_neg (fun e => q (by omega)), if_neg q]
              rfl
          have c4 : ∀ l, zD (zsI (zsD (zsD μ (40 + s) k a) (50 + s) k b) (30 + s) 2 1) (40 + s') l = if s' = s ∧ l = k then a else zD μ (40 + s') l := fun l => by
            rw [zD_sI, zD_sD, if_neg (by omega), zD_sD]
            by_cases q : s' = s ∧ l = k
            · rw [if_pos ⟨by omega, q.2⟩, if_pos q]
            · rw [if_neg (fun e => q ⟨by omega, e.2⟩), if_neg q]
          have c5 : ∀ l, zD (zsI (zsD (zsD μ (40 + s) k a) (50 + s) k b) (30 + s) 2 1) (50 + s') l = if s' = s ∧ l = k then b else zD μ (50 + s') l := fun l => by
            rw [zD_sI, zD_sD]
            by_cases q : s' = s ∧ l = k
            · rw [if_pos ⟨by omega, q.2⟩, if_pos q]
            · rw [if_neg (fun e => q ⟨by omega, e.2⟩), zD_sD, if_neg (by omega), if_neg q]
          refine ⟨a1, ?_, fun l hl => ?_⟩
          · rw [ci]
            by_cases q : s' = s
            · subst q
              rw [if_pos rfl]
              refine ⟨fun z => absurd z (by decide), fun z => ?_⟩
              have := z k hk
              rw [i23, if_pos rfl] at this
              exact absurd this (by decide)
            · rw [if_neg q]
              rw [a2]
              refine ⟨fun z l hl => ?_, fun z l hl => ?_⟩
              · rw [i23, if_neg (by omega)]
                exact z l hl
              · have := z l hl
                rw [i23, if_neg (by omega)] at this
                exact this
          · rw [c4, c5, m4, m5, i23]
            by_cases q : s' = s ∧ l = k
            · obtain ⟨rfl, rfl⟩ := q
              simp
            · rw [if_neg q, if_neg q, if_neg (fun e => q (by omega)), if_neg (fun e => q (by omega)), if_neg (fun e => q (by omega))]
              exact a3 l hl
        · obtain ⟨n1, n2, n3, n4, n5, n6, n7⟩ := hN
          refine ⟨n1, n2, n3, n4, n5, fun s' hs' => ?_, n7⟩
          have := n6 s' hs'
          unfold zWv at this ⊢
          intro l hl
          rw [i23, m4, m5]
          by_cases q : 8 * s' + l = 8 * s + k
          · rw [if_pos q, if_pos q, if_pos q]
            intro _
            obtain ⟨x1, x2, x3⟩ := s_in ha zfi_0 fk_20.1
            obtain ⟨y1, y2, y3⟩ := s_in hb zfi_0 (zfk k1 (by decide +kernel))
            rw [zv_0] at x2 y2
            rw [fk_20.2] at x3
            rw [zk_1] at y3
            exact ⟨x1, x2, x3, y1, y2, y3⟩
          · rw [if_neg q, if_neg q, if_neg q]
            intro z
            exact this l hl z
