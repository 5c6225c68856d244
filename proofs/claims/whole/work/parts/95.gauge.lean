/-! a gauge; the speed at a place -/
theorem gauge_rel {n w h : Nat} {ly : Int32} {μ m : ZMem} (H : REL n w h ly μ m) {T : Nat} (hT : zI m 0 31 = nI T) (hT2 : T ≤ 40) (x y : Int32) (a b : UInt64) : s_gauge μ w h T x y a b = t_gauge w h T x y a b ∧ REL n w h ly (u_gauge μ w h T x y a b) (q_gauge m w h T x y a b) := by
  obtain ⟨⟨hd, hF, hL, hB, hM, hly⟩, hC, hS, hs, hW, ht, hN, hne, hga, hfi, hsa, hou⟩ := id H
  unfold s_gauge u_gauge q_gauge t_gauge
  rcases cell_cases hd x y with ⟨c1, c2⟩ | ⟨i, j, hi, hj, _, _, c1, c2, cx, cy⟩
  · rw [c1, c2, if_pos rfl]
    exact ⟨rfl, by rw [if_pos rfl]; exact H⟩
  · rw [c1, c2, if_neg (show ¬ (1 : Int32) = 0 by decide), cx, cy]
    have e : (if s_inside a 0 k1000 = 0 then 0 else if s_inside b km100 k100 = 0 then 0 else if T < 40 then 1 else 0 : Int32) = (if T = 40 then 0 else if s_inside a 0 k1000 = 0 then 0 else if s_inside b km100 k100 = 0 then 0 else 1) := by
      by_cases t : T = 40
      · rw [if_pos t, if_neg (show ¬ T < 40 by omega)]
        by_cases p : s_inside a 0 k1000 = 0
        · rw [if_pos p]
        · rw [if_neg p]
          by_cases q : s_inside b km100 k100 = 0
          · rw [if_pos q]
          · rw [if_neg q]
      · rw [if_neg t, if_pos (show T < 40 by omega)]
    refine ⟨e, ?_⟩
    show REL n w h ly (if s_inside a 0 k1000 = 0 then μ else if s_inside b km100 k100 = 0 then μ else if T < 40 then zsD (zsI (u_note μ T a b) (1000 + (j * w + i)) 8 1) (1000 + (j * w + i)) 9 b else μ) _
    by_cases g1 : s_inside a 0 k1000 = 0
    · rw [if_pos g1, if_pos (by rw [if_pos g1]; split <;> rfl)]
      exact H
    · rw [if_neg g1]
      by_cases g2 : s_inside b km100 k100 = 0
      · rw [if_pos g2, if_pos (by rw [if_neg g1, if_pos g2]; split <;> rfl)]
        exact H
      · rw [if_neg g2]
        by_cases t : T < 40
        · rw [if_pos t, if_neg (by rw [if_neg g1, if_neg g2, if_neg (by omega)]; decide)]
          unfold u_note q_gauge1
          have gl := glt hi hj
          have h144 : w * h ≤ 12 * 12 := Nat.mul_le_mul hd.2.1 hd.2.2.2
          have fc : ∀ D : Nat → Nat → Prop, ¬ D 9 T ∧ ¬ D 10 T ∧ ¬ D 8 7 ∧ ¬ D (1000 + (j * w + i)) 8 ∧ ¬ D (1000 + (j * w + i)) 9 → agr D (zsD (zsI (zsI (zsD (zsD μ 9 T a) 10 T b) 8 7 (nI T + 1)) (1000 + (j * w + i)) 8 1) (1000 + (j * w + i)) 9 b) μ := fun D q => (agr_sD _ _ q.2.2.2.2).tr ((agr_sI _ _ q.2.2.2.1).tr ((agr_sI _ _ q.2.2.1).tr ((agr_sD _ _ q.2.1).tr (agr_sD _ _ q.1))))
          have fm : ∀ D : Nat → Nat → Prop, (∀ k, ¬ D 33 k ∧ ¬ D 34 k ∧ ¬ D 35 k ∧ ¬ D 0 31) → agr D (zsI (zsD (zsD (zsI m 33 T (nI (12 * j + i))) 34 T a) 35 T b) 0 31 (nI (T + 1))) m := fun D q => (agr_sI _ _ (q T).2.2.2).tr ((agr_sD _ _ (q T).2.2.1).tr ((agr_sD _ _ (q T).2.1).tr (agr_sI _ _ (q T).1)))
          have z0 : ∀ k, k ≠ 31 → zI (zsI (zsD (zsD (zsI m 33 T (nI (12 * j + i))) 34 T a) 35 T b) 0 31 (nI (T + 1))) 0 k = zI m 0 k := fun k hk => by
            rw [zI_sI, if_neg (fun e => hk e.2), zI_sD, zI_sD, zI_sI, if_neg (by omega)]
          refine REL.mk' (Nat.le_refl n) H (zLC_of (fun _ _ _ => rfl) (fun r k q => by rw [zI_sD, zI_sI, if_neg (by omega), zI_sI, if_neg (by omega)]; rfl)) (fun q => ⟨q.1, fun i' hi' => by
              rw [zI_sD, zI_sI, if_neg (by omega), zI_sI, if_neg (by omega)]
              exact q.2 i' hi'⟩) ?_ (hC.mo hd (fc _ (by unfold dCell cR; omega)) (fm _ fun k => by unfold dCellM; omega)) (hS.mo hd hF (fc _ (by unfold dSpd fR; omega)) (fm _ fun k => by unfold dSpdM; omega)) (hs.mo (fc _ (by unfold dSide; omega)) (fm _ fun k => by unfold dSideM; omega)) (hW.mo (fc _ (by unfold dWind; omega)) (fm _ fun k => by unfold dWindM; omega)) (ht.mo (fc _ (by unfold dTime; omega)) (fm _ fun k => by unfold dTimeM; omega)) (hN.mo (fm _ fun k => by unfold dNum; omega)) (hne.mo hd (fc _ (by unfold dNest cR; omega)) (fm _ fun k => by unfold dNestM; omega) (z0 27 (by decide))) ?_ (hfi.mo (fc _ (by unfold dFit; omega)) (fm _ fun k => by unfold dFitM; omega) (z0 38 (by decide))) (hsa.mo hd (Nat.le_refl n) (fc _ (by unfold dSave; omega)) (fm _ fun k => by unfold dSaveM; omega) (z0 39 (by decide)) (z0 40 (by decide))) (hou.mo (fm _ fun k => by unfold dOut; omega))
          · intro q
            obtain ⟨q1, q2, q3, q4, q5⟩ := q
            exact ⟨q1, (z0 0 (by decide)).trans q2, (z0 1 (by decide)).trans q3, (z0 2 (by decide)).trans q4, q5⟩
          · obtain ⟨T', t0, t1, t2, t3, t4⟩ := hga
            have eT : T' = T := (nI_eq (by omega) (by omega)).mp (t2.symm.trans hT)
            subst eT
            have i33 : ∀ g, zI (zsI (zsD (zsD (zsI m 33 T' (nI (12 * j + i))) 34 T' a) 35 T' b) 0 31 (nI (T' + 1))) 33 g = if g = T' then nI (12 * j + i) else zI m 33 g := fun g => by
              rw [zI_sI, if_neg (by omega), zI_sD, zI_sD, zI_sI]
              by_cases q : g = T'
              · rw [if_pos ⟨rfl, q⟩, if_pos q]
              · rw [if_neg (fun e => q e.2), if_neg q]
            have d34 : ∀ g, zD (zsI (zsD (zsD (zsI m 33 T' (nI (12 * j + i))) 34 T' a) 35 T' b) 0 31 (nI (T' + 1))) 34 g = if g = T' then a else zD m 34 g := fun g => by
              rw [zD_sI, zD_sD, if_neg (by omega), zD_sD]
              by_cases q : g = T'
              · rw [if_pos ⟨rfl, q⟩, if_pos q]
              · rw [if_neg (fun e => q e.2), if_neg q]
                rfl
            have d35 : ∀ g, zD (zsI (zsD (zsD (zsI m 33 T' (nI (12 * j + i))) 34 T' a) 35 T' b) 0 31 (nI (T' + 1))) 35 g = if g = T' then b else zD m 35 g := fun g => by
              rw [zD_sI, zD_sD]
              by_cases q : g = T'
              · rw [if_pos ⟨rfl, q⟩, if_pos q]
              · rw [if_neg (fun e => q e.2), if_neg q, zD_sD, if_neg (by omega)]
                rfl
            refine ⟨T' + 1, by omega, ?_, ?_, fun g hg => ?_, fun i' j' hi' hj' => ?_⟩
            · rw [zI_sD, zI_sI, if_neg (by omega), zI_sI, if_pos ⟨rfl, rfl⟩, nI_1]
            · rw [zI_sI, if_pos ⟨rfl, rfl⟩]
            · rw [d34, d35]
              have e9 : zD (zsD (zsI (zsI (zsD (zsD μ 9 T' a) 10 T' b) 8 7 (nI T' + 1)) (1000 + (j * w + i)) 8 1) (1000 + (j * w + i)) 9 b) 9 g = if g = T' then a else zD μ 9 g := by
                rw [zD_sD, if_neg (by omega), zD_sI, zD_sI, zD_sD, if_neg (by omega), zD_sD]
                by_cases q : g = T'
                · rw [if_pos ⟨rfl, q⟩, if_pos q]
                · rw [if_neg (fun e => q e.2), if_neg q]
              have e10 : zD (zsD (zsI (zsI (zsD (zsD μ 9 T' a) 10 T' b) 8 7 (nI T' + 1)) (1000 + (j * w + i)) 8 1) (1000 + (j * w + i)) 9 b) 10 g = if g = T' then b else zD μ 10 g := by
                rw [zD_sD, if_neg (by omega), zD_sI, zD_sI, zD_sD]
                by_cases q : g = T'
                · rw [if_pos ⟨rfl, q⟩, if_pos q]
                · rw [if_neg (fun e => q e.2), if_neg q, zD_sD, if_neg (by omega)]
              rw [e9, e10]
              by_cases q : g = T'
              · rw [if_pos q, if_pos q, if_pos q, if_pos q]
                exact ⟨rfl, rfl⟩
              · rw [if_neg q, if_neg q, if_neg q, if_neg q]
                exact t3 g (by omega)
            · have gl' := glt hi' hj'
              obtain ⟨u1, u2⟩ := t4 i' j' hi' hj'
              by_cases q : i' = i ∧ j' = j
              · obtain ⟨rfl, rfl⟩ := q
                have e8 : zI (zsD (zsI (zsI (zsD (zsD μ 9 T' a) 10 T' b) 8 7 (nI T' + 1)) (1000 + (j' * w + i')) 8 1) (1000 + (j' * w + i')) 9 b) (1000 + (j' * w + i')) 8 = 1 := by
                  rw [zI_sD, zI_sI, if_pos ⟨rfl, rfl⟩]
                rw [e8]
                refine ⟨fun z => absurd z (by decide), fun _ => ⟨T', by omega, ?_, ?_, fun g' h1 h2 => by omega⟩⟩
                · rw [i33, if_pos rfl]
                · rw [d35, if_pos rfl, zD_sD, if_pos ⟨rfl, rfl⟩]
              · have nc : ¬ 1000 + (j' * w + i') = 1000 + (j * w + i) := fun e => q (gu hi hi' (by omega))
                have e8 : zI (zsD (zsI (zsI (zsD (zsD μ 9 T' a) 10 T' b) 8 7 (nI T' + 1)) (1000 + (j * w + i)) 8 1) (1000 + (j * w + i)) 9 b) (1000 + (j' * w + i')) 8 = zI μ (1000 + (j' * w + i')) 8 := by
                  rw [zI_sD, zI_sI, if_neg (fun e => nc e.1), zI_sI, if_neg (by omega)]
                  rfl
                have e9 : zD (zsD (zsI (zsI (zsD (zsD μ 9 T' a) 10 T' b) 8 7 (nI T' + 1)) (1000 + (j * w + i)) 8 1) (1000 + (j * w + i)) 9 b) (1000 + (j' * w + i')) 9 = zD μ (1000 + (j' * w + i')) 9 := by
                  rw [zD_sD, if_neg (fun e => nc e.1), zD_sI, zD_sI, zD_sD, if_neg (by omega), zD_sD, if_neg (by omega)]
                have nT : ¬ nI (12 * j + i) = nI (12 * j' + i') := fun e => q (by
                  have := hd.2.1
                  have := hd.2.2.2
                  have := (nI_eq (by omega) (by omega)).mp e
                  omega)
                rw [e8, e9]
                refine ⟨fun z g hg => ?_, fun z => ?_⟩
                · rw [i33]
                  by_cases r : g = T'
                  · rw [if_pos r]
                    exact nT
                  · rw [if_neg r]
                    exact u1 z g (by omega)
                · obtain ⟨g, v1, v2, v3, v4⟩ := u2 z
                  refine ⟨g, by omega, ?_, ?_, fun g' h1 h2 => ?_⟩
                  · rw [i33, if_neg (by omega)]
                    exact v2
                  · rw [d35, if_neg (by omega)]
                    exact v3
                  · rw [i33]
                    by_cases r : g' = T'
                    · rw [if_pos r]
                      exact nT
                    · rw [if_neg r]
                      exact v4 g' h1 (by omega)
        · rw [if_neg t, if_pos (by rw [if_pos (show T = 40 by omega)])]
          exact H
/-! speed -/
theorem spd_none {μ : ZMem} {c : Nat} {ly z ax : Int32} : ∀ d k, (∀ n, k ≤ n → n < k + d → zR μ (2000 + n) 0 = some c → zI μ (2000 + n) 3 = ax → s_exists μ (2000 + n) = 0) → s_spd μ c ly z ax d k = 0
  | 0, _, _ => rfl
  | d + 1, k, H => by
    have ih := spd_none (μ := μ) (c := c) (ly := ly) (z := z) (ax := ax) d (k + 1) (fun n h1 h2 => H n (by omega) (by omega))
    unfold s_spd
    by_cases a : zR μ (2000 + k) 0 = some c
    · rw [if_pos a]
      by_cases b : zI μ (2000 + k) 3 = ax
      · rw [if_pos b, if_pos (H k (Nat.le_refl k) (by omega) a b)]
        exact ih
      · rw [if_neg b]
        exact ih
    · rw [if_neg a]
      exact ih
theorem spd_first {μ : ZMem} {c : Nat} {ly z ax : Int32} {n0 : Nat} (e0 : zR μ (2000 + n0) 0 = some c) (e1 : zI μ (2000 + n0) 3 = ax) (e2 : ¬ s_exists μ (2000 + n0) = 0) : ∀ d k, k ≤ n0 → n0 < k + d → (∀ n, n < n0 → k ≤ n → zR μ (2000 + n) 0 = some c → ¬ zI μ (2000 + n) 3 = ax) → s_spd μ c ly z ax d k = s_spv μ ly z n0
  | 0, k, h1, h2, _ => absurd h2 (by omega)
  | d + 1, k, h1, h2, H => by
    unfold s_spd
    by_cases e : k = n0
    · subst e
      rw [if_pos e0, if_pos e1, if_neg e2]
    · have ih := spd_first (ly := ly) (z := z) e0 e1 e2 d (k + 1) (by omega) (by omega) (fun n h3 h4 => H n h3 (by omega))
      by_cases a : zR μ (2000 + k) 0 = some c
      · rw [if_pos a, if_neg (H k (by omega) (Nat.le_refl k) a)]
        exact ih
      · rw [if_neg a]
        exact ih
theorem spd_gen {w h : Nat} {μ : ZMem} {c : Nat} {ly z ax : Int32} (hR : fRf w h μ) (hA : fAx w h μ) {n0 : Nat} (hn : n0 < fcA w h) (e0 : fBef w h n0 = some c) (e1 : fAxi w h n0 = ax) (hU : ∀ n, n < fcA w h → fBef w h n = some c → fAxi w h n = ax → n = n0) : s_spd μ c ly z ax (fcA w h) 0 = if s_exists μ (2000 + n0) = 0 then 0 else s_spv μ ly z n0 := by
  by_cases g : s_exists μ (2000 + n0) = 0
  · rw [if_pos g]
    refine spd_none _ _ (fun n _ h2 a b => ?_)
    have h3 : n < fcA w h := by omega
    rw [(hR n h3).1] at a
    rw [hA n h3] at b
    rw [hU n h3 a b]
    exact g
  · rw [if_neg g]
    refine spd_first ((hR n0 hn).1.trans e0) ((hA n0 hn).trans e1) g _ _ (by omega) (by omega) (fun n h1 _ a b => ?_)
    have h3 : n < fcA w h := by omega
    rw [(hR n h3).1] at a
    rw [hA n h3] at b
    have := hU n h3 a b
    omega
/-- which faces begin at a cell -/
theorem bef_all {w h i j n : Nat} (hd : zDim w h) (hi : i < w) (hj : j < h) (hn : n < fcA w h) (e : fBef w h n = some (1000 + (j * w + i))) : (i + 1 < w ∧ n = nA0 w i j ∧ fAxi w h n = 0) ∨ (j + 1 < h ∧ n = nA1 w h i j ∧ fAxi w h n = 1) ∨ (i + 1 = w ∧ n = nSd4 w h 1 j ∧ fAxi w h n = 0) ∨ (j + 1 = h ∧ n = nSd4 w h 3 i ∧ fAxi w h n = 1) := by
  have l := fc0_1 hd
  by_cases a : n < fc0 w h
  · obtain ⟨u1, u2⟩ := (incA0 hd hi a).1 e
    exact Or.inl ⟨u1, u2, by rw [u2]; exact (face_A0 hd u1 hj).2.2.2⟩
  · by_cases b : n < fc1 w h
    · obtain ⟨u1, u2⟩ := (incA1 hd hi (by omega) b).1 e
      exact Or.inr (Or.inl ⟨u1, u2, by rw [u2]; exact (face_A1 hd hi u1).2.2.2⟩)
    · rcases fCases hd hn with ⟨i', j', hi', hj', rfl⟩ | ⟨i', j', hi', hj', rfl⟩ | ⟨s, t, hs, ht, rfl⟩
      · exact absurd (nA0_lt hi' hj') a
      · exact absurd (nA1_lt (w := w) (h := h) hi' hj').2 b
      · obtain ⟨y1, y2⟩ := incS hd hi hs ht (Or.inl e)
        obtain ⟨f1, _, _, f4⟩ := face_S hd hs ht
        rw [e] at f1
        obtain ⟨d1, d2, d3, d4⟩ := hd
        unfold sI at y1
        unfold sJ at y2
        rcases (show s = 0 ∨ s = 1 ∨ s = 2 ∨ s = 3 by omega) with rfl | rfl | rfl | rfl
        · simp at f1
        · simp at y1 y2
          subst y2
          exact Or.inr (Or.inr (Or.inl ⟨by omega, rfl, f4⟩))
        · simp at f1
        · simp at y1 y2
          subst y1
          exact Or.inr (Or.inr (Or.inr ⟨by omega, rfl, f4⟩))
theorem lay_fin {L Z : Nat} (hL : L ≤ 4) (hZ : Z < L) : zfi (zadd k1 (zmul k025 (FP.i2d (nI L - 1 - 2 * nI Z)))) := by
  have : ∀ l : Fin 5, ∀ z : Fin 4, ((zadd k1 (zmul k025 (FP.i2d (nI l.val - 1 - 2 * nI z.val)))).toNat % 2 ^ 63 < 9218868437227405312 : Bool) = true := by decide +kernel
  exact zfk _ (this ⟨L, by omega⟩ ⟨Z, by omega⟩)
theorem zero_DZ : FP.Core.DZero 0 := zz_iff.mpr ⟨znn_0, zv_0⟩
theorem speed_rel {n w h : Nat} {ly : Int32} {μ m : ZMem} (H : REL n w h ly μ m) (hn : n < 2 ^ 17) (x y z ax : Int32) : zq (s_speed μ w h ly x y z ax) (t_speed m w h ly x y z ax) := by
  have C := H.cx hn (v := k1) ⟨zfk k1 (by decide +kernel), by rw [zk_1]; omega, by have := zU_pos; rw [zk_1]; omega⟩ (hr := 0) (by decide)
  obtain ⟨⟨hd, hF, hL, hB, hM, L, hL4, hly⟩, hC, hS, hs, hW, ht, hN, hne, hga, hfi, hsa, hou⟩ := id H
  have K := mKap_cx (ν := m) hd 0 k1
  have hg := geo_of hL hF
  unfold s_speed t_speed
  rcases cell_cases hd x y with ⟨c1, c2⟩ | ⟨i, j, hi, hj, hx, hy, c1, c2, cx, cy⟩
  · rw [c1]
    have e : t_isWater m w h x y = 0 := by unfold t_isWater; rw [if_pos c2]
    rw [if_pos e]
    exact zq.rf _
  · rw [c1]
    show zq (if s_isLayer ly z = 0 then 0 else s_spd μ (1000 + (j * w + i)) ly z ax (fcA w h) 0) _
    by_cases l : s_isLayer ly z = 0
    · rw [if_pos l, if_pos l]
      split <;> exact zq.rf _
    · rw [if_neg l, if_neg l]
      have hfz : zfi (zadd k1 (zmul k025 (FP.i2d (ly - 1 - 2 * z)))) := by
        have l' := l
        unfold s_isLayer at l'
        by_cases z0 : z < 0
        · rw [if_pos z0] at l'
          exact absurd rfl l'
        · rw [if_neg z0] at l'
          by_cases z1 : ly ≤ z
          · rw [if_pos z1] at l'
            exact absurd rfl l'
          · rw [hly] at z1
            obtain ⟨Z, hZ, rfl⟩ := zix z0 z1 (by omega)
            rw [hly]
            exact lay_fin hL4 hZ
      have zero : zq 0 (t_spf ly z 0) := Or.inr ⟨zero_DZ, zz_mul zero_DZ hfz⟩
      have W := hWt (m := m) hd hi hj
      have d2 := hd.2.1
      have d4 := hd.2.2.2
      rw [hx, hy]
      have key : ∀ n0 f' x' s, n0 < fcA w h → fBef w h n0 = some (1000 + (j * w + i)) → fAxi w h n0 = ax → (∀ q, q < fcA w h → fBef w h q = some (1000 + (j * w + i)) → fAxi w h q = ax → q = n0) → s_exists μ (2000 + n0) = x' → zq (zD μ (2000 + n0) 4) (zD m 11 f') → s = (if ¬ x' = 0 then zD m 11 f' else 0) → zq (s_spd μ (1000 + (j * w + i)) ly z ax (fcA w h) 0) (t_spf ly z s) := by
        intro n0 f' x' s q0 q1 q2 q3 q4 q5 q6
        rw [spd_gen hg.1 hg.2.1 q0 q1 q2 q3, q4, q6]
        by_cases g : x' = 0
        · rw [if_pos g, if_neg (fun e => e g)]
          exact zero
        · rw [if_neg g, if_pos g]
          exact zq_mul q5 (zq.rf _)
      have ax0 : ax = 0 → zq (s_spd μ (1000 + (j * w + i)) ly z ax (fcA w h) 0) (t_spf ly z (t_spS m w h (nI i) (nI j) 0 1)) := by
        intro ha
        subst ha
        unfold t_spS
        rw [nI_clamp (by omega), nI_clamp (by omega)]
        by_cases g : i + 1 < w
        · have F := frel_A0 C K g hj
          have fs : t_hasSide m w h (nI i) (nI j) 1 = 0 := Classical.byContradiction (fun q => by
            have := ((hSd hd hi hj (by decide)).mp q).2.1
            unfold atP at this
            omega)
          refine key (nA0 w i j) (12 * j + i) _ _ (by have := nA0_lt g hj; have := fc0_1 hd; omega) (face_A0 hd g hj).1 (face_A0 hd g hj).2.2.2 (fun q q1 q2 q3 => ?_) F.1 (hS.1 i j g hj) ?_
          · rcases bef_all hd hi hj q1 q2 with ⟨_, e, _⟩ | ⟨_, _, e⟩ | ⟨e, _⟩ | ⟨_, _, e⟩
            · exact e
            · rw [e] at q3
              exact absurd q3 (by decide)
            · omega
            · rw [e] at q3
              exact absurd q3 (by decide)
          · rw [if_neg (show ¬ ¬ t_hasSide m w h (nI i) (nI j) 1 = 0 from fun q => q fs), show 144 * (0 : Int32).toNatClampNeg + (12 * j + i) = 12 * j + i from by
              show 144 * 0 + (12 * j + i) = _
              omega]
        · have e1 : i + 1 = w := by omega
          have F := frel_S C K (s := 1) (t := j) (by decide) (by rw [if_pos (by decide)]; exact hj)
          rw [show sI w 1 j = i from by unfold sI; simp; omega, show sJ h 1 j = j from by unfold sJ; simp] at F
          have ff : t_hasFace m w h (nI i) (nI j) 0 = 0 := Classical.byContradiction (fun q => g ((hF0 hd hi hj).mp q).1)
          have P := face_S (s := 1) (t := j) hd (by decide) (by rw [if_pos (by decide)]; exact hj)
          rw [show sI w 1 j = i from by unfold sI; simp; omega, show sJ h 1 j = j from by unfold sJ; simp] at P
          refine key (nSd4 w h 1 j) (sfN i j 1) _ _ (nSd_lt (s := 1) (by decide) (by rw [if_pos (by decide)]; exact hj)).2 P.1 P.2.2.2 (fun q q1 q2 q3 => ?_) F.1 (hS.2.2 1 j (by decide) (by rw [if_pos (by decide)]; exact hj)) ?_
          · rcases bef_all hd hi hj q1 q2 with ⟨e, _⟩ | ⟨_, _, e⟩ | ⟨_, e, _⟩ | ⟨_, _, e⟩
            · omega
            · rw [e] at q3
              exact absurd q3 (by decide)
            · exact e
            · rw [e] at q3
              exact absurd q3 (by decide)
          · rw [if_neg (show ¬ ¬ t_hasFace m w h (nI i) (nI j) 0 = 0 from fun q => q ff)]
      have ax1 : ax = 1 → zq (s_spd μ (1000 + (j * w + i)) ly z ax (fcA w h) 0) (t_spf ly z (t_spS m w h (nI i) (nI j) 1 3)) := by
        intro ha
        subst ha
        unfold t_spS
        rw [nI_clamp (by omega), nI_clamp (by omega)]
        by_cases g : j + 1 < h
        · have F := frel_A1 C K hi g
          have fs : t_hasSide m w h (nI i) (nI j) 3 = 0 := Classical.byContradiction (fun q => by
            have := ((hSd hd hi hj (by decide)).mp q).2.1
            unfold atP at this
            omega)
          refine key (nA1 w h i j) (144 + (12 * j + i)) _ _ (by have := nA1_lt (w := w) (h := h) hi g; have := fc0_1 hd; omega) (face_A1 hd hi g).1 (face_A1 hd hi g).2.2.2 (fun q q1 q2 q3 => ?_) F.1 (hS.2.1 i j hi g) ?_
          · rcases bef_all hd hi hj q1 q2 with ⟨_, _, e⟩ | ⟨_, e, _⟩ | ⟨_, _, e⟩ | ⟨e, _⟩
            · rw [e] at q3
              exact absurd q3 (by decide)
            · exact e
            · rw [e] at q3
              exact absurd q3 (by decide)
            · omega
          · rw [if_neg (show ¬ ¬ t_hasSide m w h (nI i) (nI j) 3 = 0 from fun q => q fs), show 144 * (1 : Int32).toNatClampNeg + (12 * j + i) = 144 + (12 * j + i) from by
              show 144 * 1 + (12 * j + i) = _
              omega]
        · have e1 : j + 1 = h := by omega
          have F := frel_S C K (s := 3) (t := i) (by decide) (by rw [if_neg (by decide)]; exact hi)
          rw [show sI w 3 i = i from by unfold sI; simp, show sJ h 3 i = j from by unfold sJ; simp; omega] at F
          have ff : t_hasFace m w h (nI i) (nI j) 1 = 0 := Classical.byContradiction (fun q => g ((hF1 hd hi hj).mp q).1)
          have P := face_S (s := 3) (t := i) hd (by decide) (by rw [if_neg (by decide)]; exact hi)
          rw [show sI w 3 i = i from by unfold sI; simp, show sJ h 3 i = j from by unfold sJ; simp; omega] at P
          refine key (nSd4 w h 3 i) (sfN i j 3) _ _ (nSd_lt (s := 3) (by decide) (by rw [if_neg (by decide)]; exact hi)).2 P.1 P.2.2.2 (fun q q1 q2 q3 => ?_) F.1 (hS.2.2 3 i (by decide) (by rw [if_neg (by decide)]; exact hi)) ?_
          · rcases bef_all hd hi hj q1 q2 with ⟨_, _, e⟩ | ⟨e, _⟩ | ⟨_, _, e⟩ | ⟨_, e, _⟩
            · rw [e] at q3
              exact absurd q3 (by decide)
            · omega
            · rw [e] at q3
              exact absurd q3 (by decide)
            · exact e
          · rw [if_neg (show ¬ ¬ t_hasFace m w h (nI i) (nI j) 1 = 0 from fun q => q ff)]
      have none1 : (∀ n, n < fcA w h → fBef w h n = some (1000 + (j * w + i)) → fAxi w h n = ax → s_exists μ (2000 + n) = 0) → s_spd μ (1000 + (j * w + i)) ly z ax (fcA w h) 0 = 0 := fun q => spd_none _ _ (fun n _ h2 a b => by
        have h3 : n < fcA w h := by omega
        rw [(hg.1 n h3).1] at a
        rw [hg.2.1 n h3] at b
        exact q n h3 a b)
      by_cases ww : t_isWater m w h (nI i) (nI j) = 0
      · rw [if_pos ww, none1 (fun q q1 q2 q3 => ?_)]
        · exact zq.rf _
        · have nw : ¬ wtr m i j := fun e => (W.mpr e) ww
          rcases bef_all hd hi hj q1 q2 with ⟨e, rfl, _⟩ | ⟨e, rfl, _⟩ | ⟨e, rfl, _⟩ | ⟨e, rfl, _⟩
          · rw [(frel_A0 C K e hj).1]
            exact Classical.byContradiction (fun q => nw ((hF0 hd hi hj).mp q).2.1)
          · rw [(frel_A1 C K hi e).1]
            exact Classical.byContradiction (fun q => nw ((hF1 hd hi hj).mp q).2.1)
          · have F := (frel_S C K (s := 1) (t := j) (by decide) (by rw [if_pos (by decide)]; exact hj)).1
            rw [show sI w 1 j = i from by unfold sI; simp; omega, show sJ h 1 j = j from by unfold sJ; simp] at F
            rw [F]
            exact Classical.byContradiction (fun q => nw ((hSd hd hi hj (by decide)).mp q).1)
          · have F := (frel_S C K (s := 3) (t := i) (by decide) (by rw [if_neg (by decide)]; exact hi)).1
            rw [show sI w 3 i = i from by unfold sI; simp, show sJ h 3 i = j from by unfold sJ; simp; omega] at F
            rw [F]
            exact Classical.byContradiction (fun q => nw ((hSd hd hi hj (by decide)).mp q).1)
      · rw [if_neg ww]
        by_cases a0 : ax = 0
        · rw [if_neg (by rw [a0]; decide), if_neg (by rw [a0]; decide), if_pos a0]
          have := ax0 a0
          rw [a0] at this ⊢
          exact this
        · by_cases a1 : ax = 1
          · rw [if_neg (by rw [a1]; decide), if_neg (by rw [a1]; decide), if_neg a0]
            have := ax1 a1
            rw [a1] at this ⊢
            exact this
          · rw [none1 (fun q q1 q2 q3 => by
              rcases bef_all hd hi hj q1 q2 with ⟨_, _, e⟩ | ⟨_, _, e⟩ | ⟨_, _, e⟩ | ⟨_, _, e⟩ <;> rw [e] at q3
              · exact absurd q3.symm a0
              · exact absurd q3.symm a1
              · exact absurd q3.symm a0
              · exact absurd q3.symm a1)]
            by_cases b0 : ax < 0
            · rw [if_pos b0]
              exact zq.rf _
            · rw [if_neg b0, if_pos (by
                rw [Int32.lt_iff_toInt_lt] at b0 ⊢
                rw [show (0 : Int32).toInt = 0 from rfl] at b0
                rw [show (1 : Int32).toInt = 1 from rfl]
                have n0 : ax.toInt ≠ 0 := fun e => a0 (Int32.toInt_inj.mp (by rw [e]; rfl))
                have n1 : ax.toInt ≠ 1 := fun e => a1 (Int32.toInt_inj.mp (by rw [e]; rfl))
                omega)]
              exact zq.rf _
