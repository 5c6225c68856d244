/-! save and back, side by side -/
def dSvT (T r : Nat) (_k : Nat) : Prop := r = 80 + T ∨ (100 + 10 * T ≤ r ∧ r < 110 + 10 * T)
def dSvM (T r k : Nat) : Prop := (43 ≤ r ∧ r ≤ 46 ∧ 144 * T ≤ k ∧ k < 144 * T + 144) ∨ (r = 47 ∧ 336 * T ≤ k ∧ k < 336 * T + 336) ∨ (r = 48 ∧ 4 * T ≤ k ∧ k < 4 * T + 4) ∨ ((r = 49 ∨ r = 50 ∨ r = 42) ∧ k = T)
theorem dSav.moT {n w h T : Nat} {μ μ' m m' : ZMem} (hd : zDim w h) (a : agr (dSvT T) μ' μ) (b : agr (dSvM T) m' m) (H : dSav n w h T μ m) : dSav n w h T μ' m' := by
  have c1 : ∀ x k, x < 7 → dSvT T (100 + 10 * T + x) k := fun x k hx => Or.inr ⟨by omega, by omega⟩
  have c2 : ∀ r k, 43 ≤ r → r ≤ 46 → k < 144 → dSvM T r (144 * T + k) := fun r k h1 h2 h3 => Or.inl ⟨h1, h2, by omega, by omega⟩
  refine dRel_cg hd (fun k _ => ⟨a.l (c1 0 _ (by omega)), a.d (c1 1 _ (by omega)), a.d (c1 2 _ (by omega)), a.d (c1 3 _ (by omega))⟩) (fun k _ => a.d (c1 4 _ (by omega))) (fun s hs => ⟨a.l (c1 6 _ (by omega)), b.l (Or.inr (Or.inr (Or.inl ⟨rfl, by omega, by omega⟩)))⟩) ⟨a.l (Or.inl rfl), a.d (Or.inl rfl), b.l (Or.inr (Or.inr (Or.inr ⟨Or.inl rfl, rfl⟩))), b.d (Or.inr (Or.inr (Or.inr ⟨Or.inr (Or.inl rfl), rfl⟩)))⟩ (fun k hk => ⟨b.l (c2 _ _ (by omega) (by omega) hk), b.d (c2 _ _ (by omega) (by omega) hk), b.d (c2 _ _ (by omega) (by omega) hk), b.d (c2 _ _ (by omega) (by omega) hk)⟩) (fun k hk => b.d (Or.inr (Or.inl ⟨rfl, by omega, by omega⟩))) H
theorem sOK.moT {n w h T CH : Nat} {μ μ' m m' : ZMem} (hd : zDim w h) (hT : T < 4) (a : agr (dSvT T) μ' μ) (b : agr (dSvM T) m' m) (c : agr (fun r k => (60 ≤ r ∧ r < 70) ∨ (r = 0 ∧ k = 11)) μ' μ) (d : zI m' 4 = zI m 4) (H : sOK n w h T CH μ m) : sOK n w h T CH μ' m' := by
  obtain ⟨h1, h2, h3, h4⟩ := H
  have e42 : zI m' 42 T = zI m 42 T := b.i (Or.inr (Or.inr (Or.inr ⟨Or.inr (Or.inr rfl), rfl⟩)))
  refine ⟨?_, ?_, h3.moT hd a b, fun q => ?_⟩
  · rw [a.i (Or.inl rfl), e42]
    exact h1
  · rw [e42]
    exact h2
  · rw [e42] at q
    obtain ⟨q1, q2, q3⟩ := h4 q
    refine ⟨fun j hj i hi nw => ?_, fun i hi k hk hr => ?_, fun i R hi hR e k hk => ?_⟩
    · have := hd.2.1
      have := hd.2.2.2
      rw [b.l (Or.inl ⟨by omega, by omega, by omega, by omega⟩)]
      refine q1 j hj i hi (fun y => nw ?_)
      unfold wtr at y ⊢
      rw [d]
      exact y
    · rw [c.r (Or.inl ⟨by omega, by omega⟩)] at hr
      have es : sumK μ' T i (s_cnt μ (60 + i)) = sumK μ T i (s_cnt μ (60 + i)) := by
        unfold sumK
        exact zit_sc _ (fun l _ => a.l (Or.inr ⟨by omega, by omega⟩))
      rw [cnt_mo c (Or.inl ⟨by omega, by omega⟩), es, a.l (Or.inr ⟨by omega, by omega⟩)]
      exact q2 i hi k hk hr
    · rw [c.i (Or.inr ⟨rfl, rfl⟩)] at e
      rw [a.l (Or.inr ⟨by omega, by omega⟩)]
      exact q3 i R hi hR e k hk
theorem save_rel {n w h : Nat} {ly : Int32} {μ m : ZMem} (H : REL n w h ly μ m) {S : Nat} (hS' : zI m 0 39 = nI S) (hS2 : S ≤ 4) : REL n w h ly (u_save μ (w * h) (fcA w h) S) (q_save m S) := by
  obtain ⟨⟨hd, hF, hL, hB, hM, hly⟩, hC, hS, hs, hW, ht, hN, hne, hga, hfi, hsa, hou⟩ := id H
  unfold u_save q_save
  by_cases g : S < 4
  · rw [if_pos g, if_pos g]
    obtain ⟨a1, a2, a3, a4, a5, a6, a7, a8, a9, a10, a11⟩ := csave_pt μ (N := w * h) (F := fcA w h) g
    obtain ⟨b1, b2, b3, b4, b5, b6, b7, b8, b9, b10, b11⟩ := msave_pt m S
    have h144 : w * h ≤ 12 * 12 := Nat.mul_le_mul hd.2.1 hd.2.2.2
    generalize u_save1 μ (w * h) (fcA w h) S = ρ at *
    generalize q_save1 m S = σ at *
    have agC : ∀ D : Nat → Nat → Prop, (∀ k, ¬ D (80 + S) k) → (∀ r k, D r k → ¬ (100 + 10 * S ≤ r ∧ r < 110 + 10 * S)) → ¬ D 0 12 → agr D ρ μ := fun D h1 h2 h3 r k hD => by
      have n1 : r ≠ 80 + S := fun e => h1 k (e ▸ hD)
      obtain ⟨x1, x2⟩ := a11 r k n1 (h2 r k hD)
      exact ⟨a2 r k (fun q => n1 q.1) (fun q => h3 (q.1 ▸ q.2 ▸ hD)), x1, x2, by rw [a1]⟩
    have agM : ∀ D : Nat → Nat → Prop, (∀ r k, D r k → ¬ (43 ≤ r ∧ r ≤ 46 ∧ 144 * S ≤ k ∧ k < 144 * S + 144) ∧ ¬ (r = 47 ∧ 336 * S ≤ k ∧ k < 336 * S + 336) ∧ ¬ (r = 48 ∧ 4 * S ≤ k ∧ k < 4 * S + 4) ∧ ¬ ((r = 49 ∨ r = 50 ∨ r = 42) ∧ k = S)) → ¬ D 0 39 → agr D σ m := fun D h1 h2 r k hD => by
      have q := h1 r k hD
      have n39 : ¬ (r = 0 ∧ k = 39) := fun e => h2 (e.1 ▸ e.2 ▸ hD)
      exact ⟨b2 r k (by omega) n39, b10 r k (by omega) (by omega) (by omega), b11 r k (by omega) (by omega) (by omega), by rw [b1]⟩
    have m0 : ∀ k, k ≠ 39 → zI σ 0 k = zI m 0 k := fun k hk => b2 0 k (by omega) (by omega)
    have m4 : zI σ 4 = zI m 4 := funext fun k => b2 4 k (by omega) (by omega)
    refine REL.mk' (Nat.le_refl n) H (zLC_of (fun r k q => by rw [a1]) (fun r k q => a2 r k (by omega) (by omega))) (fun q => ⟨fun k n' hk hr => q.1 k n' hk (by rw [a1] at hr; exact hr), fun i' hi' => by rw [a2 _ _ (by omega) (by omega)]; exact q.2 i' hi'⟩) (fun q => ⟨fun k hk => by rw [b1]; exact q.1 k hk, (m0 0 (by decide)).trans q.2.1, (m0 1 (by decide)).trans q.2.2.1, (m0 2 (by decide)).trans q.2.2.2.1, q.2.2.2.2⟩) (hC.mo hd (agC _ (fun k => by unfold dCell cR; omega) (fun r k => by unfold dCell cR; omega) (by unfold dCell cR; omega)) (agM _ (fun r k => by unfold dCellM; omega) (by unfold dCellM; omega))) (hS.mo hd hF (agC _ (fun k => by unfold dSpd fR; omega) (fun r k => by unfold dSpd fR; omega) (by unfold dSpd fR; omega)) (agM _ (fun r k => by unfold dSpdM; omega) (by unfold dSpdM; omega))) (hs.mo (agC _ (fun k => by unfold dSide; omega) (fun r k => by unfold dSide; omega) (by unfold dSide; omega)) (agM _ (fun r k => by unfold dSideM; omega) (by unfold dSideM; omega))) (hW.mo (agC _ (fun k => by unfold dWind; omega) (fun r k => by unfold dWind; omega) (by unfold dWind; omega)) (agM _ (fun r k => by unfold dWindM; omega) (by unfold dWindM; omega))) (ht.mo (agC _ (fun k => by unfold dTime; omega) (fun r k => by unfold dTime; omega) (by unfold dTime; omega)) (agM _ (fun r k => by unfold dTimeM; omega) (by unfold dTimeM; omega))) (hN.mo (agM _ (fun r k => by unfold dNum; omega) (by unfold dNum; omega))) (hne.mo hd (agC _ (fun k => by unfold dNest cR; omega) (fun r k => by unfold dNest cR; omega) (by unfold dNest cR; omega)) (agM _ (fun r k => by unfold dNestM; omega) (by unfold dNestM; omega)) (m0 27 (by decide))) (hga.mo hd (agC _ (fun k => by unfold dGauge cR; omega) (fun r k => by unfold dGauge cR; omega) (by unfold dGauge cR; omega)) (agM _ (fun r k => by unfold dGaugeM; omega) (by unfold dGaugeM; omega)) (m0 31 (by decide))) (hfi.mo (agC _ (fun k => by unfold dFit; omega) (fun r k => by unfold dFit; omega) (by unfold dFit; omega)) (agM _ (fun r k => by unfold dFitM; omega) (by unfold dFitM; omega)) (m0 38 (by decide))) ?_ ?_
    · obtain ⟨S', CH, s0, s1, s2, s3, s4, s5, s6, s7⟩ := hsa
      have eS : S' = S := (nI_eq (by omega) (by omega)).mp (s3.symm.trans hS')
      subst eS
      refine ⟨S' + 1, CH, by omega, s1, ?_, b4, ?_, ?_, fun T h1 h2 => ?_, fun T hT => ?_⟩
      · rw [a4, nI_1]
      · rw [a2 _ _ (by omega) (by omega)]
        exact s4
      · rw [m0 40 (by decide)]
        exact s5
      · rw [a2 _ _ (by omega) (by omega)]
        exact s6 T (by omega) h2
      · by_cases eT : T = S'
        · subst eT
          have D := dCur_of hC hS hs ht hN
          have e42 : zI σ 42 T = nI CH := b3.trans s5
          refine ⟨?_, ⟨CH, Nat.le_refl _, e42⟩, dRel_cg hd (fun k hk => a5 k hk) (fun k hk => a6 k hk) (fun s h4 => ⟨a8 s h4, b7 s h4⟩) ⟨a9, a10, b8, b9⟩ (fun k hk => b5 k hk) (fun k hk => b6 k hk) D, fun _ => ⟨fun j hj i hi nw => ?_, fun i hi k hk hr => ?_, fun i R hi hR e k hk => ?_⟩⟩
          · rw [a3, e42, s4]
          · have := hd.2.1
            have := hd.2.2.2
            rw [(b5 (12 * j + i) (by omega)).1]
            refine (hN.1 j hj i hi).2.1 (fun y => nw ?_)
            unfold wtr at y ⊢
            rw [m4]
            exact y
          · rw [a1] at hr
            obtain ⟨T', t0, _, _, _, _, t5, _⟩ := hne
            obtain ⟨x', y', hx', hy', e1, _, _, c1, c8, e5⟩ := t5 i hi _ hr
            have ecn : s_cnt ρ (60 + i) = s_cnt μ (60 + i) := by
              unfold s_cnt
              rw [a2 _ _ (by omega) (by omega)]
            rw [ecn, (a5 k hk).1, ← e5]
            unfold sumK s_sumS
            refine zit_sc _ (fun l hl => ?_)
            rw [a7 _ (by omega), show (8 * i + l) / 8 = i by omega, show (8 * i + l) % 8 = l by omega]
          · obtain ⟨T', t0, t1, _, t3, _⟩ := hne
            rw [a2 0 11 (by omega) (by omega), t1] at e
            have eR : T' = R := (nI_eq (by omega) (by omega)).mp e
            rw [a7 _ (by omega), show (8 * i + k) / 8 = i by omega, show (8 * i + k) % 8 = k by omega]
            exact (t3 i (by omega) hi).2 k hk
        · exact (s7 T (by omega)).moT hd (by omega) (agC _ (fun k => by unfold dSvT; omega) (fun r k => by unfold dSvT; omega) (by unfold dSvT; omega)) (agM _ (fun r k => by unfold dSvM; omega) (by unfold dSvM; omega)) (agC _ (fun k => by omega) (fun r k => by omega) (by omega)) m4
    · intro c h1 h2
      obtain ⟨o1, o2⟩ := hou c h1 h2
      refine ⟨?_, fun T hT => ?_⟩
      · rw [b10 7 c (by omega) (by omega) (by omega)]
        exact o1
      · by_cases eT : T = S
        · subst eT
          rw [(b5 c h1).1]
          exact o1
        · rw [b10 43 _ (by omega) (by omega) (by omega)]
          exact o2 T hT
  · rw [if_neg g, if_neg g]
    exact H
theorem back_rel {n w h : Nat} {ly : Int32} {μ m : ZMem} (hn : n < 2 ^ 30) (H : REL n w h ly μ m) {S : Nat} (hS' : zI m 0 39 = nI S) (hS2 : S ≤ 4) (x : Int32) : s_back μ x = t_back m S x ∧ REL n w h ly (u_back μ (w * h) (fcA w h) x) (q_back m S x) := by
  obtain ⟨⟨hd, hF, hL, hB, hM, hly⟩, hC, hS, hs, hW, ht, hN, hne, hga, hfi, hsa, hou⟩ := id H
  obtain ⟨S', CH, s0, s1, s2, s3, s4, s5, s6, s7⟩ := id hsa
  have eS : S' = S := (nI_eq (by omega) (by omega)).mp (s3.symm.trans hS')
  subst eS
  have h144 : w * h ≤ 12 * 12 := Nat.mul_le_mul hd.2.1 hd.2.2.2
  unfold s_back u_back q_back t_back
  by_cases x0 : x < 0
  · rw [if_pos x0, if_pos x0, if_pos x0, if_pos rfl]
    exact ⟨rfl, H⟩
  · rw [if_neg x0, if_neg x0, if_neg x0]
    by_cases x4 : x < nI 4
    · obtain ⟨T, hT, rfl⟩ := zix x0 (Int32.not_le.mpr x4) (by decide)
      rw [if_pos x4, if_pos x4, nI_clamp (by omega)]
      by_cases gS : S' ≤ T
      · rw [if_pos (show nI S' ≤ nI T from by
          have : ∀ a b : Fin 5, a.val ≤ b.val → nI a.val ≤ nI b.val := by decide
          exact this ⟨S', by omega⟩ ⟨T, by omega⟩ gS), s6 T gS hT, s4, if_neg (fun q => nI_ne1 (n := CH) (by omega) q.symm), if_neg (fun q => nI_ne1 (n := CH) (by omega) q.symm), if_pos rfl]
        exact ⟨rfl, H⟩
      · have hTS : T < S' := by omega
        obtain ⟨o1, o2, o3, o4⟩ := s7 T hTS
        rw [if_neg (show ¬ nI S' ≤ nI T from nI_ge hTS (by omega)), o1, s4, s5]
        by_cases e : zI m 42 T = nI CH
        · rw [if_pos e, if_pos e, if_neg (show ¬ (1 : Int32) = 0 by decide)]
          refine ⟨rfl, ?_⟩
          obtain ⟨q1, q2, q3⟩ := o4 e
          obtain ⟨r1, r2, ⟨r3, r4, r5⟩, r6, r7, r8, r9, r10⟩ := o3
          obtain ⟨a1, a2, a3, a4, a5, a6, a7, a8, a9, a10⟩ := cback_pt μ (N := w * h) (F := fcA w h) (by omega) hT
          obtain ⟨b1, b2, b3, b4, b5, b6, b7, b8, b9⟩ := mback_pt m T
          obtain ⟨d1, d2, d3, d4⟩ := id hd
          generalize u_back1 μ (w * h) (fcA w h) T = ρ at *
          generalize q_back1 m T = σ at *
          have agC : ∀ D : Nat → Nat → Prop, (∀ r k, D r k → ¬ (1000 ≤ r ∧ r < 2000 ∧ 2 ≤ k ∧ k ≤ 5) ∧ ¬ (70 ≤ r ∧ r < 80) ∧ ¬ (30 ≤ r ∧ r < 34 ∧ k = 4) ∧ ¬ (r = 0 ∧ k = 16) ∧ ¬ (r = 0 ∧ k = 14) ∧ ¬ (2000 ≤ r ∧ r < 3000 ∧ k = 4)) → agr D ρ μ := fun D h1 r k hD => by
            have q := h1 r k hD
            exact ⟨by rw [a2], a9 r k (by omega) (by omega) (by omega) (by omega), a10 r k (by omega) (by omega) (by omega), by rw [a1]⟩
          have agM : ∀ D : Nat → Nat → Prop, (∀ r k, D r k → ¬ (7 ≤ r ∧ r ≤ 12) ∧ ¬ (r = 0 ∧ k = 12) ∧ ¬ (r = 0 ∧ k = 13)) → agr D σ m := fun D h1 r k hD => by
            have q := h1 r k hD
            exact ⟨by rw [b2], b8 r k (by omega) (by omega) (by omega), b9 r k (by omega) (by omega), by rw [b1]⟩
          have wt : ∀ i j, wtr σ i j ↔ wtr m i j := fun i j => by unfold wtr; rw [b2]
          refine REL.mk' (Nat.le_refl n) H (zLC_RI ⟨a1, a2⟩) (zNB_RI ⟨a1, a2⟩) (zLM_kp ⟨b1, by rw [b2]⟩) (fun j hj i hi => ?_) ⟨fun i j hi hj => ?_, fun i j hi hj => ?_, fun s t hs' ht' => ?_⟩ (fun s hs' => ?_) (hW.mo (agC _ (fun r k => by unfold dWind; omega)) (agM _ (fun r k => by unfold dWindM; omega))) ⟨?_, ?_, ?_⟩ ⟨fun j hj i hi => ?_, ?_, fun j hj i hi => ?_, fun k hk => ?_, fun j hj i hi => ⟨fun k hk => ?_, fun k hk ha => ?_⟩, fun k hk => ?_, ?_⟩ ?_ (hga.mo hd (agC _ (fun r k => by unfold dGauge cR; omega)) (agM _ (fun r k => by unfold dGaugeM; omega)) (by rw [b2])) (hfi.mo (agC _ (fun r k => by unfold dFit; omega)) (agM _ (fun r k => by unfold dFitM; omega)) (by rw [b2])) ?_ ?_
          · have R := hC j hj i hi
            obtain ⟨p1, p2, p3, p4, _⟩ := r1 j hj i hi
            have gl := glt hi hj
            obtain ⟨c1, c2, c3, c4⟩ := a3 _ gl
            obtain ⟨e1, e2, e3, e4⟩ := b3 (12 * j + i) (by omega)
            unfold rCell at R ⊢
            rw [a2, b2, a10 _ 1 (by omega) (by omega) (by omega), b9 5 _ (by omega) (by omega), c1, e1, c2, e2, c3, e3, c4, e4, a10 _ 6 (by omega) (by omega) (by omega), b9 6 _ (by omega) (by omega)]
            exact ⟨R.1, R.2.1, p1, p2, p3, p4, R.2.2.2.2.2.2⟩
          · rw [a4 _ (by have := nA0_lt hi hj; have := fc0_1 hd; omega), b4 _ (by omega)]
            exact r3 i j hi hj
          · rw [a4 _ (by have := nA1_lt (w := w) (h := h) hi hj; have := fc0_1 hd; omega), b4 _ (by omega)]
            exact r4 i j hi hj
          · rw [a4 _ (nSd_lt hs' ht').2, b4 _ (by split at ht' <;> omega)]
            exact r5 s t hs' ht'
          · obtain ⟨u1, u2, u3⟩ := hs s hs'
            refine ⟨?_, ?_, fun k hk => ?_⟩
            · rw [a6 s hs', b5 s hs']
              exact r7 s hs'
            · rw [a2, b2]
              exact u2
            · rw [b2, a10 (40 + s) k (by omega) (by omega) (by omega), a10 (50 + s) k (by omega) (by omega) (by omega), b9 24 _ (by omega) (by omega), b9 25 _ (by omega) (by omega)]
              exact u3 k hk
          · rw [a8, b7]
            exact r9
          · rw [a9 0 15 (by omega) (by omega) (by omega) (by omega), b8 0 14 (by omega) (by omega) (by omega)]
            exact ht.2.1
          · rw [a7, b6]
            exact r8
          · obtain ⟨_, _, _, _, p5, p6, p7⟩ := r1 j hj i hi
            obtain ⟨e1, e2, e3, e4⟩ := b3 (12 * j + i) (by omega)
            rw [e1, e2, e3, wt, b9 6 _ (by omega) (by omega)]
            exact ⟨p5, fun nw => q1 j hj i hi nw, p6, p7, (hN.1 j hj i hi).2.2.2.2⟩
          · have : zTt w h σ = zs2 (fun i j => (zL m 43 (144 * T + (12 * j + i))).toInt) w h := zs2_cg (fun j hj i hi => by rw [(b3 (12 * j + i) (by omega)).1])
            rw [this]
            exact r2
          · rw [b9 5 _ (by omega) (by omega)]
            exact hN.2.2.1 j hj i hi
          · rw [b9 26 _ (by omega) (by omega), b9 27 _ (by omega) (by omega)]
            exact hN.2.2.2.1 k hk
          · rw [b4 _ (by omega)]
            exact (r6 j hj i hi).1 k hk
          · rw [b4 _ (sfN_lt (by omega) (by omega) hk)]
            exact (r6 j hj i hi).2 k hk ha
          · have := hN.2.2.2.2.2.1 k hk
            unfold zWv at this ⊢
            intro l hl
            rw [b2, b9 24 _ (by omega) (by omega), b9 25 _ (by omega) (by omega)]
            exact this l hl
          · rw [b7]
            exact r10
          · obtain ⟨T', t0, t1, t2, t3, t4, t5, t6⟩ := hne
            have ec : ∀ i, s_cnt ρ i = s_cnt μ i := fun i => by unfold s_cnt; rw [a2]
            refine ⟨T', t0, ?_, ?_, fun i h1 h2 => ?_, fun i hi => ?_, fun i hi c hc => ?_, fun x y hx hy => ⟨?_, fun n' hn' => ?_⟩⟩
            · rw [a2]
              exact t1
            · rw [b2]
              exact t2
            · rw [a1]
              refine ⟨(t3 i h1 h2).1, fun k hk => ?_⟩
              have := a5 (8 * i + k) (by omega)
              rw [show (8 * i + k) / 8 = i by omega, show (8 * i + k) % 8 = k by omega] at this
              rw [this]
              exact q3 i T' h2 h1 t1 k hk
            · rw [a1, b2]
              exact t4 i hi
            · rw [a1] at hc
              obtain ⟨x, y, hx, hy, rfl, e1, e2, e3, e4, e5⟩ := t5 i hi c hc
              refine ⟨x, y, hx, hy, rfl, ?_, ?_, ?_, ?_, ?_⟩
              · rw [a1]
                exact e1
              · rw [b2]
                exact e2
              · rw [ec]
                exact e3
              · rw [ec]
                exact e4
              · rw [ec, (a3 _ (glt hx hy)).1, ← q2 i hi _ (glt hx hy) hc]
                unfold sumK s_sumS
                refine zit_sc _ (fun l hl => ?_)
                have := a5 (8 * i + l) (by omega)
                rw [show (8 * i + l) / 8 = i by omega, show (8 * i + l) % 8 = l by omega] at this
                exact this
            · rw [a1, b2]
              exact (t6 x y hx hy).1
            · rw [a1] at hn'
              obtain ⟨i, hi, rfl, e⟩ := (t6 x y hx hy).2 n' hn'
              refine ⟨i, hi, rfl, ?_⟩
              rw [a1]
              exact e
          · exact hsa.mo hd (Nat.le_refl n) (agC _ (fun r k => by unfold dSave; omega)) (agM _ (fun r k => by unfold dSaveM; omega)) (by rw [b2]) (by rw [b2])
          · intro c h1 h2
            obtain ⟨o1, o2⟩ := hou c h1 h2
            refine ⟨?_, fun T2 hT2 => ?_⟩
            · rw [(b3 c h1).1]
              exact o2 T hT
            · rw [b8 43 _ (by omega) (by omega) (by omega)]
              exact o2 T2 hT2
        · rw [if_neg e, if_neg e, if_pos rfl]
          exact ⟨rfl, H⟩
    · rw [if_neg x4, if_neg x4, if_pos (show nI S' ≤ x from by
        have h1 := Int32.not_lt.mp x4
        rw [Int32.le_iff_toInt_le] at h1 ⊢
        have : ∀ k : Fin 5, (nI k.val).toInt ≤ (nI 4).toInt := by decide
        have h5 : (nI S').toInt ≤ (nI 4).toInt := this ⟨S', by omega⟩
        omega), if_pos rfl]
      exact ⟨rfl, H⟩
