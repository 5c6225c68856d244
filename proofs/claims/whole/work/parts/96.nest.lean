/-! a nest -/
def dSav1 (r _k : Nat) : Prop := (80 ≤ r ∧ r < 84) ∨ (100 ≤ r ∧ r < 140)
def dSavM1 (r _k : Nat) : Prop := 42 ≤ r ∧ r ≤ 50
theorem dSav.mo1 {n w h T : Nat} {μ μ' m m' : ZMem} (hd : zDim w h) (hT : T < 4) (a : agr dSav1 μ' μ) (b : agr dSavM1 m' m) (H : dSav n w h T μ m) : dSav n w h T μ' m' := by
  have c1 : ∀ x k, x < 7 → dSav1 (100 + 10 * T + x) k := fun x k hx => Or.inr ⟨by omega, by omega⟩
  have c2 : ∀ r k, 42 ≤ r → r ≤ 50 → dSavM1 r k := fun r k h1 h2 => ⟨h1, h2⟩
  refine dRel_cg hd (fun k _ => ⟨a.l (c1 0 _ (by omega)), a.d (c1 1 _ (by omega)), a.d (c1 2 _ (by omega)), a.d (c1 3 _ (by omega))⟩) (fun k _ => a.d (c1 4 _ (by omega))) (fun s _ => ⟨a.l (c1 6 _ (by omega)), b.l (c2 _ _ (by omega) (by omega))⟩) ⟨a.l (Or.inl ⟨by omega, by omega⟩), a.d (Or.inl ⟨by omega, by omega⟩), b.l (c2 _ _ (by omega) (by omega)), b.d (c2 _ _ (by omega) (by omega))⟩ (fun k _ => ⟨b.l (c2 _ _ (by omega) (by omega)), b.d (c2 _ _ (by omega) (by omega)), b.d (c2 _ _ (by omega) (by omega)), b.d (c2 _ _ (by omega) (by omega))⟩) (fun k _ => b.d (c2 _ _ (by omega) (by omega))) H
/-- a change of the sea: what was kept stays kept, and doesn't come back -/
theorem rSave.chg {n w h : Nat} {μ μ' m m' : ZMem} (hd : zDim w h) (hn : n < 2 ^ 30) (a : agr dSav1 μ' μ) (b : agr dSavM1 m' m) (a2 : zI μ' 0 12 = zI μ 0 12) (a3 : zI μ' 0 13 = zI μ 0 13 + 1) (b9 : zI m' 0 39 = zI m 0 39) (b0 : zI m' 0 40 = zI m 0 40 + 1) (H : rSave n w h μ m) : rSave (n + 1) w h μ' m' := by
  obtain ⟨S, CH, s0, s1, s2, s3, s4, s5, s6, s7⟩ := H
  refine ⟨S, CH + 1, s0, by omega, a2.trans s2, b9.trans s3, ?_, ?_, fun T h1 h2 => ?_, fun T hT => ?_⟩
  · rw [a3, s4, nI_1]
  · rw [b0, s5, nI_1]
  · rw [a.i (Or.inl ⟨by omega, by omega⟩)]
    exact s6 T h1 h2
  · obtain ⟨h1, ⟨CT, hc1, hc2⟩, h3, _⟩ := s7 T hT
    have e42 : zI m' 42 T = zI m 42 T := b.i ⟨by omega, by omega⟩
    refine ⟨?_, ⟨CT, by omega, ?_⟩, dRel.up (by omega) (dSav.mo1 hd (by omega) a b h3), fun q => ?_⟩
    · rw [a.i (Or.inl ⟨by omega, by omega⟩), e42]
      exact h1
    · rw [e42]
      exact hc2
    · rw [e42, hc2] at q
      have := (nI_eq (by omega) (by omega)).mp q
      omega
theorem z2_cases (z : Int32) : (z < 2 ∧ True) ∨ (¬ z < 2 ∧ ¬ z ≤ 8 ∧ 8 < z) ∨ ∃ C, 2 ≤ C ∧ C ≤ 8 ∧ z = nI C ∧ ¬ z < 2 ∧ z ≤ 8 ∧ ¬ 8 < z ∧ z.toNatClampNeg = C := by
  by_cases a : z < 2
  · exact Or.inl ⟨a, trivial⟩
  · by_cases b : z ≤ 8
    · obtain ⟨C, hC, rfl⟩ := zix (n := 9) (x := z) (fun q => a (by
        rw [Int32.lt_iff_toInt_lt] at q ⊢
        rw [show (0 : Int32).toInt = 0 from rfl] at q
        rw [show (2 : Int32).toInt = 2 from rfl]
        omega)) (fun q => by
        rw [Int32.le_iff_toInt_le] at q b
        rw [show (nI 9).toInt = 9 from rfl] at q
        rw [show (8 : Int32).toInt = 8 from rfl] at b
        omega) (by decide)
      have k2 : ∀ k : Fin 9, ¬ nI k.val < 2 → 2 ≤ k.val := by decide
      exact Or.inr (Or.inr ⟨C, k2 ⟨C, hC⟩ a, by omega, rfl, a, b, Int32.not_lt.mpr b, nI_clamp (by omega)⟩)
    · exact Or.inr (Or.inl ⟨a, b, Int32.not_le.mp b⟩)
theorem nest_rel {n w h : Nat} {ly : Int32} {μ m : ZMem} (hn : n < 2 ^ 30) (H : REL n w h ly μ m) {T : Nat} (hT : zI m 0 27 = nI T) (hT2 : T ≤ 10) (x y z : Int32) : s_nest μ w h T x y z = t_nest m w h T x y z ∧ REL (n + 1) w h ly (u_nest μ w h T x y z) (q_nest m w h T x y z) := by
  obtain ⟨⟨hd, hF, hL, hB, hM, hly⟩, hC, hS, hs, hW, ht, hN, hne, hga, hfi, hsa, hou⟩ := id H
  have up : REL (n + 1) w h ly μ m := H.up (by omega)
  obtain ⟨T', t0, t1, t2, t3, t4, t5, t6⟩ := id hne
  have eT : T' = T := (nI_eq (by omega) (by omega)).mp (t2.symm.trans hT)
  subst eT
  unfold q_nest
  rcases water_cases hd hC x y with ⟨a, b⟩ | ⟨i, j, hi, hj, _, _, a, b, cx, cy, _⟩
  · have e : t_nest m w h T' x y z = -1 := by unfold t_nest; rw [if_pos b]
    rw [e, if_pos rfl]
    unfold s_nest u_nest
    rw [a]
    exact ⟨rfl, up⟩
  · obtain ⟨n30, nb⟩ := t6 i j hi hj
    have es : ∀ {α : Type} (A B : α), s_waterAt μ w h x y = some (1000 + (j * w + i)) := fun _ _ => a
    cases hb : zR μ (1000 + (j * w + i)) 7 with
    | some q =>
      have e : t_nest m w h T' x y z = -1 := by
        unfold t_nest
        rw [if_neg b, cx, cy, if_pos (fun e => by rw [n30.mp e] at hb; exact absurd hb (by simp))]
      rw [e, if_pos rfl]
      unfold s_nest u_nest
      rw [a]
      show (match zR μ (1000 + (j * w + i)) 7 with | some _ => -1 | none => if z < 2 then -1 else if z ≤ 8 then (if T' < 10 then nI T' else -1) else -1 : Int32) = -1 ∧ REL (n + 1) w h ly (match zR μ (1000 + (j * w + i)) 7 with | some _ => μ | none => if z < 2 then μ else if z ≤ 8 then (if T' < 10 then u_nest1 μ (1000 + (j * w + i)) T' z.toNatClampNeg else μ) else μ) m
      rw [hb]
      exact ⟨rfl, up⟩
    | none =>
      have z30 := n30.mpr hb
      have e : t_nest m w h T' x y z = if z < 2 then -1 else if 8 < z then -1 else if T' = 10 then -1 else nI T' := by
        unfold t_nest
        rw [if_neg b, cx, cy, if_neg (fun e => e z30)]
      have e2 : s_nest μ w h T' x y z = if z < 2 then -1 else if z ≤ 8 then (if T' < 10 then nI T' else -1) else -1 := by
        unfold s_nest
        rw [a]
        show (match zR μ (1000 + (j * w + i)) 7 with | some _ => -1 | none => if z < 2 then -1 else if z ≤ 8 then (if T' < 10 then nI T' else -1) else -1 : Int32) = _
        rw [hb]
      have e3 : u_nest μ w h T' x y z = if z < 2 then μ else if z ≤ 8 then (if T' < 10 then u_nest1 μ (1000 + (j * w + i)) T' z.toNatClampNeg else μ) else μ := by
        unfold u_nest
        rw [a]
        show (match zR μ (1000 + (j * w + i)) 7 with | some _ => μ | none => if z < 2 then μ else if z ≤ 8 then (if T' < 10 then u_nest1 μ (1000 + (j * w + i)) T' z.toNatClampNeg else μ) else μ) = _
        rw [hb]
      rw [e2, e3, cx, cy]
      rcases z2_cases z with ⟨p, _⟩ | ⟨p, q, r⟩ | ⟨C, C2, C8, _, p, q, r, cz⟩
      · rw [e, if_pos p, if_pos p, if_pos p, if_pos rfl]
        exact ⟨rfl, up⟩
      · rw [e, if_neg p, if_neg p, if_neg p, if_neg q, if_neg q, if_pos r, if_pos rfl]
        exact ⟨rfl, up⟩
      · by_cases t : T' = 10
        · rw [e, if_neg p, if_neg p, if_neg p, if_pos q, if_pos q, if_neg r, if_pos t, if_neg (by omega), if_neg (by omega), if_pos rfl]
          exact ⟨rfl, up⟩
        · rw [e, if_neg p, if_neg p, if_neg p, if_pos q, if_pos q, if_neg r, if_neg t, if_pos (by omega), if_pos (by omega), if_neg (nI_ne1 (by omega)), cz]
          refine ⟨rfl, ?_⟩
          have gl := glt hi hj
          have h144 : w * h ≤ 12 * 12 := Nat.mul_le_mul hd.2.1 hd.2.2.2
          unfold u_nest1 u_settleIn q_nest1
          obtain ⟨g1, g2, g3, g4, g5⟩ := u_grow_pt (zL μ (1000 + (j * w + i)) 2) (show 1 ≤ C by omega) C8 (70 + T') (zsR (zsI (zsR μ (60 + T') 1 (some (1000 + (j * w + i)))) (60 + T') 2 (nI C)) (1000 + (j * w + i)) 7 (some (60 + T')))
          generalize u_grow (zsR (zsI (zsR μ (60 + T') 1 (some (1000 + (j * w + i)))) (60 + T') 2 (nI C)) (1000 + (j * w + i)) 7 (some (60 + T'))) (70 + T') (zL μ (1000 + (j * w + i)) 2) C = Z at *
          simp only []
          have sum0 : s_sumS (zsR (zsI (zsR μ (60 + T') 1 (some (1000 + (j * w + i)))) (60 + T') 2 (nI C)) (1000 + (j * w + i)) 7 (some (60 + T'))) (70 + T') C = 0 := by
            show s_sumS μ (70 + T') C = 0
            unfold s_sumS
            rw [zit_sc (g := fun _ => 0) C (fun k hk => (t3 T' (Nat.le_refl _) (by omega)).2 k (by omega)), zit_ids (a := 0) C (Nat.zero_le _) (fun _ _ _ y => Int64.add_zero y)]
            rfl
          rw [sum0, Int64.zero_add] at g1
          have fZ : ∀ D : Nat → Nat → Prop, ¬ D (60 + T') 1 ∧ ¬ D (60 + T') 2 ∧ ¬ D (1000 + (j * w + i)) 7 ∧ (∀ k, ¬ D (70 + T') k) → agr D Z μ := fun D q => by
            refine agr.tr (b := zsR (zsI (zsR μ (60 + T') 1 (some (1000 + (j * w + i)))) (60 + T') 2 (nI C)) (1000 + (j * w + i)) 7 (some (60 + T'))) ?_ ((agr_sR _ _ q.2.2.1).tr ((agr_sI _ _ q.2.1).tr (agr_sR _ _ q.1)))
            intro r k hD
            refine ⟨by rw [g5], ?_, by rw [g3], by rw [g4]⟩
            rw [g2 r (fun e => q.2.2.2 k (by rw [← e]; exact hD))]
          have fc : ∀ D : Nat → Nat → Prop, ¬ D (60 + T') 1 ∧ ¬ D (60 + T') 2 ∧ ¬ D (1000 + (j * w + i)) 7 ∧ ¬ D 0 11 ∧ ¬ D 0 13 → (∀ k, ¬ D (70 + T') k) → agr D (zsI (zsI Z 0 11 (nI T' + 1)) 0 13 (zI (zsI Z 0 11 (nI T' + 1)) 0 13 + 1)) μ := fun D q q2 => (agr_sI _ _ q.2.2.2.2).tr ((agr_sI _ _ q.2.2.2.1).tr (fZ D ⟨q.1, q.2.1, q.2.2.1, q2⟩))
          have fm : ∀ D : Nat → Nat → Prop, (∀ k, ¬ D 29 k ∧ ¬ D 30 k ∧ ¬ D 31 k) → ¬ D 0 27 ∧ ¬ D 0 40 → agr D (zsI (zsI (zsI (zsI (zsI m 29 T' (nI (12 * j + i))) 31 T' 1) 30 (12 * j + i) 1) 0 27 (nI (T' + 1))) 0 40 (zI (zsI (zsI (zsI (zsI m 29 T' (nI (12 * j + i))) 31 T' 1) 30 (12 * j + i) 1) 0 27 (nI (T' + 1))) 0 40 + 1)) m := fun D q q2 => (agr_sI _ _ q2.2).tr ((agr_sI _ _ q2.1).tr ((agr_sI _ _ (q _).2.1).tr ((agr_sI _ _ (q _).2.2).tr (agr_sI _ _ (q _).1))))
          have cI : ∀ r k, ¬ (r = 0 ∧ k = 11) → ¬ (r = 0 ∧ k = 13) → ¬ (r = 60 + T' ∧ k = 2) → zI (zsI (zsI Z 0 11 (nI T' + 1)) 0 13 (zI (zsI Z 0 11 (nI T' + 1)) 0 13 + 1)) r k = zI μ r k := fun r k h1 h2 h3 => by
            rw [zI_sI, if_neg h2, zI_sI, if_neg h1, g5, zI_sR, zI_sI, if_neg h3]
            rfl
          have cR' : ∀ r k, ¬ (r = 60 + T' ∧ k = 1) → ¬ (r = 1000 + (j * w + i) ∧ k = 7) → zR (zsI (zsI Z 0 11 (nI T' + 1)) 0 13 (zI (zsI Z 0 11 (nI T' + 1)) 0 13 + 1)) r k = zR μ r k := fun r k h1 h2 => by
            show zR Z r k = _
            rw [g4, zR_sR, if_neg h2, zR_sI, zR_sR, if_neg h1]
          have cR1 : zR (zsI (zsI Z 0 11 (nI T' + 1)) 0 13 (zI (zsI Z 0 11 (nI T' + 1)) 0 13 + 1)) (60 + T') 1 = some (1000 + (j * w + i)) := by
            show zR Z (60 + T') 1 = _
            rw [g4, zR_sR, if_neg (by omega), zR_sI, zR_sR, if_pos ⟨rfl, rfl⟩]
          have cR7 : zR (zsI (zsI Z 0 11 (nI T' + 1)) 0 13 (zI (zsI Z 0 11 (nI T' + 1)) 0 13 + 1)) (1000 + (j * w + i)) 7 = some (60 + T') := by
            show zR Z (1000 + (j * w + i)) 7 = _
            rw [g4, zR_sR, if_pos ⟨rfl, rfl⟩]
          have cL : ∀ r, r ≠ 70 + T' → zL (zsI (zsI Z 0 11 (nI T' + 1)) 0 13 (zI (zsI Z 0 11 (nI T' + 1)) 0 13 + 1)) r = zL μ r := fun r hr => by
            show zL Z r = _
            rw [g2 r hr]
            rfl
          have cS' : s_sumS (zsI (zsI Z 0 11 (nI T' + 1)) 0 13 (zI (zsI Z 0 11 (nI T' + 1)) 0 13 + 1)) (70 + T') C = zL μ (1000 + (j * w + i)) 2 := g1
          have cC : zI (zsI (zsI Z 0 11 (nI T' + 1)) 0 13 (zI (zsI Z 0 11 (nI T' + 1)) 0 13 + 1)) (60 + T') 2 = nI C := by
            rw [zI_sI, if_neg (by omega), zI_sI, if_neg (by omega), g5, zI_sR, zI_sI, if_pos ⟨rfl, rfl⟩]
          have c11 : zI (zsI (zsI Z 0 11 (nI T' + 1)) 0 13 (zI (zsI Z 0 11 (nI T' + 1)) 0 13 + 1)) 0 11 = nI (T' + 1) := by
            rw [zI_sI, if_neg (by omega), zI_sI, if_pos ⟨rfl, rfl⟩, nI_1]
          have c13 : zI (zsI (zsI Z 0 11 (nI T' + 1)) 0 13 (zI (zsI Z 0 11 (nI T' + 1)) 0 13 + 1)) 0 13 = zI μ 0 13 + 1 := by
            rw [zI_sI, if_pos ⟨rfl, rfl⟩, zI_sI, if_neg (by omega), g5, zI_sR, zI_sI, if_neg (by omega)]
            rfl
          have m0 : ∀ k, k ≠ 27 → k ≠ 40 → zI (zsI (zsI (zsI (zsI (zsI m 29 T' (nI (12 * j + i))) 31 T' 1) 30 (12 * j + i) 1) 0 27 (nI (T' + 1))) 0 40 (zI (zsI (zsI (zsI (zsI m 29 T' (nI (12 * j + i))) 31 T' 1) 30 (12 * j + i) 1) 0 27 (nI (T' + 1))) 0 40 + 1)) 0 k = zI m 0 k := fun k h1 h2 => by
            rw [zI_sI, if_neg (fun e => h2 e.2), zI_sI, if_neg (fun e => h1 e.2), zI_sI, if_neg (by omega), zI_sI, if_neg (by omega), zI_sI, if_neg (by omega)]
          have m27 : zI (zsI (zsI (zsI (zsI (zsI m 29 T' (nI (12 * j + i))) 31 T' 1) 30 (12 * j + i) 1) 0 27 (nI (T' + 1))) 0 40 (zI (zsI (zsI (zsI (zsI m 29 T' (nI (12 * j + i))) 31 T' 1) 30 (12 * j + i) 1) 0 27 (nI (T' + 1))) 0 40 + 1)) 0 27 = nI (T' + 1) := by
            rw [zI_sI, if_neg (by omega), zI_sI, if_pos ⟨rfl, rfl⟩]
          have m40 : zI (zsI (zsI (zsI (zsI (zsI m 29 T' (nI (12 * j + i))) 31 T' 1) 30 (12 * j + i) 1) 0 27 (nI (T' + 1))) 0 40 (zI (zsI (zsI (zsI (zsI m 29 T' (nI (12 * j + i))) 31 T' 1) 30 (12 * j + i) 1) 0 27 (nI (T' + 1))) 0 40 + 1)) 0 40 = zI m 0 40 + 1 := by
            rw [zI_sI, if_pos ⟨rfl, rfl⟩, zI_sI, if_neg (by omega), zI_sI, if_neg (by omega), zI_sI, if_neg (by omega), zI_sI, if_neg (by omega)]
          have m29 : ∀ k, zI (zsI (zsI (zsI (zsI (zsI m 29 T' (nI (12 * j + i))) 31 T' 1) 30 (12 * j + i) 1) 0 27 (nI (T' + 1))) 0 40 (zI (zsI (zsI (zsI (zsI m 29 T' (nI (12 * j + i))) 31 T' 1) 30 (12 * j + i) 1) 0 27 (nI (T' + 1))) 0 40 + 1)) 29 k = if k = T' then nI (12 * j + i) else zI m 29 k := fun k => by
            rw [zI_sI, if_neg (by omega), zI_sI, if_neg (by omega), zI_sI, if_neg (by omega), zI_sI, if_neg (by omega), zI_sI]
            by_cases q : k = T'
            · rw [if_pos ⟨rfl, q⟩, if_pos q]
            · rw [if_neg (fun e => q e.2), if_neg q]
          have m31 : ∀ k, zI (zsI (zsI (zsI (zsI (zsI m 29 T' (nI (12 * j + i))) 31 T' 1) 30 (12 * j + i) 1) 0 27 (nI (T' + 1))) 0 40 (zI (zsI (zsI (zsI (zsI m 29 T' (nI (12 * j + i))) 31 T' 1) 30 (12 * j + i) 1) 0 27 (nI (T' + 1))) 0 40 + 1)) 31 k = if k = T' then 1 else zI m 31 k := fun k => by
            rw [zI_sI, if_neg (by omega), zI_sI, if_neg (by omega), zI_sI, if_neg (by omega), zI_sI]
            by_cases q : k = T'
            · rw [if_pos ⟨rfl, q⟩, if_pos q]
            · rw [if_neg (fun e => q e.2), if_neg q, zI_sI, if_neg (by omega)]
          have m30 : ∀ k, zI (zsI (zsI (zsI (zsI (zsI m 29 T' (nI (12 * j + i))) 31 T' 1) 30 (12 * j + i) 1) 0 27 (nI (T' + 1))) 0 40 (zI (zsI (zsI (zsI (zsI m 29 T' (nI (12 * j + i))) 31 T' 1) 30 (12 * j + i) 1) 0 27 (nI (T' + 1))) 0 40 + 1)) 30 k = if k = 12 * j + i then 1 else zI m 30 k := fun k => by
            rw [zI_sI, if_neg (by omega), zI_sI, if_neg (by omega), zI_sI]
            by_cases q : k = 12 * j + i
            · rw [if_pos ⟨rfl, q⟩, if_pos q]
            · rw [if_neg (fun e => q e.2), if_neg q, zI_sI, if_neg (by omega), zI_sI, if_neg (by omega)]
          generalize zsI (zsI Z 0 11 (nI T' + 1)) 0 13 (zI (zsI Z 0 11 (nI T' + 1)) 0 13 + 1) = ρ at *
          have mR : zR (zsI (zsI (zsI (zsI (zsI m 29 T' (nI (12 * j + i))) 31 T' 1) 30 (12 * j + i) 1) 0 27 (nI (T' + 1))) 0 40 (zI (zsI (zsI (zsI (zsI m 29 T' (nI (12 * j + i))) 31 T' 1) 30 (12 * j + i) 1) 0 27 (nI (T' + 1))) 0 40 + 1)) = zR m := rfl
          generalize zsI (zsI (zsI (zsI (zsI m 29 T' (nI (12 * j + i))) 31 T' 1) 30 (12 * j + i) 1) 0 27 (nI (T' + 1))) 0 40 (zI (zsI (zsI (zsI (zsI m 29 T' (nI (12 * j + i))) 31 T' 1) 30 (12 * j + i) 1) 0 27 (nI (T' + 1))) 0 40 + 1) = σ at *
          refine REL.mk' (n' := n + 1) (by omega) H (zLC_of (fun r k q => cR' r k (by omega) (by omega)) (fun r k q => cI r k (by omega) (by omega) (by omega))) (fun q => ⟨fun k n' hk hr => ?_, fun i' hi' => ?_⟩) (fun q => ⟨fun k hk => by rw [mR]; exact q.1 k hk, (m0 0 (by decide) (by decide)).trans q.2.1, (m0 1 (by decide) (by decide)).trans q.2.2.1, (m0 2 (by decide) (by decide)).trans q.2.2.2.1, q.2.2.2.2⟩) (hC.mo hd (fc _ (by unfold dCell cR; omega) (fun k => by unfold dCell cR; omega)) (fm _ (fun k => by unfold dCellM; omega) (by unfold dCellM; omega))) (hS.mo hd hF (fc _ (by unfold dSpd fR; omega) (fun k => by unfold dSpd fR; omega)) (fm _ (fun k => by unfold dSpdM; omega) (by unfold dSpdM; omega))) (hs.mo (fc _ (by unfold dSide; omega) (fun k => by unfold dSide; omega)) (fm _ (fun k => by unfold dSideM; omega) (by unfold dSideM; omega))) (hW.mo (fc _ (by unfold dWind; omega) (fun k => by unfold dWind; omega)) (fm _ (fun k => by unfold dWindM; omega) (by unfold dWindM; omega))) (ht.mo (fc _ (by unfold dTime; omega) (fun k => by unfold dTime; omega)) (fm _ (fun k => by unfold dTimeM; omega) (by unfold dTimeM; omega))) ((hN.mo (fm _ (fun k => by unfold dNum; omega) (by unfold dNum; omega))).up (by omega)) ⟨T' + 1, by omega, c11, m27, fun i' h1 h2 => ?_, fun i' h1 => ?_, fun i' h1 c' hc' => ?_, fun x' y' hx' hy' => ?_⟩ (hga.mo hd (fc _ (by unfold dGauge cR; omega) (fun k => by unfold dGauge cR; omega)) (fm _ (fun k => by unfold dGaugeM; omega) (by unfold dGaugeM; omega)) (m0 31 (by decide) (by decide))) (hfi.mo (fc _ (by unfold dFit; omega) (fun k => by unfold dFit; omega)) (fm _ (fun k => by unfold dFitM; omega) (by unfold dFitM; omega)) (m0 38 (by decide) (by decide))) (hsa.chg hd hn (fc _ (by unfold dSav1; omega) (fun k => by unfold dSav1; omega)) (fm _ (fun k => by unfold dSavM1; omega) (by unfold dSavM1; omega)) (cI 0 12 (by omega) (by omega) (by omega)) c13 (m0 39 (by decide) (by decide)) m40) (hou.mo (fm _ (fun k => by unfold dOut; omega) (by unfold dOut; omega)))
          · by_cases ek : k = j * w + i
            · subst ek
              rw [cR7] at hr
              exact ⟨T', by omega, (Option.some.inj hr).symm⟩
            · rw [cR' _ _ (by omega) (by omega)] at hr
              exact q.1 k n' hk hr
          · by_cases ei : i' = T'
            · subst ei
              exact ⟨C, C8, cC⟩
            · rw [cI _ _ (by omega) (by omega) (by omega)]
              exact q.2 i' hi'
          · obtain ⟨u1, u2⟩ := t3 i' (by omega) h2
            refine ⟨?_, fun k hk => ?_⟩
            · rw [cR' _ _ (by omega) (by omega)]
              exact u1
            · rw [cL _ (by omega)]
              exact u2 k hk
          · rw [m31]
            by_cases ei : i' = T'
            · subst ei
              rw [if_pos rfl, cR1]
              exact ⟨fun q => absurd q (by decide), fun q => absurd q (by simp)⟩
            · rw [if_neg ei, cR' _ _ (by omega) (by omega)]
              exact t4 i' (by omega)
          · by_cases ei : i' = T'
            · subst ei
              rw [cR1] at hc'
              have := Option.some.inj hc'
              subst this
              have ecn : s_cnt ρ (60 + i') = C := by
                unfold s_cnt
                rw [cC, nI_clamp (by omega)]
              refine ⟨i, j, hi, hj, rfl, cR7, ?_, ?_, ?_, ?_⟩
              · rw [m29, if_pos rfl]
              · omega
              · omega
              · rw [ecn, cS', cL _ (by omega)]
            · rw [cR' _ _ (by omega) (by omega)] at hc'
              obtain ⟨x', y', hx', hy', rfl, e1', e2', e3', e4', e5'⟩ := t5 i' h1 c' hc'
              have ne : ¬ 1000 + (y' * w + x') = 1000 + (j * w + i) := fun q => by
                rw [q, hb] at e1'
                exact absurd e1' (by simp)
              have ecn : s_cnt ρ (60 + i') = s_cnt μ (60 + i') := by
                unfold s_cnt
                rw [cI _ _ (by omega) (by omega) (by omega)]
              refine ⟨x', y', hx', hy', rfl, ?_, ?_, ?_, ?_, ?_⟩
              · rw [cR' _ _ (by omega) (by omega)]
                exact e1'
              · rw [m29, if_neg ei]
                exact e2'
              · rw [ecn]
                exact e3'
              · rw [ecn]
                exact e4'
              · rw [ecn, sumS_cg (cL (70 + i') (by omega)), cL _ (by omega)]
                exact e5'
          · by_cases ec : x' = i ∧ y' = j
            · obtain ⟨rfl, rfl⟩ := ec
              rw [m30, if_pos rfl, cR7]
              refine ⟨⟨fun q => absurd q (by decide), fun q => absurd q (by simp)⟩, fun n' hn' => ?_⟩
              have := Option.some.inj hn'
              subst this
              exact ⟨T', by omega, rfl, cR1⟩
            · have ne : ¬ 1000 + (y' * w + x') = 1000 + (j * w + i) := fun q => ec (gu hi hx' (by omega))
              rw [m30, if_neg (by have := hd.2.1; omega), cR' (1000 + (y' * w + x')) 7 (by omega) (by omega)]
              refine ⟨(t6 x' y' hx' hy').1, fun n' hn' => ?_⟩
              obtain ⟨i', hi', rfl, e'⟩ := (t6 x' y' hx' hy').2 n' hn'
              refine ⟨i', by omega, rfl, ?_⟩
              rw [cR' _ _ (by omega) (by omega)]
              exact e'
