def u_keepN1 (q k : Nat) (μ : ZMem) : ZMem := zsL μ q k (zL μ (70 + k / 8) (k % 8))
def u_giveN1 (q k : Nat) (μ : ZMem) : ZMem := zsL μ (70 + k / 8) (k % 8) (zL μ q k)
theorem z8d {k : Nat} (h : k < 2 ^ 31) : nI k / 8 = nI (k / 8) := pk_div (d := 8) h (by decide) (by decide)
theorem z8m {k : Nat} (h : k < 2 ^ 31) : nI k - nI k / 8 * 8 = nI (k % 8) := pk_rem (d := 8) h (by decide) (by decide)
set_option maxHeartbeats 4000000 in
set_option maxRecDepth 100000 in
theorem L_X4_keepNests {g : ZG} {μ : ZMem} {s a N F q : Nat} (hO : zO g 4 s) (hW : zWf g μ) (hG : zGC g N F) (ha : zO g 14 a) (hla : zln g a = 10) (hce : ∀ j, j < 10 → zR μ a j = some (60 + j) ∧ zR μ (60 + j) 0 = some (70 + j)) (h0 : zR μ s 5 = some q) (l0 : zln g q = 80) {res : Option ZV} {μ' : ZMem} (hx : zWA g (RX4, cX4_keepNests, 3, none, zrm 0, res, μ') 46 (zls [(0, zr (some s)), (1, zr (some a)), (2, zi (nI (80)))]) [] (zit (u_keepN1 q) (80) μ)) : zWA g (RX4, cX4_keepNests, 3, none, zrm 0, res, μ') 2 (zls [(0, zr (some s)), (1, zr (some a)), (2, zi (nI (0)))]) [] μ := by
  have hO0 : zO g 10 q := hW 4 _ _ _ hO h0
  have hR : ∀ k, zR (zit (u_keepN1 q) k μ) = zR μ := fun k => zit_keep (f := (u_keepN1 q)) zR (fun _ _ => rfl) k μ
  have hR0 : ∀ k, zR (zit (u_keepN1 q) k μ) s 5 = some q := fun k => by rw [hR]; exact h0
  have hRc : ∀ k j, j < 10 → zR (zit (u_keepN1 q) k μ) a j = some (60 + j) := fun k j hj => by rw [hR]; exact (hce j hj).1
  have hRs : ∀ k j, j < 10 → zR (zit (u_keepN1 q) k μ) (60 + j) 0 = some (70 + j) := fun k j hj => by rw [hR]; exact (hce j hj).2
  refine zloop (P := fun k => zWA g (RX4, cX4_keepNests, 3, none, zrm 0, res, μ') 2 (zls [(0, zr (some s)), (1, zr (some a)), (2, zi (nI (k)))]) [] (zit (u_keepN1 q) (k) μ)) (N := 80) ?_ ?_ 0 (Nat.zero_le _)
  · show zWA _ _ _ _ _ _
    refine zx_iload_n dX4_keepNests_2 rfl rfl ?_
    refine zx_aload_n dX4_keepNests_3 rfl rfl ?_
    refine zx_getR zf_X4_9 (by assumption) (hR0 _) rfl dX4_keepNests_4 ?_
    refine zx_alen (nI 80) (by assumption) (by decide) (by rw [l0]) dX4_keepNests_7 ?_
    refine zx_icmp_ge (tgt := 46) dX4_keepNests_8 (by decide) (fun _ => ?_) (fun h_ => absurd h_ (by simp))
    exact zWA_to hx ⟨rfl, rfl, rfl, trivial⟩
  · intro k hk hn_
    show zWA _ _ _ _ _ _
    refine zx_iload_n dX4_keepNests_2 rfl rfl ?_
    refine zx_aload_n dX4_keepNests_3 rfl rfl ?_
    refine zx_getR zf_X4_9 (by assumption) (hR0 _) rfl dX4_keepNests_4 ?_
    refine zx_alen (nI 80) (by assumption) (by decide) (by rw [l0]) dX4_keepNests_7 ?_
    refine zx_icmp_ge (tgt := 46) dX4_keepNests_8 (by decide) (fun h_ => absurd h_ (nI_ge hk (by decide))) (fun _ => ?_)
    refine zx_iload_n dX4_keepNests_11 rfl rfl ?_
    refine zx_bipush 8 dX4_keepNests_12 (by decide) ?_
    refine zx_idiv dX4_keepNests_14 (by decide) ?_
    refine zx_aload_n dX4_keepNests_15 rfl rfl ?_
    refine zx_alen (nI 10) (by assumption) (by decide) (by rw [hla]) dX4_keepNests_16 ?_
    refine zx_icmp_ge (tgt := 46) dX4_keepNests_17 (by decide) (fun h_ => absurd h_ (by rw [z8d (by omega)]; exact nI_ge (show k / 8 < 10 by omega) (by decide))) (fun _ => ?_)
    refine zx_aload_n dX4_keepNests_20 rfl rfl ?_
    refine zx_getR zf_X4_9 (by assumption) (hR0 _) rfl dX4_keepNests_21 ?_
    refine zx_iload_n dX4_keepNests_24 rfl rfl ?_
    refine zx_aload_n dX4_keepNests_25 rfl rfl ?_
    refine zx_iload_n dX4_keepNests_26 rfl rfl ?_
    refine zx_bipush 8 dX4_keepNests_27 (by decide) ?_
    refine zx_idiv dX4_keepNests_29 (by decide) ?_
    refine zx_aald (k / 8) (by assumption) (by decide) (z8d (by omega)) ⟨by rw [hla]; omega, by rw [hla]; decide⟩ (hRc _ (k / 8) (by omega)) dX4_keepNests_30 ?_
    refine zx_getR zf_X4_59 (hG.nest (k := k / 8) (by omega)) (hRs _ (k / 8) (by omega)) rfl dX4_keepNests_31 ?_
    refine zx_iload_n dX4_keepNests_34 rfl rfl ?_
    refine zx_bipush 8 dX4_keepNests_35 (by decide) ?_
    refine zx_irem dX4_keepNests_37 (by decide) ?_
    refine zx_lald (k % 8) ((hG.share (k := k / 8) (by omega)).1) (z8m (by omega)) ⟨by rw [(hG.share (k := k / 8) (by omega)).2]; omega, by rw [(hG.share (k := k / 8) (by omega)).2]; decide⟩ dX4_keepNests_38 ?_
    refine zx_last k hO0 rfl ⟨by rw [l0]; exact hk, by rw [l0]; decide⟩ dX4_keepNests_39 ?_
    refine zx_iinc (nI (k + 1)) dX4_keepNests_40 rfl (by exact nI_1 k) (Nat.le_of_ble_eq_true rfl) ?_
    refine zx_goto (tgt := 2) dX4_keepNests_43 (by decide) ?_
    exact zWA_to (zWA_mem hn_ (by rfl)) ⟨rfl, rfl, rfl, trivial⟩

set_option maxHeartbeats 4000000 in
set_option maxRecDepth 100000 in
theorem m_X4_keepNests {g : ZG} {μ : ZMem} {s a N F q : Nat} (hO : zO g 4 s) (hW : zWf g μ) (hG : zGC g N F) (ha : zO g 14 a) (hla : zln g a = 10) (hce : ∀ j, j < 10 → zR μ a j = some (60 + j) ∧ zR μ (60 + j) 0 = some (70 + j)) (h0 : zR μ s 5 = some q) (l0 : zln g q = 80) : zCab g RX4 yX4_keepNests cX4_keepNests 3 (none) (zrm 0) [zr (some s), zr (some a)] μ none (zit (u_keepN1 q) 80 μ) := by
  refine zCab_w (by decide +kernel) rfl (Nat.le_of_ble_eq_true rfl) ?_
  refine zx_iconst 0 dX4_keepNests_0 (by decide) ?_
  refine zx_istore_n dX4_keepNests_1 rfl (Nat.le_of_ble_eq_true rfl) ?_
  exact zWA_to (L_X4_keepNests hO hW hG ha hla hce h0 l0 (zx_return rfl rfl rfl dX4_keepNests_46)) ⟨rfl, rfl, rfl, trivial⟩

set_option maxHeartbeats 4000000 in
set_option maxRecDepth 100000 in
theorem L_X4_giveNests {g : ZG} {μ : ZMem} {s a N F q : Nat} (hO : zO g 4 s) (hW : zWf g μ) (hG : zGC g N F) (ha : zO g 14 a) (hla : zln g a = 10) (hce : ∀ j, j < 10 → zR μ a j = some (60 + j) ∧ zR μ (60 + j) 0 = some (70 + j)) (h0 : zR μ s 5 = some q) (l0 : zln g q = 80) {res : Option ZV} {μ' : ZMem} (hx : zWA g (RX4, cX4_giveNests, 3, none, zrm 0, res, μ') 46 (zls [(0, zr (some s)), (1, zr (some a)), (2, zi (nI (80)))]) [] (zit (u_giveN1 q) (80) μ)) : zWA g (RX4, cX4_giveNests, 3, none, zrm 0, res, μ') 2 (zls [(0, zr (some s)), (1, zr (some a)), (2, zi (nI (0)))]) [] μ := by
  have hO0 : zO g 10 q := hW 4 _ _ _ hO h0
  have hR : ∀ k, zR (zit (u_giveN1 q) k μ) = zR μ := fun k => zit_keep (f := (u_giveN1 q)) zR (fun _ _ => rfl) k μ
  have hR0 : ∀ k, zR (zit (u_giveN1 q) k μ) s 5 = some q := fun k => by rw [hR]; exact h0
  have hRc : ∀ k j, j < 10 → zR (zit (u_giveN1 q) k μ) a j = some (60 + j) := fun k j hj => by rw [hR]; exact (hce j hj).1
  have hRs : ∀ k j, j < 10 → zR (zit (u_giveN1 q) k μ) (60 + j) 0 = some (70 + j) := fun k j hj => by rw [hR]; exact (hce j hj).2
  refine zloop (P := fun k => zWA g (RX4, cX4_giveNests, 3, none, zrm 0, res, μ') 2 (zls [(0, zr (some s)), (1, zr (some a)), (2, zi (nI (k)))]) [] (zit (u_giveN1 q) (k) μ)) (N := 80) ?_ ?_ 0 (Nat.zero_le _)
  · show zWA _ _ _ _ _ _
    refine zx_iload_n dX4_giveNests_2 rfl rfl ?_
    refine zx_aload_n dX4_giveNests_3 rfl rfl ?_
    refine zx_getR zf_X4_9 (by assumption) (hR0 _) rfl dX4_giveNests_4 ?_
    refine zx_alen (nI 80) (by assumption) (by decide) (by rw [l0]) dX4_giveNests_7 ?_
    refine zx_icmp_ge (tgt := 46) dX4_giveNests_8 (by decide) (fun _ => ?_) (fun h_ => absurd h_ (by simp))
    exact zWA_to hx ⟨rfl, rfl, rfl, trivial⟩
  · intro k hk hn_
    show zWA _ _ _ _ _ _
    refine zx_iload_n dX4_giveNests_2 rfl rfl ?_
    refine zx_aload_n dX4_giveNests_3 rfl rfl ?_
    refine zx_getR zf_X4_9 (by assumption) (hR0 _) rfl dX4_giveNests_4 ?_
    refine zx_alen (nI 80) (by assumption) (by decide) (by rw [l0]) dX4_giveNests_7 ?_
    refine zx_icmp_ge (tgt := 46) dX4_giveNests_8 (by decide) (fun h_ => absurd h_ (nI_ge hk (by decide))) (fun _ => ?_)
    refine zx_iload_n dX4_giveNests_11 rfl rfl ?_
    refine zx_bipush 8 dX4_giveNests_12 (by decide) ?_
    refine zx_idiv dX4_giveNests_14 (by decide) ?_
    refine zx_aload_n dX4_giveNests_15 rfl rfl ?_
    refine zx_alen (nI 10) (by assumption) (by decide) (by rw [hla]) dX4_giveNests_16 ?_
    refine zx_icmp_ge (tgt := 46) dX4_giveNests_17 (by decide) (fun h_ => absurd h_ (by rw [z8d (by omega)]; exact nI_ge (show k / 8 < 10 by omega) (by decide))) (fun _ => ?_)
    refine zx_aload_n dX4_giveNests_20 rfl rfl ?_
    refine zx_iload_n dX4_giveNests_21 rfl rfl ?_
    refine zx_bipush 8 dX4_giveNests_22 (by decide) ?_
    refine zx_idiv dX4_giveNests_24 (by decide) ?_
    refine zx_aald (k / 8) (by assumption) (by decide) (z8d (by omega)) ⟨by rw [hla]; omega, by rw [hla]; decide⟩ (hRc _ (k / 8) (by omega)) dX4_giveNests_25 ?_
    refine zx_getR zf_X4_59 (hG.nest (k := k / 8) (by omega)) (hRs _ (k / 8) (by omega)) rfl dX4_giveNests_26 ?_
    refine zx_iload_n dX4_giveNests_29 rfl rfl ?_
    refine zx_bipush 8 dX4_giveNests_30 (by decide) ?_
    refine zx_irem dX4_giveNests_32 (by decide) ?_
    refine zx_aload_n dX4_giveNests_33 rfl rfl ?_
    refine zx_getR zf_X4_9 (by assumption) (hR0 _) rfl dX4_giveNests_34 ?_
    refine zx_iload_n dX4_giveNests_37 rfl rfl ?_
    refine zx_lald k hO0 rfl ⟨by rw [l0]; exact hk, by rw [l0]; decide⟩ dX4_giveNests_38 ?_
    refine zx_last (k % 8) ((hG.share (k := k / 8) (by omega)).1) (z8m (by omega)) ⟨by rw [(hG.share (k := k / 8) (by omega)).2]; omega, by rw [(hG.share (k := k / 8) (by omega)).2]; decide⟩ dX4_giveNests_39 ?_
    refine zx_iinc (nI (k + 1)) dX4_giveNests_40 rfl (by exact nI_1 k) (Nat.le_of_ble_eq_true rfl) ?_
    refine zx_goto (tgt := 2) dX4_giveNests_43 (by decide) ?_
    exact zWA_to (zWA_mem hn_ (by rfl)) ⟨rfl, rfl, rfl, trivial⟩

set_option maxHeartbeats 4000000 in
set_option maxRecDepth 100000 in
theorem m_X4_giveNests {g : ZG} {μ : ZMem} {s a N F q : Nat} (hO : zO g 4 s) (hW : zWf g μ) (hG : zGC g N F) (ha : zO g 14 a) (hla : zln g a = 10) (hce : ∀ j, j < 10 → zR μ a j = some (60 + j) ∧ zR μ (60 + j) 0 = some (70 + j)) (h0 : zR μ s 5 = some q) (l0 : zln g q = 80) : zCab g RX4 yX4_giveNests cX4_giveNests 3 (none) (zrm 0) [zr (some s), zr (some a)] μ none (zit (u_giveN1 q) 80 μ) := by
  refine zCab_w (by decide +kernel) rfl (Nat.le_of_ble_eq_true rfl) ?_
  refine zx_iconst 0 dX4_giveNests_0 (by decide) ?_
  refine zx_istore_n dX4_giveNests_1 rfl (Nat.le_of_ble_eq_true rfl) ?_
  exact zWA_to (L_X4_giveNests hO hW hG ha hla hce h0 l0 (zx_return rfl rfl rfl dX4_giveNests_46)) ⟨rfl, rfl, rfl, trivial⟩

theorem zix {n : Nat} {x : Int32} (h0 : ¬ x < 0) (h1 : ¬ nI n ≤ x) (hn : n < 2 ^ 31) : ∃ i, i < n ∧ x = nI i := by
  rcases pk_ix x hn with h | h | ⟨j, hj, e⟩
  · exact absurd h h0
  · exact absurd h h1
  · exact ⟨j, hj, e⟩
theorem zplace {w h i j : Nat} (hi : i < w) (hj : j < h) : j * w + i < w * h := by
  have h1 : (j + 1) * w ≤ h * w := Nat.mul_le_mul_right w hj
  rw [Nat.add_mul, Nat.one_mul] at h1
  rw [Nat.mul_comm w h]
  omega
def s_cellAt (w h : Nat) (x y : Int32) : Option Nat := if x < 0 then none else if nI w ≤ x then none else if y < 0 then none else if y < nI h then some (1000 + (y.toNatClampNeg * w + x.toNatClampNeg)) else none
theorem s_cellAt_in {w h : Nat} {x y : Int32} {c : Nat} (hw : w ≤ 12) (hh : h ≤ 12) (e : s_cellAt w h x y = some c) : ∃ i j, i < w ∧ j < h ∧ x = nI i ∧ y = nI j ∧ c = 1000 + (j * w + i) := by
  unfold s_cellAt at e
  split at e
  · cases e
  · split at e
    · cases e
    · split at e
      · cases e
      · split at e
        · rename_i a1 a2 a3 a4
          obtain ⟨i, hi, rfl⟩ := zix a1 a2 (by omega)
          obtain ⟨j, hj, rfl⟩ := zix a3 (Int32.not_le.mpr a4) (by omega)
          rw [nI_clamp (by omega), nI_clamp (by omega)] at e
          cases e
          exact ⟨i, j, hi, hj, rfl, rfl, rfl⟩
        · cases e
set_option maxHeartbeats 4000000 in
set_option maxRecDepth 100000 in
theorem m_X6_cellAt {g : ZG} {μ : ZMem} {w h : Nat} {ly : Int32} (hG : zGC g (w * h) (fcA w h)) (hL : zLC w h ly μ) (hW : zWf g μ) {x y : Int32} : zCab g RX6 yX6_cellAt cX6_cellAt 4 ((some (FieldType.object "CellCurrents$Cell"))) (zrm 0) [zr (some 0), zi x, zi y] μ (some (zr (s_cellAt w h x y))) μ := by
  refine zCab_w (by decide +kernel) rfl (Nat.le_of_ble_eq_true rfl) ?_
  have hO0 : zO g 6 0 := hG.fix 0 (by decide)
  have hO1 : zO g 12 1 := hG.fix 1 (by decide)
  have hO2 : zO g 13 2 := hG.fix 2 (by decide)
  have hO3 : zO g 15 3 := hG.fix 3 (by decide)
  have hO4 : zO g 8 4 := hG.fix 4 (by decide)
  have hO5 : zO g 8 5 := hG.fix 5 (by decide)
  have hO6 : zO g 14 6 := hG.fix 6 (by decide)
  have hO7 : zO g 16 7 := hG.fix 7 (by decide)
  have hO8 : zO g 5 8 := hG.fix 8 (by decide)
  have hl1 : zln g 1 = w * h := hG.l _ (Or.inl (by decide)) rfl
  have hl2 : zln g 2 = fcA w h := hG.l _ (Or.inl (by decide)) rfl
  have hl3 : zln g 3 = 4 := hG.l _ (Or.inl (by decide)) rfl
  have hl4 : zln g 4 = 24 := hG.l _ (Or.inl (by decide)) rfl
  have hl5 : zln g 5 = 24 := hG.l _ (Or.inl (by decide)) rfl
  have hl6 : zln g 6 = 10 := hG.l _ (Or.inl (by decide)) rfl
  have hl7 : zln g 7 = 4 := hG.l _ (Or.inl (by decide)) rfl
  have hN := hG.1
  have hF := hG.2.1
  have hw0 : zI μ 0 0 = nI w := hL.2.2.2.2.2.2.2.2.1
  have hh0 : zI μ 0 1 = nI h := hL.2.2.2.2.2.2.2.2.2.1
  have hy0 : zI μ 0 2 = ly := hL.2.2.2.2.2.2.2.2.2.2.1
  have hwb := hL.2.2.2.2.2.2.2.2.2.2.2
  refine zx_iload_n dX6_cellAt_0 rfl rfl ?_
  refine zx_if_lt (tgt := 24) dX6_cellAt_1 (by decide) (fun c_1 => ?_) (fun c_1 => ?_)
  · skip
    refine zx_null dX6_cellAt_24 ?_
    exact zx_areturn rfl (Or.inl ⟨_, rfl⟩) (by simp [zKa, s_cellAt, c_1]) (by rfl) dX6_cellAt_25
  · skip
    refine zx_iload_n dX6_cellAt_4 rfl rfl ?_
    refine zx_aload_n dX6_cellAt_5 rfl rfl ?_
    refine zx_getI zf_X6_21 (by assumption) (Or.inl rfl) dX6_cellAt_6 ?_
    rw [hw0]
    refine zx_icmp_ge (tgt := 24) dX6_cellAt_9 (by decide) (fun c_9 => ?_) (fun c_9 => ?_)
    · skip
      refine zx_null dX6_cellAt_24 ?_
      exact zx_areturn rfl (Or.inl ⟨_, rfl⟩) (by simp [zKa, s_cellAt, c_1, c_9]) (by rfl) dX6_cellAt_25
    · skip
      refine zx_iload_n dX6_cellAt_12 rfl rfl ?_
      refine zx_if_lt (tgt := 24) dX6_cellAt_13 (by decide) (fun c_13 => ?_) (fun c_13 => ?_)
      · skip
        refine zx_null dX6_cellAt_24 ?_
        exact zx_areturn rfl (Or.inl ⟨_, rfl⟩) (by simp [zKa, s_cellAt, c_1, c_9, c_13]) (by rfl) dX6_cellAt_25
      · skip
        refine zx_iload_n dX6_cellAt_16 rfl rfl ?_
        refine zx_aload_n dX6_cellAt_17 rfl rfl ?_
        refine zx_getI zf_X6_25 (by assumption) (Or.inl rfl) dX6_cellAt_18 ?_
        rw [hh0]
        refine zx_icmp_lt (tgt := 26) dX6_cellAt_21 (by decide) (fun c_21 => ?_) (fun c_21 => ?_)
        · skip
          obtain ⟨i, hi, rfl⟩ := zix c_1 c_9 (by omega)
          obtain ⟨j, hj, rfl⟩ := zix c_13 (Int32.not_le.mpr c_21) (by omega)
          have hpl := zplace hi hj
          refine zx_iload_n dX6_cellAt_26 rfl rfl ?_
          refine zx_aload_n dX6_cellAt_27 rfl rfl ?_
          refine zx_getI zf_X6_21 (by assumption) (Or.inl rfl) dX6_cellAt_28 ?_
          rw [hw0]
          refine zx_imul dX6_cellAt_31 ?_
          refine zx_iload_n dX6_cellAt_32 rfl rfl ?_
          refine zx_iadd dX6_cellAt_33 ?_
          rw [show nI j * nI w + nI i = nI (j * w + i) by rw [pk_mul, nI_add]]
          refine zx_istore_n dX6_cellAt_34 rfl (Nat.le_of_ble_eq_true rfl) ?_
          refine zx_iload_n dX6_cellAt_35 rfl rfl ?_
          refine zx_aload_n dX6_cellAt_36 rfl rfl ?_
          refine zx_getR zf_X6_31 (by assumption) (show _ = some 1 from hL.R0 (k := 3) (by decide)) rfl dX6_cellAt_37 ?_
          refine zx_alen (nI (w * h)) (by assumption) (by decide) (by rw [hl1]) dX6_cellAt_40 ?_
          refine zx_icmp_ge (tgt := 53) dX6_cellAt_41 (by decide) (fun h_ => absurd h_ (nI_ge hpl (by omega))) (fun _ => ?_)
          refine zx_aload_n dX6_cellAt_44 rfl rfl ?_
          refine zx_getR zf_X6_31 (by assumption) (show _ = some 1 from hL.R0 (k := 3) (by decide)) rfl dX6_cellAt_45 ?_
          refine zx_iload_n dX6_cellAt_48 rfl rfl ?_
          refine zx_aald (j * w + i) (by assumption) (by decide) rfl ⟨by rw [hl1]; exact hpl, by rw [hl1]; omega⟩ (hL.2.1 _ hpl) dX6_cellAt_49 ?_
          refine zx_goto (tgt := 54) dX6_cellAt_50 (by decide) ?_
          exact zx_areturn rfl (Or.inl ⟨_, rfl⟩) (by show some (zr (s_cellAt w h (nI i) (nI j))) = _; unfold s_cellAt; rw [if_neg c_1, if_neg c_9, if_neg c_13, if_pos c_21, nI_clamp (by omega), nI_clamp (by omega)]) (by rfl) dX6_cellAt_54
        · skip
          refine zx_null dX6_cellAt_24 ?_
          exact zx_areturn rfl (Or.inl ⟨_, rfl⟩) (by simp [zKa, s_cellAt, c_1, c_9, c_13, c_21]) (by rfl) dX6_cellAt_25

def s_waterAt (μ : ZMem) (w h : Nat) (x y : Int32) : Option Nat := match s_cellAt w h x y with
  | none => none
  | some c => if zI μ c 0 = 0 then none else some c
set_option maxHeartbeats 4000000 in
set_option maxRecDepth 100000 in
theorem m_X6_waterAt {g : ZG} {μ : ZMem} {w h : Nat} {ly : Int32} (hG : zGC g (w * h) (fcA w h)) (hL : zLC w h ly μ) (hW : zWf g μ) {x y : Int32} : zCab g RX6 yX6_waterAt cX6_waterAt 4 ((some (FieldType.object "CellCurrents$Cell"))) (zrm 1) [zr (some 0), zi x, zi y] μ (some (zr (s_waterAt μ w h x y))) μ := by
  refine zCab_w (by decide +kernel) rfl (Nat.le_of_ble_eq_true rfl) ?_
  have hO0 : zO g 6 0 := hG.fix 0 (by decide)
  have hO1 : zO g 12 1 := hG.fix 1 (by decide)
  have hO2 : zO g 13 2 := hG.fix 2 (by decide)
  have hO3 : zO g 15 3 := hG.fix 3 (by decide)
  have hO4 : zO g 8 4 := hG.fix 4 (by decide)
  have hO5 : zO g 8 5 := hG.fix 5 (by decide)
  have hO6 : zO g 14 6 := hG.fix 6 (by decide)
  have hO7 : zO g 16 7 := hG.fix 7 (by decide)
  have hO8 : zO g 5 8 := hG.fix 8 (by decide)
  have hl1 : zln g 1 = w * h := hG.l _ (Or.inl (by decide)) rfl
  have hl2 : zln g 2 = fcA w h := hG.l _ (Or.inl (by decide)) rfl
  have hl3 : zln g 3 = 4 := hG.l _ (Or.inl (by decide)) rfl
  have hl4 : zln g 4 = 24 := hG.l _ (Or.inl (by decide)) rfl
  have hl5 : zln g 5 = 24 := hG.l _ (Or.inl (by decide)) rfl
  have hl6 : zln g 6 = 10 := hG.l _ (Or.inl (by decide)) rfl
  have hl7 : zln g 7 = 4 := hG.l _ (Or.inl (by decide)) rfl
  have hN := hG.1
  have hF := hG.2.1
  have hw0 : zI μ 0 0 = nI w := hL.2.2.2.2.2.2.2.2.1
  have hh0 : zI μ 0 1 = nI h := hL.2.2.2.2.2.2.2.2.2.1
  have hy0 : zI μ 0 2 = ly := hL.2.2.2.2.2.2.2.2.2.2.1
  have hwb := hL.2.2.2.2.2.2.2.2.2.2.2
  refine zx_aload_n dX6_waterAt_0 rfl rfl ?_
  refine zx_iload_n dX6_waterAt_1 rfl rfl ?_
  refine zx_iload_n dX6_waterAt_2 rfl rfl ?_
  refine zx_callV1 _ zv_X6_80 (m_X6_cellAt hG hL hW) (by assumption) (by decide) rfl rfl rfl ⟨rfl, rfl, (Nat.le_of_ble_eq_true rfl), (Nat.le_of_ble_eq_true rfl)⟩ (Nat.le_of_ble_eq_true rfl) dX6_waterAt_3 ?_
  refine zx_astore_n dX6_waterAt_6 rfl (Nat.le_of_ble_eq_true rfl) ?_
  refine zx_aload_n dX6_waterAt_7 rfl rfl ?_
  refine zx_ifnull (tgt := 22) dX6_waterAt_8 (by decide) (fun c_8 => ?_) (fun r_8 c_8 => ?_)
  · skip
    rw [c_8]
    refine zx_null dX6_waterAt_22 ?_
    exact zx_areturn rfl (Or.inl ⟨_, rfl⟩) (by simp [zKa, s_waterAt, c_8]) (by rfl) dX6_waterAt_23
  · skip
    have hO_8 : zO g 0 r_8 := (by obtain ⟨i, j, hi, hj, -, -, rfl⟩ := s_cellAt_in (by omega) (by omega) c_8; exact hG.cell (zplace hi hj))
    rw [c_8]
    refine zx_aload_n dX6_waterAt_11 rfl rfl ?_
    refine zx_getI zf_X6_307 (by assumption) (Or.inr rfl) dX6_waterAt_12 ?_
    refine zx_if_eq (tgt := 22) dX6_waterAt_15 (by decide) (fun c_15 => ?_) (fun c_15 => ?_)
    · skip
      refine zx_null dX6_waterAt_22 ?_
      exact zx_areturn rfl (Or.inl ⟨_, rfl⟩) (by simp [zKa, s_waterAt, c_8, c_15]) (by rfl) dX6_waterAt_23
    · skip
      refine zx_aload_n dX6_waterAt_18 rfl rfl ?_
      refine zx_goto (tgt := 23) dX6_waterAt_19 (by decide) ?_
      exact zx_areturn rfl (Or.inl ⟨_, rfl⟩) (by simp [zKa, s_waterAt, c_8, c_15]) (by rfl) dX6_waterAt_23

def s_sideAt (x : Int32) : Option Nat := if x < 0 then none else if x < nI 4 then some (30 + x.toNatClampNeg) else none
set_option maxHeartbeats 4000000 in
set_option maxRecDepth 100000 in
theorem m_X6_sideAt {g : ZG} {μ : ZMem} {w h : Nat} {ly : Int32} (hG : zGC g (w * h) (fcA w h)) (hL : zLC w h ly μ) (hW : zWf g μ) {x : Int32} : zCab g RX6 yX6_sideAt cX6_sideAt 2 ((some (FieldType.object "CellCurrents$Side"))) (zrm 0) [zr (some 0), zi x] μ (some (zr (s_sideAt x))) μ := by
  refine zCab_w (by decide +kernel) rfl (Nat.le_of_ble_eq_true rfl) ?_
  have hO0 : zO g 6 0 := hG.fix 0 (by decide)
  have hO1 : zO g 12 1 := hG.fix 1 (by decide)
  have hO2 : zO g 13 2 := hG.fix 2 (by decide)
  have hO3 : zO g 15 3 := hG.fix 3 (by decide)
  have hO4 : zO g 8 4 := hG.fix 4 (by decide)
  have hO5 : zO g 8 5 := hG.fix 5 (by decide)
  have hO6 : zO g 14 6 := hG.fix 6 (by decide)
  have hO7 : zO g 16 7 := hG.fix 7 (by decide)
  have hO8 : zO g 5 8 := hG.fix 8 (by decide)
  have hl1 : zln g 1 = w * h := hG.l _ (Or.inl (by decide)) rfl
  have hl2 : zln g 2 = fcA w h := hG.l _ (Or.inl (by decide)) rfl
  have hl3 : zln g 3 = 4 := hG.l _ (Or.inl (by decide)) rfl
  have hl4 : zln g 4 = 24 := hG.l _ (Or.inl (by decide)) rfl
  have hl5 : zln g 5 = 24 := hG.l _ (Or.inl (by decide)) rfl
  have hl6 : zln g 6 = 10 := hG.l _ (Or.inl (by decide)) rfl
  have hl7 : zln g 7 = 4 := hG.l _ (Or.inl (by decide)) rfl
  have hN := hG.1
  have hF := hG.2.1
  have hw0 : zI μ 0 0 = nI w := hL.2.2.2.2.2.2.2.2.1
  have hh0 : zI μ 0 1 = nI h := hL.2.2.2.2.2.2.2.2.2.1
  have hy0 : zI μ 0 2 = ly := hL.2.2.2.2.2.2.2.2.2.2.1
  have hwb := hL.2.2.2.2.2.2.2.2.2.2.2
  refine zx_iload_n dX6_sideAt_0 rfl rfl ?_
  refine zx_if_lt (tgt := 13) dX6_sideAt_1 (by decide) (fun c_1 => ?_) (fun c_1 => ?_)
  · skip
    refine zx_null dX6_sideAt_13 ?_
    refine zx_goto (tgt := 23) dX6_sideAt_14 (by decide) ?_
    exact zx_areturn rfl (Or.inl ⟨_, rfl⟩) (by simp [zKa, s_sideAt, c_1]) (by rfl) dX6_sideAt_23
  · skip
    refine zx_iload_n dX6_sideAt_4 rfl rfl ?_
    refine zx_aload_n dX6_sideAt_5 rfl rfl ?_
    refine zx_getR zf_X6_35 (by assumption) (show _ = some 3 from hL.R0 (k := 5) (by decide)) rfl dX6_sideAt_6 ?_
    refine zx_alen (nI 4) (by assumption) (by decide) (by rw [hl3]) dX6_sideAt_9 ?_
    refine zx_icmp_lt (tgt := 17) dX6_sideAt_10 (by decide) (fun c_10 => ?_) (fun c_10 => ?_)
    · skip
      obtain ⟨i, hi, rfl⟩ := zix c_1 (Int32.not_le.mpr c_10) (by decide)
      refine zx_aload_n dX6_sideAt_17 rfl rfl ?_
      refine zx_getR zf_X6_35 (by assumption) (show _ = some 3 from hL.R0 (k := 5) (by decide)) rfl dX6_sideAt_18 ?_
      refine zx_iload_n dX6_sideAt_21 rfl rfl ?_
      refine zx_aald i (by assumption) (by decide) rfl ⟨by rw [hl3]; exact hi, by rw [hl3]; decide⟩ (hL.2.2.2.1 i hi).1 dX6_sideAt_22 ?_
      exact zx_areturn rfl (Or.inl ⟨_, rfl⟩) (by show some (zr (s_sideAt (nI i))) = _; unfold s_sideAt; rw [if_neg c_1, if_pos c_10, nI_clamp (by omega)]) (by rfl) dX6_sideAt_23
    · skip
      refine zx_null dX6_sideAt_13 ?_
      refine zx_goto (tgt := 23) dX6_sideAt_14 (by decide) ?_
      exact zx_areturn rfl (Or.inl ⟨_, rfl⟩) (by simp [zKa, s_sideAt, c_1, c_10]) (by rfl) dX6_sideAt_23

def s_isLayer (ly x : Int32) : Int32 := if x < 0 then 0 else if ly ≤ x then 0 else 1
set_option maxHeartbeats 4000000 in
set_option maxRecDepth 100000 in
theorem m_X6_isLayer {g : ZG} {μ : ZMem} {w h : Nat} {ly : Int32} (hG : zGC g (w * h) (fcA w h)) (hL : zLC w h ly μ) (hW : zWf g μ) {x : Int32} : zCab g RX6 yX6_isLayer cX6_isLayer 2 ((some FieldType.boolean)) (zrm 0) [zr (some 0), zi x] μ (some (zi (s_isLayer ly x))) μ := by
  refine zCab_w (by decide +kernel) rfl (Nat.le_of_ble_eq_true rfl) ?_
  have hO0 : zO g 6 0 := hG.fix 0 (by decide)
  have hO1 : zO g 12 1 := hG.fix 1 (by decide)
  have hO2 : zO g 13 2 := hG.fix 2 (by decide)
  have hO3 : zO g 15 3 := hG.fix 3 (by decide)
  have hO4 : zO g 8 4 := hG.fix 4 (by decide)
  have hO5 : zO g 8 5 := hG.fix 5 (by decide)
  have hO6 : zO g 14 6 := hG.fix 6 (by decide)
  have hO7 : zO g 16 7 := hG.fix 7 (by decide)
  have hO8 : zO g 5 8 := hG.fix 8 (by decide)
  have hl1 : zln g 1 = w * h := hG.l _ (Or.inl (by decide)) rfl
  have hl2 : zln g 2 = fcA w h := hG.l _ (Or.inl (by decide)) rfl
  have hl3 : zln g 3 = 4 := hG.l _ (Or.inl (by decide)) rfl
  have hl4 : zln g 4 = 24 := hG.l _ (Or.inl (by decide)) rfl
  have hl5 : zln g 5 = 24 := hG.l _ (Or.inl (by decide)) rfl
  have hl6 : zln g 6 = 10 := hG.l _ (Or.inl (by decide)) rfl
  have hl7 : zln g 7 = 4 := hG.l _ (Or.inl (by decide)) rfl
  have hN := hG.1
  have hF := hG.2.1
  have hw0 : zI μ 0 0 = nI w := hL.2.2.2.2.2.2.2.2.1
  have hh0 : zI μ 0 1 = nI h := hL.2.2.2.2.2.2.2.2.2.1
  have hy0 : zI μ 0 2 = ly := hL.2.2.2.2.2.2.2.2.2.2.1
  have hwb := hL.2.2.2.2.2.2.2.2.2.2.2
  refine zx_iload_n dX6_isLayer_0 rfl rfl ?_
  refine zx_if_lt (tgt := 16) dX6_isLayer_1 (by decide) (fun c_1 => ?_) (fun c_1 => ?_)
  · skip
    refine zx_iconst 0 dX6_isLayer_16 (by decide) ?_
    exact zx_zreturn rfl (by decide +kernel) (by first | rfl | simp [zKa, zKm, s_isLayer, zI_sI, zI_sL, zI_sD, zI_sR, zL_sI, zL_sL, zL_sD, zL_sR, zD_sI, zD_sL, zD_sD, zD_sR, zR_sI, zR_sL, zR_sD, zR_sR, c_1]) (by rfl) dX6_isLayer_17
  · skip
    refine zx_iload_n dX6_isLayer_4 rfl rfl ?_
    refine zx_aload_n dX6_isLayer_5 rfl rfl ?_
    refine zx_getI zf_X6_28 (by assumption) (Or.inl rfl) dX6_isLayer_6 ?_
    rw [hy0]
    refine zx_icmp_ge (tgt := 16) dX6_isLayer_9 (by decide) (fun c_9 => ?_) (fun c_9 => ?_)
    · skip
      refine zx_iconst 0 dX6_isLayer_16 (by decide) ?_
      exact zx_zreturn rfl (by decide +kernel) (by first | rfl | simp [zKa, zKm, s_isLayer, zI_sI, zI_sL, zI_sD, zI_sR, zL_sI, zL_sL, zL_sD, zL_sR, zD_sI, zD_sL, zD_sD, zD_sR, zR_sI, zR_sL, zR_sD, zR_sR, c_1, c_9]) (by rfl) dX6_isLayer_17
    · skip
      refine zx_iconst 1 dX6_isLayer_12 (by decide) ?_
      refine zx_goto (tgt := 17) dX6_isLayer_13 (by decide) ?_
      exact zx_zreturn rfl (by decide +kernel) (by first | rfl | simp [zKa, zKm, s_isLayer, zI_sI, zI_sL, zI_sD, zI_sR, zL_sI, zL_sL, zL_sD, zL_sR, zD_sI, zD_sL, zD_sD, zD_sR, zR_sI, zR_sL, zR_sD, zR_sR, c_1, c_9]) (by rfl) dX6_isLayer_17

def s_all (μ : ZMem) (N : Nat) : Int64 := zit (fun k s => s + zL μ (1000 + k) 2) N 0
set_option maxHeartbeats 4000000 in
set_option maxRecDepth 100000 in
theorem L_X6_allParts {g : ZG} {μ : ZMem} {w h : Nat} {ly : Int32} (hG : zGC g (w * h) (fcA w h)) (hL : zLC w h ly μ) (hW : zWf g μ) {res : Option ZV} {μ' : ZMem} (hx : zWA g (RX6, cX6_allParts, 7, ((some FieldType.long)), zrm 0, res, μ') 41 (zls [(0, zr (some 0)), (1, zl (s_all μ ((w * h)))), (3, zr (some 1)), (4, zi (nI (w * h))), (5, zi (nI ((w * h))))]) [] μ) : zWA g (RX6, cX6_allParts, 7, ((some FieldType.long)), zrm 0, res, μ') 14 (zls [(0, zr (some 0)), (1, zl (s_all μ (0))), (3, zr (some 1)), (4, zi (nI (w * h))), (5, zi (nI (0)))]) [] μ := by
  have hO0 : zO g 6 0 := hG.fix 0 (by decide)
  have hO1 : zO g 12 1 := hG.fix 1 (by decide)
  have hO2 : zO g 13 2 := hG.fix 2 (by decide)
  have hO3 : zO g 15 3 := hG.fix 3 (by decide)
  have hO4 : zO g 8 4 := hG.fix 4 (by decide)
  have hO5 : zO g 8 5 := hG.fix 5 (by decide)
  have hO6 : zO g 14 6 := hG.fix 6 (by decide)
  have hO7 : zO g 16 7 := hG.fix 7 (by decide)
  have hO8 : zO g 5 8 := hG.fix 8 (by decide)
  have hl1 : zln g 1 = w * h := hG.l _ (Or.inl (by decide)) rfl
  have hl2 : zln g 2 = fcA w h := hG.l _ (Or.inl (by decide)) rfl
  have hl3 : zln g 3 = 4 := hG.l _ (Or.inl (by decide)) rfl
  have hl4 : zln g 4 = 24 := hG.l _ (Or.inl (by decide)) rfl
  have hl5 : zln g 5 = 24 := hG.l _ (Or.inl (by decide)) rfl
  have hl6 : zln g 6 = 10 := hG.l _ (Or.inl (by decide)) rfl
  have hl7 : zln g 7 = 4 := hG.l _ (Or.inl (by decide)) rfl
  have hN := hG.1
  have hF := hG.2.1
  have hw0 : zI μ 0 0 = nI w := hL.2.2.2.2.2.2.2.2.1
  have hh0 : zI μ 0 1 = nI h := hL.2.2.2.2.2.2.2.2.2.1
  have hy0 : zI μ 0 2 = ly := hL.2.2.2.2.2.2.2.2.2.2.1
  have hwb := hL.2.2.2.2.2.2.2.2.2.2.2
  refine zloop (P := fun k => zWA g (RX6, cX6_allParts, 7, ((some FieldType.long)), zrm 0, res, μ') 14 (zls [(0, zr (some 0)), (1, zl (s_all μ (k))), (3, zr (some 1)), (4, zi (nI (w * h))), (5, zi (nI (k)))]) [] μ) (N := (w * h)) ?_ ?_ 0 (Nat.zero_le _)
  · show zWA _ _ _ _ _ _
    refine zx_iload dX6_allParts_14 rfl ?_
    refine zx_iload dX6_allParts_16 rfl ?_
    refine zx_icmp_ge (tgt := 41) dX6_allParts_18 (by decide) (fun _ => ?_) (fun h_ => absurd h_ (by simp))
    exact zWA_to hx ⟨rfl, rfl, rfl, rfl, rfl, trivial⟩
  · intro k hk hn_
    show zWA _ _ _ _ _ _
    refine zx_iload dX6_allParts_14 rfl ?_
    refine zx_iload dX6_allParts_16 rfl ?_
    refine zx_icmp_ge (tgt := 41) dX6_allParts_18 (by decide) (fun h_ => absurd h_ (nI_ge hk (by omega))) (fun _ => ?_)
    refine zx_aload_n dX6_allParts_21 rfl rfl ?_
    refine zx_iload dX6_allParts_22 rfl ?_
    refine zx_aald k (by assumption) (by decide) rfl ⟨by rw [hl1]; exact hk, by rw [hl1]; omega⟩ (hL.2.1 k hk) dX6_allParts_24 ?_
    refine zx_astore dX6_allParts_25 (Nat.le_of_ble_eq_true rfl) ?_
    refine zx_lload_n dX6_allParts_27 rfl rfl ?_
    refine zx_aload dX6_allParts_28 rfl ?_
    refine zx_getL zf_X6_94 (hG.cell hk) rfl dX6_allParts_30 ?_
    refine zx_ladd dX6_allParts_33 ?_
    refine zx_lstore_n dX6_allParts_34 rfl (Nat.le_of_ble_eq_true rfl) ?_
    refine zx_iinc (nI (k + 1)) dX6_allParts_35 rfl (by exact nI_1 k) (Nat.le_of_ble_eq_true rfl) ?_
    refine zx_goto (tgt := 14) dX6_allParts_38 (by decide) ?_
    exact zWA_to (zWA_mem hn_ (by rfl)) ⟨rfl, rfl, rfl, rfl, rfl, trivial⟩

set_option maxHeartbeats 4000000 in
set_option maxRecDepth 100000 in
theorem m_X6_allParts {g : ZG} {μ : ZMem} {w h : Nat} {ly : Int32} (hG : zGC g (w * h) (fcA w h)) (hL : zLC w h ly μ) (hW : zWf g μ) : zCab g RX6 yX6_allParts cX6_allParts 7 ((some FieldType.long)) (zrm 0) [zr (some 0)] μ (some (zl (s_all μ (w * h)))) μ := by
  refine zCab_w (by decide +kernel) rfl (Nat.le_of_ble_eq_true rfl) ?_
  have hO0 : zO g 6 0 := hG.fix 0 (by decide)
  have hO1 : zO g 12 1 := hG.fix 1 (by decide)
  have hO2 : zO g 13 2 := hG.fix 2 (by decide)
  have hO3 : zO g 15 3 := hG.fix 3 (by decide)
  have hO4 : zO g 8 4 := hG.fix 4 (by decide)
  have hO5 : zO g 8 5 := hG.fix 5 (by decide)
  have hO6 : zO g 14 6 := hG.fix 6 (by decide)
  have hO7 : zO g 16 7 := hG.fix 7 (by decide)
  have hO8 : zO g 5 8 := hG.fix 8 (by decide)
  have hl1 : zln g 1 = w * h := hG.l _ (Or.inl (by decide)) rfl
  have hl2 : zln g 2 = fcA w h := hG.l _ (Or.inl (by decide)) rfl
  have hl3 : zln g 3 = 4 := hG.l _ (Or.inl (by decide)) rfl
  have hl4 : zln g 4 = 24 := hG.l _ (Or.inl (by decide)) rfl
  have hl5 : zln g 5 = 24 := hG.l _ (Or.inl (by decide)) rfl
  have hl6 : zln g 6 = 10 := hG.l _ (Or.inl (by decide)) rfl
  have hl7 : zln g 7 = 4 := hG.l _ (Or.inl (by decide)) rfl
  have hN := hG.1
  have hF := hG.2.1
  have hw0 : zI μ 0 0 = nI w := hL.2.2.2.2.2.2.2.2.1
  have hh0 : zI μ 0 1 = nI h := hL.2.2.2.2.2.2.2.2.2.1
  have hy0 : zI μ 0 2 = ly := hL.2.2.2.2.2.2.2.2.2.2.1
  have hwb := hL.2.2.2.2.2.2.2.2.2.2.2
  refine zx_lconst 0 dX6_allParts_0 (by decide) ?_
  refine zx_lstore_n dX6_allParts_1 rfl (Nat.le_of_ble_eq_true rfl) ?_
  refine zx_aload_n dX6_allParts_2 rfl rfl ?_
  refine zx_getR zf_X6_31 (by assumption) (show _ = some 1 from hL.R0 (k := 3) (by decide)) rfl dX6_allParts_3 ?_
  refine zx_astore_n dX6_allParts_6 rfl (Nat.le_of_ble_eq_true rfl) ?_
  refine zx_aload_n dX6_allParts_7 rfl rfl ?_
  refine zx_alen (nI (w * h)) (by assumption) (by decide) (by rw [hl1]) dX6_allParts_8 ?_
  refine zx_istore dX6_allParts_9 (Nat.le_of_ble_eq_true rfl) ?_
  refine zx_iconst 0 dX6_allParts_11 (by decide) ?_
  refine zx_istore dX6_allParts_12 (Nat.le_of_ble_eq_true rfl) ?_
  refine zWA_to (L_X6_allParts hG hL hW ?_) ⟨rfl, rfl, rfl, rfl, rfl, trivial⟩
  refine zx_lload_n dX6_allParts_41 rfl rfl ?_
  exact zx_lreturn rfl (by rfl) (by rfl) dX6_allParts_42

