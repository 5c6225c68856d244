def s_minN (a b : Int32) : Int32 := s_min32 a b
set_option maxHeartbeats 4000000 in
set_option maxRecDepth 100000 in
theorem m_X4_cellsIn {g : ZG} {μ : ZMem} {s a N : Nat} (hO : zO g 4 s) (hW : zWf g μ) (ha : zO g 12 a) (hla : zln g a = N) (hN : N ≤ 144) {q : Nat} (hq : zR μ s 0 = some q) (hlq : zln g q = N) : zCab g RX4 yX4_cellsIn cX4_cellsIn 2 ((some FieldType.int)) (zrm 1) [zr (some s), zr (some a)] μ (some (zi (s_min32 (nI N) (nI N)))) μ := by
  refine zCab_w (by decide +kernel) rfl (Nat.le_of_ble_eq_true rfl) ?_
  have hqO : zO g 10 q := hW 4 _ _ _ hO hq
  refine zx_aload_n dX4_cellsIn_0 rfl rfl ?_
  refine zx_alen (nI N) (by assumption) (by decide) (by rw [hla]) dX4_cellsIn_1 ?_
  refine zx_aload_n dX4_cellsIn_2 rfl rfl ?_
  refine zx_getR zf_X4_22 (by assumption) hq rfl dX4_cellsIn_3 ?_
  refine zx_alen (nI N) (by assumption) (by decide) (by rw [hlq]) dX4_cellsIn_6 ?_
  refine zx_callS1 _ zs_X4_66 m_J9_min_7cf53 rfl rfl ⟨rfl, rfl, (Nat.le_of_ble_eq_true rfl), (Nat.le_of_ble_eq_true rfl)⟩ (Nat.le_of_ble_eq_true rfl) dX4_cellsIn_7 ?_
  exact zx_ireturn rfl (by rfl) (by rfl) dX4_cellsIn_10

theorem zmin_self (x : Int32) : s_min32 x x = x := by
  unfold s_min32
  split <;> rfl
def u_keepC1 (q0 q1 q2 q3 k : Nat) (μ : ZMem) : ZMem := zsD (zsD (zsD (zsL μ q0 k (zL μ (1000 + k) 2)) q1 k (zD μ (1000 + k) 3)) q2 k (zD (zsD μ q1 k (zD μ (1000 + k) 3)) (1000 + k) 4)) q3 k (zD (zsD (zsD μ q1 k (zD μ (1000 + k) 3)) q2 k (zD (zsD μ q1 k (zD μ (1000 + k) 3)) (1000 + k) 4)) (1000 + k) 5)
def u_giveC1 (q0 q1 q2 q3 k : Nat) (μ : ZMem) : ZMem := zsD (zsD (zsD (zsL μ (1000 + k) 2 (zL μ q0 k)) (1000 + k) 3 (zD μ q1 k)) (1000 + k) 4 (zD (zsD μ (1000 + k) 3 (zD μ q1 k)) q2 k)) (1000 + k) 5 (zD (zsD (zsD μ (1000 + k) 3 (zD μ q1 k)) (1000 + k) 4 (zD (zsD μ (1000 + k) 3 (zD μ q1 k)) q2 k)) q3 k)
set_option maxHeartbeats 4000000 in
set_option maxRecDepth 100000 in
theorem L_X4_keepCells {g : ZG} {μ : ZMem} {s a N : Nat} (hO : zO g 4 s) (hW : zWf g μ) (ha : zO g 12 a) (hla : zln g a = N) (hN : N ≤ 144) (hce : ∀ k, k < N → zR μ a k = some (1000 + k)) {q0 q1 q2 q3 : Nat} (h0 : zR μ s 0 = some q0) (h1 : zR μ s 1 = some q1) (h2 : zR μ s 2 = some q2) (h3 : zR μ s 3 = some q3) (l0 : zln g q0 = N) (l1 : zln g q1 = N) (l2 : zln g q2 = N) (l3 : zln g q3 = N) {res : Option ZV} {μ' : ZMem} (hx : zWA g (RX4, cX4_keepCells, 3, none, zrm 2, res, μ') 65 (zls [(0, zr (some s)), (1, zr (some a)), (2, zi (nI (N)))]) [] (zit (u_keepC1 q0 q1 q2 q3) (N) μ)) : zWA g (RX4, cX4_keepCells, 3, none, zrm 2, res, μ') 2 (zls [(0, zr (some s)), (1, zr (some a)), (2, zi (nI (0)))]) [] (zit (u_keepC1 q0 q1 q2 q3) (0) μ) := by
  have hO0 : zO g 10 q0 := hW 4 _ _ _ hO h0
  have hO1 : zO g 8 q1 := hW 4 _ _ _ hO h1
  have hO2 : zO g 8 q2 := hW 4 _ _ _ hO h2
  have hO3 : zO g 8 q3 := hW 4 _ _ _ hO h3
  have hR : ∀ k, zR (zit (u_keepC1 q0 q1 q2 q3) k μ) = zR μ := fun k => zit_keep (f := (u_keepC1 q0 q1 q2 q3)) zR (fun _ _ => rfl) k μ
  have hWk : ∀ k, zWf g (zit (u_keepC1 q0 q1 q2 q3) k μ) := fun k => zWf_R hW (fun r j => by rw [hR])
  have hR0 : ∀ k, zR (zit (u_keepC1 q0 q1 q2 q3) k μ) s 0 = some q0 := fun k => by rw [hR]; exact h0
  have hR1 : ∀ k, zR (zit (u_keepC1 q0 q1 q2 q3) k μ) s 1 = some q1 := fun k => by rw [hR]; exact h1
  have hR2 : ∀ k, zR (zit (u_keepC1 q0 q1 q2 q3) k μ) s 2 = some q2 := fun k => by rw [hR]; exact h2
  have hR3 : ∀ k, zR (zit (u_keepC1 q0 q1 q2 q3) k μ) s 3 = some q3 := fun k => by rw [hR]; exact h3
  have hRc : ∀ k, k < N → zR (zit (u_keepC1 q0 q1 q2 q3) k μ) a k = some (1000 + k) := fun k hk => by rw [hR]; exact hce k hk
  refine zloop (P := fun k => zWA g (RX4, cX4_keepCells, 3, none, zrm 2, res, μ') 2 (zls [(0, zr (some s)), (1, zr (some a)), (2, zi (nI (k)))]) [] (zit (u_keepC1 q0 q1 q2 q3) (k) μ)) (N := N) ?_ ?_ 0 (Nat.zero_le _)
  · show zWA _ _ _ _ _ _
    refine zx_iload_n dX4_keepCells_2 rfl rfl ?_
    refine zx_aload_n dX4_keepCells_3 rfl rfl ?_
    refine zx_aload_n dX4_keepCells_4 rfl rfl ?_
    refine zx_callV1 _ zv_X4_38 (m_X4_cellsIn (N := N) hO (hWk _) ha hla hN (hR0 _) l0) (by assumption) (by decide) rfl rfl rfl ⟨rfl, rfl, (Nat.le_of_ble_eq_true rfl), (Nat.le_of_ble_eq_true rfl)⟩ (Nat.le_of_ble_eq_true rfl) dX4_keepCells_5 ?_
    rw [zmin_self]
    refine zx_icmp_ge (tgt := 65) dX4_keepCells_8 (by decide) (fun _ => ?_) (fun h_ => absurd h_ (by simp))
    exact zWA_to hx ⟨rfl, rfl, rfl, trivial⟩
  · intro k hk hn
    show zWA _ _ _ _ _ _
    refine zx_iload_n dX4_keepCells_2 rfl rfl ?_
    refine zx_aload_n dX4_keepCells_3 rfl rfl ?_
    refine zx_aload_n dX4_keepCells_4 rfl rfl ?_
    refine zx_callV1 _ zv_X4_38 (m_X4_cellsIn (N := N) hO (hWk _) ha hla hN (hR0 _) l0) (by assumption) (by decide) rfl rfl rfl ⟨rfl, rfl, (Nat.le_of_ble_eq_true rfl), (Nat.le_of_ble_eq_true rfl)⟩ (Nat.le_of_ble_eq_true rfl) dX4_keepCells_5 ?_
    rw [zmin_self]
    refine zx_icmp_ge (tgt := 65) dX4_keepCells_8 (by decide) (fun h_ => absurd h_ (nI_ge hk (by omega))) (fun _ => ?_)
    refine zx_aload_n dX4_keepCells_11 rfl rfl ?_
    refine zx_getR zf_X4_22 (by assumption) (hR0 _) rfl dX4_keepCells_12 ?_
    refine zx_iload_n dX4_keepCells_15 rfl rfl ?_
    refine zx_aload_n dX4_keepCells_16 rfl rfl ?_
    refine zx_iload_n dX4_keepCells_17 rfl rfl ?_
    refine zx_aald k (by assumption) (by decide) rfl ⟨by rw [hla]; exact hk, by omega⟩ (hRc k hk) dX4_keepCells_18 ?_
    refine zx_getL zf_X4_42 (show zO g 0 (1000 + k) from (hWk k 12 a k _ ha (hRc k hk))) rfl dX4_keepCells_19 ?_
    refine zx_last k (by assumption) rfl ⟨by rw [l0]; exact hk, by omega⟩ dX4_keepCells_22 ?_
    refine zx_aload_n dX4_keepCells_23 rfl rfl ?_
    refine zx_getR zf_X4_25 (by assumption) (hR1 _) rfl dX4_keepCells_24 ?_
    refine zx_iload_n dX4_keepCells_27 rfl rfl ?_
    refine zx_aload_n dX4_keepCells_28 rfl rfl ?_
    refine zx_iload_n dX4_keepCells_29 rfl rfl ?_
    refine zx_aald k (by assumption) (by decide) rfl ⟨by rw [hla]; exact hk, by omega⟩ (hRc k hk) dX4_keepCells_30 ?_
    refine zx_getD zf_X4_47 (show zO g 0 (1000 + k) from (hWk k 12 a k _ ha (hRc k hk))) rfl dX4_keepCells_31 ?_
    refine zx_dast k (by assumption) rfl ⟨by rw [l1]; exact hk, by omega⟩ dX4_keepCells_34 ?_
    refine zx_aload_n dX4_keepCells_35 rfl rfl ?_
    refine zx_getR zf_X4_29 (by assumption) (hR2 _) rfl dX4_keepCells_36 ?_
    refine zx_iload_n dX4_keepCells_39 rfl rfl ?_
    refine zx_aload_n dX4_keepCells_40 rfl rfl ?_
    refine zx_iload_n dX4_keepCells_41 rfl rfl ?_
    refine zx_aald k (by assumption) (by decide) rfl ⟨by rw [hla]; exact hk, by omega⟩ (hRc k hk) dX4_keepCells_42 ?_
    refine zx_getD zf_X4_50 (show zO g 0 (1000 + k) from (hWk k 12 a k _ ha (hRc k hk))) rfl dX4_keepCells_43 ?_
    refine zx_dast k (by assumption) rfl ⟨by rw [l2]; exact hk, by omega⟩ dX4_keepCells_46 ?_
    refine zx_aload_n dX4_keepCells_47 rfl rfl ?_
    refine zx_getR zf_X4_32 (by assumption) (hR3 _) rfl dX4_keepCells_48 ?_
    refine zx_iload_n dX4_keepCells_51 rfl rfl ?_
    refine zx_aload_n dX4_keepCells_52 rfl rfl ?_
    refine zx_iload_n dX4_keepCells_53 rfl rfl ?_
    refine zx_aald k (by assumption) (by decide) rfl ⟨by rw [hla]; exact hk, by omega⟩ (hRc k hk) dX4_keepCells_54 ?_
    refine zx_getD zf_X4_52 (show zO g 0 (1000 + k) from (hWk k 12 a k _ ha (hRc k hk))) rfl dX4_keepCells_55 ?_
    refine zx_dast k (by assumption) rfl ⟨by rw [l3]; exact hk, by omega⟩ dX4_keepCells_58 ?_
    refine zx_iinc (nI (k + 1)) dX4_keepCells_59 rfl (by exact nI_1 k) (Nat.le_of_ble_eq_true rfl) ?_
    refine zx_goto (tgt := 2) dX4_keepCells_62 (by decide) ?_
    exact zWA_to (zWA_mem hn (by rfl)) ⟨rfl, rfl, rfl, trivial⟩

set_option maxHeartbeats 4000000 in
set_option maxRecDepth 100000 in
theorem m_X4_keepCells {g : ZG} {μ : ZMem} {s a N : Nat} (hO : zO g 4 s) (hW : zWf g μ) (ha : zO g 12 a) (hla : zln g a = N) (hN : N ≤ 144) (hce : ∀ k, k < N → zR μ a k = some (1000 + k)) {q0 q1 q2 q3 : Nat} (h0 : zR μ s 0 = some q0) (h1 : zR μ s 1 = some q1) (h2 : zR μ s 2 = some q2) (h3 : zR μ s 3 = some q3) (l0 : zln g q0 = N) (l1 : zln g q1 = N) (l2 : zln g q2 = N) (l3 : zln g q3 = N) : zCab g RX4 yX4_keepCells cX4_keepCells 3 (none) (zrm 2) [zr (some s), zr (some a)] μ none (zit (u_keepC1 q0 q1 q2 q3) N μ) := by
  refine zCab_w (by decide +kernel) rfl (Nat.le_of_ble_eq_true rfl) ?_
  refine zx_iconst 0 dX4_keepCells_0 (by decide) ?_
  refine zx_istore_n dX4_keepCells_1 rfl (Nat.le_of_ble_eq_true rfl) ?_
  exact zWA_to (L_X4_keepCells (N := N) hO hW ha hla hN hce h0 h1 h2 h3 l0 l1 l2 l3 (zx_return rfl rfl rfl dX4_keepCells_65)) ⟨rfl, rfl, rfl, trivial⟩

set_option maxHeartbeats 4000000 in
set_option maxRecDepth 100000 in
theorem L_X4_giveCells {g : ZG} {μ : ZMem} {s a N : Nat} (hO : zO g 4 s) (hW : zWf g μ) (ha : zO g 12 a) (hla : zln g a = N) (hN : N ≤ 144) (hce : ∀ k, k < N → zR μ a k = some (1000 + k)) {q0 q1 q2 q3 : Nat} (h0 : zR μ s 0 = some q0) (h1 : zR μ s 1 = some q1) (h2 : zR μ s 2 = some q2) (h3 : zR μ s 3 = some q3) (l0 : zln g q0 = N) (l1 : zln g q1 = N) (l2 : zln g q2 = N) (l3 : zln g q3 = N) {res : Option ZV} {μ' : ZMem} (hx : zWA g (RX4, cX4_giveCells, 3, none, zrm 2, res, μ') 65 (zls [(0, zr (some s)), (1, zr (some a)), (2, zi (nI (N)))]) [] (zit (u_giveC1 q0 q1 q2 q3) (N) μ)) : zWA g (RX4, cX4_giveCells, 3, none, zrm 2, res, μ') 2 (zls [(0, zr (some s)), (1, zr (some a)), (2, zi (nI (0)))]) [] (zit (u_giveC1 q0 q1 q2 q3) (0) μ) := by
  have hO0 : zO g 10 q0 := hW 4 _ _ _ hO h0
  have hO1 : zO g 8 q1 := hW 4 _ _ _ hO h1
  have hO2 : zO g 8 q2 := hW 4 _ _ _ hO h2
  have hO3 : zO g 8 q3 := hW 4 _ _ _ hO h3
  have hR : ∀ k, zR (zit (u_giveC1 q0 q1 q2 q3) k μ) = zR μ := fun k => zit_keep (f := (u_giveC1 q0 q1 q2 q3)) zR (fun _ _ => rfl) k μ
  have hWk : ∀ k, zWf g (zit (u_giveC1 q0 q1 q2 q3) k μ) := fun k => zWf_R hW (fun r j => by rw [hR])
  have hR0 : ∀ k, zR (zit (u_giveC1 q0 q1 q2 q3) k μ) s 0 = some q0 := fun k => by rw [hR]; exact h0
  have hR1 : ∀ k, zR (zit (u_giveC1 q0 q1 q2 q3) k μ) s 1 = some q1 := fun k => by rw [hR]; exact h1
  have hR2 : ∀ k, zR (zit (u_giveC1 q0 q1 q2 q3) k μ) s 2 = some q2 := fun k => by rw [hR]; exact h2
  have hR3 : ∀ k, zR (zit (u_giveC1 q0 q1 q2 q3) k μ) s 3 = some q3 := fun k => by rw [hR]; exact h3
  have hRc : ∀ k, k < N → zR (zit (u_giveC1 q0 q1 q2 q3) k μ) a k = some (1000 + k) := fun k hk => by rw [hR]; exact hce k hk
  refine zloop (P := fun k => zWA g (RX4, cX4_giveCells, 3, none, zrm 2, res, μ') 2 (zls [(0, zr (some s)), (1, zr (some a)), (2, zi (nI (k)))]) [] (zit (u_giveC1 q0 q1 q2 q3) (k) μ)) (N := N) ?_ ?_ 0 (Nat.zero_le _)
  · show zWA _ _ _ _ _ _
    refine zx_iload_n dX4_giveCells_2 rfl rfl ?_
    refine zx_aload_n dX4_giveCells_3 rfl rfl ?_
    refine zx_aload_n dX4_giveCells_4 rfl rfl ?_
    refine zx_callV1 _ zv_X4_38 (m_X4_cellsIn (N := N) hO (hWk _) ha hla hN (hR0 _) l0) (by assumption) (by decide) rfl rfl rfl ⟨rfl, rfl, (Nat.le_of_ble_eq_true rfl), (Nat.le_of_ble_eq_true rfl)⟩ (Nat.le_of_ble_eq_true rfl) dX4_giveCells_5 ?_
    rw [zmin_self]
    refine zx_icmp_ge (tgt := 65) dX4_giveCells_8 (by decide) (fun _ => ?_) (fun h_ => absurd h_ (by simp))
    exact zWA_to hx ⟨rfl, rfl, rfl, trivial⟩
  · intro k hk hn
    show zWA _ _ _ _ _ _
    refine zx_iload_n dX4_giveCells_2 rfl rfl ?_
    refine zx_aload_n dX4_giveCells_3 rfl rfl ?_
    refine zx_aload_n dX4_giveCells_4 rfl rfl ?_
    refine zx_callV1 _ zv_X4_38 (m_X4_cellsIn (N := N) hO (hWk _) ha hla hN (hR0 _) l0) (by assumption) (by decide) rfl rfl rfl ⟨rfl, rfl, (Nat.le_of_ble_eq_true rfl), (Nat.le_of_ble_eq_true rfl)⟩ (Nat.le_of_ble_eq_true rfl) dX4_giveCells_5 ?_
    rw [zmin_self]
    refine zx_icmp_ge (tgt := 65) dX4_giveCells_8 (by decide) (fun h_ => absurd h_ (nI_ge hk (by omega))) (fun _ => ?_)
    refine zx_aload_n dX4_giveCells_11 rfl rfl ?_
    refine zx_iload_n dX4_giveCells_12 rfl rfl ?_
    refine zx_aald k (by assumption) (by decide) rfl ⟨by rw [hla]; exact hk, by omega⟩ (hRc k hk) dX4_giveCells_13 ?_
    refine zx_aload_n dX4_giveCells_14 rfl rfl ?_
    refine zx_getR zf_X4_22 (by assumption) (hR0 _) rfl dX4_giveCells_15 ?_
    refine zx_iload_n dX4_giveCells_18 rfl rfl ?_
    refine zx_lald k (by assumption) rfl ⟨by rw [l0]; exact hk, by omega⟩ dX4_giveCells_19 ?_
    refine zx_putL zf_X4_42 (show zO g 0 (1000 + k) from (hWk k 12 a k _ ha (hRc k hk))) rfl dX4_giveCells_20 ?_
    refine zx_aload_n dX4_giveCells_23 rfl rfl ?_
    refine zx_iload_n dX4_giveCells_24 rfl rfl ?_
    refine zx_aald k (by assumption) (by decide) rfl ⟨by rw [hla]; exact hk, by omega⟩ (hRc k hk) dX4_giveCells_25 ?_
    refine zx_aload_n dX4_giveCells_26 rfl rfl ?_
    refine zx_getR zf_X4_25 (by assumption) (hR1 _) rfl dX4_giveCells_27 ?_
    refine zx_iload_n dX4_giveCells_30 rfl rfl ?_
    refine zx_dald k (by assumption) rfl ⟨by rw [l1]; exact hk, by omega⟩ dX4_giveCells_31 ?_
    refine zx_putD zf_X4_47 (show zO g 0 (1000 + k) from (hWk k 12 a k _ ha (hRc k hk))) rfl dX4_giveCells_32 ?_
    refine zx_aload_n dX4_giveCells_35 rfl rfl ?_
    refine zx_iload_n dX4_giveCells_36 rfl rfl ?_
    refine zx_aald k (by assumption) (by decide) rfl ⟨by rw [hla]; exact hk, by omega⟩ (hRc k hk) dX4_giveCells_37 ?_
    refine zx_aload_n dX4_giveCells_38 rfl rfl ?_
    refine zx_getR zf_X4_29 (by assumption) (hR2 _) rfl dX4_giveCells_39 ?_
    refine zx_iload_n dX4_giveCells_42 rfl rfl ?_
    refine zx_dald k (by assumption) rfl ⟨by rw [l2]; exact hk, by omega⟩ dX4_giveCells_43 ?_
    refine zx_putD zf_X4_50 (show zO g 0 (1000 + k) from (hWk k 12 a k _ ha (hRc k hk))) rfl dX4_giveCells_44 ?_
    refine zx_aload_n dX4_giveCells_47 rfl rfl ?_
    refine zx_iload_n dX4_giveCells_48 rfl rfl ?_
    refine zx_aald k (by assumption) (by decide) rfl ⟨by rw [hla]; exact hk, by omega⟩ (hRc k hk) dX4_giveCells_49 ?_
    refine zx_aload_n dX4_giveCells_50 rfl rfl ?_
    refine zx_getR zf_X4_32 (by assumption) (hR3 _) rfl dX4_giveCells_51 ?_
    refine zx_iload_n dX4_giveCells_54 rfl rfl ?_
    refine zx_dald k (by assumption) rfl ⟨by rw [l3]; exact hk, by omega⟩ dX4_giveCells_55 ?_
    refine zx_putD zf_X4_52 (show zO g 0 (1000 + k) from (hWk k 12 a k _ ha (hRc k hk))) rfl dX4_giveCells_56 ?_
    refine zx_iinc (nI (k + 1)) dX4_giveCells_59 rfl (by exact nI_1 k) (Nat.le_of_ble_eq_true rfl) ?_
    refine zx_goto (tgt := 2) dX4_giveCells_62 (by decide) ?_
    exact zWA_to (zWA_mem hn (by rfl)) ⟨rfl, rfl, rfl, trivial⟩

set_option maxHeartbeats 4000000 in
set_option maxRecDepth 100000 in
theorem m_X4_giveCells {g : ZG} {μ : ZMem} {s a N : Nat} (hO : zO g 4 s) (hW : zWf g μ) (ha : zO g 12 a) (hla : zln g a = N) (hN : N ≤ 144) (hce : ∀ k, k < N → zR μ a k = some (1000 + k)) {q0 q1 q2 q3 : Nat} (h0 : zR μ s 0 = some q0) (h1 : zR μ s 1 = some q1) (h2 : zR μ s 2 = some q2) (h3 : zR μ s 3 = some q3) (l0 : zln g q0 = N) (l1 : zln g q1 = N) (l2 : zln g q2 = N) (l3 : zln g q3 = N) : zCab g RX4 yX4_giveCells cX4_giveCells 3 (none) (zrm 2) [zr (some s), zr (some a)] μ none (zit (u_giveC1 q0 q1 q2 q3) N μ) := by
  refine zCab_w (by decide +kernel) rfl (Nat.le_of_ble_eq_true rfl) ?_
  refine zx_iconst 0 dX4_giveCells_0 (by decide) ?_
  refine zx_istore_n dX4_giveCells_1 rfl (Nat.le_of_ble_eq_true rfl) ?_
  exact zWA_to (L_X4_giveCells (N := N) hO hW ha hla hN hce h0 h1 h2 h3 l0 l1 l2 l3 (zx_return rfl rfl rfl dX4_giveCells_65)) ⟨rfl, rfl, rfl, trivial⟩

def u_keepF1 (q k : Nat) (μ : ZMem) : ZMem := zsD μ q k (zD μ (2000 + k) 4)
set_option maxHeartbeats 4000000 in
set_option maxRecDepth 100000 in
theorem L_X4_keepFaces {g : ZG} {μ : ZMem} {s a N : Nat} (hO : zO g 4 s) (hW : zWf g μ) (ha : zO g 13 a) (hla : zln g a = N) (hN : N ≤ 400) (hce : ∀ k, k < N → zR μ a k = some (2000 + k)) {q : Nat} (h0 : zR μ s 4 = some q) (l0 : zln g q = N) {res : Option ZV} {μ' : ZMem} (hx : zWA g (RX4, cX4_keepFaces, 3, none, zrm 1, res, μ') 35 (zls [(0, zr (some s)), (1, zr (some a)), (2, zi (nI (N)))]) [] (zit (u_keepF1 q) (N) μ)) : zWA g (RX4, cX4_keepFaces, 3, none, zrm 1, res, μ') 2 (zls [(0, zr (some s)), (1, zr (some a)), (2, zi (nI (0)))]) [] (zit (u_keepF1 q) (0) μ) := by
  have hO0 : zO g 8 q := hW 4 _ _ _ hO h0
  have hR : ∀ k, zR (zit (u_keepF1 q) k μ) = zR μ := fun k => zit_keep (f := (u_keepF1 q)) zR (fun _ _ => rfl) k μ
  have hWk : ∀ k, zWf g (zit (u_keepF1 q) k μ) := fun k => zWf_R hW (fun r j => by rw [hR])
  have hR0 : ∀ k, zR (zit (u_keepF1 q) k μ) s 4 = some q := fun k => by rw [hR]; exact h0
  have hRc : ∀ k, k < N → zR (zit (u_keepF1 q) k μ) a k = some (2000 + k) := fun k hk => by rw [hR]; exact hce k hk
  refine zloop (P := fun k => zWA g (RX4, cX4_keepFaces, 3, none, zrm 1, res, μ') 2 (zls [(0, zr (some s)), (1, zr (some a)), (2, zi (nI (k)))]) [] (zit (u_keepF1 q) (k) μ)) (N := N) ?_ ?_ 0 (Nat.zero_le _)
  · show zWA _ _ _ _ _ _
    refine zx_iload_n dX4_keepFaces_2 rfl rfl ?_
    refine zx_aload_n dX4_keepFaces_3 rfl rfl ?_
    refine zx_alen (nI N) (by assumption) (by decide) (by first | rw [hla] | rw [l0]) dX4_keepFaces_4 ?_
    refine zx_icmp_ge (tgt := 35) dX4_keepFaces_5 (by decide) (fun _ => ?_) (fun h_ => absurd h_ (by simp))
    exact zWA_to hx ⟨rfl, rfl, rfl, trivial⟩
  · intro k hk hn
    show zWA _ _ _ _ _ _
    refine zx_iload_n dX4_keepFaces_2 rfl rfl ?_
    refine zx_aload_n dX4_keepFaces_3 rfl rfl ?_
    refine zx_alen (nI N) (by assumption) (by decide) (by first | rw [hla] | rw [l0]) dX4_keepFaces_4 ?_
    refine zx_icmp_ge (tgt := 35) dX4_keepFaces_5 (by decide) (fun h_ => absurd h_ (nI_ge hk (by omega))) (fun _ => ?_)
    refine zx_iload_n dX4_keepFaces_8 rfl rfl ?_
    refine zx_aload_n dX4_keepFaces_9 rfl rfl ?_
    refine zx_getR zf_X4_35 (by assumption) (hR0 _) rfl dX4_keepFaces_10 ?_
    refine zx_alen (nI N) (by assumption) (by decide) (by first | rw [hla] | rw [l0]) dX4_keepFaces_13 ?_
    refine zx_icmp_ge (tgt := 35) dX4_keepFaces_14 (by decide) (fun h_ => absurd h_ (nI_ge hk (by omega))) (fun _ => ?_)
    refine zx_aload_n dX4_keepFaces_17 rfl rfl ?_
    refine zx_getR zf_X4_35 (by assumption) (hR0 _) rfl dX4_keepFaces_18 ?_
    refine zx_iload_n dX4_keepFaces_21 rfl rfl ?_
    refine zx_aload_n dX4_keepFaces_22 rfl rfl ?_
    refine zx_iload_n dX4_keepFaces_23 rfl rfl ?_
    refine zx_aald k (by assumption) (by decide) rfl ⟨by rw [hla]; exact hk, by omega⟩ (hRc k hk) dX4_keepFaces_24 ?_
    refine zx_getD zf_X4_54 (show zO g 1 (2000 + k) from (hWk k 13 a k _ ha (hRc k hk))) rfl dX4_keepFaces_25 ?_
    refine zx_dast k (by assumption) rfl ⟨by rw [l0]; exact hk, by omega⟩ dX4_keepFaces_28 ?_
    refine zx_iinc (nI (k + 1)) dX4_keepFaces_29 rfl (by exact nI_1 k) (Nat.le_of_ble_eq_true rfl) ?_
    refine zx_goto (tgt := 2) dX4_keepFaces_32 (by decide) ?_
    exact zWA_to (zWA_mem hn (by rfl)) ⟨rfl, rfl, rfl, trivial⟩

set_option maxHeartbeats 4000000 in
set_option maxRecDepth 100000 in
theorem m_X4_keepFaces {g : ZG} {μ : ZMem} {s a N : Nat} (hO : zO g 4 s) (hW : zWf g μ) (ha : zO g 13 a) (hla : zln g a = N) (hN : N ≤ 400) (hce : ∀ k, k < N → zR μ a k = some (2000 + k)) {q : Nat} (h0 : zR μ s 4 = some q) (l0 : zln g q = N) : zCab g RX4 yX4_keepFaces cX4_keepFaces 3 (none) (zrm 1) [zr (some s), zr (some a)] μ none (zit (u_keepF1 q) N μ) := by
  refine zCab_w (by decide +kernel) rfl (Nat.le_of_ble_eq_true rfl) ?_
  refine zx_iconst 0 dX4_keepFaces_0 (by decide) ?_
  refine zx_istore_n dX4_keepFaces_1 rfl (Nat.le_of_ble_eq_true rfl) ?_
  exact zWA_to (L_X4_keepFaces (N := N) hO hW ha hla hN hce h0 l0 (zx_return rfl rfl rfl dX4_keepFaces_35)) ⟨rfl, rfl, rfl, trivial⟩

def u_giveF1 (q k : Nat) (μ : ZMem) : ZMem := zsD μ (2000 + k) 4 (zD μ q k)
set_option maxHeartbeats 4000000 in
set_option maxRecDepth 100000 in
theorem L_X4_giveFaces {g : ZG} {μ : ZMem} {s a N : Nat} (hO : zO g 4 s) (hW : zWf g μ) (ha : zO g 13 a) (hla : zln g a = N) (hN : N ≤ 400) (hce : ∀ k, k < N → zR μ a k = some (2000 + k)) {q : Nat} (h0 : zR μ s 4 = some q) (l0 : zln g q = N) {res : Option ZV} {μ' : ZMem} (hx : zWA g (RX4, cX4_giveFaces, 3, none, zrm 1, res, μ') 35 (zls [(0, zr (some s)), (1, zr (some a)), (2, zi (nI (N)))]) [] (zit (u_giveF1 q) (N) μ)) : zWA g (RX4, cX4_giveFaces, 3, none, zrm 1, res, μ') 2 (zls [(0, zr (some s)), (1, zr (some a)), (2, zi (nI (0)))]) [] (zit (u_giveF1 q) (0) μ) := by
  have hO0 : zO g 8 q := hW 4 _ _ _ hO h0
  have hR : ∀ k, zR (zit (u_giveF1 q) k μ) = zR μ := fun k => zit_keep (f := (u_giveF1 q)) zR (fun _ _ => rfl) k μ
  have hWk : ∀ k, zWf g (zit (u_giveF1 q) k μ) := fun k => zWf_R hW (fun r j => by rw [hR])
  have hR0 : ∀ k, zR (zit (u_giveF1 q) k μ) s 4 = some q := fun k => by rw [hR]; exact h0
  have hRc : ∀ k, k < N → zR (zit (u_giveF1 q) k μ) a k = some (2000 + k) := fun k hk => by rw [hR]; exact hce k hk
  refine zloop (P := fun k => zWA g (RX4, cX4_giveFaces, 3, none, zrm 1, res, μ') 2 (zls [(0, zr (some s)), (1, zr (some a)), (2, zi (nI (k)))]) [] (zit (u_giveF1 q) (k) μ)) (N := N) ?_ ?_ 0 (Nat.zero_le _)
  · show zWA _ _ _ _ _ _
    refine zx_iload_n dX4_giveFaces_2 rfl rfl ?_
    refine zx_aload_n dX4_giveFaces_3 rfl rfl ?_
    refine zx_alen (nI N) (by assumption) (by decide) (by first | rw [hla] | rw [l0]) dX4_giveFaces_4 ?_
    refine zx_icmp_ge (tgt := 35) dX4_giveFaces_5 (by decide) (fun _ => ?_) (fun h_ => absurd h_ (by simp))
    exact zWA_to hx ⟨rfl, rfl, rfl, trivial⟩
  · intro k hk hn
    show zWA _ _ _ _ _ _
    refine zx_iload_n dX4_giveFaces_2 rfl rfl ?_
    refine zx_aload_n dX4_giveFaces_3 rfl rfl ?_
    refine zx_alen (nI N) (by assumption) (by decide) (by first | rw [hla] | rw [l0]) dX4_giveFaces_4 ?_
    refine zx_icmp_ge (tgt := 35) dX4_giveFaces_5 (by decide) (fun h_ => absurd h_ (nI_ge hk (by omega))) (fun _ => ?_)
    refine zx_iload_n dX4_giveFaces_8 rfl rfl ?_
    refine zx_aload_n dX4_giveFaces_9 rfl rfl ?_
    refine zx_getR zf_X4_35 (by assumption) (hR0 _) rfl dX4_giveFaces_10 ?_
    refine zx_alen (nI N) (by assumption) (by decide) (by first | rw [hla] | rw [l0]) dX4_giveFaces_13 ?_
    refine zx_icmp_ge (tgt := 35) dX4_giveFaces_14 (by decide) (fun h_ => absurd h_ (nI_ge hk (by omega))) (fun _ => ?_)
    refine zx_aload_n dX4_giveFaces_17 rfl rfl ?_
    refine zx_iload_n dX4_giveFaces_18 rfl rfl ?_
    refine zx_aald k (by assumption) (by decide) rfl ⟨by rw [hla]; exact hk, by omega⟩ (hRc k hk) dX4_giveFaces_19 ?_
    refine zx_aload_n dX4_giveFaces_20 rfl rfl ?_
    refine zx_getR zf_X4_35 (by assumption) (hR0 _) rfl dX4_giveFaces_21 ?_
    refine zx_iload_n dX4_giveFaces_24 rfl rfl ?_
    refine zx_dald k (by assumption) rfl ⟨by rw [l0]; exact hk, by omega⟩ dX4_giveFaces_25 ?_
    refine zx_putD zf_X4_54 (show zO g 1 (2000 + k) from (hWk k 13 a k _ ha (hRc k hk))) rfl dX4_giveFaces_26 ?_
    refine zx_iinc (nI (k + 1)) dX4_giveFaces_29 rfl (by exact nI_1 k) (Nat.le_of_ble_eq_true rfl) ?_
    refine zx_goto (tgt := 2) dX4_giveFaces_32 (by decide) ?_
    exact zWA_to (zWA_mem hn (by rfl)) ⟨rfl, rfl, rfl, trivial⟩

set_option maxHeartbeats 4000000 in
set_option maxRecDepth 100000 in
theorem m_X4_giveFaces {g : ZG} {μ : ZMem} {s a N : Nat} (hO : zO g 4 s) (hW : zWf g μ) (ha : zO g 13 a) (hla : zln g a = N) (hN : N ≤ 400) (hce : ∀ k, k < N → zR μ a k = some (2000 + k)) {q : Nat} (h0 : zR μ s 4 = some q) (l0 : zln g q = N) : zCab g RX4 yX4_giveFaces cX4_giveFaces 3 (none) (zrm 1) [zr (some s), zr (some a)] μ none (zit (u_giveF1 q) N μ) := by
  refine zCab_w (by decide +kernel) rfl (Nat.le_of_ble_eq_true rfl) ?_
  refine zx_iconst 0 dX4_giveFaces_0 (by decide) ?_
  refine zx_istore_n dX4_giveFaces_1 rfl (Nat.le_of_ble_eq_true rfl) ?_
  exact zWA_to (L_X4_giveFaces (N := N) hO hW ha hla hN hce h0 l0 (zx_return rfl rfl rfl dX4_giveFaces_35)) ⟨rfl, rfl, rfl, trivial⟩

def u_keepS1 (q k : Nat) (μ : ZMem) : ZMem := zsL μ q k (zL μ (30 + k) 4)
set_option maxHeartbeats 4000000 in
set_option maxRecDepth 100000 in
theorem L_X4_keepSides {g : ZG} {μ : ZMem} {s a N : Nat} (hO : zO g 4 s) (hW : zWf g μ) (ha : zO g 15 a) (hla : zln g a = N) (hN : N ≤ 400) (hce : ∀ k, k < N → zR μ a k = some (30 + k)) {q : Nat} (h0 : zR μ s 6 = some q) (l0 : zln g q = N) {res : Option ZV} {μ' : ZMem} (hx : zWA g (RX4, cX4_keepSides, 3, none, zrm 1, res, μ') 35 (zls [(0, zr (some s)), (1, zr (some a)), (2, zi (nI (N)))]) [] (zit (u_keepS1 q) (N) μ)) : zWA g (RX4, cX4_keepSides, 3, none, zrm 1, res, μ') 2 (zls [(0, zr (some s)), (1, zr (some a)), (2, zi (nI (0)))]) [] (zit (u_keepS1 q) (0) μ) := by
  have hO0 : zO g 10 q := hW 4 _ _ _ hO h0
  have hR : ∀ k, zR (zit (u_keepS1 q) k μ) = zR μ := fun k => zit_keep (f := (u_keepS1 q)) zR (fun _ _ => rfl) k μ
  have hWk : ∀ k, zWf g (zit (u_keepS1 q) k μ) := fun k => zWf_R hW (fun r j => by rw [hR])
  have hR0 : ∀ k, zR (zit (u_keepS1 q) k μ) s 6 = some q := fun k => by rw [hR]; exact h0
  have hRc : ∀ k, k < N → zR (zit (u_keepS1 q) k μ) a k = some (30 + k) := fun k hk => by rw [hR]; exact hce k hk
  refine zloop (P := fun k => zWA g (RX4, cX4_keepSides, 3, none, zrm 1, res, μ') 2 (zls [(0, zr (some s)), (1, zr (some a)), (2, zi (nI (k)))]) [] (zit (u_keepS1 q) (k) μ)) (N := N) ?_ ?_ 0 (Nat.zero_le _)
  · show zWA _ _ _ _ _ _
    refine zx_iload_n dX4_keepSides_2 rfl rfl ?_
    refine zx_aload_n dX4_keepSides_3 rfl rfl ?_
    refine zx_alen (nI N) (by assumption) (by decide) (by first | rw [hla] | rw [l0]) dX4_keepSides_4 ?_
    refine zx_icmp_ge (tgt := 35) dX4_keepSides_5 (by decide) (fun _ => ?_) (fun h_ => absurd h_ (by simp))
    exact zWA_to hx ⟨rfl, rfl, rfl, trivial⟩
  · intro k hk hn
    show zWA _ _ _ _ _ _
    refine zx_iload_n dX4_keepSides_2 rfl rfl ?_
    refine zx_aload_n dX4_keepSides_3 rfl rfl ?_
    refine zx_alen (nI N) (by assumption) (by decide) (by first | rw [hla] | rw [l0]) dX4_keepSides_4 ?_
    refine zx_icmp_ge (tgt := 35) dX4_keepSides_5 (by decide) (fun h_ => absurd h_ (nI_ge hk (by omega))) (fun _ => ?_)
    refine zx_iload_n dX4_keepSides_8 rfl rfl ?_
    refine zx_aload_n dX4_keepSides_9 rfl rfl ?_
    refine zx_getR zf_X4_15 (by assumption) (hR0 _) rfl dX4_keepSides_10 ?_
    refine zx_alen (nI N) (by assumption) (by decide) (by first | rw [hla] | rw [l0]) dX4_keepSides_13 ?_
    refine zx_icmp_ge (tgt := 35) dX4_keepSides_14 (by decide) (fun h_ => absurd h_ (nI_ge hk (by omega))) (fun _ => ?_)
    refine zx_aload_n dX4_keepSides_17 rfl rfl ?_
    refine zx_getR zf_X4_15 (by assumption) (hR0 _) rfl dX4_keepSides_18 ?_
    refine zx_iload_n dX4_keepSides_21 rfl rfl ?_
    refine zx_aload_n dX4_keepSides_22 rfl rfl ?_
    refine zx_iload_n dX4_keepSides_23 rfl rfl ?_
    refine zx_aald k (by assumption) (by decide) rfl ⟨by rw [hla]; exact hk, by omega⟩ (hRc k hk) dX4_keepSides_24 ?_
    refine zx_getL zf_X4_62 (show zO g 3 (30 + k) from (hWk k 15 a k _ ha (hRc k hk))) rfl dX4_keepSides_25 ?_
    refine zx_last k (by assumption) rfl ⟨by rw [l0]; exact hk, by omega⟩ dX4_keepSides_28 ?_
    refine zx_iinc (nI (k + 1)) dX4_keepSides_29 rfl (by exact nI_1 k) (Nat.le_of_ble_eq_true rfl) ?_
    refine zx_goto (tgt := 2) dX4_keepSides_32 (by decide) ?_
    exact zWA_to (zWA_mem hn (by rfl)) ⟨rfl, rfl, rfl, trivial⟩

set_option maxHeartbeats 4000000 in
set_option maxRecDepth 100000 in
theorem m_X4_keepSides {g : ZG} {μ : ZMem} {s a N : Nat} (hO : zO g 4 s) (hW : zWf g μ) (ha : zO g 15 a) (hla : zln g a = N) (hN : N ≤ 400) (hce : ∀ k, k < N → zR μ a k = some (30 + k)) {q : Nat} (h0 : zR μ s 6 = some q) (l0 : zln g q = N) : zCab g RX4 yX4_keepSides cX4_keepSides 3 (none) (zrm 1) [zr (some s), zr (some a)] μ none (zit (u_keepS1 q) N μ) := by
  refine zCab_w (by decide +kernel) rfl (Nat.le_of_ble_eq_true rfl) ?_
  refine zx_iconst 0 dX4_keepSides_0 (by decide) ?_
  refine zx_istore_n dX4_keepSides_1 rfl (Nat.le_of_ble_eq_true rfl) ?_
  exact zWA_to (L_X4_keepSides (N := N) hO hW ha hla hN hce h0 l0 (zx_return rfl rfl rfl dX4_keepSides_35)) ⟨rfl, rfl, rfl, trivial⟩

def u_giveS1 (q k : Nat) (μ : ZMem) : ZMem := zsL μ (30 + k) 4 (zL μ q k)
set_option maxHeartbeats 4000000 in
set_option maxRecDepth 100000 in
theorem L_X4_giveSides {g : ZG} {μ : ZMem} {s a N : Nat} (hO : zO g 4 s) (hW : zWf g μ) (ha : zO g 15 a) (hla : zln g a = N) (hN : N ≤ 400) (hce : ∀ k, k < N → zR μ a k = some (30 + k)) {q : Nat} (h0 : zR μ s 6 = some q) (l0 : zln g q = N) {res : Option ZV} {μ' : ZMem} (hx : zWA g (RX4, cX4_giveSides, 3, none, zrm 1, res, μ') 35 (zls [(0, zr (some s)), (1, zr (some a)), (2, zi (nI (N)))]) [] (zit (u_giveS1 q) (N) μ)) : zWA g (RX4, cX4_giveSides, 3, none, zrm 1, res, μ') 2 (zls [(0, zr (some s)), (1, zr (some a)), (2, zi (nI (0)))]) [] (zit (u_giveS1 q) (0) μ) := by
  have hO0 : zO g 10 q := hW 4 _ _ _ hO h0
  have hR : ∀ k, zR (zit (u_giveS1 q) k μ) = zR μ := fun k => zit_keep (f := (u_giveS1 q)) zR (fun _ _ => rfl) k μ
  have hWk : ∀ k, zWf g (zit (u_giveS1 q) k μ) := fun k => zWf_R hW (fun r j => by rw [hR])
  have hR0 : ∀ k, zR (zit (u_giveS1 q) k μ) s 6 = some q := fun k => by rw [hR]; exact h0
  have hRc : ∀ k, k < N → zR (zit (u_giveS1 q) k μ) a k = some (30 + k) := fun k hk => by rw [hR]; exact hce k hk
  refine zloop (P := fun k => zWA g (RX4, cX4_giveSides, 3, none, zrm 1, res, μ') 2 (zls [(0, zr (some s)), (1, zr (some a)), (2, zi (nI (k)))]) [] (zit (u_giveS1 q) (k) μ)) (N := N) ?_ ?_ 0 (Nat.zero_le _)
  · show zWA _ _ _ _ _ _
    refine zx_iload_n dX4_giveSides_2 rfl rfl ?_
    refine zx_aload_n dX4_giveSides_3 rfl rfl ?_
    refine zx_alen (nI N) (by assumption) (by decide) (by first | rw [hla] | rw [l0]) dX4_giveSides_4 ?_
    refine zx_icmp_ge (tgt := 35) dX4_giveSides_5 (by decide) (fun _ => ?_) (fun h_ => absurd h_ (by simp))
    exact zWA_to hx ⟨rfl, rfl, rfl, trivial⟩
  · intro k hk hn
    show zWA _ _ _ _ _ _
    refine zx_iload_n dX4_giveSides_2 rfl rfl ?_
    refine zx_aload_n dX4_giveSides_3 rfl rfl ?_
    refine zx_alen (nI N) (by assumption) (by decide) (by first | rw [hla] | rw [l0]) dX4_giveSides_4 ?_
    refine zx_icmp_ge (tgt := 35) dX4_giveSides_5 (by decide) (fun h_ => absurd h_ (nI_ge hk (by omega))) (fun _ => ?_)
    refine zx_iload_n dX4_giveSides_8 rfl rfl ?_
    refine zx_aload_n dX4_giveSides_9 rfl rfl ?_
    refine zx_getR zf_X4_15 (by assumption) (hR0 _) rfl dX4_giveSides_10 ?_
    refine zx_alen (nI N) (by assumption) (by decide) (by first | rw [hla] | rw [l0]) dX4_giveSides_13 ?_
    refine zx_icmp_ge (tgt := 35) dX4_giveSides_14 (by decide) (fun h_ => absurd h_ (nI_ge hk (by omega))) (fun _ => ?_)
    refine zx_aload_n dX4_giveSides_17 rfl rfl ?_
    refine zx_iload_n dX4_giveSides_18 rfl rfl ?_
    refine zx_aald k (by assumption) (by decide) rfl ⟨by rw [hla]; exact hk, by omega⟩ (hRc k hk) dX4_giveSides_19 ?_
    refine zx_aload_n dX4_giveSides_20 rfl rfl ?_
    refine zx_getR zf_X4_15 (by assumption) (hR0 _) rfl dX4_giveSides_21 ?_
    refine zx_iload_n dX4_giveSides_24 rfl rfl ?_
    refine zx_lald k (by assumption) rfl ⟨by rw [l0]; exact hk, by omega⟩ dX4_giveSides_25 ?_
    refine zx_putL zf_X4_62 (show zO g 3 (30 + k) from (hWk k 15 a k _ ha (hRc k hk))) rfl dX4_giveSides_26 ?_
    refine zx_iinc (nI (k + 1)) dX4_giveSides_29 rfl (by exact nI_1 k) (Nat.le_of_ble_eq_true rfl) ?_
    refine zx_goto (tgt := 2) dX4_giveSides_32 (by decide) ?_
    exact zWA_to (zWA_mem hn (by rfl)) ⟨rfl, rfl, rfl, trivial⟩

set_option maxHeartbeats 4000000 in
set_option maxRecDepth 100000 in
theorem m_X4_giveSides {g : ZG} {μ : ZMem} {s a N : Nat} (hO : zO g 4 s) (hW : zWf g μ) (ha : zO g 15 a) (hla : zln g a = N) (hN : N ≤ 400) (hce : ∀ k, k < N → zR μ a k = some (30 + k)) {q : Nat} (h0 : zR μ s 6 = some q) (l0 : zln g q = N) : zCab g RX4 yX4_giveSides cX4_giveSides 3 (none) (zrm 1) [zr (some s), zr (some a)] μ none (zit (u_giveS1 q) N μ) := by
  refine zCab_w (by decide +kernel) rfl (Nat.le_of_ble_eq_true rfl) ?_
  refine zx_iconst 0 dX4_giveSides_0 (by decide) ?_
  refine zx_istore_n dX4_giveSides_1 rfl (Nat.le_of_ble_eq_true rfl) ?_
  exact zWA_to (L_X4_giveSides (N := N) hO hW ha hla hN hce h0 l0 (zx_return rfl rfl rfl dX4_giveSides_35)) ⟨rfl, rfl, rfl, trivial⟩

