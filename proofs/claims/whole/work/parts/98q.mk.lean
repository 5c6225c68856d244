def zfl (f : Nat → List Nat) : Nat → List Nat
  | 0 => []
  | n + 1 => zfl f n ++ f n
theorem zfl_mem {f : Nat → List Nat} {r : Nat} : ∀ {n : Nat}, r ∈ zfl f n ↔ ∃ j, j < n ∧ r ∈ f j
  | 0 => ⟨fun h => (by cases h), fun ⟨j, h, _⟩ => absurd h (Nat.not_lt_zero _)⟩
  | n + 1 => by
    show r ∈ zfl f n ++ f n ↔ _
    rw [List.mem_append, zfl_mem]
    constructor
    · rintro (⟨j, h, q⟩ | h)
      · exact ⟨j, by omega, q⟩
      · exact ⟨n, by omega, h⟩
    · rintro ⟨j, h, q⟩
      by_cases e : j = n
      · subst e; exact Or.inr q
      · exact Or.inl ⟨j, by omega, q⟩
theorem zit_zr {f : Nat → ZMem → ZMem} {r : Nat} {μ : ZMem} : ∀ {n : Nat}, (∀ j m, j < n → zZr m r → zZr (f j m) r) → zZr μ r → zZr (zit f n μ) r
  | 0, _, h => h
  | n + 1, hf, h => hf n _ (by omega) (zit_zr (fun j m hj => hf j m (by omega)) h)
def c_cells (k : Nat) (m : ZMem) : ZMem := zsR m 1 k (some (1000 + k))
def c_sides (k : Nat) (m : ZMem) : ZMem := zsR (zsR (zsR m (30 + k) 0 (some (40 + k))) (30 + k) 1 (some (50 + k))) 3 k (some (30 + k))
def c_nests (k : Nat) (m : ZMem) : ZMem := zsR (zsR m (60 + k) 0 (some (70 + k))) 6 k (some (60 + k))
def c_state (r a5 a6 a0 a1 a2 a3 a4 : Nat) (μ : ZMem) : ZMem := (zsR (zsR (zsR (zsR (zsR (zsI (zsR (zsR μ r 5 (some a5)) r 6 (some a6)) r 9 (-1)) r 0 (some a0)) r 1 (some a1)) r 2 (some a2)) r 3 (some a3)) r 4 (some a4))
def c_states (k : Nat) (m : ZMem) : ZMem := zsR (c_state (80 + k) (100 + 10 * k + 5) (100 + 10 * k + 6) (100 + 10 * k) (100 + 10 * k + 1) (100 + 10 * k + 2) (100 + 10 * k + 3) (100 + 10 * k + 4) m) 7 k (some (80 + k))
set_option maxHeartbeats 4000000 in
set_option maxRecDepth 100000 in
theorem m_X6_newCells {g : ZG} {μ : ZMem} {hs : Nat} {N : Nat} (hN : 1 ≤ N ∧ N ≤ 144) (hA : zkd g 1 = 12 ∧ zln g 1 = N ∧ zad g 1 = hs ∧ zZr μ 1) (hE : ∀ k, k < N → zkd g (1000 + k) = 0 ∧ zad g (1000 + k) = hs + 1 + 1 * k ∧ zZr μ (1000 + k)) : zNab g RX6 yX6_newCells cX6_newCells 3 ((some (FieldType.array (FieldType.object "CellCurrents$Cell")))) (zrN 2 (1 + 1 * N) (144 + 15 * N)) [zi (nI N)] μ (some (zr (some 1))) (zit c_cells N μ) ([1] ++ zfl (fun k => [1000 + k]) N) hs := by
  refine zNab_w false (by decide +kernel) rfl (Nat.le_of_ble_eq_true rfl) (fun h => by cases h) ?_
  have loop : ∀ k, k ≤ N → zWN g (RX6, cX6_newCells, 3, ((some (FieldType.array (FieldType.object "CellCurrents$Cell")))), zrN 2 (1 + 1 * N) (144 + 15 * N), some (zr (some 1)), zit c_cells N μ) ([1] ++ zfl (fun k => [1000 + k]) N) hs false ([1] ++ zfl (fun k => [1000 + k]) k) (1 + 1 * k) (144 + 15 * k) 7 (zls [(1, zr (some 1)), (2, zi (nI k))]) [] (zit c_cells k μ) := by
    refine zloop (P := fun k => zWN g (RX6, cX6_newCells, 3, ((some (FieldType.array (FieldType.object "CellCurrents$Cell")))), zrN 2 (1 + 1 * N) (144 + 15 * N), some (zr (some 1)), zit c_cells N μ) ([1] ++ zfl (fun k => [1000 + k]) N) hs false ([1] ++ zfl (fun k => [1000 + k]) k) (1 + 1 * k) (144 + 15 * k) 7 (zls [(1, zr (some 1)), (2, zi (nI k))]) [] (zit c_cells k μ)) (N := N) ?_ ?_
    · show zWN _ _ _ _ _ _ _ _ _ _ _ _
      refine zy_iload_n dX6_newCells_7 rfl rfl ?_
      refine zy_aload_n dX6_newCells_8 rfl rfl ?_
      refine zy_alen (nI N) (by refine zO_new ?_ hA.1; simp) (by decide) (by rw [show zln (zgr g _) 1 = N from hA.2.1]) dX6_newCells_9 ?_
      refine zy_icmp_ge (tgt := 29) dX6_newCells_10 (by decide) (fun _ => ?_) (fun h_ => absurd h_ (fun z => z (Int32.le_refl _)))
      refine zy_aload_n dX6_newCells_29 rfl rfl ?_
      exact zy_areturn rfl (Or.inr ⟨_, rfl⟩) rfl rfl (by dsimp only [zKR, zrN]) (by dsimp only [zKR, zrN]; omega) dX6_newCells_30
    · intro k hk hn_
      show zWN _ _ _ _ _ _ _ _ _ _ _ _
      refine zy_iload_n dX6_newCells_7 rfl rfl ?_
      refine zy_aload_n dX6_newCells_8 rfl rfl ?_
      refine zy_alen (nI N) (by refine zO_new ?_ hA.1; simp) (by decide) (by rw [show zln (zgr g _) 1 = N from hA.2.1]) dX6_newCells_9 ?_
      refine zy_icmp_ge (tgt := 29) dX6_newCells_10 (by decide) (fun h_ => absurd h_ (fun z => absurd z (Int32.not_le.mpr (nI_lt hk (by omega))))) (fun _ => ?_)
      refine zy_aload_n dX6_newCells_13 rfl rfl ?_
      refine zy_iload_n dX6_newCells_14 rfl rfl ?_
      refine zy_new (kn2 := 144 + 15 * k + 15) (1000 + k) znc_X6_95 (hE k hk).1 (by rw [(hE k hk).2.1]; omega) (zit_zr (f := c_cells) (fun j m hj q => zZr_sR q (by omega)) (hE k hk).2.2) rfl (by show _ + 15 ≤ _; omega) ⟨by dsimp only [zKR, zrN] <;> omega, by dsimp only [zKR, zrN] <;> omega⟩ dX6_newCells_15 ?_
      refine zy_dup dX6_newCells_18 rfl ?_
      refine zy_callIN (kn2 := 144 + 15 * k + 15) _ zin_X6_324 (m_X0_init (zO_new (by simp) (hE k hk).1)) rfl rfl ⟨rfl, by dsimp only [zrN]; omega, by dsimp only [zKR, zrN]; omega, by dsimp only [zKR, zrN]; omega, (Nat.le_of_ble_eq_true rfl), (Nat.le_of_ble_eq_true rfl)⟩ (Nat.le_of_ble_eq_true rfl) dX6_newCells_19 ?_
      refine zy_aast (Cl := RX0) (T := TX0) (N := 15) k (by refine zO_new ?_ hA.1; simp) (by decide) (by refine zO_new ?_ (hE k hk).1; simp) (by decide) rfl rfl rfl ⟨by show k < zln g 1; omega, by show zln g 1 ≤ _; omega⟩ dX6_newCells_22 ?_
      refine zy_iinc (nI (k + 1)) dX6_newCells_23 rfl (by rw [nI_succ] <;> rfl) (Nat.le_of_ble_eq_true rfl) ?_
      refine zy_goto (tgt := 7) dX6_newCells_26 (by decide) ?_
      exact zWN_to (zWN_at hn_ (by simp [zfl, List.append_assoc]) (by first | omega | (dsimp only [zrN]; omega)) (by first | omega | (dsimp only [zrN]; omega)) rfl) ⟨rfl, rfl, trivial⟩
  refine zy_iload_n dX6_newCells_0 rfl rfl ?_
  refine zy_newq (kn2 := 144) 1 (N) 12 ⟨hA.1, by decide, by decide⟩ rfl (by decide +kernel) zcl_X6_95 hA.2.1 hA.2.2.1 hA.2.2.2 rfl (by omega) rfl (by omega) ⟨by dsimp only [zKR, zrN] <;> omega, by dsimp only [zKR, zrN] <;> omega⟩ dX6_newCells_1 ?_
  refine zy_astore_n dX6_newCells_4 rfl (Nat.le_of_ble_eq_true rfl) ?_
  refine zy_iconst 0 dX6_newCells_5 (by decide) ?_
  refine zy_istore_n dX6_newCells_6 rfl (Nat.le_of_ble_eq_true rfl) ?_
  exact zWN_to (zWN_at (loop 0 (Nat.zero_le _)) rfl rfl rfl rfl) ⟨rfl, rfl, trivial⟩
set_option maxHeartbeats 4000000 in
set_option maxRecDepth 100000 in
theorem m_X6_newSides {g : ZG} {μ : ZMem} {hs : Nat} (hA : zkd g 3 = 15 ∧ zln g 3 = 4 ∧ zad g 3 = hs ∧ zZr μ 3) (hE : ∀ k, k < 4 → zkd g (30 + k) = 3 ∧ zad g (30 + k) = hs + 1 + 3 * k ∧ zZr μ (30 + k)) (hB : ∀ k, k < 4 → (zkd g (40 + k) = 8 ∧ zln g (40 + k) = 8 ∧ zad g (40 + k) = hs + 1 + 3 * k + 1 ∧ zZr μ (40 + k)) ∧ (zkd g (50 + k) = 8 ∧ zln g (50 + k) = 8 ∧ zad g (50 + k) = hs + 1 + 3 * k + 2 ∧ zZr μ (50 + k))) : zNab g RX6 yX6_newSides cX6_newSides 2 ((some (FieldType.array (FieldType.object "CellCurrents$Side")))) (zrN 2 (1 + 3 * 4) (4 + 21 * 4)) [] μ (some (zr (some 3))) (zit c_sides 4 μ) ([3] ++ zfl (fun k => [30 + k] ++ [40 + k, 50 + k]) 4) hs := by
  refine zNab_w false (by decide +kernel) rfl (Nat.le_of_ble_eq_true rfl) (fun h => by cases h) ?_
  have loop : ∀ k, k ≤ 4 → zWN g (RX6, cX6_newSides, 2, ((some (FieldType.array (FieldType.object "CellCurrents$Side")))), zrN 2 (1 + 3 * 4) (4 + 21 * 4), some (zr (some 3)), zit c_sides 4 μ) ([3] ++ zfl (fun k => [30 + k] ++ [40 + k, 50 + k]) 4) hs false ([3] ++ zfl (fun k => [30 + k] ++ [40 + k, 50 + k]) k) (1 + 3 * k) (4 + 21 * k) 7 (zls [(0, zr (some 3)), (1, zi (nI k))]) [] (zit c_sides k μ) := by
    refine zloop (P := fun k => zWN g (RX6, cX6_newSides, 2, ((some (FieldType.array (FieldType.object "CellCurrents$Side")))), zrN 2 (1 + 3 * 4) (4 + 21 * 4), some (zr (some 3)), zit c_sides 4 μ) ([3] ++ zfl (fun k => [30 + k] ++ [40 + k, 50 + k]) 4) hs false ([3] ++ zfl (fun k => [30 + k] ++ [40 + k, 50 + k]) k) (1 + 3 * k) (4 + 21 * k) 7 (zls [(0, zr (some 3)), (1, zi (nI k))]) [] (zit c_sides k μ)) (N := 4) ?_ ?_
    · show zWN _ _ _ _ _ _ _ _ _ _ _ _
      refine zy_iload_n dX6_newSides_7 rfl rfl ?_
      refine zy_aload_n dX6_newSides_8 rfl rfl ?_
      refine zy_alen (nI 4) (by refine zO_new ?_ hA.1; simp) (by decide) (by rw [show zln (zgr g _) 3 = 4 from hA.2.1]) dX6_newSides_9 ?_
      refine zy_icmp_ge (tgt := 29) dX6_newSides_10 (by decide) (fun _ => ?_) (fun h_ => absurd h_ (fun z => z (Int32.le_refl _)))
      refine zy_aload_n dX6_newSides_29 rfl rfl ?_
      exact zy_areturn rfl (Or.inr ⟨_, rfl⟩) rfl rfl (by dsimp only [zKR, zrN]) (by dsimp only [zKR, zrN]; omega) dX6_newSides_30
    · intro k hk hn_
      show zWN _ _ _ _ _ _ _ _ _ _ _ _
      refine zy_iload_n dX6_newSides_7 rfl rfl ?_
      refine zy_aload_n dX6_newSides_8 rfl rfl ?_
      refine zy_alen (nI 4) (by refine zO_new ?_ hA.1; simp) (by decide) (by rw [show zln (zgr g _) 3 = 4 from hA.2.1]) dX6_newSides_9 ?_
      refine zy_icmp_ge (tgt := 29) dX6_newSides_10 (by decide) (fun h_ => absurd h_ (fun z => absurd z (Int32.not_le.mpr (nI_lt hk (by omega))))) (fun _ => ?_)
      refine zy_aload_n dX6_newSides_13 rfl rfl ?_
      refine zy_iload_n dX6_newSides_14 rfl rfl ?_
      refine zy_new (kn2 := 4 + 21 * k + 5) (30 + k) znc_X6_119 (hE k hk).1 (by rw [(hE k hk).2.1]; omega) (zit_zr (f := c_sides) (fun j m hj q => zZr_sR (zZr_sR (zZr_sR q (by omega)) (by omega)) (by omega)) (hE k hk).2.2) rfl (by show _ + 5 ≤ _; omega) ⟨by dsimp only [zKR, zrN] <;> omega, by dsimp only [zKR, zrN] <;> omega⟩ dX6_newSides_15 ?_
      refine zy_dup dX6_newSides_18 rfl ?_
      refine zy_callIN (kn2 := 4 + 21 * k + 21) _ zin_X6_325 (m_X3_init (zO_new (by simp) (hE k hk).1) (a := 40 + k) (b := 50 + k) ⟨(hB k hk).1.1, (hB k hk).1.2.1, by have h_ := (hB k hk).1.2.2.1; show zad g (40 + k) = _; omega, (zit_zr (f := c_sides) (fun j m hj q => zZr_sR (zZr_sR (zZr_sR q (by omega)) (by omega)) (by omega)) (hB k hk).1.2.2.2)⟩ ⟨(hB k hk).2.1, (hB k hk).2.2.1, by have h_ := (hB k hk).2.2.2.1; show zad g (50 + k) = _; omega, (zit_zr (f := c_sides) (fun j m hj q => zZr_sR (zZr_sR (zZr_sR q (by omega)) (by omega)) (by omega)) (hB k hk).2.2.2.2)⟩) rfl rfl ⟨rfl, by dsimp only [zrN]; omega, by dsimp only [zKR, zrN]; omega, by dsimp only [zKR, zrN]; omega, (Nat.le_of_ble_eq_true rfl), (Nat.le_of_ble_eq_true rfl)⟩ (Nat.le_of_ble_eq_true rfl) dX6_newSides_19 ?_
      refine zy_aast (Cl := RX3) (T := TX3) (N := 5) k (by refine zO_new ?_ hA.1; simp) (by decide) (by refine zO_new ?_ (hE k hk).1; simp) (by decide) rfl rfl rfl ⟨by show k < zln g 3; omega, by show zln g 3 ≤ _; omega⟩ dX6_newSides_22 ?_
      refine zy_iinc (nI (k + 1)) dX6_newSides_23 rfl (by rw [nI_succ] <;> rfl) (Nat.le_of_ble_eq_true rfl) ?_
      refine zy_goto (tgt := 7) dX6_newSides_26 (by decide) ?_
      exact zWN_to (zWN_at hn_ (by simp [zfl, List.append_assoc]) (by first | omega | (dsimp only [zrN]; omega)) (by first | omega | (dsimp only [zrN]; omega)) rfl) ⟨rfl, rfl, trivial⟩
  refine zy_iconst 4 dX6_newSides_0 (by decide) ?_
  refine zy_newq (kn2 := 4) 3 (4) 15 ⟨hA.1, by decide, by decide⟩ rfl (by decide +kernel) zcl_X6_119 hA.2.1 hA.2.2.1 hA.2.2.2 rfl (by omega) rfl (by omega) ⟨by dsimp only [zKR, zrN] <;> omega, by dsimp only [zKR, zrN] <;> omega⟩ dX6_newSides_1 ?_
  refine zy_astore_n dX6_newSides_4 rfl (Nat.le_of_ble_eq_true rfl) ?_
  refine zy_iconst 0 dX6_newSides_5 (by decide) ?_
  refine zy_istore_n dX6_newSides_6 rfl (Nat.le_of_ble_eq_true rfl) ?_
  exact zWN_to (zWN_at (loop 0 (Nat.zero_le _)) rfl rfl rfl rfl) ⟨rfl, rfl, trivial⟩
set_option maxHeartbeats 4000000 in
set_option maxRecDepth 100000 in
theorem m_X6_newNests {g : ZG} {μ : ZMem} {hs : Nat} (hA : zkd g 6 = 14 ∧ zln g 6 = 10 ∧ zad g 6 = hs ∧ zZr μ 6) (hE : ∀ k, k < 10 → zkd g (60 + k) = 2 ∧ zad g (60 + k) = hs + 1 + 2 * k ∧ zZr μ (60 + k)) (hB : ∀ k, k < 10 → (zkd g (70 + k) = 10 ∧ zln g (70 + k) = 8 ∧ zad g (70 + k) = hs + 1 + 2 * k + 1 ∧ zZr μ (70 + k))) : zNab g RX6 yX6_newNests cX6_newNests 2 ((some (FieldType.array (FieldType.object "CellCurrents$Nest")))) (zrN 2 (1 + 2 * 10) (10 + 11 * 10)) [] μ (some (zr (some 6))) (zit c_nests 10 μ) ([6] ++ zfl (fun k => [60 + k] ++ [70 + k]) 10) hs := by
  refine zNab_w false (by decide +kernel) rfl (Nat.le_of_ble_eq_true rfl) (fun h => by cases h) ?_
  have loop : ∀ k, k ≤ 10 → zWN g (RX6, cX6_newNests, 2, ((some (FieldType.array (FieldType.object "CellCurrents$Nest")))), zrN 2 (1 + 2 * 10) (10 + 11 * 10), some (zr (some 6)), zit c_nests 10 μ) ([6] ++ zfl (fun k => [60 + k] ++ [70 + k]) 10) hs false ([6] ++ zfl (fun k => [60 + k] ++ [70 + k]) k) (1 + 2 * k) (10 + 11 * k) 8 (zls [(0, zr (some 6)), (1, zi (nI k))]) [] (zit c_nests k μ) := by
    refine zloop (P := fun k => zWN g (RX6, cX6_newNests, 2, ((some (FieldType.array (FieldType.object "CellCurrents$Nest")))), zrN 2 (1 + 2 * 10) (10 + 11 * 10), some (zr (some 6)), zit c_nests 10 μ) ([6] ++ zfl (fun k => [60 + k] ++ [70 + k]) 10) hs false ([6] ++ zfl (fun k => [60 + k] ++ [70 + k]) k) (1 + 2 * k) (10 + 11 * k) 8 (zls [(0, zr (some 6)), (1, zi (nI k))]) [] (zit c_nests k μ)) (N := 10) ?_ ?_
    · show zWN _ _ _ _ _ _ _ _ _ _ _ _
      refine zy_iload_n dX6_newNests_8 rfl rfl ?_
      refine zy_aload_n dX6_newNests_9 rfl rfl ?_
      refine zy_alen (nI 10) (by refine zO_new ?_ hA.1; simp) (by decide) (by rw [show zln (zgr g _) 6 = 10 from hA.2.1]) dX6_newNests_10 ?_
      refine zy_icmp_ge (tgt := 30) dX6_newNests_11 (by decide) (fun _ => ?_) (fun h_ => absurd h_ (fun z => z (Int32.le_refl _)))
      refine zy_aload_n dX6_newNests_30 rfl rfl ?_
      exact zy_areturn rfl (Or.inr ⟨_, rfl⟩) rfl rfl (by dsimp only [zKR, zrN]) (by dsimp only [zKR, zrN]; omega) dX6_newNests_31
    · intro k hk hn_
      show zWN _ _ _ _ _ _ _ _ _ _ _ _
      refine zy_iload_n dX6_newNests_8 rfl rfl ?_
      refine zy_aload_n dX6_newNests_9 rfl rfl ?_
      refine zy_alen (nI 10) (by refine zO_new ?_ hA.1; simp) (by decide) (by rw [show zln (zgr g _) 6 = 10 from hA.2.1]) dX6_newNests_10 ?_
      refine zy_icmp_ge (tgt := 30) dX6_newNests_11 (by decide) (fun h_ => absurd h_ (fun z => absurd z (Int32.not_le.mpr (nI_lt hk (by omega))))) (fun _ => ?_)
      refine zy_aload_n dX6_newNests_14 rfl rfl ?_
      refine zy_iload_n dX6_newNests_15 rfl rfl ?_
      refine zy_new (kn2 := 10 + 11 * k + 3) (60 + k) znc_X6_204 (hE k hk).1 (by rw [(hE k hk).2.1]; omega) (zit_zr (f := c_nests) (fun j m hj q => zZr_sR (zZr_sR q (by omega)) (by omega)) (hE k hk).2.2) rfl (by show _ + 3 ≤ _; omega) ⟨by dsimp only [zKR, zrN] <;> omega, by dsimp only [zKR, zrN] <;> omega⟩ dX6_newNests_16 ?_
      refine zy_dup dX6_newNests_19 rfl ?_
      refine zy_callIN (kn2 := 10 + 11 * k + 11) _ zin_X6_326 (m_X2_init (zO_new (by simp) (hE k hk).1) (a := 70 + k) ⟨(hB k hk).1, (hB k hk).2.1, by have h_ := (hB k hk).2.2.1; show zad g (70 + k) = _; omega, (zit_zr (f := c_nests) (fun j m hj q => zZr_sR (zZr_sR q (by omega)) (by omega)) (hB k hk).2.2.2)⟩) rfl rfl ⟨rfl, by dsimp only [zrN]; omega, by dsimp only [zKR, zrN]; omega, by dsimp only [zKR, zrN]; omega, (Nat.le_of_ble_eq_true rfl), (Nat.le_of_ble_eq_true rfl)⟩ (Nat.le_of_ble_eq_true rfl) dX6_newNests_20 ?_
      refine zy_aast (Cl := RX2) (T := TX2) (N := 3) k (by refine zO_new ?_ hA.1; simp) (by decide) (by refine zO_new ?_ (hE k hk).1; simp) (by decide) rfl rfl rfl ⟨by show k < zln g 6; omega, by show zln g 6 ≤ _; omega⟩ dX6_newNests_23 ?_
      refine zy_iinc (nI (k + 1)) dX6_newNests_24 rfl (by rw [nI_succ] <;> rfl) (Nat.le_of_ble_eq_true rfl) ?_
      refine zy_goto (tgt := 8) dX6_newNests_27 (by decide) ?_
      exact zWN_to (zWN_at hn_ (by simp [zfl, List.append_assoc]) (by first | omega | (dsimp only [zrN]; omega)) (by first | omega | (dsimp only [zrN]; omega)) rfl) ⟨rfl, rfl, trivial⟩
  refine zy_bipush 10 dX6_newNests_0 (by decide) ?_
  refine zy_newq (kn2 := 10) 6 (10) 14 ⟨hA.1, by decide, by decide⟩ rfl (by decide +kernel) zcl_X6_204 hA.2.1 hA.2.2.1 hA.2.2.2 rfl (by omega) rfl (by omega) ⟨by dsimp only [zKR, zrN] <;> omega, by dsimp only [zKR, zrN] <;> omega⟩ dX6_newNests_2 ?_
  refine zy_astore_n dX6_newNests_5 rfl (Nat.le_of_ble_eq_true rfl) ?_
  refine zy_iconst 0 dX6_newNests_6 (by decide) ?_
  refine zy_istore_n dX6_newNests_7 rfl (Nat.le_of_ble_eq_true rfl) ?_
  exact zWN_to (zWN_at (loop 0 (Nat.zero_le _)) rfl rfl rfl rfl) ⟨rfl, rfl, trivial⟩
set_option maxHeartbeats 4000000 in
set_option maxRecDepth 100000 in
theorem m_X6_newStates {g : ZG} {μ : ZMem} {hs : Nat} {N F : Nat} (hNF : N ≤ 144 ∧ F ≤ 400) (hA : zkd g 7 = 16 ∧ zln g 7 = 4 ∧ zad g 7 = hs ∧ zZr μ 7) (hE : ∀ k, k < 4 → zkd g (80 + k) = 4 ∧ zad g (80 + k) = hs + 1 + 8 * k ∧ zZr μ (80 + k)) (hB : ∀ k, k < 4 → (zkd g (100 + 10 * k + 5) = 10 ∧ zln g (100 + 10 * k + 5) = 80 ∧ zad g (100 + 10 * k + 5) = hs + 1 + 8 * k + 1 ∧ zZr μ (100 + 10 * k + 5)) ∧ (zkd g (100 + 10 * k + 6) = 10 ∧ zln g (100 + 10 * k + 6) = 4 ∧ zad g (100 + 10 * k + 6) = hs + 1 + 8 * k + 2 ∧ zZr μ (100 + 10 * k + 6)) ∧ (zkd g (100 + 10 * k) = 10 ∧ zln g (100 + 10 * k) = N ∧ zad g (100 + 10 * k) = hs + 1 + 8 * k + 3 ∧ zZr μ (100 + 10 * k)) ∧ (zkd g (100 + 10 * k + 1) = 8 ∧ zln g (100 + 10 * k + 1) = N ∧ zad g (100 + 10 * k + 1) = hs + 1 + 8 * k + 4 ∧ zZr μ (100 + 10 * k + 1)) ∧ (zkd g (100 + 10 * k + 2) = 8 ∧ zln g (100 + 10 * k + 2) = N ∧ zad g (100 + 10 * k + 2) = hs + 1 + 8 * k + 5 ∧ zZr μ (100 + 10 * k + 2)) ∧ (zkd g (100 + 10 * k + 3) = 8 ∧ zln g (100 + 10 * k + 3) = N ∧ zad g (100 + 10 * k + 3) = hs + 1 + 8 * k + 6 ∧ zZr μ (100 + 10 * k + 3)) ∧ (zkd g (100 + 10 * k + 4) = 8 ∧ zln g (100 + 10 * k + 4) = F ∧ zad g (100 + 10 * k + 4) = hs + 1 + 8 * k + 7 ∧ zZr μ (100 + 10 * k + 4))) : zNab g RX6 yX6_newStates cX6_newStates 4 ((some (FieldType.array (FieldType.object "CellCurrents$State")))) (zrN 2 (1 + 8 * 4) (4 + 1070 * 4)) [zi (nI N), zi (nI F)] μ (some (zr (some 7))) (zit c_states 4 μ) ([7] ++ zfl (fun k => [80 + k] ++ [100 + 10 * k + 5, 100 + 10 * k + 6, 100 + 10 * k, 100 + 10 * k + 1, 100 + 10 * k + 2, 100 + 10 * k + 3, 100 + 10 * k + 4]) 4) hs := by
  refine zNab_w false (by decide +kernel) rfl (Nat.le_of_ble_eq_true rfl) (fun h => by cases h) ?_
  have loop : ∀ k, k ≤ 4 → zWN g (RX6, cX6_newStates, 4, ((some (FieldType.array (FieldType.object "CellCurrents$State")))), zrN 2 (1 + 8 * 4) (4 + 1070 * 4), some (zr (some 7)), zit c_states 4 μ) ([7] ++ zfl (fun k => [80 + k] ++ [100 + 10 * k + 5, 100 + 10 * k + 6, 100 + 10 * k, 100 + 10 * k + 1, 100 + 10 * k + 2, 100 + 10 * k + 3, 100 + 10 * k + 4]) 4) hs false ([7] ++ zfl (fun k => [80 + k] ++ [100 + 10 * k + 5, 100 + 10 * k + 6, 100 + 10 * k, 100 + 10 * k + 1, 100 + 10 * k + 2, 100 + 10 * k + 3, 100 + 10 * k + 4]) k) (1 + 8 * k) (4 + 1070 * k) 7 (zls [(0, zi (nI N)), (1, zi (nI F)), (2, zr (some 7)), (3, zi (nI k))]) [] (zit c_states k μ) := by
    refine zloop (P := fun k => zWN g (RX6, cX6_newStates, 4, ((some (FieldType.array (FieldType.object "CellCurrents$State")))), zrN 2 (1 + 8 * 4) (4 + 1070 * 4), some (zr (some 7)), zit c_states 4 μ) ([7] ++ zfl (fun k => [80 + k] ++ [100 + 10 * k + 5, 100 + 10 * k + 6, 100 + 10 * k, 100 + 10 * k + 1, 100 + 10 * k + 2, 100 + 10 * k + 3, 100 + 10 * k + 4]) 4) hs false ([7] ++ zfl (fun k => [80 + k] ++ [100 + 10 * k + 5, 100 + 10 * k + 6, 100 + 10 * k, 100 + 10 * k + 1, 100 + 10 * k + 2, 100 + 10 * k + 3, 100 + 10 * k + 4]) k) (1 + 8 * k) (4 + 1070 * k) 7 (zls [(0, zi (nI N)), (1, zi (nI F)), (2, zr (some 7)), (3, zi (nI k))]) [] (zit c_states k μ)) (N := 4) ?_ ?_
    · show zWN _ _ _ _ _ _ _ _ _ _ _ _
      refine zy_iload_n dX6_newStates_7 rfl rfl ?_
      refine zy_aload_n dX6_newStates_8 rfl rfl ?_
      refine zy_alen (nI 4) (by refine zO_new ?_ hA.1; simp) (by decide) (by rw [show zln (zgr g _) 7 = 4 from hA.2.1]) dX6_newStates_9 ?_
      refine zy_icmp_ge (tgt := 31) dX6_newStates_10 (by decide) (fun _ => ?_) (fun h_ => absurd h_ (fun z => z (Int32.le_refl _)))
      refine zy_aload_n dX6_newStates_31 rfl rfl ?_
      exact zy_areturn rfl (Or.inr ⟨_, rfl⟩) rfl rfl (by dsimp only [zKR, zrN]) (by dsimp only [zKR, zrN]; omega) dX6_newStates_32
    · intro k hk hn_
      show zWN _ _ _ _ _ _ _ _ _ _ _ _
      refine zy_iload_n dX6_newStates_7 rfl rfl ?_
      refine zy_aload_n dX6_newStates_8 rfl rfl ?_
      refine zy_alen (nI 4) (by refine zO_new ?_ hA.1; simp) (by decide) (by rw [show zln (zgr g _) 7 = 4 from hA.2.1]) dX6_newStates_9 ?_
      refine zy_icmp_ge (tgt := 31) dX6_newStates_10 (by decide) (fun h_ => absurd h_ (fun z => absurd z (Int32.not_le.mpr (nI_lt hk (by omega))))) (fun _ => ?_)
      refine zy_aload_n dX6_newStates_13 rfl rfl ?_
      refine zy_iload_n dX6_newStates_14 rfl rfl ?_
      refine zy_new (kn2 := 4 + 1070 * k + 10) (80 + k) znc_X6_235 (hE k hk).1 (by rw [(hE k hk).2.1]; omega) (zit_zr (f := c_states) (fun j m hj q => zZr_sR (zZr_sR (zZr_sR (zZr_sR (zZr_sR (zZr_sR (zZr_sI (zZr_sR (zZr_sR q (by omega)) (by omega)) (by omega)) (by omega)) (by omega)) (by omega)) (by omega)) (by omega)) (by omega)) (hE k hk).2.2) rfl (by show _ + 10 ≤ _; omega) ⟨by dsimp only [zKR, zrN] <;> omega, by dsimp only [zKR, zrN] <;> omega⟩ dX6_newStates_15 ?_
      refine zy_dup dX6_newStates_18 rfl ?_
      refine zy_iload_n dX6_newStates_19 rfl rfl ?_
      refine zy_iload_n dX6_newStates_20 rfl rfl ?_
      refine zy_callI (kn2 := 4 + 1070 * k + 1070) _ zin_X6_327 (m_X4_init hNF (zO_new (by simp) (hE k hk).1) (s5 := 100 + 10 * k + 5) ⟨(hB k hk).1.1, (hB k hk).1.2.1, by have h_ := (hB k hk).1.2.2.1; show zad g (100 + 10 * k + 5) = _; omega, (zit_zr (f := c_states) (fun j m hj q => zZr_sR (zZr_sR (zZr_sR (zZr_sR (zZr_sR (zZr_sR (zZr_sI (zZr_sR (zZr_sR q (by omega)) (by omega)) (by omega)) (by omega)) (by omega)) (by omega)) (by omega)) (by omega)) (by omega)) (hB k hk).1.2.2.2)⟩ (s6 := 100 + 10 * k + 6) ⟨(hB k hk).2.1.1, (hB k hk).2.1.2.1, by have h_ := (hB k hk).2.1.2.2.1; show zad g (100 + 10 * k + 6) = _; omega, (zit_zr (f := c_states) (fun j m hj q => zZr_sR (zZr_sR (zZr_sR (zZr_sR (zZr_sR (zZr_sR (zZr_sI (zZr_sR (zZr_sR q (by omega)) (by omega)) (by omega)) (by omega)) (by omega)) (by omega)) (by omega)) (by omega)) (by omega)) (hB k hk).2.1.2.2.2)⟩ (s0 := 100 + 10 * k) ⟨(hB k hk).2.2.1.1, (hB k hk).2.2.1.2.1, by have h_ := (hB k hk).2.2.1.2.2.1; show zad g (100 + 10 * k) = _; omega, (zit_zr (f := c_states) (fun j m hj q => zZr_sR (zZr_sR (zZr_sR (zZr_sR (zZr_sR (zZr_sR (zZr_sI (zZr_sR (zZr_sR q (by omega)) (by omega)) (by omega)) (by omega)) (by omega)) (by omega)) (by omega)) (by omega)) (by omega)) (hB k hk).2.2.1.2.2.2)⟩ (s1 := 100 + 10 * k + 1) ⟨(hB k hk).2.2.2.1.1, (hB k hk).2.2.2.1.2.1, by have h_ := (hB k hk).2.2.2.1.2.2.1; show zad g (100 + 10 * k + 1) = _; omega, (zit_zr (f := c_states) (fun j m hj q => zZr_sR (zZr_sR (zZr_sR (zZr_sR (zZr_sR (zZr_sR (zZr_sI (zZr_sR (zZr_sR q (by omega)) (by omega)) (by omega)) (by omega)) (by omega)) (by omega)) (by omega)) (by omega)) (by omega)) (hB k hk).2.2.2.1.2.2.2)⟩ (s2 := 100 + 10 * k + 2) ⟨(hB k hk).2.2.2.2.1.1, (hB k hk).2.2.2.2.1.2.1, by have h_ := (hB k hk).2.2.2.2.1.2.2.1; show zad g (100 + 10 * k + 2) = _; omega, (zit_zr (f := c_states) (fun j m hj q => zZr_sR (zZr_sR (zZr_sR (zZr_sR (zZr_sR (zZr_sR (zZr_sI (zZr_sR (zZr_sR q (by omega)) (by omega)) (by omega)) (by omega)) (by omega)) (by omega)) (by omega)) (by omega)) (by omega)) (hB k hk).2.2.2.2.1.2.2.2)⟩ (s3 := 100 + 10 * k + 3) ⟨(hB k hk).2.2.2.2.2.1.1, (hB k hk).2.2.2.2.2.1.2.1, by have h_ := (hB k hk).2.2.2.2.2.1.2.2.1; show zad g (100 + 10 * k + 3) = _; omega, (zit_zr (f := c_states) (fun j m hj q => zZr_sR (zZr_sR (zZr_sR (zZr_sR (zZr_sR (zZr_sR (zZr_sI (zZr_sR (zZr_sR q (by omega)) (by omega)) (by omega)) (by omega)) (by omega)) (by omega)) (by omega)) (by omega)) (by omega)) (hB k hk).2.2.2.2.2.1.2.2.2)⟩ (s4 := 100 + 10 * k + 4) ⟨(hB k hk).2.2.2.2.2.2.1, (hB k hk).2.2.2.2.2.2.2.1, by have h_ := (hB k hk).2.2.2.2.2.2.2.2.1; show zad g (100 + 10 * k + 4) = _; omega, (zit_zr (f := c_states) (fun j m hj q => zZr_sR (zZr_sR (zZr_sR (zZr_sR (zZr_sR (zZr_sR (zZr_sI (zZr_sR (zZr_sR q (by omega)) (by omega)) (by omega)) (by omega)) (by omega)) (by omega)) (by omega)) (by omega)) (by omega)) (hB k hk).2.2.2.2.2.2.2.2.2)⟩) rfl rfl ⟨rfl, by dsimp only [zrN]; omega, by dsimp only [zKR, zrN]; omega, by dsimp only [zKR, zrN]; omega, (Nat.le_of_ble_eq_true rfl), (Nat.le_of_ble_eq_true rfl)⟩ (Nat.le_of_ble_eq_true rfl) dX6_newStates_21 ?_
      refine zy_aast (Cl := RX4) (T := TX4) (N := 10) k (by refine zO_new ?_ hA.1; simp) (by decide) (by refine zO_new ?_ (hE k hk).1; simp) (by decide) rfl rfl rfl ⟨by show k < zln g 7; omega, by show zln g 7 ≤ _; omega⟩ dX6_newStates_24 ?_
      refine zy_iinc (nI (k + 1)) dX6_newStates_25 rfl (by rw [nI_succ] <;> rfl) (Nat.le_of_ble_eq_true rfl) ?_
      refine zy_goto (tgt := 7) dX6_newStates_28 (by decide) ?_
      exact zWN_to (zWN_at hn_ (by simp [zfl, List.append_assoc]) (by first | omega | (dsimp only [zrN]; omega)) (by first | omega | (dsimp only [zrN]; omega)) rfl) ⟨rfl, rfl, rfl, rfl, trivial⟩
  refine zy_iconst 4 dX6_newStates_0 (by decide) ?_
  refine zy_newq (kn2 := 4) 7 (4) 16 ⟨hA.1, by decide, by decide⟩ rfl (by decide +kernel) zcl_X6_235 hA.2.1 hA.2.2.1 hA.2.2.2 rfl (by omega) rfl (by omega) ⟨by dsimp only [zKR, zrN] <;> omega, by dsimp only [zKR, zrN] <;> omega⟩ dX6_newStates_1 ?_
  refine zy_astore_n dX6_newStates_4 rfl (Nat.le_of_ble_eq_true rfl) ?_
  refine zy_iconst 0 dX6_newStates_5 (by decide) ?_
  refine zy_istore_n dX6_newStates_6 rfl (Nat.le_of_ble_eq_true rfl) ?_
  exact zWN_to (zWN_at (loop 0 (Nat.zero_le _)) rfl rfl rfl rfl) ⟨rfl, rfl, rfl, rfl, trivial⟩
