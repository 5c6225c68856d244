set_option maxHeartbeats 4000000 in
set_option maxRecDepth 100000 in
theorem m_X4_init {g : ZG} {μ : ZMem} {hs r : Nat} {N F : Nat} (hNF : N ≤ 144 ∧ F ≤ 400) (hO : zO g 4 r) {s5 : Nat} (hs5 : zkd g s5 = 10 ∧ zln g s5 = 80 ∧ zad g s5 = hs + 0 ∧ zZr μ s5) {s6 : Nat} (hs6 : zkd g s6 = 10 ∧ zln g s6 = 4 ∧ zad g s6 = hs + 1 ∧ zZr μ s6) {s0 : Nat} (hs0 : zkd g s0 = 10 ∧ zln g s0 = N ∧ zad g s0 = hs + 2 ∧ zZr μ s0) {s1 : Nat} (hs1 : zkd g s1 = 8 ∧ zln g s1 = N ∧ zad g s1 = hs + 3 ∧ zZr μ s1) {s2 : Nat} (hs2 : zkd g s2 = 8 ∧ zln g s2 = N ∧ zad g s2 = hs + 4 ∧ zZr μ s2) {s3 : Nat} (hs3 : zkd g s3 = 8 ∧ zln g s3 = N ∧ zad g s3 = hs + 5 ∧ zZr μ s3) {s4 : Nat} (hs4 : zkd g s4 = 8 ∧ zln g s4 = F ∧ zad g s4 = hs + 6 ∧ zZr μ s4) : zNab g RX4 yX4_init cX4_init 3 none (zrN 1 7 1060) [zr (some r), zi (nI N), zi (nI F)] μ none (zsR (zsR (zsR (zsR (zsR (zsI (zsR (zsR μ r 5 (some s5)) r 6 (some s6)) r 9 (-1)) r 0 (some s0)) r 1 (some s1)) r 2 (some s2)) r 3 (some s3)) r 4 (some s4)) [s5, s6, s0, s1, s2, s3, s4] hs := by
  have ns5 : s5 ≠ r := fun q => by have h1 := hs5.1; rw [q, hO.2] at h1; exact absurd h1 (by decide)
  have ns6 : s6 ≠ r := fun q => by have h1 := hs6.1; rw [q, hO.2] at h1; exact absurd h1 (by decide)
  have ns0 : s0 ≠ r := fun q => by have h1 := hs0.1; rw [q, hO.2] at h1; exact absurd h1 (by decide)
  have ns1 : s1 ≠ r := fun q => by have h1 := hs1.1; rw [q, hO.2] at h1; exact absurd h1 (by decide)
  have ns2 : s2 ≠ r := fun q => by have h1 := hs2.1; rw [q, hO.2] at h1; exact absurd h1 (by decide)
  have ns3 : s3 ≠ r := fun q => by have h1 := hs3.1; rw [q, hO.2] at h1; exact absurd h1 (by decide)
  have ns4 : s4 ≠ r := fun q => by have h1 := hs4.1; rw [q, hO.2] at h1; exact absurd h1 (by decide)
  refine zNab_w true (by decide +kernel) rfl (Nat.le_of_ble_eq_true rfl) (fun _ => rfl) ?_
  refine zy_aload_n dX4_init_0 rfl rfl ?_
  refine zy_objI (by exact zoi_X4_3) ⟨Nat.le_of_ble_eq_true rfl, Nat.le_of_ble_eq_true rfl⟩ dX4_init_1 ?_
  refine zy_aload_n dX4_init_4 rfl rfl ?_
  refine zy_bipush 80 dX4_init_5 (by decide) ?_
  refine zy_newL (kn2 := 80) (s5) (80) hs5.1 hs5.2.1 hs5.2.2.1 hs5.2.2.2 rfl (by omega) rfl (by omega) ⟨by dsimp only [zKR, zrN] <;> omega, by dsimp only [zKR, zrN] <;> omega⟩ dX4_init_7 ?_
  refine zy_putRF zf_X4_9 rfl (fun C T N h => by cases (show (RX4, TX4, 10) = (C, T, N) from Option.some.inj h); rfl) (zO_gr _ hO) rfl dX4_init_9 ?_
  refine zy_aload_n dX4_init_12 rfl rfl ?_
  refine zy_iconst 4 dX4_init_13 (by decide) ?_
  refine zy_newL (kn2 := 80 + 4) (s6) (4) hs6.1 hs6.2.1 hs6.2.2.1 (zZr_sR hs6.2.2.2 ns6) rfl (by omega) rfl (by omega) ⟨by dsimp only [zKR, zrN] <;> omega, by dsimp only [zKR, zrN] <;> omega⟩ dX4_init_14 ?_
  refine zy_putRF zf_X4_15 rfl (fun C T N h => by cases (show (RX4, TX4, 10) = (C, T, N) from Option.some.inj h); rfl) (zO_gr _ hO) rfl dX4_init_16 ?_
  refine zy_aload_n dX4_init_19 rfl rfl ?_
  refine zy_iconst (-1) dX4_init_20 (by decide) ?_
  refine zy_putI zf_X4_18 (zO_gr _ hO) ⟨rfl, rfl⟩ (Or.inl rfl) dX4_init_21 ?_
  refine zy_aload_n dX4_init_24 rfl rfl ?_
  refine zy_iload_n dX4_init_25 rfl rfl ?_
  refine zy_newL (kn2 := 80 + 4 + N) (s0) (N) hs0.1 hs0.2.1 hs0.2.2.1 (zZr_sI (zZr_sR (zZr_sR hs0.2.2.2 ns0) ns0) ns0) rfl (by omega) rfl (by omega) ⟨by dsimp only [zKR, zrN] <;> omega, by dsimp only [zKR, zrN] <;> omega⟩ dX4_init_26 ?_
  refine zy_putRF zf_X4_22 rfl (fun C T N h => by cases (show (RX4, TX4, 10) = (C, T, N) from Option.some.inj h); rfl) (zO_gr _ hO) rfl dX4_init_28 ?_
  refine zy_aload_n dX4_init_31 rfl rfl ?_
  refine zy_iload_n dX4_init_32 rfl rfl ?_
  refine zy_newD (kn2 := 80 + 4 + N + N) (s1) (N) hs1.1 hs1.2.1 hs1.2.2.1 (zZr_sR (zZr_sI (zZr_sR (zZr_sR hs1.2.2.2 ns1) ns1) ns1) ns1) rfl (by omega) rfl (by omega) ⟨by dsimp only [zKR, zrN] <;> omega, by dsimp only [zKR, zrN] <;> omega⟩ dX4_init_33 ?_
  refine zy_putRF zf_X4_25 rfl (fun C T N h => by cases (show (RX4, TX4, 10) = (C, T, N) from Option.some.inj h); rfl) (zO_gr _ hO) rfl dX4_init_35 ?_
  refine zy_aload_n dX4_init_38 rfl rfl ?_
  refine zy_iload_n dX4_init_39 rfl rfl ?_
  refine zy_newD (kn2 := 80 + 4 + N + N + N) (s2) (N) hs2.1 hs2.2.1 hs2.2.2.1 (zZr_sR (zZr_sR (zZr_sI (zZr_sR (zZr_sR hs2.2.2.2 ns2) ns2) ns2) ns2) ns2) rfl (by omega) rfl (by omega) ⟨by dsimp only [zKR, zrN] <;> omega, by dsimp only [zKR, zrN] <;> omega⟩ dX4_init_40 ?_
  refine zy_putRF zf_X4_29 rfl (fun C T N h => by cases (show (RX4, TX4, 10) = (C, T, N) from Option.some.inj h); rfl) (zO_gr _ hO) rfl dX4_init_42 ?_
  refine zy_aload_n dX4_init_45 rfl rfl ?_
  refine zy_iload_n dX4_init_46 rfl rfl ?_
  refine zy_newD (kn2 := 80 + 4 + N + N + N + N) (s3) (N) hs3.1 hs3.2.1 hs3.2.2.1 (zZr_sR (zZr_sR (zZr_sR (zZr_sI (zZr_sR (zZr_sR hs3.2.2.2 ns3) ns3) ns3) ns3) ns3) ns3) rfl (by omega) rfl (by omega) ⟨by dsimp only [zKR, zrN] <;> omega, by dsimp only [zKR, zrN] <;> omega⟩ dX4_init_47 ?_
  refine zy_putRF zf_X4_32 rfl (fun C T N h => by cases (show (RX4, TX4, 10) = (C, T, N) from Option.some.inj h); rfl) (zO_gr _ hO) rfl dX4_init_49 ?_
  refine zy_aload_n dX4_init_52 rfl rfl ?_
  refine zy_iload_n dX4_init_53 rfl rfl ?_
  refine zy_newD (kn2 := 80 + 4 + N + N + N + N + F) (s4) (F) hs4.1 hs4.2.1 hs4.2.2.1 (zZr_sR (zZr_sR (zZr_sR (zZr_sR (zZr_sI (zZr_sR (zZr_sR hs4.2.2.2 ns4) ns4) ns4) ns4) ns4) ns4) ns4) rfl (by omega) rfl (by omega) ⟨by dsimp only [zKR, zrN] <;> omega, by dsimp only [zKR, zrN] <;> omega⟩ dX4_init_54 ?_
  refine zy_putRF zf_X4_35 rfl (fun C T N h => by cases (show (RX4, TX4, 10) = (C, T, N) from Option.some.inj h); rfl) (zO_gr _ hO) rfl dX4_init_56 ?_
  exact zy_return rfl rfl rfl (by first | rfl | (dsimp only [zKR, zrN] <;> omega)) (by dsimp only [zKR, zrN] <;> omega) dX4_init_59

set_option maxHeartbeats 4000000 in
set_option maxRecDepth 100000 in
theorem m_X1_init {g : ZG} {μ : ZMem} {hs r N : Nat} {x1 x2 v : Int32} {o1 o2 o3 : Option Nat} (hO : zO g 1 r) (hA : zO g 12 1 ∧ zln g 1 = N ∧ N ≤ 144) (hr : r ≠ 1) (h1 : (∃ i, x1 = nI i ∧ i < N ∧ zR μ 1 i = o1) ∨ (x1 < 0 ∧ o1 = none)) (h2 : (∃ i, x2 = nI i ∧ i < N ∧ zR μ 1 i = o2) ∨ (x2 < 0 ∧ o2 = none)) : zNab g RX1 yX1_init cX1_init 6 none (zrN 1 0 0) [zr (some r), zr (some 1), zi x1, zi x2, zr o3, zi v] μ none (zsI (zsR (zsR (zsR μ r 0 o1) r 1 o2) r 2 o3) r 3 v) [] hs := by
  refine zNab_w true (by decide +kernel) rfl (Nat.le_of_ble_eq_true rfl) (fun _ => rfl) ?_
  rcases h1 with ⟨i, rfl, hi, q1⟩ | ⟨hni, rfl⟩
  · rcases h2 with ⟨j, rfl, hj, q2⟩ | ⟨hnj, rfl⟩
    · skip
      refine zy_aload_n dX1_init_0 rfl rfl ?_
      refine zy_objI (by exact zoi_X1_1) ⟨Nat.le_of_ble_eq_true rfl, Nat.le_of_ble_eq_true rfl⟩ dX1_init_1 ?_
      refine zy_aload_n dX1_init_4 rfl rfl ?_
      refine zy_iload_n dX1_init_5 rfl rfl ?_
      refine zy_if_lt (tgt := 21) dX1_init_6 (by decide) (fun h_ => absurd h_ (nI_pos (by omega))) (fun _ => ?_)
      refine zy_iload_n dX1_init_9 rfl rfl ?_
      refine zy_aload_n dX1_init_10 rfl rfl ?_
      refine zy_alen (nI N) (zO_gr _ hA.1) (by decide) (by rw [show zln (zgr g _) 1 = N from hA.2.1]) dX1_init_11 ?_
      refine zy_icmp_ge (tgt := 21) dX1_init_12 (by decide) (fun h_ => absurd h_ (fun h_ => absurd h_ (Int32.not_le.mpr (nI_lt (by omega) (by omega))))) (fun _ => ?_)
      refine zy_aload_n dX1_init_15 rfl rfl ?_
      refine zy_iload_n dX1_init_16 rfl rfl ?_
      refine zy_aald (o' := o1) i (zO_gr _ hA.1) (by decide) rfl ⟨by show _ < zln g 1; omega, by show zln g 1 ≤ _; omega⟩ q1 dX1_init_17 ?_
      refine zy_goto (tgt := 22) dX1_init_18 (by decide) ?_
      refine zy_putRF zf_X1_7 rfl (fun C T N h => by cases (show (RX1, TX1, 6) = (C, T, N) from Option.some.inj h); rfl) (zO_gr _ hO) rfl dX1_init_22 ?_
      refine zy_aload_n dX1_init_25 rfl rfl ?_
      refine zy_iload_n dX1_init_26 rfl rfl ?_
      refine zy_if_lt (tgt := 42) dX1_init_27 (by decide) (fun h_ => absurd h_ (nI_pos (by omega))) (fun _ => ?_)
      refine zy_iload_n dX1_init_30 rfl rfl ?_
      refine zy_aload_n dX1_init_31 rfl rfl ?_
      refine zy_alen (nI N) (zO_gr _ hA.1) (by decide) (by rw [show zln (zgr g _) 1 = N from hA.2.1]) dX1_init_32 ?_
      refine zy_icmp_ge (tgt := 42) dX1_init_33 (by decide) (fun h_ => absurd h_ (fun h_ => absurd h_ (Int32.not_le.mpr (nI_lt (by omega) (by omega))))) (fun _ => ?_)
      refine zy_aload_n dX1_init_36 rfl rfl ?_
      refine zy_iload_n dX1_init_37 rfl rfl ?_
      refine zy_aald (o' := o2) j (zO_gr _ hA.1) (by decide) rfl ⟨by show _ < zln g 1; omega, by show zln g 1 ≤ _; omega⟩ (by rw [zR_sR, if_neg (fun z => hr z.1.symm)]; exact q2) dX1_init_38 ?_
      refine zy_goto (tgt := 43) dX1_init_39 (by decide) ?_
      refine zy_putRF zf_X1_13 rfl (fun C T N h => by cases (show (RX1, TX1, 6) = (C, T, N) from Option.some.inj h); rfl) (zO_gr _ hO) rfl dX1_init_43 ?_
      refine zy_aload_n dX1_init_46 rfl rfl ?_
      refine zy_aload dX1_init_47 rfl ?_
      refine zy_putRF zf_X1_16 rfl (fun C T N h => by cases (show (RX1, TX1, 6) = (C, T, N) from Option.some.inj h); rfl) (zO_gr _ hO) rfl dX1_init_49 ?_
      refine zy_aload_n dX1_init_52 rfl rfl ?_
      refine zy_iload dX1_init_53 rfl ?_
      refine zy_putIF zf_X1_20 rfl (fun C T N h => by cases (show (RX1, TX1, 6) = (C, T, N) from Option.some.inj h); rfl) (zO_gr _ hO) ⟨rfl, rfl⟩ (Or.inl rfl) dX1_init_55 ?_
      exact zy_return rfl rfl rfl (by first | rfl | (dsimp only [zKR, zrN] <;> omega)) (by dsimp only [zKR, zrN] <;> omega) dX1_init_58
    · skip
      refine zy_aload_n dX1_init_0 rfl rfl ?_
      refine zy_objI (by exact zoi_X1_1) ⟨Nat.le_of_ble_eq_true rfl, Nat.le_of_ble_eq_true rfl⟩ dX1_init_1 ?_
      refine zy_aload_n dX1_init_4 rfl rfl ?_
      refine zy_iload_n dX1_init_5 rfl rfl ?_
      refine zy_if_lt (tgt := 21) dX1_init_6 (by decide) (fun h_ => absurd h_ (nI_pos (by omega))) (fun _ => ?_)
      refine zy_iload_n dX1_init_9 rfl rfl ?_
      refine zy_aload_n dX1_init_10 rfl rfl ?_
      refine zy_alen (nI N) (zO_gr _ hA.1) (by decide) (by rw [show zln (zgr g _) 1 = N from hA.2.1]) dX1_init_11 ?_
      refine zy_icmp_ge (tgt := 21) dX1_init_12 (by decide) (fun h_ => absurd h_ (fun h_ => absurd h_ (Int32.not_le.mpr (nI_lt (by omega) (by omega))))) (fun _ => ?_)
      refine zy_aload_n dX1_init_15 rfl rfl ?_
      refine zy_iload_n dX1_init_16 rfl rfl ?_
      refine zy_aald (o' := o1) i (zO_gr _ hA.1) (by decide) rfl ⟨by show _ < zln g 1; omega, by show zln g 1 ≤ _; omega⟩ q1 dX1_init_17 ?_
      refine zy_goto (tgt := 22) dX1_init_18 (by decide) ?_
      refine zy_putRF zf_X1_7 rfl (fun C T N h => by cases (show (RX1, TX1, 6) = (C, T, N) from Option.some.inj h); rfl) (zO_gr _ hO) rfl dX1_init_22 ?_
      refine zy_aload_n dX1_init_25 rfl rfl ?_
      refine zy_iload_n dX1_init_26 rfl rfl ?_
      refine zy_if_lt (tgt := 42) dX1_init_27 (by decide) (fun _ => ?_) (fun h_ => absurd h_ (fun z => z hnj))
      refine zy_null dX1_init_42 ?_
      refine zy_putRF zf_X1_13 rfl (fun C T N h => by cases (show (RX1, TX1, 6) = (C, T, N) from Option.some.inj h); rfl) (zO_gr _ hO) rfl dX1_init_43 ?_
      refine zy_aload_n dX1_init_46 rfl rfl ?_
      refine zy_aload dX1_init_47 rfl ?_
      refine zy_putRF zf_X1_16 rfl (fun C T N h => by cases (show (RX1, TX1, 6) = (C, T, N) from Option.some.inj h); rfl) (zO_gr _ hO) rfl dX1_init_49 ?_
      refine zy_aload_n dX1_init_52 rfl rfl ?_
      refine zy_iload dX1_init_53 rfl ?_
      refine zy_putIF zf_X1_20 rfl (fun C T N h => by cases (show (RX1, TX1, 6) = (C, T, N) from Option.some.inj h); rfl) (zO_gr _ hO) ⟨rfl, rfl⟩ (Or.inl rfl) dX1_init_55 ?_
      exact zy_return rfl rfl rfl (by first | rfl | (dsimp only [zKR, zrN] <;> omega)) (by dsimp only [zKR, zrN] <;> omega) dX1_init_58
  · rcases h2 with ⟨j, rfl, hj, q2⟩ | ⟨hnj, rfl⟩
    · skip
      refine zy_aload_n dX1_init_0 rfl rfl ?_
      refine zy_objI (by exact zoi_X1_1) ⟨Nat.le_of_ble_eq_true rfl, Nat.le_of_ble_eq_true rfl⟩ dX1_init_1 ?_
      refine zy_aload_n dX1_init_4 rfl rfl ?_
      refine zy_iload_n dX1_init_5 rfl rfl ?_
      refine zy_if_lt (tgt := 21) dX1_init_6 (by decide) (fun _ => ?_) (fun h_ => absurd h_ (fun z => z hni))
      refine zy_null dX1_init_21 ?_
      refine zy_putRF zf_X1_7 rfl (fun C T N h => by cases (show (RX1, TX1, 6) = (C, T, N) from Option.some.inj h); rfl) (zO_gr _ hO) rfl dX1_init_22 ?_
      refine zy_aload_n dX1_init_25 rfl rfl ?_
      refine zy_iload_n dX1_init_26 rfl rfl ?_
      refine zy_if_lt (tgt := 42) dX1_init_27 (by decide) (fun h_ => absurd h_ (nI_pos (by omega))) (fun _ => ?_)
      refine zy_iload_n dX1_init_30 rfl rfl ?_
      refine zy_aload_n dX1_init_31 rfl rfl ?_
      refine zy_alen (nI N) (zO_gr _ hA.1) (by decide) (by rw [show zln (zgr g _) 1 = N from hA.2.1]) dX1_init_32 ?_
      refine zy_icmp_ge (tgt := 42) dX1_init_33 (by decide) (fun h_ => absurd h_ (fun h_ => absurd h_ (Int32.not_le.mpr (nI_lt (by omega) (by omega))))) (fun _ => ?_)
      refine zy_aload_n dX1_init_36 rfl rfl ?_
      refine zy_iload_n dX1_init_37 rfl rfl ?_
      refine zy_aald (o' := o2) j (zO_gr _ hA.1) (by decide) rfl ⟨by show _ < zln g 1; omega, by show zln g 1 ≤ _; omega⟩ (by rw [zR_sR, if_neg (fun z => hr z.1.symm)]; exact q2) dX1_init_38 ?_
      refine zy_goto (tgt := 43) dX1_init_39 (by decide) ?_
      refine zy_putRF zf_X1_13 rfl (fun C T N h => by cases (show (RX1, TX1, 6) = (C, T, N) from Option.some.inj h); rfl) (zO_gr _ hO) rfl dX1_init_43 ?_
      refine zy_aload_n dX1_init_46 rfl rfl ?_
      refine zy_aload dX1_init_47 rfl ?_
      refine zy_putRF zf_X1_16 rfl (fun C T N h => by cases (show (RX1, TX1, 6) = (C, T, N) from Option.some.inj h); rfl) (zO_gr _ hO) rfl dX1_init_49 ?_
      refine zy_aload_n dX1_init_52 rfl rfl ?_
      refine zy_iload dX1_init_53 rfl ?_
      refine zy_putIF zf_X1_20 rfl (fun C T N h => by cases (show (RX1, TX1, 6) = (C, T, N) from Option.some.inj h); rfl) (zO_gr _ hO) ⟨rfl, rfl⟩ (Or.inl rfl) dX1_init_55 ?_
      exact zy_return rfl rfl rfl (by first | rfl | (dsimp only [zKR, zrN] <;> omega)) (by dsimp only [zKR, zrN] <;> omega) dX1_init_58
    · skip
      refine zy_aload_n dX1_init_0 rfl rfl ?_
      refine zy_objI (by exact zoi_X1_1) ⟨Nat.le_of_ble_eq_true rfl, Nat.le_of_ble_eq_true rfl⟩ dX1_init_1 ?_
      refine zy_aload_n dX1_init_4 rfl rfl ?_
      refine zy_iload_n dX1_init_5 rfl rfl ?_
      refine zy_if_lt (tgt := 21) dX1_init_6 (by decide) (fun _ => ?_) (fun h_ => absurd h_ (fun z => z hni))
      refine zy_null dX1_init_21 ?_
      refine zy_putRF zf_X1_7 rfl (fun C T N h => by cases (show (RX1, TX1, 6) = (C, T, N) from Option.some.inj h); rfl) (zO_gr _ hO) rfl dX1_init_22 ?_
      refine zy_aload_n dX1_init_25 rfl rfl ?_
      refine zy_iload_n dX1_init_26 rfl rfl ?_
      refine zy_if_lt (tgt := 42) dX1_init_27 (by decide) (fun _ => ?_) (fun h_ => absurd h_ (fun z => z hnj))
      refine zy_null dX1_init_42 ?_
      refine zy_putRF zf_X1_13 rfl (fun C T N h => by cases (show (RX1, TX1, 6) = (C, T, N) from Option.some.inj h); rfl) (zO_gr _ hO) rfl dX1_init_43 ?_
      refine zy_aload_n dX1_init_46 rfl rfl ?_
      refine zy_aload dX1_init_47 rfl ?_
      refine zy_putRF zf_X1_16 rfl (fun C T N h => by cases (show (RX1, TX1, 6) = (C, T, N) from Option.some.inj h); rfl) (zO_gr _ hO) rfl dX1_init_49 ?_
      refine zy_aload_n dX1_init_52 rfl rfl ?_
      refine zy_iload dX1_init_53 rfl ?_
      refine zy_putIF zf_X1_20 rfl (fun C T N h => by cases (show (RX1, TX1, 6) = (C, T, N) from Option.some.inj h); rfl) (zO_gr _ hO) ⟨rfl, rfl⟩ (Or.inl rfl) dX1_init_55 ?_
      exact zy_return rfl rfl rfl (by first | rfl | (dsimp only [zKR, zrN] <;> omega)) (by dsimp only [zKR, zrN] <;> omega) dX1_init_58
