theorem zZr_m5 {μ : ZMem} {r : Nat} (h : zZr μ r) (hne : r ≠ 11) : zZr (zm5 μ) r := fun b => ⟨(h b).1, (h b).2.1, (h b).2.2.1, by
  show (if r = 11 ∧ b < 5 then _ else _) = _
  rw [if_neg (fun q => hne q.1)]
  exact (h b).2.2.2⟩
def c_tide (μ : ZMem) : ZMem := (zsR (zsR (zsR (zsR (zsR (zm5 (zsR (zsR μ 8 0 (some 9)) 8 1 (some 10))) 8 2 (some 11)) 8 3 (some 17)) 8 4 (some 18)) 8 5 (some 19)) 8 6 (some 20))
set_option maxHeartbeats 4000000 in
set_option maxRecDepth 100000 in
theorem m_X5_init {g : ZG} {μ : ZMem} {hs : Nat} (hO : zO g 5 8) (h9 : zkd g 9 = 8 ∧ zln g 9 = 40 ∧ zad g 9 = hs + 0 ∧ zZr μ 9) (h10 : zkd g 10 = 8 ∧ zln g 10 = 40 ∧ zad g 10 = hs + 1 ∧ zZr μ 10) (h17 : zkd g 17 = 8 ∧ zln g 17 = 5 ∧ zad g 17 = hs + 8 ∧ zZr μ 17) (h18 : zkd g 18 = 11 ∧ zln g 18 = 5 ∧ zad g 18 = hs + 9 ∧ zZr μ 18) (h19 : zkd g 19 = 8 ∧ zln g 19 = 5 ∧ zad g 19 = hs + 10 ∧ zZr μ 19) (h20 : zkd g 20 = 8 ∧ zln g 20 = 5 ∧ zad g 20 = hs + 11 ∧ zZr μ 20) (hm : (zkd g 11 = 17 ∧ zln g 11 = 5 ∧ ∀ j, j < 5 → zkd g (12 + j) = 8 ∧ zln g (12 + j) = 5) ∧ (zad g 11 = hs + 2 ∧ ∀ j, j < 5 → zad g (12 + j) = hs + 3 + j) ∧ zZr μ 11 ∧ ∀ j, j < 5 → zZr μ (12 + j)) : zNab g RX5 yX5_init cX5_init 1 none (zrN 1 12 130) [zr (some 8)] μ none (c_tide μ) [9, 10, 11, 12, 13, 14, 15, 16, 17, 18, 19, 20] hs := by
  refine zNab_w true (by decide +kernel) rfl (Nat.le_of_ble_eq_true rfl) (fun _ => rfl) ?_
  refine zy_aload_n dX5_init_0 rfl rfl ?_
  refine zy_objI (by exact zoi_X5_3) ⟨Nat.le_of_ble_eq_true rfl, Nat.le_of_ble_eq_true rfl⟩ dX5_init_1 ?_
  refine zy_aload_n dX5_init_4 rfl rfl ?_
  refine zy_bipush 40 dX5_init_5 (by decide) ?_
  refine zy_newD (kn2 := 40) (9) (40) h9.1 h9.2.1 h9.2.2.1 h9.2.2.2 rfl (by omega) rfl (by omega) ⟨by dsimp only [zKR, zrN] <;> omega, by dsimp only [zKR, zrN] <;> omega⟩ dX5_init_7 ?_
  refine zy_putRF zf_X5_9 rfl (fun C T N h => by cases (show (RX5, TX5, 9) = (C, T, N) from Option.some.inj h); rfl) (zO_gr _ hO) rfl dX5_init_9 ?_
  refine zy_aload_n dX5_init_12 rfl rfl ?_
  refine zy_bipush 40 dX5_init_13 (by decide) ?_
  refine zy_newD (kn2 := 40 + 40) (10) (40) h10.1 h10.2.1 h10.2.2.1 (zZr_sR h10.2.2.2 (by decide)) rfl (by omega) rfl (by omega) ⟨by dsimp only [zKR, zrN] <;> omega, by dsimp only [zKR, zrN] <;> omega⟩ dX5_init_15 ?_
  refine zy_putRF zf_X5_15 rfl (fun C T N h => by cases (show (RX5, TX5, 9) = (C, T, N) from Option.some.inj h); rfl) (zO_gr _ hO) rfl dX5_init_17 ?_
  refine zy_aload_n dX5_init_20 rfl rfl ?_
  refine zy_iconst 5 dX5_init_21 (by decide) ?_
  refine zy_iconst 5 dX5_init_22 (by decide) ?_
  refine zy_multi (kn2 := 40 + 40 + 30) rfl hm.1 hm.2.1 ⟨(zZr_sR (zZr_sR hm.2.2.1 (by decide)) (by decide)), fun j hj => (zZr_sR (zZr_sR (hm.2.2.2 j hj) (by omega)) (by omega))⟩ rfl (by omega) ⟨by dsimp only [zKR, zrN] <;> omega, by dsimp only [zKR, zrN] <;> omega⟩ dX5_init_23 ?_
  refine zy_putRF zf_X5_20 rfl (fun C T N h => by cases (show (RX5, TX5, 9) = (C, T, N) from Option.some.inj h); rfl) (zO_gr _ hO) rfl dX5_init_27 ?_
  refine zy_aload_n dX5_init_30 rfl rfl ?_
  refine zy_iconst 5 dX5_init_31 (by decide) ?_
  refine zy_newD (kn2 := 40 + 40 + 30 + 5) (17) (5) h17.1 h17.2.1 h17.2.2.1 (zZr_sR (zZr_m5 (zZr_sR (zZr_sR h17.2.2.2 (by decide)) (by decide)) (by decide)) (by decide)) rfl (by omega) rfl (by omega) ⟨by dsimp only [zKR, zrN] <;> omega, by dsimp only [zKR, zrN] <;> omega⟩ dX5_init_32 ?_
  refine zy_putRF zf_X5_23 rfl (fun C T N h => by cases (show (RX5, TX5, 9) = (C, T, N) from Option.some.inj h); rfl) (zO_gr _ hO) rfl dX5_init_34 ?_
  refine zy_aload_n dX5_init_37 rfl rfl ?_
  refine zy_iconst 5 dX5_init_38 (by decide) ?_
  refine zy_newZ (kn2 := 40 + 40 + 30 + 5 + 5) (18) (5) h18.1 h18.2.1 h18.2.2.1 (zZr_sR (zZr_sR (zZr_m5 (zZr_sR (zZr_sR h18.2.2.2 (by decide)) (by decide)) (by decide)) (by decide)) (by decide)) rfl (by omega) rfl (by omega) ⟨by dsimp only [zKR, zrN] <;> omega, by dsimp only [zKR, zrN] <;> omega⟩ dX5_init_39 ?_
  refine zy_putRF zf_X5_26 rfl (fun C T N h => by cases (show (RX5, TX5, 9) = (C, T, N) from Option.some.inj h); rfl) (zO_gr _ hO) rfl dX5_init_41 ?_
  refine zy_aload_n dX5_init_44 rfl rfl ?_
  refine zy_iconst 5 dX5_init_45 (by decide) ?_
  refine zy_newD (kn2 := 40 + 40 + 30 + 5 + 5 + 5) (19) (5) h19.1 h19.2.1 h19.2.2.1 (zZr_sR (zZr_sR (zZr_sR (zZr_m5 (zZr_sR (zZr_sR h19.2.2.2 (by decide)) (by decide)) (by decide)) (by decide)) (by decide)) (by decide)) rfl (by omega) rfl (by omega) ⟨by dsimp only [zKR, zrN] <;> omega, by dsimp only [zKR, zrN] <;> omega⟩ dX5_init_46 ?_
  refine zy_putRF zf_X5_30 rfl (fun C T N h => by cases (show (RX5, TX5, 9) = (C, T, N) from Option.some.inj h); rfl) (zO_gr _ hO) rfl dX5_init_48 ?_
  refine zy_aload_n dX5_init_51 rfl rfl ?_
  refine zy_iconst 5 dX5_init_52 (by decide) ?_
  refine zy_newD (kn2 := 40 + 40 + 30 + 5 + 5 + 5 + 5) (20) (5) h20.1 h20.2.1 h20.2.2.1 (zZr_sR (zZr_sR (zZr_sR (zZr_sR (zZr_m5 (zZr_sR (zZr_sR h20.2.2.2 (by decide)) (by decide)) (by decide)) (by decide)) (by decide)) (by decide)) (by decide)) rfl (by omega) rfl (by omega) ⟨by dsimp only [zKR, zrN] <;> omega, by dsimp only [zKR, zrN] <;> omega⟩ dX5_init_53 ?_
  refine zy_putRF zf_X5_33 rfl (fun C T N h => by cases (show (RX5, TX5, 9) = (C, T, N) from Option.some.inj h); rfl) (zO_gr _ hO) rfl dX5_init_55 ?_
  exact zy_return rfl rfl rfl (by first | rfl | (dsimp only [zKR, zrN] <;> omega)) (by dsimp only [zKR, zrN] <;> omega) dX5_init_58
set_option maxHeartbeats 4000000 in
set_option maxRecDepth 100000 in
theorem m_X6_faceCount {g : ZG} {μ : ZMem} {a b : Int32} : zCab g RX6 yX6_faceCount cX6_faceCount 2 ((some FieldType.int)) (zrm 0) [zi a, zi b] μ (some (zi ((a - 1) * b + a * (b - 1) + 2 * a + 2 * b))) μ := by
  refine zCab_w (by decide +kernel) rfl (Nat.le_of_ble_eq_true rfl) ?_
  refine zx_iload_n dX6_faceCount_0 rfl rfl ?_
  refine zx_iconst 1 dX6_faceCount_1 (by decide) ?_
  refine zx_isub dX6_faceCount_2 ?_
  refine zx_iload_n dX6_faceCount_3 rfl rfl ?_
  refine zx_imul dX6_faceCount_4 ?_
  refine zx_iload_n dX6_faceCount_5 rfl rfl ?_
  refine zx_iload_n dX6_faceCount_6 rfl rfl ?_
  refine zx_iconst 1 dX6_faceCount_7 (by decide) ?_
  refine zx_isub dX6_faceCount_8 ?_
  refine zx_imul dX6_faceCount_9 ?_
  refine zx_iadd dX6_faceCount_10 ?_
  refine zx_iconst 2 dX6_faceCount_11 (by decide) ?_
  refine zx_iload_n dX6_faceCount_12 rfl rfl ?_
  refine zx_imul dX6_faceCount_13 ?_
  refine zx_iadd dX6_faceCount_14 ?_
  refine zx_iconst 2 dX6_faceCount_15 (by decide) ?_
  refine zx_iload_n dX6_faceCount_16 rfl rfl ?_
  refine zx_imul dX6_faceCount_17 ?_
  refine zx_iadd dX6_faceCount_18 ?_
  exact zx_ireturn rfl (by rfl) (by rfl) dX6_faceCount_19
set_option maxHeartbeats 4000000 in
set_option maxRecDepth 100000 in
theorem m_X6_put {g : ZG} {μ : ZMem} {n v F : Nat} (hA : zO g 13 2 ∧ zln g 2 = F ∧ n < F ∧ F ≤ 400) (hv : zO g 1 v) : zCab g RX6 yX6_put cX6_put 3 (some FieldType.int) (zrm 0) [zr (some 2), zi (nI n), zr (some v)] μ (some (zi (nI n + 1))) (zsR μ 2 n (some v)) := by
  refine zCab_w (by decide +kernel) rfl (Nat.le_of_ble_eq_true rfl) ?_
  refine zx_iload_n dX6_put_0 rfl rfl ?_
  refine zx_if_lt (tgt := 14) dX6_put_1 (by decide) (fun h_ => absurd h_ (nI_pos (by omega))) (fun _ => ?_)
  refine zx_iload_n dX6_put_4 rfl rfl ?_
  refine zx_aload_n dX6_put_5 rfl rfl ?_
  refine zx_alen (nI F) hA.1 (by decide) (by rw [hA.2.1]) dX6_put_6 ?_
  refine zx_icmp_ge (tgt := 14) dX6_put_7 (by decide) (fun h_ => absurd h_ (fun h_ => absurd h_ (Int32.not_le.mpr (nI_lt (by omega) (by omega))))) (fun _ => ?_)
  refine zx_aload_n dX6_put_10 rfl rfl ?_
  refine zx_iload_n dX6_put_11 rfl rfl ?_
  refine zx_aload_n dX6_put_12 rfl rfl ?_
  refine zx_aast (Cl := RX1) (T := TX1) (N := 6) n hA.1 (by decide) hv (by decide) rfl rfl rfl ⟨by omega, by omega⟩ dX6_put_13 ?_
  refine zx_iload_n dX6_put_14 rfl rfl ?_
  refine zx_iconst 1 dX6_put_15 (by decide) ?_
  refine zx_iadd dX6_put_16 ?_
  exact zx_ireturn rfl (by rfl) (by rfl) dX6_put_17
