set_option maxHeartbeats 4000000 in
set_option maxRecDepth 100000 in
theorem m_X0_init {g : ZG} {μ : ZMem} {hs r : Nat} (hO : zO g 0 r) : zNab g RX0 yX0_init cX0_init 1 none (zrN 1 0 0) [zr (some r)] μ none μ [] hs := by
  refine zNab_w true (by decide +kernel) rfl (Nat.le_of_ble_eq_true rfl) (fun _ => rfl) ?_
  refine zy_aload_n dX0_init_0 rfl rfl ?_
  refine zy_objI (by exact zoi_X0_3) ⟨Nat.le_of_ble_eq_true rfl, Nat.le_of_ble_eq_true rfl⟩ dX0_init_1 ?_
  exact zy_return rfl rfl rfl (by first | rfl | (dsimp only [zKR, zrN] <;> omega)) (by dsimp only [zKR, zrN] <;> omega) dX0_init_4

set_option maxHeartbeats 4000000 in
set_option maxRecDepth 100000 in
theorem m_X3_init {g : ZG} {μ : ZMem} {hs r : Nat} (hO : zO g 3 r) {a : Nat} (ha : zkd g a = 8 ∧ zln g a = 8 ∧ zad g a = hs + 0 ∧ zZr μ a) {b : Nat} (hb : zkd g b = 8 ∧ zln g b = 8 ∧ zad g b = hs + 1 ∧ zZr μ b) : zNab g RX3 yX3_init cX3_init 1 none (zrN 1 2 (8 + 8)) [zr (some r)] μ none (zsR (zsR μ r 0 (some a)) r 1 (some b)) [a, b] hs := by
  have na : a ≠ r := fun q => by have h1 := ha.1; rw [q, hO.2] at h1; exact absurd h1 (by decide)
  have nb : b ≠ r := fun q => by have h1 := hb.1; rw [q, hO.2] at h1; exact absurd h1 (by decide)
  refine zNab_w true (by decide +kernel) rfl (Nat.le_of_ble_eq_true rfl) (fun _ => rfl) ?_
  refine zy_aload_n dX3_init_0 rfl rfl ?_
  refine zy_objI (by exact zoi_X3_3) ⟨Nat.le_of_ble_eq_true rfl, Nat.le_of_ble_eq_true rfl⟩ dX3_init_1 ?_
  refine zy_aload_n dX3_init_4 rfl rfl ?_
  refine zy_bipush 8 dX3_init_5 (by decide) ?_
  refine zy_newD (kn2 := 8) (a) (8) ha.1 ha.2.1 ha.2.2.1 ha.2.2.2 rfl (by omega) rfl (by omega) ⟨by dsimp only [zKR, zrN] <;> omega, by dsimp only [zKR, zrN] <;> omega⟩ dX3_init_7 ?_
  refine zy_putRF zf_X3_9 rfl (fun C T N h => by cases (show (RX3, TX3, 5) = (C, T, N) from Option.some.inj h); rfl) (zO_gr _ hO) rfl dX3_init_9 ?_
  refine zy_aload_n dX3_init_12 rfl rfl ?_
  refine zy_bipush 8 dX3_init_13 (by decide) ?_
  refine zy_newD (kn2 := 8 + 8) (b) (8) hb.1 hb.2.1 hb.2.2.1 (zZr_sR hb.2.2.2 nb) rfl (by omega) rfl (by omega) ⟨by dsimp only [zKR, zrN] <;> omega, by dsimp only [zKR, zrN] <;> omega⟩ dX3_init_15 ?_
  refine zy_putRF zf_X3_15 rfl (fun C T N h => by cases (show (RX3, TX3, 5) = (C, T, N) from Option.some.inj h); rfl) (zO_gr _ hO) rfl dX3_init_17 ?_
  exact zy_return rfl rfl rfl (by first | rfl | (dsimp only [zKR, zrN] <;> omega)) (by dsimp only [zKR, zrN] <;> omega) dX3_init_20

set_option maxHeartbeats 4000000 in
set_option maxRecDepth 100000 in
theorem m_X2_init {g : ZG} {μ : ZMem} {hs r : Nat} (hO : zO g 2 r) {a : Nat} (ha : zkd g a = 10 ∧ zln g a = 8 ∧ zad g a = hs + 0 ∧ zZr μ a) : zNab g RX2 yX2_init cX2_init 1 none (zrN 1 1 (8)) [zr (some r)] μ none (zsR μ r 0 (some a)) [a] hs := by
  have na : a ≠ r := fun q => by have h1 := ha.1; rw [q, hO.2] at h1; exact absurd h1 (by decide)
  refine zNab_w true (by decide +kernel) rfl (Nat.le_of_ble_eq_true rfl) (fun _ => rfl) ?_
  refine zy_aload_n dX2_init_0 rfl rfl ?_
  refine zy_objI (by exact zoi_X2_3) ⟨Nat.le_of_ble_eq_true rfl, Nat.le_of_ble_eq_true rfl⟩ dX2_init_1 ?_
  refine zy_aload_n dX2_init_4 rfl rfl ?_
  refine zy_bipush 8 dX2_init_5 (by decide) ?_
  refine zy_newL (kn2 := 8) (a) (8) ha.1 ha.2.1 ha.2.2.1 ha.2.2.2 rfl (by omega) rfl (by omega) ⟨by dsimp only [zKR, zrN] <;> omega, by dsimp only [zKR, zrN] <;> omega⟩ dX2_init_7 ?_
  refine zy_putRF zf_X2_9 rfl (fun C T N h => by cases (show (RX2, TX2, 3) = (C, T, N) from Option.some.inj h); rfl) (zO_gr _ hO) rfl dX2_init_9 ?_
  exact zy_return rfl rfl rfl (by first | rfl | (dsimp only [zKR, zrN] <;> omega)) (by dsimp only [zKR, zrN] <;> omega) dX2_init_12
