theorem zoi_X0_3 : zOi RX0 3 := ⟨zmem 66 (by decide +kernel) rfl, zmem 46 (by decide +kernel) rfl, zmem 47 (by decide +kernel) rfl⟩
theorem zoi_X1_1 : zOi RX1 1 := ⟨zmem 174 (by decide +kernel) rfl, zmem 46 (by decide +kernel) rfl, zmem 47 (by decide +kernel) rfl⟩
theorem zoi_X2_3 : zOi RX2 3 := ⟨zmem 210 (by decide +kernel) rfl, zmem 46 (by decide +kernel) rfl, zmem 47 (by decide +kernel) rfl⟩
theorem zoi_X3_3 : zOi RX3 3 := ⟨zmem 140 (by decide +kernel) rfl, zmem 46 (by decide +kernel) rfl, zmem 47 (by decide +kernel) rfl⟩
theorem zoi_X4_3 : zOi RX4 3 := ⟨zmem 232 (by decide +kernel) rfl, zmem 46 (by decide +kernel) rfl, zmem 47 (by decide +kernel) rfl⟩
theorem zoi_X5_3 : zOi RX5 3 := ⟨zmem 270 (by decide +kernel) rfl, zmem 46 (by decide +kernel) rfl, zmem 47 (by decide +kernel) rfl⟩
theorem zoi_X6_3 : zOi RX6 3 := ⟨zmem 45 (by decide +kernel) rfl, zmem 46 (by decide +kernel) rfl, zmem 47 (by decide +kernel) rfl⟩
theorem zoi_X7_1 : zOi RX7 1 := ⟨zmem 707 (by decide +kernel) rfl, zmem 46 (by decide +kernel) rfl, zmem 47 (by decide +kernel) rfl⟩
theorem zcl_X6_95 : Cond.classLink RX6 95 RX0 ∈ lw_good := zmem 60 (by decide +kernel) rfl
theorem znc_X6_95 : zNc RX6 95 0 := ⟨RX0, TX0, 15, rfl, rfl, by decide, inG0, zcl_X6_95, zmem 62 (by decide +kernel) rfl, zmem 32 (by decide +kernel) rfl, tyX0_ok⟩
theorem zcl_X6_119 : Cond.classLink RX6 119 RX3 ∈ lw_good := zmem 134 (by decide +kernel) rfl
theorem znc_X6_119 : zNc RX6 119 3 := ⟨RX3, TX3, 5, rfl, rfl, by decide, inG3, zcl_X6_119, zmem 136 (by decide +kernel) rfl, zmem 33 (by decide +kernel) rfl, tyX3_ok⟩
theorem zcl_X6_104 : Cond.classLink RX6 104 RX1 ∈ lw_good := zmem 168 (by decide +kernel) rfl
theorem znc_X6_104 : zNc RX6 104 1 := ⟨RX1, TX1, 6, rfl, rfl, by decide, inG1, zcl_X6_104, zmem 170 (by decide +kernel) rfl, zmem 34 (by decide +kernel) rfl, tyX1_ok⟩
theorem zcl_X6_204 : Cond.classLink RX6 204 RX2 ∈ lw_good := zmem 204 (by decide +kernel) rfl
theorem znc_X6_204 : zNc RX6 204 2 := ⟨RX2, TX2, 3, rfl, rfl, by decide, inG2, zcl_X6_204, zmem 206 (by decide +kernel) rfl, zmem 35 (by decide +kernel) rfl, tyX2_ok⟩
theorem zcl_X6_235 : Cond.classLink RX6 235 RX4 ∈ lw_good := zmem 226 (by decide +kernel) rfl
theorem znc_X6_235 : zNc RX6 235 4 := ⟨RX4, TX4, 10, rfl, rfl, by decide, inG4, zcl_X6_235, zmem 228 (by decide +kernel) rfl, zmem 36 (by decide +kernel) rfl, tyX4_ok⟩
theorem zcl_X6_73 : Cond.classLink RX6 73 RX5 ∈ lw_good := zmem 265 (by decide +kernel) rfl
theorem znc_X6_73 : zNc RX6 73 5 := ⟨RX5, TX5, 9, rfl, rfl, by decide, inG5, zcl_X6_73, zmem 266 (by decide +kernel) rfl, zmem 37 (by decide +kernel) rfl, tyX5_ok⟩
theorem zin_X6_324 : zLin RX6 324 yX0_init RX6 cX0_init 1 0 := ⟨by simp [znin], zmem 64 (by decide +kernel) rfl, zmem 32 (by decide +kernel) rfl, zmem 65 (by decide +kernel) rfl, ⟨by decide +kernel, by decide +kernel, by decide +kernel⟩, rfl⟩
theorem zin_X6_325 : zLin RX6 325 yX3_init RX6 cX3_init 1 0 := ⟨by simp [znin], zmem 138 (by decide +kernel) rfl, zmem 33 (by decide +kernel) rfl, zmem 139 (by decide +kernel) rfl, ⟨by decide +kernel, by decide +kernel, by decide +kernel⟩, rfl⟩
theorem zin_X6_326 : zLin RX6 326 yX2_init RX6 cX2_init 1 0 := ⟨by simp [znin], zmem 208 (by decide +kernel) rfl, zmem 35 (by decide +kernel) rfl, zmem 209 (by decide +kernel) rfl, ⟨by decide +kernel, by decide +kernel, by decide +kernel⟩, rfl⟩
theorem zin_X6_75 : zLin RX6 75 yX5_init RX6 cX5_init 1 0 := ⟨by simp [znin], zmem 268 (by decide +kernel) rfl, zmem 37 (by decide +kernel) rfl, zmem 269 (by decide +kernel) rfl, ⟨by decide +kernel, by decide +kernel, by decide +kernel⟩, rfl⟩
theorem zin_X6_327 : zLi RX6 327 yX4_init cX4_init 3 2 := ⟨zmem 229 (by decide +kernel) rfl, zmem 230 (by decide +kernel) rfl, zmem 36 (by decide +kernel) rfl, zmem 231 (by decide +kernel) rfl, ⟨by decide +kernel, by decide +kernel, by decide +kernel⟩, rfl⟩
theorem zin_X6_330 : zLi RX6 330 yX1_init cX1_init 6 5 := ⟨zmem 171 (by decide +kernel) rfl, zmem 172 (by decide +kernel) rfl, zmem 34 (by decide +kernel) rfl, zmem 173 (by decide +kernel) rfl, ⟨by decide +kernel, by decide +kernel, by decide +kernel⟩, rfl⟩
abbrev zrN (d mc ms : Nat) : Room := { frames := d, cells := mc, slots := ms, locals := 42 * d }
theorem zZr_sR {μ : ZMem} {r r1 k : Nat} {v : Option Nat} (h : zZr μ r1) (hne : r1 ≠ r) : zZr (zsR μ r k v) r1 := fun b => ⟨(h b).1, (h b).2.1, (h b).2.2.1, by
  rw [zR_sR, if_neg (fun q => hne q.1)]
  exact (h b).2.2.2⟩
theorem zZr_sI {μ : ZMem} {r r1 k : Nat} {v : Int32} (h : zZr μ r1) (hne : r1 ≠ r) : zZr (zsI μ r k v) r1 := fun b => ⟨by
  rw [zI_sI, if_neg (fun q => hne q.1)]
  exact (h b).1, (h b).2.1, (h b).2.2.1, (h b).2.2.2⟩
theorem zO_gr {g : ZG} {kd r : Nat} (nr : List Nat) (h : zO g kd r) : zO (zgr g nr) kd r := ⟨List.mem_append_left _ h.1, h.2⟩
theorem zO_new {g : ZG} {kd r : Nat} {nr : List Nat} (h : r ∈ nr) (hk : zkd g r = kd) : zO (zgr g nr) kd r := ⟨List.mem_append_right _ h, hk⟩
