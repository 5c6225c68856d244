def posM (r : Nat) : Nat := ([0, 0, 0, 0, 0, 1, 2, 3, 4, 5, 6, 7, 8, 0, 0, 0, 9, 10, 11, 12, 0, 0, 0, 13, 14, 15, 16, 17, 0, 18, 19, 20, 0, 21, 22, 23, 24, 25, 26, 0, 0, 0, 27, 28, 29, 30, 31, 32, 33, 34, 35] : List Nat).getD r 0
def c_geoM (g : ZG) (hs : Nat) : Prop := ∀ r, (kdM r == 99) = false → zkd g r = kdM r ∧ zln g r = lnM r ∧ (r ≠ 0 → zad g r = hs + posM r)
theorem s_bet (x n : Int32) (hn : 1 ≤ n) : s_between x n = if x < 1 then 1 else if n < x then n else x := by
  unfold s_between s_max32 s_min32
  simp only [Int32.le_iff_toInt_le, Int32.lt_iff_toInt_lt] at *
  have e1 : (1 : Int32).toInt = 1 := by decide
  repeat' split
  all_goals first | rfl | omega | (apply Int32.toInt_inj.mp; omega) | (simp only [e1] at *; first | omega | (apply Int32.toInt_inj.mp; omega))
theorem zWN_v {g : ZG} {K : ZK} {nF : List Nat} {hs : Nat} {fi : Bool} {nr : List Nat} {kc kn : Nat} {pc : Nat} {ls : ZLS} {st : List ZV} {μ : ZMem} {v v2 : Int32} (k : zWN g K nF hs fi nr kc kn pc ls (zi v :: st) μ) (e : v2 = v) : zWN g K nF hs fi nr kc kn pc ls (zi v2 :: st) μ := e ▸ k
def zZ0 (m : ZMem) : Prop := ∀ r, r ≠ 0 → zZr m r
theorem zZ0_M0 : zZ0 zM0 := fun r _ => zM0_zr r
theorem zZ0_sR {m : ZMem} {k : Nat} {v : Option Nat} (h : zZ0 m) : zZ0 (zsR m 0 k v) := fun r hr => zZr_sR (h r hr) hr
theorem zZ0_sI {m : ZMem} {k : Nat} {v : Int32} (h : zZ0 m) : zZ0 (zsI m 0 k v) := fun r hr => zZr_sI (h r hr) hr
def c_M7_0 : ZMem := zM0
theorem c_M7_z0 : zZ0 c_M7_0 := zZ0_M0
def c_M7_1 : ZMem := zsR c_M7_0 0 3 (some 4)
theorem c_M7_z1 : zZ0 c_M7_1 := zZ0_sR c_M7_z0
def c_M7_2 : ZMem := zsR c_M7_1 0 4 (some 5)
theorem c_M7_z2 : zZ0 c_M7_2 := zZ0_sR c_M7_z1
def c_M7_3 : ZMem := zsR c_M7_2 0 5 (some 6)
theorem c_M7_z3 : zZ0 c_M7_3 := zZ0_sR c_M7_z2
def c_M7_4 : ZMem := zsR c_M7_3 0 6 (some 7)
theorem c_M7_z4 : zZ0 c_M7_4 := zZ0_sR c_M7_z3
def c_M7_5 : ZMem := zsR c_M7_4 0 7 (some 8)
theorem c_M7_z5 : zZ0 c_M7_5 := zZ0_sR c_M7_z4
def c_M7_6 : ZMem := zsR c_M7_5 0 8 (some 9)
theorem c_M7_z6 : zZ0 c_M7_6 := zZ0_sR c_M7_z5
def c_M7_7 : ZMem := zsR c_M7_6 0 9 (some 10)
theorem c_M7_z7 : zZ0 c_M7_7 := zZ0_sR c_M7_z6
def c_M7_8 : ZMem := zsR c_M7_7 0 10 (some 11)
theorem c_M7_z8 : zZ0 c_M7_8 := zZ0_sR c_M7_z7
def c_M7_9 : ZMem := zsR c_M7_8 0 11 (some 12)
theorem c_M7_z9 : zZ0 c_M7_9 := zZ0_sR c_M7_z8
def c_M7_10 : ZMem := zsR c_M7_9 0 15 (some 16)
theorem c_M7_z10 : zZ0 c_M7_10 := zZ0_sR c_M7_z9
def c_M7_11 : ZMem := zsR c_M7_10 0 16 (some 17)
theorem c_M7_z11 : zZ0 c_M7_11 := zZ0_sR c_M7_z10
def c_M7_12 : ZMem := zsR c_M7_11 0 17 (some 18)
theorem c_M7_z12 : zZ0 c_M7_12 := zZ0_sR c_M7_z11
def c_M7_13 : ZMem := zsR c_M7_12 0 18 (some 19)
theorem c_M7_z13 : zZ0 c_M7_13 := zZ0_sR c_M7_z12
def c_M7_14 : ZMem := zsR c_M7_13 0 22 (some 23)
theorem c_M7_z14 : zZ0 c_M7_14 := zZ0_sR c_M7_z13
def c_M7_15 : ZMem := zsR c_M7_14 0 23 (some 24)
theorem c_M7_z15 : zZ0 c_M7_15 := zZ0_sR c_M7_z14
def c_M7_16 : ZMem := zsR c_M7_15 0 24 (some 25)
theorem c_M7_z16 : zZ0 c_M7_16 := zZ0_sR c_M7_z15
def c_M7_17 : ZMem := zsR c_M7_16 0 25 (some 26)
theorem c_M7_z17 : zZ0 c_M7_17 := zZ0_sR c_M7_z16
def c_M7_18 : ZMem := zsR c_M7_17 0 26 (some 27)
theorem c_M7_z18 : zZ0 c_M7_18 := zZ0_sR c_M7_z17
def c_M7_19 : ZMem := zsR c_M7_18 0 28 (some 29)
theorem c_M7_z19 : zZ0 c_M7_19 := zZ0_sR c_M7_z18
def c_M7_20 : ZMem := zsR c_M7_19 0 29 (some 30)
theorem c_M7_z20 : zZ0 c_M7_20 := zZ0_sR c_M7_z19
def c_M7_21 : ZMem := zsR c_M7_20 0 30 (some 31)
theorem c_M7_z21 : zZ0 c_M7_21 := zZ0_sR c_M7_z20
def c_M7_22 : ZMem := zsR c_M7_21 0 32 (some 33)
theorem c_M7_z22 : zZ0 c_M7_22 := zZ0_sR c_M7_z21
def c_M7_23 : ZMem := zsR c_M7_22 0 33 (some 34)
theorem c_M7_z23 : zZ0 c_M7_23 := zZ0_sR c_M7_z22
def c_M7_24 : ZMem := zsR c_M7_23 0 34 (some 35)
theorem c_M7_z24 : zZ0 c_M7_24 := zZ0_sR c_M7_z23
def c_M7_25 : ZMem := zsR c_M7_24 0 35 (some 36)
theorem c_M7_z25 : zZ0 c_M7_25 := zZ0_sR c_M7_z24
def c_M7_26 : ZMem := zsR c_M7_25 0 36 (some 37)
theorem c_M7_z26 : zZ0 c_M7_26 := zZ0_sR c_M7_z25
def c_M7_27 : ZMem := zsR c_M7_26 0 37 (some 38)
theorem c_M7_z27 : zZ0 c_M7_27 := zZ0_sR c_M7_z26
def c_M7_28 : ZMem := zsR c_M7_27 0 41 (some 42)
theorem c_M7_z28 : zZ0 c_M7_28 := zZ0_sR c_M7_z27
def c_M7_29 : ZMem := zsR c_M7_28 0 42 (some 43)
theorem c_M7_z29 : zZ0 c_M7_29 := zZ0_sR c_M7_z28
def c_M7_30 : ZMem := zsR c_M7_29 0 43 (some 44)
theorem c_M7_z30 : zZ0 c_M7_30 := zZ0_sR c_M7_z29
def c_M7_31 : ZMem := zsR c_M7_30 0 44 (some 45)
theorem c_M7_z31 : zZ0 c_M7_31 := zZ0_sR c_M7_z30
def c_M7_32 : ZMem := zsR c_M7_31 0 45 (some 46)
theorem c_M7_z32 : zZ0 c_M7_32 := zZ0_sR c_M7_z31
def c_M7_33 : ZMem := zsR c_M7_32 0 46 (some 47)
theorem c_M7_z33 : zZ0 c_M7_33 := zZ0_sR c_M7_z32
def c_M7_34 : ZMem := zsR c_M7_33 0 47 (some 48)
theorem c_M7_z34 : zZ0 c_M7_34 := zZ0_sR c_M7_z33
def c_M7_35 : ZMem := zsR c_M7_34 0 48 (some 49)
theorem c_M7_z35 : zZ0 c_M7_35 := zZ0_sR c_M7_z34
def c_M7_36 : ZMem := zsR c_M7_35 0 49 (some 50)
theorem c_M7_z36 : zZ0 c_M7_36 := zZ0_sR c_M7_z35
def c_X7 (w h : Nat) (ly : Int32) : ZMem := zsI (zsI (zsI c_M7_36 0 0 (nI w)) 0 1 (nI h)) 0 2 ly
def c_rolesM : List Nat := [4, 5, 6, 7, 8, 9, 10, 11, 12, 16, 17, 18, 19, 23, 24, 25, 26, 27, 29, 30, 31, 33, 34, 35, 36, 37, 38, 42, 43, 44, 45, 46, 47, 48, 49, 50]
set_option maxHeartbeats 8000000 in
set_option maxRecDepth 100000 in
theorem m_X7_init {g : ZG} {hs w h : Nat} {x y z ly : Int32} (hx : s_between x 12 = nI w) (hy : s_between y 12 = nI h) (hz : s_between z 4 = ly) (H : c_geoM g hs) (hO : zO g 7 0) : zNab g RX7 yX7_init cX7_init 4 none (zrN 1 36 6255) [zr (some 0), zi x, zi y, zi z] zM0 none (c_X7 w h ly) c_rolesM hs := by
  refine zNab_w true (by decide +kernel) rfl (Nat.le_of_ble_eq_true rfl) (fun _ => rfl) ?_
  have k377 : zWN g (RX7, cX7_init, 4, none, zrN 1 36 6255, none, c_X7 w h ly) c_rolesM hs true c_rolesM 36 6255 377 (zls [(0, zr (some 0)), (1, zi x), (2, zi y), (3, zi z)]) [] (zsI (zsI (zsI c_M7_36 0 0 (nI w)) 0 1 (nI h)) 0 2 ly) := by
    show zWN _ _ _ _ _ _ _ _ _ _ _ _
    exact zy_return rfl rfl rfl rfl (Nat.le_refl _) dX7_init_377
  have k374 : zWN g (RX7, cX7_init, 4, none, zrN 1 36 6255, none, c_X7 w h ly) c_rolesM hs true c_rolesM 36 6255 374 (zls [(0, zr (some 0)), (1, zi x), (2, zi y), (3, zi z)]) [zi ly, zr (some 0)] (zsI (zsI c_M7_36 0 0 (nI w)) 0 1 (nI h)) := by
    show zWN _ _ _ _ _ _ _ _ _ _ _ _
    refine zy_putIF zf_X7_128 rfl (fun C T N h => by cases (show (RX7, TX7, 50) = (C, T, N) from Option.some.inj h); rfl) (zO_gr _ hO) ⟨rfl, rfl⟩ (Or.inl rfl) dX7_init_374 ?_
    exact k377
  have k354 : zWN g (RX7, cX7_init, 4, none, zrN 1 36 6255, none, c_X7 w h ly) c_rolesM hs true c_rolesM 36 6255 354 (zls [(0, zr (some 0)), (1, zi x), (2, zi y), (3, zi z)]) [] (zsI (zsI c_M7_36 0 0 (nI w)) 0 1 (nI h)) := by
    show zWN _ _ _ _ _ _ _ _ _ _ _ _
    rw [s_bet _ _ (by decide)] at hz
    by_cases h1 : z < 1
    · rw [if_pos h1] at hz
      refine zy_aload_n dX7_init_354 rfl rfl ?_
      refine zy_iload_n dX7_init_355 rfl rfl ?_
      refine zy_iconst 1 dX7_init_356 (by decide) ?_
      refine zy_icmp_ge (tgt := 364) dX7_init_357 (by decide) (fun h_ => absurd h_ (Int32.not_le.mpr h1)) (fun _ => ?_)
      refine zy_iconst 1 dX7_init_360 (by decide) ?_
      refine zy_goto (tgt := 374) dX7_init_361 (by decide) ?_
      exact zWN_to (zWN_v k374 hz) ⟨rfl, rfl, rfl, rfl, trivial⟩
    · rw [if_neg h1] at hz
      by_cases h2 : 4 < z
      · rw [if_pos h2] at hz
        refine zy_aload_n dX7_init_354 rfl rfl ?_
        refine zy_iload_n dX7_init_355 rfl rfl ?_
        refine zy_iconst 1 dX7_init_356 (by decide) ?_
        refine zy_icmp_ge (tgt := 364) dX7_init_357 (by decide) (fun _ => ?_) (fun h_ => absurd h_ (fun q => h1 (Int32.not_le.mp q)))
        refine zy_iload_n dX7_init_364 rfl rfl ?_
        refine zy_iconst 4 dX7_init_365 (by decide) ?_
        refine zy_icmp_le (tgt := 373) dX7_init_366 (by decide) (fun h_ => absurd h_ (Int32.not_le.mpr h2)) (fun _ => ?_)
        refine zy_iconst 4 dX7_init_369 (by decide) ?_
        refine zy_goto (tgt := 374) dX7_init_370 (by decide) ?_
        exact zWN_to (zWN_v k374 hz) ⟨rfl, rfl, rfl, rfl, trivial⟩
      · rw [if_neg h2] at hz
        refine zy_aload_n dX7_init_354 rfl rfl ?_
        refine zy_iload_n dX7_init_355 rfl rfl ?_
        refine zy_iconst 1 dX7_init_356 (by decide) ?_
        refine zy_icmp_ge (tgt := 364) dX7_init_357 (by decide) (fun _ => ?_) (fun h_ => absurd h_ (fun q => h1 (Int32.not_le.mp q)))
        refine zy_iload_n dX7_init_364 rfl rfl ?_
        refine zy_iconst 4 dX7_init_365 (by decide) ?_
        refine zy_icmp_le (tgt := 373) dX7_init_366 (by decide) (fun _ => ?_) (fun h_ => absurd h_ (fun q => h2 (Int32.not_le.mp q)))
        refine zy_iload_n dX7_init_373 rfl rfl ?_
        exact zWN_to (zWN_v k374 hz) ⟨rfl, rfl, rfl, rfl, trivial⟩
  have k351 : zWN g (RX7, cX7_init, 4, none, zrN 1 36 6255, none, c_X7 w h ly) c_rolesM hs true c_rolesM 36 6255 351 (zls [(0, zr (some 0)), (1, zi x), (2, zi y), (3, zi z)]) [zi (nI h), zr (some 0)] (zsI c_M7_36 0 0 (nI w)) := by
    show zWN _ _ _ _ _ _ _ _ _ _ _ _
    refine zy_putIF zf_X7_125 rfl (fun C T N h => by cases (show (RX7, TX7, 50) = (C, T, N) from Option.some.inj h); rfl) (zO_gr _ hO) ⟨rfl, rfl⟩ (Or.inl rfl) dX7_init_351 ?_
    exact k354
  have k329 : zWN g (RX7, cX7_init, 4, none, zrN 1 36 6255, none, c_X7 w h ly) c_rolesM hs true c_rolesM 36 6255 329 (zls [(0, zr (some 0)), (1, zi x), (2, zi y), (3, zi z)]) [] (zsI c_M7_36 0 0 (nI w)) := by
    show zWN _ _ _ _ _ _ _ _ _ _ _ _
    rw [s_bet _ _ (by decide)] at hy
    by_cases h1 : y < 1
    · rw [if_pos h1] at hy
      refine zy_aload_n dX7_init_329 rfl rfl ?_
      refine zy_iload_n dX7_init_330 rfl rfl ?_
      refine zy_iconst 1 dX7_init_331 (by decide) ?_
      refine zy_icmp_ge (tgt := 339) dX7_init_332 (by decide) (fun h_ => absurd h_ (Int32.not_le.mpr h1)) (fun _ => ?_)
      refine zy_iconst 1 dX7_init_335 (by decide) ?_
      refine zy_goto (tgt := 351) dX7_init_336 (by decide) ?_
      exact zWN_to (zWN_v k351 hy) ⟨rfl, rfl, rfl, rfl, trivial⟩
    · rw [if_neg h1] at hy
      by_cases h2 : 12 < y
      · rw [if_pos h2] at hy
        refine zy_aload_n dX7_init_329 rfl rfl ?_
        refine zy_iload_n dX7_init_330 rfl rfl ?_
        refine zy_iconst 1 dX7_init_331 (by decide) ?_
        refine zy_icmp_ge (tgt := 339) dX7_init_332 (by decide) (fun _ => ?_) (fun h_ => absurd h_ (fun q => h1 (Int32.not_le.mp q)))
        refine zy_iload_n dX7_init_339 rfl rfl ?_
        refine zy_bipush 12 dX7_init_340 (by decide) ?_
        refine zy_icmp_le (tgt := 350) dX7_init_342 (by decide) (fun h_ => absurd h_ (Int32.not_le.mpr h2)) (fun _ => ?_)
        refine zy_bipush 12 dX7_init_345 (by decide) ?_
        refine zy_goto (tgt := 351) dX7_init_347 (by decide) ?_
        exact zWN_to (zWN_v k351 hy) ⟨rfl, rfl, rfl, rfl, trivial⟩
      · rw [if_neg h2] at hy
        refine zy_aload_n dX7_init_329 rfl rfl ?_
        refine zy_iload_n dX7_init_330 rfl rfl ?_
        refine zy_iconst 1 dX7_init_331 (by decide) ?_
        refine zy_icmp_ge (tgt := 339) dX7_init_332 (by decide) (fun _ => ?_) (fun h_ => absurd h_ (fun q => h1 (Int32.not_le.mp q)))
        refine zy_iload_n dX7_init_339 rfl rfl ?_
        refine zy_bipush 12 dX7_init_340 (by decide) ?_
        refine zy_icmp_le (tgt := 350) dX7_init_342 (by decide) (fun _ => ?_) (fun h_ => absurd h_ (fun q => h2 (Int32.not_le.mp q)))
        refine zy_iload_n dX7_init_350 rfl rfl ?_
        exact zWN_to (zWN_v k351 hy) ⟨rfl, rfl, rfl, rfl, trivial⟩
  have k326 : zWN g (RX7, cX7_init, 4, none, zrN 1 36 6255, none, c_X7 w h ly) c_rolesM hs true c_rolesM 36 6255 326 (zls [(0, zr (some 0)), (1, zi x), (2, zi y), (3, zi z)]) [zi (nI w), zr (some 0)] c_M7_36 := by
    show zWN _ _ _ _ _ _ _ _ _ _ _ _
    refine zy_putIF zf_X7_121 rfl (fun C T N h => by cases (show (RX7, TX7, 50) = (C, T, N) from Option.some.inj h); rfl) (zO_gr _ hO) ⟨rfl, rfl⟩ (Or.inl rfl) dX7_init_326 ?_
    exact k329
  have k304 : zWN g (RX7, cX7_init, 4, none, zrN 1 36 6255, none, c_X7 w h ly) c_rolesM hs true c_rolesM 36 6255 304 (zls [(0, zr (some 0)), (1, zi x), (2, zi y), (3, zi z)]) [] c_M7_36 := by
    show zWN _ _ _ _ _ _ _ _ _ _ _ _
    rw [s_bet _ _ (by decide)] at hx
    by_cases h1 : x < 1
    · rw [if_pos h1] at hx
      refine zy_aload_n dX7_init_304 rfl rfl ?_
      refine zy_iload_n dX7_init_305 rfl rfl ?_
      refine zy_iconst 1 dX7_init_306 (by decide) ?_
      refine zy_icmp_ge (tgt := 314) dX7_init_307 (by decide) (fun h_ => absurd h_ (Int32.not_le.mpr h1)) (fun _ => ?_)
      refine zy_iconst 1 dX7_init_310 (by decide) ?_
      refine zy_goto (tgt := 326) dX7_init_311 (by decide) ?_
      exact zWN_to (zWN_v k326 hx) ⟨rfl, rfl, rfl, rfl, trivial⟩
    · rw [if_neg h1] at hx
      by_cases h2 : 12 < x
      · rw [if_pos h2] at hx
        refine zy_aload_n dX7_init_304 rfl rfl ?_
        refine zy_iload_n dX7_init_305 rfl rfl ?_
        refine zy_iconst 1 dX7_init_306 (by decide) ?_
        refine zy_icmp_ge (tgt := 314) dX7_init_307 (by decide) (fun _ => ?_) (fun h_ => absurd h_ (fun q => h1 (Int32.not_le.mp q)))
        refine zy_iload_n dX7_init_314 rfl rfl ?_
        refine zy_bipush 12 dX7_init_315 (by decide) ?_
        refine zy_icmp_le (tgt := 325) dX7_init_317 (by decide) (fun h_ => absurd h_ (Int32.not_le.mpr h2)) (fun _ => ?_)
        refine zy_bipush 12 dX7_init_320 (by decide) ?_
        refine zy_goto (tgt := 326) dX7_init_322 (by decide) ?_
        exact zWN_to (zWN_v k326 hx) ⟨rfl, rfl, rfl, rfl, trivial⟩
      · rw [if_neg h2] at hx
        refine zy_aload_n dX7_init_304 rfl rfl ?_
        refine zy_iload_n dX7_init_305 rfl rfl ?_
        refine zy_iconst 1 dX7_init_306 (by decide) ?_
        refine zy_icmp_ge (tgt := 314) dX7_init_307 (by decide) (fun _ => ?_) (fun h_ => absurd h_ (fun q => h1 (Int32.not_le.mp q)))
        refine zy_iload_n dX7_init_314 rfl rfl ?_
        refine zy_bipush 12 dX7_init_315 (by decide) ?_
        refine zy_icmp_le (tgt := 325) dX7_init_317 (by decide) (fun _ => ?_) (fun h_ => absurd h_ (fun q => h2 (Int32.not_le.mp q)))
        refine zy_iload_n dX7_init_325 rfl rfl ?_
        exact zWN_to (zWN_v k326 hx) ⟨rfl, rfl, rfl, rfl, trivial⟩
  refine zy_aload_n dX7_init_0 rfl rfl ?_
  refine zy_objI (by exact zoi_X7_1) ⟨Nat.le_of_ble_eq_true rfl, Nat.le_of_ble_eq_true rfl⟩ dX7_init_1 ?_
  refine zy_aload_n dX7_init_4 rfl rfl ?_
  refine zy_sipush 144 dX7_init_5 (by decide) ?_
  refine zy_newZ (kn2 := 144) (4) (144) (H 4 rfl).1 (H 4 rfl).2.1 ((H 4 rfl).2.2 (by decide)) (c_M7_z0 4 (by decide)) rfl (by omega) (show _ = 1 from by omega) (by omega) ⟨by dsimp only [zKR, zrN] <;> omega, by dsimp only [zKR, zrN] <;> omega⟩ dX7_init_8 ?_
  refine zy_putRF zf_X7_7 rfl (fun C T N h => by cases (show (RX7, TX7, 50) = (C, T, N) from Option.some.inj h); rfl) (zO_gr _ hO) rfl dX7_init_10 ?_
  refine zWN_mem (μ := c_M7_1) ?_ rfl
  refine zy_aload_n dX7_init_13 rfl rfl ?_
  refine zy_sipush 144 dX7_init_14 (by decide) ?_
  refine zy_newD (kn2 := 288) (5) (144) (H 5 rfl).1 (H 5 rfl).2.1 ((H 5 rfl).2.2 (by decide)) (c_M7_z1 5 (by decide)) rfl (by omega) (show _ = 2 from by omega) (by omega) ⟨by dsimp only [zKR, zrN] <;> omega, by dsimp only [zKR, zrN] <;> omega⟩ dX7_init_17 ?_
  refine zy_putRF zf_X7_13 rfl (fun C T N h => by cases (show (RX7, TX7, 50) = (C, T, N) from Option.some.inj h); rfl) (zO_gr _ hO) rfl dX7_init_19 ?_
  refine zWN_mem (μ := c_M7_2) ?_ rfl
  refine zy_aload_n dX7_init_22 rfl rfl ?_
  refine zy_sipush 144 dX7_init_23 (by decide) ?_
  refine zy_newD (kn2 := 432) (6) (144) (H 6 rfl).1 (H 6 rfl).2.1 ((H 6 rfl).2.2 (by decide)) (c_M7_z2 6 (by decide)) rfl (by omega) (show _ = 3 from by omega) (by omega) ⟨by dsimp only [zKR, zrN] <;> omega, by dsimp only [zKR, zrN] <;> omega⟩ dX7_init_26 ?_
  refine zy_putRF zf_X7_17 rfl (fun C T N h => by cases (show (RX7, TX7, 50) = (C, T, N) from Option.some.inj h); rfl) (zO_gr _ hO) rfl dX7_init_28 ?_
  refine zWN_mem (μ := c_M7_3) ?_ rfl
  refine zy_aload_n dX7_init_31 rfl rfl ?_
  refine zy_sipush 144 dX7_init_32 (by decide) ?_
  refine zy_newL (kn2 := 576) (7) (144) (H 7 rfl).1 (H 7 rfl).2.1 ((H 7 rfl).2.2 (by decide)) (c_M7_z3 7 (by decide)) rfl (by omega) (show _ = 4 from by omega) (by omega) ⟨by dsimp only [zKR, zrN] <;> omega, by dsimp only [zKR, zrN] <;> omega⟩ dX7_init_35 ?_
  refine zy_putRF zf_X7_20 rfl (fun C T N h => by cases (show (RX7, TX7, 50) = (C, T, N) from Option.some.inj h); rfl) (zO_gr _ hO) rfl dX7_init_37 ?_
  refine zWN_mem (μ := c_M7_4) ?_ rfl
  refine zy_aload_n dX7_init_40 rfl rfl ?_
  refine zy_sipush 144 dX7_init_41 (by decide) ?_
  refine zy_newD (kn2 := 720) (8) (144) (H 8 rfl).1 (H 8 rfl).2.1 ((H 8 rfl).2.2 (by decide)) (c_M7_z4 8 (by decide)) rfl (by omega) (show _ = 5 from by omega) (by omega) ⟨by dsimp only [zKR, zrN] <;> omega, by dsimp only [zKR, zrN] <;> omega⟩ dX7_init_44 ?_
  refine zy_putRF zf_X7_24 rfl (fun C T N h => by cases (show (RX7, TX7, 50) = (C, T, N) from Option.some.inj h); rfl) (zO_gr _ hO) rfl dX7_init_46 ?_
  refine zWN_mem (μ := c_M7_5) ?_ rfl
  refine zy_aload_n dX7_init_49 rfl rfl ?_
  refine zy_sipush 144 dX7_init_50 (by decide) ?_
  refine zy_newD (kn2 := 864) (9) (144) (H 9 rfl).1 (H 9 rfl).2.1 ((H 9 rfl).2.2 (by decide)) (c_M7_z5 9 (by decide)) rfl (by omega) (show _ = 6 from by omega) (by omega) ⟨by dsimp only [zKR, zrN] <;> omega, by dsimp only [zKR, zrN] <;> omega⟩ dX7_init_53 ?_
  refine zy_putRF zf_X7_27 rfl (fun C T N h => by cases (show (RX7, TX7, 50) = (C, T, N) from Option.some.inj h); rfl) (zO_gr _ hO) rfl dX7_init_55 ?_
  refine zWN_mem (μ := c_M7_6) ?_ rfl
  refine zy_aload_n dX7_init_58 rfl rfl ?_
  refine zy_sipush 144 dX7_init_59 (by decide) ?_
  refine zy_newD (kn2 := 1008) (10) (144) (H 10 rfl).1 (H 10 rfl).2.1 ((H 10 rfl).2.2 (by decide)) (c_M7_z6 10 (by decide)) rfl (by omega) (show _ = 7 from by omega) (by omega) ⟨by dsimp only [zKR, zrN] <;> omega, by dsimp only [zKR, zrN] <;> omega⟩ dX7_init_62 ?_
  refine zy_putRF zf_X7_30 rfl (fun C T N h => by cases (show (RX7, TX7, 50) = (C, T, N) from Option.some.inj h); rfl) (zO_gr _ hO) rfl dX7_init_64 ?_
  refine zWN_mem (μ := c_M7_7) ?_ rfl
  refine zy_aload_n dX7_init_67 rfl rfl ?_
  refine zy_sipush 336 dX7_init_68 (by decide) ?_
  refine zy_newD (kn2 := 1344) (11) (336) (H 11 rfl).1 (H 11 rfl).2.1 ((H 11 rfl).2.2 (by decide)) (c_M7_z7 11 (by decide)) rfl (by omega) (show _ = 8 from by omega) (by omega) ⟨by dsimp only [zKR, zrN] <;> omega, by dsimp only [zKR, zrN] <;> omega⟩ dX7_init_71 ?_
  refine zy_putRF zf_X7_33 rfl (fun C T N h => by cases (show (RX7, TX7, 50) = (C, T, N) from Option.some.inj h); rfl) (zO_gr _ hO) rfl dX7_init_73 ?_
  refine zWN_mem (μ := c_M7_8) ?_ rfl
  refine zy_aload_n dX7_init_76 rfl rfl ?_
  refine zy_iconst 4 dX7_init_77 (by decide) ?_
  refine zy_newL (kn2 := 1348) (12) (4) (H 12 rfl).1 (H 12 rfl).2.1 ((H 12 rfl).2.2 (by decide)) (c_M7_z8 12 (by decide)) rfl (by omega) (show _ = 9 from by omega) (by omega) ⟨by dsimp only [zKR, zrN] <;> omega, by dsimp only [zKR, zrN] <;> omega⟩ dX7_init_78 ?_
  refine zy_putRF zf_X7_36 rfl (fun C T N h => by cases (show (RX7, TX7, 50) = (C, T, N) from Option.some.inj h); rfl) (zO_gr _ hO) rfl dX7_init_80 ?_
  refine zWN_mem (μ := c_M7_9) ?_ rfl
  refine zy_aload_n dX7_init_83 rfl rfl ?_
  refine zy_sipush 144 dX7_init_84 (by decide) ?_
  refine zy_newL (kn2 := 1492) (16) (144) (H 16 rfl).1 (H 16 rfl).2.1 ((H 16 rfl).2.2 (by decide)) (c_M7_z9 16 (by decide)) rfl (by omega) (show _ = 10 from by omega) (by omega) ⟨by dsimp only [zKR, zrN] <;> omega, by dsimp only [zKR, zrN] <;> omega⟩ dX7_init_87 ?_
  refine zy_putRF zf_X7_39 rfl (fun C T N h => by cases (show (RX7, TX7, 50) = (C, T, N) from Option.some.inj h); rfl) (zO_gr _ hO) rfl dX7_init_89 ?_
  refine zWN_mem (μ := c_M7_10) ?_ rfl
  refine zy_aload_n dX7_init_92 rfl rfl ?_
  refine zy_sipush 144 dX7_init_93 (by decide) ?_
  refine zy_newD (kn2 := 1636) (17) (144) (H 17 rfl).1 (H 17 rfl).2.1 ((H 17 rfl).2.2 (by decide)) (c_M7_z10 17 (by decide)) rfl (by omega) (show _ = 11 from by omega) (by omega) ⟨by dsimp only [zKR, zrN] <;> omega, by dsimp only [zKR, zrN] <;> omega⟩ dX7_init_96 ?_
  refine zy_putRF zf_X7_42 rfl (fun C T N h => by cases (show (RX7, TX7, 50) = (C, T, N) from Option.some.inj h); rfl) (zO_gr _ hO) rfl dX7_init_98 ?_
  refine zWN_mem (μ := c_M7_11) ?_ rfl
  refine zy_aload_n dX7_init_101 rfl rfl ?_
  refine zy_sipush 144 dX7_init_102 (by decide) ?_
  refine zy_newD (kn2 := 1780) (18) (144) (H 18 rfl).1 (H 18 rfl).2.1 ((H 18 rfl).2.2 (by decide)) (c_M7_z11 18 (by decide)) rfl (by omega) (show _ = 12 from by omega) (by omega) ⟨by dsimp only [zKR, zrN] <;> omega, by dsimp only [zKR, zrN] <;> omega⟩ dX7_init_105 ?_
  refine zy_putRF zf_X7_45 rfl (fun C T N h => by cases (show (RX7, TX7, 50) = (C, T, N) from Option.some.inj h); rfl) (zO_gr _ hO) rfl dX7_init_107 ?_
  refine zWN_mem (μ := c_M7_12) ?_ rfl
  refine zy_aload_n dX7_init_110 rfl rfl ?_
  refine zy_sipush 336 dX7_init_111 (by decide) ?_
  refine zy_newL (kn2 := 2116) (19) (336) (H 19 rfl).1 (H 19 rfl).2.1 ((H 19 rfl).2.2 (by decide)) (c_M7_z12 19 (by decide)) rfl (by omega) (show _ = 13 from by omega) (by omega) ⟨by dsimp only [zKR, zrN] <;> omega, by dsimp only [zKR, zrN] <;> omega⟩ dX7_init_114 ?_
  refine zy_putRF zf_X7_48 rfl (fun C T N h => by cases (show (RX7, TX7, 50) = (C, T, N) from Option.some.inj h); rfl) (zO_gr _ hO) rfl dX7_init_116 ?_
  refine zWN_mem (μ := c_M7_13) ?_ rfl
  refine zy_aload_n dX7_init_119 rfl rfl ?_
  refine zy_bipush 32 dX7_init_120 (by decide) ?_
  refine zy_newZ (kn2 := 2148) (23) (32) (H 23 rfl).1 (H 23 rfl).2.1 ((H 23 rfl).2.2 (by decide)) (c_M7_z13 23 (by decide)) rfl (by omega) (show _ = 14 from by omega) (by omega) ⟨by dsimp only [zKR, zrN] <;> omega, by dsimp only [zKR, zrN] <;> omega⟩ dX7_init_122 ?_
  refine zy_putRF zf_X7_51 rfl (fun C T N h => by cases (show (RX7, TX7, 50) = (C, T, N) from Option.some.inj h); rfl) (zO_gr _ hO) rfl dX7_init_124 ?_
  refine zWN_mem (μ := c_M7_14) ?_ rfl
  refine zy_aload_n dX7_init_127 rfl rfl ?_
  refine zy_bipush 32 dX7_init_128 (by decide) ?_
  refine zy_newD (kn2 := 2180) (24) (32) (H 24 rfl).1 (H 24 rfl).2.1 ((H 24 rfl).2.2 (by decide)) (c_M7_z14 24 (by decide)) rfl (by omega) (show _ = 15 from by omega) (by omega) ⟨by dsimp only [zKR, zrN] <;> omega, by dsimp only [zKR, zrN] <;> omega⟩ dX7_init_130 ?_
  refine zy_putRF zf_X7_54 rfl (fun C T N h => by cases (show (RX7, TX7, 50) = (C, T, N) from Option.some.inj h); rfl) (zO_gr _ hO) rfl dX7_init_132 ?_
  refine zWN_mem (μ := c_M7_15) ?_ rfl
  refine zy_aload_n dX7_init_135 rfl rfl ?_
  refine zy_bipush 32 dX7_init_136 (by decide) ?_
  refine zy_newD (kn2 := 2212) (25) (32) (H 25 rfl).1 (H 25 rfl).2.1 ((H 25 rfl).2.2 (by decide)) (c_M7_z15 25 (by decide)) rfl (by omega) (show _ = 16 from by omega) (by omega) ⟨by dsimp only [zKR, zrN] <;> omega, by dsimp only [zKR, zrN] <;> omega⟩ dX7_init_138 ?_
  refine zy_putRF zf_X7_57 rfl (fun C T N h => by cases (show (RX7, TX7, 50) = (C, T, N) from Option.some.inj h); rfl) (zO_gr _ hO) rfl dX7_init_140 ?_
  refine zWN_mem (μ := c_M7_16) ?_ rfl
  refine zy_aload_n dX7_init_143 rfl rfl ?_
  refine zy_bipush 24 dX7_init_144 (by decide) ?_
  refine zy_newD (kn2 := 2236) (26) (24) (H 26 rfl).1 (H 26 rfl).2.1 ((H 26 rfl).2.2 (by decide)) (c_M7_z16 26 (by decide)) rfl (by omega) (show _ = 17 from by omega) (by omega) ⟨by dsimp only [zKR, zrN] <;> omega, by dsimp only [zKR, zrN] <;> omega⟩ dX7_init_146 ?_
  refine zy_putRF zf_X7_60 rfl (fun C T N h => by cases (show (RX7, TX7, 50) = (C, T, N) from Option.some.inj h); rfl) (zO_gr _ hO) rfl dX7_init_148 ?_
  refine zWN_mem (μ := c_M7_17) ?_ rfl
  refine zy_aload_n dX7_init_151 rfl rfl ?_
  refine zy_bipush 24 dX7_init_152 (by decide) ?_
  refine zy_newD (kn2 := 2260) (27) (24) (H 27 rfl).1 (H 27 rfl).2.1 ((H 27 rfl).2.2 (by decide)) (c_M7_z17 27 (by decide)) rfl (by omega) (show _ = 18 from by omega) (by omega) ⟨by dsimp only [zKR, zrN] <;> omega, by dsimp only [zKR, zrN] <;> omega⟩ dX7_init_154 ?_
  refine zy_putRF zf_X7_63 rfl (fun C T N h => by cases (show (RX7, TX7, 50) = (C, T, N) from Option.some.inj h); rfl) (zO_gr _ hO) rfl dX7_init_156 ?_
  refine zWN_mem (μ := c_M7_18) ?_ rfl
  refine zy_aload_n dX7_init_159 rfl rfl ?_
  refine zy_bipush 10 dX7_init_160 (by decide) ?_
  refine zy_newI (kn2 := 2270) (29) (10) (H 29 rfl).1 (H 29 rfl).2.1 ((H 29 rfl).2.2 (by decide)) (c_M7_z18 29 (by decide)) rfl (by omega) (show _ = 19 from by omega) (by omega) ⟨by dsimp only [zKR, zrN] <;> omega, by dsimp only [zKR, zrN] <;> omega⟩ dX7_init_162 ?_
  refine zy_putRF zf_X7_66 rfl (fun C T N h => by cases (show (RX7, TX7, 50) = (C, T, N) from Option.some.inj h); rfl) (zO_gr _ hO) rfl dX7_init_164 ?_
  refine zWN_mem (μ := c_M7_19) ?_ rfl
  refine zy_aload_n dX7_init_167 rfl rfl ?_
  refine zy_sipush 144 dX7_init_168 (by decide) ?_
  refine zy_newZ (kn2 := 2414) (30) (144) (H 30 rfl).1 (H 30 rfl).2.1 ((H 30 rfl).2.2 (by decide)) (c_M7_z19 30 (by decide)) rfl (by omega) (show _ = 20 from by omega) (by omega) ⟨by dsimp only [zKR, zrN] <;> omega, by dsimp only [zKR, zrN] <;> omega⟩ dX7_init_171 ?_
  refine zy_putRF zf_X7_70 rfl (fun C T N h => by cases (show (RX7, TX7, 50) = (C, T, N) from Option.some.inj h); rfl) (zO_gr _ hO) rfl dX7_init_173 ?_
  refine zWN_mem (μ := c_M7_20) ?_ rfl
  refine zy_aload_n dX7_init_176 rfl rfl ?_
  refine zy_bipush 10 dX7_init_177 (by decide) ?_
  refine zy_newZ (kn2 := 2424) (31) (10) (H 31 rfl).1 (H 31 rfl).2.1 ((H 31 rfl).2.2 (by decide)) (c_M7_z20 31 (by decide)) rfl (by omega) (show _ = 21 from by omega) (by omega) ⟨by dsimp only [zKR, zrN] <;> omega, by dsimp only [zKR, zrN] <;> omega⟩ dX7_init_179 ?_
  refine zy_putRF zf_X7_73 rfl (fun C T N h => by cases (show (RX7, TX7, 50) = (C, T, N) from Option.some.inj h); rfl) (zO_gr _ hO) rfl dX7_init_181 ?_
  refine zWN_mem (μ := c_M7_21) ?_ rfl
  refine zy_aload_n dX7_init_184 rfl rfl ?_
  refine zy_bipush 40 dX7_init_185 (by decide) ?_
  refine zy_newI (kn2 := 2464) (33) (40) (H 33 rfl).1 (H 33 rfl).2.1 ((H 33 rfl).2.2 (by decide)) (c_M7_z21 33 (by decide)) rfl (by omega) (show _ = 22 from by omega) (by omega) ⟨by dsimp only [zKR, zrN] <;> omega, by dsimp only [zKR, zrN] <;> omega⟩ dX7_init_187 ?_
  refine zy_putRF zf_X7_76 rfl (fun C T N h => by cases (show (RX7, TX7, 50) = (C, T, N) from Option.some.inj h); rfl) (zO_gr _ hO) rfl dX7_init_189 ?_
  refine zWN_mem (μ := c_M7_22) ?_ rfl
  refine zy_aload_n dX7_init_192 rfl rfl ?_
  refine zy_bipush 40 dX7_init_193 (by decide) ?_
  refine zy_newD (kn2 := 2504) (34) (40) (H 34 rfl).1 (H 34 rfl).2.1 ((H 34 rfl).2.2 (by decide)) (c_M7_z22 34 (by decide)) rfl (by omega) (show _ = 23 from by omega) (by omega) ⟨by dsimp only [zKR, zrN] <;> omega, by dsimp only [zKR, zrN] <;> omega⟩ dX7_init_195 ?_
  refine zy_putRF zf_X7_79 rfl (fun C T N h => by cases (show (RX7, TX7, 50) = (C, T, N) from Option.some.inj h); rfl) (zO_gr _ hO) rfl dX7_init_197 ?_
  refine zWN_mem (μ := c_M7_23) ?_ rfl
  refine zy_aload_n dX7_init_200 rfl rfl ?_
  refine zy_bipush 40 dX7_init_201 (by decide) ?_
  refine zy_newD (kn2 := 2544) (35) (40) (H 35 rfl).1 (H 35 rfl).2.1 ((H 35 rfl).2.2 (by decide)) (c_M7_z23 35 (by decide)) rfl (by omega) (show _ = 24 from by omega) (by omega) ⟨by dsimp only [zKR, zrN] <;> omega, by dsimp only [zKR, zrN] <;> omega⟩ dX7_init_203 ?_
  refine zy_putRF zf_X7_82 rfl (fun C T N h => by cases (show (RX7, TX7, 50) = (C, T, N) from Option.some.inj h); rfl) (zO_gr _ hO) rfl dX7_init_205 ?_
  refine zWN_mem (μ := c_M7_24) ?_ rfl
  refine zy_aload_n dX7_init_208 rfl rfl ?_
  refine zy_bipush 25 dX7_init_209 (by decide) ?_
  refine zy_newD (kn2 := 2569) (36) (25) (H 36 rfl).1 (H 36 rfl).2.1 ((H 36 rfl).2.2 (by decide)) (c_M7_z24 36 (by decide)) rfl (by omega) (show _ = 25 from by omega) (by omega) ⟨by dsimp only [zKR, zrN] <;> omega, by dsimp only [zKR, zrN] <;> omega⟩ dX7_init_211 ?_
  refine zy_putRF zf_X7_85 rfl (fun C T N h => by cases (show (RX7, TX7, 50) = (C, T, N) from Option.some.inj h); rfl) (zO_gr _ hO) rfl dX7_init_213 ?_
  refine zWN_mem (μ := c_M7_25) ?_ rfl
  refine zy_aload_n dX7_init_216 rfl rfl ?_
  refine zy_iconst 5 dX7_init_217 (by decide) ?_
  refine zy_newD (kn2 := 2574) (37) (5) (H 37 rfl).1 (H 37 rfl).2.1 ((H 37 rfl).2.2 (by decide)) (c_M7_z25 37 (by decide)) rfl (by omega) (show _ = 26 from by omega) (by omega) ⟨by dsimp only [zKR, zrN] <;> omega, by dsimp only [zKR, zrN] <;> omega⟩ dX7_init_218 ?_
  refine zy_putRF zf_X7_88 rfl (fun C T N h => by cases (show (RX7, TX7, 50) = (C, T, N) from Option.some.inj h); rfl) (zO_gr _ hO) rfl dX7_init_220 ?_
  refine zWN_mem (μ := c_M7_26) ?_ rfl
  refine zy_aload_n dX7_init_223 rfl rfl ?_
  refine zy_iconst 5 dX7_init_224 (by decide) ?_
  refine zy_newD (kn2 := 2579) (38) (5) (H 38 rfl).1 (H 38 rfl).2.1 ((H 38 rfl).2.2 (by decide)) (c_M7_z26 38 (by decide)) rfl (by omega) (show _ = 27 from by omega) (by omega) ⟨by dsimp only [zKR, zrN] <;> omega, by dsimp only [zKR, zrN] <;> omega⟩ dX7_init_225 ?_
  refine zy_putRF zf_X7_91 rfl (fun C T N h => by cases (show (RX7, TX7, 50) = (C, T, N) from Option.some.inj h); rfl) (zO_gr _ hO) rfl dX7_init_227 ?_
  refine zWN_mem (μ := c_M7_27) ?_ rfl
  refine zy_aload_n dX7_init_230 rfl rfl ?_
  refine zy_iconst 4 dX7_init_231 (by decide) ?_
  refine zy_newI (kn2 := 2583) (42) (4) (H 42 rfl).1 (H 42 rfl).2.1 ((H 42 rfl).2.2 (by decide)) (c_M7_z27 42 (by decide)) rfl (by omega) (show _ = 28 from by omega) (by omega) ⟨by dsimp only [zKR, zrN] <;> omega, by dsimp only [zKR, zrN] <;> omega⟩ dX7_init_232 ?_
  refine zy_putRF zf_X7_94 rfl (fun C T N h => by cases (show (RX7, TX7, 50) = (C, T, N) from Option.some.inj h); rfl) (zO_gr _ hO) rfl dX7_init_234 ?_
  refine zWN_mem (μ := c_M7_28) ?_ rfl
  refine zy_aload_n dX7_init_237 rfl rfl ?_
  refine zy_sipush 576 dX7_init_238 (by decide) ?_
  refine zy_newL (kn2 := 3159) (43) (576) (H 43 rfl).1 (H 43 rfl).2.1 ((H 43 rfl).2.2 (by decide)) (c_M7_z28 43 (by decide)) rfl (by omega) (show _ = 29 from by omega) (by omega) ⟨by dsimp only [zKR, zrN] <;> omega, by dsimp only [zKR, zrN] <;> omega⟩ dX7_init_241 ?_
  refine zy_putRF zf_X7_97 rfl (fun C T N h => by cases (show (RX7, TX7, 50) = (C, T, N) from Option.some.inj h); rfl) (zO_gr _ hO) rfl dX7_init_243 ?_
  refine zWN_mem (μ := c_M7_29) ?_ rfl
  refine zy_aload_n dX7_init_246 rfl rfl ?_
  refine zy_sipush 576 dX7_init_247 (by decide) ?_
  refine zy_newD (kn2 := 3735) (44) (576) (H 44 rfl).1 (H 44 rfl).2.1 ((H 44 rfl).2.2 (by decide)) (c_M7_z29 44 (by decide)) rfl (by omega) (show _ = 30 from by omega) (by omega) ⟨by dsimp only [zKR, zrN] <;> omega, by dsimp only [zKR, zrN] <;> omega⟩ dX7_init_250 ?_
  refine zy_putRF zf_X7_100 rfl (fun C T N h => by cases (show (RX7, TX7, 50) = (C, T, N) from Option.some.inj h); rfl) (zO_gr _ hO) rfl dX7_init_252 ?_
  refine zWN_mem (μ := c_M7_30) ?_ rfl
  refine zy_aload_n dX7_init_255 rfl rfl ?_
  refine zy_sipush 576 dX7_init_256 (by decide) ?_
  refine zy_newD (kn2 := 4311) (45) (576) (H 45 rfl).1 (H 45 rfl).2.1 ((H 45 rfl).2.2 (by decide)) (c_M7_z30 45 (by decide)) rfl (by omega) (show _ = 31 from by omega) (by omega) ⟨by dsimp only [zKR, zrN] <;> omega, by dsimp only [zKR, zrN] <;> omega⟩ dX7_init_259 ?_
  refine zy_putRF zf_X7_103 rfl (fun C T N h => by cases (show (RX7, TX7, 50) = (C, T, N) from Option.some.inj h); rfl) (zO_gr _ hO) rfl dX7_init_261 ?_
  refine zWN_mem (μ := c_M7_31) ?_ rfl
  refine zy_aload_n dX7_init_264 rfl rfl ?_
  refine zy_sipush 576 dX7_init_265 (by decide) ?_
  refine zy_newD (kn2 := 4887) (46) (576) (H 46 rfl).1 (H 46 rfl).2.1 ((H 46 rfl).2.2 (by decide)) (c_M7_z31 46 (by decide)) rfl (by omega) (show _ = 32 from by omega) (by omega) ⟨by dsimp only [zKR, zrN] <;> omega, by dsimp only [zKR, zrN] <;> omega⟩ dX7_init_268 ?_
  refine zy_putRF zf_X7_106 rfl (fun C T N h => by cases (show (RX7, TX7, 50) = (C, T, N) from Option.some.inj h); rfl) (zO_gr _ hO) rfl dX7_init_270 ?_
  refine zWN_mem (μ := c_M7_32) ?_ rfl
  refine zy_aload_n dX7_init_273 rfl rfl ?_
  refine zy_sipush 1344 dX7_init_274 (by decide) ?_
  refine zy_newD (kn2 := 6231) (47) (1344) (H 47 rfl).1 (H 47 rfl).2.1 ((H 47 rfl).2.2 (by decide)) (c_M7_z32 47 (by decide)) rfl (by omega) (show _ = 33 from by omega) (by omega) ⟨by dsimp only [zKR, zrN] <;> omega, by dsimp only [zKR, zrN] <;> omega⟩ dX7_init_277 ?_
  refine zy_putRF zf_X7_109 rfl (fun C T N h => by cases (show (RX7, TX7, 50) = (C, T, N) from Option.some.inj h); rfl) (zO_gr _ hO) rfl dX7_init_279 ?_
  refine zWN_mem (μ := c_M7_33) ?_ rfl
  refine zy_aload_n dX7_init_282 rfl rfl ?_
  refine zy_bipush 16 dX7_init_283 (by decide) ?_
  refine zy_newL (kn2 := 6247) (48) (16) (H 48 rfl).1 (H 48 rfl).2.1 ((H 48 rfl).2.2 (by decide)) (c_M7_z33 48 (by decide)) rfl (by omega) (show _ = 34 from by omega) (by omega) ⟨by dsimp only [zKR, zrN] <;> omega, by dsimp only [zKR, zrN] <;> omega⟩ dX7_init_285 ?_
  refine zy_putRF zf_X7_112 rfl (fun C T N h => by cases (show (RX7, TX7, 50) = (C, T, N) from Option.some.inj h); rfl) (zO_gr _ hO) rfl dX7_init_287 ?_
  refine zWN_mem (μ := c_M7_34) ?_ rfl
  refine zy_aload_n dX7_init_290 rfl rfl ?_
  refine zy_iconst 4 dX7_init_291 (by decide) ?_
  refine zy_newL (kn2 := 6251) (49) (4) (H 49 rfl).1 (H 49 rfl).2.1 ((H 49 rfl).2.2 (by decide)) (c_M7_z34 49 (by decide)) rfl (by omega) (show _ = 35 from by omega) (by omega) ⟨by dsimp only [zKR, zrN] <;> omega, by dsimp only [zKR, zrN] <;> omega⟩ dX7_init_292 ?_
  refine zy_putRF zf_X7_115 rfl (fun C T N h => by cases (show (RX7, TX7, 50) = (C, T, N) from Option.some.inj h); rfl) (zO_gr _ hO) rfl dX7_init_294 ?_
  refine zWN_mem (μ := c_M7_35) ?_ rfl
  refine zy_aload_n dX7_init_297 rfl rfl ?_
  refine zy_iconst 4 dX7_init_298 (by decide) ?_
  refine zy_newD (kn2 := 6255) (50) (4) (H 50 rfl).1 (H 50 rfl).2.1 ((H 50 rfl).2.2 (by decide)) (c_M7_z35 50 (by decide)) rfl (by omega) (show _ = 36 from by omega) (by omega) ⟨by dsimp only [zKR, zrN] <;> omega, by dsimp only [zKR, zrN] <;> omega⟩ dX7_init_299 ?_
  refine zy_putRF zf_X7_118 rfl (fun C T N h => by cases (show (RX7, TX7, 50) = (C, T, N) from Option.some.inj h); rfl) (zO_gr _ hO) rfl dX7_init_301 ?_
  refine zWN_mem (μ := c_M7_36) ?_ rfl
  exact zWN_to k304 ⟨rfl, rfl, rfl, rfl, trivial⟩
