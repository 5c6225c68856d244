abbrev k0 : UInt64 := 0
abbrev k1 : UInt64 := 4607182418800017408
abbrev k3 : UInt64 := 4613937818241073152
abbrev k4 : UInt64 := 4616189618054758400
abbrev k05 : UInt64 := 4602678819172646912
abbrev k0001 : UInt64 := 4562254508917369340
abbrev k02 : UInt64 := 4596373779694328218
abbrev k8 : UInt64 := 4620693217682128896
abbrev k12 : UInt64 := 4622945017495814144
abbrev k34 : UInt64 := 4629981891913580544
abbrev k35 : UInt64 := 4630122629401935872
abbrev k10 : UInt64 := 4621819117588971520
abbrev k1000 : UInt64 := 4652007308841189376
abbrev kg : UInt64 := 4576808701761150024
abbrev kw : UInt64 := 4532020583610935537
abbrev kf : UInt64 := 4566758108544739836
abbrev k3600 : UInt64 := 4660134898793709568
abbrev k025 : UInt64 := 4598175219545276416
def s_max32 (x y : Int32) : Int32 := if x < y then y else x
set_option maxHeartbeats 4000000 in
set_option maxRecDepth 100000 in
theorem m_J9_max_7cf53 {g : ZG} {μ : ZMem} {x y : Int32} : zCab g RJ9 yJ9_max_7cf53 cJ9_max_7cf53 2 ((some FieldType.int)) (zrm 0) [zi x, zi y] μ (some (zi (s_max32 x y))) μ := by
  refine zCab_w (by decide +kernel) rfl (Nat.le_of_ble_eq_true rfl) ?_
  refine zx_iload_n dJ9_max_7cf53_0 rfl rfl ?_
  refine zx_iload_n dJ9_max_7cf53_1 rfl rfl ?_
  refine zx_icmp_lt (tgt := 9) dJ9_max_7cf53_2 (by decide) (fun c_2 => ?_) (fun c_2 => ?_)
  · skip
    refine zx_iload_n dJ9_max_7cf53_9 rfl rfl ?_
    exact zx_ireturn rfl (by first | rfl | simp [zKa, zKm, s_max32, zI_sI, zI_sL, zI_sD, zI_sR, zL_sI, zL_sL, zL_sD, zL_sR, zD_sI, zD_sL, zD_sD, zD_sR, zR_sI, zR_sL, zR_sD, zR_sR, c_2]) (by rfl) dJ9_max_7cf53_10
  · skip
    refine zx_iload_n dJ9_max_7cf53_5 rfl rfl ?_
    refine zx_goto (tgt := 10) dJ9_max_7cf53_6 (by decide) ?_
    exact zx_ireturn rfl (by first | rfl | simp [zKa, zKm, s_max32, zI_sI, zI_sL, zI_sD, zI_sR, zL_sI, zL_sL, zL_sD, zL_sR, zD_sI, zD_sL, zD_sD, zD_sR, zR_sI, zR_sL, zR_sD, zR_sR, c_2]) (by rfl) dJ9_max_7cf53_10

def s_max64 (x y : Int64) : Int64 := if x < y then y else x
set_option maxHeartbeats 4000000 in
set_option maxRecDepth 100000 in
theorem m_J9_max_f86c9 {g : ZG} {μ : ZMem} {x y : Int64} : zCab g RJ9 yJ9_max_f86c9 cJ9_max_f86c9 4 ((some FieldType.long)) (zrm 0) [zl x, zl y] μ (some (zl (s_max64 x y))) μ := by
  refine zCab_w (by decide +kernel) rfl (Nat.le_of_ble_eq_true rfl) ?_
  refine zx_lload_n dJ9_max_f86c9_0 rfl rfl ?_
  refine zx_lload_n dJ9_max_f86c9_1 rfl rfl ?_
  refine zx_lc_lt (tgt := 10) dJ9_max_f86c9_2 dJ9_max_f86c9_3 (by decide) (fun c_2 => ?_) (fun c_2 => ?_)
  · skip
    refine zx_lload_n dJ9_max_f86c9_10 rfl rfl ?_
    exact zx_lreturn rfl (by first | rfl | simp [zKa, zKm, s_max64, zI_sI, zI_sL, zI_sD, zI_sR, zL_sI, zL_sL, zL_sD, zL_sR, zD_sI, zD_sL, zD_sD, zD_sR, zR_sI, zR_sL, zR_sD, zR_sR, c_2]) (by rfl) dJ9_max_f86c9_11
  · skip
    refine zx_lload_n dJ9_max_f86c9_6 rfl rfl ?_
    refine zx_goto (tgt := 11) dJ9_max_f86c9_7 (by decide) ?_
    exact zx_lreturn rfl (by first | rfl | simp [zKa, zKm, s_max64, zI_sI, zI_sL, zI_sD, zI_sR, zL_sI, zL_sL, zL_sD, zL_sR, zD_sI, zD_sL, zD_sD, zD_sR, zR_sI, zR_sL, zR_sD, zR_sR, c_2]) (by rfl) dJ9_max_f86c9_11

def s_min32 (x y : Int32) : Int32 := if y < x then y else x
set_option maxHeartbeats 4000000 in
set_option maxRecDepth 100000 in
theorem m_J9_min_7cf53 {g : ZG} {μ : ZMem} {x y : Int32} : zCab g RJ9 yJ9_min_7cf53 cJ9_min_7cf53 2 ((some FieldType.int)) (zrm 0) [zi x, zi y] μ (some (zi (s_min32 x y))) μ := by
  refine zCab_w (by decide +kernel) rfl (Nat.le_of_ble_eq_true rfl) ?_
  refine zx_iload_n dJ9_min_7cf53_0 rfl rfl ?_
  refine zx_iload_n dJ9_min_7cf53_1 rfl rfl ?_
  refine zx_icmp_gt (tgt := 9) dJ9_min_7cf53_2 (by decide) (fun c_2 => ?_) (fun c_2 => ?_)
  · skip
    refine zx_iload_n dJ9_min_7cf53_9 rfl rfl ?_
    exact zx_ireturn rfl (by first | rfl | simp [zKa, zKm, s_min32, zI_sI, zI_sL, zI_sD, zI_sR, zL_sI, zL_sL, zL_sD, zL_sR, zD_sI, zD_sL, zD_sD, zD_sR, zR_sI, zR_sL, zR_sD, zR_sR, c_2]) (by rfl) dJ9_min_7cf53_10
  · skip
    refine zx_iload_n dJ9_min_7cf53_5 rfl rfl ?_
    refine zx_goto (tgt := 10) dJ9_min_7cf53_6 (by decide) ?_
    exact zx_ireturn rfl (by first | rfl | simp [zKa, zKm, s_min32, zI_sI, zI_sL, zI_sD, zI_sR, zL_sI, zL_sL, zL_sD, zL_sR, zD_sI, zD_sL, zD_sD, zD_sR, zR_sI, zR_sL, zR_sD, zR_sR, c_2]) (by rfl) dJ9_min_7cf53_10

def s_min64 (x y : Int64) : Int64 := if y < x then y else x
set_option maxHeartbeats 4000000 in
set_option maxRecDepth 100000 in
theorem m_J9_min_f86c9 {g : ZG} {μ : ZMem} {x y : Int64} : zCab g RJ9 yJ9_min_f86c9 cJ9_min_f86c9 4 ((some FieldType.long)) (zrm 0) [zl x, zl y] μ (some (zl (s_min64 x y))) μ := by
  refine zCab_w (by decide +kernel) rfl (Nat.le_of_ble_eq_true rfl) ?_
  refine zx_lload_n dJ9_min_f86c9_0 rfl rfl ?_
  refine zx_lload_n dJ9_min_f86c9_1 rfl rfl ?_
  refine zx_lc_gt (tgt := 10) dJ9_min_f86c9_2 dJ9_min_f86c9_3 (by decide) (fun c_2 => ?_) (fun c_2 => ?_)
  · skip
    refine zx_lload_n dJ9_min_f86c9_10 rfl rfl ?_
    exact zx_lreturn rfl (by first | rfl | simp [zKa, zKm, s_min64, zI_sI, zI_sL, zI_sD, zI_sR, zL_sI, zL_sL, zL_sD, zL_sR, zD_sI, zD_sL, zD_sD, zD_sR, zR_sI, zR_sL, zR_sD, zR_sR, c_2]) (by rfl) dJ9_min_f86c9_11
  · skip
    refine zx_lload_n dJ9_min_f86c9_6 rfl rfl ?_
    refine zx_goto (tgt := 11) dJ9_min_f86c9_7 (by decide) ?_
    exact zx_lreturn rfl (by first | rfl | simp [zKa, zKm, s_min64, zI_sI, zI_sL, zI_sD, zI_sR, zL_sI, zL_sL, zL_sD, zL_sR, zD_sI, zD_sL, zD_sD, zD_sR, zR_sI, zR_sL, zR_sD, zR_sR, c_2]) (by rfl) dJ9_min_f86c9_11

def s_fmod (x y : Int64) : Int64 := if (x ^^^ y) < 0 then (if x - x / y * y = 0 then x - x / y * y else x - x / y * y + y) else x - x / y * y
set_option maxHeartbeats 4000000 in
set_option maxRecDepth 100000 in
theorem m_X6_noReading {g : ZG} {μ : ZMem} : zCab g RX6 yX6_noReading cX6_noReading 0 ((some FieldType.double)) (zrm 0) [] μ (some (zd 13920209183539462144)) μ := by
  refine zCab_w (by decide +kernel) rfl (Nat.le_of_ble_eq_true rfl) ?_
  refine zx_ldc2d 13920209183539462144 zk_X6_312 (by decide +kernel) dX6_noReading_0 ?_
  exact zx_dreturn rfl (by rfl) (by rfl) dX6_noReading_3

def s_between (x n : Int32) : Int32 := s_max32 1 (s_min32 x n)
set_option maxHeartbeats 4000000 in
set_option maxRecDepth 100000 in
theorem m_X6_between {g : ZG} {μ : ZMem} {x n : Int32} : zCab g RX6 yX6_between cX6_between 2 ((some FieldType.int)) (zrm 1) [zi x, zi n] μ (some (zi (s_between x n))) μ := by
  refine zCab_w (by decide +kernel) rfl (Nat.le_of_ble_eq_true rfl) ?_
  refine zx_iconst 1 dX6_between_0 (by decide) ?_
  refine zx_iload_n dX6_between_1 rfl rfl ?_
  refine zx_iload_n dX6_between_2 rfl rfl ?_
  refine zx_callS1 _ zs_X6_314 m_J9_min_7cf53 rfl rfl ⟨rfl, rfl, (Nat.le_of_ble_eq_true rfl), (Nat.le_of_ble_eq_true rfl)⟩ (Nat.le_of_ble_eq_true rfl) dX6_between_3 ?_
  refine zx_callS1 _ zs_X6_317 m_J9_max_7cf53 rfl rfl ⟨rfl, rfl, (Nat.le_of_ble_eq_true rfl), (Nat.le_of_ble_eq_true rfl)⟩ (Nat.le_of_ble_eq_true rfl) dX6_between_6 ?_
  exact zx_ireturn rfl (by rfl) (by rfl) dX6_between_9

def s_inside (v a c : UInt64) : Int32 := if zge v a = true then (if zle v c = true then 1 else 0) else 0
set_option maxHeartbeats 4000000 in
set_option maxRecDepth 100000 in
theorem m_X6_inside {g : ZG} {μ : ZMem} {v a c : UInt64} : zCab g RX6 yX6_inside cX6_inside 6 ((some FieldType.boolean)) (zrm 0) [zd v, zd a, zd c] μ (some (zi (s_inside v a c))) μ := by
  refine zCab_w (by decide +kernel) rfl (Nat.le_of_ble_eq_true rfl) ?_
  refine zx_dload_n dX6_inside_0 rfl rfl ?_
  refine zx_dload_n dX6_inside_1 rfl rfl ?_
  refine zx_dl_lt (tgt := 17) dX6_inside_2 dX6_inside_3 (by decide) (fun c_2 => ?_) (fun c_2 => ?_)
  · skip
    refine zx_iconst 0 dX6_inside_17 (by decide) ?_
    exact zx_zreturn rfl (by decide +kernel) (by first | rfl | simp [zKa, zKm, s_inside, zI_sI, zI_sL, zI_sD, zI_sR, zL_sI, zL_sL, zL_sD, zL_sR, zD_sI, zD_sL, zD_sD, zD_sR, zR_sI, zR_sL, zR_sD, zR_sR, c_2]) (by rfl) dX6_inside_18
  · skip
    refine zx_dload_n dX6_inside_6 rfl rfl ?_
    refine zx_dload dX6_inside_7 rfl ?_
    refine zx_dg_gt (tgt := 17) dX6_inside_9 dX6_inside_10 (by decide) (fun c_9 => ?_) (fun c_9 => ?_)
    · skip
      refine zx_iconst 0 dX6_inside_17 (by decide) ?_
      exact zx_zreturn rfl (by decide +kernel) (by first | rfl | simp [zKa, zKm, s_inside, zI_sI, zI_sL, zI_sD, zI_sR, zL_sI, zL_sL, zL_sD, zL_sR, zD_sI, zD_sL, zD_sD, zD_sR, zR_sI, zR_sL, zR_sD, zR_sR, c_2, c_9]) (by rfl) dX6_inside_18
    · skip
      refine zx_iconst 1 dX6_inside_13 (by decide) ?_
      refine zx_goto (tgt := 18) dX6_inside_14 (by decide) ?_
      exact zx_zreturn rfl (by decide +kernel) (by first | rfl | simp [zKa, zKm, s_inside, zI_sI, zI_sL, zI_sD, zI_sR, zL_sI, zL_sL, zL_sD, zL_sR, zD_sI, zD_sL, zD_sD, zD_sR, zR_sI, zR_sL, zR_sD, zR_sR, c_2, c_9]) (by rfl) dX6_inside_18

def s_sizeOf (v : UInt64) : UInt64 := if zlt v k0 = true then zneg v else v
set_option maxHeartbeats 4000000 in
set_option maxRecDepth 100000 in
theorem m_X6_sizeOf {g : ZG} {μ : ZMem} {v : UInt64} : zCab g RX6 yX6_sizeOf cX6_sizeOf 2 ((some FieldType.double)) (zrm 0) [zd v] μ (some (zd (s_sizeOf v))) μ := by
  refine zCab_w (by decide +kernel) rfl (Nat.le_of_ble_eq_true rfl) ?_
  refine zx_dload_n dX6_sizeOf_0 rfl rfl ?_
  refine zx_dconst0 dX6_sizeOf_1 ?_
  refine zx_dg_ge (tgt := 11) dX6_sizeOf_2 dX6_sizeOf_3 (by decide) (fun c_2 => ?_) (fun c_2 => ?_)
  · skip
    refine zx_dload_n dX6_sizeOf_11 rfl rfl ?_
    exact zx_dreturn rfl (by first | rfl | simp [zKa, zKm, s_sizeOf, zI_sI, zI_sL, zI_sD, zI_sR, zL_sI, zL_sL, zL_sD, zL_sR, zD_sI, zD_sL, zD_sD, zD_sR, zR_sI, zR_sL, zR_sD, zR_sR, c_2]) (by rfl) dX6_sizeOf_12
  · skip
    refine zx_dload_n dX6_sizeOf_6 rfl rfl ?_
    refine zx_dneg dX6_sizeOf_7 ?_
    refine zx_goto (tgt := 12) dX6_sizeOf_8 (by decide) ?_
    exact zx_dreturn rfl (by first | rfl | simp [zKa, zKm, s_sizeOf, zI_sI, zI_sL, zI_sD, zI_sR, zL_sI, zL_sL, zL_sD, zL_sR, zD_sI, zD_sL, zD_sD, zD_sR, zR_sI, zR_sL, zR_sD, zR_sR, c_2]) (by rfl) dX6_sizeOf_12

def s_sawf (u : UInt64) : UInt64 := zsub u (FP.l2d (FP.d2l u))
def s_saw (u : UInt64) : UInt64 := if zlt (s_sawf u) k05 = true then zsub k1 (zmul k4 (s_sawf u)) else zsub (zmul k4 (s_sawf u)) k3
set_option maxHeartbeats 4000000 in
set_option maxRecDepth 100000 in
theorem m_X6_saw {g : ZG} {μ : ZMem} {u : UInt64} : zCab g RX6 yX6_saw cX6_saw 4 ((some FieldType.double)) (zrm 0) [zd u] μ (some (zd (s_saw u))) μ := by
  refine zCab_w (by decide +kernel) rfl (Nat.le_of_ble_eq_true rfl) ?_
  refine zx_dload_n dX6_saw_0 rfl rfl ?_
  refine zx_dload_n dX6_saw_1 rfl rfl ?_
  refine zx_d2l dX6_saw_2 ?_
  refine zx_l2d dX6_saw_3 ?_
  refine zx_dsub dX6_saw_4 ?_
  refine zx_dstore_n dX6_saw_5 rfl (Nat.le_of_ble_eq_true rfl) ?_
  refine zx_dload_n dX6_saw_6 rfl rfl ?_
  refine zx_ldc2d 4602678819172646912 zk_X6_186 (by decide +kernel) dX6_saw_7 ?_
  refine zx_dg_ge (tgt := 24) dX6_saw_10 dX6_saw_11 (by decide) (fun c_10 => ?_) (fun c_10 => ?_)
  · skip
    refine zx_ldc2d 4616189618054758400 zk_X6_320 (by decide +kernel) dX6_saw_24 ?_
    refine zx_dload_n dX6_saw_27 rfl rfl ?_
    refine zx_dmul dX6_saw_28 ?_
    refine zx_ldc2d 4613937818241073152 zk_X6_322 (by decide +kernel) dX6_saw_29 ?_
    refine zx_dsub dX6_saw_32 ?_
    exact zx_dreturn rfl (by first | (show some (zd _) = _; unfold s_saw s_sawf; rw [if_pos c_10]) | (show some (zd _) = _; unfold s_saw s_sawf; rw [if_neg (by rw [c_10]; decide)])) (by rfl) dX6_saw_33
  · skip
    refine zx_dconst1 dX6_saw_14 ?_
    refine zx_ldc2d 4616189618054758400 zk_X6_320 (by decide +kernel) dX6_saw_15 ?_
    refine zx_dload_n dX6_saw_18 rfl rfl ?_
    refine zx_dmul dX6_saw_19 ?_
    refine zx_dsub dX6_saw_20 ?_
    refine zx_goto (tgt := 33) dX6_saw_21 (by decide) ?_
    exact zx_dreturn rfl (by first | (show some (zd _) = _; unfold s_saw s_sawf; rw [if_pos c_10]) | (show some (zd _) = _; unfold s_saw s_sawf; rw [if_neg (by rw [c_10]; decide)])) (by rfl) dX6_saw_33

def s_limbOf (v : Int64) (n : Int32) : Int64 := if n = 0 then v &&& 4294967295 else if n = 1 then v >>> ((32 : Int32).toInt64 &&& 63) else -1
set_option maxHeartbeats 4000000 in
set_option maxRecDepth 100000 in
theorem m_X6_limbOf {g : ZG} {μ : ZMem} {v : Int64} {n : Int32} : zCab g RX6 yX6_limbOf cX6_limbOf 3 ((some FieldType.long)) (zrm 0) [zl v, zi n] μ (some (zl (s_limbOf v n))) μ := by
  refine zCab_w (by decide +kernel) rfl (Nat.le_of_ble_eq_true rfl) ?_
  refine zx_iload_n dX6_limbOf_0 rfl rfl ?_
  refine zx_if_ne (tgt := 10) dX6_limbOf_1 (by decide) (fun c_1 => ?_) (fun c_1 => ?_)
  · skip
    refine zx_iload_n dX6_limbOf_10 rfl rfl ?_
    refine zx_iconst 1 dX6_limbOf_11 (by decide) ?_
    refine zx_icmp_ne (tgt := 22) dX6_limbOf_12 (by decide) (fun c_12 => ?_) (fun c_12 => ?_)
    · skip
      refine zx_ldc2l (-1) zk_X6_175 dX6_limbOf_22 ?_
      exact zx_lreturn rfl (by first | rfl | simp [zKa, zKm, s_limbOf, zI_sI, zI_sL, zI_sD, zI_sR, zL_sI, zL_sL, zL_sD, zL_sR, zD_sI, zD_sL, zD_sD, zD_sR, zR_sI, zR_sL, zR_sD, zR_sR, c_1, c_12]) (by rfl) dX6_limbOf_25
    · skip
      refine zx_lload_n dX6_limbOf_15 rfl rfl ?_
      refine zx_bipush 32 dX6_limbOf_16 (by decide) ?_
      refine zx_lshr dX6_limbOf_18 ?_
      refine zx_goto (tgt := 25) dX6_limbOf_19 (by decide) ?_
      exact zx_lreturn rfl (by first | rfl | simp [zKa, zKm, s_limbOf, zI_sI, zI_sL, zI_sD, zI_sR, zL_sI, zL_sL, zL_sD, zL_sR, zD_sI, zD_sL, zD_sD, zD_sR, zR_sI, zR_sL, zR_sD, zR_sR, c_1, c_12]) (by rfl) dX6_limbOf_25
  · skip
    refine zx_lload_n dX6_limbOf_4 rfl rfl ?_
    refine zx_ldc2l 4294967295 zk_X6_310 dX6_limbOf_5 ?_
    refine zx_land dX6_limbOf_8 ?_
    exact zx_lreturn rfl (by first | rfl | simp [zKa, zKm, s_limbOf, zI_sI, zI_sL, zI_sD, zI_sR, zL_sI, zL_sL, zL_sD, zL_sR, zD_sI, zD_sL, zD_sD, zD_sR, zR_sI, zR_sL, zR_sD, zR_sR, c_1]) (by rfl) dX6_limbOf_9

def s_surface (μ : ZMem) (c : Nat) : UInt64 := zsub (zmul (FP.l2d (zL μ c 2)) k0001) (zD μ c 1)
set_option maxHeartbeats 4000000 in
set_option maxRecDepth 100000 in
theorem m_X0_surface {g : ZG} {μ : ZMem} {c : Nat} (hO : zO g 0 c) : zCab g RX0 yX0_surface cX0_surface 1 ((some FieldType.double)) (zrm 0) [zr (some c)] μ (some (zd (s_surface μ c))) μ := by
  refine zCab_w (by decide +kernel) rfl (Nat.le_of_ble_eq_true rfl) ?_
  refine zx_aload_n dX0_surface_0 rfl rfl ?_
  refine zx_getL zf_X0_21 (by assumption) rfl dX0_surface_1 ?_
  refine zx_l2d dX0_surface_4 ?_
  refine zx_ldc2d 4562254508917369340 zk_X0_47 (by decide +kernel) dX0_surface_5 ?_
  refine zx_dmul dX0_surface_8 ?_
  refine zx_aload_n dX0_surface_9 rfl rfl ?_
  refine zx_getD zf_X0_15 (by assumption) rfl dX0_surface_10 ?_
  refine zx_dsub dX0_surface_13 ?_
  exact zx_dreturn rfl (by rfl) (by rfl) dX0_surface_14

def s_isDry (μ : ZMem) (c : Nat) : Int32 := if zL μ c 2 < 50 then 1 else 0
set_option maxHeartbeats 4000000 in
set_option maxRecDepth 100000 in
theorem m_X0_isDry {g : ZG} {μ : ZMem} {c : Nat} (hO : zO g 0 c) : zCab g RX0 yX0_isDry cX0_isDry 1 ((some FieldType.boolean)) (zrm 0) [zr (some c)] μ (some (zi (s_isDry μ c))) μ := by
  refine zCab_w (by decide +kernel) rfl (Nat.le_of_ble_eq_true rfl) ?_
  refine zx_aload_n dX0_isDry_0 rfl rfl ?_
  refine zx_getL zf_X0_21 (by assumption) rfl dX0_isDry_1 ?_
  refine zx_ldc2l 50 zk_X0_49 dX0_isDry_4 ?_
  refine zx_lc_ge (tgt := 15) dX0_isDry_7 dX0_isDry_8 (by decide) (fun c_7 => ?_) (fun c_7 => ?_)
  · skip
    refine zx_iconst 0 dX0_isDry_15 (by decide) ?_
    exact zx_zreturn rfl (by decide +kernel) (by first | rfl | simp [zKa, zKm, s_isDry, zI_sI, zI_sL, zI_sD, zI_sR, zL_sI, zL_sL, zL_sD, zL_sR, zD_sI, zD_sL, zD_sD, zD_sR, zR_sI, zR_sL, zR_sD, zR_sR, c_7]) (by rfl) dX0_isDry_16
  · skip
    refine zx_iconst 1 dX0_isDry_11 (by decide) ?_
    refine zx_goto (tgt := 16) dX0_isDry_12 (by decide) ?_
    exact zx_zreturn rfl (by decide +kernel) (by first | rfl | simp [zKa, zKm, s_isDry, zI_sI, zI_sL, zI_sD, zI_sR, zL_sI, zL_sL, zL_sD, zL_sR, zD_sI, zD_sL, zD_sD, zD_sR, zR_sI, zR_sL, zR_sD, zR_sR, c_7]) (by rfl) dX0_isDry_16

def u_beginStep (μ : ZMem) (c : Nat) : ZMem := zsD (zsD (zsD (zsD (zsL μ c 10 (zL μ c 2)) c 11 (s_surface μ c)) c 12 (zmul (zD μ c 3) (FP.l2d (zL μ c 2)))) c 13 (zmul (zD μ c 4) (FP.l2d (zL μ c 2)))) c 14 0
set_option maxHeartbeats 4000000 in
set_option maxRecDepth 100000 in
theorem m_X0_beginStep {g : ZG} {μ : ZMem} {c : Nat} (hO : zO g 0 c) : zCab g RX0 yX0_beginStep cX0_beginStep 1 (none) (zrm 1) [zr (some c)] μ none (u_beginStep μ c) := by
  refine zCab_w (by decide +kernel) rfl (Nat.le_of_ble_eq_true rfl) ?_
  refine zx_aload_n dX0_beginStep_0 rfl rfl ?_
  refine zx_aload_n dX0_beginStep_1 rfl rfl ?_
  refine zx_getL zf_X0_21 (by assumption) rfl dX0_beginStep_2 ?_
  refine zx_putL zf_X0_51 (by assumption) rfl dX0_beginStep_5 ?_
  refine zx_aload_n dX0_beginStep_8 rfl rfl ?_
  refine zx_aload_n dX0_beginStep_9 rfl rfl ?_
  refine zx_callV1 _ zv_X0_54 (m_X0_surface (by assumption)) (by assumption) (by decide) rfl rfl rfl ⟨rfl, rfl, (Nat.le_of_ble_eq_true rfl), (Nat.le_of_ble_eq_true rfl)⟩ (Nat.le_of_ble_eq_true rfl) dX0_beginStep_10 ?_
  refine zx_putD zf_X0_58 (by assumption) rfl dX0_beginStep_13 ?_
  refine zx_aload_n dX0_beginStep_16 rfl rfl ?_
  refine zx_aload_n dX0_beginStep_17 rfl rfl ?_
  refine zx_getD zf_X0_27 (by assumption) rfl dX0_beginStep_18 ?_
  refine zx_aload_n dX0_beginStep_21 rfl rfl ?_
  refine zx_getL zf_X0_21 (by assumption) rfl dX0_beginStep_22 ?_
  refine zx_l2d dX0_beginStep_25 ?_
  refine zx_dmul dX0_beginStep_26 ?_
  refine zx_putD zf_X0_61 (by assumption) rfl dX0_beginStep_27 ?_
  refine zx_aload_n dX0_beginStep_30 rfl rfl ?_
  refine zx_aload_n dX0_beginStep_31 rfl rfl ?_
  refine zx_getD zf_X0_32 (by assumption) rfl dX0_beginStep_32 ?_
  refine zx_aload_n dX0_beginStep_35 rfl rfl ?_
  refine zx_getL zf_X0_21 (by assumption) rfl dX0_beginStep_36 ?_
  refine zx_l2d dX0_beginStep_39 ?_
  refine zx_dmul dX0_beginStep_40 ?_
  refine zx_putD zf_X0_64 (by assumption) rfl dX0_beginStep_41 ?_
  refine zx_aload_n dX0_beginStep_44 rfl rfl ?_
  refine zx_dconst0 dX0_beginStep_45 ?_
  refine zx_putD zf_X0_67 (by assumption) rfl dX0_beginStep_46 ?_
  exact zx_return rfl rfl (by first | rfl | simp [zKa, zKm, u_beginStep, zI_sI, zI_sL, zI_sD, zI_sR, zL_sI, zL_sL, zL_sD, zL_sR, zD_sI, zD_sL, zD_sD, zD_sR, zR_sI, zR_sL, zR_sD, zR_sR, s_surface]) dX0_beginStep_49

def u_feel (μ : ZMem) (c : Nat) (v : UInt64) : ZMem := if zgt (s_sizeOf v) (zD μ c 14) = true then zsD μ c 14 (s_sizeOf v) else μ
set_option maxHeartbeats 4000000 in
set_option maxRecDepth 100000 in
theorem m_X0_feel {g : ZG} {μ : ZMem} {c : Nat} (hO : zO g 0 c) {v : UInt64} : zCab g RX0 yX0_feel cX0_feel 5 (none) (zrm 1) [zr (some c), zd v] μ none (u_feel μ c v) := by
  refine zCab_w (by decide +kernel) rfl (Nat.le_of_ble_eq_true rfl) ?_
  refine zx_dload_n dX0_feel_0 rfl rfl ?_
  refine zx_callN1 _ zn_X0_70 m_X6_sizeOf rfl rfl ⟨rfl, rfl, (Nat.le_of_ble_eq_true rfl), (Nat.le_of_ble_eq_true rfl)⟩ (Nat.le_of_ble_eq_true rfl) dX0_feel_1 ?_
  refine zx_dstore_n dX0_feel_4 rfl (Nat.le_of_ble_eq_true rfl) ?_
  refine zx_dload_n dX0_feel_5 rfl rfl ?_
  refine zx_aload_n dX0_feel_6 rfl rfl ?_
  refine zx_getD zf_X0_67 (by assumption) rfl dX0_feel_7 ?_
  refine zx_dl_le (tgt := 19) dX0_feel_10 dX0_feel_11 (by decide) (fun c_10 => ?_) (fun c_10 => ?_)
  · skip
    exact zx_return rfl rfl (by first | rfl | simp [zKa, zKm, u_feel, zI_sI, zI_sL, zI_sD, zI_sR, zL_sI, zL_sL, zL_sD, zL_sR, zD_sI, zD_sL, zD_sD, zD_sR, zR_sI, zR_sL, zR_sD, zR_sR, c_10]) dX0_feel_19
  · skip
    refine zx_aload_n dX0_feel_14 rfl rfl ?_
    refine zx_dload_n dX0_feel_15 rfl rfl ?_
    refine zx_putD zf_X0_67 (by assumption) rfl dX0_feel_16 ?_
    exact zx_return rfl rfl (by first | rfl | simp [zKa, zKm, u_feel, zI_sI, zI_sL, zI_sD, zI_sR, zL_sI, zL_sL, zL_sD, zL_sR, zD_sI, zD_sL, zD_sD, zD_sR, zR_sI, zR_sL, zR_sD, zR_sR, c_10]) dX0_feel_19

def u_gain (μ : ZMem) (c : Nat) (n : Int64) (a b : UInt64) : ZMem := zsD (zsD (zsL μ c 2 (zL μ c 2 + n)) c 12 (zadd (zD μ c 12) (zmul (FP.l2d n) a))) c 13 (zadd (zD μ c 13) (zmul (FP.l2d n) b))
set_option maxHeartbeats 4000000 in
set_option maxRecDepth 100000 in
theorem m_X0_gain {g : ZG} {μ : ZMem} {c : Nat} (hO : zO g 0 c) {n : Int64} {a b : UInt64} : zCab g RX0 yX0_gain cX0_gain 7 (none) (zrm 0) [zr (some c), zl n, zd a, zd b] μ none (u_gain μ c n a b) := by
  refine zCab_w (by decide +kernel) rfl (Nat.le_of_ble_eq_true rfl) ?_
  refine zx_aload_n dX0_gain_0 rfl rfl ?_
  refine zx_aload_n dX0_gain_1 rfl rfl ?_
  refine zx_getL zf_X0_21 (by assumption) rfl dX0_gain_2 ?_
  refine zx_lload_n dX0_gain_5 rfl rfl ?_
  refine zx_ladd dX0_gain_6 ?_
  refine zx_putL zf_X0_21 (by assumption) rfl dX0_gain_7 ?_
  refine zx_aload_n dX0_gain_10 rfl rfl ?_
  refine zx_aload_n dX0_gain_11 rfl rfl ?_
  refine zx_getD zf_X0_61 (by assumption) rfl dX0_gain_12 ?_
  refine zx_lload_n dX0_gain_15 rfl rfl ?_
  refine zx_l2d dX0_gain_16 ?_
  refine zx_dload_n dX0_gain_17 rfl rfl ?_
  refine zx_dmul dX0_gain_18 ?_
  refine zx_dadd dX0_gain_19 ?_
  refine zx_putD zf_X0_61 (by assumption) rfl dX0_gain_20 ?_
  refine zx_aload_n dX0_gain_23 rfl rfl ?_
  refine zx_aload_n dX0_gain_24 rfl rfl ?_
  refine zx_getD zf_X0_64 (by assumption) rfl dX0_gain_25 ?_
  refine zx_lload_n dX0_gain_28 rfl rfl ?_
  refine zx_l2d dX0_gain_29 ?_
  refine zx_dload dX0_gain_30 rfl ?_
  refine zx_dmul dX0_gain_32 ?_
  refine zx_dadd dX0_gain_33 ?_
  refine zx_putD zf_X0_64 (by assumption) rfl dX0_gain_34 ?_
  exact zx_return rfl rfl (by first | rfl | simp [zKa, zKm, u_gain, zI_sI, zI_sL, zI_sD, zI_sR, zL_sI, zL_sL, zL_sD, zL_sR, zD_sI, zD_sL, zD_sD, zD_sR, zR_sI, zR_sL, zR_sD, zR_sR]) dX0_gain_37

def u_lose (μ : ZMem) (c : Nat) (n : Int64) : ZMem := zsD (zsD (zsL μ c 2 (zL μ c 2 - n)) c 12 (zsub (zD μ c 12) (zmul (FP.l2d n) (zD μ c 3)))) c 13 (zsub (zD μ c 13) (zmul (FP.l2d n) (zD μ c 4)))
set_option maxHeartbeats 4000000 in
set_option maxRecDepth 100000 in
theorem m_X0_lose {g : ZG} {μ : ZMem} {c : Nat} (hO : zO g 0 c) {n : Int64} : zCab g RX0 yX0_lose cX0_lose 3 (none) (zrm 0) [zr (some c), zl n] μ none (u_lose μ c n) := by
  refine zCab_w (by decide +kernel) rfl (Nat.le_of_ble_eq_true rfl) ?_
  refine zx_aload_n dX0_lose_0 rfl rfl ?_
  refine zx_aload_n dX0_lose_1 rfl rfl ?_
  refine zx_getL zf_X0_21 (by assumption) rfl dX0_lose_2 ?_
  refine zx_lload_n dX0_lose_5 rfl rfl ?_
  refine zx_lsub dX0_lose_6 ?_
  refine zx_putL zf_X0_21 (by assumption) rfl dX0_lose_7 ?_
  refine zx_aload_n dX0_lose_10 rfl rfl ?_
  refine zx_aload_n dX0_lose_11 rfl rfl ?_
  refine zx_getD zf_X0_61 (by assumption) rfl dX0_lose_12 ?_
  refine zx_lload_n dX0_lose_15 rfl rfl ?_
  refine zx_l2d dX0_lose_16 ?_
  refine zx_aload_n dX0_lose_17 rfl rfl ?_
  refine zx_getD zf_X0_27 (by assumption) rfl dX0_lose_18 ?_
  refine zx_dmul dX0_lose_21 ?_
  refine zx_dsub dX0_lose_22 ?_
  refine zx_putD zf_X0_61 (by assumption) rfl dX0_lose_23 ?_
  refine zx_aload_n dX0_lose_26 rfl rfl ?_
  refine zx_aload_n dX0_lose_27 rfl rfl ?_
  refine zx_getD zf_X0_64 (by assumption) rfl dX0_lose_28 ?_
  refine zx_lload_n dX0_lose_31 rfl rfl ?_
  refine zx_l2d dX0_lose_32 ?_
  refine zx_aload_n dX0_lose_33 rfl rfl ?_
  refine zx_getD zf_X0_32 (by assumption) rfl dX0_lose_34 ?_
  refine zx_dmul dX0_lose_37 ?_
  refine zx_dsub dX0_lose_38 ?_
  refine zx_putD zf_X0_64 (by assumption) rfl dX0_lose_39 ?_
  exact zx_return rfl rfl (by first | rfl | simp [zKa, zKm, u_lose, zI_sI, zI_sL, zI_sD, zI_sR, zL_sI, zL_sL, zL_sD, zL_sR, zD_sI, zD_sL, zD_sD, zD_sR, zR_sI, zR_sL, zR_sD, zR_sR]) dX0_lose_42

def s_take (μ : ZMem) (c : Nat) (h : UInt64) : Int64 := if zI μ c 0 = 0 then 0 else FP.d2l (zmul (zD μ c 6) h)
def u_take (μ : ZMem) (c : Nat) (h : UInt64) : ZMem := if zI μ c 0 = 0 then μ else u_gain μ c (FP.d2l (zmul (zD μ c 6) h)) k12 0
set_option maxHeartbeats 4000000 in
set_option maxRecDepth 100000 in
theorem m_X0_takeRiver {g : ZG} {μ : ZMem} {c : Nat} (hO : zO g 0 c) {h : UInt64} : zCab g RX0 yX0_takeRiver cX0_takeRiver 5 ((some FieldType.long)) (zrm 1) [zr (some c), zd h] μ (some (zl (s_take μ c h))) (u_take μ c h) := by
  refine zCab_w (by decide +kernel) rfl (Nat.le_of_ble_eq_true rfl) ?_
  refine zx_aload_n dX0_takeRiver_0 rfl rfl ?_
  refine zx_getI zf_X0_9 (by assumption) (Or.inr rfl) dX0_takeRiver_1 ?_
  refine zx_if_ne (tgt := 9) dX0_takeRiver_4 (by decide) (fun c_4 => ?_) (fun c_4 => ?_)
  · skip
    refine zx_aload_n dX0_takeRiver_9 rfl rfl ?_
    refine zx_getD zf_X0_74 (by assumption) rfl dX0_takeRiver_10 ?_
    refine zx_dload_n dX0_takeRiver_13 rfl rfl ?_
    refine zx_dmul dX0_takeRiver_14 ?_
    refine zx_d2l dX0_takeRiver_15 ?_
    refine zx_lstore_n dX0_takeRiver_16 rfl (Nat.le_of_ble_eq_true rfl) ?_
    refine zx_aload_n dX0_takeRiver_17 rfl rfl ?_
    refine zx_lload_n dX0_takeRiver_18 rfl rfl ?_
    refine zx_ldc2d 4622945017495814144 zk_X0_77 (by decide +kernel) dX0_takeRiver_19 ?_
    refine zx_dconst0 dX0_takeRiver_22 ?_
    refine zx_callV0 _ zv_X0_79 (m_X0_gain (by assumption)) (by assumption) (by decide) rfl rfl rfl ⟨rfl, rfl, (Nat.le_of_ble_eq_true rfl), (Nat.le_of_ble_eq_true rfl)⟩ (Nat.le_of_ble_eq_true rfl) dX0_takeRiver_23 ?_
    refine zx_lload_n dX0_takeRiver_26 rfl rfl ?_
    exact zx_lreturn rfl (by first | rfl | simp [zKa, zKm, s_take, zI_sI, zI_sL, zI_sD, zI_sR, zL_sI, zL_sL, zL_sD, zL_sR, zD_sI, zD_sL, zD_sD, zD_sR, zR_sI, zR_sL, zR_sD, zR_sR, c_4]) (by first | rfl | simp [zKa, zKm, u_take, zI_sI, zI_sL, zI_sD, zI_sR, zL_sI, zL_sL, zL_sD, zL_sR, zD_sI, zD_sL, zD_sD, zD_sR, zR_sI, zR_sL, zR_sD, zR_sR, c_4]) dX0_takeRiver_27
  · skip
    refine zx_lconst 0 dX0_takeRiver_7 (by decide) ?_
    exact zx_lreturn rfl (by first | rfl | simp [zKa, zKm, s_take, zI_sI, zI_sL, zI_sD, zI_sR, zL_sI, zL_sL, zL_sD, zL_sR, zD_sI, zD_sL, zD_sD, zD_sR, zR_sI, zR_sL, zR_sD, zR_sR, c_4]) (by first | rfl | simp [zKa, zKm, u_take, zI_sI, zI_sL, zI_sD, zI_sR, zL_sI, zL_sL, zL_sD, zL_sR, zD_sI, zD_sL, zD_sD, zD_sR, zR_sI, zR_sL, zR_sD, zR_sR, c_4]) dX0_takeRiver_8

def s_isWater (μ : ZMem) (x : Option Nat) : Int32 := match x with
  | none => 0
  | some c => if zI μ c 0 = 0 then 0 else 1
set_option maxHeartbeats 4000000 in
set_option maxRecDepth 100000 in
theorem m_X1_isWater {g : ZG} {μ : ZMem} {x : Option Nat} (hx : ∀ c, x = some c → zO g 0 c) : zCab g RX1 yX1_isWater cX1_isWater 1 ((some FieldType.boolean)) (zrm 0) [zr x] μ (some (zi (s_isWater μ x))) μ := by
  refine zCab_w (by decide +kernel) rfl (Nat.le_of_ble_eq_true rfl) ?_
  refine zx_aload_n dX1_isWater_0 rfl rfl ?_
  refine zx_ifnull (tgt := 15) dX1_isWater_1 (by decide) (fun c_1 => ?_) (fun r_1 c_1 => ?_)
  · skip
    rw [c_1]
    refine zx_iconst 0 dX1_isWater_15 (by decide) ?_
    exact zx_zreturn rfl (by decide +kernel) (by first | rfl | simp [zKa, zKm, s_isWater, zI_sI, zI_sL, zI_sD, zI_sR, zL_sI, zL_sL, zL_sD, zL_sR, zD_sI, zD_sL, zD_sD, zD_sR, zR_sI, zR_sL, zR_sD, zR_sR, c_1]) (by rfl) dX1_isWater_16
  · skip
    have hO_1 := hx _ c_1
    rw [c_1]
    refine zx_aload_n dX1_isWater_4 rfl rfl ?_
    refine zx_getI zf_X1_34 (by assumption) (Or.inr rfl) dX1_isWater_5 ?_
    refine zx_if_eq (tgt := 15) dX1_isWater_8 (by decide) (fun c_8 => ?_) (fun c_8 => ?_)
    · skip
      refine zx_iconst 0 dX1_isWater_15 (by decide) ?_
      exact zx_zreturn rfl (by decide +kernel) (by first | rfl | simp [zKa, zKm, s_isWater, zI_sI, zI_sL, zI_sD, zI_sR, zL_sI, zL_sL, zL_sD, zL_sR, zD_sI, zD_sL, zD_sD, zD_sR, zR_sI, zR_sL, zR_sD, zR_sR, c_1, c_8]) (by rfl) dX1_isWater_16
    · skip
      refine zx_iconst 1 dX1_isWater_11 (by decide) ?_
      refine zx_goto (tgt := 16) dX1_isWater_12 (by decide) ?_
      exact zx_zreturn rfl (by decide +kernel) (by first | rfl | simp [zKa, zKm, s_isWater, zI_sI, zI_sL, zI_sD, zI_sR, zL_sI, zL_sL, zL_sD, zL_sR, zD_sI, zD_sL, zD_sD, zD_sR, zR_sI, zR_sL, zR_sD, zR_sR, c_1, c_8]) (by rfl) dX1_isWater_16

