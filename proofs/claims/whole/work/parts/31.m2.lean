theorem zR_u_feel (μ : ZMem) (c : Nat) (v : UInt64) : zR (u_feel μ c v) = zR μ := by
  unfold u_feel
  first | rfl | (split <;> rfl)
theorem zR_u_gain (μ : ZMem) (c : Nat) (n : Int64) (a b : UInt64) : zR (u_gain μ c n a b) = zR μ := by
  unfold u_gain
  first | rfl | (split <;> rfl)
theorem zR_u_lose (μ : ZMem) (c : Nat) (n : Int64) : zR (u_lose μ c n) = zR μ := by
  unfold u_lose
  first | rfl | (split <;> rfl)
theorem zR_u_beginStep (μ : ZMem) (c : Nat) : zR (u_beginStep μ c) = zR μ := by
  unfold u_beginStep
  first | rfl | (split <;> rfl)
theorem zR_u_take (μ : ZMem) (c : Nat) (h : UInt64) : zR (u_take μ c h) = zR μ := by
  unfold u_take
  first | rfl | (split <;> rfl)
def s_exists (μ : ZMem) (f : Nat) : Int32 := match zR μ f 0, zR μ f 1 with
  | some a, some b => if zI μ a 0 = 0 then 0 else if zI μ b 0 = 0 then 0 else 1
  | a, b => match zR μ f 2 with
    | none => 0
    | some s => if zI μ s 2 = 0 then 0 else if s_isWater μ a = 0 then (if s_isWater μ b = 0 then 0 else 1) else 1
set_option maxHeartbeats 4000000 in
set_option maxRecDepth 100000 in
theorem m_X1_exists {g : ZG} {μ : ZMem} {f : Nat} (hO : zO g 1 f) (hW : zWf g μ) : zCab g RX1 yX1_exists cX1_exists 1 ((some FieldType.boolean)) (zrm 1) [zr (some f)] μ (some (zi (s_exists μ f))) μ := by
  refine zCab_w (by decide +kernel) rfl (Nat.le_of_ble_eq_true rfl) ?_
  refine zx_aload_n dX1_exists_0 rfl rfl ?_
  refine zx_getR zf_X1_7 (by assumption) (by first | assumption | rfl) rfl dX1_exists_1 ?_
  refine zx_ifnull (tgt := 14) dX1_exists_4 (by decide) (fun c_4 => ?_) (fun r_4 c_4 => ?_)
  · skip
    refine zx_aload_n dX1_exists_14 rfl rfl ?_
    refine zx_getR zf_X1_16 (by assumption) (by first | assumption | rfl) rfl dX1_exists_15 ?_
    refine zx_ifnull (tgt := 55) dX1_exists_18 (by decide) (fun c_18 => ?_) (fun r_18 c_18 => ?_)
    · skip
      refine zx_iconst 0 dX1_exists_55 (by decide) ?_
      exact zx_zreturn rfl (by decide +kernel) (by first | rfl | simp [zKa, zKm, s_exists, zI_sI, zI_sL, zI_sD, zI_sR, zL_sI, zL_sL, zL_sD, zL_sR, zD_sI, zD_sL, zD_sD, zD_sR, zR_sI, zR_sL, zR_sD, zR_sR, c_4, c_18]) (by rfl) dX1_exists_56
    · skip
      have hO_18 : zO g 3 r_18 := hW 1 _ _ _ (by assumption) c_18
      refine zx_aload_n dX1_exists_21 rfl rfl ?_
      refine zx_getR zf_X1_16 (by assumption) (by first | assumption | rfl) rfl dX1_exists_22 ?_
      refine zx_getI zf_X1_24 (by assumption) (Or.inr rfl) dX1_exists_25 ?_
      refine zx_if_eq (tgt := 55) dX1_exists_28 (by decide) (fun c_28 => ?_) (fun c_28 => ?_)
      · skip
        refine zx_iconst 0 dX1_exists_55 (by decide) ?_
        exact zx_zreturn rfl (by decide +kernel) (by first | rfl | simp [zKa, zKm, s_exists, zI_sI, zI_sL, zI_sD, zI_sR, zL_sI, zL_sL, zL_sD, zL_sR, zD_sI, zD_sL, zD_sD, zD_sR, zR_sI, zR_sL, zR_sD, zR_sR, c_4, c_18, c_28]) (by rfl) dX1_exists_56
      · skip
        refine zx_aload_n dX1_exists_31 rfl rfl ?_
        refine zx_getR zf_X1_7 (by assumption) (by first | assumption | rfl) rfl dX1_exists_32 ?_
        refine zx_callS1 _ zs_X1_30 (m_X1_isWater (fun c hc => by first | (cases hc; done) | exact hW 1 f 0 c hO (by first | exact hc | (cases hc; assumption)) | exact hW 1 f 1 c hO (by first | exact hc | (cases hc; assumption)))) rfl rfl ⟨rfl, rfl, (Nat.le_of_ble_eq_true rfl), (Nat.le_of_ble_eq_true rfl)⟩ (Nat.le_of_ble_eq_true rfl) dX1_exists_35 ?_
        refine zx_if_ne (tgt := 51) dX1_exists_38 (by decide) (fun c_38 => ?_) (fun c_38 => ?_)
        · skip
          refine zx_iconst 1 dX1_exists_51 (by decide) ?_
          refine zx_goto (tgt := 56) dX1_exists_52 (by decide) ?_
          exact zx_zreturn rfl (by decide +kernel) (by first | rfl | simp [zKa, zKm, s_exists, zI_sI, zI_sL, zI_sD, zI_sR, zL_sI, zL_sL, zL_sD, zL_sR, zD_sI, zD_sL, zD_sD, zD_sR, zR_sI, zR_sL, zR_sD, zR_sR, c_4, c_18, c_28, c_38]) (by rfl) dX1_exists_56
        · skip
          refine zx_aload_n dX1_exists_41 rfl rfl ?_
          refine zx_getR zf_X1_13 (by assumption) (by first | assumption | rfl) rfl dX1_exists_42 ?_
          refine zx_callS1 _ zs_X1_30 (m_X1_isWater (fun c hc => by first | (cases hc; done) | exact hW 1 f 0 c hO (by first | exact hc | (cases hc; assumption)) | exact hW 1 f 1 c hO (by first | exact hc | (cases hc; assumption)))) rfl rfl ⟨rfl, rfl, (Nat.le_of_ble_eq_true rfl), (Nat.le_of_ble_eq_true rfl)⟩ (Nat.le_of_ble_eq_true rfl) dX1_exists_45 ?_
          refine zx_if_eq (tgt := 55) dX1_exists_48 (by decide) (fun c_48 => ?_) (fun c_48 => ?_)
          · skip
            refine zx_iconst 0 dX1_exists_55 (by decide) ?_
            exact zx_zreturn rfl (by decide +kernel) (by first | rfl | simp [zKa, zKm, s_exists, zI_sI, zI_sL, zI_sD, zI_sR, zL_sI, zL_sL, zL_sD, zL_sR, zD_sI, zD_sL, zD_sD, zD_sR, zR_sI, zR_sL, zR_sD, zR_sR, c_4, c_18, c_28, c_38, c_48]) (by rfl) dX1_exists_56
          · skip
            refine zx_iconst 1 dX1_exists_51 (by decide) ?_
            refine zx_goto (tgt := 56) dX1_exists_52 (by decide) ?_
            exact zx_zreturn rfl (by decide +kernel) (by first | rfl | simp [zKa, zKm, s_exists, zI_sI, zI_sL, zI_sD, zI_sR, zL_sI, zL_sL, zL_sD, zL_sR, zD_sI, zD_sL, zD_sD, zD_sR, zR_sI, zR_sL, zR_sD, zR_sR, c_4, c_18, c_28, c_38, c_48]) (by rfl) dX1_exists_56
  · skip
    have hO_4 : zO g 0 r_4 := hW 1 _ _ _ (by assumption) c_4
    refine zx_aload_n dX1_exists_7 rfl rfl ?_
    refine zx_getR zf_X1_13 (by assumption) (by first | assumption | rfl) rfl dX1_exists_8 ?_
    refine zx_ifnonnull (tgt := 57) dX1_exists_11 (by decide) (fun c_11 => ?_) (fun r_11 c_11 => ?_)
    · skip
      refine zx_aload_n dX1_exists_14 rfl rfl ?_
      refine zx_getR zf_X1_16 (by assumption) (by first | assumption | rfl) rfl dX1_exists_15 ?_
      refine zx_ifnull (tgt := 55) dX1_exists_18 (by decide) (fun c_18 => ?_) (fun r_18 c_18 => ?_)
      · skip
        refine zx_iconst 0 dX1_exists_55 (by decide) ?_
        exact zx_zreturn rfl (by decide +kernel) (by first | rfl | simp [zKa, zKm, s_exists, zI_sI, zI_sL, zI_sD, zI_sR, zL_sI, zL_sL, zL_sD, zL_sR, zD_sI, zD_sL, zD_sD, zD_sR, zR_sI, zR_sL, zR_sD, zR_sR, c_4, c_11, c_18]) (by rfl) dX1_exists_56
      · skip
        have hO_18 : zO g 3 r_18 := hW 1 _ _ _ (by assumption) c_18
        refine zx_aload_n dX1_exists_21 rfl rfl ?_
        refine zx_getR zf_X1_16 (by assumption) (by first | assumption | rfl) rfl dX1_exists_22 ?_
        refine zx_getI zf_X1_24 (by assumption) (Or.inr rfl) dX1_exists_25 ?_
        refine zx_if_eq (tgt := 55) dX1_exists_28 (by decide) (fun c_28 => ?_) (fun c_28 => ?_)
        · skip
          refine zx_iconst 0 dX1_exists_55 (by decide) ?_
          exact zx_zreturn rfl (by decide +kernel) (by first | rfl | simp [zKa, zKm, s_exists, zI_sI, zI_sL, zI_sD, zI_sR, zL_sI, zL_sL, zL_sD, zL_sR, zD_sI, zD_sL, zD_sD, zD_sR, zR_sI, zR_sL, zR_sD, zR_sR, c_4, c_11, c_18, c_28]) (by rfl) dX1_exists_56
        · skip
          refine zx_aload_n dX1_exists_31 rfl rfl ?_
          refine zx_getR zf_X1_7 (by assumption) (by first | assumption | rfl) rfl dX1_exists_32 ?_
          refine zx_callS1 _ zs_X1_30 (m_X1_isWater (fun c hc => by first | (cases hc; done) | exact hW 1 f 0 c hO (by first | exact hc | (cases hc; assumption)) | exact hW 1 f 1 c hO (by first | exact hc | (cases hc; assumption)))) rfl rfl ⟨rfl, rfl, (Nat.le_of_ble_eq_true rfl), (Nat.le_of_ble_eq_true rfl)⟩ (Nat.le_of_ble_eq_true rfl) dX1_exists_35 ?_
          refine zx_if_ne (tgt := 51) dX1_exists_38 (by decide) (fun c_38 => ?_) (fun c_38 => ?_)
          · skip
            refine zx_iconst 1 dX1_exists_51 (by decide) ?_
            refine zx_goto (tgt := 56) dX1_exists_52 (by decide) ?_
            exact zx_zreturn rfl (by decide +kernel) (by first | rfl | simp [zKa, zKm, s_exists, zI_sI, zI_sL, zI_sD, zI_sR, zL_sI, zL_sL, zL_sD, zL_sR, zD_sI, zD_sL, zD_sD, zD_sR, zR_sI, zR_sL, zR_sD, zR_sR, c_4, c_11, c_18, c_28, c_38]) (by rfl) dX1_exists_56
          · skip
            refine zx_aload_n dX1_exists_41 rfl rfl ?_
            refine zx_getR zf_X1_13 (by assumption) (by first | assumption | rfl) rfl dX1_exists_42 ?_
            refine zx_callS1 _ zs_X1_30 (m_X1_isWater (fun c hc => by first | (cases hc; done) | exact hW 1 f 0 c hO (by first | exact hc | (cases hc; assumption)) | exact hW 1 f 1 c hO (by first | exact hc | (cases hc; assumption)))) rfl rfl ⟨rfl, rfl, (Nat.le_of_ble_eq_true rfl), (Nat.le_of_ble_eq_true rfl)⟩ (Nat.le_of_ble_eq_true rfl) dX1_exists_45 ?_
            refine zx_if_eq (tgt := 55) dX1_exists_48 (by decide) (fun c_48 => ?_) (fun c_48 => ?_)
            · skip
              refine zx_iconst 0 dX1_exists_55 (by decide) ?_
              exact zx_zreturn rfl (by decide +kernel) (by first | rfl | simp [zKa, zKm, s_exists, zI_sI, zI_sL, zI_sD, zI_sR, zL_sI, zL_sL, zL_sD, zL_sR, zD_sI, zD_sL, zD_sD, zD_sR, zR_sI, zR_sL, zR_sD, zR_sR, c_4, c_11, c_18, c_28, c_38, c_48]) (by rfl) dX1_exists_56
            · skip
              refine zx_iconst 1 dX1_exists_51 (by decide) ?_
              refine zx_goto (tgt := 56) dX1_exists_52 (by decide) ?_
              exact zx_zreturn rfl (by decide +kernel) (by first | rfl | simp [zKa, zKm, s_exists, zI_sI, zI_sL, zI_sD, zI_sR, zL_sI, zL_sL, zL_sD, zL_sR, zD_sI, zD_sL, zD_sD, zD_sR, zR_sI, zR_sL, zR_sD, zR_sR, c_4, c_11, c_18, c_28, c_38, c_48]) (by rfl) dX1_exists_56
    · skip
      have hO_11 : zO g 0 r_11 := hW 1 _ _ _ (by assumption) c_11
      refine zx_aload_n dX1_exists_57 rfl rfl ?_
      refine zx_getR zf_X1_7 (by assumption) (by first | assumption | rfl) rfl dX1_exists_58 ?_
      refine zx_getI zf_X1_34 (by assumption) (Or.inr rfl) dX1_exists_61 ?_
      refine zx_if_eq (tgt := 81) dX1_exists_64 (by decide) (fun c_64 => ?_) (fun c_64 => ?_)
      · skip
        refine zx_iconst 0 dX1_exists_81 (by decide) ?_
        exact zx_zreturn rfl (by decide +kernel) (by first | rfl | simp [zKa, zKm, s_exists, zI_sI, zI_sL, zI_sD, zI_sR, zL_sI, zL_sL, zL_sD, zL_sR, zD_sI, zD_sL, zD_sD, zD_sR, zR_sI, zR_sL, zR_sD, zR_sR, c_4, c_11, c_64]) (by rfl) dX1_exists_82
      · skip
        refine zx_aload_n dX1_exists_67 rfl rfl ?_
        refine zx_getR zf_X1_13 (by assumption) (by first | assumption | rfl) rfl dX1_exists_68 ?_
        refine zx_getI zf_X1_34 (by assumption) (Or.inr rfl) dX1_exists_71 ?_
        refine zx_if_eq (tgt := 81) dX1_exists_74 (by decide) (fun c_74 => ?_) (fun c_74 => ?_)
        · skip
          refine zx_iconst 0 dX1_exists_81 (by decide) ?_
          exact zx_zreturn rfl (by decide +kernel) (by first | rfl | simp [zKa, zKm, s_exists, zI_sI, zI_sL, zI_sD, zI_sR, zL_sI, zL_sL, zL_sD, zL_sR, zD_sI, zD_sL, zD_sD, zD_sR, zR_sI, zR_sL, zR_sD, zR_sR, c_4, c_11, c_64, c_74]) (by rfl) dX1_exists_82
        · skip
          refine zx_iconst 1 dX1_exists_77 (by decide) ?_
          refine zx_goto (tgt := 82) dX1_exists_78 (by decide) ?_
          exact zx_zreturn rfl (by decide +kernel) (by first | rfl | simp [zKa, zKm, s_exists, zI_sI, zI_sL, zI_sD, zI_sR, zL_sI, zL_sL, zL_sD, zL_sR, zD_sI, zD_sL, zD_sD, zD_sR, zR_sI, zR_sL, zR_sD, zR_sR, c_4, c_11, c_64, c_74]) (by rfl) dX1_exists_82

def u_restAt (μ : ZMem) (f c : Nat) : ZMem := if zR μ f 0 = some c then zsD μ f 4 0 else if zR μ f 1 = some c then zsD μ f 4 0 else μ
set_option maxHeartbeats 4000000 in
set_option maxRecDepth 100000 in
theorem m_X1_restAt {g : ZG} {μ : ZMem} {f : Nat} (hO : zO g 1 f) (hW : zWf g μ) {c : Nat} (hc : zO g 0 c) : zCab g RX1 yX1_restAt cX1_restAt 2 (none) (zrm 0) [zr (some f), zr (some c)] μ none (u_restAt μ f c) := by
  refine zCab_w (by decide +kernel) rfl (Nat.le_of_ble_eq_true rfl) ?_
  refine zx_aload_n dX1_restAt_0 rfl rfl ?_
  refine zx_getR zf_X1_7 (by assumption) (by first | assumption | rfl) rfl dX1_restAt_1 ?_
  refine zx_aload_n dX1_restAt_4 rfl rfl ?_
  refine zx_acmp_eq (tgt := 16) dX1_restAt_5 (by decide) (fun r h => (hW 1 _ _ _ hO h).1) (fun r h => by cases h; exact hc.1) (fun c_5 => ?_) (fun c_5 => ?_)
  · skip
    refine zx_aload_n dX1_restAt_16 rfl rfl ?_
    refine zx_dconst0 dX1_restAt_17 ?_
    refine zx_putD zf_X1_39 (by assumption) rfl dX1_restAt_18 ?_
    exact zx_return rfl rfl (by first | rfl | simp [zKa, zKm, u_restAt, zI_sI, zI_sL, zI_sD, zI_sR, zL_sI, zL_sL, zL_sD, zL_sR, zD_sI, zD_sL, zD_sD, zD_sR, zR_sI, zR_sL, zR_sD, zR_sR, c_5]) dX1_restAt_21
  · skip
    refine zx_aload_n dX1_restAt_8 rfl rfl ?_
    refine zx_getR zf_X1_13 (by assumption) (by first | assumption | rfl) rfl dX1_restAt_9 ?_
    refine zx_aload_n dX1_restAt_12 rfl rfl ?_
    refine zx_acmp_ne (tgt := 21) dX1_restAt_13 (by decide) (fun r h => (hW 1 _ _ _ hO h).1) (fun r h => by cases h; exact hc.1) (fun c_13 => ?_) (fun c_13 => ?_)
    · skip
      exact zx_return rfl rfl (by first | rfl | simp [zKa, zKm, u_restAt, zI_sI, zI_sL, zI_sD, zI_sR, zL_sI, zL_sL, zL_sD, zL_sR, zD_sI, zD_sL, zD_sD, zD_sR, zR_sI, zR_sL, zR_sD, zR_sR, c_5, c_13]) dX1_restAt_21
    · skip
      refine zx_aload_n dX1_restAt_16 rfl rfl ?_
      refine zx_dconst0 dX1_restAt_17 ?_
      refine zx_putD zf_X1_39 (by assumption) rfl dX1_restAt_18 ?_
      exact zx_return rfl rfl (by first | rfl | simp [zKa, zKm, u_restAt, zI_sI, zI_sL, zI_sD, zI_sR, zL_sI, zL_sL, zL_sD, zL_sR, zD_sI, zD_sL, zD_sD, zD_sR, zR_sI, zR_sL, zR_sD, zR_sR, c_5, c_13]) dX1_restAt_21

theorem zR_u_restAt (μ : ZMem) (f c : Nat) : zR (u_restAt μ f c) = zR μ := by
  unfold u_restAt
  first | rfl | (split <;> first | rfl | (split <;> rfl))
def s_surfaceOf (μ : ZMem) (f : Nat) (x : Option Nat) : UInt64 := match x with
  | some c => zD μ c 11
  | none => match zR μ f 2 with
    | none => 0
    | some s => zD μ s 3
set_option maxHeartbeats 4000000 in
set_option maxRecDepth 100000 in
theorem m_X1_surfaceOf {g : ZG} {μ : ZMem} {f : Nat} (hO : zO g 1 f) (hW : zWf g μ) {x : Option Nat} (hx : ∀ c, x = some c → zO g 0 c) : zCab g RX1 yX1_surfaceOf cX1_surfaceOf 2 ((some FieldType.double)) (zrm 0) [zr (some f), zr x] μ (some (zd (s_surfaceOf μ f x))) μ := by
  refine zCab_w (by decide +kernel) rfl (Nat.le_of_ble_eq_true rfl) ?_
  refine zx_aload_n dX1_surfaceOf_0 rfl rfl ?_
  refine zx_ifnull (tgt := 9) dX1_surfaceOf_1 (by decide) (fun c_1 => ?_) (fun r_1 c_1 => ?_)
  · skip
    rw [c_1]
    refine zx_aload_n dX1_surfaceOf_9 rfl rfl ?_
    refine zx_getR zf_X1_16 (by assumption) (by first | assumption | rfl) rfl dX1_surfaceOf_10 ?_
    refine zx_ifnonnull (tgt := 20) dX1_surfaceOf_13 (by decide) (fun c_13 => ?_) (fun r_13 c_13 => ?_)
    · skip
      refine zx_dconst0 dX1_surfaceOf_16 ?_
      refine zx_goto (tgt := 27) dX1_surfaceOf_17 (by decide) ?_
      exact zx_dreturn rfl (by first | rfl | simp [zKa, zKm, s_surfaceOf, zI_sI, zI_sL, zI_sD, zI_sR, zL_sI, zL_sL, zL_sD, zL_sR, zD_sI, zD_sL, zD_sD, zD_sR, zR_sI, zR_sL, zR_sD, zR_sR, c_1, c_13]) (by rfl) dX1_surfaceOf_27
    · skip
      have hO_13 : zO g 3 r_13 := hW 1 _ _ _ (by assumption) c_13
      refine zx_aload_n dX1_surfaceOf_20 rfl rfl ?_
      refine zx_getR zf_X1_16 (by assumption) (by first | assumption | rfl) rfl dX1_surfaceOf_21 ?_
      refine zx_getD zf_X1_105 (by assumption) rfl dX1_surfaceOf_24 ?_
      exact zx_dreturn rfl (by first | rfl | simp [zKa, zKm, s_surfaceOf, zI_sI, zI_sL, zI_sD, zI_sR, zL_sI, zL_sL, zL_sD, zL_sR, zD_sI, zD_sL, zD_sD, zD_sR, zR_sI, zR_sL, zR_sD, zR_sR, c_1, c_13]) (by rfl) dX1_surfaceOf_27
  · skip
    have hO_1 := hx _ c_1
    rw [c_1]
    refine zx_aload_n dX1_surfaceOf_4 rfl rfl ?_
    refine zx_getD zf_X1_102 (by assumption) rfl dX1_surfaceOf_5 ?_
    exact zx_dreturn rfl (by first | rfl | simp [zKa, zKm, s_surfaceOf, zI_sI, zI_sL, zI_sD, zI_sR, zL_sI, zL_sL, zL_sD, zL_sR, zD_sI, zD_sL, zD_sD, zD_sR, zR_sI, zR_sL, zR_sD, zR_sR, c_1]) (by rfl) dX1_surfaceOf_8

def s_lesser (μ : ZMem) (f : Nat) : Int64 := match zR μ f 0, zR μ f 1 with
  | none, none => 9223372036854775807
  | none, some b => s_min64 9223372036854775807 (zL μ b 2)
  | some a, none => s_min64 9223372036854775807 (zL μ a 2)
  | some a, some b => s_min64 (s_min64 9223372036854775807 (zL μ a 2)) (zL μ b 2)
set_option maxHeartbeats 4000000 in
set_option maxRecDepth 100000 in
theorem m_X1_lesserParts {g : ZG} {μ : ZMem} {f : Nat} (hO : zO g 1 f) (hW : zWf g μ) : zCab g RX1 yX1_lesserParts cX1_lesserParts 3 ((some FieldType.long)) (zrm 1) [zr (some f)] μ (some (zl (s_lesser μ f))) μ := by
  refine zCab_w (by decide +kernel) rfl (Nat.le_of_ble_eq_true rfl) ?_
  refine zx_ldc2l 9223372036854775807 zk_X1_110 dX1_lesserParts_0 ?_
  refine zx_lstore_n dX1_lesserParts_3 rfl (Nat.le_of_ble_eq_true rfl) ?_
  refine zx_aload_n dX1_lesserParts_4 rfl rfl ?_
  refine zx_getR zf_X1_7 (by assumption) (by first | assumption | rfl) rfl dX1_lesserParts_5 ?_
  refine zx_ifnull (tgt := 23) dX1_lesserParts_8 (by decide) (fun c_8 => ?_) (fun r_8 c_8 => ?_)
  · skip
    refine zx_aload_n dX1_lesserParts_23 rfl rfl ?_
    refine zx_getR zf_X1_13 (by assumption) (by first | assumption | rfl) rfl dX1_lesserParts_24 ?_
    refine zx_ifnonnull (tgt := 34) dX1_lesserParts_27 (by decide) (fun c_27 => ?_) (fun r_27 c_27 => ?_)
    · skip
      refine zx_lload_n dX1_lesserParts_30 rfl rfl ?_
      refine zx_goto (tgt := 45) dX1_lesserParts_31 (by decide) ?_
      exact zx_lreturn rfl (by first | rfl | simp [zKa, zKm, s_lesser, zI_sI, zI_sL, zI_sD, zI_sR, zL_sI, zL_sL, zL_sD, zL_sR, zD_sI, zD_sL, zD_sD, zD_sR, zR_sI, zR_sL, zR_sD, zR_sR, c_8, c_27]) (by rfl) dX1_lesserParts_45
    · skip
      have hO_27 : zO g 0 r_27 := hW 1 _ _ _ (by assumption) c_27
      refine zx_lload_n dX1_lesserParts_34 rfl rfl ?_
      refine zx_aload_n dX1_lesserParts_35 rfl rfl ?_
      refine zx_getR zf_X1_13 (by assumption) (by first | assumption | rfl) rfl dX1_lesserParts_36 ?_
      refine zx_getL zf_X1_112 (by assumption) rfl dX1_lesserParts_39 ?_
      refine zx_callS1 _ zs_X1_115 m_J9_min_f86c9 rfl rfl ⟨rfl, rfl, (Nat.le_of_ble_eq_true rfl), (Nat.le_of_ble_eq_true rfl)⟩ (Nat.le_of_ble_eq_true rfl) dX1_lesserParts_42 ?_
      exact zx_lreturn rfl (by first | rfl | simp [zKa, zKm, s_lesser, zI_sI, zI_sL, zI_sD, zI_sR, zL_sI, zL_sL, zL_sD, zL_sR, zD_sI, zD_sL, zD_sD, zD_sR, zR_sI, zR_sL, zR_sD, zR_sR, c_8, c_27]) (by rfl) dX1_lesserParts_45
  · skip
    have hO_8 : zO g 0 r_8 := hW 1 _ _ _ (by assumption) c_8
    refine zx_lload_n dX1_lesserParts_11 rfl rfl ?_
    refine zx_aload_n dX1_lesserParts_12 rfl rfl ?_
    refine zx_getR zf_X1_7 (by assumption) (by first | assumption | rfl) rfl dX1_lesserParts_13 ?_
    refine zx_getL zf_X1_112 (by assumption) rfl dX1_lesserParts_16 ?_
    refine zx_callS1 _ zs_X1_115 m_J9_min_f86c9 rfl rfl ⟨rfl, rfl, (Nat.le_of_ble_eq_true rfl), (Nat.le_of_ble_eq_true rfl)⟩ (Nat.le_of_ble_eq_true rfl) dX1_lesserParts_19 ?_
    refine zx_lstore_n dX1_lesserParts_22 rfl (Nat.le_of_ble_eq_true rfl) ?_
    refine zx_aload_n dX1_lesserParts_23 rfl rfl ?_
    refine zx_getR zf_X1_13 (by assumption) (by first | assumption | rfl) rfl dX1_lesserParts_24 ?_
    refine zx_ifnonnull (tgt := 34) dX1_lesserParts_27 (by decide) (fun c_27 => ?_) (fun r_27 c_27 => ?_)
    · skip
      refine zx_lload_n dX1_lesserParts_30 rfl rfl ?_
      refine zx_goto (tgt := 45) dX1_lesserParts_31 (by decide) ?_
      exact zx_lreturn rfl (by first | rfl | simp [zKa, zKm, s_lesser, zI_sI, zI_sL, zI_sD, zI_sR, zL_sI, zL_sL, zL_sD, zL_sR, zD_sI, zD_sL, zD_sD, zD_sR, zR_sI, zR_sL, zR_sD, zR_sR, c_8, c_27]) (by rfl) dX1_lesserParts_45
    · skip
      have hO_27 : zO g 0 r_27 := hW 1 _ _ _ (by assumption) c_27
      refine zx_lload_n dX1_lesserParts_34 rfl rfl ?_
      refine zx_aload_n dX1_lesserParts_35 rfl rfl ?_
      refine zx_getR zf_X1_13 (by assumption) (by first | assumption | rfl) rfl dX1_lesserParts_36 ?_
      refine zx_getL zf_X1_112 (by assumption) rfl dX1_lesserParts_39 ?_
      refine zx_callS1 _ zs_X1_115 m_J9_min_f86c9 rfl rfl ⟨rfl, rfl, (Nat.le_of_ble_eq_true rfl), (Nat.le_of_ble_eq_true rfl)⟩ (Nat.le_of_ble_eq_true rfl) dX1_lesserParts_42 ?_
      exact zx_lreturn rfl (by first | rfl | simp [zKa, zKm, s_lesser, zI_sI, zI_sL, zI_sD, zI_sR, zL_sI, zL_sL, zL_sD, zL_sR, zD_sI, zD_sL, zD_sD, zD_sR, zR_sI, zR_sL, zR_sD, zR_sR, c_8, c_27]) (by rfl) dX1_lesserParts_45

def s_limited (μ : ZMem) (f : Nat) (q : Int64) : Int64 := match (if q < 0 then zR μ f 1 else zR μ f 0) with
  | none => q
  | some c => if s_isDry μ c = 0 then s_max64 (-(zL μ c 2 / 8)) (s_min64 (zL μ c 2 / 8) q) else 0
set_option maxHeartbeats 4000000 in
set_option maxRecDepth 100000 in
theorem m_X1_limited {g : ZG} {μ : ZMem} {f : Nat} (hO : zO g 1 f) (hW : zWf g μ) {q : Int64} : zCab g RX1 yX1_limited cX1_limited 6 ((some FieldType.long)) (zrm 1) [zr (some f), zl q] μ (some (zl (s_limited μ f q))) μ := by
  refine zCab_w (by decide +kernel) rfl (Nat.le_of_ble_eq_true rfl) ?_
  refine zx_lload_n dX1_limited_0 rfl rfl ?_
  refine zx_lconst 0 dX1_limited_1 (by decide) ?_
  refine zx_lc_ge (tgt := 13) dX1_limited_2 dX1_limited_3 (by decide) (fun c_2 => ?_) (fun c_2 => ?_)
  · skip
    refine zx_aload_n dX1_limited_13 rfl rfl ?_
    refine zx_getR zf_X1_7 (by assumption) (by first | assumption | rfl) rfl dX1_limited_14 ?_
    refine zx_astore_n dX1_limited_17 rfl (Nat.le_of_ble_eq_true rfl) ?_
    refine zx_aload_n dX1_limited_18 rfl rfl ?_
    refine zx_ifnonnull (tgt := 24) dX1_limited_19 (by decide) (fun c_19 => ?_) (fun r_19 c_19 => ?_)
    · skip
      rw [c_19]
      refine zx_lload_n dX1_limited_22 rfl rfl ?_
      exact zx_lreturn rfl (by first | rfl | simp [zKa, zKm, s_limited, zI_sI, zI_sL, zI_sD, zI_sR, zL_sI, zL_sL, zL_sD, zL_sR, zD_sI, zD_sL, zD_sD, zD_sR, zR_sI, zR_sL, zR_sD, zR_sR, c_2, c_19]) (by rfl) dX1_limited_23
    · skip
      have hO_19 : zO g 0 r_19 := hW 1 _ _ _ (by assumption) c_19
      rw [c_19]
      refine zx_aload_n dX1_limited_24 rfl rfl ?_
      refine zx_callV1 _ zv_X1_121 (m_X0_isDry (by assumption)) (by assumption) (by decide) rfl rfl rfl ⟨rfl, rfl, (Nat.le_of_ble_eq_true rfl), (Nat.le_of_ble_eq_true rfl)⟩ (Nat.le_of_ble_eq_true rfl) dX1_limited_25 ?_
      refine zx_if_eq (tgt := 33) dX1_limited_28 (by decide) (fun c_28 => ?_) (fun c_28 => ?_)
      · skip
        refine zx_aload_n dX1_limited_33 rfl rfl ?_
        refine zx_getL zf_X1_112 (by assumption) rfl dX1_limited_34 ?_
        refine zx_ldc2l 8 zk_X1_124 dX1_limited_37 ?_
        refine zx_ldiv dX1_limited_40 (by decide) ?_
        refine zx_lstore dX1_limited_41 (Nat.le_of_ble_eq_true rfl) ?_
        refine zx_lload dX1_limited_43 rfl ?_
        refine zx_lneg dX1_limited_45 ?_
        refine zx_lload dX1_limited_46 rfl ?_
        refine zx_lload_n dX1_limited_48 rfl rfl ?_
        refine zx_callS1 _ zs_X1_115 m_J9_min_f86c9 rfl rfl ⟨rfl, rfl, (Nat.le_of_ble_eq_true rfl), (Nat.le_of_ble_eq_true rfl)⟩ (Nat.le_of_ble_eq_true rfl) dX1_limited_49 ?_
        refine zx_callS1 _ zs_X1_126 m_J9_max_f86c9 rfl rfl ⟨rfl, rfl, (Nat.le_of_ble_eq_true rfl), (Nat.le_of_ble_eq_true rfl)⟩ (Nat.le_of_ble_eq_true rfl) dX1_limited_52 ?_
        exact zx_lreturn rfl (by first | rfl | simp [zKa, zKm, s_limited, zI_sI, zI_sL, zI_sD, zI_sR, zL_sI, zL_sL, zL_sD, zL_sR, zD_sI, zD_sL, zD_sD, zD_sR, zR_sI, zR_sL, zR_sD, zR_sR, c_2, c_19, c_28]) (by rfl) dX1_limited_55
      · skip
        refine zx_lconst 0 dX1_limited_31 (by decide) ?_
        exact zx_lreturn rfl (by first | rfl | simp [zKa, zKm, s_limited, zI_sI, zI_sL, zI_sD, zI_sR, zL_sI, zL_sL, zL_sD, zL_sR, zD_sI, zD_sL, zD_sD, zD_sR, zR_sI, zR_sL, zR_sD, zR_sR, c_2, c_19, c_28]) (by rfl) dX1_limited_32
  · skip
    refine zx_aload_n dX1_limited_6 rfl rfl ?_
    refine zx_getR zf_X1_13 (by assumption) (by first | assumption | rfl) rfl dX1_limited_7 ?_
    refine zx_goto (tgt := 17) dX1_limited_10 (by decide) ?_
    refine zx_astore_n dX1_limited_17 rfl (Nat.le_of_ble_eq_true rfl) ?_
    refine zx_aload_n dX1_limited_18 rfl rfl ?_
    refine zx_ifnonnull (tgt := 24) dX1_limited_19 (by decide) (fun c_19 => ?_) (fun r_19 c_19 => ?_)
    · skip
      rw [c_19]
      refine zx_lload_n dX1_limited_22 rfl rfl ?_
      exact zx_lreturn rfl (by first | rfl | simp [zKa, zKm, s_limited, zI_sI, zI_sL, zI_sD, zI_sR, zL_sI, zL_sL, zL_sD, zL_sR, zD_sI, zD_sL, zD_sD, zD_sR, zR_sI, zR_sL, zR_sD, zR_sR, c_2, c_19]) (by rfl) dX1_limited_23
    · skip
      have hO_19 : zO g 0 r_19 := hW 1 _ _ _ (by assumption) c_19
      rw [c_19]
      refine zx_aload_n dX1_limited_24 rfl rfl ?_
      refine zx_callV1 _ zv_X1_121 (m_X0_isDry (by assumption)) (by assumption) (by decide) rfl rfl rfl ⟨rfl, rfl, (Nat.le_of_ble_eq_true rfl), (Nat.le_of_ble_eq_true rfl)⟩ (Nat.le_of_ble_eq_true rfl) dX1_limited_25 ?_
      refine zx_if_eq (tgt := 33) dX1_limited_28 (by decide) (fun c_28 => ?_) (fun c_28 => ?_)
      · skip
        refine zx_aload_n dX1_limited_33 rfl rfl ?_
        refine zx_getL zf_X1_112 (by assumption) rfl dX1_limited_34 ?_
        refine zx_ldc2l 8 zk_X1_124 dX1_limited_37 ?_
        refine zx_ldiv dX1_limited_40 (by decide) ?_
        refine zx_lstore dX1_limited_41 (Nat.le_of_ble_eq_true rfl) ?_
        refine zx_lload dX1_limited_43 rfl ?_
        refine zx_lneg dX1_limited_45 ?_
        refine zx_lload dX1_limited_46 rfl ?_
        refine zx_lload_n dX1_limited_48 rfl rfl ?_
        refine zx_callS1 _ zs_X1_115 m_J9_min_f86c9 rfl rfl ⟨rfl, rfl, (Nat.le_of_ble_eq_true rfl), (Nat.le_of_ble_eq_true rfl)⟩ (Nat.le_of_ble_eq_true rfl) dX1_limited_49 ?_
        refine zx_callS1 _ zs_X1_126 m_J9_max_f86c9 rfl rfl ⟨rfl, rfl, (Nat.le_of_ble_eq_true rfl), (Nat.le_of_ble_eq_true rfl)⟩ (Nat.le_of_ble_eq_true rfl) dX1_limited_52 ?_
        exact zx_lreturn rfl (by first | rfl | simp [zKa, zKm, s_limited, zI_sI, zI_sL, zI_sD, zI_sR, zL_sI, zL_sL, zL_sD, zL_sR, zD_sI, zD_sL, zD_sD, zD_sR, zR_sI, zR_sL, zR_sD, zR_sR, c_2, c_19, c_28]) (by rfl) dX1_limited_55
      · skip
        refine zx_lconst 0 dX1_limited_31 (by decide) ?_
        exact zx_lreturn rfl (by first | rfl | simp [zKa, zKm, s_limited, zI_sI, zI_sL, zI_sD, zI_sR, zL_sI, zL_sL, zL_sD, zL_sR, zD_sI, zD_sL, zD_sD, zD_sR, zR_sI, zR_sL, zR_sD, zR_sR, c_2, c_19, c_28]) (by rfl) dX1_limited_32

def v_speed (μ : ZMem) (f : Nat) (h w : UInt64) : UInt64 := zdiv (zadd (zD μ f 4) (zmul h (zadd (zmul kg (zsub (s_surfaceOf μ f (zR μ f 0)) (s_surfaceOf μ f (zR μ f 1)))) (zmul kw w)))) (zadd k1 (zmul (zmul kf h) (s_sizeOf (zD μ f 4))))
def u_settle0 (μ : ZMem) (f : Nat) : ZMem := zsL μ f 5 0
def u_settle1 (μ : ZMem) (f : Nat) (h w : UInt64) : ZMem := zsD (u_settle0 μ f) f 4 (v_speed (u_settle0 μ f) f h w)
def u_settle2 (μ : ZMem) (f : Nat) (h w : UInt64) : ZMem := zsL (u_settle1 μ f h w) f 5 (s_limited (u_settle1 μ f h w) f (FP.d2l (zmul (zmul (zD (u_settle1 μ f h w) f 4) h) (zmul (FP.l2d (s_lesser (u_settle1 μ f h w) f)) k0001))))
def u_felt (μ : ZMem) (f : Nat) (x : Option Nat) : ZMem := match x with
  | none => μ
  | some a => u_feel μ a (zD μ f 4)
def u_settle (μ : ZMem) (f : Nat) (h w : UInt64) : ZMem := if s_exists (u_settle0 μ f) f = 0 then u_settle0 μ f else u_felt (u_felt (u_settle2 μ f h w) f (zR μ f 0)) f (zR μ f 1)
theorem zR_u_felt (μ : ZMem) (f : Nat) (x : Option Nat) : zR (u_felt μ f x) = zR μ := by
  unfold u_felt
  cases x with
  | none => rfl
  | some a => exact zR_u_feel _ _ _
theorem zR_u_settle (μ : ZMem) (f : Nat) (h w : UInt64) : zR (u_settle μ f h w) = zR μ := by
  unfold u_settle
  split
  · rfl
  · rw [zR_u_felt, zR_u_felt]
    rfl
set_option maxHeartbeats 4000000 in
set_option maxRecDepth 100000 in
theorem m_X1_settle {g : ZG} {μ : ZMem} {f : Nat} (hO : zO g 1 f) (hW : zWf g μ) {h w : UInt64} : zCab g RX1 yX1_settle cX1_settle 7 (none) (zrm 2) [zr (some f), zd h, zd w] μ none (u_settle μ f h w) := by
  refine zCab_w (by decide +kernel) rfl (Nat.le_of_ble_eq_true rfl) ?_
  refine zx_aload_n dX1_settle_0 rfl rfl ?_
  refine zx_lconst 0 dX1_settle_1 (by decide) ?_
  refine zx_putL zf_X1_43 (by assumption) rfl dX1_settle_2 ?_
  refine zx_aload_n dX1_settle_5 rfl rfl ?_
  refine zx_callV1 _ zv_X1_47 (m_X1_exists hO hW) (by assumption) (by decide) rfl rfl rfl ⟨rfl, rfl, (Nat.le_of_ble_eq_true rfl), (Nat.le_of_ble_eq_true rfl)⟩ (Nat.le_of_ble_eq_true rfl) dX1_settle_6 ?_
  refine zx_if_ne (tgt := 13) dX1_settle_9 (by decide) (fun c_9 => ?_) (fun c_9 => ?_)
  · skip
    refine zx_aload_n dX1_settle_13 rfl rfl ?_
    refine zx_aload_n dX1_settle_14 rfl rfl ?_
    refine zx_getR zf_X1_7 (by assumption) (by first | assumption | rfl) rfl dX1_settle_15 ?_
    refine zx_callV1 _ zv_X1_51 (m_X1_surfaceOf (μ := u_settle0 μ f) hO hW (fun c hc => hW 1 f 0 c hO hc)) (by assumption) (by decide) rfl rfl rfl ⟨rfl, rfl, (Nat.le_of_ble_eq_true rfl), (Nat.le_of_ble_eq_true rfl)⟩ (Nat.le_of_ble_eq_true rfl) dX1_settle_18 ?_
    refine zx_aload_n dX1_settle_21 rfl rfl ?_
    refine zx_aload_n dX1_settle_22 rfl rfl ?_
    refine zx_getR zf_X1_13 (by assumption) (by first | assumption | rfl) rfl dX1_settle_23 ?_
    refine zx_callV1 _ zv_X1_51 (m_X1_surfaceOf (μ := u_settle0 μ f) hO hW (fun c hc => hW 1 f 1 c hO hc)) (by assumption) (by decide) rfl rfl rfl ⟨rfl, rfl, (Nat.le_of_ble_eq_true rfl), (Nat.le_of_ble_eq_true rfl)⟩ (Nat.le_of_ble_eq_true rfl) dX1_settle_26 ?_
    refine zx_dsub dX1_settle_29 ?_
    refine zx_dstore dX1_settle_30 (Nat.le_of_ble_eq_true rfl) ?_
    refine zx_aload_n dX1_settle_32 rfl rfl ?_
    refine zx_aload_n dX1_settle_33 rfl rfl ?_
    refine zx_getD zf_X1_39 (by assumption) rfl dX1_settle_34 ?_
    refine zx_dload_n dX1_settle_37 rfl rfl ?_
    refine zx_ldc2d 4576808701761150024 zk_X1_55 (by decide +kernel) dX1_settle_38 ?_
    refine zx_dload dX1_settle_41 rfl ?_
    refine zx_dmul dX1_settle_43 ?_
    refine zx_ldc2d 4532020583610935537 zk_X1_57 (by decide +kernel) dX1_settle_44 ?_
    refine zx_dload_n dX1_settle_47 rfl rfl ?_
    refine zx_dmul dX1_settle_48 ?_
    refine zx_dadd dX1_settle_49 ?_
    refine zx_dmul dX1_settle_50 ?_
    refine zx_dadd dX1_settle_51 ?_
    refine zx_dconst1 dX1_settle_52 ?_
    refine zx_ldc2d 4566758108544739836 zk_X1_59 (by decide +kernel) dX1_settle_53 ?_
    refine zx_dload_n dX1_settle_56 rfl rfl ?_
    refine zx_dmul dX1_settle_57 ?_
    refine zx_aload_n dX1_settle_58 rfl rfl ?_
    refine zx_getD zf_X1_39 (by assumption) rfl dX1_settle_59 ?_
    refine zx_callN1 _ zn_X1_61 m_X6_sizeOf rfl rfl ⟨rfl, rfl, (Nat.le_of_ble_eq_true rfl), (Nat.le_of_ble_eq_true rfl)⟩ (Nat.le_of_ble_eq_true rfl) dX1_settle_62 ?_
    refine zx_dmul dX1_settle_65 ?_
    refine zx_dadd dX1_settle_66 ?_
    refine zx_ddiv dX1_settle_67 ?_
    refine zx_putD zf_X1_39 (by assumption) rfl dX1_settle_68 ?_
    refine zx_aload_n dX1_settle_71 rfl rfl ?_
    refine zx_aload_n dX1_settle_72 rfl rfl ?_
    refine zx_aload_n dX1_settle_73 rfl rfl ?_
    refine zx_getD zf_X1_39 (by assumption) rfl dX1_settle_74 ?_
    refine zx_dload_n dX1_settle_77 rfl rfl ?_
    refine zx_dmul dX1_settle_78 ?_
    refine zx_aload_n dX1_settle_79 rfl rfl ?_
    refine zx_callV1 _ zv_X1_67 (m_X1_lesserParts (μ := u_settle1 μ f h w) hO hW) (by assumption) (by decide) rfl rfl rfl ⟨rfl, rfl, (Nat.le_of_ble_eq_true rfl), (Nat.le_of_ble_eq_true rfl)⟩ (Nat.le_of_ble_eq_true rfl) dX1_settle_80 ?_
    refine zx_l2d dX1_settle_83 ?_
    refine zx_ldc2d 4562254508917369340 zk_X1_71 (by decide +kernel) dX1_settle_84 ?_
    refine zx_dmul dX1_settle_87 ?_
    refine zx_dmul dX1_settle_88 ?_
    refine zx_d2l dX1_settle_89 ?_
    refine zx_callV1 _ zv_X1_73 (m_X1_limited (μ := u_settle1 μ f h w) hO hW) (by assumption) (by decide) rfl rfl rfl ⟨rfl, rfl, (Nat.le_of_ble_eq_true rfl), (Nat.le_of_ble_eq_true rfl)⟩ (Nat.le_of_ble_eq_true rfl) dX1_settle_90 ?_
    refine zx_putL zf_X1_43 (by assumption) rfl dX1_settle_93 ?_
    refine zx_aload_n dX1_settle_96 rfl rfl ?_
    refine zx_getR zf_X1_7 (by assumption) (show _ = zR μ f 0 from rfl) rfl dX1_settle_97 ?_
    refine zx_ifnull (tgt := 114) dX1_settle_100 (by decide) (fun c_100 => ?_) (fun r_100 c_100 => ?_)
    · skip
      refine zx_aload_n dX1_settle_114 rfl rfl ?_
      refine zx_getR zf_X1_13 (by assumption) (show _ = zR μ f 1 from by first | rfl | (rw [zR_u_feel]; rfl)) rfl dX1_settle_115 ?_
      refine zx_ifnull (tgt := 132) dX1_settle_118 (by decide) (fun c_118 => ?_) (fun r_118 c_118 => ?_)
      · skip
        exact zx_return rfl rfl (by (refine Eq.trans (b := u_felt (u_felt (u_settle2 μ f h w) f none) f none) (by show u_settle μ f h w = _; unfold u_settle; rw [if_neg (show ¬ s_exists (u_settle0 μ f) f = 0 from c_9), c_100, c_118]) rfl)) dX1_settle_132
      · skip
        have hO_118 : zO g 0 r_118 := hW 1 _ _ _ (by assumption) c_118
        refine zx_aload_n dX1_settle_121 rfl rfl ?_
        refine zx_getR zf_X1_13 (by assumption) (show _ = some r_118 from by first | exact c_118 | (rw [zR_u_feel]; exact c_118)) rfl dX1_settle_122 ?_
        refine zx_aload_n dX1_settle_125 rfl rfl ?_
        refine zx_getD zf_X1_39 (by assumption) rfl dX1_settle_126 ?_
        refine zx_callV0 _ zv_X1_77 (m_X0_feel (by assumption)) (by assumption) (by decide) rfl rfl rfl ⟨rfl, rfl, (Nat.le_of_ble_eq_true rfl), (Nat.le_of_ble_eq_true rfl)⟩ (Nat.le_of_ble_eq_true rfl) dX1_settle_129 ?_
        exact zx_return rfl rfl (by (refine Eq.trans (b := u_felt (u_felt (u_settle2 μ f h w) f none) f (some r_118)) (by show u_settle μ f h w = _; unfold u_settle; rw [if_neg (show ¬ s_exists (u_settle0 μ f) f = 0 from c_9), c_100, c_118]) rfl)) dX1_settle_132
    · skip
      have hO_100 : zO g 0 r_100 := hW 1 _ _ _ (by assumption) c_100
      refine zx_aload_n dX1_settle_103 rfl rfl ?_
      refine zx_getR zf_X1_7 (by assumption) (show _ = some r_100 from c_100) rfl dX1_settle_104 ?_
      refine zx_aload_n dX1_settle_107 rfl rfl ?_
      refine zx_getD zf_X1_39 (by assumption) rfl dX1_settle_108 ?_
      refine zx_callV0 _ zv_X1_77 (m_X0_feel (by assumption)) (by assumption) (by decide) rfl rfl rfl ⟨rfl, rfl, (Nat.le_of_ble_eq_true rfl), (Nat.le_of_ble_eq_true rfl)⟩ (Nat.le_of_ble_eq_true rfl) dX1_settle_111 ?_
      refine zx_aload_n dX1_settle_114 rfl rfl ?_
      refine zx_getR zf_X1_13 (by assumption) (show _ = zR μ f 1 from by first | rfl | (rw [zR_u_feel]; rfl)) rfl dX1_settle_115 ?_
      refine zx_ifnull (tgt := 132) dX1_settle_118 (by decide) (fun c_118 => ?_) (fun r_118 c_118 => ?_)
      · skip
        exact zx_return rfl rfl (by (refine Eq.trans (b := u_felt (u_felt (u_settle2 μ f h w) f (some r_100)) f none) (by show u_settle μ f h w = _; unfold u_settle; rw [if_neg (show ¬ s_exists (u_settle0 μ f) f = 0 from c_9), c_100, c_118]) rfl)) dX1_settle_132
      · skip
        have hO_118 : zO g 0 r_118 := hW 1 _ _ _ (by assumption) c_118
        refine zx_aload_n dX1_settle_121 rfl rfl ?_
        refine zx_getR zf_X1_13 (by assumption) (show _ = some r_118 from by first | exact c_118 | (rw [zR_u_feel]; exact c_118)) rfl dX1_settle_122 ?_
        refine zx_aload_n dX1_settle_125 rfl rfl ?_
        refine zx_getD zf_X1_39 (by assumption) rfl dX1_settle_126 ?_
        refine zx_callV0 _ zv_X1_77 (m_X0_feel (by assumption)) (by assumption) (by decide) rfl rfl rfl ⟨rfl, rfl, (Nat.le_of_ble_eq_true rfl), (Nat.le_of_ble_eq_true rfl)⟩ (Nat.le_of_ble_eq_true rfl) dX1_settle_129 ?_
        exact zx_return rfl rfl (by (refine Eq.trans (b := u_felt (u_felt (u_settle2 μ f h w) f (some r_100)) f (some r_118)) (by show u_settle μ f h w = _; unfold u_settle; rw [if_neg (show ¬ s_exists (u_settle0 μ f) f = 0 from c_9), c_100, c_118]) rfl)) dX1_settle_132
  · skip
    exact zx_return rfl rfl (by (show u_settle μ f h w = _; unfold u_settle; rw [if_pos (show s_exists (u_settle0 μ f) f = 0 from c_9)]; rfl)) dX1_settle_12

def s_from (μ : ZMem) (f : Nat) : Option Nat := if zL μ f 5 < 0 then zR μ f 1 else zR μ f 0
def s_to (μ : ZMem) (f : Nat) : Option Nat := if zL μ f 5 < 0 then zR μ f 0 else zR μ f 1
def s_abs (n : Int64) : Int64 := if n < 0 then -n else n
def u_carry (μ : ZMem) (f : Nat) : ZMem := if zL μ f 5 = 0 then μ else
  (fun μ2 : ZMem => match zR μ f 2 with
    | none => μ2
    | some s => zsL μ2 s 4 (zL μ2 s 4 + (match s_from μ f with
      | none => s_abs (zL μ f 5)
      | some _ => -s_abs (zL μ f 5))))
  ((fun μ1 : ZMem => match s_from μ f with
    | none => μ1
    | some a => u_lose μ1 a (s_abs (zL μ f 5)))
  (match s_to μ f with
    | none => μ
    | some t => u_gain μ t (s_abs (zL μ f 5)) (match s_from μ f with
      | none => k8
      | some a => zD μ a 3) (match s_from μ f with
      | none => k34
      | some a => zD μ a 4)))
set_option maxHeartbeats 4000000 in
set_option maxRecDepth 100000 in
theorem m_X1_carry {g : ZG} {μ : ZMem} {f : Nat} (hO : zO g 1 f) (hW : zWf g μ) : zCab g RX1 yX1_carry cX1_carry 5 (none) (zrm 1) [zr (some f)] μ none (u_carry μ f) := by
  refine zCab_w (by decide +kernel) rfl (Nat.le_of_ble_eq_true rfl) ?_
  refine zx_aload_n dX1_carry_0 rfl rfl ?_
  refine zx_getL zf_X1_43 (by assumption) rfl dX1_carry_1 ?_
  refine zx_lconst 0 dX1_carry_4 (by decide) ?_
  refine zx_lc_ne (tgt := 10) dX1_carry_5 dX1_carry_6 (by decide) (fun c_5 => ?_) (fun c_5 => ?_)
  · skip
    refine zx_aload_n dX1_carry_10 rfl rfl ?_
    refine zx_getL zf_X1_43 (by assumption) rfl dX1_carry_11 ?_
    refine zx_lconst 0 dX1_carry_14 (by decide) ?_
    refine zx_lc_ge (tgt := 26) dX1_carry_15 dX1_carry_16 (by decide) (fun c_15 => ?_) (fun c_15 => ?_)
    · skip
      refine zx_aload_n dX1_carry_26 rfl rfl ?_
      refine zx_getR zf_X1_7 (by assumption) (by first | assumption | rfl) rfl dX1_carry_27 ?_
      refine zx_astore_n dX1_carry_30 rfl (Nat.le_of_ble_eq_true rfl) ?_
      refine zx_aload_n dX1_carry_31 rfl rfl ?_
      refine zx_getL zf_X1_43 (by assumption) rfl dX1_carry_32 ?_
      refine zx_lconst 0 dX1_carry_35 (by decide) ?_
      refine zx_lc_ge (tgt := 47) dX1_carry_36 dX1_carry_37 (by decide) (fun _ => ?_) (fun k_36 => by first | exact absurd k_36 c_15 | exact absurd c_15 k_36 | (rw [c_15] at k_36; cases k_36) | simp_all)
      refine zx_aload_n dX1_carry_47 rfl rfl ?_
      refine zx_getR zf_X1_13 (by assumption) (by first | assumption | rfl) rfl dX1_carry_48 ?_
      refine zx_astore_n dX1_carry_51 rfl (Nat.le_of_ble_eq_true rfl) ?_
      refine zx_aload_n dX1_carry_52 rfl rfl ?_
      refine zx_getL zf_X1_43 (by assumption) rfl dX1_carry_53 ?_
      refine zx_lconst 0 dX1_carry_56 (by decide) ?_
      refine zx_lc_ge (tgt := 69) dX1_carry_57 dX1_carry_58 (by decide) (fun _ => ?_) (fun k_57 => by first | exact absurd k_57 c_15 | exact absurd c_15 k_57 | (rw [c_15] at k_57; cases k_57) | simp_all)
      refine zx_aload_n dX1_carry_69 rfl rfl ?_
      refine zx_getL zf_X1_43 (by assumption) rfl dX1_carry_70 ?_
      refine zx_lstore_n dX1_carry_73 rfl (Nat.le_of_ble_eq_true rfl) ?_
      refine zx_aload_n dX1_carry_74 rfl rfl ?_
      refine zx_ifnull (tgt := 111) dX1_carry_75 (by decide) (fun c_75 => ?_) (fun r_75 c_75 => ?_)
      · skip
        rw [c_75]
        refine zx_aload_n dX1_carry_111 rfl rfl ?_
        refine zx_ifnull (tgt := 120) dX1_carry_112 (by decide) (fun c_112 => ?_) (fun r_112 c_112 => ?_)
        · skip
          rw [c_112]
          refine zx_aload_n dX1_carry_120 rfl rfl ?_
          refine zx_getR zf_X1_16 (by assumption) (show _ = zR μ f 2 from by first | rfl | (simp only [zR_u_gain, zR_u_lose])) rfl dX1_carry_121 ?_
          refine zx_ifnull (tgt := 152) dX1_carry_124 (by decide) (fun c_124 => ?_) (fun r_124 c_124 => ?_)
          · skip
            exact zx_return rfl rfl (by first | rfl | (simp only [zKm, u_carry, s_from, s_to, s_abs, c_5, c_15, c_75, c_112, c_124, if_true, if_false, reduceIte]; done) | (simp only [zKm, u_carry, s_from, s_to, s_abs, c_5, c_15, c_75, c_112, c_124, if_true, if_false, reduceIte]; rfl) | simp [zKm, u_carry, s_from, s_to, s_abs, c_5, c_15, c_75, c_112, c_124]) dX1_carry_152
          · skip
            have hO_124 : zO g 3 r_124 := hW 1 _ _ _ hO c_124
            refine zx_aload_n dX1_carry_127 rfl rfl ?_
            refine zx_getR zf_X1_16 (by assumption) (show _ = some r_124 from by first | exact c_124 | (simp only [zR_u_gain, zR_u_lose]; exact c_124)) rfl dX1_carry_128 ?_
            refine zx_aload_n dX1_carry_131 rfl rfl ?_
            refine zx_getR zf_X1_16 (by assumption) (show _ = some r_124 from by first | exact c_124 | (simp only [zR_u_gain, zR_u_lose]; exact c_124)) rfl dX1_carry_132 ?_
            refine zx_getL zf_X1_99 (by assumption) rfl dX1_carry_135 ?_
            refine zx_aload_n dX1_carry_138 rfl rfl ?_
            refine zx_ifnonnull (tgt := 146) dX1_carry_139 (by decide) (fun _ => ?_) (fun _ k_139 => by cases k_139)
            refine zx_lload_n dX1_carry_142 rfl rfl ?_
            refine zx_goto (tgt := 148) dX1_carry_143 (by decide) ?_
            refine zx_ladd dX1_carry_148 ?_
            refine zx_putL zf_X1_99 (by assumption) rfl dX1_carry_149 ?_
            exact zx_return rfl rfl (by first | rfl | (simp only [zKm, u_carry, s_from, s_to, s_abs, c_5, c_15, c_75, c_112, c_124, if_true, if_false, reduceIte]; done) | (simp only [zKm, u_carry, s_from, s_to, s_abs, c_5, c_15, c_75, c_112, c_124, if_true, if_false, reduceIte]; rfl) | simp [zKm, u_carry, s_from, s_to, s_abs, c_5, c_15, c_75, c_112, c_124]) dX1_carry_152
        · skip
          have hO_112 : zO g 0 r_112 := hW 1 _ _ _ (by assumption) c_112
          rw [c_112]
          refine zx_aload_n dX1_carry_115 rfl rfl ?_
          refine zx_lload_n dX1_carry_116 rfl rfl ?_
          refine zx_callV0 _ zv_X1_95 (m_X0_lose (by assumption)) (by assumption) (by decide) rfl rfl rfl ⟨rfl, rfl, (Nat.le_of_ble_eq_true rfl), (Nat.le_of_ble_eq_true rfl)⟩ (Nat.le_of_ble_eq_true rfl) dX1_carry_117 ?_
          refine zx_aload_n dX1_carry_120 rfl rfl ?_
          refine zx_getR zf_X1_16 (by assumption) (show _ = zR μ f 2 from by first | rfl | (simp only [zR_u_gain, zR_u_lose])) rfl dX1_carry_121 ?_
          refine zx_ifnull (tgt := 152) dX1_carry_124 (by decide) (fun c_124 => ?_) (fun r_124 c_124 => ?_)
          · skip
            exact zx_return rfl rfl (by first | rfl | (simp only [zKm, u_carry, s_from, s_to, s_abs, c_5, c_15, c_75, c_112, c_124, if_true, if_false, reduceIte]; done) | (simp only [zKm, u_carry, s_from, s_to, s_abs, c_5, c_15, c_75, c_112, c_124, if_true, if_false, reduceIte]; rfl) | simp [zKm, u_carry, s_from, s_to, s_abs, c_5, c_15, c_75, c_112, c_124]) dX1_carry_152
          · skip
            have hO_124 : zO g 3 r_124 := hW 1 _ _ _ hO c_124
            refine zx_aload_n dX1_carry_127 rfl rfl ?_
            refine zx_getR zf_X1_16 (by assumption) (show _ = some r_124 from by first | exact c_124 | (simp only [zR_u_gain, zR_u_lose]; exact c_124)) rfl dX1_carry_128 ?_
            refine zx_aload_n dX1_carry_131 rfl rfl ?_
            refine zx_getR zf_X1_16 (by assumption) (show _ = some r_124 from by first | exact c_124 | (simp only [zR_u_gain, zR_u_lose]; exact c_124)) rfl dX1_carry_132 ?_
            refine zx_getL zf_X1_99 (by assumption) rfl dX1_carry_135 ?_
            refine zx_aload_n dX1_carry_138 rfl rfl ?_
            refine zx_ifnonnull (tgt := 146) dX1_carry_139 (by decide) (fun k_139 => by cases k_139) (fun r_139 k_139 => ?_)
            cases k_139
            refine zx_lload_n dX1_carry_146 rfl rfl ?_
            refine zx_lneg dX1_carry_147 ?_
            refine zx_ladd dX1_carry_148 ?_
            refine zx_putL zf_X1_99 (by assumption) rfl dX1_carry_149 ?_
            exact zx_return rfl rfl (by first | rfl | (simp only [zKm, u_carry, s_from, s_to, s_abs, c_5, c_15, c_75, c_112, c_124, if_true, if_false, reduceIte]; done) | (simp only [zKm, u_carry, s_from, s_to, s_abs, c_5, c_15, c_75, c_112, c_124, if_true, if_false, reduceIte]; rfl) | simp [zKm, u_carry, s_from, s_to, s_abs, c_5, c_15, c_75, c_112, c_124]) dX1_carry_152
      · skip
        have hO_75 : zO g 0 r_75 := hW 1 _ _ _ (by assumption) c_75
        rw [c_75]
        refine zx_aload_n dX1_carry_78 rfl rfl ?_
        refine zx_lload_n dX1_carry_79 rfl rfl ?_
        refine zx_aload_n dX1_carry_80 rfl rfl ?_
        refine zx_ifnonnull (tgt := 90) dX1_carry_81 (by decide) (fun c_81 => ?_) (fun r_81 c_81 => ?_)
        · skip
          rw [c_81]
          refine zx_ldc2d 4620693217682128896 zk_X1_81 (by decide +kernel) dX1_carry_84 ?_
          refine zx_goto (tgt := 94) dX1_carry_87 (by decide) ?_
          refine zx_aload_n dX1_carry_94 rfl rfl ?_
          refine zx_ifnonnull (tgt := 104) dX1_carry_95 (by decide) (fun _ => ?_) (fun _ k_95 => by cases k_95)
          refine zx_ldc2d 4629981891913580544 zk_X1_86 (by decide +kernel) dX1_carry_98 ?_
          refine zx_goto (tgt := 108) dX1_carry_101 (by decide) ?_
          refine zx_callV0 _ zv_X1_91 (m_X0_gain (by assumption)) (by assumption) (by decide) rfl rfl rfl ⟨rfl, rfl, (Nat.le_of_ble_eq_true rfl), (Nat.le_of_ble_eq_true rfl)⟩ (Nat.le_of_ble_eq_true rfl) dX1_carry_108 ?_
          refine zx_aload_n dX1_carry_111 rfl rfl ?_
          refine zx_ifnull (tgt := 120) dX1_carry_112 (by decide) (fun _ => ?_) (fun _ k_112 => by cases k_112)
          refine zx_aload_n dX1_carry_120 rfl rfl ?_
          refine zx_getR zf_X1_16 (by assumption) (show _ = zR μ f 2 from by first | rfl | (simp only [zR_u_gain, zR_u_lose])) rfl dX1_carry_121 ?_
          refine zx_ifnull (tgt := 152) dX1_carry_124 (by decide) (fun c_124 => ?_) (fun r_124 c_124 => ?_)
          · skip
            exact zx_return rfl rfl (by first | rfl | (simp only [zKm, u_carry, s_from, s_to, s_abs, c_5, c_15, c_75, c_81, c_124, if_true, if_false, reduceIte]; done) | (simp only [zKm, u_carry, s_from, s_to, s_abs, c_5, c_15, c_75, c_81, c_124, if_true, if_false, reduceIte]; rfl) | simp [zKm, u_carry, s_from, s_to, s_abs, c_5, c_15, c_75, c_81, c_124]) dX1_carry_152
          · skip
            have hO_124 : zO g 3 r_124 := hW 1 _ _ _ hO c_124
            refine zx_aload_n dX1_carry_127 rfl rfl ?_
            refine zx_getR zf_X1_16 (by assumption) (show _ = some r_124 from by first | exact c_124 | (simp only [zR_u_gain, zR_u_lose]; exact c_124)) rfl dX1_carry_128 ?_
            refine zx_aload_n dX1_carry_131 rfl rfl ?_
            refine zx_getR zf_X1_16 (by assumption) (show _ = some r_124 from by first | exact c_124 | (simp only [zR_u_gain, zR_u_lose]; exact c_124)) rfl dX1_carry_132 ?_
            refine zx_getL zf_X1_99 (by assumption) rfl dX1_carry_135 ?_
            refine zx_aload_n dX1_carry_138 rfl rfl ?_
            refine zx_ifnonnull (tgt := 146) dX1_carry_139 (by decide) (fun _ => ?_) (fun _ k_139 => by cases k_139)
            refine zx_lload_n dX1_carry_142 rfl rfl ?_
            refine zx_goto (tgt := 148) dX1_carry_143 (by decide) ?_
            refine zx_ladd dX1_carry_148 ?_
            refine zx_putL zf_X1_99 (by assumption) rfl dX1_carry_149 ?_
            exact zx_return rfl rfl (by first | rfl | (simp only [zKm, u_carry, s_from, s_to, s_abs, c_5, c_15, c_75, c_81, c_124, if_true, if_false, reduceIte]; done) | (simp only [zKm, u_carry, s_from, s_to, s_abs, c_5, c_15, c_75, c_81, c_124, if_true, if_false, reduceIte]; rfl) | simp [zKm, u_carry, s_from, s_to, s_abs, c_5, c_15, c_75, c_81, c_124]) dX1_carry_152
        · skip
          have hO_81 : zO g 0 r_81 := hW 1 _ _ _ (by assumption) c_81
          rw [c_81]
          refine zx_aload_n dX1_carry_90 rfl rfl ?_
          refine zx_getD zf_X1_83 (by assumption) rfl dX1_carry_91 ?_
          refine zx_aload_n dX1_carry_94 rfl rfl ?_
          refine zx_ifnonnull (tgt := 104) dX1_carry_95 (by decide) (fun k_95 => by cases k_95) (fun r_95 k_95 => ?_)
          cases k_95
          refine zx_aload_n dX1_carry_104 rfl rfl ?_
          refine zx_getD zf_X1_88 (by assumption) rfl dX1_carry_105 ?_
          refine zx_callV0 _ zv_X1_91 (m_X0_gain (by assumption)) (by assumption) (by decide) rfl rfl rfl ⟨rfl, rfl, (Nat.le_of_ble_eq_true rfl), (Nat.le_of_ble_eq_true rfl)⟩ (Nat.le_of_ble_eq_true rfl) dX1_carry_108 ?_
          refine zx_aload_n dX1_carry_111 rfl rfl ?_
          refine zx_ifnull (tgt := 120) dX1_carry_112 (by decide) (fun k_112 => by cases k_112) (fun r_112 k_112 => ?_)
          cases k_112
          refine zx_aload_n dX1_carry_115 rfl rfl ?_
          refine zx_lload_n dX1_carry_116 rfl rfl ?_
          refine zx_callV0 _ zv_X1_95 (m_X0_lose (by assumption)) (by assumption) (by decide) rfl rfl rfl ⟨rfl, rfl, (Nat.le_of_ble_eq_true rfl), (Nat.le_of_ble_eq_true rfl)⟩ (Nat.le_of_ble_eq_true rfl) dX1_carry_117 ?_
          refine zx_aload_n dX1_carry_120 rfl rfl ?_
          refine zx_getR zf_X1_16 (by assumption) (show _ = zR μ f 2 from by first | rfl | (simp only [zR_u_gain, zR_u_lose])) rfl dX1_carry_121 ?_
          refine zx_ifnull (tgt := 152) dX1_carry_124 (by decide) (fun c_124 => ?_) (fun r_124 c_124 => ?_)
          · skip
            exact zx_return rfl rfl (by first | rfl | (simp only [zKm, u_carry, s_from, s_to, s_abs, c_5, c_15, c_75, c_81, c_124, if_true, if_false, reduceIte]; done) | (simp only [zKm, u_carry, s_from, s_to, s_abs, c_5, c_15, c_75, c_81, c_124, if_true, if_false, reduceIte]; rfl) | simp [zKm, u_carry, s_from, s_to, s_abs, c_5, c_15, c_75, c_81, c_124]) dX1_carry_152
          · skip
            have hO_124 : zO g 3 r_124 := hW 1 _ _ _ hO c_124
            refine zx_aload_n dX1_carry_127 rfl rfl ?_
            refine zx_getR zf_X1_16 (by assumption) (show _ = some r_124 from by first | exact c_124 | (simp only [zR_u_gain, zR_u_lose]; exact c_124)) rfl dX1_carry_128 ?_
            refine zx_aload_n dX1_carry_131 rfl rfl ?_
            refine zx_getR zf_X1_16 (by assumption) (show _ = some r_124 from by first | exact c_124 | (simp only [zR_u_gain, zR_u_lose]; exact c_124)) rfl dX1_carry_132 ?_
            refine zx_getL zf_X1_99 (by assumption) rfl dX1_carry_135 ?_
            refine zx_aload_n dX1_carry_138 rfl rfl ?_
            refine zx_ifnonnull (tgt := 146) dX1_carry_139 (by decide) (fun k_139 => by cases k_139) (fun r_139 k_139 => ?_)
            cases k_139
            refine zx_lload_n dX1_carry_146 rfl rfl ?_
            refine zx_lneg dX1_carry_147 ?_
            refine zx_ladd dX1_carry_148 ?_
            refine zx_putL zf_X1_99 (by assumption) rfl dX1_carry_149 ?_
            exact zx_return rfl rfl (by first | rfl | (simp only [zKm, u_carry, s_from, s_to, s_abs, c_5, c_15, c_75, c_81, c_124, if_true, if_false, reduceIte]; done) | (simp only [zKm, u_carry, s_from, s_to, s_abs, c_5, c_15, c_75, c_81, c_124, if_true, if_false, reduceIte]; rfl) | simp [zKm, u_carry, s_from, s_to, s_abs, c_5, c_15, c_75, c_81, c_124]) dX1_carry_152
    · skip
      refine zx_aload_n dX1_carry_19 rfl rfl ?_
      refine zx_getR zf_X1_13 (by assumption) (by first | assumption | rfl) rfl dX1_carry_20 ?_
      refine zx_goto (tgt := 30) dX1_carry_23 (by decide) ?_
      refine zx_astore_n dX1_carry_30 rfl (Nat.le_of_ble_eq_true rfl) ?_
      refine zx_aload_n dX1_carry_31 rfl rfl ?_
      refine zx_getL zf_X1_43 (by assumption) rfl dX1_carry_32 ?_
      refine zx_lconst 0 dX1_carry_35 (by decide) ?_
      refine zx_lc_ge (tgt := 47) dX1_carry_36 dX1_carry_37 (by decide) (fun k_36 => by first | exact absurd k_36 c_15 | exact absurd c_15 k_36 | (rw [c_15] at k_36; cases k_36) | simp_all) (fun _ => ?_)
      refine zx_aload_n dX1_carry_40 rfl rfl ?_
      refine zx_getR zf_X1_7 (by assumption) (by first | assumption | rfl) rfl dX1_carry_41 ?_
      refine zx_goto (tgt := 51) dX1_carry_44 (by decide) ?_
      refine zx_astore_n dX1_carry_51 rfl (Nat.le_of_ble_eq_true rfl) ?_
      refine zx_aload_n dX1_carry_52 rfl rfl ?_
      refine zx_getL zf_X1_43 (by assumption) rfl dX1_carry_53 ?_
      refine zx_lconst 0 dX1_carry_56 (by decide) ?_
      refine zx_lc_ge (tgt := 69) dX1_carry_57 dX1_carry_58 (by decide) (fun k_57 => by first | exact absurd k_57 c_15 | exact absurd c_15 k_57 | (rw [c_15] at k_57; cases k_57) | simp_all) (fun _ => ?_)
      refine zx_aload_n dX1_carry_61 rfl rfl ?_
      refine zx_getL zf_X1_43 (by assumption) rfl dX1_carry_62 ?_
      refine zx_lneg dX1_carry_65 ?_
      refine zx_goto (tgt := 73) dX1_carry_66 (by decide) ?_
      refine zx_lstore_n dX1_carry_73 rfl (Nat.le_of_ble_eq_true rfl) ?_
      refine zx_aload_n dX1_carry_74 rfl rfl ?_
      refine zx_ifnull (tgt := 111) dX1_carry_75 (by decide) (fun c_75 => ?_) (fun r_75 c_75 => ?_)
      · skip
        rw [c_75]
        refine zx_aload_n dX1_carry_111 rfl rfl ?_
        refine zx_ifnull (tgt := 120) dX1_carry_112 (by decide) (fun c_112 => ?_) (fun r_112 c_112 => ?_)
        · skip
          rw [c_112]
          refine zx_aload_n dX1_carry_120 rfl rfl ?_
          refine zx_getR zf_X1_16 (by assumption) (show _ = zR μ f 2 from by first | rfl | (simp only [zR_u_gain, zR_u_lose])) rfl dX1_carry_121 ?_
          refine zx_ifnull (tgt := 152) dX1_carry_124 (by decide) (fun c_124 => ?_) (fun r_124 c_124 => ?_)
          · skip
            exact zx_return rfl rfl (by first | rfl | (simp only [zKm, u_carry, s_from, s_to, s_abs, c_5, c_15, c_75, c_112, c_124, if_true, if_false, reduceIte]; done) | (simp only [zKm, u_carry, s_from, s_to, s_abs, c_5, c_15, c_75, c_112, c_124, if_true, if_false, reduceIte]; rfl) | simp [zKm, u_carry, s_from, s_to, s_abs, c_5, c_15, c_75, c_112, c_124]) dX1_carry_152
          · skip
            have hO_124 : zO g 3 r_124 := hW 1 _ _ _ hO c_124
            refine zx_aload_n dX1_carry_127 rfl rfl ?_
            refine zx_getR zf_X1_16 (by assumption) (show _ = some r_124 from by first | exact c_124 | (simp only [zR_u_gain, zR_u_lose]; exact c_124)) rfl dX1_carry_128 ?_
            refine zx_aload_n dX1_carry_131 rfl rfl ?_
            refine zx_getR zf_X1_16 (by assumption) (show _ = some r_124 from by first | exact c_124 | (simp only [zR_u_gain, zR_u_lose]; exact c_124)) rfl dX1_carry_132 ?_
            refine zx_getL zf_X1_99 (by assumption) rfl dX1_carry_135 ?_
            refine zx_aload_n dX1_carry_138 rfl rfl ?_
            refine zx_ifnonnull (tgt := 146) dX1_carry_139 (by decide) (fun _ => ?_) (fun _ k_139 => by cases k_139)
            refine zx_lload_n dX1_carry_142 rfl rfl ?_
            refine zx_goto (tgt := 148) dX1_carry_143 (by decide) ?_
            refine zx_ladd dX1_carry_148 ?_
            refine zx_putL zf_X1_99 (by assumption) rfl dX1_carry_149 ?_
            exact zx_return rfl rfl (by first | rfl | (simp only [zKm, u_carry, s_from, s_to, s_abs, c_5, c_15, c_75, c_112, c_124, if_true, if_false, reduceIte]; done) | (simp only [zKm, u_carry, s_from, s_to, s_abs, c_5, c_15, c_75, c_112, c_124, if_true, if_false, reduceIte]; rfl) | simp [zKm, u_carry, s_from, s_to, s_abs, c_5, c_15, c_75, c_112, c_124]) dX1_carry_152
        · skip
          have hO_112 : zO g 0 r_112 := hW 1 _ _ _ (by assumption) c_112
          rw [c_112]
          refine zx_aload_n dX1_carry_115 rfl rfl ?_
          refine zx_lload_n dX1_carry_116 rfl rfl ?_
          refine zx_callV0 _ zv_X1_95 (m_X0_lose (by assumption)) (by assumption) (by decide) rfl rfl rfl ⟨rfl, rfl, (Nat.le_of_ble_eq_true rfl), (Nat.le_of_ble_eq_true rfl)⟩ (Nat.le_of_ble_eq_true rfl) dX1_carry_117 ?_
          refine zx_aload_n dX1_carry_120 rfl rfl ?_
          refine zx_getR zf_X1_16 (by assumption) (show _ = zR μ f 2 from by first | rfl | (simp only [zR_u_gain, zR_u_lose])) rfl dX1_carry_121 ?_
          refine zx_ifnull (tgt := 152) dX1_carry_124 (by decide) (fun c_124 => ?_) (fun r_124 c_124 => ?_)
          · skip
            exact zx_return rfl rfl (by first | rfl | (simp only [zKm, u_carry, s_from, s_to, s_abs, c_5, c_15, c_75, c_112, c_124, if_true, if_false, reduceIte]; done) | (simp only [zKm, u_carry, s_from, s_to, s_abs, c_5, c_15, c_75, c_112, c_124, if_true, if_false, reduceIte]; rfl) | simp [zKm, u_carry, s_from, s_to, s_abs, c_5, c_15, c_75, c_112, c_124]) dX1_carry_152
          · skip
            have hO_124 : zO g 3 r_124 := hW 1 _ _ _ hO c_124
            refine zx_aload_n dX1_carry_127 rfl rfl ?_
            refine zx_getR zf_X1_16 (by assumption) (show _ = some r_124 from by first | exact c_124 | (simp only [zR_u_gain, zR_u_lose]; exact c_124)) rfl dX1_carry_128 ?_
            refine zx_aload_n dX1_carry_131 rfl rfl ?_
            refine zx_getR zf_X1_16 (by assumption) (show _ = some r_124 from by first | exact c_124 | (simp only [zR_u_gain, zR_u_lose]; exact c_124)) rfl dX1_carry_132 ?_
            refine zx_getL zf_X1_99 (by assumption) rfl dX1_carry_135 ?_
            refine zx_aload_n dX1_carry_138 rfl rfl ?_
            refine zx_ifnonnull (tgt := 146) dX1_carry_139 (by decide) (fun k_139 => by cases k_139) (fun r_139 k_139 => ?_)
            cases k_139
            refine zx_lload_n dX1_carry_146 rfl rfl ?_
            refine zx_lneg dX1_carry_147 ?_
            refine zx_ladd dX1_carry_148 ?_
            refine zx_putL zf_X1_99 (by assumption) rfl dX1_carry_149 ?_
            exact zx_return rfl rfl (by first | rfl | (simp only [zKm, u_carry, s_from, s_to, s_abs, c_5, c_15, c_75, c_112, c_124, if_true, if_false, reduceIte]; done) | (simp only [zKm, u_carry, s_from, s_to, s_abs, c_5, c_15, c_75, c_112, c_124, if_true, if_false, reduceIte]; rfl) | simp [zKm, u_carry, s_from, s_to, s_abs, c_5, c_15, c_75, c_112, c_124]) dX1_carry_152
      · skip
        have hO_75 : zO g 0 r_75 := hW 1 _ _ _ (by assumption) c_75
        rw [c_75]
        refine zx_aload_n dX1_carry_78 rfl rfl ?_
        refine zx_lload_n dX1_carry_79 rfl rfl ?_
        refine zx_aload_n dX1_carry_80 rfl rfl ?_
        refine zx_ifnonnull (tgt := 90) dX1_carry_81 (by decide) (fun c_81 => ?_) (fun r_81 c_81 => ?_)
        · skip
          rw [c_81]
          refine zx_ldc2d 4620693217682128896 zk_X1_81 (by decide +kernel) dX1_carry_84 ?_
          refine zx_goto (tgt := 94) dX1_carry_87 (by decide) ?_
          refine zx_aload_n dX1_carry_94 rfl rfl ?_
          refine zx_ifnonnull (tgt := 104) dX1_carry_95 (by decide) (fun _ => ?_) (fun _ k_95 => by cases k_95)
          refine zx_ldc2d 4629981891913580544 zk_X1_86 (by decide +kernel) dX1_carry_98 ?_
          refine zx_goto (tgt := 108) dX1_carry_101 (by decide) ?_
          refine zx_callV0 _ zv_X1_91 (m_X0_gain (by assumption)) (by assumption) (by decide) rfl rfl rfl ⟨rfl, rfl, (Nat.le_of_ble_eq_true rfl), (Nat.le_of_ble_eq_true rfl)⟩ (Nat.le_of_ble_eq_true rfl) dX1_carry_108 ?_
          refine zx_aload_n dX1_carry_111 rfl rfl ?_
          refine zx_ifnull (tgt := 120) dX1_carry_112 (by decide) (fun _ => ?_) (fun _ k_112 => by cases k_112)
          refine zx_aload_n dX1_carry_120 rfl rfl ?_
          refine zx_getR zf_X1_16 (by assumption) (show _ = zR μ f 2 from by first | rfl | (simp only [zR_u_gain, zR_u_lose])) rfl dX1_carry_121 ?_
          refine zx_ifnull (tgt := 152) dX1_carry_124 (by decide) (fun c_124 => ?_) (fun r_124 c_124 => ?_)
          · skip
            exact zx_return rfl rfl (by first | rfl | (simp only [zKm, u_carry, s_from, s_to, s_abs, c_5, c_15, c_75, c_81, c_124, if_true, if_false, reduceIte]; done) | (simp only [zKm, u_carry, s_from, s_to, s_abs, c_5, c_15, c_75, c_81, c_124, if_true, if_false, reduceIte]; rfl) | simp [zKm, u_carry, s_from, s_to, s_abs, c_5, c_15, c_75, c_81, c_124]) dX1_carry_152
          · skip
            have hO_124 : zO g 3 r_124 := hW 1 _ _ _ hO c_124
            refine zx_aload_n dX1_carry_127 rfl rfl ?_
            refine zx_getR zf_X1_16 (by assumption) (show _ = some r_124 from by first | exact c_124 | (simp only [zR_u_gain, zR_u_lose]; exact c_124)) rfl dX1_carry_128 ?_
            refine zx_aload_n dX1_carry_131 rfl rfl ?_
            refine zx_getR zf_X1_16 (by assumption) (show _ = some r_124 from by first | exact c_124 | (simp only [zR_u_gain, zR_u_lose]; exact c_124)) rfl dX1_carry_132 ?_
            refine zx_getL zf_X1_99 (by assumption) rfl dX1_carry_135 ?_
            refine zx_aload_n dX1_carry_138 rfl rfl ?_
            refine zx_ifnonnull (tgt := 146) dX1_carry_139 (by decide) (fun _ => ?_) (fun _ k_139 => by cases k_139)
            refine zx_lload_n dX1_carry_142 rfl rfl ?_
            refine zx_goto (tgt := 148) dX1_carry_143 (by decide) ?_
            refine zx_ladd dX1_carry_148 ?_
            refine zx_putL zf_X1_99 (by assumption) rfl dX1_carry_149 ?_
            exact zx_return rfl rfl (by first | rfl | (simp only [zKm, u_carry, s_from, s_to, s_abs, c_5, c_15, c_75, c_81, c_124, if_true, if_false, reduceIte]; done) | (simp only [zKm, u_carry, s_from, s_to, s_abs, c_5, c_15, c_75, c_81, c_124, if_true, if_false, reduceIte]; rfl) | simp [zKm, u_carry, s_from, s_to, s_abs, c_5, c_15, c_75, c_81, c_124]) dX1_carry_152
        · skip
          have hO_81 : zO g 0 r_81 := hW 1 _ _ _ (by assumption) c_81
          rw [c_81]
          refine zx_aload_n dX1_carry_90 rfl rfl ?_
          refine zx_getD zf_X1_83 (by assumption) rfl dX1_carry_91 ?_
          refine zx_aload_n dX1_carry_94 rfl rfl ?_
          refine zx_ifnonnull (tgt := 104) dX1_carry_95 (by decide) (fun k_95 => by cases k_95) (fun r_95 k_95 => ?_)
          cases k_95
          refine zx_aload_n dX1_carry_104 rfl rfl ?_
          refine zx_getD zf_X1_88 (by assumption) rfl dX1_carry_105 ?_
          refine zx_callV0 _ zv_X1_91 (m_X0_gain (by assumption)) (by assumption) (by decide) rfl rfl rfl ⟨rfl, rfl, (Nat.le_of_ble_eq_true rfl), (Nat.le_of_ble_eq_true rfl)⟩ (Nat.le_of_ble_eq_true rfl) dX1_carry_108 ?_
          refine zx_aload_n dX1_carry_111 rfl rfl ?_
          refine zx_ifnull (tgt := 120) dX1_carry_112 (by decide) (fun k_112 => by cases k_112) (fun r_112 k_112 => ?_)
          cases k_112
          refine zx_aload_n dX1_carry_115 rfl rfl ?_
          refine zx_lload_n dX1_carry_116 rfl rfl ?_
          refine zx_callV0 _ zv_X1_95 (m_X0_lose (by assumption)) (by assumption) (by decide) rfl rfl rfl ⟨rfl, rfl, (Nat.le_of_ble_eq_true rfl), (Nat.le_of_ble_eq_true rfl)⟩ (Nat.le_of_ble_eq_true rfl) dX1_carry_117 ?_
          refine zx_aload_n dX1_carry_120 rfl rfl ?_
          refine zx_getR zf_X1_16 (by assumption) (show _ = zR μ f 2 from by first | rfl | (simp only [zR_u_gain, zR_u_lose])) rfl dX1_carry_121 ?_
          refine zx_ifnull (tgt := 152) dX1_carry_124 (by decide) (fun c_124 => ?_) (fun r_124 c_124 => ?_)
          · skip
            exact zx_return rfl rfl (by first | rfl | (simp only [zKm, u_carry, s_from, s_to, s_abs, c_5, c_15, c_75, c_81, c_124, if_true, if_false, reduceIte]; done) | (simp only [zKm, u_carry, s_from, s_to, s_abs, c_5, c_15, c_75, c_81, c_124, if_true, if_false, reduceIte]; rfl) | simp [zKm, u_carry, s_from, s_to, s_abs, c_5, c_15, c_75, c_81, c_124]) dX1_carry_152
          · skip
            have hO_124 : zO g 3 r_124 := hW 1 _ _ _ hO c_124
            refine zx_aload_n dX1_carry_127 rfl rfl ?_
            refine zx_getR zf_X1_16 (by assumption) (show _ = some r_124 from by first | exact c_124 | (simp only [zR_u_gain, zR_u_lose]; exact c_124)) rfl dX1_carry_128 ?_
            refine zx_aload_n dX1_carry_131 rfl rfl ?_
            refine zx_getR zf_X1_16 (by assumption) (show _ = some r_124 from by first | exact c_124 | (simp only [zR_u_gain, zR_u_lose]; exact c_124)) rfl dX1_carry_132 ?_
            refine zx_getL zf_X1_99 (by assumption) rfl dX1_carry_135 ?_
            refine zx_aload_n dX1_carry_138 rfl rfl ?_
            refine zx_ifnonnull (tgt := 146) dX1_carry_139 (by decide) (fun k_139 => by cases k_139) (fun r_139 k_139 => ?_)
            cases k_139
            refine zx_lload_n dX1_carry_146 rfl rfl ?_
            refine zx_lneg dX1_carry_147 ?_
            refine zx_ladd dX1_carry_148 ?_
            refine zx_putL zf_X1_99 (by assumption) rfl dX1_carry_149 ?_
            exact zx_return rfl rfl (by first | rfl | (simp only [zKm, u_carry, s_from, s_to, s_abs, c_5, c_15, c_75, c_81, c_124, if_true, if_false, reduceIte]; done) | (simp only [zKm, u_carry, s_from, s_to, s_abs, c_5, c_15, c_75, c_81, c_124, if_true, if_false, reduceIte]; rfl) | simp [zKm, u_carry, s_from, s_to, s_abs, c_5, c_15, c_75, c_81, c_124]) dX1_carry_152
  · skip
    exact zx_return rfl rfl (by first | rfl | (simp only [zKm, u_carry, s_from, s_to, s_abs, c_5, if_true, if_false, reduceIte]; done) | (simp only [zKm, u_carry, s_from, s_to, s_abs, c_5, if_true, if_false, reduceIte]; rfl) | simp [zKm, u_carry, s_from, s_to, s_abs, c_5]) dX1_carry_9

