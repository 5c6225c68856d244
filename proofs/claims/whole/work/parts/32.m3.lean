def u_leave (μ : ZMem) (n : Nat) : ZMem := zsR μ n 1 none
set_option maxHeartbeats 4000000 in
set_option maxRecDepth 100000 in
theorem m_X2_leave {g : ZG} {μ : ZMem} {n : Nat} (hO : zO g 2 n) : zCab g RX2 yX2_leave cX2_leave 1 (none) (zrm 0) [zr (some n)] μ none (u_leave μ n) := by
  refine zCab_w (by decide +kernel) rfl (Nat.le_of_ble_eq_true rfl) ?_
  refine zx_aload_n dX2_leave_0 rfl rfl ?_
  refine zx_null dX2_leave_1 ?_
  refine zx_putR zf_X2_15 (by assumption) rfl dX2_leave_2 ?_
  exact zx_return rfl rfl (by rfl) dX2_leave_5

def s_each (v : Int64) (C : Nat) : Int64 := v / (nI C).toInt64
def s_over (v : Int64) (C : Nat) : Int64 := v - v / (nI C).toInt64 * (nI C).toInt64
def s_one (v : Int64) (C : Nat) : Int64 := if s_over v C < 0 then -1 else 1
def s_inc (v : Int64) (C k : Nat) : Int64 := if (nI k).toInt64 < s_over v C * s_one v C then s_one v C else 0
def u_grow1 (v : Int64) (C sh k : Nat) (μ : ZMem) : ZMem := zsL μ sh k (zL μ sh k + s_each v C + s_inc v C k)
def u_grow (μ : ZMem) (sh : Nat) (v : Int64) (C : Nat) : ZMem := if C < 1 then μ else zit (u_grow1 v C sh) C μ
theorem zI_grow1 (v : Int64) (C sh n : Nat) (μ : ZMem) : zI (zit (u_grow1 v C sh) n μ) = zI μ := zit_keep (f := u_grow1 v C sh) zI (fun _ _ => rfl) n μ
theorem zR_grow1 (v : Int64) (C sh n : Nat) (μ : ZMem) : zR (zit (u_grow1 v C sh) n μ) = zR μ := zit_keep (f := u_grow1 v C sh) zR (fun _ _ => rfl) n μ
theorem zR_u_grow (μ : ZMem) (sh : Nat) (v : Int64) (C : Nat) : zR (u_grow μ sh v C) = zR μ := by
  unfold u_grow
  split
  · rfl
  · exact zR_grow1 _ _ _ _ _
set_option maxHeartbeats 4000000 in
set_option maxRecDepth 100000 in
theorem L_X2_grow {g : ZG} {μ : ZMem} {n sh C : Nat} (hO : zO g 2 n) (hW : zWf g μ) (hs : zR μ n 0 = some sh) (hln : zln g sh = 8) (hc : zI μ n 2 = nI C) (hC : C ≤ 8) {v : Int64} {res : Option ZV} {μ' : ZMem} (hx : zWA g (RX2, cX2_grow, 10, none, zrm 0, res, μ') 105 (zls [(0, zr (some n)), (3, zl (s_each v C)), (5, zl (s_over v C)), (7, zl (s_one v C)), (9, zi (nI (C)))]) [] (zit (u_grow1 v C sh) (C) μ)) : zWA g (RX2, cX2_grow, 10, none, zrm 0, res, μ') 45 (zls [(0, zr (some n)), (3, zl (s_each v C)), (5, zl (s_over v C)), (7, zl (s_one v C)), (9, zi (nI (0)))]) [] (zit (u_grow1 v C sh) (0) μ) := by
  have hsO : zO g 10 sh := hW 2 _ _ _ hO hs
  have hRk : ∀ k, zR (zit (u_grow1 v C sh) k μ) n 0 = some sh := fun k => by rw [zR_grow1]; exact hs
  have hIk : ∀ k, zI (zit (u_grow1 v C sh) k μ) n 2 = nI C := fun k => by rw [zI_grow1]; exact hc
  refine zloop (P := fun k => zWA g (RX2, cX2_grow, 10, none, zrm 0, res, μ') 45 (zls [(0, zr (some n)), (3, zl (s_each v C)), (5, zl (s_over v C)), (7, zl (s_one v C)), (9, zi (nI (k)))]) [] (zit (u_grow1 v C sh) (k) μ)) (N := C) ?_ ?_ 0 (Nat.zero_le _)
  · show zWA _ _ _ _ _ _
    refine zx_iload dX2_grow_45 rfl ?_
    refine zx_aload_n dX2_grow_47 rfl rfl ?_
    refine zx_getI zf_X2_19 (by assumption) (Or.inl rfl) dX2_grow_48 ?_
    rw [hIk]
    refine zx_icmp_ge (tgt := 105) dX2_grow_51 (by decide) (fun _ => ?_) (fun h_ => absurd h_ (by simp))
    exact zWA_to hx ⟨rfl, rfl, rfl, rfl, rfl, trivial⟩
  · intro k hk hn
    show zWA _ _ _ _ _ _
    refine zx_iload dX2_grow_45 rfl ?_
    refine zx_aload_n dX2_grow_47 rfl rfl ?_
    refine zx_getI zf_X2_19 (by assumption) (Or.inl rfl) dX2_grow_48 ?_
    rw [hIk]
    refine zx_icmp_ge (tgt := 105) dX2_grow_51 (by decide) (fun h_ => absurd h_ (nI_ge hk (by omega))) (fun _ => ?_)
    refine zx_iload dX2_grow_54 rfl ?_
    refine zx_aload_n dX2_grow_56 rfl rfl ?_
    refine zx_getR zf_X2_9 (by assumption) (hRk _) rfl dX2_grow_57 ?_
    refine zx_alen (nI 8) (by assumption) (by decide) (by rw [hln]) dX2_grow_60 ?_
    refine zx_icmp_ge (tgt := 105) dX2_grow_61 (by decide) (fun h_ => absurd h_ (nI_ge (show k < 8 by omega) (by decide))) (fun _ => ?_)
    refine zx_aload_n dX2_grow_64 rfl rfl ?_
    refine zx_getR zf_X2_9 (by assumption) (hRk _) rfl dX2_grow_65 ?_
    refine zx_iload dX2_grow_68 rfl ?_
    refine zx_aload_n dX2_grow_70 rfl rfl ?_
    refine zx_getR zf_X2_9 (by assumption) (hRk _) rfl dX2_grow_71 ?_
    refine zx_iload dX2_grow_74 rfl ?_
    refine zx_lald k (by assumption) rfl ⟨by rw [hln]; omega, by rw [hln]; decide⟩ dX2_grow_76 ?_
    refine zx_lload_n dX2_grow_77 rfl rfl ?_
    refine zx_ladd dX2_grow_78 ?_
    refine zx_iload dX2_grow_79 rfl ?_
    refine zx_i2l dX2_grow_81 ?_
    refine zx_lload dX2_grow_82 rfl ?_
    refine zx_lload dX2_grow_84 rfl ?_
    refine zx_lmul dX2_grow_86 ?_
    refine zx_lc_ge (tgt := 96) dX2_grow_87 dX2_grow_88 (by decide) (fun c_87 => ?_) (fun c_87 => ?_)
    · skip
      refine zx_lconst 0 dX2_grow_96 (by decide) ?_
      refine zx_ladd dX2_grow_97 ?_
      refine zx_last k (by assumption) rfl ⟨by rw [hln]; omega, by rw [hln]; decide⟩ dX2_grow_98 ?_
      refine zx_iinc (nI (k + 1)) dX2_grow_99 rfl (by exact nI_1 k) (Nat.le_of_ble_eq_true rfl) ?_
      refine zx_goto (tgt := 45) dX2_grow_102 (by decide) ?_
      exact zWA_to (zWA_mem hn (by show zit (u_grow1 v C sh) (k + 1) μ = _; show u_grow1 v C sh k (zit (u_grow1 v C sh) k μ) = _; unfold u_grow1 s_inc; simp only [c_87, if_true, if_false, reduceIte])) ⟨rfl, rfl, rfl, rfl, rfl, trivial⟩
    · skip
      refine zx_lload dX2_grow_91 rfl ?_
      refine zx_goto (tgt := 97) dX2_grow_93 (by decide) ?_
      refine zx_ladd dX2_grow_97 ?_
      refine zx_last k (by assumption) rfl ⟨by rw [hln]; omega, by rw [hln]; decide⟩ dX2_grow_98 ?_
      refine zx_iinc (nI (k + 1)) dX2_grow_99 rfl (by exact nI_1 k) (Nat.le_of_ble_eq_true rfl) ?_
      refine zx_goto (tgt := 45) dX2_grow_102 (by decide) ?_
      exact zWA_to (zWA_mem hn (by show zit (u_grow1 v C sh) (k + 1) μ = _; show u_grow1 v C sh k (zit (u_grow1 v C sh) k μ) = _; unfold u_grow1 s_inc; simp only [c_87, if_true, if_false, reduceIte])) ⟨rfl, rfl, rfl, rfl, rfl, trivial⟩

theorem zC1 {C : Nat} (h : C ≤ 8) : (1 ≤ nI C ↔ ¬ C < 1) := by
  have h1 : ∀ C : Fin 9, (1 ≤ nI C.val ↔ ¬ C.val < 1) := by decide +kernel
  exact h1 ⟨C, by omega⟩
theorem znz {C : Nat} (h : C ≤ 8) (h1 : ¬ C < 1) : ¬ (nI C).toInt64 = 0 := by
  have h2 : ∀ C : Fin 9, ¬ C.val < 1 → ¬ (nI C.val).toInt64 = 0 := by decide +kernel
  exact h2 ⟨C, by omega⟩ h1
set_option maxHeartbeats 4000000 in
set_option maxRecDepth 100000 in
theorem m_X2_grow {g : ZG} {μ : ZMem} {n sh C : Nat} (hO : zO g 2 n) (hW : zWf g μ) (hs : zR μ n 0 = some sh) (hln : zln g sh = 8) (hc : zI μ n 2 = nI C) (hC : C ≤ 8) {v : Int64} : zCab g RX2 yX2_grow cX2_grow 10 (none) (zrm 0) [zr (some n), zl v] μ none (u_grow μ sh v C) := by
  refine zCab_w (by decide +kernel) rfl (Nat.le_of_ble_eq_true rfl) ?_
  refine zx_aload_n dX2_grow_0 rfl rfl ?_
  refine zx_getI zf_X2_19 (by assumption) (Or.inl rfl) dX2_grow_1 ?_
  refine zx_iconst 1 dX2_grow_4 (by decide) ?_
  rw [hc]
  refine zx_icmp_ge (tgt := 9) dX2_grow_5 (by decide) (fun c_5 => ?_) (fun c_5 => ?_)
  · skip
    refine zx_lload_n dX2_grow_9 rfl rfl ?_
    refine zx_aload_n dX2_grow_10 rfl rfl ?_
    refine zx_getI zf_X2_19 (by assumption) (Or.inl rfl) dX2_grow_11 ?_
    rw [hc]
    refine zx_i2l dX2_grow_14 ?_
    refine zx_ldiv dX2_grow_15 (znz hC ((zC1 hC).mp c_5)) ?_
    refine zx_lstore_n dX2_grow_16 rfl (Nat.le_of_ble_eq_true rfl) ?_
    refine zx_lload_n dX2_grow_17 rfl rfl ?_
    refine zx_aload_n dX2_grow_18 rfl rfl ?_
    refine zx_getI zf_X2_19 (by assumption) (Or.inl rfl) dX2_grow_19 ?_
    rw [hc]
    refine zx_i2l dX2_grow_22 ?_
    refine zx_lrem dX2_grow_23 (znz hC ((zC1 hC).mp c_5)) ?_
    refine zx_lstore dX2_grow_24 (Nat.le_of_ble_eq_true rfl) ?_
    refine zx_lload dX2_grow_26 rfl ?_
    refine zx_lconst 0 dX2_grow_28 (by decide) ?_
    refine zx_lc_ge (tgt := 39) dX2_grow_29 dX2_grow_30 (by decide) (fun c_29 => ?_) (fun c_29 => ?_)
    · skip
      refine zx_lconst 1 dX2_grow_39 (by decide) ?_
      refine zx_lstore dX2_grow_40 (Nat.le_of_ble_eq_true rfl) ?_
      refine zx_iconst 0 dX2_grow_42 (by decide) ?_
      refine zx_istore dX2_grow_43 (Nat.le_of_ble_eq_true rfl) ?_
      exact zWA_to (L_X2_grow (v := v) (C := C) hO hW hs hln hc hC (zWA_mem (by exact zx_return rfl rfl rfl dX2_grow_105) (by show u_grow μ sh v C = _; unfold u_grow; rw [if_neg ((zC1 hC).mp c_5)]))) ⟨rfl, rfl, rfl, by rw [show s_one v C = 1 from if_neg c_29]; rfl, rfl, trivial⟩
    · skip
      refine zx_ldc2l (-1) zk_X2_37 dX2_grow_33 ?_
      refine zx_goto (tgt := 40) dX2_grow_36 (by decide) ?_
      refine zx_lstore dX2_grow_40 (Nat.le_of_ble_eq_true rfl) ?_
      refine zx_iconst 0 dX2_grow_42 (by decide) ?_
      refine zx_istore dX2_grow_43 (Nat.le_of_ble_eq_true rfl) ?_
      exact zWA_to (L_X2_grow (v := v) (C := C) hO hW hs hln hc hC (zWA_mem (by exact zx_return rfl rfl rfl dX2_grow_105) (by show u_grow μ sh v C = _; unfold u_grow; rw [if_neg ((zC1 hC).mp c_5)]))) ⟨rfl, rfl, rfl, by rw [show s_one v C = (-1) from if_pos c_29]; rfl, rfl, trivial⟩
  · skip
    exact zx_return rfl rfl (by show u_grow μ sh v C = _; unfold u_grow; rw [if_pos (Decidable.not_not.mp (fun q => c_5 ((zC1 hC).mpr q)))]) dX2_grow_8

def u_settleIn (μ : ZMem) (n c sh C : Nat) : ZMem := u_grow (zsR (zsI (zsR μ n 1 (some c)) n 2 (nI C)) c 7 (some n)) sh (zL μ c 2) C
theorem zWf_set {g : ZG} {μ : ZMem} {n c : Nat} {v : Int32} (hW : zWf g μ) (hn : zO g 2 n) (hc : zO g 0 c) : zWf g (zsR (zsI (zsR μ n 1 (some c)) n 2 v) c 7 (some n)) := by
  intro kd r k r' hO hr
  have hr : zup (zup μ.2.2.2 n 1 (some c)) c 7 (some n) r k = some r' := hr
  by_cases h1 : r = c ∧ k = 7
  · obtain ⟨rfl, rfl⟩ := h1
    rw [zup_same] at hr
    cases hr
    have e : kd = 0 := hO.2.symm.trans hc.2
    subst e
    exact hn
  · rw [zup_ne _ _ h1] at hr
    by_cases h2 : r = n ∧ k = 1
    · obtain ⟨rfl, rfl⟩ := h2
      rw [zup_same] at hr
      cases hr
      have e : kd = 2 := hO.2.symm.trans hn.2
      subst e
      exact hc
    · rw [zup_ne _ _ h2] at hr
      exact hW kd r k r' hO hr
theorem zWf_none {g : ZG} {μ : ZMem} {n k0 : Nat} (hW : zWf g μ) : zWf g (zsR μ n k0 none) := by
  intro kd r k r' hO hr
  have hr : zup μ.2.2.2 n k0 none r k = some r' := hr
  by_cases h1 : r = n ∧ k = k0
  · obtain ⟨rfl, rfl⟩ := h1
    rw [zup_same] at hr
    cases hr
  · rw [zup_ne _ _ h1] at hr
    exact hW kd r k r' hO hr
set_option maxHeartbeats 4000000 in
set_option maxRecDepth 100000 in
theorem m_X2_settleIn {g : ZG} {μ : ZMem} {n c sh C : Nat} (hO : zO g 2 n) (hc : zO g 0 c) (hW : zWf g μ) (hs : zR μ n 0 = some sh) (hln : zln g sh = 8) (hC : C ≤ 8) : zCab g RX2 yX2_settleIn cX2_settleIn 3 (none) (zrm 1) [zr (some n), zr (some c), zi (nI C)] μ none (u_settleIn μ n c sh C) := by
  refine zCab_w (by decide +kernel) rfl (Nat.le_of_ble_eq_true rfl) ?_
  refine zx_aload_n dX2_settleIn_0 rfl rfl ?_
  refine zx_aload_n dX2_settleIn_1 rfl rfl ?_
  refine zx_putR zf_X2_15 (by assumption) rfl dX2_settleIn_2 ?_
  refine zx_aload_n dX2_settleIn_5 rfl rfl ?_
  refine zx_iload_n dX2_settleIn_6 rfl rfl ?_
  refine zx_putI zf_X2_19 (by assumption) ⟨rfl, rfl⟩ (Or.inl rfl) dX2_settleIn_7 ?_
  refine zx_aload_n dX2_settleIn_10 rfl rfl ?_
  refine zx_aload_n dX2_settleIn_11 rfl rfl ?_
  refine zx_putR zf_X2_23 (by assumption) rfl dX2_settleIn_12 ?_
  refine zx_aload_n dX2_settleIn_15 rfl rfl ?_
  refine zx_aload_n dX2_settleIn_16 rfl rfl ?_
  refine zx_getL zf_X2_29 (by assumption) rfl dX2_settleIn_17 ?_
  refine zx_callV0 _ zv_X2_33 (m_X2_grow (n := n) (sh := sh) (C := C) (μ := zsR (zsI (zsR μ n 1 (some c)) n 2 (nI C)) c 7 (some n)) hO (zWf_set hW hO hc) (by show zup (zup μ.2.2.2 n 1 _) c 7 _ n 0 = _; rw [zup_ne _ _ (fun q => absurd q.2 (by decide)), zup_ne _ _ (fun q => absurd q.2 (by decide))]; exact hs) hln (by show zup μ.1 n 2 _ n 2 = _; rw [zup_same]) hC) (by assumption) (by decide) rfl rfl rfl ⟨rfl, rfl, (Nat.le_of_ble_eq_true rfl), (Nat.le_of_ble_eq_true rfl)⟩ (Nat.le_of_ble_eq_true rfl) dX2_settleIn_20 ?_
  exact zx_return rfl rfl (by rfl) dX2_settleIn_23

def s_sumS (μ : ZMem) (sh : Nat) (C : Nat) : Int64 := zit (fun k s => s + zL μ sh k) C 0
def s_agrees (μ : ZMem) (n sh C : Nat) : Int32 := match zR μ n 1 with
  | none => 0
  | some c => if s_sumS μ sh C = zL μ c 2 then 1 else 0
set_option maxHeartbeats 4000000 in
set_option maxRecDepth 100000 in
theorem L_X2_agrees {g : ZG} {μ : ZMem} {n sh C : Nat} (hO : zO g 2 n) (hW : zWf g μ) (hs : zR μ n 0 = some sh) (hln : zln g sh = 8) (hc : zI μ n 2 = nI C) (hC : C ≤ 8) {res : Option ZV} {μ' : ZMem} (hx : zWA g (RX2, cX2_agrees, 4, ((some FieldType.boolean)), zrm 0, res, μ') 45 (zls [(0, zr (some n)), (1, zl (s_sumS μ sh (C))), (3, zi (nI (C)))]) [] μ) : zWA g (RX2, cX2_agrees, 4, ((some FieldType.boolean)), zrm 0, res, μ') 13 (zls [(0, zr (some n)), (1, zl (s_sumS μ sh (0))), (3, zi (nI (0)))]) [] μ := by
  have hsO : zO g 10 sh := hW 2 _ _ _ hO hs
  refine zloop (P := fun k => zWA g (RX2, cX2_agrees, 4, ((some FieldType.boolean)), zrm 0, res, μ') 13 (zls [(0, zr (some n)), (1, zl (s_sumS μ sh (k))), (3, zi (nI (k)))]) [] μ) (N := C) ?_ ?_ 0 (Nat.zero_le _)
  · show zWA _ _ _ _ _ _
    refine zx_iload_n dX2_agrees_13 rfl rfl ?_
    refine zx_aload_n dX2_agrees_14 rfl rfl ?_
    refine zx_getI zf_X2_19 (by assumption) (Or.inl rfl) dX2_agrees_15 ?_
    rw [hc]
    refine zx_icmp_ge (tgt := 45) dX2_agrees_18 (by decide) (fun _ => ?_) (fun h_ => absurd h_ (by simp))
    exact zWA_to hx ⟨rfl, rfl, rfl, trivial⟩
  · intro k hk hn
    show zWA _ _ _ _ _ _
    refine zx_iload_n dX2_agrees_13 rfl rfl ?_
    refine zx_aload_n dX2_agrees_14 rfl rfl ?_
    refine zx_getI zf_X2_19 (by assumption) (Or.inl rfl) dX2_agrees_15 ?_
    rw [hc]
    refine zx_icmp_ge (tgt := 45) dX2_agrees_18 (by decide) (fun h_ => absurd h_ (nI_ge hk (by omega))) (fun _ => ?_)
    refine zx_iload_n dX2_agrees_21 rfl rfl ?_
    refine zx_aload_n dX2_agrees_22 rfl rfl ?_
    refine zx_getR zf_X2_9 (by assumption) hs rfl dX2_agrees_23 ?_
    refine zx_alen (nI 8) (by assumption) (by decide) (by rw [hln]) dX2_agrees_26 ?_
    refine zx_icmp_ge (tgt := 45) dX2_agrees_27 (by decide) (fun h_ => absurd h_ (nI_ge (show k < 8 by omega) (by decide))) (fun _ => ?_)
    refine zx_lload_n dX2_agrees_30 rfl rfl ?_
    refine zx_aload_n dX2_agrees_31 rfl rfl ?_
    refine zx_getR zf_X2_9 (by assumption) hs rfl dX2_agrees_32 ?_
    refine zx_iload_n dX2_agrees_35 rfl rfl ?_
    refine zx_lald k (by assumption) rfl ⟨by rw [hln]; omega, by rw [hln]; decide⟩ dX2_agrees_36 ?_
    refine zx_ladd dX2_agrees_37 ?_
    refine zx_lstore_n dX2_agrees_38 rfl (Nat.le_of_ble_eq_true rfl) ?_
    refine zx_iinc (nI (k + 1)) dX2_agrees_39 rfl (by exact nI_1 k) (Nat.le_of_ble_eq_true rfl) ?_
    refine zx_goto (tgt := 13) dX2_agrees_42 (by decide) ?_
    exact zWA_to (zWA_mem hn (by rfl)) ⟨rfl, rfl, rfl, trivial⟩

set_option maxHeartbeats 4000000 in
set_option maxRecDepth 100000 in
theorem m_X2_agrees {g : ZG} {μ : ZMem} {n sh C : Nat} (hO : zO g 2 n) (hW : zWf g μ) (hs : zR μ n 0 = some sh) (hln : zln g sh = 8) (hc : zI μ n 2 = nI C) (hC : C ≤ 8) : zCab g RX2 yX2_agrees cX2_agrees 4 ((some FieldType.boolean)) (zrm 0) [zr (some n)] μ (some (zi (s_agrees μ n sh C))) μ := by
  refine zCab_w (by decide +kernel) rfl (Nat.le_of_ble_eq_true rfl) ?_
  refine zx_aload_n dX2_agrees_0 rfl rfl ?_
  refine zx_getR zf_X2_15 (by assumption) (by first | assumption | rfl) rfl dX2_agrees_1 ?_
  refine zx_ifnonnull (tgt := 9) dX2_agrees_4 (by decide) (fun c_4 => ?_) (fun r_4 c_4 => ?_)
  · skip
    refine zx_iconst 0 dX2_agrees_7 (by decide) ?_
    exact zx_zreturn rfl (by decide +kernel) (by show some (zi (s_agrees μ n sh C)) = _; unfold s_agrees; rw [c_4]) (by rfl) dX2_agrees_8
  · skip
    have hO_4 : zO g 0 r_4 := hW 2 _ _ _ (by assumption) c_4
    refine zx_lconst 0 dX2_agrees_9 (by decide) ?_
    refine zx_lstore_n dX2_agrees_10 rfl (Nat.le_of_ble_eq_true rfl) ?_
    refine zx_iconst 0 dX2_agrees_11 (by decide) ?_
    refine zx_istore_n dX2_agrees_12 rfl (Nat.le_of_ble_eq_true rfl) ?_
    refine zWA_to (L_X2_agrees (n := n) (sh := sh) (C := C) hO hW hs hln hc hC ?_) ⟨rfl, rfl, rfl, trivial⟩
    refine zx_lload_n dX2_agrees_45 rfl rfl ?_
    refine zx_aload_n dX2_agrees_46 rfl rfl ?_
    refine zx_getR zf_X2_15 (by assumption) c_4 rfl dX2_agrees_47 ?_
    refine zx_getL zf_X2_29 (by assumption) rfl dX2_agrees_50 ?_
    refine zx_lc_ne (tgt := 61) dX2_agrees_53 dX2_agrees_54 (by decide) (fun c_53 => ?_) (fun c_53 => ?_)
    · skip
      refine zx_iconst 0 dX2_agrees_61 (by decide) ?_
      exact zx_zreturn rfl (by decide +kernel) (by show some (zi (s_agrees μ n sh C)) = _; unfold s_agrees; rw [c_4]; simp only [c_53, if_true, if_false, reduceIte]) (by rfl) dX2_agrees_62
    · skip
      refine zx_iconst 1 dX2_agrees_57 (by decide) ?_
      refine zx_goto (tgt := 62) dX2_agrees_58 (by decide) ?_
      exact zx_zreturn rfl (by decide +kernel) (by show some (zi (s_agrees μ n sh C)) = _; unfold s_agrees; rw [c_4]; simp only [c_53, if_true, if_false, reduceIte]) (by rfl) dX2_agrees_62

def s_wet (v : UInt64) : Int32 := if zgt v 0 = true then 1 else 0
def u_bec1 (μ : ZMem) (c : Nat) (v : UInt64) : ZMem := zsD (zsD (zsD (zsL (zsD (zsI μ c 0 (s_wet v)) c 1 v) c 2 (FP.d2l (zmul v k1000))) c 3 k10) c 4 k35) c 5 0
def u_become (μ : ZMem) (c : Nat) (v : UInt64) : ZMem := match zR μ c 7 with
  | none => u_bec1 μ c v
  | some n => zsR (u_leave (u_bec1 μ c v) n) c 7 none
set_option maxHeartbeats 4000000 in
set_option maxRecDepth 100000 in
theorem m_X0_become {g : ZG} {μ : ZMem} {c : Nat} (hO : zO g 0 c) (hW : zWf g μ) {v : UInt64} : zCab g RX0 yX0_become cX0_become 3 (none) (zrm 1) [zr (some c), zd v] μ none (u_become μ c v) := by
  refine zCab_w (by decide +kernel) rfl (Nat.le_of_ble_eq_true rfl) ?_
  refine zx_aload_n dX0_become_0 rfl rfl ?_
  refine zx_dload_n dX0_become_1 rfl rfl ?_
  refine zx_dconst0 dX0_become_2 ?_
  refine zx_dl_le (tgt := 11) dX0_become_3 dX0_become_4 (by decide) (fun c_3 => ?_) (fun c_3 => ?_)
  · skip
    refine zx_iconst 0 dX0_become_11 (by decide) ?_
    refine zx_putI zf_X0_9 (by assumption) ⟨by decide +kernel, by decide +kernel⟩ (Or.inr rfl) dX0_become_12 ?_
    refine zx_aload_n dX0_become_15 rfl rfl ?_
    refine zx_dload_n dX0_become_16 rfl rfl ?_
    refine zx_putD zf_X0_15 (by assumption) rfl dX0_become_17 ?_
    refine zx_aload_n dX0_become_20 rfl rfl ?_
    refine zx_dload_n dX0_become_21 rfl rfl ?_
    refine zx_ldc2d 4652007308841189376 zk_X0_19 (by decide +kernel) dX0_become_22 ?_
    refine zx_dmul dX0_become_25 ?_
    refine zx_d2l dX0_become_26 ?_
    refine zx_putL zf_X0_21 (by assumption) rfl dX0_become_27 ?_
    refine zx_aload_n dX0_become_30 rfl rfl ?_
    refine zx_ldc2d 4621819117588971520 zk_X0_25 (by decide +kernel) dX0_become_31 ?_
    refine zx_putD zf_X0_27 (by assumption) rfl dX0_become_34 ?_
    refine zx_aload_n dX0_become_37 rfl rfl ?_
    refine zx_ldc2d 4630122629401935872 zk_X0_30 (by decide +kernel) dX0_become_38 ?_
    refine zx_putD zf_X0_32 (by assumption) rfl dX0_become_41 ?_
    refine zx_aload_n dX0_become_44 rfl rfl ?_
    refine zx_dconst0 dX0_become_45 ?_
    refine zx_putD zf_X0_35 (by assumption) rfl dX0_become_46 ?_
    refine zx_aload_n dX0_become_49 rfl rfl ?_
    refine zx_getR zf_X0_38 (by assumption) (show _ = zR μ c 7 from rfl) rfl dX0_become_50 ?_
    refine zx_ifnull (tgt := 68) dX0_become_53 (by decide) (fun c_53 => ?_) (fun r_53 c_53 => ?_)
    · skip
      exact zx_return rfl rfl (by show u_become μ c v = _; unfold u_become; rw [c_53]; unfold u_bec1 s_wet; rw [c_3]; rfl) dX0_become_68
    · skip
      have hO_53 : zO g 2 r_53 := hW 0 _ _ _ (by assumption) c_53
      refine zx_aload_n dX0_become_56 rfl rfl ?_
      refine zx_getR zf_X0_38 (by assumption) (show _ = some r_53 from c_53) rfl dX0_become_57 ?_
      refine zx_callV0 _ zv_X0_42 (m_X2_leave (by assumption)) (by assumption) (by decide) rfl rfl rfl ⟨rfl, rfl, (Nat.le_of_ble_eq_true rfl), (Nat.le_of_ble_eq_true rfl)⟩ (Nat.le_of_ble_eq_true rfl) dX0_become_60 ?_
      refine zx_aload_n dX0_become_63 rfl rfl ?_
      refine zx_null dX0_become_64 ?_
      refine zx_putR zf_X0_38 (by assumption) rfl dX0_become_65 ?_
      exact zx_return rfl rfl (by show u_become μ c v = _; unfold u_become; rw [c_53]; unfold u_bec1 s_wet; rw [c_3]; rfl) dX0_become_68
  · skip
    refine zx_iconst 1 dX0_become_7 (by decide) ?_
    refine zx_goto (tgt := 12) dX0_become_8 (by decide) ?_
    refine zx_putI zf_X0_9 (by assumption) ⟨by decide +kernel, by decide +kernel⟩ (Or.inr rfl) dX0_become_12 ?_
    refine zx_aload_n dX0_become_15 rfl rfl ?_
    refine zx_dload_n dX0_become_16 rfl rfl ?_
    refine zx_putD zf_X0_15 (by assumption) rfl dX0_become_17 ?_
    refine zx_aload_n dX0_become_20 rfl rfl ?_
    refine zx_dload_n dX0_become_21 rfl rfl ?_
    refine zx_ldc2d 4652007308841189376 zk_X0_19 (by decide +kernel) dX0_become_22 ?_
    refine zx_dmul dX0_become_25 ?_
    refine zx_d2l dX0_become_26 ?_
    refine zx_putL zf_X0_21 (by assumption) rfl dX0_become_27 ?_
    refine zx_aload_n dX0_become_30 rfl rfl ?_
    refine zx_ldc2d 4621819117588971520 zk_X0_25 (by decide +kernel) dX0_become_31 ?_
    refine zx_putD zf_X0_27 (by assumption) rfl dX0_become_34 ?_
    refine zx_aload_n dX0_become_37 rfl rfl ?_
    refine zx_ldc2d 4630122629401935872 zk_X0_30 (by decide +kernel) dX0_become_38 ?_
    refine zx_putD zf_X0_32 (by assumption) rfl dX0_become_41 ?_
    refine zx_aload_n dX0_become_44 rfl rfl ?_
    refine zx_dconst0 dX0_become_45 ?_
    refine zx_putD zf_X0_35 (by assumption) rfl dX0_become_46 ?_
    refine zx_aload_n dX0_become_49 rfl rfl ?_
    refine zx_getR zf_X0_38 (by assumption) (show _ = zR μ c 7 from rfl) rfl dX0_become_50 ?_
    refine zx_ifnull (tgt := 68) dX0_become_53 (by decide) (fun c_53 => ?_) (fun r_53 c_53 => ?_)
    · skip
      exact zx_return rfl rfl (by show u_become μ c v = _; unfold u_become; rw [c_53]; unfold u_bec1 s_wet; rw [c_3]; rfl) dX0_become_68
    · skip
      have hO_53 : zO g 2 r_53 := hW 0 _ _ _ (by assumption) c_53
      refine zx_aload_n dX0_become_56 rfl rfl ?_
      refine zx_getR zf_X0_38 (by assumption) (show _ = some r_53 from c_53) rfl dX0_become_57 ?_
      refine zx_callV0 _ zv_X0_42 (m_X2_leave (by assumption)) (by assumption) (by decide) rfl rfl rfl ⟨rfl, rfl, (Nat.le_of_ble_eq_true rfl), (Nat.le_of_ble_eq_true rfl)⟩ (Nat.le_of_ble_eq_true rfl) dX0_become_60 ?_
      refine zx_aload_n dX0_become_63 rfl rfl ?_
      refine zx_null dX0_become_64 ?_
      refine zx_putR zf_X0_38 (by assumption) rfl dX0_become_65 ?_
      exact zx_return rfl rfl (by show u_become μ c v = _; unfold u_become; rw [c_53]; unfold u_bec1 s_wet; rw [c_3]; rfl) dX0_become_68

def u_w3 (μ : ZMem) (c : Nat) : ZMem := zsD μ c 3 (zdiv (zD μ c 12) (FP.l2d (zL μ c 2)))
def u_w4 (μ : ZMem) (c : Nat) : ZMem := zsD μ c 4 (zdiv (zD μ c 13) (FP.l2d (zL μ c 2)))
def u_w5 (μ : ZMem) (c : Nat) (h : UInt64) : ZMem := zsD μ c 5 (zadd (zD μ c 5) (zmul (zmul k0001 h) (zsub (zD μ c 14) k02)))
def u_end1 (μ : ZMem) (c : Nat) : ZMem := if 0 < zL μ c 2 then u_w4 (u_w3 μ c) c else μ
def u_end2 (μ : ZMem) (c : Nat) (h : UInt64) : ZMem := if zgt (zD μ c 14) k02 = true then u_w5 μ c h else μ
def u_endStep (μ : ZMem) (c sh C : Nat) (h : UInt64) : ZMem := match zR μ c 7 with
  | none => u_end2 (u_end1 μ c) c h
  | some _ => u_grow (u_end2 (u_end1 μ c) c h) sh (zL μ c 2 - zL μ c 10) C
set_option maxHeartbeats 4000000 in
set_option maxRecDepth 100000 in
theorem m_X0_endStep {g : ZG} {μ : ZMem} {c sh C : Nat} (hO : zO g 0 c) (hW : zWf g μ) (hb : ∀ n, zR μ c 7 = some n → zR μ n 0 = some sh ∧ zln g sh = 8 ∧ zI μ n 2 = nI C ∧ C ≤ 8) {h : UInt64} : zCab g RX0 yX0_endStep cX0_endStep 3 (none) (zrm 1) [zr (some c), zd h] μ none (u_endStep μ c sh C h) := by
  refine zCab_w (by decide +kernel) rfl (Nat.le_of_ble_eq_true rfl) ?_
  refine zx_aload_n dX0_endStep_0 rfl rfl ?_
  refine zx_getL zf_X0_21 (by assumption) rfl dX0_endStep_1 ?_
  refine zx_lconst 0 dX0_endStep_4 (by decide) ?_
  refine zx_lc_le (tgt := 37) dX0_endStep_5 dX0_endStep_6 (by decide) (fun c_5 => ?_) (fun c_5 => ?_)
  · skip
    refine zx_aload_n dX0_endStep_37 rfl rfl ?_
    refine zx_getD zf_X0_67 (by assumption) rfl dX0_endStep_38 ?_
    refine zx_ldc2d 4596373779694328218 zk_X0_83 (by decide +kernel) dX0_endStep_41 ?_
    refine zx_dl_le (tgt := 71) dX0_endStep_44 dX0_endStep_45 (by decide) (fun c_44 => ?_) (fun c_44 => ?_)
    · skip
      refine zx_aload_n dX0_endStep_71 rfl rfl ?_
      refine zx_getR zf_X0_38 (by assumption) (show _ = zR μ c 7 from rfl) rfl dX0_endStep_72 ?_
      refine zx_ifnull (tgt := 94) dX0_endStep_75 (by decide) (fun c_75 => ?_) (fun r_75 c_75 => ?_)
      · skip
        exact zx_return rfl rfl (by refine Eq.trans (b := u_end2 (u_end1 μ c) c h) (by show u_endStep μ c sh C h = _; unfold u_endStep; rw [c_75]) ?_; have e1 : u_end1 μ c = μ := if_neg c_5; have e2 : u_end2 μ c h = μ := if_neg (fun q => absurd (q.symm.trans c_44) (by decide)); rw [e1, e2]; try rfl) dX0_endStep_94
      · skip
        have hO_75 : zO g 2 r_75 := hW 0 _ _ _ (by assumption) c_75
        refine zx_aload_n dX0_endStep_78 rfl rfl ?_
        refine zx_getR zf_X0_38 (by assumption) (show _ = some r_75 from c_75) rfl dX0_endStep_79 ?_
        refine zx_aload_n dX0_endStep_82 rfl rfl ?_
        refine zx_getL zf_X0_21 (by assumption) rfl dX0_endStep_83 ?_
        refine zx_aload_n dX0_endStep_86 rfl rfl ?_
        refine zx_getL zf_X0_51 (by assumption) rfl dX0_endStep_87 ?_
        refine zx_lsub dX0_endStep_90 ?_
        refine zx_callV0 _ zv_X0_85 (m_X2_grow (μ := μ) (n := r_75) (sh := sh) (C := C) hO_75 hW (hb _ c_75).1 (hb _ c_75).2.1 (hb _ c_75).2.2.1 (hb _ c_75).2.2.2) (by assumption) (by decide) rfl rfl rfl ⟨rfl, rfl, (Nat.le_of_ble_eq_true rfl), (Nat.le_of_ble_eq_true rfl)⟩ (Nat.le_of_ble_eq_true rfl) dX0_endStep_91 ?_
        exact zx_return rfl rfl (by refine Eq.trans (b := u_grow (u_end2 (u_end1 μ c) c h) sh (zL μ c 2 - zL μ c 10) C) (by show u_endStep μ c sh C h = _; unfold u_endStep; rw [c_75]) ?_; have e1 : u_end1 μ c = μ := if_neg c_5; have e2 : u_end2 μ c h = μ := if_neg (fun q => absurd (q.symm.trans c_44) (by decide)); rw [e1, e2]; try rfl) dX0_endStep_94
    · skip
      refine zx_aload_n dX0_endStep_48 rfl rfl ?_
      refine zx_aload_n dX0_endStep_49 rfl rfl ?_
      refine zx_getD zf_X0_35 (by assumption) rfl dX0_endStep_50 ?_
      refine zx_ldc2d 4562254508917369340 zk_X0_47 (by decide +kernel) dX0_endStep_53 ?_
      refine zx_dload_n dX0_endStep_56 rfl rfl ?_
      refine zx_dmul dX0_endStep_57 ?_
      refine zx_aload_n dX0_endStep_58 rfl rfl ?_
      refine zx_getD zf_X0_67 (by assumption) rfl dX0_endStep_59 ?_
      refine zx_ldc2d 4596373779694328218 zk_X0_83 (by decide +kernel) dX0_endStep_62 ?_
      refine zx_dsub dX0_endStep_65 ?_
      refine zx_dmul dX0_endStep_66 ?_
      refine zx_dadd dX0_endStep_67 ?_
      refine zx_putD zf_X0_35 (by assumption) rfl dX0_endStep_68 ?_
      refine zx_aload_n dX0_endStep_71 rfl rfl ?_
      refine zx_getR zf_X0_38 (by assumption) (show _ = zR μ c 7 from rfl) rfl dX0_endStep_72 ?_
      refine zx_ifnull (tgt := 94) dX0_endStep_75 (by decide) (fun c_75 => ?_) (fun r_75 c_75 => ?_)
      · skip
        exact zx_return rfl rfl (by refine Eq.trans (b := u_end2 (u_end1 μ c) c h) (by show u_endStep μ c sh C h = _; unfold u_endStep; rw [c_75]) ?_; have e1 : u_end1 μ c = μ := if_neg c_5; have e2 : u_end2 μ c h = (u_w5 μ c h) := if_pos c_44; rw [e1, e2]; try rfl) dX0_endStep_94
      · skip
        have hO_75 : zO g 2 r_75 := hW 0 _ _ _ (by assumption) c_75
        refine zx_aload_n dX0_endStep_78 rfl rfl ?_
        refine zx_getR zf_X0_38 (by assumption) (show _ = some r_75 from c_75) rfl dX0_endStep_79 ?_
        refine zx_aload_n dX0_endStep_82 rfl rfl ?_
        refine zx_getL zf_X0_21 (by assumption) rfl dX0_endStep_83 ?_
        refine zx_aload_n dX0_endStep_86 rfl rfl ?_
        refine zx_getL zf_X0_51 (by assumption) rfl dX0_endStep_87 ?_
        refine zx_lsub dX0_endStep_90 ?_
        refine zx_callV0 _ zv_X0_85 (m_X2_grow (μ := (u_w5 μ c h)) (n := r_75) (sh := sh) (C := C) hO_75 hW (hb _ c_75).1 (hb _ c_75).2.1 (hb _ c_75).2.2.1 (hb _ c_75).2.2.2) (by assumption) (by decide) rfl rfl rfl ⟨rfl, rfl, (Nat.le_of_ble_eq_true rfl), (Nat.le_of_ble_eq_true rfl)⟩ (Nat.le_of_ble_eq_true rfl) dX0_endStep_91 ?_
        exact zx_return rfl rfl (by refine Eq.trans (b := u_grow (u_end2 (u_end1 μ c) c h) sh (zL μ c 2 - zL μ c 10) C) (by show u_endStep μ c sh C h = _; unfold u_endStep; rw [c_75]) ?_; have e1 : u_end1 μ c = μ := if_neg c_5; have e2 : u_end2 μ c h = (u_w5 μ c h) := if_pos c_44; rw [e1, e2]; try rfl) dX0_endStep_94
  · skip
    refine zx_aload_n dX0_endStep_9 rfl rfl ?_
    refine zx_aload_n dX0_endStep_10 rfl rfl ?_
    refine zx_getD zf_X0_61 (by assumption) rfl dX0_endStep_11 ?_
    refine zx_aload_n dX0_endStep_14 rfl rfl ?_
    refine zx_getL zf_X0_21 (by assumption) rfl dX0_endStep_15 ?_
    refine zx_l2d dX0_endStep_18 ?_
    refine zx_ddiv dX0_endStep_19 ?_
    refine zx_putD zf_X0_27 (by assumption) rfl dX0_endStep_20 ?_
    refine zx_aload_n dX0_endStep_23 rfl rfl ?_
    refine zx_aload_n dX0_endStep_24 rfl rfl ?_
    refine zx_getD zf_X0_64 (by assumption) rfl dX0_endStep_25 ?_
    refine zx_aload_n dX0_endStep_28 rfl rfl ?_
    refine zx_getL zf_X0_21 (by assumption) rfl dX0_endStep_29 ?_
    refine zx_l2d dX0_endStep_32 ?_
    refine zx_ddiv dX0_endStep_33 ?_
    refine zx_putD zf_X0_32 (by assumption) rfl dX0_endStep_34 ?_
    refine zx_aload_n dX0_endStep_37 rfl rfl ?_
    refine zx_getD zf_X0_67 (by assumption) rfl dX0_endStep_38 ?_
    refine zx_ldc2d 4596373779694328218 zk_X0_83 (by decide +kernel) dX0_endStep_41 ?_
    refine zx_dl_le (tgt := 71) dX0_endStep_44 dX0_endStep_45 (by decide) (fun c_44 => ?_) (fun c_44 => ?_)
    · skip
      refine zx_aload_n dX0_endStep_71 rfl rfl ?_
      refine zx_getR zf_X0_38 (by assumption) (show _ = zR μ c 7 from rfl) rfl dX0_endStep_72 ?_
      refine zx_ifnull (tgt := 94) dX0_endStep_75 (by decide) (fun c_75 => ?_) (fun r_75 c_75 => ?_)
      · skip
        exact zx_return rfl rfl (by refine Eq.trans (b := u_end2 (u_end1 μ c) c h) (by show u_endStep μ c sh C h = _; unfold u_endStep; rw [c_75]) ?_; have e1 : u_end1 μ c = (u_w4 (u_w3 μ c) c) := if_pos c_5; have e2 : u_end2 (u_w4 (u_w3 μ c) c) c h = (u_w4 (u_w3 μ c) c) := if_neg (fun q => absurd (q.symm.trans c_44) (by decide)); rw [e1, e2]; try rfl) dX0_endStep_94
      · skip
        have hO_75 : zO g 2 r_75 := hW 0 _ _ _ (by assumption) c_75
        refine zx_aload_n dX0_endStep_78 rfl rfl ?_
        refine zx_getR zf_X0_38 (by assumption) (show _ = some r_75 from c_75) rfl dX0_endStep_79 ?_
        refine zx_aload_n dX0_endStep_82 rfl rfl ?_
        refine zx_getL zf_X0_21 (by assumption) rfl dX0_endStep_83 ?_
        refine zx_aload_n dX0_endStep_86 rfl rfl ?_
        refine zx_getL zf_X0_51 (by assumption) rfl dX0_endStep_87 ?_
        refine zx_lsub dX0_endStep_90 ?_
        refine zx_callV0 _ zv_X0_85 (m_X2_grow (μ := (u_w4 (u_w3 μ c) c)) (n := r_75) (sh := sh) (C := C) hO_75 hW (hb _ c_75).1 (hb _ c_75).2.1 (hb _ c_75).2.2.1 (hb _ c_75).2.2.2) (by assumption) (by decide) rfl rfl rfl ⟨rfl, rfl, (Nat.le_of_ble_eq_true rfl), (Nat.le_of_ble_eq_true rfl)⟩ (Nat.le_of_ble_eq_true rfl) dX0_endStep_91 ?_
        exact zx_return rfl rfl (by refine Eq.trans (b := u_grow (u_end2 (u_end1 μ c) c h) sh (zL μ c 2 - zL μ c 10) C) (by show u_endStep μ c sh C h = _; unfold u_endStep; rw [c_75]) ?_; have e1 : u_end1 μ c = (u_w4 (u_w3 μ c) c) := if_pos c_5; have e2 : u_end2 (u_w4 (u_w3 μ c) c) c h = (u_w4 (u_w3 μ c) c) := if_neg (fun q => absurd (q.symm.trans c_44) (by decide)); rw [e1, e2]; try rfl) dX0_endStep_94
    · skip
      refine zx_aload_n dX0_endStep_48 rfl rfl ?_
      refine zx_aload_n dX0_endStep_49 rfl rfl ?_
      refine zx_getD zf_X0_35 (by assumption) rfl dX0_endStep_50 ?_
      refine zx_ldc2d 4562254508917369340 zk_X0_47 (by decide +kernel) dX0_endStep_53 ?_
      refine zx_dload_n dX0_endStep_56 rfl rfl ?_
      refine zx_dmul dX0_endStep_57 ?_
      refine zx_aload_n dX0_endStep_58 rfl rfl ?_
      refine zx_getD zf_X0_67 (by assumption) rfl dX0_endStep_59 ?_
      refine zx_ldc2d 4596373779694328218 zk_X0_83 (by decide +kernel) dX0_endStep_62 ?_
      refine zx_dsub dX0_endStep_65 ?_
      refine zx_dmul dX0_endStep_66 ?_
      refine zx_dadd dX0_endStep_67 ?_
      refine zx_putD zf_X0_35 (by assumption) rfl dX0_endStep_68 ?_
      refine zx_aload_n dX0_endStep_71 rfl rfl ?_
      refine zx_getR zf_X0_38 (by assumption) (show _ = zR μ c 7 from rfl) rfl dX0_endStep_72 ?_
      refine zx_ifnull (tgt := 94) dX0_endStep_75 (by decide) (fun c_75 => ?_) (fun r_75 c_75 => ?_)
      · skip
        exact zx_return rfl rfl (by refine Eq.trans (b := u_end2 (u_end1 μ c) c h) (by show u_endStep μ c sh C h = _; unfold u_endStep; rw [c_75]) ?_; have e1 : u_end1 μ c = (u_w4 (u_w3 μ c) c) := if_pos c_5; have e2 : u_end2 (u_w4 (u_w3 μ c) c) c h = (u_w5 (u_w4 (u_w3 μ c) c) c h) := if_pos c_44; rw [e1, e2]; try rfl) dX0_endStep_94
      · skip
        have hO_75 : zO g 2 r_75 := hW 0 _ _ _ (by assumption) c_75
        refine zx_aload_n dX0_endStep_78 rfl rfl ?_
        refine zx_getR zf_X0_38 (by assumption) (show _ = some r_75 from c_75) rfl dX0_endStep_79 ?_
        refine zx_aload_n dX0_endStep_82 rfl rfl ?_
        refine zx_getL zf_X0_21 (by assumption) rfl dX0_endStep_83 ?_
        refine zx_aload_n dX0_endStep_86 rfl rfl ?_
        refine zx_getL zf_X0_51 (by assumption) rfl dX0_endStep_87 ?_
        refine zx_lsub dX0_endStep_90 ?_
        refine zx_callV0 _ zv_X0_85 (m_X2_grow (μ := (u_w5 (u_w4 (u_w3 μ c) c) c h)) (n := r_75) (sh := sh) (C := C) hO_75 hW (hb _ c_75).1 (hb _ c_75).2.1 (hb _ c_75).2.2.1 (hb _ c_75).2.2.2) (by assumption) (by decide) rfl rfl rfl ⟨rfl, rfl, (Nat.le_of_ble_eq_true rfl), (Nat.le_of_ble_eq_true rfl)⟩ (Nat.le_of_ble_eq_true rfl) dX0_endStep_91 ?_
        exact zx_return rfl rfl (by refine Eq.trans (b := u_grow (u_end2 (u_end1 μ c) c h) sh (zL μ c 2 - zL μ c 10) C) (by show u_endStep μ c sh C h = _; unfold u_endStep; rw [c_75]) ?_; have e1 : u_end1 μ c = (u_w4 (u_w3 μ c) c) := if_pos c_5; have e2 : u_end2 (u_w4 (u_w3 μ c) c) c h = (u_w5 (u_w4 (u_w3 μ c) c) c h) := if_pos c_44; rw [e1, e2]; try rfl) dX0_endStep_94

def u_tell (μ : ZMem) (s sz ph : Nat) (w : Nat) (a b : UInt64) : ZMem := zsI (zsD (zsD μ sz w a) ph w b) s 2 1
set_option maxHeartbeats 4000000 in
set_option maxRecDepth 100000 in
theorem m_X3_tell {g : ZG} {μ : ZMem} {s sz ph : Nat} (hO : zO g 3 s) (hW : zWf g μ) (hz : zR μ s 0 = some sz) (hp : zR μ s 1 = some ph) (hlz : zln g sz = 8) (hlp : zln g ph = 8) {w : Nat} (hw : w < 8) {a b : UInt64} : zCab g RX3 yX3_tell cX3_tell 6 (none) (zrm 0) [zr (some s), zi (nI w), zd a, zd b] μ none (u_tell μ s sz ph w a b) := by
  refine zCab_w (by decide +kernel) rfl (Nat.le_of_ble_eq_true rfl) ?_
  have hzO : zO g 8 sz := hW 3 _ _ _ hO hz
  have hpO : zO g 8 ph := hW 3 _ _ _ hO hp
  refine zx_iload_n dX3_tell_0 rfl rfl ?_
  refine zx_if_lt (tgt := 22) dX3_tell_1 (by decide) (fun h_ => absurd h_ (by have := nI_pos (show w < 2 ^ 31 by omega); exact this)) (fun _ => ?_)
  refine zx_iload_n dX3_tell_4 rfl rfl ?_
  refine zx_aload_n dX3_tell_5 rfl rfl ?_
  refine zx_getR zf_X3_9 (by assumption) hz rfl dX3_tell_6 ?_
  refine zx_alen (nI 8) (by assumption) (by decide) (by rw [hlz]) dX3_tell_9 ?_
  refine zx_icmp_ge (tgt := 22) dX3_tell_10 (by decide) (fun h_ => absurd h_ (nI_ge hw (by decide))) (fun _ => ?_)
  refine zx_iload_n dX3_tell_13 rfl rfl ?_
  refine zx_aload_n dX3_tell_14 rfl rfl ?_
  refine zx_getR zf_X3_15 (by assumption) hp rfl dX3_tell_15 ?_
  refine zx_alen (nI 8) (by assumption) (by decide) (by rw [hlp]) dX3_tell_18 ?_
  refine zx_icmp_lt (tgt := 23) dX3_tell_19 (by decide) (fun _ => ?_) (fun h_ => absurd h_ (fun q => q (nI_lt hw (by decide))))
  refine zx_aload_n dX3_tell_23 rfl rfl ?_
  refine zx_getR zf_X3_9 (by assumption) hz rfl dX3_tell_24 ?_
  refine zx_iload_n dX3_tell_27 rfl rfl ?_
  refine zx_dload_n dX3_tell_28 rfl rfl ?_
  refine zx_dast w (by assumption) rfl ⟨by rw [hlz]; exact hw, by rw [hlz]; decide⟩ dX3_tell_29 ?_
  refine zx_aload_n dX3_tell_30 rfl rfl ?_
  refine zx_getR zf_X3_15 (by assumption) hp rfl dX3_tell_31 ?_
  refine zx_iload_n dX3_tell_34 rfl rfl ?_
  refine zx_dload dX3_tell_35 rfl ?_
  refine zx_dast w (by assumption) rfl ⟨by rw [hlp]; exact hw, by rw [hlp]; decide⟩ dX3_tell_37 ?_
  refine zx_aload_n dX3_tell_38 rfl rfl ?_
  refine zx_iconst 1 dX3_tell_39 (by decide) ?_
  refine zx_putI zf_X3_18 (by assumption) ⟨by decide +kernel, by decide +kernel⟩ (Or.inr rfl) dX3_tell_40 ?_
  exact zx_return rfl rfl (by rfl) dX3_tell_43

def s_wave (t : UInt64) (k : Nat) : UInt64 := zdiv t (FP.i2d (3600 * (nI k + 1)))
def u_stand1 (s sz ph : Nat) (t : UInt64) (k : Nat) (μ : ZMem) : ZMem := if zgt (zD μ sz k) 0 = true then zsD μ s 3 (zadd (zD μ s 3) (zmul (zD μ sz k) (s_saw (zadd (s_wave t k) (zD μ ph k))))) else μ
def u_stand (μ : ZMem) (s sz ph : Nat) (t : UInt64) : ZMem := if zI μ s 2 = 0 then zsD μ s 3 0 else zit (u_stand1 s sz ph t) 8 (zsD μ s 3 0)
theorem zI_stand1 (s sz ph : Nat) (t : UInt64) (n : Nat) (μ : ZMem) : zI (zit (u_stand1 s sz ph t) n μ) = zI μ := zit_keep (f := u_stand1 s sz ph t) zI (fun k m => by unfold u_stand1; split <;> rfl) n μ
theorem zR_stand1 (s sz ph : Nat) (t : UInt64) (n : Nat) (μ : ZMem) : zR (zit (u_stand1 s sz ph t) n μ) = zR μ := zit_keep (f := u_stand1 s sz ph t) zR (fun k m => by unfold u_stand1; split <;> rfl) n μ
theorem zR_u_stand (μ : ZMem) (s sz ph : Nat) (t : UInt64) : zR (u_stand μ s sz ph t) = zR μ := by
  unfold u_stand
  split
  · rfl
  · rw [zR_stand1]; rfl
set_option maxHeartbeats 4000000 in
set_option maxRecDepth 100000 in
theorem L_X3_stand {g : ZG} {μ : ZMem} {s sz ph : Nat} (hO : zO g 3 s) (hW : zWf g μ) (hz : zR μ s 0 = some sz) (hp : zR μ s 1 = some ph) (hlz : zln g sz = 8) (hlp : zln g ph = 8) (ho : ¬ zI μ s 2 = 0) {t : UInt64} {res : Option ZV} {μ' : ZMem} (hx : zWA g (RX3, cX3_stand, 4, none, zrm 1, res, μ') 85 (zls [(0, zr (some s)), (1, zd t), (3, zi (nI (8)))]) [] (zit (u_stand1 s sz ph t) (8) μ)) : zWA g (RX3, cX3_stand, 4, none, zrm 1, res, μ') 7 (zls [(0, zr (some s)), (1, zd t), (3, zi (nI (0)))]) [] (zit (u_stand1 s sz ph t) (0) μ) := by
  have hzO : zO g 8 sz := hW 3 _ _ _ hO hz
  have hpO : zO g 8 ph := hW 3 _ _ _ hO hp
  have hRz : ∀ k, zR (zit (u_stand1 s sz ph t) k μ) s 0 = some sz := fun k => by rw [zR_stand1]; exact hz
  have hRp : ∀ k, zR (zit (u_stand1 s sz ph t) k μ) s 1 = some ph := fun k => by rw [zR_stand1]; exact hp
  have hIo : ∀ k, ¬ zI (zit (u_stand1 s sz ph t) k μ) s 2 = 0 := fun k => by rw [zI_stand1]; exact ho
  refine zloop (P := fun k => zWA g (RX3, cX3_stand, 4, none, zrm 1, res, μ') 7 (zls [(0, zr (some s)), (1, zd t), (3, zi (nI (k)))]) [] (zit (u_stand1 s sz ph t) (k) μ)) (N := 8) ?_ ?_ 0 (Nat.zero_le _)
  · show zWA _ _ _ _ _ _
    refine zx_aload_n dX3_stand_7 rfl rfl ?_
    refine zx_getI zf_X3_18 (by assumption) (Or.inr rfl) dX3_stand_8 ?_
    refine zx_if_eq (tgt := 85) dX3_stand_11 (by decide) (fun h_ => absurd h_ (hIo _)) (fun _ => ?_)
    refine zx_iload_n dX3_stand_14 rfl rfl ?_
    refine zx_aload_n dX3_stand_15 rfl rfl ?_
    refine zx_getR zf_X3_9 (by assumption) (hRz _) rfl dX3_stand_16 ?_
    refine zx_alen (nI 8) (by assumption) (by decide) (by rw [hlz]) dX3_stand_19 ?_
    refine zx_icmp_ge (tgt := 85) dX3_stand_20 (by decide) (fun _ => ?_) (fun h_ => absurd h_ (by simp))
    exact zWA_to hx ⟨rfl, rfl, rfl, trivial⟩
  · intro k hk hn
    show zWA _ _ _ _ _ _
    refine zx_aload_n dX3_stand_7 rfl rfl ?_
    refine zx_getI zf_X3_18 (by assumption) (Or.inr rfl) dX3_stand_8 ?_
    refine zx_if_eq (tgt := 85) dX3_stand_11 (by decide) (fun h_ => absurd h_ (hIo _)) (fun _ => ?_)
    refine zx_iload_n dX3_stand_14 rfl rfl ?_
    refine zx_aload_n dX3_stand_15 rfl rfl ?_
    refine zx_getR zf_X3_9 (by assumption) (hRz _) rfl dX3_stand_16 ?_
    refine zx_alen (nI 8) (by assumption) (by decide) (by rw [hlz]) dX3_stand_19 ?_
    refine zx_icmp_ge (tgt := 85) dX3_stand_20 (by decide) (fun h_ => absurd h_ (nI_ge hk (by decide))) (fun _ => ?_)
    refine zx_iload_n dX3_stand_23 rfl rfl ?_
    refine zx_aload_n dX3_stand_24 rfl rfl ?_
    refine zx_getR zf_X3_15 (by assumption) (hRp _) rfl dX3_stand_25 ?_
    refine zx_alen (nI 8) (by assumption) (by decide) (by rw [hlp]) dX3_stand_28 ?_
    refine zx_icmp_ge (tgt := 85) dX3_stand_29 (by decide) (fun h_ => absurd h_ (nI_ge hk (by decide))) (fun _ => ?_)
    refine zx_aload_n dX3_stand_32 rfl rfl ?_
    refine zx_getR zf_X3_9 (by assumption) (hRz _) rfl dX3_stand_33 ?_
    refine zx_iload_n dX3_stand_36 rfl rfl ?_
    refine zx_dald k (by assumption) rfl ⟨by rw [hlz]; exact hk, by rw [hlz]; decide⟩ dX3_stand_37 ?_
    refine zx_dconst0 dX3_stand_38 ?_
    refine zx_dl_le (tgt := 79) dX3_stand_39 dX3_stand_40 (by decide) (fun c_39 => ?_) (fun c_39 => ?_)
    · skip
      refine zx_iinc (nI (k + 1)) dX3_stand_79 rfl (by exact nI_1 k) (Nat.le_of_ble_eq_true rfl) ?_
      refine zx_goto (tgt := 7) dX3_stand_82 (by decide) ?_
      exact zWA_to (zWA_mem hn (by show u_stand1 s sz ph t k (zit (u_stand1 s sz ph t) k μ) = _; exact if_neg (fun q => absurd (q.symm.trans c_39) (by decide)))) ⟨rfl, rfl, rfl, trivial⟩
    · skip
      refine zx_aload_n dX3_stand_43 rfl rfl ?_
      refine zx_aload_n dX3_stand_44 rfl rfl ?_
      refine zx_getD zf_X3_22 (by assumption) rfl dX3_stand_45 ?_
      refine zx_aload_n dX3_stand_48 rfl rfl ?_
      refine zx_getR zf_X3_9 (by assumption) (hRz _) rfl dX3_stand_49 ?_
      refine zx_iload_n dX3_stand_52 rfl rfl ?_
      refine zx_dald k (by assumption) rfl ⟨by rw [hlz]; exact hk, by rw [hlz]; decide⟩ dX3_stand_53 ?_
      refine zx_dload_n dX3_stand_54 rfl rfl ?_
      refine zx_sipush 3600 dX3_stand_55 (by decide) ?_
      refine zx_iload_n dX3_stand_58 rfl rfl ?_
      refine zx_iconst 1 dX3_stand_59 (by decide) ?_
      refine zx_iadd dX3_stand_60 ?_
      refine zx_imul dX3_stand_61 ?_
      refine zx_i2d dX3_stand_62 ?_
      refine zx_ddiv dX3_stand_63 ?_
      refine zx_aload_n dX3_stand_64 rfl rfl ?_
      refine zx_getR zf_X3_15 (by assumption) (hRp _) rfl dX3_stand_65 ?_
      refine zx_iload_n dX3_stand_68 rfl rfl ?_
      refine zx_dald k (by assumption) rfl ⟨by rw [hlp]; exact hk, by rw [hlp]; decide⟩ dX3_stand_69 ?_
      refine zx_dadd dX3_stand_70 ?_
      refine zx_callN1 _ zn_X3_26 m_X6_saw rfl rfl ⟨rfl, rfl, (Nat.le_of_ble_eq_true rfl), (Nat.le_of_ble_eq_true rfl)⟩ (Nat.le_of_ble_eq_true rfl) dX3_stand_71 ?_
      refine zx_dmul dX3_stand_74 ?_
      refine zx_dadd dX3_stand_75 ?_
      refine zx_putD zf_X3_22 (by assumption) rfl dX3_stand_76 ?_
      refine zx_iinc (nI (k + 1)) dX3_stand_79 rfl (by exact nI_1 k) (Nat.le_of_ble_eq_true rfl) ?_
      refine zx_goto (tgt := 7) dX3_stand_82 (by decide) ?_
      exact zWA_to (zWA_mem hn (by show u_stand1 s sz ph t k (zit (u_stand1 s sz ph t) k μ) = _; exact if_pos c_39)) ⟨rfl, rfl, rfl, trivial⟩

set_option maxHeartbeats 4000000 in
set_option maxRecDepth 100000 in
theorem m_X3_stand {g : ZG} {μ : ZMem} {s sz ph : Nat} (hO : zO g 3 s) (hW : zWf g μ) (hz : zR μ s 0 = some sz) (hp : zR μ s 1 = some ph) (hlz : zln g sz = 8) (hlp : zln g ph = 8) {t : UInt64} : zCab g RX3 yX3_stand cX3_stand 4 none (zrm 1) [zr (some s), zd t] μ none (u_stand μ s sz ph t) := by
  refine zCab_w (by decide +kernel) rfl (Nat.le_of_ble_eq_true rfl) ?_
  refine zx_aload_n dX3_stand_0 rfl rfl ?_
  refine zx_dconst0 dX3_stand_1 ?_
  refine zx_putD zf_X3_22 (by assumption) rfl dX3_stand_2 ?_
  refine zx_iconst 0 dX3_stand_5 (by decide) ?_
  refine zx_istore_n dX3_stand_6 rfl (Nat.le_of_ble_eq_true rfl) ?_
  by_cases c_11 : zI μ s 2 = 0
  · refine zx_aload_n dX3_stand_7 rfl rfl ?_
    refine zx_getI zf_X3_18 (by assumption) (Or.inr rfl) dX3_stand_8 ?_
    refine zx_if_eq (tgt := 85) dX3_stand_11 (by decide) (fun _ => ?_) (fun h_ => absurd c_11 h_)
    exact zx_return rfl rfl (by show u_stand μ s sz ph t = _; unfold u_stand; rw [if_pos c_11]) dX3_stand_85
  · refine zWA_to (L_X3_stand (μ := zsD μ s 3 0) (s := s) (sz := sz) (ph := ph) hO hW hz hp hlz hlp c_11 ?_) ⟨rfl, rfl, rfl, trivial⟩
    exact zWA_mem (zx_return rfl rfl rfl dX3_stand_85) (by show u_stand μ s sz ph t = _; unfold u_stand; rw [if_neg c_11])
