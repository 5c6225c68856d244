/-! the law's reader of its script -/
def c_at (L : Nat) (xs : Nat → Int32) (k : Nat) : Int32 := if k < L then xs k else 0
def zQcell (x : Int32) : Array Value → State → Outcome → State → Prop := fun _ st oc t => oc = .returned (some (.int x)) ∧ va_F (fun _ => False) st t
def zPcell (b L : Nat) (xs : Nat → Int32) (k : Nat) : Array Value → State → Prop := va_Pc [.ref b, .int (nI k)] (fun U => va_X b L xs U U.heap ∧ b < U.heap.size)
theorem m_L_cell (l : Launch) {b L k : Nat} {xs : Nat → Int32} (hL : L ≤ 2563) (hk : k < 3) : MetD lw_cs l yL_cell (.code yL_cell cL_cell 2 (some .int) :: lw_good) (zrm 0) (zPcell b L xs k) (zQcell (c_at L xs k)) 0 0 (fun _ => False) := by
  refine zMetD (cc := cL_cell) (maxL := 2) (ret := some .int) (by decide +kernel) rfl ?_
  intro p e s m args below meth c s₁ B hml hv hd0
  obtain ⟨rfl, hX, hb⟩ := hv
  have hl := lv_entry [.ref b, .int (nI k)] (n := 2) (Nat.le_of_eq rfl)
  rw [lg_entry_eq]
  have h0 := hl.2.2 (0, .ref b) List.mem_cons_self
  have h1 := hl.2.2 (1, .int (nI k)) (List.mem_cons_of_mem _ List.mem_cons_self)
  generalize ((lg_sl [.ref b, .int (nI k)] ++ List.replicate (2 - (lg_sl [.ref b, .int (nI k)]).length) Slot.unset).toArray) = sl at hl h0 h1 ⊢
  have hX' : va_X b L xs (s.setDrawn s.drawn) s.heap := hX
  have hS : va_S (fun _ => False) s.heap s.heap [] := va_S.rf
  have fin : ∀ (x : Int32), x = c_at L xs k → W p l e (zrm 0) (s.setDrawn s.drawn) m [Value.ref b, Value.int (nI k)].toArray below meth c s.heap [] 0 0 (MQD lw_cs below (zQcell (c_at L xs k)) [Value.ref b, Value.int (nI k)].toArray s 0 0 (fun _ => False)) (F0 m 13 sl [.int x]) := by
    intro x hx
    have hlocks : meth.locks = false := B.notSynchronized
    refine W.endD hd0 ?_
    exact W.iret B.exec B.bytes B.returns (fun t ht hW => ⟨by rw [hx], hS.F ht⟩) hS.2.2 dL_cell_13
  refine lv_iload_n B.exec B.bytes dL_cell_0 rfl h1 ?_
  refine lv_aload_n B.exec B.bytes dL_cell_1 rfl h0 ?_
  refine va_slen (s := s.setDrawn s.drawn) B.exec B.bytes hX' hb (fun q => q) hS dL_cell_2 ?_
  refine lv_icmp_ge (tgt := 12) B.exec B.bytes dL_cell_3 (by decide) (fun q => ?_) (fun q => ?_)
  · refine lv_iconst B.exec B.bytes dL_cell_12 (v := 0) (by decide) ?_
    refine fin 0 ?_
    unfold c_at
    rw [if_neg (fun z => absurd q (nI_ge z (by omega)))]
  · have hkL : k < L := Decidable.byContradiction (fun z => q (nI_le (by omega) (by omega)))
    refine lv_aload_n B.exec B.bytes dL_cell_6 rfl h0 ?_
    refine lv_iload_n B.exec B.bytes dL_cell_7 rfl h1 ?_
    refine va_sld (s := s.setDrawn s.drawn) B.exec B.bytes hX' hb (fun q => q) hS (vp_in_nI hkL (by omega)) dL_cell_8 ?_
    refine lv_goto (tgt := 13) B.exec B.bytes dL_cell_9 (by decide) ?_
    rw [nI_clamp (by omega)]
    refine fin _ ?_
    unfold c_at
    rw [if_pos hkL]
