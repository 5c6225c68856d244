/-- the law's end -/
theorem law_end {g : ZG} {W9 : ZW9} (ls : ZLS) (μ m : ZMem) : zLW g W9 lw_Z zKL 1289 ls [] (μ, m) := by
  intro l p e s m args below meth c C d H locs sl stk μr hd hS hP hμ hL hT
  cases zSR_nil hT
  obtain ⟨c1, -⟩ := C.2.2.2.2.2.2.2.1
  subst c1
  refine lv_iconst C.1 C.2.1 dL_law_1289 (v := 1) (by decide) ?_
  exact va_forget (s := s.setDrawn d) (fun q hq => hS.2.2 q hq) (lw_ret hd C.1 C.2.1 C.2.2.2.2.2.1 C.2.2.2.2.2.2.1 dL_law_1290)
theorem zbet {x n : Int32} (N : Nat) (hn : n = nI N) (h1 : 1 ≤ N ∧ N ≤ 100) : ∃ w, 1 ≤ w ∧ w ≤ N ∧ s_between x n = nI w := by
  subst hn
  rw [s_bet _ _ (by rw [show (1 : Int32) = nI 1 from rfl]; exact nI_le h1.1 (by omega))]
  split
  · exact ⟨1, by omega, by omega, rfl⟩
  · rename_i h
    split
    · exact ⟨N, h1.1, by omega, rfl⟩
    · rename_i h2
      have e1 : x.toInt ≤ (N : Int) := by
        have h2 := Int32.not_lt.mp h2
        rw [Int32.le_iff_toInt_le, nI_toInt (by omega)] at h2
        exact h2
      have e2 : 1 ≤ x.toInt := by
        have h := Int32.not_lt.mp h
        rw [Int32.le_iff_toInt_le] at h
        exact h
      refine ⟨x.toInt.toNat, by omega, by omega, ?_⟩
      apply Int32.toInt_inj.mp
      rw [nI_toInt (by omega)]
      omega
