theorem w_K {args : Array Value} {s : State} (hts : ∀ w ∈ lw_tbl, w.before args s = true) : ∃ (D : va_G) (cy : Nat → ClassId), ∀ g : ZG, zgD g = D → zcy g = cy → va_K (zgD g) vwCl (ztys g) s := by
  obtain ⟨D, hD⟩ := w_D (args := args) (s := s) (fun w hw => hts w (List.mem_filter.mp hw).1)
  obtain ⟨c8, r8, a8⟩ := w_arr (ty := .double) (hts (Cond.arrayClass .double) (List.mem_of_getElem? (i := 161) (by decide +kernel)))
  obtain ⟨c9, r9, a9⟩ := w_arr (ty := .int) (hts (Cond.arrayClass .int) (List.mem_of_getElem? (i := 859) (by decide +kernel)))
  obtain ⟨c10, r10, a10⟩ := w_arr (ty := .long) (hts (Cond.arrayClass .long) (List.mem_of_getElem? (i := 222) (by decide +kernel)))
  obtain ⟨c11, r11, a11⟩ := w_arr (ty := .boolean) (hts (Cond.arrayClass .boolean) (List.mem_of_getElem? (i := 301) (by decide +kernel)))
  obtain ⟨c12, a12, r12⟩ := w_obj (C := "CellCurrents$Cell") (hts (Cond.arrayOver (.object "CellCurrents$Cell")) (List.mem_of_getElem? (i := 61) (by decide +kernel)))
  obtain ⟨c13, a13, r13⟩ := w_obj (C := "CellCurrents$Face") (hts (Cond.arrayOver (.object "CellCurrents$Face")) (List.mem_of_getElem? (i := 169) (by decide +kernel)))
  obtain ⟨c14, a14, r14⟩ := w_obj (C := "CellCurrents$Nest") (hts (Cond.arrayOver (.object "CellCurrents$Nest")) (List.mem_of_getElem? (i := 205) (by decide +kernel)))
  obtain ⟨c15, a15, r15⟩ := w_obj (C := "CellCurrents$Side") (hts (Cond.arrayOver (.object "CellCurrents$Side")) (List.mem_of_getElem? (i := 135) (by decide +kernel)))
  obtain ⟨c16, a16, r16⟩ := w_obj (C := "CellCurrents$State") (hts (Cond.arrayOver (.object "CellCurrents$State")) (List.mem_of_getElem? (i := 227) (by decide +kernel)))
  obtain ⟨c17, a17, r17⟩ := w_aa (ty := .double) (hts (Cond.arrayOver (.array .double)) (List.mem_of_getElem? (i := 272) (by decide +kernel)))
  refine ⟨D, fun k => [c8, c9, c10, c11, c12, c13, c14, c15, c16, c17].getD (k - 8) 0, fun g g1 g2 => ⟨fun c q hq => by rw [g1]; exact hD c q hq, fun k q hk => ?_⟩⟩
  unfold ztys at hk
  rw [g2] at hk
  have h10 : k < 10 := (List.getElem?_eq_some_iff.mp hk).1
  rcases (show k = 0 ∨ k = 1 ∨ k = 2 ∨ k = 3 ∨ k = 4 ∨ k = 5 ∨ k = 6 ∨ k = 7 ∨ k = 8 ∨ k = 9 by omega) with z | z | z | z | z | z | z | z | z | z <;> subst z <;> cases hk
  · exact ⟨a8, r8⟩
  · exact ⟨a9, r9⟩
  · exact ⟨a10, r10⟩
  · exact ⟨a11, r11⟩
  · exact ⟨a12, r12⟩
  · exact ⟨a13, r13⟩
  · exact ⟨a14, r14⟩
  · exact ⟨a15, r15⟩
  · exact ⟨a16, r16⟩
  · exact ⟨a17, r17⟩
