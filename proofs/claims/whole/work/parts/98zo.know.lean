theorem w_D {args : Array Value} {s : State} (hts : ∀ w ∈ lw_good, w.before args s = true) : ∃ D : va_G, ∀ (c : Nat) (q : vw_C), vwCl[c]? = some q → u_Kn s q.1 q.2.1 q.2.2 (D.1 c) (D.2 c) := by
  obtain ⟨c0, i0, k0⟩ := u_known hts inG0 (hts _ (zmem 62 (by decide +kernel) rfl : Cond.instantiable RX0 15 ∈ lw_good))
  obtain ⟨c1, i1, k1⟩ := u_known hts inG1 (hts _ (zmem 170 (by decide +kernel) rfl : Cond.instantiable RX1 6 ∈ lw_good))
  obtain ⟨c2, i2, k2⟩ := u_known hts inG2 (hts _ (zmem 206 (by decide +kernel) rfl : Cond.instantiable RX2 3 ∈ lw_good))
  obtain ⟨c3, i3, k3⟩ := u_known hts inG3 (hts _ (zmem 136 (by decide +kernel) rfl : Cond.instantiable RX3 5 ∈ lw_good))
  obtain ⟨c4, i4, k4⟩ := u_known hts inG4 (hts _ (zmem 228 (by decide +kernel) rfl : Cond.instantiable RX4 10 ∈ lw_good))
  obtain ⟨c5, i5, k5⟩ := u_known hts inG5 (hts _ (zmem 266 (by decide +kernel) rfl : Cond.instantiable RX5 9 ∈ lw_good))
  obtain ⟨c6, i6, k6⟩ := u_known hts inG6 (hts _ (zmem 41 (by decide +kernel) rfl : Cond.instantiable RX6 17 ∈ lw_good))
  obtain ⟨c7, i7, k7⟩ := u_known hts inG7 (hts _ (zmem 703 (by decide +kernel) rfl : Cond.instantiable RX7 50 ∈ lw_good))
  refine ⟨(fun c => [c0, c1, c2, c3, c4, c5, c6, c7].getD c 0, fun c => [i0, i1, i2, i3, i4, i5, i6, i7].getD c (fun _ => 0)), fun c q hq => ?_⟩
  have h8 : c < 8 := (List.getElem?_eq_some_iff.mp hq).1
  rcases (show c = 0 ∨ c = 1 ∨ c = 2 ∨ c = 3 ∨ c = 4 ∨ c = 5 ∨ c = 6 ∨ c = 7 by omega) with z | z | z | z | z | z | z | z <;> subst z <;> cases hq
  · exact k0
  · exact k1
  · exact k2
  · exact k3
  · exact k4
  · exact k5
  · exact k6
  · exact k7
theorem w_arr {args : Array Value} {s : State} {ty : FieldType} (h : (Cond.arrayClass ty).before args s = true) : ∃ cA, s.vm.findClass ("[" ++ ty.toString) = some cA ∧ ArrOfT s cA ty := by
  obtain ⟨cA, kA, comp, h1, h2, h3⟩ := Cond.arrayClass_spec h
  exact ⟨cA, h1, fun n z => ⟨fun k h => (by cases h), kA, h2, comp, h3⟩⟩
theorem w_obj {args : Array Value} {s : State} {C : String} (h : (Cond.arrayOver (.object C)).before args s = true) : ∃ cA, ArrOfT s cA (.object C) ∧ va_RA s cA (.object C) := by
  obtain ⟨comp, cA, kA, h1, -, h2, h3, h4⟩ := Cond.arrayOver_spec h
  exact ⟨cA, fun n z => ⟨fun k h => (by cases h), kA, h2, comp, h3⟩, kA, comp, h2, h3, h1, h4⟩
theorem w_aa {args : Array Value} {s : State} {ty : FieldType} (h : (Cond.arrayOver (.array ty)).before args s = true) : ∃ cA, ArrOfT s cA (.array ty) ∧ va_RA s cA (.array ty) := by
  obtain ⟨comp, cA, kA, h1, -, h2, h3, h4⟩ := Jvm.Stand.arrayOver_specB h
  exact ⟨cA, fun n z => ⟨fun k h => (by cases h), kA, h2, comp, h3⟩, h4⟩
