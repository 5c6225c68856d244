theorem c_roles_live {w h r : Nat} (hr : r ∈ [0] ++ c_roles w h) : liveC (w * h) (fcA w h) r := by
  rcases List.mem_append.mp hr with hr | hr
  · simp only [List.mem_cons, List.not_mem_nil, or_false] at hr
    unfold liveC; omega
  · unfold c_roles at hr
    rcases List.mem_append.mp hr with hr | hr
    · skip
      rcases List.mem_append.mp hr with hr | hr
      · skip
        rcases List.mem_append.mp hr with hr | hr
        · skip
          rcases List.mem_append.mp hr with hr | hr
          · skip
            rcases List.mem_append.mp hr with hr | hr
            · skip
              rcases List.mem_append.mp hr with hr | hr
              · skip
                rcases List.mem_append.mp hr with hr | hr
                · skip
                  rcases List.mem_append.mp hr with hr | hr
                  · skip
                    rcases List.mem_append.mp hr with hr | hr
                    · skip
                      cases hr
                    · skip
                      rcases List.mem_append.mp hr with hr | hr
                      · simp only [List.mem_cons, List.mem_append, List.cons_append, List.nil_append, List.not_mem_nil, or_false, false_or] at hr
                        unfold liveC; omega
                      · obtain ⟨j, hj, hr⟩ := zfl_mem.mp hr
                        simp only [List.mem_cons, List.mem_append, List.cons_append, List.nil_append, List.not_mem_nil, or_false, false_or] at hr
                        unfold liveC; omega
                  · skip
                    rcases List.mem_append.mp hr with hr | hr
                    · simp only [List.mem_cons, List.mem_append, List.cons_append, List.nil_append, List.not_mem_nil, or_false, false_or] at hr
                      unfold liveC; omega
                    · obtain ⟨j, hj, hr⟩ := zfl_mem.mp hr
                      simp only [List.mem_cons, List.mem_append, List.cons_append, List.nil_append, List.not_mem_nil, or_false, false_or] at hr
                      unfold liveC; omega
                · skip
                  rcases List.mem_append.mp hr with hr | hr
                  · simp only [List.mem_cons, List.mem_append, List.cons_append, List.nil_append, List.not_mem_nil, or_false, false_or] at hr
                    unfold liveC; omega
                  · obtain ⟨j, hj, hr⟩ := zfl_mem.mp hr
                    simp only [List.mem_cons, List.mem_append, List.cons_append, List.nil_append, List.not_mem_nil, or_false, false_or] at hr
                    unfold liveC; omega
              · skip
                simp only [List.mem_cons, List.mem_append, List.cons_append, List.nil_append, List.not_mem_nil, or_false, false_or] at hr
                unfold liveC; omega
            · skip
              simp only [List.mem_cons, List.mem_append, List.cons_append, List.nil_append, List.not_mem_nil, or_false, false_or] at hr
              unfold liveC; omega
          · skip
            rcases List.mem_append.mp hr with hr | hr
            · simp only [List.mem_cons, List.mem_append, List.cons_append, List.nil_append, List.not_mem_nil, or_false, false_or] at hr
              unfold liveC; omega
            · obtain ⟨j, hj, hr⟩ := zfl_mem.mp hr
              simp only [List.mem_cons, List.mem_append, List.cons_append, List.nil_append, List.not_mem_nil, or_false, false_or] at hr
              unfold liveC; omega
        · skip
          rcases List.mem_append.mp hr with hr | hr
          · simp only [List.mem_cons, List.mem_append, List.cons_append, List.nil_append, List.not_mem_nil, or_false, false_or] at hr
            unfold liveC; omega
          · obtain ⟨j, hj, hr⟩ := zfl_mem.mp hr
            simp only [List.mem_cons, List.mem_append, List.cons_append, List.nil_append, List.not_mem_nil, or_false, false_or] at hr
            unfold liveC; omega
      · skip
        simp only [List.mem_cons, List.mem_append, List.cons_append, List.nil_append, List.not_mem_nil, or_false, false_or] at hr
        unfold liveC; omega
    · skip
      simp only [List.mem_cons, List.mem_append, List.cons_append, List.nil_append, List.not_mem_nil, or_false, false_or] at hr
      unfold liveC; omega
theorem c_live_roles {w h r : Nat} (hl : liveC (w * h) (fcA w h) r) : r ∈ [0] ++ c_roles w h := by
  unfold liveC at hl
  unfold c_roles
  rcases hl with h1 | h1 | h1 | h1 | h1 | h1 | h1 | h1
  · rcases (show r = 0 ∨ r = 1 ∨ r = 2 ∨ r = 3 ∨ r = 4 ∨ r = 5 ∨ r = 6 ∨ r = 7 ∨ r = 8 ∨ r = 9 ∨ r = 10 ∨ r = 11 ∨ r = 12 ∨ r = 13 ∨ r = 14 ∨ r = 15 ∨ r = 16 ∨ r = 17 ∨ r = 18 ∨ r = 19 ∨ r = 20 by omega) with q | q | q | q | q | q | q | q | q | q | q | q | q | q | q | q | q | q | q | q | q <;> subst q
    · exact List.mem_append_left _ List.mem_cons_self
    · exact List.mem_append_right _ (List.mem_append_left _ (List.mem_append_left _ (List.mem_append_left _ (List.mem_append_left _ (List.mem_append_left _ (List.mem_append_left _ (List.mem_append_left _ (List.mem_append_left _ (List.mem_append_right _ (List.mem_append_left _ List.mem_cons_self))))))))))
    · exact List.mem_append_right _ (List.mem_append_left _ (List.mem_append_left _ (List.mem_append_left _ (List.mem_append_left _ (List.mem_append_left _ (List.mem_append_left _ (List.mem_append_right _ (List.mem_append_left _ List.mem_cons_self))))))))
    · exact List.mem_append_right _ (List.mem_append_left _ (List.mem_append_left _ (List.mem_append_left _ (List.mem_append_left _ (List.mem_append_left _ (List.mem_append_left _ (List.mem_append_left _ (List.mem_append_right _ (List.mem_append_left _ List.mem_cons_self)))))))))
    · exact List.mem_append_right _ (List.mem_append_left _ (List.mem_append_left _ (List.mem_append_left _ (List.mem_append_left _ (List.mem_append_left _ (List.mem_append_right _ (List.mem_cons_self)))))))
    · exact List.mem_append_right _ (List.mem_append_left _ (List.mem_append_left _ (List.mem_append_left _ (List.mem_append_left _ (List.mem_append_right _ (List.mem_cons_self))))))
    · exact List.mem_append_right _ (List.mem_append_left _ (List.mem_append_left _ (List.mem_append_left _ (List.mem_append_right _ (List.mem_append_left _ List.mem_cons_self)))))
    · exact List.mem_append_right _ (List.mem_append_left _ (List.mem_append_left _ (List.mem_append_right _ (List.mem_append_left _ List.mem_cons_self))))
    · exact List.mem_append_right _ (List.mem_append_left _ (List.mem_append_right _ (List.mem_cons_self)))
    · exact List.mem_append_right _ (List.mem_append_right _ (by decide))
    · exact List.mem_append_right _ (List.mem_append_right _ (by decide))
    · exact List.mem_append_right _ (List.mem_append_right _ (by decide))
    · exact List.mem_append_right _ (List.mem_append_right _ (by decide))
    · exact List.mem_append_right _ (List.mem_append_right _ (by decide))
    · exact List.mem_append_right _ (List.mem_append_right _ (by decide))
    · exact List.mem_append_right _ (List.mem_append_right _ (by decide))
    · exact List.mem_append_right _ (List.mem_append_right _ (by decide))
    · exact List.mem_append_right _ (List.mem_append_right _ (by decide))
    · exact List.mem_append_right _ (List.mem_append_right _ (by decide))
    · exact List.mem_append_right _ (List.mem_append_right _ (by decide))
    · exact List.mem_append_right _ (List.mem_append_right _ (by decide))
  · obtain ⟨k, hk, rfl⟩ : ∃ k, k < 4 ∧ r = 30 + k := ⟨r - 30, by omega, by omega⟩
    exact List.mem_append_right _ (List.mem_append_left _ (List.mem_append_left _ (List.mem_append_left _ (List.mem_append_left _ (List.mem_append_left _ (List.mem_append_left _ (List.mem_append_left _ (List.mem_append_right _ (List.mem_append_right _ (zfl_mem.mpr ⟨k, hk, by simp⟩))))))))))
  · obtain ⟨k, hk, rfl⟩ : ∃ k, k < 4 ∧ r = 40 + k := ⟨r - 40, by omega, by omega⟩
    exact List.mem_append_right _ (List.mem_append_left _ (List.mem_append_left _ (List.mem_append_left _ (List.mem_append_left _ (List.mem_append_left _ (List.mem_append_left _ (List.mem_append_left _ (List.mem_append_right _ (List.mem_append_right _ (zfl_mem.mpr ⟨k, hk, by simp⟩))))))))))
  · obtain ⟨k, hk, rfl⟩ : ∃ k, k < 4 ∧ r = 50 + k := ⟨r - 50, by omega, by omega⟩
    exact List.mem_append_right _ (List.mem_append_left _ (List.mem_append_left _ (List.mem_append_left _ (List.mem_append_left _ (List.mem_append_left _ (List.mem_append_left _ (List.mem_append_left _ (List.mem_append_right _ (List.mem_append_right _ (zfl_mem.mpr ⟨k, hk, by simp⟩))))))))))
  · by_cases h7 : r < 70
    · obtain ⟨k, hk, rfl⟩ : ∃ k, k < 10 ∧ r = 60 + k := ⟨r - 60, by omega, by omega⟩
      exact List.mem_append_right _ (List.mem_append_left _ (List.mem_append_left _ (List.mem_append_left _ (List.mem_append_right _ (List.mem_append_right _ (zfl_mem.mpr ⟨k, hk, by simp⟩))))))
    · by_cases h8 : r < 80
      · obtain ⟨k, hk, rfl⟩ : ∃ k, k < 10 ∧ r = 70 + k := ⟨r - 70, by omega, by omega⟩
        exact List.mem_append_right _ (List.mem_append_left _ (List.mem_append_left _ (List.mem_append_left _ (List.mem_append_right _ (List.mem_append_right _ (zfl_mem.mpr ⟨k, hk, by simp⟩))))))
      · obtain ⟨k, hk, rfl⟩ : ∃ k, k < 4 ∧ r = 80 + k := ⟨r - 80, by omega, by omega⟩
        exact List.mem_append_right _ (List.mem_append_left _ (List.mem_append_left _ (List.mem_append_right _ (List.mem_append_right _ (zfl_mem.mpr ⟨k, hk, by simp⟩)))))
  · obtain ⟨k, j, hk, hj, rfl⟩ : ∃ k j, k < 4 ∧ j < 7 ∧ r = 100 + 10 * k + j := ⟨r / 10 - 10, r % 10, by omega, by omega, by omega⟩
    exact List.mem_append_right _ (List.mem_append_left _ (List.mem_append_left _ (List.mem_append_right _ (List.mem_append_right _ (zfl_mem.mpr ⟨k, hk, by simp only [List.mem_cons, List.mem_append, List.cons_append, List.nil_append, List.not_mem_nil, or_false, false_or]; omega⟩)))))
  · obtain ⟨k, hk, rfl⟩ : ∃ k, k < w * h ∧ r = 1000 + k := ⟨r - 1000, by omega, by omega⟩
    exact List.mem_append_right _ (List.mem_append_left _ (List.mem_append_left _ (List.mem_append_left _ (List.mem_append_left _ (List.mem_append_left _ (List.mem_append_left _ (List.mem_append_left _ (List.mem_append_left _ (List.mem_append_right _ (List.mem_append_right _ (zfl_mem.mpr ⟨k, hk, by simp⟩)))))))))))
  · obtain ⟨k, hk, rfl⟩ : ∃ k, k < fcA w h ∧ r = 2000 + k := ⟨r - 2000, by omega, by omega⟩
    exact List.mem_append_right _ (List.mem_append_left _ (List.mem_append_left _ (List.mem_append_left _ (List.mem_append_left _ (List.mem_append_left _ (List.mem_append_left _ (List.mem_append_right _ (List.mem_append_right _ (zfl_mem.mpr ⟨k, hk, by simp⟩)))))))))
/-- the two worlds of the law -/
def c_gC (D : va_G) (cy : Nat → ClassId) (hs w h : Nat) : ZG := (D, cy, kdC, lnC (w * h) (fcA w h), [0] ++ c_roles w h, fun r => if r = 0 then hs else hs + 1 + posC (w * h) (fcA w h) r)
def c_gM (D : va_G) (cy : Nat → ClassId) (hM : Nat) : ZG := (D, cy, kdM, lnM, [0] ++ c_rolesM, fun r => if r = 0 then hM else hM + 1 + posM r)
theorem c_gC_GC {D : va_G} {cy : Nat → ClassId} {hs w h : Nat} (h1 : w * h ≤ 144) (h2 : fcA w h ≤ 400) : zGC (c_gC D cy hs w h) (w * h) (fcA w h) := ⟨h1, h2, fun r hr => ⟨c_live_roles hr, rfl, rfl⟩⟩
theorem c_gM_GM {D : va_G} {cy : Nat → ClassId} {hM : Nat} : zGM (c_gM D cy hM) := by
  intro r hr
  have h51 : r < 51 := Decidable.byContradiction (fun q => by
    have e : kdM r = 99 := by
      unfold kdM
      rw [List.getD_eq_getElem?_getD, List.getElem?_eq_none (by simp only [List.length_cons, List.length_nil]; omega)]
      rfl
    rw [e] at hr
    exact absurd hr (by decide))
  have h : ∀ k : Fin 51, (kdM k.val == 99) = false → k.val ∈ [0] ++ c_rolesM := by decide +kernel
  exact ⟨h ⟨r, h51⟩ hr, rfl, rfl⟩
theorem c_gC_geo {D : va_G} {cy : Nat → ClassId} {hs w h : Nat} (h1 : w * h ≤ 144) (h2 : fcA w h ≤ 400) : c_geo (c_gC D cy hs w h) (hs + 1) (w * h) (fcA w h) := ⟨h1, h2, fun r _ => ⟨rfl, rfl, fun h0 => if_neg h0⟩⟩
theorem c_gM_geo {D : va_G} {cy : Nat → ClassId} {hM : Nat} : c_geoM (c_gM D cy hM) (hM + 1) := fun r _ => ⟨rfl, rfl, fun h0 => if_neg h0⟩
