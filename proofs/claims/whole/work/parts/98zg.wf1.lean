set_option maxHeartbeats 4000000 in
theorem wf0 {D : va_G} {cy : Nat → ClassId} {hs w h : Nat} {ly : Int32} (hd : zDim w h) (h1 : w * h ≤ 144) (h2 : fcA w h ≤ 400) : zWf (c_gC D cy hs w h) (c_X6 w h ly) := by
  intro kd r k r' hO hr
  have hG : zGC (c_gC D cy hs w h) (w * h) (fcA w h) := c_gC_GC h1 h2
  have hl := c_roles_live hO.1
  have hk : kdC r = kd := hO.2
  unfold liveC at hl
  rcases hl with hl | hl | hl | hl | hl | hl | hl | hl
  · rcases (show r = 0 ∨ r = 1 ∨ r = 2 ∨ r = 3 ∨ r = 4 ∨ r = 5 ∨ r = 6 ∨ r = 7 ∨ r = 8 ∨ r = 9 ∨ r = 10 ∨ r = 11 ∨ r = 12 ∨ r = 13 ∨ r = 14 ∨ r = 15 ∨ r = 16 ∨ r = 17 ∨ r = 18 ∨ r = 19 ∨ r = 20 by omega) with q | q | q | q | q | q | q | q | q | q | q | q | q | q | q | q | q | q | q | q | q <;> subst q
    · have hk : 6 = kd := hk
      subst hk
      rw [x6_row0] at hr
      split at hr
      · rename_i e9
        subst e9
        cases hr
        exact hG.fix 8 (by decide)
      · skip
        split at hr
        · rename_i e9
          subst e9
          cases hr
          exact hG.fix 7 (by decide)
        · skip
          split at hr
          · rename_i e9
            subst e9
            cases hr
            exact hG.fix 6 (by decide)
          · skip
            split at hr
            · rename_i e9
              subst e9
              cases hr
              exact hG.fix 5 (by decide)
            · skip
              split at hr
              · rename_i e9
                subst e9
                cases hr
                exact hG.fix 4 (by decide)
              · skip
                split at hr
                · rename_i e9
                  subst e9
                  cases hr
                  exact hG.fix 2 (by decide)
                · skip
                  split at hr
                  · rename_i e9
                    subst e9
                    cases hr
                    exact hG.fix 3 (by decide)
                  · skip
                    split at hr
                    · rename_i e9
                      subst e9
                      cases hr
                      exact hG.fix 1 (by decide)
                    · skip
                      cases hr
    · have hk : 12 = kd := hk
      subst hk
      by_cases hn : k < w * h
      · rw [c6_r1 w h ly hn] at hr
        cases hr
        exact hG.cell hn
      · rw [x6e_1 w h ly (by omega)] at hr
        cases hr
    · have hk : 13 = kd := hk
      subst hk
      by_cases hn : k < fcA w h
      · rw [(c6_r2 w h ly hn).1] at hr
        cases hr
        exact hG.face hn
      · rw [x6e_2 w h ly (by omega)] at hr
        cases hr
    · have hk : 15 = kd := hk
      subst hk
      by_cases hn : k < 4
      · rw [(c6_r3 w h ly hn).1] at hr
        cases hr
        exact hG.side hn
      · rw [x6e_3 w h ly (by omega)] at hr
        cases hr
    · rw [c6_R0 w h ly (by omega), c_states_Ro (by omega), c6_R1 w h ly (by omega), c_nests_Ro (by omega), c6_R2 w h ly (by omega), c_face_Ro w h (by omega), c6_R3 w h ly (by omega), c_sides_Ro (by omega), c_cells_Ro (by omega)] at hr
      cases hr
    · rw [c6_R0 w h ly (by omega), c_states_Ro (by omega), c6_R1 w h ly (by omega), c_nests_Ro (by omega), c6_R2 w h ly (by omega), c_face_Ro w h (by omega), c6_R3 w h ly (by omega), c_sides_Ro (by omega), c_cells_Ro (by omega)] at hr
      cases hr
    · have hk : 14 = kd := hk
      subst hk
      by_cases hn : k < 10
      · rw [(c6_r6 w h ly hn).1] at hr
        cases hr
        exact hG.nest hn
      · rw [x6e_6 w h ly (by omega)] at hr
        cases hr
    · have hk : 16 = kd := hk
      subst hk
      by_cases hn : k < 4
      · rw [(c6_r7 w h ly hn).1] at hr
        cases hr
        exact hG.state hn
      · rw [x6e_7 w h ly (by omega)] at hr
        cases hr
    · have hk : 5 = kd := hk
      subst hk
      rw [x6_row8] at hr
      split at hr
      · rename_i e9
        subst e9
        cases hr
        exact hG.fix 20 (by decide)
      · skip
        split at hr
        · rename_i e9
          subst e9
          cases hr
          exact hG.fix 19 (by decide)
        · skip
          split at hr
          · rename_i e9
            subst e9
            cases hr
            exact hG.fix 18 (by decide)
          · skip
            split at hr
            · rename_i e9
              subst e9
              cases hr
              exact hG.fix 17 (by decide)
            · skip
              split at hr
              · rename_i e9
                subst e9
                cases hr
                exact hG.fix 11 (by decide)
              · skip
                split at hr
                · rename_i e9
                  subst e9
                  cases hr
                  exact hG.fix 10 (by decide)
                · skip
                  split at hr
                  · rename_i e9
                    subst e9
                    cases hr
                    exact hG.fix 9 (by decide)
                  · skip
                    cases hr
    · rw [c6_Rz w h ly (by omega)] at hr
      cases hr
    · rw [c6_Rz w h ly (by omega)] at hr
      cases hr
    · have hk : 17 = kd := hk
      subst hk
      rw [x6_row11] at hr
      split at hr
      · cases hr
        rename_i h5
        rcases (show k = 0 ∨ k = 1 ∨ k = 2 ∨ k = 3 ∨ k = 4 by omega) with q | q | q | q | q <;> subst q
        · exact hG.fix 12 (by decide)
        · exact hG.fix 13 (by decide)
        · exact hG.fix 14 (by decide)
        · exact hG.fix 15 (by decide)
        · exact hG.fix 16 (by decide)
      · cases hr
    · rw [c6_Rz w h ly (by omega)] at hr
      cases hr
    · rw [c6_Rz w h ly (by omega)] at hr
      cases hr
    · rw [c6_Rz w h ly (by omega)] at hr
      cases hr
    · rw [c6_Rz w h ly (by omega)] at hr
      cases hr
    · rw [c6_Rz w h ly (by omega)] at hr
      cases hr
    · rw [c6_Rz w h ly (by omega)] at hr
      cases hr
    · rw [c6_Rz w h ly (by omega)] at hr
      cases hr
    · rw [c6_Rz w h ly (by omega)] at hr
      cases hr
    · rw [c6_Rz w h ly (by omega)] at hr
      cases hr
  · obtain ⟨j, hj, rfl⟩ : ∃ j, j < 4 ∧ r = 30 + j := ⟨r - 30, by omega, by omega⟩
    have hk2 : kd = 3 := hk.symm.trans (hG.side hj).2
    subst hk2
    by_cases b0 : k = 0
    · subst b0
      rw [(c6_r3 w h ly hj).2.1] at hr
      cases hr
      exact (hG.size hj).1
    · by_cases b1 : k = 1
      · subst b1
        rw [(c6_r3 w h ly hj).2.2] at hr
        cases hr
        exact (hG.phase hj).1
      · rw [x6e_30 w h ly ⟨hj, by omega⟩] at hr
        cases hr
  · rw [c6_Rz w h ly (by omega)] at hr
    cases hr
  · rw [c6_Rz w h ly (by omega)] at hr
    cases hr
  · by_cases h7 : r < 70
    · obtain ⟨j, hj, rfl⟩ : ∃ j, j < 10 ∧ r = 60 + j := ⟨r - 60, by omega, by omega⟩
      have hk2 : kd = 2 := hk.symm.trans (hG.nest hj).2
      subst hk2
      by_cases b0 : k = 0
      · subst b0
        rw [(c6_r6 w h ly hj).2] at hr
        cases hr
        exact (hG.share hj).1
      · rw [c6_R60 w h ly hj b0] at hr
        cases hr
    · by_cases h8 : r < 80
      · rw [c6_Rz w h ly (by omega)] at hr
        cases hr
      · obtain ⟨j, hj, rfl⟩ : ∃ j, j < 4 ∧ r = 80 + j := ⟨r - 80, by omega, by omega⟩
        have hk2 : kd = 4 := hk.symm.trans (hG.state hj).2
        subst hk2
        by_cases b0 : k < 7
        · rw [(c6_r7 w h ly hj).2 k b0] at hr
          cases hr
          have h9 := (hG.kept hj b0).1
          rcases (show k = 0 ∨ k = 1 ∨ k = 2 ∨ k = 3 ∨ k = 4 ∨ k = 5 ∨ k = 6 by omega) with q | q | q | q | q | q | q <;> subst q <;> exact h9
        · rw [x6e_80 w h ly ⟨hj, by omega⟩] at hr
          cases hr
  · rw [c6_Rz w h ly (by omega)] at hr
    cases hr
  · rw [c6_Rz w h ly (by omega)] at hr
    cases hr
  · obtain ⟨j, hj, rfl⟩ : ∃ j, j < fcA w h ∧ r = 2000 + j := ⟨r - 2000, by omega, by omega⟩
    have hk2 : kd = 1 := hk.symm.trans (hG.face hj).2
    subst hk2
    by_cases b0 : k = 0
    · subst b0
      rw [(c6_r2 w h ly hj).2.1] at hr
      obtain ⟨q, hq, rfl⟩ := fBef_in hd hj hr
      exact hG.cell hq
    · by_cases b1 : k = 1
      · subst b1
        rw [(c6_r2 w h ly hj).2.2.1] at hr
        obtain ⟨q, hq, rfl⟩ := fBeh_in hd hj hr
        exact hG.cell hq
      · by_cases b2 : k = 2
        · subst b2
          rw [(c6_r2 w h ly hj).2.2.2] at hr
          obtain ⟨q, hq, rfl⟩ := fSid_in hr
          exact hG.side hq
        · rw [x6e_2000 w h ly (by omega)] at hr
          cases hr
