theorem znc_L_7 : zNc RL 7 6 := ⟨RX6, TX6, 17, rfl, rfl, by decide, inG6, zmem 40 (by decide +kernel) rfl, zmem 41 (by decide +kernel) rfl, zmem 30 (by decide +kernel) rfl, tyX6_ok⟩
theorem znc_L_18 : zNc RL 18 7 := ⟨RX7, TX7, 50, rfl, rfl, by decide, inG7, zmem 702 (by decide +kernel) rfl, zmem 703 (by decide +kernel) rfl, zmem 38 (by decide +kernel) rfl, tyX7_ok⟩
theorem zin_L_15 : zLi RL 15 yX6_init cX6_init 8 3 := ⟨zmem 42 (by decide +kernel) rfl, zmem 43 (by decide +kernel) rfl, zmem 30 (by decide +kernel) rfl, zmem 44 (by decide +kernel) rfl, ⟨by decide +kernel, by decide +kernel, by decide +kernel⟩, rfl⟩
theorem zin_L_20 : zLi RL 20 yX7_init cX7_init 4 3 := ⟨zmem 704 (by decide +kernel) rfl, zmem 705 (by decide +kernel) rfl, zmem 38 (by decide +kernel) rfl, zmem 706 (by decide +kernel) rfl, ⟨by decide +kernel, by decide +kernel, by decide +kernel⟩, rfl⟩
def c_hM (hs w h : Nat) : Nat := hs + 1 + (84 + w * h + fcA w h)
def c_gC0 (D : va_G) (cy : Nat → ClassId) (hs w h : Nat) : ZG := (D, cy, kdC, lnC (w * h) (fcA w h), [], fun r => if r = 0 then hs else hs + 1 + posC (w * h) (fcA w h) r)
def c_gM0 (D : va_G) (cy : Nat → ClassId) (hM : Nat) : ZG := (D, cy, kdM, lnM, [], fun r => if r = 0 then hM else hM + 1 + posM r)
def c_Φ1 (D : va_G) (cy : Nat → ClassId) (hs w h : Nat) (ly : Int32) (H : Heap) : Prop := hs ≤ H.size ∧ (∃ μr, zcM μr = c_X6 w h ly ∧ va_P D vwCl (zws (c_gC D cy hs w h) μr) H) ∧ zAp (c_gC D cy hs w h)
def c_Φ2 (D : va_G) (cy : Nat → ClassId) (hs w h : Nat) (ly : Int32) (H : Heap) : Prop := c_Φ1 D cy hs w h ly H ∧ (∃ μr, zcM μr = c_X7 w h ly ∧ va_P D vwCl (zws (c_gM D cy (c_hM hs w h)) μr) H) ∧ zAp (c_gM D cy (c_hM hs w h))
theorem posC_lt {N F r : Nat} (hl : liveC N F r) (hN : N ≤ 144) : posC N F r < 84 + N + F := by
  unfold liveC at hl
  unfold posC
  rcases hl with hl | hl | hl | hl | hl | hl | hl | hl
  · rw [if_pos hl]
    rcases (show r = 0 ∨ r = 1 ∨ r = 2 ∨ r = 3 ∨ r = 4 ∨ r = 5 ∨ r = 6 ∨ r = 7 ∨ r = 8 ∨ r = 9 ∨ r = 10 ∨ r = 11 ∨ r = 12 ∨ r = 13 ∨ r = 14 ∨ r = 15 ∨ r = 16 ∨ r = 17 ∨ r = 18 ∨ r = 19 ∨ r = 20 by omega) with q | q | q | q | q | q | q | q | q | q | q | q | q | q | q | q | q | q | q | q | q <;> subst q <;> simp <;> omega
  all_goals (repeat' split) <;> omega
theorem c_low (D : va_G) (cy : Nat → ClassId) {hs w h : Nat} {ly : Int32} {H : Heap} (hP : c_Φ1 D cy hs w h ly H) : c_hM hs w h ≤ H.size := by
  obtain ⟨-, ⟨μr, -, h1⟩, -⟩ := hP
  have h2 := zws_lt (g := c_gC D cy hs w h) h1 (r := 20) (c_live_roles (Or.inl (by decide)))
  have h3 : zad (c_gC D cy hs w h) 20 = hs + 1 + (83 + w * h + fcA w h) := rfl
  unfold c_hM
  omega
theorem c_Φ1_kept {D : va_G} {cy : Nat → ClassId} {hs w h : Nat} {ly : Int32} {H H1 : Heap} (hN : w * h ≤ 144) (hP : c_Φ1 D cy hs w h ly H) (hz : H.size ≤ H1.size) (hk : ∀ q, q < H.size → q ≠ c_hM hs w h → H1[q]? = H[q]?) : c_Φ1 D cy hs w h ly H1 := by
  obtain ⟨h0, ⟨μr, h1, h2⟩, h3⟩ := hP
  refine ⟨Nat.le_trans h0 hz, ⟨μr, h1, h2.kept (fun k q hq => hk q.1 ((h2 k q hq).lt) (fun z => ?_))⟩, h3⟩
  unfold zws at hq
  rw [List.getElem?_map] at hq
  obtain ⟨r, hr, rfl⟩ := Option.map_eq_some_iff.mp hq
  have hl := c_roles_live (List.mem_of_getElem? hr)
  have z : (if r = 0 then hs else hs + 1 + posC (w * h) (fcA w h) r) = c_hM hs w h := z
  have := posC_lt hl hN
  unfold c_hM at z
  split at z <;> omega
