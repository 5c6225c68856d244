set_option maxHeartbeats 4000000 in
theorem whole_start {p : Program} {e : Env} {s : State} {m : MethodId} {below : List Frame} {meth : Method} {c : Code} (l : Launch) (hflags : l.flags = flags0) {b L : Nat} {xs : Nat → Int32} (hL : L ≤ 2563) (C0 : lw_At p s m meth c b L xs) : W p l e room_1 s m #[Value.ref b] below meth c s.heap [] 0 0 (lw_Z below #[Value.ref b] s) (entryFrame m ([Value.ref b] : List Value).toArray 8) := by
  obtain ⟨hexec, hcode, hret, hml, hown, hts, hX, hb, hlocks, hgv⟩ := C0
  refine W.base ?_
  have hd0 := Drawn.sameBut.refl s.drawn lw_cs
  obtain ⟨D, cy, hK⟩ := w_K hts
  obtain ⟨w, hw1, hw2, hx⟩ := zbet (x := c_at L xs 0) (n := 12) 12 rfl (by decide)
  obtain ⟨h, hh1, hh2, hy⟩ := zbet (x := c_at L xs 1) (n := 12) 12 rfl (by decide)
  obtain ⟨Lr, hl1, hl2, hz⟩ := zbet (x := c_at L xs 2) (n := 4) 4 rfl (by decide)
  have hwh : w * h ≤ 144 := Nat.le_trans (Nat.mul_le_mul hw2 hh2) (by decide)
  have hwh1 : (w - 1) * h ≤ 144 := Nat.le_trans (Nat.mul_le_mul (show w - 1 ≤ 12 by omega) hh2) (by decide)
  have hwh2 : w * (h - 1) ≤ 144 := Nat.le_trans (Nat.mul_le_mul hw2 (show h - 1 ≤ 12 by omega)) (by decide)
  have hF : fcA w h = (w - 1) * h + w * (h - 1) + 2 * w + 2 * h := rfl
  have hF4 : fcA w h ≤ 400 := by omega
  have hZ : va_Z "java/lang/Math" "negativeZeroDoubleBits" "J" (.long (-9223372036854775808)) (fun _ => False) s s.heap := by
    refine va_Zof (args := #[Value.ref b]) (hts _ (List.mem_of_getElem? (i := 971) (by decide +kernel))) (hts _ (List.mem_of_getElem? (i := 31) (by decide +kernel))) ?_ (fun _ _ q => q)
    have h := flat_of_before _ hgv (Cond.eq (.static "java/lang/Math" "negativeZeroDoubleBits" "J") (.long (-9223372036854775808))) (by decide +kernel)
    exact va_eqv h rfl
  have hd : zDim w h := ⟨hw1, hw2, hh1, hh2⟩
  have hN : zNst s := fun q hq => by
    simp only [znest, List.mem_cons, List.not_mem_nil, or_false] at hq
    rcases hq with rfl | rfl | rfl | rfl | rfl
    · exact hts (.methodLinkNest RX5 76 yX6_saw RX6) (List.mem_of_getElem? (i := 608) (by decide +kernel))
    · exact hts (.methodLinkNest RX5 64 yX6_sizeOf RX6) (List.mem_of_getElem? (i := 614) (by decide +kernel))
    · exact hts (.methodLinkNest RX3 26 yX6_saw RX6) (List.mem_of_getElem? (i := 435) (by decide +kernel))
    · exact hts (.methodLinkNest RX1 61 yX6_sizeOf RX6) (List.mem_of_getElem? (i := 459) (by decide +kernel))
    · exact hts (.methodLinkNest RX0 70 yX6_sizeOf RX6) (List.mem_of_getElem? (i := 488) (by decide +kernel))
  have hXs : zXs s := by
    refine ⟨fun C hC => ?_, hts (.arrayOver (.array .double)) (List.mem_of_getElem? (i := 272) (by decide +kernel)), fun q hq => ?_⟩
    · simp only [zaos, List.mem_cons, List.not_mem_nil, or_false] at hC
      rcases hC with rfl | rfl | rfl | rfl | rfl
      · exact va_AO.of (A := #[Value.ref b]) (hts (.arrayOver (.object RX0)) (List.mem_of_getElem? (i := 61) (by decide +kernel)))
      · exact va_AO.of (A := #[Value.ref b]) (hts (.arrayOver (.object RX1)) (List.mem_of_getElem? (i := 169) (by decide +kernel)))
      · exact va_AO.of (A := #[Value.ref b]) (hts (.arrayOver (.object RX2)) (List.mem_of_getElem? (i := 205) (by decide +kernel)))
      · exact va_AO.of (A := #[Value.ref b]) (hts (.arrayOver (.object RX3)) (List.mem_of_getElem? (i := 135) (by decide +kernel)))
      · exact va_AO.of (A := #[Value.ref b]) (hts (.arrayOver (.object RX4)) (List.mem_of_getElem? (i := 227) (by decide +kernel)))
    · simp only [znin, List.mem_cons, List.not_mem_nil, or_false] at hq
      rcases hq with rfl | rfl | rfl | rfl
      · exact hts (.methodLinkNest RX6 324 yX0_init RX6) (List.mem_of_getElem? (i := 63) (by decide +kernel))
      · exact hts (.methodLinkNest RX6 325 yX3_init RX6) (List.mem_of_getElem? (i := 137) (by decide +kernel))
      · exact hts (.methodLinkNest RX6 326 yX2_init RX6) (List.mem_of_getElem? (i := 207) (by decide +kernel))
      · exact hts (.methodLinkNest RX6 75 yX5_init RX6) (List.mem_of_getElem? (i := 267) (by decide +kernel))
  have key := law_start (g := (D, cy, fun _ => 0, fun _ => 0, [], fun r => if r = 0 then b else if r = 1 then s.heap.size else c_hM s.heap.size w h)) (X9 := (s.heap.size, b, L, xs)) (Q9 := lw_Z) (D := D) (cy := cy) (w := w) (h := h) (ly := nI Lr) ⟨hw1, hw2⟩ ⟨hh1, hh2⟩ hL hx hy hz hwh hF4 ⟨rfl, rfl, rfl, rfl⟩ (law_meet hwh ⟨rfl, rfl, rfl, rfl⟩ (law_loop (ly := nI Lr) (c_gC_GC hwh hF4) c_gM_GM hL (fun ls μ m => law_end ls μ m) (L + 8) 3 0 0 _ _ rfl (Nat.le_refl _) (by show L + 8 ≤ 3 + (L + 8); omega) (by decide) ⟨rel0 hd hl2, wf0 hd hwh hF4⟩))
  have hl := lv_entry [.ref b] (n := 8) (Nat.le_of_ble_eq_true rfl)
  rw [lg_entry_eq]
  exact key l p e s m #[Value.ref b] below meth c ⟨hexec, hcode, hml, hown, fun w hw => hts w (List.mem_filter.mp hw).1, hret, hlocks, ⟨rfl, hX, hb, rfl, rfl⟩, hK _ rfl rfl, hN, hXs, hZ⟩ s.drawn s.heap [] _ [] () hd0 va_S.rf (Nat.le_refl _) trivial ⟨_, hl, fun j v q => by
    unfold zls at q
    split at q
    · rename_i e0; subst e0; cases q; exact ⟨_, List.mem_cons_self, rfl⟩
    · cases q⟩ trivial
