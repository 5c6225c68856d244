/-! where the law's start meets its loop -/
theorem c_apart {D : va_G} {cy : Nat → ClassId} {hs w h : Nat} (hN : w * h ≤ 144) : ∀ r ∈ zrs (c_gC D cy hs w h), ∀ r' ∈ zrs (c_gM D cy (c_hM hs w h)), zad (c_gC D cy hs w h) r ≠ zad (c_gM D cy (c_hM hs w h)) r' := by
  intro r hr r' _ e
  have hl := c_roles_live hr
  have hp := posC_lt hl hN
  have e : (if r = 0 then hs else hs + 1 + posC (w * h) (fcA w h) r) = (if r' = 0 then c_hM hs w h else c_hM hs w h + 1 + posM r') := e
  unfold c_hM at e
  split at e <;> split at e <;> omega
theorem c_geC {D : va_G} {cy : Nat → ClassId} {hs w h : Nat} : ∀ r ∈ zrs (c_gC D cy hs w h), hs ≤ zad (c_gC D cy hs w h) r := by
  intro r _
  show hs ≤ (if r = 0 then hs else hs + 1 + posC (w * h) (fcA w h) r)
  split <;> omega
theorem c_geM {D : va_G} {cy : Nat → ClassId} {hs w h : Nat} : ∀ r ∈ zrs (c_gM D cy (c_hM hs w h)), hs ≤ zad (c_gM D cy (c_hM hs w h)) r := by
  intro r _
  show hs ≤ (if r = 0 then c_hM hs w h else c_hM hs w h + 1 + posM r)
  unfold c_hM
  split <;> omega
theorem zZ_all {g : ZG} {s : State} (h : va_Z "java/lang/Math" "negativeZeroDoubleBits" "J" (.long (-9223372036854775808)) (fun _ => False) s s.heap) (hge : ∀ r ∈ zrs g, s.heap.size ≤ zad g r) : zZs g s s.heap := by
  obtain ⟨cf, kf, fi, f, a, cell, h1, h2, h3, h4, h5, h6, h7, -⟩ := h
  refine ⟨cf, kf, fi, f, a, cell, h1, h2, h3, h4, h5, h6, h7, fun q => ?_⟩
  obtain ⟨r, hr, e⟩ := q
  have ha : a < s.heap.size := (Array.getElem?_eq_some_iff.mp h5).1
  have := hge r hr
  omega
theorem law_meet {g : ZG} {X9 : ZX9} {Q9 : ZQ9} {D : va_G} {cy : Nat → ClassId} {w h : Nat} {ly : Int32} {ls : ZLS} (hN : w * h ≤ 144) (hg : zgD g = D ∧ zcy g = cy ∧ zad g 1 = X9.1 ∧ zad g 2 = c_hM X9.1 w h)
    (kk : zLW g (c_gC D cy X9.1 w h, c_gM D cy (c_hM X9.1 w h), X9.2) Q9 zKL 48 ls [] (c_X6 w h ly, c_X7 w h ly)) : zLS g X9 Q9 zKL 600000 7302250 48 ls [] (c_Φ2 D cy X9.1 w h ly) := by
  obtain ⟨g1, g2, g3, g4⟩ := hg
  intro l p e s m args below meth c C d H locs sl stk μr hd hS hP hμ hL hT
  obtain ⟨⟨h0, ⟨μ1, e1, p1⟩, a1⟩, ⟨m1, e2, p2⟩, a2⟩ := hP
  obtain ⟨c1, c2, c3, c4, c5⟩ := C.2.2.2.2.2.2.2.1
  have hty : ztys g = ztys (c_gC D cy X9.1 w h) := by
    unfold ztys
    rw [g2]
    rfl
  have hK := C.2.2.2.2.2.2.2.2.1
  rw [hty, g1] at hK
  refine kk l p e s m args below meth c ⟨C.1, C.2.1, C.2.2.1, C.2.2.2.1, C.2.2.2.2.1, C.2.2.2.2.2.1, C.2.2.2.2.2.2.1, ⟨c1, c2, c3, c4, g3, g4⟩, ⟨hK, a1, zZ_all C.2.2.2.2.2.2.2.2.2.2.2 (by rw [c5]; exact c_geC), by rw [c5]; exact c_geC⟩, ⟨hK, a2, zZ_all C.2.2.2.2.2.2.2.2.2.2.2 (by rw [c5]; exact c_geM), by rw [c5]; exact c_geM⟩, C.2.2.2.2.2.2.2.2.2.1, c_apart hN⟩ d H locs sl stk (μ1, m1) hd hS ⟨p1, p2⟩ ⟨e1, e2⟩ hL hT
