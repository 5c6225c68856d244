/-! the law's start: what stands in the heap is told by a predicate -/
abbrev ZX9 : Type := Nat × Nat × Nat × (Nat → Int32)
def zSX (g : ZG) (X9 : ZX9) (K : ZK) (p : Program) (s : State) (m : MethodId) (args : Array Value) (meth : Method) (c : Code) : Prop :=
  p.tables.exec = Jvm.exec ∧ c.code = zKc K ∧ c.maxLocals = zKn K ∧ s.vm.findClass (zKo K) = some m.cls ∧ (∀ w ∈ lw_good, w.before args s = true) ∧ meth.sig.returnType = zKr K ∧ meth.locks = false ∧
  (args = #[Value.ref X9.2.1] ∧ va_X X9.2.1 X9.2.2.1 X9.2.2.2 s s.heap ∧ X9.2.1 < s.heap.size ∧ zad g 0 = X9.2.1 ∧ s.heap.size = X9.1) ∧
  va_K (zgD g) vwCl (ztys g) s ∧ zNst s ∧ zXs s ∧ va_Z "java/lang/Math" "negativeZeroDoubleBits" "J" (.long (-9223372036854775808)) (fun _ => False) s s.heap
def zLS (g : ZG) (X9 : ZX9) (Q9 : ZQ9) (K : ZK) (kc kn pc : Nat) (ls : ZLS) (st : List ZV) (Φ : Heap → Prop) : Prop :=
  ∀ (l : Launch) (p : Program) (e : Env) (s : State) (m : MethodId) (args : Array Value) (below : List Frame) (meth : Method) (c : Code), zSX g X9 K p s m args meth c →
  ∀ (d : Drawn) (H : Heap) (locs : List Loc) (sl : Array Slot) (stk : List Value) (μr : Unit), s.drawn.sameBut d lw_cs → va_S (zAL s) s.heap H locs → Φ H → True → zLR g sl (zKn K) ls → zSR g stk st →
  W p l e (zKR K) (s.setDrawn d) m args below meth c H locs kc kn (Q9 below args s) (F0 m pc sl stk)
theorem zcM_0 : zcM zM0 = zM0 := by
  have e : zcn 0 = 0 := by decide +kernel
  show ((fun _ _ => 0, fun _ _ => 0, fun _ _ => zcn 0, fun _ _ => none) : ZMem) = _
  rw [e]
  rfl
theorem zs_X {b L : Nat} {xs : Nat → Int32} {s U : State} {H : Heap} (h : va_X b L xs s s.heap) (hal : s.vm.Alike U.vm) (e : H[b]? = s.heap[b]?) : va_X b L xs U H := by
  obtain ⟨scr, h1, h2⟩ := h
  exact va_X.moved (u := s) hal ⟨scr, e.trans h1, h2⟩
theorem zs_cell {g : ZG} {K : ZK} {X9 : ZX9} {Q9 : ZQ9} {kc kn : Nat} {pc : Nat} {ls : ZLS} (st : List ZV) {Φ : Heap → Prop} (k : Nat) {index : Nat} {x : Int32} (hl : zLs (zKo K) index yL_cell cL_cell 2 (some .int) 2) (hk : k < 3) (hx : x = nI k) (hL : X9.2.2.1 ≤ 2563) (hΦ : ∀ H H1 : Heap, Φ H → H.size ≤ H1.size → (∀ q, q < H.size → H1[q]? = H[q]?) → Φ H1) (hR : zRoom K (zrm 0) 2) (hkR : kc ≤ (zKR K).cells ∧ kn ≤ (zKR K).slots) (hw : zwt st ≤ 8) (hd : decode (zKc K) pc = .ok (.invokestatic index, 3)) (kk : zLS g X9 Q9 K kc kn (pc + 3) ls (zi (c_at X9.2.2.1 X9.2.2.2 k) :: st) Φ) : zLS g X9 Q9 K kc kn pc ls (zi x :: zr (some 0) :: st) Φ := by
  intro l p e s m args below meth c C d H locs sl stk μr hd0 hS hP hμ hL' hT
  subst hx
  obtain ⟨a1, stk1, rfl, h1, hT1⟩ := zSR_cons hT
  cases h1
  obtain ⟨a2, stk2, rfl, h2, hT2⟩ := zSR_cons hT1
  obtain ⟨c1, c2, c3, c4, c5⟩ := C.2.2.2.2.2.2.2.1
  have h2 : a2 = .ref (zad g 0) := h2
  rw [c4] at h2
  subst h2
  obtain ⟨q1, q2, q4, q5, q6⟩ := hl
  have cb := callB_of (R := zKR K) (own := zKo K) 2 (dr_words C.2.2.2.2.1 d) (zgoodIn q5) rfl hR.1 hR.2.1 ((dr_words C.2.2.2.2.1 d) _ q4) ((dr_words C.2.2.2.2.1 d) _ q1) q6 hR.2.2
  have hkb : H[X9.2.1]? = s.heap[X9.2.1]? := hS.2.1 _ c3 (fun q => by have q : s.heap.size ≤ _ := q; omega)
  have hlt : X9.2.1 < H.size := Nat.lt_of_lt_of_le c3 hS.1
  have hrun := va_runS_D (s := s.setDrawn d) (meth := meth) (p := p) (e := e) (R := zKR K) (below := below) (H := H) (locs := locs) (cells := kc) (slots := kn) (g := F0 m pc sl (.int (nI k) :: .ref X9.2.1 :: stk2)) (As := [.ref X9.2.1, .int (nI k)]) (rest := stk2) ⟨C.1, C.2.1, C.2.2.1, C.2.2.2.1, (dr_words C.2.2.2.2.1 d)⟩ (m_L_cell l (b := X9.2.1) (xs := X9.2.2.2) hL hk) ⟨cb, (dr_words C.2.2.2.2.1 d) _ q2⟩ ⟨fun a U gf mk q => ⟨q.1, va_X.moved (u := U) (U := U.calling gf mk a) (Vm.Alike.refl U.vm) q.2.1, q.2.2⟩, fun U hU hW => ⟨rfl, by rw [hU]; exact zs_X (s := s) c2 hW.alike hkb, by rw [hU]; exact hlt⟩⟩ rfl rfl (by obtain ⟨lv, h1, -⟩ := hL'; exact h1.1) rfl (by show 2 * 0 + _ ≤ 8; rw [zwt_eq hT2]; omega) hd ⟨hkR.1, hkR.2⟩
  intro T0 hT0 X
  obtain ⟨v0, st₀, t, T', Lc, d', hd', h0, X', hLc, e1, e2, ⟨hv, hz, hkp⟩, stp⟩ := hrun T0 hT0 X
  cases hv
  rw [h0] at hz hkp
  obtain ⟨t2, a1, b1⟩ := kk l p e s m args below meth c C d' T'.heap (locs ++ Lc) sl (.int (c_at X9.2.2.1 X9.2.2.2 k) :: stk2) () (hd0.trans hd')
    ⟨Nat.le_trans hS.1 (by rw [e1]; exact hz), fun q h1 h2 => by rw [e1, hkp q (Nat.lt_of_lt_of_le h1 hS.1) (fun z => z)]; exact hS.2.1 q h1 h2, fun q hq => by
      rcases List.mem_append.mp hq with h | h
      · exact hS.2.2 q h
      · exact (hLc q h).elim⟩ (by rw [e1]; exact hΦ H _ hP hz (fun q hq => hkp q hq (fun z => z))) trivial hL' ⟨rfl, hT2⟩ T' rfl X'
  exact ⟨t2, stp t2 a1, b1⟩
theorem zs_new {g gX : ZG} {K : ZK} {X9 : ZX9} {Q9 : ZQ9} {kc kn : Nat} {pc : Nat} {ls : ZLS} {st : List ZV} {Φ : Heap → Prop} {index ci kc2 kn2 v : Nat} (hN : zNc (zKo K) index ci) (hgX : zgD gX = zgD g ∧ zrs gX = [] ∧ zkd gX 0 = ci) (hv : zad g v = zad gX 0) (hq : zad gX 0 = X9.1 + kc) (hsz : ∀ H, Φ H → X9.1 + kc ≤ H.size) (hΦ : ∀ H H1 : Heap, Φ H → H.size ≤ H1.size → (∀ q, q < H.size → H1[q]? = H[q]?) → Φ H1) (hk : kc + 1 = kc2) (hn : kn + znf ci ≤ kn2) (hR : kc2 ≤ (zKR K).cells ∧ kn2 ≤ (zKR K).slots) (hd : decode (zKc K) pc = .ok (.new index, 3)) (kk : zLS g X9 Q9 K kc2 kn2 (pc + 3) ls (zr (some v) :: st) (fun H => Φ H ∧ va_P (zgD gX) vwCl (zws (zgr gX [0]) zM0) H)) : zLS g X9 Q9 K kc kn pc ls st Φ := by
  intro l p e s m args below meth c C d H locs sl stk μr hd0 hS hP hμ hL hT T hT0 X
  obtain ⟨c1, c2, c3, c4, c5⟩ := C.2.2.2.2.2.2.2.1
  have hz : H.size = X9.1 + kc := by
    have u : T.heap.size ≤ s.heap.size + kc := X.same.2.2.1
    rw [hT0] at u
    have := hsz H hP
    omega
  revert T
  obtain ⟨Cl, Tt, N, q1, q2, q3, q4, q5, q6, q7, q8⟩ := hN
  have hK := C.2.2.2.2.2.2.2.2.1
  have hKn := hK.1 ci _ q1
  have hts := dr_words C.2.2.2.2.1 d
  subst hk
  refine W.widen (Nat.le_refl _) (Nat.le_refl _) ?_
  refine W.newcK (s := s.setDrawn d) C.1 C.2.1 C.2.2.2.1 (hts _ q5) (hts _ q6) (hts _ q7) rfl hd (by omega) (by omega) hKn.2.1 (h := zad gX 0) (by rw [hq, hz]) fun H1 kC hkC e1 z1 o1 => ?_
  have hz1 : zad gX 0 = H.size := by rw [hq, hz]
  refine W.widen (Nat.le_refl _) (by rw [q2]; exact hn) ?_
  have hK' := (va_K.moved (U := s.setDrawn d) (Vm.Alike.refl _) hK).1 ci _ q1
  refine kk l p e s m args below meth c C d H1 locs sl (.ref (zad gX 0) :: stk) () hd0 (zS_push hS (by omega) (fun q h => o1 q (by omega))) ⟨hΦ H H1 hP (by omega) (fun q h => o1 q (by omega)), ?_⟩ trivial hL ⟨by show Value.ref _ = Value.ref (zad g v); rw [hv], hT⟩
  have hpc : zpc gX zM0 0 = .inr (ci, zfs gX zM0 0 ci) := by
    unfold zpc
    rw [hgX.2.2, if_pos q3]
  intro k x hx
  have hx : ((zrs gX ++ [0]).map (fun r => (zad gX r, zpc gX zM0 r)))[k]? = some x := hx
  rw [hgX.2.1] at hx
  have hz2 : k < 1 := (List.getElem?_eq_some_iff.mp hx).1
  rw [show k = 0 by omega] at hx
  cases hx
  show va_at (zgD gX) vwCl (zad gX 0, zpc gX zM0 0) H1
  rw [hpc, hgX.1]
  refine ⟨_, q1, (u_born (zft ci) hts q4 hK' hkC e1 q8).to (fun j hj => ?_)⟩
  rw [zborn (g := gX) (zM0_zr 0) q3 (by rw [← q2]; exact hj)]
  unfold vp_V
  rw [List.getD_eq_getElem?_getD, zfs_get (by rw [← q2]; exact hj)]
  rfl
theorem zs_init {g gX : ZG} {K : ZK} {X9 : ZX9} {Q9 : ZQ9} {kc kn : Nat} {kc2 kn2 : Nat} {pc : Nat} {ls : ZLS} (st : List ZV) {Φ : Heap → Prop} {y : MethodName} {bytes : ByteArray} {maxL n index v : Nat} {Rc : Room} {As : List ZV} {μ1 : ZMem} {st0 : List ZV} {nF : List Nat} (hl : zLi (zKo K) index y bytes maxL n) (hM : zNab (zgr gX [0]) y.cls y bytes maxL none Rc (zr (some 0) :: As) zM0 none μ1 nF (X9.1 + kc)) (hgX : zgD gX = zgD g ∧ zrs gX = [] ∧ zcy gX = zcy g) (hv : zad g v = zad gX 0) (hq : zad gX 0 + 1 = X9.1 + kc) (hge : X9.1 ≤ zad gX 0) (hΦ : ∀ H H1 : Heap, Φ H → H.size ≤ H1.size → (∀ q, q < H.size → q ≠ zad gX 0 → H1[q]? = H[q]?) → Φ H1) (hst : st0 = As.reverse ++ (zr (some v) :: st)) (hAn : As.all znum = true) (hn : As.length = n) (hR : zRoomN K Rc kc kn kc2 kn2 maxL) (hw : zwt st ≤ 8) (hd : decode (zKc K) pc = .ok (.invokespecial index, 3)) (kk : zLS g X9 Q9 K kc2 kn2 (pc + 3) ls st (fun H => Φ H ∧ (∃ μr, zcM μr = μ1 ∧ va_P (zgD gX) vwCl (zws (zgr gX ([0] ++ nF)) μr) H) ∧ zAp (zgr gX ([0] ++ nF)))) : zLS g X9 Q9 K kc kn pc ls st0 (fun H => Φ H ∧ va_P (zgD gX) vwCl (zws (zgr gX [0]) zM0) H) := by
  intro l p e s m args below meth c C d H locs sl stk μr hd0 hS hP hμ hL hT T hT0 X
  obtain ⟨c1, c2, c3, c4, c5⟩ := C.2.2.2.2.2.2.2.1
  have h0lt : zad gX 0 < H.size := zws_lt (g := zgr gX [0]) hP.2 (List.mem_append_right _ List.mem_cons_self)
  have hz : H.size = X9.1 + kc := by
    have u : T.heap.size ≤ s.heap.size + kc := X.same.2.2.1
    rw [hT0] at u
    omega
  revert T
  subst hst
  obtain ⟨as, stk2, rfl, hA, hT2⟩ := zSR_app (us := As.reverse) hT
  have hA2 : zSR (zgr gX [0]) as.reverse As := by
    have := zSR_rev hA
    rw [List.reverse_reverse] at this
    exact zSR_num hAn this
  have hlen : as.reverse.length = n := (zSR_len hA2).trans hn
  obtain ⟨ar, stk3, rfl, hr, hT3⟩ := zSR_cons hT2
  have hr : ar = .ref (zad g v) := hr
  rw [hv] at hr
  subst hr
  obtain ⟨q1, q2, q4, q5, q6, q7⟩ := hl
  have hK := C.2.2.2.2.2.2.2.2.1
  have hA0 : zAp (zgr gX [0]) := by
    intro i j r r' hi hj _
    have hi : (zrs gX ++ [0])[i]? = some r := hi
    have hj : (zrs gX ++ [0])[j]? = some r' := hj
    rw [hgX.2.1] at hi hj
    have h1 : i < 1 := (List.getElem?_eq_some_iff.mp hi).1
    have h2 : j < 1 := (List.getElem?_eq_some_iff.mp hj).1
    omega
  have cb := callB_of (R := zKR K) (own := zKo K) n (dr_words C.2.2.2.2.1 d) (zgoodIn q5) rfl rfl rfl ((dr_words C.2.2.2.2.1 d) _ q4) ((dr_words C.2.2.2.2.1 d) _ q1) q6 (rm := Rc) hR.2.2.2.2
  have hKX : ∀ U : State, (s.setDrawn d).WarmedH U.vm → va_K (zgD (zgr gX [0])) vwCl (ztys (zgr gX [0])) U := fun U hW => by
    have h := va_K.moved hW.alike hK
    have e1 : ztys (zgr gX [0]) = ztys g := by
      show [(zcy gX 8, _), (zcy gX 9, _), (zcy gX 10, _), (zcy gX 11, _), (zcy gX 12, _), (zcy gX 13, _), (zcy gX 14, _), (zcy gX 15, _), (zcy gX 16, _), (zcy gX 17, _)] = _
      rw [hgX.2.2]
      rfl
    rw [e1]
    show va_K (zgD gX) vwCl _ U
    rw [hgX.1]
    exact h
  have hrun := va_runI_D (s := s.setDrawn d) (meth := meth) (p := p) (e := e) (R := zKR K) (below := below) (H := H) (locs := locs) (cells := kc) (slots := kn) (g := F0 m pc sl (as ++ .ref (zad gX 0) :: stk3)) (As := as.reverse) (rest := stk3) ⟨C.1, C.2.1, C.2.2.1, C.2.2.2.1, (dr_words C.2.2.2.2.1 d)⟩ (hM hA0 l (.ref (zad gX 0) :: as.reverse) zM0 ⟨rfl, hA2⟩ zcM_0) ⟨cb, q7, (dr_words C.2.2.2.2.1 d) _ q2⟩ ⟨zPn_blind (zgr gX [0]) zM0 _ _, fun U hU hW => ⟨rfl, by rw [hU]; exact hz, by rw [hU]; exact hP.2, hKX U hW, fun z hz => va_Nw.warmM hW ((Cond.before_setDrawn #[] s d _).trans (C.2.2.2.2.2.2.2.2.2.1 z hz)), by
      rw [hU]
      obtain ⟨cf, kf, fi, f, a, cell, h1, h2, h3, h4, h5, h6, h7, h8⟩ := va_Z.moved hW.alike C.2.2.2.2.2.2.2.2.2.2.2
      have ha : a < s.heap.size := (Array.getElem?_eq_some_iff.mp h5).1
      refine ⟨cf, kf, fi, f, a, cell, h1, h2, h3, h4, ?_, h6, h7, fun q => ?_⟩
      · rw [hS.2.1 a ha (fun q => by have q : s.heap.size ≤ a := q; omega)]
        exact h5
      · obtain ⟨r, hr, e9⟩ := q
        have hr : r ∈ zrs gX ++ [0] := hr
        rw [hgX.2.1] at hr
        cases List.mem_singleton.mp hr
        have e9 : zad gX 0 = a := e9
        omega, zXs_warm hW (zXs_d d C.2.2.2.2.2.2.2.2.2.2.1)⟩⟩ rfl hlen (by obtain ⟨lv, h1, -⟩ := hL; exact h1.1) (by rw [List.reverse_reverse]) (by show 2 * 0 + _ ≤ 8; rw [zwt_eq hT3]; omega) hd ⟨by have := hR.1; have := hR.2.2.1; omega, Nat.le_trans hR.2.1 hR.2.2.2.1⟩
  intro T0 hT0 X
  obtain ⟨v0, st₀, t, T', Lc, d', hd', h0, X', hLc, e1, e2, ⟨⟨⟨w, μ2, hw2, hro, hμ2, hP2⟩, hA3, hlo⟩, hz2, hkp⟩, stp⟩ := hrun T0 hT0 X
  cases hw2
  cases v0 with
  | some a => exact hro.elim
  | none =>
    rw [h0] at hz2 hkp
    rw [zgr_gr] at hP2 hA3
    have hin : ∀ q, zA0 (zgr gX [0]) (X9.1 + kc) q → zAL s q := fun q h => by
      rcases h with ⟨r, hr, e9⟩ | h
      · have hr : r ∈ zrs gX ++ [0] := hr
        rw [hgX.2.1] at hr
        cases List.mem_singleton.mp hr
        have e9 : zad gX 0 = q := e9
        show s.heap.size ≤ q
        omega
      · show s.heap.size ≤ q
        omega
    have hnot : ∀ q, q < H.size → q ≠ zad gX 0 → ¬ zA0 (zgr gX [0]) (X9.1 + kc) q := fun q h1 h2 h => by
      rcases h with ⟨r, hr, e9⟩ | h
      · have hr : r ∈ zrs gX ++ [0] := hr
        rw [hgX.2.1] at hr
        cases List.mem_singleton.mp hr
        exact h2 e9.symm
      · omega
    have hk2 := hR.1
    subst hk2
    obtain ⟨t2, a1, b1⟩ := W.widen (Nat.le_refl _) hR.2.1 (kk l p e s m args below meth c C d' T'.heap (locs ++ Lc) sl stk3 () (hd0.trans hd')
      ⟨Nat.le_trans hS.1 (by rw [e1]; exact hz2), fun q h1 h2 => by rw [e1, hkp q (Nat.lt_of_lt_of_le h1 hS.1) (fun z => h2 (hin q z))]; exact hS.2.1 q h1 h2, fun q hq => by
        rcases List.mem_append.mp hq with h | h
        · exact hS.2.2 q h
        · exact hin _ (hLc q h)⟩ (by rw [e1]; exact ⟨hΦ H _ hP.1 hz2 (fun q h1 h2 => hkp q h1 (hnot q h1 h2)), ⟨μ2, hμ2, hP2⟩, hA3⟩) trivial hL hT3) T' rfl X'
    exact ⟨t2, stp t2 a1, b1⟩
theorem zs_row_dup {g : ZG} {K : ZK} {X9 : ZX9} {Q9 : ZQ9} {kc kn : Nat} {pc : Nat} {ls : ZLS} {st : List ZV} {Φ : Heap → Prop} {v : ZV} (hd : decode (zKc K) pc = .ok (.dup, 1)) (hv : zc2 v = false) (k : zLS g X9 Q9 K kc kn (pc + 1) ls (v :: v :: st) Φ) : zLS g X9 Q9 K kc kn (pc) ls (v :: st) Φ := by
  intro l p e s m args below meth c C d H locs sl stk μr hd0 hS hP hμ hL hT
  obtain ⟨a1, stk1, rfl, h1, hT1⟩ := zSR_cons hT
  exact lv_dup C.1 C.2.1 hd (zRv_cat1 h1 hv) (k l p e s m args below meth c C d H locs sl _ μr hd0 hS hP hμ hL ⟨h1, h1, hT1⟩)
theorem zs_row_aload_n {g : ZG} {K : ZK} {X9 : ZX9} {Q9 : ZQ9} {kc kn : Nat} {pc : Nat} {ls : ZLS} {st : List ZV} {Φ : Heap → Prop} {n : Fin 4} {i : Nat} {x : Option Nat} (hd : decode (zKc K) pc = .ok (.aload_n n, 1)) (hi : (n : Nat) = i) (hl : ls i = some (zr x)) (k : zLS g X9 Q9 K kc kn (pc + 1) ls (zr x :: st) Φ) : zLS g X9 Q9 K kc kn (pc) ls (st) Φ := by
  intro l p e s m args below meth c C d H locs sl stk μr hd0 hS hP hμ hL hT
  obtain ⟨a, ha, hr⟩ := zLR_get hL hl
  have hr : a = va_rf (x.map (zad g)) := hr
  subst hr
  cases x with
  | none => exact lv_aload_nN C.1 C.2.1 hd hi ha (k l p e s m args below meth c C d H locs sl _ μr hd0 hS hP hμ hL ⟨rfl, hT⟩)
  | some r => exact lv_aload_n C.1 C.2.1 hd hi ha (k l p e s m args below meth c C d H locs sl _ μr hd0 hS hP hμ hL ⟨rfl, hT⟩)
theorem zs_row_iconst {g : ZG} {K : ZK} {X9 : ZX9} {Q9 : ZQ9} {kc kn : Nat} {pc : Nat} {ls : ZLS} {st : List ZV} {Φ : Heap → Prop} {n : Int} (v : Int32) (hd : decode (zKc K) pc = .ok (.iconst n, 1)) (hv : Int32.ofInt n = v) (k : zLS g X9 Q9 K kc kn (pc + 1) ls (zi v :: st) Φ) : zLS g X9 Q9 K kc kn (pc) ls (st) Φ := by
  intro l p e s m args below meth c C d H locs sl stk μr hd0 hS hP hμ hL hT
  exact lv_iconst C.1 C.2.1 hd hv (k l p e s m args below meth c C d H locs sl _ μr hd0 hS hP hμ hL ⟨rfl, hT⟩)
theorem zs_row_astore_n {g : ZG} {K : ZK} {X9 : ZX9} {Q9 : ZQ9} {kc kn : Nat} {pc : Nat} {ls : ZLS} {st : List ZV} {Φ : Heap → Prop} {n : Fin 4} {i : Nat} {x : Option Nat} (hd : decode (zKc K) pc = .ok (.astore_n n, 1)) (hi : (n : Nat) = i) (hn : i < zKn K) (k : zLS g X9 Q9 K kc kn (pc + 1) (zst1 ls i (zr x)) (st) Φ) : zLS g X9 Q9 K kc kn (pc) ls (zr x :: st) Φ := by
  intro l p e s m args below meth c C d H locs sl stk μr hd0 hS hP hμ hL hT
  obtain ⟨a1, stk1, rfl, h1, hT1⟩ := zSR_cons hT
  have h1 : a1 = va_rf (x.map (zad g)) := h1
  subst h1
  obtain ⟨lv, hl1, hl2⟩ := hL
  cases x with
  | none => exact lv_astore_nN C.1 C.2.1 hd hi hl1 hn rfl (fun sl hl => k l p e s m args below meth c C d H locs sl _ μr hd0 hS hP hμ (zLR_st1 hl2 (v := zr none) rfl hl) hT1)
  | some r => exact lv_astore_n C.1 C.2.1 hd hi hl1 hn rfl (fun sl hl => k l p e s m args below meth c C d H locs sl _ μr hd0 hS hP hμ (zLR_st1 hl2 (v := zr (some r)) rfl hl) hT1)
theorem zs_row_istore_n {g : ZG} {K : ZK} {X9 : ZX9} {Q9 : ZQ9} {kc kn : Nat} {pc : Nat} {ls : ZLS} {st : List ZV} {Φ : Heap → Prop} {n : Fin 4} {i : Nat} {x : Int32} (hd : decode (zKc K) pc = .ok (.istore_n n, 1)) (hi : (n : Nat) = i) (hn : i < zKn K) (k : zLS g X9 Q9 K kc kn (pc + 1) (zst1 ls i (zi x)) (st) Φ) : zLS g X9 Q9 K kc kn (pc) ls (zi x :: st) Φ := by
  intro l p e s m args below meth c C d H locs sl stk μr hd0 hS hP hμ hL hT
  obtain ⟨a1, stkh1, rfl, h1, hT1⟩ := zSR_cons hT
  cases h1
  obtain ⟨lv, hl1, hl2⟩ := hL
  exact lv_istore_n C.1 C.2.1 hd hi hl1 hn rfl (fun sl hl => k l p e s m args below meth c C d H locs sl _ μr hd0 hS hP hμ (zLR_st1 hl2 rfl hl) hT1)
