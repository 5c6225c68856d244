/-! the law: two worlds in one heap, the script before them; the law's values by a view of its own (0: the script, 1: the class's object, 2: the model's) -/
abbrev ZW9 : Type := ZG × ZG × Nat × Nat × (Nat → Int32)
abbrev ZQ9 : Type := List Frame → Array Value → State → State → Prop
def zLX (g : ZG) (W9 : ZW9) (K : ZK) (p : Program) (s : State) (m : MethodId) (args : Array Value) (meth : Method) (c : Code) : Prop :=
  p.tables.exec = Jvm.exec ∧ c.code = zKc K ∧ c.maxLocals = zKn K ∧ s.vm.findClass (zKo K) = some m.cls ∧ (∀ w ∈ lw_good, w.before args s = true) ∧ meth.sig.returnType = zKr K ∧ meth.locks = false ∧
  (args = #[Value.ref W9.2.2.1] ∧ va_X W9.2.2.1 W9.2.2.2.1 W9.2.2.2.2 s s.heap ∧ W9.2.2.1 < s.heap.size ∧ zad g 0 = W9.2.2.1 ∧ zad g 1 = zad W9.1 0 ∧ zad g 2 = zad W9.2.1 0) ∧
  (va_K (zgD W9.1) vwCl (ztys W9.1) s ∧ zAp W9.1 ∧ zZs W9.1 s s.heap ∧ ∀ r ∈ zrs W9.1, s.heap.size ≤ zad W9.1 r) ∧ (va_K (zgD W9.2.1) vwCl (ztys W9.2.1) s ∧ zAp W9.2.1 ∧ zZs W9.2.1 s s.heap ∧ ∀ r ∈ zrs W9.2.1, s.heap.size ≤ zad W9.2.1 r) ∧
  zNst s ∧ ∀ r ∈ zrs W9.1, ∀ r' ∈ zrs W9.2.1, zad W9.1 r ≠ zad W9.2.1 r'
def zAL (s : State) : Nat → Prop := fun q => s.heap.size ≤ q
def zLW (g : ZG) (W9 : ZW9) (Q9 : ZQ9) (K : ZK) (pc : Nat) (ls : ZLS) (st : List ZV) (μ : ZMem × ZMem) : Prop :=
  ∀ (l : Launch) (p : Program) (e : Env) (s : State) (m : MethodId) (args : Array Value) (below : List Frame) (meth : Method) (c : Code), zLX g W9 K p s m args meth c →
  ∀ (d : Drawn) (H : Heap) (locs : List Loc) (sl : Array Slot) (stk : List Value) (μr : ZMem × ZMem), s.drawn.sameBut d lw_cs → va_S (zAL s) s.heap H locs → (va_P (zgD W9.1) vwCl (zws W9.1 μr.1) H ∧ va_P (zgD W9.2.1) vwCl (zws W9.2.1 μr.2) H) → (zcM μr.1 = μ.1 ∧ zcM μr.2 = μ.2) → zLR g sl (zKn K) ls → zSR g stk st →
  W p l e (zKR K) (s.setDrawn d) m args below meth c H locs (zKR K).cells (zKR K).slots (Q9 below args s) (F0 m pc sl stk)
theorem zLW_sub {g : ZG} {K : ZK} {W9 : ZW9} {Q9 : ZQ9} {pc : Nat} {ls ls' : ZLS} {st : List ZV} {μ : ZMem × ZMem} (hs : ∀ j v, ls' j = some v → ls j = some v) (k : zLW g W9 Q9 K pc ls' st μ) : zLW g W9 Q9 K pc ls st μ :=
  fun l p e s m args below meth c C d H locs sl stk μr hd hS hP hμ hL hT => k l p e s m args below meth c C d H locs sl stk μr hd hS hP hμ (zLR_sub hL hs) hT
theorem zLW_to {g : ZG} {K : ZK} {W9 : ZW9} {Q9 : ZQ9} {pc : Nat} {ls : ZLS} {t : List (Nat × ZV)} {st : List ZV} {μ : ZMem × ZMem} (k : zLW g W9 Q9 K pc (zls t) st μ) (h : zhas ls t) : zLW g W9 Q9 K pc ls st μ := zLW_sub (zhas_sub h) k
/-- the script's cells -/
theorem zq_sald {g : ZG} {K : ZK} {W9 : ZW9} {Q9 : ZQ9} {pc : Nat} {ls : ZLS} {st : List ZV} {μ : ZMem × ZMem} {i : Int32} (j : Nat) (hi : i = nI j) (hj : j < W9.2.2.2.1 ∧ W9.2.2.2.1 ≤ 2563) (hd : decode (zKc K) pc = .ok (.iaload, 1)) (kk : zLW g W9 Q9 K (pc + 1) ls (zi (W9.2.2.2.2 j) :: st) μ) : zLW g W9 Q9 K pc ls (zi i :: zr (some 0) :: st) μ := by
  intro l p e s m args below meth c C d H locs sl stk μr hd0 hS hP hμ hL hT
  obtain ⟨a1, stk1, rfl, h1, hT1⟩ := zSR_cons hT
  cases h1
  obtain ⟨a2, stk2, rfl, h2, hT2⟩ := zSR_cons hT1
  have h2 : a2 = .ref (zad g 0) := h2
  subst h2
  subst hi
  have hcl : (nI j).toNatClampNeg = j := nI_clamp (by omega)
  have hin : vp_in (nI j) W9.2.2.2.1 := vp_in_nI hj.1 (by omega)
  obtain ⟨c1, c2, c3, c4, c5⟩ := C.2.2.2.2.2.2.2.1
  rw [c4]
  refine va_sld (s := s.setDrawn d) (A := zAL s) (H0 := s.heap) (b := W9.2.2.1) (L := W9.2.2.2.1) (xs := W9.2.2.2.2) C.1 C.2.1 c2 c3 (fun q => by have q : s.heap.size ≤ _ := q; omega) hS hin hd ?_
  rw [hcl]
  exact kk l p e s m args below meth c C d H locs sl _ μr hd0 hS hP hμ hL ⟨rfl, hT2⟩
theorem zq_slen {g : ZG} {K : ZK} {W9 : ZW9} {Q9 : ZQ9} {pc : Nat} {ls : ZLS} {st : List ZV} {μ : ZMem × ZMem} (hd : decode (zKc K) pc = .ok (.arraylength, 1)) (kk : zLW g W9 Q9 K (pc + 1) ls (zi (nI W9.2.2.2.1) :: st) μ) : zLW g W9 Q9 K pc ls (zr (some 0) :: st) μ := by
  intro l p e s m args below meth c C d H locs sl stk μr hd0 hS hP hμ hL hT
  obtain ⟨a1, stk1, rfl, h1, hT1⟩ := zSR_cons hT
  have h1 : a1 = .ref (zad g 0) := h1
  subst h1
  obtain ⟨c1, c2, c3, c4, c5⟩ := C.2.2.2.2.2.2.2.1
  rw [c4]
  refine va_slen (s := s.setDrawn d) (A := zAL s) (H0 := s.heap) (b := W9.2.2.1) (L := W9.2.2.2.1) (xs := W9.2.2.2.2) C.1 C.2.1 c2 c3 (fun q => by have q : s.heap.size ≤ _ := q; omega) hS hd ?_
  exact kk l p e s m args below meth c C d H locs sl _ μr hd0 hS hP hμ hL ⟨rfl, hT1⟩
theorem zq_tableIn {g : ZG} {K : ZK} {W9 : ZW9} {Q9 : ZQ9} {pc : Nat} {ls : ZLS} {st : List ZV} {μ : ZMem × ZMem} {dflt lo hi : Int} {offs : Array Int} {len : Nat} {x : Int32} {off : Int} {tgt : Nat} (hd : decode (zKc K) pc = .ok (.tableswitch dflt lo hi offs, len)) (h1 : ¬ x.toInt < lo) (h2 : ¬ hi < x.toInt) (ho : offs[(x.toInt - lo).toNat]? = some off) (ht : (pc : Int) + off = (tgt : Int)) (k : zLW g W9 Q9 K tgt ls st μ) : zLW g W9 Q9 K pc ls (zi x :: st) μ := by
  intro l p e s m args below meth c C d H locs sl stk μr hd0 hS hP hμ hL hT
  obtain ⟨a1, stk1, rfl, h3, hT1⟩ := zSR_cons hT
  cases h3
  exact lv_tableIn C.1 C.2.1 hd h1 h2 ho ht (k l p e s m args below meth c C d H locs sl _ μr hd0 hS hP hμ hL hT1)
theorem zq_tableOut {g : ZG} {K : ZK} {W9 : ZW9} {Q9 : ZQ9} {pc : Nat} {ls : ZLS} {st : List ZV} {μ : ZMem × ZMem} {dflt lo hi : Int} {offs : Array Int} {len : Nat} {x : Int32} {tgt : Nat} (hd : decode (zKc K) pc = .ok (.tableswitch dflt lo hi offs, len)) (h : x.toInt < lo ∨ hi < x.toInt) (ht : (pc : Int) + dflt = (tgt : Int)) (k : zLW g W9 Q9 K tgt ls st μ) : zLW g W9 Q9 K pc ls (zi x :: st) μ := by
  intro l p e s m args below meth c C d H locs sl stk μr hd0 hS hP hμ hL hT
  obtain ⟨a1, stk1, rfl, h3, hT1⟩ := zSR_cons hT
  cases h3
  exact lv_tableOut C.1 C.2.1 hd h ht (k l p e s m args below meth c C d H locs sl _ μr hd0 hS hP hμ hL hT1)
/-- numbers are the same in every view -/
def znum : ZV → Bool
  | .inr (.inr (.inr _)) => false
  | _ => true
theorem zSR_num {g g2 : ZG} : ∀ {as : List Value} {vs : List ZV}, vs.all znum = true → zSR g as vs → zSR g2 as vs
  | [], [], _, _ => trivial
  | [], _ :: _, _, h => h.elim
  | _ :: _, [], _, h => h.elim
  | a :: as, v :: vs, hn, h => by
    rw [List.all_cons, Bool.and_eq_true] at hn
    refine ⟨?_, zSR_num hn.2 h.2⟩
    have h1 := h.1
    have hn1 := hn.1
    rcases v with v | v | v | v
    · exact h1
    · exact h1
    · exact h1
    · cases hn1
theorem zRo_num {g g2 : ZG} {w : Option Value} {v : ZV} (hn : znum v = true) (h : zRo g w (some v)) : zRo g2 w (some v) := by
  cases w with
  | none => exact h.elim
  | some a =>
    rcases v with v | v | v | v
    · exact h
    · exact h
    · exact h
    · cases hn
theorem zP_apart {gC gM : ZG} {μ : ZMem} {H H1 : Heap} (hP : va_P (zgD gM) vwCl (zws gM μ) H) (hk : ∀ q : Nat, q < H.size → ¬ zRg gC q → H1[q]? = H[q]?) (hd : ∀ r ∈ zrs gC, ∀ r' ∈ zrs gM, zad gC r ≠ zad gM r') : va_P (zgD gM) vwCl (zws gM μ) H1 := by
  refine hP.kept (fun k q hq => hk q.1 ((hP k q hq).lt) (fun z => ?_))
  obtain ⟨r, hr, e⟩ := z
  unfold zws at hq
  rw [List.getElem?_map] at hq
  obtain ⟨r', hr', rfl⟩ := Option.map_eq_some_iff.mp hq
  exact hd r hr r' (List.mem_of_getElem? hr') e
theorem zq_callC {g : ZG} {K : ZK} {W9 : ZW9} {Q9 : ZQ9} {pc : Nat} {ls : ZLS} (st : List ZV) {μ : ZMem × ZMem} {y : MethodName} {bytes : ByteArray} {maxL n index : Nat} {ret : Option FieldType} {Rc : Room} {As : List ZV} {v : ZV} {μ1 : ZMem} {st0 : List ZV} {Cl : String} {T : u_T} {N : Nat} (hl : zLv (zKo K) index Cl y bytes maxL ret n) (hM : zCab W9.1 y.cls y bytes maxL ret Rc (zr (some 0) :: As) μ.1 (some v) μ1) (hO : zO W9.1 6 0) (hcl : vwCl[6]? = some (Cl, T, N)) (hst : st0 = As.reverse ++ (zr (some 1) :: st)) (hAn : As.all znum = true ∧ znum v = true) (hn : As.length = n) (hR : zRoom K Rc maxL) (hw : zwt st ≤ 8) (hd : decode (zKc K) pc = .ok (.invokevirtual index, 3)) (kk : zLW g W9 Q9 K (pc + 3) ls (v :: st) (μ1, μ.2)) : zLW g W9 Q9 K (pc) ls (st0) μ := by
  intro l p e s m args below meth c C d H locs sl stk μr hd0 hS hP hμ hL hT
  subst hst
  obtain ⟨as, stk2, rfl, hA, hT2⟩ := zSR_app (us := As.reverse) hT
  have hA2 : zSR W9.1 as.reverse As := by
    have := zSR_rev hA
    rw [List.reverse_reverse] at this
    exact zSR_num hAn.1 this
  have hlen : as.reverse.length = n := (zSR_len hA2).trans hn
  obtain ⟨ar, stk3, rfl, hr, hT3⟩ := zSR_cons hT2
  obtain ⟨c1, c2, c3, c4, c5⟩ := C.2.2.2.2.2.2.2.1
  have hr : ar = .ref (zad g 1) := hr
  rw [c5.1] at hr
  subst hr
  obtain ⟨k1, k2, k3, k4⟩ := C.2.2.2.2.2.2.2.2.1
  obtain ⟨q1, q2, q3, q4, q5, q6⟩ := hl
  obtain ⟨q0, hq0, hq⟩ := zws_at hO.1
  have hrec := va_recv (s := s.setDrawn d) k1 hP.1 hcl ((hq μr.1).trans (by rw [zpc_obj hO (by decide)]))
  have cb := callB_of (R := zKR K) (own := zKo K) n (dr_words C.2.2.2.2.1 d) (zgoodIn q5) rfl hR.1 hR.2.1 ((dr_words C.2.2.2.2.1 d) _ q4) ((dr_words C.2.2.2.2.1 d) _ q1) q6 hR.2.2
  have hpre : ∀ U : State, U.heap = H → (s.setDrawn d).WarmedH U.vm → va_Pc (.ref (zad W9.1 0) :: as.reverse) (fun U => va_P (zgD W9.1) vwCl (zws W9.1 μr.1) U.heap ∧ va_K (zgD W9.1) vwCl (ztys W9.1) U ∧ zNst U ∧ zZs W9.1 U U.heap) (Value.ref (zad W9.1 0) :: as.reverse).toArray U := fun U hU hW =>
    ⟨rfl, by rw [hU]; exact hP.1, va_K.moved hW.alike k1, fun z hz => va_Nw.warmM hW ((Cond.before_setDrawn #[] s d _).trans (C.2.2.2.2.2.2.2.2.2.2.1 z hz)), by
      rw [hU]
      obtain ⟨cf, kf, fi, f, a, cell, h1, h2, h3, h4, h5, h6, h7, h8⟩ := va_Z.moved hW.alike k3
      have ha : a < s.heap.size := (Array.getElem?_eq_some_iff.mp h5).1
      refine ⟨cf, kf, fi, f, a, cell, h1, h2, h3, h4, ?_, h6, h7, h8⟩
      rw [hS.2.1 a ha (fun q => by have q : s.heap.size ≤ a := q; omega)]
      exact h5⟩
  have hrun := va_runV_D (s := s.setDrawn d) (meth := meth) (p := p) (e := e) (R := zKR K) (below := below) (H := H) (locs := locs) (cells := (zKR K).cells) (slots := (zKR K).slots) (g := F0 m pc sl (as ++ .ref (zad W9.1 0) :: stk3)) (As := as.reverse) (rest := stk3) ⟨C.1, C.2.1, C.2.2.1, C.2.2.2.1, (dr_words C.2.2.2.2.1 d)⟩ (hM k2 l (.ref (zad W9.1 0) :: as.reverse) μr.1 ⟨rfl, hA2⟩ hμ.1) ⟨cb, (dr_words C.2.2.2.2.1 d) _ q2, (dr_words C.2.2.2.2.1 d) _ q3⟩ ⟨zPc_blind W9.1 μr.1 _, hrec, hpre⟩ rfl hlen (by obtain ⟨lv, h1, -⟩ := hL; exact h1.1) (by rw [List.reverse_reverse]) (by show 2 * 0 + _ ≤ 8; rw [zwt_eq hT3]; omega) hd ⟨Nat.le_refl _, Nat.le_refl _⟩
  intro T0 hT0 X
  obtain ⟨v0, st₀, t, T', L, d', hd', h0, X', hL', e1, e2, ⟨⟨w, μ2, hw2, hro, hμ2, hP2⟩, hz, hk⟩, stp⟩ := hrun T0 hT0 X
  cases hw2
  rw [h0] at hz hk
  have hin : ∀ q, zRg W9.1 q → zAL s q := fun q ⟨r, hr, e⟩ => by have := k4 r hr; show s.heap.size ≤ q; omega
  have hPo : va_P (zgD W9.2.1) vwCl (zws W9.2.1 μr.2) t.heap := zP_apart hP.2 hk C.2.2.2.2.2.2.2.2.2.2.2
  obtain ⟨t2, a1, b1⟩ := kk l p e s m args below meth c C d' T'.heap (locs ++ L) sl (v0.toList ++ stk3) (μ2, μr.2) (hd0.trans hd')
    ⟨Nat.le_trans hS.1 (by rw [e1]; exact hz), fun q h1 h2 => by rw [e1, hk q (Nat.lt_of_lt_of_le h1 hS.1) (fun z => h2 (hin q z))]; exact hS.2.1 q h1 h2, fun q hq => by
      rcases List.mem_append.mp hq with h | h
      · exact hS.2.2 q h
      · exact hin _ (hL' q h)⟩ ⟨by rw [e1]; exact hP2, by rw [e1]; exact hPo⟩ ⟨hμ2, hμ.2⟩ hL (zRo_list (g := g) (zRo_num hAn.2 hro) hT3) T' rfl X'
  exact ⟨t2, stp t2 a1, b1⟩
theorem zq_callM {g : ZG} {K : ZK} {W9 : ZW9} {Q9 : ZQ9} {pc : Nat} {ls : ZLS} (st : List ZV) {μ : ZMem × ZMem} {y : MethodName} {bytes : ByteArray} {maxL n index : Nat} {ret : Option FieldType} {Rc : Room} {As : List ZV} {v : ZV} {μ1 : ZMem} {st0 : List ZV} {Cl : String} {T : u_T} {N : Nat} (hl : zLv (zKo K) index Cl y bytes maxL ret n) (hM : zCab W9.2.1 y.cls y bytes maxL ret Rc (zr (some 0) :: As) μ.2 (some v) μ1) (hO : zO W9.2.1 7 0) (hcl : vwCl[7]? = some (Cl, T, N)) (hst : st0 = As.reverse ++ (zr (some 2) :: st)) (hAn : As.all znum = true ∧ znum v = true) (hn : As.length = n) (hR : zRoom K Rc maxL) (hw : zwt st ≤ 8) (hd : decode (zKc K) pc = .ok (.invokevirtual index, 3)) (kk : zLW g W9 Q9 K (pc + 3) ls (v :: st) (μ.1, μ1)) : zLW g W9 Q9 K (pc) ls (st0) μ := by
  intro l p e s m args below meth c C d H locs sl stk μr hd0 hS hP hμ hL hT
  subst hst
  obtain ⟨as, stk2, rfl, hA, hT2⟩ := zSR_app (us := As.reverse) hT
  have hA2 : zSR W9.2.1 as.reverse As := by
    have := zSR_rev hA
    rw [List.reverse_reverse] at this
    exact zSR_num hAn.1 this
  have hlen : as.reverse.length = n := (zSR_len hA2).trans hn
  obtain ⟨ar, stk3, rfl, hr, hT3⟩ := zSR_cons hT2
  obtain ⟨c1, c2, c3, c4, c5⟩ := C.2.2.2.2.2.2.2.1
  have hr : ar = .ref (zad g 2) := hr
  rw [c5.2] at hr
  subst hr
  obtain ⟨k1, k2, k3, k4⟩ := C.2.2.2.2.2.2.2.2.2.1
  obtain ⟨q1, q2, q3, q4, q5, q6⟩ := hl
  obtain ⟨q0, hq0, hq⟩ := zws_at hO.1
  have hrec := va_recv (s := s.setDrawn d) k1 hP.2 hcl ((hq μr.2).trans (by rw [zpc_obj hO (by decide)]))
  have cb := callB_of (R := zKR K) (own := zKo K) n (dr_words C.2.2.2.2.1 d) (zgoodIn q5) rfl hR.1 hR.2.1 ((dr_words C.2.2.2.2.1 d) _ q4) ((dr_words C.2.2.2.2.1 d) _ q1) q6 hR.2.2
  have hpre : ∀ U : State, U.heap = H → (s.setDrawn d).WarmedH U.vm → va_Pc (.ref (zad W9.2.1 0) :: as.reverse) (fun U => va_P (zgD W9.2.1) vwCl (zws W9.2.1 μr.2) U.heap ∧ va_K (zgD W9.2.1) vwCl (ztys W9.2.1) U ∧ zNst U ∧ zZs W9.2.1 U U.heap) (Value.ref (zad W9.2.1 0) :: as.reverse).toArray U := fun U hU hW =>
    ⟨rfl, by rw [hU]; exact hP.2, va_K.moved hW.alike k1, fun z hz => va_Nw.warmM hW ((Cond.before_setDrawn #[] s d _).trans (C.2.2.2.2.2.2.2.2.2.2.1 z hz)), by
      rw [hU]
      obtain ⟨cf, kf, fi, f, a, cell, h1, h2, h3, h4, h5, h6, h7, h8⟩ := va_Z.moved hW.alike k3
      have ha : a < s.heap.size := (Array.getElem?_eq_some_iff.mp h5).1
      refine ⟨cf, kf, fi, f, a, cell, h1, h2, h3, h4, ?_, h6, h7, h8⟩
      rw [hS.2.1 a ha (fun q => by have q : s.heap.size ≤ a := q; omega)]
      exact h5⟩
  have hrun := va_runV_D (s := s.setDrawn d) (meth := meth) (p := p) (e := e) (R := zKR K) (below := below) (H := H) (locs := locs) (cells := (zKR K).cells) (slots := (zKR K).slots) (g := F0 m pc sl (as ++ .ref (zad W9.2.1 0) :: stk3)) (As := as.reverse) (rest := stk3) ⟨C.1, C.2.1, C.2.2.1, C.2.2.2.1, (dr_words C.2.2.2.2.1 d)⟩ (hM k2 l (.ref (zad W9.2.1 0) :: as.reverse) μr.2 ⟨rfl, hA2⟩ hμ.2) ⟨cb, (dr_words C.2.2.2.2.1 d) _ q2, (dr_words C.2.2.2.2.1 d) _ q3⟩ ⟨zPc_blind W9.2.1 μr.2 _, hrec, hpre⟩ rfl hlen (by obtain ⟨lv, h1, -⟩ := hL; exact h1.1) (by rw [List.reverse_reverse]) (by show 2 * 0 + _ ≤ 8; rw [zwt_eq hT3]; omega) hd ⟨Nat.le_refl _, Nat.le_refl _⟩
  intro T0 hT0 X
  obtain ⟨v0, st₀, t, T', L, d', hd', h0, X', hL', e1, e2, ⟨⟨w, μ2, hw2, hro, hμ2, hP2⟩, hz, hk⟩, stp⟩ := hrun T0 hT0 X
  cases hw2
  rw [h0] at hz hk
  have hin : ∀ q, zRg W9.2.1 q → zAL s q := fun q ⟨r, hr, e⟩ => by have := k4 r hr; show s.heap.size ≤ q; omega
  have hPo : va_P (zgD W9.1) vwCl (zws W9.1 μr.1) t.heap := zP_apart hP.1 hk (fun r hr r2 hr2 => (C.2.2.2.2.2.2.2.2.2.2.2 r2 hr2 r hr).symm)
  obtain ⟨t2, a1, b1⟩ := kk l p e s m args below meth c C d' T'.heap (locs ++ L) sl (v0.toList ++ stk3) (μr.1, μ2) (hd0.trans hd')
    ⟨Nat.le_trans hS.1 (by rw [e1]; exact hz), fun q h1 h2 => by rw [e1, hk q (Nat.lt_of_lt_of_le h1 hS.1) (fun z => h2 (hin q z))]; exact hS.2.1 q h1 h2, fun q hq => by
      rcases List.mem_append.mp hq with h | h
      · exact hS.2.2 q h
      · exact hin _ (hL' q h)⟩ ⟨by rw [e1]; exact hPo, by rw [e1]; exact hP2⟩ ⟨hμ.1, hμ2⟩ hL (zRo_list (g := g) (zRo_num hAn.2 hro) hT3) T' rfl X'
  exact ⟨t2, stp t2 a1, b1⟩
