/-- Object's constructor -/
def zOi (own : String) (index : Nat) : Prop := Cond.methodLink own index Lib.objectInit ∈ lw_good ∧ Cond.instanceMethod Lib.objectInit ∈ lw_good ∧ Cond.code Lib.objectInit ⟨#[0xb1]⟩ 1 none ∈ lw_good
theorem zy_objI {g : ZG} {K : ZK} {nF : List Nat} {hs : Nat} {fi : Bool} {nr : List Nat} {kc kn : Nat} {pc : Nat} {ls : ZLS} {st : List ZV} {μ : ZMem} {r index : Nat} (hw : zOi (zKo K) index) (hR : 1 ≤ (zKR K).frames ∧ zwt st + 12 ≤ (zKR K).locals) (hd : decode (zKc K) pc = .ok (.invokespecial index, 3)) (kk : zWN g K nF hs fi nr kc kn (pc + 3) ls st μ) : zWN g K nF hs fi nr kc kn pc ls (zr (some r) :: st) μ := by
  intro l p e s m args below meth c C hCx d H locs sl stk μr hd0 hS hP hμ hL hT
  obtain ⟨a2, stk2, rfl, h2, hT2⟩ := zSR_cons hT
  have h2 : a2 = .ref (zad g r) := h2
  subst h2
  have hts := dr_words C.2.2.2.2.1 d
  refine W.objInit (s := s.setDrawn d) C.1 C.2.1 C.2.2.2.1 (hts _ hw.1) (hts _ hw.2.1) (hts _ hw.2.2) rfl (by obtain ⟨lv, h1, -⟩ := hL; exact h1.1.trans C.2.2.1.symm) rfl hd hR.1 (by show 2 * 0 + _ + 12 ≤ _; rw [zwt_eq hT2]; omega) ?_
  exact kk l p e s m args below meth c C hCx d H locs sl stk2 μr hd0 hS hP hμ hL hT2
theorem zRv_gr {g : ZG} {nr : List Nat} {a : Value} {v : ZV} : zRv (zgr g nr) a v ↔ zRv g a v := by
  rcases v with v | v | v | v <;> exact Iff.rfl
theorem zSR_gr {g : ZG} {nr : List Nat} : ∀ {as : List Value} {vs : List ZV}, zSR (zgr g nr) as vs ↔ zSR g as vs
  | [], [] => Iff.rfl
  | [], _ :: _ => Iff.rfl
  | _ :: _, [] => Iff.rfl
  | a :: as, v :: vs => ⟨fun h => ⟨zRv_gr.mp h.1, zSR_gr.mp h.2⟩, fun h => ⟨zRv_gr.mpr h.1, zSR_gr.mpr h.2⟩⟩
theorem zRo_gr {g : ZG} {nr : List Nat} {w : Option Value} {v : Option ZV} : zRo (zgr g nr) w v ↔ zRo g w v := by
  cases w <;> cases v <;> first | exact Iff.rfl | exact zRv_gr
/-- behind a call of a method that makes cells -/
theorem zPn_blind (g : ZG) (μr : ZMem) (as : List Value) (hs : Nat) : FrameBlind (va_Pc as (fun U => U.heap.size = hs ∧ va_P (zgD g) vwCl (zws g μr) U.heap ∧ va_K (zgD g) vwCl (ztys g) U ∧ zNst U ∧ zZs g U U.heap ∧ zXs U)) := fun a U gf mk q =>
  ⟨q.1, q.2.1, q.2.2.1, va_K.moved (u := U) (U := U.calling gf mk a) (Vm.Alike.refl U.vm) q.2.2.2.1, fun z hz => va_Nw.same rfl (rfl : U.vm = (U.calling gf mk a).vm) (q.2.2.2.2.1 z hz), va_Z.moved (u := U) (U := U.calling gf mk a) (Vm.Alike.refl U.vm) q.2.2.2.2.2.1, ⟨fun C hC => (q.2.2.2.2.2.2.1 C hC).moved (Vm.Alike.refl U.vm), Jvm.Stand.arrayOver_alikeB (Vm.Alike.refl U.vm) q.2.2.2.2.2.2.2.1, fun z hz => va_Nw.same rfl (rfl : U.vm = (U.calling gf mk a).vm) (q.2.2.2.2.2.2.2.2 z hz)⟩⟩
theorem zPn_pre {g : ZG} {nr : List Nat} {hs kc : Nat} {fi : Bool} {K : ZK} {p : Program} {s : State} {m : MethodId} {args : Array Value} {meth : Method} {c : Code} (C : zCX (zgr g nr) K p s m args meth c) (hx : zXN g hs nr kc fi s meth) {d : Drawn} {H : Heap} {locs : List Loc} {μr : ZMem} (hS : va_S (zA0 g hs) s.heap H locs) (hP : va_P (zgD g) vwCl (zws (zgr g nr) μr) H) (hz : H.size = hs + kc) (as : List Value) :
    ∀ U : State, U.heap = H → (s.setDrawn d).WarmedH U.vm → va_Pc as (fun U => U.heap.size = hs + kc ∧ va_P (zgD (zgr g nr)) vwCl (zws (zgr g nr) μr) U.heap ∧ va_K (zgD (zgr g nr)) vwCl (ztys (zgr g nr)) U ∧ zNst U ∧ zZs (zgr g nr) U U.heap ∧ zXs U) as.toArray U := fun U hU hW =>
  ⟨rfl, by rw [hU]; exact hz, by rw [hU]; exact hP, va_K.moved hW.alike C.2.2.2.2.2.2.2.1, fun z hz => va_Nw.warmM hW ((Cond.before_setDrawn #[] s d _).trans (C.2.2.2.2.2.2.2.2.2.1 z hz)), by
    rw [hU]
    obtain ⟨cf, kf, fi, f, a, cell, h1, h2, h3, h4, h5, h6, h7, h8⟩ := va_Z.moved hW.alike C.2.2.2.2.2.2.2.2.2.2
    have ha : a < s.heap.size := (Array.getElem?_eq_some_iff.mp h5).1
    refine ⟨cf, kf, fi, f, a, cell, h1, h2, h3, h4, ?_, h6, h7, h8⟩
    rw [hS.2.1 a ha (fun q => ?_)]
    · exact h5
    · rcases q with ⟨r, hr, e⟩ | q
      · exact h8 ⟨r, List.mem_append_left _ hr, e⟩
      · have := hx.1
        omega, zXs_warm hW (zXs_d d hx.2.1)⟩
theorem zcontN {g : ZG} {K : ZK} {nF : List Nat} {hs : Nat} {fi : Bool} {nr : List Nat} {kc kn : Nat} {kc2 kn2 : Nat} {pc : Nat} {ls : ZLS} {st : List ZV} {res : Option ZV} {μ1 : ZMem} {n2 : List Nat} {mc ms : Nat} {l : Launch} {p : Program} {e : Env} {s : State} {m : MethodId} {args : Array Value} {below : List Frame} {meth : Method} {c : Code} (C : zCX (zgr g nr) K p s m args meth c) (hx : zXN g hs nr kc fi s meth) {d : Drawn} {H : Heap} {locs : List Loc} {sl : Array Slot} {stk0 rest : List Value} {a : Array Value}
    (hd0 : s.drawn.sameBut d lw_cs) (hS : va_S (zA0 g hs) s.heap H locs) (hL : zLR g sl (zKn K) ls) (hT : zSR g rest st) (hz : H.size = hs + kc) (hk : kc + mc = kc2) (hn : kn + ms ≤ kn2)
    (hr : va_RunD lw_cs p l e (zKR K) (s.setDrawn d) m args below meth c H locs kc kn mc ms (F0 m pc sl stk0) rest (zQN (zgr g nr) n2 (hs + kc) mc res μ1 a) (zA0 (zgr g nr) (hs + kc))) (kk : zWN g K nF hs fi (nr ++ n2) kc2 kn2 (pc + 3) ls (res.toList ++ st) μ1) :
    W p l e (zKR K) (s.setDrawn d) m args below meth c H locs kc kn (MQD lw_cs below (zQN g nF hs (zKR K).cells (zKa K) (zKm K)) args s (zKR K).cells (zKR K).slots (zA0 g hs)) (F0 m pc sl stk0) := by
  intro T hT0 X
  obtain ⟨v, st₀, t, T', L, d', hd', h0, X', hL', e1, e2, ⟨⟨⟨w, μ2, hw, hro, hμ2, hP2⟩, hA2, hlo2⟩, hz2, hk2⟩, stp⟩ := hr T hT0 X
  cases hw
  subst hk
  rw [h0] at hz2 hk2
  rw [zgr_gr] at hP2 hA2
  have hin : ∀ q, zA0 (zgr g nr) (hs + kc) q → zA0 g hs q := fun q h => by
    rcases h with h | h
    · exact zA0_of hx.2.2.1 h
    · exact Or.inr (by omega)
  have hlow : zlow g hs (nr ++ n2) (kc + mc) := by
    refine ⟨?_, fun r hr => ?_⟩
    · rcases hlo2.1 with q | ⟨r, hr, q⟩
      · subst q
        rcases hx.2.2.1.1 with z | ⟨r, hr, z⟩
        · exact Or.inl z
        · exact Or.inr ⟨r, List.mem_append_left _ hr, z⟩
      · exact Or.inr ⟨r, List.mem_append_right _ hr, by have q : zad g r + 1 = hs + kc + mc := q; omega⟩
    · rcases List.mem_append.mp hr with z | z
      · exact hx.2.2.1.2 r z
      · have : hs + kc ≤ zad g r := hlo2.2 r z
        omega
  obtain ⟨t2, a1, b1⟩ := W.widen (Nat.le_refl _) hn (kk l p e s m args below meth c (zCX_gr C hA2 (fun r hr => by have : hs + kc ≤ zad g r := hlo2.2 r hr; have := hx.1; omega)) ⟨hx.1, hx.2.1, hlow, hx.2.2.2⟩ d' T'.heap (locs ++ L) sl (v.toList ++ rest) μ2 (hd0.trans hd')
    ⟨Nat.le_trans hS.1 (by rw [e1]; exact hz2), fun q h1 h2 => by rw [e1, hk2 q (Nat.lt_of_lt_of_le h1 hS.1) (fun z => h2 (hin q z))]; exact hS.2.1 q h1 h2, fun q hq => by
      rcases List.mem_append.mp hq with h | h
      · exact hS.2.2 q h
      · exact hin _ (hL' q h)⟩ (by rw [e1]; exact hP2) hμ2 hL (zRo_list (g := g) (zRo_gr.mp hro) hT)) T' rfl X'
  exact ⟨t2, stp t2 a1, b1⟩
/-- words of a constructor's call; of a nest mate's -/
def zLi (own : String) (index : Nat) (y : MethodName) (bytes : ByteArray) (maxL n : Nat) : Prop := Cond.methodLink own index y ∈ lw_good ∧ Cond.instanceMethod y ∈ lw_good ∧ Cond.initialized y.cls ∈ lw_good ∧ Cond.code y bytes maxL none ∈ lw_good ∧ (y.cls ≠ "java/lang/invoke/MethodHandle" ∧ y.cls ≠ "java/lang/invoke/VarHandle" ∧ (parseMethodDescriptor y.desc).map (fun d => d.parameters.length) = some n) ∧ y.name = "<init>"
def zLin (own : String) (index : Nat) (y : MethodName) (host : String) (bytes : ByteArray) (maxL n : Nat) : Prop := (own, index, y, host) ∈ znin ∧ Cond.instanceMethod y ∈ lw_good ∧ Cond.initialized y.cls ∈ lw_good ∧ Cond.code y bytes maxL none ∈ lw_good ∧ (y.cls ≠ "java/lang/invoke/MethodHandle" ∧ y.cls ≠ "java/lang/invoke/VarHandle" ∧ (parseMethodDescriptor y.desc).map (fun d => d.parameters.length) = some n) ∧ y.name = "<init>"
def zRoomN (K : ZK) (Rc : Room) (kc kn kc2 kn2 maxL : Nat) : Prop := kc + Rc.cells = kc2 ∧ kn + Rc.slots ≤ kn2 ∧ kc2 ≤ (zKR K).cells ∧ kn2 ≤ (zKR K).slots ∧ Rc.frames + 1 ≤ (zKR K).frames ∧ 8 + (maxL + 11) + Rc.locals ≤ (zKR K).locals
theorem zy_callS {g : ZG} {K : ZK} {nF : List Nat} {hs : Nat} {fi : Bool} {nr : List Nat} {kc kn : Nat} {kc2 kn2 : Nat} {pc : Nat} {ls : ZLS} (st : List ZV) {μ : ZMem} {y : MethodName} {bytes : ByteArray} {maxL n index : Nat} {ret : Option FieldType} {Rc : Room} {As : List ZV} {res : Option ZV} {μ1 : ZMem} {st0 : List ZV} {n2 : List Nat} (hl : zLs (zKo K) index y bytes maxL ret n) (hM : zNab (zgr g nr) y.cls y bytes maxL ret Rc As μ res μ1 n2 (hs + kc)) (hst : st0 = As.reverse ++ st) (hn : As.length = n) (hR : zRoomN K Rc kc kn kc2 kn2 maxL) (hw : zwt st ≤ 8) (hd : decode (zKc K) pc = .ok (.invokestatic index, 3)) (kk : zWN g K nF hs fi (nr ++ n2) kc2 kn2 (pc + 3) ls (res.toList ++ st) μ1) : zWN g K nF hs fi nr kc kn (pc) ls (st0) μ := by
  intro l p e s m args below meth c C hx d H locs sl stk μr hd0 hS hP hμ hL hT T hT0 X
  have hz := zsize hx.1 hx.2.2.1 hS hP hT0 X
  revert T
  subst hst
  obtain ⟨as, stk2, rfl, hA, hT2⟩ := zSR_app (us := As.reverse) hT
  have hA2 : zSR (zgr g nr) as.reverse As := by
    have := zSR_rev hA
    rw [List.reverse_reverse] at this
    exact zSR_gr.mpr this
  have hlen : as.reverse.length = n := (zSR_len hA2).trans hn
  obtain ⟨q1, q2, q4, q5, q6⟩ := hl
  have cb := callB_of (R := zKR K) (own := zKo K) n (dr_words C.2.2.2.2.1 d) (zgoodIn q5) rfl rfl rfl ((dr_words C.2.2.2.2.1 d) _ q4) ((dr_words C.2.2.2.2.1 d) _ q1) q6 (rm := Rc) hR.2.2.2.2
  exact zcontN C hx hd0 hS hL hT2 hz hR.1 hR.2.1 (va_runS_D (As := as.reverse) (rest := stk2) ⟨C.1, C.2.1, C.2.2.1, C.2.2.2.1, (dr_words C.2.2.2.2.1 d)⟩ (hM C.2.2.2.2.2.2.2.2.1 l as.reverse μr hA2 hμ) ⟨cb, (dr_words C.2.2.2.2.1 d) _ q2⟩ ⟨zPn_blind (zgr g nr) μr _ _, zPn_pre C hx hS hP hz _⟩ rfl hlen (by obtain ⟨lv, h1, -⟩ := hL; exact h1.1) (by rw [List.reverse_reverse]) (by show 2 * 0 + _ ≤ 8; rw [zwt_eq hT2]; omega) hd ⟨by have := hR.1; have := hR.2.2.1; omega, Nat.le_trans hR.2.1 hR.2.2.2.1⟩) kk
theorem zy_callI {g : ZG} {K : ZK} {nF : List Nat} {hs : Nat} {fi : Bool} {nr : List Nat} {kc kn : Nat} {kc2 kn2 : Nat} {pc : Nat} {ls : ZLS} (st : List ZV) {μ : ZMem} {y : MethodName} {bytes : ByteArray} {maxL n index r : Nat} {Rc : Room} {As : List ZV} {μ1 : ZMem} {st0 : List ZV} {n2 : List Nat} (hl : zLi (zKo K) index y bytes maxL n) (hM : zNab (zgr g nr) y.cls y bytes maxL none Rc (zr (some r) :: As) μ none μ1 n2 (hs + kc)) (hst : st0 = As.reverse ++ (zr (some r) :: st)) (hn : As.length = n) (hR : zRoomN K Rc kc kn kc2 kn2 maxL) (hw : zwt st ≤ 8) (hd : decode (zKc K) pc = .ok (.invokespecial index, 3)) (kk : zWN g K nF hs fi (nr ++ n2) kc2 kn2 (pc + 3) ls st μ1) : zWN g K nF hs fi nr kc kn (pc) ls (st0) μ := by
  intro l p e s m args below meth c C hx d H locs sl stk μr hd0 hS hP hμ hL hT T hT0 X
  have hz := zsize hx.1 hx.2.2.1 hS hP hT0 X
  revert T
  subst hst
  obtain ⟨as, stk2, rfl, hA, hT2⟩ := zSR_app (us := As.reverse) hT
  have hA2 : zSR (zgr g nr) as.reverse As := by
    have := zSR_rev hA
    rw [List.reverse_reverse] at this
    exact zSR_gr.mpr this
  have hlen : as.reverse.length = n := (zSR_len hA2).trans hn
  obtain ⟨ar, stk3, rfl, hr, hT3⟩ := zSR_cons hT2
  have hr : ar = .ref (zad (zgr g nr) r) := hr
  subst hr
  obtain ⟨q1, q2, q4, q5, q6, q7⟩ := hl
  have cb := callB_of (R := zKR K) (own := zKo K) n (dr_words C.2.2.2.2.1 d) (zgoodIn q5) rfl rfl rfl ((dr_words C.2.2.2.2.1 d) _ q4) ((dr_words C.2.2.2.2.1 d) _ q1) q6 (rm := Rc) hR.2.2.2.2
  exact zcontN C hx hd0 hS hL hT3 hz hR.1 hR.2.1 (va_runI_D (As := as.reverse) (rest := stk3) ⟨C.1, C.2.1, C.2.2.1, C.2.2.2.1, (dr_words C.2.2.2.2.1 d)⟩ (hM C.2.2.2.2.2.2.2.2.1 l (.ref (zad (zgr g nr) r) :: as.reverse) μr ⟨rfl, hA2⟩ hμ) ⟨cb, q7, (dr_words C.2.2.2.2.1 d) _ q2⟩ ⟨zPn_blind (zgr g nr) μr _ _, zPn_pre C hx hS hP hz _⟩ rfl hlen (by obtain ⟨lv, h1, -⟩ := hL; exact h1.1) (by rw [List.reverse_reverse]) (by show 2 * 0 + _ ≤ 8; rw [zwt_eq hT3]; omega) hd ⟨by have := hR.1; have := hR.2.2.1; omega, Nat.le_trans hR.2.1 hR.2.2.2.1⟩) kk
theorem zy_callIN {g : ZG} {K : ZK} {nF : List Nat} {hs : Nat} {fi : Bool} {nr : List Nat} {kc kn : Nat} {kc2 kn2 : Nat} {pc : Nat} {ls : ZLS} (st : List ZV) {μ : ZMem} {y : MethodName} {host : String} {bytes : ByteArray} {maxL n index r : Nat} {Rc : Room} {As : List ZV} {μ1 : ZMem} {st0 : List ZV} {n2 : List Nat} (hl : zLin (zKo K) index y host bytes maxL n) (hM : zNab (zgr g nr) y.cls y bytes maxL none Rc (zr (some r) :: As) μ none μ1 n2 (hs + kc)) (hst : st0 = As.reverse ++ (zr (some r) :: st)) (hn : As.length = n) (hR : zRoomN K Rc kc kn kc2 kn2 maxL) (hw : zwt st ≤ 8) (hd : decode (zKc K) pc = .ok (.invokespecial index, 3)) (kk : zWN g K nF hs fi (nr ++ n2) kc2 kn2 (pc + 3) ls st μ1) : zWN g K nF hs fi nr kc kn (pc) ls (st0) μ := by
  intro l p e s m args below meth c C hx d H locs sl stk μr hd0 hS hP hμ hL hT T hT0 X
  have hz := zsize hx.1 hx.2.2.1 hS hP hT0 X
  revert T
  subst hst
  obtain ⟨as, stk2, rfl, hA, hT2⟩ := zSR_app (us := As.reverse) hT
  have hA2 : zSR (zgr g nr) as.reverse As := by
    have := zSR_rev hA
    rw [List.reverse_reverse] at this
    exact zSR_gr.mpr this
  have hlen : as.reverse.length = n := (zSR_len hA2).trans hn
  obtain ⟨ar, stk3, rfl, hr, hT3⟩ := zSR_cons hT2
  have hr : ar = .ref (zad (zgr g nr) r) := hr
  subst hr
  obtain ⟨q1, q2, q4, q5, q6, q7⟩ := hl
  have cb := va_cnB (R := zKR K) (own := zKo K) (host := host) n (dr_words C.2.2.2.2.1 d) (zgoodIn q5) rfl rfl rfl ((zXs_d d hx.2.1).2.2 _ q1) ((dr_words C.2.2.2.2.1 d) _ q4) q6 (rm := Rc) hR.2.2.2.2
  exact zcontN C hx hd0 hS hL hT3 hz hR.1 hR.2.1 (va_runIN_D (As := as.reverse) (rest := stk3) ⟨C.1, C.2.1, C.2.2.1, C.2.2.2.1, (dr_words C.2.2.2.2.1 d)⟩ (hM C.2.2.2.2.2.2.2.2.1 l (.ref (zad (zgr g nr) r) :: as.reverse) μr ⟨rfl, hA2⟩ hμ) ⟨cb, q7, (dr_words C.2.2.2.2.1 d) _ q2⟩ ⟨zPn_blind (zgr g nr) μr _ _, zPn_pre C hx hS hP hz _⟩ rfl hlen (by obtain ⟨lv, h1, -⟩ := hL; exact h1.1) (by rw [List.reverse_reverse]) (by show 2 * 0 + _ ≤ 8; rw [zwt_eq hT3]; omega) hd ⟨by have := hR.1; have := hR.2.2.1; omega, Nat.le_trans hR.2.1 hR.2.2.2.1⟩) kk
/-- a call of a static method that makes no cells -/
theorem zy_callC {g : ZG} {K : ZK} {nF : List Nat} {hs : Nat} {fi : Bool} {nr : List Nat} {kc kn : Nat} {pc : Nat} {ls : ZLS} (st : List ZV) {μ : ZMem} {y : MethodName} {bytes : ByteArray} {maxL n index : Nat} {ret : Option FieldType} {Rc : Room} {As : List ZV} {res : Option ZV} {μ1 : ZMem} {st0 : List ZV} (hl : zLs (zKo K) index y bytes maxL ret n) (hM : zCab (zgr g nr) y.cls y bytes maxL ret Rc As μ res μ1) (hst : st0 = As.reverse ++ st) (hn : As.length = n) (hR : zRoom K Rc maxL) (hkR : kc ≤ (zKR K).cells ∧ kn ≤ (zKR K).slots) (hw : zwt st ≤ 8) (hd : decode (zKc K) pc = .ok (.invokestatic index, 3)) (kk : zWN g K nF hs fi nr kc kn (pc + 3) ls (res.toList ++ st) μ1) : zWN g K nF hs fi nr kc kn (pc) ls (st0) μ := by
  intro l p e s m args below meth c C hx d H locs sl stk μr hd0 hS hP hμ hL hT
  subst hst
  obtain ⟨as, stk2, rfl, hA, hT2⟩ := zSR_app (us := As.reverse) hT
  have hA2 : zSR (zgr g nr) as.reverse As := by
    have := zSR_rev hA
    rw [List.reverse_reverse] at this
    exact zSR_gr.mpr this
  have hlen : as.reverse.length = n := (zSR_len hA2).trans hn
  obtain ⟨q1, q2, q4, q5, q6⟩ := hl
  have cb := callB_of (R := zKR K) (own := zKo K) n (dr_words C.2.2.2.2.1 d) (zgoodIn q5) rfl hR.1 hR.2.1 ((dr_words C.2.2.2.2.1 d) _ q4) ((dr_words C.2.2.2.2.1 d) _ q1) q6 hR.2.2
  have hpre : ∀ U : State, U.heap = H → (s.setDrawn d).WarmedH U.vm → va_Pc as.reverse (fun U => va_P (zgD (zgr g nr)) vwCl (zws (zgr g nr) μr) U.heap ∧ va_K (zgD (zgr g nr)) vwCl (ztys (zgr g nr)) U ∧ zNst U ∧ zZs (zgr g nr) U U.heap) as.reverse.toArray U := fun U hU hW =>
    ⟨rfl, by rw [hU]; exact hP, va_K.moved hW.alike C.2.2.2.2.2.2.2.1, fun z hz => va_Nw.warmM hW ((Cond.before_setDrawn #[] s d _).trans (C.2.2.2.2.2.2.2.2.2.1 z hz)), by
      rw [hU]
      obtain ⟨cf, kf, fi, f, a, cell, h1, h2, h3, h4, h5, h6, h7, h8⟩ := va_Z.moved hW.alike C.2.2.2.2.2.2.2.2.2.2
      have ha : a < s.heap.size := (Array.getElem?_eq_some_iff.mp h5).1
      refine ⟨cf, kf, fi, f, a, cell, h1, h2, h3, h4, ?_, h6, h7, h8⟩
      rw [hS.2.1 a ha (fun q => ?_)]
      · exact h5
      · rcases q with ⟨r, hr, e⟩ | q
        · exact h8 ⟨r, List.mem_append_left _ hr, e⟩
        · have := hx.1
          omega⟩
  have hrun := va_runS_D (s := s.setDrawn d) (meth := meth) (p := p) (e := e) (R := zKR K) (below := below) (H := H) (locs := locs) (cells := kc) (slots := kn) (g := F0 m pc sl (as ++ stk2)) (As := as.reverse) (rest := stk2) ⟨C.1, C.2.1, C.2.2.1, C.2.2.2.1, (dr_words C.2.2.2.2.1 d)⟩ (hM C.2.2.2.2.2.2.2.2.1 l as.reverse μr hA2 hμ) ⟨cb, (dr_words C.2.2.2.2.1 d) _ q2⟩ ⟨zPc_blind (zgr g nr) μr _, hpre⟩ rfl hlen (by obtain ⟨lv, h1, -⟩ := hL; exact h1.1) (by rw [List.reverse_reverse]) (by show 2 * 0 + _ ≤ 8; rw [zwt_eq hT2]; omega) hd ⟨hkR.1, hkR.2⟩
  intro T hT0 X
  obtain ⟨v, st₀, t, T', L, d', hd', h0, X', hL', e1, e2, ⟨⟨w, μ2, hw, hro, hμ2, hP2⟩, hz, hk⟩, stp⟩ := hrun T hT0 X
  cases hw
  rw [h0] at hz hk
  obtain ⟨t2, a1, b1⟩ := kk l p e s m args below meth c C hx d' T'.heap (locs ++ L) sl (v.toList ++ stk2) μ2 (hd0.trans hd')
    ⟨Nat.le_trans hS.1 (by rw [e1]; exact hz), fun q h1 h2 => by rw [e1, hk q (Nat.lt_of_lt_of_le h1 hS.1) (fun z => h2 (zA0_of hx.2.2.1 z))]; exact hS.2.1 q h1 h2, fun q hq => by
      rcases List.mem_append.mp hq with h | h
      · exact hS.2.2 q h
      · exact zA0_of hx.2.2.1 (hL' q h)⟩ (by rw [e1]; exact hP2) hμ2 hL (zRo_list (g := g) (zRo_gr.mp hro) hT2) T' rfl X'
  exact ⟨t2, stp t2 a1, b1⟩
