/-- what is known of a field's place in a constant pool: which class's which field -/
def zFd (own : String) (index ci k : Nat) (fin : Bool) : Prop := ∃ (C : String) (T : u_T) (N : Nat), vwCl[ci]? = some (C, T, N) ∧ N = znf ci ∧ ci < 8 ∧ (∀ w ∈ u_ws C T N, w ∈ lw_good) ∧ k < N ∧ Cond.fieldLink own index (T k).1 (T k).2.1 (T k).2.2.1 ∈ lw_good ∧ (∀ k, k < N → parseFieldDescriptor (T k).2.2.1 = some (zft ci k)) ∧ (∀ a, a < N → ∀ b, b < N → a ≠ b → (T a).2.1 ≠ (T b).2.1) ∧ (T k).2.2.2 = fin
theorem zgood_of {w : Cond} (h : w ∈ lw_good) : (w.onTables && w.keeps) = true ∨ ∃ ty, w = .arrayClass ty := good_of_word (List.mem_filter.mp h).2
theorem zgoodIn {y : MethodName} {bytes : ByteArray} {maxL : Nat} {ret : Option FieldType} (h : Cond.code y bytes maxL ret ∈ lw_good) : GoodIn lw_good (.code y bytes maxL ret :: lw_good) := by
  intro w hw
  rcases List.mem_cons.mp hw with rfl | hw
  · exact ⟨h, zgood_of h⟩
  · exact ⟨hw, zgood_of hw⟩
theorem zPc_blind (g : ZG) (μr : ZMem) (as : List Value) : FrameBlind (va_Pc as (fun U => va_P (zgD g) vwCl (zws g μr) U.heap ∧ va_K (zgD g) vwCl (ztys g) U ∧ zNst U ∧ zZs g U U.heap)) := fun a U gf mk q =>
  ⟨q.1, q.2.1, va_K.moved (u := U) (U := U.calling gf mk a) (Vm.Alike.refl U.vm) q.2.2.1, fun z hz => va_Nw.same rfl (rfl : U.vm = (U.calling gf mk a).vm) (q.2.2.2.1 z hz), va_Z.moved (u := U) (U := U.calling gf mk a) (Vm.Alike.refl U.vm) q.2.2.2.2⟩
theorem zPc_pre {g : ZG} {K : ZK} {p : Program} {s : State} {m : MethodId} {args : Array Value} {meth : Method} {c : Code} (C : zCX g K p s m args meth c) {d : Drawn} {H : Heap} {locs : List Loc} {μr : ZMem} (hS : va_S (zRg g) s.heap H locs) (hP : va_P (zgD g) vwCl (zws g μr) H) (as : List Value) :
    ∀ U : State, U.heap = H → (s.setDrawn d).WarmedH U.vm → va_Pc as (fun U => va_P (zgD g) vwCl (zws g μr) U.heap ∧ va_K (zgD g) vwCl (ztys g) U ∧ zNst U ∧ zZs g U U.heap) as.toArray U := fun U hU hW =>
  ⟨rfl, by rw [hU]; exact hP, va_K.moved hW.alike C.2.2.2.2.2.2.2.1, fun z hz => va_Nw.warmM hW ((Cond.before_setDrawn #[] s d _).trans (C.2.2.2.2.2.2.2.2.2.1 z hz)), by rw [hU]; exact va_Z.moved hW.alike (va_Z.kept C.2.2.2.2.2.2.2.2.2.2 hS.2.1)⟩
theorem zRo_list {g : ZG} {w : Option Value} {res : Option ZV} {rest : List Value} {st : List ZV} (h : zRo g w res) (hT : zSR g rest st) : zSR g (w.toList ++ rest) (res.toList ++ st) := by
  cases w with
  | none => cases res with
    | none => exact hT
    | some v => exact h.elim
  | some a => cases res with
    | none => exact h.elim
    | some v => exact ⟨h, hT⟩
theorem zcont {g : ZG} {K : ZK} {pc : Nat} {ls : ZLS} {st : List ZV} {res : Option ZV} {μ1 : ZMem} {l : Launch} {p : Program} {e : Env} {s : State} {m : MethodId} {args : Array Value} {below : List Frame} {meth : Method} {c : Code} (C : zCX g K p s m args meth c) {d : Drawn} {H : Heap} {locs : List Loc} {sl : Array Slot} {stk0 rest : List Value} {a : Array Value}
    (hd0 : s.drawn.sameBut d lw_cs) (hS : va_S (zRg g) s.heap H locs) (hL : zLR g sl (zKn K) ls) (hT : zSR g rest st)
    (hr : va_RunD lw_cs p l e (zKR K) (s.setDrawn d) m args below meth c H locs 0 0 0 0 (F0 m pc sl stk0) rest (zQC g res μ1 a) (zRg g)) (kk : zWA g K (pc + 3) ls (res.toList ++ st) μ1) :
    W p l e (zKR K) (s.setDrawn d) m args below meth c H locs 0 0 (MQD lw_cs below (zQC g (zKa K) (zKm K)) args s 0 0 (zRg g)) (F0 m pc sl stk0) := by
  intro T hT0 X
  obtain ⟨v, st₀, t, T', L, d', hd', h0, X', hL', e1, e2, ⟨⟨w, μ2, hw, hro, hμ2, hP2⟩, hz, hk⟩, stp⟩ := hr T hT0 X
  cases hw
  rw [h0] at hz hk
  obtain ⟨t2, a1, b1⟩ := kk l p e s m args below meth c C d' T'.heap (locs ++ L) sl (v.toList ++ rest) μ2 (hd0.trans hd')
    ⟨Nat.le_trans hS.1 (by rw [e1]; exact hz), fun q h1 h2 => by rw [e1, hk q (Nat.lt_of_lt_of_le h1 hS.1) h2]; exact hS.2.1 q h1 h2, fun q hq => by
      rcases List.mem_append.mp hq with h | h
      · exact hS.2.2 q h
      · exact hL' q h⟩ (by rw [e1]; exact hP2) hμ2 hL (zRo_list hro hT) T' rfl X'
  exact ⟨t2, stp t2 a1, b1⟩
def zwt (st : List ZV) : Nat := (st.map fun v => if zc2 v = true then 2 else 1).sum
theorem zwt_eq {g : ZG} : ∀ {as : List Value} {st : List ZV}, zSR g as st → (as.map fun v => v.category).sum = zwt st
  | [], [], _ => rfl
  | [], _ :: _, h => h.elim
  | _ :: _, [], h => h.elim
  | a :: as, v :: st, h => by
    show a.category + (as.map fun v => v.category).sum = (if zc2 v = true then 2 else 1) + zwt st
    rw [zwt_eq h.2]
    by_cases hc : zc2 v = true
    · rw [if_pos hc, (zRv_cat h.1).mpr hc]
    · rw [if_neg hc, zRv_cat1 h.1 (by simpa using hc)]
/-- a call's words: of an object's method, of a static one, of a nest mate's static one -/
def zLv (own : String) (index : Nat) (C : String) (y : MethodName) (bytes : ByteArray) (maxL : Nat) (ret : Option FieldType) (n : Nat) : Prop := Cond.methodLink own index y ∈ lw_good ∧ Cond.instanceMethod y ∈ lw_good ∧ Cond.selects C y y ∈ lw_good ∧ Cond.initialized y.cls ∈ lw_good ∧ Cond.code y bytes maxL ret ∈ lw_good ∧ (y.cls ≠ "java/lang/invoke/MethodHandle" ∧ y.cls ≠ "java/lang/invoke/VarHandle" ∧ (parseMethodDescriptor y.desc).map (fun d => d.parameters.length) = some n)
def zLs (own : String) (index : Nat) (y : MethodName) (bytes : ByteArray) (maxL : Nat) (ret : Option FieldType) (n : Nat) : Prop := Cond.methodLink own index y ∈ lw_good ∧ Cond.static y ∈ lw_good ∧ Cond.initialized y.cls ∈ lw_good ∧ Cond.code y bytes maxL ret ∈ lw_good ∧ (y.cls ≠ "java/lang/invoke/MethodHandle" ∧ y.cls ≠ "java/lang/invoke/VarHandle" ∧ (parseMethodDescriptor y.desc).map (fun d => d.parameters.length) = some n)
def zLn (own : String) (index : Nat) (y : MethodName) (host : String) (bytes : ByteArray) (maxL : Nat) (ret : Option FieldType) (n : Nat) : Prop := (own, index, y, host) ∈ znest ∧ Cond.static y ∈ lw_good ∧ Cond.initialized y.cls ∈ lw_good ∧ Cond.code y bytes maxL ret ∈ lw_good ∧ (y.cls ≠ "java/lang/invoke/MethodHandle" ∧ y.cls ≠ "java/lang/invoke/VarHandle" ∧ (parseMethodDescriptor y.desc).map (fun d => d.parameters.length) = some n)
def zRoom (K : ZK) (Rc : Room) (maxL : Nat) : Prop := Rc.cells = 0 ∧ Rc.slots = 0 ∧ Rc.frames + 1 ≤ (zKR K).frames ∧ 8 + (maxL + 11) + Rc.locals ≤ (zKR K).locals
theorem zx_callV {g : ZG} {K : ZK} {pc : Nat} {ls : ZLS} (st : List ZV) {μ : ZMem} {y : MethodName} {bytes : ByteArray} {maxL n index : Nat} {ret : Option FieldType} {Rc : Room} {As : List ZV} {res : Option ZV} {μ1 : ZMem} {st0 : List ZV} {ci r : Nat} {Cl : String} {T : u_T} {N : Nat} (hl : zLv (zKo K) index Cl y bytes maxL ret n) (hM : zCab g y.cls y bytes maxL ret Rc (zr (some r) :: As) μ res μ1) (hO : zO g ci r) (hc8 : ci < 8) (hcl : vwCl[ci]? = some (Cl, T, N)) (hst : st0 = As.reverse ++ (zr (some r) :: st)) (hn : As.length = n) (hR : zRoom K Rc maxL) (hw : zwt st ≤ 8) (hd : decode (zKc K) pc = .ok (.invokevirtual index, 3)) (kk : zWA g K (pc + 3) ls (res.toList ++ st) μ1) : zWA g K (pc) ls (st0) μ := by
  intro l p e s m args below meth c C d H locs sl stk μr hd0 hS hP hμ hL hT
  subst hst
  obtain ⟨as, stk2, rfl, hA, hT2⟩ := zSR_app (us := As.reverse) hT
  have hA2 : zSR g as.reverse As := by
    have := zSR_rev hA
    rwa [List.reverse_reverse] at this
  have hlen : as.reverse.length = n := (zSR_len hA2).trans hn
  obtain ⟨ar, stk3, rfl, hr, hT3⟩ := zSR_cons hT2
  have hr : ar = .ref (zad g r) := hr
  subst hr
  obtain ⟨q1, q2, q3, q4, q5, q6⟩ := hl
  obtain ⟨q0, hq0, hq⟩ := zws_at hO.1
  have hrec := va_recv (s := s.setDrawn d) C.2.2.2.2.2.2.2.1 hP hcl ((hq μr).trans (by rw [zpc_obj hO hc8]))
  have cb := callB_of (R := zKR K) (own := zKo K) n (dr_words C.2.2.2.2.1 d) (zgoodIn q5) rfl hR.1 hR.2.1 ((dr_words C.2.2.2.2.1 d) _ q4) ((dr_words C.2.2.2.2.1 d) _ q1) q6 hR.2.2
  exact zcont C hd0 hS hL hT3 (va_runV_D (As := as.reverse) (rest := stk3) ⟨C.1, C.2.1, C.2.2.1, C.2.2.2.1, (dr_words C.2.2.2.2.1 d)⟩ (hM C.2.2.2.2.2.2.2.2.1 l (.ref (zad g r) :: as.reverse) μr ⟨rfl, hA2⟩ hμ) ⟨cb, (dr_words C.2.2.2.2.1 d) _ q2, (dr_words C.2.2.2.2.1 d) _ q3⟩ ⟨zPc_blind g μr _, hrec, zPc_pre C hS hP _⟩ rfl hlen (by obtain ⟨lv, h1, -⟩ := hL; exact h1.1) (by rw [List.reverse_reverse]) (by show 2 * 0 + _ ≤ 8; rw [zwt_eq hT3]; omega) hd ⟨Nat.zero_le _, Nat.zero_le _⟩) kk
theorem zx_callS {g : ZG} {K : ZK} {pc : Nat} {ls : ZLS} (st : List ZV) {μ : ZMem} {y : MethodName} {bytes : ByteArray} {maxL n index : Nat} {ret : Option FieldType} {Rc : Room} {As : List ZV} {res : Option ZV} {μ1 : ZMem} {st0 : List ZV} (hl : zLs (zKo K) index y bytes maxL ret n) (hM : zCab g y.cls y bytes maxL ret Rc As μ res μ1) (hst : st0 = As.reverse ++ st) (hn : As.length = n) (hR : zRoom K Rc maxL) (hw : zwt st ≤ 8) (hd : decode (zKc K) pc = .ok (.invokestatic index, 3)) (kk : zWA g K (pc + 3) ls (res.toList ++ st) μ1) : zWA g K (pc) ls (st0) μ := by
  intro l p e s m args below meth c C d H locs sl stk μr hd0 hS hP hμ hL hT
  subst hst
  obtain ⟨as, stk2, rfl, hA, hT2⟩ := zSR_app (us := As.reverse) hT
  have hA2 : zSR g as.reverse As := by
    have := zSR_rev hA
    rwa [List.reverse_reverse] at this
  have hlen : as.reverse.length = n := (zSR_len hA2).trans hn
  obtain ⟨q1, q2, q4, q5, q6⟩ := hl
  have cb := callB_of (R := zKR K) (own := zKo K) n (dr_words C.2.2.2.2.1 d) (zgoodIn q5) rfl hR.1 hR.2.1 ((dr_words C.2.2.2.2.1 d) _ q4) ((dr_words C.2.2.2.2.1 d) _ q1) q6 hR.2.2
  exact zcont C hd0 hS hL hT2 (va_runS_D (As := as.reverse) (rest := stk2) ⟨C.1, C.2.1, C.2.2.1, C.2.2.2.1, (dr_words C.2.2.2.2.1 d)⟩ (hM C.2.2.2.2.2.2.2.2.1 l as.reverse μr hA2 hμ) ⟨cb, (dr_words C.2.2.2.2.1 d) _ q2⟩ ⟨zPc_blind g μr _, zPc_pre C hS hP _⟩ rfl hlen (by obtain ⟨lv, h1, -⟩ := hL; exact h1.1) (by rw [List.reverse_reverse]) (by show 2 * 0 + _ ≤ 8; rw [zwt_eq hT2]; omega) hd ⟨Nat.zero_le _, Nat.zero_le _⟩) kk
theorem zx_callN {g : ZG} {K : ZK} {pc : Nat} {ls : ZLS} (st : List ZV) {μ : ZMem} {y : MethodName} {bytes : ByteArray} {maxL n index : Nat} {ret : Option FieldType} {Rc : Room} {As : List ZV} {res : Option ZV} {μ1 : ZMem} {st0 : List ZV} {host : String} (hl : zLn (zKo K) index y host bytes maxL ret n) (hM : zCab g y.cls y bytes maxL ret Rc As μ res μ1) (hst : st0 = As.reverse ++ st) (hn : As.length = n) (hR : zRoom K Rc maxL) (hw : zwt st ≤ 8) (hd : decode (zKc K) pc = .ok (.invokestatic index, 3)) (kk : zWA g K (pc + 3) ls (res.toList ++ st) μ1) : zWA g K (pc) ls (st0) μ := by
  intro l p e s m args below meth c C d H locs sl stk μr hd0 hS hP hμ hL hT
  subst hst
  obtain ⟨as, stk2, rfl, hA, hT2⟩ := zSR_app (us := As.reverse) hT
  have hA2 : zSR g as.reverse As := by
    have := zSR_rev hA
    rwa [List.reverse_reverse] at this
  have hlen : as.reverse.length = n := (zSR_len hA2).trans hn
  obtain ⟨q1, q2, q4, q5, q6⟩ := hl
  have cb := va_cnB (R := zKR K) (own := zKo K) (host := host) n (dr_words C.2.2.2.2.1 d) (zgoodIn q5) rfl hR.1 hR.2.1 ((Cond.before_setDrawn #[] s d _).trans (C.2.2.2.2.2.2.2.2.2.1 _ q1)) ((dr_words C.2.2.2.2.1 d) _ q4) q6 hR.2.2
  exact zcont C hd0 hS hL hT2 (va_runSN_D (As := as.reverse) (rest := stk2) ⟨C.1, C.2.1, C.2.2.1, C.2.2.2.1, (dr_words C.2.2.2.2.1 d)⟩ (hM C.2.2.2.2.2.2.2.2.1 l as.reverse μr hA2 hμ) ⟨cb, (dr_words C.2.2.2.2.1 d) _ q2, trivial⟩ ⟨zPc_blind g μr _, zPc_pre C hS hP _⟩ rfl hlen (by obtain ⟨lv, h1, -⟩ := hL; exact h1.1) (by rw [List.reverse_reverse]) (by show 2 * 0 + _ ≤ 8; rw [zwt_eq hT2]; omega) hd ⟨Nat.zero_le _, Nat.zero_le _⟩) kk
theorem zx_getL {g : ZG} {K : ZK} {pc : Nat} {ls : ZLS} {st : List ZV} {μ : ZMem} {ci k r index : Nat} {fin : Bool} (hf : zFd (zKo K) index ci k fin) (hO : zO g ci r) (ht : zft ci k = .long) (hd : decode (zKc K) pc = .ok (.getfield index, 3)) (kk : zWA g K (pc + 3) ls (zl (zL μ r k) :: st) μ) : zWA g K (pc) ls (zr (some r) :: st) μ := by
  intro l p e s m args below meth c C d H locs sl stk μr hd0 hS hP hμ hL hT
  obtain ⟨a1, stk1, rfl, h1, hT1⟩ := zSR_cons hT
  have h1 : a1 = .ref (zad g r) := h1
  subst h1
  subst hμ
  obtain ⟨C0, T, N, q1, q2, q3, q4, q5, q6, -, -, -⟩ := hf
  obtain ⟨q0, hq0, hq⟩ := zws_at hO.1
  refine va_get (D := zgD g) (ci := ci) (v := zsv g μr r k (zft ci k)) (C := C0) (T := T) (N := N) C.1 C.2.1 (dr_words C.2.2.2.2.1 d) q4 C.2.2.2.1 C.2.2.2.2.2.2.2.1 hP q0 ((hq μr).trans (by rw [zpc_obj hO q3])) q1 k q5 ((dr_words C.2.2.2.2.1 d) _ q6) (fun _ h => h) (zfs_get (by rw [← q2]; exact q5)) hd ?_
  rw [ht]
  exact kk l p e s m args below meth c C d H locs sl _ μr hd0 hS hP rfl hL ⟨rfl, hT1⟩
theorem zx_getD {g : ZG} {K : ZK} {pc : Nat} {ls : ZLS} {st : List ZV} {μ : ZMem} {ci k r index : Nat} {fin : Bool} (hf : zFd (zKo K) index ci k fin) (hO : zO g ci r) (ht : zft ci k = .double) (hd : decode (zKc K) pc = .ok (.getfield index, 3)) (kk : zWA g K (pc + 3) ls (zd (zD μ r k) :: st) μ) : zWA g K (pc) ls (zr (some r) :: st) μ := by
  intro l p e s m args below meth c C d H locs sl stk μr hd0 hS hP hμ hL hT
  obtain ⟨a1, stk1, rfl, h1, hT1⟩ := zSR_cons hT
  have h1 : a1 = .ref (zad g r) := h1
  subst h1
  subst hμ
  obtain ⟨C0, T, N, q1, q2, q3, q4, q5, q6, -, -, -⟩ := hf
  obtain ⟨q0, hq0, hq⟩ := zws_at hO.1
  refine va_get (D := zgD g) (ci := ci) (v := zsv g μr r k (zft ci k)) (C := C0) (T := T) (N := N) C.1 C.2.1 (dr_words C.2.2.2.2.1 d) q4 C.2.2.2.1 C.2.2.2.2.2.2.2.1 hP q0 ((hq μr).trans (by rw [zpc_obj hO q3])) q1 k q5 ((dr_words C.2.2.2.2.1 d) _ q6) (fun _ h => h) (zfs_get (by rw [← q2]; exact q5)) hd ?_
  rw [ht]
  exact kk l p e s m args below meth c C d H locs sl _ μr hd0 hS hP rfl hL ⟨⟨_, rfl, rfl⟩, hT1⟩
theorem zx_getI {g : ZG} {K : ZK} {pc : Nat} {ls : ZLS} {st : List ZV} {μ : ZMem} {ci k r index : Nat} {fin : Bool} (hf : zFd (zKo K) index ci k fin) (hO : zO g ci r) (ht : zft ci k = .int ∨ zft ci k = .boolean) (hd : decode (zKc K) pc = .ok (.getfield index, 3)) (kk : zWA g K (pc + 3) ls (zi (zI μ r k) :: st) μ) : zWA g K (pc) ls (zr (some r) :: st) μ := by
  intro l p e s m args below meth c C d H locs sl stk μr hd0 hS hP hμ hL hT
  obtain ⟨a1, stk1, rfl, h1, hT1⟩ := zSR_cons hT
  have h1 : a1 = .ref (zad g r) := h1
  subst h1
  subst hμ
  obtain ⟨C0, T, N, q1, q2, q3, q4, q5, q6, -, -, -⟩ := hf
  obtain ⟨q0, hq0, hq⟩ := zws_at hO.1
  refine va_get (D := zgD g) (ci := ci) (v := zsv g μr r k (zft ci k)) (C := C0) (T := T) (N := N) C.1 C.2.1 (dr_words C.2.2.2.2.1 d) q4 C.2.2.2.1 C.2.2.2.2.2.2.2.1 hP q0 ((hq μr).trans (by rw [zpc_obj hO q3])) q1 k q5 ((dr_words C.2.2.2.2.1 d) _ q6) (fun _ h => h) (zfs_get (by rw [← q2]; exact q5)) hd ?_
  rcases ht with ht | ht
  · rw [ht]
    exact kk l p e s m args below meth c C d H locs sl _ μr hd0 hS hP rfl hL ⟨rfl, hT1⟩
  · rw [ht]
    exact kk l p e s m args below meth c C d H locs sl _ μr hd0 hS hP rfl hL ⟨rfl, hT1⟩
theorem zx_getR {g : ZG} {K : ZK} {pc : Nat} {ls : ZLS} {st : List ZV} {μ : ZMem} {ci k r index : Nat} {fin : Bool} (hf : zFd (zKo K) index ci k fin) (hO : zO g ci r) {o' : Option Nat} (hR : zR μ r k = o') (ht : zref (zft ci k) = true) (hd : decode (zKc K) pc = .ok (.getfield index, 3)) (kk : zWA g K (pc + 3) ls (zr o' :: st) μ) : zWA g K (pc) ls (zr (some r) :: st) μ := by
  intro l p e s m args below meth c C d H locs sl stk μr hd0 hS hP hμ hL hT
  obtain ⟨a1, stk1, rfl, h1, hT1⟩ := zSR_cons hT
  have h1 : a1 = .ref (zad g r) := h1
  subst h1
  subst hμ
  obtain ⟨C0, T, N, q1, q2, q3, q4, q5, q6, -, -, -⟩ := hf
  obtain ⟨q0, hq0, hq⟩ := zws_at hO.1
  refine va_get (D := zgD g) (ci := ci) (v := zsv g μr r k (zft ci k)) (C := C0) (T := T) (N := N) C.1 C.2.1 (dr_words C.2.2.2.2.1 d) q4 C.2.2.2.1 C.2.2.2.2.2.2.2.1 hP q0 ((hq μr).trans (by rw [zpc_obj hO q3])) q1 k q5 ((dr_words C.2.2.2.2.1 d) _ q6) (fun _ h => h) (zfs_get (by rw [← q2]; exact q5)) hd ?_
  subst hR
  have e9 : zsv g μr r k (zft ci k) = va_rf ((zR (zcM μr) r k).map (zad g)) := by
    revert ht
    cases zft ci k <;> intro ht <;> first | rfl | (exact absurd ht (by decide))
  rw [e9]
  exact kk l p e s m args below meth c C d H locs sl _ μr hd0 hS hP rfl hL ⟨rfl, hT1⟩
theorem zx_putI {g : ZG} {K : ZK} {pc : Nat} {ls : ZLS} {st : List ZV} {μ : ZMem} {ci k r index : Nat} (hf : zFd (zKo K) index ci k false) (hO : zO g ci r) {x : Int32} (hx : narrow (zft ci k) (.int x) = .int x ∧ fits (zft ci k) (.int x) = true) (ht : zft ci k = .int ∨ zft ci k = .boolean) (hd : decode (zKc K) pc = .ok (.putfield index, 3)) (kk : zWA g K (pc + 3) ls (st) (zsI μ r k x)) : zWA g K (pc) ls (zi x :: zr (some r) :: st) μ := by
  intro l p e s m args below meth c C d H locs sl stk μr hd0 hS hP hμ hL hT
  obtain ⟨a1, stk1, rfl, h1, hT1⟩ := zSR_cons hT
  cases h1
  obtain ⟨a2, stk2, rfl, h2, hT2⟩ := zSR_cons hT1
  have h2 : a2 = .ref (zad g r) := h2
  subst h2
  subst hμ
  obtain ⟨C0, T, N, q1, q2, q3, q4, q5, q6, q7, q8, q9⟩ := hf
  obtain ⟨q0, hq0, hq⟩ := zws_at hO.1
  refine va_put (D := zgD g) (ci := ci) (v := .int x) (ty := zft ci k) (C := C0) (T := T) (N := N) C.1 C.2.1 (dr_words C.2.2.2.2.1 d) q4 (zft ci) q7 q8 C.2.2.2.1 C.2.2.2.2.2.2.2.1 hP (zws_D C.2.2.2.2.2.2.2.2.1 μr) hS q0 ((hq μr).trans (by rw [zpc_obj hO q3])) q1 k q5 ((dr_words C.2.2.2.2.1 d) _ q6) (fun _ h => h) q9 (q7 k q5) hx.1 hx.2 (by rw [zfs_len, ← q2]; exact q5) hd (fun H1 locs1 hP1 _ hS1 => ?_)
  rw [zws_set (μ' := zsI μr r k x) C.2.2.2.2.2.2.2.2.1 hq0 zpc_oI (by rw [zpc_obj hO q3, zfs_sI ht])] at hP1
  exact kk l p e s m args below meth c C d H1 locs1 sl _ (zsI μr r k x) hd0 hS1 hP1 rfl hL hT2
theorem zx_putL {g : ZG} {K : ZK} {pc : Nat} {ls : ZLS} {st : List ZV} {μ : ZMem} {ci k r index : Nat} (hf : zFd (zKo K) index ci k false) (hO : zO g ci r) {x : Int64} (ht : zft ci k = .long) (hd : decode (zKc K) pc = .ok (.putfield index, 3)) (kk : zWA g K (pc + 3) ls (st) (zsL μ r k x)) : zWA g K (pc) ls (zl x :: zr (some r) :: st) μ := by
  intro l p e s m args below meth c C d H locs sl stk μr hd0 hS hP hμ hL hT
  obtain ⟨a1, stk1, rfl, h1, hT1⟩ := zSR_cons hT
  cases h1
  obtain ⟨a2, stk2, rfl, h2, hT2⟩ := zSR_cons hT1
  have h2 : a2 = .ref (zad g r) := h2
  subst h2
  subst hμ
  obtain ⟨C0, T, N, q1, q2, q3, q4, q5, q6, q7, q8, q9⟩ := hf
  obtain ⟨q0, hq0, hq⟩ := zws_at hO.1
  refine va_put (D := zgD g) (ci := ci) (v := .long x) (ty := zft ci k) (C := C0) (T := T) (N := N) C.1 C.2.1 (dr_words C.2.2.2.2.1 d) q4 (zft ci) q7 q8 C.2.2.2.1 C.2.2.2.2.2.2.2.1 hP (zws_D C.2.2.2.2.2.2.2.2.1 μr) hS q0 ((hq μr).trans (by rw [zpc_obj hO q3])) q1 k q5 ((dr_words C.2.2.2.2.1 d) _ q6) (fun _ h => h) q9 (q7 k q5) (by rw [ht]; rfl) (by rw [ht]; rfl) (by rw [zfs_len, ← q2]; exact q5) hd (fun H1 locs1 hP1 _ hS1 => ?_)
  rw [zws_set (μ' := zsL μr r k x) C.2.2.2.2.2.2.2.2.1 hq0 zpc_oL (by rw [zpc_obj hO q3, zfs_sL ht])] at hP1
  exact kk l p e s m args below meth c C d H1 locs1 sl _ (zsL μr r k x) hd0 hS1 hP1 rfl hL hT2
theorem zx_putD {g : ZG} {K : ZK} {pc : Nat} {ls : ZLS} {st : List ZV} {μ : ZMem} {ci k r index : Nat} (hf : zFd (zKo K) index ci k false) (hO : zO g ci r) {x : UInt64} (ht : zft ci k = .double) (hd : decode (zKc K) pc = .ok (.putfield index, 3)) (kk : zWA g K (pc + 3) ls (st) (zsD μ r k x)) : zWA g K (pc) ls (zd x :: zr (some r) :: st) μ := by
  intro l p e s m args below meth c C d H locs sl stk μr hd0 hS hP hμ hL hT
  obtain ⟨a1, stk1, rfl, h1, hT1⟩ := zSR_cons hT
  obtain ⟨y, rfl, rfl⟩ := h1
  obtain ⟨a2, stk2, rfl, h2, hT2⟩ := zSR_cons hT1
  have h2 : a2 = .ref (zad g r) := h2
  subst h2
  subst hμ
  obtain ⟨C0, T, N, q1, q2, q3, q4, q5, q6, q7, q8, q9⟩ := hf
  obtain ⟨q0, hq0, hq⟩ := zws_at hO.1
  refine va_put (D := zgD g) (ci := ci) (v := .double y) (ty := zft ci k) (C := C0) (T := T) (N := N) C.1 C.2.1 (dr_words C.2.2.2.2.1 d) q4 (zft ci) q7 q8 C.2.2.2.1 C.2.2.2.2.2.2.2.1 hP (zws_D C.2.2.2.2.2.2.2.2.1 μr) hS q0 ((hq μr).trans (by rw [zpc_obj hO q3])) q1 k q5 ((dr_words C.2.2.2.2.1 d) _ q6) (fun _ h => h) q9 (q7 k q5) (by rw [ht]; rfl) (by rw [ht]; rfl) (by rw [zfs_len, ← q2]; exact q5) hd (fun H1 locs1 hP1 _ hS1 => ?_)
  rw [zws_set (μ' := zsD μr r k y) C.2.2.2.2.2.2.2.2.1 hq0 zpc_oD (by rw [zpc_obj hO q3, zfs_sD ht])] at hP1
  exact kk l p e s m args below meth c C d H1 locs1 sl _ (zsD μr r k y) hd0 hS1 hP1 (zcM_sD _ _ _ _) hL hT2
theorem zx_putR {g : ZG} {K : ZK} {pc : Nat} {ls : ZLS} {st : List ZV} {μ : ZMem} {ci k r index : Nat} (hf : zFd (zKo K) index ci k false) (hO : zO g ci r) {x : Option Nat} (ht : zref (zft ci k) = true) (hd : decode (zKc K) pc = .ok (.putfield index, 3)) (kk : zWA g K (pc + 3) ls (st) (zsR μ r k x)) : zWA g K (pc) ls (zr x :: zr (some r) :: st) μ := by
  intro l p e s m args below meth c C d H locs sl stk μr hd0 hS hP hμ hL hT
  obtain ⟨a1, stk1, rfl, h1, hT1⟩ := zSR_cons hT
  have h1 : a1 = va_rf (x.map (zad g)) := h1
  subst h1
  obtain ⟨a2, stk2, rfl, h2, hT2⟩ := zSR_cons hT1
  have h2 : a2 = .ref (zad g r) := h2
  subst h2
  subst hμ
  obtain ⟨C0, T, N, q1, q2, q3, q4, q5, q6, q7, q8, q9⟩ := hf
  obtain ⟨q0, hq0, hq⟩ := zws_at hO.1
  refine va_put (D := zgD g) (ci := ci) (v := va_rf (x.map (zad g))) (ty := zft ci k) (C := C0) (T := T) (N := N) C.1 C.2.1 (dr_words C.2.2.2.2.1 d) q4 (zft ci) q7 q8 C.2.2.2.1 C.2.2.2.2.2.2.2.1 hP (zws_D C.2.2.2.2.2.2.2.2.1 μr) hS q0 ((hq μr).trans (by rw [zpc_obj hO q3])) q1 k q5 ((dr_words C.2.2.2.2.1 d) _ q6) (fun _ h => h) q9 (q7 k q5) (by revert ht; cases zft ci k <;> intro ht <;> first | exact absurd ht (by decide) | (cases x <;> rfl)) (by revert ht; cases zft ci k <;> intro ht <;> first | exact absurd ht (by decide) | (cases x <;> rfl)) (by rw [zfs_len, ← q2]; exact q5) hd (fun H1 locs1 hP1 _ hS1 => ?_)
  rw [zws_set (μ' := zsR μr r k x) C.2.2.2.2.2.2.2.2.1 hq0 zpc_oR (by rw [zpc_obj hO q3, zfs_sR ht])] at hP1
  exact kk l p e s m args below meth c C d H1 locs1 sl _ (zsR μr r k x) hd0 hS1 hP1 rfl hL hT2
theorem zx_iald {g : ZG} {K : ZK} {pc : Nat} {ls : ZLS} {st : List ZV} {μ : ZMem} {r : Nat} {i : Int32} (j : Nat) (hO : zO g 9 r) (hi : i = nI j) (hj : j < zln g r ∧ zln g r ≤ 100000) (hd : decode (zKc K) pc = .ok (.iaload, 1)) (kk : zWA g K (pc + 1) ls (zi (zI μ r j) :: st) μ) : zWA g K (pc) ls (zi i :: zr (some r) :: st) μ := by
  intro l p e s m args below meth c C d H locs sl stk μr hd0 hS hP hμ hL hT
  obtain ⟨a1, stk1, rfl, h1, hT1⟩ := zSR_cons hT
  cases h1
  obtain ⟨a2, stk2, rfl, h2, hT2⟩ := zSR_cons hT1
  have h2 : a2 = .ref (zad g r) := h2
  subst h2
  subst hμ
  subst hi
  have hcl : (nI j).toNatClampNeg = j := nI_clamp (by omega)
  have hv : vp_in (nI j) (zln g r) := vp_in_nI hj.1 (by omega)
  obtain ⟨q0, hq0, hq⟩ := zws_at hO.1
  refine va_iald (s := s.setDrawn d) C.1 C.2.1 C.2.2.2.2.2.2.2.1 hP q0 1 (cA := zcy g 9) (n := zln g r) (f := zI μr r) ((hq μr).trans (by rw [zpc_arr hO (by decide)]; rfl)) rfl hv hd ?_
  rw [hcl]
  exact kk l p e s m args below meth c C d H locs sl _ μr hd0 hS hP rfl hL ⟨rfl, hT2⟩
theorem zx_zald {g : ZG} {K : ZK} {pc : Nat} {ls : ZLS} {st : List ZV} {μ : ZMem} {r : Nat} {i : Int32} (j : Nat) (hO : zO g 11 r) (hi : i = nI j) (hj : j < zln g r ∧ zln g r ≤ 100000) (hd : decode (zKc K) pc = .ok (.baload, 1)) (kk : zWA g K (pc + 1) ls (zi (zI μ r j) :: st) μ) : zWA g K (pc) ls (zi i :: zr (some r) :: st) μ := by
  intro l p e s m args below meth c C d H locs sl stk μr hd0 hS hP hμ hL hT
  obtain ⟨a1, stk1, rfl, h1, hT1⟩ := zSR_cons hT
  cases h1
  obtain ⟨a2, stk2, rfl, h2, hT2⟩ := zSR_cons hT1
  have h2 : a2 = .ref (zad g r) := h2
  subst h2
  subst hμ
  subst hi
  have hcl : (nI j).toNatClampNeg = j := nI_clamp (by omega)
  have hv : vp_in (nI j) (zln g r) := vp_in_nI hj.1 (by omega)
  obtain ⟨q0, hq0, hq⟩ := zws_at hO.1
  refine va_zald (s := s.setDrawn d) C.1 C.2.1 C.2.2.2.2.2.2.2.1 hP q0 3 (cA := zcy g 11) (n := zln g r) (f := zI μr r) ((hq μr).trans (by rw [zpc_arr hO (by decide)]; rfl)) rfl hv hd ?_
  rw [hcl]
  exact kk l p e s m args below meth c C d H locs sl _ μr hd0 hS hP rfl hL ⟨rfl, hT2⟩
theorem zx_lald {g : ZG} {K : ZK} {pc : Nat} {ls : ZLS} {st : List ZV} {μ : ZMem} {r : Nat} {i : Int32} (j : Nat) (hO : zO g 10 r) (hi : i = nI j) (hj : j < zln g r ∧ zln g r ≤ 100000) (hd : decode (zKc K) pc = .ok (.laload, 1)) (kk : zWA g K (pc + 1) ls (zl (zL μ r j) :: st) μ) : zWA g K (pc) ls (zi i :: zr (some r) :: st) μ := by
  intro l p e s m args below meth c C d H locs sl stk μr hd0 hS hP hμ hL hT
  obtain ⟨a1, stk1, rfl, h1, hT1⟩ := zSR_cons hT
  cases h1
  obtain ⟨a2, stk2, rfl, h2, hT2⟩ := zSR_cons hT1
  have h2 : a2 = .ref (zad g r) := h2
  subst h2
  subst hμ
  subst hi
  have hcl : (nI j).toNatClampNeg = j := nI_clamp (by omega)
  have hv : vp_in (nI j) (zln g r) := vp_in_nI hj.1 (by omega)
  obtain ⟨q0, hq0, hq⟩ := zws_at hO.1
  refine va_lald (s := s.setDrawn d) C.1 C.2.1 C.2.2.2.2.2.2.2.1 hP q0 2 (cA := zcy g 10) (n := zln g r) (f := zL μr r) ((hq μr).trans (by rw [zpc_arr hO (by decide)]; rfl)) rfl hv hd ?_
  rw [hcl]
  exact kk l p e s m args below meth c C d H locs sl _ μr hd0 hS hP rfl hL ⟨rfl, hT2⟩
theorem zx_dald {g : ZG} {K : ZK} {pc : Nat} {ls : ZLS} {st : List ZV} {μ : ZMem} {r : Nat} {i : Int32} (j : Nat) (hO : zO g 8 r) (hi : i = nI j) (hj : j < zln g r ∧ zln g r ≤ 100000) (hd : decode (zKc K) pc = .ok (.daload, 1)) (kk : zWA g K (pc + 1) ls (zd (zD μ r j) :: st) μ) : zWA g K (pc) ls (zi i :: zr (some r) :: st) μ := by
  intro l p e s m args below meth c C d H locs sl stk μr hd0 hS hP hμ hL hT
  obtain ⟨a1, stk1, rfl, h1, hT1⟩ := zSR_cons hT
  cases h1
  obtain ⟨a2, stk2, rfl, h2, hT2⟩ := zSR_cons hT1
  have h2 : a2 = .ref (zad g r) := h2
  subst h2
  subst hμ
  subst hi
  have hcl : (nI j).toNatClampNeg = j := nI_clamp (by omega)
  have hv : vp_in (nI j) (zln g r) := vp_in_nI hj.1 (by omega)
  obtain ⟨q0, hq0, hq⟩ := zws_at hO.1
  refine va_dald (s := s.setDrawn d) C.1 C.2.1 C.2.2.2.2.2.2.2.1 hP q0 0 (cA := zcy g 8) (n := zln g r) (f := zD μr r) ((hq μr).trans (by rw [zpc_arr hO (by decide)]; rfl)) rfl hv hd ?_
  rw [hcl]
  exact kk l p e s m args below meth c C d H locs sl _ μr hd0 hS hP rfl hL ⟨⟨_, rfl, rfl⟩, hT2⟩
theorem zty_at (g : ZG) {kd : Nat} (h : 8 ≤ kd ∧ kd ≤ 17) : ∃ ty, (ztys g)[kd - 8]? = some (zcy g kd, ty) := by
  rcases (show kd = 8 ∨ kd = 9 ∨ kd = 10 ∨ kd = 11 ∨ kd = 12 ∨ kd = 13 ∨ kd = 14 ∨ kd = 15 ∨ kd = 16 ∨ kd = 17 by omega) with h | h | h | h | h | h | h | h | h | h <;> subst h <;> exact ⟨_, rfl⟩
theorem zty_ref (g : ZG) {kd : Nat} (h : 12 ≤ kd ∧ kd ≤ 17) : ∃ ty, (ztys g)[kd - 8]? = some (zcy g kd, ty) ∧ ty.isReference = true := by
  rcases (show kd = 12 ∨ kd = 13 ∨ kd = 14 ∨ kd = 15 ∨ kd = 16 ∨ kd = 17 by omega) with h | h | h | h | h | h <;> subst h <;> exact ⟨_, rfl, rfl⟩
theorem zpay_ref {g : ZG} {μ : ZMem} {r kd : Nat} (h : 12 ≤ kd ∧ kd ≤ 17) : zpay g μ r kd = .inr (.inr (.inr (.inr (fun k => (zR μ r k).map (zad g))))) := by
  unfold zpay
  rw [if_neg (by omega), if_neg (by omega), if_neg (by omega)]
theorem zx_aald {g : ZG} {K : ZK} {pc : Nat} {ls : ZLS} {st : List ZV} {μ : ZMem} {r : Nat} {i : Int32} (j : Nat) {kd : Nat} {o' : Option Nat} (hO : zO g kd r) (hkd : 12 ≤ kd ∧ kd ≤ 17) (hi : i = nI j) (hj : j < zln g r ∧ zln g r ≤ 100000) (hR : zR μ r j = o') (hd : decode (zKc K) pc = .ok (.aaload, 1)) (kk : zWA g K (pc + 1) ls (zr o' :: st) μ) : zWA g K (pc) ls (zi i :: zr (some r) :: st) μ := by
  intro l p e s m args below meth c C d H locs sl stk μr hd0 hS hP hμ hL hT
  obtain ⟨a1, stk1, rfl, h1, hT1⟩ := zSR_cons hT
  cases h1
  obtain ⟨a2, stk2, rfl, h2, hT2⟩ := zSR_cons hT1
  have h2 : a2 = .ref (zad g r) := h2
  subst h2
  subst hμ
  subst hi
  have hcl : (nI j).toNatClampNeg = j := nI_clamp (by omega)
  have hv : vp_in (nI j) (zln g r) := vp_in_nI hj.1 (by omega)
  obtain ⟨q0, hq0, hq⟩ := zws_at hO.1
  subst hR
  obtain ⟨ty, ht, hrf⟩ := zty_ref g hkd
  have ha := (hq μr).trans (by rw [zpc_arr hO (by omega), zpay_ref hkd])
  have hlt : (nI j).toNatClampNeg < zln g r := by rw [hcl]; exact hj.1
  refine W.aald (s := s.setDrawn d) (v := va_rf ((zR μr r (nI j).toNatClampNeg).map (zad g))) (ty := ty) C.1 C.2.1 (hP q0 _ ha) ((C.2.2.2.2.2.2.2.1.2 _ _ ht).1 (zln g r) (fun k => va_rf ((zR μr r k).map (zad g)))) hrf (fun q => by cases q) (by show ¬ (nI j < 0 ∨ (arrV _ _ _).slots.size ≤ _); rw [arrV_size]; exact hv) (by show (arrV _ _ _).slots[_]? = _; rw [arrV_read _ _ hlt]) rfl rfl hd ?_
  rw [hcl]
  exact kk l p e s m args below meth c C d H locs sl _ μr hd0 hS hP rfl hL ⟨rfl, hT2⟩
theorem zx_alen {g : ZG} {K : ZK} {pc : Nat} {ls : ZLS} {st : List ZV} {μ : ZMem} {r kd : Nat} (v : Int32) (hO : zO g kd r) (hkd : 8 ≤ kd ∧ kd ≤ 17) (hv : v = nI (zln g r)) (hd : decode (zKc K) pc = .ok (.arraylength, 1)) (kk : zWA g K (pc + 1) ls (zi v :: st) μ) : zWA g K (pc) ls (zr (some r) :: st) μ := by
  intro l p e s m args below meth c C d H locs sl stk μr hd0 hS hP hμ hL hT
  obtain ⟨a1, stk1, rfl, h1, hT1⟩ := zSR_cons hT
  have h1 : a1 = .ref (zad g r) := h1
  subst h1
  subst hv
  obtain ⟨q0, hq0, hq⟩ := zws_at hO.1
  obtain ⟨ty, ht⟩ := zty_at g hkd
  exact va_alen (s := s.setDrawn d) (x := (zln g r, zpay g μr r kd)) (v := nI (zln g r)) C.1 C.2.1 C.2.2.2.2.2.2.2.1 hP q0 _ ((hq μr).trans (by rw [zpc_arr hO hkd.1])) ht rfl hd (kk l p e s m args below meth c C d H locs sl _ μr hd0 hS hP hμ hL ⟨rfl, hT1⟩)
theorem zx_iast {g : ZG} {K : ZK} {pc : Nat} {ls : ZLS} {st : List ZV} {μ : ZMem} {r : Nat} {i : Int32} (j : Nat) {x : Int32}  (hO : zO g 9 r) (hi : i = nI j) (hj : j < zln g r ∧ zln g r ≤ 100000) (hd : decode (zKc K) pc = .ok (.iastore, 1)) (kk : zWA g K (pc + 1) ls (st) (zsI μ r j x)) : zWA g K (pc) ls (zi x :: zi i :: zr (some r) :: st) μ := by
  intro l p e s m args below meth c C d H locs sl stk μr hd0 hS hP hμ hL hT
  obtain ⟨a0, stk0, rfl, h0, hT0⟩ := zSR_cons hT
  cases h0
  obtain ⟨a1, stk1, rfl, h1, hT1⟩ := zSR_cons hT0
  cases h1
  obtain ⟨a2, stk2, rfl, h2, hT2⟩ := zSR_cons hT1
  have h2 : a2 = .ref (zad g r) := h2
  subst h2
  subst hμ
  subst hi
  have hcl : (nI j).toNatClampNeg = j := nI_clamp (by omega)
  have hv : vp_in (nI j) (zln g r) := vp_in_nI hj.1 (by omega)
  obtain ⟨q0, hq0, hq⟩ := zws_at hO.1
  refine va_iast (s := s.setDrawn d) C.1 C.2.1 C.2.2.2.2.2.2.2.1 hP (zws_D C.2.2.2.2.2.2.2.2.1 μr) hS q0 1 (cA := zcy g 9) (n := zln g r) (f := zI μr r) ((hq μr).trans (by rw [zpc_arr hO (by decide)]; rfl)) rfl hv hd (fun H1 locs1 hP1 _ hS1 => ?_)
  have e9 : zI (zsI μr r j x) r = upd (zI μr r) j x := by
    funext b
    show zup _ r j x r b = _
    unfold zup upd
    by_cases hb : b = j
    · rw [if_pos ⟨rfl, hb⟩, if_pos hb]
    · rw [if_neg (fun q => hb q.2), if_neg hb]
      rfl
  rw [hcl, ← e9, zws_set (μ' := zsI μr r j x) C.2.2.2.2.2.2.2.2.1 hq0 zpc_oI (by rw [zpc_arr hO (by decide)]; rfl)] at hP1
  exact kk l p e s m args below meth c C d H1 locs1 sl _ (zsI μr r j x) hd0 hS1 hP1 rfl hL hT2
theorem zx_zast {g : ZG} {K : ZK} {pc : Nat} {ls : ZLS} {st : List ZV} {μ : ZMem} {r : Nat} {i : Int32} (j : Nat) {x : Int32} (hx : vp_nar .boolean x = x) (hO : zO g 11 r) (hi : i = nI j) (hj : j < zln g r ∧ zln g r ≤ 100000) (hd : decode (zKc K) pc = .ok (.bastore, 1)) (kk : zWA g K (pc + 1) ls (st) (zsI μ r j x)) : zWA g K (pc) ls (zi x :: zi i :: zr (some r) :: st) μ := by
  intro l p e s m args below meth c C d H locs sl stk μr hd0 hS hP hμ hL hT
  obtain ⟨a0, stk0, rfl, h0, hT0⟩ := zSR_cons hT
  cases h0
  obtain ⟨a1, stk1, rfl, h1, hT1⟩ := zSR_cons hT0
  cases h1
  obtain ⟨a2, stk2, rfl, h2, hT2⟩ := zSR_cons hT1
  have h2 : a2 = .ref (zad g r) := h2
  subst h2
  subst hμ
  subst hi
  have hcl : (nI j).toNatClampNeg = j := nI_clamp (by omega)
  have hv : vp_in (nI j) (zln g r) := vp_in_nI hj.1 (by omega)
  obtain ⟨q0, hq0, hq⟩ := zws_at hO.1
  refine va_zast (s := s.setDrawn d) C.1 C.2.1 C.2.2.2.2.2.2.2.1 hP (zws_D C.2.2.2.2.2.2.2.2.1 μr) hS q0 3 (cA := zcy g 11) (n := zln g r) (f := zI μr r) ((hq μr).trans (by rw [zpc_arr hO (by decide)]; rfl)) rfl hv hd (fun H1 locs1 hP1 _ hS1 => ?_)
  have e9 : zI (zsI μr r j x) r = upd (zI μr r) j x := by
    funext b
    show zup _ r j x r b = _
    unfold zup upd
    by_cases hb : b = j
    · rw [if_pos ⟨rfl, hb⟩, if_pos hb]
    · rw [if_neg (fun q => hb q.2), if_neg hb]
      rfl
  rw [hx, hcl, ← e9, zws_set (μ' := zsI μr r j x) C.2.2.2.2.2.2.2.2.1 hq0 zpc_oI (by rw [zpc_arr hO (by decide)]; rfl)] at hP1
  exact kk l p e s m args below meth c C d H1 locs1 sl _ (zsI μr r j x) hd0 hS1 hP1 rfl hL hT2
theorem zx_last {g : ZG} {K : ZK} {pc : Nat} {ls : ZLS} {st : List ZV} {μ : ZMem} {r : Nat} {i : Int32} (j : Nat) {x : Int64}  (hO : zO g 10 r) (hi : i = nI j) (hj : j < zln g r ∧ zln g r ≤ 100000) (hd : decode (zKc K) pc = .ok (.lastore, 1)) (kk : zWA g K (pc + 1) ls (st) (zsL μ r j x)) : zWA g K (pc) ls (zl x :: zi i :: zr (some r) :: st) μ := by
  intro l p e s m args below meth c C d H locs sl stk μr hd0 hS hP hμ hL hT
  obtain ⟨a0, stk0, rfl, h0, hT0⟩ := zSR_cons hT
  cases h0
  obtain ⟨a1, stk1, rfl, h1, hT1⟩ := zSR_cons hT0
  cases h1
  obtain ⟨a2, stk2, rfl, h2, hT2⟩ := zSR_cons hT1
  have h2 : a2 = .ref (zad g r) := h2
  subst h2
  subst hμ
  subst hi
  have hcl : (nI j).toNatClampNeg = j := nI_clamp (by omega)
  have hv : vp_in (nI j) (zln g r) := vp_in_nI hj.1 (by omega)
  obtain ⟨q0, hq0, hq⟩ := zws_at hO.1
  refine va_last (s := s.setDrawn d) C.1 C.2.1 C.2.2.2.2.2.2.2.1 hP (zws_D C.2.2.2.2.2.2.2.2.1 μr) hS q0 2 (cA := zcy g 10) (n := zln g r) (f := zL μr r) ((hq μr).trans (by rw [zpc_arr hO (by decide)]; rfl)) rfl hv hd (fun H1 locs1 hP1 _ hS1 => ?_)
  have e9 : zL (zsL μr r j x) r = vp_updL (zL μr r) j x := by
    funext b
    show zup _ r j x r b = _
    unfold zup vp_updL
    by_cases hb : b = j
    · rw [if_pos ⟨rfl, hb⟩, if_pos hb]
    · rw [if_neg (fun q => hb q.2), if_neg hb]
      rfl
  rw [hcl, ← e9, zws_set (μ' := zsL μr r j x) C.2.2.2.2.2.2.2.2.1 hq0 zpc_oL (by rw [zpc_arr hO (by decide)]; rfl)] at hP1
  exact kk l p e s m args below meth c C d H1 locs1 sl _ (zsL μr r j x) hd0 hS1 hP1 rfl hL hT2
theorem zx_dast {g : ZG} {K : ZK} {pc : Nat} {ls : ZLS} {st : List ZV} {μ : ZMem} {r : Nat} {i : Int32} (j : Nat) {x : UInt64}  (hO : zO g 8 r) (hi : i = nI j) (hj : j < zln g r ∧ zln g r ≤ 100000) (hd : decode (zKc K) pc = .ok (.dastore, 1)) (kk : zWA g K (pc + 1) ls (st) (zsD μ r j x)) : zWA g K (pc) ls (zd x :: zi i :: zr (some r) :: st) μ := by
  intro l p e s m args below meth c C d H locs sl stk μr hd0 hS hP hμ hL hT
  obtain ⟨a0, stk0, rfl, h0, hT0⟩ := zSR_cons hT
  obtain ⟨y, rfl, rfl⟩ := h0
  obtain ⟨a1, stk1, rfl, h1, hT1⟩ := zSR_cons hT0
  cases h1
  obtain ⟨a2, stk2, rfl, h2, hT2⟩ := zSR_cons hT1
  have h2 : a2 = .ref (zad g r) := h2
  subst h2
  subst hμ
  subst hi
  have hcl : (nI j).toNatClampNeg = j := nI_clamp (by omega)
  have hv : vp_in (nI j) (zln g r) := vp_in_nI hj.1 (by omega)
  obtain ⟨q0, hq0, hq⟩ := zws_at hO.1
  refine va_dast (s := s.setDrawn d) C.1 C.2.1 C.2.2.2.2.2.2.2.1 hP (zws_D C.2.2.2.2.2.2.2.2.1 μr) hS q0 0 (cA := zcy g 8) (n := zln g r) (f := zD μr r) ((hq μr).trans (by rw [zpc_arr hO (by decide)]; rfl)) rfl hv hd (fun H1 locs1 hP1 _ hS1 => ?_)
  have e9 : zD (zsD μr r j y) r = vf_upd (zD μr r) j y := by
    funext b
    show zup _ r j y r b = _
    unfold zup vf_upd
    by_cases hb : b = j
    · rw [if_pos ⟨rfl, hb⟩, if_pos hb]
    · rw [if_neg (fun q => hb q.2), if_neg hb]
      rfl
  rw [hcl, ← e9, zws_set (μ' := zsD μr r j y) C.2.2.2.2.2.2.2.2.1 hq0 zpc_oD (by rw [zpc_arr hO (by decide)]; rfl)] at hP1
  exact kk l p e s m args below meth c C d H1 locs1 sl _ (zsD μr r j y) hd0 hS1 hP1 (zcM_sD _ _ _ _) hL hT2
theorem zx_ireturn {g : ZG} {K : ZK} {pc : Nat} {ls : ZLS} {μ : ZMem} {x : Int32} (hr : zKr K = some .int) (ha : zKa K = some (zi x)) (hm : zKm K = μ) (hd : decode (zKc K) pc = .ok (.ireturn, 1)) : zWA g K pc ls [zi x] μ := by
  intro l p e s m args below meth c C d H locs sl stk μr hd0 hS hP hμ hL hT
  obtain ⟨a1, stk1, rfl, h1, hT1⟩ := zSR_cons hT
  cases zSR_nil hT1
  cases h1
  have hret : meth.sig.returnType = zKr K := C.2.2.2.2.2.1
  have hlocks : meth.locks = false := C.2.2.2.2.2.2.1
  refine W.endD hd0 ?_
  exact W.iret C.1 C.2.1 (hret.trans hr) (fun t ht hW => ⟨⟨some (.int x), μr, rfl, by rw [ha]; exact rfl, by rw [hm]; exact hμ, by rw [ht]; exact hP⟩, hS.F ht⟩) hS.2.2 hd
theorem zx_zreturn {g : ZG} {K : ZK} {pc : Nat} {ls : ZLS} {μ : ZMem} {x : Int32} (hr : zKr K = some .boolean) (hn : narrow .boolean (.int x) = .int x) (ha : zKa K = some (zi x)) (hm : zKm K = μ) (hd : decode (zKc K) pc = .ok (.ireturn, 1)) : zWA g K pc ls [zi x] μ := by
  intro l p e s m args below meth c C d H locs sl stk μr hd0 hS hP hμ hL hT
  obtain ⟨a1, stk1, rfl, h1, hT1⟩ := zSR_cons hT
  cases zSR_nil hT1
  cases h1
  have hret : meth.sig.returnType = zKr K := C.2.2.2.2.2.1
  have hlocks : meth.locks = false := C.2.2.2.2.2.2.1
  refine W.endD hd0 ?_
  exact W.zret C.1 C.2.1 (hret.trans hr) hn (fun t ht hW => ⟨⟨some (.int x), μr, rfl, by rw [ha]; exact rfl, by rw [hm]; exact hμ, by rw [ht]; exact hP⟩, hS.F ht⟩) hS.2.2 hd
theorem zx_lreturn {g : ZG} {K : ZK} {pc : Nat} {ls : ZLS} {μ : ZMem} {x : Int64} (hr : zKr K = some .long) (ha : zKa K = some (zl x)) (hm : zKm K = μ) (hd : decode (zKc K) pc = .ok (.lreturn, 1)) : zWA g K pc ls [zl x] μ := by
  intro l p e s m args below meth c C d H locs sl stk μr hd0 hS hP hμ hL hT
  obtain ⟨a1, stk1, rfl, h1, hT1⟩ := zSR_cons hT
  cases zSR_nil hT1
  cases h1
  have hret : meth.sig.returnType = zKr K := C.2.2.2.2.2.1
  have hlocks : meth.locks = false := C.2.2.2.2.2.2.1
  refine W.endD hd0 ?_
  exact W.lret C.1 C.2.1 (hret.trans hr) (fun t ht hW => ⟨⟨some (.long x), μr, rfl, by rw [ha]; exact rfl, by rw [hm]; exact hμ, by rw [ht]; exact hP⟩, hS.F ht⟩) hS.2.2 hd
theorem zx_dreturn {g : ZG} {K : ZK} {pc : Nat} {ls : ZLS} {μ : ZMem} {x : UInt64} (hr : zKr K = some .double) (ha : zKa K = some (zd x)) (hm : zKm K = μ) (hd : decode (zKc K) pc = .ok (.dreturn, 1)) : zWA g K pc ls [zd x] μ := by
  intro l p e s m args below meth c C d H locs sl stk μr hd0 hS hP hμ hL hT
  obtain ⟨a1, stk1, rfl, h1, hT1⟩ := zSR_cons hT
  cases zSR_nil hT1
  obtain ⟨y, rfl, rfl⟩ := h1
  have hret : meth.sig.returnType = zKr K := C.2.2.2.2.2.1
  have hlocks : meth.locks = false := C.2.2.2.2.2.2.1
  refine W.endD hd0 ?_
  exact W.dret C.1 C.2.1 (hret.trans hr) (fun t ht hW => ⟨⟨some (.double y), μr, rfl, by rw [ha]; exact ⟨y, rfl, rfl⟩, by rw [hm]; exact hμ, by rw [ht]; exact hP⟩, hS.F ht⟩) hS.2.2 hd
theorem zx_return {g : ZG} {K : ZK} {pc : Nat} {ls : ZLS} {μ : ZMem} (hr : zKr K = none) (ha : zKa K = none) (hm : zKm K = μ) (hd : decode (zKc K) pc = .ok (.return_, 1)) : zWA g K pc ls [] μ := by
  intro l p e s m args below meth c C d H locs sl stk μr hd0 hS hP hμ hL hT
  cases zSR_nil hT
  have hret : meth.sig.returnType = zKr K := C.2.2.2.2.2.1
  have hlocks : meth.locks = false := C.2.2.2.2.2.2.1
  refine W.endD hd0 ?_
  exact W.vret C.1 C.2.1 (hret.trans hr) (fun t ht hW => ⟨⟨none, μr, rfl, by rw [ha]; exact trivial, by rw [hm]; exact hμ, by rw [ht]; exact hP⟩, hS.F ht⟩) hS.2.2 hd
theorem zx_areturn {g : ZG} {K : ZK} {pc : Nat} {ls : ZLS} {μ : ZMem} {x : Option Nat} {rt : FieldType} (hr : zKr K = some rt) (hrt : (∃ n, rt = .object n) ∨ ∃ t, rt = .array t) (ha : zKa K = some (zr x)) (hm : zKm K = μ) (hd : decode (zKc K) pc = .ok (.areturn, 1)) : zWA g K pc ls [zr x] μ := by
  intro l p e s m args below meth c C d H locs sl stk μr hd0 hS hP hμ hL hT
  obtain ⟨a1, stk1, rfl, h1, hT1⟩ := zSR_cons hT
  cases zSR_nil hT1
  have h1 : a1 = va_rf (x.map (zad g)) := h1
  subst h1
  have hret : meth.sig.returnType = zKr K := C.2.2.2.2.2.1
  have hlocks : meth.locks = false := C.2.2.2.2.2.2.1
  refine W.endD hd0 ?_
  exact W.aret C.1 C.2.1 (hret.trans hr) hrt (by cases x with | none => exact Or.inl rfl | some r => exact Or.inr ⟨_, rfl⟩) (fun t ht hW => ⟨⟨some (va_rf (x.map (zad g))), μr, rfl, by rw [ha]; exact rfl, by rw [hm]; exact hμ, by rw [ht]; exact hP⟩, hS.F ht⟩) hS.2.2 hd
