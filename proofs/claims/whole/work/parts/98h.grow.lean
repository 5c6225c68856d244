/-! methods that make cells: the world's roles grow; where each will stand is told in advance -/
def zgr (g : ZG) (nr : List Nat) : ZG := (zgD g, zcy g, zkd g, zln g, zrs g ++ nr, zad g)
theorem zgr_gr (g : ZG) (a b : List Nat) : zgr (zgr g a) b = zgr g (a ++ b) := by
  show (zgD g, zcy g, zkd g, zln g, (zrs g ++ a) ++ b, zad g) = _
  rw [List.append_assoc]
  rfl
theorem zgr_nil (g : ZG) : zgr g [] = g := by
  show (zgD g, zcy g, zkd g, zln g, zrs g ++ [], zad g) = _
  rw [List.append_nil]
  rfl
def zZr (μ : ZMem) (r : Nat) : Prop := ∀ k, zI μ r k = 0 ∧ zL μ r k = 0 ∧ zD μ r k = 0 ∧ zR μ r k = none
def zA0 (g : ZG) (hs : Nat) : Nat → Prop := fun q => zRg g q ∨ hs ≤ q
def znin : List (String × Nat × MethodName × String) := [(RX6, 324, yX0_init, RX6), (RX6, 325, yX3_init, RX6), (RX6, 326, yX2_init, RX6), (RX6, 75, yX5_init, RX6)]
def zaos : List String := [RX0, RX1, RX2, RX3, RX4]
def zXs (s : State) : Prop := (∀ C ∈ zaos, va_AO C s) ∧ (Cond.arrayOver (.array .double)).before #[] s = true ∧ ∀ q ∈ znin, va_Nw (.methodLinkNest q.1 q.2.1 q.2.2.1 q.2.2.2) s
theorem zXs_warm {s U : State} (hW : s.WarmedH U.vm) (h : zXs s) : zXs U :=
  ⟨fun C hC => (h.1 C hC).moved hW.alike, Jvm.Stand.arrayOver_alikeB hW.alike h.2.1, fun q hq => va_Nw.warmM hW (h.2.2 q hq)⟩
theorem zXs_d {s : State} (d : Drawn) (h : zXs s) : zXs (s.setDrawn d) :=
  ⟨fun C hC => (Cond.before_setDrawn #[] s d _).trans (h.1 C hC), (Cond.before_setDrawn #[] s d _).trans h.2.1, fun q hq => (Cond.before_setDrawn #[] s d _).trans (h.2.2 q hq)⟩
def zlow (g : ZG) (hs : Nat) (nr : List Nat) (kc : Nat) : Prop := (kc = 0 ∨ ∃ r ∈ nr, zad g r + 1 = hs + kc) ∧ ∀ r ∈ nr, hs ≤ zad g r
def zXN (g : ZG) (hs : Nat) (nr : List Nat) (kc : Nat) (fi : Bool) (s : State) (meth : Method) : Prop := s.heap.size = hs ∧ zXs s ∧ zlow g hs nr kc ∧ (fi = true → meth.name = "<init>")
def zQN (g : ZG) (nF : List Nat) (hs mc : Nat) (res : Option ZV) (μ' : ZMem) : Array Value → State → Outcome → State → Prop := fun _ st oc t => ((∃ (w : Option Value) (μr : ZMem), oc = .returned w ∧ zRo g w res ∧ zcM μr = μ' ∧ va_P (zgD g) vwCl (zws (zgr g nF) μr) t.heap) ∧ zAp (zgr g nF) ∧ zlow g hs nF mc) ∧ va_F (zA0 g hs) st t
def zWN (g : ZG) (K : ZK) (nF : List Nat) (hs : Nat) (fi : Bool) (nr : List Nat) (kc kn pc : Nat) (ls : ZLS) (st : List ZV) (μ : ZMem) : Prop :=
  ∀ (l : Launch) (p : Program) (e : Env) (s : State) (m : MethodId) (args : Array Value) (below : List Frame) (meth : Method) (c : Code), zCX (zgr g nr) K p s m args meth c → zXN g hs nr kc fi s meth →
  ∀ (d : Drawn) (H : Heap) (locs : List Loc) (sl : Array Slot) (stk : List Value) (μr : ZMem), s.drawn.sameBut d lw_cs → va_S (zA0 g hs) s.heap H locs → va_P (zgD g) vwCl (zws (zgr g nr) μr) H → zcM μr = μ → zLR g sl (zKn K) ls → zSR g stk st →
  W p l e (zKR K) (s.setDrawn d) m args below meth c H locs kc kn (MQD lw_cs below (zQN g nF hs (zKR K).cells (zKa K) (zKm K)) args s (zKR K).cells (zKR K).slots (zA0 g hs)) (F0 m pc sl stk)
theorem zWN_sub {g : ZG} {K : ZK} {nF : List Nat} {hs : Nat} {fi : Bool} {nr : List Nat} {kc kn : Nat} {pc : Nat} {ls ls' : ZLS} {st : List ZV} {μ : ZMem} (h : ∀ j v, ls' j = some v → ls j = some v) (k : zWN g K nF hs fi nr kc kn pc ls' st μ) : zWN g K nF hs fi nr kc kn pc ls st μ :=
  fun l p e s m args below meth c C hx d H locs sl stk μr hd hS hP hμ hL hT => k l p e s m args below meth c C hx d H locs sl stk μr hd hS hP hμ (zLR_sub hL h) hT
theorem zWN_to {g : ZG} {K : ZK} {nF : List Nat} {hs : Nat} {fi : Bool} {nr : List Nat} {kc kn : Nat} {pc : Nat} {t : List (Nat × ZV)} {ls : ZLS} {st : List ZV} {μ : ZMem} (k : zWN g K nF hs fi nr kc kn pc (zls t) st μ) (h : zhas ls t) : zWN g K nF hs fi nr kc kn pc ls st μ := zWN_sub (zhas_sub h) k
theorem zWN_mem {g : ZG} {K : ZK} {nF : List Nat} {hs : Nat} {fi : Bool} {nr : List Nat} {kc kn : Nat} {pc : Nat} {ls : ZLS} {st : List ZV} {μ μ2 : ZMem} (h : zWN g K nF hs fi nr kc kn pc ls st μ) (e : μ = μ2) : zWN g K nF hs fi nr kc kn pc ls st μ2 := e ▸ h
theorem zWN_at {g : ZG} {K : ZK} {nF : List Nat} {hs : Nat} {fi : Bool} {nr : List Nat} {kc kn : Nat} {pc : Nat} {ls : ZLS} {st : List ZV} {μ : ZMem} {nr2 : List Nat} {kc2 kn2 : Nat} {μ2 : ZMem} (h : zWN g K nF hs fi nr kc kn pc ls st μ) (e1 : nr = nr2) (e2 : kc = kc2) (e3 : kn = kn2) (e4 : μ = μ2) : zWN g K nF hs fi nr2 kc2 kn2 pc ls st μ2 := by
  subst e1; subst e2; subst e3; subst e4; exact h
/-- a contract of a method that makes cells -/
def zNab (g : ZG) (own : String) (y : MethodName) (cc : ByteArray) (nL : Nat) (ret : Option FieldType) (R : Room) (As : List ZV) (μ : ZMem) (res : Option ZV) (μ' : ZMem) (nF : List Nat) (hs : Nat) : Prop :=
  zAp g → ∀ (l : Launch) (as : List Value) (μr : ZMem), zSR g as As → zcM μr = μ → MetD lw_cs l y (.code y cc nL ret :: lw_good) R (va_Pc as (fun U => U.heap.size = hs ∧ va_P (zgD g) vwCl (zws g μr) U.heap ∧ va_K (zgD g) vwCl (ztys g) U ∧ zNst U ∧ zZs g U U.heap ∧ zXs U)) (zQN g nF hs R.cells res μ') R.cells R.slots (zA0 g hs)
theorem zNab_w {g : ZG} {own : String} {y : MethodName} {cc : ByteArray} {nL : Nat} {ret : Option FieldType} {R : Room} {As : List ZV} {μ : ZMem} {res : Option ZV} {μ' : ZMem} {nF : List Nat} {hs : Nat} (fi : Bool) (hy : plainFor y = true) (ho : own = y.cls) (hn : zwt As ≤ nL) (hfi : fi = true → y.name = "<init>")
    (h : zWN g (own, cc, nL, ret, R, res, μ') nF hs fi [] 0 0 0 (zarg 0 As) [] μ) : zNab g own y cc nL ret R As μ res μ' nF hs := by
  intro hA l as μr hSR hμ
  refine zMetD (cc := cc) (maxL := nL) (ret := ret) hy rfl ?_
  intro p e s m args below meth c s₁ B hml hv hd0
  obtain ⟨rfl, hz, hP, hK, hN, hZ, hX⟩ := hv
  have hts := atoms_spec (ws := .code y cc nL ret :: lw_good) B.pre
  have hown : s.vm.findClass own = some m.cls := by rw [ho]; exact findClass_of_methodNamed B.named
  have hl := lv_entry as (n := nL) (by rw [zlg_len hSR]; exact hn)
  rw [lg_entry_eq]
  have C : zCX g (own, cc, nL, ret, R, res, μ') p s m as.toArray meth c := ⟨B.exec, B.bytes, hml, hown, fun w hw => hts w (List.mem_cons_of_mem _ hw), B.returns, B.notSynchronized, hK, hA, hN, hZ⟩
  refine h l p e s m _ below meth c (by rw [zgr_nil]; exact C) ⟨hz, hX, ⟨Or.inl rfl, fun r hr => by cases hr⟩, fun q => ((name_of_methodNamed B.named B.method).1.trans (hfi q))⟩ s.drawn s.heap [] _ [] μr hd0 va_S.rf (by rw [zgr_nil]; exact hP) hμ ⟨_, hl, zarg_in 0 hSR⟩ trivial
/-- what a world keeps of its addresses -/
theorem zws_lt {g : ZG} {μr : ZMem} {H : Heap} (hP : va_P (zgD g) vwCl (zws g μr) H) {r : Nat} (h : r ∈ zrs g) : zad g r < H.size := by
  obtain ⟨k, hk, hq⟩ := zws_at h
  exact (hP k _ (hq μr)).lt
theorem zsize {g : ZG} {nr : List Nat} {hs kc kn : Nat} {μr : ZMem} {H : Heap} {s : State} {d : Drawn} {locs : List Loc} {p : Program} {l : Launch} {e : Env} {R : Room} {m : MethodId} {args : Array Value} {below : List Frame} {meth : Method} {c : Code} {T : State}
    (h0 : s.heap.size = hs) (h1 : zlow g hs nr kc) (hS : va_S (zA0 g hs) s.heap H locs) (hP : va_P (zgD g) vwCl (zws (zgr g nr) μr) H) (hT : T.heap = H) (X : Stand p l e R (s.setDrawn d) m args below meth c T locs kc kn) : H.size = hs + kc := by
  have u : T.heap.size ≤ s.heap.size + kc := X.same.2.2.1
  rw [hT] at u
  have lo := hS.1
  rcases h1.1 with q | ⟨r, hr, q⟩
  · omega
  · have := zws_lt (g := zgr g nr) hP (r := r) (List.mem_append_right _ hr)
    have e9 : zad (zgr g nr) r = zad g r := rfl
    omega
theorem zA0_of {g : ZG} {nr : List Nat} {hs kc : Nat} (hl : zlow g hs nr kc) {q : Nat} (h : zRg (zgr g nr) q) : zA0 g hs q := by
  obtain ⟨r, hr, e⟩ := h
  rcases List.mem_append.mp (show r ∈ zrs g ++ nr from hr) with z | z
  · exact Or.inl ⟨r, z, e⟩
  · have := hl.2 r z
    exact Or.inr (by have e : zad g r = q := e; omega)
theorem zws_D0 {g : ZG} {nr : List Nat} {hs kc : Nat} (hA : zAp (zgr g nr)) (hl : zlow g hs nr kc) (μ : ZMem) : va_D (zA0 g hs) (zws (zgr g nr) μ) := ⟨(zws_D hA μ).1, fun k q hk => zA0_of hl ((zws_D hA μ).2 k q hk)⟩
theorem zws_push (g : ZG) (nr : List Nat) (r : Nat) (μr : ZMem) : zws (zgr g (nr ++ [r])) μr = zws (zgr g nr) μr ++ [(zad g r, zpc g μr r)] := by
  show ((zrs g ++ (nr ++ [r])).map _) = ((zrs g ++ nr).map _) ++ _
  rw [← List.append_assoc, List.map_append]
  rfl
theorem zP_push {g : ZG} {nr : List Nat} {r : Nat} {μr : ZMem} {H H1 : Heap} (hP : va_P (zgD g) vwCl (zws (zgr g nr) μr) H) (o1 : ∀ q, q < H.size → H1[q]? = H[q]?) (hc : va_at (zgD g) vwCl (zad g r, zpc g μr r) H1) : va_P (zgD g) vwCl (zws (zgr g (nr ++ [r])) μr) H1 := by
  rw [zws_push]
  refine (hP.kept (fun k x hx => o1 x.1 ((hP k x hx).lt))).app (fun k x hx => ?_)
  have hz : k < 1 := (List.getElem?_eq_some_iff.mp hx).1
  rw [show k = 0 by omega] at hx
  cases hx
  exact hc
theorem zAp_push {g : ZG} {nr : List Nat} {r : Nat} {μr : ZMem} {H : Heap} (hA : zAp (zgr g nr)) (hP : va_P (zgD g) vwCl (zws (zgr g nr) μr) H) (hq : zad g r = H.size) : zAp (zgr g (nr ++ [r])) := by
  have hl : ∀ (i x : Nat), (zrs (zgr g (nr ++ [r])))[i]? = some x → ((zrs (zgr g nr))[i]? = some x ∧ zad g x < H.size) ∨ (i = (zrs g ++ nr).length ∧ x = r) := by
    intro i x hi
    have hi : ((zrs g ++ (nr ++ [r])))[i]? = some x := hi
    rw [← List.append_assoc] at hi
    by_cases h : i < (zrs g ++ nr).length
    · rw [List.getElem?_append_left h] at hi
      exact Or.inl ⟨hi, zws_lt (g := zgr g nr) hP (List.mem_of_getElem? hi)⟩
    · rw [List.getElem?_append_right (by omega)] at hi
      have hz : i - (zrs g ++ nr).length < 1 := (List.getElem?_eq_some_iff.mp hi).1
      rw [show i - (zrs g ++ nr).length = 0 by omega] at hi
      cases hi
      exact Or.inr ⟨by omega, rfl⟩
  intro i j x y hi hj e
  have e : zad g x = zad g y := e
  rcases hl i x hi with ⟨h1, h2⟩ | ⟨h1, h2⟩ <;> rcases hl j y hj with ⟨h3, h4⟩ | ⟨h3, h4⟩
  · exact hA i j x y h1 h3 e
  · subst h4; omega
  · subst h2; omega
  · omega
theorem zZs_gr {g : ZG} {nr n2 : List Nat} {s : State} (h : zZs (zgr g nr) s s.heap) (hn : ∀ r ∈ n2, s.heap.size ≤ zad g r) : zZs (zgr g (nr ++ n2)) s s.heap := by
  obtain ⟨cf, kf, fi, f, a, cell, h1, h2, h3, h4, h5, h6, h7, h8⟩ := h
  refine ⟨cf, kf, fi, f, a, cell, h1, h2, h3, h4, h5, h6, h7, fun q => ?_⟩
  obtain ⟨r, hr, e⟩ := q
  have ha : a < s.heap.size := (Array.getElem?_eq_some_iff.mp h5).1
  have hr : r ∈ zrs g ++ (nr ++ n2) := hr
  have e : zad g r = a := e
  rw [← List.append_assoc] at hr
  rcases List.mem_append.mp hr with q | q
  · exact h8 ⟨r, q, e⟩
  · have := hn r q
    omega
theorem zCX_gr {g : ZG} {nr n2 : List Nat} {K : ZK} {p : Program} {s : State} {m : MethodId} {args : Array Value} {meth : Method} {c : Code} (C : zCX (zgr g nr) K p s m args meth c) (hA : zAp (zgr g (nr ++ n2))) (hn : ∀ r ∈ n2, s.heap.size ≤ zad g r) : zCX (zgr g (nr ++ n2)) K p s m args meth c :=
  ⟨C.1, C.2.1, C.2.2.1, C.2.2.2.1, C.2.2.2.2.1, C.2.2.2.2.2.1, C.2.2.2.2.2.2.1, C.2.2.2.2.2.2.2.1, hA, C.2.2.2.2.2.2.2.2.2.1, zZs_gr C.2.2.2.2.2.2.2.2.2.2 hn⟩
theorem zS_push {A : Nat → Prop} {H0 H H1 : Heap} {locs : List Loc} (hS : va_S A H0 H locs) (hz : H.size ≤ H1.size) (o1 : ∀ q, q < H.size → H1[q]? = H[q]?) : va_S A H0 H1 locs := ⟨Nat.le_trans hS.1 hz, fun x h1 h2 => (o1 x (Nat.lt_of_lt_of_le h1 hS.1)).trans (hS.2.1 x h1 h2), hS.2.2⟩
theorem zlow_push {g : ZG} {nr : List Nat} {hs kc r : Nat} (h : zlow g hs nr kc) (hq : zad g r = hs + kc) : zlow g hs (nr ++ [r]) (kc + 1) := by
  refine ⟨Or.inr ⟨r, List.mem_append_right _ List.mem_cons_self, by omega⟩, fun x hx => ?_⟩
  rcases List.mem_append.mp hx with q | q
  · exact h.2 x q
  · cases List.mem_singleton.mp q
    omega
theorem zcn_zero {x : UInt64} (h : zcn x = 0) : x = 0 := by
  unfold zcn at h
  by_cases hn : isNaN64 x = true
  · rw [if_pos hn] at h
    exact absurd h (by decide)
  · rwa [if_neg hn] at h
theorem zZr_raw {μr : ZMem} {r : Nat} (h : zZr (zcM μr) r) : zZr μr r := fun k => ⟨(h k).1, (h k).2.1, zcn_zero (h k).2.2.1, (h k).2.2.2⟩
/-- one cell more -/
theorem zgrow {g : ZG} {K : ZK} {nF : List Nat} {hs : Nat} {fi : Bool} {nr : List Nat} {kc : Nat} {kc2 kn1 kn2 pc : Nat} {ls : ZLS} {st : List ZV} {μ : ZMem} {r : Nat} {l : Launch} {p : Program} {e : Env} {s : State} {m : MethodId} {args : Array Value} {below : List Frame} {meth : Method} {c : Code} (C : zCX (zgr g nr) K p s m args meth c) (hx : zXN g hs nr kc fi s meth)
    {d : Drawn} {H H1 : Heap} {locs : List Loc} {sl : Array Slot} {stk : List Value} {μr : ZMem} (hd0 : s.drawn.sameBut d lw_cs) (hS : va_S (zA0 g hs) s.heap H locs) (hP : va_P (zgD g) vwCl (zws (zgr g nr) μr) H) (hμ : zcM μr = μ) (hL : zLR g sl (zKn K) ls) (hT : zSR g stk st)
    (hk : kc + 1 = kc2) (hn : kn1 ≤ kn2) (hz : H.size = hs + kc) (hq : zad g r = hs + kc) (z1 : H1.size = H.size + 1) (o1 : ∀ q, q < H.size → H1[q]? = H[q]?) (hc : va_at (zgD g) vwCl (zad g r, zpc g μr r) H1) (kk : zWN g K nF hs fi (nr ++ [r]) kc2 kn2 pc ls st μ) :
    W p l e (zKR K) (s.setDrawn d) m args below meth c H1 locs (kc + 1) kn1 (MQD lw_cs below (zQN g nF hs (zKR K).cells (zKa K) (zKm K)) args s (zKR K).cells (zKR K).slots (zA0 g hs)) (F0 m pc sl stk) := by
  subst hk
  refine W.widen (Nat.le_refl _) hn ?_
  exact kk l p e s m args below meth c (zCX_gr C (zAp_push C.2.2.2.2.2.2.2.2.1 hP (by rw [hq, hz])) (fun x h => by cases List.mem_singleton.mp h; have := hx.1; omega)) ⟨hx.1, hx.2.1, zlow_push hx.2.2.1 hq, hx.2.2.2⟩ d H1 locs sl stk μr hd0 (zS_push hS (by omega) o1) (zP_push hP o1 hc) hμ hL hT
/-- a new object -/
def zNc (own : String) (index ci : Nat) : Prop := ∃ (C : String) (T : u_T) (N : Nat), vwCl[ci]? = some (C, T, N) ∧ N = znf ci ∧ ci < 8 ∧ (∀ w ∈ u_ws C T N, w ∈ lw_good) ∧ Cond.classLink own index C ∈ lw_good ∧ Cond.instantiable C N ∈ lw_good ∧ Cond.initialized C ∈ lw_good ∧ (∀ k, k < N → parseFieldDescriptor (T k).2.2.1 = some (zft ci k))
theorem zft_def (ci k : Nat) (hk : k < znf ci) (h8 : ci < 8) : zft ci k = .int ∨ zft ci k = .boolean ∨ zft ci k = .long ∨ zft ci k = .double ∨ zref (zft ci k) = true := by
  have h : ∀ a : Fin 8, ∀ b : Fin 50, b.val < znf a.val → ((match zft a.val b.val with | .int => true | .boolean => true | .long => true | .double => true | t => zref t) = true) := by decide +kernel
  have h50 : k < 50 := by
    have : ∀ a : Fin 8, znf a.val ≤ 50 := by decide +kernel
    have := this ⟨ci, h8⟩
    simp only at this
    omega
  have := h ⟨ci, h8⟩ ⟨k, h50⟩ hk
  simp only at this
  revert this
  cases zft ci k <;> simp [zref]
theorem zborn {g : ZG} {μ : ZMem} {r ci k : Nat} (hz : zZr μ r) (h8 : ci < 8) (hk : k < znf ci) : defaultValue (zft ci k) = zsv g μ r k (zft ci k) := by
  obtain ⟨h1, h2, h3, h4⟩ := hz k
  rcases zft_def ci k hk h8 with h | h | h | h | h
  · rw [h]; show Value.int 0 = .int _; rw [h1]
  · rw [h]; show Value.int 0 = .int _; rw [h1]
  · rw [h]; show Value.long 0 = .long _; rw [h2]
  · rw [h]; show Value.double 0 = .double _; rw [h3]
  · have e : zsv g μ r k (zft ci k) = va_rf ((zR μ r k).map (zad g)) := by
      revert h
      cases zft ci k <;> intro h <;> first | rfl | (exact absurd h (by decide))
    rw [e, h4]
    revert h
    cases zft ci k <;> intro h <;> first | rfl | (exact absurd h (by decide))
theorem zy_new {g : ZG} {K : ZK} {nF : List Nat} {hs : Nat} {fi : Bool} {nr : List Nat} {kc kn : Nat} {pc : Nat} {ls : ZLS} {st : List ZV} {μ : ZMem} {index ci kc2 kn2 : Nat} (r : Nat) (hN : zNc (zKo K) index ci) (hkd : zkd g r = ci) (hq : zad g r = hs + kc) (hz0 : zZr μ r) (hk : kc + 1 = kc2) (hn : kn + znf ci ≤ kn2) (hR : kc2 ≤ (zKR K).cells ∧ kn2 ≤ (zKR K).slots) (hd : decode (zKc K) pc = .ok (.new index, 3)) (kk : zWN g K nF hs fi (nr ++ [r]) kc2 kn2 (pc + 3) ls (zr (some r) :: st) μ) : zWN g K nF hs fi nr kc kn pc ls st μ := by
  intro l p e s m args below meth c C hx d H locs sl stk μr hd0 hS hP hμ hL hT T hT0 X
  have hz := zsize hx.1 hx.2.2.1 hS hP hT0 X
  revert T
  obtain ⟨Cl, Tt, N, q1, q2, q3, q4, q5, q6, q7, q8⟩ := hN
  have hKn := C.2.2.2.2.2.2.2.1.1 ci _ q1
  have hts := dr_words C.2.2.2.2.1 d
  refine W.newcK (s := s.setDrawn d) C.1 C.2.1 C.2.2.2.1 (hts _ q5) (hts _ q6) (hts _ q7) rfl hd (by omega) (by omega) hKn.2.1 (h := zad g r) (by rw [hq, hz]) fun H1 kC hkC e1 z1 o1 => ?_
  have hz1 : zad g r = H.size := by rw [hq, hz]
  refine zgrow C hx hd0 hS hP hμ hL (st := zr (some r) :: st) ⟨rfl, hT⟩ hk (by rw [q2]; exact hn) hz hq (by rw [z1, hz1]) (fun q h => o1 q (by omega)) ?_ kk
  have hpc : zpc g μr r = .inr (ci, zfs g μr r ci) := by
    unfold zpc
    rw [hkd, if_pos q3]
  rw [hpc]
  have hK' := (va_K.moved (U := s.setDrawn d) (Vm.Alike.refl _) C.2.2.2.2.2.2.2.1).1 ci _ q1
  refine ⟨_, q1, (u_born (zft ci) hts q4 hK' hkC e1 q8).to (fun j hj => ?_)⟩
  subst hμ
  rw [zborn (g := g) (zZr_raw hz0) q3 (by rw [← q2]; exact hj)]
  unfold vp_V
  rw [List.getD_eq_getElem?_getD, zfs_get (by rw [← q2]; exact hj)]
  rfl
/-- a new row of numbers -/
theorem zy_newa {g : ZG} {K : ZK} {nF : List Nat} {hs : Nat} {fi : Bool} {nr : List Nat} {kc kn : Nat} {pc : Nat} {ls : ZLS} {st : List ZV} {μ : ZMem} {kc2 kn2 : Nat} {x : Int32} (r N kd : Nat) (atype : ArrayType) {ty : FieldType} (hty : newarray.typeOf atype = ty) (ht : (ztys g)[kd - 8]? = some (zcy g kd, ty)) (hcls : ∀ (s : State) (cA cB : ClassId), va_RA s cA ty → s.vm.findClass ("[" ++ ty.toString) = some cB → cB = cA) (hpay : ∀ (μr : ZMem) (cA : ClassId), zZr μr r → vp_cell cA (N, zpay g μr r kd) = arrV cA N (fun _ => defaultValue ty)) (hkd : zkd g r = kd ∧ 8 ≤ kd) (hln : zln g r = N) (hw : Cond.arrayClass ty ∈ lw_good)
    (hq : zad g r = hs + kc) (hz0 : zZr μ r) (hxN : x = nI N) (hN : N ≤ 100000) (hk : kc + 1 = kc2) (hn : kn + N ≤ kn2) (hR : kc2 ≤ (zKR K).cells ∧ kn2 ≤ (zKR K).slots) (hd : decode (zKc K) pc = .ok (.newarray atype, 2)) (kk : zWN g K nF hs fi (nr ++ [r]) kc2 kn2 (pc + 2) ls (zr (some r) :: st) μ) : zWN g K nF hs fi nr kc kn pc ls (zi x :: st) μ := by
  intro l p e s m args below meth c C hx d H locs sl stk μr hd0 hS hP hμ hL hT T hT0 X
  have hz := zsize hx.1 hx.2.2.1 hS hP hT0 X
  revert T
  obtain ⟨a1, stk1, rfl, h1, hT1⟩ := zSR_cons (g := g) hT
  cases h1
  subst hxN
  subst hty
  have hts := dr_words C.2.2.2.2.1 d
  have hcl : (nI N).toNatClampNeg = N := nI_clamp (by omega)
  have h0 : ¬ nI N < 0 := nI_pos (by omega)
  have hz1 : zad g r = H.size := by rw [hq, hz]
  have hb : N * componentBytes (newarray.typeOf atype) ≤ 536870912 := by
    have cb : componentBytes (newarray.typeOf atype) ≤ 8 := by cases atype <;> decide
    have := Nat.mul_le_mul hN cb
    omega
  refine va_newaK C.1 C.2.1 (hts _ hw) rfl hd rfl h0 hcl hb (by omega) (by omega) (h := zad g r) hz1.symm fun H1 cA e1 z1 o1 hAr hNm => ?_
  refine zgrow C hx hd0 hS hP hμ hL (st := zr (some r) :: st) ⟨rfl, hT1⟩ hk hn hz hq (by rw [z1, hz1]) (fun q h => o1 q (by omega)) ?_ kk
  have hRA := (C.2.2.2.2.2.2.2.1.2 _ _ ht).2
  have hcA : cA = zcy g kd := hcls s _ _ hRA hNm
  have hpc : zpc g μr r = .inl (zcy g kd, zln g r, zpay g μr r kd) := by
    unfold zpc
    rw [hkd.1, if_neg (by omega)]
  subst hμ
  rw [hpc, hln]
  show H1[zad g r]? = some (vp_cell _ _)
  rw [hpay μr _ (zZr_raw hz0), ← hcA]
  exact e1
theorem zy_newD {g : ZG} {K : ZK} {nF : List Nat} {hs : Nat} {fi : Bool} {nr : List Nat} {kc kn : Nat} {pc : Nat} {ls : ZLS} {st : List ZV} {μ : ZMem} {kc2 kn2 : Nat} {x : Int32} (r N : Nat) (hkd : zkd g r = 8) (hln : zln g r = N) (hq : zad g r = hs + kc) (hz0 : zZr μ r) (hxN : x = nI N) (hN : N ≤ 100000) (hk : kc + 1 = kc2) (hn : kn + N ≤ kn2) (hR : kc2 ≤ (zKR K).cells ∧ kn2 ≤ (zKR K).slots) (hd : decode (zKc K) pc = .ok (.newarray .double, 2)) (kk : zWN g K nF hs fi (nr ++ [r]) kc2 kn2 (pc + 2) ls (zr (some r) :: st) μ) : zWN g K nF hs fi nr kc kn pc ls (zi x :: st) μ :=
  zy_newa r N 8 .double rfl rfl (fun s cA cB h1 h2 => Option.some.inj (h2.symm.trans h1)) (fun μr cA hz => by
    show arrV cA N (fun j => .double (zD μr r j)) = _
    congr 1
    funext j
    rw [(hz j).2.2.1]
    rfl) ⟨hkd, by decide⟩ hln (zmem 161 (by decide +kernel) rfl) hq hz0 hxN hN hk hn hR hd kk
theorem zy_newI {g : ZG} {K : ZK} {nF : List Nat} {hs : Nat} {fi : Bool} {nr : List Nat} {kc kn : Nat} {pc : Nat} {ls : ZLS} {st : List ZV} {μ : ZMem} {kc2 kn2 : Nat} {x : Int32} (r N : Nat) (hkd : zkd g r = 9) (hln : zln g r = N) (hq : zad g r = hs + kc) (hz0 : zZr μ r) (hxN : x = nI N) (hN : N ≤ 100000) (hk : kc + 1 = kc2) (hn : kn + N ≤ kn2) (hR : kc2 ≤ (zKR K).cells ∧ kn2 ≤ (zKR K).slots) (hd : decode (zKc K) pc = .ok (.newarray .int, 2)) (kk : zWN g K nF hs fi (nr ++ [r]) kc2 kn2 (pc + 2) ls (zr (some r) :: st) μ) : zWN g K nF hs fi nr kc kn pc ls (zi x :: st) μ :=
  zy_newa r N 9 .int rfl rfl (fun s cA cB h1 h2 => Option.some.inj (h2.symm.trans h1)) (fun μr cA hz => by
    show arrV cA N (fun j => .int (zI μr r j)) = _
    congr 1
    funext j
    rw [(hz j).1]
    rfl) ⟨hkd, by decide⟩ hln (zmem 859 (by decide +kernel) rfl) hq hz0 hxN hN hk hn hR hd kk
theorem zy_newL {g : ZG} {K : ZK} {nF : List Nat} {hs : Nat} {fi : Bool} {nr : List Nat} {kc kn : Nat} {pc : Nat} {ls : ZLS} {st : List ZV} {μ : ZMem} {kc2 kn2 : Nat} {x : Int32} (r N : Nat) (hkd : zkd g r = 10) (hln : zln g r = N) (hq : zad g r = hs + kc) (hz0 : zZr μ r) (hxN : x = nI N) (hN : N ≤ 100000) (hk : kc + 1 = kc2) (hn : kn + N ≤ kn2) (hR : kc2 ≤ (zKR K).cells ∧ kn2 ≤ (zKR K).slots) (hd : decode (zKc K) pc = .ok (.newarray .long, 2)) (kk : zWN g K nF hs fi (nr ++ [r]) kc2 kn2 (pc + 2) ls (zr (some r) :: st) μ) : zWN g K nF hs fi nr kc kn pc ls (zi x :: st) μ :=
  zy_newa r N 10 .long rfl rfl (fun s cA cB h1 h2 => Option.some.inj (h2.symm.trans h1)) (fun μr cA hz => by
    show arrV cA N (fun j => .long (zL μr r j)) = _
    congr 1
    funext j
    rw [(hz j).2.1]
    rfl) ⟨hkd, by decide⟩ hln (zmem 222 (by decide +kernel) rfl) hq hz0 hxN hN hk hn hR hd kk
theorem zy_newZ {g : ZG} {K : ZK} {nF : List Nat} {hs : Nat} {fi : Bool} {nr : List Nat} {kc kn : Nat} {pc : Nat} {ls : ZLS} {st : List ZV} {μ : ZMem} {kc2 kn2 : Nat} {x : Int32} (r N : Nat) (hkd : zkd g r = 11) (hln : zln g r = N) (hq : zad g r = hs + kc) (hz0 : zZr μ r) (hxN : x = nI N) (hN : N ≤ 100000) (hk : kc + 1 = kc2) (hn : kn + N ≤ kn2) (hR : kc2 ≤ (zKR K).cells ∧ kn2 ≤ (zKR K).slots) (hd : decode (zKc K) pc = .ok (.newarray .boolean, 2)) (kk : zWN g K nF hs fi (nr ++ [r]) kc2 kn2 (pc + 2) ls (zr (some r) :: st) μ) : zWN g K nF hs fi nr kc kn pc ls (zi x :: st) μ :=
  zy_newa r N 11 .boolean rfl rfl (fun s cA cB h1 h2 => Option.some.inj (h2.symm.trans h1)) (fun μr cA hz => by
    show arrV cA N (fun j => .int (zI μr r j)) = _
    congr 1
    funext j
    rw [(hz j).1]
    rfl) ⟨hkd, by decide⟩ hln (zmem 301 (by decide +kernel) rfl) hq hz0 hxN hN hk hn hR hd kk
