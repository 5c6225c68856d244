/-! the abstract machine: locals and stack by value, doubles up to a NaN's bits, references by role -/
abbrev ZV : Type := Int32 ⊕ (Int64 ⊕ (UInt64 ⊕ Option Nat))
abbrev zi (x : Int32) : ZV := .inl x
abbrev zl (x : Int64) : ZV := .inr (.inl x)
abbrev zd (x : UInt64) : ZV := .inr (.inr (.inl x))
abbrev zr (x : Option Nat) : ZV := .inr (.inr (.inr x))
def zc2 : ZV → Bool
  | .inl _ => false
  | .inr (.inl _) => true
  | .inr (.inr (.inl _)) => true
  | .inr (.inr (.inr _)) => false
def zRv (g : ZG) (a : Value) : ZV → Prop
  | .inl x => a = .int x
  | .inr (.inl x) => a = .long x
  | .inr (.inr (.inl x)) => ∃ y, a = .double y ∧ zcn y = x
  | .inr (.inr (.inr x)) => a = va_rf (x.map (zad g))
def zSR (g : ZG) : List Value → List ZV → Prop
  | [], [] => True
  | a :: as, v :: vs => zRv g a v ∧ zSR g as vs
  | _, _ => False
theorem zSR_cons {g : ZG} {as : List Value} {v : ZV} {vs : List ZV} (h : zSR g as (v :: vs)) : ∃ a as', as = a :: as' ∧ zRv g a v ∧ zSR g as' vs := by
  cases as with
  | nil => exact h.elim
  | cons a as => exact ⟨a, as, rfl, h.1, h.2⟩
theorem zSR_nil {g : ZG} {as : List Value} (h : zSR g as []) : as = [] := by
  cases as with
  | nil => rfl
  | cons a as => exact h.elim
theorem zSR_app {g : ZG} : ∀ {as : List Value} {us vs : List ZV}, zSR g as (us ++ vs) → ∃ a1 a2, as = a1 ++ a2 ∧ zSR g a1 us ∧ zSR g a2 vs
  | as, [], vs, h => ⟨[], as, rfl, trivial, h⟩
  | [], u :: us, vs, h => h.elim
  | a :: as, u :: us, vs, h => by
    obtain ⟨a1, a2, e, h1, h2⟩ := zSR_app (us := us) h.2
    exact ⟨a :: a1, a2, by rw [e]; rfl, ⟨h.1, h1⟩, h2⟩
theorem zSR_cat {g : ZG} : ∀ {a1 a2 : List Value} {us vs : List ZV}, zSR g a1 us → zSR g a2 vs → zSR g (a1 ++ a2) (us ++ vs)
  | [], a2, [], vs, _, h2 => h2
  | [], _, _ :: _, _, h1, _ => h1.elim
  | _ :: _, _, [], _, h1, _ => h1.elim
  | a :: a1, a2, u :: us, vs, h1, h2 => ⟨h1.1, zSR_cat h1.2 h2⟩
theorem zSR_rev {g : ZG} : ∀ {as : List Value} {vs : List ZV}, zSR g as vs → zSR g as.reverse vs.reverse
  | [], [], _ => trivial
  | [], _ :: _, h => h.elim
  | _ :: _, [], h => h.elim
  | a :: as, v :: vs, h => by
    rw [List.reverse_cons, List.reverse_cons]
    exact zSR_cat (zSR_rev h.2) ⟨h.1, trivial⟩
theorem zSR_len {g : ZG} : ∀ {as : List Value} {vs : List ZV}, zSR g as vs → as.length = vs.length
  | [], [], _ => rfl
  | [], _ :: _, h => h.elim
  | _ :: _, [], h => h.elim
  | a :: as, v :: vs, h => by rw [List.length_cons, List.length_cons, zSR_len h.2]
theorem zRv_cat {g : ZG} {a : Value} : ∀ {v : ZV}, zRv g a v → (a.category = 2 ↔ zc2 v = true)
  | .inl x, h => by cases h; exact ⟨fun q => absurd (show (1 : Nat) = 2 from q) (by decide), fun q => absurd (show false = true from q) (by decide)⟩
  | .inr (.inl x), h => by cases h; exact ⟨fun _ => rfl, fun _ => rfl⟩
  | .inr (.inr (.inl x)), h => by obtain ⟨y, rfl, -⟩ := h; exact ⟨fun _ => rfl, fun _ => rfl⟩
  | .inr (.inr (.inr x)), h => by
    have e : a = va_rf (x.map (zad g)) := h
    subst e
    cases x <;> exact ⟨fun q => absurd (show (1 : Nat) = 2 from q) (by decide), fun q => absurd (show false = true from q) (by decide)⟩
theorem zRv_cat1 {g : ZG} {a : Value} : ∀ {v : ZV}, zRv g a v → zc2 v = false → a.category = 1
  | .inl x, h, _ => by cases h; rfl
  | .inr (.inl x), _, q => absurd q (by simp [zc2])
  | .inr (.inr (.inl x)), _, q => absurd q (by simp [zc2])
  | .inr (.inr (.inr x)), h, _ => by
    have e : a = va_rf (x.map (zad g)) := h
    subst e
    cases x <;> rfl
abbrev ZLS : Type := Nat → Option ZV
def zLR (g : ZG) (sl : Array Slot) (nL : Nat) (ls : ZLS) : Prop := ∃ lv : List (Nat × Value), lv_has sl nL lv ∧ ∀ (j : Nat) (v : ZV), ls j = some v → ∃ a, (j, a) ∈ lv ∧ zRv g a v
/-- a place of one word, or of two, is written -/
def zst1 (ls : ZLS) (i : Nat) (v : ZV) : ZLS := fun j => if j = i then some v else if j + 1 = i then (match ls j with | some w => (if zc2 w = true then none else some w) | none => none) else ls j
def zst2 (ls : ZLS) (i : Nat) (v : ZV) : ZLS := fun j => if j = i then some v else if j = i + 1 then none else if j + 1 = i then (match ls j with | some w => (if zc2 w = true then none else some w) | none => none) else ls j
def zarg : Nat → List ZV → ZLS
  | _, [] => fun _ => none
  | k, v :: vs => fun j => if j = k then some v else zarg (if zc2 v = true then k + 2 else k + 1) vs j
theorem zarg_in {g : ZG} : ∀ {as : List Value} {vs : List ZV} (k : Nat), zSR g as vs → ∀ (j : Nat) (v : ZV), zarg k vs j = some v → ∃ a, (j, a) ∈ lv_args k as ∧ zRv g a v
  | [], [], _, _, j, v, q => by cases q
  | [], _ :: _, _, h, _, _, _ => h.elim
  | _ :: _, [], _, h, _, _, _ => h.elim
  | a :: as, u :: us, k, h, j, v, q => by
    unfold zarg at q
    unfold lv_args
    by_cases hj : j = k
    · rw [if_pos hj] at q
      cases q
      subst hj
      exact ⟨a, List.mem_cons_self, h.1⟩
    · rw [if_neg hj] at q
      have e : (if zc2 u = true then k + 2 else k + 1) = (if a.category = 2 then k + 2 else k + 1) := by
        by_cases hc : a.category = 2
        · rw [if_pos hc, if_pos ((zRv_cat h.1).mp hc)]
        · rw [if_neg hc, if_neg (fun q => hc ((zRv_cat h.1).mpr q))]
      rw [e] at q
      obtain ⟨b, hb, hr⟩ := zarg_in _ h.2 j v q
      exact ⟨b, List.mem_cons_of_mem _ hb, hr⟩
theorem zLR_get {g : ZG} {sl : Array Slot} {nL : Nat} {ls : ZLS} (h : zLR g sl nL ls) {i : Nat} {v : ZV} (hv : ls i = some v) : ∃ a, sl[i]? = some (.val a) ∧ zRv g a v := by
  obtain ⟨lv, h1, h2⟩ := h
  obtain ⟨a, ha, hr⟩ := h2 i v hv
  exact ⟨a, h1.2.2 _ ha, hr⟩
theorem zLR_sub {g : ZG} {sl : Array Slot} {nL : Nat} {ls ls' : ZLS} (h : zLR g sl nL ls) (hs : ∀ j v, ls' j = some v → ls j = some v) : zLR g sl nL ls' := by
  obtain ⟨lv, h1, h2⟩ := h
  exact ⟨lv, h1, fun j v q => h2 j v (hs j v q)⟩
theorem zLR_st1 {g : ZG} {sl : Array Slot} {nL : Nat} {ls : ZLS} {lv : List (Nat × Value)} (h2 : ∀ (j : Nat) (v : ZV), ls j = some v → ∃ a, (j, a) ∈ lv ∧ zRv g a v) {i : Nat} {a : Value} {v : ZV} (ha : zRv g a v)
    (h : lv_has sl nL ((i, a) :: lv.filter (fun q => !(q.1 == i) && !(q.1 + 1 == i && q.2.category == 2)))) : zLR g sl nL (zst1 ls i v) := by
  refine ⟨_, h, fun j w q => ?_⟩
  unfold zst1 at q
  by_cases hj : j = i
  · rw [if_pos hj] at q
    cases q
    subst hj
    exact ⟨a, List.mem_cons_self, ha⟩
  · rw [if_neg hj] at q
    by_cases hj1 : j + 1 = i
    · rw [if_pos hj1] at q
      cases hls : ls j with
      | none => rw [hls] at q; cases q
      | some w' =>
        rw [hls] at q
        by_cases hc : zc2 w' = true
        · simp [hc] at q
        · simp [hc] at q
          subst q
          obtain ⟨b, hb, hr⟩ := h2 j w' hls
          refine ⟨b, List.mem_cons_of_mem _ (List.mem_filter.mpr ⟨hb, ?_⟩), hr⟩
          have hb2 : ¬ b.category = 2 := fun z => hc ((zRv_cat hr).mp z)
          simp [hj, hb2]
    · rw [if_neg hj1] at q
      obtain ⟨b, hb, hr⟩ := h2 j w q
      refine ⟨b, List.mem_cons_of_mem _ (List.mem_filter.mpr ⟨hb, ?_⟩), hr⟩
      simp [hj, hj1]
theorem zLR_st2 {g : ZG} {sl : Array Slot} {nL : Nat} {ls : ZLS} {lv : List (Nat × Value)} (h2 : ∀ (j : Nat) (v : ZV), ls j = some v → ∃ a, (j, a) ∈ lv ∧ zRv g a v) {i : Nat} {a : Value} {v : ZV} (ha : zRv g a v)
    (h : lv_has sl nL ((i, a) :: lv.filter (fun q => !(q.1 == i) && (!(q.1 == i + 1) && !(q.1 + 1 == i && q.2.category == 2))))) : zLR g sl nL (zst2 ls i v) := by
  refine ⟨_, h, fun j w q => ?_⟩
  unfold zst2 at q
  by_cases hj : j = i
  · rw [if_pos hj] at q
    cases q
    subst hj
    exact ⟨a, List.mem_cons_self, ha⟩
  · rw [if_neg hj] at q
    by_cases hj2 : j = i + 1
    · rw [if_pos hj2] at q
      cases q
    · rw [if_neg hj2] at q
      by_cases hj1 : j + 1 = i
      · rw [if_pos hj1] at q
        cases hls : ls j with
        | none => rw [hls] at q; cases q
        | some w' =>
          rw [hls] at q
          by_cases hc : zc2 w' = true
          · simp [hc] at q
          · simp [hc] at q
            subst q
            obtain ⟨b, hb, hr⟩ := h2 j w' hls
            refine ⟨b, List.mem_cons_of_mem _ (List.mem_filter.mpr ⟨hb, ?_⟩), hr⟩
            have hb2 : ¬ b.category = 2 := fun z => hc ((zRv_cat hr).mp z)
            simp [hj, hj2, hb2]
      · rw [if_neg hj1] at q
        obtain ⟨b, hb, hr⟩ := h2 j w q
        refine ⟨b, List.mem_cons_of_mem _ (List.mem_filter.mpr ⟨hb, ?_⟩), hr⟩
        simp [hj, hj1, hj2]
def lw_good : List Cond := lw_tbl.filter goodWord
def znest : List (String × Nat × MethodName × String) := [(RX5, 76, yX6_saw, RX6), (RX5, 64, yX6_sizeOf, RX6), (RX3, 26, yX6_saw, RX6), (RX1, 61, yX6_sizeOf, RX6), (RX0, 70, yX6_sizeOf, RX6)]
def zNst (U : State) : Prop := ∀ q ∈ znest, va_Nw (.methodLinkNest q.1 q.2.1 q.2.2.1 q.2.2.2) U
def zZs (g : ZG) (U : State) (H : Heap) : Prop := va_Z "java/lang/Math" "negativeZeroDoubleBits" "J" (.long (-9223372036854775808)) (zRg g) U H
/-- what a method's walk is about: its class, code, locals, type, room, and what is to be answered and left -/
abbrev ZK : Type := String × ByteArray × Nat × Option FieldType × Room × Option ZV × ZMem
abbrev zKo (K : ZK) : String := K.1
abbrev zKc (K : ZK) : ByteArray := K.2.1
abbrev zKn (K : ZK) : Nat := K.2.2.1
abbrev zKr (K : ZK) : Option FieldType := K.2.2.2.1
abbrev zKR (K : ZK) : Room := K.2.2.2.2.1
abbrev zKa (K : ZK) : Option ZV := K.2.2.2.2.2.1
abbrev zKm (K : ZK) : ZMem := K.2.2.2.2.2.2
def zRo (g : ZG) : Option Value → Option ZV → Prop
  | none, none => True
  | some a, some v => zRv g a v
  | _, _ => False
def zQC (g : ZG) (res : Option ZV) (μ' : ZMem) : Array Value → State → Outcome → State → Prop := fun _ st oc t => (∃ (w : Option Value) (μr : ZMem), oc = .returned w ∧ zRo g w res ∧ zcM μr = μ' ∧ va_P (zgD g) vwCl (zws g μr) t.heap) ∧ va_F (zRg g) st t
def zCX (g : ZG) (K : ZK) (p : Program) (s : State) (m : MethodId) (args : Array Value) (meth : Method) (c : Code) : Prop :=
  p.tables.exec = Jvm.exec ∧ c.code = zKc K ∧ c.maxLocals = zKn K ∧ s.vm.findClass (zKo K) = some m.cls ∧ (∀ w ∈ lw_good, w.before args s = true) ∧ meth.sig.returnType = zKr K ∧ meth.locks = false ∧ va_K (zgD g) vwCl (ztys g) s ∧ zAp g ∧ zNst s ∧ zZs g s s.heap
def zWA (g : ZG) (K : ZK) (pc : Nat) (ls : ZLS) (st : List ZV) (μ : ZMem) : Prop :=
  ∀ (l : Launch) (p : Program) (e : Env) (s : State) (m : MethodId) (args : Array Value) (below : List Frame) (meth : Method) (c : Code), zCX g K p s m args meth c →
  ∀ (d : Drawn) (H : Heap) (locs : List Loc) (sl : Array Slot) (stk : List Value) (μr : ZMem), s.drawn.sameBut d lw_cs → va_S (zRg g) s.heap H locs → va_P (zgD g) vwCl (zws g μr) H → zcM μr = μ → zLR g sl (zKn K) ls → zSR g stk st →
  W p l e (zKR K) (s.setDrawn d) m args below meth c H locs 0 0 (MQD lw_cs below (zQC g (zKa K) (zKm K)) args s 0 0 (zRg g)) (F0 m pc sl stk)
/-- fewer locals -/
theorem zWA_sub {g : ZG} {K : ZK} {pc : Nat} {ls ls' : ZLS} {st : List ZV} {μ : ZMem} (hs : ∀ j v, ls' j = some v → ls j = some v) (k : zWA g K pc ls' st μ) : zWA g K pc ls st μ :=
  fun l p e s m args below meth c C d H locs sl stk μr hd hS hP hμ hL hT => k l p e s m args below meth c C d H locs sl stk μr hd hS hP hμ (zLR_sub hL hs) hT
/-- locals as a list, and that they are there -/
def zls : List (Nat × ZV) → ZLS
  | [] => fun _ => none
  | q :: t => fun j => if j = q.1 then some q.2 else zls t j
def zhas (ls : ZLS) : List (Nat × ZV) → Prop
  | [] => True
  | q :: t => ls q.1 = some q.2 ∧ zhas ls t
theorem zhas_sub {ls : ZLS} : ∀ {t : List (Nat × ZV)}, zhas ls t → ∀ j v, zls t j = some v → ls j = some v
  | [], _, j, v, q => by cases q
  | x :: t, h, j, v, q => by
    unfold zls at q
    by_cases hj : j = x.1
    · rw [if_pos hj] at q
      cases q
      rw [hj]
      exact h.1
    · rw [if_neg hj] at q
      exact zhas_sub h.2 j v q
theorem zWA_to {g : ZG} {K : ZK} {pc : Nat} {ls : ZLS} {t : List (Nat × ZV)} {st : List ZV} {μ : ZMem} (k : zWA g K pc (zls t) st μ) (h : zhas ls t) : zWA g K pc ls st μ := zWA_sub (zhas_sub h) k
/-- a method's contract -/
def zCab (g : ZG) (own : String) (y : MethodName) (cc : ByteArray) (nL : Nat) (ret : Option FieldType) (R : Room) (As : List ZV) (μ : ZMem) (res : Option ZV) (μ' : ZMem) : Prop :=
  zAp g → ∀ (l : Launch) (as : List Value) (μr : ZMem), zSR g as As → zcM μr = μ → MetD lw_cs l y (.code y cc nL ret :: lw_good) R (va_Pc as (fun U => va_P (zgD g) vwCl (zws g μr) U.heap ∧ va_K (zgD g) vwCl (ztys g) U ∧ zNst U ∧ zZs g U U.heap)) (zQC g res μ') 0 0 (zRg g)
theorem zMetD {l : Launch} {y : MethodName} {ws ws' : List Cond} {rm : Room} {Pc : Array Value → State → Prop} {Qc : Array Value → State → Outcome → State → Prop} {mc ms : Nat} {free : Addr → Prop} {cc : ByteArray} {maxL : Nat} {ret : Option FieldType}
    (hy : plainFor y = true) (hw : ws = Cond.code y cc maxL ret :: ws')
    (body : ∀ p e s m args below meth c s₁, BodyLoose p l y (headSpec ws rm) cc maxL ret e s m args below meth c s₁ → c.maxLocals = maxL → Pc args s → s.drawn.sameBut s.drawn lw_cs →
      W p l e (headSpec ws rm).room (s.setDrawn s.drawn) m args below meth c s.heap [] 0 0 (MQD lw_cs below Qc args s mc ms free) (entryFrame m args maxL)) : MetD lw_cs l y ws rm Pc Qc mc ms free := by
  refine MetFree.of_bodySF (code := cc) (maxLocals := maxL) (ret := ret) hy ?_ ?_
  · intro args s m h hn
    obtain ⟨meth, c, h1, h2, h3, h4, h5, h6, -, -⟩ := Cond.code_spec hn (atoms_spec (ws := ws) h _ (by rw [hw]; exact List.mem_cons_self))
    exact ⟨meth, c, h1, h2, h3, h4, h5, h6⟩
  · intro p e s m args below meth c s₁ B hml hP _
    have hh0 : s₁.heap = s.heap := by rw [B.state]; rfl
    have X0 : Stand p l e (headSpec ws rm).room (s.setDrawn s.drawn) m args below meth c s₁ [] 0 0 := Stand.of_body B
    obtain ⟨t, a1, d, hd, oc, b1, b2, b3, b4⟩ := body p e s m args below meth c s₁ B hml hP (Drawn.sameBut.refl _ _) s₁ hh0 X0
    exact ⟨t, oc, a1, b1, b2, d, hd, b3, b4⟩
theorem zCab_of {g : ZG} {own : String} {y : MethodName} {cc : ByteArray} {nL : Nat} {ret : Option FieldType} {R : Room} {As : List ZV} {μ : ZMem} {res : Option ZV} {μ' : ZMem} (hy : plainFor y = true) (ho : own = y.cls) (hn : ∀ as, zSR g as As → (lg_sl as).length ≤ nL)
    (h : zWA g (own, cc, nL, ret, R, res, μ') 0 (zarg 0 As) [] μ) : zCab g own y cc nL ret R As μ res μ' := by
  intro hA l as μr hSR hμ
  refine zMetD (cc := cc) (maxL := nL) (ret := ret) hy rfl ?_
  intro p e s m args below meth c s₁ B hml hv hd0
  obtain ⟨rfl, hP, hK, hN, hZ⟩ := hv
  have hts := atoms_spec (ws := .code y cc nL ret :: lw_good) B.pre
  have hown : s.vm.findClass own = some m.cls := by rw [ho]; exact findClass_of_methodNamed B.named
  have hl := lv_entry as (n := nL) (hn as hSR)
  rw [lg_entry_eq]
  exact h l p e s m _ below meth c ⟨B.exec, B.bytes, hml, hown, fun w hw => hts w (List.mem_cons_of_mem _ hw), B.returns, B.notSynchronized, hK, hA, hN, hZ⟩ s.drawn s.heap [] _ [] μr hd0 va_S.rf hP hμ ⟨_, hl, zarg_in 0 hSR⟩ trivial

theorem zx_iadd {g : ZG} {K : ZK} {pc : Nat} {ls : ZLS} {st : List ZV} {μ : ZMem} {x y : Int32} (hd : decode (zKc K) pc = .ok (.iadd, 1))  (k : zWA g K (pc + 1) ls (zi (x + y) :: st) μ) : zWA g K (pc) ls (zi y :: zi x :: st) μ := by
  intro l p e s m args below meth c C d H locs sl stk μr hd0 hS hP hμ hL hT
  obtain ⟨a1, stkh1, rfl, h1, hT1⟩ := zSR_cons hT
  cases h1
  obtain ⟨a2, stkh2, rfl, h2, hT2⟩ := zSR_cons hT1
  cases h2
  exact lv_iadd C.1 C.2.1 hd  (k l p e s m args below meth c C d H locs sl _ μr hd0 hS hP hμ hL ⟨rfl, hT2⟩)
theorem zx_isub {g : ZG} {K : ZK} {pc : Nat} {ls : ZLS} {st : List ZV} {μ : ZMem} {x y : Int32} (hd : decode (zKc K) pc = .ok (.isub, 1))  (k : zWA g K (pc + 1) ls (zi (x - y) :: st) μ) : zWA g K (pc) ls (zi y :: zi x :: st) μ := by
  intro l p e s m args below meth c C d H locs sl stk μr hd0 hS hP hμ hL hT
  obtain ⟨a1, stkh1, rfl, h1, hT1⟩ := zSR_cons hT
  cases h1
  obtain ⟨a2, stkh2, rfl, h2, hT2⟩ := zSR_cons hT1
  cases h2
  exact lv_isub C.1 C.2.1 hd  (k l p e s m args below meth c C d H locs sl _ μr hd0 hS hP hμ hL ⟨rfl, hT2⟩)
theorem zx_imul {g : ZG} {K : ZK} {pc : Nat} {ls : ZLS} {st : List ZV} {μ : ZMem} {x y : Int32} (hd : decode (zKc K) pc = .ok (.imul, 1))  (k : zWA g K (pc + 1) ls (zi (x * y) :: st) μ) : zWA g K (pc) ls (zi y :: zi x :: st) μ := by
  intro l p e s m args below meth c C d H locs sl stk μr hd0 hS hP hμ hL hT
  obtain ⟨a1, stkh1, rfl, h1, hT1⟩ := zSR_cons hT
  cases h1
  obtain ⟨a2, stkh2, rfl, h2, hT2⟩ := zSR_cons hT1
  cases h2
  exact lv_imul C.1 C.2.1 hd  (k l p e s m args below meth c C d H locs sl _ μr hd0 hS hP hμ hL ⟨rfl, hT2⟩)
theorem zx_iand {g : ZG} {K : ZK} {pc : Nat} {ls : ZLS} {st : List ZV} {μ : ZMem} {x y : Int32} (hd : decode (zKc K) pc = .ok (.iand, 1))  (k : zWA g K (pc + 1) ls (zi (x &&& y) :: st) μ) : zWA g K (pc) ls (zi y :: zi x :: st) μ := by
  intro l p e s m args below meth c C d H locs sl stk μr hd0 hS hP hμ hL hT
  obtain ⟨a1, stkh1, rfl, h1, hT1⟩ := zSR_cons hT
  cases h1
  obtain ⟨a2, stkh2, rfl, h2, hT2⟩ := zSR_cons hT1
  cases h2
  exact lv_iand C.1 C.2.1 hd  (k l p e s m args below meth c C d H locs sl _ μr hd0 hS hP hμ hL ⟨rfl, hT2⟩)
theorem zx_idiv {g : ZG} {K : ZK} {pc : Nat} {ls : ZLS} {st : List ZV} {μ : ZMem} {x y : Int32} (hd : decode (zKc K) pc = .ok (.idiv, 1)) (hne : ¬ y = 0) (k : zWA g K (pc + 1) ls (zi (x / y) :: st) μ) : zWA g K (pc) ls (zi y :: zi x :: st) μ := by
  intro l p e s m args below meth c C d H locs sl stk μr hd0 hS hP hμ hL hT
  obtain ⟨a1, stkh1, rfl, h1, hT1⟩ := zSR_cons hT
  cases h1
  obtain ⟨a2, stkh2, rfl, h2, hT2⟩ := zSR_cons hT1
  cases h2
  exact lv_idiv C.1 C.2.1 hd hne (k l p e s m args below meth c C d H locs sl _ μr hd0 hS hP hμ hL ⟨rfl, hT2⟩)
theorem zx_irem {g : ZG} {K : ZK} {pc : Nat} {ls : ZLS} {st : List ZV} {μ : ZMem} {x y : Int32} (hd : decode (zKc K) pc = .ok (.irem, 1)) (hne : ¬ y = 0) (k : zWA g K (pc + 1) ls (zi (x - x / y * y) :: st) μ) : zWA g K (pc) ls (zi y :: zi x :: st) μ := by
  intro l p e s m args below meth c C d H locs sl stk μr hd0 hS hP hμ hL hT
  obtain ⟨a1, stkh1, rfl, h1, hT1⟩ := zSR_cons hT
  cases h1
  obtain ⟨a2, stkh2, rfl, h2, hT2⟩ := zSR_cons hT1
  cases h2
  exact lv_irem C.1 C.2.1 hd hne (k l p e s m args below meth c C d H locs sl _ μr hd0 hS hP hμ hL ⟨rfl, hT2⟩)
theorem zx_ladd {g : ZG} {K : ZK} {pc : Nat} {ls : ZLS} {st : List ZV} {μ : ZMem} {x y : Int64} (hd : decode (zKc K) pc = .ok (.ladd, 1))  (k : zWA g K (pc + 1) ls (zl (x + y) :: st) μ) : zWA g K (pc) ls (zl y :: zl x :: st) μ := by
  intro l p e s m args below meth c C d H locs sl stk μr hd0 hS hP hμ hL hT
  obtain ⟨a1, stkh1, rfl, h1, hT1⟩ := zSR_cons hT
  cases h1
  obtain ⟨a2, stkh2, rfl, h2, hT2⟩ := zSR_cons hT1
  cases h2
  exact lv_ladd C.1 C.2.1 hd  (k l p e s m args below meth c C d H locs sl _ μr hd0 hS hP hμ hL ⟨rfl, hT2⟩)
theorem zx_lsub {g : ZG} {K : ZK} {pc : Nat} {ls : ZLS} {st : List ZV} {μ : ZMem} {x y : Int64} (hd : decode (zKc K) pc = .ok (.lsub, 1))  (k : zWA g K (pc + 1) ls (zl (x - y) :: st) μ) : zWA g K (pc) ls (zl y :: zl x :: st) μ := by
  intro l p e s m args below meth c C d H locs sl stk μr hd0 hS hP hμ hL hT
  obtain ⟨a1, stkh1, rfl, h1, hT1⟩ := zSR_cons hT
  cases h1
  obtain ⟨a2, stkh2, rfl, h2, hT2⟩ := zSR_cons hT1
  cases h2
  exact lv_lsub C.1 C.2.1 hd  (k l p e s m args below meth c C d H locs sl _ μr hd0 hS hP hμ hL ⟨rfl, hT2⟩)
theorem zx_lmul {g : ZG} {K : ZK} {pc : Nat} {ls : ZLS} {st : List ZV} {μ : ZMem} {x y : Int64} (hd : decode (zKc K) pc = .ok (.lmul, 1))  (k : zWA g K (pc + 1) ls (zl (x * y) :: st) μ) : zWA g K (pc) ls (zl y :: zl x :: st) μ := by
  intro l p e s m args below meth c C d H locs sl stk μr hd0 hS hP hμ hL hT
  obtain ⟨a1, stkh1, rfl, h1, hT1⟩ := zSR_cons hT
  cases h1
  obtain ⟨a2, stkh2, rfl, h2, hT2⟩ := zSR_cons hT1
  cases h2
  exact lv_lmul C.1 C.2.1 hd  (k l p e s m args below meth c C d H locs sl _ μr hd0 hS hP hμ hL ⟨rfl, hT2⟩)
theorem zx_land {g : ZG} {K : ZK} {pc : Nat} {ls : ZLS} {st : List ZV} {μ : ZMem} {x y : Int64} (hd : decode (zKc K) pc = .ok (.land, 1))  (k : zWA g K (pc + 1) ls (zl (x &&& y) :: st) μ) : zWA g K (pc) ls (zl y :: zl x :: st) μ := by
  intro l p e s m args below meth c C d H locs sl stk μr hd0 hS hP hμ hL hT
  obtain ⟨a1, stkh1, rfl, h1, hT1⟩ := zSR_cons hT
  cases h1
  obtain ⟨a2, stkh2, rfl, h2, hT2⟩ := zSR_cons hT1
  cases h2
  exact lv_land C.1 C.2.1 hd  (k l p e s m args below meth c C d H locs sl _ μr hd0 hS hP hμ hL ⟨rfl, hT2⟩)
theorem zx_ldiv {g : ZG} {K : ZK} {pc : Nat} {ls : ZLS} {st : List ZV} {μ : ZMem} {x y : Int64} (hd : decode (zKc K) pc = .ok (.ldiv, 1)) (hne : ¬ y = 0) (k : zWA g K (pc + 1) ls (zl (x / y) :: st) μ) : zWA g K (pc) ls (zl y :: zl x :: st) μ := by
  intro l p e s m args below meth c C d H locs sl stk μr hd0 hS hP hμ hL hT
  obtain ⟨a1, stkh1, rfl, h1, hT1⟩ := zSR_cons hT
  cases h1
  obtain ⟨a2, stkh2, rfl, h2, hT2⟩ := zSR_cons hT1
  cases h2
  exact lv_ldiv C.1 C.2.1 hd hne (k l p e s m args below meth c C d H locs sl _ μr hd0 hS hP hμ hL ⟨rfl, hT2⟩)
theorem zx_lrem {g : ZG} {K : ZK} {pc : Nat} {ls : ZLS} {st : List ZV} {μ : ZMem} {x y : Int64} (hd : decode (zKc K) pc = .ok (.lrem, 1)) (hne : ¬ y = 0) (k : zWA g K (pc + 1) ls (zl (x - x / y * y) :: st) μ) : zWA g K (pc) ls (zl y :: zl x :: st) μ := by
  intro l p e s m args below meth c C d H locs sl stk μr hd0 hS hP hμ hL hT
  obtain ⟨a1, stkh1, rfl, h1, hT1⟩ := zSR_cons hT
  cases h1
  obtain ⟨a2, stkh2, rfl, h2, hT2⟩ := zSR_cons hT1
  cases h2
  exact lv_lrem C.1 C.2.1 hd hne (k l p e s m args below meth c C d H locs sl _ μr hd0 hS hP hμ hL ⟨rfl, hT2⟩)
theorem zx_lneg {g : ZG} {K : ZK} {pc : Nat} {ls : ZLS} {st : List ZV} {μ : ZMem} {x : Int64} (hd : decode (zKc K) pc = .ok (.lneg, 1)) (k : zWA g K (pc + 1) ls (zl (-x) :: st) μ) : zWA g K (pc) ls (zl x :: st) μ := by
  intro l p e s m args below meth c C d H locs sl stk μr hd0 hS hP hμ hL hT
  obtain ⟨a1, stkh1, rfl, h1, hT1⟩ := zSR_cons hT
  cases h1
  exact lv_lneg C.1 C.2.1 hd (k l p e s m args below meth c C d H locs sl _ μr hd0 hS hP hμ hL ⟨rfl, hT1⟩)
theorem zx_lshr {g : ZG} {K : ZK} {pc : Nat} {ls : ZLS} {st : List ZV} {μ : ZMem} {x : Int64} {y : Int32} (hd : decode (zKc K) pc = .ok (.lshr, 1)) (k : zWA g K (pc + 1) ls (zl (x >>> (y.toInt64 &&& 63)) :: st) μ) : zWA g K (pc) ls (zi y :: zl x :: st) μ := by
  intro l p e s m args below meth c C d H locs sl stk μr hd0 hS hP hμ hL hT
  obtain ⟨a1, stkh1, rfl, h1, hT1⟩ := zSR_cons hT
  cases h1
  obtain ⟨a2, stkh2, rfl, h2, hT2⟩ := zSR_cons hT1
  cases h2
  exact lv_lshr C.1 C.2.1 hd rfl (k l p e s m args below meth c C d H locs sl _ μr hd0 hS hP hμ hL ⟨rfl, hT2⟩)
theorem zx_i2l {g : ZG} {K : ZK} {pc : Nat} {ls : ZLS} {st : List ZV} {μ : ZMem} {x : Int32} (hd : decode (zKc K) pc = .ok (.i2l, 1)) (k : zWA g K (pc + 1) ls (zl x.toInt64 :: st) μ) : zWA g K (pc) ls (zi x :: st) μ := by
  intro l p e s m args below meth c C d H locs sl stk μr hd0 hS hP hμ hL hT
  obtain ⟨a1, stkh1, rfl, h1, hT1⟩ := zSR_cons hT
  cases h1
  exact lv_i2l C.1 C.2.1 hd rfl (k l p e s m args below meth c C d H locs sl _ μr hd0 hS hP hμ hL ⟨rfl, hT1⟩)
theorem zx_l2i {g : ZG} {K : ZK} {pc : Nat} {ls : ZLS} {st : List ZV} {μ : ZMem} {x : Int64} (hd : decode (zKc K) pc = .ok (.l2i, 1)) (k : zWA g K (pc + 1) ls (zi x.toInt32 :: st) μ) : zWA g K (pc) ls (zl x :: st) μ := by
  intro l p e s m args below meth c C d H locs sl stk μr hd0 hS hP hμ hL hT
  obtain ⟨a1, stkh1, rfl, h1, hT1⟩ := zSR_cons hT
  cases h1
  exact lv_l2i C.1 C.2.1 hd rfl (k l p e s m args below meth c C d H locs sl _ μr hd0 hS hP hμ hL ⟨rfl, hT1⟩)
theorem zl2d_cn (x : Int64) : zcn (FP.l2d x) = FP.l2d x := zcn_id (FP.Core.l2d_fin x).ne_nan
theorem zi2d_cn (x : Int32) : zcn (FP.i2d x) = FP.i2d x := by
  have e : FP.i2d x = FP.l2d x.toInt64 := FP.Core.i2d_l2d x
  rw [e]
  exact zl2d_cn _
theorem zx_i2d {g : ZG} {K : ZK} {pc : Nat} {ls : ZLS} {st : List ZV} {μ : ZMem} {x : Int32} (hd : decode (zKc K) pc = .ok (.i2d, 1)) (k : zWA g K (pc + 1) ls (zd (FP.i2d x) :: st) μ) : zWA g K (pc) ls (zi x :: st) μ := by
  intro l p e s m args below meth c C d H locs sl stk μr hd0 hS hP hμ hL hT
  obtain ⟨a1, stkh1, rfl, h1, hT1⟩ := zSR_cons hT
  cases h1
  exact lv_i2d C.1 C.2.1 hd (k l p e s m args below meth c C d H locs sl _ μr hd0 hS hP hμ hL ⟨⟨_, rfl, zi2d_cn x⟩, hT1⟩)
theorem zx_l2d {g : ZG} {K : ZK} {pc : Nat} {ls : ZLS} {st : List ZV} {μ : ZMem} {x : Int64} (hd : decode (zKc K) pc = .ok (.l2d, 1)) (k : zWA g K (pc + 1) ls (zd (FP.l2d x) :: st) μ) : zWA g K (pc) ls (zl x :: st) μ := by
  intro l p e s m args below meth c C d H locs sl stk μr hd0 hS hP hμ hL hT
  obtain ⟨a1, stkh1, rfl, h1, hT1⟩ := zSR_cons hT
  cases h1
  exact lv_l2d C.1 C.2.1 hd (k l p e s m args below meth c C d H locs sl _ μr hd0 hS hP hμ hL ⟨⟨_, rfl, zl2d_cn x⟩, hT1⟩)
theorem zx_d2l {g : ZG} {K : ZK} {pc : Nat} {ls : ZLS} {st : List ZV} {μ : ZMem} {x : UInt64} (hd : decode (zKc K) pc = .ok (.d2l, 1)) (k : zWA g K (pc + 1) ls (zl (FP.d2l x) :: st) μ) : zWA g K (pc) ls (zd x :: st) μ := by
  intro l p e s m args below meth c C d H locs sl stk μr hd0 hS hP hμ hL hT
  obtain ⟨a_y, stkh1, rfl, h1, hT1⟩ := zSR_cons hT
  obtain ⟨y, rfl, rfl⟩ := h1
  exact lv_d2l C.1 C.2.1 hd (k l p e s m args below meth c C d H locs sl _ μr hd0 hS hP hμ hL ⟨by rw [zd2l_in]; rfl, hT1⟩)
theorem zx_dadd {g : ZG} {K : ZK} {pc : Nat} {ls : ZLS} {st : List ZV} {μ : ZMem} {x y : UInt64} (hd : decode (zKc K) pc = .ok (.dadd, 1)) (k : zWA g K (pc + 1) ls (zd (zadd x y) :: st) μ) : zWA g K (pc) ls (zd y :: zd x :: st) μ := by
  intro l p e s m args below meth c C d H locs sl stk μr hd0 hS hP hμ hL hT
  obtain ⟨a_y2, stkh1, rfl, h1, hT1⟩ := zSR_cons hT
  obtain ⟨y2, rfl, rfl⟩ := h1
  obtain ⟨a_x2, stkh2, rfl, h2, hT2⟩ := zSR_cons hT1
  obtain ⟨x2, rfl, rfl⟩ := h2
  refine lv_dadd_any hd0 lw_bits C.1 C.2.1 hd (fun r d1 hal hd1 => ?_)
  exact (k l p e s m args below meth c C d1 H locs sl _ μr hd1 hS hP hμ hL ⟨⟨r, rfl, by unfold zadd; rw [zadd_in]; exact zcn_alike hal⟩, hT2⟩)
theorem zx_dsub {g : ZG} {K : ZK} {pc : Nat} {ls : ZLS} {st : List ZV} {μ : ZMem} {x y : UInt64} (hd : decode (zKc K) pc = .ok (.dsub, 1)) (k : zWA g K (pc + 1) ls (zd (zsub x y) :: st) μ) : zWA g K (pc) ls (zd y :: zd x :: st) μ := by
  intro l p e s m args below meth c C d H locs sl stk μr hd0 hS hP hμ hL hT
  obtain ⟨a_y2, stkh1, rfl, h1, hT1⟩ := zSR_cons hT
  obtain ⟨y2, rfl, rfl⟩ := h1
  obtain ⟨a_x2, stkh2, rfl, h2, hT2⟩ := zSR_cons hT1
  obtain ⟨x2, rfl, rfl⟩ := h2
  refine lv_dsub_any hd0 lw_bits C.1 C.2.1 hd (fun r d1 hal hd1 => ?_)
  exact (k l p e s m args below meth c C d1 H locs sl _ μr hd1 hS hP hμ hL ⟨⟨r, rfl, by unfold zsub; rw [zsub_in]; exact zcn_alike hal⟩, hT2⟩)
theorem zx_dmul {g : ZG} {K : ZK} {pc : Nat} {ls : ZLS} {st : List ZV} {μ : ZMem} {x y : UInt64} (hd : decode (zKc K) pc = .ok (.dmul, 1)) (k : zWA g K (pc + 1) ls (zd (zmul x y) :: st) μ) : zWA g K (pc) ls (zd y :: zd x :: st) μ := by
  intro l p e s m args below meth c C d H locs sl stk μr hd0 hS hP hμ hL hT
  obtain ⟨a_y2, stkh1, rfl, h1, hT1⟩ := zSR_cons hT
  obtain ⟨y2, rfl, rfl⟩ := h1
  obtain ⟨a_x2, stkh2, rfl, h2, hT2⟩ := zSR_cons hT1
  obtain ⟨x2, rfl, rfl⟩ := h2
  refine lv_dmul_any hd0 lw_bits C.1 C.2.1 hd (fun r d1 hal hd1 => ?_)
  exact (k l p e s m args below meth c C d1 H locs sl _ μr hd1 hS hP hμ hL ⟨⟨r, rfl, by unfold zmul; rw [zmul_in]; exact zcn_alike hal⟩, hT2⟩)
theorem zx_ddiv {g : ZG} {K : ZK} {pc : Nat} {ls : ZLS} {st : List ZV} {μ : ZMem} {x y : UInt64} (hd : decode (zKc K) pc = .ok (.ddiv, 1)) (k : zWA g K (pc + 1) ls (zd (zdiv x y) :: st) μ) : zWA g K (pc) ls (zd y :: zd x :: st) μ := by
  intro l p e s m args below meth c C d H locs sl stk μr hd0 hS hP hμ hL hT
  obtain ⟨a_y2, stkh1, rfl, h1, hT1⟩ := zSR_cons hT
  obtain ⟨y2, rfl, rfl⟩ := h1
  obtain ⟨a_x2, stkh2, rfl, h2, hT2⟩ := zSR_cons hT1
  obtain ⟨x2, rfl, rfl⟩ := h2
  refine lv_ddiv_any hd0 lw_bits C.1 C.2.1 hd (fun r d1 hal hd1 => ?_)
  exact (k l p e s m args below meth c C d1 H locs sl _ μr hd1 hS hP hμ hL ⟨⟨r, rfl, by unfold zdiv; rw [zdiv_in]; exact zcn_alike hal⟩, hT2⟩)
theorem zx_dneg {g : ZG} {K : ZK} {pc : Nat} {ls : ZLS} {st : List ZV} {μ : ZMem} {x : UInt64} (hd : decode (zKc K) pc = .ok (.dneg, 1)) (k : zWA g K (pc + 1) ls (zd (zneg x) :: st) μ) : zWA g K (pc) ls (zd x :: st) μ := by
  intro l p e s m args below meth c C d H locs sl stk μr hd0 hS hP hμ hL hT
  obtain ⟨a_y, stkh1, rfl, h1, hT1⟩ := zSR_cons hT
  obtain ⟨y, rfl, rfl⟩ := h1
  exact lv_dneg C.1 C.2.1 hd (k l p e s m args below meth c C d H locs sl _ μr hd0 hS hP hμ hL ⟨⟨_, rfl, zneg_in y⟩, hT1⟩)
theorem zx_dcmp {g : ZG} {K : ZK} {pc : Nat} {ls : ZLS} {st : List ZV} {μ : ZMem} {x y : UInt64} {op : CmpOp} (hd : decode (zKc K) pc = .ok (.dcmp op, 1)) (k : zWA g K (pc + 1) ls (zi (Op.cmpValue (FP.dcmp x y) op) :: st) μ) : zWA g K (pc) ls (zd y :: zd x :: st) μ := by
  intro l p e s m args below meth c C d H locs sl stk μr hd0 hS hP hμ hL hT
  obtain ⟨a_y2, stkh1, rfl, h1, hT1⟩ := zSR_cons hT
  obtain ⟨y2, rfl, rfl⟩ := h1
  obtain ⟨a_x2, stkh2, rfl, h2, hT2⟩ := zSR_cons hT1
  obtain ⟨x2, rfl, rfl⟩ := h2
  exact lv_dcmp C.1 C.2.1 hd (k l p e s m args below meth c C d H locs sl _ μr hd0 hS hP hμ hL ⟨by rw [zcmp_in]; rfl, hT2⟩)
theorem zx_lcmp {g : ZG} {K : ZK} {pc : Nat} {ls : ZLS} {st : List ZV} {μ : ZMem} {x y : Int64} (hd : decode (zKc K) pc = .ok (.lcmp, 1)) (k : zWA g K (pc + 1) ls (zi (lg_cmp x y) :: st) μ) : zWA g K (pc) ls (zl y :: zl x :: st) μ := by
  intro l p e s m args below meth c C d H locs sl stk μr hd0 hS hP hμ hL hT
  obtain ⟨a1, stkh1, rfl, h1, hT1⟩ := zSR_cons hT
  cases h1
  obtain ⟨a2, stkh2, rfl, h2, hT2⟩ := zSR_cons hT1
  cases h2
  exact W.lcmp C.1 C.2.1 hd (k l p e s m args below meth c C d H locs sl _ μr hd0 hS hP hμ hL ⟨rfl, hT2⟩)
theorem zx_iconst {g : ZG} {K : ZK} {pc : Nat} {ls : ZLS} {st : List ZV} {μ : ZMem} {n : Int} (v : Int32) (hd : decode (zKc K) pc = .ok (.iconst n, 1)) (hv : Int32.ofInt n = v) (k : zWA g K (pc + 1) ls (zi v :: st) μ) : zWA g K (pc) ls (st) μ := by
  intro l p e s m args below meth c C d H locs sl stk μr hd0 hS hP hμ hL hT
  exact lv_iconst C.1 C.2.1 hd hv (k l p e s m args below meth c C d H locs sl _ μr hd0 hS hP hμ hL ⟨rfl, hT⟩)
theorem zx_bipush {g : ZG} {K : ZK} {pc : Nat} {ls : ZLS} {st : List ZV} {μ : ZMem} {n : Int} (v : Int32) (hd : decode (zKc K) pc = .ok (.bipush n, 2)) (hv : (Int8.ofInt n).toInt32 = v) (k : zWA g K (pc + 2) ls (zi v :: st) μ) : zWA g K (pc) ls (st) μ := by
  intro l p e s m args below meth c C d H locs sl stk μr hd0 hS hP hμ hL hT
  exact lv_bipush C.1 C.2.1 hd hv (k l p e s m args below meth c C d H locs sl _ μr hd0 hS hP hμ hL ⟨rfl, hT⟩)
theorem zx_sipush {g : ZG} {K : ZK} {pc : Nat} {ls : ZLS} {st : List ZV} {μ : ZMem} {n : Int} (v : Int32) (hd : decode (zKc K) pc = .ok (.sipush n, 3)) (hv : (Int16.ofInt n).toInt32 = v) (k : zWA g K (pc + 3) ls (zi v :: st) μ) : zWA g K (pc) ls (st) μ := by
  intro l p e s m args below meth c C d H locs sl stk μr hd0 hS hP hμ hL hT
  exact lv_sipush C.1 C.2.1 hd hv (k l p e s m args below meth c C d H locs sl _ μr hd0 hS hP hμ hL ⟨rfl, hT⟩)
theorem zx_lconst {g : ZG} {K : ZK} {pc : Nat} {ls : ZLS} {st : List ZV} {μ : ZMem} {n : Fin 2} (v : Int64) (hd : decode (zKc K) pc = .ok (.lconst n, 1)) (hv : Int64.ofNat (n : Nat) = v) (k : zWA g K (pc + 1) ls (zl v :: st) μ) : zWA g K (pc) ls (st) μ := by
  intro l p e s m args below meth c C d H locs sl stk μr hd0 hS hP hμ hL hT
  exact lv_lconst C.1 C.2.1 hd hv (k l p e s m args below meth c C d H locs sl _ μr hd0 hS hP hμ hL ⟨rfl, hT⟩)
theorem zx_dconst0 {g : ZG} {K : ZK} {pc : Nat} {ls : ZLS} {st : List ZV} {μ : ZMem} (hd : decode (zKc K) pc = .ok (.dconst 0, 1)) (k : zWA g K (pc + 1) ls (zd 0 :: st) μ) : zWA g K (pc) ls (st) μ := by
  intro l p e s m args below meth c C d H locs sl stk μr hd0 hS hP hμ hL hT
  exact lv_dconst0 C.1 C.2.1 hd (k l p e s m args below meth c C d H locs sl _ μr hd0 hS hP hμ hL ⟨⟨_, rfl, by decide +kernel⟩, hT⟩)
theorem zx_dconst1 {g : ZG} {K : ZK} {pc : Nat} {ls : ZLS} {st : List ZV} {μ : ZMem} (hd : decode (zKc K) pc = .ok (.dconst 1, 1)) (k : zWA g K (pc + 1) ls (zd 4607182418800017408 :: st) μ) : zWA g K (pc) ls (st) μ := by
  intro l p e s m args below meth c C d H locs sl stk μr hd0 hS hP hμ hL hT
  exact lv_dconst1 C.1 C.2.1 hd (k l p e s m args below meth c C d H locs sl _ μr hd0 hS hP hμ hL ⟨⟨_, rfl, by decide +kernel⟩, hT⟩)
theorem zx_ldc2d {g : ZG} {K : ZK} {pc : Nat} {ls : ZLS} {st : List ZV} {μ : ZMem} {index : Nat} (v : UInt64) (hw : Jvm.Cond.constantDouble (zKo K) index v ∈ lw_good) (hv : zcn v = v) (hd : decode (zKc K) pc = .ok (.ldc2_w index, 3)) (k : zWA g K (pc + 3) ls (zd v :: st) μ) : zWA g K (pc) ls (st) μ := by
  intro l p e s m args below meth c C d H locs sl stk μr hd0 hS hP hμ hL hT
  exact lv_ldc2d C.1 C.2.1 C.2.2.2.1 (dr_words C.2.2.2.2.1 d _ hw) hd (k l p e s m args below meth c C d H locs sl _ μr hd0 hS hP hμ hL ⟨⟨_, rfl, hv⟩, hT⟩)
theorem zx_ldc2l {g : ZG} {K : ZK} {pc : Nat} {ls : ZLS} {st : List ZV} {μ : ZMem} {index : Nat} (v : Int64) (hw : Jvm.Cond.constantLong (zKo K) index v ∈ lw_good) (hd : decode (zKc K) pc = .ok (.ldc2_w index, 3)) (k : zWA g K (pc + 3) ls (zl v :: st) μ) : zWA g K (pc) ls (st) μ := by
  intro l p e s m args below meth c C d H locs sl stk μr hd0 hS hP hμ hL hT
  exact lv_ldc2 C.1 C.2.1 C.2.2.2.1 (dr_words C.2.2.2.2.1 d _ hw) hd (k l p e s m args below meth c C d H locs sl _ μr hd0 hS hP hμ hL ⟨rfl, hT⟩)
theorem zx_null {g : ZG} {K : ZK} {pc : Nat} {ls : ZLS} {st : List ZV} {μ : ZMem} (hd : decode (zKc K) pc = .ok (.aconst_null, 1)) (k : zWA g K (pc + 1) ls (zr none :: st) μ) : zWA g K (pc) ls (st) μ := by
  intro l p e s m args below meth c C d H locs sl stk μr hd0 hS hP hμ hL hT
  exact lv_null C.1 C.2.1 hd (k l p e s m args below meth c C d H locs sl _ μr hd0 hS hP hμ hL ⟨rfl, hT⟩)
theorem zx_dup {g : ZG} {K : ZK} {pc : Nat} {ls : ZLS} {st : List ZV} {μ : ZMem} {v : ZV} (hd : decode (zKc K) pc = .ok (.dup, 1)) (hv : zc2 v = false) (k : zWA g K (pc + 1) ls (v :: v :: st) μ) : zWA g K (pc) ls (v :: st) μ := by
  intro l p e s m args below meth c C d H locs sl stk μr hd0 hS hP hμ hL hT
  obtain ⟨a1, stk1, rfl, h1, hT1⟩ := zSR_cons hT
  exact lv_dup C.1 C.2.1 hd (zRv_cat1 h1 hv) (k l p e s m args below meth c C d H locs sl _ μr hd0 hS hP hμ hL ⟨h1, h1, hT1⟩)
theorem zx_dup2_11 {g : ZG} {K : ZK} {pc : Nat} {ls : ZLS} {st : List ZV} {μ : ZMem} {v w : ZV} (hd : decode (zKc K) pc = .ok (.dup2, 1)) (hv : zc2 v = false) (hw : zc2 w = false) (k : zWA g K (pc + 1) ls (v :: w :: v :: w :: st) μ) : zWA g K (pc) ls (v :: w :: st) μ := by
  intro l p e s m args below meth c C d H locs sl stk μr hd0 hS hP hμ hL hT
  obtain ⟨a1, stk1, rfl, h1, hT1⟩ := zSR_cons hT
  obtain ⟨a2, stk2, rfl, h2, hT2⟩ := zSR_cons hT1
  exact lv_dup2_11 C.1 C.2.1 hd (zRv_cat1 h1 hv) (zRv_cat1 h2 hw) (k l p e s m args below meth c C d H locs sl _ μr hd0 hS hP hμ hL ⟨h1, h2, h1, h2, hT2⟩)
theorem zx_iload_n {g : ZG} {K : ZK} {pc : Nat} {ls : ZLS} {st : List ZV} {μ : ZMem} {n : Fin 4} {i : Nat} {x : Int32} (hd : decode (zKc K) pc = .ok (.iload_n n, 1)) (hi : (n : Nat) = i) (hl : ls i = some (zi x)) (k : zWA g K (pc + 1) ls (zi x :: st) μ) : zWA g K (pc) ls (st) μ := by
  intro l p e s m args below meth c C d H locs sl stk μr hd0 hS hP hμ hL hT
  obtain ⟨a, ha, hr⟩ := zLR_get hL hl
  cases hr
  exact lv_iload_n C.1 C.2.1 hd hi ha (k l p e s m args below meth c C d H locs sl _ μr hd0 hS hP hμ hL ⟨rfl, hT⟩)
theorem zx_iload {g : ZG} {K : ZK} {pc : Nat} {ls : ZLS} {st : List ZV} {μ : ZMem} {i : Nat} {x : Int32} (hd : decode (zKc K) pc = .ok (.iload i, 2)) (hl : ls i = some (zi x)) (k : zWA g K (pc + 2) ls (zi x :: st) μ) : zWA g K (pc) ls (st) μ := by
  intro l p e s m args below meth c C d H locs sl stk μr hd0 hS hP hμ hL hT
  obtain ⟨a, ha, hr⟩ := zLR_get hL hl
  cases hr
  exact lv_iload C.1 C.2.1 hd ha (k l p e s m args below meth c C d H locs sl _ μr hd0 hS hP hμ hL ⟨rfl, hT⟩)
theorem zx_lload_n {g : ZG} {K : ZK} {pc : Nat} {ls : ZLS} {st : List ZV} {μ : ZMem} {n : Fin 4} {i : Nat} {x : Int64} (hd : decode (zKc K) pc = .ok (.lload_n n, 1)) (hi : (n : Nat) = i) (hl : ls i = some (zl x)) (k : zWA g K (pc + 1) ls (zl x :: st) μ) : zWA g K (pc) ls (st) μ := by
  intro l p e s m args below meth c C d H locs sl stk μr hd0 hS hP hμ hL hT
  obtain ⟨a, ha, hr⟩ := zLR_get hL hl
  cases hr
  exact lv_lload_n C.1 C.2.1 hd hi ha (k l p e s m args below meth c C d H locs sl _ μr hd0 hS hP hμ hL ⟨rfl, hT⟩)
theorem zx_lload {g : ZG} {K : ZK} {pc : Nat} {ls : ZLS} {st : List ZV} {μ : ZMem} {i : Nat} {x : Int64} (hd : decode (zKc K) pc = .ok (.lload i, 2)) (hl : ls i = some (zl x)) (k : zWA g K (pc + 2) ls (zl x :: st) μ) : zWA g K (pc) ls (st) μ := by
  intro l p e s m args below meth c C d H locs sl stk μr hd0 hS hP hμ hL hT
  obtain ⟨a, ha, hr⟩ := zLR_get hL hl
  cases hr
  exact lv_lload C.1 C.2.1 hd ha (k l p e s m args below meth c C d H locs sl _ μr hd0 hS hP hμ hL ⟨rfl, hT⟩)
theorem zx_dload_n {g : ZG} {K : ZK} {pc : Nat} {ls : ZLS} {st : List ZV} {μ : ZMem} {n : Fin 4} {i : Nat} {x : UInt64} (hd : decode (zKc K) pc = .ok (.dload_n n, 1)) (hi : (n : Nat) = i) (hl : ls i = some (zd x)) (k : zWA g K (pc + 1) ls (zd x :: st) μ) : zWA g K (pc) ls (st) μ := by
  intro l p e s m args below meth c C d H locs sl stk μr hd0 hS hP hμ hL hT
  obtain ⟨a, ha, y, rfl, hy⟩ := zLR_get hL hl
  exact lv_dload_n C.1 C.2.1 hd hi ha (k l p e s m args below meth c C d H locs sl _ μr hd0 hS hP hμ hL ⟨⟨y, rfl, hy⟩, hT⟩)
theorem zx_dload {g : ZG} {K : ZK} {pc : Nat} {ls : ZLS} {st : List ZV} {μ : ZMem} {i : Nat} {x : UInt64} (hd : decode (zKc K) pc = .ok (.dload i, 2)) (hl : ls i = some (zd x)) (k : zWA g K (pc + 2) ls (zd x :: st) μ) : zWA g K (pc) ls (st) μ := by
  intro l p e s m args below meth c C d H locs sl stk μr hd0 hS hP hμ hL hT
  obtain ⟨a, ha, y, rfl, hy⟩ := zLR_get hL hl
  exact lv_dload C.1 C.2.1 hd ha (k l p e s m args below meth c C d H locs sl _ μr hd0 hS hP hμ hL ⟨⟨y, rfl, hy⟩, hT⟩)
theorem zx_aload_n {g : ZG} {K : ZK} {pc : Nat} {ls : ZLS} {st : List ZV} {μ : ZMem} {n : Fin 4} {i : Nat} {x : Option Nat} (hd : decode (zKc K) pc = .ok (.aload_n n, 1)) (hi : (n : Nat) = i) (hl : ls i = some (zr x)) (k : zWA g K (pc + 1) ls (zr x :: st) μ) : zWA g K (pc) ls (st) μ := by
  intro l p e s m args below meth c C d H locs sl stk μr hd0 hS hP hμ hL hT
  obtain ⟨a, ha, hr⟩ := zLR_get hL hl
  have hr : a = va_rf (x.map (zad g)) := hr
  subst hr
  cases x with
  | none => exact lv_aload_nN C.1 C.2.1 hd hi ha (k l p e s m args below meth c C d H locs sl _ μr hd0 hS hP hμ hL ⟨rfl, hT⟩)
  | some r => exact lv_aload_n C.1 C.2.1 hd hi ha (k l p e s m args below meth c C d H locs sl _ μr hd0 hS hP hμ hL ⟨rfl, hT⟩)
theorem zx_aload {g : ZG} {K : ZK} {pc : Nat} {ls : ZLS} {st : List ZV} {μ : ZMem} {i : Nat} {x : Option Nat} (hd : decode (zKc K) pc = .ok (.aload i, 2))  (hl : ls i = some (zr x)) (k : zWA g K (pc + 2) ls (zr x :: st) μ) : zWA g K (pc) ls (st) μ := by
  intro l p e s m args below meth c C d H locs sl stk μr hd0 hS hP hμ hL hT
  obtain ⟨a, ha, hr⟩ := zLR_get hL hl
  have hr : a = va_rf (x.map (zad g)) := hr
  subst hr
  cases x with
  | none => exact lv_aloadN C.1 C.2.1 hd ha (k l p e s m args below meth c C d H locs sl _ μr hd0 hS hP hμ hL ⟨rfl, hT⟩)
  | some r => exact lv_aload C.1 C.2.1 hd ha (k l p e s m args below meth c C d H locs sl _ μr hd0 hS hP hμ hL ⟨rfl, hT⟩)
theorem zx_istore_n {g : ZG} {K : ZK} {pc : Nat} {ls : ZLS} {st : List ZV} {μ : ZMem} {n : Fin 4} {i : Nat} {x : Int32} (hd : decode (zKc K) pc = .ok (.istore_n n, 1)) (hi : (n : Nat) = i) (hn : i < zKn K) (k : zWA g K (pc + 1) (zst1 ls i (zi x)) (st) μ) : zWA g K (pc) ls (zi x :: st) μ := by
  intro l p e s m args below meth c C d H locs sl stk μr hd0 hS hP hμ hL hT
  obtain ⟨a1, stkh1, rfl, h1, hT1⟩ := zSR_cons hT
  cases h1
  obtain ⟨lv, hl1, hl2⟩ := hL
  exact lv_istore_n C.1 C.2.1 hd hi hl1 hn rfl (fun sl hl => k l p e s m args below meth c C d H locs sl _ μr hd0 hS hP hμ (zLR_st1 hl2 rfl hl) hT1)
theorem zx_istore {g : ZG} {K : ZK} {pc : Nat} {ls : ZLS} {st : List ZV} {μ : ZMem} {i : Nat} {x : Int32} (hd : decode (zKc K) pc = .ok (.istore i, 2))  (hn : i < zKn K) (k : zWA g K (pc + 2) (zst1 ls i (zi x)) (st) μ) : zWA g K (pc) ls (zi x :: st) μ := by
  intro l p e s m args below meth c C d H locs sl stk μr hd0 hS hP hμ hL hT
  obtain ⟨a1, stkh1, rfl, h1, hT1⟩ := zSR_cons hT
  cases h1
  obtain ⟨lv, hl1, hl2⟩ := hL
  exact lv_istore C.1 C.2.1 hd hl1 hn rfl (fun sl hl => k l p e s m args below meth c C d H locs sl _ μr hd0 hS hP hμ (zLR_st1 hl2 rfl hl) hT1)
theorem zx_lstore_n {g : ZG} {K : ZK} {pc : Nat} {ls : ZLS} {st : List ZV} {μ : ZMem} {n : Fin 4} {i : Nat} {x : Int64} (hd : decode (zKc K) pc = .ok (.lstore_n n, 1)) (hi : (n : Nat) = i) (hn : i + 1 < zKn K) (k : zWA g K (pc + 1) (zst2 ls i (zl x)) (st) μ) : zWA g K (pc) ls (zl x :: st) μ := by
  intro l p e s m args below meth c C d H locs sl stk μr hd0 hS hP hμ hL hT
  obtain ⟨a1, stkh1, rfl, h1, hT1⟩ := zSR_cons hT
  cases h1
  obtain ⟨lv, hl1, hl2⟩ := hL
  exact lv_lstore_n C.1 C.2.1 hd hi hl1 hn rfl (fun sl hl => k l p e s m args below meth c C d H locs sl _ μr hd0 hS hP hμ (zLR_st2 hl2 rfl hl) hT1)
theorem zx_lstore {g : ZG} {K : ZK} {pc : Nat} {ls : ZLS} {st : List ZV} {μ : ZMem} {i : Nat} {x : Int64} (hd : decode (zKc K) pc = .ok (.lstore i, 2))  (hn : i + 1 < zKn K) (k : zWA g K (pc + 2) (zst2 ls i (zl x)) (st) μ) : zWA g K (pc) ls (zl x :: st) μ := by
  intro l p e s m args below meth c C d H locs sl stk μr hd0 hS hP hμ hL hT
  obtain ⟨a1, stkh1, rfl, h1, hT1⟩ := zSR_cons hT
  cases h1
  obtain ⟨lv, hl1, hl2⟩ := hL
  exact lv_lstore C.1 C.2.1 hd hl1 hn rfl (fun sl hl => k l p e s m args below meth c C d H locs sl _ μr hd0 hS hP hμ (zLR_st2 hl2 rfl hl) hT1)
theorem zx_dstore_n {g : ZG} {K : ZK} {pc : Nat} {ls : ZLS} {st : List ZV} {μ : ZMem} {n : Fin 4} {i : Nat} {x : UInt64} (hd : decode (zKc K) pc = .ok (.dstore_n n, 1)) (hi : (n : Nat) = i) (hn : i + 1 < zKn K) (k : zWA g K (pc + 1) (zst2 ls i (zd x)) (st) μ) : zWA g K (pc) ls (zd x :: st) μ := by
  intro l p e s m args below meth c C d H locs sl stk μr hd0 hS hP hμ hL hT
  obtain ⟨a_y, stkh1, rfl, h1, hT1⟩ := zSR_cons hT
  obtain ⟨y, rfl, rfl⟩ := h1
  obtain ⟨lv, hl1, hl2⟩ := hL
  exact lv_dstore_n C.1 C.2.1 hd hi hl1 hn rfl (fun sl hl => k l p e s m args below meth c C d H locs sl _ μr hd0 hS hP hμ (zLR_st2 hl2 ⟨y, rfl, rfl⟩ hl) hT1)
theorem zx_dstore {g : ZG} {K : ZK} {pc : Nat} {ls : ZLS} {st : List ZV} {μ : ZMem} {i : Nat} {x : UInt64} (hd : decode (zKc K) pc = .ok (.dstore i, 2))  (hn : i + 1 < zKn K) (k : zWA g K (pc + 2) (zst2 ls i (zd x)) (st) μ) : zWA g K (pc) ls (zd x :: st) μ := by
  intro l p e s m args below meth c C d H locs sl stk μr hd0 hS hP hμ hL hT
  obtain ⟨a_y, stkh1, rfl, h1, hT1⟩ := zSR_cons hT
  obtain ⟨y, rfl, rfl⟩ := h1
  obtain ⟨lv, hl1, hl2⟩ := hL
  exact lv_dstore C.1 C.2.1 hd hl1 hn rfl (fun sl hl => k l p e s m args below meth c C d H locs sl _ μr hd0 hS hP hμ (zLR_st2 hl2 ⟨y, rfl, rfl⟩ hl) hT1)
theorem zx_astore_n {g : ZG} {K : ZK} {pc : Nat} {ls : ZLS} {st : List ZV} {μ : ZMem} {n : Fin 4} {i : Nat} {x : Option Nat} (hd : decode (zKc K) pc = .ok (.astore_n n, 1)) (hi : (n : Nat) = i) (hn : i < zKn K) (k : zWA g K (pc + 1) (zst1 ls i (zr x)) (st) μ) : zWA g K (pc) ls (zr x :: st) μ := by
  intro l p e s m args below meth c C d H locs sl stk μr hd0 hS hP hμ hL hT
  obtain ⟨a1, stk1, rfl, h1, hT1⟩ := zSR_cons hT
  have h1 : a1 = va_rf (x.map (zad g)) := h1
  subst h1
  obtain ⟨lv, hl1, hl2⟩ := hL
  cases x with
  | none => exact lv_astore_nN C.1 C.2.1 hd hi hl1 hn rfl (fun sl hl => k l p e s m args below meth c C d H locs sl _ μr hd0 hS hP hμ (zLR_st1 hl2 (v := zr none) rfl hl) hT1)
  | some r => exact lv_astore_n C.1 C.2.1 hd hi hl1 hn rfl (fun sl hl => k l p e s m args below meth c C d H locs sl _ μr hd0 hS hP hμ (zLR_st1 hl2 (v := zr (some r)) rfl hl) hT1)
theorem zx_astore {g : ZG} {K : ZK} {pc : Nat} {ls : ZLS} {st : List ZV} {μ : ZMem} {i : Nat} {x : Option Nat} (hd : decode (zKc K) pc = .ok (.astore i, 2))  (hn : i < zKn K) (k : zWA g K (pc + 2) (zst1 ls i (zr x)) (st) μ) : zWA g K (pc) ls (zr x :: st) μ := by
  intro l p e s m args below meth c C d H locs sl stk μr hd0 hS hP hμ hL hT
  obtain ⟨a1, stk1, rfl, h1, hT1⟩ := zSR_cons hT
  have h1 : a1 = va_rf (x.map (zad g)) := h1
  subst h1
  obtain ⟨lv, hl1, hl2⟩ := hL
  cases x with
  | none => exact lv_astoreN C.1 C.2.1 hd hl1 hn rfl (fun sl hl => k l p e s m args below meth c C d H locs sl _ μr hd0 hS hP hμ (zLR_st1 hl2 (v := zr none) rfl hl) hT1)
  | some r => exact lv_astore C.1 C.2.1 hd hl1 hn rfl (fun sl hl => k l p e s m args below meth c C d H locs sl _ μr hd0 hS hP hμ (zLR_st1 hl2 (v := zr (some r)) rfl hl) hT1)
theorem zx_iinc {g : ZG} {K : ZK} {pc : Nat} {ls : ZLS} {st : List ZV} {μ : ZMem} {i : Nat} {n : Int} {x : Int32} (v : Int32) (hd : decode (zKc K) pc = .ok (.iinc i n, 3)) (hl : ls i = some (zi x)) (hv : x + Int32.ofInt n = v) (hn : i < zKn K) (k : zWA g K (pc + 3) (zst1 ls i (zi v)) (st) μ) : zWA g K (pc) ls (st) μ := by
  intro l p e s m args below meth c C d H locs sl stk μr hd0 hS hP hμ hL hT
  obtain ⟨lv, hl1, hl2⟩ := hL
  obtain ⟨a, ha, hr⟩ := hl2 i _ hl
  cases hr
  obtain ⟨q, hq⟩ := List.getElem?_of_mem ha
  exact lv_iinc C.1 C.2.1 hd hl1 hq hv hn rfl (fun sl hl => k l p e s m args below meth c C d H locs sl _ μr hd0 hS hP hμ (zLR_st1 hl2 (v := zi v) rfl hl) hT)
theorem zx_if_eq {g : ZG} {K : ZK} {pc : Nat} {ls : ZLS} {st : List ZV} {μ : ZMem} {x : Int32} {off : Int} {tgt : Nat} (hd : decode (zKc K) pc = .ok (.ifCond .eq off, 3)) (ht : (pc : Int) + off = (tgt : Int)) (kt : x = 0 → zWA g K (tgt) ls (st) μ) (kf : ¬ x = 0 → zWA g K (pc + 3) ls (st) μ) : zWA g K (pc) ls (zi x :: st) μ := by
  intro l p e s m args below meth c C d H locs sl stk μr hd0 hS hP hμ hL hT
  obtain ⟨a1, stkh1, rfl, h1, hT1⟩ := zSR_cons hT
  cases h1
  exact lv_if_eq C.1 C.2.1 hd ht (fun q => kt q l p e s m args below meth c C d H locs sl _ μr hd0 hS hP hμ hL  hT1) (fun q => kf q l p e s m args below meth c C d H locs sl _ μr hd0 hS hP hμ hL  hT1)
theorem zx_icmp_eq {g : ZG} {K : ZK} {pc : Nat} {ls : ZLS} {st : List ZV} {μ : ZMem} {x y : Int32} {off : Int} {tgt : Nat} (hd : decode (zKc K) pc = .ok (.if_icmp .eq off, 3)) (ht : (pc : Int) + off = (tgt : Int)) (kt : x = y → zWA g K (tgt) ls (st) μ) (kf : ¬ x = y → zWA g K (pc + 3) ls (st) μ) : zWA g K (pc) ls (zi y :: zi x :: st) μ := by
  intro l p e s m args below meth c C d H locs sl stk μr hd0 hS hP hμ hL hT
  obtain ⟨a1, stkh1, rfl, h1, hT1⟩ := zSR_cons hT
  cases h1
  obtain ⟨a2, stkh2, rfl, h2, hT2⟩ := zSR_cons hT1
  cases h2
  exact lv_icmp_eq C.1 C.2.1 hd ht (fun q => kt q l p e s m args below meth c C d H locs sl _ μr hd0 hS hP hμ hL  hT2) (fun q => kf q l p e s m args below meth c C d H locs sl _ μr hd0 hS hP hμ hL  hT2)
theorem zx_if_ne {g : ZG} {K : ZK} {pc : Nat} {ls : ZLS} {st : List ZV} {μ : ZMem} {x : Int32} {off : Int} {tgt : Nat} (hd : decode (zKc K) pc = .ok (.ifCond .ne off, 3)) (ht : (pc : Int) + off = (tgt : Int)) (kt : ¬ x = 0 → zWA g K (tgt) ls (st) μ) (kf : x = 0 → zWA g K (pc + 3) ls (st) μ) : zWA g K (pc) ls (zi x :: st) μ := by
  intro l p e s m args below meth c C d H locs sl stk μr hd0 hS hP hμ hL hT
  obtain ⟨a1, stkh1, rfl, h1, hT1⟩ := zSR_cons hT
  cases h1
  exact lv_if_ne C.1 C.2.1 hd ht (fun q => kt q l p e s m args below meth c C d H locs sl _ μr hd0 hS hP hμ hL  hT1) (fun q => kf q l p e s m args below meth c C d H locs sl _ μr hd0 hS hP hμ hL  hT1)
theorem zx_icmp_ne {g : ZG} {K : ZK} {pc : Nat} {ls : ZLS} {st : List ZV} {μ : ZMem} {x y : Int32} {off : Int} {tgt : Nat} (hd : decode (zKc K) pc = .ok (.if_icmp .ne off, 3)) (ht : (pc : Int) + off = (tgt : Int)) (kt : ¬ x = y → zWA g K (tgt) ls (st) μ) (kf : x = y → zWA g K (pc + 3) ls (st) μ) : zWA g K (pc) ls (zi y :: zi x :: st) μ := by
  intro l p e s m args below meth c C d H locs sl stk μr hd0 hS hP hμ hL hT
  obtain ⟨a1, stkh1, rfl, h1, hT1⟩ := zSR_cons hT
  cases h1
  obtain ⟨a2, stkh2, rfl, h2, hT2⟩ := zSR_cons hT1
  cases h2
  exact lv_icmp_ne C.1 C.2.1 hd ht (fun q => kt q l p e s m args below meth c C d H locs sl _ μr hd0 hS hP hμ hL  hT2) (fun q => kf q l p e s m args below meth c C d H locs sl _ μr hd0 hS hP hμ hL  hT2)
theorem zx_if_lt {g : ZG} {K : ZK} {pc : Nat} {ls : ZLS} {st : List ZV} {μ : ZMem} {x : Int32} {off : Int} {tgt : Nat} (hd : decode (zKc K) pc = .ok (.ifCond .lt off, 3)) (ht : (pc : Int) + off = (tgt : Int)) (kt : x < 0 → zWA g K (tgt) ls (st) μ) (kf : ¬ x < 0 → zWA g K (pc + 3) ls (st) μ) : zWA g K (pc) ls (zi x :: st) μ := by
  intro l p e s m args below meth c C d H locs sl stk μr hd0 hS hP hμ hL hT
  obtain ⟨a1, stkh1, rfl, h1, hT1⟩ := zSR_cons hT
  cases h1
  exact lv_if_lt C.1 C.2.1 hd ht (fun q => kt q l p e s m args below meth c C d H locs sl _ μr hd0 hS hP hμ hL  hT1) (fun q => kf q l p e s m args below meth c C d H locs sl _ μr hd0 hS hP hμ hL  hT1)
theorem zx_icmp_lt {g : ZG} {K : ZK} {pc : Nat} {ls : ZLS} {st : List ZV} {μ : ZMem} {x y : Int32} {off : Int} {tgt : Nat} (hd : decode (zKc K) pc = .ok (.if_icmp .lt off, 3)) (ht : (pc : Int) + off = (tgt : Int)) (kt : x < y → zWA g K (tgt) ls (st) μ) (kf : ¬ x < y → zWA g K (pc + 3) ls (st) μ) : zWA g K (pc) ls (zi y :: zi x :: st) μ := by
  intro l p e s m args below meth c C d H locs sl stk μr hd0 hS hP hμ hL hT
  obtain ⟨a1, stkh1, rfl, h1, hT1⟩ := zSR_cons hT
  cases h1
  obtain ⟨a2, stkh2, rfl, h2, hT2⟩ := zSR_cons hT1
  cases h2
  exact lv_icmp_lt C.1 C.2.1 hd ht (fun q => kt q l p e s m args below meth c C d H locs sl _ μr hd0 hS hP hμ hL  hT2) (fun q => kf q l p e s m args below meth c C d H locs sl _ μr hd0 hS hP hμ hL  hT2)
theorem zx_if_ge {g : ZG} {K : ZK} {pc : Nat} {ls : ZLS} {st : List ZV} {μ : ZMem} {x : Int32} {off : Int} {tgt : Nat} (hd : decode (zKc K) pc = .ok (.ifCond .ge off, 3)) (ht : (pc : Int) + off = (tgt : Int)) (kt : 0 ≤ x → zWA g K (tgt) ls (st) μ) (kf : ¬ 0 ≤ x → zWA g K (pc + 3) ls (st) μ) : zWA g K (pc) ls (zi x :: st) μ := by
  intro l p e s m args below meth c C d H locs sl stk μr hd0 hS hP hμ hL hT
  obtain ⟨a1, stkh1, rfl, h1, hT1⟩ := zSR_cons hT
  cases h1
  exact lv_if_ge C.1 C.2.1 hd ht (fun q => kt q l p e s m args below meth c C d H locs sl _ μr hd0 hS hP hμ hL  hT1) (fun q => kf q l p e s m args below meth c C d H locs sl _ μr hd0 hS hP hμ hL  hT1)
theorem zx_icmp_ge {g : ZG} {K : ZK} {pc : Nat} {ls : ZLS} {st : List ZV} {μ : ZMem} {x y : Int32} {off : Int} {tgt : Nat} (hd : decode (zKc K) pc = .ok (.if_icmp .ge off, 3)) (ht : (pc : Int) + off = (tgt : Int)) (kt : y ≤ x → zWA g K (tgt) ls (st) μ) (kf : ¬ y ≤ x → zWA g K (pc + 3) ls (st) μ) : zWA g K (pc) ls (zi y :: zi x :: st) μ := by
  intro l p e s m args below meth c C d H locs sl stk μr hd0 hS hP hμ hL hT
  obtain ⟨a1, stkh1, rfl, h1, hT1⟩ := zSR_cons hT
  cases h1
  obtain ⟨a2, stkh2, rfl, h2, hT2⟩ := zSR_cons hT1
  cases h2
  exact lv_icmp_ge C.1 C.2.1 hd ht (fun q => kt q l p e s m args below meth c C d H locs sl _ μr hd0 hS hP hμ hL  hT2) (fun q => kf q l p e s m args below meth c C d H locs sl _ μr hd0 hS hP hμ hL  hT2)
theorem zx_if_gt {g : ZG} {K : ZK} {pc : Nat} {ls : ZLS} {st : List ZV} {μ : ZMem} {x : Int32} {off : Int} {tgt : Nat} (hd : decode (zKc K) pc = .ok (.ifCond .gt off, 3)) (ht : (pc : Int) + off = (tgt : Int)) (kt : 0 < x → zWA g K (tgt) ls (st) μ) (kf : ¬ 0 < x → zWA g K (pc + 3) ls (st) μ) : zWA g K (pc) ls (zi x :: st) μ := by
  intro l p e s m args below meth c C d H locs sl stk μr hd0 hS hP hμ hL hT
  obtain ⟨a1, stkh1, rfl, h1, hT1⟩ := zSR_cons hT
  cases h1
  exact lv_if_gt C.1 C.2.1 hd ht (fun q => kt q l p e s m args below meth c C d H locs sl _ μr hd0 hS hP hμ hL  hT1) (fun q => kf q l p e s m args below meth c C d H locs sl _ μr hd0 hS hP hμ hL  hT1)
theorem zx_icmp_gt {g : ZG} {K : ZK} {pc : Nat} {ls : ZLS} {st : List ZV} {μ : ZMem} {x y : Int32} {off : Int} {tgt : Nat} (hd : decode (zKc K) pc = .ok (.if_icmp .gt off, 3)) (ht : (pc : Int) + off = (tgt : Int)) (kt : y < x → zWA g K (tgt) ls (st) μ) (kf : ¬ y < x → zWA g K (pc + 3) ls (st) μ) : zWA g K (pc) ls (zi y :: zi x :: st) μ := by
  intro l p e s m args below meth c C d H locs sl stk μr hd0 hS hP hμ hL hT
  obtain ⟨a1, stkh1, rfl, h1, hT1⟩ := zSR_cons hT
  cases h1
  obtain ⟨a2, stkh2, rfl, h2, hT2⟩ := zSR_cons hT1
  cases h2
  exact lv_icmp_gt C.1 C.2.1 hd ht (fun q => kt q l p e s m args below meth c C d H locs sl _ μr hd0 hS hP hμ hL  hT2) (fun q => kf q l p e s m args below meth c C d H locs sl _ μr hd0 hS hP hμ hL  hT2)
theorem zx_if_le {g : ZG} {K : ZK} {pc : Nat} {ls : ZLS} {st : List ZV} {μ : ZMem} {x : Int32} {off : Int} {tgt : Nat} (hd : decode (zKc K) pc = .ok (.ifCond .le off, 3)) (ht : (pc : Int) + off = (tgt : Int)) (kt : x ≤ 0 → zWA g K (tgt) ls (st) μ) (kf : ¬ x ≤ 0 → zWA g K (pc + 3) ls (st) μ) : zWA g K (pc) ls (zi x :: st) μ := by
  intro l p e s m args below meth c C d H locs sl stk μr hd0 hS hP hμ hL hT
  obtain ⟨a1, stkh1, rfl, h1, hT1⟩ := zSR_cons hT
  cases h1
  exact lv_if_le C.1 C.2.1 hd ht (fun q => kt q l p e s m args below meth c C d H locs sl _ μr hd0 hS hP hμ hL  hT1) (fun q => kf q l p e s m args below meth c C d H locs sl _ μr hd0 hS hP hμ hL  hT1)
theorem zx_icmp_le {g : ZG} {K : ZK} {pc : Nat} {ls : ZLS} {st : List ZV} {μ : ZMem} {x y : Int32} {off : Int} {tgt : Nat} (hd : decode (zKc K) pc = .ok (.if_icmp .le off, 3)) (ht : (pc : Int) + off = (tgt : Int)) (kt : x ≤ y → zWA g K (tgt) ls (st) μ) (kf : ¬ x ≤ y → zWA g K (pc + 3) ls (st) μ) : zWA g K (pc) ls (zi y :: zi x :: st) μ := by
  intro l p e s m args below meth c C d H locs sl stk μr hd0 hS hP hμ hL hT
  obtain ⟨a1, stkh1, rfl, h1, hT1⟩ := zSR_cons hT
  cases h1
  obtain ⟨a2, stkh2, rfl, h2, hT2⟩ := zSR_cons hT1
  cases h2
  exact lv_icmp_le C.1 C.2.1 hd ht (fun q => kt q l p e s m args below meth c C d H locs sl _ μr hd0 hS hP hμ hL  hT2) (fun q => kf q l p e s m args below meth c C d H locs sl _ μr hd0 hS hP hμ hL  hT2)
theorem zx_goto {g : ZG} {K : ZK} {pc : Nat} {ls : ZLS} {st : List ZV} {μ : ZMem} {off : Int} {tgt : Nat} (hd : decode (zKc K) pc = .ok (.goto off, 3)) (ht : (pc : Int) + off = (tgt : Int)) (k : zWA g K (tgt) ls (st) μ) : zWA g K (pc) ls (st) μ := by
  intro l p e s m args below meth c C d H locs sl stk μr hd0 hS hP hμ hL hT
  exact lv_goto C.1 C.2.1 hd ht (k l p e s m args below meth c C d H locs sl _ μr hd0 hS hP hμ hL hT)
theorem zx_ifnull {g : ZG} {K : ZK} {pc : Nat} {ls : ZLS} {st : List ZV} {μ : ZMem} {x : Option Nat} {off : Int} {tgt : Nat} (hd : decode (zKc K) pc = .ok (.ifnull off, 3)) (ht : (pc : Int) + off = (tgt : Int)) (kn : x = none → zWA g K (tgt) ls (st) μ) (ks : ∀ r, x = some r → zWA g K (pc + 3) ls (st) μ) : zWA g K (pc) ls (zr x :: st) μ := by
  intro l p e s m args below meth c C d H locs sl stk μr hd0 hS hP hμ hL hT
  obtain ⟨a1, stk1, rfl, h1, hT1⟩ := zSR_cons hT
  have h1 : a1 = va_rf (x.map (zad g)) := h1
  subst h1
  cases x with
  | none => exact lv_ifnullN C.1 C.2.1 hd ht (kn rfl l p e s m args below meth c C d H locs sl _ μr hd0 hS hP hμ hL  hT1)
  | some r => exact lv_ifnull C.1 C.2.1 hd  (ks r rfl l p e s m args below meth c C d H locs sl _ μr hd0 hS hP hμ hL  hT1)
theorem zx_ifnonnull {g : ZG} {K : ZK} {pc : Nat} {ls : ZLS} {st : List ZV} {μ : ZMem} {x : Option Nat} {off : Int} {tgt : Nat} (hd : decode (zKc K) pc = .ok (.ifnonnull off, 3)) (ht : (pc : Int) + off = (tgt : Int)) (kn : x = none → zWA g K (pc + 3) ls (st) μ) (ks : ∀ r, x = some r → zWA g K (tgt) ls (st) μ) : zWA g K (pc) ls (zr x :: st) μ := by
  intro l p e s m args below meth c C d H locs sl stk μr hd0 hS hP hμ hL hT
  obtain ⟨a1, stk1, rfl, h1, hT1⟩ := zSR_cons hT
  have h1 : a1 = va_rf (x.map (zad g)) := h1
  subst h1
  cases x with
  | none => exact lv_ifnonnullN C.1 C.2.1 hd  (kn rfl l p e s m args below meth c C d H locs sl _ μr hd0 hS hP hμ hL  hT1)
  | some r => exact lv_ifnonnull C.1 C.2.1 hd ht (ks r rfl l p e s m args below meth c C d H locs sl _ μr hd0 hS hP hμ hL  hT1)
theorem zx_acmp_eq {g : ZG} {K : ZK} {pc : Nat} {ls : ZLS} {st : List ZV} {μ : ZMem} {x y : Option Nat} {off : Int} {tgt : Nat} (hd : decode (zKc K) pc = .ok (.if_acmp .eq off, 3)) (ht : (pc : Int) + off = (tgt : Int)) (hx : ∀ r, x = some r → r ∈ zrs g) (hy : ∀ r, y = some r → r ∈ zrs g) (kt : x = y → zWA g K (tgt) ls (st) μ) (kf : ¬ x = y → zWA g K (pc + 3) ls (st) μ) : zWA g K (pc) ls (zr y :: zr x :: st) μ := by
  intro l p e s m args below meth c C d H locs sl stk μr hd0 hS hP hμ hL hT
  obtain ⟨a1, stk1, rfl, h1, hT1⟩ := zSR_cons hT
  obtain ⟨a2, stk2, rfl, h2, hT2⟩ := zSR_cons hT1
  have h1 : a1 = va_rf (y.map (zad g)) := h1
  have h2 : a2 = va_rf (x.map (zad g)) := h2
  subst h1
  subst h2
  have hA : zAp g := C.2.2.2.2.2.2.2.2.1
  have hq : x.map (zad g) = y.map (zad g) → x = y := by
    intro h
    cases x with
    | none => cases y with
      | none => rfl
      | some b => cases h
    | some a => cases y with
      | none => cases h
      | some b => rw [zAp_inj hA (hx a rfl) (hy b rfl) (Option.some.inj h)]
  exact lv_acmp_eq C.1 C.2.1 hd ht (fun q => kt (hq q) l p e s m args below meth c C d H locs sl _ μr hd0 hS hP hμ hL  hT2) (fun q => kf (fun z => q (by rw [z])) l p e s m args below meth c C d H locs sl _ μr hd0 hS hP hμ hL  hT2)
theorem zx_acmp_ne {g : ZG} {K : ZK} {pc : Nat} {ls : ZLS} {st : List ZV} {μ : ZMem} {x y : Option Nat} {off : Int} {tgt : Nat} (hd : decode (zKc K) pc = .ok (.if_acmp .ne off, 3)) (ht : (pc : Int) + off = (tgt : Int)) (hx : ∀ r, x = some r → r ∈ zrs g) (hy : ∀ r, y = some r → r ∈ zrs g) (kt : ¬ x = y → zWA g K (tgt) ls (st) μ) (kf : x = y → zWA g K (pc + 3) ls (st) μ) : zWA g K (pc) ls (zr y :: zr x :: st) μ := by
  intro l p e s m args below meth c C d H locs sl stk μr hd0 hS hP hμ hL hT
  obtain ⟨a1, stk1, rfl, h1, hT1⟩ := zSR_cons hT
  obtain ⟨a2, stk2, rfl, h2, hT2⟩ := zSR_cons hT1
  have h1 : a1 = va_rf (y.map (zad g)) := h1
  have h2 : a2 = va_rf (x.map (zad g)) := h2
  subst h1
  subst h2
  have hA : zAp g := C.2.2.2.2.2.2.2.2.1
  have hq : x.map (zad g) = y.map (zad g) → x = y := by
    intro h
    cases x with
    | none => cases y with
      | none => rfl
      | some b => cases h
    | some a => cases y with
      | none => cases h
      | some b => rw [zAp_inj hA (hx a rfl) (hy b rfl) (Option.some.inj h)]
  exact lv_acmp_ne C.1 C.2.1 hd ht (fun q => kt (fun z => q (by rw [z])) l p e s m args below meth c C d H locs sl _ μr hd0 hS hP hμ hL  hT2) (fun q => kf (hq q) l p e s m args below meth c C d H locs sl _ μr hd0 hS hP hμ hL  hT2)
