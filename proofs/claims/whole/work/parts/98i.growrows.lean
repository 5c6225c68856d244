theorem zy_iadd {g : ZG} {K : ZK} {nF : List Nat} {hs : Nat} {fi : Bool} {nr : List Nat} {kc kn : Nat} {pc : Nat} {ls : ZLS} {st : List ZV} {μ : ZMem} {x y : Int32} (hd : decode (zKc K) pc = .ok (.iadd, 1))  (k : zWN g K nF hs fi nr kc kn (pc + 1) ls (zi (x + y) :: st) μ) : zWN g K nF hs fi nr kc kn (pc) ls (zi y :: zi x :: st) μ := by
  intro l p e s m args below meth c C hCx d H locs sl stk μr hd0 hS hP hμ hL hT
  obtain ⟨a1, stkh1, rfl, h1, hT1⟩ := zSR_cons (g := g) hT
  cases h1
  obtain ⟨a2, stkh2, rfl, h2, hT2⟩ := zSR_cons (g := g) hT1
  cases h2
  exact lv_iadd C.1 C.2.1 hd  (k l p e s m args below meth c C hCx d H locs sl _ μr hd0 hS hP hμ hL ⟨rfl, hT2⟩)
theorem zy_isub {g : ZG} {K : ZK} {nF : List Nat} {hs : Nat} {fi : Bool} {nr : List Nat} {kc kn : Nat} {pc : Nat} {ls : ZLS} {st : List ZV} {μ : ZMem} {x y : Int32} (hd : decode (zKc K) pc = .ok (.isub, 1))  (k : zWN g K nF hs fi nr kc kn (pc + 1) ls (zi (x - y) :: st) μ) : zWN g K nF hs fi nr kc kn (pc) ls (zi y :: zi x :: st) μ := by
  intro l p e s m args below meth c C hCx d H locs sl stk μr hd0 hS hP hμ hL hT
  obtain ⟨a1, stkh1, rfl, h1, hT1⟩ := zSR_cons (g := g) hT
  cases h1
  obtain ⟨a2, stkh2, rfl, h2, hT2⟩ := zSR_cons (g := g) hT1
  cases h2
  exact lv_isub C.1 C.2.1 hd  (k l p e s m args below meth c C hCx d H locs sl _ μr hd0 hS hP hμ hL ⟨rfl, hT2⟩)
theorem zy_imul {g : ZG} {K : ZK} {nF : List Nat} {hs : Nat} {fi : Bool} {nr : List Nat} {kc kn : Nat} {pc : Nat} {ls : ZLS} {st : List ZV} {μ : ZMem} {x y : Int32} (hd : decode (zKc K) pc = .ok (.imul, 1))  (k : zWN g K nF hs fi nr kc kn (pc + 1) ls (zi (x * y) :: st) μ) : zWN g K nF hs fi nr kc kn (pc) ls (zi y :: zi x :: st) μ := by
  intro l p e s m args below meth c C hCx d H locs sl stk μr hd0 hS hP hμ hL hT
  obtain ⟨a1, stkh1, rfl, h1, hT1⟩ := zSR_cons (g := g) hT
  cases h1
  obtain ⟨a2, stkh2, rfl, h2, hT2⟩ := zSR_cons (g := g) hT1
  cases h2
  exact lv_imul C.1 C.2.1 hd  (k l p e s m args below meth c C hCx d H locs sl _ μr hd0 hS hP hμ hL ⟨rfl, hT2⟩)
theorem zy_iconst {g : ZG} {K : ZK} {nF : List Nat} {hs : Nat} {fi : Bool} {nr : List Nat} {kc kn : Nat} {pc : Nat} {ls : ZLS} {st : List ZV} {μ : ZMem} {n : Int} (v : Int32) (hd : decode (zKc K) pc = .ok (.iconst n, 1)) (hv : Int32.ofInt n = v) (k : zWN g K nF hs fi nr kc kn (pc + 1) ls (zi v :: st) μ) : zWN g K nF hs fi nr kc kn (pc) ls (st) μ := by
  intro l p e s m args below meth c C hCx d H locs sl stk μr hd0 hS hP hμ hL hT
  exact lv_iconst C.1 C.2.1 hd hv (k l p e s m args below meth c C hCx d H locs sl _ μr hd0 hS hP hμ hL ⟨rfl, hT⟩)
theorem zy_bipush {g : ZG} {K : ZK} {nF : List Nat} {hs : Nat} {fi : Bool} {nr : List Nat} {kc kn : Nat} {pc : Nat} {ls : ZLS} {st : List ZV} {μ : ZMem} {n : Int} (v : Int32) (hd : decode (zKc K) pc = .ok (.bipush n, 2)) (hv : (Int8.ofInt n).toInt32 = v) (k : zWN g K nF hs fi nr kc kn (pc + 2) ls (zi v :: st) μ) : zWN g K nF hs fi nr kc kn (pc) ls (st) μ := by
  intro l p e s m args below meth c C hCx d H locs sl stk μr hd0 hS hP hμ hL hT
  exact lv_bipush C.1 C.2.1 hd hv (k l p e s m args below meth c C hCx d H locs sl _ μr hd0 hS hP hμ hL ⟨rfl, hT⟩)
theorem zy_sipush {g : ZG} {K : ZK} {nF : List Nat} {hs : Nat} {fi : Bool} {nr : List Nat} {kc kn : Nat} {pc : Nat} {ls : ZLS} {st : List ZV} {μ : ZMem} {n : Int} (v : Int32) (hd : decode (zKc K) pc = .ok (.sipush n, 3)) (hv : (Int16.ofInt n).toInt32 = v) (k : zWN g K nF hs fi nr kc kn (pc + 3) ls (zi v :: st) μ) : zWN g K nF hs fi nr kc kn (pc) ls (st) μ := by
  intro l p e s m args below meth c C hCx d H locs sl stk μr hd0 hS hP hμ hL hT
  exact lv_sipush C.1 C.2.1 hd hv (k l p e s m args below meth c C hCx d H locs sl _ μr hd0 hS hP hμ hL ⟨rfl, hT⟩)
theorem zy_null {g : ZG} {K : ZK} {nF : List Nat} {hs : Nat} {fi : Bool} {nr : List Nat} {kc kn : Nat} {pc : Nat} {ls : ZLS} {st : List ZV} {μ : ZMem} (hd : decode (zKc K) pc = .ok (.aconst_null, 1)) (k : zWN g K nF hs fi nr kc kn (pc + 1) ls (zr none :: st) μ) : zWN g K nF hs fi nr kc kn (pc) ls (st) μ := by
  intro l p e s m args below meth c C hCx d H locs sl stk μr hd0 hS hP hμ hL hT
  exact lv_null C.1 C.2.1 hd (k l p e s m args below meth c C hCx d H locs sl _ μr hd0 hS hP hμ hL ⟨rfl, hT⟩)
theorem zy_dup {g : ZG} {K : ZK} {nF : List Nat} {hs : Nat} {fi : Bool} {nr : List Nat} {kc kn : Nat} {pc : Nat} {ls : ZLS} {st : List ZV} {μ : ZMem} {v : ZV} (hd : decode (zKc K) pc = .ok (.dup, 1)) (hv : zc2 v = false) (k : zWN g K nF hs fi nr kc kn (pc + 1) ls (v :: v :: st) μ) : zWN g K nF hs fi nr kc kn (pc) ls (v :: st) μ := by
  intro l p e s m args below meth c C hCx d H locs sl stk μr hd0 hS hP hμ hL hT
  obtain ⟨a1, stk1, rfl, h1, hT1⟩ := zSR_cons (g := g) hT
  exact lv_dup C.1 C.2.1 hd (zRv_cat1 h1 hv) (k l p e s m args below meth c C hCx d H locs sl _ μr hd0 hS hP hμ hL ⟨h1, h1, hT1⟩)
theorem zy_iload_n {g : ZG} {K : ZK} {nF : List Nat} {hs : Nat} {fi : Bool} {nr : List Nat} {kc kn : Nat} {pc : Nat} {ls : ZLS} {st : List ZV} {μ : ZMem} {n : Fin 4} {i : Nat} {x : Int32} (hd : decode (zKc K) pc = .ok (.iload_n n, 1)) (hi : (n : Nat) = i) (hl : ls i = some (zi x)) (k : zWN g K nF hs fi nr kc kn (pc + 1) ls (zi x :: st) μ) : zWN g K nF hs fi nr kc kn (pc) ls (st) μ := by
  intro l p e s m args below meth c C hCx d H locs sl stk μr hd0 hS hP hμ hL hT
  obtain ⟨a, ha, hr⟩ := zLR_get hL hl
  cases hr
  exact lv_iload_n C.1 C.2.1 hd hi ha (k l p e s m args below meth c C hCx d H locs sl _ μr hd0 hS hP hμ hL ⟨rfl, hT⟩)
theorem zy_iload {g : ZG} {K : ZK} {nF : List Nat} {hs : Nat} {fi : Bool} {nr : List Nat} {kc kn : Nat} {pc : Nat} {ls : ZLS} {st : List ZV} {μ : ZMem} {i : Nat} {x : Int32} (hd : decode (zKc K) pc = .ok (.iload i, 2)) (hl : ls i = some (zi x)) (k : zWN g K nF hs fi nr kc kn (pc + 2) ls (zi x :: st) μ) : zWN g K nF hs fi nr kc kn (pc) ls (st) μ := by
  intro l p e s m args below meth c C hCx d H locs sl stk μr hd0 hS hP hμ hL hT
  obtain ⟨a, ha, hr⟩ := zLR_get hL hl
  cases hr
  exact lv_iload C.1 C.2.1 hd ha (k l p e s m args below meth c C hCx d H locs sl _ μr hd0 hS hP hμ hL ⟨rfl, hT⟩)
theorem zy_aload_n {g : ZG} {K : ZK} {nF : List Nat} {hs : Nat} {fi : Bool} {nr : List Nat} {kc kn : Nat} {pc : Nat} {ls : ZLS} {st : List ZV} {μ : ZMem} {n : Fin 4} {i : Nat} {x : Option Nat} (hd : decode (zKc K) pc = .ok (.aload_n n, 1)) (hi : (n : Nat) = i) (hl : ls i = some (zr x)) (k : zWN g K nF hs fi nr kc kn (pc + 1) ls (zr x :: st) μ) : zWN g K nF hs fi nr kc kn (pc) ls (st) μ := by
  intro l p e s m args below meth c C hCx d H locs sl stk μr hd0 hS hP hμ hL hT
  obtain ⟨a, ha, hr⟩ := zLR_get hL hl
  have hr : a = va_rf (x.map (zad g)) := hr
  subst hr
  cases x with
  | none => exact lv_aload_nN C.1 C.2.1 hd hi ha (k l p e s m args below meth c C hCx d H locs sl _ μr hd0 hS hP hμ hL ⟨rfl, hT⟩)
  | some r => exact lv_aload_n C.1 C.2.1 hd hi ha (k l p e s m args below meth c C hCx d H locs sl _ μr hd0 hS hP hμ hL ⟨rfl, hT⟩)
theorem zy_aload {g : ZG} {K : ZK} {nF : List Nat} {hs : Nat} {fi : Bool} {nr : List Nat} {kc kn : Nat} {pc : Nat} {ls : ZLS} {st : List ZV} {μ : ZMem} {i : Nat} {x : Option Nat} (hd : decode (zKc K) pc = .ok (.aload i, 2))  (hl : ls i = some (zr x)) (k : zWN g K nF hs fi nr kc kn (pc + 2) ls (zr x :: st) μ) : zWN g K nF hs fi nr kc kn (pc) ls (st) μ := by
  intro l p e s m args below meth c C hCx d H locs sl stk μr hd0 hS hP hμ hL hT
  obtain ⟨a, ha, hr⟩ := zLR_get hL hl
  have hr : a = va_rf (x.map (zad g)) := hr
  subst hr
  cases x with
  | none => exact lv_aloadN C.1 C.2.1 hd ha (k l p e s m args below meth c C hCx d H locs sl _ μr hd0 hS hP hμ hL ⟨rfl, hT⟩)
  | some r => exact lv_aload C.1 C.2.1 hd ha (k l p e s m args below meth c C hCx d H locs sl _ μr hd0 hS hP hμ hL ⟨rfl, hT⟩)
theorem zy_istore_n {g : ZG} {K : ZK} {nF : List Nat} {hs : Nat} {fi : Bool} {nr : List Nat} {kc kn : Nat} {pc : Nat} {ls : ZLS} {st : List ZV} {μ : ZMem} {n : Fin 4} {i : Nat} {x : Int32} (hd : decode (zKc K) pc = .ok (.istore_n n, 1)) (hi : (n : Nat) = i) (hn : i < zKn K) (k : zWN g K nF hs fi nr kc kn (pc + 1) (zst1 ls i (zi x)) (st) μ) : zWN g K nF hs fi nr kc kn (pc) ls (zi x :: st) μ := by
  intro l p e s m args below meth c C hCx d H locs sl stk μr hd0 hS hP hμ hL hT
  obtain ⟨a1, stkh1, rfl, h1, hT1⟩ := zSR_cons (g := g) hT
  cases h1
  obtain ⟨lv, hl1, hl2⟩ := hL
  exact lv_istore_n C.1 C.2.1 hd hi hl1 hn rfl (fun sl hl => k l p e s m args below meth c C hCx d H locs sl _ μr hd0 hS hP hμ (zLR_st1 hl2 rfl hl) hT1)
theorem zy_istore {g : ZG} {K : ZK} {nF : List Nat} {hs : Nat} {fi : Bool} {nr : List Nat} {kc kn : Nat} {pc : Nat} {ls : ZLS} {st : List ZV} {μ : ZMem} {i : Nat} {x : Int32} (hd : decode (zKc K) pc = .ok (.istore i, 2))  (hn : i < zKn K) (k : zWN g K nF hs fi nr kc kn (pc + 2) (zst1 ls i (zi x)) (st) μ) : zWN g K nF hs fi nr kc kn (pc) ls (zi x :: st) μ := by
  intro l p e s m args below meth c C hCx d H locs sl stk μr hd0 hS hP hμ hL hT
  obtain ⟨a1, stkh1, rfl, h1, hT1⟩ := zSR_cons (g := g) hT
  cases h1
  obtain ⟨lv, hl1, hl2⟩ := hL
  exact lv_istore C.1 C.2.1 hd hl1 hn rfl (fun sl hl => k l p e s m args below meth c C hCx d H locs sl _ μr hd0 hS hP hμ (zLR_st1 hl2 rfl hl) hT1)
theorem zy_astore_n {g : ZG} {K : ZK} {nF : List Nat} {hs : Nat} {fi : Bool} {nr : List Nat} {kc kn : Nat} {pc : Nat} {ls : ZLS} {st : List ZV} {μ : ZMem} {n : Fin 4} {i : Nat} {x : Option Nat} (hd : decode (zKc K) pc = .ok (.astore_n n, 1)) (hi : (n : Nat) = i) (hn : i < zKn K) (k : zWN g K nF hs fi nr kc kn (pc + 1) (zst1 ls i (zr x)) (st) μ) : zWN g K nF hs fi nr kc kn (pc) ls (zr x :: st) μ := by
  intro l p e s m args below meth c C hCx d H locs sl stk μr hd0 hS hP hμ hL hT
  obtain ⟨a1, stk1, rfl, h1, hT1⟩ := zSR_cons (g := g) hT
  have h1 : a1 = va_rf (x.map (zad g)) := h1
  subst h1
  obtain ⟨lv, hl1, hl2⟩ := hL
  cases x with
  | none => exact lv_astore_nN C.1 C.2.1 hd hi hl1 hn rfl (fun sl hl => k l p e s m args below meth c C hCx d H locs sl _ μr hd0 hS hP hμ (zLR_st1 hl2 (v := zr none) rfl hl) hT1)
  | some r => exact lv_astore_n C.1 C.2.1 hd hi hl1 hn rfl (fun sl hl => k l p e s m args below meth c C hCx d H locs sl _ μr hd0 hS hP hμ (zLR_st1 hl2 (v := zr (some r)) rfl hl) hT1)
theorem zy_astore {g : ZG} {K : ZK} {nF : List Nat} {hs : Nat} {fi : Bool} {nr : List Nat} {kc kn : Nat} {pc : Nat} {ls : ZLS} {st : List ZV} {μ : ZMem} {i : Nat} {x : Option Nat} (hd : decode (zKc K) pc = .ok (.astore i, 2))  (hn : i < zKn K) (k : zWN g K nF hs fi nr kc kn (pc + 2) (zst1 ls i (zr x)) (st) μ) : zWN g K nF hs fi nr kc kn (pc) ls (zr x :: st) μ := by
  intro l p e s m args below meth c C hCx d H locs sl stk μr hd0 hS hP hμ hL hT
  obtain ⟨a1, stk1, rfl, h1, hT1⟩ := zSR_cons (g := g) hT
  have h1 : a1 = va_rf (x.map (zad g)) := h1
  subst h1
  obtain ⟨lv, hl1, hl2⟩ := hL
  cases x with
  | none => exact lv_astoreN C.1 C.2.1 hd hl1 hn rfl (fun sl hl => k l p e s m args below meth c C hCx d H locs sl _ μr hd0 hS hP hμ (zLR_st1 hl2 (v := zr none) rfl hl) hT1)
  | some r => exact lv_astore C.1 C.2.1 hd hl1 hn rfl (fun sl hl => k l p e s m args below meth c C hCx d H locs sl _ μr hd0 hS hP hμ (zLR_st1 hl2 (v := zr (some r)) rfl hl) hT1)
theorem zy_iinc {g : ZG} {K : ZK} {nF : List Nat} {hs : Nat} {fi : Bool} {nr : List Nat} {kc kn : Nat} {pc : Nat} {ls : ZLS} {st : List ZV} {μ : ZMem} {i : Nat} {n : Int} {x : Int32} (v : Int32) (hd : decode (zKc K) pc = .ok (.iinc i n, 3)) (hl : ls i = some (zi x)) (hv : x + Int32.ofInt n = v) (hn : i < zKn K) (k : zWN g K nF hs fi nr kc kn (pc + 3) (zst1 ls i (zi v)) (st) μ) : zWN g K nF hs fi nr kc kn (pc) ls (st) μ := by
  intro l p e s m args below meth c C hCx d H locs sl stk μr hd0 hS hP hμ hL hT
  obtain ⟨lv, hl1, hl2⟩ := hL
  obtain ⟨a, ha, hr⟩ := hl2 i _ hl
  cases hr
  obtain ⟨q, hq⟩ := List.getElem?_of_mem ha
  exact lv_iinc C.1 C.2.1 hd hl1 hq hv hn rfl (fun sl hl => k l p e s m args below meth c C hCx d H locs sl _ μr hd0 hS hP hμ (zLR_st1 hl2 (v := zi v) rfl hl) hT)
theorem zy_goto {g : ZG} {K : ZK} {nF : List Nat} {hs : Nat} {fi : Bool} {nr : List Nat} {kc kn : Nat} {pc : Nat} {ls : ZLS} {st : List ZV} {μ : ZMem} {off : Int} {tgt : Nat} (hd : decode (zKc K) pc = .ok (.goto off, 3)) (ht : (pc : Int) + off = (tgt : Int)) (k : zWN g K nF hs fi nr kc kn (tgt) ls (st) μ) : zWN g K nF hs fi nr kc kn (pc) ls (st) μ := by
  intro l p e s m args below meth c C hCx d H locs sl stk μr hd0 hS hP hμ hL hT
  exact lv_goto C.1 C.2.1 hd ht (k l p e s m args below meth c C hCx d H locs sl _ μr hd0 hS hP hμ hL hT)
theorem zy_icmp_ge {g : ZG} {K : ZK} {nF : List Nat} {hs : Nat} {fi : Bool} {nr : List Nat} {kc kn : Nat} {pc : Nat} {ls : ZLS} {st : List ZV} {μ : ZMem} {x y : Int32} {off : Int} {tgt : Nat} (hd : decode (zKc K) pc = .ok (.if_icmp .ge off, 3)) (ht : (pc : Int) + off = (tgt : Int)) (kt : y ≤ x → zWN g K nF hs fi nr kc kn (tgt) ls (st) μ) (kf : ¬ y ≤ x → zWN g K nF hs fi nr kc kn (pc + 3) ls (st) μ) : zWN g K nF hs fi nr kc kn (pc) ls (zi y :: zi x :: st) μ := by
  intro l p e s m args below meth c C hCx d H locs sl stk μr hd0 hS hP hμ hL hT
  obtain ⟨a1, stkh1, rfl, h1, hT1⟩ := zSR_cons (g := g) hT
  cases h1
  obtain ⟨a2, stkh2, rfl, h2, hT2⟩ := zSR_cons (g := g) hT1
  cases h2
  exact lv_icmp_ge C.1 C.2.1 hd ht (fun q => kt q l p e s m args below meth c C hCx d H locs sl _ μr hd0 hS hP hμ hL  hT2) (fun q => kf q l p e s m args below meth c C hCx d H locs sl _ μr hd0 hS hP hμ hL  hT2)
theorem zy_icmp_lt {g : ZG} {K : ZK} {nF : List Nat} {hs : Nat} {fi : Bool} {nr : List Nat} {kc kn : Nat} {pc : Nat} {ls : ZLS} {st : List ZV} {μ : ZMem} {x y : Int32} {off : Int} {tgt : Nat} (hd : decode (zKc K) pc = .ok (.if_icmp .lt off, 3)) (ht : (pc : Int) + off = (tgt : Int)) (kt : x < y → zWN g K nF hs fi nr kc kn (tgt) ls (st) μ) (kf : ¬ x < y → zWN g K nF hs fi nr kc kn (pc + 3) ls (st) μ) : zWN g K nF hs fi nr kc kn (pc) ls (zi y :: zi x :: st) μ := by
  intro l p e s m args below meth c C hCx d H locs sl stk μr hd0 hS hP hμ hL hT
  obtain ⟨a1, stkh1, rfl, h1, hT1⟩ := zSR_cons (g := g) hT
  cases h1
  obtain ⟨a2, stkh2, rfl, h2, hT2⟩ := zSR_cons (g := g) hT1
  cases h2
  exact lv_icmp_lt C.1 C.2.1 hd ht (fun q => kt q l p e s m args below meth c C hCx d H locs sl _ μr hd0 hS hP hμ hL  hT2) (fun q => kf q l p e s m args below meth c C hCx d H locs sl _ μr hd0 hS hP hμ hL  hT2)
theorem zy_icmp_le {g : ZG} {K : ZK} {nF : List Nat} {hs : Nat} {fi : Bool} {nr : List Nat} {kc kn : Nat} {pc : Nat} {ls : ZLS} {st : List ZV} {μ : ZMem} {x y : Int32} {off : Int} {tgt : Nat} (hd : decode (zKc K) pc = .ok (.if_icmp .le off, 3)) (ht : (pc : Int) + off = (tgt : Int)) (kt : x ≤ y → zWN g K nF hs fi nr kc kn (tgt) ls (st) μ) (kf : ¬ x ≤ y → zWN g K nF hs fi nr kc kn (pc + 3) ls (st) μ) : zWN g K nF hs fi nr kc kn (pc) ls (zi y :: zi x :: st) μ := by
  intro l p e s m args below meth c C hCx d H locs sl stk μr hd0 hS hP hμ hL hT
  obtain ⟨a1, stkh1, rfl, h1, hT1⟩ := zSR_cons (g := g) hT
  cases h1
  obtain ⟨a2, stkh2, rfl, h2, hT2⟩ := zSR_cons (g := g) hT1
  cases h2
  exact lv_icmp_le C.1 C.2.1 hd ht (fun q => kt q l p e s m args below meth c C hCx d H locs sl _ μr hd0 hS hP hμ hL  hT2) (fun q => kf q l p e s m args below meth c C hCx d H locs sl _ μr hd0 hS hP hμ hL  hT2)
theorem zy_if_lt {g : ZG} {K : ZK} {nF : List Nat} {hs : Nat} {fi : Bool} {nr : List Nat} {kc kn : Nat} {pc : Nat} {ls : ZLS} {st : List ZV} {μ : ZMem} {x : Int32} {off : Int} {tgt : Nat} (hd : decode (zKc K) pc = .ok (.ifCond .lt off, 3)) (ht : (pc : Int) + off = (tgt : Int)) (kt : x < 0 → zWN g K nF hs fi nr kc kn (tgt) ls (st) μ) (kf : ¬ x < 0 → zWN g K nF hs fi nr kc kn (pc + 3) ls (st) μ) : zWN g K nF hs fi nr kc kn (pc) ls (zi x :: st) μ := by
  intro l p e s m args below meth c C hCx d H locs sl stk μr hd0 hS hP hμ hL hT
  obtain ⟨a1, stkh1, rfl, h1, hT1⟩ := zSR_cons (g := g) hT
  cases h1
  exact lv_if_lt C.1 C.2.1 hd ht (fun q => kt q l p e s m args below meth c C hCx d H locs sl _ μr hd0 hS hP hμ hL  hT1) (fun q => kf q l p e s m args below meth c C hCx d H locs sl _ μr hd0 hS hP hμ hL  hT1)
theorem zy_putI {g : ZG} {K : ZK} {nF : List Nat} {hs : Nat} {fi : Bool} {nr : List Nat} {kc kn : Nat} {pc : Nat} {ls : ZLS} {st : List ZV} {μ : ZMem} {ci k r index : Nat} (hf : zFd (zKo K) index ci k false) (hO : zO (zgr g nr) ci r) {x : Int32} (hx : narrow (zft ci k) (.int x) = .int x ∧ fits (zft ci k) (.int x) = true) (ht : zft ci k = .int ∨ zft ci k = .boolean) (hd : decode (zKc K) pc = .ok (.putfield index, 3)) (kk : zWN g K nF hs fi nr kc kn (pc + 3) ls (st) (zsI μ r k x)) : zWN g K nF hs fi nr kc kn (pc) ls (zi x :: zr (some r) :: st) μ := by
  intro l p e s m args below meth c C hCx d H locs sl stk μr hd0 hS hP hμ hL hT
  obtain ⟨a1, stk1, rfl, h1, hT1⟩ := zSR_cons (g := g) hT
  cases h1
  obtain ⟨a2, stk2, rfl, h2, hT2⟩ := zSR_cons (g := g) hT1
  have h2 : a2 = .ref (zad (zgr g nr) r) := h2
  subst h2
  subst hμ
  obtain ⟨C0, T, N, q1, q2, q3, q4, q5, q6, q7, q8, q9⟩ := hf
  obtain ⟨q0, hq0, hq⟩ := zws_at (g := zgr g nr) hO.1
  refine va_put (D := zgD g) (ci := ci) (v := .int x) (ty := zft ci k) (C := C0) (T := T) (N := N) C.1 C.2.1 (dr_words C.2.2.2.2.1 d) q4 (zft ci) q7 q8 C.2.2.2.1 C.2.2.2.2.2.2.2.1 hP (zws_D0 (g := g) C.2.2.2.2.2.2.2.2.1 hCx.2.2.1 μr) hS q0 ((hq μr).trans (by rw [zpc_obj hO q3])) q1 k q5 ((dr_words C.2.2.2.2.1 d) _ q6) (fun _ h => h) q9 (q7 k q5) hx.1 hx.2 (by rw [zfs_len, ← q2]; exact q5) hd (fun H1 locs1 hP1 _ hS1 => ?_)
  rw [zws_set (g := zgr g nr) (μ' := zsI μr r k x) C.2.2.2.2.2.2.2.2.1 hq0 zpc_oI (by rw [zpc_obj hO q3, zfs_sI ht])] at hP1
  exact kk l p e s m args below meth c C hCx d H1 locs1 sl _ (zsI μr r k x) hd0 hS1 hP1 rfl hL hT2
theorem zy_putR {g : ZG} {K : ZK} {nF : List Nat} {hs : Nat} {fi : Bool} {nr : List Nat} {kc kn : Nat} {pc : Nat} {ls : ZLS} {st : List ZV} {μ : ZMem} {ci k r index : Nat} (hf : zFd (zKo K) index ci k false) (hO : zO (zgr g nr) ci r) {x : Option Nat} (ht : zref (zft ci k) = true) (hd : decode (zKc K) pc = .ok (.putfield index, 3)) (kk : zWN g K nF hs fi nr kc kn (pc + 3) ls (st) (zsR μ r k x)) : zWN g K nF hs fi nr kc kn (pc) ls (zr x :: zr (some r) :: st) μ := by
  intro l p e s m args below meth c C hCx d H locs sl stk μr hd0 hS hP hμ hL hT
  obtain ⟨a1, stk1, rfl, h1, hT1⟩ := zSR_cons (g := g) hT
  have h1 : a1 = va_rf (x.map (zad (zgr g nr))) := h1
  subst h1
  obtain ⟨a2, stk2, rfl, h2, hT2⟩ := zSR_cons (g := g) hT1
  have h2 : a2 = .ref (zad (zgr g nr) r) := h2
  subst h2
  subst hμ
  obtain ⟨C0, T, N, q1, q2, q3, q4, q5, q6, q7, q8, q9⟩ := hf
  obtain ⟨q0, hq0, hq⟩ := zws_at (g := zgr g nr) hO.1
  refine va_put (D := zgD g) (ci := ci) (v := va_rf (x.map (zad (zgr g nr)))) (ty := zft ci k) (C := C0) (T := T) (N := N) C.1 C.2.1 (dr_words C.2.2.2.2.1 d) q4 (zft ci) q7 q8 C.2.2.2.1 C.2.2.2.2.2.2.2.1 hP (zws_D0 (g := g) C.2.2.2.2.2.2.2.2.1 hCx.2.2.1 μr) hS q0 ((hq μr).trans (by rw [zpc_obj hO q3])) q1 k q5 ((dr_words C.2.2.2.2.1 d) _ q6) (fun _ h => h) q9 (q7 k q5) (by revert ht; cases zft ci k <;> intro ht <;> first | exact absurd ht (by decide) | (cases x <;> rfl)) (by revert ht; cases zft ci k <;> intro ht <;> first | exact absurd ht (by decide) | (cases x <;> rfl)) (by rw [zfs_len, ← q2]; exact q5) hd (fun H1 locs1 hP1 _ hS1 => ?_)
  rw [zws_set (g := zgr g nr) (μ' := zsR μr r k x) C.2.2.2.2.2.2.2.2.1 hq0 zpc_oR (by rw [zpc_obj hO q3, zfs_sR ht])] at hP1
  exact kk l p e s m args below meth c C hCx d H1 locs1 sl _ (zsR μr r k x) hd0 hS1 hP1 rfl hL hT2
theorem zy_aald {g : ZG} {K : ZK} {nF : List Nat} {hs : Nat} {fi : Bool} {nr : List Nat} {kc kn : Nat} {pc : Nat} {ls : ZLS} {st : List ZV} {μ : ZMem} {r : Nat} {i : Int32} (j : Nat) {kd : Nat} {o' : Option Nat} (hO : zO (zgr g nr) kd r) (hkd : 12 ≤ kd ∧ kd ≤ 17) (hi : i = nI j) (hj : j < zln (zgr g nr) r ∧ zln (zgr g nr) r ≤ 100000) (hR : zR μ r j = o') (hd : decode (zKc K) pc = .ok (.aaload, 1)) (kk : zWN g K nF hs fi nr kc kn (pc + 1) ls (zr o' :: st) μ) : zWN g K nF hs fi nr kc kn (pc) ls (zi i :: zr (some r) :: st) μ := by
  intro l p e s m args below meth c C hCx d H locs sl stk μr hd0 hS hP hμ hL hT
  obtain ⟨a1, stk1, rfl, h1, hT1⟩ := zSR_cons (g := g) hT
  cases h1
  obtain ⟨a2, stk2, rfl, h2, hT2⟩ := zSR_cons (g := g) hT1
  have h2 : a2 = .ref (zad (zgr g nr) r) := h2
  subst h2
  subst hμ
  subst hi
  have hcl : (nI j).toNatClampNeg = j := nI_clamp (by omega)
  have hv : vp_in (nI j) (zln (zgr g nr) r) := vp_in_nI hj.1 (by omega)
  obtain ⟨q0, hq0, hq⟩ := zws_at (g := zgr g nr) hO.1
  subst hR
  obtain ⟨ty, ht, hrf⟩ := zty_ref (zgr g nr) hkd
  have ha := (hq μr).trans (by rw [zpc_arr hO (by omega), zpay_ref hkd])
  have hlt : (nI j).toNatClampNeg < zln (zgr g nr) r := by rw [hcl]; exact hj.1
  refine W.aald (s := s.setDrawn d) (v := va_rf ((zR μr r (nI j).toNatClampNeg).map (zad (zgr g nr)))) (ty := ty) C.1 C.2.1 (hP q0 _ ha) ((C.2.2.2.2.2.2.2.1.2 _ _ ht).1 (zln (zgr g nr) r) (fun k => va_rf ((zR μr r k).map (zad (zgr g nr))))) hrf (fun q => by cases q) (by show ¬ (nI j < 0 ∨ (arrV _ _ _).slots.size ≤ _); rw [arrV_size]; exact hv) (by show (arrV _ _ _).slots[_]? = _; rw [arrV_read _ _ hlt]) rfl rfl hd ?_
  rw [hcl]
  exact kk l p e s m args below meth c C hCx d H locs sl _ μr hd0 hS hP rfl hL ⟨rfl, hT2⟩
theorem zy_alen {g : ZG} {K : ZK} {nF : List Nat} {hs : Nat} {fi : Bool} {nr : List Nat} {kc kn : Nat} {pc : Nat} {ls : ZLS} {st : List ZV} {μ : ZMem} {r kd : Nat} (v : Int32) (hO : zO (zgr g nr) kd r) (hkd : 8 ≤ kd ∧ kd ≤ 17) (hv : v = nI (zln (zgr g nr) r)) (hd : decode (zKc K) pc = .ok (.arraylength, 1)) (kk : zWN g K nF hs fi nr kc kn (pc + 1) ls (zi v :: st) μ) : zWN g K nF hs fi nr kc kn (pc) ls (zr (some r) :: st) μ := by
  intro l p e s m args below meth c C hCx d H locs sl stk μr hd0 hS hP hμ hL hT
  obtain ⟨a1, stk1, rfl, h1, hT1⟩ := zSR_cons (g := g) hT
  have h1 : a1 = .ref (zad (zgr g nr) r) := h1
  subst h1
  subst hv
  obtain ⟨q0, hq0, hq⟩ := zws_at (g := zgr g nr) hO.1
  obtain ⟨ty, ht⟩ := zty_at (zgr g nr) hkd
  exact va_alen (s := s.setDrawn d) (x := (zln (zgr g nr) r, zpay (zgr g nr) μr r kd)) (v := nI (zln (zgr g nr) r)) C.1 C.2.1 C.2.2.2.2.2.2.2.1 hP q0 _ ((hq μr).trans (by rw [zpc_arr hO hkd.1])) ht rfl hd (kk l p e s m args below meth c C hCx d H locs sl _ μr hd0 hS hP hμ hL ⟨rfl, hT1⟩)
