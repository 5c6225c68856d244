theorem zq_iadd {g : ZG} {K : ZK} {W9 : ZW9} {Q9 : ZQ9} {pc : Nat} {ls : ZLS} {st : List ZV} {μ : ZMem × ZMem} {x y : Int32} (hd : decode (zKc K) pc = .ok (.iadd, 1))  (k : zLW g W9 Q9 K (pc + 1) ls (zi (x + y) :: st) μ) : zLW g W9 Q9 K (pc) ls (zi y :: zi x :: st) μ := by
  intro l p e s m args below meth c C d H locs sl stk μr hd0 hS hP hμ hL hT
  obtain ⟨a1, stkh1, rfl, h1, hT1⟩ := zSR_cons hT
  cases h1
  obtain ⟨a2, stkh2, rfl, h2, hT2⟩ := zSR_cons hT1
  cases h2
  exact lv_iadd C.1 C.2.1 hd  (k l p e s m args below meth c C d H locs sl _ μr hd0 hS hP hμ hL ⟨rfl, hT2⟩)
theorem zq_isub {g : ZG} {K : ZK} {W9 : ZW9} {Q9 : ZQ9} {pc : Nat} {ls : ZLS} {st : List ZV} {μ : ZMem × ZMem} {x y : Int32} (hd : decode (zKc K) pc = .ok (.isub, 1))  (k : zLW g W9 Q9 K (pc + 1) ls (zi (x - y) :: st) μ) : zLW g W9 Q9 K (pc) ls (zi y :: zi x :: st) μ := by
  intro l p e s m args below meth c C d H locs sl stk μr hd0 hS hP hμ hL hT
  obtain ⟨a1, stkh1, rfl, h1, hT1⟩ := zSR_cons hT
  cases h1
  obtain ⟨a2, stkh2, rfl, h2, hT2⟩ := zSR_cons hT1
  cases h2
  exact lv_isub C.1 C.2.1 hd  (k l p e s m args below meth c C d H locs sl _ μr hd0 hS hP hμ hL ⟨rfl, hT2⟩)
theorem zq_i2d {g : ZG} {K : ZK} {W9 : ZW9} {Q9 : ZQ9} {pc : Nat} {ls : ZLS} {st : List ZV} {μ : ZMem × ZMem} {x : Int32} (hd : decode (zKc K) pc = .ok (.i2d, 1)) (k : zLW g W9 Q9 K (pc + 1) ls (zd (FP.i2d x) :: st) μ) : zLW g W9 Q9 K (pc) ls (zi x :: st) μ := by
  intro l p e s m args below meth c C d H locs sl stk μr hd0 hS hP hμ hL hT
  obtain ⟨a1, stkh1, rfl, h1, hT1⟩ := zSR_cons hT
  cases h1
  exact lv_i2d C.1 C.2.1 hd (k l p e s m args below meth c C d H locs sl _ μr hd0 hS hP hμ hL ⟨⟨_, rfl, zi2d_cn x⟩, hT1⟩)
theorem zq_dmul {g : ZG} {K : ZK} {W9 : ZW9} {Q9 : ZQ9} {pc : Nat} {ls : ZLS} {st : List ZV} {μ : ZMem × ZMem} {x y : UInt64} (hd : decode (zKc K) pc = .ok (.dmul, 1)) (k : zLW g W9 Q9 K (pc + 1) ls (zd (zmul x y) :: st) μ) : zLW g W9 Q9 K (pc) ls (zd y :: zd x :: st) μ := by
  intro l p e s m args below meth c C d H locs sl stk μr hd0 hS hP hμ hL hT
  obtain ⟨a_y2, stkh1, rfl, h1, hT1⟩ := zSR_cons hT
  obtain ⟨y2, rfl, rfl⟩ := h1
  obtain ⟨a_x2, stkh2, rfl, h2, hT2⟩ := zSR_cons hT1
  obtain ⟨x2, rfl, rfl⟩ := h2
  refine lv_dmul_any hd0 lw_bits C.1 C.2.1 hd (fun r d1 hal hd1 => ?_)
  exact (k l p e s m args below meth c C d1 H locs sl _ μr hd1 hS hP hμ hL ⟨⟨r, rfl, by unfold zmul; rw [zmul_in]; exact zcn_alike hal⟩, hT2⟩)
theorem zq_iconst {g : ZG} {K : ZK} {W9 : ZW9} {Q9 : ZQ9} {pc : Nat} {ls : ZLS} {st : List ZV} {μ : ZMem × ZMem} {n : Int} (v : Int32) (hd : decode (zKc K) pc = .ok (.iconst n, 1)) (hv : Int32.ofInt n = v) (k : zLW g W9 Q9 K (pc + 1) ls (zi v :: st) μ) : zLW g W9 Q9 K (pc) ls (st) μ := by
  intro l p e s m args below meth c C d H locs sl stk μr hd0 hS hP hμ hL hT
  exact lv_iconst C.1 C.2.1 hd hv (k l p e s m args below meth c C d H locs sl _ μr hd0 hS hP hμ hL ⟨rfl, hT⟩)
theorem zq_bipush {g : ZG} {K : ZK} {W9 : ZW9} {Q9 : ZQ9} {pc : Nat} {ls : ZLS} {st : List ZV} {μ : ZMem × ZMem} {n : Int} (v : Int32) (hd : decode (zKc K) pc = .ok (.bipush n, 2)) (hv : (Int8.ofInt n).toInt32 = v) (k : zLW g W9 Q9 K (pc + 2) ls (zi v :: st) μ) : zLW g W9 Q9 K (pc) ls (st) μ := by
  intro l p e s m args below meth c C d H locs sl stk μr hd0 hS hP hμ hL hT
  exact lv_bipush C.1 C.2.1 hd hv (k l p e s m args below meth c C d H locs sl _ μr hd0 hS hP hμ hL ⟨rfl, hT⟩)
theorem zq_iand {g : ZG} {K : ZK} {W9 : ZW9} {Q9 : ZQ9} {pc : Nat} {ls : ZLS} {st : List ZV} {μ : ZMem × ZMem} {x y : Int32} (hd : decode (zKc K) pc = .ok (.iand, 1))  (k : zLW g W9 Q9 K (pc + 1) ls (zi (x &&& y) :: st) μ) : zLW g W9 Q9 K (pc) ls (zi y :: zi x :: st) μ := by
  intro l p e s m args below meth c C d H locs sl stk μr hd0 hS hP hμ hL hT
  obtain ⟨a1, stkh1, rfl, h1, hT1⟩ := zSR_cons hT
  cases h1
  obtain ⟨a2, stkh2, rfl, h2, hT2⟩ := zSR_cons hT1
  cases h2
  exact lv_iand C.1 C.2.1 hd  (k l p e s m args below meth c C d H locs sl _ μr hd0 hS hP hμ hL ⟨rfl, hT2⟩)
theorem zq_iload_n {g : ZG} {K : ZK} {W9 : ZW9} {Q9 : ZQ9} {pc : Nat} {ls : ZLS} {st : List ZV} {μ : ZMem × ZMem} {n : Fin 4} {i : Nat} {x : Int32} (hd : decode (zKc K) pc = .ok (.iload_n n, 1)) (hi : (n : Nat) = i) (hl : ls i = some (zi x)) (k : zLW g W9 Q9 K (pc + 1) ls (zi x :: st) μ) : zLW g W9 Q9 K (pc) ls (st) μ := by
  intro l p e s m args below meth c C d H locs sl stk μr hd0 hS hP hμ hL hT
  obtain ⟨a, ha, hr⟩ := zLR_get hL hl
  cases hr
  exact lv_iload_n C.1 C.2.1 hd hi ha (k l p e s m args below meth c C d H locs sl _ μr hd0 hS hP hμ hL ⟨rfl, hT⟩)
theorem zq_aload_n {g : ZG} {K : ZK} {W9 : ZW9} {Q9 : ZQ9} {pc : Nat} {ls : ZLS} {st : List ZV} {μ : ZMem × ZMem} {n : Fin 4} {i : Nat} {x : Option Nat} (hd : decode (zKc K) pc = .ok (.aload_n n, 1)) (hi : (n : Nat) = i) (hl : ls i = some (zr x)) (k : zLW g W9 Q9 K (pc + 1) ls (zr x :: st) μ) : zLW g W9 Q9 K (pc) ls (st) μ := by
  intro l p e s m args below meth c C d H locs sl stk μr hd0 hS hP hμ hL hT
  obtain ⟨a, ha, hr⟩ := zLR_get hL hl
  have hr : a = va_rf (x.map (zad g)) := hr
  subst hr
  cases x with
  | none => exact lv_aload_nN C.1 C.2.1 hd hi ha (k l p e s m args below meth c C d H locs sl _ μr hd0 hS hP hμ hL ⟨rfl, hT⟩)
  | some r => exact lv_aload_n C.1 C.2.1 hd hi ha (k l p e s m args below meth c C d H locs sl _ μr hd0 hS hP hμ hL ⟨rfl, hT⟩)
theorem zq_istore_n {g : ZG} {K : ZK} {W9 : ZW9} {Q9 : ZQ9} {pc : Nat} {ls : ZLS} {st : List ZV} {μ : ZMem × ZMem} {n : Fin 4} {i : Nat} {x : Int32} (hd : decode (zKc K) pc = .ok (.istore_n n, 1)) (hi : (n : Nat) = i) (hn : i < zKn K) (k : zLW g W9 Q9 K (pc + 1) (zst1 ls i (zi x)) (st) μ) : zLW g W9 Q9 K (pc) ls (zi x :: st) μ := by
  intro l p e s m args below meth c C d H locs sl stk μr hd0 hS hP hμ hL hT
  obtain ⟨a1, stkh1, rfl, h1, hT1⟩ := zSR_cons hT
  cases h1
  obtain ⟨lv, hl1, hl2⟩ := hL
  exact lv_istore_n C.1 C.2.1 hd hi hl1 hn rfl (fun sl hl => k l p e s m args below meth c C d H locs sl _ μr hd0 hS hP hμ (zLR_st1 hl2 rfl hl) hT1)
theorem zq_dload {g : ZG} {K : ZK} {W9 : ZW9} {Q9 : ZQ9} {pc : Nat} {ls : ZLS} {st : List ZV} {μ : ZMem × ZMem} {i : Nat} {x : UInt64} (hd : decode (zKc K) pc = .ok (.dload i, 2)) (hl : ls i = some (zd x)) (k : zLW g W9 Q9 K (pc + 2) ls (zd x :: st) μ) : zLW g W9 Q9 K (pc) ls (st) μ := by
  intro l p e s m args below meth c C d H locs sl stk μr hd0 hS hP hμ hL hT
  obtain ⟨a, ha, y, rfl, hy⟩ := zLR_get hL hl
  exact lv_dload C.1 C.2.1 hd ha (k l p e s m args below meth c C d H locs sl _ μr hd0 hS hP hμ hL ⟨⟨y, rfl, hy⟩, hT⟩)
theorem zq_dstore {g : ZG} {K : ZK} {W9 : ZW9} {Q9 : ZQ9} {pc : Nat} {ls : ZLS} {st : List ZV} {μ : ZMem × ZMem} {i : Nat} {x : UInt64} (hd : decode (zKc K) pc = .ok (.dstore i, 2))  (hn : i + 1 < zKn K) (k : zLW g W9 Q9 K (pc + 2) (zst2 ls i (zd x)) (st) μ) : zLW g W9 Q9 K (pc) ls (zd x :: st) μ := by
  intro l p e s m args below meth c C d H locs sl stk μr hd0 hS hP hμ hL hT
  obtain ⟨a_y, stkh1, rfl, h1, hT1⟩ := zSR_cons hT
  obtain ⟨y, rfl, rfl⟩ := h1
  obtain ⟨lv, hl1, hl2⟩ := hL
  exact lv_dstore C.1 C.2.1 hd hl1 hn rfl (fun sl hl => k l p e s m args below meth c C d H locs sl _ μr hd0 hS hP hμ (zLR_st2 hl2 ⟨y, rfl, rfl⟩ hl) hT1)
theorem zq_iinc {g : ZG} {K : ZK} {W9 : ZW9} {Q9 : ZQ9} {pc : Nat} {ls : ZLS} {st : List ZV} {μ : ZMem × ZMem} {i : Nat} {n : Int} {x : Int32} (v : Int32) (hd : decode (zKc K) pc = .ok (.iinc i n, 3)) (hl : ls i = some (zi x)) (hv : x + Int32.ofInt n = v) (hn : i < zKn K) (k : zLW g W9 Q9 K (pc + 3) (zst1 ls i (zi v)) (st) μ) : zLW g W9 Q9 K (pc) ls (st) μ := by
  intro l p e s m args below meth c C d H locs sl stk μr hd0 hS hP hμ hL hT
  obtain ⟨lv, hl1, hl2⟩ := hL
  obtain ⟨a, ha, hr⟩ := hl2 i _ hl
  cases hr
  obtain ⟨q, hq⟩ := List.getElem?_of_mem ha
  exact lv_iinc C.1 C.2.1 hd hl1 hq hv hn rfl (fun sl hl => k l p e s m args below meth c C d H locs sl _ μr hd0 hS hP hμ (zLR_st1 hl2 (v := zi v) rfl hl) hT)
theorem zq_goto {g : ZG} {K : ZK} {W9 : ZW9} {Q9 : ZQ9} {pc : Nat} {ls : ZLS} {st : List ZV} {μ : ZMem × ZMem} {off : Int} {tgt : Nat} (hd : decode (zKc K) pc = .ok (.goto off, 3)) (ht : (pc : Int) + off = (tgt : Int)) (k : zLW g W9 Q9 K (tgt) ls (st) μ) : zLW g W9 Q9 K (pc) ls (st) μ := by
  intro l p e s m args below meth c C d H locs sl stk μr hd0 hS hP hμ hL hT
  exact lv_goto C.1 C.2.1 hd ht (k l p e s m args below meth c C d H locs sl _ μr hd0 hS hP hμ hL hT)
theorem zq_icmp_gt {g : ZG} {K : ZK} {W9 : ZW9} {Q9 : ZQ9} {pc : Nat} {ls : ZLS} {st : List ZV} {μ : ZMem × ZMem} {x y : Int32} {off : Int} {tgt : Nat} (hd : decode (zKc K) pc = .ok (.if_icmp .gt off, 3)) (ht : (pc : Int) + off = (tgt : Int)) (kt : y < x → zLW g W9 Q9 K (tgt) ls (st) μ) (kf : ¬ y < x → zLW g W9 Q9 K (pc + 3) ls (st) μ) : zLW g W9 Q9 K (pc) ls (zi y :: zi x :: st) μ := by
  intro l p e s m args below meth c C d H locs sl stk μr hd0 hS hP hμ hL hT
  obtain ⟨a1, stkh1, rfl, h1, hT1⟩ := zSR_cons hT
  cases h1
  obtain ⟨a2, stkh2, rfl, h2, hT2⟩ := zSR_cons hT1
  cases h2
  exact lv_icmp_gt C.1 C.2.1 hd ht (fun q => kt q l p e s m args below meth c C d H locs sl _ μr hd0 hS hP hμ hL  hT2) (fun q => kf q l p e s m args below meth c C d H locs sl _ μr hd0 hS hP hμ hL  hT2)
theorem zq_icmp_eq {g : ZG} {K : ZK} {W9 : ZW9} {Q9 : ZQ9} {pc : Nat} {ls : ZLS} {st : List ZV} {μ : ZMem × ZMem} {x y : Int32} {off : Int} {tgt : Nat} (hd : decode (zKc K) pc = .ok (.if_icmp .eq off, 3)) (ht : (pc : Int) + off = (tgt : Int)) (kt : x = y → zLW g W9 Q9 K (tgt) ls (st) μ) (kf : ¬ x = y → zLW g W9 Q9 K (pc + 3) ls (st) μ) : zLW g W9 Q9 K (pc) ls (zi y :: zi x :: st) μ := by
  intro l p e s m args below meth c C d H locs sl stk μr hd0 hS hP hμ hL hT
  obtain ⟨a1, stkh1, rfl, h1, hT1⟩ := zSR_cons hT
  cases h1
  obtain ⟨a2, stkh2, rfl, h2, hT2⟩ := zSR_cons hT1
  cases h2
  exact lv_icmp_eq C.1 C.2.1 hd ht (fun q => kt q l p e s m args below meth c C d H locs sl _ μr hd0 hS hP hμ hL  hT2) (fun q => kf q l p e s m args below meth c C d H locs sl _ μr hd0 hS hP hμ hL  hT2)
theorem zq_if_eq {g : ZG} {K : ZK} {W9 : ZW9} {Q9 : ZQ9} {pc : Nat} {ls : ZLS} {st : List ZV} {μ : ZMem × ZMem} {x : Int32} {off : Int} {tgt : Nat} (hd : decode (zKc K) pc = .ok (.ifCond .eq off, 3)) (ht : (pc : Int) + off = (tgt : Int)) (kt : x = 0 → zLW g W9 Q9 K (tgt) ls (st) μ) (kf : ¬ x = 0 → zLW g W9 Q9 K (pc + 3) ls (st) μ) : zLW g W9 Q9 K (pc) ls (zi x :: st) μ := by
  intro l p e s m args below meth c C d H locs sl stk μr hd0 hS hP hμ hL hT
  obtain ⟨a1, stkh1, rfl, h1, hT1⟩ := zSR_cons hT
  cases h1
  exact lv_if_eq C.1 C.2.1 hd ht (fun q => kt q l p e s m args below meth c C d H locs sl _ μr hd0 hS hP hμ hL  hT1) (fun q => kf q l p e s m args below meth c C d H locs sl _ μr hd0 hS hP hμ hL  hT1)
theorem zq_if_ne {g : ZG} {K : ZK} {W9 : ZW9} {Q9 : ZQ9} {pc : Nat} {ls : ZLS} {st : List ZV} {μ : ZMem × ZMem} {x : Int32} {off : Int} {tgt : Nat} (hd : decode (zKc K) pc = .ok (.ifCond .ne off, 3)) (ht : (pc : Int) + off = (tgt : Int)) (kt : ¬ x = 0 → zLW g W9 Q9 K (tgt) ls (st) μ) (kf : x = 0 → zLW g W9 Q9 K (pc + 3) ls (st) μ) : zLW g W9 Q9 K (pc) ls (zi x :: st) μ := by
  intro l p e s m args below meth c C d H locs sl stk μr hd0 hS hP hμ hL hT
  obtain ⟨a1, stkh1, rfl, h1, hT1⟩ := zSR_cons hT
  cases h1
  exact lv_if_ne C.1 C.2.1 hd ht (fun q => kt q l p e s m args below meth c C d H locs sl _ μr hd0 hS hP hμ hL  hT1) (fun q => kf q l p e s m args below meth c C d H locs sl _ μr hd0 hS hP hμ hL  hT1)
theorem zq_dcmp {g : ZG} {K : ZK} {W9 : ZW9} {Q9 : ZQ9} {pc : Nat} {ls : ZLS} {st : List ZV} {μ : ZMem × ZMem} {x y : UInt64} {op : CmpOp} (hd : decode (zKc K) pc = .ok (.dcmp op, 1)) (k : zLW g W9 Q9 K (pc + 1) ls (zi (Op.cmpValue (FP.dcmp x y) op) :: st) μ) : zLW g W9 Q9 K (pc) ls (zd y :: zd x :: st) μ := by
  intro l p e s m args below meth c C d H locs sl stk μr hd0 hS hP hμ hL hT
  obtain ⟨a_y2, stkh1, rfl, h1, hT1⟩ := zSR_cons hT
  obtain ⟨y2, rfl, rfl⟩ := h1
  obtain ⟨a_x2, stkh2, rfl, h2, hT2⟩ := zSR_cons hT1
  obtain ⟨x2, rfl, rfl⟩ := h2
  exact lv_dcmp C.1 C.2.1 hd (k l p e s m args below meth c C d H locs sl _ μr hd0 hS hP hμ hL ⟨by rw [zcmp_in]; rfl, hT2⟩)
theorem zq_lcmp {g : ZG} {K : ZK} {W9 : ZW9} {Q9 : ZQ9} {pc : Nat} {ls : ZLS} {st : List ZV} {μ : ZMem × ZMem} {x y : Int64} (hd : decode (zKc K) pc = .ok (.lcmp, 1)) (k : zLW g W9 Q9 K (pc + 1) ls (zi (lg_cmp x y) :: st) μ) : zLW g W9 Q9 K (pc) ls (zl y :: zl x :: st) μ := by
  intro l p e s m args below meth c C d H locs sl stk μr hd0 hS hP hμ hL hT
  obtain ⟨a1, stkh1, rfl, h1, hT1⟩ := zSR_cons hT
  cases h1
  obtain ⟨a2, stkh2, rfl, h2, hT2⟩ := zSR_cons hT1
  cases h2
  exact W.lcmp C.1 C.2.1 hd (k l p e s m args below meth c C d H locs sl _ μr hd0 hS hP hμ hL ⟨rfl, hT2⟩)
theorem zq_ldc2d {g : ZG} {K : ZK} {W9 : ZW9} {Q9 : ZQ9} {pc : Nat} {ls : ZLS} {st : List ZV} {μ : ZMem × ZMem} {index : Nat} (v : UInt64) (hw : Jvm.Cond.constantDouble (zKo K) index v ∈ lw_good) (hv : zcn v = v) (hd : decode (zKc K) pc = .ok (.ldc2_w index, 3)) (k : zLW g W9 Q9 K (pc + 3) ls (zd v :: st) μ) : zLW g W9 Q9 K (pc) ls (st) μ := by
  intro l p e s m args below meth c C d H locs sl stk μr hd0 hS hP hμ hL hT
  exact lv_ldc2d C.1 C.2.1 C.2.2.2.1 (dr_words C.2.2.2.2.1 d _ hw) hd (k l p e s m args below meth c C d H locs sl _ μr hd0 hS hP hμ hL ⟨⟨_, rfl, hv⟩, hT⟩)
