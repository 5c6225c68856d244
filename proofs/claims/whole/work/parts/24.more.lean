theorem zlc_ge (x y : Int64) : 0 ≤ lg_cmp x y ↔ ¬ x < y := by
  rw [lg_cmp_ge, Int64.le_iff_toInt_le, Int64.lt_iff_toInt_lt]
  omega
theorem zlc_le (x y : Int64) : lg_cmp x y ≤ 0 ↔ ¬ y < x := by
  unfold lg_cmp
  by_cases h : y < x
  · rw [if_pos h]
    exact ⟨fun q => absurd q (by decide), fun q => absurd h q⟩
  · rw [if_neg h]
    refine ⟨fun _ => h, fun _ => ?_⟩
    by_cases h2 : x = y
    · rw [if_pos h2]; decide
    · rw [if_neg h2]; decide
theorem zlc_eq (x y : Int64) : lg_cmp x y = 0 ↔ x = y := by
  unfold lg_cmp
  by_cases h : y < x
  · rw [if_pos h]
    refine ⟨fun q => absurd q (by decide), fun q => ?_⟩
    rw [q, Int64.lt_iff_toInt_lt] at h
    omega
  · rw [if_neg h]
    by_cases h2 : x = y
    · rw [if_pos h2]; exact ⟨fun _ => h2, fun _ => rfl⟩
    · rw [if_neg h2]; exact ⟨fun q => absurd q (by decide), fun q => absurd q h2⟩
/-- the comparisons of doubles, as Java has them -/
def zlt (x y : UInt64) : Bool := match FP.dcmp x y with
  | some .lt => true
  | _ => false
def zle (x y : UInt64) : Bool := match FP.dcmp x y with
  | some .lt => true
  | some .eq => true
  | _ => false
def zgt (x y : UInt64) : Bool := match FP.dcmp x y with
  | some .gt => true
  | _ => false
def zge (x y : UInt64) : Bool := match FP.dcmp x y with
  | some .gt => true
  | some .eq => true
  | _ => false
def zeq (x y : UInt64) : Bool := match FP.dcmp x y with
  | some .eq => true
  | _ => false
theorem zdg_ge (x y : UInt64) : 0 ≤ Op.cmpValue (FP.dcmp x y) .g ↔ zlt x y = false := by
  unfold zlt Op.cmpValue
  rcases FP.dcmp x y with _ | (_ | _ | _) <;> decide
theorem zdg_gt (x y : UInt64) : 0 < Op.cmpValue (FP.dcmp x y) .g ↔ zle x y = false := by
  unfold zle Op.cmpValue
  rcases FP.dcmp x y with _ | (_ | _ | _) <;> decide
theorem zdl_le (x y : UInt64) : Op.cmpValue (FP.dcmp x y) .l ≤ 0 ↔ zgt x y = false := by
  unfold zgt Op.cmpValue
  rcases FP.dcmp x y with _ | (_ | _ | _) <;> decide
theorem zdl_lt (x y : UInt64) : Op.cmpValue (FP.dcmp x y) .l < 0 ↔ zge x y = false := by
  unfold zge Op.cmpValue
  rcases FP.dcmp x y with _ | (_ | _ | _) <;> decide
theorem zdl_eq (x y : UInt64) : Op.cmpValue (FP.dcmp x y) .l = 0 ↔ zeq x y = true := by
  unfold zeq Op.cmpValue
  rcases FP.dcmp x y with _ | (_ | _ | _) <;> decide
theorem zbt {b : Bool} (h : ¬ b = false) : b = true := by cases b <;> simp_all
theorem zbf {b : Bool} (h : ¬ b = true) : b = false := by cases b <;> simp_all
theorem zx_lc_lt {g : ZG} {K : ZK} {pc tgt : Nat} {ls : ZLS} {st : List ZV} {μ : ZMem} {off : Int} {a b : Int64} (hd : decode (zKc K) pc = .ok (.lcmp, 1)) (hd2 : decode (zKc K) (pc + 1) = .ok (.ifCond .lt off, 3)) (ht : ((pc + 1 : Nat) : Int) + off = (tgt : Int)) (kt : a < b → zWA g K tgt ls st μ) (kf : ¬ a < b → zWA g K (pc + 4) ls st μ) : zWA g K pc ls (zl b :: zl a :: st) μ :=
  zx_lcmp hd (zx_if_lt hd2 ht (fun q => kt (Decidable.not_not.mp (fun z => absurd ((zlc_ge a b).mpr z) (Int32.not_le.mpr q)))) (fun q => kf (fun z => absurd z ((zlc_ge a b).mp (Int32.not_lt.mp q)))))
theorem zx_lc_gt {g : ZG} {K : ZK} {pc tgt : Nat} {ls : ZLS} {st : List ZV} {μ : ZMem} {off : Int} {a b : Int64} (hd : decode (zKc K) pc = .ok (.lcmp, 1)) (hd2 : decode (zKc K) (pc + 1) = .ok (.ifCond .gt off, 3)) (ht : ((pc + 1 : Nat) : Int) + off = (tgt : Int)) (kt : b < a → zWA g K tgt ls st μ) (kf : ¬ b < a → zWA g K (pc + 4) ls st μ) : zWA g K pc ls (zl b :: zl a :: st) μ :=
  zx_lcmp hd (zx_if_gt hd2 ht (fun q => kt (Decidable.not_not.mp (fun z => absurd ((zlc_le a b).mpr z) (Int32.not_le.mpr q)))) (fun q => kf (fun z => absurd z ((zlc_le a b).mp (Int32.not_lt.mp q)))))
section ZF
variable {g : ZG} {K : ZK} {pc tgt : Nat} {ls : ZLS} {st : List ZV} {μ : ZMem} {off : Int} {x y : UInt64} {a b : Int64}
theorem zx_dg_ge (hd : decode (zKc K) pc = .ok (.dcmp .g, 1)) (hd2 : decode (zKc K) (pc + 1) = .ok (.ifCond .ge off, 3)) (ht : ((pc + 1 : Nat) : Int) + off = (tgt : Int)) (kt : zlt x y = false → zWA g K tgt ls st μ) (kf : zlt x y = true → zWA g K (pc + 4) ls st μ) : zWA g K pc ls (zd y :: zd x :: st) μ :=
  zx_dcmp hd (zx_if_ge hd2 ht (fun q => kt ((zdg_ge x y).mp q)) (fun q => kf (zbt (fun z => q ((zdg_ge x y).mpr z)))))
theorem zx_dg_gt (hd : decode (zKc K) pc = .ok (.dcmp .g, 1)) (hd2 : decode (zKc K) (pc + 1) = .ok (.ifCond .gt off, 3)) (ht : ((pc + 1 : Nat) : Int) + off = (tgt : Int)) (kt : zle x y = false → zWA g K tgt ls st μ) (kf : zle x y = true → zWA g K (pc + 4) ls st μ) : zWA g K pc ls (zd y :: zd x :: st) μ :=
  zx_dcmp hd (zx_if_gt hd2 ht (fun q => kt ((zdg_gt x y).mp q)) (fun q => kf (zbt (fun z => q ((zdg_gt x y).mpr z)))))
theorem zx_dl_le (hd : decode (zKc K) pc = .ok (.dcmp .l, 1)) (hd2 : decode (zKc K) (pc + 1) = .ok (.ifCond .le off, 3)) (ht : ((pc + 1 : Nat) : Int) + off = (tgt : Int)) (kt : zgt x y = false → zWA g K tgt ls st μ) (kf : zgt x y = true → zWA g K (pc + 4) ls st μ) : zWA g K pc ls (zd y :: zd x :: st) μ :=
  zx_dcmp hd (zx_if_le hd2 ht (fun q => kt ((zdl_le x y).mp q)) (fun q => kf (zbt (fun z => q ((zdl_le x y).mpr z)))))
theorem zx_dl_lt (hd : decode (zKc K) pc = .ok (.dcmp .l, 1)) (hd2 : decode (zKc K) (pc + 1) = .ok (.ifCond .lt off, 3)) (ht : ((pc + 1 : Nat) : Int) + off = (tgt : Int)) (kt : zge x y = false → zWA g K tgt ls st μ) (kf : zge x y = true → zWA g K (pc + 4) ls st μ) : zWA g K pc ls (zd y :: zd x :: st) μ :=
  zx_dcmp hd (zx_if_lt hd2 ht (fun q => kt ((zdl_lt x y).mp q)) (fun q => kf (zbt (fun z => q ((zdl_lt x y).mpr z)))))
theorem zx_dl_eq (hd : decode (zKc K) pc = .ok (.dcmp .l, 1)) (hd2 : decode (zKc K) (pc + 1) = .ok (.ifCond .eq off, 3)) (ht : ((pc + 1 : Nat) : Int) + off = (tgt : Int)) (kt : zeq x y = true → zWA g K tgt ls st μ) (kf : zeq x y = false → zWA g K (pc + 4) ls st μ) : zWA g K pc ls (zd y :: zd x :: st) μ :=
  zx_dcmp hd (zx_if_eq hd2 ht (fun q => kt ((zdl_eq x y).mp q)) (fun q => kf (zbf (fun z => q ((zdl_eq x y).mpr z)))))
theorem zx_dl_ne (hd : decode (zKc K) pc = .ok (.dcmp .l, 1)) (hd2 : decode (zKc K) (pc + 1) = .ok (.ifCond .ne off, 3)) (ht : ((pc + 1 : Nat) : Int) + off = (tgt : Int)) (kt : zeq x y = false → zWA g K tgt ls st μ) (kf : zeq x y = true → zWA g K (pc + 4) ls st μ) : zWA g K pc ls (zd y :: zd x :: st) μ :=
  zx_dcmp hd (zx_if_ne hd2 ht (fun q => kt (zbf (fun z => q ((zdl_eq x y).mpr z)))) (fun q => kf ((zdl_eq x y).mp q)))
theorem zx_lc_ge (hd : decode (zKc K) pc = .ok (.lcmp, 1)) (hd2 : decode (zKc K) (pc + 1) = .ok (.ifCond .ge off, 3)) (ht : ((pc + 1 : Nat) : Int) + off = (tgt : Int)) (kt : ¬ a < b → zWA g K tgt ls st μ) (kf : a < b → zWA g K (pc + 4) ls st μ) : zWA g K pc ls (zl b :: zl a :: st) μ :=
  zx_lcmp hd (zx_if_ge hd2 ht (fun q => kt ((zlc_ge a b).mp q)) (fun q => kf (Decidable.not_not.mp (fun z => q ((zlc_ge a b).mpr z)))))
theorem zx_lc_le (hd : decode (zKc K) pc = .ok (.lcmp, 1)) (hd2 : decode (zKc K) (pc + 1) = .ok (.ifCond .le off, 3)) (ht : ((pc + 1 : Nat) : Int) + off = (tgt : Int)) (kt : ¬ b < a → zWA g K tgt ls st μ) (kf : b < a → zWA g K (pc + 4) ls st μ) : zWA g K pc ls (zl b :: zl a :: st) μ :=
  zx_lcmp hd (zx_if_le hd2 ht (fun q => kt ((zlc_le a b).mp q)) (fun q => kf (Decidable.not_not.mp (fun z => q ((zlc_le a b).mpr z)))))
theorem zx_lc_eq (hd : decode (zKc K) pc = .ok (.lcmp, 1)) (hd2 : decode (zKc K) (pc + 1) = .ok (.ifCond .eq off, 3)) (ht : ((pc + 1 : Nat) : Int) + off = (tgt : Int)) (kt : a = b → zWA g K tgt ls st μ) (kf : ¬ a = b → zWA g K (pc + 4) ls st μ) : zWA g K pc ls (zl b :: zl a :: st) μ :=
  zx_lcmp hd (zx_if_eq hd2 ht (fun q => kt ((zlc_eq a b).mp q)) (fun q => kf (fun z => q ((zlc_eq a b).mpr z))))
theorem zx_lc_ne (hd : decode (zKc K) pc = .ok (.lcmp, 1)) (hd2 : decode (zKc K) (pc + 1) = .ok (.ifCond .ne off, 3)) (ht : ((pc + 1 : Nat) : Int) + off = (tgt : Int)) (kt : ¬ a = b → zWA g K tgt ls st μ) (kf : a = b → zWA g K (pc + 4) ls st μ) : zWA g K pc ls (zl b :: zl a :: st) μ :=
  zx_lcmp hd (zx_if_ne hd2 ht (fun q => kt (fun z => q ((zlc_eq a b).mpr z))) (fun q => kf ((zlc_eq a b).mp q)))
end ZF
theorem zlg_len {g : ZG} : ∀ {as : List Value} {vs : List ZV}, zSR g as vs → (lg_sl as).length = zwt vs
  | [], [], _ => rfl
  | [], _ :: _, h => h.elim
  | _ :: _, [], h => h.elim
  | a :: as, v :: vs, h => by
    have e : lg_sl (a :: as) = (if a.category = 2 then [.val a, .second] else [.val a]) ++ lg_sl as := by
      unfold lg_sl
      rw [List.flatMap_cons]
    rw [e, List.length_append, zlg_len h.2]
    show _ = (if zc2 v = true then 2 else 1) + zwt vs
    by_cases hc : zc2 v = true
    · rw [if_pos hc, if_pos ((zRv_cat h.1).mpr hc)]
      rfl
    · rw [if_neg hc, if_neg (fun q => hc ((zRv_cat h.1).mp q))]
      rfl
theorem zCab_w {g : ZG} {own : String} {y : MethodName} {cc : ByteArray} {nL : Nat} {ret : Option FieldType} {R : Room} {As : List ZV} {μ : ZMem} {res : Option ZV} {μ' : ZMem} (hy : plainFor y = true) (ho : own = y.cls) (hn : zwt As ≤ nL)
    (h : zWA g (own, cc, nL, ret, R, res, μ') 0 (zarg 0 As) [] μ) : zCab g own y cc nL ret R As μ res μ' :=
  zCab_of hy ho (fun as hs => by rw [zlg_len hs]; exact hn) h
abbrev zrm (d : Nat) : Room := { frames := d, cells := 0, slots := 0, locals := 42 * d }
/-- what stands at a field that holds a reference -/
def ztk (kd k : Nat) : Nat := match kd, k with
  | 0, _ => 2
  | 1, 2 => 3
  | 1, _ => 0
  | 2, 0 => 10
  | 2, _ => 0
  | 3, _ => 8
  | 4, 0 => 10
  | 4, 5 => 10
  | 4, 6 => 10
  | 4, _ => 8
  | 5, 2 => 17
  | 5, 4 => 11
  | 5, _ => 8
  | 6, 3 => 12
  | 6, 4 => 13
  | 6, 5 => 15
  | 6, 8 => 14
  | 6, 9 => 16
  | 6, 10 => 5
  | 6, _ => 8
  | 12, _ => 0
  | 13, _ => 1
  | 14, _ => 2
  | 15, _ => 3
  | 16, _ => 4
  | _, _ => 8
def zWf (g : ZG) (μ : ZMem) : Prop := ∀ (kd r k r' : Nat), zO g kd r → zR μ r k = some r' → zO g (ztk kd k) r'
theorem zx_callV1 {g : ZG} {K : ZK} {pc : Nat} {ls : ZLS} (st : List ZV) {μ : ZMem} {y : MethodName} {bytes : ByteArray} {maxL n index : Nat} {ret : Option FieldType} {Rc : Room} {As : List ZV} {v : ZV} {μ1 : ZMem} {st0 : List ZV} {ci r : Nat} {Cl : String} {T : u_T} {N : Nat} (hl : zLv (zKo K) index Cl y bytes maxL ret n) (hM : zCab g y.cls y bytes maxL ret Rc (zr (some r) :: As) μ (some v) μ1) (hO : zO g ci r) (hc8 : ci < 8) (hcl : vwCl[ci]? = some (Cl, T, N)) (hst : st0 = As.reverse ++ (zr (some r) :: st)) (hn : As.length = n) (hR : zRoom K Rc maxL) (hw : zwt st ≤ 8) (hd : decode (zKc K) pc = .ok (.invokevirtual index, 3)) (kk : zWA g K (pc + 3) ls (v :: st) μ1) : zWA g K pc ls st0 μ := zx_callV st hl hM hO hc8 hcl hst hn hR hw hd kk
theorem zx_callV0 {g : ZG} {K : ZK} {pc : Nat} {ls : ZLS} (st : List ZV) {μ : ZMem} {y : MethodName} {bytes : ByteArray} {maxL n index : Nat} {ret : Option FieldType} {Rc : Room} {As : List ZV} {μ1 : ZMem} {st0 : List ZV} {ci r : Nat} {Cl : String} {T : u_T} {N : Nat} (hl : zLv (zKo K) index Cl y bytes maxL ret n) (hM : zCab g y.cls y bytes maxL ret Rc (zr (some r) :: As) μ none μ1) (hO : zO g ci r) (hc8 : ci < 8) (hcl : vwCl[ci]? = some (Cl, T, N)) (hst : st0 = As.reverse ++ (zr (some r) :: st)) (hn : As.length = n) (hR : zRoom K Rc maxL) (hw : zwt st ≤ 8) (hd : decode (zKc K) pc = .ok (.invokevirtual index, 3)) (kk : zWA g K (pc + 3) ls st μ1) : zWA g K pc ls st0 μ := zx_callV st hl hM hO hc8 hcl hst hn hR hw hd kk
theorem zx_callS1 {g : ZG} {K : ZK} {pc : Nat} {ls : ZLS} (st : List ZV) {μ : ZMem} {y : MethodName} {bytes : ByteArray} {maxL n index : Nat} {ret : Option FieldType} {Rc : Room} {As : List ZV} {v : ZV} {μ1 : ZMem} {st0 : List ZV} (hl : zLs (zKo K) index y bytes maxL ret n) (hM : zCab g y.cls y bytes maxL ret Rc As μ (some v) μ1) (hst : st0 = As.reverse ++ st) (hn : As.length = n) (hR : zRoom K Rc maxL) (hw : zwt st ≤ 8) (hd : decode (zKc K) pc = .ok (.invokestatic index, 3)) (kk : zWA g K (pc + 3) ls (v :: st) μ1) : zWA g K pc ls st0 μ := zx_callS st hl hM hst hn hR hw hd kk
theorem zx_callN1 {g : ZG} {K : ZK} {pc : Nat} {ls : ZLS} (st : List ZV) {μ : ZMem} {y : MethodName} {bytes : ByteArray} {maxL n index : Nat} {ret : Option FieldType} {Rc : Room} {As : List ZV} {v : ZV} {μ1 : ZMem} {st0 : List ZV} {host : String} (hl : zLn (zKo K) index y host bytes maxL ret n) (hM : zCab g y.cls y bytes maxL ret Rc As μ (some v) μ1) (hst : st0 = As.reverse ++ st) (hn : As.length = n) (hR : zRoom K Rc maxL) (hw : zwt st ≤ 8) (hd : decode (zKc K) pc = .ok (.invokestatic index, 3)) (kk : zWA g K (pc + 3) ls (v :: st) μ1) : zWA g K pc ls st0 μ := zx_callN st hl hM hst hn hR hw hd kk
/-- Math.max of two doubles: the machine has a row of its own for it -/
def s_dmax (x y : UInt64) : UInt64 := zcn (Jvm.Free.Fl.Abs.maxDOf x y)
theorem zmax_in (x y : UInt64) : zcn (Jvm.Free.Fl.Abs.maxDOf (zcn x) (zcn y)) = zcn (Jvm.Free.Fl.Abs.maxDOf x y) := by
  have hb : ∀ z, FP.dIsNaN (zcn z) = FP.dIsNaN z := fun z => by
    show decide (FP.Core.val64 (zcn z) = .nan) = decide (FP.Core.val64 z = .nan)
    rw [zval_cn]
  unfold Jvm.Free.Fl.Abs.maxDOf
  rw [hb, hb]
  by_cases h1 : FP.dIsNaN x = true
  · rw [if_pos h1, if_pos h1, zcn_cn]
  · rw [if_neg h1, if_neg h1]
    by_cases h2 : FP.dIsNaN y = true
    · rw [if_pos h2, if_pos h2, zcn_cn]
    · rw [if_neg h2, if_neg h2, zcn_id (fun q => h1 ((FP.Core.dIsNaN_iff x).mpr q)), zcn_id (fun q => h2 ((FP.Core.dIsNaN_iff y).mpr q))]
theorem zx_dmax {g : ZG} {K : ZK} {pc : Nat} {ls : ZLS} {st : List ZV} {μ : ZMem} {x y : UInt64} {index : Nat} (hl : zLs (zKo K) index yJ9_max_eb370 cJ9_max_eb370 4 (some .double) 2) (hR : 1 ≤ (zKR K).frames ∧ 23 ≤ (zKR K).locals) (hw : zwt st ≤ 8) (hd : decode (zKc K) pc = .ok (.invokestatic index, 3)) (kk : zWA g K (pc + 3) ls (zd (s_dmax x y) :: st) μ) : zWA g K pc ls (zd y :: zd x :: st) μ := by
  intro l p e s m args below meth c C d H locs sl stk μr hd0 hS hP hμ hL hT
  obtain ⟨a_y, stk1, rfl, h1, hT1⟩ := zSR_cons hT
  obtain ⟨y2, rfl, rfl⟩ := h1
  obtain ⟨a_x, stk2, rfl, h2, hT2⟩ := zSR_cons hT1
  obtain ⟨x2, rfl, rfl⟩ := h2
  intro T hT0 X
  have hts := dr_words C.2.2.2.2.1 d
  obtain ⟨q1, q2, q4, q5, -⟩ := hl
  obtain ⟨w, d', vm₁, hal, hd', X', stp⟩ := X.mathMaxD C.1 (own := zKo K) (index := index) C.2.2.2.1 (hts _ q1) (hts _ q2) (hts _ q4) (hts _ q5) (g := F0 m pc sl (.double y2 :: .double x2 :: stk2)) rfl (by obtain ⟨lv, h1, -⟩ := hL; exact h1.1.trans C.2.2.1.symm) (a := x2) (b := y2) (rest := stk2) rfl (by rw [C.2.1]; exact hd) hR.1 (by show 2 * 0 + _ + 15 ≤ _; rw [zwt_eq hT2]; omega) (Nat.zero_le _) (Nat.zero_le _)
  obtain ⟨t, a1, b1⟩ := kk l p e s m args below meth c C d' H locs sl (.double w :: stk2) μr (dr_step hd0 lw_bits X.drawn_eq hd') hS hP hμ hL ⟨⟨w, rfl, by rw [zcn_alike hal]; exact (zmax_in x2 y2).symm⟩, hT2⟩ ((T.setVm vm₁).setDrawn d') hT0 X'
  exact ⟨t, stp t a1, b1⟩
