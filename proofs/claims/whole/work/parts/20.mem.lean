/-! doubles up to the bits of a NaN -/
def zcn (x : UInt64) : UInt64 := if isNaN64 x = true then 9221120237041090560 else x
theorem zcn_alike {x y : UInt64} (h : alike64 x y = true) : zcn x = zcn y := by
  unfold alike64 at h
  simp only [Bool.or_eq_true, Bool.and_eq_true, decide_eq_true_eq] at h
  rcases h with h | ⟨h1, h2⟩
  · rw [h]
  · unfold zcn
    rw [if_pos h1, if_pos h2]
theorem znan_bits (x : UInt64) : isNaN64 x = true ↔ FP.Core.dIsNaN x = true := by
  rw [FP.Core.isNaN_bits]
  unfold isNaN64
  rw [decide_eq_true_eq, gt_iff_lt, UInt64.lt_iff_toNat_lt, FP.Core.mask_toNat]
  exact Iff.rfl
theorem znan_val (x : UInt64) : isNaN64 x = true ↔ FP.Core.val64 x = .nan := (znan_bits x).trans (FP.Core.dIsNaN_iff x)
theorem zval_cn (x : UInt64) : FP.Core.val64 (zcn x) = FP.Core.val64 x := by
  unfold zcn
  split
  · rename_i h
    rw [(znan_val x).mp h]
    decide +kernel
  · rfl
theorem zcn_id {x : UInt64} (h : FP.Core.val64 x ≠ .nan) : zcn x = x := by
  unfold zcn
  rw [if_neg (fun q => h ((znan_val x).mp q))]
theorem zcn_cn (x : UInt64) : zcn (zcn x) = zcn x := by
  by_cases h : FP.Core.val64 x = .nan
  · have h1 := (znan_val x).mpr h
    have e : zcn x = 9221120237041090560 := by unfold zcn; rw [if_pos h1]
    rw [e]
    decide +kernel
  · rw [zcn_id h, zcn_id h]
theorem zadd_in (x y : UInt64) : FP.dadd (zcn x) (zcn y) = FP.dadd x y := by
  show UInt64.ofNat (FP.Core.encode FP.Core.b64 (FP.Core.round FP.Core.b64 (FP.Core.exactSum (FP.Core.val64 (zcn x)) (FP.Core.val64 (zcn y))))) = _
  rw [zval_cn, zval_cn]
  rfl
theorem zsub_in (x y : UInt64) : FP.dsub (zcn x) (zcn y) = FP.dsub x y := by
  show UInt64.ofNat (FP.Core.encode FP.Core.b64 (FP.Core.round FP.Core.b64 (FP.Core.exactSum (FP.Core.val64 (zcn x)) (FP.Core.negate (FP.Core.val64 (zcn y)))))) = _
  rw [zval_cn, zval_cn]
  rfl
theorem zmul_in (x y : UInt64) : FP.dmul (zcn x) (zcn y) = FP.dmul x y := by
  show UInt64.ofNat (FP.Core.encode FP.Core.b64 (FP.Core.round FP.Core.b64 (FP.Core.exactProduct (FP.Core.val64 (zcn x)) (FP.Core.val64 (zcn y))))) = _
  rw [zval_cn, zval_cn]
  rfl
theorem zdiv_in (x y : UInt64) : FP.ddiv (zcn x) (zcn y) = FP.ddiv x y := by
  show UInt64.ofNat (FP.Core.encode FP.Core.b64 (FP.Core.quotient FP.Core.b64 (FP.Core.val64 (zcn x)) (FP.Core.val64 (zcn y)))) = _
  rw [zval_cn, zval_cn]
  rfl
theorem zcmp_in (x y : UInt64) : FP.dcmp (zcn x) (zcn y) = FP.dcmp x y := by
  show FP.Core.order (FP.Core.val64 (zcn x)) (FP.Core.val64 (zcn y)) = _
  rw [zval_cn, zval_cn]
  rfl
theorem zd2l_in (x : UInt64) : FP.d2l (zcn x) = FP.d2l x := by
  show FP.Core.toL (FP.Core.val64 (zcn x)) = _
  rw [zval_cn]
  rfl
def zadd (x y : UInt64) : UInt64 := zcn (FP.dadd x y)
def zsub (x y : UInt64) : UInt64 := zcn (FP.dsub x y)
def zmul (x y : UInt64) : UInt64 := zcn (FP.dmul x y)
def zdiv (x y : UInt64) : UInt64 := zcn (FP.ddiv x y)
def zneg (x : UInt64) : UInt64 := zcn (FP.dneg x)
theorem zneg_nan (x : UInt64) : isNaN64 (FP.dneg x) = isNaN64 x := by
  have e : (FP.dneg x) &&& 0x7fffffffffffffff = x &&& 0x7fffffffffffffff := by
    unfold FP.dneg
    apply UInt64.toBitVec_inj.mp
    simp only [UInt64.toBitVec_and, UInt64.toBitVec_xor]
    apply BitVec.eq_of_getLsbD_eq
    intro i hi
    simp only [BitVec.getLsbD_and, BitVec.getLsbD_xor]
    have hk : ∀ k : Fin 64, ((UInt64.toBitVec 0x8000000000000000).getLsbD k.val && (UInt64.toBitVec 0x7fffffffffffffff).getLsbD k.val) = false := by decide +kernel
    have := hk ⟨i, hi⟩
    revert this
    cases x.toBitVec.getLsbD i <;> cases (UInt64.toBitVec 0x8000000000000000).getLsbD i <;> cases (UInt64.toBitVec 0x7fffffffffffffff).getLsbD i <;> simp
  unfold isNaN64
  rw [e]
theorem zneg_in (x : UInt64) : zcn (FP.dneg x) = zneg (zcn x) := by
  unfold zneg
  by_cases h : isNaN64 x = true
  · have h2 : isNaN64 (zcn x) = true := by rw [znan_val, zval_cn, ← znan_val]; exact h
    have a1 : isNaN64 (FP.dneg x) = true := by rw [zneg_nan]; exact h
    have a2 : isNaN64 (FP.dneg (zcn x)) = true := by rw [zneg_nan]; exact h2
    unfold zcn at a2 ⊢
    rw [if_pos a1, if_pos a2]
  · rw [zcn_id (fun q => h ((znan_val x).mpr q))]
/-! typed memory: by role and place -/
abbrev ZMem : Type := (Nat → Nat → Int32) × (Nat → Nat → Int64) × (Nat → Nat → UInt64) × (Nat → Nat → Option Nat)
def zup {α : Type} (f : Nat → Nat → α) (r k : Nat) (v : α) : Nat → Nat → α := fun a b => if a = r ∧ b = k then v else f a b
def zI (μ : ZMem) : Nat → Nat → Int32 := μ.1
def zL (μ : ZMem) : Nat → Nat → Int64 := μ.2.1
def zD (μ : ZMem) : Nat → Nat → UInt64 := μ.2.2.1
def zR (μ : ZMem) : Nat → Nat → Option Nat := μ.2.2.2
def zsI (μ : ZMem) (r k : Nat) (v : Int32) : ZMem := (zup μ.1 r k v, μ.2)
def zsL (μ : ZMem) (r k : Nat) (v : Int64) : ZMem := (μ.1, zup μ.2.1 r k v, μ.2.2)
def zsD (μ : ZMem) (r k : Nat) (v : UInt64) : ZMem := (μ.1, μ.2.1, zup μ.2.2.1 r k v, μ.2.2.2)
def zsR (μ : ZMem) (r k : Nat) (v : Option Nat) : ZMem := (μ.1, μ.2.1, μ.2.2.1, zup μ.2.2.2 r k v)
def zcM (μ : ZMem) : ZMem := (μ.1, μ.2.1, fun r k => zcn (μ.2.2.1 r k), μ.2.2.2)
theorem zup_same {α : Type} (f : Nat → Nat → α) (r k : Nat) (v : α) : zup f r k v r k = v := if_pos ⟨rfl, rfl⟩
theorem zup_ne {α : Type} (f : Nat → Nat → α) {r k a b : Nat} (v : α) (h : ¬ (a = r ∧ b = k)) : zup f r k v a b = f a b := if_neg h
theorem zup_row {α : Type} (f : Nat → Nat → α) {r a : Nat} (k : Nat) (v : α) (h : a ≠ r) : zup f r k v a = f a := funext fun b => if_neg (fun q => h q.1)
theorem zcM_sI (μ : ZMem) (r k : Nat) (v : Int32) : zcM (zsI μ r k v) = zsI (zcM μ) r k v := rfl
theorem zcM_sL (μ : ZMem) (r k : Nat) (v : Int64) : zcM (zsL μ r k v) = zsL (zcM μ) r k v := rfl
theorem zcM_sR (μ : ZMem) (r k : Nat) (v : Option Nat) : zcM (zsR μ r k v) = zsR (zcM μ) r k v := rfl
theorem zcM_sD (μ : ZMem) (r k : Nat) (v : UInt64) : zcM (zsD μ r k v) = zsD (zcM μ) r k (zcn v) := by
  have e : (fun a b => zcn (zup μ.2.2.1 r k v a b)) = zup (fun a b => zcn (μ.2.2.1 a b)) r k (zcn v) := by
    funext a b
    by_cases h : a = r ∧ b = k
    · obtain ⟨rfl, rfl⟩ := h
      rw [zup_same, zup_same]
    · rw [zup_ne _ _ h, zup_ne _ _ h]
  show (μ.1, μ.2.1, (fun a b => zcn (zup μ.2.2.1 r k v a b)), μ.2.2.2) = _
  rw [e]
  rfl
/-! what a world is: for each role its address and what stands there -/
abbrev ZG : Type := va_G × (Nat → ClassId) × (Nat → Nat) × (Nat → Nat) × List Nat × (Nat → Nat)
def zgD (g : ZG) : va_G := g.1
def zcy (g : ZG) : Nat → ClassId := g.2.1
def zkd (g : ZG) : Nat → Nat := g.2.2.1
def zln (g : ZG) : Nat → Nat := g.2.2.2.1
def zrs (g : ZG) : List Nat := g.2.2.2.2.1
def zad (g : ZG) : Nat → Nat := g.2.2.2.2.2
def zft (ci : Nat) : Nat → FieldType := match ci with
  | 0 => tyX0
  | 1 => tyX1
  | 2 => tyX2
  | 3 => tyX3
  | 4 => tyX4
  | 5 => tyX5
  | 6 => tyX6
  | _ => tyX7
def znf (ci : Nat) : Nat := match ci with
  | 0 => 15
  | 1 => 6
  | 2 => 3
  | 3 => 5
  | 4 => 10
  | 5 => 9
  | 6 => 17
  | _ => 50
def zsv (g : ZG) (μ : ZMem) (r k : Nat) : FieldType → Value
  | .int => .int (zI μ r k)
  | .boolean => .int (zI μ r k)
  | .long => .long (zL μ r k)
  | .double => .double (zD μ r k)
  | _ => va_rf ((zR μ r k).map (zad g))
def zpay (g : ZG) (μ : ZMem) (r kd : Nat) : (Nat → Int32) ⊕ (Nat → Int64) ⊕ (Nat → UInt32) ⊕ (Nat → UInt64) ⊕ (Nat → Option Nat) :=
  if kd = 8 then .inr (.inr (.inr (.inl (zD μ r)))) else if kd = 9 ∨ kd = 11 then .inl (zI μ r) else if kd = 10 then .inr (.inl (zL μ r)) else .inr (.inr (.inr (.inr (fun k => (zR μ r k).map (zad g)))))
def zfs (g : ZG) (μ : ZMem) (r ci : Nat) : List Value := (List.range (znf ci)).map (fun k => zsv g μ r k (zft ci k))
def zpc (g : ZG) (μ : ZMem) (r : Nat) : va_E := if zkd g r < 8 then .inr (zkd g r, zfs g μ r (zkd g r)) else .inl (zcy g (zkd g r), zln g r, zpay g μ r (zkd g r))
def zws (g : ZG) (μ : ZMem) : va_W := (zrs g).map (fun r => (zad g r, zpc g μ r))
def zRg (g : ZG) : Nat → Prop := fun q => ∃ r, r ∈ zrs g ∧ zad g r = q
def zAp (g : ZG) : Prop := ∀ (i j r r' : Nat), (zrs g)[i]? = some r → (zrs g)[j]? = some r' → zad g r = zad g r' → i = j
def ztys (g : ZG) : List (ClassId × FieldType) := [(zcy g 8, .double), (zcy g 9, .int), (zcy g 10, .long), (zcy g 11, .boolean), (zcy g 12, .object "CellCurrents$Cell"), (zcy g 13, .object "CellCurrents$Face"), (zcy g 14, .object "CellCurrents$Nest"), (zcy g 15, .object "CellCurrents$Side"), (zcy g 16, .object "CellCurrents$State"), (zcy g 17, .array .double)]
def zO (g : ZG) (kd r : Nat) : Prop := r ∈ zrs g ∧ zkd g r = kd
theorem zpc_obj {g : ZG} {μ : ZMem} {ci r : Nat} (h : zO g ci r) (hc : ci < 8) : zpc g μ r = .inr (ci, zfs g μ r ci) := by
  unfold zpc
  rw [h.2, if_pos hc]
theorem zpc_arr {g : ZG} {μ : ZMem} {kd r : Nat} (h : zO g kd r) (hc : 8 ≤ kd) : zpc g μ r = .inl (zcy g kd, zln g r, zpay g μ r kd) := by
  unfold zpc
  rw [h.2, if_neg (Nat.not_lt.mpr hc)]
theorem zws_at {g : ZG} {r : Nat} (h : r ∈ zrs g) : ∃ k : Nat, (zrs g)[k]? = some r ∧ ∀ μ : ZMem, (zws g μ)[k]? = some (zad g r, zpc g μ r) := by
  obtain ⟨k, hk⟩ := List.getElem?_of_mem h
  refine ⟨k, hk, fun μ => ?_⟩
  unfold zws
  rw [List.getElem?_map, hk]
  rfl
theorem zAp_inj {g : ZG} (hA : zAp g) {r r' : Nat} (h : r ∈ zrs g) (h' : r' ∈ zrs g) (e : zad g r = zad g r') : r = r' := by
  obtain ⟨i, hi⟩ := List.getElem?_of_mem h
  obtain ⟨j, hj⟩ := List.getElem?_of_mem h'
  have := hA i j r r' hi hj e
  subst this
  exact Option.some.inj (hi.symm.trans hj)
theorem zws_D {g : ZG} (hA : zAp g) (μ : ZMem) : va_D (zRg g) (zws g μ) := by
  refine ⟨fun i j p q hi hj e => ?_, fun k q hk => ?_⟩
  · unfold zws at hi hj
    rw [List.getElem?_map] at hi hj
    obtain ⟨r, hr, rfl⟩ := Option.map_eq_some_iff.mp hi
    obtain ⟨r', hr', rfl⟩ := Option.map_eq_some_iff.mp hj
    exact hA i j r r' hr hr' e
  · unfold zws at hk
    rw [List.getElem?_map] at hk
    obtain ⟨r, hr, rfl⟩ := Option.map_eq_some_iff.mp hk
    exact ⟨r, List.mem_of_getElem? hr, rfl⟩
theorem zws_set {g : ZG} (hA : zAp g) {μ μ' : ZMem} {k r : Nat} {e : va_E} (hk : (zrs g)[k]? = some r) (ho : ∀ r', r' ≠ r → zpc g μ' r' = zpc g μ r') (he : zpc g μ' r = e) : (zws g μ).set k (zad g r, e) = zws g μ' := by
  apply List.ext_getElem?
  intro j
  unfold zws
  rw [List.getElem?_set, List.getElem?_map, List.getElem?_map, List.length_map]
  by_cases hj : k = j
  · subst hj
    rw [if_pos rfl, if_pos (List.getElem?_eq_some_iff.mp hk).1, hk, ← he]
    rfl
  · rw [if_neg hj]
    cases hr : (zrs g)[j]? with
    | none => rfl
    | some r' =>
      have hne : r' ≠ r := fun q => hj (hA k j r r' hk hr (by rw [q]))
      show some (zad g r', zpc g μ r') = some (zad g r', zpc g μ' r')
      rw [ho r' hne]
theorem zpc_row {g : ZG} {μ μ' : ZMem} {r : Nat} (h1 : zI μ' r = zI μ r) (h2 : zL μ' r = zL μ r) (h3 : zD μ' r = zD μ r) (h4 : zR μ' r = zR μ r) : zpc g μ' r = zpc g μ r := by
  have e : ∀ k t, zsv g μ' r k t = zsv g μ r k t := by
    intro k t
    cases t <;> simp only [zsv, h1, h2, h3, h4]
  have e2 : ∀ ci, zfs g μ' r ci = zfs g μ r ci := by
    intro ci
    unfold zfs
    exact List.map_congr_left (fun k _ => e k _)
  have e3 : ∀ kd, zpay g μ' r kd = zpay g μ r kd := by
    intro kd
    unfold zpay
    rw [h1, h2, h3, h4]
  unfold zpc
  rw [e2, e3]
theorem zset_map (n k : Nat) (f f' : Nat → Value) (v : Value) (hk : f' k = v) (ho : ∀ j, j ≠ k → f' j = f j) : ((List.range n).map f).set k v = (List.range n).map f' := by
  apply List.ext_getElem?
  intro j
  rw [List.getElem?_set, List.getElem?_map, List.getElem?_map, List.length_map, List.length_range]
  by_cases hj : k = j
  · subst hj
    rw [if_pos rfl]
    by_cases hn : k < n
    · rw [if_pos hn, List.getElem?_range hn]
      show _ = some (f' k)
      rw [hk]
    · rw [if_neg hn, List.getElem?_eq_none (by rw [List.length_range]; omega)]
      rfl
  · rw [if_neg hj]
    cases hr : (List.range n)[j]? with
    | none => rfl
    | some i =>
      have : i = j := by
        have h1 := (List.getElem?_eq_some_iff.mp hr)
        obtain ⟨h2, h3⟩ := h1
        rw [List.getElem_range] at h3
        exact h3.symm
      subst this
      show some _ = some _
      rw [ho i (fun q => hj q.symm)]
theorem zfs_get {g : ZG} {μ : ZMem} {r ci k : Nat} (hk : k < znf ci) : (zfs g μ r ci)[k]? = some (zsv g μ r k (zft ci k)) := by
  unfold zfs
  rw [List.getElem?_map, List.getElem?_range hk]
  rfl
theorem zfs_len (g : ZG) (μ : ZMem) (r ci : Nat) : (zfs g μ r ci).length = znf ci := by
  unfold zfs
  rw [List.length_map, List.length_range]
theorem zfs_sI {g : ZG} {μ : ZMem} {r ci k : Nat} {v : Int32} (ht : zft ci k = .int ∨ zft ci k = .boolean) : (zfs g μ r ci).set k (.int v) = zfs g (zsI μ r k v) r ci := by
  unfold zfs
  apply zset_map
  · rcases ht with h | h <;> rw [h] <;> show Value.int (zup μ.1 r k v r k) = _ <;> rw [zup_same]
  · intro j hj
    cases zft ci j <;> first | rfl | (show Value.int (zup μ.1 r k v r j) = _; rw [zup_ne _ _ (fun q => hj q.2)]; rfl)
theorem zfs_sL {g : ZG} {μ : ZMem} {r ci k : Nat} {v : Int64} (ht : zft ci k = .long) : (zfs g μ r ci).set k (.long v) = zfs g (zsL μ r k v) r ci := by
  unfold zfs
  apply zset_map
  · rw [ht]; show Value.long (zup μ.2.1 r k v r k) = _; rw [zup_same]
  · intro j hj
    cases zft ci j <;> first | rfl | (show Value.long (zup μ.2.1 r k v r j) = _; rw [zup_ne _ _ (fun q => hj q.2)]; rfl)
theorem zfs_sD {g : ZG} {μ : ZMem} {r ci k : Nat} {v : UInt64} (ht : zft ci k = .double) : (zfs g μ r ci).set k (.double v) = zfs g (zsD μ r k v) r ci := by
  unfold zfs
  apply zset_map
  · rw [ht]; show Value.double (zup μ.2.2.1 r k v r k) = _; rw [zup_same]
  · intro j hj
    cases zft ci j <;> first | rfl | (show Value.double (zup μ.2.2.1 r k v r j) = _; rw [zup_ne _ _ (fun q => hj q.2)]; rfl)
def zref (t : FieldType) : Bool := match t with
  | .object _ => true
  | .array _ => true
  | _ => false
theorem zfs_sR {g : ZG} {μ : ZMem} {r ci k : Nat} {v : Option Nat} (ht : zref (zft ci k) = true) : (zfs g μ r ci).set k (va_rf (v.map (zad g))) = zfs g (zsR μ r k v) r ci := by
  unfold zfs
  apply zset_map
  · have e : zsv g (zsR μ r k v) r k (zft ci k) = va_rf ((zup μ.2.2.2 r k v r k).map (zad g)) := by
      revert ht
      cases zft ci k <;> intro ht <;> first | rfl | (exact absurd ht (by decide))
    rw [e, zup_same]
  · intro j hj
    cases zft ci j <;> first | rfl | (show va_rf ((zup μ.2.2.2 r k v r j).map (zad g)) = _; rw [zup_ne _ _ (fun q => hj q.2)]; rfl)
theorem zpc_oI {g : ZG} {μ : ZMem} {r k : Nat} {v : Int32} : ∀ r', r' ≠ r → zpc g (zsI μ r k v) r' = zpc g μ r' := fun r' h => zpc_row (zup_row _ _ _ h) rfl rfl rfl
theorem zpc_oL {g : ZG} {μ : ZMem} {r k : Nat} {v : Int64} : ∀ r', r' ≠ r → zpc g (zsL μ r k v) r' = zpc g μ r' := fun r' h => zpc_row rfl (zup_row _ _ _ h) rfl rfl
theorem zpc_oD {g : ZG} {μ : ZMem} {r k : Nat} {v : UInt64} : ∀ r', r' ≠ r → zpc g (zsD μ r k v) r' = zpc g μ r' := fun r' h => zpc_row rfl rfl (zup_row _ _ _ h) rfl
theorem zpc_oR {g : ZG} {μ : ZMem} {r k : Nat} {v : Option Nat} : ∀ r', r' ≠ r → zpc g (zsR μ r k v) r' = zpc g μ r' := fun r' h => zpc_row rfl rfl rfl (zup_row _ _ _ h)
