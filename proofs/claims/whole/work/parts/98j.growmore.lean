/-- a final field is written in the constructor -/
theorem zy_putRF {g : ZG} {K : ZK} {nF : List Nat} {hs : Nat} {fi : Bool} {nr : List Nat} {kc kn : Nat} {pc : Nat} {ls : ZLS} {st : List ZV} {μ : ZMem} {ci k r index : Nat} (hf : zFd (zKo K) index ci k true) (hfi : fi = true) (hdc : ∀ (C : String) (T : u_T) (N : Nat), vwCl[ci]? = some (C, T, N) → (T k).1 = zKo K) (hO : zO (zgr g nr) ci r) {x : Option Nat} (ht : zref (zft ci k) = true) (hd : decode (zKc K) pc = .ok (.putfield index, 3)) (kk : zWN g K nF hs fi nr kc kn (pc + 3) ls (st) (zsR μ r k x)) : zWN g K nF hs fi nr kc kn (pc) ls (zr x :: zr (some r) :: st) μ := by
  intro l p e s m args below meth c C hCx d H locs sl stk μr hd0 hS hP hμ hL hT
  obtain ⟨a1, stk1, rfl, h1, hT1⟩ := zSR_cons (g := g) hT
  have h1 : a1 = va_rf (x.map (zad (zgr g nr))) := h1
  subst h1
  obtain ⟨a2, stk2, rfl, h2, hT2⟩ := zSR_cons hT1
  have h2 : a2 = .ref (zad (zgr g nr) r) := h2
  subst h2
  subst hμ
  obtain ⟨C0, T, N, q1, q2, q3, q4, q5, q6, q7, q8, q9⟩ := hf
  obtain ⟨q0, hq0, hq⟩ := zws_at (g := zgr g nr) hO.1
  refine va_putF (D := zgD g) (ci := ci) (v := va_rf (x.map (zad (zgr g nr)))) (ty := zft ci k) (C := C0) (T := T) (N := N) C.1 C.2.1 (dr_words C.2.2.2.2.1 d) q4 (zft ci) q7 q8 C.2.2.2.1 C.2.2.2.2.2.2.2.1 hP (zws_D0 (g := g) C.2.2.2.2.2.2.2.2.1 hCx.2.2.1 μr) hS q0 ((hq μr).trans (by rw [zpc_obj hO q3])) q1 k q5 ((dr_words C.2.2.2.2.1 d) _ q6) (fun _ h => h) q9 (hCx.2.2.2 hfi) (hdc _ _ _ q1) (q7 k q5) (by revert ht; cases zft ci k <;> intro ht <;> first | exact absurd ht (by decide) | (cases x <;> rfl)) (by revert ht; cases zft ci k <;> intro ht <;> first | exact absurd ht (by decide) | (cases x <;> rfl)) (by rw [zfs_len, ← q2]; exact q5) hd (fun H1 locs1 hP1 _ hS1 => ?_)
  rw [zws_set (g := zgr g nr) (μ' := zsR μr r k x) C.2.2.2.2.2.2.2.2.1 hq0 zpc_oR (by rw [zpc_obj hO q3, zfs_sR ht])] at hP1
  exact kk l p e s m args below meth c C hCx d H1 locs1 sl _ (zsR μr r k x) hd0 hS1 hP1 rfl hL hT2
theorem zy_putIF {g : ZG} {K : ZK} {nF : List Nat} {hs : Nat} {fi : Bool} {nr : List Nat} {kc kn : Nat} {pc : Nat} {ls : ZLS} {st : List ZV} {μ : ZMem} {ci k r index : Nat} (hf : zFd (zKo K) index ci k true) (hfi : fi = true) (hdc : ∀ (C : String) (T : u_T) (N : Nat), vwCl[ci]? = some (C, T, N) → (T k).1 = zKo K) (hO : zO (zgr g nr) ci r) {x : Int32} (hx : narrow (zft ci k) (.int x) = .int x ∧ fits (zft ci k) (.int x) = true) (ht : zft ci k = .int ∨ zft ci k = .boolean) (hd : decode (zKc K) pc = .ok (.putfield index, 3)) (kk : zWN g K nF hs fi nr kc kn (pc + 3) ls (st) (zsI μ r k x)) : zWN g K nF hs fi nr kc kn (pc) ls (zi x :: zr (some r) :: st) μ := by
  intro l p e s m args below meth c C hCx d H locs sl stk μr hd0 hS hP hμ hL hT
  obtain ⟨a1, stk1, rfl, h1, hT1⟩ := zSR_cons (g := g) hT
  cases h1
  obtain ⟨a2, stk2, rfl, h2, hT2⟩ := zSR_cons hT1
  have h2 : a2 = .ref (zad (zgr g nr) r) := h2
  subst h2
  subst hμ
  obtain ⟨C0, T, N, q1, q2, q3, q4, q5, q6, q7, q8, q9⟩ := hf
  obtain ⟨q0, hq0, hq⟩ := zws_at (g := zgr g nr) hO.1
  refine va_putF (D := zgD g) (ci := ci) (v := .int x) (ty := zft ci k) (C := C0) (T := T) (N := N) C.1 C.2.1 (dr_words C.2.2.2.2.1 d) q4 (zft ci) q7 q8 C.2.2.2.1 C.2.2.2.2.2.2.2.1 hP (zws_D0 (g := g) C.2.2.2.2.2.2.2.2.1 hCx.2.2.1 μr) hS q0 ((hq μr).trans (by rw [zpc_obj hO q3])) q1 k q5 ((dr_words C.2.2.2.2.1 d) _ q6) (fun _ h => h) q9 (hCx.2.2.2 hfi) (hdc _ _ _ q1) (q7 k q5) hx.1 hx.2 (by rw [zfs_len, ← q2]; exact q5) hd (fun H1 locs1 hP1 _ hS1 => ?_)
  rw [zws_set (g := zgr g nr) (μ' := zsI μr r k x) C.2.2.2.2.2.2.2.2.1 hq0 zpc_oI (by rw [zpc_obj hO q3, zfs_sI ht])] at hP1
  exact kk l p e s m args below meth c C hCx d H1 locs1 sl _ (zsI μr r k x) hd0 hS1 hP1 rfl hL hT2
/-- an object is put into a row of its class -/
theorem zup_R (μr : ZMem) (r j : Nat) (v : Option Nat) : zR (zsR μr r j v) r = fun k => if k = j then v else zR μr r k := by
  funext b
  show zup _ r j v r b = _
  unfold zup
  by_cases hb : b = j
  · rw [if_pos ⟨rfl, hb⟩, if_pos hb]
  · rw [if_neg (fun q => hb q.2), if_neg hb]
    rfl
theorem zx_aast {g : ZG} {K : ZK} {pc : Nat} {ls : ZLS} {st : List ZV} {μ : ZMem} {r v kd ci : Nat} {i : Int32} {Cl : String} {T : u_T} {N : Nat} (j : Nat) (hO : zO g kd r) (hkd : 12 ≤ kd ∧ kd ≤ 17) (hv : zO g ci v) (hci : ci < 8) (hcl : vwCl[ci]? = some (Cl, T, N)) (ht : (ztys g)[kd - 8]? = some (zcy g kd, .object Cl)) (hi : i = nI j) (hj : j < zln g r ∧ zln g r ≤ 100000) (hd : decode (zKc K) pc = .ok (.aastore, 1)) (kk : zWA g K (pc + 1) ls st (zsR μ r j (some v))) : zWA g K pc ls (zr (some v) :: zi i :: zr (some r) :: st) μ := by
  intro l p e s m args below meth c C d H locs sl stk μr hd0 hS hP hμ hL hT
  obtain ⟨a0, stk0, rfl, h0, hT0⟩ := zSR_cons hT
  have h0 : a0 = .ref (zad g v) := h0
  subst h0
  obtain ⟨a1, stk1, rfl, h1, hT1⟩ := zSR_cons hT0
  cases h1
  obtain ⟨a2, stk2, rfl, h2, hT2⟩ := zSR_cons hT1
  have h2 : a2 = .ref (zad g r) := h2
  subst h2
  subst hμ
  subst hi
  have hc9 : (nI j).toNatClampNeg = j := nI_clamp (by omega)
  have hvp : vp_in (nI j) (zln g r) := vp_in_nI hj.1 (by omega)
  obtain ⟨q0, hq0, hq⟩ := zws_at hO.1
  obtain ⟨qk, hqk, hqv⟩ := zws_at hv.1
  refine va_astq (s := s.setDrawn d) (r := (Cl, T, N)) C.1 C.2.1 C.2.2.2.2.2.2.2.1 hP (zws_D C.2.2.2.2.2.2.2.2.1 μr) hS q0 (kd - 8) qk ci (cA := zcy g kd) (n := zln g r) (f := fun k => (zR μr r k).map (zad g)) ((hq μr).trans (by rw [zpc_arr hO (by omega), zpay_ref hkd])) ht ((hqv μr).trans (by rw [zpc_obj hv hci])) hcl hvp hd (fun H1 locs1 hP1 _ hS1 => ?_)
  rw [hc9] at hP1
  rw [zws_set (μ' := zsR μr r j (some v)) C.2.2.2.2.2.2.2.2.1 hq0 zpc_oR (by
    rw [zpc_arr hO (by omega), zpay_ref hkd, zup_R]
    congr 7
    funext k
    unfold va_up
    dsimp only
    by_cases hk : k = j
    · rw [if_pos hk, if_pos hk]; rfl
    · rw [if_neg hk, if_neg hk])] at hP1
  exact kk l p e s m args below meth c C d H1 locs1 sl _ (zsR μr r j (some v)) hd0 hS1 hP1 rfl hL hT2
theorem zy_aast {g : ZG} {K : ZK} {nF : List Nat} {hs : Nat} {fi : Bool} {nr : List Nat} {kc kn : Nat} {pc : Nat} {ls : ZLS} {st : List ZV} {μ : ZMem} {r v kd ci : Nat} {i : Int32} {Cl : String} {T : u_T} {N : Nat} (j : Nat) (hO : zO (zgr g nr) kd r) (hkd : 12 ≤ kd ∧ kd ≤ 17) (hv : zO (zgr g nr) ci v) (hci : ci < 8) (hcl : vwCl[ci]? = some (Cl, T, N)) (ht : (ztys g)[kd - 8]? = some (zcy g kd, .object Cl)) (hi : i = nI j) (hj : j < zln g r ∧ zln g r ≤ 100000) (hd : decode (zKc K) pc = .ok (.aastore, 1)) (kk : zWN g K nF hs fi nr kc kn (pc + 1) ls st (zsR μ r j (some v))) : zWN g K nF hs fi nr kc kn pc ls (zr (some v) :: zi i :: zr (some r) :: st) μ := by
  intro l p e s m args below meth c C hCx d H locs sl stk μr hd0 hS hP hμ hL hT
  obtain ⟨a0, stk0, rfl, h0, hT0⟩ := zSR_cons hT
  have h0 : a0 = .ref (zad (zgr g nr) v) := h0
  subst h0
  obtain ⟨a1, stk1, rfl, h1, hT1⟩ := zSR_cons hT0
  cases h1
  obtain ⟨a2, stk2, rfl, h2, hT2⟩ := zSR_cons hT1
  have h2 : a2 = .ref (zad (zgr g nr) r) := h2
  subst h2
  subst hμ
  subst hi
  have hc9 : (nI j).toNatClampNeg = j := nI_clamp (by omega)
  have hvp : vp_in (nI j) (zln (zgr g nr) r) := vp_in_nI hj.1 (by have := hj.2; show zln g r < _; omega)
  obtain ⟨q0, hq0, hq⟩ := zws_at (g := zgr g nr) hO.1
  obtain ⟨qk, hqk, hqv⟩ := zws_at (g := zgr g nr) hv.1
  refine va_astq (s := s.setDrawn d) (r := (Cl, T, N)) C.1 C.2.1 C.2.2.2.2.2.2.2.1 hP (zws_D0 (g := g) C.2.2.2.2.2.2.2.2.1 hCx.2.2.1 μr) hS q0 (kd - 8) qk ci (cA := zcy (zgr g nr) kd) (n := zln (zgr g nr) r) (f := fun k => (zR μr r k).map (zad (zgr g nr))) ((hq μr).trans (by rw [zpc_arr hO (by omega), zpay_ref hkd])) ht ((hqv μr).trans (by rw [zpc_obj hv hci])) hcl hvp hd (fun H1 locs1 hP1 _ hS1 => ?_)
  rw [hc9] at hP1
  rw [zws_set (g := zgr g nr) (μ' := zsR μr r j (some v)) C.2.2.2.2.2.2.2.2.1 hq0 zpc_oR (by
    rw [zpc_arr hO (by omega), zpay_ref hkd, zup_R]
    congr 7
    funext k
    unfold va_up
    dsimp only
    by_cases hk : k = j
    · rw [if_pos hk, if_pos hk]; rfl
    · rw [if_neg hk, if_neg hk])] at hP1
  exact kk l p e s m args below meth c C hCx d H1 locs1 sl _ (zsR μr r j (some v)) hd0 hS1 hP1 rfl hL hT2
/-- a new row of objects -/
theorem zy_newq {g : ZG} {K : ZK} {nF : List Nat} {hs : Nat} {fi : Bool} {nr : List Nat} {kc kn : Nat} {pc : Nat} {ls : ZLS} {st : List ZV} {μ : ZMem} {kc2 kn2 index : Nat} {x : Int32} (r N kd : Nat) {Cl : String} (hkd : zkd g r = kd ∧ 12 ≤ kd ∧ kd ≤ 16) (ht : (ztys g)[kd - 8]? = some (zcy g kd, .object Cl)) (hao : Cl ∈ zaos) (hw : Cond.classLink (zKo K) index Cl ∈ lw_good) (hln : zln g r = N)
    (hq : zad g r = hs + kc) (hz0 : zZr μ r) (hxN : x = nI N) (hN : N ≤ 100000) (hk : kc + 1 = kc2) (hn : kn + N ≤ kn2) (hR : kc2 ≤ (zKR K).cells ∧ kn2 ≤ (zKR K).slots) (hd : decode (zKc K) pc = .ok (.anewarray index, 3)) (kk : zWN g K nF hs fi (nr ++ [r]) kc2 kn2 (pc + 3) ls (zr (some r) :: st) μ) : zWN g K nF hs fi nr kc kn pc ls (zi x :: st) μ := by
  intro l p e s m args below meth c C hx d H locs sl stk μr hd0 hS hP hμ hL hT T hT0 X
  have hz := zsize hx.1 hx.2.2.1 hS hP hT0 X
  revert T
  obtain ⟨a1, stk1, rfl, h1, hT1⟩ := zSR_cons (g := g) hT
  cases h1
  subst hxN
  have hts := dr_words C.2.2.2.2.1 d
  have hcl : (nI N).toNatClampNeg = N := nI_clamp (by omega)
  have h0 : ¬ nI N < 0 := nI_pos (by omega)
  have hz1 : zad g r = H.size := by rw [hq, hz]
  refine W.anew (s := s.setDrawn d) C.1 C.2.1 C.2.2.2.1 (hts _ hw) (va_AO.use ((zXs_d d hx.2.1).1 _ hao)) rfl hd rfl h0 (by rw [hcl]; omega) (by omega) (by rw [hcl]; omega) fun cA kA comp f1 f2 f3 f4 => ?_
  rw [hcl]
  generalize hH1 : H.push ({ cls := cA, slots := Array.replicate N .null, vm := .none } : Cell) = H1
  have z1 : H1.size = H.size + 1 := by rw [← hH1, Array.size_push]
  have e1 : H1[H.size]? = some (arrV cA N (fun _ => .null)) := by rw [← hH1, Array.getElem?_push_size, ← arrV_new]
  have o1 : ∀ q : Nat, q < H.size → H1[q]? = H[q]? := fun q hq => by rw [← hH1, Array.getElem?_push, if_neg (Nat.ne_of_lt hq)]
  rw [← hz1]
  refine zgrow C hx hd0 hS hP hμ hL (st := zr (some r) :: st) ⟨rfl, hT1⟩ hk hn hz hq z1 o1 ?_ kk
  have hRA := (C.2.2.2.2.2.2.2.1.2 _ _ ht).2
  have hcA : cA = zcy g kd := by
    obtain ⟨kA', comp', -, -, -, h4⟩ := hRA
    exact Option.some.inj (f1.symm.trans h4)
  have hpc : zpc g μr r = .inl (zcy g kd, zln g r, zpay g μr r kd) := by
    unfold zpc
    rw [hkd.1, if_neg (by omega)]
  subst hμ
  rw [hpc, hln, zpay_ref ⟨hkd.2.1, by omega⟩]
  show H1[zad g r]? = some (vp_cell _ _)
  rw [vp_cell_q, hz1, e1, hcA]
  congr 2
  funext j
  rw [(zZr_raw hz0 j).2.2.2]
  rfl
/-- the ends -/
theorem zy_return {g : ZG} {K : ZK} {nF : List Nat} {hs : Nat} {fi : Bool} {kc kn : Nat} {pc : Nat} {ls : ZLS} {μ : ZMem} (hr : zKr K = none) (ha : zKa K = none) (hm : zKm K = μ) (hk : kc = (zKR K).cells) (hn : kn ≤ (zKR K).slots) (hd : decode (zKc K) pc = .ok (.return_, 1)) : zWN g K nF hs fi nF kc kn pc ls [] μ := by
  intro l p e s m args below meth c C hx d H locs sl stk μr hd0 hS hP hμ hL hT
  cases zSR_nil hT
  have hret : meth.sig.returnType = zKr K := C.2.2.2.2.2.1
  have hlocks : meth.locks = false := C.2.2.2.2.2.2.1
  subst hk
  refine W.widen (Nat.le_refl _) hn (W.endD hd0 ?_)
  exact W.vret C.1 C.2.1 (hret.trans hr) (fun t ht hW => ⟨⟨⟨none, μr, rfl, by rw [ha]; exact trivial, by rw [hm]; exact hμ, by rw [ht]; exact hP⟩, C.2.2.2.2.2.2.2.2.1, hx.2.2.1⟩, hS.F ht⟩) hS.2.2 hd
theorem zy_areturn {g : ZG} {K : ZK} {nF : List Nat} {hs : Nat} {fi : Bool} {kc kn : Nat} {pc : Nat} {ls : ZLS} {μ : ZMem} {x : Option Nat} {rt : FieldType} (hr : zKr K = some rt) (hrt : (∃ n, rt = .object n) ∨ ∃ t, rt = .array t) (ha : zKa K = some (zr x)) (hm : zKm K = μ) (hk : kc = (zKR K).cells) (hn : kn ≤ (zKR K).slots) (hd : decode (zKc K) pc = .ok (.areturn, 1)) : zWN g K nF hs fi nF kc kn pc ls [zr x] μ := by
  intro l p e s m args below meth c C hx d H locs sl stk μr hd0 hS hP hμ hL hT
  obtain ⟨a1, stk1, rfl, h1, hT1⟩ := zSR_cons hT
  cases zSR_nil hT1
  have h1 : a1 = va_rf (x.map (zad g)) := h1
  subst h1
  have hret : meth.sig.returnType = zKr K := C.2.2.2.2.2.1
  have hlocks : meth.locks = false := C.2.2.2.2.2.2.1
  subst hk
  refine W.widen (Nat.le_refl _) hn (W.endD hd0 ?_)
  exact W.aret C.1 C.2.1 (hret.trans hr) hrt (by cases x with | none => exact Or.inl rfl | some r => exact Or.inr ⟨_, rfl⟩) (fun t ht hW => ⟨⟨⟨some (va_rf (x.map (zad g))), μr, rfl, by rw [ha]; exact rfl, by rw [hm]; exact hμ, by rw [ht]; exact hP⟩, C.2.2.2.2.2.2.2.2.1, hx.2.2.1⟩, hS.F ht⟩) hS.2.2 hd
