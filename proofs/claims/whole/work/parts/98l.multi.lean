/-- five rows of five numbers at once -/
theorem zP_gr {g : ZG} {nr n2 : List Nat} {μr μ2 : ZMem} {H H1 : Heap} (hP : va_P (zgD g) vwCl (zws (zgr g nr) μr) H) (ho : ∀ r ∈ zrs g ++ nr, zpc g μ2 r = zpc g μr r) (o1 : ∀ q, q < H.size → H1[q]? = H[q]?) (hc : ∀ r ∈ n2, va_at (zgD g) vwCl (zad g r, zpc g μ2 r) H1) : va_P (zgD g) vwCl (zws (zgr g (nr ++ n2)) μ2) H1 := by
  intro k q hk
  have hk : ((zrs g ++ (nr ++ n2)).map (fun r => (zad g r, zpc g μ2 r)))[k]? = some q := hk
  rw [List.getElem?_map] at hk
  obtain ⟨r, hr, rfl⟩ := Option.map_eq_some_iff.mp hk
  have hm := List.mem_of_getElem? hr
  rw [← List.append_assoc] at hm
  rcases List.mem_append.mp hm with z | z
  · obtain ⟨i, hi, hq⟩ := zws_at (g := zgr g nr) (r := r) z
    have h1 := hP i _ (hq μr)
    have e : zpc (zgr g nr) μr r = zpc g μr r := rfl
    rw [e, ← ho r z] at h1
    exact h1.kept (o1 _ h1.lt)
  · exact hc r z
theorem zAp_grL {g : ZG} {nr n2 : List Nat} {h : Nat} (hA : zAp (zgr g nr)) (ho : ∀ r ∈ zrs g ++ nr, zad g r < h) (hn : ∀ (i r : Nat), n2[i]? = some r → zad g r = h + i) : zAp (zgr g (nr ++ n2)) := by
  have hl : ∀ (i x : Nat), (zrs (zgr g (nr ++ n2)))[i]? = some x → ((zrs (zgr g nr))[i]? = some x ∧ zad g x < h) ∨ ((zrs g ++ nr).length ≤ i ∧ zad g x = h + (i - (zrs g ++ nr).length)) := by
    intro i x hi
    have hi : ((zrs g ++ (nr ++ n2)))[i]? = some x := hi
    rw [← List.append_assoc] at hi
    by_cases hh : i < (zrs g ++ nr).length
    · rw [List.getElem?_append_left hh] at hi
      exact Or.inl ⟨hi, ho x (List.mem_of_getElem? hi)⟩
    · rw [List.getElem?_append_right (by omega)] at hi
      exact Or.inr ⟨by omega, hn _ _ hi⟩
  intro i j x y hi hj e
  have e : zad g x = zad g y := e
  rcases hl i x hi with ⟨h1, h2⟩ | ⟨h1, h2⟩ <;> rcases hl j y hj with ⟨h3, h4⟩ | ⟨h3, h4⟩
  · exact hA i j x y h1 h3 e
  · omega
  · omega
  · omega
theorem zouter (c : ClassId) (h : Nat) (f : Nat → Value) (hf : ∀ j, j < 5 → f j = .ref (h + 1 + j)) : Jvm.Free.Multi.outerC c 5 h 5 = arrV c 5 f := by
  have e : Jvm.Free.Multi.outerC c 5 h 5 = { cls := c, slots := (Jvm.Free.Multi.outerC c 5 h 5).slots, vm := .none } := rfl
  rw [e]
  unfold arrV
  congr 1
  apply Array.ext_getElem?
  intro j
  by_cases hj : j < 5
  · rw [Jvm.Free.Multi.outerC_slot c 5 h 5 j hj, if_pos hj]
    simp only [Array.getElem?_ofFn, hj, dite_true]
    rw [hf j hj]
  · rw [Array.getElem?_eq_none (by rw [(Jvm.Free.Multi.outerC_facts c 5 h 5).2.2]; omega), Array.getElem?_eq_none (by simp; omega)]
def zm5 (μ : ZMem) : ZMem := (μ.1, μ.2.1, μ.2.2.1, fun a b => if a = 11 ∧ b < 5 then some (12 + b) else μ.2.2.2 a b)
theorem zy_multi {g : ZG} {K : ZK} {nF : List Nat} {hs : Nat} {fi : Bool} {nr : List Nat} {kc kn : Nat} {kc2 kn2 : Nat} {pc : Nat} {ls : ZLS} {st : List ZV} {μ : ZMem} (hown : zKo K = RX5) (hkd : zkd g 11 = 17 ∧ zln g 11 = 5 ∧ ∀ j, j < 5 → zkd g (12 + j) = 8 ∧ zln g (12 + j) = 5) (hq : zad g 11 = hs + kc ∧ ∀ j, j < 5 → zad g (12 + j) = hs + kc + 1 + j) (hz0 : zZr μ 11 ∧ ∀ j, j < 5 → zZr μ (12 + j)) (hk : kc + 6 = kc2) (hn : kn + 30 ≤ kn2) (hR : kc2 ≤ (zKR K).cells ∧ kn2 ≤ (zKR K).slots) (hd : decode (zKc K) pc = .ok (.multianewarray 18 2, 4)) (kk : zWN g K nF hs fi (nr ++ [11, 12, 13, 14, 15, 16]) kc2 kn2 (pc + 4) ls (zr (some 11) :: st) (zm5 μ)) : zWN g K nF hs fi nr kc kn pc ls (zi 5 :: zi 5 :: st) μ := by
  intro l p e s m args below meth c C hx d H locs sl stk μr hd0 hS hP hμ hL hT T hT0 X
  have hz := zsize hx.1 hx.2.2.1 hS hP hT0 X
  obtain ⟨a1, stk1, rfl, h1, hT1⟩ := zSR_cons (g := g) hT
  cases h1
  obtain ⟨a2, stk2, rfl, h2, hT2⟩ := zSR_cons (g := g) hT1
  cases h2
  subst hk
  have hts := dr_words C.2.2.2.2.1 d
  have e5 : (5 : Int32).toNatClampNeg = 5 := by decide
  have w1 : (Cond.classLink (zKo K) 18 ("[" ++ (FieldType.array .double).toString)).before args (s.setDrawn d) = true := by
    have h := hts _ (zmem 271 (by decide +kernel) rfl : Cond.classLink RX5 18 "[[D" ∈ lw_good)
    rw [hown, show "[" ++ (FieldType.array .double).toString = "[[D" by decide +kernel]
    exact h
  have w2 : (Cond.arrayOver (.array .double)).before args (s.setDrawn d) = true := Jvm.Stand.arrayOver_alikeB (Vm.Alike.refl _) (zXs_d d hx.2.1).2.1
  obtain ⟨vm₁, cA, comp, hW, hfA, hfC, hO, hI, X1, stp⟩ := X.multianewarray2F C.1 (own := zKo K) (index := 18) (ty := .double) C.2.2.2.1 w1 w2 (hts _ (zmem 161 (by decide +kernel) rfl)) (g := F0 m pc sl (.int 5 :: .int 5 :: stk2)) rfl (by rw [C.2.1]; exact hd) rfl (by decide) (by decide) (by decide) (by decide) (by decide) rfl rfl (by rw [e5]; omega) (by rw [e5]; omega)
  rw [e5] at X1 stp
  obtain ⟨f1, f2, f3, f4⟩ := Jvm.Free.Multi.fill_facts (T.setVm vm₁) cA comp 5 5 (defaultValue .double) 5
  have fo := fun (a : Addr) (ha : a < T.heap.size) => Jvm.Free.Multi.fill_old (T.setVm vm₁) cA comp 5 5 (defaultValue .double) (a := a) ha 5
  have fj := fun (j : Nat) (hj : j < 5) => Jvm.Free.Multi.fill_inner (T.setVm vm₁) cA comp 5 5 (defaultValue .double) 5 j hj
  obtain ⟨o1, o2, o3⟩ := Jvm.Free.Multi.outerC_facts cA 5 T.heap.size 5
  have os := fun (j : Nat) (hj : j < 5) => Jvm.Free.Multi.outerC_slot cA 5 T.heap.size 5 j hj
  generalize hF : Jvm.Free.Multi.fill (T.setVm vm₁) cA comp 5 5 (defaultValue .double) 5 = F at f1 f2 f3 f4 fo fj X1 stp
  have hts0 : (T.setVm vm₁).heap = H := hT0
  have zq : T.heap.size = hs + kc := by rw [hT0]; exact hz
  have hold : ∀ r ∈ zrs g ++ nr, zad g r < hs + kc := fun r hr => by
    have := zws_lt (g := zgr g nr) hP (r := r) hr
    rw [hz] at this
    exact this
  have hRA := (C.2.2.2.2.2.2.2.1.2 9 (zcy g 17, .array .double) rfl).2
  have hRI := (C.2.2.2.2.2.2.2.1.2 0 (zcy g 8, .double) rfl).2
  have hcA : cA = zcy g 17 := Option.some.inj (hfA.symm.trans hRA)
  have hcI : comp = zcy g 8 := Option.some.inj (hfC.symm.trans hRI)
  have hzr := zZr_raw (by rw [hμ]; exact hz0.1 : zZr (zcM μr) 11)
  have hrow : ∀ r, r ≠ 11 → zpc g (zm5 μr) r = zpc g μr r := fun r h => zpc_row rfl rfl rfl (by
    funext b
    show (if r = 11 ∧ b < 5 then _ else _) = _
    rw [if_neg (fun q => h q.1)]
    rfl)
  have hn2 : ∀ (i r : Nat), [11, 12, 13, 14, 15, 16][i]? = some r → zad g r = (hs + kc) + i := by
    intro i r h
    rcases (show i = 0 ∨ i = 1 ∨ i = 2 ∨ i = 3 ∨ i = 4 ∨ i = 5 ∨ 6 ≤ i by omega) with z | z | z | z | z | z | z
    · subst z; cases h; exact hq.1
    · subst z; cases h; exact hq.2 0 (by decide)
    · subst z; cases h; exact hq.2 1 (by decide)
    · subst z; cases h; exact hq.2 2 (by decide)
    · subst z; cases h; exact hq.2 3 (by decide)
    · subst z; cases h; exact hq.2 4 (by decide)
    · rw [List.getElem?_eq_none (by simpa using z)] at h
      cases h
  have hP1 : va_P (zgD g) vwCl (zws (zgr g (nr ++ [11, 12, 13, 14, 15, 16])) (zm5 μr)) F.heap := by
    refine zP_gr hP (fun r hr => hrow r (fun q => ?_)) (fun q h => ?_) (fun r hr => ?_)
    · subst q
      have := hold _ hr
      omega
    · have := fo q (by rw [hT0]; exact h)
      rw [this]
      show T.heap[q]? = _
      rw [hT0]
    · obtain ⟨i, hi⟩ := List.getElem?_of_mem hr
      have ha := hn2 i r hi
      by_cases h11 : r = 11
      · subst h11
        have hpc : zpc g (zm5 μr) 11 = .inl (zcy g 17, 5, .inr (.inr (.inr (.inr (fun k => (zR (zm5 μr) 11 k).map (zad g)))))) := by
          unfold zpc
          rw [hkd.1, if_neg (by decide), hkd.2.1, zpay_ref (by decide)]
        rw [hpc]
        show F.heap[zad g 11]? = some (arrV (zcy g 17) 5 (fun j => va_rf ((zR (zm5 μr) 11 j).map (zad g))))
        rw [hq.1, ← zq]
        refine f2.trans (congrArg some ?_)
        rw [hcA]
        refine zouter _ _ _ (fun j hj => ?_)
        have e9 : zR (zm5 μr) 11 j = some (12 + j) := by
          show (if 11 = 11 ∧ j < 5 then some (12 + j) else _) = _
          rw [if_pos ⟨rfl, hj⟩]
        rw [e9]
        show Value.ref (zad g (12 + j)) = _
        rw [hq.2 j hj, ← zq]
        rfl
      · have hj : ∃ j, j < 5 ∧ r = 12 + j := by
          simp only [List.mem_cons, List.not_mem_nil, or_false] at hr
          exact ⟨r - 12, by omega, by omega⟩
        obtain ⟨j, hj, rfl⟩ := hj
        have hzj := zZr_raw (by rw [hμ]; exact hz0.2 j hj : zZr (zcM μr) (12 + j))
        have hpc : zpc g (zm5 μr) (12 + j) = .inl (zcy g 8, 5, .inr (.inr (.inr (.inl (zD μr (12 + j)))))) := by
          rw [hrow _ (by omega)]
          unfold zpc
          rw [(hkd.2.2 j hj).1, if_neg (by decide), (hkd.2.2 j hj).2]
          rfl
        rw [hpc]
        show F.heap[zad g (12 + j)]? = some (arrV (zcy g 8) 5 (fun i => .double (zD μr (12 + j) i)))
        rw [hq.2 j hj, ← zq]
        refine (fj j hj).trans (congrArg some ?_)
        rw [← hcI]
        have e9 : (fun i => Value.double (zD μr (12 + j) i)) = fun _ => defaultValue .double := by
          funext i
          rw [(hzj i).2.2.1]
          rfl
        rw [e9, ← arrV_new]
        rfl
  have hA1 : zAp (zgr g (nr ++ [11, 12, 13, 14, 15, 16])) := zAp_grL C.2.2.2.2.2.2.2.2.1 hold hn2
  have hge : ∀ r ∈ [11, 12, 13, 14, 15, 16], hs + kc ≤ zad g r := fun r hr => by
    obtain ⟨i, hi⟩ := List.getElem?_of_mem hr
    have := hn2 i r hi
    omega
  have hlow : zlow g hs (nr ++ [11, 12, 13, 14, 15, 16]) (kc + 6) := by
    refine ⟨Or.inr ⟨16, List.mem_append_right _ (by decide), ?_⟩, fun r hr => ?_⟩
    · have : zad g 16 = _ := hq.2 4 (by decide)
      omega
    · rcases List.mem_append.mp hr with z | z
      · exact hx.2.2.1.2 r z
      · have := hge r z
        omega
  have hS1 : va_S (zA0 g hs) s.heap F.heap locs := zS_push hS (by rw [f1]; show H.size ≤ T.heap.size + 1 + 5; rw [hT0]; omega) (fun q h => by
    have := fo q (by rw [hT0]; exact h)
    rw [this]
    show T.heap[q]? = _
    rw [hT0])
  obtain ⟨t2, a9, b9⟩ := kk l p e s m args below meth c (zCX_gr C hA1 (fun r hr => by have := hge r hr; have := hx.1; omega)) ⟨hx.1, hx.2.1, hlow, hx.2.2.2⟩ d F.heap locs sl (.ref (zad g 11) :: stk2) (zm5 μr) hd0 hS1 hP1 (by rw [← hμ]; rfl) hL ⟨rfl, hT2⟩ F rfl (stand_widen X1 (Nat.le_refl _) (by omega))
  refine ⟨t2, stp t2 ?_, b9⟩
  rw [zq, ← hq.1]
  exact a9
