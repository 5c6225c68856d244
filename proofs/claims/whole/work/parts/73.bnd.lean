/-! the model's flows are bounded -/
theorem zi_add {a b : Int64} (h1 : a.toInt + b.toInt < 2 ^ 63) (h2 : -2 ^ 63 ≤ a.toInt + b.toInt) : (a + b).toInt = a.toInt + b.toInt := by
  rw [Int64.toInt_add]
  exact Int.bmod_eq_of_le (by omega) (by omega)
theorem zi_neg {a : Int64} (h1 : a.toInt ≠ -2 ^ 63) : (-a).toInt = -a.toInt := by
  have := Int64.toInt_lt a
  have := Int64.le_toInt a
  rw [Int64.toInt_neg]
  exact Int.bmod_eq_of_le (by omega) (by omega)
theorem zi_d8 {a : Int64} (h0 : 0 ≤ a.toInt) : (a / 8).toInt = a.toInt / 8 := by
  have := Int64.toInt_lt a
  rw [Int64.toInt_div, show (8 : Int64).toInt = 8 from rfl, Int.tdiv_eq_ediv_of_nonneg h0]
  exact Int.bmod_eq_of_le (by omega) (by omega)
theorem zi_lt {a b : Int64} : a < b ↔ a.toInt < b.toInt := Int64.lt_iff_toInt_lt
theorem zi_0 : (0 : Int64).toInt = 0 := rfl
theorem tlim1 (ν : ZMem) (c : Nat) (q : Int64) (h0 : 0 ≤ (zL ν 7 c).toInt) : (0 < q → 0 ≤ (t_lim1 ν (some c) q).toInt ∧ (t_lim1 ν (some c) q).toInt ≤ (zL ν 7 c).toInt / 8) ∧ (¬ 0 < q → -((zL ν 7 c).toInt / 8) ≤ (t_lim1 ν (some c) q).toInt ∧ (t_lim1 ν (some c) q).toInt ≤ 0) := by
  have e8 := zi_d8 h0
  have b8 := Int64.toInt_lt (zL ν 7 c)
  have en : (-(zL ν 7 c / 8)).toInt = -((zL ν 7 c).toInt / 8) := by rw [zi_neg (by omega), e8]
  have := zi_0
  unfold t_lim1
  show (0 < q → 0 ≤ (if zL ν 7 c < 50 then 0 else if zL ν 7 c / 8 < q then zL ν 7 c / 8 else if q < -(zL ν 7 c / 8) then -(zL ν 7 c / 8) else q : Int64).toInt ∧ (if zL ν 7 c < 50 then 0 else if zL ν 7 c / 8 < q then zL ν 7 c / 8 else if q < -(zL ν 7 c / 8) then -(zL ν 7 c / 8) else q : Int64).toInt ≤ (zL ν 7 c).toInt / 8) ∧ (¬ 0 < q → -((zL ν 7 c).toInt / 8) ≤ (if zL ν 7 c < 50 then 0 else if zL ν 7 c / 8 < q then zL ν 7 c / 8 else if q < -(zL ν 7 c / 8) then -(zL ν 7 c / 8) else q : Int64).toInt ∧ (if zL ν 7 c < 50 then 0 else if zL ν 7 c / 8 < q then zL ν 7 c / 8 else if q < -(zL ν 7 c / 8) then -(zL ν 7 c / 8) else q : Int64).toInt ≤ 0)
  generalize zL ν 7 c / 8 = E at *
  generalize (zL ν 7 c).toInt = V at *
  split
  · constructor <;> intro _ <;> omega
  · split
    · rename_i h
      rw [zi_lt] at h
      constructor <;> intro q0 <;> rw [zi_lt] at q0 <;> omega
    · rename_i h
      rw [zi_lt] at h
      split
      · rename_i h'
        rw [zi_lt] at h'
        constructor <;> intro q0 <;> rw [zi_lt] at q0 <;> omega
      · rename_i h'
        rw [zi_lt] at h'
        constructor <;> intro q0 <;> rw [zi_lt] at q0 <;> omega
/-- water stands there -/
def wtr (m : ZMem) (i j : Nat) : Prop := ¬ zI m 4 (12 * j + i) = 0
theorem hWt {m : ZMem} {w h i j : Nat} (hd : zDim w h) (hi : i < w) (hj : j < h) : ¬ t_isWater m w h (nI i) (nI j) = 0 ↔ wtr m i j := by
  rw [t_isWater_nI hd.2.1 hd.2.2.2 hi hj]
  unfold wtr
  by_cases e : zI m 4 (12 * j + i) = 0
  · rw [if_pos e]; exact ⟨fun q => absurd rfl q, fun q => absurd e q⟩
  · rw [if_neg e]; exact ⟨fun _ => e, fun _ => by decide⟩
theorem hF0 {m : ZMem} {w h i j : Nat} (hd : zDim w h) (hi : i < w) (hj : j < h) : ¬ t_hasFace m w h (nI i) (nI j) 0 = 0 ↔ i + 1 < w ∧ wtr m i j ∧ wtr m (i + 1) j := by
  obtain ⟨d1, d2, d3, d4⟩ := hd
  constructor
  · intro e
    have g := t_hasFace_0 d2 d4 (by omega) (by omega) e
    unfold t_hasFace at e
    split at e
    · exact absurd rfl e
    · rename_i a1
      rw [if_pos rfl, nI_1] at e
      split at e
      · exact absurd rfl e
      · rename_i a2
        exact ⟨g.1, (hWt ⟨d1, d2, d3, d4⟩ hi hj).mp a1, (hWt ⟨d1, d2, d3, d4⟩ g.1 hj).mp a2⟩
  · intro ⟨e1, e2, e3⟩
    unfold t_hasFace
    rw [if_neg ((hWt ⟨d1, d2, d3, d4⟩ hi hj).mpr e2), if_pos rfl, nI_1, if_neg ((hWt ⟨d1, d2, d3, d4⟩ e1 hj).mpr e3)]
    decide
theorem hF1 {m : ZMem} {w h i j : Nat} (hd : zDim w h) (hi : i < w) (hj : j < h) : ¬ t_hasFace m w h (nI i) (nI j) 1 = 0 ↔ j + 1 < h ∧ wtr m i j ∧ wtr m i (j + 1) := by
  obtain ⟨d1, d2, d3, d4⟩ := hd
  constructor
  · intro e
    have g := t_hasFace_1 (a := 1) (by decide) d2 d4 (by omega) (by omega) e
    unfold t_hasFace at e
    split at e
    · exact absurd rfl e
    · rename_i a1
      rw [if_neg (by decide), nI_1] at e
      split at e
      · exact absurd rfl e
      · rename_i a2
        exact ⟨g.2, (hWt ⟨d1, d2, d3, d4⟩ hi hj).mp a1, (hWt ⟨d1, d2, d3, d4⟩ hi g.2).mp a2⟩
  · intro ⟨e1, e2, e3⟩
    unfold t_hasFace
    rw [if_neg ((hWt ⟨d1, d2, d3, d4⟩ hi hj).mpr e2), if_neg (by decide), nI_1, if_neg ((hWt ⟨d1, d2, d3, d4⟩ hi e1).mpr e3)]
    decide
theorem hSd {m : ZMem} {w h i j k : Nat} (hd : zDim w h) (hi : i < w) (hj : j < h) (hk : k < 4) : ¬ t_hasSide m w h (nI i) (nI j) k = 0 ↔ wtr m i j ∧ atP w h i j k ∧ ¬ t_isOpen m k = 0 := by
  obtain ⟨d1, d2, d3, d4⟩ := hd
  unfold t_hasSide
  constructor
  · intro e
    split at e
    · exact absurd rfl e
    · rename_i a1
      split at e
      · exact absurd rfl e
      · rename_i a2
        split at e
        · exact absurd rfl e
        · rename_i a3
          exact ⟨(hWt ⟨d1, d2, d3, d4⟩ hi hj).mp a1, (atP_iff d1 d2 d3 d4 hi hj hk).mp a2, a3⟩
  · intro ⟨e1, e2, e3⟩
    rw [if_neg ((hWt ⟨d1, d2, d3, d4⟩ hi hj).mpr e1), if_neg ((atP_iff d1 d2 d3 d4 hi hj hk).mpr e2), if_neg e3]
    decide
def nV (w h : Nat) (m : ZMem) : Prop := ∀ j, j < h → ∀ i, i < w → 0 ≤ (zL m 7 (12 * j + i)).toInt ∧ (zL m 7 (12 * j + i)).toInt < 2 ^ 61
def nDep (w h : Nat) (m : ZMem) : Prop := ∀ j, j < h → ∀ i, i < w → zfi (zD m 5 (12 * j + i)) ∧ 0 ≤ zv (zD m 5 (12 * j + i)) ∧ zv (zD m 5 (12 * j + i)) ≤ 1000 * zU
def nWind (m : ZMem) : Prop := ∀ k, k < 24 → zWd (zD m 26 k) ∧ zWd (zD m 27 k)
def nSd (k : Nat) (x : UInt64) : Prop := (k = 0 ∨ k = 2 → zv x ≤ 16384 * zU) ∧ (k = 1 ∨ k = 3 → -(16384 * zU) ≤ zv x)
def nSpd (n w h : Nat) (m : ZMem) : Prop := ∀ j, j < h → ∀ i, i < w → (∀ k, k < 2 → zSp n (zD m 11 (144 * k + (12 * j + i)))) ∧ ∀ k, k < 4 → atP w h i j k → zSp n (zD m 11 (sfN i j k)) ∧ nSd k (zD m 11 (sfN i j k))
theorem fs_p (ν : ZMem) (hr : Nat) (v : UInt64) (f : Nat) (a : Int32) (b e : Option Nat) (out : UInt64) : f_s ν hr v f a b e out = p_spd (zD ν 11 f) (zsub (t_at ν b out) (t_at ν e out)) v (if a = 0 then zD ν 26 hr else zD ν 27 hr) (t_size (zD ν 11 f)) := rfl
theorem tl_b {w h : Nat} {m : ZMem} (hV : nV w h m) (hD : nDep w h m) {i j : Nat} (hi : i < w) (hj : j < h) : zfi (t_lev m (12 * j + i)) ∧ zv (t_lev m (12 * j + i)) ≤ 2 ^ 53 * zU ∧ -(1000 * zU) ≤ zv (t_lev m (12 * j + i)) := by
  obtain ⟨v0, v1⟩ := hV j hj i hi
  obtain ⟨d0, d1, d2⟩ := hD j hj i hi
  exact zlev_b v0 (by omega) d0 d1 d2
/-- an inner face -/
theorem flow_in {w h n hr : Nat} {ν : ZMem} {v : UInt64} (hn : n < 2 ^ 40) (hh : zHh v) (hW : nWind ν) (hhr : hr < 24) (hV : nV w h ν) (hD : nDep w h ν) {f : Nat} (hS : zSp n (zD ν 11 f)) {a : Int32} {i j i' j' : Nat} (hi : i < w) (hj : j < h) (hi' : i' < w) (hj' : j' < h) : zSp (n + 1) (f_s ν hr v f a (some (12 * j + i)) (some (12 * j' + i')) 0) ∧ ∀ s, -((zL ν 7 (12 * j' + i')).toInt / 8) ≤ (f_q ν v (some (12 * j + i)) (some (12 * j' + i')) s).toInt ∧ (f_q ν v (some (12 * j + i)) (some (12 * j' + i')) s).toInt ≤ (zL ν 7 (12 * j + i)).toInt / 8 := by
  have hU := zU_pos
  obtain ⟨a0, a1, a2⟩ := tl_b hV hD hi hj
  obtain ⟨b0, b1, b2⟩ := tl_b hV hD hi' hj'
  obtain ⟨e0, e1, e2⟩ := zB_sub a0 b0 (V := 2 ^ 54 * zU) (W := -(2 ^ 54 * zU)) (zRk 1 54 (by decide) (by decide) (by simp)) (zRkm 1 54 (by decide) (by decide) (by simp)) (by omega) (by omega)
  have hw : zWd (if a = 0 then zD ν 26 hr else zD ν 27 hr) := by
    split
    · exact (hW hr hhr).1
    · exact (hW hr hhr).2
  refine ⟨(zspd_b hn hS e0 e1 e2 hh hw).1, fun s => ?_⟩
  unfold f_q t_lim
  generalize FP.d2l (zmul (zmul s v) (zmul (FP.l2d (t_min ν (some (12 * j + i)) (some (12 * j' + i')))) k0001)) = q
  obtain ⟨v0, v1⟩ := hV j hj i hi
  obtain ⟨v2, v3⟩ := hV j' hj' i' hi'
  split
  · rename_i q0
    have := (tlim1 ν (12 * j + i) q v0).1 q0
    omega
  · rename_i q0
    have := (tlim1 ν (12 * j' + i') q v2).2 q0
    omega
/-- over a side, where the cell lies behind -/
theorem flow_bh {w h n hr : Nat} {ν : ZMem} {v : UInt64} (hn : n < 2 ^ 40) (hh : zHh v) (hW : nWind ν) (hhr : hr < 24) (hV : nV w h ν) (hD : nDep w h ν) {f k : Nat} (hS : zSp n (zD ν 11 f)) (hS2 : zv (zD ν 11 f) ≤ 16384 * zU) (hwv : zWv ν k) (ht : zTm (zD ν 0 13)) {a : Int32} {i j : Nat} (hi : i < w) (hj : j < h) {s : UInt64} (hs : s = f_s ν hr v f a none (some (12 * j + i)) (t_outside ν k)) : zSp (n + 1) s ∧ zv s ≤ 16384 * zU ∧ -((zL ν 7 (12 * j + i)).toInt / 8) ≤ (f_q ν v none (some (12 * j + i)) s).toInt ∧ (f_q ν v none (some (12 * j + i)) s).toInt ≤ 274877906944 := by
  obtain ⟨v0, v1⟩ := hV j hj i hi
  obtain ⟨d0, d1, d2⟩ := hD j hj i hi
  obtain ⟨o0, o1, o2⟩ := zout_b hwv ht
  have hw : zWd (if a = 0 then zD ν 26 hr else zD ν 27 hr) := by
    split
    · exact (hW hr hhr).1
    · exact (hW hr hhr).2
  obtain ⟨r1, r2, r3⟩ := zside_in (dep := zD ν 5 (12 * j + i)) hn hS hh hw v0 (by omega) d0 d1 d2 o0 o1 o2 hS2
  have e : p_spd (zD ν 11 f) (zsub (t_outside ν k) (p_lev (zL ν 7 (12 * j + i)) (zD ν 5 (12 * j + i)))) v (if a = 0 then zD ν 26 hr else zD ν 27 hr) (t_size (zD ν 11 f)) = s := hs.symm
  rw [e] at r1 r2 r3
  refine ⟨r1, r2, ?_⟩
  unfold f_q t_lim
  show -((zL ν 7 (12 * j + i)).toInt / 8) ≤ (if 0 < p_ask s v (zL ν 7 (12 * j + i)) then p_ask s v (zL ν 7 (12 * j + i)) else t_lim1 ν (some (12 * j + i)) (p_ask s v (zL ν 7 (12 * j + i)))).toInt ∧ (if 0 < p_ask s v (zL ν 7 (12 * j + i)) then p_ask s v (zL ν 7 (12 * j + i)) else t_lim1 ν (some (12 * j + i)) (p_ask s v (zL ν 7 (12 * j + i)))).toInt ≤ 274877906944
  generalize p_ask s v (zL ν 7 (12 * j + i)) = q at *
  split
  · rename_i q0
    rw [zi_lt] at q0
    have := zi_0
    omega
  · rename_i q0
    have := (tlim1 ν (12 * j + i) q v0).2 q0
    omega
theorem flow_bf {w h n hr : Nat} {ν : ZMem} {v : UInt64} (hn : n < 2 ^ 40) (hh : zHh v) (hW : nWind ν) (hhr : hr < 24) (hV : nV w h ν) (hD : nDep w h ν) {f k : Nat} (hS : zSp n (zD ν 11 f)) (hS2 : -(16384 * zU) ≤ zv (zD ν 11 f)) (hwv : zWv ν k) (ht : zTm (zD ν 0 13)) {a : Int32} {i j : Nat} (hi : i < w) (hj : j < h) {s : UInt64} (hs : s = f_s ν hr v f a (some (12 * j + i)) none (t_outside ν k)) : zSp (n + 1) s ∧ -(16384 * zU) ≤ zv s ∧ -274877906944 ≤ (f_q ν v (some (12 * j + i)) none s).toInt ∧ (f_q ν v (some (12 * j + i)) none s).toInt ≤ (zL ν 7 (12 * j + i)).toInt / 8 := by
  obtain ⟨v0, v1⟩ := hV j hj i hi
  obtain ⟨d0, d1, d2⟩ := hD j hj i hi
  obtain ⟨o0, o1, o2⟩ := zout_b hwv ht
  have hw : zWd (if a = 0 then zD ν 26 hr else zD ν 27 hr) := by
    split
    · exact (hW hr hhr).1
    · exact (hW hr hhr).2
  obtain ⟨r1, r2, r3⟩ := zside_out (dep := zD ν 5 (12 * j + i)) hn hS hh hw v0 (by omega) d0 d1 d2 o0 o1 o2 hS2
  have e : p_spd (zD ν 11 f) (zsub (p_lev (zL ν 7 (12 * j + i)) (zD ν 5 (12 * j + i))) (t_outside ν k)) v (if a = 0 then zD ν 26 hr else zD ν 27 hr) (t_size (zD ν 11 f)) = s := hs.symm
  rw [e] at r1 r2 r3
  refine ⟨r1, r2, ?_⟩
  unfold f_q t_lim
  show -274877906944 ≤ (if 0 < p_ask s v (zL ν 7 (12 * j + i)) then t_lim1 ν (some (12 * j + i)) (p_ask s v (zL ν 7 (12 * j + i))) else p_ask s v (zL ν 7 (12 * j + i))).toInt ∧ (if 0 < p_ask s v (zL ν 7 (12 * j + i)) then t_lim1 ν (some (12 * j + i)) (p_ask s v (zL ν 7 (12 * j + i))) else p_ask s v (zL ν 7 (12 * j + i))).toInt ≤ (zL ν 7 (12 * j + i)).toInt / 8
  generalize p_ask s v (zL ν 7 (12 * j + i)) = q at *
  split
  · rename_i q0
    have := (tlim1 ν (12 * j + i) q v0).1 q0
    omega
  · rename_i q0
    rw [zi_lt] at q0
    have := zi_0
    omega
