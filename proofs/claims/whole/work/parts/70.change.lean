/-! the model's change of a cell, as a function of what there was -/
abbrev CV : Type := Int64 × UInt64 × UInt64 × UInt64
def cvw (m : ZMem) (c : Nat) : CV := (zL m 7 c, zD m 0 19, zD m 0 20, zD m 0 21)
def p_pass (n : Int64) (sp wO sO wC sC : UInt64) (x : CV) : CV := (x.1 + n, if 0 < n then zadd x.2.1 (zmul (FP.l2d n) wO) else zsub x.2.1 (zmul (FP.l2d (-n)) wC), if 0 < n then zadd x.2.2.1 (zmul (FP.l2d n) sO) else zsub x.2.2.1 (zmul (FP.l2d (-n)) sC), s_dmax x.2.2.2 (t_size sp))
def xL3 : Nat → Bool := fun r => r == 7 || (r == 12 || r == 0)
def xD4 : Nat → Bool := fun r => r == 0 || (r == 8 || (r == 9 || r == 10))
abbrev zCh (m κ : ZMem) : Prop := zSame x0 xL3 xD4 m κ
theorem zCh.i {m ν : ZMem} (h : zCh m ν) (r : Nat) : zI m r = zI ν r := h.2.1 r rfl
theorem zCh.l {m ν : ZMem} (h : zCh m ν) {r : Nat} (hr : xL3 r = false) : zL m r = zL ν r := h.2.2.1 r hr
theorem zCh.d {m ν : ZMem} (h : zCh m ν) {r : Nat} (hr : xD4 r = false) : zD m r = zD ν r := h.2.2.2 r hr
theorem zCh.water {m ν : ZMem} (h : zCh m ν) (w hh : Nat) (x y : Int32) : t_isWater m w hh x y = t_isWater ν w hh x y := by
  unfold t_isWater
  rw [h.i]
theorem zCh.face {m ν : ZMem} (h : zCh m ν) (w hh : Nat) (x y a : Int32) : t_hasFace m w hh x y a = t_hasFace ν w hh x y a := by
  unfold t_hasFace
  rw [h.water, h.water, h.water]
theorem zCh.opn {m ν : ZMem} (h : zCh m ν) (s : Nat) : t_isOpen m s = t_isOpen ν s := by
  unfold t_isOpen t_opn
  rw [h.i]
theorem zCh.side {m ν : ZMem} (h : zCh m ν) (w hh : Nat) (x y : Int32) (s : Nat) : t_hasSide m w hh x y s = t_hasSide ν w hh x y s := by
  unfold t_hasSide
  rw [h.water, h.opn]
theorem zCh.ow {m ν : ZMem} (h : zCh m ν) {r : Nat} (hr : xD4 r = false) (k : UInt64) (x : Option Nat) : t_ow m r k x = t_ow ν r k x := by
  cases x with
  | none => rfl
  | some d => exact congrFun (h.d hr) d
theorem zCh.comes {m ν : ZMem} (h : zCh m ν) (f k : Nat) : t_comes m f k = t_comes ν f k := by
  unfold t_comes
  rw [h.l (r := 19) rfl]
/-- what a change leaves of the rest -/
def zKl (m' m : ZMem) (c : Nat) : Prop := (∀ c', c' ≠ c → zL m' 7 c' = zL m 7 c') ∧ zL m' 0 = zL m 0 ∧ zD m' 8 = zD m 8 ∧ zD m' 9 = zD m 9 ∧ zD m' 10 = zD m 10 ∧ zD m' 0 13 = zD m 0 13
theorem zKl.rf (m : ZMem) (c : Nat) : zKl m m c := ⟨fun _ _ => rfl, rfl, rfl, rfl, rfl, rfl⟩
theorem zKl.tr {a b d : ZMem} {c : Nat} (h1 : zKl a b c) (h2 : zKl b d c) : zKl a d c := ⟨fun c' h => (h1.1 c' h).trans (h2.1 c' h), h1.2.1.trans h2.2.1, h1.2.2.1.trans h2.2.2.1, h1.2.2.2.1.trans h2.2.2.2.1, h1.2.2.2.2.1.trans h2.2.2.2.2.1, h1.2.2.2.2.2.trans h2.2.2.2.2.2⟩
theorem passT_cv (m : ZMem) (c f : Nat) (n : Int64) : cvw (q_passT m c f n) c = (zL m 7 c + n, zD m 0 19, zD m 0 20, s_dmax (zD m 0 21) (t_size (zD m 11 f))) := by
  unfold cvw q_passT
  rw [zL_sD, zL_sL, if_pos ⟨rfl, rfl⟩, zD_sD, if_neg (by omega), zD_sD, if_neg (by omega), zD_sD, if_pos ⟨rfl, rfl⟩]
  rfl
theorem tow_0 (m : ZMem) (k : Nat) (v : UInt64) {r : Nat} (hr : r ≠ 0) (d : UInt64) (x : Option Nat) : t_ow (zsD m 0 k v) r d x = t_ow m r d x := by
  cases x with
  | none => rfl
  | some e =>
    show zD (zsD m 0 k v) r e = zD m r e
    rw [zD_sD, if_neg (by omega)]
theorem passP_cv (m : ZMem) (n : Int64) (x : Option Nat) (c f : Nat) : zL (q_passP m n x) 7 c = zL m 7 c ∧ zD (q_passP m n x) 0 19 = zadd (zD m 0 19) (zmul (FP.l2d n) (t_ow m 17 k8 x)) ∧ zD (q_passP m n x) 0 20 = zadd (zD m 0 20) (zmul (FP.l2d n) (t_ow m 18 k34 x)) ∧ zD (q_passP m n x) 0 21 = zD m 0 21 ∧ zD (q_passP m n x) 11 f = zD m 11 f := by
  unfold q_passP
  refine ⟨rfl, ?_, ?_, ?_, ?_⟩
  · rw [zD_sD, if_neg (by omega), zD_sD, if_pos ⟨rfl, rfl⟩]
  · rw [zD_sD, if_pos ⟨rfl, rfl⟩, tow_0 _ _ _ (by decide), zD_sD, if_neg (by omega)]
  · rw [zD_sD, if_neg (by omega), zD_sD, if_neg (by omega)]
  · rw [zD_sD, if_neg (by omega), zD_sD, if_neg (by omega)]
theorem passM_cv (m : ZMem) (n : Int64) (c f : Nat) : zL (q_passM m c n) 7 c = zL m 7 c ∧ zD (q_passM m c n) 0 19 = zsub (zD m 0 19) (zmul (FP.l2d (-n)) (zD m 17 c)) ∧ zD (q_passM m c n) 0 20 = zsub (zD m 0 20) (zmul (FP.l2d (-n)) (zD m 18 c)) ∧ zD (q_passM m c n) 0 21 = zD m 0 21 ∧ zD (q_passM m c n) 11 f = zD m 11 f := by
  unfold q_passM
  refine ⟨rfl, ?_, ?_, ?_, ?_⟩
  · rw [zD_sD, if_neg (by omega), zD_sD, if_pos ⟨rfl, rfl⟩]
  · rw [zD_sD, if_pos ⟨rfl, rfl⟩, zD_sD, if_neg (by omega), zD_sD, if_neg (by omega)]
  · rw [zD_sD, if_neg (by omega), zD_sD, if_neg (by omega)]
  · rw [zD_sD, if_neg (by omega), zD_sD, if_neg (by omega)]
theorem pass_cv (m : ZMem) (c f : Nat) (n : Int64) (x : Option Nat) : cvw (q_pass m c f n x) c = p_pass n (zD m 11 f) (t_ow m 17 k8 x) (t_ow m 18 k34 x) (zD m 17 c) (zD m 18 c) (cvw m c) := by
  unfold q_pass
  rw [passT_cv]
  unfold p_pass cvw
  by_cases hn : 0 < n
  · obtain ⟨a1, a2, a3, a4, a5⟩ := passP_cv m n x c f
    rw [if_pos hn, if_pos hn, if_pos hn, a1, a2, a3, a4, a5]
  · obtain ⟨a1, a2, a3, a4, a5⟩ := passM_cv m n c f
    rw [if_neg hn, if_neg hn, if_neg hn, a1, a2, a3, a4, a5]
theorem zCh_passT (m : ZMem) (c f : Nat) (n : Int64) : zCh (q_passT m c f n) m := (zSame_sD (XI := x0) (XL := xL3) (XD := xD4) (r := 0) _ 21 _ rfl).tr (zSame_sL m c _ rfl)
theorem zCh_pass (m : ZMem) (c f : Nat) (n : Int64) (x : Option Nat) : zCh (q_pass m c f n x) m := by
  unfold q_pass
  refine (zCh_passT _ _ _ _).tr ?_
  split
  · exact (zSame_sD (XI := x0) (XL := xL3) (XD := xD4) (r := 0) _ 20 _ rfl).tr (zSame_sD m 19 _ rfl)
  · exact (zSame_sD (XI := x0) (XL := xL3) (XD := xD4) (r := 0) _ 20 _ rfl).tr (zSame_sD m 19 _ rfl)
theorem zDr (m : ZMem) {r a : Nat} (k : Nat) (v : UInt64) (h : a ≠ r) : zD (zsD m r k v) a = zD m a := zup_row m.2.2.1 k v h
theorem zLr (m : ZMem) {r a : Nat} (k : Nat) (v : Int64) (h : a ≠ r) : zL (zsL m r k v) a = zL m a := zup_row m.2.1 k v h
theorem zIr (m : ZMem) {r a : Nat} (k : Nat) (v : Int32) (h : a ≠ r) : zI (zsI m r k v) a = zI m a := zup_row m.1 k v h
theorem zKl_0 (m : ZMem) (c k : Nat) (v : UInt64) (hk : k ≠ 13) : zKl (zsD m 0 k v) m c := ⟨fun _ _ => rfl, rfl, zDr _ _ _ (by decide), zDr _ _ _ (by decide), zDr _ _ _ (by decide), by rw [zD_sD, if_neg (by omega)]⟩
theorem zKl_7 (m : ZMem) (c : Nat) (v : Int64) : zKl (zsL m 7 c v) m c := ⟨fun c' h => by rw [zL_sL, if_neg (by omega)], zLr _ _ _ (by decide), rfl, rfl, rfl, rfl⟩
theorem zKl_12 (m : ZMem) (c k : Nat) (v : Int64) : zKl (zsL m 12 k v) m c := ⟨fun c' h => by rw [zL_sL, if_neg (by omega)], zLr _ _ _ (by decide), rfl, rfl, rfl, rfl⟩
theorem zKl_pass (m : ZMem) (c f : Nat) (n : Int64) (x : Option Nat) : zKl (q_pass m c f n x) m c ∧ zL (q_pass m c f n x) 12 = zL m 12 := by
  unfold q_pass q_passT
  constructor
  · refine (zKl_0 _ _ 21 _ (by decide)).tr ((zKl_7 _ _ _).tr ?_)
    split
    · exact (zKl_0 _ _ 20 _ (by decide)).tr (zKl_0 _ _ 19 _ (by decide))
    · exact (zKl_0 _ _ 20 _ (by decide)).tr (zKl_0 _ _ 19 _ (by decide))
  · rw [show ∀ (a : ZMem) (v : UInt64), zL (zsD a 0 21 v) = zL a from fun _ _ => rfl, zLr _ _ _ (by decide)]
    split <;> rfl
/-- the eight places where something may come or go: left, right, up, down, the four sides -/
def pE (κ : ZMem) (w h i j p : Nat) : Int32 := if p = 0 then (if nI i ≤ 0 then 0 else t_hasFace κ w h (nI (i - 1)) (nI j) 0) else if p = 1 then t_hasFace κ w h (nI i) (nI j) 0 else if p = 2 then (if nI j ≤ 0 then 0 else t_hasFace κ w h (nI i) (nI (j - 1)) 1) else if p = 3 then t_hasFace κ w h (nI i) (nI j) 1 else t_hasSide κ w h (nI i) (nI j) (p - 4)
def pF (i j p : Nat) : Nat := if p = 0 then 12 * j + (i - 1) else if p = 1 then 12 * j + i else if p = 2 then 144 + (12 * (j - 1) + i) else if p = 3 then 144 + (12 * j + i) else sfN i j (p - 4)
def pN (κ : ZMem) (i j p : Nat) : Int64 := if p = 0 then zL κ 19 (pF i j p) else if p = 1 then -zL κ 19 (pF i j p) else if p = 2 then zL κ 19 (pF i j p) else if p = 3 then -zL κ 19 (pF i j p) else t_comes κ (pF i j p) (p - 4)
def pO (i j p : Nat) : Option Nat := if p = 0 then some (12 * j + (i - 1)) else if p = 1 then some (12 * j + (i + 1)) else if p = 2 then some (12 * (j - 1) + i) else if p = 3 then some (12 * (j + 1) + i) else none
def p_port (κ : ZMem) (w h i j p : Nat) (x : CV) : CV := if pE κ w h i j p = 0 then x else p_pass (pN κ i j p) (zD κ 11 (pF i j p)) (t_ow κ 17 k8 (pO i j p)) (t_ow κ 18 k34 (pO i j p)) (zD κ 17 (12 * j + i)) (zD κ 18 (12 * j + i)) x
def pM (κ : ZMem) (w h i j p : Nat) : Int64 := if pE κ w h i j p = 0 then 0 else pN κ i j p
theorem chG {κ m : ZMem} (hC : zCh m κ) (c f : Nat) (n : Int64) (x : Option Nat) : cvw (q_pass m c f n x) c = p_pass n (zD κ 11 f) (t_ow κ 17 k8 x) (t_ow κ 18 k34 x) (zD κ 17 c) (zD κ 18 c) (cvw m c) := by
  rw [pass_cv, hC.d (r := 11) rfl, hC.d (r := 17) rfl, hC.d (r := 18) rfl, hC.ow (r := 17) rfl, hC.ow (r := 18) rfl]
theorem pF_0 (i j : Nat) : pF i j 0 = 12 * j + (i - 1) := by
  unfold pF
  rw [if_pos rfl]
theorem pN_0 (κ : ZMem) (i j : Nat) : pN κ i j 0 = zL κ 19 (12 * j + (i - 1)) := by
  unfold pN
  rw [if_pos rfl, pF_0]
theorem pO_0 (i j : Nat) : pO i j 0 = some (12 * j + (i - 1)) := by
  unfold pO
  rw [if_pos rfl]
theorem pF_1 (i j : Nat) : pF i j 1 = 12 * j + i := by
  unfold pF
  rw [if_neg (by decide), if_pos rfl]
theorem pN_1 (κ : ZMem) (i j : Nat) : pN κ i j 1 = -zL κ 19 (12 * j + i) := by
  unfold pN
  rw [if_neg (by decide), if_pos rfl, pF_1]
theorem pO_1 (i j : Nat) : pO i j 1 = some (12 * j + (i + 1)) := by
  unfold pO
  rw [if_neg (by decide), if_pos rfl]
theorem pF_2 (i j : Nat) : pF i j 2 = 144 + (12 * (j - 1) + i) := by
  unfold pF
  rw [if_neg (by decide), if_neg (by decide), if_pos rfl]
theorem pN_2 (κ : ZMem) (i j : Nat) : pN κ i j 2 = zL κ 19 (144 + (12 * (j - 1) + i)) := by
  unfold pN
  rw [if_neg (by decide), if_neg (by decide), if_pos rfl, pF_2]
theorem pO_2 (i j : Nat) : pO i j 2 = some (12 * (j - 1) + i) := by
  unfold pO
  rw [if_neg (by decide), if_neg (by decide), if_pos rfl]
theorem pF_3 (i j : Nat) : pF i j 3 = 144 + (12 * j + i) := by
  unfold pF
  rw [if_neg (by decide), if_neg (by decide), if_neg (by decide), if_pos rfl]
theorem pN_3 (κ : ZMem) (i j : Nat) : pN κ i j 3 = -zL κ 19 (144 + (12 * j + i)) := by
  unfold pN
  rw [if_neg (by decide), if_neg (by decide), if_neg (by decide), if_pos rfl, pF_3]
theorem pO_3 (i j : Nat) : pO i j 3 = some (12 * (j + 1) + i) := by
  unfold pO
  rw [if_neg (by decide), if_neg (by decide), if_neg (by decide), if_pos rfl]
theorem pE_0 (κ : ZMem) (w h i j : Nat) : pE κ w h i j 0 = if nI i ≤ 0 then 0 else t_hasFace κ w h (nI (i - 1)) (nI j) 0 := by
  unfold pE
  rw [if_pos rfl]
theorem pE_1 (κ : ZMem) (w h i j : Nat) : pE κ w h i j 1 = t_hasFace κ w h (nI i) (nI j) 0 := by
  unfold pE
  rw [if_neg (by decide), if_pos rfl]
theorem pE_2 (κ : ZMem) (w h i j : Nat) : pE κ w h i j 2 = if nI j ≤ 0 then 0 else t_hasFace κ w h (nI i) (nI (j - 1)) 1 := by
  unfold pE
  rw [if_neg (by decide), if_neg (by decide), if_pos rfl]
theorem pE_3 (κ : ZMem) (w h i j : Nat) : pE κ w h i j 3 = t_hasFace κ w h (nI i) (nI j) 1 := by
  unfold pE
  rw [if_neg (by decide), if_neg (by decide), if_neg (by decide), if_pos rfl]
/-- a stage: the cell's view, and the rest -/
def chS (κ m' m : ZMem) (w h i j p : Nat) : Prop := zCh m' m ∧ zKl m' m (12 * j + i) ∧ cvw m' (12 * j + i) = p_port κ w h i j p (cvw m (12 * j + i))
theorem ch_A {κ m : ZMem} (hC : zCh m κ) (w h i j : Nat) : chS κ (q_chA w h i j m) m w h i j 0 ∧ zL (q_chA w h i j m) 12 = zL m 12 := by
  unfold q_chA chS p_port
  rw [pE_0, hC.face, pN_0, pF_0, pO_0]
  by_cases h1 : nI i ≤ 0
  · rw [if_pos h1, if_pos h1, if_pos rfl]
    exact ⟨⟨zSame.rf _ _ _ _, zKl.rf _ _, rfl⟩, rfl⟩
  · rw [if_neg h1, if_neg h1]
    by_cases h2 : t_hasFace κ w h (nI (i - 1)) (nI j) 0 = 0
    · rw [if_pos h2, if_pos h2]
      exact ⟨⟨zSame.rf _ _ _ _, zKl.rf _ _, rfl⟩, rfl⟩
    · rw [if_neg h2, if_neg h2, hC.l (r := 19) rfl]
      exact ⟨⟨zCh_pass _ _ _ _ _, (zKl_pass _ _ _ _ _).1, chG hC _ _ _ _⟩, (zKl_pass _ _ _ _ _).2⟩
theorem ch_B {κ m : ZMem} (hC : zCh m κ) (w h i j : Nat) : chS κ (q_chB w h i j m) m w h i j 1 ∧ zL (q_chB w h i j m) 12 = zL m 12 := by
  unfold q_chB chS p_port
  rw [pE_1, hC.face, pN_1, pF_1, pO_1]
  by_cases h2 : t_hasFace κ w h (nI i) (nI j) 0 = 0
  · rw [if_pos h2, if_pos h2]
    exact ⟨⟨zSame.rf _ _ _ _, zKl.rf _ _, rfl⟩, rfl⟩
  · rw [if_neg h2, if_neg h2, hC.l (r := 19) rfl]
    exact ⟨⟨zCh_pass _ _ _ _ _, (zKl_pass _ _ _ _ _).1, chG hC _ _ _ _⟩, (zKl_pass _ _ _ _ _).2⟩
theorem ch_C {κ m : ZMem} (hC : zCh m κ) (w h i j : Nat) : chS κ (q_chC w h i j m) m w h i j 2 ∧ zL (q_chC w h i j m) 12 = zL m 12 := by
  unfold q_chC chS p_port
  rw [pE_2, hC.face, pN_2, pF_2, pO_2]
  by_cases h1 : nI j ≤ 0
  · rw [if_pos h1, if_pos h1, if_pos rfl]
    exact ⟨⟨zSame.rf _ _ _ _, zKl.rf _ _, rfl⟩, rfl⟩
  · rw [if_neg h1, if_neg h1]
    by_cases h2 : t_hasFace κ w h (nI i) (nI (j - 1)) 1 = 0
    · rw [if_pos h2, if_pos h2]
      exact ⟨⟨zSame.rf _ _ _ _, zKl.rf _ _, rfl⟩, rfl⟩
    · rw [if_neg h2, if_neg h2, hC.l (r := 19) rfl]
      exact ⟨⟨zCh_pass _ _ _ _ _, (zKl_pass _ _ _ _ _).1, chG hC _ _ _ _⟩, (zKl_pass _ _ _ _ _).2⟩
theorem ch_D {κ m : ZMem} (hC : zCh m κ) (w h i j : Nat) : chS κ (q_chD w h i j m) m w h i j 3 ∧ zL (q_chD w h i j m) 12 = zL m 12 := by
  unfold q_chD chS p_port
  rw [pE_3, hC.face, pN_3, pF_3, pO_3]
  by_cases h2 : t_hasFace κ w h (nI i) (nI j) 1 = 0
  · rw [if_pos h2, if_pos h2]
    exact ⟨⟨zSame.rf _ _ _ _, zKl.rf _ _, rfl⟩, rfl⟩
  · rw [if_neg h2, if_neg h2, hC.l (r := 19) rfl]
    exact ⟨⟨zCh_pass _ _ _ _ _, (zKl_pass _ _ _ _ _).1, chG hC _ _ _ _⟩, (zKl_pass _ _ _ _ _).2⟩
theorem pE_s (κ : ZMem) (w h i j k : Nat) : pE κ w h i j (k + 4) = t_hasSide κ w h (nI i) (nI j) k := by
  unfold pE
  rw [if_neg (by omega), if_neg (by omega), if_neg (by omega), if_neg (by omega), Nat.add_sub_cancel]
theorem pF_s (i j k : Nat) : pF i j (k + 4) = sfN i j k := by
  unfold pF
  rw [if_neg (by omega), if_neg (by omega), if_neg (by omega), if_neg (by omega), Nat.add_sub_cancel]
theorem pN_s (κ : ZMem) (i j k : Nat) : pN κ i j (k + 4) = t_comes κ (sfN i j k) k := by
  unfold pN
  rw [if_neg (by omega), if_neg (by omega), if_neg (by omega), if_neg (by omega), Nat.add_sub_cancel, pF_s]
theorem pO_s (i j k : Nat) : pO i j (k + 4) = none := by
  unfold pO
  rw [if_neg (by omega), if_neg (by omega), if_neg (by omega), if_neg (by omega)]
theorem ch_S {κ m : ZMem} (hC : zCh m κ) (w h i j k : Nat) : chS κ (q_chS w h i j k m) m w h i j (k + 4) ∧ zL (q_chS w h i j k m) 12 k = zL m 12 k + pM κ w h i j (k + 4) ∧ ∀ k', k' ≠ k → zL (q_chS w h i j k m) 12 k' = zL m 12 k' := by
  unfold q_chS chS p_port pM
  rw [pE_s, pF_s, pN_s, pO_s, hC.side]
  by_cases h2 : t_hasSide κ w h (nI i) (nI j) k = 0
  · rw [if_pos h2, if_pos h2, if_pos h2]
    exact ⟨⟨zSame.rf _ _ _ _, zKl.rf _ _, rfl⟩, by rw [Int64.add_zero], fun _ _ => rfl⟩
  · rw [if_neg h2, if_neg h2, if_neg h2, hC.comes]
    have hov : ∀ (m : ZMem) (n : Int64), zCh (q_ov m k n) m ∧ zKl (q_ov m k n) m (12 * j + i) ∧ cvw (q_ov m k n) (12 * j + i) = cvw m (12 * j + i) ∧ zL (q_ov m k n) 12 k = zL m 12 k + n ∧ ∀ k', k' ≠ k → zL (q_ov m k n) 12 k' = zL m 12 k' := fun m n => ⟨zSame_sL m k _ rfl, zKl_12 _ _ _ _, by
      unfold cvw q_ov
      rw [zL_sL, if_neg (by omega)]
      rfl, by
      unfold q_ov
      rw [zL_sL, if_pos ⟨rfl, rfl⟩], fun k' hk => by
      unfold q_ov
      rw [zL_sL, if_neg (by omega)]⟩
    obtain ⟨a1, a2, a3, a4, a5⟩ := hov (q_pass m (12 * j + i) (sfN i j k) (t_comes κ (sfN i j k) k) none) (t_comes κ (sfN i j k) k)
    refine ⟨⟨a1.tr (zCh_pass _ _ _ _ _), a2.tr (zKl_pass _ _ _ _ _).1, a3.trans (chG hC _ _ _ _)⟩, ?_, fun k' hk => ?_⟩
    · rw [a4, (zKl_pass _ _ _ _ _).2]
    · rw [a5 k' hk, (zKl_pass _ _ _ _ _).2]
