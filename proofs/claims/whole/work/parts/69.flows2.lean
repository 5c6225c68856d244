def zDim (w h : Nat) : Prop := 1 ≤ w ∧ w ≤ 12 ∧ 1 ≤ h ∧ h ≤ 12
theorem dj1 {i j i' j' k k' : Nat} (hi : i < 12) (hi' : i' < 12) (hj : j < 12) (hj' : j' < 12) (hk : k < 2) (hk' : k' < 2) (ne : ¬ (i = i' ∧ j = j' ∧ k = k')) : 144 * k + (12 * j + i) ≠ 144 * k' + (12 * j' + i') := by omega
theorem dj2 {i j i' j' k k' : Nat} (hi : i < 12) (hj : j < 12) (hk : k < 2) : 144 * k + (12 * j + i) ≠ sfN i' j' k' := by
  unfold sfN
  split <;> omega
theorem dj3 {w h i j i' j' k k' : Nat} (hi : i < 12) (hi' : i' < 12) (hj : j < 12) (hj' : j' < 12) (hk : k < 4) (hk' : k' < 4) (a : atP w h i j k) (a' : atP w h i' j' k') (ne : ¬ (i = i' ∧ j = j' ∧ k = k')) : sfN i j k ≠ sfN i' j' k' := by
  unfold sfN
  unfold atP at a a'
  split <;> split <;> omega
theorem dj4 {i j k k' : Nat} (hi : i < 12) (hj : j < 12) (hk : k < 4) (hk' : k' < 4) (ne : k ≠ k') : sfN i j k ≠ sfN i j k' := by
  unfold sfN
  split <;> split <;> omega
def cInit (ν m : ZMem) (w h i j : Nat) : Prop := (∀ k, k < 2 → fInit ν m (144 * k + (12 * j + i))) ∧ ∀ k, k < 4 → atP w h i j k → fInit ν m (sfN i j k)
def cDone (ν m : ZMem) (w h hr : Nat) (v : UInt64) (i j : Nat) : Prop := (∀ k, k < 2 → dA ν m w h hr v i j k) ∧ ∀ k, k < 4 → atP w h i j k → dS ν m w h hr v i j k
theorem fI_ne {w h : Nat} (hd : zDim w h) {i j hr : Nat} (hi : i < w) (hj : j < h) (v : UInt64) (m : ZMem) {g : Nat} (hA : ∀ k, k < 2 → g ≠ 144 * k + (12 * j + i)) (hS : ∀ k, k < 4 → atP w h i j k → g ≠ sfN i j k) : fKeep (q_fI w h j hr v i m) m g := by
  obtain ⟨d1, d2, d3, d4⟩ := hd
  have h1 : fKeep (zit (q_fA w h i j hr v) 2 m) m g := zit_in (J := fun s => fKeep s m g) 2 (fun k s hk q => (fA_ne w h i j hr v k s (hA k hk)).tr q) (fKeep.rf m g)
  exact zit_in (J := fun s => fKeep s m g) 4 (fun k s hk q => (fS_ne w h i j hr v k s (fun e => hS k hk ((atP_iff d1 d2 d3 d4 hi hj hk).mp e))).tr q) h1
theorem fI_pt {ν m : ZMem} {w h : Nat} (hd : zDim w h) {i j hr : Nat} {v : UInt64} (hi : i < w) (hj : j < h) (hB : zB1 m ν) (hc : cInit ν m w h i j) : cDone ν (q_fI w h j hr v i m) w h hr v i j := by
  obtain ⟨d1, d2, d3, d4⟩ := hd
  have a1 := zpt (f := q_fA w h i j hr v) (J := fun s => zB1 s ν) (P := fun k s => dA ν s w h hr v i j k) (Q := fun k s => fInit ν s (144 * k + (12 * j + i))) 2 (fun k s _ q => (zB1_fA w h i j hr v k s).tr q) (fun k s _ q z => fA_eq q z)
    (fun k l s _ _ ne _ q => fKeep.done (fA_ne w h i j hr v k s (by omega)) q) (fun k l s _ _ ne _ q => (fA_ne w h i j hr v k s (by omega)).init q) hB hc.1
  have a2 : ∀ k, k < 4 → atP w h i j k → fInit ν (zit (q_fA w h i j hr v) 2 m) (sfN i j k) := fun k hk ha => zit_in (J := fun s => fInit ν s (sfN i j k)) 2 (fun l s hl q => (fA_ne w h i j hr v l s (fun e => dj2 (i' := i) (j' := j) (k' := k) (show i < 12 by omega) (show j < 12 by omega) hl e.symm)).init q) (hc.2 k hk ha)
  have b1 := zpt (f := q_fS w h i j hr v) (J := fun s => zB1 s ν) (P := fun k s => atP w h i j k → dS ν s w h hr v i j k) (Q := fun k s => atP w h i j k → fInit ν s (sfN i j k)) 4 (fun k s _ q => (zB1_fS w h i j hr v k s).tr q) (fun k s _ q z ha => fS_eq q (z ha))
    (fun k l s hk hl ne _ q ha => fKeep.done (fS_ne w h i j hr v k s (fun _ => dj4 (by omega) (by omega) hl hk (fun e => ne e.symm))) (q ha)) (fun k l s hk hl ne _ q ha => (fS_ne w h i j hr v k s (fun _ => dj4 (by omega) (by omega) hl hk (fun e => ne e.symm))).init (q ha)) a1.1 a2
  refine ⟨fun k hk => ?_, b1.2⟩
  exact zit_in (J := fun s => dA ν s w h hr v i j k) 4 (fun l s _ q => fKeep.done (fS_ne w h i j hr v l s (fun _ => dj2 (by omega) (by omega) hk)) q) (a1.2 k hk)
theorem cI_keep {ν m : ZMem} {w h : Nat} (hd : zDim w h) {i j i' j' hr : Nat} {v : UInt64} (hi : i < w) (hj : j < h) (hi' : i' < w) (hj' : j' < h) (ne : ¬ (i = i' ∧ j = j')) : (cInit ν m w h i' j' → cInit ν (q_fI w h j hr v i m) w h i' j') ∧ (cDone ν m w h hr v i' j' → cDone ν (q_fI w h j hr v i m) w h hr v i' j') := by
  obtain ⟨d1, d2, d3, d4⟩ := hd
  have kA : ∀ k, k < 2 → fKeep (q_fI w h j hr v i m) m (144 * k + (12 * j' + i')) := fun k hk => fI_ne ⟨d1, d2, d3, d4⟩ hi hj v m (fun l hl => dj1 (by omega) (by omega) (by omega) (by omega) hk hl (fun e => ne ⟨e.1.symm, e.2.1.symm⟩)) (fun l hl _ => dj2 (by omega) (by omega) hk)
  have kS : ∀ k, k < 4 → atP w h i' j' k → fKeep (q_fI w h j hr v i m) m (sfN i' j' k) := fun k hk ha => fI_ne ⟨d1, d2, d3, d4⟩ hi hj v m (fun l hl e => dj2 (i' := i') (j' := j') (k' := k) (show i < 12 by omega) (show j < 12 by omega) hl e.symm) (fun l hl hb => dj3 (w := w) (h := h) (by omega) (by omega) (by omega) (by omega) hk hl ha hb (fun e => ne ⟨e.1.symm, e.2.1.symm⟩))
  exact ⟨fun c => ⟨fun k hk => (kA k hk).init (c.1 k hk), fun k hk ha => (kS k hk ha).init (c.2 k hk ha)⟩, fun c => ⟨fun k hk => (kA k hk).done (c.1 k hk), fun k hk ha => (kS k hk ha).done (c.2 k hk ha)⟩⟩
theorem fJ_pt {ν m : ZMem} {w h : Nat} (hd : zDim w h) {j hr : Nat} {v : UInt64} (hj : j < h) (hB : zB1 m ν) (hc : ∀ i, i < w → cInit ν m w h i j) : ∀ i, i < w → cDone ν (q_fJ w h hr v j m) w h hr v i j :=
  (zpt (f := q_fI w h j hr v) (J := fun s => zB1 s ν) (P := fun i s => cDone ν s w h hr v i j) (Q := fun i s => cInit ν s w h i j) w (fun i s _ q => (zB1_fI w h j hr v i s).tr q) (fun i s hi q z => fI_pt hd hi hj q z)
    (fun i l s hi hl ne _ q => (cI_keep hd hi hj hl hj (fun e => ne e.1)).2 q) (fun i l s hi hl ne _ q => (cI_keep hd hi hj hl hj (fun e => ne e.1)).1 q) hB hc).2
theorem cJ_keep {ν m : ZMem} {w h : Nat} (hd : zDim w h) {j i' j' hr : Nat} {v : UInt64} (hj : j < h) (hi' : i' < w) (hj' : j' < h) (ne : j ≠ j') : (cInit ν m w h i' j' → cInit ν (q_fJ w h hr v j m) w h i' j') ∧ (cDone ν m w h hr v i' j' → cDone ν (q_fJ w h hr v j m) w h hr v i' j') :=
  ⟨fun c => zit_in (J := fun s => cInit ν s w h i' j') w (fun i s hi q => (cI_keep hd hi hj hi' hj' (fun e => ne e.2)).1 q) c, fun c => zit_in (J := fun s => cDone ν s w h hr v i' j') w (fun i s hi q => (cI_keep hd hi hj hi' hj' (fun e => ne e.2)).2 q) c⟩
/-- the memory when every flow is known -/
def mFl (w h hr : Nat) (v : UInt64) (ν : ZMem) : ZMem := zit (q_fJ w h hr v) h (zit q_fl0 336 ν)
theorem mFl_pt {ν : ZMem} {w h : Nat} (hd : zDim w h) (hr : Nat) (v : UInt64) : zB1 (mFl w h hr v ν) ν ∧ ∀ j, j < h → ∀ i, i < w → cDone ν (mFl w h hr v ν) w h hr v i j := by
  have h0 : zB1 (zit q_fl0 336 ν) ν := zSame_it zB1_fl0 336 ν
  have hz : ∀ f, f < 336 → zL (zit q_fl0 336 ν) 19 f = 0 := (zpt (f := q_fl0) (J := fun _ => True) (P := fun k s => zL s 19 k = 0) (Q := fun _ _ => True) 336 (fun _ _ _ _ => trivial) (fun k s _ _ _ => by
    show zL (zsL s 19 k 0) 19 k = 0
    rw [zL_sL, if_pos ⟨rfl, rfl⟩]) (fun k l s _ _ ne _ q => by
    show zL (zsL s 19 k 0) 19 l = 0
    rw [zL_sL, if_neg (by omega)]
    exact q) (fun _ _ _ _ _ _ _ _ => trivial) (s0 := ν) trivial (fun _ _ => trivial)).2
  have hs : ∀ f, zD (zit q_fl0 336 ν) 11 f = zD ν 11 f := fun f => congrFun (zit_keep (f := q_fl0) (fun m => zD m 11) (fun _ _ => rfl) 336 ν) f
  obtain ⟨d1, d2, d3, d4⟩ := hd
  have hi0 : ∀ j, j < h → ∀ i, i < w → cInit ν (zit q_fl0 336 ν) w h i j := fun j hj i hi => ⟨fun k hk => ⟨hs _, hz _ (by omega)⟩, fun k hk _ => ⟨hs _, hz _ (sfN_lt (by omega) (by omega) hk)⟩⟩
  exact zpt (f := q_fJ w h hr v) (J := fun s => zB1 s ν) (P := fun j s => ∀ i, i < w → cDone ν s w h hr v i j) (Q := fun j s => ∀ i, i < w → cInit ν s w h i j) h (fun j s _ q => (zB1_fJ w h hr v j s).tr q) (fun j s hj q z => fJ_pt ⟨d1, d2, d3, d4⟩ hj q z)
    (fun j l s hj hl ne _ q i hi => (cJ_keep ⟨d1, d2, d3, d4⟩ hj hi hl ne).2 (q i hi)) (fun j l s hj hl ne _ q i hi => (cJ_keep ⟨d1, d2, d3, d4⟩ hj hi hl ne).1 (q i hi)) h0 hi0
