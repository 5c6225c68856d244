/-! references stay in kind, call by call -/
theorem wf_border {g : ZG} {μ : ZMem} {x y : Int32} {a b : UInt64} (H : zWf g μ) : zWf g (u_border μ x y a b) := zWf_E (by
  unfold u_border
  split
  · rfl
  · split <;> rfl) H
theorem wf_wind {g : ZG} {μ : ZMem} {x : Int32} {a b : UInt64} (H : zWf g μ) : zWf g (u_wind μ x a b) := zWf_E (by
  unfold u_wind
  split <;> rfl) H
theorem wf_river {g : ZG} {μ : ZMem} {w h : Nat} {x y : Int32} {v : UInt64} (H : zWf g μ) : zWf g (u_river μ w h x y v) := zWf_E (by
  unfold u_river
  split
  · rfl
  · split <;> rfl) H
theorem wf_gauge {g : ZG} {μ : ZMem} {w h T : Nat} {x y : Int32} {a b : UInt64} (H : zWf g μ) : zWf g (u_gauge μ w h T x y a b) := zWf_E (by
  unfold u_gauge
  split
  · rfl
  · split
    · rfl
    · split
      · rfl
      · split <;> rfl) H
theorem wf_run {g : ZG} {μ : ZMem} {N F : Nat} {x : Int32} {v : UInt64} (H : zWf g μ) : zWf g (u_run μ N F x v) := zWf_E (by
  unfold u_run
  split
  · rfl
  · exact (zRI_stepH _ _ _ _ _).1) H
theorem wf_tide {g : ZG} {μ : ZMem} {Q : Nat} {v : UInt64} (H : zWf g μ) : zWf g (u_tide μ Q v) := zWf_E (by
  unfold u_tide
  split
  · rfl
  · exact zR_saws _ _ _) H
theorem wf_nest {g : ZG} {μ : ZMem} {w h T : Nat} {ly x y z : Int32} (hG : zGC g (w * h) (fcA w h)) (hL : zLC w h ly μ) (H : zWf g μ) : zWf g (u_nest μ w h T x y z) := by
  unfold u_nest
  cases hc : s_waterAt μ w h x y with
  | none => exact H
  | some c =>
    dsimp only
    cases hb : zR μ c 7 with
    | some n => exact H
    | none =>
      dsimp only
      split
      · exact H
      · split
        · split
          · rename_i hT
            have hO : zO g 0 c := by
              unfold s_waterAt at hc
              cases hcc : s_cellAt w h x y with
              | none => rw [hcc] at hc; cases hc
              | some c' =>
                rw [hcc] at hc
                dsimp only at hc
                split at hc
                · cases hc
                · cases hc
                  obtain ⟨i, j, hi, hj, -, -, rfl⟩ := s_cellAt_in (hL.2.2.2.2.2.2.2.2.2.2.2.2.1) (hL.2.2.2.2.2.2.2.2.2.2.2.2.2.2) hcc
                  exact hG.cell (by
                    have h1 := Nat.mul_le_mul_right w (show j + 1 ≤ h by omega)
                    rw [Nat.succ_mul, Nat.mul_comm h w] at h1
                    omega)
            refine zWf_E (μ := u_settleIn μ (60 + T) c (70 + T) z.toNatClampNeg) rfl ?_
            unfold u_settleIn
            exact zWf_E (zR_u_grow _ _ _ _) (zWf_set H (hG.nest hT) hO)
          · exact H
        · exact H
theorem wf_depth {g : ZG} {μ : ZMem} {w h : Nat} {x y : Int32} {v : UInt64} (H : zWf g μ) : zWf g (u_depth μ w h x y v) := by
  unfold u_depth
  split
  · exact H
  · split
    · exact H
    · rename_i c _ _
      have h1 : zWf g (u_dep2 μ c v) := zWf_E (μ := u_dep1 μ c v) rfl (zWf_become (μ := zsL μ 0 15 (zL μ 0 15 - zL μ c 2)) (zWf_E (μ := μ) rfl H))
      exact zWf_E (μ := zit (u_rest1 c) (fcA w h) (u_dep2 μ c v)) rfl (zWf_E (zRI_rest1 _ _ _).1 h1)
theorem wf_fit {g : ZG} {μ : ZMem} {T : Nat} {x : Int32} (H : zWf g μ) : zWf g (u_fit μ T x) := zWf_E (by
  unfold u_fit
  split
  · rfl
  · split
    · unfold u_solve
      show zR (u_up _ _) = _
      unfold u_up
      rw [zR_up1, zR_clear, zR_addUp]
    · rfl) H
theorem zR_keepAll (μ : ZMem) (N F j : Nat) : zR (u_keepAll μ N F j) = zR μ := (zRI_keepS _ _ _).1.trans ((zRI_keepN _ _ _).1.trans ((zRI_keepF _ _ _).1.trans (zRI_keepC _ _ _ _ _ _).1))
theorem zR_giveAll (μ : ZMem) (N F j : Nat) : zR (u_giveAll μ N F j) = zR μ := (zRI_giveS _ _ _).1.trans ((zRI_giveN _ _ _).1.trans ((zRI_giveF _ _ _).1.trans (zRI_giveC _ _ _ _ _ _).1))
theorem wf_save {g : ZG} {μ : ZMem} {N F j : Nat} (H : zWf g μ) : zWf g (u_save μ N F j) := zWf_E (by
  unfold u_save
  split
  · have h := zR_keepAll μ N F j
    unfold u_save1
    generalize u_keepAll μ N F j = M at h ⊢
    exact h
  · rfl) H
theorem wf_back {g : ZG} {μ : ZMem} {N F : Nat} {x : Int32} (H : zWf g μ) : zWf g (u_back μ N F x) := zWf_E (by
  unfold u_back
  split
  · rfl
  · split
    · split
      · have h := zR_giveAll μ N F x.toNatClampNeg
        unfold u_back1
        generalize u_giveAll μ N F x.toNatClampNeg = M at h ⊢
        exact h
      · rfl
    · rfl) H
