theorem zI_sI (μ : ZMem) (r k : Nat) (v : Int32) (a b : Nat) : zI (zsI μ r k v) a b = if a = r ∧ b = k then v else zI μ a b := rfl
theorem zI_sL (μ : ZMem) (r k : Nat) (v : Int64) (a b : Nat) : zI (zsL μ r k v) a b = zI μ a b := rfl
theorem zI_sD (μ : ZMem) (r k : Nat) (v : UInt64) (a b : Nat) : zI (zsD μ r k v) a b = zI μ a b := rfl
theorem zI_sR (μ : ZMem) (r k : Nat) (v : (Option Nat)) (a b : Nat) : zI (zsR μ r k v) a b = zI μ a b := rfl
theorem zL_sI (μ : ZMem) (r k : Nat) (v : Int32) (a b : Nat) : zL (zsI μ r k v) a b = zL μ a b := rfl
theorem zL_sL (μ : ZMem) (r k : Nat) (v : Int64) (a b : Nat) : zL (zsL μ r k v) a b = if a = r ∧ b = k then v else zL μ a b := rfl
theorem zL_sD (μ : ZMem) (r k : Nat) (v : UInt64) (a b : Nat) : zL (zsD μ r k v) a b = zL μ a b := rfl
theorem zL_sR (μ : ZMem) (r k : Nat) (v : (Option Nat)) (a b : Nat) : zL (zsR μ r k v) a b = zL μ a b := rfl
theorem zD_sI (μ : ZMem) (r k : Nat) (v : Int32) (a b : Nat) : zD (zsI μ r k v) a b = zD μ a b := rfl
theorem zD_sL (μ : ZMem) (r k : Nat) (v : Int64) (a b : Nat) : zD (zsL μ r k v) a b = zD μ a b := rfl
theorem zD_sD (μ : ZMem) (r k : Nat) (v : UInt64) (a b : Nat) : zD (zsD μ r k v) a b = if a = r ∧ b = k then v else zD μ a b := rfl
theorem zD_sR (μ : ZMem) (r k : Nat) (v : (Option Nat)) (a b : Nat) : zD (zsR μ r k v) a b = zD μ a b := rfl
theorem zR_sI (μ : ZMem) (r k : Nat) (v : Int32) (a b : Nat) : zR (zsI μ r k v) a b = zR μ a b := rfl
theorem zR_sL (μ : ZMem) (r k : Nat) (v : Int64) (a b : Nat) : zR (zsL μ r k v) a b = zR μ a b := rfl
theorem zR_sD (μ : ZMem) (r k : Nat) (v : UInt64) (a b : Nat) : zR (zsD μ r k v) a b = zR μ a b := rfl
theorem zR_sR (μ : ZMem) (r k : Nat) (v : (Option Nat)) (a b : Nat) : zR (zsR μ r k v) a b = if a = r ∧ b = k then v else zR μ a b := rfl
theorem zWf_R {g : ZG} {μ μ' : ZMem} (h : zWf g μ) (e : ∀ r k, zR μ' r k = zR μ r k) : zWf g μ' := fun kd r k r' hO hr => h kd r k r' hO (by rw [← e]; exact hr)
/-- f 0, f 1, .. f (n - 1), one behind the other -/
def zit {σ : Type} (f : Nat → σ → σ) : Nat → σ → σ
  | 0, s => s
  | n + 1, s => f n (zit f n s)
theorem zloop {P : Nat → Prop} {N : Nat} (hx : P N) (hs : ∀ k, k < N → P (k + 1) → P k) : ∀ k, k ≤ N → P k := by
  intro k hk
  obtain ⟨d, hd⟩ : ∃ d, d = N - k := ⟨_, rfl⟩
  induction d generalizing k with
  | zero =>
    have e : k = N := by omega
    subst e
    exact hx
  | succ d ih => exact hs k (by omega) (ih (k + 1) (by omega) (by omega))
theorem zWA_mem {g : ZG} {K : ZK} {pc : Nat} {ls : ZLS} {st : List ZV} {μ μ2 : ZMem} (h : zWA g K pc ls st μ) (e : μ = μ2) : zWA g K pc ls st μ2 := e ▸ h
theorem zit_keep {σ τ : Type} (π : σ → τ) {f : Nat → σ → σ} (h : ∀ k s, π (f k s) = π s) : ∀ n s, π (zit f n s) = π s
  | 0, _ => rfl
  | n + 1, s => (h n _).trans (zit_keep π h n s)
