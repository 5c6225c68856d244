
/-- the same object, and the same time -/
def zKt (μ' μ : ZMem) : Prop := zKp μ' μ ∧ zD μ' 0 13 = zD μ 0 13
theorem zKt.rfl' (μ : ZMem) : zKt μ μ := ⟨zKp.rfl' μ, rfl⟩
theorem zKt.trans {a b c : ZMem} (h1 : zKt a b) (h2 : zKt b c) : zKt a c := ⟨h1.1.trans h2.1, h1.2.trans h2.2⟩
theorem zKt_it {f : Nat → ZMem → ZMem} (h : ∀ k s, zKt (f k s) s) : ∀ n s, zKt (zit f n s) s
  | 0, s => zKt.rfl' s
  | n + 1, s => (h n _).trans (zKt_it h n s)
theorem zKt_flow (μ : ZMem) (f : Nat) (a : Int32) (b e : Option Nat) (out h : UInt64) (hr : Nat) : zKt (q_flow μ f a b e out h hr) μ := by
  refine ⟨zKp_flow _ _ _ _ _ _ _ _, ?_⟩
  unfold q_flow q_flow1
  rw [zD_sL, zD_sD, if_neg (by omega)]
def q_fl0 (k : Nat) (m : ZMem) : ZMem := zsL m 19 k 0
def q_fA (w h i j hr : Nat) (v : UInt64) (k : Nat) (m : ZMem) : ZMem := if t_hasFace m w h (nI i) (nI j) (nI k) = 0 then m else q_flow m (144 * k + (12 * j + i)) (nI k) (some (12 * j + i)) (some (if nI k = 0 then 12 * j + (i + 1) else 12 * (j + 1) + i)) 0 v hr
def t_bhd (k : Nat) : Bool := if nI k = 0 then true else if nI k = 2 then true else false
def q_fS (w h i j hr : Nat) (v : UInt64) (k : Nat) (m : ZMem) : ZMem := if t_hasSide m w h (nI i) (nI j) k = 0 then m else q_flow m (sfN i j k) (nI k / 2) (if t_bhd k then none else some (12 * j + i)) (if t_bhd k then some (12 * j + i) else none) (t_outside m k) v hr
def q_fI (w h j hr : Nat) (v : UInt64) (i : Nat) (m : ZMem) : ZMem := zit (q_fS w h i j hr v) 4 (zit (q_fA w h i j hr v) 2 m)
def q_fJ (w h hr : Nat) (v : UInt64) (j : Nat) (m : ZMem) : ZMem := zit (q_fI w h j hr v) w m
def q_cp (k : Nat) (m : ZMem) : ZMem := (fun m : ZMem => (fun m : ZMem => zsD m 18 k (zD m 9 k)) (zsD m 17 k (zD m 8 k))) (zsL m 16 k (zL m 7 k))
def q_gI (w h j : Nat) (v : UInt64) (i : Nat) (m : ZMem) : ZMem := if t_isWater m w h (nI i) (nI j) = 0 then m else q_change w h i j v m
def q_gJ (w h : Nat) (v : UInt64) (j : Nat) (m : ZMem) : ZMem := zit (q_gI w h j v) w m
def q_tm (v : UInt64) (m : ZMem) : ZMem := zsD m 0 13 (zadd (zD m 0 13) v)
def q_step (w h hr : Nat) (v : UInt64) (μ : ZMem) : ZMem := q_tm v (zit (q_gJ w h v) h (zit q_cp 144 (zit (q_fJ w h hr v) h (zit q_fl0 336 μ))))
theorem q_fA_no {w h i j hr : Nat} {v : UInt64} {k : Nat} {m : ZMem} (e : t_hasFace m w h (nI i) (nI j) (nI k) = 0) : q_fA w h i j hr v k m = m := if_pos e
theorem q_fA_0 {w h i j hr : Nat} {v : UInt64} {k : Nat} {m : ZMem} (e : ¬ t_hasFace m w h (nI i) (nI j) (nI k) = 0) (e2 : nI k = 0) : q_fA w h i j hr v k m = q_flow m (144 * k + (12 * j + i)) (nI k) (some (12 * j + i)) (some (12 * j + (i + 1))) 0 v hr := by
  unfold q_fA
  rw [if_neg e, if_pos e2]
theorem q_fA_1 {w h i j hr : Nat} {v : UInt64} {k : Nat} {m : ZMem} (e : ¬ t_hasFace m w h (nI i) (nI j) (nI k) = 0) (e2 : ¬ nI k = 0) : q_fA w h i j hr v k m = q_flow m (144 * k + (12 * j + i)) (nI k) (some (12 * j + i)) (some (12 * (j + 1) + i)) 0 v hr := by
  unfold q_fA
  rw [if_neg e, if_neg e2]
theorem q_fS_no {w h i j hr : Nat} {v : UInt64} {k : Nat} {m : ZMem} (e : t_hasSide m w h (nI i) (nI j) k = 0) : q_fS w h i j hr v k m = m := if_pos e
theorem q_fS_t {w h i j hr : Nat} {v : UInt64} {k : Nat} {m : ZMem} (e : ¬ t_hasSide m w h (nI i) (nI j) k = 0) (e2 : t_bhd k = true) : q_fS w h i j hr v k m = q_flow m (sfN i j k) (nI k / 2) none (some (12 * j + i)) (t_outside m k) v hr := by
  unfold q_fS
  rw [if_neg e, if_pos e2, if_pos e2]
theorem q_fS_f {w h i j hr : Nat} {v : UInt64} {k : Nat} {m : ZMem} (e : ¬ t_hasSide m w h (nI i) (nI j) k = 0) (e2 : ¬ t_bhd k = true) : q_fS w h i j hr v k m = q_flow m (sfN i j k) (nI k / 2) (some (12 * j + i)) none (t_outside m k) v hr := by
  unfold q_fS
  rw [if_neg e, if_neg e2, if_neg e2]
theorem t_bhd_0 {k : Nat} (e : nI k = 0) : t_bhd k = true := if_pos e
theorem t_bhd_2 {k : Nat} (e : ¬ nI k = 0) (e2 : nI k = 2) : t_bhd k = true := by
  unfold t_bhd
  rw [if_neg e, if_pos e2]
theorem t_bhd_n {k : Nat} (e : ¬ nI k = 0) (e2 : ¬ nI k = 2) : ¬ t_bhd k = true := by
  unfold t_bhd
  rw [if_neg e, if_neg e2]
  decide
theorem zKt_fA (w h i j hr : Nat) (v : UInt64) (k : Nat) (m : ZMem) : zKt (q_fA w h i j hr v k m) m := by
  unfold q_fA
  split
  · exact zKt.rfl' m
  · exact zKt_flow _ _ _ _ _ _ _ _
theorem zKt_fS (w h i j hr : Nat) (v : UInt64) (k : Nat) (m : ZMem) : zKt (q_fS w h i j hr v k m) m := by
  unfold q_fS
  split
  · exact zKt.rfl' m
  · exact zKt_flow _ _ _ _ _ _ _ _
theorem zKt_fI (w h j hr : Nat) (v : UInt64) (i : Nat) (m : ZMem) : zKt (q_fI w h j hr v i m) m := (zKt_it (zKt_fS w h i j hr v) 4 _).trans (zKt_it (zKt_fA w h i j hr v) 2 m)
theorem zKt_fJ (w h hr : Nat) (v : UInt64) (j : Nat) (m : ZMem) : zKt (q_fJ w h hr v j m) m := zKt_it (zKt_fI w h j hr v) w m
theorem zKt_fl0 (k : Nat) (m : ZMem) : zKt (q_fl0 k m) m := ⟨⟨rfl, rfl⟩, rfl⟩
theorem zKp_cp (k : Nat) (m : ZMem) : zKp (q_cp k m) m := ⟨rfl, rfl⟩
theorem zKp_gI (w h j : Nat) (v : UInt64) (i : Nat) (m : ZMem) : zKp (q_gI w h j v i m) m := by
  unfold q_gI
  split
  · exact zKp.rfl' m
  · exact zKp_change _ _ _ _ _ _
theorem zKp_gJ (w h : Nat) (v : UInt64) (j : Nat) (m : ZMem) : zKp (q_gJ w h v j m) m := zKp_it (zKp_gI w h j v) w m
theorem zKp_tm (v : UInt64) (m : ZMem) : zKp (q_tm v m) m := ⟨rfl, rfl⟩
theorem zKp_step (w h hr : Nat) (v : UInt64) (μ : ZMem) : zKp (q_step w h hr v μ) μ := (zKp_tm v _).trans ((zKp_it (zKp_gJ w h v) _ _).trans ((zKp_it zKp_cp _ _).trans ((zKt_it (zKt_fJ w h hr v) _ _).1.trans (zKt_it zKt_fl0 _ _).1)))
set_option maxHeartbeats 4000000 in
set_option maxRecDepth 100000 in
theorem L_X7_st0 {g : ZG} {μ : ZMem} {w h : Nat} {ly : Int32} (hG : zGM g) (hL : zLM w h ly μ) {v : UInt64} {res : Option ZV} {μ' : ZMem} (hx : zWA g (RX7, cX7_step, 7, none, zrm 4, res, μ') 22 (zls [(0, zr (some 0)), (1, zd v), (3, zi (nI (336)))]) [] (zit q_fl0 (336) μ)) : zWA g (RX7, cX7_step, 7, none, zrm 4, res, μ') 2 (zls [(0, zr (some 0)), (1, zd v), (3, zi (nI (0)))]) [] μ := by
  have hO0 : zO g 7 0 := hG.o 0 (by decide)
  have hO7 : zO g 10 7 := hG.o 7 (by decide)
  have hl7 : zln g 7 = 144 := hG.l 7 (by decide)
  have hO8 : zO g 8 8 := hG.o 8 (by decide)
  have hl8 : zln g 8 = 144 := hG.l 8 (by decide)
  have hO9 : zO g 8 9 := hG.o 9 (by decide)
  have hl9 : zln g 9 = 144 := hG.l 9 (by decide)
  have hO16 : zO g 10 16 := hG.o 16 (by decide)
  have hl16 : zln g 16 = 144 := hG.l 16 (by decide)
  have hO17 : zO g 8 17 := hG.o 17 (by decide)
  have hl17 : zln g 17 = 144 := hG.l 17 (by decide)
  have hO18 : zO g 8 18 := hG.o 18 (by decide)
  have hl18 : zln g 18 = 144 := hG.l 18 (by decide)
  have hO19 : zO g 10 19 := hG.o 19 (by decide)
  have hl19 : zln g 19 = 336 := hG.l 19 (by decide)
  have hw0 : zI μ 0 0 = nI w := hL.2.1
  have hh0 : zI μ 0 1 = nI h := hL.2.2.1
  have hy0 : zI μ 0 2 = ly := hL.2.2.2.1
  obtain ⟨hb1, hb2, hb3, hb4⟩ := hL.2.2.2.2
  have hKk : ∀ k, zKt (zit q_fl0 k μ) μ := fun k => zKt_it (zKt_fl0) k μ
  have hLk : ∀ k, zLM w h ly (zit q_fl0 k μ) := fun k => zLM_kp (hKk k).1 hL
  have hwk : ∀ k, zI (zit q_fl0 k μ) 0 0 = nI w := fun k => (hLk k).2.1
  have hhk : ∀ k, zI (zit q_fl0 k μ) 0 1 = nI h := fun k => (hLk k).2.2.1
  refine zloop (P := fun k => zWA g (RX7, cX7_step, 7, none, zrm 4, res, μ') 2 (zls [(0, zr (some 0)), (1, zd v), (3, zi (nI (k)))]) [] (zit q_fl0 (k) μ)) (N := 336) ?_ ?_ 0 (Nat.zero_le _)
  · show zWA _ _ _ _ _ _
    refine zx_iload_n dX7_step_2 rfl rfl ?_
    refine zx_sipush 336 dX7_step_3 (by decide) ?_
    refine zx_icmp_ge (tgt := 22) dX7_step_6 (by decide) (fun _ => ?_) (fun h_ => absurd h_ (fun q => q (by decide)))
    exact zWA_to hx ⟨rfl, rfl, rfl, trivial⟩
  · intro k hk hn_
    show zWA _ _ _ _ _ _
    refine zx_iload_n dX7_step_2 rfl rfl ?_
    refine zx_sipush 336 dX7_step_3 (by decide) ?_
    refine zx_icmp_ge (tgt := 22) dX7_step_6 (by decide) (fun h_ => absurd h_ (nI_ge hk (by decide))) (fun _ => ?_)
    refine zx_aload_n dX7_step_9 rfl rfl ?_
    refine zx_getR zf_X7_48 (by assumption) (show _ = some 19 from (hLk k).1 18 (by decide)) rfl dX7_step_10 ?_
    refine zx_iload_n dX7_step_13 rfl rfl ?_
    refine zx_lconst 0 dX7_step_14 (by decide) ?_
    refine zx_last (k) (by assumption) rfl ⟨by rw [hl19]; exact hk, by rw [hl19]; decide⟩ dX7_step_15 ?_
    refine zx_iinc (nI (k + 1)) dX7_step_16 rfl (by exact nI_1 k) (Nat.le_of_ble_eq_true rfl) ?_
    refine zx_goto (tgt := 2) dX7_step_19 (by decide) ?_
    exact zWA_to (zWA_mem hn_ (by rfl)) ⟨rfl, rfl, rfl, trivial⟩

