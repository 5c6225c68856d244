set_option maxHeartbeats 4000000 in
set_option maxRecDepth 100000 in
theorem L_X7_fit8 {g : ZG} {μ : ZMem} {w h : Nat} {ly : Int32} (hG : zGM g) (hL : zLM w h ly μ) {n : Nat} (hn : n ≤ 5) {c : Nat} (hc : c < n) {fnd : Int32} {res : Option ZV} {μ' : ZMem} (hx : zWA g (RX7, cX7_fit, 9, ((some FieldType.int)), zrm 3, res, μ') 402 (zls [(0, zr (some 0)), (2, zi (nI n)), (3, zi fnd), (4, zi (nI c)), (5, zd (zit (t_rs μ c) ((n - (c + 1))) (zD μ 37 c))), (7, zi (nI (c + 1 + ((n - (c + 1))))))]) [] μ) : zWA g (RX7, cX7_fit, 9, ((some FieldType.int)), zrm 3, res, μ') 365 (zls [(0, zr (some 0)), (2, zi (nI n)), (3, zi fnd), (4, zi (nI c)), (5, zd (zit (t_rs μ c) (0) (zD μ 37 c))), (7, zi (nI (c + 1 + (0))))]) [] μ := by
  have hO0 : zO g 7 0 := hG.o 0 (by decide)
  have hO34 : zO g 8 34 := hG.o 34 (by decide)
  have hl34 : zln g 34 = 40 := hG.l 34 (by decide)
  have hO35 : zO g 8 35 := hG.o 35 (by decide)
  have hl35 : zln g 35 = 40 := hG.l 35 (by decide)
  have hO36 : zO g 8 36 := hG.o 36 (by decide)
  have hl36 : zln g 36 = 25 := hG.l 36 (by decide)
  have hO37 : zO g 8 37 := hG.o 37 (by decide)
  have hl37 : zln g 37 = 5 := hG.l 37 (by decide)
  have hO38 : zO g 8 38 := hG.o 38 (by decide)
  have hl38 : zln g 38 = 5 := hG.l 38 (by decide)
  have hw0 : zI μ 0 0 = nI w := hL.2.1
  have hh0 : zI μ 0 1 = nI h := hL.2.2.1
  have hy0 : zI μ 0 2 = ly := hL.2.2.2.1
  obtain ⟨hb1, hb2, hb3, hb4⟩ := hL.2.2.2.2
  refine zloop (P := fun k => zWA g (RX7, cX7_fit, 9, ((some FieldType.int)), zrm 3, res, μ') 365 (zls [(0, zr (some 0)), (2, zi (nI n)), (3, zi fnd), (4, zi (nI c)), (5, zd (zit (t_rs μ c) (k) (zD μ 37 c))), (7, zi (nI (c + 1 + (k))))]) [] μ) (N := (n - (c + 1))) ?_ ?_ 0 (Nat.zero_le _)
  · show zWA _ _ _ _ _ _
    refine zx_iload dX7_fit_365 rfl ?_
    refine zx_iload_n dX7_fit_367 rfl rfl ?_
    refine zx_icmp_ge (tgt := 402) dX7_fit_368 (by decide) (fun _ => ?_) (fun h_ => absurd h_ (by rw [show c + 1 + (n - (c + 1)) = n by omega]; exact fun q => q (Int32.le_refl _)))
    exact zWA_to hx ⟨rfl, rfl, rfl, rfl, rfl, rfl, trivial⟩
  · intro k hk hn_
    show zWA _ _ _ _ _ _
    refine zx_iload dX7_fit_365 rfl ?_
    refine zx_iload_n dX7_fit_367 rfl rfl ?_
    refine zx_icmp_ge (tgt := 402) dX7_fit_368 (by decide) (fun h_ => absurd h_ (nI_ge (show c + 1 + k < n by omega) (by omega))) (fun _ => ?_)
    refine zx_dload dX7_fit_371 rfl ?_
    refine zx_aload_n dX7_fit_373 rfl rfl ?_
    refine zx_getR zf_X7_85 (by assumption) (show _ = some 36 from hL.1 35 (by decide)) rfl dX7_fit_374 ?_
    refine zx_iconst 5 dX7_fit_377 (by decide) ?_
    refine zx_iload dX7_fit_378 rfl ?_
    refine zx_imul dX7_fit_380 ?_
    refine zx_iload dX7_fit_381 rfl ?_
    refine zx_iadd dX7_fit_383 ?_
    refine zx_dald (5 * c + (c + 1 + k)) (by assumption) (z5 _ _) ⟨by rw [hl36]; omega, by rw [hl36]; decide⟩ dX7_fit_384 ?_
    refine zx_aload_n dX7_fit_385 rfl rfl ?_
    refine zx_getR zf_X7_91 (by assumption) (show _ = some 38 from hL.1 37 (by decide)) rfl dX7_fit_386 ?_
    refine zx_iload dX7_fit_389 rfl ?_
    refine zx_dald (c + 1 + k) (by assumption) rfl ⟨by rw [hl38]; omega, by rw [hl38]; decide⟩ dX7_fit_391 ?_
    refine zx_dmul dX7_fit_392 ?_
    refine zx_dsub dX7_fit_393 ?_
    refine zx_dstore dX7_fit_394 (Nat.le_of_ble_eq_true rfl) ?_
    refine zx_iinc (nI (c + 1 + (k + 1))) dX7_fit_396 rfl (by rw [show Int32.ofInt 1 = nI 1 from rfl, nI_add] <;> rfl) (Nat.le_of_ble_eq_true rfl) ?_
    refine zx_goto (tgt := 365) dX7_fit_399 (by decide) ?_
    exact zWA_to (zWA_mem hn_ (by rfl)) ⟨rfl, rfl, rfl, rfl, rfl, rfl, trivial⟩

set_option maxHeartbeats 4000000 in
set_option maxRecDepth 100000 in
theorem L_X7_fit9 {g : ZG} {μ : ZMem} {w h : Nat} {ly : Int32} (hG : zGM g) (hL : zLM w h ly μ) {n : Nat} (hn : n ≤ 5) {fnd : Int32} {res : Option ZV} {μ' : ZMem} (hx : zWA g (RX7, cX7_fit, 9, ((some FieldType.int)), zrm 3, res, μ') 452 (zls [(0, zr (some 0)), (2, zi (nI n)), (3, zi fnd), (4, zi (nI n - nI ((n) + 1)))]) [] (zit (q_up1 n) (n) μ)) : zWA g (RX7, cX7_fit, 9, ((some FieldType.int)), zrm 3, res, μ') 345 (zls [(0, zr (some 0)), (2, zi (nI n)), (3, zi fnd), (4, zi (nI n - nI ((0) + 1)))]) [] μ := by
  have hO0 : zO g 7 0 := hG.o 0 (by decide)
  have hO34 : zO g 8 34 := hG.o 34 (by decide)
  have hl34 : zln g 34 = 40 := hG.l 34 (by decide)
  have hO35 : zO g 8 35 := hG.o 35 (by decide)
  have hl35 : zln g 35 = 40 := hG.l 35 (by decide)
  have hO36 : zO g 8 36 := hG.o 36 (by decide)
  have hl36 : zln g 36 = 25 := hG.l 36 (by decide)
  have hO37 : zO g 8 37 := hG.o 37 (by decide)
  have hl37 : zln g 37 = 5 := hG.l 37 (by decide)
  have hO38 : zO g 8 38 := hG.o 38 (by decide)
  have hl38 : zln g 38 = 5 := hG.l 38 (by decide)
  have hw0 : zI μ 0 0 = nI w := hL.2.1
  have hh0 : zI μ 0 1 = nI h := hL.2.2.1
  have hy0 : zI μ 0 2 = ly := hL.2.2.2.1
  obtain ⟨hb1, hb2, hb3, hb4⟩ := hL.2.2.2.2
  have hKk : ∀ k, zKp (zit (q_up1 n) k μ) μ := fun k => zKp_it (zKp_up1 n) k μ
  have hLk : ∀ k, zLM w h ly (zit (q_up1 n) k μ) := fun k => zLM_kp (hKk k) hL
  have hwk : ∀ k, zI (zit (q_up1 n) k μ) 0 0 = nI w := fun k => (hLk k).2.1
  have hhk : ∀ k, zI (zit (q_up1 n) k μ) 0 1 = nI h := fun k => (hLk k).2.2.1
  refine zloop (P := fun k => zWA g (RX7, cX7_fit, 9, ((some FieldType.int)), zrm 3, res, μ') 345 (zls [(0, zr (some 0)), (2, zi (nI n)), (3, zi fnd), (4, zi (nI n - nI ((k) + 1)))]) [] (zit (q_up1 n) (k) μ)) (N := n) ?_ ?_ 0 (Nat.zero_le _)
  · show zWA _ _ _ _ _ _
    refine zx_iload dX7_fit_345 rfl ?_
    refine zx_if_lt (tgt := 452) dX7_fit_347 (by decide) (fun _ => ?_) (fun h_ => absurd h_ (fun q => q (zup_n hn)))
    exact zWA_to hx ⟨rfl, rfl, rfl, rfl, trivial⟩
  · intro k hk hn_
    have hcv : nI n - nI (k + 1) = nI (n - (k + 1)) := pk_sub (by omega)
    show zWA _ _ _ _ _ _
    rw [hcv]
    refine zx_iload dX7_fit_345 rfl ?_
    refine zx_if_lt (tgt := 452) dX7_fit_347 (by decide) (fun h_ => absurd h_ (by have := nI_pos (show n - (k + 1) < 2 ^ 31 by omega); exact this)) (fun _ => ?_)
    refine zx_aload_n dX7_fit_350 rfl rfl ?_
    refine zx_getR zf_X7_88 (by assumption) (show _ = some 37 from (hLk k).1 36 (by decide)) rfl dX7_fit_351 ?_
    refine zx_iload dX7_fit_354 rfl ?_
    refine zx_dald (n - (k + 1)) (by assumption) rfl ⟨by rw [hl37]; omega, by rw [hl37]; decide⟩ dX7_fit_356 ?_
    refine zx_dstore dX7_fit_357 (Nat.le_of_ble_eq_true rfl) ?_
    refine zx_iload dX7_fit_359 rfl ?_
    refine zx_iconst 1 dX7_fit_361 (by decide) ?_
    refine zx_iadd dX7_fit_362 ?_
    refine zx_istore dX7_fit_363 (Nat.le_of_ble_eq_true rfl) ?_
    refine zWA_to (L_X7_fit8 (μ := zit (q_up1 n) k μ) (n := n) (c := (n - (k + 1))) (fnd := fnd) hG (hLk k) hn (by omega) ?_) ⟨rfl, rfl, rfl, rfl, rfl, by show some (zi _) = some (zi _); rw [show (1 : Int32) = nI 1 from rfl, nI_add] <;> rfl, trivial⟩
    refine zx_aload_n dX7_fit_402 rfl rfl ?_
    refine zx_getR zf_X7_91 (by assumption) (show _ = some 38 from (hLk k).1 37 (by decide)) rfl dX7_fit_403 ?_
    refine zx_iload dX7_fit_406 rfl ?_
    refine zx_aload_n dX7_fit_408 rfl rfl ?_
    refine zx_getR zf_X7_85 (by assumption) (show _ = some 36 from (hLk k).1 35 (by decide)) rfl dX7_fit_409 ?_
    refine zx_bipush 6 dX7_fit_412 (by decide) ?_
    refine zx_iload dX7_fit_414 rfl ?_
    refine zx_imul dX7_fit_416 ?_
    refine zx_dald (6 * (n - (k + 1))) (by assumption) (z6 _) ⟨by rw [hl36]; omega, by rw [hl36]; decide⟩ dX7_fit_417 ?_
    refine zx_callS1 _ zs_X7_210 m_X7_size rfl rfl ⟨rfl, rfl, (Nat.le_of_ble_eq_true rfl), (Nat.le_of_ble_eq_true rfl)⟩ (Nat.le_of_ble_eq_true rfl) dX7_fit_418 ?_
    refine zx_ldc2d 4472406533629990549 zk_X7_308 (by decide +kernel) dX7_fit_421 ?_
    refine zx_dl_le (tgt := 444) dX7_fit_424 dX7_fit_425 (by decide) (fun c_424 => ?_) (fun c_424 => ?_)
    · skip
      refine zx_dconst0 dX7_fit_444 ?_
      refine zx_dast (n - (k + 1)) (by assumption) rfl ⟨by rw [hl38]; omega, by rw [hl38]; decide⟩ dX7_fit_445 ?_
      refine zx_iinc (nI n - nI (k + 1 + 1)) dX7_fit_446 rfl (by rw [← hcv]; exact zup_i hn (by omega)) (Nat.le_of_ble_eq_true rfl) ?_
      refine zx_goto (tgt := 345) dX7_fit_449 (by decide) ?_
      exact zWA_to (zWA_mem hn_ (congrArg (fun v => zsD (zit (q_up1 n) k μ) 38 (n - (k + 1)) v) (if_neg (by rw [show zgt (t_size (zD (zit (q_up1 n) k μ) 36 (6 * (n - (k + 1))))) k1e9 = false from c_424]; decide)))) ⟨rfl, rfl, rfl, rfl, trivial⟩
    · skip
      refine zx_dload dX7_fit_428 rfl ?_
      refine zx_aload_n dX7_fit_430 rfl rfl ?_
      refine zx_getR zf_X7_85 (by assumption) (show _ = some 36 from (hLk k).1 35 (by decide)) rfl dX7_fit_431 ?_
      refine zx_bipush 6 dX7_fit_434 (by decide) ?_
      refine zx_iload dX7_fit_436 rfl ?_
      refine zx_imul dX7_fit_438 ?_
      refine zx_dald (6 * (n - (k + 1))) (by assumption) (z6 _) ⟨by rw [hl36]; omega, by rw [hl36]; decide⟩ dX7_fit_439 ?_
      refine zx_ddiv dX7_fit_440 ?_
      refine zx_goto (tgt := 445) dX7_fit_441 (by decide) ?_
      refine zx_dast (n - (k + 1)) (by assumption) rfl ⟨by rw [hl38]; omega, by rw [hl38]; decide⟩ dX7_fit_445 ?_
      refine zx_iinc (nI n - nI (k + 1 + 1)) dX7_fit_446 rfl (by rw [← hcv]; exact zup_i hn (by omega)) (Nat.le_of_ble_eq_true rfl) ?_
      refine zx_goto (tgt := 345) dX7_fit_449 (by decide) ?_
      exact zWA_to (zWA_mem hn_ (congrArg (fun v => zsD (zit (q_up1 n) k μ) 38 (n - (k + 1)) v) (if_pos c_424))) ⟨rfl, rfl, rfl, rfl, trivial⟩

theorem zQn {Q : Nat} (hQ : Q ≤ 2) : (1 : Int32) + 2 * nI Q = nI (2 * Q + 1) := by
  have h : ∀ Q : Fin 3, (1 : Int32) + 2 * nI Q.val = nI (2 * Q.val + 1) := by decide +kernel
  exact h ⟨Q, by omega⟩
set_option maxHeartbeats 4000000 in
set_option maxRecDepth 100000 in
theorem m_X7_fit {g : ZG} {μ : ZMem} {w h : Nat} {ly : Int32} (hG : zGM g) (hL : zLM w h ly μ) {T : Nat} (hT : T ≤ 40) (hI : zI μ 0 31 = nI T) {x : Int32} : zCab g RX7 yX7_fit cX7_fit 9 ((some FieldType.int)) (zrm 3) [zr (some 0), zi x] μ (some (zi (t_fit μ T x))) (q_fit μ T x) := by
  refine zCab_w (by decide +kernel) rfl (Nat.le_of_ble_eq_true rfl) ?_
  have hO0 : zO g 7 0 := hG.o 0 (by decide)
  have hO34 : zO g 8 34 := hG.o 34 (by decide)
  have hl34 : zln g 34 = 40 := hG.l 34 (by decide)
  have hO35 : zO g 8 35 := hG.o 35 (by decide)
  have hl35 : zln g 35 = 40 := hG.l 35 (by decide)
  have hO36 : zO g 8 36 := hG.o 36 (by decide)
  have hl36 : zln g 36 = 25 := hG.l 36 (by decide)
  have hO37 : zO g 8 37 := hG.o 37 (by decide)
  have hl37 : zln g 37 = 5 := hG.l 37 (by decide)
  have hO38 : zO g 8 38 := hG.o 38 (by decide)
  have hl38 : zln g 38 = 5 := hG.l 38 (by decide)
  have hw0 : zI μ 0 0 = nI w := hL.2.1
  have hh0 : zI μ 0 1 = nI h := hL.2.2.1
  have hy0 : zI μ 0 2 = ly := hL.2.2.2.1
  obtain ⟨hb1, hb2, hb3, hb4⟩ := hL.2.2.2.2
  refine zx_iload_n dX7_fit_0 rfl rfl ?_
  refine zx_if_lt (tgt := 9) dX7_fit_1 (by decide) (fun c_1 => ?_) (fun c_1 => ?_)
  · skip
    refine zx_iconst (-1) dX7_fit_9 (by decide) ?_
    exact zx_ireturn rfl (by simp [zKa, t_fit, c_1]) (by simp [zKm, q_fit, c_1]) dX7_fit_10
  · skip
    refine zx_iload_n dX7_fit_4 rfl rfl ?_
    refine zx_iconst 2 dX7_fit_5 (by decide) ?_
    refine zx_icmp_le (tgt := 11) dX7_fit_6 (by decide) (fun c_6 => ?_) (fun c_6 => ?_)
    · skip
      obtain ⟨Q, hQ, rfl⟩ := nI_of2 (M := 2) (n := 2) (by decide) c_1 c_6
      have hKa : zKp (q_add (2 * Q + 1) T μ) μ := zKp_it (zKp_fr (2 * Q + 1) T) _ μ
      have hLa := zLM_kp hKa hL
      have hLb : zLM w h ly (q_clear (2 * Q + 1) (q_add (2 * Q + 1) T μ)).2 := zLM_kp (zKp_clr _ _ _ _) hLa
      have hLc : zLM w h ly (zit (q_up1 (2 * Q + 1)) (2 * Q + 1) (q_clear (2 * Q + 1) (q_add (2 * Q + 1) T μ)).2) := zLM_kp (zKp_it (zKp_up1 _) _ _) hLb
      refine zx_iconst 1 dX7_fit_11 (by decide) ?_
      refine zx_iconst 2 dX7_fit_12 (by decide) ?_
      refine zx_iload_n dX7_fit_13 rfl rfl ?_
      refine zx_imul dX7_fit_14 ?_
      refine zx_iadd dX7_fit_15 ?_
      rw [zQn hQ]
      refine zx_istore_n dX7_fit_16 rfl (Nat.le_of_ble_eq_true rfl) ?_
      refine zx_iconst 0 dX7_fit_17 (by decide) ?_
      refine zx_istore_n dX7_fit_18 rfl (Nat.le_of_ble_eq_true rfl) ?_
      refine zWA_to (L_X7_fit4 (μ := μ) (n := (2 * Q + 1)) (T := T) hG hL (by omega) hT hI ?_) ⟨rfl, rfl, rfl, trivial⟩
      refine zx_iconst 0 dX7_fit_176 (by decide) ?_
      refine zx_istore_n dX7_fit_177 rfl (Nat.le_of_ble_eq_true rfl) ?_
      refine zx_iconst 0 dX7_fit_178 (by decide) ?_
      refine zx_istore dX7_fit_179 (Nat.le_of_ble_eq_true rfl) ?_
      refine zWA_to (L_X7_fit7 (μ := (q_add (2 * Q + 1) T μ)) (n := (2 * Q + 1)) hG hLa (by omega) ?_) ⟨rfl, rfl, rfl, rfl, trivial⟩
      refine zx_iload_n dX7_fit_340 rfl rfl ?_
      refine zx_iconst 1 dX7_fit_341 (by decide) ?_
      refine zx_isub dX7_fit_342 ?_
      refine zx_istore dX7_fit_343 (Nat.le_of_ble_eq_true rfl) ?_
      refine zWA_to (L_X7_fit9 (μ := (q_clear (2 * Q + 1) (q_add (2 * Q + 1) T μ)).2) (n := (2 * Q + 1)) (fnd := (q_clear (2 * Q + 1) (q_add (2 * Q + 1) T μ)).1) hG hLb (by omega) ?_) ⟨rfl, rfl, rfl, rfl, trivial⟩
      refine zx_aload_n dX7_fit_452 rfl rfl ?_
      refine zx_iload_n dX7_fit_453 rfl rfl ?_
      refine zx_putI zf_X7_310 (by assumption) ⟨rfl, rfl⟩ (Or.inl rfl) dX7_fit_454 ?_
      refine zx_iload_n dX7_fit_457 rfl rfl ?_
      exact zx_ireturn rfl (by show some (zi (t_fit μ T (nI Q))) = _; unfold t_fit; rw [if_neg c_1, if_pos c_6, nI_clamp (by omega)]) (by show q_fit μ T (nI Q) = _; unfold q_fit; rw [if_neg c_1, if_pos c_6, nI_clamp (by omega)]; first | done | rfl) dX7_fit_458
    · skip
      refine zx_iconst (-1) dX7_fit_9 (by decide) ?_
      exact zx_ireturn rfl (by simp [zKa, t_fit, c_1, c_6]) (by simp [zKm, q_fit, c_1, c_6]) dX7_fit_10

