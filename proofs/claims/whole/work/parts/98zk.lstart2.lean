set_option maxHeartbeats 8000000 in
set_option maxRecDepth 100000 in
theorem law_start {g : ZG} {X9 : ZX9} {Q9 : ZQ9} {D : va_G} {cy : Nat → ClassId} {w h : Nat} {ly : Int32} (hw : 1 ≤ w ∧ w ≤ 12) (hh : 1 ≤ h ∧ h ≤ 12) (hL : X9.2.2.1 ≤ 2563) (hx : s_between (c_at X9.2.2.1 X9.2.2.2 0) 12 = nI w) (hy : s_between (c_at X9.2.2.1 X9.2.2.2 1) 12 = nI h) (hz : s_between (c_at X9.2.2.1 X9.2.2.2 2) 4 = ly) (h1 : w * h ≤ 144) (h2 : fcA w h ≤ 400) (hg : zgD g = D ∧ zcy g = cy ∧ zad g 1 = X9.1 ∧ zad g 2 = c_hM X9.1 w h)
    (kk : zLS g X9 Q9 zKL 600000 7302250 48 (zls [(0, zr (some 0)), (1, zr (some 1)), (2, zr (some 2)), (3, zi (nI 3))]) [] (c_Φ2 D cy X9.1 w h ly)) : zLS g X9 Q9 zKL 0 0 0 (zls [(0, zr (some 0))]) [] (fun H => X9.1 ≤ H.size) := by
  obtain ⟨g1, g2, g3, g4⟩ := hg
  have kk2 : zLS g X9 Q9 zKL (85 + w * h + fcA w h + 37) 20000 48 (zls [(0, zr (some 0)), (1, zr (some 1)), (2, zr (some 2)), (3, zi (nI 3))]) [] (c_Φ2 D cy X9.1 w h ly) := fun l p e s m args below meth c C d H locs sl stk μr hd hS hP hμ hL hT => W.widen (by omega) (by omega) (kk l p e s m args below meth c C d H locs sl stk μr hd hS hP hμ hL hT)
  refine zs_new (gX := c_gC0 D cy X9.1 w h) (v := 1) (kc2 := 1) (kn2 := 17) znc_L_7 ⟨g1.symm, rfl, rfl⟩ g3 rfl (fun H hP => hP) (fun _ _ hP hz _ => Nat.le_trans hP hz) rfl (by decide) ⟨by show 1 ≤ 600000; omega, by show 17 ≤ 7302250; omega⟩ dL_law_0 ?_
  refine zs_row_dup dL_law_3 rfl ?_
  refine zs_row_aload_n dL_law_4 rfl rfl ?_
  refine zs_row_iconst 0 dL_law_5 (by decide) ?_
  refine zs_cell _ 0 zs_L_9 (by decide) rfl hL (fun H H1 hP hz hk => ⟨Nat.le_trans hP.1 hz, hP.2.kept (fun k q hq => hk q.1 ((hP.2 k q hq).lt))⟩) ⟨rfl, rfl, (Nat.le_of_ble_eq_true rfl), (Nat.le_of_ble_eq_true rfl)⟩ ⟨by show _ ≤ 600000; omega, by show _ ≤ 7302250; omega⟩ (Nat.le_of_ble_eq_true rfl) dL_law_6 ?_
  refine zs_row_aload_n dL_law_9 rfl rfl ?_
  refine zs_row_iconst 1 dL_law_10 (by decide) ?_
  refine zs_cell _ 1 zs_L_9 (by decide) rfl hL (fun H H1 hP hz hk => ⟨Nat.le_trans hP.1 hz, hP.2.kept (fun k q hq => hk q.1 ((hP.2 k q hq).lt))⟩) ⟨rfl, rfl, (Nat.le_of_ble_eq_true rfl), (Nat.le_of_ble_eq_true rfl)⟩ ⟨by show _ ≤ 600000; omega, by show _ ≤ 7302250; omega⟩ (Nat.le_of_ble_eq_true rfl) dL_law_11 ?_
  refine zs_row_aload_n dL_law_14 rfl rfl ?_
  refine zs_row_iconst 2 dL_law_15 (by decide) ?_
  refine zs_cell _ 2 zs_L_9 (by decide) rfl hL (fun H H1 hP hz hk => ⟨Nat.le_trans hP.1 hz, hP.2.kept (fun k q hq => hk q.1 ((hP.2 k q hq).lt))⟩) ⟨rfl, rfl, (Nat.le_of_ble_eq_true rfl), (Nat.le_of_ble_eq_true rfl)⟩ ⟨by show _ ≤ 600000; omega, by show _ ≤ 7302250; omega⟩ (Nat.le_of_ble_eq_true rfl) dL_law_16 ?_
  refine zs_init (kc2 := 85 + w * h + fcA w h) (kn2 := 10217) [zr (some 1)] zin_L_15 (m_X6_init (g := zgr (c_gC0 D cy X9.1 w h) [0]) hw hh hx hy hz ⟨h1, h2, fun r _ => ⟨rfl, rfl, fun h0 => if_neg h0⟩⟩ ⟨List.mem_cons_self, rfl⟩) ⟨g1.symm, rfl, g2.symm⟩ g3 rfl (Nat.le_refl _) (fun _ _ hP hz _ => Nat.le_trans hP hz) rfl rfl rfl ⟨by show 1 + (84 + w * h + fcA w h) = _; omega, by show 17 + 10200 ≤ _; omega, by show _ ≤ 600000; omega, by show _ ≤ 7302250; omega, (Nat.le_of_ble_eq_true rfl), (Nat.le_of_ble_eq_true rfl)⟩ (Nat.le_of_ble_eq_true rfl) dL_law_19 ?_
  refine zs_row_astore_n dL_law_22 rfl (Nat.le_of_ble_eq_true rfl) ?_
  have hlow := fun (H : Heap) (hP : c_Φ1 D cy X9.1 w h ly H) => c_low D cy hP
  refine zs_new (gX := c_gM0 D cy (c_hM X9.1 w h)) (v := 2) (kc2 := 86 + w * h + fcA w h) (kn2 := 10267) (Φ := c_Φ1 D cy X9.1 w h ly) znc_L_18 ⟨g1.symm, rfl, rfl⟩ g4 (by show c_hM X9.1 w h = _; unfold c_hM; omega) (fun H hP => by have := hlow H hP; unfold c_hM at this; omega) (fun H H1 hP hz hk => c_Φ1_kept h1 hP hz (fun q hq _ => hk q hq)) (by omega) (by decide) ⟨by show _ ≤ 600000; omega, by show 10267 ≤ 7302250; omega⟩ dL_law_23 ?_
  refine zs_row_dup dL_law_26 rfl ?_
  refine zs_row_aload_n dL_law_27 rfl rfl ?_
  refine zs_row_iconst 0 dL_law_28 (by decide) ?_
  refine zs_cell _ 0 zs_L_9 (by decide) rfl hL (fun H H1 hP hz hk => ⟨c_Φ1_kept h1 hP.1 hz (fun q hq _ => hk q hq), hP.2.kept (fun k q hq => hk q.1 ((hP.2 k q hq).lt))⟩) ⟨rfl, rfl, (Nat.le_of_ble_eq_true rfl), (Nat.le_of_ble_eq_true rfl)⟩ ⟨by show _ ≤ 600000; omega, by show _ ≤ 7302250; omega⟩ (Nat.le_of_ble_eq_true rfl) dL_law_29 ?_
  refine zs_row_aload_n dL_law_32 rfl rfl ?_
  refine zs_row_iconst 1 dL_law_33 (by decide) ?_
  refine zs_cell _ 1 zs_L_9 (by decide) rfl hL (fun H H1 hP hz hk => ⟨c_Φ1_kept h1 hP.1 hz (fun q hq _ => hk q hq), hP.2.kept (fun k q hq => hk q.1 ((hP.2 k q hq).lt))⟩) ⟨rfl, rfl, (Nat.le_of_ble_eq_true rfl), (Nat.le_of_ble_eq_true rfl)⟩ ⟨by show _ ≤ 600000; omega, by show _ ≤ 7302250; omega⟩ (Nat.le_of_ble_eq_true rfl) dL_law_34 ?_
  refine zs_row_aload_n dL_law_37 rfl rfl ?_
  refine zs_row_iconst 2 dL_law_38 (by decide) ?_
  refine zs_cell _ 2 zs_L_9 (by decide) rfl hL (fun H H1 hP hz hk => ⟨c_Φ1_kept h1 hP.1 hz (fun q hq _ => hk q hq), hP.2.kept (fun k q hq => hk q.1 ((hP.2 k q hq).lt))⟩) ⟨rfl, rfl, (Nat.le_of_ble_eq_true rfl), (Nat.le_of_ble_eq_true rfl)⟩ ⟨by show _ ≤ 600000; omega, by show _ ≤ 7302250; omega⟩ (Nat.le_of_ble_eq_true rfl) dL_law_39 ?_
  refine zs_init (kc2 := 85 + w * h + fcA w h + 37) (kn2 := 20000) [zr (some 2)] zin_L_20 (m_X7_init (g := zgr (c_gM0 D cy (c_hM X9.1 w h)) [0]) hx hy hz (hs := X9.1 + (86 + w * h + fcA w h)) (fun r _ => ⟨rfl, rfl, fun h0 => (if_neg h0).trans (by unfold c_hM; omega)⟩) ⟨List.mem_cons_self, rfl⟩) ⟨g1.symm, rfl, g2.symm⟩ g4 (by show c_hM X9.1 w h + 1 = _; unfold c_hM; omega) (by show X9.1 ≤ c_hM X9.1 w h; unfold c_hM; omega) (fun H H1 hP hz hk => c_Φ1_kept h1 hP hz (fun q hq h9 => hk q hq h9)) rfl rfl rfl ⟨by show _ + 36 = _; omega, by show 10267 + 6255 ≤ _; omega, by show _ ≤ 600000; omega, by show _ ≤ 7302250; omega, (Nat.le_of_ble_eq_true rfl), (Nat.le_of_ble_eq_true rfl)⟩ (Nat.le_of_ble_eq_true rfl) dL_law_42 ?_
  refine zs_row_astore_n dL_law_45 rfl (Nat.le_of_ble_eq_true rfl) ?_
  refine zs_row_iconst 3 dL_law_46 (by decide) ?_
  refine zs_row_istore_n dL_law_47 rfl (Nat.le_of_ble_eq_true rfl) ?_
  exact fun l p e s m args below meth c C d H locs sl stk μr hd hS hP hμ hL hT => kk2 l p e s m args below meth c C d H locs sl stk μr hd hS hP hμ (zLR_sub hL (zhas_sub ⟨rfl, rfl, rfl, rfl, trivial⟩)) hT
