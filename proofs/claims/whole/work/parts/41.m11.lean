def u_keepAll (μ : ZMem) (N F j : Nat) : ZMem := zit (u_keepS1 (100 + 10 * j + 6)) 4 (zit (u_keepN1 (100 + 10 * j + 5)) 80 (zit (u_keepF1 (100 + 10 * j + 4)) F (zit (u_keepC1 (100 + 10 * j + 0) (100 + 10 * j + 1) (100 + 10 * j + 2) (100 + 10 * j + 3)) N μ)))
def u_giveAll (μ : ZMem) (N F j : Nat) : ZMem := zit (u_giveS1 (100 + 10 * j + 6)) 4 (zit (u_giveN1 (100 + 10 * j + 5)) 80 (zit (u_giveF1 (100 + 10 * j + 4)) F (zit (u_giveC1 (100 + 10 * j + 0) (100 + 10 * j + 1) (100 + 10 * j + 2) (100 + 10 * j + 3)) N μ)))
theorem zRI_keepC (a b c d n : Nat) (μ : ZMem) : zR (zit (u_keepC1 a b c d) n μ) = zR μ ∧ zI (zit (u_keepC1 a b c d) n μ) = zI μ := ⟨zit_keep (f := u_keepC1 a b c d) zR (fun _ _ => rfl) n μ, zit_keep (f := u_keepC1 a b c d) zI (fun _ _ => rfl) n μ⟩
theorem zRI_giveC (a b c d n : Nat) (μ : ZMem) : zR (zit (u_giveC1 a b c d) n μ) = zR μ ∧ zI (zit (u_giveC1 a b c d) n μ) = zI μ := ⟨zit_keep (f := u_giveC1 a b c d) zR (fun _ _ => rfl) n μ, zit_keep (f := u_giveC1 a b c d) zI (fun _ _ => rfl) n μ⟩
theorem zRI_trans {a b c : ZMem} (h1 : zR a = zR b ∧ zI a = zI b) (h2 : zR b = zR c ∧ zI b = zI c) : zR a = zR c ∧ zI a = zI c := ⟨h1.1.trans h2.1, h1.2.trans h2.2⟩
theorem zRI_keepF (q n : Nat) (μ : ZMem) : zR (zit (u_keepF1 q) n μ) = zR μ ∧ zI (zit (u_keepF1 q) n μ) = zI μ := ⟨zit_keep (f := u_keepF1 q) zR (fun _ _ => rfl) n μ, zit_keep (f := u_keepF1 q) zI (fun _ _ => rfl) n μ⟩
theorem zRI_giveF (q n : Nat) (μ : ZMem) : zR (zit (u_giveF1 q) n μ) = zR μ ∧ zI (zit (u_giveF1 q) n μ) = zI μ := ⟨zit_keep (f := u_giveF1 q) zR (fun _ _ => rfl) n μ, zit_keep (f := u_giveF1 q) zI (fun _ _ => rfl) n μ⟩
theorem zRI_keepN (q n : Nat) (μ : ZMem) : zR (zit (u_keepN1 q) n μ) = zR μ ∧ zI (zit (u_keepN1 q) n μ) = zI μ := ⟨zit_keep (f := u_keepN1 q) zR (fun _ _ => rfl) n μ, zit_keep (f := u_keepN1 q) zI (fun _ _ => rfl) n μ⟩
theorem zRI_giveN (q n : Nat) (μ : ZMem) : zR (zit (u_giveN1 q) n μ) = zR μ ∧ zI (zit (u_giveN1 q) n μ) = zI μ := ⟨zit_keep (f := u_giveN1 q) zR (fun _ _ => rfl) n μ, zit_keep (f := u_giveN1 q) zI (fun _ _ => rfl) n μ⟩
theorem zRI_keepS (q n : Nat) (μ : ZMem) : zR (zit (u_keepS1 q) n μ) = zR μ ∧ zI (zit (u_keepS1 q) n μ) = zI μ := ⟨zit_keep (f := u_keepS1 q) zR (fun _ _ => rfl) n μ, zit_keep (f := u_keepS1 q) zI (fun _ _ => rfl) n μ⟩
theorem zRI_giveS (q n : Nat) (μ : ZMem) : zR (zit (u_giveS1 q) n μ) = zR μ ∧ zI (zit (u_giveS1 q) n μ) = zI μ := ⟨zit_keep (f := u_giveS1 q) zR (fun _ _ => rfl) n μ, zit_keep (f := u_giveS1 q) zI (fun _ _ => rfl) n μ⟩
def s_save (j : Nat) : Int32 := if j < 4 then nI j else -1
def u_save1 (μ : ZMem) (N F j : Nat) : ZMem := (fun m : ZMem => (fun m2 : ZMem => zsI m2 0 12 (nI j + 1)) ((fun m1 : ZMem => zsI m1 (80 + j) 9 (zI m1 0 13)) ((fun m0 : ZMem => zsL m0 (80 + j) 8 (zL m0 0 16)) (zsD m (80 + j) 7 (zD m 0 14))))) (u_keepAll μ N F j)
def u_save (μ : ZMem) (N F j : Nat) : ZMem := if j < 4 then u_save1 μ N F j else μ
set_option maxHeartbeats 4000000 in
set_option maxRecDepth 100000 in
theorem m_X6_save {g : ZG} {μ : ZMem} {w h : Nat} {ly : Int32} (hG : zGC g (w * h) (fcA w h)) (hL : zLC w h ly μ) (hW : zWf g μ) {j : Nat} (hI : zI μ 0 12 = nI j) (hj : j < 4) : zCab g RX6 yX6_save cX6_save 3 ((some FieldType.int)) (zrm 4) [zr (some 0)] μ (some (zi (s_save j))) (u_save μ (w * h) (fcA w h) j) := by
  refine zCab_w (by decide +kernel) rfl (Nat.le_of_ble_eq_true rfl) ?_
  have hO0 : zO g 6 0 := hG.fix 0 (by decide)
  have hO1 : zO g 12 1 := hG.fix 1 (by decide)
  have hO2 : zO g 13 2 := hG.fix 2 (by decide)
  have hO3 : zO g 15 3 := hG.fix 3 (by decide)
  have hO4 : zO g 8 4 := hG.fix 4 (by decide)
  have hO5 : zO g 8 5 := hG.fix 5 (by decide)
  have hO6 : zO g 14 6 := hG.fix 6 (by decide)
  have hO7 : zO g 16 7 := hG.fix 7 (by decide)
  have hO8 : zO g 5 8 := hG.fix 8 (by decide)
  have hl1 : zln g 1 = w * h := hG.l _ (Or.inl (by decide)) rfl
  have hl2 : zln g 2 = fcA w h := hG.l _ (Or.inl (by decide)) rfl
  have hl3 : zln g 3 = 4 := hG.l _ (Or.inl (by decide)) rfl
  have hl4 : zln g 4 = 24 := hG.l _ (Or.inl (by decide)) rfl
  have hl5 : zln g 5 = 24 := hG.l _ (Or.inl (by decide)) rfl
  have hl6 : zln g 6 = 10 := hG.l _ (Or.inl (by decide)) rfl
  have hl7 : zln g 7 = 4 := hG.l _ (Or.inl (by decide)) rfl
  have hN := hG.1
  have hF := hG.2.1
  have hw0 : zI μ 0 0 = nI w := hL.2.2.2.2.2.2.2.2.1
  have hh0 : zI μ 0 1 = nI h := hL.2.2.2.2.2.2.2.2.2.1
  have hy0 : zI μ 0 2 = ly := hL.2.2.2.2.2.2.2.2.2.2.1
  have hwb := hL.2.2.2.2.2.2.2.2.2.2.2
  have hE1 : zR (zit (u_keepC1 (100 + 10 * j + 0) (100 + 10 * j + 1) (100 + 10 * j + 2) (100 + 10 * j + 3)) (w * h) μ) = zR μ ∧ zI (zit (u_keepC1 (100 + 10 * j + 0) (100 + 10 * j + 1) (100 + 10 * j + 2) (100 + 10 * j + 3)) (w * h) μ) = zI μ := (zRI_keepC _ _ _ _ _ _)
  have hL1 : zLC w h ly (zit (u_keepC1 (100 + 10 * j + 0) (100 + 10 * j + 1) (100 + 10 * j + 2) (100 + 10 * j + 3)) (w * h) μ) := zLC_RI hE1 hL
  have hW1 : zWf g (zit (u_keepC1 (100 + 10 * j + 0) (100 + 10 * j + 1) (100 + 10 * j + 2) (100 + 10 * j + 3)) (w * h) μ) := zWf_E hE1.1 hW
  have hE2 : zR (zit (u_keepF1 (100 + 10 * j + 4)) (fcA w h) (zit (u_keepC1 (100 + 10 * j + 0) (100 + 10 * j + 1) (100 + 10 * j + 2) (100 + 10 * j + 3)) (w * h) μ)) = zR μ ∧ zI (zit (u_keepF1 (100 + 10 * j + 4)) (fcA w h) (zit (u_keepC1 (100 + 10 * j + 0) (100 + 10 * j + 1) (100 + 10 * j + 2) (100 + 10 * j + 3)) (w * h) μ)) = zI μ := (zRI_trans (zRI_keepF _ _ _) (zRI_keepC _ _ _ _ _ _))
  have hL2 : zLC w h ly (zit (u_keepF1 (100 + 10 * j + 4)) (fcA w h) (zit (u_keepC1 (100 + 10 * j + 0) (100 + 10 * j + 1) (100 + 10 * j + 2) (100 + 10 * j + 3)) (w * h) μ)) := zLC_RI hE2 hL
  have hW2 : zWf g (zit (u_keepF1 (100 + 10 * j + 4)) (fcA w h) (zit (u_keepC1 (100 + 10 * j + 0) (100 + 10 * j + 1) (100 + 10 * j + 2) (100 + 10 * j + 3)) (w * h) μ)) := zWf_E hE2.1 hW
  have hE3 : zR (zit (u_keepN1 (100 + 10 * j + 5)) 80 (zit (u_keepF1 (100 + 10 * j + 4)) (fcA w h) (zit (u_keepC1 (100 + 10 * j + 0) (100 + 10 * j + 1) (100 + 10 * j + 2) (100 + 10 * j + 3)) (w * h) μ))) = zR μ ∧ zI (zit (u_keepN1 (100 + 10 * j + 5)) 80 (zit (u_keepF1 (100 + 10 * j + 4)) (fcA w h) (zit (u_keepC1 (100 + 10 * j + 0) (100 + 10 * j + 1) (100 + 10 * j + 2) (100 + 10 * j + 3)) (w * h) μ))) = zI μ := (zRI_trans (zRI_keepN _ _ _) (zRI_trans (zRI_keepF _ _ _) (zRI_keepC _ _ _ _ _ _)))
  have hL3 : zLC w h ly (zit (u_keepN1 (100 + 10 * j + 5)) 80 (zit (u_keepF1 (100 + 10 * j + 4)) (fcA w h) (zit (u_keepC1 (100 + 10 * j + 0) (100 + 10 * j + 1) (100 + 10 * j + 2) (100 + 10 * j + 3)) (w * h) μ))) := zLC_RI hE3 hL
  have hW3 : zWf g (zit (u_keepN1 (100 + 10 * j + 5)) 80 (zit (u_keepF1 (100 + 10 * j + 4)) (fcA w h) (zit (u_keepC1 (100 + 10 * j + 0) (100 + 10 * j + 1) (100 + 10 * j + 2) (100 + 10 * j + 3)) (w * h) μ))) := zWf_E hE3.1 hW
  have hE4 : zR (zit (u_keepS1 (100 + 10 * j + 6)) 4 (zit (u_keepN1 (100 + 10 * j + 5)) 80 (zit (u_keepF1 (100 + 10 * j + 4)) (fcA w h) (zit (u_keepC1 (100 + 10 * j + 0) (100 + 10 * j + 1) (100 + 10 * j + 2) (100 + 10 * j + 3)) (w * h) μ)))) = zR μ ∧ zI (zit (u_keepS1 (100 + 10 * j + 6)) 4 (zit (u_keepN1 (100 + 10 * j + 5)) 80 (zit (u_keepF1 (100 + 10 * j + 4)) (fcA w h) (zit (u_keepC1 (100 + 10 * j + 0) (100 + 10 * j + 1) (100 + 10 * j + 2) (100 + 10 * j + 3)) (w * h) μ)))) = zI μ := (zRI_trans (zRI_keepS _ _ _) (zRI_trans (zRI_keepN _ _ _) (zRI_trans (zRI_keepF _ _ _) (zRI_keepC _ _ _ _ _ _))))
  have hL4 : zLC w h ly (zit (u_keepS1 (100 + 10 * j + 6)) 4 (zit (u_keepN1 (100 + 10 * j + 5)) 80 (zit (u_keepF1 (100 + 10 * j + 4)) (fcA w h) (zit (u_keepC1 (100 + 10 * j + 0) (100 + 10 * j + 1) (100 + 10 * j + 2) (100 + 10 * j + 3)) (w * h) μ)))) := zLC_RI hE4 hL
  have hW4 : zWf g (zit (u_keepS1 (100 + 10 * j + 6)) 4 (zit (u_keepN1 (100 + 10 * j + 5)) 80 (zit (u_keepF1 (100 + 10 * j + 4)) (fcA w h) (zit (u_keepC1 (100 + 10 * j + 0) (100 + 10 * j + 1) (100 + 10 * j + 2) (100 + 10 * j + 3)) (w * h) μ)))) := zWf_E hE4.1 hW
  refine zx_aload_n dX6_save_0 rfl rfl ?_
  refine zx_getI zf_X6_231 (by assumption) (Or.inl rfl) dX6_save_1 ?_
  rw [hI]
  refine zx_istore_n dX6_save_4 rfl (Nat.le_of_ble_eq_true rfl) ?_
  refine zx_iload_n dX6_save_5 rfl rfl ?_
  refine zx_if_lt (tgt := 18) dX6_save_6 (by decide) (fun h_ => absurd h_ (by have := nI_pos (show j < 2 ^ 31 by omega); exact this)) (fun _ => ?_)
  refine zx_iload_n dX6_save_9 rfl rfl ?_
  refine zx_aload_n dX6_save_10 rfl rfl ?_
  refine zx_getR zf_X6_69 (by assumption) (show _ = some 7 from hL.R0 (k := 9) (by decide)) rfl dX6_save_11 ?_
  refine zx_alen (nI 4) (by assumption) (by decide) (by rw [hl7]) dX6_save_14 ?_
  refine zx_icmp_lt (tgt := 20) dX6_save_15 (by decide) (fun _ => ?_) (fun h_ => absurd h_ (fun q => q (nI_lt hj (by decide))))
  refine zx_aload_n dX6_save_20 rfl rfl ?_
  refine zx_getR zf_X6_69 (by assumption) (show _ = some 7 from hL.R0 (k := 9) (by decide)) rfl dX6_save_21 ?_
  refine zx_iload_n dX6_save_24 rfl rfl ?_
  refine zx_aald j hO7 (by decide) rfl ⟨by rw [hl7]; exact hj, by rw [hl7]; decide⟩ (hL.2.2.2.2.2.1 j hj).1 dX6_save_25 ?_
  refine zx_astore_n dX6_save_26 rfl (Nat.le_of_ble_eq_true rfl) ?_
  refine zx_aload_n dX6_save_27 rfl rfl ?_
  refine zx_aload_n dX6_save_28 rfl rfl ?_
  refine zx_getR zf_X6_31 (by assumption) (show _ = some 1 from hL.R0 (k := 3) (by decide)) rfl dX6_save_29 ?_
  refine zx_callV0 _ zv_X6_234 (m_X4_keepCells (s := 80 + j) (a := 1) (N := w * h) (hG.state hj) hW hO1 hl1 hN hL.2.1 ((hL.2.2.2.2.2.1 j hj).2 0 (by decide)) ((hL.2.2.2.2.2.1 j hj).2 1 (by decide)) ((hL.2.2.2.2.2.1 j hj).2 2 (by decide)) ((hL.2.2.2.2.2.1 j hj).2 3 (by decide)) (hG.kept hj (j := 0) (by decide)).2 (hG.kept hj (j := 1) (by decide)).2 (hG.kept hj (j := 2) (by decide)).2 (hG.kept hj (j := 3) (by decide)).2) (hG.state hj) (by decide) rfl rfl rfl ⟨rfl, rfl, (Nat.le_of_ble_eq_true rfl), (Nat.le_of_ble_eq_true rfl)⟩ (Nat.le_of_ble_eq_true rfl) dX6_save_32 ?_
  refine zx_aload_n dX6_save_35 rfl rfl ?_
  refine zx_aload_n dX6_save_36 rfl rfl ?_
  refine zx_getR zf_X6_43 (by assumption) (show _ = some 2 from hL1.R0 (k := 4) (by decide)) rfl dX6_save_37 ?_
  refine zx_callV0 _ zv_X6_240 (m_X4_keepFaces (μ := (zit (u_keepC1 (100 + 10 * j + 0) (100 + 10 * j + 1) (100 + 10 * j + 2) (100 + 10 * j + 3)) (w * h) μ)) (s := 80 + j) (a := 2) (N := fcA w h) (hG.state hj) hW1 hO2 hl2 hF hL1.2.2.1 ((hL1.2.2.2.2.2.1 j hj).2 4 (by decide)) (hG.kept hj (j := 4) (by decide)).2) (hG.state hj) (by decide) rfl rfl rfl ⟨rfl, rfl, (Nat.le_of_ble_eq_true rfl), (Nat.le_of_ble_eq_true rfl)⟩ (Nat.le_of_ble_eq_true rfl) dX6_save_40 ?_
  refine zx_aload_n dX6_save_43 rfl rfl ?_
  refine zx_aload_n dX6_save_44 rfl rfl ?_
  refine zx_getR zf_X6_58 (by assumption) (show _ = some 6 from hL2.R0 (k := 8) (by decide)) rfl dX6_save_45 ?_
  refine zx_callV0 _ zv_X6_244 (m_X4_keepNests (μ := (zit (u_keepF1 (100 + 10 * j + 4)) (fcA w h) (zit (u_keepC1 (100 + 10 * j + 0) (100 + 10 * j + 1) (100 + 10 * j + 2) (100 + 10 * j + 3)) (w * h) μ))) (s := 80 + j) (a := 6) (hG.state hj) hW2 hG hO6 hl6 hL2.2.2.2.2.1 ((hL2.2.2.2.2.2.1 j hj).2 5 (by decide)) (hG.kept hj (j := 5) (by decide)).2) (hG.state hj) (by decide) rfl rfl rfl ⟨rfl, rfl, (Nat.le_of_ble_eq_true rfl), (Nat.le_of_ble_eq_true rfl)⟩ (Nat.le_of_ble_eq_true rfl) dX6_save_48 ?_
  refine zx_aload_n dX6_save_51 rfl rfl ?_
  refine zx_aload_n dX6_save_52 rfl rfl ?_
  refine zx_getR zf_X6_35 (by assumption) (show _ = some 3 from hL3.R0 (k := 5) (by decide)) rfl dX6_save_53 ?_
  refine zx_callV0 _ zv_X6_248 (m_X4_keepSides (μ := (zit (u_keepN1 (100 + 10 * j + 5)) 80 (zit (u_keepF1 (100 + 10 * j + 4)) (fcA w h) (zit (u_keepC1 (100 + 10 * j + 0) (100 + 10 * j + 1) (100 + 10 * j + 2) (100 + 10 * j + 3)) (w * h) μ)))) (s := 80 + j) (a := 3) (N := 4) (hG.state hj) hW3 hO3 hl3 (by decide) (fun k hk => (hL3.2.2.2.1 k hk).1) ((hL3.2.2.2.2.2.1 j hj).2 6 (by decide)) (hG.kept hj (j := 6) (by decide)).2) (hG.state hj) (by decide) rfl rfl rfl ⟨rfl, rfl, (Nat.le_of_ble_eq_true rfl), (Nat.le_of_ble_eq_true rfl)⟩ (Nat.le_of_ble_eq_true rfl) dX6_save_56 ?_
  refine zx_aload_n dX6_save_59 rfl rfl ?_
  refine zx_aload_n dX6_save_60 rfl rfl ?_
  refine zx_getD zf_X6_252 (by assumption) rfl dX6_save_61 ?_
  refine zx_putD zf_X6_255 (hG.state hj) rfl dX6_save_64 ?_
  refine zx_aload_n dX6_save_67 rfl rfl ?_
  refine zx_aload_n dX6_save_68 rfl rfl ?_
  refine zx_getL zf_X6_180 (by assumption) rfl dX6_save_69 ?_
  refine zx_putL zf_X6_256 (hG.state hj) rfl dX6_save_72 ?_
  refine zx_aload_n dX6_save_75 rfl rfl ?_
  refine zx_aload_n dX6_save_76 rfl rfl ?_
  refine zx_getI zf_X6_109 (by assumption) (Or.inl rfl) dX6_save_77 ?_
  refine zx_putI zf_X6_257 (hG.state hj) ⟨rfl, rfl⟩ (Or.inl rfl) dX6_save_80 ?_
  refine zx_aload_n dX6_save_83 rfl rfl ?_
  refine zx_iload_n dX6_save_84 rfl rfl ?_
  refine zx_iconst 1 dX6_save_85 (by decide) ?_
  refine zx_iadd dX6_save_86 ?_
  refine zx_putI zf_X6_231 (by assumption) ⟨rfl, rfl⟩ (Or.inl rfl) dX6_save_87 ?_
  refine zx_iload_n dX6_save_90 rfl rfl ?_
  exact zx_ireturn rfl (by show some (zi (s_save j)) = _; unfold s_save; rw [if_pos hj]) (by show u_save μ (w * h) (fcA w h) j = _; unfold u_save; rw [if_pos hj]; rfl) dX6_save_91

set_option maxHeartbeats 4000000 in
set_option maxRecDepth 100000 in
theorem m_X6_save_full {g : ZG} {μ : ZMem} {w h : Nat} {ly : Int32} (hG : zGC g (w * h) (fcA w h)) (hL : zLC w h ly μ) (hW : zWf g μ) {j : Nat} (hI : zI μ 0 12 = nI j) (hj : j = 4) : zCab g RX6 yX6_save cX6_save 3 ((some FieldType.int)) (zrm 4) [zr (some 0)] μ (some (zi (s_save j))) (u_save μ (w * h) (fcA w h) j) := by
  refine zCab_w (by decide +kernel) rfl (Nat.le_of_ble_eq_true rfl) ?_
  have hO0 : zO g 6 0 := hG.fix 0 (by decide)
  have hO1 : zO g 12 1 := hG.fix 1 (by decide)
  have hO2 : zO g 13 2 := hG.fix 2 (by decide)
  have hO3 : zO g 15 3 := hG.fix 3 (by decide)
  have hO4 : zO g 8 4 := hG.fix 4 (by decide)
  have hO5 : zO g 8 5 := hG.fix 5 (by decide)
  have hO6 : zO g 14 6 := hG.fix 6 (by decide)
  have hO7 : zO g 16 7 := hG.fix 7 (by decide)
  have hO8 : zO g 5 8 := hG.fix 8 (by decide)
  have hl1 : zln g 1 = w * h := hG.l _ (Or.inl (by decide)) rfl
  have hl2 : zln g 2 = fcA w h := hG.l _ (Or.inl (by decide)) rfl
  have hl3 : zln g 3 = 4 := hG.l _ (Or.inl (by decide)) rfl
  have hl4 : zln g 4 = 24 := hG.l _ (Or.inl (by decide)) rfl
  have hl5 : zln g 5 = 24 := hG.l _ (Or.inl (by decide)) rfl
  have hl6 : zln g 6 = 10 := hG.l _ (Or.inl (by decide)) rfl
  have hl7 : zln g 7 = 4 := hG.l _ (Or.inl (by decide)) rfl
  have hN := hG.1
  have hF := hG.2.1
  have hw0 : zI μ 0 0 = nI w := hL.2.2.2.2.2.2.2.2.1
  have hh0 : zI μ 0 1 = nI h := hL.2.2.2.2.2.2.2.2.2.1
  have hy0 : zI μ 0 2 = ly := hL.2.2.2.2.2.2.2.2.2.2.1
  have hwb := hL.2.2.2.2.2.2.2.2.2.2.2
  refine zx_aload_n dX6_save_0 rfl rfl ?_
  refine zx_getI zf_X6_231 (by assumption) (Or.inl rfl) dX6_save_1 ?_
  rw [hI, hj]
  refine zx_istore_n dX6_save_4 rfl (Nat.le_of_ble_eq_true rfl) ?_
  refine zx_iload_n dX6_save_5 rfl rfl ?_
  refine zx_if_lt (tgt := 18) dX6_save_6 (by decide) (fun h_ => absurd h_ (by decide)) (fun _ => ?_)
  refine zx_iload_n dX6_save_9 rfl rfl ?_
  refine zx_aload_n dX6_save_10 rfl rfl ?_
  refine zx_getR zf_X6_69 (by assumption) (show _ = some 7 from hL.R0 (k := 9) (by decide)) rfl dX6_save_11 ?_
  refine zx_alen (nI 4) (by assumption) (by decide) (by rw [hl7]) dX6_save_14 ?_
  refine zx_icmp_lt (tgt := 20) dX6_save_15 (by decide) (fun h_ => absurd h_ (by decide)) (fun _ => ?_)
  refine zx_iconst (-1) dX6_save_18 (by decide) ?_
  exact zx_ireturn rfl (by simp [zKa, s_save, hj]) (by simp [zKm, u_save, hj]) dX6_save_19

def s_back (μ : ZMem) (x : Int32) : Int32 := if x < 0 then 0 else if x < nI 4 then (if zI μ (80 + x.toNatClampNeg) 9 = zI μ 0 13 then 1 else 0) else 0
def u_back1 (μ : ZMem) (N F j : Nat) : ZMem := (fun m : ZMem => (fun m1 : ZMem => zsL m1 0 16 (zL m1 (80 + j) 8)) (zsD m 0 14 (zD m (80 + j) 7))) (u_giveAll μ N F j)
def u_back (μ : ZMem) (N F : Nat) (x : Int32) : ZMem := if x < 0 then μ else if x < nI 4 then (if zI μ (80 + x.toNatClampNeg) 9 = zI μ 0 13 then u_back1 μ N F x.toNatClampNeg else μ) else μ
set_option maxHeartbeats 4000000 in
set_option maxRecDepth 100000 in
theorem m_X6_back {g : ZG} {μ : ZMem} {w h : Nat} {ly : Int32} (hG : zGC g (w * h) (fcA w h)) (hL : zLC w h ly μ) (hW : zWf g μ) {x : Int32} : zCab g RX6 yX6_back cX6_back 3 ((some FieldType.boolean)) (zrm 4) [zr (some 0), zi x] μ (some (zi (s_back μ x))) (u_back μ (w * h) (fcA w h) x) := by
  refine zCab_w (by decide +kernel) rfl (Nat.le_of_ble_eq_true rfl) ?_
  have hO0 : zO g 6 0 := hG.fix 0 (by decide)
  have hO1 : zO g 12 1 := hG.fix 1 (by decide)
  have hO2 : zO g 13 2 := hG.fix 2 (by decide)
  have hO3 : zO g 15 3 := hG.fix 3 (by decide)
  have hO4 : zO g 8 4 := hG.fix 4 (by decide)
  have hO5 : zO g 8 5 := hG.fix 5 (by decide)
  have hO6 : zO g 14 6 := hG.fix 6 (by decide)
  have hO7 : zO g 16 7 := hG.fix 7 (by decide)
  have hO8 : zO g 5 8 := hG.fix 8 (by decide)
  have hl1 : zln g 1 = w * h := hG.l _ (Or.inl (by decide)) rfl
  have hl2 : zln g 2 = fcA w h := hG.l _ (Or.inl (by decide)) rfl
  have hl3 : zln g 3 = 4 := hG.l _ (Or.inl (by decide)) rfl
  have hl4 : zln g 4 = 24 := hG.l _ (Or.inl (by decide)) rfl
  have hl5 : zln g 5 = 24 := hG.l _ (Or.inl (by decide)) rfl
  have hl6 : zln g 6 = 10 := hG.l _ (Or.inl (by decide)) rfl
  have hl7 : zln g 7 = 4 := hG.l _ (Or.inl (by decide)) rfl
  have hN := hG.1
  have hF := hG.2.1
  have hw0 : zI μ 0 0 = nI w := hL.2.2.2.2.2.2.2.2.1
  have hh0 : zI μ 0 1 = nI h := hL.2.2.2.2.2.2.2.2.2.1
  have hy0 : zI μ 0 2 = ly := hL.2.2.2.2.2.2.2.2.2.2.1
  have hwb := hL.2.2.2.2.2.2.2.2.2.2.2
  refine zx_iload_n dX6_back_0 rfl rfl ?_
  refine zx_if_lt (tgt := 13) dX6_back_1 (by decide) (fun c_1 => ?_) (fun c_1 => ?_)
  · skip
    refine zx_iconst 0 dX6_back_13 (by decide) ?_
    exact zx_zreturn rfl (by decide +kernel) (by simp [zKa, s_back, c_1]) (by simp [zKm, u_back, c_1]) dX6_back_14
  · skip
    refine zx_iload_n dX6_back_4 rfl rfl ?_
    refine zx_aload_n dX6_back_5 rfl rfl ?_
    refine zx_getR zf_X6_69 (by assumption) (show _ = some 7 from hL.R0 (k := 9) (by decide)) rfl dX6_back_6 ?_
    refine zx_alen (nI 4) (by assumption) (by decide) (by rw [hl7]) dX6_back_9 ?_
    refine zx_icmp_lt (tgt := 15) dX6_back_10 (by decide) (fun c_10 => ?_) (fun c_10 => ?_)
    · skip
      obtain ⟨j, hj, rfl⟩ := zix c_1 (Int32.not_le.mpr c_10) (by decide)
      refine zx_aload_n dX6_back_15 rfl rfl ?_
      refine zx_getR zf_X6_69 (by assumption) (show _ = some 7 from hL.R0 (k := 9) (by decide)) rfl dX6_back_16 ?_
      refine zx_iload_n dX6_back_19 rfl rfl ?_
      refine zx_aald j hO7 (by decide) rfl ⟨by rw [hl7]; exact hj, by rw [hl7]; decide⟩ (hL.2.2.2.2.2.1 j hj).1 dX6_back_20 ?_
      refine zx_astore_n dX6_back_21 rfl (Nat.le_of_ble_eq_true rfl) ?_
      refine zx_aload_n dX6_back_22 rfl rfl ?_
      refine zx_getI zf_X6_257 (hG.state hj) (Or.inl rfl) dX6_back_23 ?_
      refine zx_aload_n dX6_back_26 rfl rfl ?_
      refine zx_getI zf_X6_109 (by assumption) (Or.inl rfl) dX6_back_27 ?_
      refine zx_icmp_eq (tgt := 35) dX6_back_30 (by decide) (fun c_30 => ?_) (fun c_30 => ?_)
      · skip
        have hE1 : zR (zit (u_giveC1 (100 + 10 * j + 0) (100 + 10 * j + 1) (100 + 10 * j + 2) (100 + 10 * j + 3)) (w * h) μ) = zR μ ∧ zI (zit (u_giveC1 (100 + 10 * j + 0) (100 + 10 * j + 1) (100 + 10 * j + 2) (100 + 10 * j + 3)) (w * h) μ) = zI μ := (zRI_giveC _ _ _ _ _ _)
        have hL1 : zLC w h ly (zit (u_giveC1 (100 + 10 * j + 0) (100 + 10 * j + 1) (100 + 10 * j + 2) (100 + 10 * j + 3)) (w * h) μ) := zLC_RI hE1 hL
        have hW1 : zWf g (zit (u_giveC1 (100 + 10 * j + 0) (100 + 10 * j + 1) (100 + 10 * j + 2) (100 + 10 * j + 3)) (w * h) μ) := zWf_E hE1.1 hW
        have hE2 : zR (zit (u_giveF1 (100 + 10 * j + 4)) (fcA w h) (zit (u_giveC1 (100 + 10 * j + 0) (100 + 10 * j + 1) (100 + 10 * j + 2) (100 + 10 * j + 3)) (w * h) μ)) = zR μ ∧ zI (zit (u_giveF1 (100 + 10 * j + 4)) (fcA w h) (zit (u_giveC1 (100 + 10 * j + 0) (100 + 10 * j + 1) (100 + 10 * j + 2) (100 + 10 * j + 3)) (w * h) μ)) = zI μ := (zRI_trans (zRI_giveF _ _ _) (zRI_giveC _ _ _ _ _ _))
        have hL2 : zLC w h ly (zit (u_giveF1 (100 + 10 * j + 4)) (fcA w h) (zit (u_giveC1 (100 + 10 * j + 0) (100 + 10 * j + 1) (100 + 10 * j + 2) (100 + 10 * j + 3)) (w * h) μ)) := zLC_RI hE2 hL
        have hW2 : zWf g (zit (u_giveF1 (100 + 10 * j + 4)) (fcA w h) (zit (u_giveC1 (100 + 10 * j + 0) (100 + 10 * j + 1) (100 + 10 * j + 2) (100 + 10 * j + 3)) (w * h) μ)) := zWf_E hE2.1 hW
        have hE3 : zR (zit (u_giveN1 (100 + 10 * j + 5)) 80 (zit (u_giveF1 (100 + 10 * j + 4)) (fcA w h) (zit (u_giveC1 (100 + 10 * j + 0) (100 + 10 * j + 1) (100 + 10 * j + 2) (100 + 10 * j + 3)) (w * h) μ))) = zR μ ∧ zI (zit (u_giveN1 (100 + 10 * j + 5)) 80 (zit (u_giveF1 (100 + 10 * j + 4)) (fcA w h) (zit (u_giveC1 (100 + 10 * j + 0) (100 + 10 * j + 1) (100 + 10 * j + 2) (100 + 10 * j + 3)) (w * h) μ))) = zI μ := (zRI_trans (zRI_giveN _ _ _) (zRI_trans (zRI_giveF _ _ _) (zRI_giveC _ _ _ _ _ _)))
        have hL3 : zLC w h ly (zit (u_giveN1 (100 + 10 * j + 5)) 80 (zit (u_giveF1 (100 + 10 * j + 4)) (fcA w h) (zit (u_giveC1 (100 + 10 * j + 0) (100 + 10 * j + 1) (100 + 10 * j + 2) (100 + 10 * j + 3)) (w * h) μ))) := zLC_RI hE3 hL
        have hW3 : zWf g (zit (u_giveN1 (100 + 10 * j + 5)) 80 (zit (u_giveF1 (100 + 10 * j + 4)) (fcA w h) (zit (u_giveC1 (100 + 10 * j + 0) (100 + 10 * j + 1) (100 + 10 * j + 2) (100 + 10 * j + 3)) (w * h) μ))) := zWf_E hE3.1 hW
        have hE4 : zR (zit (u_giveS1 (100 + 10 * j + 6)) 4 (zit (u_giveN1 (100 + 10 * j + 5)) 80 (zit (u_giveF1 (100 + 10 * j + 4)) (fcA w h) (zit (u_giveC1 (100 + 10 * j + 0) (100 + 10 * j + 1) (100 + 10 * j + 2) (100 + 10 * j + 3)) (w * h) μ)))) = zR μ ∧ zI (zit (u_giveS1 (100 + 10 * j + 6)) 4 (zit (u_giveN1 (100 + 10 * j + 5)) 80 (zit (u_giveF1 (100 + 10 * j + 4)) (fcA w h) (zit (u_giveC1 (100 + 10 * j + 0) (100 + 10 * j + 1) (100 + 10 * j + 2) (100 + 10 * j + 3)) (w * h) μ)))) = zI μ := (zRI_trans (zRI_giveS _ _ _) (zRI_trans (zRI_giveN _ _ _) (zRI_trans (zRI_giveF _ _ _) (zRI_giveC _ _ _ _ _ _))))
        have hL4 : zLC w h ly (zit (u_giveS1 (100 + 10 * j + 6)) 4 (zit (u_giveN1 (100 + 10 * j + 5)) 80 (zit (u_giveF1 (100 + 10 * j + 4)) (fcA w h) (zit (u_giveC1 (100 + 10 * j + 0) (100 + 10 * j + 1) (100 + 10 * j + 2) (100 + 10 * j + 3)) (w * h) μ)))) := zLC_RI hE4 hL
        have hW4 : zWf g (zit (u_giveS1 (100 + 10 * j + 6)) 4 (zit (u_giveN1 (100 + 10 * j + 5)) 80 (zit (u_giveF1 (100 + 10 * j + 4)) (fcA w h) (zit (u_giveC1 (100 + 10 * j + 0) (100 + 10 * j + 1) (100 + 10 * j + 2) (100 + 10 * j + 3)) (w * h) μ)))) := zWf_E hE4.1 hW
        refine zx_aload_n dX6_back_35 rfl rfl ?_
        refine zx_aload_n dX6_back_36 rfl rfl ?_
        refine zx_getR zf_X6_31 (by assumption) (show _ = some 1 from hL.R0 (k := 3) (by decide)) rfl dX6_back_37 ?_
        refine zx_callV0 _ zv_X6_258 (m_X4_giveCells (s := 80 + j) (a := 1) (N := w * h) (hG.state hj) hW hO1 hl1 hN hL.2.1 ((hL.2.2.2.2.2.1 j hj).2 0 (by decide)) ((hL.2.2.2.2.2.1 j hj).2 1 (by decide)) ((hL.2.2.2.2.2.1 j hj).2 2 (by decide)) ((hL.2.2.2.2.2.1 j hj).2 3 (by decide)) (hG.kept hj (j := 0) (by decide)).2 (hG.kept hj (j := 1) (by decide)).2 (hG.kept hj (j := 2) (by decide)).2 (hG.kept hj (j := 3) (by decide)).2) (hG.state hj) (by decide) rfl rfl rfl ⟨rfl, rfl, (Nat.le_of_ble_eq_true rfl), (Nat.le_of_ble_eq_true rfl)⟩ (Nat.le_of_ble_eq_true rfl) dX6_back_40 ?_
        refine zx_aload_n dX6_back_43 rfl rfl ?_
        refine zx_aload_n dX6_back_44 rfl rfl ?_
        refine zx_getR zf_X6_43 (by assumption) (show _ = some 2 from hL1.R0 (k := 4) (by decide)) rfl dX6_back_45 ?_
        refine zx_callV0 _ zv_X6_261 (m_X4_giveFaces (μ := (zit (u_giveC1 (100 + 10 * j + 0) (100 + 10 * j + 1) (100 + 10 * j + 2) (100 + 10 * j + 3)) (w * h) μ)) (s := 80 + j) (a := 2) (N := fcA w h) (hG.state hj) hW1 hO2 hl2 hF hL1.2.2.1 ((hL1.2.2.2.2.2.1 j hj).2 4 (by decide)) (hG.kept hj (j := 4) (by decide)).2) (hG.state hj) (by decide) rfl rfl rfl ⟨rfl, rfl, (Nat.le_of_ble_eq_true rfl), (Nat.le_of_ble_eq_true rfl)⟩ (Nat.le_of_ble_eq_true rfl) dX6_back_48 ?_
        refine zx_aload_n dX6_back_51 rfl rfl ?_
        refine zx_aload_n dX6_back_52 rfl rfl ?_
        refine zx_getR zf_X6_58 (by assumption) (show _ = some 6 from hL2.R0 (k := 8) (by decide)) rfl dX6_back_53 ?_
        refine zx_callV0 _ zv_X6_264 (m_X4_giveNests (μ := (zit (u_giveF1 (100 + 10 * j + 4)) (fcA w h) (zit (u_giveC1 (100 + 10 * j + 0) (100 + 10 * j + 1) (100 + 10 * j + 2) (100 + 10 * j + 3)) (w * h) μ))) (s := 80 + j) (a := 6) (hG.state hj) hW2 hG hO6 hl6 hL2.2.2.2.2.1 ((hL2.2.2.2.2.2.1 j hj).2 5 (by decide)) (hG.kept hj (j := 5) (by decide)).2) (hG.state hj) (by decide) rfl rfl rfl ⟨rfl, rfl, (Nat.le_of_ble_eq_true rfl), (Nat.le_of_ble_eq_true rfl)⟩ (Nat.le_of_ble_eq_true rfl) dX6_back_56 ?_
        refine zx_aload_n dX6_back_59 rfl rfl ?_
        refine zx_aload_n dX6_back_60 rfl rfl ?_
        refine zx_getR zf_X6_35 (by assumption) (show _ = some 3 from hL3.R0 (k := 5) (by decide)) rfl dX6_back_61 ?_
        refine zx_callV0 _ zv_X6_267 (m_X4_giveSides (μ := (zit (u_giveN1 (100 + 10 * j + 5)) 80 (zit (u_giveF1 (100 + 10 * j + 4)) (fcA w h) (zit (u_giveC1 (100 + 10 * j + 0) (100 + 10 * j + 1) (100 + 10 * j + 2) (100 + 10 * j + 3)) (w * h) μ)))) (s := 80 + j) (a := 3) (N := 4) (hG.state hj) hW3 hO3 hl3 (by decide) (fun k hk => (hL3.2.2.2.1 k hk).1) ((hL3.2.2.2.2.2.1 j hj).2 6 (by decide)) (hG.kept hj (j := 6) (by decide)).2) (hG.state hj) (by decide) rfl rfl rfl ⟨rfl, rfl, (Nat.le_of_ble_eq_true rfl), (Nat.le_of_ble_eq_true rfl)⟩ (Nat.le_of_ble_eq_true rfl) dX6_back_64 ?_
        refine zx_aload_n dX6_back_67 rfl rfl ?_
        refine zx_aload_n dX6_back_68 rfl rfl ?_
        refine zx_getD zf_X6_255 (hG.state hj) rfl dX6_back_69 ?_
        refine zx_putD zf_X6_252 (by assumption) rfl dX6_back_72 ?_
        refine zx_aload_n dX6_back_75 rfl rfl ?_
        refine zx_aload_n dX6_back_76 rfl rfl ?_
        refine zx_getL zf_X6_256 (hG.state hj) rfl dX6_back_77 ?_
        refine zx_putL zf_X6_180 (by assumption) rfl dX6_back_80 ?_
        refine zx_iconst 1 dX6_back_83 (by decide) ?_
        exact zx_zreturn rfl (by decide +kernel) (by show some (zi (s_back μ (nI j))) = _; unfold s_back; rw [if_neg c_1, if_pos c_10, nI_clamp (by omega)]; simp [c_30]) (by show u_back μ (w * h) (fcA w h) (nI j) = _; unfold u_back; rw [if_neg c_1, if_pos c_10, nI_clamp (by omega), if_pos c_30]; rfl) dX6_back_84
      · skip
        refine zx_iconst 0 dX6_back_33 (by decide) ?_
        exact zx_zreturn rfl (by decide +kernel) (by show some (zi (s_back μ (nI j))) = _; unfold s_back; rw [if_neg c_1, if_pos c_10, nI_clamp (by omega)]; simp [c_30]) (by show u_back μ (w * h) (fcA w h) (nI j) = _; unfold u_back; rw [if_neg c_1, if_pos c_10, nI_clamp (by omega), if_neg c_30]) dX6_back_34
    · skip
      refine zx_iconst 0 dX6_back_13 (by decide) ?_
      exact zx_zreturn rfl (by decide +kernel) (by simp [zKa, s_back, c_1, c_10]) (by simp [zKm, u_back, c_1, c_10]) dX6_back_14

