theorem zI_mul (a b : Nat) : nI a * nI b = nI (a * b) := (Int32.ofNat_mul a b).symm
def c_face (w h n : Nat) (m : ZMem) : ZMem := zsR (zsI (zsR (zsR (zsR m (2000 + n) 0 (fBef w h n)) (2000 + n) 1 (fBeh w h n)) (2000 + n) 2 (fSid w h n)) (2000 + n) 3 (fAxi w h n)) 2 n (some (2000 + n))
theorem zit_face_R (w h : Nat) (μ : ZMem) {a : Nat} (ha : a ≠ 2 ∧ a < 2000) : ∀ (n b : Nat), zR (zit (c_face w h) n μ) a b = zR μ a b
  | 0, _ => rfl
  | n + 1, b => by
    have ih := zit_face_R w h μ ha n b
    revert ih
    show _ → zR (c_face w h n (zit (c_face w h) n μ)) a b = _
    generalize zit (c_face w h) n μ = M
    intro ih
    unfold c_face
    rw [zR_sR, if_neg (fun q => ha.1 q.1), zR_sI, zR_sR, if_neg (by omega), zR_sR, if_neg (by omega), zR_sR, if_neg (by omega), ih]
theorem zit_face_zr (w h : Nat) {μ : ZMem} {n k : Nat} (hk : n ≤ k) (h0 : zZr μ (2000 + k)) : zZr (zit (c_face w h) n μ) (2000 + k) :=
  zit_zr (fun j m hj q => zZr_sR (zZr_sI (zZr_sR (zZr_sR (zZr_sR q (by omega)) (by omega)) (by omega)) (by omega)) (by omega)) h0
def zFW (g : ZG) (K : ZK) (nF : List Nat) (hs w h : Nat) (μ : ZMem) (n pc : Nat) (t : List (Nat × ZV)) : Prop := zWN g K nF hs false ([2] ++ zfl (fun k => [2000 + k]) n) (1 + n) (400 + 6 * n) pc (zls ([(0, zr (some 1)), (1, zr (some 3)), (2, zi (nI w)), (3, zi (nI h)), (4, zr (some 2)), (5, zi (nI n))] ++ t)) [] (zit (c_face w h) n μ)
theorem zFW_n {g : ZG} {K : ZK} {nF : List Nat} {hs w h : Nat} {μ : ZMem} {n n2 pc : Nat} {t : List (Nat × ZV)} (k : zFW g K nF hs w h μ n pc t) (e : n = n2) : zFW g K nF hs w h μ n2 pc t := e ▸ k
set_option maxHeartbeats 8000000 in
set_option maxRecDepth 100000 in
theorem m_X6_newFaces {g : ZG} {μ : ZMem} {hs w h : Nat} (hw : 1 ≤ w ∧ w ≤ 12) (hh : 1 ≤ h ∧ h ≤ 12) (hO1 : zO g 12 1 ∧ zln g 1 = w * h) (hO3 : zO g 15 3 ∧ zln g 3 = 4) (hR1 : ∀ i, i < w * h → zR μ 1 i = some (1000 + i)) (hR3 : ∀ j, j < 4 → zR μ 3 j = some (30 + j)) (hA : zkd g 2 = 13 ∧ zln g 2 = fcA w h ∧ zad g 2 = hs ∧ zZr μ 2) (hE : ∀ k, k < fcA w h → zkd g (2000 + k) = 1 ∧ zad g (2000 + k) = hs + 1 + k ∧ zZr μ (2000 + k)) : zNab g RX6 yX6_newFaces cX6_newFaces 9 ((some (FieldType.array (FieldType.object "CellCurrents$Face")))) (zrN 2 (1 + fcA w h) (400 + 6 * fcA w h)) [zr (some 1), zr (some 3), zi (nI w), zi (nI h)] μ (some (zr (some 2))) (zit (c_face w h) (fcA w h) μ) ([2] ++ zfl (fun k => [2000 + k]) (fcA w h)) hs := by
  refine zNab_w false (by decide +kernel) rfl (Nat.le_of_ble_eq_true rfl) (fun h => by cases h) ?_
  have hwh : w * h ≤ 144 := Nat.le_trans (Nat.mul_le_mul hw.2 hh.2) (by decide)
  have hwh1 : (w - 1) * h ≤ 144 := Nat.le_trans (Nat.mul_le_mul (show w - 1 ≤ 12 by omega) hh.2) (by decide)
  have hwh2 : w * (h - 1) ≤ 144 := Nat.le_trans (Nat.mul_le_mul hw.2 (show h - 1 ≤ 12 by omega)) (by decide)
  have hF : fcA w h = (w - 1) * h + w * (h - 1) + 2 * w + 2 * h := rfl
  have hF4 : fcA w h ≤ 400 := by omega
  have e1 : fc1 w h = (w - 1) * h + w * (h - 1) := rfl
  have e0 : fc0 w h = (w - 1) * h := rfl
  have hcm : w * (h - 1) = (h - 1) * w := Nat.mul_comm _ _
  have hcm2 : (w - 1) * h = h * (w - 1) := Nat.mul_comm _ _
  have l7 : ∀ y, zFW g (RX6, cX6_newFaces, 9, ((some (FieldType.array (FieldType.object "CellCurrents$Face")))), zrN 2 (1 + fcA w h) (400 + 6 * fcA w h), some (zr (some 2)), zit (c_face w h) (fcA w h) μ) ([2] ++ zfl (fun k => [2000 + k]) (fcA w h)) hs w h μ (fcA w h) 315 [(6, zi y)] := by
    intro y
    show zWN _ _ _ _ _ _ _ _ _ _ _ _
    refine zy_aload dX6_newFaces_315 rfl ?_
    exact zy_areturn rfl (Or.inr ⟨_, rfl⟩) rfl rfl (by dsimp only [zKR, zrN]) (by dsimp only [zKR, zrN]; omega) dX6_newFaces_317
  have l6 : ∀ x, x ≤ w → zFW g (RX6, cX6_newFaces, 9, ((some (FieldType.array (FieldType.object "CellCurrents$Face")))), zrN 2 (1 + fcA w h) (400 + 6 * fcA w h), some (zr (some 2)), zit (c_face w h) (fcA w h) μ) ([2] ++ zfl (fun k => [2000 + k]) (fcA w h)) hs w h μ (fc1 w h + 2 * h + w + x) 273 [(6, zi (nI x))] := by
    refine zloop (P := fun x => zFW g (RX6, cX6_newFaces, 9, ((some (FieldType.array (FieldType.object "CellCurrents$Face")))), zrN 2 (1 + fcA w h) (400 + 6 * fcA w h), some (zr (some 2)), zit (c_face w h) (fcA w h) μ) ([2] ++ zfl (fun k => [2000 + k]) (fcA w h)) hs w h μ (fc1 w h + 2 * h + w + x) 273 [(6, zi (nI x))]) (N := w) ?_ ?_
    · show zWN _ _ _ _ _ _ _ _ _ _ _ _
      refine zy_iload dX6_newFaces_273 rfl ?_
      refine zy_iload_n dX6_newFaces_275 rfl rfl ?_
      refine zy_icmp_ge (tgt := 315) dX6_newFaces_276 (by decide) (fun _ => ?_) (fun h_ => absurd h_ (fun z => z (Int32.le_refl _)))
      exact zWN_to (zFW_n (l7 _) (by omega)) ⟨rfl, rfl, rfl, rfl, rfl, rfl, rfl, trivial⟩
    · intro x hx hn_
      have hn : fc1 w h + 2 * h + w + x < fcA w h := by omega
      have hmw : (h - 1) * w + w = w * h := by have := Nat.mul_comm w h; obtain ⟨h9, rfl⟩ : ∃ q, h = q + 1 := ⟨h - 1, by omega⟩; rw [Nat.add_sub_cancel]; rw [this, Nat.succ_mul]
      have hb : some (1000 + ((h - 1) * w + x)) = fBef w h (fc1 w h + 2 * h + w + x) := by unfold fBef; rw [if_neg (by omega), if_neg (by omega), if_neg (by omega), if_neg (by omega), if_neg (by omega), show fc1 w h + 2 * h + w + x - fc1 w h - 2 * h - w = x by omega]
      have hc : fBeh w h (fc1 w h + 2 * h + w + x) = none := by unfold fBeh; rw [if_neg (by omega), if_neg (by omega), if_neg (by omega), if_neg (by omega), if_neg (by omega)]
      have hs3 : fSid w h (fc1 w h + 2 * h + w + x) = some 33 := by unfold fSid; rw [if_neg (by omega), if_neg (by omega), if_neg (by omega), if_neg (by omega)]
      have hax : fAxi w h (fc1 w h + 2 * h + w + x) = 1 := by unfold fAxi; rw [if_neg (by omega), if_neg (by omega), if_neg (by omega)]
      show zWN _ _ _ _ _ _ _ _ _ _ _ _
      refine zy_iload dX6_newFaces_273 rfl ?_
      refine zy_iload_n dX6_newFaces_275 rfl rfl ?_
      refine zy_icmp_ge (tgt := 315) dX6_newFaces_276 (by decide) (fun h_ => absurd h_ (fun z => absurd z (Int32.not_le.mpr (nI_lt (by omega : x < w) (by omega))))) (fun _ => ?_)
      refine zy_aload dX6_newFaces_279 rfl ?_
      refine zy_iload dX6_newFaces_281 rfl ?_
      refine zy_new (kn2 := 400 + 6 * (fc1 w h + 2 * h + w + x) + 6) (2000 + (fc1 w h + 2 * h + w + x)) znc_X6_104 (hE _ hn).1 (by rw [(hE _ hn).2.1]; omega) (zit_face_zr w h (Nat.le_refl _) (hE _ hn).2.2) rfl (by show _ + 6 ≤ _; omega) ⟨by dsimp only [zKR, zrN] <;> omega, by dsimp only [zKR, zrN] <;> omega⟩ dX6_newFaces_283 ?_
      refine zy_dup dX6_newFaces_286 rfl ?_
      refine zy_aload_n dX6_newFaces_287 rfl rfl ?_
      refine zy_iload_n dX6_newFaces_288 rfl rfl ?_
      refine zy_iconst 1 dX6_newFaces_289 (by decide) ?_
      refine zy_isub dX6_newFaces_290 ?_
      refine zy_iload_n dX6_newFaces_291 rfl rfl ?_
      refine zy_imul dX6_newFaces_292 ?_
      refine zy_iload dX6_newFaces_293 rfl ?_
      refine zy_iadd dX6_newFaces_295 ?_
      refine zy_iconst (-1) dX6_newFaces_296 (by decide) ?_
      refine zy_aload_n dX6_newFaces_297 rfl rfl ?_
      refine zy_iconst 3 dX6_newFaces_298 (by decide) ?_
      refine zy_aald (o' := some 33) 3 (zO_gr _ hO3.1) (by decide) rfl ⟨by show _ < zln g 3; omega, by show zln g 3 ≤ _; omega⟩ (by rw [zit_face_R w h μ ⟨by decide, by decide⟩]; exact hR3 3 (by decide)) dX6_newFaces_299 ?_
      refine zy_iconst 1 dX6_newFaces_300 (by decide) ?_
      refine zy_callI (kn2 := 400 + 6 * (fc1 w h + 2 * h + w + x) + 6) _ zin_X6_330 (m_X1_init (N := w * h) (o1 := fBef w h (fc1 w h + 2 * h + w + x)) (o2 := fBeh w h (fc1 w h + 2 * h + w + x)) (zO_new (by simp) (hE _ hn).1) ⟨zO_gr _ hO1.1, hO1.2, hwh⟩ (by omega) (Or.inl ⟨(h - 1) * w + x, (by rw [show nI h - 1 = nI (h - 1) from by have := nI_pred (h - 1); rw [show h - 1 + 1 = h by omega] at this; exact this, zI_mul, nI_add]), by omega, by rw [zit_face_R w h μ ⟨by decide, by decide⟩, hR1 _ (by omega), hb]⟩) (Or.inr ⟨by decide, hc⟩)) rfl rfl ⟨rfl, by dsimp only [zrN]; omega, by dsimp only [zKR, zrN]; omega, by dsimp only [zKR, zrN]; omega, (Nat.le_of_ble_eq_true rfl), (Nat.le_of_ble_eq_true rfl)⟩ (Nat.le_of_ble_eq_true rfl) dX6_newFaces_301 ?_
      refine zy_callC _ zs_X6_333 (m_X6_put (F := fcA w h) ⟨by refine zO_new ?_ hA.1; simp, hA.2.1, hn, hF4⟩ (by refine zO_new ?_ (hE _ hn).1; simp)) rfl rfl ⟨rfl, rfl, (Nat.le_of_ble_eq_true rfl), (Nat.le_of_ble_eq_true rfl)⟩ ⟨by dsimp only [zKR, zrN]; omega, by dsimp only [zKR, zrN]; omega⟩ (Nat.le_of_ble_eq_true rfl) dX6_newFaces_304 ?_
      refine zy_istore dX6_newFaces_307 (Nat.le_of_ble_eq_true rfl) ?_
      refine zy_iinc (nI (x + 1)) dX6_newFaces_309 rfl (by exact nI_1 x) (Nat.le_of_ble_eq_true rfl) ?_
      refine zy_goto (tgt := 273) dX6_newFaces_312 (by decide) ?_
      exact zWN_to (zWN_at (zFW_n hn_ (by omega : _ = (fc1 w h + 2 * h + w + x) + 1)) (by simp [zfl, List.append_assoc]) (by first | omega | (dsimp only [zrN]; omega)) (by first | omega | (dsimp only [zrN]; omega)) (by show c_face w h _ _ = _; unfold c_face; rw [hs3, hax])) ⟨rfl, rfl, rfl, rfl, rfl, (by show some (zi (nI _ + 1)) = some (zi (nI _)); rw [nI_1]), rfl, trivial⟩
  have l5 : ∀ x, x ≤ w → zFW g (RX6, cX6_newFaces, 9, ((some (FieldType.array (FieldType.object "CellCurrents$Face")))), zrN 2 (1 + fcA w h) (400 + 6 * fcA w h), some (zr (some 2)), zit (c_face w h) (fcA w h) μ) ([2] ++ zfl (fun k => [2000 + k]) (fcA w h)) hs w h μ (fc1 w h + 2 * h + x) 234 [(6, zi (nI x))] := by
    refine zloop (P := fun x => zFW g (RX6, cX6_newFaces, 9, ((some (FieldType.array (FieldType.object "CellCurrents$Face")))), zrN 2 (1 + fcA w h) (400 + 6 * fcA w h), some (zr (some 2)), zit (c_face w h) (fcA w h) μ) ([2] ++ zfl (fun k => [2000 + k]) (fcA w h)) hs w h μ (fc1 w h + 2 * h + x) 234 [(6, zi (nI x))]) (N := w) ?_ ?_
    · show zWN _ _ _ _ _ _ _ _ _ _ _ _
      refine zy_iload dX6_newFaces_234 rfl ?_
      refine zy_iload_n dX6_newFaces_236 rfl rfl ?_
      refine zy_icmp_ge (tgt := 270) dX6_newFaces_237 (by decide) (fun _ => ?_) (fun h_ => absurd h_ (fun z => z (Int32.le_refl _)))
      refine zy_iconst 0 dX6_newFaces_270 (by decide) ?_
      refine zy_istore dX6_newFaces_271 (Nat.le_of_ble_eq_true rfl) ?_
      exact zWN_to (zFW_n (l6 0 (Nat.zero_le _)) (by omega)) ⟨rfl, rfl, rfl, rfl, rfl, rfl, rfl, trivial⟩
    · intro x hx hn_
      have hn : fc1 w h + 2 * h + x < fcA w h := by omega
      have hb : fBef w h (fc1 w h + 2 * h + x) = none := by unfold fBef; rw [if_neg (by omega), if_neg (by omega), if_neg (by omega), if_neg (by omega), if_pos (by omega)]
      have hc : some (1000 + x) = fBeh w h (fc1 w h + 2 * h + x) := by unfold fBeh; rw [if_neg (by omega), if_neg (by omega), if_neg (by omega), if_neg (by omega), if_pos (by omega), show fc1 w h + 2 * h + x - fc1 w h - 2 * h = x by omega]
      have hs3 : fSid w h (fc1 w h + 2 * h + x) = some 32 := by unfold fSid; rw [if_neg (by omega), if_neg (by omega), if_neg (by omega), if_pos (by omega)]
      have hax : fAxi w h (fc1 w h + 2 * h + x) = 1 := by unfold fAxi; rw [if_neg (by omega), if_neg (by omega), if_neg (by omega)]
      show zWN _ _ _ _ _ _ _ _ _ _ _ _
      refine zy_iload dX6_newFaces_234 rfl ?_
      refine zy_iload_n dX6_newFaces_236 rfl rfl ?_
      refine zy_icmp_ge (tgt := 270) dX6_newFaces_237 (by decide) (fun h_ => absurd h_ (fun z => absurd z (Int32.not_le.mpr (nI_lt (by omega : x < w) (by omega))))) (fun _ => ?_)
      refine zy_aload dX6_newFaces_240 rfl ?_
      refine zy_iload dX6_newFaces_242 rfl ?_
      refine zy_new (kn2 := 400 + 6 * (fc1 w h + 2 * h + x) + 6) (2000 + (fc1 w h + 2 * h + x)) znc_X6_104 (hE _ hn).1 (by rw [(hE _ hn).2.1]; omega) (zit_face_zr w h (Nat.le_refl _) (hE _ hn).2.2) rfl (by show _ + 6 ≤ _; omega) ⟨by dsimp only [zKR, zrN] <;> omega, by dsimp only [zKR, zrN] <;> omega⟩ dX6_newFaces_244 ?_
      refine zy_dup dX6_newFaces_247 rfl ?_
      refine zy_aload_n dX6_newFaces_248 rfl rfl ?_
      refine zy_iconst (-1) dX6_newFaces_249 (by decide) ?_
      refine zy_iload dX6_newFaces_250 rfl ?_
      refine zy_aload_n dX6_newFaces_252 rfl rfl ?_
      refine zy_iconst 2 dX6_newFaces_253 (by decide) ?_
      refine zy_aald (o' := some 32) 2 (zO_gr _ hO3.1) (by decide) rfl ⟨by show _ < zln g 3; omega, by show zln g 3 ≤ _; omega⟩ (by rw [zit_face_R w h μ ⟨by decide, by decide⟩]; exact hR3 2 (by decide)) dX6_newFaces_254 ?_
      refine zy_iconst 1 dX6_newFaces_255 (by decide) ?_
      refine zy_callI (kn2 := 400 + 6 * (fc1 w h + 2 * h + x) + 6) _ zin_X6_330 (m_X1_init (N := w * h) (o1 := fBef w h (fc1 w h + 2 * h + x)) (o2 := fBeh w h (fc1 w h + 2 * h + x)) (zO_new (by simp) (hE _ hn).1) ⟨zO_gr _ hO1.1, hO1.2, hwh⟩ (by omega) (Or.inr ⟨by decide, hb⟩) (Or.inl ⟨x, rfl, (by have := Nat.le_mul_of_pos_right w (show 0 < h by omega); omega), by rw [zit_face_R w h μ ⟨by decide, by decide⟩, hR1 _ ((by have := Nat.le_mul_of_pos_right w (show 0 < h by omega); omega)), hc]⟩)) rfl rfl ⟨rfl, by dsimp only [zrN]; omega, by dsimp only [zKR, zrN]; omega, by dsimp only [zKR, zrN]; omega, (Nat.le_of_ble_eq_true rfl), (Nat.le_of_ble_eq_true rfl)⟩ (Nat.le_of_ble_eq_true rfl) dX6_newFaces_256 ?_
      refine zy_callC _ zs_X6_333 (m_X6_put (F := fcA w h) ⟨by refine zO_new ?_ hA.1; simp, hA.2.1, hn, hF4⟩ (by refine zO_new ?_ (hE _ hn).1; simp)) rfl rfl ⟨rfl, rfl, (Nat.le_of_ble_eq_true rfl), (Nat.le_of_ble_eq_true rfl)⟩ ⟨by dsimp only [zKR, zrN]; omega, by dsimp only [zKR, zrN]; omega⟩ (Nat.le_of_ble_eq_true rfl) dX6_newFaces_259 ?_
      refine zy_istore dX6_newFaces_262 (Nat.le_of_ble_eq_true rfl) ?_
      refine zy_iinc (nI (x + 1)) dX6_newFaces_264 rfl (by exact nI_1 x) (Nat.le_of_ble_eq_true rfl) ?_
      refine zy_goto (tgt := 234) dX6_newFaces_267 (by decide) ?_
      exact zWN_to (zWN_at (zFW_n hn_ (by omega : _ = (fc1 w h + 2 * h + x) + 1)) (by simp [zfl, List.append_assoc]) (by first | omega | (dsimp only [zrN]; omega)) (by first | omega | (dsimp only [zrN]; omega)) (by show c_face w h _ _ = _; unfold c_face; rw [hs3, hax])) ⟨rfl, rfl, rfl, rfl, rfl, (by show some (zi (nI _ + 1)) = some (zi (nI _)); rw [nI_1]), rfl, trivial⟩
  have l4 : ∀ x, x ≤ h → zFW g (RX6, cX6_newFaces, 9, ((some (FieldType.array (FieldType.object "CellCurrents$Face")))), zrN 2 (1 + fcA w h) (400 + 6 * fcA w h), some (zr (some 2)), zit (c_face w h) (fcA w h) μ) ([2] ++ zfl (fun k => [2000 + k]) (fcA w h)) hs w h μ (fc1 w h + h + x) 189 [(6, zi (nI x))] := by
    refine zloop (P := fun x => zFW g (RX6, cX6_newFaces, 9, ((some (FieldType.array (FieldType.object "CellCurrents$Face")))), zrN 2 (1 + fcA w h) (400 + 6 * fcA w h), some (zr (some 2)), zit (c_face w h) (fcA w h) μ) ([2] ++ zfl (fun k => [2000 + k]) (fcA w h)) hs w h μ (fc1 w h + h + x) 189 [(6, zi (nI x))]) (N := h) ?_ ?_
    · show zWN _ _ _ _ _ _ _ _ _ _ _ _
      refine zy_iload dX6_newFaces_189 rfl ?_
      refine zy_iload_n dX6_newFaces_191 rfl rfl ?_
      refine zy_icmp_ge (tgt := 231) dX6_newFaces_192 (by decide) (fun _ => ?_) (fun h_ => absurd h_ (fun z => z (Int32.le_refl _)))
      refine zy_iconst 0 dX6_newFaces_231 (by decide) ?_
      refine zy_istore dX6_newFaces_232 (Nat.le_of_ble_eq_true rfl) ?_
      exact zWN_to (zFW_n (l5 0 (Nat.zero_le _)) (by omega)) ⟨rfl, rfl, rfl, rfl, rfl, rfl, rfl, trivial⟩
    · intro x hx hn_
      have hn : fc1 w h + h + x < fcA w h := by omega
      have hyw : x * w + w ≤ w * h := by have := Nat.mul_le_mul_left w (show x + 1 ≤ h by omega); rw [Nat.mul_comm x w]; rw [Nat.mul_succ] at this; exact this
      have hb : some (1000 + (x * w + w - 1)) = fBef w h (fc1 w h + h + x) := by unfold fBef; rw [if_neg (by omega), if_neg (by omega), if_neg (by omega), if_pos (by omega), show fc1 w h + h + x - fc1 w h - h = x by omega]
      have hc : fBeh w h (fc1 w h + h + x) = none := by unfold fBeh; rw [if_neg (by omega), if_neg (by omega), if_neg (by omega), if_pos (by omega)]
      have hs3 : fSid w h (fc1 w h + h + x) = some 31 := by unfold fSid; rw [if_neg (by omega), if_neg (by omega), if_pos (by omega)]
      have hax : fAxi w h (fc1 w h + h + x) = 0 := by unfold fAxi; rw [if_neg (by omega), if_neg (by omega), if_pos (by omega)]
      show zWN _ _ _ _ _ _ _ _ _ _ _ _
      refine zy_iload dX6_newFaces_189 rfl ?_
      refine zy_iload_n dX6_newFaces_191 rfl rfl ?_
      refine zy_icmp_ge (tgt := 231) dX6_newFaces_192 (by decide) (fun h_ => absurd h_ (fun z => absurd z (Int32.not_le.mpr (nI_lt (by omega : x < h) (by omega))))) (fun _ => ?_)
      refine zy_aload dX6_newFaces_195 rfl ?_
      refine zy_iload dX6_newFaces_197 rfl ?_
      refine zy_new (kn2 := 400 + 6 * (fc1 w h + h + x) + 6) (2000 + (fc1 w h + h + x)) znc_X6_104 (hE _ hn).1 (by rw [(hE _ hn).2.1]; omega) (zit_face_zr w h (Nat.le_refl _) (hE _ hn).2.2) rfl (by show _ + 6 ≤ _; omega) ⟨by dsimp only [zKR, zrN] <;> omega, by dsimp only [zKR, zrN] <;> omega⟩ dX6_newFaces_199 ?_
      refine zy_dup dX6_newFaces_202 rfl ?_
      refine zy_aload_n dX6_newFaces_203 rfl rfl ?_
      refine zy_iload dX6_newFaces_204 rfl ?_
      refine zy_iload_n dX6_newFaces_206 rfl rfl ?_
      refine zy_imul dX6_newFaces_207 ?_
      refine zy_iload_n dX6_newFaces_208 rfl rfl ?_
      refine zy_iadd dX6_newFaces_209 ?_
      refine zy_iconst 1 dX6_newFaces_210 (by decide) ?_
      refine zy_isub dX6_newFaces_211 ?_
      refine zy_iconst (-1) dX6_newFaces_212 (by decide) ?_
      refine zy_aload_n dX6_newFaces_213 rfl rfl ?_
      refine zy_iconst 1 dX6_newFaces_214 (by decide) ?_
      refine zy_aald (o' := some 31) 1 (zO_gr _ hO3.1) (by decide) rfl ⟨by show _ < zln g 3; omega, by show zln g 3 ≤ _; omega⟩ (by rw [zit_face_R w h μ ⟨by decide, by decide⟩]; exact hR3 1 (by decide)) dX6_newFaces_215 ?_
      refine zy_iconst 0 dX6_newFaces_216 (by decide) ?_
      refine zy_callI (kn2 := 400 + 6 * (fc1 w h + h + x) + 6) _ zin_X6_330 (m_X1_init (N := w * h) (o1 := fBef w h (fc1 w h + h + x)) (o2 := fBeh w h (fc1 w h + h + x)) (zO_new (by simp) (hE _ hn).1) ⟨zO_gr _ hO1.1, hO1.2, hwh⟩ (by omega) (Or.inl ⟨x * w + w - 1, (by rw [zI_mul, nI_add]; have := nI_pred (x * w + w - 1); rw [show x * w + w - 1 + 1 = x * w + w by omega] at this; exact this), by omega, by rw [zit_face_R w h μ ⟨by decide, by decide⟩, hR1 _ (by omega), hb]⟩) (Or.inr ⟨by decide, hc⟩)) rfl rfl ⟨rfl, by dsimp only [zrN]; omega, by dsimp only [zKR, zrN]; omega, by dsimp only [zKR, zrN]; omega, (Nat.le_of_ble_eq_true rfl), (Nat.le_of_ble_eq_true rfl)⟩ (Nat.le_of_ble_eq_true rfl) dX6_newFaces_217 ?_
      refine zy_callC _ zs_X6_333 (m_X6_put (F := fcA w h) ⟨by refine zO_new ?_ hA.1; simp, hA.2.1, hn, hF4⟩ (by refine zO_new ?_ (hE _ hn).1; simp)) rfl rfl ⟨rfl, rfl, (Nat.le_of_ble_eq_true rfl), (Nat.le_of_ble_eq_true rfl)⟩ ⟨by dsimp only [zKR, zrN]; omega, by dsimp only [zKR, zrN]; omega⟩ (Nat.le_of_ble_eq_true rfl) dX6_newFaces_220 ?_
      refine zy_istore dX6_newFaces_223 (Nat.le_of_ble_eq_true rfl) ?_
      refine zy_iinc (nI (x + 1)) dX6_newFaces_225 rfl (by exact nI_1 x) (Nat.le_of_ble_eq_true rfl) ?_
      refine zy_goto (tgt := 189) dX6_newFaces_228 (by decide) ?_
      exact zWN_to (zWN_at (zFW_n hn_ (by omega : _ = (fc1 w h + h + x) + 1)) (by simp [zfl, List.append_assoc]) (by first | omega | (dsimp only [zrN]; omega)) (by first | omega | (dsimp only [zrN]; omega)) (by show c_face w h _ _ = _; unfold c_face; rw [hs3, hax])) ⟨rfl, rfl, rfl, rfl, rfl, (by show some (zi (nI _ + 1)) = some (zi (nI _)); rw [nI_1]), rfl, trivial⟩
  have l3 : ∀ x, x ≤ h → zFW g (RX6, cX6_newFaces, 9, ((some (FieldType.array (FieldType.object "CellCurrents$Face")))), zrN 2 (1 + fcA w h) (400 + 6 * fcA w h), some (zr (some 2)), zit (c_face w h) (fcA w h) μ) ([2] ++ zfl (fun k => [2000 + k]) (fcA w h)) hs w h μ (fc1 w h + x) 148 [(6, zi (nI x))] := by
    refine zloop (P := fun x => zFW g (RX6, cX6_newFaces, 9, ((some (FieldType.array (FieldType.object "CellCurrents$Face")))), zrN 2 (1 + fcA w h) (400 + 6 * fcA w h), some (zr (some 2)), zit (c_face w h) (fcA w h) μ) ([2] ++ zfl (fun k => [2000 + k]) (fcA w h)) hs w h μ (fc1 w h + x) 148 [(6, zi (nI x))]) (N := h) ?_ ?_
    · show zWN _ _ _ _ _ _ _ _ _ _ _ _
      refine zy_iload dX6_newFaces_148 rfl ?_
      refine zy_iload_n dX6_newFaces_150 rfl rfl ?_
      refine zy_icmp_ge (tgt := 186) dX6_newFaces_151 (by decide) (fun _ => ?_) (fun h_ => absurd h_ (fun z => z (Int32.le_refl _)))
      refine zy_iconst 0 dX6_newFaces_186 (by decide) ?_
      refine zy_istore dX6_newFaces_187 (Nat.le_of_ble_eq_true rfl) ?_
      exact zWN_to (zFW_n (l4 0 (Nat.zero_le _)) (by omega)) ⟨rfl, rfl, rfl, rfl, rfl, rfl, rfl, trivial⟩
    · intro x hx hn_
      have hn : fc1 w h + x < fcA w h := by omega
      have hyw : x * w + w ≤ w * h := by have := Nat.mul_le_mul_left w (show x + 1 ≤ h by omega); rw [Nat.mul_comm x w]; rw [Nat.mul_succ] at this; exact this
      have hb : fBef w h (fc1 w h + x) = none := by unfold fBef; rw [if_neg (by omega), if_neg (by omega), if_pos (by omega)]
      have hc : some (1000 + x * w) = fBeh w h (fc1 w h + x) := by unfold fBeh; rw [if_neg (by omega), if_neg (by omega), if_pos (by omega), show fc1 w h + x - fc1 w h = x by omega]
      have hs3 : fSid w h (fc1 w h + x) = some 30 := by unfold fSid; rw [if_neg (by omega), if_pos (by omega)]
      have hax : fAxi w h (fc1 w h + x) = 0 := by unfold fAxi; rw [if_neg (by omega), if_neg (by omega), if_pos (by omega)]
      show zWN _ _ _ _ _ _ _ _ _ _ _ _
      refine zy_iload dX6_newFaces_148 rfl ?_
      refine zy_iload_n dX6_newFaces_150 rfl rfl ?_
      refine zy_icmp_ge (tgt := 186) dX6_newFaces_151 (by decide) (fun h_ => absurd h_ (fun z => absurd z (Int32.not_le.mpr (nI_lt (by omega : x < h) (by omega))))) (fun _ => ?_)
      refine zy_aload dX6_newFaces_154 rfl ?_
      refine zy_iload dX6_newFaces_156 rfl ?_
      refine zy_new (kn2 := 400 + 6 * (fc1 w h + x) + 6) (2000 + (fc1 w h + x)) znc_X6_104 (hE _ hn).1 (by rw [(hE _ hn).2.1]; omega) (zit_face_zr w h (Nat.le_refl _) (hE _ hn).2.2) rfl (by show _ + 6 ≤ _; omega) ⟨by dsimp only [zKR, zrN] <;> omega, by dsimp only [zKR, zrN] <;> omega⟩ dX6_newFaces_158 ?_
      refine zy_dup dX6_newFaces_161 rfl ?_
      refine zy_aload_n dX6_newFaces_162 rfl rfl ?_
      refine zy_iconst (-1) dX6_newFaces_163 (by decide) ?_
      refine zy_iload dX6_newFaces_164 rfl ?_
      refine zy_iload_n dX6_newFaces_166 rfl rfl ?_
      refine zy_imul dX6_newFaces_167 ?_
      refine zy_aload_n dX6_newFaces_168 rfl rfl ?_
      refine zy_iconst 0 dX6_newFaces_169 (by decide) ?_
      refine zy_aald (o' := some 30) 0 (zO_gr _ hO3.1) (by decide) rfl ⟨by show _ < zln g 3; omega, by show zln g 3 ≤ _; omega⟩ (by rw [zit_face_R w h μ ⟨by decide, by decide⟩]; exact hR3 0 (by decide)) dX6_newFaces_170 ?_
      refine zy_iconst 0 dX6_newFaces_171 (by decide) ?_
      refine zy_callI (kn2 := 400 + 6 * (fc1 w h + x) + 6) _ zin_X6_330 (m_X1_init (N := w * h) (o1 := fBef w h (fc1 w h + x)) (o2 := fBeh w h (fc1 w h + x)) (zO_new (by simp) (hE _ hn).1) ⟨zO_gr _ hO1.1, hO1.2, hwh⟩ (by omega) (Or.inr ⟨by decide, hb⟩) (Or.inl ⟨x * w, (by rw [zI_mul]), by omega, by rw [zit_face_R w h μ ⟨by decide, by decide⟩, hR1 _ (by omega), hc]⟩)) rfl rfl ⟨rfl, by dsimp only [zrN]; omega, by dsimp only [zKR, zrN]; omega, by dsimp only [zKR, zrN]; omega, (Nat.le_of_ble_eq_true rfl), (Nat.le_of_ble_eq_true rfl)⟩ (Nat.le_of_ble_eq_true rfl) dX6_newFaces_172 ?_
      refine zy_callC _ zs_X6_333 (m_X6_put (F := fcA w h) ⟨by refine zO_new ?_ hA.1; simp, hA.2.1, hn, hF4⟩ (by refine zO_new ?_ (hE _ hn).1; simp)) rfl rfl ⟨rfl, rfl, (Nat.le_of_ble_eq_true rfl), (Nat.le_of_ble_eq_true rfl)⟩ ⟨by dsimp only [zKR, zrN]; omega, by dsimp only [zKR, zrN]; omega⟩ (Nat.le_of_ble_eq_true rfl) dX6_newFaces_175 ?_
      refine zy_istore dX6_newFaces_178 (Nat.le_of_ble_eq_true rfl) ?_
      refine zy_iinc (nI (x + 1)) dX6_newFaces_180 rfl (by exact nI_1 x) (Nat.le_of_ble_eq_true rfl) ?_
      refine zy_goto (tgt := 148) dX6_newFaces_183 (by decide) ?_
      exact zWN_to (zWN_at (zFW_n hn_ (by omega : _ = (fc1 w h + x) + 1)) (by simp [zfl, List.append_assoc]) (by first | omega | (dsimp only [zrN]; omega)) (by first | omega | (dsimp only [zrN]; omega)) (by show c_face w h _ _ = _; unfold c_face; rw [hs3, hax])) ⟨rfl, rfl, rfl, rfl, rfl, (by show some (zi (nI _ + 1)) = some (zi (nI _)); rw [nI_1]), rfl, trivial⟩
  have l2 : ∀ y, y ≤ (h - 1) → zFW g (RX6, cX6_newFaces, 9, ((some (FieldType.array (FieldType.object "CellCurrents$Face")))), zrN 2 (1 + fcA w h) (400 + 6 * fcA w h), some (zr (some 2)), zit (c_face w h) (fcA w h) μ) ([2] ++ zfl (fun k => [2000 + k]) (fcA w h)) hs w h μ (fc0 w h + y * w) 82 [(6, zi (nI y))] := by
    refine zloop (P := fun y => zFW g (RX6, cX6_newFaces, 9, ((some (FieldType.array (FieldType.object "CellCurrents$Face")))), zrN 2 (1 + fcA w h) (400 + 6 * fcA w h), some (zr (some 2)), zit (c_face w h) (fcA w h) μ) ([2] ++ zfl (fun k => [2000 + k]) (fcA w h)) hs w h μ (fc0 w h + y * w) 82 [(6, zi (nI y))]) (N := (h - 1)) ?_ ?_
    · show zWN _ _ _ _ _ _ _ _ _ _ _ _
      refine zy_iload dX6_newFaces_82 rfl ?_
      refine zy_iconst 1 dX6_newFaces_84 (by decide) ?_
      refine zy_iadd dX6_newFaces_85 ?_
      refine zy_iload_n dX6_newFaces_86 rfl rfl ?_
      refine zy_icmp_ge (tgt := 145) dX6_newFaces_87 (by decide) (fun _ => ?_) (fun h_ => absurd h_ (fun z => z (by rw [nI_1, show h - 1 + 1 = h by omega]; exact Int32.le_refl _)))
      refine zy_iconst 0 dX6_newFaces_145 (by decide) ?_
      refine zy_istore dX6_newFaces_146 (Nat.le_of_ble_eq_true rfl) ?_
      exact zWN_to (zFW_n (l3 0 (Nat.zero_le _)) (by rw [e1, e0, Nat.mul_comm w (h - 1)] <;> omega)) ⟨rfl, rfl, rfl, rfl, rfl, rfl, rfl, trivial⟩
    · intro y hy hm_
      have hyb : y * w + w ≤ (h - 1) * w := by have := Nat.mul_le_mul_right (w) (show y + 1 ≤ (h - 1) by omega); rw [Nat.succ_mul] at this; exact this
      have inner : ∀ x, x ≤ w → zFW g (RX6, cX6_newFaces, 9, ((some (FieldType.array (FieldType.object "CellCurrents$Face")))), zrN 2 (1 + fcA w h) (400 + 6 * fcA w h), some (zr (some 2)), zit (c_face w h) (fcA w h) μ) ([2] ++ zfl (fun k => [2000 + k]) (fcA w h)) hs w h μ (fc0 w h + y * w + x) 93 [(6, zi (nI y)), (7, zi (nI x))] := by
        refine zloop (P := fun x => zFW g (RX6, cX6_newFaces, 9, ((some (FieldType.array (FieldType.object "CellCurrents$Face")))), zrN 2 (1 + fcA w h) (400 + 6 * fcA w h), some (zr (some 2)), zit (c_face w h) (fcA w h) μ) ([2] ++ zfl (fun k => [2000 + k]) (fcA w h)) hs w h μ (fc0 w h + y * w + x) 93 [(6, zi (nI y)), (7, zi (nI x))]) (N := w) ?_ ?_
        · show zWN _ _ _ _ _ _ _ _ _ _ _ _
          refine zy_iload dX6_newFaces_93 rfl ?_
          refine zy_iload_n dX6_newFaces_95 rfl rfl ?_
          refine zy_icmp_ge (tgt := 139) dX6_newFaces_96 (by decide) (fun _ => ?_) (fun h_ => absurd h_ (fun z => z (Int32.le_refl _)))
          refine zy_iinc (nI (y + 1)) dX6_newFaces_139 rfl (by exact nI_1 y) (Nat.le_of_ble_eq_true rfl) ?_
          refine zy_goto (tgt := 82) dX6_newFaces_142 (by decide) ?_
          exact zWN_to (zFW_n hm_ (by rw [Nat.succ_mul]; omega)) ⟨rfl, rfl, rfl, rfl, rfl, rfl, rfl, trivial⟩
        · intro x hx hn_
          have hn : fc0 w h + y * w + x < fcA w h := by omega
          have hyw : y * w + w ≤ w * h := by have := Nat.mul_le_mul_left w (show y + 1 ≤ h by omega); rw [Nat.mul_comm y w]; rw [Nat.mul_succ] at this; exact this
          have hyw2 : y * w + w + w ≤ w * h := by have := Nat.mul_le_mul_left w (show y + 1 + 1 ≤ h by omega); rw [Nat.mul_comm y w]; rw [Nat.mul_succ, Nat.mul_succ] at this; exact this
          have hb : some (1000 + (y * w + x)) = fBef w h (fc0 w h + y * w + x) := by unfold fBef; rw [if_neg (by omega), if_pos (by omega), show fc0 w h + y * w + x - fc0 w h = y * w + x by omega]
          have hc : some (1000 + (y * w + x + w)) = fBeh w h (fc0 w h + y * w + x) := by unfold fBeh; rw [if_neg (by omega), if_pos (by omega), show fc0 w h + y * w + x - fc0 w h = y * w + x by omega]
          have hs3 : fSid w h (fc0 w h + y * w + x) = none := by unfold fSid; rw [if_pos (by omega)]
          have hax : fAxi w h (fc0 w h + y * w + x) = 1 := by unfold fAxi; rw [if_neg (by omega), if_pos (by omega)]
          show zWN _ _ _ _ _ _ _ _ _ _ _ _
          refine zy_iload dX6_newFaces_93 rfl ?_
          refine zy_iload_n dX6_newFaces_95 rfl rfl ?_
          refine zy_icmp_ge (tgt := 139) dX6_newFaces_96 (by decide) (fun h_ => absurd h_ (fun z => absurd z (Int32.not_le.mpr (nI_lt (by omega : x < w) (by omega))))) (fun _ => ?_)
          refine zy_iload dX6_newFaces_99 rfl ?_
          refine zy_iload_n dX6_newFaces_101 rfl rfl ?_
          refine zy_imul dX6_newFaces_102 ?_
          refine zy_iload dX6_newFaces_103 rfl ?_
          refine zy_iadd dX6_newFaces_105 ?_
          refine zy_istore dX6_newFaces_106 (Nat.le_of_ble_eq_true rfl) ?_
          refine zy_aload dX6_newFaces_108 rfl ?_
          refine zy_iload dX6_newFaces_110 rfl ?_
          refine zy_new (kn2 := 400 + 6 * (fc0 w h + y * w + x) + 6) (2000 + (fc0 w h + y * w + x)) znc_X6_104 (hE _ hn).1 (by rw [(hE _ hn).2.1]; omega) (zit_face_zr w h (Nat.le_refl _) (hE _ hn).2.2) rfl (by show _ + 6 ≤ _; omega) ⟨by dsimp only [zKR, zrN] <;> omega, by dsimp only [zKR, zrN] <;> omega⟩ dX6_newFaces_112 ?_
          refine zy_dup dX6_newFaces_115 rfl ?_
          refine zy_aload_n dX6_newFaces_116 rfl rfl ?_
          refine zy_iload dX6_newFaces_117 rfl ?_
          refine zy_iload dX6_newFaces_119 rfl ?_
          refine zy_iload_n dX6_newFaces_121 rfl rfl ?_
          refine zy_iadd dX6_newFaces_122 ?_
          refine zy_null dX6_newFaces_123 ?_
          refine zy_iconst 1 dX6_newFaces_124 (by decide) ?_
          refine zy_callI (kn2 := 400 + 6 * (fc0 w h + y * w + x) + 6) _ zin_X6_330 (m_X1_init (N := w * h) (o1 := fBef w h (fc0 w h + y * w + x)) (o2 := fBeh w h (fc0 w h + y * w + x)) (zO_new (by simp) (hE _ hn).1) ⟨zO_gr _ hO1.1, hO1.2, hwh⟩ (by omega) (Or.inl ⟨y * w + x, (by rw [zI_mul, nI_add]), by omega, by rw [zit_face_R w h μ ⟨by decide, by decide⟩, hR1 _ (by omega), hb]⟩) (Or.inl ⟨y * w + x + w, (by rw [zI_mul, nI_add, nI_add]), by omega, by rw [zit_face_R w h μ ⟨by decide, by decide⟩, hR1 _ (by omega), hc]⟩)) rfl rfl ⟨rfl, by dsimp only [zrN]; omega, by dsimp only [zKR, zrN]; omega, by dsimp only [zKR, zrN]; omega, (Nat.le_of_ble_eq_true rfl), (Nat.le_of_ble_eq_true rfl)⟩ (Nat.le_of_ble_eq_true rfl) dX6_newFaces_125 ?_
          refine zy_callC _ zs_X6_333 (m_X6_put (F := fcA w h) ⟨by refine zO_new ?_ hA.1; simp, hA.2.1, hn, hF4⟩ (by refine zO_new ?_ (hE _ hn).1; simp)) rfl rfl ⟨rfl, rfl, (Nat.le_of_ble_eq_true rfl), (Nat.le_of_ble_eq_true rfl)⟩ ⟨by dsimp only [zKR, zrN]; omega, by dsimp only [zKR, zrN]; omega⟩ (Nat.le_of_ble_eq_true rfl) dX6_newFaces_128 ?_
          refine zy_istore dX6_newFaces_131 (Nat.le_of_ble_eq_true rfl) ?_
          refine zy_iinc (nI (x + 1)) dX6_newFaces_133 rfl (by exact nI_1 x) (Nat.le_of_ble_eq_true rfl) ?_
          refine zy_goto (tgt := 93) dX6_newFaces_136 (by decide) ?_
          exact zWN_to (zWN_at (zFW_n hn_ (by omega : _ = (fc0 w h + y * w + x) + 1)) (by simp [zfl, List.append_assoc]) (by first | omega | (dsimp only [zrN]; omega)) (by first | omega | (dsimp only [zrN]; omega)) (by show c_face w h _ _ = _; unfold c_face; rw [hs3, hax])) ⟨rfl, rfl, rfl, rfl, rfl, (by show some (zi (nI _ + 1)) = some (zi (nI _)); rw [nI_1]), rfl, rfl, trivial⟩
      show zWN _ _ _ _ _ _ _ _ _ _ _ _
      refine zy_iload dX6_newFaces_82 rfl ?_
      refine zy_iconst 1 dX6_newFaces_84 (by decide) ?_
      refine zy_iadd dX6_newFaces_85 ?_
      refine zy_iload_n dX6_newFaces_86 rfl rfl ?_
      refine zy_icmp_ge (tgt := 145) dX6_newFaces_87 (by decide) (fun h_ => absurd h_ (fun z => absurd z (by rw [nI_1]; exact Int32.not_le.mpr (nI_lt (by omega) (by omega))))) (fun _ => ?_)
      refine zy_iconst 0 dX6_newFaces_90 (by decide) ?_
      refine zy_istore dX6_newFaces_91 (Nat.le_of_ble_eq_true rfl) ?_
      exact zWN_to (zFW_n (inner 0 (Nat.zero_le _)) (by omega)) ⟨rfl, rfl, rfl, rfl, rfl, rfl, rfl, rfl, trivial⟩
  have l1 : ∀ y, y ≤ h → zFW g (RX6, cX6_newFaces, 9, ((some (FieldType.array (FieldType.object "CellCurrents$Face")))), zrN 2 (1 + fcA w h) (400 + 6 * fcA w h), some (zr (some 2)), zit (c_face w h) (fcA w h) μ) ([2] ++ zfl (fun k => [2000 + k]) (fcA w h)) hs w h μ (0 + y * (w - 1)) 16 [(6, zi (nI y))] := by
    refine zloop (P := fun y => zFW g (RX6, cX6_newFaces, 9, ((some (FieldType.array (FieldType.object "CellCurrents$Face")))), zrN 2 (1 + fcA w h) (400 + 6 * fcA w h), some (zr (some 2)), zit (c_face w h) (fcA w h) μ) ([2] ++ zfl (fun k => [2000 + k]) (fcA w h)) hs w h μ (0 + y * (w - 1)) 16 [(6, zi (nI y))]) (N := h) ?_ ?_
    · show zWN _ _ _ _ _ _ _ _ _ _ _ _
      refine zy_iload dX6_newFaces_16 rfl ?_
      refine zy_iload_n dX6_newFaces_18 rfl rfl ?_
      refine zy_icmp_ge (tgt := 79) dX6_newFaces_19 (by decide) (fun _ => ?_) (fun h_ => absurd h_ (fun z => z (Int32.le_refl _)))
      refine zy_iconst 0 dX6_newFaces_79 (by decide) ?_
      refine zy_istore dX6_newFaces_80 (Nat.le_of_ble_eq_true rfl) ?_
      exact zWN_to (zFW_n (l2 0 (Nat.zero_le _)) (by rw [e0, Nat.mul_comm (w - 1) h] <;> omega)) ⟨rfl, rfl, rfl, rfl, rfl, rfl, rfl, trivial⟩
    · intro y hy hm_
      have hyb : y * (w - 1) + (w - 1) ≤ h * (w - 1) := by have := Nat.mul_le_mul_right ((w - 1)) (show y + 1 ≤ h by omega); rw [Nat.succ_mul] at this; exact this
      have inner : ∀ x, x ≤ (w - 1) → zFW g (RX6, cX6_newFaces, 9, ((some (FieldType.array (FieldType.object "CellCurrents$Face")))), zrN 2 (1 + fcA w h) (400 + 6 * fcA w h), some (zr (some 2)), zit (c_face w h) (fcA w h) μ) ([2] ++ zfl (fun k => [2000 + k]) (fcA w h)) hs w h μ (0 + y * (w - 1) + x) 25 [(6, zi (nI y)), (7, zi (nI x))] := by
        refine zloop (P := fun x => zFW g (RX6, cX6_newFaces, 9, ((some (FieldType.array (FieldType.object "CellCurrents$Face")))), zrN 2 (1 + fcA w h) (400 + 6 * fcA w h), some (zr (some 2)), zit (c_face w h) (fcA w h) μ) ([2] ++ zfl (fun k => [2000 + k]) (fcA w h)) hs w h μ (0 + y * (w - 1) + x) 25 [(6, zi (nI y)), (7, zi (nI x))]) (N := (w - 1)) ?_ ?_
        · show zWN _ _ _ _ _ _ _ _ _ _ _ _
          refine zy_iload dX6_newFaces_25 rfl ?_
          refine zy_iconst 1 dX6_newFaces_27 (by decide) ?_
          refine zy_iadd dX6_newFaces_28 ?_
          refine zy_iload_n dX6_newFaces_29 rfl rfl ?_
          refine zy_icmp_ge (tgt := 73) dX6_newFaces_30 (by decide) (fun _ => ?_) (fun h_ => absurd h_ (fun z => z (by rw [nI_1, show w - 1 + 1 = w by omega]; exact Int32.le_refl _)))
          refine zy_iinc (nI (y + 1)) dX6_newFaces_73 rfl (by exact nI_1 y) (Nat.le_of_ble_eq_true rfl) ?_
          refine zy_goto (tgt := 16) dX6_newFaces_76 (by decide) ?_
          exact zWN_to (zFW_n hm_ (by rw [Nat.succ_mul]; omega)) ⟨rfl, rfl, rfl, rfl, rfl, rfl, rfl, trivial⟩
        · intro x hx hn_
          have hn : 0 + y * (w - 1) + x < fcA w h := by omega
          have hyw : y * w + w ≤ w * h := by have := Nat.mul_le_mul_left w (show y + 1 ≤ h by omega); rw [Nat.mul_comm y w]; rw [Nat.mul_succ] at this; exact this
          have hdv : (0 + y * (w - 1) + x) / (w - 1) = y ∧ (0 + y * (w - 1) + x) % (w - 1) = x := by rw [Nat.zero_add, Nat.mul_comm y (w - 1)]; exact ⟨by rw [Nat.mul_add_div (by omega), Nat.div_eq_of_lt hx, Nat.add_zero], by rw [Nat.mul_add_mod, Nat.mod_eq_of_lt hx]⟩
          have hyc : h * (w - 1) = (w - 1) * h := Nat.mul_comm _ _
          have hb : some (1000 + (y * w + x)) = fBef w h (0 + y * (w - 1) + x) := by unfold fBef; rw [if_pos (by omega), hdv.1, hdv.2]
          have hc : some (1000 + (y * w + x + 1)) = fBeh w h (0 + y * (w - 1) + x) := by unfold fBeh; rw [if_pos (by omega), hdv.1, hdv.2] <;> rfl
          have hs3 : fSid w h (0 + y * (w - 1) + x) = none := by unfold fSid; rw [if_pos (by omega)]
          have hax : fAxi w h (0 + y * (w - 1) + x) = 0 := by unfold fAxi; rw [if_pos (by omega)]
          show zWN _ _ _ _ _ _ _ _ _ _ _ _
          refine zy_iload dX6_newFaces_25 rfl ?_
          refine zy_iconst 1 dX6_newFaces_27 (by decide) ?_
          refine zy_iadd dX6_newFaces_28 ?_
          refine zy_iload_n dX6_newFaces_29 rfl rfl ?_
          refine zy_icmp_ge (tgt := 73) dX6_newFaces_30 (by decide) (fun h_ => absurd h_ (fun z => absurd z (by rw [nI_1]; exact Int32.not_le.mpr (nI_lt (by omega) (by omega))))) (fun _ => ?_)
          refine zy_iload dX6_newFaces_33 rfl ?_
          refine zy_iload_n dX6_newFaces_35 rfl rfl ?_
          refine zy_imul dX6_newFaces_36 ?_
          refine zy_iload dX6_newFaces_37 rfl ?_
          refine zy_iadd dX6_newFaces_39 ?_
          refine zy_istore dX6_newFaces_40 (Nat.le_of_ble_eq_true rfl) ?_
          refine zy_aload dX6_newFaces_42 rfl ?_
          refine zy_iload dX6_newFaces_44 rfl ?_
          refine zy_new (kn2 := 400 + 6 * (0 + y * (w - 1) + x) + 6) (2000 + (0 + y * (w - 1) + x)) znc_X6_104 (hE _ hn).1 (by rw [(hE _ hn).2.1]; omega) (zit_face_zr w h (Nat.le_refl _) (hE _ hn).2.2) rfl (by show _ + 6 ≤ _; omega) ⟨by dsimp only [zKR, zrN] <;> omega, by dsimp only [zKR, zrN] <;> omega⟩ dX6_newFaces_46 ?_
          refine zy_dup dX6_newFaces_49 rfl ?_
          refine zy_aload_n dX6_newFaces_50 rfl rfl ?_
          refine zy_iload dX6_newFaces_51 rfl ?_
          refine zy_iload dX6_newFaces_53 rfl ?_
          refine zy_iconst 1 dX6_newFaces_55 (by decide) ?_
          refine zy_iadd dX6_newFaces_56 ?_
          refine zy_null dX6_newFaces_57 ?_
          refine zy_iconst 0 dX6_newFaces_58 (by decide) ?_
          refine zy_callI (kn2 := 400 + 6 * (0 + y * (w - 1) + x) + 6) _ zin_X6_330 (m_X1_init (N := w * h) (o1 := fBef w h (0 + y * (w - 1) + x)) (o2 := fBeh w h (0 + y * (w - 1) + x)) (zO_new (by simp) (hE _ hn).1) ⟨zO_gr _ hO1.1, hO1.2, hwh⟩ (by omega) (Or.inl ⟨y * w + x, (by rw [zI_mul, nI_add]), by omega, by rw [zit_face_R w h μ ⟨by decide, by decide⟩, hR1 _ (by omega), hb]⟩) (Or.inl ⟨y * w + x + 1, (by rw [zI_mul, nI_add, nI_1]), by omega, by rw [zit_face_R w h μ ⟨by decide, by decide⟩, hR1 _ (by omega), hc]⟩)) rfl rfl ⟨rfl, by dsimp only [zrN]; omega, by dsimp only [zKR, zrN]; omega, by dsimp only [zKR, zrN]; omega, (Nat.le_of_ble_eq_true rfl), (Nat.le_of_ble_eq_true rfl)⟩ (Nat.le_of_ble_eq_true rfl) dX6_newFaces_59 ?_
          refine zy_callC _ zs_X6_333 (m_X6_put (F := fcA w h) ⟨by refine zO_new ?_ hA.1; simp, hA.2.1, hn, hF4⟩ (by refine zO_new ?_ (hE _ hn).1; simp)) rfl rfl ⟨rfl, rfl, (Nat.le_of_ble_eq_true rfl), (Nat.le_of_ble_eq_true rfl)⟩ ⟨by dsimp only [zKR, zrN]; omega, by dsimp only [zKR, zrN]; omega⟩ (Nat.le_of_ble_eq_true rfl) dX6_newFaces_62 ?_
          refine zy_istore dX6_newFaces_65 (Nat.le_of_ble_eq_true rfl) ?_
          refine zy_iinc (nI (x + 1)) dX6_newFaces_67 rfl (by exact nI_1 x) (Nat.le_of_ble_eq_true rfl) ?_
          refine zy_goto (tgt := 25) dX6_newFaces_70 (by decide) ?_
          exact zWN_to (zWN_at (zFW_n hn_ (by omega : _ = (0 + y * (w - 1) + x) + 1)) (by simp [zfl, List.append_assoc]) (by first | omega | (dsimp only [zrN]; omega)) (by first | omega | (dsimp only [zrN]; omega)) (by show c_face w h _ _ = _; unfold c_face; rw [hs3, hax])) ⟨rfl, rfl, rfl, rfl, rfl, (by show some (zi (nI _ + 1)) = some (zi (nI _)); rw [nI_1]), rfl, rfl, trivial⟩
      show zWN _ _ _ _ _ _ _ _ _ _ _ _
      refine zy_iload dX6_newFaces_16 rfl ?_
      refine zy_iload_n dX6_newFaces_18 rfl rfl ?_
      refine zy_icmp_ge (tgt := 79) dX6_newFaces_19 (by decide) (fun h_ => absurd h_ (fun z => absurd z (Int32.not_le.mpr (nI_lt (by omega : y < h) (by omega))))) (fun _ => ?_)
      refine zy_iconst 0 dX6_newFaces_22 (by decide) ?_
      refine zy_istore dX6_newFaces_23 (Nat.le_of_ble_eq_true rfl) ?_
      exact zWN_to (zFW_n (inner 0 (Nat.zero_le _)) (by omega)) ⟨rfl, rfl, rfl, rfl, rfl, rfl, rfl, rfl, trivial⟩
  refine zy_iload_n dX6_newFaces_0 rfl rfl ?_
  refine zy_iload_n dX6_newFaces_1 rfl rfl ?_
  refine zy_callC _ zs_X6_62 m_X6_faceCount rfl rfl ⟨rfl, rfl, (Nat.le_of_ble_eq_true rfl), (Nat.le_of_ble_eq_true rfl)⟩ ⟨by dsimp only [zKR, zrN]; omega, by dsimp only [zKR, zrN]; omega⟩ (Nat.le_of_ble_eq_true rfl) dX6_newFaces_2 ?_
  refine zy_newq (kn2 := 400) 2 (fcA w h) 13 ⟨hA.1, by decide, by decide⟩ rfl (by decide +kernel) zcl_X6_104 hA.2.1 hA.2.2.1 hA.2.2.2 (by rw [show nI w - 1 = nI (w - 1) from by have := nI_pred (w - 1); rw [show w - 1 + 1 = w by omega] at this; exact this, show nI h - 1 = nI (h - 1) from by have := nI_pred (h - 1); rw [show h - 1 + 1 = h by omega] at this; exact this, show (2 : Int32) = nI 2 from rfl, zI_mul, zI_mul, zI_mul, zI_mul, nI_add, nI_add, nI_add] <;> rfl) (by omega) rfl (by omega) ⟨by dsimp only [zKR, zrN] <;> omega, by dsimp only [zKR, zrN] <;> omega⟩ dX6_newFaces_5 ?_
  refine zy_astore dX6_newFaces_8 (Nat.le_of_ble_eq_true rfl) ?_
  refine zy_iconst 0 dX6_newFaces_10 (by decide) ?_
  refine zy_istore dX6_newFaces_11 (Nat.le_of_ble_eq_true rfl) ?_
  refine zy_iconst 0 dX6_newFaces_13 (by decide) ?_
  refine zy_istore dX6_newFaces_14 (Nat.le_of_ble_eq_true rfl) ?_
  exact zWN_to (zWN_at (zFW_n (l1 0 (Nat.zero_le _)) (by omega : _ = 0)) rfl rfl rfl rfl) ⟨rfl, rfl, rfl, rfl, rfl, rfl, rfl, trivial⟩
