theorem zRd_err {E P r M : Int} (hP : 0 < P) (h : zRd E P r) (h1 : E ≤ M) (h2 : -M ≤ E) (hM : M < 2 ^ 1900 * P) : r * P - E ≤ M / 2 ^ 52 + P ∧ E - r * P ≤ M / 2 ^ 52 + P := by
  by_cases h0 : 0 ≤ E
  · obtain ⟨a, b⟩ := zRd_err0 hP h h0 (Int.lt_of_le_of_lt h1 hM)
    have : E / 2 ^ 52 ≤ M / 2 ^ 52 := Int.ediv_le_ediv (by decide) h1
    omega
  · obtain ⟨a, b⟩ := zRd_err0 hP (zRd_neg h) (by omega) (Int.lt_of_le_of_lt (by omega) hM)
    have : (-E) / 2 ^ 52 ≤ M / 2 ^ 52 := Int.ediv_le_ediv (by decide) (by omega)
    rw [Int.neg_mul] at a b
    omega
theorem zdc {x y : UInt64} (hx : FP.Core.val64 x ≠ .nan) (hy : FP.Core.val64 y ≠ .nan) : FP.dcmp x y = some (if zv x < zv y then .lt else if zv x = zv y then .eq else .gt) := FP.Core.dcmp_zval hx hy
theorem zlt_iff {x y : UInt64} (hx : FP.Core.val64 x ≠ .nan) (hy : FP.Core.val64 y ≠ .nan) : zlt x y = true ↔ zv x < zv y := by
  unfold zlt
  rw [zdc hx hy]
  by_cases h : zv x < zv y
  · simp [h]
  · by_cases h2 : zv x = zv y <;> simp [h, h2]
theorem zgt_iff {x y : UInt64} (hx : FP.Core.val64 x ≠ .nan) (hy : FP.Core.val64 y ≠ .nan) : zgt x y = true ↔ zv y < zv x := by
  unfold zgt
  rw [zdc hx hy]
  by_cases h : zv x < zv y
  · simp [h]; omega
  · by_cases h2 : zv x = zv y
    · simp [h2]
    · simp [h, h2]; omega
theorem zle_iff {x y : UInt64} (hx : FP.Core.val64 x ≠ .nan) (hy : FP.Core.val64 y ≠ .nan) : zle x y = true ↔ zv x ≤ zv y := by
  unfold zle
  rw [zdc hx hy]
  by_cases h : zv x < zv y
  · simp [h]; omega
  · by_cases h2 : zv x = zv y
    · simp [h2]
    · simp [h, h2]; omega
theorem zge_iff {x y : UInt64} (hx : FP.Core.val64 x ≠ .nan) (hy : FP.Core.val64 y ≠ .nan) : zge x y = true ↔ zv y ≤ zv x := by
  unfold zge
  rw [zdc hx hy]
  by_cases h : zv x < zv y
  · simp [h]
  · by_cases h2 : zv x = zv y
    · simp [h2]
    · simp [h, h2]; omega
theorem zv_0 : zv 0 = 0 := FP.Core.zval64_zero
theorem znn_0 : FP.Core.val64 0 ≠ .nan := by rw [FP.Core.val64_zero]; simp
theorem zfi_0 : zfi 0 := ⟨_, _, _, FP.Core.val64_zero⟩
theorem zv_neg (x : UInt64) : zv (zneg x) = -zv x := by
  unfold zneg
  rw [zv_cn]
  unfold zv
  rw [FP.val64_dneg, FP.Core.zval_negate]
theorem zfi_cn {x : UInt64} (h : zfi x) : zfi (zcn x) := by
  obtain ⟨s, c, q, h⟩ := h
  exact ⟨s, c, q, by rw [zval_cn]; exact h⟩
theorem zfi_neg {x : UInt64} (h : zfi x) : zfi (zneg x) := by
  obtain ⟨s, c, q, h⟩ := h
  refine zfi_cn ⟨!s, c, q, ?_⟩
  rw [FP.val64_dneg, h]
  rfl
theorem zsize_v {v : UInt64} (hv : zfi v) : zfi (s_sizeOf v) ∧ 0 ≤ zv (s_sizeOf v) ∧ (zv (s_sizeOf v) = zv v ∨ zv (s_sizeOf v) = -zv v) := by
  unfold s_sizeOf
  by_cases h : zlt v k0 = true
  · rw [if_pos h]
    have h2 := (zlt_iff (zfi_nn hv) znn_0).mp h
    rw [zv_0] at h2
    rw [zv_neg]
    exact ⟨zfi_neg hv, by omega, Or.inr rfl⟩
  · rw [if_neg h]
    have h2 : ¬ zv v < zv 0 := fun q => h ((zlt_iff (zfi_nn hv) znn_0).mpr q)
    rw [zv_0] at h2
    exact ⟨hv, by omega, Or.inl rfl⟩
/-! equal up to the sign of a zero -/
def zq (x y : UInt64) : Prop := x = y ∨ (FP.Core.DZero x ∧ FP.Core.DZero y)
theorem zq.rf (x : UInt64) : zq x x := Or.inl rfl
theorem zq.sy {x y : UInt64} (h : zq x y) : zq y x := h.elim (fun e => Or.inl e.symm) (fun e => Or.inr ⟨e.2, e.1⟩)
theorem zq.tr {x y z : UInt64} (h1 : zq x y) (h2 : zq y z) : zq x z := by
  rcases h1 with rfl | ⟨a, b⟩
  · exact h2
  · rcases h2 with rfl | ⟨c, d⟩
    · exact Or.inr ⟨a, b⟩
    · exact Or.inr ⟨a, d⟩
theorem zcn_val {x y : UInt64} (h : FP.Core.val64 x = FP.Core.val64 y) : zcn x = zcn y := by
  by_cases hn : FP.Core.val64 x = .nan
  · unfold zcn
    rw [if_pos ((znan_val x).mpr hn), if_pos ((znan_val y).mpr (h ▸ hn))]
  · rw [zcn_id hn, zcn_id (fun q => hn (h.trans q))]
    exact FP.Core.val64_inj hn h
theorem zz_val {z : UInt64} (h : FP.Core.DZero z) : ∃ s, FP.Core.val64 z = .fin s 0 FP.Core.b64.qmin := by
  obtain ⟨s, q, h⟩ := h
  have e := FP.Core.fits_zero_q FP.Core.good_b64 (h ▸ FP.Core.val64_fits z)
  exact ⟨s, by rw [h, e]⟩
theorem zz_cn {x : UInt64} (h : FP.Core.DZero x) : FP.Core.DZero (zcn x) := by
  obtain ⟨s, q, h⟩ := h
  exact ⟨s, q, by rw [zval_cn]; exact h⟩
theorem zz_iff {x : UInt64} : FP.Core.DZero x ↔ FP.Core.val64 x ≠ .nan ∧ zv x = 0 := by
  constructor
  · intro h
    exact ⟨h.fin.ne_nan, h.zval⟩
  · intro h
    refine FP.Core.zero_iff.mp (FP.Core.dcmp_eq.mpr ⟨h.1, znn_0, ?_⟩)
    show zv x = zv 0
    rw [h.2, zv_0]
theorem zz_add {z b : UInt64} (hz : FP.Core.DZero z) (hb : FP.Core.DZero b) : FP.Core.DZero (FP.dadd z b) := by
  have h := FP.Core.dcmp_eq.mp (FP.Core.dadd_zero_eq hz.fin hb).1
  refine zz_iff.mpr ⟨h.1, ?_⟩
  have e : zv (FP.dadd z b) = zv z := h.2.2
  rw [e]
  exact hz.zval
theorem zadd_z {z b : UInt64} (hz : FP.Core.DZero z) (hb : ¬ FP.Core.DZero b) : zadd b z = zcn b := by
  unfold zadd
  refine zcn_val ?_
  obtain ⟨s, hs⟩ := zz_val hz
  rw [FP.Core.val64_dadd, hs]
  exact FP.Core.round_sum_zero FP.Core.good_b64 (FP.Core.val64_fits b) s (fun s' q e => absurd ⟨s', q, e⟩ hb)
theorem zadd_cm (a b : UInt64) : zadd a b = zadd b a := congrArg zcn (FP.Core.dadd_comm a b)
theorem zq_add_l {a a' : UInt64} (b : UInt64) (h : zq a a') : zq (zadd a b) (zadd a' b) := by
  rcases h with rfl | ⟨h1, h2⟩
  · exact zq.rf _
  · by_cases hb : FP.Core.DZero b
    · exact Or.inr ⟨zz_cn (zz_add h1 hb), zz_cn (zz_add h2 hb)⟩
    · rw [zadd_cm a b, zadd_cm a' b, zadd_z h1 hb, zadd_z h2 hb]
      exact zq.rf _
theorem zq_add {a a' b b' : UInt64} (h1 : zq a a') (h2 : zq b b') : zq (zadd a b) (zadd a' b') := by
  refine (zq_add_l b h1).tr ?_
  rw [zadd_cm a' b, zadd_cm a' b']
  exact zq_add_l a' h2
theorem zsub_eq (a b : UInt64) : zsub a b = zadd a (FP.Core.dneg b) := congrArg zcn (FP.Core.dsub_eq a b)
theorem zz_neg {x : UInt64} (h : FP.Core.DZero x) : FP.Core.DZero (FP.Core.dneg x) := by
  obtain ⟨s, q, h⟩ := h
  exact ⟨!s, q, by rw [FP.Core.val64_dneg, h]; rfl⟩
theorem zq_sub {a a' b b' : UInt64} (h1 : zq a a') (h2 : zq b b') : zq (zsub a b) (zsub a' b') := by
  rw [zsub_eq, zsub_eq]
  refine zq_add h1 ?_
  rcases h2 with rfl | ⟨h3, h4⟩
  · exact zq.rf _
  · exact Or.inr ⟨zz_neg h3, zz_neg h4⟩
theorem zmul_cm (a b : UInt64) : zmul a b = zmul b a := congrArg zcn (FP.Core.dmul_comm a b)
theorem zq_mul_l {a a' : UInt64} (b : UInt64) (h : zq a a') : zq (zmul a b) (zmul a' b) := by
  rcases h with rfl | ⟨h1, h2⟩
  · exact zq.rf _
  · obtain ⟨s, hs⟩ := zz_val h1
    obtain ⟨s', hs'⟩ := zz_val h2
    cases hb : FP.Core.val64 b with
    | nan =>
      left
      unfold zmul
      refine zcn_val ?_
      rw [FP.Core.val64_dmul, FP.Core.val64_dmul, hs, hs', hb]
      rfl
    | inf t =>
      left
      unfold zmul
      refine zcn_val ?_
      rw [FP.Core.val64_dmul, FP.Core.val64_dmul, hs, hs', hb]
      rfl
    | fin t c q => exact Or.inr ⟨zz_cn (FP.Core.dzero_mul ⟨t, c, q, hb⟩ h1), zz_cn (FP.Core.dzero_mul ⟨t, c, q, hb⟩ h2)⟩
theorem zq_mul {a a' b b' : UInt64} (h1 : zq a a') (h2 : zq b b') : zq (zmul a b) (zmul a' b') := by
  refine (zq_mul_l b h1).tr ?_
  rw [zmul_cm a' b, zmul_cm a' b']
  exact zq_mul_l a' h2
theorem zq_div {a a' : UInt64} (b : UInt64) (h : zq a a') : zq (zdiv a b) (zdiv a' b) := by
  rcases h with rfl | ⟨h1, h2⟩
  · exact zq.rf _
  · obtain ⟨s, hs⟩ := zz_val h1
    obtain ⟨s', hs'⟩ := zz_val h2
    cases hb : FP.Core.val64 b with
    | nan =>
      left
      unfold zdiv
      refine zcn_val ?_
      rw [FP.Core.val64_ddiv, FP.Core.val64_ddiv, hs, hs', hb]
      rfl
    | inf t =>
      right
      refine ⟨zz_cn ⟨s != t, FP.Core.b64.qmin, ?_⟩, zz_cn ⟨s' != t, FP.Core.b64.qmin, ?_⟩⟩
      · rw [FP.Core.val64_ddiv, hs, hb]; rfl
      · rw [FP.Core.val64_ddiv, hs', hb]; rfl
    | fin t c q =>
      by_cases hc : c = 0
      · left
        unfold zdiv
        refine zcn_val ?_
        rw [FP.Core.val64_ddiv, FP.Core.val64_ddiv, hs, hs', hb, hc]
        rfl
      · right
        refine ⟨zz_cn ⟨s != t, FP.Core.b64.qmin, ?_⟩, zz_cn ⟨s' != t, FP.Core.b64.qmin, ?_⟩⟩
        · rw [FP.Core.val64_ddiv, hs, hb]
          show (if c = 0 then _ else _) = _
          rw [if_neg hc]
          rfl
        · rw [FP.Core.val64_ddiv, hs', hb]
          show (if c = 0 then _ else _) = _
          rw [if_neg hc]
          rfl
theorem zq_cmp_l {a a' : UInt64} (b : UInt64) (h : zq a a') : FP.dcmp a b = FP.dcmp a' b := by
  rcases h with rfl | ⟨h1, h2⟩
  · rfl
  · by_cases hb : FP.Core.val64 b = .nan
    · show FP.Core.dcmp a b = FP.Core.dcmp a' b
      rw [(FP.Core.dcmp_none a b).mpr (Or.inr hb), (FP.Core.dcmp_none a' b).mpr (Or.inr hb)]
    · rw [zdc h1.fin.ne_nan hb, zdc h2.fin.ne_nan hb, (zz_iff.mp h1).2, (zz_iff.mp h2).2]
theorem zq_cmp {a a' b b' : UInt64} (h1 : zq a a') (h2 : zq b b') : FP.dcmp a b = FP.dcmp a' b' := by
  rw [zq_cmp_l b h1]
  show FP.Core.dcmp a' b = FP.Core.dcmp a' b'
  rw [FP.Core.dcmp_swap b a', FP.Core.dcmp_swap b' a']
  exact congrArg _ (zq_cmp_l a' h2)
theorem zq_d2l {a a' : UInt64} (h : zq a a') : FP.d2l a = FP.d2l a' := by
  rcases h with rfl | ⟨h1, h2⟩
  · rfl
  · obtain ⟨s, hs⟩ := zz_val h1
    obtain ⟨s', hs'⟩ := zz_val h2
    show FP.Core.toL (FP.Core.val64 a) = FP.Core.toL (FP.Core.val64 a')
    rw [hs, hs']
    cases s <;> cases s' <;> decide +kernel
theorem zq_lt {a a' b b' : UInt64} (h1 : zq a a') (h2 : zq b b') : zlt a b = zlt a' b' := by
  unfold zlt
  rw [zq_cmp h1 h2]
theorem zq_gt {a a' b b' : UInt64} (h1 : zq a a') (h2 : zq b b') : zgt a b = zgt a' b' := by
  unfold zgt
  rw [zq_cmp h1 h2]
theorem zq_fi {a a' : UInt64} (h : zq a a') (hf : zfi a) : zfi a' := by
  rcases h with rfl | ⟨h1, h2⟩
  · exact hf
  · exact h2.fin
theorem zq_v {a a' : UInt64} (h : zq a a') : zv a = zv a' := by
  rcases h with rfl | ⟨h1, h2⟩
  · rfl
  · rw [(zz_iff.mp h1).2, (zz_iff.mp h2).2]
theorem zq_size {a a' : UInt64} (h : zq a a') (hn : FP.Core.val64 a ≠ .nan) : zq (s_sizeOf a) (t_size a') := by
  unfold s_sizeOf t_size
  rw [← zq_lt h (zq.rf 0)]
  by_cases hl : zlt a k0 = true
  · rw [if_pos hl, if_pos (show zlt a 0 = true from hl)]
    have h0 := (zlt_iff hn znn_0).mp hl
    rw [zv_0] at h0
    have hz : ¬ FP.Core.DZero a := fun q => by
      have := (zz_iff.mp q).2
      omega
    have e : a = a' := h.elim id (fun q => absurd q.1 hz)
    subst e
    left
    rw [zsub_eq, zadd_cm, zadd_z (zz_iff.mpr ⟨znn_0, zv_0⟩) (fun q => ?_)]
    · unfold zneg
      refine zcn_val ?_
      rw [FP.val64_dneg, FP.Core.val64_dneg]
    · have := (zz_iff.mp q).2
      have e2 : zv (FP.Core.dneg a) = -zv a := by
        unfold zv
        rw [FP.Core.val64_dneg, FP.Core.zval_negate]
      omega
  · rw [if_neg hl, if_neg (show ¬ zlt a 0 = true from hl)]
    exact h
/-- the greater of two, in the class's way and in the model's -/
theorem zq_max {a a' b b' : UInt64} (h1 : zq a a') (h2 : zq b b') (na : FP.Core.val64 a ≠ .nan) (nb : FP.Core.val64 b ≠ .nan) (ca : zcn a' = a') (cb : zcn b' = b') : zq (if zgt b a = true then b else a) (s_dmax a' b') := by
  have na' : FP.Core.val64 a' ≠ .nan := by
    rcases h1 with rfl | ⟨_, h⟩
    · exact na
    · exact h.fin.ne_nan
  have nb' : FP.Core.val64 b' ≠ .nan := by
    rcases h2 with rfl | ⟨_, h⟩
    · exact nb
    · exact h.fin.ne_nan
  have e : s_dmax a' b' = zcn (Jvm.Native.java_lang_Math.nans.pick64 true a' b') := by
    unfold s_dmax Jvm.Free.Fl.Abs.maxDOf
    rw [if_neg (fun q => na' ((FP.Core.dIsNaN_iff a').mp q)), if_neg (fun q => nb' ((FP.Core.dIsNaN_iff b').mp q))]
  rw [e]
  unfold Jvm.Native.java_lang_Math.nans.pick64
  rw [zdc na' nb', ← zq_v h1, ← zq_v h2]
  by_cases l1 : zv a < zv b
  · rw [if_pos ((zgt_iff nb na).mpr l1), if_pos l1]
    show zq b (zcn b')
    rw [cb]
    exact h2
  · rw [if_neg (fun q => l1 ((zgt_iff nb na).mp q)), if_neg l1]
    by_cases l2 : zv a = zv b
    · rw [if_pos l2]
      show zq a (zcn (if (a' >>> 63 == 1) == true then b' else a'))
      split
      · rw [cb]
        by_cases hz : zv a = 0
        · right
          exact ⟨zz_iff.mpr ⟨na, hz⟩, zz_iff.mpr ⟨nb', by rw [← zq_v h2]; omega⟩⟩
        · left
          have e1 : a = a' := h1.elim id (fun q => absurd (zz_iff.mp q.1).2 hz)
          have e2 : b = b' := h2.elim id (fun q => absurd ((zz_iff.mp q.1).2) (by omega))
          subst e1
          subst e2
          exact FP.Core.eq_bits (fun q => hz (by rw [l2]; exact (zz_iff.mp q).2)) (FP.Core.dcmp_eq.mpr ⟨na, nb, l2⟩)
      · rw [ca]
        exact h1
    · rw [if_neg l2]
      show zq a (zcn a')
      rw [ca]
      exact h1
