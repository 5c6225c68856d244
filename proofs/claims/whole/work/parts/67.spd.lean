/-! speeds stay finite; what comes in over a side is bounded -/
def p_mass (V : Int64) : UInt64 := zmul (FP.l2d V) k0001
def p_lev (V : Int64) (dep : UInt64) : UInt64 := zsub (p_mass V) dep
def p_spd (s d h w sz : UInt64) : UInt64 := zdiv (zadd s (zmul h (zadd (zmul kg d) (zmul kw w)))) (zadd k1 (zmul (zmul kf h) sz))
def p_ask (s h : UInt64) (V : Int64) : Int64 := FP.d2l (zmul (zmul s h) (p_mass V))
theorem zk_f2 : 256 * zv kf ≤ zU := by decide +kernel
theorem zk_m0 : 0 ≤ zv k0001 := by decide +kernel
theorem zk_m2 : 512 * zv k0001 ≤ zU := by decide +kernel
theorem zRk (n k : Nat) (hn : n < 2 ^ 53) (hk : k ≤ 900) {V : Int} (h : V = ((n : Int) * 2 ^ k) * zU) : zRep V := by
  have := zRep_mk n (k + 1074) hn (by omega)
  rw [Nat.pow_add, ← Nat.mul_assoc, Int.natCast_mul, Int.natCast_mul, Int.natCast_pow] at this
  rw [h]
  exact this
theorem zRkm (n k : Nat) (hn : n < 2 ^ 53) (hk : k ≤ 900) {V : Int} (h : V = -(((n : Int) * 2 ^ k) * zU)) : zRep V := by
  rw [h]
  exact zRep_neg (zRk n k hn hk rfl)
theorem zmass_b {V : Int64} (h0 : 0 ≤ V.toInt) (h1 : V.toInt < 2 ^ 62) : zfi (p_mass V) ∧ zv (p_mass V) ≤ 2 ^ 53 * zU ∧ 0 ≤ zv (p_mass V) := by
  have hU := zU_pos
  have hl := zRd_l2d V
  have l1 : zv (FP.l2d V) ≤ 2 ^ 62 * zU := (hl _ (zRk 1 62 (by decide) (by decide) (by simp))).1 (by
    have := Int.mul_le_mul_of_nonneg_right (show V.toInt ≤ 2 ^ 62 by omega) (Int.le_of_lt hU)
    omega)
  have l0 : 0 ≤ zv (FP.l2d V) := (hl 0 zRep_0).2 (by rw [Int.zero_mul]; exact Int.mul_nonneg h0 (Int.le_of_lt hU))
  have m0 := zk_m0
  have m2 := zk_m2
  refine zB_mul (zfi_l2d V) (zfk k0001 (by decide)) (zRk 1 53 (by decide) (by decide) (by simp)) zRep_0 ?_ (by rw [Int.zero_mul]; exact Int.mul_nonneg l0 m0)
  have p1 := Int.mul_le_mul_of_nonneg_right l1 m0
  have p2 := Int.mul_le_mul_of_nonneg_left m2 (show 0 ≤ 2 ^ 53 * zU by omega)
  generalize zv k0001 = k at *
  grind
theorem zlev_b {V : Int64} {dep : UInt64} (h0 : 0 ≤ V.toInt) (h1 : V.toInt < 2 ^ 62) (hd : zfi dep) (d0 : 0 ≤ zv dep) (d1 : zv dep ≤ 1000 * zU) : zfi (p_lev V dep) ∧ zv (p_lev V dep) ≤ 2 ^ 53 * zU ∧ -(1000 * zU) ≤ zv (p_lev V dep) := by
  obtain ⟨a, b, c⟩ := zmass_b h0 h1
  exact zB_sub a hd (zRk 1 53 (by decide) (by decide) (by simp)) (zRm 1000 (by decide) rfl) (by omega) (by omega)
theorem ztsize {s : UInt64} (h : zfi s) : zfi (t_size s) ∧ 0 ≤ zv (t_size s) ∧ (zv (t_size s) = zv s ∨ zv (t_size s) = -zv s) ∧ zv s ≤ zv (t_size s) ∧ -zv s ≤ zv (t_size s) := by
  have hq := zq_size (zq.rf s) (zfi_nn h)
  obtain ⟨a, b, c⟩ := zsize_v h
  have e := zq_v hq
  rw [← e]
  exact ⟨zq_fi hq a, b, c, by omega, by omega⟩
/-- a step's length, a wind -/
def zHh (h : UInt64) : Prop := zfi h ∧ zU ≤ zv h ∧ zv h ≤ 600 * zU
def zWd (w : UInt64) : Prop := zfi w ∧ zv w ≤ 100 * zU ∧ -(100 * zU) ≤ zv w
def zSp (n : Nat) (s : UInt64) : Prop := zfi s ∧ zv s ≤ ((n : Int) * 2 ^ 59) * zU ∧ -(((n : Int) * 2 ^ 59) * zU) ≤ zv s
/-- all that is known of the roundings in a speed -/
def zSpF (s d h w sz r : UInt64) : Prop := ∃ A B Y X N K L E : Int, zRd (zv kg * zv d) zU A ∧ zRd (zv kw * zv w) zU B ∧ zRd (A + B) 1 Y ∧ zRd (zv h * Y) zU X ∧ zRd (zv s + X) 1 N ∧ zRd (zv kf * zv h) zU K ∧ zRd (K * zv sz) zU L ∧ zRd (zU + L) 1 E ∧ zRd (N * zU) E (zv r)
theorem zspd_b {s d h w : UInt64} {n : Nat} (hn : n < 2 ^ 40) (hs : zSp n s) (hd : zfi d) (d1 : zv d ≤ 2 ^ 54 * zU) (d2 : -(2 ^ 54 * zU) ≤ zv d) (hh : zHh h) (hw : zWd w) : zSp (n + 1) (p_spd s d h w (t_size s)) ∧ zSpF s d h w (t_size s) (p_spd s d h w (t_size s)) := by
  have hU := zU_pos
  obtain ⟨s0, s1, s2⟩ := hs
  obtain ⟨h0, h1, h2⟩ := hh
  obtain ⟨w0, w1, w2⟩ := hw
  obtain ⟨z0, z1, z2, z3, z4⟩ := ztsize s0
  have g0 := zk_g0
  have g2 := zk_g2
  have k0 := zk_w0
  have k2 := zk_w2
  have f0 := zk_f0
  have f2 := zk_f2
  have fg : zfi kg := zfk kg (by decide)
  have fw : zfi kw := zfk kw (by decide)
  have ff : zfi kf := zfk kf (by decide)
  have f1 : zfi k1 := zfk k1 (by decide)
  have v1 := zk_1
  have sz : zv (t_size s) ≤ ((n : Int) * 2 ^ 59) * zU := by omega
  obtain ⟨a0, a1, a2⟩ := zB_mul fg hd (V := 2 ^ 48 * zU) (W := -(2 ^ 48 * zU)) (zRk 1 48 (by decide) (by decide) (by simp)) (zRkm 1 48 (by decide) (by decide) (by simp)) (by
    have p1 := Int.mul_le_mul_of_nonneg_left d1 g0
    have p2 := Int.mul_le_mul_of_nonneg_right g2 (show 0 ≤ 2 ^ 54 * zU by omega)
    have p3 := Int.mul_nonneg (Int.le_of_lt hU) (Int.le_of_lt hU)
    generalize zv kg = G at *
    grind) (by
    have p1 := Int.mul_le_mul_of_nonneg_left d2 g0
    have p2 := Int.mul_le_mul_of_nonneg_right g2 (show 0 ≤ 2 ^ 54 * zU by omega)
    have p3 := Int.mul_nonneg (Int.le_of_lt hU) (Int.le_of_lt hU)
    generalize zv kg = G at *
    grind)
  obtain ⟨b0, b1, b2⟩ := zB_mul fw w0 (V := zU) (W := -zU) (zRn 1 (by decide) (by simp)) (zRm 1 (by decide) (by simp)) (by
    have p1 := Int.mul_le_mul_of_nonneg_left w1 k0
    have p2 := Int.mul_le_mul_of_nonneg_right k2 (Int.le_of_lt hU)
    have p3 := Int.mul_nonneg k0 (Int.le_of_lt hU)
    generalize zv kw = G at *
    grind) (by
    have p1 := Int.mul_le_mul_of_nonneg_left w2 k0
    have p2 := Int.mul_le_mul_of_nonneg_right k2 (Int.le_of_lt hU)
    have p3 := Int.mul_nonneg k0 (Int.le_of_lt hU)
    generalize zv kw = G at *
    grind)
  obtain ⟨y0, y1, y2⟩ := zB_add a0 b0 (V := 2 ^ 49 * zU) (W := -(2 ^ 49 * zU)) (zRk 1 49 (by decide) (by decide) (by simp)) (zRkm 1 49 (by decide) (by decide) (by simp)) (by omega) (by omega)
  obtain ⟨x0, x1, x2⟩ := zB_mul h0 y0 (V := 2 ^ 59 * zU) (W := -(2 ^ 59 * zU)) (zRk 1 59 (by decide) (by decide) (by simp)) (zRkm 1 59 (by decide) (by decide) (by simp)) (by
    have p1 := Int.mul_le_mul_of_nonneg_left y1 (show 0 ≤ zv h by omega)
    have p2 := Int.mul_le_mul_of_nonneg_right h2 (show 0 ≤ 2 ^ 49 * zU by omega)
    have p3 := Int.mul_nonneg (Int.le_of_lt hU) (Int.le_of_lt hU)
    grind) (by
    have p1 := Int.mul_le_mul_of_nonneg_left y2 (show 0 ≤ zv h by omega)
    have p2 := Int.mul_le_mul_of_nonneg_right h2 (show 0 ≤ 2 ^ 49 * zU by omega)
    have p3 := Int.mul_nonneg (Int.le_of_lt hU) (Int.le_of_lt hU)
    grind)
  have en : (((n + 1 : Nat) : Int) * 2 ^ 59) * zU = ((n : Int) * 2 ^ 59) * zU + 2 ^ 59 * zU := by
    rw [show ((n + 1 : Nat) : Int) = (n : Int) + 1 from rfl, Int.add_mul, Int.add_mul, Int.one_mul]
  obtain ⟨n0, n1, n2⟩ := zB_add s0 x0 (zRk (n + 1) 59 (by omega) (by decide) rfl) (zRkm (n + 1) 59 (by omega) (by decide) rfl) (by rw [en]; omega) (by rw [en]; omega)
  obtain ⟨c0, c1, c2⟩ := zB_mul ff h0 (V := 3 * zU) (W := 0) (zRn 3 (by decide) rfl) zRep_0 (by
    have p1 := Int.mul_le_mul_of_nonneg_left h2 f0
    have p2 := Int.mul_le_mul_of_nonneg_right f2 (Int.le_of_lt hU)
    have p3 := Int.mul_nonneg (Int.le_of_lt hU) (Int.le_of_lt hU)
    generalize zv kf = G at *
    grind) (by rw [Int.zero_mul]; exact Int.mul_nonneg f0 (by omega))
  obtain ⟨l0, l1, l2⟩ := zB_mul c0 z0 (V := ((3 * n : Nat) : Int) * 2 ^ 59 * zU) (W := 0) (zRk (3 * n) 59 (by omega) (by decide) rfl) zRep_0 (by
    have p1 := Int.mul_le_mul_of_nonneg_left sz (show 0 ≤ zv (zmul kf h) by omega)
    have p2 := Int.mul_le_mul_of_nonneg_right c1 (show 0 ≤ ((n : Int) * 2 ^ 59) * zU by exact Int.mul_nonneg (by omega) (Int.le_of_lt hU))
    rw [show ((3 * n : Nat) : Int) = 3 * (n : Int) from rfl]
    grind) (by rw [Int.zero_mul]; exact Int.mul_nonneg c2 z1)
  obtain ⟨e0, e1, e2⟩ := zB_add f1 l0 (V := ((3 * n + 1 : Nat) : Int) * 2 ^ 59 * zU) (W := zU) (zRk (3 * n + 1) 59 (by omega) (by decide) rfl) (zRn 1 (by decide) (by simp)) (by
    rw [v1, show ((3 * n + 1 : Nat) : Int) = ((3 * n : Nat) : Int) + 1 from rfl, Int.add_mul, Int.add_mul]
    omega) (by rw [v1]; omega)
  obtain ⟨r0, r1, r2⟩ := zB_div n0 e0 (by omega) (zRk (n + 1) 59 (by omega) (by decide) rfl) (zRkm (n + 1) 59 (by omega) (by decide) rfl) (Int.mul_le_mul n1 e2 (Int.le_of_lt hU) (Int.mul_nonneg (by omega) (Int.le_of_lt hU))) (by
    have p1 := Int.mul_le_mul_of_nonneg_right n2 (Int.le_of_lt hU)
    have p2 := Int.mul_le_mul_of_nonneg_left e2 (show 0 ≤ (((n + 1 : Nat) : Int) * 2 ^ 59) * zU from Int.mul_nonneg (by omega) (Int.le_of_lt hU))
    rw [Int.neg_mul] at p1 ⊢
    omega)
  refine ⟨⟨r0, r1, r2⟩, _, _, _, _, _, _, _, _, (zRd_mul fg hd).1, (zRd_mul fw w0).1, (zRd_add a0 b0).1, (zRd_mul h0 y0).1, (zRd_add s0 x0).1, (zRd_mul ff h0).1, (zRd_mul c0 z0).1, ?_, (zRd_div n0 e0 (by omega)).1⟩
  have := (zRd_add f1 l0).1
  rw [v1] at this
  exact this
theorem zd2l_s {x : UInt64} (hx : zfi x) : (zv x ≤ 0 → (FP.d2l x).toInt ≤ 0) ∧ (0 ≤ zv x → 0 ≤ (FP.d2l x).toInt) := by
  obtain ⟨s, c, q, h⟩ := hx
  have hf := FP.Core.val64_fits x
  rw [h] at hf
  have hq := hf.2.1
  have hqn : FP.Core.b64.qmin = -1074 := FP.Core.qmin_b64
  have e : FP.d2l x = Int64.ofInt (max (-2 ^ 63) (min (2 ^ 63 - 1) (FP.Core.truncate s c q))) := by
    show FP.Core.toL (FP.Core.val64 x) = _
    rw [h]
    rfl
  have hz : zv x = FP.Core.signed s (c * 2 ^ (q - FP.Core.b64.qmin).toNat) := by unfold zv; rw [h, zv_sgn]
  rw [e, hz, ztr (by omega), Int64.toInt_ofInt_of_le (by omega) (by omega)]
  generalize c * 2 ^ (q - FP.Core.b64.qmin).toNat = z
  have h0 : z = 0 → z / 2 ^ 1074 = 0 := by
    intro e
    rw [e, Nat.zero_div]
  generalize z / 2 ^ 1074 = y at *
  unfold FP.Core.signed
  cases s <;> simp only [if_true, Bool.false_eq_true, if_false]
  · exact ⟨fun q => by have := h0 (by omega); omega, fun _ => by omega⟩
  · exact ⟨fun _ => by omega, fun q => by have := h0 (by omega); omega⟩
theorem z_re (a b c U : Int) : a * b * U * (c * U) = a * (b * c) * U * U := by ac_rfl
theorem z_re2 (a U : Int) : a * 2 ^ 69 * U * (2 ^ 53 * U) = a * 2 ^ 122 * U * U := by
  rw [z_re, show (2 : Int) ^ 69 * 2 ^ 53 = 2 ^ 122 by decide +kernel]
theorem z_re3 {X U : Int} (hX : 0 ≤ X) (hU : 0 ≤ U) : X * 2 ^ 59 * U * (600 * U) ≤ X * 2 ^ 69 * U * U := by
  rw [z_re]
  exact Int.mul_le_mul_of_nonneg_right (Int.mul_le_mul_of_nonneg_right (Int.mul_le_mul_of_nonneg_left (by decide +kernel) hX) hU) hU
/-- what comes in over a side: the outside before the face, or behind it -/
theorem zside_in {s h w out dep : UInt64} {V : Int64} {n : Nat} (hn : n < 2 ^ 40) (hs : zSp n s) (hh : zHh h) (hw : zWd w) (h0 : 0 ≤ V.toInt) (h1 : V.toInt < 2 ^ 62) (hd : zfi dep) (d0 : 0 ≤ zv dep) (d1 : zv dep ≤ 1000 * zU) (ho : zfi out) (o1 : zv out ≤ 1280 * zU) (o2 : -(1280 * zU) ≤ zv out) (hS : zv s ≤ 16384 * zU) :
    zSp (n + 1) (p_spd s (zsub out (p_lev V dep)) h w (t_size s)) ∧ zv (p_spd s (zsub out (p_lev V dep)) h w (t_size s)) ≤ 16384 * zU ∧ (p_ask (p_spd s (zsub out (p_lev V dep)) h w (t_size s)) h V).toInt ≤ 274877906944 := by
  have hU := zU_pos
  obtain ⟨l0, l1, l2⟩ := zlev_b h0 h1 hd d0 d1
  obtain ⟨m0, m1, m2⟩ := zmass_b h0 h1
  obtain ⟨e0, e1, e2⟩ := zB_sub ho l0 (V := 2300 * zU) (W := -(2 ^ 54 * zU)) (zRn 2300 (by decide) rfl) (zRkm 1 54 (by decide) (by decide) (by simp)) (by omega) (by omega)
  obtain ⟨r, A, B, Y, X, N, K, L, E, hA, hB, hY, hX, hN, hK, hL, hE, hR⟩ := zspd_b hn hs e0 (by omega) e2 hh hw
  obtain ⟨z0, z1, z2, z3, z4⟩ := ztsize hs.1
  obtain ⟨c1, c2, c3⟩ := sp_up hh.2.1 hh.2.2 hw.2.1 hA hB hY hX hN hK hL z3 z1 hE hR hS e1
  refine ⟨r, c1, ?_⟩
  have hr := r
  generalize p_spd s (zsub out (p_lev V dep)) h w (t_size s) = s' at *
  have rr := (zRd_mul r.1 hh.1).1
  obtain ⟨q0, q1, q2⟩ := zB_mul r.1 hh.1 (V := (((n + 1 : Nat) : Int) * 2 ^ 69) * zU) (W := -((((n + 1 : Nat) : Int) * 2 ^ 69) * zU)) (zRk (n + 1) 69 (by omega) (by decide) rfl) (zRkm (n + 1) 69 (by omega) (by decide) rfl) (by
    have b1 := (zabs_mul r.2.1 r.2.2 hh.2.2 (show -(600 * zU) ≤ zv h by have := hh.2.1; omega)).1
    exact Int.le_trans b1 (z_re3 (by omega) (Int.le_of_lt hU))) (by
    have b1 := (zabs_mul r.2.1 r.2.2 hh.2.2 (show -(600 * zU) ≤ zv h by have := hh.2.1; omega)).2
    rw [Int.neg_mul]
    exact Int.le_trans (Int.neg_le_neg (z_re3 (by omega) (Int.le_of_lt hU))) b1)
  have qq := zRd_mul q0 m0
  have lim := sp_q hh.2.1 hh.2.2 (zRep_zv hh.1) hA c2 hY hX hN c3 hR hS c1 m2 (zRep_zv m0) d1 (zRd_sub m0 hd).1 o1 (zRd_sub ho l0).1 rr qq.1
  unfold p_ask
  obtain ⟨f0, f1, f2⟩ := zB_mul q0 m0 (V := (((n + 1 : Nat) : Int) * 2 ^ 122) * zU) (W := -((((n + 1 : Nat) : Int) * 2 ^ 122) * zU)) (zRk (n + 1) 122 (by omega) (by decide) rfl) (zRkm (n + 1) 122 (by omega) (by decide) rfl) (by
    have b1 := (zabs_mul q1 q2 m1 (show -(2 ^ 53 * zU) ≤ zv (p_mass V) by omega)).1
    rw [z_re2] at b1
    exact b1) (by
    have b1 := (zabs_mul q1 q2 m1 (show -(2 ^ 53 * zU) ≤ zv (p_mass V) by omega)).2
    rw [z_re2] at b1
    rw [Int.neg_mul]
    exact b1)
  by_cases hp : 0 ≤ zv (zmul (zmul s' h) (p_mass V))
  · exact (zd2l_pos f0 hp (n := 274877906944) (by decide) lim).2.1
  · have := (zd2l_s f0).1 (by omega)
    omega
theorem zside_out {s h w out dep : UInt64} {V : Int64} {n : Nat} (hn : n < 2 ^ 40) (hs : zSp n s) (hh : zHh h) (hw : zWd w) (h0 : 0 ≤ V.toInt) (h1 : V.toInt < 2 ^ 62) (hd : zfi dep) (d0 : 0 ≤ zv dep) (d1 : zv dep ≤ 1000 * zU) (ho : zfi out) (o1 : zv out ≤ 1280 * zU) (o2 : -(1280 * zU) ≤ zv out) (hS : -(16384 * zU) ≤ zv s) :
    zSp (n + 1) (p_spd s (zsub (p_lev V dep) out) h w (t_size s)) ∧ -(16384 * zU) ≤ zv (p_spd s (zsub (p_lev V dep) out) h w (t_size s)) ∧ -274877906944 ≤ (p_ask (p_spd s (zsub (p_lev V dep) out) h w (t_size s)) h V).toInt := by
  have hU := zU_pos
  obtain ⟨l0, l1, l2⟩ := zlev_b h0 h1 hd d0 d1
  obtain ⟨m0, m1, m2⟩ := zmass_b h0 h1
  obtain ⟨e0, e1, e2⟩ := zB_sub l0 ho (V := 2 ^ 54 * zU) (W := -(2300 * zU)) (zRk 1 54 (by decide) (by decide) (by simp)) (zRm 2300 (by decide) rfl) (by omega) (by omega)
  obtain ⟨r, A, B, Y, X, N, K, L, E, hA, hB, hY, hX, hN, hK, hL, hE, hR⟩ := zspd_b hn hs e0 e1 (by omega) hh hw
  obtain ⟨z0, z1, z2, z3, z4⟩ := ztsize hs.1
  have hA' := zRd_neg hA
  have hB' := zRd_neg hB
  have hY' := zRd_neg hY
  have hX' := zRd_neg hX
  have hN' := zRd_neg hN
  have hR' := zRd_neg hR
  rw [← Int.mul_neg] at hA' hB' hX'
  rw [Int.neg_add] at hY' hN'
  rw [← Int.neg_mul] at hR'
  obtain ⟨c1, c2, c3⟩ := sp_up hh.2.1 hh.2.2 (by have := hw.2.2; omega) hA' hB' hY' hX' hN' hK hL z4 z1 hE hR' (by omega) (by omega)
  refine ⟨r, by omega, ?_⟩
  generalize p_spd s (zsub (p_lev V dep) out) h w (t_size s) = s' at *
  have rr := zRd_neg (zRd_mul r.1 hh.1).1
  rw [← Int.neg_mul] at rr
  obtain ⟨q0, q1, q2⟩ := zB_mul r.1 hh.1 (V := (((n + 1 : Nat) : Int) * 2 ^ 69) * zU) (W := -((((n + 1 : Nat) : Int) * 2 ^ 69) * zU)) (zRk (n + 1) 69 (by omega) (by decide) rfl) (zRkm (n + 1) 69 (by omega) (by decide) rfl) (by
    have b1 := (zabs_mul r.2.1 r.2.2 hh.2.2 (show -(600 * zU) ≤ zv h by have := hh.2.1; omega)).1
    exact Int.le_trans b1 (z_re3 (by omega) (Int.le_of_lt hU))) (by
    have b1 := (zabs_mul r.2.1 r.2.2 hh.2.2 (show -(600 * zU) ≤ zv h by have := hh.2.1; omega)).2
    rw [Int.neg_mul]
    exact Int.le_trans (Int.neg_le_neg (z_re3 (by omega) (Int.le_of_lt hU))) b1)
  have qq := zRd_neg (zRd_mul q0 m0).1
  rw [← Int.neg_mul] at qq
  have dd := zRd_neg (zRd_sub l0 ho).1
  rw [Int.neg_sub] at dd
  have lim := sp_q hh.2.1 hh.2.2 (zRep_zv hh.1) hA' c2 hY' hX' hN' c3 hR' (by omega) c1 m2 (zRep_zv m0) d1 (zRd_sub m0 hd).1 o1 dd rr qq
  unfold p_ask
  obtain ⟨f0, f1, f2⟩ := zB_mul q0 m0 (V := (((n + 1 : Nat) : Int) * 2 ^ 122) * zU) (W := -((((n + 1 : Nat) : Int) * 2 ^ 122) * zU)) (zRk (n + 1) 122 (by omega) (by decide) rfl) (zRkm (n + 1) 122 (by omega) (by decide) rfl) (by
    have b1 := (zabs_mul q1 q2 m1 (show -(2 ^ 53 * zU) ≤ zv (p_mass V) by omega)).1
    rw [z_re2] at b1
    exact b1) (by
    have b1 := (zabs_mul q1 q2 m1 (show -(2 ^ 53 * zU) ≤ zv (p_mass V) by omega)).2
    rw [z_re2] at b1
    rw [Int.neg_mul]
    exact b1)
  by_cases hp : 0 ≤ zv (zmul (zmul s' h) (p_mass V))
  · have := (zd2l_s f0).2 hp
    omega
  · exact (zd2l_neg f0 (by omega) (n := 274877906944) (by decide) (by omega)).2
