theorem zand31 (x : Int32) : ∃ c, c < 32 ∧ x &&& 31 = nI c := by
  refine ⟨x.toBitVec.toNat % 32, Nat.mod_lt _ (by decide), ?_⟩
  apply Int32.toBitVec_inj.mp
  apply BitVec.eq_of_toNat_eq
  show (x.toBitVec &&& 31#32).toNat = (BitVec.ofNat 32 (x.toBitVec.toNat % 32)).toNat
  rw [BitVec.toNat_and, BitVec.toNat_ofNat, BitVec.toNat_ofNat, show 31 % 2 ^ 32 = 2 ^ 5 - 1 from rfl, Nat.and_two_pow_sub_one_eq_mod]
  omega
theorem zlast5 {L i : Nat} (hL : L ≤ 2563) (hi : i < 2 ^ 20) (h : ¬ nI L - 5 < nI i) : i + 5 ≤ L := by
  by_cases h5 : 5 ≤ L
  · have e : nI L - 5 = nI (L - 5) := by
      have h1 : nI (L - 5) + 5 = nI L := by
        rw [show (5 : Int32) = nI 5 from rfl, nI_add, Nat.sub_add_cancel h5]
      rw [← h1, Int32.add_sub_cancel]
    rw [e] at h
    have := Decidable.byContradiction (fun q : ¬ i ≤ L - 5 => h (nI_lt (by omega) (by omega)))
    omega
  · exfalso
    apply h
    have hn : nI L - 5 < 0 := by
      rcases (show L = 0 ∨ L = 1 ∨ L = 2 ∨ L = 3 ∨ L = 4 by omega) with q | q | q | q | q <;> subst q <;> decide
    have hp : 0 ≤ nI i := nI_pos' (by omega)
    exact Int32.lt_of_lt_of_le hn hp
set_option maxHeartbeats 4000000 in
set_option maxRecDepth 100000 in
theorem law_loop {g : ZG} {W9 : ZW9} {Q9 : ZQ9} {w h : Nat} {ly : Int32} (hGC : zGC W9.1 (w * h) (fcA w h)) (hGM : zGM W9.2.1) (hL9 : W9.2.2.2.1 ≤ 2563) (hend : ∀ (ls : ZLS) (μ m : ZMem), zLW g W9 Q9 zKL 1289 ls [] (μ, m)) :
    ∀ (f i j n : Nat) (μ m : ZMem), i = 3 + 5 * j → n ≤ 200 * j → W9.2.2.2.1 + 8 ≤ i + f → j ≤ 600 → zLI W9.1 n w h ly μ m → zLW g W9 Q9 zKL 48 (zls [(0, zr (some 0)), (1, zr (some 1)), (2, zr (some 2)), (3, zi (nI i))]) [] (μ, m) := by
  intro f
  induction f with
  | zero =>
    intro i j n μ m hi hn hf hj H
    refine zq_iload_n dL_law_48 rfl rfl ?_
    refine zq_aload_n dL_law_49 rfl rfl ?_
    refine zq_slen dL_law_50 ?_
    refine zq_iconst 5 dL_law_51 (by decide) ?_
    refine zq_isub dL_law_52 ?_
    refine zq_icmp_gt (tgt := 1289) dL_law_53 (by decide) (fun _ => hend _ _ _) (fun h_ => ?_)
    have := zlast5 hL9 (by omega) h_
    omega
  | succ f ih =>
    intro i j n μ m hi hn hf hj H
    refine zq_iload_n dL_law_48 rfl rfl ?_
    refine zq_aload_n dL_law_49 rfl rfl ?_
    refine zq_slen dL_law_50 ?_
    refine zq_iconst 5 dL_law_51 (by decide) ?_
    refine zq_isub dL_law_52 ?_
    refine zq_icmp_gt (tgt := 1289) dL_law_53 (by decide) (fun _ => hend _ _ _) (fun h_ => ?_)
    have hi5 := zlast5 hL9 (by omega) h_
    have hn2 : n + 200 < 2 ^ 17 := by omega
    have kk : ∀ n' μ' m', n' ≤ n + 200 → zLI W9.1 n' w h ly μ' m' → zLW g W9 Q9 zKL 1283 (zls [(0, zr (some 0)), (1, zr (some 1)), (2, zr (some 2)), (3, zi (nI i))]) [] (μ', m') := fun n' μ' m' hn' H' => by
      refine zq_iinc (nI (i + 5)) dL_law_1283 rfl (nI_add i 5) (Nat.le_of_ble_eq_true rfl) ?_
      refine zq_goto (tgt := 48) dL_law_1286 (by decide) ?_
      exact zLW_to (ih (i + 5) (j + 1) n' μ' m' (by omega) (by omega) (by omega) (by omega) H') ⟨rfl, rfl, rfl, rfl, trivial⟩
    refine zq_aload_n dL_law_56 rfl rfl ?_
    refine zq_iload_n dL_law_57 rfl rfl ?_
    refine zq_sald i rfl ⟨by omega, hL9⟩ dL_law_58 ?_
    refine zq_bipush 31 dL_law_59 (by decide) ?_
    refine zq_iand dL_law_61 ?_
    obtain ⟨c, hc, ec⟩ := zand31 (W9.2.2.2.2 i)
    rw [ec]
    rcases (show c = 0 ∨ c = 1 ∨ c = 2 ∨ c = 3 ∨ c = 4 ∨ c = 5 ∨ c = 6 ∨ c = 7 ∨ c = 8 ∨ c = 9 ∨ c = 10 ∨ c = 11 ∨ c = 12 ∨ c = 13 ∨ c = 14 ∨ c = 15 ∨ c = 16 ∨ c = 17 ∨ c = 18 ∨ c = 19 ∨ c = 20 ∨ c = 21 ∨ c = 22 ∨ 23 ≤ c by omega) with q | q | q | q | q | q | q | q | q | q | q | q | q | q | q | q | q | q | q | q | q | q | q | q
    · subst q
      refine zq_tableIn (tgt := 168) dL_law_62 (by decide) (by decide) (off := 106) (by decide +kernel) (by decide) ?_
      exact zLW_to (law_depth hGC hGM hi5 hL9 hn2 H kk) ⟨rfl, rfl, rfl, rfl, trivial⟩
    · subst q
      refine zq_tableIn (tgt := 221) dL_law_62 (by decide) (by decide) (off := 159) (by decide +kernel) (by decide) ?_
      exact zLW_to (law_border hGC hGM hi5 hL9 hn2 H kk) ⟨rfl, rfl, rfl, rfl, trivial⟩
    · subst q
      refine zq_tableIn (tgt := 294) dL_law_62 (by decide) (by decide) (off := 232) (by decide +kernel) (by decide) ?_
      exact zLW_to (law_wind hGC hGM hi5 hL9 hn2 H kk) ⟨rfl, rfl, rfl, rfl, trivial⟩
    · subst q
      refine zq_tableIn (tgt := 357) dL_law_62 (by decide) (by decide) (off := 295) (by decide +kernel) (by decide) ?_
      exact zLW_to (law_river hGC hGM hi5 hL9 hn2 H kk) ⟨rfl, rfl, rfl, rfl, trivial⟩
    · subst q
      refine zq_tableIn (tgt := 410) dL_law_62 (by decide) (by decide) (off := 348) (by decide +kernel) (by decide) ?_
      exact zLW_to (law_run hGC hGM hi5 hL9 hn2 H kk) ⟨rfl, rfl, rfl, rfl, trivial⟩
    · subst q
      refine zq_tableIn (tgt := 453) dL_law_62 (by decide) (by decide) (off := 391) (by decide +kernel) (by decide) ?_
      exact zLW_to (law_level hGC hGM hi5 hL9 hn2 H kk) ⟨rfl, rfl, rfl, rfl, trivial⟩
    · subst q
      refine zq_tableIn (tgt := 514) dL_law_62 (by decide) (by decide) (off := 452) (by decide +kernel) (by decide) ?_
      exact zLW_to (law_speed hGC hGM hi5 hL9 hn2 H kk) ⟨rfl, rfl, rfl, rfl, trivial⟩
    · subst q
      refine zq_tableIn (tgt := 595) dL_law_62 (by decide) (by decide) (off := 533) (by decide +kernel) (by decide) ?_
      exact zLW_to (law_volume hGC hGM hi5 hL9 hn2 H kk) ⟨rfl, rfl, rfl, rfl, trivial⟩
    · subst q
      refine zq_tableIn (tgt := 619) dL_law_62 (by decide) (by decide) (off := 557) (by decide +kernel) (by decide) ?_
      exact zLW_to (law_through hGC hGM hi5 hL9 hn2 H kk) ⟨rfl, rfl, rfl, rfl, trivial⟩
    · subst q
      refine zq_tableIn (tgt := 653) dL_law_62 (by decide) (by decide) (off := 591) (by decide +kernel) (by decide) ?_
      exact zLW_to (law_kept hGC hGM hi5 hL9 hn2 H kk) ⟨rfl, rfl, rfl, rfl, trivial⟩
    · subst q
      refine zq_tableIn (tgt := 666) dL_law_62 (by decide) (by decide) (off := 604) (by decide +kernel) (by decide) ?_
      exact zLW_to (law_warm hGC hGM hi5 hL9 hn2 H kk) ⟨rfl, rfl, rfl, rfl, trivial⟩
    · subst q
      refine zq_tableIn (tgt := 737) dL_law_62 (by decide) (by decide) (off := 675) (by decide +kernel) (by decide) ?_
      exact zLW_to (law_salt hGC hGM hi5 hL9 hn2 H kk) ⟨rfl, rfl, rfl, rfl, trivial⟩
    · subst q
      refine zq_tableIn (tgt := 808) dL_law_62 (by decide) (by decide) (off := 746) (by decide +kernel) (by decide) ?_
      exact zLW_to (law_dry hGC hGM hi5 hL9 hn2 H kk) ⟨rfl, rfl, rfl, rfl, trivial⟩
    · subst q
      refine zq_tableIn (tgt := 841) dL_law_62 (by decide) (by decide) (off := 779) (by decide +kernel) (by decide) ?_
      exact zLW_to (law_nest hGC hGM hi5 hL9 hn2 H kk) ⟨rfl, rfl, rfl, rfl, trivial⟩
    · subst q
      refine zq_tableIn (tgt := 884) dL_law_62 (by decide) (by decide) (off := 822) (by decide +kernel) (by decide) ?_
      exact zLW_to (law_equal hGC hGM hi5 hL9 hn2 H kk) ⟨rfl, rfl, rfl, rfl, trivial⟩
    · subst q
      refine zq_tableIn (tgt := 907) dL_law_62 (by decide) (by decide) (off := 845) (by decide +kernel) (by decide) ?_
      exact zLW_to (law_fit hGC hGM hi5 hL9 hn2 H kk) ⟨rfl, rfl, rfl, rfl, trivial⟩
    · subst q
      refine zq_tableIn (tgt := 930) dL_law_62 (by decide) (by decide) (off := 868) (by decide +kernel) (by decide) ?_
      exact zLW_to (law_gauge hGC hGM hi5 hL9 hn2 H kk) ⟨rfl, rfl, rfl, rfl, trivial⟩
    · subst q
      refine zq_tableIn (tgt := 1003) dL_law_62 (by decide) (by decide) (off := 941) (by decide +kernel) (by decide) ?_
      exact zLW_to (law_tide hGC hGM hi5 hL9 hn2 H kk) ⟨rfl, rfl, rfl, rfl, trivial⟩
    · subst q
      refine zq_tableIn (tgt := 1064) dL_law_62 (by decide) (by decide) (off := 1002) (by decide +kernel) (by decide) ?_
      exact zLW_to (law_save hGC hGM hi5 hL9 hn2 H kk) ⟨rfl, rfl, rfl, rfl, trivial⟩
    · subst q
      refine zq_tableIn (tgt := 1077) dL_law_62 (by decide) (by decide) (off := 1015) (by decide +kernel) (by decide) ?_
      exact zLW_to (law_back hGC hGM hi5 hL9 hn2 H kk) ⟨rfl, rfl, rfl, rfl, trivial⟩
    · subst q
      refine zq_tableIn (tgt := 1100) dL_law_62 (by decide) (by decide) (off := 1038) (by decide +kernel) (by decide) ?_
      exact zLW_to (law_ice hGC hGM hi5 hL9 hn2 H kk) ⟨rfl, rfl, rfl, rfl, trivial⟩
    · subst q
      refine zq_tableIn (tgt := 1161) dL_law_62 (by decide) (by decide) (off := 1099) (by decide +kernel) (by decide) ?_
      exact zLW_to (law_mud hGC hGM hi5 hL9 hn2 H kk) ⟨rfl, rfl, rfl, rfl, trivial⟩
    · subst q
      refine zq_tableIn (tgt := 1222) dL_law_62 (by decide) (by decide) (off := 1160) (by decide +kernel) (by decide) ?_
      exact zLW_to (law_differs hGC hGM hi5 hL9 hn2 H kk) ⟨rfl, rfl, rfl, rfl, trivial⟩
    · refine zq_tableOut (tgt := 1283) dL_law_62 (Or.inr (by rw [nI_toInt (by omega)]; omega)) (by decide) ?_
      exact zLW_to (kk n μ m (by omega) H) ⟨rfl, rfl, rfl, rfl, trivial⟩
