/-! what was kept -/
noncomputable def jn (k i : Nat) (c : Int) : Bool := match gS JB k with
  | some s => (match s.2.2.1[i]? with
    | some (.inl (.inl (.inl x))) => decide (x = c)
    | _ => false)
  | none => false
theorem jn_s {h : AH} {k i : Nat} {c : Int} (hJ : k_H JB h) (h1 : jn k i c = true) : hV h k i = vI c := by
  unfold jn at h1
  split at h1
  · rename_i s hs
    split at h1
    · rename_i x he
      have q := ((hJ.2.2 k s hs).2.1 i _ he).2
      rw [← of_decide_eq_true h1]
      exact q
    · cases h1
  · cases h1
theorem jst : (jK 1000000 20 6 = true ∧ jK 1000001 20 6 = true ∧ jK 1000002 20 6 = true) ∧ (jn 1000000 0 0 = true ∧ jn 1000000 1 15 = true ∧ jn 1000000 2 23 = true ∧ jn 1000000 3 28 = true ∧ jn 1000000 4 32 = true ∧ jn 1000000 5 43 = true) ∧ (jn 1000001 0 32767 = true ∧ jn 1000001 1 255 = true ∧ jn 1000001 2 31 = true ∧ jn 1000001 3 15 = true ∧ jn 1000001 4 2047 = true ∧ jn 1000001 5 3 = true) ∧ (jn 1000002 0 (-9999) = true ∧ jn 1000002 1 (-99) = true ∧ jn 1000002 2 (-9) = true ∧ jn 1000002 3 0 = true ∧ jn 1000002 4 (-600) = true ∧ jn 1000002 5 (-1) = true) := by decide +kernel
def stK (g : AH) : Prop := (hK g 1000000 = (20, 6) ∧ hK g 1000001 = (20, 6) ∧ hK g 1000002 = (20, 6)) ∧ (hV g 1000000 0 = vI 0 ∧ hV g 1000000 1 = vI 15 ∧ hV g 1000000 2 = vI 23 ∧ hV g 1000000 3 = vI 28 ∧ hV g 1000000 4 = vI 32 ∧ hV g 1000000 5 = vI 43) ∧ (hV g 1000001 0 = vI 32767 ∧ hV g 1000001 1 = vI 255 ∧ hV g 1000001 2 = vI 31 ∧ hV g 1000001 3 = vI 15 ∧ hV g 1000001 4 = vI 2047 ∧ hV g 1000001 5 = vI 3) ∧ (hV g 1000002 0 = vI (-9999) ∧ hV g 1000002 1 = vI (-99) ∧ hV g 1000002 2 = vI (-9) ∧ hV g 1000002 3 = vI 0 ∧ hV g 1000002 4 = vI (-600) ∧ hV g 1000002 5 = vI (-1))
theorem stK_J {g : AH} (hJ : k_H JB g) : stK g := by
  obtain ⟨⟨j1, j2, j3⟩, jA, jB, jC⟩ := jst
  exact ⟨⟨jK_s hJ j1, jK_s hJ j2, jK_s hJ j3⟩, ⟨jn_s hJ jA.1, jn_s hJ jA.2.1, jn_s hJ jA.2.2.1, jn_s hJ jA.2.2.2.1, jn_s hJ jA.2.2.2.2.1, jn_s hJ jA.2.2.2.2.2⟩, ⟨jn_s hJ jB.1, jn_s hJ jB.2.1, jn_s hJ jB.2.2.1, jn_s hJ jB.2.2.2.1, jn_s hJ jB.2.2.2.2.1, jn_s hJ jB.2.2.2.2.2⟩, ⟨jn_s hJ jC.1, jn_s hJ jC.2.1, jn_s hJ jC.2.2.1, jn_s hJ jC.2.2.2.1, jn_s hJ jC.2.2.2.2.1, jn_s hJ jC.2.2.2.2.2⟩⟩
theorem stK_L {h : AH} {sf : Nat → Int} (hs : stK h) : stK (hL h sf) := by
  unfold stK at *
  rw [hK_L]
  simp only [hL_n (h := h) (sf := sf) (show 1000000 ≠ 60 by decide), hL_n (h := h) (sf := sf) (show 1000001 ≠ 60 by decide), hL_n (h := h) (sf := sf) (show 1000002 ≠ 60 by decide)]
  exact hs
theorem land_0 (x : Int) : land x 32767 = x % 32768 := by
  unfold land
  have e3 : BitVec.ofInt 64 32767 = BitVec.ofNat 64 32767 := rfl
  rw [e3]
  have e4 : (BitVec.ofInt 64 x &&& BitVec.ofNat 64 32767).toNat = (BitVec.ofInt 64 x).toNat % 32768 := by
    rw [BitVec.toNat_and, BitVec.toNat_ofNat, show 32767 % 2 ^ 64 = 2 ^ 15 - 1 by decide, Nat.and_two_pow_sub_one_eq_mod]
  rw [BitVec.toInt_eq_toNat_of_lt (by rw [e4]; omega), e4, BitVec.toNat_ofInt]
  have e5 : ((2 ^ 64 : Nat) : Int) = 18446744073709551616 := by decide
  rw [e5]
  omega
theorem land_1 (x : Int) : land x 255 = x % 256 := by
  unfold land
  have e3 : BitVec.ofInt 64 255 = BitVec.ofNat 64 255 := rfl
  rw [e3]
  have e4 : (BitVec.ofInt 64 x &&& BitVec.ofNat 64 255).toNat = (BitVec.ofInt 64 x).toNat % 256 := by
    rw [BitVec.toNat_and, BitVec.toNat_ofNat, show 255 % 2 ^ 64 = 2 ^ 8 - 1 by decide, Nat.and_two_pow_sub_one_eq_mod]
  rw [BitVec.toInt_eq_toNat_of_lt (by rw [e4]; omega), e4, BitVec.toNat_ofInt]
  have e5 : ((2 ^ 64 : Nat) : Int) = 18446744073709551616 := by decide
  rw [e5]
  omega
theorem land_2 (x : Int) : land x 31 = x % 32 := by
  unfold land
  have e3 : BitVec.ofInt 64 31 = BitVec.ofNat 64 31 := rfl
  rw [e3]
  have e4 : (BitVec.ofInt 64 x &&& BitVec.ofNat 64 31).toNat = (BitVec.ofInt 64 x).toNat % 32 := by
    rw [BitVec.toNat_and, BitVec.toNat_ofNat, show 31 % 2 ^ 64 = 2 ^ 5 - 1 by decide, Nat.and_two_pow_sub_one_eq_mod]
  rw [BitVec.toInt_eq_toNat_of_lt (by rw [e4]; omega), e4, BitVec.toNat_ofInt]
  have e5 : ((2 ^ 64 : Nat) : Int) = 18446744073709551616 := by decide
  rw [e5]
  omega
theorem land_3 (x : Int) : land x 15 = x % 16 := by
  unfold land
  have e3 : BitVec.ofInt 64 15 = BitVec.ofNat 64 15 := rfl
  rw [e3]
  have e4 : (BitVec.ofInt 64 x &&& BitVec.ofNat 64 15).toNat = (BitVec.ofInt 64 x).toNat % 16 := by
    rw [BitVec.toNat_and, BitVec.toNat_ofNat, show 15 % 2 ^ 64 = 2 ^ 4 - 1 by decide, Nat.and_two_pow_sub_one_eq_mod]
  rw [BitVec.toInt_eq_toNat_of_lt (by rw [e4]; omega), e4, BitVec.toNat_ofInt]
  have e5 : ((2 ^ 64 : Nat) : Int) = 18446744073709551616 := by decide
  rw [e5]
  omega
theorem land_4 (x : Int) : land x 2047 = x % 2048 := by
  unfold land
  have e3 : BitVec.ofInt 64 2047 = BitVec.ofNat 64 2047 := rfl
  rw [e3]
  have e4 : (BitVec.ofInt 64 x &&& BitVec.ofNat 64 2047).toNat = (BitVec.ofInt 64 x).toNat % 2048 := by
    rw [BitVec.toNat_and, BitVec.toNat_ofNat, show 2047 % 2 ^ 64 = 2 ^ 11 - 1 by decide, Nat.and_two_pow_sub_one_eq_mod]
  rw [BitVec.toInt_eq_toNat_of_lt (by rw [e4]; omega), e4, BitVec.toNat_ofInt]
  have e5 : ((2 ^ 64 : Nat) : Int) = 18446744073709551616 := by decide
  rw [e5]
  omega
theorem land_5 (x : Int) : land x 3 = x % 4 := by
  unfold land
  have e3 : BitVec.ofInt 64 3 = BitVec.ofNat 64 3 := rfl
  rw [e3]
  have e4 : (BitVec.ofInt 64 x &&& BitVec.ofNat 64 3).toNat = (BitVec.ofInt 64 x).toNat % 4 := by
    rw [BitVec.toNat_and, BitVec.toNat_ofNat, show 3 % 2 ^ 64 = 2 ^ 2 - 1 by decide, Nat.and_two_pow_sub_one_eq_mod]
  rw [BitVec.toInt_eq_toNat_of_lt (by rw [e4]; omega), e4, BitVec.toNat_ofInt]
  have e5 : ((2 ^ 64 : Nat) : Int) = 18446744073709551616 := by decide
  rw [e5]
  omega
def prW (r : Int) (w : Nat) : Int := if w = 0 then r % 32768 - 9999 else if w = 1 then r / 32768 % 256 - 99 else if w = 2 then r / 8388608 % 32 - 9 else if w = 3 then r / 268435456 % 16 else if w = 4 then r / 4294967296 % 2048 - 600 else r / 8796093022208 % 4 - 1
theorem prW_r (r : Int) (w : Nat) : rngV (prW r w) := by unfold prW rngV; (repeat' split) <;> omega
theorem tm_n (t s : Nat) : Int.tmod (t : Int) (s : Int) = ((t % s : Nat) : Int) := by rw [Int.tmod_eq_emod_of_nonneg (by omega)]; rfl
theorem E_kp0 {d : Nat} {g : AH} (hJ : stK g) {K R sz : Nat} (k0 : hK g K = (1, 0) ∧ hK g R = (12, sz)) (k1 : hV g K 0 = vR R ∧ hV g K 1 = vI (sz : Int)) (hz : 0 < sz) {t : Nat} {r : Int} (hr : hV g R (t % sz) = vL r) (Q : Option AV → AH → Prop) : XC (d + 1) 29 [vR K, vI (t : Int), vI 0] g Q = Q (some (vI (prW r 0))) g := by
  refine XC_eq (Nat.le_of_ble_eq_true rfl) ?_ Q
  show XP d 29 0 [some (vR K), some (vI (t : Int)), some (vI 0)] [] g _
  obtain ⟨⟨s1, s2, s3⟩, jA, jB, jC⟩ := hJ
  have v1 := jA.1
  have v2 := jB.1
  have v3 := jC.1
  have z0 : ¬ (t : Int) < 0 := by omega
  have z1 : ¬ ((sz : Nat) : Int) = 0 := by omega
  have b1 : (0 : Int) ≤ ((t % sz : Nat) : Int) ∧ ((t % sz : Nat) : Int) < (sz : Int) := by
    have := Nat.mod_lt t hz
    omega
  have e2 : lshr r 0 = r := by
    unfold lshr
    have e : (2 : Int) ^ ((0 : Int) % 64).toNat = 1 := by decide
    rw [e]; exact Int.ediv_one r
  have e3 := land_0 (r)
  have w1 : WE (r % 32768) (r % 32768) := by unfold WE w32; omega
  have w2 : WE (r % 32768 + (-9999)) (prW r 0) := by
    show w32 _ = r % 32768 - 9999
    unfold w32; omega
  have tm := tm_n t sz
  refine xpk_sound (stops := []) (n := 40) ?_
  simp only [sk_0, sk_1, sk_2, sk_3, sk_4, sk_5, sk_6, sk_7, sk_8, sk_iadd, sk_isub, sk_imul, sk_iand, sk_ior, sk_ixor, sk_ishl, sk_ishr, sk_iushr, sk_idiv, sk_irem, sk_ineg, sk_ladd, sk_lsub, sk_lmul, sk_land, sk_lor, sk_ldiv, sk_lrem, sk_lneg, sk_lshl, sk_lshr, sk_i2l, sk_l2i, sk_lcmp, sk_dupI, sk_dupR, sk_dup2L, sk_dup2I, sk_popI, sk_ifeq, sk_ifne, sk_iflt, sk_ifge, sk_ifgt, sk_ifle, sk_iceq, sk_icne, sk_iclt, sk_icge, sk_icgt, sk_icle, sk_goto, sk_getf, sk_putf, sk_gets, sk_iald, sk_lald, sk_bald, sk_aald, sk_iast, sk_last, sk_bast, sk_aast, sk_alen, sk_newa, sk_newt, sk_new, sk_cs1, sk_cs2, sk_cs3, sk_cs4, sk_cs5, sk_cs6, sk_cv1, sk_cv2, sk_cv3, sk_cv4, sk_cv5, sk_cv6, sk_ci1, sk_ci2, sk_ci3, sk_ret0, sk_retI, sk_retL, sk_retR, sk_sw, sk_oin, sk_max, sk_min, sk_abs, lI_0, lI_s, lL_0, lL_s, lR_0, lR_s, vIo_e, vLo_e, vOo_e, stW_I, stW_L, stW_R, stW_0, stW_z, okSt_0, okSt_s, hV_eq, hK_eq, okF_0, okF_1, okF_3, is01_0, is01_1, is01_i, Int.toNat_natCast, Int.reduceEq, Int.reduceLE, Int.reduceLT, Int.reduceNeg, Nat.reduceLT, not_true_eq_false, not_false_eq_true, reduceIte, Option.toList, List.cons_append, List.nil_append, List.set_cons_zero, List.set_cons_succ, List.not_mem_nil, List.mem_cons, if_false, if_true, ite_true, ite_false, and_self, and_true, true_and, Nat.reduceAdd, Nat.reduceLeDiff, Nat.reduceEqDiff, Nat.zero_add, Nat.le_refl, Nat.zero_le, or_false, false_or, Int.reduceToNat, or_true, true_or, eq_self, and_false, false_and, inR_d, nc_4, nc_5, nc_6, nc_7, nc_8, nc_16, nc_18, nc_20, nc_24, nc_32, nc_40, nc_64, nc_104, nc_120, nc_160, nc_256, nc_300, nc_330, nc_390, nc_1200, nc_1260, nc_3012, nc_9834, okSt_1i, okSt_1r, okSt_1n, List.length_cons, List.length_nil, xpk_succ cd_29_0, xpk_succ cd_29_1, xpk_succ cd_29_4, xpk_succ cd_29_5, xpk_succ cd_29_8, xpk_succ cd_29_9, xpk_succ cd_29_11, xpk_succ cd_29_14, xpk_succ cd_29_15, xpk_succ cd_29_16, xpk_succ cd_29_17, xpk_succ cd_29_20, xpk_succ cd_29_21, xpk_succ cd_29_22, xpk_succ cd_29_25, xpk_succ cd_29_26, xpk_succ cd_29_27, xpk_succ cd_29_30, xpk_succ cd_29_31, xpk_succ cd_29_32, xpk_succ cd_29_33, xpk_succ cd_29_36, xpk_succ cd_29_37, xpk_succ cd_29_38, xpk_succ cd_29_39, xpk_succ cd_29_40, xpk_succ cd_29_41, xpk_succ cd_29_44, xpk_succ cd_29_45, xpk_succ cd_29_46, xpk_succ cd_29_47, k0.1, k0.2, k1.1, k1.2, hr, s1, s2, s3, v1, v2, v3, z0, z1, b1, e2, e3, (WE_e w1), (WE_e w2), tm]
theorem E_kp1 {d : Nat} {g : AH} (hJ : stK g) {K R sz : Nat} (k0 : hK g K = (1, 0) ∧ hK g R = (12, sz)) (k1 : hV g K 0 = vR R ∧ hV g K 1 = vI (sz : Int)) (hz : 0 < sz) {t : Nat} {r : Int} (hr : hV g R (t % sz) = vL r) (Q : Option AV → AH → Prop) : XC (d + 1) 29 [vR K, vI (t : Int), vI 1] g Q = Q (some (vI (prW r 1))) g := by
  refine XC_eq (Nat.le_of_ble_eq_true rfl) ?_ Q
  show XP d 29 0 [some (vR K), some (vI (t : Int)), some (vI 1)] [] g _
  obtain ⟨⟨s1, s2, s3⟩, jA, jB, jC⟩ := hJ
  have v1 := jA.2.1
  have v2 := jB.2.1
  have v3 := jC.2.1
  have z0 : ¬ (t : Int) < 0 := by omega
  have z1 : ¬ ((sz : Nat) : Int) = 0 := by omega
  have b1 : (0 : Int) ≤ ((t % sz : Nat) : Int) ∧ ((t % sz : Nat) : Int) < (sz : Int) := by
    have := Nat.mod_lt t hz
    omega
  have e2 : lshr r 15 = r / 32768 := by
    unfold lshr
    have e : (2 : Int) ^ ((15 : Int) % 64).toNat = 32768 := by decide
    rw [e]
  have e3 := land_1 (r / 32768)
  have w1 : WE (r / 32768 % 256) (r / 32768 % 256) := by unfold WE w32; omega
  have w2 : WE (r / 32768 % 256 + (-99)) (prW r 1) := by
    show w32 _ = r / 32768 % 256 - 99
    unfold w32; omega
  have tm := tm_n t sz
  refine xpk_sound (stops := []) (n := 40) ?_
  simp only [sk_0, sk_1, sk_2, sk_3, sk_4, sk_5, sk_6, sk_7, sk_8, sk_iadd, sk_isub, sk_imul, sk_iand, sk_ior, sk_ixor, sk_ishl, sk_ishr, sk_iushr, sk_idiv, sk_irem, sk_ineg, sk_ladd, sk_lsub, sk_lmul, sk_land, sk_lor, sk_ldiv, sk_lrem, sk_lneg, sk_lshl, sk_lshr, sk_i2l, sk_l2i, sk_lcmp, sk_dupI, sk_dupR, sk_dup2L, sk_dup2I, sk_popI, sk_ifeq, sk_ifne, sk_iflt, sk_ifge, sk_ifgt, sk_ifle, sk_iceq, sk_icne, sk_iclt, sk_icge, sk_icgt, sk_icle, sk_goto, sk_getf, sk_putf, sk_gets, sk_iald, sk_lald, sk_bald, sk_aald, sk_iast, sk_last, sk_bast, sk_aast, sk_alen, sk_newa, sk_newt, sk_new, sk_cs1, sk_cs2, sk_cs3, sk_cs4, sk_cs5, sk_cs6, sk_cv1, sk_cv2, sk_cv3, sk_cv4, sk_cv5, sk_cv6, sk_ci1, sk_ci2, sk_ci3, sk_ret0, sk_retI, sk_retL, sk_retR, sk_sw, sk_oin, sk_max, sk_min, sk_abs, lI_0, lI_s, lL_0, lL_s, lR_0, lR_s, vIo_e, vLo_e, vOo_e, stW_I, stW_L, stW_R, stW_0, stW_z, okSt_0, okSt_s, hV_eq, hK_eq, okF_0, okF_1, okF_3, is01_0, is01_1, is01_i, Int.toNat_natCast, Int.reduceEq, Int.reduceLE, Int.reduceLT, Int.reduceNeg, Nat.reduceLT, not_true_eq_false, not_false_eq_true, reduceIte, Option.toList, List.cons_append, List.nil_append, List.set_cons_zero, List.set_cons_succ, List.not_mem_nil, List.mem_cons, if_false, if_true, ite_true, ite_false, and_self, and_true, true_and, Nat.reduceAdd, Nat.reduceLeDiff, Nat.reduceEqDiff, Nat.zero_add, Nat.le_refl, Nat.zero_le, or_false, false_or, Int.reduceToNat, or_true, true_or, eq_self, and_false, false_and, inR_d, nc_4, nc_5, nc_6, nc_7, nc_8, nc_16, nc_18, nc_20, nc_24, nc_32, nc_40, nc_64, nc_104, nc_120, nc_160, nc_256, nc_300, nc_330, nc_390, nc_1200, nc_1260, nc_3012, nc_9834, okSt_1i, okSt_1r, okSt_1n, List.length_cons, List.length_nil, xpk_succ cd_29_0, xpk_succ cd_29_1, xpk_succ cd_29_4, xpk_succ cd_29_5, xpk_succ cd_29_8, xpk_succ cd_29_9, xpk_succ cd_29_11, xpk_succ cd_29_14, xpk_succ cd_29_15, xpk_succ cd_29_16, xpk_succ cd_29_17, xpk_succ cd_29_20, xpk_succ cd_29_21, xpk_succ cd_29_22, xpk_succ cd_29_25, xpk_succ cd_29_26, xpk_succ cd_29_27, xpk_succ cd_29_30, xpk_succ cd_29_31, xpk_succ cd_29_32, xpk_succ cd_29_33, xpk_succ cd_29_36, xpk_succ cd_29_37, xpk_succ cd_29_38, xpk_succ cd_29_39, xpk_succ cd_29_40, xpk_succ cd_29_41, xpk_succ cd_29_44, xpk_succ cd_29_45, xpk_succ cd_29_46, xpk_succ cd_29_47, k0.1, k0.2, k1.1, k1.2, hr, s1, s2, s3, v1, v2, v3, z0, z1, b1, e2, e3, (WE_e w1), (WE_e w2), tm]
theorem E_kp2 {d : Nat} {g : AH} (hJ : stK g) {K R sz : Nat} (k0 : hK g K = (1, 0) ∧ hK g R = (12, sz)) (k1 : hV g K 0 = vR R ∧ hV g K 1 = vI (sz : Int)) (hz : 0 < sz) {t : Nat} {r : Int} (hr : hV g R (t % sz) = vL r) (Q : Option AV → AH → Prop) : XC (d + 1) 29 [vR K, vI (t : Int), vI 2] g Q = Q (some (vI (prW r 2))) g := by
  refine XC_eq (Nat.le_of_ble_eq_true rfl) ?_ Q
  show XP d 29 0 [some (vR K), some (vI (t : Int)), some (vI 2)] [] g _
  obtain ⟨⟨s1, s2, s3⟩, jA, jB, jC⟩ := hJ
  have v1 := jA.2.2.1
  have v2 := jB.2.2.1
  have v3 := jC.2.2.1
  have z0 : ¬ (t : Int) < 0 := by omega
  have z1 : ¬ ((sz : Nat) : Int) = 0 := by omega
  have b1 : (0 : Int) ≤ ((t % sz : Nat) : Int) ∧ ((t % sz : Nat) : Int) < (sz : Int) := by
    have := Nat.mod_lt t hz
    omega
  have e2 : lshr r 23 = r / 8388608 := by
    unfold lshr
    have e : (2 : Int) ^ ((23 : Int) % 64).toNat = 8388608 := by decide
    rw [e]
  have e3 := land_2 (r / 8388608)
  have w1 : WE (r / 8388608 % 32) (r / 8388608 % 32) := by unfold WE w32; omega
  have w2 : WE (r / 8388608 % 32 + (-9)) (prW r 2) := by
    show w32 _ = r / 8388608 % 32 - 9
    unfold w32; omega
  have tm := tm_n t sz
  refine xpk_sound (stops := []) (n := 40) ?_
  simp only [sk_0, sk_1, sk_2, sk_3, sk_4, sk_5, sk_6, sk_7, sk_8, sk_iadd, sk_isub, sk_imul, sk_iand, sk_ior, sk_ixor, sk_ishl, sk_ishr, sk_iushr, sk_idiv, sk_irem, sk_ineg, sk_ladd, sk_lsub, sk_lmul, sk_land, sk_lor, sk_ldiv, sk_lrem, sk_lneg, sk_lshl, sk_lshr, sk_i2l, sk_l2i, sk_lcmp, sk_dupI, sk_dupR, sk_dup2L, sk_dup2I, sk_popI, sk_ifeq, sk_ifne, sk_iflt, sk_ifge, sk_ifgt, sk_ifle, sk_iceq, sk_icne, sk_iclt, sk_icge, sk_icgt, sk_icle, sk_goto, sk_getf, sk_putf, sk_gets, sk_iald, sk_lald, sk_bald, sk_aald, sk_iast, sk_last, sk_bast, sk_aast, sk_alen, sk_newa, sk_newt, sk_new, sk_cs1, sk_cs2, sk_cs3, sk_cs4, sk_cs5, sk_cs6, sk_cv1, sk_cv2, sk_cv3, sk_cv4, sk_cv5, sk_cv6, sk_ci1, sk_ci2, sk_ci3, sk_ret0, sk_retI, sk_retL, sk_retR, sk_sw, sk_oin, sk_max, sk_min, sk_abs, lI_0, lI_s, lL_0, lL_s, lR_0, lR_s, vIo_e, vLo_e, vOo_e, stW_I, stW_L, stW_R, stW_0, stW_z, okSt_0, okSt_s, hV_eq, hK_eq, okF_0, okF_1, okF_3, is01_0, is01_1, is01_i, Int.toNat_natCast, Int.reduceEq, Int.reduceLE, Int.reduceLT, Int.reduceNeg, Nat.reduceLT, not_true_eq_false, not_false_eq_true, reduceIte, Option.toList, List.cons_append, List.nil_append, List.set_cons_zero, List.set_cons_succ, List.not_mem_nil, List.mem_cons, if_false, if_true, ite_true, ite_false, and_self, and_true, true_and, Nat.reduceAdd, Nat.reduceLeDiff, Nat.reduceEqDiff, Nat.zero_add, Nat.le_refl, Nat.zero_le, or_false, false_or, Int.reduceToNat, or_true, true_or, eq_self, and_false, false_and, inR_d, nc_4, nc_5, nc_6, nc_7, nc_8, nc_16, nc_18, nc_20, nc_24, nc_32, nc_40, nc_64, nc_104, nc_120, nc_160, nc_256, nc_300, nc_330, nc_390, nc_1200, nc_1260, nc_3012, nc_9834, okSt_1i, okSt_1r, okSt_1n, List.length_cons, List.length_nil, xpk_succ cd_29_0, xpk_succ cd_29_1, xpk_succ cd_29_4, xpk_succ cd_29_5, xpk_succ cd_29_8, xpk_succ cd_29_9, xpk_succ cd_29_11, xpk_succ cd_29_14, xpk_succ cd_29_15, xpk_succ cd_29_16, xpk_succ cd_29_17, xpk_succ cd_29_20, xpk_succ cd_29_21, xpk_succ cd_29_22, xpk_succ cd_29_25, xpk_succ cd_29_26, xpk_succ cd_29_27, xpk_succ cd_29_30, xpk_succ cd_29_31, xpk_succ cd_29_32, xpk_succ cd_29_33, xpk_succ cd_29_36, xpk_succ cd_29_37, xpk_succ cd_29_38, xpk_succ cd_29_39, xpk_succ cd_29_40, xpk_succ cd_29_41, xpk_succ cd_29_44, xpk_succ cd_29_45, xpk_succ cd_29_46, xpk_succ cd_29_47, k0.1, k0.2, k1.1, k1.2, hr, s1, s2, s3, v1, v2, v3, z0, z1, b1, e2, e3, (WE_e w1), (WE_e w2), tm]
theorem E_kp3 {d : Nat} {g : AH} (hJ : stK g) {K R sz : Nat} (k0 : hK g K = (1, 0) ∧ hK g R = (12, sz)) (k1 : hV g K 0 = vR R ∧ hV g K 1 = vI (sz : Int)) (hz : 0 < sz) {t : Nat} {r : Int} (hr : hV g R (t % sz) = vL r) (Q : Option AV → AH → Prop) : XC (d + 1) 29 [vR K, vI (t : Int), vI 3] g Q = Q (some (vI (prW r 3))) g := by
  refine XC_eq (Nat.le_of_ble_eq_true rfl) ?_ Q
  show XP d 29 0 [some (vR K), some (vI (t : Int)), some (vI 3)] [] g _
  obtain ⟨⟨s1, s2, s3⟩, jA, jB, jC⟩ := hJ
  have v1 := jA.2.2.2.1
  have v2 := jB.2.2.2.1
  have v3 := jC.2.2.2.1
  have z0 : ¬ (t : Int) < 0 := by omega
  have z1 : ¬ ((sz : Nat) : Int) = 0 := by omega
  have b1 : (0 : Int) ≤ ((t % sz : Nat) : Int) ∧ ((t % sz : Nat) : Int) < (sz : Int) := by
    have := Nat.mod_lt t hz
    omega
  have e2 : lshr r 28 = r / 268435456 := by
    unfold lshr
    have e : (2 : Int) ^ ((28 : Int) % 64).toNat = 268435456 := by decide
    rw [e]
  have e3 := land_3 (r / 268435456)
  have w1 : WE (r / 268435456 % 16) (r / 268435456 % 16) := by unfold WE w32; omega
  have w2 : WE (r / 268435456 % 16 + 0) (prW r 3) := by
    show w32 _ = r / 268435456 % 16
    unfold w32; omega
  have tm := tm_n t sz
  refine xpk_sound (stops := []) (n := 40) ?_
  simp only [sk_0, sk_1, sk_2, sk_3, sk_4, sk_5, sk_6, sk_7, sk_8, sk_iadd, sk_isub, sk_imul, sk_iand, sk_ior, sk_ixor, sk_ishl, sk_ishr, sk_iushr, sk_idiv, sk_irem, sk_ineg, sk_ladd, sk_lsub, sk_lmul, sk_land, sk_lor, sk_ldiv, sk_lrem, sk_lneg, sk_lshl, sk_lshr, sk_i2l, sk_l2i, sk_lcmp, sk_dupI, sk_dupR, sk_dup2L, sk_dup2I, sk_popI, sk_ifeq, sk_ifne, sk_iflt, sk_ifge, sk_ifgt, sk_ifle, sk_iceq, sk_icne, sk_iclt, sk_icge, sk_icgt, sk_icle, sk_goto, sk_getf, sk_putf, sk_gets, sk_iald, sk_lald, sk_bald, sk_aald, sk_iast, sk_last, sk_bast, sk_aast, sk_alen, sk_newa, sk_newt, sk_new, sk_cs1, sk_cs2, sk_cs3, sk_cs4, sk_cs5, sk_cs6, sk_cv1, sk_cv2, sk_cv3, sk_cv4, sk_cv5, sk_cv6, sk_ci1, sk_ci2, sk_ci3, sk_ret0, sk_retI, sk_retL, sk_retR, sk_sw, sk_oin, sk_max, sk_min, sk_abs, lI_0, lI_s, lL_0, lL_s, lR_0, lR_s, vIo_e, vLo_e, vOo_e, stW_I, stW_L, stW_R, stW_0, stW_z, okSt_0, okSt_s, hV_eq, hK_eq, okF_0, okF_1, okF_3, is01_0, is01_1, is01_i, Int.toNat_natCast, Int.reduceEq, Int.reduceLE, Int.reduceLT, Int.reduceNeg, Nat.reduceLT, not_true_eq_false, not_false_eq_true, reduceIte, Option.toList, List.cons_append, List.nil_append, List.set_cons_zero, List.set_cons_succ, List.not_mem_nil, List.mem_cons, if_false, if_true, ite_true, ite_false, and_self, and_true, true_and, Nat.reduceAdd, Nat.reduceLeDiff, Nat.reduceEqDiff, Nat.zero_add, Nat.le_refl, Nat.zero_le, or_false, false_or, Int.reduceToNat, or_true, true_or, eq_self, and_false, false_and, inR_d, nc_4, nc_5, nc_6, nc_7, nc_8, nc_16, nc_18, nc_20, nc_24, nc_32, nc_40, nc_64, nc_104, nc_120, nc_160, nc_256, nc_300, nc_330, nc_390, nc_1200, nc_1260, nc_3012, nc_9834, okSt_1i, okSt_1r, okSt_1n, List.length_cons, List.length_nil, xpk_succ cd_29_0, xpk_succ cd_29_1, xpk_succ cd_29_4, xpk_succ cd_29_5, xpk_succ cd_29_8, xpk_succ cd_29_9, xpk_succ cd_29_11, xpk_succ cd_29_14, xpk_succ cd_29_15, xpk_succ cd_29_16, xpk_succ cd_29_17, xpk_succ cd_29_20, xpk_succ cd_29_21, xpk_succ cd_29_22, xpk_succ cd_29_25, xpk_succ cd_29_26, xpk_succ cd_29_27, xpk_succ cd_29_30, xpk_succ cd_29_31, xpk_succ cd_29_32, xpk_succ cd_29_33, xpk_succ cd_29_36, xpk_succ cd_29_37, xpk_succ cd_29_38, xpk_succ cd_29_39, xpk_succ cd_29_40, xpk_succ cd_29_41, xpk_succ cd_29_44, xpk_succ cd_29_45, xpk_succ cd_29_46, xpk_succ cd_29_47, k0.1, k0.2, k1.1, k1.2, hr, s1, s2, s3, v1, v2, v3, z0, z1, b1, e2, e3, (WE_e w1), (WE_e w2), tm]
theorem E_kp4 {d : Nat} {g : AH} (hJ : stK g) {K R sz : Nat} (k0 : hK g K = (1, 0) ∧ hK g R = (12, sz)) (k1 : hV g K 0 = vR R ∧ hV g K 1 = vI (sz : Int)) (hz : 0 < sz) {t : Nat} {r : Int} (hr : hV g R (t % sz) = vL r) (Q : Option AV → AH → Prop) : XC (d + 1) 29 [vR K, vI (t : Int), vI 4] g Q = Q (some (vI (prW r 4))) g := by
  refine XC_eq (Nat.le_of_ble_eq_true rfl) ?_ Q
  show XP d 29 0 [some (vR K), some (vI (t : Int)), some (vI 4)] [] g _
  obtain ⟨⟨s1, s2, s3⟩, jA, jB, jC⟩ := hJ
  have v1 := jA.2.2.2.2.1
  have v2 := jB.2.2.2.2.1
  have v3 := jC.2.2.2.2.1
  have z0 : ¬ (t : Int) < 0 := by omega
  have z1 : ¬ ((sz : Nat) : Int) = 0 := by omega
  have b1 : (0 : Int) ≤ ((t % sz : Nat) : Int) ∧ ((t % sz : Nat) : Int) < (sz : Int) := by
    have := Nat.mod_lt t hz
    omega
  have e2 : lshr r 32 = r / 4294967296 := by
    unfold lshr
    have e : (2 : Int) ^ ((32 : Int) % 64).toNat = 4294967296 := by decide
    rw [e]
  have e3 := land_4 (r / 4294967296)
  have w1 : WE (r / 4294967296 % 2048) (r / 4294967296 % 2048) := by unfold WE w32; omega
  have w2 : WE (r / 4294967296 % 2048 + (-600)) (prW r 4) := by
    show w32 _ = r / 4294967296 % 2048 - 600
    unfold w32; omega
  have tm := tm_n t sz
  refine xpk_sound (stops := []) (n := 40) ?_
  simp only [sk_0, sk_1, sk_2, sk_3, sk_4, sk_5, sk_6, sk_7, sk_8, sk_iadd, sk_isub, sk_imul, sk_iand, sk_ior, sk_ixor, sk_ishl, sk_ishr, sk_iushr, sk_idiv, sk_irem, sk_ineg, sk_ladd, sk_lsub, sk_lmul, sk_land, sk_lor, sk_ldiv, sk_lrem, sk_lneg, sk_lshl, sk_lshr, sk_i2l, sk_l2i, sk_lcmp, sk_dupI, sk_dupR, sk_dup2L, sk_dup2I, sk_popI, sk_ifeq, sk_ifne, sk_iflt, sk_ifge, sk_ifgt, sk_ifle, sk_iceq, sk_icne, sk_iclt, sk_icge, sk_icgt, sk_icle, sk_goto, sk_getf, sk_putf, sk_gets, sk_iald, sk_lald, sk_bald, sk_aald, sk_iast, sk_last, sk_bast, sk_aast, sk_alen, sk_newa, sk_newt, sk_new, sk_cs1, sk_cs2, sk_cs3, sk_cs4, sk_cs5, sk_cs6, sk_cv1, sk_cv2, sk_cv3, sk_cv4, sk_cv5, sk_cv6, sk_ci1, sk_ci2, sk_ci3, sk_ret0, sk_retI, sk_retL, sk_retR, sk_sw, sk_oin, sk_max, sk_min, sk_abs, lI_0, lI_s, lL_0, lL_s, lR_0, lR_s, vIo_e, vLo_e, vOo_e, stW_I, stW_L, stW_R, stW_0, stW_z, okSt_0, okSt_s, hV_eq, hK_eq, okF_0, okF_1, okF_3, is01_0, is01_1, is01_i, Int.toNat_natCast, Int.reduceEq, Int.reduceLE, Int.reduceLT, Int.reduceNeg, Nat.reduceLT, not_true_eq_false, not_false_eq_true, reduceIte, Option.toList, List.cons_append, List.nil_append, List.set_cons_zero, List.set_cons_succ, List.not_mem_nil, List.mem_cons, if_false, if_true, ite_true, ite_false, and_self, and_true, true_and, Nat.reduceAdd, Nat.reduceLeDiff, Nat.reduceEqDiff, Nat.zero_add, Nat.le_refl, Nat.zero_le, or_false, false_or, Int.reduceToNat, or_true, true_or, eq_self, and_false, false_and, inR_d, nc_4, nc_5, nc_6, nc_7, nc_8, nc_16, nc_18, nc_20, nc_24, nc_32, nc_40, nc_64, nc_104, nc_120, nc_160, nc_256, nc_300, nc_330, nc_390, nc_1200, nc_1260, nc_3012, nc_9834, okSt_1i, okSt_1r, okSt_1n, List.length_cons, List.length_nil, xpk_succ cd_29_0, xpk_succ cd_29_1, xpk_succ cd_29_4, xpk_succ cd_29_5, xpk_succ cd_29_8, xpk_succ cd_29_9, xpk_succ cd_29_11, xpk_succ cd_29_14, xpk_succ cd_29_15, xpk_succ cd_29_16, xpk_succ cd_29_17, xpk_succ cd_29_20, xpk_succ cd_29_21, xpk_succ cd_29_22, xpk_succ cd_29_25, xpk_succ cd_29_26, xpk_succ cd_29_27, xpk_succ cd_29_30, xpk_succ cd_29_31, xpk_succ cd_29_32, xpk_succ cd_29_33, xpk_succ cd_29_36, xpk_succ cd_29_37, xpk_succ cd_29_38, xpk_succ cd_29_39, xpk_succ cd_29_40, xpk_succ cd_29_41, xpk_succ cd_29_44, xpk_succ cd_29_45, xpk_succ cd_29_46, xpk_succ cd_29_47, k0.1, k0.2, k1.1, k1.2, hr, s1, s2, s3, v1, v2, v3, z0, z1, b1, e2, e3, (WE_e w1), (WE_e w2), tm]
theorem E_kp5 {d : Nat} {g : AH} (hJ : stK g) {K R sz : Nat} (k0 : hK g K = (1, 0) ∧ hK g R = (12, sz)) (k1 : hV g K 0 = vR R ∧ hV g K 1 = vI (sz : Int)) (hz : 0 < sz) {t : Nat} {r : Int} (hr : hV g R (t % sz) = vL r) (Q : Option AV → AH → Prop) : XC (d + 1) 29 [vR K, vI (t : Int), vI 5] g Q = Q (some (vI (prW r 5))) g := by
  refine XC_eq (Nat.le_of_ble_eq_true rfl) ?_ Q
  show XP d 29 0 [some (vR K), some (vI (t : Int)), some (vI 5)] [] g _
  obtain ⟨⟨s1, s2, s3⟩, jA, jB, jC⟩ := hJ
  have v1 := jA.2.2.2.2.2
  have v2 := jB.2.2.2.2.2
  have v3 := jC.2.2.2.2.2
  have z0 : ¬ (t : Int) < 0 := by omega
  have z1 : ¬ ((sz : Nat) : Int) = 0 := by omega
  have b1 : (0 : Int) ≤ ((t % sz : Nat) : Int) ∧ ((t % sz : Nat) : Int) < (sz : Int) := by
    have := Nat.mod_lt t hz
    omega
  have e2 : lshr r 43 = r / 8796093022208 := by
    unfold lshr
    have e : (2 : Int) ^ ((43 : Int) % 64).toNat = 8796093022208 := by decide
    rw [e]
  have e3 := land_5 (r / 8796093022208)
  have w1 : WE (r / 8796093022208 % 4) (r / 8796093022208 % 4) := by unfold WE w32; omega
  have w2 : WE (r / 8796093022208 % 4 + (-1)) (prW r 5) := by
    show w32 _ = r / 8796093022208 % 4 - 1
    unfold w32; omega
  have tm := tm_n t sz
  refine xpk_sound (stops := []) (n := 40) ?_
  simp only [sk_0, sk_1, sk_2, sk_3, sk_4, sk_5, sk_6, sk_7, sk_8, sk_iadd, sk_isub, sk_imul, sk_iand, sk_ior, sk_ixor, sk_ishl, sk_ishr, sk_iushr, sk_idiv, sk_irem, sk_ineg, sk_ladd, sk_lsub, sk_lmul, sk_land, sk_lor, sk_ldiv, sk_lrem, sk_lneg, sk_lshl, sk_lshr, sk_i2l, sk_l2i, sk_lcmp, sk_dupI, sk_dupR, sk_dup2L, sk_dup2I, sk_popI, sk_ifeq, sk_ifne, sk_iflt, sk_ifge, sk_ifgt, sk_ifle, sk_iceq, sk_icne, sk_iclt, sk_icge, sk_icgt, sk_icle, sk_goto, sk_getf, sk_putf, sk_gets, sk_iald, sk_lald, sk_bald, sk_aald, sk_iast, sk_last, sk_bast, sk_aast, sk_alen, sk_newa, sk_newt, sk_new, sk_cs1, sk_cs2, sk_cs3, sk_cs4, sk_cs5, sk_cs6, sk_cv1, sk_cv2, sk_cv3, sk_cv4, sk_cv5, sk_cv6, sk_ci1, sk_ci2, sk_ci3, sk_ret0, sk_retI, sk_retL, sk_retR, sk_sw, sk_oin, sk_max, sk_min, sk_abs, lI_0, lI_s, lL_0, lL_s, lR_0, lR_s, vIo_e, vLo_e, vOo_e, stW_I, stW_L, stW_R, stW_0, stW_z, okSt_0, okSt_s, hV_eq, hK_eq, okF_0, okF_1, okF_3, is01_0, is01_1, is01_i, Int.toNat_natCast, Int.reduceEq, Int.reduceLE, Int.reduceLT, Int.reduceNeg, Nat.reduceLT, not_true_eq_false, not_false_eq_true, reduceIte, Option.toList, List.cons_append, List.nil_append, List.set_cons_zero, List.set_cons_succ, List.not_mem_nil, List.mem_cons, if_false, if_true, ite_true, ite_false, and_self, and_true, true_and, Nat.reduceAdd, Nat.reduceLeDiff, Nat.reduceEqDiff, Nat.zero_add, Nat.le_refl, Nat.zero_le, or_false, false_or, Int.reduceToNat, or_true, true_or, eq_self, and_false, false_and, inR_d, nc_4, nc_5, nc_6, nc_7, nc_8, nc_16, nc_18, nc_20, nc_24, nc_32, nc_40, nc_64, nc_104, nc_120, nc_160, nc_256, nc_300, nc_330, nc_390, nc_1200, nc_1260, nc_3012, nc_9834, okSt_1i, okSt_1r, okSt_1n, List.length_cons, List.length_nil, xpk_succ cd_29_0, xpk_succ cd_29_1, xpk_succ cd_29_4, xpk_succ cd_29_5, xpk_succ cd_29_8, xpk_succ cd_29_9, xpk_succ cd_29_11, xpk_succ cd_29_14, xpk_succ cd_29_15, xpk_succ cd_29_16, xpk_succ cd_29_17, xpk_succ cd_29_20, xpk_succ cd_29_21, xpk_succ cd_29_22, xpk_succ cd_29_25, xpk_succ cd_29_26, xpk_succ cd_29_27, xpk_succ cd_29_30, xpk_succ cd_29_31, xpk_succ cd_29_32, xpk_succ cd_29_33, xpk_succ cd_29_36, xpk_succ cd_29_37, xpk_succ cd_29_38, xpk_succ cd_29_39, xpk_succ cd_29_40, xpk_succ cd_29_41, xpk_succ cd_29_44, xpk_succ cd_29_45, xpk_succ cd_29_46, xpk_succ cd_29_47, k0.1, k0.2, k1.1, k1.2, hr, s1, s2, s3, v1, v2, v3, z0, z1, b1, e2, e3, (WE_e w1), (WE_e w2), tm]
theorem E_kp {d : Nat} {g : AH} (hJ : stK g) {K R sz : Nat} (k0 : hK g K = (1, 0) ∧ hK g R = (12, sz)) (k1 : hV g K 0 = vR R ∧ hV g K 1 = vI (sz : Int)) (hz : 0 < sz) {t : Nat} {r : Int} (hr : hV g R (t % sz) = vL r) {w : Nat} (hw : w < 6) (Q : Option AV → AH → Prop) : XC (d + 1) 29 [vR K, vI (t : Int), vI (w : Int)] g Q = Q (some (vI (prW r w))) g := by
  have ho : w = 0 ∨ w = 1 ∨ w = 2 ∨ w = 3 ∨ w = 4 ∨ w = 5 := by omega
  rcases ho with rfl | rfl | rfl | rfl | rfl | rfl
  · exact E_kp0 hJ k0 k1 hz hr Q
  · exact E_kp1 hJ k0 k1 hz hr Q
  · exact E_kp2 hJ k0 k1 hz hr Q
  · exact E_kp3 hJ k0 k1 hz hr Q
  · exact E_kp4 hJ k0 k1 hz hr Q
  · exact E_kp5 hJ k0 k1 hz hr Q
theorem E_kp6 {d : Nat} {g : AH} {K t w : Nat} (hw : 6 ≤ w) (Q : Option AV → AH → Prop) : XC (d + 1) 29 [vR K, vI (t : Int), vI (w : Int)] g Q = Q (some (vI 0)) g := by
  refine XC_eq (Nat.le_of_ble_eq_true rfl) ?_ Q
  show XP d 29 0 [some (vR K), some (vI (t : Int)), some (vI (w : Int))] [] g _
  have z0 : ¬ (t : Int) < 0 := by omega
  have z1 : ¬ (w : Int) < 0 := by omega
  have z2 : ¬ (w : Int) < 6 := by omega
  have z3 : (6 : Int) ≤ (w : Int) := by omega
  refine xpk_sound (stops := []) (n := 40) ?_
  simp only [sk_0, sk_1, sk_2, sk_3, sk_4, sk_5, sk_6, sk_7, sk_8, sk_iadd, sk_isub, sk_imul, sk_iand, sk_ior, sk_ixor, sk_ishl, sk_ishr, sk_iushr, sk_idiv, sk_irem, sk_ineg, sk_ladd, sk_lsub, sk_lmul, sk_land, sk_lor, sk_ldiv, sk_lrem, sk_lneg, sk_lshl, sk_lshr, sk_i2l, sk_l2i, sk_lcmp, sk_dupI, sk_dupR, sk_dup2L, sk_dup2I, sk_popI, sk_ifeq, sk_ifne, sk_iflt, sk_ifge, sk_ifgt, sk_ifle, sk_iceq, sk_icne, sk_iclt, sk_icge, sk_icgt, sk_icle, sk_goto, sk_getf, sk_putf, sk_gets, sk_iald, sk_lald, sk_bald, sk_aald, sk_iast, sk_last, sk_bast, sk_aast, sk_alen, sk_newa, sk_newt, sk_new, sk_cs1, sk_cs2, sk_cs3, sk_cs4, sk_cs5, sk_cs6, sk_cv1, sk_cv2, sk_cv3, sk_cv4, sk_cv5, sk_cv6, sk_ci1, sk_ci2, sk_ci3, sk_ret0, sk_retI, sk_retL, sk_retR, sk_sw, sk_oin, sk_max, sk_min, sk_abs, lI_0, lI_s, lL_0, lL_s, lR_0, lR_s, vIo_e, vLo_e, vOo_e, stW_I, stW_L, stW_R, stW_0, stW_z, okSt_0, okSt_s, hV_eq, hK_eq, okF_0, okF_1, okF_3, is01_0, is01_1, is01_i, Int.toNat_natCast, Int.reduceEq, Int.reduceLE, Int.reduceLT, Int.reduceNeg, Nat.reduceLT, not_true_eq_false, not_false_eq_true, reduceIte, Option.toList, List.cons_append, List.nil_append, List.set_cons_zero, List.set_cons_succ, List.not_mem_nil, List.mem_cons, if_false, if_true, ite_true, ite_false, and_self, and_true, true_and, Nat.reduceAdd, Nat.reduceLeDiff, Nat.reduceEqDiff, Nat.zero_add, Nat.le_refl, Nat.zero_le, or_false, false_or, Int.reduceToNat, or_true, true_or, eq_self, and_false, false_and, inR_d, nc_4, nc_5, nc_6, nc_7, nc_8, nc_16, nc_18, nc_20, nc_24, nc_32, nc_40, nc_64, nc_104, nc_120, nc_160, nc_256, nc_300, nc_330, nc_390, nc_1200, nc_1260, nc_3012, nc_9834, okSt_1i, okSt_1r, okSt_1n, List.length_cons, List.length_nil, xpk_succ cd_29_0, xpk_succ cd_29_1, xpk_succ cd_29_4, xpk_succ cd_29_5, xpk_succ cd_29_8, xpk_succ cd_29_9, xpk_succ cd_29_11, xpk_succ cd_29_14, xpk_succ cd_29_15, xpk_succ cd_29_16, xpk_succ cd_29_17, xpk_succ cd_29_20, xpk_succ cd_29_21, xpk_succ cd_29_22, xpk_succ cd_29_25, xpk_succ cd_29_26, xpk_succ cd_29_27, xpk_succ cd_29_30, xpk_succ cd_29_31, xpk_succ cd_29_32, xpk_succ cd_29_33, xpk_succ cd_29_36, xpk_succ cd_29_37, xpk_succ cd_29_38, xpk_succ cd_29_39, xpk_succ cd_29_40, xpk_succ cd_29_41, xpk_succ cd_29_44, xpk_succ cd_29_45, xpk_succ cd_29_46, xpk_succ cd_29_47, z0, z1, z2, z3]
theorem iand7 (x : Int) : iand x 7 = x % 8 := by
  unfold iand
  have e3 : BitVec.ofInt 32 7 = BitVec.ofNat 32 7 := rfl
  rw [e3]
  have e4 : (BitVec.ofInt 32 x &&& BitVec.ofNat 32 7).toNat = (BitVec.ofInt 32 x).toNat % 8 := by
    rw [BitVec.toNat_and, BitVec.toNat_ofNat, show 7 % 2 ^ 32 = 2 ^ 3 - 1 by decide, Nat.and_two_pow_sub_one_eq_mod]
  rw [BitVec.toInt_eq_toNat_of_lt (by rw [e4]; omega), e4, BitVec.toNat_ofInt]
  have e5 : ((2 ^ 32 : Nat) : Int) = 4294967296 := by decide
  rw [e5]
  omega
theorem ishr3 (x : Int) : ishr x 3 = x / 8 := rfl
/-- the class's names and rows, as a law reads them in tenth tn, the eldest kept is el -/
def eV (nm rw_ : Nat → Int) (sz tn el : Nat) : ENV := (nm, fun k i => if el + k ≤ tn then (if i < 6 then prW (rw_ ((tn - k) % sz)) i else 0) else 0)
theorem E_fe {d : Nat} {g : AH} (hJ : stK g) {K R N2 sz tn el : Nat} {nm rw_ : Nat → Int} (k0 : hK g 58 = (2, 0) ∧ hK g N2 = (11, 8) ∧ hK g K = (1, 0) ∧ hK g R = (12, sz)) (k1 : hV g 58 2 = vR N2 ∧ hV g 58 4 = vR K ∧ hV g 58 5 = vI (tn : Int) ∧ hV g 58 6 = vI (el : Int) ∧ hV g K 0 = vR R ∧ hV g K 1 = vI (sz : Int)) (hz : 0 < sz) (ht : tn ≤ 1000000000) (hnm : ∀ i, i < 8 → hV g N2 i = vI (nm i)) (hrw : ∀ i, i < sz → hV g R i = vL (rw_ i)) {o A : Int} (h2 : 2 ≤ o) (h4 : o ≤ 4) (hA : 0 ≤ A ∧ A ≤ 1000000000) (Q : Option AV → AH → Prop) : XC (d + 3) 43 [vR 58, vI o, vI A] g Q = Q (some (vI (feF o A (eV nm rw_ sz tn el)))) g := by
  refine XC_eq (Nat.le_of_ble_eq_true rfl) ?_ Q
  show XP (d + 2) 43 0 [some (vR 58), some (vI o), some (vI A), none, none] [] g _
  by_cases z2 : o = 2
  · subst z2
    have e : feF 2 A (eV nm rw_ sz tn el) = A := if_pos rfl
    rw [e]
    refine xpk_sound (stops := []) (n := 40) ?_
    simp only [sk_0, sk_1, sk_2, sk_3, sk_4, sk_5, sk_6, sk_7, sk_8, sk_iadd, sk_isub, sk_imul, sk_iand, sk_ior, sk_ixor, sk_ishl, sk_ishr, sk_iushr, sk_idiv, sk_irem, sk_ineg, sk_ladd, sk_lsub, sk_lmul, sk_land, sk_lor, sk_ldiv, sk_lrem, sk_lneg, sk_lshl, sk_lshr, sk_i2l, sk_l2i, sk_lcmp, sk_dupI, sk_dupR, sk_dup2L, sk_dup2I, sk_popI, sk_ifeq, sk_ifne, sk_iflt, sk_ifge, sk_ifgt, sk_ifle, sk_iceq, sk_icne, sk_iclt, sk_icge, sk_icgt, sk_icle, sk_goto, sk_getf, sk_putf, sk_gets, sk_iald, sk_lald, sk_bald, sk_aald, sk_iast, sk_last, sk_bast, sk_aast, sk_alen, sk_newa, sk_newt, sk_new, sk_cs1, sk_cs2, sk_cs3, sk_cs4, sk_cs5, sk_cs6, sk_cv1, sk_cv2, sk_cv3, sk_cv4, sk_cv5, sk_cv6, sk_ci1, sk_ci2, sk_ci3, sk_ret0, sk_retI, sk_retL, sk_retR, sk_sw, sk_oin, sk_max, sk_min, sk_abs, lI_0, lI_s, lL_0, lL_s, lR_0, lR_s, vIo_e, vLo_e, vOo_e, stW_I, stW_L, stW_R, stW_0, stW_z, okSt_0, okSt_s, hV_eq, hK_eq, okF_0, okF_1, okF_3, is01_0, is01_1, is01_i, Int.toNat_natCast, Int.reduceEq, Int.reduceLE, Int.reduceLT, Int.reduceNeg, Nat.reduceLT, not_true_eq_false, not_false_eq_true, reduceIte, Option.toList, List.cons_append, List.nil_append, List.set_cons_zero, List.set_cons_succ, List.not_mem_nil, List.mem_cons, if_false, if_true, ite_true, ite_false, and_self, and_true, true_and, Nat.reduceAdd, Nat.reduceLeDiff, Nat.reduceEqDiff, Nat.zero_add, Nat.le_refl, Nat.zero_le, or_false, false_or, Int.reduceToNat, or_true, true_or, eq_self, and_false, false_and, inR_d, nc_4, nc_5, nc_6, nc_7, nc_8, nc_16, nc_18, nc_20, nc_24, nc_32, nc_40, nc_64, nc_104, nc_120, nc_160, nc_256, nc_300, nc_330, nc_390, nc_1200, nc_1260, nc_3012, nc_9834, okSt_1i, okSt_1r, okSt_1n, List.length_cons, List.length_nil, xpk_succ cd_43_0, xpk_succ cd_43_1, xpk_succ cd_43_2, xpk_succ cd_43_5, xpk_succ cd_43_6, xpk_succ cd_43_7, xpk_succ cd_43_8, xpk_succ cd_43_10, xpk_succ cd_43_11, xpk_succ cd_43_12, xpk_succ cd_43_13, xpk_succ cd_43_14, xpk_succ cd_43_17, xpk_succ cd_43_18, xpk_succ cd_43_21, xpk_succ cd_43_22, xpk_succ cd_43_23, xpk_succ cd_43_24, xpk_succ cd_43_25, xpk_succ cd_43_28, xpk_succ cd_43_29, xpk_succ cd_43_30, xpk_succ cd_43_31, xpk_succ cd_43_32, xpk_succ cd_43_34, xpk_succ cd_43_36, xpk_succ cd_43_37, xpk_succ cd_43_40, xpk_succ cd_43_43, xpk_succ cd_43_44, xpk_succ cd_43_47, xpk_succ cd_43_49, xpk_succ cd_43_50, xpk_succ cd_43_53, xpk_succ cd_43_56, xpk_succ cd_43_57]
  have e7 := iand7 A
  obtain ⟨m, hm⟩ : ∃ m : Nat, A % 8 = (m : Int) := Int.eq_ofNat_of_zero_le (by omega)
  obtain ⟨n, hn⟩ : ∃ n : Nat, A / 8 = (n : Int) := Int.eq_ofNat_of_zero_le (by omega)
  have e3 : ishr A 3 = (n : Int) := hn
  rw [hm] at e7
  have hm8 : m < 8 := by omega
  have hn1 : (n : Int) ≤ 1000000000 := by omega
  by_cases z3 : o = 3
  · subst z3
    have e : feF 3 A (eV nm rw_ sz tn el) = nm m := by
      show nm (A % 8).toNat = nm m
      rw [hm]; rfl
    rw [e]
    have b := hnm m hm8
    have b1 : (0 : Int) ≤ (m : Int) ∧ (m : Int) < 8 := by omega
    refine xpk_sound (stops := []) (n := 40) ?_
    simp only [sk_0, sk_1, sk_2, sk_3, sk_4, sk_5, sk_6, sk_7, sk_8, sk_iadd, sk_isub, sk_imul, sk_iand, sk_ior, sk_ixor, sk_ishl, sk_ishr, sk_iushr, sk_idiv, sk_irem, sk_ineg, sk_ladd, sk_lsub, sk_lmul, sk_land, sk_lor, sk_ldiv, sk_lrem, sk_lneg, sk_lshl, sk_lshr, sk_i2l, sk_l2i, sk_lcmp, sk_dupI, sk_dupR, sk_dup2L, sk_dup2I, sk_popI, sk_ifeq, sk_ifne, sk_iflt, sk_ifge, sk_ifgt, sk_ifle, sk_iceq, sk_icne, sk_iclt, sk_icge, sk_icgt, sk_icle, sk_goto, sk_getf, sk_putf, sk_gets, sk_iald, sk_lald, sk_bald, sk_aald, sk_iast, sk_last, sk_bast, sk_aast, sk_alen, sk_newa, sk_newt, sk_new, sk_cs1, sk_cs2, sk_cs3, sk_cs4, sk_cs5, sk_cs6, sk_cv1, sk_cv2, sk_cv3, sk_cv4, sk_cv5, sk_cv6, sk_ci1, sk_ci2, sk_ci3, sk_ret0, sk_retI, sk_retL, sk_retR, sk_sw, sk_oin, sk_max, sk_min, sk_abs, lI_0, lI_s, lL_0, lL_s, lR_0, lR_s, vIo_e, vLo_e, vOo_e, stW_I, stW_L, stW_R, stW_0, stW_z, okSt_0, okSt_s, hV_eq, hK_eq, okF_0, okF_1, okF_3, is01_0, is01_1, is01_i, Int.toNat_natCast, Int.reduceEq, Int.reduceLE, Int.reduceLT, Int.reduceNeg, Nat.reduceLT, not_true_eq_false, not_false_eq_true, reduceIte, Option.toList, List.cons_append, List.nil_append, List.set_cons_zero, List.set_cons_succ, List.not_mem_nil, List.mem_cons, if_false, if_true, ite_true, ite_false, and_self, and_true, true_and, Nat.reduceAdd, Nat.reduceLeDiff, Nat.reduceEqDiff, Nat.zero_add, Nat.le_refl, Nat.zero_le, or_false, false_or, Int.reduceToNat, or_true, true_or, eq_self, and_false, false_and, inR_d, nc_4, nc_5, nc_6, nc_7, nc_8, nc_16, nc_18, nc_20, nc_24, nc_32, nc_40, nc_64, nc_104, nc_120, nc_160, nc_256, nc_300, nc_330, nc_390, nc_1200, nc_1260, nc_3012, nc_9834, okSt_1i, okSt_1r, okSt_1n, List.length_cons, List.length_nil, xpk_succ cd_43_0, xpk_succ cd_43_1, xpk_succ cd_43_2, xpk_succ cd_43_5, xpk_succ cd_43_6, xpk_succ cd_43_7, xpk_succ cd_43_8, xpk_succ cd_43_10, xpk_succ cd_43_11, xpk_succ cd_43_12, xpk_succ cd_43_13, xpk_succ cd_43_14, xpk_succ cd_43_17, xpk_succ cd_43_18, xpk_succ cd_43_21, xpk_succ cd_43_22, xpk_succ cd_43_23, xpk_succ cd_43_24, xpk_succ cd_43_25, xpk_succ cd_43_28, xpk_succ cd_43_29, xpk_succ cd_43_30, xpk_succ cd_43_31, xpk_succ cd_43_32, xpk_succ cd_43_34, xpk_succ cd_43_36, xpk_succ cd_43_37, xpk_succ cd_43_40, xpk_succ cd_43_43, xpk_succ cd_43_44, xpk_succ cd_43_47, xpk_succ cd_43_49, xpk_succ cd_43_50, xpk_succ cd_43_53, xpk_succ cd_43_56, xpk_succ cd_43_57, k0.1, k0.2.1, k1.1, e7, b, b1]
  have z4 : o = 4 := by omega
  subst z4
  have e : feF 4 A (eV nm rw_ sz tn el) = if el + n ≤ tn then (if m < 6 then prW (rw_ ((tn - n) % sz)) m else 0) else 0 := by
    show (if el + (A / 8).toNat ≤ tn then (if (A % 8).toNat < 6 then prW (rw_ ((tn - (A / 8).toNat) % sz)) (A % 8).toNat else 0) else 0) = _
    rw [hm, hn]; rfl
  have w : WE ((tn : Int) - (n : Int)) ((tn : Int) - (n : Int)) := by unfold WE w32; omega
  rw [e]
  by_cases z5 : el + n ≤ tn
  · rw [if_pos z5]
    have c1 : ¬ ((tn : Int) - (n : Int)) < (el : Int) := by omega
    have c2 : (el : Int) ≤ ((tn : Int) - (n : Int)) := by omega
    have w2 : WE ((tn : Int) - (n : Int)) ((tn - n : Nat) : Int) := by unfold WE w32; omega
    have c3 : ¬ ((tn - n : Nat) : Int) < (el : Int) := by omega
    have c4 : (el : Int) ≤ ((tn - n : Nat) : Int) := by omega
    by_cases z6 : m < 6
    · rw [if_pos z6]
      have eP := fun Q => E_kp (d := d + 1) hJ (K := K) (R := R) (sz := sz) ⟨k0.2.2.1, k0.2.2.2⟩ ⟨k1.2.2.2.2.1, k1.2.2.2.2.2⟩ hz (t := tn - n) (hrw _ (Nat.mod_lt _ hz)) (w := m) z6 Q
      refine xpk_sound (stops := []) (n := 40) ?_
      simp only [sk_0, sk_1, sk_2, sk_3, sk_4, sk_5, sk_6, sk_7, sk_8, sk_iadd, sk_isub, sk_imul, sk_iand, sk_ior, sk_ixor, sk_ishl, sk_ishr, sk_iushr, sk_idiv, sk_irem, sk_ineg, sk_ladd, sk_lsub, sk_lmul, sk_land, sk_lor, sk_ldiv, sk_lrem, sk_lneg, sk_lshl, sk_lshr, sk_i2l, sk_l2i, sk_lcmp, sk_dupI, sk_dupR, sk_dup2L, sk_dup2I, sk_popI, sk_ifeq, sk_ifne, sk_iflt, sk_ifge, sk_ifgt, sk_ifle, sk_iceq, sk_icne, sk_iclt, sk_icge, sk_icgt, sk_icle, sk_goto, sk_getf, sk_putf, sk_gets, sk_iald, sk_lald, sk_bald, sk_aald, sk_iast, sk_last, sk_bast, sk_aast, sk_alen, sk_newa, sk_newt, sk_new, sk_cs1, sk_cs2, sk_cs3, sk_cs4, sk_cs5, sk_cs6, sk_cv1, sk_cv2, sk_cv3, sk_cv4, sk_cv5, sk_cv6, sk_ci1, sk_ci2, sk_ci3, sk_ret0, sk_retI, sk_retL, sk_retR, sk_sw, sk_oin, sk_max, sk_min, sk_abs, lI_0, lI_s, lL_0, lL_s, lR_0, lR_s, vIo_e, vLo_e, vOo_e, stW_I, stW_L, stW_R, stW_0, stW_z, okSt_0, okSt_s, hV_eq, hK_eq, okF_0, okF_1, okF_3, is01_0, is01_1, is01_i, Int.toNat_natCast, Int.reduceEq, Int.reduceLE, Int.reduceLT, Int.reduceNeg, Nat.reduceLT, not_true_eq_false, not_false_eq_true, reduceIte, Option.toList, List.cons_append, List.nil_append, List.set_cons_zero, List.set_cons_succ, List.not_mem_nil, List.mem_cons, if_false, if_true, ite_true, ite_false, and_self, and_true, true_and, Nat.reduceAdd, Nat.reduceLeDiff, Nat.reduceEqDiff, Nat.zero_add, Nat.le_refl, Nat.zero_le, or_false, false_or, Int.reduceToNat, or_true, true_or, eq_self, and_false, false_and, inR_d, nc_4, nc_5, nc_6, nc_7, nc_8, nc_16, nc_18, nc_20, nc_24, nc_32, nc_40, nc_64, nc_104, nc_120, nc_160, nc_256, nc_300, nc_330, nc_390, nc_1200, nc_1260, nc_3012, nc_9834, okSt_1i, okSt_1r, okSt_1n, List.length_cons, List.length_nil, xpk_succ cd_43_0, xpk_succ cd_43_1, xpk_succ cd_43_2, xpk_succ cd_43_5, xpk_succ cd_43_6, xpk_succ cd_43_7, xpk_succ cd_43_8, xpk_succ cd_43_10, xpk_succ cd_43_11, xpk_succ cd_43_12, xpk_succ cd_43_13, xpk_succ cd_43_14, xpk_succ cd_43_17, xpk_succ cd_43_18, xpk_succ cd_43_21, xpk_succ cd_43_22, xpk_succ cd_43_23, xpk_succ cd_43_24, xpk_succ cd_43_25, xpk_succ cd_43_28, xpk_succ cd_43_29, xpk_succ cd_43_30, xpk_succ cd_43_31, xpk_succ cd_43_32, xpk_succ cd_43_34, xpk_succ cd_43_36, xpk_succ cd_43_37, xpk_succ cd_43_40, xpk_succ cd_43_43, xpk_succ cd_43_44, xpk_succ cd_43_47, xpk_succ cd_43_49, xpk_succ cd_43_50, xpk_succ cd_43_53, xpk_succ cd_43_56, xpk_succ cd_43_57, k0.1, k1.2.1, k1.2.2.1, k1.2.2.2.1, e7, e3, (WE_e w2), c3, c4, eP, k0.2.2.1]
    · rw [if_neg z6]
      have eP := fun Q => E_kp6 (d := d + 1) (g := g) (K := K) (t := tn - n) (w := m) (by omega) Q
      refine xpk_sound (stops := []) (n := 40) ?_
      simp only [sk_0, sk_1, sk_2, sk_3, sk_4, sk_5, sk_6, sk_7, sk_8, sk_iadd, sk_isub, sk_imul, sk_iand, sk_ior, sk_ixor, sk_ishl, sk_ishr, sk_iushr, sk_idiv, sk_irem, sk_ineg, sk_ladd, sk_lsub, sk_lmul, sk_land, sk_lor, sk_ldiv, sk_lrem, sk_lneg, sk_lshl, sk_lshr, sk_i2l, sk_l2i, sk_lcmp, sk_dupI, sk_dupR, sk_dup2L, sk_dup2I, sk_popI, sk_ifeq, sk_ifne, sk_iflt, sk_ifge, sk_ifgt, sk_ifle, sk_iceq, sk_icne, sk_iclt, sk_icge, sk_icgt, sk_icle, sk_goto, sk_getf, sk_putf, sk_gets, sk_iald, sk_lald, sk_bald, sk_aald, sk_iast, sk_last, sk_bast, sk_aast, sk_alen, sk_newa, sk_newt, sk_new, sk_cs1, sk_cs2, sk_cs3, sk_cs4, sk_cs5, sk_cs6, sk_cv1, sk_cv2, sk_cv3, sk_cv4, sk_cv5, sk_cv6, sk_ci1, sk_ci2, sk_ci3, sk_ret0, sk_retI, sk_retL, sk_retR, sk_sw, sk_oin, sk_max, sk_min, sk_abs, lI_0, lI_s, lL_0, lL_s, lR_0, lR_s, vIo_e, vLo_e, vOo_e, stW_I, stW_L, stW_R, stW_0, stW_z, okSt_0, okSt_s, hV_eq, hK_eq, okF_0, okF_1, okF_3, is01_0, is01_1, is01_i, Int.toNat_natCast, Int.reduceEq, Int.reduceLE, Int.reduceLT, Int.reduceNeg, Nat.reduceLT, not_true_eq_false, not_false_eq_true, reduceIte, Option.toList, List.cons_append, List.nil_append, List.set_cons_zero, List.set_cons_succ, List.not_mem_nil, List.mem_cons, if_false, if_true, ite_true, ite_false, and_self, and_true, true_and, Nat.reduceAdd, Nat.reduceLeDiff, Nat.reduceEqDiff, Nat.zero_add, Nat.le_refl, Nat.zero_le, or_false, false_or, Int.reduceToNat, or_true, true_or, eq_self, and_false, false_and, inR_d, nc_4, nc_5, nc_6, nc_7, nc_8, nc_16, nc_18, nc_20, nc_24, nc_32, nc_40, nc_64, nc_104, nc_120, nc_160, nc_256, nc_300, nc_330, nc_390, nc_1200, nc_1260, nc_3012, nc_9834, okSt_1i, okSt_1r, okSt_1n, List.length_cons, List.length_nil, xpk_succ cd_43_0, xpk_succ cd_43_1, xpk_succ cd_43_2, xpk_succ cd_43_5, xpk_succ cd_43_6, xpk_succ cd_43_7, xpk_succ cd_43_8, xpk_succ cd_43_10, xpk_succ cd_43_11, xpk_succ cd_43_12, xpk_succ cd_43_13, xpk_succ cd_43_14, xpk_succ cd_43_17, xpk_succ cd_43_18, xpk_succ cd_43_21, xpk_succ cd_43_22, xpk_succ cd_43_23, xpk_succ cd_43_24, xpk_succ cd_43_25, xpk_succ cd_43_28, xpk_succ cd_43_29, xpk_succ cd_43_30, xpk_succ cd_43_31, xpk_succ cd_43_32, xpk_succ cd_43_34, xpk_succ cd_43_36, xpk_succ cd_43_37, xpk_succ cd_43_40, xpk_succ cd_43_43, xpk_succ cd_43_44, xpk_succ cd_43_47, xpk_succ cd_43_49, xpk_succ cd_43_50, xpk_succ cd_43_53, xpk_succ cd_43_56, xpk_succ cd_43_57, k0.1, k1.2.1, k1.2.2.1, k1.2.2.2.1, e7, e3, (WE_e w2), c3, c4, eP, k0.2.2.1]
  · rw [if_neg z5]
    have c1 : ((tn : Int) - (n : Int)) < (el : Int) := by omega
    have c2 : ¬ (el : Int) ≤ ((tn : Int) - (n : Int)) := by omega
    refine xpk_sound (stops := []) (n := 40) ?_
    simp only [sk_0, sk_1, sk_2, sk_3, sk_4, sk_5, sk_6, sk_7, sk_8, sk_iadd, sk_isub, sk_imul, sk_iand, sk_ior, sk_ixor, sk_ishl, sk_ishr, sk_iushr, sk_idiv, sk_irem, sk_ineg, sk_ladd, sk_lsub, sk_lmul, sk_land, sk_lor, sk_ldiv, sk_lrem, sk_lneg, sk_lshl, sk_lshr, sk_i2l, sk_l2i, sk_lcmp, sk_dupI, sk_dupR, sk_dup2L, sk_dup2I, sk_popI, sk_ifeq, sk_ifne, sk_iflt, sk_ifge, sk_ifgt, sk_ifle, sk_iceq, sk_icne, sk_iclt, sk_icge, sk_icgt, sk_icle, sk_goto, sk_getf, sk_putf, sk_gets, sk_iald, sk_lald, sk_bald, sk_aald, sk_iast, sk_last, sk_bast, sk_aast, sk_alen, sk_newa, sk_newt, sk_new, sk_cs1, sk_cs2, sk_cs3, sk_cs4, sk_cs5, sk_cs6, sk_cv1, sk_cv2, sk_cv3, sk_cv4, sk_cv5, sk_cv6, sk_ci1, sk_ci2, sk_ci3, sk_ret0, sk_retI, sk_retL, sk_retR, sk_sw, sk_oin, sk_max, sk_min, sk_abs, lI_0, lI_s, lL_0, lL_s, lR_0, lR_s, vIo_e, vLo_e, vOo_e, stW_I, stW_L, stW_R, stW_0, stW_z, okSt_0, okSt_s, hV_eq, hK_eq, okF_0, okF_1, okF_3, is01_0, is01_1, is01_i, Int.toNat_natCast, Int.reduceEq, Int.reduceLE, Int.reduceLT, Int.reduceNeg, Nat.reduceLT, not_true_eq_false, not_false_eq_true, reduceIte, Option.toList, List.cons_append, List.nil_append, List.set_cons_zero, List.set_cons_succ, List.not_mem_nil, List.mem_cons, if_false, if_true, ite_true, ite_false, and_self, and_true, true_and, Nat.reduceAdd, Nat.reduceLeDiff, Nat.reduceEqDiff, Nat.zero_add, Nat.le_refl, Nat.zero_le, or_false, false_or, Int.reduceToNat, or_true, true_or, eq_self, and_false, false_and, inR_d, nc_4, nc_5, nc_6, nc_7, nc_8, nc_16, nc_18, nc_20, nc_24, nc_32, nc_40, nc_64, nc_104, nc_120, nc_160, nc_256, nc_300, nc_330, nc_390, nc_1200, nc_1260, nc_3012, nc_9834, okSt_1i, okSt_1r, okSt_1n, List.length_cons, List.length_nil, xpk_succ cd_43_0, xpk_succ cd_43_1, xpk_succ cd_43_2, xpk_succ cd_43_5, xpk_succ cd_43_6, xpk_succ cd_43_7, xpk_succ cd_43_8, xpk_succ cd_43_10, xpk_succ cd_43_11, xpk_succ cd_43_12, xpk_succ cd_43_13, xpk_succ cd_43_14, xpk_succ cd_43_17, xpk_succ cd_43_18, xpk_succ cd_43_21, xpk_succ cd_43_22, xpk_succ cd_43_23, xpk_succ cd_43_24, xpk_succ cd_43_25, xpk_succ cd_43_28, xpk_succ cd_43_29, xpk_succ cd_43_30, xpk_succ cd_43_31, xpk_succ cd_43_32, xpk_succ cd_43_34, xpk_succ cd_43_36, xpk_succ cd_43_37, xpk_succ cd_43_40, xpk_succ cd_43_43, xpk_succ cd_43_44, xpk_succ cd_43_47, xpk_succ cd_43_49, xpk_succ cd_43_50, xpk_succ cd_43_53, xpk_succ cd_43_56, xpk_succ cd_43_57, k0.1, k1.2.1, k1.2.2.1, k1.2.2.2.1, e7, e3, (WE_e w), c1, c2]
/-! the reference's PAST -/
theorem E_po {d : Nat} {g : AH} (k0 : hK g 76 = (10, 0) ∧ hK g 77 = (11, 9834)) (k1 : hV g 76 0 = vR 77) {t w : Nat} {x : Int} (hw : w < 6) (hx : hV g 77 (602 + 6 * (t % 1536) + w) = vI x) (Q : Option AV → AH → Prop) : XC (d + 1) 238 [vR 76, vI (t : Int), vI (w : Int)] g Q = Q (some (vI x)) g := by
  refine XC_eq (Nat.le_of_ble_eq_true rfl) ?_ Q
  show XP d 238 0 [some (vR 76), some (vI (t : Int)), some (vI (w : Int))] [] g _
  have tm : Int.tmod (t : Int) 1536 = ((t % 1536 : Nat) : Int) := by rw [Int.tmod_eq_emod_of_nonneg (by omega)]; omega
  have hq : t % 1536 < 1536 := by omega
  obtain ⟨q, hq2⟩ : ∃ q, t % 1536 = q := ⟨_, rfl⟩
  rw [hq2] at tm hx hq
  have a1 : WE (6 * (q : Int)) ((6 * q : Nat) : Int) := by unfold WE w32; omega
  have a2 : WE (602 + ((6 * q : Nat) : Int)) ((602 + 6 * q : Nat) : Int) := by unfold WE w32; omega
  have a3 : WE (((602 + 6 * q : Nat) : Int) + (w : Int)) ((602 + 6 * q + w : Nat) : Int) := by unfold WE w32; omega
  have b4 : (0 : Int) ≤ ((602 + 6 * q + w : Nat) : Int) ∧ ((602 + 6 * q + w : Nat) : Int) < 9834 := by omega
  refine xpk_sound (stops := []) (n := 30) ?_
  simp only [sk_0, sk_1, sk_2, sk_3, sk_4, sk_5, sk_6, sk_7, sk_8, sk_iadd, sk_isub, sk_imul, sk_iand, sk_ior, sk_ixor, sk_ishl, sk_ishr, sk_iushr, sk_idiv, sk_irem, sk_ineg, sk_ladd, sk_lsub, sk_lmul, sk_land, sk_lor, sk_ldiv, sk_lrem, sk_lneg, sk_lshl, sk_lshr, sk_i2l, sk_l2i, sk_lcmp, sk_dupI, sk_dupR, sk_dup2L, sk_dup2I, sk_popI, sk_ifeq, sk_ifne, sk_iflt, sk_ifge, sk_ifgt, sk_ifle, sk_iceq, sk_icne, sk_iclt, sk_icge, sk_icgt, sk_icle, sk_goto, sk_getf, sk_putf, sk_gets, sk_iald, sk_lald, sk_bald, sk_aald, sk_iast, sk_last, sk_bast, sk_aast, sk_alen, sk_newa, sk_newt, sk_new, sk_cs1, sk_cs2, sk_cs3, sk_cs4, sk_cs5, sk_cs6, sk_cv1, sk_cv2, sk_cv3, sk_cv4, sk_cv5, sk_cv6, sk_ci1, sk_ci2, sk_ci3, sk_ret0, sk_retI, sk_retL, sk_retR, sk_sw, sk_oin, sk_max, sk_min, sk_abs, lI_0, lI_s, lL_0, lL_s, lR_0, lR_s, vIo_e, vLo_e, vOo_e, stW_I, stW_L, stW_R, stW_0, stW_z, okSt_0, okSt_s, hV_eq, hK_eq, okF_0, okF_1, okF_3, is01_0, is01_1, is01_i, Int.toNat_natCast, Int.reduceEq, Int.reduceLE, Int.reduceLT, Int.reduceNeg, Nat.reduceLT, not_true_eq_false, not_false_eq_true, reduceIte, Option.toList, List.cons_append, List.nil_append, List.set_cons_zero, List.set_cons_succ, List.not_mem_nil, List.mem_cons, if_false, if_true, ite_true, ite_false, and_self, and_true, true_and, Nat.reduceAdd, Nat.reduceLeDiff, Nat.reduceEqDiff, Nat.zero_add, Nat.le_refl, Nat.zero_le, or_false, false_or, Int.reduceToNat, or_true, true_or, eq_self, and_false, false_and, inR_d, nc_4, nc_5, nc_6, nc_7, nc_8, nc_16, nc_18, nc_20, nc_24, nc_32, nc_40, nc_64, nc_104, nc_120, nc_160, nc_256, nc_300, nc_330, nc_390, nc_1200, nc_1260, nc_3012, nc_9834, okSt_1i, okSt_1r, okSt_1n, List.length_cons, List.length_nil, xpk_succ cd_238_0, xpk_succ cd_238_1, xpk_succ cd_238_4, xpk_succ cd_238_7, xpk_succ cd_238_9, xpk_succ cd_238_10, xpk_succ cd_238_13, xpk_succ cd_238_14, xpk_succ cd_238_15, xpk_succ cd_238_16, xpk_succ cd_238_17, xpk_succ cd_238_18, xpk_succ cd_238_19, k0.1, k0.2, k1, hx, tm, (WE_e a1), (WE_e a2), (WE_e a3), b4]
/-- what the reference reads: from tenth f, the eldest is l -/
theorem E_agM {d : Nat} {g : AH} (k0 : hK g 76 = (10, 0) ∧ hK g 77 = (11, 9834)) (k1 : hV g 76 0 = vR 77) {f l : Nat} (v1 : hV g 76 21 = vI (f : Int)) (v2 : hV g 76 22 = vI (l : Int)) (hf : f ≤ 20000) {pa : Nat → Nat → Int} (hx : ∀ w, w < 6 → ∀ t, hV g 77 (602 + 6 * (t % 1536) + w) = vI (pa t w)) {k w : Nat} (hk : k ≤ 9) (hw : w < 6) (Q : Option AV → AH → Prop) : XC (d + 2) 239 [vR 76, vI (k : Int), vI (w : Int)] g Q = Q (some (vI (if l + k ≤ f then pa (f - k) w else 0))) g := by
  refine XC_eq (Nat.le_of_ble_eq_true rfl) ?_ Q
  show XP (d + 1) 239 0 [some (vR 76), some (vI (k : Int)), some (vI (w : Int))] [] g _
  by_cases z : l + k ≤ f
  · rw [if_pos z]
    have w1 : WE ((f : Int) - (k : Int)) ((f - k : Nat) : Int) := by unfold WE w32; omega
    have c3 : ¬ ((f - k : Nat) : Int) < (l : Int) := by omega
    have c4 : (l : Int) ≤ ((f - k : Nat) : Int) := by omega
    have eP := fun Q => E_po (d := d) (g := g) k0 k1 (t := f - k) hw (hx w hw (f - k)) Q
    refine xpk_sound (stops := []) (n := 30) ?_
    simp only [sk_0, sk_1, sk_2, sk_3, sk_4, sk_5, sk_6, sk_7, sk_8, sk_iadd, sk_isub, sk_imul, sk_iand, sk_ior, sk_ixor, sk_ishl, sk_ishr, sk_iushr, sk_idiv, sk_irem, sk_ineg, sk_ladd, sk_lsub, sk_lmul, sk_land, sk_lor, sk_ldiv, sk_lrem, sk_lneg, sk_lshl, sk_lshr, sk_i2l, sk_l2i, sk_lcmp, sk_dupI, sk_dupR, sk_dup2L, sk_dup2I, sk_popI, sk_ifeq, sk_ifne, sk_iflt, sk_ifge, sk_ifgt, sk_ifle, sk_iceq, sk_icne, sk_iclt, sk_icge, sk_icgt, sk_icle, sk_goto, sk_getf, sk_putf, sk_gets, sk_iald, sk_lald, sk_bald, sk_aald, sk_iast, sk_last, sk_bast, sk_aast, sk_alen, sk_newa, sk_newt, sk_new, sk_cs1, sk_cs2, sk_cs3, sk_cs4, sk_cs5, sk_cs6, sk_cv1, sk_cv2, sk_cv3, sk_cv4, sk_cv5, sk_cv6, sk_ci1, sk_ci2, sk_ci3, sk_ret0, sk_retI, sk_retL, sk_retR, sk_sw, sk_oin, sk_max, sk_min, sk_abs, lI_0, lI_s, lL_0, lL_s, lR_0, lR_s, vIo_e, vLo_e, vOo_e, stW_I, stW_L, stW_R, stW_0, stW_z, okSt_0, okSt_s, hV_eq, hK_eq, okF_0, okF_1, okF_3, is01_0, is01_1, is01_i, Int.toNat_natCast, Int.reduceEq, Int.reduceLE, Int.reduceLT, Int.reduceNeg, Nat.reduceLT, not_true_eq_false, not_false_eq_true, reduceIte, Option.toList, List.cons_append, List.nil_append, List.set_cons_zero, List.set_cons_succ, List.not_mem_nil, List.mem_cons, if_false, if_true, ite_true, ite_false, and_self, and_true, true_and, Nat.reduceAdd, Nat.reduceLeDiff, Nat.reduceEqDiff, Nat.zero_add, Nat.le_refl, Nat.zero_le, or_false, false_or, Int.reduceToNat, or_true, true_or, eq_self, and_false, false_and, inR_d, nc_4, nc_5, nc_6, nc_7, nc_8, nc_16, nc_18, nc_20, nc_24, nc_32, nc_40, nc_64, nc_104, nc_120, nc_160, nc_256, nc_300, nc_330, nc_390, nc_1200, nc_1260, nc_3012, nc_9834, okSt_1i, okSt_1r, okSt_1n, List.length_cons, List.length_nil, xpk_succ cd_239_0, xpk_succ cd_239_1, xpk_succ cd_239_4, xpk_succ cd_239_5, xpk_succ cd_239_6, xpk_succ cd_239_7, xpk_succ cd_239_10, xpk_succ cd_239_13, xpk_succ cd_239_14, xpk_succ cd_239_17, xpk_succ cd_239_18, xpk_succ cd_239_19, xpk_succ cd_239_22, xpk_succ cd_239_23, xpk_succ cd_239_24, xpk_succ cd_239_25, xpk_succ cd_239_28, k0.1, k0.2, k1, v1, v2, (WE_e w1), c3, c4, eP]
  · rw [if_neg z]
    have w1 : WE ((f : Int) - (k : Int)) ((f : Int) - (k : Int)) := by unfold WE w32; omega
    have c3 : ((f : Int) - (k : Int)) < (l : Int) := by omega
    have c4 : ¬ (l : Int) ≤ ((f : Int) - (k : Int)) := by omega
    refine xpk_sound (stops := []) (n := 30) ?_
    simp only [sk_0, sk_1, sk_2, sk_3, sk_4, sk_5, sk_6, sk_7, sk_8, sk_iadd, sk_isub, sk_imul, sk_iand, sk_ior, sk_ixor, sk_ishl, sk_ishr, sk_iushr, sk_idiv, sk_irem, sk_ineg, sk_ladd, sk_lsub, sk_lmul, sk_land, sk_lor, sk_ldiv, sk_lrem, sk_lneg, sk_lshl, sk_lshr, sk_i2l, sk_l2i, sk_lcmp, sk_dupI, sk_dupR, sk_dup2L, sk_dup2I, sk_popI, sk_ifeq, sk_ifne, sk_iflt, sk_ifge, sk_ifgt, sk_ifle, sk_iceq, sk_icne, sk_iclt, sk_icge, sk_icgt, sk_icle, sk_goto, sk_getf, sk_putf, sk_gets, sk_iald, sk_lald, sk_bald, sk_aald, sk_iast, sk_last, sk_bast, sk_aast, sk_alen, sk_newa, sk_newt, sk_new, sk_cs1, sk_cs2, sk_cs3, sk_cs4, sk_cs5, sk_cs6, sk_cv1, sk_cv2, sk_cv3, sk_cv4, sk_cv5, sk_cv6, sk_ci1, sk_ci2, sk_ci3, sk_ret0, sk_retI, sk_retL, sk_retR, sk_sw, sk_oin, sk_max, sk_min, sk_abs, lI_0, lI_s, lL_0, lL_s, lR_0, lR_s, vIo_e, vLo_e, vOo_e, stW_I, stW_L, stW_R, stW_0, stW_z, okSt_0, okSt_s, hV_eq, hK_eq, okF_0, okF_1, okF_3, is01_0, is01_1, is01_i, Int.toNat_natCast, Int.reduceEq, Int.reduceLE, Int.reduceLT, Int.reduceNeg, Nat.reduceLT, not_true_eq_false, not_false_eq_true, reduceIte, Option.toList, List.cons_append, List.nil_append, List.set_cons_zero, List.set_cons_succ, List.not_mem_nil, List.mem_cons, if_false, if_true, ite_true, ite_false, and_self, and_true, true_and, Nat.reduceAdd, Nat.reduceLeDiff, Nat.reduceEqDiff, Nat.zero_add, Nat.le_refl, Nat.zero_le, or_false, false_or, Int.reduceToNat, or_true, true_or, eq_self, and_false, false_and, inR_d, nc_4, nc_5, nc_6, nc_7, nc_8, nc_16, nc_18, nc_20, nc_24, nc_32, nc_40, nc_64, nc_104, nc_120, nc_160, nc_256, nc_300, nc_330, nc_390, nc_1200, nc_1260, nc_3012, nc_9834, okSt_1i, okSt_1r, okSt_1n, List.length_cons, List.length_nil, xpk_succ cd_239_0, xpk_succ cd_239_1, xpk_succ cd_239_4, xpk_succ cd_239_5, xpk_succ cd_239_6, xpk_succ cd_239_7, xpk_succ cd_239_10, xpk_succ cd_239_13, xpk_succ cd_239_14, xpk_succ cd_239_17, xpk_succ cd_239_18, xpk_succ cd_239_19, xpk_succ cd_239_22, xpk_succ cd_239_23, xpk_succ cd_239_24, xpk_succ cd_239_25, xpk_succ cd_239_28, k0.1, k0.2, k1, v1, v2, (WE_e w1), c3, c4]
