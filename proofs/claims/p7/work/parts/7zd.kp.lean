/-! a tenth is kept -/
theorem lsh_15 {v : Int} (v0 : 0 ≤ v) (v1 : v < 140737488355328) : lshl v 15 = 32768 * v := by
  unfold lshl w64
  rw [show ((15 : Int) % 64).toNat = 15 by decide, show (2 : Int) ^ 15 = 32768 by decide]
  omega
theorem lor_15 {x v : Int} (h0 : 0 ≤ x) (h1 : x < 32768) (v0 : 0 ≤ v) (v1 : v < 140737488355328) : lor x (32768 * v) = x + 32768 * v := by
  obtain ⟨n, rfl⟩ := Int.eq_ofNat_of_zero_le h0
  obtain ⟨m, rfl⟩ := Int.eq_ofNat_of_zero_le v0
  unfold lor
  have hn : n < 32768 := by omega
  have hm : m < 140737488355328 := by omega
  have e2 : BitVec.ofInt 64 (32768 * (m : Int)) = BitVec.ofNat 64 (32768 * m) := by rw [show (32768 * (m : Int)) = ((32768 * m : Nat) : Int) by omega]; rfl
  have e3 : BitVec.ofInt 64 (n : Int) = BitVec.ofNat 64 n := rfl
  rw [e2, e3]
  have e4 : (BitVec.ofNat 64 n ||| BitVec.ofNat 64 (32768 * m)).toNat = 32768 * m + n := by
    rw [BitVec.toNat_or, BitVec.toNat_ofNat, BitVec.toNat_ofNat, Nat.mod_eq_of_lt (by omega), Nat.mod_eq_of_lt (by omega), Nat.or_comm]
    have q := Nat.two_pow_add_eq_or_of_lt (i := 15) (b := n) (by omega) m
    have q : 32768 * m + n = 32768 * m ||| n := q
    exact q.symm
  rw [BitVec.toInt_eq_toNat_of_lt (by rw [e4]; omega), e4]
  omega
theorem lsh_23 {v : Int} (v0 : 0 ≤ v) (v1 : v < 549755813888) : lshl v 23 = 8388608 * v := by
  unfold lshl w64
  rw [show ((23 : Int) % 64).toNat = 23 by decide, show (2 : Int) ^ 23 = 8388608 by decide]
  omega
theorem lor_23 {x v : Int} (h0 : 0 ≤ x) (h1 : x < 8388608) (v0 : 0 ≤ v) (v1 : v < 549755813888) : lor x (8388608 * v) = x + 8388608 * v := by
  obtain ⟨n, rfl⟩ := Int.eq_ofNat_of_zero_le h0
  obtain ⟨m, rfl⟩ := Int.eq_ofNat_of_zero_le v0
  unfold lor
  have hn : n < 8388608 := by omega
  have hm : m < 549755813888 := by omega
  have e2 : BitVec.ofInt 64 (8388608 * (m : Int)) = BitVec.ofNat 64 (8388608 * m) := by rw [show (8388608 * (m : Int)) = ((8388608 * m : Nat) : Int) by omega]; rfl
  have e3 : BitVec.ofInt 64 (n : Int) = BitVec.ofNat 64 n := rfl
  rw [e2, e3]
  have e4 : (BitVec.ofNat 64 n ||| BitVec.ofNat 64 (8388608 * m)).toNat = 8388608 * m + n := by
    rw [BitVec.toNat_or, BitVec.toNat_ofNat, BitVec.toNat_ofNat, Nat.mod_eq_of_lt (by omega), Nat.mod_eq_of_lt (by omega), Nat.or_comm]
    have q := Nat.two_pow_add_eq_or_of_lt (i := 23) (b := n) (by omega) m
    have q : 8388608 * m + n = 8388608 * m ||| n := q
    exact q.symm
  rw [BitVec.toInt_eq_toNat_of_lt (by rw [e4]; omega), e4]
  omega
theorem lsh_28 {v : Int} (v0 : 0 ≤ v) (v1 : v < 17179869184) : lshl v 28 = 268435456 * v := by
  unfold lshl w64
  rw [show ((28 : Int) % 64).toNat = 28 by decide, show (2 : Int) ^ 28 = 268435456 by decide]
  omega
theorem lor_28 {x v : Int} (h0 : 0 ≤ x) (h1 : x < 268435456) (v0 : 0 ≤ v) (v1 : v < 17179869184) : lor x (268435456 * v) = x + 268435456 * v := by
  obtain ⟨n, rfl⟩ := Int.eq_ofNat_of_zero_le h0
  obtain ⟨m, rfl⟩ := Int.eq_ofNat_of_zero_le v0
  unfold lor
  have hn : n < 268435456 := by omega
  have hm : m < 17179869184 := by omega
  have e2 : BitVec.ofInt 64 (268435456 * (m : Int)) = BitVec.ofNat 64 (268435456 * m) := by rw [show (268435456 * (m : Int)) = ((268435456 * m : Nat) : Int) by omega]; rfl
  have e3 : BitVec.ofInt 64 (n : Int) = BitVec.ofNat 64 n := rfl
  rw [e2, e3]
  have e4 : (BitVec.ofNat 64 n ||| BitVec.ofNat 64 (268435456 * m)).toNat = 268435456 * m + n := by
    rw [BitVec.toNat_or, BitVec.toNat_ofNat, BitVec.toNat_ofNat, Nat.mod_eq_of_lt (by omega), Nat.mod_eq_of_lt (by omega), Nat.or_comm]
    have q := Nat.two_pow_add_eq_or_of_lt (i := 28) (b := n) (by omega) m
    have q : 268435456 * m + n = 268435456 * m ||| n := q
    exact q.symm
  rw [BitVec.toInt_eq_toNat_of_lt (by rw [e4]; omega), e4]
  omega
theorem lsh_32 {v : Int} (v0 : 0 ≤ v) (v1 : v < 1073741824) : lshl v 32 = 4294967296 * v := by
  unfold lshl w64
  rw [show ((32 : Int) % 64).toNat = 32 by decide, show (2 : Int) ^ 32 = 4294967296 by decide]
  omega
theorem lor_32 {x v : Int} (h0 : 0 ≤ x) (h1 : x < 4294967296) (v0 : 0 ≤ v) (v1 : v < 1073741824) : lor x (4294967296 * v) = x + 4294967296 * v := by
  obtain ⟨n, rfl⟩ := Int.eq_ofNat_of_zero_le h0
  obtain ⟨m, rfl⟩ := Int.eq_ofNat_of_zero_le v0
  unfold lor
  have hn : n < 4294967296 := by omega
  have hm : m < 1073741824 := by omega
  have e2 : BitVec.ofInt 64 (4294967296 * (m : Int)) = BitVec.ofNat 64 (4294967296 * m) := by rw [show (4294967296 * (m : Int)) = ((4294967296 * m : Nat) : Int) by omega]; rfl
  have e3 : BitVec.ofInt 64 (n : Int) = BitVec.ofNat 64 n := rfl
  rw [e2, e3]
  have e4 : (BitVec.ofNat 64 n ||| BitVec.ofNat 64 (4294967296 * m)).toNat = 4294967296 * m + n := by
    rw [BitVec.toNat_or, BitVec.toNat_ofNat, BitVec.toNat_ofNat, Nat.mod_eq_of_lt (by omega), Nat.mod_eq_of_lt (by omega), Nat.or_comm]
    have q := Nat.two_pow_add_eq_or_of_lt (i := 32) (b := n) (by omega) m
    have q : 4294967296 * m + n = 4294967296 * m ||| n := q
    exact q.symm
  rw [BitVec.toInt_eq_toNat_of_lt (by rw [e4]; omega), e4]
  omega
theorem lsh_43 {v : Int} (v0 : 0 ≤ v) (v1 : v < 524288) : lshl v 43 = 8796093022208 * v := by
  unfold lshl w64
  rw [show ((43 : Int) % 64).toNat = 43 by decide, show (2 : Int) ^ 43 = 8796093022208 by decide]
  omega
theorem lor_43 {x v : Int} (h0 : 0 ≤ x) (h1 : x < 8796093022208) (v0 : 0 ≤ v) (v1 : v < 524288) : lor x (8796093022208 * v) = x + 8796093022208 * v := by
  obtain ⟨n, rfl⟩ := Int.eq_ofNat_of_zero_le h0
  obtain ⟨m, rfl⟩ := Int.eq_ofNat_of_zero_le v0
  unfold lor
  have hn : n < 8796093022208 := by omega
  have hm : m < 524288 := by omega
  have e2 : BitVec.ofInt 64 (8796093022208 * (m : Int)) = BitVec.ofNat 64 (8796093022208 * m) := by rw [show (8796093022208 * (m : Int)) = ((8796093022208 * m : Nat) : Int) by omega]; rfl
  have e3 : BitVec.ofInt 64 (n : Int) = BitVec.ofNat 64 n := rfl
  rw [e2, e3]
  have e4 : (BitVec.ofNat 64 n ||| BitVec.ofNat 64 (8796093022208 * m)).toNat = 8796093022208 * m + n := by
    rw [BitVec.toNat_or, BitVec.toNat_ofNat, BitVec.toNat_ofNat, Nat.mod_eq_of_lt (by omega), Nat.mod_eq_of_lt (by omega), Nat.or_comm]
    have q := Nat.two_pow_add_eq_or_of_lt (i := 43) (b := n) (by omega) m
    have q : 8796093022208 * m + n = 8796093022208 * m ||| n := q
    exact q.symm
  rw [BitVec.toInt_eq_toNat_of_lt (by rw [e4]; omega), e4]
  omega
theorem E_pk0 {d : Nat} {g : AH} (hs : stK g) {v : Int} (v0 : (-9999) ≤ v) (v1 : v ≤ 22768) (Q : Option AV → AH → Prop) : XC (d + 1) 28 [vI 0, vI v] g Q = Q (some (vL (v + 9999))) g := by
  refine XC_eq (Nat.le_of_ble_eq_true rfl) ?_ Q
  show XP d 28 0 [some (vI 0), some (vI v)] [] g _
  obtain ⟨⟨s1, s2, s3⟩, jA, jB, jC⟩ := hs
  have q1 := jA.1
  have q3 := jC.1
  have w : WE (v - (-9999)) (v + 9999) := by unfold WE w32; omega
  have e : lshl (v + 9999) 0 = v + 9999 := by unfold lshl w64; rw [show ((0 : Int) % 64).toNat = 0 by decide, show (2 : Int) ^ 0 = 1 by decide]; omega
  refine xpk_sound (stops := []) (n := 30) ?_
  simp only [sk_0, sk_1, sk_2, sk_3, sk_4, sk_5, sk_6, sk_7, sk_8, sk_iadd, sk_isub, sk_imul, sk_iand, sk_ior, sk_ixor, sk_ishl, sk_ishr, sk_iushr, sk_idiv, sk_irem, sk_ineg, sk_ladd, sk_lsub, sk_lmul, sk_land, sk_lor, sk_ldiv, sk_lrem, sk_lneg, sk_lshl, sk_lshr, sk_i2l, sk_l2i, sk_lcmp, sk_dupI, sk_dupR, sk_dup2L, sk_dup2I, sk_popI, sk_ifeq, sk_ifne, sk_iflt, sk_ifge, sk_ifgt, sk_ifle, sk_iceq, sk_icne, sk_iclt, sk_icge, sk_icgt, sk_icle, sk_goto, sk_getf, sk_putf, sk_gets, sk_iald, sk_lald, sk_bald, sk_aald, sk_iast, sk_last, sk_bast, sk_aast, sk_alen, sk_newa, sk_newt, sk_new, sk_cs1, sk_cs2, sk_cs3, sk_cs4, sk_cs5, sk_cs6, sk_cv1, sk_cv2, sk_cv3, sk_cv4, sk_cv5, sk_cv6, sk_ci1, sk_ci2, sk_ci3, sk_ret0, sk_retI, sk_retL, sk_retR, sk_sw, sk_oin, sk_max, sk_min, sk_abs, lI_0, lI_s, lL_0, lL_s, lR_0, lR_s, vIo_e, vLo_e, vOo_e, stW_I, stW_L, stW_R, stW_0, stW_z, okSt_0, okSt_s, hV_eq, hK_eq, okF_0, okF_1, okF_3, is01_0, is01_1, is01_i, Int.toNat_natCast, Int.reduceEq, Int.reduceLE, Int.reduceLT, Int.reduceNeg, Nat.reduceLT, not_true_eq_false, not_false_eq_true, reduceIte, Option.toList, List.cons_append, List.nil_append, List.set_cons_zero, List.set_cons_succ, List.not_mem_nil, List.mem_cons, if_false, if_true, ite_true, ite_false, and_self, and_true, true_and, Nat.reduceAdd, Nat.reduceLeDiff, Nat.reduceEqDiff, Nat.zero_add, Nat.le_refl, Nat.zero_le, or_false, false_or, Int.reduceToNat, or_true, true_or, eq_self, and_false, false_and, inR_d, nc_4, nc_5, nc_6, nc_7, nc_8, nc_16, nc_18, nc_20, nc_24, nc_32, nc_40, nc_64, nc_104, nc_120, nc_160, nc_256, nc_300, nc_330, nc_390, nc_1200, nc_1260, nc_3012, nc_9834, okSt_1i, okSt_1r, okSt_1n, List.length_cons, List.length_nil, xpk_succ cd_28_0, xpk_succ cd_28_1, xpk_succ cd_28_4, xpk_succ cd_28_5, xpk_succ cd_28_6, xpk_succ cd_28_7, xpk_succ cd_28_8, xpk_succ cd_28_11, xpk_succ cd_28_12, xpk_succ cd_28_13, xpk_succ cd_28_14, s1, s3, q1, q3, (WE_e w), e]
theorem E_pk1 {d : Nat} {g : AH} (hs : stK g) {v : Int} (v0 : (-99) ≤ v) (v1 : v ≤ 156) (Q : Option AV → AH → Prop) : XC (d + 1) 28 [vI 1, vI v] g Q = Q (some (vL (32768 * (v + 99)))) g := by
  refine XC_eq (Nat.le_of_ble_eq_true rfl) ?_ Q
  show XP d 28 0 [some (vI 1), some (vI v)] [] g _
  obtain ⟨⟨s1, s2, s3⟩, jA, jB, jC⟩ := hs
  have q1 := jA.2.1
  have q3 := jC.2.1
  have w : WE (v - (-99)) (v + 99) := by unfold WE w32; omega
  have e : lshl (v + 99) 15 = 32768 * (v + 99) := lsh_15 (by omega) (by omega)
  refine xpk_sound (stops := []) (n := 30) ?_
  simp only [sk_0, sk_1, sk_2, sk_3, sk_4, sk_5, sk_6, sk_7, sk_8, sk_iadd, sk_isub, sk_imul, sk_iand, sk_ior, sk_ixor, sk_ishl, sk_ishr, sk_iushr, sk_idiv, sk_irem, sk_ineg, sk_ladd, sk_lsub, sk_lmul, sk_land, sk_lor, sk_ldiv, sk_lrem, sk_lneg, sk_lshl, sk_lshr, sk_i2l, sk_l2i, sk_lcmp, sk_dupI, sk_dupR, sk_dup2L, sk_dup2I, sk_popI, sk_ifeq, sk_ifne, sk_iflt, sk_ifge, sk_ifgt, sk_ifle, sk_iceq, sk_icne, sk_iclt, sk_icge, sk_icgt, sk_icle, sk_goto, sk_getf, sk_putf, sk_gets, sk_iald, sk_lald, sk_bald, sk_aald, sk_iast, sk_last, sk_bast, sk_aast, sk_alen, sk_newa, sk_newt, sk_new, sk_cs1, sk_cs2, sk_cs3, sk_cs4, sk_cs5, sk_cs6, sk_cv1, sk_cv2, sk_cv3, sk_cv4, sk_cv5, sk_cv6, sk_ci1, sk_ci2, sk_ci3, sk_ret0, sk_retI, sk_retL, sk_retR, sk_sw, sk_oin, sk_max, sk_min, sk_abs, lI_0, lI_s, lL_0, lL_s, lR_0, lR_s, vIo_e, vLo_e, vOo_e, stW_I, stW_L, stW_R, stW_0, stW_z, okSt_0, okSt_s, hV_eq, hK_eq, okF_0, okF_1, okF_3, is01_0, is01_1, is01_i, Int.toNat_natCast, Int.reduceEq, Int.reduceLE, Int.reduceLT, Int.reduceNeg, Nat.reduceLT, not_true_eq_false, not_false_eq_true, reduceIte, Option.toList, List.cons_append, List.nil_append, List.set_cons_zero, List.set_cons_succ, List.not_mem_nil, List.mem_cons, if_false, if_true, ite_true, ite_false, and_self, and_true, true_and, Nat.reduceAdd, Nat.reduceLeDiff, Nat.reduceEqDiff, Nat.zero_add, Nat.le_refl, Nat.zero_le, or_false, false_or, Int.reduceToNat, or_true, true_or, eq_self, and_false, false_and, inR_d, nc_4, nc_5, nc_6, nc_7, nc_8, nc_16, nc_18, nc_20, nc_24, nc_32, nc_40, nc_64, nc_104, nc_120, nc_160, nc_256, nc_300, nc_330, nc_390, nc_1200, nc_1260, nc_3012, nc_9834, okSt_1i, okSt_1r, okSt_1n, List.length_cons, List.length_nil, xpk_succ cd_28_0, xpk_succ cd_28_1, xpk_succ cd_28_4, xpk_succ cd_28_5, xpk_succ cd_28_6, xpk_succ cd_28_7, xpk_succ cd_28_8, xpk_succ cd_28_11, xpk_succ cd_28_12, xpk_succ cd_28_13, xpk_succ cd_28_14, s1, s3, q1, q3, (WE_e w), e]
theorem E_pk2 {d : Nat} {g : AH} (hs : stK g) {v : Int} (v0 : (-9) ≤ v) (v1 : v ≤ 22) (Q : Option AV → AH → Prop) : XC (d + 1) 28 [vI 2, vI v] g Q = Q (some (vL (8388608 * (v + 9)))) g := by
  refine XC_eq (Nat.le_of_ble_eq_true rfl) ?_ Q
  show XP d 28 0 [some (vI 2), some (vI v)] [] g _
  obtain ⟨⟨s1, s2, s3⟩, jA, jB, jC⟩ := hs
  have q1 := jA.2.2.1
  have q3 := jC.2.2.1
  have w : WE (v - (-9)) (v + 9) := by unfold WE w32; omega
  have e : lshl (v + 9) 23 = 8388608 * (v + 9) := lsh_23 (by omega) (by omega)
  refine xpk_sound (stops := []) (n := 30) ?_
  simp only [sk_0, sk_1, sk_2, sk_3, sk_4, sk_5, sk_6, sk_7, sk_8, sk_iadd, sk_isub, sk_imul, sk_iand, sk_ior, sk_ixor, sk_ishl, sk_ishr, sk_iushr, sk_idiv, sk_irem, sk_ineg, sk_ladd, sk_lsub, sk_lmul, sk_land, sk_lor, sk_ldiv, sk_lrem, sk_lneg, sk_lshl, sk_lshr, sk_i2l, sk_l2i, sk_lcmp, sk_dupI, sk_dupR, sk_dup2L, sk_dup2I, sk_popI, sk_ifeq, sk_ifne, sk_iflt, sk_ifge, sk_ifgt, sk_ifle, sk_iceq, sk_icne, sk_iclt, sk_icge, sk_icgt, sk_icle, sk_goto, sk_getf, sk_putf, sk_gets, sk_iald, sk_lald, sk_bald, sk_aald, sk_iast, sk_last, sk_bast, sk_aast, sk_alen, sk_newa, sk_newt, sk_new, sk_cs1, sk_cs2, sk_cs3, sk_cs4, sk_cs5, sk_cs6, sk_cv1, sk_cv2, sk_cv3, sk_cv4, sk_cv5, sk_cv6, sk_ci1, sk_ci2, sk_ci3, sk_ret0, sk_retI, sk_retL, sk_retR, sk_sw, sk_oin, sk_max, sk_min, sk_abs, lI_0, lI_s, lL_0, lL_s, lR_0, lR_s, vIo_e, vLo_e, vOo_e, stW_I, stW_L, stW_R, stW_0, stW_z, okSt_0, okSt_s, hV_eq, hK_eq, okF_0, okF_1, okF_3, is01_0, is01_1, is01_i, Int.toNat_natCast, Int.reduceEq, Int.reduceLE, Int.reduceLT, Int.reduceNeg, Nat.reduceLT, not_true_eq_false, not_false_eq_true, reduceIte, Option.toList, List.cons_append, List.nil_append, List.set_cons_zero, List.set_cons_succ, List.not_mem_nil, List.mem_cons, if_false, if_true, ite_true, ite_false, and_self, and_true, true_and, Nat.reduceAdd, Nat.reduceLeDiff, Nat.reduceEqDiff, Nat.zero_add, Nat.le_refl, Nat.zero_le, or_false, false_or, Int.reduceToNat, or_true, true_or, eq_self, and_false, false_and, inR_d, nc_4, nc_5, nc_6, nc_7, nc_8, nc_16, nc_18, nc_20, nc_24, nc_32, nc_40, nc_64, nc_104, nc_120, nc_160, nc_256, nc_300, nc_330, nc_390, nc_1200, nc_1260, nc_3012, nc_9834, okSt_1i, okSt_1r, okSt_1n, List.length_cons, List.length_nil, xpk_succ cd_28_0, xpk_succ cd_28_1, xpk_succ cd_28_4, xpk_succ cd_28_5, xpk_succ cd_28_6, xpk_succ cd_28_7, xpk_succ cd_28_8, xpk_succ cd_28_11, xpk_succ cd_28_12, xpk_succ cd_28_13, xpk_succ cd_28_14, s1, s3, q1, q3, (WE_e w), e]
theorem E_pk3 {d : Nat} {g : AH} (hs : stK g) {v : Int} (v0 : 0 ≤ v) (v1 : v ≤ 15) (Q : Option AV → AH → Prop) : XC (d + 1) 28 [vI 3, vI v] g Q = Q (some (vL (268435456 * (v)))) g := by
  refine XC_eq (Nat.le_of_ble_eq_true rfl) ?_ Q
  show XP d 28 0 [some (vI 3), some (vI v)] [] g _
  obtain ⟨⟨s1, s2, s3⟩, jA, jB, jC⟩ := hs
  have q1 := jA.2.2.2.1
  have q3 := jC.2.2.2.1
  have w : WE (v - 0) (v) := by unfold WE w32; omega
  have e : lshl (v) 28 = 268435456 * (v) := lsh_28 (by omega) (by omega)
  refine xpk_sound (stops := []) (n := 30) ?_
  simp only [sk_0, sk_1, sk_2, sk_3, sk_4, sk_5, sk_6, sk_7, sk_8, sk_iadd, sk_isub, sk_imul, sk_iand, sk_ior, sk_ixor, sk_ishl, sk_ishr, sk_iushr, sk_idiv, sk_irem, sk_ineg, sk_ladd, sk_lsub, sk_lmul, sk_land, sk_lor, sk_ldiv, sk_lrem, sk_lneg, sk_lshl, sk_lshr, sk_i2l, sk_l2i, sk_lcmp, sk_dupI, sk_dupR, sk_dup2L, sk_dup2I, sk_popI, sk_ifeq, sk_ifne, sk_iflt, sk_ifge, sk_ifgt, sk_ifle, sk_iceq, sk_icne, sk_iclt, sk_icge, sk_icgt, sk_icle, sk_goto, sk_getf, sk_putf, sk_gets, sk_iald, sk_lald, sk_bald, sk_aald, sk_iast, sk_last, sk_bast, sk_aast, sk_alen, sk_newa, sk_newt, sk_new, sk_cs1, sk_cs2, sk_cs3, sk_cs4, sk_cs5, sk_cs6, sk_cv1, sk_cv2, sk_cv3, sk_cv4, sk_cv5, sk_cv6, sk_ci1, sk_ci2, sk_ci3, sk_ret0, sk_retI, sk_retL, sk_retR, sk_sw, sk_oin, sk_max, sk_min, sk_abs, lI_0, lI_s, lL_0, lL_s, lR_0, lR_s, vIo_e, vLo_e, vOo_e, stW_I, stW_L, stW_R, stW_0, stW_z, okSt_0, okSt_s, hV_eq, hK_eq, okF_0, okF_1, okF_3, is01_0, is01_1, is01_i, Int.toNat_natCast, Int.reduceEq, Int.reduceLE, Int.reduceLT, Int.reduceNeg, Nat.reduceLT, not_true_eq_false, not_false_eq_true, reduceIte, Option.toList, List.cons_append, List.nil_append, List.set_cons_zero, List.set_cons_succ, List.not_mem_nil, List.mem_cons, if_false, if_true, ite_true, ite_false, and_self, and_true, true_and, Nat.reduceAdd, Nat.reduceLeDiff, Nat.reduceEqDiff, Nat.zero_add, Nat.le_refl, Nat.zero_le, or_false, false_or, Int.reduceToNat, or_true, true_or, eq_self, and_false, false_and, inR_d, nc_4, nc_5, nc_6, nc_7, nc_8, nc_16, nc_18, nc_20, nc_24, nc_32, nc_40, nc_64, nc_104, nc_120, nc_160, nc_256, nc_300, nc_330, nc_390, nc_1200, nc_1260, nc_3012, nc_9834, okSt_1i, okSt_1r, okSt_1n, List.length_cons, List.length_nil, xpk_succ cd_28_0, xpk_succ cd_28_1, xpk_succ cd_28_4, xpk_succ cd_28_5, xpk_succ cd_28_6, xpk_succ cd_28_7, xpk_succ cd_28_8, xpk_succ cd_28_11, xpk_succ cd_28_12, xpk_succ cd_28_13, xpk_succ cd_28_14, s1, s3, q1, q3, (WE_e w), e]
theorem E_pk4 {d : Nat} {g : AH} (hs : stK g) {v : Int} (v0 : (-600) ≤ v) (v1 : v ≤ 1447) (Q : Option AV → AH → Prop) : XC (d + 1) 28 [vI 4, vI v] g Q = Q (some (vL (4294967296 * (v + 600)))) g := by
  refine XC_eq (Nat.le_of_ble_eq_true rfl) ?_ Q
  show XP d 28 0 [some (vI 4), some (vI v)] [] g _
  obtain ⟨⟨s1, s2, s3⟩, jA, jB, jC⟩ := hs
  have q1 := jA.2.2.2.2.1
  have q3 := jC.2.2.2.2.1
  have w : WE (v - (-600)) (v + 600) := by unfold WE w32; omega
  have e : lshl (v + 600) 32 = 4294967296 * (v + 600) := lsh_32 (by omega) (by omega)
  refine xpk_sound (stops := []) (n := 30) ?_
  simp only [sk_0, sk_1, sk_2, sk_3, sk_4, sk_5, sk_6, sk_7, sk_8, sk_iadd, sk_isub, sk_imul, sk_iand, sk_ior, sk_ixor, sk_ishl, sk_ishr, sk_iushr, sk_idiv, sk_irem, sk_ineg, sk_ladd, sk_lsub, sk_lmul, sk_land, sk_lor, sk_ldiv, sk_lrem, sk_lneg, sk_lshl, sk_lshr, sk_i2l, sk_l2i, sk_lcmp, sk_dupI, sk_dupR, sk_dup2L, sk_dup2I, sk_popI, sk_ifeq, sk_ifne, sk_iflt, sk_ifge, sk_ifgt, sk_ifle, sk_iceq, sk_icne, sk_iclt, sk_icge, sk_icgt, sk_icle, sk_goto, sk_getf, sk_putf, sk_gets, sk_iald, sk_lald, sk_bald, sk_aald, sk_iast, sk_last, sk_bast, sk_aast, sk_alen, sk_newa, sk_newt, sk_new, sk_cs1, sk_cs2, sk_cs3, sk_cs4, sk_cs5, sk_cs6, sk_cv1, sk_cv2, sk_cv3, sk_cv4, sk_cv5, sk_cv6, sk_ci1, sk_ci2, sk_ci3, sk_ret0, sk_retI, sk_retL, sk_retR, sk_sw, sk_oin, sk_max, sk_min, sk_abs, lI_0, lI_s, lL_0, lL_s, lR_0, lR_s, vIo_e, vLo_e, vOo_e, stW_I, stW_L, stW_R, stW_0, stW_z, okSt_0, okSt_s, hV_eq, hK_eq, okF_0, okF_1, okF_3, is01_0, is01_1, is01_i, Int.toNat_natCast, Int.reduceEq, Int.reduceLE, Int.reduceLT, Int.reduceNeg, Nat.reduceLT, not_true_eq_false, not_false_eq_true, reduceIte, Option.toList, List.cons_append, List.nil_append, List.set_cons_zero, List.set_cons_succ, List.not_mem_nil, List.mem_cons, if_false, if_true, ite_true, ite_false, and_self, and_true, true_and, Nat.reduceAdd, Nat.reduceLeDiff, Nat.reduceEqDiff, Nat.zero_add, Nat.le_refl, Nat.zero_le, or_false, false_or, Int.reduceToNat, or_true, true_or, eq_self, and_false, false_and, inR_d, nc_4, nc_5, nc_6, nc_7, nc_8, nc_16, nc_18, nc_20, nc_24, nc_32, nc_40, nc_64, nc_104, nc_120, nc_160, nc_256, nc_300, nc_330, nc_390, nc_1200, nc_1260, nc_3012, nc_9834, okSt_1i, okSt_1r, okSt_1n, List.length_cons, List.length_nil, xpk_succ cd_28_0, xpk_succ cd_28_1, xpk_succ cd_28_4, xpk_succ cd_28_5, xpk_succ cd_28_6, xpk_succ cd_28_7, xpk_succ cd_28_8, xpk_succ cd_28_11, xpk_succ cd_28_12, xpk_succ cd_28_13, xpk_succ cd_28_14, s1, s3, q1, q3, (WE_e w), e]
theorem E_pk5 {d : Nat} {g : AH} (hs : stK g) {v : Int} (v0 : (-1) ≤ v) (v1 : v ≤ 2) (Q : Option AV → AH → Prop) : XC (d + 1) 28 [vI 5, vI v] g Q = Q (some (vL (8796093022208 * (v + 1)))) g := by
  refine XC_eq (Nat.le_of_ble_eq_true rfl) ?_ Q
  show XP d 28 0 [some (vI 5), some (vI v)] [] g _
  obtain ⟨⟨s1, s2, s3⟩, jA, jB, jC⟩ := hs
  have q1 := jA.2.2.2.2.2
  have q3 := jC.2.2.2.2.2
  have w : WE (v - (-1)) (v + 1) := by unfold WE w32; omega
  have e : lshl (v + 1) 43 = 8796093022208 * (v + 1) := lsh_43 (by omega) (by omega)
  refine xpk_sound (stops := []) (n := 30) ?_
  simp only [sk_0, sk_1, sk_2, sk_3, sk_4, sk_5, sk_6, sk_7, sk_8, sk_iadd, sk_isub, sk_imul, sk_iand, sk_ior, sk_ixor, sk_ishl, sk_ishr, sk_iushr, sk_idiv, sk_irem, sk_ineg, sk_ladd, sk_lsub, sk_lmul, sk_land, sk_lor, sk_ldiv, sk_lrem, sk_lneg, sk_lshl, sk_lshr, sk_i2l, sk_l2i, sk_lcmp, sk_dupI, sk_dupR, sk_dup2L, sk_dup2I, sk_popI, sk_ifeq, sk_ifne, sk_iflt, sk_ifge, sk_ifgt, sk_ifle, sk_iceq, sk_icne, sk_iclt, sk_icge, sk_icgt, sk_icle, sk_goto, sk_getf, sk_putf, sk_gets, sk_iald, sk_lald, sk_bald, sk_aald, sk_iast, sk_last, sk_bast, sk_aast, sk_alen, sk_newa, sk_newt, sk_new, sk_cs1, sk_cs2, sk_cs3, sk_cs4, sk_cs5, sk_cs6, sk_cv1, sk_cv2, sk_cv3, sk_cv4, sk_cv5, sk_cv6, sk_ci1, sk_ci2, sk_ci3, sk_ret0, sk_retI, sk_retL, sk_retR, sk_sw, sk_oin, sk_max, sk_min, sk_abs, lI_0, lI_s, lL_0, lL_s, lR_0, lR_s, vIo_e, vLo_e, vOo_e, stW_I, stW_L, stW_R, stW_0, stW_z, okSt_0, okSt_s, hV_eq, hK_eq, okF_0, okF_1, okF_3, is01_0, is01_1, is01_i, Int.toNat_natCast, Int.reduceEq, Int.reduceLE, Int.reduceLT, Int.reduceNeg, Nat.reduceLT, not_true_eq_false, not_false_eq_true, reduceIte, Option.toList, List.cons_append, List.nil_append, List.set_cons_zero, List.set_cons_succ, List.not_mem_nil, List.mem_cons, if_false, if_true, ite_true, ite_false, and_self, and_true, true_and, Nat.reduceAdd, Nat.reduceLeDiff, Nat.reduceEqDiff, Nat.zero_add, Nat.le_refl, Nat.zero_le, or_false, false_or, Int.reduceToNat, or_true, true_or, eq_self, and_false, false_and, inR_d, nc_4, nc_5, nc_6, nc_7, nc_8, nc_16, nc_18, nc_20, nc_24, nc_32, nc_40, nc_64, nc_104, nc_120, nc_160, nc_256, nc_300, nc_330, nc_390, nc_1200, nc_1260, nc_3012, nc_9834, okSt_1i, okSt_1r, okSt_1n, List.length_cons, List.length_nil, xpk_succ cd_28_0, xpk_succ cd_28_1, xpk_succ cd_28_4, xpk_succ cd_28_5, xpk_succ cd_28_6, xpk_succ cd_28_7, xpk_succ cd_28_8, xpk_succ cd_28_11, xpk_succ cd_28_12, xpk_succ cd_28_13, xpk_succ cd_28_14, s1, s3, q1, q3, (WE_e w), e]
def pkZ (f : Nat → Int) (c : Int) : Int := f 1 - f 3 + 9999 + 32768 * (f 4 + 99) + 8388608 * (f 2 + 9) + 268435456 * f 7 + 4294967296 * (f 8 - f 1 + 600) + 8796093022208 * (c + 1)
theorem pk_0 {a b c d e g z : Int} (ha : 0 ≤ a ∧ a < 32768) (hb : 0 ≤ b ∧ b < 256) (hc : 0 ≤ c ∧ c < 32) (hd : 0 ≤ d ∧ d < 16) (he : 0 ≤ e ∧ e < 2048) (hg : 0 ≤ g ∧ g < 4) (hz : z = a + 32768 * b + 8388608 * c + 268435456 * d + 4294967296 * e + 8796093022208 * g) : z % 32768 = a := by omega
theorem pkd_1 {a b c d e g z : Int} (ha : 0 ≤ a ∧ a < 32768) (hb : 0 ≤ b ∧ b < 256) (hc : 0 ≤ c ∧ c < 32) (hd : 0 ≤ d ∧ d < 16) (he : 0 ≤ e ∧ e < 2048) (hg : 0 ≤ g ∧ g < 4) (hz : z = a + 32768 * b + 8388608 * c + 268435456 * d + 4294967296 * e + 8796093022208 * g) : z / 32768 = b + 256 * c + 8192 * d + 131072 * e + 268435456 * g := by omega
theorem pk_1 {a b c d e g z : Int} (ha : 0 ≤ a ∧ a < 32768) (hb : 0 ≤ b ∧ b < 256) (hc : 0 ≤ c ∧ c < 32) (hd : 0 ≤ d ∧ d < 16) (he : 0 ≤ e ∧ e < 2048) (hg : 0 ≤ g ∧ g < 4) (hz : z = a + 32768 * b + 8388608 * c + 268435456 * d + 4294967296 * e + 8796093022208 * g) : z / 32768 % 256 = b := by
  rw [pkd_1 ha hb hc hd he hg hz]
  clear hz
  omega
theorem pkd_2 {a b c d e g z : Int} (ha : 0 ≤ a ∧ a < 32768) (hb : 0 ≤ b ∧ b < 256) (hc : 0 ≤ c ∧ c < 32) (hd : 0 ≤ d ∧ d < 16) (he : 0 ≤ e ∧ e < 2048) (hg : 0 ≤ g ∧ g < 4) (hz : z = a + 32768 * b + 8388608 * c + 268435456 * d + 4294967296 * e + 8796093022208 * g) : z / 8388608 = c + 32 * d + 512 * e + 1048576 * g := by omega
theorem pk_2 {a b c d e g z : Int} (ha : 0 ≤ a ∧ a < 32768) (hb : 0 ≤ b ∧ b < 256) (hc : 0 ≤ c ∧ c < 32) (hd : 0 ≤ d ∧ d < 16) (he : 0 ≤ e ∧ e < 2048) (hg : 0 ≤ g ∧ g < 4) (hz : z = a + 32768 * b + 8388608 * c + 268435456 * d + 4294967296 * e + 8796093022208 * g) : z / 8388608 % 32 = c := by
  rw [pkd_2 ha hb hc hd he hg hz]
  clear hz
  omega
theorem pkd_3 {a b c d e g z : Int} (ha : 0 ≤ a ∧ a < 32768) (hb : 0 ≤ b ∧ b < 256) (hc : 0 ≤ c ∧ c < 32) (hd : 0 ≤ d ∧ d < 16) (he : 0 ≤ e ∧ e < 2048) (hg : 0 ≤ g ∧ g < 4) (hz : z = a + 32768 * b + 8388608 * c + 268435456 * d + 4294967296 * e + 8796093022208 * g) : z / 268435456 = d + 16 * e + 32768 * g := by omega
theorem pk_3 {a b c d e g z : Int} (ha : 0 ≤ a ∧ a < 32768) (hb : 0 ≤ b ∧ b < 256) (hc : 0 ≤ c ∧ c < 32) (hd : 0 ≤ d ∧ d < 16) (he : 0 ≤ e ∧ e < 2048) (hg : 0 ≤ g ∧ g < 4) (hz : z = a + 32768 * b + 8388608 * c + 268435456 * d + 4294967296 * e + 8796093022208 * g) : z / 268435456 % 16 = d := by
  rw [pkd_3 ha hb hc hd he hg hz]
  clear hz
  omega
theorem pkd_4 {a b c d e g z : Int} (ha : 0 ≤ a ∧ a < 32768) (hb : 0 ≤ b ∧ b < 256) (hc : 0 ≤ c ∧ c < 32) (hd : 0 ≤ d ∧ d < 16) (he : 0 ≤ e ∧ e < 2048) (hg : 0 ≤ g ∧ g < 4) (hz : z = a + 32768 * b + 8388608 * c + 268435456 * d + 4294967296 * e + 8796093022208 * g) : z / 4294967296 = e + 2048 * g := by omega
theorem pk_4 {a b c d e g z : Int} (ha : 0 ≤ a ∧ a < 32768) (hb : 0 ≤ b ∧ b < 256) (hc : 0 ≤ c ∧ c < 32) (hd : 0 ≤ d ∧ d < 16) (he : 0 ≤ e ∧ e < 2048) (hg : 0 ≤ g ∧ g < 4) (hz : z = a + 32768 * b + 8388608 * c + 268435456 * d + 4294967296 * e + 8796093022208 * g) : z / 4294967296 % 2048 = e := by
  rw [pkd_4 ha hb hc hd he hg hz]
  clear hz
  omega
theorem pkd_5 {a b c d e g z : Int} (ha : 0 ≤ a ∧ a < 32768) (hb : 0 ≤ b ∧ b < 256) (hc : 0 ≤ c ∧ c < 32) (hd : 0 ≤ d ∧ d < 16) (he : 0 ≤ e ∧ e < 2048) (hg : 0 ≤ g ∧ g < 4) (hz : z = a + 32768 * b + 8388608 * c + 268435456 * d + 4294967296 * e + 8796093022208 * g) : z / 8796093022208 = g := by omega
theorem pk_5 {a b c d e g z : Int} (ha : 0 ≤ a ∧ a < 32768) (hb : 0 ≤ b ∧ b < 256) (hc : 0 ≤ c ∧ c < 32) (hd : 0 ≤ d ∧ d < 16) (he : 0 ≤ e ∧ e < 2048) (hg : 0 ≤ g ∧ g < 4) (hz : z = a + 32768 * b + 8388608 * c + 268435456 * d + 4294967296 * e + 8796093022208 * g) : z / 8796093022208 % 4 = g := by
  rw [pkd_5 ha hb hc hd he hg hz]
  clear hz
  omega
theorem pkZ_r {f : Nat → Int} (hf : HKr f) {c : Int} (c0 : -1 ≤ c) (c1 : c ≤ 2) : prW (pkZ f c) 0 = f 1 - f 3 ∧ prW (pkZ f c) 1 = f 4 ∧ prW (pkZ f c) 2 = f 2 ∧ prW (pkZ f c) 3 = f 7 ∧ prW (pkZ f c) 4 = f 8 - f 1 ∧ prW (pkZ f c) 5 = c := by
  obtain ⟨a1, a2, a3, a4, a5, a6, a7, a8, a9⟩ := hf
  have e : ∀ z : Int, prW z 0 = z % 32768 - 9999 ∧ prW z 1 = z / 32768 % 256 - 99 ∧ prW z 2 = z / 8388608 % 32 - 9 ∧ prW z 3 = z / 268435456 % 16 ∧ prW z 4 = z / 4294967296 % 2048 - 600 ∧ prW z 5 = z / 8796093022208 % 4 - 1 := fun z => ⟨rfl, rfl, rfl, rfl, rfl, rfl⟩
  obtain ⟨e0, e1, e2, e3, e4, e5⟩ := e (pkZ f c)
  rw [e0, e1, e2, e3, e4, e5]
  clear e e0 e1 e2 e3 e4 e5
  have ha : 0 ≤ f 1 - f 3 + 9999 ∧ f 1 - f 3 + 9999 < 32768 := by omega
  have hb : 0 ≤ f 4 + 99 ∧ f 4 + 99 < 256 := by omega
  have hc : 0 ≤ f 2 + 9 ∧ f 2 + 9 < 32 := by omega
  have hd : 0 ≤ f 7 ∧ f 7 < 16 := by omega
  have he : 0 ≤ f 8 - f 1 + 600 ∧ f 8 - f 1 + 600 < 2048 := by omega
  have hg : 0 ≤ c + 1 ∧ c + 1 < 4 := by omega
  have hz : pkZ f c = (f 1 - f 3 + 9999) + 32768 * (f 4 + 99) + 8388608 * (f 2 + 9) + 268435456 * f 7 + 4294967296 * (f 8 - f 1 + 600) + 8796093022208 * (c + 1) := rfl
  refine ⟨?_, ?_, ?_, pk_3 ha hb hc hd he hg hz, ?_, ?_⟩
  · rw [pk_0 ha hb hc hd he hg hz]; omega
  · rw [pk_1 ha hb hc hd he hg hz]; omega
  · rw [pk_2 ha hb hc hd he hg hz]; omega
  · rw [pk_4 ha hb hc hd he hg hz]; omega
  · rw [pk_5 ha hb hc hd he hg hz]; omega
set_option maxHeartbeats 4000000 in
theorem E_kee {d : Nat} {g : AH} (hs : stK g) {r kc R sz : Nat} {f : Nat → Int} (hh : HKC g r kc f) (hf : HKr f) (k0 : hK g kc = (1, 0) ∧ hK g R = (12, sz)) (k1 : hV g kc 0 = vR R ∧ hV g kc 1 = vI (sz : Int)) (hz : 0 < sz) {t : Nat} (h9 : f 9 = (t : Int)) {c : Int} (c0 : -1 ≤ c) (c1 : c ≤ 2) (Q : Option AV → AH → Prop) : XC (d + 2) 27 [vR kc, vR r, vI c] g Q = Q none (hSet g R (t % sz) (vL (pkZ f c))) := by
  refine XC_eq (Nat.le_of_ble_eq_true rfl) ?_ Q
  show XP (d + 1) 27 0 [some (vR kc), some (vR r), some (vI c)] [] g _
  have ea := fun Q => E_aw (d := d) hh hf Q
  have q1 := hh.2.2 1 (by decide) (by decide)
  have q2 := hh.2.2 2 (by decide) (by decide)
  have q4 := hh.2.2 4 (by decide) (by decide)
  have q7 := hh.2.2 7 (by decide) (by decide)
  have q8 := hh.2.2 8 (by decide) (by decide)
  have q9 := hh.2.2 9 (by decide) (by decide)
  rw [h9] at q9
  have kr := hh.1
  obtain ⟨a1, a2, a3, a4, a5, a6, a7, a8, a9⟩ := hf
  have p0 := fun Q => E_pk0 (d := d) hs (v := f 1 - f 3) (by omega) (by omega) Q
  have p1 := fun Q => E_pk1 (d := d) hs (v := f 4) (by omega) (by omega) Q
  have p2 := fun Q => E_pk2 (d := d) hs (v := f 2) (by omega) (by omega) Q
  have p3 := fun Q => E_pk3 (d := d) hs (v := f 7) (by omega) (by omega) Q
  have p4 := fun Q => E_pk4 (d := d) hs (v := f 8 - f 1) (by omega) (by omega) Q
  have p5 := fun Q => E_pk5 (d := d) hs (v := c) (by omega) (by omega) Q
  have l1 : lor (f 1 - f 3 + 9999) (32768 * (f 4 + 99)) = f 1 - f 3 + 9999 + 32768 * (f 4 + 99) := lor_15 (by omega) (by omega) (by omega) (by omega)
  have l2 : lor (f 1 - f 3 + 9999 + 32768 * (f 4 + 99)) (8388608 * (f 2 + 9)) = f 1 - f 3 + 9999 + 32768 * (f 4 + 99) + 8388608 * (f 2 + 9) := lor_23 (by omega) (by omega) (by omega) (by omega)
  have l3 : lor (f 1 - f 3 + 9999 + 32768 * (f 4 + 99) + 8388608 * (f 2 + 9)) (268435456 * f 7) = f 1 - f 3 + 9999 + 32768 * (f 4 + 99) + 8388608 * (f 2 + 9) + 268435456 * f 7 := lor_28 (by omega) (by omega) (by omega) (by omega)
  have l4 : lor (f 1 - f 3 + 9999 + 32768 * (f 4 + 99) + 8388608 * (f 2 + 9) + 268435456 * f 7) (4294967296 * (f 8 - f 1 + 600)) = f 1 - f 3 + 9999 + 32768 * (f 4 + 99) + 8388608 * (f 2 + 9) + 268435456 * f 7 + 4294967296 * (f 8 - f 1 + 600) := lor_32 (by omega) (by omega) (by omega) (by omega)
  have l5 : lor (f 1 - f 3 + 9999 + 32768 * (f 4 + 99) + 8388608 * (f 2 + 9) + 268435456 * f 7 + 4294967296 * (f 8 - f 1 + 600)) (8796093022208 * (c + 1)) = f 1 - f 3 + 9999 + 32768 * (f 4 + 99) + 8388608 * (f 2 + 9) + 268435456 * f 7 + 4294967296 * (f 8 - f 1 + 600) + 8796093022208 * (c + 1) := lor_43 (by omega) (by omega) (by omega) (by omega)
  have w8 : WE (f 8 - f 1) (f 8 - f 1) := by unfold WE w32; omega
  have tm := tm_n t sz
  have z0 : ¬ (t : Int) < 0 := by omega
  have z0b : (0 : Int) ≤ (t : Int) := by omega
  have z1 : ¬ ((sz : Nat) : Int) = 0 := by omega
  have b1 : (0 : Int) ≤ ((t % sz : Nat) : Int) ∧ ((t % sz : Nat) : Int) < (sz : Int) := by
    have := Nat.mod_lt t hz
    omega
  unfold pkZ
  refine xpk_sound (stops := []) (n := 90) ?_
  simp only [sk_0, sk_1, sk_2, sk_3, sk_4, sk_5, sk_6, sk_7, sk_8, sk_iadd, sk_isub, sk_imul, sk_iand, sk_ior, sk_ixor, sk_ishl, sk_ishr, sk_iushr, sk_idiv, sk_irem, sk_ineg, sk_ladd, sk_lsub, sk_lmul, sk_land, sk_lor, sk_ldiv, sk_lrem, sk_lneg, sk_lshl, sk_lshr, sk_i2l, sk_l2i, sk_lcmp, sk_dupI, sk_dupR, sk_dup2L, sk_dup2I, sk_popI, sk_ifeq, sk_ifne, sk_iflt, sk_ifge, sk_ifgt, sk_ifle, sk_iceq, sk_icne, sk_iclt, sk_icge, sk_icgt, sk_icle, sk_goto, sk_getf, sk_putf, sk_gets, sk_iald, sk_lald, sk_bald, sk_aald, sk_iast, sk_last, sk_bast, sk_aast, sk_alen, sk_newa, sk_newt, sk_new, sk_cs1, sk_cs2, sk_cs3, sk_cs4, sk_cs5, sk_cs6, sk_cv1, sk_cv2, sk_cv3, sk_cv4, sk_cv5, sk_cv6, sk_ci1, sk_ci2, sk_ci3, sk_ret0, sk_retI, sk_retL, sk_retR, sk_sw, sk_oin, sk_max, sk_min, sk_abs, lI_0, lI_s, lL_0, lL_s, lR_0, lR_s, vIo_e, vLo_e, vOo_e, stW_I, stW_L, stW_R, stW_0, stW_z, okSt_0, okSt_s, hV_eq, hK_eq, okF_0, okF_1, okF_3, is01_0, is01_1, is01_i, Int.toNat_natCast, Int.reduceEq, Int.reduceLE, Int.reduceLT, Int.reduceNeg, Nat.reduceLT, not_true_eq_false, not_false_eq_true, reduceIte, Option.toList, List.cons_append, List.nil_append, List.set_cons_zero, List.set_cons_succ, List.not_mem_nil, List.mem_cons, if_false, if_true, ite_true, ite_false, and_self, and_true, true_and, Nat.reduceAdd, Nat.reduceLeDiff, Nat.reduceEqDiff, Nat.zero_add, Nat.le_refl, Nat.zero_le, or_false, false_or, Int.reduceToNat, or_true, true_or, eq_self, and_false, false_and, inR_d, nc_4, nc_5, nc_6, nc_7, nc_8, nc_16, nc_18, nc_20, nc_24, nc_32, nc_40, nc_64, nc_104, nc_120, nc_160, nc_256, nc_300, nc_330, nc_390, nc_1200, nc_1260, nc_3012, nc_9834, okSt_1i, okSt_1r, okSt_1n, List.length_cons, List.length_nil, xpk_succ cd_27_0, xpk_succ cd_27_1, xpk_succ cd_27_4, xpk_succ cd_27_7, xpk_succ cd_27_8, xpk_succ cd_27_9, xpk_succ cd_27_12, xpk_succ cd_27_13, xpk_succ cd_27_16, xpk_succ cd_27_17, xpk_succ cd_27_20, xpk_succ cd_27_21, xpk_succ cd_27_22, xpk_succ cd_27_23, xpk_succ cd_27_26, xpk_succ cd_27_29, xpk_succ cd_27_30, xpk_succ cd_27_31, xpk_succ cd_27_34, xpk_succ cd_27_37, xpk_succ cd_27_38, xpk_succ cd_27_39, xpk_succ cd_27_40, xpk_succ cd_27_43, xpk_succ cd_27_46, xpk_succ cd_27_47, xpk_succ cd_27_48, xpk_succ cd_27_49, xpk_succ cd_27_52, xpk_succ cd_27_55, xpk_succ cd_27_56, xpk_succ cd_27_57, xpk_succ cd_27_58, xpk_succ cd_27_61, xpk_succ cd_27_62, xpk_succ cd_27_65, xpk_succ cd_27_66, xpk_succ cd_27_69, xpk_succ cd_27_70, xpk_succ cd_27_71, xpk_succ cd_27_72, xpk_succ cd_27_75, xpk_succ cd_27_76, xpk_succ cd_27_77, kr, k0.1, k0.2, k1.1, k1.2, q1, q2, q4, q7, q8, q9, ea, p0, p1, p2, p3, p4, p5, l1, l2, l3, l4, l5, (WE_e w8), tm, z0, z0b, z1, b1]
/-- hook and rows -/
def hGk (h : AH) (r R : Nat) (f rw_ : Nat → Int) (sz : Nat) : AH := (h.1, h.2.1, h.2.2.1, fun k j => if k = r ∧ 1 ≤ j ∧ j < 15 then vI (f j) else if k = R ∧ j < sz then vL (rw_ j) else h.2.2.2 k j)
theorem hK_Gk {h : AH} {r R sz : Nat} {f rw_ : Nat → Int} : hK (hGk h r R f rw_ sz) = hK h := rfl
theorem hGk_f {h : AH} {r R sz : Nat} {f rw_ : Nat → Int} {i : Nat} (h1 : 1 ≤ i) (h2 : i < 15) : hV (hGk h r R f rw_ sz) r i = vI (f i) := if_pos ⟨rfl, h1, h2⟩
theorem hGk_r {h : AH} {r R sz : Nat} {f rw_ : Nat → Int} (hr : r ≠ R) {i : Nat} (hi : i < sz) : hV (hGk h r R f rw_ sz) R i = vL (rw_ i) := by
  show (if R = r ∧ 1 ≤ i ∧ i < 15 then vI (f i) else if R = R ∧ i < sz then vL (rw_ i) else h.2.2.2 R i) = _
  rw [if_neg (fun y => hr y.1.symm), if_pos ⟨rfl, hi⟩]
theorem hGk_n {h : AH} {r R sz : Nat} {f rw_ : Nat → Int} {k i : Nat} (h1 : k ≠ r ∨ i = 0) (h2 : k ≠ R) : hV (hGk h r R f rw_ sz) k i = hV h k i := by
  show (if k = r ∧ 1 ≤ i ∧ i < 15 then vI (f i) else if k = R ∧ i < sz then vL (rw_ i) else h.2.2.2 k i) = _
  rw [if_neg (by omega), if_neg (fun y => h2 y.1)]
  rfl
theorem hGk_sf {h : AH} {r R sz : Nat} {f rw_ : Nat → Int} {i : Nat} {x : Int} (h1 : 1 ≤ i) (h2 : i < 15) : hSet (hGk h r R f rw_ sz) r i (vI x) = hGk h r R (upF f i x) rw_ sz := by
  refine Prod.ext rfl (Prod.ext rfl (Prod.ext rfl ?_))
  funext k j
  show (if k = r ∧ j = i then vI x else if k = r ∧ 1 ≤ j ∧ j < 15 then vI (f j) else if k = R ∧ j < sz then vL (rw_ j) else h.2.2.2 k j) = (if k = r ∧ 1 ≤ j ∧ j < 15 then vI (upF f i x j) else if k = R ∧ j < sz then vL (rw_ j) else h.2.2.2 k j)
  by_cases z : k = r ∧ j = i
  · rw [if_pos z, if_pos ⟨z.1, by omega, by omega⟩, z.2, upF_at]
  · rw [if_neg z]
    by_cases y : k = r ∧ 1 ≤ j ∧ j < 15
    · rw [if_pos y, if_pos y, upF_ne (fun q => z ⟨y.1, q⟩)]
    · rw [if_neg y, if_neg y]
theorem hGk_sr {h : AH} {r R sz : Nat} {f rw_ : Nat → Int} (hr : r ≠ R) {i : Nat} {x : Int} (hi : i < sz) : hSet (hGk h r R f rw_ sz) R i (vL x) = hGk h r R f (upF rw_ i x) sz := by
  refine Prod.ext rfl (Prod.ext rfl (Prod.ext rfl ?_))
  funext k j
  show (if k = R ∧ j = i then vL x else if k = r ∧ 1 ≤ j ∧ j < 15 then vI (f j) else if k = R ∧ j < sz then vL (rw_ j) else h.2.2.2 k j) = (if k = r ∧ 1 ≤ j ∧ j < 15 then vI (f j) else if k = R ∧ j < sz then vL (upF rw_ i x j) else h.2.2.2 k j)
  by_cases z : k = R ∧ j = i
  · rw [if_pos z, if_neg (fun y => hr (y.1.symm.trans z.1)), if_pos ⟨z.1, by omega⟩, z.2, upF_at]
  · rw [if_neg z]
    by_cases y : k = r ∧ 1 ≤ j ∧ j < 15
    · rw [if_pos y, if_pos y]
    rw [if_neg y, if_neg y]
    by_cases y2 : k = R ∧ j < sz
    · rw [if_pos y2, if_pos y2, upF_ne (fun q => z ⟨y2.1, q⟩)]
    · rw [if_neg y2, if_neg y2]
theorem hW_so {h : AH} {nm : Nat → Int} {kc : Nat} {tn el : Int} {k0 i : Nat} {v : AV} (h1 : k0 ≠ 59) (h2 : k0 ≠ 58) : hSet (hW h nm kc tn el) k0 i v = hW (hSet h k0 i v) nm kc tn el := by
  refine Prod.ext rfl (Prod.ext rfl (Prod.ext rfl ?_))
  funext k j
  show (if k = k0 ∧ j = i then v else if k = 59 ∧ j < 8 then vI (nm j) else if k = 58 ∧ j = 4 then vR kc else if k = 58 ∧ j = 5 then vI tn else if k = 58 ∧ j = 6 then vI el else h.2.2.2 k j) = (if k = 59 ∧ j < 8 then vI (nm j) else if k = 58 ∧ j = 4 then vR kc else if k = 58 ∧ j = 5 then vI tn else if k = 58 ∧ j = 6 then vI el else if k = k0 ∧ j = i then v else h.2.2.2 k j)
  by_cases z : k = k0 ∧ j = i
  · rw [if_pos z, if_neg (by omega), if_neg (by omega), if_neg (by omega), if_neg (by omega), if_pos z]
  · rw [if_neg z]
    by_cases y1 : k = 59 ∧ j < 8
    · rw [if_pos y1, if_pos y1]
    rw [if_neg y1, if_neg y1]
    by_cases y2 : k = 58 ∧ j = 4
    · rw [if_pos y2, if_pos y2]
    rw [if_neg y2, if_neg y2]
    by_cases y3 : k = 58 ∧ j = 5
    · rw [if_pos y3, if_pos y3]
    rw [if_neg y3, if_neg y3]
    by_cases y4 : k = 58 ∧ j = 6
    · rw [if_pos y4, if_pos y4]
    rw [if_neg y4, if_neg y4, if_neg z]
theorem hQ_so {h : AH} {nm : Nat → Int} {kc : Nat} {tn el : Int} {sf : Nat → Int} {k0 i : Nat} {v : AV} (hk : k0 < 58) : hSet (hQ h nm kc tn el sf) k0 i v = hQ (hSet h k0 i v) nm kc tn el sf := (hL_so (by omega)).trans (congrArg (fun g => hL g sf) (hW_so (by omega) (by omega)))
