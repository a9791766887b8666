set_option maxRecDepth 20000 in
theorem ac_302 : allC[302]? = some cl302 := rfl
theorem cd_302_0 : cd 302 0 = some (2, 1, 1, 0, 0, []) := cd_row ac_302 rfl
theorem cd_302_1 : cd 302 1 = some (0, 2, 0, 0, 1, []) := cd_row ac_302 rfl
theorem cd_302_2 : cd 302 2 = some (0, 3, 0, 0, 1, []) := cd_row ac_302 rfl
theorem cd_302_3 : cd 302 3 = some (4, 4, 0, 0, 0, []) := cd_row ac_302 rfl
theorem cd_302_4 : cd 302 4 = some (23, 7, 10, 0, 0, []) := cd_row ac_302 rfl
theorem cd_302_7 : cd 302 7 = some (0, 8, 0, 0, 0, []) := cd_row ac_302 rfl
theorem cd_302_8 : cd 302 8 = some (26, 9, 0, 0, 0, []) := cd_row ac_302 rfl
theorem cd_302_9 : cd 302 9 = some (9, 10, 0, 8, 0, []) := cd_row ac_302 rfl
theorem cd_302_10 : cd 302 10 = some (0, 11, 0, 0, 1, []) := cd_row ac_302 rfl
theorem cd_302_11 : cd 302 11 = some (9, 12, 0, 1, 0, []) := cd_row ac_302 rfl
theorem cd_302_12 : cd 302 12 = some (38, 15, 182, 3, 0, []) := cd_row ac_302 rfl
theorem cd_302_15 : cd 302 15 = some (20, 18, 26, 0, 0, []) := cd_row ac_302 rfl
theorem cd_302_18 : cd 302 18 = some (2, 19, 1, 0, 0, []) := cd_row ac_302 rfl
theorem cd_302_19 : cd 302 19 = some (38, 22, 186, 1, 0, []) := cd_row ac_302 rfl
theorem cd_302_22 : cd 302 22 = some (2, 23, 2, 0, 0, []) := cd_row ac_302 rfl
theorem cd_302_23 : cd 302 23 = some (21, 26, 28, 5, 0, []) := cd_row ac_302 rfl
theorem cd_302_26 : cd 302 26 = some (0, 27, 0, 0, 0, []) := cd_row ac_302 rfl
theorem cd_302_27 : cd 302 27 = some (40, 28, 1, 0, 0, []) := cd_row ac_302 rfl
theorem cd_302_28 : cd 302 28 = some (4, 29, 0, 0, 0, []) := cd_row ac_302 rfl
theorem cd_302_29 : cd 302 29 = some (0, 30, 0, 0, 0, []) := cd_row ac_302 rfl
theorem cd_302_30 : cd 302 30 = some (24, 33, 10, 34, 0, []) := cd_row ac_302 rfl
theorem cd_302_33 : cd 302 33 = some (0, 34, 0, 0, 0, []) := cd_row ac_302 rfl
theorem cd_302_34 : cd 302 34 = some (5, 35, 3, 0, 0, []) := cd_row ac_302 rfl
theorem cd_302_35 : cd 302 35 = some (2, 36, 3, 0, 0, []) := cd_row ac_302 rfl
theorem cd_302_36 : cd 302 36 = some (4, 37, 0, 0, 0, []) := cd_row ac_302 rfl
theorem cd_302_37 : cd 302 37 = some (23, 40, 10, 0, 0, []) := cd_row ac_302 rfl
theorem cd_302_40 : cd 302 40 = some (0, 41, 0, 0, 0, []) := cd_row ac_302 rfl
theorem cd_302_41 : cd 302 41 = some (26, 42, 0, 0, 0, []) := cd_row ac_302 rfl
theorem cd_302_42 : cd 302 42 = some (21, 45, 109, 3, 0, []) := cd_row ac_302 rfl
theorem cd_302_45 : cd 302 45 = some (2, 46, 1, 0, 0, []) := cd_row ac_302 rfl
theorem cd_302_46 : cd 302 46 = some (2, 47, 3, 0, 0, []) := cd_row ac_302 rfl
theorem cd_302_47 : cd 302 47 = some (38, 50, 185, 2, 0, []) := cd_row ac_302 rfl
theorem cd_302_50 : cd 302 50 = some (20, 53, 56, 1, 0, []) := cd_row ac_302 rfl
theorem cd_302_53 : cd 302 53 = some (22, 56, 103, 0, 0, []) := cd_row ac_302 rfl
theorem cd_302_56 : cd 302 56 = some (4, 57, 0, 0, 0, []) := cd_row ac_302 rfl
theorem cd_302_57 : cd 302 57 = some (23, 60, 10, 30, 0, []) := cd_row ac_302 rfl
theorem cd_302_60 : cd 302 60 = some (4, 61, 0, 0, 0, []) := cd_row ac_302 rfl
theorem cd_302_61 : cd 302 61 = some (23, 64, 10, 34, 0, []) := cd_row ac_302 rfl
theorem cd_302_64 : cd 302 64 = some (2, 65, 3, 0, 0, []) := cd_row ac_302 rfl
theorem cd_302_65 : cd 302 65 = some (30, 66, 0, 0, 0, []) := cd_row ac_302 rfl
theorem cd_302_66 : cd 302 66 = some (4, 67, 0, 0, 0, []) := cd_row ac_302 rfl
theorem cd_302_67 : cd 302 67 = some (23, 70, 10, 31, 0, []) := cd_row ac_302 rfl
theorem cd_302_70 : cd 302 70 = some (4, 71, 0, 0, 0, []) := cd_row ac_302 rfl
theorem cd_302_71 : cd 302 71 = some (23, 74, 10, 34, 0, []) := cd_row ac_302 rfl
theorem cd_302_74 : cd 302 74 = some (4, 75, 0, 0, 0, []) := cd_row ac_302 rfl
theorem cd_302_75 : cd 302 75 = some (2, 76, 3, 0, 0, []) := cd_row ac_302 rfl
theorem cd_302_76 : cd 302 76 = some (46, 79, 246, 2, 10, []) := cd_row ac_302 rfl
theorem cd_302_79 : cd 302 79 = some (30, 80, 0, 0, 0, []) := cd_row ac_302 rfl
theorem cd_302_80 : cd 302 80 = some (4, 81, 0, 0, 0, []) := cd_row ac_302 rfl
theorem cd_302_81 : cd 302 81 = some (23, 84, 10, 32, 0, []) := cd_row ac_302 rfl
theorem cd_302_84 : cd 302 84 = some (4, 85, 0, 0, 0, []) := cd_row ac_302 rfl
theorem cd_302_85 : cd 302 85 = some (23, 88, 10, 34, 0, []) := cd_row ac_302 rfl
theorem cd_302_88 : cd 302 88 = some (4, 89, 0, 0, 0, []) := cd_row ac_302 rfl
theorem cd_302_89 : cd 302 89 = some (23, 92, 10, 34, 0, []) := cd_row ac_302 rfl
theorem cd_302_92 : cd 302 92 = some (30, 93, 0, 0, 0, []) := cd_row ac_302 rfl
theorem cd_302_93 : cd 302 93 = some (4, 94, 0, 0, 0, []) := cd_row ac_302 rfl
theorem cd_302_94 : cd 302 94 = some (17, 95, 0, 0, 0, []) := cd_row ac_302 rfl
theorem cd_302_95 : cd 302 95 = some (23, 98, 10, 34, 0, []) := cd_row ac_302 rfl
theorem cd_302_98 : cd 302 98 = some (0, 99, 0, 0, 1, []) := cd_row ac_302 rfl
theorem cd_302_99 : cd 302 99 = some (9, 100, 0, 0, 0, []) := cd_row ac_302 rfl
theorem cd_302_100 : cd 302 100 = some (24, 103, 10, 34, 0, []) := cd_row ac_302 rfl
theorem cd_302_103 : cd 302 103 = some (8, 106, 3, 0, 1, []) := cd_row ac_302 rfl
theorem cd_302_106 : cd 302 106 = some (22, 109, 35, 0, 0, []) := cd_row ac_302 rfl
theorem cd_302_109 : cd 302 109 = some (0, 110, 0, 0, 1, []) := cd_row ac_302 rfl
theorem cd_302_110 : cd 302 110 = some (40, 111, 1, 0, 0, []) := cd_row ac_302 rfl
def mdF : MD := [(76, 34, 34), (82, 0, 8), (83, 0, 330), (84, 0, 330), (87, 0, 8), (88, 0, 8), (89, 0, 8), (90, 0, 8), (91, 0, 8), (92, 0, 8)]
/-! the reference's cells for first and twoJibs -/
theorem j76f : jF 76 30 87 = true ∧ jF 76 31 88 = true ∧ jF 76 32 89 = true ∧ jF 76 33 90 = true ∧ jF 76 35 91 = true ∧ jF 76 36 92 = true := ⟨by decide +kernel, by decide +kernel, by decide +kernel, by decide +kernel, by decide +kernel, by decide +kernel⟩
theorem j8k : jK 87 11 8 = true ∧ jK 88 11 8 = true ∧ jK 89 11 8 = true ∧ jK 90 11 8 = true ∧ jK 91 11 8 = true ∧ jK 92 11 8 = true := ⟨by decide +kernel, by decide +kernel, by decide +kernel, by decide +kernel, by decide +kernel, by decide +kernel⟩
theorem j8g : jG 87 0 8 1 (false, 0, 7) = true ∧ jG 89 0 8 1 (false, 0, 7) = true ∧ jG 91 0 8 1 (false, -2147483648, 2147483647) = true := ⟨by decide +kernel, by decide +kernel, by decide +kernel⟩
theorem j8w : jW1 87 (false, 0, 7) = true ∧ jW1 88 (false, -2147483648, 2147483647) = true ∧ jW1 89 (false, 0, 7) = true ∧ jW1 90 (false, 0, 7) = true ∧ jW1 92 (false, -2147483648, 2147483647) = true ∧ jW2 76 34 (false, 0, 8) = true := ⟨by decide +kernel, by decide +kernel, by decide +kernel, by decide +kernel, by decide +kernel, by decide +kernel⟩
def hsB (x y : Int) : Int := if iand (ishr x y) 1 = 1 then 1 else 0
theorem X_has {d : Nat} {x y : Int} {h : AH} {Q : Option AV → AH → Prop} : XC (d + 1) 185 [vI x, vI y] h Q = Q (some (vI (hsB x y))) h := by
  have q0 : XC (d + 1) 185 [vI x, vI y] h (fun r h' => r = some (vI (hsB x y)) ∧ h' = h) := by
    refine XC_of (Nat.le_of_ble_eq_true rfl) ?_
    show XP d 185 0 [some (vI x), some (vI y)] [] h _
    unfold hsB
    by_cases z : iand (ishr x y) 1 = 1
    · refine xpk_sound (stops := []) (n := 20) ?_
      simp only [sk_0, sk_1, sk_2, sk_3, sk_4, sk_5, sk_6, sk_7, sk_8, sk_iadd, sk_isub, sk_imul, sk_iand, sk_ior, sk_ixor, sk_ishl, sk_ishr, sk_iushr, sk_idiv, sk_irem, sk_ineg, sk_ladd, sk_lsub, sk_lmul, sk_land, sk_lor, sk_ldiv, sk_lrem, sk_lneg, sk_lshl, sk_lshr, sk_i2l, sk_l2i, sk_lcmp, sk_dupI, sk_dupR, sk_dup2L, sk_dup2I, sk_popI, sk_ifeq, sk_ifne, sk_iflt, sk_ifge, sk_ifgt, sk_ifle, sk_iceq, sk_icne, sk_iclt, sk_icge, sk_icgt, sk_icle, sk_goto, sk_getf, sk_putf, sk_gets, sk_iald, sk_lald, sk_bald, sk_aald, sk_iast, sk_last, sk_bast, sk_aast, sk_alen, sk_newa, sk_newt, sk_new, sk_cs1, sk_cs2, sk_cs3, sk_cs4, sk_cs5, sk_cs6, sk_cv1, sk_cv2, sk_cv3, sk_cv4, sk_cv5, sk_cv6, sk_ci1, sk_ci2, sk_ci3, sk_ret0, sk_retI, sk_retL, sk_retR, sk_sw, sk_oin, sk_max, sk_min, sk_abs, lI_0, lI_s, lL_0, lL_s, lR_0, lR_s, vIo_e, vLo_e, vOo_e, stW_I, stW_L, stW_R, stW_0, stW_z, okSt_0, okSt_s, hV_eq, hK_eq, okF_0, okF_1, okF_3, is01_0, is01_1, is01_i, Int.toNat_natCast, Int.reduceEq, Int.reduceLE, Int.reduceLT, Int.reduceNeg, Nat.reduceLT, not_true_eq_false, not_false_eq_true, reduceIte, Option.toList, List.cons_append, List.nil_append, List.set_cons_zero, List.set_cons_succ, List.not_mem_nil, List.mem_cons, if_false, if_true, ite_true, ite_false, and_self, and_true, true_and, Nat.reduceAdd, Nat.reduceLeDiff, Nat.reduceEqDiff, Nat.zero_add, Nat.le_refl, Nat.zero_le, or_false, false_or, Int.reduceToNat, or_true, true_or, eq_self, and_false, false_and, inR_d, nc_4, nc_5, nc_6, nc_7, nc_8, nc_16, nc_18, nc_20, nc_24, nc_32, nc_40, nc_64, nc_104, nc_120, nc_160, nc_256, nc_300, nc_330, nc_390, nc_1200, nc_1260, nc_3012, nc_9834, okSt_1i, okSt_1r, okSt_1n, xpk_succ cd_185_0, xpk_succ cd_185_1, xpk_succ cd_185_2, xpk_succ cd_185_3, xpk_succ cd_185_4, xpk_succ cd_185_5, xpk_succ cd_185_6, xpk_succ cd_185_9, xpk_succ cd_185_10, xpk_succ cd_185_13, xpk_succ cd_185_14, z]
    · refine xpk_sound (stops := []) (n := 20) ?_
      simp only [sk_0, sk_1, sk_2, sk_3, sk_4, sk_5, sk_6, sk_7, sk_8, sk_iadd, sk_isub, sk_imul, sk_iand, sk_ior, sk_ixor, sk_ishl, sk_ishr, sk_iushr, sk_idiv, sk_irem, sk_ineg, sk_ladd, sk_lsub, sk_lmul, sk_land, sk_lor, sk_ldiv, sk_lrem, sk_lneg, sk_lshl, sk_lshr, sk_i2l, sk_l2i, sk_lcmp, sk_dupI, sk_dupR, sk_dup2L, sk_dup2I, sk_popI, sk_ifeq, sk_ifne, sk_iflt, sk_ifge, sk_ifgt, sk_ifle, sk_iceq, sk_icne, sk_iclt, sk_icge, sk_icgt, sk_icle, sk_goto, sk_getf, sk_putf, sk_gets, sk_iald, sk_lald, sk_bald, sk_aald, sk_iast, sk_last, sk_bast, sk_aast, sk_alen, sk_newa, sk_newt, sk_new, sk_cs1, sk_cs2, sk_cs3, sk_cs4, sk_cs5, sk_cs6, sk_cv1, sk_cv2, sk_cv3, sk_cv4, sk_cv5, sk_cv6, sk_ci1, sk_ci2, sk_ci3, sk_ret0, sk_retI, sk_retL, sk_retR, sk_sw, sk_oin, sk_max, sk_min, sk_abs, lI_0, lI_s, lL_0, lL_s, lR_0, lR_s, vIo_e, vLo_e, vOo_e, stW_I, stW_L, stW_R, stW_0, stW_z, okSt_0, okSt_s, hV_eq, hK_eq, okF_0, okF_1, okF_3, is01_0, is01_1, is01_i, Int.toNat_natCast, Int.reduceEq, Int.reduceLE, Int.reduceLT, Int.reduceNeg, Nat.reduceLT, not_true_eq_false, not_false_eq_true, reduceIte, Option.toList, List.cons_append, List.nil_append, List.set_cons_zero, List.set_cons_succ, List.not_mem_nil, List.mem_cons, if_false, if_true, ite_true, ite_false, and_self, and_true, true_and, Nat.reduceAdd, Nat.reduceLeDiff, Nat.reduceEqDiff, Nat.zero_add, Nat.le_refl, Nat.zero_le, or_false, false_or, Int.reduceToNat, or_true, true_or, eq_self, and_false, false_and, inR_d, nc_4, nc_5, nc_6, nc_7, nc_8, nc_16, nc_18, nc_20, nc_24, nc_32, nc_40, nc_64, nc_104, nc_120, nc_160, nc_256, nc_300, nc_330, nc_390, nc_1200, nc_1260, nc_3012, nc_9834, okSt_1i, okSt_1r, okSt_1n, xpk_succ cd_185_0, xpk_succ cd_185_1, xpk_succ cd_185_2, xpk_succ cd_185_3, xpk_succ cd_185_4, xpk_succ cd_185_5, xpk_succ cd_185_6, xpk_succ cd_185_9, xpk_succ cd_185_10, xpk_succ cd_185_13, xpk_succ cd_185_14, z]
  obtain ⟨r, h', ⟨rfl, rfl⟩, e⟩ := XC_dt q0
  exact e Q
theorem if_01 {c : Prop} [Decidable c] : (if c then (1 : Int) else 0) = 0 ∨ (if c then (1 : Int) else 0) = 1 := by
  split
  · exact Or.inr rfl
  · exact Or.inl rfl
theorem hs_c {x y : Int} : hsB x y = 0 ∨ hsB x y = 1 := by
  unfold hsB
  split
  · exact Or.inr rfl
  · exact Or.inl rfl
theorem bt_l {d : Nat} {h : AH} {x : Int} : ∀ (e i : Nat) (s : Int), i + e = 8 → XP d 186 4 [some (vI x), some (vI s), some (vI (i : Int))] [] h (fun r h' => h' = h ∧ ∃ y : Int, r = some (vI y)) := by
  intro e
  induction e with
  | zero =>
    intro i s hi
    have z : ¬ (i : Int) < 8 := by omega
    have z' : (8 : Int) ≤ (i : Int) := by omega
    have y : ∃ y : Int, some (vI s) = some (vI y) := ⟨s, rfl⟩
    refine xpk_sound (stops := []) (n := 20) ?_
    simp only [sk_0, sk_1, sk_2, sk_3, sk_4, sk_5, sk_6, sk_7, sk_8, sk_iadd, sk_isub, sk_imul, sk_iand, sk_ior, sk_ixor, sk_ishl, sk_ishr, sk_iushr, sk_idiv, sk_irem, sk_ineg, sk_ladd, sk_lsub, sk_lmul, sk_land, sk_lor, sk_ldiv, sk_lrem, sk_lneg, sk_lshl, sk_lshr, sk_i2l, sk_l2i, sk_lcmp, sk_dupI, sk_dupR, sk_dup2L, sk_dup2I, sk_popI, sk_ifeq, sk_ifne, sk_iflt, sk_ifge, sk_ifgt, sk_ifle, sk_iceq, sk_icne, sk_iclt, sk_icge, sk_icgt, sk_icle, sk_goto, sk_getf, sk_putf, sk_gets, sk_iald, sk_lald, sk_bald, sk_aald, sk_iast, sk_last, sk_bast, sk_aast, sk_alen, sk_newa, sk_newt, sk_new, sk_cs1, sk_cs2, sk_cs3, sk_cs4, sk_cs5, sk_cs6, sk_cv1, sk_cv2, sk_cv3, sk_cv4, sk_cv5, sk_cv6, sk_ci1, sk_ci2, sk_ci3, sk_ret0, sk_retI, sk_retL, sk_retR, sk_sw, sk_oin, sk_max, sk_min, sk_abs, lI_0, lI_s, lL_0, lL_s, lR_0, lR_s, vIo_e, vLo_e, vOo_e, stW_I, stW_L, stW_R, stW_0, stW_z, okSt_0, okSt_s, hV_eq, hK_eq, okF_0, okF_1, okF_3, is01_0, is01_1, is01_i, Int.toNat_natCast, Int.reduceEq, Int.reduceLE, Int.reduceLT, Int.reduceNeg, Nat.reduceLT, not_true_eq_false, not_false_eq_true, reduceIte, Option.toList, List.cons_append, List.nil_append, List.set_cons_zero, List.set_cons_succ, List.not_mem_nil, List.mem_cons, if_false, if_true, ite_true, ite_false, and_self, and_true, true_and, Nat.reduceAdd, Nat.reduceLeDiff, Nat.reduceEqDiff, Nat.zero_add, Nat.le_refl, Nat.zero_le, or_false, false_or, Int.reduceToNat, or_true, true_or, eq_self, and_false, false_and, inR_d, nc_4, nc_5, nc_6, nc_7, nc_8, nc_16, nc_18, nc_20, nc_24, nc_32, nc_40, nc_64, nc_104, nc_120, nc_160, nc_256, nc_300, nc_330, nc_390, nc_1200, nc_1260, nc_3012, nc_9834, okSt_1i, okSt_1r, okSt_1n, xpk_succ cd_186_4, xpk_succ cd_186_5, xpk_succ cd_186_7, xpk_succ cd_186_10, xpk_succ cd_186_11, xpk_succ cd_186_12, xpk_succ cd_186_13, xpk_succ cd_186_14, xpk_succ cd_186_15, xpk_succ cd_186_16, xpk_succ cd_186_17, xpk_succ cd_186_18, xpk_succ cd_186_21, xpk_succ cd_186_24, xpk_succ cd_186_25, z, z']
    exact y
  | succ e ih =>
    intro i s hi
    have z : ¬ (8 : Int) ≤ (i : Int) := by omega
    have a1 := p1_ (show i < 1000 by omega)
    have y := fun s => ih (i + 1) s (by omega)
    refine xpk_sound (stops := [4]) (n := 20) ?_
    simp only [sk_0, sk_1, sk_2, sk_3, sk_4, sk_5, sk_6, sk_7, sk_8, sk_iadd, sk_isub, sk_imul, sk_iand, sk_ior, sk_ixor, sk_ishl, sk_ishr, sk_iushr, sk_idiv, sk_irem, sk_ineg, sk_ladd, sk_lsub, sk_lmul, sk_land, sk_lor, sk_ldiv, sk_lrem, sk_lneg, sk_lshl, sk_lshr, sk_i2l, sk_l2i, sk_lcmp, sk_dupI, sk_dupR, sk_dup2L, sk_dup2I, sk_popI, sk_ifeq, sk_ifne, sk_iflt, sk_ifge, sk_ifgt, sk_ifle, sk_iceq, sk_icne, sk_iclt, sk_icge, sk_icgt, sk_icle, sk_goto, sk_getf, sk_putf, sk_gets, sk_iald, sk_lald, sk_bald, sk_aald, sk_iast, sk_last, sk_bast, sk_aast, sk_alen, sk_newa, sk_newt, sk_new, sk_cs1, sk_cs2, sk_cs3, sk_cs4, sk_cs5, sk_cs6, sk_cv1, sk_cv2, sk_cv3, sk_cv4, sk_cv5, sk_cv6, sk_ci1, sk_ci2, sk_ci3, sk_ret0, sk_retI, sk_retL, sk_retR, sk_sw, sk_oin, sk_max, sk_min, sk_abs, lI_0, lI_s, lL_0, lL_s, lR_0, lR_s, vIo_e, vLo_e, vOo_e, stW_I, stW_L, stW_R, stW_0, stW_z, okSt_0, okSt_s, hV_eq, hK_eq, okF_0, okF_1, okF_3, is01_0, is01_1, is01_i, Int.toNat_natCast, Int.reduceEq, Int.reduceLE, Int.reduceLT, Int.reduceNeg, Nat.reduceLT, not_true_eq_false, not_false_eq_true, reduceIte, Option.toList, List.cons_append, List.nil_append, List.set_cons_zero, List.set_cons_succ, List.not_mem_nil, List.mem_cons, if_false, if_true, ite_true, ite_false, and_self, and_true, true_and, Nat.reduceAdd, Nat.reduceLeDiff, Nat.reduceEqDiff, Nat.zero_add, Nat.le_refl, Nat.zero_le, or_false, false_or, Int.reduceToNat, or_true, true_or, eq_self, and_false, false_and, inR_d, nc_4, nc_5, nc_6, nc_7, nc_8, nc_16, nc_18, nc_20, nc_24, nc_32, nc_40, nc_64, nc_104, nc_120, nc_160, nc_256, nc_300, nc_330, nc_390, nc_1200, nc_1260, nc_3012, nc_9834, okSt_1i, okSt_1r, okSt_1n, xpk_succ cd_186_4, xpk_succ cd_186_5, xpk_succ cd_186_7, xpk_succ cd_186_10, xpk_succ cd_186_11, xpk_succ cd_186_12, xpk_succ cd_186_13, xpk_succ cd_186_14, xpk_succ cd_186_15, xpk_succ cd_186_16, xpk_succ cd_186_17, xpk_succ cd_186_18, xpk_succ cd_186_21, z, a1]
    exact y _
theorem X_bits {d : Nat} {h : AH} {x : Int} : ∃ y : Int, ∀ Q : Option AV → AH → Prop, XC (d + 1) 186 [vI x] h Q = Q (some (vI y)) h := by
  have q0 : XC (d + 1) 186 [vI x] h (fun r h' => h' = h ∧ ∃ y : Int, r = some (vI y)) := by
    refine XC_of (Nat.le_of_ble_eq_true rfl) ?_
    show XP d 186 0 [some (vI x), none, none] [] h _
    have y := bt_l (d := d) (h := h) (x := x) 8 0 0 rfl
    refine xpk_sound (stops := [4]) (n := 20) ?_
    simp only [sk_0, sk_1, sk_2, sk_3, sk_4, sk_5, sk_6, sk_7, sk_8, sk_iadd, sk_isub, sk_imul, sk_iand, sk_ior, sk_ixor, sk_ishl, sk_ishr, sk_iushr, sk_idiv, sk_irem, sk_ineg, sk_ladd, sk_lsub, sk_lmul, sk_land, sk_lor, sk_ldiv, sk_lrem, sk_lneg, sk_lshl, sk_lshr, sk_i2l, sk_l2i, sk_lcmp, sk_dupI, sk_dupR, sk_dup2L, sk_dup2I, sk_popI, sk_ifeq, sk_ifne, sk_iflt, sk_ifge, sk_ifgt, sk_ifle, sk_iceq, sk_icne, sk_iclt, sk_icge, sk_icgt, sk_icle, sk_goto, sk_getf, sk_putf, sk_gets, sk_iald, sk_lald, sk_bald, sk_aald, sk_iast, sk_last, sk_bast, sk_aast, sk_alen, sk_newa, sk_newt, sk_new, sk_cs1, sk_cs2, sk_cs3, sk_cs4, sk_cs5, sk_cs6, sk_cv1, sk_cv2, sk_cv3, sk_cv4, sk_cv5, sk_cv6, sk_ci1, sk_ci2, sk_ci3, sk_ret0, sk_retI, sk_retL, sk_retR, sk_sw, sk_oin, sk_max, sk_min, sk_abs, lI_0, lI_s, lL_0, lL_s, lR_0, lR_s, vIo_e, vLo_e, vOo_e, stW_I, stW_L, stW_R, stW_0, stW_z, okSt_0, okSt_s, hV_eq, hK_eq, okF_0, okF_1, okF_3, is01_0, is01_1, is01_i, Int.toNat_natCast, Int.reduceEq, Int.reduceLE, Int.reduceLT, Int.reduceNeg, Nat.reduceLT, not_true_eq_false, not_false_eq_true, reduceIte, Option.toList, List.cons_append, List.nil_append, List.set_cons_zero, List.set_cons_succ, List.not_mem_nil, List.mem_cons, if_false, if_true, ite_true, ite_false, and_self, and_true, true_and, Nat.reduceAdd, Nat.reduceLeDiff, Nat.reduceEqDiff, Nat.zero_add, Nat.le_refl, Nat.zero_le, or_false, false_or, Int.reduceToNat, or_true, true_or, eq_self, and_false, false_and, inR_d, nc_4, nc_5, nc_6, nc_7, nc_8, nc_16, nc_18, nc_20, nc_24, nc_32, nc_40, nc_64, nc_104, nc_120, nc_160, nc_256, nc_300, nc_330, nc_390, nc_1200, nc_1260, nc_3012, nc_9834, okSt_1i, okSt_1r, okSt_1n, xpk_succ cd_186_0, xpk_succ cd_186_1, xpk_succ cd_186_2, xpk_succ cd_186_3]
    exact y
  obtain ⟨r, h', ⟨rfl, y, rfl⟩, e⟩ := XC_dt q0
  exact ⟨y, e⟩
/-- what stands there when the members up to t are laid down -/
def LMi (mask : Int) (t n : Nat) (h : AH) : Prop := hV h 76 34 = vI (n : Int) ∧ n ≤ t ∧ (∀ i, i < n → hV h 89 i = vI (i : Int)) ∧ ∀ s : Nat, s < t → hsB mask (s : Int) = 1 → ∃ i, i < n ∧ hV h 87 i = vI (s : Int)
def LMd (β : Nat) (mask : Int) (h0 : AH) (r : Option AV) (h' : AH) : Prop := ∃ x : Int, r = some (vI x) ∧ ((x = 0 ∧ h' = h0) ∨ (x = 1 ∧ STo β mdF h0 h' ∧ ∃ n, n ≤ 8 ∧ LMi mask (aF h0 0).toNat n h'))
set_option maxHeartbeats 4000000 in
theorem lm_l {β d : Nat} {h0 : AH} {mask most : Int} (ha : 0 ≤ aF h0 0 ∧ aF h0 0 ≤ 8) : ∀ (e t n : Nat) (h : AH), t + e = (aF h0 0).toNat → STo β mdF h0 h → LMi mask t n h → XP (d + 10) 302 35 [some (vR 76), some (vI mask), some (vI most), some (vI (t : Int))] [] h (LMd β mask h0) := by
  intro e
  induction e with
  | zero =>
    intro t n h he hS hL
    have ho := AO_J hS.1
    have o1 := ho.1
    have o2 := ho.2.1
    have o3 := ho.2.2
    have v0 : hV h 77 0 = vI (aF h0 0) := by
      have := aF_v hS.1 0 (by decide)
      rw [this]
      unfold aF
      rw [ST_n hS (k := 77) (by decide)]
    have z : aF h0 0 ≤ (t : Int) := by omega
    have y : LMd β mask h0 (some (vI 1)) h := ⟨1, rfl, Or.inr ⟨rfl, hS, n, by have := hL.2.1; omega, by rw [show (aF h0 0).toNat = t by omega]; exact hL⟩⟩
    refine xpk_sound (stops := []) (n := 20) ?_
    simp only [sk_0, sk_1, sk_2, sk_3, sk_4, sk_5, sk_6, sk_7, sk_8, sk_iadd, sk_isub, sk_imul, sk_iand, sk_ior, sk_ixor, sk_ishl, sk_ishr, sk_iushr, sk_idiv, sk_irem, sk_ineg, sk_ladd, sk_lsub, sk_lmul, sk_land, sk_lor, sk_ldiv, sk_lrem, sk_lneg, sk_lshl, sk_lshr, sk_i2l, sk_l2i, sk_lcmp, sk_dupI, sk_dupR, sk_dup2L, sk_dup2I, sk_popI, sk_ifeq, sk_ifne, sk_iflt, sk_ifge, sk_ifgt, sk_ifle, sk_iceq, sk_icne, sk_iclt, sk_icge, sk_icgt, sk_icle, sk_goto, sk_getf, sk_putf, sk_gets, sk_iald, sk_lald, sk_bald, sk_aald, sk_iast, sk_last, sk_bast, sk_aast, sk_alen, sk_newa, sk_newt, sk_new, sk_cs1, sk_cs2, sk_cs3, sk_cs4, sk_cs5, sk_cs6, sk_cv1, sk_cv2, sk_cv3, sk_cv4, sk_cv5, sk_cv6, sk_ci1, sk_ci2, sk_ci3, sk_ret0, sk_retI, sk_retL, sk_retR, sk_sw, sk_oin, sk_max, sk_min, sk_abs, lI_0, lI_s, lL_0, lL_s, lR_0, lR_s, vIo_e, vLo_e, vOo_e, stW_I, stW_L, stW_R, stW_0, stW_z, okSt_0, okSt_s, hV_eq, hK_eq, okF_0, okF_1, okF_3, is01_0, is01_1, is01_i, Int.toNat_natCast, Int.reduceEq, Int.reduceLE, Int.reduceLT, Int.reduceNeg, Nat.reduceLT, not_true_eq_false, not_false_eq_true, reduceIte, Option.toList, List.cons_append, List.nil_append, List.set_cons_zero, List.set_cons_succ, List.not_mem_nil, List.mem_cons, if_false, if_true, ite_true, ite_false, and_self, and_true, true_and, Nat.reduceAdd, Nat.reduceLeDiff, Nat.reduceEqDiff, Nat.zero_add, Nat.le_refl, Nat.zero_le, or_false, false_or, Int.reduceToNat, or_true, true_or, eq_self, and_false, false_and, inR_d, nc_4, nc_5, nc_6, nc_7, nc_8, nc_16, nc_18, nc_20, nc_24, nc_32, nc_40, nc_64, nc_104, nc_120, nc_160, nc_256, nc_300, nc_330, nc_390, nc_1200, nc_1260, nc_3012, nc_9834, okSt_1i, okSt_1r, okSt_1n, xpk_succ cd_302_35, xpk_succ cd_302_36, xpk_succ cd_302_37, xpk_succ cd_302_40, xpk_succ cd_302_41, xpk_succ cd_302_42, xpk_succ cd_302_109, xpk_succ cd_302_110, o1, o2, o3, v0, z]
    exact y
  | succ e ih =>
    intro t n h he hS hL
    have ho := AO_J hS.1
    have o1 := ho.1
    have o2 := ho.2.1
    have o3 := ho.2.2
    have v0 : hV h 77 0 = vI (aF h0 0) := by
      have := aF_v hS.1 0 (by decide)
      rw [this]
      unfold aF
      rw [ST_n hS (k := 77) (by decide)]
    have z : ¬ aF h0 0 ≤ (t : Int) := by omega
    have xh : ∀ {D : Nat} {x y : Int} {g : AH} {Q : Option AV → AH → Prop}, XC (D + 1) 185 [vI x, vI y] g Q = Q (some (vI (hsB x y))) g := X_has
    have a1 := p1_ (show t < 1000 by omega)
    rcases hs_c (x := mask) (y := (t : Int)) with c | c
    · have y := ih (t + 1) n h (by omega) hS ⟨hL.1, by have := hL.2.1; omega, hL.2.2.1, fun s hs hb => by
        by_cases q : s = t
        · subst q; rw [c] at hb; cases hb
        · exact hL.2.2.2 s (by omega) hb⟩
      refine xpk_sound (stops := [35]) (n := 40) ?_
      simp only [sk_0, sk_1, sk_2, sk_3, sk_4, sk_5, sk_6, sk_7, sk_8, sk_iadd, sk_isub, sk_imul, sk_iand, sk_ior, sk_ixor, sk_ishl, sk_ishr, sk_iushr, sk_idiv, sk_irem, sk_ineg, sk_ladd, sk_lsub, sk_lmul, sk_land, sk_lor, sk_ldiv, sk_lrem, sk_lneg, sk_lshl, sk_lshr, sk_i2l, sk_l2i, sk_lcmp, sk_dupI, sk_dupR, sk_dup2L, sk_dup2I, sk_popI, sk_ifeq, sk_ifne, sk_iflt, sk_ifge, sk_ifgt, sk_ifle, sk_iceq, sk_icne, sk_iclt, sk_icge, sk_icgt, sk_icle, sk_goto, sk_getf, sk_putf, sk_gets, sk_iald, sk_lald, sk_bald, sk_aald, sk_iast, sk_last, sk_bast, sk_aast, sk_alen, sk_newa, sk_newt, sk_new, sk_cs1, sk_cs2, sk_cs3, sk_cs4, sk_cs5, sk_cs6, sk_cv1, sk_cv2, sk_cv3, sk_cv4, sk_cv5, sk_cv6, sk_ci1, sk_ci2, sk_ci3, sk_ret0, sk_retI, sk_retL, sk_retR, sk_sw, sk_oin, sk_max, sk_min, sk_abs, lI_0, lI_s, lL_0, lL_s, lR_0, lR_s, vIo_e, vLo_e, vOo_e, stW_I, stW_L, stW_R, stW_0, stW_z, okSt_0, okSt_s, hV_eq, hK_eq, okF_0, okF_1, okF_3, is01_0, is01_1, is01_i, Int.toNat_natCast, Int.reduceEq, Int.reduceLE, Int.reduceLT, Int.reduceNeg, Nat.reduceLT, not_true_eq_false, not_false_eq_true, reduceIte, Option.toList, List.cons_append, List.nil_append, List.set_cons_zero, List.set_cons_succ, List.not_mem_nil, List.mem_cons, if_false, if_true, ite_true, ite_false, and_self, and_true, true_and, Nat.reduceAdd, Nat.reduceLeDiff, Nat.reduceEqDiff, Nat.zero_add, Nat.le_refl, Nat.zero_le, or_false, false_or, Int.reduceToNat, or_true, true_or, eq_self, and_false, false_and, inR_d, nc_4, nc_5, nc_6, nc_7, nc_8, nc_16, nc_18, nc_20, nc_24, nc_32, nc_40, nc_64, nc_104, nc_120, nc_160, nc_256, nc_300, nc_330, nc_390, nc_1200, nc_1260, nc_3012, nc_9834, okSt_1i, okSt_1r, okSt_1n, xpk_succ cd_302_35, xpk_succ cd_302_36, xpk_succ cd_302_37, xpk_succ cd_302_40, xpk_succ cd_302_41, xpk_succ cd_302_42, xpk_succ cd_302_45, xpk_succ cd_302_46, xpk_succ cd_302_47, xpk_succ cd_302_50, xpk_succ cd_302_53, xpk_succ cd_302_56, xpk_succ cd_302_57, xpk_succ cd_302_60, xpk_succ cd_302_61, xpk_succ cd_302_64, xpk_succ cd_302_65, xpk_succ cd_302_66, xpk_succ cd_302_67, xpk_succ cd_302_70, xpk_succ cd_302_71, xpk_succ cd_302_74, xpk_succ cd_302_75, xpk_succ cd_302_76, xpk_succ cd_302_79, xpk_succ cd_302_80, xpk_succ cd_302_81, xpk_succ cd_302_84, xpk_succ cd_302_85, xpk_succ cd_302_88, xpk_succ cd_302_89, xpk_succ cd_302_92, xpk_succ cd_302_93, xpk_succ cd_302_94, xpk_succ cd_302_95, xpk_succ cd_302_98, xpk_succ cd_302_99, xpk_succ cd_302_100, xpk_succ cd_302_103, xpk_succ cd_302_106, o1, o2, o3, v0, z, xh, c, a1]
      exact y
    · obtain ⟨l1, l2, l3, l4⟩ := hL
      have n8 : n < 8 := by omega
      have b1 := i8 n8
      have a2 := p1_ (show n < 1000 by omega)
      have S1 : STo β mdF h0 (hSet h 87 n (vI (t : Int))) := ST_s1 (l := 0) (u := 7) hS j8w.1 (inI_of (by omega) (by omega)) (by decide +kernel) (by decide +kernel) (by omega) (by omega)
      have hk := okM246 (β := β) (d + 10) [vR 76, vI (t : Int)] (hSet h 87 n (vI (t : Int))) (fun r h' => ∃ x : Int, r = some (vI x) ∧ (-2147483648 ≤ x ∧ x ≤ 2147483647) ∧ k_H JB h' ∧ n_F (W0 β) cM246.2.2.1 (hSet h 87 n (vI (t : Int))) h') (by show 9 ≤ d + 10; omega) ⟨_, _, rfl, rfl, _, _, rfl, ⟨_, rfl, by show (0 : Int) ≤ (t : Int); omega, by show (t : Int) ≤ 7; omega⟩, rfl⟩ S1.1 S1.2.1.2 (fun f hf => by cases hf) (fun r h' q1 q2 q3 q4 q5 => by
        obtain ⟨u, rfl, x, rfl, x1, x2⟩ := q1
        exact ⟨x, rfl, ⟨x1, x2⟩, q2, q5⟩)
      obtain ⟨r, h2, ⟨x, rfl, hx, J2, F2⟩, e2⟩ := XC_dt (d := d + 9) hk
      have S2 : STo β mdF h0 h2 := ST_t S1 J2 F2 (by decide +kernel)
      have same : ∀ k i, ((cM246.2.2.1).all fun q => !Nat.beq q.1 k) = true → hV h2 k i = hV (hSet h 87 n (vI (t : Int))) k i := fun k i hk => ST_n (md := cM246.2.2.1) ⟨J2, F2⟩ hk
      have w34 : hV h2 76 34 = vI (n : Int) := by rw [same 76 34 (by decide), hV_eq, if_neg (fun z => by cases z.1)]; exact l1
      have w87 : ∀ i, hV h2 87 i = if i = n then vI (t : Int) else hV h 87 i := fun i => by
        rw [same 87 i (by decide), hV_eq]
        by_cases q : i = n
        · rw [if_pos ⟨rfl, q⟩, if_pos q]
        · rw [if_neg (fun z => q z.2), if_neg q]
      have w89 : ∀ i, hV h2 89 i = hV h 89 i := fun i => by rw [same 89 i (by decide), hV_eq, if_neg (fun z => by cases z.1)]
      have S3 : STo β mdF h0 (hSet h2 88 n (vI x)) := ST_s1 (l := 0) (u := 7) S2 j8w.2.1 (inI_of hx.1 hx.2) (by decide +kernel) (by decide +kernel) (by omega) (by omega)
      have S4 : STo β mdF h0 (hSet (hSet h2 88 n (vI x)) 89 n (vI (n : Int))) := ST_s1 (l := 0) (u := 7) S3 j8w.2.2.1 (inI_of (by omega) (by omega)) (by decide +kernel) (by decide +kernel) (by omega) (by omega)
      have S5 : STo β mdF h0 (hSet (hSet (hSet h2 88 n (vI x)) 89 n (vI (n : Int))) 76 34 (vI ((n + 1 : Nat) : Int))) := ST_s2 S4 j8w.2.2.2.2.2 (inI_of (by omega) (by omega)) (by decide +kernel) (by decide +kernel)
      have y := ih (t + 1) (n + 1) _ (by omega) S5 ⟨by rw [hV_eq, if_pos ⟨rfl, rfl⟩], by omega, fun i hi => by
        rw [hV_eq, if_neg (fun z => by cases z.1), hV_eq]
        by_cases q : i = n
        · rw [if_pos ⟨rfl, q⟩, q]
        · rw [if_neg (fun z => q z.2), hV_eq, if_neg (fun z => by cases z.1), w89]; exact l3 i (by omega), fun s hs hb => by
        by_cases q : s = t
        · subst q
          exact ⟨n, by omega, by rw [hV_eq, if_neg (fun z => by cases z.1), hV_eq, if_neg (fun z => by cases z.1), hV_eq, if_neg (fun z => by cases z.1), w87, if_pos rfl]⟩
        · obtain ⟨i, i1, i2⟩ := l4 s (by omega) hb
          exact ⟨i, by omega, by rw [hV_eq, if_neg (fun z => by cases z.1), hV_eq, if_neg (fun z => by cases z.1), hV_eq, if_neg (fun z => by cases z.1), w87, if_neg (by omega)]; exact i2⟩⟩
      have r30 := jF_s hS.1 j76f.1
      have r31 := jF_s hS.1 j76f.2.1
      have k87 := jK_s hS.1 j8k.1
      have g76 := (AO_J J2).1
      have g32 := jF_s J2 j76f.2.2.1
      have k88 := jK_s J2 j8k.2.1
      have k89 := jK_s J2 j8k.2.2.1
      refine xpk_sound (stops := [35]) (n := 60) ?_
      simp only [sk_0, sk_1, sk_2, sk_3, sk_4, sk_5, sk_6, sk_7, sk_8, sk_iadd, sk_isub, sk_imul, sk_iand, sk_ior, sk_ixor, sk_ishl, sk_ishr, sk_iushr, sk_idiv, sk_irem, sk_ineg, sk_ladd, sk_lsub, sk_lmul, sk_land, sk_lor, sk_ldiv, sk_lrem, sk_lneg, sk_lshl, sk_lshr, sk_i2l, sk_l2i, sk_lcmp, sk_dupI, sk_dupR, sk_dup2L, sk_dup2I, sk_popI, sk_ifeq, sk_ifne, sk_iflt, sk_ifge, sk_ifgt, sk_ifle, sk_iceq, sk_icne, sk_iclt, sk_icge, sk_icgt, sk_icle, sk_goto, sk_getf, sk_putf, sk_gets, sk_iald, sk_lald, sk_bald, sk_aald, sk_iast, sk_last, sk_bast, sk_aast, sk_alen, sk_newa, sk_newt, sk_new, sk_cs1, sk_cs2, sk_cs3, sk_cs4, sk_cs5, sk_cs6, sk_cv1, sk_cv2, sk_cv3, sk_cv4, sk_cv5, sk_cv6, sk_ci1, sk_ci2, sk_ci3, sk_ret0, sk_retI, sk_retL, sk_retR, sk_sw, sk_oin, sk_max, sk_min, sk_abs, lI_0, lI_s, lL_0, lL_s, lR_0, lR_s, vIo_e, vLo_e, vOo_e, stW_I, stW_L, stW_R, stW_0, stW_z, okSt_0, okSt_s, hV_eq, hK_eq, okF_0, okF_1, okF_3, is01_0, is01_1, is01_i, Int.toNat_natCast, Int.reduceEq, Int.reduceLE, Int.reduceLT, Int.reduceNeg, Nat.reduceLT, not_true_eq_false, not_false_eq_true, reduceIte, Option.toList, List.cons_append, List.nil_append, List.set_cons_zero, List.set_cons_succ, List.not_mem_nil, List.mem_cons, if_false, if_true, ite_true, ite_false, and_self, and_true, true_and, Nat.reduceAdd, Nat.reduceLeDiff, Nat.reduceEqDiff, Nat.zero_add, Nat.le_refl, Nat.zero_le, or_false, false_or, Int.reduceToNat, or_true, true_or, eq_self, and_false, false_and, inR_d, nc_4, nc_5, nc_6, nc_7, nc_8, nc_16, nc_18, nc_20, nc_24, nc_32, nc_40, nc_64, nc_104, nc_120, nc_160, nc_256, nc_300, nc_330, nc_390, nc_1200, nc_1260, nc_3012, nc_9834, okSt_1i, okSt_1r, okSt_1n, xpk_succ cd_302_35, xpk_succ cd_302_36, xpk_succ cd_302_37, xpk_succ cd_302_40, xpk_succ cd_302_41, xpk_succ cd_302_42, xpk_succ cd_302_45, xpk_succ cd_302_46, xpk_succ cd_302_47, xpk_succ cd_302_50, xpk_succ cd_302_53, xpk_succ cd_302_56, xpk_succ cd_302_57, xpk_succ cd_302_60, xpk_succ cd_302_61, xpk_succ cd_302_64, xpk_succ cd_302_65, xpk_succ cd_302_66, xpk_succ cd_302_67, xpk_succ cd_302_70, xpk_succ cd_302_71, xpk_succ cd_302_74, xpk_succ cd_302_75, xpk_succ cd_302_76, xpk_succ cd_302_79, xpk_succ cd_302_80, xpk_succ cd_302_81, xpk_succ cd_302_84, xpk_succ cd_302_85, xpk_succ cd_302_88, xpk_succ cd_302_89, xpk_succ cd_302_92, xpk_succ cd_302_93, xpk_succ cd_302_94, xpk_succ cd_302_95, xpk_succ cd_302_98, xpk_succ cd_302_99, xpk_succ cd_302_100, xpk_succ cd_302_103, xpk_succ cd_302_106, o1, o2, o3, v0, z, xh, c, a1, l1, b1, a2, e2, w34, r30, r31, k87, g76, g32, k88, k89]
      exact y
set_option maxHeartbeats 4000000 in
/-- the members are laid down, each in its place -/
theorem X_lm {β d : Nat} {h : AH} {mask most : Int} (hJ : k_H JB h) (hW : W0 β h) : XC (d + 11) 302 [vR 76, vI mask, vI most] h (LMd β mask h) := by
  have ho := AO_J hJ
  have o1 := ho.1
  have o2 := ho.2.1
  have o3 := ho.2.2
  have v0 := aF_v hJ 0 (by decide)
  have p0 := aF_p hJ (i := 0) (by decide)
  rw [jp_0.1] at p0
  have p0 := inI p0
  have xi : ∀ {D : Nat} {y u v : Int} {g : AH} {Q : Option AV → AH → Prop}, XC (D + 1) 182 [vI y, vI u, vI v] g Q = Q (some (vI (if u ≤ y ∧ y ≤ v then 1 else 0))) g := X_in
  obtain ⟨bb, eb⟩ := X_bits (d := d + 9) (h := h) (x := mask)
  have S1 : STo β mdF h (hSet h 76 34 (vI 0)) := ST_s2 (ST_r hJ hW) j8w.2.2.2.2.2 (inI_of (by decide) (by decide)) (by decide +kernel) (by decide +kernel)
  have y := lm_l (d := d) (mask := mask) (most := most) p0 (aF h 0).toNat 0 0 _ (by omega) S1 ⟨by rw [hV_eq, if_pos ⟨rfl, rfl⟩]; rfl, Nat.le_refl _, fun i hi => by omega, fun s hs => by omega⟩
  have y0 : LMd β mask h (some (vI 0)) h := ⟨0, rfl, Or.inl ⟨rfl, rfl⟩⟩
  refine XC_of (Nat.le_of_ble_eq_true rfl) ?_
  show XP (d + 10) 302 0 [some (vR 76), some (vI mask), some (vI most), none] [] h _
  have e15 : ∀ x : Int, x = 0 ∨ x = 1 → XP (d + 10) 302 15 [some (vR 76), some (vI mask), some (vI most), none] [vI x] h (LMd β mask h) := by
    intro x hx
    rcases hx with rfl | rfl
    · refine xpk_sound (stops := []) (n := 20) ?_
      simp only [sk_0, sk_1, sk_2, sk_3, sk_4, sk_5, sk_6, sk_7, sk_8, sk_iadd, sk_isub, sk_imul, sk_iand, sk_ior, sk_ixor, sk_ishl, sk_ishr, sk_iushr, sk_idiv, sk_irem, sk_ineg, sk_ladd, sk_lsub, sk_lmul, sk_land, sk_lor, sk_ldiv, sk_lrem, sk_lneg, sk_lshl, sk_lshr, sk_i2l, sk_l2i, sk_lcmp, sk_dupI, sk_dupR, sk_dup2L, sk_dup2I, sk_popI, sk_ifeq, sk_ifne, sk_iflt, sk_ifge, sk_ifgt, sk_ifle, sk_iceq, sk_icne, sk_iclt, sk_icge, sk_icgt, sk_icle, sk_goto, sk_getf, sk_putf, sk_gets, sk_iald, sk_lald, sk_bald, sk_aald, sk_iast, sk_last, sk_bast, sk_aast, sk_alen, sk_newa, sk_newt, sk_new, sk_cs1, sk_cs2, sk_cs3, sk_cs4, sk_cs5, sk_cs6, sk_cv1, sk_cv2, sk_cv3, sk_cv4, sk_cv5, sk_cv6, sk_ci1, sk_ci2, sk_ci3, sk_ret0, sk_retI, sk_retL, sk_retR, sk_sw, sk_oin, sk_max, sk_min, sk_abs, lI_0, lI_s, lL_0, lL_s, lR_0, lR_s, vIo_e, vLo_e, vOo_e, stW_I, stW_L, stW_R, stW_0, stW_z, okSt_0, okSt_s, hV_eq, hK_eq, okF_0, okF_1, okF_3, is01_0, is01_1, is01_i, Int.toNat_natCast, Int.reduceEq, Int.reduceLE, Int.reduceLT, Int.reduceNeg, Nat.reduceLT, not_true_eq_false, not_false_eq_true, reduceIte, Option.toList, List.cons_append, List.nil_append, List.set_cons_zero, List.set_cons_succ, List.not_mem_nil, List.mem_cons, if_false, if_true, ite_true, ite_false, and_self, and_true, true_and, Nat.reduceAdd, Nat.reduceLeDiff, Nat.reduceEqDiff, Nat.zero_add, Nat.le_refl, Nat.zero_le, or_false, false_or, Int.reduceToNat, or_true, true_or, eq_self, and_false, false_and, inR_d, nc_4, nc_5, nc_6, nc_7, nc_8, nc_16, nc_18, nc_20, nc_24, nc_32, nc_40, nc_64, nc_104, nc_120, nc_160, nc_256, nc_300, nc_330, nc_390, nc_1200, nc_1260, nc_3012, nc_9834, okSt_1i, okSt_1r, okSt_1n, xpk_succ cd_302_15, xpk_succ cd_302_18, xpk_succ cd_302_19, xpk_succ cd_302_22, xpk_succ cd_302_23, xpk_succ cd_302_26, xpk_succ cd_302_27, o1, o2, o3, v0]
      exact y0
    · by_cases z : bb ≤ most
      · refine xpk_sound (stops := [35]) (n := 20) ?_
        simp only [sk_0, sk_1, sk_2, sk_3, sk_4, sk_5, sk_6, sk_7, sk_8, sk_iadd, sk_isub, sk_imul, sk_iand, sk_ior, sk_ixor, sk_ishl, sk_ishr, sk_iushr, sk_idiv, sk_irem, sk_ineg, sk_ladd, sk_lsub, sk_lmul, sk_land, sk_lor, sk_ldiv, sk_lrem, sk_lneg, sk_lshl, sk_lshr, sk_i2l, sk_l2i, sk_lcmp, sk_dupI, sk_dupR, sk_dup2L, sk_dup2I, sk_popI, sk_ifeq, sk_ifne, sk_iflt, sk_ifge, sk_ifgt, sk_ifle, sk_iceq, sk_icne, sk_iclt, sk_icge, sk_icgt, sk_icle, sk_goto, sk_getf, sk_putf, sk_gets, sk_iald, sk_lald, sk_bald, sk_aald, sk_iast, sk_last, sk_bast, sk_aast, sk_alen, sk_newa, sk_newt, sk_new, sk_cs1, sk_cs2, sk_cs3, sk_cs4, sk_cs5, sk_cs6, sk_cv1, sk_cv2, sk_cv3, sk_cv4, sk_cv5, sk_cv6, sk_ci1, sk_ci2, sk_ci3, sk_ret0, sk_retI, sk_retL, sk_retR, sk_sw, sk_oin, sk_max, sk_min, sk_abs, lI_0, lI_s, lL_0, lL_s, lR_0, lR_s, vIo_e, vLo_e, vOo_e, stW_I, stW_L, stW_R, stW_0, stW_z, okSt_0, okSt_s, hV_eq, hK_eq, okF_0, okF_1, okF_3, is01_0, is01_1, is01_i, Int.toNat_natCast, Int.reduceEq, Int.reduceLE, Int.reduceLT, Int.reduceNeg, Nat.reduceLT, not_true_eq_false, not_false_eq_true, reduceIte, Option.toList, List.cons_append, List.nil_append, List.set_cons_zero, List.set_cons_succ, List.not_mem_nil, List.mem_cons, if_false, if_true, ite_true, ite_false, and_self, and_true, true_and, Nat.reduceAdd, Nat.reduceLeDiff, Nat.reduceEqDiff, Nat.zero_add, Nat.le_refl, Nat.zero_le, or_false, false_or, Int.reduceToNat, or_true, true_or, eq_self, and_false, false_and, inR_d, nc_4, nc_5, nc_6, nc_7, nc_8, nc_16, nc_18, nc_20, nc_24, nc_32, nc_40, nc_64, nc_104, nc_120, nc_160, nc_256, nc_300, nc_330, nc_390, nc_1200, nc_1260, nc_3012, nc_9834, okSt_1i, okSt_1r, okSt_1n, xpk_succ cd_302_15, xpk_succ cd_302_18, xpk_succ cd_302_19, xpk_succ cd_302_22, xpk_succ cd_302_23, xpk_succ cd_302_26, xpk_succ cd_302_27, xpk_succ cd_302_28, xpk_succ cd_302_29, xpk_succ cd_302_30, xpk_succ cd_302_33, xpk_succ cd_302_34, o1, o2, o3, v0, eb, z]
        exact y
      · refine xpk_sound (stops := []) (n := 20) ?_
        simp only [sk_0, sk_1, sk_2, sk_3, sk_4, sk_5, sk_6, sk_7, sk_8, sk_iadd, sk_isub, sk_imul, sk_iand, sk_ior, sk_ixor, sk_ishl, sk_ishr, sk_iushr, sk_idiv, sk_irem, sk_ineg, sk_ladd, sk_lsub, sk_lmul, sk_land, sk_lor, sk_ldiv, sk_lrem, sk_lneg, sk_lshl, sk_lshr, sk_i2l, sk_l2i, sk_lcmp, sk_dupI, sk_dupR, sk_dup2L, sk_dup2I, sk_popI, sk_ifeq, sk_ifne, sk_iflt, sk_ifge, sk_ifgt, sk_ifle, sk_iceq, sk_icne, sk_iclt, sk_icge, sk_icgt, sk_icle, sk_goto, sk_getf, sk_putf, sk_gets, sk_iald, sk_lald, sk_bald, sk_aald, sk_iast, sk_last, sk_bast, sk_aast, sk_alen, sk_newa, sk_newt, sk_new, sk_cs1, sk_cs2, sk_cs3, sk_cs4, sk_cs5, sk_cs6, sk_cv1, sk_cv2, sk_cv3, sk_cv4, sk_cv5, sk_cv6, sk_ci1, sk_ci2, sk_ci3, sk_ret0, sk_retI, sk_retL, sk_retR, sk_sw, sk_oin, sk_max, sk_min, sk_abs, lI_0, lI_s, lL_0, lL_s, lR_0, lR_s, vIo_e, vLo_e, vOo_e, stW_I, stW_L, stW_R, stW_0, stW_z, okSt_0, okSt_s, hV_eq, hK_eq, okF_0, okF_1, okF_3, is01_0, is01_1, is01_i, Int.toNat_natCast, Int.reduceEq, Int.reduceLE, Int.reduceLT, Int.reduceNeg, Nat.reduceLT, not_true_eq_false, not_false_eq_true, reduceIte, Option.toList, List.cons_append, List.nil_append, List.set_cons_zero, List.set_cons_succ, List.not_mem_nil, List.mem_cons, if_false, if_true, ite_true, ite_false, and_self, and_true, true_and, Nat.reduceAdd, Nat.reduceLeDiff, Nat.reduceEqDiff, Nat.zero_add, Nat.le_refl, Nat.zero_le, or_false, false_or, Int.reduceToNat, or_true, true_or, eq_self, and_false, false_and, inR_d, nc_4, nc_5, nc_6, nc_7, nc_8, nc_16, nc_18, nc_20, nc_24, nc_32, nc_40, nc_64, nc_104, nc_120, nc_160, nc_256, nc_300, nc_330, nc_390, nc_1200, nc_1260, nc_3012, nc_9834, okSt_1i, okSt_1r, okSt_1n, xpk_succ cd_302_15, xpk_succ cd_302_18, xpk_succ cd_302_19, xpk_succ cd_302_22, xpk_succ cd_302_23, xpk_succ cd_302_26, xpk_succ cd_302_27, xpk_succ cd_302_28, xpk_succ cd_302_29, xpk_succ cd_302_30, xpk_succ cd_302_33, xpk_succ cd_302_34, o1, o2, o3, v0, eb, z]
        exact y0
  refine xpk_sound (stops := [15]) (n := 20) ?_
  simp only [sk_0, sk_1, sk_2, sk_3, sk_4, sk_5, sk_6, sk_7, sk_8, sk_iadd, sk_isub, sk_imul, sk_iand, sk_ior, sk_ixor, sk_ishl, sk_ishr, sk_iushr, sk_idiv, sk_irem, sk_ineg, sk_ladd, sk_lsub, sk_lmul, sk_land, sk_lor, sk_ldiv, sk_lrem, sk_lneg, sk_lshl, sk_lshr, sk_i2l, sk_l2i, sk_lcmp, sk_dupI, sk_dupR, sk_dup2L, sk_dup2I, sk_popI, sk_ifeq, sk_ifne, sk_iflt, sk_ifge, sk_ifgt, sk_ifle, sk_iceq, sk_icne, sk_iclt, sk_icge, sk_icgt, sk_icle, sk_goto, sk_getf, sk_putf, sk_gets, sk_iald, sk_lald, sk_bald, sk_aald, sk_iast, sk_last, sk_bast, sk_aast, sk_alen, sk_newa, sk_newt, sk_new, sk_cs1, sk_cs2, sk_cs3, sk_cs4, sk_cs5, sk_cs6, sk_cv1, sk_cv2, sk_cv3, sk_cv4, sk_cv5, sk_cv6, sk_ci1, sk_ci2, sk_ci3, sk_ret0, sk_retI, sk_retL, sk_retR, sk_sw, sk_oin, sk_max, sk_min, sk_abs, lI_0, lI_s, lL_0, lL_s, lR_0, lR_s, vIo_e, vLo_e, vOo_e, stW_I, stW_L, stW_R, stW_0, stW_z, okSt_0, okSt_s, hV_eq, hK_eq, okF_0, okF_1, okF_3, is01_0, is01_1, is01_i, Int.toNat_natCast, Int.reduceEq, Int.reduceLE, Int.reduceLT, Int.reduceNeg, Nat.reduceLT, not_true_eq_false, not_false_eq_true, reduceIte, Option.toList, List.cons_append, List.nil_append, List.set_cons_zero, List.set_cons_succ, List.not_mem_nil, List.mem_cons, if_false, if_true, ite_true, ite_false, and_self, and_true, true_and, Nat.reduceAdd, Nat.reduceLeDiff, Nat.reduceEqDiff, Nat.zero_add, Nat.le_refl, Nat.zero_le, or_false, false_or, Int.reduceToNat, or_true, true_or, eq_self, and_false, false_and, inR_d, nc_4, nc_5, nc_6, nc_7, nc_8, nc_16, nc_18, nc_20, nc_24, nc_32, nc_40, nc_64, nc_104, nc_120, nc_160, nc_256, nc_300, nc_330, nc_390, nc_1200, nc_1260, nc_3012, nc_9834, okSt_1i, okSt_1r, okSt_1n, xpk_succ cd_302_0, xpk_succ cd_302_1, xpk_succ cd_302_2, xpk_succ cd_302_3, xpk_succ cd_302_4, xpk_succ cd_302_7, xpk_succ cd_302_8, xpk_succ cd_302_9, xpk_succ cd_302_10, xpk_succ cd_302_11, xpk_succ cd_302_12, o1, o2, o3, v0, xi]
  exact e15 _ if_01
