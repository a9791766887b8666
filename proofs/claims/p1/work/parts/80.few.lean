set_option maxRecDepth 20000 in
theorem ac_278 : allC[278]? = some cl278 := rfl
theorem cd_278_0 : cd 278 0 = some (2, 1, 1, 0, 0, []) := cd_row ac_278 rfl
theorem cd_278_1 : cd 278 1 = some (0, 2, 0, 0, -1, []) := cd_row ac_278 rfl
theorem cd_278_2 : cd 278 2 = some (21, 5, 8, 3, 0, []) := cd_row ac_278 rfl
theorem cd_278_5 : cd 278 5 = some (0, 7, 0, 0, -2, []) := cd_row ac_278 rfl
theorem cd_278_7 : cd 278 7 = some (40, 8, 0, 0, 0, []) := cd_row ac_278 rfl
theorem cd_278_8 : cd 278 8 = some (0, 11, 0, 0, 100000000, []) := cd_row ac_278 rfl
theorem cd_278_11 : cd 278 11 = some (5, 12, 2, 0, 0, []) := cd_row ac_278 rfl
theorem cd_278_12 : cd 278 12 = some (0, 13, 0, 0, 0, []) := cd_row ac_278 rfl
theorem cd_278_13 : cd 278 13 = some (5, 14, 3, 0, 0, []) := cd_row ac_278 rfl
theorem cd_278_14 : cd 278 14 = some (0, 15, 0, 0, 0, []) := cd_row ac_278 rfl
theorem cd_278_15 : cd 278 15 = some (5, 17, 4, 0, 0, []) := cd_row ac_278 rfl
theorem cd_278_17 : cd 278 17 = some (0, 18, 0, 0, 1, []) := cd_row ac_278 rfl
theorem cd_278_18 : cd 278 18 = some (5, 20, 5, 0, 0, []) := cd_row ac_278 rfl
theorem cd_278_20 : cd 278 20 = some (0, 21, 0, 0, 0, []) := cd_row ac_278 rfl
theorem cd_278_21 : cd 278 21 = some (5, 23, 6, 0, 0, []) := cd_row ac_278 rfl
theorem cd_278_23 : cd 278 23 = some (2, 25, 6, 0, 0, []) := cd_row ac_278 rfl
theorem cd_278_25 : cd 278 25 = some (0, 27, 0, 0, 8, []) := cd_row ac_278 rfl
theorem cd_278_27 : cd 278 27 = some (21, 30, 98, 3, 0, []) := cd_row ac_278 rfl
theorem cd_278_30 : cd 278 30 = some (0, 31, 0, 0, 0, []) := cd_row ac_278 rfl
theorem cd_278_31 : cd 278 31 = some (5, 33, 7, 0, 0, []) := cd_row ac_278 rfl
theorem cd_278_33 : cd 278 33 = some (2, 35, 7, 0, 0, []) := cd_row ac_278 rfl
theorem cd_278_35 : cd 278 35 = some (2, 37, 5, 0, 0, []) := cd_row ac_278 rfl
theorem cd_278_37 : cd 278 37 = some (21, 40, 86, 3, 0, []) := cd_row ac_278 rfl
theorem cd_278_40 : cd 278 40 = some (2, 42, 7, 0, 0, []) := cd_row ac_278 rfl
theorem cd_278_42 : cd 278 42 = some (2, 44, 6, 0, 0, []) := cd_row ac_278 rfl
theorem cd_278_44 : cd 278 44 = some (38, 47, 277, 2, 0, []) := cd_row ac_278 rfl
theorem cd_278_47 : cd 278 47 = some (2, 48, 2, 0, 0, []) := cd_row ac_278 rfl
theorem cd_278_48 : cd 278 48 = some (21, 51, 80, 3, 0, []) := cd_row ac_278 rfl
theorem cd_278_51 : cd 278 51 = some (4, 52, 0, 0, 0, []) := cd_row ac_278 rfl
theorem cd_278_52 : cd 278 52 = some (2, 54, 7, 0, 0, []) := cd_row ac_278 rfl
theorem cd_278_54 : cd 278 54 = some (2, 56, 6, 0, 0, []) := cd_row ac_278 rfl
theorem cd_278_56 : cd 278 56 = some (46, 59, 275, 3, 10, []) := cd_row ac_278 rfl
theorem cd_278_59 : cd 278 59 = some (20, 62, 65, 1, 0, []) := cd_row ac_278 rfl
theorem cd_278_62 : cd 278 62 = some (22, 65, 80, 0, 0, []) := cd_row ac_278 rfl
theorem cd_278_65 : cd 278 65 = some (2, 67, 7, 0, 0, []) := cd_row ac_278 rfl
theorem cd_278_67 : cd 278 67 = some (2, 69, 6, 0, 0, []) := cd_row ac_278 rfl
theorem cd_278_69 : cd 278 69 = some (38, 72, 277, 2, 0, []) := cd_row ac_278 rfl
theorem cd_278_72 : cd 278 72 = some (5, 73, 2, 0, 0, []) := cd_row ac_278 rfl
theorem cd_278_73 : cd 278 73 = some (2, 75, 7, 0, 0, []) := cd_row ac_278 rfl
theorem cd_278_75 : cd 278 75 = some (5, 76, 3, 0, 0, []) := cd_row ac_278 rfl
theorem cd_278_76 : cd 278 76 = some (2, 78, 6, 0, 0, []) := cd_row ac_278 rfl
theorem cd_278_78 : cd 278 78 = some (5, 80, 4, 0, 0, []) := cd_row ac_278 rfl
theorem cd_278_80 : cd 278 80 = some (8, 83, 7, 0, 1, []) := cd_row ac_278 rfl
theorem cd_278_83 : cd 278 83 = some (22, 86, 33, 0, 0, []) := cd_row ac_278 rfl
theorem cd_278_86 : cd 278 86 = some (2, 88, 5, 0, 0, []) := cd_row ac_278 rfl
theorem cd_278_88 : cd 278 88 = some (0, 89, 0, 0, 3, []) := cd_row ac_278 rfl
theorem cd_278_89 : cd 278 89 = some (9, 90, 0, 2, 0, []) := cd_row ac_278 rfl
theorem cd_278_90 : cd 278 90 = some (5, 92, 5, 0, 0, []) := cd_row ac_278 rfl
theorem cd_278_92 : cd 278 92 = some (8, 95, 6, 0, 1, []) := cd_row ac_278 rfl
theorem cd_278_95 : cd 278 95 = some (22, 98, 23, 0, 0, []) := cd_row ac_278 rfl
theorem cd_278_98 : cd 278 98 = some (2, 99, 2, 0, 0, []) := cd_row ac_278 rfl
theorem cd_278_99 : cd 278 99 = some (0, 102, 0, 0, 100000000, []) := cd_row ac_278 rfl
theorem cd_278_102 : cd 278 102 = some (21, 105, 108, 1, 0, []) := cd_row ac_278 rfl
theorem cd_278_105 : cd 278 105 = some (0, 107, 0, 0, -2, []) := cd_row ac_278 rfl
theorem cd_278_107 : cd 278 107 = some (40, 108, 0, 0, 0, []) := cd_row ac_278 rfl
theorem cd_278_108 : cd 278 108 = some (2, 109, 1, 0, 0, []) := cd_row ac_278 rfl
theorem cd_278_109 : cd 278 109 = some (0, 110, 0, 0, -1, []) := cd_row ac_278 rfl
theorem cd_278_110 : cd 278 110 = some (21, 113, 117, 1, 0, []) := cd_row ac_278 rfl
theorem cd_278_113 : cd 278 113 = some (2, 114, 2, 0, 0, []) := cd_row ac_278 rfl
theorem cd_278_114 : cd 278 114 = some (22, 117, 135, 0, 0, []) := cd_row ac_278 rfl
theorem cd_278_117 : cd 278 117 = some (2, 118, 1, 0, 0, []) := cd_row ac_278 rfl
theorem cd_278_118 : cd 278 118 = some (2, 120, 4, 0, 0, []) := cd_row ac_278 rfl
theorem cd_278_120 : cd 278 120 = some (21, 123, 133, 3, 0, []) := cd_row ac_278 rfl
theorem cd_278_123 : cd 278 123 = some (2, 124, 3, 0, 0, []) := cd_row ac_278 rfl
theorem cd_278_124 : cd 278 124 = some (2, 126, 4, 0, 0, []) := cd_row ac_278 rfl
theorem cd_278_126 : cd 278 126 = some (2, 127, 1, 0, 0, []) := cd_row ac_278 rfl
theorem cd_278_127 : cd 278 127 = some (38, 130, 274, 3, 0, []) := cd_row ac_278 rfl
theorem cd_278_130 : cd 278 130 = some (22, 133, 135, 0, 0, []) := cd_row ac_278 rfl
theorem cd_278_133 : cd 278 133 = some (0, 135, 0, 0, -2, []) := cd_row ac_278 rfl
theorem cd_278_135 : cd 278 135 = some (40, 136, 0, 0, 0, []) := cd_row ac_278 rfl
theorem dg_loop (d : Nat) (code n i : Int) (h : AH) (hi : 0 ≤ i) : ∀ (j : Nat) (left k : Int), k - i ≤ j → -100 ≤ k → k ≤ 100 → ∃ z : Int, XP d 274 7 [some (vI code), some (vI n), some (vI i), some (vI left), some (vI k)] [] h (fun r h' => r = some (vI z) ∧ h' = h) := by
  intro j
  induction j with
  | zero =>
    intro left k hk hlo hhi
    have hc : k ≤ i := by omega
    refine ⟨w32 (left.tmod 3 - 1), xpk_sound (stops := []) (n := 12) ?_⟩
    simp only [sk_0, sk_1, sk_2, sk_3, sk_4, sk_5, sk_6, sk_7, sk_8, sk_iadd, sk_isub, sk_imul, sk_iand, sk_ior, sk_ixor, sk_ishl, sk_ishr, sk_iushr, sk_idiv, sk_irem, sk_ineg, sk_ladd, sk_lsub, sk_lmul, sk_land, sk_lor, sk_ldiv, sk_lrem, sk_lneg, sk_lshl, sk_lshr, sk_i2l, sk_l2i, sk_lcmp, sk_dupI, sk_dupR, sk_dup2L, sk_dup2I, sk_popI, sk_ifeq, sk_ifne, sk_iflt, sk_ifge, sk_ifgt, sk_ifle, sk_iceq, sk_icne, sk_iclt, sk_icge, sk_icgt, sk_icle, sk_goto, sk_getf, sk_putf, sk_gets, sk_iald, sk_lald, sk_bald, sk_aald, sk_iast, sk_last, sk_bast, sk_aast, sk_alen, sk_newa, sk_newt, sk_new, sk_cs1, sk_cs2, sk_cs3, sk_cs4, sk_cs5, sk_cs6, sk_cv1, sk_cv2, sk_cv3, sk_cv4, sk_cv5, sk_cv6, sk_ci1, sk_ci2, sk_ci3, sk_ret0, sk_retI, sk_retL, sk_retR, sk_sw, sk_oin, sk_max, sk_min, sk_abs, lI_0, lI_s, lL_0, lL_s, lR_0, lR_s, vIo_e, vLo_e, vOo_e, stW_I, stW_L, stW_R, stW_0, stW_z, okSt_0, okSt_s, hV_eq, hK_eq, okF_0, okF_1, okF_3, is01_0, is01_1, is01_i, Int.toNat_natCast, Int.reduceEq, Int.reduceLE, Int.reduceLT, Int.reduceNeg, Nat.reduceLT, not_true_eq_false, not_false_eq_true, reduceIte, Option.toList, List.cons_append, List.nil_append, List.set_cons_zero, List.set_cons_succ, List.not_mem_nil, List.mem_cons, if_false, if_true, ite_true, ite_false, and_self, and_true, true_and, Nat.reduceAdd, Nat.reduceLeDiff, Nat.reduceEqDiff, Nat.zero_add, Nat.le_refl, Nat.zero_le, or_false, false_or, Int.reduceToNat, or_true, true_or, eq_self, and_false, false_and, inR_d, nc_4, nc_5, nc_6, nc_7, nc_8, nc_16, nc_18, nc_20, nc_24, nc_32, nc_40, nc_64, nc_104, nc_120, nc_160, nc_256, nc_300, nc_330, nc_390, nc_1200, nc_1260, nc_3012, nc_9834, okSt_1i, okSt_1r, okSt_1n, xpk_succ cd_274_0, xpk_succ cd_274_1, xpk_succ cd_274_2, xpk_succ cd_274_3, xpk_succ cd_274_4, xpk_succ cd_274_5, xpk_succ cd_274_7, xpk_succ cd_274_9, xpk_succ cd_274_10, xpk_succ cd_274_13, xpk_succ cd_274_14, xpk_succ cd_274_15, xpk_succ cd_274_16, xpk_succ cd_274_17, xpk_succ cd_274_20, xpk_succ cd_274_23, xpk_succ cd_274_24, xpk_succ cd_274_25, xpk_succ cd_274_26, xpk_succ cd_274_27, xpk_succ cd_274_28, hc]
  | succ j ih =>
    intro left k hk hlo hhi
    by_cases hc : k ≤ i
    · refine ⟨w32 (left.tmod 3 - 1), xpk_sound (stops := []) (n := 12) ?_⟩
      simp only [sk_0, sk_1, sk_2, sk_3, sk_4, sk_5, sk_6, sk_7, sk_8, sk_iadd, sk_isub, sk_imul, sk_iand, sk_ior, sk_ixor, sk_ishl, sk_ishr, sk_iushr, sk_idiv, sk_irem, sk_ineg, sk_ladd, sk_lsub, sk_lmul, sk_land, sk_lor, sk_ldiv, sk_lrem, sk_lneg, sk_lshl, sk_lshr, sk_i2l, sk_l2i, sk_lcmp, sk_dupI, sk_dupR, sk_dup2L, sk_dup2I, sk_popI, sk_ifeq, sk_ifne, sk_iflt, sk_ifge, sk_ifgt, sk_ifle, sk_iceq, sk_icne, sk_iclt, sk_icge, sk_icgt, sk_icle, sk_goto, sk_getf, sk_putf, sk_gets, sk_iald, sk_lald, sk_bald, sk_aald, sk_iast, sk_last, sk_bast, sk_aast, sk_alen, sk_newa, sk_newt, sk_new, sk_cs1, sk_cs2, sk_cs3, sk_cs4, sk_cs5, sk_cs6, sk_cv1, sk_cv2, sk_cv3, sk_cv4, sk_cv5, sk_cv6, sk_ci1, sk_ci2, sk_ci3, sk_ret0, sk_retI, sk_retL, sk_retR, sk_sw, sk_oin, sk_max, sk_min, sk_abs, lI_0, lI_s, lL_0, lL_s, lR_0, lR_s, vIo_e, vLo_e, vOo_e, stW_I, stW_L, stW_R, stW_0, stW_z, okSt_0, okSt_s, hV_eq, hK_eq, okF_0, okF_1, okF_3, is01_0, is01_1, is01_i, Int.toNat_natCast, Int.reduceEq, Int.reduceLE, Int.reduceLT, Int.reduceNeg, Nat.reduceLT, not_true_eq_false, not_false_eq_true, reduceIte, Option.toList, List.cons_append, List.nil_append, List.set_cons_zero, List.set_cons_succ, List.not_mem_nil, List.mem_cons, if_false, if_true, ite_true, ite_false, and_self, and_true, true_and, Nat.reduceAdd, Nat.reduceLeDiff, Nat.reduceEqDiff, Nat.zero_add, Nat.le_refl, Nat.zero_le, or_false, false_or, Int.reduceToNat, or_true, true_or, eq_self, and_false, false_and, inR_d, nc_4, nc_5, nc_6, nc_7, nc_8, nc_16, nc_18, nc_20, nc_24, nc_32, nc_40, nc_64, nc_104, nc_120, nc_160, nc_256, nc_300, nc_330, nc_390, nc_1200, nc_1260, nc_3012, nc_9834, okSt_1i, okSt_1r, okSt_1n, xpk_succ cd_274_0, xpk_succ cd_274_1, xpk_succ cd_274_2, xpk_succ cd_274_3, xpk_succ cd_274_4, xpk_succ cd_274_5, xpk_succ cd_274_7, xpk_succ cd_274_9, xpk_succ cd_274_10, xpk_succ cd_274_13, xpk_succ cd_274_14, xpk_succ cd_274_15, xpk_succ cd_274_16, xpk_succ cd_274_17, xpk_succ cd_274_20, xpk_succ cd_274_23, xpk_succ cd_274_24, xpk_succ cd_274_25, xpk_succ cd_274_26, xpk_succ cd_274_27, xpk_succ cd_274_28, hc]
    · have hm : -100 ≤ k - 1 := by omega
      obtain ⟨z, hz⟩ := ih (w32 (left.tdiv 3)) (k - 1) (by omega) hm (by omega)
      have hk1 : w32 (k + -1) = k - 1 := by unfold w32; omega
      refine ⟨z, xpk_sound (stops := [7]) (n := 12) ?_⟩
      simp only [sk_0, sk_1, sk_2, sk_3, sk_4, sk_5, sk_6, sk_7, sk_8, sk_iadd, sk_isub, sk_imul, sk_iand, sk_ior, sk_ixor, sk_ishl, sk_ishr, sk_iushr, sk_idiv, sk_irem, sk_ineg, sk_ladd, sk_lsub, sk_lmul, sk_land, sk_lor, sk_ldiv, sk_lrem, sk_lneg, sk_lshl, sk_lshr, sk_i2l, sk_l2i, sk_lcmp, sk_dupI, sk_dupR, sk_dup2L, sk_dup2I, sk_popI, sk_ifeq, sk_ifne, sk_iflt, sk_ifge, sk_ifgt, sk_ifle, sk_iceq, sk_icne, sk_iclt, sk_icge, sk_icgt, sk_icle, sk_goto, sk_getf, sk_putf, sk_gets, sk_iald, sk_lald, sk_bald, sk_aald, sk_iast, sk_last, sk_bast, sk_aast, sk_alen, sk_newa, sk_newt, sk_new, sk_cs1, sk_cs2, sk_cs3, sk_cs4, sk_cs5, sk_cs6, sk_cv1, sk_cv2, sk_cv3, sk_cv4, sk_cv5, sk_cv6, sk_ci1, sk_ci2, sk_ci3, sk_ret0, sk_retI, sk_retL, sk_retR, sk_sw, sk_oin, sk_max, sk_min, sk_abs, lI_0, lI_s, lL_0, lL_s, lR_0, lR_s, vIo_e, vLo_e, vOo_e, stW_I, stW_L, stW_R, stW_0, stW_z, okSt_0, okSt_s, hV_eq, hK_eq, okF_0, okF_1, okF_3, is01_0, is01_1, is01_i, Int.toNat_natCast, Int.reduceEq, Int.reduceLE, Int.reduceLT, Int.reduceNeg, Nat.reduceLT, not_true_eq_false, not_false_eq_true, reduceIte, Option.toList, List.cons_append, List.nil_append, List.set_cons_zero, List.set_cons_succ, List.not_mem_nil, List.mem_cons, if_false, if_true, ite_true, ite_false, and_self, and_true, true_and, Nat.reduceAdd, Nat.reduceLeDiff, Nat.reduceEqDiff, Nat.zero_add, Nat.le_refl, Nat.zero_le, or_false, false_or, Int.reduceToNat, or_true, true_or, eq_self, and_false, false_and, inR_d, nc_4, nc_5, nc_6, nc_7, nc_8, nc_16, nc_18, nc_20, nc_24, nc_32, nc_40, nc_64, nc_104, nc_120, nc_160, nc_256, nc_300, nc_330, nc_390, nc_1200, nc_1260, nc_3012, nc_9834, okSt_1i, okSt_1r, okSt_1n, xpk_succ cd_274_0, xpk_succ cd_274_1, xpk_succ cd_274_2, xpk_succ cd_274_3, xpk_succ cd_274_4, xpk_succ cd_274_5, xpk_succ cd_274_7, xpk_succ cd_274_9, xpk_succ cd_274_10, xpk_succ cd_274_13, xpk_succ cd_274_14, xpk_succ cd_274_15, xpk_succ cd_274_16, xpk_succ cd_274_17, xpk_succ cd_274_20, xpk_succ cd_274_23, xpk_succ cd_274_24, xpk_succ cd_274_25, xpk_succ cd_274_26, xpk_succ cd_274_27, xpk_succ cd_274_28, hc, hk1]
      exact hz
theorem X_digit (d : Nat) (code n i : Int) (h : AH) (hn : 0 ≤ n ∧ n ≤ 8) (hi : 0 ≤ i) : ∃ z : Int, ∀ Q : Option AV → AH → Prop, XC (d + 1) 274 [vI code, vI n, vI i] h Q = Q (some (vI z)) h := by
  obtain ⟨z, hz⟩ := dg_loop d code n i h hi 8 code (n - 1) (by omega) (by omega) (by omega)
  have hk1 : w32 (n - 1) = n - 1 := by unfold w32; omega
  refine ⟨z, fun Q => XC_eq (Nat.le_of_ble_eq_true rfl) (xpk_sound (stops := [7]) (n := 10) ?_) Q⟩
  show xpk [7] 10 d 274 0 [some (vI code), some (vI n), some (vI i), none, none] [] h _
  simp only [sk_0, sk_1, sk_2, sk_3, sk_4, sk_5, sk_6, sk_7, sk_8, sk_iadd, sk_isub, sk_imul, sk_iand, sk_ior, sk_ixor, sk_ishl, sk_ishr, sk_iushr, sk_idiv, sk_irem, sk_ineg, sk_ladd, sk_lsub, sk_lmul, sk_land, sk_lor, sk_ldiv, sk_lrem, sk_lneg, sk_lshl, sk_lshr, sk_i2l, sk_l2i, sk_lcmp, sk_dupI, sk_dupR, sk_dup2L, sk_dup2I, sk_popI, sk_ifeq, sk_ifne, sk_iflt, sk_ifge, sk_ifgt, sk_ifle, sk_iceq, sk_icne, sk_iclt, sk_icge, sk_icgt, sk_icle, sk_goto, sk_getf, sk_putf, sk_gets, sk_iald, sk_lald, sk_bald, sk_aald, sk_iast, sk_last, sk_bast, sk_aast, sk_alen, sk_newa, sk_newt, sk_new, sk_cs1, sk_cs2, sk_cs3, sk_cs4, sk_cs5, sk_cs6, sk_cv1, sk_cv2, sk_cv3, sk_cv4, sk_cv5, sk_cv6, sk_ci1, sk_ci2, sk_ci3, sk_ret0, sk_retI, sk_retL, sk_retR, sk_sw, sk_oin, sk_max, sk_min, sk_abs, lI_0, lI_s, lL_0, lL_s, lR_0, lR_s, vIo_e, vLo_e, vOo_e, stW_I, stW_L, stW_R, stW_0, stW_z, okSt_0, okSt_s, hV_eq, hK_eq, okF_0, okF_1, okF_3, is01_0, is01_1, is01_i, Int.toNat_natCast, Int.reduceEq, Int.reduceLE, Int.reduceLT, Int.reduceNeg, Nat.reduceLT, not_true_eq_false, not_false_eq_true, reduceIte, Option.toList, List.cons_append, List.nil_append, List.set_cons_zero, List.set_cons_succ, List.not_mem_nil, List.mem_cons, if_false, if_true, ite_true, ite_false, and_self, and_true, true_and, Nat.reduceAdd, Nat.reduceLeDiff, Nat.reduceEqDiff, Nat.zero_add, Nat.le_refl, Nat.zero_le, or_false, false_or, Int.reduceToNat, or_true, true_or, eq_self, and_false, false_and, inR_d, nc_4, nc_5, nc_6, nc_7, nc_8, nc_16, nc_18, nc_20, nc_24, nc_32, nc_40, nc_64, nc_104, nc_120, nc_160, nc_256, nc_300, nc_330, nc_390, nc_1200, nc_1260, nc_3012, nc_9834, okSt_1i, okSt_1r, okSt_1n, xpk_succ cd_274_0, xpk_succ cd_274_1, xpk_succ cd_274_2, xpk_succ cd_274_3, xpk_succ cd_274_4, xpk_succ cd_274_5, xpk_succ cd_274_7, xpk_succ cd_274_9, xpk_succ cd_274_10, xpk_succ cd_274_13, xpk_succ cd_274_14, xpk_succ cd_274_15, xpk_succ cd_274_16, xpk_succ cd_274_17, xpk_succ cd_274_20, xpk_succ cd_274_23, xpk_succ cd_274_24, xpk_succ cd_274_25, xpk_succ cd_274_26, xpk_succ cd_274_27, xpk_succ cd_274_28, hk1]
  exact hz
theorem mn_loop (d : Nat) (code n : Int) (h : AH) (hn : 0 ≤ n ∧ n ≤ 8) : ∀ (j : Nat) (m i : Int), i + j = n → 0 ≤ i → 0 ≤ m → m ≤ i → ∃ z : Int, (0 ≤ z ∧ z ≤ n) ∧ XP (d + 1) 277 4 [some (vI code), some (vI n), some (vI m), some (vI i)] [] h (fun r h' => r = some (vI z) ∧ h' = h) := by
  intro j
  induction j with
  | zero =>
    intro m i hi h0 hm0 hm
    have hc : n ≤ i := by omega
    refine ⟨m, ⟨hm0, by omega⟩, xpk_sound (stops := []) (n := 12) ?_⟩
    simp only [sk_0, sk_1, sk_2, sk_3, sk_4, sk_5, sk_6, sk_7, sk_8, sk_iadd, sk_isub, sk_imul, sk_iand, sk_ior, sk_ixor, sk_ishl, sk_ishr, sk_iushr, sk_idiv, sk_irem, sk_ineg, sk_ladd, sk_lsub, sk_lmul, sk_land, sk_lor, sk_ldiv, sk_lrem, sk_lneg, sk_lshl, sk_lshr, sk_i2l, sk_l2i, sk_lcmp, sk_dupI, sk_dupR, sk_dup2L, sk_dup2I, sk_popI, sk_ifeq, sk_ifne, sk_iflt, sk_ifge, sk_ifgt, sk_ifle, sk_iceq, sk_icne, sk_iclt, sk_icge, sk_icgt, sk_icle, sk_goto, sk_getf, sk_putf, sk_gets, sk_iald, sk_lald, sk_bald, sk_aald, sk_iast, sk_last, sk_bast, sk_aast, sk_alen, sk_newa, sk_newt, sk_new, sk_cs1, sk_cs2, sk_cs3, sk_cs4, sk_cs5, sk_cs6, sk_cv1, sk_cv2, sk_cv3, sk_cv4, sk_cv5, sk_cv6, sk_ci1, sk_ci2, sk_ci3, sk_ret0, sk_retI, sk_retL, sk_retR, sk_sw, sk_oin, sk_max, sk_min, sk_abs, lI_0, lI_s, lL_0, lL_s, lR_0, lR_s, vIo_e, vLo_e, vOo_e, stW_I, stW_L, stW_R, stW_0, stW_z, okSt_0, okSt_s, hV_eq, hK_eq, okF_0, okF_1, okF_3, is01_0, is01_1, is01_i, Int.toNat_natCast, Int.reduceEq, Int.reduceLE, Int.reduceLT, Int.reduceNeg, Nat.reduceLT, not_true_eq_false, not_false_eq_true, reduceIte, Option.toList, List.cons_append, List.nil_append, List.set_cons_zero, List.set_cons_succ, List.not_mem_nil, List.mem_cons, if_false, if_true, ite_true, ite_false, and_self, and_true, true_and, Nat.reduceAdd, Nat.reduceLeDiff, Nat.reduceEqDiff, Nat.zero_add, Nat.le_refl, Nat.zero_le, or_false, false_or, Int.reduceToNat, or_true, true_or, eq_self, and_false, false_and, inR_d, nc_4, nc_5, nc_6, nc_7, nc_8, nc_16, nc_18, nc_20, nc_24, nc_32, nc_40, nc_64, nc_104, nc_120, nc_160, nc_256, nc_300, nc_330, nc_390, nc_1200, nc_1260, nc_3012, nc_9834, okSt_1i, okSt_1r, okSt_1n, xpk_succ cd_277_0, xpk_succ cd_277_1, xpk_succ cd_277_2, xpk_succ cd_277_3, xpk_succ cd_277_4, xpk_succ cd_277_5, xpk_succ cd_277_6, xpk_succ cd_277_9, xpk_succ cd_277_10, xpk_succ cd_277_11, xpk_succ cd_277_12, xpk_succ cd_277_13, xpk_succ cd_277_16, xpk_succ cd_277_19, xpk_succ cd_277_20, xpk_succ cd_277_23, xpk_succ cd_277_24, xpk_succ cd_277_25, xpk_succ cd_277_26, xpk_succ cd_277_29, xpk_succ cd_277_32, xpk_succ cd_277_33, hc]
  | succ j ih =>
    intro m i hi h0 hm0 hm
    have hc : ¬ n ≤ i := by omega
    have hi1 : w32 (i + 1) = i + 1 := by unfold w32; omega
    obtain ⟨z, ez⟩ := X_digit d code n i h hn h0
    by_cases z0 : z = 0
    · have hm1 : w32 (m + 0) = m := by unfold w32; omega
      obtain ⟨y, hy, hx⟩ := ih m (i + 1) (by omega) (by omega) hm0 (by omega)
      refine ⟨y, hy, xpk_sound (stops := [4]) (n := 20) ?_⟩
      simp only [sk_0, sk_1, sk_2, sk_3, sk_4, sk_5, sk_6, sk_7, sk_8, sk_iadd, sk_isub, sk_imul, sk_iand, sk_ior, sk_ixor, sk_ishl, sk_ishr, sk_iushr, sk_idiv, sk_irem, sk_ineg, sk_ladd, sk_lsub, sk_lmul, sk_land, sk_lor, sk_ldiv, sk_lrem, sk_lneg, sk_lshl, sk_lshr, sk_i2l, sk_l2i, sk_lcmp, sk_dupI, sk_dupR, sk_dup2L, sk_dup2I, sk_popI, sk_ifeq, sk_ifne, sk_iflt, sk_ifge, sk_ifgt, sk_ifle, sk_iceq, sk_icne, sk_iclt, sk_icge, sk_icgt, sk_icle, sk_goto, sk_getf, sk_putf, sk_gets, sk_iald, sk_lald, sk_bald, sk_aald, sk_iast, sk_last, sk_bast, sk_aast, sk_alen, sk_newa, sk_newt, sk_new, sk_cs1, sk_cs2, sk_cs3, sk_cs4, sk_cs5, sk_cs6, sk_cv1, sk_cv2, sk_cv3, sk_cv4, sk_cv5, sk_cv6, sk_ci1, sk_ci2, sk_ci3, sk_ret0, sk_retI, sk_retL, sk_retR, sk_sw, sk_oin, sk_max, sk_min, sk_abs, lI_0, lI_s, lL_0, lL_s, lR_0, lR_s, vIo_e, vLo_e, vOo_e, stW_I, stW_L, stW_R, stW_0, stW_z, okSt_0, okSt_s, hV_eq, hK_eq, okF_0, okF_1, okF_3, is01_0, is01_1, is01_i, Int.toNat_natCast, Int.reduceEq, Int.reduceLE, Int.reduceLT, Int.reduceNeg, Nat.reduceLT, not_true_eq_false, not_false_eq_true, reduceIte, Option.toList, List.cons_append, List.nil_append, List.set_cons_zero, List.set_cons_succ, List.not_mem_nil, List.mem_cons, if_false, if_true, ite_true, ite_false, and_self, and_true, true_and, Nat.reduceAdd, Nat.reduceLeDiff, Nat.reduceEqDiff, Nat.zero_add, Nat.le_refl, Nat.zero_le, or_false, false_or, Int.reduceToNat, or_true, true_or, eq_self, and_false, false_and, inR_d, nc_4, nc_5, nc_6, nc_7, nc_8, nc_16, nc_18, nc_20, nc_24, nc_32, nc_40, nc_64, nc_104, nc_120, nc_160, nc_256, nc_300, nc_330, nc_390, nc_1200, nc_1260, nc_3012, nc_9834, okSt_1i, okSt_1r, okSt_1n, xpk_succ cd_277_0, xpk_succ cd_277_1, xpk_succ cd_277_2, xpk_succ cd_277_3, xpk_succ cd_277_4, xpk_succ cd_277_5, xpk_succ cd_277_6, xpk_succ cd_277_9, xpk_succ cd_277_10, xpk_succ cd_277_11, xpk_succ cd_277_12, xpk_succ cd_277_13, xpk_succ cd_277_16, xpk_succ cd_277_19, xpk_succ cd_277_20, xpk_succ cd_277_23, xpk_succ cd_277_24, xpk_succ cd_277_25, xpk_succ cd_277_26, xpk_succ cd_277_29, xpk_succ cd_277_32, xpk_succ cd_277_33, hc, ez, z0, hi1, hm1]
      exact hx
    · have hm1 : w32 (m + 1) = m + 1 := by unfold w32; omega
      obtain ⟨y, hy, hx⟩ := ih (m + 1) (i + 1) (by omega) (by omega) (by omega) (by omega)
      refine ⟨y, hy, xpk_sound (stops := [4]) (n := 20) ?_⟩
      simp only [sk_0, sk_1, sk_2, sk_3, sk_4, sk_5, sk_6, sk_7, sk_8, sk_iadd, sk_isub, sk_imul, sk_iand, sk_ior, sk_ixor, sk_ishl, sk_ishr, sk_iushr, sk_idiv, sk_irem, sk_ineg, sk_ladd, sk_lsub, sk_lmul, sk_land, sk_lor, sk_ldiv, sk_lrem, sk_lneg, sk_lshl, sk_lshr, sk_i2l, sk_l2i, sk_lcmp, sk_dupI, sk_dupR, sk_dup2L, sk_dup2I, sk_popI, sk_ifeq, sk_ifne, sk_iflt, sk_ifge, sk_ifgt, sk_ifle, sk_iceq, sk_icne, sk_iclt, sk_icge, sk_icgt, sk_icle, sk_goto, sk_getf, sk_putf, sk_gets, sk_iald, sk_lald, sk_bald, sk_aald, sk_iast, sk_last, sk_bast, sk_aast, sk_alen, sk_newa, sk_newt, sk_new, sk_cs1, sk_cs2, sk_cs3, sk_cs4, sk_cs5, sk_cs6, sk_cv1, sk_cv2, sk_cv3, sk_cv4, sk_cv5, sk_cv6, sk_ci1, sk_ci2, sk_ci3, sk_ret0, sk_retI, sk_retL, sk_retR, sk_sw, sk_oin, sk_max, sk_min, sk_abs, lI_0, lI_s, lL_0, lL_s, lR_0, lR_s, vIo_e, vLo_e, vOo_e, stW_I, stW_L, stW_R, stW_0, stW_z, okSt_0, okSt_s, hV_eq, hK_eq, okF_0, okF_1, okF_3, is01_0, is01_1, is01_i, Int.toNat_natCast, Int.reduceEq, Int.reduceLE, Int.reduceLT, Int.reduceNeg, Nat.reduceLT, not_true_eq_false, not_false_eq_true, reduceIte, Option.toList, List.cons_append, List.nil_append, List.set_cons_zero, List.set_cons_succ, List.not_mem_nil, List.mem_cons, if_false, if_true, ite_true, ite_false, and_self, and_true, true_and, Nat.reduceAdd, Nat.reduceLeDiff, Nat.reduceEqDiff, Nat.zero_add, Nat.le_refl, Nat.zero_le, or_false, false_or, Int.reduceToNat, or_true, true_or, eq_self, and_false, false_and, inR_d, nc_4, nc_5, nc_6, nc_7, nc_8, nc_16, nc_18, nc_20, nc_24, nc_32, nc_40, nc_64, nc_104, nc_120, nc_160, nc_256, nc_300, nc_330, nc_390, nc_1200, nc_1260, nc_3012, nc_9834, okSt_1i, okSt_1r, okSt_1n, xpk_succ cd_277_0, xpk_succ cd_277_1, xpk_succ cd_277_2, xpk_succ cd_277_3, xpk_succ cd_277_4, xpk_succ cd_277_5, xpk_succ cd_277_6, xpk_succ cd_277_9, xpk_succ cd_277_10, xpk_succ cd_277_11, xpk_succ cd_277_12, xpk_succ cd_277_13, xpk_succ cd_277_16, xpk_succ cd_277_19, xpk_succ cd_277_20, xpk_succ cd_277_23, xpk_succ cd_277_24, xpk_succ cd_277_25, xpk_succ cd_277_26, xpk_succ cd_277_29, xpk_succ cd_277_32, xpk_succ cd_277_33, hc, ez, z0, hi1, hm1]
      exact hx
theorem X_many (d : Nat) (code n : Int) (h : AH) (hn : 0 ≤ n ∧ n ≤ 8) : ∃ z : Int, (0 ≤ z ∧ z ≤ n) ∧ ∀ Q : Option AV → AH → Prop, XC (d + 2) 277 [vI code, vI n] h Q = Q (some (vI z)) h := by
  obtain ⟨j, hj⟩ : ∃ j : Nat, (j : Int) = n := ⟨n.toNat, by omega⟩
  obtain ⟨z, hz, hx⟩ := mn_loop d code n h hn j 0 0 (by omega) (by omega) (by omega) (by omega)
  refine ⟨z, hz, fun Q => XC_eq (Nat.le_of_ble_eq_true rfl) (xpk_sound (stops := [4]) (n := 10) ?_) Q⟩
  show xpk [4] 10 (d + 1) 277 0 [some (vI code), some (vI n), none, none] [] h _
  simp only [sk_0, sk_1, sk_2, sk_3, sk_4, sk_5, sk_6, sk_7, sk_8, sk_iadd, sk_isub, sk_imul, sk_iand, sk_ior, sk_ixor, sk_ishl, sk_ishr, sk_iushr, sk_idiv, sk_irem, sk_ineg, sk_ladd, sk_lsub, sk_lmul, sk_land, sk_lor, sk_ldiv, sk_lrem, sk_lneg, sk_lshl, sk_lshr, sk_i2l, sk_l2i, sk_lcmp, sk_dupI, sk_dupR, sk_dup2L, sk_dup2I, sk_popI, sk_ifeq, sk_ifne, sk_iflt, sk_ifge, sk_ifgt, sk_ifle, sk_iceq, sk_icne, sk_iclt, sk_icge, sk_icgt, sk_icle, sk_goto, sk_getf, sk_putf, sk_gets, sk_iald, sk_lald, sk_bald, sk_aald, sk_iast, sk_last, sk_bast, sk_aast, sk_alen, sk_newa, sk_newt, sk_new, sk_cs1, sk_cs2, sk_cs3, sk_cs4, sk_cs5, sk_cs6, sk_cv1, sk_cv2, sk_cv3, sk_cv4, sk_cv5, sk_cv6, sk_ci1, sk_ci2, sk_ci3, sk_ret0, sk_retI, sk_retL, sk_retR, sk_sw, sk_oin, sk_max, sk_min, sk_abs, lI_0, lI_s, lL_0, lL_s, lR_0, lR_s, vIo_e, vLo_e, vOo_e, stW_I, stW_L, stW_R, stW_0, stW_z, okSt_0, okSt_s, hV_eq, hK_eq, okF_0, okF_1, okF_3, is01_0, is01_1, is01_i, Int.toNat_natCast, Int.reduceEq, Int.reduceLE, Int.reduceLT, Int.reduceNeg, Nat.reduceLT, not_true_eq_false, not_false_eq_true, reduceIte, Option.toList, List.cons_append, List.nil_append, List.set_cons_zero, List.set_cons_succ, List.not_mem_nil, List.mem_cons, if_false, if_true, ite_true, ite_false, and_self, and_true, true_and, Nat.reduceAdd, Nat.reduceLeDiff, Nat.reduceEqDiff, Nat.zero_add, Nat.le_refl, Nat.zero_le, or_false, false_or, Int.reduceToNat, or_true, true_or, eq_self, and_false, false_and, inR_d, nc_4, nc_5, nc_6, nc_7, nc_8, nc_16, nc_18, nc_20, nc_24, nc_32, nc_40, nc_64, nc_104, nc_120, nc_160, nc_256, nc_300, nc_330, nc_390, nc_1200, nc_1260, nc_3012, nc_9834, okSt_1i, okSt_1r, okSt_1n, xpk_succ cd_277_0, xpk_succ cd_277_1, xpk_succ cd_277_2, xpk_succ cd_277_3, xpk_succ cd_277_4, xpk_succ cd_277_5, xpk_succ cd_277_6, xpk_succ cd_277_9, xpk_succ cd_277_10, xpk_succ cd_277_11, xpk_succ cd_277_12, xpk_succ cd_277_13, xpk_succ cd_277_16, xpk_succ cd_277_19, xpk_succ cd_277_20, xpk_succ cd_277_23, xpk_succ cd_277_24, xpk_succ cd_277_25, xpk_succ cd_277_26, xpk_succ cd_277_29, xpk_succ cd_277_32, xpk_succ cd_277_33]
  exact hx
theorem fw_inner (i codes n : Int) (h : AH) (hn : 1 ≤ n ∧ n ≤ 7) (hc0 : codes ≤ 10000) (Q : Option AV → AH → Prop) (hQ : XP 999 278 86 [some (vR 76), some (vI i), some (vI 0), some (vI 0), some (vI 0), some (vI codes), some (vI n), some (vI codes)] [] h Q) : ∀ (j : Nat) (code : Int), code + j = codes → 0 ≤ code → XP 999 278 33 [some (vR 76), some (vI i), some (vI 0), some (vI 0), some (vI 0), some (vI codes), some (vI n), some (vI code)] [] h Q := by
  intro j
  induction j with
  | zero =>
    intro code hj h0
    obtain rfl : code = codes := by omega
    have hc : code ≤ code := Int.le_refl _
    refine xpk_sound (stops := [86]) (n := 6) ?_
    simp only [sk_0, sk_1, sk_2, sk_3, sk_4, sk_5, sk_6, sk_7, sk_8, sk_iadd, sk_isub, sk_imul, sk_iand, sk_ior, sk_ixor, sk_ishl, sk_ishr, sk_iushr, sk_idiv, sk_irem, sk_ineg, sk_ladd, sk_lsub, sk_lmul, sk_land, sk_lor, sk_ldiv, sk_lrem, sk_lneg, sk_lshl, sk_lshr, sk_i2l, sk_l2i, sk_lcmp, sk_dupI, sk_dupR, sk_dup2L, sk_dup2I, sk_popI, sk_ifeq, sk_ifne, sk_iflt, sk_ifge, sk_ifgt, sk_ifle, sk_iceq, sk_icne, sk_iclt, sk_icge, sk_icgt, sk_icle, sk_goto, sk_getf, sk_putf, sk_gets, sk_iald, sk_lald, sk_bald, sk_aald, sk_iast, sk_last, sk_bast, sk_aast, sk_alen, sk_newa, sk_newt, sk_new, sk_cs1, sk_cs2, sk_cs3, sk_cs4, sk_cs5, sk_cs6, sk_cv1, sk_cv2, sk_cv3, sk_cv4, sk_cv5, sk_cv6, sk_ci1, sk_ci2, sk_ci3, sk_ret0, sk_retI, sk_retL, sk_retR, sk_sw, sk_oin, sk_max, sk_min, sk_abs, lI_0, lI_s, lL_0, lL_s, lR_0, lR_s, vIo_e, vLo_e, vOo_e, stW_I, stW_L, stW_R, stW_0, stW_z, okSt_0, okSt_s, hV_eq, hK_eq, okF_0, okF_1, okF_3, is01_0, is01_1, is01_i, Int.toNat_natCast, Int.reduceEq, Int.reduceLE, Int.reduceLT, Int.reduceNeg, Nat.reduceLT, not_true_eq_false, not_false_eq_true, reduceIte, Option.toList, List.cons_append, List.nil_append, List.set_cons_zero, List.set_cons_succ, List.not_mem_nil, List.mem_cons, if_false, if_true, ite_true, ite_false, and_self, and_true, true_and, Nat.reduceAdd, Nat.reduceLeDiff, Nat.reduceEqDiff, Nat.zero_add, Nat.le_refl, Nat.zero_le, or_false, false_or, Int.reduceToNat, or_true, true_or, eq_self, and_false, false_and, inR_d, nc_4, nc_5, nc_6, nc_7, nc_8, nc_16, nc_18, nc_20, nc_24, nc_32, nc_40, nc_64, nc_104, nc_120, nc_160, nc_256, nc_300, nc_330, nc_390, nc_1200, nc_1260, nc_3012, nc_9834, okSt_1i, okSt_1r, okSt_1n, xpk_succ cd_278_0, xpk_succ cd_278_1, xpk_succ cd_278_2, xpk_succ cd_278_5, xpk_succ cd_278_7, xpk_succ cd_278_8, xpk_succ cd_278_11, xpk_succ cd_278_12, xpk_succ cd_278_13, xpk_succ cd_278_14, xpk_succ cd_278_15, xpk_succ cd_278_17, xpk_succ cd_278_18, xpk_succ cd_278_20, xpk_succ cd_278_21, xpk_succ cd_278_23, xpk_succ cd_278_25, xpk_succ cd_278_27, xpk_succ cd_278_30, xpk_succ cd_278_31, xpk_succ cd_278_33, xpk_succ cd_278_35, xpk_succ cd_278_37, xpk_succ cd_278_40, xpk_succ cd_278_42, xpk_succ cd_278_44, xpk_succ cd_278_47, xpk_succ cd_278_48, xpk_succ cd_278_51, xpk_succ cd_278_52, xpk_succ cd_278_54, xpk_succ cd_278_56, xpk_succ cd_278_59, xpk_succ cd_278_62, xpk_succ cd_278_65, xpk_succ cd_278_67, xpk_succ cd_278_69, xpk_succ cd_278_72, xpk_succ cd_278_73, xpk_succ cd_278_75, xpk_succ cd_278_76, xpk_succ cd_278_78, xpk_succ cd_278_80, xpk_succ cd_278_83, xpk_succ cd_278_86, xpk_succ cd_278_88, xpk_succ cd_278_89, xpk_succ cd_278_90, xpk_succ cd_278_92, xpk_succ cd_278_95, xpk_succ cd_278_98, xpk_succ cd_278_99, xpk_succ cd_278_102, xpk_succ cd_278_105, xpk_succ cd_278_107, xpk_succ cd_278_108, xpk_succ cd_278_109, xpk_succ cd_278_110, xpk_succ cd_278_113, xpk_succ cd_278_114, xpk_succ cd_278_117, xpk_succ cd_278_118, xpk_succ cd_278_120, xpk_succ cd_278_123, xpk_succ cd_278_124, xpk_succ cd_278_126, xpk_succ cd_278_127, xpk_succ cd_278_130, xpk_succ cd_278_133, xpk_succ cd_278_135, hc]
    exact hQ
  | succ j ih =>
    intro code hj h0
    have hc : ¬ codes ≤ code := by omega
    have hk1 : w32 (code + 1) = code + 1 := by unfold w32; omega
    obtain ⟨z, hz, ez⟩ := X_many 997 code n h (by omega)
    have hz0 := hz.1
    have hq := ih (code + 1) (by omega) (by omega)
    refine xpk_sound (stops := [33]) (n := 12) ?_
    simp only [sk_0, sk_1, sk_2, sk_3, sk_4, sk_5, sk_6, sk_7, sk_8, sk_iadd, sk_isub, sk_imul, sk_iand, sk_ior, sk_ixor, sk_ishl, sk_ishr, sk_iushr, sk_idiv, sk_irem, sk_ineg, sk_ladd, sk_lsub, sk_lmul, sk_land, sk_lor, sk_ldiv, sk_lrem, sk_lneg, sk_lshl, sk_lshr, sk_i2l, sk_l2i, sk_lcmp, sk_dupI, sk_dupR, sk_dup2L, sk_dup2I, sk_popI, sk_ifeq, sk_ifne, sk_iflt, sk_ifge, sk_ifgt, sk_ifle, sk_iceq, sk_icne, sk_iclt, sk_icge, sk_icgt, sk_icle, sk_goto, sk_getf, sk_putf, sk_gets, sk_iald, sk_lald, sk_bald, sk_aald, sk_iast, sk_last, sk_bast, sk_aast, sk_alen, sk_newa, sk_newt, sk_new, sk_cs1, sk_cs2, sk_cs3, sk_cs4, sk_cs5, sk_cs6, sk_cv1, sk_cv2, sk_cv3, sk_cv4, sk_cv5, sk_cv6, sk_ci1, sk_ci2, sk_ci3, sk_ret0, sk_retI, sk_retL, sk_retR, sk_sw, sk_oin, sk_max, sk_min, sk_abs, lI_0, lI_s, lL_0, lL_s, lR_0, lR_s, vIo_e, vLo_e, vOo_e, stW_I, stW_L, stW_R, stW_0, stW_z, okSt_0, okSt_s, hV_eq, hK_eq, okF_0, okF_1, okF_3, is01_0, is01_1, is01_i, Int.toNat_natCast, Int.reduceEq, Int.reduceLE, Int.reduceLT, Int.reduceNeg, Nat.reduceLT, not_true_eq_false, not_false_eq_true, reduceIte, Option.toList, List.cons_append, List.nil_append, List.set_cons_zero, List.set_cons_succ, List.not_mem_nil, List.mem_cons, if_false, if_true, ite_true, ite_false, and_self, and_true, true_and, Nat.reduceAdd, Nat.reduceLeDiff, Nat.reduceEqDiff, Nat.zero_add, Nat.le_refl, Nat.zero_le, or_false, false_or, Int.reduceToNat, or_true, true_or, eq_self, and_false, false_and, inR_d, nc_4, nc_5, nc_6, nc_7, nc_8, nc_16, nc_18, nc_20, nc_24, nc_32, nc_40, nc_64, nc_104, nc_120, nc_160, nc_256, nc_300, nc_330, nc_390, nc_1200, nc_1260, nc_3012, nc_9834, okSt_1i, okSt_1r, okSt_1n, xpk_succ cd_278_0, xpk_succ cd_278_1, xpk_succ cd_278_2, xpk_succ cd_278_5, xpk_succ cd_278_7, xpk_succ cd_278_8, xpk_succ cd_278_11, xpk_succ cd_278_12, xpk_succ cd_278_13, xpk_succ cd_278_14, xpk_succ cd_278_15, xpk_succ cd_278_17, xpk_succ cd_278_18, xpk_succ cd_278_20, xpk_succ cd_278_21, xpk_succ cd_278_23, xpk_succ cd_278_25, xpk_succ cd_278_27, xpk_succ cd_278_30, xpk_succ cd_278_31, xpk_succ cd_278_33, xpk_succ cd_278_35, xpk_succ cd_278_37, xpk_succ cd_278_40, xpk_succ cd_278_42, xpk_succ cd_278_44, xpk_succ cd_278_47, xpk_succ cd_278_48, xpk_succ cd_278_51, xpk_succ cd_278_52, xpk_succ cd_278_54, xpk_succ cd_278_56, xpk_succ cd_278_59, xpk_succ cd_278_62, xpk_succ cd_278_65, xpk_succ cd_278_67, xpk_succ cd_278_69, xpk_succ cd_278_72, xpk_succ cd_278_73, xpk_succ cd_278_75, xpk_succ cd_278_76, xpk_succ cd_278_78, xpk_succ cd_278_80, xpk_succ cd_278_83, xpk_succ cd_278_86, xpk_succ cd_278_88, xpk_succ cd_278_89, xpk_succ cd_278_90, xpk_succ cd_278_92, xpk_succ cd_278_95, xpk_succ cd_278_98, xpk_succ cd_278_99, xpk_succ cd_278_102, xpk_succ cd_278_105, xpk_succ cd_278_107, xpk_succ cd_278_108, xpk_succ cd_278_109, xpk_succ cd_278_110, xpk_succ cd_278_113, xpk_succ cd_278_114, xpk_succ cd_278_117, xpk_succ cd_278_118, xpk_succ cd_278_120, xpk_succ cd_278_123, xpk_succ cd_278_124, xpk_succ cd_278_126, xpk_succ cd_278_127, xpk_succ cd_278_130, xpk_succ cd_278_133, xpk_succ cd_278_135, hc, ez, hz0, hk1]
    exact hq
theorem fw_step (i codes n c7 : Int) (h : AH) (hn : 1 ≤ n ∧ n ≤ 7) (hc0 : 0 ≤ codes) (hc1 : codes ≤ 10000) (Q : Option AV → AH → Prop) (hQ : XP 999 278 23 [some (vR 76), some (vI i), some (vI 0), some (vI 0), some (vI 0), some (vI (codes * 3)), some (vI (n + 1)), some (vI codes)] [] h Q) : XP 999 278 23 [some (vR 76), some (vI i), some (vI 0), some (vI 0), some (vI 0), some (vI codes), some (vI n), some (vI c7)] [] h Q := by
  have hc : ¬ (8 : Int) ≤ n := by omega
  have h3 : w32 (codes * 3) = codes * 3 := by unfold w32; omega
  have hn1 : w32 (n + 1) = n + 1 := by unfold w32; omega
  obtain ⟨j, hj⟩ : ∃ j : Nat, (j : Int) = codes := ⟨codes.toNat, by omega⟩
  have h86 : XP 999 278 86 [some (vR 76), some (vI i), some (vI 0), some (vI 0), some (vI 0), some (vI codes), some (vI n), some (vI codes)] [] h Q := by
    refine xpk_sound (stops := [23]) (n := 8) ?_
    simp only [sk_0, sk_1, sk_2, sk_3, sk_4, sk_5, sk_6, sk_7, sk_8, sk_iadd, sk_isub, sk_imul, sk_iand, sk_ior, sk_ixor, sk_ishl, sk_ishr, sk_iushr, sk_idiv, sk_irem, sk_ineg, sk_ladd, sk_lsub, sk_lmul, sk_land, sk_lor, sk_ldiv, sk_lrem, sk_lneg, sk_lshl, sk_lshr, sk_i2l, sk_l2i, sk_lcmp, sk_dupI, sk_dupR, sk_dup2L, sk_dup2I, sk_popI, sk_ifeq, sk_ifne, sk_iflt, sk_ifge, sk_ifgt, sk_ifle, sk_iceq, sk_icne, sk_iclt, sk_icge, sk_icgt, sk_icle, sk_goto, sk_getf, sk_putf, sk_gets, sk_iald, sk_lald, sk_bald, sk_aald, sk_iast, sk_last, sk_bast, sk_aast, sk_alen, sk_newa, sk_newt, sk_new, sk_cs1, sk_cs2, sk_cs3, sk_cs4, sk_cs5, sk_cs6, sk_cv1, sk_cv2, sk_cv3, sk_cv4, sk_cv5, sk_cv6, sk_ci1, sk_ci2, sk_ci3, sk_ret0, sk_retI, sk_retL, sk_retR, sk_sw, sk_oin, sk_max, sk_min, sk_abs, lI_0, lI_s, lL_0, lL_s, lR_0, lR_s, vIo_e, vLo_e, vOo_e, stW_I, stW_L, stW_R, stW_0, stW_z, okSt_0, okSt_s, hV_eq, hK_eq, okF_0, okF_1, okF_3, is01_0, is01_1, is01_i, Int.toNat_natCast, Int.reduceEq, Int.reduceLE, Int.reduceLT, Int.reduceNeg, Nat.reduceLT, not_true_eq_false, not_false_eq_true, reduceIte, Option.toList, List.cons_append, List.nil_append, List.set_cons_zero, List.set_cons_succ, List.not_mem_nil, List.mem_cons, if_false, if_true, ite_true, ite_false, and_self, and_true, true_and, Nat.reduceAdd, Nat.reduceLeDiff, Nat.reduceEqDiff, Nat.zero_add, Nat.le_refl, Nat.zero_le, or_false, false_or, Int.reduceToNat, or_true, true_or, eq_self, and_false, false_and, inR_d, nc_4, nc_5, nc_6, nc_7, nc_8, nc_16, nc_18, nc_20, nc_24, nc_32, nc_40, nc_64, nc_104, nc_120, nc_160, nc_256, nc_300, nc_330, nc_390, nc_1200, nc_1260, nc_3012, nc_9834, okSt_1i, okSt_1r, okSt_1n, xpk_succ cd_278_0, xpk_succ cd_278_1, xpk_succ cd_278_2, xpk_succ cd_278_5, xpk_succ cd_278_7, xpk_succ cd_278_8, xpk_succ cd_278_11, xpk_succ cd_278_12, xpk_succ cd_278_13, xpk_succ cd_278_14, xpk_succ cd_278_15, xpk_succ cd_278_17, xpk_succ cd_278_18, xpk_succ cd_278_20, xpk_succ cd_278_21, xpk_succ cd_278_23, xpk_succ cd_278_25, xpk_succ cd_278_27, xpk_succ cd_278_30, xpk_succ cd_278_31, xpk_succ cd_278_33, xpk_succ cd_278_35, xpk_succ cd_278_37, xpk_succ cd_278_40, xpk_succ cd_278_42, xpk_succ cd_278_44, xpk_succ cd_278_47, xpk_succ cd_278_48, xpk_succ cd_278_51, xpk_succ cd_278_52, xpk_succ cd_278_54, xpk_succ cd_278_56, xpk_succ cd_278_59, xpk_succ cd_278_62, xpk_succ cd_278_65, xpk_succ cd_278_67, xpk_succ cd_278_69, xpk_succ cd_278_72, xpk_succ cd_278_73, xpk_succ cd_278_75, xpk_succ cd_278_76, xpk_succ cd_278_78, xpk_succ cd_278_80, xpk_succ cd_278_83, xpk_succ cd_278_86, xpk_succ cd_278_88, xpk_succ cd_278_89, xpk_succ cd_278_90, xpk_succ cd_278_92, xpk_succ cd_278_95, xpk_succ cd_278_98, xpk_succ cd_278_99, xpk_succ cd_278_102, xpk_succ cd_278_105, xpk_succ cd_278_107, xpk_succ cd_278_108, xpk_succ cd_278_109, xpk_succ cd_278_110, xpk_succ cd_278_113, xpk_succ cd_278_114, xpk_succ cd_278_117, xpk_succ cd_278_118, xpk_succ cd_278_120, xpk_succ cd_278_123, xpk_succ cd_278_124, xpk_succ cd_278_126, xpk_succ cd_278_127, xpk_succ cd_278_130, xpk_succ cd_278_133, xpk_succ cd_278_135, h3, hn1]
    exact hQ
  have h33 := fw_inner i codes n h hn hc1 Q h86 j 0 (by omega) (by omega)
  refine xpk_sound (stops := [33]) (n := 8) ?_
  simp only [sk_0, sk_1, sk_2, sk_3, sk_4, sk_5, sk_6, sk_7, sk_8, sk_iadd, sk_isub, sk_imul, sk_iand, sk_ior, sk_ixor, sk_ishl, sk_ishr, sk_iushr, sk_idiv, sk_irem, sk_ineg, sk_ladd, sk_lsub, sk_lmul, sk_land, sk_lor, sk_ldiv, sk_lrem, sk_lneg, sk_lshl, sk_lshr, sk_i2l, sk_l2i, sk_lcmp, sk_dupI, sk_dupR, sk_dup2L, sk_dup2I, sk_popI, sk_ifeq, sk_ifne, sk_iflt, sk_ifge, sk_ifgt, sk_ifle, sk_iceq, sk_icne, sk_iclt, sk_icge, sk_icgt, sk_icle, sk_goto, sk_getf, sk_putf, sk_gets, sk_iald, sk_lald, sk_bald, sk_aald, sk_iast, sk_last, sk_bast, sk_aast, sk_alen, sk_newa, sk_newt, sk_new, sk_cs1, sk_cs2, sk_cs3, sk_cs4, sk_cs5, sk_cs6, sk_cv1, sk_cv2, sk_cv3, sk_cv4, sk_cv5, sk_cv6, sk_ci1, sk_ci2, sk_ci3, sk_ret0, sk_retI, sk_retL, sk_retR, sk_sw, sk_oin, sk_max, sk_min, sk_abs, lI_0, lI_s, lL_0, lL_s, lR_0, lR_s, vIo_e, vLo_e, vOo_e, stW_I, stW_L, stW_R, stW_0, stW_z, okSt_0, okSt_s, hV_eq, hK_eq, okF_0, okF_1, okF_3, is01_0, is01_1, is01_i, Int.toNat_natCast, Int.reduceEq, Int.reduceLE, Int.reduceLT, Int.reduceNeg, Nat.reduceLT, not_true_eq_false, not_false_eq_true, reduceIte, Option.toList, List.cons_append, List.nil_append, List.set_cons_zero, List.set_cons_succ, List.not_mem_nil, List.mem_cons, if_false, if_true, ite_true, ite_false, and_self, and_true, true_and, Nat.reduceAdd, Nat.reduceLeDiff, Nat.reduceEqDiff, Nat.zero_add, Nat.le_refl, Nat.zero_le, or_false, false_or, Int.reduceToNat, or_true, true_or, eq_self, and_false, false_and, inR_d, nc_4, nc_5, nc_6, nc_7, nc_8, nc_16, nc_18, nc_20, nc_24, nc_32, nc_40, nc_64, nc_104, nc_120, nc_160, nc_256, nc_300, nc_330, nc_390, nc_1200, nc_1260, nc_3012, nc_9834, okSt_1i, okSt_1r, okSt_1n, xpk_succ cd_278_0, xpk_succ cd_278_1, xpk_succ cd_278_2, xpk_succ cd_278_5, xpk_succ cd_278_7, xpk_succ cd_278_8, xpk_succ cd_278_11, xpk_succ cd_278_12, xpk_succ cd_278_13, xpk_succ cd_278_14, xpk_succ cd_278_15, xpk_succ cd_278_17, xpk_succ cd_278_18, xpk_succ cd_278_20, xpk_succ cd_278_21, xpk_succ cd_278_23, xpk_succ cd_278_25, xpk_succ cd_278_27, xpk_succ cd_278_30, xpk_succ cd_278_31, xpk_succ cd_278_33, xpk_succ cd_278_35, xpk_succ cd_278_37, xpk_succ cd_278_40, xpk_succ cd_278_42, xpk_succ cd_278_44, xpk_succ cd_278_47, xpk_succ cd_278_48, xpk_succ cd_278_51, xpk_succ cd_278_52, xpk_succ cd_278_54, xpk_succ cd_278_56, xpk_succ cd_278_59, xpk_succ cd_278_62, xpk_succ cd_278_65, xpk_succ cd_278_67, xpk_succ cd_278_69, xpk_succ cd_278_72, xpk_succ cd_278_73, xpk_succ cd_278_75, xpk_succ cd_278_76, xpk_succ cd_278_78, xpk_succ cd_278_80, xpk_succ cd_278_83, xpk_succ cd_278_86, xpk_succ cd_278_88, xpk_succ cd_278_89, xpk_succ cd_278_90, xpk_succ cd_278_92, xpk_succ cd_278_95, xpk_succ cd_278_98, xpk_succ cd_278_99, xpk_succ cd_278_102, xpk_succ cd_278_105, xpk_succ cd_278_107, xpk_succ cd_278_108, xpk_succ cd_278_109, xpk_succ cd_278_110, xpk_succ cd_278_113, xpk_succ cd_278_114, xpk_succ cd_278_117, xpk_succ cd_278_118, xpk_succ cd_278_120, xpk_succ cd_278_123, xpk_succ cd_278_124, xpk_succ cd_278_126, xpk_succ cd_278_127, xpk_succ cd_278_130, xpk_succ cd_278_133, xpk_succ cd_278_135, hc]
  exact h33
theorem ai_comes : achF nt0 1000000 1000000 nSt 997 275 0 (entG [xR 76, xI 0, xI 0] (repN (mL 275 - lenW [xR 76, xI 0, xI 0]))) [] (bc1, bx bxT) (cKs (some (xI 1)) bBm) = true := by decide +kernel
theorem X_comes {h : AH} (hb : ab_H (bc1, bx bxT) h) : ∃ h', ab_H (bBm, bx bxT) h' ∧ ∀ Q : Option AV → AH → Prop, XC 998 275 [vR 76, vI 0, vI 0] h Q = Q (some (vI 1)) h' :=
  XC_ex (ai_call nt0_s ai_comes (by decide) ⟨_, _, rfl, rfl, _, _, rfl, rfl, _, _, rfl, rfl, rfl⟩ hb (fun r b v h hk ho hb => by
    obtain ⟨rfl, hb'⟩ := cKs_s hk rfl rfl hb
    obtain ⟨u, rfl, hu⟩ := ho
    have hu : u = vI 1 := hu
    rw [hu]
    exact ⟨rfl, hb'⟩))
theorem fw_end (i : Int) (h : AH) (hi : -1 ≤ i) (Q : Option AV → AH → Prop) (q0 : i = -1 → Q (some (.inl 0)) h) (q1 : ¬ i = -1 → Q (some (.inl (-2))) h) : XP 999 278 23 [some (vR 76), some (vI i), some (vI 0), some (vI 0), some (vI 0), some (vI 6561), some (vI 8), some (vI 2187)] [] h Q := by
  refine xpk_sound (stops := []) (n := 20) ?_
  by_cases hm : i = -1
  · have hq := q0 hm
    subst hm
    simp only [sk_0, sk_1, sk_2, sk_3, sk_4, sk_5, sk_6, sk_7, sk_8, sk_iadd, sk_isub, sk_imul, sk_iand, sk_ior, sk_ixor, sk_ishl, sk_ishr, sk_iushr, sk_idiv, sk_irem, sk_ineg, sk_ladd, sk_lsub, sk_lmul, sk_land, sk_lor, sk_ldiv, sk_lrem, sk_lneg, sk_lshl, sk_lshr, sk_i2l, sk_l2i, sk_lcmp, sk_dupI, sk_dupR, sk_dup2L, sk_dup2I, sk_popI, sk_ifeq, sk_ifne, sk_iflt, sk_ifge, sk_ifgt, sk_ifle, sk_iceq, sk_icne, sk_iclt, sk_icge, sk_icgt, sk_icle, sk_goto, sk_getf, sk_putf, sk_gets, sk_iald, sk_lald, sk_bald, sk_aald, sk_iast, sk_last, sk_bast, sk_aast, sk_alen, sk_newa, sk_newt, sk_new, sk_cs1, sk_cs2, sk_cs3, sk_cs4, sk_cs5, sk_cs6, sk_cv1, sk_cv2, sk_cv3, sk_cv4, sk_cv5, sk_cv6, sk_ci1, sk_ci2, sk_ci3, sk_ret0, sk_retI, sk_retL, sk_retR, sk_sw, sk_oin, sk_max, sk_min, sk_abs, lI_0, lI_s, lL_0, lL_s, lR_0, lR_s, vIo_e, vLo_e, vOo_e, stW_I, stW_L, stW_R, stW_0, stW_z, okSt_0, okSt_s, hV_eq, hK_eq, okF_0, okF_1, okF_3, is01_0, is01_1, is01_i, Int.toNat_natCast, Int.reduceEq, Int.reduceLE, Int.reduceLT, Int.reduceNeg, Nat.reduceLT, not_true_eq_false, not_false_eq_true, reduceIte, Option.toList, List.cons_append, List.nil_append, List.set_cons_zero, List.set_cons_succ, List.not_mem_nil, List.mem_cons, if_false, if_true, ite_true, ite_false, and_self, and_true, true_and, Nat.reduceAdd, Nat.reduceLeDiff, Nat.reduceEqDiff, Nat.zero_add, Nat.le_refl, Nat.zero_le, or_false, false_or, Int.reduceToNat, or_true, true_or, eq_self, and_false, false_and, inR_d, nc_4, nc_5, nc_6, nc_7, nc_8, nc_16, nc_18, nc_20, nc_24, nc_32, nc_40, nc_64, nc_104, nc_120, nc_160, nc_256, nc_300, nc_330, nc_390, nc_1200, nc_1260, nc_3012, nc_9834, okSt_1i, okSt_1r, okSt_1n, xpk_succ cd_278_0, xpk_succ cd_278_1, xpk_succ cd_278_2, xpk_succ cd_278_5, xpk_succ cd_278_7, xpk_succ cd_278_8, xpk_succ cd_278_11, xpk_succ cd_278_12, xpk_succ cd_278_13, xpk_succ cd_278_14, xpk_succ cd_278_15, xpk_succ cd_278_17, xpk_succ cd_278_18, xpk_succ cd_278_20, xpk_succ cd_278_21, xpk_succ cd_278_23, xpk_succ cd_278_25, xpk_succ cd_278_27, xpk_succ cd_278_30, xpk_succ cd_278_31, xpk_succ cd_278_33, xpk_succ cd_278_35, xpk_succ cd_278_37, xpk_succ cd_278_40, xpk_succ cd_278_42, xpk_succ cd_278_44, xpk_succ cd_278_47, xpk_succ cd_278_48, xpk_succ cd_278_51, xpk_succ cd_278_52, xpk_succ cd_278_54, xpk_succ cd_278_56, xpk_succ cd_278_59, xpk_succ cd_278_62, xpk_succ cd_278_65, xpk_succ cd_278_67, xpk_succ cd_278_69, xpk_succ cd_278_72, xpk_succ cd_278_73, xpk_succ cd_278_75, xpk_succ cd_278_76, xpk_succ cd_278_78, xpk_succ cd_278_80, xpk_succ cd_278_83, xpk_succ cd_278_86, xpk_succ cd_278_88, xpk_succ cd_278_89, xpk_succ cd_278_90, xpk_succ cd_278_92, xpk_succ cd_278_95, xpk_succ cd_278_98, xpk_succ cd_278_99, xpk_succ cd_278_102, xpk_succ cd_278_105, xpk_succ cd_278_107, xpk_succ cd_278_108, xpk_succ cd_278_109, xpk_succ cd_278_110, xpk_succ cd_278_113, xpk_succ cd_278_114, xpk_succ cd_278_117, xpk_succ cd_278_118, xpk_succ cd_278_120, xpk_succ cd_278_123, xpk_succ cd_278_124, xpk_succ cd_278_126, xpk_succ cd_278_127, xpk_succ cd_278_130, xpk_succ cd_278_133, xpk_succ cd_278_135]
    exact hq
  · have h0 : 0 ≤ i := by omega
    have hq := q1 hm
    simp only [sk_0, sk_1, sk_2, sk_3, sk_4, sk_5, sk_6, sk_7, sk_8, sk_iadd, sk_isub, sk_imul, sk_iand, sk_ior, sk_ixor, sk_ishl, sk_ishr, sk_iushr, sk_idiv, sk_irem, sk_ineg, sk_ladd, sk_lsub, sk_lmul, sk_land, sk_lor, sk_ldiv, sk_lrem, sk_lneg, sk_lshl, sk_lshr, sk_i2l, sk_l2i, sk_lcmp, sk_dupI, sk_dupR, sk_dup2L, sk_dup2I, sk_popI, sk_ifeq, sk_ifne, sk_iflt, sk_ifge, sk_ifgt, sk_ifle, sk_iceq, sk_icne, sk_iclt, sk_icge, sk_icgt, sk_icle, sk_goto, sk_getf, sk_putf, sk_gets, sk_iald, sk_lald, sk_bald, sk_aald, sk_iast, sk_last, sk_bast, sk_aast, sk_alen, sk_newa, sk_newt, sk_new, sk_cs1, sk_cs2, sk_cs3, sk_cs4, sk_cs5, sk_cs6, sk_cv1, sk_cv2, sk_cv3, sk_cv4, sk_cv5, sk_cv6, sk_ci1, sk_ci2, sk_ci3, sk_ret0, sk_retI, sk_retL, sk_retR, sk_sw, sk_oin, sk_max, sk_min, sk_abs, lI_0, lI_s, lL_0, lL_s, lR_0, lR_s, vIo_e, vLo_e, vOo_e, stW_I, stW_L, stW_R, stW_0, stW_z, okSt_0, okSt_s, hV_eq, hK_eq, okF_0, okF_1, okF_3, is01_0, is01_1, is01_i, Int.toNat_natCast, Int.reduceEq, Int.reduceLE, Int.reduceLT, Int.reduceNeg, Nat.reduceLT, not_true_eq_false, not_false_eq_true, reduceIte, Option.toList, List.cons_append, List.nil_append, List.set_cons_zero, List.set_cons_succ, List.not_mem_nil, List.mem_cons, if_false, if_true, ite_true, ite_false, and_self, and_true, true_and, Nat.reduceAdd, Nat.reduceLeDiff, Nat.reduceEqDiff, Nat.zero_add, Nat.le_refl, Nat.zero_le, or_false, false_or, Int.reduceToNat, or_true, true_or, eq_self, and_false, false_and, inR_d, nc_4, nc_5, nc_6, nc_7, nc_8, nc_16, nc_18, nc_20, nc_24, nc_32, nc_40, nc_64, nc_104, nc_120, nc_160, nc_256, nc_300, nc_330, nc_390, nc_1200, nc_1260, nc_3012, nc_9834, okSt_1i, okSt_1r, okSt_1n, xpk_succ cd_278_0, xpk_succ cd_278_1, xpk_succ cd_278_2, xpk_succ cd_278_5, xpk_succ cd_278_7, xpk_succ cd_278_8, xpk_succ cd_278_11, xpk_succ cd_278_12, xpk_succ cd_278_13, xpk_succ cd_278_14, xpk_succ cd_278_15, xpk_succ cd_278_17, xpk_succ cd_278_18, xpk_succ cd_278_20, xpk_succ cd_278_21, xpk_succ cd_278_23, xpk_succ cd_278_25, xpk_succ cd_278_27, xpk_succ cd_278_30, xpk_succ cd_278_31, xpk_succ cd_278_33, xpk_succ cd_278_35, xpk_succ cd_278_37, xpk_succ cd_278_40, xpk_succ cd_278_42, xpk_succ cd_278_44, xpk_succ cd_278_47, xpk_succ cd_278_48, xpk_succ cd_278_51, xpk_succ cd_278_52, xpk_succ cd_278_54, xpk_succ cd_278_56, xpk_succ cd_278_59, xpk_succ cd_278_62, xpk_succ cd_278_65, xpk_succ cd_278_67, xpk_succ cd_278_69, xpk_succ cd_278_72, xpk_succ cd_278_73, xpk_succ cd_278_75, xpk_succ cd_278_76, xpk_succ cd_278_78, xpk_succ cd_278_80, xpk_succ cd_278_83, xpk_succ cd_278_86, xpk_succ cd_278_88, xpk_succ cd_278_89, xpk_succ cd_278_90, xpk_succ cd_278_92, xpk_succ cd_278_95, xpk_succ cd_278_98, xpk_succ cd_278_99, xpk_succ cd_278_102, xpk_succ cd_278_105, xpk_succ cd_278_107, xpk_succ cd_278_108, xpk_succ cd_278_109, xpk_succ cd_278_110, xpk_succ cd_278_113, xpk_succ cd_278_114, xpk_succ cd_278_117, xpk_succ cd_278_118, xpk_succ cd_278_120, xpk_succ cd_278_123, xpk_succ cd_278_124, xpk_succ cd_278_126, xpk_succ cd_278_127, xpk_succ cd_278_130, xpk_succ cd_278_133, xpk_succ cd_278_135, hm, h0]
    exact hq
set_option maxHeartbeats 4000000 in
theorem X_fewM {h : AH} {i : Int} (hb : ab_H (bc1, bx bxT) h) (hi : -1 ≤ i) : ∃ h', (hN h' = 93 ∧ hS h' = 32805 ∧ hK h' 1000100 = (20, 6)) ∧ ∀ Q : Option AV → AH → Prop, XC 1000 278 [vR 76, vI i] h Q = Q (some (vI (if i = -1 then 0 else -2))) h' := by
  have k0 := kdI_s (k := 76) (kd := 10) (len := 0) hb (by decide +kernel)
  obtain ⟨z, hz, ez⟩ := X_many 997 0 0 h (by omega)
  obtain ⟨h1, hb1, e1⟩ := X_comes hb
  have e1 := XC_999 e1
  obtain ⟨y, hy, ey⟩ := X_many 997 0 0 h1 (by omega)
  have z0 : z = 0 := by omega
  have y0 : y = 0 := by omega
  subst z0 y0
  have hK6 : hK h1 1000100 = (20, 6) := kdI_s hb1 (by decide +kernel)
  have hP : hN h1 = 93 ∧ hS h1 = 32805 ∧ hK h1 1000100 = (20, 6) := ⟨hb1.1, hb1.2.1, hK6⟩
  refine XC_ex (d := 999) (XC_of (Nat.le_of_ble_eq_true rfl) ?_)
  have s8 := fw_end i h1 hi (fun r h' => r = some (vI (if i = -1 then 0 else -2)) ∧ (hN h' = 93 ∧ hS h' = 32805 ∧ hK h' 1000100 = (20, 6))) (fun hm => ⟨by rw [if_pos hm], hP⟩) (fun hm => ⟨by rw [if_neg hm], hP⟩)
  have s7 := fw_step i 2187 7 729 h1 (by decide) (by decide) (by decide) _ s8
  have s6 := fw_step i 729 6 243 h1 (by decide) (by decide) (by decide) _ s7
  have s5 := fw_step i 243 5 81 h1 (by decide) (by decide) (by decide) _ s6
  have s4 := fw_step i 81 4 27 h1 (by decide) (by decide) (by decide) _ s5
  have s3 := fw_step i 27 3 9 h1 (by decide) (by decide) (by decide) _ s4
  have s2 := fw_step i 9 2 3 h1 (by decide) (by decide) (by decide) _ s3
  have s1 := fw_step i 3 1 1 h1 (by decide) (by decide) (by decide) _ s2
  generalize (fun (r : Option AV) (h' : AH) => r = some (vI (if i = -1 then 0 else -2)) ∧ (hN h' = 93 ∧ hS h' = 32805 ∧ hK h' 1000100 = (20, 6))) = Q at s1
  have w1 : w32 (0 + 1) = 1 := by unfold w32; omega
  have w3 : w32 (1 * 3) = 3 := by unfold w32; omega
  have h23 : XP 999 278 23 [some (vR 76), some (vI i), some (vI 100000000), some (vI 0), some (vI 0), some (vI 1), some (vI 0), none] [] h Q := by
    refine xpk_sound (stops := [23]) (n := 60) ?_
    simp only [sk_0, sk_1, sk_2, sk_3, sk_4, sk_5, sk_6, sk_7, sk_8, sk_iadd, sk_isub, sk_imul, sk_iand, sk_ior, sk_ixor, sk_ishl, sk_ishr, sk_iushr, sk_idiv, sk_irem, sk_ineg, sk_ladd, sk_lsub, sk_lmul, sk_land, sk_lor, sk_ldiv, sk_lrem, sk_lneg, sk_lshl, sk_lshr, sk_i2l, sk_l2i, sk_lcmp, sk_dupI, sk_dupR, sk_dup2L, sk_dup2I, sk_popI, sk_ifeq, sk_ifne, sk_iflt, sk_ifge, sk_ifgt, sk_ifle, sk_iceq, sk_icne, sk_iclt, sk_icge, sk_icgt, sk_icle, sk_goto, sk_getf, sk_putf, sk_gets, sk_iald, sk_lald, sk_bald, sk_aald, sk_iast, sk_last, sk_bast, sk_aast, sk_alen, sk_newa, sk_newt, sk_new, sk_cs1, sk_cs2, sk_cs3, sk_cs4, sk_cs5, sk_cs6, sk_cv1, sk_cv2, sk_cv3, sk_cv4, sk_cv5, sk_cv6, sk_ci1, sk_ci2, sk_ci3, sk_ret0, sk_retI, sk_retL, sk_retR, sk_sw, sk_oin, sk_max, sk_min, sk_abs, lI_0, lI_s, lL_0, lL_s, lR_0, lR_s, vIo_e, vLo_e, vOo_e, stW_I, stW_L, stW_R, stW_0, stW_z, okSt_0, okSt_s, hV_eq, hK_eq, okF_0, okF_1, okF_3, is01_0, is01_1, is01_i, Int.toNat_natCast, Int.reduceEq, Int.reduceLE, Int.reduceLT, Int.reduceNeg, Nat.reduceLT, not_true_eq_false, not_false_eq_true, reduceIte, Option.toList, List.cons_append, List.nil_append, List.set_cons_zero, List.set_cons_succ, List.not_mem_nil, List.mem_cons, if_false, if_true, ite_true, ite_false, and_self, and_true, true_and, Nat.reduceAdd, Nat.reduceLeDiff, Nat.reduceEqDiff, Nat.zero_add, Nat.le_refl, Nat.zero_le, or_false, false_or, Int.reduceToNat, or_true, true_or, eq_self, and_false, false_and, inR_d, nc_4, nc_5, nc_6, nc_7, nc_8, nc_16, nc_18, nc_20, nc_24, nc_32, nc_40, nc_64, nc_104, nc_120, nc_160, nc_256, nc_300, nc_330, nc_390, nc_1200, nc_1260, nc_3012, nc_9834, okSt_1i, okSt_1r, okSt_1n, xpk_succ cd_278_0, xpk_succ cd_278_1, xpk_succ cd_278_2, xpk_succ cd_278_5, xpk_succ cd_278_7, xpk_succ cd_278_8, xpk_succ cd_278_11, xpk_succ cd_278_12, xpk_succ cd_278_13, xpk_succ cd_278_14, xpk_succ cd_278_15, xpk_succ cd_278_17, xpk_succ cd_278_18, xpk_succ cd_278_20, xpk_succ cd_278_21, xpk_succ cd_278_23, xpk_succ cd_278_25, xpk_succ cd_278_27, xpk_succ cd_278_30, xpk_succ cd_278_31, xpk_succ cd_278_33, xpk_succ cd_278_35, xpk_succ cd_278_37, xpk_succ cd_278_40, xpk_succ cd_278_42, xpk_succ cd_278_44, xpk_succ cd_278_47, xpk_succ cd_278_48, xpk_succ cd_278_51, xpk_succ cd_278_52, xpk_succ cd_278_54, xpk_succ cd_278_56, xpk_succ cd_278_59, xpk_succ cd_278_62, xpk_succ cd_278_65, xpk_succ cd_278_67, xpk_succ cd_278_69, xpk_succ cd_278_72, xpk_succ cd_278_73, xpk_succ cd_278_75, xpk_succ cd_278_76, xpk_succ cd_278_78, xpk_succ cd_278_80, xpk_succ cd_278_83, xpk_succ cd_278_86, xpk_succ cd_278_88, xpk_succ cd_278_89, xpk_succ cd_278_90, xpk_succ cd_278_92, xpk_succ cd_278_95, xpk_succ cd_278_98, xpk_succ cd_278_99, xpk_succ cd_278_102, xpk_succ cd_278_105, xpk_succ cd_278_107, xpk_succ cd_278_108, xpk_succ cd_278_109, xpk_succ cd_278_110, xpk_succ cd_278_113, xpk_succ cd_278_114, xpk_succ cd_278_117, xpk_succ cd_278_118, xpk_succ cd_278_120, xpk_succ cd_278_123, xpk_succ cd_278_124, xpk_succ cd_278_126, xpk_succ cd_278_127, xpk_succ cd_278_130, xpk_succ cd_278_133, xpk_succ cd_278_135, k0, ez, e1, ey, w1, w3, Int.le_refl]
    exact s1
  refine xpk_sound (stops := [23]) (n := 18) ?_
  show xpk [23] 18 999 278 0 [some (vR 76), some (vI i), none, none, none, none, none, none] [] h Q
  simp only [sk_0, sk_1, sk_2, sk_3, sk_4, sk_5, sk_6, sk_7, sk_8, sk_iadd, sk_isub, sk_imul, sk_iand, sk_ior, sk_ixor, sk_ishl, sk_ishr, sk_iushr, sk_idiv, sk_irem, sk_ineg, sk_ladd, sk_lsub, sk_lmul, sk_land, sk_lor, sk_ldiv, sk_lrem, sk_lneg, sk_lshl, sk_lshr, sk_i2l, sk_l2i, sk_lcmp, sk_dupI, sk_dupR, sk_dup2L, sk_dup2I, sk_popI, sk_ifeq, sk_ifne, sk_iflt, sk_ifge, sk_ifgt, sk_ifle, sk_iceq, sk_icne, sk_iclt, sk_icge, sk_icgt, sk_icle, sk_goto, sk_getf, sk_putf, sk_gets, sk_iald, sk_lald, sk_bald, sk_aald, sk_iast, sk_last, sk_bast, sk_aast, sk_alen, sk_newa, sk_newt, sk_new, sk_cs1, sk_cs2, sk_cs3, sk_cs4, sk_cs5, sk_cs6, sk_cv1, sk_cv2, sk_cv3, sk_cv4, sk_cv5, sk_cv6, sk_ci1, sk_ci2, sk_ci3, sk_ret0, sk_retI, sk_retL, sk_retR, sk_sw, sk_oin, sk_max, sk_min, sk_abs, lI_0, lI_s, lL_0, lL_s, lR_0, lR_s, vIo_e, vLo_e, vOo_e, stW_I, stW_L, stW_R, stW_0, stW_z, okSt_0, okSt_s, hV_eq, hK_eq, okF_0, okF_1, okF_3, is01_0, is01_1, is01_i, Int.toNat_natCast, Int.reduceEq, Int.reduceLE, Int.reduceLT, Int.reduceNeg, Nat.reduceLT, not_true_eq_false, not_false_eq_true, reduceIte, Option.toList, List.cons_append, List.nil_append, List.set_cons_zero, List.set_cons_succ, List.not_mem_nil, List.mem_cons, if_false, if_true, ite_true, ite_false, and_self, and_true, true_and, Nat.reduceAdd, Nat.reduceLeDiff, Nat.reduceEqDiff, Nat.zero_add, Nat.le_refl, Nat.zero_le, or_false, false_or, Int.reduceToNat, or_true, true_or, eq_self, and_false, false_and, inR_d, nc_4, nc_5, nc_6, nc_7, nc_8, nc_16, nc_18, nc_20, nc_24, nc_32, nc_40, nc_64, nc_104, nc_120, nc_160, nc_256, nc_300, nc_330, nc_390, nc_1200, nc_1260, nc_3012, nc_9834, okSt_1i, okSt_1r, okSt_1n, xpk_succ cd_278_0, xpk_succ cd_278_1, xpk_succ cd_278_2, xpk_succ cd_278_5, xpk_succ cd_278_7, xpk_succ cd_278_8, xpk_succ cd_278_11, xpk_succ cd_278_12, xpk_succ cd_278_13, xpk_succ cd_278_14, xpk_succ cd_278_15, xpk_succ cd_278_17, xpk_succ cd_278_18, xpk_succ cd_278_20, xpk_succ cd_278_21, xpk_succ cd_278_23, xpk_succ cd_278_25, xpk_succ cd_278_27, xpk_succ cd_278_30, xpk_succ cd_278_31, xpk_succ cd_278_33, xpk_succ cd_278_35, xpk_succ cd_278_37, xpk_succ cd_278_40, xpk_succ cd_278_42, xpk_succ cd_278_44, xpk_succ cd_278_47, xpk_succ cd_278_48, xpk_succ cd_278_51, xpk_succ cd_278_52, xpk_succ cd_278_54, xpk_succ cd_278_56, xpk_succ cd_278_59, xpk_succ cd_278_62, xpk_succ cd_278_65, xpk_succ cd_278_67, xpk_succ cd_278_69, xpk_succ cd_278_72, xpk_succ cd_278_73, xpk_succ cd_278_75, xpk_succ cd_278_76, xpk_succ cd_278_78, xpk_succ cd_278_80, xpk_succ cd_278_83, xpk_succ cd_278_86, xpk_succ cd_278_88, xpk_succ cd_278_89, xpk_succ cd_278_90, xpk_succ cd_278_92, xpk_succ cd_278_95, xpk_succ cd_278_98, xpk_succ cd_278_99, xpk_succ cd_278_102, xpk_succ cd_278_105, xpk_succ cd_278_107, xpk_succ cd_278_108, xpk_succ cd_278_109, xpk_succ cd_278_110, xpk_succ cd_278_113, xpk_succ cd_278_114, xpk_succ cd_278_117, xpk_succ cd_278_118, xpk_succ cd_278_120, xpk_succ cd_278_123, xpk_succ cd_278_124, xpk_succ cd_278_126, xpk_succ cd_278_127, xpk_succ cd_278_130, xpk_succ cd_278_133, xpk_succ cd_278_135, hi]
  exact h23
theorem ca_1s {nt : NT} (hn : ab_N nt) {pc s : Nat} {box : List AW} {e : AW} {h : AH} (h1 : ca_1 nt pc s box e = true) (hb : ab_H (bc0, bx box) h) (hk : ∀ h' v, ab_H (bc1, bx box) h' → ab_V e v → XP 1000 321 s lsc [v] h' lwQ) : XP 1000 321 pc lsc [] h lwQ := by
  refine achk_s hn _ _ _ _ _ _ _ _ _ _ h1 lsc [] h lwQ lsx_s rfl hb (fun als ast b ls st h hk' hl hs hb => ?_) (fun _ _ _ _ z => by cases z)
  unfold kS at hk'
  rw [Bool.and_eq_true, Bool.and_eq_true, Bool.and_eq_true, decide_eq_true_eq, decide_eq_true_eq] at hk'
  obtain ⟨rfl, rfl, hd, hz⟩ := hk'
  have hd := eqO_s hd
  have hz := eqZ_s hz
  obtain ⟨v, vs, rfl, hv, hs⟩ := hs
  have hs : vs = [] := hs
  subst hs
  have hls : ls = lsc := by
    obtain ⟨a1, l1, rfl, ⟨u1, rfl, z1⟩, a2, l2, rfl, ⟨u2, rfl, z2⟩, a3, l3, rfl, ⟨u3, rfl, z3⟩, a4, l4, rfl, ⟨u4, rfl, z4⟩, z5⟩ := hl
    have z1 : u1 = _ := z1
    have z2 : u2 = _ := z2
    have z3 : u3 = _ := z3
    have z4 : u4 = _ := z4
    have z5 : l4 = [] := z5
    rw [z1, z2, z3, z4, z5]
  rw [hls]
  obtain ⟨b1, b2⟩ := b
  have hz : b2 = bx box := hz
  subst hz
  exact hk h v ⟨hb.1, hb.2.1, fun k c hc => hb.2.2 k c (gC_1 hd hc)⟩ hv
set_option maxHeartbeats 4000000 in
theorem law_21 {h h2 : AH} {r i : Int} (k76 : hK h 76 = (10, 0)) (ks : hK h 1000100 = (20, 6)) (t1 : hV h 1000100 1 = vI i) (e2 : ∀ Q, XC 1000 278 [vR 76, vI i] h Q = Q (some (vI r)) h2) (hend : XP 1000 321 1541 lsc [] h2 lwQ) : XP 1000 321 836 lsc [vI r] h lwQ := by
  have w1 := w32_i (k := 1) (by decide) (by decide)
  refine xpk_sound (stops := [1541]) (n := 30) ?_
  show xpk [1541] 30 1000 321 836 [some (vR 1000100), some (vR 0), some (vR 76), some (vI 0)] [vI r] h _
  simp only [sk_0, sk_1, sk_2, sk_3, sk_4, sk_5, sk_6, sk_7, sk_8, sk_iadd, sk_isub, sk_imul, sk_iand, sk_ior, sk_ixor, sk_ishl, sk_ishr, sk_iushr, sk_idiv, sk_irem, sk_ineg, sk_ladd, sk_lsub, sk_lmul, sk_land, sk_lor, sk_ldiv, sk_lrem, sk_lneg, sk_lshl, sk_lshr, sk_i2l, sk_l2i, sk_lcmp, sk_dupI, sk_dupR, sk_dup2L, sk_dup2I, sk_popI, sk_ifeq, sk_ifne, sk_iflt, sk_ifge, sk_ifgt, sk_ifle, sk_iceq, sk_icne, sk_iclt, sk_icge, sk_icgt, sk_icle, sk_goto, sk_getf, sk_putf, sk_gets, sk_iald, sk_lald, sk_bald, sk_aald, sk_iast, sk_last, sk_bast, sk_aast, sk_alen, sk_newa, sk_newt, sk_new, sk_cs1, sk_cs2, sk_cs3, sk_cs4, sk_cs5, sk_cs6, sk_cv1, sk_cv2, sk_cv3, sk_cv4, sk_cv5, sk_cv6, sk_ci1, sk_ci2, sk_ci3, sk_ret0, sk_retI, sk_retL, sk_retR, sk_sw, sk_oin, sk_max, sk_min, sk_abs, lI_0, lI_s, lL_0, lL_s, lR_0, lR_s, vIo_e, vLo_e, vOo_e, stW_I, stW_L, stW_R, stW_0, stW_z, okSt_0, okSt_s, hV_eq, hK_eq, okF_0, okF_1, okF_3, is01_0, is01_1, is01_i, Int.toNat_natCast, Int.reduceEq, Int.reduceLE, Int.reduceLT, Int.reduceNeg, Nat.reduceLT, not_true_eq_false, not_false_eq_true, reduceIte, Option.toList, List.cons_append, List.nil_append, List.set_cons_zero, List.set_cons_succ, List.not_mem_nil, List.mem_cons, if_false, if_true, ite_true, ite_false, and_self, and_true, true_and, Nat.reduceAdd, Nat.reduceLeDiff, Nat.reduceEqDiff, Nat.zero_add, Nat.le_refl, Nat.zero_le, or_false, false_or, Int.reduceToNat, or_true, true_or, eq_self, and_false, false_and, inR_d, nc_4, nc_5, nc_6, nc_7, nc_8, nc_16, nc_18, nc_20, nc_24, nc_32, nc_40, nc_64, nc_104, nc_120, nc_160, nc_256, nc_300, nc_330, nc_390, nc_1200, nc_1260, nc_3012, nc_9834, okSt_1i, okSt_1r, okSt_1n, xpk_succ cd_321_836, xpk_succ cd_321_837, xpk_succ cd_321_838, xpk_succ cd_321_839, xpk_succ cd_321_840, xpk_succ cd_321_841, xpk_succ cd_321_842, xpk_succ cd_321_845, xpk_succ cd_321_848, xpk_succ cd_321_849, k76, ks, t1, e2, w1]
  exact hend
theorem bx_w {bs : List (List (Option AC))} {w1 : AW} {h : AH} (hl : leW w1 xT = true) (hb : ab_H (bs, bx [xT, w1, xT, xT, xT, xT]) h) : ab_H (bs, bx bxT) h := by
  refine ⟨hb.1, hb.2.1, fun k c hc => ?_⟩
  unfold gC at hc
  split at hc
  · rename_i hk
    refine hb.2.2 k c ?_
    unfold gC
    rw [if_pos hk]
    exact hc
  · rename_i hk
    have hc : (bx bxT).lookup k = some c := hc
    by_cases z : k = 1000100
    · subst z
      have e : (bx bxT).lookup 1000100 = some (20, 6, bxT, none) := by
        unfold bx
        rw [List.lookup_cons, beq_self_eq_true]
      rw [e] at hc
      cases hc
      have hg : gC (bs, bx [xT, w1, xT, xT, xT, xT]) 1000100 = some (20, 6, [xT, w1, xT, xT, xT, xT], none) := by
        unfold gC
        rw [if_neg (by omega)]
        unfold bx
        rw [List.lookup_cons, beq_self_eq_true]
      obtain ⟨q1, q2, q3⟩ := hb.2.2 1000100 _ hg
      refine ⟨q1, fun i w hw => ?_, fun w hw => by cases hw⟩
      have hw : [xT, xT, xT, xT, xT, xT][i]? = some w := hw
      match i, hw with
      | 0, hw => cases hw; exact q2 0 xT rfl
      | 1, hw => cases hw; exact leW_s hl (q2 1 w1 rfl)
      | 2, hw => cases hw; exact q2 2 xT rfl
      | 3, hw => cases hw; exact q2 3 xT rfl
      | 4, hw => cases hw; exact q2 4 xT rfl
      | 5, hw => cases hw; exact q2 5 xT rfl
      | n + 6, hw => cases hw
    · refine hb.2.2 k c ?_
      unfold gC
      rw [if_neg hk]
      unfold bx at hc ⊢
      rw [List.lookup_cons, beq_false_of_ne z] at hc ⊢
      exact hc
def cs_21 : List (List AW × AW) := [([xT, .inr (-2147483648, -2), xT, xT, xT, xT], xI (-2))]
theorem ck_21 : cb_L nt1 827 836 cs_21 = true := by decide +kernel
theorem ck_21a : cb_1 nt1 827 836 [xT, xI (-1), xT, xT, xT, xT] (xI 0) = true := by decide +kernel
theorem ck_21b : cb_1 nt1 827 836 [xT, .inr (0, 2147483647), xT, xT, xT, xT] (xI (-2)) = true := by decide +kernel
theorem few_fin {w1 : AW} {h : AH} {e : Int} (hl : leW w1 xT = true) (hb : ab_H (bc1, bx [xT, w1, xT, xT, xT, xT]) h) (hi : ∀ i : Int, ab_V w1 (vI i) → -1 ≤ i ∧ (if i = -1 then 0 else -2) = e) (hw : isI w1 = true) : XP 1000 321 836 lsc [vI e] h lwQ := by
  have hg : gC (bc1, bx [xT, w1, xT, xT, xT, xT]) 1000100 = some (20, 6, [xT, w1, xT, xT, xT, xT], none) := by
    unfold gC
    rw [if_neg (by omega)]
    unfold bx
    rw [List.lookup_cons, beq_self_eq_true]
  obtain ⟨q1, q2, q3⟩ := hb.2.2 1000100 _ hg
  have v1 := q2 1 w1 rfl
  obtain ⟨i, ei⟩ := isI_s hw v1
  rw [ei] at v1
  obtain ⟨hi1, hi2⟩ := hi i v1
  have hb' := bx_w hl hb
  obtain ⟨h2, ⟨n1, n2, n3⟩, e2⟩ := X_fewM hb' hi1
  rw [hi2] at e2
  exact law_21 (kdI_s hb' (by decide +kernel)) q1 ei e2 (law_end n1 n2 n3)
theorem case_21 {xs : Nat → Int} {h : AH} (hf : FR 6 xs h) (q0 : -2147483648 ≤ xs 0 ∧ xs 0 ≤ 2147483647) (q1 : -2147483648 ≤ xs 1 ∧ xs 1 ≤ 2147483647) (q2 : -2147483648 ≤ xs 2 ∧ xs 2 ≤ 2147483647) (q3 : -2147483648 ≤ xs 3 ∧ xs 3 ≤ 2147483647) (q4 : -2147483648 ≤ xs 4 ∧ xs 4 ≤ 2147483647) (q5 : -2147483648 ≤ xs 5 ∧ xs 5 ≤ 2147483647) : XP 1000 321 827 lsc [] h lwQ := by
  by_cases y1 : xs 1 ≤ -2
  · exact leaf2 nt1_s ck_21 hf 0 rfl (ab_rg (by omega) (by omega)) (ab_rg (by omega) (by omega)) (ab_rg (by omega) (by omega)) (ab_rg (by omega) (by omega)) (ab_rg (by omega) (by omega)) (ab_rg (by omega) (by omega))
  have hbox : ∀ w1, ab_V w1 (vI (xs 1)) → ab_H (bc0, bx [xT, w1, xT, xT, xT, xT]) h := fun w1 hw => FR_b okcs_0 hf (fun j w hj => by
    match j, hj with
    | 0, hj => cases hj; exact ab_rg q0.1 q0.2
    | 1, hj => cases hj; exact hw
    | 2, hj => cases hj; exact ab_rg q2.1 q2.2
    | 3, hj => cases hj; exact ab_rg q3.1 q3.2
    | 4, hj => cases hj; exact ab_rg q4.1 q4.2
    | 5, hj => cases hj; exact ab_rg q5.1 q5.2
    | n + 6, hj => cases hj)
  by_cases y2 : xs 1 = -1
  · refine ca_1s nt1_s (by unfold ca_1; rw [← achF_eq]; exact ck_21a) (hbox (xI (-1)) (ab_ex y2)) (fun h' v hb hv => ?_)
    have hv : v = vI 0 := hv
    rw [hv]
    refine few_fin rfl hb (fun i hi => ?_) rfl
    have hi : (Sum.inl i : AV) = .inl (-1) := hi
    cases hi
    exact ⟨by omega, if_pos rfl⟩
  · refine ca_1s nt1_s (by unfold ca_1; rw [← achF_eq]; exact ck_21b) (hbox (.inr (0, 2147483647)) (ab_rg (by omega) (by omega))) (fun h' v hb hv => ?_)
    have hv : v = vI (-2) := hv
    rw [hv]
    refine few_fin rfl hb (fun i hi => ?_) rfl
    obtain ⟨x, e, h1, h2⟩ := hi
    cases e
    have h1 : 0 ≤ i := h1
    exact ⟨by omega, if_neg (by omega)⟩
