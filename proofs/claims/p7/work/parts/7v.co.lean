/-! which clause is the law (the reference) -/
def fstK (s : Nat → Int) (w : Int) : Nat → Nat → Int
  | 0, _ => -1
  | m + 1, k => if s k = w then (k : Int) else fstK s w m (k + 1)
theorem fst_n {s : Nat → Int} {w : Int} : ∀ (m k : Nat), (∀ i, k ≤ i → i < k + m → s i ≠ w) → fstK s w m k = -1 := by
  intro m
  induction m with
  | zero => intro k _; rfl
  | succ m ih =>
    intro k h
    show (if s k = w then (k : Int) else fstK s w m (k + 1)) = -1
    rw [if_neg (h k (Nat.le_refl _) (by omega))]
    exact ih (k + 1) (fun i h1 h2 => h i (by omega) (by omega))
theorem fst_e {s : Nat → Int} {w : Int} {i : Nat} : ∀ (m k : Nat), k ≤ i → i < k + m → s i = w → (∀ i', k ≤ i' → i' < i → s i' ≠ w) → fstK s w m k = (i : Int) := by
  intro m
  induction m with
  | zero => intro k h1 h2; omega
  | succ m ih =>
    intro k h1 h2 h3 h4
    show (if s k = w then (k : Int) else fstK s w m (k + 1)) = (i : Int)
    by_cases z : k = i
    · subst z
      rw [if_pos h3]
    · rw [if_neg (h4 k (Nat.le_refl _) (by omega))]
      exact ih (k + 1) (by omega) (by omega) h3 (fun i' g1 g2 => h4 i' (by omega) g2)
theorem soM_5 {K : Int} {w : Nat} (hK : K ≤ 10 ∨ K = 16) (hw : w < 5) : soM K = (w : Int) ↔ K = (w : Int) := by
  unfold soM
  (repeat' split) <;> omega
/-- the reference's rows lie so -/
def G79 (h : AH) (gm : Nat → Int) : Prop := (hK h 76 = (10, 0) ∧ hK h 79 = (11, 3012)) ∧ hV h 76 2 = vR 79 ∧ ∀ i, i < 3012 → hV h 79 i = vI (gm i)
set_option maxHeartbeats 2000000 in
theorem co_l {d : Nat} {h : AH} {gm : Nat → Int} (hg : G79 h gm) {J n : Nat} (hJ : J < 4) (hn : n ≤ 24) (hc : gm (753 * J) = (n : Int)) {w : Int} : ∀ (m k : Nat), k + m = n → XP d 241 2 [some (vR 76), some (vI (J : Int)), some (vI w), some (vI (k : Int))] [] h (fun r1 h1 => r1 = some (vI (fstK (fun k => gm (753 * J + 1 + 6 * k)) w m k)) ∧ h1 = h) := by
  obtain ⟨⟨k1, k2⟩, k3, kv⟩ := hg
  have v0 : hV h 79 (753 * J) = vI (n : Int) := by rw [kv _ (by omega), hc]
  have b0 : (0 : Int) ≤ ((753 * J : Nat) : Int) ∧ ((753 * J : Nat) : Int) < 3012 := by omega
  have a1 : WE (753 * (J : Int)) ((753 * J : Nat) : Int) := by unfold WE w32; omega
  have a2 : WE (((753 * J : Nat) : Int) + 1) ((753 * J + 1 : Nat) : Int) := by unfold WE w32; omega
  have j0 : ¬ (J : Int) < 0 := by omega
  intro m
  induction m with
  | zero =>
    intro k hk
    have z : (n : Int) ≤ (k : Int) := by omega
    show XP d 241 2 _ [] h (fun r1 h1 => r1 = some (vI (-1)) ∧ h1 = h)
    refine xpk_sound (stops := []) (n := 30) ?_
    simp only [sk_0, sk_1, sk_2, sk_3, sk_4, sk_5, sk_6, sk_7, sk_8, sk_iadd, sk_isub, sk_imul, sk_iand, sk_ior, sk_ixor, sk_ishl, sk_ishr, sk_iushr, sk_idiv, sk_irem, sk_ineg, sk_ladd, sk_lsub, sk_lmul, sk_land, sk_lor, sk_ldiv, sk_lrem, sk_lneg, sk_lshl, sk_lshr, sk_i2l, sk_l2i, sk_lcmp, sk_dupI, sk_dupR, sk_dup2L, sk_dup2I, sk_popI, sk_ifeq, sk_ifne, sk_iflt, sk_ifge, sk_ifgt, sk_ifle, sk_iceq, sk_icne, sk_iclt, sk_icge, sk_icgt, sk_icle, sk_goto, sk_getf, sk_putf, sk_gets, sk_iald, sk_lald, sk_bald, sk_aald, sk_iast, sk_last, sk_bast, sk_aast, sk_alen, sk_newa, sk_newt, sk_new, sk_cs1, sk_cs2, sk_cs3, sk_cs4, sk_cs5, sk_cs6, sk_cv1, sk_cv2, sk_cv3, sk_cv4, sk_cv5, sk_cv6, sk_ci1, sk_ci2, sk_ci3, sk_ret0, sk_retI, sk_retL, sk_retR, sk_sw, sk_oin, sk_max, sk_min, sk_abs, lI_0, lI_s, lL_0, lL_s, lR_0, lR_s, vIo_e, vLo_e, vOo_e, stW_I, stW_L, stW_R, stW_0, stW_z, okSt_0, okSt_s, hV_eq, hK_eq, okF_0, okF_1, okF_3, is01_0, is01_1, is01_i, Int.toNat_natCast, Int.reduceEq, Int.reduceLE, Int.reduceLT, Int.reduceNeg, Nat.reduceLT, not_true_eq_false, not_false_eq_true, reduceIte, Option.toList, List.cons_append, List.nil_append, List.set_cons_zero, List.set_cons_succ, List.not_mem_nil, List.mem_cons, if_false, if_true, ite_true, ite_false, and_self, and_true, true_and, Nat.reduceAdd, Nat.reduceLeDiff, Nat.reduceEqDiff, Nat.zero_add, Nat.le_refl, Nat.zero_le, or_false, false_or, Int.reduceToNat, or_true, true_or, eq_self, and_false, false_and, inR_d, nc_4, nc_5, nc_6, nc_7, nc_8, nc_16, nc_18, nc_20, nc_24, nc_32, nc_40, nc_64, nc_104, nc_120, nc_160, nc_256, nc_300, nc_330, nc_390, nc_1200, nc_1260, nc_3012, nc_9834, okSt_1i, okSt_1r, okSt_1n, List.length_cons, List.length_nil, xpk_succ cd_241_2, xpk_succ cd_241_3, xpk_succ cd_241_6, xpk_succ cd_241_7, xpk_succ cd_241_8, xpk_succ cd_241_11, xpk_succ cd_241_14, xpk_succ cd_241_15, xpk_succ cd_241_16, xpk_succ cd_241_17, xpk_succ cd_241_20, xpk_succ cd_241_21, xpk_succ cd_241_24, xpk_succ cd_241_27, xpk_succ cd_241_28, xpk_succ cd_241_29, xpk_succ cd_241_30, xpk_succ cd_241_31, xpk_succ cd_241_33, xpk_succ cd_241_34, xpk_succ cd_241_35, xpk_succ cd_241_36, xpk_succ cd_241_37, xpk_succ cd_241_38, xpk_succ cd_241_41, xpk_succ cd_241_42, xpk_succ cd_241_43, xpk_succ cd_241_46, xpk_succ cd_241_49, xpk_succ cd_241_50, k1, k2, k3, v0, b0, (WE_e a1), j0, z]
  | succ m ih =>
    intro k hk
    have z : ¬ (n : Int) ≤ (k : Int) := by omega
    have v1 := kv (753 * J + 1 + 6 * k) (by omega)
    have b1 : (0 : Int) ≤ ((753 * J + 1 + 6 * k : Nat) : Int) ∧ ((753 * J + 1 + 6 * k : Nat) : Int) < 3012 := by omega
    have a3 : WE (6 * (k : Int)) ((6 * k : Nat) : Int) := by unfold WE w32; omega
    have a4 : WE (((753 * J + 1 : Nat) : Int) + ((6 * k : Nat) : Int)) ((753 * J + 1 + 6 * k : Nat) : Int) := by unfold WE w32; omega
    have a5 : WE ((k : Int) + 1) ((k + 1 : Nat) : Int) := by unfold WE w32; omega
    show XP d 241 2 _ [] h (fun r1 h1 => r1 = some (vI (if gm (753 * J + 1 + 6 * k) = w then (k : Int) else fstK (fun k => gm (753 * J + 1 + 6 * k)) w m (k + 1))) ∧ h1 = h)
    by_cases zw : gm (753 * J + 1 + 6 * k) = w
    · rw [if_pos zw]
      refine xpk_sound (stops := []) (n := 50) ?_
      simp only [sk_0, sk_1, sk_2, sk_3, sk_4, sk_5, sk_6, sk_7, sk_8, sk_iadd, sk_isub, sk_imul, sk_iand, sk_ior, sk_ixor, sk_ishl, sk_ishr, sk_iushr, sk_idiv, sk_irem, sk_ineg, sk_ladd, sk_lsub, sk_lmul, sk_land, sk_lor, sk_ldiv, sk_lrem, sk_lneg, sk_lshl, sk_lshr, sk_i2l, sk_l2i, sk_lcmp, sk_dupI, sk_dupR, sk_dup2L, sk_dup2I, sk_popI, sk_ifeq, sk_ifne, sk_iflt, sk_ifge, sk_ifgt, sk_ifle, sk_iceq, sk_icne, sk_iclt, sk_icge, sk_icgt, sk_icle, sk_goto, sk_getf, sk_putf, sk_gets, sk_iald, sk_lald, sk_bald, sk_aald, sk_iast, sk_last, sk_bast, sk_aast, sk_alen, sk_newa, sk_newt, sk_new, sk_cs1, sk_cs2, sk_cs3, sk_cs4, sk_cs5, sk_cs6, sk_cv1, sk_cv2, sk_cv3, sk_cv4, sk_cv5, sk_cv6, sk_ci1, sk_ci2, sk_ci3, sk_ret0, sk_retI, sk_retL, sk_retR, sk_sw, sk_oin, sk_max, sk_min, sk_abs, lI_0, lI_s, lL_0, lL_s, lR_0, lR_s, vIo_e, vLo_e, vOo_e, stW_I, stW_L, stW_R, stW_0, stW_z, okSt_0, okSt_s, hV_eq, hK_eq, okF_0, okF_1, okF_3, is01_0, is01_1, is01_i, Int.toNat_natCast, Int.reduceEq, Int.reduceLE, Int.reduceLT, Int.reduceNeg, Nat.reduceLT, not_true_eq_false, not_false_eq_true, reduceIte, Option.toList, List.cons_append, List.nil_append, List.set_cons_zero, List.set_cons_succ, List.not_mem_nil, List.mem_cons, if_false, if_true, ite_true, ite_false, and_self, and_true, true_and, Nat.reduceAdd, Nat.reduceLeDiff, Nat.reduceEqDiff, Nat.zero_add, Nat.le_refl, Nat.zero_le, or_false, false_or, Int.reduceToNat, or_true, true_or, eq_self, and_false, false_and, inR_d, nc_4, nc_5, nc_6, nc_7, nc_8, nc_16, nc_18, nc_20, nc_24, nc_32, nc_40, nc_64, nc_104, nc_120, nc_160, nc_256, nc_300, nc_330, nc_390, nc_1200, nc_1260, nc_3012, nc_9834, okSt_1i, okSt_1r, okSt_1n, List.length_cons, List.length_nil, xpk_succ cd_241_2, xpk_succ cd_241_3, xpk_succ cd_241_6, xpk_succ cd_241_7, xpk_succ cd_241_8, xpk_succ cd_241_11, xpk_succ cd_241_14, xpk_succ cd_241_15, xpk_succ cd_241_16, xpk_succ cd_241_17, xpk_succ cd_241_20, xpk_succ cd_241_21, xpk_succ cd_241_24, xpk_succ cd_241_27, xpk_succ cd_241_28, xpk_succ cd_241_29, xpk_succ cd_241_30, xpk_succ cd_241_31, xpk_succ cd_241_33, xpk_succ cd_241_34, xpk_succ cd_241_35, xpk_succ cd_241_36, xpk_succ cd_241_37, xpk_succ cd_241_38, xpk_succ cd_241_41, xpk_succ cd_241_42, xpk_succ cd_241_43, xpk_succ cd_241_46, xpk_succ cd_241_49, xpk_succ cd_241_50, k1, k2, k3, v0, b0, (WE_e a1), (WE_e a2), (WE_e a3), (WE_e a4), j0, z, v1, b1, (eq_true zw)]
    · rw [if_neg zw]
      have y := ih (k + 1) (by omega)
      refine xpk_sound (stops := [2]) (n := 50) ?_
      simp only [sk_0, sk_1, sk_2, sk_3, sk_4, sk_5, sk_6, sk_7, sk_8, sk_iadd, sk_isub, sk_imul, sk_iand, sk_ior, sk_ixor, sk_ishl, sk_ishr, sk_iushr, sk_idiv, sk_irem, sk_ineg, sk_ladd, sk_lsub, sk_lmul, sk_land, sk_lor, sk_ldiv, sk_lrem, sk_lneg, sk_lshl, sk_lshr, sk_i2l, sk_l2i, sk_lcmp, sk_dupI, sk_dupR, sk_dup2L, sk_dup2I, sk_popI, sk_ifeq, sk_ifne, sk_iflt, sk_ifge, sk_ifgt, sk_ifle, sk_iceq, sk_icne, sk_iclt, sk_icge, sk_icgt, sk_icle, sk_goto, sk_getf, sk_putf, sk_gets, sk_iald, sk_lald, sk_bald, sk_aald, sk_iast, sk_last, sk_bast, sk_aast, sk_alen, sk_newa, sk_newt, sk_new, sk_cs1, sk_cs2, sk_cs3, sk_cs4, sk_cs5, sk_cs6, sk_cv1, sk_cv2, sk_cv3, sk_cv4, sk_cv5, sk_cv6, sk_ci1, sk_ci2, sk_ci3, sk_ret0, sk_retI, sk_retL, sk_retR, sk_sw, sk_oin, sk_max, sk_min, sk_abs, lI_0, lI_s, lL_0, lL_s, lR_0, lR_s, vIo_e, vLo_e, vOo_e, stW_I, stW_L, stW_R, stW_0, stW_z, okSt_0, okSt_s, hV_eq, hK_eq, okF_0, okF_1, okF_3, is01_0, is01_1, is01_i, Int.toNat_natCast, Int.reduceEq, Int.reduceLE, Int.reduceLT, Int.reduceNeg, Nat.reduceLT, not_true_eq_false, not_false_eq_true, reduceIte, Option.toList, List.cons_append, List.nil_append, List.set_cons_zero, List.set_cons_succ, List.not_mem_nil, List.mem_cons, if_false, if_true, ite_true, ite_false, and_self, and_true, true_and, Nat.reduceAdd, Nat.reduceLeDiff, Nat.reduceEqDiff, Nat.zero_add, Nat.le_refl, Nat.zero_le, or_false, false_or, Int.reduceToNat, or_true, true_or, eq_self, and_false, false_and, inR_d, nc_4, nc_5, nc_6, nc_7, nc_8, nc_16, nc_18, nc_20, nc_24, nc_32, nc_40, nc_64, nc_104, nc_120, nc_160, nc_256, nc_300, nc_330, nc_390, nc_1200, nc_1260, nc_3012, nc_9834, okSt_1i, okSt_1r, okSt_1n, List.length_cons, List.length_nil, xpk_succ cd_241_2, xpk_succ cd_241_3, xpk_succ cd_241_6, xpk_succ cd_241_7, xpk_succ cd_241_8, xpk_succ cd_241_11, xpk_succ cd_241_14, xpk_succ cd_241_15, xpk_succ cd_241_16, xpk_succ cd_241_17, xpk_succ cd_241_20, xpk_succ cd_241_21, xpk_succ cd_241_24, xpk_succ cd_241_27, xpk_succ cd_241_28, xpk_succ cd_241_29, xpk_succ cd_241_30, xpk_succ cd_241_31, xpk_succ cd_241_33, xpk_succ cd_241_34, xpk_succ cd_241_35, xpk_succ cd_241_36, xpk_succ cd_241_37, xpk_succ cd_241_38, xpk_succ cd_241_41, xpk_succ cd_241_42, xpk_succ cd_241_43, xpk_succ cd_241_46, xpk_succ cd_241_49, xpk_succ cd_241_50, k1, k2, k3, v0, b0, (WE_e a1), (WE_e a2), (WE_e a3), (WE_e a4), (WE_e a5), j0, z, v1, b1, zw]
      exact y
theorem E_clo {d : Nat} {h : AH} {gm : Nat → Int} (hg : G79 h gm) {J n : Nat} (hJ : J < 4) (hn : n ≤ 24) (hc : gm (753 * J) = (n : Int)) {w : Int} (Q : Option AV → AH → Prop) : XC (d + 1) 241 [vR 76, vI (J : Int), vI w] h Q = Q (some (vI (fstK (fun k => gm (753 * J + 1 + 6 * k)) w n 0))) h := by
  refine XC_eq (Nat.le_of_ble_eq_true rfl) ?_ Q
  show XP d 241 0 [some (vR 76), some (vI (J : Int)), some (vI w), none] [] h _
  have y := co_l (d := d) hg hJ hn hc (w := w) n 0 (by omega)
  have y : XP d 241 2 [some (vR 76), some (vI (J : Int)), some (vI w), some (vI 0)] [] h (fun r1 h1 => r1 = some (vI (fstK (fun k => gm (753 * J + 1 + 6 * k)) w n 0)) ∧ h1 = h) := y
  refine xpk_sound (stops := [2]) (n := 5) ?_
  simp only [sk_0, sk_1, sk_2, sk_3, sk_4, sk_5, sk_6, sk_7, sk_8, sk_iadd, sk_isub, sk_imul, sk_iand, sk_ior, sk_ixor, sk_ishl, sk_ishr, sk_iushr, sk_idiv, sk_irem, sk_ineg, sk_ladd, sk_lsub, sk_lmul, sk_land, sk_lor, sk_ldiv, sk_lrem, sk_lneg, sk_lshl, sk_lshr, sk_i2l, sk_l2i, sk_lcmp, sk_dupI, sk_dupR, sk_dup2L, sk_dup2I, sk_popI, sk_ifeq, sk_ifne, sk_iflt, sk_ifge, sk_ifgt, sk_ifle, sk_iceq, sk_icne, sk_iclt, sk_icge, sk_icgt, sk_icle, sk_goto, sk_getf, sk_putf, sk_gets, sk_iald, sk_lald, sk_bald, sk_aald, sk_iast, sk_last, sk_bast, sk_aast, sk_alen, sk_newa, sk_newt, sk_new, sk_cs1, sk_cs2, sk_cs3, sk_cs4, sk_cs5, sk_cs6, sk_cv1, sk_cv2, sk_cv3, sk_cv4, sk_cv5, sk_cv6, sk_ci1, sk_ci2, sk_ci3, sk_ret0, sk_retI, sk_retL, sk_retR, sk_sw, sk_oin, sk_max, sk_min, sk_abs, lI_0, lI_s, lL_0, lL_s, lR_0, lR_s, vIo_e, vLo_e, vOo_e, stW_I, stW_L, stW_R, stW_0, stW_z, okSt_0, okSt_s, hV_eq, hK_eq, okF_0, okF_1, okF_3, is01_0, is01_1, is01_i, Int.toNat_natCast, Int.reduceEq, Int.reduceLE, Int.reduceLT, Int.reduceNeg, Nat.reduceLT, not_true_eq_false, not_false_eq_true, reduceIte, Option.toList, List.cons_append, List.nil_append, List.set_cons_zero, List.set_cons_succ, List.not_mem_nil, List.mem_cons, if_false, if_true, ite_true, ite_false, and_self, and_true, true_and, Nat.reduceAdd, Nat.reduceLeDiff, Nat.reduceEqDiff, Nat.zero_add, Nat.le_refl, Nat.zero_le, or_false, false_or, Int.reduceToNat, or_true, true_or, eq_self, and_false, false_and, inR_d, nc_4, nc_5, nc_6, nc_7, nc_8, nc_16, nc_18, nc_20, nc_24, nc_32, nc_40, nc_64, nc_104, nc_120, nc_160, nc_256, nc_300, nc_330, nc_390, nc_1200, nc_1260, nc_3012, nc_9834, okSt_1i, okSt_1r, okSt_1n, List.length_cons, List.length_nil, xpk_succ cd_241_0, xpk_succ cd_241_1]
  exact y
theorem E_clon {d : Nat} {h : AH} {w : Int} (Q : Option AV → AH → Prop) : XC (d + 1) 241 [vR 76, vI (-1), vI w] h Q = Q (some (vI (-1))) h := by
  refine XC_eq (Nat.le_of_ble_eq_true rfl) ?_ Q
  show XP d 241 0 [some (vR 76), some (vI (-1)), some (vI w), none] [] h _
  have z : (-1 : Int) < 0 := by decide
  refine xpk_sound (stops := []) (n := 20) ?_
  simp only [sk_0, sk_1, sk_2, sk_3, sk_4, sk_5, sk_6, sk_7, sk_8, sk_iadd, sk_isub, sk_imul, sk_iand, sk_ior, sk_ixor, sk_ishl, sk_ishr, sk_iushr, sk_idiv, sk_irem, sk_ineg, sk_ladd, sk_lsub, sk_lmul, sk_land, sk_lor, sk_ldiv, sk_lrem, sk_lneg, sk_lshl, sk_lshr, sk_i2l, sk_l2i, sk_lcmp, sk_dupI, sk_dupR, sk_dup2L, sk_dup2I, sk_popI, sk_ifeq, sk_ifne, sk_iflt, sk_ifge, sk_ifgt, sk_ifle, sk_iceq, sk_icne, sk_iclt, sk_icge, sk_icgt, sk_icle, sk_goto, sk_getf, sk_putf, sk_gets, sk_iald, sk_lald, sk_bald, sk_aald, sk_iast, sk_last, sk_bast, sk_aast, sk_alen, sk_newa, sk_newt, sk_new, sk_cs1, sk_cs2, sk_cs3, sk_cs4, sk_cs5, sk_cs6, sk_cv1, sk_cv2, sk_cv3, sk_cv4, sk_cv5, sk_cv6, sk_ci1, sk_ci2, sk_ci3, sk_ret0, sk_retI, sk_retL, sk_retR, sk_sw, sk_oin, sk_max, sk_min, sk_abs, lI_0, lI_s, lL_0, lL_s, lR_0, lR_s, vIo_e, vLo_e, vOo_e, stW_I, stW_L, stW_R, stW_0, stW_z, okSt_0, okSt_s, hV_eq, hK_eq, okF_0, okF_1, okF_3, is01_0, is01_1, is01_i, Int.toNat_natCast, Int.reduceEq, Int.reduceLE, Int.reduceLT, Int.reduceNeg, Nat.reduceLT, not_true_eq_false, not_false_eq_true, reduceIte, Option.toList, List.cons_append, List.nil_append, List.set_cons_zero, List.set_cons_succ, List.not_mem_nil, List.mem_cons, if_false, if_true, ite_true, ite_false, and_self, and_true, true_and, Nat.reduceAdd, Nat.reduceLeDiff, Nat.reduceEqDiff, Nat.zero_add, Nat.le_refl, Nat.zero_le, or_false, false_or, Int.reduceToNat, or_true, true_or, eq_self, and_false, false_and, inR_d, nc_4, nc_5, nc_6, nc_7, nc_8, nc_16, nc_18, nc_20, nc_24, nc_32, nc_40, nc_64, nc_104, nc_120, nc_160, nc_256, nc_300, nc_330, nc_390, nc_1200, nc_1260, nc_3012, nc_9834, okSt_1i, okSt_1r, okSt_1n, List.length_cons, List.length_nil, xpk_succ cd_241_0, xpk_succ cd_241_1, xpk_succ cd_241_2, xpk_succ cd_241_3, xpk_succ cd_241_6, xpk_succ cd_241_7, xpk_succ cd_241_8, xpk_succ cd_241_11, xpk_succ cd_241_14, xpk_succ cd_241_15, xpk_succ cd_241_16, xpk_succ cd_241_17, xpk_succ cd_241_20, xpk_succ cd_241_21, xpk_succ cd_241_24, xpk_succ cd_241_27, xpk_succ cd_241_28, xpk_succ cd_241_29, xpk_succ cd_241_30, xpk_succ cd_241_31, xpk_succ cd_241_33, xpk_succ cd_241_34, xpk_succ cd_241_35, xpk_succ cd_241_36, xpk_succ cd_241_37, xpk_succ cd_241_38, xpk_succ cd_241_41, xpk_succ cd_241_42, xpk_succ cd_241_43, xpk_succ cd_241_46, xpk_succ cd_241_49, xpk_succ cd_241_50, z]
/-- a law of a text: not there, or clause i -/
theorem co_T {J W : Nat} {gm : Nat → Int} {cs : List cCl} (ht : TMR J gm cs W) (hk : CSk cs) {w : Nat} (hw : w < 5) : (hasL cs (w : Int) = false ∧ fstK (fun k => gm (753 * J + 1 + 6 * k)) (w : Int) cs.length 0 = -1) ∨ (∃ (i : Nat) (cl : cCl), cs[i]? = some cl ∧ cl.1 = (w : Int) ∧ fstK (fun k => gm (753 * J + 1 + 6 * k)) (w : Int) cs.length 0 = (i : Int) ∧ i < cs.length ∧ CLM J gm i cl W) := by
  cases hl : hasL cs (w : Int) with
  | false =>
    refine Or.inl ⟨rfl, fst_n _ _ (fun i _ h2 e => ?_)⟩
    have hi : i < cs.length := by omega
    have hc : cs[i]? = some cs[i] := List.getElem?_eq_getElem hi
    have q := (ht.2 i _ hc).1
    have hm := List.mem_of_getElem? hc
    have e : gm (753 * J + 1 + 6 * i) = (w : Int) := e
    rw [q] at e
    exact hasL_f hl _ hm ((soM_5 (hk.1 _ hm).1 hw).mp e)
  | true =>
    unfold hasL at hl
    rw [List.any_eq_true] at hl
    obtain ⟨cl, hm, he⟩ := hl
    have he := of_decide_eq_true he
    obtain ⟨i, hi⟩ := List.mem_iff_getElem?.mp hm
    have hl := gq_l _ _ _ hi
    have hC := ht.2 i cl hi
    refine Or.inr ⟨i, cl, hi, he, fst_e _ _ (Nat.zero_le _) (by omega) ?_ (fun i' _ h2 e => ?_), hl, hC⟩
    · show gm (753 * J + 1 + 6 * i) = (w : Int)
      rw [hC.1]; exact (soM_5 (hk.1 _ hm).1 hw).mpr he
    · have hi' : i' < cs.length := by omega
      have hc : cs[i']? = some cs[i'] := List.getElem?_eq_getElem hi'
      have q := (ht.2 i' _ hc).1
      have hm' := List.mem_of_getElem? hc
      have e : gm (753 * J + 1 + 6 * i') = (w : Int) := e
      rw [q] at e
      have e2 := (soM_5 (hk.1 _ hm').1 hw).mp e
      have := hk.2 i i' cl cs[i'] hi hc (by omega) (by rw [he, e2])
      omega
