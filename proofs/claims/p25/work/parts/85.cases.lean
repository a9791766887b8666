/-! what a call's answer may be: nothing is asked of it -/
set_option maxHeartbeats 2000000 in
theorem lcs_0 {β L k : Nat} {xs : Nat → Int} {h : AH} {Q : Option AV → AH → Prop} (hx : ∀ i, -2147483648 ≤ xs i ∧ xs i ≤ 2147483647) (hk : 6 * k + 6 ≤ L) (hl : L ≤ 3072) (hb : β + 24 ≤ 20000) (hL : LI β L xs h) (nx : ∀ h', LI (β + 24) L xs h' → XP 1000 321 1540 [some (vR 1000100), some (vR 0), some (vR 76), some (vI ((6 * k : Nat) : Int))] [] h' Q) : XP 1000 321 228 [some (vR 1000100), some (vR 0), some (vR 76), some (vI ((6 * k : Nat) : Int))] [] h Q := by
  obtain ⟨a1, b1⟩ := lw_j (j := 1) hk hl (by decide)
  have a1 : w32 (((6 * k : Nat) : Int) + 1) = ((6 * k + 1 : Nat) : Int) := a1
  obtain ⟨a2, b2⟩ := lw_j (j := 2) hk hl (by decide)
  have a2 : w32 (((6 * k : Nat) : Int) + 2) = ((6 * k + 2 : Nat) : Int) := a2
  obtain ⟨a3, b3⟩ := lw_j (j := 3) hk hl (by decide)
  have a3 : w32 (((6 * k : Nat) : Int) + 3) = ((6 * k + 3 : Nat) : Int) := a3
  obtain ⟨a4, b4⟩ := lw_j (j := 4) hk hl (by decide)
  have a4 : w32 (((6 * k : Nat) : Int) + 4) = ((6 * k + 4 : Nat) : Int) := a4
  obtain ⟨a5, b5⟩ := lw_j (j := 5) hk hl (by decide)
  have a5 : w32 (((6 * k : Nat) : Int) + 5) = ((6 * k + 5 : Nat) : Int) := a5
  obtain ⟨k0, k1, ks, vs⟩ := LI_s hL
  have v1 := vs (6 * k + 1)
  have v2 := vs (6 * k + 2)
  have v3 := vs (6 * k + 3)
  have v4 := vs (6 * k + 4)
  have v5 := vs (6 * k + 5)
  obtain ⟨rE1, h1, ⟨vE1, rfl, yE1, rfl, -⟩, l1, E1⟩ := LI_k (okM118 (β := β)) (by decide +kernel) (by decide +kernel) (vs := [vR 0, vI (xs (6 * k + 1)), vI (xs (6 * k + 2)), vI (xs (6 * k + 3)), vI (xs (6 * k + 4)), vI (xs (6 * k + 5))]) ⟨_, _, rfl, rfl, _, _, rfl, ⟨_, rfl, hx _⟩, _, _, rfl, ⟨_, rfl, hx _⟩, _, _, rfl, ⟨_, rfl, hx _⟩, _, _, rfl, ⟨_, rfl, hx _⟩, _, _, rfl, ⟨_, rfl, hx _⟩, rfl⟩ hL
  have E1 : ∀ Q : Option AV → AH → Prop, XC 1000 118 [vR 0, vI (xs (6 * k + 1)), vI (xs (6 * k + 2)), vI (xs (6 * k + 3)), vI (xs (6 * k + 4)), vI (xs (6 * k + 5))] h Q = Q (some (vI yE1)) h1 := E1
  obtain ⟨m0, m1, ms, ws⟩ := LI_s l1
  have w1 := ws (6 * k + 1)
  have w2 := ws (6 * k + 2)
  have w3 := ws (6 * k + 3)
  have w4 := ws (6 * k + 4)
  have w5 := ws (6 * k + 5)
  obtain ⟨rE2, h2, ⟨vE2, rfl, yE2, rfl, -⟩, l2, E2⟩ := LI_k (okM189 (β := β)) (by decide +kernel) (by decide +kernel) (vs := [vR 76, vI (xs (6 * k + 1)), vI (xs (6 * k + 2)), vI (xs (6 * k + 3)), vI (xs (6 * k + 4)), vI (xs (6 * k + 5))]) ⟨_, _, rfl, rfl, _, _, rfl, ⟨_, rfl, hx _⟩, _, _, rfl, ⟨_, rfl, hx _⟩, _, _, rfl, ⟨_, rfl, hx _⟩, _, _, rfl, ⟨_, rfl, hx _⟩, _, _, rfl, ⟨_, rfl, hx _⟩, rfl⟩ l1
  have E2 : ∀ Q : Option AV → AH → Prop, XC 1000 189 [vR 76, vI (xs (6 * k + 1)), vI (xs (6 * k + 2)), vI (xs (6 * k + 3)), vI (xs (6 * k + 4)), vI (xs (6 * k + 5))] h1 Q = Q (some (vI yE2)) h2 := E2
  have y := nx h2 (LI_m (Nat.le_add_right _ _) l2)
  refine xpk_sound (stops := [1540]) (n := 90) ?_
  simp only [sk_0, sk_1, sk_2, sk_3, sk_4, sk_5, sk_6, sk_7, sk_8, sk_iadd, sk_isub, sk_imul, sk_iand, sk_ior, sk_ixor, sk_ishl, sk_ishr, sk_iushr, sk_idiv, sk_irem, sk_ineg, sk_ladd, sk_lsub, sk_lmul, sk_land, sk_lor, sk_ldiv, sk_lrem, sk_lneg, sk_lshl, sk_lshr, sk_i2l, sk_l2i, sk_lcmp, sk_dupI, sk_dupR, sk_dup2L, sk_dup2I, sk_popI, sk_ifeq, sk_ifne, sk_iflt, sk_ifge, sk_ifgt, sk_ifle, sk_iceq, sk_icne, sk_iclt, sk_icge, sk_icgt, sk_icle, sk_goto, sk_getf, sk_putf, sk_gets, sk_iald, sk_lald, sk_bald, sk_aald, sk_iast, sk_last, sk_bast, sk_aast, sk_alen, sk_newa, sk_newt, sk_new, sk_cs1, sk_cs2, sk_cs3, sk_cs4, sk_cs5, sk_cs6, sk_cv1, sk_cv2, sk_cv3, sk_cv4, sk_cv5, sk_cv6, sk_ci1, sk_ci2, sk_ci3, sk_ret0, sk_retI, sk_retL, sk_retR, sk_sw, sk_oin, sk_max, sk_min, sk_abs, lI_0, lI_s, lL_0, lL_s, lR_0, lR_s, vIo_e, vLo_e, vOo_e, stW_I, stW_L, stW_R, stW_0, stW_z, okSt_0, okSt_s, hV_eq, hK_eq, okF_0, okF_1, okF_3, is01_0, is01_1, is01_i, Int.toNat_natCast, Int.reduceEq, Int.reduceLE, Int.reduceLT, Int.reduceNeg, Nat.reduceLT, not_true_eq_false, not_false_eq_true, reduceIte, Option.toList, List.cons_append, List.nil_append, List.set_cons_zero, List.set_cons_succ, List.not_mem_nil, List.mem_cons, if_false, if_true, ite_true, ite_false, and_self, and_true, true_and, Nat.reduceAdd, Nat.reduceLeDiff, Nat.reduceEqDiff, Nat.zero_add, Nat.le_refl, Nat.zero_le, or_false, false_or, Int.reduceToNat, or_true, true_or, eq_self, and_false, false_and, inR_d, nc_4, nc_5, nc_6, nc_7, nc_8, nc_16, nc_18, nc_20, nc_24, nc_32, nc_40, nc_64, nc_104, nc_120, nc_160, nc_256, nc_300, nc_330, nc_390, nc_1200, nc_1260, nc_3012, nc_9834, okSt_1i, okSt_1r, okSt_1n, List.length_cons, List.length_nil, sk_55, xpk_succ cd_321_228, xpk_succ cd_321_229, xpk_succ cd_321_230, xpk_succ cd_321_231, xpk_succ cd_321_232, xpk_succ cd_321_233, xpk_succ cd_321_234, xpk_succ cd_321_235, xpk_succ cd_321_236, xpk_succ cd_321_237, xpk_succ cd_321_238, xpk_succ cd_321_239, xpk_succ cd_321_240, xpk_succ cd_321_241, xpk_succ cd_321_242, xpk_succ cd_321_243, xpk_succ cd_321_244, xpk_succ cd_321_245, xpk_succ cd_321_246, xpk_succ cd_321_247, xpk_succ cd_321_248, xpk_succ cd_321_249, xpk_succ cd_321_250, xpk_succ cd_321_251, xpk_succ cd_321_252, xpk_succ cd_321_253, xpk_succ cd_321_254, xpk_succ cd_321_257, xpk_succ cd_321_258, xpk_succ cd_321_259, xpk_succ cd_321_260, xpk_succ cd_321_261, xpk_succ cd_321_262, xpk_succ cd_321_263, xpk_succ cd_321_264, xpk_succ cd_321_265, xpk_succ cd_321_266, xpk_succ cd_321_267, xpk_succ cd_321_268, xpk_succ cd_321_269, xpk_succ cd_321_270, xpk_succ cd_321_271, xpk_succ cd_321_272, xpk_succ cd_321_273, xpk_succ cd_321_274, xpk_succ cd_321_275, xpk_succ cd_321_276, xpk_succ cd_321_277, xpk_succ cd_321_278, xpk_succ cd_321_279, xpk_succ cd_321_280, xpk_succ cd_321_281, xpk_succ cd_321_282, xpk_succ cd_321_283, xpk_succ cd_321_284, xpk_succ cd_321_287, xpk_succ cd_321_288, a1, b1, a2, b2, a3, b3, a4, b4, a5, b5, v1, v2, v3, v4, v5, k0, ks, E1, m1, ms, E2, w1, w2, w3, w4, w5]
  exact y
set_option maxHeartbeats 2000000 in
theorem lcs_1 {β L k : Nat} {xs : Nat → Int} {h : AH} {Q : Option AV → AH → Prop} (hx : ∀ i, -2147483648 ≤ xs i ∧ xs i ≤ 2147483647) (hk : 6 * k + 6 ≤ L) (hl : L ≤ 3072) (hb : β + 24 ≤ 20000) (hL : LI β L xs h) (nx : ∀ h', LI (β + 24) L xs h' → XP 1000 321 1540 [some (vR 1000100), some (vR 0), some (vR 76), some (vI ((6 * k : Nat) : Int))] [] h' Q) : XP 1000 321 291 [some (vR 1000100), some (vR 0), some (vR 76), some (vI ((6 * k : Nat) : Int))] [] h Q := by
  obtain ⟨a1, b1⟩ := lw_j (j := 1) hk hl (by decide)
  have a1 : w32 (((6 * k : Nat) : Int) + 1) = ((6 * k + 1 : Nat) : Int) := a1
  obtain ⟨k0, k1, ks, vs⟩ := LI_s hL
  have v1 := vs (6 * k + 1)
  obtain ⟨rE1, h1, ⟨vE1, rfl, yE1, rfl, -⟩, l1, E1⟩ := LI_k (okM119 (β := β)) (by decide +kernel) (by decide +kernel) (vs := [vR 0, vI (xs (6 * k + 1))]) ⟨_, _, rfl, rfl, _, _, rfl, ⟨_, rfl, hx _⟩, rfl⟩ hL
  have E1 : ∀ Q : Option AV → AH → Prop, XC 1000 119 [vR 0, vI (xs (6 * k + 1))] h Q = Q (some (vI yE1)) h1 := E1
  obtain ⟨m0, m1, ms, ws⟩ := LI_s l1
  have w1 := ws (6 * k + 1)
  obtain ⟨rE2, h2, ⟨vE2, rfl, yE2, rfl, -⟩, l2, E2⟩ := LI_k (okM190 (β := β)) (by decide +kernel) (by decide +kernel) (vs := [vR 76, vI (xs (6 * k + 1))]) ⟨_, _, rfl, rfl, _, _, rfl, ⟨_, rfl, hx _⟩, rfl⟩ l1
  have E2 : ∀ Q : Option AV → AH → Prop, XC 1000 190 [vR 76, vI (xs (6 * k + 1))] h1 Q = Q (some (vI yE2)) h2 := E2
  have y := nx h2 (LI_m (Nat.le_add_right _ _) l2)
  refine xpk_sound (stops := [1540]) (n := 90) ?_
  simp only [sk_0, sk_1, sk_2, sk_3, sk_4, sk_5, sk_6, sk_7, sk_8, sk_iadd, sk_isub, sk_imul, sk_iand, sk_ior, sk_ixor, sk_ishl, sk_ishr, sk_iushr, sk_idiv, sk_irem, sk_ineg, sk_ladd, sk_lsub, sk_lmul, sk_land, sk_lor, sk_ldiv, sk_lrem, sk_lneg, sk_lshl, sk_lshr, sk_i2l, sk_l2i, sk_lcmp, sk_dupI, sk_dupR, sk_dup2L, sk_dup2I, sk_popI, sk_ifeq, sk_ifne, sk_iflt, sk_ifge, sk_ifgt, sk_ifle, sk_iceq, sk_icne, sk_iclt, sk_icge, sk_icgt, sk_icle, sk_goto, sk_getf, sk_putf, sk_gets, sk_iald, sk_lald, sk_bald, sk_aald, sk_iast, sk_last, sk_bast, sk_aast, sk_alen, sk_newa, sk_newt, sk_new, sk_cs1, sk_cs2, sk_cs3, sk_cs4, sk_cs5, sk_cs6, sk_cv1, sk_cv2, sk_cv3, sk_cv4, sk_cv5, sk_cv6, sk_ci1, sk_ci2, sk_ci3, sk_ret0, sk_retI, sk_retL, sk_retR, sk_sw, sk_oin, sk_max, sk_min, sk_abs, lI_0, lI_s, lL_0, lL_s, lR_0, lR_s, vIo_e, vLo_e, vOo_e, stW_I, stW_L, stW_R, stW_0, stW_z, okSt_0, okSt_s, hV_eq, hK_eq, okF_0, okF_1, okF_3, is01_0, is01_1, is01_i, Int.toNat_natCast, Int.reduceEq, Int.reduceLE, Int.reduceLT, Int.reduceNeg, Nat.reduceLT, not_true_eq_false, not_false_eq_true, reduceIte, Option.toList, List.cons_append, List.nil_append, List.set_cons_zero, List.set_cons_succ, List.not_mem_nil, List.mem_cons, if_false, if_true, ite_true, ite_false, and_self, and_true, true_and, Nat.reduceAdd, Nat.reduceLeDiff, Nat.reduceEqDiff, Nat.zero_add, Nat.le_refl, Nat.zero_le, or_false, false_or, Int.reduceToNat, or_true, true_or, eq_self, and_false, false_and, inR_d, nc_4, nc_5, nc_6, nc_7, nc_8, nc_16, nc_18, nc_20, nc_24, nc_32, nc_40, nc_64, nc_104, nc_120, nc_160, nc_256, nc_300, nc_330, nc_390, nc_1200, nc_1260, nc_3012, nc_9834, okSt_1i, okSt_1r, okSt_1n, List.length_cons, List.length_nil, sk_55, xpk_succ cd_321_291, xpk_succ cd_321_292, xpk_succ cd_321_293, xpk_succ cd_321_294, xpk_succ cd_321_295, xpk_succ cd_321_296, xpk_succ cd_321_297, xpk_succ cd_321_300, xpk_succ cd_321_301, xpk_succ cd_321_302, xpk_succ cd_321_303, xpk_succ cd_321_304, xpk_succ cd_321_305, xpk_succ cd_321_306, xpk_succ cd_321_307, xpk_succ cd_321_310, xpk_succ cd_321_311, a1, b1, v1, k0, ks, E1, m1, ms, E2, w1]
  exact y
set_option maxHeartbeats 2000000 in
theorem lcs_2 {β L k : Nat} {xs : Nat → Int} {h : AH} {Q : Option AV → AH → Prop} (hx : ∀ i, -2147483648 ≤ xs i ∧ xs i ≤ 2147483647) (hk : 6 * k + 6 ≤ L) (hl : L ≤ 3072) (hb : β + 24 ≤ 20000) (hL : LI β L xs h) (nx : ∀ h', LI (β + 24) L xs h' → XP 1000 321 1540 [some (vR 1000100), some (vR 0), some (vR 76), some (vI ((6 * k : Nat) : Int))] [] h' Q) : XP 1000 321 314 [some (vR 1000100), some (vR 0), some (vR 76), some (vI ((6 * k : Nat) : Int))] [] h Q := by
  obtain ⟨a1, b1⟩ := lw_j (j := 1) hk hl (by decide)
  have a1 : w32 (((6 * k : Nat) : Int) + 1) = ((6 * k + 1 : Nat) : Int) := a1
  obtain ⟨a2, b2⟩ := lw_j (j := 2) hk hl (by decide)
  have a2 : w32 (((6 * k : Nat) : Int) + 2) = ((6 * k + 2 : Nat) : Int) := a2
  obtain ⟨a3, b3⟩ := lw_j (j := 3) hk hl (by decide)
  have a3 : w32 (((6 * k : Nat) : Int) + 3) = ((6 * k + 3 : Nat) : Int) := a3
  obtain ⟨a4, b4⟩ := lw_j (j := 4) hk hl (by decide)
  have a4 : w32 (((6 * k : Nat) : Int) + 4) = ((6 * k + 4 : Nat) : Int) := a4
  obtain ⟨a5, b5⟩ := lw_j (j := 5) hk hl (by decide)
  have a5 : w32 (((6 * k : Nat) : Int) + 5) = ((6 * k + 5 : Nat) : Int) := a5
  obtain ⟨k0, k1, ks, vs⟩ := LI_s hL
  have v1 := vs (6 * k + 1)
  have v2 := vs (6 * k + 2)
  have v3 := vs (6 * k + 3)
  have v4 := vs (6 * k + 4)
  have v5 := vs (6 * k + 5)
  obtain ⟨rE1, h1, ⟨vE1, rfl, yE1, rfl, -⟩, l1, E1⟩ := LI_k (okM120 (β := β)) (by decide +kernel) (by decide +kernel) (vs := [vR 0, vI (xs (6 * k + 1)), vI (xs (6 * k + 2)), vI (xs (6 * k + 3)), vI (xs (6 * k + 4)), vI (xs (6 * k + 5))]) ⟨_, _, rfl, rfl, _, _, rfl, ⟨_, rfl, hx _⟩, _, _, rfl, ⟨_, rfl, hx _⟩, _, _, rfl, ⟨_, rfl, hx _⟩, _, _, rfl, ⟨_, rfl, hx _⟩, _, _, rfl, ⟨_, rfl, hx _⟩, rfl⟩ hL
  have E1 : ∀ Q : Option AV → AH → Prop, XC 1000 120 [vR 0, vI (xs (6 * k + 1)), vI (xs (6 * k + 2)), vI (xs (6 * k + 3)), vI (xs (6 * k + 4)), vI (xs (6 * k + 5))] h Q = Q (some (vI yE1)) h1 := E1
  obtain ⟨m0, m1, ms, ws⟩ := LI_s l1
  have w1 := ws (6 * k + 1)
  have w2 := ws (6 * k + 2)
  have w3 := ws (6 * k + 3)
  have w4 := ws (6 * k + 4)
  have w5 := ws (6 * k + 5)
  obtain ⟨rE2, h2, ⟨vE2, rfl, yE2, rfl, -⟩, l2, E2⟩ := LI_k (okM192 (β := β)) (by decide +kernel) (by decide +kernel) (vs := [vR 76, vI (xs (6 * k + 1)), vI (xs (6 * k + 2)), vI (xs (6 * k + 3)), vI (xs (6 * k + 4)), vI (xs (6 * k + 5))]) ⟨_, _, rfl, rfl, _, _, rfl, ⟨_, rfl, hx _⟩, _, _, rfl, ⟨_, rfl, hx _⟩, _, _, rfl, ⟨_, rfl, hx _⟩, _, _, rfl, ⟨_, rfl, hx _⟩, _, _, rfl, ⟨_, rfl, hx _⟩, rfl⟩ l1
  have E2 : ∀ Q : Option AV → AH → Prop, XC 1000 192 [vR 76, vI (xs (6 * k + 1)), vI (xs (6 * k + 2)), vI (xs (6 * k + 3)), vI (xs (6 * k + 4)), vI (xs (6 * k + 5))] h1 Q = Q (some (vI yE2)) h2 := E2
  have y := nx h2 (LI_m (Nat.le_add_right _ _) l2)
  refine xpk_sound (stops := [1540]) (n := 90) ?_
  simp only [sk_0, sk_1, sk_2, sk_3, sk_4, sk_5, sk_6, sk_7, sk_8, sk_iadd, sk_isub, sk_imul, sk_iand, sk_ior, sk_ixor, sk_ishl, sk_ishr, sk_iushr, sk_idiv, sk_irem, sk_ineg, sk_ladd, sk_lsub, sk_lmul, sk_land, sk_lor, sk_ldiv, sk_lrem, sk_lneg, sk_lshl, sk_lshr, sk_i2l, sk_l2i, sk_lcmp, sk_dupI, sk_dupR, sk_dup2L, sk_dup2I, sk_popI, sk_ifeq, sk_ifne, sk_iflt, sk_ifge, sk_ifgt, sk_ifle, sk_iceq, sk_icne, sk_iclt, sk_icge, sk_icgt, sk_icle, sk_goto, sk_getf, sk_putf, sk_gets, sk_iald, sk_lald, sk_bald, sk_aald, sk_iast, sk_last, sk_bast, sk_aast, sk_alen, sk_newa, sk_newt, sk_new, sk_cs1, sk_cs2, sk_cs3, sk_cs4, sk_cs5, sk_cs6, sk_cv1, sk_cv2, sk_cv3, sk_cv4, sk_cv5, sk_cv6, sk_ci1, sk_ci2, sk_ci3, sk_ret0, sk_retI, sk_retL, sk_retR, sk_sw, sk_oin, sk_max, sk_min, sk_abs, lI_0, lI_s, lL_0, lL_s, lR_0, lR_s, vIo_e, vLo_e, vOo_e, stW_I, stW_L, stW_R, stW_0, stW_z, okSt_0, okSt_s, hV_eq, hK_eq, okF_0, okF_1, okF_3, is01_0, is01_1, is01_i, Int.toNat_natCast, Int.reduceEq, Int.reduceLE, Int.reduceLT, Int.reduceNeg, Nat.reduceLT, not_true_eq_false, not_false_eq_true, reduceIte, Option.toList, List.cons_append, List.nil_append, List.set_cons_zero, List.set_cons_succ, List.not_mem_nil, List.mem_cons, if_false, if_true, ite_true, ite_false, and_self, and_true, true_and, Nat.reduceAdd, Nat.reduceLeDiff, Nat.reduceEqDiff, Nat.zero_add, Nat.le_refl, Nat.zero_le, or_false, false_or, Int.reduceToNat, or_true, true_or, eq_self, and_false, false_and, inR_d, nc_4, nc_5, nc_6, nc_7, nc_8, nc_16, nc_18, nc_20, nc_24, nc_32, nc_40, nc_64, nc_104, nc_120, nc_160, nc_256, nc_300, nc_330, nc_390, nc_1200, nc_1260, nc_3012, nc_9834, okSt_1i, okSt_1r, okSt_1n, List.length_cons, List.length_nil, sk_55, xpk_succ cd_321_314, xpk_succ cd_321_315, xpk_succ cd_321_316, xpk_succ cd_321_317, xpk_succ cd_321_318, xpk_succ cd_321_319, xpk_succ cd_321_320, xpk_succ cd_321_321, xpk_succ cd_321_322, xpk_succ cd_321_323, xpk_succ cd_321_324, xpk_succ cd_321_325, xpk_succ cd_321_326, xpk_succ cd_321_327, xpk_succ cd_321_328, xpk_succ cd_321_329, xpk_succ cd_321_330, xpk_succ cd_321_331, xpk_succ cd_321_332, xpk_succ cd_321_333, xpk_succ cd_321_334, xpk_succ cd_321_335, xpk_succ cd_321_336, xpk_succ cd_321_337, xpk_succ cd_321_338, xpk_succ cd_321_339, xpk_succ cd_321_340, xpk_succ cd_321_343, xpk_succ cd_321_344, xpk_succ cd_321_345, xpk_succ cd_321_346, xpk_succ cd_321_347, xpk_succ cd_321_348, xpk_succ cd_321_349, xpk_succ cd_321_350, xpk_succ cd_321_351, xpk_succ cd_321_352, xpk_succ cd_321_353, xpk_succ cd_321_354, xpk_succ cd_321_355, xpk_succ cd_321_356, xpk_succ cd_321_357, xpk_succ cd_321_358, xpk_succ cd_321_359, xpk_succ cd_321_360, xpk_succ cd_321_361, xpk_succ cd_321_362, xpk_succ cd_321_363, xpk_succ cd_321_364, xpk_succ cd_321_365, xpk_succ cd_321_366, xpk_succ cd_321_367, xpk_succ cd_321_368, xpk_succ cd_321_369, xpk_succ cd_321_370, xpk_succ cd_321_373, xpk_succ cd_321_374, a1, b1, a2, b2, a3, b3, a4, b4, a5, b5, v1, v2, v3, v4, v5, k0, ks, E1, m1, ms, E2, w1, w2, w3, w4, w5]
  exact y
set_option maxHeartbeats 2000000 in
theorem lcs_3 {β L k : Nat} {xs : Nat → Int} {h : AH} {Q : Option AV → AH → Prop} (hx : ∀ i, -2147483648 ≤ xs i ∧ xs i ≤ 2147483647) (hk : 6 * k + 6 ≤ L) (hl : L ≤ 3072) (hb : β + 24 ≤ 20000) (hL : LI β L xs h) (nx : ∀ h', LI (β + 24) L xs h' → XP 1000 321 1540 [some (vR 1000100), some (vR 0), some (vR 76), some (vI ((6 * k : Nat) : Int))] [] h' Q) : XP 1000 321 377 [some (vR 1000100), some (vR 0), some (vR 76), some (vI ((6 * k : Nat) : Int))] [] h Q := by
  obtain ⟨a1, b1⟩ := lw_j (j := 1) hk hl (by decide)
  have a1 : w32 (((6 * k : Nat) : Int) + 1) = ((6 * k + 1 : Nat) : Int) := a1
  obtain ⟨k0, k1, ks, vs⟩ := LI_s hL
  have v1 := vs (6 * k + 1)
  obtain ⟨rE1, h1, ⟨vE1, rfl, yE1, rfl, -⟩, l1, E1⟩ := LI_k (okM122 (β := β)) (by decide +kernel) (by decide +kernel) (vs := [vR 0, vI (xs (6 * k + 1))]) ⟨_, _, rfl, rfl, _, _, rfl, ⟨_, rfl, hx _⟩, rfl⟩ hL
  have E1 : ∀ Q : Option AV → AH → Prop, XC 1000 122 [vR 0, vI (xs (6 * k + 1))] h Q = Q (some (vI yE1)) h1 := E1
  obtain ⟨m0, m1, ms, ws⟩ := LI_s l1
  have w1 := ws (6 * k + 1)
  obtain ⟨rE2, h2, ⟨vE2, rfl, yE2, rfl, -⟩, l2, E2⟩ := LI_k (okM193 (β := β)) (by decide +kernel) (by decide +kernel) (vs := [vR 76, vI (xs (6 * k + 1))]) ⟨_, _, rfl, rfl, _, _, rfl, ⟨_, rfl, hx _⟩, rfl⟩ l1
  have E2 : ∀ Q : Option AV → AH → Prop, XC 1000 193 [vR 76, vI (xs (6 * k + 1))] h1 Q = Q (some (vI yE2)) h2 := E2
  have y := nx h2 (LI_m (Nat.le_add_right _ _) l2)
  refine xpk_sound (stops := [1540]) (n := 90) ?_
  simp only [sk_0, sk_1, sk_2, sk_3, sk_4, sk_5, sk_6, sk_7, sk_8, sk_iadd, sk_isub, sk_imul, sk_iand, sk_ior, sk_ixor, sk_ishl, sk_ishr, sk_iushr, sk_idiv, sk_irem, sk_ineg, sk_ladd, sk_lsub, sk_lmul, sk_land, sk_lor, sk_ldiv, sk_lrem, sk_lneg, sk_lshl, sk_lshr, sk_i2l, sk_l2i, sk_lcmp, sk_dupI, sk_dupR, sk_dup2L, sk_dup2I, sk_popI, sk_ifeq, sk_ifne, sk_iflt, sk_ifge, sk_ifgt, sk_ifle, sk_iceq, sk_icne, sk_iclt, sk_icge, sk_icgt, sk_icle, sk_goto, sk_getf, sk_putf, sk_gets, sk_iald, sk_lald, sk_bald, sk_aald, sk_iast, sk_last, sk_bast, sk_aast, sk_alen, sk_newa, sk_newt, sk_new, sk_cs1, sk_cs2, sk_cs3, sk_cs4, sk_cs5, sk_cs6, sk_cv1, sk_cv2, sk_cv3, sk_cv4, sk_cv5, sk_cv6, sk_ci1, sk_ci2, sk_ci3, sk_ret0, sk_retI, sk_retL, sk_retR, sk_sw, sk_oin, sk_max, sk_min, sk_abs, lI_0, lI_s, lL_0, lL_s, lR_0, lR_s, vIo_e, vLo_e, vOo_e, stW_I, stW_L, stW_R, stW_0, stW_z, okSt_0, okSt_s, hV_eq, hK_eq, okF_0, okF_1, okF_3, is01_0, is01_1, is01_i, Int.toNat_natCast, Int.reduceEq, Int.reduceLE, Int.reduceLT, Int.reduceNeg, Nat.reduceLT, not_true_eq_false, not_false_eq_true, reduceIte, Option.toList, List.cons_append, List.nil_append, List.set_cons_zero, List.set_cons_succ, List.not_mem_nil, List.mem_cons, if_false, if_true, ite_true, ite_false, and_self, and_true, true_and, Nat.reduceAdd, Nat.reduceLeDiff, Nat.reduceEqDiff, Nat.zero_add, Nat.le_refl, Nat.zero_le, or_false, false_or, Int.reduceToNat, or_true, true_or, eq_self, and_false, false_and, inR_d, nc_4, nc_5, nc_6, nc_7, nc_8, nc_16, nc_18, nc_20, nc_24, nc_32, nc_40, nc_64, nc_104, nc_120, nc_160, nc_256, nc_300, nc_330, nc_390, nc_1200, nc_1260, nc_3012, nc_9834, okSt_1i, okSt_1r, okSt_1n, List.length_cons, List.length_nil, sk_55, xpk_succ cd_321_377, xpk_succ cd_321_378, xpk_succ cd_321_379, xpk_succ cd_321_380, xpk_succ cd_321_381, xpk_succ cd_321_382, xpk_succ cd_321_383, xpk_succ cd_321_386, xpk_succ cd_321_387, xpk_succ cd_321_388, xpk_succ cd_321_389, xpk_succ cd_321_390, xpk_succ cd_321_391, xpk_succ cd_321_392, xpk_succ cd_321_393, xpk_succ cd_321_396, xpk_succ cd_321_397, a1, b1, v1, k0, ks, E1, m1, ms, E2, w1]
  exact y
set_option maxHeartbeats 2000000 in
theorem lcs_4 {β L k : Nat} {xs : Nat → Int} {h : AH} {Q : Option AV → AH → Prop} (hx : ∀ i, -2147483648 ≤ xs i ∧ xs i ≤ 2147483647) (hk : 6 * k + 6 ≤ L) (hl : L ≤ 3072) (hb : β + 24 ≤ 20000) (hL : LI β L xs h) (nx : ∀ h', LI (β + 24) L xs h' → XP 1000 321 1540 [some (vR 1000100), some (vR 0), some (vR 76), some (vI ((6 * k : Nat) : Int))] [] h' Q) : XP 1000 321 400 [some (vR 1000100), some (vR 0), some (vR 76), some (vI ((6 * k : Nat) : Int))] [] h Q := by
  obtain ⟨k0, k1, ks, vs⟩ := LI_s hL
  obtain ⟨rE1, h1, ⟨vE1, rfl, yE1, rfl, -⟩, l1, E1⟩ := LI_k (okM123 (β := β)) (by decide +kernel) (by decide +kernel) (vs := [vR 0]) ⟨_, _, rfl, rfl, rfl⟩ hL
  have E1 : ∀ Q : Option AV → AH → Prop, XC 1000 123 [vR 0] h Q = Q (some (vI yE1)) h1 := E1
  obtain ⟨m0, m1, ms, ws⟩ := LI_s l1
  obtain ⟨rE2, h2, ⟨vE2, rfl, yE2, rfl, -⟩, l2, E2⟩ := LI_k (okM232 (β := β)) (by decide +kernel) (by decide +kernel) (vs := [vR 76]) ⟨_, _, rfl, rfl, rfl⟩ l1
  have E2 : ∀ Q : Option AV → AH → Prop, XC 1000 232 [vR 76] h1 Q = Q (some (vI yE2)) h2 := E2
  have y := nx h2 (LI_m (Nat.le_add_right _ _) l2)
  refine xpk_sound (stops := [1540]) (n := 90) ?_
  simp only [sk_0, sk_1, sk_2, sk_3, sk_4, sk_5, sk_6, sk_7, sk_8, sk_iadd, sk_isub, sk_imul, sk_iand, sk_ior, sk_ixor, sk_ishl, sk_ishr, sk_iushr, sk_idiv, sk_irem, sk_ineg, sk_ladd, sk_lsub, sk_lmul, sk_land, sk_lor, sk_ldiv, sk_lrem, sk_lneg, sk_lshl, sk_lshr, sk_i2l, sk_l2i, sk_lcmp, sk_dupI, sk_dupR, sk_dup2L, sk_dup2I, sk_popI, sk_ifeq, sk_ifne, sk_iflt, sk_ifge, sk_ifgt, sk_ifle, sk_iceq, sk_icne, sk_iclt, sk_icge, sk_icgt, sk_icle, sk_goto, sk_getf, sk_putf, sk_gets, sk_iald, sk_lald, sk_bald, sk_aald, sk_iast, sk_last, sk_bast, sk_aast, sk_alen, sk_newa, sk_newt, sk_new, sk_cs1, sk_cs2, sk_cs3, sk_cs4, sk_cs5, sk_cs6, sk_cv1, sk_cv2, sk_cv3, sk_cv4, sk_cv5, sk_cv6, sk_ci1, sk_ci2, sk_ci3, sk_ret0, sk_retI, sk_retL, sk_retR, sk_sw, sk_oin, sk_max, sk_min, sk_abs, lI_0, lI_s, lL_0, lL_s, lR_0, lR_s, vIo_e, vLo_e, vOo_e, stW_I, stW_L, stW_R, stW_0, stW_z, okSt_0, okSt_s, hV_eq, hK_eq, okF_0, okF_1, okF_3, is01_0, is01_1, is01_i, Int.toNat_natCast, Int.reduceEq, Int.reduceLE, Int.reduceLT, Int.reduceNeg, Nat.reduceLT, not_true_eq_false, not_false_eq_true, reduceIte, Option.toList, List.cons_append, List.nil_append, List.set_cons_zero, List.set_cons_succ, List.not_mem_nil, List.mem_cons, if_false, if_true, ite_true, ite_false, and_self, and_true, true_and, Nat.reduceAdd, Nat.reduceLeDiff, Nat.reduceEqDiff, Nat.zero_add, Nat.le_refl, Nat.zero_le, or_false, false_or, Int.reduceToNat, or_true, true_or, eq_self, and_false, false_and, inR_d, nc_4, nc_5, nc_6, nc_7, nc_8, nc_16, nc_18, nc_20, nc_24, nc_32, nc_40, nc_64, nc_104, nc_120, nc_160, nc_256, nc_300, nc_330, nc_390, nc_1200, nc_1260, nc_3012, nc_9834, okSt_1i, okSt_1r, okSt_1n, List.length_cons, List.length_nil, sk_55, xpk_succ cd_321_400, xpk_succ cd_321_401, xpk_succ cd_321_404, xpk_succ cd_321_405, xpk_succ cd_321_406, xpk_succ cd_321_409, xpk_succ cd_321_410, k0, ks, E1, m1, ms, E2]
  exact y
set_option maxHeartbeats 2000000 in
theorem lcs_5 {β L k : Nat} {xs : Nat → Int} {h : AH} {Q : Option AV → AH → Prop} (hx : ∀ i, -2147483648 ≤ xs i ∧ xs i ≤ 2147483647) (hk : 6 * k + 6 ≤ L) (hl : L ≤ 3072) (hb : β + 24 ≤ 20000) (hL : LI β L xs h) (nx : ∀ h', LI (β + 24) L xs h' → XP 1000 321 1540 [some (vR 1000100), some (vR 0), some (vR 76), some (vI ((6 * k : Nat) : Int))] [] h' Q) : XP 1000 321 413 [some (vR 1000100), some (vR 0), some (vR 76), some (vI ((6 * k : Nat) : Int))] [] h Q := by
  obtain ⟨a1, b1⟩ := lw_j (j := 1) hk hl (by decide)
  have a1 : w32 (((6 * k : Nat) : Int) + 1) = ((6 * k + 1 : Nat) : Int) := a1
  obtain ⟨k0, k1, ks, vs⟩ := LI_s hL
  have v1 := vs (6 * k + 1)
  obtain ⟨rE1, h1, ⟨vE1, rfl, yE1, rfl, -⟩, l1, E1⟩ := LI_k (okM124 (β := β)) (by decide +kernel) (by decide +kernel) (vs := [vR 0, vI (xs (6 * k + 1))]) ⟨_, _, rfl, rfl, _, _, rfl, ⟨_, rfl, hx _⟩, rfl⟩ hL
  have E1 : ∀ Q : Option AV → AH → Prop, XC 1000 124 [vR 0, vI (xs (6 * k + 1))] h Q = Q (some (vI yE1)) h1 := E1
  obtain ⟨m0, m1, ms, ws⟩ := LI_s l1
  have w1 := ws (6 * k + 1)
  obtain ⟨rE2, h2, ⟨vE2, rfl, yE2, rfl, -⟩, l2, E2⟩ := LI_k (okM233 (β := β)) (by decide +kernel) (by decide +kernel) (vs := [vR 76, vI (xs (6 * k + 1))]) ⟨_, _, rfl, rfl, _, _, rfl, ⟨_, rfl, hx _⟩, rfl⟩ l1
  have E2 : ∀ Q : Option AV → AH → Prop, XC 1000 233 [vR 76, vI (xs (6 * k + 1))] h1 Q = Q (some (vI yE2)) h2 := E2
  have y := nx h2 (LI_m (Nat.le_add_right _ _) l2)
  refine xpk_sound (stops := [1540]) (n := 90) ?_
  simp only [sk_0, sk_1, sk_2, sk_3, sk_4, sk_5, sk_6, sk_7, sk_8, sk_iadd, sk_isub, sk_imul, sk_iand, sk_ior, sk_ixor, sk_ishl, sk_ishr, sk_iushr, sk_idiv, sk_irem, sk_ineg, sk_ladd, sk_lsub, sk_lmul, sk_land, sk_lor, sk_ldiv, sk_lrem, sk_lneg, sk_lshl, sk_lshr, sk_i2l, sk_l2i, sk_lcmp, sk_dupI, sk_dupR, sk_dup2L, sk_dup2I, sk_popI, sk_ifeq, sk_ifne, sk_iflt, sk_ifge, sk_ifgt, sk_ifle, sk_iceq, sk_icne, sk_iclt, sk_icge, sk_icgt, sk_icle, sk_goto, sk_getf, sk_putf, sk_gets, sk_iald, sk_lald, sk_bald, sk_aald, sk_iast, sk_last, sk_bast, sk_aast, sk_alen, sk_newa, sk_newt, sk_new, sk_cs1, sk_cs2, sk_cs3, sk_cs4, sk_cs5, sk_cs6, sk_cv1, sk_cv2, sk_cv3, sk_cv4, sk_cv5, sk_cv6, sk_ci1, sk_ci2, sk_ci3, sk_ret0, sk_retI, sk_retL, sk_retR, sk_sw, sk_oin, sk_max, sk_min, sk_abs, lI_0, lI_s, lL_0, lL_s, lR_0, lR_s, vIo_e, vLo_e, vOo_e, stW_I, stW_L, stW_R, stW_0, stW_z, okSt_0, okSt_s, hV_eq, hK_eq, okF_0, okF_1, okF_3, is01_0, is01_1, is01_i, Int.toNat_natCast, Int.reduceEq, Int.reduceLE, Int.reduceLT, Int.reduceNeg, Nat.reduceLT, not_true_eq_false, not_false_eq_true, reduceIte, Option.toList, List.cons_append, List.nil_append, List.set_cons_zero, List.set_cons_succ, List.not_mem_nil, List.mem_cons, if_false, if_true, ite_true, ite_false, and_self, and_true, true_and, Nat.reduceAdd, Nat.reduceLeDiff, Nat.reduceEqDiff, Nat.zero_add, Nat.le_refl, Nat.zero_le, or_false, false_or, Int.reduceToNat, or_true, true_or, eq_self, and_false, false_and, inR_d, nc_4, nc_5, nc_6, nc_7, nc_8, nc_16, nc_18, nc_20, nc_24, nc_32, nc_40, nc_64, nc_104, nc_120, nc_160, nc_256, nc_300, nc_330, nc_390, nc_1200, nc_1260, nc_3012, nc_9834, okSt_1i, okSt_1r, okSt_1n, List.length_cons, List.length_nil, sk_55, xpk_succ cd_321_413, xpk_succ cd_321_414, xpk_succ cd_321_415, xpk_succ cd_321_416, xpk_succ cd_321_417, xpk_succ cd_321_418, xpk_succ cd_321_419, xpk_succ cd_321_422, xpk_succ cd_321_423, xpk_succ cd_321_424, xpk_succ cd_321_425, xpk_succ cd_321_426, xpk_succ cd_321_427, xpk_succ cd_321_428, xpk_succ cd_321_429, xpk_succ cd_321_432, xpk_succ cd_321_433, a1, b1, v1, k0, ks, E1, m1, ms, E2, w1]
  exact y
set_option maxHeartbeats 2000000 in
theorem lcs_6 {β L k : Nat} {xs : Nat → Int} {h : AH} {Q : Option AV → AH → Prop} (hx : ∀ i, -2147483648 ≤ xs i ∧ xs i ≤ 2147483647) (hk : 6 * k + 6 ≤ L) (hl : L ≤ 3072) (hb : β + 24 ≤ 20000) (hL : LI β L xs h) (nx : ∀ h', LI (β + 24) L xs h' → XP 1000 321 1540 [some (vR 1000100), some (vR 0), some (vR 76), some (vI ((6 * k : Nat) : Int))] [] h' Q) : XP 1000 321 436 [some (vR 1000100), some (vR 0), some (vR 76), some (vI ((6 * k : Nat) : Int))] [] h Q := by
  obtain ⟨a1, b1⟩ := lw_j (j := 1) hk hl (by decide)
  have a1 : w32 (((6 * k : Nat) : Int) + 1) = ((6 * k + 1 : Nat) : Int) := a1
  obtain ⟨k0, k1, ks, vs⟩ := LI_s hL
  have v1 := vs (6 * k + 1)
  obtain ⟨rE1, h1, ⟨vE1, rfl, yE1, rfl, -⟩, l1, E1⟩ := LI_k (okM125 (β := β)) (by decide +kernel) (by decide +kernel) (vs := [vR 0, vI (xs (6 * k + 1))]) ⟨_, _, rfl, rfl, _, _, rfl, ⟨_, rfl, hx _⟩, rfl⟩ hL
  have E1 : ∀ Q : Option AV → AH → Prop, XC 1000 125 [vR 0, vI (xs (6 * k + 1))] h Q = Q (some (vI yE1)) h1 := E1
  obtain ⟨m0, m1, ms, ws⟩ := LI_s l1
  have w1 := ws (6 * k + 1)
  obtain ⟨rE2, h2, ⟨vE2, rfl, yE2, rfl, -⟩, l2, E2⟩ := LI_k (okM234 (β := β)) (by decide +kernel) (by decide +kernel) (vs := [vR 76, vI (xs (6 * k + 1))]) ⟨_, _, rfl, rfl, _, _, rfl, ⟨_, rfl, hx _⟩, rfl⟩ l1
  have E2 : ∀ Q : Option AV → AH → Prop, XC 1000 234 [vR 76, vI (xs (6 * k + 1))] h1 Q = Q (some (vI yE2)) h2 := E2
  have y := nx h2 (LI_m (Nat.le_add_right _ _) l2)
  refine xpk_sound (stops := [1540]) (n := 90) ?_
  simp only [sk_0, sk_1, sk_2, sk_3, sk_4, sk_5, sk_6, sk_7, sk_8, sk_iadd, sk_isub, sk_imul, sk_iand, sk_ior, sk_ixor, sk_ishl, sk_ishr, sk_iushr, sk_idiv, sk_irem, sk_ineg, sk_ladd, sk_lsub, sk_lmul, sk_land, sk_lor, sk_ldiv, sk_lrem, sk_lneg, sk_lshl, sk_lshr, sk_i2l, sk_l2i, sk_lcmp, sk_dupI, sk_dupR, sk_dup2L, sk_dup2I, sk_popI, sk_ifeq, sk_ifne, sk_iflt, sk_ifge, sk_ifgt, sk_ifle, sk_iceq, sk_icne, sk_iclt, sk_icge, sk_icgt, sk_icle, sk_goto, sk_getf, sk_putf, sk_gets, sk_iald, sk_lald, sk_bald, sk_aald, sk_iast, sk_last, sk_bast, sk_aast, sk_alen, sk_newa, sk_newt, sk_new, sk_cs1, sk_cs2, sk_cs3, sk_cs4, sk_cs5, sk_cs6, sk_cv1, sk_cv2, sk_cv3, sk_cv4, sk_cv5, sk_cv6, sk_ci1, sk_ci2, sk_ci3, sk_ret0, sk_retI, sk_retL, sk_retR, sk_sw, sk_oin, sk_max, sk_min, sk_abs, lI_0, lI_s, lL_0, lL_s, lR_0, lR_s, vIo_e, vLo_e, vOo_e, stW_I, stW_L, stW_R, stW_0, stW_z, okSt_0, okSt_s, hV_eq, hK_eq, okF_0, okF_1, okF_3, is01_0, is01_1, is01_i, Int.toNat_natCast, Int.reduceEq, Int.reduceLE, Int.reduceLT, Int.reduceNeg, Nat.reduceLT, not_true_eq_false, not_false_eq_true, reduceIte, Option.toList, List.cons_append, List.nil_append, List.set_cons_zero, List.set_cons_succ, List.not_mem_nil, List.mem_cons, if_false, if_true, ite_true, ite_false, and_self, and_true, true_and, Nat.reduceAdd, Nat.reduceLeDiff, Nat.reduceEqDiff, Nat.zero_add, Nat.le_refl, Nat.zero_le, or_false, false_or, Int.reduceToNat, or_true, true_or, eq_self, and_false, false_and, inR_d, nc_4, nc_5, nc_6, nc_7, nc_8, nc_16, nc_18, nc_20, nc_24, nc_32, nc_40, nc_64, nc_104, nc_120, nc_160, nc_256, nc_300, nc_330, nc_390, nc_1200, nc_1260, nc_3012, nc_9834, okSt_1i, okSt_1r, okSt_1n, List.length_cons, List.length_nil, sk_55, xpk_succ cd_321_436, xpk_succ cd_321_437, xpk_succ cd_321_438, xpk_succ cd_321_439, xpk_succ cd_321_440, xpk_succ cd_321_441, xpk_succ cd_321_442, xpk_succ cd_321_445, xpk_succ cd_321_446, xpk_succ cd_321_447, xpk_succ cd_321_448, xpk_succ cd_321_449, xpk_succ cd_321_450, xpk_succ cd_321_451, xpk_succ cd_321_452, xpk_succ cd_321_455, xpk_succ cd_321_456, a1, b1, v1, k0, ks, E1, m1, ms, E2, w1]
  exact y
set_option maxHeartbeats 2000000 in
theorem lcs_7 {β L k : Nat} {xs : Nat → Int} {h : AH} {Q : Option AV → AH → Prop} (hx : ∀ i, -2147483648 ≤ xs i ∧ xs i ≤ 2147483647) (hk : 6 * k + 6 ≤ L) (hl : L ≤ 3072) (hb : β + 24 ≤ 20000) (hL : LI β L xs h) (nx : ∀ h', LI (β + 24) L xs h' → XP 1000 321 1540 [some (vR 1000100), some (vR 0), some (vR 76), some (vI ((6 * k : Nat) : Int))] [] h' Q) : XP 1000 321 459 [some (vR 1000100), some (vR 0), some (vR 76), some (vI ((6 * k : Nat) : Int))] [] h Q := by
  obtain ⟨a1, b1⟩ := lw_j (j := 1) hk hl (by decide)
  have a1 : w32 (((6 * k : Nat) : Int) + 1) = ((6 * k + 1 : Nat) : Int) := a1
  obtain ⟨k0, k1, ks, vs⟩ := LI_s hL
  have v1 := vs (6 * k + 1)
  obtain ⟨rE1, h1, ⟨vE1, rfl, yE1, rfl, -⟩, l1, E1⟩ := LI_k (okM126 (β := β)) (by decide +kernel) (by decide +kernel) (vs := [vR 0, vI (xs (6 * k + 1))]) ⟨_, _, rfl, rfl, _, _, rfl, ⟨_, rfl, hx _⟩, rfl⟩ hL
  have E1 : ∀ Q : Option AV → AH → Prop, XC 1000 126 [vR 0, vI (xs (6 * k + 1))] h Q = Q (some (vI yE1)) h1 := E1
  obtain ⟨m0, m1, ms, ws⟩ := LI_s l1
  have w1 := ws (6 * k + 1)
  obtain ⟨rE2, h2, ⟨vE2, rfl, yE2, rfl, -⟩, l2, E2⟩ := LI_k (okM257 (β := β)) (by decide +kernel) (by decide +kernel) (vs := [vR 76, vI (xs (6 * k + 1))]) ⟨_, _, rfl, rfl, _, _, rfl, ⟨_, rfl, hx _⟩, rfl⟩ l1
  have E2 : ∀ Q : Option AV → AH → Prop, XC 1000 257 [vR 76, vI (xs (6 * k + 1))] h1 Q = Q (some (vI yE2)) h2 := E2
  have y := nx h2 (LI_m (Nat.le_add_right _ _) l2)
  refine xpk_sound (stops := [1540]) (n := 90) ?_
  simp only [sk_0, sk_1, sk_2, sk_3, sk_4, sk_5, sk_6, sk_7, sk_8, sk_iadd, sk_isub, sk_imul, sk_iand, sk_ior, sk_ixor, sk_ishl, sk_ishr, sk_iushr, sk_idiv, sk_irem, sk_ineg, sk_ladd, sk_lsub, sk_lmul, sk_land, sk_lor, sk_ldiv, sk_lrem, sk_lneg, sk_lshl, sk_lshr, sk_i2l, sk_l2i, sk_lcmp, sk_dupI, sk_dupR, sk_dup2L, sk_dup2I, sk_popI, sk_ifeq, sk_ifne, sk_iflt, sk_ifge, sk_ifgt, sk_ifle, sk_iceq, sk_icne, sk_iclt, sk_icge, sk_icgt, sk_icle, sk_goto, sk_getf, sk_putf, sk_gets, sk_iald, sk_lald, sk_bald, sk_aald, sk_iast, sk_last, sk_bast, sk_aast, sk_alen, sk_newa, sk_newt, sk_new, sk_cs1, sk_cs2, sk_cs3, sk_cs4, sk_cs5, sk_cs6, sk_cv1, sk_cv2, sk_cv3, sk_cv4, sk_cv5, sk_cv6, sk_ci1, sk_ci2, sk_ci3, sk_ret0, sk_retI, sk_retL, sk_retR, sk_sw, sk_oin, sk_max, sk_min, sk_abs, lI_0, lI_s, lL_0, lL_s, lR_0, lR_s, vIo_e, vLo_e, vOo_e, stW_I, stW_L, stW_R, stW_0, stW_z, okSt_0, okSt_s, hV_eq, hK_eq, okF_0, okF_1, okF_3, is01_0, is01_1, is01_i, Int.toNat_natCast, Int.reduceEq, Int.reduceLE, Int.reduceLT, Int.reduceNeg, Nat.reduceLT, not_true_eq_false, not_false_eq_true, reduceIte, Option.toList, List.cons_append, List.nil_append, List.set_cons_zero, List.set_cons_succ, List.not_mem_nil, List.mem_cons, if_false, if_true, ite_true, ite_false, and_self, and_true, true_and, Nat.reduceAdd, Nat.reduceLeDiff, Nat.reduceEqDiff, Nat.zero_add, Nat.le_refl, Nat.zero_le, or_false, false_or, Int.reduceToNat, or_true, true_or, eq_self, and_false, false_and, inR_d, nc_4, nc_5, nc_6, nc_7, nc_8, nc_16, nc_18, nc_20, nc_24, nc_32, nc_40, nc_64, nc_104, nc_120, nc_160, nc_256, nc_300, nc_330, nc_390, nc_1200, nc_1260, nc_3012, nc_9834, okSt_1i, okSt_1r, okSt_1n, List.length_cons, List.length_nil, sk_55, xpk_succ cd_321_459, xpk_succ cd_321_460, xpk_succ cd_321_461, xpk_succ cd_321_462, xpk_succ cd_321_463, xpk_succ cd_321_464, xpk_succ cd_321_465, xpk_succ cd_321_468, xpk_succ cd_321_469, xpk_succ cd_321_470, xpk_succ cd_321_471, xpk_succ cd_321_472, xpk_succ cd_321_473, xpk_succ cd_321_474, xpk_succ cd_321_475, xpk_succ cd_321_478, xpk_succ cd_321_479, a1, b1, v1, k0, ks, E1, m1, ms, E2, w1]
  exact y
set_option maxHeartbeats 2000000 in
theorem lcs_8 {β L k : Nat} {xs : Nat → Int} {h : AH} {Q : Option AV → AH → Prop} (hx : ∀ i, -2147483648 ≤ xs i ∧ xs i ≤ 2147483647) (hk : 6 * k + 6 ≤ L) (hl : L ≤ 3072) (hb : β + 24 ≤ 20000) (hL : LI β L xs h) (nx : ∀ h', LI (β + 24) L xs h' → XP 1000 321 1540 [some (vR 1000100), some (vR 0), some (vR 76), some (vI ((6 * k : Nat) : Int))] [] h' Q) : XP 1000 321 482 [some (vR 1000100), some (vR 0), some (vR 76), some (vI ((6 * k : Nat) : Int))] [] h Q := by
  obtain ⟨a1, b1⟩ := lw_j (j := 1) hk hl (by decide)
  have a1 : w32 (((6 * k : Nat) : Int) + 1) = ((6 * k + 1 : Nat) : Int) := a1
  obtain ⟨k0, k1, ks, vs⟩ := LI_s hL
  have v1 := vs (6 * k + 1)
  obtain ⟨rE1, h1, ⟨vE1, rfl, yE1, rfl, -⟩, l1, E1⟩ := LI_k (okM127 (β := β)) (by decide +kernel) (by decide +kernel) (vs := [vR 0, vI (xs (6 * k + 1))]) ⟨_, _, rfl, rfl, _, _, rfl, ⟨_, rfl, hx _⟩, rfl⟩ hL
  have E1 : ∀ Q : Option AV → AH → Prop, XC 1000 127 [vR 0, vI (xs (6 * k + 1))] h Q = Q (some (vI yE1)) h1 := E1
  obtain ⟨m0, m1, ms, ws⟩ := LI_s l1
  have w1 := ws (6 * k + 1)
  obtain ⟨rE2, h2, ⟨vE2, rfl, yE2, rfl, -⟩, l2, E2⟩ := LI_k (okM259 (β := β)) (by decide +kernel) (by decide +kernel) (vs := [vR 76, vI (xs (6 * k + 1))]) ⟨_, _, rfl, rfl, _, _, rfl, ⟨_, rfl, hx _⟩, rfl⟩ l1
  have E2 : ∀ Q : Option AV → AH → Prop, XC 1000 259 [vR 76, vI (xs (6 * k + 1))] h1 Q = Q (some (vI yE2)) h2 := E2
  have y := nx h2 (LI_m (Nat.le_add_right _ _) l2)
  refine xpk_sound (stops := [1540]) (n := 90) ?_
  simp only [sk_0, sk_1, sk_2, sk_3, sk_4, sk_5, sk_6, sk_7, sk_8, sk_iadd, sk_isub, sk_imul, sk_iand, sk_ior, sk_ixor, sk_ishl, sk_ishr, sk_iushr, sk_idiv, sk_irem, sk_ineg, sk_ladd, sk_lsub, sk_lmul, sk_land, sk_lor, sk_ldiv, sk_lrem, sk_lneg, sk_lshl, sk_lshr, sk_i2l, sk_l2i, sk_lcmp, sk_dupI, sk_dupR, sk_dup2L, sk_dup2I, sk_popI, sk_ifeq, sk_ifne, sk_iflt, sk_ifge, sk_ifgt, sk_ifle, sk_iceq, sk_icne, sk_iclt, sk_icge, sk_icgt, sk_icle, sk_goto, sk_getf, sk_putf, sk_gets, sk_iald, sk_lald, sk_bald, sk_aald, sk_iast, sk_last, sk_bast, sk_aast, sk_alen, sk_newa, sk_newt, sk_new, sk_cs1, sk_cs2, sk_cs3, sk_cs4, sk_cs5, sk_cs6, sk_cv1, sk_cv2, sk_cv3, sk_cv4, sk_cv5, sk_cv6, sk_ci1, sk_ci2, sk_ci3, sk_ret0, sk_retI, sk_retL, sk_retR, sk_sw, sk_oin, sk_max, sk_min, sk_abs, lI_0, lI_s, lL_0, lL_s, lR_0, lR_s, vIo_e, vLo_e, vOo_e, stW_I, stW_L, stW_R, stW_0, stW_z, okSt_0, okSt_s, hV_eq, hK_eq, okF_0, okF_1, okF_3, is01_0, is01_1, is01_i, Int.toNat_natCast, Int.reduceEq, Int.reduceLE, Int.reduceLT, Int.reduceNeg, Nat.reduceLT, not_true_eq_false, not_false_eq_true, reduceIte, Option.toList, List.cons_append, List.nil_append, List.set_cons_zero, List.set_cons_succ, List.not_mem_nil, List.mem_cons, if_false, if_true, ite_true, ite_false, and_self, and_true, true_and, Nat.reduceAdd, Nat.reduceLeDiff, Nat.reduceEqDiff, Nat.zero_add, Nat.le_refl, Nat.zero_le, or_false, false_or, Int.reduceToNat, or_true, true_or, eq_self, and_false, false_and, inR_d, nc_4, nc_5, nc_6, nc_7, nc_8, nc_16, nc_18, nc_20, nc_24, nc_32, nc_40, nc_64, nc_104, nc_120, nc_160, nc_256, nc_300, nc_330, nc_390, nc_1200, nc_1260, nc_3012, nc_9834, okSt_1i, okSt_1r, okSt_1n, List.length_cons, List.length_nil, sk_55, xpk_succ cd_321_482, xpk_succ cd_321_483, xpk_succ cd_321_484, xpk_succ cd_321_485, xpk_succ cd_321_486, xpk_succ cd_321_487, xpk_succ cd_321_488, xpk_succ cd_321_491, xpk_succ cd_321_492, xpk_succ cd_321_493, xpk_succ cd_321_494, xpk_succ cd_321_495, xpk_succ cd_321_496, xpk_succ cd_321_497, xpk_succ cd_321_498, xpk_succ cd_321_501, xpk_succ cd_321_502, a1, b1, v1, k0, ks, E1, m1, ms, E2, w1]
  exact y
set_option maxHeartbeats 2000000 in
theorem lcs_9 {β L k : Nat} {xs : Nat → Int} {h : AH} {Q : Option AV → AH → Prop} (hx : ∀ i, -2147483648 ≤ xs i ∧ xs i ≤ 2147483647) (hk : 6 * k + 6 ≤ L) (hl : L ≤ 3072) (hb : β + 24 ≤ 20000) (hL : LI β L xs h) (nx : ∀ h', LI (β + 24) L xs h' → XP 1000 321 1540 [some (vR 1000100), some (vR 0), some (vR 76), some (vI ((6 * k : Nat) : Int))] [] h' Q) : XP 1000 321 505 [some (vR 1000100), some (vR 0), some (vR 76), some (vI ((6 * k : Nat) : Int))] [] h Q := by
  obtain ⟨a1, b1⟩ := lw_j (j := 1) hk hl (by decide)
  have a1 : w32 (((6 * k : Nat) : Int) + 1) = ((6 * k + 1 : Nat) : Int) := a1
  obtain ⟨k0, k1, ks, vs⟩ := LI_s hL
  have v1 := vs (6 * k + 1)
  obtain ⟨rE1, h1, ⟨vE1, rfl, yE1, rfl, -⟩, l1, E1⟩ := LI_k (okM130 (β := β)) (by decide +kernel) (by decide +kernel) (vs := [vR 0, vI (xs (6 * k + 1))]) ⟨_, _, rfl, rfl, _, _, rfl, ⟨_, rfl, hx _⟩, rfl⟩ hL
  have E1 : ∀ Q : Option AV → AH → Prop, XC 1000 130 [vR 0, vI (xs (6 * k + 1))] h Q = Q (some (vI yE1)) h1 := E1
  obtain ⟨m0, m1, ms, ws⟩ := LI_s l1
  have w1 := ws (6 * k + 1)
  obtain ⟨rE2, h2, ⟨vE2, rfl, yE2, rfl, -⟩, l2, E2⟩ := LI_k (okM260 (β := β)) (by decide +kernel) (by decide +kernel) (vs := [vR 76, vI (xs (6 * k + 1))]) ⟨_, _, rfl, rfl, _, _, rfl, ⟨_, rfl, hx _⟩, rfl⟩ l1
  have E2 : ∀ Q : Option AV → AH → Prop, XC 1000 260 [vR 76, vI (xs (6 * k + 1))] h1 Q = Q (some (vI yE2)) h2 := E2
  have y := nx h2 (LI_m (Nat.le_add_right _ _) l2)
  refine xpk_sound (stops := [1540]) (n := 90) ?_
  simp only [sk_0, sk_1, sk_2, sk_3, sk_4, sk_5, sk_6, sk_7, sk_8, sk_iadd, sk_isub, sk_imul, sk_iand, sk_ior, sk_ixor, sk_ishl, sk_ishr, sk_iushr, sk_idiv, sk_irem, sk_ineg, sk_ladd, sk_lsub, sk_lmul, sk_land, sk_lor, sk_ldiv, sk_lrem, sk_lneg, sk_lshl, sk_lshr, sk_i2l, sk_l2i, sk_lcmp, sk_dupI, sk_dupR, sk_dup2L, sk_dup2I, sk_popI, sk_ifeq, sk_ifne, sk_iflt, sk_ifge, sk_ifgt, sk_ifle, sk_iceq, sk_icne, sk_iclt, sk_icge, sk_icgt, sk_icle, sk_goto, sk_getf, sk_putf, sk_gets, sk_iald, sk_lald, sk_bald, sk_aald, sk_iast, sk_last, sk_bast, sk_aast, sk_alen, sk_newa, sk_newt, sk_new, sk_cs1, sk_cs2, sk_cs3, sk_cs4, sk_cs5, sk_cs6, sk_cv1, sk_cv2, sk_cv3, sk_cv4, sk_cv5, sk_cv6, sk_ci1, sk_ci2, sk_ci3, sk_ret0, sk_retI, sk_retL, sk_retR, sk_sw, sk_oin, sk_max, sk_min, sk_abs, lI_0, lI_s, lL_0, lL_s, lR_0, lR_s, vIo_e, vLo_e, vOo_e, stW_I, stW_L, stW_R, stW_0, stW_z, okSt_0, okSt_s, hV_eq, hK_eq, okF_0, okF_1, okF_3, is01_0, is01_1, is01_i, Int.toNat_natCast, Int.reduceEq, Int.reduceLE, Int.reduceLT, Int.reduceNeg, Nat.reduceLT, not_true_eq_false, not_false_eq_true, reduceIte, Option.toList, List.cons_append, List.nil_append, List.set_cons_zero, List.set_cons_succ, List.not_mem_nil, List.mem_cons, if_false, if_true, ite_true, ite_false, and_self, and_true, true_and, Nat.reduceAdd, Nat.reduceLeDiff, Nat.reduceEqDiff, Nat.zero_add, Nat.le_refl, Nat.zero_le, or_false, false_or, Int.reduceToNat, or_true, true_or, eq_self, and_false, false_and, inR_d, nc_4, nc_5, nc_6, nc_7, nc_8, nc_16, nc_18, nc_20, nc_24, nc_32, nc_40, nc_64, nc_104, nc_120, nc_160, nc_256, nc_300, nc_330, nc_390, nc_1200, nc_1260, nc_3012, nc_9834, okSt_1i, okSt_1r, okSt_1n, List.length_cons, List.length_nil, sk_55, xpk_succ cd_321_505, xpk_succ cd_321_506, xpk_succ cd_321_507, xpk_succ cd_321_508, xpk_succ cd_321_509, xpk_succ cd_321_510, xpk_succ cd_321_511, xpk_succ cd_321_514, xpk_succ cd_321_515, xpk_succ cd_321_516, xpk_succ cd_321_517, xpk_succ cd_321_518, xpk_succ cd_321_519, xpk_succ cd_321_520, xpk_succ cd_321_521, xpk_succ cd_321_524, xpk_succ cd_321_525, a1, b1, v1, k0, ks, E1, m1, ms, E2, w1]
  exact y
set_option maxHeartbeats 2000000 in
theorem lcs_10 {β L k : Nat} {xs : Nat → Int} {h : AH} {Q : Option AV → AH → Prop} (hx : ∀ i, -2147483648 ≤ xs i ∧ xs i ≤ 2147483647) (hk : 6 * k + 6 ≤ L) (hl : L ≤ 3072) (hb : β + 24 ≤ 20000) (hL : LI β L xs h) (nx : ∀ h', LI (β + 24) L xs h' → XP 1000 321 1540 [some (vR 1000100), some (vR 0), some (vR 76), some (vI ((6 * k : Nat) : Int))] [] h' Q) : XP 1000 321 528 [some (vR 1000100), some (vR 0), some (vR 76), some (vI ((6 * k : Nat) : Int))] [] h Q := by
  obtain ⟨a1, b1⟩ := lw_j (j := 1) hk hl (by decide)
  have a1 : w32 (((6 * k : Nat) : Int) + 1) = ((6 * k + 1 : Nat) : Int) := a1
  obtain ⟨k0, k1, ks, vs⟩ := LI_s hL
  have v1 := vs (6 * k + 1)
  obtain ⟨rE1, h1, ⟨vE1, rfl, yE1, rfl, -⟩, l1, E1⟩ := LI_k (okM131 (β := β)) (by decide +kernel) (by decide +kernel) (vs := [vR 0, vI (xs (6 * k + 1))]) ⟨_, _, rfl, rfl, _, _, rfl, ⟨_, rfl, hx _⟩, rfl⟩ hL
  have E1 : ∀ Q : Option AV → AH → Prop, XC 1000 131 [vR 0, vI (xs (6 * k + 1))] h Q = Q (some (vI yE1)) h1 := E1
  obtain ⟨m0, m1, ms, ws⟩ := LI_s l1
  have w1 := ws (6 * k + 1)
  obtain ⟨rE2, h2, ⟨vE2, rfl, yE2, rfl, -⟩, l2, E2⟩ := LI_k (okM261 (β := β)) (by decide +kernel) (by decide +kernel) (vs := [vR 76, vI (xs (6 * k + 1))]) ⟨_, _, rfl, rfl, _, _, rfl, ⟨_, rfl, hx _⟩, rfl⟩ l1
  have E2 : ∀ Q : Option AV → AH → Prop, XC 1000 261 [vR 76, vI (xs (6 * k + 1))] h1 Q = Q (some (vI yE2)) h2 := E2
  have y := nx h2 (LI_m (Nat.le_add_right _ _) l2)
  refine xpk_sound (stops := [1540]) (n := 90) ?_
  simp only [sk_0, sk_1, sk_2, sk_3, sk_4, sk_5, sk_6, sk_7, sk_8, sk_iadd, sk_isub, sk_imul, sk_iand, sk_ior, sk_ixor, sk_ishl, sk_ishr, sk_iushr, sk_idiv, sk_irem, sk_ineg, sk_ladd, sk_lsub, sk_lmul, sk_land, sk_lor, sk_ldiv, sk_lrem, sk_lneg, sk_lshl, sk_lshr, sk_i2l, sk_l2i, sk_lcmp, sk_dupI, sk_dupR, sk_dup2L, sk_dup2I, sk_popI, sk_ifeq, sk_ifne, sk_iflt, sk_ifge, sk_ifgt, sk_ifle, sk_iceq, sk_icne, sk_iclt, sk_icge, sk_icgt, sk_icle, sk_goto, sk_getf, sk_putf, sk_gets, sk_iald, sk_lald, sk_bald, sk_aald, sk_iast, sk_last, sk_bast, sk_aast, sk_alen, sk_newa, sk_newt, sk_new, sk_cs1, sk_cs2, sk_cs3, sk_cs4, sk_cs5, sk_cs6, sk_cv1, sk_cv2, sk_cv3, sk_cv4, sk_cv5, sk_cv6, sk_ci1, sk_ci2, sk_ci3, sk_ret0, sk_retI, sk_retL, sk_retR, sk_sw, sk_oin, sk_max, sk_min, sk_abs, lI_0, lI_s, lL_0, lL_s, lR_0, lR_s, vIo_e, vLo_e, vOo_e, stW_I, stW_L, stW_R, stW_0, stW_z, okSt_0, okSt_s, hV_eq, hK_eq, okF_0, okF_1, okF_3, is01_0, is01_1, is01_i, Int.toNat_natCast, Int.reduceEq, Int.reduceLE, Int.reduceLT, Int.reduceNeg, Nat.reduceLT, not_true_eq_false, not_false_eq_true, reduceIte, Option.toList, List.cons_append, List.nil_append, List.set_cons_zero, List.set_cons_succ, List.not_mem_nil, List.mem_cons, if_false, if_true, ite_true, ite_false, and_self, and_true, true_and, Nat.reduceAdd, Nat.reduceLeDiff, Nat.reduceEqDiff, Nat.zero_add, Nat.le_refl, Nat.zero_le, or_false, false_or, Int.reduceToNat, or_true, true_or, eq_self, and_false, false_and, inR_d, nc_4, nc_5, nc_6, nc_7, nc_8, nc_16, nc_18, nc_20, nc_24, nc_32, nc_40, nc_64, nc_104, nc_120, nc_160, nc_256, nc_300, nc_330, nc_390, nc_1200, nc_1260, nc_3012, nc_9834, okSt_1i, okSt_1r, okSt_1n, List.length_cons, List.length_nil, sk_55, xpk_succ cd_321_528, xpk_succ cd_321_529, xpk_succ cd_321_530, xpk_succ cd_321_531, xpk_succ cd_321_532, xpk_succ cd_321_533, xpk_succ cd_321_534, xpk_succ cd_321_537, xpk_succ cd_321_538, xpk_succ cd_321_539, xpk_succ cd_321_540, xpk_succ cd_321_541, xpk_succ cd_321_542, xpk_succ cd_321_543, xpk_succ cd_321_544, xpk_succ cd_321_547, xpk_succ cd_321_548, a1, b1, v1, k0, ks, E1, m1, ms, E2, w1]
  exact y
set_option maxHeartbeats 2000000 in
theorem lcs_11 {β L k : Nat} {xs : Nat → Int} {h : AH} {Q : Option AV → AH → Prop} (hx : ∀ i, -2147483648 ≤ xs i ∧ xs i ≤ 2147483647) (hk : 6 * k + 6 ≤ L) (hl : L ≤ 3072) (hb : β + 24 ≤ 20000) (hL : LI β L xs h) (nx : ∀ h', LI (β + 24) L xs h' → XP 1000 321 1540 [some (vR 1000100), some (vR 0), some (vR 76), some (vI ((6 * k : Nat) : Int))] [] h' Q) : XP 1000 321 551 [some (vR 1000100), some (vR 0), some (vR 76), some (vI ((6 * k : Nat) : Int))] [] h Q := by
  obtain ⟨a1, b1⟩ := lw_j (j := 1) hk hl (by decide)
  have a1 : w32 (((6 * k : Nat) : Int) + 1) = ((6 * k + 1 : Nat) : Int) := a1
  obtain ⟨k0, k1, ks, vs⟩ := LI_s hL
  have v1 := vs (6 * k + 1)
  obtain ⟨rE1, h1, ⟨vE1, rfl, yE1, rfl, -⟩, l1, E1⟩ := LI_k (okM132 (β := β)) (by decide +kernel) (by decide +kernel) (vs := [vR 0, vI (xs (6 * k + 1))]) ⟨_, _, rfl, rfl, _, _, rfl, ⟨_, rfl, hx _⟩, rfl⟩ hL
  have E1 : ∀ Q : Option AV → AH → Prop, XC 1000 132 [vR 0, vI (xs (6 * k + 1))] h Q = Q (some (vI yE1)) h1 := E1
  obtain ⟨m0, m1, ms, ws⟩ := LI_s l1
  have w1 := ws (6 * k + 1)
  obtain ⟨rE2, h2, ⟨vE2, rfl, yE2, rfl, -⟩, l2, E2⟩ := LI_k (okM262 (β := β)) (by decide +kernel) (by decide +kernel) (vs := [vR 76, vI (xs (6 * k + 1))]) ⟨_, _, rfl, rfl, _, _, rfl, ⟨_, rfl, hx _⟩, rfl⟩ l1
  have E2 : ∀ Q : Option AV → AH → Prop, XC 1000 262 [vR 76, vI (xs (6 * k + 1))] h1 Q = Q (some (vI yE2)) h2 := E2
  have y := nx h2 (LI_m (Nat.le_add_right _ _) l2)
  refine xpk_sound (stops := [1540]) (n := 90) ?_
  simp only [sk_0, sk_1, sk_2, sk_3, sk_4, sk_5, sk_6, sk_7, sk_8, sk_iadd, sk_isub, sk_imul, sk_iand, sk_ior, sk_ixor, sk_ishl, sk_ishr, sk_iushr, sk_idiv, sk_irem, sk_ineg, sk_ladd, sk_lsub, sk_lmul, sk_land, sk_lor, sk_ldiv, sk_lrem, sk_lneg, sk_lshl, sk_lshr, sk_i2l, sk_l2i, sk_lcmp, sk_dupI, sk_dupR, sk_dup2L, sk_dup2I, sk_popI, sk_ifeq, sk_ifne, sk_iflt, sk_ifge, sk_ifgt, sk_ifle, sk_iceq, sk_icne, sk_iclt, sk_icge, sk_icgt, sk_icle, sk_goto, sk_getf, sk_putf, sk_gets, sk_iald, sk_lald, sk_bald, sk_aald, sk_iast, sk_last, sk_bast, sk_aast, sk_alen, sk_newa, sk_newt, sk_new, sk_cs1, sk_cs2, sk_cs3, sk_cs4, sk_cs5, sk_cs6, sk_cv1, sk_cv2, sk_cv3, sk_cv4, sk_cv5, sk_cv6, sk_ci1, sk_ci2, sk_ci3, sk_ret0, sk_retI, sk_retL, sk_retR, sk_sw, sk_oin, sk_max, sk_min, sk_abs, lI_0, lI_s, lL_0, lL_s, lR_0, lR_s, vIo_e, vLo_e, vOo_e, stW_I, stW_L, stW_R, stW_0, stW_z, okSt_0, okSt_s, hV_eq, hK_eq, okF_0, okF_1, okF_3, is01_0, is01_1, is01_i, Int.toNat_natCast, Int.reduceEq, Int.reduceLE, Int.reduceLT, Int.reduceNeg, Nat.reduceLT, not_true_eq_false, not_false_eq_true, reduceIte, Option.toList, List.cons_append, List.nil_append, List.set_cons_zero, List.set_cons_succ, List.not_mem_nil, List.mem_cons, if_false, if_true, ite_true, ite_false, and_self, and_true, true_and, Nat.reduceAdd, Nat.reduceLeDiff, Nat.reduceEqDiff, Nat.zero_add, Nat.le_refl, Nat.zero_le, or_false, false_or, Int.reduceToNat, or_true, true_or, eq_self, and_false, false_and, inR_d, nc_4, nc_5, nc_6, nc_7, nc_8, nc_16, nc_18, nc_20, nc_24, nc_32, nc_40, nc_64, nc_104, nc_120, nc_160, nc_256, nc_300, nc_330, nc_390, nc_1200, nc_1260, nc_3012, nc_9834, okSt_1i, okSt_1r, okSt_1n, List.length_cons, List.length_nil, sk_55, xpk_succ cd_321_551, xpk_succ cd_321_552, xpk_succ cd_321_553, xpk_succ cd_321_554, xpk_succ cd_321_555, xpk_succ cd_321_556, xpk_succ cd_321_557, xpk_succ cd_321_560, xpk_succ cd_321_561, xpk_succ cd_321_562, xpk_succ cd_321_563, xpk_succ cd_321_564, xpk_succ cd_321_565, xpk_succ cd_321_566, xpk_succ cd_321_567, xpk_succ cd_321_570, xpk_succ cd_321_571, a1, b1, v1, k0, ks, E1, m1, ms, E2, w1]
  exact y
set_option maxHeartbeats 2000000 in
theorem lcs_12 {β L k : Nat} {xs : Nat → Int} {h : AH} {Q : Option AV → AH → Prop} (hx : ∀ i, -2147483648 ≤ xs i ∧ xs i ≤ 2147483647) (hk : 6 * k + 6 ≤ L) (hl : L ≤ 3072) (hb : β + 24 ≤ 20000) (hL : LI β L xs h) (nx : ∀ h', LI (β + 24) L xs h' → XP 1000 321 1540 [some (vR 1000100), some (vR 0), some (vR 76), some (vI ((6 * k : Nat) : Int))] [] h' Q) : XP 1000 321 574 [some (vR 1000100), some (vR 0), some (vR 76), some (vI ((6 * k : Nat) : Int))] [] h Q := by
  obtain ⟨k0, k1, ks, vs⟩ := LI_s hL
  obtain ⟨rE1, h1, ⟨vE1, rfl, yE1, rfl, -⟩, l1, E1⟩ := LI_k (okM133 (β := β)) (by decide +kernel) (by decide +kernel) (vs := [vR 0]) ⟨_, _, rfl, rfl, rfl⟩ hL
  have E1 : ∀ Q : Option AV → AH → Prop, XC 1000 133 [vR 0] h Q = Q (some (vI yE1)) h1 := E1
  obtain ⟨m0, m1, ms, ws⟩ := LI_s l1
  obtain ⟨yE2, h2, l2, E2⟩ := LI_land hb l1
  have y := nx h2 l2
  refine xpk_sound (stops := [1540]) (n := 90) ?_
  simp only [sk_0, sk_1, sk_2, sk_3, sk_4, sk_5, sk_6, sk_7, sk_8, sk_iadd, sk_isub, sk_imul, sk_iand, sk_ior, sk_ixor, sk_ishl, sk_ishr, sk_iushr, sk_idiv, sk_irem, sk_ineg, sk_ladd, sk_lsub, sk_lmul, sk_land, sk_lor, sk_ldiv, sk_lrem, sk_lneg, sk_lshl, sk_lshr, sk_i2l, sk_l2i, sk_lcmp, sk_dupI, sk_dupR, sk_dup2L, sk_dup2I, sk_popI, sk_ifeq, sk_ifne, sk_iflt, sk_ifge, sk_ifgt, sk_ifle, sk_iceq, sk_icne, sk_iclt, sk_icge, sk_icgt, sk_icle, sk_goto, sk_getf, sk_putf, sk_gets, sk_iald, sk_lald, sk_bald, sk_aald, sk_iast, sk_last, sk_bast, sk_aast, sk_alen, sk_newa, sk_newt, sk_new, sk_cs1, sk_cs2, sk_cs3, sk_cs4, sk_cs5, sk_cs6, sk_cv1, sk_cv2, sk_cv3, sk_cv4, sk_cv5, sk_cv6, sk_ci1, sk_ci2, sk_ci3, sk_ret0, sk_retI, sk_retL, sk_retR, sk_sw, sk_oin, sk_max, sk_min, sk_abs, lI_0, lI_s, lL_0, lL_s, lR_0, lR_s, vIo_e, vLo_e, vOo_e, stW_I, stW_L, stW_R, stW_0, stW_z, okSt_0, okSt_s, hV_eq, hK_eq, okF_0, okF_1, okF_3, is01_0, is01_1, is01_i, Int.toNat_natCast, Int.reduceEq, Int.reduceLE, Int.reduceLT, Int.reduceNeg, Nat.reduceLT, not_true_eq_false, not_false_eq_true, reduceIte, Option.toList, List.cons_append, List.nil_append, List.set_cons_zero, List.set_cons_succ, List.not_mem_nil, List.mem_cons, if_false, if_true, ite_true, ite_false, and_self, and_true, true_and, Nat.reduceAdd, Nat.reduceLeDiff, Nat.reduceEqDiff, Nat.zero_add, Nat.le_refl, Nat.zero_le, or_false, false_or, Int.reduceToNat, or_true, true_or, eq_self, and_false, false_and, inR_d, nc_4, nc_5, nc_6, nc_7, nc_8, nc_16, nc_18, nc_20, nc_24, nc_32, nc_40, nc_64, nc_104, nc_120, nc_160, nc_256, nc_300, nc_330, nc_390, nc_1200, nc_1260, nc_3012, nc_9834, okSt_1i, okSt_1r, okSt_1n, List.length_cons, List.length_nil, sk_55, xpk_succ cd_321_574, xpk_succ cd_321_575, xpk_succ cd_321_578, xpk_succ cd_321_579, xpk_succ cd_321_580, xpk_succ cd_321_583, xpk_succ cd_321_584, k0, ks, E1, m1, ms, E2]
  exact y
set_option maxHeartbeats 2000000 in
theorem lcs_13 {β L k : Nat} {xs : Nat → Int} {h : AH} {Q : Option AV → AH → Prop} (hx : ∀ i, -2147483648 ≤ xs i ∧ xs i ≤ 2147483647) (hk : 6 * k + 6 ≤ L) (hl : L ≤ 3072) (hb : β + 24 ≤ 20000) (hL : LI β L xs h) (nx : ∀ h', LI (β + 24) L xs h' → XP 1000 321 1540 [some (vR 1000100), some (vR 0), some (vR 76), some (vI ((6 * k : Nat) : Int))] [] h' Q) : XP 1000 321 587 [some (vR 1000100), some (vR 0), some (vR 76), some (vI ((6 * k : Nat) : Int))] [] h Q := by
  obtain ⟨a1, b1⟩ := lw_j (j := 1) hk hl (by decide)
  have a1 : w32 (((6 * k : Nat) : Int) + 1) = ((6 * k + 1 : Nat) : Int) := a1
  obtain ⟨k0, k1, ks, vs⟩ := LI_s hL
  have v1 := vs (6 * k + 1)
  obtain ⟨rE1, h1, ⟨vE1, rfl, yE1, rfl, -⟩, l1, E1⟩ := LI_k (okM134 (β := β)) (by decide +kernel) (by decide +kernel) (vs := [vR 0, vI (xs (6 * k + 1))]) ⟨_, _, rfl, rfl, _, _, rfl, ⟨_, rfl, hx _⟩, rfl⟩ hL
  have E1 : ∀ Q : Option AV → AH → Prop, XC 1000 134 [vR 0, vI (xs (6 * k + 1))] h Q = Q (some (vI yE1)) h1 := E1
  obtain ⟨m0, m1, ms, ws⟩ := LI_s l1
  have w1 := ws (6 * k + 1)
  obtain ⟨yE2, h2, l2, E2⟩ := LI_pl (t := xs (6 * k + 1)) hb l1
  have y := nx h2 l2
  refine xpk_sound (stops := [1540]) (n := 90) ?_
  simp only [sk_0, sk_1, sk_2, sk_3, sk_4, sk_5, sk_6, sk_7, sk_8, sk_iadd, sk_isub, sk_imul, sk_iand, sk_ior, sk_ixor, sk_ishl, sk_ishr, sk_iushr, sk_idiv, sk_irem, sk_ineg, sk_ladd, sk_lsub, sk_lmul, sk_land, sk_lor, sk_ldiv, sk_lrem, sk_lneg, sk_lshl, sk_lshr, sk_i2l, sk_l2i, sk_lcmp, sk_dupI, sk_dupR, sk_dup2L, sk_dup2I, sk_popI, sk_ifeq, sk_ifne, sk_iflt, sk_ifge, sk_ifgt, sk_ifle, sk_iceq, sk_icne, sk_iclt, sk_icge, sk_icgt, sk_icle, sk_goto, sk_getf, sk_putf, sk_gets, sk_iald, sk_lald, sk_bald, sk_aald, sk_iast, sk_last, sk_bast, sk_aast, sk_alen, sk_newa, sk_newt, sk_new, sk_cs1, sk_cs2, sk_cs3, sk_cs4, sk_cs5, sk_cs6, sk_cv1, sk_cv2, sk_cv3, sk_cv4, sk_cv5, sk_cv6, sk_ci1, sk_ci2, sk_ci3, sk_ret0, sk_retI, sk_retL, sk_retR, sk_sw, sk_oin, sk_max, sk_min, sk_abs, lI_0, lI_s, lL_0, lL_s, lR_0, lR_s, vIo_e, vLo_e, vOo_e, stW_I, stW_L, stW_R, stW_0, stW_z, okSt_0, okSt_s, hV_eq, hK_eq, okF_0, okF_1, okF_3, is01_0, is01_1, is01_i, Int.toNat_natCast, Int.reduceEq, Int.reduceLE, Int.reduceLT, Int.reduceNeg, Nat.reduceLT, not_true_eq_false, not_false_eq_true, reduceIte, Option.toList, List.cons_append, List.nil_append, List.set_cons_zero, List.set_cons_succ, List.not_mem_nil, List.mem_cons, if_false, if_true, ite_true, ite_false, and_self, and_true, true_and, Nat.reduceAdd, Nat.reduceLeDiff, Nat.reduceEqDiff, Nat.zero_add, Nat.le_refl, Nat.zero_le, or_false, false_or, Int.reduceToNat, or_true, true_or, eq_self, and_false, false_and, inR_d, nc_4, nc_5, nc_6, nc_7, nc_8, nc_16, nc_18, nc_20, nc_24, nc_32, nc_40, nc_64, nc_104, nc_120, nc_160, nc_256, nc_300, nc_330, nc_390, nc_1200, nc_1260, nc_3012, nc_9834, okSt_1i, okSt_1r, okSt_1n, List.length_cons, List.length_nil, sk_55, xpk_succ cd_321_587, xpk_succ cd_321_588, xpk_succ cd_321_589, xpk_succ cd_321_590, xpk_succ cd_321_591, xpk_succ cd_321_592, xpk_succ cd_321_593, xpk_succ cd_321_596, xpk_succ cd_321_597, xpk_succ cd_321_598, xpk_succ cd_321_599, xpk_succ cd_321_600, xpk_succ cd_321_601, xpk_succ cd_321_602, xpk_succ cd_321_603, xpk_succ cd_321_606, xpk_succ cd_321_607, a1, b1, v1, k0, ks, E1, m1, ms, E2, w1]
  exact y
set_option maxHeartbeats 2000000 in
theorem lcs_14 {β L k : Nat} {xs : Nat → Int} {h : AH} {Q : Option AV → AH → Prop} (hx : ∀ i, -2147483648 ≤ xs i ∧ xs i ≤ 2147483647) (hk : 6 * k + 6 ≤ L) (hl : L ≤ 3072) (hb : β + 24 ≤ 20000) (hL : LI β L xs h) (nx : ∀ h', LI (β + 24) L xs h' → XP 1000 321 1540 [some (vR 1000100), some (vR 0), some (vR 76), some (vI ((6 * k : Nat) : Int))] [] h' Q) : XP 1000 321 610 [some (vR 1000100), some (vR 0), some (vR 76), some (vI ((6 * k : Nat) : Int))] [] h Q := by
  obtain ⟨a1, b1⟩ := lw_j (j := 1) hk hl (by decide)
  have a1 : w32 (((6 * k : Nat) : Int) + 1) = ((6 * k + 1 : Nat) : Int) := a1
  obtain ⟨a2, b2⟩ := lw_j (j := 2) hk hl (by decide)
  have a2 : w32 (((6 * k : Nat) : Int) + 2) = ((6 * k + 2 : Nat) : Int) := a2
  obtain ⟨k0, k1, ks, vs⟩ := LI_s hL
  have v1 := vs (6 * k + 1)
  have v2 := vs (6 * k + 2)
  obtain ⟨rE1, h1, ⟨vE1, rfl, yE1, rfl, -⟩, l1, E1⟩ := LI_k (okM136 (β := β)) (by decide +kernel) (by decide +kernel) (vs := [vR 0, vI (xs (6 * k + 1)), vI (xs (6 * k + 2))]) ⟨_, _, rfl, rfl, _, _, rfl, ⟨_, rfl, hx _⟩, _, _, rfl, ⟨_, rfl, hx _⟩, rfl⟩ hL
  have E1 : ∀ Q : Option AV → AH → Prop, XC 1000 136 [vR 0, vI (xs (6 * k + 1)), vI (xs (6 * k + 2))] h Q = Q (some (vI yE1)) h1 := E1
  obtain ⟨m0, m1, ms, ws⟩ := LI_s l1
  have w1 := ws (6 * k + 1)
  have w2 := ws (6 * k + 2)
  obtain ⟨yE2, h2, l2, E2⟩ := LI_st (hx (6 * k + 1)) (hx (6 * k + 2)) l1
  have y := nx h2 (LI_m (Nat.le_add_right _ _) l2)
  refine xpk_sound (stops := [1540]) (n := 90) ?_
  simp only [sk_0, sk_1, sk_2, sk_3, sk_4, sk_5, sk_6, sk_7, sk_8, sk_iadd, sk_isub, sk_imul, sk_iand, sk_ior, sk_ixor, sk_ishl, sk_ishr, sk_iushr, sk_idiv, sk_irem, sk_ineg, sk_ladd, sk_lsub, sk_lmul, sk_land, sk_lor, sk_ldiv, sk_lrem, sk_lneg, sk_lshl, sk_lshr, sk_i2l, sk_l2i, sk_lcmp, sk_dupI, sk_dupR, sk_dup2L, sk_dup2I, sk_popI, sk_ifeq, sk_ifne, sk_iflt, sk_ifge, sk_ifgt, sk_ifle, sk_iceq, sk_icne, sk_iclt, sk_icge, sk_icgt, sk_icle, sk_goto, sk_getf, sk_putf, sk_gets, sk_iald, sk_lald, sk_bald, sk_aald, sk_iast, sk_last, sk_bast, sk_aast, sk_alen, sk_newa, sk_newt, sk_new, sk_cs1, sk_cs2, sk_cs3, sk_cs4, sk_cs5, sk_cs6, sk_cv1, sk_cv2, sk_cv3, sk_cv4, sk_cv5, sk_cv6, sk_ci1, sk_ci2, sk_ci3, sk_ret0, sk_retI, sk_retL, sk_retR, sk_sw, sk_oin, sk_max, sk_min, sk_abs, lI_0, lI_s, lL_0, lL_s, lR_0, lR_s, vIo_e, vLo_e, vOo_e, stW_I, stW_L, stW_R, stW_0, stW_z, okSt_0, okSt_s, hV_eq, hK_eq, okF_0, okF_1, okF_3, is01_0, is01_1, is01_i, Int.toNat_natCast, Int.reduceEq, Int.reduceLE, Int.reduceLT, Int.reduceNeg, Nat.reduceLT, not_true_eq_false, not_false_eq_true, reduceIte, Option.toList, List.cons_append, List.nil_append, List.set_cons_zero, List.set_cons_succ, List.not_mem_nil, List.mem_cons, if_false, if_true, ite_true, ite_false, and_self, and_true, true_and, Nat.reduceAdd, Nat.reduceLeDiff, Nat.reduceEqDiff, Nat.zero_add, Nat.le_refl, Nat.zero_le, or_false, false_or, Int.reduceToNat, or_true, true_or, eq_self, and_false, false_and, inR_d, nc_4, nc_5, nc_6, nc_7, nc_8, nc_16, nc_18, nc_20, nc_24, nc_32, nc_40, nc_64, nc_104, nc_120, nc_160, nc_256, nc_300, nc_330, nc_390, nc_1200, nc_1260, nc_3012, nc_9834, okSt_1i, okSt_1r, okSt_1n, List.length_cons, List.length_nil, sk_55, xpk_succ cd_321_610, xpk_succ cd_321_611, xpk_succ cd_321_612, xpk_succ cd_321_613, xpk_succ cd_321_614, xpk_succ cd_321_615, xpk_succ cd_321_616, xpk_succ cd_321_617, xpk_succ cd_321_618, xpk_succ cd_321_619, xpk_succ cd_321_620, xpk_succ cd_321_621, xpk_succ cd_321_624, xpk_succ cd_321_625, xpk_succ cd_321_626, xpk_succ cd_321_627, xpk_succ cd_321_628, xpk_succ cd_321_629, xpk_succ cd_321_630, xpk_succ cd_321_631, xpk_succ cd_321_632, xpk_succ cd_321_633, xpk_succ cd_321_634, xpk_succ cd_321_635, xpk_succ cd_321_636, xpk_succ cd_321_639, xpk_succ cd_321_640, a1, b1, a2, b2, v1, v2, k0, ks, E1, m1, ms, E2, w1, w2]
  exact y
set_option maxHeartbeats 2000000 in
theorem lcs_15 {β L k : Nat} {xs : Nat → Int} {h : AH} {Q : Option AV → AH → Prop} (hx : ∀ i, -2147483648 ≤ xs i ∧ xs i ≤ 2147483647) (hk : 6 * k + 6 ≤ L) (hl : L ≤ 3072) (hb : β + 24 ≤ 20000) (hL : LI β L xs h) (nx : ∀ h', LI (β + 24) L xs h' → XP 1000 321 1540 [some (vR 1000100), some (vR 0), some (vR 76), some (vI ((6 * k : Nat) : Int))] [] h' Q) : XP 1000 321 643 [some (vR 1000100), some (vR 0), some (vR 76), some (vI ((6 * k : Nat) : Int))] [] h Q := by
  obtain ⟨k0, k1, ks, vs⟩ := LI_s hL
  obtain ⟨rE1, h1, ⟨vE1, rfl, yE1, rfl, -⟩, l1, E1⟩ := LI_k (okM137 (β := β)) (by decide +kernel) (by decide +kernel) (vs := [vR 0]) ⟨_, _, rfl, rfl, rfl⟩ hL
  have E1 : ∀ Q : Option AV → AH → Prop, XC 1000 137 [vR 0] h Q = Q (some (vI yE1)) h1 := E1
  obtain ⟨m0, m1, ms, ws⟩ := LI_s l1
  obtain ⟨rE2, h2, ⟨vE2, rfl, yE2, rfl, -⟩, l2, E2⟩ := LI_k (hok255_0 (β := β)) (by decide +kernel) (by decide +kernel) (vs := [vR 76]) ⟨_, _, rfl, rfl, rfl⟩ l1
  have E2 : ∀ Q : Option AV → AH → Prop, XC 1000 255 [vR 76] h1 Q = Q (some (vI yE2)) h2 := E2
  have y := nx h2 (LI_m (Nat.le_add_right _ _) l2)
  refine xpk_sound (stops := [1540]) (n := 90) ?_
  simp only [sk_0, sk_1, sk_2, sk_3, sk_4, sk_5, sk_6, sk_7, sk_8, sk_iadd, sk_isub, sk_imul, sk_iand, sk_ior, sk_ixor, sk_ishl, sk_ishr, sk_iushr, sk_idiv, sk_irem, sk_ineg, sk_ladd, sk_lsub, sk_lmul, sk_land, sk_lor, sk_ldiv, sk_lrem, sk_lneg, sk_lshl, sk_lshr, sk_i2l, sk_l2i, sk_lcmp, sk_dupI, sk_dupR, sk_dup2L, sk_dup2I, sk_popI, sk_ifeq, sk_ifne, sk_iflt, sk_ifge, sk_ifgt, sk_ifle, sk_iceq, sk_icne, sk_iclt, sk_icge, sk_icgt, sk_icle, sk_goto, sk_getf, sk_putf, sk_gets, sk_iald, sk_lald, sk_bald, sk_aald, sk_iast, sk_last, sk_bast, sk_aast, sk_alen, sk_newa, sk_newt, sk_new, sk_cs1, sk_cs2, sk_cs3, sk_cs4, sk_cs5, sk_cs6, sk_cv1, sk_cv2, sk_cv3, sk_cv4, sk_cv5, sk_cv6, sk_ci1, sk_ci2, sk_ci3, sk_ret0, sk_retI, sk_retL, sk_retR, sk_sw, sk_oin, sk_max, sk_min, sk_abs, lI_0, lI_s, lL_0, lL_s, lR_0, lR_s, vIo_e, vLo_e, vOo_e, stW_I, stW_L, stW_R, stW_0, stW_z, okSt_0, okSt_s, hV_eq, hK_eq, okF_0, okF_1, okF_3, is01_0, is01_1, is01_i, Int.toNat_natCast, Int.reduceEq, Int.reduceLE, Int.reduceLT, Int.reduceNeg, Nat.reduceLT, not_true_eq_false, not_false_eq_true, reduceIte, Option.toList, List.cons_append, List.nil_append, List.set_cons_zero, List.set_cons_succ, List.not_mem_nil, List.mem_cons, if_false, if_true, ite_true, ite_false, and_self, and_true, true_and, Nat.reduceAdd, Nat.reduceLeDiff, Nat.reduceEqDiff, Nat.zero_add, Nat.le_refl, Nat.zero_le, or_false, false_or, Int.reduceToNat, or_true, true_or, eq_self, and_false, false_and, inR_d, nc_4, nc_5, nc_6, nc_7, nc_8, nc_16, nc_18, nc_20, nc_24, nc_32, nc_40, nc_64, nc_104, nc_120, nc_160, nc_256, nc_300, nc_330, nc_390, nc_1200, nc_1260, nc_3012, nc_9834, okSt_1i, okSt_1r, okSt_1n, List.length_cons, List.length_nil, sk_55, xpk_succ cd_321_643, xpk_succ cd_321_644, xpk_succ cd_321_647, xpk_succ cd_321_648, xpk_succ cd_321_649, xpk_succ cd_321_652, xpk_succ cd_321_653, k0, ks, E1, m1, ms, E2]
  exact y
set_option maxHeartbeats 2000000 in
theorem lcs_16 {β L k : Nat} {xs : Nat → Int} {h : AH} {Q : Option AV → AH → Prop} (hx : ∀ i, -2147483648 ≤ xs i ∧ xs i ≤ 2147483647) (hk : 6 * k + 6 ≤ L) (hl : L ≤ 3072) (hb : β + 24 ≤ 20000) (hL : LI β L xs h) (nx : ∀ h', LI (β + 24) L xs h' → XP 1000 321 1540 [some (vR 1000100), some (vR 0), some (vR 76), some (vI ((6 * k : Nat) : Int))] [] h' Q) : XP 1000 321 656 [some (vR 1000100), some (vR 0), some (vR 76), some (vI ((6 * k : Nat) : Int))] [] h Q := by
  obtain ⟨a1, b1⟩ := lw_j (j := 1) hk hl (by decide)
  have a1 : w32 (((6 * k : Nat) : Int) + 1) = ((6 * k + 1 : Nat) : Int) := a1
  obtain ⟨k0, k1, ks, vs⟩ := LI_s hL
  have v1 := vs (6 * k + 1)
  obtain ⟨rE1, h1, ⟨vE1, rfl, yE1, rfl, -⟩, l1, E1⟩ := LI_k (okM138 (β := β)) (by decide +kernel) (by decide +kernel) (vs := [vR 0, vI (xs (6 * k + 1))]) ⟨_, _, rfl, rfl, _, _, rfl, ⟨_, rfl, hx _⟩, rfl⟩ hL
  have E1 : ∀ Q : Option AV → AH → Prop, XC 1000 138 [vR 0, vI (xs (6 * k + 1))] h Q = Q (some (vI yE1)) h1 := E1
  obtain ⟨m0, m1, ms, ws⟩ := LI_s l1
  have w1 := ws (6 * k + 1)
  obtain ⟨rE2, h2, ⟨vE2, rfl, yE2, rfl, -⟩, l2, E2⟩ := LI_k (okM267 (β := β)) (by decide +kernel) (by decide +kernel) (vs := [vR 76, vI (xs (6 * k + 1))]) ⟨_, _, rfl, rfl, _, _, rfl, ⟨_, rfl, hx _⟩, rfl⟩ l1
  have E2 : ∀ Q : Option AV → AH → Prop, XC 1000 267 [vR 76, vI (xs (6 * k + 1))] h1 Q = Q (some (vI yE2)) h2 := E2
  have y := nx h2 (LI_m (Nat.le_add_right _ _) l2)
  refine xpk_sound (stops := [1540]) (n := 90) ?_
  simp only [sk_0, sk_1, sk_2, sk_3, sk_4, sk_5, sk_6, sk_7, sk_8, sk_iadd, sk_isub, sk_imul, sk_iand, sk_ior, sk_ixor, sk_ishl, sk_ishr, sk_iushr, sk_idiv, sk_irem, sk_ineg, sk_ladd, sk_lsub, sk_lmul, sk_land, sk_lor, sk_ldiv, sk_lrem, sk_lneg, sk_lshl, sk_lshr, sk_i2l, sk_l2i, sk_lcmp, sk_dupI, sk_dupR, sk_dup2L, sk_dup2I, sk_popI, sk_ifeq, sk_ifne, sk_iflt, sk_ifge, sk_ifgt, sk_ifle, sk_iceq, sk_icne, sk_iclt, sk_icge, sk_icgt, sk_icle, sk_goto, sk_getf, sk_putf, sk_gets, sk_iald, sk_lald, sk_bald, sk_aald, sk_iast, sk_last, sk_bast, sk_aast, sk_alen, sk_newa, sk_newt, sk_new, sk_cs1, sk_cs2, sk_cs3, sk_cs4, sk_cs5, sk_cs6, sk_cv1, sk_cv2, sk_cv3, sk_cv4, sk_cv5, sk_cv6, sk_ci1, sk_ci2, sk_ci3, sk_ret0, sk_retI, sk_retL, sk_retR, sk_sw, sk_oin, sk_max, sk_min, sk_abs, lI_0, lI_s, lL_0, lL_s, lR_0, lR_s, vIo_e, vLo_e, vOo_e, stW_I, stW_L, stW_R, stW_0, stW_z, okSt_0, okSt_s, hV_eq, hK_eq, okF_0, okF_1, okF_3, is01_0, is01_1, is01_i, Int.toNat_natCast, Int.reduceEq, Int.reduceLE, Int.reduceLT, Int.reduceNeg, Nat.reduceLT, not_true_eq_false, not_false_eq_true, reduceIte, Option.toList, List.cons_append, List.nil_append, List.set_cons_zero, List.set_cons_succ, List.not_mem_nil, List.mem_cons, if_false, if_true, ite_true, ite_false, and_self, and_true, true_and, Nat.reduceAdd, Nat.reduceLeDiff, Nat.reduceEqDiff, Nat.zero_add, Nat.le_refl, Nat.zero_le, or_false, false_or, Int.reduceToNat, or_true, true_or, eq_self, and_false, false_and, inR_d, nc_4, nc_5, nc_6, nc_7, nc_8, nc_16, nc_18, nc_20, nc_24, nc_32, nc_40, nc_64, nc_104, nc_120, nc_160, nc_256, nc_300, nc_330, nc_390, nc_1200, nc_1260, nc_3012, nc_9834, okSt_1i, okSt_1r, okSt_1n, List.length_cons, List.length_nil, sk_55, xpk_succ cd_321_656, xpk_succ cd_321_657, xpk_succ cd_321_658, xpk_succ cd_321_659, xpk_succ cd_321_660, xpk_succ cd_321_661, xpk_succ cd_321_662, xpk_succ cd_321_665, xpk_succ cd_321_666, xpk_succ cd_321_667, xpk_succ cd_321_668, xpk_succ cd_321_669, xpk_succ cd_321_670, xpk_succ cd_321_671, xpk_succ cd_321_672, xpk_succ cd_321_675, xpk_succ cd_321_676, a1, b1, v1, k0, ks, E1, m1, ms, E2, w1]
  exact y
set_option maxHeartbeats 2000000 in
theorem lcs_17 {β L k : Nat} {xs : Nat → Int} {h : AH} {Q : Option AV → AH → Prop} (hx : ∀ i, -2147483648 ≤ xs i ∧ xs i ≤ 2147483647) (hk : 6 * k + 6 ≤ L) (hl : L ≤ 3072) (hb : β + 24 ≤ 20000) (hL : LI β L xs h) (nx : ∀ h', LI (β + 24) L xs h' → XP 1000 321 1540 [some (vR 1000100), some (vR 0), some (vR 76), some (vI ((6 * k : Nat) : Int))] [] h' Q) : XP 1000 321 679 [some (vR 1000100), some (vR 0), some (vR 76), some (vI ((6 * k : Nat) : Int))] [] h Q := by
  obtain ⟨a1, b1⟩ := lw_j (j := 1) hk hl (by decide)
  have a1 : w32 (((6 * k : Nat) : Int) + 1) = ((6 * k + 1 : Nat) : Int) := a1
  obtain ⟨a2, b2⟩ := lw_j (j := 2) hk hl (by decide)
  have a2 : w32 (((6 * k : Nat) : Int) + 2) = ((6 * k + 2 : Nat) : Int) := a2
  obtain ⟨k0, k1, ks, vs⟩ := LI_s hL
  have v1 := vs (6 * k + 1)
  have v2 := vs (6 * k + 2)
  obtain ⟨rE1, h1, ⟨vE1, rfl, yE1, rfl, -⟩, l1, E1⟩ := LI_k (okM139 (β := β)) (by decide +kernel) (by decide +kernel) (vs := [vR 0, vI (xs (6 * k + 1)), vI (xs (6 * k + 2))]) ⟨_, _, rfl, rfl, _, _, rfl, ⟨_, rfl, hx _⟩, _, _, rfl, ⟨_, rfl, hx _⟩, rfl⟩ hL
  have E1 : ∀ Q : Option AV → AH → Prop, XC 1000 139 [vR 0, vI (xs (6 * k + 1)), vI (xs (6 * k + 2))] h Q = Q (some (vI yE1)) h1 := E1
  obtain ⟨m0, m1, ms, ws⟩ := LI_s l1
  have w1 := ws (6 * k + 1)
  have w2 := ws (6 * k + 2)
  obtain ⟨rE2, h2, ⟨vE2, rfl, yE2, rfl, -⟩, l2, E2⟩ := LI_k (okM268 (β := β)) (by decide +kernel) (by decide +kernel) (vs := [vR 76, vI (xs (6 * k + 1)), vI (xs (6 * k + 2))]) ⟨_, _, rfl, rfl, _, _, rfl, ⟨_, rfl, hx _⟩, _, _, rfl, ⟨_, rfl, hx _⟩, rfl⟩ l1
  have E2 : ∀ Q : Option AV → AH → Prop, XC 1000 268 [vR 76, vI (xs (6 * k + 1)), vI (xs (6 * k + 2))] h1 Q = Q (some (vI yE2)) h2 := E2
  have y := nx h2 (LI_m (Nat.le_add_right _ _) l2)
  refine xpk_sound (stops := [1540]) (n := 90) ?_
  simp only [sk_0, sk_1, sk_2, sk_3, sk_4, sk_5, sk_6, sk_7, sk_8, sk_iadd, sk_isub, sk_imul, sk_iand, sk_ior, sk_ixor, sk_ishl, sk_ishr, sk_iushr, sk_idiv, sk_irem, sk_ineg, sk_ladd, sk_lsub, sk_lmul, sk_land, sk_lor, sk_ldiv, sk_lrem, sk_lneg, sk_lshl, sk_lshr, sk_i2l, sk_l2i, sk_lcmp, sk_dupI, sk_dupR, sk_dup2L, sk_dup2I, sk_popI, sk_ifeq, sk_ifne, sk_iflt, sk_ifge, sk_ifgt, sk_ifle, sk_iceq, sk_icne, sk_iclt, sk_icge, sk_icgt, sk_icle, sk_goto, sk_getf, sk_putf, sk_gets, sk_iald, sk_lald, sk_bald, sk_aald, sk_iast, sk_last, sk_bast, sk_aast, sk_alen, sk_newa, sk_newt, sk_new, sk_cs1, sk_cs2, sk_cs3, sk_cs4, sk_cs5, sk_cs6, sk_cv1, sk_cv2, sk_cv3, sk_cv4, sk_cv5, sk_cv6, sk_ci1, sk_ci2, sk_ci3, sk_ret0, sk_retI, sk_retL, sk_retR, sk_sw, sk_oin, sk_max, sk_min, sk_abs, lI_0, lI_s, lL_0, lL_s, lR_0, lR_s, vIo_e, vLo_e, vOo_e, stW_I, stW_L, stW_R, stW_0, stW_z, okSt_0, okSt_s, hV_eq, hK_eq, okF_0, okF_1, okF_3, is01_0, is01_1, is01_i, Int.toNat_natCast, Int.reduceEq, Int.reduceLE, Int.reduceLT, Int.reduceNeg, Nat.reduceLT, not_true_eq_false, not_false_eq_true, reduceIte, Option.toList, List.cons_append, List.nil_append, List.set_cons_zero, List.set_cons_succ, List.not_mem_nil, List.mem_cons, if_false, if_true, ite_true, ite_false, and_self, and_true, true_and, Nat.reduceAdd, Nat.reduceLeDiff, Nat.reduceEqDiff, Nat.zero_add, Nat.le_refl, Nat.zero_le, or_false, false_or, Int.reduceToNat, or_true, true_or, eq_self, and_false, false_and, inR_d, nc_4, nc_5, nc_6, nc_7, nc_8, nc_16, nc_18, nc_20, nc_24, nc_32, nc_40, nc_64, nc_104, nc_120, nc_160, nc_256, nc_300, nc_330, nc_390, nc_1200, nc_1260, nc_3012, nc_9834, okSt_1i, okSt_1r, okSt_1n, List.length_cons, List.length_nil, sk_55, xpk_succ cd_321_679, xpk_succ cd_321_680, xpk_succ cd_321_681, xpk_succ cd_321_682, xpk_succ cd_321_683, xpk_succ cd_321_684, xpk_succ cd_321_685, xpk_succ cd_321_686, xpk_succ cd_321_687, xpk_succ cd_321_688, xpk_succ cd_321_689, xpk_succ cd_321_690, xpk_succ cd_321_693, xpk_succ cd_321_694, xpk_succ cd_321_695, xpk_succ cd_321_696, xpk_succ cd_321_697, xpk_succ cd_321_698, xpk_succ cd_321_699, xpk_succ cd_321_700, xpk_succ cd_321_701, xpk_succ cd_321_702, xpk_succ cd_321_703, xpk_succ cd_321_704, xpk_succ cd_321_705, xpk_succ cd_321_708, xpk_succ cd_321_709, a1, b1, a2, b2, v1, v2, k0, ks, E1, m1, ms, E2, w1, w2]
  exact y
set_option maxHeartbeats 2000000 in
theorem lcs_18 {β L k : Nat} {xs : Nat → Int} {h : AH} {Q : Option AV → AH → Prop} (hx : ∀ i, -2147483648 ≤ xs i ∧ xs i ≤ 2147483647) (hk : 6 * k + 6 ≤ L) (hl : L ≤ 3072) (hb : β + 24 ≤ 20000) (hL : LI β L xs h) (nx : ∀ h', LI (β + 24) L xs h' → XP 1000 321 1540 [some (vR 1000100), some (vR 0), some (vR 76), some (vI ((6 * k : Nat) : Int))] [] h' Q) : XP 1000 321 712 [some (vR 1000100), some (vR 0), some (vR 76), some (vI ((6 * k : Nat) : Int))] [] h Q := by
  obtain ⟨a1, b1⟩ := lw_j (j := 1) hk hl (by decide)
  have a1 : w32 (((6 * k : Nat) : Int) + 1) = ((6 * k + 1 : Nat) : Int) := a1
  obtain ⟨a2, b2⟩ := lw_j (j := 2) hk hl (by decide)
  have a2 : w32 (((6 * k : Nat) : Int) + 2) = ((6 * k + 2 : Nat) : Int) := a2
  obtain ⟨k0, k1, ks, vs⟩ := LI_s hL
  have v1 := vs (6 * k + 1)
  have v2 := vs (6 * k + 2)
  obtain ⟨rE1, h1, ⟨vE1, rfl, yE1, rfl, -⟩, l1, E1⟩ := LI_k (okM141 (β := β)) (by decide +kernel) (by decide +kernel) (vs := [vR 0, vI (xs (6 * k + 1)), vI (xs (6 * k + 2))]) ⟨_, _, rfl, rfl, _, _, rfl, ⟨_, rfl, hx _⟩, _, _, rfl, ⟨_, rfl, hx _⟩, rfl⟩ hL
  have E1 : ∀ Q : Option AV → AH → Prop, XC 1000 141 [vR 0, vI (xs (6 * k + 1)), vI (xs (6 * k + 2))] h Q = Q (some (vI yE1)) h1 := E1
  obtain ⟨m0, m1, ms, ws⟩ := LI_s l1
  have w1 := ws (6 * k + 1)
  have w2 := ws (6 * k + 2)
  obtain ⟨rE2, h2, ⟨vE2, rfl, yE2, rfl, -⟩, l2, E2⟩ := LI_k (okM270 (β := β)) (by decide +kernel) (by decide +kernel) (vs := [vR 76, vI (xs (6 * k + 1)), vI (xs (6 * k + 2))]) ⟨_, _, rfl, rfl, _, _, rfl, ⟨_, rfl, hx _⟩, _, _, rfl, ⟨_, rfl, hx _⟩, rfl⟩ l1
  have E2 : ∀ Q : Option AV → AH → Prop, XC 1000 270 [vR 76, vI (xs (6 * k + 1)), vI (xs (6 * k + 2))] h1 Q = Q (some (vI yE2)) h2 := E2
  have y := nx h2 (LI_m (Nat.le_add_right _ _) l2)
  refine xpk_sound (stops := [1540]) (n := 90) ?_
  simp only [sk_0, sk_1, sk_2, sk_3, sk_4, sk_5, sk_6, sk_7, sk_8, sk_iadd, sk_isub, sk_imul, sk_iand, sk_ior, sk_ixor, sk_ishl, sk_ishr, sk_iushr, sk_idiv, sk_irem, sk_ineg, sk_ladd, sk_lsub, sk_lmul, sk_land, sk_lor, sk_ldiv, sk_lrem, sk_lneg, sk_lshl, sk_lshr, sk_i2l, sk_l2i, sk_lcmp, sk_dupI, sk_dupR, sk_dup2L, sk_dup2I, sk_popI, sk_ifeq, sk_ifne, sk_iflt, sk_ifge, sk_ifgt, sk_ifle, sk_iceq, sk_icne, sk_iclt, sk_icge, sk_icgt, sk_icle, sk_goto, sk_getf, sk_putf, sk_gets, sk_iald, sk_lald, sk_bald, sk_aald, sk_iast, sk_last, sk_bast, sk_aast, sk_alen, sk_newa, sk_newt, sk_new, sk_cs1, sk_cs2, sk_cs3, sk_cs4, sk_cs5, sk_cs6, sk_cv1, sk_cv2, sk_cv3, sk_cv4, sk_cv5, sk_cv6, sk_ci1, sk_ci2, sk_ci3, sk_ret0, sk_retI, sk_retL, sk_retR, sk_sw, sk_oin, sk_max, sk_min, sk_abs, lI_0, lI_s, lL_0, lL_s, lR_0, lR_s, vIo_e, vLo_e, vOo_e, stW_I, stW_L, stW_R, stW_0, stW_z, okSt_0, okSt_s, hV_eq, hK_eq, okF_0, okF_1, okF_3, is01_0, is01_1, is01_i, Int.toNat_natCast, Int.reduceEq, Int.reduceLE, Int.reduceLT, Int.reduceNeg, Nat.reduceLT, not_true_eq_false, not_false_eq_true, reduceIte, Option.toList, List.cons_append, List.nil_append, List.set_cons_zero, List.set_cons_succ, List.not_mem_nil, List.mem_cons, if_false, if_true, ite_true, ite_false, and_self, and_true, true_and, Nat.reduceAdd, Nat.reduceLeDiff, Nat.reduceEqDiff, Nat.zero_add, Nat.le_refl, Nat.zero_le, or_false, false_or, Int.reduceToNat, or_true, true_or, eq_self, and_false, false_and, inR_d, nc_4, nc_5, nc_6, nc_7, nc_8, nc_16, nc_18, nc_20, nc_24, nc_32, nc_40, nc_64, nc_104, nc_120, nc_160, nc_256, nc_300, nc_330, nc_390, nc_1200, nc_1260, nc_3012, nc_9834, okSt_1i, okSt_1r, okSt_1n, List.length_cons, List.length_nil, sk_55, xpk_succ cd_321_712, xpk_succ cd_321_713, xpk_succ cd_321_714, xpk_succ cd_321_715, xpk_succ cd_321_716, xpk_succ cd_321_717, xpk_succ cd_321_718, xpk_succ cd_321_719, xpk_succ cd_321_720, xpk_succ cd_321_721, xpk_succ cd_321_722, xpk_succ cd_321_723, xpk_succ cd_321_726, xpk_succ cd_321_727, xpk_succ cd_321_728, xpk_succ cd_321_729, xpk_succ cd_321_730, xpk_succ cd_321_731, xpk_succ cd_321_732, xpk_succ cd_321_733, xpk_succ cd_321_734, xpk_succ cd_321_735, xpk_succ cd_321_736, xpk_succ cd_321_737, xpk_succ cd_321_738, xpk_succ cd_321_741, xpk_succ cd_321_742, a1, b1, a2, b2, v1, v2, k0, ks, E1, m1, ms, E2, w1, w2]
  exact y
set_option maxHeartbeats 2000000 in
theorem lcs_19 {β L k : Nat} {xs : Nat → Int} {h : AH} {Q : Option AV → AH → Prop} (hx : ∀ i, -2147483648 ≤ xs i ∧ xs i ≤ 2147483647) (hk : 6 * k + 6 ≤ L) (hl : L ≤ 3072) (hb : β + 24 ≤ 20000) (hL : LI β L xs h) (nx : ∀ h', LI (β + 24) L xs h' → XP 1000 321 1540 [some (vR 1000100), some (vR 0), some (vR 76), some (vI ((6 * k : Nat) : Int))] [] h' Q) : XP 1000 321 745 [some (vR 1000100), some (vR 0), some (vR 76), some (vI ((6 * k : Nat) : Int))] [] h Q := by
  obtain ⟨a1, b1⟩ := lw_j (j := 1) hk hl (by decide)
  have a1 : w32 (((6 * k : Nat) : Int) + 1) = ((6 * k + 1 : Nat) : Int) := a1
  obtain ⟨a2, b2⟩ := lw_j (j := 2) hk hl (by decide)
  have a2 : w32 (((6 * k : Nat) : Int) + 2) = ((6 * k + 2 : Nat) : Int) := a2
  obtain ⟨a3, b3⟩ := lw_j (j := 3) hk hl (by decide)
  have a3 : w32 (((6 * k : Nat) : Int) + 3) = ((6 * k + 3 : Nat) : Int) := a3
  obtain ⟨k0, k1, ks, vs⟩ := LI_s hL
  have v1 := vs (6 * k + 1)
  have v2 := vs (6 * k + 2)
  have v3 := vs (6 * k + 3)
  by_cases zz : xs (6 * k + 2) = 0
  · obtain ⟨rE1, h1, ⟨vE1, rfl, yE1, rfl, -⟩, l1, E1⟩ := LI_k (okM142 (β := β)) (by decide +kernel) (by decide +kernel) (vs := [vR 0, vI (xs (6 * k + 1)), vI 0, vI (xs (6 * k + 3))]) ⟨_, _, rfl, rfl, _, _, rfl, ⟨_, rfl, hx _⟩, _, _, rfl, ⟨0, rfl, by decide, by decide⟩, _, _, rfl, ⟨_, rfl, hx _⟩, rfl⟩ hL
    have E1 : ∀ Q : Option AV → AH → Prop, XC 1000 142 [vR 0, vI (xs (6 * k + 1)), vI 0, vI (xs (6 * k + 3))] h Q = Q (some (vI yE1)) h1 := E1
    obtain ⟨m0, m1, ms, ws⟩ := LI_s l1
    have w1 := ws (6 * k + 1)
    have w2 := ws (6 * k + 2)
    have w3 := ws (6 * k + 3)
    obtain ⟨rE2, h2, ⟨vE2, rfl, yE2, rfl, -⟩, l2, E2⟩ := LI_k (okM273 (β := β)) (by decide +kernel) (by decide +kernel) (vs := [vR 76, vI (xs (6 * k + 1)), vI 0, vI (xs (6 * k + 3))]) ⟨_, _, rfl, rfl, _, _, rfl, ⟨_, rfl, hx _⟩, _, _, rfl, ⟨0, rfl, by decide, by decide⟩, _, _, rfl, ⟨_, rfl, hx _⟩, rfl⟩ l1
    have E2 : ∀ Q : Option AV → AH → Prop, XC 1000 273 [vR 76, vI (xs (6 * k + 1)), vI 0, vI (xs (6 * k + 3))] h1 Q = Q (some (vI yE2)) h2 := E2
    have y := nx h2 (LI_m (Nat.le_add_right _ _) l2)
    refine xpk_sound (stops := [1540]) (n := 90) ?_
    simp only [sk_0, sk_1, sk_2, sk_3, sk_4, sk_5, sk_6, sk_7, sk_8, sk_iadd, sk_isub, sk_imul, sk_iand, sk_ior, sk_ixor, sk_ishl, sk_ishr, sk_iushr, sk_idiv, sk_irem, sk_ineg, sk_ladd, sk_lsub, sk_lmul, sk_land, sk_lor, sk_ldiv, sk_lrem, sk_lneg, sk_lshl, sk_lshr, sk_i2l, sk_l2i, sk_lcmp, sk_dupI, sk_dupR, sk_dup2L, sk_dup2I, sk_popI, sk_ifeq, sk_ifne, sk_iflt, sk_ifge, sk_ifgt, sk_ifle, sk_iceq, sk_icne, sk_iclt, sk_icge, sk_icgt, sk_icle, sk_goto, sk_getf, sk_putf, sk_gets, sk_iald, sk_lald, sk_bald, sk_aald, sk_iast, sk_last, sk_bast, sk_aast, sk_alen, sk_newa, sk_newt, sk_new, sk_cs1, sk_cs2, sk_cs3, sk_cs4, sk_cs5, sk_cs6, sk_cv1, sk_cv2, sk_cv3, sk_cv4, sk_cv5, sk_cv6, sk_ci1, sk_ci2, sk_ci3, sk_ret0, sk_retI, sk_retL, sk_retR, sk_sw, sk_oin, sk_max, sk_min, sk_abs, lI_0, lI_s, lL_0, lL_s, lR_0, lR_s, vIo_e, vLo_e, vOo_e, stW_I, stW_L, stW_R, stW_0, stW_z, okSt_0, okSt_s, hV_eq, hK_eq, okF_0, okF_1, okF_3, is01_0, is01_1, is01_i, Int.toNat_natCast, Int.reduceEq, Int.reduceLE, Int.reduceLT, Int.reduceNeg, Nat.reduceLT, not_true_eq_false, not_false_eq_true, reduceIte, Option.toList, List.cons_append, List.nil_append, List.set_cons_zero, List.set_cons_succ, List.not_mem_nil, List.mem_cons, if_false, if_true, ite_true, ite_false, and_self, and_true, true_and, Nat.reduceAdd, Nat.reduceLeDiff, Nat.reduceEqDiff, Nat.zero_add, Nat.le_refl, Nat.zero_le, or_false, false_or, Int.reduceToNat, or_true, true_or, eq_self, and_false, false_and, inR_d, nc_4, nc_5, nc_6, nc_7, nc_8, nc_16, nc_18, nc_20, nc_24, nc_32, nc_40, nc_64, nc_104, nc_120, nc_160, nc_256, nc_300, nc_330, nc_390, nc_1200, nc_1260, nc_3012, nc_9834, okSt_1i, okSt_1r, okSt_1n, List.length_cons, List.length_nil, sk_55, xpk_succ cd_321_745, xpk_succ cd_321_746, xpk_succ cd_321_747, xpk_succ cd_321_748, xpk_succ cd_321_749, xpk_succ cd_321_750, xpk_succ cd_321_751, xpk_succ cd_321_752, xpk_succ cd_321_753, xpk_succ cd_321_754, xpk_succ cd_321_755, xpk_succ cd_321_756, xpk_succ cd_321_759, xpk_succ cd_321_760, xpk_succ cd_321_763, xpk_succ cd_321_764, xpk_succ cd_321_765, xpk_succ cd_321_766, xpk_succ cd_321_767, xpk_succ cd_321_768, xpk_succ cd_321_769, xpk_succ cd_321_772, xpk_succ cd_321_773, xpk_succ cd_321_774, xpk_succ cd_321_775, xpk_succ cd_321_776, xpk_succ cd_321_777, xpk_succ cd_321_778, xpk_succ cd_321_779, xpk_succ cd_321_780, xpk_succ cd_321_781, xpk_succ cd_321_782, xpk_succ cd_321_783, xpk_succ cd_321_784, xpk_succ cd_321_787, xpk_succ cd_321_788, xpk_succ cd_321_791, xpk_succ cd_321_792, xpk_succ cd_321_793, xpk_succ cd_321_794, xpk_succ cd_321_795, xpk_succ cd_321_796, xpk_succ cd_321_797, xpk_succ cd_321_800, xpk_succ cd_321_801, a1, b1, a2, b2, a3, b3, v1, v2, v3, k0, ks, E1, m1, ms, E2, w1, w2, w3, zz]
    exact y
  · obtain ⟨rE1, h1, ⟨vE1, rfl, yE1, rfl, -⟩, l1, E1⟩ := LI_k (okM142 (β := β)) (by decide +kernel) (by decide +kernel) (vs := [vR 0, vI (xs (6 * k + 1)), vI 1, vI (xs (6 * k + 3))]) ⟨_, _, rfl, rfl, _, _, rfl, ⟨_, rfl, hx _⟩, _, _, rfl, ⟨1, rfl, by decide, by decide⟩, _, _, rfl, ⟨_, rfl, hx _⟩, rfl⟩ hL
    have E1 : ∀ Q : Option AV → AH → Prop, XC 1000 142 [vR 0, vI (xs (6 * k + 1)), vI 1, vI (xs (6 * k + 3))] h Q = Q (some (vI yE1)) h1 := E1
    obtain ⟨m0, m1, ms, ws⟩ := LI_s l1
    have w1 := ws (6 * k + 1)
    have w2 := ws (6 * k + 2)
    have w3 := ws (6 * k + 3)
    obtain ⟨rE2, h2, ⟨vE2, rfl, yE2, rfl, -⟩, l2, E2⟩ := LI_k (okM273 (β := β)) (by decide +kernel) (by decide +kernel) (vs := [vR 76, vI (xs (6 * k + 1)), vI 1, vI (xs (6 * k + 3))]) ⟨_, _, rfl, rfl, _, _, rfl, ⟨_, rfl, hx _⟩, _, _, rfl, ⟨1, rfl, by decide, by decide⟩, _, _, rfl, ⟨_, rfl, hx _⟩, rfl⟩ l1
    have E2 : ∀ Q : Option AV → AH → Prop, XC 1000 273 [vR 76, vI (xs (6 * k + 1)), vI 1, vI (xs (6 * k + 3))] h1 Q = Q (some (vI yE2)) h2 := E2
    have y := nx h2 (LI_m (Nat.le_add_right _ _) l2)
    refine xpk_sound (stops := [1540]) (n := 90) ?_
    simp only [sk_0, sk_1, sk_2, sk_3, sk_4, sk_5, sk_6, sk_7, sk_8, sk_iadd, sk_isub, sk_imul, sk_iand, sk_ior, sk_ixor, sk_ishl, sk_ishr, sk_iushr, sk_idiv, sk_irem, sk_ineg, sk_ladd, sk_lsub, sk_lmul, sk_land, sk_lor, sk_ldiv, sk_lrem, sk_lneg, sk_lshl, sk_lshr, sk_i2l, sk_l2i, sk_lcmp, sk_dupI, sk_dupR, sk_dup2L, sk_dup2I, sk_popI, sk_ifeq, sk_ifne, sk_iflt, sk_ifge, sk_ifgt, sk_ifle, sk_iceq, sk_icne, sk_iclt, sk_icge, sk_icgt, sk_icle, sk_goto, sk_getf, sk_putf, sk_gets, sk_iald, sk_lald, sk_bald, sk_aald, sk_iast, sk_last, sk_bast, sk_aast, sk_alen, sk_newa, sk_newt, sk_new, sk_cs1, sk_cs2, sk_cs3, sk_cs4, sk_cs5, sk_cs6, sk_cv1, sk_cv2, sk_cv3, sk_cv4, sk_cv5, sk_cv6, sk_ci1, sk_ci2, sk_ci3, sk_ret0, sk_retI, sk_retL, sk_retR, sk_sw, sk_oin, sk_max, sk_min, sk_abs, lI_0, lI_s, lL_0, lL_s, lR_0, lR_s, vIo_e, vLo_e, vOo_e, stW_I, stW_L, stW_R, stW_0, stW_z, okSt_0, okSt_s, hV_eq, hK_eq, okF_0, okF_1, okF_3, is01_0, is01_1, is01_i, Int.toNat_natCast, Int.reduceEq, Int.reduceLE, Int.reduceLT, Int.reduceNeg, Nat.reduceLT, not_true_eq_false, not_false_eq_true, reduceIte, Option.toList, List.cons_append, List.nil_append, List.set_cons_zero, List.set_cons_succ, List.not_mem_nil, List.mem_cons, if_false, if_true, ite_true, ite_false, and_self, and_true, true_and, Nat.reduceAdd, Nat.reduceLeDiff, Nat.reduceEqDiff, Nat.zero_add, Nat.le_refl, Nat.zero_le, or_false, false_or, Int.reduceToNat, or_true, true_or, eq_self, and_false, false_and, inR_d, nc_4, nc_5, nc_6, nc_7, nc_8, nc_16, nc_18, nc_20, nc_24, nc_32, nc_40, nc_64, nc_104, nc_120, nc_160, nc_256, nc_300, nc_330, nc_390, nc_1200, nc_1260, nc_3012, nc_9834, okSt_1i, okSt_1r, okSt_1n, List.length_cons, List.length_nil, sk_55, xpk_succ cd_321_745, xpk_succ cd_321_746, xpk_succ cd_321_747, xpk_succ cd_321_748, xpk_succ cd_321_749, xpk_succ cd_321_750, xpk_succ cd_321_751, xpk_succ cd_321_752, xpk_succ cd_321_753, xpk_succ cd_321_754, xpk_succ cd_321_755, xpk_succ cd_321_756, xpk_succ cd_321_759, xpk_succ cd_321_760, xpk_succ cd_321_763, xpk_succ cd_321_764, xpk_succ cd_321_765, xpk_succ cd_321_766, xpk_succ cd_321_767, xpk_succ cd_321_768, xpk_succ cd_321_769, xpk_succ cd_321_772, xpk_succ cd_321_773, xpk_succ cd_321_774, xpk_succ cd_321_775, xpk_succ cd_321_776, xpk_succ cd_321_777, xpk_succ cd_321_778, xpk_succ cd_321_779, xpk_succ cd_321_780, xpk_succ cd_321_781, xpk_succ cd_321_782, xpk_succ cd_321_783, xpk_succ cd_321_784, xpk_succ cd_321_787, xpk_succ cd_321_788, xpk_succ cd_321_791, xpk_succ cd_321_792, xpk_succ cd_321_793, xpk_succ cd_321_794, xpk_succ cd_321_795, xpk_succ cd_321_796, xpk_succ cd_321_797, xpk_succ cd_321_800, xpk_succ cd_321_801, a1, b1, a2, b2, a3, b3, v1, v2, v3, k0, ks, E1, m1, ms, E2, w1, w2, w3, zz]
    exact y
set_option maxHeartbeats 2000000 in
theorem lcs_20 {β L k : Nat} {xs : Nat → Int} {h : AH} {Q : Option AV → AH → Prop} (hx : ∀ i, -2147483648 ≤ xs i ∧ xs i ≤ 2147483647) (hk : 6 * k + 6 ≤ L) (hl : L ≤ 3072) (hb : β + 24 ≤ 20000) (hL : LI β L xs h) (nx : ∀ h', LI (β + 24) L xs h' → XP 1000 321 1540 [some (vR 1000100), some (vR 0), some (vR 76), some (vI ((6 * k : Nat) : Int))] [] h' Q) : XP 1000 321 804 [some (vR 1000100), some (vR 0), some (vR 76), some (vI ((6 * k : Nat) : Int))] [] h Q := by
  obtain ⟨a1, b1⟩ := lw_j (j := 1) hk hl (by decide)
  have a1 : w32 (((6 * k : Nat) : Int) + 1) = ((6 * k + 1 : Nat) : Int) := a1
  obtain ⟨k0, k1, ks, vs⟩ := LI_s hL
  have v1 := vs (6 * k + 1)
  obtain ⟨rE1, h1, ⟨vE1, rfl, yE1, rfl, -⟩, l1, E1⟩ := LI_k (okM143 (β := β)) (by decide +kernel) (by decide +kernel) (vs := [vR 0, vI (xs (6 * k + 1))]) ⟨_, _, rfl, rfl, _, _, rfl, ⟨_, rfl, hx _⟩, rfl⟩ hL
  have E1 : ∀ Q : Option AV → AH → Prop, XC 1000 143 [vR 0, vI (xs (6 * k + 1))] h Q = Q (some (vI yE1)) h1 := E1
  obtain ⟨m0, m1, ms, ws⟩ := LI_s l1
  have w1 := ws (6 * k + 1)
  obtain ⟨rE2, h2, ⟨vE2, rfl, yE2, rfl, -⟩, l2, E2⟩ := LI_k (okM276 (β := β)) (by decide +kernel) (by decide +kernel) (vs := [vR 76, vI (xs (6 * k + 1))]) ⟨_, _, rfl, rfl, _, _, rfl, ⟨_, rfl, hx _⟩, rfl⟩ l1
  have E2 : ∀ Q : Option AV → AH → Prop, XC 1000 276 [vR 76, vI (xs (6 * k + 1))] h1 Q = Q (some (vI yE2)) h2 := E2
  have y := nx h2 (LI_m (Nat.le_add_right _ _) l2)
  refine xpk_sound (stops := [1540]) (n := 90) ?_
  simp only [sk_0, sk_1, sk_2, sk_3, sk_4, sk_5, sk_6, sk_7, sk_8, sk_iadd, sk_isub, sk_imul, sk_iand, sk_ior, sk_ixor, sk_ishl, sk_ishr, sk_iushr, sk_idiv, sk_irem, sk_ineg, sk_ladd, sk_lsub, sk_lmul, sk_land, sk_lor, sk_ldiv, sk_lrem, sk_lneg, sk_lshl, sk_lshr, sk_i2l, sk_l2i, sk_lcmp, sk_dupI, sk_dupR, sk_dup2L, sk_dup2I, sk_popI, sk_ifeq, sk_ifne, sk_iflt, sk_ifge, sk_ifgt, sk_ifle, sk_iceq, sk_icne, sk_iclt, sk_icge, sk_icgt, sk_icle, sk_goto, sk_getf, sk_putf, sk_gets, sk_iald, sk_lald, sk_bald, sk_aald, sk_iast, sk_last, sk_bast, sk_aast, sk_alen, sk_newa, sk_newt, sk_new, sk_cs1, sk_cs2, sk_cs3, sk_cs4, sk_cs5, sk_cs6, sk_cv1, sk_cv2, sk_cv3, sk_cv4, sk_cv5, sk_cv6, sk_ci1, sk_ci2, sk_ci3, sk_ret0, sk_retI, sk_retL, sk_retR, sk_sw, sk_oin, sk_max, sk_min, sk_abs, lI_0, lI_s, lL_0, lL_s, lR_0, lR_s, vIo_e, vLo_e, vOo_e, stW_I, stW_L, stW_R, stW_0, stW_z, okSt_0, okSt_s, hV_eq, hK_eq, okF_0, okF_1, okF_3, is01_0, is01_1, is01_i, Int.toNat_natCast, Int.reduceEq, Int.reduceLE, Int.reduceLT, Int.reduceNeg, Nat.reduceLT, not_true_eq_false, not_false_eq_true, reduceIte, Option.toList, List.cons_append, List.nil_append, List.set_cons_zero, List.set_cons_succ, List.not_mem_nil, List.mem_cons, if_false, if_true, ite_true, ite_false, and_self, and_true, true_and, Nat.reduceAdd, Nat.reduceLeDiff, Nat.reduceEqDiff, Nat.zero_add, Nat.le_refl, Nat.zero_le, or_false, false_or, Int.reduceToNat, or_true, true_or, eq_self, and_false, false_and, inR_d, nc_4, nc_5, nc_6, nc_7, nc_8, nc_16, nc_18, nc_20, nc_24, nc_32, nc_40, nc_64, nc_104, nc_120, nc_160, nc_256, nc_300, nc_330, nc_390, nc_1200, nc_1260, nc_3012, nc_9834, okSt_1i, okSt_1r, okSt_1n, List.length_cons, List.length_nil, sk_55, xpk_succ cd_321_804, xpk_succ cd_321_805, xpk_succ cd_321_806, xpk_succ cd_321_807, xpk_succ cd_321_808, xpk_succ cd_321_809, xpk_succ cd_321_810, xpk_succ cd_321_813, xpk_succ cd_321_814, xpk_succ cd_321_815, xpk_succ cd_321_816, xpk_succ cd_321_817, xpk_succ cd_321_818, xpk_succ cd_321_819, xpk_succ cd_321_820, xpk_succ cd_321_823, xpk_succ cd_321_824, a1, b1, v1, k0, ks, E1, m1, ms, E2, w1]
  exact y
set_option maxHeartbeats 2000000 in
theorem lcs_21 {β L k : Nat} {xs : Nat → Int} {h : AH} {Q : Option AV → AH → Prop} (hx : ∀ i, -2147483648 ≤ xs i ∧ xs i ≤ 2147483647) (hk : 6 * k + 6 ≤ L) (hl : L ≤ 3072) (hb : β + 24 ≤ 20000) (hL : LI β L xs h) (nx : ∀ h', LI (β + 24) L xs h' → XP 1000 321 1540 [some (vR 1000100), some (vR 0), some (vR 76), some (vI ((6 * k : Nat) : Int))] [] h' Q) : XP 1000 321 827 [some (vR 1000100), some (vR 0), some (vR 76), some (vI ((6 * k : Nat) : Int))] [] h Q := by
  obtain ⟨a1, b1⟩ := lw_j (j := 1) hk hl (by decide)
  have a1 : w32 (((6 * k : Nat) : Int) + 1) = ((6 * k + 1 : Nat) : Int) := a1
  obtain ⟨k0, k1, ks, vs⟩ := LI_s hL
  have v1 := vs (6 * k + 1)
  obtain ⟨rE1, h1, ⟨vE1, rfl, yE1, rfl, -⟩, l1, E1⟩ := LI_k (okM144 (β := β)) (by decide +kernel) (by decide +kernel) (vs := [vR 0, vI (xs (6 * k + 1))]) ⟨_, _, rfl, rfl, _, _, rfl, ⟨_, rfl, hx _⟩, rfl⟩ hL
  have E1 : ∀ Q : Option AV → AH → Prop, XC 1000 144 [vR 0, vI (xs (6 * k + 1))] h Q = Q (some (vI yE1)) h1 := E1
  obtain ⟨m0, m1, ms, ws⟩ := LI_s l1
  have w1 := ws (6 * k + 1)
  obtain ⟨rE2, h2, ⟨vE2, rfl, yE2, rfl, -⟩, l2, E2⟩ := LI_k (okM278 (β := β)) (by decide +kernel) (by decide +kernel) (vs := [vR 76, vI (xs (6 * k + 1))]) ⟨_, _, rfl, rfl, _, _, rfl, ⟨_, rfl, hx _⟩, rfl⟩ l1
  have E2 : ∀ Q : Option AV → AH → Prop, XC 1000 278 [vR 76, vI (xs (6 * k + 1))] h1 Q = Q (some (vI yE2)) h2 := E2
  have y := nx h2 (LI_m (Nat.le_add_right _ _) l2)
  refine xpk_sound (stops := [1540]) (n := 90) ?_
  simp only [sk_0, sk_1, sk_2, sk_3, sk_4, sk_5, sk_6, sk_7, sk_8, sk_iadd, sk_isub, sk_imul, sk_iand, sk_ior, sk_ixor, sk_ishl, sk_ishr, sk_iushr, sk_idiv, sk_irem, sk_ineg, sk_ladd, sk_lsub, sk_lmul, sk_land, sk_lor, sk_ldiv, sk_lrem, sk_lneg, sk_lshl, sk_lshr, sk_i2l, sk_l2i, sk_lcmp, sk_dupI, sk_dupR, sk_dup2L, sk_dup2I, sk_popI, sk_ifeq, sk_ifne, sk_iflt, sk_ifge, sk_ifgt, sk_ifle, sk_iceq, sk_icne, sk_iclt, sk_icge, sk_icgt, sk_icle, sk_goto, sk_getf, sk_putf, sk_gets, sk_iald, sk_lald, sk_bald, sk_aald, sk_iast, sk_last, sk_bast, sk_aast, sk_alen, sk_newa, sk_newt, sk_new, sk_cs1, sk_cs2, sk_cs3, sk_cs4, sk_cs5, sk_cs6, sk_cv1, sk_cv2, sk_cv3, sk_cv4, sk_cv5, sk_cv6, sk_ci1, sk_ci2, sk_ci3, sk_ret0, sk_retI, sk_retL, sk_retR, sk_sw, sk_oin, sk_max, sk_min, sk_abs, lI_0, lI_s, lL_0, lL_s, lR_0, lR_s, vIo_e, vLo_e, vOo_e, stW_I, stW_L, stW_R, stW_0, stW_z, okSt_0, okSt_s, hV_eq, hK_eq, okF_0, okF_1, okF_3, is01_0, is01_1, is01_i, Int.toNat_natCast, Int.reduceEq, Int.reduceLE, Int.reduceLT, Int.reduceNeg, Nat.reduceLT, not_true_eq_false, not_false_eq_true, reduceIte, Option.toList, List.cons_append, List.nil_append, List.set_cons_zero, List.set_cons_succ, List.not_mem_nil, List.mem_cons, if_false, if_true, ite_true, ite_false, and_self, and_true, true_and, Nat.reduceAdd, Nat.reduceLeDiff, Nat.reduceEqDiff, Nat.zero_add, Nat.le_refl, Nat.zero_le, or_false, false_or, Int.reduceToNat, or_true, true_or, eq_self, and_false, false_and, inR_d, nc_4, nc_5, nc_6, nc_7, nc_8, nc_16, nc_18, nc_20, nc_24, nc_32, nc_40, nc_64, nc_104, nc_120, nc_160, nc_256, nc_300, nc_330, nc_390, nc_1200, nc_1260, nc_3012, nc_9834, okSt_1i, okSt_1r, okSt_1n, List.length_cons, List.length_nil, sk_55, xpk_succ cd_321_827, xpk_succ cd_321_828, xpk_succ cd_321_829, xpk_succ cd_321_830, xpk_succ cd_321_831, xpk_succ cd_321_832, xpk_succ cd_321_833, xpk_succ cd_321_836, xpk_succ cd_321_837, xpk_succ cd_321_838, xpk_succ cd_321_839, xpk_succ cd_321_840, xpk_succ cd_321_841, xpk_succ cd_321_842, xpk_succ cd_321_843, xpk_succ cd_321_846, xpk_succ cd_321_847, a1, b1, v1, k0, ks, E1, m1, ms, E2, w1]
  exact y
set_option maxHeartbeats 2000000 in
theorem lcs_22 {β L k : Nat} {xs : Nat → Int} {h : AH} {Q : Option AV → AH → Prop} (hx : ∀ i, -2147483648 ≤ xs i ∧ xs i ≤ 2147483647) (hk : 6 * k + 6 ≤ L) (hl : L ≤ 3072) (hb : β + 24 ≤ 20000) (hL : LI β L xs h) (nx : ∀ h', LI (β + 24) L xs h' → XP 1000 321 1540 [some (vR 1000100), some (vR 0), some (vR 76), some (vI ((6 * k : Nat) : Int))] [] h' Q) : XP 1000 321 850 [some (vR 1000100), some (vR 0), some (vR 76), some (vI ((6 * k : Nat) : Int))] [] h Q := by
  obtain ⟨a1, b1⟩ := lw_j (j := 1) hk hl (by decide)
  have a1 : w32 (((6 * k : Nat) : Int) + 1) = ((6 * k + 1 : Nat) : Int) := a1
  obtain ⟨k0, k1, ks, vs⟩ := LI_s hL
  have v1 := vs (6 * k + 1)
  obtain ⟨rE1, h1, ⟨vE1, rfl, yE1, rfl, -⟩, l1, E1⟩ := LI_k (okM145 (β := β)) (by decide +kernel) (by decide +kernel) (vs := [vR 0, vI (xs (6 * k + 1))]) ⟨_, _, rfl, rfl, _, _, rfl, ⟨_, rfl, hx _⟩, rfl⟩ hL
  have E1 : ∀ Q : Option AV → AH → Prop, XC 1000 145 [vR 0, vI (xs (6 * k + 1))] h Q = Q (some (vI yE1)) h1 := E1
  obtain ⟨m0, m1, ms, ws⟩ := LI_s l1
  have w1 := ws (6 * k + 1)
  obtain ⟨rE2, h2, ⟨vE2, rfl, yE2, rfl, -⟩, l2, E2⟩ := LI_k (okM279 (β := β)) (by decide +kernel) (by decide +kernel) (vs := [vR 76, vI (xs (6 * k + 1))]) ⟨_, _, rfl, rfl, _, _, rfl, ⟨_, rfl, hx _⟩, rfl⟩ l1
  have E2 : ∀ Q : Option AV → AH → Prop, XC 1000 279 [vR 76, vI (xs (6 * k + 1))] h1 Q = Q (some (vI yE2)) h2 := E2
  have y := nx h2 (LI_m (Nat.le_add_right _ _) l2)
  refine xpk_sound (stops := [1540]) (n := 90) ?_
  simp only [sk_0, sk_1, sk_2, sk_3, sk_4, sk_5, sk_6, sk_7, sk_8, sk_iadd, sk_isub, sk_imul, sk_iand, sk_ior, sk_ixor, sk_ishl, sk_ishr, sk_iushr, sk_idiv, sk_irem, sk_ineg, sk_ladd, sk_lsub, sk_lmul, sk_land, sk_lor, sk_ldiv, sk_lrem, sk_lneg, sk_lshl, sk_lshr, sk_i2l, sk_l2i, sk_lcmp, sk_dupI, sk_dupR, sk_dup2L, sk_dup2I, sk_popI, sk_ifeq, sk_ifne, sk_iflt, sk_ifge, sk_ifgt, sk_ifle, sk_iceq, sk_icne, sk_iclt, sk_icge, sk_icgt, sk_icle, sk_goto, sk_getf, sk_putf, sk_gets, sk_iald, sk_lald, sk_bald, sk_aald, sk_iast, sk_last, sk_bast, sk_aast, sk_alen, sk_newa, sk_newt, sk_new, sk_cs1, sk_cs2, sk_cs3, sk_cs4, sk_cs5, sk_cs6, sk_cv1, sk_cv2, sk_cv3, sk_cv4, sk_cv5, sk_cv6, sk_ci1, sk_ci2, sk_ci3, sk_ret0, sk_retI, sk_retL, sk_retR, sk_sw, sk_oin, sk_max, sk_min, sk_abs, lI_0, lI_s, lL_0, lL_s, lR_0, lR_s, vIo_e, vLo_e, vOo_e, stW_I, stW_L, stW_R, stW_0, stW_z, okSt_0, okSt_s, hV_eq, hK_eq, okF_0, okF_1, okF_3, is01_0, is01_1, is01_i, Int.toNat_natCast, Int.reduceEq, Int.reduceLE, Int.reduceLT, Int.reduceNeg, Nat.reduceLT, not_true_eq_false, not_false_eq_true, reduceIte, Option.toList, List.cons_append, List.nil_append, List.set_cons_zero, List.set_cons_succ, List.not_mem_nil, List.mem_cons, if_false, if_true, ite_true, ite_false, and_self, and_true, true_and, Nat.reduceAdd, Nat.reduceLeDiff, Nat.reduceEqDiff, Nat.zero_add, Nat.le_refl, Nat.zero_le, or_false, false_or, Int.reduceToNat, or_true, true_or, eq_self, and_false, false_and, inR_d, nc_4, nc_5, nc_6, nc_7, nc_8, nc_16, nc_18, nc_20, nc_24, nc_32, nc_40, nc_64, nc_104, nc_120, nc_160, nc_256, nc_300, nc_330, nc_390, nc_1200, nc_1260, nc_3012, nc_9834, okSt_1i, okSt_1r, okSt_1n, List.length_cons, List.length_nil, sk_55, xpk_succ cd_321_850, xpk_succ cd_321_851, xpk_succ cd_321_852, xpk_succ cd_321_853, xpk_succ cd_321_854, xpk_succ cd_321_855, xpk_succ cd_321_856, xpk_succ cd_321_859, xpk_succ cd_321_860, xpk_succ cd_321_861, xpk_succ cd_321_862, xpk_succ cd_321_863, xpk_succ cd_321_864, xpk_succ cd_321_865, xpk_succ cd_321_866, xpk_succ cd_321_869, xpk_succ cd_321_870, a1, b1, v1, k0, ks, E1, m1, ms, E2, w1]
  exact y
def kc146na : KT := ([.inl (.inr (.inr (some 0))), .inr (false, (-2147483648), 0), .inr (false, (-2147483648), 2147483647), .inr (false, 0, 1)], some (.inr (true, (-1), (-1))), [], [], [(77, 16, .inr (false, 0, 9999))], [(77, 16, .inr (false, 0, 9999))], [], 2)
theorem kc146nae : chkE JB [] [] kc146na 1 146 = true := by decide +kernel
theorem kc146nao {β : Nat} : KOK JB (W0 β) 146 kc146na := KOK_of W0_f (CT := []) (cuts := []) trivial kc146nae (fun cu h => by cases h) rfl
def kc280na : KT := ([.inl (.inr (.inr (some 76))), .inr (false, (-2147483648), 0), .inr (false, (-2147483648), 2147483647), .inr (false, 0, 1)], some (.inr (true, (-1), (-1))), [], [], [(77, 16, .inr (false, 0, 9999))], [(77, 16, .inr (false, 0, 9999))], [], 2)
theorem kc280nae : chkE JB [] [] kc280na 1 280 = true := by decide +kernel
theorem kc280nao {β : Nat} : KOK JB (W0 β) 280 kc280na := KOK_of W0_f (CT := []) (cuts := []) trivial kc280nae (fun cu h => by cases h) rfl
def kc146nb : KT := ([.inl (.inr (.inr (some 0))), .inr (false, 10, 2147483647), .inr (false, (-2147483648), 2147483647), .inr (false, 0, 1)], some (.inr (true, (-1), (-1))), [], [], [(77, 16, .inr (false, 0, 9999))], [(77, 16, .inr (false, 0, 9999))], [], 2)
theorem kc146nbe : chkE JB [] [] kc146nb 1 146 = true := by decide +kernel
theorem kc146nbo {β : Nat} : KOK JB (W0 β) 146 kc146nb := KOK_of W0_f (CT := []) (cuts := []) trivial kc146nbe (fun cu h => by cases h) rfl
def kc280nb : KT := ([.inl (.inr (.inr (some 76))), .inr (false, 10, 2147483647), .inr (false, (-2147483648), 2147483647), .inr (false, 0, 1)], some (.inr (true, (-1), (-1))), [], [], [(77, 16, .inr (false, 0, 9999))], [(77, 16, .inr (false, 0, 9999))], [], 2)
theorem kc280nbe : chkE JB [] [] kc280nb 1 280 = true := by decide +kernel
theorem kc280nbo {β : Nat} : KOK JB (W0 β) 280 kc280nb := KOK_of W0_f (CT := []) (cuts := []) trivial kc280nbe (fun cu h => by cases h) rfl
def kc146qa : KT := ([.inl (.inr (.inr (some 0))), .inr (false, 1, 9), .inr (false, (-2147483648), (-1)), .inr (false, 0, 1)], some (.inr (true, (-1), (-1))), [], [], [(77, 16, .inr (false, 0, 9999))], [(77, 16, .inr (false, 0, 9999))], [], 2)
theorem kc146qae : chkE JB [] [] kc146qa 1 146 = true := by decide +kernel
theorem kc146qao {β : Nat} : KOK JB (W0 β) 146 kc146qa := KOK_of W0_f (CT := []) (cuts := []) trivial kc146qae (fun cu h => by cases h) rfl
def kc280qa : KT := ([.inl (.inr (.inr (some 76))), .inr (false, 1, 9), .inr (false, (-2147483648), (-1)), .inr (false, 0, 1)], some (.inr (true, (-1), (-1))), [], [], [(77, 16, .inr (false, 0, 9999))], [(77, 16, .inr (false, 0, 9999))], [], 2)
theorem kc280qae : chkE JB [] [] kc280qa 1 280 = true := by decide +kernel
theorem kc280qao {β : Nat} : KOK JB (W0 β) 280 kc280qa := KOK_of W0_f (CT := []) (cuts := []) trivial kc280qae (fun cu h => by cases h) rfl
def kc146qb : KT := ([.inl (.inr (.inr (some 0))), .inr (false, 1, 9), .inr (false, 10, 2147483647), .inr (false, 0, 1)], some (.inr (true, (-1), (-1))), [], [], [(77, 16, .inr (false, 0, 9999))], [(77, 16, .inr (false, 0, 9999))], [], 2)
theorem kc146qbe : chkE JB [] [] kc146qb 1 146 = true := by decide +kernel
theorem kc146qbo {β : Nat} : KOK JB (W0 β) 146 kc146qb := KOK_of W0_f (CT := []) (cuts := []) trivial kc146qbe (fun cu h => by cases h) rfl
def kc280qb : KT := ([.inl (.inr (.inr (some 76))), .inr (false, 1, 9), .inr (false, 10, 2147483647), .inr (false, 0, 1)], some (.inr (true, (-1), (-1))), [], [], [(77, 16, .inr (false, 0, 9999))], [(77, 16, .inr (false, 0, 9999))], [], 2)
theorem kc280qbe : chkE JB [] [] kc280qb 1 280 = true := by decide +kernel
theorem kc280qbo {β : Nat} : KOK JB (W0 β) 280 kc280qb := KOK_of W0_f (CT := []) (cuts := []) trivial kc280qbe (fun cu h => by cases h) rfl

def kc146_1_0_0 : KT := ([.inl (.inr (.inr (some 0))), .inl (.inl 1), .inl (.inl 0), .inl (.inl 0)], some (.inr (true, 1, 1)), [], [], [(77, 16, .inr (false, 0, 9999))], [(77, 16, .inr (false, 0, 9999))], [], 2)
theorem kc146_1_0_0e : chkE JB [] [] kc146_1_0_0 1 146 = true := by decide +kernel
theorem kc146_1_0_0o {β : Nat} : KOK JB (W0 β) 146 kc146_1_0_0 := KOK_of W0_f (CT := []) (cuts := []) trivial kc146_1_0_0e (fun cu h => by cases h) rfl
def kc280_1_0_0 : KT := ([.inl (.inr (.inr (some 76))), .inl (.inl 1), .inl (.inl 0), .inl (.inl 0)], some (.inr (true, 1, 1)), [], [], [(77, 16, .inr (false, 0, 9999))], [(77, 16, .inr (false, 0, 9999))], [], 2)
theorem kc280_1_0_0e : chkE JB [] [] kc280_1_0_0 1 280 = true := by decide +kernel
theorem kc280_1_0_0o {β : Nat} : KOK JB (W0 β) 280 kc280_1_0_0 := KOK_of W0_f (CT := []) (cuts := []) trivial kc280_1_0_0e (fun cu h => by cases h) rfl
def kc146_1_1_0 : KT := ([.inl (.inr (.inr (some 0))), .inl (.inl 1), .inl (.inl 1), .inl (.inl 0)], some (.inr (true, 1, 1)), [], [], [(77, 16, .inr (false, 0, 9999))], [(77, 16, .inr (false, 0, 9999))], [], 2)
theorem kc146_1_1_0e : chkE JB [] [] kc146_1_1_0 1 146 = true := by decide +kernel
theorem kc146_1_1_0o {β : Nat} : KOK JB (W0 β) 146 kc146_1_1_0 := KOK_of W0_f (CT := []) (cuts := []) trivial kc146_1_1_0e (fun cu h => by cases h) rfl
def kc280_1_1_0 : KT := ([.inl (.inr (.inr (some 76))), .inl (.inl 1), .inl (.inl 1), .inl (.inl 0)], some (.inr (true, 1, 1)), [], [], [(77, 16, .inr (false, 0, 9999))], [(77, 16, .inr (false, 0, 9999))], [], 2)
theorem kc280_1_1_0e : chkE JB [] [] kc280_1_1_0 1 280 = true := by decide +kernel
theorem kc280_1_1_0o {β : Nat} : KOK JB (W0 β) 280 kc280_1_1_0 := KOK_of W0_f (CT := []) (cuts := []) trivial kc280_1_1_0e (fun cu h => by cases h) rfl
def kc146_1_2_0 : KT := ([.inl (.inr (.inr (some 0))), .inl (.inl 1), .inl (.inl 2), .inl (.inl 0)], some (.inr (true, 3, 3)), [], [], [(77, 16, .inr (false, 0, 9999))], [(77, 16, .inr (false, 0, 9999))], [], 2)
theorem kc146_1_2_0e : chkE JB [] [] kc146_1_2_0 1 146 = true := by decide +kernel
theorem kc146_1_2_0o {β : Nat} : KOK JB (W0 β) 146 kc146_1_2_0 := KOK_of W0_f (CT := []) (cuts := []) trivial kc146_1_2_0e (fun cu h => by cases h) rfl
def kc280_1_2_0 : KT := ([.inl (.inr (.inr (some 76))), .inl (.inl 1), .inl (.inl 2), .inl (.inl 0)], some (.inr (true, 3, 3)), [], [], [(77, 16, .inr (false, 0, 9999))], [(77, 16, .inr (false, 0, 9999))], [], 2)
theorem kc280_1_2_0e : chkE JB [] [] kc280_1_2_0 1 280 = true := by decide +kernel
theorem kc280_1_2_0o {β : Nat} : KOK JB (W0 β) 280 kc280_1_2_0 := KOK_of W0_f (CT := []) (cuts := []) trivial kc280_1_2_0e (fun cu h => by cases h) rfl
def kc146_1_3_0 : KT := ([.inl (.inr (.inr (some 0))), .inl (.inl 1), .inl (.inl 3), .inl (.inl 0)], some (.inr (true, 2, 2)), [], [], [(77, 16, .inr (false, 0, 9999))], [(77, 16, .inr (false, 0, 9999))], [], 2)
theorem kc146_1_3_0e : chkE JB [] [] kc146_1_3_0 1 146 = true := by decide +kernel
theorem kc146_1_3_0o {β : Nat} : KOK JB (W0 β) 146 kc146_1_3_0 := KOK_of W0_f (CT := []) (cuts := []) trivial kc146_1_3_0e (fun cu h => by cases h) rfl
def kc280_1_3_0 : KT := ([.inl (.inr (.inr (some 76))), .inl (.inl 1), .inl (.inl 3), .inl (.inl 0)], some (.inr (true, 2, 2)), [], [], [(77, 16, .inr (false, 0, 9999))], [(77, 16, .inr (false, 0, 9999))], [], 2)
theorem kc280_1_3_0e : chkE JB [] [] kc280_1_3_0 1 280 = true := by decide +kernel
theorem kc280_1_3_0o {β : Nat} : KOK JB (W0 β) 280 kc280_1_3_0 := KOK_of W0_f (CT := []) (cuts := []) trivial kc280_1_3_0e (fun cu h => by cases h) rfl
def kc146_1_4_0 : KT := ([.inl (.inr (.inr (some 0))), .inl (.inl 1), .inl (.inl 4), .inl (.inl 0)], some (.inr (true, 1, 1)), [], [], [(77, 16, .inr (false, 0, 9999))], [(77, 16, .inr (false, 0, 9999))], [], 2)
theorem kc146_1_4_0e : chkE JB [] [] kc146_1_4_0 1 146 = true := by decide +kernel
theorem kc146_1_4_0o {β : Nat} : KOK JB (W0 β) 146 kc146_1_4_0 := KOK_of W0_f (CT := []) (cuts := []) trivial kc146_1_4_0e (fun cu h => by cases h) rfl
def kc280_1_4_0 : KT := ([.inl (.inr (.inr (some 76))), .inl (.inl 1), .inl (.inl 4), .inl (.inl 0)], some (.inr (true, 1, 1)), [], [], [(77, 16, .inr (false, 0, 9999))], [(77, 16, .inr (false, 0, 9999))], [], 2)
theorem kc280_1_4_0e : chkE JB [] [] kc280_1_4_0 1 280 = true := by decide +kernel
theorem kc280_1_4_0o {β : Nat} : KOK JB (W0 β) 280 kc280_1_4_0 := KOK_of W0_f (CT := []) (cuts := []) trivial kc280_1_4_0e (fun cu h => by cases h) rfl
def kc146_1_5_0 : KT := ([.inl (.inr (.inr (some 0))), .inl (.inl 1), .inl (.inl 5), .inl (.inl 0)], some (.inr (true, 3, 3)), [], [], [(77, 16, .inr (false, 0, 9999))], [(77, 16, .inr (false, 0, 9999))], [], 2)
theorem kc146_1_5_0e : chkE JB [] [] kc146_1_5_0 1 146 = true := by decide +kernel
theorem kc146_1_5_0o {β : Nat} : KOK JB (W0 β) 146 kc146_1_5_0 := KOK_of W0_f (CT := []) (cuts := []) trivial kc146_1_5_0e (fun cu h => by cases h) rfl
def kc280_1_5_0 : KT := ([.inl (.inr (.inr (some 76))), .inl (.inl 1), .inl (.inl 5), .inl (.inl 0)], some (.inr (true, 3, 3)), [], [], [(77, 16, .inr (false, 0, 9999))], [(77, 16, .inr (false, 0, 9999))], [], 2)
theorem kc280_1_5_0e : chkE JB [] [] kc280_1_5_0 1 280 = true := by decide +kernel
theorem kc280_1_5_0o {β : Nat} : KOK JB (W0 β) 280 kc280_1_5_0 := KOK_of W0_f (CT := []) (cuts := []) trivial kc280_1_5_0e (fun cu h => by cases h) rfl
def kc146_1_6_0 : KT := ([.inl (.inr (.inr (some 0))), .inl (.inl 1), .inl (.inl 6), .inl (.inl 0)], some (.inr (true, 7, 7)), [], [], [(77, 16, .inr (false, 0, 9999))], [(77, 16, .inr (false, 0, 9999))], [], 2)
theorem kc146_1_6_0e : chkE JB [] [] kc146_1_6_0 1 146 = true := by decide +kernel
theorem kc146_1_6_0o {β : Nat} : KOK JB (W0 β) 146 kc146_1_6_0 := KOK_of W0_f (CT := []) (cuts := []) trivial kc146_1_6_0e (fun cu h => by cases h) rfl
def kc280_1_6_0 : KT := ([.inl (.inr (.inr (some 76))), .inl (.inl 1), .inl (.inl 6), .inl (.inl 0)], some (.inr (true, 7, 7)), [], [], [(77, 16, .inr (false, 0, 9999))], [(77, 16, .inr (false, 0, 9999))], [], 2)
theorem kc280_1_6_0e : chkE JB [] [] kc280_1_6_0 1 280 = true := by decide +kernel
theorem kc280_1_6_0o {β : Nat} : KOK JB (W0 β) 280 kc280_1_6_0 := KOK_of W0_f (CT := []) (cuts := []) trivial kc280_1_6_0e (fun cu h => by cases h) rfl
def kc146_1_7_0 : KT := ([.inl (.inr (.inr (some 0))), .inl (.inl 1), .inl (.inl 7), .inl (.inl 0)], some (.inr (true, 4, 4)), [], [], [(77, 16, .inr (false, 0, 9999))], [(77, 16, .inr (false, 0, 9999))], [], 2)
theorem kc146_1_7_0e : chkE JB [] [] kc146_1_7_0 1 146 = true := by decide +kernel
theorem kc146_1_7_0o {β : Nat} : KOK JB (W0 β) 146 kc146_1_7_0 := KOK_of W0_f (CT := []) (cuts := []) trivial kc146_1_7_0e (fun cu h => by cases h) rfl
def kc280_1_7_0 : KT := ([.inl (.inr (.inr (some 76))), .inl (.inl 1), .inl (.inl 7), .inl (.inl 0)], some (.inr (true, 4, 4)), [], [], [(77, 16, .inr (false, 0, 9999))], [(77, 16, .inr (false, 0, 9999))], [], 2)
theorem kc280_1_7_0e : chkE JB [] [] kc280_1_7_0 1 280 = true := by decide +kernel
theorem kc280_1_7_0o {β : Nat} : KOK JB (W0 β) 280 kc280_1_7_0 := KOK_of W0_f (CT := []) (cuts := []) trivial kc280_1_7_0e (fun cu h => by cases h) rfl
def kc146_1_8_0 : KT := ([.inl (.inr (.inr (some 0))), .inl (.inl 1), .inl (.inl 8), .inl (.inl 0)], some (.inr (true, 9, 9)), [], [], [(77, 16, .inr (false, 0, 9999))], [(77, 16, .inr (false, 0, 9999))], [], 2)
theorem kc146_1_8_0e : chkE JB [] [] kc146_1_8_0 1 146 = true := by decide +kernel
theorem kc146_1_8_0o {β : Nat} : KOK JB (W0 β) 146 kc146_1_8_0 := KOK_of W0_f (CT := []) (cuts := []) trivial kc146_1_8_0e (fun cu h => by cases h) rfl
def kc280_1_8_0 : KT := ([.inl (.inr (.inr (some 76))), .inl (.inl 1), .inl (.inl 8), .inl (.inl 0)], some (.inr (true, 9, 9)), [], [], [(77, 16, .inr (false, 0, 9999))], [(77, 16, .inr (false, 0, 9999))], [], 2)
theorem kc280_1_8_0e : chkE JB [] [] kc280_1_8_0 1 280 = true := by decide +kernel
theorem kc280_1_8_0o {β : Nat} : KOK JB (W0 β) 280 kc280_1_8_0 := KOK_of W0_f (CT := []) (cuts := []) trivial kc280_1_8_0e (fun cu h => by cases h) rfl
def kc146_1_9_0 : KT := ([.inl (.inr (.inr (some 0))), .inl (.inl 1), .inl (.inl 9), .inl (.inl 0)], some (.inr (true, 1, 1)), [], [], [(77, 16, .inr (false, 0, 9999))], [(77, 16, .inr (false, 0, 9999))], [], 2)
theorem kc146_1_9_0e : chkE JB [] [] kc146_1_9_0 1 146 = true := by decide +kernel
theorem kc146_1_9_0o {β : Nat} : KOK JB (W0 β) 146 kc146_1_9_0 := KOK_of W0_f (CT := []) (cuts := []) trivial kc146_1_9_0e (fun cu h => by cases h) rfl
def kc280_1_9_0 : KT := ([.inl (.inr (.inr (some 76))), .inl (.inl 1), .inl (.inl 9), .inl (.inl 0)], some (.inr (true, 1, 1)), [], [], [(77, 16, .inr (false, 0, 9999))], [(77, 16, .inr (false, 0, 9999))], [], 2)
theorem kc280_1_9_0e : chkE JB [] [] kc280_1_9_0 1 280 = true := by decide +kernel
theorem kc280_1_9_0o {β : Nat} : KOK JB (W0 β) 280 kc280_1_9_0 := KOK_of W0_f (CT := []) (cuts := []) trivial kc280_1_9_0e (fun cu h => by cases h) rfl
set_option maxHeartbeats 4000000 in
theorem kcc_1_0 {β L : Nat} {xs : Nat → Int} {h : AH} {q : Int} (h0 : 0 ≤ q) (h9 : q ≤ 9) (hL : LI β L xs h) : ∃ (z : Int) (h1 h2 : AH), LI β L xs h1 ∧ LI β L xs h2 ∧ (∀ Q : Option AV → AH → Prop, XC 1000 146 [vR 0, vI 1, vI q, vI 0] h Q = Q (some (vL z)) h1) ∧ ∀ Q : Option AV → AH → Prop, XC 1000 280 [vR 76, vI 1, vI q, vI 0] h1 Q = Q (some (vL z)) h2 := by
  by_cases d0 : q = 0
  · subst d0
    obtain ⟨r1, h1, ⟨v1, rfl, y1, rfl, e1, f1⟩, l1, E1⟩ := LI_k (kc146_1_0_0o (β := β)) (by decide +kernel) (by decide +kernel) (vs := [vR 0, vI 1, vI 0, vI 0]) ⟨_, _, rfl, rfl, _, _, rfl, rfl, _, _, rfl, rfl, _, _, rfl, rfl, rfl⟩ hL
    obtain ⟨r2, h2, ⟨v2, rfl, y2, rfl, e2, f2⟩, l2, E2⟩ := LI_k (kc280_1_0_0o (β := β)) (by decide +kernel) (by decide +kernel) (vs := [vR 76, vI 1, vI 0, vI 0]) ⟨_, _, rfl, rfl, _, _, rfl, rfl, _, _, rfl, rfl, _, _, rfl, rfl, rfl⟩ l1
    have e1 : (1 : Int) ≤ y1 := e1
    have f1 : y1 ≤ (1 : Int) := f1
    obtain rfl : y1 = 1 := Int.le_antisymm f1 e1
    have e2 : (1 : Int) ≤ y2 := e2
    have f2 : y2 ≤ (1 : Int) := f2
    obtain rfl : y2 = 1 := Int.le_antisymm f2 e2
    exact ⟨_, h1, h2, l1, l2, E1, E2⟩
  by_cases d1 : q = 1
  · subst d1
    obtain ⟨r1, h1, ⟨v1, rfl, y1, rfl, e1, f1⟩, l1, E1⟩ := LI_k (kc146_1_1_0o (β := β)) (by decide +kernel) (by decide +kernel) (vs := [vR 0, vI 1, vI 1, vI 0]) ⟨_, _, rfl, rfl, _, _, rfl, rfl, _, _, rfl, rfl, _, _, rfl, rfl, rfl⟩ hL
    obtain ⟨r2, h2, ⟨v2, rfl, y2, rfl, e2, f2⟩, l2, E2⟩ := LI_k (kc280_1_1_0o (β := β)) (by decide +kernel) (by decide +kernel) (vs := [vR 76, vI 1, vI 1, vI 0]) ⟨_, _, rfl, rfl, _, _, rfl, rfl, _, _, rfl, rfl, _, _, rfl, rfl, rfl⟩ l1
    have e1 : (1 : Int) ≤ y1 := e1
    have f1 : y1 ≤ (1 : Int) := f1
    obtain rfl : y1 = 1 := Int.le_antisymm f1 e1
    have e2 : (1 : Int) ≤ y2 := e2
    have f2 : y2 ≤ (1 : Int) := f2
    obtain rfl : y2 = 1 := Int.le_antisymm f2 e2
    exact ⟨_, h1, h2, l1, l2, E1, E2⟩
  by_cases d2 : q = 2
  · subst d2
    obtain ⟨r1, h1, ⟨v1, rfl, y1, rfl, e1, f1⟩, l1, E1⟩ := LI_k (kc146_1_2_0o (β := β)) (by decide +kernel) (by decide +kernel) (vs := [vR 0, vI 1, vI 2, vI 0]) ⟨_, _, rfl, rfl, _, _, rfl, rfl, _, _, rfl, rfl, _, _, rfl, rfl, rfl⟩ hL
    obtain ⟨r2, h2, ⟨v2, rfl, y2, rfl, e2, f2⟩, l2, E2⟩ := LI_k (kc280_1_2_0o (β := β)) (by decide +kernel) (by decide +kernel) (vs := [vR 76, vI 1, vI 2, vI 0]) ⟨_, _, rfl, rfl, _, _, rfl, rfl, _, _, rfl, rfl, _, _, rfl, rfl, rfl⟩ l1
    have e1 : (3 : Int) ≤ y1 := e1
    have f1 : y1 ≤ (3 : Int) := f1
    obtain rfl : y1 = 3 := Int.le_antisymm f1 e1
    have e2 : (3 : Int) ≤ y2 := e2
    have f2 : y2 ≤ (3 : Int) := f2
    obtain rfl : y2 = 3 := Int.le_antisymm f2 e2
    exact ⟨_, h1, h2, l1, l2, E1, E2⟩
  by_cases d3 : q = 3
  · subst d3
    obtain ⟨r1, h1, ⟨v1, rfl, y1, rfl, e1, f1⟩, l1, E1⟩ := LI_k (kc146_1_3_0o (β := β)) (by decide +kernel) (by decide +kernel) (vs := [vR 0, vI 1, vI 3, vI 0]) ⟨_, _, rfl, rfl, _, _, rfl, rfl, _, _, rfl, rfl, _, _, rfl, rfl, rfl⟩ hL
    obtain ⟨r2, h2, ⟨v2, rfl, y2, rfl, e2, f2⟩, l2, E2⟩ := LI_k (kc280_1_3_0o (β := β)) (by decide +kernel) (by decide +kernel) (vs := [vR 76, vI 1, vI 3, vI 0]) ⟨_, _, rfl, rfl, _, _, rfl, rfl, _, _, rfl, rfl, _, _, rfl, rfl, rfl⟩ l1
    have e1 : (2 : Int) ≤ y1 := e1
    have f1 : y1 ≤ (2 : Int) := f1
    obtain rfl : y1 = 2 := Int.le_antisymm f1 e1
    have e2 : (2 : Int) ≤ y2 := e2
    have f2 : y2 ≤ (2 : Int) := f2
    obtain rfl : y2 = 2 := Int.le_antisymm f2 e2
    exact ⟨_, h1, h2, l1, l2, E1, E2⟩
  by_cases d4 : q = 4
  · subst d4
    obtain ⟨r1, h1, ⟨v1, rfl, y1, rfl, e1, f1⟩, l1, E1⟩ := LI_k (kc146_1_4_0o (β := β)) (by decide +kernel) (by decide +kernel) (vs := [vR 0, vI 1, vI 4, vI 0]) ⟨_, _, rfl, rfl, _, _, rfl, rfl, _, _, rfl, rfl, _, _, rfl, rfl, rfl⟩ hL
    obtain ⟨r2, h2, ⟨v2, rfl, y2, rfl, e2, f2⟩, l2, E2⟩ := LI_k (kc280_1_4_0o (β := β)) (by decide +kernel) (by decide +kernel) (vs := [vR 76, vI 1, vI 4, vI 0]) ⟨_, _, rfl, rfl, _, _, rfl, rfl, _, _, rfl, rfl, _, _, rfl, rfl, rfl⟩ l1
    have e1 : (1 : Int) ≤ y1 := e1
    have f1 : y1 ≤ (1 : Int) := f1
    obtain rfl : y1 = 1 := Int.le_antisymm f1 e1
    have e2 : (1 : Int) ≤ y2 := e2
    have f2 : y2 ≤ (1 : Int) := f2
    obtain rfl : y2 = 1 := Int.le_antisymm f2 e2
    exact ⟨_, h1, h2, l1, l2, E1, E2⟩
  by_cases d5 : q = 5
  · subst d5
    obtain ⟨r1, h1, ⟨v1, rfl, y1, rfl, e1, f1⟩, l1, E1⟩ := LI_k (kc146_1_5_0o (β := β)) (by decide +kernel) (by decide +kernel) (vs := [vR 0, vI 1, vI 5, vI 0]) ⟨_, _, rfl, rfl, _, _, rfl, rfl, _, _, rfl, rfl, _, _, rfl, rfl, rfl⟩ hL
    obtain ⟨r2, h2, ⟨v2, rfl, y2, rfl, e2, f2⟩, l2, E2⟩ := LI_k (kc280_1_5_0o (β := β)) (by decide +kernel) (by decide +kernel) (vs := [vR 76, vI 1, vI 5, vI 0]) ⟨_, _, rfl, rfl, _, _, rfl, rfl, _, _, rfl, rfl, _, _, rfl, rfl, rfl⟩ l1
    have e1 : (3 : Int) ≤ y1 := e1
    have f1 : y1 ≤ (3 : Int) := f1
    obtain rfl : y1 = 3 := Int.le_antisymm f1 e1
    have e2 : (3 : Int) ≤ y2 := e2
    have f2 : y2 ≤ (3 : Int) := f2
    obtain rfl : y2 = 3 := Int.le_antisymm f2 e2
    exact ⟨_, h1, h2, l1, l2, E1, E2⟩
  by_cases d6 : q = 6
  · subst d6
    obtain ⟨r1, h1, ⟨v1, rfl, y1, rfl, e1, f1⟩, l1, E1⟩ := LI_k (kc146_1_6_0o (β := β)) (by decide +kernel) (by decide +kernel) (vs := [vR 0, vI 1, vI 6, vI 0]) ⟨_, _, rfl, rfl, _, _, rfl, rfl, _, _, rfl, rfl, _, _, rfl, rfl, rfl⟩ hL
    obtain ⟨r2, h2, ⟨v2, rfl, y2, rfl, e2, f2⟩, l2, E2⟩ := LI_k (kc280_1_6_0o (β := β)) (by decide +kernel) (by decide +kernel) (vs := [vR 76, vI 1, vI 6, vI 0]) ⟨_, _, rfl, rfl, _, _, rfl, rfl, _, _, rfl, rfl, _, _, rfl, rfl, rfl⟩ l1
    have e1 : (7 : Int) ≤ y1 := e1
    have f1 : y1 ≤ (7 : Int) := f1
    obtain rfl : y1 = 7 := Int.le_antisymm f1 e1
    have e2 : (7 : Int) ≤ y2 := e2
    have f2 : y2 ≤ (7 : Int) := f2
    obtain rfl : y2 = 7 := Int.le_antisymm f2 e2
    exact ⟨_, h1, h2, l1, l2, E1, E2⟩
  by_cases d7 : q = 7
  · subst d7
    obtain ⟨r1, h1, ⟨v1, rfl, y1, rfl, e1, f1⟩, l1, E1⟩ := LI_k (kc146_1_7_0o (β := β)) (by decide +kernel) (by decide +kernel) (vs := [vR 0, vI 1, vI 7, vI 0]) ⟨_, _, rfl, rfl, _, _, rfl, rfl, _, _, rfl, rfl, _, _, rfl, rfl, rfl⟩ hL
    obtain ⟨r2, h2, ⟨v2, rfl, y2, rfl, e2, f2⟩, l2, E2⟩ := LI_k (kc280_1_7_0o (β := β)) (by decide +kernel) (by decide +kernel) (vs := [vR 76, vI 1, vI 7, vI 0]) ⟨_, _, rfl, rfl, _, _, rfl, rfl, _, _, rfl, rfl, _, _, rfl, rfl, rfl⟩ l1
    have e1 : (4 : Int) ≤ y1 := e1
    have f1 : y1 ≤ (4 : Int) := f1
    obtain rfl : y1 = 4 := Int.le_antisymm f1 e1
    have e2 : (4 : Int) ≤ y2 := e2
    have f2 : y2 ≤ (4 : Int) := f2
    obtain rfl : y2 = 4 := Int.le_antisymm f2 e2
    exact ⟨_, h1, h2, l1, l2, E1, E2⟩
  by_cases d8 : q = 8
  · subst d8
    obtain ⟨r1, h1, ⟨v1, rfl, y1, rfl, e1, f1⟩, l1, E1⟩ := LI_k (kc146_1_8_0o (β := β)) (by decide +kernel) (by decide +kernel) (vs := [vR 0, vI 1, vI 8, vI 0]) ⟨_, _, rfl, rfl, _, _, rfl, rfl, _, _, rfl, rfl, _, _, rfl, rfl, rfl⟩ hL
    obtain ⟨r2, h2, ⟨v2, rfl, y2, rfl, e2, f2⟩, l2, E2⟩ := LI_k (kc280_1_8_0o (β := β)) (by decide +kernel) (by decide +kernel) (vs := [vR 76, vI 1, vI 8, vI 0]) ⟨_, _, rfl, rfl, _, _, rfl, rfl, _, _, rfl, rfl, _, _, rfl, rfl, rfl⟩ l1
    have e1 : (9 : Int) ≤ y1 := e1
    have f1 : y1 ≤ (9 : Int) := f1
    obtain rfl : y1 = 9 := Int.le_antisymm f1 e1
    have e2 : (9 : Int) ≤ y2 := e2
    have f2 : y2 ≤ (9 : Int) := f2
    obtain rfl : y2 = 9 := Int.le_antisymm f2 e2
    exact ⟨_, h1, h2, l1, l2, E1, E2⟩
  have d9 : q = 9 := by omega
  subst d9
  obtain ⟨r1, h1, ⟨v1, rfl, y1, rfl, e1, f1⟩, l1, E1⟩ := LI_k (kc146_1_9_0o (β := β)) (by decide +kernel) (by decide +kernel) (vs := [vR 0, vI 1, vI 9, vI 0]) ⟨_, _, rfl, rfl, _, _, rfl, rfl, _, _, rfl, rfl, _, _, rfl, rfl, rfl⟩ hL
  obtain ⟨r2, h2, ⟨v2, rfl, y2, rfl, e2, f2⟩, l2, E2⟩ := LI_k (kc280_1_9_0o (β := β)) (by decide +kernel) (by decide +kernel) (vs := [vR 76, vI 1, vI 9, vI 0]) ⟨_, _, rfl, rfl, _, _, rfl, rfl, _, _, rfl, rfl, _, _, rfl, rfl, rfl⟩ l1
  have e1 : (1 : Int) ≤ y1 := e1
  have f1 : y1 ≤ (1 : Int) := f1
  obtain rfl : y1 = 1 := Int.le_antisymm f1 e1
  have e2 : (1 : Int) ≤ y2 := e2
  have f2 : y2 ≤ (1 : Int) := f2
  obtain rfl : y2 = 1 := Int.le_antisymm f2 e2
  exact ⟨_, h1, h2, l1, l2, E1, E2⟩
def kc146_1_0_1 : KT := ([.inl (.inr (.inr (some 0))), .inl (.inl 1), .inl (.inl 0), .inl (.inl 1)], some (.inr (true, 10, 10)), [], [], [(77, 16, .inr (false, 0, 9999))], [(77, 16, .inr (false, 0, 9999))], [], 2)
theorem kc146_1_0_1e : chkE JB [] [] kc146_1_0_1 1 146 = true := by decide +kernel
theorem kc146_1_0_1o {β : Nat} : KOK JB (W0 β) 146 kc146_1_0_1 := KOK_of W0_f (CT := []) (cuts := []) trivial kc146_1_0_1e (fun cu h => by cases h) rfl
def kc280_1_0_1 : KT := ([.inl (.inr (.inr (some 76))), .inl (.inl 1), .inl (.inl 0), .inl (.inl 1)], some (.inr (true, 10, 10)), [], [], [(77, 16, .inr (false, 0, 9999))], [(77, 16, .inr (false, 0, 9999))], [], 2)
theorem kc280_1_0_1e : chkE JB [] [] kc280_1_0_1 1 280 = true := by decide +kernel
theorem kc280_1_0_1o {β : Nat} : KOK JB (W0 β) 280 kc280_1_0_1 := KOK_of W0_f (CT := []) (cuts := []) trivial kc280_1_0_1e (fun cu h => by cases h) rfl
def kc146_1_1_1 : KT := ([.inl (.inr (.inr (some 0))), .inl (.inl 1), .inl (.inl 1), .inl (.inl 1)], some (.inr (true, 5, 5)), [], [], [(77, 16, .inr (false, 0, 9999))], [(77, 16, .inr (false, 0, 9999))], [], 2)
theorem kc146_1_1_1e : chkE JB [] [] kc146_1_1_1 1 146 = true := by decide +kernel
theorem kc146_1_1_1o {β : Nat} : KOK JB (W0 β) 146 kc146_1_1_1 := KOK_of W0_f (CT := []) (cuts := []) trivial kc146_1_1_1e (fun cu h => by cases h) rfl
def kc280_1_1_1 : KT := ([.inl (.inr (.inr (some 76))), .inl (.inl 1), .inl (.inl 1), .inl (.inl 1)], some (.inr (true, 5, 5)), [], [], [(77, 16, .inr (false, 0, 9999))], [(77, 16, .inr (false, 0, 9999))], [], 2)
theorem kc280_1_1_1e : chkE JB [] [] kc280_1_1_1 1 280 = true := by decide +kernel
theorem kc280_1_1_1o {β : Nat} : KOK JB (W0 β) 280 kc280_1_1_1 := KOK_of W0_f (CT := []) (cuts := []) trivial kc280_1_1_1e (fun cu h => by cases h) rfl
def kc146_1_2_1 : KT := ([.inl (.inr (.inr (some 0))), .inl (.inl 1), .inl (.inl 2), .inl (.inl 1)], some (.inr (true, 10, 10)), [], [], [(77, 16, .inr (false, 0, 9999))], [(77, 16, .inr (false, 0, 9999))], [], 2)
theorem kc146_1_2_1e : chkE JB [] [] kc146_1_2_1 1 146 = true := by decide +kernel
theorem kc146_1_2_1o {β : Nat} : KOK JB (W0 β) 146 kc146_1_2_1 := KOK_of W0_f (CT := []) (cuts := []) trivial kc146_1_2_1e (fun cu h => by cases h) rfl
def kc280_1_2_1 : KT := ([.inl (.inr (.inr (some 76))), .inl (.inl 1), .inl (.inl 2), .inl (.inl 1)], some (.inr (true, 10, 10)), [], [], [(77, 16, .inr (false, 0, 9999))], [(77, 16, .inr (false, 0, 9999))], [], 2)
theorem kc280_1_2_1e : chkE JB [] [] kc280_1_2_1 1 280 = true := by decide +kernel
theorem kc280_1_2_1o {β : Nat} : KOK JB (W0 β) 280 kc280_1_2_1 := KOK_of W0_f (CT := []) (cuts := []) trivial kc280_1_2_1e (fun cu h => by cases h) rfl
def kc146_1_3_1 : KT := ([.inl (.inr (.inr (some 0))), .inl (.inl 1), .inl (.inl 3), .inl (.inl 1)], some (.inr (true, 5, 5)), [], [], [(77, 16, .inr (false, 0, 9999))], [(77, 16, .inr (false, 0, 9999))], [], 2)
theorem kc146_1_3_1e : chkE JB [] [] kc146_1_3_1 1 146 = true := by decide +kernel
theorem kc146_1_3_1o {β : Nat} : KOK JB (W0 β) 146 kc146_1_3_1 := KOK_of W0_f (CT := []) (cuts := []) trivial kc146_1_3_1e (fun cu h => by cases h) rfl
def kc280_1_3_1 : KT := ([.inl (.inr (.inr (some 76))), .inl (.inl 1), .inl (.inl 3), .inl (.inl 1)], some (.inr (true, 5, 5)), [], [], [(77, 16, .inr (false, 0, 9999))], [(77, 16, .inr (false, 0, 9999))], [], 2)
theorem kc280_1_3_1e : chkE JB [] [] kc280_1_3_1 1 280 = true := by decide +kernel
theorem kc280_1_3_1o {β : Nat} : KOK JB (W0 β) 280 kc280_1_3_1 := KOK_of W0_f (CT := []) (cuts := []) trivial kc280_1_3_1e (fun cu h => by cases h) rfl
def kc146_1_4_1 : KT := ([.inl (.inr (.inr (some 0))), .inl (.inl 1), .inl (.inl 4), .inl (.inl 1)], some (.inr (true, 2, 2)), [], [], [(77, 16, .inr (false, 0, 9999))], [(77, 16, .inr (false, 0, 9999))], [], 2)
theorem kc146_1_4_1e : chkE JB [] [] kc146_1_4_1 1 146 = true := by decide +kernel
theorem kc146_1_4_1o {β : Nat} : KOK JB (W0 β) 146 kc146_1_4_1 := KOK_of W0_f (CT := []) (cuts := []) trivial kc146_1_4_1e (fun cu h => by cases h) rfl
def kc280_1_4_1 : KT := ([.inl (.inr (.inr (some 76))), .inl (.inl 1), .inl (.inl 4), .inl (.inl 1)], some (.inr (true, 2, 2)), [], [], [(77, 16, .inr (false, 0, 9999))], [(77, 16, .inr (false, 0, 9999))], [], 2)
theorem kc280_1_4_1e : chkE JB [] [] kc280_1_4_1 1 280 = true := by decide +kernel
theorem kc280_1_4_1o {β : Nat} : KOK JB (W0 β) 280 kc280_1_4_1 := KOK_of W0_f (CT := []) (cuts := []) trivial kc280_1_4_1e (fun cu h => by cases h) rfl
def kc146_1_5_1 : KT := ([.inl (.inr (.inr (some 0))), .inl (.inl 1), .inl (.inl 5), .inl (.inl 1)], some (.inr (true, 5, 5)), [], [], [(77, 16, .inr (false, 0, 9999))], [(77, 16, .inr (false, 0, 9999))], [], 2)
theorem kc146_1_5_1e : chkE JB [] [] kc146_1_5_1 1 146 = true := by decide +kernel
theorem kc146_1_5_1o {β : Nat} : KOK JB (W0 β) 146 kc146_1_5_1 := KOK_of W0_f (CT := []) (cuts := []) trivial kc146_1_5_1e (fun cu h => by cases h) rfl
def kc280_1_5_1 : KT := ([.inl (.inr (.inr (some 76))), .inl (.inl 1), .inl (.inl 5), .inl (.inl 1)], some (.inr (true, 5, 5)), [], [], [(77, 16, .inr (false, 0, 9999))], [(77, 16, .inr (false, 0, 9999))], [], 2)
theorem kc280_1_5_1e : chkE JB [] [] kc280_1_5_1 1 280 = true := by decide +kernel
theorem kc280_1_5_1o {β : Nat} : KOK JB (W0 β) 280 kc280_1_5_1 := KOK_of W0_f (CT := []) (cuts := []) trivial kc280_1_5_1e (fun cu h => by cases h) rfl
def kc146_1_6_1 : KT := ([.inl (.inr (.inr (some 0))), .inl (.inl 1), .inl (.inl 6), .inl (.inl 1)], some (.inr (true, 10, 10)), [], [], [(77, 16, .inr (false, 0, 9999))], [(77, 16, .inr (false, 0, 9999))], [], 2)
theorem kc146_1_6_1e : chkE JB [] [] kc146_1_6_1 1 146 = true := by decide +kernel
theorem kc146_1_6_1o {β : Nat} : KOK JB (W0 β) 146 kc146_1_6_1 := KOK_of W0_f (CT := []) (cuts := []) trivial kc146_1_6_1e (fun cu h => by cases h) rfl
def kc280_1_6_1 : KT := ([.inl (.inr (.inr (some 76))), .inl (.inl 1), .inl (.inl 6), .inl (.inl 1)], some (.inr (true, 10, 10)), [], [], [(77, 16, .inr (false, 0, 9999))], [(77, 16, .inr (false, 0, 9999))], [], 2)
theorem kc280_1_6_1e : chkE JB [] [] kc280_1_6_1 1 280 = true := by decide +kernel
theorem kc280_1_6_1o {β : Nat} : KOK JB (W0 β) 280 kc280_1_6_1 := KOK_of W0_f (CT := []) (cuts := []) trivial kc280_1_6_1e (fun cu h => by cases h) rfl
def kc146_1_7_1 : KT := ([.inl (.inr (.inr (some 0))), .inl (.inl 1), .inl (.inl 7), .inl (.inl 1)], some (.inr (true, 5, 5)), [], [], [(77, 16, .inr (false, 0, 9999))], [(77, 16, .inr (false, 0, 9999))], [], 2)
theorem kc146_1_7_1e : chkE JB [] [] kc146_1_7_1 1 146 = true := by decide +kernel
theorem kc146_1_7_1o {β : Nat} : KOK JB (W0 β) 146 kc146_1_7_1 := KOK_of W0_f (CT := []) (cuts := []) trivial kc146_1_7_1e (fun cu h => by cases h) rfl
def kc280_1_7_1 : KT := ([.inl (.inr (.inr (some 76))), .inl (.inl 1), .inl (.inl 7), .inl (.inl 1)], some (.inr (true, 5, 5)), [], [], [(77, 16, .inr (false, 0, 9999))], [(77, 16, .inr (false, 0, 9999))], [], 2)
theorem kc280_1_7_1e : chkE JB [] [] kc280_1_7_1 1 280 = true := by decide +kernel
theorem kc280_1_7_1o {β : Nat} : KOK JB (W0 β) 280 kc280_1_7_1 := KOK_of W0_f (CT := []) (cuts := []) trivial kc280_1_7_1e (fun cu h => by cases h) rfl
def kc146_1_8_1 : KT := ([.inl (.inr (.inr (some 0))), .inl (.inl 1), .inl (.inl 8), .inl (.inl 1)], some (.inr (true, 10, 10)), [], [], [(77, 16, .inr (false, 0, 9999))], [(77, 16, .inr (false, 0, 9999))], [], 2)
theorem kc146_1_8_1e : chkE JB [] [] kc146_1_8_1 1 146 = true := by decide +kernel
theorem kc146_1_8_1o {β : Nat} : KOK JB (W0 β) 146 kc146_1_8_1 := KOK_of W0_f (CT := []) (cuts := []) trivial kc146_1_8_1e (fun cu h => by cases h) rfl
def kc280_1_8_1 : KT := ([.inl (.inr (.inr (some 76))), .inl (.inl 1), .inl (.inl 8), .inl (.inl 1)], some (.inr (true, 10, 10)), [], [], [(77, 16, .inr (false, 0, 9999))], [(77, 16, .inr (false, 0, 9999))], [], 2)
theorem kc280_1_8_1e : chkE JB [] [] kc280_1_8_1 1 280 = true := by decide +kernel
theorem kc280_1_8_1o {β : Nat} : KOK JB (W0 β) 280 kc280_1_8_1 := KOK_of W0_f (CT := []) (cuts := []) trivial kc280_1_8_1e (fun cu h => by cases h) rfl
def kc146_1_9_1 : KT := ([.inl (.inr (.inr (some 0))), .inl (.inl 1), .inl (.inl 9), .inl (.inl 1)], some (.inr (true, 1, 1)), [], [], [(77, 16, .inr (false, 0, 9999))], [(77, 16, .inr (false, 0, 9999))], [], 2)
theorem kc146_1_9_1e : chkE JB [] [] kc146_1_9_1 1 146 = true := by decide +kernel
theorem kc146_1_9_1o {β : Nat} : KOK JB (W0 β) 146 kc146_1_9_1 := KOK_of W0_f (CT := []) (cuts := []) trivial kc146_1_9_1e (fun cu h => by cases h) rfl
def kc280_1_9_1 : KT := ([.inl (.inr (.inr (some 76))), .inl (.inl 1), .inl (.inl 9), .inl (.inl 1)], some (.inr (true, 1, 1)), [], [], [(77, 16, .inr (false, 0, 9999))], [(77, 16, .inr (false, 0, 9999))], [], 2)
theorem kc280_1_9_1e : chkE JB [] [] kc280_1_9_1 1 280 = true := by decide +kernel
theorem kc280_1_9_1o {β : Nat} : KOK JB (W0 β) 280 kc280_1_9_1 := KOK_of W0_f (CT := []) (cuts := []) trivial kc280_1_9_1e (fun cu h => by cases h) rfl
set_option maxHeartbeats 4000000 in
theorem kcc_1_1 {β L : Nat} {xs : Nat → Int} {h : AH} {q : Int} (h0 : 0 ≤ q) (h9 : q ≤ 9) (hL : LI β L xs h) : ∃ (z : Int) (h1 h2 : AH), LI β L xs h1 ∧ LI β L xs h2 ∧ (∀ Q : Option AV → AH → Prop, XC 1000 146 [vR 0, vI 1, vI q, vI 1] h Q = Q (some (vL z)) h1) ∧ ∀ Q : Option AV → AH → Prop, XC 1000 280 [vR 76, vI 1, vI q, vI 1] h1 Q = Q (some (vL z)) h2 := by
  by_cases d0 : q = 0
  · subst d0
    obtain ⟨r1, h1, ⟨v1, rfl, y1, rfl, e1, f1⟩, l1, E1⟩ := LI_k (kc146_1_0_1o (β := β)) (by decide +kernel) (by decide +kernel) (vs := [vR 0, vI 1, vI 0, vI 1]) ⟨_, _, rfl, rfl, _, _, rfl, rfl, _, _, rfl, rfl, _, _, rfl, rfl, rfl⟩ hL
    obtain ⟨r2, h2, ⟨v2, rfl, y2, rfl, e2, f2⟩, l2, E2⟩ := LI_k (kc280_1_0_1o (β := β)) (by decide +kernel) (by decide +kernel) (vs := [vR 76, vI 1, vI 0, vI 1]) ⟨_, _, rfl, rfl, _, _, rfl, rfl, _, _, rfl, rfl, _, _, rfl, rfl, rfl⟩ l1
    have e1 : (10 : Int) ≤ y1 := e1
    have f1 : y1 ≤ (10 : Int) := f1
    obtain rfl : y1 = 10 := Int.le_antisymm f1 e1
    have e2 : (10 : Int) ≤ y2 := e2
    have f2 : y2 ≤ (10 : Int) := f2
    obtain rfl : y2 = 10 := Int.le_antisymm f2 e2
    exact ⟨_, h1, h2, l1, l2, E1, E2⟩
  by_cases d1 : q = 1
  · subst d1
    obtain ⟨r1, h1, ⟨v1, rfl, y1, rfl, e1, f1⟩, l1, E1⟩ := LI_k (kc146_1_1_1o (β := β)) (by decide +kernel) (by decide +kernel) (vs := [vR 0, vI 1, vI 1, vI 1]) ⟨_, _, rfl, rfl, _, _, rfl, rfl, _, _, rfl, rfl, _, _, rfl, rfl, rfl⟩ hL
    obtain ⟨r2, h2, ⟨v2, rfl, y2, rfl, e2, f2⟩, l2, E2⟩ := LI_k (kc280_1_1_1o (β := β)) (by decide +kernel) (by decide +kernel) (vs := [vR 76, vI 1, vI 1, vI 1]) ⟨_, _, rfl, rfl, _, _, rfl, rfl, _, _, rfl, rfl, _, _, rfl, rfl, rfl⟩ l1
    have e1 : (5 : Int) ≤ y1 := e1
    have f1 : y1 ≤ (5 : Int) := f1
    obtain rfl : y1 = 5 := Int.le_antisymm f1 e1
    have e2 : (5 : Int) ≤ y2 := e2
    have f2 : y2 ≤ (5 : Int) := f2
    obtain rfl : y2 = 5 := Int.le_antisymm f2 e2
    exact ⟨_, h1, h2, l1, l2, E1, E2⟩
  by_cases d2 : q = 2
  · subst d2
    obtain ⟨r1, h1, ⟨v1, rfl, y1, rfl, e1, f1⟩, l1, E1⟩ := LI_k (kc146_1_2_1o (β := β)) (by decide +kernel) (by decide +kernel) (vs := [vR 0, vI 1, vI 2, vI 1]) ⟨_, _, rfl, rfl, _, _, rfl, rfl, _, _, rfl, rfl, _, _, rfl, rfl, rfl⟩ hL
    obtain ⟨r2, h2, ⟨v2, rfl, y2, rfl, e2, f2⟩, l2, E2⟩ := LI_k (kc280_1_2_1o (β := β)) (by decide +kernel) (by decide +kernel) (vs := [vR 76, vI 1, vI 2, vI 1]) ⟨_, _, rfl, rfl, _, _, rfl, rfl, _, _, rfl, rfl, _, _, rfl, rfl, rfl⟩ l1
    have e1 : (10 : Int) ≤ y1 := e1
    have f1 : y1 ≤ (10 : Int) := f1
    obtain rfl : y1 = 10 := Int.le_antisymm f1 e1
    have e2 : (10 : Int) ≤ y2 := e2
    have f2 : y2 ≤ (10 : Int) := f2
    obtain rfl : y2 = 10 := Int.le_antisymm f2 e2
    exact ⟨_, h1, h2, l1, l2, E1, E2⟩
  by_cases d3 : q = 3
  · subst d3
    obtain ⟨r1, h1, ⟨v1, rfl, y1, rfl, e1, f1⟩, l1, E1⟩ := LI_k (kc146_1_3_1o (β := β)) (by decide +kernel) (by decide +kernel) (vs := [vR 0, vI 1, vI 3, vI 1]) ⟨_, _, rfl, rfl, _, _, rfl, rfl, _, _, rfl, rfl, _, _, rfl, rfl, rfl⟩ hL
    obtain ⟨r2, h2, ⟨v2, rfl, y2, rfl, e2, f2⟩, l2, E2⟩ := LI_k (kc280_1_3_1o (β := β)) (by decide +kernel) (by decide +kernel) (vs := [vR 76, vI 1, vI 3, vI 1]) ⟨_, _, rfl, rfl, _, _, rfl, rfl, _, _, rfl, rfl, _, _, rfl, rfl, rfl⟩ l1
    have e1 : (5 : Int) ≤ y1 := e1
    have f1 : y1 ≤ (5 : Int) := f1
    obtain rfl : y1 = 5 := Int.le_antisymm f1 e1
    have e2 : (5 : Int) ≤ y2 := e2
    have f2 : y2 ≤ (5 : Int) := f2
    obtain rfl : y2 = 5 := Int.le_antisymm f2 e2
    exact ⟨_, h1, h2, l1, l2, E1, E2⟩
  by_cases d4 : q = 4
  · subst d4
    obtain ⟨r1, h1, ⟨v1, rfl, y1, rfl, e1, f1⟩, l1, E1⟩ := LI_k (kc146_1_4_1o (β := β)) (by decide +kernel) (by decide +kernel) (vs := [vR 0, vI 1, vI 4, vI 1]) ⟨_, _, rfl, rfl, _, _, rfl, rfl, _, _, rfl, rfl, _, _, rfl, rfl, rfl⟩ hL
    obtain ⟨r2, h2, ⟨v2, rfl, y2, rfl, e2, f2⟩, l2, E2⟩ := LI_k (kc280_1_4_1o (β := β)) (by decide +kernel) (by decide +kernel) (vs := [vR 76, vI 1, vI 4, vI 1]) ⟨_, _, rfl, rfl, _, _, rfl, rfl, _, _, rfl, rfl, _, _, rfl, rfl, rfl⟩ l1
    have e1 : (2 : Int) ≤ y1 := e1
    have f1 : y1 ≤ (2 : Int) := f1
    obtain rfl : y1 = 2 := Int.le_antisymm f1 e1
    have e2 : (2 : Int) ≤ y2 := e2
    have f2 : y2 ≤ (2 : Int) := f2
    obtain rfl : y2 = 2 := Int.le_antisymm f2 e2
    exact ⟨_, h1, h2, l1, l2, E1, E2⟩
  by_cases d5 : q = 5
  · subst d5
    obtain ⟨r1, h1, ⟨v1, rfl, y1, rfl, e1, f1⟩, l1, E1⟩ := LI_k (kc146_1_5_1o (β := β)) (by decide +kernel) (by decide +kernel) (vs := [vR 0, vI 1, vI 5, vI 1]) ⟨_, _, rfl, rfl, _, _, rfl, rfl, _, _, rfl, rfl, _, _, rfl, rfl, rfl⟩ hL
    obtain ⟨r2, h2, ⟨v2, rfl, y2, rfl, e2, f2⟩, l2, E2⟩ := LI_k (kc280_1_5_1o (β := β)) (by decide +kernel) (by decide +kernel) (vs := [vR 76, vI 1, vI 5, vI 1]) ⟨_, _, rfl, rfl, _, _, rfl, rfl, _, _, rfl, rfl, _, _, rfl, rfl, rfl⟩ l1
    have e1 : (5 : Int) ≤ y1 := e1
    have f1 : y1 ≤ (5 : Int) := f1
    obtain rfl : y1 = 5 := Int.le_antisymm f1 e1
    have e2 : (5 : Int) ≤ y2 := e2
    have f2 : y2 ≤ (5 : Int) := f2
    obtain rfl : y2 = 5 := Int.le_antisymm f2 e2
    exact ⟨_, h1, h2, l1, l2, E1, E2⟩
  by_cases d6 : q = 6
  · subst d6
    obtain ⟨r1, h1, ⟨v1, rfl, y1, rfl, e1, f1⟩, l1, E1⟩ := LI_k (kc146_1_6_1o (β := β)) (by decide +kernel) (by decide +kernel) (vs := [vR 0, vI 1, vI 6, vI 1]) ⟨_, _, rfl, rfl, _, _, rfl, rfl, _, _, rfl, rfl, _, _, rfl, rfl, rfl⟩ hL
    obtain ⟨r2, h2, ⟨v2, rfl, y2, rfl, e2, f2⟩, l2, E2⟩ := LI_k (kc280_1_6_1o (β := β)) (by decide +kernel) (by decide +kernel) (vs := [vR 76, vI 1, vI 6, vI 1]) ⟨_, _, rfl, rfl, _, _, rfl, rfl, _, _, rfl, rfl, _, _, rfl, rfl, rfl⟩ l1
    have e1 : (10 : Int) ≤ y1 := e1
    have f1 : y1 ≤ (10 : Int) := f1
    obtain rfl : y1 = 10 := Int.le_antisymm f1 e1
    have e2 : (10 : Int) ≤ y2 := e2
    have f2 : y2 ≤ (10 : Int) := f2
    obtain rfl : y2 = 10 := Int.le_antisymm f2 e2
    exact ⟨_, h1, h2, l1, l2, E1, E2⟩
  by_cases d7 : q = 7
  · subst d7
    obtain ⟨r1, h1, ⟨v1, rfl, y1, rfl, e1, f1⟩, l1, E1⟩ := LI_k (kc146_1_7_1o (β := β)) (by decide +kernel) (by decide +kernel) (vs := [vR 0, vI 1, vI 7, vI 1]) ⟨_, _, rfl, rfl, _, _, rfl, rfl, _, _, rfl, rfl, _, _, rfl, rfl, rfl⟩ hL
    obtain ⟨r2, h2, ⟨v2, rfl, y2, rfl, e2, f2⟩, l2, E2⟩ := LI_k (kc280_1_7_1o (β := β)) (by decide +kernel) (by decide +kernel) (vs := [vR 76, vI 1, vI 7, vI 1]) ⟨_, _, rfl, rfl, _, _, rfl, rfl, _, _, rfl, rfl, _, _, rfl, rfl, rfl⟩ l1
    have e1 : (5 : Int) ≤ y1 := e1
    have f1 : y1 ≤ (5 : Int) := f1
    obtain rfl : y1 = 5 := Int.le_antisymm f1 e1
    have e2 : (5 : Int) ≤ y2 := e2
    have f2 : y2 ≤ (5 : Int) := f2
    obtain rfl : y2 = 5 := Int.le_antisymm f2 e2
    exact ⟨_, h1, h2, l1, l2, E1, E2⟩
  by_cases d8 : q = 8
  · subst d8
    obtain ⟨r1, h1, ⟨v1, rfl, y1, rfl, e1, f1⟩, l1, E1⟩ := LI_k (kc146_1_8_1o (β := β)) (by decide +kernel) (by decide +kernel) (vs := [vR 0, vI 1, vI 8, vI 1]) ⟨_, _, rfl, rfl, _, _, rfl, rfl, _, _, rfl, rfl, _, _, rfl, rfl, rfl⟩ hL
    obtain ⟨r2, h2, ⟨v2, rfl, y2, rfl, e2, f2⟩, l2, E2⟩ := LI_k (kc280_1_8_1o (β := β)) (by decide +kernel) (by decide +kernel) (vs := [vR 76, vI 1, vI 8, vI 1]) ⟨_, _, rfl, rfl, _, _, rfl, rfl, _, _, rfl, rfl, _, _, rfl, rfl, rfl⟩ l1
    have e1 : (10 : Int) ≤ y1 := e1
    have f1 : y1 ≤ (10 : Int) := f1
    obtain rfl : y1 = 10 := Int.le_antisymm f1 e1
    have e2 : (10 : Int) ≤ y2 := e2
    have f2 : y2 ≤ (10 : Int) := f2
    obtain rfl : y2 = 10 := Int.le_antisymm f2 e2
    exact ⟨_, h1, h2, l1, l2, E1, E2⟩
  have d9 : q = 9 := by omega
  subst d9
  obtain ⟨r1, h1, ⟨v1, rfl, y1, rfl, e1, f1⟩, l1, E1⟩ := LI_k (kc146_1_9_1o (β := β)) (by decide +kernel) (by decide +kernel) (vs := [vR 0, vI 1, vI 9, vI 1]) ⟨_, _, rfl, rfl, _, _, rfl, rfl, _, _, rfl, rfl, _, _, rfl, rfl, rfl⟩ hL
  obtain ⟨r2, h2, ⟨v2, rfl, y2, rfl, e2, f2⟩, l2, E2⟩ := LI_k (kc280_1_9_1o (β := β)) (by decide +kernel) (by decide +kernel) (vs := [vR 76, vI 1, vI 9, vI 1]) ⟨_, _, rfl, rfl, _, _, rfl, rfl, _, _, rfl, rfl, _, _, rfl, rfl, rfl⟩ l1
  have e1 : (1 : Int) ≤ y1 := e1
  have f1 : y1 ≤ (1 : Int) := f1
  obtain rfl : y1 = 1 := Int.le_antisymm f1 e1
  have e2 : (1 : Int) ≤ y2 := e2
  have f2 : y2 ≤ (1 : Int) := f2
  obtain rfl : y2 = 1 := Int.le_antisymm f2 e2
  exact ⟨_, h1, h2, l1, l2, E1, E2⟩

def kc146_2_0_0 : KT := ([.inl (.inr (.inr (some 0))), .inl (.inl 2), .inl (.inl 0), .inl (.inl 0)], some (.inr (true, 1, 1)), [], [], [(77, 16, .inr (false, 0, 9999))], [(77, 16, .inr (false, 0, 9999))], [], 2)
theorem kc146_2_0_0e : chkE JB [] [] kc146_2_0_0 1 146 = true := by decide +kernel
theorem kc146_2_0_0o {β : Nat} : KOK JB (W0 β) 146 kc146_2_0_0 := KOK_of W0_f (CT := []) (cuts := []) trivial kc146_2_0_0e (fun cu h => by cases h) rfl
def kc280_2_0_0 : KT := ([.inl (.inr (.inr (some 76))), .inl (.inl 2), .inl (.inl 0), .inl (.inl 0)], some (.inr (true, 1, 1)), [], [], [(77, 16, .inr (false, 0, 9999))], [(77, 16, .inr (false, 0, 9999))], [], 2)
theorem kc280_2_0_0e : chkE JB [] [] kc280_2_0_0 1 280 = true := by decide +kernel
theorem kc280_2_0_0o {β : Nat} : KOK JB (W0 β) 280 kc280_2_0_0 := KOK_of W0_f (CT := []) (cuts := []) trivial kc280_2_0_0e (fun cu h => by cases h) rfl
def kc146_2_1_0 : KT := ([.inl (.inr (.inr (some 0))), .inl (.inl 2), .inl (.inl 1), .inl (.inl 0)], some (.inr (true, 1, 1)), [], [], [(77, 16, .inr (false, 0, 9999))], [(77, 16, .inr (false, 0, 9999))], [], 2)
theorem kc146_2_1_0e : chkE JB [] [] kc146_2_1_0 1 146 = true := by decide +kernel
theorem kc146_2_1_0o {β : Nat} : KOK JB (W0 β) 146 kc146_2_1_0 := KOK_of W0_f (CT := []) (cuts := []) trivial kc146_2_1_0e (fun cu h => by cases h) rfl
def kc280_2_1_0 : KT := ([.inl (.inr (.inr (some 76))), .inl (.inl 2), .inl (.inl 1), .inl (.inl 0)], some (.inr (true, 1, 1)), [], [], [(77, 16, .inr (false, 0, 9999))], [(77, 16, .inr (false, 0, 9999))], [], 2)
theorem kc280_2_1_0e : chkE JB [] [] kc280_2_1_0 1 280 = true := by decide +kernel
theorem kc280_2_1_0o {β : Nat} : KOK JB (W0 β) 280 kc280_2_1_0 := KOK_of W0_f (CT := []) (cuts := []) trivial kc280_2_1_0e (fun cu h => by cases h) rfl
def kc146_2_2_0 : KT := ([.inl (.inr (.inr (some 0))), .inl (.inl 2), .inl (.inl 2), .inl (.inl 0)], some (.inr (true, 9, 9)), [], [], [(77, 16, .inr (false, 0, 9999))], [(77, 16, .inr (false, 0, 9999))], [], 2)
theorem kc146_2_2_0e : chkE JB [] [] kc146_2_2_0 1 146 = true := by decide +kernel
theorem kc146_2_2_0o {β : Nat} : KOK JB (W0 β) 146 kc146_2_2_0 := KOK_of W0_f (CT := []) (cuts := []) trivial kc146_2_2_0e (fun cu h => by cases h) rfl
def kc280_2_2_0 : KT := ([.inl (.inr (.inr (some 76))), .inl (.inl 2), .inl (.inl 2), .inl (.inl 0)], some (.inr (true, 9, 9)), [], [], [(77, 16, .inr (false, 0, 9999))], [(77, 16, .inr (false, 0, 9999))], [], 2)
theorem kc280_2_2_0e : chkE JB [] [] kc280_2_2_0 1 280 = true := by decide +kernel
theorem kc280_2_2_0o {β : Nat} : KOK JB (W0 β) 280 kc280_2_2_0 := KOK_of W0_f (CT := []) (cuts := []) trivial kc280_2_2_0e (fun cu h => by cases h) rfl
def kc146_2_3_0 : KT := ([.inl (.inr (.inr (some 0))), .inl (.inl 2), .inl (.inl 3), .inl (.inl 0)], some (.inr (true, 4, 4)), [], [], [(77, 16, .inr (false, 0, 9999))], [(77, 16, .inr (false, 0, 9999))], [], 2)
theorem kc146_2_3_0e : chkE JB [] [] kc146_2_3_0 1 146 = true := by decide +kernel
theorem kc146_2_3_0o {β : Nat} : KOK JB (W0 β) 146 kc146_2_3_0 := KOK_of W0_f (CT := []) (cuts := []) trivial kc146_2_3_0e (fun cu h => by cases h) rfl
def kc280_2_3_0 : KT := ([.inl (.inr (.inr (some 76))), .inl (.inl 2), .inl (.inl 3), .inl (.inl 0)], some (.inr (true, 4, 4)), [], [], [(77, 16, .inr (false, 0, 9999))], [(77, 16, .inr (false, 0, 9999))], [], 2)
theorem kc280_2_3_0e : chkE JB [] [] kc280_2_3_0 1 280 = true := by decide +kernel
theorem kc280_2_3_0o {β : Nat} : KOK JB (W0 β) 280 kc280_2_3_0 := KOK_of W0_f (CT := []) (cuts := []) trivial kc280_2_3_0e (fun cu h => by cases h) rfl
def kc146_2_4_0 : KT := ([.inl (.inr (.inr (some 0))), .inl (.inl 2), .inl (.inl 4), .inl (.inl 0)], some (.inr (true, 1, 1)), [], [], [(77, 16, .inr (false, 0, 9999))], [(77, 16, .inr (false, 0, 9999))], [], 2)
theorem kc146_2_4_0e : chkE JB [] [] kc146_2_4_0 1 146 = true := by decide +kernel
theorem kc146_2_4_0o {β : Nat} : KOK JB (W0 β) 146 kc146_2_4_0 := KOK_of W0_f (CT := []) (cuts := []) trivial kc146_2_4_0e (fun cu h => by cases h) rfl
def kc280_2_4_0 : KT := ([.inl (.inr (.inr (some 76))), .inl (.inl 2), .inl (.inl 4), .inl (.inl 0)], some (.inr (true, 1, 1)), [], [], [(77, 16, .inr (false, 0, 9999))], [(77, 16, .inr (false, 0, 9999))], [], 2)
theorem kc280_2_4_0e : chkE JB [] [] kc280_2_4_0 1 280 = true := by decide +kernel
theorem kc280_2_4_0o {β : Nat} : KOK JB (W0 β) 280 kc280_2_4_0 := KOK_of W0_f (CT := []) (cuts := []) trivial kc280_2_4_0e (fun cu h => by cases h) rfl
def kc146_2_5_0 : KT := ([.inl (.inr (.inr (some 0))), .inl (.inl 2), .inl (.inl 5), .inl (.inl 0)], some (.inr (true, 9, 9)), [], [], [(77, 16, .inr (false, 0, 9999))], [(77, 16, .inr (false, 0, 9999))], [], 2)
theorem kc146_2_5_0e : chkE JB [] [] kc146_2_5_0 1 146 = true := by decide +kernel
theorem kc146_2_5_0o {β : Nat} : KOK JB (W0 β) 146 kc146_2_5_0 := KOK_of W0_f (CT := []) (cuts := []) trivial kc146_2_5_0e (fun cu h => by cases h) rfl
def kc280_2_5_0 : KT := ([.inl (.inr (.inr (some 76))), .inl (.inl 2), .inl (.inl 5), .inl (.inl 0)], some (.inr (true, 9, 9)), [], [], [(77, 16, .inr (false, 0, 9999))], [(77, 16, .inr (false, 0, 9999))], [], 2)
theorem kc280_2_5_0e : chkE JB [] [] kc280_2_5_0 1 280 = true := by decide +kernel
theorem kc280_2_5_0o {β : Nat} : KOK JB (W0 β) 280 kc280_2_5_0 := KOK_of W0_f (CT := []) (cuts := []) trivial kc280_2_5_0e (fun cu h => by cases h) rfl
def kc146_2_6_0 : KT := ([.inl (.inr (.inr (some 0))), .inl (.inl 2), .inl (.inl 6), .inl (.inl 0)], some (.inr (true, 49, 49)), [], [], [(77, 16, .inr (false, 0, 9999))], [(77, 16, .inr (false, 0, 9999))], [], 2)
theorem kc146_2_6_0e : chkE JB [] [] kc146_2_6_0 1 146 = true := by decide +kernel
theorem kc146_2_6_0o {β : Nat} : KOK JB (W0 β) 146 kc146_2_6_0 := KOK_of W0_f (CT := []) (cuts := []) trivial kc146_2_6_0e (fun cu h => by cases h) rfl
def kc280_2_6_0 : KT := ([.inl (.inr (.inr (some 76))), .inl (.inl 2), .inl (.inl 6), .inl (.inl 0)], some (.inr (true, 49, 49)), [], [], [(77, 16, .inr (false, 0, 9999))], [(77, 16, .inr (false, 0, 9999))], [], 2)
theorem kc280_2_6_0e : chkE JB [] [] kc280_2_6_0 1 280 = true := by decide +kernel
theorem kc280_2_6_0o {β : Nat} : KOK JB (W0 β) 280 kc280_2_6_0 := KOK_of W0_f (CT := []) (cuts := []) trivial kc280_2_6_0e (fun cu h => by cases h) rfl
def kc146_2_7_0 : KT := ([.inl (.inr (.inr (some 0))), .inl (.inl 2), .inl (.inl 7), .inl (.inl 0)], some (.inr (true, 16, 16)), [], [], [(77, 16, .inr (false, 0, 9999))], [(77, 16, .inr (false, 0, 9999))], [], 2)
theorem kc146_2_7_0e : chkE JB [] [] kc146_2_7_0 1 146 = true := by decide +kernel
theorem kc146_2_7_0o {β : Nat} : KOK JB (W0 β) 146 kc146_2_7_0 := KOK_of W0_f (CT := []) (cuts := []) trivial kc146_2_7_0e (fun cu h => by cases h) rfl
def kc280_2_7_0 : KT := ([.inl (.inr (.inr (some 76))), .inl (.inl 2), .inl (.inl 7), .inl (.inl 0)], some (.inr (true, 16, 16)), [], [], [(77, 16, .inr (false, 0, 9999))], [(77, 16, .inr (false, 0, 9999))], [], 2)
theorem kc280_2_7_0e : chkE JB [] [] kc280_2_7_0 1 280 = true := by decide +kernel
theorem kc280_2_7_0o {β : Nat} : KOK JB (W0 β) 280 kc280_2_7_0 := KOK_of W0_f (CT := []) (cuts := []) trivial kc280_2_7_0e (fun cu h => by cases h) rfl
def kc146_2_8_0 : KT := ([.inl (.inr (.inr (some 0))), .inl (.inl 2), .inl (.inl 8), .inl (.inl 0)], some (.inr (true, 81, 81)), [], [], [(77, 16, .inr (false, 0, 9999))], [(77, 16, .inr (false, 0, 9999))], [], 2)
theorem kc146_2_8_0e : chkE JB [] [] kc146_2_8_0 1 146 = true := by decide +kernel
theorem kc146_2_8_0o {β : Nat} : KOK JB (W0 β) 146 kc146_2_8_0 := KOK_of W0_f (CT := []) (cuts := []) trivial kc146_2_8_0e (fun cu h => by cases h) rfl
def kc280_2_8_0 : KT := ([.inl (.inr (.inr (some 76))), .inl (.inl 2), .inl (.inl 8), .inl (.inl 0)], some (.inr (true, 81, 81)), [], [], [(77, 16, .inr (false, 0, 9999))], [(77, 16, .inr (false, 0, 9999))], [], 2)
theorem kc280_2_8_0e : chkE JB [] [] kc280_2_8_0 1 280 = true := by decide +kernel
theorem kc280_2_8_0o {β : Nat} : KOK JB (W0 β) 280 kc280_2_8_0 := KOK_of W0_f (CT := []) (cuts := []) trivial kc280_2_8_0e (fun cu h => by cases h) rfl
def kc146_2_9_0 : KT := ([.inl (.inr (.inr (some 0))), .inl (.inl 2), .inl (.inl 9), .inl (.inl 0)], some (.inr (true, 1, 1)), [], [], [(77, 16, .inr (false, 0, 9999))], [(77, 16, .inr (false, 0, 9999))], [], 2)
theorem kc146_2_9_0e : chkE JB [] [] kc146_2_9_0 1 146 = true := by decide +kernel
theorem kc146_2_9_0o {β : Nat} : KOK JB (W0 β) 146 kc146_2_9_0 := KOK_of W0_f (CT := []) (cuts := []) trivial kc146_2_9_0e (fun cu h => by cases h) rfl
def kc280_2_9_0 : KT := ([.inl (.inr (.inr (some 76))), .inl (.inl 2), .inl (.inl 9), .inl (.inl 0)], some (.inr (true, 1, 1)), [], [], [(77, 16, .inr (false, 0, 9999))], [(77, 16, .inr (false, 0, 9999))], [], 2)
theorem kc280_2_9_0e : chkE JB [] [] kc280_2_9_0 1 280 = true := by decide +kernel
theorem kc280_2_9_0o {β : Nat} : KOK JB (W0 β) 280 kc280_2_9_0 := KOK_of W0_f (CT := []) (cuts := []) trivial kc280_2_9_0e (fun cu h => by cases h) rfl
set_option maxHeartbeats 4000000 in
theorem kcc_2_0 {β L : Nat} {xs : Nat → Int} {h : AH} {q : Int} (h0 : 0 ≤ q) (h9 : q ≤ 9) (hL : LI β L xs h) : ∃ (z : Int) (h1 h2 : AH), LI β L xs h1 ∧ LI β L xs h2 ∧ (∀ Q : Option AV → AH → Prop, XC 1000 146 [vR 0, vI 2, vI q, vI 0] h Q = Q (some (vL z)) h1) ∧ ∀ Q : Option AV → AH → Prop, XC 1000 280 [vR 76, vI 2, vI q, vI 0] h1 Q = Q (some (vL z)) h2 := by
  by_cases d0 : q = 0
  · subst d0
    obtain ⟨r1, h1, ⟨v1, rfl, y1, rfl, e1, f1⟩, l1, E1⟩ := LI_k (kc146_2_0_0o (β := β)) (by decide +kernel) (by decide +kernel) (vs := [vR 0, vI 2, vI 0, vI 0]) ⟨_, _, rfl, rfl, _, _, rfl, rfl, _, _, rfl, rfl, _, _, rfl, rfl, rfl⟩ hL
    obtain ⟨r2, h2, ⟨v2, rfl, y2, rfl, e2, f2⟩, l2, E2⟩ := LI_k (kc280_2_0_0o (β := β)) (by decide +kernel) (by decide +kernel) (vs := [vR 76, vI 2, vI 0, vI 0]) ⟨_, _, rfl, rfl, _, _, rfl, rfl, _, _, rfl, rfl, _, _, rfl, rfl, rfl⟩ l1
    have e1 : (1 : Int) ≤ y1 := e1
    have f1 : y1 ≤ (1 : Int) := f1
    obtain rfl : y1 = 1 := Int.le_antisymm f1 e1
    have e2 : (1 : Int) ≤ y2 := e2
    have f2 : y2 ≤ (1 : Int) := f2
    obtain rfl : y2 = 1 := Int.le_antisymm f2 e2
    exact ⟨_, h1, h2, l1, l2, E1, E2⟩
  by_cases d1 : q = 1
  · subst d1
    obtain ⟨r1, h1, ⟨v1, rfl, y1, rfl, e1, f1⟩, l1, E1⟩ := LI_k (kc146_2_1_0o (β := β)) (by decide +kernel) (by decide +kernel) (vs := [vR 0, vI 2, vI 1, vI 0]) ⟨_, _, rfl, rfl, _, _, rfl, rfl, _, _, rfl, rfl, _, _, rfl, rfl, rfl⟩ hL
    obtain ⟨r2, h2, ⟨v2, rfl, y2, rfl, e2, f2⟩, l2, E2⟩ := LI_k (kc280_2_1_0o (β := β)) (by decide +kernel) (by decide +kernel) (vs := [vR 76, vI 2, vI 1, vI 0]) ⟨_, _, rfl, rfl, _, _, rfl, rfl, _, _, rfl, rfl, _, _, rfl, rfl, rfl⟩ l1
    have e1 : (1 : Int) ≤ y1 := e1
    have f1 : y1 ≤ (1 : Int) := f1
    obtain rfl : y1 = 1 := Int.le_antisymm f1 e1
    have e2 : (1 : Int) ≤ y2 := e2
    have f2 : y2 ≤ (1 : Int) := f2
    obtain rfl : y2 = 1 := Int.le_antisymm f2 e2
    exact ⟨_, h1, h2, l1, l2, E1, E2⟩
  by_cases d2 : q = 2
  · subst d2
    obtain ⟨r1, h1, ⟨v1, rfl, y1, rfl, e1, f1⟩, l1, E1⟩ := LI_k (kc146_2_2_0o (β := β)) (by decide +kernel) (by decide +kernel) (vs := [vR 0, vI 2, vI 2, vI 0]) ⟨_, _, rfl, rfl, _, _, rfl, rfl, _, _, rfl, rfl, _, _, rfl, rfl, rfl⟩ hL
    obtain ⟨r2, h2, ⟨v2, rfl, y2, rfl, e2, f2⟩, l2, E2⟩ := LI_k (kc280_2_2_0o (β := β)) (by decide +kernel) (by decide +kernel) (vs := [vR 76, vI 2, vI 2, vI 0]) ⟨_, _, rfl, rfl, _, _, rfl, rfl, _, _, rfl, rfl, _, _, rfl, rfl, rfl⟩ l1
    have e1 : (9 : Int) ≤ y1 := e1
    have f1 : y1 ≤ (9 : Int) := f1
    obtain rfl : y1 = 9 := Int.le_antisymm f1 e1
    have e2 : (9 : Int) ≤ y2 := e2
    have f2 : y2 ≤ (9 : Int) := f2
    obtain rfl : y2 = 9 := Int.le_antisymm f2 e2
    exact ⟨_, h1, h2, l1, l2, E1, E2⟩
  by_cases d3 : q = 3
  · subst d3
    obtain ⟨r1, h1, ⟨v1, rfl, y1, rfl, e1, f1⟩, l1, E1⟩ := LI_k (kc146_2_3_0o (β := β)) (by decide +kernel) (by decide +kernel) (vs := [vR 0, vI 2, vI 3, vI 0]) ⟨_, _, rfl, rfl, _, _, rfl, rfl, _, _, rfl, rfl, _, _, rfl, rfl, rfl⟩ hL
    obtain ⟨r2, h2, ⟨v2, rfl, y2, rfl, e2, f2⟩, l2, E2⟩ := LI_k (kc280_2_3_0o (β := β)) (by decide +kernel) (by decide +kernel) (vs := [vR 76, vI 2, vI 3, vI 0]) ⟨_, _, rfl, rfl, _, _, rfl, rfl, _, _, rfl, rfl, _, _, rfl, rfl, rfl⟩ l1
    have e1 : (4 : Int) ≤ y1 := e1
    have f1 : y1 ≤ (4 : Int) := f1
    obtain rfl : y1 = 4 := Int.le_antisymm f1 e1
    have e2 : (4 : Int) ≤ y2 := e2
    have f2 : y2 ≤ (4 : Int) := f2
    obtain rfl : y2 = 4 := Int.le_antisymm f2 e2
    exact ⟨_, h1, h2, l1, l2, E1, E2⟩
  by_cases d4 : q = 4
  · subst d4
    obtain ⟨r1, h1, ⟨v1, rfl, y1, rfl, e1, f1⟩, l1, E1⟩ := LI_k (kc146_2_4_0o (β := β)) (by decide +kernel) (by decide +kernel) (vs := [vR 0, vI 2, vI 4, vI 0]) ⟨_, _, rfl, rfl, _, _, rfl, rfl, _, _, rfl, rfl, _, _, rfl, rfl, rfl⟩ hL
    obtain ⟨r2, h2, ⟨v2, rfl, y2, rfl, e2, f2⟩, l2, E2⟩ := LI_k (kc280_2_4_0o (β := β)) (by decide +kernel) (by decide +kernel) (vs := [vR 76, vI 2, vI 4, vI 0]) ⟨_, _, rfl, rfl, _, _, rfl, rfl, _, _, rfl, rfl, _, _, rfl, rfl, rfl⟩ l1
    have e1 : (1 : Int) ≤ y1 := e1
    have f1 : y1 ≤ (1 : Int) := f1
    obtain rfl : y1 = 1 := Int.le_antisymm f1 e1
    have e2 : (1 : Int) ≤ y2 := e2
    have f2 : y2 ≤ (1 : Int) := f2
    obtain rfl : y2 = 1 := Int.le_antisymm f2 e2
    exact ⟨_, h1, h2, l1, l2, E1, E2⟩
  by_cases d5 : q = 5
  · subst d5
    obtain ⟨r1, h1, ⟨v1, rfl, y1, rfl, e1, f1⟩, l1, E1⟩ := LI_k (kc146_2_5_0o (β := β)) (by decide +kernel) (by decide +kernel) (vs := [vR 0, vI 2, vI 5, vI 0]) ⟨_, _, rfl, rfl, _, _, rfl, rfl, _, _, rfl, rfl, _, _, rfl, rfl, rfl⟩ hL
    obtain ⟨r2, h2, ⟨v2, rfl, y2, rfl, e2, f2⟩, l2, E2⟩ := LI_k (kc280_2_5_0o (β := β)) (by decide +kernel) (by decide +kernel) (vs := [vR 76, vI 2, vI 5, vI 0]) ⟨_, _, rfl, rfl, _, _, rfl, rfl, _, _, rfl, rfl, _, _, rfl, rfl, rfl⟩ l1
    have e1 : (9 : Int) ≤ y1 := e1
    have f1 : y1 ≤ (9 : Int) := f1
    obtain rfl : y1 = 9 := Int.le_antisymm f1 e1
    have e2 : (9 : Int) ≤ y2 := e2
    have f2 : y2 ≤ (9 : Int) := f2
    obtain rfl : y2 = 9 := Int.le_antisymm f2 e2
    exact ⟨_, h1, h2, l1, l2, E1, E2⟩
  by_cases d6 : q = 6
  · subst d6
    obtain ⟨r1, h1, ⟨v1, rfl, y1, rfl, e1, f1⟩, l1, E1⟩ := LI_k (kc146_2_6_0o (β := β)) (by decide +kernel) (by decide +kernel) (vs := [vR 0, vI 2, vI 6, vI 0]) ⟨_, _, rfl, rfl, _, _, rfl, rfl, _, _, rfl, rfl, _, _, rfl, rfl, rfl⟩ hL
    obtain ⟨r2, h2, ⟨v2, rfl, y2, rfl, e2, f2⟩, l2, E2⟩ := LI_k (kc280_2_6_0o (β := β)) (by decide +kernel) (by decide +kernel) (vs := [vR 76, vI 2, vI 6, vI 0]) ⟨_, _, rfl, rfl, _, _, rfl, rfl, _, _, rfl, rfl, _, _, rfl, rfl, rfl⟩ l1
    have e1 : (49 : Int) ≤ y1 := e1
    have f1 : y1 ≤ (49 : Int) := f1
    obtain rfl : y1 = 49 := Int.le_antisymm f1 e1
    have e2 : (49 : Int) ≤ y2 := e2
    have f2 : y2 ≤ (49 : Int) := f2
    obtain rfl : y2 = 49 := Int.le_antisymm f2 e2
    exact ⟨_, h1, h2, l1, l2, E1, E2⟩
  by_cases d7 : q = 7
  · subst d7
    obtain ⟨r1, h1, ⟨v1, rfl, y1, rfl, e1, f1⟩, l1, E1⟩ := LI_k (kc146_2_7_0o (β := β)) (by decide +kernel) (by decide +kernel) (vs := [vR 0, vI 2, vI 7, vI 0]) ⟨_, _, rfl, rfl, _, _, rfl, rfl, _, _, rfl, rfl, _, _, rfl, rfl, rfl⟩ hL
    obtain ⟨r2, h2, ⟨v2, rfl, y2, rfl, e2, f2⟩, l2, E2⟩ := LI_k (kc280_2_7_0o (β := β)) (by decide +kernel) (by decide +kernel) (vs := [vR 76, vI 2, vI 7, vI 0]) ⟨_, _, rfl, rfl, _, _, rfl, rfl, _, _, rfl, rfl, _, _, rfl, rfl, rfl⟩ l1
    have e1 : (16 : Int) ≤ y1 := e1
    have f1 : y1 ≤ (16 : Int) := f1
    obtain rfl : y1 = 16 := Int.le_antisymm f1 e1
    have e2 : (16 : Int) ≤ y2 := e2
    have f2 : y2 ≤ (16 : Int) := f2
    obtain rfl : y2 = 16 := Int.le_antisymm f2 e2
    exact ⟨_, h1, h2, l1, l2, E1, E2⟩
  by_cases d8 : q = 8
  · subst d8
    obtain ⟨r1, h1, ⟨v1, rfl, y1, rfl, e1, f1⟩, l1, E1⟩ := LI_k (kc146_2_8_0o (β := β)) (by decide +kernel) (by decide +kernel) (vs := [vR 0, vI 2, vI 8, vI 0]) ⟨_, _, rfl, rfl, _, _, rfl, rfl, _, _, rfl, rfl, _, _, rfl, rfl, rfl⟩ hL
    obtain ⟨r2, h2, ⟨v2, rfl, y2, rfl, e2, f2⟩, l2, E2⟩ := LI_k (kc280_2_8_0o (β := β)) (by decide +kernel) (by decide +kernel) (vs := [vR 76, vI 2, vI 8, vI 0]) ⟨_, _, rfl, rfl, _, _, rfl, rfl, _, _, rfl, rfl, _, _, rfl, rfl, rfl⟩ l1
    have e1 : (81 : Int) ≤ y1 := e1
    have f1 : y1 ≤ (81 : Int) := f1
    obtain rfl : y1 = 81 := Int.le_antisymm f1 e1
    have e2 : (81 : Int) ≤ y2 := e2
    have f2 : y2 ≤ (81 : Int) := f2
    obtain rfl : y2 = 81 := Int.le_antisymm f2 e2
    exact ⟨_, h1, h2, l1, l2, E1, E2⟩
  have d9 : q = 9 := by omega
  subst d9
  obtain ⟨r1, h1, ⟨v1, rfl, y1, rfl, e1, f1⟩, l1, E1⟩ := LI_k (kc146_2_9_0o (β := β)) (by decide +kernel) (by decide +kernel) (vs := [vR 0, vI 2, vI 9, vI 0]) ⟨_, _, rfl, rfl, _, _, rfl, rfl, _, _, rfl, rfl, _, _, rfl, rfl, rfl⟩ hL
  obtain ⟨r2, h2, ⟨v2, rfl, y2, rfl, e2, f2⟩, l2, E2⟩ := LI_k (kc280_2_9_0o (β := β)) (by decide +kernel) (by decide +kernel) (vs := [vR 76, vI 2, vI 9, vI 0]) ⟨_, _, rfl, rfl, _, _, rfl, rfl, _, _, rfl, rfl, _, _, rfl, rfl, rfl⟩ l1
  have e1 : (1 : Int) ≤ y1 := e1
  have f1 : y1 ≤ (1 : Int) := f1
  obtain rfl : y1 = 1 := Int.le_antisymm f1 e1
  have e2 : (1 : Int) ≤ y2 := e2
  have f2 : y2 ≤ (1 : Int) := f2
  obtain rfl : y2 = 1 := Int.le_antisymm f2 e2
  exact ⟨_, h1, h2, l1, l2, E1, E2⟩
def kc146_2_0_1 : KT := ([.inl (.inr (.inr (some 0))), .inl (.inl 2), .inl (.inl 0), .inl (.inl 1)], some (.inr (true, 100, 100)), [], [], [(77, 16, .inr (false, 0, 9999))], [(77, 16, .inr (false, 0, 9999))], [], 2)
theorem kc146_2_0_1e : chkE JB [] [] kc146_2_0_1 1 146 = true := by decide +kernel
theorem kc146_2_0_1o {β : Nat} : KOK JB (W0 β) 146 kc146_2_0_1 := KOK_of W0_f (CT := []) (cuts := []) trivial kc146_2_0_1e (fun cu h => by cases h) rfl
def kc280_2_0_1 : KT := ([.inl (.inr (.inr (some 76))), .inl (.inl 2), .inl (.inl 0), .inl (.inl 1)], some (.inr (true, 100, 100)), [], [], [(77, 16, .inr (false, 0, 9999))], [(77, 16, .inr (false, 0, 9999))], [], 2)
theorem kc280_2_0_1e : chkE JB [] [] kc280_2_0_1 1 280 = true := by decide +kernel
theorem kc280_2_0_1o {β : Nat} : KOK JB (W0 β) 280 kc280_2_0_1 := KOK_of W0_f (CT := []) (cuts := []) trivial kc280_2_0_1e (fun cu h => by cases h) rfl
def kc146_2_1_1 : KT := ([.inl (.inr (.inr (some 0))), .inl (.inl 2), .inl (.inl 1), .inl (.inl 1)], some (.inr (true, 25, 25)), [], [], [(77, 16, .inr (false, 0, 9999))], [(77, 16, .inr (false, 0, 9999))], [], 2)
theorem kc146_2_1_1e : chkE JB [] [] kc146_2_1_1 1 146 = true := by decide +kernel
theorem kc146_2_1_1o {β : Nat} : KOK JB (W0 β) 146 kc146_2_1_1 := KOK_of W0_f (CT := []) (cuts := []) trivial kc146_2_1_1e (fun cu h => by cases h) rfl
def kc280_2_1_1 : KT := ([.inl (.inr (.inr (some 76))), .inl (.inl 2), .inl (.inl 1), .inl (.inl 1)], some (.inr (true, 25, 25)), [], [], [(77, 16, .inr (false, 0, 9999))], [(77, 16, .inr (false, 0, 9999))], [], 2)
theorem kc280_2_1_1e : chkE JB [] [] kc280_2_1_1 1 280 = true := by decide +kernel
theorem kc280_2_1_1o {β : Nat} : KOK JB (W0 β) 280 kc280_2_1_1 := KOK_of W0_f (CT := []) (cuts := []) trivial kc280_2_1_1e (fun cu h => by cases h) rfl
def kc146_2_2_1 : KT := ([.inl (.inr (.inr (some 0))), .inl (.inl 2), .inl (.inl 2), .inl (.inl 1)], some (.inr (true, 100, 100)), [], [], [(77, 16, .inr (false, 0, 9999))], [(77, 16, .inr (false, 0, 9999))], [], 2)
theorem kc146_2_2_1e : chkE JB [] [] kc146_2_2_1 1 146 = true := by decide +kernel
theorem kc146_2_2_1o {β : Nat} : KOK JB (W0 β) 146 kc146_2_2_1 := KOK_of W0_f (CT := []) (cuts := []) trivial kc146_2_2_1e (fun cu h => by cases h) rfl
def kc280_2_2_1 : KT := ([.inl (.inr (.inr (some 76))), .inl (.inl 2), .inl (.inl 2), .inl (.inl 1)], some (.inr (true, 100, 100)), [], [], [(77, 16, .inr (false, 0, 9999))], [(77, 16, .inr (false, 0, 9999))], [], 2)
theorem kc280_2_2_1e : chkE JB [] [] kc280_2_2_1 1 280 = true := by decide +kernel
theorem kc280_2_2_1o {β : Nat} : KOK JB (W0 β) 280 kc280_2_2_1 := KOK_of W0_f (CT := []) (cuts := []) trivial kc280_2_2_1e (fun cu h => by cases h) rfl
def kc146_2_3_1 : KT := ([.inl (.inr (.inr (some 0))), .inl (.inl 2), .inl (.inl 3), .inl (.inl 1)], some (.inr (true, 25, 25)), [], [], [(77, 16, .inr (false, 0, 9999))], [(77, 16, .inr (false, 0, 9999))], [], 2)
theorem kc146_2_3_1e : chkE JB [] [] kc146_2_3_1 1 146 = true := by decide +kernel
theorem kc146_2_3_1o {β : Nat} : KOK JB (W0 β) 146 kc146_2_3_1 := KOK_of W0_f (CT := []) (cuts := []) trivial kc146_2_3_1e (fun cu h => by cases h) rfl
def kc280_2_3_1 : KT := ([.inl (.inr (.inr (some 76))), .inl (.inl 2), .inl (.inl 3), .inl (.inl 1)], some (.inr (true, 25, 25)), [], [], [(77, 16, .inr (false, 0, 9999))], [(77, 16, .inr (false, 0, 9999))], [], 2)
theorem kc280_2_3_1e : chkE JB [] [] kc280_2_3_1 1 280 = true := by decide +kernel
theorem kc280_2_3_1o {β : Nat} : KOK JB (W0 β) 280 kc280_2_3_1 := KOK_of W0_f (CT := []) (cuts := []) trivial kc280_2_3_1e (fun cu h => by cases h) rfl
def kc146_2_4_1 : KT := ([.inl (.inr (.inr (some 0))), .inl (.inl 2), .inl (.inl 4), .inl (.inl 1)], some (.inr (true, 4, 4)), [], [], [(77, 16, .inr (false, 0, 9999))], [(77, 16, .inr (false, 0, 9999))], [], 2)
theorem kc146_2_4_1e : chkE JB [] [] kc146_2_4_1 1 146 = true := by decide +kernel
theorem kc146_2_4_1o {β : Nat} : KOK JB (W0 β) 146 kc146_2_4_1 := KOK_of W0_f (CT := []) (cuts := []) trivial kc146_2_4_1e (fun cu h => by cases h) rfl
def kc280_2_4_1 : KT := ([.inl (.inr (.inr (some 76))), .inl (.inl 2), .inl (.inl 4), .inl (.inl 1)], some (.inr (true, 4, 4)), [], [], [(77, 16, .inr (false, 0, 9999))], [(77, 16, .inr (false, 0, 9999))], [], 2)
theorem kc280_2_4_1e : chkE JB [] [] kc280_2_4_1 1 280 = true := by decide +kernel
theorem kc280_2_4_1o {β : Nat} : KOK JB (W0 β) 280 kc280_2_4_1 := KOK_of W0_f (CT := []) (cuts := []) trivial kc280_2_4_1e (fun cu h => by cases h) rfl
def kc146_2_5_1 : KT := ([.inl (.inr (.inr (some 0))), .inl (.inl 2), .inl (.inl 5), .inl (.inl 1)], some (.inr (true, 25, 25)), [], [], [(77, 16, .inr (false, 0, 9999))], [(77, 16, .inr (false, 0, 9999))], [], 2)
theorem kc146_2_5_1e : chkE JB [] [] kc146_2_5_1 1 146 = true := by decide +kernel
theorem kc146_2_5_1o {β : Nat} : KOK JB (W0 β) 146 kc146_2_5_1 := KOK_of W0_f (CT := []) (cuts := []) trivial kc146_2_5_1e (fun cu h => by cases h) rfl
def kc280_2_5_1 : KT := ([.inl (.inr (.inr (some 76))), .inl (.inl 2), .inl (.inl 5), .inl (.inl 1)], some (.inr (true, 25, 25)), [], [], [(77, 16, .inr (false, 0, 9999))], [(77, 16, .inr (false, 0, 9999))], [], 2)
theorem kc280_2_5_1e : chkE JB [] [] kc280_2_5_1 1 280 = true := by decide +kernel
theorem kc280_2_5_1o {β : Nat} : KOK JB (W0 β) 280 kc280_2_5_1 := KOK_of W0_f (CT := []) (cuts := []) trivial kc280_2_5_1e (fun cu h => by cases h) rfl
def kc146_2_6_1 : KT := ([.inl (.inr (.inr (some 0))), .inl (.inl 2), .inl (.inl 6), .inl (.inl 1)], some (.inr (true, 100, 100)), [], [], [(77, 16, .inr (false, 0, 9999))], [(77, 16, .inr (false, 0, 9999))], [], 2)
theorem kc146_2_6_1e : chkE JB [] [] kc146_2_6_1 1 146 = true := by decide +kernel
theorem kc146_2_6_1o {β : Nat} : KOK JB (W0 β) 146 kc146_2_6_1 := KOK_of W0_f (CT := []) (cuts := []) trivial kc146_2_6_1e (fun cu h => by cases h) rfl
def kc280_2_6_1 : KT := ([.inl (.inr (.inr (some 76))), .inl (.inl 2), .inl (.inl 6), .inl (.inl 1)], some (.inr (true, 100, 100)), [], [], [(77, 16, .inr (false, 0, 9999))], [(77, 16, .inr (false, 0, 9999))], [], 2)
theorem kc280_2_6_1e : chkE JB [] [] kc280_2_6_1 1 280 = true := by decide +kernel
theorem kc280_2_6_1o {β : Nat} : KOK JB (W0 β) 280 kc280_2_6_1 := KOK_of W0_f (CT := []) (cuts := []) trivial kc280_2_6_1e (fun cu h => by cases h) rfl
def kc146_2_7_1 : KT := ([.inl (.inr (.inr (some 0))), .inl (.inl 2), .inl (.inl 7), .inl (.inl 1)], some (.inr (true, 25, 25)), [], [], [(77, 16, .inr (false, 0, 9999))], [(77, 16, .inr (false, 0, 9999))], [], 2)
theorem kc146_2_7_1e : chkE JB [] [] kc146_2_7_1 1 146 = true := by decide +kernel
theorem kc146_2_7_1o {β : Nat} : KOK JB (W0 β) 146 kc146_2_7_1 := KOK_of W0_f (CT := []) (cuts := []) trivial kc146_2_7_1e (fun cu h => by cases h) rfl
def kc280_2_7_1 : KT := ([.inl (.inr (.inr (some 76))), .inl (.inl 2), .inl (.inl 7), .inl (.inl 1)], some (.inr (true, 25, 25)), [], [], [(77, 16, .inr (false, 0, 9999))], [(77, 16, .inr (false, 0, 9999))], [], 2)
theorem kc280_2_7_1e : chkE JB [] [] kc280_2_7_1 1 280 = true := by decide +kernel
theorem kc280_2_7_1o {β : Nat} : KOK JB (W0 β) 280 kc280_2_7_1 := KOK_of W0_f (CT := []) (cuts := []) trivial kc280_2_7_1e (fun cu h => by cases h) rfl
def kc146_2_8_1 : KT := ([.inl (.inr (.inr (some 0))), .inl (.inl 2), .inl (.inl 8), .inl (.inl 1)], some (.inr (true, 100, 100)), [], [], [(77, 16, .inr (false, 0, 9999))], [(77, 16, .inr (false, 0, 9999))], [], 2)
theorem kc146_2_8_1e : chkE JB [] [] kc146_2_8_1 1 146 = true := by decide +kernel
theorem kc146_2_8_1o {β : Nat} : KOK JB (W0 β) 146 kc146_2_8_1 := KOK_of W0_f (CT := []) (cuts := []) trivial kc146_2_8_1e (fun cu h => by cases h) rfl
def kc280_2_8_1 : KT := ([.inl (.inr (.inr (some 76))), .inl (.inl 2), .inl (.inl 8), .inl (.inl 1)], some (.inr (true, 100, 100)), [], [], [(77, 16, .inr (false, 0, 9999))], [(77, 16, .inr (false, 0, 9999))], [], 2)
theorem kc280_2_8_1e : chkE JB [] [] kc280_2_8_1 1 280 = true := by decide +kernel
theorem kc280_2_8_1o {β : Nat} : KOK JB (W0 β) 280 kc280_2_8_1 := KOK_of W0_f (CT := []) (cuts := []) trivial kc280_2_8_1e (fun cu h => by cases h) rfl
def kc146_2_9_1 : KT := ([.inl (.inr (.inr (some 0))), .inl (.inl 2), .inl (.inl 9), .inl (.inl 1)], some (.inr (true, 1, 1)), [], [], [(77, 16, .inr (false, 0, 9999))], [(77, 16, .inr (false, 0, 9999))], [], 2)
theorem kc146_2_9_1e : chkE JB [] [] kc146_2_9_1 1 146 = true := by decide +kernel
theorem kc146_2_9_1o {β : Nat} : KOK JB (W0 β) 146 kc146_2_9_1 := KOK_of W0_f (CT := []) (cuts := []) trivial kc146_2_9_1e (fun cu h => by cases h) rfl
def kc280_2_9_1 : KT := ([.inl (.inr (.inr (some 76))), .inl (.inl 2), .inl (.inl 9), .inl (.inl 1)], some (.inr (true, 1, 1)), [], [], [(77, 16, .inr (false, 0, 9999))], [(77, 16, .inr (false, 0, 9999))], [], 2)
theorem kc280_2_9_1e : chkE JB [] [] kc280_2_9_1 1 280 = true := by decide +kernel
theorem kc280_2_9_1o {β : Nat} : KOK JB (W0 β) 280 kc280_2_9_1 := KOK_of W0_f (CT := []) (cuts := []) trivial kc280_2_9_1e (fun cu h => by cases h) rfl
set_option maxHeartbeats 4000000 in
theorem kcc_2_1 {β L : Nat} {xs : Nat → Int} {h : AH} {q : Int} (h0 : 0 ≤ q) (h9 : q ≤ 9) (hL : LI β L xs h) : ∃ (z : Int) (h1 h2 : AH), LI β L xs h1 ∧ LI β L xs h2 ∧ (∀ Q : Option AV → AH → Prop, XC 1000 146 [vR 0, vI 2, vI q, vI 1] h Q = Q (some (vL z)) h1) ∧ ∀ Q : Option AV → AH → Prop, XC 1000 280 [vR 76, vI 2, vI q, vI 1] h1 Q = Q (some (vL z)) h2 := by
  by_cases d0 : q = 0
  · subst d0
    obtain ⟨r1, h1, ⟨v1, rfl, y1, rfl, e1, f1⟩, l1, E1⟩ := LI_k (kc146_2_0_1o (β := β)) (by decide +kernel) (by decide +kernel) (vs := [vR 0, vI 2, vI 0, vI 1]) ⟨_, _, rfl, rfl, _, _, rfl, rfl, _, _, rfl, rfl, _, _, rfl, rfl, rfl⟩ hL
    obtain ⟨r2, h2, ⟨v2, rfl, y2, rfl, e2, f2⟩, l2, E2⟩ := LI_k (kc280_2_0_1o (β := β)) (by decide +kernel) (by decide +kernel) (vs := [vR 76, vI 2, vI 0, vI 1]) ⟨_, _, rfl, rfl, _, _, rfl, rfl, _, _, rfl, rfl, _, _, rfl, rfl, rfl⟩ l1
    have e1 : (100 : Int) ≤ y1 := e1
    have f1 : y1 ≤ (100 : Int) := f1
    obtain rfl : y1 = 100 := Int.le_antisymm f1 e1
    have e2 : (100 : Int) ≤ y2 := e2
    have f2 : y2 ≤ (100 : Int) := f2
    obtain rfl : y2 = 100 := Int.le_antisymm f2 e2
    exact ⟨_, h1, h2, l1, l2, E1, E2⟩
  by_cases d1 : q = 1
  · subst d1
    obtain ⟨r1, h1, ⟨v1, rfl, y1, rfl, e1, f1⟩, l1, E1⟩ := LI_k (kc146_2_1_1o (β := β)) (by decide +kernel) (by decide +kernel) (vs := [vR 0, vI 2, vI 1, vI 1]) ⟨_, _, rfl, rfl, _, _, rfl, rfl, _, _, rfl, rfl, _, _, rfl, rfl, rfl⟩ hL
    obtain ⟨r2, h2, ⟨v2, rfl, y2, rfl, e2, f2⟩, l2, E2⟩ := LI_k (kc280_2_1_1o (β := β)) (by decide +kernel) (by decide +kernel) (vs := [vR 76, vI 2, vI 1, vI 1]) ⟨_, _, rfl, rfl, _, _, rfl, rfl, _, _, rfl, rfl, _, _, rfl, rfl, rfl⟩ l1
    have e1 : (25 : Int) ≤ y1 := e1
    have f1 : y1 ≤ (25 : Int) := f1
    obtain rfl : y1 = 25 := Int.le_antisymm f1 e1
    have e2 : (25 : Int) ≤ y2 := e2
    have f2 : y2 ≤ (25 : Int) := f2
    obtain rfl : y2 = 25 := Int.le_antisymm f2 e2
    exact ⟨_, h1, h2, l1, l2, E1, E2⟩
  by_cases d2 : q = 2
  · subst d2
    obtain ⟨r1, h1, ⟨v1, rfl, y1, rfl, e1, f1⟩, l1, E1⟩ := LI_k (kc146_2_2_1o (β := β)) (by decide +kernel) (by decide +kernel) (vs := [vR 0, vI 2, vI 2, vI 1]) ⟨_, _, rfl, rfl, _, _, rfl, rfl, _, _, rfl, rfl, _, _, rfl, rfl, rfl⟩ hL
    obtain ⟨r2, h2, ⟨v2, rfl, y2, rfl, e2, f2⟩, l2, E2⟩ := LI_k (kc280_2_2_1o (β := β)) (by decide +kernel) (by decide +kernel) (vs := [vR 76, vI 2, vI 2, vI 1]) ⟨_, _, rfl, rfl, _, _, rfl, rfl, _, _, rfl, rfl, _, _, rfl, rfl, rfl⟩ l1
    have e1 : (100 : Int) ≤ y1 := e1
    have f1 : y1 ≤ (100 : Int) := f1
    obtain rfl : y1 = 100 := Int.le_antisymm f1 e1
    have e2 : (100 : Int) ≤ y2 := e2
    have f2 : y2 ≤ (100 : Int) := f2
    obtain rfl : y2 = 100 := Int.le_antisymm f2 e2
    exact ⟨_, h1, h2, l1, l2, E1, E2⟩
  by_cases d3 : q = 3
  · subst d3
    obtain ⟨r1, h1, ⟨v1, rfl, y1, rfl, e1, f1⟩, l1, E1⟩ := LI_k (kc146_2_3_1o (β := β)) (by decide +kernel) (by decide +kernel) (vs := [vR 0, vI 2, vI 3, vI 1]) ⟨_, _, rfl, rfl, _, _, rfl, rfl, _, _, rfl, rfl, _, _, rfl, rfl, rfl⟩ hL
    obtain ⟨r2, h2, ⟨v2, rfl, y2, rfl, e2, f2⟩, l2, E2⟩ := LI_k (kc280_2_3_1o (β := β)) (by decide +kernel) (by decide +kernel) (vs := [vR 76, vI 2, vI 3, vI 1]) ⟨_, _, rfl, rfl, _, _, rfl, rfl, _, _, rfl, rfl, _, _, rfl, rfl, rfl⟩ l1
    have e1 : (25 : Int) ≤ y1 := e1
    have f1 : y1 ≤ (25 : Int) := f1
    obtain rfl : y1 = 25 := Int.le_antisymm f1 e1
    have e2 : (25 : Int) ≤ y2 := e2
    have f2 : y2 ≤ (25 : Int) := f2
    obtain rfl : y2 = 25 := Int.le_antisymm f2 e2
    exact ⟨_, h1, h2, l1, l2, E1, E2⟩
  by_cases d4 : q = 4
  · subst d4
    obtain ⟨r1, h1, ⟨v1, rfl, y1, rfl, e1, f1⟩, l1, E1⟩ := LI_k (kc146_2_4_1o (β := β)) (by decide +kernel) (by decide +kernel) (vs := [vR 0, vI 2, vI 4, vI 1]) ⟨_, _, rfl, rfl, _, _, rfl, rfl, _, _, rfl, rfl, _, _, rfl, rfl, rfl⟩ hL
    obtain ⟨r2, h2, ⟨v2, rfl, y2, rfl, e2, f2⟩, l2, E2⟩ := LI_k (kc280_2_4_1o (β := β)) (by decide +kernel) (by decide +kernel) (vs := [vR 76, vI 2, vI 4, vI 1]) ⟨_, _, rfl, rfl, _, _, rfl, rfl, _, _, rfl, rfl, _, _, rfl, rfl, rfl⟩ l1
    have e1 : (4 : Int) ≤ y1 := e1
    have f1 : y1 ≤ (4 : Int) := f1
    obtain rfl : y1 = 4 := Int.le_antisymm f1 e1
    have e2 : (4 : Int) ≤ y2 := e2
    have f2 : y2 ≤ (4 : Int) := f2
    obtain rfl : y2 = 4 := Int.le_antisymm f2 e2
    exact ⟨_, h1, h2, l1, l2, E1, E2⟩
  by_cases d5 : q = 5
  · subst d5
    obtain ⟨r1, h1, ⟨v1, rfl, y1, rfl, e1, f1⟩, l1, E1⟩ := LI_k (kc146_2_5_1o (β := β)) (by decide +kernel) (by decide +kernel) (vs := [vR 0, vI 2, vI 5, vI 1]) ⟨_, _, rfl, rfl, _, _, rfl, rfl, _, _, rfl, rfl, _, _, rfl, rfl, rfl⟩ hL
    obtain ⟨r2, h2, ⟨v2, rfl, y2, rfl, e2, f2⟩, l2, E2⟩ := LI_k (kc280_2_5_1o (β := β)) (by decide +kernel) (by decide +kernel) (vs := [vR 76, vI 2, vI 5, vI 1]) ⟨_, _, rfl, rfl, _, _, rfl, rfl, _, _, rfl, rfl, _, _, rfl, rfl, rfl⟩ l1
    have e1 : (25 : Int) ≤ y1 := e1
    have f1 : y1 ≤ (25 : Int) := f1
    obtain rfl : y1 = 25 := Int.le_antisymm f1 e1
    have e2 : (25 : Int) ≤ y2 := e2
    have f2 : y2 ≤ (25 : Int) := f2
    obtain rfl : y2 = 25 := Int.le_antisymm f2 e2
    exact ⟨_, h1, h2, l1, l2, E1, E2⟩
  by_cases d6 : q = 6
  · subst d6
    obtain ⟨r1, h1, ⟨v1, rfl, y1, rfl, e1, f1⟩, l1, E1⟩ := LI_k (kc146_2_6_1o (β := β)) (by decide +kernel) (by decide +kernel) (vs := [vR 0, vI 2, vI 6, vI 1]) ⟨_, _, rfl, rfl, _, _, rfl, rfl, _, _, rfl, rfl, _, _, rfl, rfl, rfl⟩ hL
    obtain ⟨r2, h2, ⟨v2, rfl, y2, rfl, e2, f2⟩, l2, E2⟩ := LI_k (kc280_2_6_1o (β := β)) (by decide +kernel) (by decide +kernel) (vs := [vR 76, vI 2, vI 6, vI 1]) ⟨_, _, rfl, rfl, _, _, rfl, rfl, _, _, rfl, rfl, _, _, rfl, rfl, rfl⟩ l1
    have e1 : (100 : Int) ≤ y1 := e1
    have f1 : y1 ≤ (100 : Int) := f1
    obtain rfl : y1 = 100 := Int.le_antisymm f1 e1
    have e2 : (100 : Int) ≤ y2 := e2
    have f2 : y2 ≤ (100 : Int) := f2
    obtain rfl : y2 = 100 := Int.le_antisymm f2 e2
    exact ⟨_, h1, h2, l1, l2, E1, E2⟩
  by_cases d7 : q = 7
  · subst d7
    obtain ⟨r1, h1, ⟨v1, rfl, y1, rfl, e1, f1⟩, l1, E1⟩ := LI_k (kc146_2_7_1o (β := β)) (by decide +kernel) (by decide +kernel) (vs := [vR 0, vI 2, vI 7, vI 1]) ⟨_, _, rfl, rfl, _, _, rfl, rfl, _, _, rfl, rfl, _, _, rfl, rfl, rfl⟩ hL
    obtain ⟨r2, h2, ⟨v2, rfl, y2, rfl, e2, f2⟩, l2, E2⟩ := LI_k (kc280_2_7_1o (β := β)) (by decide +kernel) (by decide +kernel) (vs := [vR 76, vI 2, vI 7, vI 1]) ⟨_, _, rfl, rfl, _, _, rfl, rfl, _, _, rfl, rfl, _, _, rfl, rfl, rfl⟩ l1
    have e1 : (25 : Int) ≤ y1 := e1
    have f1 : y1 ≤ (25 : Int) := f1
    obtain rfl : y1 = 25 := Int.le_antisymm f1 e1
    have e2 : (25 : Int) ≤ y2 := e2
    have f2 : y2 ≤ (25 : Int) := f2
    obtain rfl : y2 = 25 := Int.le_antisymm f2 e2
    exact ⟨_, h1, h2, l1, l2, E1, E2⟩
  by_cases d8 : q = 8
  · subst d8
    obtain ⟨r1, h1, ⟨v1, rfl, y1, rfl, e1, f1⟩, l1, E1⟩ := LI_k (kc146_2_8_1o (β := β)) (by decide +kernel) (by decide +kernel) (vs := [vR 0, vI 2, vI 8, vI 1]) ⟨_, _, rfl, rfl, _, _, rfl, rfl, _, _, rfl, rfl, _, _, rfl, rfl, rfl⟩ hL
    obtain ⟨r2, h2, ⟨v2, rfl, y2, rfl, e2, f2⟩, l2, E2⟩ := LI_k (kc280_2_8_1o (β := β)) (by decide +kernel) (by decide +kernel) (vs := [vR 76, vI 2, vI 8, vI 1]) ⟨_, _, rfl, rfl, _, _, rfl, rfl, _, _, rfl, rfl, _, _, rfl, rfl, rfl⟩ l1
    have e1 : (100 : Int) ≤ y1 := e1
    have f1 : y1 ≤ (100 : Int) := f1
    obtain rfl : y1 = 100 := Int.le_antisymm f1 e1
    have e2 : (100 : Int) ≤ y2 := e2
    have f2 : y2 ≤ (100 : Int) := f2
    obtain rfl : y2 = 100 := Int.le_antisymm f2 e2
    exact ⟨_, h1, h2, l1, l2, E1, E2⟩
  have d9 : q = 9 := by omega
  subst d9
  obtain ⟨r1, h1, ⟨v1, rfl, y1, rfl, e1, f1⟩, l1, E1⟩ := LI_k (kc146_2_9_1o (β := β)) (by decide +kernel) (by decide +kernel) (vs := [vR 0, vI 2, vI 9, vI 1]) ⟨_, _, rfl, rfl, _, _, rfl, rfl, _, _, rfl, rfl, _, _, rfl, rfl, rfl⟩ hL
  obtain ⟨r2, h2, ⟨v2, rfl, y2, rfl, e2, f2⟩, l2, E2⟩ := LI_k (kc280_2_9_1o (β := β)) (by decide +kernel) (by decide +kernel) (vs := [vR 76, vI 2, vI 9, vI 1]) ⟨_, _, rfl, rfl, _, _, rfl, rfl, _, _, rfl, rfl, _, _, rfl, rfl, rfl⟩ l1
  have e1 : (1 : Int) ≤ y1 := e1
  have f1 : y1 ≤ (1 : Int) := f1
  obtain rfl : y1 = 1 := Int.le_antisymm f1 e1
  have e2 : (1 : Int) ≤ y2 := e2
  have f2 : y2 ≤ (1 : Int) := f2
  obtain rfl : y2 = 1 := Int.le_antisymm f2 e2
  exact ⟨_, h1, h2, l1, l2, E1, E2⟩

def kc146_3_0_0 : KT := ([.inl (.inr (.inr (some 0))), .inl (.inl 3), .inl (.inl 0), .inl (.inl 0)], some (.inr (true, 1, 1)), [], [], [(77, 16, .inr (false, 0, 9999))], [(77, 16, .inr (false, 0, 9999))], [], 2)
theorem kc146_3_0_0e : chkE JB [] [] kc146_3_0_0 1 146 = true := by decide +kernel
theorem kc146_3_0_0o {β : Nat} : KOK JB (W0 β) 146 kc146_3_0_0 := KOK_of W0_f (CT := []) (cuts := []) trivial kc146_3_0_0e (fun cu h => by cases h) rfl
def kc280_3_0_0 : KT := ([.inl (.inr (.inr (some 76))), .inl (.inl 3), .inl (.inl 0), .inl (.inl 0)], some (.inr (true, 1, 1)), [], [], [(77, 16, .inr (false, 0, 9999))], [(77, 16, .inr (false, 0, 9999))], [], 2)
theorem kc280_3_0_0e : chkE JB [] [] kc280_3_0_0 1 280 = true := by decide +kernel
theorem kc280_3_0_0o {β : Nat} : KOK JB (W0 β) 280 kc280_3_0_0 := KOK_of W0_f (CT := []) (cuts := []) trivial kc280_3_0_0e (fun cu h => by cases h) rfl
def kc146_3_1_0 : KT := ([.inl (.inr (.inr (some 0))), .inl (.inl 3), .inl (.inl 1), .inl (.inl 0)], some (.inr (true, 1, 1)), [], [], [(77, 16, .inr (false, 0, 9999))], [(77, 16, .inr (false, 0, 9999))], [], 2)
theorem kc146_3_1_0e : chkE JB [] [] kc146_3_1_0 1 146 = true := by decide +kernel
theorem kc146_3_1_0o {β : Nat} : KOK JB (W0 β) 146 kc146_3_1_0 := KOK_of W0_f (CT := []) (cuts := []) trivial kc146_3_1_0e (fun cu h => by cases h) rfl
def kc280_3_1_0 : KT := ([.inl (.inr (.inr (some 76))), .inl (.inl 3), .inl (.inl 1), .inl (.inl 0)], some (.inr (true, 1, 1)), [], [], [(77, 16, .inr (false, 0, 9999))], [(77, 16, .inr (false, 0, 9999))], [], 2)
theorem kc280_3_1_0e : chkE JB [] [] kc280_3_1_0 1 280 = true := by decide +kernel
theorem kc280_3_1_0o {β : Nat} : KOK JB (W0 β) 280 kc280_3_1_0 := KOK_of W0_f (CT := []) (cuts := []) trivial kc280_3_1_0e (fun cu h => by cases h) rfl
def kc146_3_2_0 : KT := ([.inl (.inr (.inr (some 0))), .inl (.inl 3), .inl (.inl 2), .inl (.inl 0)], some (.inr (true, 27, 27)), [], [], [(77, 16, .inr (false, 0, 9999))], [(77, 16, .inr (false, 0, 9999))], [], 2)
theorem kc146_3_2_0e : chkE JB [] [] kc146_3_2_0 1 146 = true := by decide +kernel
theorem kc146_3_2_0o {β : Nat} : KOK JB (W0 β) 146 kc146_3_2_0 := KOK_of W0_f (CT := []) (cuts := []) trivial kc146_3_2_0e (fun cu h => by cases h) rfl
def kc280_3_2_0 : KT := ([.inl (.inr (.inr (some 76))), .inl (.inl 3), .inl (.inl 2), .inl (.inl 0)], some (.inr (true, 27, 27)), [], [], [(77, 16, .inr (false, 0, 9999))], [(77, 16, .inr (false, 0, 9999))], [], 2)
theorem kc280_3_2_0e : chkE JB [] [] kc280_3_2_0 1 280 = true := by decide +kernel
theorem kc280_3_2_0o {β : Nat} : KOK JB (W0 β) 280 kc280_3_2_0 := KOK_of W0_f (CT := []) (cuts := []) trivial kc280_3_2_0e (fun cu h => by cases h) rfl
def kc146_3_3_0 : KT := ([.inl (.inr (.inr (some 0))), .inl (.inl 3), .inl (.inl 3), .inl (.inl 0)], some (.inr (true, 8, 8)), [], [], [(77, 16, .inr (false, 0, 9999))], [(77, 16, .inr (false, 0, 9999))], [], 2)
theorem kc146_3_3_0e : chkE JB [] [] kc146_3_3_0 1 146 = true := by decide +kernel
theorem kc146_3_3_0o {β : Nat} : KOK JB (W0 β) 146 kc146_3_3_0 := KOK_of W0_f (CT := []) (cuts := []) trivial kc146_3_3_0e (fun cu h => by cases h) rfl
def kc280_3_3_0 : KT := ([.inl (.inr (.inr (some 76))), .inl (.inl 3), .inl (.inl 3), .inl (.inl 0)], some (.inr (true, 8, 8)), [], [], [(77, 16, .inr (false, 0, 9999))], [(77, 16, .inr (false, 0, 9999))], [], 2)
theorem kc280_3_3_0e : chkE JB [] [] kc280_3_3_0 1 280 = true := by decide +kernel
theorem kc280_3_3_0o {β : Nat} : KOK JB (W0 β) 280 kc280_3_3_0 := KOK_of W0_f (CT := []) (cuts := []) trivial kc280_3_3_0e (fun cu h => by cases h) rfl
def kc146_3_4_0 : KT := ([.inl (.inr (.inr (some 0))), .inl (.inl 3), .inl (.inl 4), .inl (.inl 0)], some (.inr (true, 1, 1)), [], [], [(77, 16, .inr (false, 0, 9999))], [(77, 16, .inr (false, 0, 9999))], [], 2)
theorem kc146_3_4_0e : chkE JB [] [] kc146_3_4_0 1 146 = true := by decide +kernel
theorem kc146_3_4_0o {β : Nat} : KOK JB (W0 β) 146 kc146_3_4_0 := KOK_of W0_f (CT := []) (cuts := []) trivial kc146_3_4_0e (fun cu h => by cases h) rfl
def kc280_3_4_0 : KT := ([.inl (.inr (.inr (some 76))), .inl (.inl 3), .inl (.inl 4), .inl (.inl 0)], some (.inr (true, 1, 1)), [], [], [(77, 16, .inr (false, 0, 9999))], [(77, 16, .inr (false, 0, 9999))], [], 2)
theorem kc280_3_4_0e : chkE JB [] [] kc280_3_4_0 1 280 = true := by decide +kernel
theorem kc280_3_4_0o {β : Nat} : KOK JB (W0 β) 280 kc280_3_4_0 := KOK_of W0_f (CT := []) (cuts := []) trivial kc280_3_4_0e (fun cu h => by cases h) rfl
def kc146_3_5_0 : KT := ([.inl (.inr (.inr (some 0))), .inl (.inl 3), .inl (.inl 5), .inl (.inl 0)], some (.inr (true, 27, 27)), [], [], [(77, 16, .inr (false, 0, 9999))], [(77, 16, .inr (false, 0, 9999))], [], 2)
theorem kc146_3_5_0e : chkE JB [] [] kc146_3_5_0 1 146 = true := by decide +kernel
theorem kc146_3_5_0o {β : Nat} : KOK JB (W0 β) 146 kc146_3_5_0 := KOK_of W0_f (CT := []) (cuts := []) trivial kc146_3_5_0e (fun cu h => by cases h) rfl
def kc280_3_5_0 : KT := ([.inl (.inr (.inr (some 76))), .inl (.inl 3), .inl (.inl 5), .inl (.inl 0)], some (.inr (true, 27, 27)), [], [], [(77, 16, .inr (false, 0, 9999))], [(77, 16, .inr (false, 0, 9999))], [], 2)
theorem kc280_3_5_0e : chkE JB [] [] kc280_3_5_0 1 280 = true := by decide +kernel
theorem kc280_3_5_0o {β : Nat} : KOK JB (W0 β) 280 kc280_3_5_0 := KOK_of W0_f (CT := []) (cuts := []) trivial kc280_3_5_0e (fun cu h => by cases h) rfl
def kc146_3_6_0 : KT := ([.inl (.inr (.inr (some 0))), .inl (.inl 3), .inl (.inl 6), .inl (.inl 0)], some (.inr (true, 343, 343)), [], [], [(77, 16, .inr (false, 0, 9999))], [(77, 16, .inr (false, 0, 9999))], [], 2)
theorem kc146_3_6_0e : chkE JB [] [] kc146_3_6_0 1 146 = true := by decide +kernel
theorem kc146_3_6_0o {β : Nat} : KOK JB (W0 β) 146 kc146_3_6_0 := KOK_of W0_f (CT := []) (cuts := []) trivial kc146_3_6_0e (fun cu h => by cases h) rfl
def kc280_3_6_0 : KT := ([.inl (.inr (.inr (some 76))), .inl (.inl 3), .inl (.inl 6), .inl (.inl 0)], some (.inr (true, 343, 343)), [], [], [(77, 16, .inr (false, 0, 9999))], [(77, 16, .inr (false, 0, 9999))], [], 2)
theorem kc280_3_6_0e : chkE JB [] [] kc280_3_6_0 1 280 = true := by decide +kernel
theorem kc280_3_6_0o {β : Nat} : KOK JB (W0 β) 280 kc280_3_6_0 := KOK_of W0_f (CT := []) (cuts := []) trivial kc280_3_6_0e (fun cu h => by cases h) rfl
def kc146_3_7_0 : KT := ([.inl (.inr (.inr (some 0))), .inl (.inl 3), .inl (.inl 7), .inl (.inl 0)], some (.inr (true, 64, 64)), [], [], [(77, 16, .inr (false, 0, 9999))], [(77, 16, .inr (false, 0, 9999))], [], 2)
theorem kc146_3_7_0e : chkE JB [] [] kc146_3_7_0 1 146 = true := by decide +kernel
theorem kc146_3_7_0o {β : Nat} : KOK JB (W0 β) 146 kc146_3_7_0 := KOK_of W0_f (CT := []) (cuts := []) trivial kc146_3_7_0e (fun cu h => by cases h) rfl
def kc280_3_7_0 : KT := ([.inl (.inr (.inr (some 76))), .inl (.inl 3), .inl (.inl 7), .inl (.inl 0)], some (.inr (true, 64, 64)), [], [], [(77, 16, .inr (false, 0, 9999))], [(77, 16, .inr (false, 0, 9999))], [], 2)
theorem kc280_3_7_0e : chkE JB [] [] kc280_3_7_0 1 280 = true := by decide +kernel
theorem kc280_3_7_0o {β : Nat} : KOK JB (W0 β) 280 kc280_3_7_0 := KOK_of W0_f (CT := []) (cuts := []) trivial kc280_3_7_0e (fun cu h => by cases h) rfl
def kc146_3_8_0 : KT := ([.inl (.inr (.inr (some 0))), .inl (.inl 3), .inl (.inl 8), .inl (.inl 0)], some (.inr (true, 729, 729)), [], [], [(77, 16, .inr (false, 0, 9999))], [(77, 16, .inr (false, 0, 9999))], [], 2)
theorem kc146_3_8_0e : chkE JB [] [] kc146_3_8_0 1 146 = true := by decide +kernel
theorem kc146_3_8_0o {β : Nat} : KOK JB (W0 β) 146 kc146_3_8_0 := KOK_of W0_f (CT := []) (cuts := []) trivial kc146_3_8_0e (fun cu h => by cases h) rfl
def kc280_3_8_0 : KT := ([.inl (.inr (.inr (some 76))), .inl (.inl 3), .inl (.inl 8), .inl (.inl 0)], some (.inr (true, 729, 729)), [], [], [(77, 16, .inr (false, 0, 9999))], [(77, 16, .inr (false, 0, 9999))], [], 2)
theorem kc280_3_8_0e : chkE JB [] [] kc280_3_8_0 1 280 = true := by decide +kernel
theorem kc280_3_8_0o {β : Nat} : KOK JB (W0 β) 280 kc280_3_8_0 := KOK_of W0_f (CT := []) (cuts := []) trivial kc280_3_8_0e (fun cu h => by cases h) rfl
def kc146_3_9_0 : KT := ([.inl (.inr (.inr (some 0))), .inl (.inl 3), .inl (.inl 9), .inl (.inl 0)], some (.inr (true, 1, 1)), [], [], [(77, 16, .inr (false, 0, 9999))], [(77, 16, .inr (false, 0, 9999))], [], 2)
theorem kc146_3_9_0e : chkE JB [] [] kc146_3_9_0 1 146 = true := by decide +kernel
theorem kc146_3_9_0o {β : Nat} : KOK JB (W0 β) 146 kc146_3_9_0 := KOK_of W0_f (CT := []) (cuts := []) trivial kc146_3_9_0e (fun cu h => by cases h) rfl
def kc280_3_9_0 : KT := ([.inl (.inr (.inr (some 76))), .inl (.inl 3), .inl (.inl 9), .inl (.inl 0)], some (.inr (true, 1, 1)), [], [], [(77, 16, .inr (false, 0, 9999))], [(77, 16, .inr (false, 0, 9999))], [], 2)
theorem kc280_3_9_0e : chkE JB [] [] kc280_3_9_0 1 280 = true := by decide +kernel
theorem kc280_3_9_0o {β : Nat} : KOK JB (W0 β) 280 kc280_3_9_0 := KOK_of W0_f (CT := []) (cuts := []) trivial kc280_3_9_0e (fun cu h => by cases h) rfl
set_option maxHeartbeats 4000000 in
theorem kcc_3_0 {β L : Nat} {xs : Nat → Int} {h : AH} {q : Int} (h0 : 0 ≤ q) (h9 : q ≤ 9) (hL : LI β L xs h) : ∃ (z : Int) (h1 h2 : AH), LI β L xs h1 ∧ LI β L xs h2 ∧ (∀ Q : Option AV → AH → Prop, XC 1000 146 [vR 0, vI 3, vI q, vI 0] h Q = Q (some (vL z)) h1) ∧ ∀ Q : Option AV → AH → Prop, XC 1000 280 [vR 76, vI 3, vI q, vI 0] h1 Q = Q (some (vL z)) h2 := by
  by_cases d0 : q = 0
  · subst d0
    obtain ⟨r1, h1, ⟨v1, rfl, y1, rfl, e1, f1⟩, l1, E1⟩ := LI_k (kc146_3_0_0o (β := β)) (by decide +kernel) (by decide +kernel) (vs := [vR 0, vI 3, vI 0, vI 0]) ⟨_, _, rfl, rfl, _, _, rfl, rfl, _, _, rfl, rfl, _, _, rfl, rfl, rfl⟩ hL
    obtain ⟨r2, h2, ⟨v2, rfl, y2, rfl, e2, f2⟩, l2, E2⟩ := LI_k (kc280_3_0_0o (β := β)) (by decide +kernel) (by decide +kernel) (vs := [vR 76, vI 3, vI 0, vI 0]) ⟨_, _, rfl, rfl, _, _, rfl, rfl, _, _, rfl, rfl, _, _, rfl, rfl, rfl⟩ l1
    have e1 : (1 : Int) ≤ y1 := e1
    have f1 : y1 ≤ (1 : Int) := f1
    obtain rfl : y1 = 1 := Int.le_antisymm f1 e1
    have e2 : (1 : Int) ≤ y2 := e2
    have f2 : y2 ≤ (1 : Int) := f2
    obtain rfl : y2 = 1 := Int.le_antisymm f2 e2
    exact ⟨_, h1, h2, l1, l2, E1, E2⟩
  by_cases d1 : q = 1
  · subst d1
    obtain ⟨r1, h1, ⟨v1, rfl, y1, rfl, e1, f1⟩, l1, E1⟩ := LI_k (kc146_3_1_0o (β := β)) (by decide +kernel) (by decide +kernel) (vs := [vR 0, vI 3, vI 1, vI 0]) ⟨_, _, rfl, rfl, _, _, rfl, rfl, _, _, rfl, rfl, _, _, rfl, rfl, rfl⟩ hL
    obtain ⟨r2, h2, ⟨v2, rfl, y2, rfl, e2, f2⟩, l2, E2⟩ := LI_k (kc280_3_1_0o (β := β)) (by decide +kernel) (by decide +kernel) (vs := [vR 76, vI 3, vI 1, vI 0]) ⟨_, _, rfl, rfl, _, _, rfl, rfl, _, _, rfl, rfl, _, _, rfl, rfl, rfl⟩ l1
    have e1 : (1 : Int) ≤ y1 := e1
    have f1 : y1 ≤ (1 : Int) := f1
    obtain rfl : y1 = 1 := Int.le_antisymm f1 e1
    have e2 : (1 : Int) ≤ y2 := e2
    have f2 : y2 ≤ (1 : Int) := f2
    obtain rfl : y2 = 1 := Int.le_antisymm f2 e2
    exact ⟨_, h1, h2, l1, l2, E1, E2⟩
  by_cases d2 : q = 2
  · subst d2
    obtain ⟨r1, h1, ⟨v1, rfl, y1, rfl, e1, f1⟩, l1, E1⟩ := LI_k (kc146_3_2_0o (β := β)) (by decide +kernel) (by decide +kernel) (vs := [vR 0, vI 3, vI 2, vI 0]) ⟨_, _, rfl, rfl, _, _, rfl, rfl, _, _, rfl, rfl, _, _, rfl, rfl, rfl⟩ hL
    obtain ⟨r2, h2, ⟨v2, rfl, y2, rfl, e2, f2⟩, l2, E2⟩ := LI_k (kc280_3_2_0o (β := β)) (by decide +kernel) (by decide +kernel) (vs := [vR 76, vI 3, vI 2, vI 0]) ⟨_, _, rfl, rfl, _, _, rfl, rfl, _, _, rfl, rfl, _, _, rfl, rfl, rfl⟩ l1
    have e1 : (27 : Int) ≤ y1 := e1
    have f1 : y1 ≤ (27 : Int) := f1
    obtain rfl : y1 = 27 := Int.le_antisymm f1 e1
    have e2 : (27 : Int) ≤ y2 := e2
    have f2 : y2 ≤ (27 : Int) := f2
    obtain rfl : y2 = 27 := Int.le_antisymm f2 e2
    exact ⟨_, h1, h2, l1, l2, E1, E2⟩
  by_cases d3 : q = 3
  · subst d3
    obtain ⟨r1, h1, ⟨v1, rfl, y1, rfl, e1, f1⟩, l1, E1⟩ := LI_k (kc146_3_3_0o (β := β)) (by decide +kernel) (by decide +kernel) (vs := [vR 0, vI 3, vI 3, vI 0]) ⟨_, _, rfl, rfl, _, _, rfl, rfl, _, _, rfl, rfl, _, _, rfl, rfl, rfl⟩ hL
    obtain ⟨r2, h2, ⟨v2, rfl, y2, rfl, e2, f2⟩, l2, E2⟩ := LI_k (kc280_3_3_0o (β := β)) (by decide +kernel) (by decide +kernel) (vs := [vR 76, vI 3, vI 3, vI 0]) ⟨_, _, rfl, rfl, _, _, rfl, rfl, _, _, rfl, rfl, _, _, rfl, rfl, rfl⟩ l1
    have e1 : (8 : Int) ≤ y1 := e1
    have f1 : y1 ≤ (8 : Int) := f1
    obtain rfl : y1 = 8 := Int.le_antisymm f1 e1
    have e2 : (8 : Int) ≤ y2 := e2
    have f2 : y2 ≤ (8 : Int) := f2
    obtain rfl : y2 = 8 := Int.le_antisymm f2 e2
    exact ⟨_, h1, h2, l1, l2, E1, E2⟩
  by_cases d4 : q = 4
  · subst d4
    obtain ⟨r1, h1, ⟨v1, rfl, y1, rfl, e1, f1⟩, l1, E1⟩ := LI_k (kc146_3_4_0o (β := β)) (by decide +kernel) (by decide +kernel) (vs := [vR 0, vI 3, vI 4, vI 0]) ⟨_, _, rfl, rfl, _, _, rfl, rfl, _, _, rfl, rfl, _, _, rfl, rfl, rfl⟩ hL
    obtain ⟨r2, h2, ⟨v2, rfl, y2, rfl, e2, f2⟩, l2, E2⟩ := LI_k (kc280_3_4_0o (β := β)) (by decide +kernel) (by decide +kernel) (vs := [vR 76, vI 3, vI 4, vI 0]) ⟨_, _, rfl, rfl, _, _, rfl, rfl, _, _, rfl, rfl, _, _, rfl, rfl, rfl⟩ l1
    have e1 : (1 : Int) ≤ y1 := e1
    have f1 : y1 ≤ (1 : Int) := f1
    obtain rfl : y1 = 1 := Int.le_antisymm f1 e1
    have e2 : (1 : Int) ≤ y2 := e2
    have f2 : y2 ≤ (1 : Int) := f2
    obtain rfl : y2 = 1 := Int.le_antisymm f2 e2
    exact ⟨_, h1, h2, l1, l2, E1, E2⟩
  by_cases d5 : q = 5
  · subst d5
    obtain ⟨r1, h1, ⟨v1, rfl, y1, rfl, e1, f1⟩, l1, E1⟩ := LI_k (kc146_3_5_0o (β := β)) (by decide +kernel) (by decide +kernel) (vs := [vR 0, vI 3, vI 5, vI 0]) ⟨_, _, rfl, rfl, _, _, rfl, rfl, _, _, rfl, rfl, _, _, rfl, rfl, rfl⟩ hL
    obtain ⟨r2, h2, ⟨v2, rfl, y2, rfl, e2, f2⟩, l2, E2⟩ := LI_k (kc280_3_5_0o (β := β)) (by decide +kernel) (by decide +kernel) (vs := [vR 76, vI 3, vI 5, vI 0]) ⟨_, _, rfl, rfl, _, _, rfl, rfl, _, _, rfl, rfl, _, _, rfl, rfl, rfl⟩ l1
    have e1 : (27 : Int) ≤ y1 := e1
    have f1 : y1 ≤ (27 : Int) := f1
    obtain rfl : y1 = 27 := Int.le_antisymm f1 e1
    have e2 : (27 : Int) ≤ y2 := e2
    have f2 : y2 ≤ (27 : Int) := f2
    obtain rfl : y2 = 27 := Int.le_antisymm f2 e2
    exact ⟨_, h1, h2, l1, l2, E1, E2⟩
  by_cases d6 : q = 6
  · subst d6
    obtain ⟨r1, h1, ⟨v1, rfl, y1, rfl, e1, f1⟩, l1, E1⟩ := LI_k (kc146_3_6_0o (β := β)) (by decide +kernel) (by decide +kernel) (vs := [vR 0, vI 3, vI 6, vI 0]) ⟨_, _, rfl, rfl, _, _, rfl, rfl, _, _, rfl, rfl, _, _, rfl, rfl, rfl⟩ hL
    obtain ⟨r2, h2, ⟨v2, rfl, y2, rfl, e2, f2⟩, l2, E2⟩ := LI_k (kc280_3_6_0o (β := β)) (by decide +kernel) (by decide +kernel) (vs := [vR 76, vI 3, vI 6, vI 0]) ⟨_, _, rfl, rfl, _, _, rfl, rfl, _, _, rfl, rfl, _, _, rfl, rfl, rfl⟩ l1
    have e1 : (343 : Int) ≤ y1 := e1
    have f1 : y1 ≤ (343 : Int) := f1
    obtain rfl : y1 = 343 := Int.le_antisymm f1 e1
    have e2 : (343 : Int) ≤ y2 := e2
    have f2 : y2 ≤ (343 : Int) := f2
    obtain rfl : y2 = 343 := Int.le_antisymm f2 e2
    exact ⟨_, h1, h2, l1, l2, E1, E2⟩
  by_cases d7 : q = 7
  · subst d7
    obtain ⟨r1, h1, ⟨v1, rfl, y1, rfl, e1, f1⟩, l1, E1⟩ := LI_k (kc146_3_7_0o (β := β)) (by decide +kernel) (by decide +kernel) (vs := [vR 0, vI 3, vI 7, vI 0]) ⟨_, _, rfl, rfl, _, _, rfl, rfl, _, _, rfl, rfl, _, _, rfl, rfl, rfl⟩ hL
    obtain ⟨r2, h2, ⟨v2, rfl, y2, rfl, e2, f2⟩, l2, E2⟩ := LI_k (kc280_3_7_0o (β := β)) (by decide +kernel) (by decide +kernel) (vs := [vR 76, vI 3, vI 7, vI 0]) ⟨_, _, rfl, rfl, _, _, rfl, rfl, _, _, rfl, rfl, _, _, rfl, rfl, rfl⟩ l1
    have e1 : (64 : Int) ≤ y1 := e1
    have f1 : y1 ≤ (64 : Int) := f1
    obtain rfl : y1 = 64 := Int.le_antisymm f1 e1
    have e2 : (64 : Int) ≤ y2 := e2
    have f2 : y2 ≤ (64 : Int) := f2
    obtain rfl : y2 = 64 := Int.le_antisymm f2 e2
    exact ⟨_, h1, h2, l1, l2, E1, E2⟩
  by_cases d8 : q = 8
  · subst d8
    obtain ⟨r1, h1, ⟨v1, rfl, y1, rfl, e1, f1⟩, l1, E1⟩ := LI_k (kc146_3_8_0o (β := β)) (by decide +kernel) (by decide +kernel) (vs := [vR 0, vI 3, vI 8, vI 0]) ⟨_, _, rfl, rfl, _, _, rfl, rfl, _, _, rfl, rfl, _, _, rfl, rfl, rfl⟩ hL
    obtain ⟨r2, h2, ⟨v2, rfl, y2, rfl, e2, f2⟩, l2, E2⟩ := LI_k (kc280_3_8_0o (β := β)) (by decide +kernel) (by decide +kernel) (vs := [vR 76, vI 3, vI 8, vI 0]) ⟨_, _, rfl, rfl, _, _, rfl, rfl, _, _, rfl, rfl, _, _, rfl, rfl, rfl⟩ l1
    have e1 : (729 : Int) ≤ y1 := e1
    have f1 : y1 ≤ (729 : Int) := f1
    obtain rfl : y1 = 729 := Int.le_antisymm f1 e1
    have e2 : (729 : Int) ≤ y2 := e2
    have f2 : y2 ≤ (729 : Int) := f2
    obtain rfl : y2 = 729 := Int.le_antisymm f2 e2
    exact ⟨_, h1, h2, l1, l2, E1, E2⟩
  have d9 : q = 9 := by omega
  subst d9
  obtain ⟨r1, h1, ⟨v1, rfl, y1, rfl, e1, f1⟩, l1, E1⟩ := LI_k (kc146_3_9_0o (β := β)) (by decide +kernel) (by decide +kernel) (vs := [vR 0, vI 3, vI 9, vI 0]) ⟨_, _, rfl, rfl, _, _, rfl, rfl, _, _, rfl, rfl, _, _, rfl, rfl, rfl⟩ hL
  obtain ⟨r2, h2, ⟨v2, rfl, y2, rfl, e2, f2⟩, l2, E2⟩ := LI_k (kc280_3_9_0o (β := β)) (by decide +kernel) (by decide +kernel) (vs := [vR 76, vI 3, vI 9, vI 0]) ⟨_, _, rfl, rfl, _, _, rfl, rfl, _, _, rfl, rfl, _, _, rfl, rfl, rfl⟩ l1
  have e1 : (1 : Int) ≤ y1 := e1
  have f1 : y1 ≤ (1 : Int) := f1
  obtain rfl : y1 = 1 := Int.le_antisymm f1 e1
  have e2 : (1 : Int) ≤ y2 := e2
  have f2 : y2 ≤ (1 : Int) := f2
  obtain rfl : y2 = 1 := Int.le_antisymm f2 e2
  exact ⟨_, h1, h2, l1, l2, E1, E2⟩
def kc146_3_0_1 : KT := ([.inl (.inr (.inr (some 0))), .inl (.inl 3), .inl (.inl 0), .inl (.inl 1)], some (.inr (true, 1000, 1000)), [], [], [(77, 16, .inr (false, 0, 9999))], [(77, 16, .inr (false, 0, 9999))], [], 2)
theorem kc146_3_0_1e : chkE JB [] [] kc146_3_0_1 1 146 = true := by decide +kernel
theorem kc146_3_0_1o {β : Nat} : KOK JB (W0 β) 146 kc146_3_0_1 := KOK_of W0_f (CT := []) (cuts := []) trivial kc146_3_0_1e (fun cu h => by cases h) rfl
def kc280_3_0_1 : KT := ([.inl (.inr (.inr (some 76))), .inl (.inl 3), .inl (.inl 0), .inl (.inl 1)], some (.inr (true, 1000, 1000)), [], [], [(77, 16, .inr (false, 0, 9999))], [(77, 16, .inr (false, 0, 9999))], [], 2)
theorem kc280_3_0_1e : chkE JB [] [] kc280_3_0_1 1 280 = true := by decide +kernel
theorem kc280_3_0_1o {β : Nat} : KOK JB (W0 β) 280 kc280_3_0_1 := KOK_of W0_f (CT := []) (cuts := []) trivial kc280_3_0_1e (fun cu h => by cases h) rfl
def kc146_3_1_1 : KT := ([.inl (.inr (.inr (some 0))), .inl (.inl 3), .inl (.inl 1), .inl (.inl 1)], some (.inr (true, 125, 125)), [], [], [(77, 16, .inr (false, 0, 9999))], [(77, 16, .inr (false, 0, 9999))], [], 2)
theorem kc146_3_1_1e : chkE JB [] [] kc146_3_1_1 1 146 = true := by decide +kernel
theorem kc146_3_1_1o {β : Nat} : KOK JB (W0 β) 146 kc146_3_1_1 := KOK_of W0_f (CT := []) (cuts := []) trivial kc146_3_1_1e (fun cu h => by cases h) rfl
def kc280_3_1_1 : KT := ([.inl (.inr (.inr (some 76))), .inl (.inl 3), .inl (.inl 1), .inl (.inl 1)], some (.inr (true, 125, 125)), [], [], [(77, 16, .inr (false, 0, 9999))], [(77, 16, .inr (false, 0, 9999))], [], 2)
theorem kc280_3_1_1e : chkE JB [] [] kc280_3_1_1 1 280 = true := by decide +kernel
theorem kc280_3_1_1o {β : Nat} : KOK JB (W0 β) 280 kc280_3_1_1 := KOK_of W0_f (CT := []) (cuts := []) trivial kc280_3_1_1e (fun cu h => by cases h) rfl
def kc146_3_2_1 : KT := ([.inl (.inr (.inr (some 0))), .inl (.inl 3), .inl (.inl 2), .inl (.inl 1)], some (.inr (true, 1000, 1000)), [], [], [(77, 16, .inr (false, 0, 9999))], [(77, 16, .inr (false, 0, 9999))], [], 2)
theorem kc146_3_2_1e : chkE JB [] [] kc146_3_2_1 1 146 = true := by decide +kernel
theorem kc146_3_2_1o {β : Nat} : KOK JB (W0 β) 146 kc146_3_2_1 := KOK_of W0_f (CT := []) (cuts := []) trivial kc146_3_2_1e (fun cu h => by cases h) rfl
def kc280_3_2_1 : KT := ([.inl (.inr (.inr (some 76))), .inl (.inl 3), .inl (.inl 2), .inl (.inl 1)], some (.inr (true, 1000, 1000)), [], [], [(77, 16, .inr (false, 0, 9999))], [(77, 16, .inr (false, 0, 9999))], [], 2)
theorem kc280_3_2_1e : chkE JB [] [] kc280_3_2_1 1 280 = true := by decide +kernel
theorem kc280_3_2_1o {β : Nat} : KOK JB (W0 β) 280 kc280_3_2_1 := KOK_of W0_f (CT := []) (cuts := []) trivial kc280_3_2_1e (fun cu h => by cases h) rfl
def kc146_3_3_1 : KT := ([.inl (.inr (.inr (some 0))), .inl (.inl 3), .inl (.inl 3), .inl (.inl 1)], some (.inr (true, 125, 125)), [], [], [(77, 16, .inr (false, 0, 9999))], [(77, 16, .inr (false, 0, 9999))], [], 2)
theorem kc146_3_3_1e : chkE JB [] [] kc146_3_3_1 1 146 = true := by decide +kernel
theorem kc146_3_3_1o {β : Nat} : KOK JB (W0 β) 146 kc146_3_3_1 := KOK_of W0_f (CT := []) (cuts := []) trivial kc146_3_3_1e (fun cu h => by cases h) rfl
def kc280_3_3_1 : KT := ([.inl (.inr (.inr (some 76))), .inl (.inl 3), .inl (.inl 3), .inl (.inl 1)], some (.inr (true, 125, 125)), [], [], [(77, 16, .inr (false, 0, 9999))], [(77, 16, .inr (false, 0, 9999))], [], 2)
theorem kc280_3_3_1e : chkE JB [] [] kc280_3_3_1 1 280 = true := by decide +kernel
theorem kc280_3_3_1o {β : Nat} : KOK JB (W0 β) 280 kc280_3_3_1 := KOK_of W0_f (CT := []) (cuts := []) trivial kc280_3_3_1e (fun cu h => by cases h) rfl
def kc146_3_4_1 : KT := ([.inl (.inr (.inr (some 0))), .inl (.inl 3), .inl (.inl 4), .inl (.inl 1)], some (.inr (true, 8, 8)), [], [], [(77, 16, .inr (false, 0, 9999))], [(77, 16, .inr (false, 0, 9999))], [], 2)
theorem kc146_3_4_1e : chkE JB [] [] kc146_3_4_1 1 146 = true := by decide +kernel
theorem kc146_3_4_1o {β : Nat} : KOK JB (W0 β) 146 kc146_3_4_1 := KOK_of W0_f (CT := []) (cuts := []) trivial kc146_3_4_1e (fun cu h => by cases h) rfl
def kc280_3_4_1 : KT := ([.inl (.inr (.inr (some 76))), .inl (.inl 3), .inl (.inl 4), .inl (.inl 1)], some (.inr (true, 8, 8)), [], [], [(77, 16, .inr (false, 0, 9999))], [(77, 16, .inr (false, 0, 9999))], [], 2)
theorem kc280_3_4_1e : chkE JB [] [] kc280_3_4_1 1 280 = true := by decide +kernel
theorem kc280_3_4_1o {β : Nat} : KOK JB (W0 β) 280 kc280_3_4_1 := KOK_of W0_f (CT := []) (cuts := []) trivial kc280_3_4_1e (fun cu h => by cases h) rfl
def kc146_3_5_1 : KT := ([.inl (.inr (.inr (some 0))), .inl (.inl 3), .inl (.inl 5), .inl (.inl 1)], some (.inr (true, 125, 125)), [], [], [(77, 16, .inr (false, 0, 9999))], [(77, 16, .inr (false, 0, 9999))], [], 2)
theorem kc146_3_5_1e : chkE JB [] [] kc146_3_5_1 1 146 = true := by decide +kernel
theorem kc146_3_5_1o {β : Nat} : KOK JB (W0 β) 146 kc146_3_5_1 := KOK_of W0_f (CT := []) (cuts := []) trivial kc146_3_5_1e (fun cu h => by cases h) rfl
def kc280_3_5_1 : KT := ([.inl (.inr (.inr (some 76))), .inl (.inl 3), .inl (.inl 5), .inl (.inl 1)], some (.inr (true, 125, 125)), [], [], [(77, 16, .inr (false, 0, 9999))], [(77, 16, .inr (false, 0, 9999))], [], 2)
theorem kc280_3_5_1e : chkE JB [] [] kc280_3_5_1 1 280 = true := by decide +kernel
theorem kc280_3_5_1o {β : Nat} : KOK JB (W0 β) 280 kc280_3_5_1 := KOK_of W0_f (CT := []) (cuts := []) trivial kc280_3_5_1e (fun cu h => by cases h) rfl
def kc146_3_6_1 : KT := ([.inl (.inr (.inr (some 0))), .inl (.inl 3), .inl (.inl 6), .inl (.inl 1)], some (.inr (true, 1000, 1000)), [], [], [(77, 16, .inr (false, 0, 9999))], [(77, 16, .inr (false, 0, 9999))], [], 2)
theorem kc146_3_6_1e : chkE JB [] [] kc146_3_6_1 1 146 = true := by decide +kernel
theorem kc146_3_6_1o {β : Nat} : KOK JB (W0 β) 146 kc146_3_6_1 := KOK_of W0_f (CT := []) (cuts := []) trivial kc146_3_6_1e (fun cu h => by cases h) rfl
def kc280_3_6_1 : KT := ([.inl (.inr (.inr (some 76))), .inl (.inl 3), .inl (.inl 6), .inl (.inl 1)], some (.inr (true, 1000, 1000)), [], [], [(77, 16, .inr (false, 0, 9999))], [(77, 16, .inr (false, 0, 9999))], [], 2)
theorem kc280_3_6_1e : chkE JB [] [] kc280_3_6_1 1 280 = true := by decide +kernel
theorem kc280_3_6_1o {β : Nat} : KOK JB (W0 β) 280 kc280_3_6_1 := KOK_of W0_f (CT := []) (cuts := []) trivial kc280_3_6_1e (fun cu h => by cases h) rfl
def kc146_3_7_1 : KT := ([.inl (.inr (.inr (some 0))), .inl (.inl 3), .inl (.inl 7), .inl (.inl 1)], some (.inr (true, 125, 125)), [], [], [(77, 16, .inr (false, 0, 9999))], [(77, 16, .inr (false, 0, 9999))], [], 2)
theorem kc146_3_7_1e : chkE JB [] [] kc146_3_7_1 1 146 = true := by decide +kernel
theorem kc146_3_7_1o {β : Nat} : KOK JB (W0 β) 146 kc146_3_7_1 := KOK_of W0_f (CT := []) (cuts := []) trivial kc146_3_7_1e (fun cu h => by cases h) rfl
def kc280_3_7_1 : KT := ([.inl (.inr (.inr (some 76))), .inl (.inl 3), .inl (.inl 7), .inl (.inl 1)], some (.inr (true, 125, 125)), [], [], [(77, 16, .inr (false, 0, 9999))], [(77, 16, .inr (false, 0, 9999))], [], 2)
theorem kc280_3_7_1e : chkE JB [] [] kc280_3_7_1 1 280 = true := by decide +kernel
theorem kc280_3_7_1o {β : Nat} : KOK JB (W0 β) 280 kc280_3_7_1 := KOK_of W0_f (CT := []) (cuts := []) trivial kc280_3_7_1e (fun cu h => by cases h) rfl
def kc146_3_8_1 : KT := ([.inl (.inr (.inr (some 0))), .inl (.inl 3), .inl (.inl 8), .inl (.inl 1)], some (.inr (true, 1000, 1000)), [], [], [(77, 16, .inr (false, 0, 9999))], [(77, 16, .inr (false, 0, 9999))], [], 2)
theorem kc146_3_8_1e : chkE JB [] [] kc146_3_8_1 1 146 = true := by decide +kernel
theorem kc146_3_8_1o {β : Nat} : KOK JB (W0 β) 146 kc146_3_8_1 := KOK_of W0_f (CT := []) (cuts := []) trivial kc146_3_8_1e (fun cu h => by cases h) rfl
def kc280_3_8_1 : KT := ([.inl (.inr (.inr (some 76))), .inl (.inl 3), .inl (.inl 8), .inl (.inl 1)], some (.inr (true, 1000, 1000)), [], [], [(77, 16, .inr (false, 0, 9999))], [(77, 16, .inr (false, 0, 9999))], [], 2)
theorem kc280_3_8_1e : chkE JB [] [] kc280_3_8_1 1 280 = true := by decide +kernel
theorem kc280_3_8_1o {β : Nat} : KOK JB (W0 β) 280 kc280_3_8_1 := KOK_of W0_f (CT := []) (cuts := []) trivial kc280_3_8_1e (fun cu h => by cases h) rfl
def kc146_3_9_1 : KT := ([.inl (.inr (.inr (some 0))), .inl (.inl 3), .inl (.inl 9), .inl (.inl 1)], some (.inr (true, 1, 1)), [], [], [(77, 16, .inr (false, 0, 9999))], [(77, 16, .inr (false, 0, 9999))], [], 2)
theorem kc146_3_9_1e : chkE JB [] [] kc146_3_9_1 1 146 = true := by decide +kernel
theorem kc146_3_9_1o {β : Nat} : KOK JB (W0 β) 146 kc146_3_9_1 := KOK_of W0_f (CT := []) (cuts := []) trivial kc146_3_9_1e (fun cu h => by cases h) rfl
def kc280_3_9_1 : KT := ([.inl (.inr (.inr (some 76))), .inl (.inl 3), .inl (.inl 9), .inl (.inl 1)], some (.inr (true, 1, 1)), [], [], [(77, 16, .inr (false, 0, 9999))], [(77, 16, .inr (false, 0, 9999))], [], 2)
theorem kc280_3_9_1e : chkE JB [] [] kc280_3_9_1 1 280 = true := by decide +kernel
theorem kc280_3_9_1o {β : Nat} : KOK JB (W0 β) 280 kc280_3_9_1 := KOK_of W0_f (CT := []) (cuts := []) trivial kc280_3_9_1e (fun cu h => by cases h) rfl
set_option maxHeartbeats 4000000 in
theorem kcc_3_1 {β L : Nat} {xs : Nat → Int} {h : AH} {q : Int} (h0 : 0 ≤ q) (h9 : q ≤ 9) (hL : LI β L xs h) : ∃ (z : Int) (h1 h2 : AH), LI β L xs h1 ∧ LI β L xs h2 ∧ (∀ Q : Option AV → AH → Prop, XC 1000 146 [vR 0, vI 3, vI q, vI 1] h Q = Q (some (vL z)) h1) ∧ ∀ Q : Option AV → AH → Prop, XC 1000 280 [vR 76, vI 3, vI q, vI 1] h1 Q = Q (some (vL z)) h2 := by
  by_cases d0 : q = 0
  · subst d0
    obtain ⟨r1, h1, ⟨v1, rfl, y1, rfl, e1, f1⟩, l1, E1⟩ := LI_k (kc146_3_0_1o (β := β)) (by decide +kernel) (by decide +kernel) (vs := [vR 0, vI 3, vI 0, vI 1]) ⟨_, _, rfl, rfl, _, _, rfl, rfl, _, _, rfl, rfl, _, _, rfl, rfl, rfl⟩ hL
    obtain ⟨r2, h2, ⟨v2, rfl, y2, rfl, e2, f2⟩, l2, E2⟩ := LI_k (kc280_3_0_1o (β := β)) (by decide +kernel) (by decide +kernel) (vs := [vR 76, vI 3, vI 0, vI 1]) ⟨_, _, rfl, rfl, _, _, rfl, rfl, _, _, rfl, rfl, _, _, rfl, rfl, rfl⟩ l1
    have e1 : (1000 : Int) ≤ y1 := e1
    have f1 : y1 ≤ (1000 : Int) := f1
    obtain rfl : y1 = 1000 := Int.le_antisymm f1 e1
    have e2 : (1000 : Int) ≤ y2 := e2
    have f2 : y2 ≤ (1000 : Int) := f2
    obtain rfl : y2 = 1000 := Int.le_antisymm f2 e2
    exact ⟨_, h1, h2, l1, l2, E1, E2⟩
  by_cases d1 : q = 1
  · subst d1
    obtain ⟨r1, h1, ⟨v1, rfl, y1, rfl, e1, f1⟩, l1, E1⟩ := LI_k (kc146_3_1_1o (β := β)) (by decide +kernel) (by decide +kernel) (vs := [vR 0, vI 3, vI 1, vI 1]) ⟨_, _, rfl, rfl, _, _, rfl, rfl, _, _, rfl, rfl, _, _, rfl, rfl, rfl⟩ hL
    obtain ⟨r2, h2, ⟨v2, rfl, y2, rfl, e2, f2⟩, l2, E2⟩ := LI_k (kc280_3_1_1o (β := β)) (by decide +kernel) (by decide +kernel) (vs := [vR 76, vI 3, vI 1, vI 1]) ⟨_, _, rfl, rfl, _, _, rfl, rfl, _, _, rfl, rfl, _, _, rfl, rfl, rfl⟩ l1
    have e1 : (125 : Int) ≤ y1 := e1
    have f1 : y1 ≤ (125 : Int) := f1
    obtain rfl : y1 = 125 := Int.le_antisymm f1 e1
    have e2 : (125 : Int) ≤ y2 := e2
    have f2 : y2 ≤ (125 : Int) := f2
    obtain rfl : y2 = 125 := Int.le_antisymm f2 e2
    exact ⟨_, h1, h2, l1, l2, E1, E2⟩
  by_cases d2 : q = 2
  · subst d2
    obtain ⟨r1, h1, ⟨v1, rfl, y1, rfl, e1, f1⟩, l1, E1⟩ := LI_k (kc146_3_2_1o (β := β)) (by decide +kernel) (by decide +kernel) (vs := [vR 0, vI 3, vI 2, vI 1]) ⟨_, _, rfl, rfl, _, _, rfl, rfl, _, _, rfl, rfl, _, _, rfl, rfl, rfl⟩ hL
    obtain ⟨r2, h2, ⟨v2, rfl, y2, rfl, e2, f2⟩, l2, E2⟩ := LI_k (kc280_3_2_1o (β := β)) (by decide +kernel) (by decide +kernel) (vs := [vR 76, vI 3, vI 2, vI 1]) ⟨_, _, rfl, rfl, _, _, rfl, rfl, _, _, rfl, rfl, _, _, rfl, rfl, rfl⟩ l1
    have e1 : (1000 : Int) ≤ y1 := e1
    have f1 : y1 ≤ (1000 : Int) := f1
    obtain rfl : y1 = 1000 := Int.le_antisymm f1 e1
    have e2 : (1000 : Int) ≤ y2 := e2
    have f2 : y2 ≤ (1000 : Int) := f2
    obtain rfl : y2 = 1000 := Int.le_antisymm f2 e2
    exact ⟨_, h1, h2, l1, l2, E1, E2⟩
  by_cases d3 : q = 3
  · subst d3
    obtain ⟨r1, h1, ⟨v1, rfl, y1, rfl, e1, f1⟩, l1, E1⟩ := LI_k (kc146_3_3_1o (β := β)) (by decide +kernel) (by decide +kernel) (vs := [vR 0, vI 3, vI 3, vI 1]) ⟨_, _, rfl, rfl, _, _, rfl, rfl, _, _, rfl, rfl, _, _, rfl, rfl, rfl⟩ hL
    obtain ⟨r2, h2, ⟨v2, rfl, y2, rfl, e2, f2⟩, l2, E2⟩ := LI_k (kc280_3_3_1o (β := β)) (by decide +kernel) (by decide +kernel) (vs := [vR 76, vI 3, vI 3, vI 1]) ⟨_, _, rfl, rfl, _, _, rfl, rfl, _, _, rfl, rfl, _, _, rfl, rfl, rfl⟩ l1
    have e1 : (125 : Int) ≤ y1 := e1
    have f1 : y1 ≤ (125 : Int) := f1
    obtain rfl : y1 = 125 := Int.le_antisymm f1 e1
    have e2 : (125 : Int) ≤ y2 := e2
    have f2 : y2 ≤ (125 : Int) := f2
    obtain rfl : y2 = 125 := Int.le_antisymm f2 e2
    exact ⟨_, h1, h2, l1, l2, E1, E2⟩
  by_cases d4 : q = 4
  · subst d4
    obtain ⟨r1, h1, ⟨v1, rfl, y1, rfl, e1, f1⟩, l1, E1⟩ := LI_k (kc146_3_4_1o (β := β)) (by decide +kernel) (by decide +kernel) (vs := [vR 0, vI 3, vI 4, vI 1]) ⟨_, _, rfl, rfl, _, _, rfl, rfl, _, _, rfl, rfl, _, _, rfl, rfl, rfl⟩ hL
    obtain ⟨r2, h2, ⟨v2, rfl, y2, rfl, e2, f2⟩, l2, E2⟩ := LI_k (kc280_3_4_1o (β := β)) (by decide +kernel) (by decide +kernel) (vs := [vR 76, vI 3, vI 4, vI 1]) ⟨_, _, rfl, rfl, _, _, rfl, rfl, _, _, rfl, rfl, _, _, rfl, rfl, rfl⟩ l1
    have e1 : (8 : Int) ≤ y1 := e1
    have f1 : y1 ≤ (8 : Int) := f1
    obtain rfl : y1 = 8 := Int.le_antisymm f1 e1
    have e2 : (8 : Int) ≤ y2 := e2
    have f2 : y2 ≤ (8 : Int) := f2
    obtain rfl : y2 = 8 := Int.le_antisymm f2 e2
    exact ⟨_, h1, h2, l1, l2, E1, E2⟩
  by_cases d5 : q = 5
  · subst d5
    obtain ⟨r1, h1, ⟨v1, rfl, y1, rfl, e1, f1⟩, l1, E1⟩ := LI_k (kc146_3_5_1o (β := β)) (by decide +kernel) (by decide +kernel) (vs := [vR 0, vI 3, vI 5, vI 1]) ⟨_, _, rfl, rfl, _, _, rfl, rfl, _, _, rfl, rfl, _, _, rfl, rfl, rfl⟩ hL
    obtain ⟨r2, h2, ⟨v2, rfl, y2, rfl, e2, f2⟩, l2, E2⟩ := LI_k (kc280_3_5_1o (β := β)) (by decide +kernel) (by decide +kernel) (vs := [vR 76, vI 3, vI 5, vI 1]) ⟨_, _, rfl, rfl, _, _, rfl, rfl, _, _, rfl, rfl, _, _, rfl, rfl, rfl⟩ l1
    have e1 : (125 : Int) ≤ y1 := e1
    have f1 : y1 ≤ (125 : Int) := f1
    obtain rfl : y1 = 125 := Int.le_antisymm f1 e1
    have e2 : (125 : Int) ≤ y2 := e2
    have f2 : y2 ≤ (125 : Int) := f2
    obtain rfl : y2 = 125 := Int.le_antisymm f2 e2
    exact ⟨_, h1, h2, l1, l2, E1, E2⟩
  by_cases d6 : q = 6
  · subst d6
    obtain ⟨r1, h1, ⟨v1, rfl, y1, rfl, e1, f1⟩, l1, E1⟩ := LI_k (kc146_3_6_1o (β := β)) (by decide +kernel) (by decide +kernel) (vs := [vR 0, vI 3, vI 6, vI 1]) ⟨_, _, rfl, rfl, _, _, rfl, rfl, _, _, rfl, rfl, _, _, rfl, rfl, rfl⟩ hL
    obtain ⟨r2, h2, ⟨v2, rfl, y2, rfl, e2, f2⟩, l2, E2⟩ := LI_k (kc280_3_6_1o (β := β)) (by decide +kernel) (by decide +kernel) (vs := [vR 76, vI 3, vI 6, vI 1]) ⟨_, _, rfl, rfl, _, _, rfl, rfl, _, _, rfl, rfl, _, _, rfl, rfl, rfl⟩ l1
    have e1 : (1000 : Int) ≤ y1 := e1
    have f1 : y1 ≤ (1000 : Int) := f1
    obtain rfl : y1 = 1000 := Int.le_antisymm f1 e1
    have e2 : (1000 : Int) ≤ y2 := e2
    have f2 : y2 ≤ (1000 : Int) := f2
    obtain rfl : y2 = 1000 := Int.le_antisymm f2 e2
    exact ⟨_, h1, h2, l1, l2, E1, E2⟩
  by_cases d7 : q = 7
  · subst d7
    obtain ⟨r1, h1, ⟨v1, rfl, y1, rfl, e1, f1⟩, l1, E1⟩ := LI_k (kc146_3_7_1o (β := β)) (by decide +kernel) (by decide +kernel) (vs := [vR 0, vI 3, vI 7, vI 1]) ⟨_, _, rfl, rfl, _, _, rfl, rfl, _, _, rfl, rfl, _, _, rfl, rfl, rfl⟩ hL
    obtain ⟨r2, h2, ⟨v2, rfl, y2, rfl, e2, f2⟩, l2, E2⟩ := LI_k (kc280_3_7_1o (β := β)) (by decide +kernel) (by decide +kernel) (vs := [vR 76, vI 3, vI 7, vI 1]) ⟨_, _, rfl, rfl, _, _, rfl, rfl, _, _, rfl, rfl, _, _, rfl, rfl, rfl⟩ l1
    have e1 : (125 : Int) ≤ y1 := e1
    have f1 : y1 ≤ (125 : Int) := f1
    obtain rfl : y1 = 125 := Int.le_antisymm f1 e1
    have e2 : (125 : Int) ≤ y2 := e2
    have f2 : y2 ≤ (125 : Int) := f2
    obtain rfl : y2 = 125 := Int.le_antisymm f2 e2
    exact ⟨_, h1, h2, l1, l2, E1, E2⟩
  by_cases d8 : q = 8
  · subst d8
    obtain ⟨r1, h1, ⟨v1, rfl, y1, rfl, e1, f1⟩, l1, E1⟩ := LI_k (kc146_3_8_1o (β := β)) (by decide +kernel) (by decide +kernel) (vs := [vR 0, vI 3, vI 8, vI 1]) ⟨_, _, rfl, rfl, _, _, rfl, rfl, _, _, rfl, rfl, _, _, rfl, rfl, rfl⟩ hL
    obtain ⟨r2, h2, ⟨v2, rfl, y2, rfl, e2, f2⟩, l2, E2⟩ := LI_k (kc280_3_8_1o (β := β)) (by decide +kernel) (by decide +kernel) (vs := [vR 76, vI 3, vI 8, vI 1]) ⟨_, _, rfl, rfl, _, _, rfl, rfl, _, _, rfl, rfl, _, _, rfl, rfl, rfl⟩ l1
    have e1 : (1000 : Int) ≤ y1 := e1
    have f1 : y1 ≤ (1000 : Int) := f1
    obtain rfl : y1 = 1000 := Int.le_antisymm f1 e1
    have e2 : (1000 : Int) ≤ y2 := e2
    have f2 : y2 ≤ (1000 : Int) := f2
    obtain rfl : y2 = 1000 := Int.le_antisymm f2 e2
    exact ⟨_, h1, h2, l1, l2, E1, E2⟩
  have d9 : q = 9 := by omega
  subst d9
  obtain ⟨r1, h1, ⟨v1, rfl, y1, rfl, e1, f1⟩, l1, E1⟩ := LI_k (kc146_3_9_1o (β := β)) (by decide +kernel) (by decide +kernel) (vs := [vR 0, vI 3, vI 9, vI 1]) ⟨_, _, rfl, rfl, _, _, rfl, rfl, _, _, rfl, rfl, _, _, rfl, rfl, rfl⟩ hL
  obtain ⟨r2, h2, ⟨v2, rfl, y2, rfl, e2, f2⟩, l2, E2⟩ := LI_k (kc280_3_9_1o (β := β)) (by decide +kernel) (by decide +kernel) (vs := [vR 76, vI 3, vI 9, vI 1]) ⟨_, _, rfl, rfl, _, _, rfl, rfl, _, _, rfl, rfl, _, _, rfl, rfl, rfl⟩ l1
  have e1 : (1 : Int) ≤ y1 := e1
  have f1 : y1 ≤ (1 : Int) := f1
  obtain rfl : y1 = 1 := Int.le_antisymm f1 e1
  have e2 : (1 : Int) ≤ y2 := e2
  have f2 : y2 ≤ (1 : Int) := f2
  obtain rfl : y2 = 1 := Int.le_antisymm f2 e2
  exact ⟨_, h1, h2, l1, l2, E1, E2⟩

