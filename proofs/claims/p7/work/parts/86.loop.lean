theorem swF_hit {x k : Int} {d t : Nat} {r : List (Int × Nat)} (h : x = k) : swF x d ((k, t) :: r) = t := if_pos h
theorem swF_miss {x k : Int} {d t : Nat} {r : List (Int × Nat)} (h : ¬ x = k) : swF x d ((k, t) :: r) = swF x d r := if_neg h
theorem swF_end {x : Int} {d : Nat} : swF x d [] = d := rfl
theorem xpk_0 {stops : List Nat} {d M pc : Nat} {ls : List (Option AV)} {st : List AV} {h : AH} {Q : Option AV → AH → Prop} : xpk stops 0 d M pc ls st h Q = XP d M pc ls st h Q := rfl
set_option maxHeartbeats 4000000 in
theorem lw_sw {β L k : Nat} {xs : Nat → Int} {h : AH} {Q : Option AV → AH → Prop} (hx : ∀ i, -2147483648 ≤ xs i ∧ xs i ≤ 2147483647) (hk : 6 * k + 6 ≤ L) (hl : L ≤ 3072) (hb : β + 24 ≤ 20000) (hL : LJ β L xs h) (nx : ∀ h', LJ (β + 24) L xs h' → XP 1000 321 1539 [some (vR 1000100), some (vR 0), some (vR 76), some (vI ((6 * k : Nat) : Int))] [] h' Q) : XP 1000 321 (swF (iand (xs (6 * k)) 63) 1539 [(0, 228), (1, 291), (2, 314), (3, 377), (4, 400), (5, 413), (6, 436), (7, 459), (8, 482), (9, 505), (10, 528), (11, 551), (12, 574), (13, 587), (14, 610), (15, 643), (16, 656), (17, 679), (18, 712), (19, 745), (20, 804), (21, 827), (22, 850), (23, 873), (24, 932), (25, 965), (26, 988), (27, 1001), (28, 1034), (29, 1077), (30, 1090), (31, 1103), (32, 1156), (33, 1205), (34, 1228), (35, 1241), (36, 1274), (37, 1307), (38, 1356), (39, 1395), (40, 1428), (41, 1451), (42, 1490), (43, 1503), (44, 1516)]) [some (vR 1000100), some (vR 0), some (vR 76), some (vI ((6 * k : Nat) : Int))] [] h Q := by
  by_cases c0 : iand (xs (6 * k)) 63 = 0
  · rw [swF_hit c0]; exact lcs_0 hx hk hl hb hL nx
  rw [swF_miss c0]
  by_cases c1 : iand (xs (6 * k)) 63 = 1
  · rw [swF_hit c1]; exact lcs_1 hx hk hl hb hL nx
  rw [swF_miss c1]
  by_cases c2 : iand (xs (6 * k)) 63 = 2
  · rw [swF_hit c2]; exact lcs_2 hx hk hl hb hL nx
  rw [swF_miss c2]
  by_cases c3 : iand (xs (6 * k)) 63 = 3
  · rw [swF_hit c3]; exact lcs_3 hx hk hl hb hL nx
  rw [swF_miss c3]
  by_cases c4 : iand (xs (6 * k)) 63 = 4
  · rw [swF_hit c4]; exact lcs_4 hx hk hl hb hL nx
  rw [swF_miss c4]
  by_cases c5 : iand (xs (6 * k)) 63 = 5
  · rw [swF_hit c5]; exact lcs_5 hx hk hl hb hL nx
  rw [swF_miss c5]
  by_cases c6 : iand (xs (6 * k)) 63 = 6
  · rw [swF_hit c6]; exact lcs_6 hx hk hl hb hL nx
  rw [swF_miss c6]
  by_cases c7 : iand (xs (6 * k)) 63 = 7
  · rw [swF_hit c7]; exact lcs_7 hx hk hl hb hL nx
  rw [swF_miss c7]
  by_cases c8 : iand (xs (6 * k)) 63 = 8
  · rw [swF_hit c8]; exact lcs_8 hx hk hl hb hL nx
  rw [swF_miss c8]
  by_cases c9 : iand (xs (6 * k)) 63 = 9
  · rw [swF_hit c9]; exact lcs_9 hx hk hl hb hL nx
  rw [swF_miss c9]
  by_cases c10 : iand (xs (6 * k)) 63 = 10
  · rw [swF_hit c10]; exact lcs_10 hx hk hl hb hL nx
  rw [swF_miss c10]
  by_cases c11 : iand (xs (6 * k)) 63 = 11
  · rw [swF_hit c11]; exact lcs_11 hx hk hl hb hL nx
  rw [swF_miss c11]
  by_cases c12 : iand (xs (6 * k)) 63 = 12
  · rw [swF_hit c12]; exact lcs_12 hx hk hl hb hL nx
  rw [swF_miss c12]
  by_cases c13 : iand (xs (6 * k)) 63 = 13
  · rw [swF_hit c13]; exact lcs_13 hx hk hl hb hL nx
  rw [swF_miss c13]
  by_cases c14 : iand (xs (6 * k)) 63 = 14
  · rw [swF_hit c14]; exact lcs_14 hx hk hl hb hL nx
  rw [swF_miss c14]
  by_cases c15 : iand (xs (6 * k)) 63 = 15
  · rw [swF_hit c15]; exact lcs_15 hx hk hl hb hL nx
  rw [swF_miss c15]
  by_cases c16 : iand (xs (6 * k)) 63 = 16
  · rw [swF_hit c16]; exact lcs_16 hx hk hl hb hL nx
  rw [swF_miss c16]
  by_cases c17 : iand (xs (6 * k)) 63 = 17
  · rw [swF_hit c17]; exact lcs_17 hx hk hl hb hL nx
  rw [swF_miss c17]
  by_cases c18 : iand (xs (6 * k)) 63 = 18
  · rw [swF_hit c18]; exact lcs_18 hx hk hl hb hL nx
  rw [swF_miss c18]
  by_cases c19 : iand (xs (6 * k)) 63 = 19
  · rw [swF_hit c19]; exact lcs_19 hx hk hl hb hL nx
  rw [swF_miss c19]
  by_cases c20 : iand (xs (6 * k)) 63 = 20
  · rw [swF_hit c20]; exact lcs_20 hx hk hl hb hL nx
  rw [swF_miss c20]
  by_cases c21 : iand (xs (6 * k)) 63 = 21
  · rw [swF_hit c21]; exact lcs_21 hx hk hl hb hL nx
  rw [swF_miss c21]
  by_cases c22 : iand (xs (6 * k)) 63 = 22
  · rw [swF_hit c22]; exact lcs_22 hx hk hl hb hL nx
  rw [swF_miss c22]
  by_cases c23 : iand (xs (6 * k)) 63 = 23
  · rw [swF_hit c23]; exact lcs_23 hx hk hl hb hL nx
  rw [swF_miss c23]
  by_cases c24 : iand (xs (6 * k)) 63 = 24
  · rw [swF_hit c24]; exact lcs_24 hx hk hl hb hL nx
  rw [swF_miss c24]
  by_cases c25 : iand (xs (6 * k)) 63 = 25
  · rw [swF_hit c25]; exact lcs_25 hx hk hl hb hL nx
  rw [swF_miss c25]
  by_cases c26 : iand (xs (6 * k)) 63 = 26
  · rw [swF_hit c26]; exact lcs_26 hx hk hl hb hL nx
  rw [swF_miss c26]
  by_cases c27 : iand (xs (6 * k)) 63 = 27
  · rw [swF_hit c27]; exact lcs_27 hx hk hl hb hL nx
  rw [swF_miss c27]
  by_cases c28 : iand (xs (6 * k)) 63 = 28
  · rw [swF_hit c28]; exact lcs_28 hx hk hl hb hL nx
  rw [swF_miss c28]
  by_cases c29 : iand (xs (6 * k)) 63 = 29
  · rw [swF_hit c29]; exact lcs_29 hx hk hl hb hL nx
  rw [swF_miss c29]
  by_cases c30 : iand (xs (6 * k)) 63 = 30
  · rw [swF_hit c30]; exact lcs_30 hx hk hl hb hL nx
  rw [swF_miss c30]
  by_cases c31 : iand (xs (6 * k)) 63 = 31
  · rw [swF_hit c31]; exact lcs_31 hx hk hl hb hL nx
  rw [swF_miss c31]
  by_cases c32 : iand (xs (6 * k)) 63 = 32
  · rw [swF_hit c32]; exact lcs_32 hx hk hl hb hL nx
  rw [swF_miss c32]
  by_cases c33 : iand (xs (6 * k)) 63 = 33
  · rw [swF_hit c33]; exact lcs_33 hx hk hl hb hL nx
  rw [swF_miss c33]
  by_cases c34 : iand (xs (6 * k)) 63 = 34
  · rw [swF_hit c34]; exact lcs_34 hx hk hl hb hL nx
  rw [swF_miss c34]
  by_cases c35 : iand (xs (6 * k)) 63 = 35
  · rw [swF_hit c35]; exact lcs_35 hx hk hl hb hL nx
  rw [swF_miss c35]
  by_cases c36 : iand (xs (6 * k)) 63 = 36
  · rw [swF_hit c36]; exact lcs_36 hx hk hl hb hL nx
  rw [swF_miss c36]
  by_cases c37 : iand (xs (6 * k)) 63 = 37
  · rw [swF_hit c37]; exact lcs_37 hx hk hl hb hL nx
  rw [swF_miss c37]
  by_cases c38 : iand (xs (6 * k)) 63 = 38
  · rw [swF_hit c38]; exact lcs_38 hx hk hl hb hL nx
  rw [swF_miss c38]
  by_cases c39 : iand (xs (6 * k)) 63 = 39
  · rw [swF_hit c39]; exact lcs_39 hx hk hl hb hL nx
  rw [swF_miss c39]
  by_cases c40 : iand (xs (6 * k)) 63 = 40
  · rw [swF_hit c40]; exact lcs_40 hx hk hl hb hL nx
  rw [swF_miss c40]
  by_cases c41 : iand (xs (6 * k)) 63 = 41
  · rw [swF_hit c41]; exact lcs_41 hx hk hl hb hL nx
  rw [swF_miss c41]
  by_cases c42 : iand (xs (6 * k)) 63 = 42
  · rw [swF_hit c42]; exact lcs_42 hx hk hl hb hL nx
  rw [swF_miss c42]
  by_cases c43 : iand (xs (6 * k)) 63 = 43
  · rw [swF_hit c43]; exact lcs_43 hx hk hl hb hL nx
  rw [swF_miss c43]
  by_cases c44 : iand (xs (6 * k)) 63 = 44
  · rw [swF_hit c44]; exact lcs_44 hx hk hl hb hL nx
  rw [swF_miss c44]
  rw [swF_end]
  exact nx h ⟨LI_m (Nat.le_add_right _ _) hL.1, hL.2⟩
def lwQ3 (r : Option AV) (h : AH) : Prop := r = some (vI 1) ∧ hN h ≤ 600000 ∧ hS h ≤ room_1.slots
theorem lw_m {L k : Nat} (hl : L ≤ 3072) (hk : 6 * k + 6 ≤ L) : w32 ((L : Int) - 6) = (L : Int) - 6 ∧ ¬ ((L : Int) - 6 < ((6 * k : Nat) : Int)) ∧ ((0 : Int) ≤ ((6 * k : Nat) : Int) ∧ ((6 * k : Nat) : Int) < (L : Int)) ∧ w32 (((6 * k : Nat) : Int) + 6) = ((6 * (k + 1) : Nat) : Int) := by unfold w32; omega
theorem lw_n {L k : Nat} (hl : L ≤ 3072) (hk : L < 6 * k + 6) : w32 ((L : Int) - 6) = (L : Int) - 6 ∧ (L : Int) - 6 < ((6 * k : Nat) : Int) := by unfold w32; omega
set_option maxHeartbeats 4000000 in
theorem lw_l {L : Nat} {xs : Nat → Int} (hx : ∀ i, -2147483648 ≤ xs i ∧ xs i ≤ 2147483647) (hl : L ≤ 3072) : ∀ (e k : Nat) (h : AH), k + e = L / 6 → LJ (24 * k) L xs h → XP 1000 321 18 [some (vR 1000100), some (vR 0), some (vR 76), some (vI ((6 * k : Nat) : Int))] [] h lwQ3 := by
  intro e
  induction e with
  | zero =>
    intro k h hk hL
    obtain ⟨k0, k1, ks, vs⟩ := LI_s hL.1
    obtain ⟨a1, z1⟩ := lw_n (k := k) hl (by omega)
    have y : lwQ3 (some (vI 1)) h := ⟨rfl, by rw [hL.1.1.1]; decide, by rw [hL.1.1.2.1]; exact Nat.le_of_ble_eq_true rfl⟩
    refine xpk_sound (stops := []) (n := 20) ?_
    simp only [sk_0, sk_1, sk_2, sk_3, sk_4, sk_5, sk_6, sk_7, sk_8, sk_iadd, sk_isub, sk_imul, sk_iand, sk_ior, sk_ixor, sk_ishl, sk_ishr, sk_iushr, sk_idiv, sk_irem, sk_ineg, sk_ladd, sk_lsub, sk_lmul, sk_land, sk_lor, sk_ldiv, sk_lrem, sk_lneg, sk_lshl, sk_lshr, sk_i2l, sk_l2i, sk_lcmp, sk_dupI, sk_dupR, sk_dup2L, sk_dup2I, sk_popI, sk_ifeq, sk_ifne, sk_iflt, sk_ifge, sk_ifgt, sk_ifle, sk_iceq, sk_icne, sk_iclt, sk_icge, sk_icgt, sk_icle, sk_goto, sk_getf, sk_putf, sk_gets, sk_iald, sk_lald, sk_bald, sk_aald, sk_iast, sk_last, sk_bast, sk_aast, sk_alen, sk_newa, sk_newt, sk_new, sk_cs1, sk_cs2, sk_cs3, sk_cs4, sk_cs5, sk_cs6, sk_cv1, sk_cv2, sk_cv3, sk_cv4, sk_cv5, sk_cv6, sk_ci1, sk_ci2, sk_ci3, sk_ret0, sk_retI, sk_retL, sk_retR, sk_sw, sk_oin, sk_max, sk_min, sk_abs, lI_0, lI_s, lL_0, lL_s, lR_0, lR_s, vIo_e, vLo_e, vOo_e, stW_I, stW_L, stW_R, stW_0, stW_z, okSt_0, okSt_s, hV_eq, hK_eq, okF_0, okF_1, okF_3, is01_0, is01_1, is01_i, Int.toNat_natCast, Int.reduceEq, Int.reduceLE, Int.reduceLT, Int.reduceNeg, Nat.reduceLT, not_true_eq_false, not_false_eq_true, reduceIte, Option.toList, List.cons_append, List.nil_append, List.set_cons_zero, List.set_cons_succ, List.not_mem_nil, List.mem_cons, if_false, if_true, ite_true, ite_false, and_self, and_true, true_and, Nat.reduceAdd, Nat.reduceLeDiff, Nat.reduceEqDiff, Nat.zero_add, Nat.le_refl, Nat.zero_le, or_false, false_or, Int.reduceToNat, or_true, true_or, eq_self, and_false, false_and, inR_d, nc_4, nc_5, nc_6, nc_7, nc_8, nc_16, nc_18, nc_20, nc_24, nc_32, nc_40, nc_64, nc_104, nc_120, nc_160, nc_256, nc_300, nc_330, nc_390, nc_1200, nc_1260, nc_3012, nc_9834, okSt_1i, okSt_1r, okSt_1n, List.length_cons, List.length_nil, sk_55, xpk_succ cd_321_18, xpk_succ cd_321_19, xpk_succ cd_321_20, xpk_succ cd_321_21, xpk_succ cd_321_23, xpk_succ cd_321_24, xpk_succ cd_321_1545, xpk_succ cd_321_1546, ks, a1, z1]
    exact y
  | succ e ih =>
    intro k h hk hL
    obtain ⟨k0, k1, ks, vs⟩ := LI_s hL.1
    have hk6 : 6 * k + 6 ≤ L := by omega
    obtain ⟨a1, z1, b1, a2⟩ := lw_m hl hk6
    have v0 := vs (6 * k)
    have nx : ∀ h', LJ (24 * k + 24) L xs h' → XP 1000 321 1539 [some (vR 1000100), some (vR 0), some (vR 76), some (vI ((6 * k : Nat) : Int))] [] h' lwQ3 := by
      intro h' hL'
      have y := ih (k + 1) h' (by omega) (by rw [show 24 * (k + 1) = 24 * k + 24 by omega]; exact hL')
      refine xpk_sound (stops := [18]) (n := 5) ?_
      simp only [sk_0, sk_1, sk_2, sk_3, sk_4, sk_5, sk_6, sk_7, sk_8, sk_iadd, sk_isub, sk_imul, sk_iand, sk_ior, sk_ixor, sk_ishl, sk_ishr, sk_iushr, sk_idiv, sk_irem, sk_ineg, sk_ladd, sk_lsub, sk_lmul, sk_land, sk_lor, sk_ldiv, sk_lrem, sk_lneg, sk_lshl, sk_lshr, sk_i2l, sk_l2i, sk_lcmp, sk_dupI, sk_dupR, sk_dup2L, sk_dup2I, sk_popI, sk_ifeq, sk_ifne, sk_iflt, sk_ifge, sk_ifgt, sk_ifle, sk_iceq, sk_icne, sk_iclt, sk_icge, sk_icgt, sk_icle, sk_goto, sk_getf, sk_putf, sk_gets, sk_iald, sk_lald, sk_bald, sk_aald, sk_iast, sk_last, sk_bast, sk_aast, sk_alen, sk_newa, sk_newt, sk_new, sk_cs1, sk_cs2, sk_cs3, sk_cs4, sk_cs5, sk_cs6, sk_cv1, sk_cv2, sk_cv3, sk_cv4, sk_cv5, sk_cv6, sk_ci1, sk_ci2, sk_ci3, sk_ret0, sk_retI, sk_retL, sk_retR, sk_sw, sk_oin, sk_max, sk_min, sk_abs, lI_0, lI_s, lL_0, lL_s, lR_0, lR_s, vIo_e, vLo_e, vOo_e, stW_I, stW_L, stW_R, stW_0, stW_z, okSt_0, okSt_s, hV_eq, hK_eq, okF_0, okF_1, okF_3, is01_0, is01_1, is01_i, Int.toNat_natCast, Int.reduceEq, Int.reduceLE, Int.reduceLT, Int.reduceNeg, Nat.reduceLT, not_true_eq_false, not_false_eq_true, reduceIte, Option.toList, List.cons_append, List.nil_append, List.set_cons_zero, List.set_cons_succ, List.not_mem_nil, List.mem_cons, if_false, if_true, ite_true, ite_false, and_self, and_true, true_and, Nat.reduceAdd, Nat.reduceLeDiff, Nat.reduceEqDiff, Nat.zero_add, Nat.le_refl, Nat.zero_le, or_false, false_or, Int.reduceToNat, or_true, true_or, eq_self, and_false, false_and, inR_d, nc_4, nc_5, nc_6, nc_7, nc_8, nc_16, nc_18, nc_20, nc_24, nc_32, nc_40, nc_64, nc_104, nc_120, nc_160, nc_256, nc_300, nc_330, nc_390, nc_1200, nc_1260, nc_3012, nc_9834, okSt_1i, okSt_1r, okSt_1n, List.length_cons, List.length_nil, sk_55, xpk_succ cd_321_1539, xpk_succ cd_321_1542, a2]
      exact y
    have y := lw_sw hx hk6 hl (show 24 * k + 24 ≤ 20000 by omega) hL nx
    refine xpk_sound (stops := []) (n := 12) ?_
    simp only [sk_0, sk_1, sk_2, sk_3, sk_4, sk_5, sk_6, sk_7, sk_8, sk_iadd, sk_isub, sk_imul, sk_iand, sk_ior, sk_ixor, sk_ishl, sk_ishr, sk_iushr, sk_idiv, sk_irem, sk_ineg, sk_ladd, sk_lsub, sk_lmul, sk_land, sk_lor, sk_ldiv, sk_lrem, sk_lneg, sk_lshl, sk_lshr, sk_i2l, sk_l2i, sk_lcmp, sk_dupI, sk_dupR, sk_dup2L, sk_dup2I, sk_popI, sk_ifeq, sk_ifne, sk_iflt, sk_ifge, sk_ifgt, sk_ifle, sk_iceq, sk_icne, sk_iclt, sk_icge, sk_icgt, sk_icle, sk_goto, sk_getf, sk_putf, sk_gets, sk_iald, sk_lald, sk_bald, sk_aald, sk_iast, sk_last, sk_bast, sk_aast, sk_alen, sk_newa, sk_newt, sk_new, sk_cs1, sk_cs2, sk_cs3, sk_cs4, sk_cs5, sk_cs6, sk_cv1, sk_cv2, sk_cv3, sk_cv4, sk_cv5, sk_cv6, sk_ci1, sk_ci2, sk_ci3, sk_ret0, sk_retI, sk_retL, sk_retR, sk_sw, sk_oin, sk_max, sk_min, sk_abs, lI_0, lI_s, lL_0, lL_s, lR_0, lR_s, vIo_e, vLo_e, vOo_e, stW_I, stW_L, stW_R, stW_0, stW_z, okSt_0, okSt_s, hV_eq, hK_eq, okF_0, okF_1, okF_3, is01_0, is01_1, is01_i, Int.toNat_natCast, Int.reduceEq, Int.reduceLE, Int.reduceLT, Int.reduceNeg, Nat.reduceLT, not_true_eq_false, not_false_eq_true, reduceIte, Option.toList, List.cons_append, List.nil_append, List.set_cons_zero, List.set_cons_succ, List.not_mem_nil, List.mem_cons, if_false, if_true, ite_true, ite_false, and_self, and_true, true_and, Nat.reduceAdd, Nat.reduceLeDiff, Nat.reduceEqDiff, Nat.zero_add, Nat.le_refl, Nat.zero_le, or_false, false_or, Int.reduceToNat, or_true, true_or, eq_self, and_false, false_and, inR_d, nc_4, nc_5, nc_6, nc_7, nc_8, nc_16, nc_18, nc_20, nc_24, nc_32, nc_40, nc_64, nc_104, nc_120, nc_160, nc_256, nc_300, nc_330, nc_390, nc_1200, nc_1260, nc_3012, nc_9834, okSt_1i, okSt_1r, okSt_1n, List.length_cons, List.length_nil, sk_55, xpk_succ cd_321_18, xpk_succ cd_321_19, xpk_succ cd_321_20, xpk_succ cd_321_21, xpk_succ cd_321_23, xpk_succ cd_321_24, xpk_succ cd_321_27, xpk_succ cd_321_28, xpk_succ cd_321_29, xpk_succ cd_321_30, xpk_succ cd_321_32, xpk_succ cd_321_33, ks, a1, z1, b1, v0, xpk_0]
    exact y
theorem pure_law (L : Nat) (hl : L ≤ 3072) : PureLaw L := by
  intro xs hx
  refine law_pre L xs _ (fun h hf => ?_)
  have q : ∀ i, -2147483648 ≤ xs i ∧ xs i ≤ 2147483647 := fun i => ⟨(hx i).1, by have := (hx i).2; omega⟩
  exact lw_l q hl (L / 6) 0 h (Nat.zero_add _) ⟨LI_0 hf, FR_B hf⟩
