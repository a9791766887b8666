/-! the law from its loop on -/
theorem xpk_0 {stops : List Nat} {d M pc : Nat} {ls : List (Option AV)} {st : List AV} {h : AH} {Q : Option AV → AH → Prop} : xpk stops 0 d M pc ls st h Q = XP d M pc ls st h Q := rfl
theorem law_short {L : Nat} {xs : Nat → Int} {h : AH} (hf : FR L xs h) (hl : L < 6) : XP 1000 321 18 lsc [] h lwQ := by
  obtain ⟨f1, f2, f3, f4⟩ := hf
  obtain ⟨ks, vs⟩ := f3.2 1000100 (Nat.le_of_ble_eq_true rfl)
  have ks : hK h 1000100 = (20, L) := ks
  have hw : w32 ((L : Int) - 6) < 0 := by unfold w32; omega
  have hq : lwQ (some (.inl 1)) h := ⟨rfl, by rw [f1]; decide, by rw [f2]; decide⟩
  refine xpk_sound (stops := []) (n := 12) ?_
  show xpk [] 12 1000 321 18 [some (vR 1000100), some (vR 0), some (vR 76), some (vI 0)] [] h lwQ
  generalize lwQ = Q at hq
  simp only [sk_0, sk_1, sk_2, sk_3, sk_4, sk_5, sk_6, sk_7, sk_8, sk_iadd, sk_isub, sk_imul, sk_iand, sk_ior, sk_ixor, sk_ishl, sk_ishr, sk_iushr, sk_idiv, sk_irem, sk_ineg, sk_ladd, sk_lsub, sk_lmul, sk_land, sk_lor, sk_ldiv, sk_lrem, sk_lneg, sk_lshl, sk_lshr, sk_i2l, sk_l2i, sk_lcmp, sk_dupI, sk_dupR, sk_dup2L, sk_dup2I, sk_popI, sk_ifeq, sk_ifne, sk_iflt, sk_ifge, sk_ifgt, sk_ifle, sk_iceq, sk_icne, sk_iclt, sk_icge, sk_icgt, sk_icle, sk_goto, sk_getf, sk_putf, sk_gets, sk_iald, sk_lald, sk_bald, sk_aald, sk_iast, sk_last, sk_bast, sk_aast, sk_alen, sk_newa, sk_newt, sk_new, sk_cs1, sk_cs2, sk_cs3, sk_cs4, sk_cs5, sk_cs6, sk_cv1, sk_cv2, sk_cv3, sk_cv4, sk_cv5, sk_cv6, sk_ci1, sk_ci2, sk_ci3, sk_ret0, sk_retI, sk_retL, sk_retR, sk_sw, sk_oin, sk_max, sk_min, sk_abs, lI_0, lI_s, lL_0, lL_s, lR_0, lR_s, vIo_e, vLo_e, vOo_e, stW_I, stW_L, stW_R, stW_0, stW_z, okSt_0, okSt_s, hV_eq, hK_eq, okF_0, okF_1, okF_3, is01_0, is01_1, is01_i, Int.toNat_natCast, Int.reduceEq, Int.reduceLE, Int.reduceLT, Int.reduceNeg, Nat.reduceLT, not_true_eq_false, not_false_eq_true, reduceIte, Option.toList, List.cons_append, List.nil_append, List.set_cons_zero, List.set_cons_succ, List.not_mem_nil, List.mem_cons, if_false, if_true, ite_true, ite_false, and_self, and_true, true_and, Nat.reduceAdd, Nat.reduceLeDiff, Nat.reduceEqDiff, Nat.zero_add, Nat.le_refl, Nat.zero_le, or_false, false_or, Int.reduceToNat, or_true, true_or, eq_self, and_false, false_and, inR_d, nc_4, nc_5, nc_6, nc_7, nc_8, nc_16, nc_18, nc_20, nc_24, nc_32, nc_40, nc_64, nc_104, nc_120, nc_160, nc_256, nc_300, nc_330, nc_390, nc_1200, nc_1260, nc_3012, nc_9834, okSt_1i, okSt_1r, okSt_1n, xpk_succ cd_321_18, xpk_succ cd_321_19, xpk_succ cd_321_20, xpk_succ cd_321_21, xpk_succ cd_321_23, xpk_succ cd_321_24, xpk_succ cd_321_1547, xpk_succ cd_321_1548, ks, hw]
  exact hq
theorem law_long {xs : Nat → Int} {h : AH} (hf : FR 6 xs h) (hc : XP 1000 321 (swF (iand (xs 0) 63) 1541 [(0, 228), (1, 291), (2, 314), (3, 377), (4, 400), (5, 413), (6, 436), (7, 459), (8, 482), (9, 505), (10, 528), (11, 551), (12, 574), (13, 587), (14, 610), (15, 643), (16, 656), (17, 679), (18, 712), (19, 745), (20, 804), (21, 827), (22, 850), (23, 873), (24, 933), (25, 966), (26, 989), (27, 1002), (28, 1035), (29, 1078), (30, 1091), (31, 1104), (32, 1157), (33, 1206), (34, 1229), (35, 1242), (36, 1275), (37, 1308), (38, 1357), (39, 1397), (40, 1430), (41, 1453), (42, 1492), (43, 1505), (44, 1518)]) lsc [] h lwQ) : XP 1000 321 18 lsc [] h lwQ := by
  obtain ⟨f1, f2, f3, f4⟩ := hf
  obtain ⟨ks, vs⟩ := f3.2 1000100 (Nat.le_of_ble_eq_true rfl)
  have ks : hK h 1000100 = (20, 6) := ks
  have vs : hV h 1000100 0 = vI (xs 0) := vs 0
  have hw : w32 (6 - 6) = 0 := by unfold w32; omega
  refine xpk_sound (stops := []) (n := 12) ?_
  show xpk [] 12 1000 321 18 [some (vR 1000100), some (vR 0), some (vR 76), some (vI 0)] [] h lwQ
  simp only [sk_0, sk_1, sk_2, sk_3, sk_4, sk_5, sk_6, sk_7, sk_8, sk_iadd, sk_isub, sk_imul, sk_iand, sk_ior, sk_ixor, sk_ishl, sk_ishr, sk_iushr, sk_idiv, sk_irem, sk_ineg, sk_ladd, sk_lsub, sk_lmul, sk_land, sk_lor, sk_ldiv, sk_lrem, sk_lneg, sk_lshl, sk_lshr, sk_i2l, sk_l2i, sk_lcmp, sk_dupI, sk_dupR, sk_dup2L, sk_dup2I, sk_popI, sk_ifeq, sk_ifne, sk_iflt, sk_ifge, sk_ifgt, sk_ifle, sk_iceq, sk_icne, sk_iclt, sk_icge, sk_icgt, sk_icle, sk_goto, sk_getf, sk_putf, sk_gets, sk_iald, sk_lald, sk_bald, sk_aald, sk_iast, sk_last, sk_bast, sk_aast, sk_alen, sk_newa, sk_newt, sk_new, sk_cs1, sk_cs2, sk_cs3, sk_cs4, sk_cs5, sk_cs6, sk_cv1, sk_cv2, sk_cv3, sk_cv4, sk_cv5, sk_cv6, sk_ci1, sk_ci2, sk_ci3, sk_ret0, sk_retI, sk_retL, sk_retR, sk_sw, sk_oin, sk_max, sk_min, sk_abs, lI_0, lI_s, lL_0, lL_s, lR_0, lR_s, vIo_e, vLo_e, vOo_e, stW_I, stW_L, stW_R, stW_0, stW_z, okSt_0, okSt_s, hV_eq, hK_eq, okF_0, okF_1, okF_3, is01_0, is01_1, is01_i, Int.toNat_natCast, Int.reduceEq, Int.reduceLE, Int.reduceLT, Int.reduceNeg, Nat.reduceLT, not_true_eq_false, not_false_eq_true, reduceIte, Option.toList, List.cons_append, List.nil_append, List.set_cons_zero, List.set_cons_succ, List.not_mem_nil, List.mem_cons, if_false, if_true, ite_true, ite_false, and_self, and_true, true_and, Nat.reduceAdd, Nat.reduceLeDiff, Nat.reduceEqDiff, Nat.zero_add, Nat.le_refl, Nat.zero_le, or_false, false_or, Int.reduceToNat, or_true, true_or, eq_self, and_false, false_and, inR_d, nc_4, nc_5, nc_6, nc_7, nc_8, nc_16, nc_18, nc_20, nc_24, nc_32, nc_40, nc_64, nc_104, nc_120, nc_160, nc_256, nc_300, nc_330, nc_390, nc_1200, nc_1260, nc_3012, nc_9834, okSt_1i, okSt_1r, okSt_1n, xpk_succ cd_321_18, xpk_succ cd_321_19, xpk_succ cd_321_20, xpk_succ cd_321_21, xpk_succ cd_321_23, xpk_succ cd_321_24, xpk_succ cd_321_27, xpk_succ cd_321_28, xpk_succ cd_321_29, xpk_succ cd_321_30, xpk_succ cd_321_32, xpk_succ cd_321_33, ks, vs, hw, xpk_0, Int.lt_irrefl]
  exact hc
theorem swF_hit {x k : Int} {d t : Nat} {r : List (Int × Nat)} (h : x = k) : swF x d ((k, t) :: r) = t := if_pos h
theorem swF_miss {x k : Int} {d t : Nat} {r : List (Int × Nat)} (h : ¬ x = k) : swF x d ((k, t) :: r) = swF x d r := if_neg h
theorem swF_end {x : Int} {d : Nat} : swF x d [] = d := rfl
set_option maxHeartbeats 4000000 in
theorem law_cases {xs : Nat → Int} {h : AH} (hf : FR 6 xs h) (q0 : -2147483648 ≤ xs 0 ∧ xs 0 ≤ 2147483647) (q1 : -2147483648 ≤ xs 1 ∧ xs 1 ≤ 2147483647) (q2 : -2147483648 ≤ xs 2 ∧ xs 2 ≤ 2147483647) (q3 : -2147483648 ≤ xs 3 ∧ xs 3 ≤ 2147483647) (q4 : -2147483648 ≤ xs 4 ∧ xs 4 ≤ 2147483647) (q5 : -2147483648 ≤ xs 5 ∧ xs 5 ≤ 2147483647) : XP 1000 321 (swF (iand (xs 0) 63) 1541 [(0, 228), (1, 291), (2, 314), (3, 377), (4, 400), (5, 413), (6, 436), (7, 459), (8, 482), (9, 505), (10, 528), (11, 551), (12, 574), (13, 587), (14, 610), (15, 643), (16, 656), (17, 679), (18, 712), (19, 745), (20, 804), (21, 827), (22, 850), (23, 873), (24, 933), (25, 966), (26, 989), (27, 1002), (28, 1035), (29, 1078), (30, 1091), (31, 1104), (32, 1157), (33, 1206), (34, 1229), (35, 1242), (36, 1275), (37, 1308), (38, 1357), (39, 1397), (40, 1430), (41, 1453), (42, 1492), (43, 1505), (44, 1518)]) lsc [] h lwQ := by
  by_cases c0 : iand (xs 0) 63 = 0
  · rw [swF_hit c0]; exact case_0 hf q0 q1 q2 q3 q4 q5
  rw [swF_miss c0]
  by_cases c1 : iand (xs 0) 63 = 1
  · rw [swF_hit c1]; exact case_1 hf q0 q1 q2 q3 q4 q5
  rw [swF_miss c1]
  by_cases c2 : iand (xs 0) 63 = 2
  · rw [swF_hit c2]; exact case_2 hf q0 q1 q2 q3 q4 q5
  rw [swF_miss c2]
  by_cases c3 : iand (xs 0) 63 = 3
  · rw [swF_hit c3]; exact case_3 hf q0 q1 q2 q3 q4 q5
  rw [swF_miss c3]
  by_cases c4 : iand (xs 0) 63 = 4
  · rw [swF_hit c4]; exact case_4 hf q0 q1 q2 q3 q4 q5
  rw [swF_miss c4]
  by_cases c5 : iand (xs 0) 63 = 5
  · rw [swF_hit c5]; exact case_5 hf q0 q1 q2 q3 q4 q5
  rw [swF_miss c5]
  by_cases c6 : iand (xs 0) 63 = 6
  · rw [swF_hit c6]; exact case_6 hf q0 q1 q2 q3 q4 q5
  rw [swF_miss c6]
  by_cases c7 : iand (xs 0) 63 = 7
  · rw [swF_hit c7]; exact case_7 hf q0 q1 q2 q3 q4 q5
  rw [swF_miss c7]
  by_cases c8 : iand (xs 0) 63 = 8
  · rw [swF_hit c8]; exact case_8 hf q0 q1 q2 q3 q4 q5
  rw [swF_miss c8]
  by_cases c9 : iand (xs 0) 63 = 9
  · rw [swF_hit c9]; exact case_9 hf q0 q1 q2 q3 q4 q5
  rw [swF_miss c9]
  by_cases c10 : iand (xs 0) 63 = 10
  · rw [swF_hit c10]; exact case_10 hf q0 q1 q2 q3 q4 q5
  rw [swF_miss c10]
  by_cases c11 : iand (xs 0) 63 = 11
  · rw [swF_hit c11]; exact case_11 hf q0 q1 q2 q3 q4 q5
  rw [swF_miss c11]
  by_cases c12 : iand (xs 0) 63 = 12
  · rw [swF_hit c12]; exact case_12 hf q0 q1 q2 q3 q4 q5
  rw [swF_miss c12]
  by_cases c13 : iand (xs 0) 63 = 13
  · rw [swF_hit c13]; exact case_13 hf q0 q1 q2 q3 q4 q5
  rw [swF_miss c13]
  by_cases c14 : iand (xs 0) 63 = 14
  · rw [swF_hit c14]; exact case_14 hf q0 q1 q2 q3 q4 q5
  rw [swF_miss c14]
  by_cases c15 : iand (xs 0) 63 = 15
  · rw [swF_hit c15]; exact case_15 hf q0 q1 q2 q3 q4 q5
  rw [swF_miss c15]
  by_cases c16 : iand (xs 0) 63 = 16
  · rw [swF_hit c16]; exact case_16 hf q0 q1 q2 q3 q4 q5
  rw [swF_miss c16]
  by_cases c17 : iand (xs 0) 63 = 17
  · rw [swF_hit c17]; exact case_17 hf q0 q1 q2 q3 q4 q5
  rw [swF_miss c17]
  by_cases c18 : iand (xs 0) 63 = 18
  · rw [swF_hit c18]; exact case_18 hf q0 q1 q2 q3 q4 q5
  rw [swF_miss c18]
  by_cases c19 : iand (xs 0) 63 = 19
  · rw [swF_hit c19]; exact case_19 hf q0 q1 q2 q3 q4 q5
  rw [swF_miss c19]
  by_cases c20 : iand (xs 0) 63 = 20
  · rw [swF_hit c20]; exact case_20 hf q0 q1 q2 q3 q4 q5
  rw [swF_miss c20]
  by_cases c21 : iand (xs 0) 63 = 21
  · rw [swF_hit c21]; exact case_21 hf q0 q1 q2 q3 q4 q5
  rw [swF_miss c21]
  by_cases c22 : iand (xs 0) 63 = 22
  · rw [swF_hit c22]; exact case_22 hf q0 q1 q2 q3 q4 q5
  rw [swF_miss c22]
  by_cases c23 : iand (xs 0) 63 = 23
  · rw [swF_hit c23]; exact case_23 hf q0 q1 q2 q3 q4 q5
  rw [swF_miss c23]
  by_cases c24 : iand (xs 0) 63 = 24
  · rw [swF_hit c24]; exact case_24 hf q0 q1 q2 q3 q4 q5
  rw [swF_miss c24]
  by_cases c25 : iand (xs 0) 63 = 25
  · rw [swF_hit c25]; exact case_25 hf q0 q1 q2 q3 q4 q5
  rw [swF_miss c25]
  by_cases c26 : iand (xs 0) 63 = 26
  · rw [swF_hit c26]; exact case_26 hf q0 q1 q2 q3 q4 q5
  rw [swF_miss c26]
  by_cases c27 : iand (xs 0) 63 = 27
  · rw [swF_hit c27]; exact case_27 hf q0 q1 q2 q3 q4 q5
  rw [swF_miss c27]
  by_cases c28 : iand (xs 0) 63 = 28
  · rw [swF_hit c28]; exact case_28 hf q0 q1 q2 q3 q4 q5
  rw [swF_miss c28]
  by_cases c29 : iand (xs 0) 63 = 29
  · rw [swF_hit c29]; exact case_29 hf q0 q1 q2 q3 q4 q5
  rw [swF_miss c29]
  by_cases c30 : iand (xs 0) 63 = 30
  · rw [swF_hit c30]; exact case_30 hf q0 q1 q2 q3 q4 q5
  rw [swF_miss c30]
  by_cases c31 : iand (xs 0) 63 = 31
  · rw [swF_hit c31]; exact case_31 hf
  rw [swF_miss c31]
  by_cases c32 : iand (xs 0) 63 = 32
  · rw [swF_hit c32]; exact case_32 hf q0 q1 q2 q3 q4 q5
  rw [swF_miss c32]
  by_cases c33 : iand (xs 0) 63 = 33
  · rw [swF_hit c33]; exact case_33 hf q0 q1 q2 q3 q4 q5
  rw [swF_miss c33]
  by_cases c34 : iand (xs 0) 63 = 34
  · rw [swF_hit c34]; exact case_34 hf q0 q1 q2 q3 q4 q5
  rw [swF_miss c34]
  by_cases c35 : iand (xs 0) 63 = 35
  · rw [swF_hit c35]; exact case_35 hf q0 q1 q2 q3 q4 q5
  rw [swF_miss c35]
  by_cases c36 : iand (xs 0) 63 = 36
  · rw [swF_hit c36]; exact case_36 hf q0 q1 q2 q3 q4 q5
  rw [swF_miss c36]
  by_cases c37 : iand (xs 0) 63 = 37
  · rw [swF_hit c37]; exact case_37 hf q0 q1 q2 q3 q4 q5
  rw [swF_miss c37]
  by_cases c38 : iand (xs 0) 63 = 38
  · rw [swF_hit c38]; exact case_38 hf q0 q1 q2 q3 q4 q5
  rw [swF_miss c38]
  by_cases c39 : iand (xs 0) 63 = 39
  · rw [swF_hit c39]; exact case_39 hf q0 q1 q2 q3 q4 q5
  rw [swF_miss c39]
  by_cases c40 : iand (xs 0) 63 = 40
  · rw [swF_hit c40]; exact case_40 hf q0 q1 q2 q3 q4 q5
  rw [swF_miss c40]
  by_cases c41 : iand (xs 0) 63 = 41
  · rw [swF_hit c41]; exact case_41 hf q0 q1 q2 q3 q4 q5
  rw [swF_miss c41]
  by_cases c42 : iand (xs 0) 63 = 42
  · rw [swF_hit c42]; exact case_42 hf q0 q1 q2 q3 q4 q5
  rw [swF_miss c42]
  by_cases c43 : iand (xs 0) 63 = 43
  · rw [swF_hit c43]; exact case_43 hf q0 q1 q2 q3 q4 q5
  rw [swF_miss c43]
  by_cases c44 : iand (xs 0) 63 = 44
  · rw [swF_hit c44]; exact case_44 hf q0 q1 q2 q3 q4 q5
  rw [swF_miss c44]
  rw [swF_end]
  obtain ⟨f1, f2, f3, f4⟩ := hf
  exact law_end f1 f2 (f3.2 1000100 (Nat.le_of_ble_eq_true rfl)).1
theorem pure_law (L : Nat) (hL : L ≤ 6) : PureLaw L := by
  intro xs hx
  refine law_pre L xs _ (fun h hf => ?_)
  have q : ∀ i, -2147483648 ≤ xs i ∧ xs i ≤ 2147483647 := fun i => ⟨(hx i).1, by have := (hx i).2; omega⟩
  rcases Nat.lt_or_ge L 6 with hl | hl
  · exact law_short hf hl
  · obtain rfl : L = 6 := by omega
    exact law_long hf (law_cases hf (q 0) (q 1) (q 2) (q 3) (q 4) (q 5))
