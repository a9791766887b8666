/-! what is SAID: image, back, said of both, exactly -/
set_option maxRecDepth 20000 in
theorem ac_115 : allC[115]? = some cl115 := rfl
theorem cd_115_0 : cd 115 0 = some (4, 1, 0, 0, 0, []) := cd_row ac_115 rfl
theorem cd_115_1 : cd 115 1 = some (23, 4, 8, 0, 0, []) := cd_row ac_115 rfl
theorem cd_115_4 : cd 115 4 = some (4, 5, 1, 0, 0, []) := cd_row ac_115 rfl
theorem cd_115_5 : cd 115 5 = some (23, 8, 8, 0, 0, []) := cd_row ac_115 rfl
theorem cd_115_8 : cd 115 8 = some (46, 11, 22, 2, 0, []) := cd_row ac_115 rfl
theorem cd_115_11 : cd 115 11 = some (4, 12, 0, 0, 0, []) := cd_row ac_115 rfl
theorem cd_115_12 : cd 115 12 = some (4, 13, 1, 0, 0, []) := cd_row ac_115 rfl
theorem cd_115_13 : cd 115 13 = some (23, 16, 8, 1, 0, []) := cd_row ac_115 rfl
theorem cd_115_16 : cd 115 16 = some (24, 19, 8, 1, 0, []) := cd_row ac_115 rfl
theorem cd_115_19 : cd 115 19 = some (4, 20, 0, 0, 0, []) := cd_row ac_115 rfl
theorem cd_115_20 : cd 115 20 = some (4, 21, 1, 0, 0, []) := cd_row ac_115 rfl
theorem cd_115_21 : cd 115 21 = some (23, 24, 8, 2, 0, []) := cd_row ac_115 rfl
theorem cd_115_24 : cd 115 24 = some (24, 27, 8, 2, 0, []) := cd_row ac_115 rfl
theorem cd_115_27 : cd 115 27 = some (4, 28, 0, 0, 0, []) := cd_row ac_115 rfl
theorem cd_115_28 : cd 115 28 = some (4, 29, 1, 0, 0, []) := cd_row ac_115 rfl
theorem cd_115_29 : cd 115 29 = some (23, 32, 8, 3, 0, []) := cd_row ac_115 rfl
theorem cd_115_32 : cd 115 32 = some (24, 35, 8, 3, 0, []) := cd_row ac_115 rfl
theorem cd_115_35 : cd 115 35 = some (4, 36, 0, 0, 0, []) := cd_row ac_115 rfl
theorem cd_115_36 : cd 115 36 = some (4, 37, 1, 0, 0, []) := cd_row ac_115 rfl
theorem cd_115_37 : cd 115 37 = some (23, 40, 8, 5, 0, []) := cd_row ac_115 rfl
theorem cd_115_40 : cd 115 40 = some (24, 43, 8, 5, 0, []) := cd_row ac_115 rfl
theorem cd_115_43 : cd 115 43 = some (4, 44, 0, 0, 0, []) := cd_row ac_115 rfl
theorem cd_115_44 : cd 115 44 = some (4, 45, 1, 0, 0, []) := cd_row ac_115 rfl
theorem cd_115_45 : cd 115 45 = some (23, 48, 8, 7, 0, []) := cd_row ac_115 rfl
theorem cd_115_48 : cd 115 48 = some (24, 51, 8, 7, 0, []) := cd_row ac_115 rfl
theorem cd_115_51 : cd 115 51 = some (4, 52, 0, 0, 0, []) := cd_row ac_115 rfl
theorem cd_115_52 : cd 115 52 = some (4, 53, 1, 0, 0, []) := cd_row ac_115 rfl
theorem cd_115_53 : cd 115 53 = some (23, 56, 8, 8, 0, []) := cd_row ac_115 rfl
theorem cd_115_56 : cd 115 56 = some (24, 59, 8, 8, 0, []) := cd_row ac_115 rfl
theorem cd_115_59 : cd 115 59 = some (4, 60, 0, 0, 0, []) := cd_row ac_115 rfl
theorem cd_115_60 : cd 115 60 = some (4, 61, 1, 0, 0, []) := cd_row ac_115 rfl
theorem cd_115_61 : cd 115 61 = some (23, 64, 8, 10, 0, []) := cd_row ac_115 rfl
theorem cd_115_64 : cd 115 64 = some (24, 67, 8, 10, 0, []) := cd_row ac_115 rfl
theorem cd_115_67 : cd 115 67 = some (4, 68, 0, 0, 0, []) := cd_row ac_115 rfl
theorem cd_115_68 : cd 115 68 = some (4, 69, 1, 0, 0, []) := cd_row ac_115 rfl
theorem cd_115_69 : cd 115 69 = some (23, 72, 8, 12, 0, []) := cd_row ac_115 rfl
theorem cd_115_72 : cd 115 72 = some (24, 75, 8, 12, 0, []) := cd_row ac_115 rfl
theorem cd_115_75 : cd 115 75 = some (4, 76, 1, 0, 0, []) := cd_row ac_115 rfl
theorem cd_115_76 : cd 115 76 = some (23, 79, 8, 4, 0, []) := cd_row ac_115 rfl
theorem cd_115_79 : cd 115 79 = some (4, 80, 0, 0, 0, []) := cd_row ac_115 rfl
theorem cd_115_80 : cd 115 80 = some (23, 83, 8, 4, 0, []) := cd_row ac_115 rfl
theorem cd_115_83 : cd 115 83 = some (38, 86, 116, 2, 0, []) := cd_row ac_115 rfl
theorem cd_115_86 : cd 115 86 = some (4, 87, 1, 0, 0, []) := cd_row ac_115 rfl
theorem cd_115_87 : cd 115 87 = some (23, 90, 8, 6, 0, []) := cd_row ac_115 rfl
theorem cd_115_90 : cd 115 90 = some (4, 91, 0, 0, 0, []) := cd_row ac_115 rfl
theorem cd_115_91 : cd 115 91 = some (23, 94, 8, 6, 0, []) := cd_row ac_115 rfl
theorem cd_115_94 : cd 115 94 = some (38, 97, 116, 2, 0, []) := cd_row ac_115 rfl
theorem cd_115_97 : cd 115 97 = some (4, 98, 1, 0, 0, []) := cd_row ac_115 rfl
theorem cd_115_98 : cd 115 98 = some (23, 101, 8, 9, 0, []) := cd_row ac_115 rfl
theorem cd_115_101 : cd 115 101 = some (4, 102, 0, 0, 0, []) := cd_row ac_115 rfl
theorem cd_115_102 : cd 115 102 = some (23, 105, 8, 9, 0, []) := cd_row ac_115 rfl
theorem cd_115_105 : cd 115 105 = some (38, 108, 116, 2, 0, []) := cd_row ac_115 rfl
theorem cd_115_108 : cd 115 108 = some (4, 109, 1, 0, 0, []) := cd_row ac_115 rfl
theorem cd_115_109 : cd 115 109 = some (23, 112, 8, 11, 0, []) := cd_row ac_115 rfl
theorem cd_115_112 : cd 115 112 = some (4, 113, 0, 0, 0, []) := cd_row ac_115 rfl
theorem cd_115_113 : cd 115 113 = some (23, 116, 8, 11, 0, []) := cd_row ac_115 rfl
theorem cd_115_116 : cd 115 116 = some (38, 119, 116, 2, 0, []) := cd_row ac_115 rfl
theorem cd_115_119 : cd 115 119 = some (4, 120, 1, 0, 0, []) := cd_row ac_115 rfl
theorem cd_115_120 : cd 115 120 = some (23, 123, 8, 13, 0, []) := cd_row ac_115 rfl
theorem cd_115_123 : cd 115 123 = some (4, 124, 0, 0, 0, []) := cd_row ac_115 rfl
theorem cd_115_124 : cd 115 124 = some (23, 127, 8, 13, 0, []) := cd_row ac_115 rfl
theorem cd_115_127 : cd 115 127 = some (38, 130, 116, 2, 0, []) := cd_row ac_115 rfl
theorem cd_115_130 : cd 115 130 = some (4, 131, 1, 0, 0, []) := cd_row ac_115 rfl
theorem cd_115_131 : cd 115 131 = some (23, 134, 8, 14, 0, []) := cd_row ac_115 rfl
theorem cd_115_134 : cd 115 134 = some (4, 135, 0, 0, 0, []) := cd_row ac_115 rfl
theorem cd_115_135 : cd 115 135 = some (23, 138, 8, 14, 0, []) := cd_row ac_115 rfl
theorem cd_115_138 : cd 115 138 = some (38, 141, 116, 2, 0, []) := cd_row ac_115 rfl
theorem cd_115_141 : cd 115 141 = some (39, 142, 0, 0, 0, []) := cd_row ac_115 rfl
set_option maxRecDepth 20000 in
theorem ac_116 : allC[116]? = some cl116 := rfl
theorem cd_116_0 : cd 116 0 = some (4, 1, 0, 0, 0, []) := cd_row ac_116 rfl
theorem cd_116_1 : cd 116 1 = some (0, 2, 0, 0, 0, []) := cd_row ac_116 rfl
theorem cd_116_2 : cd 116 2 = some (4, 3, 1, 0, 0, []) := cd_row ac_116 rfl
theorem cd_116_3 : cd 116 3 = some (0, 4, 0, 0, 0, []) := cd_row ac_116 rfl
theorem cd_116_4 : cd 116 4 = some (4, 5, 0, 0, 0, []) := cd_row ac_116 rfl
theorem cd_116_5 : cd 116 5 = some (34, 6, 0, 0, 0, []) := cd_row ac_116 rfl
theorem cd_116_6 : cd 116 6 = some (4, 7, 1, 0, 0, []) := cd_row ac_116 rfl
theorem cd_116_7 : cd 116 7 = some (34, 8, 0, 0, 0, []) := cd_row ac_116 rfl
theorem cd_116_8 : cd 116 8 = some (50, 11, 0, 0, 0, []) := cd_row ac_116 rfl
theorem cd_116_11 : cd 116 11 = some (45, 14, 0, 0, 0, []) := cd_row ac_116 rfl
theorem cd_116_14 : cd 116 14 = some (39, 15, 0, 0, 0, []) := cd_row ac_116 rfl
set_option maxRecDepth 20000 in
theorem ac_318 : allC[318]? = some cl318 := rfl
theorem cd_318_0 : cd 318 0 = some (4, 1, 0, 0, 0, []) := cd_row ac_318 rfl
theorem cd_318_1 : cd 318 1 = some (23, 4, 10, 0, 0, []) := cd_row ac_318 rfl
theorem cd_318_4 : cd 318 4 = some (4, 5, 0, 0, 0, []) := cd_row ac_318 rfl
theorem cd_318_5 : cd 318 5 = some (23, 8, 10, 1, 0, []) := cd_row ac_318 rfl
theorem cd_318_8 : cd 318 8 = some (38, 11, 181, 2, 0, []) := cd_row ac_318 rfl
theorem cd_318_11 : cd 318 11 = some (4, 12, 0, 0, 0, []) := cd_row ac_318 rfl
theorem cd_318_12 : cd 318 12 = some (23, 15, 10, 0, 0, []) := cd_row ac_318 rfl
theorem cd_318_15 : cd 318 15 = some (0, 17, 0, 0, 16, []) := cd_row ac_318 rfl
theorem cd_318_17 : cd 318 17 = some (26, 18, 0, 0, 0, []) := cd_row ac_318 rfl
theorem cd_318_18 : cd 318 18 = some (40, 19, 0, 0, 0, []) := cd_row ac_318 rfl
set_option maxRecDepth 20000 in
theorem ac_319 : allC[319]? = some cl319 := rfl
theorem cd_319_0 : cd 319 0 = some (4, 1, 0, 0, 0, []) := cd_row ac_319 rfl
theorem cd_319_1 : cd 319 1 = some (23, 4, 10, 1, 0, []) := cd_row ac_319 rfl
theorem cd_319_4 : cd 319 4 = some (4, 5, 0, 0, 0, []) := cd_row ac_319 rfl
theorem cd_319_5 : cd 319 5 = some (23, 8, 10, 0, 0, []) := cd_row ac_319 rfl
theorem cd_319_8 : cd 319 8 = some (38, 11, 181, 2, 0, []) := cd_row ac_319 rfl
theorem cd_319_11 : cd 319 11 = some (4, 12, 0, 0, 0, []) := cd_row ac_319 rfl
theorem cd_319_12 : cd 319 12 = some (23, 15, 10, 0, 0, []) := cd_row ac_319 rfl
theorem cd_319_15 : cd 319 15 = some (0, 17, 0, 0, 16, []) := cd_row ac_319 rfl
theorem cd_319_17 : cd 319 17 = some (26, 18, 0, 0, 0, []) := cd_row ac_319 rfl
theorem cd_319_18 : cd 319 18 = some (40, 19, 0, 0, 0, []) := cd_row ac_319 rfl
theorem sk_acp {α : Type} {bad : α} {go : Nat → List (Option AV) → List AV → AH → α} {ret : Option AV → AH → α} {call : Nat → List AV → AH → (Option AV → AH → α) → α} {dO : Nat → Nat → AV} {nf : Nat → Nat} {nx a b : Nat} {k : Int} {sw : List (Int × Nat)} {ls : List (Option AV)} {st : List AV} {h : AH} {n dp sp : Int} {q r : Nat} : stepK bad go ret call dO nf (45, nx, a, b, k, sw) ls (.inl n :: .inl dp :: .inr (.inr (some q)) :: .inl sp :: .inr (.inr (some r)) :: st) h = if ((hK h r).1 = 11 ∨ (hK h r).1 = 12) ∧ (hK h q).1 = (hK h r).1 ∧ 0 ≤ n ∧ 0 ≤ dp ∧ 0 ≤ sp ∧ sp + n ≤ (hK h r).2 ∧ dp + n ≤ (hK h q).2 ∧ stW st ≤ 8 then go nx ls st (hCpy h r sp.toNat q dp.toNat n.toNat) else bad := rfl
theorem hV_cpy (h : AH) (r sp q dp n k i : Nat) : hV (hCpy h r sp q dp n) k i = if k = q ∧ dp ≤ i ∧ i < dp + n then hV h r (sp + (i - dp)) else hV h k i := rfl
theorem XC_same {d M : Nat} {as : List AV} {h h1 h2 : AH} {r1 r2 : Option AV} (e1 : ∀ Q : Option AV → AH → Prop, XC d M as h Q = Q r1 h1) (e2 : ∀ Q : Option AV → AH → Prop, XC d M as h Q = Q r2 h2) : r2 = r1 ∧ h2 = h1 := by
  have q := (e2 (fun r h' => r = r1 ∧ h' = h1)).symm.trans (e1 (fun r h' => r = r1 ∧ h' = h1))
  exact q.mpr ⟨rfl, rfl⟩
theorem X_crow {d p q n : Nat} {h : AH} (hp : hK h p = (11, n)) (hq : hK h q = (11, n)) (Q : Option AV → AH → Prop) : XC (d + 1) 116 [vR p, vR q] h Q = Q none (hCpy h p 0 q 0 n) := by
  refine XC_eq (Nat.le_of_ble_eq_true rfl) ?_ Q
  show XP d 116 0 [some (vR p), some (vR q)] [] h _
  have m : min (n : Int) (n : Int) = (n : Int) := Int.min_self _
  have g : (0 : Int) ≤ (n : Int) := Int.natCast_nonneg n
  have y : (none : Option AV) = none ∧ hCpy h p 0 q 0 n = hCpy h p 0 q 0 n := ⟨rfl, rfl⟩
  refine xpk_sound (stops := []) (n := 20) ?_
  simp only [sk_0, sk_1, sk_2, sk_3, sk_4, sk_5, sk_6, sk_7, sk_8, sk_iadd, sk_isub, sk_imul, sk_iand, sk_ior, sk_ixor, sk_ishl, sk_ishr, sk_iushr, sk_idiv, sk_irem, sk_ineg, sk_ladd, sk_lsub, sk_lmul, sk_land, sk_lor, sk_ldiv, sk_lrem, sk_lneg, sk_lshl, sk_lshr, sk_i2l, sk_l2i, sk_lcmp, sk_dupI, sk_dupR, sk_dup2L, sk_dup2I, sk_popI, sk_ifeq, sk_ifne, sk_iflt, sk_ifge, sk_ifgt, sk_ifle, sk_iceq, sk_icne, sk_iclt, sk_icge, sk_icgt, sk_icle, sk_goto, sk_getf, sk_putf, sk_gets, sk_iald, sk_lald, sk_bald, sk_aald, sk_iast, sk_last, sk_bast, sk_aast, sk_alen, sk_newa, sk_newt, sk_new, sk_cs1, sk_cs2, sk_cs3, sk_cs4, sk_cs5, sk_cs6, sk_cv1, sk_cv2, sk_cv3, sk_cv4, sk_cv5, sk_cv6, sk_ci1, sk_ci2, sk_ci3, sk_ret0, sk_retI, sk_retL, sk_retR, sk_sw, sk_oin, sk_max, sk_min, sk_abs, lI_0, lI_s, lL_0, lL_s, lR_0, lR_s, vIo_e, vLo_e, vOo_e, stW_I, stW_L, stW_R, stW_0, stW_z, okSt_0, okSt_s, hV_eq, hK_eq, okF_0, okF_1, okF_3, is01_0, is01_1, is01_i, Int.toNat_natCast, Int.reduceEq, Int.reduceLE, Int.reduceLT, Int.reduceNeg, Nat.reduceLT, not_true_eq_false, not_false_eq_true, reduceIte, Option.toList, List.cons_append, List.nil_append, List.set_cons_zero, List.set_cons_succ, List.not_mem_nil, List.mem_cons, if_false, if_true, ite_true, ite_false, and_self, and_true, true_and, Nat.reduceAdd, Nat.reduceLeDiff, Nat.reduceEqDiff, Nat.zero_add, Nat.le_refl, Nat.zero_le, or_false, false_or, Int.reduceToNat, or_true, true_or, eq_self, and_false, false_and, inR_d, nc_4, nc_5, nc_6, nc_7, nc_8, nc_16, nc_18, nc_20, nc_24, nc_32, nc_40, nc_64, nc_104, nc_120, nc_160, nc_256, nc_300, nc_330, nc_390, nc_1200, nc_1260, nc_3012, nc_9834, okSt_1i, okSt_1r, okSt_1n, List.length_cons, List.length_nil, xpk_succ cd_116_0, xpk_succ cd_116_1, xpk_succ cd_116_2, xpk_succ cd_116_3, xpk_succ cd_116_4, xpk_succ cd_116_5, xpk_succ cd_116_6, xpk_succ cd_116_7, xpk_succ cd_116_8, xpk_succ cd_116_11, xpk_succ cd_116_14, sk_acp, hp, hq, m, g, Int.zero_add, Int.le_refl]
theorem X_call {d p q a b n : Nat} {h : AH} (hp : hK h p = (1, 0)) (hq : hK h q = (1, 0)) (h1 : hV h p 0 = vR a) (h2 : hV h q 0 = vR b) (h3 : hV h p 1 = vI (n : Int)) (h4 : hV h q 1 = vI (n : Int)) (ha : hK h a = (12, n)) (hb : hK h b = (12, n)) (Q : Option AV → AH → Prop) : XC (d + 1) 31 [vR q, vR p] h Q = Q none (hCpy h a 0 b 0 n) := by
  refine XC_eq (Nat.le_of_ble_eq_true rfl) ?_ Q
  show XP d 31 0 [some (vR q), some (vR p)] [] h _
  have m : min (n : Int) (n : Int) = (n : Int) := Int.min_self _
  have g : (0 : Int) ≤ (n : Int) := Int.natCast_nonneg n
  refine xpk_sound (stops := []) (n := 20) ?_
  simp only [sk_0, sk_1, sk_2, sk_3, sk_4, sk_5, sk_6, sk_7, sk_8, sk_iadd, sk_isub, sk_imul, sk_iand, sk_ior, sk_ixor, sk_ishl, sk_ishr, sk_iushr, sk_idiv, sk_irem, sk_ineg, sk_ladd, sk_lsub, sk_lmul, sk_land, sk_lor, sk_ldiv, sk_lrem, sk_lneg, sk_lshl, sk_lshr, sk_i2l, sk_l2i, sk_lcmp, sk_dupI, sk_dupR, sk_dup2L, sk_dup2I, sk_popI, sk_ifeq, sk_ifne, sk_iflt, sk_ifge, sk_ifgt, sk_ifle, sk_iceq, sk_icne, sk_iclt, sk_icge, sk_icgt, sk_icle, sk_goto, sk_getf, sk_putf, sk_gets, sk_iald, sk_lald, sk_bald, sk_aald, sk_iast, sk_last, sk_bast, sk_aast, sk_alen, sk_newa, sk_newt, sk_new, sk_cs1, sk_cs2, sk_cs3, sk_cs4, sk_cs5, sk_cs6, sk_cv1, sk_cv2, sk_cv3, sk_cv4, sk_cv5, sk_cv6, sk_ci1, sk_ci2, sk_ci3, sk_ret0, sk_retI, sk_retL, sk_retR, sk_sw, sk_oin, sk_max, sk_min, sk_abs, lI_0, lI_s, lL_0, lL_s, lR_0, lR_s, vIo_e, vLo_e, vOo_e, stW_I, stW_L, stW_R, stW_0, stW_z, okSt_0, okSt_s, hV_eq, hK_eq, okF_0, okF_1, okF_3, is01_0, is01_1, is01_i, Int.toNat_natCast, Int.reduceEq, Int.reduceLE, Int.reduceLT, Int.reduceNeg, Nat.reduceLT, not_true_eq_false, not_false_eq_true, reduceIte, Option.toList, List.cons_append, List.nil_append, List.set_cons_zero, List.set_cons_succ, List.not_mem_nil, List.mem_cons, if_false, if_true, ite_true, ite_false, and_self, and_true, true_and, Nat.reduceAdd, Nat.reduceLeDiff, Nat.reduceEqDiff, Nat.zero_add, Nat.le_refl, Nat.zero_le, or_false, false_or, Int.reduceToNat, or_true, true_or, eq_self, and_false, false_and, inR_d, nc_4, nc_5, nc_6, nc_7, nc_8, nc_16, nc_18, nc_20, nc_24, nc_32, nc_40, nc_64, nc_104, nc_120, nc_160, nc_256, nc_300, nc_330, nc_390, nc_1200, nc_1260, nc_3012, nc_9834, okSt_1i, okSt_1r, okSt_1n, List.length_cons, List.length_nil, xpk_succ cd_31_0, xpk_succ cd_31_1, xpk_succ cd_31_4, xpk_succ cd_31_5, xpk_succ cd_31_6, xpk_succ cd_31_9, xpk_succ cd_31_10, xpk_succ cd_31_11, xpk_succ cd_31_14, xpk_succ cd_31_15, xpk_succ cd_31_18, xpk_succ cd_31_21, xpk_succ cd_31_24, sk_acp, hp, hq, h1, h2, h3, h4, ha, hb, m, g, Int.zero_add, Int.le_refl]
theorem okF_z0 : okF 2 (.inl 0) = true := rfl
theorem cp_s {h : AH} {p q a n : Nat} {v : AV} (e : hV h p (a + n) = v) : hSet (hCpy h p a q a n) q (a + n) v = hCpy h p a q a (n + 1) := by
  subst e
  refine Prod.ext rfl (Prod.ext rfl (Prod.ext rfl ?_))
  funext k i
  show (if k = q ∧ i = a + n then hV h p (a + n) else if k = q ∧ a ≤ i ∧ i < a + n then hV h p (a + (i - a)) else hV h k i) = if k = q ∧ a ≤ i ∧ i < a + (n + 1) then hV h p (a + (i - a)) else hV h k i
  by_cases z : k = q ∧ i = a + n
  · rw [if_pos z, if_pos (by omega), z.2, Nat.add_sub_cancel_left]
  · rw [if_neg z]
    by_cases z1 : k = q ∧ a ≤ i ∧ i < a + n
    · rw [if_pos z1, if_pos (by omega)]
    · rw [if_neg z1, if_neg (by omega)]
theorem cp_0 {h : AH} {p q a : Nat} {v : AV} (e : hV h p a = v) : hSet h q a v = hCpy h p a q a 1 := by
  subst e
  refine Prod.ext rfl (Prod.ext rfl (Prod.ext rfl ?_))
  funext k i
  show (if k = q ∧ i = a then hV h p a else hV h k i) = if k = q ∧ a ≤ i ∧ i < a + 1 then hV h p (a + (i - a)) else hV h k i
  by_cases z : k = q ∧ i = a
  · rw [if_pos z, if_pos (by omega), z.2, Nat.sub_self, Nat.add_zero]
  · rw [if_neg z, if_neg (by omega)]
set_option maxHeartbeats 4000000 in
theorem X_cpp_2 {d : Nat} {h : AH} (hJ : k_H JB h) (Q : Option AV → AH → Prop) : XC (d + 1) 23 [vR 12, vR 2] h Q = Q none (hCpy h 2 1 12 1 14) := by
  refine XC_eq (Nat.le_of_ble_eq_true rfl) ?_ Q
  show XP d 23 0 [some (vR 12), some (vR 2)] [] h _
  have e1 := (I_2_1 hJ).1
  have s1 := cp_0 (q := 12) e1
  have e2 := (I_2_2 hJ).1
  have s2 := cp_s (h := h) (p := 2) (q := 12) (a := 1) (n := 1) e2
  have s2 : hSet (hCpy h 2 1 12 1 1) 12 2 (vI (fI h 2 2)) = hCpy h 2 1 12 1 2 := s2
  have e3 := (I_2_3 hJ).1
  have s3 := cp_s (h := h) (p := 2) (q := 12) (a := 1) (n := 2) e3
  have s3 : hSet (hCpy h 2 1 12 1 2) 12 3 (vI (fI h 2 3)) = hCpy h 2 1 12 1 3 := s3
  have e4 := (I_2_4 hJ).1
  have s4 := cp_s (h := h) (p := 2) (q := 12) (a := 1) (n := 3) e4
  have s4 : hSet (hCpy h 2 1 12 1 3) 12 4 (vI (fI h 2 4)) = hCpy h 2 1 12 1 4 := s4
  have e5 := (I_2_5 hJ).1
  have s5 := cp_s (h := h) (p := 2) (q := 12) (a := 1) (n := 4) e5
  have s5 : hSet (hCpy h 2 1 12 1 4) 12 5 (vI (fI h 2 5)) = hCpy h 2 1 12 1 5 := s5
  have e6 := (I_2_6 hJ).1
  have s6 := cp_s (h := h) (p := 2) (q := 12) (a := 1) (n := 5) e6
  have s6 : hSet (hCpy h 2 1 12 1 5) 12 6 (vI (fI h 2 6)) = hCpy h 2 1 12 1 6 := s6
  have e7 := (I_2_7 hJ).1
  have s7 := cp_s (h := h) (p := 2) (q := 12) (a := 1) (n := 6) e7
  have s7 : hSet (hCpy h 2 1 12 1 6) 12 7 (vI (fI h 2 7)) = hCpy h 2 1 12 1 7 := s7
  have e8 := (I_2_8 hJ).1
  have s8 := cp_s (h := h) (p := 2) (q := 12) (a := 1) (n := 7) e8
  have s8 : hSet (hCpy h 2 1 12 1 7) 12 8 (vI (fI h 2 8)) = hCpy h 2 1 12 1 8 := s8
  have e9 := (I_2_9 hJ).1
  have s9 := cp_s (h := h) (p := 2) (q := 12) (a := 1) (n := 8) e9
  have s9 : hSet (hCpy h 2 1 12 1 8) 12 9 (vI (fI h 2 9)) = hCpy h 2 1 12 1 9 := s9
  have e10 := (I_2_10 hJ).1
  have s10 := cp_s (h := h) (p := 2) (q := 12) (a := 1) (n := 9) e10
  have s10 : hSet (hCpy h 2 1 12 1 9) 12 10 (vI (fI h 2 10)) = hCpy h 2 1 12 1 10 := s10
  have e11 := (I_2_11 hJ).1
  have s11 := cp_s (h := h) (p := 2) (q := 12) (a := 1) (n := 10) e11
  have s11 : hSet (hCpy h 2 1 12 1 10) 12 11 (vI (fI h 2 11)) = hCpy h 2 1 12 1 11 := s11
  have e12 := (I_2_12 hJ).1
  have s12 := cp_s (h := h) (p := 2) (q := 12) (a := 1) (n := 11) e12
  have s12 : hSet (hCpy h 2 1 12 1 11) 12 12 (vI (fI h 2 12)) = hCpy h 2 1 12 1 12 := s12
  have e13 := (I_2_13 hJ).1
  have s13 := cp_s (h := h) (p := 2) (q := 12) (a := 1) (n := 12) e13
  have s13 : hSet (hCpy h 2 1 12 1 12) 12 13 (vI (fI h 2 13)) = hCpy h 2 1 12 1 13 := s13
  have e14 := (I_2_14 hJ).1
  have e14 : hV h 2 14 = vI 0 := by
    have z := (I_2_14 hJ).2
    rw [e14, Int.le_antisymm z.2 z.1]
  have s14 := cp_s (h := h) (p := 2) (q := 12) (a := 1) (n := 13) e14
  have s14 : hSet (hCpy h 2 1 12 1 13) 12 14 (vI 0) = hCpy h 2 1 12 1 14 := s14
  refine xpk_sound (stops := []) (n := 60) ?_
  simp only [sk_0, sk_1, sk_2, sk_3, sk_4, sk_5, sk_6, sk_7, sk_8, sk_iadd, sk_isub, sk_imul, sk_iand, sk_ior, sk_ixor, sk_ishl, sk_ishr, sk_iushr, sk_idiv, sk_irem, sk_ineg, sk_ladd, sk_lsub, sk_lmul, sk_land, sk_lor, sk_ldiv, sk_lrem, sk_lneg, sk_lshl, sk_lshr, sk_i2l, sk_l2i, sk_lcmp, sk_dupI, sk_dupR, sk_dup2L, sk_dup2I, sk_popI, sk_ifeq, sk_ifne, sk_iflt, sk_ifge, sk_ifgt, sk_ifle, sk_iceq, sk_icne, sk_iclt, sk_icge, sk_icgt, sk_icle, sk_goto, sk_getf, sk_putf, sk_gets, sk_iald, sk_lald, sk_bald, sk_aald, sk_iast, sk_last, sk_bast, sk_aast, sk_alen, sk_newa, sk_newt, sk_new, sk_cs1, sk_cs2, sk_cs3, sk_cs4, sk_cs5, sk_cs6, sk_cv1, sk_cv2, sk_cv3, sk_cv4, sk_cv5, sk_cv6, sk_ci1, sk_ci2, sk_ci3, sk_ret0, sk_retI, sk_retL, sk_retR, sk_sw, sk_oin, sk_max, sk_min, sk_abs, lI_0, lI_s, lL_0, lL_s, lR_0, lR_s, vIo_e, vLo_e, vOo_e, stW_I, stW_L, stW_R, stW_0, stW_z, okSt_0, okSt_s, hV_eq, hK_eq, okF_0, okF_1, okF_3, is01_0, is01_1, is01_i, Int.toNat_natCast, Int.reduceEq, Int.reduceLE, Int.reduceLT, Int.reduceNeg, Nat.reduceLT, not_true_eq_false, not_false_eq_true, reduceIte, Option.toList, List.cons_append, List.nil_append, List.set_cons_zero, List.set_cons_succ, List.not_mem_nil, List.mem_cons, if_false, if_true, ite_true, ite_false, and_self, and_true, true_and, Nat.reduceAdd, Nat.reduceLeDiff, Nat.reduceEqDiff, Nat.zero_add, Nat.le_refl, Nat.zero_le, or_false, false_or, Int.reduceToNat, or_true, true_or, eq_self, and_false, false_and, inR_d, nc_4, nc_5, nc_6, nc_7, nc_8, nc_16, nc_18, nc_20, nc_24, nc_32, nc_40, nc_64, nc_104, nc_120, nc_160, nc_256, nc_300, nc_330, nc_390, nc_1200, nc_1260, nc_3012, nc_9834, okSt_1i, okSt_1r, okSt_1n, List.length_cons, List.length_nil, xpk_succ cd_23_0, xpk_succ cd_23_1, xpk_succ cd_23_2, xpk_succ cd_23_5, xpk_succ cd_23_8, xpk_succ cd_23_9, xpk_succ cd_23_10, xpk_succ cd_23_13, xpk_succ cd_23_16, xpk_succ cd_23_17, xpk_succ cd_23_18, xpk_succ cd_23_21, xpk_succ cd_23_24, xpk_succ cd_23_25, xpk_succ cd_23_26, xpk_succ cd_23_29, xpk_succ cd_23_32, xpk_succ cd_23_33, xpk_succ cd_23_34, xpk_succ cd_23_37, xpk_succ cd_23_40, xpk_succ cd_23_41, xpk_succ cd_23_42, xpk_succ cd_23_45, xpk_succ cd_23_48, xpk_succ cd_23_49, xpk_succ cd_23_50, xpk_succ cd_23_53, xpk_succ cd_23_56, xpk_succ cd_23_57, xpk_succ cd_23_58, xpk_succ cd_23_61, xpk_succ cd_23_64, xpk_succ cd_23_65, xpk_succ cd_23_66, xpk_succ cd_23_69, xpk_succ cd_23_72, xpk_succ cd_23_73, xpk_succ cd_23_74, xpk_succ cd_23_77, xpk_succ cd_23_80, xpk_succ cd_23_81, xpk_succ cd_23_82, xpk_succ cd_23_85, xpk_succ cd_23_88, xpk_succ cd_23_89, xpk_succ cd_23_90, xpk_succ cd_23_93, xpk_succ cd_23_96, xpk_succ cd_23_97, xpk_succ cd_23_98, xpk_succ cd_23_101, xpk_succ cd_23_104, xpk_succ cd_23_105, xpk_succ cd_23_106, xpk_succ cd_23_109, xpk_succ cd_23_112, K_2 hJ, K_12 hJ, e1, s1, e2, s2, e3, s3, e4, s4, e5, s5, e6, s6, e7, s7, e8, s8, e9, s9, e10, s10, e11, s11, e12, s12, e13, s13, e14, s14, hV_cpy, hK_cpy, okF_z0]
set_option maxHeartbeats 4000000 in
theorem X_cpp_12 {d : Nat} {h : AH} (hJ : k_H JB h) (Q : Option AV → AH → Prop) : XC (d + 1) 23 [vR 2, vR 12] h Q = Q none (hCpy h 12 1 2 1 14) := by
  refine XC_eq (Nat.le_of_ble_eq_true rfl) ?_ Q
  show XP d 23 0 [some (vR 2), some (vR 12)] [] h _
  have e1 := (I_12_1 hJ).1
  have s1 := cp_0 (q := 2) e1
  have e2 := (I_12_2 hJ).1
  have s2 := cp_s (h := h) (p := 12) (q := 2) (a := 1) (n := 1) e2
  have s2 : hSet (hCpy h 12 1 2 1 1) 2 2 (vI (fI h 12 2)) = hCpy h 12 1 2 1 2 := s2
  have e3 := (I_12_3 hJ).1
  have s3 := cp_s (h := h) (p := 12) (q := 2) (a := 1) (n := 2) e3
  have s3 : hSet (hCpy h 12 1 2 1 2) 2 3 (vI (fI h 12 3)) = hCpy h 12 1 2 1 3 := s3
  have e4 := (I_12_4 hJ).1
  have s4 := cp_s (h := h) (p := 12) (q := 2) (a := 1) (n := 3) e4
  have s4 : hSet (hCpy h 12 1 2 1 3) 2 4 (vI (fI h 12 4)) = hCpy h 12 1 2 1 4 := s4
  have e5 := (I_12_5 hJ).1
  have s5 := cp_s (h := h) (p := 12) (q := 2) (a := 1) (n := 4) e5
  have s5 : hSet (hCpy h 12 1 2 1 4) 2 5 (vI (fI h 12 5)) = hCpy h 12 1 2 1 5 := s5
  have e6 := (I_12_6 hJ).1
  have s6 := cp_s (h := h) (p := 12) (q := 2) (a := 1) (n := 5) e6
  have s6 : hSet (hCpy h 12 1 2 1 5) 2 6 (vI (fI h 12 6)) = hCpy h 12 1 2 1 6 := s6
  have e7 := (I_12_7 hJ).1
  have s7 := cp_s (h := h) (p := 12) (q := 2) (a := 1) (n := 6) e7
  have s7 : hSet (hCpy h 12 1 2 1 6) 2 7 (vI (fI h 12 7)) = hCpy h 12 1 2 1 7 := s7
  have e8 := (I_12_8 hJ).1
  have s8 := cp_s (h := h) (p := 12) (q := 2) (a := 1) (n := 7) e8
  have s8 : hSet (hCpy h 12 1 2 1 7) 2 8 (vI (fI h 12 8)) = hCpy h 12 1 2 1 8 := s8
  have e9 := (I_12_9 hJ).1
  have s9 := cp_s (h := h) (p := 12) (q := 2) (a := 1) (n := 8) e9
  have s9 : hSet (hCpy h 12 1 2 1 8) 2 9 (vI (fI h 12 9)) = hCpy h 12 1 2 1 9 := s9
  have e10 := (I_12_10 hJ).1
  have s10 := cp_s (h := h) (p := 12) (q := 2) (a := 1) (n := 9) e10
  have s10 : hSet (hCpy h 12 1 2 1 9) 2 10 (vI (fI h 12 10)) = hCpy h 12 1 2 1 10 := s10
  have e11 := (I_12_11 hJ).1
  have s11 := cp_s (h := h) (p := 12) (q := 2) (a := 1) (n := 10) e11
  have s11 : hSet (hCpy h 12 1 2 1 10) 2 11 (vI (fI h 12 11)) = hCpy h 12 1 2 1 11 := s11
  have e12 := (I_12_12 hJ).1
  have s12 := cp_s (h := h) (p := 12) (q := 2) (a := 1) (n := 11) e12
  have s12 : hSet (hCpy h 12 1 2 1 11) 2 12 (vI (fI h 12 12)) = hCpy h 12 1 2 1 12 := s12
  have e13 := (I_12_13 hJ).1
  have s13 := cp_s (h := h) (p := 12) (q := 2) (a := 1) (n := 12) e13
  have s13 : hSet (hCpy h 12 1 2 1 12) 2 13 (vI (fI h 12 13)) = hCpy h 12 1 2 1 13 := s13
  have e14 := (I_12_14 hJ).1
  have e14 : hV h 12 14 = vI 0 := by
    have z := (I_12_14 hJ).2
    rw [e14, Int.le_antisymm z.2 z.1]
  have s14 := cp_s (h := h) (p := 12) (q := 2) (a := 1) (n := 13) e14
  have s14 : hSet (hCpy h 12 1 2 1 13) 2 14 (vI 0) = hCpy h 12 1 2 1 14 := s14
  refine xpk_sound (stops := []) (n := 60) ?_
  simp only [sk_0, sk_1, sk_2, sk_3, sk_4, sk_5, sk_6, sk_7, sk_8, sk_iadd, sk_isub, sk_imul, sk_iand, sk_ior, sk_ixor, sk_ishl, sk_ishr, sk_iushr, sk_idiv, sk_irem, sk_ineg, sk_ladd, sk_lsub, sk_lmul, sk_land, sk_lor, sk_ldiv, sk_lrem, sk_lneg, sk_lshl, sk_lshr, sk_i2l, sk_l2i, sk_lcmp, sk_dupI, sk_dupR, sk_dup2L, sk_dup2I, sk_popI, sk_ifeq, sk_ifne, sk_iflt, sk_ifge, sk_ifgt, sk_ifle, sk_iceq, sk_icne, sk_iclt, sk_icge, sk_icgt, sk_icle, sk_goto, sk_getf, sk_putf, sk_gets, sk_iald, sk_lald, sk_bald, sk_aald, sk_iast, sk_last, sk_bast, sk_aast, sk_alen, sk_newa, sk_newt, sk_new, sk_cs1, sk_cs2, sk_cs3, sk_cs4, sk_cs5, sk_cs6, sk_cv1, sk_cv2, sk_cv3, sk_cv4, sk_cv5, sk_cv6, sk_ci1, sk_ci2, sk_ci3, sk_ret0, sk_retI, sk_retL, sk_retR, sk_sw, sk_oin, sk_max, sk_min, sk_abs, lI_0, lI_s, lL_0, lL_s, lR_0, lR_s, vIo_e, vLo_e, vOo_e, stW_I, stW_L, stW_R, stW_0, stW_z, okSt_0, okSt_s, hV_eq, hK_eq, okF_0, okF_1, okF_3, is01_0, is01_1, is01_i, Int.toNat_natCast, Int.reduceEq, Int.reduceLE, Int.reduceLT, Int.reduceNeg, Nat.reduceLT, not_true_eq_false, not_false_eq_true, reduceIte, Option.toList, List.cons_append, List.nil_append, List.set_cons_zero, List.set_cons_succ, List.not_mem_nil, List.mem_cons, if_false, if_true, ite_true, ite_false, and_self, and_true, true_and, Nat.reduceAdd, Nat.reduceLeDiff, Nat.reduceEqDiff, Nat.zero_add, Nat.le_refl, Nat.zero_le, or_false, false_or, Int.reduceToNat, or_true, true_or, eq_self, and_false, false_and, inR_d, nc_4, nc_5, nc_6, nc_7, nc_8, nc_16, nc_18, nc_20, nc_24, nc_32, nc_40, nc_64, nc_104, nc_120, nc_160, nc_256, nc_300, nc_330, nc_390, nc_1200, nc_1260, nc_3012, nc_9834, okSt_1i, okSt_1r, okSt_1n, List.length_cons, List.length_nil, xpk_succ cd_23_0, xpk_succ cd_23_1, xpk_succ cd_23_2, xpk_succ cd_23_5, xpk_succ cd_23_8, xpk_succ cd_23_9, xpk_succ cd_23_10, xpk_succ cd_23_13, xpk_succ cd_23_16, xpk_succ cd_23_17, xpk_succ cd_23_18, xpk_succ cd_23_21, xpk_succ cd_23_24, xpk_succ cd_23_25, xpk_succ cd_23_26, xpk_succ cd_23_29, xpk_succ cd_23_32, xpk_succ cd_23_33, xpk_succ cd_23_34, xpk_succ cd_23_37, xpk_succ cd_23_40, xpk_succ cd_23_41, xpk_succ cd_23_42, xpk_succ cd_23_45, xpk_succ cd_23_48, xpk_succ cd_23_49, xpk_succ cd_23_50, xpk_succ cd_23_53, xpk_succ cd_23_56, xpk_succ cd_23_57, xpk_succ cd_23_58, xpk_succ cd_23_61, xpk_succ cd_23_64, xpk_succ cd_23_65, xpk_succ cd_23_66, xpk_succ cd_23_69, xpk_succ cd_23_72, xpk_succ cd_23_73, xpk_succ cd_23_74, xpk_succ cd_23_77, xpk_succ cd_23_80, xpk_succ cd_23_81, xpk_succ cd_23_82, xpk_succ cd_23_85, xpk_succ cd_23_88, xpk_succ cd_23_89, xpk_succ cd_23_90, xpk_succ cd_23_93, xpk_succ cd_23_96, xpk_succ cd_23_97, xpk_succ cd_23_98, xpk_succ cd_23_101, xpk_succ cd_23_104, xpk_succ cd_23_105, xpk_succ cd_23_106, xpk_succ cd_23_109, xpk_succ cd_23_112, K_12 hJ, K_2 hJ, e1, s1, e2, s2, e3, s3, e4, s4, e5, s5, e6, s6, e7, s7, e8, s8, e9, s9, e10, s10, e11, s11, e12, s12, e13, s13, e14, s14, hV_cpy, hK_cpy, okF_z0]
theorem X_cpw_2 {d : Nat} {h : AH} (hJ : k_H JB h) (Q : Option AV → AH → Prop) : XC (d + 2) 22 [vR 12, vR 2] h Q = Q none (hCpy (hCpy h 2 1 12 1 14) 4 0 14 0 1260) := by
  refine XC_eq (Nat.le_of_ble_eq_true rfl) ?_ Q
  show XP (d + 1) 22 0 [some (vR 12), some (vR 2)] [] h _
  have z3 := (I_3_1 hJ).2
  have f3 : hV h 3 1 = vI 1260 := by rw [(I_3_1 hJ).1, Int.le_antisymm z3.2 z3.1]
  have z13 := (I_13_1 hJ).2
  have f13 : hV h 13 1 = vI 1260 := by rw [(I_13_1 hJ).1, Int.le_antisymm z13.2 z13.1]
  have c1 : ∀ Q : Option AV → AH → Prop, XC (d + 1) 23 [vR 12, vR 2] h Q = Q none (hCpy h 2 1 12 1 14) := fun Q => X_cpp_2 hJ Q
  have c2 : ∀ Q : Option AV → AH → Prop, XC (d + 1) 31 [vR 13, vR 3] (hCpy h 2 1 12 1 14) Q = Q none (hCpy (hCpy h 2 1 12 1 14) 4 0 14 0 1260) := fun Q => X_call (h := (hCpy h 2 1 12 1 14)) (n := 1260) ((congrFun (hK_cpy ..) _).trans (K_3 hJ)) ((congrFun (hK_cpy ..) _).trans (K_13 hJ)) ((hV_cpy_ne (by decide)).trans (F_3_0 hJ)) ((hV_cpy_ne (by decide)).trans (F_13_0 hJ)) ((hV_cpy_ne (by decide)).trans f3) ((hV_cpy_ne (by decide)).trans f13) ((congrFun (hK_cpy ..) _).trans (K_4 hJ)) ((congrFun (hK_cpy ..) _).trans (K_14 hJ)) Q
  have y : (none : Option AV) = none ∧ hCpy (hCpy h 2 1 12 1 14) 4 0 14 0 1260 = hCpy (hCpy h 2 1 12 1 14) 4 0 14 0 1260 := ⟨rfl, rfl⟩
  refine xpk_sound (stops := []) (n := 20) ?_
  simp only [sk_0, sk_1, sk_2, sk_3, sk_4, sk_5, sk_6, sk_7, sk_8, sk_iadd, sk_isub, sk_imul, sk_iand, sk_ior, sk_ixor, sk_ishl, sk_ishr, sk_iushr, sk_idiv, sk_irem, sk_ineg, sk_ladd, sk_lsub, sk_lmul, sk_land, sk_lor, sk_ldiv, sk_lrem, sk_lneg, sk_lshl, sk_lshr, sk_i2l, sk_l2i, sk_lcmp, sk_dupI, sk_dupR, sk_dup2L, sk_dup2I, sk_popI, sk_ifeq, sk_ifne, sk_iflt, sk_ifge, sk_ifgt, sk_ifle, sk_iceq, sk_icne, sk_iclt, sk_icge, sk_icgt, sk_icle, sk_goto, sk_getf, sk_putf, sk_gets, sk_iald, sk_lald, sk_bald, sk_aald, sk_iast, sk_last, sk_bast, sk_aast, sk_alen, sk_newa, sk_newt, sk_new, sk_cs1, sk_cs2, sk_cs3, sk_cs4, sk_cs5, sk_cs6, sk_cv1, sk_cv2, sk_cv3, sk_cv4, sk_cv5, sk_cv6, sk_ci1, sk_ci2, sk_ci3, sk_ret0, sk_retI, sk_retL, sk_retR, sk_sw, sk_oin, sk_max, sk_min, sk_abs, lI_0, lI_s, lL_0, lL_s, lR_0, lR_s, vIo_e, vLo_e, vOo_e, stW_I, stW_L, stW_R, stW_0, stW_z, okSt_0, okSt_s, hV_eq, hK_eq, okF_0, okF_1, okF_3, is01_0, is01_1, is01_i, Int.toNat_natCast, Int.reduceEq, Int.reduceLE, Int.reduceLT, Int.reduceNeg, Nat.reduceLT, not_true_eq_false, not_false_eq_true, reduceIte, Option.toList, List.cons_append, List.nil_append, List.set_cons_zero, List.set_cons_succ, List.not_mem_nil, List.mem_cons, if_false, if_true, ite_true, ite_false, and_self, and_true, true_and, Nat.reduceAdd, Nat.reduceLeDiff, Nat.reduceEqDiff, Nat.zero_add, Nat.le_refl, Nat.zero_le, or_false, false_or, Int.reduceToNat, or_true, true_or, eq_self, and_false, false_and, inR_d, nc_4, nc_5, nc_6, nc_7, nc_8, nc_16, nc_18, nc_20, nc_24, nc_32, nc_40, nc_64, nc_104, nc_120, nc_160, nc_256, nc_300, nc_330, nc_390, nc_1200, nc_1260, nc_3012, nc_9834, okSt_1i, okSt_1r, okSt_1n, List.length_cons, List.length_nil, xpk_succ cd_22_0, xpk_succ cd_22_1, xpk_succ cd_22_2, xpk_succ cd_22_5, xpk_succ cd_22_6, xpk_succ cd_22_9, xpk_succ cd_22_10, xpk_succ cd_22_13, xpk_succ cd_22_16, c1, c2, hV_cpy, hK_cpy, K_2 hJ, K_12 hJ, F_2_0 hJ, F_12_0 hJ, K_3 hJ, K_13 hJ]
theorem X_cpw_12 {d : Nat} {h : AH} (hJ : k_H JB h) (Q : Option AV → AH → Prop) : XC (d + 2) 22 [vR 2, vR 12] h Q = Q none (hCpy (hCpy h 12 1 2 1 14) 14 0 4 0 1260) := by
  refine XC_eq (Nat.le_of_ble_eq_true rfl) ?_ Q
  show XP (d + 1) 22 0 [some (vR 2), some (vR 12)] [] h _
  have z13 := (I_13_1 hJ).2
  have f13 : hV h 13 1 = vI 1260 := by rw [(I_13_1 hJ).1, Int.le_antisymm z13.2 z13.1]
  have z3 := (I_3_1 hJ).2
  have f3 : hV h 3 1 = vI 1260 := by rw [(I_3_1 hJ).1, Int.le_antisymm z3.2 z3.1]
  have c1 : ∀ Q : Option AV → AH → Prop, XC (d + 1) 23 [vR 2, vR 12] h Q = Q none (hCpy h 12 1 2 1 14) := fun Q => X_cpp_12 hJ Q
  have c2 : ∀ Q : Option AV → AH → Prop, XC (d + 1) 31 [vR 3, vR 13] (hCpy h 12 1 2 1 14) Q = Q none (hCpy (hCpy h 12 1 2 1 14) 14 0 4 0 1260) := fun Q => X_call (h := (hCpy h 12 1 2 1 14)) (n := 1260) ((congrFun (hK_cpy ..) _).trans (K_13 hJ)) ((congrFun (hK_cpy ..) _).trans (K_3 hJ)) ((hV_cpy_ne (by decide)).trans (F_13_0 hJ)) ((hV_cpy_ne (by decide)).trans (F_3_0 hJ)) ((hV_cpy_ne (by decide)).trans f13) ((hV_cpy_ne (by decide)).trans f3) ((congrFun (hK_cpy ..) _).trans (K_14 hJ)) ((congrFun (hK_cpy ..) _).trans (K_4 hJ)) Q
  have y : (none : Option AV) = none ∧ hCpy (hCpy h 12 1 2 1 14) 14 0 4 0 1260 = hCpy (hCpy h 12 1 2 1 14) 14 0 4 0 1260 := ⟨rfl, rfl⟩
  refine xpk_sound (stops := []) (n := 20) ?_
  simp only [sk_0, sk_1, sk_2, sk_3, sk_4, sk_5, sk_6, sk_7, sk_8, sk_iadd, sk_isub, sk_imul, sk_iand, sk_ior, sk_ixor, sk_ishl, sk_ishr, sk_iushr, sk_idiv, sk_irem, sk_ineg, sk_ladd, sk_lsub, sk_lmul, sk_land, sk_lor, sk_ldiv, sk_lrem, sk_lneg, sk_lshl, sk_lshr, sk_i2l, sk_l2i, sk_lcmp, sk_dupI, sk_dupR, sk_dup2L, sk_dup2I, sk_popI, sk_ifeq, sk_ifne, sk_iflt, sk_ifge, sk_ifgt, sk_ifle, sk_iceq, sk_icne, sk_iclt, sk_icge, sk_icgt, sk_icle, sk_goto, sk_getf, sk_putf, sk_gets, sk_iald, sk_lald, sk_bald, sk_aald, sk_iast, sk_last, sk_bast, sk_aast, sk_alen, sk_newa, sk_newt, sk_new, sk_cs1, sk_cs2, sk_cs3, sk_cs4, sk_cs5, sk_cs6, sk_cv1, sk_cv2, sk_cv3, sk_cv4, sk_cv5, sk_cv6, sk_ci1, sk_ci2, sk_ci3, sk_ret0, sk_retI, sk_retL, sk_retR, sk_sw, sk_oin, sk_max, sk_min, sk_abs, lI_0, lI_s, lL_0, lL_s, lR_0, lR_s, vIo_e, vLo_e, vOo_e, stW_I, stW_L, stW_R, stW_0, stW_z, okSt_0, okSt_s, hV_eq, hK_eq, okF_0, okF_1, okF_3, is01_0, is01_1, is01_i, Int.toNat_natCast, Int.reduceEq, Int.reduceLE, Int.reduceLT, Int.reduceNeg, Nat.reduceLT, not_true_eq_false, not_false_eq_true, reduceIte, Option.toList, List.cons_append, List.nil_append, List.set_cons_zero, List.set_cons_succ, List.not_mem_nil, List.mem_cons, if_false, if_true, ite_true, ite_false, and_self, and_true, true_and, Nat.reduceAdd, Nat.reduceLeDiff, Nat.reduceEqDiff, Nat.zero_add, Nat.le_refl, Nat.zero_le, or_false, false_or, Int.reduceToNat, or_true, true_or, eq_self, and_false, false_and, inR_d, nc_4, nc_5, nc_6, nc_7, nc_8, nc_16, nc_18, nc_20, nc_24, nc_32, nc_40, nc_64, nc_104, nc_120, nc_160, nc_256, nc_300, nc_330, nc_390, nc_1200, nc_1260, nc_3012, nc_9834, okSt_1i, okSt_1r, okSt_1n, List.length_cons, List.length_nil, xpk_succ cd_22_0, xpk_succ cd_22_1, xpk_succ cd_22_2, xpk_succ cd_22_5, xpk_succ cd_22_6, xpk_succ cd_22_9, xpk_succ cd_22_10, xpk_succ cd_22_13, xpk_succ cd_22_16, c1, c2, hV_cpy, hK_cpy, K_12 hJ, K_2 hJ, F_12_0 hJ, F_2_0 hJ, K_13 hJ, K_3 hJ]
def imCw (h : AH) : AH := hSet (hSet (hSet (hSet (hSet (hSet (hSet (hSet (hCpy (hCpy h 2 1 12 1 14) 4 0 14 0 1260) 11 1 (vI (fI h 1 1))) 11 2 (vI (fI h 1 2))) 11 3 (vI (fI h 1 3))) 11 5 (vI (fI h 1 5))) 11 7 (vI (fI h 1 7))) 11 8 (vI (fI h 1 8))) 11 10 (vI (fI h 1 10))) 11 12 (vI (fI h 1 12))
def imC (h : AH) : AH := hCpy (hCpy (hCpy (hCpy (hCpy (hCpy (imCw h) 5 0 15 0 40) 6 0 16 0 390) 7 0 17 0 8) 8 0 18 0 16) 9 0 19 0 20) 10 0 20 0 20
set_option maxHeartbeats 4000000 in
theorem X_wc_im {d : Nat} {h : AH} (hJ : k_H JB h) (Q : Option AV → AH → Prop) : XC (d + 3) 115 [vR 11, vR 1] h Q = Q none (imC h) := by
  refine XC_eq (Nat.le_of_ble_eq_true rfl) ?_ Q
  show XP (d + 2) 115 0 [some (vR 11), some (vR 1)] [] h _
  have c1 : ∀ Q : Option AV → AH → Prop, XC (d + 2) 22 [vR 12, vR 2] h Q = Q none (hCpy (hCpy h 2 1 12 1 14) 4 0 14 0 1260) := fun Q => X_cpw_2 hJ Q
  have w : hSet (hSet (hSet (hSet (hSet (hSet (hSet (hSet (hCpy (hCpy h 2 1 12 1 14) 4 0 14 0 1260) 11 1 (vI (fI h 1 1))) 11 2 (vI (fI h 1 2))) 11 3 (vI (fI h 1 3))) 11 5 (vI (fI h 1 5))) 11 7 (vI (fI h 1 7))) 11 8 (vI (fI h 1 8))) 11 10 (vI (fI h 1 10))) 11 12 (vI (fI h 1 12)) = imCw h := rfl
  have kw : hK (imCw h) = hK h := by unfold imCw; simp only [hK_cpy, hK_eq]
  have e1 := (I_1_1 hJ).1
  have e2 := (I_1_2 hJ).1
  have e3 := (I_1_3 hJ).1
  have e5 := (I_1_5 hJ).1
  have e7 := (I_1_7 hJ).1
  have e8 := (I_1_8 hJ).1
  have e10 := (I_1_10 hJ).1
  have e12 := (I_1_12 hJ).1
  have r0 : ∀ Q : Option AV → AH → Prop, XC (d + 2) 116 [vR 5, vR 15] (imCw h) Q = Q none (hCpy (imCw h) 5 0 15 0 40) := fun Q => X_crow (h := imCw h) (p := 5) (q := 15) (n := 40) (by simp only [hK_cpy, kw]; exact K_5 hJ) (by simp only [hK_cpy, kw]; exact K_15 hJ) Q
  have r1 : ∀ Q : Option AV → AH → Prop, XC (d + 2) 116 [vR 6, vR 16] (hCpy (imCw h) 5 0 15 0 40) Q = Q none (hCpy (hCpy (imCw h) 5 0 15 0 40) 6 0 16 0 390) := fun Q => X_crow (h := hCpy (imCw h) 5 0 15 0 40) (p := 6) (q := 16) (n := 390) (by simp only [hK_cpy, kw]; exact K_6 hJ) (by simp only [hK_cpy, kw]; exact K_16 hJ) Q
  have r2 : ∀ Q : Option AV → AH → Prop, XC (d + 2) 116 [vR 7, vR 17] (hCpy (hCpy (imCw h) 5 0 15 0 40) 6 0 16 0 390) Q = Q none (hCpy (hCpy (hCpy (imCw h) 5 0 15 0 40) 6 0 16 0 390) 7 0 17 0 8) := fun Q => X_crow (h := hCpy (hCpy (imCw h) 5 0 15 0 40) 6 0 16 0 390) (p := 7) (q := 17) (n := 8) (by simp only [hK_cpy, kw]; exact K_7 hJ) (by simp only [hK_cpy, kw]; exact K_17 hJ) Q
  have r3 : ∀ Q : Option AV → AH → Prop, XC (d + 2) 116 [vR 8, vR 18] (hCpy (hCpy (hCpy (imCw h) 5 0 15 0 40) 6 0 16 0 390) 7 0 17 0 8) Q = Q none (hCpy (hCpy (hCpy (hCpy (imCw h) 5 0 15 0 40) 6 0 16 0 390) 7 0 17 0 8) 8 0 18 0 16) := fun Q => X_crow (h := hCpy (hCpy (hCpy (imCw h) 5 0 15 0 40) 6 0 16 0 390) 7 0 17 0 8) (p := 8) (q := 18) (n := 16) (by simp only [hK_cpy, kw]; exact K_8 hJ) (by simp only [hK_cpy, kw]; exact K_18 hJ) Q
  have r4 : ∀ Q : Option AV → AH → Prop, XC (d + 2) 116 [vR 9, vR 19] (hCpy (hCpy (hCpy (hCpy (imCw h) 5 0 15 0 40) 6 0 16 0 390) 7 0 17 0 8) 8 0 18 0 16) Q = Q none (hCpy (hCpy (hCpy (hCpy (hCpy (imCw h) 5 0 15 0 40) 6 0 16 0 390) 7 0 17 0 8) 8 0 18 0 16) 9 0 19 0 20) := fun Q => X_crow (h := hCpy (hCpy (hCpy (hCpy (imCw h) 5 0 15 0 40) 6 0 16 0 390) 7 0 17 0 8) 8 0 18 0 16) (p := 9) (q := 19) (n := 20) (by simp only [hK_cpy, kw]; exact K_9 hJ) (by simp only [hK_cpy, kw]; exact K_19 hJ) Q
  have r5 : ∀ Q : Option AV → AH → Prop, XC (d + 2) 116 [vR 10, vR 20] (hCpy (hCpy (hCpy (hCpy (hCpy (imCw h) 5 0 15 0 40) 6 0 16 0 390) 7 0 17 0 8) 8 0 18 0 16) 9 0 19 0 20) Q = Q none (hCpy (hCpy (hCpy (hCpy (hCpy (hCpy (imCw h) 5 0 15 0 40) 6 0 16 0 390) 7 0 17 0 8) 8 0 18 0 16) 9 0 19 0 20) 10 0 20 0 20) := fun Q => X_crow (h := hCpy (hCpy (hCpy (hCpy (hCpy (imCw h) 5 0 15 0 40) 6 0 16 0 390) 7 0 17 0 8) 8 0 18 0 16) 9 0 19 0 20) (p := 10) (q := 20) (n := 20) (by simp only [hK_cpy, kw]; exact K_10 hJ) (by simp only [hK_cpy, kw]; exact K_20 hJ) Q
  have v1_0 : hV (imCw h) 1 0 = vR 2 := by unfold imCw; simp only [hV_eq, hV_cpy, Nat.reduceEqDiff, Nat.reduceLeDiff, Nat.reduceLT, Nat.reduceAdd, false_and, and_false, and_self, if_false, if_true, reduceIte]; exact F_1_0 hJ
  have v1_4 : hV (imCw h) 1 4 = vR 5 := by unfold imCw; simp only [hV_eq, hV_cpy, Nat.reduceEqDiff, Nat.reduceLeDiff, Nat.reduceLT, Nat.reduceAdd, false_and, and_false, and_self, if_false, if_true, reduceIte]; exact F_1_4 hJ
  have v1_6 : hV (imCw h) 1 6 = vR 6 := by unfold imCw; simp only [hV_eq, hV_cpy, Nat.reduceEqDiff, Nat.reduceLeDiff, Nat.reduceLT, Nat.reduceAdd, false_and, and_false, and_self, if_false, if_true, reduceIte]; exact F_1_6 hJ
  have v1_9 : hV (imCw h) 1 9 = vR 7 := by unfold imCw; simp only [hV_eq, hV_cpy, Nat.reduceEqDiff, Nat.reduceLeDiff, Nat.reduceLT, Nat.reduceAdd, false_and, and_false, and_self, if_false, if_true, reduceIte]; exact F_1_9 hJ
  have v1_11 : hV (imCw h) 1 11 = vR 8 := by unfold imCw; simp only [hV_eq, hV_cpy, Nat.reduceEqDiff, Nat.reduceLeDiff, Nat.reduceLT, Nat.reduceAdd, false_and, and_false, and_self, if_false, if_true, reduceIte]; exact F_1_11 hJ
  have v1_13 : hV (imCw h) 1 13 = vR 9 := by unfold imCw; simp only [hV_eq, hV_cpy, Nat.reduceEqDiff, Nat.reduceLeDiff, Nat.reduceLT, Nat.reduceAdd, false_and, and_false, and_self, if_false, if_true, reduceIte]; exact F_1_13 hJ
  have v1_14 : hV (imCw h) 1 14 = vR 10 := by unfold imCw; simp only [hV_eq, hV_cpy, Nat.reduceEqDiff, Nat.reduceLeDiff, Nat.reduceLT, Nat.reduceAdd, false_and, and_false, and_self, if_false, if_true, reduceIte]; exact F_1_14 hJ
  have v11_0 : hV (imCw h) 11 0 = vR 12 := by unfold imCw; simp only [hV_eq, hV_cpy, Nat.reduceEqDiff, Nat.reduceLeDiff, Nat.reduceLT, Nat.reduceAdd, false_and, and_false, and_self, if_false, if_true, reduceIte]; exact F_11_0 hJ
  have v11_4 : hV (imCw h) 11 4 = vR 15 := by unfold imCw; simp only [hV_eq, hV_cpy, Nat.reduceEqDiff, Nat.reduceLeDiff, Nat.reduceLT, Nat.reduceAdd, false_and, and_false, and_self, if_false, if_true, reduceIte]; exact F_11_4 hJ
  have v11_6 : hV (imCw h) 11 6 = vR 16 := by unfold imCw; simp only [hV_eq, hV_cpy, Nat.reduceEqDiff, Nat.reduceLeDiff, Nat.reduceLT, Nat.reduceAdd, false_and, and_false, and_self, if_false, if_true, reduceIte]; exact F_11_6 hJ
  have v11_9 : hV (imCw h) 11 9 = vR 17 := by unfold imCw; simp only [hV_eq, hV_cpy, Nat.reduceEqDiff, Nat.reduceLeDiff, Nat.reduceLT, Nat.reduceAdd, false_and, and_false, and_self, if_false, if_true, reduceIte]; exact F_11_9 hJ
  have v11_11 : hV (imCw h) 11 11 = vR 18 := by unfold imCw; simp only [hV_eq, hV_cpy, Nat.reduceEqDiff, Nat.reduceLeDiff, Nat.reduceLT, Nat.reduceAdd, false_and, and_false, and_self, if_false, if_true, reduceIte]; exact F_11_11 hJ
  have v11_13 : hV (imCw h) 11 13 = vR 19 := by unfold imCw; simp only [hV_eq, hV_cpy, Nat.reduceEqDiff, Nat.reduceLeDiff, Nat.reduceLT, Nat.reduceAdd, false_and, and_false, and_self, if_false, if_true, reduceIte]; exact F_11_13 hJ
  have v11_14 : hV (imCw h) 11 14 = vR 20 := by unfold imCw; simp only [hV_eq, hV_cpy, Nat.reduceEqDiff, Nat.reduceLeDiff, Nat.reduceLT, Nat.reduceAdd, false_and, and_false, and_self, if_false, if_true, reduceIte]; exact F_11_14 hJ
  have y : (none : Option AV) = none ∧ imC h = imC h := ⟨rfl, rfl⟩
  unfold imC at y ⊢
  refine xpk_sound (stops := []) (n := 100) ?_
  simp only [sk_0, sk_1, sk_2, sk_3, sk_4, sk_5, sk_6, sk_7, sk_8, sk_iadd, sk_isub, sk_imul, sk_iand, sk_ior, sk_ixor, sk_ishl, sk_ishr, sk_iushr, sk_idiv, sk_irem, sk_ineg, sk_ladd, sk_lsub, sk_lmul, sk_land, sk_lor, sk_ldiv, sk_lrem, sk_lneg, sk_lshl, sk_lshr, sk_i2l, sk_l2i, sk_lcmp, sk_dupI, sk_dupR, sk_dup2L, sk_dup2I, sk_popI, sk_ifeq, sk_ifne, sk_iflt, sk_ifge, sk_ifgt, sk_ifle, sk_iceq, sk_icne, sk_iclt, sk_icge, sk_icgt, sk_icle, sk_goto, sk_getf, sk_putf, sk_gets, sk_iald, sk_lald, sk_bald, sk_aald, sk_iast, sk_last, sk_bast, sk_aast, sk_alen, sk_newa, sk_newt, sk_new, sk_cs1, sk_cs2, sk_cs3, sk_cs4, sk_cs5, sk_cs6, sk_cv1, sk_cv2, sk_cv3, sk_cv4, sk_cv5, sk_cv6, sk_ci1, sk_ci2, sk_ci3, sk_ret0, sk_retI, sk_retL, sk_retR, sk_sw, sk_oin, sk_max, sk_min, sk_abs, lI_0, lI_s, lL_0, lL_s, lR_0, lR_s, vIo_e, vLo_e, vOo_e, stW_I, stW_L, stW_R, stW_0, stW_z, okSt_0, okSt_s, hV_eq, hK_eq, okF_0, okF_1, okF_3, is01_0, is01_1, is01_i, Int.toNat_natCast, Int.reduceEq, Int.reduceLE, Int.reduceLT, Int.reduceNeg, Nat.reduceLT, not_true_eq_false, not_false_eq_true, reduceIte, Option.toList, List.cons_append, List.nil_append, List.set_cons_zero, List.set_cons_succ, List.not_mem_nil, List.mem_cons, if_false, if_true, ite_true, ite_false, and_self, and_true, true_and, Nat.reduceAdd, Nat.reduceLeDiff, Nat.reduceEqDiff, Nat.zero_add, Nat.le_refl, Nat.zero_le, or_false, false_or, Int.reduceToNat, or_true, true_or, eq_self, and_false, false_and, inR_d, nc_4, nc_5, nc_6, nc_7, nc_8, nc_16, nc_18, nc_20, nc_24, nc_32, nc_40, nc_64, nc_104, nc_120, nc_160, nc_256, nc_300, nc_330, nc_390, nc_1200, nc_1260, nc_3012, nc_9834, okSt_1i, okSt_1r, okSt_1n, List.length_cons, List.length_nil, xpk_succ cd_115_0, xpk_succ cd_115_1, xpk_succ cd_115_4, xpk_succ cd_115_5, xpk_succ cd_115_8, xpk_succ cd_115_11, xpk_succ cd_115_12, xpk_succ cd_115_13, xpk_succ cd_115_16, xpk_succ cd_115_19, xpk_succ cd_115_20, xpk_succ cd_115_21, xpk_succ cd_115_24, xpk_succ cd_115_27, xpk_succ cd_115_28, xpk_succ cd_115_29, xpk_succ cd_115_32, xpk_succ cd_115_35, xpk_succ cd_115_36, xpk_succ cd_115_37, xpk_succ cd_115_40, xpk_succ cd_115_43, xpk_succ cd_115_44, xpk_succ cd_115_45, xpk_succ cd_115_48, xpk_succ cd_115_51, xpk_succ cd_115_52, xpk_succ cd_115_53, xpk_succ cd_115_56, xpk_succ cd_115_59, xpk_succ cd_115_60, xpk_succ cd_115_61, xpk_succ cd_115_64, xpk_succ cd_115_67, xpk_succ cd_115_68, xpk_succ cd_115_69, xpk_succ cd_115_72, xpk_succ cd_115_75, xpk_succ cd_115_76, xpk_succ cd_115_79, xpk_succ cd_115_80, xpk_succ cd_115_83, xpk_succ cd_115_86, xpk_succ cd_115_87, xpk_succ cd_115_90, xpk_succ cd_115_91, xpk_succ cd_115_94, xpk_succ cd_115_97, xpk_succ cd_115_98, xpk_succ cd_115_101, xpk_succ cd_115_102, xpk_succ cd_115_105, xpk_succ cd_115_108, xpk_succ cd_115_109, xpk_succ cd_115_112, xpk_succ cd_115_113, xpk_succ cd_115_116, xpk_succ cd_115_119, xpk_succ cd_115_120, xpk_succ cd_115_123, xpk_succ cd_115_124, xpk_succ cd_115_127, xpk_succ cd_115_130, xpk_succ cd_115_131, xpk_succ cd_115_134, xpk_succ cd_115_135, xpk_succ cd_115_138, xpk_succ cd_115_141, c1, w, e1, e2, e3, e5, e7, e8, e10, e12, r0, r1, r2, r3, r4, r5, v1_0, v1_4, v1_6, v1_9, v1_11, v1_13, v1_14, v11_0, v11_4, v11_6, v11_9, v11_11, v11_13, v11_14, kw, hV_cpy, hK_cpy, K_1 hJ, K_11 hJ, K_2 hJ, K_12 hJ, F_1_0 hJ, F_11_0 hJ, F_1_4 hJ, F_1_6 hJ, F_1_9 hJ, F_1_11 hJ, F_1_13 hJ, F_1_14 hJ, F_11_4 hJ, F_11_6 hJ, F_11_9 hJ, F_11_11 hJ, F_11_13 hJ, F_11_14 hJ]
theorem imC_v {h : AH} (hJ : k_H JB h) : hK (imC h) = hK h ∧ (∀ i, hV (imC h) 0 i = hV h 0 i) ∧ hV (imC h) 1 0 = vR 2 ∧ hV (imC h) 2 9 = hV h 2 9 ∧ (∀ k i, k ≠ 11 → k ≠ 12 → k ≠ 14 → k ≠ 15 → k ≠ 16 → k ≠ 17 → k ≠ 18 → k ≠ 19 → k ≠ 20 → hV (imC h) k i = hV h k i) := by
  refine ⟨by unfold imC imCw; simp only [hK_cpy, hK_eq], fun i => ?_, ?_, ?_, fun k i h1 h2 h3 h4 h5 h6 h7 h8 h9 => ?_⟩
  · unfold imC imCw; simp only [hV_eq, hV_cpy, Nat.reduceEqDiff, Nat.reduceLeDiff, Nat.reduceLT, Nat.reduceAdd, Nat.reduceSub, false_and, and_false, and_self, true_and, and_true, if_false, if_true, reduceIte]
  · unfold imC imCw; simp only [hV_eq, hV_cpy, Nat.reduceEqDiff, Nat.reduceLeDiff, Nat.reduceLT, Nat.reduceAdd, Nat.reduceSub, false_and, and_false, and_self, true_and, and_true, if_false, if_true, reduceIte]; exact F_1_0 hJ
  · unfold imC imCw; simp only [hV_eq, hV_cpy, Nat.reduceEqDiff, Nat.reduceLeDiff, Nat.reduceLT, Nat.reduceAdd, Nat.reduceSub, false_and, and_false, and_self, true_and, and_true, if_false, if_true, reduceIte]
  · unfold imC imCw; simp only [hV_eq, hV_cpy, h1, h2, h3, h4, h5, h6, h7, h8, h9, false_and, if_false]
theorem X_imC {d : Nat} {h : AH} (hJ : k_H JB h) (Q : Option AV → AH → Prop) : XC (d + 4) 169 [vR 0] h Q = Q (some (vI (fI (imC h) 2 9))) (imC h) := by
  refine XC_eq (Nat.le_of_ble_eq_true rfl) ?_ Q
  show XP (d + 3) 169 0 [some (vR 0)] [] h _
  obtain ⟨k0, v0, v1, v2, -⟩ := imC_v hJ
  have c1 : ∀ Q : Option AV → AH → Prop, XC (d + 3) 115 [vR 11, vR 1] h Q = Q none (imC h) := fun Q => X_wc_im hJ Q
  have e9 : hV (imC h) 2 9 = vI (fI (imC h) 2 9) := by unfold fI; rw [v2, (I_2_9 hJ).1]; rfl
  refine xpk_sound (stops := []) (n := 20) ?_
  simp only [sk_0, sk_1, sk_2, sk_3, sk_4, sk_5, sk_6, sk_7, sk_8, sk_iadd, sk_isub, sk_imul, sk_iand, sk_ior, sk_ixor, sk_ishl, sk_ishr, sk_iushr, sk_idiv, sk_irem, sk_ineg, sk_ladd, sk_lsub, sk_lmul, sk_land, sk_lor, sk_ldiv, sk_lrem, sk_lneg, sk_lshl, sk_lshr, sk_i2l, sk_l2i, sk_lcmp, sk_dupI, sk_dupR, sk_dup2L, sk_dup2I, sk_popI, sk_ifeq, sk_ifne, sk_iflt, sk_ifge, sk_ifgt, sk_ifle, sk_iceq, sk_icne, sk_iclt, sk_icge, sk_icgt, sk_icle, sk_goto, sk_getf, sk_putf, sk_gets, sk_iald, sk_lald, sk_bald, sk_aald, sk_iast, sk_last, sk_bast, sk_aast, sk_alen, sk_newa, sk_newt, sk_new, sk_cs1, sk_cs2, sk_cs3, sk_cs4, sk_cs5, sk_cs6, sk_cv1, sk_cv2, sk_cv3, sk_cv4, sk_cv5, sk_cv6, sk_ci1, sk_ci2, sk_ci3, sk_ret0, sk_retI, sk_retL, sk_retR, sk_sw, sk_oin, sk_max, sk_min, sk_abs, lI_0, lI_s, lL_0, lL_s, lR_0, lR_s, vIo_e, vLo_e, vOo_e, stW_I, stW_L, stW_R, stW_0, stW_z, okSt_0, okSt_s, hV_eq, hK_eq, okF_0, okF_1, okF_3, is01_0, is01_1, is01_i, Int.toNat_natCast, Int.reduceEq, Int.reduceLE, Int.reduceLT, Int.reduceNeg, Nat.reduceLT, not_true_eq_false, not_false_eq_true, reduceIte, Option.toList, List.cons_append, List.nil_append, List.set_cons_zero, List.set_cons_succ, List.not_mem_nil, List.mem_cons, if_false, if_true, ite_true, ite_false, and_self, and_true, true_and, Nat.reduceAdd, Nat.reduceLeDiff, Nat.reduceEqDiff, Nat.zero_add, Nat.le_refl, Nat.zero_le, or_false, false_or, Int.reduceToNat, or_true, true_or, eq_self, and_false, false_and, inR_d, nc_4, nc_5, nc_6, nc_7, nc_8, nc_16, nc_18, nc_20, nc_24, nc_32, nc_40, nc_64, nc_104, nc_120, nc_160, nc_256, nc_300, nc_330, nc_390, nc_1200, nc_1260, nc_3012, nc_9834, okSt_1i, okSt_1r, okSt_1n, List.length_cons, List.length_nil, xpk_succ cd_169_0, xpk_succ cd_169_1, xpk_succ cd_169_4, xpk_succ cd_169_5, xpk_succ cd_169_8, xpk_succ cd_169_11, xpk_succ cd_169_12, xpk_succ cd_169_15, xpk_succ cd_169_18, xpk_succ cd_169_21, c1, k0, v0, v1, e9, K_0 hJ, K_1 hJ, K_2 hJ, K_11 hJ, F_0_0 hJ, F_0_1 hJ]
def baCw (h : AH) : AH := hSet (hSet (hSet (hSet (hSet (hSet (hSet (hSet (hCpy (hCpy h 12 1 2 1 14) 14 0 4 0 1260) 1 1 (vI (fI h 11 1))) 1 2 (vI (fI h 11 2))) 1 3 (vI (fI h 11 3))) 1 5 (vI (fI h 11 5))) 1 7 (vI (fI h 11 7))) 1 8 (vI (fI h 11 8))) 1 10 (vI (fI h 11 10))) 1 12 (vI (fI h 11 12))
def baC (h : AH) : AH := hCpy (hCpy (hCpy (hCpy (hCpy (hCpy (baCw h) 15 0 5 0 40) 16 0 6 0 390) 17 0 7 0 8) 18 0 8 0 16) 19 0 9 0 20) 20 0 10 0 20
set_option maxHeartbeats 4000000 in
theorem X_wc_ba {d : Nat} {h : AH} (hJ : k_H JB h) (Q : Option AV → AH → Prop) : XC (d + 3) 115 [vR 1, vR 11] h Q = Q none (baC h) := by
  refine XC_eq (Nat.le_of_ble_eq_true rfl) ?_ Q
  show XP (d + 2) 115 0 [some (vR 1), some (vR 11)] [] h _
  have c1 : ∀ Q : Option AV → AH → Prop, XC (d + 2) 22 [vR 2, vR 12] h Q = Q none (hCpy (hCpy h 12 1 2 1 14) 14 0 4 0 1260) := fun Q => X_cpw_12 hJ Q
  have w : hSet (hSet (hSet (hSet (hSet (hSet (hSet (hSet (hCpy (hCpy h 12 1 2 1 14) 14 0 4 0 1260) 1 1 (vI (fI h 11 1))) 1 2 (vI (fI h 11 2))) 1 3 (vI (fI h 11 3))) 1 5 (vI (fI h 11 5))) 1 7 (vI (fI h 11 7))) 1 8 (vI (fI h 11 8))) 1 10 (vI (fI h 11 10))) 1 12 (vI (fI h 11 12)) = baCw h := rfl
  have kw : hK (baCw h) = hK h := by unfold baCw; simp only [hK_cpy, hK_eq]
  have e1 := (I_11_1 hJ).1
  have e2 := (I_11_2 hJ).1
  have e3 := (I_11_3 hJ).1
  have e5 := (I_11_5 hJ).1
  have e7 := (I_11_7 hJ).1
  have e8 := (I_11_8 hJ).1
  have e10 := (I_11_10 hJ).1
  have e12 := (I_11_12 hJ).1
  have r0 : ∀ Q : Option AV → AH → Prop, XC (d + 2) 116 [vR 15, vR 5] (baCw h) Q = Q none (hCpy (baCw h) 15 0 5 0 40) := fun Q => X_crow (h := baCw h) (p := 15) (q := 5) (n := 40) (by simp only [hK_cpy, kw]; exact K_15 hJ) (by simp only [hK_cpy, kw]; exact K_5 hJ) Q
  have r1 : ∀ Q : Option AV → AH → Prop, XC (d + 2) 116 [vR 16, vR 6] (hCpy (baCw h) 15 0 5 0 40) Q = Q none (hCpy (hCpy (baCw h) 15 0 5 0 40) 16 0 6 0 390) := fun Q => X_crow (h := hCpy (baCw h) 15 0 5 0 40) (p := 16) (q := 6) (n := 390) (by simp only [hK_cpy, kw]; exact K_16 hJ) (by simp only [hK_cpy, kw]; exact K_6 hJ) Q
  have r2 : ∀ Q : Option AV → AH → Prop, XC (d + 2) 116 [vR 17, vR 7] (hCpy (hCpy (baCw h) 15 0 5 0 40) 16 0 6 0 390) Q = Q none (hCpy (hCpy (hCpy (baCw h) 15 0 5 0 40) 16 0 6 0 390) 17 0 7 0 8) := fun Q => X_crow (h := hCpy (hCpy (baCw h) 15 0 5 0 40) 16 0 6 0 390) (p := 17) (q := 7) (n := 8) (by simp only [hK_cpy, kw]; exact K_17 hJ) (by simp only [hK_cpy, kw]; exact K_7 hJ) Q
  have r3 : ∀ Q : Option AV → AH → Prop, XC (d + 2) 116 [vR 18, vR 8] (hCpy (hCpy (hCpy (baCw h) 15 0 5 0 40) 16 0 6 0 390) 17 0 7 0 8) Q = Q none (hCpy (hCpy (hCpy (hCpy (baCw h) 15 0 5 0 40) 16 0 6 0 390) 17 0 7 0 8) 18 0 8 0 16) := fun Q => X_crow (h := hCpy (hCpy (hCpy (baCw h) 15 0 5 0 40) 16 0 6 0 390) 17 0 7 0 8) (p := 18) (q := 8) (n := 16) (by simp only [hK_cpy, kw]; exact K_18 hJ) (by simp only [hK_cpy, kw]; exact K_8 hJ) Q
  have r4 : ∀ Q : Option AV → AH → Prop, XC (d + 2) 116 [vR 19, vR 9] (hCpy (hCpy (hCpy (hCpy (baCw h) 15 0 5 0 40) 16 0 6 0 390) 17 0 7 0 8) 18 0 8 0 16) Q = Q none (hCpy (hCpy (hCpy (hCpy (hCpy (baCw h) 15 0 5 0 40) 16 0 6 0 390) 17 0 7 0 8) 18 0 8 0 16) 19 0 9 0 20) := fun Q => X_crow (h := hCpy (hCpy (hCpy (hCpy (baCw h) 15 0 5 0 40) 16 0 6 0 390) 17 0 7 0 8) 18 0 8 0 16) (p := 19) (q := 9) (n := 20) (by simp only [hK_cpy, kw]; exact K_19 hJ) (by simp only [hK_cpy, kw]; exact K_9 hJ) Q
  have r5 : ∀ Q : Option AV → AH → Prop, XC (d + 2) 116 [vR 20, vR 10] (hCpy (hCpy (hCpy (hCpy (hCpy (baCw h) 15 0 5 0 40) 16 0 6 0 390) 17 0 7 0 8) 18 0 8 0 16) 19 0 9 0 20) Q = Q none (hCpy (hCpy (hCpy (hCpy (hCpy (hCpy (baCw h) 15 0 5 0 40) 16 0 6 0 390) 17 0 7 0 8) 18 0 8 0 16) 19 0 9 0 20) 20 0 10 0 20) := fun Q => X_crow (h := hCpy (hCpy (hCpy (hCpy (hCpy (baCw h) 15 0 5 0 40) 16 0 6 0 390) 17 0 7 0 8) 18 0 8 0 16) 19 0 9 0 20) (p := 20) (q := 10) (n := 20) (by simp only [hK_cpy, kw]; exact K_20 hJ) (by simp only [hK_cpy, kw]; exact K_10 hJ) Q
  have v11_0 : hV (baCw h) 11 0 = vR 12 := by unfold baCw; simp only [hV_eq, hV_cpy, Nat.reduceEqDiff, Nat.reduceLeDiff, Nat.reduceLT, Nat.reduceAdd, false_and, and_false, and_self, if_false, if_true, reduceIte]; exact F_11_0 hJ
  have v11_4 : hV (baCw h) 11 4 = vR 15 := by unfold baCw; simp only [hV_eq, hV_cpy, Nat.reduceEqDiff, Nat.reduceLeDiff, Nat.reduceLT, Nat.reduceAdd, false_and, and_false, and_self, if_false, if_true, reduceIte]; exact F_11_4 hJ
  have v11_6 : hV (baCw h) 11 6 = vR 16 := by unfold baCw; simp only [hV_eq, hV_cpy, Nat.reduceEqDiff, Nat.reduceLeDiff, Nat.reduceLT, Nat.reduceAdd, false_and, and_false, and_self, if_false, if_true, reduceIte]; exact F_11_6 hJ
  have v11_9 : hV (baCw h) 11 9 = vR 17 := by unfold baCw; simp only [hV_eq, hV_cpy, Nat.reduceEqDiff, Nat.reduceLeDiff, Nat.reduceLT, Nat.reduceAdd, false_and, and_false, and_self, if_false, if_true, reduceIte]; exact F_11_9 hJ
  have v11_11 : hV (baCw h) 11 11 = vR 18 := by unfold baCw; simp only [hV_eq, hV_cpy, Nat.reduceEqDiff, Nat.reduceLeDiff, Nat.reduceLT, Nat.reduceAdd, false_and, and_false, and_self, if_false, if_true, reduceIte]; exact F_11_11 hJ
  have v11_13 : hV (baCw h) 11 13 = vR 19 := by unfold baCw; simp only [hV_eq, hV_cpy, Nat.reduceEqDiff, Nat.reduceLeDiff, Nat.reduceLT, Nat.reduceAdd, false_and, and_false, and_self, if_false, if_true, reduceIte]; exact F_11_13 hJ
  have v11_14 : hV (baCw h) 11 14 = vR 20 := by unfold baCw; simp only [hV_eq, hV_cpy, Nat.reduceEqDiff, Nat.reduceLeDiff, Nat.reduceLT, Nat.reduceAdd, false_and, and_false, and_self, if_false, if_true, reduceIte]; exact F_11_14 hJ
  have v1_0 : hV (baCw h) 1 0 = vR 2 := by unfold baCw; simp only [hV_eq, hV_cpy, Nat.reduceEqDiff, Nat.reduceLeDiff, Nat.reduceLT, Nat.reduceAdd, false_and, and_false, and_self, if_false, if_true, reduceIte]; exact F_1_0 hJ
  have v1_4 : hV (baCw h) 1 4 = vR 5 := by unfold baCw; simp only [hV_eq, hV_cpy, Nat.reduceEqDiff, Nat.reduceLeDiff, Nat.reduceLT, Nat.reduceAdd, false_and, and_false, and_self, if_false, if_true, reduceIte]; exact F_1_4 hJ
  have v1_6 : hV (baCw h) 1 6 = vR 6 := by unfold baCw; simp only [hV_eq, hV_cpy, Nat.reduceEqDiff, Nat.reduceLeDiff, Nat.reduceLT, Nat.reduceAdd, false_and, and_false, and_self, if_false, if_true, reduceIte]; exact F_1_6 hJ
  have v1_9 : hV (baCw h) 1 9 = vR 7 := by unfold baCw; simp only [hV_eq, hV_cpy, Nat.reduceEqDiff, Nat.reduceLeDiff, Nat.reduceLT, Nat.reduceAdd, false_and, and_false, and_self, if_false, if_true, reduceIte]; exact F_1_9 hJ
  have v1_11 : hV (baCw h) 1 11 = vR 8 := by unfold baCw; simp only [hV_eq, hV_cpy, Nat.reduceEqDiff, Nat.reduceLeDiff, Nat.reduceLT, Nat.reduceAdd, false_and, and_false, and_self, if_false, if_true, reduceIte]; exact F_1_11 hJ
  have v1_13 : hV (baCw h) 1 13 = vR 9 := by unfold baCw; simp only [hV_eq, hV_cpy, Nat.reduceEqDiff, Nat.reduceLeDiff, Nat.reduceLT, Nat.reduceAdd, false_and, and_false, and_self, if_false, if_true, reduceIte]; exact F_1_13 hJ
  have v1_14 : hV (baCw h) 1 14 = vR 10 := by unfold baCw; simp only [hV_eq, hV_cpy, Nat.reduceEqDiff, Nat.reduceLeDiff, Nat.reduceLT, Nat.reduceAdd, false_and, and_false, and_self, if_false, if_true, reduceIte]; exact F_1_14 hJ
  have y : (none : Option AV) = none ∧ baC h = baC h := ⟨rfl, rfl⟩
  unfold baC at y ⊢
  refine xpk_sound (stops := []) (n := 100) ?_
  simp only [sk_0, sk_1, sk_2, sk_3, sk_4, sk_5, sk_6, sk_7, sk_8, sk_iadd, sk_isub, sk_imul, sk_iand, sk_ior, sk_ixor, sk_ishl, sk_ishr, sk_iushr, sk_idiv, sk_irem, sk_ineg, sk_ladd, sk_lsub, sk_lmul, sk_land, sk_lor, sk_ldiv, sk_lrem, sk_lneg, sk_lshl, sk_lshr, sk_i2l, sk_l2i, sk_lcmp, sk_dupI, sk_dupR, sk_dup2L, sk_dup2I, sk_popI, sk_ifeq, sk_ifne, sk_iflt, sk_ifge, sk_ifgt, sk_ifle, sk_iceq, sk_icne, sk_iclt, sk_icge, sk_icgt, sk_icle, sk_goto, sk_getf, sk_putf, sk_gets, sk_iald, sk_lald, sk_bald, sk_aald, sk_iast, sk_last, sk_bast, sk_aast, sk_alen, sk_newa, sk_newt, sk_new, sk_cs1, sk_cs2, sk_cs3, sk_cs4, sk_cs5, sk_cs6, sk_cv1, sk_cv2, sk_cv3, sk_cv4, sk_cv5, sk_cv6, sk_ci1, sk_ci2, sk_ci3, sk_ret0, sk_retI, sk_retL, sk_retR, sk_sw, sk_oin, sk_max, sk_min, sk_abs, lI_0, lI_s, lL_0, lL_s, lR_0, lR_s, vIo_e, vLo_e, vOo_e, stW_I, stW_L, stW_R, stW_0, stW_z, okSt_0, okSt_s, hV_eq, hK_eq, okF_0, okF_1, okF_3, is01_0, is01_1, is01_i, Int.toNat_natCast, Int.reduceEq, Int.reduceLE, Int.reduceLT, Int.reduceNeg, Nat.reduceLT, not_true_eq_false, not_false_eq_true, reduceIte, Option.toList, List.cons_append, List.nil_append, List.set_cons_zero, List.set_cons_succ, List.not_mem_nil, List.mem_cons, if_false, if_true, ite_true, ite_false, and_self, and_true, true_and, Nat.reduceAdd, Nat.reduceLeDiff, Nat.reduceEqDiff, Nat.zero_add, Nat.le_refl, Nat.zero_le, or_false, false_or, Int.reduceToNat, or_true, true_or, eq_self, and_false, false_and, inR_d, nc_4, nc_5, nc_6, nc_7, nc_8, nc_16, nc_18, nc_20, nc_24, nc_32, nc_40, nc_64, nc_104, nc_120, nc_160, nc_256, nc_300, nc_330, nc_390, nc_1200, nc_1260, nc_3012, nc_9834, okSt_1i, okSt_1r, okSt_1n, List.length_cons, List.length_nil, xpk_succ cd_115_0, xpk_succ cd_115_1, xpk_succ cd_115_4, xpk_succ cd_115_5, xpk_succ cd_115_8, xpk_succ cd_115_11, xpk_succ cd_115_12, xpk_succ cd_115_13, xpk_succ cd_115_16, xpk_succ cd_115_19, xpk_succ cd_115_20, xpk_succ cd_115_21, xpk_succ cd_115_24, xpk_succ cd_115_27, xpk_succ cd_115_28, xpk_succ cd_115_29, xpk_succ cd_115_32, xpk_succ cd_115_35, xpk_succ cd_115_36, xpk_succ cd_115_37, xpk_succ cd_115_40, xpk_succ cd_115_43, xpk_succ cd_115_44, xpk_succ cd_115_45, xpk_succ cd_115_48, xpk_succ cd_115_51, xpk_succ cd_115_52, xpk_succ cd_115_53, xpk_succ cd_115_56, xpk_succ cd_115_59, xpk_succ cd_115_60, xpk_succ cd_115_61, xpk_succ cd_115_64, xpk_succ cd_115_67, xpk_succ cd_115_68, xpk_succ cd_115_69, xpk_succ cd_115_72, xpk_succ cd_115_75, xpk_succ cd_115_76, xpk_succ cd_115_79, xpk_succ cd_115_80, xpk_succ cd_115_83, xpk_succ cd_115_86, xpk_succ cd_115_87, xpk_succ cd_115_90, xpk_succ cd_115_91, xpk_succ cd_115_94, xpk_succ cd_115_97, xpk_succ cd_115_98, xpk_succ cd_115_101, xpk_succ cd_115_102, xpk_succ cd_115_105, xpk_succ cd_115_108, xpk_succ cd_115_109, xpk_succ cd_115_112, xpk_succ cd_115_113, xpk_succ cd_115_116, xpk_succ cd_115_119, xpk_succ cd_115_120, xpk_succ cd_115_123, xpk_succ cd_115_124, xpk_succ cd_115_127, xpk_succ cd_115_130, xpk_succ cd_115_131, xpk_succ cd_115_134, xpk_succ cd_115_135, xpk_succ cd_115_138, xpk_succ cd_115_141, c1, w, e1, e2, e3, e5, e7, e8, e10, e12, r0, r1, r2, r3, r4, r5, v11_0, v11_4, v11_6, v11_9, v11_11, v11_13, v11_14, v1_0, v1_4, v1_6, v1_9, v1_11, v1_13, v1_14, kw, hV_cpy, hK_cpy, K_11 hJ, K_1 hJ, K_2 hJ, K_12 hJ, F_11_0 hJ, F_1_0 hJ, F_11_4 hJ, F_11_6 hJ, F_11_9 hJ, F_11_11 hJ, F_11_13 hJ, F_11_14 hJ, F_1_4 hJ, F_1_6 hJ, F_1_9 hJ, F_1_11 hJ, F_1_13 hJ, F_1_14 hJ]
theorem baC_v {h : AH} (hJ : k_H JB h) : hK (baC h) = hK h ∧ (∀ i, hV (baC h) 0 i = hV h 0 i) ∧ hV (baC h) 1 0 = vR 2 ∧ hV (baC h) 2 9 = hV h 12 9 ∧ (∀ k i, k ≠ 1 → k ≠ 2 → k ≠ 4 → k ≠ 5 → k ≠ 6 → k ≠ 7 → k ≠ 8 → k ≠ 9 → k ≠ 10 → hV (baC h) k i = hV h k i) := by
  refine ⟨by unfold baC baCw; simp only [hK_cpy, hK_eq], fun i => ?_, ?_, ?_, fun k i h1 h2 h3 h4 h5 h6 h7 h8 h9 => ?_⟩
  · unfold baC baCw; simp only [hV_eq, hV_cpy, Nat.reduceEqDiff, Nat.reduceLeDiff, Nat.reduceLT, Nat.reduceAdd, Nat.reduceSub, false_and, and_false, and_self, true_and, and_true, if_false, if_true, reduceIte]
  · unfold baC baCw; simp only [hV_eq, hV_cpy, Nat.reduceEqDiff, Nat.reduceLeDiff, Nat.reduceLT, Nat.reduceAdd, Nat.reduceSub, false_and, and_false, and_self, true_and, and_true, if_false, if_true, reduceIte]; exact F_1_0 hJ
  · unfold baC baCw; simp only [hV_eq, hV_cpy, Nat.reduceEqDiff, Nat.reduceLeDiff, Nat.reduceLT, Nat.reduceAdd, Nat.reduceSub, false_and, and_false, and_self, true_and, and_true, if_false, if_true, reduceIte]
  · unfold baC baCw; simp only [hV_eq, hV_cpy, h1, h2, h3, h4, h5, h6, h7, h8, h9, false_and, if_false]
theorem X_baC {d : Nat} {h : AH} (hJ : k_H JB h) (Q : Option AV → AH → Prop) : XC (d + 4) 170 [vR 0] h Q = Q (some (vI (fI (baC h) 2 9))) (baC h) := by
  refine XC_eq (Nat.le_of_ble_eq_true rfl) ?_ Q
  show XP (d + 3) 170 0 [some (vR 0)] [] h _
  obtain ⟨k0, v0, v1, v2, -⟩ := baC_v hJ
  have c1 : ∀ Q : Option AV → AH → Prop, XC (d + 3) 115 [vR 1, vR 11] h Q = Q none (baC h) := fun Q => X_wc_ba hJ Q
  have e9 : hV (baC h) 2 9 = vI (fI (baC h) 2 9) := by unfold fI; rw [v2, (I_12_9 hJ).1]; rfl
  refine xpk_sound (stops := []) (n := 20) ?_
  simp only [sk_0, sk_1, sk_2, sk_3, sk_4, sk_5, sk_6, sk_7, sk_8, sk_iadd, sk_isub, sk_imul, sk_iand, sk_ior, sk_ixor, sk_ishl, sk_ishr, sk_iushr, sk_idiv, sk_irem, sk_ineg, sk_ladd, sk_lsub, sk_lmul, sk_land, sk_lor, sk_ldiv, sk_lrem, sk_lneg, sk_lshl, sk_lshr, sk_i2l, sk_l2i, sk_lcmp, sk_dupI, sk_dupR, sk_dup2L, sk_dup2I, sk_popI, sk_ifeq, sk_ifne, sk_iflt, sk_ifge, sk_ifgt, sk_ifle, sk_iceq, sk_icne, sk_iclt, sk_icge, sk_icgt, sk_icle, sk_goto, sk_getf, sk_putf, sk_gets, sk_iald, sk_lald, sk_bald, sk_aald, sk_iast, sk_last, sk_bast, sk_aast, sk_alen, sk_newa, sk_newt, sk_new, sk_cs1, sk_cs2, sk_cs3, sk_cs4, sk_cs5, sk_cs6, sk_cv1, sk_cv2, sk_cv3, sk_cv4, sk_cv5, sk_cv6, sk_ci1, sk_ci2, sk_ci3, sk_ret0, sk_retI, sk_retL, sk_retR, sk_sw, sk_oin, sk_max, sk_min, sk_abs, lI_0, lI_s, lL_0, lL_s, lR_0, lR_s, vIo_e, vLo_e, vOo_e, stW_I, stW_L, stW_R, stW_0, stW_z, okSt_0, okSt_s, hV_eq, hK_eq, okF_0, okF_1, okF_3, is01_0, is01_1, is01_i, Int.toNat_natCast, Int.reduceEq, Int.reduceLE, Int.reduceLT, Int.reduceNeg, Nat.reduceLT, not_true_eq_false, not_false_eq_true, reduceIte, Option.toList, List.cons_append, List.nil_append, List.set_cons_zero, List.set_cons_succ, List.not_mem_nil, List.mem_cons, if_false, if_true, ite_true, ite_false, and_self, and_true, true_and, Nat.reduceAdd, Nat.reduceLeDiff, Nat.reduceEqDiff, Nat.zero_add, Nat.le_refl, Nat.zero_le, or_false, false_or, Int.reduceToNat, or_true, true_or, eq_self, and_false, false_and, inR_d, nc_4, nc_5, nc_6, nc_7, nc_8, nc_16, nc_18, nc_20, nc_24, nc_32, nc_40, nc_64, nc_104, nc_120, nc_160, nc_256, nc_300, nc_330, nc_390, nc_1200, nc_1260, nc_3012, nc_9834, okSt_1i, okSt_1r, okSt_1n, List.length_cons, List.length_nil, xpk_succ cd_170_0, xpk_succ cd_170_1, xpk_succ cd_170_4, xpk_succ cd_170_5, xpk_succ cd_170_8, xpk_succ cd_170_11, xpk_succ cd_170_12, xpk_succ cd_170_15, xpk_succ cd_170_18, xpk_succ cd_170_21, c1, k0, v0, v1, e9, K_0 hJ, K_1 hJ, K_2 hJ, K_1 hJ, F_0_0 hJ, F_0_1 hJ]
set_option maxHeartbeats 2000000 in
theorem X_imM {d : Nat} {h : AH} (hJ : k_H JB h) (Q : Option AV → AH → Prop) : XC (d + 3) 318 [vR 76] h Q = Q (some (vI (nmb (hV h 77 16)))) (hCpy h 77 0 78 0 9834) := by
  have hv : ∀ i, i < 9834 → hV h 77 i = vI (nmb (hV h 77 i)) := fun i hi => by obtain ⟨x, hx⟩ := int_77 hJ i hi; rw [hx]; rfl
  have E : ∀ Q : Option AV → AH → Prop, XC (d + 2) 181 [vR 77, vR 78] h Q = Q none (hCpy h 77 0 78 0 9834) := fun Q => X_copy (d + 1) 77 78 h (fun i => nmb (hV h 77 i)) (K_77 hJ) (K_78 hJ) (by decide) hv Q
  have v16 : hV (hCpy h 77 0 78 0 9834) 77 16 = vI (nmb (hV h 77 16)) := by rw [hV_cpy_ne (by decide)]; exact hv 16 (by decide)
  have g1 : hV (hCpy h 77 0 78 0 9834) 76 0 = vR 77 := (hV_cpy_ne (by decide)).trans (F_76_0 hJ)
  refine XC_eq (Nat.le_of_ble_eq_true rfl) ?_ Q
  show XP (d + 2) 318 0 [some (vR 76)] [] h _
  refine xpk_sound (stops := []) (n := 20) ?_
  simp only [sk_0, sk_1, sk_2, sk_3, sk_4, sk_5, sk_6, sk_7, sk_8, sk_iadd, sk_isub, sk_imul, sk_iand, sk_ior, sk_ixor, sk_ishl, sk_ishr, sk_iushr, sk_idiv, sk_irem, sk_ineg, sk_ladd, sk_lsub, sk_lmul, sk_land, sk_lor, sk_ldiv, sk_lrem, sk_lneg, sk_lshl, sk_lshr, sk_i2l, sk_l2i, sk_lcmp, sk_dupI, sk_dupR, sk_dup2L, sk_dup2I, sk_popI, sk_ifeq, sk_ifne, sk_iflt, sk_ifge, sk_ifgt, sk_ifle, sk_iceq, sk_icne, sk_iclt, sk_icge, sk_icgt, sk_icle, sk_goto, sk_getf, sk_putf, sk_gets, sk_iald, sk_lald, sk_bald, sk_aald, sk_iast, sk_last, sk_bast, sk_aast, sk_alen, sk_newa, sk_newt, sk_new, sk_cs1, sk_cs2, sk_cs3, sk_cs4, sk_cs5, sk_cs6, sk_cv1, sk_cv2, sk_cv3, sk_cv4, sk_cv5, sk_cv6, sk_ci1, sk_ci2, sk_ci3, sk_ret0, sk_retI, sk_retL, sk_retR, sk_sw, sk_oin, sk_max, sk_min, sk_abs, lI_0, lI_s, lL_0, lL_s, lR_0, lR_s, vIo_e, vLo_e, vOo_e, stW_I, stW_L, stW_R, stW_0, stW_z, okSt_0, okSt_s, hV_eq, hK_eq, okF_0, okF_1, okF_3, is01_0, is01_1, is01_i, Int.toNat_natCast, Int.reduceEq, Int.reduceLE, Int.reduceLT, Int.reduceNeg, Nat.reduceLT, not_true_eq_false, not_false_eq_true, reduceIte, Option.toList, List.cons_append, List.nil_append, List.set_cons_zero, List.set_cons_succ, List.not_mem_nil, List.mem_cons, if_false, if_true, ite_true, ite_false, and_self, and_true, true_and, Nat.reduceAdd, Nat.reduceLeDiff, Nat.reduceEqDiff, Nat.zero_add, Nat.le_refl, Nat.zero_le, or_false, false_or, Int.reduceToNat, or_true, true_or, eq_self, and_false, false_and, inR_d, nc_4, nc_5, nc_6, nc_7, nc_8, nc_16, nc_18, nc_20, nc_24, nc_32, nc_40, nc_64, nc_104, nc_120, nc_160, nc_256, nc_300, nc_330, nc_390, nc_1200, nc_1260, nc_3012, nc_9834, okSt_1i, okSt_1r, okSt_1n, List.length_cons, List.length_nil, xpk_succ cd_318_0, xpk_succ cd_318_1, xpk_succ cd_318_4, xpk_succ cd_318_5, xpk_succ cd_318_8, xpk_succ cd_318_11, xpk_succ cd_318_12, xpk_succ cd_318_15, xpk_succ cd_318_17, xpk_succ cd_318_18, E, v16, g1, hK_cpy, K_76 hJ, K_77 hJ, F_76_0 hJ, F_76_1 hJ]
set_option maxHeartbeats 2000000 in
theorem X_baM {d : Nat} {h : AH} (hJ : k_H JB h) (Q : Option AV → AH → Prop) : XC (d + 3) 319 [vR 76] h Q = Q (some (vI (nmb (hV h 78 16)))) (hCpy h 78 0 77 0 9834) := by
  have hv : ∀ i, i < 9834 → hV h 78 i = vI (nmb (hV h 78 i)) := fun i hi => by obtain ⟨x, hx⟩ := int_78 hJ i hi; rw [hx]; rfl
  have E : ∀ Q : Option AV → AH → Prop, XC (d + 2) 181 [vR 78, vR 77] h Q = Q none (hCpy h 78 0 77 0 9834) := fun Q => X_copy (d + 1) 78 77 h (fun i => nmb (hV h 78 i)) (K_78 hJ) (K_77 hJ) (by decide) hv Q
  have v16 : hV (hCpy h 78 0 77 0 9834) 77 16 = vI (nmb (hV h 78 16)) := by rw [cpyV (by decide)]; exact hv 16 (by decide)
  have g1 : hV (hCpy h 78 0 77 0 9834) 76 0 = vR 77 := (hV_cpy_ne (by decide)).trans (F_76_0 hJ)
  refine XC_eq (Nat.le_of_ble_eq_true rfl) ?_ Q
  show XP (d + 2) 319 0 [some (vR 76)] [] h _
  refine xpk_sound (stops := []) (n := 20) ?_
  simp only [sk_0, sk_1, sk_2, sk_3, sk_4, sk_5, sk_6, sk_7, sk_8, sk_iadd, sk_isub, sk_imul, sk_iand, sk_ior, sk_ixor, sk_ishl, sk_ishr, sk_iushr, sk_idiv, sk_irem, sk_ineg, sk_ladd, sk_lsub, sk_lmul, sk_land, sk_lor, sk_ldiv, sk_lrem, sk_lneg, sk_lshl, sk_lshr, sk_i2l, sk_l2i, sk_lcmp, sk_dupI, sk_dupR, sk_dup2L, sk_dup2I, sk_popI, sk_ifeq, sk_ifne, sk_iflt, sk_ifge, sk_ifgt, sk_ifle, sk_iceq, sk_icne, sk_iclt, sk_icge, sk_icgt, sk_icle, sk_goto, sk_getf, sk_putf, sk_gets, sk_iald, sk_lald, sk_bald, sk_aald, sk_iast, sk_last, sk_bast, sk_aast, sk_alen, sk_newa, sk_newt, sk_new, sk_cs1, sk_cs2, sk_cs3, sk_cs4, sk_cs5, sk_cs6, sk_cv1, sk_cv2, sk_cv3, sk_cv4, sk_cv5, sk_cv6, sk_ci1, sk_ci2, sk_ci3, sk_ret0, sk_retI, sk_retL, sk_retR, sk_sw, sk_oin, sk_max, sk_min, sk_abs, lI_0, lI_s, lL_0, lL_s, lR_0, lR_s, vIo_e, vLo_e, vOo_e, stW_I, stW_L, stW_R, stW_0, stW_z, okSt_0, okSt_s, hV_eq, hK_eq, okF_0, okF_1, okF_3, is01_0, is01_1, is01_i, Int.toNat_natCast, Int.reduceEq, Int.reduceLE, Int.reduceLT, Int.reduceNeg, Nat.reduceLT, not_true_eq_false, not_false_eq_true, reduceIte, Option.toList, List.cons_append, List.nil_append, List.set_cons_zero, List.set_cons_succ, List.not_mem_nil, List.mem_cons, if_false, if_true, ite_true, ite_false, and_self, and_true, true_and, Nat.reduceAdd, Nat.reduceLeDiff, Nat.reduceEqDiff, Nat.zero_add, Nat.le_refl, Nat.zero_le, or_false, false_or, Int.reduceToNat, or_true, true_or, eq_self, and_false, false_and, inR_d, nc_4, nc_5, nc_6, nc_7, nc_8, nc_16, nc_18, nc_20, nc_24, nc_32, nc_40, nc_64, nc_104, nc_120, nc_160, nc_256, nc_300, nc_330, nc_390, nc_1200, nc_1260, nc_3012, nc_9834, okSt_1i, okSt_1r, okSt_1n, List.length_cons, List.length_nil, xpk_succ cd_319_0, xpk_succ cd_319_1, xpk_succ cd_319_4, xpk_succ cd_319_5, xpk_succ cd_319_8, xpk_succ cd_319_11, xpk_succ cd_319_12, xpk_succ cd_319_15, xpk_succ cd_319_17, xpk_succ cd_319_18, E, v16, g1, hK_cpy, K_76 hJ, K_77 hJ, F_76_0 hJ, F_76_1 hJ]
theorem hV_s {h : AH} {r i : Nat} {v : AV} : hV (hSet h r i v) r i = v := if_pos ⟨rfl, rfl⟩
