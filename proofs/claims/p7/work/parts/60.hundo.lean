set_option maxRecDepth 20000 in
theorem ac_255 : allC[255]? = some cl255 := rfl
theorem cd_255_0 : cd 255 0 = some (4, 1, 0, 0, 0, []) := cd_row ac_255 rfl
theorem cd_255_1 : cd 255 1 = some (23, 4, 10, 0, 0, []) := cd_row ac_255 rfl
theorem cd_255_4 : cd 255 4 = some (0, 5, 0, 0, 5, []) := cd_row ac_255 rfl
theorem cd_255_5 : cd 255 5 = some (26, 6, 0, 0, 0, []) := cd_row ac_255 rfl
theorem cd_255_6 : cd 255 6 = some (20, 9, 11, 1, 0, []) := cd_row ac_255 rfl
theorem cd_255_9 : cd 255 9 = some (0, 10, 0, 0, -1, []) := cd_row ac_255 rfl
theorem cd_255_10 : cd 255 10 = some (40, 11, 0, 0, 0, []) := cd_row ac_255 rfl
theorem cd_255_11 : cd 255 11 = some (4, 12, 0, 0, 0, []) := cd_row ac_255 rfl
theorem cd_255_12 : cd 255 12 = some (23, 15, 10, 0, 0, []) := cd_row ac_255 rfl
theorem cd_255_15 : cd 255 15 = some (0, 16, 0, 0, 5, []) := cd_row ac_255 rfl
theorem cd_255_16 : cd 255 16 = some (18, 17, 0, 0, 0, []) := cd_row ac_255 rfl
theorem cd_255_17 : cd 255 17 = some (26, 18, 0, 0, 0, []) := cd_row ac_255 rfl
theorem cd_255_18 : cd 255 18 = some (0, 19, 0, 0, 1, []) := cd_row ac_255 rfl
theorem cd_255_19 : cd 255 19 = some (9, 20, 0, 1, 0, []) := cd_row ac_255 rfl
theorem cd_255_20 : cd 255 20 = some (30, 21, 0, 0, 0, []) := cd_row ac_255 rfl
theorem cd_255_21 : cd 255 21 = some (0, 23, 0, 0, 84, []) := cd_row ac_255 rfl
theorem cd_255_23 : cd 255 23 = some (0, 25, 0, 0, 13, []) := cd_row ac_255 rfl
theorem cd_255_25 : cd 255 25 = some (4, 26, 0, 0, 0, []) := cd_row ac_255 rfl
theorem cd_255_26 : cd 255 26 = some (23, 29, 10, 0, 0, []) := cd_row ac_255 rfl
theorem cd_255_29 : cd 255 29 = some (0, 30, 0, 0, 5, []) := cd_row ac_255 rfl
theorem cd_255_30 : cd 255 30 = some (26, 31, 0, 0, 0, []) := cd_row ac_255 rfl
theorem cd_255_31 : cd 255 31 = some (9, 32, 0, 2, 0, []) := cd_row ac_255 rfl
theorem cd_255_32 : cd 255 32 = some (9, 33, 0, 0, 0, []) := cd_row ac_255 rfl
theorem cd_255_33 : cd 255 33 = some (5, 34, 1, 0, 0, []) := cd_row ac_255 rfl
theorem cd_255_34 : cd 255 34 = some (0, 35, 0, 0, 0, []) := cd_row ac_255 rfl
theorem cd_255_35 : cd 255 35 = some (5, 36, 2, 0, 0, []) := cd_row ac_255 rfl
theorem cd_255_36 : cd 255 36 = some (2, 37, 2, 0, 0, []) := cd_row ac_255 rfl
theorem cd_255_37 : cd 255 37 = some (0, 39, 0, 0, 10, []) := cd_row ac_255 rfl
theorem cd_255_39 : cd 255 39 = some (21, 42, 65, 3, 0, []) := cd_row ac_255 rfl
theorem cd_255_42 : cd 255 42 = some (4, 43, 0, 0, 0, []) := cd_row ac_255 rfl
theorem cd_255_43 : cd 255 43 = some (23, 46, 10, 0, 0, []) := cd_row ac_255 rfl
theorem cd_255_46 : cd 255 46 = some (0, 48, 0, 0, 8, []) := cd_row ac_255 rfl
theorem cd_255_48 : cd 255 48 = some (2, 49, 2, 0, 0, []) := cd_row ac_255 rfl
theorem cd_255_49 : cd 255 49 = some (9, 50, 0, 0, 0, []) := cd_row ac_255 rfl
theorem cd_255_50 : cd 255 50 = some (4, 51, 0, 0, 0, []) := cd_row ac_255 rfl
theorem cd_255_51 : cd 255 51 = some (23, 54, 10, 0, 0, []) := cd_row ac_255 rfl
theorem cd_255_54 : cd 255 54 = some (2, 55, 1, 0, 0, []) := cd_row ac_255 rfl
theorem cd_255_55 : cd 255 55 = some (2, 56, 2, 0, 0, []) := cd_row ac_255 rfl
theorem cd_255_56 : cd 255 56 = some (9, 57, 0, 0, 0, []) := cd_row ac_255 rfl
theorem cd_255_57 : cd 255 57 = some (26, 58, 0, 0, 0, []) := cd_row ac_255 rfl
theorem cd_255_58 : cd 255 58 = some (30, 59, 0, 0, 0, []) := cd_row ac_255 rfl
theorem cd_255_59 : cd 255 59 = some (8, 62, 2, 0, 1, []) := cd_row ac_255 rfl
theorem cd_255_62 : cd 255 62 = some (22, 65, 36, 0, 0, []) := cd_row ac_255 rfl
theorem cd_255_65 : cd 255 65 = some (4, 66, 0, 0, 0, []) := cd_row ac_255 rfl
theorem cd_255_66 : cd 255 66 = some (23, 69, 10, 0, 0, []) := cd_row ac_255 rfl
theorem cd_255_69 : cd 255 69 = some (0, 70, 0, 0, 2, []) := cd_row ac_255 rfl
theorem cd_255_70 : cd 255 70 = some (4, 71, 0, 0, 0, []) := cd_row ac_255 rfl
theorem cd_255_71 : cd 255 71 = some (23, 74, 10, 0, 0, []) := cd_row ac_255 rfl
theorem cd_255_74 : cd 255 74 = some (2, 75, 1, 0, 0, []) := cd_row ac_255 rfl
theorem cd_255_75 : cd 255 75 = some (0, 77, 0, 0, 10, []) := cd_row ac_255 rfl
theorem cd_255_77 : cd 255 77 = some (9, 78, 0, 0, 0, []) := cd_row ac_255 rfl
theorem cd_255_78 : cd 255 78 = some (26, 79, 0, 0, 0, []) := cd_row ac_255 rfl
theorem cd_255_79 : cd 255 79 = some (30, 80, 0, 0, 0, []) := cd_row ac_255 rfl
theorem cd_255_80 : cd 255 80 = some (4, 81, 0, 0, 0, []) := cd_row ac_255 rfl
theorem cd_255_81 : cd 255 81 = some (23, 84, 10, 0, 0, []) := cd_row ac_255 rfl
theorem cd_255_84 : cd 255 84 = some (0, 86, 0, 0, 7, []) := cd_row ac_255 rfl
theorem cd_255_86 : cd 255 86 = some (4, 87, 0, 0, 0, []) := cd_row ac_255 rfl
theorem cd_255_87 : cd 255 87 = some (23, 90, 10, 0, 0, []) := cd_row ac_255 rfl
theorem cd_255_90 : cd 255 90 = some (2, 91, 1, 0, 0, []) := cd_row ac_255 rfl
theorem cd_255_91 : cd 255 91 = some (0, 93, 0, 0, 11, []) := cd_row ac_255 rfl
theorem cd_255_93 : cd 255 93 = some (9, 94, 0, 0, 0, []) := cd_row ac_255 rfl
theorem cd_255_94 : cd 255 94 = some (26, 95, 0, 0, 0, []) := cd_row ac_255 rfl
theorem cd_255_95 : cd 255 95 = some (30, 96, 0, 0, 0, []) := cd_row ac_255 rfl
theorem cd_255_96 : cd 255 96 = some (0, 97, 0, 0, 0, []) := cd_row ac_255 rfl
theorem cd_255_97 : cd 255 97 = some (5, 98, 2, 0, 0, []) := cd_row ac_255 rfl
theorem cd_255_98 : cd 255 98 = some (2, 99, 2, 0, 0, []) := cd_row ac_255 rfl
theorem cd_255_99 : cd 255 99 = some (4, 100, 0, 0, 0, []) := cd_row ac_255 rfl
theorem cd_255_100 : cd 255 100 = some (23, 103, 10, 0, 0, []) := cd_row ac_255 rfl
theorem cd_255_103 : cd 255 103 = some (0, 104, 0, 0, 0, []) := cd_row ac_255 rfl
theorem cd_255_104 : cd 255 104 = some (26, 105, 0, 0, 0, []) := cd_row ac_255 rfl
theorem cd_255_105 : cd 255 105 = some (21, 108, 141, 3, 0, []) := cd_row ac_255 rfl
theorem cd_255_108 : cd 255 108 = some (4, 109, 0, 0, 0, []) := cd_row ac_255 rfl
theorem cd_255_109 : cd 255 109 = some (23, 112, 10, 0, 0, []) := cd_row ac_255 rfl
theorem cd_255_112 : cd 255 112 = some (0, 114, 0, 0, 20, []) := cd_row ac_255 rfl
theorem cd_255_114 : cd 255 114 = some (0, 116, 0, 0, 6, []) := cd_row ac_255 rfl
theorem cd_255_116 : cd 255 116 = some (2, 117, 2, 0, 0, []) := cd_row ac_255 rfl
theorem cd_255_117 : cd 255 117 = some (9, 118, 0, 2, 0, []) := cd_row ac_255 rfl
theorem cd_255_118 : cd 255 118 = some (9, 119, 0, 0, 0, []) := cd_row ac_255 rfl
theorem cd_255_119 : cd 255 119 = some (0, 120, 0, 0, 5, []) := cd_row ac_255 rfl
theorem cd_255_120 : cd 255 120 = some (9, 121, 0, 0, 0, []) := cd_row ac_255 rfl
theorem cd_255_121 : cd 255 121 = some (4, 122, 0, 0, 0, []) := cd_row ac_255 rfl
theorem cd_255_122 : cd 255 122 = some (23, 125, 10, 0, 0, []) := cd_row ac_255 rfl
theorem cd_255_125 : cd 255 125 = some (2, 126, 1, 0, 0, []) := cd_row ac_255 rfl
theorem cd_255_126 : cd 255 126 = some (0, 128, 0, 0, 12, []) := cd_row ac_255 rfl
theorem cd_255_128 : cd 255 128 = some (9, 129, 0, 0, 0, []) := cd_row ac_255 rfl
theorem cd_255_129 : cd 255 129 = some (26, 130, 0, 0, 0, []) := cd_row ac_255 rfl
theorem cd_255_130 : cd 255 130 = some (2, 131, 2, 0, 0, []) := cd_row ac_255 rfl
theorem cd_255_131 : cd 255 131 = some (9, 132, 0, 9, 0, []) := cd_row ac_255 rfl
theorem cd_255_132 : cd 255 132 = some (0, 133, 0, 0, 1, []) := cd_row ac_255 rfl
theorem cd_255_133 : cd 255 133 = some (9, 134, 0, 3, 0, []) := cd_row ac_255 rfl
theorem cd_255_134 : cd 255 134 = some (30, 135, 0, 0, 0, []) := cd_row ac_255 rfl
theorem cd_255_135 : cd 255 135 = some (8, 138, 2, 0, 1, []) := cd_row ac_255 rfl
theorem cd_255_138 : cd 255 138 = some (22, 141, 98, 0, 0, []) := cd_row ac_255 rfl
theorem cd_255_141 : cd 255 141 = some (4, 142, 0, 0, 0, []) := cd_row ac_255 rfl
theorem cd_255_142 : cd 255 142 = some (23, 145, 10, 0, 0, []) := cd_row ac_255 rfl
theorem cd_255_145 : cd 255 145 = some (0, 146, 0, 0, 5, []) := cd_row ac_255 rfl
theorem cd_255_146 : cd 255 146 = some (26, 147, 0, 0, 0, []) := cd_row ac_255 rfl
theorem cd_255_147 : cd 255 147 = some (40, 148, 0, 0, 0, []) := cd_row ac_255 rfl
def udF (f : Nat → Int) (x k : Nat) : Nat → Int := fun i => if 8 ≤ i ∧ i < 8 + k then f (x + (i - 8)) else f i
theorem udF_0 (f : Nat → Int) (x : Nat) : udF f x 0 = f := by funext i; exact if_neg (fun z => by omega)
theorem udF_s (f : Nat → Int) (x k : Nat) (hx : 84 ≤ x) (hk : k < 10) : upF (udF f x k) (8 + k) (udF f x k (x + k)) = udF f x (k + 1) := by
  funext i
  unfold upF udF
  by_cases z : i = 8 + k
  · rw [if_pos z, if_neg (fun y => by omega), if_pos (by omega), z]; congr 1; omega
  · rw [if_neg z]
    by_cases y : 8 ≤ i ∧ i < 8 + k
    · rw [if_pos y, if_pos (by omega)]
    · rw [if_neg y, if_neg (by omega)]
set_option maxHeartbeats 4000000 in
theorem un_1 (d : Nat) (h : AH) (f : Nat → Int) (x : Nat) (hx : 84 ≤ x) (hx2 : x + 12 < 474) (Q : Option AV → AH → Prop) (ho : AO h) (hend : XP d 255 65 [some (vR 76), some (vI (x : Int)), some (vI 10)] [] (hA h (udF f x 10)) Q) : ∀ j k : Nat, k + j = 10 → XP d 255 36 [some (vR 76), some (vI (x : Int)), some (vI (k : Int))] [] (hA h (udF f x k)) Q := by
  intro j
  induction j with
  | zero =>
    intro k hk
    obtain rfl : k = 10 := by omega
    refine xpk_sound (stops := [65]) (n := 5) ?_
    simp only [sk_0, sk_1, sk_2, sk_3, sk_4, sk_5, sk_6, sk_7, sk_8, sk_iadd, sk_isub, sk_imul, sk_iand, sk_ior, sk_ixor, sk_ishl, sk_ishr, sk_iushr, sk_idiv, sk_irem, sk_ineg, sk_ladd, sk_lsub, sk_lmul, sk_land, sk_lor, sk_ldiv, sk_lrem, sk_lneg, sk_lshl, sk_lshr, sk_i2l, sk_l2i, sk_lcmp, sk_dupI, sk_dupR, sk_dup2L, sk_dup2I, sk_popI, sk_ifeq, sk_ifne, sk_iflt, sk_ifge, sk_ifgt, sk_ifle, sk_iceq, sk_icne, sk_iclt, sk_icge, sk_icgt, sk_icle, sk_goto, sk_getf, sk_putf, sk_gets, sk_iald, sk_lald, sk_bald, sk_aald, sk_iast, sk_last, sk_bast, sk_aast, sk_alen, sk_newa, sk_newt, sk_new, sk_cs1, sk_cs2, sk_cs3, sk_cs4, sk_cs5, sk_cs6, sk_cv1, sk_cv2, sk_cv3, sk_cv4, sk_cv5, sk_cv6, sk_ci1, sk_ci2, sk_ci3, sk_ret0, sk_retI, sk_retL, sk_retR, sk_sw, sk_oin, sk_max, sk_min, sk_abs, lI_0, lI_s, lL_0, lL_s, lR_0, lR_s, vIo_e, vLo_e, vOo_e, stW_I, stW_L, stW_R, stW_0, stW_z, okSt_0, okSt_s, hV_eq, hK_eq, okF_0, okF_1, okF_3, is01_0, is01_1, is01_i, Int.toNat_natCast, Int.reduceEq, Int.reduceLE, Int.reduceLT, Int.reduceNeg, Nat.reduceLT, not_true_eq_false, not_false_eq_true, reduceIte, Option.toList, List.cons_append, List.nil_append, List.set_cons_zero, List.set_cons_succ, List.not_mem_nil, List.mem_cons, if_false, if_true, ite_true, ite_false, and_self, and_true, true_and, Nat.reduceAdd, Nat.reduceLeDiff, Nat.reduceEqDiff, Nat.zero_add, Nat.le_refl, Nat.zero_le, or_false, false_or, Int.reduceToNat, or_true, true_or, eq_self, and_false, false_and, inR_d, nc_4, nc_5, nc_6, nc_7, nc_8, nc_16, nc_18, nc_20, nc_24, nc_32, nc_40, nc_64, nc_104, nc_120, nc_160, nc_256, nc_300, nc_330, nc_390, nc_1200, nc_1260, nc_3012, nc_9834, okSt_1i, okSt_1r, okSt_1n, xpk_succ cd_255_36, xpk_succ cd_255_37, xpk_succ cd_255_39, Int.le_refl]
    exact hend
  | succ j ih =>
    intro k hk
    have hc : ¬ (10 : Int) ≤ (k : Int) := by omega
    have o1 := (AO_A (f := udF f x k) ho).1
    have o2 := (AO_A (f := udF f x k) ho).2.1
    have o3 := (AO_A (f := udF f x k) ho).2.2
    have a1 : w32 ((x : Int) + (k : Int)) = ((x + k : Nat) : Int) := by unfold w32; omega
    have a2 : w32 (8 + (k : Int)) = ((8 + k : Nat) : Int) := by unfold w32; omega
    have a3 : w32 ((k : Int) + 1) = ((k + 1 : Nat) : Int) := by unfold w32; omega
    have b1 : (0 : Int) ≤ ((x + k : Nat) : Int) ∧ ((x + k : Nat) : Int) < 9834 := by omega
    have b2 : (0 : Int) ≤ ((8 + k : Nat) : Int) ∧ ((8 + k : Nat) : Int) < 9834 := by omega
    have v1 : hV (hA h (udF f x k)) 77 (x + k) = vI (udF f x k (x + k)) := hA_V (by omega)
    have s1 : hSet (hA h (udF f x k)) 77 (8 + k) (vI (udF f x k (x + k))) = hA h (udF f x (k + 1)) := by rw [hA_set (by omega), udF_s f x k hx (by omega)]
    refine xpk_sound (stops := [36]) (n := 30) ?_
    simp only [sk_0, sk_1, sk_2, sk_3, sk_4, sk_5, sk_6, sk_7, sk_8, sk_iadd, sk_isub, sk_imul, sk_iand, sk_ior, sk_ixor, sk_ishl, sk_ishr, sk_iushr, sk_idiv, sk_irem, sk_ineg, sk_ladd, sk_lsub, sk_lmul, sk_land, sk_lor, sk_ldiv, sk_lrem, sk_lneg, sk_lshl, sk_lshr, sk_i2l, sk_l2i, sk_lcmp, sk_dupI, sk_dupR, sk_dup2L, sk_dup2I, sk_popI, sk_ifeq, sk_ifne, sk_iflt, sk_ifge, sk_ifgt, sk_ifle, sk_iceq, sk_icne, sk_iclt, sk_icge, sk_icgt, sk_icle, sk_goto, sk_getf, sk_putf, sk_gets, sk_iald, sk_lald, sk_bald, sk_aald, sk_iast, sk_last, sk_bast, sk_aast, sk_alen, sk_newa, sk_newt, sk_new, sk_cs1, sk_cs2, sk_cs3, sk_cs4, sk_cs5, sk_cs6, sk_cv1, sk_cv2, sk_cv3, sk_cv4, sk_cv5, sk_cv6, sk_ci1, sk_ci2, sk_ci3, sk_ret0, sk_retI, sk_retL, sk_retR, sk_sw, sk_oin, sk_max, sk_min, sk_abs, lI_0, lI_s, lL_0, lL_s, lR_0, lR_s, vIo_e, vLo_e, vOo_e, stW_I, stW_L, stW_R, stW_0, stW_z, okSt_0, okSt_s, hV_eq, hK_eq, okF_0, okF_1, okF_3, is01_0, is01_1, is01_i, Int.toNat_natCast, Int.reduceEq, Int.reduceLE, Int.reduceLT, Int.reduceNeg, Nat.reduceLT, not_true_eq_false, not_false_eq_true, reduceIte, Option.toList, List.cons_append, List.nil_append, List.set_cons_zero, List.set_cons_succ, List.not_mem_nil, List.mem_cons, if_false, if_true, ite_true, ite_false, and_self, and_true, true_and, Nat.reduceAdd, Nat.reduceLeDiff, Nat.reduceEqDiff, Nat.zero_add, Nat.le_refl, Nat.zero_le, or_false, false_or, Int.reduceToNat, or_true, true_or, eq_self, and_false, false_and, inR_d, nc_4, nc_5, nc_6, nc_7, nc_8, nc_16, nc_18, nc_20, nc_24, nc_32, nc_40, nc_64, nc_104, nc_120, nc_160, nc_256, nc_300, nc_330, nc_390, nc_1200, nc_1260, nc_3012, nc_9834, okSt_1i, okSt_1r, okSt_1n, xpk_succ cd_255_36, xpk_succ cd_255_37, xpk_succ cd_255_39, xpk_succ cd_255_42, xpk_succ cd_255_43, xpk_succ cd_255_46, xpk_succ cd_255_48, xpk_succ cd_255_49, xpk_succ cd_255_50, xpk_succ cd_255_51, xpk_succ cd_255_54, xpk_succ cd_255_55, xpk_succ cd_255_56, xpk_succ cd_255_57, xpk_succ cd_255_58, xpk_succ cd_255_59, xpk_succ cd_255_62, hc, o1, o2, o3, a1, a2, a3, b1, b2, v1]
    rw [s1]
    exact ih (k + 1) (by omega)
/-- which have landed is anew for the first n orders -/
def BT (g f : Nat → Int) (n : Nat) : Prop := (∀ i, (∀ o, o < n → i ≠ 25 + 6 * o) → f i = g i) ∧ ∀ o, o < n → 0 ≤ f (25 + 6 * o) ∧ f (25 + 6 * o) ≤ 1
theorem BT_s {g f : Nat → Int} {n : Nat} {z : Int} (h : BT g f n) (h1 : 0 ≤ z) (h2 : z ≤ 1) : BT g (upF f (25 + 6 * n) z) (n + 1) := by
  refine ⟨fun i hi => ?_, fun o ho => ?_⟩
  · rw [upF_ne (hi n (by omega))]
    exact h.1 i (fun o ho => hi o (by omega))
  · by_cases y : o = n
    · subst y; rw [upF_at]; exact ⟨h1, h2⟩
    · rw [upF_ne (by omega)]; exact h.2 o (by omega)
set_option maxHeartbeats 4000000 in
theorem un_2 (d : Nat) (h : AH) (g : Nat → Int) (x n0 : Nat) (hx : 84 ≤ x) (hx2 : x + 12 < 474) (h0 : g 0 = (n0 : Int)) (hn : n0 ≤ 8) (Q : Option AV → AH → Prop) (ho : AO h) (hend : ∀ f, BT g f n0 → XP d 255 141 [some (vR 76), some (vI (x : Int)), some (vI (n0 : Int))] [] (hA h f) Q) : ∀ (j o : Nat) (f : Nat → Int), o + j = n0 → BT g f o → XP d 255 98 [some (vR 76), some (vI (x : Int)), some (vI (o : Int))] [] (hA h f) Q := by
  intro j
  induction j with
  | zero =>
    intro o f hk hB
    obtain rfl : o = n0 := by omega
    have o1 := (AO_A (f := f) ho).1
    have o2 := (AO_A (f := f) ho).2.1
    have o3 := (AO_A (f := f) ho).2.2
    have v0 : hV (hA h f) 77 0 = vI (o : Int) := by rw [hA_V (by decide), hB.1 0 (fun o _ => by omega), h0]
    have he := hend f hB
    refine xpk_sound (stops := [141]) (n := 9) ?_
    simp only [sk_0, sk_1, sk_2, sk_3, sk_4, sk_5, sk_6, sk_7, sk_8, sk_iadd, sk_isub, sk_imul, sk_iand, sk_ior, sk_ixor, sk_ishl, sk_ishr, sk_iushr, sk_idiv, sk_irem, sk_ineg, sk_ladd, sk_lsub, sk_lmul, sk_land, sk_lor, sk_ldiv, sk_lrem, sk_lneg, sk_lshl, sk_lshr, sk_i2l, sk_l2i, sk_lcmp, sk_dupI, sk_dupR, sk_dup2L, sk_dup2I, sk_popI, sk_ifeq, sk_ifne, sk_iflt, sk_ifge, sk_ifgt, sk_ifle, sk_iceq, sk_icne, sk_iclt, sk_icge, sk_icgt, sk_icle, sk_goto, sk_getf, sk_putf, sk_gets, sk_iald, sk_lald, sk_bald, sk_aald, sk_iast, sk_last, sk_bast, sk_aast, sk_alen, sk_newa, sk_newt, sk_new, sk_cs1, sk_cs2, sk_cs3, sk_cs4, sk_cs5, sk_cs6, sk_cv1, sk_cv2, sk_cv3, sk_cv4, sk_cv5, sk_cv6, sk_ci1, sk_ci2, sk_ci3, sk_ret0, sk_retI, sk_retL, sk_retR, sk_sw, sk_oin, sk_max, sk_min, sk_abs, lI_0, lI_s, lL_0, lL_s, lR_0, lR_s, vIo_e, vLo_e, vOo_e, stW_I, stW_L, stW_R, stW_0, stW_z, okSt_0, okSt_s, hV_eq, hK_eq, okF_0, okF_1, okF_3, is01_0, is01_1, is01_i, Int.toNat_natCast, Int.reduceEq, Int.reduceLE, Int.reduceLT, Int.reduceNeg, Nat.reduceLT, not_true_eq_false, not_false_eq_true, reduceIte, Option.toList, List.cons_append, List.nil_append, List.set_cons_zero, List.set_cons_succ, List.not_mem_nil, List.mem_cons, if_false, if_true, ite_true, ite_false, and_self, and_true, true_and, Nat.reduceAdd, Nat.reduceLeDiff, Nat.reduceEqDiff, Nat.zero_add, Nat.le_refl, Nat.zero_le, or_false, false_or, Int.reduceToNat, or_true, true_or, eq_self, and_false, false_and, inR_d, nc_4, nc_5, nc_6, nc_7, nc_8, nc_16, nc_18, nc_20, nc_24, nc_32, nc_40, nc_64, nc_104, nc_120, nc_160, nc_256, nc_300, nc_330, nc_390, nc_1200, nc_1260, nc_3012, nc_9834, okSt_1i, okSt_1r, okSt_1n, xpk_succ cd_255_98, xpk_succ cd_255_99, xpk_succ cd_255_100, xpk_succ cd_255_103, xpk_succ cd_255_104, xpk_succ cd_255_105, o1, o2, o3, v0, Int.le_refl]
    exact he
  | succ j ih =>
    intro o f hk hB
    have o1 := (AO_A (f := f) ho).1
    have o2 := (AO_A (f := f) ho).2.1
    have o3 := (AO_A (f := f) ho).2.2
    have v0 : hV (hA h f) 77 0 = vI (n0 : Int) := by rw [hA_V (by decide), hB.1 0 (fun o _ => by omega), h0]
    have hc : ¬ (n0 : Int) ≤ (o : Int) := by omega
    have a0 : w32 (6 * (o : Int)) = ((6 * o : Nat) : Int) := by unfold w32; omega
    have a1 : w32 (20 + ((6 * o : Nat) : Int)) = ((20 + 6 * o : Nat) : Int) := by unfold w32; omega
    have a2 : w32 (((20 + 6 * o : Nat) : Int) + 5) = ((25 + 6 * o : Nat) : Int) := by unfold w32; omega
    have a3 : w32 ((o : Int) + 1) = ((o + 1 : Nat) : Int) := by unfold w32; omega
    have a4 : w32 ((x : Int) + 12) = ((x + 12 : Nat) : Int) := by unfold w32; omega
    have b1 : (0 : Int) ≤ ((x + 12 : Nat) : Int) ∧ ((x + 12 : Nat) : Int) < 9834 := by omega
    have b2 : (0 : Int) ≤ ((25 + 6 * o : Nat) : Int) ∧ ((25 + 6 * o : Nat) : Int) < 9834 := by omega
    have v1 : hV (hA h f) 77 (x + 12) = vI (f (x + 12)) := hA_V (by omega)
    have s1 : ∀ z : Int, hSet (hA h f) 77 (25 + 6 * o) (vI z) = hA h (upF f (25 + 6 * o) z) := fun z => hA_set (by omega)
    refine xpk_sound (stops := [98]) (n := 40) ?_
    simp only [sk_0, sk_1, sk_2, sk_3, sk_4, sk_5, sk_6, sk_7, sk_8, sk_iadd, sk_isub, sk_imul, sk_iand, sk_ior, sk_ixor, sk_ishl, sk_ishr, sk_iushr, sk_idiv, sk_irem, sk_ineg, sk_ladd, sk_lsub, sk_lmul, sk_land, sk_lor, sk_ldiv, sk_lrem, sk_lneg, sk_lshl, sk_lshr, sk_i2l, sk_l2i, sk_lcmp, sk_dupI, sk_dupR, sk_dup2L, sk_dup2I, sk_popI, sk_ifeq, sk_ifne, sk_iflt, sk_ifge, sk_ifgt, sk_ifle, sk_iceq, sk_icne, sk_iclt, sk_icge, sk_icgt, sk_icle, sk_goto, sk_getf, sk_putf, sk_gets, sk_iald, sk_lald, sk_bald, sk_aald, sk_iast, sk_last, sk_bast, sk_aast, sk_alen, sk_newa, sk_newt, sk_new, sk_cs1, sk_cs2, sk_cs3, sk_cs4, sk_cs5, sk_cs6, sk_cv1, sk_cv2, sk_cv3, sk_cv4, sk_cv5, sk_cv6, sk_ci1, sk_ci2, sk_ci3, sk_ret0, sk_retI, sk_retL, sk_retR, sk_sw, sk_oin, sk_max, sk_min, sk_abs, lI_0, lI_s, lL_0, lL_s, lR_0, lR_s, vIo_e, vLo_e, vOo_e, stW_I, stW_L, stW_R, stW_0, stW_z, okSt_0, okSt_s, hV_eq, hK_eq, okF_0, okF_1, okF_3, is01_0, is01_1, is01_i, Int.toNat_natCast, Int.reduceEq, Int.reduceLE, Int.reduceLT, Int.reduceNeg, Nat.reduceLT, not_true_eq_false, not_false_eq_true, reduceIte, Option.toList, List.cons_append, List.nil_append, List.set_cons_zero, List.set_cons_succ, List.not_mem_nil, List.mem_cons, if_false, if_true, ite_true, ite_false, and_self, and_true, true_and, Nat.reduceAdd, Nat.reduceLeDiff, Nat.reduceEqDiff, Nat.zero_add, Nat.le_refl, Nat.zero_le, or_false, false_or, Int.reduceToNat, or_true, true_or, eq_self, and_false, false_and, inR_d, nc_4, nc_5, nc_6, nc_7, nc_8, nc_16, nc_18, nc_20, nc_24, nc_32, nc_40, nc_64, nc_104, nc_120, nc_160, nc_256, nc_300, nc_330, nc_390, nc_1200, nc_1260, nc_3012, nc_9834, okSt_1i, okSt_1r, okSt_1n, xpk_succ cd_255_98, xpk_succ cd_255_99, xpk_succ cd_255_100, xpk_succ cd_255_103, xpk_succ cd_255_104, xpk_succ cd_255_105, xpk_succ cd_255_108, xpk_succ cd_255_109, xpk_succ cd_255_112, xpk_succ cd_255_114, xpk_succ cd_255_116, xpk_succ cd_255_117, xpk_succ cd_255_118, xpk_succ cd_255_119, xpk_succ cd_255_120, xpk_succ cd_255_121, xpk_succ cd_255_122, xpk_succ cd_255_125, xpk_succ cd_255_126, xpk_succ cd_255_128, xpk_succ cd_255_129, xpk_succ cd_255_130, xpk_succ cd_255_131, xpk_succ cd_255_132, xpk_succ cd_255_133, xpk_succ cd_255_134, xpk_succ cd_255_135, xpk_succ cd_255_138, hc, o1, o2, o3, v0, a0, a1, a2, a3, a4, b1, b2, v1]
    rw [s1]
    have hz := iand_r (x := ishr (f (x + 12)) (o : Int)) (y := 1) (by decide) (by decide)
    exact ih (o + 1) _ (by omega) (BT_s hB hz.1 hz.2)
/-- the row below s is taken back -/
def UND (f f' : Nat → Int) (s n0 : Nat) : Prop := f' 5 = (s : Int) ∧ (∀ k, k < 10 → f' (8 + k) = f (84 + 13 * s + k)) ∧ f' 2 = f (84 + 13 * s + 10) ∧ f' 7 = f (84 + 13 * s + 11) ∧ (∀ o, o < n0 → 0 ≤ f' (25 + 6 * o) ∧ f' (25 + 6 * o) ≤ 1) ∧ ∀ i, i ≠ 5 → i ≠ 2 → i ≠ 7 → (i < 8 ∨ 18 ≤ i) → (∀ o, o < n0 → i ≠ 25 + 6 * o) → f' i = f i
set_option maxHeartbeats 4000000 in
theorem X_undo (d : Nat) (h : AH) (f : Nat → Int) (s n0 : Nat) (ho : AO h) (h5 : f 5 = ((s + 1 : Nat) : Int)) (hs : s < 30) (h0 : f 0 = (n0 : Int)) (hn : n0 ≤ 8) (Q : Option AV → AH → Prop) (hQ : ∀ f', UND f f' s n0 → Q (some (vI (s : Int))) (hA h f')) : XC (d + 1) 255 [vR 76] (hA h f) Q := by
  refine XC_of (Nat.le_of_ble_eq_true rfl) ?_
  show XP d 255 0 [some (vR 76), none, none] [] (hA h f) Q
  have hx : 84 ≤ 84 + 13 * s := by omega
  have hx2 : 84 + 13 * s + 12 < 474 := by omega
  generalize hX : 84 + 13 * s = x at hx hx2
  -- the last steps
  have fin : ∀ f', BT (upF (upF (udF (upF f 5 (s : Int)) x 10) 2 (f (x + 10))) 7 (f (x + 11))) f' n0 → XP d 255 141 [some (vR 76), some (vI (x : Int)), some (vI (n0 : Int))] [] (hA h f') Q := fun f' hB => by
    have o1 := (AO_A (f := f') ho).1
    have o2 := (AO_A (f := f') ho).2.1
    have o3 := (AO_A (f := f') ho).2.2
    have e5 : f' 5 = (s : Int) := by
      rw [hB.1 5 (fun o _ => by omega), upF_ne (by decide), upF_ne (by decide)]
      have : udF (upF f 5 (s : Int)) x 10 5 = upF f 5 (s : Int) 5 := if_neg (fun z => by omega)
      rw [this, upF_at]
    have v5 : hV (hA h f') 77 5 = vI (s : Int) := by rw [hA_V (by decide), e5]
    have he := hQ f' (by
      rw [← hX] at hB
      refine ⟨e5, fun k hk => ?_, ?_, ?_, hB.2, fun i h1 h2 h3 h4 h6 => ?_⟩
      · rw [hB.1 (8 + k) (fun o _ => by omega), upF_ne (by omega), upF_ne (by omega)]
        have : udF (upF f 5 (s : Int)) (84 + 13 * s) 10 (8 + k) = upF f 5 (s : Int) (84 + 13 * s + (8 + k - 8)) := if_pos (by omega)
        rw [this, upF_ne (by omega)]
        congr 1; omega
      · rw [hB.1 2 (fun o _ => by omega), upF_ne (by decide), upF_at]
      · rw [hB.1 7 (fun o _ => by omega), upF_at]
      · rw [hB.1 i h6, upF_ne h3, upF_ne h2]
        have : udF (upF f 5 (s : Int)) (84 + 13 * s) 10 i = upF f 5 (s : Int) i := if_neg (fun z => by omega)
        rw [this, upF_ne h1])
    refine xpk_sound (stops := []) (n := 9) ?_
    simp only [sk_0, sk_1, sk_2, sk_3, sk_4, sk_5, sk_6, sk_7, sk_8, sk_iadd, sk_isub, sk_imul, sk_iand, sk_ior, sk_ixor, sk_ishl, sk_ishr, sk_iushr, sk_idiv, sk_irem, sk_ineg, sk_ladd, sk_lsub, sk_lmul, sk_land, sk_lor, sk_ldiv, sk_lrem, sk_lneg, sk_lshl, sk_lshr, sk_i2l, sk_l2i, sk_lcmp, sk_dupI, sk_dupR, sk_dup2L, sk_dup2I, sk_popI, sk_ifeq, sk_ifne, sk_iflt, sk_ifge, sk_ifgt, sk_ifle, sk_iceq, sk_icne, sk_iclt, sk_icge, sk_icgt, sk_icle, sk_goto, sk_getf, sk_putf, sk_gets, sk_iald, sk_lald, sk_bald, sk_aald, sk_iast, sk_last, sk_bast, sk_aast, sk_alen, sk_newa, sk_newt, sk_new, sk_cs1, sk_cs2, sk_cs3, sk_cs4, sk_cs5, sk_cs6, sk_cv1, sk_cv2, sk_cv3, sk_cv4, sk_cv5, sk_cv6, sk_ci1, sk_ci2, sk_ci3, sk_ret0, sk_retI, sk_retL, sk_retR, sk_sw, sk_oin, sk_max, sk_min, sk_abs, lI_0, lI_s, lL_0, lL_s, lR_0, lR_s, vIo_e, vLo_e, vOo_e, stW_I, stW_L, stW_R, stW_0, stW_z, okSt_0, okSt_s, hV_eq, hK_eq, okF_0, okF_1, okF_3, is01_0, is01_1, is01_i, Int.toNat_natCast, Int.reduceEq, Int.reduceLE, Int.reduceLT, Int.reduceNeg, Nat.reduceLT, not_true_eq_false, not_false_eq_true, reduceIte, Option.toList, List.cons_append, List.nil_append, List.set_cons_zero, List.set_cons_succ, List.not_mem_nil, List.mem_cons, if_false, if_true, ite_true, ite_false, and_self, and_true, true_and, Nat.reduceAdd, Nat.reduceLeDiff, Nat.reduceEqDiff, Nat.zero_add, Nat.le_refl, Nat.zero_le, or_false, false_or, Int.reduceToNat, or_true, true_or, eq_self, and_false, false_and, inR_d, nc_4, nc_5, nc_6, nc_7, nc_8, nc_16, nc_18, nc_20, nc_24, nc_32, nc_40, nc_64, nc_104, nc_120, nc_160, nc_256, nc_300, nc_330, nc_390, nc_1200, nc_1260, nc_3012, nc_9834, okSt_1i, okSt_1r, okSt_1n, xpk_succ cd_255_141, xpk_succ cd_255_142, xpk_succ cd_255_145, xpk_succ cd_255_146, xpk_succ cd_255_147, o1, o2, o3, v5]
    exact he
  have lp2 := un_2 d h (upF (upF (udF (upF f 5 (s : Int)) x 10) 2 (f (x + 10))) 7 (f (x + 11))) x n0 hx hx2 (by
    rw [upF_ne (by decide), upF_ne (by decide)]
    have : udF (upF f 5 (s : Int)) x 10 0 = upF f 5 (s : Int) 0 := if_neg (fun z => by omega)
    rw [this, upF_ne (by decide), h0]) hn Q ho fin n0 0 _ (by omega) ⟨fun i _ => rfl, fun o z => by omega⟩
  have lp2 : XP d 255 98 [some (vR 76), some (vI (x : Int)), some (vI 0)] [] (hA h (upF (upF (udF (upF f 5 (s : Int)) x 10) 2 (f (x + 10))) 7 (f (x + 11)))) Q := lp2
  have mid : XP d 255 65 [some (vR 76), some (vI (x : Int)), some (vI 10)] [] (hA h (udF (upF f 5 (s : Int)) x 10)) Q := by
    have o1 := (AO_A (f := udF (upF f 5 (s : Int)) x 10) ho).1
    have o2 := (AO_A (f := udF (upF f 5 (s : Int)) x 10) ho).2.1
    have o3 := (AO_A (f := udF (upF f 5 (s : Int)) x 10) ho).2.2
    have p1 := (AO_A (f := upF (udF (upF f 5 (s : Int)) x 10) 2 (f (x + 10))) ho).1
    have p2 := (AO_A (f := upF (udF (upF f 5 (s : Int)) x 10) 2 (f (x + 10))) ho).2.1
    have p3 := (AO_A (f := upF (udF (upF f 5 (s : Int)) x 10) 2 (f (x + 10))) ho).2.2
    have a10 : w32 ((x : Int) + 10) = ((x + 10 : Nat) : Int) := by unfold w32; omega
    have a11 : w32 ((x : Int) + 11) = ((x + 11 : Nat) : Int) := by unfold w32; omega
    have b10 : (0 : Int) ≤ ((x + 10 : Nat) : Int) ∧ ((x + 10 : Nat) : Int) < 9834 := by omega
    have b11 : (0 : Int) ≤ ((x + 11 : Nat) : Int) ∧ ((x + 11 : Nat) : Int) < 9834 := by omega
    have u : ∀ i, 84 ≤ i → udF (upF f 5 (s : Int)) x 10 i = f i := fun i hi => by
      have : udF (upF f 5 (s : Int)) x 10 i = upF f 5 (s : Int) i := if_neg (fun z => by omega)
      rw [this, upF_ne (by omega)]
    have v10 : hV (hA h (udF (upF f 5 (s : Int)) x 10)) 77 (x + 10) = vI (f (x + 10)) := by rw [hA_V (by omega), u _ (by omega)]
    have v11 : hV (hA h (upF (udF (upF f 5 (s : Int)) x 10) 2 (f (x + 10)))) 77 (x + 11) = vI (f (x + 11)) := by rw [hA_V (by omega), upF_ne (by omega), u _ (by omega)]
    have s2 : hSet (hA h (udF (upF f 5 (s : Int)) x 10)) 77 2 (vI (f (x + 10))) = hA h (upF (udF (upF f 5 (s : Int)) x 10) 2 (f (x + 10))) := hA_set (by decide)
    have s7 : hSet (hA h (upF (udF (upF f 5 (s : Int)) x 10) 2 (f (x + 10)))) 77 7 (vI (f (x + 11))) = hA h (upF (upF (udF (upF f 5 (s : Int)) x 10) 2 (f (x + 10))) 7 (f (x + 11))) := hA_set (by decide)
    refine xpk_sound (stops := [98]) (n := 50) ?_
    simp only [sk_0, sk_1, sk_2, sk_3, sk_4, sk_5, sk_6, sk_7, sk_8, sk_iadd, sk_isub, sk_imul, sk_iand, sk_ior, sk_ixor, sk_ishl, sk_ishr, sk_iushr, sk_idiv, sk_irem, sk_ineg, sk_ladd, sk_lsub, sk_lmul, sk_land, sk_lor, sk_ldiv, sk_lrem, sk_lneg, sk_lshl, sk_lshr, sk_i2l, sk_l2i, sk_lcmp, sk_dupI, sk_dupR, sk_dup2L, sk_dup2I, sk_popI, sk_ifeq, sk_ifne, sk_iflt, sk_ifge, sk_ifgt, sk_ifle, sk_iceq, sk_icne, sk_iclt, sk_icge, sk_icgt, sk_icle, sk_goto, sk_getf, sk_putf, sk_gets, sk_iald, sk_lald, sk_bald, sk_aald, sk_iast, sk_last, sk_bast, sk_aast, sk_alen, sk_newa, sk_newt, sk_new, sk_cs1, sk_cs2, sk_cs3, sk_cs4, sk_cs5, sk_cs6, sk_cv1, sk_cv2, sk_cv3, sk_cv4, sk_cv5, sk_cv6, sk_ci1, sk_ci2, sk_ci3, sk_ret0, sk_retI, sk_retL, sk_retR, sk_sw, sk_oin, sk_max, sk_min, sk_abs, lI_0, lI_s, lL_0, lL_s, lR_0, lR_s, vIo_e, vLo_e, vOo_e, stW_I, stW_L, stW_R, stW_0, stW_z, okSt_0, okSt_s, hV_eq, hK_eq, okF_0, okF_1, okF_3, is01_0, is01_1, is01_i, Int.toNat_natCast, Int.reduceEq, Int.reduceLE, Int.reduceLT, Int.reduceNeg, Nat.reduceLT, not_true_eq_false, not_false_eq_true, reduceIte, Option.toList, List.cons_append, List.nil_append, List.set_cons_zero, List.set_cons_succ, List.not_mem_nil, List.mem_cons, if_false, if_true, ite_true, ite_false, and_self, and_true, true_and, Nat.reduceAdd, Nat.reduceLeDiff, Nat.reduceEqDiff, Nat.zero_add, Nat.le_refl, Nat.zero_le, or_false, false_or, Int.reduceToNat, or_true, true_or, eq_self, and_false, false_and, inR_d, nc_4, nc_5, nc_6, nc_7, nc_8, nc_16, nc_18, nc_20, nc_24, nc_32, nc_40, nc_64, nc_104, nc_120, nc_160, nc_256, nc_300, nc_330, nc_390, nc_1200, nc_1260, nc_3012, nc_9834, okSt_1i, okSt_1r, okSt_1n, xpk_succ cd_255_65, xpk_succ cd_255_66, xpk_succ cd_255_69, xpk_succ cd_255_70, xpk_succ cd_255_71, xpk_succ cd_255_74, xpk_succ cd_255_75, xpk_succ cd_255_77, xpk_succ cd_255_78, xpk_succ cd_255_79, xpk_succ cd_255_80, xpk_succ cd_255_81, xpk_succ cd_255_84, xpk_succ cd_255_86, xpk_succ cd_255_87, xpk_succ cd_255_90, xpk_succ cd_255_91, xpk_succ cd_255_93, xpk_succ cd_255_94, xpk_succ cd_255_95, xpk_succ cd_255_96, xpk_succ cd_255_97, o1, o2, o3, p1, p2, p3, a10, a11, b10, b11, v10, v11, s2, s7]
    exact lp2
  have lp1 : XP d 255 36 [some (vR 76), some (vI (x : Int)), some (vI 0)] [] (hA h (upF f 5 (s : Int))) Q := by
    have := un_1 d h (upF f 5 (s : Int)) x hx hx2 Q ho mid 10 0 rfl
    rw [udF_0] at this
    exact this
  have o1 := (AO_A (f := f) ho).1
  have o2 := (AO_A (f := f) ho).2.1
  have o3 := (AO_A (f := f) ho).2.2
  have p1 := (AO_A (f := upF f 5 (s : Int)) ho).1
  have p2 := (AO_A (f := upF f 5 (s : Int)) ho).2.1
  have p3 := (AO_A (f := upF f 5 (s : Int)) ho).2.2
  have v5 : hV (hA h f) 77 5 = vI ((s + 1 : Nat) : Int) := by rw [hA_V (by decide), h5]
  have u5 : hV (hA h (upF f 5 (s : Int))) 77 5 = vI (s : Int) := by rw [hA_V (by decide), upF_at]
  have hc : ¬ ((s + 1 : Nat) : Int) = 0 := by omega
  have a0 : w32 (((s + 1 : Nat) : Int) - 1) = (s : Int) := by unfold w32; omega
  have a1 : w32 (13 * (s : Int)) = ((13 * s : Nat) : Int) := by unfold w32; omega
  have a2 : w32 (84 + ((13 * s : Nat) : Int)) = (x : Int) := by rw [← hX]; unfold w32; omega
  have s5 : hSet (hA h f) 77 5 (vI (s : Int)) = hA h (upF f 5 (s : Int)) := hA_set (by decide)
  refine xpk_sound (stops := [36]) (n := 50) ?_
  simp only [sk_0, sk_1, sk_2, sk_3, sk_4, sk_5, sk_6, sk_7, sk_8, sk_iadd, sk_isub, sk_imul, sk_iand, sk_ior, sk_ixor, sk_ishl, sk_ishr, sk_iushr, sk_idiv, sk_irem, sk_ineg, sk_ladd, sk_lsub, sk_lmul, sk_land, sk_lor, sk_ldiv, sk_lrem, sk_lneg, sk_lshl, sk_lshr, sk_i2l, sk_l2i, sk_lcmp, sk_dupI, sk_dupR, sk_dup2L, sk_dup2I, sk_popI, sk_ifeq, sk_ifne, sk_iflt, sk_ifge, sk_ifgt, sk_ifle, sk_iceq, sk_icne, sk_iclt, sk_icge, sk_icgt, sk_icle, sk_goto, sk_getf, sk_putf, sk_gets, sk_iald, sk_lald, sk_bald, sk_aald, sk_iast, sk_last, sk_bast, sk_aast, sk_alen, sk_newa, sk_newt, sk_new, sk_cs1, sk_cs2, sk_cs3, sk_cs4, sk_cs5, sk_cs6, sk_cv1, sk_cv2, sk_cv3, sk_cv4, sk_cv5, sk_cv6, sk_ci1, sk_ci2, sk_ci3, sk_ret0, sk_retI, sk_retL, sk_retR, sk_sw, sk_oin, sk_max, sk_min, sk_abs, lI_0, lI_s, lL_0, lL_s, lR_0, lR_s, vIo_e, vLo_e, vOo_e, stW_I, stW_L, stW_R, stW_0, stW_z, okSt_0, okSt_s, hV_eq, hK_eq, okF_0, okF_1, okF_3, is01_0, is01_1, is01_i, Int.toNat_natCast, Int.reduceEq, Int.reduceLE, Int.reduceLT, Int.reduceNeg, Nat.reduceLT, not_true_eq_false, not_false_eq_true, reduceIte, Option.toList, List.cons_append, List.nil_append, List.set_cons_zero, List.set_cons_succ, List.not_mem_nil, List.mem_cons, if_false, if_true, ite_true, ite_false, and_self, and_true, true_and, Nat.reduceAdd, Nat.reduceLeDiff, Nat.reduceEqDiff, Nat.zero_add, Nat.le_refl, Nat.zero_le, or_false, false_or, Int.reduceToNat, or_true, true_or, eq_self, and_false, false_and, inR_d, nc_4, nc_5, nc_6, nc_7, nc_8, nc_16, nc_18, nc_20, nc_24, nc_32, nc_40, nc_64, nc_104, nc_120, nc_160, nc_256, nc_300, nc_330, nc_390, nc_1200, nc_1260, nc_3012, nc_9834, okSt_1i, okSt_1r, okSt_1n, xpk_succ cd_255_0, xpk_succ cd_255_1, xpk_succ cd_255_4, xpk_succ cd_255_5, xpk_succ cd_255_6, xpk_succ cd_255_9, xpk_succ cd_255_10, xpk_succ cd_255_11, xpk_succ cd_255_12, xpk_succ cd_255_15, xpk_succ cd_255_16, xpk_succ cd_255_17, xpk_succ cd_255_18, xpk_succ cd_255_19, xpk_succ cd_255_20, xpk_succ cd_255_21, xpk_succ cd_255_23, xpk_succ cd_255_25, xpk_succ cd_255_26, xpk_succ cd_255_29, xpk_succ cd_255_30, xpk_succ cd_255_31, xpk_succ cd_255_32, xpk_succ cd_255_33, xpk_succ cd_255_34, xpk_succ cd_255_35, o1, o2, o3, p1, p2, p3, v5, u5, hc, a0, a1, a2, s5]
  exact lp1
set_option maxHeartbeats 4000000 in
theorem X_undo0 (d : Nat) (h : AH) (f : Nat → Int) (ho : AO h) (h5 : f 5 = 0) (Q : Option AV → AH → Prop) (hQ : Q (some (vI (-1))) (hA h f)) : XC (d + 1) 255 [vR 76] (hA h f) Q := by
  refine XC_of (Nat.le_of_ble_eq_true rfl) ?_
  show XP d 255 0 [some (vR 76), none, none] [] (hA h f) Q
  have o1 := (AO_A (f := f) ho).1
  have o2 := (AO_A (f := f) ho).2.1
  have o3 := (AO_A (f := f) ho).2.2
  have v5 : hV (hA h f) 77 5 = vI 0 := by rw [hA_V (by decide), h5]
  refine xpk_sound (stops := []) (n := 12) ?_
  simp only [sk_0, sk_1, sk_2, sk_3, sk_4, sk_5, sk_6, sk_7, sk_8, sk_iadd, sk_isub, sk_imul, sk_iand, sk_ior, sk_ixor, sk_ishl, sk_ishr, sk_iushr, sk_idiv, sk_irem, sk_ineg, sk_ladd, sk_lsub, sk_lmul, sk_land, sk_lor, sk_ldiv, sk_lrem, sk_lneg, sk_lshl, sk_lshr, sk_i2l, sk_l2i, sk_lcmp, sk_dupI, sk_dupR, sk_dup2L, sk_dup2I, sk_popI, sk_ifeq, sk_ifne, sk_iflt, sk_ifge, sk_ifgt, sk_ifle, sk_iceq, sk_icne, sk_iclt, sk_icge, sk_icgt, sk_icle, sk_goto, sk_getf, sk_putf, sk_gets, sk_iald, sk_lald, sk_bald, sk_aald, sk_iast, sk_last, sk_bast, sk_aast, sk_alen, sk_newa, sk_newt, sk_new, sk_cs1, sk_cs2, sk_cs3, sk_cs4, sk_cs5, sk_cs6, sk_cv1, sk_cv2, sk_cv3, sk_cv4, sk_cv5, sk_cv6, sk_ci1, sk_ci2, sk_ci3, sk_ret0, sk_retI, sk_retL, sk_retR, sk_sw, sk_oin, sk_max, sk_min, sk_abs, lI_0, lI_s, lL_0, lL_s, lR_0, lR_s, vIo_e, vLo_e, vOo_e, stW_I, stW_L, stW_R, stW_0, stW_z, okSt_0, okSt_s, hV_eq, hK_eq, okF_0, okF_1, okF_3, is01_0, is01_1, is01_i, Int.toNat_natCast, Int.reduceEq, Int.reduceLE, Int.reduceLT, Int.reduceNeg, Nat.reduceLT, not_true_eq_false, not_false_eq_true, reduceIte, Option.toList, List.cons_append, List.nil_append, List.set_cons_zero, List.set_cons_succ, List.not_mem_nil, List.mem_cons, if_false, if_true, ite_true, ite_false, and_self, and_true, true_and, Nat.reduceAdd, Nat.reduceLeDiff, Nat.reduceEqDiff, Nat.zero_add, Nat.le_refl, Nat.zero_le, or_false, false_or, Int.reduceToNat, or_true, true_or, eq_self, and_false, false_and, inR_d, nc_4, nc_5, nc_6, nc_7, nc_8, nc_16, nc_18, nc_20, nc_24, nc_32, nc_40, nc_64, nc_104, nc_120, nc_160, nc_256, nc_300, nc_330, nc_390, nc_1200, nc_1260, nc_3012, nc_9834, okSt_1i, okSt_1r, okSt_1n, xpk_succ cd_255_0, xpk_succ cd_255_1, xpk_succ cd_255_4, xpk_succ cd_255_5, xpk_succ cd_255_6, xpk_succ cd_255_9, xpk_succ cd_255_10, o1, o2, o3, v5]
  exact hQ
def fitU (es : List (Bool × Int × Int)) (j : Nat) (q' : Bool × Int × Int) : Bool := match es[j]? with
  | some q => leQQ q q'
  | none => false
theorem fitU_s {es : List (Bool × Int × Int)} {q q' : Bool × Int × Int} {j : Nat} {v : AV} (h : fitU es j q' = true) (hj : es[j]? = some q) (hv : inRg q v) : inRg q' v := by
  unfold fitU at h
  rw [hj] at h
  exact leQQ_s h hv
theorem st_u : ∀ r, r ∈ jrA → r.1 = 84 → (∀ k, k < 10 → k ≠ 4 → fitU r.2.2.2 ((6 + k) % 13) (rg0 jp77[8 + k]?) = true) ∧ fitU r.2.2.2 1 (false, 0, 9999) = true ∧ fitU r.2.2.2 3 (rg0 jp77[2]?) = true ∧ fitU r.2.2.2 4 (rg0 jp77[7]?) = true := by decide +kernel
theorem bt_r : ∀ r, r ∈ jrA → (r.1 ≤ 67 → 25 < r.2.1 → ∀ q, q ∈ r.2.2.2 → leQQ (false, 0, 1) q = true) := by decide +kernel
theorem st_v {h : AH} (hJ : k_H JB h) {i : Nat} (h1 : 84 ≤ i) (h2 : i < 474) : ∃ r q, r ∈ jrA ∧ r.1 = 84 ∧ r.2.2.2[i % 13]? = some q ∧ inRg q (vI (aF h i)) := by
  have h3 := List.all_eq_true.mp cov_ck i (List.mem_range'_1.mpr ⟨by omega, by omega⟩)
  unfold isIr at h3
  split at h3
  · rename_i q hq
    obtain ⟨r, r1, r2, r3, r4⟩ := covR_s hq
    obtain ⟨e1, e2, e3⟩ := st_r r r1 (by omega) (by omega)
    have := aF_r hJ r1 r2 r3 r4
    rw [e3] at r4
    exact ⟨r, q, r1, e1, r4, this⟩
  · cases h3
theorem und_JB {β : Nat} {h : AH} {f' : Nat → Int} {s n0 : Nat} (hJ : k_H JB h) (hW : W0 β h) (hs : s < 30) (h5 : aF h 5 = ((s + 1 : Nat) : Int)) (hn : n0 ≤ 8) (hU : UND (aF h) f' s n0) : k_H JB (hA h f') ∧ (0 ≤ f' 16 ∧ f' 16 ≤ 9999) := by
  obtain ⟨u1, u2, u3, u4, u5, u6⟩ := hU
  have hv := aF_v hJ
  refine ⟨hA_JB hJ (fun i hi => ?_) (fun r i q hr i1 i2 hq => ?_), ?_⟩
  · by_cases z5 : i = 5
    · subst z5; rw [u1, jp_0.2.1]; exact inI_of (by omega) (by omega)
    by_cases z2 : i = 2
    · subst z2
      obtain ⟨r, q, r1, r2, r3, r4⟩ := st_v hJ (i := 84 + 13 * s + 10) (by omega) (by omega)
      rw [u3]
      rw [show (84 + 13 * s + 10) % 13 = 3 by omega] at r3
      exact fitU_s (st_u r r1 r2).2.2.1 r3 r4
    by_cases z7 : i = 7
    · subst z7
      obtain ⟨r, q, r1, r2, r3, r4⟩ := st_v hJ (i := 84 + 13 * s + 11) (by omega) (by omega)
      rw [u4]
      rw [show (84 + 13 * s + 11) % 13 = 4 by omega] at r3
      exact fitU_s (st_u r r1 r2).2.2.2 r3 r4
    by_cases z8 : i < 8 ∨ 18 ≤ i
    · rw [u6 i z5 z2 z7 z8 (fun o _ => by omega)]; exact aF_p hJ hi
    · obtain ⟨k, rfl⟩ : ∃ k, i = 8 + k := ⟨i - 8, by omega⟩
      rw [u2 k (by omega)]
      by_cases z4 : k = 4
      · subst z4
        have := hW.1.1.1 s hs ⟨_, hv 5 (by decide), by rw [h5]; omega⟩
        rw [hv _ (by omega)] at this
        obtain ⟨x, x1, x2, x3⟩ := this
        have x1 := Sum.inl.inj (show (Sum.inl (aF h (84 + 13 * s + 4)) : AV) = Sum.inl x from x1)
        rw [show 8 + 4 = 12 from rfl, jp_0.2.2.2, x1]
        exact inI_of x2 x3
      · obtain ⟨r, q, r1, r2, r3, r4⟩ := st_v hJ (i := 84 + 13 * s + k) (by omega) (by omega)
        rw [show (84 + 13 * s + k) % 13 = (6 + k) % 13 by omega] at r3
        exact fitU_s ((st_u r r1 r2).1 k (by omega) z4) r3 r4
  · have hb := jrA_b r hr
    by_cases z : ∃ o, o < n0 ∧ i = 25 + 6 * o
    · obtain ⟨o, o1, rfl⟩ := z
      obtain ⟨y1, y2⟩ := u5 o o1
      exact leQQ_s (bt_r r hr (by omega) (by omega) q (List.mem_of_getElem? hq)) (inI_of y1 y2)
    · rw [u6 i (by omega) (by omega) (by omega) (by omega) (fun o o1 y => z ⟨o, o1, y⟩)]
      exact aF_r hJ hr i1 i2 hq
  · have e : f' 16 = aF h (84 + 13 * s + 8) := u2 8 (by decide)
    obtain ⟨r, q, r1, r2, r3, r4⟩ := st_v hJ (i := 84 + 13 * s + 8) (by omega) (by omega)
    rw [show (84 + 13 * s + 8) % 13 = 1 by omega] at r3
    rw [e]
    exact inI (fitU_s (st_u r r1 r2).2.1 r3 r4)
theorem und_W {β : Nat} {h : AH} {f' : Nat → Int} {s n0 : Nat} (hJ : k_H JB h) (hW : W0 β h) (hs : s < 30) (h5 : aF h 5 = ((s + 1 : Nat) : Int)) (hn : n0 ≤ 8) (hU : UND (aF h) f' s n0) : W0 β (hA h f') := by
  obtain ⟨u1, u2, u3, u4, u5, u6⟩ := hU
  obtain ⟨⟨⟨w1, w2⟩, w3, w4⟩, w5⟩ := hW
  have hv := aF_v hJ
  have n78 : ∀ i, hV (hA h f') 78 i = hV h 78 i := fun i => hA_n (by decide)
  have row : ∀ i, 84 ≤ i → i < 474 → hV (hA h f') 77 i = hV h 77 i := fun i h1 h2 => by
    rw [hA_V (by omega), u6 i (by omega) (by omega) (by omega) (by omega) (fun o _ => by omega), hv i (by omega)]
  have ct : (fun i => if i ≤ 3012 then hV (hA h f') 79 i else vN) = (fun i => if i ≤ 3012 then hV h 79 i else vN) := by
    funext i; rw [hA_n (by decide)]
  refine ⟨⟨⟨fun r hr hs' => ?_, fun r hr hs' => ?_⟩, ⟨?_, fun r hr => ?_⟩, ⟨?_, fun r hr => ?_⟩⟩, by rw [ct]; exact w5⟩
  · rw [hA_V (by decide), u1] at hs'
    obtain ⟨y, hy, hs'⟩ := hs'
    have hy := Sum.inl.inj (show (Sum.inl (s : Int) : AV) = Sum.inl y from hy)
    rw [row _ (by omega) (by omega)]
    exact w1 r hr ⟨_, hv 5 (by decide), by rw [h5]; omega⟩
  · rw [n78] at hs' ⊢; exact w2 r hr hs'
  · rw [hA_V (by decide), u4, ← hv _ (by omega)]; exact w3.2 s hs
  · rw [row _ (by omega) (by omega)]; exact w3.2 r hr
  · rw [n78]; exact w4.1
  · rw [n78]; exact w4.2 r hr
theorem hok255_0 {β : Nat} : KOK JB (W0 β) 255 hk255_0 := by
  intro d vs h Q hd ha hJ hW hp hQ
  obtain ⟨v1, t1, rfl, e1, e2⟩ := ha
  have e1 : v1 = vR 76 := e1
  have e2 : t1 = [] := e2
  subst e1 e2
  obtain ⟨d, rfl⟩ : ∃ d', d = d' + 1 := ⟨d - 1, by have hd : 4 ≤ d := hd; omega⟩
  have hv := aF_v hJ
  have p0 := aF_p hJ (i := 0) (by decide)
  rw [jp_0.1] at p0
  have p0 := inI p0
  have p5 := aF_p hJ (i := 5) (by decide)
  rw [jp_0.2.1] at p5
  have p5 := inI p5
  by_cases z : aF h 5 = 0
  · have key := X_undo0 d h (aF h) (AO_J hJ) z Q (by
      rw [hA_0 hv]
      exact hQ _ h ⟨_, rfl, inI_of (by decide) (by decide)⟩ hJ hp (fun q hq => by cases hq) (n_F_r hW))
    rw [hA_0 hv] at key
    exact key
  · have h5 : aF h 5 = (((aF h 5).toNat - 1 + 1 : Nat) : Int) := by omega
    have key := X_undo d h (aF h) ((aF h 5).toNat - 1) (aF h 0).toNat (AO_J hJ) h5 (by omega) (by omega) (by omega) Q (fun f' hU => by
      have hs : (aF h 5).toNat - 1 < 30 := by omega
      obtain ⟨j1, j2⟩ := und_JB hJ hW hs h5 (by omega) hU
      refine hQ _ _ ⟨_, rfl, inI_of (by omega) (by omega)⟩ j1 (fun f hf => ?_) (fun q hq => by cases hq) ⟨⟨rfl, und_W hJ hW hs h5 (by omega) hU⟩, fun k i hn => ?_⟩
      · rcases List.mem_cons.mp hf with rfl | hf
        · show inRg (false, 0, 9999) (hV (hA h f') 77 16)
          rw [hA_V (by decide)]
          exact inI_of j2.1 j2.2
        · cases hf
      · by_cases y : k = 77
        · subst y
          by_cases y2 : i < 9834
          · have q1 : i ≠ 2 := fun q => hn ⟨(77, 2, 2), List.mem_cons_self, rfl, by show 2 ≤ i; omega, by show i ≤ 2; omega⟩
            have q2 : i ≠ 5 := fun q => hn ⟨(77, 5, 5), List.mem_cons_of_mem _ List.mem_cons_self, rfl, by show 5 ≤ i; omega, by show i ≤ 5; omega⟩
            have q3 : ¬ (7 ≤ i ∧ i ≤ 17) := fun q => hn ⟨(77, 7, 17), List.mem_cons_of_mem _ (List.mem_cons_of_mem _ List.mem_cons_self), rfl, q.1, q.2⟩
            have q4 : ¬ (20 ≤ i ∧ i ≤ 67) := fun q => hn ⟨(77, 20, 67), List.mem_cons_of_mem _ (List.mem_cons_of_mem _ (List.mem_cons_of_mem _ List.mem_cons_self)), rfl, q.1, q.2⟩
            rw [hA_V y2, hU.2.2.2.2.2 i q2 q1 (by omega) (by omega) (fun o ho => by omega), hv i y2]
          · exact hA_b (by omega)
        · exact hA_n y)
    rw [hA_0 hv] at key
    exact key
