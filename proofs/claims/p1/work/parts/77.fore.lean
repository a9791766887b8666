theorem X_isBarred0 (d : Nat) (h : AH) (g : Nat → Int) (ic : Int) (hm : MO h g ic) (hz : ZG g) (Q : Option AV → AH → Prop) : XC (d + 1) 297 [vR 76] h Q = Q (some (vI 0)) h := by
  obtain ⟨m1, m2, m3, m4, m5, m6, m7⟩ := hm
  have u18 := m7 18 (by decide)
  rw [hz.2.1.2.2.2.2] at u18
  refine XC_eq (Nat.le_of_ble_eq_true rfl) (xpk_sound (stops := []) (n := 12) ?_) Q
  show xpk [] 12 d 297 0 [some (vR 76), none, none] [] h _
  simp only [sk_0, sk_1, sk_2, sk_3, sk_4, sk_5, sk_6, sk_7, sk_8, sk_iadd, sk_isub, sk_imul, sk_iand, sk_ior, sk_ixor, sk_ishl, sk_ishr, sk_iushr, sk_idiv, sk_irem, sk_ineg, sk_ladd, sk_lsub, sk_lmul, sk_land, sk_lor, sk_ldiv, sk_lrem, sk_lneg, sk_lshl, sk_lshr, sk_i2l, sk_l2i, sk_lcmp, sk_dupI, sk_dupR, sk_dup2L, sk_dup2I, sk_popI, sk_ifeq, sk_ifne, sk_iflt, sk_ifge, sk_ifgt, sk_ifle, sk_iceq, sk_icne, sk_iclt, sk_icge, sk_icgt, sk_icle, sk_goto, sk_getf, sk_putf, sk_gets, sk_iald, sk_lald, sk_bald, sk_aald, sk_iast, sk_last, sk_bast, sk_aast, sk_alen, sk_newa, sk_newt, sk_new, sk_cs1, sk_cs2, sk_cs3, sk_cs4, sk_cs5, sk_cs6, sk_cv1, sk_cv2, sk_cv3, sk_cv4, sk_cv5, sk_cv6, sk_ci1, sk_ci2, sk_ci3, sk_ret0, sk_retI, sk_retL, sk_retR, sk_sw, sk_oin, sk_max, sk_min, sk_abs, lI_0, lI_s, lL_0, lL_s, lR_0, lR_s, vIo_e, vLo_e, vOo_e, stW_I, stW_L, stW_R, stW_0, stW_z, okSt_0, okSt_s, hV_eq, hK_eq, okF_0, okF_1, okF_3, is01_0, is01_1, is01_i, Int.toNat_natCast, Int.reduceEq, Int.reduceLE, Int.reduceLT, Int.reduceNeg, Nat.reduceLT, not_true_eq_false, not_false_eq_true, reduceIte, Option.toList, List.cons_append, List.nil_append, List.set_cons_zero, List.set_cons_succ, List.not_mem_nil, List.mem_cons, if_false, if_true, ite_true, ite_false, and_self, and_true, true_and, Nat.reduceAdd, Nat.reduceLeDiff, Nat.reduceEqDiff, Nat.zero_add, Nat.le_refl, Nat.zero_le, or_false, false_or, Int.reduceToNat, or_true, true_or, eq_self, and_false, false_and, inR_d, nc_4, nc_5, nc_6, nc_7, nc_8, nc_16, nc_18, nc_20, nc_24, nc_32, nc_40, nc_64, nc_104, nc_120, nc_160, nc_256, nc_300, nc_330, nc_390, nc_1200, nc_1260, nc_3012, nc_9834, okSt_1i, okSt_1r, okSt_1n, xpk_succ cd_297_0, xpk_succ cd_297_1, xpk_succ cd_297_2, xpk_succ cd_297_3, xpk_succ cd_297_4, xpk_succ cd_297_7, xpk_succ cd_297_9, xpk_succ cd_297_10, xpk_succ cd_297_13, xpk_succ cd_297_16, xpk_succ cd_297_17, xpk_succ cd_297_18, xpk_succ cd_297_19, xpk_succ cd_297_20, xpk_succ cd_297_21, xpk_succ cd_297_22, xpk_succ cd_297_25, xpk_succ cd_297_27, xpk_succ cd_297_28, xpk_succ cd_297_29, xpk_succ cd_297_32, xpk_succ cd_297_33, xpk_succ cd_297_34, xpk_succ cd_297_35, xpk_succ cd_297_38, xpk_succ cd_297_39, xpk_succ cd_297_40, xpk_succ cd_297_41, xpk_succ cd_297_42, xpk_succ cd_297_45, xpk_succ cd_297_48, xpk_succ cd_297_49, xpk_succ cd_297_52, xpk_succ cd_297_54, xpk_succ cd_297_55, xpk_succ cd_297_56, xpk_succ cd_297_59, xpk_succ cd_297_60, xpk_succ cd_297_61, xpk_succ cd_297_62, xpk_succ cd_297_63, xpk_succ cd_297_64, xpk_succ cd_297_67, xpk_succ cd_297_68, xpk_succ cd_297_69, xpk_succ cd_297_70, xpk_succ cd_297_71, xpk_succ cd_297_74, xpk_succ cd_297_77, xpk_succ cd_297_78, xpk_succ cd_297_79, xpk_succ cd_297_82, xpk_succ cd_297_85, xpk_succ cd_297_86, m1, m2, m5, u18, Int.le_refl]
set_option maxHeartbeats 4000000 in
theorem bm_loop (n run : Int) (hn2 : n ≤ 200) (hrun : run = 0 ∨ run = 1) (as : Nat → Int) (Q : Option AV → AH → Prop) : ∀ (j k : Nat) (h : AH) (g : Nat → Int), ((k + j : Nat) : Int) = n + 1 → MO h g 0 → ZG g → g 16 + j ≤ 1000 → PB h as → (∀ h', SAM h h' → Q (some (vI (-1))) h') → XP 999 298 22 [some (vR 76), some (vI n), some (vI run), some (vI (-1)), some (vI (k : Int))] [] h Q := by
  intro j
  induction j with
  | zero =>
    intro k h g hk hm hz h9 hp hQ
    have hc : n < (k : Int) := by omega
    obtain ⟨h', hs, ep⟩ := X_putBack 998 h as hp
    have hq := hQ h' hs
    have m1 := hm.1
    refine xpk_sound (stops := []) (n := 20) ?_
    simp only [sk_0, sk_1, sk_2, sk_3, sk_4, sk_5, sk_6, sk_7, sk_8, sk_iadd, sk_isub, sk_imul, sk_iand, sk_ior, sk_ixor, sk_ishl, sk_ishr, sk_iushr, sk_idiv, sk_irem, sk_ineg, sk_ladd, sk_lsub, sk_lmul, sk_land, sk_lor, sk_ldiv, sk_lrem, sk_lneg, sk_lshl, sk_lshr, sk_i2l, sk_l2i, sk_lcmp, sk_dupI, sk_dupR, sk_dup2L, sk_dup2I, sk_popI, sk_ifeq, sk_ifne, sk_iflt, sk_ifge, sk_ifgt, sk_ifle, sk_iceq, sk_icne, sk_iclt, sk_icge, sk_icgt, sk_icle, sk_goto, sk_getf, sk_putf, sk_gets, sk_iald, sk_lald, sk_bald, sk_aald, sk_iast, sk_last, sk_bast, sk_aast, sk_alen, sk_newa, sk_newt, sk_new, sk_cs1, sk_cs2, sk_cs3, sk_cs4, sk_cs5, sk_cs6, sk_cv1, sk_cv2, sk_cv3, sk_cv4, sk_cv5, sk_cv6, sk_ci1, sk_ci2, sk_ci3, sk_ret0, sk_retI, sk_retL, sk_retR, sk_sw, sk_oin, sk_max, sk_min, sk_abs, lI_0, lI_s, lL_0, lL_s, lR_0, lR_s, vIo_e, vLo_e, vOo_e, stW_I, stW_L, stW_R, stW_0, stW_z, okSt_0, okSt_s, hV_eq, hK_eq, okF_0, okF_1, okF_3, is01_0, is01_1, is01_i, Int.toNat_natCast, Int.reduceEq, Int.reduceLE, Int.reduceLT, Int.reduceNeg, Nat.reduceLT, not_true_eq_false, not_false_eq_true, reduceIte, Option.toList, List.cons_append, List.nil_append, List.set_cons_zero, List.set_cons_succ, List.not_mem_nil, List.mem_cons, if_false, if_true, ite_true, ite_false, and_self, and_true, true_and, Nat.reduceAdd, Nat.reduceLeDiff, Nat.reduceEqDiff, Nat.zero_add, Nat.le_refl, Nat.zero_le, or_false, false_or, Int.reduceToNat, or_true, true_or, eq_self, and_false, false_and, inR_d, nc_4, nc_5, nc_6, nc_7, nc_8, nc_16, nc_18, nc_20, nc_24, nc_32, nc_40, nc_64, nc_104, nc_120, nc_160, nc_256, nc_300, nc_330, nc_390, nc_1200, nc_1260, nc_3012, nc_9834, okSt_1i, okSt_1r, okSt_1n, xpk_succ cd_298_0, xpk_succ cd_298_1, xpk_succ cd_298_2, xpk_succ cd_298_5, xpk_succ cd_298_8, xpk_succ cd_298_11, xpk_succ cd_298_12, xpk_succ cd_298_13, xpk_succ cd_298_14, xpk_succ cd_298_17, xpk_succ cd_298_18, xpk_succ cd_298_19, xpk_succ cd_298_20, xpk_succ cd_298_22, xpk_succ cd_298_24, xpk_succ cd_298_25, xpk_succ cd_298_28, xpk_succ cd_298_29, xpk_succ cd_298_30, xpk_succ cd_298_33, xpk_succ cd_298_34, xpk_succ cd_298_35, xpk_succ cd_298_38, xpk_succ cd_298_39, xpk_succ cd_298_40, xpk_succ cd_298_43, xpk_succ cd_298_44, xpk_succ cd_298_45, xpk_succ cd_298_48, xpk_succ cd_298_51, xpk_succ cd_298_52, xpk_succ cd_298_55, xpk_succ cd_298_56, xpk_succ cd_298_59, xpk_succ cd_298_62, xpk_succ cd_298_64, xpk_succ cd_298_65, xpk_succ cd_298_68, xpk_succ cd_298_71, xpk_succ cd_298_72, xpk_succ cd_298_75, xpk_succ cd_298_76, hc, m1, ep]
    exact hq
  | succ j ih =>
    intro k h g hk hm hz h9 hp hQ
    have hc : ¬ n < (k : Int) := by omega
    have hk1 : w32 ((k : Int) + 1) = ((k + 1 : Nat) : Int) := by unfold w32; omega
    have hkj : ((k + 1 + j : Nat) : Int) = n + 1 := by omega
    have m1 := hm.1
    have m2 := hm.2.1
    have m5 := hm.2.2.2.2.1
    have u4 := hm.2.2.2.2.2.2 4 (by decide)
    rw [hz.2.1.2.2.1] at u4
    obtain ⟨Z1, z16⟩ := ZG_step hz (by omega)
    have hz9 : passM 0 g 0 16 + (j : Int) ≤ 1000 := by rw [z16]; omega
    rcases hrun with rfl | rfl
    · obtain ⟨h2, ⟨M2, F2⟩, e2⟩ := X_pass0 996 h g hm hz
      have e3 := X_isBarred0 998 h2 _ 0 M2 Z1
      have k2 := M2.1
      have P2 := PB_fm hp F2
      have hq := ih (k + 1) h2 _ hkj M2 Z1 hz9 P2 (fun h' b => hQ h' ⟨b.1.trans F2.1, b.2.1.trans F2.2.1, b.2.2.trans F2.2.2.1⟩)
      refine xpk_sound (stops := [22]) (n := 60) ?_
      simp only [sk_0, sk_1, sk_2, sk_3, sk_4, sk_5, sk_6, sk_7, sk_8, sk_iadd, sk_isub, sk_imul, sk_iand, sk_ior, sk_ixor, sk_ishl, sk_ishr, sk_iushr, sk_idiv, sk_irem, sk_ineg, sk_ladd, sk_lsub, sk_lmul, sk_land, sk_lor, sk_ldiv, sk_lrem, sk_lneg, sk_lshl, sk_lshr, sk_i2l, sk_l2i, sk_lcmp, sk_dupI, sk_dupR, sk_dup2L, sk_dup2I, sk_popI, sk_ifeq, sk_ifne, sk_iflt, sk_ifge, sk_ifgt, sk_ifle, sk_iceq, sk_icne, sk_iclt, sk_icge, sk_icgt, sk_icle, sk_goto, sk_getf, sk_putf, sk_gets, sk_iald, sk_lald, sk_bald, sk_aald, sk_iast, sk_last, sk_bast, sk_aast, sk_alen, sk_newa, sk_newt, sk_new, sk_cs1, sk_cs2, sk_cs3, sk_cs4, sk_cs5, sk_cs6, sk_cv1, sk_cv2, sk_cv3, sk_cv4, sk_cv5, sk_cv6, sk_ci1, sk_ci2, sk_ci3, sk_ret0, sk_retI, sk_retL, sk_retR, sk_sw, sk_oin, sk_max, sk_min, sk_abs, lI_0, lI_s, lL_0, lL_s, lR_0, lR_s, vIo_e, vLo_e, vOo_e, stW_I, stW_L, stW_R, stW_0, stW_z, okSt_0, okSt_s, hV_eq, hK_eq, okF_0, okF_1, okF_3, is01_0, is01_1, is01_i, Int.toNat_natCast, Int.reduceEq, Int.reduceLE, Int.reduceLT, Int.reduceNeg, Nat.reduceLT, not_true_eq_false, not_false_eq_true, reduceIte, Option.toList, List.cons_append, List.nil_append, List.set_cons_zero, List.set_cons_succ, List.not_mem_nil, List.mem_cons, if_false, if_true, ite_true, ite_false, and_self, and_true, true_and, Nat.reduceAdd, Nat.reduceLeDiff, Nat.reduceEqDiff, Nat.zero_add, Nat.le_refl, Nat.zero_le, or_false, false_or, Int.reduceToNat, or_true, true_or, eq_self, and_false, false_and, inR_d, nc_4, nc_5, nc_6, nc_7, nc_8, nc_16, nc_18, nc_20, nc_24, nc_32, nc_40, nc_64, nc_104, nc_120, nc_160, nc_256, nc_300, nc_330, nc_390, nc_1200, nc_1260, nc_3012, nc_9834, okSt_1i, okSt_1r, okSt_1n, xpk_succ cd_298_0, xpk_succ cd_298_1, xpk_succ cd_298_2, xpk_succ cd_298_5, xpk_succ cd_298_8, xpk_succ cd_298_11, xpk_succ cd_298_12, xpk_succ cd_298_13, xpk_succ cd_298_14, xpk_succ cd_298_17, xpk_succ cd_298_18, xpk_succ cd_298_19, xpk_succ cd_298_20, xpk_succ cd_298_22, xpk_succ cd_298_24, xpk_succ cd_298_25, xpk_succ cd_298_28, xpk_succ cd_298_29, xpk_succ cd_298_30, xpk_succ cd_298_33, xpk_succ cd_298_34, xpk_succ cd_298_35, xpk_succ cd_298_38, xpk_succ cd_298_39, xpk_succ cd_298_40, xpk_succ cd_298_43, xpk_succ cd_298_44, xpk_succ cd_298_45, xpk_succ cd_298_48, xpk_succ cd_298_51, xpk_succ cd_298_52, xpk_succ cd_298_55, xpk_succ cd_298_56, xpk_succ cd_298_59, xpk_succ cd_298_62, xpk_succ cd_298_64, xpk_succ cd_298_65, xpk_succ cd_298_68, xpk_succ cd_298_71, xpk_succ cd_298_72, xpk_succ cd_298_75, xpk_succ cd_298_76, hc, m1, e2, e3, k2, hk1]
      exact hq
    · obtain ⟨h1', ⟨M1, F1⟩, e1⟩ := X_cmdNow0 996 h g 0 hm hz
      obtain ⟨h2, ⟨M2, F2'⟩, e2⟩ := X_pass0 996 h1' g M1 hz
      have F2 := FM_tr F1 F2'
      have e3 := X_isBarred0 998 h2 _ 0 M2 Z1
      have k1 := M1.1
      have k2 := M2.1
      have P2 := PB_fm hp F2
      have hq := ih (k + 1) h2 _ hkj M2 Z1 hz9 P2 (fun h' b => hQ h' ⟨b.1.trans F2.1, b.2.1.trans F2.2.1, b.2.2.trans F2.2.2.1⟩)
      refine xpk_sound (stops := [22]) (n := 60) ?_
      simp only [sk_0, sk_1, sk_2, sk_3, sk_4, sk_5, sk_6, sk_7, sk_8, sk_iadd, sk_isub, sk_imul, sk_iand, sk_ior, sk_ixor, sk_ishl, sk_ishr, sk_iushr, sk_idiv, sk_irem, sk_ineg, sk_ladd, sk_lsub, sk_lmul, sk_land, sk_lor, sk_ldiv, sk_lrem, sk_lneg, sk_lshl, sk_lshr, sk_i2l, sk_l2i, sk_lcmp, sk_dupI, sk_dupR, sk_dup2L, sk_dup2I, sk_popI, sk_ifeq, sk_ifne, sk_iflt, sk_ifge, sk_ifgt, sk_ifle, sk_iceq, sk_icne, sk_iclt, sk_icge, sk_icgt, sk_icle, sk_goto, sk_getf, sk_putf, sk_gets, sk_iald, sk_lald, sk_bald, sk_aald, sk_iast, sk_last, sk_bast, sk_aast, sk_alen, sk_newa, sk_newt, sk_new, sk_cs1, sk_cs2, sk_cs3, sk_cs4, sk_cs5, sk_cs6, sk_cv1, sk_cv2, sk_cv3, sk_cv4, sk_cv5, sk_cv6, sk_ci1, sk_ci2, sk_ci3, sk_ret0, sk_retI, sk_retL, sk_retR, sk_sw, sk_oin, sk_max, sk_min, sk_abs, lI_0, lI_s, lL_0, lL_s, lR_0, lR_s, vIo_e, vLo_e, vOo_e, stW_I, stW_L, stW_R, stW_0, stW_z, okSt_0, okSt_s, hV_eq, hK_eq, okF_0, okF_1, okF_3, is01_0, is01_1, is01_i, Int.toNat_natCast, Int.reduceEq, Int.reduceLE, Int.reduceLT, Int.reduceNeg, Nat.reduceLT, not_true_eq_false, not_false_eq_true, reduceIte, Option.toList, List.cons_append, List.nil_append, List.set_cons_zero, List.set_cons_succ, List.not_mem_nil, List.mem_cons, if_false, if_true, ite_true, ite_false, and_self, and_true, true_and, Nat.reduceAdd, Nat.reduceLeDiff, Nat.reduceEqDiff, Nat.zero_add, Nat.le_refl, Nat.zero_le, or_false, false_or, Int.reduceToNat, or_true, true_or, eq_self, and_false, false_and, inR_d, nc_4, nc_5, nc_6, nc_7, nc_8, nc_16, nc_18, nc_20, nc_24, nc_32, nc_40, nc_64, nc_104, nc_120, nc_160, nc_256, nc_300, nc_330, nc_390, nc_1200, nc_1260, nc_3012, nc_9834, okSt_1i, okSt_1r, okSt_1n, xpk_succ cd_298_0, xpk_succ cd_298_1, xpk_succ cd_298_2, xpk_succ cd_298_5, xpk_succ cd_298_8, xpk_succ cd_298_11, xpk_succ cd_298_12, xpk_succ cd_298_13, xpk_succ cd_298_14, xpk_succ cd_298_17, xpk_succ cd_298_18, xpk_succ cd_298_19, xpk_succ cd_298_20, xpk_succ cd_298_22, xpk_succ cd_298_24, xpk_succ cd_298_25, xpk_succ cd_298_28, xpk_succ cd_298_29, xpk_succ cd_298_30, xpk_succ cd_298_33, xpk_succ cd_298_34, xpk_succ cd_298_35, xpk_succ cd_298_38, xpk_succ cd_298_39, xpk_succ cd_298_40, xpk_succ cd_298_43, xpk_succ cd_298_44, xpk_succ cd_298_45, xpk_succ cd_298_48, xpk_succ cd_298_51, xpk_succ cd_298_52, xpk_succ cd_298_55, xpk_succ cd_298_56, xpk_succ cd_298_59, xpk_succ cd_298_62, xpk_succ cd_298_64, xpk_succ cd_298_65, xpk_succ cd_298_68, xpk_succ cd_298_71, xpk_succ cd_298_72, xpk_succ cd_298_75, xpk_succ cd_298_76, hc, m1, m2, m5, u4, e1, e2, e3, k1, k2, hk1]
      exact hq
def bBM : List (Option AC) := [some (10, 0, [xR 77, xR 78, xR 79, xR 80, xI 0, xI (-1), xI (-1), xI 0, xI 0, xI 0, xI 0, xL 0, xI 0, xI 0, xI 0, xR 81, xI 0, xI 0, xI 0, xI 0, xR 82, xI 0, xI 0, xR 83, xR 84, xI 0, xR 85, xI 0, xI 0, xR 86, xR 87, xR 88, xR 89, xR 90, xI 0, xR 91, xR 92], none),
  some (11, 9834, [xI 0, xI 2, xI 59, xI 0, xI (-1), xI 0, xI 0, xI 0, xI 0, xI 0, xI 0, xI 0, xI 5, xI 0, xI 0, xI 0, xI 0, xI (-1), xI 0], some xT),
  some (11, 9834, [xI 0, xI 2, xI 59, xI 0, xI (-1), xI 0, xI 0, xI 0, xI 0, xI 0, xI 0, xI 0, xI 5, xI 0, xI 0, xI 0, xI 0, xI (-1), xI 0], some xT),
  some (11, 3012, [], some xT),
  some (11, 300, [], some xT),
  some (11, 160, [], some xT),
  some (11, 8, [xI 0, xI 0, xI 0, xI 0, xI 0, xI 0, xI 0, xI 0], some xT),
  some (12, 330, [], none),
  some (13, 330, [], none),
  some (11, 18, [xI 0, xI 2, xI 59, xI 0, xI (-1), xI 0, xI 0, xI 0, xI 0, xI 0, xI 0, xI 0, xI 5, xI 0, xI 0, xI 0, xI 0, xI (-1)], some xT),
  some (11, 1200, [], some xT),
  some (11, 8, [], some xT),
  some (11, 8, [], some xT),
  some (11, 8, [], some xT),
  some (11, 8, [], some xT),
  some (11, 8, [], some xT),
  some (11, 8, [], some xT)]
def bBm : List (List (Option AC)) := [[], [], [], [], bBM]
def sg0 : Nat → Int := fun i => if i = 1 then 2 else if i = 2 then 59 else if i = 4 then -1 else if i = 12 then 5 else if i = 17 then -1 else 0
theorem ai_begin : achF nt0 1000000 1000000 nSt 997 271 0 (entG [xR 76] (repN (mL 271 - lenW [xR 76]))) [] (bc1, bx bxT) (cKs none bBm) = true := by decide +kernel
theorem ai_ruled2 : achF nt0 1000000 1000000 nSt 997 175 0 (entG [xR 0] (repN (mL 175 - lenW [xR 0]))) [] (bG0, bx bxT) (cKs (some (xR 58)) bG0) = true := by decide +kernel
theorem ai_startAs : achF nt0 1000000 1000000 nSt 997 21 0 (entG [xR 52, xR 2] (repN (mL 21 - lenW [xR 52, xR 2]))) [] (bG0, bx bxT) (cKs none bG0) = true := by decide +kernel
theorem X_begin {h : AH} (hb : ab_H (bc1, bx bxT) h) : ∃ h', ab_H (bBm, bx bxT) h' ∧ ∀ Q : Option AV → AH → Prop, XC 998 271 [vR 76] h Q = Q none h' :=
  XC_ex (ai_call nt0_s ai_begin (by decide) ⟨_, _, rfl, rfl, rfl⟩ hb (fun r b v h hk ho hb => by
    obtain ⟨rfl, hb'⟩ := cKs_s hk rfl rfl hb
    exact ⟨ho, hb'⟩))
theorem X_ruled2 {h : AH} (hb : ab_H (bG0, bx bxT) h) : ∃ h', ab_H (bG0, bx bxT) h' ∧ ∀ Q : Option AV → AH → Prop, XC 998 175 [vR 0] h Q = Q (some (vR 58)) h' :=
  XC_ex (ai_call nt0_s ai_ruled2 (by decide) ⟨_, _, rfl, rfl, rfl⟩ hb (fun r b v h hk ho hb => by
    obtain ⟨rfl, hb'⟩ := cKs_s hk rfl rfl hb
    obtain ⟨u, rfl, hu⟩ := ho
    have hu : u = vR 58 := hu
    rw [hu]
    exact ⟨rfl, hb'⟩))
theorem X_startAs {h : AH} (hb : ab_H (bG0, bx bxT) h) : ∃ h', ab_H (bG0, bx bxT) h' ∧ ∀ Q : Option AV → AH → Prop, XC 998 21 [vR 52, vR 2] h Q = Q none h' :=
  XC_ex (ai_call nt0_s ai_startAs (by decide) ⟨_, _, rfl, rfl, _, _, rfl, rfl, rfl⟩ hb (fun r b v h hk ho hb => by
    obtain ⟨rfl, hb'⟩ := cKs_s hk rfl rfl hb
    exact ⟨ho, hb'⟩))
theorem cells_2 {h h' : AH} (hb : ab_H (bG0, bx bxT) h) (hf : FRM h h' 52 54) : ab_H (bc1, bx bxT) h' := by
  obtain ⟨f1, f2, f3, f4⟩ := hf
  refine ⟨by rw [f1]; exact hb.1, by rw [f2]; exact hb.2.1, fun k c hc => ?_⟩
  have hg : gC (bG0, bx bxT) k = some c := gC_1 rfl hc
  have hk : k ≠ 52 ∧ k ≠ 54 := by
    unfold gC at hc
    split at hc
    · have hc : (bc1.getD (k / 19) []).getD (k % 19) none = some c := hc
      refine ⟨fun z => ?_, fun z => ?_⟩
      · rw [z, show bc1.getD (52 / 19) [] = [] from rfl, nil_D] at hc; cases hc
      · rw [z, show bc1.getD (54 / 19) [] = [] from rfl, nil_D] at hc; cases hc
    · rename_i h6
      exact ⟨by omega, by omega⟩
  obtain ⟨q1, q2, q3⟩ := hb.2.2 k c hg
  exact ⟨by rw [f3]; exact q1, fun i w hw => by rw [f4 k hk.1 hk.2]; exact q2 i w hw, fun w hw i a b => by rw [f4 k hk.1 hk.2]; exact q3 w hw i a b⟩
theorem ZF_0 : ZF f0 := ⟨rfl, rfl, rfl, rfl, rfl, rfl, by decide⟩
theorem ZG_0 : ZG sg0 := ⟨⟨rfl, rfl, rfl, rfl⟩, ⟨rfl, rfl, rfl, rfl, rfl⟩, by decide, by decide, by decide⟩
theorem HO_T {h : AH} (hb : ab_H (bG0, bx bxT) h) : HO h 52 53 f0 := by
  refine ⟨(hasI_s (i := 0) (v := vR 53) hb (by decide +kernel)).1, (hasI_s (kd := 0) (len := 0) (v := vR 53) hb (by decide +kernel)).2, fun i h1 h2 => ?_⟩
  match i, h1, h2 with
  | 1, _, _ => exact (hasI_s (kd := 0) (len := 0) (v := vI (0)) hb (by decide +kernel)).2
  | 2, _, _ => exact (hasI_s (kd := 0) (len := 0) (v := vI (0)) hb (by decide +kernel)).2
  | 3, _, _ => exact (hasI_s (kd := 0) (len := 0) (v := vI (0)) hb (by decide +kernel)).2
  | 4, _, _ => exact (hasI_s (kd := 0) (len := 0) (v := vI (0)) hb (by decide +kernel)).2
  | 5, _, _ => exact (hasI_s (kd := 0) (len := 0) (v := vI (5)) hb (by decide +kernel)).2
  | 6, _, _ => exact (hasI_s (kd := 0) (len := 0) (v := vI (0)) hb (by decide +kernel)).2
  | 7, _, _ => exact (hasI_s (kd := 0) (len := 0) (v := vI (0)) hb (by decide +kernel)).2
  | 8, _, _ => exact (hasI_s (kd := 0) (len := 0) (v := vI (0)) hb (by decide +kernel)).2
  | 9, _, _ => exact (hasI_s (kd := 0) (len := 0) (v := vI (0)) hb (by decide +kernel)).2
  | 10, _, _ => exact (hasI_s (kd := 0) (len := 0) (v := vI (59)) hb (by decide +kernel)).2
  | 11, _, _ => exact (hasI_s (kd := 0) (len := 0) (v := vI (-1)) hb (by decide +kernel)).2
  | 12, _, _ => exact (hasI_s (kd := 0) (len := 0) (v := vI (0)) hb (by decide +kernel)).2
  | 13, _, _ => exact (hasI_s (kd := 0) (len := 0) (v := vI (0)) hb (by decide +kernel)).2
  | 14, _, _ => exact (hasI_s (kd := 0) (len := 0) (v := vI (0)) hb (by decide +kernel)).2
  | n + 15, _, h2 => exact absurd h2 (by omega)
theorem WT_T {h : AH} (hb : ab_H (bG0, bx bxT) h) : WT h := by
  have a := hasI_s (k := 53) (kd := 1) (len := 0) (i := 0) (v := vR 54) hb (by decide +kernel)
  have b := hasI_s (k := 53) (kd := 1) (len := 0) (i := 1) (v := vI 32) hb (by decide +kernel)
  have c0 := hasI_s (k := 0) (kd := 9) (len := 0) (i := 0) (v := vR 1) hb (by decide +kernel)
  have c5 := hasI_s (k := 0) (kd := 9) (len := 0) (i := 5) (v := vR 52) hb (by decide +kernel)
  have d0 := hasI_s (k := 1) (kd := 8) (len := 0) (i := 0) (v := vR 2) hb (by decide +kernel)
  have d1 := hasI_s (k := 1) (kd := 8) (len := 0) (i := 1) (v := vI 2) hb (by decide +kernel)
  have d12 := hasI_s (k := 1) (kd := 8) (len := 0) (i := 12) (v := vI 0) hb (by decide +kernel)
  exact ⟨⟨okLaw_s hb (by decide +kernel), okSta_s hb (by decide +kernel), a.1, a.2, b.2, kdI_s hb (by decide +kernel)⟩, c0.1, c0.2, c5.2, d0.1, d0.2, d1.2, d12.2⟩
theorem MO_B {h : AH} (hb : ab_H (bBm, bx bxT) h) : MO h sg0 0 := by
  have m0 := hasI_s (k := 76) (kd := 10) (len := 0) (i := 0) (v := vR 77) hb (by decide +kernel)
  have m20 := hasI_s (k := 76) (kd := 10) (len := 0) (i := 20) (v := vR 82) hb (by decide +kernel)
  have m25 := hasI_s (k := 76) (kd := 10) (len := 0) (i := 25) (v := vI 0) hb (by decide +kernel)
  have a0 := hasI_s (k := 77) (kd := 11) (len := 9834) (i := 0) (v := vI 0) hb (by decide +kernel)
  have q0 := hasI_s (k := 82) (kd := 11) (len := 8) (i := 0) (v := vI 0) hb (by decide +kernel)
  refine ⟨m0.1, m0.2, m20.2, m25.2, a0.1, q0.1, fun i hi => ?_⟩
  match i, hi with
  | 0, _ => exact (hasI_s (kd := 11) (len := 9834) (v := vI (0)) hb (by decide +kernel)).2
  | 1, _ => exact (hasI_s (kd := 11) (len := 9834) (v := vI (2)) hb (by decide +kernel)).2
  | 2, _ => exact (hasI_s (kd := 11) (len := 9834) (v := vI (59)) hb (by decide +kernel)).2
  | 3, _ => exact (hasI_s (kd := 11) (len := 9834) (v := vI (0)) hb (by decide +kernel)).2
  | 4, _ => exact (hasI_s (kd := 11) (len := 9834) (v := vI (-1)) hb (by decide +kernel)).2
  | 5, _ => exact (hasI_s (kd := 11) (len := 9834) (v := vI (0)) hb (by decide +kernel)).2
  | 6, _ => exact (hasI_s (kd := 11) (len := 9834) (v := vI (0)) hb (by decide +kernel)).2
  | 7, _ => exact (hasI_s (kd := 11) (len := 9834) (v := vI (0)) hb (by decide +kernel)).2
  | 8, _ => exact (hasI_s (kd := 11) (len := 9834) (v := vI (0)) hb (by decide +kernel)).2
  | 9, _ => exact (hasI_s (kd := 11) (len := 9834) (v := vI (0)) hb (by decide +kernel)).2
  | 10, _ => exact (hasI_s (kd := 11) (len := 9834) (v := vI (0)) hb (by decide +kernel)).2
  | 11, _ => exact (hasI_s (kd := 11) (len := 9834) (v := vI (0)) hb (by decide +kernel)).2
  | 12, _ => exact (hasI_s (kd := 11) (len := 9834) (v := vI (5)) hb (by decide +kernel)).2
  | 13, _ => exact (hasI_s (kd := 11) (len := 9834) (v := vI (0)) hb (by decide +kernel)).2
  | 14, _ => exact (hasI_s (kd := 11) (len := 9834) (v := vI (0)) hb (by decide +kernel)).2
  | 15, _ => exact (hasI_s (kd := 11) (len := 9834) (v := vI (0)) hb (by decide +kernel)).2
  | 16, _ => exact (hasI_s (kd := 11) (len := 9834) (v := vI (0)) hb (by decide +kernel)).2
  | 17, _ => exact (hasI_s (kd := 11) (len := 9834) (v := vI (-1)) hb (by decide +kernel)).2
  | 18, _ => exact (hasI_s (kd := 11) (len := 9834) (v := vI (0)) hb (by decide +kernel)).2
  | n + 19, h2 => exact absurd h2 (by omega)
theorem PB_B {h : AH} (hb : ab_H (bBm, bx bxT) h) : PB h sg0 := by
  have m0 := hasI_s (k := 76) (kd := 10) (len := 0) (i := 0) (v := vR 77) hb (by decide +kernel)
  have m26 := hasI_s (k := 76) (kd := 10) (len := 0) (i := 26) (v := vR 85) hb (by decide +kernel)
  refine ⟨m0.1, m0.2, m26.2, kdI_s hb (by decide +kernel), kdI_s hb (by decide +kernel), fun i hi => ?_⟩
  match i, hi with
  | 0, _ => exact (hasI_s (kd := 11) (len := 18) (v := vI (0)) hb (by decide +kernel)).2
  | 1, _ => exact (hasI_s (kd := 11) (len := 18) (v := vI (2)) hb (by decide +kernel)).2
  | 2, _ => exact (hasI_s (kd := 11) (len := 18) (v := vI (59)) hb (by decide +kernel)).2
  | 3, _ => exact (hasI_s (kd := 11) (len := 18) (v := vI (0)) hb (by decide +kernel)).2
  | 4, _ => exact (hasI_s (kd := 11) (len := 18) (v := vI (-1)) hb (by decide +kernel)).2
  | 5, _ => exact (hasI_s (kd := 11) (len := 18) (v := vI (0)) hb (by decide +kernel)).2
  | 6, _ => exact (hasI_s (kd := 11) (len := 18) (v := vI (0)) hb (by decide +kernel)).2
  | 7, _ => exact (hasI_s (kd := 11) (len := 18) (v := vI (0)) hb (by decide +kernel)).2
  | 8, _ => exact (hasI_s (kd := 11) (len := 18) (v := vI (0)) hb (by decide +kernel)).2
  | 9, _ => exact (hasI_s (kd := 11) (len := 18) (v := vI (0)) hb (by decide +kernel)).2
  | 10, _ => exact (hasI_s (kd := 11) (len := 18) (v := vI (0)) hb (by decide +kernel)).2
  | 11, _ => exact (hasI_s (kd := 11) (len := 18) (v := vI (0)) hb (by decide +kernel)).2
  | 12, _ => exact (hasI_s (kd := 11) (len := 18) (v := vI (5)) hb (by decide +kernel)).2
  | 13, _ => exact (hasI_s (kd := 11) (len := 18) (v := vI (0)) hb (by decide +kernel)).2
  | 14, _ => exact (hasI_s (kd := 11) (len := 18) (v := vI (0)) hb (by decide +kernel)).2
  | 15, _ => exact (hasI_s (kd := 11) (len := 18) (v := vI (0)) hb (by decide +kernel)).2
  | 16, _ => exact (hasI_s (kd := 11) (len := 18) (v := vI (0)) hb (by decide +kernel)).2
  | 17, _ => exact (hasI_s (kd := 11) (len := 18) (v := vI (-1)) hb (by decide +kernel)).2
  | n + 18, h2 => exact absurd h2 (by omega)
set_option maxHeartbeats 4000000 in
theorem X_foC {h : AH} {n run what : Int} (hb0 : ab_H (bc0, bx bxT) h) (n1 : 1 ≤ n) (n2 : n ≤ 200) (hrun : run = 0 ∨ run = 1) (hwh : what = 0 ∨ what = 1 ∨ what = 2 ∨ what = 3) : ∃ h', ab_H (bc1, bx bxT) h' ∧ ∀ Q : Option AV → AH → Prop, XC 1000 142 [vR 0, vI n, vI run, vI what] h Q = Q (some (vI (if what = 3 then 1 else 0))) h' := by
  have hb := bG0_s hb0
  have k0 := kdI_s (k := 0) (kd := 9) (len := 0) hb (by decide +kernel)
  obtain ⟨h1, hb1, e1⟩ := X_ruled2 hb
  have e1 := XC_999 e1
  have c0 := hasI_s (k := 0) (kd := 9) (len := 0) (i := 0) (v := vR 1) hb1 (by decide +kernel)
  have c5 := hasI_s (k := 0) (kd := 9) (len := 0) (i := 5) (v := vR 52) hb1 (by decide +kernel)
  have c1 := hasI_s (k := 1) (kd := 8) (len := 0) (i := 0) (v := vR 2) hb1 (by decide +kernel)
  have k52 := kdI_s (k := 52) (kd := 0) (len := 0) hb1 (by decide +kernel)
  obtain ⟨h2, hb2, e2⟩ := X_startAs hb1
  have e2 := XC_999 e2
  refine XC_ex (d := 999) (XC_of (Nat.le_of_ble_eq_true rfl) ?_)
  have hloop := fo_loop n run what n1 n2 hrun hwh (fun r h' => r = some (vI (if what = 3 then 1 else 0)) ∧ ab_H (bc1, bx bxT) h') n.toNat 1 (-1) h2 f0 (by omega) (by omega) (Or.inl ⟨rfl, rfl⟩) (HO_T hb2) ZF_0 (by show (0 : Int) + _ ≤ 1000; omega) (WT_T hb2) (fun h' b => ⟨rfl, cells_2 hb2 b⟩)
  have c00 := c0.1
  have c01 := c0.2
  have c51 := c5.2
  have c10 := c1.1
  have c11 := c1.2
  have q1 : 1 ≤ n ∧ n ≤ 200 := ⟨n1, n2⟩
  have q3 : 0 ≤ what ∧ what ≤ 3 := by omega
  refine xpk_sound (stops := [52]) (n := 50) ?_
  show xpk [52] 50 999 142 0 [some (vR 0), some (vI n), some (vI run), some (vI what), none, none, none, none] [] h _
  simp only [sk_0, sk_1, sk_2, sk_3, sk_4, sk_5, sk_6, sk_7, sk_8, sk_iadd, sk_isub, sk_imul, sk_iand, sk_ior, sk_ixor, sk_ishl, sk_ishr, sk_iushr, sk_idiv, sk_irem, sk_ineg, sk_ladd, sk_lsub, sk_lmul, sk_land, sk_lor, sk_ldiv, sk_lrem, sk_lneg, sk_lshl, sk_lshr, sk_i2l, sk_l2i, sk_lcmp, sk_dupI, sk_dupR, sk_dup2L, sk_dup2I, sk_popI, sk_ifeq, sk_ifne, sk_iflt, sk_ifge, sk_ifgt, sk_ifle, sk_iceq, sk_icne, sk_iclt, sk_icge, sk_icgt, sk_icle, sk_goto, sk_getf, sk_putf, sk_gets, sk_iald, sk_lald, sk_bald, sk_aald, sk_iast, sk_last, sk_bast, sk_aast, sk_alen, sk_newa, sk_newt, sk_new, sk_cs1, sk_cs2, sk_cs3, sk_cs4, sk_cs5, sk_cs6, sk_cv1, sk_cv2, sk_cv3, sk_cv4, sk_cv5, sk_cv6, sk_ci1, sk_ci2, sk_ci3, sk_ret0, sk_retI, sk_retL, sk_retR, sk_sw, sk_oin, sk_max, sk_min, sk_abs, lI_0, lI_s, lL_0, lL_s, lR_0, lR_s, vIo_e, vLo_e, vOo_e, stW_I, stW_L, stW_R, stW_0, stW_z, okSt_0, okSt_s, hV_eq, hK_eq, okF_0, okF_1, okF_3, is01_0, is01_1, is01_i, Int.toNat_natCast, Int.reduceEq, Int.reduceLE, Int.reduceLT, Int.reduceNeg, Nat.reduceLT, not_true_eq_false, not_false_eq_true, reduceIte, Option.toList, List.cons_append, List.nil_append, List.set_cons_zero, List.set_cons_succ, List.not_mem_nil, List.mem_cons, if_false, if_true, ite_true, ite_false, and_self, and_true, true_and, Nat.reduceAdd, Nat.reduceLeDiff, Nat.reduceEqDiff, Nat.zero_add, Nat.le_refl, Nat.zero_le, or_false, false_or, Int.reduceToNat, or_true, true_or, eq_self, and_false, false_and, inR_d, nc_4, nc_5, nc_6, nc_7, nc_8, nc_16, nc_18, nc_20, nc_24, nc_32, nc_40, nc_64, nc_104, nc_120, nc_160, nc_256, nc_300, nc_330, nc_390, nc_1200, nc_1260, nc_3012, nc_9834, okSt_1i, okSt_1r, okSt_1n, xpk_succ cd_142_0, xpk_succ cd_142_1, xpk_succ cd_142_2, xpk_succ cd_142_5, xpk_succ cd_142_8, xpk_succ cd_142_11, xpk_succ cd_142_12, xpk_succ cd_142_13, xpk_succ cd_142_14, xpk_succ cd_142_17, xpk_succ cd_142_20, xpk_succ cd_142_22, xpk_succ cd_142_23, xpk_succ cd_142_24, xpk_succ cd_142_27, xpk_succ cd_142_29, xpk_succ cd_142_30, xpk_succ cd_142_33, xpk_succ cd_142_34, xpk_succ cd_142_37, xpk_succ cd_142_40, xpk_succ cd_142_43, xpk_succ cd_142_44, xpk_succ cd_142_46, xpk_succ cd_142_47, xpk_succ cd_142_49, xpk_succ cd_142_50, xpk_succ cd_142_52, xpk_succ cd_142_54, xpk_succ cd_142_55, xpk_succ cd_142_58, xpk_succ cd_142_59, xpk_succ cd_142_62, xpk_succ cd_142_63, xpk_succ cd_142_65, xpk_succ cd_142_68, xpk_succ cd_142_70, xpk_succ cd_142_71, xpk_succ cd_142_74, xpk_succ cd_142_77, xpk_succ cd_142_80, xpk_succ cd_142_82, xpk_succ cd_142_84, xpk_succ cd_142_85, xpk_succ cd_142_88, xpk_succ cd_142_89, xpk_succ cd_142_92, xpk_succ cd_142_93, xpk_succ cd_142_96, xpk_succ cd_142_99, xpk_succ cd_142_102, xpk_succ cd_142_105, xpk_succ cd_142_107, xpk_succ cd_142_109, xpk_succ cd_142_112, xpk_succ cd_142_115, xpk_succ cd_142_116, xpk_succ cd_142_144, xpk_succ cd_142_145, xpk_succ cd_142_148, xpk_succ cd_142_151, xpk_succ cd_142_152, xpk_succ cd_142_153, xpk_succ cd_142_156, xpk_succ cd_142_159, xpk_succ cd_142_160, xpk_succ cd_142_162, xpk_succ cd_142_163, xpk_succ cd_142_165, X_within, k0, e1, e2, c00, c01, c51, c10, c11, k52, q1, q3]
  exact hloop
set_option maxHeartbeats 4000000 in
theorem X_baC {h : AH} {n run : Int} (hb0 : ab_H (bc0, bx bxT) h) (n1 : 1 ≤ n) (n2 : n ≤ 200) (hrun : run = 0 ∨ run = 1) : ∃ h', ab_H (bc1, bx bxT) h' ∧ ∀ Q : Option AV → AH → Prop, XC 1000 158 [vR 0, vI n, vI run] h Q = Q (some (vI (-1))) h' := by
  have hb := bG0_s hb0
  have k0 := kdI_s (k := 0) (kd := 9) (len := 0) hb (by decide +kernel)
  obtain ⟨h1, hb1, e1⟩ := X_ruled2 hb
  have e1 := XC_999 e1
  have c0 := hasI_s (k := 0) (kd := 9) (len := 0) (i := 0) (v := vR 1) hb1 (by decide +kernel)
  have c5 := hasI_s (k := 0) (kd := 9) (len := 0) (i := 5) (v := vR 52) hb1 (by decide +kernel)
  have c1 := hasI_s (k := 1) (kd := 8) (len := 0) (i := 0) (v := vR 2) hb1 (by decide +kernel)
  have k52 := kdI_s (k := 52) (kd := 0) (len := 0) hb1 (by decide +kernel)
  obtain ⟨h2, hb2, e2⟩ := X_startAs hb1
  have e2 := XC_999 e2
  refine XC_ex (d := 999) (XC_of (Nat.le_of_ble_eq_true rfl) ?_)
  have hloop := ba_loop n run n2 hrun (fun r h' => r = some (vI (-1)) ∧ ab_H (bc1, bx bxT) h') n.toNat 1 h2 f0 (by omega) (HO_T hb2) ZF_0 (by show (0 : Int) + _ ≤ 1000; omega) (WT_T hb2) (fun h' b => ⟨rfl, cells_2 hb2 b⟩)
  have c00 := c0.1
  have c01 := c0.2
  have c51 := c5.2
  have c10 := c1.1
  have c11 := c1.2
  have q1 : 1 ≤ n ∧ n ≤ 200 := ⟨n1, n2⟩
  refine xpk_sound (stops := [35]) (n := 50) ?_
  show xpk [35] 50 999 158 0 [some (vR 0), some (vI n), some (vI run), none, none] [] h _
  simp only [sk_0, sk_1, sk_2, sk_3, sk_4, sk_5, sk_6, sk_7, sk_8, sk_iadd, sk_isub, sk_imul, sk_iand, sk_ior, sk_ixor, sk_ishl, sk_ishr, sk_iushr, sk_idiv, sk_irem, sk_ineg, sk_ladd, sk_lsub, sk_lmul, sk_land, sk_lor, sk_ldiv, sk_lrem, sk_lneg, sk_lshl, sk_lshr, sk_i2l, sk_l2i, sk_lcmp, sk_dupI, sk_dupR, sk_dup2L, sk_dup2I, sk_popI, sk_ifeq, sk_ifne, sk_iflt, sk_ifge, sk_ifgt, sk_ifle, sk_iceq, sk_icne, sk_iclt, sk_icge, sk_icgt, sk_icle, sk_goto, sk_getf, sk_putf, sk_gets, sk_iald, sk_lald, sk_bald, sk_aald, sk_iast, sk_last, sk_bast, sk_aast, sk_alen, sk_newa, sk_newt, sk_new, sk_cs1, sk_cs2, sk_cs3, sk_cs4, sk_cs5, sk_cs6, sk_cv1, sk_cv2, sk_cv3, sk_cv4, sk_cv5, sk_cv6, sk_ci1, sk_ci2, sk_ci3, sk_ret0, sk_retI, sk_retL, sk_retR, sk_sw, sk_oin, sk_max, sk_min, sk_abs, lI_0, lI_s, lL_0, lL_s, lR_0, lR_s, vIo_e, vLo_e, vOo_e, stW_I, stW_L, stW_R, stW_0, stW_z, okSt_0, okSt_s, hV_eq, hK_eq, okF_0, okF_1, okF_3, is01_0, is01_1, is01_i, Int.toNat_natCast, Int.reduceEq, Int.reduceLE, Int.reduceLT, Int.reduceNeg, Nat.reduceLT, not_true_eq_false, not_false_eq_true, reduceIte, Option.toList, List.cons_append, List.nil_append, List.set_cons_zero, List.set_cons_succ, List.not_mem_nil, List.mem_cons, if_false, if_true, ite_true, ite_false, and_self, and_true, true_and, Nat.reduceAdd, Nat.reduceLeDiff, Nat.reduceEqDiff, Nat.zero_add, Nat.le_refl, Nat.zero_le, or_false, false_or, Int.reduceToNat, or_true, true_or, eq_self, and_false, false_and, inR_d, nc_4, nc_5, nc_6, nc_7, nc_8, nc_16, nc_18, nc_20, nc_24, nc_32, nc_40, nc_64, nc_104, nc_120, nc_160, nc_256, nc_300, nc_330, nc_390, nc_1200, nc_1260, nc_3012, nc_9834, okSt_1i, okSt_1r, okSt_1n, xpk_succ cd_158_0, xpk_succ cd_158_1, xpk_succ cd_158_2, xpk_succ cd_158_5, xpk_succ cd_158_8, xpk_succ cd_158_11, xpk_succ cd_158_12, xpk_succ cd_158_13, xpk_succ cd_158_14, xpk_succ cd_158_17, xpk_succ cd_158_18, xpk_succ cd_158_19, xpk_succ cd_158_22, xpk_succ cd_158_23, xpk_succ cd_158_26, xpk_succ cd_158_29, xpk_succ cd_158_32, xpk_succ cd_158_33, xpk_succ cd_158_35, xpk_succ cd_158_37, xpk_succ cd_158_38, xpk_succ cd_158_41, xpk_succ cd_158_42, xpk_succ cd_158_45, xpk_succ cd_158_46, xpk_succ cd_158_47, xpk_succ cd_158_50, xpk_succ cd_158_51, xpk_succ cd_158_54, xpk_succ cd_158_55, xpk_succ cd_158_58, xpk_succ cd_158_61, xpk_succ cd_158_62, xpk_succ cd_158_65, xpk_succ cd_158_68, xpk_succ cd_158_71, xpk_succ cd_158_74, xpk_succ cd_158_76, xpk_succ cd_158_77, xpk_succ cd_158_80, xpk_succ cd_158_83, xpk_succ cd_158_84, X_within, k0, e1, e2, c00, c01, c51, c10, c11, k52, q1]
  exact hloop
set_option maxHeartbeats 4000000 in
theorem X_foM {h : AH} {n run what : Int} (hb : ab_H (bc1, bx bxT) h) (n1 : 1 ≤ n) (n2 : n ≤ 200) (hrun : run = 0 ∨ run = 1) (hwh : what = 0 ∨ what = 1 ∨ what = 2 ∨ what = 3) : ∃ h', (hN h' = 93 ∧ hS h' = 32805 ∧ hK h' 1000100 = (20, 6)) ∧ ∀ Q : Option AV → AH → Prop, XC 1000 273 [vR 76, vI n, vI run, vI what] h Q = Q (some (vI (if what = 3 then 1 else 0))) h' := by
  have k0 := kdI_s (k := 76) (kd := 10) (len := 0) hb (by decide +kernel)
  obtain ⟨h1, hb1, e1⟩ := X_begin hb
  have e1 := XC_999 e1
  have hK6 : hK h1 1000100 = (20, 6) := kdI_s hb1 (by decide +kernel)
  refine XC_ex (d := 999) (XC_of (Nat.le_of_ble_eq_true rfl) ?_)
  have hloop := fm_loop n run what n1 n2 hrun hwh sg0 (fun r h' => r = some (vI (if what = 3 then 1 else 0)) ∧ (hN h' = 93 ∧ hS h' = 32805 ∧ hK h' 1000100 = (20, 6))) n.toNat 1 (-1) h1 sg0 (by omega) (by omega) (Or.inl ⟨rfl, rfl⟩) (MO_B hb1) ZG_0 (by show (0 : Int) + _ ≤ 1000; omega) (PB_B hb1) (fun h' b => ⟨rfl, b.1.trans hb1.1, b.2.1.trans hb1.2.1, by rw [b.2.2]; exact hK6⟩)
  have q1 : 1 ≤ n ∧ n ≤ 200 := ⟨n1, n2⟩
  have q3 : 0 ≤ what ∧ what ≤ 3 := by omega
  refine xpk_sound (stops := [37]) (n := 50) ?_
  show xpk [37] 50 999 273 0 [some (vR 76), some (vI n), some (vI run), some (vI what), none, none, none] [] h _
  simp only [sk_0, sk_1, sk_2, sk_3, sk_4, sk_5, sk_6, sk_7, sk_8, sk_iadd, sk_isub, sk_imul, sk_iand, sk_ior, sk_ixor, sk_ishl, sk_ishr, sk_iushr, sk_idiv, sk_irem, sk_ineg, sk_ladd, sk_lsub, sk_lmul, sk_land, sk_lor, sk_ldiv, sk_lrem, sk_lneg, sk_lshl, sk_lshr, sk_i2l, sk_l2i, sk_lcmp, sk_dupI, sk_dupR, sk_dup2L, sk_dup2I, sk_popI, sk_ifeq, sk_ifne, sk_iflt, sk_ifge, sk_ifgt, sk_ifle, sk_iceq, sk_icne, sk_iclt, sk_icge, sk_icgt, sk_icle, sk_goto, sk_getf, sk_putf, sk_gets, sk_iald, sk_lald, sk_bald, sk_aald, sk_iast, sk_last, sk_bast, sk_aast, sk_alen, sk_newa, sk_newt, sk_new, sk_cs1, sk_cs2, sk_cs3, sk_cs4, sk_cs5, sk_cs6, sk_cv1, sk_cv2, sk_cv3, sk_cv4, sk_cv5, sk_cv6, sk_ci1, sk_ci2, sk_ci3, sk_ret0, sk_retI, sk_retL, sk_retR, sk_sw, sk_oin, sk_max, sk_min, sk_abs, lI_0, lI_s, lL_0, lL_s, lR_0, lR_s, vIo_e, vLo_e, vOo_e, stW_I, stW_L, stW_R, stW_0, stW_z, okSt_0, okSt_s, hV_eq, hK_eq, okF_0, okF_1, okF_3, is01_0, is01_1, is01_i, Int.toNat_natCast, Int.reduceEq, Int.reduceLE, Int.reduceLT, Int.reduceNeg, Nat.reduceLT, not_true_eq_false, not_false_eq_true, reduceIte, Option.toList, List.cons_append, List.nil_append, List.set_cons_zero, List.set_cons_succ, List.not_mem_nil, List.mem_cons, if_false, if_true, ite_true, ite_false, and_self, and_true, true_and, Nat.reduceAdd, Nat.reduceLeDiff, Nat.reduceEqDiff, Nat.zero_add, Nat.le_refl, Nat.zero_le, or_false, false_or, Int.reduceToNat, or_true, true_or, eq_self, and_false, false_and, inR_d, nc_4, nc_5, nc_6, nc_7, nc_8, nc_16, nc_18, nc_20, nc_24, nc_32, nc_40, nc_64, nc_104, nc_120, nc_160, nc_256, nc_300, nc_330, nc_390, nc_1200, nc_1260, nc_3012, nc_9834, okSt_1i, okSt_1r, okSt_1n, xpk_succ cd_273_0, xpk_succ cd_273_1, xpk_succ cd_273_2, xpk_succ cd_273_5, xpk_succ cd_273_8, xpk_succ cd_273_11, xpk_succ cd_273_12, xpk_succ cd_273_13, xpk_succ cd_273_14, xpk_succ cd_273_17, xpk_succ cd_273_20, xpk_succ cd_273_23, xpk_succ cd_273_24, xpk_succ cd_273_25, xpk_succ cd_273_28, xpk_succ cd_273_29, xpk_succ cd_273_31, xpk_succ cd_273_32, xpk_succ cd_273_34, xpk_succ cd_273_35, xpk_succ cd_273_37, xpk_succ cd_273_39, xpk_succ cd_273_40, xpk_succ cd_273_43, xpk_succ cd_273_44, xpk_succ cd_273_45, xpk_succ cd_273_48, xpk_succ cd_273_49, xpk_succ cd_273_50, xpk_succ cd_273_53, xpk_succ cd_273_54, xpk_succ cd_273_55, xpk_succ cd_273_58, xpk_succ cd_273_61, xpk_succ cd_273_62, xpk_succ cd_273_65, xpk_succ cd_273_66, xpk_succ cd_273_69, xpk_succ cd_273_72, xpk_succ cd_273_74, xpk_succ cd_273_77, xpk_succ cd_273_78, xpk_succ cd_273_81, xpk_succ cd_273_84, xpk_succ cd_273_87, xpk_succ cd_273_89, xpk_succ cd_273_91, xpk_succ cd_273_93, xpk_succ cd_273_94, xpk_succ cd_273_97, xpk_succ cd_273_98, xpk_succ cd_273_101, xpk_succ cd_273_104, xpk_succ cd_273_106, xpk_succ cd_273_108, xpk_succ cd_273_111, xpk_succ cd_273_114, xpk_succ cd_273_115, xpk_succ cd_273_118, xpk_succ cd_273_119, xpk_succ cd_273_122, xpk_succ cd_273_124, xpk_succ cd_273_125, xpk_succ cd_273_128, xpk_succ cd_273_129, xpk_succ cd_273_130, xpk_succ cd_273_133, xpk_succ cd_273_134, xpk_succ cd_273_137, xpk_succ cd_273_139, xpk_succ cd_273_140, xpk_succ cd_273_143, xpk_succ cd_273_144, xpk_succ cd_273_145, xpk_succ cd_273_148, xpk_succ cd_273_150, xpk_succ cd_273_153, xpk_succ cd_273_155, xpk_succ cd_273_157, xpk_succ cd_273_158, xpk_succ cd_273_161, xpk_succ cd_273_163, X_isIn, k0, e1, q1, q3]
  exact hloop
set_option maxHeartbeats 4000000 in
theorem X_baM {h : AH} {n run : Int} (hb : ab_H (bc1, bx bxT) h) (n1 : 1 ≤ n) (n2 : n ≤ 200) (hrun : run = 0 ∨ run = 1) : ∃ h', (hN h' = 93 ∧ hS h' = 32805 ∧ hK h' 1000100 = (20, 6)) ∧ ∀ Q : Option AV → AH → Prop, XC 1000 298 [vR 76, vI n, vI run] h Q = Q (some (vI (-1))) h' := by
  have k0 := kdI_s (k := 76) (kd := 10) (len := 0) hb (by decide +kernel)
  obtain ⟨h1, hb1, e1⟩ := X_begin hb
  have e1 := XC_999 e1
  have hK6 : hK h1 1000100 = (20, 6) := kdI_s hb1 (by decide +kernel)
  refine XC_ex (d := 999) (XC_of (Nat.le_of_ble_eq_true rfl) ?_)
  have hloop := bm_loop n run n2 hrun sg0 (fun r h' => r = some (vI (-1)) ∧ (hN h' = 93 ∧ hS h' = 32805 ∧ hK h' 1000100 = (20, 6))) n.toNat 1 h1 sg0 (by omega) (MO_B hb1) ZG_0 (by show (0 : Int) + _ ≤ 1000; omega) (PB_B hb1) (fun h' b => ⟨rfl, b.1.trans hb1.1, b.2.1.trans hb1.2.1, by rw [b.2.2]; exact hK6⟩)
  have q1 : 1 ≤ n ∧ n ≤ 200 := ⟨n1, n2⟩
  refine xpk_sound (stops := [22]) (n := 50) ?_
  show xpk [22] 50 999 298 0 [some (vR 76), some (vI n), some (vI run), none, none] [] h _
  simp only [sk_0, sk_1, sk_2, sk_3, sk_4, sk_5, sk_6, sk_7, sk_8, sk_iadd, sk_isub, sk_imul, sk_iand, sk_ior, sk_ixor, sk_ishl, sk_ishr, sk_iushr, sk_idiv, sk_irem, sk_ineg, sk_ladd, sk_lsub, sk_lmul, sk_land, sk_lor, sk_ldiv, sk_lrem, sk_lneg, sk_lshl, sk_lshr, sk_i2l, sk_l2i, sk_lcmp, sk_dupI, sk_dupR, sk_dup2L, sk_dup2I, sk_popI, sk_ifeq, sk_ifne, sk_iflt, sk_ifge, sk_ifgt, sk_ifle, sk_iceq, sk_icne, sk_iclt, sk_icge, sk_icgt, sk_icle, sk_goto, sk_getf, sk_putf, sk_gets, sk_iald, sk_lald, sk_bald, sk_aald, sk_iast, sk_last, sk_bast, sk_aast, sk_alen, sk_newa, sk_newt, sk_new, sk_cs1, sk_cs2, sk_cs3, sk_cs4, sk_cs5, sk_cs6, sk_cv1, sk_cv2, sk_cv3, sk_cv4, sk_cv5, sk_cv6, sk_ci1, sk_ci2, sk_ci3, sk_ret0, sk_retI, sk_retL, sk_retR, sk_sw, sk_oin, sk_max, sk_min, sk_abs, lI_0, lI_s, lL_0, lL_s, lR_0, lR_s, vIo_e, vLo_e, vOo_e, stW_I, stW_L, stW_R, stW_0, stW_z, okSt_0, okSt_s, hV_eq, hK_eq, okF_0, okF_1, okF_3, is01_0, is01_1, is01_i, Int.toNat_natCast, Int.reduceEq, Int.reduceLE, Int.reduceLT, Int.reduceNeg, Nat.reduceLT, not_true_eq_false, not_false_eq_true, reduceIte, Option.toList, List.cons_append, List.nil_append, List.set_cons_zero, List.set_cons_succ, List.not_mem_nil, List.mem_cons, if_false, if_true, ite_true, ite_false, and_self, and_true, true_and, Nat.reduceAdd, Nat.reduceLeDiff, Nat.reduceEqDiff, Nat.zero_add, Nat.le_refl, Nat.zero_le, or_false, false_or, Int.reduceToNat, or_true, true_or, eq_self, and_false, false_and, inR_d, nc_4, nc_5, nc_6, nc_7, nc_8, nc_16, nc_18, nc_20, nc_24, nc_32, nc_40, nc_64, nc_104, nc_120, nc_160, nc_256, nc_300, nc_330, nc_390, nc_1200, nc_1260, nc_3012, nc_9834, okSt_1i, okSt_1r, okSt_1n, xpk_succ cd_298_0, xpk_succ cd_298_1, xpk_succ cd_298_2, xpk_succ cd_298_5, xpk_succ cd_298_8, xpk_succ cd_298_11, xpk_succ cd_298_12, xpk_succ cd_298_13, xpk_succ cd_298_14, xpk_succ cd_298_17, xpk_succ cd_298_18, xpk_succ cd_298_19, xpk_succ cd_298_20, xpk_succ cd_298_22, xpk_succ cd_298_24, xpk_succ cd_298_25, xpk_succ cd_298_28, xpk_succ cd_298_29, xpk_succ cd_298_30, xpk_succ cd_298_33, xpk_succ cd_298_34, xpk_succ cd_298_35, xpk_succ cd_298_38, xpk_succ cd_298_39, xpk_succ cd_298_40, xpk_succ cd_298_43, xpk_succ cd_298_44, xpk_succ cd_298_45, xpk_succ cd_298_48, xpk_succ cd_298_51, xpk_succ cd_298_52, xpk_succ cd_298_55, xpk_succ cd_298_56, xpk_succ cd_298_59, xpk_succ cd_298_62, xpk_succ cd_298_64, xpk_succ cd_298_65, xpk_succ cd_298_68, xpk_succ cd_298_71, xpk_succ cd_298_72, xpk_succ cd_298_75, xpk_succ cd_298_76, X_isIn, k0, e1, q1]
  exact hloop
set_option maxHeartbeats 4000000 in
theorem law_19z {xs : Nat → Int} {h h1 h2 : AH} {r : Int} (hb : xs 2 = 0) (k0 : hK h 0 = (9, 0)) (ks : hK h 1000100 = (20, 6)) (k76 : hK h1 76 = (10, 0)) (ks' : hK h1 1000100 = (20, 6)) (s1 : hV h 1000100 1 = vI (xs 1)) (t1 : hV h1 1000100 1 = vI (xs 1)) (s2 : hV h 1000100 2 = vI (xs 2)) (t2 : hV h1 1000100 2 = vI (xs 2)) (s3 : hV h 1000100 3 = vI (xs 3)) (t3 : hV h1 1000100 3 = vI (xs 3))
    (e1 : ∀ Q, XC 1000 142 [vR 0, vI (xs 1), vI 0, vI (xs 3)] h Q = Q (some (vI r)) h1) (e2 : ∀ Q, XC 1000 273 [vR 76, vI (xs 1), vI 0, vI (xs 3)] h1 Q = Q (some (vI r)) h2) (hend : XP 1000 321 1541 lsc [] h2 lwQ) : XP 1000 321 745 lsc [] h lwQ := by
  have w1 := w32_i (k := 1) (by decide) (by decide)
  have w2 := w32_i (k := 2) (by decide) (by decide)
  have w3 := w32_i (k := 3) (by decide) (by decide)
  refine xpk_sound (stops := [1541]) (n := 70) ?_
  show xpk [1541] 70 1000 321 745 [some (vR 1000100), some (vR 0), some (vR 76), some (vI 0)] [] h _
  simp only [sk_0, sk_1, sk_2, sk_3, sk_4, sk_5, sk_6, sk_7, sk_8, sk_iadd, sk_isub, sk_imul, sk_iand, sk_ior, sk_ixor, sk_ishl, sk_ishr, sk_iushr, sk_idiv, sk_irem, sk_ineg, sk_ladd, sk_lsub, sk_lmul, sk_land, sk_lor, sk_ldiv, sk_lrem, sk_lneg, sk_lshl, sk_lshr, sk_i2l, sk_l2i, sk_lcmp, sk_dupI, sk_dupR, sk_dup2L, sk_dup2I, sk_popI, sk_ifeq, sk_ifne, sk_iflt, sk_ifge, sk_ifgt, sk_ifle, sk_iceq, sk_icne, sk_iclt, sk_icge, sk_icgt, sk_icle, sk_goto, sk_getf, sk_putf, sk_gets, sk_iald, sk_lald, sk_bald, sk_aald, sk_iast, sk_last, sk_bast, sk_aast, sk_alen, sk_newa, sk_newt, sk_new, sk_cs1, sk_cs2, sk_cs3, sk_cs4, sk_cs5, sk_cs6, sk_cv1, sk_cv2, sk_cv3, sk_cv4, sk_cv5, sk_cv6, sk_ci1, sk_ci2, sk_ci3, sk_ret0, sk_retI, sk_retL, sk_retR, sk_sw, sk_oin, sk_max, sk_min, sk_abs, lI_0, lI_s, lL_0, lL_s, lR_0, lR_s, vIo_e, vLo_e, vOo_e, stW_I, stW_L, stW_R, stW_0, stW_z, okSt_0, okSt_s, hV_eq, hK_eq, okF_0, okF_1, okF_3, is01_0, is01_1, is01_i, Int.toNat_natCast, Int.reduceEq, Int.reduceLE, Int.reduceLT, Int.reduceNeg, Nat.reduceLT, not_true_eq_false, not_false_eq_true, reduceIte, Option.toList, List.cons_append, List.nil_append, List.set_cons_zero, List.set_cons_succ, List.not_mem_nil, List.mem_cons, if_false, if_true, ite_true, ite_false, and_self, and_true, true_and, Nat.reduceAdd, Nat.reduceLeDiff, Nat.reduceEqDiff, Nat.zero_add, Nat.le_refl, Nat.zero_le, or_false, false_or, Int.reduceToNat, or_true, true_or, eq_self, and_false, false_and, inR_d, nc_4, nc_5, nc_6, nc_7, nc_8, nc_16, nc_18, nc_20, nc_24, nc_32, nc_40, nc_64, nc_104, nc_120, nc_160, nc_256, nc_300, nc_330, nc_390, nc_1200, nc_1260, nc_3012, nc_9834, okSt_1i, okSt_1r, okSt_1n, xpk_succ cd_321_745, xpk_succ cd_321_746, xpk_succ cd_321_747, xpk_succ cd_321_748, xpk_succ cd_321_749, xpk_succ cd_321_750, xpk_succ cd_321_751, xpk_succ cd_321_752, xpk_succ cd_321_753, xpk_succ cd_321_754, xpk_succ cd_321_755, xpk_succ cd_321_756, xpk_succ cd_321_759, xpk_succ cd_321_760, xpk_succ cd_321_763, xpk_succ cd_321_764, xpk_succ cd_321_765, xpk_succ cd_321_766, xpk_succ cd_321_767, xpk_succ cd_321_768, xpk_succ cd_321_769, xpk_succ cd_321_772, xpk_succ cd_321_773, xpk_succ cd_321_774, xpk_succ cd_321_775, xpk_succ cd_321_776, xpk_succ cd_321_777, xpk_succ cd_321_778, xpk_succ cd_321_779, xpk_succ cd_321_780, xpk_succ cd_321_781, xpk_succ cd_321_782, xpk_succ cd_321_783, xpk_succ cd_321_786, xpk_succ cd_321_787, xpk_succ cd_321_790, xpk_succ cd_321_791, xpk_succ cd_321_792, xpk_succ cd_321_793, xpk_succ cd_321_794, xpk_succ cd_321_795, xpk_succ cd_321_796, xpk_succ cd_321_799, xpk_succ cd_321_802, xpk_succ cd_321_803, hb, k0, ks, k76, ks', e1, e2, s1, s2, s3, t1, t2, t3, w1, w2, w3]
  exact hend
set_option maxHeartbeats 4000000 in
theorem law_19n {xs : Nat → Int} {h h1 h2 : AH} {r : Int} (hb : ¬ xs 2 = 0) (k0 : hK h 0 = (9, 0)) (ks : hK h 1000100 = (20, 6)) (k76 : hK h1 76 = (10, 0)) (ks' : hK h1 1000100 = (20, 6)) (s1 : hV h 1000100 1 = vI (xs 1)) (t1 : hV h1 1000100 1 = vI (xs 1)) (s2 : hV h 1000100 2 = vI (xs 2)) (t2 : hV h1 1000100 2 = vI (xs 2)) (s3 : hV h 1000100 3 = vI (xs 3)) (t3 : hV h1 1000100 3 = vI (xs 3))
    (e1 : ∀ Q, XC 1000 142 [vR 0, vI (xs 1), vI 1, vI (xs 3)] h Q = Q (some (vI r)) h1) (e2 : ∀ Q, XC 1000 273 [vR 76, vI (xs 1), vI 1, vI (xs 3)] h1 Q = Q (some (vI r)) h2) (hend : XP 1000 321 1541 lsc [] h2 lwQ) : XP 1000 321 745 lsc [] h lwQ := by
  have w1 := w32_i (k := 1) (by decide) (by decide)
  have w2 := w32_i (k := 2) (by decide) (by decide)
  have w3 := w32_i (k := 3) (by decide) (by decide)
  refine xpk_sound (stops := [1541]) (n := 70) ?_
  show xpk [1541] 70 1000 321 745 [some (vR 1000100), some (vR 0), some (vR 76), some (vI 0)] [] h _
  simp only [sk_0, sk_1, sk_2, sk_3, sk_4, sk_5, sk_6, sk_7, sk_8, sk_iadd, sk_isub, sk_imul, sk_iand, sk_ior, sk_ixor, sk_ishl, sk_ishr, sk_iushr, sk_idiv, sk_irem, sk_ineg, sk_ladd, sk_lsub, sk_lmul, sk_land, sk_lor, sk_ldiv, sk_lrem, sk_lneg, sk_lshl, sk_lshr, sk_i2l, sk_l2i, sk_lcmp, sk_dupI, sk_dupR, sk_dup2L, sk_dup2I, sk_popI, sk_ifeq, sk_ifne, sk_iflt, sk_ifge, sk_ifgt, sk_ifle, sk_iceq, sk_icne, sk_iclt, sk_icge, sk_icgt, sk_icle, sk_goto, sk_getf, sk_putf, sk_gets, sk_iald, sk_lald, sk_bald, sk_aald, sk_iast, sk_last, sk_bast, sk_aast, sk_alen, sk_newa, sk_newt, sk_new, sk_cs1, sk_cs2, sk_cs3, sk_cs4, sk_cs5, sk_cs6, sk_cv1, sk_cv2, sk_cv3, sk_cv4, sk_cv5, sk_cv6, sk_ci1, sk_ci2, sk_ci3, sk_ret0, sk_retI, sk_retL, sk_retR, sk_sw, sk_oin, sk_max, sk_min, sk_abs, lI_0, lI_s, lL_0, lL_s, lR_0, lR_s, vIo_e, vLo_e, vOo_e, stW_I, stW_L, stW_R, stW_0, stW_z, okSt_0, okSt_s, hV_eq, hK_eq, okF_0, okF_1, okF_3, is01_0, is01_1, is01_i, Int.toNat_natCast, Int.reduceEq, Int.reduceLE, Int.reduceLT, Int.reduceNeg, Nat.reduceLT, not_true_eq_false, not_false_eq_true, reduceIte, Option.toList, List.cons_append, List.nil_append, List.set_cons_zero, List.set_cons_succ, List.not_mem_nil, List.mem_cons, if_false, if_true, ite_true, ite_false, and_self, and_true, true_and, Nat.reduceAdd, Nat.reduceLeDiff, Nat.reduceEqDiff, Nat.zero_add, Nat.le_refl, Nat.zero_le, or_false, false_or, Int.reduceToNat, or_true, true_or, eq_self, and_false, false_and, inR_d, nc_4, nc_5, nc_6, nc_7, nc_8, nc_16, nc_18, nc_20, nc_24, nc_32, nc_40, nc_64, nc_104, nc_120, nc_160, nc_256, nc_300, nc_330, nc_390, nc_1200, nc_1260, nc_3012, nc_9834, okSt_1i, okSt_1r, okSt_1n, xpk_succ cd_321_745, xpk_succ cd_321_746, xpk_succ cd_321_747, xpk_succ cd_321_748, xpk_succ cd_321_749, xpk_succ cd_321_750, xpk_succ cd_321_751, xpk_succ cd_321_752, xpk_succ cd_321_753, xpk_succ cd_321_754, xpk_succ cd_321_755, xpk_succ cd_321_756, xpk_succ cd_321_759, xpk_succ cd_321_760, xpk_succ cd_321_763, xpk_succ cd_321_764, xpk_succ cd_321_765, xpk_succ cd_321_766, xpk_succ cd_321_767, xpk_succ cd_321_768, xpk_succ cd_321_769, xpk_succ cd_321_772, xpk_succ cd_321_773, xpk_succ cd_321_774, xpk_succ cd_321_775, xpk_succ cd_321_776, xpk_succ cd_321_777, xpk_succ cd_321_778, xpk_succ cd_321_779, xpk_succ cd_321_780, xpk_succ cd_321_781, xpk_succ cd_321_782, xpk_succ cd_321_783, xpk_succ cd_321_786, xpk_succ cd_321_787, xpk_succ cd_321_790, xpk_succ cd_321_791, xpk_succ cd_321_792, xpk_succ cd_321_793, xpk_succ cd_321_794, xpk_succ cd_321_795, xpk_succ cd_321_796, xpk_succ cd_321_799, xpk_succ cd_321_802, xpk_succ cd_321_803, hb, k0, ks, k76, ks', e1, e2, s1, s2, s3, t1, t2, t3, w1, w2, w3]
  exact hend
set_option maxHeartbeats 4000000 in
theorem law_32z {xs : Nat → Int} {h h1 h2 : AH} {r : Int} (hb : xs 2 = 0) (k0 : hK h 0 = (9, 0)) (ks : hK h 1000100 = (20, 6)) (k76 : hK h1 76 = (10, 0)) (ks' : hK h1 1000100 = (20, 6)) (s1 : hV h 1000100 1 = vI (xs 1)) (t1 : hV h1 1000100 1 = vI (xs 1)) (s2 : hV h 1000100 2 = vI (xs 2)) (t2 : hV h1 1000100 2 = vI (xs 2))
    (e1 : ∀ Q, XC 1000 158 [vR 0, vI (xs 1), vI 0] h Q = Q (some (vI r)) h1) (e2 : ∀ Q, XC 1000 298 [vR 76, vI (xs 1), vI 0] h1 Q = Q (some (vI r)) h2) (hend : XP 1000 321 1541 lsc [] h2 lwQ) : XP 1000 321 1157 lsc [] h lwQ := by
  have w1 := w32_i (k := 1) (by decide) (by decide)
  have w2 := w32_i (k := 2) (by decide) (by decide)
  refine xpk_sound (stops := [1541]) (n := 70) ?_
  show xpk [1541] 70 1000 321 1157 [some (vR 1000100), some (vR 0), some (vR 76), some (vI 0)] [] h _
  simp only [sk_0, sk_1, sk_2, sk_3, sk_4, sk_5, sk_6, sk_7, sk_8, sk_iadd, sk_isub, sk_imul, sk_iand, sk_ior, sk_ixor, sk_ishl, sk_ishr, sk_iushr, sk_idiv, sk_irem, sk_ineg, sk_ladd, sk_lsub, sk_lmul, sk_land, sk_lor, sk_ldiv, sk_lrem, sk_lneg, sk_lshl, sk_lshr, sk_i2l, sk_l2i, sk_lcmp, sk_dupI, sk_dupR, sk_dup2L, sk_dup2I, sk_popI, sk_ifeq, sk_ifne, sk_iflt, sk_ifge, sk_ifgt, sk_ifle, sk_iceq, sk_icne, sk_iclt, sk_icge, sk_icgt, sk_icle, sk_goto, sk_getf, sk_putf, sk_gets, sk_iald, sk_lald, sk_bald, sk_aald, sk_iast, sk_last, sk_bast, sk_aast, sk_alen, sk_newa, sk_newt, sk_new, sk_cs1, sk_cs2, sk_cs3, sk_cs4, sk_cs5, sk_cs6, sk_cv1, sk_cv2, sk_cv3, sk_cv4, sk_cv5, sk_cv6, sk_ci1, sk_ci2, sk_ci3, sk_ret0, sk_retI, sk_retL, sk_retR, sk_sw, sk_oin, sk_max, sk_min, sk_abs, lI_0, lI_s, lL_0, lL_s, lR_0, lR_s, vIo_e, vLo_e, vOo_e, stW_I, stW_L, stW_R, stW_0, stW_z, okSt_0, okSt_s, hV_eq, hK_eq, okF_0, okF_1, okF_3, is01_0, is01_1, is01_i, Int.toNat_natCast, Int.reduceEq, Int.reduceLE, Int.reduceLT, Int.reduceNeg, Nat.reduceLT, not_true_eq_false, not_false_eq_true, reduceIte, Option.toList, List.cons_append, List.nil_append, List.set_cons_zero, List.set_cons_succ, List.not_mem_nil, List.mem_cons, if_false, if_true, ite_true, ite_false, and_self, and_true, true_and, Nat.reduceAdd, Nat.reduceLeDiff, Nat.reduceEqDiff, Nat.zero_add, Nat.le_refl, Nat.zero_le, or_false, false_or, Int.reduceToNat, or_true, true_or, eq_self, and_false, false_and, inR_d, nc_4, nc_5, nc_6, nc_7, nc_8, nc_16, nc_18, nc_20, nc_24, nc_32, nc_40, nc_64, nc_104, nc_120, nc_160, nc_256, nc_300, nc_330, nc_390, nc_1200, nc_1260, nc_3012, nc_9834, okSt_1i, okSt_1r, okSt_1n, xpk_succ cd_321_1157, xpk_succ cd_321_1158, xpk_succ cd_321_1159, xpk_succ cd_321_1160, xpk_succ cd_321_1161, xpk_succ cd_321_1162, xpk_succ cd_321_1163, xpk_succ cd_321_1164, xpk_succ cd_321_1165, xpk_succ cd_321_1166, xpk_succ cd_321_1167, xpk_succ cd_321_1168, xpk_succ cd_321_1171, xpk_succ cd_321_1172, xpk_succ cd_321_1175, xpk_succ cd_321_1176, xpk_succ cd_321_1179, xpk_succ cd_321_1180, xpk_succ cd_321_1181, xpk_succ cd_321_1182, xpk_succ cd_321_1183, xpk_succ cd_321_1184, xpk_succ cd_321_1185, xpk_succ cd_321_1186, xpk_succ cd_321_1187, xpk_succ cd_321_1188, xpk_succ cd_321_1189, xpk_succ cd_321_1190, xpk_succ cd_321_1193, xpk_succ cd_321_1194, xpk_succ cd_321_1197, xpk_succ cd_321_1198, xpk_succ cd_321_1201, xpk_succ cd_321_1204, xpk_succ cd_321_1205, hb, k0, ks, k76, ks', e1, e2, s1, s2, t1, t2, w1, w2]
  exact hend
set_option maxHeartbeats 4000000 in
theorem law_32n {xs : Nat → Int} {h h1 h2 : AH} {r : Int} (hb : ¬ xs 2 = 0) (k0 : hK h 0 = (9, 0)) (ks : hK h 1000100 = (20, 6)) (k76 : hK h1 76 = (10, 0)) (ks' : hK h1 1000100 = (20, 6)) (s1 : hV h 1000100 1 = vI (xs 1)) (t1 : hV h1 1000100 1 = vI (xs 1)) (s2 : hV h 1000100 2 = vI (xs 2)) (t2 : hV h1 1000100 2 = vI (xs 2))
    (e1 : ∀ Q, XC 1000 158 [vR 0, vI (xs 1), vI 1] h Q = Q (some (vI r)) h1) (e2 : ∀ Q, XC 1000 298 [vR 76, vI (xs 1), vI 1] h1 Q = Q (some (vI r)) h2) (hend : XP 1000 321 1541 lsc [] h2 lwQ) : XP 1000 321 1157 lsc [] h lwQ := by
  have w1 := w32_i (k := 1) (by decide) (by decide)
  have w2 := w32_i (k := 2) (by decide) (by decide)
  refine xpk_sound (stops := [1541]) (n := 70) ?_
  show xpk [1541] 70 1000 321 1157 [some (vR 1000100), some (vR 0), some (vR 76), some (vI 0)] [] h _
  simp only [sk_0, sk_1, sk_2, sk_3, sk_4, sk_5, sk_6, sk_7, sk_8, sk_iadd, sk_isub, sk_imul, sk_iand, sk_ior, sk_ixor, sk_ishl, sk_ishr, sk_iushr, sk_idiv, sk_irem, sk_ineg, sk_ladd, sk_lsub, sk_lmul, sk_land, sk_lor, sk_ldiv, sk_lrem, sk_lneg, sk_lshl, sk_lshr, sk_i2l, sk_l2i, sk_lcmp, sk_dupI, sk_dupR, sk_dup2L, sk_dup2I, sk_popI, sk_ifeq, sk_ifne, sk_iflt, sk_ifge, sk_ifgt, sk_ifle, sk_iceq, sk_icne, sk_iclt, sk_icge, sk_icgt, sk_icle, sk_goto, sk_getf, sk_putf, sk_gets, sk_iald, sk_lald, sk_bald, sk_aald, sk_iast, sk_last, sk_bast, sk_aast, sk_alen, sk_newa, sk_newt, sk_new, sk_cs1, sk_cs2, sk_cs3, sk_cs4, sk_cs5, sk_cs6, sk_cv1, sk_cv2, sk_cv3, sk_cv4, sk_cv5, sk_cv6, sk_ci1, sk_ci2, sk_ci3, sk_ret0, sk_retI, sk_retL, sk_retR, sk_sw, sk_oin, sk_max, sk_min, sk_abs, lI_0, lI_s, lL_0, lL_s, lR_0, lR_s, vIo_e, vLo_e, vOo_e, stW_I, stW_L, stW_R, stW_0, stW_z, okSt_0, okSt_s, hV_eq, hK_eq, okF_0, okF_1, okF_3, is01_0, is01_1, is01_i, Int.toNat_natCast, Int.reduceEq, Int.reduceLE, Int.reduceLT, Int.reduceNeg, Nat.reduceLT, not_true_eq_false, not_false_eq_true, reduceIte, Option.toList, List.cons_append, List.nil_append, List.set_cons_zero, List.set_cons_succ, List.not_mem_nil, List.mem_cons, if_false, if_true, ite_true, ite_false, and_self, and_true, true_and, Nat.reduceAdd, Nat.reduceLeDiff, Nat.reduceEqDiff, Nat.zero_add, Nat.le_refl, Nat.zero_le, or_false, false_or, Int.reduceToNat, or_true, true_or, eq_self, and_false, false_and, inR_d, nc_4, nc_5, nc_6, nc_7, nc_8, nc_16, nc_18, nc_20, nc_24, nc_32, nc_40, nc_64, nc_104, nc_120, nc_160, nc_256, nc_300, nc_330, nc_390, nc_1200, nc_1260, nc_3012, nc_9834, okSt_1i, okSt_1r, okSt_1n, xpk_succ cd_321_1157, xpk_succ cd_321_1158, xpk_succ cd_321_1159, xpk_succ cd_321_1160, xpk_succ cd_321_1161, xpk_succ cd_321_1162, xpk_succ cd_321_1163, xpk_succ cd_321_1164, xpk_succ cd_321_1165, xpk_succ cd_321_1166, xpk_succ cd_321_1167, xpk_succ cd_321_1168, xpk_succ cd_321_1171, xpk_succ cd_321_1172, xpk_succ cd_321_1175, xpk_succ cd_321_1176, xpk_succ cd_321_1179, xpk_succ cd_321_1180, xpk_succ cd_321_1181, xpk_succ cd_321_1182, xpk_succ cd_321_1183, xpk_succ cd_321_1184, xpk_succ cd_321_1185, xpk_succ cd_321_1186, xpk_succ cd_321_1187, xpk_succ cd_321_1188, xpk_succ cd_321_1189, xpk_succ cd_321_1190, xpk_succ cd_321_1193, xpk_succ cd_321_1194, xpk_succ cd_321_1197, xpk_succ cd_321_1198, xpk_succ cd_321_1201, xpk_succ cd_321_1204, xpk_succ cd_321_1205, hb, k0, ks, k76, ks', e1, e2, s1, s2, t1, t2, w1, w2]
  exact hend
def cs_19 : List (List AW × AW) := [([xT, .inr (-2147483648, 0), xT, xT, xT, xT], xI (-100000)),
  ([xT, .inr (201, 2147483647), xT, xT, xT, xT], xI (-100000)),
  ([xT, .inr (1, 200), xT, .inr (-2147483648, -1), xT, xT], xI (-100000)),
  ([xT, .inr (1, 200), xT, .inr (4, 2147483647), xT, xT], xI (-100000))]
theorem ck_19 : cb_L nt1 745 772 cs_19 = true := by decide +kernel
def cs_32 : List (List AW × AW) := [([xT, .inr (-2147483648, 0), xT, xT, xT, xT], xI (-1)),
  ([xT, .inr (201, 2147483647), xT, xT, xT, xT], xI (-1))]
theorem ck_32 : cb_L nt1 1157 1179 cs_32 = true := by decide +kernel
set_option maxHeartbeats 4000000 in
theorem case_19 {xs : Nat → Int} {h : AH} (hf : FR 6 xs h) (q0 : -2147483648 ≤ xs 0 ∧ xs 0 ≤ 2147483647) (q1 : -2147483648 ≤ xs 1 ∧ xs 1 ≤ 2147483647) (q2 : -2147483648 ≤ xs 2 ∧ xs 2 ≤ 2147483647) (q3 : -2147483648 ≤ xs 3 ∧ xs 3 ≤ 2147483647) (q4 : -2147483648 ≤ xs 4 ∧ xs 4 ≤ 2147483647) (q5 : -2147483648 ≤ xs 5 ∧ xs 5 ≤ 2147483647) : XP 1000 321 745 lsc [] h lwQ := by
  by_cases y1 : xs 1 ≤ 0
  · exact leaf2 nt1_s ck_19 hf 0 rfl (ab_rg (by omega) (by omega)) (ab_rg (by omega) (by omega)) (ab_rg (by omega) (by omega)) (ab_rg (by omega) (by omega)) (ab_rg (by omega) (by omega)) (ab_rg (by omega) (by omega))
  by_cases y2 : 201 ≤ xs 1
  · exact leaf2 nt1_s ck_19 hf 1 rfl (ab_rg (by omega) (by omega)) (ab_rg (by omega) (by omega)) (ab_rg (by omega) (by omega)) (ab_rg (by omega) (by omega)) (ab_rg (by omega) (by omega)) (ab_rg (by omega) (by omega))
  by_cases y3 : xs 3 ≤ -1
  · exact leaf2 nt1_s ck_19 hf 2 rfl (ab_rg (by omega) (by omega)) (ab_rg (by omega) (by omega)) (ab_rg (by omega) (by omega)) (ab_rg (by omega) (by omega)) (ab_rg (by omega) (by omega)) (ab_rg (by omega) (by omega))
  by_cases y4 : 4 ≤ xs 3
  · exact leaf2 nt1_s ck_19 hf 3 rfl (ab_rg (by omega) (by omega)) (ab_rg (by omega) (by omega)) (ab_rg (by omega) (by omega)) (ab_rg (by omega) (by omega)) (ab_rg (by omega) (by omega)) (ab_rg (by omega) (by omega))
  · skip
    · have hb0 := FR_T hf q0 q1 q2 q3 q4 q5
      have o0 := hf.2.2.1
      obtain ⟨ks, vs⟩ := o0.2 1000100 (Nat.le_of_ble_eq_true rfl)
      have ks : hK h 1000100 = (20, 6) := ks
      have vs : ∀ i, hV h 1000100 i = vI (xs i) := vs
      by_cases bz : xs 2 = 0
      · skip
        obtain ⟨h1, hb1, e1⟩ := X_foC (run := 0) (n := xs 1) (what := xs 3) hb0 (by omega) (by omega) (Or.inl rfl) (by omega)
        obtain ⟨h2, ⟨n1, n2, n3⟩, e2⟩ := X_foM (run := 0) (n := xs 1) (what := xs 3) hb1 (by omega) (by omega) (Or.inl rfl) (by omega)
        have o1 : OUT 6 xs h1 := OUT_XC (d := 999) e1 o0
        obtain ⟨kt, vt⟩ := o1.2 1000100 (Nat.le_of_ble_eq_true rfl)
        have kt : hK h1 1000100 = (20, 6) := kt
        have vt : ∀ i, hV h1 1000100 i = vI (xs i) := vt
        exact law_19z bz (hf.2.2.2 0 (by decide)).1 ks (kdI_s hb1 (by decide +kernel)) kt (vs 1) (vt 1) (vs 2) (vt 2) (vs 3) (vt 3) e1 e2 (law_end n1 n2 n3)
      · skip
        obtain ⟨h1, hb1, e1⟩ := X_foC (run := 1) (n := xs 1) (what := xs 3) hb0 (by omega) (by omega) (Or.inr rfl) (by omega)
        obtain ⟨h2, ⟨n1, n2, n3⟩, e2⟩ := X_foM (run := 1) (n := xs 1) (what := xs 3) hb1 (by omega) (by omega) (Or.inr rfl) (by omega)
        have o1 : OUT 6 xs h1 := OUT_XC (d := 999) e1 o0
        obtain ⟨kt, vt⟩ := o1.2 1000100 (Nat.le_of_ble_eq_true rfl)
        have kt : hK h1 1000100 = (20, 6) := kt
        have vt : ∀ i, hV h1 1000100 i = vI (xs i) := vt
        exact law_19n bz (hf.2.2.2 0 (by decide)).1 ks (kdI_s hb1 (by decide +kernel)) kt (vs 1) (vt 1) (vs 2) (vt 2) (vs 3) (vt 3) e1 e2 (law_end n1 n2 n3)
set_option maxHeartbeats 4000000 in
theorem case_32 {xs : Nat → Int} {h : AH} (hf : FR 6 xs h) (q0 : -2147483648 ≤ xs 0 ∧ xs 0 ≤ 2147483647) (q1 : -2147483648 ≤ xs 1 ∧ xs 1 ≤ 2147483647) (q2 : -2147483648 ≤ xs 2 ∧ xs 2 ≤ 2147483647) (q3 : -2147483648 ≤ xs 3 ∧ xs 3 ≤ 2147483647) (q4 : -2147483648 ≤ xs 4 ∧ xs 4 ≤ 2147483647) (q5 : -2147483648 ≤ xs 5 ∧ xs 5 ≤ 2147483647) : XP 1000 321 1157 lsc [] h lwQ := by
  by_cases y1 : xs 1 ≤ 0
  · exact leaf2 nt1_s ck_32 hf 0 rfl (ab_rg (by omega) (by omega)) (ab_rg (by omega) (by omega)) (ab_rg (by omega) (by omega)) (ab_rg (by omega) (by omega)) (ab_rg (by omega) (by omega)) (ab_rg (by omega) (by omega))
  by_cases y2 : 201 ≤ xs 1
  · exact leaf2 nt1_s ck_32 hf 1 rfl (ab_rg (by omega) (by omega)) (ab_rg (by omega) (by omega)) (ab_rg (by omega) (by omega)) (ab_rg (by omega) (by omega)) (ab_rg (by omega) (by omega)) (ab_rg (by omega) (by omega))
  · skip
    · have hb0 := FR_T hf q0 q1 q2 q3 q4 q5
      have o0 := hf.2.2.1
      obtain ⟨ks, vs⟩ := o0.2 1000100 (Nat.le_of_ble_eq_true rfl)
      have ks : hK h 1000100 = (20, 6) := ks
      have vs : ∀ i, hV h 1000100 i = vI (xs i) := vs
      by_cases bz : xs 2 = 0
      · skip
        obtain ⟨h1, hb1, e1⟩ := X_baC (run := 0) (n := xs 1) hb0 (by omega) (by omega) (Or.inl rfl)
        obtain ⟨h2, ⟨n1, n2, n3⟩, e2⟩ := X_baM (run := 0) (n := xs 1) hb1 (by omega) (by omega) (Or.inl rfl)
        have o1 : OUT 6 xs h1 := OUT_XC (d := 999) e1 o0
        obtain ⟨kt, vt⟩ := o1.2 1000100 (Nat.le_of_ble_eq_true rfl)
        have kt : hK h1 1000100 = (20, 6) := kt
        have vt : ∀ i, hV h1 1000100 i = vI (xs i) := vt
        exact law_32z bz (hf.2.2.2 0 (by decide)).1 ks (kdI_s hb1 (by decide +kernel)) kt (vs 1) (vt 1) (vs 2) (vt 2) e1 e2 (law_end n1 n2 n3)
      · skip
        obtain ⟨h1, hb1, e1⟩ := X_baC (run := 1) (n := xs 1) hb0 (by omega) (by omega) (Or.inr rfl)
        obtain ⟨h2, ⟨n1, n2, n3⟩, e2⟩ := X_baM (run := 1) (n := xs 1) hb1 (by omega) (by omega) (Or.inr rfl)
        have o1 : OUT 6 xs h1 := OUT_XC (d := 999) e1 o0
        obtain ⟨kt, vt⟩ := o1.2 1000100 (Nat.le_of_ble_eq_true rfl)
        have kt : hK h1 1000100 = (20, 6) := kt
        have vt : ∀ i, hV h1 1000100 i = vI (xs i) := vt
        exact law_32n bz (hf.2.2.2 0 (by decide)).1 ks (kdI_s hb1 (by decide +kernel)) kt (vs 1) (vt 1) (vs 2) (vt 2) e1 e2 (law_end n1 n2 n3)
