/-! a text is read: the class -/
theorem RDo_c {tk : Nat → Int × Int} {m : Nat} {cs : List cCl} {j : Nat} {out : (Int × Nat) ⊕ (List cCl)} (h : RDo tk m cs j out) : True := trivial
/-- behind the text -/
def RDq (h : AH) (T D cnt : Nat) (n : Int) (kn vn pn : Nat → Int) (cs : List cCl) (j : Nat) (r : Option AV) (g : AH) : Prop := ∃ m out, RDo (tkf cnt kn vn) m cs j out ∧ match out with
  | .inl (f, jf) => f ≠ 0 ∧ r = some (vI 0) ∧ ∃ (bg en kd ag : Nat → Int) (nC : Nat) (a c l : Int) (L : Nat) (dd : Nat → Int), g = hR (hX h T bg en kd ag nC) T D a 63 c l f (plf cnt n pn jf) L dd
  | .inr cs' => r = some (vI 1) ∧ ∃ (bg en kd ag : Nat → Int) (l : Int) (L j' : Nat) (dd : Nat → Int), g = hR (hX h T bg en kd ag cs'.length) T D (j' : Int) 62 0 l 0 (-1) L dd ∧ TXR bg en kd ag L dd cs' ∧ cs'.length ≤ 24
set_option maxHeartbeats 4000000 in
theorem RD_l {d : Nat} {h : AH} {T D cnt : Nat} {n : Int} {kn vn pn : Nat → Int} (hb : RDB h T D) (hk : TOK h cnt n kn vn pn) (hx : TXH h T) (hv : TKV cnt kn vn) {v2 : Int} : ∀ (m : Nat) (cs : List cCl) (j L : Nat) (bg en kd ag : Nat → Int) (l : Int) (dd : Nat → Int), cs.length + m = 24 → TXR bg en kd ag L dd cs → j ≤ cnt → L ≤ j → XP (d + 76) 59 56 [some (vR 70), some (vR 75), some (vI v2), some (vR T), some (vI ((cs.length : Nat) : Int))] [] (hR (hX h T bg en kd ag cs.length) T D ((j : Nat) : Int) ((tkf cnt kn vn j).1) 0 l 0 (-1) L dd) (RDq h T D cnt n kn vn pn cs j) := by
  intro m
  induction m with
  | zero =>
    intro cs j L bg en kd ag l dd hm hr hj hL
    have hK0 := (TKV_k hv j).1
    have g1 : ¬ ((24 : Int) < ((cs.length : Nat) : Int)) := by omega
    have g2 : ((cs.length : Nat) : Int) ≤ 24 := by omega
    have w1 : WE (((cs.length : Nat) : Int) + 1) (((cs.length + 1 : Nat)) : Int) := by unfold WE w32; omega
    have n63 : ¬ (tkf cnt kn vn j).1 = 63 := by omega
    by_cases z : (tkf cnt kn vn j).1 = 62
    · have y : RDq h T D cnt n kn vn pn cs j (some (vI 1)) (hR (hX h T bg en kd ag cs.length) T D ((j : Nat) : Int) ((tkf cnt kn vn j).1) 0 l 0 (-1) L dd) := ⟨0, .inr cs, ⟨z, rfl⟩, rfl, bg, en, kd, ag, l, L, j, dd, by rw [z], hr, by omega⟩
      refine xpk_sound (stops := []) (n := 40) ?_
      simp only [sk_0, sk_1, sk_2, sk_3, sk_4, sk_5, sk_6, sk_7, sk_8, sk_iadd, sk_isub, sk_imul, sk_iand, sk_ior, sk_ixor, sk_ishl, sk_ishr, sk_iushr, sk_idiv, sk_irem, sk_ineg, sk_ladd, sk_lsub, sk_lmul, sk_land, sk_lor, sk_ldiv, sk_lrem, sk_lneg, sk_lshl, sk_lshr, sk_i2l, sk_l2i, sk_lcmp, sk_dupI, sk_dupR, sk_dup2L, sk_dup2I, sk_popI, sk_ifeq, sk_ifne, sk_iflt, sk_ifge, sk_ifgt, sk_ifle, sk_iceq, sk_icne, sk_iclt, sk_icge, sk_icgt, sk_icle, sk_goto, sk_getf, sk_putf, sk_gets, sk_iald, sk_lald, sk_bald, sk_aald, sk_iast, sk_last, sk_bast, sk_aast, sk_alen, sk_newa, sk_newt, sk_new, sk_cs1, sk_cs2, sk_cs3, sk_cs4, sk_cs5, sk_cs6, sk_cv1, sk_cv2, sk_cv3, sk_cv4, sk_cv5, sk_cv6, sk_ci1, sk_ci2, sk_ci3, sk_ret0, sk_retI, sk_retL, sk_retR, sk_sw, sk_oin, sk_max, sk_min, sk_abs, lI_0, lI_s, lL_0, lL_s, lR_0, lR_s, vIo_e, vLo_e, vOo_e, stW_I, stW_L, stW_R, stW_0, stW_z, okSt_0, okSt_s, hV_eq, hK_eq, okF_0, okF_1, okF_3, is01_0, is01_1, is01_i, Int.toNat_natCast, Int.reduceEq, Int.reduceLE, Int.reduceLT, Int.reduceNeg, Nat.reduceLT, not_true_eq_false, not_false_eq_true, reduceIte, Option.toList, List.cons_append, List.nil_append, List.set_cons_zero, List.set_cons_succ, List.not_mem_nil, List.mem_cons, if_false, if_true, ite_true, ite_false, and_self, and_true, true_and, Nat.reduceAdd, Nat.reduceLeDiff, Nat.reduceEqDiff, Nat.zero_add, Nat.le_refl, Nat.zero_le, or_false, false_or, Int.reduceToNat, or_true, true_or, eq_self, and_false, false_and, inR_d, nc_4, nc_5, nc_6, nc_7, nc_8, nc_16, nc_18, nc_20, nc_24, nc_32, nc_40, nc_64, nc_104, nc_120, nc_160, nc_256, nc_300, nc_330, nc_390, nc_1200, nc_1260, nc_3012, nc_9834, okSt_1i, okSt_1r, okSt_1n, List.length_cons, List.length_nil, xpk_succ cd_59_56, xpk_succ cd_59_58, xpk_succ cd_59_60, xpk_succ cd_59_63, xpk_succ cd_59_64, xpk_succ cd_59_67, xpk_succ cd_59_69, xpk_succ cd_59_72, xpk_succ cd_59_73, xpk_succ cd_59_76, xpk_succ cd_59_78, xpk_succ cd_59_81, xpk_succ cd_59_82, xpk_succ cd_59_85, xpk_succ cd_59_88, xpk_succ cd_59_91, xpk_succ cd_59_92, xpk_succ cd_59_95, xpk_succ cd_59_98, xpk_succ cd_59_99, xpk_succ cd_59_102, xpk_succ cd_59_103, hR_2, hR_3, hR_4, hR_5, hR_6, hR_7, hR_s2, hR_s3, hR_s4, hR_s5, hR_s6, hR_s7, (hR_T hb.1), (hR_sT hb.1), (R_0 (RDB_X hb)), (R_1 (RDB_X hb)), (R_T0 (RDB_X hb)), hK_R, hK_X, hb.2.1.1, hb.2.2.1.1, (GX_6 hb hx), (eq_true z), g1, g2]
      exact y
    · have g3 := z
      have hjc : j < cnt := tk_le z
      have g4 : (24 : Int) < ((cs.length + 1 : Nat) : Int) := by omega
      have g5 : ¬ ((cs.length + 1 : Nat) : Int) ≤ 24 := by omega
      have q0 := E_cl (d := d + 1) hb hk hx hv hr (show cs.length ≤ 24 by omega) hjc hL (l := l)
      obtain ⟨r1, gg, hq1, e1⟩ := XC_dt (d := d + 75) q0
      obtain ⟨hr1, o, ho, hc1⟩ := hq1
      subst hr1
      cases o with
      | inl x =>
        obtain ⟨f, jf⟩ := x
        obtain ⟨hf, bg1, en1, kd1, ag1, nC1, a1, c1, l1, L1, dd1, rfl⟩ := hc1
        have y : RDq h T D cnt n kn vn pn cs j (some (vI 0)) (hR (hX h T bg1 en1 kd1 ag1 nC1) T D a1 63 c1 l1 f (plf cnt n pn jf) L1 dd1) := ⟨1, .inl (f, jf), ⟨z, .inl (f, jf), ho, rfl⟩, hf, rfl, _, _, _, _, _, _, _, _, _, _, rfl⟩
        refine xpk_sound (stops := []) (n := 60) ?_
        simp only [sk_0, sk_1, sk_2, sk_3, sk_4, sk_5, sk_6, sk_7, sk_8, sk_iadd, sk_isub, sk_imul, sk_iand, sk_ior, sk_ixor, sk_ishl, sk_ishr, sk_iushr, sk_idiv, sk_irem, sk_ineg, sk_ladd, sk_lsub, sk_lmul, sk_land, sk_lor, sk_ldiv, sk_lrem, sk_lneg, sk_lshl, sk_lshr, sk_i2l, sk_l2i, sk_lcmp, sk_dupI, sk_dupR, sk_dup2L, sk_dup2I, sk_popI, sk_ifeq, sk_ifne, sk_iflt, sk_ifge, sk_ifgt, sk_ifle, sk_iceq, sk_icne, sk_iclt, sk_icge, sk_icgt, sk_icle, sk_goto, sk_getf, sk_putf, sk_gets, sk_iald, sk_lald, sk_bald, sk_aald, sk_iast, sk_last, sk_bast, sk_aast, sk_alen, sk_newa, sk_newt, sk_new, sk_cs1, sk_cs2, sk_cs3, sk_cs4, sk_cs5, sk_cs6, sk_cv1, sk_cv2, sk_cv3, sk_cv4, sk_cv5, sk_cv6, sk_ci1, sk_ci2, sk_ci3, sk_ret0, sk_retI, sk_retL, sk_retR, sk_sw, sk_oin, sk_max, sk_min, sk_abs, lI_0, lI_s, lL_0, lL_s, lR_0, lR_s, vIo_e, vLo_e, vOo_e, stW_I, stW_L, stW_R, stW_0, stW_z, okSt_0, okSt_s, hV_eq, hK_eq, okF_0, okF_1, okF_3, is01_0, is01_1, is01_i, Int.toNat_natCast, Int.reduceEq, Int.reduceLE, Int.reduceLT, Int.reduceNeg, Nat.reduceLT, not_true_eq_false, not_false_eq_true, reduceIte, Option.toList, List.cons_append, List.nil_append, List.set_cons_zero, List.set_cons_succ, List.not_mem_nil, List.mem_cons, if_false, if_true, ite_true, ite_false, and_self, and_true, true_and, Nat.reduceAdd, Nat.reduceLeDiff, Nat.reduceEqDiff, Nat.zero_add, Nat.le_refl, Nat.zero_le, or_false, false_or, Int.reduceToNat, or_true, true_or, eq_self, and_false, false_and, inR_d, nc_4, nc_5, nc_6, nc_7, nc_8, nc_16, nc_18, nc_20, nc_24, nc_32, nc_40, nc_64, nc_104, nc_120, nc_160, nc_256, nc_300, nc_330, nc_390, nc_1200, nc_1260, nc_3012, nc_9834, okSt_1i, okSt_1r, okSt_1n, List.length_cons, List.length_nil, xpk_succ cd_59_56, xpk_succ cd_59_58, xpk_succ cd_59_60, xpk_succ cd_59_63, xpk_succ cd_59_64, xpk_succ cd_59_67, xpk_succ cd_59_69, xpk_succ cd_59_72, xpk_succ cd_59_73, xpk_succ cd_59_76, xpk_succ cd_59_78, xpk_succ cd_59_81, xpk_succ cd_59_82, xpk_succ cd_59_85, xpk_succ cd_59_88, xpk_succ cd_59_91, xpk_succ cd_59_92, xpk_succ cd_59_95, xpk_succ cd_59_98, xpk_succ cd_59_99, xpk_succ cd_59_102, xpk_succ cd_59_103, hR_2, hR_3, hR_4, hR_5, hR_6, hR_7, hR_s2, hR_s3, hR_s4, hR_s5, hR_s6, hR_s7, (hR_T hb.1), (hR_sT hb.1), (R_0 (RDB_X hb)), (R_1 (RDB_X hb)), (R_T0 (RDB_X hb)), hK_R, hK_X, hb.2.1.1, hb.2.2.1.1, (GX_6 hb hx), z, g1, g2, g3, g4, g5, e1, hf, n63, (WE_e w1)]
        exact y
      | inr x =>
        obtain ⟨j2, cl⟩ := x
        obtain ⟨bg1, en1, kd1, ag1, l1, L1, dd1, rfl, ht1, hj1, hj2, hL1⟩ := hc1
        exfalso
        unfold CLo at ho
        rw [if_pos (show 24 ≤ cs.length by omega)] at ho
        split at ho
        · cases ho
        · split at ho
          · cases ho
          · cases ho
  | succ m ih =>
    intro cs j L bg en kd ag l dd hm hr hj hL
    have hK0 := (TKV_k hv j).1
    have g1 : ¬ ((24 : Int) < ((cs.length : Nat) : Int)) := by omega
    have g2 : ((cs.length : Nat) : Int) ≤ 24 := by omega
    have w1 : WE (((cs.length : Nat) : Int) + 1) (((cs.length + 1 : Nat)) : Int) := by unfold WE w32; omega
    have n63 : ¬ (tkf cnt kn vn j).1 = 63 := by omega
    by_cases z : (tkf cnt kn vn j).1 = 62
    · have y : RDq h T D cnt n kn vn pn cs j (some (vI 1)) (hR (hX h T bg en kd ag cs.length) T D ((j : Nat) : Int) ((tkf cnt kn vn j).1) 0 l 0 (-1) L dd) := ⟨0, .inr cs, ⟨z, rfl⟩, rfl, bg, en, kd, ag, l, L, j, dd, by rw [z], hr, by omega⟩
      refine xpk_sound (stops := []) (n := 40) ?_
      simp only [sk_0, sk_1, sk_2, sk_3, sk_4, sk_5, sk_6, sk_7, sk_8, sk_iadd, sk_isub, sk_imul, sk_iand, sk_ior, sk_ixor, sk_ishl, sk_ishr, sk_iushr, sk_idiv, sk_irem, sk_ineg, sk_ladd, sk_lsub, sk_lmul, sk_land, sk_lor, sk_ldiv, sk_lrem, sk_lneg, sk_lshl, sk_lshr, sk_i2l, sk_l2i, sk_lcmp, sk_dupI, sk_dupR, sk_dup2L, sk_dup2I, sk_popI, sk_ifeq, sk_ifne, sk_iflt, sk_ifge, sk_ifgt, sk_ifle, sk_iceq, sk_icne, sk_iclt, sk_icge, sk_icgt, sk_icle, sk_goto, sk_getf, sk_putf, sk_gets, sk_iald, sk_lald, sk_bald, sk_aald, sk_iast, sk_last, sk_bast, sk_aast, sk_alen, sk_newa, sk_newt, sk_new, sk_cs1, sk_cs2, sk_cs3, sk_cs4, sk_cs5, sk_cs6, sk_cv1, sk_cv2, sk_cv3, sk_cv4, sk_cv5, sk_cv6, sk_ci1, sk_ci2, sk_ci3, sk_ret0, sk_retI, sk_retL, sk_retR, sk_sw, sk_oin, sk_max, sk_min, sk_abs, lI_0, lI_s, lL_0, lL_s, lR_0, lR_s, vIo_e, vLo_e, vOo_e, stW_I, stW_L, stW_R, stW_0, stW_z, okSt_0, okSt_s, hV_eq, hK_eq, okF_0, okF_1, okF_3, is01_0, is01_1, is01_i, Int.toNat_natCast, Int.reduceEq, Int.reduceLE, Int.reduceLT, Int.reduceNeg, Nat.reduceLT, not_true_eq_false, not_false_eq_true, reduceIte, Option.toList, List.cons_append, List.nil_append, List.set_cons_zero, List.set_cons_succ, List.not_mem_nil, List.mem_cons, if_false, if_true, ite_true, ite_false, and_self, and_true, true_and, Nat.reduceAdd, Nat.reduceLeDiff, Nat.reduceEqDiff, Nat.zero_add, Nat.le_refl, Nat.zero_le, or_false, false_or, Int.reduceToNat, or_true, true_or, eq_self, and_false, false_and, inR_d, nc_4, nc_5, nc_6, nc_7, nc_8, nc_16, nc_18, nc_20, nc_24, nc_32, nc_40, nc_64, nc_104, nc_120, nc_160, nc_256, nc_300, nc_330, nc_390, nc_1200, nc_1260, nc_3012, nc_9834, okSt_1i, okSt_1r, okSt_1n, List.length_cons, List.length_nil, xpk_succ cd_59_56, xpk_succ cd_59_58, xpk_succ cd_59_60, xpk_succ cd_59_63, xpk_succ cd_59_64, xpk_succ cd_59_67, xpk_succ cd_59_69, xpk_succ cd_59_72, xpk_succ cd_59_73, xpk_succ cd_59_76, xpk_succ cd_59_78, xpk_succ cd_59_81, xpk_succ cd_59_82, xpk_succ cd_59_85, xpk_succ cd_59_88, xpk_succ cd_59_91, xpk_succ cd_59_92, xpk_succ cd_59_95, xpk_succ cd_59_98, xpk_succ cd_59_99, xpk_succ cd_59_102, xpk_succ cd_59_103, hR_2, hR_3, hR_4, hR_5, hR_6, hR_7, hR_s2, hR_s3, hR_s4, hR_s5, hR_s6, hR_s7, (hR_T hb.1), (hR_sT hb.1), (R_0 (RDB_X hb)), (R_1 (RDB_X hb)), (R_T0 (RDB_X hb)), hK_R, hK_X, hb.2.1.1, hb.2.2.1.1, (GX_6 hb hx), (eq_true z), g1, g2]
      exact y
    · have g3 := z
      have hjc : j < cnt := tk_le z
      have g4 : ¬ ((24 : Int) < ((cs.length + 1 : Nat) : Int)) := by omega
      have g5 : ((cs.length + 1 : Nat) : Int) ≤ 24 := by omega
      have q0 := E_cl (d := d + 1) hb hk hx hv hr (show cs.length ≤ 24 by omega) hjc hL (l := l)
      obtain ⟨r1, gg, hq1, e1⟩ := XC_dt (d := d + 75) q0
      obtain ⟨hr1, o, ho, hc1⟩ := hq1
      subst hr1
      cases o with
      | inl x =>
        obtain ⟨f, jf⟩ := x
        obtain ⟨hf, bg1, en1, kd1, ag1, nC1, a1, c1, l1, L1, dd1, rfl⟩ := hc1
        have y : RDq h T D cnt n kn vn pn cs j (some (vI 0)) (hR (hX h T bg1 en1 kd1 ag1 nC1) T D a1 63 c1 l1 f (plf cnt n pn jf) L1 dd1) := ⟨1, .inl (f, jf), ⟨z, .inl (f, jf), ho, rfl⟩, hf, rfl, _, _, _, _, _, _, _, _, _, _, rfl⟩
        refine xpk_sound (stops := []) (n := 60) ?_
        simp only [sk_0, sk_1, sk_2, sk_3, sk_4, sk_5, sk_6, sk_7, sk_8, sk_iadd, sk_isub, sk_imul, sk_iand, sk_ior, sk_ixor, sk_ishl, sk_ishr, sk_iushr, sk_idiv, sk_irem, sk_ineg, sk_ladd, sk_lsub, sk_lmul, sk_land, sk_lor, sk_ldiv, sk_lrem, sk_lneg, sk_lshl, sk_lshr, sk_i2l, sk_l2i, sk_lcmp, sk_dupI, sk_dupR, sk_dup2L, sk_dup2I, sk_popI, sk_ifeq, sk_ifne, sk_iflt, sk_ifge, sk_ifgt, sk_ifle, sk_iceq, sk_icne, sk_iclt, sk_icge, sk_icgt, sk_icle, sk_goto, sk_getf, sk_putf, sk_gets, sk_iald, sk_lald, sk_bald, sk_aald, sk_iast, sk_last, sk_bast, sk_aast, sk_alen, sk_newa, sk_newt, sk_new, sk_cs1, sk_cs2, sk_cs3, sk_cs4, sk_cs5, sk_cs6, sk_cv1, sk_cv2, sk_cv3, sk_cv4, sk_cv5, sk_cv6, sk_ci1, sk_ci2, sk_ci3, sk_ret0, sk_retI, sk_retL, sk_retR, sk_sw, sk_oin, sk_max, sk_min, sk_abs, lI_0, lI_s, lL_0, lL_s, lR_0, lR_s, vIo_e, vLo_e, vOo_e, stW_I, stW_L, stW_R, stW_0, stW_z, okSt_0, okSt_s, hV_eq, hK_eq, okF_0, okF_1, okF_3, is01_0, is01_1, is01_i, Int.toNat_natCast, Int.reduceEq, Int.reduceLE, Int.reduceLT, Int.reduceNeg, Nat.reduceLT, not_true_eq_false, not_false_eq_true, reduceIte, Option.toList, List.cons_append, List.nil_append, List.set_cons_zero, List.set_cons_succ, List.not_mem_nil, List.mem_cons, if_false, if_true, ite_true, ite_false, and_self, and_true, true_and, Nat.reduceAdd, Nat.reduceLeDiff, Nat.reduceEqDiff, Nat.zero_add, Nat.le_refl, Nat.zero_le, or_false, false_or, Int.reduceToNat, or_true, true_or, eq_self, and_false, false_and, inR_d, nc_4, nc_5, nc_6, nc_7, nc_8, nc_16, nc_18, nc_20, nc_24, nc_32, nc_40, nc_64, nc_104, nc_120, nc_160, nc_256, nc_300, nc_330, nc_390, nc_1200, nc_1260, nc_3012, nc_9834, okSt_1i, okSt_1r, okSt_1n, List.length_cons, List.length_nil, xpk_succ cd_59_56, xpk_succ cd_59_58, xpk_succ cd_59_60, xpk_succ cd_59_63, xpk_succ cd_59_64, xpk_succ cd_59_67, xpk_succ cd_59_69, xpk_succ cd_59_72, xpk_succ cd_59_73, xpk_succ cd_59_76, xpk_succ cd_59_78, xpk_succ cd_59_81, xpk_succ cd_59_82, xpk_succ cd_59_85, xpk_succ cd_59_88, xpk_succ cd_59_91, xpk_succ cd_59_92, xpk_succ cd_59_95, xpk_succ cd_59_98, xpk_succ cd_59_99, xpk_succ cd_59_102, xpk_succ cd_59_103, hR_2, hR_3, hR_4, hR_5, hR_6, hR_7, hR_s2, hR_s3, hR_s4, hR_s5, hR_s6, hR_s7, (hR_T hb.1), (hR_sT hb.1), (R_0 (RDB_X hb)), (R_1 (RDB_X hb)), (R_T0 (RDB_X hb)), hK_R, hK_X, hb.2.1.1, hb.2.2.1.1, (GX_6 hb hx), z, g1, g2, g3, g4, g5, e1, hf, n63, (WE_e w1)]
        exact y
      | inr x =>
        obtain ⟨j2, cl⟩ := x
        obtain ⟨bg1, en1, kd1, ag1, l1, L1, dd1, rfl, ht1, hj1, hj2, hL1⟩ := hc1
        have y := ih (cs ++ [cl]) j2 L1 bg1 en1 kd1 ag1 l1 dd1 (by rw [List.length_append]; show cs.length + 1 + m = 24; omega) ht1 hj2 hL1
        have el : (cs ++ [cl]).length = cs.length + 1 := List.length_append ..
        rw [el] at y
        have y := XP_mono y (Q' := RDq h T D cnt n kn vn pn cs j) (fun r g q => by
          obtain ⟨m1, out1, q1, q2⟩ := q
          exact ⟨m1 + 1, out1, ⟨z, .inr (j2, cl), ho, q1⟩, q2⟩)
        refine xpk_sound (stops := [56]) (n := 60) ?_
        simp only [sk_0, sk_1, sk_2, sk_3, sk_4, sk_5, sk_6, sk_7, sk_8, sk_iadd, sk_isub, sk_imul, sk_iand, sk_ior, sk_ixor, sk_ishl, sk_ishr, sk_iushr, sk_idiv, sk_irem, sk_ineg, sk_ladd, sk_lsub, sk_lmul, sk_land, sk_lor, sk_ldiv, sk_lrem, sk_lneg, sk_lshl, sk_lshr, sk_i2l, sk_l2i, sk_lcmp, sk_dupI, sk_dupR, sk_dup2L, sk_dup2I, sk_popI, sk_ifeq, sk_ifne, sk_iflt, sk_ifge, sk_ifgt, sk_ifle, sk_iceq, sk_icne, sk_iclt, sk_icge, sk_icgt, sk_icle, sk_goto, sk_getf, sk_putf, sk_gets, sk_iald, sk_lald, sk_bald, sk_aald, sk_iast, sk_last, sk_bast, sk_aast, sk_alen, sk_newa, sk_newt, sk_new, sk_cs1, sk_cs2, sk_cs3, sk_cs4, sk_cs5, sk_cs6, sk_cv1, sk_cv2, sk_cv3, sk_cv4, sk_cv5, sk_cv6, sk_ci1, sk_ci2, sk_ci3, sk_ret0, sk_retI, sk_retL, sk_retR, sk_sw, sk_oin, sk_max, sk_min, sk_abs, lI_0, lI_s, lL_0, lL_s, lR_0, lR_s, vIo_e, vLo_e, vOo_e, stW_I, stW_L, stW_R, stW_0, stW_z, okSt_0, okSt_s, hV_eq, hK_eq, okF_0, okF_1, okF_3, is01_0, is01_1, is01_i, Int.toNat_natCast, Int.reduceEq, Int.reduceLE, Int.reduceLT, Int.reduceNeg, Nat.reduceLT, not_true_eq_false, not_false_eq_true, reduceIte, Option.toList, List.cons_append, List.nil_append, List.set_cons_zero, List.set_cons_succ, List.not_mem_nil, List.mem_cons, if_false, if_true, ite_true, ite_false, and_self, and_true, true_and, Nat.reduceAdd, Nat.reduceLeDiff, Nat.reduceEqDiff, Nat.zero_add, Nat.le_refl, Nat.zero_le, or_false, false_or, Int.reduceToNat, or_true, true_or, eq_self, and_false, false_and, inR_d, nc_4, nc_5, nc_6, nc_7, nc_8, nc_16, nc_18, nc_20, nc_24, nc_32, nc_40, nc_64, nc_104, nc_120, nc_160, nc_256, nc_300, nc_330, nc_390, nc_1200, nc_1260, nc_3012, nc_9834, okSt_1i, okSt_1r, okSt_1n, List.length_cons, List.length_nil, xpk_succ cd_59_56, xpk_succ cd_59_58, xpk_succ cd_59_60, xpk_succ cd_59_63, xpk_succ cd_59_64, xpk_succ cd_59_67, xpk_succ cd_59_69, xpk_succ cd_59_72, xpk_succ cd_59_73, xpk_succ cd_59_76, xpk_succ cd_59_78, xpk_succ cd_59_81, xpk_succ cd_59_82, xpk_succ cd_59_85, xpk_succ cd_59_88, hR_2, hR_3, hR_4, hR_5, hR_6, hR_7, hR_s2, hR_s3, hR_s4, hR_s5, hR_s6, hR_s7, (hR_T hb.1), (hR_sT hb.1), (R_0 (RDB_X hb)), (R_1 (RDB_X hb)), (R_T0 (RDB_X hb)), hK_R, hK_X, hb.2.1.1, hb.2.2.1.1, (GX_6 hb hx), z, g1, g2, g3, e1, n63, (WE_e w1)]
        exact y
/-! a heap in normal form is the heap -/
theorem hR_self {h : AH} {T D L : Nat} {dd : Nat → Int} (h2 : ∀ j, 2 ≤ j → j ≤ 7 → hV h 70 j = vI (fI h 70 j)) (hL : hV h T 5 = vI (L : Int)) (hd : ∀ i, i < 300 → hV h D i = vI (dd i)) : hR h T D (fI h 70 2) (fI h 70 3) (fI h 70 4) (fI h 70 5) (fI h 70 6) (fI h 70 7) L dd = h := by
  refine Prod.ext rfl (Prod.ext rfl (Prod.ext rfl ?_))
  funext k j
  show (if k = 70 ∧ j = 2 then vI (fI h 70 2) else if k = 70 ∧ j = 3 then vI (fI h 70 3) else if k = 70 ∧ j = 4 then vI (fI h 70 4) else if k = 70 ∧ j = 5 then vI (fI h 70 5) else if k = 70 ∧ j = 6 then vI (fI h 70 6) else if k = 70 ∧ j = 7 then vI (fI h 70 7) else if k = T ∧ j = 5 then vI (L : Int) else if k = D ∧ j < 300 then vI (dd j) else hV h k j) = hV h k j
  by_cases z2 : k = 70 ∧ j = 2
  · rw [if_pos z2, z2.1, z2.2]; exact (h2 2 (by decide) (by decide)).symm
  rw [if_neg z2]
  by_cases z3 : k = 70 ∧ j = 3
  · rw [if_pos z3, z3.1, z3.2]; exact (h2 3 (by decide) (by decide)).symm
  rw [if_neg z3]
  by_cases z4 : k = 70 ∧ j = 4
  · rw [if_pos z4, z4.1, z4.2]; exact (h2 4 (by decide) (by decide)).symm
  rw [if_neg z4]
  by_cases z5 : k = 70 ∧ j = 5
  · rw [if_pos z5, z5.1, z5.2]; exact (h2 5 (by decide) (by decide)).symm
  rw [if_neg z5]
  by_cases z6 : k = 70 ∧ j = 6
  · rw [if_pos z6, z6.1, z6.2]; exact (h2 6 (by decide) (by decide)).symm
  rw [if_neg z6]
  by_cases z7 : k = 70 ∧ j = 7
  · rw [if_pos z7, z7.1, z7.2]; exact (h2 7 (by decide) (by decide)).symm
  rw [if_neg z7]
  by_cases y1 : k = T ∧ j = 5
  · rw [if_pos y1, y1.1, y1.2]; exact hL.symm
  rw [if_neg y1]
  by_cases y2 : k = D ∧ j < 300
  · rw [if_pos y2, y2.1]; exact (hd j y2.2).symm
  rw [if_neg y2]
theorem hX_self {h : AH} {T nC : Nat} {bg en kd ag : Nat → Int} (h6 : hV h T 6 = vI (nC : Int)) (h2 : ∀ i, i < 5 → hV h (T + 2) i = vI (bg i)) (h3 : ∀ i, i < 5 → hV h (T + 3) i = vI (en i)) (h4 : ∀ i, i < 24 → hV h (T + 4) i = vI (kd i)) (h5 : ∀ i, i < 120 → hV h (T + 5) i = vI (ag i)) : hX h T bg en kd ag nC = h := by
  refine Prod.ext rfl (Prod.ext rfl (Prod.ext rfl ?_))
  funext k j
  show (if k = T ∧ j = 6 then vI (nC : Int) else if k = T + 2 ∧ j < 5 then vI (bg j) else if k = T + 3 ∧ j < 5 then vI (en j) else if k = T + 4 ∧ j < 24 then vI (kd j) else if k = T + 5 ∧ j < 120 then vI (ag j) else hV h k j) = hV h k j
  by_cases z1 : k = T ∧ j = 6
  · rw [if_pos z1, z1.1, z1.2]; exact h6.symm
  rw [if_neg z1]
  by_cases z2 : k = T + 2 ∧ j < 5
  · rw [if_pos z2, z2.1]; exact (h2 j z2.2).symm
  rw [if_neg z2]
  by_cases z3 : k = T + 3 ∧ j < 5
  · rw [if_pos z3, z3.1]; exact (h3 j z3.2).symm
  rw [if_neg z3]
  by_cases z4 : k = T + 4 ∧ j < 24
  · rw [if_pos z4, z4.1]; exact (h4 j z4.2).symm
  rw [if_neg z4]
  by_cases z5 : k = T + 5 ∧ j < 120
  · rw [if_pos z5, z5.1]; exact (h5 j z5.2).symm
  rw [if_neg z5]
theorem hT_self {h : AH} {cnt n : Nat} {kn pn vn : Nat → Int} (h3 : hV h 71 3 = vI (cnt : Int)) (h4 : hV h 71 4 = vI (n : Int)) (a1 : ∀ i, i < 300 → hV h 72 i = vI (kn i)) (a2 : ∀ i, i < 300 → hV h 73 i = vI (pn i)) (a3 : ∀ i, i < 300 → hV h 74 i = vI (vn i)) : hT h cnt n kn pn vn = h := by
  refine Prod.ext rfl (Prod.ext rfl (Prod.ext rfl ?_))
  funext k j
  show (if k = 71 ∧ j = 3 then vI (cnt : Int) else if k = 71 ∧ j = 4 then vI (n : Int) else if k = 72 ∧ j < 300 then vI (kn j) else if k = 73 ∧ j < 300 then vI (pn j) else if k = 74 ∧ j < 300 then vI (vn j) else hV h k j) = hV h k j
  by_cases z3 : k = 71 ∧ j = 3
  · rw [if_pos z3, z3.1, z3.2]; exact h3.symm
  rw [if_neg z3]
  by_cases z4 : k = 71 ∧ j = 4
  · rw [if_pos z4, z4.1, z4.2]; exact h4.symm
  rw [if_neg z4]
  by_cases y1 : k = 72 ∧ j < 300
  · rw [if_pos y1, y1.1]; exact (a1 j y1.2).symm
  rw [if_neg y1]
  by_cases y2 : k = 73 ∧ j < 300
  · rw [if_pos y2, y2.1]; exact (a2 j y2.2).symm
  rw [if_neg y2]
  by_cases y3 : k = 74 ∧ j < 300
  · rw [if_pos y3, y3.1]; exact (a3 j y3.2).symm
  rw [if_neg y3]
/-- what stands elsewhere goes along -/
theorem hT_c {h h' : AH} {cnt n : Nat} {kn pn vn : Nat → Int} {k j : Nat} (e : hV h k j = hV h' k j) : hV (hT h cnt n kn pn vn) k j = hV (hT h' cnt n kn pn vn) k j := by
  show (if k = 71 ∧ j = 3 then vI (cnt : Int) else if k = 71 ∧ j = 4 then vI (n : Int) else if k = 72 ∧ j < 300 then vI (kn j) else if k = 73 ∧ j < 300 then vI (pn j) else if k = 74 ∧ j < 300 then vI (vn j) else hV h k j) = (if k = 71 ∧ j = 3 then vI (cnt : Int) else if k = 71 ∧ j = 4 then vI (n : Int) else if k = 72 ∧ j < 300 then vI (kn j) else if k = 73 ∧ j < 300 then vI (pn j) else if k = 74 ∧ j < 300 then vI (vn j) else hV h' k j)
  rw [e]
theorem hR_c {h h' : AH} {T D : Nat} {a b c l f p : Int} {L : Nat} {dd : Nat → Int} {k j : Nat} (e : hV h k j = hV h' k j) : hV (hR h T D a b c l f p L dd) k j = hV (hR h' T D a b c l f p L dd) k j := by
  show (if k = 70 ∧ j = 2 then vI a else if k = 70 ∧ j = 3 then vI b else if k = 70 ∧ j = 4 then vI c else if k = 70 ∧ j = 5 then vI l else if k = 70 ∧ j = 6 then vI f else if k = 70 ∧ j = 7 then vI p else if k = T ∧ j = 5 then vI (L : Int) else if k = D ∧ j < 300 then vI (dd j) else hV h k j) = (if k = 70 ∧ j = 2 then vI a else if k = 70 ∧ j = 3 then vI b else if k = 70 ∧ j = 4 then vI c else if k = 70 ∧ j = 5 then vI l else if k = 70 ∧ j = 6 then vI f else if k = 70 ∧ j = 7 then vI p else if k = T ∧ j = 5 then vI (L : Int) else if k = D ∧ j < 300 then vI (dd j) else hV h' k j)
  rw [e]
theorem hX_c {h h' : AH} {T nC : Nat} {bg en kd ag : Nat → Int} {k j : Nat} (e : hV h k j = hV h' k j) : hV (hX h T bg en kd ag nC) k j = hV (hX h' T bg en kd ag nC) k j := by
  show (if k = T ∧ j = 6 then vI (nC : Int) else if k = T + 2 ∧ j < 5 then vI (bg j) else if k = T + 3 ∧ j < 5 then vI (en j) else if k = T + 4 ∧ j < 24 then vI (kd j) else if k = T + 5 ∧ j < 120 then vI (ag j) else hV h k j) = (if k = T ∧ j = 6 then vI (nC : Int) else if k = T + 2 ∧ j < 5 then vI (bg j) else if k = T + 3 ∧ j < 5 then vI (en j) else if k = T + 4 ∧ j < 24 then vI (kd j) else if k = T + 5 ∧ j < 120 then vI (ag j) else hV h' k j)
  rw [e]
theorem hT_hR {h : AH} {T D : Nat} (ht : TD T D) {a b c l f p : Int} {L : Nat} {dd : Nat → Int} {cnt n : Nat} {kn pn vn : Nat → Int} : hT (hR h T D a b c l f p L dd) cnt n kn pn vn = hR (hT h cnt n kn pn vn) T D a b c l f p L dd := by
  have y := TD_n ht
  refine Prod.ext rfl (Prod.ext rfl (Prod.ext rfl ?_))
  funext k j
  show hV (hT (hR h T D a b c l f p L dd) cnt n kn pn vn) k j = hV (hR (hT h cnt n kn pn vn) T D a b c l f p L dd) k j
  by_cases z : k = 71 ∨ k = 72 ∨ k = 73 ∨ k = 74
  · rw [hR_n (h := hT h cnt n kn pn vn) (by omega) (by omega) (by omega)]
    exact hT_c (hR_n (by omega) (by omega) (by omega))
  · rw [hT_n (h := hR h T D a b c l f p L dd) (by omega) (by omega)]
    exact hR_c (hT_n (by omega) (by omega)).symm
theorem hT_hX {h : AH} {T nC : Nat} (hT0 : T ≤ 40) {bg en kd ag : Nat → Int} {cnt n : Nat} {kn pn vn : Nat → Int} : hT (hX h T bg en kd ag nC) cnt n kn pn vn = hX (hT h cnt n kn pn vn) T bg en kd ag nC := by
  refine Prod.ext rfl (Prod.ext rfl (Prod.ext rfl ?_))
  funext k j
  show hV (hT (hX h T bg en kd ag nC) cnt n kn pn vn) k j = hV (hX (hT h cnt n kn pn vn) T bg en kd ag nC) k j
  by_cases z : k = 71 ∨ k = 72 ∨ k = 73 ∨ k = 74
  · rw [hX_n (h := hT h cnt n kn pn vn) (by omega) (by omega)]
    exact hT_c (hX_n (by omega) (by omega))
  · rw [hT_n (h := hX h T bg en kd ag nC) (by omega) (by omega)]
    exact hX_c (hT_n (by omega) (by omega)).symm
theorem up5 {g : Nat → Int} : ∀ w, w < 5 → (upF (upF (upF (upF (upF g 0 (-1)) 1 (-1)) 2 (-1)) 3 (-1)) 4 (-1)) w = -1 := by
  intro w hw
  have : w = 0 ∨ w = 1 ∨ w = 2 ∨ w = 3 ∨ w = 4 := by omega
  rcases this with rfl | rfl | rfl | rfl | rfl
  · rw [upF_ne (by decide), upF_ne (by decide), upF_ne (by decide), upF_ne (by decide), upF_at]
  · rw [upF_ne (by decide), upF_ne (by decide), upF_ne (by decide), upF_at]
  · rw [upF_ne (by decide), upF_ne (by decide), upF_at]
  · rw [upF_ne (by decide), upF_at]
  · rw [upF_at]
theorem GX_s6z {h : AH} {T D : Nat} (hb : RDB h T D) (hx : TXH h T) {bg en kd ag : Nat → Int} {nC : Nat} {a b c l f p : Int} {L : Nat} {dd : Nat → Int} : hSet (hR (hX h T bg en kd ag nC) T D a b c l f p L dd) T 6 (vI 0) = hR (hX h T bg en kd ag 0) T D a b c l f p L dd := GX_s6 (x := 0) hb hx
theorem hR_sTz {h : AH} {T D : Nat} (ht : TD T D) {a b c l f p : Int} {L : Nat} {dd : Nat → Int} : hSet (hR h T D a b c l f p L dd) T 5 (vI 0) = hR h T D a b c l f p 0 dd := hR_sT (x := 0) ht
set_option maxHeartbeats 8000000 in
theorem E_clr {d : Nat} {h : AH} {T D : Nat} (hb : RDB h T D) (hx : TXH h T) {bg en kd ag : Nat → Int} {nC : Nat} {a b c l f p : Int} {L : Nat} {dd : Nat → Int} (Q : Option AV → AH → Prop) : XC (d + 1) 87 [vR T] (hR (hX h T bg en kd ag nC) T D a b c l f p L dd) Q = Q none (hR (hX h T (upF (upF (upF (upF (upF bg 0 (-1)) 1 (-1)) 2 (-1)) 3 (-1)) 4 (-1)) (upF (upF (upF (upF (upF en 0 (-1)) 1 (-1)) 2 (-1)) 3 (-1)) 4 (-1)) kd ag 0) T D a b c l f p 0 dd) := by
  refine XC_eq (Nat.le_of_ble_eq_true rfl) ?_ Q
  show XP d 87 0 [some (vR T), none] [] (hR (hX h T bg en kd ag nC) T D a b c l f p L dd) _
  have t2 : ¬ (T = T + 2) := by omega
  have t3 : ¬ (T = T + 3) := by omega
  refine xpk_sound (stops := []) (n := 120) ?_
  simp only [sk_0, sk_1, sk_2, sk_3, sk_4, sk_5, sk_6, sk_7, sk_8, sk_iadd, sk_isub, sk_imul, sk_iand, sk_ior, sk_ixor, sk_ishl, sk_ishr, sk_iushr, sk_idiv, sk_irem, sk_ineg, sk_ladd, sk_lsub, sk_lmul, sk_land, sk_lor, sk_ldiv, sk_lrem, sk_lneg, sk_lshl, sk_lshr, sk_i2l, sk_l2i, sk_lcmp, sk_dupI, sk_dupR, sk_dup2L, sk_dup2I, sk_popI, sk_ifeq, sk_ifne, sk_iflt, sk_ifge, sk_ifgt, sk_ifle, sk_iceq, sk_icne, sk_iclt, sk_icge, sk_icgt, sk_icle, sk_goto, sk_getf, sk_putf, sk_gets, sk_iald, sk_lald, sk_bald, sk_aald, sk_iast, sk_last, sk_bast, sk_aast, sk_alen, sk_newa, sk_newt, sk_new, sk_cs1, sk_cs2, sk_cs3, sk_cs4, sk_cs5, sk_cs6, sk_cv1, sk_cv2, sk_cv3, sk_cv4, sk_cv5, sk_cv6, sk_ci1, sk_ci2, sk_ci3, sk_ret0, sk_retI, sk_retL, sk_retR, sk_sw, sk_oin, sk_max, sk_min, sk_abs, lI_0, lI_s, lL_0, lL_s, lR_0, lR_s, vIo_e, vLo_e, vOo_e, stW_I, stW_L, stW_R, stW_0, stW_z, okSt_0, okSt_s, hV_eq, hK_eq, okF_0, okF_1, okF_3, is01_0, is01_1, is01_i, Int.toNat_natCast, Int.reduceEq, Int.reduceLE, Int.reduceLT, Int.reduceNeg, Nat.reduceLT, not_true_eq_false, not_false_eq_true, reduceIte, Option.toList, List.cons_append, List.nil_append, List.set_cons_zero, List.set_cons_succ, List.not_mem_nil, List.mem_cons, if_false, if_true, ite_true, ite_false, and_self, and_true, true_and, Nat.reduceAdd, Nat.reduceLeDiff, Nat.reduceEqDiff, Nat.zero_add, Nat.le_refl, Nat.zero_le, or_false, false_or, Int.reduceToNat, or_true, true_or, eq_self, and_false, false_and, inR_d, nc_4, nc_5, nc_6, nc_7, nc_8, nc_16, nc_18, nc_20, nc_24, nc_32, nc_40, nc_64, nc_104, nc_120, nc_160, nc_256, nc_300, nc_330, nc_390, nc_1200, nc_1260, nc_3012, nc_9834, okSt_1i, okSt_1r, okSt_1n, List.length_cons, List.length_nil, xpk_succ cd_87_0, xpk_succ cd_87_1, xpk_succ cd_87_2, xpk_succ cd_87_5, xpk_succ cd_87_6, xpk_succ cd_87_7, xpk_succ cd_87_10, xpk_succ cd_87_11, xpk_succ cd_87_12, xpk_succ cd_87_13, xpk_succ cd_87_14, xpk_succ cd_87_17, xpk_succ cd_87_18, xpk_succ cd_87_21, xpk_succ cd_87_22, xpk_succ cd_87_23, xpk_succ cd_87_24, xpk_succ cd_87_25, xpk_succ cd_87_28, xpk_succ cd_87_29, xpk_succ cd_87_30, xpk_succ cd_87_31, xpk_succ cd_87_34, xpk_succ cd_87_37, t2, t3, (hR_sTz hb.1), (GX_s6z hb hx), (GX_1 hb hx), (GX_2 hb hx), hK_R, hK_X, hb.2.2.1.1, hx.2.1, hx.2.2.1, (GX_sbg hb hx (i := 0) (by decide)), (GX_sbg hb hx (i := 1) (by decide)), (GX_sbg hb hx (i := 2) (by decide)), (GX_sbg hb hx (i := 3) (by decide)), (GX_sbg hb hx (i := 4) (by decide)), (GX_sen hb hx (i := 0) (by decide)), (GX_sen hb hx (i := 1) (by decide)), (GX_sen hb hx (i := 2) (by decide)), (GX_sen hb hx (i := 3) (by decide)), (GX_sen hb hx (i := 4) (by decide)), (show w32 ((0 : Int) + 1) = 1 by decide), (show w32 ((1 : Int) + 1) = 2 by decide), (show w32 ((2 : Int) + 1) = 3 by decide), (show w32 ((3 : Int) + 1) = 4 by decide), (show w32 ((4 : Int) + 1) = 5 by decide)]
theorem TXR_0 {bg en kd ag dd : Nat → Int} : TXR (upF (upF (upF (upF (upF bg 0 (-1)) 1 (-1)) 2 (-1)) 3 (-1)) 4 (-1)) (upF (upF (upF (upF (upF en 0 (-1)) 1 (-1)) 2 (-1)) 3 (-1)) 4 (-1)) kd ag 0 dd [] := ⟨fun w hw => Or.inl ⟨up5 w hw, rfl⟩, fun i cl h => by cases h⟩
noncomputable def jV_ (k i : Nat) (v : Int) : Bool := match gS JB k with
  | some s => (match s.2.2.1[i]? with
    | some (.inl (.inl (.inl x))) => decide (x = v)
    | _ => false)
  | none => false
theorem jV_s {h : AH} {k i : Nat} {v : Int} (hJ : k_H JB h) (h1 : jV_ k i v = true) : hV h k i = vI v := by
  unfold jV_ at h1
  split at h1
  · rename_i s hs
    have hC := hJ.2.2 k s hs
    split at h1
    · rename_i x he
      have e := of_decide_eq_true h1
      subst e
      exact (hC.2.1 i _ he).2
    · cases h1
  · cases h1
theorem RDB_J {h : AH} {T D : Nat} (hJ : k_H JB h) (ht : TD T D) : RDB (hSet h 70 1 (vR T)) T D ∧ TXH (hSet h 70 1 (vR T)) T := by
  have n70 : ∀ k i, k ≠ 70 → hV (hSet h 70 1 (vR T)) k i = hV h k i := fun k i hk => if_neg (fun y => hk y.1)
  have n71 : ∀ k i, i ≠ 1 → hV (hSet h 70 1 (vR T)) k i = hV h k i := fun k i hi => if_neg (fun y => hi y.2)
  have a71 : ∀ k i, k = 70 ∧ i = 1 → hV (hSet h 70 1 (vR T)) k i = vR T := fun k i hk => if_pos hk
  have s0 : hK h 1000003 = (20, 5) ∧ hV h 1000003 0 = vI 127 ∧ hV h 1000003 1 = vI 127 ∧ hV h 1000003 2 = vI 127 ∧ hV h 1000003 3 = vI 128 ∧ hV h 1000003 4 = vI 224 := ⟨jK_s hJ (by decide +kernel), jV_s hJ (by decide +kernel), jV_s hJ (by decide +kernel), jV_s hJ (by decide +kernel), jV_s hJ (by decide +kernel), jV_s hJ (by decide +kernel)⟩
  have s0 : hK (hSet h 70 1 (vR T)) 1000003 = (20, 5) ∧ hV (hSet h 70 1 (vR T)) 1000003 0 = vI 127 ∧ hV (hSet h 70 1 (vR T)) 1000003 1 = vI 127 ∧ hV (hSet h 70 1 (vR T)) 1000003 2 = vI 127 ∧ hV (hSet h 70 1 (vR T)) 1000003 3 = vI 128 ∧ hV (hSet h 70 1 (vR T)) 1000003 4 = vI 224 := by
    rw [n70 _ _ (by decide), n70 _ _ (by decide), n70 _ _ (by decide), n70 _ _ (by decide), n70 _ _ (by decide)]; exact s0
  have s1 : hK (hSet h 70 1 (vR T)) 70 = (4, 0) ∧ hV (hSet h 70 1 (vR T)) 70 0 = vR 71 ∧ hV (hSet h 70 1 (vR T)) 70 1 = vR T := ⟨K_70 (h := h) hJ, by rw [n71 70 0 (by decide)]; exact F_70_0 hJ, a71 70 1 ⟨rfl, rfl⟩⟩
  refine ⟨⟨ht, s1, ?_, s0⟩, ?_⟩
  · rcases ht with ⟨rfl, rfl⟩ | ⟨rfl, rfl⟩ | ⟨rfl, rfl⟩ | ⟨rfl, rfl⟩
    · exact ⟨K_22 (h := h) hJ, (n70 _ _ (by decide)).trans (F_22_0 hJ), K_23 (h := h) hJ⟩
    · exact ⟨K_28 (h := h) hJ, (n70 _ _ (by decide)).trans (F_28_0 hJ), K_29 (h := h) hJ⟩
    · exact ⟨K_34 (h := h) hJ, (n70 _ _ (by decide)).trans (F_34_0 hJ), K_35 (h := h) hJ⟩
    · exact ⟨K_40 (h := h) hJ, (n70 _ _ (by decide)).trans (F_40_0 hJ), K_41 (h := h) hJ⟩
  · rcases ht with ⟨rfl, rfl⟩ | ⟨rfl, rfl⟩ | ⟨rfl, rfl⟩ | ⟨rfl, rfl⟩
    · exact ⟨⟨(n70 _ _ (by decide)).trans (F_22_1 hJ), (n70 _ _ (by decide)).trans (F_22_2 hJ), (n70 _ _ (by decide)).trans (F_22_3 hJ), (n70 _ _ (by decide)).trans (F_22_4 hJ)⟩, K_24 (h := h) hJ, K_25 (h := h) hJ, K_26 (h := h) hJ, K_27 (h := h) hJ⟩
    · exact ⟨⟨(n70 _ _ (by decide)).trans (F_28_1 hJ), (n70 _ _ (by decide)).trans (F_28_2 hJ), (n70 _ _ (by decide)).trans (F_28_3 hJ), (n70 _ _ (by decide)).trans (F_28_4 hJ)⟩, K_30 (h := h) hJ, K_31 (h := h) hJ, K_32 (h := h) hJ, K_33 (h := h) hJ⟩
    · exact ⟨⟨(n70 _ _ (by decide)).trans (F_34_1 hJ), (n70 _ _ (by decide)).trans (F_34_2 hJ), (n70 _ _ (by decide)).trans (F_34_3 hJ), (n70 _ _ (by decide)).trans (F_34_4 hJ)⟩, K_36 (h := h) hJ, K_37 (h := h) hJ, K_38 (h := h) hJ, K_39 (h := h) hJ⟩
    · exact ⟨⟨(n70 _ _ (by decide)).trans (F_40_1 hJ), (n70 _ _ (by decide)).trans (F_40_2 hJ), (n70 _ _ (by decide)).trans (F_40_3 hJ), (n70 _ _ (by decide)).trans (F_40_4 hJ)⟩, K_42 (h := h) hJ, K_43 (h := h) hJ, K_44 (h := h) hJ, K_45 (h := h) hJ⟩
