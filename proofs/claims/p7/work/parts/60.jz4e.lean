set_option maxHeartbeats 2000000 in
theorem bh_A {β J n c d w a m : Nat} {h0 hb h : AH} {tk z : Int} {L : List Int} (hJ : J < 4) (hn : n < 24) (hs : PS β J n c h0 hb h w a tk L (opl L) 1 (qkd L false)) (hm : mdl L = some m) (hc : chn L) (ho : opl L ≤ 8) (ht : tk ≠ 0) (hw : w + L.length + 1 ≤ a) (ha : a ≤ 300) (hz : (6 ≤ z ∧ z ≤ 9) ∨ (10 ≤ z ∧ z ≤ 15 ∧ (m = 1 ∨ m = 2)) ∨ ((z = 21 ∨ z = 22) ∧ m = 3)) : XP (d + 5) 221 5 [some (vR 76), some (vI z), none, none] [] h (BHd β J n c h0 hb h (2 * (301 - a) + tz tk)) := by
  obtain ⟨sp, sr⟩ := bt_s hz
  have zr := bt_rg hz
  obtain ⟨⟨s1, ⟨r1, r2, r3, r4, r5, r6, r7⟩, s3⟩, s4⟩ := id hs
  obtain ⟨-, k1, -⟩ := rdF s1.1
  obtain ⟨r, h1, ⟨rfl, w', m', tr', p1, p2, p3, p4⟩, E2⟩ := XC_dt (X_st (d := d + 3) (least := rk z) (m0 := m) hJ hn sr hs hm sp ho (w_303 hw ha))
  obtain ⟨q1, q2, q3⟩ := stl_c (least := rk z) L hc
  have q4 := stl_r sr L
  generalize stl (rk z) L = L' at *
  obtain ⟨m'', g1, g2, g3⟩ := bt_p (tk := tk) (L := L) hz p2 p3 q4
  have hl := len_71 q1 (Nat.le_trans q2 ho)
  obtain ⟨a2, b1, -⟩ := ln_5 hl
  obtain ⟨⟨u1, ⟨x1, x2, x3, x4, x5, x6, x7⟩, u3⟩, u4⟩ := id p1
  obtain ⟨⟨i2, i3, i4, i5⟩, j1, j2, j3, j4, j5⟩ := rdF u1.1
  have t2 := PS_18 (wh' := 0) (PS_pu (o := z) p1 (l_160 hl) zr) (by decide)
  obtain ⟨⟨v1, ⟨-, -, v3, -⟩, -⟩, -⟩ := id t2
  obtain ⟨-, l1, -⟩ := rdF v1.1
  obtain ⟨r, h3, ⟨rfl, n1, a', tk', n2, n3, n4, n5, n6, n7, n8⟩, E3⟩ := XC_dt (X_nt (d := d + 3) v1.1 v1.2.1.2 v3 ha)
  have t3 := PS_nt t2 n1 n2 n3
  rw [g2, ← g3] at t3
  have y : BHd β J n c h0 hb h (2 * (301 - a) + tz tk) (some (vI 1)) h3 := Or.inr ⟨rfl, _, 0, mu_d ht n4 n6 n5, Or.inl rfl, w', a', tk', z :: L', m'', t3, g1, ⟨q1, Or.inr q4⟩, by rw [g3]; exact Nat.le_trans q2 ho, bd_d (s_a p4 hw) n4 n6, n5, rfl⟩
  have zn : ¬ z < 0 := Int.not_lt.mpr zr.1
  refine xpk_sound (stops := []) (n := 60) ?_
  simp only [sk_0, sk_1, sk_2, sk_3, sk_4, sk_5, sk_6, sk_7, sk_8, sk_iadd, sk_isub, sk_imul, sk_iand, sk_ior, sk_ixor, sk_ishl, sk_ishr, sk_iushr, sk_idiv, sk_irem, sk_ineg, sk_ladd, sk_lsub, sk_lmul, sk_land, sk_lor, sk_ldiv, sk_lrem, sk_lneg, sk_lshl, sk_lshr, sk_i2l, sk_l2i, sk_lcmp, sk_dupI, sk_dupR, sk_dup2L, sk_dup2I, sk_popI, sk_ifeq, sk_ifne, sk_iflt, sk_ifge, sk_ifgt, sk_ifle, sk_iceq, sk_icne, sk_iclt, sk_icge, sk_icgt, sk_icle, sk_goto, sk_getf, sk_putf, sk_gets, sk_iald, sk_lald, sk_bald, sk_aald, sk_iast, sk_last, sk_bast, sk_aast, sk_alen, sk_newa, sk_newt, sk_new, sk_cs1, sk_cs2, sk_cs3, sk_cs4, sk_cs5, sk_cs6, sk_cv1, sk_cv2, sk_cv3, sk_cv4, sk_cv5, sk_cv6, sk_ci1, sk_ci2, sk_ci3, sk_ret0, sk_retI, sk_retL, sk_retR, sk_sw, sk_oin, sk_max, sk_min, sk_abs, lI_0, lI_s, lL_0, lL_s, lR_0, lR_s, vIo_e, vLo_e, vOo_e, stW_I, stW_L, stW_R, stW_0, stW_z, okSt_0, okSt_s, hV_eq, hK_eq, okF_0, okF_1, okF_3, is01_0, is01_1, is01_i, Int.toNat_natCast, Int.reduceEq, Int.reduceLE, Int.reduceLT, Int.reduceNeg, Nat.reduceLT, not_true_eq_false, not_false_eq_true, reduceIte, Option.toList, List.cons_append, List.nil_append, List.set_cons_zero, List.set_cons_succ, List.not_mem_nil, List.mem_cons, if_false, if_true, ite_true, ite_false, and_self, and_true, true_and, Nat.reduceAdd, Nat.reduceLeDiff, Nat.reduceEqDiff, Nat.zero_add, Nat.le_refl, Nat.zero_le, or_false, false_or, Int.reduceToNat, or_true, true_or, eq_self, and_false, false_and, inR_d, nc_4, nc_5, nc_6, nc_7, nc_8, nc_16, nc_18, nc_20, nc_24, nc_32, nc_40, nc_64, nc_104, nc_120, nc_160, nc_256, nc_300, nc_330, nc_390, nc_1200, nc_1260, nc_3012, nc_9834, okSt_1i, okSt_1r, okSt_1n, List.length_cons, List.length_nil, xpk_succ cd_221_5, xpk_succ cd_221_6, xpk_succ cd_221_9, xpk_succ cd_221_10, xpk_succ cd_221_11, xpk_succ cd_221_14, xpk_succ cd_221_17, xpk_succ cd_221_18, xpk_succ cd_221_21, xpk_succ cd_221_22, xpk_succ cd_221_25, xpk_succ cd_221_26, xpk_succ cd_221_27, xpk_succ cd_221_28, xpk_succ cd_221_29, xpk_succ cd_221_32, xpk_succ cd_221_33, xpk_succ cd_221_34, xpk_succ cd_221_37, xpk_succ cd_221_38, xpk_succ cd_221_39, xpk_succ cd_221_42, xpk_succ cd_221_43, xpk_succ cd_221_46, xpk_succ cd_221_47, zn, k1, X_rk, E2, i4, j1, j4, x5, b1, a2, l1, E3]
  exact y
/-- a part of an if -/
theorem pa_p {m m' : Nat} {tr' : Bool} {op z : Int} {L'' : List Int} (hz : (z = 42 ∧ op = 41 ∧ m = 3) ∨ (z = 43 ∧ op = 42)) (hmm : op ≠ 41 → m = 0) (h1 : mdl (op :: L'') = some m') (h2 : SPc 1 m m' tr') : mdl (z :: L'') = some 0 ∧ qkd (op :: L'') tr' = (hvl (z :: L''), htl (z :: L'')) ∧ opl (op :: L'') = opl (z :: L'') := by
  obtain ⟨mm, g1, g2⟩ := mdl_c h1
  rcases hz with ⟨rfl, rfl, rfl⟩ | ⟨rfl, rfl⟩
  · have e : m' = 1 := by injection g2 with g2; exact g2.symm
    subst e
    have e2 : tr' = true := by
      rcases SP_3 h2 (by decide) with ⟨-, q⟩ | ⟨q, -⟩
      · exact absurd q (by decide)
      · exact q
    subst e2
    refine ⟨mdl_p g1 rfl, ?_, rfl⟩
    show (hvl (41 :: L''), htl (41 :: L'') + 1) = (hvl (42 :: L''), htl (42 :: L''))
    show (hvo 41 + hvl L'', hto 41 + htl L'' + 1) = (hvo 42 + hvl L'', hto 42 + htl L'')
    rw [show hvo 41 = 0 from rfl, show hto 41 = 0 from rfl, show hvo 42 = 0 from rfl, show hto 42 = 1 from rfl, Nat.zero_add, Nat.zero_add, Nat.add_comm 1]
  · have e0 := hmm (by decide)
    subst e0
    obtain ⟨rfl, -⟩ := SP_0 h2 (by decide)
    refine ⟨mdl_p g1 rfl, ?_, rfl⟩
    show (hvo 42 + hvl L'' + 1, hto 42 + htl L'') = (hvo 43 + hvl L'', hto 43 + htl L'')
    rw [show hvo 42 = 0 from rfl, show hto 42 = 1 from rfl, show hvo 43 = 1 from rfl, show hto 43 = 1 from rfl, Nat.zero_add, Nat.add_comm 1 (hvl L'')]
set_option maxHeartbeats 2000000 in
theorem bh_B {β J n c d w a m : Nat} {h0 hb h : AH} {tk z zo : Int} {L : List Int} (hJ : J < 4) (hn : n < 24) (hs : PS β J n c h0 hb h w a tk L (opl L) 1 (qkd L false)) (hm : mdl L = some m) (hc : chn L) (ho : opl L ≤ 8) (ht : tk ≠ 0) (hw : w + L.length + 1 ≤ a) (ha : a ≤ 300) (hz : (z = 42 ∧ opN L = 41 ∧ m = 3) ∨ (z = 43 ∧ opN L = 42)) : XP (d + 5) 221 59 [some (vR 76), some (vI zo), some (vI (opN L)), some (vI z)] [] h (BHd β J n c h0 hb h (2 * (301 - a) + tz tk)) := by
  have mo := opN_m L m hm
  obtain ⟨zr, zp, hop, zo4, hop2⟩ := pa_rg hz
  have hmm : opN L ≠ 41 → m = 0 := fun q => by
    rcases Nat.eq_zero_or_pos m with e | e
    · exact e
    · exact absurd (mo.2 (by omega)) q
  have sp : SPc 1 m m false := by
    rcases hz with ⟨-, -, rfl⟩ | ⟨-, q⟩
    · exact Or.inr (Or.inr (Or.inr ⟨by decide, rfl, Or.inl ⟨rfl, rfl⟩⟩))
    · have := hmm (by rw [q]; decide)
      subst this
      exact Or.inr (Or.inr (Or.inl ⟨by decide, rfl, rfl, rfl⟩))
  obtain ⟨-, k1, -⟩ := rdF hs.1.1.1
  obtain ⟨r, h1, ⟨rfl, w', m', tr', p1, p2, p3, p4⟩, E2⟩ := XC_dt (X_st (d := d + 3) (least := 1) (m0 := m) hJ hn (by decide) hs hm sp ho (w_303 hw ha))
  obtain ⟨q1, q2, q3⟩ := stl_c (least := 1) L hc
  obtain ⟨L'', eL⟩ := (stl_1 L).2.1 hop
  rw [eL] at p1 p2 p4 q1 q2 q3
  generalize opN L = op at *
  obtain ⟨g1, g2, g3⟩ := pa_p hz hmm p2 p3
  have hl := len_71 q1 (Nat.le_trans q2 ho)
  obtain ⟨a2, b1, -⟩ := ln_5 (l := L''.length) (Nat.le_of_succ_le hl)
  obtain ⟨⟨u1, ⟨x1, x2, x3, x4, x5, x6, x7⟩, u3⟩, u4⟩ := id p1
  obtain ⟨⟨i2, i3, i4, i5⟩, j1, j2, j3, j4, j5⟩ := rdF u1.1
  have E4 := fun Q => X_oa (d := d + 4) u1.1 u3 (Nat.le_trans hl (by decide)) x5 Q
  have eo : oAt (op :: L'') = (L''.length : Int) := if_pos hop
  rw [eo] at E4
  have t2 := PS_18 (wh' := 0) (PS_rp (o' := z) p1 (l_160 (Nat.le_of_succ_le hl)) zr) (by decide)
  obtain ⟨⟨v1, ⟨-, -, v3, -⟩, -⟩, -⟩ := id t2
  obtain ⟨-, l1, -⟩ := rdF v1.1
  obtain ⟨r, h3, ⟨rfl, n1, a', tk', n2, n3, n4, n5, n6, n7, n8⟩, E3⟩ := XC_dt (X_nt (d := d + 3) v1.1 v1.2.1.2 v3 ha)
  have t3 := PS_nt t2 n1 n2 n3
  rw [g2, g3] at t3
  have y : BHd β J n c h0 hb h (2 * (301 - a) + tz tk) (some (vI 1)) h3 := Or.inr ⟨rfl, _, 0, mu_d ht n4 n6 n5, Or.inl rfl, w', a', tk', z :: L'', 0, t3, g1, ⟨q1.1, Or.inl (opo_1 zo4)⟩, by rw [← g3]; exact Nat.le_trans q2 ho, bd_d (s_b p4 hw ha).1 n4 n6, n5, rfl⟩
  have zn : (0 : Int) ≤ z := zr.1
  refine xpk_sound (stops := []) (n := 60) ?_
  simp only [sk_0, sk_1, sk_2, sk_3, sk_4, sk_5, sk_6, sk_7, sk_8, sk_iadd, sk_isub, sk_imul, sk_iand, sk_ior, sk_ixor, sk_ishl, sk_ishr, sk_iushr, sk_idiv, sk_irem, sk_ineg, sk_ladd, sk_lsub, sk_lmul, sk_land, sk_lor, sk_ldiv, sk_lrem, sk_lneg, sk_lshl, sk_lshr, sk_i2l, sk_l2i, sk_lcmp, sk_dupI, sk_dupR, sk_dup2L, sk_dup2I, sk_popI, sk_ifeq, sk_ifne, sk_iflt, sk_ifge, sk_ifgt, sk_ifle, sk_iceq, sk_icne, sk_iclt, sk_icge, sk_icgt, sk_icle, sk_goto, sk_getf, sk_putf, sk_gets, sk_iald, sk_lald, sk_bald, sk_aald, sk_iast, sk_last, sk_bast, sk_aast, sk_alen, sk_newa, sk_newt, sk_new, sk_cs1, sk_cs2, sk_cs3, sk_cs4, sk_cs5, sk_cs6, sk_cv1, sk_cv2, sk_cv3, sk_cv4, sk_cv5, sk_cv6, sk_ci1, sk_ci2, sk_ci3, sk_ret0, sk_retI, sk_retL, sk_retR, sk_sw, sk_oin, sk_max, sk_min, sk_abs, lI_0, lI_s, lL_0, lL_s, lR_0, lR_s, vIo_e, vLo_e, vOo_e, stW_I, stW_L, stW_R, stW_0, stW_z, okSt_0, okSt_s, hV_eq, hK_eq, okF_0, okF_1, okF_3, is01_0, is01_1, is01_i, Int.toNat_natCast, Int.reduceEq, Int.reduceLE, Int.reduceLT, Int.reduceNeg, Nat.reduceLT, not_true_eq_false, not_false_eq_true, reduceIte, Option.toList, List.cons_append, List.nil_append, List.set_cons_zero, List.set_cons_succ, List.not_mem_nil, List.mem_cons, if_false, if_true, ite_true, ite_false, and_self, and_true, true_and, Nat.reduceAdd, Nat.reduceLeDiff, Nat.reduceEqDiff, Nat.zero_add, Nat.le_refl, Nat.zero_le, or_false, false_or, Int.reduceToNat, or_true, true_or, eq_self, and_false, false_and, inR_d, nc_4, nc_5, nc_6, nc_7, nc_8, nc_16, nc_18, nc_20, nc_24, nc_32, nc_40, nc_64, nc_104, nc_120, nc_160, nc_256, nc_300, nc_330, nc_390, nc_1200, nc_1260, nc_3012, nc_9834, okSt_1i, okSt_1r, okSt_1n, List.length_cons, List.length_nil, xpk_succ cd_221_59, xpk_succ cd_221_60, xpk_succ cd_221_63, xpk_succ cd_221_64, xpk_succ cd_221_65, xpk_succ cd_221_66, xpk_succ cd_221_67, xpk_succ cd_221_70, xpk_succ cd_221_71, xpk_succ cd_221_74, xpk_succ cd_221_75, xpk_succ cd_221_78, xpk_succ cd_221_79, xpk_succ cd_221_82, xpk_succ cd_221_83, xpk_succ cd_221_84, xpk_succ cd_221_85, xpk_succ cd_221_86, xpk_succ cd_221_89, xpk_succ cd_221_90, xpk_succ cd_221_93, xpk_succ cd_221_138, xpk_succ cd_221_139, zn, zp, k1, E2, i4, j1, j4, E4, b1, l1, E3]
  exact y
theorem en_n {op : Nat} (h : op ≤ 8) : w32 (((1 + op : Nat) : Int) - 1) = (op : Int) := by unfold w32; omega
set_option maxHeartbeats 2000000 in
theorem bh_C {β J n c d w a m : Nat} {h0 hb h : AH} {tk zo : Int} {L : List Int} (hJ : J < 4) (hn : n < 24) (hs : PS β J n c h0 hb h w a tk L (opl L) 1 (qkd L false)) (hm : mdl L = some m) (hc : chn L) (ho : opl L ≤ 8) (ht : tk ≠ 0) (hw : w + L.length + 1 ≤ a) (ha : a ≤ 300) (hz : opN L = 40 ∨ opN L = 43) : XP (d + 5) 221 59 [some (vR 76), some (vI zo), some (vI (opN L)), some (vI 0)] [] h (BHd β J n c h0 hb h (2 * (301 - a) + tz tk)) := by
  have mo := opN_m L m hm
  obtain ⟨hop, hop2⟩ := pc_rg hz
  have m0 : m = 0 := by
    rcases Nat.eq_zero_or_pos m with e | e
    · exact e
    · exact absurd (mo.2 (Nat.ne_of_gt e)) hop2
  subst m0
  have sp : SPc 1 0 0 false := Or.inr (Or.inr (Or.inl ⟨by decide, rfl, rfl, rfl⟩))
  obtain ⟨-, k1, -⟩ := rdF hs.1.1.1
  obtain ⟨r, h1, ⟨rfl, w', m', tr', p1, p2, p3, p4⟩, E2⟩ := XC_dt (X_st (d := d + 3) (least := 1) (m0 := 0) hJ hn (by decide) hs hm sp ho (w_303 hw ha))
  obtain ⟨q1, q2, q3⟩ := stl_c (least := 1) L hc
  obtain ⟨L'', eL⟩ := (stl_1 L).2.1 hop
  rw [eL] at p1 p2 p4 q1 q2 q3
  generalize opN L = op at *
  obtain ⟨etr, -⟩ := SP_0 p3 (by decide)
  subst etr
  obtain ⟨mm, g1, g2⟩ := mdl_c p2
  have lo : (op :: L'').length = L''.length + 1 := rfl
  have eo : opl (op :: L'') = 1 + opl L'' := by show opo op + opl L'' = _; rw [opo_1 (Or.inl hop)]
  have o8 : opl L'' ≤ 8 := op_8b (eo ▸ q2) ho
  obtain ⟨w1a, w1b, w1c, w1d, w1e, w1f⟩ := s_b p4 hw ha
  have hl := len_71 q1 (Nat.le_trans q2 ho)
  obtain ⟨-, b1, a2⟩ := ln_5 (l := L''.length) (Nat.le_of_succ_le hl)
  have a3 := en_n (op := opl L'') o8
  obtain ⟨⟨u1, ⟨x1, x2, x3, x4, x5, x6, x7⟩, u3⟩, u4⟩ := id p1
  rw [lo] at x5
  rw [eo] at x6
  obtain ⟨⟨i2, i3, i4, i5⟩, j1, j2, j3, j4, j5⟩ := rdF u1.1
  have t1 := PS_17 (op' := opl L'') (PS_16 p1 (Nat.le_of_lt (l_160 (Nat.le_of_succ_le hl)))) o8
  have zn : (0 : Int) ≤ 0 := by decide
  rcases hz with rfl | rfl
  · have e : qkd (40 :: L'') false = qkd L'' false := by
      show (hvo 40 + hvl L'' + 1, hto 40 + htl L'') = (hvl L'' + 1, htl L'')
      rw [show hvo 40 = 0 from rfl, show hto 40 = 0 from rfl, Nat.zero_add, Nat.zero_add]
    rw [e] at t1
    have t2 := t1
    obtain ⟨⟨v1, ⟨-, -, v3, -⟩, -⟩, -⟩ := id t2
    obtain ⟨-, l1, -⟩ := rdF v1.1
    obtain ⟨r, h3, ⟨rfl, n1, a', tk', n2, n3, n4, n5, n6, n7, n8⟩, E3⟩ := XC_dt (X_nt (d := d + 3) v1.1 v1.2.1.2 v3 ha)
    have t3 := PS_nt t2 n1 n2 n3
    obtain ⟨-, l2, -⟩ := rdF n1.1
    obtain ⟨r, h4, ⟨rfl, w3, m3, tr3, o1, o2, o3, o4⟩, E4⟩ := XC_dt (X_st (d := d + 3) (least := 7) (m0 := 0) hJ hn (by decide) t3 g1 (Or.inl ⟨by decide, rfl⟩) o8 w1c)
    have := SP_5 o3 (by decide)
    subst this
    obtain ⟨f1, f2, f3⟩ := stl_c (least := 7) L'' q1.1
    have y : BHd β J n c h0 hb h (2 * (301 - a) + tz tk) (some (vI 1)) h4 := Or.inr ⟨rfl, _, 1, mu_d ht n4 n6 n5, Or.inr rfl, w3, a', tk', stl 7 L'', m3, o1, o2, f1, Nat.le_trans f2 o8, bd_d (by rw [o4]; exact w1e) n4 n6, n5, rfl⟩
    refine xpk_sound (stops := []) (n := 80) ?_
    simp only [sk_0, sk_1, sk_2, sk_3, sk_4, sk_5, sk_6, sk_7, sk_8, sk_iadd, sk_isub, sk_imul, sk_iand, sk_ior, sk_ixor, sk_ishl, sk_ishr, sk_iushr, sk_idiv, sk_irem, sk_ineg, sk_ladd, sk_lsub, sk_lmul, sk_land, sk_lor, sk_ldiv, sk_lrem, sk_lneg, sk_lshl, sk_lshr, sk_i2l, sk_l2i, sk_lcmp, sk_dupI, sk_dupR, sk_dup2L, sk_dup2I, sk_popI, sk_ifeq, sk_ifne, sk_iflt, sk_ifge, sk_ifgt, sk_ifle, sk_iceq, sk_icne, sk_iclt, sk_icge, sk_icgt, sk_icle, sk_goto, sk_getf, sk_putf, sk_gets, sk_iald, sk_lald, sk_bald, sk_aald, sk_iast, sk_last, sk_bast, sk_aast, sk_alen, sk_newa, sk_newt, sk_new, sk_cs1, sk_cs2, sk_cs3, sk_cs4, sk_cs5, sk_cs6, sk_cv1, sk_cv2, sk_cv3, sk_cv4, sk_cv5, sk_cv6, sk_ci1, sk_ci2, sk_ci3, sk_ret0, sk_retI, sk_retL, sk_retR, sk_sw, sk_oin, sk_max, sk_min, sk_abs, lI_0, lI_s, lL_0, lL_s, lR_0, lR_s, vIo_e, vLo_e, vOo_e, stW_I, stW_L, stW_R, stW_0, stW_z, okSt_0, okSt_s, hV_eq, hK_eq, okF_0, okF_1, okF_3, is01_0, is01_1, is01_i, Int.toNat_natCast, Int.reduceEq, Int.reduceLE, Int.reduceLT, Int.reduceNeg, Nat.reduceLT, not_true_eq_false, not_false_eq_true, reduceIte, Option.toList, List.cons_append, List.nil_append, List.set_cons_zero, List.set_cons_succ, List.not_mem_nil, List.mem_cons, if_false, if_true, ite_true, ite_false, and_self, and_true, true_and, Nat.reduceAdd, Nat.reduceLeDiff, Nat.reduceEqDiff, Nat.zero_add, Nat.le_refl, Nat.zero_le, or_false, false_or, Int.reduceToNat, or_true, true_or, eq_self, and_false, false_and, inR_d, nc_4, nc_5, nc_6, nc_7, nc_8, nc_16, nc_18, nc_20, nc_24, nc_32, nc_40, nc_64, nc_104, nc_120, nc_160, nc_256, nc_300, nc_330, nc_390, nc_1200, nc_1260, nc_3012, nc_9834, okSt_1i, okSt_1r, okSt_1n, List.length_cons, List.length_nil, xpk_succ cd_221_59, xpk_succ cd_221_60, xpk_succ cd_221_63, xpk_succ cd_221_64, xpk_succ cd_221_65, xpk_succ cd_221_66, xpk_succ cd_221_67, xpk_succ cd_221_70, xpk_succ cd_221_71, xpk_succ cd_221_74, xpk_succ cd_221_75, xpk_succ cd_221_78, xpk_succ cd_221_79, xpk_succ cd_221_82, xpk_succ cd_221_83, xpk_succ cd_221_84, xpk_succ cd_221_85, xpk_succ cd_221_86, xpk_succ cd_221_89, xpk_succ cd_221_90, xpk_succ cd_221_93, xpk_succ cd_221_96, xpk_succ cd_221_97, xpk_succ cd_221_98, xpk_succ cd_221_101, xpk_succ cd_221_102, xpk_succ cd_221_103, xpk_succ cd_221_106, xpk_succ cd_221_107, xpk_succ cd_221_108, xpk_succ cd_221_111, xpk_succ cd_221_112, xpk_succ cd_221_113, xpk_succ cd_221_116, xpk_succ cd_221_117, xpk_succ cd_221_119, xpk_succ cd_221_122, xpk_succ cd_221_123, xpk_succ cd_221_124, xpk_succ cd_221_125, xpk_succ cd_221_128, xpk_succ cd_221_129, xpk_succ cd_221_132, xpk_succ cd_221_133, xpk_succ cd_221_135, xpk_succ cd_221_138, xpk_succ cd_221_139, k1, E2, j1, x5, x6, a2, a3, l1, l2, E3, E4]
    exact y
  · have e : qkd (43 :: L'') false = (hvl L'' + 2, htl L'' + 1) := by
      show (hvo 43 + hvl L'' + 1, hto 43 + htl L'') = (hvl L'' + 2, htl L'' + 1)
      rw [show hvo 43 = 1 from rfl, show hto 43 = 1 from rfl, Nat.add_comm 1 (hvl L''), Nat.add_comm 1 (htl L'')]
    rw [e] at t1
    obtain ⟨⟨v1, ⟨w1, w2, v3, -⟩, -⟩, -⟩ := id t1
    obtain ⟨-, l0, -⟩ := rdF v1.1
    have E5 := fun Q => X_em (d := d + 4) (o := 3) (v := 0) v1.1 hJ w1b w1 w2 Q
    have t2 := PS_em (o := 3) (v := 0) t1 hJ hn w1b (by decide) (by decide) dst_se ⟨fun z => absurd z (by decide), fun z => absurd z (by decide)⟩
    obtain ⟨⟨v1, ⟨-, -, v3, -⟩, -⟩, -⟩ := id t2
    obtain ⟨-, l1, -⟩ := rdF v1.1
    obtain ⟨r, h3, ⟨rfl, n1, a', tk', n2, n3, n4, n5, n6, n7, n8⟩, E3⟩ := XC_dt (X_nt (d := d + 3) v1.1 v1.2.1.2 v3 ha)
    have t3 := PS_nt t2 n1 n2 n3
    obtain ⟨-, l2, -⟩ := rdF n1.1
    obtain ⟨r, h4, ⟨rfl, w3, m3, tr3, o1, o2, o3, o4⟩, E4⟩ := XC_dt (X_st (d := d + 3) (least := 7) (m0 := 0) hJ hn (by decide) t3 g1 (Or.inl ⟨by decide, rfl⟩) o8 w1d)
    have := SP_5 o3 (by decide)
    subst this
    obtain ⟨f1, f2, f3⟩ := stl_c (least := 7) L'' q1.1
    have y : BHd β J n c h0 hb h (2 * (301 - a) + tz tk) (some (vI 1)) h4 := Or.inr ⟨rfl, _, 1, mu_d ht n4 n6 n5, Or.inr rfl, w3, a', tk', stl 7 L'', m3, o1, o2, f1, Nat.le_trans f2 o8, bd_d (by rw [o4]; exact w1f) n4 n6, n5, rfl⟩
    refine xpk_sound (stops := []) (n := 80) ?_
    simp only [sk_0, sk_1, sk_2, sk_3, sk_4, sk_5, sk_6, sk_7, sk_8, sk_iadd, sk_isub, sk_imul, sk_iand, sk_ior, sk_ixor, sk_ishl, sk_ishr, sk_iushr, sk_idiv, sk_irem, sk_ineg, sk_ladd, sk_lsub, sk_lmul, sk_land, sk_lor, sk_ldiv, sk_lrem, sk_lneg, sk_lshl, sk_lshr, sk_i2l, sk_l2i, sk_lcmp, sk_dupI, sk_dupR, sk_dup2L, sk_dup2I, sk_popI, sk_ifeq, sk_ifne, sk_iflt, sk_ifge, sk_ifgt, sk_ifle, sk_iceq, sk_icne, sk_iclt, sk_icge, sk_icgt, sk_icle, sk_goto, sk_getf, sk_putf, sk_gets, sk_iald, sk_lald, sk_bald, sk_aald, sk_iast, sk_last, sk_bast, sk_aast, sk_alen, sk_newa, sk_newt, sk_new, sk_cs1, sk_cs2, sk_cs3, sk_cs4, sk_cs5, sk_cs6, sk_cv1, sk_cv2, sk_cv3, sk_cv4, sk_cv5, sk_cv6, sk_ci1, sk_ci2, sk_ci3, sk_ret0, sk_retI, sk_retL, sk_retR, sk_sw, sk_oin, sk_max, sk_min, sk_abs, lI_0, lI_s, lL_0, lL_s, lR_0, lR_s, vIo_e, vLo_e, vOo_e, stW_I, stW_L, stW_R, stW_0, stW_z, okSt_0, okSt_s, hV_eq, hK_eq, okF_0, okF_1, okF_3, is01_0, is01_1, is01_i, Int.toNat_natCast, Int.reduceEq, Int.reduceLE, Int.reduceLT, Int.reduceNeg, Nat.reduceLT, not_true_eq_false, not_false_eq_true, reduceIte, Option.toList, List.cons_append, List.nil_append, List.set_cons_zero, List.set_cons_succ, List.not_mem_nil, List.mem_cons, if_false, if_true, ite_true, ite_false, and_self, and_true, true_and, Nat.reduceAdd, Nat.reduceLeDiff, Nat.reduceEqDiff, Nat.zero_add, Nat.le_refl, Nat.zero_le, or_false, false_or, Int.reduceToNat, or_true, true_or, eq_self, and_false, false_and, inR_d, nc_4, nc_5, nc_6, nc_7, nc_8, nc_16, nc_18, nc_20, nc_24, nc_32, nc_40, nc_64, nc_104, nc_120, nc_160, nc_256, nc_300, nc_330, nc_390, nc_1200, nc_1260, nc_3012, nc_9834, okSt_1i, okSt_1r, okSt_1n, List.length_cons, List.length_nil, xpk_succ cd_221_59, xpk_succ cd_221_60, xpk_succ cd_221_63, xpk_succ cd_221_64, xpk_succ cd_221_65, xpk_succ cd_221_66, xpk_succ cd_221_67, xpk_succ cd_221_70, xpk_succ cd_221_71, xpk_succ cd_221_74, xpk_succ cd_221_75, xpk_succ cd_221_78, xpk_succ cd_221_79, xpk_succ cd_221_82, xpk_succ cd_221_83, xpk_succ cd_221_84, xpk_succ cd_221_85, xpk_succ cd_221_86, xpk_succ cd_221_89, xpk_succ cd_221_90, xpk_succ cd_221_93, xpk_succ cd_221_96, xpk_succ cd_221_97, xpk_succ cd_221_98, xpk_succ cd_221_101, xpk_succ cd_221_102, xpk_succ cd_221_103, xpk_succ cd_221_106, xpk_succ cd_221_107, xpk_succ cd_221_108, xpk_succ cd_221_111, xpk_succ cd_221_112, xpk_succ cd_221_113, xpk_succ cd_221_116, xpk_succ cd_221_117, xpk_succ cd_221_119, xpk_succ cd_221_122, xpk_succ cd_221_123, xpk_succ cd_221_124, xpk_succ cd_221_125, xpk_succ cd_221_128, xpk_succ cd_221_129, xpk_succ cd_221_132, xpk_succ cd_221_133, xpk_succ cd_221_135, xpk_succ cd_221_138, xpk_succ cd_221_139, k1, E2, j1, x5, x6, a2, a3, l0, l1, l2, E5, E3, E4]
    exact y
set_option maxHeartbeats 2000000 in
theorem X_bh {β J n c d w a m : Nat} {h0 hb h : AH} {tk : Int} {L : List Int} (hJ : J < 4) (hn : n < 24) (hs : PS β J n c h0 hb h w a tk L (opl L) 1 (qkd L false)) (hm : mdl L = some m) (hc : chn L) (ho : opl L ≤ 8) (hw : w + L.length + tz tk ≤ a) (ha : a ≤ 300) : XC (d + 6) 221 [vR 76] h (BHd β J n c h0 hb h (2 * (301 - a) + tz tk)) := by
  obtain ⟨⟨s1, ⟨r1, r2, r3, r4, r5, r6, r7⟩, s3⟩, s4⟩ := id hs
  obtain ⟨-, k1, -⟩ := rdF s1.1
  have hl := len_71 hc ho
  have hw1 : tk ≠ 0 → w + L.length + 1 ≤ a := fun z => by rw [tz_1 z] at hw; exact hw
  obtain ⟨z, hz, E1⟩ := X_bt (d := d + 1) s1.1 s1.2.1.2 s3 (by omega) r5 r4 hm
  refine XC_of (Nat.le_of_ble_eq_true rfl) ?_
  show XP (d + 5) 221 0 [some (vR 76), none, none, none] [] h _
  rcases hz with hz | ⟨t1, hz⟩
  · subst hz
    have E4 := fun Q => X_on (d := d + 3) s1.1 s3 (show L.length ≤ 160 by omega) r5 Q
    obtain ⟨z, hz, E5⟩ := X_pa (d := d) (op := opN L) s1.1 s1.2.1.2 s3 (by omega) r5 r4 hm
    rcases hz with hz | ⟨t1, hz⟩
    · subst hz
      have y : BHd β J n c h0 hb h (2 * (301 - a) + tz tk) (some (vI 0)) h := Or.inl ⟨rfl, rfl⟩
      refine xpk_sound (stops := []) (n := 40) ?_
      simp only [sk_0, sk_1, sk_2, sk_3, sk_4, sk_5, sk_6, sk_7, sk_8, sk_iadd, sk_isub, sk_imul, sk_iand, sk_ior, sk_ixor, sk_ishl, sk_ishr, sk_iushr, sk_idiv, sk_irem, sk_ineg, sk_ladd, sk_lsub, sk_lmul, sk_land, sk_lor, sk_ldiv, sk_lrem, sk_lneg, sk_lshl, sk_lshr, sk_i2l, sk_l2i, sk_lcmp, sk_dupI, sk_dupR, sk_dup2L, sk_dup2I, sk_popI, sk_ifeq, sk_ifne, sk_iflt, sk_ifge, sk_ifgt, sk_ifle, sk_iceq, sk_icne, sk_iclt, sk_icge, sk_icgt, sk_icle, sk_goto, sk_getf, sk_putf, sk_gets, sk_iald, sk_lald, sk_bald, sk_aald, sk_iast, sk_last, sk_bast, sk_aast, sk_alen, sk_newa, sk_newt, sk_new, sk_cs1, sk_cs2, sk_cs3, sk_cs4, sk_cs5, sk_cs6, sk_cv1, sk_cv2, sk_cv3, sk_cv4, sk_cv5, sk_cv6, sk_ci1, sk_ci2, sk_ci3, sk_ret0, sk_retI, sk_retL, sk_retR, sk_sw, sk_oin, sk_max, sk_min, sk_abs, lI_0, lI_s, lL_0, lL_s, lR_0, lR_s, vIo_e, vLo_e, vOo_e, stW_I, stW_L, stW_R, stW_0, stW_z, okSt_0, okSt_s, hV_eq, hK_eq, okF_0, okF_1, okF_3, is01_0, is01_1, is01_i, Int.toNat_natCast, Int.reduceEq, Int.reduceLE, Int.reduceLT, Int.reduceNeg, Nat.reduceLT, not_true_eq_false, not_false_eq_true, reduceIte, Option.toList, List.cons_append, List.nil_append, List.set_cons_zero, List.set_cons_succ, List.not_mem_nil, List.mem_cons, if_false, if_true, ite_true, ite_false, and_self, and_true, true_and, Nat.reduceAdd, Nat.reduceLeDiff, Nat.reduceEqDiff, Nat.zero_add, Nat.le_refl, Nat.zero_le, or_false, false_or, Int.reduceToNat, or_true, true_or, eq_self, and_false, false_and, inR_d, nc_4, nc_5, nc_6, nc_7, nc_8, nc_16, nc_18, nc_20, nc_24, nc_32, nc_40, nc_64, nc_104, nc_120, nc_160, nc_256, nc_300, nc_330, nc_390, nc_1200, nc_1260, nc_3012, nc_9834, okSt_1i, okSt_1r, okSt_1n, List.length_cons, List.length_nil, xpk_succ cd_221_0, xpk_succ cd_221_1, xpk_succ cd_221_4, xpk_succ cd_221_5, xpk_succ cd_221_6, xpk_succ cd_221_48, xpk_succ cd_221_49, xpk_succ cd_221_52, xpk_succ cd_221_53, xpk_succ cd_221_54, xpk_succ cd_221_55, xpk_succ cd_221_58, xpk_succ cd_221_59, xpk_succ cd_221_60, xpk_succ cd_221_63, xpk_succ cd_221_64, k1, E1, E4, E5]
      exact y
    · rcases hz with ⟨rfl, q⟩ | hz
      · have y := bh_C (d := d) (zo := -1) hJ hn hs hm hc ho t1 (hw1 t1) ha q
        refine xpk_sound (stops := [59]) (n := 40) ?_
        simp only [sk_0, sk_1, sk_2, sk_3, sk_4, sk_5, sk_6, sk_7, sk_8, sk_iadd, sk_isub, sk_imul, sk_iand, sk_ior, sk_ixor, sk_ishl, sk_ishr, sk_iushr, sk_idiv, sk_irem, sk_ineg, sk_ladd, sk_lsub, sk_lmul, sk_land, sk_lor, sk_ldiv, sk_lrem, sk_lneg, sk_lshl, sk_lshr, sk_i2l, sk_l2i, sk_lcmp, sk_dupI, sk_dupR, sk_dup2L, sk_dup2I, sk_popI, sk_ifeq, sk_ifne, sk_iflt, sk_ifge, sk_ifgt, sk_ifle, sk_iceq, sk_icne, sk_iclt, sk_icge, sk_icgt, sk_icle, sk_goto, sk_getf, sk_putf, sk_gets, sk_iald, sk_lald, sk_bald, sk_aald, sk_iast, sk_last, sk_bast, sk_aast, sk_alen, sk_newa, sk_newt, sk_new, sk_cs1, sk_cs2, sk_cs3, sk_cs4, sk_cs5, sk_cs6, sk_cv1, sk_cv2, sk_cv3, sk_cv4, sk_cv5, sk_cv6, sk_ci1, sk_ci2, sk_ci3, sk_ret0, sk_retI, sk_retL, sk_retR, sk_sw, sk_oin, sk_max, sk_min, sk_abs, lI_0, lI_s, lL_0, lL_s, lR_0, lR_s, vIo_e, vLo_e, vOo_e, stW_I, stW_L, stW_R, stW_0, stW_z, okSt_0, okSt_s, hV_eq, hK_eq, okF_0, okF_1, okF_3, is01_0, is01_1, is01_i, Int.toNat_natCast, Int.reduceEq, Int.reduceLE, Int.reduceLT, Int.reduceNeg, Nat.reduceLT, not_true_eq_false, not_false_eq_true, reduceIte, Option.toList, List.cons_append, List.nil_append, List.set_cons_zero, List.set_cons_succ, List.not_mem_nil, List.mem_cons, if_false, if_true, ite_true, ite_false, and_self, and_true, true_and, Nat.reduceAdd, Nat.reduceLeDiff, Nat.reduceEqDiff, Nat.zero_add, Nat.le_refl, Nat.zero_le, or_false, false_or, Int.reduceToNat, or_true, true_or, eq_self, and_false, false_and, inR_d, nc_4, nc_5, nc_6, nc_7, nc_8, nc_16, nc_18, nc_20, nc_24, nc_32, nc_40, nc_64, nc_104, nc_120, nc_160, nc_256, nc_300, nc_330, nc_390, nc_1200, nc_1260, nc_3012, nc_9834, okSt_1i, okSt_1r, okSt_1n, List.length_cons, List.length_nil, xpk_succ cd_221_0, xpk_succ cd_221_1, xpk_succ cd_221_4, xpk_succ cd_221_5, xpk_succ cd_221_6, xpk_succ cd_221_48, xpk_succ cd_221_49, xpk_succ cd_221_52, xpk_succ cd_221_53, xpk_succ cd_221_54, xpk_succ cd_221_55, xpk_succ cd_221_58, k1, E1, E4, E5]
        exact y
      · have y := bh_B (d := d) (z := z) (zo := -1) hJ hn hs hm hc ho t1 (hw1 t1) ha hz
        refine xpk_sound (stops := [59]) (n := 40) ?_
        simp only [sk_0, sk_1, sk_2, sk_3, sk_4, sk_5, sk_6, sk_7, sk_8, sk_iadd, sk_isub, sk_imul, sk_iand, sk_ior, sk_ixor, sk_ishl, sk_ishr, sk_iushr, sk_idiv, sk_irem, sk_ineg, sk_ladd, sk_lsub, sk_lmul, sk_land, sk_lor, sk_ldiv, sk_lrem, sk_lneg, sk_lshl, sk_lshr, sk_i2l, sk_l2i, sk_lcmp, sk_dupI, sk_dupR, sk_dup2L, sk_dup2I, sk_popI, sk_ifeq, sk_ifne, sk_iflt, sk_ifge, sk_ifgt, sk_ifle, sk_iceq, sk_icne, sk_iclt, sk_icge, sk_icgt, sk_icle, sk_goto, sk_getf, sk_putf, sk_gets, sk_iald, sk_lald, sk_bald, sk_aald, sk_iast, sk_last, sk_bast, sk_aast, sk_alen, sk_newa, sk_newt, sk_new, sk_cs1, sk_cs2, sk_cs3, sk_cs4, sk_cs5, sk_cs6, sk_cv1, sk_cv2, sk_cv3, sk_cv4, sk_cv5, sk_cv6, sk_ci1, sk_ci2, sk_ci3, sk_ret0, sk_retI, sk_retL, sk_retR, sk_sw, sk_oin, sk_max, sk_min, sk_abs, lI_0, lI_s, lL_0, lL_s, lR_0, lR_s, vIo_e, vLo_e, vOo_e, stW_I, stW_L, stW_R, stW_0, stW_z, okSt_0, okSt_s, hV_eq, hK_eq, okF_0, okF_1, okF_3, is01_0, is01_1, is01_i, Int.toNat_natCast, Int.reduceEq, Int.reduceLE, Int.reduceLT, Int.reduceNeg, Nat.reduceLT, not_true_eq_false, not_false_eq_true, reduceIte, Option.toList, List.cons_append, List.nil_append, List.set_cons_zero, List.set_cons_succ, List.not_mem_nil, List.mem_cons, if_false, if_true, ite_true, ite_false, and_self, and_true, true_and, Nat.reduceAdd, Nat.reduceLeDiff, Nat.reduceEqDiff, Nat.zero_add, Nat.le_refl, Nat.zero_le, or_false, false_or, Int.reduceToNat, or_true, true_or, eq_self, and_false, false_and, inR_d, nc_4, nc_5, nc_6, nc_7, nc_8, nc_16, nc_18, nc_20, nc_24, nc_32, nc_40, nc_64, nc_104, nc_120, nc_160, nc_256, nc_300, nc_330, nc_390, nc_1200, nc_1260, nc_3012, nc_9834, okSt_1i, okSt_1r, okSt_1n, List.length_cons, List.length_nil, xpk_succ cd_221_0, xpk_succ cd_221_1, xpk_succ cd_221_4, xpk_succ cd_221_5, xpk_succ cd_221_6, xpk_succ cd_221_48, xpk_succ cd_221_49, xpk_succ cd_221_52, xpk_succ cd_221_53, xpk_succ cd_221_54, xpk_succ cd_221_55, xpk_succ cd_221_58, k1, E1, E4, E5]
        exact y
  · have y := bh_A (d := d) (z := z) hJ hn hs hm hc ho t1 (hw1 t1) ha hz
    refine xpk_sound (stops := [5]) (n := 40) ?_
    simp only [sk_0, sk_1, sk_2, sk_3, sk_4, sk_5, sk_6, sk_7, sk_8, sk_iadd, sk_isub, sk_imul, sk_iand, sk_ior, sk_ixor, sk_ishl, sk_ishr, sk_iushr, sk_idiv, sk_irem, sk_ineg, sk_ladd, sk_lsub, sk_lmul, sk_land, sk_lor, sk_ldiv, sk_lrem, sk_lneg, sk_lshl, sk_lshr, sk_i2l, sk_l2i, sk_lcmp, sk_dupI, sk_dupR, sk_dup2L, sk_dup2I, sk_popI, sk_ifeq, sk_ifne, sk_iflt, sk_ifge, sk_ifgt, sk_ifle, sk_iceq, sk_icne, sk_iclt, sk_icge, sk_icgt, sk_icle, sk_goto, sk_getf, sk_putf, sk_gets, sk_iald, sk_lald, sk_bald, sk_aald, sk_iast, sk_last, sk_bast, sk_aast, sk_alen, sk_newa, sk_newt, sk_new, sk_cs1, sk_cs2, sk_cs3, sk_cs4, sk_cs5, sk_cs6, sk_cv1, sk_cv2, sk_cv3, sk_cv4, sk_cv5, sk_cv6, sk_ci1, sk_ci2, sk_ci3, sk_ret0, sk_retI, sk_retL, sk_retR, sk_sw, sk_oin, sk_max, sk_min, sk_abs, lI_0, lI_s, lL_0, lL_s, lR_0, lR_s, vIo_e, vLo_e, vOo_e, stW_I, stW_L, stW_R, stW_0, stW_z, okSt_0, okSt_s, hV_eq, hK_eq, okF_0, okF_1, okF_3, is01_0, is01_1, is01_i, Int.toNat_natCast, Int.reduceEq, Int.reduceLE, Int.reduceLT, Int.reduceNeg, Nat.reduceLT, not_true_eq_false, not_false_eq_true, reduceIte, Option.toList, List.cons_append, List.nil_append, List.set_cons_zero, List.set_cons_succ, List.not_mem_nil, List.mem_cons, if_false, if_true, ite_true, ite_false, and_self, and_true, true_and, Nat.reduceAdd, Nat.reduceLeDiff, Nat.reduceEqDiff, Nat.zero_add, Nat.le_refl, Nat.zero_le, or_false, false_or, Int.reduceToNat, or_true, true_or, eq_self, and_false, false_and, inR_d, nc_4, nc_5, nc_6, nc_7, nc_8, nc_16, nc_18, nc_20, nc_24, nc_32, nc_40, nc_64, nc_104, nc_120, nc_160, nc_256, nc_300, nc_330, nc_390, nc_1200, nc_1260, nc_3012, nc_9834, okSt_1i, okSt_1r, okSt_1n, List.length_cons, List.length_nil, xpk_succ cd_221_0, xpk_succ cd_221_1, xpk_succ cd_221_4, k1, E1]
    exact y
