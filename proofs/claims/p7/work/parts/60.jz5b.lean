/-- the clause that was read, if it is a law -/
def CLx (g : Nat → AV) (J n w : Nat) : Prop := 0 ≤ ofI (g (753 * J + 1 + 6 * n)) → ofI (g (753 * J + 1 + 6 * n)) ≤ 4 → ∃ a b : Nat, g (753 * J + 1 + 6 * n + 1) = vI a ∧ g (753 * J + 1 + 6 * n + 2) = vI b ∧ CDK g (753 * J + 145) a b ∧ b ≤ w
def BDd (β J n : Nat) (h0 : AH) (μ : Nat) (r : Option AV) (h' : AH) : Prop := ∃ f : Int, r = some (vI f) ∧ ((1 ≤ f ∧ f ≤ 6 ∧ STo β mdR h0 h') ∨ (f = 0 ∧ ∃ w a tk, CSx β J n h0 h' w a tk ∧ w + tz tk ≤ a ∧ a ≤ 300 ∧ 2 * (301 - a) + tz tk ≤ μ ∧ CLx (gT h') J n w))
theorem rw_n {J n i : Nat} (hJ : J < 4) (hn : n < 24) (hi : i < 6) : w32 (((753 * J + 1 + 6 * n : Nat) : Int) + (i : Int)) = ((753 * J + 1 + 6 * n + i : Nat) : Int) ∧ ((0 : Int) ≤ ((753 * J + 1 + 6 * n + i : Nat) : Int) ∧ ((753 * J + 1 + 6 * n + i : Nat) : Int) < 3012) ∧ 753 * J + 1 + 6 * n + i < 753 * J + 145 ∧ 753 * J + 1 + 6 * n ≤ 753 * J + 1 + 6 * n + i ∧ 753 * J + 1 + 6 * n + i ≤ 3012 ∧ (753 * J + 1 + 6 * n + i) % 753 ≠ 0 ∧ 753 * J + 1 + 6 * n + i < 753 * J + 753 ∧ 753 * J + 1 + 6 * n + i ≠ 753 * J := by
  refine ⟨by unfold w32; omega, by omega, by omega, by omega, by omega, ?_, by omega, by omega⟩
  rw [show 753 * J + 1 + 6 * n + i = 753 * J + (1 + 6 * n + i) by omega, Nat.mul_add_mod, Nat.mod_eq_of_lt (by omega)]; omega
/-- a number into the clause's row -/
theorem CS_r {β J n w a i : Nat} {h0 h : AH} {tk x : Int} (hs : CSx β J n h0 h w a tk) (hJ : J < 4) (hn : n < 24) (hi : i < 6) (hx : -2147483648 ≤ x ∧ x ≤ 2147483647) : CSx β J n h0 (hSet h 79 (753 * J + 1 + 6 * n + i) (vI x)) w a tk := by
  obtain ⟨s1, ⟨r1, r2, r3, r4⟩, s3, s4⟩ := hs
  obtain ⟨-, -, c1, c2, c3, c4, c5, c6⟩ := rw_n hJ hn hi
  have t1 := TXw_s (v := vI x) hJ s3 c2 (Or.inl c1) c5 s4
  have f : ∀ j, hV (hSet h 79 (753 * J + 1 + 6 * n + i) (vI x)) 76 j = hV h 76 j := fun j => by rw [hV_eq, if_neg (fun y => absurd y.1 (by decide))]
  exact ⟨ST_79 s1 c3 hx (Or.inl c4) (TXw_T t1), ⟨by rw [f]; exact r1, by rw [f]; exact r2, by rw [f]; exact r3, by rw [f]; exact r4⟩, (f_set (fun y => c6 y.symm)).trans s3, t1⟩
theorem CS_nt {β J n w a a' : Nat} {h0 h h' : AH} {tk tk' : Int} (hs : CSx β J n h0 h w a tk) (hn : STo β mdN h h') (v7 : hV h' 76 7 = vI (a' : Int)) (v9 : hV h' 76 9 = vI tk') : CSx β J n h0 h' w a' tk' := by
  obtain ⟨s1, ⟨r1, r2, r3, r4⟩, s3, s4⟩ := hs
  have f : ∀ i, 12 ≤ i → hV h' 76 i = hV h 76 i := fun i hi => hn.2.2 76 i (fun z => by
    obtain ⟨q, q1, q2, q3, q4⟩ := z
    rcases List.mem_cons.mp q1 with rfl | q1
    · have q4 : i ≤ 11 := q4; omega
    · cases q1)
  have e : ∀ j, hV h' 79 j = hV h 79 j := fun j => ST_n hn (by decide)
  exact ⟨ST_t s1 hn.1 hn.2 (by decide +kernel), ⟨by rw [f _ (by decide)]; exact r1, by rw [f _ (by decide)]; exact r2, v7, v9⟩, by rw [e]; exact s3, by rw [gT_e e]; exact s4⟩
theorem ad_j {J n : Nat} {i : Nat} (hJ : J < 4) (hn : n < 24) (hi : i < 6) : w32 (((753 * J + 1 + 6 * n : Nat) : Int) + (i : Int)) = ((753 * J + 1 + 6 * n + i : Nat) : Int) := (rw_n hJ hn hi).1
set_option maxHeartbeats 2000000 in
theorem X_lw {β J n d w a : Nat} {h0 h : AH} {tk : Int} (hJ : J < 4) (hn : n < 24) (hs : CSx β J n h0 h w a tk) (hw : w + tz tk ≤ a) (ha : a ≤ 300) : XC (d + 11) 225 [vR 76, vI ((753 * J + 1 + 6 * n : Nat) : Int)] h (BDd β J n h0 (2 * (301 - a) + tz tk)) := by
  obtain ⟨s1, ⟨r1, r2, r3, r4⟩, s3, s4⟩ := id hs
  obtain ⟨⟨o2, o3, o4, o5⟩, k1, k2, k3, k4, k5⟩ := rdF s1.1
  obtain ⟨a1, b1, c1, c2, c3, c4, c5, c6⟩ := rw_n (i := 1) hJ hn (by decide)
  obtain ⟨a2, b2, e1, e2, e3, e4, e5, e6⟩ := rw_n (i := 2) hJ hn (by decide)
  have a1 : w32 (((753 * J + 1 + 6 * n : Nat) : Int) + 1) = ((753 * J + 1 + 6 * n + 1 : Nat) : Int) := a1
  have a2 : w32 (((753 * J + 1 + 6 * n : Nat) : Int) + 2) = ((753 * J + 1 + 6 * n + 2 : Nat) : Int) := a2
  have wr : -2147483648 ≤ (w : Int) ∧ (w : Int) ≤ 2147483647 := by omega
  have t1 := CS_r (i := 1) (x := (w : Int)) hs hJ hn (by decide) wr
  have vr : hV (hSet h 79 (753 * J + 1 + 6 * n + 1) (vI (w : Int))) 79 (753 * J + 1 + 6 * n + 1) = vI (w : Int) := f_at
  generalize hg : hSet h 79 (753 * J + 1 + 6 * n + 1) (vI (w : Int)) = hb at t1 vr
  obtain ⟨-, l1, -⟩ := rdF t1.1.1
  obtain ⟨r, h1, ⟨f, rfl, q⟩, E1⟩ := XC_dt (X_sm (d := d) hJ hn t1 hw ha)
  have fin : ∃ w1 : Int, hV h1 76 13 = vI w1 ∧ k_H JB h1 ∧ BDd β J n h0 (2 * (301 - a) + tz tk) (some (vI f)) (hSet h1 79 (753 * J + 1 + 6 * n + 2) (vI w1)) := by
    rcases q with ⟨q1, q2, q3⟩ | ⟨rfl, w', a', tk', q1, q2, q3, q4⟩
    · obtain ⟨u1, u2, u3⟩ := q3
      obtain ⟨w1, v1, w2, w3⟩ : ∃ x, hV h1 76 13 = vI x ∧ (0 : Int) ≤ x ∧ x ≤ 304 := jF2_s u1.1 (show jF2 76 13 (false, 0, 304) = true by decide +kernel)
      have t2 := TXw_s (v := vI w1) hJ u2 e2 (Or.inl e1) e5 u3
      exact ⟨w1, v1, u1.1, f, rfl, Or.inl ⟨q1, q2, ST_79 u1 e3 (by omega) (Or.inl e4) (TXw_T t2)⟩⟩
    · obtain ⟨⟨u1, ⟨x1, x2, x3, x4, x5, x6, x7⟩, -⟩, ⟨u3, u4⟩, u5, u6⟩ := q1
      obtain ⟨g1, g2, g3⟩ := id u6
      have t2 := CS_r (i := 2) (x := (w' : Int)) (show CSx β J n h0 h1 w' a' tk' from ⟨u1, ⟨x1, x2, x3, x4⟩, u3, TXw_m g1 u5⟩) hJ hn (by decide) (by omega)
      refine ⟨w', x2, u1.1, 0, rfl, Or.inr ⟨rfl, w', a', tk', t2, q2, q3, q4, fun _ _ => ⟨w, w', ?_, ?_, ⟨g1, by omega, ?_, fun i i1 i2 => ?_⟩, Nat.le_refl _⟩⟩⟩
      · rw [gT_set (by omega), gT_v (by omega), u4 _ c1]; exact vr
      · exact gT_at e3
      · rw [dpt_g (g := gT h1) (w' - w) (fun i hi => gT_set (by omega))]; exact g2
      · rw [gT_set (by omega), gT_set (by omega)]; exact g3 i i1 i2
  obtain ⟨w1, v1, jj, y⟩ := fin
  obtain ⟨⟨i2, -⟩, j1, j2, -⟩ := rdF jj
  refine XC_of (Nat.le_of_ble_eq_true rfl) ?_
  show XP (d + 10) 225 0 [some (vR 76), some (vI ((753 * J + 1 + 6 * n : Nat) : Int)), none] [] h _
  refine xpk_sound (stops := []) (n := 40) ?_
  simp only [sk_0, sk_1, sk_2, sk_3, sk_4, sk_5, sk_6, sk_7, sk_8, sk_iadd, sk_isub, sk_imul, sk_iand, sk_ior, sk_ixor, sk_ishl, sk_ishr, sk_iushr, sk_idiv, sk_irem, sk_ineg, sk_ladd, sk_lsub, sk_lmul, sk_land, sk_lor, sk_ldiv, sk_lrem, sk_lneg, sk_lshl, sk_lshr, sk_i2l, sk_l2i, sk_lcmp, sk_dupI, sk_dupR, sk_dup2L, sk_dup2I, sk_popI, sk_ifeq, sk_ifne, sk_iflt, sk_ifge, sk_ifgt, sk_ifle, sk_iceq, sk_icne, sk_iclt, sk_icge, sk_icgt, sk_icle, sk_goto, sk_getf, sk_putf, sk_gets, sk_iald, sk_lald, sk_bald, sk_aald, sk_iast, sk_last, sk_bast, sk_aast, sk_alen, sk_newa, sk_newt, sk_new, sk_cs1, sk_cs2, sk_cs3, sk_cs4, sk_cs5, sk_cs6, sk_cv1, sk_cv2, sk_cv3, sk_cv4, sk_cv5, sk_cv6, sk_ci1, sk_ci2, sk_ci3, sk_ret0, sk_retI, sk_retL, sk_retR, sk_sw, sk_oin, sk_max, sk_min, sk_abs, lI_0, lI_s, lL_0, lL_s, lR_0, lR_s, vIo_e, vLo_e, vOo_e, stW_I, stW_L, stW_R, stW_0, stW_z, okSt_0, okSt_s, hV_eq, hK_eq, okF_0, okF_1, okF_3, is01_0, is01_1, is01_i, Int.toNat_natCast, Int.reduceEq, Int.reduceLE, Int.reduceLT, Int.reduceNeg, Nat.reduceLT, not_true_eq_false, not_false_eq_true, reduceIte, Option.toList, List.cons_append, List.nil_append, List.set_cons_zero, List.set_cons_succ, List.not_mem_nil, List.mem_cons, if_false, if_true, ite_true, ite_false, and_self, and_true, true_and, Nat.reduceAdd, Nat.reduceLeDiff, Nat.reduceEqDiff, Nat.zero_add, Nat.le_refl, Nat.zero_le, or_false, false_or, Int.reduceToNat, or_true, true_or, eq_self, and_false, false_and, inR_d, nc_4, nc_5, nc_6, nc_7, nc_8, nc_16, nc_18, nc_20, nc_24, nc_32, nc_40, nc_64, nc_104, nc_120, nc_160, nc_256, nc_300, nc_330, nc_390, nc_1200, nc_1260, nc_3012, nc_9834, okSt_1i, okSt_1r, okSt_1n, List.length_cons, List.length_nil, xpk_succ cd_225_0, xpk_succ cd_225_1, xpk_succ cd_225_4, xpk_succ cd_225_5, xpk_succ cd_225_6, xpk_succ cd_225_7, xpk_succ cd_225_8, xpk_succ cd_225_11, xpk_succ cd_225_12, xpk_succ cd_225_13, xpk_succ cd_225_16, xpk_succ cd_225_17, xpk_succ cd_225_18, xpk_succ cd_225_21, xpk_succ cd_225_22, xpk_succ cd_225_23, xpk_succ cd_225_24, xpk_succ cd_225_25, xpk_succ cd_225_28, xpk_succ cd_225_29, xpk_succ cd_225_30, o2, k1, k2, a1, b1, r2, hg, l1, E1, i2, j1, j2, a2, b2, v1]
  exact y
/-- a number is read into the row -/
def FGd (β J n : Nat) (h0 h : AH) (w μ : Nat) (r : Option AV) (h' : AH) : Prop := ∃ f : Int, r = some (vI f) ∧ ((1 ≤ f ∧ f ≤ 6 ∧ STo β mdR h0 h') ∨ (f = 0 ∧ ∃ a tk, CSx β J n h0 h' w a tk ∧ w + tz tk ≤ a ∧ a ≤ 300 ∧ 2 * (301 - a) + tz tk ≤ μ ∧ hV h' 79 (753 * J + 1 + 6 * n) = hV h 79 (753 * J + 1 + 6 * n)))
theorem w_tz {w a : Nat} {tk : Int} (h : w + tz tk ≤ a) : w ≤ a := by omega
set_option maxHeartbeats 2000000 in
theorem X_fi {β J n d w a i : Nat} {h0 h : AH} {tk lo hi : Int} (hJ : J < 4) (hn : n < 24) (i1 : 1 ≤ i) (i2 : i < 6) (hs : CSx β J n h0 h w a tk) (hw : w + tz tk ≤ a) (ha : a ≤ 300) : XC (d + 3) 223 [vR 76, vI ((753 * J + 1 + 6 * n + i : Nat) : Int), vI lo, vI hi] h (FGd β J n h0 h w (2 * (301 - a) + tz tk)) := by
  obtain ⟨s1, ⟨r1, r2, r3, r4⟩, s3, s4⟩ := id hs
  obtain ⟨⟨o2, o3, o4, o5⟩, k1, k2, k3, k4, k5⟩ := rdF s1.1
  obtain ⟨num, hnum, num1, num2⟩ : ∃ y, hV h 76 10 = vI y ∧ (0 : Int) ≤ y ∧ y ≤ 999999 := jF2_s s1.1 jf11.2.1
  obtain ⟨-, b1, c1, c2, c3, c4, c5, c6⟩ := rw_n (i := i) hJ hn i2
  refine XC_of (Nat.le_of_ble_eq_true rfl) ?_
  show XP (d + 2) 223 0 [some (vR 76), some (vI ((753 * J + 1 + 6 * n + i : Nat) : Int)), some (vI lo), some (vI hi)] [] h _
  by_cases d1 : tk = 1
  · subst d1
    by_cases d2 : lo ≤ num ∧ num ≤ hi
    · have d3 := inB_1 d2
      have t1 := CS_r (i := i) (x := num) hs hJ hn i2 (i32_99 num1 num2)
      obtain ⟨-, l1, -⟩ := rdF t1.1.1
      obtain ⟨r, h2, ⟨rfl, n1, a', tk', n2, n3, n4, n5, n6, n7, n8⟩, E1⟩ := XC_dt (X_nt (d := d) t1.1.1 t1.1.2.1.2 t1.2.1.2.2.1 ha)
      have t2 := CS_nt t1 n1 n2 n3
      have y : FGd β J n h0 h w (2 * (301 - a) + tz 1) (some (vI 0)) h2 := ⟨0, rfl, Or.inr ⟨rfl, a', tk', t2, bd_d (w_tz hw) n4 n6, n5, Nat.le_of_lt (mu_d (by decide) n4 n6 n5), (ST_n n1 (by decide)).trans (f_set (by omega))⟩⟩
      refine xpk_sound (stops := []) (n := 40) ?_
      simp only [sk_0, sk_1, sk_2, sk_3, sk_4, sk_5, sk_6, sk_7, sk_8, sk_iadd, sk_isub, sk_imul, sk_iand, sk_ior, sk_ixor, sk_ishl, sk_ishr, sk_iushr, sk_idiv, sk_irem, sk_ineg, sk_ladd, sk_lsub, sk_lmul, sk_land, sk_lor, sk_ldiv, sk_lrem, sk_lneg, sk_lshl, sk_lshr, sk_i2l, sk_l2i, sk_lcmp, sk_dupI, sk_dupR, sk_dup2L, sk_dup2I, sk_popI, sk_ifeq, sk_ifne, sk_iflt, sk_ifge, sk_ifgt, sk_ifle, sk_iceq, sk_icne, sk_iclt, sk_icge, sk_icgt, sk_icle, sk_goto, sk_getf, sk_putf, sk_gets, sk_iald, sk_lald, sk_bald, sk_aald, sk_iast, sk_last, sk_bast, sk_aast, sk_alen, sk_newa, sk_newt, sk_new, sk_cs1, sk_cs2, sk_cs3, sk_cs4, sk_cs5, sk_cs6, sk_cv1, sk_cv2, sk_cv3, sk_cv4, sk_cv5, sk_cv6, sk_ci1, sk_ci2, sk_ci3, sk_ret0, sk_retI, sk_retL, sk_retR, sk_sw, sk_oin, sk_max, sk_min, sk_abs, lI_0, lI_s, lL_0, lL_s, lR_0, lR_s, vIo_e, vLo_e, vOo_e, stW_I, stW_L, stW_R, stW_0, stW_z, okSt_0, okSt_s, hV_eq, hK_eq, okF_0, okF_1, okF_3, is01_0, is01_1, is01_i, Int.toNat_natCast, Int.reduceEq, Int.reduceLE, Int.reduceLT, Int.reduceNeg, Nat.reduceLT, not_true_eq_false, not_false_eq_true, reduceIte, Option.toList, List.cons_append, List.nil_append, List.set_cons_zero, List.set_cons_succ, List.not_mem_nil, List.mem_cons, if_false, if_true, ite_true, ite_false, and_self, and_true, true_and, Nat.reduceAdd, Nat.reduceLeDiff, Nat.reduceEqDiff, Nat.zero_add, Nat.le_refl, Nat.zero_le, or_false, false_or, Int.reduceToNat, or_true, true_or, eq_self, and_false, false_and, inR_d, nc_4, nc_5, nc_6, nc_7, nc_8, nc_16, nc_18, nc_20, nc_24, nc_32, nc_40, nc_64, nc_104, nc_120, nc_160, nc_256, nc_300, nc_330, nc_390, nc_1200, nc_1260, nc_3012, nc_9834, okSt_1i, okSt_1r, okSt_1n, List.length_cons, List.length_nil, xpk_succ cd_223_0, xpk_succ cd_223_1, xpk_succ cd_223_4, xpk_succ cd_223_5, xpk_succ cd_223_8, xpk_succ cd_223_9, xpk_succ cd_223_10, xpk_succ cd_223_11, xpk_succ cd_223_14, xpk_succ cd_223_15, xpk_succ cd_223_16, xpk_succ cd_223_19, xpk_succ cd_223_22, xpk_succ cd_223_23, xpk_succ cd_223_24, xpk_succ cd_223_25, xpk_succ cd_223_28, xpk_succ cd_223_29, xpk_succ cd_223_30, xpk_succ cd_223_33, xpk_succ cd_223_34, xpk_succ cd_223_35, xpk_succ cd_223_38, xpk_succ cd_223_39, k1, k2, o2, r4, hnum, X_ij, d3, b1, l1, E1]
      exact y
    · have d3 := inB_0 d2
      have y : FGd β J n h0 h w (2 * (301 - a) + tz 1) (some (vI 2)) h := ⟨2, rfl, Or.inl ⟨by decide, by decide, s1⟩⟩
      refine xpk_sound (stops := []) (n := 40) ?_
      simp only [sk_0, sk_1, sk_2, sk_3, sk_4, sk_5, sk_6, sk_7, sk_8, sk_iadd, sk_isub, sk_imul, sk_iand, sk_ior, sk_ixor, sk_ishl, sk_ishr, sk_iushr, sk_idiv, sk_irem, sk_ineg, sk_ladd, sk_lsub, sk_lmul, sk_land, sk_lor, sk_ldiv, sk_lrem, sk_lneg, sk_lshl, sk_lshr, sk_i2l, sk_l2i, sk_lcmp, sk_dupI, sk_dupR, sk_dup2L, sk_dup2I, sk_popI, sk_ifeq, sk_ifne, sk_iflt, sk_ifge, sk_ifgt, sk_ifle, sk_iceq, sk_icne, sk_iclt, sk_icge, sk_icgt, sk_icle, sk_goto, sk_getf, sk_putf, sk_gets, sk_iald, sk_lald, sk_bald, sk_aald, sk_iast, sk_last, sk_bast, sk_aast, sk_alen, sk_newa, sk_newt, sk_new, sk_cs1, sk_cs2, sk_cs3, sk_cs4, sk_cs5, sk_cs6, sk_cv1, sk_cv2, sk_cv3, sk_cv4, sk_cv5, sk_cv6, sk_ci1, sk_ci2, sk_ci3, sk_ret0, sk_retI, sk_retL, sk_retR, sk_sw, sk_oin, sk_max, sk_min, sk_abs, lI_0, lI_s, lL_0, lL_s, lR_0, lR_s, vIo_e, vLo_e, vOo_e, stW_I, stW_L, stW_R, stW_0, stW_z, okSt_0, okSt_s, hV_eq, hK_eq, okF_0, okF_1, okF_3, is01_0, is01_1, is01_i, Int.toNat_natCast, Int.reduceEq, Int.reduceLE, Int.reduceLT, Int.reduceNeg, Nat.reduceLT, not_true_eq_false, not_false_eq_true, reduceIte, Option.toList, List.cons_append, List.nil_append, List.set_cons_zero, List.set_cons_succ, List.not_mem_nil, List.mem_cons, if_false, if_true, ite_true, ite_false, and_self, and_true, true_and, Nat.reduceAdd, Nat.reduceLeDiff, Nat.reduceEqDiff, Nat.zero_add, Nat.le_refl, Nat.zero_le, or_false, false_or, Int.reduceToNat, or_true, true_or, eq_self, and_false, false_and, inR_d, nc_4, nc_5, nc_6, nc_7, nc_8, nc_16, nc_18, nc_20, nc_24, nc_32, nc_40, nc_64, nc_104, nc_120, nc_160, nc_256, nc_300, nc_330, nc_390, nc_1200, nc_1260, nc_3012, nc_9834, okSt_1i, okSt_1r, okSt_1n, List.length_cons, List.length_nil, xpk_succ cd_223_0, xpk_succ cd_223_1, xpk_succ cd_223_4, xpk_succ cd_223_5, xpk_succ cd_223_8, xpk_succ cd_223_9, xpk_succ cd_223_10, xpk_succ cd_223_11, xpk_succ cd_223_14, xpk_succ cd_223_15, xpk_succ cd_223_16, xpk_succ cd_223_19, xpk_succ cd_223_22, xpk_succ cd_223_23, k1, r4, hnum, X_ij, d3]
      exact y
  · have y : FGd β J n h0 h w (2 * (301 - a) + tz tk) (some (vI 1)) h := ⟨1, rfl, Or.inl ⟨by decide, by decide, s1⟩⟩
    refine xpk_sound (stops := []) (n := 40) ?_
    simp only [sk_0, sk_1, sk_2, sk_3, sk_4, sk_5, sk_6, sk_7, sk_8, sk_iadd, sk_isub, sk_imul, sk_iand, sk_ior, sk_ixor, sk_ishl, sk_ishr, sk_iushr, sk_idiv, sk_irem, sk_ineg, sk_ladd, sk_lsub, sk_lmul, sk_land, sk_lor, sk_ldiv, sk_lrem, sk_lneg, sk_lshl, sk_lshr, sk_i2l, sk_l2i, sk_lcmp, sk_dupI, sk_dupR, sk_dup2L, sk_dup2I, sk_popI, sk_ifeq, sk_ifne, sk_iflt, sk_ifge, sk_ifgt, sk_ifle, sk_iceq, sk_icne, sk_iclt, sk_icge, sk_icgt, sk_icle, sk_goto, sk_getf, sk_putf, sk_gets, sk_iald, sk_lald, sk_bald, sk_aald, sk_iast, sk_last, sk_bast, sk_aast, sk_alen, sk_newa, sk_newt, sk_new, sk_cs1, sk_cs2, sk_cs3, sk_cs4, sk_cs5, sk_cs6, sk_cv1, sk_cv2, sk_cv3, sk_cv4, sk_cv5, sk_cv6, sk_ci1, sk_ci2, sk_ci3, sk_ret0, sk_retI, sk_retL, sk_retR, sk_sw, sk_oin, sk_max, sk_min, sk_abs, lI_0, lI_s, lL_0, lL_s, lR_0, lR_s, vIo_e, vLo_e, vOo_e, stW_I, stW_L, stW_R, stW_0, stW_z, okSt_0, okSt_s, hV_eq, hK_eq, okF_0, okF_1, okF_3, is01_0, is01_1, is01_i, Int.toNat_natCast, Int.reduceEq, Int.reduceLE, Int.reduceLT, Int.reduceNeg, Nat.reduceLT, not_true_eq_false, not_false_eq_true, reduceIte, Option.toList, List.cons_append, List.nil_append, List.set_cons_zero, List.set_cons_succ, List.not_mem_nil, List.mem_cons, if_false, if_true, ite_true, ite_false, and_self, and_true, true_and, Nat.reduceAdd, Nat.reduceLeDiff, Nat.reduceEqDiff, Nat.zero_add, Nat.le_refl, Nat.zero_le, or_false, false_or, Int.reduceToNat, or_true, true_or, eq_self, and_false, false_and, inR_d, nc_4, nc_5, nc_6, nc_7, nc_8, nc_16, nc_18, nc_20, nc_24, nc_32, nc_40, nc_64, nc_104, nc_120, nc_160, nc_256, nc_300, nc_330, nc_390, nc_1200, nc_1260, nc_3012, nc_9834, okSt_1i, okSt_1r, okSt_1n, List.length_cons, List.length_nil, xpk_succ cd_223_0, xpk_succ cd_223_1, xpk_succ cd_223_4, xpk_succ cd_223_5, xpk_succ cd_223_8, xpk_succ cd_223_9, k1, r4, d1]
    exact y
set_option maxHeartbeats 2000000 in
theorem X_wo {β J n d w a i : Nat} {h0 h : AH} {tk lo hi x : Int} (hJ : J < 4) (hn : n < 24) (i1 : 1 ≤ i) (i2 : i < 6) (hs : CSx β J n h0 h w a tk) (hw : w + tz tk ≤ a) (ha : a ≤ 300) : XC (d + 4) 224 [vR 76, vL x, vI ((753 * J + 1 + 6 * n + i : Nat) : Int), vI lo, vI hi] h (FGd β J n h0 h w (2 * (301 - a) + tz tk)) := by
  obtain ⟨s1, ⟨r1, r2, r3, r4⟩, s3, s4⟩ := id hs
  obtain ⟨⟨o2, o3, o4, o5⟩, k1, k2, k3, k4, k5⟩ := rdF s1.1
  obtain ⟨z, hz, E1⟩ := X_wd (d := d + 2) (x := x) s1.1 r4
  refine XC_of (Nat.le_of_ble_eq_true rfl) ?_
  show XP (d + 3) 224 0 [some (vR 76), some (vL x), none, some (vI ((753 * J + 1 + 6 * n + i : Nat) : Int)), some (vI lo), some (vI hi)] [] h _
  rcases hz with rfl | ⟨rfl, d1⟩
  · have y : FGd β J n h0 h w (2 * (301 - a) + tz tk) (some (vI 1)) h := ⟨1, rfl, Or.inl ⟨by decide, by decide, s1⟩⟩
    refine xpk_sound (stops := []) (n := 40) ?_
    simp only [sk_0, sk_1, sk_2, sk_3, sk_4, sk_5, sk_6, sk_7, sk_8, sk_iadd, sk_isub, sk_imul, sk_iand, sk_ior, sk_ixor, sk_ishl, sk_ishr, sk_iushr, sk_idiv, sk_irem, sk_ineg, sk_ladd, sk_lsub, sk_lmul, sk_land, sk_lor, sk_ldiv, sk_lrem, sk_lneg, sk_lshl, sk_lshr, sk_i2l, sk_l2i, sk_lcmp, sk_dupI, sk_dupR, sk_dup2L, sk_dup2I, sk_popI, sk_ifeq, sk_ifne, sk_iflt, sk_ifge, sk_ifgt, sk_ifle, sk_iceq, sk_icne, sk_iclt, sk_icge, sk_icgt, sk_icle, sk_goto, sk_getf, sk_putf, sk_gets, sk_iald, sk_lald, sk_bald, sk_aald, sk_iast, sk_last, sk_bast, sk_aast, sk_alen, sk_newa, sk_newt, sk_new, sk_cs1, sk_cs2, sk_cs3, sk_cs4, sk_cs5, sk_cs6, sk_cv1, sk_cv2, sk_cv3, sk_cv4, sk_cv5, sk_cv6, sk_ci1, sk_ci2, sk_ci3, sk_ret0, sk_retI, sk_retL, sk_retR, sk_sw, sk_oin, sk_max, sk_min, sk_abs, lI_0, lI_s, lL_0, lL_s, lR_0, lR_s, vIo_e, vLo_e, vOo_e, stW_I, stW_L, stW_R, stW_0, stW_z, okSt_0, okSt_s, hV_eq, hK_eq, okF_0, okF_1, okF_3, is01_0, is01_1, is01_i, Int.toNat_natCast, Int.reduceEq, Int.reduceLE, Int.reduceLT, Int.reduceNeg, Nat.reduceLT, not_true_eq_false, not_false_eq_true, reduceIte, Option.toList, List.cons_append, List.nil_append, List.set_cons_zero, List.set_cons_succ, List.not_mem_nil, List.mem_cons, if_false, if_true, ite_true, ite_false, and_self, and_true, true_and, Nat.reduceAdd, Nat.reduceLeDiff, Nat.reduceEqDiff, Nat.zero_add, Nat.le_refl, Nat.zero_le, or_false, false_or, Int.reduceToNat, or_true, true_or, eq_self, and_false, false_and, inR_d, nc_4, nc_5, nc_6, nc_7, nc_8, nc_16, nc_18, nc_20, nc_24, nc_32, nc_40, nc_64, nc_104, nc_120, nc_160, nc_256, nc_300, nc_330, nc_390, nc_1200, nc_1260, nc_3012, nc_9834, okSt_1i, okSt_1r, okSt_1n, List.length_cons, List.length_nil, xpk_succ cd_224_0, xpk_succ cd_224_1, xpk_succ cd_224_2, xpk_succ cd_224_5, xpk_succ cd_224_8, xpk_succ cd_224_9, k1, E1]
    exact y
  · obtain ⟨r, h1, ⟨rfl, n1, a', tk', n2, n3, n4, n5, n6, n7, n8⟩, E2⟩ := XC_dt (X_nt (d := d + 1) s1.1 s1.2.1.2 r3 ha)
    have t1 := CS_nt hs n1 n2 n3
    obtain ⟨-, l1, -⟩ := rdF n1.1
    have tk0 : tk ≠ 0 := by rw [d1]; decide
    have mu := mu_d tk0 n4 n6 n5
    obtain ⟨r, h2, ⟨f, rfl, q⟩, E3⟩ := XC_dt (X_fi (d := d) (lo := lo) (hi := hi) hJ hn i1 i2 t1 (bd_d (w_tz hw) n4 n6) n5)
    have y : FGd β J n h0 h w (2 * (301 - a) + tz tk) (some (vI f)) h2 := by
      rcases q with q | ⟨q1, a2, tk2, q2, q3, q4, q5, q6⟩
      · exact ⟨f, rfl, Or.inl q⟩
      · exact ⟨f, rfl, Or.inr ⟨q1, a2, tk2, q2, q3, q4, Nat.le_of_lt (Nat.lt_of_le_of_lt q5 mu), q6.trans (ST_n n1 (by decide))⟩⟩
    refine xpk_sound (stops := []) (n := 40) ?_
    simp only [sk_0, sk_1, sk_2, sk_3, sk_4, sk_5, sk_6, sk_7, sk_8, sk_iadd, sk_isub, sk_imul, sk_iand, sk_ior, sk_ixor, sk_ishl, sk_ishr, sk_iushr, sk_idiv, sk_irem, sk_ineg, sk_ladd, sk_lsub, sk_lmul, sk_land, sk_lor, sk_ldiv, sk_lrem, sk_lneg, sk_lshl, sk_lshr, sk_i2l, sk_l2i, sk_lcmp, sk_dupI, sk_dupR, sk_dup2L, sk_dup2I, sk_popI, sk_ifeq, sk_ifne, sk_iflt, sk_ifge, sk_ifgt, sk_ifle, sk_iceq, sk_icne, sk_iclt, sk_icge, sk_icgt, sk_icle, sk_goto, sk_getf, sk_putf, sk_gets, sk_iald, sk_lald, sk_bald, sk_aald, sk_iast, sk_last, sk_bast, sk_aast, sk_alen, sk_newa, sk_newt, sk_new, sk_cs1, sk_cs2, sk_cs3, sk_cs4, sk_cs5, sk_cs6, sk_cv1, sk_cv2, sk_cv3, sk_cv4, sk_cv5, sk_cv6, sk_ci1, sk_ci2, sk_ci3, sk_ret0, sk_retI, sk_retL, sk_retR, sk_sw, sk_oin, sk_max, sk_min, sk_abs, lI_0, lI_s, lL_0, lL_s, lR_0, lR_s, vIo_e, vLo_e, vOo_e, stW_I, stW_L, stW_R, stW_0, stW_z, okSt_0, okSt_s, hV_eq, hK_eq, okF_0, okF_1, okF_3, is01_0, is01_1, is01_i, Int.toNat_natCast, Int.reduceEq, Int.reduceLE, Int.reduceLT, Int.reduceNeg, Nat.reduceLT, not_true_eq_false, not_false_eq_true, reduceIte, Option.toList, List.cons_append, List.nil_append, List.set_cons_zero, List.set_cons_succ, List.not_mem_nil, List.mem_cons, if_false, if_true, ite_true, ite_false, and_self, and_true, true_and, Nat.reduceAdd, Nat.reduceLeDiff, Nat.reduceEqDiff, Nat.zero_add, Nat.le_refl, Nat.zero_le, or_false, false_or, Int.reduceToNat, or_true, true_or, eq_self, and_false, false_and, inR_d, nc_4, nc_5, nc_6, nc_7, nc_8, nc_16, nc_18, nc_20, nc_24, nc_32, nc_40, nc_64, nc_104, nc_120, nc_160, nc_256, nc_300, nc_330, nc_390, nc_1200, nc_1260, nc_3012, nc_9834, okSt_1i, okSt_1r, okSt_1n, List.length_cons, List.length_nil, xpk_succ cd_224_0, xpk_succ cd_224_1, xpk_succ cd_224_2, xpk_succ cd_224_5, xpk_succ cd_224_8, xpk_succ cd_224_9, xpk_succ cd_224_10, xpk_succ cd_224_11, xpk_succ cd_224_14, xpk_succ cd_224_15, xpk_succ cd_224_16, xpk_succ cd_224_18, xpk_succ cd_224_20, xpk_succ cd_224_23, k1, E1, E2, l1, E3]
    exact y
