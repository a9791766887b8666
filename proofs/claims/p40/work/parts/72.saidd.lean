set_option maxHeartbeats 4000000 in
theorem X_sdM5 {d n : Nat} {h : AH} {r b : Int} (hJ : k_H JB h) (hn : (n : Int) = fI h 77 6) (en : hV h 77 6 = vI (n : Int)) (z : ¬ r = -1) (z1 : ¬ (0 ≤ r ∧ r ≤ 10)) (Q : Option AV → AH → Prop) : XC (d + 2) 310 [vR 76, vI r, vI b] h Q = Q (some (vI (sdA r (n : Int)))) (sdM h r b) := by
  refine XC_eq (Nat.le_of_ble_eq_true rfl) ?_ Q
  show XP (d + 1) 310 0 [some (vR 76), some (vI r), some (vI b)] [] h _
  have wn : ∀ Q : Option AV → AH → Prop, XC (d + 1) 182 [vI r, vI 0, vI 10] h Q = Q (some (vI (if 0 ≤ r ∧ r ≤ 10 then 1 else 0))) h := fun Q => X_in
  have z5 : ¬ ((0 ≤ r ∧ r ≤ 10) ∧ (n : Int) < 8) := fun q => z1 q.1
  have wn : ∀ Q : Option AV → AH → Prop, XC (d + 1) 182 [vI r, vI 0, vI 10] h Q = Q (some (vI 0)) h := fun Q => by rw [wn, if_neg z1]
  have ya : sdA r (n : Int) = -2 ∧ sdM h r b = h := by unfold sdA sdM; rw [if_neg z, if_neg z, ← hn, if_neg z5, if_neg z5]; exact ⟨rfl, rfl⟩
  rw [ya.1, ya.2]
  have y : XP (d + 1) 310 37 [some (vR 76), some (vI r), some (vI b)] [] h (fun r1 h1 => r1 = some (vI (-2)) ∧ h1 = h) := by
    refine xpk_sound (stops := []) (n := 10) ?_
    simp only [sk_0, sk_1, sk_2, sk_3, sk_4, sk_5, sk_6, sk_7, sk_8, sk_iadd, sk_isub, sk_imul, sk_iand, sk_ior, sk_ixor, sk_ishl, sk_ishr, sk_iushr, sk_idiv, sk_irem, sk_ineg, sk_ladd, sk_lsub, sk_lmul, sk_land, sk_lor, sk_ldiv, sk_lrem, sk_lneg, sk_lshl, sk_lshr, sk_i2l, sk_l2i, sk_lcmp, sk_dupI, sk_dupR, sk_dup2L, sk_dup2I, sk_popI, sk_ifeq, sk_ifne, sk_iflt, sk_ifge, sk_ifgt, sk_ifle, sk_iceq, sk_icne, sk_iclt, sk_icge, sk_icgt, sk_icle, sk_goto, sk_getf, sk_putf, sk_gets, sk_iald, sk_lald, sk_bald, sk_aald, sk_iast, sk_last, sk_bast, sk_aast, sk_alen, sk_newa, sk_newt, sk_new, sk_cs1, sk_cs2, sk_cs3, sk_cs4, sk_cs5, sk_cs6, sk_cv1, sk_cv2, sk_cv3, sk_cv4, sk_cv5, sk_cv6, sk_ci1, sk_ci2, sk_ci3, sk_ret0, sk_retI, sk_retL, sk_retR, sk_sw, sk_oin, sk_max, sk_min, sk_abs, lI_0, lI_s, lL_0, lL_s, lR_0, lR_s, vIo_e, vLo_e, vOo_e, stW_I, stW_L, stW_R, stW_0, stW_z, okSt_0, okSt_s, hV_eq, hK_eq, okF_0, okF_1, okF_3, is01_0, is01_1, is01_i, Int.toNat_natCast, Int.reduceEq, Int.reduceLE, Int.reduceLT, Int.reduceNeg, Nat.reduceLT, not_true_eq_false, not_false_eq_true, reduceIte, Option.toList, List.cons_append, List.nil_append, List.set_cons_zero, List.set_cons_succ, List.not_mem_nil, List.mem_cons, if_false, if_true, ite_true, ite_false, and_self, and_true, true_and, Nat.reduceAdd, Nat.reduceLeDiff, Nat.reduceEqDiff, Nat.zero_add, Nat.le_refl, Nat.zero_le, or_false, false_or, Int.reduceToNat, or_true, true_or, eq_self, and_false, false_and, inR_d, nc_4, nc_5, nc_6, nc_7, nc_8, nc_16, nc_18, nc_20, nc_24, nc_32, nc_40, nc_64, nc_104, nc_120, nc_160, nc_256, nc_300, nc_330, nc_390, nc_1200, nc_1260, nc_3012, nc_9834, okSt_1i, okSt_1r, okSt_1n, List.length_cons, List.length_nil, xpk_succ cd_310_37, xpk_succ cd_310_39, wn, en, K_76 hJ, K_77 hJ, F_76_0 hJ, z]
  have y2 : XP (d + 1) 310 22 [some (vR 76), some (vI r), some (vI b)] [vI 0] h (fun r1 h1 => r1 = some (vI (-2)) ∧ h1 = h) := by
    refine xpk_sound (stops := [37]) (n := 10) ?_
    simp only [sk_0, sk_1, sk_2, sk_3, sk_4, sk_5, sk_6, sk_7, sk_8, sk_iadd, sk_isub, sk_imul, sk_iand, sk_ior, sk_ixor, sk_ishl, sk_ishr, sk_iushr, sk_idiv, sk_irem, sk_ineg, sk_ladd, sk_lsub, sk_lmul, sk_land, sk_lor, sk_ldiv, sk_lrem, sk_lneg, sk_lshl, sk_lshr, sk_i2l, sk_l2i, sk_lcmp, sk_dupI, sk_dupR, sk_dup2L, sk_dup2I, sk_popI, sk_ifeq, sk_ifne, sk_iflt, sk_ifge, sk_ifgt, sk_ifle, sk_iceq, sk_icne, sk_iclt, sk_icge, sk_icgt, sk_icle, sk_goto, sk_getf, sk_putf, sk_gets, sk_iald, sk_lald, sk_bald, sk_aald, sk_iast, sk_last, sk_bast, sk_aast, sk_alen, sk_newa, sk_newt, sk_new, sk_cs1, sk_cs2, sk_cs3, sk_cs4, sk_cs5, sk_cs6, sk_cv1, sk_cv2, sk_cv3, sk_cv4, sk_cv5, sk_cv6, sk_ci1, sk_ci2, sk_ci3, sk_ret0, sk_retI, sk_retL, sk_retR, sk_sw, sk_oin, sk_max, sk_min, sk_abs, lI_0, lI_s, lL_0, lL_s, lR_0, lR_s, vIo_e, vLo_e, vOo_e, stW_I, stW_L, stW_R, stW_0, stW_z, okSt_0, okSt_s, hV_eq, hK_eq, okF_0, okF_1, okF_3, is01_0, is01_1, is01_i, Int.toNat_natCast, Int.reduceEq, Int.reduceLE, Int.reduceLT, Int.reduceNeg, Nat.reduceLT, not_true_eq_false, not_false_eq_true, reduceIte, Option.toList, List.cons_append, List.nil_append, List.set_cons_zero, List.set_cons_succ, List.not_mem_nil, List.mem_cons, if_false, if_true, ite_true, ite_false, and_self, and_true, true_and, Nat.reduceAdd, Nat.reduceLeDiff, Nat.reduceEqDiff, Nat.zero_add, Nat.le_refl, Nat.zero_le, or_false, false_or, Int.reduceToNat, or_true, true_or, eq_self, and_false, false_and, inR_d, nc_4, nc_5, nc_6, nc_7, nc_8, nc_16, nc_18, nc_20, nc_24, nc_32, nc_40, nc_64, nc_104, nc_120, nc_160, nc_256, nc_300, nc_330, nc_390, nc_1200, nc_1260, nc_3012, nc_9834, okSt_1i, okSt_1r, okSt_1n, List.length_cons, List.length_nil, xpk_succ cd_310_22, wn, en, K_76 hJ, K_77 hJ, F_76_0 hJ, z]
    exact y
  refine xpk_sound (stops := [22]) (n := 20) ?_
  simp only [sk_0, sk_1, sk_2, sk_3, sk_4, sk_5, sk_6, sk_7, sk_8, sk_iadd, sk_isub, sk_imul, sk_iand, sk_ior, sk_ixor, sk_ishl, sk_ishr, sk_iushr, sk_idiv, sk_irem, sk_ineg, sk_ladd, sk_lsub, sk_lmul, sk_land, sk_lor, sk_ldiv, sk_lrem, sk_lneg, sk_lshl, sk_lshr, sk_i2l, sk_l2i, sk_lcmp, sk_dupI, sk_dupR, sk_dup2L, sk_dup2I, sk_popI, sk_ifeq, sk_ifne, sk_iflt, sk_ifge, sk_ifgt, sk_ifle, sk_iceq, sk_icne, sk_iclt, sk_icge, sk_icgt, sk_icle, sk_goto, sk_getf, sk_putf, sk_gets, sk_iald, sk_lald, sk_bald, sk_aald, sk_iast, sk_last, sk_bast, sk_aast, sk_alen, sk_newa, sk_newt, sk_new, sk_cs1, sk_cs2, sk_cs3, sk_cs4, sk_cs5, sk_cs6, sk_cv1, sk_cv2, sk_cv3, sk_cv4, sk_cv5, sk_cv6, sk_ci1, sk_ci2, sk_ci3, sk_ret0, sk_retI, sk_retL, sk_retR, sk_sw, sk_oin, sk_max, sk_min, sk_abs, lI_0, lI_s, lL_0, lL_s, lR_0, lR_s, vIo_e, vLo_e, vOo_e, stW_I, stW_L, stW_R, stW_0, stW_z, okSt_0, okSt_s, hV_eq, hK_eq, okF_0, okF_1, okF_3, is01_0, is01_1, is01_i, Int.toNat_natCast, Int.reduceEq, Int.reduceLE, Int.reduceLT, Int.reduceNeg, Nat.reduceLT, not_true_eq_false, not_false_eq_true, reduceIte, Option.toList, List.cons_append, List.nil_append, List.set_cons_zero, List.set_cons_succ, List.not_mem_nil, List.mem_cons, if_false, if_true, ite_true, ite_false, and_self, and_true, true_and, Nat.reduceAdd, Nat.reduceLeDiff, Nat.reduceEqDiff, Nat.zero_add, Nat.le_refl, Nat.zero_le, or_false, false_or, Int.reduceToNat, or_true, true_or, eq_self, and_false, false_and, inR_d, nc_4, nc_5, nc_6, nc_7, nc_8, nc_16, nc_18, nc_20, nc_24, nc_32, nc_40, nc_64, nc_104, nc_120, nc_160, nc_256, nc_300, nc_330, nc_390, nc_1200, nc_1260, nc_3012, nc_9834, okSt_1i, okSt_1r, okSt_1n, List.length_cons, List.length_nil, xpk_succ cd_310_0, xpk_succ cd_310_1, xpk_succ cd_310_2, xpk_succ cd_310_15, xpk_succ cd_310_16, xpk_succ cd_310_17, xpk_succ cd_310_19, wn, en, K_76 hJ, K_77 hJ, F_76_0 hJ, z]
  exact y2
theorem X_sdM {d : Nat} {h : AH} {r b : Int} (hJ : k_H JB h) (Q : Option AV → AH → Prop) : XC (d + 2) 310 [vR 76, vI r, vI b] h Q = Q (some (vI (sdA r (fI h 77 6)))) (sdM h r b) := by
  obtain ⟨en, n0, n8⟩ := I_77_6 hJ
  obtain ⟨n, hn⟩ : ∃ n : Nat, (n : Int) = fI h 77 6 := ⟨(fI h 77 6).toNat, by omega⟩
  have en : hV h 77 6 = vI (n : Int) := by rw [en, hn]
  rw [← hn]
  rw [← hn] at n8
  by_cases z : r = -1
  · exact X_sdM1 hJ hn en z Q
  by_cases z1 : 0 ≤ r ∧ r ≤ 10
  · by_cases z2 : (n : Int) < 8
    · by_cases c : b = 0
      · exact X_sdM2 hJ hn en z z1 z2 c Q
      · exact X_sdM3 hJ hn en z z1 z2 c Q
    · exact X_sdM4 hJ hn en z z1 z2 (by omega) Q
  · exact X_sdM5 hJ hn en z z1 Q
theorem SDa_sd {h h1 h2 : AH} {r b : Int} (hJ : k_H JB h) (q : SDa h) (e1 : h1 = sdC h r b) (e2 : h2 = sdM h1 r b) : SDa h2 ∧ fI h1 77 6 = fI h 1 10 := by
  obtain ⟨en, n0, n8⟩ := I_1_10 hJ
  obtain ⟨n, hn⟩ : ∃ n : Nat, (n : Int) = fI h 1 10 := ⟨(fI h 1 10).toNat, by omega⟩
  have c0 : hV h 77 6 = vI (n : Int) := by rw [← q.1.1, en, hn]
  have n1 : ∀ k i, k ≠ 1 → k ≠ 7 → hV h1 k i = hV h k i := fun k i hk hk' => by
    rw [e1]
    unfold sdC
    split
    · exact if_neg (fun y => hk y.1)
    · split
      · exact (if_neg (fun y => hk y.1)).trans (if_neg (fun y => hk' y.1))
      · rfl
  have c1 : fI h1 77 6 = (n : Int) := by unfold fI; rw [n1 77 6 (by decide) (by decide), c0]; rfl
  have n2 : ∀ k i, k ≠ 77 → hV h2 k i = hV h1 k i := fun k i hk => by
    rw [e2]
    unfold sdM
    split
    · exact if_neg (fun y => hk y.1)
    · split
      · exact (if_neg (fun y => hk y.1)).trans ((if_neg (fun y => hk y.1)).trans (if_neg (fun y => hk y.1)))
      · rfl
  have z11 : hV h1 11 10 = hV h 11 10 := n1 11 10 (by decide) (by decide)
  have im : SDp h2 11 17 78 := SDp_e (c := 11) (s := 17) (m := 78) q.2 (I_11_10 hJ).2.2 ((n2 _ _ (by decide)).trans z11) (fun i _ => (n2 _ _ (by decide)).trans (n1 _ _ (by decide) (by decide))) ((n2 _ _ (by decide)).trans (n1 _ _ (by decide) (by decide))) (fun i _ _ => (n2 _ _ (by decide)).trans (n1 _ _ (by decide) (by decide)))
  refine ⟨⟨?_, im⟩, c1.trans hn⟩
  by_cases z : r = -1
  · have a1 : hV h2 1 10 = vI 0 := by rw [n2 1 10 (by decide), e1]; unfold sdC; rw [if_pos z]; exact hV_s
    have a2 : hV h2 77 6 = vI 0 := by rw [e2]; unfold sdM; rw [if_pos z]; exact hV_s
    refine ⟨a1.trans a2.symm, fun i hi => ?_⟩
    unfold fI at hi
    rw [a1] at hi
    exact absurd (show (i : Int) < 0 from hi) (by omega)
  by_cases z1 : (0 ≤ r ∧ r ≤ 10) ∧ (n : Int) < 8
  · have f1 : h1 = hSet (hSet h 7 n (vI (if b = 0 then 10 - r else r))) 1 10 (vI ((n : Int) + 1)) := by rw [e1]; unfold sdC; rw [if_neg z, ← hn, if_pos z1, Int.toNat_natCast]
    have f2 : h2 = hSet (hSet (hSet h1 77 (68 + 2 * n) (vI r)) 77 (69 + 2 * n) (vI (if b = 0 then 0 else 1))) 77 6 (vI ((n : Int) + 1)) := by rw [e2]; unfold sdM; rw [if_neg z, c1, if_pos z1, Int.toNat_natCast]
    have a1 : hV h2 1 10 = vI ((n : Int) + 1) := by rw [n2 1 10 (by decide), f1]; exact hV_s
    have a2 : hV h2 77 6 = vI ((n : Int) + 1) := by rw [f2]; exact hV_s
    have z3 := z1.2
    refine ⟨a1.trans a2.symm, fun i hi => ?_⟩
    unfold fI at hi
    rw [a1] at hi
    have hi : (i : Int) < (n : Int) + 1 := hi
    have b1 : ∀ j, j ≠ 6 → hV h2 77 j = if j = 69 + 2 * n then vI (if b = 0 then 0 else 1) else if j = 68 + 2 * n then vI r else hV h 77 j := fun j hj => by
      rw [f2]
      simp only [hV_eq, hj, true_and, and_false, if_false]
      rw [n1 77 j (by decide) (by decide)]
    have b2 : hV h2 7 i = if i = n then vI (if b = 0 then 10 - r else r) else hV h 7 i := by
      rw [n2 7 i (by decide), f1]
      simp only [hV_eq, Nat.reduceEqDiff, false_and, true_and, if_false, reduceIte]
    unfold fI
    rw [b1 (69 + 2 * i) (by omega), b1 (68 + 2 * i) (by omega), b2]
    by_cases y : i = n
    · subst y
      rw [if_pos rfl, if_pos rfl, if_neg (by omega : ¬ (68 + 2 * i = 69 + 2 * i)), if_pos rfl]
      by_cases c : b = 0
      · rw [if_pos c, if_pos c]; exact (congrArg vI (if_neg (show ¬ ((0 : Int) = 1) by decide))).symm
      · rw [if_neg c, if_neg c]; exact (congrArg vI (if_pos (show ((1 : Int) = 1) from rfl))).symm
    · rw [if_neg y, if_neg (by omega : ¬ (69 + 2 * i = 69 + 2 * n)), if_neg (by omega : ¬ (69 + 2 * i = 68 + 2 * n)), if_neg (by omega : ¬ (68 + 2 * i = 69 + 2 * n)), if_neg (by omega : ¬ (68 + 2 * i = 68 + 2 * n))]
      exact q.1.2 i (by omega)
  · have f1 : h1 = h := by rw [e1]; unfold sdC; rw [if_neg z, ← hn, if_neg z1]
    have f2 : h2 = h := by rw [e2]; unfold sdM; rw [if_neg z, c1, if_neg z1, f1]
    rw [f2]
    exact q.1
