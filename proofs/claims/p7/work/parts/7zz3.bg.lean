set_option maxRecDepth 20000 in
theorem ac_271 : allC[271]? = some cl271 := rfl
theorem cd_271_0 : cd 271 0 = some (0, 1, 0, 0, 0, []) := cd_row ac_271 rfl
theorem cd_271_1 : cd 271 1 = some (5, 2, 1, 0, 0, []) := cd_row ac_271 rfl
theorem cd_271_2 : cd 271 2 = some (2, 3, 1, 0, 0, []) := cd_row ac_271 rfl
theorem cd_271_3 : cd 271 3 = some (0, 5, 0, 0, 18, []) := cd_row ac_271 rfl
theorem cd_271_5 : cd 271 5 = some (21, 8, 26, 3, 0, []) := cd_row ac_271 rfl
theorem cd_271_8 : cd 271 8 = some (4, 9, 0, 0, 0, []) := cd_row ac_271 rfl
theorem cd_271_9 : cd 271 9 = some (23, 12, 10, 26, 0, []) := cd_row ac_271 rfl
theorem cd_271_12 : cd 271 12 = some (2, 13, 1, 0, 0, []) := cd_row ac_271 rfl
theorem cd_271_13 : cd 271 13 = some (4, 14, 0, 0, 0, []) := cd_row ac_271 rfl
theorem cd_271_14 : cd 271 14 = some (23, 17, 10, 0, 0, []) := cd_row ac_271 rfl
theorem cd_271_17 : cd 271 17 = some (2, 18, 1, 0, 0, []) := cd_row ac_271 rfl
theorem cd_271_18 : cd 271 18 = some (26, 19, 0, 0, 0, []) := cd_row ac_271 rfl
theorem cd_271_19 : cd 271 19 = some (30, 20, 0, 0, 0, []) := cd_row ac_271 rfl
theorem cd_271_20 : cd 271 20 = some (8, 23, 1, 0, 1, []) := cd_row ac_271 rfl
theorem cd_271_23 : cd 271 23 = some (22, 26, 2, 0, 0, []) := cd_row ac_271 rfl
theorem cd_271_26 : cd 271 26 = some (39, 27, 0, 0, 0, []) := cd_row ac_271 rfl
set_option maxRecDepth 20000 in
theorem ac_272 : allC[272]? = some cl272 := rfl
theorem cd_272_0 : cd 272 0 = some (0, 1, 0, 0, 0, []) := cd_row ac_272 rfl
theorem cd_272_1 : cd 272 1 = some (5, 2, 1, 0, 0, []) := cd_row ac_272 rfl
theorem cd_272_2 : cd 272 2 = some (2, 3, 1, 0, 0, []) := cd_row ac_272 rfl
theorem cd_272_3 : cd 272 3 = some (0, 5, 0, 0, 18, []) := cd_row ac_272 rfl
theorem cd_272_5 : cd 272 5 = some (21, 8, 26, 3, 0, []) := cd_row ac_272 rfl
theorem cd_272_8 : cd 272 8 = some (4, 9, 0, 0, 0, []) := cd_row ac_272 rfl
theorem cd_272_9 : cd 272 9 = some (23, 12, 10, 0, 0, []) := cd_row ac_272 rfl
theorem cd_272_12 : cd 272 12 = some (2, 13, 1, 0, 0, []) := cd_row ac_272 rfl
theorem cd_272_13 : cd 272 13 = some (4, 14, 0, 0, 0, []) := cd_row ac_272 rfl
theorem cd_272_14 : cd 272 14 = some (23, 17, 10, 26, 0, []) := cd_row ac_272 rfl
theorem cd_272_17 : cd 272 17 = some (2, 18, 1, 0, 0, []) := cd_row ac_272 rfl
theorem cd_272_18 : cd 272 18 = some (26, 19, 0, 0, 0, []) := cd_row ac_272 rfl
theorem cd_272_19 : cd 272 19 = some (30, 20, 0, 0, 0, []) := cd_row ac_272 rfl
theorem cd_272_20 : cd 272 20 = some (8, 23, 1, 0, 1, []) := cd_row ac_272 rfl
theorem cd_272_23 : cd 272 23 = some (22, 26, 2, 0, 0, []) := cd_row ac_272 rfl
theorem cd_272_26 : cd 272 26 = some (4, 27, 0, 0, 0, []) := cd_row ac_272 rfl
theorem cd_272_27 : cd 272 27 = some (0, 28, 0, 0, 0, []) := cd_row ac_272 rfl
theorem cd_272_28 : cd 272 28 = some (24, 31, 10, 25, 2, []) := cd_row ac_272 rfl
theorem cd_272_31 : cd 272 31 = some (39, 32, 0, 0, 0, []) := cd_row ac_272 rfl
/-! what is set aside -/
def hAs (h : AH) (b : Nat → Int) (k : Nat) : AH := (h.1, h.2.1, h.2.2.1, fun a j => if a = 85 ∧ j < k then vI (b j) else h.2.2.2 a j)
theorem Mc_c {h h' : AH} {am : Nat → Int} {s : SCM} {a j : Nat} (e : hV h a j = hV h' a j) : hV (Mc h am s) a j = hV (Mc h' am s) a j := by
  have e : h.2.2.2 a j = h'.2.2.2 a j := e
  obtain ⟨nm, af, ae, vf, tf⟩ := s
  show (if a = 83 ∧ j < 330 then vL (vf j) else if a = 84 ∧ j < 330 then vI (tf j) else if a = 82 ∧ j < 8 then vI (nm j) else if a = 76 ∧ j = 21 then vI af else if a = 76 ∧ j = 22 then vI ae else if a = 77 ∧ j < 9834 then vI (am j) else h.2.2.2 a j) = (if a = 83 ∧ j < 330 then vL (vf j) else if a = 84 ∧ j < 330 then vI (tf j) else if a = 82 ∧ j < 8 then vI (nm j) else if a = 76 ∧ j = 21 then vI af else if a = 76 ∧ j = 22 then vI ae else if a = 77 ∧ j < 9834 then vI (am j) else h'.2.2.2 a j)
  rw [e]
theorem Mc_85 {h : AH} {am : Nat → Int} {s : SCM} {j : Nat} : hV (Mc h am s) 85 j = hV h 85 j := Mc_n (by decide) (by decide) (Or.inl (by decide)) (by decide) (by decide)
theorem hAs_s {h : AH} {am b : Nat → Int} {s : SCM} {k : Nat} : hSet (Mc (hAs h b k) am s) 85 k (vI (b k)) = Mc (hAs h b (k + 1)) am s := by
  refine AH_x rfl rfl rfl (fun a j => ?_)
  show (if a = 85 ∧ j = k then vI (b k) else hV (Mc (hAs h b k) am s) a j) = _
  by_cases za : a = 85
  · subst za
    rw [Mc_85, Mc_85]
    show (if 85 = 85 ∧ j = k then vI (b k) else if 85 = 85 ∧ j < k then vI (b j) else h.2.2.2 85 j) = if 85 = 85 ∧ j < k + 1 then vI (b j) else h.2.2.2 85 j
    by_cases z1 : j = k
    · rw [if_pos ⟨rfl, z1⟩, if_pos ⟨rfl, by omega⟩, z1]
    · rw [if_neg (fun y => z1 y.2)]
      by_cases z2 : j < k
      · rw [if_pos ⟨rfl, z2⟩, if_pos ⟨rfl, by omega⟩]
      · rw [if_neg (fun y => z2 y.2), if_neg (fun y => z2 (by omega))]
  · rw [if_neg (fun y => za y.1)]
    exact Mc_c ((if_neg (fun y => za y.1)).trans (if_neg (fun y => za y.1)).symm)
theorem hAs_0 {h : AH} {b : Nat → Int} : hAs h b 0 = h := AH_x rfl rfl rfl (fun a j => if_neg (fun y => absurd y.2 (Nat.not_lt_zero _)))
theorem hAs_n {h : AH} {b : Nat → Int} {k a j : Nat} (ha : a ≠ 85) : hV (hAs h b k) a j = hV h a j := by
  show (if a = 85 ∧ j < k then vI (b j) else h.2.2.2 a j) = h.2.2.2 a j
  rw [if_neg (fun y => ha y.1)]
theorem Mc_25 {h : AH} {am : Nat → Int} {s : SCM} {v : AV} : hSet (Mc h am s) 76 25 v = Mc (hSet h 76 25 v) am s := by
  refine AH_x rfl rfl rfl (fun a j => ?_)
  obtain ⟨nm, af, ae, vf, tf⟩ := s
  show (if a = 76 ∧ j = 25 then v else if a = 83 ∧ j < 330 then vL (vf j) else if a = 84 ∧ j < 330 then vI (tf j) else if a = 82 ∧ j < 8 then vI (nm j) else if a = 76 ∧ j = 21 then vI af else if a = 76 ∧ j = 22 then vI ae else if a = 77 ∧ j < 9834 then vI (am j) else h.2.2.2 a j) = (if a = 83 ∧ j < 330 then vL (vf j) else if a = 84 ∧ j < 330 then vI (tf j) else if a = 82 ∧ j < 8 then vI (nm j) else if a = 76 ∧ j = 21 then vI af else if a = 76 ∧ j = 22 then vI ae else if a = 77 ∧ j < 9834 then vI (am j) else if a = 76 ∧ j = 25 then v else h.2.2.2 a j)
  by_cases z : a = 76 ∧ j = 25
  · rw [if_pos z, if_neg (by omega), if_neg (by omega), if_neg (by omega), if_neg (by omega), if_neg (by omega), if_neg (by omega), if_pos z]
  · rw [if_neg z, if_neg z]
theorem bg_n {k : Nat} (hk : k < 18) : WE ((k : Int) + 1) ((k + 1 : Nat) : Int) ∧ ((0 : Int) ≤ (k : Int) ∧ (k : Int) < 18) ∧ ((0 : Int) ≤ (k : Int) ∧ (k : Int) < 9834) ∧ ¬ ((18 : Int) ≤ (k : Int)) := by unfold WE w32; omega
set_option maxHeartbeats 1000000 in
theorem bg_l {d : Nat} {h : AH} {am : Nat → Int} {s : SCM} (hJ : k_H JB h) : ∀ (e k : Nat), k + e = 18 → XP d 271 2 [some (vR 76), some (vI (k : Int))] [] (Mc (hAs h am k) am s) (fun r g => r = none ∧ g = Mc (hAs h am 18) am s) := by
  intro e
  induction e with
  | zero =>
    intro k hk
    obtain rfl : k = 18 := by omega
    have y : (none : Option AV) = none ∧ Mc (hAs h am 18) am s = Mc (hAs h am 18) am s := ⟨rfl, rfl⟩
    refine xpk_sound (stops := []) (n := 8) ?_
    simp only [sk_0, sk_1, sk_2, sk_3, sk_4, sk_5, sk_6, sk_7, sk_8, sk_iadd, sk_isub, sk_imul, sk_iand, sk_ior, sk_ixor, sk_ishl, sk_ishr, sk_iushr, sk_idiv, sk_irem, sk_ineg, sk_ladd, sk_lsub, sk_lmul, sk_land, sk_lor, sk_ldiv, sk_lrem, sk_lneg, sk_lshl, sk_lshr, sk_i2l, sk_l2i, sk_lcmp, sk_dupI, sk_dupR, sk_dup2L, sk_dup2I, sk_popI, sk_ifeq, sk_ifne, sk_iflt, sk_ifge, sk_ifgt, sk_ifle, sk_iceq, sk_icne, sk_iclt, sk_icge, sk_icgt, sk_icle, sk_goto, sk_getf, sk_putf, sk_gets, sk_iald, sk_lald, sk_bald, sk_aald, sk_iast, sk_last, sk_bast, sk_aast, sk_alen, sk_newa, sk_newt, sk_new, sk_cs1, sk_cs2, sk_cs3, sk_cs4, sk_cs5, sk_cs6, sk_cv1, sk_cv2, sk_cv3, sk_cv4, sk_cv5, sk_cv6, sk_ci1, sk_ci2, sk_ci3, sk_ret0, sk_retI, sk_retL, sk_retR, sk_sw, sk_oin, sk_max, sk_min, sk_abs, lI_0, lI_s, lL_0, lL_s, lR_0, lR_s, vIo_e, vLo_e, vOo_e, stW_I, stW_L, stW_R, stW_0, stW_z, okSt_0, okSt_s, hV_eq, hK_eq, okF_0, okF_1, okF_3, is01_0, is01_1, is01_i, Int.toNat_natCast, Int.reduceEq, Int.reduceLE, Int.reduceLT, Int.reduceNeg, Nat.reduceLT, not_true_eq_false, not_false_eq_true, reduceIte, Option.toList, List.cons_append, List.nil_append, List.set_cons_zero, List.set_cons_succ, List.not_mem_nil, List.mem_cons, if_false, if_true, ite_true, ite_false, and_self, and_true, true_and, Nat.reduceAdd, Nat.reduceLeDiff, Nat.reduceEqDiff, Nat.zero_add, Nat.le_refl, Nat.zero_le, or_false, false_or, Int.reduceToNat, or_true, true_or, eq_self, and_false, false_and, inR_d, nc_4, nc_5, nc_6, nc_7, nc_8, nc_16, nc_18, nc_20, nc_24, nc_32, nc_40, nc_64, nc_104, nc_120, nc_160, nc_256, nc_300, nc_330, nc_390, nc_1200, nc_1260, nc_3012, nc_9834, okSt_1i, okSt_1r, okSt_1n, List.length_cons, List.length_nil, xpk_succ cd_271_2, xpk_succ cd_271_3, xpk_succ cd_271_5, xpk_succ cd_271_8, xpk_succ cd_271_9, xpk_succ cd_271_12, xpk_succ cd_271_13, xpk_succ cd_271_14, xpk_succ cd_271_17, xpk_succ cd_271_18, xpk_succ cd_271_19, xpk_succ cd_271_20, xpk_succ cd_271_23, xpk_succ cd_271_26]
  | succ e ih =>
    intro k hk
    obtain ⟨w1, b1, b2, z⟩ := bg_n (k := k) (by omega)
    have y := ih (k + 1) (by omega)
    have m26 : hV (Mc (hAs h am k) am s) 76 26 = vR 85 := (Mc_n (by decide) (by decide) (Or.inr ⟨by decide, by decide⟩) (by decide) (by decide)).trans ((hAs_n (by decide)).trans (F_76_26 hJ))
    have m0 : hV (Mc (hAs h am k) am s) 76 0 = vR 77 := (Mc_n (by decide) (by decide) (Or.inr ⟨by decide, by decide⟩) (by decide) (by decide)).trans ((hAs_n (by decide)).trans (F_76_0 hJ))
    have k76 : hK (Mc (hAs h am k) am s) 76 = (10, 0) := K_76 (h := h) hJ
    have k77 : hK (Mc (hAs h am k) am s) 77 = (11, 9834) := K_77 (h := h) hJ
    have k85 : hK (Mc (hAs h am k) am s) 85 = (11, 18) := K_85 (h := h) hJ
    have v : hV (Mc (hAs h am k) am s) 77 k = vI (am k) := Mc_v (by omega)
    refine xpk_sound (stops := [2]) (n := 30) ?_
    simp only [sk_0, sk_1, sk_2, sk_3, sk_4, sk_5, sk_6, sk_7, sk_8, sk_iadd, sk_isub, sk_imul, sk_iand, sk_ior, sk_ixor, sk_ishl, sk_ishr, sk_iushr, sk_idiv, sk_irem, sk_ineg, sk_ladd, sk_lsub, sk_lmul, sk_land, sk_lor, sk_ldiv, sk_lrem, sk_lneg, sk_lshl, sk_lshr, sk_i2l, sk_l2i, sk_lcmp, sk_dupI, sk_dupR, sk_dup2L, sk_dup2I, sk_popI, sk_ifeq, sk_ifne, sk_iflt, sk_ifge, sk_ifgt, sk_ifle, sk_iceq, sk_icne, sk_iclt, sk_icge, sk_icgt, sk_icle, sk_goto, sk_getf, sk_putf, sk_gets, sk_iald, sk_lald, sk_bald, sk_aald, sk_iast, sk_last, sk_bast, sk_aast, sk_alen, sk_newa, sk_newt, sk_new, sk_cs1, sk_cs2, sk_cs3, sk_cs4, sk_cs5, sk_cs6, sk_cv1, sk_cv2, sk_cv3, sk_cv4, sk_cv5, sk_cv6, sk_ci1, sk_ci2, sk_ci3, sk_ret0, sk_retI, sk_retL, sk_retR, sk_sw, sk_oin, sk_max, sk_min, sk_abs, lI_0, lI_s, lL_0, lL_s, lR_0, lR_s, vIo_e, vLo_e, vOo_e, stW_I, stW_L, stW_R, stW_0, stW_z, okSt_0, okSt_s, hV_eq, hK_eq, okF_0, okF_1, okF_3, is01_0, is01_1, is01_i, Int.toNat_natCast, Int.reduceEq, Int.reduceLE, Int.reduceLT, Int.reduceNeg, Nat.reduceLT, not_true_eq_false, not_false_eq_true, reduceIte, Option.toList, List.cons_append, List.nil_append, List.set_cons_zero, List.set_cons_succ, List.not_mem_nil, List.mem_cons, if_false, if_true, ite_true, ite_false, and_self, and_true, true_and, Nat.reduceAdd, Nat.reduceLeDiff, Nat.reduceEqDiff, Nat.zero_add, Nat.le_refl, Nat.zero_le, or_false, false_or, Int.reduceToNat, or_true, true_or, eq_self, and_false, false_and, inR_d, nc_4, nc_5, nc_6, nc_7, nc_8, nc_16, nc_18, nc_20, nc_24, nc_32, nc_40, nc_64, nc_104, nc_120, nc_160, nc_256, nc_300, nc_330, nc_390, nc_1200, nc_1260, nc_3012, nc_9834, okSt_1i, okSt_1r, okSt_1n, List.length_cons, List.length_nil, xpk_succ cd_271_2, xpk_succ cd_271_3, xpk_succ cd_271_5, xpk_succ cd_271_8, xpk_succ cd_271_9, xpk_succ cd_271_12, xpk_succ cd_271_13, xpk_succ cd_271_14, xpk_succ cd_271_17, xpk_succ cd_271_18, xpk_succ cd_271_19, xpk_succ cd_271_20, xpk_succ cd_271_23, xpk_succ cd_271_26, m26, m0, k76, k77, k85, v, (WE_e w1), b1, b2, z, hAs_s]
    exact y
/-- begin: a's first numbers are set aside -/
theorem E_beg {d : Nat} {h : AH} {am : Nat → Int} {s : SCM} (hJ : k_H JB h) (Q : Option AV → AH → Prop) : XC (d + 1) 271 [vR 76] (Mc h am s) Q = Q none (Mc (hAs h am 18) am s) := by
  refine XC_eq (Nat.le_of_ble_eq_true rfl) ?_ Q
  show XP d 271 0 [some (vR 76), none] [] (Mc h am s) _
  have y := bg_l (d := d) (am := am) (s := s) hJ 18 0 rfl
  rw [hAs_0] at y
  have y : XP d 271 2 [some (vR 76), some (vI 0)] [] (Mc h am s) (fun r g => r = none ∧ g = Mc (hAs h am 18) am s) := y
  refine xpk_sound (stops := [2]) (n := 4) ?_
  simp only [sk_0, sk_1, sk_2, sk_3, sk_4, sk_5, sk_6, sk_7, sk_8, sk_iadd, sk_isub, sk_imul, sk_iand, sk_ior, sk_ixor, sk_ishl, sk_ishr, sk_iushr, sk_idiv, sk_irem, sk_ineg, sk_ladd, sk_lsub, sk_lmul, sk_land, sk_lor, sk_ldiv, sk_lrem, sk_lneg, sk_lshl, sk_lshr, sk_i2l, sk_l2i, sk_lcmp, sk_dupI, sk_dupR, sk_dup2L, sk_dup2I, sk_popI, sk_ifeq, sk_ifne, sk_iflt, sk_ifge, sk_ifgt, sk_ifle, sk_iceq, sk_icne, sk_iclt, sk_icge, sk_icgt, sk_icle, sk_goto, sk_getf, sk_putf, sk_gets, sk_iald, sk_lald, sk_bald, sk_aald, sk_iast, sk_last, sk_bast, sk_aast, sk_alen, sk_newa, sk_newt, sk_new, sk_cs1, sk_cs2, sk_cs3, sk_cs4, sk_cs5, sk_cs6, sk_cv1, sk_cv2, sk_cv3, sk_cv4, sk_cv5, sk_cv6, sk_ci1, sk_ci2, sk_ci3, sk_ret0, sk_retI, sk_retL, sk_retR, sk_sw, sk_oin, sk_max, sk_min, sk_abs, lI_0, lI_s, lL_0, lL_s, lR_0, lR_s, vIo_e, vLo_e, vOo_e, stW_I, stW_L, stW_R, stW_0, stW_z, okSt_0, okSt_s, hV_eq, hK_eq, okF_0, okF_1, okF_3, is01_0, is01_1, is01_i, Int.toNat_natCast, Int.reduceEq, Int.reduceLE, Int.reduceLT, Int.reduceNeg, Nat.reduceLT, not_true_eq_false, not_false_eq_true, reduceIte, Option.toList, List.cons_append, List.nil_append, List.set_cons_zero, List.set_cons_succ, List.not_mem_nil, List.mem_cons, if_false, if_true, ite_true, ite_false, and_self, and_true, true_and, Nat.reduceAdd, Nat.reduceLeDiff, Nat.reduceEqDiff, Nat.zero_add, Nat.le_refl, Nat.zero_le, or_false, false_or, Int.reduceToNat, or_true, true_or, eq_self, and_false, false_and, inR_d, nc_4, nc_5, nc_6, nc_7, nc_8, nc_16, nc_18, nc_20, nc_24, nc_32, nc_40, nc_64, nc_104, nc_120, nc_160, nc_256, nc_300, nc_330, nc_390, nc_1200, nc_1260, nc_3012, nc_9834, okSt_1i, okSt_1r, okSt_1n, List.length_cons, List.length_nil, xpk_succ cd_271_0, xpk_succ cd_271_1]
  exact y
/-- putBack -/
def amP (am b : Nat → Int) (k : Nat) : Nat → Int := fun i => if i < k then b i else am i
theorem amP_s {am b : Nat → Int} {k : Nat} : upF (amP am b k) k (b k) = amP am b (k + 1) := by
  funext i
  unfold upF amP
  by_cases z : i = k
  · rw [if_pos z, if_pos (by omega), z]
  · rw [if_neg z]
    by_cases z2 : i < k
    · rw [if_pos z2, if_pos (by omega)]
    · rw [if_neg z2, if_neg (by omega)]
set_option maxHeartbeats 1000000 in
theorem pb_l {d : Nat} {h : AH} {am b : Nat → Int} {s : SCM} (hJ : k_H JB h) (hb : ∀ i, i < 18 → hV h 85 i = vI (b i)) : ∀ (e k : Nat), k + e = 18 → XP d 272 2 [some (vR 76), some (vI (k : Int))] [] (Mc h (amP am b k) s) (fun r g => r = none ∧ g = Mc (hSet h 76 25 (vI 0)) (amP am b 18) s) := by
  intro e
  induction e with
  | zero =>
    intro k hk
    obtain rfl : k = 18 := by omega
    have y : (none : Option AV) = none ∧ Mc (hSet h 76 25 (vI 0)) (amP am b 18) s = Mc (hSet h 76 25 (vI 0)) (amP am b 18) s := ⟨rfl, rfl⟩
    refine xpk_sound (stops := []) (n := 12) ?_
    simp only [sk_0, sk_1, sk_2, sk_3, sk_4, sk_5, sk_6, sk_7, sk_8, sk_iadd, sk_isub, sk_imul, sk_iand, sk_ior, sk_ixor, sk_ishl, sk_ishr, sk_iushr, sk_idiv, sk_irem, sk_ineg, sk_ladd, sk_lsub, sk_lmul, sk_land, sk_lor, sk_ldiv, sk_lrem, sk_lneg, sk_lshl, sk_lshr, sk_i2l, sk_l2i, sk_lcmp, sk_dupI, sk_dupR, sk_dup2L, sk_dup2I, sk_popI, sk_ifeq, sk_ifne, sk_iflt, sk_ifge, sk_ifgt, sk_ifle, sk_iceq, sk_icne, sk_iclt, sk_icge, sk_icgt, sk_icle, sk_goto, sk_getf, sk_putf, sk_gets, sk_iald, sk_lald, sk_bald, sk_aald, sk_iast, sk_last, sk_bast, sk_aast, sk_alen, sk_newa, sk_newt, sk_new, sk_cs1, sk_cs2, sk_cs3, sk_cs4, sk_cs5, sk_cs6, sk_cv1, sk_cv2, sk_cv3, sk_cv4, sk_cv5, sk_cv6, sk_ci1, sk_ci2, sk_ci3, sk_ret0, sk_retI, sk_retL, sk_retR, sk_sw, sk_oin, sk_max, sk_min, sk_abs, lI_0, lI_s, lL_0, lL_s, lR_0, lR_s, vIo_e, vLo_e, vOo_e, stW_I, stW_L, stW_R, stW_0, stW_z, okSt_0, okSt_s, hV_eq, hK_eq, okF_0, okF_1, okF_3, is01_0, is01_1, is01_i, Int.toNat_natCast, Int.reduceEq, Int.reduceLE, Int.reduceLT, Int.reduceNeg, Nat.reduceLT, not_true_eq_false, not_false_eq_true, reduceIte, Option.toList, List.cons_append, List.nil_append, List.set_cons_zero, List.set_cons_succ, List.not_mem_nil, List.mem_cons, if_false, if_true, ite_true, ite_false, and_self, and_true, true_and, Nat.reduceAdd, Nat.reduceLeDiff, Nat.reduceEqDiff, Nat.zero_add, Nat.le_refl, Nat.zero_le, or_false, false_or, Int.reduceToNat, or_true, true_or, eq_self, and_false, false_and, inR_d, nc_4, nc_5, nc_6, nc_7, nc_8, nc_16, nc_18, nc_20, nc_24, nc_32, nc_40, nc_64, nc_104, nc_120, nc_160, nc_256, nc_300, nc_330, nc_390, nc_1200, nc_1260, nc_3012, nc_9834, okSt_1i, okSt_1r, okSt_1n, List.length_cons, List.length_nil, xpk_succ cd_272_2, xpk_succ cd_272_3, xpk_succ cd_272_5, xpk_succ cd_272_8, xpk_succ cd_272_9, xpk_succ cd_272_12, xpk_succ cd_272_13, xpk_succ cd_272_14, xpk_succ cd_272_17, xpk_succ cd_272_18, xpk_succ cd_272_19, xpk_succ cd_272_20, xpk_succ cd_272_23, xpk_succ cd_272_26, xpk_succ cd_272_27, xpk_succ cd_272_28, xpk_succ cd_272_31, Mc_k, (K_76 hJ), Mc_25, okF_z0]
  | succ e ih =>
    intro k hk
    obtain ⟨w1, b1, b2, z⟩ := bg_n (k := k) (by omega)
    have y := ih (k + 1) (by omega)
    have m26 : hV (Mc h (amP am b k) s) 76 26 = vR 85 := (Mc_n (by decide) (by decide) (Or.inr ⟨by decide, by decide⟩) (by decide) (by decide)).trans (F_76_26 hJ)
    have m0 : hV (Mc h (amP am b k) s) 76 0 = vR 77 := Mc_0 hJ
    have k76 : hK (Mc h (amP am b k) s) 76 = (10, 0) := K_76 (h := h) hJ
    have k77 : hK (Mc h (amP am b k) s) 77 = (11, 9834) := K_77 (h := h) hJ
    have k85 : hK (Mc h (amP am b k) s) 85 = (11, 18) := K_85 (h := h) hJ
    have v : hV (Mc h (amP am b k) s) 85 k = vI (b k) := Mc_85.trans (hb k (by omega))
    have st : hSet (Mc h (amP am b k) s) 77 k (vI (b k)) = Mc h (amP am b (k + 1)) s := by rw [Mc_s (by omega), amP_s]
    refine xpk_sound (stops := [2]) (n := 30) ?_
    simp only [sk_0, sk_1, sk_2, sk_3, sk_4, sk_5, sk_6, sk_7, sk_8, sk_iadd, sk_isub, sk_imul, sk_iand, sk_ior, sk_ixor, sk_ishl, sk_ishr, sk_iushr, sk_idiv, sk_irem, sk_ineg, sk_ladd, sk_lsub, sk_lmul, sk_land, sk_lor, sk_ldiv, sk_lrem, sk_lneg, sk_lshl, sk_lshr, sk_i2l, sk_l2i, sk_lcmp, sk_dupI, sk_dupR, sk_dup2L, sk_dup2I, sk_popI, sk_ifeq, sk_ifne, sk_iflt, sk_ifge, sk_ifgt, sk_ifle, sk_iceq, sk_icne, sk_iclt, sk_icge, sk_icgt, sk_icle, sk_goto, sk_getf, sk_putf, sk_gets, sk_iald, sk_lald, sk_bald, sk_aald, sk_iast, sk_last, sk_bast, sk_aast, sk_alen, sk_newa, sk_newt, sk_new, sk_cs1, sk_cs2, sk_cs3, sk_cs4, sk_cs5, sk_cs6, sk_cv1, sk_cv2, sk_cv3, sk_cv4, sk_cv5, sk_cv6, sk_ci1, sk_ci2, sk_ci3, sk_ret0, sk_retI, sk_retL, sk_retR, sk_sw, sk_oin, sk_max, sk_min, sk_abs, lI_0, lI_s, lL_0, lL_s, lR_0, lR_s, vIo_e, vLo_e, vOo_e, stW_I, stW_L, stW_R, stW_0, stW_z, okSt_0, okSt_s, hV_eq, hK_eq, okF_0, okF_1, okF_3, is01_0, is01_1, is01_i, Int.toNat_natCast, Int.reduceEq, Int.reduceLE, Int.reduceLT, Int.reduceNeg, Nat.reduceLT, not_true_eq_false, not_false_eq_true, reduceIte, Option.toList, List.cons_append, List.nil_append, List.set_cons_zero, List.set_cons_succ, List.not_mem_nil, List.mem_cons, if_false, if_true, ite_true, ite_false, and_self, and_true, true_and, Nat.reduceAdd, Nat.reduceLeDiff, Nat.reduceEqDiff, Nat.zero_add, Nat.le_refl, Nat.zero_le, or_false, false_or, Int.reduceToNat, or_true, true_or, eq_self, and_false, false_and, inR_d, nc_4, nc_5, nc_6, nc_7, nc_8, nc_16, nc_18, nc_20, nc_24, nc_32, nc_40, nc_64, nc_104, nc_120, nc_160, nc_256, nc_300, nc_330, nc_390, nc_1200, nc_1260, nc_3012, nc_9834, okSt_1i, okSt_1r, okSt_1n, List.length_cons, List.length_nil, xpk_succ cd_272_2, xpk_succ cd_272_3, xpk_succ cd_272_5, xpk_succ cd_272_8, xpk_succ cd_272_9, xpk_succ cd_272_12, xpk_succ cd_272_13, xpk_succ cd_272_14, xpk_succ cd_272_17, xpk_succ cd_272_18, xpk_succ cd_272_19, xpk_succ cd_272_20, xpk_succ cd_272_23, m26, m0, k76, k77, k85, v, st, (WE_e w1), b1, b2, z]
    exact y
theorem E_put {d : Nat} {h : AH} {am b : Nat → Int} {s : SCM} (hJ : k_H JB h) (hb : ∀ i, i < 18 → hV h 85 i = vI (b i)) (Q : Option AV → AH → Prop) : XC (d + 1) 272 [vR 76] (Mc h am s) Q = Q none (Mc (hSet h 76 25 (vI 0)) (amP am b 18) s) := by
  refine XC_eq (Nat.le_of_ble_eq_true rfl) ?_ Q
  show XP d 272 0 [some (vR 76), none] [] (Mc h am s) _
  have y := pb_l (d := d) (am := am) (s := s) hJ hb 18 0 rfl
  have e0 : amP am b 0 = am := funext fun i => if_neg (Nat.not_lt_zero _)
  rw [e0] at y
  have y : XP d 272 2 [some (vR 76), some (vI 0)] [] (Mc h am s) (fun r g => r = none ∧ g = Mc (hSet h 76 25 (vI 0)) (amP am b 18) s) := y
  refine xpk_sound (stops := [2]) (n := 4) ?_
  simp only [sk_0, sk_1, sk_2, sk_3, sk_4, sk_5, sk_6, sk_7, sk_8, sk_iadd, sk_isub, sk_imul, sk_iand, sk_ior, sk_ixor, sk_ishl, sk_ishr, sk_iushr, sk_idiv, sk_irem, sk_ineg, sk_ladd, sk_lsub, sk_lmul, sk_land, sk_lor, sk_ldiv, sk_lrem, sk_lneg, sk_lshl, sk_lshr, sk_i2l, sk_l2i, sk_lcmp, sk_dupI, sk_dupR, sk_dup2L, sk_dup2I, sk_popI, sk_ifeq, sk_ifne, sk_iflt, sk_ifge, sk_ifgt, sk_ifle, sk_iceq, sk_icne, sk_iclt, sk_icge, sk_icgt, sk_icle, sk_goto, sk_getf, sk_putf, sk_gets, sk_iald, sk_lald, sk_bald, sk_aald, sk_iast, sk_last, sk_bast, sk_aast, sk_alen, sk_newa, sk_newt, sk_new, sk_cs1, sk_cs2, sk_cs3, sk_cs4, sk_cs5, sk_cs6, sk_cv1, sk_cv2, sk_cv3, sk_cv4, sk_cv5, sk_cv6, sk_ci1, sk_ci2, sk_ci3, sk_ret0, sk_retI, sk_retL, sk_retR, sk_sw, sk_oin, sk_max, sk_min, sk_abs, lI_0, lI_s, lL_0, lL_s, lR_0, lR_s, vIo_e, vLo_e, vOo_e, stW_I, stW_L, stW_R, stW_0, stW_z, okSt_0, okSt_s, hV_eq, hK_eq, okF_0, okF_1, okF_3, is01_0, is01_1, is01_i, Int.toNat_natCast, Int.reduceEq, Int.reduceLE, Int.reduceLT, Int.reduceNeg, Nat.reduceLT, not_true_eq_false, not_false_eq_true, reduceIte, Option.toList, List.cons_append, List.nil_append, List.set_cons_zero, List.set_cons_succ, List.not_mem_nil, List.mem_cons, if_false, if_true, ite_true, ite_false, and_self, and_true, true_and, Nat.reduceAdd, Nat.reduceLeDiff, Nat.reduceEqDiff, Nat.zero_add, Nat.le_refl, Nat.zero_le, or_false, false_or, Int.reduceToNat, or_true, true_or, eq_self, and_false, false_and, inR_d, nc_4, nc_5, nc_6, nc_7, nc_8, nc_16, nc_18, nc_20, nc_24, nc_32, nc_40, nc_64, nc_104, nc_120, nc_160, nc_256, nc_300, nc_330, nc_390, nc_1200, nc_1260, nc_3012, nc_9834, okSt_1i, okSt_1r, okSt_1n, List.length_cons, List.length_nil, xpk_succ cd_272_0, xpk_succ cd_272_1]
  exact y
