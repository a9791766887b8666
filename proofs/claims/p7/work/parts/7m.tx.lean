theorem hS_at {h : AH} {k j : Nat} {v : AV} : hV (hSet h k j v) k j = v := (show ∀ k' j', k' = k ∧ j' = j → hV (hSet h k j v) k' j' = v from fun _ _ q => if_pos q) k j ⟨rfl, rfl⟩
theorem hS_ne {h : AH} {k j k' j' : Nat} {v : AV} (q : ¬ (k' = k ∧ j' = j)) : hV (hSet h k j v) k' j' = hV h k' j' := if_neg q
/-! text of both -/
/-- what the tape reads as -/
def TXo (n : Nat) (b : Nat → Int) (cnt : Nat) (kn vn : Nat → Int) (ep sp : Nat → Nat) (m : Nat) (out : (Int × Nat) ⊕ (List cCl)) : Prop := LXs b n cnt ep sp kn vn n ∧ cnt ≤ 300 ∧ RDo (tkf cnt kn vn) m [] 0 out
theorem RDq_f {h h2 : AH} {T D cnt : Nat} {n : Int} {kn vn pn : Nat → Int} {cs : List cCl} {j : Nat} {r : Option AV} {g : AH} (ht : TD T D) (hq : RDq h2 T D cnt n kn vn pn cs j r g) (hf : ∀ k i, (k < 22 ∨ 75 ≤ k) → hV h2 k i = hV h k i) : ∀ k i, (k < 22 ∨ 75 ≤ k) → hV g k i = hV h k i := by
  have y2 := ht
  unfold TD at y2
  intro k i hk
  obtain ⟨m, out, hr, ho⟩ := hq
  cases out with
  | inl x =>
    obtain ⟨f, jf⟩ := x
    obtain ⟨-, -, bg, en, kd, ag, nC, a, c, l, L, dd, rfl⟩ := ho
    rw [hR_n (by omega) (by omega) (by omega), hX_n (by omega) (by omega)]
    exact hf k i hk
  | inr cs' =>
    obtain ⟨-, bg, en, kd, ag, l, L, j', dd, rfl, -⟩ := ho
    rw [hR_n (by omega) (by omega) (by omega), hX_n (by omega) (by omega)]
    exact hf k i hk
theorem RDq_k {h2 : AH} {T D cnt : Nat} {n : Int} {kn vn pn : Nat → Int} {cs : List cCl} {j : Nat} {r : Option AV} {g : AH} (hq : RDq h2 T D cnt n kn vn pn cs j r g) : hK g = hK h2 := by
  obtain ⟨m, out, hr, ho⟩ := hq
  cases out with
  | inl x =>
    obtain ⟨f, jf⟩ := x
    obtain ⟨-, -, bg, en, kd, ag, nC, a, c, l, L, dd, rfl⟩ := ho
    rfl
  | inr cs' =>
    obtain ⟨-, bg, en, kd, ag, l, L, j', dd, rfl, -⟩ := ho
    rfl
/-- behind text, in the class -/
def TXc (h : AH) (n J cnt : Nat) (sp : Nat → Nat) (out : (Int × Nat) ⊕ (List cCl)) (r : Option AV) (h' : AH) : Prop := ((∀ k i, (76 ≤ k ∨ k = 75 ∨ (1 ≤ k ∧ k < 22 ∧ (k ≠ 1 ∨ i ≠ 2))) → hV h' k i = hV h k i) ∧ hV h' 0 11 = vI 0 ∧ hV h' 0 12 = vI 1) ∧ match out with
  | .inl (f, jf) => f ≠ 0 ∧ r = some (vI (-1)) ∧ hV h' 1 2 = hV h 1 2 ∧ hV h' 70 6 = vI f ∧ hV h' 70 7 = vI (plf cnt n (fun j => ((sp j : Nat) : Int)) jf)
  | .inr _ => r = some (vI (J : Int)) ∧ hV h' 1 2 = vI ((J + 1 : Nat) : Int) ∧ hV h' 70 6 = vI 0 ∧ hV h' 70 7 = vI (-1)
theorem TD_J {J : Nat} (hJ4 : J < 4) : TD (22 + 6 * J) (23 + 6 * J) := by unfold TD; omega
theorem F_21 {h : AH} (hJ : k_H JB h) {J : Nat} (hJ4 : J < 4) : hV h 21 J = vR (22 + 6 * J) := by
  have : J = 0 ∨ J = 1 ∨ J = 2 ∨ J = 3 := by omega
  rcases this with rfl | rfl | rfl | rfl
  · exact F_21_0 hJ
  · exact F_21_1 hJ
  · exact F_21_2 hJ
  · exact F_21_3 hJ
theorem okF_o1 : okF 2 (.inl 1) = true := rfl
set_option maxHeartbeats 8000000 in
theorem X_txC {d : Nat} {h : AH} (hJ : k_H JB h) {n J : Nat} (v11 : hV h 0 11 = vI (n : Int)) (v2 : hV h 1 2 = vI (J : Int)) (hJ4 : J < 4) {b : Nat → Int} (hb75 : ∀ i, i < 300 → hV h 75 i = vI (b i)) (hby : ∀ i, i < 300 → 0 ≤ b i ∧ b i ≤ 255) : ∃ (cnt : Nat) (kn vn : Nat → Int) (ep sp : Nat → Nat) (m : Nat) (out : (Int × Nat) ⊕ (List cCl)) (r : Option AV) (h' : AH), TXo n b cnt kn vn ep sp m out ∧ TXc h n J cnt sp out r h' ∧ ∀ Q : Option AV → AH → Prop, XC (d + 79) 123 [vR 0] h Q = Q r h' := by
  have n300 : n ≤ 300 := by
    have q := I_0_11 hJ
    rw [v11] at q
    have q1 := Sum.inl.inj q.1
    omega
  have f21 := F_21 hJ hJ4
  have bJ : (0 : Int) ≤ (J : Int) ∧ (J : Int) < 4 := by omega
  have z4 : ¬ ((4 : Int) ≤ (J : Int)) := by omega
  have z4b : (J : Int) < 4 := by omega
  have ht := TD_J hJ4
  have q0 := E_read (d := d) hJ ht n300 hb75 hby
  obtain ⟨r0, g, ⟨cnt, kn, vn, ep, sp, hlx, hcn, hrd⟩, e⟩ := XC_dt (d := d + 77) q0
  have kg : hK g = hK h := (RDq_k hrd).trans rfl
  have fr := RDq_f (h := h) ht hrd (fun k i hk => by
    rw [hT_n (by omega) (by omega)]
    exact if_neg (fun y => by omega))
  have w1 : WE ((J : Int) + 1) ((J + 1 : Nat) : Int) := by unfold WE w32; omega
  have w2 : WE (((J + 1 : Nat) : Int) - 1) (J : Int) := by unfold WE w32; omega
  have g0 : hV g 0 0 = vR 1 := (fr 0 0 (by omega)).trans (F_0_0 hJ)
  have g12 : hV g 1 2 = vI (J : Int) := (fr 1 2 (by omega)).trans v2
  have k0 : hK g 0 = (9, 0) := by rw [kg]; exact K_0 hJ
  have k1 : hK g 1 = (8, 0) := by rw [kg]; exact K_1 hJ
  obtain ⟨m, out, hr, ho⟩ := id hrd
  cases out with
  | inl x =>
    obtain ⟨f, jf⟩ := x
    obtain ⟨hf, rfl, bg, en, kd, ag, nC, a, c, l, L, dd, hg⟩ := ho
    have g6 : hV g 70 6 = vI f := by rw [hg]; exact hR_6
    have g7 : hV g 70 7 = vI (plf cnt n (fun j => ((sp j : Nat) : Int)) jf) := by rw [hg]; exact hR_7
    refine ⟨cnt, kn, vn, ep, sp, m, .inl (f, jf), some (vI (-1)), hSet (hSet g 0 12 (vI 1)) 0 11 (vI 0), ⟨hlx, hcn, hr⟩, ⟨⟨fun k i hk => ?_, ?_, ?_⟩, hf, rfl, ?_, ?_, ?_⟩, fun Q => XC_eq (Nat.le_of_ble_eq_true rfl) ?_ Q⟩
    · rw [hV_eq, if_neg (by omega), hV_eq, if_neg (by omega)]; exact fr k i (by omega)
    · exact hS_at
    · rw [hV_eq, if_neg (by decide)]; exact hS_at
    · rw [hV_eq, if_neg (by decide), hV_eq, if_neg (by decide), g12, v2]
    · rw [hV_eq, if_neg (by decide), hV_eq, if_neg (by decide)]; exact g6
    · rw [hV_eq, if_neg (by decide), hV_eq, if_neg (by decide)]; exact g7
    · show XP (d + 78) 123 0 [some (vR 0), none] [] h _
      refine xpk_sound (stops := []) (n := 80) ?_
      simp only [sk_0, sk_1, sk_2, sk_3, sk_4, sk_5, sk_6, sk_7, sk_8, sk_iadd, sk_isub, sk_imul, sk_iand, sk_ior, sk_ixor, sk_ishl, sk_ishr, sk_iushr, sk_idiv, sk_irem, sk_ineg, sk_ladd, sk_lsub, sk_lmul, sk_land, sk_lor, sk_ldiv, sk_lrem, sk_lneg, sk_lshl, sk_lshr, sk_i2l, sk_l2i, sk_lcmp, sk_dupI, sk_dupR, sk_dup2L, sk_dup2I, sk_popI, sk_ifeq, sk_ifne, sk_iflt, sk_ifge, sk_ifgt, sk_ifle, sk_iceq, sk_icne, sk_iclt, sk_icge, sk_icgt, sk_icle, sk_goto, sk_getf, sk_putf, sk_gets, sk_iald, sk_lald, sk_bald, sk_aald, sk_iast, sk_last, sk_bast, sk_aast, sk_alen, sk_newa, sk_newt, sk_new, sk_cs1, sk_cs2, sk_cs3, sk_cs4, sk_cs5, sk_cs6, sk_cv1, sk_cv2, sk_cv3, sk_cv4, sk_cv5, sk_cv6, sk_ci1, sk_ci2, sk_ci3, sk_ret0, sk_retI, sk_retL, sk_retR, sk_sw, sk_oin, sk_max, sk_min, sk_abs, lI_0, lI_s, lL_0, lL_s, lR_0, lR_s, vIo_e, vLo_e, vOo_e, stW_I, stW_L, stW_R, stW_0, stW_z, okSt_0, okSt_s, hV_eq, hK_eq, okF_0, okF_1, okF_3, is01_0, is01_1, is01_i, Int.toNat_natCast, Int.reduceEq, Int.reduceLE, Int.reduceLT, Int.reduceNeg, Nat.reduceLT, not_true_eq_false, not_false_eq_true, reduceIte, Option.toList, List.cons_append, List.nil_append, List.set_cons_zero, List.set_cons_succ, List.not_mem_nil, List.mem_cons, if_false, if_true, ite_true, ite_false, and_self, and_true, true_and, Nat.reduceAdd, Nat.reduceLeDiff, Nat.reduceEqDiff, Nat.zero_add, Nat.le_refl, Nat.zero_le, or_false, false_or, Int.reduceToNat, or_true, true_or, eq_self, and_false, false_and, inR_d, nc_4, nc_5, nc_6, nc_7, nc_8, nc_16, nc_18, nc_20, nc_24, nc_32, nc_40, nc_64, nc_104, nc_120, nc_160, nc_256, nc_300, nc_330, nc_390, nc_1200, nc_1260, nc_3012, nc_9834, okSt_1i, okSt_1r, okSt_1n, List.length_cons, List.length_nil, xpk_succ cd_123_0, xpk_succ cd_123_1, xpk_succ cd_123_4, xpk_succ cd_123_7, xpk_succ cd_123_8, xpk_succ cd_123_11, xpk_succ cd_123_12, xpk_succ cd_123_13, xpk_succ cd_123_14, xpk_succ cd_123_17, xpk_succ cd_123_18, xpk_succ cd_123_21, xpk_succ cd_123_22, xpk_succ cd_123_25, xpk_succ cd_123_26, xpk_succ cd_123_29, xpk_succ cd_123_30, xpk_succ cd_123_33, xpk_succ cd_123_36, xpk_succ cd_123_37, xpk_succ cd_123_40, xpk_succ cd_123_41, xpk_succ cd_123_42, xpk_succ cd_123_43, xpk_succ cd_123_46, xpk_succ cd_123_47, xpk_succ cd_123_48, xpk_succ cd_123_51, xpk_succ cd_123_52, xpk_succ cd_123_55, xpk_succ cd_123_56, xpk_succ cd_123_57, xpk_succ cd_123_58, xpk_succ cd_123_61, xpk_succ cd_123_62, xpk_succ cd_123_65, xpk_succ cd_123_66, xpk_succ cd_123_67, xpk_succ cd_123_70, xpk_succ cd_123_71, xpk_succ cd_123_74, xpk_succ cd_123_77, xpk_succ cd_123_78, xpk_succ cd_123_79, K_0 hJ, K_1 hJ, K_21 hJ, K_70 hJ, K_75 hJ, F_0_0 hJ, F_0_2 hJ, F_0_9 hJ, F_0_10 hJ, v11, v2, f21, bJ, z4, z4b, e, g0, g12, k0, k1, (WE_e w1), (WE_e w2), okF_o1]
  | inr cs =>
    obtain ⟨rfl, bg, en, kd, ag, l, L, j', dd, hg, -⟩ := ho
    have g6 : hV g 70 6 = vI 0 := by rw [hg]; exact hR_6
    have g7 : hV g 70 7 = vI (-1) := by rw [hg]; exact hR_7
    refine ⟨cnt, kn, vn, ep, sp, m, .inr cs, some (vI (J : Int)), hSet (hSet (hSet g 0 12 (vI 1)) 0 11 (vI 0)) 1 2 (vI ((J + 1 : Nat) : Int)), ⟨hlx, hcn, hr⟩, ⟨⟨fun k i hk => ?_, ?_, ?_⟩, rfl, ?_, ?_, ?_⟩, fun Q => XC_eq (Nat.le_of_ble_eq_true rfl) ?_ Q⟩
    · rw [hV_eq, if_neg (by omega), hV_eq, if_neg (by omega), hV_eq, if_neg (by omega)]; exact fr k i (by omega)
    · rw [hV_eq, if_neg (by decide)]; exact hS_at
    · rw [hV_eq, if_neg (by decide), hV_eq, if_neg (by decide)]; exact hS_at
    · exact hS_at
    · rw [hV_eq, if_neg (by decide), hV_eq, if_neg (by decide), hV_eq, if_neg (by decide)]; exact g6
    · rw [hV_eq, if_neg (by decide), hV_eq, if_neg (by decide), hV_eq, if_neg (by decide)]; exact g7
    · show XP (d + 78) 123 0 [some (vR 0), none] [] h _
      refine xpk_sound (stops := []) (n := 80) ?_
      simp only [sk_0, sk_1, sk_2, sk_3, sk_4, sk_5, sk_6, sk_7, sk_8, sk_iadd, sk_isub, sk_imul, sk_iand, sk_ior, sk_ixor, sk_ishl, sk_ishr, sk_iushr, sk_idiv, sk_irem, sk_ineg, sk_ladd, sk_lsub, sk_lmul, sk_land, sk_lor, sk_ldiv, sk_lrem, sk_lneg, sk_lshl, sk_lshr, sk_i2l, sk_l2i, sk_lcmp, sk_dupI, sk_dupR, sk_dup2L, sk_dup2I, sk_popI, sk_ifeq, sk_ifne, sk_iflt, sk_ifge, sk_ifgt, sk_ifle, sk_iceq, sk_icne, sk_iclt, sk_icge, sk_icgt, sk_icle, sk_goto, sk_getf, sk_putf, sk_gets, sk_iald, sk_lald, sk_bald, sk_aald, sk_iast, sk_last, sk_bast, sk_aast, sk_alen, sk_newa, sk_newt, sk_new, sk_cs1, sk_cs2, sk_cs3, sk_cs4, sk_cs5, sk_cs6, sk_cv1, sk_cv2, sk_cv3, sk_cv4, sk_cv5, sk_cv6, sk_ci1, sk_ci2, sk_ci3, sk_ret0, sk_retI, sk_retL, sk_retR, sk_sw, sk_oin, sk_max, sk_min, sk_abs, lI_0, lI_s, lL_0, lL_s, lR_0, lR_s, vIo_e, vLo_e, vOo_e, stW_I, stW_L, stW_R, stW_0, stW_z, okSt_0, okSt_s, hV_eq, hK_eq, okF_0, okF_1, okF_3, is01_0, is01_1, is01_i, Int.toNat_natCast, Int.reduceEq, Int.reduceLE, Int.reduceLT, Int.reduceNeg, Nat.reduceLT, not_true_eq_false, not_false_eq_true, reduceIte, Option.toList, List.cons_append, List.nil_append, List.set_cons_zero, List.set_cons_succ, List.not_mem_nil, List.mem_cons, if_false, if_true, ite_true, ite_false, and_self, and_true, true_and, Nat.reduceAdd, Nat.reduceLeDiff, Nat.reduceEqDiff, Nat.zero_add, Nat.le_refl, Nat.zero_le, or_false, false_or, Int.reduceToNat, or_true, true_or, eq_self, and_false, false_and, inR_d, nc_4, nc_5, nc_6, nc_7, nc_8, nc_16, nc_18, nc_20, nc_24, nc_32, nc_40, nc_64, nc_104, nc_120, nc_160, nc_256, nc_300, nc_330, nc_390, nc_1200, nc_1260, nc_3012, nc_9834, okSt_1i, okSt_1r, okSt_1n, List.length_cons, List.length_nil, xpk_succ cd_123_0, xpk_succ cd_123_1, xpk_succ cd_123_4, xpk_succ cd_123_7, xpk_succ cd_123_8, xpk_succ cd_123_11, xpk_succ cd_123_12, xpk_succ cd_123_13, xpk_succ cd_123_14, xpk_succ cd_123_17, xpk_succ cd_123_18, xpk_succ cd_123_21, xpk_succ cd_123_22, xpk_succ cd_123_25, xpk_succ cd_123_26, xpk_succ cd_123_29, xpk_succ cd_123_30, xpk_succ cd_123_33, xpk_succ cd_123_36, xpk_succ cd_123_37, xpk_succ cd_123_40, xpk_succ cd_123_41, xpk_succ cd_123_42, xpk_succ cd_123_43, xpk_succ cd_123_46, xpk_succ cd_123_47, xpk_succ cd_123_48, xpk_succ cd_123_51, xpk_succ cd_123_52, xpk_succ cd_123_55, xpk_succ cd_123_56, xpk_succ cd_123_57, xpk_succ cd_123_58, xpk_succ cd_123_61, xpk_succ cd_123_62, xpk_succ cd_123_65, xpk_succ cd_123_66, xpk_succ cd_123_67, xpk_succ cd_123_70, xpk_succ cd_123_71, xpk_succ cd_123_74, xpk_succ cd_123_77, xpk_succ cd_123_78, xpk_succ cd_123_79, K_0 hJ, K_1 hJ, K_21 hJ, K_70 hJ, K_75 hJ, F_0_0 hJ, F_0_2 hJ, F_0_9 hJ, F_0_10 hJ, v11, v2, f21, bJ, z4, z4b, e, g0, g12, k0, k1, (WE_e w1), (WE_e w2), okF_o1]
theorem X_txC4 {d : Nat} {h : AH} (hJ : k_H JB h) (v2 : hV h 1 2 = vI 4) (Q : Option AV → AH → Prop) : XC (d + 1) 123 [vR 0] h Q = Q (some (vI (-1))) h := by
  refine XC_eq (Nat.le_of_ble_eq_true rfl) ?_ Q
  show XP d 123 0 [some (vR 0), none] [] h _
  refine xpk_sound (stops := []) (n := 20) ?_
  simp only [sk_0, sk_1, sk_2, sk_3, sk_4, sk_5, sk_6, sk_7, sk_8, sk_iadd, sk_isub, sk_imul, sk_iand, sk_ior, sk_ixor, sk_ishl, sk_ishr, sk_iushr, sk_idiv, sk_irem, sk_ineg, sk_ladd, sk_lsub, sk_lmul, sk_land, sk_lor, sk_ldiv, sk_lrem, sk_lneg, sk_lshl, sk_lshr, sk_i2l, sk_l2i, sk_lcmp, sk_dupI, sk_dupR, sk_dup2L, sk_dup2I, sk_popI, sk_ifeq, sk_ifne, sk_iflt, sk_ifge, sk_ifgt, sk_ifle, sk_iceq, sk_icne, sk_iclt, sk_icge, sk_icgt, sk_icle, sk_goto, sk_getf, sk_putf, sk_gets, sk_iald, sk_lald, sk_bald, sk_aald, sk_iast, sk_last, sk_bast, sk_aast, sk_alen, sk_newa, sk_newt, sk_new, sk_cs1, sk_cs2, sk_cs3, sk_cs4, sk_cs5, sk_cs6, sk_cv1, sk_cv2, sk_cv3, sk_cv4, sk_cv5, sk_cv6, sk_ci1, sk_ci2, sk_ci3, sk_ret0, sk_retI, sk_retL, sk_retR, sk_sw, sk_oin, sk_max, sk_min, sk_abs, lI_0, lI_s, lL_0, lL_s, lR_0, lR_s, vIo_e, vLo_e, vOo_e, stW_I, stW_L, stW_R, stW_0, stW_z, okSt_0, okSt_s, hV_eq, hK_eq, okF_0, okF_1, okF_3, is01_0, is01_1, is01_i, Int.toNat_natCast, Int.reduceEq, Int.reduceLE, Int.reduceLT, Int.reduceNeg, Nat.reduceLT, not_true_eq_false, not_false_eq_true, reduceIte, Option.toList, List.cons_append, List.nil_append, List.set_cons_zero, List.set_cons_succ, List.not_mem_nil, List.mem_cons, if_false, if_true, ite_true, ite_false, and_self, and_true, true_and, Nat.reduceAdd, Nat.reduceLeDiff, Nat.reduceEqDiff, Nat.zero_add, Nat.le_refl, Nat.zero_le, or_false, false_or, Int.reduceToNat, or_true, true_or, eq_self, and_false, false_and, inR_d, nc_4, nc_5, nc_6, nc_7, nc_8, nc_16, nc_18, nc_20, nc_24, nc_32, nc_40, nc_64, nc_104, nc_120, nc_160, nc_256, nc_300, nc_330, nc_390, nc_1200, nc_1260, nc_3012, nc_9834, okSt_1i, okSt_1r, okSt_1n, List.length_cons, List.length_nil, xpk_succ cd_123_0, xpk_succ cd_123_1, xpk_succ cd_123_4, xpk_succ cd_123_7, xpk_succ cd_123_8, xpk_succ cd_123_11, xpk_succ cd_123_12, xpk_succ cd_123_13, xpk_succ cd_123_14, xpk_succ cd_123_17, xpk_succ cd_123_18, xpk_succ cd_123_21, xpk_succ cd_123_22, xpk_succ cd_123_25, xpk_succ cd_123_26, xpk_succ cd_123_29, xpk_succ cd_123_30, xpk_succ cd_123_33, xpk_succ cd_123_36, xpk_succ cd_123_37, xpk_succ cd_123_40, xpk_succ cd_123_41, xpk_succ cd_123_42, xpk_succ cd_123_43, xpk_succ cd_123_46, xpk_succ cd_123_47, xpk_succ cd_123_48, xpk_succ cd_123_51, xpk_succ cd_123_52, xpk_succ cd_123_55, xpk_succ cd_123_56, xpk_succ cd_123_57, xpk_succ cd_123_58, xpk_succ cd_123_61, xpk_succ cd_123_62, xpk_succ cd_123_65, xpk_succ cd_123_66, xpk_succ cd_123_67, xpk_succ cd_123_70, xpk_succ cd_123_71, xpk_succ cd_123_74, xpk_succ cd_123_77, xpk_succ cd_123_78, xpk_succ cd_123_79, K_0 hJ, K_1 hJ, F_0_0 hJ, v2]
/-- behind text, in the reference -/
def TXm (h : AH) (n J cnt : Nat) (sp : Nat → Nat) (out : (Int × Nat) ⊕ (List cCl)) (r : Option AV) (h' : AH) : Prop := ((∀ k i, (k < 76 ∨ k = 80 ∨ k = 78) → hV h' k i = hV h k i) ∧ hV h' 76 4 = vI 0) ∧ match out with
  | .inl (f, jf) => r = some (vI (-1)) ∧ hV h' 77 3 = hV h 77 3 ∧ hV h' 76 5 = vI f ∧ hV h' 76 6 = vI (plf cnt n (fun j => ((sp j : Nat) : Int)) jf)
  | .inr _ => r = some (vI (J : Int)) ∧ hV h' 77 3 = vI ((J + 1 : Nat) : Int) ∧ hV h' 76 5 = vI 0 ∧ hV h' 76 6 = vI (-1)
theorem hM_self {h : AH} {a wr pi op : Nat} {pl tk nu wd so wh on : Int} {pf g : Nat → Int} (h7 : hV h 76 7 = vI (a : Int)) (h8 : hV h 76 8 = vI pl) (h9 : hV h 76 9 = vI tk) (h10 : hV h 76 10 = vI nu) (h11 : hV h 76 11 = vL wd) (h13 : hV h 76 13 = vI (wr : Int)) (h14 : hV h 76 14 = vI so) (h16 : hV h 76 16 = vI (pi : Int)) (h17 : hV h 76 17 = vI (op : Int)) (h18 : hV h 76 18 = vI wh) (h19 : hV h 76 19 = vI on) (hp : ∀ i, i < 160 → hV h 81 i = vI (pf i)) (hg : ∀ i, i < 3012 → hV h 79 i = vI (g i)) : hM h a pl tk nu wd wr so pi op wh on pf g = h := by
  refine Prod.ext rfl (Prod.ext rfl (Prod.ext rfl ?_))
  funext k j
  show (if k = 76 ∧ j = 7 then vI (a : Int) else if k = 76 ∧ j = 8 then vI pl else if k = 76 ∧ j = 9 then vI tk else if k = 76 ∧ j = 10 then vI nu else if k = 76 ∧ j = 11 then vL wd else if k = 76 ∧ j = 13 then vI (wr : Int) else if k = 76 ∧ j = 14 then vI so else if k = 76 ∧ j = 16 then vI (pi : Int) else if k = 76 ∧ j = 17 then vI (op : Int) else if k = 76 ∧ j = 18 then vI wh else if k = 76 ∧ j = 19 then vI on else if k = 81 ∧ j < 160 then vI (pf j) else if k = 79 ∧ j < 3012 then vI (g j) else h.2.2.2 k j) = hV h k j
  by_cases z7 : k = 76 ∧ j = 7
  · rw [if_pos z7, z7.1, z7.2]; exact h7.symm
  rw [if_neg z7]
  by_cases z8 : k = 76 ∧ j = 8
  · rw [if_pos z8, z8.1, z8.2]; exact h8.symm
  rw [if_neg z8]
  by_cases z9 : k = 76 ∧ j = 9
  · rw [if_pos z9, z9.1, z9.2]; exact h9.symm
  rw [if_neg z9]
  by_cases z10 : k = 76 ∧ j = 10
  · rw [if_pos z10, z10.1, z10.2]; exact h10.symm
  rw [if_neg z10]
  by_cases z11 : k = 76 ∧ j = 11
  · rw [if_pos z11, z11.1, z11.2]; exact h11.symm
  rw [if_neg z11]
  by_cases z13 : k = 76 ∧ j = 13
  · rw [if_pos z13, z13.1, z13.2]; exact h13.symm
  rw [if_neg z13]
  by_cases z14 : k = 76 ∧ j = 14
  · rw [if_pos z14, z14.1, z14.2]; exact h14.symm
  rw [if_neg z14]
  by_cases z16 : k = 76 ∧ j = 16
  · rw [if_pos z16, z16.1, z16.2]; exact h16.symm
  rw [if_neg z16]
  by_cases z17 : k = 76 ∧ j = 17
  · rw [if_pos z17, z17.1, z17.2]; exact h17.symm
  rw [if_neg z17]
  by_cases z18 : k = 76 ∧ j = 18
  · rw [if_pos z18, z18.1, z18.2]; exact h18.symm
  rw [if_neg z18]
  by_cases z19 : k = 76 ∧ j = 19
  · rw [if_pos z19, z19.1, z19.2]; exact h19.symm
  rw [if_neg z19]
  by_cases y1 : k = 81 ∧ j < 160
  · rw [if_pos y1, y1.1]; exact (hp j y1.2).symm
  rw [if_neg y1]
  by_cases y2 : k = 79 ∧ j < 3012
  · rw [if_pos y2, y2.1]; exact (hg j y2.2).symm
  rw [if_neg y2]
  rfl
set_option maxHeartbeats 8000000 in
theorem X_txM {d : Nat} {h : AH} (hJ : k_H JB h) {n J : Nat} (v4 : hV h 76 4 = vI (n : Int)) (v3 : hV h 77 3 = vI (J : Int)) (hJ4 : J < 4) (n300 : n ≤ 300) {b : Nat → Int} (hb80 : ∀ i, i < 300 → hV h 80 i = vI (b i)) (hby : ∀ i, i < 300 → 0 ≤ b i ∧ b i ≤ 255) {cnt : Nat} {kn vn : Nat → Int} {ep sp : Nat → Nat} {m : Nat} {out : (Int × Nat) ⊕ (List cCl)} (ho : TXo n b cnt kn vn ep sp m out) : ∃ (r : Option AV) (h' : AH), TXm h n J cnt sp out r h' ∧ ∀ Q : Option AV → AH → Prop, XC (d + 15) 232 [vR 76] h Q = Q r h' := by
  obtain ⟨hlx, hcn, hr⟩ := ho
  have nn : ∀ {k i : Nat} {u : Int}, hV h k i = vI (fI h k i) ∧ (0 ≤ fI h k i ∧ fI h k i ≤ u) → hV h k i = vI (((fI h k i).toNat : Nat) : Int) := fun {k i u} q => by rw [Int.toNat_of_nonneg q.2.1]; exact q.1
  have n1 : ∀ k i, k ≠ 76 ∨ i ≠ 12 → hV (hSet h 76 12 (vI ((753 * J : Nat) : Int))) k i = hV h k i := fun k i hk => if_neg (fun y => by omega)
  have hb : MB (hSet h 76 12 (vI ((753 * J : Nat) : Int))) J n b := ⟨⟨hJ4, n300⟩, ⟨K_76 (h := h) hJ, K_79 (h := h) hJ, K_80 (h := h) hJ, K_81 (h := h) hJ⟩, ⟨(n1 _ _ (by omega)).trans (F_76_2 hJ), (n1 _ _ (by omega)).trans (F_76_3 hJ), (n1 _ _ (by omega)).trans (F_76_15 hJ), (n1 _ _ (by omega)).trans v4, hS_at⟩, fun i hi => (n1 _ _ (by omega)).trans (hb80 i hi)⟩
  have hg79 : ∀ i, i < 3012 → hV h 79 i = vI (fI h 79 i) := fun i hi => (A_79_1 (i := i) hJ (Nat.zero_le _) hi).1
  have sM := hM_self (nn (I_76_7 hJ)) (I_76_8 hJ).1 (I_76_9 hJ).1 (I_76_10 hJ).1 (I_76_11 hJ).1 (nn (I_76_13 hJ)) (I_76_14 hJ).1 (nn (I_76_16 hJ)) (nn (I_76_17 hJ)) (I_76_18 hJ).1 (I_76_19 hJ).1 (pf := fI h 81) (g := fI h 79) (fun i hi => (A_81_0 (i := i) hJ (Nat.zero_le _) hi).1) hg79
  have hq : ∀ i, cnt ≤ i → (tkf cnt kn vn i).1 = 62 := fun i hi => congrArg Prod.fst (if_neg (by omega))
  have hv : TKV cnt kn vn := LXs_v hlx hcn hby
  have hn := NT_p hb hby hlx
  obtain ⟨r0, gh, hmt, e⟩ := E_rt (d := d) hb hn hq (fun i => (TKV_k hv i).1.1) hcn (g0 := fI h 79) (h0 := h) (a := (fI h 76 7).toNat) (wr := (fI h 76 13).toNat) (pi := (fI h 76 16).toNat) (op := (fI h 76 17).toNat) (pl := fI h 76 8) (tk := fI h 76 9) (nu := fI h 76 10) (wd := fI h 76 11) (so := fI h 76 14) (wh := fI h 76 18) (on := fI h 76 19) (pf := fI h 81) rfl (F_76_0 hJ) (K_76 hJ) (K_77 hJ) v3 (fun d pl tk nu wd wr so pi op wh on pf g => by
    have q := NT_j (d := d) hb hby hlx (Nat.zero_le cnt) (pl := pl) (tk := tk) (nu := nu) (wd := wd) (wr := wr) (so := so) (pi := pi) (op := op) (wh := wh) (on := on) (pf := pf) (g := g)
    have e0 : epN n cnt ep 0 = 0 := (if_pos (Nat.zero_le _)).trans hlx.1.1
    rw [e0] at q
    exact q) hr
  rw [sM] at e
  have z4 : ¬ ((J : Int) = 4) := by omega
  have bx : True := trivial
  have w1 : WE ((J : Int) + 1) ((J + 1 : Nat) : Int) := by unfold WE w32; omega
  have w2 : WE (((J + 1 : Nat) : Int) - 1) (J : Int) := by unfold WE w32; omega
  have nM : ∀ {a wr pi op : Nat} {pl tk nu wd so wh on : Int} {pf g : Nat → Int} (k i : Nat), (k ≠ 76 ∨ i < 7) → k ≠ 81 → k ≠ 79 → hV (hM (hSet h 76 12 (vI ((753 * J : Nat) : Int))) a pl tk nu wd wr so pi op wh on pf g) k i = hV h k i := fun {a wr pi op pl tk nu wd so wh on pf g} k i h1 h2 h3 => (hM_n (by omega) h2 h3).trans (n1 k i (by omega))
  cases out with
  | inl x =>
    obtain ⟨f, jf⟩ := x
    obtain ⟨hf, rfl, a, tk, nu, wd, wr, so, pi, op, wh, on, pf, g, rfl⟩ := hmt
    refine ⟨some (vI (-1)), hSet (hSet (hSet (hM (hSet h 76 12 (vI ((753 * J : Nat) : Int))) a (plf cnt n (fun j => ((sp j : Nat) : Int)) jf) tk nu wd wr so pi op wh on pf g) 76 5 (vI f)) 76 6 (vI (plf cnt n (fun j => ((sp j : Nat) : Int)) jf))) 76 4 (vI 0), ⟨⟨fun k i hk => ?_, ?_⟩, rfl, ?_, ?_, ?_⟩, fun Q => XC_eq (Nat.le_of_ble_eq_true rfl) ?_ Q⟩
    · rw [hV_eq, if_neg (by omega), hV_eq, if_neg (by omega), hV_eq, if_neg (by omega)]; exact nM k i (by omega) (by omega) (by omega)
    · exact hS_at
    · rw [hV_eq, if_neg (by decide), hV_eq, if_neg (by decide), hV_eq, if_neg (by decide)]; exact nM 77 3 (by omega) (by omega) (by omega)
    · rw [hV_eq, if_neg (by decide), hV_eq, if_neg (by decide)]; exact hS_at
    · rw [hV_eq, if_neg (by decide)]; exact hS_at
    · show XP (d + 14) 232 0 [some (vR 76)] [] h _
      refine xpk_sound (stops := []) (n := 80) ?_
      simp only [sk_0, sk_1, sk_2, sk_3, sk_4, sk_5, sk_6, sk_7, sk_8, sk_iadd, sk_isub, sk_imul, sk_iand, sk_ior, sk_ixor, sk_ishl, sk_ishr, sk_iushr, sk_idiv, sk_irem, sk_ineg, sk_ladd, sk_lsub, sk_lmul, sk_land, sk_lor, sk_ldiv, sk_lrem, sk_lneg, sk_lshl, sk_lshr, sk_i2l, sk_l2i, sk_lcmp, sk_dupI, sk_dupR, sk_dup2L, sk_dup2I, sk_popI, sk_ifeq, sk_ifne, sk_iflt, sk_ifge, sk_ifgt, sk_ifle, sk_iceq, sk_icne, sk_iclt, sk_icge, sk_icgt, sk_icle, sk_goto, sk_getf, sk_putf, sk_gets, sk_iald, sk_lald, sk_bald, sk_aald, sk_iast, sk_last, sk_bast, sk_aast, sk_alen, sk_newa, sk_newt, sk_new, sk_cs1, sk_cs2, sk_cs3, sk_cs4, sk_cs5, sk_cs6, sk_cv1, sk_cv2, sk_cv3, sk_cv4, sk_cv5, sk_cv6, sk_ci1, sk_ci2, sk_ci3, sk_ret0, sk_retI, sk_retL, sk_retR, sk_sw, sk_oin, sk_max, sk_min, sk_abs, lI_0, lI_s, lL_0, lL_s, lR_0, lR_s, vIo_e, vLo_e, vOo_e, stW_I, stW_L, stW_R, stW_0, stW_z, okSt_0, okSt_s, hV_eq, hK_eq, okF_0, okF_1, okF_3, is01_0, is01_1, is01_i, Int.toNat_natCast, Int.reduceEq, Int.reduceLE, Int.reduceLT, Int.reduceNeg, Nat.reduceLT, not_true_eq_false, not_false_eq_true, reduceIte, Option.toList, List.cons_append, List.nil_append, List.set_cons_zero, List.set_cons_succ, List.not_mem_nil, List.mem_cons, if_false, if_true, ite_true, ite_false, and_self, and_true, true_and, Nat.reduceAdd, Nat.reduceLeDiff, Nat.reduceEqDiff, Nat.zero_add, Nat.le_refl, Nat.zero_le, or_false, false_or, Int.reduceToNat, or_true, true_or, eq_self, and_false, false_and, inR_d, nc_4, nc_5, nc_6, nc_7, nc_8, nc_16, nc_18, nc_20, nc_24, nc_32, nc_40, nc_64, nc_104, nc_120, nc_160, nc_256, nc_300, nc_330, nc_390, nc_1200, nc_1260, nc_3012, nc_9834, okSt_1i, okSt_1r, okSt_1n, List.length_cons, List.length_nil, xpk_succ cd_232_0, xpk_succ cd_232_1, xpk_succ cd_232_4, xpk_succ cd_232_5, xpk_succ cd_232_6, xpk_succ cd_232_7, xpk_succ cd_232_10, xpk_succ cd_232_11, xpk_succ cd_232_12, xpk_succ cd_232_13, xpk_succ cd_232_14, xpk_succ cd_232_17, xpk_succ cd_232_20, xpk_succ cd_232_21, xpk_succ cd_232_22, xpk_succ cd_232_25, xpk_succ cd_232_28, xpk_succ cd_232_29, xpk_succ cd_232_32, xpk_succ cd_232_33, xpk_succ cd_232_36, xpk_succ cd_232_39, xpk_succ cd_232_40, xpk_succ cd_232_41, xpk_succ cd_232_44, xpk_succ cd_232_45, xpk_succ cd_232_48, xpk_succ cd_232_51, xpk_succ cd_232_52, xpk_succ cd_232_53, xpk_succ cd_232_54, xpk_succ cd_232_57, xpk_succ cd_232_58, xpk_succ cd_232_59, xpk_succ cd_232_60, xpk_succ cd_232_61, xpk_succ cd_232_62, xpk_succ cd_232_63, xpk_succ cd_232_64, xpk_succ cd_232_67, xpk_succ cd_232_68, xpk_succ cd_232_69, xpk_succ cd_232_70, xpk_succ cd_232_71, K_76 hJ, K_77 hJ, F_76_0 hJ, v3, z4, e, hf, hK_M, hM_8, (nM 76 0 (by omega) (by omega) (by omega)), (nM 77 3 (by omega) (by omega) (by omega))]
  | inr cs =>
    obtain ⟨rfl, a, pl, tk, nu, wd, wr, so, pi, op, wh, on, pf, rfl⟩ := hmt
    refine ⟨some (vI (J : Int)), hSet (hSet (hSet (hSet (hM (hSet h 76 12 (vI ((753 * J : Nat) : Int))) a pl tk nu wd wr so pi op wh on pf (txA J (fI h 79) cs).2.2) 76 5 (vI 0)) 76 6 (vI (-1))) 76 4 (vI 0)) 77 3 (vI ((J + 1 : Nat) : Int)), ⟨⟨fun k i hk => ?_, ?_⟩, rfl, ?_, ?_, ?_⟩, fun Q => XC_eq (Nat.le_of_ble_eq_true rfl) ?_ Q⟩
    · rw [hV_eq, if_neg (by omega), hV_eq, if_neg (by omega), hV_eq, if_neg (by omega), hV_eq, if_neg (by omega)]; exact nM k i (by omega) (by omega) (by omega)
    · rw [hV_eq, if_neg (by decide)]; exact hS_at
    · exact hS_at
    · rw [hV_eq, if_neg (by decide), hV_eq, if_neg (by decide), hV_eq, if_neg (by decide)]; exact hS_at
    · rw [hV_eq, if_neg (by decide), hV_eq, if_neg (by decide)]; exact hS_at
    · show XP (d + 14) 232 0 [some (vR 76)] [] h _
      refine xpk_sound (stops := []) (n := 80) ?_
      simp only [sk_0, sk_1, sk_2, sk_3, sk_4, sk_5, sk_6, sk_7, sk_8, sk_iadd, sk_isub, sk_imul, sk_iand, sk_ior, sk_ixor, sk_ishl, sk_ishr, sk_iushr, sk_idiv, sk_irem, sk_ineg, sk_ladd, sk_lsub, sk_lmul, sk_land, sk_lor, sk_ldiv, sk_lrem, sk_lneg, sk_lshl, sk_lshr, sk_i2l, sk_l2i, sk_lcmp, sk_dupI, sk_dupR, sk_dup2L, sk_dup2I, sk_popI, sk_ifeq, sk_ifne, sk_iflt, sk_ifge, sk_ifgt, sk_ifle, sk_iceq, sk_icne, sk_iclt, sk_icge, sk_icgt, sk_icle, sk_goto, sk_getf, sk_putf, sk_gets, sk_iald, sk_lald, sk_bald, sk_aald, sk_iast, sk_last, sk_bast, sk_aast, sk_alen, sk_newa, sk_newt, sk_new, sk_cs1, sk_cs2, sk_cs3, sk_cs4, sk_cs5, sk_cs6, sk_cv1, sk_cv2, sk_cv3, sk_cv4, sk_cv5, sk_cv6, sk_ci1, sk_ci2, sk_ci3, sk_ret0, sk_retI, sk_retL, sk_retR, sk_sw, sk_oin, sk_max, sk_min, sk_abs, lI_0, lI_s, lL_0, lL_s, lR_0, lR_s, vIo_e, vLo_e, vOo_e, stW_I, stW_L, stW_R, stW_0, stW_z, okSt_0, okSt_s, hV_eq, hK_eq, okF_0, okF_1, okF_3, is01_0, is01_1, is01_i, Int.toNat_natCast, Int.reduceEq, Int.reduceLE, Int.reduceLT, Int.reduceNeg, Nat.reduceLT, not_true_eq_false, not_false_eq_true, reduceIte, Option.toList, List.cons_append, List.nil_append, List.set_cons_zero, List.set_cons_succ, List.not_mem_nil, List.mem_cons, if_false, if_true, ite_true, ite_false, and_self, and_true, true_and, Nat.reduceAdd, Nat.reduceLeDiff, Nat.reduceEqDiff, Nat.zero_add, Nat.le_refl, Nat.zero_le, or_false, false_or, Int.reduceToNat, or_true, true_or, eq_self, and_false, false_and, inR_d, nc_4, nc_5, nc_6, nc_7, nc_8, nc_16, nc_18, nc_20, nc_24, nc_32, nc_40, nc_64, nc_104, nc_120, nc_160, nc_256, nc_300, nc_330, nc_390, nc_1200, nc_1260, nc_3012, nc_9834, okSt_1i, okSt_1r, okSt_1n, List.length_cons, List.length_nil, xpk_succ cd_232_0, xpk_succ cd_232_1, xpk_succ cd_232_4, xpk_succ cd_232_5, xpk_succ cd_232_6, xpk_succ cd_232_7, xpk_succ cd_232_10, xpk_succ cd_232_11, xpk_succ cd_232_12, xpk_succ cd_232_13, xpk_succ cd_232_14, xpk_succ cd_232_17, xpk_succ cd_232_20, xpk_succ cd_232_21, xpk_succ cd_232_22, xpk_succ cd_232_25, xpk_succ cd_232_28, xpk_succ cd_232_29, xpk_succ cd_232_32, xpk_succ cd_232_33, xpk_succ cd_232_36, xpk_succ cd_232_39, xpk_succ cd_232_40, xpk_succ cd_232_41, xpk_succ cd_232_44, xpk_succ cd_232_45, xpk_succ cd_232_48, xpk_succ cd_232_51, xpk_succ cd_232_52, xpk_succ cd_232_53, xpk_succ cd_232_54, xpk_succ cd_232_57, xpk_succ cd_232_58, xpk_succ cd_232_59, xpk_succ cd_232_60, xpk_succ cd_232_61, xpk_succ cd_232_62, xpk_succ cd_232_63, xpk_succ cd_232_64, xpk_succ cd_232_67, xpk_succ cd_232_68, xpk_succ cd_232_69, xpk_succ cd_232_70, xpk_succ cd_232_71, K_76 hJ, K_77 hJ, F_76_0 hJ, v3, z4, e, hK_M, (nM 76 0 (by omega) (by omega) (by omega)), (nM 77 3 (by omega) (by omega) (by omega)), (WE_e w1), (WE_e w2)]
theorem X_txM4 {d : Nat} {h : AH} (hJ : k_H JB h) (v3 : hV h 77 3 = vI 4) (Q : Option AV → AH → Prop) : XC (d + 1) 232 [vR 76] h Q = Q (some (vI (-1))) h := by
  refine XC_eq (Nat.le_of_ble_eq_true rfl) ?_ Q
  show XP d 232 0 [some (vR 76)] [] h _
  refine xpk_sound (stops := []) (n := 20) ?_
  simp only [sk_0, sk_1, sk_2, sk_3, sk_4, sk_5, sk_6, sk_7, sk_8, sk_iadd, sk_isub, sk_imul, sk_iand, sk_ior, sk_ixor, sk_ishl, sk_ishr, sk_iushr, sk_idiv, sk_irem, sk_ineg, sk_ladd, sk_lsub, sk_lmul, sk_land, sk_lor, sk_ldiv, sk_lrem, sk_lneg, sk_lshl, sk_lshr, sk_i2l, sk_l2i, sk_lcmp, sk_dupI, sk_dupR, sk_dup2L, sk_dup2I, sk_popI, sk_ifeq, sk_ifne, sk_iflt, sk_ifge, sk_ifgt, sk_ifle, sk_iceq, sk_icne, sk_iclt, sk_icge, sk_icgt, sk_icle, sk_goto, sk_getf, sk_putf, sk_gets, sk_iald, sk_lald, sk_bald, sk_aald, sk_iast, sk_last, sk_bast, sk_aast, sk_alen, sk_newa, sk_newt, sk_new, sk_cs1, sk_cs2, sk_cs3, sk_cs4, sk_cs5, sk_cs6, sk_cv1, sk_cv2, sk_cv3, sk_cv4, sk_cv5, sk_cv6, sk_ci1, sk_ci2, sk_ci3, sk_ret0, sk_retI, sk_retL, sk_retR, sk_sw, sk_oin, sk_max, sk_min, sk_abs, lI_0, lI_s, lL_0, lL_s, lR_0, lR_s, vIo_e, vLo_e, vOo_e, stW_I, stW_L, stW_R, stW_0, stW_z, okSt_0, okSt_s, hV_eq, hK_eq, okF_0, okF_1, okF_3, is01_0, is01_1, is01_i, Int.toNat_natCast, Int.reduceEq, Int.reduceLE, Int.reduceLT, Int.reduceNeg, Nat.reduceLT, not_true_eq_false, not_false_eq_true, reduceIte, Option.toList, List.cons_append, List.nil_append, List.set_cons_zero, List.set_cons_succ, List.not_mem_nil, List.mem_cons, if_false, if_true, ite_true, ite_false, and_self, and_true, true_and, Nat.reduceAdd, Nat.reduceLeDiff, Nat.reduceEqDiff, Nat.zero_add, Nat.le_refl, Nat.zero_le, or_false, false_or, Int.reduceToNat, or_true, true_or, eq_self, and_false, false_and, inR_d, nc_4, nc_5, nc_6, nc_7, nc_8, nc_16, nc_18, nc_20, nc_24, nc_32, nc_40, nc_64, nc_104, nc_120, nc_160, nc_256, nc_300, nc_330, nc_390, nc_1200, nc_1260, nc_3012, nc_9834, okSt_1i, okSt_1r, okSt_1n, List.length_cons, List.length_nil, xpk_succ cd_232_0, xpk_succ cd_232_1, xpk_succ cd_232_4, xpk_succ cd_232_5, xpk_succ cd_232_6, xpk_succ cd_232_7, xpk_succ cd_232_10, xpk_succ cd_232_11, xpk_succ cd_232_12, xpk_succ cd_232_13, xpk_succ cd_232_14, xpk_succ cd_232_17, xpk_succ cd_232_20, xpk_succ cd_232_21, xpk_succ cd_232_22, xpk_succ cd_232_25, xpk_succ cd_232_28, xpk_succ cd_232_29, xpk_succ cd_232_32, xpk_succ cd_232_33, xpk_succ cd_232_36, xpk_succ cd_232_39, xpk_succ cd_232_40, xpk_succ cd_232_41, xpk_succ cd_232_44, xpk_succ cd_232_45, xpk_succ cd_232_48, xpk_succ cd_232_51, xpk_succ cd_232_52, xpk_succ cd_232_53, xpk_succ cd_232_54, xpk_succ cd_232_57, xpk_succ cd_232_58, xpk_succ cd_232_59, xpk_succ cd_232_60, xpk_succ cd_232_61, xpk_succ cd_232_62, xpk_succ cd_232_63, xpk_succ cd_232_64, xpk_succ cd_232_67, xpk_succ cd_232_68, xpk_succ cd_232_69, xpk_succ cd_232_70, xpk_succ cd_232_71, K_76 hJ, K_77 hJ, F_76_0 hJ, v3]
