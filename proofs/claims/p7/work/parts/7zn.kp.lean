/-! keep and undo of the reference, exactly -/
theorem bits_s {b : Int} (h0 : 0 ≤ b) (h1 : b ≤ 255) {o : Nat} (ho : o < 8) : ior (b % 2 ^ o) (ishl (bitF b o) (o : Int)) = b % 2 ^ (o + 1) := by
  have q : ∀ (b : Fin 256) (o : Fin 8), ior ((b.val : Int) % 2 ^ o.val) (ishl (bitF (b.val : Int) o.val) (o.val : Int)) = (b.val : Int) % 2 ^ (o.val + 1) := by decide +kernel
  have e : b = ((b.toNat : Nat) : Int) := by omega
  have := q ⟨b.toNat, by omega⟩ ⟨o, ho⟩
  rw [e]
  exact this
theorem bits_0 (b : Int) : b % 2 ^ 0 = 0 := by
  show b % 1 = 0
  omega
theorem bits_n {b : Int} {n : Nat} (h0 : 0 ≤ b) (h1 : b < 2 ^ n) : b % 2 ^ n = b := Int.emod_eq_of_lt h0 h1

set_option maxHeartbeats 4000000 in
theorem kq_3 (d : Nat) (h : AH) (g : Nat → Int) (x n0 : Nat) (b : Int) (hb : 0 ≤ b ∧ b ≤ 255) (hf : ∀ o, o < n0 → g (25 + 6 * o) = bitF b o) (hx : 84 ≤ x) (hx2 : x + 12 < 474) (h0 : g 0 = (n0 : Int)) (hn : n0 ≤ 8) (Q : Option AV → AH → Prop) (ho : AO h) (hend : XP (d + 1) 254 177 [some (vR 76), some (vI (x : Int)), some (vI (n0 : Int))] [] (hA h (upF g (x + 12) (b % 2 ^ n0))) Q) : ∀ (j o : Nat), o + j = n0 → XP (d + 1) 254 141 [some (vR 76), some (vI (x : Int)), some (vI (o : Int))] [] (hA h (upF g (x + 12) (b % 2 ^ o))) Q := by
  intro j
  induction j with
  | zero =>
    intro o hk
    obtain rfl : o = n0 := by omega
    generalize b % 2 ^ o = m at hend ⊢
    have o1 := (AO_A (f := upF g (x + 12) m) ho).1
    have o2 := (AO_A (f := upF g (x + 12) m) ho).2.1
    have o3 := (AO_A (f := upF g (x + 12) m) ho).2.2
    have v0 : hV (hA h (upF g (x + 12) m)) 77 0 = vI (o : Int) := by rw [hA_V (by decide), upF_ne (by omega), h0]
    have he := hend
    refine xpk_sound (stops := [177]) (n := 9) ?_
    simp only [sk_0, sk_1, sk_2, sk_3, sk_4, sk_5, sk_6, sk_7, sk_8, sk_iadd, sk_isub, sk_imul, sk_iand, sk_ior, sk_ixor, sk_ishl, sk_ishr, sk_iushr, sk_idiv, sk_irem, sk_ineg, sk_ladd, sk_lsub, sk_lmul, sk_land, sk_lor, sk_ldiv, sk_lrem, sk_lneg, sk_lshl, sk_lshr, sk_i2l, sk_l2i, sk_lcmp, sk_dupI, sk_dupR, sk_dup2L, sk_dup2I, sk_popI, sk_ifeq, sk_ifne, sk_iflt, sk_ifge, sk_ifgt, sk_ifle, sk_iceq, sk_icne, sk_iclt, sk_icge, sk_icgt, sk_icle, sk_goto, sk_getf, sk_putf, sk_gets, sk_iald, sk_lald, sk_bald, sk_aald, sk_iast, sk_last, sk_bast, sk_aast, sk_alen, sk_newa, sk_newt, sk_new, sk_cs1, sk_cs2, sk_cs3, sk_cs4, sk_cs5, sk_cs6, sk_cv1, sk_cv2, sk_cv3, sk_cv4, sk_cv5, sk_cv6, sk_ci1, sk_ci2, sk_ci3, sk_ret0, sk_retI, sk_retL, sk_retR, sk_sw, sk_oin, sk_max, sk_min, sk_abs, lI_0, lI_s, lL_0, lL_s, lR_0, lR_s, vIo_e, vLo_e, vOo_e, stW_I, stW_L, stW_R, stW_0, stW_z, okSt_0, okSt_s, hV_eq, hK_eq, okF_0, okF_1, okF_3, is01_0, is01_1, is01_i, Int.toNat_natCast, Int.reduceEq, Int.reduceLE, Int.reduceLT, Int.reduceNeg, Nat.reduceLT, not_true_eq_false, not_false_eq_true, reduceIte, Option.toList, List.cons_append, List.nil_append, List.set_cons_zero, List.set_cons_succ, List.not_mem_nil, List.mem_cons, if_false, if_true, ite_true, ite_false, and_self, and_true, true_and, Nat.reduceAdd, Nat.reduceLeDiff, Nat.reduceEqDiff, Nat.zero_add, Nat.le_refl, Nat.zero_le, or_false, false_or, Int.reduceToNat, or_true, true_or, eq_self, and_false, false_and, inR_d, nc_4, nc_5, nc_6, nc_7, nc_8, nc_16, nc_18, nc_20, nc_24, nc_32, nc_40, nc_64, nc_104, nc_120, nc_160, nc_256, nc_300, nc_330, nc_390, nc_1200, nc_1260, nc_3012, nc_9834, okSt_1i, okSt_1r, okSt_1n, xpk_succ cd_254_141, xpk_succ cd_254_142, xpk_succ cd_254_143, xpk_succ cd_254_146, xpk_succ cd_254_147, xpk_succ cd_254_148, o1, o2, o3, v0, Int.le_refl]
    exact he
  | succ j ih =>
    intro o hk
    have o8 : o < 8 := by omega
    have on : o < n0 := by omega
    have ih := ih (o + 1) (by omega)
    rw [← bits_s hb.1 hb.2 o8, ← hf o on] at ih
    generalize b % 2 ^ o = m at ih ⊢
    clear hf hb hend
    have i5b : 20 + 6 * o + 5 = 25 + 6 * o := by omega
    have i5 : upF g (x + 12) m (20 + 6 * o + 5) = g (20 + 6 * o + 5) := upF_ne (by omega)
    have o1 := (AO_A (f := upF g (x + 12) m) ho).1
    have o2 := (AO_A (f := upF g (x + 12) m) ho).2.1
    have o3 := (AO_A (f := upF g (x + 12) m) ho).2.2
    have v0 : hV (hA h (upF g (x + 12) m)) 77 0 = vI (n0 : Int) := by rw [hA_V (by decide), upF_ne (by omega), h0]
    have hc : ¬ (n0 : Int) ≤ (o : Int) := by omega
    have a1 : w32 ((x : Int) + 12) = ((x + 12 : Nat) : Int) := by unfold w32; omega
    have a3 : w32 ((o : Int) + 1) = ((o + 1 : Nat) : Int) := by unfold w32; omega
    have b1 : (0 : Int) ≤ ((x + 12 : Nat) : Int) ∧ ((x + 12 : Nat) : Int) < 9834 := by omega
    have v1 : hV (hA h (upF g (x + 12) m)) 77 (x + 12) = vI m := by rw [hA_V (by omega), upF_at]
    have e1 := X_get d h (upF g (x + 12) m) o 5 ho (by omega) (by decide)
    have e1 : ∀ Q : Option AV → AH → Prop, XC (d + 1) 188 [vR 76, vI (o : Int), vI 5] (hA h (upF g (x + 12) m)) Q = Q (some (vI (upF g (x + 12) m (20 + 6 * o + 5)))) (hA h (upF g (x + 12) m)) := e1
    have s1 : ∀ z : Int, hSet (hA h (upF g (x + 12) m)) 77 (x + 12) (vI z) = hA h (upF g (x + 12) z) := fun z => by
      have e : upF (upF g (x + 12) m) (x + 12) z = upF g (x + 12) z := by
        funext i
        unfold upF
        by_cases y : i = x + 12
        · rw [if_pos y, if_pos y]
        · rw [if_neg y, if_neg y, if_neg y]
      rw [hA_set (by omega), e]
    refine xpk_sound (stops := [141]) (n := 40) ?_
    simp only [sk_0, sk_1, sk_2, sk_3, sk_4, sk_5, sk_6, sk_7, sk_8, sk_iadd, sk_isub, sk_imul, sk_iand, sk_ior, sk_ixor, sk_ishl, sk_ishr, sk_iushr, sk_idiv, sk_irem, sk_ineg, sk_ladd, sk_lsub, sk_lmul, sk_land, sk_lor, sk_ldiv, sk_lrem, sk_lneg, sk_lshl, sk_lshr, sk_i2l, sk_l2i, sk_lcmp, sk_dupI, sk_dupR, sk_dup2L, sk_dup2I, sk_popI, sk_ifeq, sk_ifne, sk_iflt, sk_ifge, sk_ifgt, sk_ifle, sk_iceq, sk_icne, sk_iclt, sk_icge, sk_icgt, sk_icle, sk_goto, sk_getf, sk_putf, sk_gets, sk_iald, sk_lald, sk_bald, sk_aald, sk_iast, sk_last, sk_bast, sk_aast, sk_alen, sk_newa, sk_newt, sk_new, sk_cs1, sk_cs2, sk_cs3, sk_cs4, sk_cs5, sk_cs6, sk_cv1, sk_cv2, sk_cv3, sk_cv4, sk_cv5, sk_cv6, sk_ci1, sk_ci2, sk_ci3, sk_ret0, sk_retI, sk_retL, sk_retR, sk_sw, sk_oin, sk_max, sk_min, sk_abs, lI_0, lI_s, lL_0, lL_s, lR_0, lR_s, vIo_e, vLo_e, vOo_e, stW_I, stW_L, stW_R, stW_0, stW_z, okSt_0, okSt_s, hV_eq, hK_eq, okF_0, okF_1, okF_3, is01_0, is01_1, is01_i, Int.toNat_natCast, Int.reduceEq, Int.reduceLE, Int.reduceLT, Int.reduceNeg, Nat.reduceLT, not_true_eq_false, not_false_eq_true, reduceIte, Option.toList, List.cons_append, List.nil_append, List.set_cons_zero, List.set_cons_succ, List.not_mem_nil, List.mem_cons, if_false, if_true, ite_true, ite_false, and_self, and_true, true_and, Nat.reduceAdd, Nat.reduceLeDiff, Nat.reduceEqDiff, Nat.zero_add, Nat.le_refl, Nat.zero_le, or_false, false_or, Int.reduceToNat, or_true, true_or, eq_self, and_false, false_and, inR_d, nc_4, nc_5, nc_6, nc_7, nc_8, nc_16, nc_18, nc_20, nc_24, nc_32, nc_40, nc_64, nc_104, nc_120, nc_160, nc_256, nc_300, nc_330, nc_390, nc_1200, nc_1260, nc_3012, nc_9834, okSt_1i, okSt_1r, okSt_1n, xpk_succ cd_254_141, xpk_succ cd_254_142, xpk_succ cd_254_143, xpk_succ cd_254_146, xpk_succ cd_254_147, xpk_succ cd_254_148, xpk_succ cd_254_151, xpk_succ cd_254_152, xpk_succ cd_254_155, xpk_succ cd_254_156, xpk_succ cd_254_158, xpk_succ cd_254_159, xpk_succ cd_254_160, xpk_succ cd_254_161, xpk_succ cd_254_162, xpk_succ cd_254_163, xpk_succ cd_254_164, xpk_succ cd_254_167, xpk_succ cd_254_168, xpk_succ cd_254_169, xpk_succ cd_254_170, xpk_succ cd_254_171, xpk_succ cd_254_174, hc, o1, o2, o3, v0, a1, a3, b1, v1, e1]
    rw [s1, i5, i5b]
    exact ih
theorem kq_4 (d : Nat) (h : AH) (g : Nat → Int) (s n0 : Nat) (b : Int) (hb : 0 ≤ b ∧ b ≤ 255) (hbn : b < 2 ^ n0) (hf : ∀ o, o < n0 → g (25 + 6 * o) = bitF b o) (hs : s < 30) (h5 : g 5 = (s : Int)) (h0 : g 0 = (n0 : Int)) (hn : n0 ≤ 8) (ls : Option AV) (hls : ∀ z, ls ≠ some (.inr (.inl z))) (Q : Option AV → AH → Prop) (ho : AO h) (hend : Q none (hA h (upF (upF (kpF g (84 + 13 * s)) (84 + 13 * s + 12) b) 5 ((s + 1 : Nat) : Int)))) : XP (d + 1) 254 54 [some (vR 76), ls, none] [] (hA h g) Q := by
  have hx : 84 ≤ 84 + 13 * s := by omega
  have hx2 : 84 + 13 * s + 12 < 474 := by omega
  generalize hX : 84 + 13 * s = x at hx hx2 hend
  have kn : ∀ i, i < 84 → kpF g x i = g i := fun i hi => by
    unfold kpF
    rw [upF_ne (by omega), upF_ne (by omega)]
    exact if_neg (fun z => by omega)
  have fin : XP (d + 1) 254 177 [some (vR 76), some (vI (x : Int)), some (vI (n0 : Int))] [] (hA h (upF (kpF g x) (x + 12) b)) Q := by
    have o1 := (AO_A (f := upF (kpF g x) (x + 12) b) ho).1
    have o2 := (AO_A (f := upF (kpF g x) (x + 12) b) ho).2.1
    have o3 := (AO_A (f := upF (kpF g x) (x + 12) b) ho).2.2
    have v5 : hV (hA h (upF (kpF g x) (x + 12) b)) 77 5 = vI (s : Int) := by rw [hA_V (by decide), upF_ne (by omega), kn 5 (by decide), h5]
    have a1 : w32 ((s : Int) + 1) = ((s + 1 : Nat) : Int) := by unfold w32; omega
    have s1 : hSet (hA h (upF (kpF g x) (x + 12) b)) 77 5 (vI ((s + 1 : Nat) : Int)) = hA h (upF (upF (kpF g x) (x + 12) b) 5 ((s + 1 : Nat) : Int)) := hA_set (by decide)
    have he := hend
    refine xpk_sound (stops := []) (n := 14) ?_
    simp only [sk_0, sk_1, sk_2, sk_3, sk_4, sk_5, sk_6, sk_7, sk_8, sk_iadd, sk_isub, sk_imul, sk_iand, sk_ior, sk_ixor, sk_ishl, sk_ishr, sk_iushr, sk_idiv, sk_irem, sk_ineg, sk_ladd, sk_lsub, sk_lmul, sk_land, sk_lor, sk_ldiv, sk_lrem, sk_lneg, sk_lshl, sk_lshr, sk_i2l, sk_l2i, sk_lcmp, sk_dupI, sk_dupR, sk_dup2L, sk_dup2I, sk_popI, sk_ifeq, sk_ifne, sk_iflt, sk_ifge, sk_ifgt, sk_ifle, sk_iceq, sk_icne, sk_iclt, sk_icge, sk_icgt, sk_icle, sk_goto, sk_getf, sk_putf, sk_gets, sk_iald, sk_lald, sk_bald, sk_aald, sk_iast, sk_last, sk_bast, sk_aast, sk_alen, sk_newa, sk_newt, sk_new, sk_cs1, sk_cs2, sk_cs3, sk_cs4, sk_cs5, sk_cs6, sk_cv1, sk_cv2, sk_cv3, sk_cv4, sk_cv5, sk_cv6, sk_ci1, sk_ci2, sk_ci3, sk_ret0, sk_retI, sk_retL, sk_retR, sk_sw, sk_oin, sk_max, sk_min, sk_abs, lI_0, lI_s, lL_0, lL_s, lR_0, lR_s, vIo_e, vLo_e, vOo_e, stW_I, stW_L, stW_R, stW_0, stW_z, okSt_0, okSt_s, hV_eq, hK_eq, okF_0, okF_1, okF_3, is01_0, is01_1, is01_i, Int.toNat_natCast, Int.reduceEq, Int.reduceLE, Int.reduceLT, Int.reduceNeg, Nat.reduceLT, not_true_eq_false, not_false_eq_true, reduceIte, Option.toList, List.cons_append, List.nil_append, List.set_cons_zero, List.set_cons_succ, List.not_mem_nil, List.mem_cons, if_false, if_true, ite_true, ite_false, and_self, and_true, true_and, Nat.reduceAdd, Nat.reduceLeDiff, Nat.reduceEqDiff, Nat.zero_add, Nat.le_refl, Nat.zero_le, or_false, false_or, Int.reduceToNat, or_true, true_or, eq_self, and_false, false_and, inR_d, nc_4, nc_5, nc_6, nc_7, nc_8, nc_16, nc_18, nc_20, nc_24, nc_32, nc_40, nc_64, nc_104, nc_120, nc_160, nc_256, nc_300, nc_330, nc_390, nc_1200, nc_1260, nc_3012, nc_9834, okSt_1i, okSt_1r, okSt_1n, xpk_succ cd_254_177, xpk_succ cd_254_178, xpk_succ cd_254_181, xpk_succ cd_254_182, xpk_succ cd_254_183, xpk_succ cd_254_184, xpk_succ cd_254_185, xpk_succ cd_254_186, xpk_succ cd_254_187, o1, o2, o3, v5, a1]
    rw [s1]
    exact he
  have lp3 : XP (d + 1) 254 141 [some (vR 76), some (vI (x : Int)), some (vI 0)] [] (hA h (upF (kpF g x) (x + 12) 0)) Q := by
    have q := kq_3 d h (kpF g x) x n0 b hb (fun o ho => (kn _ (by omega)).trans (hf o ho)) hx hx2 (by rw [kn 0 (by decide)]; exact h0) hn Q ho (by rw [bits_n hb.1 hbn]; exact fin) n0 0 (by omega)
    rw [bits_0] at q
    exact q
  have c2 : cpF g x 10 2 = g 2 := if_neg (fun z => by omega)
  have c7 : cpF g x 10 7 = g 7 := if_neg (fun z => by omega)
  have mid : XP (d + 1) 254 98 [some (vR 76), some (vI (x : Int)), some (vI 10)] [] (hA h (cpF g x 10)) Q := by
    have o1 := (AO_A (f := cpF g x 10) ho).1
    have o2 := (AO_A (f := cpF g x 10) ho).2.1
    have o3 := (AO_A (f := cpF g x 10) ho).2.2
    have p1 := (AO_A (f := upF (cpF g x 10) (x + 10) (g 2)) ho).1
    have p2 := (AO_A (f := upF (cpF g x 10) (x + 10) (g 2)) ho).2.1
    have p3 := (AO_A (f := upF (cpF g x 10) (x + 10) (g 2)) ho).2.2
    have r1 := (AO_A (f := kpF g x) ho).1
    have r2 := (AO_A (f := kpF g x) ho).2.1
    have r3 := (AO_A (f := kpF g x) ho).2.2
    have a10 : w32 ((x : Int) + 10) = ((x + 10 : Nat) : Int) := by unfold w32; omega
    have a11 : w32 ((x : Int) + 11) = ((x + 11 : Nat) : Int) := by unfold w32; omega
    have a12 : w32 ((x : Int) + 12) = ((x + 12 : Nat) : Int) := by unfold w32; omega
    have b10 : (0 : Int) ≤ ((x + 10 : Nat) : Int) ∧ ((x + 10 : Nat) : Int) < 9834 := by omega
    have b11 : (0 : Int) ≤ ((x + 11 : Nat) : Int) ∧ ((x + 11 : Nat) : Int) < 9834 := by omega
    have b12 : (0 : Int) ≤ ((x + 12 : Nat) : Int) ∧ ((x + 12 : Nat) : Int) < 9834 := by omega
    have v2 : hV (hA h (cpF g x 10)) 77 2 = vI (g 2) := by rw [hA_V (by decide), c2]
    have v7 : hV (hA h (upF (cpF g x 10) (x + 10) (g 2))) 77 7 = vI (g 7) := by rw [hA_V (by decide), upF_ne (by omega), c7]
    have s10 : hSet (hA h (cpF g x 10)) 77 (x + 10) (vI (g 2)) = hA h (upF (cpF g x 10) (x + 10) (g 2)) := hA_set (by omega)
    have s11 : hSet (hA h (upF (cpF g x 10) (x + 10) (g 2))) 77 (x + 11) (vI (g 7)) = hA h (kpF g x) := hA_set (by omega)
    have s12 : hSet (hA h (kpF g x)) 77 (x + 12) (vI 0) = hA h (upF (kpF g x) (x + 12) 0) := hA_set (by omega)
    refine xpk_sound (stops := [141]) (n := 60) ?_
    simp only [sk_0, sk_1, sk_2, sk_3, sk_4, sk_5, sk_6, sk_7, sk_8, sk_iadd, sk_isub, sk_imul, sk_iand, sk_ior, sk_ixor, sk_ishl, sk_ishr, sk_iushr, sk_idiv, sk_irem, sk_ineg, sk_ladd, sk_lsub, sk_lmul, sk_land, sk_lor, sk_ldiv, sk_lrem, sk_lneg, sk_lshl, sk_lshr, sk_i2l, sk_l2i, sk_lcmp, sk_dupI, sk_dupR, sk_dup2L, sk_dup2I, sk_popI, sk_ifeq, sk_ifne, sk_iflt, sk_ifge, sk_ifgt, sk_ifle, sk_iceq, sk_icne, sk_iclt, sk_icge, sk_icgt, sk_icle, sk_goto, sk_getf, sk_putf, sk_gets, sk_iald, sk_lald, sk_bald, sk_aald, sk_iast, sk_last, sk_bast, sk_aast, sk_alen, sk_newa, sk_newt, sk_new, sk_cs1, sk_cs2, sk_cs3, sk_cs4, sk_cs5, sk_cs6, sk_cv1, sk_cv2, sk_cv3, sk_cv4, sk_cv5, sk_cv6, sk_ci1, sk_ci2, sk_ci3, sk_ret0, sk_retI, sk_retL, sk_retR, sk_sw, sk_oin, sk_max, sk_min, sk_abs, lI_0, lI_s, lL_0, lL_s, lR_0, lR_s, vIo_e, vLo_e, vOo_e, stW_I, stW_L, stW_R, stW_0, stW_z, okSt_0, okSt_s, hV_eq, hK_eq, okF_0, okF_1, okF_3, is01_0, is01_1, is01_i, Int.toNat_natCast, Int.reduceEq, Int.reduceLE, Int.reduceLT, Int.reduceNeg, Nat.reduceLT, not_true_eq_false, not_false_eq_true, reduceIte, Option.toList, List.cons_append, List.nil_append, List.set_cons_zero, List.set_cons_succ, List.not_mem_nil, List.mem_cons, if_false, if_true, ite_true, ite_false, and_self, and_true, true_and, Nat.reduceAdd, Nat.reduceLeDiff, Nat.reduceEqDiff, Nat.zero_add, Nat.le_refl, Nat.zero_le, or_false, false_or, Int.reduceToNat, or_true, true_or, eq_self, and_false, false_and, inR_d, nc_4, nc_5, nc_6, nc_7, nc_8, nc_16, nc_18, nc_20, nc_24, nc_32, nc_40, nc_64, nc_104, nc_120, nc_160, nc_256, nc_300, nc_330, nc_390, nc_1200, nc_1260, nc_3012, nc_9834, okSt_1i, okSt_1r, okSt_1n, xpk_succ cd_254_98, xpk_succ cd_254_99, xpk_succ cd_254_102, xpk_succ cd_254_103, xpk_succ cd_254_105, xpk_succ cd_254_106, xpk_succ cd_254_107, xpk_succ cd_254_110, xpk_succ cd_254_111, xpk_succ cd_254_112, xpk_succ cd_254_113, xpk_succ cd_254_114, xpk_succ cd_254_117, xpk_succ cd_254_118, xpk_succ cd_254_120, xpk_succ cd_254_121, xpk_succ cd_254_122, xpk_succ cd_254_125, xpk_succ cd_254_127, xpk_succ cd_254_128, xpk_succ cd_254_129, xpk_succ cd_254_130, xpk_succ cd_254_133, xpk_succ cd_254_134, xpk_succ cd_254_136, xpk_succ cd_254_137, xpk_succ cd_254_138, xpk_succ cd_254_139, xpk_succ cd_254_140, o1, o2, o3, p1, p2, p3, r1, r2, r3, a10, a11, a12, b10, b11, b12, v2, v7, s10, s11, s12]
    exact lp3
  have lp2 : XP (d + 1) 254 69 [some (vR 76), some (vI (x : Int)), some (vI 0)] [] (hA h g) Q := by
    have := kp_2 (d + 1) h g x hx hx2 Q ho mid 10 0 rfl
    rw [cpF_0] at this
    exact this
  have o1 := (AO_A (f := g) ho).1
  have o2 := (AO_A (f := g) ho).2.1
  have o3 := (AO_A (f := g) ho).2.2
  have v5 : hV (hA h g) 77 5 = vI (s : Int) := by rw [hA_V (by decide), h5]
  have a1 : w32 (13 * (s : Int)) = ((13 * s : Nat) : Int) := by unfold w32; omega
  have a2 : w32 (84 + ((13 * s : Nat) : Int)) = (x : Int) := by rw [← hX]; unfold w32; omega
  have ok1 : okSt [some (vR 76), ls, none] 1 = true := okSt_1 (fun z hz => by cases hz) (Nat.zero_lt_succ 1)
  have ok2 : ∀ y : AV, y = vI (x : Int) → okSt [some (vR 76), some y, none] 2 = true := fun y hy => by rw [hy]; rfl
  have ok2 := ok2 _ rfl
  refine xpk_sound (stops := [69]) (n := 24) ?_
  simp only [sk_0, sk_1, sk_2, sk_3, sk_4, sk_5, sk_6, sk_7, sk_8, sk_iadd, sk_isub, sk_imul, sk_iand, sk_ior, sk_ixor, sk_ishl, sk_ishr, sk_iushr, sk_idiv, sk_irem, sk_ineg, sk_ladd, sk_lsub, sk_lmul, sk_land, sk_lor, sk_ldiv, sk_lrem, sk_lneg, sk_lshl, sk_lshr, sk_i2l, sk_l2i, sk_lcmp, sk_dupI, sk_dupR, sk_dup2L, sk_dup2I, sk_popI, sk_ifeq, sk_ifne, sk_iflt, sk_ifge, sk_ifgt, sk_ifle, sk_iceq, sk_icne, sk_iclt, sk_icge, sk_icgt, sk_icle, sk_goto, sk_getf, sk_putf, sk_gets, sk_iald, sk_lald, sk_bald, sk_aald, sk_iast, sk_last, sk_bast, sk_aast, sk_alen, sk_newa, sk_newt, sk_new, sk_cs1, sk_cs2, sk_cs3, sk_cs4, sk_cs5, sk_cs6, sk_cv1, sk_cv2, sk_cv3, sk_cv4, sk_cv5, sk_cv6, sk_ci1, sk_ci2, sk_ci3, sk_ret0, sk_retI, sk_retL, sk_retR, sk_sw, sk_oin, sk_max, sk_min, sk_abs, lI_0, lI_s, lL_0, lL_s, lR_0, lR_s, vIo_e, vLo_e, vOo_e, stW_I, stW_L, stW_R, stW_0, stW_z, okSt_0, okSt_s, hV_eq, hK_eq, okF_0, okF_1, okF_3, is01_0, is01_1, is01_i, Int.toNat_natCast, Int.reduceEq, Int.reduceLE, Int.reduceLT, Int.reduceNeg, Nat.reduceLT, not_true_eq_false, not_false_eq_true, reduceIte, Option.toList, List.cons_append, List.nil_append, List.set_cons_zero, List.set_cons_succ, List.not_mem_nil, List.mem_cons, if_false, if_true, ite_true, ite_false, and_self, and_true, true_and, Nat.reduceAdd, Nat.reduceLeDiff, Nat.reduceEqDiff, Nat.zero_add, Nat.le_refl, Nat.zero_le, or_false, false_or, Int.reduceToNat, or_true, true_or, eq_self, and_false, false_and, inR_d, nc_4, nc_5, nc_6, nc_7, nc_8, nc_16, nc_18, nc_20, nc_24, nc_32, nc_40, nc_64, nc_104, nc_120, nc_160, nc_256, nc_300, nc_330, nc_390, nc_1200, nc_1260, nc_3012, nc_9834, okSt_1i, okSt_1r, okSt_1n, xpk_succ cd_254_54, xpk_succ cd_254_56, xpk_succ cd_254_58, xpk_succ cd_254_59, xpk_succ cd_254_62, xpk_succ cd_254_63, xpk_succ cd_254_64, xpk_succ cd_254_65, xpk_succ cd_254_66, xpk_succ cd_254_67, xpk_succ cd_254_68, o1, o2, o3, v5, a1, a2, ok1, ok2]
  exact lp2
set_option maxHeartbeats 4000000 in
theorem Y_keep (d : Nat) (h : AH) (f : Nat → Int) (s n0 : Nat) (b : Int) (hb : 0 ≤ b ∧ b ≤ 255) (hbn : b < 2 ^ n0) (hf : ∀ o, o < n0 → f (25 + 6 * o) = bitF b o) (ho : AO h) (h5 : f 5 = (s : Int)) (hs : s ≤ 30) (h0 : f 0 = (n0 : Int)) (hn : n0 ≤ 8) (Q : Option AV → AH → Prop) (hQ : ∀ (g : Nat → Int) (s' : Nat), s' < 30 → (s < 30 ∧ g = f ∧ s' = s) ∨ (s = 30 ∧ g = upF (shF f 377) 5 29 ∧ s' = 29) → Q none (hA h (upF (upF (kpF g (84 + 13 * s')) (84 + 13 * s' + 12) b) 5 ((s' + 1 : Nat) : Int)))) : XC (d + 2) 254 [vR 76] (hA h f) Q := by
  refine XC_of (Nat.le_of_ble_eq_true rfl) ?_
  show XP (d + 1) 254 0 [some (vR 76), none, none] [] (hA h f) Q
  have o1 := (AO_A (f := f) ho).1
  have o2 := (AO_A (f := f) ho).2.1
  have o3 := (AO_A (f := f) ho).2.2
  have v5 : hV (hA h f) 77 5 = vI (s : Int) := by rw [hA_V (by decide), h5]
  by_cases z : s = 30
  · have g5 : upF (shF f 377) 5 29 5 = ((29 : Nat) : Int) := upF_at
    have g0 : upF (shF f 377) 5 29 0 = (n0 : Int) := by rw [upF_ne (by decide)]; exact (if_neg (fun y => by omega)).trans h0
    have e54 := kq_4 d h (upF (shF f 377) 5 29) 29 n0 b hb hbn (fun o ho => by rw [upF_ne (by omega)]; exact (if_neg (fun y => by omega)).trans (hf o ho)) (by decide) g5 g0 hn (some (vI 377)) (fun z hz => by cases hz) Q ho (hQ _ 29 (by decide) (Or.inr ⟨z, rfl, rfl⟩))
    have e44 : XP (d + 1) 254 44 [some (vR 76), some (vI 377), none] [] (hA h (shF f 377)) Q := by
      have p1 := (AO_A (f := shF f 377) ho).1
      have p2 := (AO_A (f := shF f 377) ho).2.1
      have p3 := (AO_A (f := shF f 377) ho).2.2
      have u5 : hV (hA h (shF f 377)) 77 5 = vI 30 := by rw [hA_V (by decide)]; exact congrArg vI ((if_neg (fun y => by omega)).trans (by rw [h5, z]; rfl))
      have a1 : w32 (30 - 1) = 29 := by decide
      have s1 : hSet (hA h (shF f 377)) 77 5 (vI 29) = hA h (upF (shF f 377) 5 29) := hA_set (by decide)
      refine xpk_sound (stops := [54]) (n := 14) ?_
      simp only [sk_0, sk_1, sk_2, sk_3, sk_4, sk_5, sk_6, sk_7, sk_8, sk_iadd, sk_isub, sk_imul, sk_iand, sk_ior, sk_ixor, sk_ishl, sk_ishr, sk_iushr, sk_idiv, sk_irem, sk_ineg, sk_ladd, sk_lsub, sk_lmul, sk_land, sk_lor, sk_ldiv, sk_lrem, sk_lneg, sk_lshl, sk_lshr, sk_i2l, sk_l2i, sk_lcmp, sk_dupI, sk_dupR, sk_dup2L, sk_dup2I, sk_popI, sk_ifeq, sk_ifne, sk_iflt, sk_ifge, sk_ifgt, sk_ifle, sk_iceq, sk_icne, sk_iclt, sk_icge, sk_icgt, sk_icle, sk_goto, sk_getf, sk_putf, sk_gets, sk_iald, sk_lald, sk_bald, sk_aald, sk_iast, sk_last, sk_bast, sk_aast, sk_alen, sk_newa, sk_newt, sk_new, sk_cs1, sk_cs2, sk_cs3, sk_cs4, sk_cs5, sk_cs6, sk_cv1, sk_cv2, sk_cv3, sk_cv4, sk_cv5, sk_cv6, sk_ci1, sk_ci2, sk_ci3, sk_ret0, sk_retI, sk_retL, sk_retR, sk_sw, sk_oin, sk_max, sk_min, sk_abs, lI_0, lI_s, lL_0, lL_s, lR_0, lR_s, vIo_e, vLo_e, vOo_e, stW_I, stW_L, stW_R, stW_0, stW_z, okSt_0, okSt_s, hV_eq, hK_eq, okF_0, okF_1, okF_3, is01_0, is01_1, is01_i, Int.toNat_natCast, Int.reduceEq, Int.reduceLE, Int.reduceLT, Int.reduceNeg, Nat.reduceLT, not_true_eq_false, not_false_eq_true, reduceIte, Option.toList, List.cons_append, List.nil_append, List.set_cons_zero, List.set_cons_succ, List.not_mem_nil, List.mem_cons, if_false, if_true, ite_true, ite_false, and_self, and_true, true_and, Nat.reduceAdd, Nat.reduceLeDiff, Nat.reduceEqDiff, Nat.zero_add, Nat.le_refl, Nat.zero_le, or_false, false_or, Int.reduceToNat, or_true, true_or, eq_self, and_false, false_and, inR_d, nc_4, nc_5, nc_6, nc_7, nc_8, nc_16, nc_18, nc_20, nc_24, nc_32, nc_40, nc_64, nc_104, nc_120, nc_160, nc_256, nc_300, nc_330, nc_390, nc_1200, nc_1260, nc_3012, nc_9834, okSt_1i, okSt_1r, okSt_1n, xpk_succ cd_254_44, xpk_succ cd_254_45, xpk_succ cd_254_48, xpk_succ cd_254_49, xpk_succ cd_254_50, xpk_succ cd_254_51, xpk_succ cd_254_52, xpk_succ cd_254_53, p1, p2, p3, u5, a1]
      rw [s1]
      exact e54
    have e13 : XP (d + 1) 254 13 [some (vR 76), some (vI 0), none] [] (hA h f) Q := by
      have := kp_1 (d + 1) h f Q ho e44 377 0 rfl
      rw [shF_0] at this
      exact this
    have hc : ¬ ¬ (s : Int) = 30 := by omega
    refine xpk_sound (stops := [13]) (n := 14) ?_
    simp only [sk_0, sk_1, sk_2, sk_3, sk_4, sk_5, sk_6, sk_7, sk_8, sk_iadd, sk_isub, sk_imul, sk_iand, sk_ior, sk_ixor, sk_ishl, sk_ishr, sk_iushr, sk_idiv, sk_irem, sk_ineg, sk_ladd, sk_lsub, sk_lmul, sk_land, sk_lor, sk_ldiv, sk_lrem, sk_lneg, sk_lshl, sk_lshr, sk_i2l, sk_l2i, sk_lcmp, sk_dupI, sk_dupR, sk_dup2L, sk_dup2I, sk_popI, sk_ifeq, sk_ifne, sk_iflt, sk_ifge, sk_ifgt, sk_ifle, sk_iceq, sk_icne, sk_iclt, sk_icge, sk_icgt, sk_icle, sk_goto, sk_getf, sk_putf, sk_gets, sk_iald, sk_lald, sk_bald, sk_aald, sk_iast, sk_last, sk_bast, sk_aast, sk_alen, sk_newa, sk_newt, sk_new, sk_cs1, sk_cs2, sk_cs3, sk_cs4, sk_cs5, sk_cs6, sk_cv1, sk_cv2, sk_cv3, sk_cv4, sk_cv5, sk_cv6, sk_ci1, sk_ci2, sk_ci3, sk_ret0, sk_retI, sk_retL, sk_retR, sk_sw, sk_oin, sk_max, sk_min, sk_abs, lI_0, lI_s, lL_0, lL_s, lR_0, lR_s, vIo_e, vLo_e, vOo_e, stW_I, stW_L, stW_R, stW_0, stW_z, okSt_0, okSt_s, hV_eq, hK_eq, okF_0, okF_1, okF_3, is01_0, is01_1, is01_i, Int.toNat_natCast, Int.reduceEq, Int.reduceLE, Int.reduceLT, Int.reduceNeg, Nat.reduceLT, not_true_eq_false, not_false_eq_true, reduceIte, Option.toList, List.cons_append, List.nil_append, List.set_cons_zero, List.set_cons_succ, List.not_mem_nil, List.mem_cons, if_false, if_true, ite_true, ite_false, and_self, and_true, true_and, Nat.reduceAdd, Nat.reduceLeDiff, Nat.reduceEqDiff, Nat.zero_add, Nat.le_refl, Nat.zero_le, or_false, false_or, Int.reduceToNat, or_true, true_or, eq_self, and_false, false_and, inR_d, nc_4, nc_5, nc_6, nc_7, nc_8, nc_16, nc_18, nc_20, nc_24, nc_32, nc_40, nc_64, nc_104, nc_120, nc_160, nc_256, nc_300, nc_330, nc_390, nc_1200, nc_1260, nc_3012, nc_9834, okSt_1i, okSt_1r, okSt_1n, xpk_succ cd_254_0, xpk_succ cd_254_1, xpk_succ cd_254_4, xpk_succ cd_254_5, xpk_succ cd_254_6, xpk_succ cd_254_8, xpk_succ cd_254_11, xpk_succ cd_254_12, o1, o2, o3, v5, hc]
    exact e13
  · have e54 := kq_4 d h f s n0 b hb hbn hf (by omega) h5 h0 hn none (fun z hz => by cases hz) Q ho (hQ f s (by omega) (Or.inl ⟨by omega, rfl, rfl⟩))
    have hc : ¬ (s : Int) = 30 := by omega
    refine xpk_sound (stops := [54]) (n := 14) ?_
    simp only [sk_0, sk_1, sk_2, sk_3, sk_4, sk_5, sk_6, sk_7, sk_8, sk_iadd, sk_isub, sk_imul, sk_iand, sk_ior, sk_ixor, sk_ishl, sk_ishr, sk_iushr, sk_idiv, sk_irem, sk_ineg, sk_ladd, sk_lsub, sk_lmul, sk_land, sk_lor, sk_ldiv, sk_lrem, sk_lneg, sk_lshl, sk_lshr, sk_i2l, sk_l2i, sk_lcmp, sk_dupI, sk_dupR, sk_dup2L, sk_dup2I, sk_popI, sk_ifeq, sk_ifne, sk_iflt, sk_ifge, sk_ifgt, sk_ifle, sk_iceq, sk_icne, sk_iclt, sk_icge, sk_icgt, sk_icle, sk_goto, sk_getf, sk_putf, sk_gets, sk_iald, sk_lald, sk_bald, sk_aald, sk_iast, sk_last, sk_bast, sk_aast, sk_alen, sk_newa, sk_newt, sk_new, sk_cs1, sk_cs2, sk_cs3, sk_cs4, sk_cs5, sk_cs6, sk_cv1, sk_cv2, sk_cv3, sk_cv4, sk_cv5, sk_cv6, sk_ci1, sk_ci2, sk_ci3, sk_ret0, sk_retI, sk_retL, sk_retR, sk_sw, sk_oin, sk_max, sk_min, sk_abs, lI_0, lI_s, lL_0, lL_s, lR_0, lR_s, vIo_e, vLo_e, vOo_e, stW_I, stW_L, stW_R, stW_0, stW_z, okSt_0, okSt_s, hV_eq, hK_eq, okF_0, okF_1, okF_3, is01_0, is01_1, is01_i, Int.toNat_natCast, Int.reduceEq, Int.reduceLE, Int.reduceLT, Int.reduceNeg, Nat.reduceLT, not_true_eq_false, not_false_eq_true, reduceIte, Option.toList, List.cons_append, List.nil_append, List.set_cons_zero, List.set_cons_succ, List.not_mem_nil, List.mem_cons, if_false, if_true, ite_true, ite_false, and_self, and_true, true_and, Nat.reduceAdd, Nat.reduceLeDiff, Nat.reduceEqDiff, Nat.zero_add, Nat.le_refl, Nat.zero_le, or_false, false_or, Int.reduceToNat, or_true, true_or, eq_self, and_false, false_and, inR_d, nc_4, nc_5, nc_6, nc_7, nc_8, nc_16, nc_18, nc_20, nc_24, nc_32, nc_40, nc_64, nc_104, nc_120, nc_160, nc_256, nc_300, nc_330, nc_390, nc_1200, nc_1260, nc_3012, nc_9834, okSt_1i, okSt_1r, okSt_1n, xpk_succ cd_254_0, xpk_succ cd_254_1, xpk_succ cd_254_4, xpk_succ cd_254_5, xpk_succ cd_254_6, xpk_succ cd_254_8, xpk_succ cd_254_11, xpk_succ cd_254_12, o1, o2, o3, v5, hc]
    exact e54
def BTx (b : Int) (g f : Nat → Int) (n : Nat) : Prop := (∀ i, (∀ o, o < n → i ≠ 25 + 6 * o) → f i = g i) ∧ ∀ o, o < n → f (25 + 6 * o) = bitF b o
theorem BTx_s {b : Int} {g f : Nat → Int} {n : Nat} (h : BTx b g f n) : BTx b g (upF f (25 + 6 * n) (bitF b n)) (n + 1) := by
  refine ⟨fun i hi => ?_, fun o ho => ?_⟩
  · rw [upF_ne (hi n (by omega))]; exact h.1 i (fun o ho => hi o (by omega))
  · by_cases z : o = n
    · subst z; exact upF_at
    · rw [upF_ne (by omega)]; exact h.2 o (by omega)
set_option maxHeartbeats 4000000 in
theorem uq_2 (d : Nat) (h : AH) (g : Nat → Int) (x n0 : Nat) (hx : 84 ≤ x) (hx2 : x + 12 < 474) (h0 : g 0 = (n0 : Int)) (hn : n0 ≤ 8) (Q : Option AV → AH → Prop) (ho : AO h) (hend : ∀ f, BTx (g (x + 12)) g f n0 → XP d 255 141 [some (vR 76), some (vI (x : Int)), some (vI (n0 : Int))] [] (hA h f) Q) : ∀ (j o : Nat) (f : Nat → Int), o + j = n0 → BTx (g (x + 12)) g f o → XP d 255 98 [some (vR 76), some (vI (x : Int)), some (vI (o : Int))] [] (hA h f) Q := by
  intro j
  induction j with
  | zero =>
    intro o f hk hB
    obtain rfl : o = n0 := by omega
    have o1 := (AO_A (f := f) ho).1
    have o2 := (AO_A (f := f) ho).2.1
    have o3 := (AO_A (f := f) ho).2.2
    have v0 : hV (hA h f) 77 0 = vI (o : Int) := by rw [hA_V (by decide), hB.1 0 (fun o _ => by omega), h0]
    have he := hend f hB
    refine xpk_sound (stops := [141]) (n := 9) ?_
    simp only [sk_0, sk_1, sk_2, sk_3, sk_4, sk_5, sk_6, sk_7, sk_8, sk_iadd, sk_isub, sk_imul, sk_iand, sk_ior, sk_ixor, sk_ishl, sk_ishr, sk_iushr, sk_idiv, sk_irem, sk_ineg, sk_ladd, sk_lsub, sk_lmul, sk_land, sk_lor, sk_ldiv, sk_lrem, sk_lneg, sk_lshl, sk_lshr, sk_i2l, sk_l2i, sk_lcmp, sk_dupI, sk_dupR, sk_dup2L, sk_dup2I, sk_popI, sk_ifeq, sk_ifne, sk_iflt, sk_ifge, sk_ifgt, sk_ifle, sk_iceq, sk_icne, sk_iclt, sk_icge, sk_icgt, sk_icle, sk_goto, sk_getf, sk_putf, sk_gets, sk_iald, sk_lald, sk_bald, sk_aald, sk_iast, sk_last, sk_bast, sk_aast, sk_alen, sk_newa, sk_newt, sk_new, sk_cs1, sk_cs2, sk_cs3, sk_cs4, sk_cs5, sk_cs6, sk_cv1, sk_cv2, sk_cv3, sk_cv4, sk_cv5, sk_cv6, sk_ci1, sk_ci2, sk_ci3, sk_ret0, sk_retI, sk_retL, sk_retR, sk_sw, sk_oin, sk_max, sk_min, sk_abs, lI_0, lI_s, lL_0, lL_s, lR_0, lR_s, vIo_e, vLo_e, vOo_e, stW_I, stW_L, stW_R, stW_0, stW_z, okSt_0, okSt_s, hV_eq, hK_eq, okF_0, okF_1, okF_3, is01_0, is01_1, is01_i, Int.toNat_natCast, Int.reduceEq, Int.reduceLE, Int.reduceLT, Int.reduceNeg, Nat.reduceLT, not_true_eq_false, not_false_eq_true, reduceIte, Option.toList, List.cons_append, List.nil_append, List.set_cons_zero, List.set_cons_succ, List.not_mem_nil, List.mem_cons, if_false, if_true, ite_true, ite_false, and_self, and_true, true_and, Nat.reduceAdd, Nat.reduceLeDiff, Nat.reduceEqDiff, Nat.zero_add, Nat.le_refl, Nat.zero_le, or_false, false_or, Int.reduceToNat, or_true, true_or, eq_self, and_false, false_and, inR_d, nc_4, nc_5, nc_6, nc_7, nc_8, nc_16, nc_18, nc_20, nc_24, nc_32, nc_40, nc_64, nc_104, nc_120, nc_160, nc_256, nc_300, nc_330, nc_390, nc_1200, nc_1260, nc_3012, nc_9834, okSt_1i, okSt_1r, okSt_1n, xpk_succ cd_255_98, xpk_succ cd_255_99, xpk_succ cd_255_100, xpk_succ cd_255_103, xpk_succ cd_255_104, xpk_succ cd_255_105, o1, o2, o3, v0, Int.le_refl]
    exact he
  | succ j ih =>
    intro o f hk hB
    have o8 : o < 8 := by omega
    have hk1 : o + 1 + j = n0 := by omega
    have o1 := (AO_A (f := f) ho).1
    have o2 := (AO_A (f := f) ho).2.1
    have o3 := (AO_A (f := f) ho).2.2
    have v0 : hV (hA h f) 77 0 = vI (n0 : Int) := by rw [hA_V (by decide), hB.1 0 (fun o _ => by omega), h0]
    have hc : ¬ (n0 : Int) ≤ (o : Int) := by omega
    have a0 : w32 (6 * (o : Int)) = ((6 * o : Nat) : Int) := by unfold w32; omega
    have a1 : w32 (20 + ((6 * o : Nat) : Int)) = ((20 + 6 * o : Nat) : Int) := by unfold w32; omega
    have a2 : w32 (((20 + 6 * o : Nat) : Int) + 5) = ((25 + 6 * o : Nat) : Int) := by unfold w32; omega
    have a3 : w32 ((o : Int) + 1) = ((o + 1 : Nat) : Int) := by unfold w32; omega
    have a4 : w32 ((x : Int) + 12) = ((x + 12 : Nat) : Int) := by unfold w32; omega
    have b1 : (0 : Int) ≤ ((x + 12 : Nat) : Int) ∧ ((x + 12 : Nat) : Int) < 9834 := by omega
    have b2 : (0 : Int) ≤ ((25 + 6 * o : Nat) : Int) ∧ ((25 + 6 * o : Nat) : Int) < 9834 := by omega
    have v1 : hV (hA h f) 77 (x + 12) = vI (g (x + 12)) := (hA_V (by omega)).trans (congrArg vI (hB.1 (x + 12) (fun o _ => by omega)))
    have s1 : ∀ z : Int, hSet (hA h f) 77 (25 + 6 * o) (vI z) = hA h (upF f (25 + 6 * o) z) := fun z => hA_set (by omega)
    refine xpk_sound (stops := [98]) (n := 40) ?_
    simp only [sk_0, sk_1, sk_2, sk_3, sk_4, sk_5, sk_6, sk_7, sk_8, sk_iadd, sk_isub, sk_imul, sk_iand, sk_ior, sk_ixor, sk_ishl, sk_ishr, sk_iushr, sk_idiv, sk_irem, sk_ineg, sk_ladd, sk_lsub, sk_lmul, sk_land, sk_lor, sk_ldiv, sk_lrem, sk_lneg, sk_lshl, sk_lshr, sk_i2l, sk_l2i, sk_lcmp, sk_dupI, sk_dupR, sk_dup2L, sk_dup2I, sk_popI, sk_ifeq, sk_ifne, sk_iflt, sk_ifge, sk_ifgt, sk_ifle, sk_iceq, sk_icne, sk_iclt, sk_icge, sk_icgt, sk_icle, sk_goto, sk_getf, sk_putf, sk_gets, sk_iald, sk_lald, sk_bald, sk_aald, sk_iast, sk_last, sk_bast, sk_aast, sk_alen, sk_newa, sk_newt, sk_new, sk_cs1, sk_cs2, sk_cs3, sk_cs4, sk_cs5, sk_cs6, sk_cv1, sk_cv2, sk_cv3, sk_cv4, sk_cv5, sk_cv6, sk_ci1, sk_ci2, sk_ci3, sk_ret0, sk_retI, sk_retL, sk_retR, sk_sw, sk_oin, sk_max, sk_min, sk_abs, lI_0, lI_s, lL_0, lL_s, lR_0, lR_s, vIo_e, vLo_e, vOo_e, stW_I, stW_L, stW_R, stW_0, stW_z, okSt_0, okSt_s, hV_eq, hK_eq, okF_0, okF_1, okF_3, is01_0, is01_1, is01_i, Int.toNat_natCast, Int.reduceEq, Int.reduceLE, Int.reduceLT, Int.reduceNeg, Nat.reduceLT, not_true_eq_false, not_false_eq_true, reduceIte, Option.toList, List.cons_append, List.nil_append, List.set_cons_zero, List.set_cons_succ, List.not_mem_nil, List.mem_cons, if_false, if_true, ite_true, ite_false, and_self, and_true, true_and, Nat.reduceAdd, Nat.reduceLeDiff, Nat.reduceEqDiff, Nat.zero_add, Nat.le_refl, Nat.zero_le, or_false, false_or, Int.reduceToNat, or_true, true_or, eq_self, and_false, false_and, inR_d, nc_4, nc_5, nc_6, nc_7, nc_8, nc_16, nc_18, nc_20, nc_24, nc_32, nc_40, nc_64, nc_104, nc_120, nc_160, nc_256, nc_300, nc_330, nc_390, nc_1200, nc_1260, nc_3012, nc_9834, okSt_1i, okSt_1r, okSt_1n, xpk_succ cd_255_98, xpk_succ cd_255_99, xpk_succ cd_255_100, xpk_succ cd_255_103, xpk_succ cd_255_104, xpk_succ cd_255_105, xpk_succ cd_255_108, xpk_succ cd_255_109, xpk_succ cd_255_112, xpk_succ cd_255_114, xpk_succ cd_255_116, xpk_succ cd_255_117, xpk_succ cd_255_118, xpk_succ cd_255_119, xpk_succ cd_255_120, xpk_succ cd_255_121, xpk_succ cd_255_122, xpk_succ cd_255_125, xpk_succ cd_255_126, xpk_succ cd_255_128, xpk_succ cd_255_129, xpk_succ cd_255_130, xpk_succ cd_255_131, xpk_succ cd_255_132, xpk_succ cd_255_133, xpk_succ cd_255_134, xpk_succ cd_255_135, xpk_succ cd_255_138, hc, o1, o2, o3, v0, a0, a1, a2, a3, a4, b1, b2, v1]
    rw [s1]
    have q := ih (o + 1) _ hk1 (BTx_s hB)
    unfold bitF at q
    rw [bit_sh o8, iand1]
    exact q
/-- the row below s is taken back, its flags too -/
def UNx (b : Int) (f f' : Nat → Int) (s n0 : Nat) : Prop := f' 5 = (s : Int) ∧ (∀ k, k < 10 → f' (8 + k) = f (84 + 13 * s + k)) ∧ f' 2 = f (84 + 13 * s + 10) ∧ f' 7 = f (84 + 13 * s + 11) ∧ (∀ o, o < n0 → f' (25 + 6 * o) = bitF b o) ∧ ∀ i, i ≠ 5 → i ≠ 2 → i ≠ 7 → (i < 8 ∨ 18 ≤ i) → (∀ o, o < n0 → i ≠ 25 + 6 * o) → f' i = f i
set_option maxHeartbeats 4000000 in
theorem Y_undo (d : Nat) (h : AH) (f : Nat → Int) (s n0 : Nat) (b : Int) (hb12 : f (84 + 13 * s + 12) = b) (ho : AO h) (h5 : f 5 = ((s + 1 : Nat) : Int)) (hs : s < 30) (h0 : f 0 = (n0 : Int)) (hn : n0 ≤ 8) (Q : Option AV → AH → Prop) (hQ : ∀ f', UNx b f f' s n0 → Q (some (vI (s : Int))) (hA h f')) : XC (d + 1) 255 [vR 76] (hA h f) Q := by
  refine XC_of (Nat.le_of_ble_eq_true rfl) ?_
  show XP d 255 0 [some (vR 76), none, none] [] (hA h f) Q
  have hx : 84 ≤ 84 + 13 * s := by omega
  have hx2 : 84 + 13 * s + 12 < 474 := by omega
  generalize hX : 84 + 13 * s = x at hx hx2 hb12
  -- the last steps
  have fin : ∀ f', BTx b (upF (upF (udF (upF f 5 (s : Int)) x 10) 2 (f (x + 10))) 7 (f (x + 11))) f' n0 → XP d 255 141 [some (vR 76), some (vI (x : Int)), some (vI (n0 : Int))] [] (hA h f') Q := fun f' hB => by
    have o1 := (AO_A (f := f') ho).1
    have o2 := (AO_A (f := f') ho).2.1
    have o3 := (AO_A (f := f') ho).2.2
    have e5 : f' 5 = (s : Int) := by
      rw [hB.1 5 (fun o _ => by omega), upF_ne (by decide), upF_ne (by decide)]
      have : udF (upF f 5 (s : Int)) x 10 5 = upF f 5 (s : Int) 5 := if_neg (fun z => by omega)
      rw [this, upF_at]
    have v5 : hV (hA h f') 77 5 = vI (s : Int) := by rw [hA_V (by decide), e5]
    have he := hQ f' (by
      rw [← hX] at hB
      refine ⟨e5, fun k hk => ?_, ?_, ?_, hB.2, fun i h1 h2 h3 h4 h6 => ?_⟩
      · rw [hB.1 (8 + k) (fun o _ => by omega), upF_ne (by omega), upF_ne (by omega)]
        have : udF (upF f 5 (s : Int)) (84 + 13 * s) 10 (8 + k) = upF f 5 (s : Int) (84 + 13 * s + (8 + k - 8)) := if_pos (by omega)
        rw [this, upF_ne (by omega)]
        congr 1; omega
      · rw [hB.1 2 (fun o _ => by omega), upF_ne (by decide), upF_at]
      · rw [hB.1 7 (fun o _ => by omega), upF_at]
      · rw [hB.1 i h6, upF_ne h3, upF_ne h2]
        have : udF (upF f 5 (s : Int)) (84 + 13 * s) 10 i = upF f 5 (s : Int) i := if_neg (fun z => by omega)
        rw [this, upF_ne h1])
    refine xpk_sound (stops := []) (n := 9) ?_
    simp only [sk_0, sk_1, sk_2, sk_3, sk_4, sk_5, sk_6, sk_7, sk_8, sk_iadd, sk_isub, sk_imul, sk_iand, sk_ior, sk_ixor, sk_ishl, sk_ishr, sk_iushr, sk_idiv, sk_irem, sk_ineg, sk_ladd, sk_lsub, sk_lmul, sk_land, sk_lor, sk_ldiv, sk_lrem, sk_lneg, sk_lshl, sk_lshr, sk_i2l, sk_l2i, sk_lcmp, sk_dupI, sk_dupR, sk_dup2L, sk_dup2I, sk_popI, sk_ifeq, sk_ifne, sk_iflt, sk_ifge, sk_ifgt, sk_ifle, sk_iceq, sk_icne, sk_iclt, sk_icge, sk_icgt, sk_icle, sk_goto, sk_getf, sk_putf, sk_gets, sk_iald, sk_lald, sk_bald, sk_aald, sk_iast, sk_last, sk_bast, sk_aast, sk_alen, sk_newa, sk_newt, sk_new, sk_cs1, sk_cs2, sk_cs3, sk_cs4, sk_cs5, sk_cs6, sk_cv1, sk_cv2, sk_cv3, sk_cv4, sk_cv5, sk_cv6, sk_ci1, sk_ci2, sk_ci3, sk_ret0, sk_retI, sk_retL, sk_retR, sk_sw, sk_oin, sk_max, sk_min, sk_abs, lI_0, lI_s, lL_0, lL_s, lR_0, lR_s, vIo_e, vLo_e, vOo_e, stW_I, stW_L, stW_R, stW_0, stW_z, okSt_0, okSt_s, hV_eq, hK_eq, okF_0, okF_1, okF_3, is01_0, is01_1, is01_i, Int.toNat_natCast, Int.reduceEq, Int.reduceLE, Int.reduceLT, Int.reduceNeg, Nat.reduceLT, not_true_eq_false, not_false_eq_true, reduceIte, Option.toList, List.cons_append, List.nil_append, List.set_cons_zero, List.set_cons_succ, List.not_mem_nil, List.mem_cons, if_false, if_true, ite_true, ite_false, and_self, and_true, true_and, Nat.reduceAdd, Nat.reduceLeDiff, Nat.reduceEqDiff, Nat.zero_add, Nat.le_refl, Nat.zero_le, or_false, false_or, Int.reduceToNat, or_true, true_or, eq_self, and_false, false_and, inR_d, nc_4, nc_5, nc_6, nc_7, nc_8, nc_16, nc_18, nc_20, nc_24, nc_32, nc_40, nc_64, nc_104, nc_120, nc_160, nc_256, nc_300, nc_330, nc_390, nc_1200, nc_1260, nc_3012, nc_9834, okSt_1i, okSt_1r, okSt_1n, xpk_succ cd_255_141, xpk_succ cd_255_142, xpk_succ cd_255_145, xpk_succ cd_255_146, xpk_succ cd_255_147, o1, o2, o3, v5]
    exact he
  have gb : (upF (upF (udF (upF f 5 (s : Int)) x 10) 2 (f (x + 10))) 7 (f (x + 11))) (x + 12) = b := by
    rw [upF_ne (by omega), upF_ne (by omega)]
    have : udF (upF f 5 (s : Int)) x 10 (x + 12) = upF f 5 (s : Int) (x + 12) := if_neg (fun z => by omega)
    rw [this, upF_ne (by omega), hb12]
  have fin2 : ∀ f', BTx ((upF (upF (udF (upF f 5 (s : Int)) x 10) 2 (f (x + 10))) 7 (f (x + 11))) (x + 12)) (upF (upF (udF (upF f 5 (s : Int)) x 10) 2 (f (x + 10))) 7 (f (x + 11))) f' n0 → XP d 255 141 [some (vR 76), some (vI (x : Int)), some (vI (n0 : Int))] [] (hA h f') Q := fun f' hB => fin f' (by rw [gb] at hB; exact hB)
  have lp2 := uq_2 d h (upF (upF (udF (upF f 5 (s : Int)) x 10) 2 (f (x + 10))) 7 (f (x + 11))) x n0 hx hx2 (by
    rw [upF_ne (by decide), upF_ne (by decide)]
    have : udF (upF f 5 (s : Int)) x 10 0 = upF f 5 (s : Int) 0 := if_neg (fun z => by omega)
    rw [this, upF_ne (by decide), h0]) hn Q ho fin2 n0 0 _ (by omega) ⟨fun i _ => rfl, fun o z => by omega⟩
  have lp2 : XP d 255 98 [some (vR 76), some (vI (x : Int)), some (vI 0)] [] (hA h (upF (upF (udF (upF f 5 (s : Int)) x 10) 2 (f (x + 10))) 7 (f (x + 11)))) Q := lp2
  have mid : XP d 255 65 [some (vR 76), some (vI (x : Int)), some (vI 10)] [] (hA h (udF (upF f 5 (s : Int)) x 10)) Q := by
    have o1 := (AO_A (f := udF (upF f 5 (s : Int)) x 10) ho).1
    have o2 := (AO_A (f := udF (upF f 5 (s : Int)) x 10) ho).2.1
    have o3 := (AO_A (f := udF (upF f 5 (s : Int)) x 10) ho).2.2
    have p1 := (AO_A (f := upF (udF (upF f 5 (s : Int)) x 10) 2 (f (x + 10))) ho).1
    have p2 := (AO_A (f := upF (udF (upF f 5 (s : Int)) x 10) 2 (f (x + 10))) ho).2.1
    have p3 := (AO_A (f := upF (udF (upF f 5 (s : Int)) x 10) 2 (f (x + 10))) ho).2.2
    have a10 : w32 ((x : Int) + 10) = ((x + 10 : Nat) : Int) := by unfold w32; omega
    have a11 : w32 ((x : Int) + 11) = ((x + 11 : Nat) : Int) := by unfold w32; omega
    have b10 : (0 : Int) ≤ ((x + 10 : Nat) : Int) ∧ ((x + 10 : Nat) : Int) < 9834 := by omega
    have b11 : (0 : Int) ≤ ((x + 11 : Nat) : Int) ∧ ((x + 11 : Nat) : Int) < 9834 := by omega
    have u : ∀ i, 84 ≤ i → udF (upF f 5 (s : Int)) x 10 i = f i := fun i hi => by
      have : udF (upF f 5 (s : Int)) x 10 i = upF f 5 (s : Int) i := if_neg (fun z => by omega)
      rw [this, upF_ne (by omega)]
    have v10 : hV (hA h (udF (upF f 5 (s : Int)) x 10)) 77 (x + 10) = vI (f (x + 10)) := by rw [hA_V (by omega), u _ (by omega)]
    have v11 : hV (hA h (upF (udF (upF f 5 (s : Int)) x 10) 2 (f (x + 10)))) 77 (x + 11) = vI (f (x + 11)) := by rw [hA_V (by omega), upF_ne (by omega), u _ (by omega)]
    have s2 : hSet (hA h (udF (upF f 5 (s : Int)) x 10)) 77 2 (vI (f (x + 10))) = hA h (upF (udF (upF f 5 (s : Int)) x 10) 2 (f (x + 10))) := hA_set (by decide)
    have s7 : hSet (hA h (upF (udF (upF f 5 (s : Int)) x 10) 2 (f (x + 10)))) 77 7 (vI (f (x + 11))) = hA h (upF (upF (udF (upF f 5 (s : Int)) x 10) 2 (f (x + 10))) 7 (f (x + 11))) := hA_set (by decide)
    refine xpk_sound (stops := [98]) (n := 50) ?_
    simp only [sk_0, sk_1, sk_2, sk_3, sk_4, sk_5, sk_6, sk_7, sk_8, sk_iadd, sk_isub, sk_imul, sk_iand, sk_ior, sk_ixor, sk_ishl, sk_ishr, sk_iushr, sk_idiv, sk_irem, sk_ineg, sk_ladd, sk_lsub, sk_lmul, sk_land, sk_lor, sk_ldiv, sk_lrem, sk_lneg, sk_lshl, sk_lshr, sk_i2l, sk_l2i, sk_lcmp, sk_dupI, sk_dupR, sk_dup2L, sk_dup2I, sk_popI, sk_ifeq, sk_ifne, sk_iflt, sk_ifge, sk_ifgt, sk_ifle, sk_iceq, sk_icne, sk_iclt, sk_icge, sk_icgt, sk_icle, sk_goto, sk_getf, sk_putf, sk_gets, sk_iald, sk_lald, sk_bald, sk_aald, sk_iast, sk_last, sk_bast, sk_aast, sk_alen, sk_newa, sk_newt, sk_new, sk_cs1, sk_cs2, sk_cs3, sk_cs4, sk_cs5, sk_cs6, sk_cv1, sk_cv2, sk_cv3, sk_cv4, sk_cv5, sk_cv6, sk_ci1, sk_ci2, sk_ci3, sk_ret0, sk_retI, sk_retL, sk_retR, sk_sw, sk_oin, sk_max, sk_min, sk_abs, lI_0, lI_s, lL_0, lL_s, lR_0, lR_s, vIo_e, vLo_e, vOo_e, stW_I, stW_L, stW_R, stW_0, stW_z, okSt_0, okSt_s, hV_eq, hK_eq, okF_0, okF_1, okF_3, is01_0, is01_1, is01_i, Int.toNat_natCast, Int.reduceEq, Int.reduceLE, Int.reduceLT, Int.reduceNeg, Nat.reduceLT, not_true_eq_false, not_false_eq_true, reduceIte, Option.toList, List.cons_append, List.nil_append, List.set_cons_zero, List.set_cons_succ, List.not_mem_nil, List.mem_cons, if_false, if_true, ite_true, ite_false, and_self, and_true, true_and, Nat.reduceAdd, Nat.reduceLeDiff, Nat.reduceEqDiff, Nat.zero_add, Nat.le_refl, Nat.zero_le, or_false, false_or, Int.reduceToNat, or_true, true_or, eq_self, and_false, false_and, inR_d, nc_4, nc_5, nc_6, nc_7, nc_8, nc_16, nc_18, nc_20, nc_24, nc_32, nc_40, nc_64, nc_104, nc_120, nc_160, nc_256, nc_300, nc_330, nc_390, nc_1200, nc_1260, nc_3012, nc_9834, okSt_1i, okSt_1r, okSt_1n, xpk_succ cd_255_65, xpk_succ cd_255_66, xpk_succ cd_255_69, xpk_succ cd_255_70, xpk_succ cd_255_71, xpk_succ cd_255_74, xpk_succ cd_255_75, xpk_succ cd_255_77, xpk_succ cd_255_78, xpk_succ cd_255_79, xpk_succ cd_255_80, xpk_succ cd_255_81, xpk_succ cd_255_84, xpk_succ cd_255_86, xpk_succ cd_255_87, xpk_succ cd_255_90, xpk_succ cd_255_91, xpk_succ cd_255_93, xpk_succ cd_255_94, xpk_succ cd_255_95, xpk_succ cd_255_96, xpk_succ cd_255_97, o1, o2, o3, p1, p2, p3, a10, a11, b10, b11, v10, v11, s2, s7]
    exact lp2
  have lp1 : XP d 255 36 [some (vR 76), some (vI (x : Int)), some (vI 0)] [] (hA h (upF f 5 (s : Int))) Q := by
    have := un_1 d h (upF f 5 (s : Int)) x hx hx2 Q ho mid 10 0 rfl
    rw [udF_0] at this
    exact this
  have o1 := (AO_A (f := f) ho).1
  have o2 := (AO_A (f := f) ho).2.1
  have o3 := (AO_A (f := f) ho).2.2
  have p1 := (AO_A (f := upF f 5 (s : Int)) ho).1
  have p2 := (AO_A (f := upF f 5 (s : Int)) ho).2.1
  have p3 := (AO_A (f := upF f 5 (s : Int)) ho).2.2
  have v5 : hV (hA h f) 77 5 = vI ((s + 1 : Nat) : Int) := by rw [hA_V (by decide), h5]
  have u5 : hV (hA h (upF f 5 (s : Int))) 77 5 = vI (s : Int) := by rw [hA_V (by decide), upF_at]
  have hc : ¬ ((s + 1 : Nat) : Int) = 0 := by omega
  have a0 : w32 (((s + 1 : Nat) : Int) - 1) = (s : Int) := by unfold w32; omega
  have a1 : w32 (13 * (s : Int)) = ((13 * s : Nat) : Int) := by unfold w32; omega
  have a2 : w32 (84 + ((13 * s : Nat) : Int)) = (x : Int) := by rw [← hX]; unfold w32; omega
  have s5 : hSet (hA h f) 77 5 (vI (s : Int)) = hA h (upF f 5 (s : Int)) := hA_set (by decide)
  refine xpk_sound (stops := [36]) (n := 50) ?_
  simp only [sk_0, sk_1, sk_2, sk_3, sk_4, sk_5, sk_6, sk_7, sk_8, sk_iadd, sk_isub, sk_imul, sk_iand, sk_ior, sk_ixor, sk_ishl, sk_ishr, sk_iushr, sk_idiv, sk_irem, sk_ineg, sk_ladd, sk_lsub, sk_lmul, sk_land, sk_lor, sk_ldiv, sk_lrem, sk_lneg, sk_lshl, sk_lshr, sk_i2l, sk_l2i, sk_lcmp, sk_dupI, sk_dupR, sk_dup2L, sk_dup2I, sk_popI, sk_ifeq, sk_ifne, sk_iflt, sk_ifge, sk_ifgt, sk_ifle, sk_iceq, sk_icne, sk_iclt, sk_icge, sk_icgt, sk_icle, sk_goto, sk_getf, sk_putf, sk_gets, sk_iald, sk_lald, sk_bald, sk_aald, sk_iast, sk_last, sk_bast, sk_aast, sk_alen, sk_newa, sk_newt, sk_new, sk_cs1, sk_cs2, sk_cs3, sk_cs4, sk_cs5, sk_cs6, sk_cv1, sk_cv2, sk_cv3, sk_cv4, sk_cv5, sk_cv6, sk_ci1, sk_ci2, sk_ci3, sk_ret0, sk_retI, sk_retL, sk_retR, sk_sw, sk_oin, sk_max, sk_min, sk_abs, lI_0, lI_s, lL_0, lL_s, lR_0, lR_s, vIo_e, vLo_e, vOo_e, stW_I, stW_L, stW_R, stW_0, stW_z, okSt_0, okSt_s, hV_eq, hK_eq, okF_0, okF_1, okF_3, is01_0, is01_1, is01_i, Int.toNat_natCast, Int.reduceEq, Int.reduceLE, Int.reduceLT, Int.reduceNeg, Nat.reduceLT, not_true_eq_false, not_false_eq_true, reduceIte, Option.toList, List.cons_append, List.nil_append, List.set_cons_zero, List.set_cons_succ, List.not_mem_nil, List.mem_cons, if_false, if_true, ite_true, ite_false, and_self, and_true, true_and, Nat.reduceAdd, Nat.reduceLeDiff, Nat.reduceEqDiff, Nat.zero_add, Nat.le_refl, Nat.zero_le, or_false, false_or, Int.reduceToNat, or_true, true_or, eq_self, and_false, false_and, inR_d, nc_4, nc_5, nc_6, nc_7, nc_8, nc_16, nc_18, nc_20, nc_24, nc_32, nc_40, nc_64, nc_104, nc_120, nc_160, nc_256, nc_300, nc_330, nc_390, nc_1200, nc_1260, nc_3012, nc_9834, okSt_1i, okSt_1r, okSt_1n, xpk_succ cd_255_0, xpk_succ cd_255_1, xpk_succ cd_255_4, xpk_succ cd_255_5, xpk_succ cd_255_6, xpk_succ cd_255_9, xpk_succ cd_255_10, xpk_succ cd_255_11, xpk_succ cd_255_12, xpk_succ cd_255_15, xpk_succ cd_255_16, xpk_succ cd_255_17, xpk_succ cd_255_18, xpk_succ cd_255_19, xpk_succ cd_255_20, xpk_succ cd_255_21, xpk_succ cd_255_23, xpk_succ cd_255_25, xpk_succ cd_255_26, xpk_succ cd_255_29, xpk_succ cd_255_30, xpk_succ cd_255_31, xpk_succ cd_255_32, xpk_succ cd_255_33, xpk_succ cd_255_34, xpk_succ cd_255_35, o1, o2, o3, p1, p2, p3, v5, u5, hc, a0, a1, a2, s5]
  exact lp1
