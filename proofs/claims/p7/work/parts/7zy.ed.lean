/-! near, by, feed, end: the relation -/
set_option maxRecDepth 20000 in
theorem ac_119 : allC[119]? = some cl119 := rfl
theorem cd_119_0 : cd 119 0 = some (2, 1, 1, 0, 0, []) := cd_row ac_119 rfl
theorem cd_119_1 : cd 119 1 = some (0, 2, 0, 0, 0, []) := cd_row ac_119 rfl
theorem cd_119_2 : cd 119 2 = some (0, 4, 0, 0, 99, []) := cd_row ac_119 rfl
theorem cd_119_4 : cd 119 4 = some (38, 7, 177, 3, 0, []) := cd_row ac_119 rfl
theorem cd_119_7 : cd 119 7 = some (20, 10, 12, 1, 0, []) := cd_row ac_119 rfl
theorem cd_119_10 : cd 119 10 = some (0, 11, 0, 0, 0, []) := cd_row ac_119 rfl
theorem cd_119_11 : cd 119 11 = some (40, 12, 1, 0, 0, []) := cd_row ac_119 rfl
theorem cd_119_12 : cd 119 12 = some (4, 13, 0, 0, 0, []) := cd_row ac_119 rfl
theorem cd_119_13 : cd 119 13 = some (23, 16, 9, 0, 0, []) := cd_row ac_119 rfl
theorem cd_119_16 : cd 119 16 = some (2, 17, 1, 0, 0, []) := cd_row ac_119 rfl
theorem cd_119_17 : cd 119 17 = some (24, 20, 8, 1, 0, []) := cd_row ac_119 rfl
theorem cd_119_20 : cd 119 20 = some (0, 21, 0, 0, 1, []) := cd_row ac_119 rfl
theorem cd_119_21 : cd 119 21 = some (40, 22, 1, 0, 0, []) := cd_row ac_119 rfl
set_option maxHeartbeats 2000000 in
theorem X_neC {d : Nat} {h : AH} {v : Int} (hJ : k_H JB h) (Q : Option AV → AH → Prop) : XC (d + 2) 119 [vR 0, vI v] h Q = Q (some (vI (if 0 ≤ v ∧ v ≤ 99 then 1 else 0))) (if 0 ≤ v ∧ v ≤ 99 then hSet h 1 1 (vI v) else h) := by
  refine XC_eq (Nat.le_of_ble_eq_true rfl) ?_ Q
  show XP (d + 1) 119 0 [some (vR 0), some (vI v)] [] h _
  by_cases z : 0 ≤ v ∧ v ≤ 99
  · have wn : ∀ Q : Option AV → AH → Prop, XC (d + 1) 177 [vI v, vI 0, vI 99] h Q = Q (some (vI 1)) h := fun Q => by rw [X_wn, if_pos z]
    rw [if_pos z, if_pos z]
    refine xpk_sound (stops := []) (n := 30) ?_
    simp only [sk_0, sk_1, sk_2, sk_3, sk_4, sk_5, sk_6, sk_7, sk_8, sk_iadd, sk_isub, sk_imul, sk_iand, sk_ior, sk_ixor, sk_ishl, sk_ishr, sk_iushr, sk_idiv, sk_irem, sk_ineg, sk_ladd, sk_lsub, sk_lmul, sk_land, sk_lor, sk_ldiv, sk_lrem, sk_lneg, sk_lshl, sk_lshr, sk_i2l, sk_l2i, sk_lcmp, sk_dupI, sk_dupR, sk_dup2L, sk_dup2I, sk_popI, sk_ifeq, sk_ifne, sk_iflt, sk_ifge, sk_ifgt, sk_ifle, sk_iceq, sk_icne, sk_iclt, sk_icge, sk_icgt, sk_icle, sk_goto, sk_getf, sk_putf, sk_gets, sk_iald, sk_lald, sk_bald, sk_aald, sk_iast, sk_last, sk_bast, sk_aast, sk_alen, sk_newa, sk_newt, sk_new, sk_cs1, sk_cs2, sk_cs3, sk_cs4, sk_cs5, sk_cs6, sk_cv1, sk_cv2, sk_cv3, sk_cv4, sk_cv5, sk_cv6, sk_ci1, sk_ci2, sk_ci3, sk_ret0, sk_retI, sk_retL, sk_retR, sk_sw, sk_oin, sk_max, sk_min, sk_abs, lI_0, lI_s, lL_0, lL_s, lR_0, lR_s, vIo_e, vLo_e, vOo_e, stW_I, stW_L, stW_R, stW_0, stW_z, okSt_0, okSt_s, hV_eq, hK_eq, okF_0, okF_1, okF_3, is01_0, is01_1, is01_i, Int.toNat_natCast, Int.reduceEq, Int.reduceLE, Int.reduceLT, Int.reduceNeg, Nat.reduceLT, not_true_eq_false, not_false_eq_true, reduceIte, Option.toList, List.cons_append, List.nil_append, List.set_cons_zero, List.set_cons_succ, List.not_mem_nil, List.mem_cons, if_false, if_true, ite_true, ite_false, and_self, and_true, true_and, Nat.reduceAdd, Nat.reduceLeDiff, Nat.reduceEqDiff, Nat.zero_add, Nat.le_refl, Nat.zero_le, or_false, false_or, Int.reduceToNat, or_true, true_or, eq_self, and_false, false_and, inR_d, nc_4, nc_5, nc_6, nc_7, nc_8, nc_16, nc_18, nc_20, nc_24, nc_32, nc_40, nc_64, nc_104, nc_120, nc_160, nc_256, nc_300, nc_330, nc_390, nc_1200, nc_1260, nc_3012, nc_9834, okSt_1i, okSt_1r, okSt_1n, List.length_cons, List.length_nil, xpk_succ cd_119_0, xpk_succ cd_119_1, xpk_succ cd_119_2, xpk_succ cd_119_4, xpk_succ cd_119_7, xpk_succ cd_119_10, xpk_succ cd_119_11, xpk_succ cd_119_12, xpk_succ cd_119_13, xpk_succ cd_119_16, xpk_succ cd_119_17, xpk_succ cd_119_20, xpk_succ cd_119_21, wn, K_0 hJ, K_1 hJ, F_0_0 hJ]
  · have wn : ∀ Q : Option AV → AH → Prop, XC (d + 1) 177 [vI v, vI 0, vI 99] h Q = Q (some (vI 0)) h := fun Q => by rw [X_wn, if_neg z]
    rw [if_neg z, if_neg z]
    refine xpk_sound (stops := []) (n := 30) ?_
    simp only [sk_0, sk_1, sk_2, sk_3, sk_4, sk_5, sk_6, sk_7, sk_8, sk_iadd, sk_isub, sk_imul, sk_iand, sk_ior, sk_ixor, sk_ishl, sk_ishr, sk_iushr, sk_idiv, sk_irem, sk_ineg, sk_ladd, sk_lsub, sk_lmul, sk_land, sk_lor, sk_ldiv, sk_lrem, sk_lneg, sk_lshl, sk_lshr, sk_i2l, sk_l2i, sk_lcmp, sk_dupI, sk_dupR, sk_dup2L, sk_dup2I, sk_popI, sk_ifeq, sk_ifne, sk_iflt, sk_ifge, sk_ifgt, sk_ifle, sk_iceq, sk_icne, sk_iclt, sk_icge, sk_icgt, sk_icle, sk_goto, sk_getf, sk_putf, sk_gets, sk_iald, sk_lald, sk_bald, sk_aald, sk_iast, sk_last, sk_bast, sk_aast, sk_alen, sk_newa, sk_newt, sk_new, sk_cs1, sk_cs2, sk_cs3, sk_cs4, sk_cs5, sk_cs6, sk_cv1, sk_cv2, sk_cv3, sk_cv4, sk_cv5, sk_cv6, sk_ci1, sk_ci2, sk_ci3, sk_ret0, sk_retI, sk_retL, sk_retR, sk_sw, sk_oin, sk_max, sk_min, sk_abs, lI_0, lI_s, lL_0, lL_s, lR_0, lR_s, vIo_e, vLo_e, vOo_e, stW_I, stW_L, stW_R, stW_0, stW_z, okSt_0, okSt_s, hV_eq, hK_eq, okF_0, okF_1, okF_3, is01_0, is01_1, is01_i, Int.toNat_natCast, Int.reduceEq, Int.reduceLE, Int.reduceLT, Int.reduceNeg, Nat.reduceLT, not_true_eq_false, not_false_eq_true, reduceIte, Option.toList, List.cons_append, List.nil_append, List.set_cons_zero, List.set_cons_succ, List.not_mem_nil, List.mem_cons, if_false, if_true, ite_true, ite_false, and_self, and_true, true_and, Nat.reduceAdd, Nat.reduceLeDiff, Nat.reduceEqDiff, Nat.zero_add, Nat.le_refl, Nat.zero_le, or_false, false_or, Int.reduceToNat, or_true, true_or, eq_self, and_false, false_and, inR_d, nc_4, nc_5, nc_6, nc_7, nc_8, nc_16, nc_18, nc_20, nc_24, nc_32, nc_40, nc_64, nc_104, nc_120, nc_160, nc_256, nc_300, nc_330, nc_390, nc_1200, nc_1260, nc_3012, nc_9834, okSt_1i, okSt_1r, okSt_1n, List.length_cons, List.length_nil, xpk_succ cd_119_0, xpk_succ cd_119_1, xpk_succ cd_119_2, xpk_succ cd_119_4, xpk_succ cd_119_7, xpk_succ cd_119_10, xpk_succ cd_119_11, xpk_succ cd_119_12, xpk_succ cd_119_13, xpk_succ cd_119_16, xpk_succ cd_119_17, xpk_succ cd_119_20, xpk_succ cd_119_21, wn, K_0 hJ, K_1 hJ, F_0_0 hJ]
set_option maxHeartbeats 2000000 in
theorem X_neM {d : Nat} {h : AH} {v : Int} (hJ : k_H JB h) (Q : Option AV → AH → Prop) : XC (d + 2) 190 [vR 76, vI v] h Q = Q (some (vI (if 0 ≤ v ∧ v ≤ 99 then 1 else 0))) (if 0 ≤ v ∧ v ≤ 99 then hSet h 77 1 (vI v) else h) := by
  refine XC_eq (Nat.le_of_ble_eq_true rfl) ?_ Q
  show XP (d + 1) 190 0 [some (vR 76), some (vI v)] [] h _
  by_cases z : 0 ≤ v ∧ v ≤ 99
  · have wn : ∀ Q : Option AV → AH → Prop, XC (d + 1) 182 [vI v, vI 0, vI 99] h Q = Q (some (vI 1)) h := fun Q => by rw [X_in, if_pos z]
    rw [if_pos z, if_pos z]
    refine xpk_sound (stops := []) (n := 30) ?_
    simp only [sk_0, sk_1, sk_2, sk_3, sk_4, sk_5, sk_6, sk_7, sk_8, sk_iadd, sk_isub, sk_imul, sk_iand, sk_ior, sk_ixor, sk_ishl, sk_ishr, sk_iushr, sk_idiv, sk_irem, sk_ineg, sk_ladd, sk_lsub, sk_lmul, sk_land, sk_lor, sk_ldiv, sk_lrem, sk_lneg, sk_lshl, sk_lshr, sk_i2l, sk_l2i, sk_lcmp, sk_dupI, sk_dupR, sk_dup2L, sk_dup2I, sk_popI, sk_ifeq, sk_ifne, sk_iflt, sk_ifge, sk_ifgt, sk_ifle, sk_iceq, sk_icne, sk_iclt, sk_icge, sk_icgt, sk_icle, sk_goto, sk_getf, sk_putf, sk_gets, sk_iald, sk_lald, sk_bald, sk_aald, sk_iast, sk_last, sk_bast, sk_aast, sk_alen, sk_newa, sk_newt, sk_new, sk_cs1, sk_cs2, sk_cs3, sk_cs4, sk_cs5, sk_cs6, sk_cv1, sk_cv2, sk_cv3, sk_cv4, sk_cv5, sk_cv6, sk_ci1, sk_ci2, sk_ci3, sk_ret0, sk_retI, sk_retL, sk_retR, sk_sw, sk_oin, sk_max, sk_min, sk_abs, lI_0, lI_s, lL_0, lL_s, lR_0, lR_s, vIo_e, vLo_e, vOo_e, stW_I, stW_L, stW_R, stW_0, stW_z, okSt_0, okSt_s, hV_eq, hK_eq, okF_0, okF_1, okF_3, is01_0, is01_1, is01_i, Int.toNat_natCast, Int.reduceEq, Int.reduceLE, Int.reduceLT, Int.reduceNeg, Nat.reduceLT, not_true_eq_false, not_false_eq_true, reduceIte, Option.toList, List.cons_append, List.nil_append, List.set_cons_zero, List.set_cons_succ, List.not_mem_nil, List.mem_cons, if_false, if_true, ite_true, ite_false, and_self, and_true, true_and, Nat.reduceAdd, Nat.reduceLeDiff, Nat.reduceEqDiff, Nat.zero_add, Nat.le_refl, Nat.zero_le, or_false, false_or, Int.reduceToNat, or_true, true_or, eq_self, and_false, false_and, inR_d, nc_4, nc_5, nc_6, nc_7, nc_8, nc_16, nc_18, nc_20, nc_24, nc_32, nc_40, nc_64, nc_104, nc_120, nc_160, nc_256, nc_300, nc_330, nc_390, nc_1200, nc_1260, nc_3012, nc_9834, okSt_1i, okSt_1r, okSt_1n, List.length_cons, List.length_nil, xpk_succ cd_190_0, xpk_succ cd_190_1, xpk_succ cd_190_2, xpk_succ cd_190_4, xpk_succ cd_190_7, xpk_succ cd_190_10, xpk_succ cd_190_11, xpk_succ cd_190_12, xpk_succ cd_190_13, xpk_succ cd_190_16, xpk_succ cd_190_17, xpk_succ cd_190_18, xpk_succ cd_190_19, xpk_succ cd_190_20, wn, K_76 hJ, K_77 hJ, F_76_0 hJ]
  · have wn : ∀ Q : Option AV → AH → Prop, XC (d + 1) 182 [vI v, vI 0, vI 99] h Q = Q (some (vI 0)) h := fun Q => by rw [X_in, if_neg z]
    rw [if_neg z, if_neg z]
    refine xpk_sound (stops := []) (n := 30) ?_
    simp only [sk_0, sk_1, sk_2, sk_3, sk_4, sk_5, sk_6, sk_7, sk_8, sk_iadd, sk_isub, sk_imul, sk_iand, sk_ior, sk_ixor, sk_ishl, sk_ishr, sk_iushr, sk_idiv, sk_irem, sk_ineg, sk_ladd, sk_lsub, sk_lmul, sk_land, sk_lor, sk_ldiv, sk_lrem, sk_lneg, sk_lshl, sk_lshr, sk_i2l, sk_l2i, sk_lcmp, sk_dupI, sk_dupR, sk_dup2L, sk_dup2I, sk_popI, sk_ifeq, sk_ifne, sk_iflt, sk_ifge, sk_ifgt, sk_ifle, sk_iceq, sk_icne, sk_iclt, sk_icge, sk_icgt, sk_icle, sk_goto, sk_getf, sk_putf, sk_gets, sk_iald, sk_lald, sk_bald, sk_aald, sk_iast, sk_last, sk_bast, sk_aast, sk_alen, sk_newa, sk_newt, sk_new, sk_cs1, sk_cs2, sk_cs3, sk_cs4, sk_cs5, sk_cs6, sk_cv1, sk_cv2, sk_cv3, sk_cv4, sk_cv5, sk_cv6, sk_ci1, sk_ci2, sk_ci3, sk_ret0, sk_retI, sk_retL, sk_retR, sk_sw, sk_oin, sk_max, sk_min, sk_abs, lI_0, lI_s, lL_0, lL_s, lR_0, lR_s, vIo_e, vLo_e, vOo_e, stW_I, stW_L, stW_R, stW_0, stW_z, okSt_0, okSt_s, hV_eq, hK_eq, okF_0, okF_1, okF_3, is01_0, is01_1, is01_i, Int.toNat_natCast, Int.reduceEq, Int.reduceLE, Int.reduceLT, Int.reduceNeg, Nat.reduceLT, not_true_eq_false, not_false_eq_true, reduceIte, Option.toList, List.cons_append, List.nil_append, List.set_cons_zero, List.set_cons_succ, List.not_mem_nil, List.mem_cons, if_false, if_true, ite_true, ite_false, and_self, and_true, true_and, Nat.reduceAdd, Nat.reduceLeDiff, Nat.reduceEqDiff, Nat.zero_add, Nat.le_refl, Nat.zero_le, or_false, false_or, Int.reduceToNat, or_true, true_or, eq_self, and_false, false_and, inR_d, nc_4, nc_5, nc_6, nc_7, nc_8, nc_16, nc_18, nc_20, nc_24, nc_32, nc_40, nc_64, nc_104, nc_120, nc_160, nc_256, nc_300, nc_330, nc_390, nc_1200, nc_1260, nc_3012, nc_9834, okSt_1i, okSt_1r, okSt_1n, List.length_cons, List.length_nil, xpk_succ cd_190_0, xpk_succ cd_190_1, xpk_succ cd_190_2, xpk_succ cd_190_4, xpk_succ cd_190_7, xpk_succ cd_190_10, xpk_succ cd_190_11, xpk_succ cd_190_12, xpk_succ cd_190_13, xpk_succ cd_190_16, xpk_succ cd_190_17, xpk_succ cd_190_18, xpk_succ cd_190_19, xpk_succ cd_190_20, wn, K_76 hJ, K_77 hJ, F_76_0 hJ]
def edL : List (Nat × Nat × Nat) := [(0, 11, 11), (75, 0, 299), (76, 4, 4), (80, 0, 299), (1, 1, 1), (1, 3, 3), (77, 1, 1), (77, 4, 4)]
def edG (k i : Nat) : Prop := (k = 0 ∧ i = 11) ∨ (k = 75 ∧ i ≤ 299) ∨ (k = 76 ∧ i = 4) ∨ (k = 80 ∧ i ≤ 299) ∨ (k = 1 ∧ (i = 1 ∨ i = 3)) ∨ (k = 77 ∧ (i = 1 ∨ i = 4))
def exE (md : List (Nat × Nat × Nat)) : Bool := md.all fun m => edL.any fun q => Nat.beq q.1 m.1 && (Nat.ble q.2.1 m.2.1 && Nat.ble m.2.2 q.2.2)
theorem edL_g {q : Nat × Nat × Nat} (h : q ∈ edL) : ∀ i, q.2.1 ≤ i → i ≤ q.2.2 → edG q.1 i := by
  intro i h1 h2
  unfold edL at h
  rcases List.mem_cons.mp h with rfl | h
  · have h1 : 11 ≤ i := h1
    have h2 : i ≤ 11 := h2
    exact Or.inl ⟨rfl, by omega⟩
  rcases List.mem_cons.mp h with rfl | h
  · exact Or.inr (Or.inl ⟨rfl, h2⟩)
  rcases List.mem_cons.mp h with rfl | h
  · have h1 : 4 ≤ i := h1
    have h2 : i ≤ 4 := h2
    exact Or.inr (Or.inr (Or.inl ⟨rfl, by omega⟩))
  rcases List.mem_cons.mp h with rfl | h
  · exact Or.inr (Or.inr (Or.inr (Or.inl ⟨rfl, h2⟩)))
  rcases List.mem_cons.mp h with rfl | h
  · have h1 : 1 ≤ i := h1
    have h2 : i ≤ 1 := h2
    exact Or.inr (Or.inr (Or.inr (Or.inr (Or.inl ⟨rfl, Or.inl (by omega)⟩))))
  rcases List.mem_cons.mp h with rfl | h
  · have h1 : 3 ≤ i := h1
    have h2 : i ≤ 3 := h2
    exact Or.inr (Or.inr (Or.inr (Or.inr (Or.inl ⟨rfl, Or.inr (by omega)⟩))))
  rcases List.mem_cons.mp h with rfl | h
  · have h1 : 1 ≤ i := h1
    have h2 : i ≤ 1 := h2
    exact Or.inr (Or.inr (Or.inr (Or.inr (Or.inr ⟨rfl, Or.inl (by omega)⟩))))
  rcases List.mem_cons.mp h with rfl | h
  · have h1 : 4 ≤ i := h1
    have h2 : i ≤ 4 := h2
    exact Or.inr (Or.inr (Or.inr (Or.inr (Or.inr ⟨rfl, Or.inr (by omega)⟩))))
  cases h
theorem edG_of {W : AH → Prop} {md : List (Nat × Nat × Nat)} {h h' : AH} (hx : exE md = true) (hF : n_F W md h h') : ∀ k i, ¬ edG k i → hV h' k i = hV h k i := by
  intro k i hn
  refine hF.2 k i ?_
  rintro ⟨m, m1, m2, m3, m4⟩
  unfold exE at hx
  rw [List.all_eq_true] at hx
  have h1 := hx m m1
  rw [List.any_eq_true] at h1
  obtain ⟨q, q1, q2⟩ := h1
  rw [Bool.and_eq_true, Bool.and_eq_true] at q2
  obtain ⟨q2, q3, q4⟩ := q2
  have q2 := Nat.eq_of_beq_eq_true q2
  have q3 := Nat.le_of_ble_eq_true q3
  have q4 := Nat.le_of_ble_eq_true q4
  have y := edL_g q1 i (Nat.le_trans q3 m3) (Nat.le_trans m4 q4)
  rw [q2, m2] at y
  exact hn y
theorem wrG_e {k i : Nat} (h : wrG k i) : ¬ edG k i := by
  have h2 := wrG_n h
  unfold edG
  rcases h with h | ⟨h, -⟩ | ⟨h, -⟩
  · have h := of_decide_eq_true h
    omega
  · omega
  · omega
theorem REL_ed {h h2 : AH} (hJ : k_H JB h) (hJ2 : k_H JB h2) (r : REL h) (e : ∀ k i, ¬ edG k i → hV h2 k i = hV h k i) (tr : TRp h2) (ot : OTH h2 0 77) : REL h2 := by
  obtain ⟨r1, ⟨r2, r3⟩, ⟨r4, r5⟩, r6, r7, ⟨CS, r8⟩, r9, r10⟩ := r
  have hi : ∀ k i, 2 ≤ k → k ≠ 75 → k ≠ 76 → k ≠ 77 → k ≠ 80 → hV h2 k i = hV h k i := fun k i a b c d g => e k i (by unfold edG; omega)
  have g1 : ∀ k i, nowG k i → hV h2 (k + 10) i = hV h (k + 10) i := fun k i g => by
    have b := nowG_r g
    exact hi (k + 10) i (by omega) (by omega) (by omega) (by omega) (by omega)
  have g0 : ∀ k i, wrG k i → hV h2 (k + 0) i = hV h (k + 0) i := fun k i g => e k i (wrG_e g)
  have a7 : ∀ i, i < 9834 → ¬ frG i → fI h2 77 i = fI h 77 i := fun i _ hf => fI_g (e 77 i (by unfold edG; unfold frG at hf; omega))
  have a8 : ∀ i, fI h2 78 i = fI h 78 i := fun i => fI_g (hi 78 i (by decide) (by decide) (by decide) (by decide) (by decide))
  have e12 : fI h2 1 2 = fI h 1 2 := fI_g (e 1 2 (by unfold edG; omega))
  have e112 : fI h2 11 2 = fI h 11 2 := fI_g (hi 11 2 (by decide) (by decide) (by decide) (by decide) (by decide))
  refine ⟨tr, ⟨WNo_f g0 a7 r2, ot⟩, ⟨WNo_f (fun k i g => g1 k i (wrG_n g)) (fun i _ _ => a8 i) r4, OTH_f g1 (a8 1) (a8 3) (a8 4) r5⟩, by rw [e12, e112]; exact r6, TXZ_f (fun i _ => hi 47 i (by decide) (by decide) (by decide) (by decide) (by decide)) (fun i _ => hi 48 i (by decide) (by decide) (by decide) (by decide) (by decide)) (fun i _ => hi 49 i (by decide) (by decide) (by decide) (by decide) (by decide)) r7, ⟨CS, fun J hj => ?_⟩, ?_, (e 76 25 (by unfold edG; omega)).trans r10⟩
  · rw [e12] at hj
    have h4 := (I_1_2 hJ).2.2
    refine TXJ_f hJ2 (by omega) (fun k i g => ?_) (fun i _ _ => hi 79 i (by decide) (by decide) (by decide) (by decide) (by decide)) (r8 J hj)
    unfold tjG at g
    exact hi k i (by omega) (by omega) (by omega) (by omega) (by omega)
  · rw [fI_g (hi 59 7 (by decide) (by decide) (by decide) (by decide) (by decide))]; exact r9
/-- near -/
theorem RE_near {h h1 h2 : AH} {r1 r2 : Option AV} {v : Int} (hJ : k_H JB h) (hJ1 : k_H JB h1) (hJ2 : k_H JB h2) (r : REL h) (E1 : ∀ Q : Option AV → AH → Prop, XC 1000 119 [vR 0, vI v] h Q = Q r1 h1) (E2 : ∀ Q : Option AV → AH → Prop, XC 1000 190 [vR 76, vI v] h1 Q = Q r2 h2) : r2 = r1 ∧ REL h2 := by
  obtain ⟨q1, q2⟩ := XC_same E1 (X_neC (d := 998) hJ)
  obtain ⟨p1, p2⟩ := XC_same E2 (X_neM (d := 998) hJ1)
  refine ⟨by rw [← p1, ← q1], ?_⟩
  by_cases z : 0 ≤ v ∧ v ≤ 99
  · rw [if_pos z] at q2 p2
    have w : ∀ k i, hV h2 k i = if k = 77 ∧ i = 1 then vI v else if k = 1 ∧ i = 1 then vI v else hV h k i := fun k i => by rw [← p2, ← q2]; rfl
    have wn : ∀ k i, ¬ (k = 77 ∧ i = 1) → ¬ (k = 1 ∧ i = 1) → hV h2 k i = hV h k i := fun k i a b => by rw [w, if_neg a, if_neg b]
    have w7 : hV h2 77 1 = vI v := (show ∀ k i, k = 77 ∧ i = 1 → hV h2 k i = vI v from fun k i a => by rw [w, if_pos a]) 77 1 ⟨rfl, rfl⟩
    have w1 : hV h2 1 1 = vI v := (show ∀ k i, k = 1 ∧ i = 1 → hV h2 k i = vI v from fun k i a => by rw [w, if_neg (by omega), if_pos a]) 1 1 ⟨rfl, rfl⟩
    have f7 : fI h2 77 1 = v := congrArg nmb w7
    have f1 : fI h2 1 1 = v := congrArg nmb w1
    obtain ⟨⟨o1, o2, o3⟩, o4⟩ := r.2.1.2
    refine REL_ed hJ hJ2 r (fun k i g => wn k i (fun y => g (by unfold edG; omega)) (fun y => g (by unfold edG; omega))) (TRp_e (fun k i g => wn k i (by omega) (by omega)) r.1) ⟨⟨f7.trans f1.symm, ?_, ?_⟩, ?_⟩
    · exact (fI_g (wn 77 3 (by omega) (by omega))).trans (o2.trans (fI_g (wn 1 2 (by omega) (by omega))).symm)
    · exact (fI_g (wn 77 4 (by omega) (by omega))).trans (o3.trans (fI_g (wn 1 3 (by omega) (by omega))).symm)
    · show fI h2 1 3 < fI h2 1 2
      rw [fI_g (wn 1 3 (by omega) (by omega)), fI_g (wn 1 2 (by omega) (by omega))]; exact o4
  · rw [if_neg z] at q2 p2
    rw [← p2, ← q2]; exact r
/-- by -/
theorem RE_by {h h1 h2 : AH} {r1 r2 : Option AV} {n : Int} (hJ : k_H JB h) (hJ1 : k_H JB h1) (hJ2 : k_H JB h2) (r : REL h) (E1 : ∀ Q : Option AV → AH → Prop, XC 1000 125 [vR 0, vI n] h Q = Q r1 h1) (E2 : ∀ Q : Option AV → AH → Prop, XC 1000 234 [vR 76, vI n] h1 Q = Q r2 h2) : r2 = r1 ∧ REL h2 := by
  obtain ⟨t, v, ht⟩ := TX_n hJ
  have b2 := r.1.1.2.1
  obtain ⟨q1, q2⟩ := XC_same E1 (X_byC (d := 998) hJ v ht)
  have n1 : ∀ k i, (k ≠ 1 ∨ i ≠ 3) → hV h1 k i = hV h k i := fun k i h0 => by
    rw [← q2]
    split
    · exact if_neg (fun w => by omega)
    · rfl
  have v1 : hV h1 77 3 = vI (t : Int) := (n1 _ _ (by omega)).trans (b2.symm.trans v)
  obtain ⟨p1, p2⟩ := XC_same E2 (X_byM (d := 998) hJ1 v1 ht)
  refine ⟨by rw [← p1, ← q1], ?_⟩
  by_cases z : -1 ≤ n ∧ n ≤ (t : Int) - 1
  · rw [if_pos z] at q2 p2
    have w : ∀ k i, hV h2 k i = if k = 77 ∧ i = 4 then vI n else if k = 1 ∧ i = 3 then vI n else hV h k i := fun k i => by rw [← p2, ← q2]; rfl
    have wn : ∀ k i, ¬ (k = 77 ∧ i = 4) → ¬ (k = 1 ∧ i = 3) → hV h2 k i = hV h k i := fun k i a b => by rw [w, if_neg a, if_neg b]
    have w7 : hV h2 77 4 = vI n := (show ∀ k i, k = 77 ∧ i = 4 → hV h2 k i = vI n from fun k i a => by rw [w, if_pos a]) 77 4 ⟨rfl, rfl⟩
    have w1 : hV h2 1 3 = vI n := (show ∀ k i, k = 1 ∧ i = 3 → hV h2 k i = vI n from fun k i a => by rw [w, if_neg (by omega), if_pos a]) 1 3 ⟨rfl, rfl⟩
    have f7 : fI h2 77 4 = n := congrArg nmb w7
    have f1 : fI h2 1 3 = n := congrArg nmb w1
    have f2 : fI h2 1 2 = (t : Int) := (fI_g (wn 1 2 (by omega) (by omega))).trans (congrArg nmb v)
    obtain ⟨⟨o1, o2, o3⟩, o4⟩ := r.2.1.2
    refine REL_ed hJ hJ2 r (fun k i g => wn k i (fun y => g (by unfold edG; omega)) (fun y => g (by unfold edG; omega))) (TRp_e (fun k i g => wn k i (by omega) (by omega)) r.1) ⟨⟨?_, ?_, f7.trans f1.symm⟩, ?_⟩
    · exact (fI_g (wn 77 1 (by omega) (by omega))).trans (o1.trans (fI_g (wn 1 1 (by omega) (by omega))).symm)
    · exact (fI_g (wn 77 3 (by omega) (by omega))).trans (o2.trans (fI_g (wn 1 2 (by omega) (by omega))).symm)
    · show fI h2 1 3 < fI h2 1 2
      rw [f1, f2]; omega
  · rw [if_neg z] at q2 p2
    rw [← p2, ← q2]; exact r
/-- feed, end: tape alone -/
theorem OTH_e {h h2 : AH} (e : ∀ k i, (k = 1 ∧ i ≤ 3) ∨ k = 77 → hV h2 k i = hV h k i) (o : OTH h 0 77) : OTH h2 0 77 := by
  obtain ⟨⟨o1, o2, o3⟩, o4⟩ := o
  refine ⟨⟨?_, ?_, ?_⟩, ?_⟩
  · exact (fI_g (e 77 1 (by omega))).trans (o1.trans (fI_g (e 1 1 (by omega))).symm)
  · exact (fI_g (e 77 3 (by omega))).trans (o2.trans (fI_g (e 1 2 (by omega))).symm)
  · exact (fI_g (e 77 4 (by omega))).trans (o3.trans (fI_g (e 1 3 (by omega))).symm)
  · show fI h2 1 3 < fI h2 1 2
    rw [fI_g (e 1 3 (by omega)), fI_g (e 1 2 (by omega))]; exact o4
def tpG (k i : Nat) : Prop := (k = 0 ∧ i = 11) ∨ (k = 75 ∧ i ≤ 299) ∨ (k = 76 ∧ i = 4) ∨ (k = 80 ∧ i ≤ 299)
theorem REL_tp {h h2 : AH} (hJ : k_H JB h) (hJ2 : k_H JB h2) (r : REL h) (e : ∀ k i, ¬ tpG k i → hV h2 k i = hV h k i) (tr : TRp h2) : REL h2 := REL_ed hJ hJ2 r (fun k i g => e k i (fun y => g (by unfold tpG at y; unfold edG; omega))) tr (OTH_e (fun k i g => e k i (by unfold tpG; omega)) r.2.1.2)
theorem RE_feed {h h1 h2 : AH} {r1 r2 : Option AV} {a b c x g : Int} (hJ : k_H JB h) (hJ2 : k_H JB h2) (r : REL h) (e : ∀ k i, ¬ tpG k i → hV h2 k i = hV h k i) (E1 : ∀ Q : Option AV → AH → Prop, XC 1000 120 [vR 0, vI a, vI b, vI c, vI x, vI g] h Q = Q r1 h1) (E2 : ∀ Q : Option AV → AH → Prop, XC 1000 192 [vR 76, vI a, vI b, vI c, vI x, vI g] h1 Q = Q r2 h2) : r2 = r1 ∧ REL h2 := by
  obtain ⟨z, g1, g2, t2, F1, F2⟩ := TR_feed (a := a) (b := b) (c := c) (e := x) (g := g) hJ r.1
  obtain ⟨q1, q2⟩ := XC_same E1 F1
  rw [q2] at F2
  obtain ⟨p1, p2⟩ := XC_same E2 F2
  rw [p2] at t2
  exact ⟨by rw [← p1, ← q1], REL_tp hJ hJ2 r e t2⟩
theorem RE_endt {h h1 h2 : AH} {r2 : Option AV} {n z : Int} (hJ : k_H JB h) (hJ1 : k_H JB h1) (hJ2 : k_H JB h2) (r : REL h) (e : ∀ k i, ¬ tpG k i → hV h2 k i = hV h k i) (E1 : ∀ Q : Option AV → AH → Prop, XC 1000 122 [vR 0, vI n] h Q = Q (some (vI z)) h1) (E2 : ∀ Q : Option AV → AH → Prop, XC 1000 193 [vR 76, vI n] h1 Q = Q r2 h2) : r2 = some (vI z) ∧ REL h2 := by
  obtain ⟨g2, t2, F2⟩ := TR_end hJ hJ1 r.1 E1
  obtain ⟨p1, p2⟩ := XC_same E2 F2
  rw [p2] at t2
  exact ⟨p1.symm, REL_tp hJ hJ2 r e t2⟩
