/-! dayEnds: what is known, chunk by chunk -/
theorem ch_5 (A C D E : List (Option AC)) (l : List (List (Option AC))) (h0 : l.getD 0 [] = A) (h2 : l.getD 2 [] = C) (h3 : l.getD 3 [] = D) (h4 : l.getD 4 [] = E) (q j : Nat) (c : AC) (h : (([A, [], C, D, E] : List (List (Option AC))).getD q []).getD j none = some c) : (l.getD q []).getD j none = some c := by
  match q, h with
  | 0, h => rw [h0]; exact h
  | 1, h => have h : ([] : List (Option AC)).getD j none = some c := h; rw [nil_D] at h; cases h
  | 2, h => rw [h2]; exact h
  | 3, h => rw [h3]; exact h
  | 4, h => rw [h4]; exact h
  | n + 5, h => have h : ([] : List (Option AC)).getD j none = some c := h; rw [nil_D] at h; cases h
theorem ch_s {A C D E : List (Option AC)} {z : List (Nat × AC)} {b : BH} {h : AH} (h0 : eqO (b.1.getD 0 []) A = true) (h2 : eqO (b.1.getD 2 []) C = true) (h3 : eqO (b.1.getD 3 []) D = true) (h4 : eqO (b.1.getD 4 []) E = true) (hz : eqZ b.2 z = true) (hb : ab_H b h) : ab_H ([A, [], C, D, E], z) h := by
  refine ⟨hb.1, hb.2.1, fun k c hc => hb.2.2 k c ?_⟩
  unfold gC at hc
  unfold gC
  split at hc
  · rename_i hk
    rw [if_pos hk]
    exact ch_5 A C D E b.1 (eqO_s h0) (eqO_s h2) (eqO_s h3) (eqO_s h4) _ _ c hc
  · rename_i hk
    rw [if_neg hk, eqZ_s hz]
    exact hc
theorem ne_2 (A C C' D E : List (Option AC)) (q : Nat) (hq : q ≠ 2) : ([A, [], C', D, E] : List (List (Option AC))).getD q [] = ([A, [], C, D, E] : List (List (Option AC))).getD q [] := by
  match q, hq with
  | 0, _ => rfl
  | 1, _ => rfl
  | 2, hq => exact absurd rfl hq
  | 3, _ => rfl
  | 4, _ => rfl
  | n + 5, _ => rfl
theorem lw_2 {A C C' D E : List (Option AC)} {z : List (Nat × AC)} {h : AH} (hl : leO C C' = true) (hb : ab_H ([A, [], C, D, E], z) h) : ab_H ([A, [], C', D, E], z) h := by
  refine ⟨hb.1, hb.2.1, fun k c hc => ?_⟩
  unfold gC at hc
  split at hc
  · rename_i hk
    have hc : (([A, [], C', D, E] : List (List (Option AC))).getD (k / 19) []).getD (k % 19) none = some c := hc
    by_cases y : k / 19 = 2
    · rw [y] at hc
      have hc : C'.getD (k % 19) none = some c := hc
      obtain ⟨c0, e0, hle⟩ := leO_s hl _ _ hc
      refine leC_s hle (hb.2.2 k c0 ?_)
      unfold gC
      rw [if_pos hk, y]
      exact e0
    · refine hb.2.2 k c ?_
      unfold gC
      rw [if_pos hk]
      rw [ne_2 A C C' D E _ y] at hc
      exact hc
  · rename_i hk
    refine hb.2.2 k c ?_
    unfold gC
    rw [if_neg hk]
    exact hc
theorem ne_4 (E : List (Option AC)) (q : Nat) (hq : q ≠ 4) : ([[], [], [], [], E] : List (List (Option AC))).getD q [] = [] := by
  match q, hq with
  | 0, _ => rfl
  | 1, _ => rfl
  | 2, _ => rfl
  | 3, _ => rfl
  | 4, hq => exact absurd rfl hq
  | n + 5, _ => rfl
theorem lw_4 {E : List (Option AC)} {z : List (Nat × AC)} {b : BH} {h : AH} (hl : leO (b.1.getD 4 []) E = true) (hz : eqZ b.2 z = true) (hb : ab_H b h) : ab_H ([[], [], [], [], E], z) h := by
  refine ⟨hb.1, hb.2.1, fun k c hc => ?_⟩
  unfold gC at hc
  split at hc
  · rename_i hk
    have hc : (([[], [], [], [], E] : List (List (Option AC))).getD (k / 19) []).getD (k % 19) none = some c := hc
    by_cases y : k / 19 = 4
    · rw [y] at hc
      have hc : E.getD (k % 19) none = some c := hc
      obtain ⟨c0, e0, hle⟩ := leO_s hl _ _ hc
      refine leC_s hle (hb.2.2 k c0 ?_)
      unfold gC
      rw [if_pos hk, y]
      exact e0
    · exfalso
      rw [ne_4 E _ y, nil_D] at hc
      cases hc
  · rename_i hk
    refine hb.2.2 k c ?_
    unfold gC
    rw [if_neg hk, eqZ_s hz]
    exact hc
/-! dayEnds: the class -/
theorem dLs_s {q : Int × Int} {w k : Int} {ls : List (Option AV)} (hl : ab_L (dLs (.inr q) (xI w) (xI k)) ls) : ∃ n bd : Int, (q.1 ≤ n ∧ n ≤ q.2 ∧ 0 ≤ bd ∧ bd ≤ 9999) ∧ ls = [some (vR 0), some (vI n), some (vI bd), some (vR 58), some (vI w), some (vI k)] := by
  obtain ⟨a1, l1, rfl, ⟨u1, rfl, z1⟩, a2, l2, rfl, ⟨u2, rfl, z2⟩, a3, l3, rfl, ⟨u3, rfl, z3⟩, a4, l4, rfl, ⟨u4, rfl, z4⟩, a5, l5, rfl, ⟨u5, rfl, z5⟩, a6, l6, rfl, ⟨u6, rfl, z6⟩, z7⟩ := hl
  have z1 : u1 = _ := z1
  have z4 : u4 = _ := z4
  have z5 : u5 = _ := z5
  have z6 : u6 = _ := z6
  have z7 : l6 = [] := z7
  obtain ⟨n, z2, g1, g2⟩ := z2
  obtain ⟨bd, z3, g3, g4⟩ := z3
  exact ⟨n, bd, ⟨g1, g2, g3, g4⟩, by rw [z1, z2, z3, z4, z5, z6, z7]⟩
set_option maxHeartbeats 4000000 in
theorem de_in (Q : Option AV → AH → Prop) (w : Int) (w1 : 1 ≤ w) (w9 : w ≤ 9) (hE : ∀ (n bd k : Int) (h : AH), 1 ≤ n → n ≤ 200 → 0 ≤ bd → bd ≤ 9999 → 0 ≤ k → k ≤ 200 → ab_H (dDs (xI w) (.inr (0, 200)), bx bxT) h → XP 999 152 108 [some (vR 0), some (vI n), some (vI bd), some (vR 58), some (vI w), some (vI k)] [] h Q) : ∀ (j k : Nat) (n bd : Int) (h : AH), k + j = 200 → 1 ≤ n → n ≤ 200 → 0 ≤ bd → bd ≤ 9999 → ab_H (dDs (xI w) (xI (k : Int)), bx bxT) h → XP 999 152 73 [some (vR 0), some (vI n), some (vI bd), some (vR 58), some (vI w), some (vI (k : Int))] [] h Q := by
  intro j
  induction j with
  | zero =>
    intro k n bd h hk n1 n2 d1 d2 hb
    have hc : n ≤ (k : Int) := by omega
    have k1 : (0 : Int) ≤ (k : Int) := by omega
    have k2 : (k : Int) ≤ 200 := by omega
    have hw := List.all_eq_true.mp (dW_nine w w1 w9) k (List.mem_range'_1.mpr ⟨by omega, by omega⟩)
    have hx := hE n bd k h n1 n2 d1 d2 k1 k2 (lw_2 hw hb)
    refine xpk_sound (stops := [108]) (n := 8) ?_
    simp only [sk_0, sk_1, sk_2, sk_3, sk_4, sk_5, sk_6, sk_7, sk_8, sk_iadd, sk_isub, sk_imul, sk_iand, sk_ior, sk_ixor, sk_ishl, sk_ishr, sk_iushr, sk_idiv, sk_irem, sk_ineg, sk_ladd, sk_lsub, sk_lmul, sk_land, sk_lor, sk_ldiv, sk_lrem, sk_lneg, sk_lshl, sk_lshr, sk_i2l, sk_l2i, sk_lcmp, sk_dupI, sk_dupR, sk_dup2L, sk_dup2I, sk_popI, sk_ifeq, sk_ifne, sk_iflt, sk_ifge, sk_ifgt, sk_ifle, sk_iceq, sk_icne, sk_iclt, sk_icge, sk_icgt, sk_icle, sk_goto, sk_getf, sk_putf, sk_gets, sk_iald, sk_lald, sk_bald, sk_aald, sk_iast, sk_last, sk_bast, sk_aast, sk_alen, sk_newa, sk_newt, sk_new, sk_cs1, sk_cs2, sk_cs3, sk_cs4, sk_cs5, sk_cs6, sk_cv1, sk_cv2, sk_cv3, sk_cv4, sk_cv5, sk_cv6, sk_ci1, sk_ci2, sk_ci3, sk_ret0, sk_retI, sk_retL, sk_retR, sk_sw, sk_oin, sk_max, sk_min, sk_abs, lI_0, lI_s, lL_0, lL_s, lR_0, lR_s, vIo_e, vLo_e, vOo_e, stW_I, stW_L, stW_R, stW_0, stW_z, okSt_0, okSt_s, hV_eq, hK_eq, okF_0, okF_1, okF_3, is01_0, is01_1, is01_i, Int.toNat_natCast, Int.reduceEq, Int.reduceLE, Int.reduceLT, Int.reduceNeg, Nat.reduceLT, not_true_eq_false, not_false_eq_true, reduceIte, Option.toList, List.cons_append, List.nil_append, List.set_cons_zero, List.set_cons_succ, List.not_mem_nil, List.mem_cons, if_false, if_true, ite_true, ite_false, and_self, and_true, true_and, Nat.reduceAdd, Nat.reduceLeDiff, Nat.reduceEqDiff, Nat.zero_add, Nat.le_refl, Nat.zero_le, or_false, false_or, Int.reduceToNat, or_true, true_or, eq_self, and_false, false_and, inR_d, nc_4, nc_5, nc_6, nc_7, nc_8, nc_16, nc_18, nc_20, nc_24, nc_32, nc_40, nc_64, nc_104, nc_120, nc_160, nc_256, nc_300, nc_330, nc_390, nc_1200, nc_1260, nc_3012, nc_9834, okSt_1i, okSt_1r, okSt_1n, xpk_succ cd_152_0, xpk_succ cd_152_1, xpk_succ cd_152_2, xpk_succ cd_152_5, xpk_succ cd_152_8, xpk_succ cd_152_11, xpk_succ cd_152_12, xpk_succ cd_152_13, xpk_succ cd_152_16, xpk_succ cd_152_19, xpk_succ cd_152_22, xpk_succ cd_152_23, xpk_succ cd_152_24, xpk_succ cd_152_25, xpk_succ cd_152_28, xpk_succ cd_152_29, xpk_succ cd_152_30, xpk_succ cd_152_32, xpk_succ cd_152_34, xpk_succ cd_152_36, xpk_succ cd_152_39, xpk_succ cd_152_40, xpk_succ cd_152_43, xpk_succ cd_152_44, xpk_succ cd_152_47, xpk_succ cd_152_50, xpk_succ cd_152_53, xpk_succ cd_152_54, xpk_succ cd_152_57, xpk_succ cd_152_59, xpk_succ cd_152_62, xpk_succ cd_152_63, xpk_succ cd_152_66, xpk_succ cd_152_67, xpk_succ cd_152_70, xpk_succ cd_152_71, xpk_succ cd_152_73, xpk_succ cd_152_75, xpk_succ cd_152_76, xpk_succ cd_152_79, xpk_succ cd_152_80, xpk_succ cd_152_83, xpk_succ cd_152_84, xpk_succ cd_152_85, xpk_succ cd_152_88, xpk_succ cd_152_89, xpk_succ cd_152_92, xpk_succ cd_152_95, xpk_succ cd_152_96, xpk_succ cd_152_99, xpk_succ cd_152_101, xpk_succ cd_152_102, xpk_succ cd_152_105, xpk_succ cd_152_108, xpk_succ cd_152_111, xpk_succ cd_152_114, xpk_succ cd_152_115, hc]
    exact hx
  | succ j ih =>
    intro k n bd h hk n1 n2 d1 d2 hb
    by_cases hc : n ≤ (k : Int)
    · have k1 : (0 : Int) ≤ (k : Int) := by omega
      have k2 : (k : Int) ≤ 200 := by omega
      have hw := List.all_eq_true.mp (dW_nine w w1 w9) k (List.mem_range'_1.mpr ⟨by omega, by omega⟩)
      have hx := hE n bd k h n1 n2 d1 d2 k1 k2 (lw_2 hw hb)
      refine xpk_sound (stops := [108]) (n := 8) ?_
      simp only [sk_0, sk_1, sk_2, sk_3, sk_4, sk_5, sk_6, sk_7, sk_8, sk_iadd, sk_isub, sk_imul, sk_iand, sk_ior, sk_ixor, sk_ishl, sk_ishr, sk_iushr, sk_idiv, sk_irem, sk_ineg, sk_ladd, sk_lsub, sk_lmul, sk_land, sk_lor, sk_ldiv, sk_lrem, sk_lneg, sk_lshl, sk_lshr, sk_i2l, sk_l2i, sk_lcmp, sk_dupI, sk_dupR, sk_dup2L, sk_dup2I, sk_popI, sk_ifeq, sk_ifne, sk_iflt, sk_ifge, sk_ifgt, sk_ifle, sk_iceq, sk_icne, sk_iclt, sk_icge, sk_icgt, sk_icle, sk_goto, sk_getf, sk_putf, sk_gets, sk_iald, sk_lald, sk_bald, sk_aald, sk_iast, sk_last, sk_bast, sk_aast, sk_alen, sk_newa, sk_newt, sk_new, sk_cs1, sk_cs2, sk_cs3, sk_cs4, sk_cs5, sk_cs6, sk_cv1, sk_cv2, sk_cv3, sk_cv4, sk_cv5, sk_cv6, sk_ci1, sk_ci2, sk_ci3, sk_ret0, sk_retI, sk_retL, sk_retR, sk_sw, sk_oin, sk_max, sk_min, sk_abs, lI_0, lI_s, lL_0, lL_s, lR_0, lR_s, vIo_e, vLo_e, vOo_e, stW_I, stW_L, stW_R, stW_0, stW_z, okSt_0, okSt_s, hV_eq, hK_eq, okF_0, okF_1, okF_3, is01_0, is01_1, is01_i, Int.toNat_natCast, Int.reduceEq, Int.reduceLE, Int.reduceLT, Int.reduceNeg, Nat.reduceLT, not_true_eq_false, not_false_eq_true, reduceIte, Option.toList, List.cons_append, List.nil_append, List.set_cons_zero, List.set_cons_succ, List.not_mem_nil, List.mem_cons, if_false, if_true, ite_true, ite_false, and_self, and_true, true_and, Nat.reduceAdd, Nat.reduceLeDiff, Nat.reduceEqDiff, Nat.zero_add, Nat.le_refl, Nat.zero_le, or_false, false_or, Int.reduceToNat, or_true, true_or, eq_self, and_false, false_and, inR_d, nc_4, nc_5, nc_6, nc_7, nc_8, nc_16, nc_18, nc_20, nc_24, nc_32, nc_40, nc_64, nc_104, nc_120, nc_160, nc_256, nc_300, nc_330, nc_390, nc_1200, nc_1260, nc_3012, nc_9834, okSt_1i, okSt_1r, okSt_1n, xpk_succ cd_152_0, xpk_succ cd_152_1, xpk_succ cd_152_2, xpk_succ cd_152_5, xpk_succ cd_152_8, xpk_succ cd_152_11, xpk_succ cd_152_12, xpk_succ cd_152_13, xpk_succ cd_152_16, xpk_succ cd_152_19, xpk_succ cd_152_22, xpk_succ cd_152_23, xpk_succ cd_152_24, xpk_succ cd_152_25, xpk_succ cd_152_28, xpk_succ cd_152_29, xpk_succ cd_152_30, xpk_succ cd_152_32, xpk_succ cd_152_34, xpk_succ cd_152_36, xpk_succ cd_152_39, xpk_succ cd_152_40, xpk_succ cd_152_43, xpk_succ cd_152_44, xpk_succ cd_152_47, xpk_succ cd_152_50, xpk_succ cd_152_53, xpk_succ cd_152_54, xpk_succ cd_152_57, xpk_succ cd_152_59, xpk_succ cd_152_62, xpk_succ cd_152_63, xpk_succ cd_152_66, xpk_succ cd_152_67, xpk_succ cd_152_70, xpk_succ cd_152_71, xpk_succ cd_152_73, xpk_succ cd_152_75, xpk_succ cd_152_76, xpk_succ cd_152_79, xpk_succ cd_152_80, xpk_succ cd_152_83, xpk_succ cd_152_84, xpk_succ cd_152_85, xpk_succ cd_152_88, xpk_succ cd_152_89, xpk_succ cd_152_92, xpk_succ cd_152_95, xpk_succ cd_152_96, xpk_succ cd_152_99, xpk_succ cd_152_101, xpk_succ cd_152_102, xpk_succ cd_152_105, xpk_succ cd_152_108, xpk_succ cd_152_111, xpk_succ cd_152_114, xpk_succ cd_152_115, hc]
      exact hx
    · have hck := dA_all w w1 w9 k (by omega)
      unfold dA at hck
      rw [achF_eq] at hck
      refine achk_s nt2_s _ _ _ _ _ _ _ _ _ _ hck _ [] h Q ⟨_, _, rfl, ⟨_, rfl, rfl⟩, _, _, rfl, ⟨_, rfl, ab_rg (by omega) n2⟩, _, _, rfl, ⟨_, rfl, ab_rg d1 d2⟩, _, _, rfl, ⟨_, rfl, rfl⟩, _, _, rfl, ⟨_, rfl, rfl⟩, _, _, rfl, ⟨_, rfl, rfl⟩, rfl⟩ rfl hb (fun als ast b ls st h hk' hl hs hb => ?_) (fun _ _ _ _ z => by cases z)
      unfold dKS at hk'
      rw [Bool.and_eq_true, Bool.and_eq_true, Bool.and_eq_true, Bool.and_eq_true, Bool.and_eq_true, Bool.and_eq_true, decide_eq_true_eq, decide_eq_true_eq] at hk'
      obtain ⟨⟨rfl, rfl⟩, e0, e2, e3, e4, ez⟩ := hk'
      have hs : st = [] := hs
      subst hs
      obtain ⟨n', bd', ⟨g1, g2, g3, g4⟩, rfl⟩ := dLs_s hl
      have g1 : (k : Int) + 1 ≤ n' := g1
      exact ih (k + 1) n' bd' h (by omega) (by omega) g2 g3 g4 (ch_s e0 e2 e3 e4 ez hb)
theorem de_x (Q : Option AV → AH → Prop) (hQ : ∀ h', ab_H (bc1, bx bxT) h' → Q (some (vI (-1))) h') (w : Int) (w1 : 1 ≤ w) (w9 : w ≤ 9) (hN : w < 9 → ∀ (n bd : Int) (h : AH), 1 ≤ n → n ≤ 200 → 0 ≤ bd → bd ≤ 9999 → ab_H (dDs (xI (w + 1)) (xI 0), bx bxT) h → XP 999 152 73 [some (vR 0), some (vI n), some (vI bd), some (vR 58), some (vI (w + 1)), some (vI 0)] [] h Q) : ∀ (n bd k : Int) (h : AH), 1 ≤ n → n ≤ 200 → 0 ≤ bd → bd ≤ 9999 → 0 ≤ k → k ≤ 200 → ab_H (dDs (xI w) (.inr (0, 200)), bx bxT) h → XP 999 152 108 [some (vR 0), some (vI n), some (vI bd), some (vR 58), some (vI w), some (vI k)] [] h Q := by
  intro n bd k h n1 n2 d1 d2 k1 k2 hb
  have hck := dE_nine w w1 w9
  unfold dE at hck
  rw [achF_eq] at hck
  refine achk_s nt2_s _ _ _ _ _ _ _ _ _ _ hck _ [] h Q ⟨_, _, rfl, ⟨_, rfl, rfl⟩, _, _, rfl, ⟨_, rfl, ab_rg n1 n2⟩, _, _, rfl, ⟨_, rfl, ab_rg d1 d2⟩, _, _, rfl, ⟨_, rfl, rfl⟩, _, _, rfl, ⟨_, rfl, rfl⟩, _, _, rfl, ⟨_, rfl, ab_rg k1 k2⟩, rfl⟩ rfl hb (fun als ast b ls st h hk' hl hs hb => ?_) (fun r b v h hr ho hb => ?_)
  · rw [Bool.and_eq_true, Bool.not_eq_true', eqI_eq, decide_eq_false_iff_not] at hk'
    obtain ⟨hw, hk'⟩ := hk'
    unfold dKS at hk'
    rw [Bool.and_eq_true, Bool.and_eq_true, Bool.and_eq_true, Bool.and_eq_true, Bool.and_eq_true, Bool.and_eq_true, decide_eq_true_eq, decide_eq_true_eq] at hk'
    obtain ⟨⟨rfl, rfl⟩, e0, e2, e3, e4, ez⟩ := hk'
    have hs : st = [] := hs
    subst hs
    obtain ⟨n', bd', ⟨g1, g2, g3, g4⟩, rfl⟩ := dLs_s hl
    exact hN (by omega) n' bd' h g1 g2 g3 g4 (ch_s e0 e2 e3 e4 ez hb)
  · rw [Bool.and_eq_true, Bool.and_eq_true, Bool.and_eq_true, decide_eq_true_eq] at hr
    obtain ⟨⟨-, rfl⟩, h4, hz⟩ := hr
    obtain ⟨u, rfl, hu⟩ := ho
    have hu : u = vI (-1) := hu
    rw [hu]
    obtain ⟨b1, b2⟩ := b
    have hz : b2 = bx bxT := eqZ_s hz
    subst hz
    exact hQ h ⟨hb.1, hb.2.1, fun k c hc => hb.2.2 k c (gC_1 (eqO_s h4) hc)⟩
theorem de_w (Q : Option AV → AH → Prop) (hQ : ∀ h', ab_H (bc1, bx bxT) h' → Q (some (vI (-1))) h') : ∀ (i : Nat) (w : Int), w + (i : Int) = 9 → 1 ≤ w → ∀ (n bd : Int) (h : AH), 1 ≤ n → n ≤ 200 → 0 ≤ bd → bd ≤ 9999 → ab_H (dDs (xI w) (xI 0), bx bxT) h → XP 999 152 73 [some (vR 0), some (vI n), some (vI bd), some (vR 58), some (vI w), some (vI 0)] [] h Q := by
  intro i
  induction i with
  | zero =>
    intro w hw w1 n bd h n1 n2 d1 d2 hb
    exact de_in Q w w1 (by omega) (de_x Q hQ w w1 (by omega) (fun z => absurd z (by omega))) 200 0 n bd h rfl n1 n2 d1 d2 hb
  | succ i ih =>
    intro w hw w1 n bd h n1 n2 d1 d2 hb
    exact de_in Q w w1 (by omega) (de_x Q hQ w w1 (by omega) (fun _ => ih (w + 1) (by omega) (by omega))) 200 0 n bd h rfl n1 n2 d1 d2 hb
theorem X_deC {h : AH} {n bd : Int} (hb0 : ab_H (bc0, bx bxT) h) (n1 : 1 ≤ n) (n2 : n ≤ 200) (d1 : 0 ≤ bd) (d2 : bd ≤ 9999) : ∃ h', ab_H (bc1, bx bxT) h' ∧ ∀ Q : Option AV → AH → Prop, XC 1000 152 [vR 0, vI n, vI bd] h Q = Q (some (vI (-1))) h' := by
  have hb := bG0_s hb0
  refine XC_ex (d := 999) (XC_of (Nat.le_of_ble_eq_true rfl) ?_)
  show XP 999 152 0 [some (vR 0), some (vI n), some (vI bd), none, none, none] [] h _
  have hck := dB_ck
  rw [achF_eq] at hck
  refine achk_s nt2_s _ _ _ _ _ _ _ _ _ _ hck _ [] h _ ⟨_, _, rfl, ⟨_, rfl, rfl⟩, _, _, rfl, ⟨_, rfl, ab_rg n1 n2⟩, _, _, rfl, ⟨_, rfl, ab_rg d1 d2⟩, _, _, rfl, rfl, _, _, rfl, rfl, _, _, rfl, rfl, rfl⟩ rfl hb (fun als ast b ls st h hk' hl hs hb => ?_) (fun _ _ _ _ z => by cases z)
  unfold dKS at hk'
  rw [Bool.and_eq_true, Bool.and_eq_true, Bool.and_eq_true, Bool.and_eq_true, Bool.and_eq_true, Bool.and_eq_true, decide_eq_true_eq, decide_eq_true_eq] at hk'
  obtain ⟨⟨rfl, rfl⟩, e0, e2, e3, e4, ez⟩ := hk'
  have hs : st = [] := hs
  subst hs
  obtain ⟨n', bd', ⟨g1, g2, g3, g4⟩, rfl⟩ := dLs_s hl
  exact de_w _ (fun h' a => ⟨rfl, a⟩) 8 1 (by omega) (by omega) n' bd' h g1 g2 g3 g4 (ch_s e0 e2 e3 e4 ez hb)
/-! dayEnds: the reference -/
theorem qLs_s {q : Int × Int} {w k : Int} {ls : List (Option AV)} (hl : ab_L (qLs (.inr q) (xI w) (xI k)) ls) : ∃ n bd : Int, (q.1 ≤ n ∧ n ≤ q.2 ∧ 0 ≤ bd ∧ bd ≤ 9999) ∧ ls = [some (vR 76), some (vI w), some (vI n), some (vI bd), some (vI 0), some (vI k)] := by
  obtain ⟨a1, l1, rfl, ⟨u1, rfl, z1⟩, a2, l2, rfl, ⟨u2, rfl, z2⟩, a3, l3, rfl, ⟨u3, rfl, z3⟩, a4, l4, rfl, ⟨u4, rfl, z4⟩, a5, l5, rfl, ⟨u5, rfl, z5⟩, a6, l6, rfl, ⟨u6, rfl, z6⟩, z7⟩ := hl
  have z1 : u1 = _ := z1
  have z2 : u2 = _ := z2
  have z5 : u5 = _ := z5
  have z6 : u6 = _ := z6
  have z7 : l6 = [] := z7
  obtain ⟨n, z3, g1, g2⟩ := z3
  obtain ⟨bd, z4, g3, g4⟩ := z4
  exact ⟨n, bd, ⟨g1, g2, g3, g4⟩, by rw [z1, z2, z3, z4, z5, z6, z7]⟩
theorem eqZ_T : eqZ (bx bxT) (bx bxT) = true := by decide +kernel
set_option maxHeartbeats 4000000 in
theorem dq_in (Q : Option AV → AH → Prop) (hQ : ∀ h', ab_H (bWs, bx bxT) h' → Q (some (vI 0)) h') (w : Int) (w1 : 1 ≤ w) (w9 : w ≤ 9) : ∀ (j k : Nat) (n bd : Int) (h : AH), k + j = 200 → 1 ≤ n → n ≤ 200 → 0 ≤ bd → bd ≤ 9999 → ab_H (qDs (xI w) (xI (k : Int)), bx bxT) h → XP 998 287 23 [some (vR 76), some (vI w), some (vI n), some (vI bd), some (vI 0), some (vI (k : Int))] [] h Q := by
  have hE : ∀ (n bd k : Int) (h : AH), 1 ≤ n → n ≤ 200 → 0 ≤ bd → bd ≤ 9999 → 0 ≤ k → k ≤ 200 → ab_H (qDs (xI w) (.inr (0, 200)), bx bxT) h → XP 998 287 63 [some (vR 76), some (vI w), some (vI n), some (vI bd), some (vI 0), some (vI k)] [] h Q := by
    intro n bd k h n1 n2 d1 d2 k1 k2 hb
    have hck := qE_nine w w1 w9
    unfold qE at hck
    rw [achF_eq] at hck
    refine achk_s nt2_s _ _ _ _ _ _ _ _ _ _ hck _ [] h Q ⟨_, _, rfl, ⟨_, rfl, rfl⟩, _, _, rfl, ⟨_, rfl, rfl⟩, _, _, rfl, ⟨_, rfl, ab_rg n1 n2⟩, _, _, rfl, ⟨_, rfl, ab_rg d1 d2⟩, _, _, rfl, ⟨_, rfl, rfl⟩, _, _, rfl, ⟨_, rfl, ab_rg k1 k2⟩, rfl⟩ rfl hb (fun _ _ _ _ _ _ z => by cases z) (fun r b v h hr ho hb => ?_)
    rw [Bool.and_eq_true, Bool.and_eq_true, decide_eq_true_eq] at hr
    obtain ⟨rfl, h4, hz⟩ := hr
    obtain ⟨u, rfl, hu⟩ := ho
    have hu : u = vI 0 := hu
    rw [hu]
    exact hQ h (bWs_s h4 hz hb)
  intro j
  induction j with
  | zero =>
    intro k n bd h hk n1 n2 d1 d2 hb
    have hc : n ≤ (k : Int) := by omega
    have k1 : (0 : Int) ≤ (k : Int) := by omega
    have k2 : (k : Int) ≤ 200 := by omega
    have hw := List.all_eq_true.mp (qW_nine w w1 w9) k (List.mem_range'_1.mpr ⟨by omega, by omega⟩)
    have hx := hE n bd k h n1 n2 d1 d2 k1 k2 (lw_4 (b := (qDs (xI w) (xI (k : Int)), bx bxT)) hw eqZ_T hb)
    refine xpk_sound (stops := [63]) (n := 8) ?_
    simp only [sk_0, sk_1, sk_2, sk_3, sk_4, sk_5, sk_6, sk_7, sk_8, sk_iadd, sk_isub, sk_imul, sk_iand, sk_ior, sk_ixor, sk_ishl, sk_ishr, sk_iushr, sk_idiv, sk_irem, sk_ineg, sk_ladd, sk_lsub, sk_lmul, sk_land, sk_lor, sk_ldiv, sk_lrem, sk_lneg, sk_lshl, sk_lshr, sk_i2l, sk_l2i, sk_lcmp, sk_dupI, sk_dupR, sk_dup2L, sk_dup2I, sk_popI, sk_ifeq, sk_ifne, sk_iflt, sk_ifge, sk_ifgt, sk_ifle, sk_iceq, sk_icne, sk_iclt, sk_icge, sk_icgt, sk_icle, sk_goto, sk_getf, sk_putf, sk_gets, sk_iald, sk_lald, sk_bald, sk_aald, sk_iast, sk_last, sk_bast, sk_aast, sk_alen, sk_newa, sk_newt, sk_new, sk_cs1, sk_cs2, sk_cs3, sk_cs4, sk_cs5, sk_cs6, sk_cv1, sk_cv2, sk_cv3, sk_cv4, sk_cv5, sk_cv6, sk_ci1, sk_ci2, sk_ci3, sk_ret0, sk_retI, sk_retL, sk_retR, sk_sw, sk_oin, sk_max, sk_min, sk_abs, lI_0, lI_s, lL_0, lL_s, lR_0, lR_s, vIo_e, vLo_e, vOo_e, stW_I, stW_L, stW_R, stW_0, stW_z, okSt_0, okSt_s, hV_eq, hK_eq, okF_0, okF_1, okF_3, is01_0, is01_1, is01_i, Int.toNat_natCast, Int.reduceEq, Int.reduceLE, Int.reduceLT, Int.reduceNeg, Nat.reduceLT, not_true_eq_false, not_false_eq_true, reduceIte, Option.toList, List.cons_append, List.nil_append, List.set_cons_zero, List.set_cons_succ, List.not_mem_nil, List.mem_cons, if_false, if_true, ite_true, ite_false, and_self, and_true, true_and, Nat.reduceAdd, Nat.reduceLeDiff, Nat.reduceEqDiff, Nat.zero_add, Nat.le_refl, Nat.zero_le, or_false, false_or, Int.reduceToNat, or_true, true_or, eq_self, and_false, false_and, inR_d, nc_4, nc_5, nc_6, nc_7, nc_8, nc_16, nc_18, nc_20, nc_24, nc_32, nc_40, nc_64, nc_104, nc_120, nc_160, nc_256, nc_300, nc_330, nc_390, nc_1200, nc_1260, nc_3012, nc_9834, okSt_1i, okSt_1r, okSt_1n, xpk_succ cd_287_0, xpk_succ cd_287_1, xpk_succ cd_287_4, xpk_succ cd_287_5, xpk_succ cd_287_8, xpk_succ cd_287_10, xpk_succ cd_287_11, xpk_succ cd_287_12, xpk_succ cd_287_13, xpk_succ cd_287_14, xpk_succ cd_287_17, xpk_succ cd_287_18, xpk_succ cd_287_20, xpk_succ cd_287_21, xpk_succ cd_287_23, xpk_succ cd_287_25, xpk_succ cd_287_26, xpk_succ cd_287_29, xpk_succ cd_287_31, xpk_succ cd_287_34, xpk_succ cd_287_35, xpk_succ cd_287_36, xpk_succ cd_287_39, xpk_succ cd_287_40, xpk_succ cd_287_43, xpk_succ cd_287_46, xpk_succ cd_287_47, xpk_succ cd_287_50, xpk_succ cd_287_51, xpk_succ cd_287_54, xpk_succ cd_287_55, xpk_succ cd_287_57, xpk_succ cd_287_60, xpk_succ cd_287_63, xpk_succ cd_287_64, xpk_succ cd_287_67, xpk_succ cd_287_69, hc]
    exact hx
  | succ j ih =>
    intro k n bd h hk n1 n2 d1 d2 hb
    by_cases hc : n ≤ (k : Int)
    · have k1 : (0 : Int) ≤ (k : Int) := by omega
      have k2 : (k : Int) ≤ 200 := by omega
      have hw := List.all_eq_true.mp (qW_nine w w1 w9) k (List.mem_range'_1.mpr ⟨by omega, by omega⟩)
      have hx := hE n bd k h n1 n2 d1 d2 k1 k2 (lw_4 (b := (qDs (xI w) (xI (k : Int)), bx bxT)) hw eqZ_T hb)
      refine xpk_sound (stops := [63]) (n := 8) ?_
      simp only [sk_0, sk_1, sk_2, sk_3, sk_4, sk_5, sk_6, sk_7, sk_8, sk_iadd, sk_isub, sk_imul, sk_iand, sk_ior, sk_ixor, sk_ishl, sk_ishr, sk_iushr, sk_idiv, sk_irem, sk_ineg, sk_ladd, sk_lsub, sk_lmul, sk_land, sk_lor, sk_ldiv, sk_lrem, sk_lneg, sk_lshl, sk_lshr, sk_i2l, sk_l2i, sk_lcmp, sk_dupI, sk_dupR, sk_dup2L, sk_dup2I, sk_popI, sk_ifeq, sk_ifne, sk_iflt, sk_ifge, sk_ifgt, sk_ifle, sk_iceq, sk_icne, sk_iclt, sk_icge, sk_icgt, sk_icle, sk_goto, sk_getf, sk_putf, sk_gets, sk_iald, sk_lald, sk_bald, sk_aald, sk_iast, sk_last, sk_bast, sk_aast, sk_alen, sk_newa, sk_newt, sk_new, sk_cs1, sk_cs2, sk_cs3, sk_cs4, sk_cs5, sk_cs6, sk_cv1, sk_cv2, sk_cv3, sk_cv4, sk_cv5, sk_cv6, sk_ci1, sk_ci2, sk_ci3, sk_ret0, sk_retI, sk_retL, sk_retR, sk_sw, sk_oin, sk_max, sk_min, sk_abs, lI_0, lI_s, lL_0, lL_s, lR_0, lR_s, vIo_e, vLo_e, vOo_e, stW_I, stW_L, stW_R, stW_0, stW_z, okSt_0, okSt_s, hV_eq, hK_eq, okF_0, okF_1, okF_3, is01_0, is01_1, is01_i, Int.toNat_natCast, Int.reduceEq, Int.reduceLE, Int.reduceLT, Int.reduceNeg, Nat.reduceLT, not_true_eq_false, not_false_eq_true, reduceIte, Option.toList, List.cons_append, List.nil_append, List.set_cons_zero, List.set_cons_succ, List.not_mem_nil, List.mem_cons, if_false, if_true, ite_true, ite_false, and_self, and_true, true_and, Nat.reduceAdd, Nat.reduceLeDiff, Nat.reduceEqDiff, Nat.zero_add, Nat.le_refl, Nat.zero_le, or_false, false_or, Int.reduceToNat, or_true, true_or, eq_self, and_false, false_and, inR_d, nc_4, nc_5, nc_6, nc_7, nc_8, nc_16, nc_18, nc_20, nc_24, nc_32, nc_40, nc_64, nc_104, nc_120, nc_160, nc_256, nc_300, nc_330, nc_390, nc_1200, nc_1260, nc_3012, nc_9834, okSt_1i, okSt_1r, okSt_1n, xpk_succ cd_287_0, xpk_succ cd_287_1, xpk_succ cd_287_4, xpk_succ cd_287_5, xpk_succ cd_287_8, xpk_succ cd_287_10, xpk_succ cd_287_11, xpk_succ cd_287_12, xpk_succ cd_287_13, xpk_succ cd_287_14, xpk_succ cd_287_17, xpk_succ cd_287_18, xpk_succ cd_287_20, xpk_succ cd_287_21, xpk_succ cd_287_23, xpk_succ cd_287_25, xpk_succ cd_287_26, xpk_succ cd_287_29, xpk_succ cd_287_31, xpk_succ cd_287_34, xpk_succ cd_287_35, xpk_succ cd_287_36, xpk_succ cd_287_39, xpk_succ cd_287_40, xpk_succ cd_287_43, xpk_succ cd_287_46, xpk_succ cd_287_47, xpk_succ cd_287_50, xpk_succ cd_287_51, xpk_succ cd_287_54, xpk_succ cd_287_55, xpk_succ cd_287_57, xpk_succ cd_287_60, xpk_succ cd_287_63, xpk_succ cd_287_64, xpk_succ cd_287_67, xpk_succ cd_287_69, hc]
      exact hx
    · have hck := qA_all w w1 w9 k (by omega)
      unfold qA at hck
      rw [achF_eq] at hck
      refine achk_s nt2_s _ _ _ _ _ _ _ _ _ _ hck _ [] h Q ⟨_, _, rfl, ⟨_, rfl, rfl⟩, _, _, rfl, ⟨_, rfl, rfl⟩, _, _, rfl, ⟨_, rfl, ab_rg (by omega) n2⟩, _, _, rfl, ⟨_, rfl, ab_rg d1 d2⟩, _, _, rfl, ⟨_, rfl, rfl⟩, _, _, rfl, ⟨_, rfl, rfl⟩, rfl⟩ rfl hb (fun als ast b ls st h hk' hl hs hb => ?_) (fun _ _ _ _ z => by cases z)
      unfold qKS at hk'
      rw [Bool.and_eq_true, Bool.and_eq_true, Bool.and_eq_true, decide_eq_true_eq, decide_eq_true_eq] at hk'
      obtain ⟨⟨rfl, rfl⟩, e4, ez⟩ := hk'
      have hs : st = [] := hs
      subst hs
      obtain ⟨n', bd', ⟨g1, g2, g3, g4⟩, rfl⟩ := qLs_s hl
      have g1 : (k : Int) + 1 ≤ n' := g1
      exact ih (k + 1) n' bd' h (by omega) (by omega) g2 g3 g4 (lw_4 e4 ez hb)
theorem X_tooM {h : AH} {w n bd : Int} (hb : ab_H (bWs, bx bxT) h) (w1 : 1 ≤ w) (w9 : w ≤ 9) (n1 : 1 ≤ n) (n2 : n ≤ 200) (d1 : 0 ≤ bd) (d2 : bd ≤ 9999) : ∃ h', ab_H (bWs, bx bxT) h' ∧ ∀ Q : Option AV → AH → Prop, XC 999 287 [vR 76, vI w, vI n, vI bd] h Q = Q (some (vI 0)) h' := by
  refine XC_ex (d := 998) (XC_of (Nat.le_of_ble_eq_true rfl) ?_)
  show XP 998 287 0 [some (vR 76), some (vI w), some (vI n), some (vI bd), none, none] [] h _
  have hck := qB_nine w w1 w9
  unfold qB at hck
  rw [achF_eq] at hck
  refine achk_s nt2_s _ _ _ _ _ _ _ _ _ _ hck _ [] h _ ⟨_, _, rfl, ⟨_, rfl, rfl⟩, _, _, rfl, ⟨_, rfl, rfl⟩, _, _, rfl, ⟨_, rfl, ab_rg n1 n2⟩, _, _, rfl, ⟨_, rfl, ab_rg d1 d2⟩, _, _, rfl, rfl, _, _, rfl, rfl, rfl⟩ rfl hb (fun als ast b ls st h hk' hl hs hb => ?_) (fun _ _ _ _ z => by cases z)
  unfold qKS at hk'
  rw [Bool.and_eq_true, Bool.and_eq_true, Bool.and_eq_true, decide_eq_true_eq, decide_eq_true_eq] at hk'
  obtain ⟨⟨rfl, rfl⟩, e4, ez⟩ := hk'
  have hs : st = [] := hs
  subst hs
  obtain ⟨n', bd', ⟨g1, g2, g3, g4⟩, rfl⟩ := qLs_s hl
  exact dq_in _ (fun h' a => ⟨rfl, a⟩) w w1 w9 200 0 n' bd' h rfl g1 g2 g3 g4 (lw_4 e4 ez hb)
set_option maxHeartbeats 4000000 in
theorem dm_loop (n bd : Int) (n1 : 1 ≤ n) (n2 : n ≤ 200) (d1 : 0 ≤ bd) (d2 : bd ≤ 9999) (Q : Option AV → AH → Prop) (hQ : ∀ h', ab_H (bWs, bx bxT) h' → Q (some (vI (-1))) h') : ∀ (j : Nat) (w : Int) (h : AH), w + (j : Int) = 10 → 1 ≤ w → ab_H (bWs, bx bxT) h → XP 999 299 26 [some (vR 76), some (vI n), some (vI bd), some (vI w)] [] h Q := by
  intro j
  induction j with
  | zero =>
    intro w h hw w1 hb
    have hw : w = 10 := by omega
    subst hw
    have hx := hQ h hb
    refine xpk_sound (stops := []) (n := 12) ?_
    simp only [sk_0, sk_1, sk_2, sk_3, sk_4, sk_5, sk_6, sk_7, sk_8, sk_iadd, sk_isub, sk_imul, sk_iand, sk_ior, sk_ixor, sk_ishl, sk_ishr, sk_iushr, sk_idiv, sk_irem, sk_ineg, sk_ladd, sk_lsub, sk_lmul, sk_land, sk_lor, sk_ldiv, sk_lrem, sk_lneg, sk_lshl, sk_lshr, sk_i2l, sk_l2i, sk_lcmp, sk_dupI, sk_dupR, sk_dup2L, sk_dup2I, sk_popI, sk_ifeq, sk_ifne, sk_iflt, sk_ifge, sk_ifgt, sk_ifle, sk_iceq, sk_icne, sk_iclt, sk_icge, sk_icgt, sk_icle, sk_goto, sk_getf, sk_putf, sk_gets, sk_iald, sk_lald, sk_bald, sk_aald, sk_iast, sk_last, sk_bast, sk_aast, sk_alen, sk_newa, sk_newt, sk_new, sk_cs1, sk_cs2, sk_cs3, sk_cs4, sk_cs5, sk_cs6, sk_cv1, sk_cv2, sk_cv3, sk_cv4, sk_cv5, sk_cv6, sk_ci1, sk_ci2, sk_ci3, sk_ret0, sk_retI, sk_retL, sk_retR, sk_sw, sk_oin, sk_max, sk_min, sk_abs, lI_0, lI_s, lL_0, lL_s, lR_0, lR_s, vIo_e, vLo_e, vOo_e, stW_I, stW_L, stW_R, stW_0, stW_z, okSt_0, okSt_s, hV_eq, hK_eq, okF_0, okF_1, okF_3, is01_0, is01_1, is01_i, Int.toNat_natCast, Int.reduceEq, Int.reduceLE, Int.reduceLT, Int.reduceNeg, Nat.reduceLT, not_true_eq_false, not_false_eq_true, reduceIte, Option.toList, List.cons_append, List.nil_append, List.set_cons_zero, List.set_cons_succ, List.not_mem_nil, List.mem_cons, if_false, if_true, ite_true, ite_false, and_self, and_true, true_and, Nat.reduceAdd, Nat.reduceLeDiff, Nat.reduceEqDiff, Nat.zero_add, Nat.le_refl, Nat.zero_le, or_false, false_or, Int.reduceToNat, or_true, true_or, eq_self, and_false, false_and, inR_d, nc_4, nc_5, nc_6, nc_7, nc_8, nc_16, nc_18, nc_20, nc_24, nc_32, nc_40, nc_64, nc_104, nc_120, nc_160, nc_256, nc_300, nc_330, nc_390, nc_1200, nc_1260, nc_3012, nc_9834, okSt_1i, okSt_1r, okSt_1n, xpk_succ cd_299_0, xpk_succ cd_299_1, xpk_succ cd_299_2, xpk_succ cd_299_5, xpk_succ cd_299_8, xpk_succ cd_299_11, xpk_succ cd_299_12, xpk_succ cd_299_13, xpk_succ cd_299_16, xpk_succ cd_299_19, xpk_succ cd_299_22, xpk_succ cd_299_23, xpk_succ cd_299_24, xpk_succ cd_299_25, xpk_succ cd_299_26, xpk_succ cd_299_27, xpk_succ cd_299_29, xpk_succ cd_299_32, xpk_succ cd_299_33, xpk_succ cd_299_34, xpk_succ cd_299_35, xpk_succ cd_299_36, xpk_succ cd_299_39, xpk_succ cd_299_42, xpk_succ cd_299_43, xpk_succ cd_299_44, xpk_succ cd_299_47, xpk_succ cd_299_50, xpk_succ cd_299_51]
    exact hx
  | succ j ih =>
    intro w h hw w1 hb
    have hc : ¬ 10 ≤ w := by omega
    have hy : w32 (w + 1) = w + 1 := by unfold w32; omega
    have k0 := kdI_s (k := 76) (kd := 10) (len := 0) hb (by decide +kernel)
    obtain ⟨h2, hb2, e2⟩ := X_tooM (w := w) hb w1 (by omega) n1 n2 d1 d2
    have hx := ih (w + 1) h2 (by omega) (by omega) hb2
    refine xpk_sound (stops := [26]) (n := 20) ?_
    simp only [sk_0, sk_1, sk_2, sk_3, sk_4, sk_5, sk_6, sk_7, sk_8, sk_iadd, sk_isub, sk_imul, sk_iand, sk_ior, sk_ixor, sk_ishl, sk_ishr, sk_iushr, sk_idiv, sk_irem, sk_ineg, sk_ladd, sk_lsub, sk_lmul, sk_land, sk_lor, sk_ldiv, sk_lrem, sk_lneg, sk_lshl, sk_lshr, sk_i2l, sk_l2i, sk_lcmp, sk_dupI, sk_dupR, sk_dup2L, sk_dup2I, sk_popI, sk_ifeq, sk_ifne, sk_iflt, sk_ifge, sk_ifgt, sk_ifle, sk_iceq, sk_icne, sk_iclt, sk_icge, sk_icgt, sk_icle, sk_goto, sk_getf, sk_putf, sk_gets, sk_iald, sk_lald, sk_bald, sk_aald, sk_iast, sk_last, sk_bast, sk_aast, sk_alen, sk_newa, sk_newt, sk_new, sk_cs1, sk_cs2, sk_cs3, sk_cs4, sk_cs5, sk_cs6, sk_cv1, sk_cv2, sk_cv3, sk_cv4, sk_cv5, sk_cv6, sk_ci1, sk_ci2, sk_ci3, sk_ret0, sk_retI, sk_retL, sk_retR, sk_sw, sk_oin, sk_max, sk_min, sk_abs, lI_0, lI_s, lL_0, lL_s, lR_0, lR_s, vIo_e, vLo_e, vOo_e, stW_I, stW_L, stW_R, stW_0, stW_z, okSt_0, okSt_s, hV_eq, hK_eq, okF_0, okF_1, okF_3, is01_0, is01_1, is01_i, Int.toNat_natCast, Int.reduceEq, Int.reduceLE, Int.reduceLT, Int.reduceNeg, Nat.reduceLT, not_true_eq_false, not_false_eq_true, reduceIte, Option.toList, List.cons_append, List.nil_append, List.set_cons_zero, List.set_cons_succ, List.not_mem_nil, List.mem_cons, if_false, if_true, ite_true, ite_false, and_self, and_true, true_and, Nat.reduceAdd, Nat.reduceLeDiff, Nat.reduceEqDiff, Nat.zero_add, Nat.le_refl, Nat.zero_le, or_false, false_or, Int.reduceToNat, or_true, true_or, eq_self, and_false, false_and, inR_d, nc_4, nc_5, nc_6, nc_7, nc_8, nc_16, nc_18, nc_20, nc_24, nc_32, nc_40, nc_64, nc_104, nc_120, nc_160, nc_256, nc_300, nc_330, nc_390, nc_1200, nc_1260, nc_3012, nc_9834, okSt_1i, okSt_1r, okSt_1n, xpk_succ cd_299_0, xpk_succ cd_299_1, xpk_succ cd_299_2, xpk_succ cd_299_5, xpk_succ cd_299_8, xpk_succ cd_299_11, xpk_succ cd_299_12, xpk_succ cd_299_13, xpk_succ cd_299_16, xpk_succ cd_299_19, xpk_succ cd_299_22, xpk_succ cd_299_23, xpk_succ cd_299_24, xpk_succ cd_299_25, xpk_succ cd_299_26, xpk_succ cd_299_27, xpk_succ cd_299_29, xpk_succ cd_299_32, xpk_succ cd_299_33, xpk_succ cd_299_34, xpk_succ cd_299_35, xpk_succ cd_299_36, xpk_succ cd_299_39, xpk_succ cd_299_42, xpk_succ cd_299_43, xpk_succ cd_299_44, xpk_succ cd_299_47, xpk_succ cd_299_50, xpk_succ cd_299_51, hc, hy, k0, e2]
    exact hx
set_option maxHeartbeats 4000000 in
theorem X_deM {h : AH} {n bd : Int} (hb : ab_H (bc1, bx bxT) h) (n1 : 1 ≤ n) (n2 : n ≤ 200) (d1 : 0 ≤ bd) (d2 : bd ≤ 9999) : ∃ h', (hN h' = 93 ∧ hS h' = 32805 ∧ hK h' 1000100 = (20, 6)) ∧ ∀ Q : Option AV → AH → Prop, XC 1000 299 [vR 76, vI n, vI bd] h Q = Q (some (vI (-1))) h' := by
  have hb1 : ab_H (bWs, bx bxT) h := bWs_s (b := (bc1, bx bxT)) (by decide +kernel) eqZ_T hb
  refine XC_ex (d := 999) (XC_of (Nat.le_of_ble_eq_true rfl) ?_)
  have hloop := dm_loop n bd n1 n2 d1 d2 (fun r h' => r = some (vI (-1)) ∧ (hN h' = 93 ∧ hS h' = 32805 ∧ hK h' 1000100 = (20, 6))) (fun h' a => ⟨rfl, a.1, a.2.1, kdI_s a (by decide +kernel)⟩) 9 1 h (by omega) (by omega) hb1
  have q1 : 1 ≤ n ∧ n ≤ 200 := ⟨n1, n2⟩
  have q2 : 0 ≤ bd ∧ bd ≤ 9999 := ⟨d1, d2⟩
  refine xpk_sound (stops := [26]) (n := 30) ?_
  show xpk [26] 30 999 299 0 [some (vR 76), some (vI n), some (vI bd), none] [] h _
  simp only [sk_0, sk_1, sk_2, sk_3, sk_4, sk_5, sk_6, sk_7, sk_8, sk_iadd, sk_isub, sk_imul, sk_iand, sk_ior, sk_ixor, sk_ishl, sk_ishr, sk_iushr, sk_idiv, sk_irem, sk_ineg, sk_ladd, sk_lsub, sk_lmul, sk_land, sk_lor, sk_ldiv, sk_lrem, sk_lneg, sk_lshl, sk_lshr, sk_i2l, sk_l2i, sk_lcmp, sk_dupI, sk_dupR, sk_dup2L, sk_dup2I, sk_popI, sk_ifeq, sk_ifne, sk_iflt, sk_ifge, sk_ifgt, sk_ifle, sk_iceq, sk_icne, sk_iclt, sk_icge, sk_icgt, sk_icle, sk_goto, sk_getf, sk_putf, sk_gets, sk_iald, sk_lald, sk_bald, sk_aald, sk_iast, sk_last, sk_bast, sk_aast, sk_alen, sk_newa, sk_newt, sk_new, sk_cs1, sk_cs2, sk_cs3, sk_cs4, sk_cs5, sk_cs6, sk_cv1, sk_cv2, sk_cv3, sk_cv4, sk_cv5, sk_cv6, sk_ci1, sk_ci2, sk_ci3, sk_ret0, sk_retI, sk_retL, sk_retR, sk_sw, sk_oin, sk_max, sk_min, sk_abs, lI_0, lI_s, lL_0, lL_s, lR_0, lR_s, vIo_e, vLo_e, vOo_e, stW_I, stW_L, stW_R, stW_0, stW_z, okSt_0, okSt_s, hV_eq, hK_eq, okF_0, okF_1, okF_3, is01_0, is01_1, is01_i, Int.toNat_natCast, Int.reduceEq, Int.reduceLE, Int.reduceLT, Int.reduceNeg, Nat.reduceLT, not_true_eq_false, not_false_eq_true, reduceIte, Option.toList, List.cons_append, List.nil_append, List.set_cons_zero, List.set_cons_succ, List.not_mem_nil, List.mem_cons, if_false, if_true, ite_true, ite_false, and_self, and_true, true_and, Nat.reduceAdd, Nat.reduceLeDiff, Nat.reduceEqDiff, Nat.zero_add, Nat.le_refl, Nat.zero_le, or_false, false_or, Int.reduceToNat, or_true, true_or, eq_self, and_false, false_and, inR_d, nc_4, nc_5, nc_6, nc_7, nc_8, nc_16, nc_18, nc_20, nc_24, nc_32, nc_40, nc_64, nc_104, nc_120, nc_160, nc_256, nc_300, nc_330, nc_390, nc_1200, nc_1260, nc_3012, nc_9834, okSt_1i, okSt_1r, okSt_1n, xpk_succ cd_299_0, xpk_succ cd_299_1, xpk_succ cd_299_2, xpk_succ cd_299_5, xpk_succ cd_299_8, xpk_succ cd_299_11, xpk_succ cd_299_12, xpk_succ cd_299_13, xpk_succ cd_299_16, xpk_succ cd_299_19, xpk_succ cd_299_22, xpk_succ cd_299_23, xpk_succ cd_299_24, xpk_succ cd_299_25, xpk_succ cd_299_26, xpk_succ cd_299_27, xpk_succ cd_299_29, xpk_succ cd_299_32, xpk_succ cd_299_33, xpk_succ cd_299_34, xpk_succ cd_299_35, xpk_succ cd_299_36, xpk_succ cd_299_39, xpk_succ cd_299_42, xpk_succ cd_299_43, xpk_succ cd_299_44, xpk_succ cd_299_47, xpk_succ cd_299_50, xpk_succ cd_299_51, X_isIn, q1, q2]
  exact hloop
set_option maxHeartbeats 4000000 in
theorem law_27 {xs : Nat → Int} {h h1 h2 : AH} {r : Int} (k0 : hK h 0 = (9, 0)) (ks : hK h 1000100 = (20, 6)) (k76 : hK h1 76 = (10, 0)) (ks' : hK h1 1000100 = (20, 6)) (s1 : hV h 1000100 1 = vI (xs 1)) (t1 : hV h1 1000100 1 = vI (xs 1)) (s2 : hV h 1000100 2 = vI (xs 2)) (t2 : hV h1 1000100 2 = vI (xs 2))
    (e1 : ∀ Q, XC 1000 152 [vR 0, vI (xs 1), vI (xs 2)] h Q = Q (some (vI r)) h1) (e2 : ∀ Q, XC 1000 299 [vR 76, vI (xs 1), vI (xs 2)] h1 Q = Q (some (vI r)) h2) (hend : XP 1000 321 1541 lsc [] h2 lwQ) : XP 1000 321 1002 lsc [] h lwQ := by
  have w1 := w32_i (k := 1) (by decide) (by decide)
  have w2 := w32_i (k := 2) (by decide) (by decide)
  refine xpk_sound (stops := [1541]) (n := 70) ?_
  show xpk [1541] 70 1000 321 1002 [some (vR 1000100), some (vR 0), some (vR 76), some (vI 0)] [] h _
  simp only [sk_0, sk_1, sk_2, sk_3, sk_4, sk_5, sk_6, sk_7, sk_8, sk_iadd, sk_isub, sk_imul, sk_iand, sk_ior, sk_ixor, sk_ishl, sk_ishr, sk_iushr, sk_idiv, sk_irem, sk_ineg, sk_ladd, sk_lsub, sk_lmul, sk_land, sk_lor, sk_ldiv, sk_lrem, sk_lneg, sk_lshl, sk_lshr, sk_i2l, sk_l2i, sk_lcmp, sk_dupI, sk_dupR, sk_dup2L, sk_dup2I, sk_popI, sk_ifeq, sk_ifne, sk_iflt, sk_ifge, sk_ifgt, sk_ifle, sk_iceq, sk_icne, sk_iclt, sk_icge, sk_icgt, sk_icle, sk_goto, sk_getf, sk_putf, sk_gets, sk_iald, sk_lald, sk_bald, sk_aald, sk_iast, sk_last, sk_bast, sk_aast, sk_alen, sk_newa, sk_newt, sk_new, sk_cs1, sk_cs2, sk_cs3, sk_cs4, sk_cs5, sk_cs6, sk_cv1, sk_cv2, sk_cv3, sk_cv4, sk_cv5, sk_cv6, sk_ci1, sk_ci2, sk_ci3, sk_ret0, sk_retI, sk_retL, sk_retR, sk_sw, sk_oin, sk_max, sk_min, sk_abs, lI_0, lI_s, lL_0, lL_s, lR_0, lR_s, vIo_e, vLo_e, vOo_e, stW_I, stW_L, stW_R, stW_0, stW_z, okSt_0, okSt_s, hV_eq, hK_eq, okF_0, okF_1, okF_3, is01_0, is01_1, is01_i, Int.toNat_natCast, Int.reduceEq, Int.reduceLE, Int.reduceLT, Int.reduceNeg, Nat.reduceLT, not_true_eq_false, not_false_eq_true, reduceIte, Option.toList, List.cons_append, List.nil_append, List.set_cons_zero, List.set_cons_succ, List.not_mem_nil, List.mem_cons, if_false, if_true, ite_true, ite_false, and_self, and_true, true_and, Nat.reduceAdd, Nat.reduceLeDiff, Nat.reduceEqDiff, Nat.zero_add, Nat.le_refl, Nat.zero_le, or_false, false_or, Int.reduceToNat, or_true, true_or, eq_self, and_false, false_and, inR_d, nc_4, nc_5, nc_6, nc_7, nc_8, nc_16, nc_18, nc_20, nc_24, nc_32, nc_40, nc_64, nc_104, nc_120, nc_160, nc_256, nc_300, nc_330, nc_390, nc_1200, nc_1260, nc_3012, nc_9834, okSt_1i, okSt_1r, okSt_1n, xpk_succ cd_321_1002, xpk_succ cd_321_1003, xpk_succ cd_321_1004, xpk_succ cd_321_1005, xpk_succ cd_321_1006, xpk_succ cd_321_1007, xpk_succ cd_321_1008, xpk_succ cd_321_1009, xpk_succ cd_321_1010, xpk_succ cd_321_1011, xpk_succ cd_321_1012, xpk_succ cd_321_1013, xpk_succ cd_321_1016, xpk_succ cd_321_1017, xpk_succ cd_321_1018, xpk_succ cd_321_1019, xpk_succ cd_321_1020, xpk_succ cd_321_1021, xpk_succ cd_321_1022, xpk_succ cd_321_1023, xpk_succ cd_321_1024, xpk_succ cd_321_1025, xpk_succ cd_321_1026, xpk_succ cd_321_1027, xpk_succ cd_321_1030, xpk_succ cd_321_1033, xpk_succ cd_321_1034, k0, ks, k76, ks', e1, e2, s1, s2, t1, t2, w1, w2]
  exact hend
def cs_27 : List (List AW × AW) := [([xT, .inr (-2147483648, 0), xT, xT, xT, xT], xI (-1)),
  ([xT, .inr (201, 2147483647), xT, xT, xT, xT], xI (-1)),
  ([xT, .inr (1, 200), .inr (-2147483648, -1), xT, xT, xT], xI (-1)),
  ([xT, .inr (1, 200), .inr (10000, 2147483647), xT, xT, xT], xI (-1))]
theorem ck_27 : cb_L nt1 1002 1016 cs_27 = true := by decide +kernel
theorem case_27 {xs : Nat → Int} {h : AH} (hf : FR 6 xs h) (q0 : -2147483648 ≤ xs 0 ∧ xs 0 ≤ 2147483647) (q1 : -2147483648 ≤ xs 1 ∧ xs 1 ≤ 2147483647) (q2 : -2147483648 ≤ xs 2 ∧ xs 2 ≤ 2147483647) (q3 : -2147483648 ≤ xs 3 ∧ xs 3 ≤ 2147483647) (q4 : -2147483648 ≤ xs 4 ∧ xs 4 ≤ 2147483647) (q5 : -2147483648 ≤ xs 5 ∧ xs 5 ≤ 2147483647) : XP 1000 321 1002 lsc [] h lwQ := by
  by_cases y1 : xs 1 ≤ 0
  · exact leaf2 nt1_s ck_27 hf 0 rfl (ab_rg (by omega) (by omega)) (ab_rg (by omega) (by omega)) (ab_rg (by omega) (by omega)) (ab_rg (by omega) (by omega)) (ab_rg (by omega) (by omega)) (ab_rg (by omega) (by omega))
  by_cases y2 : 201 ≤ xs 1
  · exact leaf2 nt1_s ck_27 hf 1 rfl (ab_rg (by omega) (by omega)) (ab_rg (by omega) (by omega)) (ab_rg (by omega) (by omega)) (ab_rg (by omega) (by omega)) (ab_rg (by omega) (by omega)) (ab_rg (by omega) (by omega))
  by_cases y3 : xs 2 ≤ -1
  · exact leaf2 nt1_s ck_27 hf 2 rfl (ab_rg (by omega) (by omega)) (ab_rg (by omega) (by omega)) (ab_rg (by omega) (by omega)) (ab_rg (by omega) (by omega)) (ab_rg (by omega) (by omega)) (ab_rg (by omega) (by omega))
  by_cases y4 : 10000 ≤ xs 2
  · exact leaf2 nt1_s ck_27 hf 3 rfl (ab_rg (by omega) (by omega)) (ab_rg (by omega) (by omega)) (ab_rg (by omega) (by omega)) (ab_rg (by omega) (by omega)) (ab_rg (by omega) (by omega)) (ab_rg (by omega) (by omega))
  have hb0 := FR_T hf q0 q1 q2 q3 q4 q5
  have o0 := hf.2.2.1
  obtain ⟨ks, vs⟩ := o0.2 1000100 (Nat.le_of_ble_eq_true rfl)
  have ks : hK h 1000100 = (20, 6) := ks
  have vs : ∀ i, hV h 1000100 i = vI (xs i) := vs
  obtain ⟨h1, hb1, e1⟩ := X_deC (n := xs 1) (bd := xs 2) hb0 (by omega) (by omega) (by omega) (by omega)
  obtain ⟨h2, ⟨n1, n2, n3⟩, e2⟩ := X_deM (n := xs 1) (bd := xs 2) hb1 (by omega) (by omega) (by omega) (by omega)
  have o1 : OUT 6 xs h1 := OUT_XC (d := 999) e1 o0
  obtain ⟨kt, vt⟩ := o1.2 1000100 (Nat.le_of_ble_eq_true rfl)
  have kt : hK h1 1000100 = (20, 6) := kt
  have vt : ∀ i, hV h1 1000100 i = vI (xs i) := vt
  exact law_27 (hf.2.2.2 0 (by decide)).1 ks (kdI_s hb1 (by decide +kernel)) kt (vs 1) (vt 1) (vs 2) (vt 2) e1 e2 (law_end n1 n2 n3)
