set_option maxRecDepth 20000 in
theorem ac_134 : allC[134]? = some cl134 := rfl
theorem cd_134_0 : cd 134 0 = some (4, 1, 0, 0, 0, []) := cd_row ac_134 rfl
theorem cd_134_1 : cd 134 1 = some (2, 2, 1, 0, 0, []) := cd_row ac_134 rfl
theorem cd_134_2 : cd 134 2 = some (46, 5, 173, 2, 9, []) := cd_row ac_134 rfl
theorem cd_134_5 : cd 134 5 = some (20, 8, 11, 1, 0, []) := cd_row ac_134 rfl
theorem cd_134_8 : cd 134 8 = some (0, 10, 0, 0, -2, []) := cd_row ac_134 rfl
theorem cd_134_10 : cd 134 10 = some (40, 11, 0, 0, 0, []) := cd_row ac_134 rfl
theorem cd_134_11 : cd 134 11 = some (4, 12, 0, 0, 0, []) := cd_row ac_134 rfl
theorem cd_134_12 : cd 134 12 = some (23, 15, 9, 2, 0, []) := cd_row ac_134 rfl
theorem cd_134_15 : cd 134 15 = some (2, 16, 1, 0, 0, []) := cd_row ac_134 rfl
theorem cd_134_16 : cd 134 16 = some (29, 17, 0, 0, 0, []) := cd_row ac_134 rfl
theorem cd_134_17 : cd 134 17 = some (7, 18, 2, 0, 0, []) := cd_row ac_134 rfl
theorem cd_134_18 : cd 134 18 = some (0, 19, 0, 0, 0, []) := cd_row ac_134 rfl
theorem cd_134_19 : cd 134 19 = some (5, 20, 3, 0, 0, []) := cd_row ac_134 rfl
theorem cd_134_20 : cd 134 20 = some (2, 21, 3, 0, 0, []) := cd_row ac_134 rfl
theorem cd_134_21 : cd 134 21 = some (4, 22, 2, 0, 0, []) := cd_row ac_134 rfl
theorem cd_134_22 : cd 134 22 = some (23, 25, 6, 6, 0, []) := cd_row ac_134 rfl
theorem cd_134_25 : cd 134 25 = some (21, 28, 51, 3, 0, []) := cd_row ac_134 rfl
theorem cd_134_28 : cd 134 28 = some (2, 29, 3, 0, 0, []) := cd_row ac_134 rfl
theorem cd_134_29 : cd 134 29 = some (0, 31, 0, 0, 24, []) := cd_row ac_134 rfl
theorem cd_134_31 : cd 134 31 = some (21, 34, 51, 3, 0, []) := cd_row ac_134 rfl
theorem cd_134_34 : cd 134 34 = some (4, 35, 0, 0, 0, []) := cd_row ac_134 rfl
theorem cd_134_35 : cd 134 35 = some (4, 36, 2, 0, 0, []) := cd_row ac_134 rfl
theorem cd_134_36 : cd 134 36 = some (2, 37, 3, 0, 0, []) := cd_row ac_134 rfl
theorem cd_134_37 : cd 134 37 = some (46, 40, 135, 3, 9, []) := cd_row ac_134 rfl
theorem cd_134_40 : cd 134 40 = some (20, 43, 45, 1, 0, []) := cd_row ac_134 rfl
theorem cd_134_43 : cd 134 43 = some (2, 44, 3, 0, 0, []) := cd_row ac_134 rfl
theorem cd_134_44 : cd 134 44 = some (40, 45, 0, 0, 0, []) := cd_row ac_134 rfl
theorem cd_134_45 : cd 134 45 = some (8, 48, 3, 0, 1, []) := cd_row ac_134 rfl
theorem cd_134_48 : cd 134 48 = some (22, 51, 20, 0, 0, []) := cd_row ac_134 rfl
theorem cd_134_51 : cd 134 51 = some (0, 52, 0, 0, -1, []) := cd_row ac_134 rfl
theorem cd_134_52 : cd 134 52 = some (40, 53, 0, 0, 0, []) := cd_row ac_134 rfl
set_option maxRecDepth 20000 in
theorem ac_135 : allC[135]? = some cl135 := rfl
theorem cd_135_0 : cd 135 0 = some (4, 1, 1, 0, 0, []) := cd_row ac_135 rfl
theorem cd_135_1 : cd 135 1 = some (2, 2, 2, 0, 0, []) := cd_row ac_135 rfl
theorem cd_135_2 : cd 135 2 = some (0, 3, 0, 0, 0, []) := cd_row ac_135 rfl
theorem cd_135_3 : cd 135 3 = some (46, 6, 92, 3, 6, []) := cd_row ac_135 rfl
theorem cd_135_6 : cd 135 6 = some (5, 7, 3, 0, 0, []) := cd_row ac_135 rfl
theorem cd_135_7 : cd 135 7 = some (4, 8, 1, 0, 0, []) := cd_row ac_135 rfl
theorem cd_135_8 : cd 135 8 = some (2, 9, 2, 0, 0, []) := cd_row ac_135 rfl
theorem cd_135_9 : cd 135 9 = some (46, 12, 91, 2, 6, []) := cd_row ac_135 rfl
theorem cd_135_12 : cd 135 12 = some (43, 76, 177, 0, 0, [(5, 76), (6, 115), (7, 130), (8, 151), (9, 157), (10, 163), (11, 177), (12, 177), (13, 177), (14, 177), (15, 177), (16, 145)]) := cd_row ac_135 rfl
theorem cd_135_76 : cd 135 76 = some (4, 77, 0, 0, 0, []) := cd_row ac_135 rfl
theorem cd_135_77 : cd 135 77 = some (2, 78, 3, 0, 0, []) := cd_row ac_135 rfl
theorem cd_135_78 : cd 135 78 = some (4, 79, 1, 0, 0, []) := cd_row ac_135 rfl
theorem cd_135_79 : cd 135 79 = some (2, 80, 2, 0, 0, []) := cd_row ac_135 rfl
theorem cd_135_80 : cd 135 80 = some (0, 81, 0, 0, 1, []) := cd_row ac_135 rfl
theorem cd_135_81 : cd 135 81 = some (46, 84, 92, 3, 6, []) := cd_row ac_135 rfl
theorem cd_135_84 : cd 135 84 = some (4, 85, 1, 0, 0, []) := cd_row ac_135 rfl
theorem cd_135_85 : cd 135 85 = some (2, 86, 2, 0, 0, []) := cd_row ac_135 rfl
theorem cd_135_86 : cd 135 86 = some (0, 87, 0, 0, 2, []) := cd_row ac_135 rfl
theorem cd_135_87 : cd 135 87 = some (46, 90, 92, 3, 6, []) := cd_row ac_135 rfl
theorem cd_135_90 : cd 135 90 = some (4, 91, 1, 0, 0, []) := cd_row ac_135 rfl
theorem cd_135_91 : cd 135 91 = some (2, 92, 2, 0, 0, []) := cd_row ac_135 rfl
theorem cd_135_92 : cd 135 92 = some (0, 93, 0, 0, 3, []) := cd_row ac_135 rfl
theorem cd_135_93 : cd 135 93 = some (46, 96, 92, 3, 6, []) := cd_row ac_135 rfl
theorem cd_135_96 : cd 135 96 = some (4, 97, 1, 0, 0, []) := cd_row ac_135 rfl
theorem cd_135_97 : cd 135 97 = some (2, 98, 2, 0, 0, []) := cd_row ac_135 rfl
theorem cd_135_98 : cd 135 98 = some (0, 99, 0, 0, 4, []) := cd_row ac_135 rfl
theorem cd_135_99 : cd 135 99 = some (46, 102, 92, 3, 6, []) := cd_row ac_135 rfl
theorem cd_135_102 : cd 135 102 = some (46, 105, 118, 6, 9, []) := cd_row ac_135 rfl
theorem cd_135_105 : cd 135 105 = some (0, 106, 0, 0, -1, []) := cd_row ac_135 rfl
theorem cd_135_106 : cd 135 106 = some (21, 109, 113, 0, 0, []) := cd_row ac_135 rfl
theorem cd_135_109 : cd 135 109 = some (0, 110, 0, 0, 1, []) := cd_row ac_135 rfl
theorem cd_135_110 : cd 135 110 = some (22, 113, 114, 0, 0, []) := cd_row ac_135 rfl
theorem cd_135_113 : cd 135 113 = some (0, 114, 0, 0, 0, []) := cd_row ac_135 rfl
theorem cd_135_114 : cd 135 114 = some (40, 115, 1, 0, 0, []) := cd_row ac_135 rfl
theorem cd_135_115 : cd 135 115 = some (4, 116, 0, 0, 0, []) := cd_row ac_135 rfl
theorem cd_135_116 : cd 135 116 = some (2, 117, 3, 0, 0, []) := cd_row ac_135 rfl
theorem cd_135_117 : cd 135 117 = some (46, 120, 126, 2, 9, []) := cd_row ac_135 rfl
theorem cd_135_120 : cd 135 120 = some (0, 121, 0, 0, -1, []) := cd_row ac_135 rfl
theorem cd_135_121 : cd 135 121 = some (21, 124, 128, 0, 0, []) := cd_row ac_135 rfl
theorem cd_135_124 : cd 135 124 = some (0, 125, 0, 0, 1, []) := cd_row ac_135 rfl
theorem cd_135_125 : cd 135 125 = some (22, 128, 129, 0, 0, []) := cd_row ac_135 rfl
theorem cd_135_128 : cd 135 128 = some (0, 129, 0, 0, 0, []) := cd_row ac_135 rfl
theorem cd_135_129 : cd 135 129 = some (40, 130, 1, 0, 0, []) := cd_row ac_135 rfl
theorem cd_135_130 : cd 135 130 = some (4, 131, 0, 0, 0, []) := cd_row ac_135 rfl
theorem cd_135_131 : cd 135 131 = some (2, 132, 3, 0, 0, []) := cd_row ac_135 rfl
theorem cd_135_132 : cd 135 132 = some (46, 135, 128, 2, 9, []) := cd_row ac_135 rfl
theorem cd_135_135 : cd 135 135 = some (2, 136, 3, 0, 0, []) := cd_row ac_135 rfl
theorem cd_135_136 : cd 135 136 = some (21, 139, 143, 1, 0, []) := cd_row ac_135 rfl
theorem cd_135_139 : cd 135 139 = some (0, 140, 0, 0, 1, []) := cd_row ac_135 rfl
theorem cd_135_140 : cd 135 140 = some (22, 143, 144, 0, 0, []) := cd_row ac_135 rfl
theorem cd_135_143 : cd 135 143 = some (0, 144, 0, 0, 0, []) := cd_row ac_135 rfl
theorem cd_135_144 : cd 135 144 = some (40, 145, 1, 0, 0, []) := cd_row ac_135 rfl
theorem cd_135_145 : cd 135 145 = some (4, 146, 0, 0, 0, []) := cd_row ac_135 rfl
theorem cd_135_146 : cd 135 146 = some (2, 147, 3, 0, 0, []) := cd_row ac_135 rfl
theorem cd_135_147 : cd 135 147 = some (46, 150, 130, 2, 9, []) := cd_row ac_135 rfl
theorem cd_135_150 : cd 135 150 = some (40, 151, 1, 0, 0, []) := cd_row ac_135 rfl
theorem cd_135_151 : cd 135 151 = some (4, 152, 0, 0, 0, []) := cd_row ac_135 rfl
theorem cd_135_152 : cd 135 152 = some (2, 153, 3, 0, 0, []) := cd_row ac_135 rfl
theorem cd_135_153 : cd 135 153 = some (46, 156, 131, 2, 9, []) := cd_row ac_135 rfl
theorem cd_135_156 : cd 135 156 = some (40, 157, 1, 0, 0, []) := cd_row ac_135 rfl
theorem cd_135_157 : cd 135 157 = some (4, 158, 0, 0, 0, []) := cd_row ac_135 rfl
theorem cd_135_158 : cd 135 158 = some (2, 159, 3, 0, 0, []) := cd_row ac_135 rfl
theorem cd_135_159 : cd 135 159 = some (46, 162, 132, 2, 9, []) := cd_row ac_135 rfl
theorem cd_135_162 : cd 135 162 = some (40, 163, 1, 0, 0, []) := cd_row ac_135 rfl
theorem cd_135_163 : cd 135 163 = some (4, 164, 0, 0, 0, []) := cd_row ac_135 rfl
theorem cd_135_164 : cd 135 164 = some (46, 167, 133, 1, 9, []) := cd_row ac_135 rfl
theorem cd_135_167 : cd 135 167 = some (0, 168, 0, 0, -1, []) := cd_row ac_135 rfl
theorem cd_135_168 : cd 135 168 = some (21, 171, 175, 0, 0, []) := cd_row ac_135 rfl
theorem cd_135_171 : cd 135 171 = some (0, 172, 0, 0, 1, []) := cd_row ac_135 rfl
theorem cd_135_172 : cd 135 172 = some (22, 175, 176, 0, 0, []) := cd_row ac_135 rfl
theorem cd_135_175 : cd 135 175 = some (0, 176, 0, 0, 0, []) := cd_row ac_135 rfl
theorem cd_135_176 : cd 135 176 = some (40, 177, 1, 0, 0, []) := cd_row ac_135 rfl
theorem cd_135_177 : cd 135 177 = some (0, 178, 0, 0, 1, []) := cd_row ac_135 rfl
theorem cd_135_178 : cd 135 178 = some (40, 179, 1, 0, 0, []) := cd_row ac_135 rfl
/-! a text of the class, its clauses -/
def TXP (g : AH) (T cnt : Nat) (kd ag : Nat → Int) : Prop := (hK g T = (6, 0) ∧ hK g (T + 4) = (11, 24) ∧ hK g (T + 5) = (11, 120)) ∧ (hV g T 3 = vR (T + 4) ∧ hV g T 4 = vR (T + 5) ∧ hV g T 6 = vI (cnt : Int)) ∧ (∀ i, i < 24 → hV g (T + 4) i = vI (kd i)) ∧ ∀ i, i < 120 → hV g (T + 5) i = vI (ag i)
theorem TXP_J {h : AH} (hJ : k_H JB h) {J cnt : Nat} (hJ4 : J < 4) {kd ag : Nat → Int} (v6 : hV h (22 + 6 * J) 6 = vI (cnt : Int)) (a1 : ∀ i, i < 24 → hV h (22 + 6 * J + 4) i = vI (kd i)) (a2 : ∀ i, i < 120 → hV h (22 + 6 * J + 5) i = vI (ag i)) : TXP h (22 + 6 * J) cnt kd ag := by
  have hJ3 : J = 0 ∨ J = 1 ∨ J = 2 ∨ J = 3 := by omega
  rcases hJ3 with rfl | rfl | rfl | rfl
  · exact ⟨⟨K_22 hJ, K_26 hJ, K_27 hJ⟩, ⟨F_22_3 hJ, F_22_4 hJ, v6⟩, a1, a2⟩
  · exact ⟨⟨K_28 hJ, K_32 hJ, K_33 hJ⟩, ⟨F_28_3 hJ, F_28_4 hJ, v6⟩, a1, a2⟩
  · exact ⟨⟨K_34 hJ, K_38 hJ, K_39 hJ⟩, ⟨F_34_3 hJ, F_34_4 hJ, v6⟩, a1, a2⟩
  · exact ⟨⟨K_40 hJ, K_44 hJ, K_45 hJ⟩, ⟨F_40_3 hJ, F_40_4 hJ, v6⟩, a1, a2⟩
theorem TXP_Z {h : AH} {T cnt : Nat} {kd ag : Nat → Int} (hT : 22 ≤ T ∧ T + 5 < 58) (t : TXP h T cnt kd ag) {T1 T2 : Nat} {W : Nat → Nat → Int} {f rw_ : Nat → Int} {s : SCR} : TXP (Zc h T1 T2 W f rw_ s) T cnt kd ag := by
  obtain ⟨⟨k1, k2, k3⟩, ⟨v3, v4, v6⟩, a1, a2⟩ := t
  have e : ∀ k i, 22 ≤ k → k < 58 → hV (Zc h T1 T2 W f rw_ s) k i = hV h k i := fun k i a b => Zc_n b (by omega) (by omega) (inG_hi (by omega))
  exact ⟨⟨k1, k2, k3⟩, ⟨(e _ _ (by omega) (by omega)).trans v3, (e _ _ (by omega) (by omega)).trans v4, (e _ _ (by omega) (by omega)).trans v6⟩, fun i hi => (e _ _ (by omega) (by omega)).trans (a1 i hi), fun i hi => (e _ _ (by omega) (by omega)).trans (a2 i hi)⟩
set_option maxHeartbeats 1000000 in
theorem E_kd {d T cnt i : Nat} {g : AH} {kd ag : Nat → Int} (t : TXP g T cnt kd ag) (hi : i < cnt) (hc : cnt ≤ 24) (Q : Option AV → AH → Prop) : XC (d + 2) 91 [vR T, vI (i : Int)] g Q = Q (some (vI (kd i))) g := by
  obtain ⟨⟨k1, k2, k3⟩, ⟨v3, v4, v6⟩, a1, a2⟩ := t
  refine XC_eq (Nat.le_of_ble_eq_true rfl) ?_ Q
  show XP (d + 1) 91 0 [some (vR T), some (vI (i : Int))] [] g _
  have w1 : WE ((cnt : Int) - 1) ((cnt : Int) - 1) := by unfold WE w32; omega
  have e1 : ∀ Q : Option AV → AH → Prop, XC (d + 1) 177 [vI (i : Int), vI 0, vI ((cnt : Int) - 1)] g Q = Q (some (vI 1)) g := fun Q => by rw [X_wn, if_pos (by omega)]
  have v := a1 i (by omega)
  have b0 : (0 : Int) ≤ (i : Int) ∧ (i : Int) < 24 := by omega
  refine xpk_sound (stops := []) (n := 30) ?_
  simp only [sk_0, sk_1, sk_2, sk_3, sk_4, sk_5, sk_6, sk_7, sk_8, sk_iadd, sk_isub, sk_imul, sk_iand, sk_ior, sk_ixor, sk_ishl, sk_ishr, sk_iushr, sk_idiv, sk_irem, sk_ineg, sk_ladd, sk_lsub, sk_lmul, sk_land, sk_lor, sk_ldiv, sk_lrem, sk_lneg, sk_lshl, sk_lshr, sk_i2l, sk_l2i, sk_lcmp, sk_dupI, sk_dupR, sk_dup2L, sk_dup2I, sk_popI, sk_ifeq, sk_ifne, sk_iflt, sk_ifge, sk_ifgt, sk_ifle, sk_iceq, sk_icne, sk_iclt, sk_icge, sk_icgt, sk_icle, sk_goto, sk_getf, sk_putf, sk_gets, sk_iald, sk_lald, sk_bald, sk_aald, sk_iast, sk_last, sk_bast, sk_aast, sk_alen, sk_newa, sk_newt, sk_new, sk_cs1, sk_cs2, sk_cs3, sk_cs4, sk_cs5, sk_cs6, sk_cv1, sk_cv2, sk_cv3, sk_cv4, sk_cv5, sk_cv6, sk_ci1, sk_ci2, sk_ci3, sk_ret0, sk_retI, sk_retL, sk_retR, sk_sw, sk_oin, sk_max, sk_min, sk_abs, lI_0, lI_s, lL_0, lL_s, lR_0, lR_s, vIo_e, vLo_e, vOo_e, stW_I, stW_L, stW_R, stW_0, stW_z, okSt_0, okSt_s, hV_eq, hK_eq, okF_0, okF_1, okF_3, is01_0, is01_1, is01_i, Int.toNat_natCast, Int.reduceEq, Int.reduceLE, Int.reduceLT, Int.reduceNeg, Nat.reduceLT, not_true_eq_false, not_false_eq_true, reduceIte, Option.toList, List.cons_append, List.nil_append, List.set_cons_zero, List.set_cons_succ, List.not_mem_nil, List.mem_cons, if_false, if_true, ite_true, ite_false, and_self, and_true, true_and, Nat.reduceAdd, Nat.reduceLeDiff, Nat.reduceEqDiff, Nat.zero_add, Nat.le_refl, Nat.zero_le, or_false, false_or, Int.reduceToNat, or_true, true_or, eq_self, and_false, false_and, inR_d, nc_4, nc_5, nc_6, nc_7, nc_8, nc_16, nc_18, nc_20, nc_24, nc_32, nc_40, nc_64, nc_104, nc_120, nc_160, nc_256, nc_300, nc_330, nc_390, nc_1200, nc_1260, nc_3012, nc_9834, okSt_1i, okSt_1r, okSt_1n, List.length_cons, List.length_nil, xpk_succ cd_91_0, xpk_succ cd_91_1, xpk_succ cd_91_2, xpk_succ cd_91_3, xpk_succ cd_91_6, xpk_succ cd_91_7, xpk_succ cd_91_8, xpk_succ cd_91_11, xpk_succ cd_91_14, xpk_succ cd_91_15, xpk_succ cd_91_18, xpk_succ cd_91_19, xpk_succ cd_91_20, xpk_succ cd_91_23, xpk_succ cd_91_24, k1, k2, v3, v6, v, b0, (WE_e w1), e1]
set_option maxHeartbeats 1000000 in
theorem E_arg {d T cnt i k : Nat} {g : AH} {kd ag : Nat → Int} (t : TXP g T cnt kd ag) (hi : i < cnt) (hc : cnt ≤ 24) (hk : k < 5) (Q : Option AV → AH → Prop) : XC (d + 2) 92 [vR T, vI (i : Int), vI (k : Int)] g Q = Q (some (vI (ag (i * 5 + k)))) g := by
  obtain ⟨⟨k1, k2, k3⟩, ⟨v3, v4, v6⟩, a1, a2⟩ := t
  refine XC_eq (Nat.le_of_ble_eq_true rfl) ?_ Q
  show XP (d + 1) 92 0 [some (vR T), some (vI (i : Int)), some (vI (k : Int))] [] g _
  have w1 : WE ((cnt : Int) - 1) ((cnt : Int) - 1) := by unfold WE w32; omega
  have e1 : ∀ Q : Option AV → AH → Prop, XC (d + 1) 177 [vI (i : Int), vI 0, vI ((cnt : Int) - 1)] g Q = Q (some (vI 1)) g := fun Q => by rw [X_wn, if_pos (by omega)]
  have e2 : ∀ Q : Option AV → AH → Prop, XC (d + 1) 177 [vI (k : Int), vI 0, vI 4] g Q = Q (some (vI 1)) g := fun Q => by rw [X_wn, if_pos (by omega)]
  have w2 : WE ((i : Int) * 5) ((i * 5 : Nat) : Int) := by unfold WE w32; omega
  have w3 : WE (((i * 5 : Nat) : Int) + (k : Int)) ((i * 5 + k : Nat) : Int) := by unfold WE w32; omega
  have v := a2 (i * 5 + k) (by omega)
  have b0 : (0 : Int) ≤ ((i * 5 + k : Nat) : Int) ∧ ((i * 5 + k : Nat) : Int) < 120 := by omega
  refine xpk_sound (stops := []) (n := 50) ?_
  simp only [sk_0, sk_1, sk_2, sk_3, sk_4, sk_5, sk_6, sk_7, sk_8, sk_iadd, sk_isub, sk_imul, sk_iand, sk_ior, sk_ixor, sk_ishl, sk_ishr, sk_iushr, sk_idiv, sk_irem, sk_ineg, sk_ladd, sk_lsub, sk_lmul, sk_land, sk_lor, sk_ldiv, sk_lrem, sk_lneg, sk_lshl, sk_lshr, sk_i2l, sk_l2i, sk_lcmp, sk_dupI, sk_dupR, sk_dup2L, sk_dup2I, sk_popI, sk_ifeq, sk_ifne, sk_iflt, sk_ifge, sk_ifgt, sk_ifle, sk_iceq, sk_icne, sk_iclt, sk_icge, sk_icgt, sk_icle, sk_goto, sk_getf, sk_putf, sk_gets, sk_iald, sk_lald, sk_bald, sk_aald, sk_iast, sk_last, sk_bast, sk_aast, sk_alen, sk_newa, sk_newt, sk_new, sk_cs1, sk_cs2, sk_cs3, sk_cs4, sk_cs5, sk_cs6, sk_cv1, sk_cv2, sk_cv3, sk_cv4, sk_cv5, sk_cv6, sk_ci1, sk_ci2, sk_ci3, sk_ret0, sk_retI, sk_retL, sk_retR, sk_sw, sk_oin, sk_max, sk_min, sk_abs, lI_0, lI_s, lL_0, lL_s, lR_0, lR_s, vIo_e, vLo_e, vOo_e, stW_I, stW_L, stW_R, stW_0, stW_z, okSt_0, okSt_s, hV_eq, hK_eq, okF_0, okF_1, okF_3, is01_0, is01_1, is01_i, Int.toNat_natCast, Int.reduceEq, Int.reduceLE, Int.reduceLT, Int.reduceNeg, Nat.reduceLT, not_true_eq_false, not_false_eq_true, reduceIte, Option.toList, List.cons_append, List.nil_append, List.set_cons_zero, List.set_cons_succ, List.not_mem_nil, List.mem_cons, if_false, if_true, ite_true, ite_false, and_self, and_true, true_and, Nat.reduceAdd, Nat.reduceLeDiff, Nat.reduceEqDiff, Nat.zero_add, Nat.le_refl, Nat.zero_le, or_false, false_or, Int.reduceToNat, or_true, true_or, eq_self, and_false, false_and, inR_d, nc_4, nc_5, nc_6, nc_7, nc_8, nc_16, nc_18, nc_20, nc_24, nc_32, nc_40, nc_64, nc_104, nc_120, nc_160, nc_256, nc_300, nc_330, nc_390, nc_1200, nc_1260, nc_3012, nc_9834, okSt_1i, okSt_1r, okSt_1n, List.length_cons, List.length_nil, xpk_succ cd_92_0, xpk_succ cd_92_1, xpk_succ cd_92_2, xpk_succ cd_92_3, xpk_succ cd_92_6, xpk_succ cd_92_7, xpk_succ cd_92_8, xpk_succ cd_92_11, xpk_succ cd_92_14, xpk_succ cd_92_15, xpk_succ cd_92_16, xpk_succ cd_92_17, xpk_succ cd_92_20, xpk_succ cd_92_23, xpk_succ cd_92_24, xpk_succ cd_92_27, xpk_succ cd_92_28, xpk_succ cd_92_29, xpk_succ cd_92_30, xpk_succ cd_92_31, xpk_succ cd_92_32, xpk_succ cd_92_33, xpk_succ cd_92_36, xpk_succ cd_92_37, k1, k3, v4, v6, v, b0, (WE_e w1), (WE_e w2), (WE_e w3), e1, e2]
set_option maxHeartbeats 2000000 in
theorem pcW_16 {d T cnt i : Nat} {g g2 : AH} {kd ag : Nat → Int} {v r : Int} (k0 : hK g 0 = (9, 0)) (t : TXP g T cnt kd ag) (hi : i < cnt) (hc : cnt ≤ 24) (e0 : kd i = 16) (a0 : ag (i * 5 + 0) = v) (hr : r = 0 ∨ r = 1) (e : ∀ Q : Option AV → AH → Prop, XC (d + 8) 130 [vR 0, vI v] g Q = Q (some (vI r)) g2) (Q : Option AV → AH → Prop) : XC (d + 9) 135 [vR 0, vR T, vI (i : Int)] g Q = Q (some (vI r)) g2 := by
  have kT := t.1.1
  refine XC_eq (Nat.le_of_ble_eq_true rfl) ?_ Q
  show XP (d + 8) 135 0 [some (vR 0), some (vR T), some (vI (i : Int)), none] [] g _
  have eK : ∀ Q : Option AV → AH → Prop, XC (d + 8) 91 [vR T, vI (i : Int)] g Q = Q (some (vI 16)) g := fun Q => by
    have q := E_kd (d := d + 6) t hi hc Q
    rw [e0] at q
    exact q
  have eA0 : ∀ Q : Option AV → AH → Prop, XC (d + 8) 92 [vR T, vI (i : Int), vI 0] g Q = Q (some (vI v)) g := fun Q => by
    have q := E_arg (d := d + 6) (k := 0) t hi hc (by decide) Q
    rw [a0] at q
    exact q
  have sw : swF 16 177 [(5, 76), (6, 115), (7, 130), (8, 151), (9, 157), (10, 163), (11, 177), (12, 177), (13, 177), (14, 177), (15, 177), (16, 145)] = 145 := by decide
  rcases hr with rfl | rfl
  · refine xpk_sound (stops := []) (n := 50) ?_
    simp only [sk_0, sk_1, sk_2, sk_3, sk_4, sk_5, sk_6, sk_7, sk_8, sk_iadd, sk_isub, sk_imul, sk_iand, sk_ior, sk_ixor, sk_ishl, sk_ishr, sk_iushr, sk_idiv, sk_irem, sk_ineg, sk_ladd, sk_lsub, sk_lmul, sk_land, sk_lor, sk_ldiv, sk_lrem, sk_lneg, sk_lshl, sk_lshr, sk_i2l, sk_l2i, sk_lcmp, sk_dupI, sk_dupR, sk_dup2L, sk_dup2I, sk_popI, sk_ifeq, sk_ifne, sk_iflt, sk_ifge, sk_ifgt, sk_ifle, sk_iceq, sk_icne, sk_iclt, sk_icge, sk_icgt, sk_icle, sk_goto, sk_getf, sk_putf, sk_gets, sk_iald, sk_lald, sk_bald, sk_aald, sk_iast, sk_last, sk_bast, sk_aast, sk_alen, sk_newa, sk_newt, sk_new, sk_cs1, sk_cs2, sk_cs3, sk_cs4, sk_cs5, sk_cs6, sk_cv1, sk_cv2, sk_cv3, sk_cv4, sk_cv5, sk_cv6, sk_ci1, sk_ci2, sk_ci3, sk_ret0, sk_retI, sk_retL, sk_retR, sk_sw, sk_oin, sk_max, sk_min, sk_abs, lI_0, lI_s, lL_0, lL_s, lR_0, lR_s, vIo_e, vLo_e, vOo_e, stW_I, stW_L, stW_R, stW_0, stW_z, okSt_0, okSt_s, hV_eq, hK_eq, okF_0, okF_1, okF_3, is01_0, is01_1, is01_i, Int.toNat_natCast, Int.reduceEq, Int.reduceLE, Int.reduceLT, Int.reduceNeg, Nat.reduceLT, not_true_eq_false, not_false_eq_true, reduceIte, Option.toList, List.cons_append, List.nil_append, List.set_cons_zero, List.set_cons_succ, List.not_mem_nil, List.mem_cons, if_false, if_true, ite_true, ite_false, and_self, and_true, true_and, Nat.reduceAdd, Nat.reduceLeDiff, Nat.reduceEqDiff, Nat.zero_add, Nat.le_refl, Nat.zero_le, or_false, false_or, Int.reduceToNat, or_true, true_or, eq_self, and_false, false_and, inR_d, nc_4, nc_5, nc_6, nc_7, nc_8, nc_16, nc_18, nc_20, nc_24, nc_32, nc_40, nc_64, nc_104, nc_120, nc_160, nc_256, nc_300, nc_330, nc_390, nc_1200, nc_1260, nc_3012, nc_9834, okSt_1i, okSt_1r, okSt_1n, List.length_cons, List.length_nil, xpk_succ cd_135_0, xpk_succ cd_135_1, xpk_succ cd_135_2, xpk_succ cd_135_3, xpk_succ cd_135_6, xpk_succ cd_135_7, xpk_succ cd_135_8, xpk_succ cd_135_9, xpk_succ cd_135_12, xpk_succ cd_135_145, xpk_succ cd_135_146, xpk_succ cd_135_147, xpk_succ cd_135_150, k0, kT, eK, eA0, sw, e]
  · refine xpk_sound (stops := []) (n := 50) ?_
    simp only [sk_0, sk_1, sk_2, sk_3, sk_4, sk_5, sk_6, sk_7, sk_8, sk_iadd, sk_isub, sk_imul, sk_iand, sk_ior, sk_ixor, sk_ishl, sk_ishr, sk_iushr, sk_idiv, sk_irem, sk_ineg, sk_ladd, sk_lsub, sk_lmul, sk_land, sk_lor, sk_ldiv, sk_lrem, sk_lneg, sk_lshl, sk_lshr, sk_i2l, sk_l2i, sk_lcmp, sk_dupI, sk_dupR, sk_dup2L, sk_dup2I, sk_popI, sk_ifeq, sk_ifne, sk_iflt, sk_ifge, sk_ifgt, sk_ifle, sk_iceq, sk_icne, sk_iclt, sk_icge, sk_icgt, sk_icle, sk_goto, sk_getf, sk_putf, sk_gets, sk_iald, sk_lald, sk_bald, sk_aald, sk_iast, sk_last, sk_bast, sk_aast, sk_alen, sk_newa, sk_newt, sk_new, sk_cs1, sk_cs2, sk_cs3, sk_cs4, sk_cs5, sk_cs6, sk_cv1, sk_cv2, sk_cv3, sk_cv4, sk_cv5, sk_cv6, sk_ci1, sk_ci2, sk_ci3, sk_ret0, sk_retI, sk_retL, sk_retR, sk_sw, sk_oin, sk_max, sk_min, sk_abs, lI_0, lI_s, lL_0, lL_s, lR_0, lR_s, vIo_e, vLo_e, vOo_e, stW_I, stW_L, stW_R, stW_0, stW_z, okSt_0, okSt_s, hV_eq, hK_eq, okF_0, okF_1, okF_3, is01_0, is01_1, is01_i, Int.toNat_natCast, Int.reduceEq, Int.reduceLE, Int.reduceLT, Int.reduceNeg, Nat.reduceLT, not_true_eq_false, not_false_eq_true, reduceIte, Option.toList, List.cons_append, List.nil_append, List.set_cons_zero, List.set_cons_succ, List.not_mem_nil, List.mem_cons, if_false, if_true, ite_true, ite_false, and_self, and_true, true_and, Nat.reduceAdd, Nat.reduceLeDiff, Nat.reduceEqDiff, Nat.zero_add, Nat.le_refl, Nat.zero_le, or_false, false_or, Int.reduceToNat, or_true, true_or, eq_self, and_false, false_and, inR_d, nc_4, nc_5, nc_6, nc_7, nc_8, nc_16, nc_18, nc_20, nc_24, nc_32, nc_40, nc_64, nc_104, nc_120, nc_160, nc_256, nc_300, nc_330, nc_390, nc_1200, nc_1260, nc_3012, nc_9834, okSt_1i, okSt_1r, okSt_1n, List.length_cons, List.length_nil, xpk_succ cd_135_0, xpk_succ cd_135_1, xpk_succ cd_135_2, xpk_succ cd_135_3, xpk_succ cd_135_6, xpk_succ cd_135_7, xpk_succ cd_135_8, xpk_succ cd_135_9, xpk_succ cd_135_12, xpk_succ cd_135_145, xpk_succ cd_135_146, xpk_succ cd_135_147, xpk_succ cd_135_150, k0, kT, eK, eA0, sw, e]
set_option maxHeartbeats 2000000 in
theorem pcW_8 {d T cnt i : Nat} {g g2 : AH} {kd ag : Nat → Int} {v r : Int} (k0 : hK g 0 = (9, 0)) (t : TXP g T cnt kd ag) (hi : i < cnt) (hc : cnt ≤ 24) (e0 : kd i = 8) (a0 : ag (i * 5 + 0) = v) (hr : r = 0 ∨ r = 1) (e : ∀ Q : Option AV → AH → Prop, XC (d + 8) 131 [vR 0, vI v] g Q = Q (some (vI r)) g2) (Q : Option AV → AH → Prop) : XC (d + 9) 135 [vR 0, vR T, vI (i : Int)] g Q = Q (some (vI r)) g2 := by
  have kT := t.1.1
  refine XC_eq (Nat.le_of_ble_eq_true rfl) ?_ Q
  show XP (d + 8) 135 0 [some (vR 0), some (vR T), some (vI (i : Int)), none] [] g _
  have eK : ∀ Q : Option AV → AH → Prop, XC (d + 8) 91 [vR T, vI (i : Int)] g Q = Q (some (vI 8)) g := fun Q => by
    have q := E_kd (d := d + 6) t hi hc Q
    rw [e0] at q
    exact q
  have eA0 : ∀ Q : Option AV → AH → Prop, XC (d + 8) 92 [vR T, vI (i : Int), vI 0] g Q = Q (some (vI v)) g := fun Q => by
    have q := E_arg (d := d + 6) (k := 0) t hi hc (by decide) Q
    rw [a0] at q
    exact q
  have sw : swF 8 177 [(5, 76), (6, 115), (7, 130), (8, 151), (9, 157), (10, 163), (11, 177), (12, 177), (13, 177), (14, 177), (15, 177), (16, 145)] = 151 := by decide
  rcases hr with rfl | rfl
  · refine xpk_sound (stops := []) (n := 50) ?_
    simp only [sk_0, sk_1, sk_2, sk_3, sk_4, sk_5, sk_6, sk_7, sk_8, sk_iadd, sk_isub, sk_imul, sk_iand, sk_ior, sk_ixor, sk_ishl, sk_ishr, sk_iushr, sk_idiv, sk_irem, sk_ineg, sk_ladd, sk_lsub, sk_lmul, sk_land, sk_lor, sk_ldiv, sk_lrem, sk_lneg, sk_lshl, sk_lshr, sk_i2l, sk_l2i, sk_lcmp, sk_dupI, sk_dupR, sk_dup2L, sk_dup2I, sk_popI, sk_ifeq, sk_ifne, sk_iflt, sk_ifge, sk_ifgt, sk_ifle, sk_iceq, sk_icne, sk_iclt, sk_icge, sk_icgt, sk_icle, sk_goto, sk_getf, sk_putf, sk_gets, sk_iald, sk_lald, sk_bald, sk_aald, sk_iast, sk_last, sk_bast, sk_aast, sk_alen, sk_newa, sk_newt, sk_new, sk_cs1, sk_cs2, sk_cs3, sk_cs4, sk_cs5, sk_cs6, sk_cv1, sk_cv2, sk_cv3, sk_cv4, sk_cv5, sk_cv6, sk_ci1, sk_ci2, sk_ci3, sk_ret0, sk_retI, sk_retL, sk_retR, sk_sw, sk_oin, sk_max, sk_min, sk_abs, lI_0, lI_s, lL_0, lL_s, lR_0, lR_s, vIo_e, vLo_e, vOo_e, stW_I, stW_L, stW_R, stW_0, stW_z, okSt_0, okSt_s, hV_eq, hK_eq, okF_0, okF_1, okF_3, is01_0, is01_1, is01_i, Int.toNat_natCast, Int.reduceEq, Int.reduceLE, Int.reduceLT, Int.reduceNeg, Nat.reduceLT, not_true_eq_false, not_false_eq_true, reduceIte, Option.toList, List.cons_append, List.nil_append, List.set_cons_zero, List.set_cons_succ, List.not_mem_nil, List.mem_cons, if_false, if_true, ite_true, ite_false, and_self, and_true, true_and, Nat.reduceAdd, Nat.reduceLeDiff, Nat.reduceEqDiff, Nat.zero_add, Nat.le_refl, Nat.zero_le, or_false, false_or, Int.reduceToNat, or_true, true_or, eq_self, and_false, false_and, inR_d, nc_4, nc_5, nc_6, nc_7, nc_8, nc_16, nc_18, nc_20, nc_24, nc_32, nc_40, nc_64, nc_104, nc_120, nc_160, nc_256, nc_300, nc_330, nc_390, nc_1200, nc_1260, nc_3012, nc_9834, okSt_1i, okSt_1r, okSt_1n, List.length_cons, List.length_nil, xpk_succ cd_135_0, xpk_succ cd_135_1, xpk_succ cd_135_2, xpk_succ cd_135_3, xpk_succ cd_135_6, xpk_succ cd_135_7, xpk_succ cd_135_8, xpk_succ cd_135_9, xpk_succ cd_135_12, xpk_succ cd_135_151, xpk_succ cd_135_152, xpk_succ cd_135_153, xpk_succ cd_135_156, k0, kT, eK, eA0, sw, e]
  · refine xpk_sound (stops := []) (n := 50) ?_
    simp only [sk_0, sk_1, sk_2, sk_3, sk_4, sk_5, sk_6, sk_7, sk_8, sk_iadd, sk_isub, sk_imul, sk_iand, sk_ior, sk_ixor, sk_ishl, sk_ishr, sk_iushr, sk_idiv, sk_irem, sk_ineg, sk_ladd, sk_lsub, sk_lmul, sk_land, sk_lor, sk_ldiv, sk_lrem, sk_lneg, sk_lshl, sk_lshr, sk_i2l, sk_l2i, sk_lcmp, sk_dupI, sk_dupR, sk_dup2L, sk_dup2I, sk_popI, sk_ifeq, sk_ifne, sk_iflt, sk_ifge, sk_ifgt, sk_ifle, sk_iceq, sk_icne, sk_iclt, sk_icge, sk_icgt, sk_icle, sk_goto, sk_getf, sk_putf, sk_gets, sk_iald, sk_lald, sk_bald, sk_aald, sk_iast, sk_last, sk_bast, sk_aast, sk_alen, sk_newa, sk_newt, sk_new, sk_cs1, sk_cs2, sk_cs3, sk_cs4, sk_cs5, sk_cs6, sk_cv1, sk_cv2, sk_cv3, sk_cv4, sk_cv5, sk_cv6, sk_ci1, sk_ci2, sk_ci3, sk_ret0, sk_retI, sk_retL, sk_retR, sk_sw, sk_oin, sk_max, sk_min, sk_abs, lI_0, lI_s, lL_0, lL_s, lR_0, lR_s, vIo_e, vLo_e, vOo_e, stW_I, stW_L, stW_R, stW_0, stW_z, okSt_0, okSt_s, hV_eq, hK_eq, okF_0, okF_1, okF_3, is01_0, is01_1, is01_i, Int.toNat_natCast, Int.reduceEq, Int.reduceLE, Int.reduceLT, Int.reduceNeg, Nat.reduceLT, not_true_eq_false, not_false_eq_true, reduceIte, Option.toList, List.cons_append, List.nil_append, List.set_cons_zero, List.set_cons_succ, List.not_mem_nil, List.mem_cons, if_false, if_true, ite_true, ite_false, and_self, and_true, true_and, Nat.reduceAdd, Nat.reduceLeDiff, Nat.reduceEqDiff, Nat.zero_add, Nat.le_refl, Nat.zero_le, or_false, false_or, Int.reduceToNat, or_true, true_or, eq_self, and_false, false_and, inR_d, nc_4, nc_5, nc_6, nc_7, nc_8, nc_16, nc_18, nc_20, nc_24, nc_32, nc_40, nc_64, nc_104, nc_120, nc_160, nc_256, nc_300, nc_330, nc_390, nc_1200, nc_1260, nc_3012, nc_9834, okSt_1i, okSt_1r, okSt_1n, List.length_cons, List.length_nil, xpk_succ cd_135_0, xpk_succ cd_135_1, xpk_succ cd_135_2, xpk_succ cd_135_3, xpk_succ cd_135_6, xpk_succ cd_135_7, xpk_succ cd_135_8, xpk_succ cd_135_9, xpk_succ cd_135_12, xpk_succ cd_135_151, xpk_succ cd_135_152, xpk_succ cd_135_153, xpk_succ cd_135_156, k0, kT, eK, eA0, sw, e]
set_option maxHeartbeats 2000000 in
theorem pcW_9 {d T cnt i : Nat} {g g2 : AH} {kd ag : Nat → Int} {v r : Int} (k0 : hK g 0 = (9, 0)) (t : TXP g T cnt kd ag) (hi : i < cnt) (hc : cnt ≤ 24) (e0 : kd i = 9) (a0 : ag (i * 5 + 0) = v) (hr : r = 0 ∨ r = 1) (e : ∀ Q : Option AV → AH → Prop, XC (d + 8) 132 [vR 0, vI v] g Q = Q (some (vI r)) g2) (Q : Option AV → AH → Prop) : XC (d + 9) 135 [vR 0, vR T, vI (i : Int)] g Q = Q (some (vI r)) g2 := by
  have kT := t.1.1
  refine XC_eq (Nat.le_of_ble_eq_true rfl) ?_ Q
  show XP (d + 8) 135 0 [some (vR 0), some (vR T), some (vI (i : Int)), none] [] g _
  have eK : ∀ Q : Option AV → AH → Prop, XC (d + 8) 91 [vR T, vI (i : Int)] g Q = Q (some (vI 9)) g := fun Q => by
    have q := E_kd (d := d + 6) t hi hc Q
    rw [e0] at q
    exact q
  have eA0 : ∀ Q : Option AV → AH → Prop, XC (d + 8) 92 [vR T, vI (i : Int), vI 0] g Q = Q (some (vI v)) g := fun Q => by
    have q := E_arg (d := d + 6) (k := 0) t hi hc (by decide) Q
    rw [a0] at q
    exact q
  have sw : swF 9 177 [(5, 76), (6, 115), (7, 130), (8, 151), (9, 157), (10, 163), (11, 177), (12, 177), (13, 177), (14, 177), (15, 177), (16, 145)] = 157 := by decide
  rcases hr with rfl | rfl
  · refine xpk_sound (stops := []) (n := 50) ?_
    simp only [sk_0, sk_1, sk_2, sk_3, sk_4, sk_5, sk_6, sk_7, sk_8, sk_iadd, sk_isub, sk_imul, sk_iand, sk_ior, sk_ixor, sk_ishl, sk_ishr, sk_iushr, sk_idiv, sk_irem, sk_ineg, sk_ladd, sk_lsub, sk_lmul, sk_land, sk_lor, sk_ldiv, sk_lrem, sk_lneg, sk_lshl, sk_lshr, sk_i2l, sk_l2i, sk_lcmp, sk_dupI, sk_dupR, sk_dup2L, sk_dup2I, sk_popI, sk_ifeq, sk_ifne, sk_iflt, sk_ifge, sk_ifgt, sk_ifle, sk_iceq, sk_icne, sk_iclt, sk_icge, sk_icgt, sk_icle, sk_goto, sk_getf, sk_putf, sk_gets, sk_iald, sk_lald, sk_bald, sk_aald, sk_iast, sk_last, sk_bast, sk_aast, sk_alen, sk_newa, sk_newt, sk_new, sk_cs1, sk_cs2, sk_cs3, sk_cs4, sk_cs5, sk_cs6, sk_cv1, sk_cv2, sk_cv3, sk_cv4, sk_cv5, sk_cv6, sk_ci1, sk_ci2, sk_ci3, sk_ret0, sk_retI, sk_retL, sk_retR, sk_sw, sk_oin, sk_max, sk_min, sk_abs, lI_0, lI_s, lL_0, lL_s, lR_0, lR_s, vIo_e, vLo_e, vOo_e, stW_I, stW_L, stW_R, stW_0, stW_z, okSt_0, okSt_s, hV_eq, hK_eq, okF_0, okF_1, okF_3, is01_0, is01_1, is01_i, Int.toNat_natCast, Int.reduceEq, Int.reduceLE, Int.reduceLT, Int.reduceNeg, Nat.reduceLT, not_true_eq_false, not_false_eq_true, reduceIte, Option.toList, List.cons_append, List.nil_append, List.set_cons_zero, List.set_cons_succ, List.not_mem_nil, List.mem_cons, if_false, if_true, ite_true, ite_false, and_self, and_true, true_and, Nat.reduceAdd, Nat.reduceLeDiff, Nat.reduceEqDiff, Nat.zero_add, Nat.le_refl, Nat.zero_le, or_false, false_or, Int.reduceToNat, or_true, true_or, eq_self, and_false, false_and, inR_d, nc_4, nc_5, nc_6, nc_7, nc_8, nc_16, nc_18, nc_20, nc_24, nc_32, nc_40, nc_64, nc_104, nc_120, nc_160, nc_256, nc_300, nc_330, nc_390, nc_1200, nc_1260, nc_3012, nc_9834, okSt_1i, okSt_1r, okSt_1n, List.length_cons, List.length_nil, xpk_succ cd_135_0, xpk_succ cd_135_1, xpk_succ cd_135_2, xpk_succ cd_135_3, xpk_succ cd_135_6, xpk_succ cd_135_7, xpk_succ cd_135_8, xpk_succ cd_135_9, xpk_succ cd_135_12, xpk_succ cd_135_157, xpk_succ cd_135_158, xpk_succ cd_135_159, xpk_succ cd_135_162, k0, kT, eK, eA0, sw, e]
  · refine xpk_sound (stops := []) (n := 50) ?_
    simp only [sk_0, sk_1, sk_2, sk_3, sk_4, sk_5, sk_6, sk_7, sk_8, sk_iadd, sk_isub, sk_imul, sk_iand, sk_ior, sk_ixor, sk_ishl, sk_ishr, sk_iushr, sk_idiv, sk_irem, sk_ineg, sk_ladd, sk_lsub, sk_lmul, sk_land, sk_lor, sk_ldiv, sk_lrem, sk_lneg, sk_lshl, sk_lshr, sk_i2l, sk_l2i, sk_lcmp, sk_dupI, sk_dupR, sk_dup2L, sk_dup2I, sk_popI, sk_ifeq, sk_ifne, sk_iflt, sk_ifge, sk_ifgt, sk_ifle, sk_iceq, sk_icne, sk_iclt, sk_icge, sk_icgt, sk_icle, sk_goto, sk_getf, sk_putf, sk_gets, sk_iald, sk_lald, sk_bald, sk_aald, sk_iast, sk_last, sk_bast, sk_aast, sk_alen, sk_newa, sk_newt, sk_new, sk_cs1, sk_cs2, sk_cs3, sk_cs4, sk_cs5, sk_cs6, sk_cv1, sk_cv2, sk_cv3, sk_cv4, sk_cv5, sk_cv6, sk_ci1, sk_ci2, sk_ci3, sk_ret0, sk_retI, sk_retL, sk_retR, sk_sw, sk_oin, sk_max, sk_min, sk_abs, lI_0, lI_s, lL_0, lL_s, lR_0, lR_s, vIo_e, vLo_e, vOo_e, stW_I, stW_L, stW_R, stW_0, stW_z, okSt_0, okSt_s, hV_eq, hK_eq, okF_0, okF_1, okF_3, is01_0, is01_1, is01_i, Int.toNat_natCast, Int.reduceEq, Int.reduceLE, Int.reduceLT, Int.reduceNeg, Nat.reduceLT, not_true_eq_false, not_false_eq_true, reduceIte, Option.toList, List.cons_append, List.nil_append, List.set_cons_zero, List.set_cons_succ, List.not_mem_nil, List.mem_cons, if_false, if_true, ite_true, ite_false, and_self, and_true, true_and, Nat.reduceAdd, Nat.reduceLeDiff, Nat.reduceEqDiff, Nat.zero_add, Nat.le_refl, Nat.zero_le, or_false, false_or, Int.reduceToNat, or_true, true_or, eq_self, and_false, false_and, inR_d, nc_4, nc_5, nc_6, nc_7, nc_8, nc_16, nc_18, nc_20, nc_24, nc_32, nc_40, nc_64, nc_104, nc_120, nc_160, nc_256, nc_300, nc_330, nc_390, nc_1200, nc_1260, nc_3012, nc_9834, okSt_1i, okSt_1r, okSt_1n, List.length_cons, List.length_nil, xpk_succ cd_135_0, xpk_succ cd_135_1, xpk_succ cd_135_2, xpk_succ cd_135_3, xpk_succ cd_135_6, xpk_succ cd_135_7, xpk_succ cd_135_8, xpk_succ cd_135_9, xpk_succ cd_135_12, xpk_succ cd_135_157, xpk_succ cd_135_158, xpk_succ cd_135_159, xpk_succ cd_135_162, k0, kT, eK, eA0, sw, e]
set_option maxHeartbeats 2000000 in
theorem pcW_6a {d T cnt i : Nat} {g g2 : AH} {kd ag : Nat → Int} {v r : Int} (k0 : hK g 0 = (9, 0)) (t : TXP g T cnt kd ag) (hi : i < cnt) (hc : cnt ≤ 24) (e0 : kd i = 6) (a0 : ag (i * 5 + 0) = v) (z : ¬ r = -1) (e : ∀ Q : Option AV → AH → Prop, XC (d + 8) 126 [vR 0, vI v] g Q = Q (some (vI r)) g2) (Q : Option AV → AH → Prop) : XC (d + 9) 135 [vR 0, vR T, vI (i : Int)] g Q = Q (some (vI 1)) g2 := by
  have kT := t.1.1
  refine XC_eq (Nat.le_of_ble_eq_true rfl) ?_ Q
  show XP (d + 8) 135 0 [some (vR 0), some (vR T), some (vI (i : Int)), none] [] g _
  have eK : ∀ Q : Option AV → AH → Prop, XC (d + 8) 91 [vR T, vI (i : Int)] g Q = Q (some (vI 6)) g := fun Q => by
    have q := E_kd (d := d + 6) t hi hc Q
    rw [e0] at q
    exact q
  have eA0 : ∀ Q : Option AV → AH → Prop, XC (d + 8) 92 [vR T, vI (i : Int), vI 0] g Q = Q (some (vI v)) g := fun Q => by
    have q := E_arg (d := d + 6) (k := 0) t hi hc (by decide) Q
    rw [a0] at q
    exact q
  have sw : swF 6 177 [(5, 76), (6, 115), (7, 130), (8, 151), (9, 157), (10, 163), (11, 177), (12, 177), (13, 177), (14, 177), (15, 177), (16, 145)] = 115 := by decide
  refine xpk_sound (stops := []) (n := 60) ?_
  simp only [sk_0, sk_1, sk_2, sk_3, sk_4, sk_5, sk_6, sk_7, sk_8, sk_iadd, sk_isub, sk_imul, sk_iand, sk_ior, sk_ixor, sk_ishl, sk_ishr, sk_iushr, sk_idiv, sk_irem, sk_ineg, sk_ladd, sk_lsub, sk_lmul, sk_land, sk_lor, sk_ldiv, sk_lrem, sk_lneg, sk_lshl, sk_lshr, sk_i2l, sk_l2i, sk_lcmp, sk_dupI, sk_dupR, sk_dup2L, sk_dup2I, sk_popI, sk_ifeq, sk_ifne, sk_iflt, sk_ifge, sk_ifgt, sk_ifle, sk_iceq, sk_icne, sk_iclt, sk_icge, sk_icgt, sk_icle, sk_goto, sk_getf, sk_putf, sk_gets, sk_iald, sk_lald, sk_bald, sk_aald, sk_iast, sk_last, sk_bast, sk_aast, sk_alen, sk_newa, sk_newt, sk_new, sk_cs1, sk_cs2, sk_cs3, sk_cs4, sk_cs5, sk_cs6, sk_cv1, sk_cv2, sk_cv3, sk_cv4, sk_cv5, sk_cv6, sk_ci1, sk_ci2, sk_ci3, sk_ret0, sk_retI, sk_retL, sk_retR, sk_sw, sk_oin, sk_max, sk_min, sk_abs, lI_0, lI_s, lL_0, lL_s, lR_0, lR_s, vIo_e, vLo_e, vOo_e, stW_I, stW_L, stW_R, stW_0, stW_z, okSt_0, okSt_s, hV_eq, hK_eq, okF_0, okF_1, okF_3, is01_0, is01_1, is01_i, Int.toNat_natCast, Int.reduceEq, Int.reduceLE, Int.reduceLT, Int.reduceNeg, Nat.reduceLT, not_true_eq_false, not_false_eq_true, reduceIte, Option.toList, List.cons_append, List.nil_append, List.set_cons_zero, List.set_cons_succ, List.not_mem_nil, List.mem_cons, if_false, if_true, ite_true, ite_false, and_self, and_true, true_and, Nat.reduceAdd, Nat.reduceLeDiff, Nat.reduceEqDiff, Nat.zero_add, Nat.le_refl, Nat.zero_le, or_false, false_or, Int.reduceToNat, or_true, true_or, eq_self, and_false, false_and, inR_d, nc_4, nc_5, nc_6, nc_7, nc_8, nc_16, nc_18, nc_20, nc_24, nc_32, nc_40, nc_64, nc_104, nc_120, nc_160, nc_256, nc_300, nc_330, nc_390, nc_1200, nc_1260, nc_3012, nc_9834, okSt_1i, okSt_1r, okSt_1n, List.length_cons, List.length_nil, xpk_succ cd_135_0, xpk_succ cd_135_1, xpk_succ cd_135_2, xpk_succ cd_135_3, xpk_succ cd_135_6, xpk_succ cd_135_7, xpk_succ cd_135_8, xpk_succ cd_135_9, xpk_succ cd_135_12, xpk_succ cd_135_115, xpk_succ cd_135_116, xpk_succ cd_135_117, xpk_succ cd_135_120, xpk_succ cd_135_121, xpk_succ cd_135_124, xpk_succ cd_135_125, xpk_succ cd_135_128, xpk_succ cd_135_129, k0, kT, eK, eA0, sw, e, z]
set_option maxHeartbeats 2000000 in
theorem pcW_6b {d T cnt i : Nat} {g g2 : AH} {kd ag : Nat → Int} {v r : Int} (k0 : hK g 0 = (9, 0)) (t : TXP g T cnt kd ag) (hi : i < cnt) (hc : cnt ≤ 24) (e0 : kd i = 6) (a0 : ag (i * 5 + 0) = v) (e : ∀ Q : Option AV → AH → Prop, XC (d + 8) 126 [vR 0, vI v] g Q = Q (some (vI (-1))) g2) (Q : Option AV → AH → Prop) : XC (d + 9) 135 [vR 0, vR T, vI (i : Int)] g Q = Q (some (vI 0)) g2 := by
  have kT := t.1.1
  refine XC_eq (Nat.le_of_ble_eq_true rfl) ?_ Q
  show XP (d + 8) 135 0 [some (vR 0), some (vR T), some (vI (i : Int)), none] [] g _
  have eK : ∀ Q : Option AV → AH → Prop, XC (d + 8) 91 [vR T, vI (i : Int)] g Q = Q (some (vI 6)) g := fun Q => by
    have q := E_kd (d := d + 6) t hi hc Q
    rw [e0] at q
    exact q
  have eA0 : ∀ Q : Option AV → AH → Prop, XC (d + 8) 92 [vR T, vI (i : Int), vI 0] g Q = Q (some (vI v)) g := fun Q => by
    have q := E_arg (d := d + 6) (k := 0) t hi hc (by decide) Q
    rw [a0] at q
    exact q
  have sw : swF 6 177 [(5, 76), (6, 115), (7, 130), (8, 151), (9, 157), (10, 163), (11, 177), (12, 177), (13, 177), (14, 177), (15, 177), (16, 145)] = 115 := by decide
  refine xpk_sound (stops := []) (n := 60) ?_
  simp only [sk_0, sk_1, sk_2, sk_3, sk_4, sk_5, sk_6, sk_7, sk_8, sk_iadd, sk_isub, sk_imul, sk_iand, sk_ior, sk_ixor, sk_ishl, sk_ishr, sk_iushr, sk_idiv, sk_irem, sk_ineg, sk_ladd, sk_lsub, sk_lmul, sk_land, sk_lor, sk_ldiv, sk_lrem, sk_lneg, sk_lshl, sk_lshr, sk_i2l, sk_l2i, sk_lcmp, sk_dupI, sk_dupR, sk_dup2L, sk_dup2I, sk_popI, sk_ifeq, sk_ifne, sk_iflt, sk_ifge, sk_ifgt, sk_ifle, sk_iceq, sk_icne, sk_iclt, sk_icge, sk_icgt, sk_icle, sk_goto, sk_getf, sk_putf, sk_gets, sk_iald, sk_lald, sk_bald, sk_aald, sk_iast, sk_last, sk_bast, sk_aast, sk_alen, sk_newa, sk_newt, sk_new, sk_cs1, sk_cs2, sk_cs3, sk_cs4, sk_cs5, sk_cs6, sk_cv1, sk_cv2, sk_cv3, sk_cv4, sk_cv5, sk_cv6, sk_ci1, sk_ci2, sk_ci3, sk_ret0, sk_retI, sk_retL, sk_retR, sk_sw, sk_oin, sk_max, sk_min, sk_abs, lI_0, lI_s, lL_0, lL_s, lR_0, lR_s, vIo_e, vLo_e, vOo_e, stW_I, stW_L, stW_R, stW_0, stW_z, okSt_0, okSt_s, hV_eq, hK_eq, okF_0, okF_1, okF_3, is01_0, is01_1, is01_i, Int.toNat_natCast, Int.reduceEq, Int.reduceLE, Int.reduceLT, Int.reduceNeg, Nat.reduceLT, not_true_eq_false, not_false_eq_true, reduceIte, Option.toList, List.cons_append, List.nil_append, List.set_cons_zero, List.set_cons_succ, List.not_mem_nil, List.mem_cons, if_false, if_true, ite_true, ite_false, and_self, and_true, true_and, Nat.reduceAdd, Nat.reduceLeDiff, Nat.reduceEqDiff, Nat.zero_add, Nat.le_refl, Nat.zero_le, or_false, false_or, Int.reduceToNat, or_true, true_or, eq_self, and_false, false_and, inR_d, nc_4, nc_5, nc_6, nc_7, nc_8, nc_16, nc_18, nc_20, nc_24, nc_32, nc_40, nc_64, nc_104, nc_120, nc_160, nc_256, nc_300, nc_330, nc_390, nc_1200, nc_1260, nc_3012, nc_9834, okSt_1i, okSt_1r, okSt_1n, List.length_cons, List.length_nil, xpk_succ cd_135_0, xpk_succ cd_135_1, xpk_succ cd_135_2, xpk_succ cd_135_3, xpk_succ cd_135_6, xpk_succ cd_135_7, xpk_succ cd_135_8, xpk_succ cd_135_9, xpk_succ cd_135_12, xpk_succ cd_135_115, xpk_succ cd_135_116, xpk_succ cd_135_117, xpk_succ cd_135_120, xpk_succ cd_135_121, xpk_succ cd_135_124, xpk_succ cd_135_125, xpk_succ cd_135_128, xpk_succ cd_135_129, k0, kT, eK, eA0, sw, e]
set_option maxHeartbeats 2000000 in
theorem pcW_10a {d T cnt i : Nat} {g g2 : AH} {kd ag : Nat → Int} {v r : Int} (k0 : hK g 0 = (9, 0)) (t : TXP g T cnt kd ag) (hi : i < cnt) (hc : cnt ≤ 24) (e0 : kd i = 10) (a0 : ag (i * 5 + 0) = v) (z : ¬ r = -1) (e : ∀ Q : Option AV → AH → Prop, XC (d + 8) 133 [vR 0] g Q = Q (some (vI r)) g2) (Q : Option AV → AH → Prop) : XC (d + 9) 135 [vR 0, vR T, vI (i : Int)] g Q = Q (some (vI 1)) g2 := by
  have kT := t.1.1
  refine XC_eq (Nat.le_of_ble_eq_true rfl) ?_ Q
  show XP (d + 8) 135 0 [some (vR 0), some (vR T), some (vI (i : Int)), none] [] g _
  have eK : ∀ Q : Option AV → AH → Prop, XC (d + 8) 91 [vR T, vI (i : Int)] g Q = Q (some (vI 10)) g := fun Q => by
    have q := E_kd (d := d + 6) t hi hc Q
    rw [e0] at q
    exact q
  have eA0 : ∀ Q : Option AV → AH → Prop, XC (d + 8) 92 [vR T, vI (i : Int), vI 0] g Q = Q (some (vI v)) g := fun Q => by
    have q := E_arg (d := d + 6) (k := 0) t hi hc (by decide) Q
    rw [a0] at q
    exact q
  have sw : swF 10 177 [(5, 76), (6, 115), (7, 130), (8, 151), (9, 157), (10, 163), (11, 177), (12, 177), (13, 177), (14, 177), (15, 177), (16, 145)] = 163 := by decide
  refine xpk_sound (stops := []) (n := 60) ?_
  simp only [sk_0, sk_1, sk_2, sk_3, sk_4, sk_5, sk_6, sk_7, sk_8, sk_iadd, sk_isub, sk_imul, sk_iand, sk_ior, sk_ixor, sk_ishl, sk_ishr, sk_iushr, sk_idiv, sk_irem, sk_ineg, sk_ladd, sk_lsub, sk_lmul, sk_land, sk_lor, sk_ldiv, sk_lrem, sk_lneg, sk_lshl, sk_lshr, sk_i2l, sk_l2i, sk_lcmp, sk_dupI, sk_dupR, sk_dup2L, sk_dup2I, sk_popI, sk_ifeq, sk_ifne, sk_iflt, sk_ifge, sk_ifgt, sk_ifle, sk_iceq, sk_icne, sk_iclt, sk_icge, sk_icgt, sk_icle, sk_goto, sk_getf, sk_putf, sk_gets, sk_iald, sk_lald, sk_bald, sk_aald, sk_iast, sk_last, sk_bast, sk_aast, sk_alen, sk_newa, sk_newt, sk_new, sk_cs1, sk_cs2, sk_cs3, sk_cs4, sk_cs5, sk_cs6, sk_cv1, sk_cv2, sk_cv3, sk_cv4, sk_cv5, sk_cv6, sk_ci1, sk_ci2, sk_ci3, sk_ret0, sk_retI, sk_retL, sk_retR, sk_sw, sk_oin, sk_max, sk_min, sk_abs, lI_0, lI_s, lL_0, lL_s, lR_0, lR_s, vIo_e, vLo_e, vOo_e, stW_I, stW_L, stW_R, stW_0, stW_z, okSt_0, okSt_s, hV_eq, hK_eq, okF_0, okF_1, okF_3, is01_0, is01_1, is01_i, Int.toNat_natCast, Int.reduceEq, Int.reduceLE, Int.reduceLT, Int.reduceNeg, Nat.reduceLT, not_true_eq_false, not_false_eq_true, reduceIte, Option.toList, List.cons_append, List.nil_append, List.set_cons_zero, List.set_cons_succ, List.not_mem_nil, List.mem_cons, if_false, if_true, ite_true, ite_false, and_self, and_true, true_and, Nat.reduceAdd, Nat.reduceLeDiff, Nat.reduceEqDiff, Nat.zero_add, Nat.le_refl, Nat.zero_le, or_false, false_or, Int.reduceToNat, or_true, true_or, eq_self, and_false, false_and, inR_d, nc_4, nc_5, nc_6, nc_7, nc_8, nc_16, nc_18, nc_20, nc_24, nc_32, nc_40, nc_64, nc_104, nc_120, nc_160, nc_256, nc_300, nc_330, nc_390, nc_1200, nc_1260, nc_3012, nc_9834, okSt_1i, okSt_1r, okSt_1n, List.length_cons, List.length_nil, xpk_succ cd_135_0, xpk_succ cd_135_1, xpk_succ cd_135_2, xpk_succ cd_135_3, xpk_succ cd_135_6, xpk_succ cd_135_7, xpk_succ cd_135_8, xpk_succ cd_135_9, xpk_succ cd_135_12, xpk_succ cd_135_163, xpk_succ cd_135_164, xpk_succ cd_135_167, xpk_succ cd_135_168, xpk_succ cd_135_171, xpk_succ cd_135_172, xpk_succ cd_135_175, xpk_succ cd_135_176, k0, kT, eK, eA0, sw, e, z]
set_option maxHeartbeats 2000000 in
theorem pcW_10b {d T cnt i : Nat} {g g2 : AH} {kd ag : Nat → Int} {v r : Int} (k0 : hK g 0 = (9, 0)) (t : TXP g T cnt kd ag) (hi : i < cnt) (hc : cnt ≤ 24) (e0 : kd i = 10) (a0 : ag (i * 5 + 0) = v) (e : ∀ Q : Option AV → AH → Prop, XC (d + 8) 133 [vR 0] g Q = Q (some (vI (-1))) g2) (Q : Option AV → AH → Prop) : XC (d + 9) 135 [vR 0, vR T, vI (i : Int)] g Q = Q (some (vI 0)) g2 := by
  have kT := t.1.1
  refine XC_eq (Nat.le_of_ble_eq_true rfl) ?_ Q
  show XP (d + 8) 135 0 [some (vR 0), some (vR T), some (vI (i : Int)), none] [] g _
  have eK : ∀ Q : Option AV → AH → Prop, XC (d + 8) 91 [vR T, vI (i : Int)] g Q = Q (some (vI 10)) g := fun Q => by
    have q := E_kd (d := d + 6) t hi hc Q
    rw [e0] at q
    exact q
  have eA0 : ∀ Q : Option AV → AH → Prop, XC (d + 8) 92 [vR T, vI (i : Int), vI 0] g Q = Q (some (vI v)) g := fun Q => by
    have q := E_arg (d := d + 6) (k := 0) t hi hc (by decide) Q
    rw [a0] at q
    exact q
  have sw : swF 10 177 [(5, 76), (6, 115), (7, 130), (8, 151), (9, 157), (10, 163), (11, 177), (12, 177), (13, 177), (14, 177), (15, 177), (16, 145)] = 163 := by decide
  refine xpk_sound (stops := []) (n := 60) ?_
  simp only [sk_0, sk_1, sk_2, sk_3, sk_4, sk_5, sk_6, sk_7, sk_8, sk_iadd, sk_isub, sk_imul, sk_iand, sk_ior, sk_ixor, sk_ishl, sk_ishr, sk_iushr, sk_idiv, sk_irem, sk_ineg, sk_ladd, sk_lsub, sk_lmul, sk_land, sk_lor, sk_ldiv, sk_lrem, sk_lneg, sk_lshl, sk_lshr, sk_i2l, sk_l2i, sk_lcmp, sk_dupI, sk_dupR, sk_dup2L, sk_dup2I, sk_popI, sk_ifeq, sk_ifne, sk_iflt, sk_ifge, sk_ifgt, sk_ifle, sk_iceq, sk_icne, sk_iclt, sk_icge, sk_icgt, sk_icle, sk_goto, sk_getf, sk_putf, sk_gets, sk_iald, sk_lald, sk_bald, sk_aald, sk_iast, sk_last, sk_bast, sk_aast, sk_alen, sk_newa, sk_newt, sk_new, sk_cs1, sk_cs2, sk_cs3, sk_cs4, sk_cs5, sk_cs6, sk_cv1, sk_cv2, sk_cv3, sk_cv4, sk_cv5, sk_cv6, sk_ci1, sk_ci2, sk_ci3, sk_ret0, sk_retI, sk_retL, sk_retR, sk_sw, sk_oin, sk_max, sk_min, sk_abs, lI_0, lI_s, lL_0, lL_s, lR_0, lR_s, vIo_e, vLo_e, vOo_e, stW_I, stW_L, stW_R, stW_0, stW_z, okSt_0, okSt_s, hV_eq, hK_eq, okF_0, okF_1, okF_3, is01_0, is01_1, is01_i, Int.toNat_natCast, Int.reduceEq, Int.reduceLE, Int.reduceLT, Int.reduceNeg, Nat.reduceLT, not_true_eq_false, not_false_eq_true, reduceIte, Option.toList, List.cons_append, List.nil_append, List.set_cons_zero, List.set_cons_succ, List.not_mem_nil, List.mem_cons, if_false, if_true, ite_true, ite_false, and_self, and_true, true_and, Nat.reduceAdd, Nat.reduceLeDiff, Nat.reduceEqDiff, Nat.zero_add, Nat.le_refl, Nat.zero_le, or_false, false_or, Int.reduceToNat, or_true, true_or, eq_self, and_false, false_and, inR_d, nc_4, nc_5, nc_6, nc_7, nc_8, nc_16, nc_18, nc_20, nc_24, nc_32, nc_40, nc_64, nc_104, nc_120, nc_160, nc_256, nc_300, nc_330, nc_390, nc_1200, nc_1260, nc_3012, nc_9834, okSt_1i, okSt_1r, okSt_1n, List.length_cons, List.length_nil, xpk_succ cd_135_0, xpk_succ cd_135_1, xpk_succ cd_135_2, xpk_succ cd_135_3, xpk_succ cd_135_6, xpk_succ cd_135_7, xpk_succ cd_135_8, xpk_succ cd_135_9, xpk_succ cd_135_12, xpk_succ cd_135_163, xpk_succ cd_135_164, xpk_succ cd_135_167, xpk_succ cd_135_168, xpk_succ cd_135_171, xpk_succ cd_135_172, xpk_succ cd_135_175, xpk_succ cd_135_176, k0, kT, eK, eA0, sw, e]
set_option maxHeartbeats 2000000 in
theorem pcW_7a {d T cnt i : Nat} {g g2 : AH} {kd ag : Nat → Int} {v r : Int} (k0 : hK g 0 = (9, 0)) (t : TXP g T cnt kd ag) (hi : i < cnt) (hc : cnt ≤ 24) (e0 : kd i = 7) (a0 : ag (i * 5 + 0) = v) (z : r = v) (e : ∀ Q : Option AV → AH → Prop, XC (d + 8) 128 [vR 0, vI v] g Q = Q (some (vI r)) g2) (Q : Option AV → AH → Prop) : XC (d + 9) 135 [vR 0, vR T, vI (i : Int)] g Q = Q (some (vI 1)) g2 := by
  subst z
  have kT := t.1.1
  refine XC_eq (Nat.le_of_ble_eq_true rfl) ?_ Q
  show XP (d + 8) 135 0 [some (vR 0), some (vR T), some (vI (i : Int)), none] [] g _
  have eK : ∀ Q : Option AV → AH → Prop, XC (d + 8) 91 [vR T, vI (i : Int)] g Q = Q (some (vI 7)) g := fun Q => by
    have q := E_kd (d := d + 6) t hi hc Q
    rw [e0] at q
    exact q
  have eA0 : ∀ Q : Option AV → AH → Prop, XC (d + 8) 92 [vR T, vI (i : Int), vI 0] g Q = Q (some (vI r)) g := fun Q => by
    have q := E_arg (d := d + 6) (k := 0) t hi hc (by decide) Q
    rw [a0] at q
    exact q
  have sw : swF 7 177 [(5, 76), (6, 115), (7, 130), (8, 151), (9, 157), (10, 163), (11, 177), (12, 177), (13, 177), (14, 177), (15, 177), (16, 145)] = 130 := by decide
  refine xpk_sound (stops := []) (n := 60) ?_
  simp only [sk_0, sk_1, sk_2, sk_3, sk_4, sk_5, sk_6, sk_7, sk_8, sk_iadd, sk_isub, sk_imul, sk_iand, sk_ior, sk_ixor, sk_ishl, sk_ishr, sk_iushr, sk_idiv, sk_irem, sk_ineg, sk_ladd, sk_lsub, sk_lmul, sk_land, sk_lor, sk_ldiv, sk_lrem, sk_lneg, sk_lshl, sk_lshr, sk_i2l, sk_l2i, sk_lcmp, sk_dupI, sk_dupR, sk_dup2L, sk_dup2I, sk_popI, sk_ifeq, sk_ifne, sk_iflt, sk_ifge, sk_ifgt, sk_ifle, sk_iceq, sk_icne, sk_iclt, sk_icge, sk_icgt, sk_icle, sk_goto, sk_getf, sk_putf, sk_gets, sk_iald, sk_lald, sk_bald, sk_aald, sk_iast, sk_last, sk_bast, sk_aast, sk_alen, sk_newa, sk_newt, sk_new, sk_cs1, sk_cs2, sk_cs3, sk_cs4, sk_cs5, sk_cs6, sk_cv1, sk_cv2, sk_cv3, sk_cv4, sk_cv5, sk_cv6, sk_ci1, sk_ci2, sk_ci3, sk_ret0, sk_retI, sk_retL, sk_retR, sk_sw, sk_oin, sk_max, sk_min, sk_abs, lI_0, lI_s, lL_0, lL_s, lR_0, lR_s, vIo_e, vLo_e, vOo_e, stW_I, stW_L, stW_R, stW_0, stW_z, okSt_0, okSt_s, hV_eq, hK_eq, okF_0, okF_1, okF_3, is01_0, is01_1, is01_i, Int.toNat_natCast, Int.reduceEq, Int.reduceLE, Int.reduceLT, Int.reduceNeg, Nat.reduceLT, not_true_eq_false, not_false_eq_true, reduceIte, Option.toList, List.cons_append, List.nil_append, List.set_cons_zero, List.set_cons_succ, List.not_mem_nil, List.mem_cons, if_false, if_true, ite_true, ite_false, and_self, and_true, true_and, Nat.reduceAdd, Nat.reduceLeDiff, Nat.reduceEqDiff, Nat.zero_add, Nat.le_refl, Nat.zero_le, or_false, false_or, Int.reduceToNat, or_true, true_or, eq_self, and_false, false_and, inR_d, nc_4, nc_5, nc_6, nc_7, nc_8, nc_16, nc_18, nc_20, nc_24, nc_32, nc_40, nc_64, nc_104, nc_120, nc_160, nc_256, nc_300, nc_330, nc_390, nc_1200, nc_1260, nc_3012, nc_9834, okSt_1i, okSt_1r, okSt_1n, List.length_cons, List.length_nil, xpk_succ cd_135_0, xpk_succ cd_135_1, xpk_succ cd_135_2, xpk_succ cd_135_3, xpk_succ cd_135_6, xpk_succ cd_135_7, xpk_succ cd_135_8, xpk_succ cd_135_9, xpk_succ cd_135_12, xpk_succ cd_135_130, xpk_succ cd_135_131, xpk_succ cd_135_132, xpk_succ cd_135_135, xpk_succ cd_135_136, xpk_succ cd_135_139, xpk_succ cd_135_140, xpk_succ cd_135_143, xpk_succ cd_135_144, k0, kT, eK, eA0, sw, e, (eq_self r), not_true_eq_false]
set_option maxHeartbeats 2000000 in
theorem pcW_7b {d T cnt i : Nat} {g g2 : AH} {kd ag : Nat → Int} {v r : Int} (k0 : hK g 0 = (9, 0)) (t : TXP g T cnt kd ag) (hi : i < cnt) (hc : cnt ≤ 24) (e0 : kd i = 7) (a0 : ag (i * 5 + 0) = v) (z : ¬ r = v) (e : ∀ Q : Option AV → AH → Prop, XC (d + 8) 128 [vR 0, vI v] g Q = Q (some (vI r)) g2) (Q : Option AV → AH → Prop) : XC (d + 9) 135 [vR 0, vR T, vI (i : Int)] g Q = Q (some (vI 0)) g2 := by
  have kT := t.1.1
  refine XC_eq (Nat.le_of_ble_eq_true rfl) ?_ Q
  show XP (d + 8) 135 0 [some (vR 0), some (vR T), some (vI (i : Int)), none] [] g _
  have eK : ∀ Q : Option AV → AH → Prop, XC (d + 8) 91 [vR T, vI (i : Int)] g Q = Q (some (vI 7)) g := fun Q => by
    have q := E_kd (d := d + 6) t hi hc Q
    rw [e0] at q
    exact q
  have eA0 : ∀ Q : Option AV → AH → Prop, XC (d + 8) 92 [vR T, vI (i : Int), vI 0] g Q = Q (some (vI v)) g := fun Q => by
    have q := E_arg (d := d + 6) (k := 0) t hi hc (by decide) Q
    rw [a0] at q
    exact q
  have sw : swF 7 177 [(5, 76), (6, 115), (7, 130), (8, 151), (9, 157), (10, 163), (11, 177), (12, 177), (13, 177), (14, 177), (15, 177), (16, 145)] = 130 := by decide
  refine xpk_sound (stops := []) (n := 60) ?_
  simp only [sk_0, sk_1, sk_2, sk_3, sk_4, sk_5, sk_6, sk_7, sk_8, sk_iadd, sk_isub, sk_imul, sk_iand, sk_ior, sk_ixor, sk_ishl, sk_ishr, sk_iushr, sk_idiv, sk_irem, sk_ineg, sk_ladd, sk_lsub, sk_lmul, sk_land, sk_lor, sk_ldiv, sk_lrem, sk_lneg, sk_lshl, sk_lshr, sk_i2l, sk_l2i, sk_lcmp, sk_dupI, sk_dupR, sk_dup2L, sk_dup2I, sk_popI, sk_ifeq, sk_ifne, sk_iflt, sk_ifge, sk_ifgt, sk_ifle, sk_iceq, sk_icne, sk_iclt, sk_icge, sk_icgt, sk_icle, sk_goto, sk_getf, sk_putf, sk_gets, sk_iald, sk_lald, sk_bald, sk_aald, sk_iast, sk_last, sk_bast, sk_aast, sk_alen, sk_newa, sk_newt, sk_new, sk_cs1, sk_cs2, sk_cs3, sk_cs4, sk_cs5, sk_cs6, sk_cv1, sk_cv2, sk_cv3, sk_cv4, sk_cv5, sk_cv6, sk_ci1, sk_ci2, sk_ci3, sk_ret0, sk_retI, sk_retL, sk_retR, sk_sw, sk_oin, sk_max, sk_min, sk_abs, lI_0, lI_s, lL_0, lL_s, lR_0, lR_s, vIo_e, vLo_e, vOo_e, stW_I, stW_L, stW_R, stW_0, stW_z, okSt_0, okSt_s, hV_eq, hK_eq, okF_0, okF_1, okF_3, is01_0, is01_1, is01_i, Int.toNat_natCast, Int.reduceEq, Int.reduceLE, Int.reduceLT, Int.reduceNeg, Nat.reduceLT, not_true_eq_false, not_false_eq_true, reduceIte, Option.toList, List.cons_append, List.nil_append, List.set_cons_zero, List.set_cons_succ, List.not_mem_nil, List.mem_cons, if_false, if_true, ite_true, ite_false, and_self, and_true, true_and, Nat.reduceAdd, Nat.reduceLeDiff, Nat.reduceEqDiff, Nat.zero_add, Nat.le_refl, Nat.zero_le, or_false, false_or, Int.reduceToNat, or_true, true_or, eq_self, and_false, false_and, inR_d, nc_4, nc_5, nc_6, nc_7, nc_8, nc_16, nc_18, nc_20, nc_24, nc_32, nc_40, nc_64, nc_104, nc_120, nc_160, nc_256, nc_300, nc_330, nc_390, nc_1200, nc_1260, nc_3012, nc_9834, okSt_1i, okSt_1r, okSt_1n, List.length_cons, List.length_nil, xpk_succ cd_135_0, xpk_succ cd_135_1, xpk_succ cd_135_2, xpk_succ cd_135_3, xpk_succ cd_135_6, xpk_succ cd_135_7, xpk_succ cd_135_8, xpk_succ cd_135_9, xpk_succ cd_135_12, xpk_succ cd_135_130, xpk_succ cd_135_131, xpk_succ cd_135_132, xpk_succ cd_135_135, xpk_succ cd_135_136, xpk_succ cd_135_139, xpk_succ cd_135_140, xpk_succ cd_135_143, xpk_succ cd_135_144, k0, kT, eK, eA0, sw, e, z]
set_option maxHeartbeats 4000000 in
theorem pcW_5a {d T cnt i : Nat} {g g2 : AH} {kd ag : Nat → Int} {v0 v1 v2 v3 v4 r : Int} (k0 : hK g 0 = (9, 0)) (t : TXP g T cnt kd ag) (hi : i < cnt) (hc : cnt ≤ 24) (e0 : kd i = 5) (a0 : ag (i * 5 + 0) = v0) (a1 : ag (i * 5 + 1) = v1) (a2 : ag (i * 5 + 2) = v2) (a3 : ag (i * 5 + 3) = v3) (a4 : ag (i * 5 + 4) = v4) (z : ¬ r = -1) (e : ∀ Q : Option AV → AH → Prop, XC (d + 8) 118 [vR 0, vI v0, vI v1, vI v2, vI v3, vI v4] g Q = Q (some (vI r)) g2) (Q : Option AV → AH → Prop) : XC (d + 9) 135 [vR 0, vR T, vI (i : Int)] g Q = Q (some (vI 1)) g2 := by
  have kT := t.1.1
  refine XC_eq (Nat.le_of_ble_eq_true rfl) ?_ Q
  show XP (d + 8) 135 0 [some (vR 0), some (vR T), some (vI (i : Int)), none] [] g _
  have eK : ∀ Q : Option AV → AH → Prop, XC (d + 8) 91 [vR T, vI (i : Int)] g Q = Q (some (vI 5)) g := fun Q => by
    have q := E_kd (d := d + 6) t hi hc Q
    rw [e0] at q
    exact q
  have eA0 : ∀ Q : Option AV → AH → Prop, XC (d + 8) 92 [vR T, vI (i : Int), vI 0] g Q = Q (some (vI v0)) g := fun Q => by
    have q := E_arg (d := d + 6) (k := 0) t hi hc (by decide) Q
    rw [a0] at q
    exact q
  have eA1 : ∀ Q : Option AV → AH → Prop, XC (d + 8) 92 [vR T, vI (i : Int), vI 1] g Q = Q (some (vI v1)) g := fun Q => by
    have q := E_arg (d := d + 6) (k := 1) t hi hc (by decide) Q
    rw [a1] at q
    exact q
  have eA2 : ∀ Q : Option AV → AH → Prop, XC (d + 8) 92 [vR T, vI (i : Int), vI 2] g Q = Q (some (vI v2)) g := fun Q => by
    have q := E_arg (d := d + 6) (k := 2) t hi hc (by decide) Q
    rw [a2] at q
    exact q
  have eA3 : ∀ Q : Option AV → AH → Prop, XC (d + 8) 92 [vR T, vI (i : Int), vI 3] g Q = Q (some (vI v3)) g := fun Q => by
    have q := E_arg (d := d + 6) (k := 3) t hi hc (by decide) Q
    rw [a3] at q
    exact q
  have eA4 : ∀ Q : Option AV → AH → Prop, XC (d + 8) 92 [vR T, vI (i : Int), vI 4] g Q = Q (some (vI v4)) g := fun Q => by
    have q := E_arg (d := d + 6) (k := 4) t hi hc (by decide) Q
    rw [a4] at q
    exact q
  have sw : swF 5 177 [(5, 76), (6, 115), (7, 130), (8, 151), (9, 157), (10, 163), (11, 177), (12, 177), (13, 177), (14, 177), (15, 177), (16, 145)] = 76 := by decide
  refine xpk_sound (stops := []) (n := 100) ?_
  simp only [sk_0, sk_1, sk_2, sk_3, sk_4, sk_5, sk_6, sk_7, sk_8, sk_iadd, sk_isub, sk_imul, sk_iand, sk_ior, sk_ixor, sk_ishl, sk_ishr, sk_iushr, sk_idiv, sk_irem, sk_ineg, sk_ladd, sk_lsub, sk_lmul, sk_land, sk_lor, sk_ldiv, sk_lrem, sk_lneg, sk_lshl, sk_lshr, sk_i2l, sk_l2i, sk_lcmp, sk_dupI, sk_dupR, sk_dup2L, sk_dup2I, sk_popI, sk_ifeq, sk_ifne, sk_iflt, sk_ifge, sk_ifgt, sk_ifle, sk_iceq, sk_icne, sk_iclt, sk_icge, sk_icgt, sk_icle, sk_goto, sk_getf, sk_putf, sk_gets, sk_iald, sk_lald, sk_bald, sk_aald, sk_iast, sk_last, sk_bast, sk_aast, sk_alen, sk_newa, sk_newt, sk_new, sk_cs1, sk_cs2, sk_cs3, sk_cs4, sk_cs5, sk_cs6, sk_cv1, sk_cv2, sk_cv3, sk_cv4, sk_cv5, sk_cv6, sk_ci1, sk_ci2, sk_ci3, sk_ret0, sk_retI, sk_retL, sk_retR, sk_sw, sk_oin, sk_max, sk_min, sk_abs, lI_0, lI_s, lL_0, lL_s, lR_0, lR_s, vIo_e, vLo_e, vOo_e, stW_I, stW_L, stW_R, stW_0, stW_z, okSt_0, okSt_s, hV_eq, hK_eq, okF_0, okF_1, okF_3, is01_0, is01_1, is01_i, Int.toNat_natCast, Int.reduceEq, Int.reduceLE, Int.reduceLT, Int.reduceNeg, Nat.reduceLT, not_true_eq_false, not_false_eq_true, reduceIte, Option.toList, List.cons_append, List.nil_append, List.set_cons_zero, List.set_cons_succ, List.not_mem_nil, List.mem_cons, if_false, if_true, ite_true, ite_false, and_self, and_true, true_and, Nat.reduceAdd, Nat.reduceLeDiff, Nat.reduceEqDiff, Nat.zero_add, Nat.le_refl, Nat.zero_le, or_false, false_or, Int.reduceToNat, or_true, true_or, eq_self, and_false, false_and, inR_d, nc_4, nc_5, nc_6, nc_7, nc_8, nc_16, nc_18, nc_20, nc_24, nc_32, nc_40, nc_64, nc_104, nc_120, nc_160, nc_256, nc_300, nc_330, nc_390, nc_1200, nc_1260, nc_3012, nc_9834, okSt_1i, okSt_1r, okSt_1n, List.length_cons, List.length_nil, xpk_succ cd_135_0, xpk_succ cd_135_1, xpk_succ cd_135_2, xpk_succ cd_135_3, xpk_succ cd_135_6, xpk_succ cd_135_7, xpk_succ cd_135_8, xpk_succ cd_135_9, xpk_succ cd_135_12, xpk_succ cd_135_76, xpk_succ cd_135_77, xpk_succ cd_135_78, xpk_succ cd_135_79, xpk_succ cd_135_80, xpk_succ cd_135_81, xpk_succ cd_135_84, xpk_succ cd_135_85, xpk_succ cd_135_86, xpk_succ cd_135_87, xpk_succ cd_135_90, xpk_succ cd_135_91, xpk_succ cd_135_92, xpk_succ cd_135_93, xpk_succ cd_135_96, xpk_succ cd_135_97, xpk_succ cd_135_98, xpk_succ cd_135_99, xpk_succ cd_135_102, xpk_succ cd_135_105, xpk_succ cd_135_106, xpk_succ cd_135_109, xpk_succ cd_135_110, xpk_succ cd_135_113, xpk_succ cd_135_114, k0, kT, eK, eA0, eA1, eA2, eA3, eA4, sw, e, z]
set_option maxHeartbeats 4000000 in
theorem pcW_5b {d T cnt i : Nat} {g g2 : AH} {kd ag : Nat → Int} {v0 v1 v2 v3 v4 r : Int} (k0 : hK g 0 = (9, 0)) (t : TXP g T cnt kd ag) (hi : i < cnt) (hc : cnt ≤ 24) (e0 : kd i = 5) (a0 : ag (i * 5 + 0) = v0) (a1 : ag (i * 5 + 1) = v1) (a2 : ag (i * 5 + 2) = v2) (a3 : ag (i * 5 + 3) = v3) (a4 : ag (i * 5 + 4) = v4) (e : ∀ Q : Option AV → AH → Prop, XC (d + 8) 118 [vR 0, vI v0, vI v1, vI v2, vI v3, vI v4] g Q = Q (some (vI (-1))) g2) (Q : Option AV → AH → Prop) : XC (d + 9) 135 [vR 0, vR T, vI (i : Int)] g Q = Q (some (vI 0)) g2 := by
  have kT := t.1.1
  refine XC_eq (Nat.le_of_ble_eq_true rfl) ?_ Q
  show XP (d + 8) 135 0 [some (vR 0), some (vR T), some (vI (i : Int)), none] [] g _
  have eK : ∀ Q : Option AV → AH → Prop, XC (d + 8) 91 [vR T, vI (i : Int)] g Q = Q (some (vI 5)) g := fun Q => by
    have q := E_kd (d := d + 6) t hi hc Q
    rw [e0] at q
    exact q
  have eA0 : ∀ Q : Option AV → AH → Prop, XC (d + 8) 92 [vR T, vI (i : Int), vI 0] g Q = Q (some (vI v0)) g := fun Q => by
    have q := E_arg (d := d + 6) (k := 0) t hi hc (by decide) Q
    rw [a0] at q
    exact q
  have eA1 : ∀ Q : Option AV → AH → Prop, XC (d + 8) 92 [vR T, vI (i : Int), vI 1] g Q = Q (some (vI v1)) g := fun Q => by
    have q := E_arg (d := d + 6) (k := 1) t hi hc (by decide) Q
    rw [a1] at q
    exact q
  have eA2 : ∀ Q : Option AV → AH → Prop, XC (d + 8) 92 [vR T, vI (i : Int), vI 2] g Q = Q (some (vI v2)) g := fun Q => by
    have q := E_arg (d := d + 6) (k := 2) t hi hc (by decide) Q
    rw [a2] at q
    exact q
  have eA3 : ∀ Q : Option AV → AH → Prop, XC (d + 8) 92 [vR T, vI (i : Int), vI 3] g Q = Q (some (vI v3)) g := fun Q => by
    have q := E_arg (d := d + 6) (k := 3) t hi hc (by decide) Q
    rw [a3] at q
    exact q
  have eA4 : ∀ Q : Option AV → AH → Prop, XC (d + 8) 92 [vR T, vI (i : Int), vI 4] g Q = Q (some (vI v4)) g := fun Q => by
    have q := E_arg (d := d + 6) (k := 4) t hi hc (by decide) Q
    rw [a4] at q
    exact q
  have sw : swF 5 177 [(5, 76), (6, 115), (7, 130), (8, 151), (9, 157), (10, 163), (11, 177), (12, 177), (13, 177), (14, 177), (15, 177), (16, 145)] = 76 := by decide
  refine xpk_sound (stops := []) (n := 100) ?_
  simp only [sk_0, sk_1, sk_2, sk_3, sk_4, sk_5, sk_6, sk_7, sk_8, sk_iadd, sk_isub, sk_imul, sk_iand, sk_ior, sk_ixor, sk_ishl, sk_ishr, sk_iushr, sk_idiv, sk_irem, sk_ineg, sk_ladd, sk_lsub, sk_lmul, sk_land, sk_lor, sk_ldiv, sk_lrem, sk_lneg, sk_lshl, sk_lshr, sk_i2l, sk_l2i, sk_lcmp, sk_dupI, sk_dupR, sk_dup2L, sk_dup2I, sk_popI, sk_ifeq, sk_ifne, sk_iflt, sk_ifge, sk_ifgt, sk_ifle, sk_iceq, sk_icne, sk_iclt, sk_icge, sk_icgt, sk_icle, sk_goto, sk_getf, sk_putf, sk_gets, sk_iald, sk_lald, sk_bald, sk_aald, sk_iast, sk_last, sk_bast, sk_aast, sk_alen, sk_newa, sk_newt, sk_new, sk_cs1, sk_cs2, sk_cs3, sk_cs4, sk_cs5, sk_cs6, sk_cv1, sk_cv2, sk_cv3, sk_cv4, sk_cv5, sk_cv6, sk_ci1, sk_ci2, sk_ci3, sk_ret0, sk_retI, sk_retL, sk_retR, sk_sw, sk_oin, sk_max, sk_min, sk_abs, lI_0, lI_s, lL_0, lL_s, lR_0, lR_s, vIo_e, vLo_e, vOo_e, stW_I, stW_L, stW_R, stW_0, stW_z, okSt_0, okSt_s, hV_eq, hK_eq, okF_0, okF_1, okF_3, is01_0, is01_1, is01_i, Int.toNat_natCast, Int.reduceEq, Int.reduceLE, Int.reduceLT, Int.reduceNeg, Nat.reduceLT, not_true_eq_false, not_false_eq_true, reduceIte, Option.toList, List.cons_append, List.nil_append, List.set_cons_zero, List.set_cons_succ, List.not_mem_nil, List.mem_cons, if_false, if_true, ite_true, ite_false, and_self, and_true, true_and, Nat.reduceAdd, Nat.reduceLeDiff, Nat.reduceEqDiff, Nat.zero_add, Nat.le_refl, Nat.zero_le, or_false, false_or, Int.reduceToNat, or_true, true_or, eq_self, and_false, false_and, inR_d, nc_4, nc_5, nc_6, nc_7, nc_8, nc_16, nc_18, nc_20, nc_24, nc_32, nc_40, nc_64, nc_104, nc_120, nc_160, nc_256, nc_300, nc_330, nc_390, nc_1200, nc_1260, nc_3012, nc_9834, okSt_1i, okSt_1r, okSt_1n, List.length_cons, List.length_nil, xpk_succ cd_135_0, xpk_succ cd_135_1, xpk_succ cd_135_2, xpk_succ cd_135_3, xpk_succ cd_135_6, xpk_succ cd_135_7, xpk_succ cd_135_8, xpk_succ cd_135_9, xpk_succ cd_135_12, xpk_succ cd_135_76, xpk_succ cd_135_77, xpk_succ cd_135_78, xpk_succ cd_135_79, xpk_succ cd_135_80, xpk_succ cd_135_81, xpk_succ cd_135_84, xpk_succ cd_135_85, xpk_succ cd_135_86, xpk_succ cd_135_87, xpk_succ cd_135_90, xpk_succ cd_135_91, xpk_succ cd_135_92, xpk_succ cd_135_93, xpk_succ cd_135_96, xpk_succ cd_135_97, xpk_succ cd_135_98, xpk_succ cd_135_99, xpk_succ cd_135_102, xpk_succ cd_135_105, xpk_succ cd_135_106, xpk_succ cd_135_109, xpk_succ cd_135_110, xpk_succ cd_135_113, xpk_succ cd_135_114, k0, kT, eK, eA0, eA1, eA2, eA3, eA4, sw, e]
set_option maxHeartbeats 2000000 in
theorem pcW_o {d T cnt i : Nat} {g : AH} {kd ag : Nat → Int} {v K : Int} (k0 : hK g 0 = (9, 0)) (t : TXP g T cnt kd ag) (hi : i < cnt) (hc : cnt ≤ 24) (e0 : kd i = K) (a0 : ag (i * 5 + 0) = v) (sw : swF K 177 [(5, 76), (6, 115), (7, 130), (8, 151), (9, 157), (10, 163), (11, 177), (12, 177), (13, 177), (14, 177), (15, 177), (16, 145)] = 177) (Q : Option AV → AH → Prop) : XC (d + 9) 135 [vR 0, vR T, vI (i : Int)] g Q = Q (some (vI 1)) g := by
  have kT := t.1.1
  refine XC_eq (Nat.le_of_ble_eq_true rfl) ?_ Q
  show XP (d + 8) 135 0 [some (vR 0), some (vR T), some (vI (i : Int)), none] [] g _
  have eK : ∀ Q : Option AV → AH → Prop, XC (d + 8) 91 [vR T, vI (i : Int)] g Q = Q (some (vI K)) g := fun Q => by
    have q := E_kd (d := d + 6) t hi hc Q
    rw [e0] at q
    exact q
  have eA0 : ∀ Q : Option AV → AH → Prop, XC (d + 8) 92 [vR T, vI (i : Int), vI 0] g Q = Q (some (vI v)) g := fun Q => by
    have q := E_arg (d := d + 6) (k := 0) t hi hc (by decide) Q
    rw [a0] at q
    exact q
  refine xpk_sound (stops := []) (n := 60) ?_
  simp only [sk_0, sk_1, sk_2, sk_3, sk_4, sk_5, sk_6, sk_7, sk_8, sk_iadd, sk_isub, sk_imul, sk_iand, sk_ior, sk_ixor, sk_ishl, sk_ishr, sk_iushr, sk_idiv, sk_irem, sk_ineg, sk_ladd, sk_lsub, sk_lmul, sk_land, sk_lor, sk_ldiv, sk_lrem, sk_lneg, sk_lshl, sk_lshr, sk_i2l, sk_l2i, sk_lcmp, sk_dupI, sk_dupR, sk_dup2L, sk_dup2I, sk_popI, sk_ifeq, sk_ifne, sk_iflt, sk_ifge, sk_ifgt, sk_ifle, sk_iceq, sk_icne, sk_iclt, sk_icge, sk_icgt, sk_icle, sk_goto, sk_getf, sk_putf, sk_gets, sk_iald, sk_lald, sk_bald, sk_aald, sk_iast, sk_last, sk_bast, sk_aast, sk_alen, sk_newa, sk_newt, sk_new, sk_cs1, sk_cs2, sk_cs3, sk_cs4, sk_cs5, sk_cs6, sk_cv1, sk_cv2, sk_cv3, sk_cv4, sk_cv5, sk_cv6, sk_ci1, sk_ci2, sk_ci3, sk_ret0, sk_retI, sk_retL, sk_retR, sk_sw, sk_oin, sk_max, sk_min, sk_abs, lI_0, lI_s, lL_0, lL_s, lR_0, lR_s, vIo_e, vLo_e, vOo_e, stW_I, stW_L, stW_R, stW_0, stW_z, okSt_0, okSt_s, hV_eq, hK_eq, okF_0, okF_1, okF_3, is01_0, is01_1, is01_i, Int.toNat_natCast, Int.reduceEq, Int.reduceLE, Int.reduceLT, Int.reduceNeg, Nat.reduceLT, not_true_eq_false, not_false_eq_true, reduceIte, Option.toList, List.cons_append, List.nil_append, List.set_cons_zero, List.set_cons_succ, List.not_mem_nil, List.mem_cons, if_false, if_true, ite_true, ite_false, and_self, and_true, true_and, Nat.reduceAdd, Nat.reduceLeDiff, Nat.reduceEqDiff, Nat.zero_add, Nat.le_refl, Nat.zero_le, or_false, false_or, Int.reduceToNat, or_true, true_or, eq_self, and_false, false_and, inR_d, nc_4, nc_5, nc_6, nc_7, nc_8, nc_16, nc_18, nc_20, nc_24, nc_32, nc_40, nc_64, nc_104, nc_120, nc_160, nc_256, nc_300, nc_330, nc_390, nc_1200, nc_1260, nc_3012, nc_9834, okSt_1i, okSt_1r, okSt_1n, List.length_cons, List.length_nil, xpk_succ cd_135_0, xpk_succ cd_135_1, xpk_succ cd_135_2, xpk_succ cd_135_3, xpk_succ cd_135_6, xpk_succ cd_135_7, xpk_succ cd_135_8, xpk_succ cd_135_9, xpk_succ cd_135_12, xpk_succ cd_135_177, xpk_succ cd_135_178, k0, kT, eK, eA0, sw]
theorem sw_135 {K : Int} (hk : K < 5) : swF K 177 [(5, 76), (6, 115), (7, 130), (8, 151), (9, 157), (10, 163), (11, 177), (12, 177), (13, 177), (14, 177), (15, 177), (16, 145)] = 177 := by
  unfold swF; rw [if_neg (by omega)]; unfold swF; rw [if_neg (by omega)]; unfold swF; rw [if_neg (by omega)]; unfold swF; rw [if_neg (by omega)]; unfold swF; rw [if_neg (by omega)]; unfold swF; rw [if_neg (by omega)]; unfold swF; rw [if_neg (by omega)]; unfold swF; rw [if_neg (by omega)]; unfold swF; rw [if_neg (by omega)]; unfold swF; rw [if_neg (by omega)]; unfold swF; rw [if_neg (by omega)]; unfold swF; rw [if_neg (by omega)]; rfl
/-! a clause that is played, in the class -/
def pcQ1 (h : AH) (x : Bool × STC) (d T i : Nat) (g : AH) : Prop := ∃ (T1' T2' : Nat) (s' : SCR), SOK s' ∧ ∀ Q : Option AV → AH → Prop, XC (d + 9) 135 [vR 0, vR T, vI (i : Int)] g Q = Q (some (vI (b01 x.1))) (ZSc h T1' T2' x.2 s')
/-- what the class asks of a state -/
def CLS (h : AH) (TL : Nat) (cs : List cCl) (S : STC) (n : Nat) (near : Int) : Prop := (RUL h TL ∧ LWC h TL cs ∧ CST cs ∧ hV h 1 1 = vI near) ∧ (HKO S.2.1 n ∧ S.2.1 9 = (S.2.2.2.2 : Int)) ∧ (S.1 1 7 = (S.2.2.2.1 : Int) ∧ S.2.2.2.1 < 30) ∧ (0 ≤ S.1 1 8 ∧ S.1 1 8 ≤ 30) ∧ (S.1 1 5 = (n : Int) ∧ n ≤ 8) ∧ ∀ o, o < n → ORr S.1 o
theorem CLS_of {h : AH} {TL c n : Nat} {cs : List cCl} {S : STC} {am : Nat → Int} {near : Int} (hr : RUL h TL) (hl : LWC h TL cs) (hc : CST cs) (hn : hV h 1 1 = vI near) (hS : WRS S am c n) : CLS h TL cs S n near := by
  obtain ⟨⟨hH, hN, hO, hI, hP, hT⟩, h9⟩ := hS
  obtain ⟨⟨sm, sc, s7, s8, s5⟩, -⟩ := hP
  exact ⟨⟨hr, hl, hc, hn⟩, ⟨hH, h9⟩, ⟨s7, sm⟩, by omega, ⟨hO.2.1, hO.1⟩, fun o ho => (hO.2.2.2 o ho).2.2⟩
theorem pcS_6 {h : AH} {d T TL T1 T2 cnt i n : Nat} {cs : List cCl} {near : Int} {cl : cCl} {S : STC} {s : SCR} {kd ag : Nat → Int} (hJ : k_H JB h) (hS : CLS h TL cs S n near) (hs : SOK s) (t : TXP (ZSc h T1 T2 S s) T cnt kd ag) (hi : i < cnt) (hc : cnt ≤ 24) (e0 : kd i = cl.1) (ev : ∀ (k : Nat) (v : Int), k < 5 → cl.2.2[k]? = some v → ag (i * 5 + k) = v) (hv : CLv cl) (hk : cl.1 = 6) : pcQ1 h (plF cs near cl S) d T i (ZSc h T1 T2 S s) := by
  obtain ⟨⟨hr, hl, hcs, hn1⟩, ⟨hH, h9⟩, ⟨h7, hm⟩, h8, ⟨h5, hn8⟩, hO⟩ := hS
  have k0 : hK (ZSc h T1 T2 S s) 0 = (9, 0) := K_0 (h := h) hJ
  have ht : S.2.2.2.2 ≤ 9999 := by
    have := hH.2.1
    omega
  obtain ⟨v, hv1, hv2, hv3⟩ := hv.2.1 hk
  have hlen : cl.2.2.length = 1 := by rw [hv1]; rfl
  have a0 : ag (i * 5 + 0) = agQ cl 0 := ev 0 _ (by decide) (agQ_s (by rw [hlen]; decide))
  have e0 : kd i = 6 := e0.trans hk
  have ea : agQ cl 0 = v := by unfold agQ; rw [hv1]; rfl
  have hc2 : -1 ≤ agQ cl 0 ∧ agQ cl 0 ≤ 1 := by rw [ea]; exact ⟨hv2, hv3⟩
  obtain ⟨s1, hs1, EC⟩ := E_mov (T1 := T1) (T2 := T2) (rw_ := S.2.2.1) (d := d) hJ hr hl hcs hH.1 h9 hs h7 hm h8 (c := agQ cl 0)
  by_cases z : S.2.2.2.2 < 9999
  · have ep : plF cs near cl S = (true, mvS cs S (agQ cl 0)) := (plF_6 hk).trans (if_pos ⟨hc2, z⟩)
    have p1 := (HKs_n (cs := cs) (rw_ := S.2.2.1) (c := agQ cl 0) hH.1 h9 (by omega)).1.1.1.1
    rw [ep]
    exact ⟨TL, TL, s1, hs1, pcW_6a k0 t hi hc e0 a0 (by omega) (fun Q => (EC Q).trans (if_pos ⟨hc2, z⟩))⟩
  · have ep : plF cs near cl S = (false, S) := (plF_6 hk).trans (if_neg (fun y => z y.2))
    rw [ep]
    exact ⟨T1, T2, s, hs, pcW_6b (r := 0) k0 t hi hc e0 a0 (fun Q => (EC Q).trans (if_neg (fun y => z y.2)))⟩
theorem pcS_7 {h : AH} {d T TL T1 T2 cnt i n : Nat} {cs : List cCl} {near : Int} {cl : cCl} {S : STC} {s : SCR} {kd ag : Nat → Int} (hJ : k_H JB h) (hS : CLS h TL cs S n near) (hs : SOK s) (t : TXP (ZSc h T1 T2 S s) T cnt kd ag) (hi : i < cnt) (hc : cnt ≤ 24) (e0 : kd i = cl.1) (ev : ∀ (k : Nat) (v : Int), k < 5 → cl.2.2[k]? = some v → ag (i * 5 + k) = v) (hv : CLv cl) (hk : cl.1 = 7) : pcQ1 h (plF cs near cl S) d T i (ZSc h T1 T2 S s) := by
  obtain ⟨⟨hr, hl, hcs, hn1⟩, ⟨hH, h9⟩, ⟨h7, hm⟩, h8, ⟨h5, hn8⟩, hO⟩ := hS
  have k0 : hK (ZSc h T1 T2 S s) 0 = (9, 0) := K_0 (h := h) hJ
  have ht : S.2.2.2.2 ≤ 9999 := by
    have := hH.2.1
    omega
  obtain ⟨v, hv1, hv2, hv3⟩ := hv.2.2.1 hk
  have hlen : cl.2.2.length = 1 := by rw [hv1]; rfl
  have a0 : ag (i * 5 + 0) = agQ cl 0 := ev 0 _ (by decide) (agQ_s (by rw [hlen]; decide))
  have e0 : kd i = 7 := e0.trans hk
  have ea : agQ cl 0 = v := by unfold agQ; rw [hv1]; rfl
  obtain ⟨x, hx⟩ : ∃ x : Nat, agQ cl 0 = (x : Int) := ⟨v.toNat, by rw [ea]; omega⟩
  have hx60 : x ≤ 60 := by omega
  obtain ⟨r0, g, ⟨rfl, s1, hs1, rfl⟩, e⟩ := XC_dt (d := d + 7) (E_rnT (d := d) (T1 := T1) (T2 := T2) (rw_ := S.2.2.1) hJ hr hl hcs hH.1 h9 ht hs h7 hm h8 hx60)
  have ep : plF cs near cl S = (decide (S.2.2.2.2 + x ≤ 9999), rnS cs (min x (9999 - S.2.2.2.2)) S) := by rw [plF_7 hk, hx, Int.toNat_natCast]
  rw [ep]
  rw [hx] at a0
  by_cases z : S.2.2.2.2 + x ≤ 9999
  · rw [decide_eq_true z]
    exact ⟨TL, TL, s1, hs1, pcW_7a k0 t hi hc e0 a0 (by omega) e⟩
  · rw [decide_eq_false z]
    exact ⟨TL, TL, s1, hs1, pcW_7b k0 t hi hc e0 a0 (by omega) e⟩
theorem pcS_16 {h : AH} {d T TL T1 T2 cnt i n : Nat} {cs : List cCl} {near : Int} {cl : cCl} {S : STC} {s : SCR} {kd ag : Nat → Int} (hJ : k_H JB h) (hS : CLS h TL cs S n near) (hs : SOK s) (t : TXP (ZSc h T1 T2 S s) T cnt kd ag) (hi : i < cnt) (hc : cnt ≤ 24) (e0 : kd i = cl.1) (ev : ∀ (k : Nat) (v : Int), k < 5 → cl.2.2[k]? = some v → ag (i * 5 + k) = v) (hv : CLv cl) (hk : cl.1 = 16) : pcQ1 h (plF cs near cl S) d T i (ZSc h T1 T2 S s) := by
  obtain ⟨⟨hr, hl, hcs, hn1⟩, ⟨hH, h9⟩, ⟨h7, hm⟩, h8, ⟨h5, hn8⟩, hO⟩ := hS
  have k0 : hK (ZSc h T1 T2 S s) 0 = (9, 0) := K_0 (h := h) hJ
  have ht : S.2.2.2.2 ≤ 9999 := by
    have := hH.2.1
    omega
  obtain ⟨v, hv1, hv2, hv3⟩ := hv.2.2.2 (by omega)
  have hlen : cl.2.2.length = 1 := by rw [hv1]; rfl
  have a0 : ag (i * 5 + 0) = agQ cl 0 := ev 0 _ (by decide) (agQ_s (by rw [hlen]; decide))
  have e0 : kd i = 16 := e0.trans hk
  have ea : agQ cl 0 = v := by unfold agQ; rw [hv1]; rfl
  have EC := fun Q => E_hoi (T1 := T1) (T2 := T2) (f := S.2.1) (rw_ := S.2.2.1) (s := s) (d := d + 5) hJ h7 hm h8 (v := agQ cl 0) Q
  by_cases z : 1 ≤ agQ cl 0 ∧ agQ cl 0 ≤ 24 ∧ ¬ agQ cl 0 = S.2.1 5
  · have ep : plF cs near cl S = (true, kpS S (upF S.2.1 5 (agQ cl 0))) := (plF_16 hk).trans (if_pos z)
    rw [ep]
    exact ⟨T1, T2, s, hs, pcW_16 k0 t hi hc e0 a0 (Or.inr rfl) (fun Q => (EC Q).trans (if_pos z))⟩
  · have ep : plF cs near cl S = (false, S) := (plF_16 hk).trans (if_neg z)
    rw [ep]
    exact ⟨T1, T2, s, hs, pcW_16 k0 t hi hc e0 a0 (Or.inl rfl) (fun Q => (EC Q).trans (if_neg z))⟩
theorem pcS_8 {h : AH} {d T TL T1 T2 cnt i n : Nat} {cs : List cCl} {near : Int} {cl : cCl} {S : STC} {s : SCR} {kd ag : Nat → Int} (hJ : k_H JB h) (hS : CLS h TL cs S n near) (hs : SOK s) (t : TXP (ZSc h T1 T2 S s) T cnt kd ag) (hi : i < cnt) (hc : cnt ≤ 24) (e0 : kd i = cl.1) (ev : ∀ (k : Nat) (v : Int), k < 5 → cl.2.2[k]? = some v → ag (i * 5 + k) = v) (hv : CLv cl) (hk : cl.1 = 8) : pcQ1 h (plF cs near cl S) d T i (ZSc h T1 T2 S s) := by
  obtain ⟨⟨hr, hl, hcs, hn1⟩, ⟨hH, h9⟩, ⟨h7, hm⟩, h8, ⟨h5, hn8⟩, hO⟩ := hS
  have k0 : hK (ZSc h T1 T2 S s) 0 = (9, 0) := K_0 (h := h) hJ
  have ht : S.2.2.2.2 ≤ 9999 := by
    have := hH.2.1
    omega
  obtain ⟨v, hv1, hv2, hv3⟩ := hv.2.2.2 (by omega)
  have hlen : cl.2.2.length = 1 := by rw [hv1]; rfl
  have a0 : ag (i * 5 + 0) = agQ cl 0 := ev 0 _ (by decide) (agQ_s (by rw [hlen]; decide))
  have e0 : kd i = 8 := e0.trans hk
  have ea : agQ cl 0 = v := by unfold agQ; rw [hv1]; rfl
  have EC := fun Q => E_aim (T1 := T1) (T2 := T2) (f := S.2.1) (rw_ := S.2.2.1) (s := s) (d := d + 5) hJ h7 hm h8 (v := agQ cl 0) Q
  by_cases z : 0 ≤ agQ cl 0 ∧ agQ cl 0 ≤ 600 ∧ ¬ agQ cl 0 = S.2.1 8
  · have ep : plF cs near cl S = (true, kpS S (upF S.2.1 8 (agQ cl 0))) := (plF_8 hk).trans (if_pos z)
    rw [ep]
    exact ⟨T1, T2, s, hs, pcW_8 k0 t hi hc e0 a0 (Or.inr rfl) (fun Q => (EC Q).trans (if_pos z))⟩
  · have ep : plF cs near cl S = (false, S) := (plF_8 hk).trans (if_neg z)
    rw [ep]
    exact ⟨T1, T2, s, hs, pcW_8 k0 t hi hc e0 a0 (Or.inl rfl) (fun Q => (EC Q).trans (if_neg z))⟩
theorem pcS_9 {h : AH} {d T TL T1 T2 cnt i n : Nat} {cs : List cCl} {near : Int} {cl : cCl} {S : STC} {s : SCR} {kd ag : Nat → Int} (hJ : k_H JB h) (hS : CLS h TL cs S n near) (hs : SOK s) (t : TXP (ZSc h T1 T2 S s) T cnt kd ag) (hi : i < cnt) (hc : cnt ≤ 24) (e0 : kd i = cl.1) (ev : ∀ (k : Nat) (v : Int), k < 5 → cl.2.2[k]? = some v → ag (i * 5 + k) = v) (hv : CLv cl) (hk : cl.1 = 9) : pcQ1 h (plF cs near cl S) d T i (ZSc h T1 T2 S s) := by
  obtain ⟨⟨hr, hl, hcs, hn1⟩, ⟨hH, h9⟩, ⟨h7, hm⟩, h8, ⟨h5, hn8⟩, hO⟩ := hS
  have k0 : hK (ZSc h T1 T2 S s) 0 = (9, 0) := K_0 (h := h) hJ
  have ht : S.2.2.2.2 ≤ 9999 := by
    have := hH.2.1
    omega
  obtain ⟨v, hv1, hv2, hv3⟩ := hv.2.2.2 (by omega)
  have hlen : cl.2.2.length = 1 := by rw [hv1]; rfl
  have a0 : ag (i * 5 + 0) = agQ cl 0 := ev 0 _ (by decide) (agQ_s (by rw [hlen]; decide))
  have e0 : kd i = 9 := e0.trans hk
  have ea : agQ cl 0 = v := by unfold agQ; rw [hv1]; rfl
  by_cases y : 0 ≤ agQ cl 0 ∧ agQ cl 0 ≤ S.1 1 5 - 1
  · obtain ⟨o, ho⟩ : ∃ o : Nat, agQ cl 0 = (o : Int) := ⟨(agQ cl 0).toNat, by omega⟩
    have hon : o < n := by omega
    have eo : (agQ cl 0).toNat = o := by omega
    rw [ho] at a0
    obtain ⟨-, ⟨y0, y1⟩, -⟩ := hO o hon
    have EC := fun Q => E_hok (T1 := T1) (T2 := T2) (f := S.2.1) (rw_ := S.2.2.1) (s := s) (d := d + 5) hJ h7 hm h8 (by omega) (o := o) (by omega) ⟨y0, by omega⟩ Q
    by_cases z : S.2.1 11 = -1 ∧ bitF (S.2.1 12) o = 0
    · have ep : plF cs near cl S = (true, kpS S (hkF S.1 S.2.1 o)) := by rw [plF_9 hk, eo]; exact if_pos ⟨y, z⟩
      rw [ep]
      exact ⟨T1, T2, s, hs, pcW_9 k0 t hi hc e0 a0 (Or.inr rfl) (fun Q => (EC Q).trans (if_pos z))⟩
    · have ep : plF cs near cl S = (false, S) := by rw [plF_9 hk, eo]; exact if_neg (fun w => z w.2)
      rw [ep]
      exact ⟨T1, T2, s, hs, pcW_9 k0 t hi hc e0 a0 (Or.inl rfl) (fun Q => (EC Q).trans (if_neg z))⟩
  · have EC := fun Q => E_hok0 (T1 := T1) (T2 := T2) (f := S.2.1) (rw_ := S.2.2.1) (s := s) (d := d + 5) hJ (by omega) y Q
    have ep : plF cs near cl S = (false, S) := by rw [plF_9 hk]; exact if_neg (fun w => y w.1)
    rw [ep]
    exact ⟨T1, T2, s, hs, pcW_9 k0 t hi hc e0 a0 (Or.inl rfl) EC⟩
theorem pcS_10 {h : AH} {d T TL T1 T2 cnt i n : Nat} {cs : List cCl} {near : Int} {cl : cCl} {S : STC} {s : SCR} {kd ag : Nat → Int} (hJ : k_H JB h) (hS : CLS h TL cs S n near) (hs : SOK s) (t : TXP (ZSc h T1 T2 S s) T cnt kd ag) (hi : i < cnt) (hc : cnt ≤ 24) (e0 : kd i = cl.1) (ev : ∀ (k : Nat) (v : Int), k < 5 → cl.2.2[k]? = some v → ag (i * 5 + k) = v) (hv : CLv cl) (ha : ∃ v : Int, ag (i * 5 + 0) = v) (hk : cl.1 = 10) : pcQ1 h (plF cs near cl S) d T i (ZSc h T1 T2 S s) := by
  obtain ⟨⟨hr, hl, hcs, hn1⟩, ⟨hH, h9⟩, ⟨h7, hm⟩, h8, ⟨h5, hn8⟩, hO⟩ := hS
  have k0 : hK (ZSc h T1 T2 S s) 0 = (9, 0) := K_0 (h := h) hJ
  have ht : S.2.2.2.2 ≤ 9999 := by
    have := hH.2.1
    omega
  obtain ⟨v, a0⟩ := ha
  have e0 : kd i = 10 := e0.trans hk
  obtain ⟨hHs, -, x11, -, x13, -⟩ := hH
  have p8 := pcB_8 (b := S.2.1 12)
  by_cases y : S.2.1 11 = -1
  · have EC := fun Q => E_lan0 (T1 := T1) (T2 := T2) (W := S.1) (rw_ := S.2.2.1) (s := s) (d := d + 7) hJ y Q
    have ep : plF cs near cl S = (false, S) := by rw [plF_10 hk]; exact if_neg (fun w => w.1 y)
    rw [ep]
    exact ⟨T1, T2, s, hs, pcW_10b (r := 0) k0 t hi hc e0 a0 EC⟩
  · obtain ⟨o, ho⟩ : ∃ o : Nat, S.2.1 11 = (o : Int) := ⟨(S.2.1 11).toNat, by omega⟩
    obtain ⟨k, hk13⟩ : ∃ k : Nat, S.2.1 13 = (k : Int) := ⟨(S.2.1 13).toNat, by omega⟩
    have EC := fun Q => E_lan (T1 := T1) (T2 := T2) (rw_ := S.2.2.1) (s := s) (d := d + 4) hJ h7 hm h8 hHs.1 hn1 ho (by omega) hk13 (by omega) Q
    by_cases z : hsF S.2.1 near = 1
    · have ep : plF cs near cl S = (true, laS S k o) := by
        rw [plF_10 hk, if_pos ⟨y, z⟩, show (S.2.1 13).toNat = k by omega, show (S.2.1 11).toNat = o by omega]
      rw [ep]
      exact ⟨T1, T2, s, hs, pcW_10a k0 t hi hc e0 a0 (by omega) (fun Q => (EC Q).trans (if_pos z))⟩
    · have ep : plF cs near cl S = (false, S) := by rw [plF_10 hk]; exact if_neg (fun w => z w.2)
      rw [ep]
      exact ⟨T1, T2, s, hs, pcW_10b (r := 0) k0 t hi hc e0 a0 (fun Q => (EC Q).trans (if_neg z))⟩
theorem pcS_5 {h : AH} {d T TL T1 T2 cnt i n : Nat} {cs : List cCl} {near : Int} {cl : cCl} {S : STC} {s : SCR} {kd ag : Nat → Int} (hJ : k_H JB h) (hS : CLS h TL cs S n near) (hs : SOK s) (t : TXP (ZSc h T1 T2 S s) T cnt kd ag) (hi : i < cnt) (hc : cnt ≤ 24) (e0 : kd i = cl.1) (ev : ∀ (k : Nat) (v : Int), k < 5 → cl.2.2[k]? = some v → ag (i * 5 + k) = v) (hv : CLv cl) (hk : cl.1 = 5) : pcQ1 h (plF cs near cl S) d T i (ZSc h T1 T2 S s) := by
  obtain ⟨⟨hr, hl, hcs, hn1⟩, ⟨hH, h9⟩, ⟨h7, hm⟩, h8, ⟨h5, hn8⟩, hO⟩ := hS
  have k0 : hK (ZSc h T1 T2 S s) 0 = (9, 0) := K_0 (h := h) hJ
  have ht : S.2.2.2.2 ≤ 9999 := by
    have := hH.2.1
    omega
  have hlen := hv.1 hk
  have e0 : kd i = 5 := e0.trans hk
  have a0 : ag (i * 5 + 0) = agQ cl 0 := ev 0 _ (by decide) (agQ_s (by rw [hlen]; decide))
  have a1 : ag (i * 5 + 1) = agQ cl 1 := ev 1 _ (by decide) (agQ_s (by rw [hlen]; decide))
  have a2 : ag (i * 5 + 2) = agQ cl 2 := ev 2 _ (by decide) (agQ_s (by rw [hlen]; decide))
  have a3 : ag (i * 5 + 3) = agQ cl 3 := ev 3 _ (by decide) (agQ_s (by rw [hlen]; decide))
  have a4 : ag (i * 5 + 4) = agQ cl 4 := ev 4 _ (by decide) (agQ_s (by rw [hlen]; decide))
  have e5 : (S.1 1 5).toNat = n := by omega
  have EC := fun Q => E_orC (T1 := T1) (T2 := T2) (f := S.2.1) (rw_ := S.2.2.1) (s := s) (d := d + 6) hJ h5 hn8 (va := agQ cl 0) (vb := agQ cl 1) (vc := agQ cl 2) (vd := agQ cl 3) (ve := agQ cl 4) Q
  by_cases z : ORc (agQ cl 0) (agQ cl 1) (agQ cl 2) (agQ cl 3) (agQ cl 4) ∧ n < 8
  · have ep : plF cs near cl S = (true, (orW S.1 n (agQ cl 0) (agQ cl 1) (agQ cl 2) (agQ cl 3) (agQ cl 4), S.2)) := by rw [plF_5 hk, e5]; exact if_pos z
    rw [ep]
    exact ⟨T1, T2, s, hs, pcW_5a k0 t hi hc e0 a0 a1 a2 a3 a4 (by omega) (fun Q => (EC Q).trans (if_pos z))⟩
  · have ep : plF cs near cl S = (false, S) := by rw [plF_5 hk, e5]; exact if_neg z
    rw [ep]
    exact ⟨T1, T2, s, hs, pcW_5b (r := 0) k0 t hi hc e0 a0 a1 a2 a3 a4 (fun Q => (EC Q).trans (if_neg z))⟩
theorem E_pcS {h : AH} {d T TL T1 T2 cnt i n : Nat} {cs : List cCl} {near : Int} {cl : cCl} {S : STC} {s : SCR} {kd ag : Nat → Int} (hJ : k_H JB h) (hS : CLS h TL cs S n near) (hs : SOK s) (t : TXP (ZSc h T1 T2 S s) T cnt kd ag) (hi : i < cnt) (hc : cnt ≤ 24) (e0 : kd i = cl.1) (ev : ∀ (k : Nat) (v : Int), k < 5 → cl.2.2[k]? = some v → ag (i * 5 + k) = v) (hv : CLv cl) (hkk : CLk cl) : pcQ1 h (plF cs near cl S) d T i (ZSc h T1 T2 S s) := by
  by_cases z5 : cl.1 = 5
  · exact pcS_5 hJ hS hs t hi hc e0 ev hv z5
  by_cases z6 : cl.1 = 6
  · exact pcS_6 hJ hS hs t hi hc e0 ev hv z6
  by_cases z7 : cl.1 = 7
  · exact pcS_7 hJ hS hs t hi hc e0 ev hv z7
  by_cases z16 : cl.1 = 16
  · exact pcS_16 hJ hS hs t hi hc e0 ev hv z16
  by_cases z8 : cl.1 = 8
  · exact pcS_8 hJ hS hs t hi hc e0 ev hv z8
  by_cases z9 : cl.1 = 9
  · exact pcS_9 hJ hS hs t hi hc e0 ev hv z9
  by_cases z10 : cl.1 = 10
  · exact pcS_10 hJ hS hs t hi hc e0 ev hv ⟨_, rfl⟩ z10
  have hkk := hkk.1
  have k0 : hK (ZSc h T1 T2 S s) 0 = (9, 0) := K_0 (h := h) hJ
  have ep : plF cs near cl S = (true, S) := plF_o (by omega)
  rw [ep]
  exact ⟨T1, T2, s, hs, pcW_o k0 t hi hc e0 rfl (sw_135 (by omega))⟩
/-! all clauses of a text, in the class -/
def pcQ (h : AH) (x : Int × STC) (r : Option AV) (g : AH) : Prop := r = some (vI x.1) ∧ ∃ (T1 T2 : Nat) (s : SCR), SOK s ∧ g = ZSc h T1 T2 x.2 s
theorem pc_k (k : Nat) (hk : k < 24) : WE ((k : Int) + 1) ((k + 1 : Nat) : Int) := by unfold WE w32; omega
set_option maxHeartbeats 2000000 in
theorem pc_l {d j W TL T : Nat} {h : AH} {J : Int} {cs csP : List cCl} {near : Int} {gm kd ag : Nat → Int} (hR : RMH h J cs) (hr : RUL h TL) (hl : LWC h TL cs) (hn1 : hV h 1 1 = vI near) (hg : ∀ i, i < 3012 → hV h 79 i = vI (gm i)) (hj4 : j < 4) (hT : TMR j gm csP W) (h24 : csP.length ≤ 24) (hK_ : ∀ cl, cl ∈ csP → CLk cl) (hC : ∀ cl, cl ∈ csP → CLv cl) (hTT : 22 ≤ T ∧ T + 5 < 58) (t : TXP h T csP.length kd ag) (hx : ∀ (i : Nat) (cl : cCl), csP[i]? = some cl → kd i = cl.1 ∧ ∀ (k : Nat) (v : Int), k < 5 → cl.2.2[k]? = some v → ag (i * 5 + k) = v) : ∀ (r : List cCl) (k c n T1 T2 : Nat) (S : STC) (am : Nat → Int) (s : SCR), csP.drop k = r → am 4 = J → am 1 = near → WRS S am c n → SOK s → XP (d + 9) 134 20 [some (vR 0), some (vI (j : Int)), some (vR T), some (vI (k : Int))] [] (ZSc h T1 T2 S s) (pcQ h (plA cs near r k S)) := by
  have hJ := hR.1
  intro r
  induction r with
  | nil =>
    intro k c n T1 T2 S am s hd hj hn hS hs
    have hl2 := drn csP k hd
    have z : (csP.length : Int) ≤ (k : Int) := by omega
    have tz : TXP (ZSc h T1 T2 S s) T csP.length kd ag := TXP_Z hTT t
    have kT := tz.1.1
    have v6 := tz.2.1.2.2
    have y : pcQ h (plA cs near [] k S) (some (vI (-1))) (ZSc h T1 T2 S s) := ⟨rfl, T1, T2, s, hs, rfl⟩
    refine xpk_sound (stops := []) (n := 20) ?_
    simp only [sk_0, sk_1, sk_2, sk_3, sk_4, sk_5, sk_6, sk_7, sk_8, sk_iadd, sk_isub, sk_imul, sk_iand, sk_ior, sk_ixor, sk_ishl, sk_ishr, sk_iushr, sk_idiv, sk_irem, sk_ineg, sk_ladd, sk_lsub, sk_lmul, sk_land, sk_lor, sk_ldiv, sk_lrem, sk_lneg, sk_lshl, sk_lshr, sk_i2l, sk_l2i, sk_lcmp, sk_dupI, sk_dupR, sk_dup2L, sk_dup2I, sk_popI, sk_ifeq, sk_ifne, sk_iflt, sk_ifge, sk_ifgt, sk_ifle, sk_iceq, sk_icne, sk_iclt, sk_icge, sk_icgt, sk_icle, sk_goto, sk_getf, sk_putf, sk_gets, sk_iald, sk_lald, sk_bald, sk_aald, sk_iast, sk_last, sk_bast, sk_aast, sk_alen, sk_newa, sk_newt, sk_new, sk_cs1, sk_cs2, sk_cs3, sk_cs4, sk_cs5, sk_cs6, sk_cv1, sk_cv2, sk_cv3, sk_cv4, sk_cv5, sk_cv6, sk_ci1, sk_ci2, sk_ci3, sk_ret0, sk_retI, sk_retL, sk_retR, sk_sw, sk_oin, sk_max, sk_min, sk_abs, lI_0, lI_s, lL_0, lL_s, lR_0, lR_s, vIo_e, vLo_e, vOo_e, stW_I, stW_L, stW_R, stW_0, stW_z, okSt_0, okSt_s, hV_eq, hK_eq, okF_0, okF_1, okF_3, is01_0, is01_1, is01_i, Int.toNat_natCast, Int.reduceEq, Int.reduceLE, Int.reduceLT, Int.reduceNeg, Nat.reduceLT, not_true_eq_false, not_false_eq_true, reduceIte, Option.toList, List.cons_append, List.nil_append, List.set_cons_zero, List.set_cons_succ, List.not_mem_nil, List.mem_cons, if_false, if_true, ite_true, ite_false, and_self, and_true, true_and, Nat.reduceAdd, Nat.reduceLeDiff, Nat.reduceEqDiff, Nat.zero_add, Nat.le_refl, Nat.zero_le, or_false, false_or, Int.reduceToNat, or_true, true_or, eq_self, and_false, false_and, inR_d, nc_4, nc_5, nc_6, nc_7, nc_8, nc_16, nc_18, nc_20, nc_24, nc_32, nc_40, nc_64, nc_104, nc_120, nc_160, nc_256, nc_300, nc_330, nc_390, nc_1200, nc_1260, nc_3012, nc_9834, okSt_1i, okSt_1r, okSt_1n, List.length_cons, List.length_nil, xpk_succ cd_134_20, xpk_succ cd_134_21, xpk_succ cd_134_22, xpk_succ cd_134_25, xpk_succ cd_134_28, xpk_succ cd_134_29, xpk_succ cd_134_31, xpk_succ cd_134_34, xpk_succ cd_134_35, xpk_succ cd_134_36, xpk_succ cd_134_37, xpk_succ cd_134_40, xpk_succ cd_134_43, xpk_succ cd_134_44, xpk_succ cd_134_45, xpk_succ cd_134_48, xpk_succ cd_134_51, xpk_succ cd_134_52, kT, v6, z]
    exact y
  | cons cl r ih =>
    intro k c n T1 T2 S am s hd hj hn hS hs
    obtain ⟨hk, hd2⟩ := drp csP k cl r hd
    have hl2 := gq_l _ _ _ hk
    have hm := List.mem_of_getElem? hk
    have z : ¬ ((csP.length : Int) ≤ (k : Int)) := by omega
    have z3 : ¬ ((24 : Int) ≤ (k : Int)) := by omega
    have w4 := pc_k k (by omega)
    have tz : TXP (ZSc h T1 T2 S s) T csP.length kd ag := TXP_Z hTT t
    have kT := tz.1.1
    have v6 := tz.2.1.2.2
    have k0 : hK (ZSc h T1 T2 S s) 0 = (9, 0) := K_0 (h := h) hJ
    obtain ⟨x1, x2⟩ := hx k cl hk
    obtain ⟨T1', T2', s', hs', e⟩ := E_pcS (d := d) hJ (CLS_of hr hl hR.2.2.1 hn1 hS) hs tz hl2 h24 x1 x2 (hC cl hm) (hK_ cl hm)
    -- a state of the reference beside it
    have gh : ∃ (am' : Nat → Int) (c' n' : Nat), WRS (plF cs near cl S).2 am' c' n' ∧ am' 4 = J ∧ am' 1 = near := by
      by_cases y5 : cl.1 < 5
      · have ep : plF cs near cl S = (true, S) := plF_o (by omega)
        rw [ep]
        exact ⟨am, c, n, hS, hj, hn⟩
      · obtain ⟨c1, c2, c3⟩ := hT.2 k cl hk
        obtain ⟨am', s2, c', n', ⟨hw, hF⟩, -⟩ := E_isP (d := 0) (s := (fun _ => 0, 0, 0, fun _ => 0, fun _ => 0)) (p := 753 * j + 1 + 6 * k) hR hj hn hS hg (by omega) c1 (c3 y5) (hC cl hm) (hK_ cl hm)
        exact ⟨am', c', n', hw, (hF 4 (by omega)).trans hj, (hF 1 (by omega)).trans hn⟩
    obtain ⟨am', c', n', hw, hj', hn'⟩ := gh
    by_cases yb : (plF cs near cl S).1 = true
    · have y := ih (k + 1) c' n' T1' T2' (plF cs near cl S).2 am' s' hd2 hj' hn' hw hs'
      have ea : plA cs near (cl :: r) k S = plA cs near r (k + 1) (plF cs near cl S).2 := if_pos yb
      rw [ea]
      rw [yb] at e
      have e : ∀ Q : Option AV → AH → Prop, XC (d + 9) 135 [vR 0, vR T, vI (k : Int)] (ZSc h T1 T2 S s) Q = Q (some (vI 1)) (ZSc h T1' T2' (plF cs near cl S).2 s') := e
      refine xpk_sound (stops := [20]) (n := 60) ?_
      simp only [sk_0, sk_1, sk_2, sk_3, sk_4, sk_5, sk_6, sk_7, sk_8, sk_iadd, sk_isub, sk_imul, sk_iand, sk_ior, sk_ixor, sk_ishl, sk_ishr, sk_iushr, sk_idiv, sk_irem, sk_ineg, sk_ladd, sk_lsub, sk_lmul, sk_land, sk_lor, sk_ldiv, sk_lrem, sk_lneg, sk_lshl, sk_lshr, sk_i2l, sk_l2i, sk_lcmp, sk_dupI, sk_dupR, sk_dup2L, sk_dup2I, sk_popI, sk_ifeq, sk_ifne, sk_iflt, sk_ifge, sk_ifgt, sk_ifle, sk_iceq, sk_icne, sk_iclt, sk_icge, sk_icgt, sk_icle, sk_goto, sk_getf, sk_putf, sk_gets, sk_iald, sk_lald, sk_bald, sk_aald, sk_iast, sk_last, sk_bast, sk_aast, sk_alen, sk_newa, sk_newt, sk_new, sk_cs1, sk_cs2, sk_cs3, sk_cs4, sk_cs5, sk_cs6, sk_cv1, sk_cv2, sk_cv3, sk_cv4, sk_cv5, sk_cv6, sk_ci1, sk_ci2, sk_ci3, sk_ret0, sk_retI, sk_retL, sk_retR, sk_sw, sk_oin, sk_max, sk_min, sk_abs, lI_0, lI_s, lL_0, lL_s, lR_0, lR_s, vIo_e, vLo_e, vOo_e, stW_I, stW_L, stW_R, stW_0, stW_z, okSt_0, okSt_s, hV_eq, hK_eq, okF_0, okF_1, okF_3, is01_0, is01_1, is01_i, Int.toNat_natCast, Int.reduceEq, Int.reduceLE, Int.reduceLT, Int.reduceNeg, Nat.reduceLT, not_true_eq_false, not_false_eq_true, reduceIte, Option.toList, List.cons_append, List.nil_append, List.set_cons_zero, List.set_cons_succ, List.not_mem_nil, List.mem_cons, if_false, if_true, ite_true, ite_false, and_self, and_true, true_and, Nat.reduceAdd, Nat.reduceLeDiff, Nat.reduceEqDiff, Nat.zero_add, Nat.le_refl, Nat.zero_le, or_false, false_or, Int.reduceToNat, or_true, true_or, eq_self, and_false, false_and, inR_d, nc_4, nc_5, nc_6, nc_7, nc_8, nc_16, nc_18, nc_20, nc_24, nc_32, nc_40, nc_64, nc_104, nc_120, nc_160, nc_256, nc_300, nc_330, nc_390, nc_1200, nc_1260, nc_3012, nc_9834, okSt_1i, okSt_1r, okSt_1n, List.length_cons, List.length_nil, xpk_succ cd_134_20, xpk_succ cd_134_21, xpk_succ cd_134_22, xpk_succ cd_134_25, xpk_succ cd_134_28, xpk_succ cd_134_29, xpk_succ cd_134_31, xpk_succ cd_134_34, xpk_succ cd_134_35, xpk_succ cd_134_36, xpk_succ cd_134_37, xpk_succ cd_134_40, xpk_succ cd_134_43, xpk_succ cd_134_44, xpk_succ cd_134_45, xpk_succ cd_134_48, xpk_succ cd_134_51, xpk_succ cd_134_52, kT, k0, v6, z, z3, (WE_e w4), e]
      exact y
    · have yb : (plF cs near cl S).1 = false := by
        cases hb : (plF cs near cl S).1 with
        | true => exact absurd hb yb
        | false => rfl
      have ea : plA cs near (cl :: r) k S = ((k : Int), (plF cs near cl S).2) := if_neg (by rw [yb]; decide)
      rw [ea]
      rw [yb] at e
      have e : ∀ Q : Option AV → AH → Prop, XC (d + 9) 135 [vR 0, vR T, vI (k : Int)] (ZSc h T1 T2 S s) Q = Q (some (vI 0)) (ZSc h T1' T2' (plF cs near cl S).2 s') := e
      have y : pcQ h ((k : Int), (plF cs near cl S).2) (some (vI (k : Int))) (ZSc h T1' T2' (plF cs near cl S).2 s') := ⟨rfl, T1', T2', s', hs', rfl⟩
      refine xpk_sound (stops := []) (n := 60) ?_
      simp only [sk_0, sk_1, sk_2, sk_3, sk_4, sk_5, sk_6, sk_7, sk_8, sk_iadd, sk_isub, sk_imul, sk_iand, sk_ior, sk_ixor, sk_ishl, sk_ishr, sk_iushr, sk_idiv, sk_irem, sk_ineg, sk_ladd, sk_lsub, sk_lmul, sk_land, sk_lor, sk_ldiv, sk_lrem, sk_lneg, sk_lshl, sk_lshr, sk_i2l, sk_l2i, sk_lcmp, sk_dupI, sk_dupR, sk_dup2L, sk_dup2I, sk_popI, sk_ifeq, sk_ifne, sk_iflt, sk_ifge, sk_ifgt, sk_ifle, sk_iceq, sk_icne, sk_iclt, sk_icge, sk_icgt, sk_icle, sk_goto, sk_getf, sk_putf, sk_gets, sk_iald, sk_lald, sk_bald, sk_aald, sk_iast, sk_last, sk_bast, sk_aast, sk_alen, sk_newa, sk_newt, sk_new, sk_cs1, sk_cs2, sk_cs3, sk_cs4, sk_cs5, sk_cs6, sk_cv1, sk_cv2, sk_cv3, sk_cv4, sk_cv5, sk_cv6, sk_ci1, sk_ci2, sk_ci3, sk_ret0, sk_retI, sk_retL, sk_retR, sk_sw, sk_oin, sk_max, sk_min, sk_abs, lI_0, lI_s, lL_0, lL_s, lR_0, lR_s, vIo_e, vLo_e, vOo_e, stW_I, stW_L, stW_R, stW_0, stW_z, okSt_0, okSt_s, hV_eq, hK_eq, okF_0, okF_1, okF_3, is01_0, is01_1, is01_i, Int.toNat_natCast, Int.reduceEq, Int.reduceLE, Int.reduceLT, Int.reduceNeg, Nat.reduceLT, not_true_eq_false, not_false_eq_true, reduceIte, Option.toList, List.cons_append, List.nil_append, List.set_cons_zero, List.set_cons_succ, List.not_mem_nil, List.mem_cons, if_false, if_true, ite_true, ite_false, and_self, and_true, true_and, Nat.reduceAdd, Nat.reduceLeDiff, Nat.reduceEqDiff, Nat.zero_add, Nat.le_refl, Nat.zero_le, or_false, false_or, Int.reduceToNat, or_true, true_or, eq_self, and_false, false_and, inR_d, nc_4, nc_5, nc_6, nc_7, nc_8, nc_16, nc_18, nc_20, nc_24, nc_32, nc_40, nc_64, nc_104, nc_120, nc_160, nc_256, nc_300, nc_330, nc_390, nc_1200, nc_1260, nc_3012, nc_9834, okSt_1i, okSt_1r, okSt_1n, List.length_cons, List.length_nil, xpk_succ cd_134_20, xpk_succ cd_134_21, xpk_succ cd_134_22, xpk_succ cd_134_25, xpk_succ cd_134_28, xpk_succ cd_134_29, xpk_succ cd_134_31, xpk_succ cd_134_34, xpk_succ cd_134_35, xpk_succ cd_134_36, xpk_succ cd_134_37, xpk_succ cd_134_40, xpk_succ cd_134_43, xpk_succ cd_134_44, xpk_succ cd_134_45, xpk_succ cd_134_48, xpk_succ cd_134_51, xpk_succ cd_134_52, kT, k0, v6, z, z3, (WE_e w4), e]
      exact y
theorem F_21z {h : AH} (hJ : k_H JB h) {J T1 T2 : Nat} {W : Nat → Nat → Int} {f rw_ : Nat → Int} {s : SCR} (hJ4 : J < 4) : hV (Zc h T1 T2 W f rw_ s) 21 J = vR (22 + 6 * J) := (Zc_n (by decide) (by decide) (by decide) (inG_hi (by decide))).trans (F_21 hJ hJ4)
set_option maxHeartbeats 2000000 in
theorem E_plC {d j W TL T1 T2 c n : Nat} {h : AH} {J cnt : Int} {cs csP : List cCl} {near : Int} {gm kd ag am : Nat → Int} {S : STC} {s : SCR} (hR : RMH h J cs) (hr : RUL h TL) (hl : LWC h TL cs) (hn1 : hV h 1 1 = vI near) (hg : ∀ i, i < 3012 → hV h 79 i = vI (gm i)) (hj4 : j < 4) (v2 : hV h 1 2 = vI cnt) (hc4 : 0 ≤ cnt ∧ cnt ≤ 4) (hjc : (j : Int) < cnt) (hT : TMR j gm csP W) (h24 : csP.length ≤ 24) (hK_ : ∀ cl, cl ∈ csP → CLk cl) (hC : ∀ cl, cl ∈ csP → CLv cl) (t : TXP h (22 + 6 * j) csP.length kd ag) (hx : ∀ (i : Nat) (cl : cCl), csP[i]? = some cl → kd i = cl.1 ∧ ∀ (k : Nat) (v : Int), k < 5 → cl.2.2[k]? = some v → ag (i * 5 + k) = v) (hj : am 4 = J) (hn : am 1 = near) (hS : WRS S am c n) (hs : SOK s) : XC (d + 10) 134 [vR 0, vI (j : Int)] (ZSc h T1 T2 S s) (pcQ h (plA cs near csP 0 S)) := by
  have hJ := hR.1
  refine XC_of (Nat.le_of_ble_eq_true rfl) ?_
  show XP (d + 9) 134 0 [some (vR 0), some (vI (j : Int)), none, none] [] (Zc h T1 T2 S.1 S.2.1 S.2.2.1 s) _
  have y := pc_l (d := d) hR hr hl hn1 hg hj4 hT h24 hK_ hC (by omega) t hx csP 0 c n T1 T2 S am s rfl hj hn hS hs
  have y : XP (d + 9) 134 20 [some (vR 0), some (vI (j : Int)), some (vR (22 + 6 * j)), some (vI 0)] [] (Zc h T1 T2 S.1 S.2.1 S.2.2.1 s) (pcQ h (plA cs near csP 0 S)) := y
  have ei : ∀ Q : Option AV → AH → Prop, XC (d + 9) 173 [vR 0, vI (j : Int)] (Zc h T1 T2 S.1 S.2.1 S.2.2.1 s) Q = Q (some (vI 1)) (Zc h T1 T2 S.1 S.2.1 S.2.2.1 s) := fun Q => by rw [E_iTx (d := d + 7) hJ v2 hc4 Q, if_pos (by omega)]
  have f21 := F_21z (T1 := T1) (T2 := T2) (W := S.1) (f := S.2.1) (rw_ := S.2.2.1) (s := s) hJ hj4
  have bj : (0 : Int) ≤ (j : Int) ∧ (j : Int) < 4 := by omega
  refine xpk_sound (stops := [20]) (n := 40) ?_
  simp only [sk_0, sk_1, sk_2, sk_3, sk_4, sk_5, sk_6, sk_7, sk_8, sk_iadd, sk_isub, sk_imul, sk_iand, sk_ior, sk_ixor, sk_ishl, sk_ishr, sk_iushr, sk_idiv, sk_irem, sk_ineg, sk_ladd, sk_lsub, sk_lmul, sk_land, sk_lor, sk_ldiv, sk_lrem, sk_lneg, sk_lshl, sk_lshr, sk_i2l, sk_l2i, sk_lcmp, sk_dupI, sk_dupR, sk_dup2L, sk_dup2I, sk_popI, sk_ifeq, sk_ifne, sk_iflt, sk_ifge, sk_ifgt, sk_ifle, sk_iceq, sk_icne, sk_iclt, sk_icge, sk_icgt, sk_icle, sk_goto, sk_getf, sk_putf, sk_gets, sk_iald, sk_lald, sk_bald, sk_aald, sk_iast, sk_last, sk_bast, sk_aast, sk_alen, sk_newa, sk_newt, sk_new, sk_cs1, sk_cs2, sk_cs3, sk_cs4, sk_cs5, sk_cs6, sk_cv1, sk_cv2, sk_cv3, sk_cv4, sk_cv5, sk_cv6, sk_ci1, sk_ci2, sk_ci3, sk_ret0, sk_retI, sk_retL, sk_retR, sk_sw, sk_oin, sk_max, sk_min, sk_abs, lI_0, lI_s, lL_0, lL_s, lR_0, lR_s, vIo_e, vLo_e, vOo_e, stW_I, stW_L, stW_R, stW_0, stW_z, okSt_0, okSt_s, hV_eq, hK_eq, okF_0, okF_1, okF_3, is01_0, is01_1, is01_i, Int.toNat_natCast, Int.reduceEq, Int.reduceLE, Int.reduceLT, Int.reduceNeg, Nat.reduceLT, not_true_eq_false, not_false_eq_true, reduceIte, Option.toList, List.cons_append, List.nil_append, List.set_cons_zero, List.set_cons_succ, List.not_mem_nil, List.mem_cons, if_false, if_true, ite_true, ite_false, and_self, and_true, true_and, Nat.reduceAdd, Nat.reduceLeDiff, Nat.reduceEqDiff, Nat.zero_add, Nat.le_refl, Nat.zero_le, or_false, false_or, Int.reduceToNat, or_true, true_or, eq_self, and_false, false_and, inR_d, nc_4, nc_5, nc_6, nc_7, nc_8, nc_16, nc_18, nc_20, nc_24, nc_32, nc_40, nc_64, nc_104, nc_120, nc_160, nc_256, nc_300, nc_330, nc_390, nc_1200, nc_1260, nc_3012, nc_9834, okSt_1i, okSt_1r, okSt_1n, List.length_cons, List.length_nil, xpk_succ cd_134_0, xpk_succ cd_134_1, xpk_succ cd_134_2, xpk_succ cd_134_5, xpk_succ cd_134_8, xpk_succ cd_134_10, xpk_succ cd_134_11, xpk_succ cd_134_12, xpk_succ cd_134_15, xpk_succ cd_134_16, xpk_succ cd_134_17, xpk_succ cd_134_18, xpk_succ cd_134_19, Zc_k, (K_0 hJ), (K_21 hJ), (Zp_0_2 hJ), f21, bj, ei]
  exact y
theorem E_plC0 {d T1 T2 : Nat} {h : AH} {cnt : Int} {S : STC} {s : SCR} {x : Int} (hJ : k_H JB h) (v2 : hV h 1 2 = vI cnt) (hc4 : 0 ≤ cnt ∧ cnt ≤ 4) (hx : ¬ (0 ≤ x ∧ x ≤ cnt - 1)) (Q : Option AV → AH → Prop) : XC (d + 10) 134 [vR 0, vI x] (Zc h T1 T2 S.1 S.2.1 S.2.2.1 s) Q = Q (some (vI (-2))) (Zc h T1 T2 S.1 S.2.1 S.2.2.1 s) := by
  refine XC_eq (Nat.le_of_ble_eq_true rfl) ?_ Q
  show XP (d + 9) 134 0 [some (vR 0), some (vI x), none, none] [] (Zc h T1 T2 S.1 S.2.1 S.2.2.1 s) _
  have ei : ∀ Q : Option AV → AH → Prop, XC (d + 9) 173 [vR 0, vI x] (Zc h T1 T2 S.1 S.2.1 S.2.2.1 s) Q = Q (some (vI 0)) (Zc h T1 T2 S.1 S.2.1 S.2.2.1 s) := fun Q => by rw [E_iTx (d := d + 7) hJ v2 hc4 Q, if_neg hx]
  refine xpk_sound (stops := []) (n := 20) ?_
  simp only [sk_0, sk_1, sk_2, sk_3, sk_4, sk_5, sk_6, sk_7, sk_8, sk_iadd, sk_isub, sk_imul, sk_iand, sk_ior, sk_ixor, sk_ishl, sk_ishr, sk_iushr, sk_idiv, sk_irem, sk_ineg, sk_ladd, sk_lsub, sk_lmul, sk_land, sk_lor, sk_ldiv, sk_lrem, sk_lneg, sk_lshl, sk_lshr, sk_i2l, sk_l2i, sk_lcmp, sk_dupI, sk_dupR, sk_dup2L, sk_dup2I, sk_popI, sk_ifeq, sk_ifne, sk_iflt, sk_ifge, sk_ifgt, sk_ifle, sk_iceq, sk_icne, sk_iclt, sk_icge, sk_icgt, sk_icle, sk_goto, sk_getf, sk_putf, sk_gets, sk_iald, sk_lald, sk_bald, sk_aald, sk_iast, sk_last, sk_bast, sk_aast, sk_alen, sk_newa, sk_newt, sk_new, sk_cs1, sk_cs2, sk_cs3, sk_cs4, sk_cs5, sk_cs6, sk_cv1, sk_cv2, sk_cv3, sk_cv4, sk_cv5, sk_cv6, sk_ci1, sk_ci2, sk_ci3, sk_ret0, sk_retI, sk_retL, sk_retR, sk_sw, sk_oin, sk_max, sk_min, sk_abs, lI_0, lI_s, lL_0, lL_s, lR_0, lR_s, vIo_e, vLo_e, vOo_e, stW_I, stW_L, stW_R, stW_0, stW_z, okSt_0, okSt_s, hV_eq, hK_eq, okF_0, okF_1, okF_3, is01_0, is01_1, is01_i, Int.toNat_natCast, Int.reduceEq, Int.reduceLE, Int.reduceLT, Int.reduceNeg, Nat.reduceLT, not_true_eq_false, not_false_eq_true, reduceIte, Option.toList, List.cons_append, List.nil_append, List.set_cons_zero, List.set_cons_succ, List.not_mem_nil, List.mem_cons, if_false, if_true, ite_true, ite_false, and_self, and_true, true_and, Nat.reduceAdd, Nat.reduceLeDiff, Nat.reduceEqDiff, Nat.zero_add, Nat.le_refl, Nat.zero_le, or_false, false_or, Int.reduceToNat, or_true, true_or, eq_self, and_false, false_and, inR_d, nc_4, nc_5, nc_6, nc_7, nc_8, nc_16, nc_18, nc_20, nc_24, nc_32, nc_40, nc_64, nc_104, nc_120, nc_160, nc_256, nc_300, nc_330, nc_390, nc_1200, nc_1260, nc_3012, nc_9834, okSt_1i, okSt_1r, okSt_1n, List.length_cons, List.length_nil, xpk_succ cd_134_0, xpk_succ cd_134_1, xpk_succ cd_134_2, xpk_succ cd_134_5, xpk_succ cd_134_8, xpk_succ cd_134_10, xpk_succ cd_134_11, xpk_succ cd_134_12, xpk_succ cd_134_15, xpk_succ cd_134_16, xpk_succ cd_134_17, xpk_succ cd_134_18, xpk_succ cd_134_19, Zc_k, (K_0 hJ), ei]
/-- played of both: the relation -/
theorem RE_played {h h1 h2 : AH} {r1 r2 : Option AV} {x : Int} (hJ : k_H JB h) (hJ1 : k_H JB h1) (hJ2 : k_H JB h2) (r : REL h) (E1 : ∀ Q : Option AV → AH → Prop, XC 1000 134 [vR 0, vI x] h Q = Q r1 h1) (E2 : ∀ Q : Option AV → AH → Prop, XC 1000 265 [vR 76, vI x] h1 Q = Q r2 h2) : r2 = r1 ∧ REL h2 := by
  obtain ⟨TL, cs, T1, T2, s, m, c, n, t, ⟨hr, hl, hc, hm⟩, ⟨es, hs⟩, hw, ⟨h9, ht, hk⟩, ⟨h7, hm30⟩, h8, -, ⟨h5, hn8⟩, hn⟩ := RE_pre hJ r
  obtain ⟨v2, c0, c4⟩ := I_1_2 hJ
  have o2 : fI h 77 3 = fI h 1 2 := r.2.1.2.1.2.1
  obtain ⟨cnt, hcnt⟩ : ∃ cnt : Nat, fI h 1 2 = (cnt : Int) := ⟨(fI h 1 2).toNat, by omega⟩
  by_cases z : 0 ≤ x ∧ x ≤ fI h 1 2 - 1
  · obtain ⟨j, rfl⟩ : ∃ j : Nat, x = (j : Int) := ⟨x.toNat, by omega⟩
    have r0 := r
    obtain ⟨-, -, -, -, -, ⟨CS, q8⟩, -, q10⟩ := r0
    have tj := q8 j (by omega)
    obtain ⟨⟨bg, en, kd, ag, L, dd, w1, w2, w3, w4, w5, w6, w7, w8, w9⟩, ⟨gm, W, g1, g2, g3⟩, t3, t4, t5⟩ := tj
    have hR : RMH h (fI h 77 4) cs := ⟨hJ, hm, hc, q10⟩
    have hS : WRS (fI h, fI h 2, fI h 4, m, t) (fI h 77) c n := ⟨hw, h9⟩
    have EC := E_plC (d := 990) (T1 := T1) (T2 := T2) (s := s) hR hr hl (I_1_1 hJ).1 g1 (show j < 4 by omega) v2 ⟨c0, c4⟩ (by omega) g3 w9 t3.1 t5 (TXP_J hJ (by omega) w2 w6 w7) w8.2 rfl hn hS hs
    obtain ⟨r0, g, ⟨rfl, T1', T2', s1, hs1, rfl⟩, e⟩ := XC_dt (d := 999) EC
    have C1 : ∀ Q : Option AV → AH → Prop, XC 1000 134 [vR 0, vI (j : Int)] h Q = Q (some (vI (plA cs (fI h 1 1) (CS j) 0 (fI h, fI h 2, fI h 4, m, t)).1)) (ZSc h T1' T2' (plA cs (fI h 1 1) (CS j) 0 (fI h, fI h 2, fI h 4, m, t)).2 s1) := XC_tr es e
    obtain ⟨q1, q2⟩ := XC_same E1 C1
    obtain ⟨hR1, sM, eM⟩ := RE_mid hJ1 r (Zc_61 q2) hm hc
    have g1' : ∀ i, i < 3012 → hV h1 79 i = vI (gm i) := fun i hi => (Zc_61 q2 79 i (by decide)).trans (g1 i hi)
    have EM := E_plM (d := 988) (s := sM) (am := fI h 77) hR1 rfl hn hS g1' (o2.trans hcnt) (by omega) (show j < cnt by omega) g3 w9 t3.1 t5
    obtain ⟨r0, g, ⟨rfl, am', s', c', n', rfl, hw2, hF⟩, e2⟩ := XC_dt (d := 999) EM
    exact RE_end hJ hJ2 r E1 E2 C1 (XC_tr eM e2) hs1 hw2.1 hF
  · have EC := fun Q => E_plC0 (d := 990) (T1 := T1) (T2 := T2) (S := (fI h, fI h 2, fI h 4, m, t)) (s := s) hJ v2 ⟨c0, c4⟩ z Q
    have EC := XC_tr es EC
    have EC : ∀ Q : Option AV → AH → Prop, XC 1000 134 [vR 0, vI x] h Q = Q (some (vI (-2))) h := fun Q => by
      have y := EC Q
      rw [show Zc h T1 T2 (fI h) (fI h 2) (fI h 4) s = h from es] at y
      exact y
    refine RE_non r E1 E2 EC (fun eh => ?_)
    obtain ⟨hR, sM, eM⟩ := RE_mid hJ1 r (fun k i _ => by rw [eh]) hm hc
    have EM := fun Q => E_plM0 (am := fI h 77) (s := sM) (d := 988) hJ1 (o2.trans hcnt) (by omega) (by rw [← hcnt]; exact z) Q
    rw [eM] at EM
    exact EM
