/-! the class's laws -/
def bdF (v lo hi : Int) : Int := max lo (min hi v)
theorem bd_ct {v lo hi : Int} (h : lo ≤ hi) : bdF v lo hi = ctF v lo hi := by unfold bdF ctF; (repeat' split) <;> omega
theorem E_bnd {d : Nat} {g : AH} {v lo hi : Int} (Q : Option AV → AH → Prop) : XC (d + 1) 178 [vI v, vI lo, vI hi] g Q = Q (some (vI (bdF v lo hi))) g := by
  refine XC_eq (Nat.le_of_ble_eq_true rfl) ?_ Q
  show XP d 178 0 [some (vI v), some (vI lo), some (vI hi)] [] g _
  unfold bdF
  refine xpk_sound (stops := []) (n := 20) ?_
  simp only [sk_0, sk_1, sk_2, sk_3, sk_4, sk_5, sk_6, sk_7, sk_8, sk_iadd, sk_isub, sk_imul, sk_iand, sk_ior, sk_ixor, sk_ishl, sk_ishr, sk_iushr, sk_idiv, sk_irem, sk_ineg, sk_ladd, sk_lsub, sk_lmul, sk_land, sk_lor, sk_ldiv, sk_lrem, sk_lneg, sk_lshl, sk_lshr, sk_i2l, sk_l2i, sk_lcmp, sk_dupI, sk_dupR, sk_dup2L, sk_dup2I, sk_popI, sk_ifeq, sk_ifne, sk_iflt, sk_ifge, sk_ifgt, sk_ifle, sk_iceq, sk_icne, sk_iclt, sk_icge, sk_icgt, sk_icle, sk_goto, sk_getf, sk_putf, sk_gets, sk_iald, sk_lald, sk_bald, sk_aald, sk_iast, sk_last, sk_bast, sk_aast, sk_alen, sk_newa, sk_newt, sk_new, sk_cs1, sk_cs2, sk_cs3, sk_cs4, sk_cs5, sk_cs6, sk_cv1, sk_cv2, sk_cv3, sk_cv4, sk_cv5, sk_cv6, sk_ci1, sk_ci2, sk_ci3, sk_ret0, sk_retI, sk_retL, sk_retR, sk_sw, sk_oin, sk_max, sk_min, sk_abs, lI_0, lI_s, lL_0, lL_s, lR_0, lR_s, vIo_e, vLo_e, vOo_e, stW_I, stW_L, stW_R, stW_0, stW_z, okSt_0, okSt_s, hV_eq, hK_eq, okF_0, okF_1, okF_3, is01_0, is01_1, is01_i, Int.toNat_natCast, Int.reduceEq, Int.reduceLE, Int.reduceLT, Int.reduceNeg, Nat.reduceLT, not_true_eq_false, not_false_eq_true, reduceIte, Option.toList, List.cons_append, List.nil_append, List.set_cons_zero, List.set_cons_succ, List.not_mem_nil, List.mem_cons, if_false, if_true, ite_true, ite_false, and_self, and_true, true_and, Nat.reduceAdd, Nat.reduceLeDiff, Nat.reduceEqDiff, Nat.zero_add, Nat.le_refl, Nat.zero_le, or_false, false_or, Int.reduceToNat, or_true, true_or, eq_self, and_false, false_and, inR_d, nc_4, nc_5, nc_6, nc_7, nc_8, nc_16, nc_18, nc_20, nc_24, nc_32, nc_40, nc_64, nc_104, nc_120, nc_160, nc_256, nc_300, nc_330, nc_390, nc_1200, nc_1260, nc_3012, nc_9834, okSt_1i, okSt_1r, okSt_1n, List.length_cons, List.length_nil, xpk_succ cd_178_0, xpk_succ cd_178_1, xpk_succ cd_178_2, xpk_succ cd_178_3, xpk_succ cd_178_6, xpk_succ cd_178_9]
theorem E_cmp {d : Nat} {g : AH} {x y : Int} (Q : Option AV → AH → Prop) : XC (d + 1) 4 [vI x, vI y] g Q = Q (some (vI (sgF (x - y)))) g := by
  refine XC_eq (Nat.le_of_ble_eq_true rfl) ?_ Q
  show XP d 4 0 [some (vI x), some (vI y)] [] g _
  by_cases z1 : x < y
  · have z1n : ¬ y ≤ x := by omega
    rw [show sgF (x - y) = -1 by unfold sgF; rw [if_neg (by omega), if_pos (by omega)]]
    refine xpk_sound (stops := []) (n := 20) ?_
    simp only [sk_0, sk_1, sk_2, sk_3, sk_4, sk_5, sk_6, sk_7, sk_8, sk_iadd, sk_isub, sk_imul, sk_iand, sk_ior, sk_ixor, sk_ishl, sk_ishr, sk_iushr, sk_idiv, sk_irem, sk_ineg, sk_ladd, sk_lsub, sk_lmul, sk_land, sk_lor, sk_ldiv, sk_lrem, sk_lneg, sk_lshl, sk_lshr, sk_i2l, sk_l2i, sk_lcmp, sk_dupI, sk_dupR, sk_dup2L, sk_dup2I, sk_popI, sk_ifeq, sk_ifne, sk_iflt, sk_ifge, sk_ifgt, sk_ifle, sk_iceq, sk_icne, sk_iclt, sk_icge, sk_icgt, sk_icle, sk_goto, sk_getf, sk_putf, sk_gets, sk_iald, sk_lald, sk_bald, sk_aald, sk_iast, sk_last, sk_bast, sk_aast, sk_alen, sk_newa, sk_newt, sk_new, sk_cs1, sk_cs2, sk_cs3, sk_cs4, sk_cs5, sk_cs6, sk_cv1, sk_cv2, sk_cv3, sk_cv4, sk_cv5, sk_cv6, sk_ci1, sk_ci2, sk_ci3, sk_ret0, sk_retI, sk_retL, sk_retR, sk_sw, sk_oin, sk_max, sk_min, sk_abs, lI_0, lI_s, lL_0, lL_s, lR_0, lR_s, vIo_e, vLo_e, vOo_e, stW_I, stW_L, stW_R, stW_0, stW_z, okSt_0, okSt_s, hV_eq, hK_eq, okF_0, okF_1, okF_3, is01_0, is01_1, is01_i, Int.toNat_natCast, Int.reduceEq, Int.reduceLE, Int.reduceLT, Int.reduceNeg, Nat.reduceLT, not_true_eq_false, not_false_eq_true, reduceIte, Option.toList, List.cons_append, List.nil_append, List.set_cons_zero, List.set_cons_succ, List.not_mem_nil, List.mem_cons, if_false, if_true, ite_true, ite_false, and_self, and_true, true_and, Nat.reduceAdd, Nat.reduceLeDiff, Nat.reduceEqDiff, Nat.zero_add, Nat.le_refl, Nat.zero_le, or_false, false_or, Int.reduceToNat, or_true, true_or, eq_self, and_false, false_and, inR_d, nc_4, nc_5, nc_6, nc_7, nc_8, nc_16, nc_18, nc_20, nc_24, nc_32, nc_40, nc_64, nc_104, nc_120, nc_160, nc_256, nc_300, nc_330, nc_390, nc_1200, nc_1260, nc_3012, nc_9834, okSt_1i, okSt_1r, okSt_1n, List.length_cons, List.length_nil, xpk_succ cd_4_0, xpk_succ cd_4_1, xpk_succ cd_4_2, xpk_succ cd_4_5, xpk_succ cd_4_6, xpk_succ cd_4_9, xpk_succ cd_4_10, xpk_succ cd_4_11, xpk_succ cd_4_14, xpk_succ cd_4_15, xpk_succ cd_4_18, xpk_succ cd_4_19, z1, z1n]
  · have z1n : y ≤ x := by omega
    by_cases z2 : x = y
    · rw [show sgF (x - y) = 0 by unfold sgF; rw [if_neg (by omega), if_neg (by omega)]]
      refine xpk_sound (stops := []) (n := 20) ?_
      simp only [sk_0, sk_1, sk_2, sk_3, sk_4, sk_5, sk_6, sk_7, sk_8, sk_iadd, sk_isub, sk_imul, sk_iand, sk_ior, sk_ixor, sk_ishl, sk_ishr, sk_iushr, sk_idiv, sk_irem, sk_ineg, sk_ladd, sk_lsub, sk_lmul, sk_land, sk_lor, sk_ldiv, sk_lrem, sk_lneg, sk_lshl, sk_lshr, sk_i2l, sk_l2i, sk_lcmp, sk_dupI, sk_dupR, sk_dup2L, sk_dup2I, sk_popI, sk_ifeq, sk_ifne, sk_iflt, sk_ifge, sk_ifgt, sk_ifle, sk_iceq, sk_icne, sk_iclt, sk_icge, sk_icgt, sk_icle, sk_goto, sk_getf, sk_putf, sk_gets, sk_iald, sk_lald, sk_bald, sk_aald, sk_iast, sk_last, sk_bast, sk_aast, sk_alen, sk_newa, sk_newt, sk_new, sk_cs1, sk_cs2, sk_cs3, sk_cs4, sk_cs5, sk_cs6, sk_cv1, sk_cv2, sk_cv3, sk_cv4, sk_cv5, sk_cv6, sk_ci1, sk_ci2, sk_ci3, sk_ret0, sk_retI, sk_retL, sk_retR, sk_sw, sk_oin, sk_max, sk_min, sk_abs, lI_0, lI_s, lL_0, lL_s, lR_0, lR_s, vIo_e, vLo_e, vOo_e, stW_I, stW_L, stW_R, stW_0, stW_z, okSt_0, okSt_s, hV_eq, hK_eq, okF_0, okF_1, okF_3, is01_0, is01_1, is01_i, Int.toNat_natCast, Int.reduceEq, Int.reduceLE, Int.reduceLT, Int.reduceNeg, Nat.reduceLT, not_true_eq_false, not_false_eq_true, reduceIte, Option.toList, List.cons_append, List.nil_append, List.set_cons_zero, List.set_cons_succ, List.not_mem_nil, List.mem_cons, if_false, if_true, ite_true, ite_false, and_self, and_true, true_and, Nat.reduceAdd, Nat.reduceLeDiff, Nat.reduceEqDiff, Nat.zero_add, Nat.le_refl, Nat.zero_le, or_false, false_or, Int.reduceToNat, or_true, true_or, eq_self, and_false, false_and, inR_d, nc_4, nc_5, nc_6, nc_7, nc_8, nc_16, nc_18, nc_20, nc_24, nc_32, nc_40, nc_64, nc_104, nc_120, nc_160, nc_256, nc_300, nc_330, nc_390, nc_1200, nc_1260, nc_3012, nc_9834, okSt_1i, okSt_1r, okSt_1n, List.length_cons, List.length_nil, xpk_succ cd_4_0, xpk_succ cd_4_1, xpk_succ cd_4_2, xpk_succ cd_4_5, xpk_succ cd_4_6, xpk_succ cd_4_9, xpk_succ cd_4_10, xpk_succ cd_4_11, xpk_succ cd_4_14, xpk_succ cd_4_15, xpk_succ cd_4_18, xpk_succ cd_4_19, z1, z1n, (eq_true z2)]
    · rw [show sgF (x - y) = 1 by unfold sgF; rw [if_pos (by omega)]]
      refine xpk_sound (stops := []) (n := 20) ?_
      simp only [sk_0, sk_1, sk_2, sk_3, sk_4, sk_5, sk_6, sk_7, sk_8, sk_iadd, sk_isub, sk_imul, sk_iand, sk_ior, sk_ixor, sk_ishl, sk_ishr, sk_iushr, sk_idiv, sk_irem, sk_ineg, sk_ladd, sk_lsub, sk_lmul, sk_land, sk_lor, sk_ldiv, sk_lrem, sk_lneg, sk_lshl, sk_lshr, sk_i2l, sk_l2i, sk_lcmp, sk_dupI, sk_dupR, sk_dup2L, sk_dup2I, sk_popI, sk_ifeq, sk_ifne, sk_iflt, sk_ifge, sk_ifgt, sk_ifle, sk_iceq, sk_icne, sk_iclt, sk_icge, sk_icgt, sk_icle, sk_goto, sk_getf, sk_putf, sk_gets, sk_iald, sk_lald, sk_bald, sk_aald, sk_iast, sk_last, sk_bast, sk_aast, sk_alen, sk_newa, sk_newt, sk_new, sk_cs1, sk_cs2, sk_cs3, sk_cs4, sk_cs5, sk_cs6, sk_cv1, sk_cv2, sk_cv3, sk_cv4, sk_cv5, sk_cv6, sk_ci1, sk_ci2, sk_ci3, sk_ret0, sk_retI, sk_retL, sk_retR, sk_sw, sk_oin, sk_max, sk_min, sk_abs, lI_0, lI_s, lL_0, lL_s, lR_0, lR_s, vIo_e, vLo_e, vOo_e, stW_I, stW_L, stW_R, stW_0, stW_z, okSt_0, okSt_s, hV_eq, hK_eq, okF_0, okF_1, okF_3, is01_0, is01_1, is01_i, Int.toNat_natCast, Int.reduceEq, Int.reduceLE, Int.reduceLT, Int.reduceNeg, Nat.reduceLT, not_true_eq_false, not_false_eq_true, reduceIte, Option.toList, List.cons_append, List.nil_append, List.set_cons_zero, List.set_cons_succ, List.not_mem_nil, List.mem_cons, if_false, if_true, ite_true, ite_false, and_self, and_true, true_and, Nat.reduceAdd, Nat.reduceLeDiff, Nat.reduceEqDiff, Nat.zero_add, Nat.le_refl, Nat.zero_le, or_false, false_or, Int.reduceToNat, or_true, true_or, eq_self, and_false, false_and, inR_d, nc_4, nc_5, nc_6, nc_7, nc_8, nc_16, nc_18, nc_20, nc_24, nc_32, nc_40, nc_64, nc_104, nc_120, nc_160, nc_256, nc_300, nc_330, nc_390, nc_1200, nc_1260, nc_3012, nc_9834, okSt_1i, okSt_1r, okSt_1n, List.length_cons, List.length_nil, xpk_succ cd_4_0, xpk_succ cd_4_1, xpk_succ cd_4_2, xpk_succ cd_4_5, xpk_succ cd_4_6, xpk_succ cd_4_9, xpk_succ cd_4_10, xpk_succ cd_4_11, xpk_succ cd_4_14, xpk_succ cd_4_15, xpk_succ cd_4_18, xpk_succ cd_4_19, z1, z1n, z2]
/-- a text of the class: its clauses are cs -/
def LWC (h : AH) (T : Nat) (cs : List cCl) : Prop := ∃ (D : Nat) (bg en kd ag : Nat → Int) (L : Nat) (dd : Nat → Int), ((22 ≤ T ∧ T + 3 < 52) ∧ 22 ≤ D ∧ D < 52) ∧ TXF h T D bg en dd ∧ TXR bg en kd ag L dd cs ∧ L ≤ 300
theorem TXF_W {h : AH} {T D : Nat} {bg en dd : Nat → Int} (hx : TXF h T D bg en dd) (hT : T + 3 < 58) (hD : D < 58) {nm : Nat → Int} {kc : Nat} {tn el : Int} : TXF (hW h nm kc tn el) T D bg en dd :=
  ⟨hx.1, ⟨(hW_n (by omega) (by omega)).trans hx.2.1.1, (hW_n (by omega) (by omega)).trans hx.2.1.2.1, (hW_n (by omega) (by omega)).trans hx.2.1.2.2⟩, fun i hi => (hW_n (by omega) (by omega)).trans (hx.2.2.1 i hi), fun i hi => (hW_n (by omega) (by omega)).trans (hx.2.2.2.1 i hi), fun i hi => (hW_n (by omega) (by omega)).trans (hx.2.2.2.2.1 i hi), hx.2.2.2.2.2⟩
theorem LWC_W {h : AH} {T : Nat} {cs : List cCl} (hl : LWC h T cs) {nm : Nat → Int} {kc : Nat} {tn el : Int} : LWC (hW h nm kc tn el) T cs := by
  obtain ⟨D, bg, en, kd, ag, L, dd, ht, hx, hr, hL⟩ := hl
  exact ⟨D, bg, en, kd, ag, L, dd, ht, TXF_W hx (by omega) (by omega), hr, hL⟩
/-- a law of the class: not there, or worked out -/
theorem E_lwC {d : Nat} {h : AH} (hk : hK h 58 = (2, 0) ∧ hV h 58 3 = vR 60 ∧ hK h 60 = (11, 64)) {T : Nat} {cs : List cCl} (hl : LWC h T cs) {w : Nat} (hw : w < 5) : (hasL cs (w : Int) = false ∧ ∀ (sf : Nat → Int) (Q : Option AV → AH → Prop), XC (d + 3) 88 [vR T, vI (w : Int)] (hL h sf) Q = Q (some (vI 0)) (hL h sf)) ∨ (∃ (cl : cCl) (f : ENV → Int), cl ∈ cs ∧ cl.1 = (w : Int) ∧ SemM cl.2.1 f ∧ okC cl.2.1 ∧ (∀ e, envK e → rngV (f e)) ∧ (∀ (sf : Nat → Int) (Q : Option AV → AH → Prop), XC (d + 3) 88 [vR T, vI (w : Int)] (hL h sf) Q = Q (some (vI 1)) (hL h sf)) ∧ ∀ e : ENV, (∀ (op arg : Int) (sf : Nat → Int) (Q : Option AV → AH → Prop), 2 ≤ op → op ≤ 4 → 0 ≤ arg ∧ arg ≤ 1000000000 → XC (d + 4) 43 [vR 58, vI op, vI arg] (hL h sf) Q = Q (some (vI (feF op arg e))) (hL h sf)) → envK e → ∀ sf : Nat → Int, ∃ sf' : Nat → Int, ∀ Q : Option AV → AH → Prop, XC (d + 5) 42 [vR 58, vR T, vI (w : Int)] (hL h sf) Q = Q (some (vI (f e))) (hL h sf')) := by
  obtain ⟨D, bg, en, kd, ag, L, dd, ht, hx, hr, hL⟩ := hl
  have eh := fun (sf : Nat → Int) Q => E_hsF (d := d) (TXF_L hx (by omega) (by omega) (sf := sf)) hw Q
  rcases hr.1 w hw with ⟨h1, h2⟩ | ⟨a, b, cl, h1, h2, h3, h4, h5, f, h6, h7, h8⟩
  · refine Or.inl ⟨h2, fun sf Q => ?_⟩
    rw [eh, if_pos h1]
  · refine Or.inr ⟨cl, f, h4, h5, h7, h8, fun e he => (h6.2 e he).1, fun sf Q => ?_, fun e hfe he sf => ?_⟩
    · rw [eh, if_neg (by rw [h1]; omega)]
    · exact E_rkn (d := d) hk hx (by omega) (by omega) hfe he hw h1 h2 (by omega) h6 (by decide)
/-- the rows that a kept of the class has -/
def KRC (h : AH) (c R sz : Nat) (rw_ : Nat → Int) : Prop := (hK h c = (1, 0) ∧ hK h R = (12, sz)) ∧ (hV h c 0 = vR R ∧ hV h c 1 = vI (sz : Int)) ∧ (0 < sz ∧ c < 58 ∧ R < 58) ∧ ∀ i, i < sz → hV h R i = vL (rw_ i)
/-- where the class's laws lie -/
def LKC (h : AH) : Prop := (hK h 58 = (2, 0) ∧ hK h 59 = (11, 8) ∧ hK h 60 = (11, 64)) ∧ (hV h 58 2 = vR 59 ∧ hV h 58 3 = vR 60) ∧ stK h
theorem stK_W {h : AH} {nm : Nat → Int} {kc : Nat} {tn el : Int} (hs : stK h) : stK (hW h nm kc tn el) := by
  unfold stK at *
  rw [hK_W]
  simp only [hW_n (h := h) (nm := nm) (kc := kc) (tn := tn) (el := el) (show 1000000 ≠ 59 by decide) (Or.inl (by decide)), hW_n (h := h) (nm := nm) (kc := kc) (tn := tn) (el := el) (show 1000001 ≠ 59 by decide) (Or.inl (by decide)), hW_n (h := h) (nm := nm) (kc := kc) (tn := tn) (el := el) (show 1000002 ≠ 59 by decide) (Or.inl (by decide))]
  exact hs
/-- what the class fetches -/
theorem E_feQ {d : Nat} {h : AH} (hk : LKC h) {c R sz tn el : Nat} {nm rw_ : Nat → Int} (kr : KRC h c R sz rw_) (ht : tn ≤ 1000000000) (op arg : Int) (sf : Nat → Int) (Q : Option AV → AH → Prop) (h2 : 2 ≤ op) (h4 : op ≤ 4) (h0 : 0 ≤ arg ∧ arg ≤ 1000000000) : XC (d + 4) 43 [vR 58, vI op, vI arg] (hL (hW h nm c (tn : Int) (el : Int)) sf) Q = Q (some (vI (feF op arg (eV nm rw_ sz tn el)))) (hL (hW h nm c (tn : Int) (el : Int)) sf) := by
  obtain ⟨⟨k1, k2⟩, ⟨r1, r2⟩, ⟨z0, z1, z2⟩, kv⟩ := kr
  have n : ∀ {k i : Nat}, k < 58 → hV (hL (hW h nm c (tn : Int) (el : Int)) sf) k i = hV h k i := fun {k i} q => (hL_n (by omega)).trans (hW_n (by omega) (by omega))
  exact E_fe (d := d + 1) (stK_L (stK_W hk.2.2)) (K := c) (R := R) (N2 := 59) ⟨hk.1.1, hk.1.2.1, k1, k2⟩ ⟨(hL_n (by decide)).trans ((hW_n (by decide) (Or.inr ⟨by decide, by decide, by decide⟩)).trans hk.2.1.1), hQ_4, hQ_5, hQ_6, (n z1).trans r1, (n z1).trans r2⟩ z0 ht (fun i hi => hQ_m hi) (fun i hi => (n z2).trans (kv i hi)) h2 h4 h0 Q
theorem elF_n {t : Nat} : elF (t : Int) = ((elF (t : Int)).toNat : Int) := by
  have : 0 ≤ elF (t : Int) := by unfold elF; split <;> omega
  omega
theorem lkN_r {f nm : Nat → Int} (hf : HKr f) (hn : ∀ i, 7 ≤ i → rngV (nm i)) : ∀ i, rngV (lkN f nm i) := by
  obtain ⟨a1, a2, a3, a4, a5, a6, a7, a8, a9⟩ := hf
  intro i
  unfold lkN
  by_cases z6 : i = 6
  · subst z6; rw [upF_at]; unfold rngV; omega
  rw [upF_ne z6]
  by_cases z5 : i = 5
  · subst z5; rw [upF_at]; unfold rngV; omega
  rw [upF_ne z5]
  by_cases z4 : i = 4
  · subst z4; rw [upF_at]; unfold rngV; omega
  rw [upF_ne z4]
  by_cases z3 : i = 3
  · subst z3; rw [upF_at]; unfold rngV; omega
  rw [upF_ne z3]
  by_cases z2 : i = 2
  · subst z2; rw [upF_at]; unfold rngV; omega
  rw [upF_ne z2]
  by_cases z1 : i = 1
  · subst z1; rw [upF_at]; unfold rngV; omega
  rw [upF_ne z1]
  by_cases z0 : i = 0
  · subst z0; rw [upF_at]; unfold rngV; omega
  rw [upF_ne z0]
  exact hn i (by omega)
theorem eV_k {nm rw_ : Nat → Int} {sz tn el : Nat} (hn : ∀ i, rngV (nm i)) : envK (eV nm rw_ sz tn el) := by
  refine ⟨hn, fun k i => ?_⟩
  show rngV (if el + k ≤ tn then (if i < 6 then prW (rw_ ((tn - k) % sz)) i else 0) else 0)
  split
  · split
    · exact prW_r _ _
    · exact ⟨by decide, by decide⟩
  · exact ⟨by decide, by decide⟩
/-- the law of the class, in the heap behind look -/
theorem E_lwQ {d : Nat} {h : AH} (hk : LKC h) {T : Nat} {cs : List cCl} (hl : LWC h T cs) {r c R sz tn0 : Nat} {f rw_ : Nat → Int} (kr : KRC h c R sz rw_) (hh : HKC h r c f) (hr : r < 58) (hf : HKr f) (h9 : f 9 = (tn0 : Int)) {nm : Nat → Int} {kc : Nat} {tn el : Int} (hnm : ∀ i, 7 ≤ i → rngV (nm i)) {w : Nat} (hw : w < 5) : (hasL cs (w : Int) = false ∧ ∀ (nm : Nat → Int) (kc : Nat) (tn el : Int) (sf : Nat → Int) (Q : Option AV → AH → Prop), XC (d + 5) 88 [vR T, vI (w : Int)] (hQ h nm kc tn el sf) Q = Q (some (vI 0)) (hQ h nm kc tn el sf)) ∨ (∃ (cl : cCl) (F : ENV → Int), cl ∈ cs ∧ cl.1 = (w : Int) ∧ SemM cl.2.1 F ∧ okC cl.2.1 ∧ (∀ e, envK e → rngV (F e)) ∧ (∀ (nm : Nat → Int) (kc : Nat) (tn el : Int) (sf : Nat → Int) (Q : Option AV → AH → Prop), XC (d + 5) 88 [vR T, vI (w : Int)] (hQ h nm kc tn el sf) Q = Q (some (vI 1)) (hQ h nm kc tn el sf)) ∧ ∀ sf : Nat → Int, ∃ sf' : Nat → Int, ∀ Q : Option AV → AH → Prop, XC (d + 5) 42 [vR 58, vR T, vI (w : Int)] (hQ h (lkN f nm) c (f 9) (elF (f 9)) sf) Q = Q (some (vI (F (eV (lkN f nm) rw_ sz tn0 (elF (f 9)).toNat)))) (hQ h (lkN f nm) c (f 9) (elF (f 9)) sf')) := by
  have kw : ∀ {nm : Nat → Int} {kc : Nat} {tn el : Int}, hK (hW h nm kc tn el) 58 = (2, 0) ∧ hV (hW h nm kc tn el) 58 3 = vR 60 ∧ hK (hW h nm kc tn el) 60 = (11, 64) := ⟨hk.1.1, (hW_n (by decide) (Or.inr ⟨by decide, by decide, by decide⟩)).trans hk.2.1.2, hk.1.2.2⟩
  obtain ⟨D, bg, en, kd, ag, L, dd, ht, hx, hrr, hLl⟩ := hl
  have eh := fun (nm : Nat → Int) (kc : Nat) (tn el : Int) (sf : Nat → Int) Q => E_hsF (d := d + 2) (TXF_L (TXF_W hx (by omega) (by omega) (nm := nm) (kc := kc) (tn := tn) (el := el)) (by omega) (by omega) (sf := sf)) hw Q
  rcases hrr.1 w hw with ⟨h1, h2⟩ | ⟨a, b, cl, h1, h2, h3, h4, h5, F, h6, h7, h8⟩
  · refine Or.inl ⟨h2, fun nm kc tn el sf Q => ?_⟩
    have e := eh nm kc tn el sf Q
    rw [if_pos h1] at e
    exact e
  · refine Or.inr ⟨cl, F, h4, h5, h7, h8, fun e he => (h6.2 e he).1, fun nm kc tn el sf Q => ?_, fun sf => ?_⟩
    · have e := eh nm kc tn el sf Q
      rw [if_neg (by rw [h1]; omega)] at e
      exact e
    · have hen := eV_k (rw_ := rw_) (sz := sz) (tn := tn0) (el := (elF (f 9)).toNat) (lkN_r hf hnm)
      have e9 : elF (f 9) = ((elF (f 9)).toNat : Int) := by rw [h9]; exact elF_n
      have q := E_rkn (d := d) (h := hW h (lkN f nm) c (tn0 : Int) (((elF (f 9)).toNat : Nat) : Int)) kw (TXF_W hx (by omega) (by omega)) (by omega) (by omega) (fun op arg sf Q g2 g4 g0 => E_feQ (d := d) hk kr (by have := hf.2.2.2.2.2.2.2.2; omega) op arg sf Q g2 g4 g0) hen hw h1 h2 (by omega) h6 (by decide) (sf := sf)
      show ∃ sf' : Nat → Int, ∀ Q : Option AV → AH → Prop, XC (d + 5) 42 [vR 58, vR T, vI (w : Int)] (hL (hW h (lkN f nm) c (f 9) (elF (f 9))) sf) Q = Q (some (vI (F (eV (lkN f nm) rw_ sz tn0 (elF (f 9)).toNat)))) (hL (hW h (lkN f nm) c (f 9) (elF (f 9))) sf')
      have q2 : ∃ sf' : Nat → Int, ∀ Q : Option AV → AH → Prop, XC (d + 5) 42 [vR 58, vR T, vI (w : Int)] (hL (hW h (lkN f nm) c (f 9) (((elF (f 9)).toNat : Nat) : Int)) sf) Q = Q (some (vI (F (eV (lkN f nm) rw_ sz tn0 (elF (f 9)).toNat)))) (hL (hW h (lkN f nm) c (f 9) (((elF (f 9)).toNat : Nat) : Int)) sf') := by
        rw [h9] at q ⊢
        exact q
      rw [← e9] at q2
      exact q2
set_option maxHeartbeats 4000000 in
theorem E_pac {d : Nat} {h : AH} (hk : LKC h) {T : Nat} {cs : List cCl} (hl : LWC h T cs) {r c R sz tn0 : Nat} {f rw_ : Nat → Int} (kr : KRC h c R sz rw_) (hh : HKC h r c f) (hr : r < 58) (hf : HKr f) (h9 : f 9 = (tn0 : Int)) {nm : Nat → Int} {kc : Nat} {tn el : Int} (hnm : ∀ i, 7 ≤ i → rngV (nm i)) (v0 : hV h 58 0 = vR T) {sf : Nat → Int} : (hasL cs 0 = false ∧ ∀ Q : Option AV → AH → Prop, XC (d + 6) 33 [vR 58, vR r] (hQ h nm kc tn el sf) Q = Q (some (vI (3))) (hQ h nm kc tn el sf)) ∨ (∃ (cl : cCl) (F : ENV → Int), cl ∈ cs ∧ cl.1 = 0 ∧ SemM cl.2.1 F ∧ okC cl.2.1 ∧ (∀ e, envK e → rngV (F e)) ∧ ∃ sf' : Nat → Int, ∀ Q : Option AV → AH → Prop, XC (d + 6) 33 [vR 58, vR r] (hQ h nm kc tn el sf) Q = Q (some (vI (bdF (F (eV (lkN f nm) rw_ sz tn0 (elF (f 9)).toNat)) 0 9))) (hQ h (lkN f nm) c (f 9) (elF (f 9)) sf')) := by
  have k58 := hk.1.1
  have q0 : ∀ {nm : Nat → Int} {kc : Nat} {tn el : Int} {sf : Nat → Int}, hV (hQ h nm kc tn el sf) 58 0 = vR T := (hQ_n (by decide) (Or.inr ⟨by decide, by decide, by decide⟩) (by decide)).trans v0
  have kT : hK h T = (6, 0) := by
    obtain ⟨D, bg, en, kd, ag, L, dd, ht, hx, hrr, hLl⟩ := hl
    exact hx.1.1
  have kr0 := hh.1
  have hq : HKC (hQ h nm kc tn el sf) r c f := HKC_Q hh hr
  rcases E_lwQ (d := d) hk hl kr hh hr hf h9 (nm := nm) (kc := kc) (tn := tn) (el := el) hnm (w := 0) (by decide) with ⟨h1, h2⟩ | ⟨cl, F, h1, h2, h3, h4, h5, h6, h7⟩
  · refine Or.inl ⟨h1, fun Q => XC_eq (Nat.le_of_ble_eq_true rfl) ?_ Q⟩
    show XP (d + 5) 33 0 [some (vR 58), some (vR r)] [] (hQ h nm kc tn el sf) _
    have e1 : ∀ Q : Option AV → AH → Prop, XC (d + 5) 88 [vR T, vI 0] (hQ h nm kc tn el sf) Q = Q (some (vI 0)) (hQ h nm kc tn el sf) := h2 nm kc tn el sf
    refine xpk_sound (stops := []) (n := 40) ?_
    simp only [sk_0, sk_1, sk_2, sk_3, sk_4, sk_5, sk_6, sk_7, sk_8, sk_iadd, sk_isub, sk_imul, sk_iand, sk_ior, sk_ixor, sk_ishl, sk_ishr, sk_iushr, sk_idiv, sk_irem, sk_ineg, sk_ladd, sk_lsub, sk_lmul, sk_land, sk_lor, sk_ldiv, sk_lrem, sk_lneg, sk_lshl, sk_lshr, sk_i2l, sk_l2i, sk_lcmp, sk_dupI, sk_dupR, sk_dup2L, sk_dup2I, sk_popI, sk_ifeq, sk_ifne, sk_iflt, sk_ifge, sk_ifgt, sk_ifle, sk_iceq, sk_icne, sk_iclt, sk_icge, sk_icgt, sk_icle, sk_goto, sk_getf, sk_putf, sk_gets, sk_iald, sk_lald, sk_bald, sk_aald, sk_iast, sk_last, sk_bast, sk_aast, sk_alen, sk_newa, sk_newt, sk_new, sk_cs1, sk_cs2, sk_cs3, sk_cs4, sk_cs5, sk_cs6, sk_cv1, sk_cv2, sk_cv3, sk_cv4, sk_cv5, sk_cv6, sk_ci1, sk_ci2, sk_ci3, sk_ret0, sk_retI, sk_retL, sk_retR, sk_sw, sk_oin, sk_max, sk_min, sk_abs, lI_0, lI_s, lL_0, lL_s, lR_0, lR_s, vIo_e, vLo_e, vOo_e, stW_I, stW_L, stW_R, stW_0, stW_z, okSt_0, okSt_s, hV_eq, hK_eq, okF_0, okF_1, okF_3, is01_0, is01_1, is01_i, Int.toNat_natCast, Int.reduceEq, Int.reduceLE, Int.reduceLT, Int.reduceNeg, Nat.reduceLT, not_true_eq_false, not_false_eq_true, reduceIte, Option.toList, List.cons_append, List.nil_append, List.set_cons_zero, List.set_cons_succ, List.not_mem_nil, List.mem_cons, if_false, if_true, ite_true, ite_false, and_self, and_true, true_and, Nat.reduceAdd, Nat.reduceLeDiff, Nat.reduceEqDiff, Nat.zero_add, Nat.le_refl, Nat.zero_le, or_false, false_or, Int.reduceToNat, or_true, true_or, eq_self, and_false, false_and, inR_d, nc_4, nc_5, nc_6, nc_7, nc_8, nc_16, nc_18, nc_20, nc_24, nc_32, nc_40, nc_64, nc_104, nc_120, nc_160, nc_256, nc_300, nc_330, nc_390, nc_1200, nc_1260, nc_3012, nc_9834, okSt_1i, okSt_1r, okSt_1n, List.length_cons, List.length_nil, xpk_succ cd_33_0, xpk_succ cd_33_1, xpk_succ cd_33_4, xpk_succ cd_33_5, xpk_succ cd_33_8, xpk_succ cd_33_11, xpk_succ cd_33_12, xpk_succ cd_33_13, xpk_succ cd_33_14, xpk_succ cd_33_15, xpk_succ cd_33_18, xpk_succ cd_33_19, xpk_succ cd_33_20, xpk_succ cd_33_23, xpk_succ cd_33_24, xpk_succ cd_33_27, xpk_succ cd_33_28, xpk_succ cd_33_30, xpk_succ cd_33_33, hK_Q, k58, kT, kr0, q0, e1]
  · obtain ⟨sf', e3⟩ := h7 sf
    refine Or.inr ⟨cl, F, h1, h2, h3, h4, h5, sf', fun Q => XC_eq (Nat.le_of_ble_eq_true rfl) ?_ Q⟩
    show XP (d + 5) 33 0 [some (vR 58), some (vR r)] [] (hQ h nm kc tn el sf) _
    have e1 : ∀ Q : Option AV → AH → Prop, XC (d + 5) 88 [vR T, vI 0] (hQ h nm kc tn el sf) Q = Q (some (vI 1)) (hQ h nm kc tn el sf) := h6 nm kc tn el sf
    have e2 := fun Q => E_lk (d := d + 3) (nm := nm) (kc := kc) (tn := tn) (el := el) (sf := sf) hh hr hf ⟨hk.1.1, hk.1.2.1, hk.2.1.1⟩ Q
    have e3 : ∀ Q : Option AV → AH → Prop, XC (d + 5) 42 [vR 58, vR T, vI 0] (hQ h (lkN f nm) c (f 9) (elF (f 9)) sf) Q = Q (some (vI (F (eV (lkN f nm) rw_ sz tn0 (elF (f 9)).toNat)))) (hQ h (lkN f nm) c (f 9) (elF (f 9)) sf') := e3
    refine xpk_sound (stops := []) (n := 40) ?_
    simp only [sk_0, sk_1, sk_2, sk_3, sk_4, sk_5, sk_6, sk_7, sk_8, sk_iadd, sk_isub, sk_imul, sk_iand, sk_ior, sk_ixor, sk_ishl, sk_ishr, sk_iushr, sk_idiv, sk_irem, sk_ineg, sk_ladd, sk_lsub, sk_lmul, sk_land, sk_lor, sk_ldiv, sk_lrem, sk_lneg, sk_lshl, sk_lshr, sk_i2l, sk_l2i, sk_lcmp, sk_dupI, sk_dupR, sk_dup2L, sk_dup2I, sk_popI, sk_ifeq, sk_ifne, sk_iflt, sk_ifge, sk_ifgt, sk_ifle, sk_iceq, sk_icne, sk_iclt, sk_icge, sk_icgt, sk_icle, sk_goto, sk_getf, sk_putf, sk_gets, sk_iald, sk_lald, sk_bald, sk_aald, sk_iast, sk_last, sk_bast, sk_aast, sk_alen, sk_newa, sk_newt, sk_new, sk_cs1, sk_cs2, sk_cs3, sk_cs4, sk_cs5, sk_cs6, sk_cv1, sk_cv2, sk_cv3, sk_cv4, sk_cv5, sk_cv6, sk_ci1, sk_ci2, sk_ci3, sk_ret0, sk_retI, sk_retL, sk_retR, sk_sw, sk_oin, sk_max, sk_min, sk_abs, lI_0, lI_s, lL_0, lL_s, lR_0, lR_s, vIo_e, vLo_e, vOo_e, stW_I, stW_L, stW_R, stW_0, stW_z, okSt_0, okSt_s, hV_eq, hK_eq, okF_0, okF_1, okF_3, is01_0, is01_1, is01_i, Int.toNat_natCast, Int.reduceEq, Int.reduceLE, Int.reduceLT, Int.reduceNeg, Nat.reduceLT, not_true_eq_false, not_false_eq_true, reduceIte, Option.toList, List.cons_append, List.nil_append, List.set_cons_zero, List.set_cons_succ, List.not_mem_nil, List.mem_cons, if_false, if_true, ite_true, ite_false, and_self, and_true, true_and, Nat.reduceAdd, Nat.reduceLeDiff, Nat.reduceEqDiff, Nat.zero_add, Nat.le_refl, Nat.zero_le, or_false, false_or, Int.reduceToNat, or_true, true_or, eq_self, and_false, false_and, inR_d, nc_4, nc_5, nc_6, nc_7, nc_8, nc_16, nc_18, nc_20, nc_24, nc_32, nc_40, nc_64, nc_104, nc_120, nc_160, nc_256, nc_300, nc_330, nc_390, nc_1200, nc_1260, nc_3012, nc_9834, okSt_1i, okSt_1r, okSt_1n, List.length_cons, List.length_nil, xpk_succ cd_33_0, xpk_succ cd_33_1, xpk_succ cd_33_4, xpk_succ cd_33_5, xpk_succ cd_33_8, xpk_succ cd_33_11, xpk_succ cd_33_12, xpk_succ cd_33_13, xpk_succ cd_33_14, xpk_succ cd_33_15, xpk_succ cd_33_18, xpk_succ cd_33_19, xpk_succ cd_33_20, xpk_succ cd_33_23, xpk_succ cd_33_24, xpk_succ cd_33_27, xpk_succ cd_33_28, xpk_succ cd_33_30, xpk_succ cd_33_33, hK_Q, k58, kT, kr0, q0, e1, e2, e3, E_bnd, E_cmp]
set_option maxHeartbeats 4000000 in
theorem E_swi {d : Nat} {h : AH} (hk : LKC h) {T : Nat} {cs : List cCl} (hl : LWC h T cs) {r c R sz tn0 : Nat} {f rw_ : Nat → Int} (kr : KRC h c R sz rw_) (hh : HKC h r c f) (hr : r < 58) (hf : HKr f) (h9 : f 9 = (tn0 : Int)) {nm : Nat → Int} {kc : Nat} {tn el : Int} (hnm : ∀ i, 7 ≤ i → rngV (nm i)) (v0 : hV h 58 0 = vR T) {sf : Nat → Int} : (hasL cs 1 = false ∧ ∀ Q : Option AV → AH → Prop, XC (d + 6) 34 [vR 58, vR r] (hQ h nm kc tn el sf) Q = Q (some (vI (bdF (Int.tdiv (f 1 - f 3) (f 5)) (-99) 99))) (hQ h nm kc tn el sf)) ∨ (∃ (cl : cCl) (F : ENV → Int), cl ∈ cs ∧ cl.1 = 1 ∧ SemM cl.2.1 F ∧ okC cl.2.1 ∧ (∀ e, envK e → rngV (F e)) ∧ ∃ sf' : Nat → Int, ∀ Q : Option AV → AH → Prop, XC (d + 6) 34 [vR 58, vR r] (hQ h nm kc tn el sf) Q = Q (some (vI (bdF (F (eV (lkN f nm) rw_ sz tn0 (elF (f 9)).toNat)) (-99) 99))) (hQ h (lkN f nm) c (f 9) (elF (f 9)) sf')) := by
  have k58 := hk.1.1
  have q0 : ∀ {nm : Nat → Int} {kc : Nat} {tn el : Int} {sf : Nat → Int}, hV (hQ h nm kc tn el sf) 58 0 = vR T := (hQ_n (by decide) (Or.inr ⟨by decide, by decide, by decide⟩) (by decide)).trans v0
  have kT : hK h T = (6, 0) := by
    obtain ⟨D, bg, en, kd, ag, L, dd, ht, hx, hrr, hLl⟩ := hl
    exact hx.1.1
  have kr0 := hh.1
  have hq : HKC (hQ h nm kc tn el sf) r c f := HKC_Q hh hr
  have q1 := hq.2.2 1 (by decide) (by decide)
  have q3 := hq.2.2 3 (by decide) (by decide)
  have q5 := hq.2.2 5 (by decide) (by decide)
  have n5 : ¬ f 5 = 0 := by have := hf.2.2.2.2.1; omega
  have ea := fun Q => E_aw (d := d + 4) hq hf Q
  have wd : WE (Int.tdiv (f 1 - f 3) (f 5)) (Int.tdiv (f 1 - f 3) (f 5)) := by
    have hr3 : rngV (f 1 - f 3) := by
      obtain ⟨a1, _, a3, _⟩ := hf
      unfold rngV; omega
    have q := td_r (y := f 5) hr3
    unfold rngV at q
    unfold WE w32; omega
  rcases E_lwQ (d := d) hk hl kr hh hr hf h9 (nm := nm) (kc := kc) (tn := tn) (el := el) hnm (w := 1) (by decide) with ⟨h1, h2⟩ | ⟨cl, F, h1, h2, h3, h4, h5, h6, h7⟩
  · refine Or.inl ⟨h1, fun Q => XC_eq (Nat.le_of_ble_eq_true rfl) ?_ Q⟩
    show XP (d + 5) 34 0 [some (vR 58), some (vR r)] [] (hQ h nm kc tn el sf) _
    have e1 : ∀ Q : Option AV → AH → Prop, XC (d + 5) 88 [vR T, vI 1] (hQ h nm kc tn el sf) Q = Q (some (vI 0)) (hQ h nm kc tn el sf) := h2 nm kc tn el sf
    refine xpk_sound (stops := []) (n := 40) ?_
    simp only [sk_0, sk_1, sk_2, sk_3, sk_4, sk_5, sk_6, sk_7, sk_8, sk_iadd, sk_isub, sk_imul, sk_iand, sk_ior, sk_ixor, sk_ishl, sk_ishr, sk_iushr, sk_idiv, sk_irem, sk_ineg, sk_ladd, sk_lsub, sk_lmul, sk_land, sk_lor, sk_ldiv, sk_lrem, sk_lneg, sk_lshl, sk_lshr, sk_i2l, sk_l2i, sk_lcmp, sk_dupI, sk_dupR, sk_dup2L, sk_dup2I, sk_popI, sk_ifeq, sk_ifne, sk_iflt, sk_ifge, sk_ifgt, sk_ifle, sk_iceq, sk_icne, sk_iclt, sk_icge, sk_icgt, sk_icle, sk_goto, sk_getf, sk_putf, sk_gets, sk_iald, sk_lald, sk_bald, sk_aald, sk_iast, sk_last, sk_bast, sk_aast, sk_alen, sk_newa, sk_newt, sk_new, sk_cs1, sk_cs2, sk_cs3, sk_cs4, sk_cs5, sk_cs6, sk_cv1, sk_cv2, sk_cv3, sk_cv4, sk_cv5, sk_cv6, sk_ci1, sk_ci2, sk_ci3, sk_ret0, sk_retI, sk_retL, sk_retR, sk_sw, sk_oin, sk_max, sk_min, sk_abs, lI_0, lI_s, lL_0, lL_s, lR_0, lR_s, vIo_e, vLo_e, vOo_e, stW_I, stW_L, stW_R, stW_0, stW_z, okSt_0, okSt_s, hV_eq, hK_eq, okF_0, okF_1, okF_3, is01_0, is01_1, is01_i, Int.toNat_natCast, Int.reduceEq, Int.reduceLE, Int.reduceLT, Int.reduceNeg, Nat.reduceLT, not_true_eq_false, not_false_eq_true, reduceIte, Option.toList, List.cons_append, List.nil_append, List.set_cons_zero, List.set_cons_succ, List.not_mem_nil, List.mem_cons, if_false, if_true, ite_true, ite_false, and_self, and_true, true_and, Nat.reduceAdd, Nat.reduceLeDiff, Nat.reduceEqDiff, Nat.zero_add, Nat.le_refl, Nat.zero_le, or_false, false_or, Int.reduceToNat, or_true, true_or, eq_self, and_false, false_and, inR_d, nc_4, nc_5, nc_6, nc_7, nc_8, nc_16, nc_18, nc_20, nc_24, nc_32, nc_40, nc_64, nc_104, nc_120, nc_160, nc_256, nc_300, nc_330, nc_390, nc_1200, nc_1260, nc_3012, nc_9834, okSt_1i, okSt_1r, okSt_1n, List.length_cons, List.length_nil, xpk_succ cd_34_0, xpk_succ cd_34_1, xpk_succ cd_34_4, xpk_succ cd_34_5, xpk_succ cd_34_8, xpk_succ cd_34_11, xpk_succ cd_34_12, xpk_succ cd_34_15, xpk_succ cd_34_18, xpk_succ cd_34_19, xpk_succ cd_34_22, xpk_succ cd_34_23, xpk_succ cd_34_26, xpk_succ cd_34_27, xpk_succ cd_34_30, xpk_succ cd_34_31, xpk_succ cd_34_33, xpk_succ cd_34_35, xpk_succ cd_34_38, xpk_succ cd_34_39, xpk_succ cd_34_40, xpk_succ cd_34_41, xpk_succ cd_34_44, xpk_succ cd_34_45, xpk_succ cd_34_46, xpk_succ cd_34_49, xpk_succ cd_34_50, xpk_succ cd_34_53, xpk_succ cd_34_55, xpk_succ cd_34_57, xpk_succ cd_34_60, hK_Q, k58, kT, kr0, q0, e1, q5, n5, ea, (WE_e wd), E_bnd]
  · obtain ⟨sf', e3⟩ := h7 sf
    refine Or.inr ⟨cl, F, h1, h2, h3, h4, h5, sf', fun Q => XC_eq (Nat.le_of_ble_eq_true rfl) ?_ Q⟩
    show XP (d + 5) 34 0 [some (vR 58), some (vR r)] [] (hQ h nm kc tn el sf) _
    have e1 : ∀ Q : Option AV → AH → Prop, XC (d + 5) 88 [vR T, vI 1] (hQ h nm kc tn el sf) Q = Q (some (vI 1)) (hQ h nm kc tn el sf) := h6 nm kc tn el sf
    have e2 := fun Q => E_lk (d := d + 3) (nm := nm) (kc := kc) (tn := tn) (el := el) (sf := sf) hh hr hf ⟨hk.1.1, hk.1.2.1, hk.2.1.1⟩ Q
    have e3 : ∀ Q : Option AV → AH → Prop, XC (d + 5) 42 [vR 58, vR T, vI 1] (hQ h (lkN f nm) c (f 9) (elF (f 9)) sf) Q = Q (some (vI (F (eV (lkN f nm) rw_ sz tn0 (elF (f 9)).toNat)))) (hQ h (lkN f nm) c (f 9) (elF (f 9)) sf') := e3
    refine xpk_sound (stops := []) (n := 40) ?_
    simp only [sk_0, sk_1, sk_2, sk_3, sk_4, sk_5, sk_6, sk_7, sk_8, sk_iadd, sk_isub, sk_imul, sk_iand, sk_ior, sk_ixor, sk_ishl, sk_ishr, sk_iushr, sk_idiv, sk_irem, sk_ineg, sk_ladd, sk_lsub, sk_lmul, sk_land, sk_lor, sk_ldiv, sk_lrem, sk_lneg, sk_lshl, sk_lshr, sk_i2l, sk_l2i, sk_lcmp, sk_dupI, sk_dupR, sk_dup2L, sk_dup2I, sk_popI, sk_ifeq, sk_ifne, sk_iflt, sk_ifge, sk_ifgt, sk_ifle, sk_iceq, sk_icne, sk_iclt, sk_icge, sk_icgt, sk_icle, sk_goto, sk_getf, sk_putf, sk_gets, sk_iald, sk_lald, sk_bald, sk_aald, sk_iast, sk_last, sk_bast, sk_aast, sk_alen, sk_newa, sk_newt, sk_new, sk_cs1, sk_cs2, sk_cs3, sk_cs4, sk_cs5, sk_cs6, sk_cv1, sk_cv2, sk_cv3, sk_cv4, sk_cv5, sk_cv6, sk_ci1, sk_ci2, sk_ci3, sk_ret0, sk_retI, sk_retL, sk_retR, sk_sw, sk_oin, sk_max, sk_min, sk_abs, lI_0, lI_s, lL_0, lL_s, lR_0, lR_s, vIo_e, vLo_e, vOo_e, stW_I, stW_L, stW_R, stW_0, stW_z, okSt_0, okSt_s, hV_eq, hK_eq, okF_0, okF_1, okF_3, is01_0, is01_1, is01_i, Int.toNat_natCast, Int.reduceEq, Int.reduceLE, Int.reduceLT, Int.reduceNeg, Nat.reduceLT, not_true_eq_false, not_false_eq_true, reduceIte, Option.toList, List.cons_append, List.nil_append, List.set_cons_zero, List.set_cons_succ, List.not_mem_nil, List.mem_cons, if_false, if_true, ite_true, ite_false, and_self, and_true, true_and, Nat.reduceAdd, Nat.reduceLeDiff, Nat.reduceEqDiff, Nat.zero_add, Nat.le_refl, Nat.zero_le, or_false, false_or, Int.reduceToNat, or_true, true_or, eq_self, and_false, false_and, inR_d, nc_4, nc_5, nc_6, nc_7, nc_8, nc_16, nc_18, nc_20, nc_24, nc_32, nc_40, nc_64, nc_104, nc_120, nc_160, nc_256, nc_300, nc_330, nc_390, nc_1200, nc_1260, nc_3012, nc_9834, okSt_1i, okSt_1r, okSt_1n, List.length_cons, List.length_nil, xpk_succ cd_34_0, xpk_succ cd_34_1, xpk_succ cd_34_4, xpk_succ cd_34_5, xpk_succ cd_34_8, xpk_succ cd_34_11, xpk_succ cd_34_12, xpk_succ cd_34_15, xpk_succ cd_34_18, xpk_succ cd_34_19, xpk_succ cd_34_22, xpk_succ cd_34_23, xpk_succ cd_34_26, xpk_succ cd_34_27, xpk_succ cd_34_30, xpk_succ cd_34_31, xpk_succ cd_34_33, xpk_succ cd_34_35, xpk_succ cd_34_38, xpk_succ cd_34_39, xpk_succ cd_34_40, xpk_succ cd_34_41, xpk_succ cd_34_44, xpk_succ cd_34_45, xpk_succ cd_34_46, xpk_succ cd_34_49, xpk_succ cd_34_50, xpk_succ cd_34_53, xpk_succ cd_34_55, xpk_succ cd_34_57, xpk_succ cd_34_60, hK_Q, k58, kT, kr0, q0, e1, e2, e3, E_bnd, E_cmp]
set_option maxHeartbeats 4000000 in
theorem E_cmd {d : Nat} {h : AH} (hk : LKC h) {T : Nat} {cs : List cCl} (hl : LWC h T cs) {r c R sz tn0 : Nat} {f rw_ : Nat → Int} (kr : KRC h c R sz rw_) (hh : HKC h r c f) (hr : r < 58) (hf : HKr f) (h9 : f 9 = (tn0 : Int)) {nm : Nat → Int} {kc : Nat} {tn el : Int} (hnm : ∀ i, 7 ≤ i → rngV (nm i)) (v0 : hV h 58 1 = vR T) {sf : Nat → Int} : (hasL cs 2 = false ∧ ∀ Q : Option AV → AH → Prop, XC (d + 6) 35 [vR 58, vR r] (hQ h nm kc tn el sf) Q = Q (some (vI (sgF (f 8 - f 1)))) (hQ h nm kc tn el sf)) ∨ (∃ (cl : cCl) (F : ENV → Int), cl ∈ cs ∧ cl.1 = 2 ∧ SemM cl.2.1 F ∧ okC cl.2.1 ∧ (∀ e, envK e → rngV (F e)) ∧ ∃ sf' : Nat → Int, ∀ Q : Option AV → AH → Prop, XC (d + 6) 35 [vR 58, vR r] (hQ h nm kc tn el sf) Q = Q (some (vI (sgF ((F (eV (lkN f nm) rw_ sz tn0 (elF (f 9)).toNat)) - 0)))) (hQ h (lkN f nm) c (f 9) (elF (f 9)) sf')) := by
  have k58 := hk.1.1
  have q0 : ∀ {nm : Nat → Int} {kc : Nat} {tn el : Int} {sf : Nat → Int}, hV (hQ h nm kc tn el sf) 58 1 = vR T := (hQ_n (by decide) (Or.inr ⟨by decide, by decide, by decide⟩) (by decide)).trans v0
  have kT : hK h T = (6, 0) := by
    obtain ⟨D, bg, en, kd, ag, L, dd, ht, hx, hrr, hLl⟩ := hl
    exact hx.1.1
  have kr0 := hh.1
  have hq : HKC (hQ h nm kc tn el sf) r c f := HKC_Q hh hr
  have q1 := hq.2.2 1 (by decide) (by decide)
  have q8 := hq.2.2 8 (by decide) (by decide)
  rcases E_lwQ (d := d) hk hl kr hh hr hf h9 (nm := nm) (kc := kc) (tn := tn) (el := el) hnm (w := 2) (by decide) with ⟨h1, h2⟩ | ⟨cl, F, h1, h2, h3, h4, h5, h6, h7⟩
  · refine Or.inl ⟨h1, fun Q => XC_eq (Nat.le_of_ble_eq_true rfl) ?_ Q⟩
    show XP (d + 5) 35 0 [some (vR 58), some (vR r)] [] (hQ h nm kc tn el sf) _
    have e1 : ∀ Q : Option AV → AH → Prop, XC (d + 5) 88 [vR T, vI 2] (hQ h nm kc tn el sf) Q = Q (some (vI 0)) (hQ h nm kc tn el sf) := h2 nm kc tn el sf
    refine xpk_sound (stops := []) (n := 40) ?_
    simp only [sk_0, sk_1, sk_2, sk_3, sk_4, sk_5, sk_6, sk_7, sk_8, sk_iadd, sk_isub, sk_imul, sk_iand, sk_ior, sk_ixor, sk_ishl, sk_ishr, sk_iushr, sk_idiv, sk_irem, sk_ineg, sk_ladd, sk_lsub, sk_lmul, sk_land, sk_lor, sk_ldiv, sk_lrem, sk_lneg, sk_lshl, sk_lshr, sk_i2l, sk_l2i, sk_lcmp, sk_dupI, sk_dupR, sk_dup2L, sk_dup2I, sk_popI, sk_ifeq, sk_ifne, sk_iflt, sk_ifge, sk_ifgt, sk_ifle, sk_iceq, sk_icne, sk_iclt, sk_icge, sk_icgt, sk_icle, sk_goto, sk_getf, sk_putf, sk_gets, sk_iald, sk_lald, sk_bald, sk_aald, sk_iast, sk_last, sk_bast, sk_aast, sk_alen, sk_newa, sk_newt, sk_new, sk_cs1, sk_cs2, sk_cs3, sk_cs4, sk_cs5, sk_cs6, sk_cv1, sk_cv2, sk_cv3, sk_cv4, sk_cv5, sk_cv6, sk_ci1, sk_ci2, sk_ci3, sk_ret0, sk_retI, sk_retL, sk_retR, sk_sw, sk_oin, sk_max, sk_min, sk_abs, lI_0, lI_s, lL_0, lL_s, lR_0, lR_s, vIo_e, vLo_e, vOo_e, stW_I, stW_L, stW_R, stW_0, stW_z, okSt_0, okSt_s, hV_eq, hK_eq, okF_0, okF_1, okF_3, is01_0, is01_1, is01_i, Int.toNat_natCast, Int.reduceEq, Int.reduceLE, Int.reduceLT, Int.reduceNeg, Nat.reduceLT, not_true_eq_false, not_false_eq_true, reduceIte, Option.toList, List.cons_append, List.nil_append, List.set_cons_zero, List.set_cons_succ, List.not_mem_nil, List.mem_cons, if_false, if_true, ite_true, ite_false, and_self, and_true, true_and, Nat.reduceAdd, Nat.reduceLeDiff, Nat.reduceEqDiff, Nat.zero_add, Nat.le_refl, Nat.zero_le, or_false, false_or, Int.reduceToNat, or_true, true_or, eq_self, and_false, false_and, inR_d, nc_4, nc_5, nc_6, nc_7, nc_8, nc_16, nc_18, nc_20, nc_24, nc_32, nc_40, nc_64, nc_104, nc_120, nc_160, nc_256, nc_300, nc_330, nc_390, nc_1200, nc_1260, nc_3012, nc_9834, okSt_1i, okSt_1r, okSt_1n, List.length_cons, List.length_nil, xpk_succ cd_35_0, xpk_succ cd_35_1, xpk_succ cd_35_4, xpk_succ cd_35_5, xpk_succ cd_35_8, xpk_succ cd_35_11, xpk_succ cd_35_12, xpk_succ cd_35_15, xpk_succ cd_35_16, xpk_succ cd_35_19, xpk_succ cd_35_22, xpk_succ cd_35_23, xpk_succ cd_35_24, xpk_succ cd_35_25, xpk_succ cd_35_28, xpk_succ cd_35_29, xpk_succ cd_35_30, xpk_succ cd_35_33, xpk_succ cd_35_34, xpk_succ cd_35_37, xpk_succ cd_35_38, xpk_succ cd_35_41, hK_Q, k58, kT, kr0, q0, e1, q1, q8, E_cmp]
  · obtain ⟨sf', e3⟩ := h7 sf
    refine Or.inr ⟨cl, F, h1, h2, h3, h4, h5, sf', fun Q => XC_eq (Nat.le_of_ble_eq_true rfl) ?_ Q⟩
    show XP (d + 5) 35 0 [some (vR 58), some (vR r)] [] (hQ h nm kc tn el sf) _
    have e1 : ∀ Q : Option AV → AH → Prop, XC (d + 5) 88 [vR T, vI 2] (hQ h nm kc tn el sf) Q = Q (some (vI 1)) (hQ h nm kc tn el sf) := h6 nm kc tn el sf
    have e2 := fun Q => E_lk (d := d + 3) (nm := nm) (kc := kc) (tn := tn) (el := el) (sf := sf) hh hr hf ⟨hk.1.1, hk.1.2.1, hk.2.1.1⟩ Q
    have e3 : ∀ Q : Option AV → AH → Prop, XC (d + 5) 42 [vR 58, vR T, vI 2] (hQ h (lkN f nm) c (f 9) (elF (f 9)) sf) Q = Q (some (vI (F (eV (lkN f nm) rw_ sz tn0 (elF (f 9)).toNat)))) (hQ h (lkN f nm) c (f 9) (elF (f 9)) sf') := e3
    refine xpk_sound (stops := []) (n := 40) ?_
    simp only [sk_0, sk_1, sk_2, sk_3, sk_4, sk_5, sk_6, sk_7, sk_8, sk_iadd, sk_isub, sk_imul, sk_iand, sk_ior, sk_ixor, sk_ishl, sk_ishr, sk_iushr, sk_idiv, sk_irem, sk_ineg, sk_ladd, sk_lsub, sk_lmul, sk_land, sk_lor, sk_ldiv, sk_lrem, sk_lneg, sk_lshl, sk_lshr, sk_i2l, sk_l2i, sk_lcmp, sk_dupI, sk_dupR, sk_dup2L, sk_dup2I, sk_popI, sk_ifeq, sk_ifne, sk_iflt, sk_ifge, sk_ifgt, sk_ifle, sk_iceq, sk_icne, sk_iclt, sk_icge, sk_icgt, sk_icle, sk_goto, sk_getf, sk_putf, sk_gets, sk_iald, sk_lald, sk_bald, sk_aald, sk_iast, sk_last, sk_bast, sk_aast, sk_alen, sk_newa, sk_newt, sk_new, sk_cs1, sk_cs2, sk_cs3, sk_cs4, sk_cs5, sk_cs6, sk_cv1, sk_cv2, sk_cv3, sk_cv4, sk_cv5, sk_cv6, sk_ci1, sk_ci2, sk_ci3, sk_ret0, sk_retI, sk_retL, sk_retR, sk_sw, sk_oin, sk_max, sk_min, sk_abs, lI_0, lI_s, lL_0, lL_s, lR_0, lR_s, vIo_e, vLo_e, vOo_e, stW_I, stW_L, stW_R, stW_0, stW_z, okSt_0, okSt_s, hV_eq, hK_eq, okF_0, okF_1, okF_3, is01_0, is01_1, is01_i, Int.toNat_natCast, Int.reduceEq, Int.reduceLE, Int.reduceLT, Int.reduceNeg, Nat.reduceLT, not_true_eq_false, not_false_eq_true, reduceIte, Option.toList, List.cons_append, List.nil_append, List.set_cons_zero, List.set_cons_succ, List.not_mem_nil, List.mem_cons, if_false, if_true, ite_true, ite_false, and_self, and_true, true_and, Nat.reduceAdd, Nat.reduceLeDiff, Nat.reduceEqDiff, Nat.zero_add, Nat.le_refl, Nat.zero_le, or_false, false_or, Int.reduceToNat, or_true, true_or, eq_self, and_false, false_and, inR_d, nc_4, nc_5, nc_6, nc_7, nc_8, nc_16, nc_18, nc_20, nc_24, nc_32, nc_40, nc_64, nc_104, nc_120, nc_160, nc_256, nc_300, nc_330, nc_390, nc_1200, nc_1260, nc_3012, nc_9834, okSt_1i, okSt_1r, okSt_1n, List.length_cons, List.length_nil, xpk_succ cd_35_0, xpk_succ cd_35_1, xpk_succ cd_35_4, xpk_succ cd_35_5, xpk_succ cd_35_8, xpk_succ cd_35_11, xpk_succ cd_35_12, xpk_succ cd_35_15, xpk_succ cd_35_16, xpk_succ cd_35_19, xpk_succ cd_35_22, xpk_succ cd_35_23, xpk_succ cd_35_24, xpk_succ cd_35_25, xpk_succ cd_35_28, xpk_succ cd_35_29, xpk_succ cd_35_30, xpk_succ cd_35_33, xpk_succ cd_35_34, xpk_succ cd_35_37, xpk_succ cd_35_38, xpk_succ cd_35_41, hK_Q, k58, kT, kr0, q0, e1, e2, e3, E_bnd, E_cmp]
