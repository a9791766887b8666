/-! copyLatest as a known call -/
def isG (w : AW) : Bool := match w with
  | .inl (.inr (.inl _)) => true
  | _ => false
theorem isG_s {w : AW} {v : AV} (h : isG w = true) (hv : ab_V w v) : ∃ x, v = .inr (.inl x) := by
  match w, h, hv with
  | .inl (.inr (.inl x)), _, hv => exact ⟨x, hv⟩
set_option maxHeartbeats 4000000 in
theorem cl_loop (d k1 k2 r1 r2 : Nat) (T : Int) (b : BH) (v2 : List AW) (hT : T ≤ 1000) (Q : Option AV → AH → Prop) (g1 : gC b k1 = some (1, 0, [xR r1, xI 32], none)) (g2 : gC b k2 = some (1, 0, [xR r2, xI 32], none)) (g3 : gC b r1 = some (12, 32, [], none)) (g4 : gC b r2 = some (12, 32, v2, none)) (hlen : v2.length = 32) (hall : v2.all isG = true) (hQ : ∀ h', ab_H b h' → Q none h') : ∀ (j : Nat) (t : Int) (h : AH), t + j = T → 0 ≤ t → ab_H b h → XP d 30 9 [some (vR k1), some (vR k2), some (vI T), some (vI t)] [] h Q := by
  intro j
  induction j with
  | zero =>
    intro t h ht h0 hb
    have hc : T ≤ t := by omega
    have hq := hQ h hb
    refine xpk_sound (stops := []) (n := 6) ?_
    simp only [sk_0, sk_1, sk_2, sk_3, sk_4, sk_5, sk_6, sk_7, sk_8, sk_iadd, sk_isub, sk_imul, sk_iand, sk_ior, sk_ixor, sk_ishl, sk_ishr, sk_iushr, sk_idiv, sk_irem, sk_ineg, sk_ladd, sk_lsub, sk_lmul, sk_land, sk_lor, sk_ldiv, sk_lrem, sk_lneg, sk_lshl, sk_lshr, sk_i2l, sk_l2i, sk_lcmp, sk_dupI, sk_dupR, sk_dup2L, sk_dup2I, sk_popI, sk_ifeq, sk_ifne, sk_iflt, sk_ifge, sk_ifgt, sk_ifle, sk_iceq, sk_icne, sk_iclt, sk_icge, sk_icgt, sk_icle, sk_goto, sk_getf, sk_putf, sk_gets, sk_iald, sk_lald, sk_bald, sk_aald, sk_iast, sk_last, sk_bast, sk_aast, sk_alen, sk_newa, sk_newt, sk_new, sk_cs1, sk_cs2, sk_cs3, sk_cs4, sk_cs5, sk_cs6, sk_cv1, sk_cv2, sk_cv3, sk_cv4, sk_cv5, sk_cv6, sk_ci1, sk_ci2, sk_ci3, sk_ret0, sk_retI, sk_retL, sk_retR, sk_sw, sk_oin, sk_max, sk_min, sk_abs, lI_0, lI_s, lL_0, lL_s, lR_0, lR_s, vIo_e, vLo_e, vOo_e, stW_I, stW_L, stW_R, stW_0, stW_z, okSt_0, okSt_s, hV_eq, hK_eq, okF_0, okF_1, okF_3, is01_0, is01_1, is01_i, Int.toNat_natCast, Int.reduceEq, Int.reduceLE, Int.reduceLT, Int.reduceNeg, Nat.reduceLT, not_true_eq_false, not_false_eq_true, reduceIte, Option.toList, List.cons_append, List.nil_append, List.set_cons_zero, List.set_cons_succ, List.not_mem_nil, List.mem_cons, if_false, if_true, ite_true, ite_false, and_self, and_true, true_and, Nat.reduceAdd, Nat.reduceLeDiff, Nat.reduceEqDiff, Nat.zero_add, Nat.le_refl, Nat.zero_le, or_false, false_or, Int.reduceToNat, or_true, true_or, eq_self, and_false, false_and, inR_d, nc_4, nc_5, nc_6, nc_7, nc_8, nc_16, nc_18, nc_20, nc_24, nc_32, nc_40, nc_64, nc_104, nc_120, nc_160, nc_256, nc_300, nc_330, nc_390, nc_1200, nc_1260, nc_3012, nc_9834, okSt_1i, okSt_1r, okSt_1n, xpk_succ cd_30_0, xpk_succ cd_30_1, xpk_succ cd_30_2, xpk_succ cd_30_4, xpk_succ cd_30_5, xpk_succ cd_30_8, xpk_succ cd_30_9, xpk_succ cd_30_10, xpk_succ cd_30_11, xpk_succ cd_30_14, xpk_succ cd_30_15, xpk_succ cd_30_18, xpk_succ cd_30_19, xpk_succ cd_30_20, xpk_succ cd_30_23, xpk_succ cd_30_24, xpk_succ cd_30_25, xpk_succ cd_30_28, xpk_succ cd_30_29, xpk_succ cd_30_30, xpk_succ cd_30_33, xpk_succ cd_30_34, xpk_succ cd_30_35, xpk_succ cd_30_36, xpk_succ cd_30_39, xpk_succ cd_30_42, hc]
    exact hq
  | succ j ih =>
    intro t h ht h0 hb
    have hc : ¬ T ≤ t := by omega
    have hm : t.tmod 32 = t % 32 := Int.tmod_eq_emod_of_nonneg h0
    have hi1 : 0 ≤ t.tmod 32 := by rw [hm]; omega
    have hi2 : t.tmod 32 < 32 := by rw [hm]; omega
    have ht1 : w32 (t + 1) = t + 1 := by unfold w32; omega
    have C1 := hb.2.2 k1 _ g1
    have C2 := hb.2.2 k2 _ g2
    have C3 := hb.2.2 r1 _ g3
    have C4 := hb.2.2 r2 _ g4
    have a1 : hK h k1 = (1, 0) := C1.1
    have a2 : hK h k2 = (1, 0) := C2.1
    have a3 : hK h r1 = (12, 32) := C3.1
    have a4 : hK h r2 = (12, 32) := C4.1
    have b1 : hV h k1 0 = vR r1 := C1.2.1 0 _ rfl
    have b2 : hV h k1 1 = vI 32 := C1.2.1 1 _ rfl
    have b3 : hV h k2 0 = vR r2 := C2.2.1 0 _ rfl
    have b4 : hV h k2 1 = vI 32 := C2.2.1 1 _ rfl
    obtain ⟨z, b5⟩ : ∃ z, hV h r2 (t.tmod 32).toNat = .inr (.inl z) := by
      have hlt : (t.tmod 32).toNat < v2.length := by rw [hlen]; omega
      exact isG_s (List.all_eq_true.mp hall _ (List.getElem_mem hlt)) (C4.2.1 _ _ (List.getElem?_eq_getElem hlt))
    have hb' : ab_H b (hSet h r1 (t.tmod 32).toNat (.inr (.inl z))) := ab_H_un hb g3 (Nat.zero_le _) (fun w hw => by cases hw)
    have hq := ih (t + 1) _ (by omega) (by omega) hb'
    refine xpk_sound (stops := [9]) (n := 30) ?_
    simp only [sk_0, sk_1, sk_2, sk_3, sk_4, sk_5, sk_6, sk_7, sk_8, sk_iadd, sk_isub, sk_imul, sk_iand, sk_ior, sk_ixor, sk_ishl, sk_ishr, sk_iushr, sk_idiv, sk_irem, sk_ineg, sk_ladd, sk_lsub, sk_lmul, sk_land, sk_lor, sk_ldiv, sk_lrem, sk_lneg, sk_lshl, sk_lshr, sk_i2l, sk_l2i, sk_lcmp, sk_dupI, sk_dupR, sk_dup2L, sk_dup2I, sk_popI, sk_ifeq, sk_ifne, sk_iflt, sk_ifge, sk_ifgt, sk_ifle, sk_iceq, sk_icne, sk_iclt, sk_icge, sk_icgt, sk_icle, sk_goto, sk_getf, sk_putf, sk_gets, sk_iald, sk_lald, sk_bald, sk_aald, sk_iast, sk_last, sk_bast, sk_aast, sk_alen, sk_newa, sk_newt, sk_new, sk_cs1, sk_cs2, sk_cs3, sk_cs4, sk_cs5, sk_cs6, sk_cv1, sk_cv2, sk_cv3, sk_cv4, sk_cv5, sk_cv6, sk_ci1, sk_ci2, sk_ci3, sk_ret0, sk_retI, sk_retL, sk_retR, sk_sw, sk_oin, sk_max, sk_min, sk_abs, lI_0, lI_s, lL_0, lL_s, lR_0, lR_s, vIo_e, vLo_e, vOo_e, stW_I, stW_L, stW_R, stW_0, stW_z, okSt_0, okSt_s, hV_eq, hK_eq, okF_0, okF_1, okF_3, is01_0, is01_1, is01_i, Int.toNat_natCast, Int.reduceEq, Int.reduceLE, Int.reduceLT, Int.reduceNeg, Nat.reduceLT, not_true_eq_false, not_false_eq_true, reduceIte, Option.toList, List.cons_append, List.nil_append, List.set_cons_zero, List.set_cons_succ, List.not_mem_nil, List.mem_cons, if_false, if_true, ite_true, ite_false, and_self, and_true, true_and, Nat.reduceAdd, Nat.reduceLeDiff, Nat.reduceEqDiff, Nat.zero_add, Nat.le_refl, Nat.zero_le, or_false, false_or, Int.reduceToNat, or_true, true_or, eq_self, and_false, false_and, inR_d, nc_4, nc_5, nc_6, nc_7, nc_8, nc_16, nc_18, nc_20, nc_24, nc_32, nc_40, nc_64, nc_104, nc_120, nc_160, nc_256, nc_300, nc_330, nc_390, nc_1200, nc_1260, nc_3012, nc_9834, okSt_1i, okSt_1r, okSt_1n, xpk_succ cd_30_0, xpk_succ cd_30_1, xpk_succ cd_30_2, xpk_succ cd_30_4, xpk_succ cd_30_5, xpk_succ cd_30_8, xpk_succ cd_30_9, xpk_succ cd_30_10, xpk_succ cd_30_11, xpk_succ cd_30_14, xpk_succ cd_30_15, xpk_succ cd_30_18, xpk_succ cd_30_19, xpk_succ cd_30_20, xpk_succ cd_30_23, xpk_succ cd_30_24, xpk_succ cd_30_25, xpk_succ cd_30_28, xpk_succ cd_30_29, xpk_succ cd_30_30, xpk_succ cd_30_33, xpk_succ cd_30_34, xpk_succ cd_30_35, xpk_succ cd_30_36, xpk_succ cd_30_39, xpk_succ cd_30_42, hc, a1, a2, a3, a4, b1, b2, b3, b4, b5, hi1, hi2, ht1]
    exact hq
def isK (o : Option AC) : Option Nat := match o with
  | some (1, 0, [.inl (.inr (.inr (some r))), .inl (.inl 32)], none) => some r
  | _ => none
theorem isK_s {o : Option AC} {r : Nat} (h : isK o = some r) : o = some (1, 0, [xR r, xI 32], none) := by
  unfold isK at h
  split at h
  · cases h; rfl
  · cases h
noncomputable def ntL2 (b : BH) (k1 k2 r1 r2 : Nat) (t : Int) (c3 c4 : AC) : NR := bif ((Nat.beq c3.1 12 && Nat.beq c3.2.1 32) && (Nat.beq c3.2.2.1.length 0 && c3.2.2.2.isNone)) && (((Nat.beq c4.1 12 && Nat.beq c4.2.1 32) && (Nat.beq c4.2.2.1.length 32 && c4.2.2.2.isNone)) && (c4.2.2.1.all isG && (!ltI t 0 && ltI t 1000))) then some (none, b) else none
def oN (o : Option Nat) (k : Nat → NR) : NR := match o with
  | some x => k x
  | none => none
theorem oN_s {o : Option Nat} {k : Nat → NR} {y : Option AW × BH} (h : oN o k = some y) : ∃ x, o = some x ∧ k x = some y := by
  cases o with
  | none => cases h
  | some x => exact ⟨x, rfl, h⟩
noncomputable def ntL (as : List AW) (b : BH) : NR := match as with
  | [.inl (.inr (.inr (some k1))), .inl (.inr (.inr (some k2))), .inl (.inl t)] => oN (isK (gF b k1)) fun r1 => oN (isK (gF b k2)) fun r2 => oC (gF b r1) fun c3 => oC (gF b r2) fun c4 => ntL2 b k1 k2 r1 r2 t c3 c4
  | _ => none
theorem ntL_s {as : List AW} {b : BH} {r0 : Option AW} {b' : BH} (hn : ntL as b = some (r0, b')) : ∀ d vs h (Q : Option AV → AH → Prop), 20 ≤ d → ab_S as vs → ab_H b h → (∀ v h', ab_O r0 v → ab_H b' h' → Q v h') → XC d 30 vs h Q := by
  intro d vs h Q hd hs hb hQ
  unfold ntL at hn
  split at hn
  · rename_i k1 k2 t
    obtain ⟨r1, e1, hn⟩ := oN_s hn
    obtain ⟨r2, e2, hn⟩ := oN_s hn
    obtain ⟨c3, e3, hn⟩ := oC_s hn
    obtain ⟨c4, e4, hn⟩ := oC_s hn
    unfold ntL2 at hn
    obtain ⟨hc, hn⟩ := cond_some hn
    cases hn
    simp only [Bool.and_eq_true, beq_d, ltI_eq, Bool.not_eq_true', decide_eq_true_eq, decide_eq_false_iff_not] at hc
    obtain ⟨⟨⟨t1, t2⟩, t3, t4⟩, ⟨⟨t5, t6⟩, t7, t8⟩, t9, t10, t11⟩ := hc
    rw [gF_eq] at e1 e2 e3 e4
    obtain ⟨c31, c32, v3, d3⟩ := c3
    obtain ⟨c41, c42, v4, d4⟩ := c4
    have t1 : c31 = 12 := t1
    have t2 : c32 = 32 := t2
    have t3' : v3 = [] := List.length_eq_zero_iff.mp t3
    have t4' : d3 = none := by
      cases d3 with
      | none => rfl
      | some w => cases t4
    have t5 : c41 = 12 := t5
    have t6 : c42 = 32 := t6
    have t8' : d4 = none := by
      cases d4 with
      | none => rfl
      | some w => cases t8
    subst t1 t2 t3' t4' t5 t6 t8'
    obtain ⟨d, rfl⟩ : ∃ d', d = d' + 1 := ⟨d - 1, by omega⟩
    obtain ⟨v1, vs1, rfl, hv1, w2, vs2, rfl, hv2, w3, vs3, rfl, hv3, hs4⟩ := hs
    have hv1 : v1 = vR k1 := hv1
    have hv2 : w2 = vR k2 := hv2
    have hv3 : w3 = vI t := hv3
    have hs4 : vs3 = [] := hs4
    subst hv1 hv2 hv3 hs4
    have h9 : w32 (t - 9) = t - 9 := by unfold w32; omega
    refine XC_of (Nat.le_of_ble_eq_true rfl) ?_
    have hl := cl_loop d k1 k2 r1 r2 t b v4 (by omega) Q (isK_s e1) (isK_s e2) e3 e4 t7 t9 (fun h' hb => hQ none h' rfl hb) (t - max 0 (t - 9)).toNat (max 0 (t - 9)) h (by omega) (by omega) hb
    refine xpk_sound (stops := [9]) (n := 10) ?_
    show xpk [9] 10 d 30 0 [some (vR k1), some (vR k2), some (vI t), none] [] h _
    simp only [sk_0, sk_1, sk_2, sk_3, sk_4, sk_5, sk_6, sk_7, sk_8, sk_iadd, sk_isub, sk_imul, sk_iand, sk_ior, sk_ixor, sk_ishl, sk_ishr, sk_iushr, sk_idiv, sk_irem, sk_ineg, sk_ladd, sk_lsub, sk_lmul, sk_land, sk_lor, sk_ldiv, sk_lrem, sk_lneg, sk_lshl, sk_lshr, sk_i2l, sk_l2i, sk_lcmp, sk_dupI, sk_dupR, sk_dup2L, sk_dup2I, sk_popI, sk_ifeq, sk_ifne, sk_iflt, sk_ifge, sk_ifgt, sk_ifle, sk_iceq, sk_icne, sk_iclt, sk_icge, sk_icgt, sk_icle, sk_goto, sk_getf, sk_putf, sk_gets, sk_iald, sk_lald, sk_bald, sk_aald, sk_iast, sk_last, sk_bast, sk_aast, sk_alen, sk_newa, sk_newt, sk_new, sk_cs1, sk_cs2, sk_cs3, sk_cs4, sk_cs5, sk_cs6, sk_cv1, sk_cv2, sk_cv3, sk_cv4, sk_cv5, sk_cv6, sk_ci1, sk_ci2, sk_ci3, sk_ret0, sk_retI, sk_retL, sk_retR, sk_sw, sk_oin, sk_max, sk_min, sk_abs, lI_0, lI_s, lL_0, lL_s, lR_0, lR_s, vIo_e, vLo_e, vOo_e, stW_I, stW_L, stW_R, stW_0, stW_z, okSt_0, okSt_s, hV_eq, hK_eq, okF_0, okF_1, okF_3, is01_0, is01_1, is01_i, Int.toNat_natCast, Int.reduceEq, Int.reduceLE, Int.reduceLT, Int.reduceNeg, Nat.reduceLT, not_true_eq_false, not_false_eq_true, reduceIte, Option.toList, List.cons_append, List.nil_append, List.set_cons_zero, List.set_cons_succ, List.not_mem_nil, List.mem_cons, if_false, if_true, ite_true, ite_false, and_self, and_true, true_and, Nat.reduceAdd, Nat.reduceLeDiff, Nat.reduceEqDiff, Nat.zero_add, Nat.le_refl, Nat.zero_le, or_false, false_or, Int.reduceToNat, or_true, true_or, eq_self, and_false, false_and, inR_d, nc_4, nc_5, nc_6, nc_7, nc_8, nc_16, nc_18, nc_20, nc_24, nc_32, nc_40, nc_64, nc_104, nc_120, nc_160, nc_256, nc_300, nc_330, nc_390, nc_1200, nc_1260, nc_3012, nc_9834, okSt_1i, okSt_1r, okSt_1n, xpk_succ cd_30_0, xpk_succ cd_30_1, xpk_succ cd_30_2, xpk_succ cd_30_4, xpk_succ cd_30_5, xpk_succ cd_30_8, xpk_succ cd_30_9, xpk_succ cd_30_10, xpk_succ cd_30_11, xpk_succ cd_30_14, xpk_succ cd_30_15, xpk_succ cd_30_18, xpk_succ cd_30_19, xpk_succ cd_30_20, xpk_succ cd_30_23, xpk_succ cd_30_24, xpk_succ cd_30_25, xpk_succ cd_30_28, xpk_succ cd_30_29, xpk_succ cd_30_30, xpk_succ cd_30_33, xpk_succ cd_30_34, xpk_succ cd_30_35, xpk_succ cd_30_36, xpk_succ cd_30_39, xpk_succ cd_30_42, h9]
    exact hl
  · cases hn
noncomputable def nt5 : NT := fun M as b => bif Nat.beq M 30 then ntL as b else none
theorem nt5_s : ab_N nt5 := by
  intro M as b r b' hn
  unfold nt5 at hn
  rw [beq_d] at hn
  by_cases h1 : M = 30
  · rw [decide_eq_true h1, cnd_t] at hn
    subst h1
    exact ntL_s hn
  · rw [decide_eq_false h1, cnd_f] at hn
    cases hn
def bcw2 : List (Option AC) := [some (11, 24, [], some xT),
  some (11, 120, [], some xT),
  some (6, 0, [xR 41, xR 42, xR 43, xR 44, xR 45, xI 0, xI 0], none),
  some (11, 300, [], some xT),
  some (11, 5, [xI (-1), xI (-1), xI (-1), xI (-1), xI (-1)], some xT),
  some (11, 5, [xI (-1), xI (-1), xI (-1), xI (-1), xI (-1)], some xT),
  some (11, 24, [], some xT),
  some (11, 120, [], some xT),
  some (6, 0, [xR 47, xR 48, xR 49, xR 50, xR 51, xI 0, xI 0], none),
  some (11, 300, [], some xT),
  some (11, 5, [xI (-1), xI (-1), xI (-1), xI (-1), xI (-1)], some xT),
  some (11, 5, [xI (-1), xI (-1), xI (-1), xI (-1), xI (-1)], some xT),
  some (11, 24, [], some xT),
  some (11, 120, [], some xT),
  some (0, 0, [xR 53, xI 0, xI 0, xI 0, xI 0, xI 5, xI 0, xI 0, xI 0, xI 0, xI 59, xI (-1), xI 0, xI 0, xI 0], none),
  some (1, 0, [xR 54, xI 32], none),
  some (12, 32, [xL 0, xL 0, xL 0, xL 0, xL 0, xL 0, xL 0, xL 0, xL 0, xL 0, xL 0, xL 0, xL 0, xL 0, xL 0, xL 0, xL 0, xL 0, xL 0, xL 0, xL 0, xL 0, xL 0, xL 0, xL 0, xL 0, xL 0, xL 0, xL 0, xL 0, xL 0, xL 0], none),
  some (0, 0, [xR 56, xI 0, xI 0, xI 0, xI 0, xI 5, xI 0, xI 0, xI 0, xI 0, xI 59, xI (-1), xI 0, xI 0, xI 0], none),
  some (1, 0, [xR 57, xI 32], none)]
def bcw : List (List (Option AC)) := [bcC0, bcC1, bcw2, bcC3, bcM]
theorem okcs_w : okcs bcw = true := by decide +kernel
theorem ck_29 : achF nt5 1000000 1082 (kS bxT (xI 0)) 1000 321 1078 lsx [] (bcw, bx bxT) (fun _ _ => false) = true := by decide +kernel
theorem case_29 {xs : Nat → Int} {h : AH} (hf : FR 6 xs h) (q0 : -2147483648 ≤ xs 0 ∧ xs 0 ≤ 2147483647) (q1 : -2147483648 ≤ xs 1 ∧ xs 1 ≤ 2147483647) (q2 : -2147483648 ≤ xs 2 ∧ xs 2 ≤ 2147483647) (q3 : -2147483648 ≤ xs 3 ∧ xs 3 ≤ 2147483647) (q4 : -2147483648 ≤ xs 4 ∧ xs 4 ≤ 2147483647) (q5 : -2147483648 ≤ xs 5 ∧ xs 5 ≤ 2147483647) : XP 1000 321 1078 lsc [] h lwQ := by
  have hb0 : ab_H (bcw, bx bxT) h := FR_b okcs_w hf (fun j w hw => by
    have hw : [xT, xT, xT, xT, xT, xT][j]? = some w := hw
    match j, hw with
    | 0, hw => cases hw; exact ab_rg q0.1 q0.2
    | 1, hw => cases hw; exact ab_rg q1.1 q1.2
    | 2, hw => cases hw; exact ab_rg q2.1 q2.2
    | 3, hw => cases hw; exact ab_rg q3.1 q3.2
    | 4, hw => cases hw; exact ab_rg q4.1 q4.2
    | 5, hw => cases hw; exact ab_rg q5.1 q5.2
    | n + 6, hw => cases hw)
  have h1 := ck_29
  rw [achF_eq] at h1
  refine achk_s nt5_s _ _ _ _ _ _ _ _ _ _ h1 lsc [] h lwQ lsx_s rfl hb0 (fun als ast b ls st h hk' hl hs hb => ?_) (fun _ _ _ _ z => by cases z)
  unfold kS at hk'
  rw [Bool.and_eq_true, Bool.and_eq_true, Bool.and_eq_true, decide_eq_true_eq, decide_eq_true_eq] at hk'
  obtain ⟨rfl, rfl, hd, hz⟩ := hk'
  have hd := eqO_s hd
  have hz := eqZ_s hz
  obtain ⟨v, vs, rfl, hv, hs⟩ := hs
  have hs : vs = [] := hs
  subst hs
  have hls : ls = lsc := by
    obtain ⟨a1, l1, rfl, ⟨u1, rfl, z1⟩, a2, l2, rfl, ⟨u2, rfl, z2⟩, a3, l3, rfl, ⟨u3, rfl, z3⟩, a4, l4, rfl, ⟨u4, rfl, z4⟩, z5⟩ := hl
    have z1 : u1 = _ := z1
    have z2 : u2 = _ := z2
    have z3 : u3 = _ := z3
    have z4 : u4 = _ := z4
    have z5 : l4 = [] := z5
    rw [z1, z2, z3, z4, z5]
  rw [hls]
  obtain ⟨b1, b2⟩ := b
  have hz : b2 = bx bxT := hz
  subst hz
  have hv : v = vI 0 := hv
  rw [hv]
  have hb1 : ab_H (bc1, bx bxT) h := ⟨hb.1, hb.2.1, fun k c hc => hb.2.2 k c (gC_1 hd hc)⟩
  obtain ⟨h2, ⟨n1, n2, n3⟩, e2⟩ := X_wgM hb1
  exact law_29 (kdI_s hb1 (by decide +kernel)) e2 (law_end n1 n2 n3)
