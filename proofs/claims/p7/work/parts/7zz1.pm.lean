/-! a clause of a text that is played -/
def agQ (cl : cCl) (k : Nat) : Int := (cl.2.2[k]?).getD 0
theorem agQ_s {cl : cCl} {k : Nat} (h : k < cl.2.2.length) : cl.2.2[k]? = some (agQ cl k) := by
  unfold agQ
  rw [List.getElem?_eq_getElem h]; rfl
def mvS (cs : List cCl) (S : STC) (c : Int) : STC := (ksW S.1 S.2.1 S.2.2.2.1, TNf cs S.2.1 S.2.2.1 1260 S.2.2.2.2 c, rwT S.2.1 S.2.2.1 1260 S.2.2.2.2 c, (S.2.2.2.1 + 1) % 30, S.2.2.2.2 + 1)
def kpS (S : STC) (f : Nat → Int) : STC := (ksW S.1 S.2.1 S.2.2.2.1, f, S.2.2.1, (S.2.2.2.1 + 1) % 30, S.2.2.2.2)
def laS (S : STC) (k o : Nat) : STC := (wdW (ksW S.1 S.2.1 S.2.2.2.1) k (o : Int) (S.2.1 9), wdnF S.2.1 k o, S.2.2.1, (S.2.2.2.1 + 1) % 30, S.2.2.2.2)
def plF (cs : List cCl) (near : Int) (cl : cCl) (S : STC) : Bool × STC :=
  if cl.1 = 5 then (if ORc (agQ cl 0) (agQ cl 1) (agQ cl 2) (agQ cl 3) (agQ cl 4) ∧ (S.1 1 5).toNat < 8 then (true, (orW S.1 (S.1 1 5).toNat (agQ cl 0) (agQ cl 1) (agQ cl 2) (agQ cl 3) (agQ cl 4), S.2)) else (false, S))
  else if cl.1 = 6 then (if (-1 ≤ agQ cl 0 ∧ agQ cl 0 ≤ 1) ∧ S.2.2.2.2 < 9999 then (true, mvS cs S (agQ cl 0)) else (false, S))
  else if cl.1 = 7 then (decide (S.2.2.2.2 + (agQ cl 0).toNat ≤ 9999), rnS cs (min (agQ cl 0).toNat (9999 - S.2.2.2.2)) S)
  else if cl.1 = 16 then (if 1 ≤ agQ cl 0 ∧ agQ cl 0 ≤ 24 ∧ ¬ agQ cl 0 = S.2.1 5 then (true, kpS S (upF S.2.1 5 (agQ cl 0))) else (false, S))
  else if cl.1 = 8 then (if 0 ≤ agQ cl 0 ∧ agQ cl 0 ≤ 600 ∧ ¬ agQ cl 0 = S.2.1 8 then (true, kpS S (upF S.2.1 8 (agQ cl 0))) else (false, S))
  else if cl.1 = 9 then (if (0 ≤ agQ cl 0 ∧ agQ cl 0 ≤ S.1 1 5 - 1) ∧ S.2.1 11 = -1 ∧ bitF (S.2.1 12) (agQ cl 0).toNat = 0 then (true, kpS S (hkF S.1 S.2.1 (agQ cl 0).toNat)) else (false, S))
  else if cl.1 = 10 then (if ¬ S.2.1 11 = -1 ∧ hsF S.2.1 near = 1 then (true, laS S (S.2.1 13).toNat (S.2.1 11).toNat) else (false, S))
  else (true, S)
theorem plF_5 {cs : List cCl} {near : Int} {cl : cCl} {S : STC} (hk : cl.1 = 5) : plF cs near cl S = (if ORc (agQ cl 0) (agQ cl 1) (agQ cl 2) (agQ cl 3) (agQ cl 4) ∧ (S.1 1 5).toNat < 8 then (true, (orW S.1 (S.1 1 5).toNat (agQ cl 0) (agQ cl 1) (agQ cl 2) (agQ cl 3) (agQ cl 4), S.2)) else (false, S)) := by
  unfold plF
  rw [if_pos hk]
theorem plF_6 {cs : List cCl} {near : Int} {cl : cCl} {S : STC} (hk : cl.1 = 6) : plF cs near cl S = (if (-1 ≤ agQ cl 0 ∧ agQ cl 0 ≤ 1) ∧ S.2.2.2.2 < 9999 then (true, mvS cs S (agQ cl 0)) else (false, S)) := by
  unfold plF
  rw [if_neg (by omega), if_pos hk]
theorem plF_7 {cs : List cCl} {near : Int} {cl : cCl} {S : STC} (hk : cl.1 = 7) : plF cs near cl S = (decide (S.2.2.2.2 + (agQ cl 0).toNat ≤ 9999), rnS cs (min (agQ cl 0).toNat (9999 - S.2.2.2.2)) S) := by
  unfold plF
  rw [if_neg (by omega), if_neg (by omega), if_pos hk]
theorem plF_16 {cs : List cCl} {near : Int} {cl : cCl} {S : STC} (hk : cl.1 = 16) : plF cs near cl S = (if 1 ≤ agQ cl 0 ∧ agQ cl 0 ≤ 24 ∧ ¬ agQ cl 0 = S.2.1 5 then (true, kpS S (upF S.2.1 5 (agQ cl 0))) else (false, S)) := by
  unfold plF
  rw [if_neg (by omega), if_neg (by omega), if_neg (by omega), if_pos hk]
theorem plF_8 {cs : List cCl} {near : Int} {cl : cCl} {S : STC} (hk : cl.1 = 8) : plF cs near cl S = (if 0 ≤ agQ cl 0 ∧ agQ cl 0 ≤ 600 ∧ ¬ agQ cl 0 = S.2.1 8 then (true, kpS S (upF S.2.1 8 (agQ cl 0))) else (false, S)) := by
  unfold plF
  rw [if_neg (by omega), if_neg (by omega), if_neg (by omega), if_neg (by omega), if_pos hk]
theorem plF_9 {cs : List cCl} {near : Int} {cl : cCl} {S : STC} (hk : cl.1 = 9) : plF cs near cl S = (if (0 ≤ agQ cl 0 ∧ agQ cl 0 ≤ S.1 1 5 - 1) ∧ S.2.1 11 = -1 ∧ bitF (S.2.1 12) (agQ cl 0).toNat = 0 then (true, kpS S (hkF S.1 S.2.1 (agQ cl 0).toNat)) else (false, S)) := by
  unfold plF
  rw [if_neg (by omega), if_neg (by omega), if_neg (by omega), if_neg (by omega), if_neg (by omega), if_pos hk]
theorem plF_10 {cs : List cCl} {near : Int} {cl : cCl} {S : STC} (hk : cl.1 = 10) : plF cs near cl S = (if ¬ S.2.1 11 = -1 ∧ hsF S.2.1 near = 1 then (true, laS S (S.2.1 13).toNat (S.2.1 11).toNat) else (false, S)) := by
  unfold plF
  rw [if_neg (by omega), if_neg (by omega), if_neg (by omega), if_neg (by omega), if_neg (by omega), if_neg (by omega), if_pos hk]
theorem plF_o {cs : List cCl} {near : Int} {cl : cCl} {S : STC} (hk : ¬ (5 ≤ cl.1 ∧ cl.1 ≤ 10) ∧ ¬ cl.1 = 16) : plF cs near cl S = (true, S) := by
  unfold plF
  rw [if_neg (by omega), if_neg (by omega), if_neg (by omega), if_neg (by omega), if_neg (by omega), if_neg (by omega), if_neg (by omega)]
set_option maxHeartbeats 2000000 in
theorem isW_6 {h : AH} {am : Nat → Int} {s : SCM} {d p : Nat} {v r : Int} {g : AH} (hJ : k_H JB h) (m0 : hV (Mc h am s) 79 p = vI 6) (m1 : hV (Mc h am s) 79 (p + 1) = vI v) (hp : p + 6 ≤ 3012) (hr : r = 0 ∨ r = 1) (e : ∀ Q : Option AV → AH → Prop, XC (d + 10) 256 [vR 76, vI v] (Mc h am s) Q = Q (some (vI r)) g) (Q : Option AV → AH → Prop) : XC (d + 11) 264 [vR 76, vI (p : Int)] (Mc h am s) Q = Q (some (vI r)) g := by
  refine XC_eq (Nat.le_of_ble_eq_true rfl) ?_ Q
  show XP (d + 10) 264 0 [some (vR 76), some (vI (p : Int)), none] [] (Mc h am s) _
  have m2 : hV (Mc h am s) 76 2 = vR 79 := (Mc_n (by decide) (by decide) (Or.inr ⟨by decide, by decide⟩) (by decide) (by decide)).trans (F_76_2 hJ)
  have w1 : WE ((p : Int) + 1) ((p + 1 : Nat) : Int) := by unfold WE w32; omega
  have b1 : (0 : Int) ≤ ((p + 1 : Nat) : Int) ∧ ((p + 1 : Nat) : Int) < 3012 := by omega
  have b0 : (0 : Int) ≤ (p : Int) ∧ (p : Int) < 3012 := by omega
  have sw : swF 6 145 [(5, 56), (6, 102), (7, 108), (8, 114), (9, 120), (10, 126), (11, 132)] = 102 := by decide
  rcases hr with rfl | rfl
  · refine xpk_sound (stops := []) (n := 40) ?_
    simp only [xpk_succ cd_264_102, xpk_succ cd_264_103, xpk_succ cd_264_104, xpk_succ cd_264_107, sk_0, sk_1, sk_2, sk_3, sk_4, sk_5, sk_6, sk_7, sk_8, sk_iadd, sk_isub, sk_imul, sk_iand, sk_ior, sk_ixor, sk_ishl, sk_ishr, sk_iushr, sk_idiv, sk_irem, sk_ineg, sk_ladd, sk_lsub, sk_lmul, sk_land, sk_lor, sk_ldiv, sk_lrem, sk_lneg, sk_lshl, sk_lshr, sk_i2l, sk_l2i, sk_lcmp, sk_dupI, sk_dupR, sk_dup2L, sk_dup2I, sk_popI, sk_ifeq, sk_ifne, sk_iflt, sk_ifge, sk_ifgt, sk_ifle, sk_iceq, sk_icne, sk_iclt, sk_icge, sk_icgt, sk_icle, sk_goto, sk_getf, sk_putf, sk_gets, sk_iald, sk_lald, sk_bald, sk_aald, sk_iast, sk_last, sk_bast, sk_aast, sk_alen, sk_newa, sk_newt, sk_new, sk_cs1, sk_cs2, sk_cs3, sk_cs4, sk_cs5, sk_cs6, sk_cv1, sk_cv2, sk_cv3, sk_cv4, sk_cv5, sk_cv6, sk_ci1, sk_ci2, sk_ci3, sk_ret0, sk_retI, sk_retL, sk_retR, sk_sw, sk_oin, sk_max, sk_min, sk_abs, lI_0, lI_s, lL_0, lL_s, lR_0, lR_s, vIo_e, vLo_e, vOo_e, stW_I, stW_L, stW_R, stW_0, stW_z, okSt_0, okSt_s, hV_eq, hK_eq, okF_0, okF_1, okF_3, is01_0, is01_1, is01_i, Int.toNat_natCast, Int.reduceEq, Int.reduceLE, Int.reduceLT, Int.reduceNeg, Nat.reduceLT, not_true_eq_false, not_false_eq_true, reduceIte, Option.toList, List.cons_append, List.nil_append, List.set_cons_zero, List.set_cons_succ, List.not_mem_nil, List.mem_cons, if_false, if_true, ite_true, ite_false, and_self, and_true, true_and, Nat.reduceAdd, Nat.reduceLeDiff, Nat.reduceEqDiff, Nat.zero_add, Nat.le_refl, Nat.zero_le, or_false, false_or, Int.reduceToNat, or_true, true_or, eq_self, and_false, false_and, inR_d, nc_4, nc_5, nc_6, nc_7, nc_8, nc_16, nc_18, nc_20, nc_24, nc_32, nc_40, nc_64, nc_104, nc_120, nc_160, nc_256, nc_300, nc_330, nc_390, nc_1200, nc_1260, nc_3012, nc_9834, okSt_1i, okSt_1r, okSt_1n, List.length_cons, List.length_nil, xpk_succ cd_264_0, xpk_succ cd_264_1, xpk_succ cd_264_4, xpk_succ cd_264_5, xpk_succ cd_264_6, xpk_succ cd_264_7, xpk_succ cd_264_8, xpk_succ cd_264_9, xpk_succ cd_264_10, xpk_succ cd_264_13, xpk_succ cd_264_14, xpk_succ cd_264_15, Mc_k, (K_76 hJ), (K_77 hJ), (K_79 hJ), (Mc_0 hJ), m2, (WE_e w1), b1, b0, m0, m1, sw, e]
  · refine xpk_sound (stops := []) (n := 40) ?_
    simp only [xpk_succ cd_264_102, xpk_succ cd_264_103, xpk_succ cd_264_104, xpk_succ cd_264_107, sk_0, sk_1, sk_2, sk_3, sk_4, sk_5, sk_6, sk_7, sk_8, sk_iadd, sk_isub, sk_imul, sk_iand, sk_ior, sk_ixor, sk_ishl, sk_ishr, sk_iushr, sk_idiv, sk_irem, sk_ineg, sk_ladd, sk_lsub, sk_lmul, sk_land, sk_lor, sk_ldiv, sk_lrem, sk_lneg, sk_lshl, sk_lshr, sk_i2l, sk_l2i, sk_lcmp, sk_dupI, sk_dupR, sk_dup2L, sk_dup2I, sk_popI, sk_ifeq, sk_ifne, sk_iflt, sk_ifge, sk_ifgt, sk_ifle, sk_iceq, sk_icne, sk_iclt, sk_icge, sk_icgt, sk_icle, sk_goto, sk_getf, sk_putf, sk_gets, sk_iald, sk_lald, sk_bald, sk_aald, sk_iast, sk_last, sk_bast, sk_aast, sk_alen, sk_newa, sk_newt, sk_new, sk_cs1, sk_cs2, sk_cs3, sk_cs4, sk_cs5, sk_cs6, sk_cv1, sk_cv2, sk_cv3, sk_cv4, sk_cv5, sk_cv6, sk_ci1, sk_ci2, sk_ci3, sk_ret0, sk_retI, sk_retL, sk_retR, sk_sw, sk_oin, sk_max, sk_min, sk_abs, lI_0, lI_s, lL_0, lL_s, lR_0, lR_s, vIo_e, vLo_e, vOo_e, stW_I, stW_L, stW_R, stW_0, stW_z, okSt_0, okSt_s, hV_eq, hK_eq, okF_0, okF_1, okF_3, is01_0, is01_1, is01_i, Int.toNat_natCast, Int.reduceEq, Int.reduceLE, Int.reduceLT, Int.reduceNeg, Nat.reduceLT, not_true_eq_false, not_false_eq_true, reduceIte, Option.toList, List.cons_append, List.nil_append, List.set_cons_zero, List.set_cons_succ, List.not_mem_nil, List.mem_cons, if_false, if_true, ite_true, ite_false, and_self, and_true, true_and, Nat.reduceAdd, Nat.reduceLeDiff, Nat.reduceEqDiff, Nat.zero_add, Nat.le_refl, Nat.zero_le, or_false, false_or, Int.reduceToNat, or_true, true_or, eq_self, and_false, false_and, inR_d, nc_4, nc_5, nc_6, nc_7, nc_8, nc_16, nc_18, nc_20, nc_24, nc_32, nc_40, nc_64, nc_104, nc_120, nc_160, nc_256, nc_300, nc_330, nc_390, nc_1200, nc_1260, nc_3012, nc_9834, okSt_1i, okSt_1r, okSt_1n, List.length_cons, List.length_nil, xpk_succ cd_264_0, xpk_succ cd_264_1, xpk_succ cd_264_4, xpk_succ cd_264_5, xpk_succ cd_264_6, xpk_succ cd_264_7, xpk_succ cd_264_8, xpk_succ cd_264_9, xpk_succ cd_264_10, xpk_succ cd_264_13, xpk_succ cd_264_14, xpk_succ cd_264_15, Mc_k, (K_76 hJ), (K_77 hJ), (K_79 hJ), (Mc_0 hJ), m2, (WE_e w1), b1, b0, m0, m1, sw, e]
set_option maxHeartbeats 2000000 in
theorem isW_7 {h : AH} {am : Nat → Int} {s : SCM} {d p : Nat} {v r : Int} {g : AH} (hJ : k_H JB h) (m0 : hV (Mc h am s) 79 p = vI 7) (m1 : hV (Mc h am s) 79 (p + 1) = vI v) (hp : p + 6 ≤ 3012) (hr : r = 0 ∨ r = 1) (e : ∀ Q : Option AV → AH → Prop, XC (d + 10) 258 [vR 76, vI v] (Mc h am s) Q = Q (some (vI r)) g) (Q : Option AV → AH → Prop) : XC (d + 11) 264 [vR 76, vI (p : Int)] (Mc h am s) Q = Q (some (vI r)) g := by
  refine XC_eq (Nat.le_of_ble_eq_true rfl) ?_ Q
  show XP (d + 10) 264 0 [some (vR 76), some (vI (p : Int)), none] [] (Mc h am s) _
  have m2 : hV (Mc h am s) 76 2 = vR 79 := (Mc_n (by decide) (by decide) (Or.inr ⟨by decide, by decide⟩) (by decide) (by decide)).trans (F_76_2 hJ)
  have w1 : WE ((p : Int) + 1) ((p + 1 : Nat) : Int) := by unfold WE w32; omega
  have b1 : (0 : Int) ≤ ((p + 1 : Nat) : Int) ∧ ((p + 1 : Nat) : Int) < 3012 := by omega
  have b0 : (0 : Int) ≤ (p : Int) ∧ (p : Int) < 3012 := by omega
  have sw : swF 7 145 [(5, 56), (6, 102), (7, 108), (8, 114), (9, 120), (10, 126), (11, 132)] = 108 := by decide
  rcases hr with rfl | rfl
  · refine xpk_sound (stops := []) (n := 40) ?_
    simp only [xpk_succ cd_264_108, xpk_succ cd_264_109, xpk_succ cd_264_110, xpk_succ cd_264_113, sk_0, sk_1, sk_2, sk_3, sk_4, sk_5, sk_6, sk_7, sk_8, sk_iadd, sk_isub, sk_imul, sk_iand, sk_ior, sk_ixor, sk_ishl, sk_ishr, sk_iushr, sk_idiv, sk_irem, sk_ineg, sk_ladd, sk_lsub, sk_lmul, sk_land, sk_lor, sk_ldiv, sk_lrem, sk_lneg, sk_lshl, sk_lshr, sk_i2l, sk_l2i, sk_lcmp, sk_dupI, sk_dupR, sk_dup2L, sk_dup2I, sk_popI, sk_ifeq, sk_ifne, sk_iflt, sk_ifge, sk_ifgt, sk_ifle, sk_iceq, sk_icne, sk_iclt, sk_icge, sk_icgt, sk_icle, sk_goto, sk_getf, sk_putf, sk_gets, sk_iald, sk_lald, sk_bald, sk_aald, sk_iast, sk_last, sk_bast, sk_aast, sk_alen, sk_newa, sk_newt, sk_new, sk_cs1, sk_cs2, sk_cs3, sk_cs4, sk_cs5, sk_cs6, sk_cv1, sk_cv2, sk_cv3, sk_cv4, sk_cv5, sk_cv6, sk_ci1, sk_ci2, sk_ci3, sk_ret0, sk_retI, sk_retL, sk_retR, sk_sw, sk_oin, sk_max, sk_min, sk_abs, lI_0, lI_s, lL_0, lL_s, lR_0, lR_s, vIo_e, vLo_e, vOo_e, stW_I, stW_L, stW_R, stW_0, stW_z, okSt_0, okSt_s, hV_eq, hK_eq, okF_0, okF_1, okF_3, is01_0, is01_1, is01_i, Int.toNat_natCast, Int.reduceEq, Int.reduceLE, Int.reduceLT, Int.reduceNeg, Nat.reduceLT, not_true_eq_false, not_false_eq_true, reduceIte, Option.toList, List.cons_append, List.nil_append, List.set_cons_zero, List.set_cons_succ, List.not_mem_nil, List.mem_cons, if_false, if_true, ite_true, ite_false, and_self, and_true, true_and, Nat.reduceAdd, Nat.reduceLeDiff, Nat.reduceEqDiff, Nat.zero_add, Nat.le_refl, Nat.zero_le, or_false, false_or, Int.reduceToNat, or_true, true_or, eq_self, and_false, false_and, inR_d, nc_4, nc_5, nc_6, nc_7, nc_8, nc_16, nc_18, nc_20, nc_24, nc_32, nc_40, nc_64, nc_104, nc_120, nc_160, nc_256, nc_300, nc_330, nc_390, nc_1200, nc_1260, nc_3012, nc_9834, okSt_1i, okSt_1r, okSt_1n, List.length_cons, List.length_nil, xpk_succ cd_264_0, xpk_succ cd_264_1, xpk_succ cd_264_4, xpk_succ cd_264_5, xpk_succ cd_264_6, xpk_succ cd_264_7, xpk_succ cd_264_8, xpk_succ cd_264_9, xpk_succ cd_264_10, xpk_succ cd_264_13, xpk_succ cd_264_14, xpk_succ cd_264_15, Mc_k, (K_76 hJ), (K_77 hJ), (K_79 hJ), (Mc_0 hJ), m2, (WE_e w1), b1, b0, m0, m1, sw, e]
  · refine xpk_sound (stops := []) (n := 40) ?_
    simp only [xpk_succ cd_264_108, xpk_succ cd_264_109, xpk_succ cd_264_110, xpk_succ cd_264_113, sk_0, sk_1, sk_2, sk_3, sk_4, sk_5, sk_6, sk_7, sk_8, sk_iadd, sk_isub, sk_imul, sk_iand, sk_ior, sk_ixor, sk_ishl, sk_ishr, sk_iushr, sk_idiv, sk_irem, sk_ineg, sk_ladd, sk_lsub, sk_lmul, sk_land, sk_lor, sk_ldiv, sk_lrem, sk_lneg, sk_lshl, sk_lshr, sk_i2l, sk_l2i, sk_lcmp, sk_dupI, sk_dupR, sk_dup2L, sk_dup2I, sk_popI, sk_ifeq, sk_ifne, sk_iflt, sk_ifge, sk_ifgt, sk_ifle, sk_iceq, sk_icne, sk_iclt, sk_icge, sk_icgt, sk_icle, sk_goto, sk_getf, sk_putf, sk_gets, sk_iald, sk_lald, sk_bald, sk_aald, sk_iast, sk_last, sk_bast, sk_aast, sk_alen, sk_newa, sk_newt, sk_new, sk_cs1, sk_cs2, sk_cs3, sk_cs4, sk_cs5, sk_cs6, sk_cv1, sk_cv2, sk_cv3, sk_cv4, sk_cv5, sk_cv6, sk_ci1, sk_ci2, sk_ci3, sk_ret0, sk_retI, sk_retL, sk_retR, sk_sw, sk_oin, sk_max, sk_min, sk_abs, lI_0, lI_s, lL_0, lL_s, lR_0, lR_s, vIo_e, vLo_e, vOo_e, stW_I, stW_L, stW_R, stW_0, stW_z, okSt_0, okSt_s, hV_eq, hK_eq, okF_0, okF_1, okF_3, is01_0, is01_1, is01_i, Int.toNat_natCast, Int.reduceEq, Int.reduceLE, Int.reduceLT, Int.reduceNeg, Nat.reduceLT, not_true_eq_false, not_false_eq_true, reduceIte, Option.toList, List.cons_append, List.nil_append, List.set_cons_zero, List.set_cons_succ, List.not_mem_nil, List.mem_cons, if_false, if_true, ite_true, ite_false, and_self, and_true, true_and, Nat.reduceAdd, Nat.reduceLeDiff, Nat.reduceEqDiff, Nat.zero_add, Nat.le_refl, Nat.zero_le, or_false, false_or, Int.reduceToNat, or_true, true_or, eq_self, and_false, false_and, inR_d, nc_4, nc_5, nc_6, nc_7, nc_8, nc_16, nc_18, nc_20, nc_24, nc_32, nc_40, nc_64, nc_104, nc_120, nc_160, nc_256, nc_300, nc_330, nc_390, nc_1200, nc_1260, nc_3012, nc_9834, okSt_1i, okSt_1r, okSt_1n, List.length_cons, List.length_nil, xpk_succ cd_264_0, xpk_succ cd_264_1, xpk_succ cd_264_4, xpk_succ cd_264_5, xpk_succ cd_264_6, xpk_succ cd_264_7, xpk_succ cd_264_8, xpk_succ cd_264_9, xpk_succ cd_264_10, xpk_succ cd_264_13, xpk_succ cd_264_14, xpk_succ cd_264_15, Mc_k, (K_76 hJ), (K_77 hJ), (K_79 hJ), (Mc_0 hJ), m2, (WE_e w1), b1, b0, m0, m1, sw, e]
set_option maxHeartbeats 2000000 in
theorem isW_8 {h : AH} {am : Nat → Int} {s : SCM} {d p : Nat} {v r : Int} {g : AH} (hJ : k_H JB h) (m0 : hV (Mc h am s) 79 p = vI 8) (m1 : hV (Mc h am s) 79 (p + 1) = vI v) (hp : p + 6 ≤ 3012) (hr : r = 0 ∨ r = 1) (e : ∀ Q : Option AV → AH → Prop, XC (d + 10) 260 [vR 76, vI v] (Mc h am s) Q = Q (some (vI r)) g) (Q : Option AV → AH → Prop) : XC (d + 11) 264 [vR 76, vI (p : Int)] (Mc h am s) Q = Q (some (vI r)) g := by
  refine XC_eq (Nat.le_of_ble_eq_true rfl) ?_ Q
  show XP (d + 10) 264 0 [some (vR 76), some (vI (p : Int)), none] [] (Mc h am s) _
  have m2 : hV (Mc h am s) 76 2 = vR 79 := (Mc_n (by decide) (by decide) (Or.inr ⟨by decide, by decide⟩) (by decide) (by decide)).trans (F_76_2 hJ)
  have w1 : WE ((p : Int) + 1) ((p + 1 : Nat) : Int) := by unfold WE w32; omega
  have b1 : (0 : Int) ≤ ((p + 1 : Nat) : Int) ∧ ((p + 1 : Nat) : Int) < 3012 := by omega
  have b0 : (0 : Int) ≤ (p : Int) ∧ (p : Int) < 3012 := by omega
  have sw : swF 8 145 [(5, 56), (6, 102), (7, 108), (8, 114), (9, 120), (10, 126), (11, 132)] = 114 := by decide
  rcases hr with rfl | rfl
  · refine xpk_sound (stops := []) (n := 40) ?_
    simp only [xpk_succ cd_264_114, xpk_succ cd_264_115, xpk_succ cd_264_116, xpk_succ cd_264_119, sk_0, sk_1, sk_2, sk_3, sk_4, sk_5, sk_6, sk_7, sk_8, sk_iadd, sk_isub, sk_imul, sk_iand, sk_ior, sk_ixor, sk_ishl, sk_ishr, sk_iushr, sk_idiv, sk_irem, sk_ineg, sk_ladd, sk_lsub, sk_lmul, sk_land, sk_lor, sk_ldiv, sk_lrem, sk_lneg, sk_lshl, sk_lshr, sk_i2l, sk_l2i, sk_lcmp, sk_dupI, sk_dupR, sk_dup2L, sk_dup2I, sk_popI, sk_ifeq, sk_ifne, sk_iflt, sk_ifge, sk_ifgt, sk_ifle, sk_iceq, sk_icne, sk_iclt, sk_icge, sk_icgt, sk_icle, sk_goto, sk_getf, sk_putf, sk_gets, sk_iald, sk_lald, sk_bald, sk_aald, sk_iast, sk_last, sk_bast, sk_aast, sk_alen, sk_newa, sk_newt, sk_new, sk_cs1, sk_cs2, sk_cs3, sk_cs4, sk_cs5, sk_cs6, sk_cv1, sk_cv2, sk_cv3, sk_cv4, sk_cv5, sk_cv6, sk_ci1, sk_ci2, sk_ci3, sk_ret0, sk_retI, sk_retL, sk_retR, sk_sw, sk_oin, sk_max, sk_min, sk_abs, lI_0, lI_s, lL_0, lL_s, lR_0, lR_s, vIo_e, vLo_e, vOo_e, stW_I, stW_L, stW_R, stW_0, stW_z, okSt_0, okSt_s, hV_eq, hK_eq, okF_0, okF_1, okF_3, is01_0, is01_1, is01_i, Int.toNat_natCast, Int.reduceEq, Int.reduceLE, Int.reduceLT, Int.reduceNeg, Nat.reduceLT, not_true_eq_false, not_false_eq_true, reduceIte, Option.toList, List.cons_append, List.nil_append, List.set_cons_zero, List.set_cons_succ, List.not_mem_nil, List.mem_cons, if_false, if_true, ite_true, ite_false, and_self, and_true, true_and, Nat.reduceAdd, Nat.reduceLeDiff, Nat.reduceEqDiff, Nat.zero_add, Nat.le_refl, Nat.zero_le, or_false, false_or, Int.reduceToNat, or_true, true_or, eq_self, and_false, false_and, inR_d, nc_4, nc_5, nc_6, nc_7, nc_8, nc_16, nc_18, nc_20, nc_24, nc_32, nc_40, nc_64, nc_104, nc_120, nc_160, nc_256, nc_300, nc_330, nc_390, nc_1200, nc_1260, nc_3012, nc_9834, okSt_1i, okSt_1r, okSt_1n, List.length_cons, List.length_nil, xpk_succ cd_264_0, xpk_succ cd_264_1, xpk_succ cd_264_4, xpk_succ cd_264_5, xpk_succ cd_264_6, xpk_succ cd_264_7, xpk_succ cd_264_8, xpk_succ cd_264_9, xpk_succ cd_264_10, xpk_succ cd_264_13, xpk_succ cd_264_14, xpk_succ cd_264_15, Mc_k, (K_76 hJ), (K_77 hJ), (K_79 hJ), (Mc_0 hJ), m2, (WE_e w1), b1, b0, m0, m1, sw, e]
  · refine xpk_sound (stops := []) (n := 40) ?_
    simp only [xpk_succ cd_264_114, xpk_succ cd_264_115, xpk_succ cd_264_116, xpk_succ cd_264_119, sk_0, sk_1, sk_2, sk_3, sk_4, sk_5, sk_6, sk_7, sk_8, sk_iadd, sk_isub, sk_imul, sk_iand, sk_ior, sk_ixor, sk_ishl, sk_ishr, sk_iushr, sk_idiv, sk_irem, sk_ineg, sk_ladd, sk_lsub, sk_lmul, sk_land, sk_lor, sk_ldiv, sk_lrem, sk_lneg, sk_lshl, sk_lshr, sk_i2l, sk_l2i, sk_lcmp, sk_dupI, sk_dupR, sk_dup2L, sk_dup2I, sk_popI, sk_ifeq, sk_ifne, sk_iflt, sk_ifge, sk_ifgt, sk_ifle, sk_iceq, sk_icne, sk_iclt, sk_icge, sk_icgt, sk_icle, sk_goto, sk_getf, sk_putf, sk_gets, sk_iald, sk_lald, sk_bald, sk_aald, sk_iast, sk_last, sk_bast, sk_aast, sk_alen, sk_newa, sk_newt, sk_new, sk_cs1, sk_cs2, sk_cs3, sk_cs4, sk_cs5, sk_cs6, sk_cv1, sk_cv2, sk_cv3, sk_cv4, sk_cv5, sk_cv6, sk_ci1, sk_ci2, sk_ci3, sk_ret0, sk_retI, sk_retL, sk_retR, sk_sw, sk_oin, sk_max, sk_min, sk_abs, lI_0, lI_s, lL_0, lL_s, lR_0, lR_s, vIo_e, vLo_e, vOo_e, stW_I, stW_L, stW_R, stW_0, stW_z, okSt_0, okSt_s, hV_eq, hK_eq, okF_0, okF_1, okF_3, is01_0, is01_1, is01_i, Int.toNat_natCast, Int.reduceEq, Int.reduceLE, Int.reduceLT, Int.reduceNeg, Nat.reduceLT, not_true_eq_false, not_false_eq_true, reduceIte, Option.toList, List.cons_append, List.nil_append, List.set_cons_zero, List.set_cons_succ, List.not_mem_nil, List.mem_cons, if_false, if_true, ite_true, ite_false, and_self, and_true, true_and, Nat.reduceAdd, Nat.reduceLeDiff, Nat.reduceEqDiff, Nat.zero_add, Nat.le_refl, Nat.zero_le, or_false, false_or, Int.reduceToNat, or_true, true_or, eq_self, and_false, false_and, inR_d, nc_4, nc_5, nc_6, nc_7, nc_8, nc_16, nc_18, nc_20, nc_24, nc_32, nc_40, nc_64, nc_104, nc_120, nc_160, nc_256, nc_300, nc_330, nc_390, nc_1200, nc_1260, nc_3012, nc_9834, okSt_1i, okSt_1r, okSt_1n, List.length_cons, List.length_nil, xpk_succ cd_264_0, xpk_succ cd_264_1, xpk_succ cd_264_4, xpk_succ cd_264_5, xpk_succ cd_264_6, xpk_succ cd_264_7, xpk_succ cd_264_8, xpk_succ cd_264_9, xpk_succ cd_264_10, xpk_succ cd_264_13, xpk_succ cd_264_14, xpk_succ cd_264_15, Mc_k, (K_76 hJ), (K_77 hJ), (K_79 hJ), (Mc_0 hJ), m2, (WE_e w1), b1, b0, m0, m1, sw, e]
set_option maxHeartbeats 2000000 in
theorem isW_9 {h : AH} {am : Nat → Int} {s : SCM} {d p : Nat} {v r : Int} {g : AH} (hJ : k_H JB h) (m0 : hV (Mc h am s) 79 p = vI 9) (m1 : hV (Mc h am s) 79 (p + 1) = vI v) (hp : p + 6 ≤ 3012) (hr : r = 0 ∨ r = 1) (e : ∀ Q : Option AV → AH → Prop, XC (d + 10) 261 [vR 76, vI v] (Mc h am s) Q = Q (some (vI r)) g) (Q : Option AV → AH → Prop) : XC (d + 11) 264 [vR 76, vI (p : Int)] (Mc h am s) Q = Q (some (vI r)) g := by
  refine XC_eq (Nat.le_of_ble_eq_true rfl) ?_ Q
  show XP (d + 10) 264 0 [some (vR 76), some (vI (p : Int)), none] [] (Mc h am s) _
  have m2 : hV (Mc h am s) 76 2 = vR 79 := (Mc_n (by decide) (by decide) (Or.inr ⟨by decide, by decide⟩) (by decide) (by decide)).trans (F_76_2 hJ)
  have w1 : WE ((p : Int) + 1) ((p + 1 : Nat) : Int) := by unfold WE w32; omega
  have b1 : (0 : Int) ≤ ((p + 1 : Nat) : Int) ∧ ((p + 1 : Nat) : Int) < 3012 := by omega
  have b0 : (0 : Int) ≤ (p : Int) ∧ (p : Int) < 3012 := by omega
  have sw : swF 9 145 [(5, 56), (6, 102), (7, 108), (8, 114), (9, 120), (10, 126), (11, 132)] = 120 := by decide
  rcases hr with rfl | rfl
  · refine xpk_sound (stops := []) (n := 40) ?_
    simp only [xpk_succ cd_264_120, xpk_succ cd_264_121, xpk_succ cd_264_122, xpk_succ cd_264_125, sk_0, sk_1, sk_2, sk_3, sk_4, sk_5, sk_6, sk_7, sk_8, sk_iadd, sk_isub, sk_imul, sk_iand, sk_ior, sk_ixor, sk_ishl, sk_ishr, sk_iushr, sk_idiv, sk_irem, sk_ineg, sk_ladd, sk_lsub, sk_lmul, sk_land, sk_lor, sk_ldiv, sk_lrem, sk_lneg, sk_lshl, sk_lshr, sk_i2l, sk_l2i, sk_lcmp, sk_dupI, sk_dupR, sk_dup2L, sk_dup2I, sk_popI, sk_ifeq, sk_ifne, sk_iflt, sk_ifge, sk_ifgt, sk_ifle, sk_iceq, sk_icne, sk_iclt, sk_icge, sk_icgt, sk_icle, sk_goto, sk_getf, sk_putf, sk_gets, sk_iald, sk_lald, sk_bald, sk_aald, sk_iast, sk_last, sk_bast, sk_aast, sk_alen, sk_newa, sk_newt, sk_new, sk_cs1, sk_cs2, sk_cs3, sk_cs4, sk_cs5, sk_cs6, sk_cv1, sk_cv2, sk_cv3, sk_cv4, sk_cv5, sk_cv6, sk_ci1, sk_ci2, sk_ci3, sk_ret0, sk_retI, sk_retL, sk_retR, sk_sw, sk_oin, sk_max, sk_min, sk_abs, lI_0, lI_s, lL_0, lL_s, lR_0, lR_s, vIo_e, vLo_e, vOo_e, stW_I, stW_L, stW_R, stW_0, stW_z, okSt_0, okSt_s, hV_eq, hK_eq, okF_0, okF_1, okF_3, is01_0, is01_1, is01_i, Int.toNat_natCast, Int.reduceEq, Int.reduceLE, Int.reduceLT, Int.reduceNeg, Nat.reduceLT, not_true_eq_false, not_false_eq_true, reduceIte, Option.toList, List.cons_append, List.nil_append, List.set_cons_zero, List.set_cons_succ, List.not_mem_nil, List.mem_cons, if_false, if_true, ite_true, ite_false, and_self, and_true, true_and, Nat.reduceAdd, Nat.reduceLeDiff, Nat.reduceEqDiff, Nat.zero_add, Nat.le_refl, Nat.zero_le, or_false, false_or, Int.reduceToNat, or_true, true_or, eq_self, and_false, false_and, inR_d, nc_4, nc_5, nc_6, nc_7, nc_8, nc_16, nc_18, nc_20, nc_24, nc_32, nc_40, nc_64, nc_104, nc_120, nc_160, nc_256, nc_300, nc_330, nc_390, nc_1200, nc_1260, nc_3012, nc_9834, okSt_1i, okSt_1r, okSt_1n, List.length_cons, List.length_nil, xpk_succ cd_264_0, xpk_succ cd_264_1, xpk_succ cd_264_4, xpk_succ cd_264_5, xpk_succ cd_264_6, xpk_succ cd_264_7, xpk_succ cd_264_8, xpk_succ cd_264_9, xpk_succ cd_264_10, xpk_succ cd_264_13, xpk_succ cd_264_14, xpk_succ cd_264_15, Mc_k, (K_76 hJ), (K_77 hJ), (K_79 hJ), (Mc_0 hJ), m2, (WE_e w1), b1, b0, m0, m1, sw, e]
  · refine xpk_sound (stops := []) (n := 40) ?_
    simp only [xpk_succ cd_264_120, xpk_succ cd_264_121, xpk_succ cd_264_122, xpk_succ cd_264_125, sk_0, sk_1, sk_2, sk_3, sk_4, sk_5, sk_6, sk_7, sk_8, sk_iadd, sk_isub, sk_imul, sk_iand, sk_ior, sk_ixor, sk_ishl, sk_ishr, sk_iushr, sk_idiv, sk_irem, sk_ineg, sk_ladd, sk_lsub, sk_lmul, sk_land, sk_lor, sk_ldiv, sk_lrem, sk_lneg, sk_lshl, sk_lshr, sk_i2l, sk_l2i, sk_lcmp, sk_dupI, sk_dupR, sk_dup2L, sk_dup2I, sk_popI, sk_ifeq, sk_ifne, sk_iflt, sk_ifge, sk_ifgt, sk_ifle, sk_iceq, sk_icne, sk_iclt, sk_icge, sk_icgt, sk_icle, sk_goto, sk_getf, sk_putf, sk_gets, sk_iald, sk_lald, sk_bald, sk_aald, sk_iast, sk_last, sk_bast, sk_aast, sk_alen, sk_newa, sk_newt, sk_new, sk_cs1, sk_cs2, sk_cs3, sk_cs4, sk_cs5, sk_cs6, sk_cv1, sk_cv2, sk_cv3, sk_cv4, sk_cv5, sk_cv6, sk_ci1, sk_ci2, sk_ci3, sk_ret0, sk_retI, sk_retL, sk_retR, sk_sw, sk_oin, sk_max, sk_min, sk_abs, lI_0, lI_s, lL_0, lL_s, lR_0, lR_s, vIo_e, vLo_e, vOo_e, stW_I, stW_L, stW_R, stW_0, stW_z, okSt_0, okSt_s, hV_eq, hK_eq, okF_0, okF_1, okF_3, is01_0, is01_1, is01_i, Int.toNat_natCast, Int.reduceEq, Int.reduceLE, Int.reduceLT, Int.reduceNeg, Nat.reduceLT, not_true_eq_false, not_false_eq_true, reduceIte, Option.toList, List.cons_append, List.nil_append, List.set_cons_zero, List.set_cons_succ, List.not_mem_nil, List.mem_cons, if_false, if_true, ite_true, ite_false, and_self, and_true, true_and, Nat.reduceAdd, Nat.reduceLeDiff, Nat.reduceEqDiff, Nat.zero_add, Nat.le_refl, Nat.zero_le, or_false, false_or, Int.reduceToNat, or_true, true_or, eq_self, and_false, false_and, inR_d, nc_4, nc_5, nc_6, nc_7, nc_8, nc_16, nc_18, nc_20, nc_24, nc_32, nc_40, nc_64, nc_104, nc_120, nc_160, nc_256, nc_300, nc_330, nc_390, nc_1200, nc_1260, nc_3012, nc_9834, okSt_1i, okSt_1r, okSt_1n, List.length_cons, List.length_nil, xpk_succ cd_264_0, xpk_succ cd_264_1, xpk_succ cd_264_4, xpk_succ cd_264_5, xpk_succ cd_264_6, xpk_succ cd_264_7, xpk_succ cd_264_8, xpk_succ cd_264_9, xpk_succ cd_264_10, xpk_succ cd_264_13, xpk_succ cd_264_14, xpk_succ cd_264_15, Mc_k, (K_76 hJ), (K_77 hJ), (K_79 hJ), (Mc_0 hJ), m2, (WE_e w1), b1, b0, m0, m1, sw, e]
set_option maxHeartbeats 2000000 in
theorem isW_10 {h : AH} {am : Nat → Int} {s : SCM} {d p : Nat} {v r : Int} {g : AH} (hJ : k_H JB h) (m0 : hV (Mc h am s) 79 p = vI 10) (m1 : hV (Mc h am s) 79 (p + 1) = vI v) (hp : p + 6 ≤ 3012) (hr : r = 0 ∨ r = 1) (e : ∀ Q : Option AV → AH → Prop, XC (d + 10) 262 [vR 76, vI v] (Mc h am s) Q = Q (some (vI r)) g) (Q : Option AV → AH → Prop) : XC (d + 11) 264 [vR 76, vI (p : Int)] (Mc h am s) Q = Q (some (vI r)) g := by
  refine XC_eq (Nat.le_of_ble_eq_true rfl) ?_ Q
  show XP (d + 10) 264 0 [some (vR 76), some (vI (p : Int)), none] [] (Mc h am s) _
  have m2 : hV (Mc h am s) 76 2 = vR 79 := (Mc_n (by decide) (by decide) (Or.inr ⟨by decide, by decide⟩) (by decide) (by decide)).trans (F_76_2 hJ)
  have w1 : WE ((p : Int) + 1) ((p + 1 : Nat) : Int) := by unfold WE w32; omega
  have b1 : (0 : Int) ≤ ((p + 1 : Nat) : Int) ∧ ((p + 1 : Nat) : Int) < 3012 := by omega
  have b0 : (0 : Int) ≤ (p : Int) ∧ (p : Int) < 3012 := by omega
  have sw : swF 10 145 [(5, 56), (6, 102), (7, 108), (8, 114), (9, 120), (10, 126), (11, 132)] = 126 := by decide
  rcases hr with rfl | rfl
  · refine xpk_sound (stops := []) (n := 40) ?_
    simp only [xpk_succ cd_264_126, xpk_succ cd_264_127, xpk_succ cd_264_128, xpk_succ cd_264_131, sk_0, sk_1, sk_2, sk_3, sk_4, sk_5, sk_6, sk_7, sk_8, sk_iadd, sk_isub, sk_imul, sk_iand, sk_ior, sk_ixor, sk_ishl, sk_ishr, sk_iushr, sk_idiv, sk_irem, sk_ineg, sk_ladd, sk_lsub, sk_lmul, sk_land, sk_lor, sk_ldiv, sk_lrem, sk_lneg, sk_lshl, sk_lshr, sk_i2l, sk_l2i, sk_lcmp, sk_dupI, sk_dupR, sk_dup2L, sk_dup2I, sk_popI, sk_ifeq, sk_ifne, sk_iflt, sk_ifge, sk_ifgt, sk_ifle, sk_iceq, sk_icne, sk_iclt, sk_icge, sk_icgt, sk_icle, sk_goto, sk_getf, sk_putf, sk_gets, sk_iald, sk_lald, sk_bald, sk_aald, sk_iast, sk_last, sk_bast, sk_aast, sk_alen, sk_newa, sk_newt, sk_new, sk_cs1, sk_cs2, sk_cs3, sk_cs4, sk_cs5, sk_cs6, sk_cv1, sk_cv2, sk_cv3, sk_cv4, sk_cv5, sk_cv6, sk_ci1, sk_ci2, sk_ci3, sk_ret0, sk_retI, sk_retL, sk_retR, sk_sw, sk_oin, sk_max, sk_min, sk_abs, lI_0, lI_s, lL_0, lL_s, lR_0, lR_s, vIo_e, vLo_e, vOo_e, stW_I, stW_L, stW_R, stW_0, stW_z, okSt_0, okSt_s, hV_eq, hK_eq, okF_0, okF_1, okF_3, is01_0, is01_1, is01_i, Int.toNat_natCast, Int.reduceEq, Int.reduceLE, Int.reduceLT, Int.reduceNeg, Nat.reduceLT, not_true_eq_false, not_false_eq_true, reduceIte, Option.toList, List.cons_append, List.nil_append, List.set_cons_zero, List.set_cons_succ, List.not_mem_nil, List.mem_cons, if_false, if_true, ite_true, ite_false, and_self, and_true, true_and, Nat.reduceAdd, Nat.reduceLeDiff, Nat.reduceEqDiff, Nat.zero_add, Nat.le_refl, Nat.zero_le, or_false, false_or, Int.reduceToNat, or_true, true_or, eq_self, and_false, false_and, inR_d, nc_4, nc_5, nc_6, nc_7, nc_8, nc_16, nc_18, nc_20, nc_24, nc_32, nc_40, nc_64, nc_104, nc_120, nc_160, nc_256, nc_300, nc_330, nc_390, nc_1200, nc_1260, nc_3012, nc_9834, okSt_1i, okSt_1r, okSt_1n, List.length_cons, List.length_nil, xpk_succ cd_264_0, xpk_succ cd_264_1, xpk_succ cd_264_4, xpk_succ cd_264_5, xpk_succ cd_264_6, xpk_succ cd_264_7, xpk_succ cd_264_8, xpk_succ cd_264_9, xpk_succ cd_264_10, xpk_succ cd_264_13, xpk_succ cd_264_14, xpk_succ cd_264_15, Mc_k, (K_76 hJ), (K_77 hJ), (K_79 hJ), (Mc_0 hJ), m2, (WE_e w1), b1, b0, m0, m1, sw, e]
  · refine xpk_sound (stops := []) (n := 40) ?_
    simp only [xpk_succ cd_264_126, xpk_succ cd_264_127, xpk_succ cd_264_128, xpk_succ cd_264_131, sk_0, sk_1, sk_2, sk_3, sk_4, sk_5, sk_6, sk_7, sk_8, sk_iadd, sk_isub, sk_imul, sk_iand, sk_ior, sk_ixor, sk_ishl, sk_ishr, sk_iushr, sk_idiv, sk_irem, sk_ineg, sk_ladd, sk_lsub, sk_lmul, sk_land, sk_lor, sk_ldiv, sk_lrem, sk_lneg, sk_lshl, sk_lshr, sk_i2l, sk_l2i, sk_lcmp, sk_dupI, sk_dupR, sk_dup2L, sk_dup2I, sk_popI, sk_ifeq, sk_ifne, sk_iflt, sk_ifge, sk_ifgt, sk_ifle, sk_iceq, sk_icne, sk_iclt, sk_icge, sk_icgt, sk_icle, sk_goto, sk_getf, sk_putf, sk_gets, sk_iald, sk_lald, sk_bald, sk_aald, sk_iast, sk_last, sk_bast, sk_aast, sk_alen, sk_newa, sk_newt, sk_new, sk_cs1, sk_cs2, sk_cs3, sk_cs4, sk_cs5, sk_cs6, sk_cv1, sk_cv2, sk_cv3, sk_cv4, sk_cv5, sk_cv6, sk_ci1, sk_ci2, sk_ci3, sk_ret0, sk_retI, sk_retL, sk_retR, sk_sw, sk_oin, sk_max, sk_min, sk_abs, lI_0, lI_s, lL_0, lL_s, lR_0, lR_s, vIo_e, vLo_e, vOo_e, stW_I, stW_L, stW_R, stW_0, stW_z, okSt_0, okSt_s, hV_eq, hK_eq, okF_0, okF_1, okF_3, is01_0, is01_1, is01_i, Int.toNat_natCast, Int.reduceEq, Int.reduceLE, Int.reduceLT, Int.reduceNeg, Nat.reduceLT, not_true_eq_false, not_false_eq_true, reduceIte, Option.toList, List.cons_append, List.nil_append, List.set_cons_zero, List.set_cons_succ, List.not_mem_nil, List.mem_cons, if_false, if_true, ite_true, ite_false, and_self, and_true, true_and, Nat.reduceAdd, Nat.reduceLeDiff, Nat.reduceEqDiff, Nat.zero_add, Nat.le_refl, Nat.zero_le, or_false, false_or, Int.reduceToNat, or_true, true_or, eq_self, and_false, false_and, inR_d, nc_4, nc_5, nc_6, nc_7, nc_8, nc_16, nc_18, nc_20, nc_24, nc_32, nc_40, nc_64, nc_104, nc_120, nc_160, nc_256, nc_300, nc_330, nc_390, nc_1200, nc_1260, nc_3012, nc_9834, okSt_1i, okSt_1r, okSt_1n, List.length_cons, List.length_nil, xpk_succ cd_264_0, xpk_succ cd_264_1, xpk_succ cd_264_4, xpk_succ cd_264_5, xpk_succ cd_264_6, xpk_succ cd_264_7, xpk_succ cd_264_8, xpk_succ cd_264_9, xpk_succ cd_264_10, xpk_succ cd_264_13, xpk_succ cd_264_14, xpk_succ cd_264_15, Mc_k, (K_76 hJ), (K_77 hJ), (K_79 hJ), (Mc_0 hJ), m2, (WE_e w1), b1, b0, m0, m1, sw, e]
set_option maxHeartbeats 2000000 in
theorem isW_5a {h : AH} {am : Nat → Int} {s : SCM} {d p n : Nat} {v0 v1 v2 v3 v4 : Int} {g : AH} (hJ : k_H JB h) (m0 : hV (Mc h am s) 79 p = vI 5) (n1 : hV (Mc h am s) 79 (p + 1) = vI v0) (n2 : hV (Mc h am s) 79 (p + 2) = vI v1) (n3 : hV (Mc h am s) 79 (p + 3) = vI v2) (n4 : hV (Mc h am s) 79 (p + 4) = vI v3) (n5 : hV (Mc h am s) 79 (p + 5) = vI v4) (hp : p + 6 ≤ 3012) (e : ∀ Q : Option AV → AH → Prop, XC (d + 10) 189 [vR 76, vI v0, vI v1, vI v2, vI v3, vI v4] (Mc h am s) Q = Q (some (vI ((n : Nat) : Int))) g) (Q : Option AV → AH → Prop) : XC (d + 11) 264 [vR 76, vI (p : Int)] (Mc h am s) Q = Q (some (vI 1)) g := by
  refine XC_eq (Nat.le_of_ble_eq_true rfl) ?_ Q
  show XP (d + 10) 264 0 [some (vR 76), some (vI (p : Int)), none] [] (Mc h am s) _
  have m2 : hV (Mc h am s) 76 2 = vR 79 := (Mc_n (by decide) (by decide) (Or.inr ⟨by decide, by decide⟩) (by decide) (by decide)).trans (F_76_2 hJ)
  have w1 : WE ((p : Int) + 1) ((p + 1 : Nat) : Int) := by unfold WE w32; omega
  have b1 : (0 : Int) ≤ ((p + 1 : Nat) : Int) ∧ ((p + 1 : Nat) : Int) < 3012 := by omega
  have w2 : WE ((p : Int) + 2) ((p + 2 : Nat) : Int) := by unfold WE w32; omega
  have b2 : (0 : Int) ≤ ((p + 2 : Nat) : Int) ∧ ((p + 2 : Nat) : Int) < 3012 := by omega
  have w3 : WE ((p : Int) + 3) ((p + 3 : Nat) : Int) := by unfold WE w32; omega
  have b3 : (0 : Int) ≤ ((p + 3 : Nat) : Int) ∧ ((p + 3 : Nat) : Int) < 3012 := by omega
  have w4 : WE ((p : Int) + 4) ((p + 4 : Nat) : Int) := by unfold WE w32; omega
  have b4 : (0 : Int) ≤ ((p + 4 : Nat) : Int) ∧ ((p + 4 : Nat) : Int) < 3012 := by omega
  have w5 : WE ((p : Int) + 5) ((p + 5 : Nat) : Int) := by unfold WE w32; omega
  have b5 : (0 : Int) ≤ ((p + 5 : Nat) : Int) ∧ ((p + 5 : Nat) : Int) < 3012 := by omega
  have b0 : (0 : Int) ≤ (p : Int) ∧ (p : Int) < 3012 := by omega
  have sw : swF 5 145 [(5, 56), (6, 102), (7, 108), (8, 114), (9, 120), (10, 126), (11, 132)] = 56 := by decide
  have z1 : ¬ ((n : Int) < 0) := by omega
  have z2 : (0 : Int) ≤ (n : Int) := Int.natCast_nonneg n
  refine xpk_sound (stops := []) (n := 80) ?_
  simp only [sk_0, sk_1, sk_2, sk_3, sk_4, sk_5, sk_6, sk_7, sk_8, sk_iadd, sk_isub, sk_imul, sk_iand, sk_ior, sk_ixor, sk_ishl, sk_ishr, sk_iushr, sk_idiv, sk_irem, sk_ineg, sk_ladd, sk_lsub, sk_lmul, sk_land, sk_lor, sk_ldiv, sk_lrem, sk_lneg, sk_lshl, sk_lshr, sk_i2l, sk_l2i, sk_lcmp, sk_dupI, sk_dupR, sk_dup2L, sk_dup2I, sk_popI, sk_ifeq, sk_ifne, sk_iflt, sk_ifge, sk_ifgt, sk_ifle, sk_iceq, sk_icne, sk_iclt, sk_icge, sk_icgt, sk_icle, sk_goto, sk_getf, sk_putf, sk_gets, sk_iald, sk_lald, sk_bald, sk_aald, sk_iast, sk_last, sk_bast, sk_aast, sk_alen, sk_newa, sk_newt, sk_new, sk_cs1, sk_cs2, sk_cs3, sk_cs4, sk_cs5, sk_cs6, sk_cv1, sk_cv2, sk_cv3, sk_cv4, sk_cv5, sk_cv6, sk_ci1, sk_ci2, sk_ci3, sk_ret0, sk_retI, sk_retL, sk_retR, sk_sw, sk_oin, sk_max, sk_min, sk_abs, lI_0, lI_s, lL_0, lL_s, lR_0, lR_s, vIo_e, vLo_e, vOo_e, stW_I, stW_L, stW_R, stW_0, stW_z, okSt_0, okSt_s, hV_eq, hK_eq, okF_0, okF_1, okF_3, is01_0, is01_1, is01_i, Int.toNat_natCast, Int.reduceEq, Int.reduceLE, Int.reduceLT, Int.reduceNeg, Nat.reduceLT, not_true_eq_false, not_false_eq_true, reduceIte, Option.toList, List.cons_append, List.nil_append, List.set_cons_zero, List.set_cons_succ, List.not_mem_nil, List.mem_cons, if_false, if_true, ite_true, ite_false, and_self, and_true, true_and, Nat.reduceAdd, Nat.reduceLeDiff, Nat.reduceEqDiff, Nat.zero_add, Nat.le_refl, Nat.zero_le, or_false, false_or, Int.reduceToNat, or_true, true_or, eq_self, and_false, false_and, inR_d, nc_4, nc_5, nc_6, nc_7, nc_8, nc_16, nc_18, nc_20, nc_24, nc_32, nc_40, nc_64, nc_104, nc_120, nc_160, nc_256, nc_300, nc_330, nc_390, nc_1200, nc_1260, nc_3012, nc_9834, okSt_1i, okSt_1r, okSt_1n, List.length_cons, List.length_nil, xpk_succ cd_264_0, xpk_succ cd_264_1, xpk_succ cd_264_4, xpk_succ cd_264_5, xpk_succ cd_264_6, xpk_succ cd_264_7, xpk_succ cd_264_8, xpk_succ cd_264_9, xpk_succ cd_264_10, xpk_succ cd_264_13, xpk_succ cd_264_14, xpk_succ cd_264_15, xpk_succ cd_264_56, xpk_succ cd_264_57, xpk_succ cd_264_58, xpk_succ cd_264_59, xpk_succ cd_264_62, xpk_succ cd_264_63, xpk_succ cd_264_64, xpk_succ cd_264_65, xpk_succ cd_264_66, xpk_succ cd_264_67, xpk_succ cd_264_70, xpk_succ cd_264_71, xpk_succ cd_264_72, xpk_succ cd_264_73, xpk_succ cd_264_74, xpk_succ cd_264_75, xpk_succ cd_264_78, xpk_succ cd_264_79, xpk_succ cd_264_80, xpk_succ cd_264_81, xpk_succ cd_264_82, xpk_succ cd_264_83, xpk_succ cd_264_86, xpk_succ cd_264_87, xpk_succ cd_264_88, xpk_succ cd_264_89, xpk_succ cd_264_90, xpk_succ cd_264_93, xpk_succ cd_264_96, xpk_succ cd_264_97, xpk_succ cd_264_100, xpk_succ cd_264_101, Mc_k, (K_76 hJ), (K_77 hJ), (K_79 hJ), (Mc_0 hJ), m2, (WE_e w1), (WE_e w2), (WE_e w3), (WE_e w4), (WE_e w5), b1, b2, b3, b4, b5, b0, m0, n1, n2, n3, n4, n5, sw, e, z1, z2]
set_option maxHeartbeats 2000000 in
theorem isW_5b {h : AH} {am : Nat → Int} {s : SCM} {d p n : Nat} {v0 v1 v2 v3 v4 : Int} {g : AH} (hJ : k_H JB h) (m0 : hV (Mc h am s) 79 p = vI 5) (n1 : hV (Mc h am s) 79 (p + 1) = vI v0) (n2 : hV (Mc h am s) 79 (p + 2) = vI v1) (n3 : hV (Mc h am s) 79 (p + 3) = vI v2) (n4 : hV (Mc h am s) 79 (p + 4) = vI v3) (n5 : hV (Mc h am s) 79 (p + 5) = vI v4) (hp : p + 6 ≤ 3012) (e : ∀ Q : Option AV → AH → Prop, XC (d + 10) 189 [vR 76, vI v0, vI v1, vI v2, vI v3, vI v4] (Mc h am s) Q = Q (some (vI (-1))) g) (Q : Option AV → AH → Prop) : XC (d + 11) 264 [vR 76, vI (p : Int)] (Mc h am s) Q = Q (some (vI 0)) g := by
  refine XC_eq (Nat.le_of_ble_eq_true rfl) ?_ Q
  show XP (d + 10) 264 0 [some (vR 76), some (vI (p : Int)), none] [] (Mc h am s) _
  have m2 : hV (Mc h am s) 76 2 = vR 79 := (Mc_n (by decide) (by decide) (Or.inr ⟨by decide, by decide⟩) (by decide) (by decide)).trans (F_76_2 hJ)
  have w1 : WE ((p : Int) + 1) ((p + 1 : Nat) : Int) := by unfold WE w32; omega
  have b1 : (0 : Int) ≤ ((p + 1 : Nat) : Int) ∧ ((p + 1 : Nat) : Int) < 3012 := by omega
  have w2 : WE ((p : Int) + 2) ((p + 2 : Nat) : Int) := by unfold WE w32; omega
  have b2 : (0 : Int) ≤ ((p + 2 : Nat) : Int) ∧ ((p + 2 : Nat) : Int) < 3012 := by omega
  have w3 : WE ((p : Int) + 3) ((p + 3 : Nat) : Int) := by unfold WE w32; omega
  have b3 : (0 : Int) ≤ ((p + 3 : Nat) : Int) ∧ ((p + 3 : Nat) : Int) < 3012 := by omega
  have w4 : WE ((p : Int) + 4) ((p + 4 : Nat) : Int) := by unfold WE w32; omega
  have b4 : (0 : Int) ≤ ((p + 4 : Nat) : Int) ∧ ((p + 4 : Nat) : Int) < 3012 := by omega
  have w5 : WE ((p : Int) + 5) ((p + 5 : Nat) : Int) := by unfold WE w32; omega
  have b5 : (0 : Int) ≤ ((p + 5 : Nat) : Int) ∧ ((p + 5 : Nat) : Int) < 3012 := by omega
  have b0 : (0 : Int) ≤ (p : Int) ∧ (p : Int) < 3012 := by omega
  have sw : swF 5 145 [(5, 56), (6, 102), (7, 108), (8, 114), (9, 120), (10, 126), (11, 132)] = 56 := by decide
  refine xpk_sound (stops := []) (n := 80) ?_
  simp only [sk_0, sk_1, sk_2, sk_3, sk_4, sk_5, sk_6, sk_7, sk_8, sk_iadd, sk_isub, sk_imul, sk_iand, sk_ior, sk_ixor, sk_ishl, sk_ishr, sk_iushr, sk_idiv, sk_irem, sk_ineg, sk_ladd, sk_lsub, sk_lmul, sk_land, sk_lor, sk_ldiv, sk_lrem, sk_lneg, sk_lshl, sk_lshr, sk_i2l, sk_l2i, sk_lcmp, sk_dupI, sk_dupR, sk_dup2L, sk_dup2I, sk_popI, sk_ifeq, sk_ifne, sk_iflt, sk_ifge, sk_ifgt, sk_ifle, sk_iceq, sk_icne, sk_iclt, sk_icge, sk_icgt, sk_icle, sk_goto, sk_getf, sk_putf, sk_gets, sk_iald, sk_lald, sk_bald, sk_aald, sk_iast, sk_last, sk_bast, sk_aast, sk_alen, sk_newa, sk_newt, sk_new, sk_cs1, sk_cs2, sk_cs3, sk_cs4, sk_cs5, sk_cs6, sk_cv1, sk_cv2, sk_cv3, sk_cv4, sk_cv5, sk_cv6, sk_ci1, sk_ci2, sk_ci3, sk_ret0, sk_retI, sk_retL, sk_retR, sk_sw, sk_oin, sk_max, sk_min, sk_abs, lI_0, lI_s, lL_0, lL_s, lR_0, lR_s, vIo_e, vLo_e, vOo_e, stW_I, stW_L, stW_R, stW_0, stW_z, okSt_0, okSt_s, hV_eq, hK_eq, okF_0, okF_1, okF_3, is01_0, is01_1, is01_i, Int.toNat_natCast, Int.reduceEq, Int.reduceLE, Int.reduceLT, Int.reduceNeg, Nat.reduceLT, not_true_eq_false, not_false_eq_true, reduceIte, Option.toList, List.cons_append, List.nil_append, List.set_cons_zero, List.set_cons_succ, List.not_mem_nil, List.mem_cons, if_false, if_true, ite_true, ite_false, and_self, and_true, true_and, Nat.reduceAdd, Nat.reduceLeDiff, Nat.reduceEqDiff, Nat.zero_add, Nat.le_refl, Nat.zero_le, or_false, false_or, Int.reduceToNat, or_true, true_or, eq_self, and_false, false_and, inR_d, nc_4, nc_5, nc_6, nc_7, nc_8, nc_16, nc_18, nc_20, nc_24, nc_32, nc_40, nc_64, nc_104, nc_120, nc_160, nc_256, nc_300, nc_330, nc_390, nc_1200, nc_1260, nc_3012, nc_9834, okSt_1i, okSt_1r, okSt_1n, List.length_cons, List.length_nil, xpk_succ cd_264_0, xpk_succ cd_264_1, xpk_succ cd_264_4, xpk_succ cd_264_5, xpk_succ cd_264_6, xpk_succ cd_264_7, xpk_succ cd_264_8, xpk_succ cd_264_9, xpk_succ cd_264_10, xpk_succ cd_264_13, xpk_succ cd_264_14, xpk_succ cd_264_15, xpk_succ cd_264_56, xpk_succ cd_264_57, xpk_succ cd_264_58, xpk_succ cd_264_59, xpk_succ cd_264_62, xpk_succ cd_264_63, xpk_succ cd_264_64, xpk_succ cd_264_65, xpk_succ cd_264_66, xpk_succ cd_264_67, xpk_succ cd_264_70, xpk_succ cd_264_71, xpk_succ cd_264_72, xpk_succ cd_264_73, xpk_succ cd_264_74, xpk_succ cd_264_75, xpk_succ cd_264_78, xpk_succ cd_264_79, xpk_succ cd_264_80, xpk_succ cd_264_81, xpk_succ cd_264_82, xpk_succ cd_264_83, xpk_succ cd_264_86, xpk_succ cd_264_87, xpk_succ cd_264_88, xpk_succ cd_264_89, xpk_succ cd_264_90, xpk_succ cd_264_93, xpk_succ cd_264_96, xpk_succ cd_264_97, xpk_succ cd_264_100, xpk_succ cd_264_101, Mc_k, (K_76 hJ), (K_77 hJ), (K_79 hJ), (Mc_0 hJ), m2, (WE_e w1), (WE_e w2), (WE_e w3), (WE_e w4), (WE_e w5), b1, b2, b3, b4, b5, b0, m0, n1, n2, n3, n4, n5, sw, e]
set_option maxHeartbeats 2000000 in
theorem isW_11a {h : AH} {am : Nat → Int} {s : SCM} {d p n : Nat} {v : Int} {g : AH} (hJ : k_H JB h) (m0 : hV (Mc h am s) 79 p = vI 11) (m1 : hV (Mc h am s) 79 (p + 1) = vI v) (hp : p + 6 ≤ 3012) (e : ∀ Q : Option AV → AH → Prop, XC (d + 10) 263 [vR 76] (Mc h am s) Q = Q (some (vI ((n : Nat) : Int))) g) (Q : Option AV → AH → Prop) : XC (d + 11) 264 [vR 76, vI (p : Int)] (Mc h am s) Q = Q (some (vI 1)) g := by
  refine XC_eq (Nat.le_of_ble_eq_true rfl) ?_ Q
  show XP (d + 10) 264 0 [some (vR 76), some (vI (p : Int)), none] [] (Mc h am s) _
  have m2 : hV (Mc h am s) 76 2 = vR 79 := (Mc_n (by decide) (by decide) (Or.inr ⟨by decide, by decide⟩) (by decide) (by decide)).trans (F_76_2 hJ)
  have w1 : WE ((p : Int) + 1) ((p + 1 : Nat) : Int) := by unfold WE w32; omega
  have b1 : (0 : Int) ≤ ((p + 1 : Nat) : Int) ∧ ((p + 1 : Nat) : Int) < 3012 := by omega
  have b0 : (0 : Int) ≤ (p : Int) ∧ (p : Int) < 3012 := by omega
  have sw : swF 11 145 [(5, 56), (6, 102), (7, 108), (8, 114), (9, 120), (10, 126), (11, 132)] = 132 := by decide
  have z1 : ¬ ((n : Int) < 0) := by omega
  have z2 : (0 : Int) ≤ (n : Int) := Int.natCast_nonneg n
  refine xpk_sound (stops := []) (n := 50) ?_
  simp only [xpk_succ cd_264_132, xpk_succ cd_264_133, xpk_succ cd_264_136, xpk_succ cd_264_139, xpk_succ cd_264_140, xpk_succ cd_264_143, xpk_succ cd_264_144, sk_0, sk_1, sk_2, sk_3, sk_4, sk_5, sk_6, sk_7, sk_8, sk_iadd, sk_isub, sk_imul, sk_iand, sk_ior, sk_ixor, sk_ishl, sk_ishr, sk_iushr, sk_idiv, sk_irem, sk_ineg, sk_ladd, sk_lsub, sk_lmul, sk_land, sk_lor, sk_ldiv, sk_lrem, sk_lneg, sk_lshl, sk_lshr, sk_i2l, sk_l2i, sk_lcmp, sk_dupI, sk_dupR, sk_dup2L, sk_dup2I, sk_popI, sk_ifeq, sk_ifne, sk_iflt, sk_ifge, sk_ifgt, sk_ifle, sk_iceq, sk_icne, sk_iclt, sk_icge, sk_icgt, sk_icle, sk_goto, sk_getf, sk_putf, sk_gets, sk_iald, sk_lald, sk_bald, sk_aald, sk_iast, sk_last, sk_bast, sk_aast, sk_alen, sk_newa, sk_newt, sk_new, sk_cs1, sk_cs2, sk_cs3, sk_cs4, sk_cs5, sk_cs6, sk_cv1, sk_cv2, sk_cv3, sk_cv4, sk_cv5, sk_cv6, sk_ci1, sk_ci2, sk_ci3, sk_ret0, sk_retI, sk_retL, sk_retR, sk_sw, sk_oin, sk_max, sk_min, sk_abs, lI_0, lI_s, lL_0, lL_s, lR_0, lR_s, vIo_e, vLo_e, vOo_e, stW_I, stW_L, stW_R, stW_0, stW_z, okSt_0, okSt_s, hV_eq, hK_eq, okF_0, okF_1, okF_3, is01_0, is01_1, is01_i, Int.toNat_natCast, Int.reduceEq, Int.reduceLE, Int.reduceLT, Int.reduceNeg, Nat.reduceLT, not_true_eq_false, not_false_eq_true, reduceIte, Option.toList, List.cons_append, List.nil_append, List.set_cons_zero, List.set_cons_succ, List.not_mem_nil, List.mem_cons, if_false, if_true, ite_true, ite_false, and_self, and_true, true_and, Nat.reduceAdd, Nat.reduceLeDiff, Nat.reduceEqDiff, Nat.zero_add, Nat.le_refl, Nat.zero_le, or_false, false_or, Int.reduceToNat, or_true, true_or, eq_self, and_false, false_and, inR_d, nc_4, nc_5, nc_6, nc_7, nc_8, nc_16, nc_18, nc_20, nc_24, nc_32, nc_40, nc_64, nc_104, nc_120, nc_160, nc_256, nc_300, nc_330, nc_390, nc_1200, nc_1260, nc_3012, nc_9834, okSt_1i, okSt_1r, okSt_1n, List.length_cons, List.length_nil, xpk_succ cd_264_0, xpk_succ cd_264_1, xpk_succ cd_264_4, xpk_succ cd_264_5, xpk_succ cd_264_6, xpk_succ cd_264_7, xpk_succ cd_264_8, xpk_succ cd_264_9, xpk_succ cd_264_10, xpk_succ cd_264_13, xpk_succ cd_264_14, xpk_succ cd_264_15, Mc_k, (K_76 hJ), (K_77 hJ), (K_79 hJ), (Mc_0 hJ), m2, (WE_e w1), b1, b0, m0, m1, sw, e, z1, z2]
set_option maxHeartbeats 2000000 in
theorem isW_11b {h : AH} {am : Nat → Int} {s : SCM} {d p n : Nat} {v : Int} {g : AH} (hJ : k_H JB h) (m0 : hV (Mc h am s) 79 p = vI 11) (m1 : hV (Mc h am s) 79 (p + 1) = vI v) (hp : p + 6 ≤ 3012) (e : ∀ Q : Option AV → AH → Prop, XC (d + 10) 263 [vR 76] (Mc h am s) Q = Q (some (vI (-1))) g) (Q : Option AV → AH → Prop) : XC (d + 11) 264 [vR 76, vI (p : Int)] (Mc h am s) Q = Q (some (vI 0)) g := by
  refine XC_eq (Nat.le_of_ble_eq_true rfl) ?_ Q
  show XP (d + 10) 264 0 [some (vR 76), some (vI (p : Int)), none] [] (Mc h am s) _
  have m2 : hV (Mc h am s) 76 2 = vR 79 := (Mc_n (by decide) (by decide) (Or.inr ⟨by decide, by decide⟩) (by decide) (by decide)).trans (F_76_2 hJ)
  have w1 : WE ((p : Int) + 1) ((p + 1 : Nat) : Int) := by unfold WE w32; omega
  have b1 : (0 : Int) ≤ ((p + 1 : Nat) : Int) ∧ ((p + 1 : Nat) : Int) < 3012 := by omega
  have b0 : (0 : Int) ≤ (p : Int) ∧ (p : Int) < 3012 := by omega
  have sw : swF 11 145 [(5, 56), (6, 102), (7, 108), (8, 114), (9, 120), (10, 126), (11, 132)] = 132 := by decide
  refine xpk_sound (stops := []) (n := 50) ?_
  simp only [xpk_succ cd_264_132, xpk_succ cd_264_133, xpk_succ cd_264_136, xpk_succ cd_264_139, xpk_succ cd_264_140, xpk_succ cd_264_143, xpk_succ cd_264_144, sk_0, sk_1, sk_2, sk_3, sk_4, sk_5, sk_6, sk_7, sk_8, sk_iadd, sk_isub, sk_imul, sk_iand, sk_ior, sk_ixor, sk_ishl, sk_ishr, sk_iushr, sk_idiv, sk_irem, sk_ineg, sk_ladd, sk_lsub, sk_lmul, sk_land, sk_lor, sk_ldiv, sk_lrem, sk_lneg, sk_lshl, sk_lshr, sk_i2l, sk_l2i, sk_lcmp, sk_dupI, sk_dupR, sk_dup2L, sk_dup2I, sk_popI, sk_ifeq, sk_ifne, sk_iflt, sk_ifge, sk_ifgt, sk_ifle, sk_iceq, sk_icne, sk_iclt, sk_icge, sk_icgt, sk_icle, sk_goto, sk_getf, sk_putf, sk_gets, sk_iald, sk_lald, sk_bald, sk_aald, sk_iast, sk_last, sk_bast, sk_aast, sk_alen, sk_newa, sk_newt, sk_new, sk_cs1, sk_cs2, sk_cs3, sk_cs4, sk_cs5, sk_cs6, sk_cv1, sk_cv2, sk_cv3, sk_cv4, sk_cv5, sk_cv6, sk_ci1, sk_ci2, sk_ci3, sk_ret0, sk_retI, sk_retL, sk_retR, sk_sw, sk_oin, sk_max, sk_min, sk_abs, lI_0, lI_s, lL_0, lL_s, lR_0, lR_s, vIo_e, vLo_e, vOo_e, stW_I, stW_L, stW_R, stW_0, stW_z, okSt_0, okSt_s, hV_eq, hK_eq, okF_0, okF_1, okF_3, is01_0, is01_1, is01_i, Int.toNat_natCast, Int.reduceEq, Int.reduceLE, Int.reduceLT, Int.reduceNeg, Nat.reduceLT, not_true_eq_false, not_false_eq_true, reduceIte, Option.toList, List.cons_append, List.nil_append, List.set_cons_zero, List.set_cons_succ, List.not_mem_nil, List.mem_cons, if_false, if_true, ite_true, ite_false, and_self, and_true, true_and, Nat.reduceAdd, Nat.reduceLeDiff, Nat.reduceEqDiff, Nat.zero_add, Nat.le_refl, Nat.zero_le, or_false, false_or, Int.reduceToNat, or_true, true_or, eq_self, and_false, false_and, inR_d, nc_4, nc_5, nc_6, nc_7, nc_8, nc_16, nc_18, nc_20, nc_24, nc_32, nc_40, nc_64, nc_104, nc_120, nc_160, nc_256, nc_300, nc_330, nc_390, nc_1200, nc_1260, nc_3012, nc_9834, okSt_1i, okSt_1r, okSt_1n, List.length_cons, List.length_nil, xpk_succ cd_264_0, xpk_succ cd_264_1, xpk_succ cd_264_4, xpk_succ cd_264_5, xpk_succ cd_264_6, xpk_succ cd_264_7, xpk_succ cd_264_8, xpk_succ cd_264_9, xpk_succ cd_264_10, xpk_succ cd_264_13, xpk_succ cd_264_14, xpk_succ cd_264_15, Mc_k, (K_76 hJ), (K_77 hJ), (K_79 hJ), (Mc_0 hJ), m2, (WE_e w1), b1, b0, m0, m1, sw, e]
set_option maxHeartbeats 2000000 in
theorem isW_o {h : AH} {am : Nat → Int} {s : SCM} {d p : Nat} {v K : Int} (hJ : k_H JB h) (m0 : hV (Mc h am s) 79 p = vI K) (m1 : hV (Mc h am s) 79 (p + 1) = vI v) (hp : p + 6 ≤ 3012) (sw : swF K 145 [(5, 56), (6, 102), (7, 108), (8, 114), (9, 120), (10, 126), (11, 132)] = 145) (Q : Option AV → AH → Prop) : XC (d + 11) 264 [vR 76, vI (p : Int)] (Mc h am s) Q = Q (some (vI 1)) (Mc h am s) := by
  refine XC_eq (Nat.le_of_ble_eq_true rfl) ?_ Q
  show XP (d + 10) 264 0 [some (vR 76), some (vI (p : Int)), none] [] (Mc h am s) _
  have m2 : hV (Mc h am s) 76 2 = vR 79 := (Mc_n (by decide) (by decide) (Or.inr ⟨by decide, by decide⟩) (by decide) (by decide)).trans (F_76_2 hJ)
  have w1 : WE ((p : Int) + 1) ((p + 1 : Nat) : Int) := by unfold WE w32; omega
  have b1 : (0 : Int) ≤ ((p + 1 : Nat) : Int) ∧ ((p + 1 : Nat) : Int) < 3012 := by omega
  have b0 : (0 : Int) ≤ (p : Int) ∧ (p : Int) < 3012 := by omega
  refine xpk_sound (stops := []) (n := 40) ?_
  simp only [xpk_succ cd_264_145, xpk_succ cd_264_146, sk_0, sk_1, sk_2, sk_3, sk_4, sk_5, sk_6, sk_7, sk_8, sk_iadd, sk_isub, sk_imul, sk_iand, sk_ior, sk_ixor, sk_ishl, sk_ishr, sk_iushr, sk_idiv, sk_irem, sk_ineg, sk_ladd, sk_lsub, sk_lmul, sk_land, sk_lor, sk_ldiv, sk_lrem, sk_lneg, sk_lshl, sk_lshr, sk_i2l, sk_l2i, sk_lcmp, sk_dupI, sk_dupR, sk_dup2L, sk_dup2I, sk_popI, sk_ifeq, sk_ifne, sk_iflt, sk_ifge, sk_ifgt, sk_ifle, sk_iceq, sk_icne, sk_iclt, sk_icge, sk_icgt, sk_icle, sk_goto, sk_getf, sk_putf, sk_gets, sk_iald, sk_lald, sk_bald, sk_aald, sk_iast, sk_last, sk_bast, sk_aast, sk_alen, sk_newa, sk_newt, sk_new, sk_cs1, sk_cs2, sk_cs3, sk_cs4, sk_cs5, sk_cs6, sk_cv1, sk_cv2, sk_cv3, sk_cv4, sk_cv5, sk_cv6, sk_ci1, sk_ci2, sk_ci3, sk_ret0, sk_retI, sk_retL, sk_retR, sk_sw, sk_oin, sk_max, sk_min, sk_abs, lI_0, lI_s, lL_0, lL_s, lR_0, lR_s, vIo_e, vLo_e, vOo_e, stW_I, stW_L, stW_R, stW_0, stW_z, okSt_0, okSt_s, hV_eq, hK_eq, okF_0, okF_1, okF_3, is01_0, is01_1, is01_i, Int.toNat_natCast, Int.reduceEq, Int.reduceLE, Int.reduceLT, Int.reduceNeg, Nat.reduceLT, not_true_eq_false, not_false_eq_true, reduceIte, Option.toList, List.cons_append, List.nil_append, List.set_cons_zero, List.set_cons_succ, List.not_mem_nil, List.mem_cons, if_false, if_true, ite_true, ite_false, and_self, and_true, true_and, Nat.reduceAdd, Nat.reduceLeDiff, Nat.reduceEqDiff, Nat.zero_add, Nat.le_refl, Nat.zero_le, or_false, false_or, Int.reduceToNat, or_true, true_or, eq_self, and_false, false_and, inR_d, nc_4, nc_5, nc_6, nc_7, nc_8, nc_16, nc_18, nc_20, nc_24, nc_32, nc_40, nc_64, nc_104, nc_120, nc_160, nc_256, nc_300, nc_330, nc_390, nc_1200, nc_1260, nc_3012, nc_9834, okSt_1i, okSt_1r, okSt_1n, List.length_cons, List.length_nil, xpk_succ cd_264_0, xpk_succ cd_264_1, xpk_succ cd_264_4, xpk_succ cd_264_5, xpk_succ cd_264_6, xpk_succ cd_264_7, xpk_succ cd_264_8, xpk_succ cd_264_9, xpk_succ cd_264_10, xpk_succ cd_264_13, xpk_succ cd_264_14, xpk_succ cd_264_15, Mc_k, (K_76 hJ), (K_77 hJ), (K_79 hJ), (Mc_0 hJ), m2, (WE_e w1), b1, b0, m0, m1, sw]
def isPQ (h : AH) (cs : List cCl) (near : Int) (cl : cCl) (S : STC) (am : Nat → Int) (d p : Nat) (s : SCM) : Prop := ∃ (am' : Nat → Int) (s' : SCM) (c' n' : Nat), (WRS (plF cs near cl S).2 am' c' n' ∧ FRM am am') ∧ ∀ Q : Option AV → AH → Prop, XC (d + 11) 264 [vR 76, vI (p : Int)] (Mc h am s) Q = Q (some (vI (b01 (plF cs near cl S).1))) (Mc h am' s')
theorem isP_79 {h : AH} {am : Nat → Int} {s : SCM} {i : Nat} {x : Int} {gm : Nat → Int} (hg : ∀ i, i < 3012 → hV h 79 i = vI (gm i)) (hi : i < 3012) (e : gm i = x) : hV (Mc h am s) 79 i = vI x := (Mc_n (by decide) (by decide) (Or.inl (by decide)) (by decide) (by decide)).trans ((hg i hi).trans (congrArg vI e))
theorem sw_264 {K : Int} (hk : ¬ (5 ≤ K ∧ K ≤ 11)) : swF K 145 [(5, 56), (6, 102), (7, 108), (8, 114), (9, 120), (10, 126), (11, 132)] = 145 := by
  unfold swF; rw [if_neg (by omega)]; unfold swF; rw [if_neg (by omega)]; unfold swF; rw [if_neg (by omega)]; unfold swF; rw [if_neg (by omega)]; unfold swF; rw [if_neg (by omega)]; unfold swF; rw [if_neg (by omega)]; unfold swF; rw [if_neg (by omega)]; rfl
theorem isP_6 {h : AH} {am : Nat → Int} {s : SCM} {d n c p : Nat} {J : Int} {cs : List cCl} {near : Int} {gm : Nat → Int} {cl : cCl} {S : STC} (hR : RMH h J cs) (hj : am 4 = J) (hn : am 1 = near) (hS : WRS S am c n) (hg : ∀ i, i < 3012 → hV h 79 i = vI (gm i)) (hp : p + 6 ≤ 3012) (e0 : gm p = soM cl.1) (ev : ∀ (k : Nat) (v : Int), cl.2.2[k]? = some v → gm (p + 1 + k) = v) (hv : CLv cl) (hk : cl.1 = 6) : isPQ h cs near cl S am d p s := by
  obtain ⟨v, hv1, hv2, hv3⟩ := hv.2.1 hk
  have hlen : cl.2.2.length = 1 := by rw [hv1]; rfl
  have m0 : hV (Mc h am s) 79 p = vI 6 := isP_79 hg (by omega) (by rw [e0, hk]; rfl)
  have m1 : hV (Mc h am s) 79 (p + 1) = vI (agQ cl 0) := isP_79 hg (by omega) (ev 0 _ (agQ_s (by rw [hlen]; decide)))
  have ea : agQ cl 0 = v := by unfold agQ; rw [hv1]; rfl
  have hc : -1 ≤ agQ cl 0 ∧ agQ cl 0 ≤ 1 := by rw [ea]; exact ⟨hv2, hv3⟩
  by_cases z : S.2.2.2.2 < 9999
  · obtain ⟨am', s', ⟨hw, hF⟩, e⟩ := E_itW (d := d + 3) (s := s) hR hj hS.1 hS.2 z hc
    have ep : plF cs near cl S = (true, mvS cs S (agQ cl 0)) := (plF_6 hk).trans (if_pos ⟨hc, z⟩)
    unfold isPQ
    rw [ep]
    exact ⟨am', s', _, n, ⟨⟨hw, (HKs_n (cs := cs) (rw_ := S.2.2.1) (c := agQ cl 0) hS.1.1.1 hS.2 (by omega)).2⟩, hF⟩, isW_6 hR.1 m0 m1 hp (Or.inr rfl) e⟩
  · have h99 : S.2.1 9 = 9999 := by
      have := hS.1.1.2.1
      have := hS.2
      omega
    have e := fun Q => E_it0 (d := d + 9) (s := s) (cm := agQ cl 0) hR.1 hS.1 h99 Q
    have ep : plF cs near cl S = (false, S) := (plF_6 hk).trans (if_neg (fun y => z y.2))
    unfold isPQ
    rw [ep]
    exact ⟨am, s, c, n, ⟨hS, FRM_r am⟩, isW_6 hR.1 m0 m1 hp (Or.inl rfl) e⟩
theorem isP_7 {h : AH} {am : Nat → Int} {s : SCM} {d n c p : Nat} {J : Int} {cs : List cCl} {near : Int} {gm : Nat → Int} {cl : cCl} {S : STC} (hR : RMH h J cs) (hj : am 4 = J) (hn : am 1 = near) (hS : WRS S am c n) (hg : ∀ i, i < 3012 → hV h 79 i = vI (gm i)) (hp : p + 6 ≤ 3012) (e0 : gm p = soM cl.1) (ev : ∀ (k : Nat) (v : Int), cl.2.2[k]? = some v → gm (p + 1 + k) = v) (hv : CLv cl) (hk : cl.1 = 7) : isPQ h cs near cl S am d p s := by
  obtain ⟨v, hv1, hv2, hv3⟩ := hv.2.2.1 hk
  have hlen : cl.2.2.length = 1 := by rw [hv1]; rfl
  have m0 : hV (Mc h am s) 79 p = vI 7 := isP_79 hg (by omega) (by rw [e0, hk]; rfl)
  have m1 : hV (Mc h am s) 79 (p + 1) = vI (agQ cl 0) := isP_79 hg (by omega) (ev 0 _ (agQ_s (by rw [hlen]; decide)))
  have ea : agQ cl 0 = v := by unfold agQ; rw [hv1]; rfl
  obtain ⟨x, hx⟩ : ∃ x : Nat, agQ cl 0 = (x : Int) := ⟨v.toNat, by rw [ea]; omega⟩
  have hx60 : x ≤ 60 := by omega
  obtain ⟨r0, g, ⟨rfl, am', s', c', rfl, hw, hF⟩, e⟩ := XC_dt (d := d + 9) (E_arW (d := d + 1) (s := s) hR hj hS hx60)
  have ep : plF cs near cl S = (decide (S.2.2.2.2 + x ≤ 9999), rnS cs (min x (9999 - S.2.2.2.2)) S) := by rw [plF_7 hk, hx, Int.toNat_natCast]
  unfold isPQ
  rw [ep]
  rw [hx] at m1
  by_cases z : S.2.2.2.2 + x ≤ 9999
  · rw [if_pos z] at e
    rw [decide_eq_true z]
    exact ⟨am', s', c', n, ⟨hw, hF⟩, isW_7 hR.1 m0 m1 hp (Or.inr rfl) e⟩
  · rw [if_neg z] at e
    rw [decide_eq_false z]
    exact ⟨am', s', c', n, ⟨hw, hF⟩, isW_7 hR.1 m0 m1 hp (Or.inl rfl) e⟩
theorem isP_16 {h : AH} {am : Nat → Int} {s : SCM} {d n c p : Nat} {J : Int} {cs : List cCl} {near : Int} {gm : Nat → Int} {cl : cCl} {S : STC} (hR : RMH h J cs) (hj : am 4 = J) (hn : am 1 = near) (hS : WRS S am c n) (hg : ∀ i, i < 3012 → hV h 79 i = vI (gm i)) (hp : p + 6 ≤ 3012) (e0 : gm p = soM cl.1) (ev : ∀ (k : Nat) (v : Int), cl.2.2[k]? = some v → gm (p + 1 + k) = v) (hv : CLv cl) (hk : cl.1 = 16) : isPQ h cs near cl S am d p s := by
  obtain ⟨v, hv1, hv2, hv3⟩ := hv.2.2.2 (by omega)
  have hlen : cl.2.2.length = 1 := by rw [hv1]; rfl
  have m0 : hV (Mc h am s) 79 p = vI 8 := isP_79 hg (by omega) (by rw [e0, hk]; rfl)
  have m1 : hV (Mc h am s) 79 (p + 1) = vI (agQ cl 0) := isP_79 hg (by omega) (ev 0 _ (agQ_s (by rw [hlen]; decide)))
  rcases E_hoW (d := d + 7) (s := s) hR.1 hS.1 (v := agQ cl 0) with ⟨z, am', ⟨hw, hF⟩, e⟩ | ⟨z, e⟩
  · have ep : plF cs near cl S = (true, kpS S (upF S.2.1 5 (agQ cl 0))) := (plF_16 hk).trans (if_pos z)
    unfold isPQ
    rw [ep]
    exact ⟨am', s, _, n, ⟨⟨hw, show upF S.2.1 5 (agQ cl 0) 9 = (S.2.2.2.2 : Int) by rw [upF_ne (by decide)]; exact hS.2⟩, hF⟩, isW_8 hR.1 m0 m1 hp (Or.inr rfl) e⟩
  · have ep : plF cs near cl S = (false, S) := (plF_16 hk).trans (if_neg z)
    unfold isPQ
    rw [ep]
    exact ⟨am, s, c, n, ⟨hS, FRM_r am⟩, isW_8 hR.1 m0 m1 hp (Or.inl rfl) e⟩
theorem isP_8 {h : AH} {am : Nat → Int} {s : SCM} {d n c p : Nat} {J : Int} {cs : List cCl} {near : Int} {gm : Nat → Int} {cl : cCl} {S : STC} (hR : RMH h J cs) (hj : am 4 = J) (hn : am 1 = near) (hS : WRS S am c n) (hg : ∀ i, i < 3012 → hV h 79 i = vI (gm i)) (hp : p + 6 ≤ 3012) (e0 : gm p = soM cl.1) (ev : ∀ (k : Nat) (v : Int), cl.2.2[k]? = some v → gm (p + 1 + k) = v) (hv : CLv cl) (hk : cl.1 = 8) : isPQ h cs near cl S am d p s := by
  obtain ⟨v, hv1, hv2, hv3⟩ := hv.2.2.2 (by omega)
  have hlen : cl.2.2.length = 1 := by rw [hv1]; rfl
  have m0 : hV (Mc h am s) 79 p = vI 9 := isP_79 hg (by omega) (by rw [e0, hk]; rfl)
  have m1 : hV (Mc h am s) 79 (p + 1) = vI (agQ cl 0) := isP_79 hg (by omega) (ev 0 _ (agQ_s (by rw [hlen]; decide)))
  rcases E_aiW (d := d + 7) (s := s) hR.1 hS.1 (v := agQ cl 0) with ⟨z, am', ⟨hw, hF⟩, e⟩ | ⟨z, e⟩
  · have ep : plF cs near cl S = (true, kpS S (upF S.2.1 8 (agQ cl 0))) := (plF_8 hk).trans (if_pos z)
    unfold isPQ
    rw [ep]
    exact ⟨am', s, _, n, ⟨⟨hw, show upF S.2.1 8 (agQ cl 0) 9 = (S.2.2.2.2 : Int) by rw [upF_ne (by decide)]; exact hS.2⟩, hF⟩, isW_9 hR.1 m0 m1 hp (Or.inr rfl) e⟩
  · have ep : plF cs near cl S = (false, S) := (plF_8 hk).trans (if_neg z)
    unfold isPQ
    rw [ep]
    exact ⟨am, s, c, n, ⟨hS, FRM_r am⟩, isW_9 hR.1 m0 m1 hp (Or.inl rfl) e⟩
theorem isP_9 {h : AH} {am : Nat → Int} {s : SCM} {d n c p : Nat} {J : Int} {cs : List cCl} {near : Int} {gm : Nat → Int} {cl : cCl} {S : STC} (hR : RMH h J cs) (hj : am 4 = J) (hn : am 1 = near) (hS : WRS S am c n) (hg : ∀ i, i < 3012 → hV h 79 i = vI (gm i)) (hp : p + 6 ≤ 3012) (e0 : gm p = soM cl.1) (ev : ∀ (k : Nat) (v : Int), cl.2.2[k]? = some v → gm (p + 1 + k) = v) (hv : CLv cl) (hk : cl.1 = 9) : isPQ h cs near cl S am d p s := by
  obtain ⟨v, hv1, hv2, hv3⟩ := hv.2.2.2 (by omega)
  have hlen : cl.2.2.length = 1 := by rw [hv1]; rfl
  have m0 : hV (Mc h am s) 79 p = vI 10 := isP_79 hg (by omega) (by rw [e0, hk]; rfl)
  have m1 : hV (Mc h am s) 79 (p + 1) = vI (agQ cl 0) := isP_79 hg (by omega) (ev 0 _ (agQ_s (by rw [hlen]; decide)))
  have h5 := hS.1.2.2.1.2.1
  have hn8 := hS.1.2.2.1.1
  by_cases y : 0 ≤ agQ cl 0 ∧ agQ cl 0 ≤ S.1 1 5 - 1
  · obtain ⟨o, ho⟩ : ∃ o : Nat, agQ cl 0 = (o : Int) := ⟨(agQ cl 0).toNat, by omega⟩
    have hon : o < n := by omega
    have eo : (agQ cl 0).toNat = o := by omega
    rw [ho] at m1
    rcases E_hkW (d := d + 7) (s := s) hR.1 hS.1 hon with ⟨z, am', ⟨hw, hF⟩, e⟩ | ⟨z, e⟩
    · have ep : plF cs near cl S = (true, kpS S (hkF S.1 S.2.1 o)) := by rw [plF_9 hk, eo]; exact if_pos ⟨y, z⟩
      unfold isPQ
      rw [ep]
      exact ⟨am', s, _, n, ⟨⟨hw, show hkF S.1 S.2.1 o 9 = (S.2.2.2.2 : Int) by unfold hkF; rw [upF_ne (by decide), upF_ne (by decide), upF_ne (by decide)]; exact hS.2⟩, hF⟩, isW_10 hR.1 m0 m1 hp (Or.inr rfl) e⟩
    · have ep : plF cs near cl S = (false, S) := by rw [plF_9 hk, eo]; exact if_neg (fun w => z w.2)
      unfold isPQ
      rw [ep]
      exact ⟨am, s, c, n, ⟨hS, FRM_r am⟩, isW_10 hR.1 m0 m1 hp (Or.inl rfl) e⟩
  · have e := fun Q => E_hkW0 (d := d + 7) (s := s) hR.1 hS.1.2.2.1.2.2.1 hn8 (o := agQ cl 0) (by rw [← h5]; exact y) Q
    have ep : plF cs near cl S = (false, S) := by rw [plF_9 hk]; exact if_neg (fun w => y w.1)
    unfold isPQ
    rw [ep]
    exact ⟨am, s, c, n, ⟨hS, FRM_r am⟩, isW_10 hR.1 m0 m1 hp (Or.inl rfl) e⟩
theorem isP_10 {h : AH} {am : Nat → Int} {s : SCM} {d n c p : Nat} {J : Int} {cs : List cCl} {near : Int} {gm : Nat → Int} {cl : cCl} {S : STC} (hR : RMH h J cs) (hj : am 4 = J) (hn : am 1 = near) (hS : WRS S am c n) (hg : ∀ i, i < 3012 → hV h 79 i = vI (gm i)) (hp : p + 6 ≤ 3012) (e0 : gm p = soM cl.1) (ev : ∀ (k : Nat) (v : Int), cl.2.2[k]? = some v → gm (p + 1 + k) = v) (hv : CLv cl) (hk : cl.1 = 10) : isPQ h cs near cl S am d p s := by
  have m0 : hV (Mc h am s) 79 p = vI 11 := isP_79 hg (by omega) (by rw [e0, hk]; rfl)
  have m1 : hV (Mc h am s) 79 (p + 1) = vI (gm (p + 1)) := isP_79 hg (by omega) rfl
  obtain ⟨-, -, x11, -, x13, -⟩ := hS.1.1
  have n11 := hS.1.2.1.2.1
  have p8 := pcB_8 (b := S.2.1 12)
  by_cases y : S.2.1 11 = -1
  · have e := fun Q => E_laW0 (d := d + 9) (s := s) hR.1 (n11.trans y) Q
    have ep : plF cs near cl S = (false, S) := by rw [plF_10 hk]; exact if_neg (fun w => w.1 y)
    unfold isPQ
    rw [ep]
    exact ⟨am, s, c, n, ⟨hS, FRM_r am⟩, isW_11b (n := 0) hR.1 m0 m1 hp e⟩
  · obtain ⟨o, ho⟩ : ∃ o : Nat, S.2.1 11 = (o : Int) := ⟨(S.2.1 11).toNat, by omega⟩
    obtain ⟨k, hk13⟩ : ∃ k : Nat, S.2.1 13 = (k : Int) := ⟨(S.2.1 13).toNat, by omega⟩
    rcases E_laW (d := d + 7) (s := s) hR.1 hS.1 hn ho hk13 with ⟨z, am', ⟨hw, hF⟩, e⟩ | ⟨z, e⟩
    · have ep : plF cs near cl S = (true, laS S k o) := by
        rw [plF_10 hk, if_pos ⟨y, z⟩, show (S.2.1 13).toNat = k by omega, show (S.2.1 11).toNat = o by omega]
      unfold isPQ
      rw [ep]
      exact ⟨am', s, _, n, ⟨⟨hw, show wdnF S.2.1 k o 9 = (S.2.2.2.2 : Int) by unfold wdnF; rw [upF_ne (by decide), upF_ne (by decide), upF_ne (by decide), upF_ne (by decide)]; exact hS.2⟩, hF⟩, isW_11a hR.1 m0 m1 hp e⟩
    · have ep : plF cs near cl S = (false, S) := by rw [plF_10 hk]; exact if_neg (fun w => z w.2)
      unfold isPQ
      rw [ep]
      exact ⟨am, s, c, n, ⟨hS, FRM_r am⟩, isW_11b (n := 0) hR.1 m0 m1 hp e⟩
theorem isP_5 {h : AH} {am : Nat → Int} {s : SCM} {d n c p : Nat} {J : Int} {cs : List cCl} {near : Int} {gm : Nat → Int} {cl : cCl} {S : STC} (hR : RMH h J cs) (hj : am 4 = J) (hn : am 1 = near) (hS : WRS S am c n) (hg : ∀ i, i < 3012 → hV h 79 i = vI (gm i)) (hp : p + 6 ≤ 3012) (e0 : gm p = soM cl.1) (ev : ∀ (k : Nat) (v : Int), cl.2.2[k]? = some v → gm (p + 1 + k) = v) (hv : CLv cl) (hk : cl.1 = 5) : isPQ h cs near cl S am d p s := by
  have hlen := hv.1 hk
  have m0 : hV (Mc h am s) 79 p = vI 5 := isP_79 hg (by omega) (by rw [e0, hk]; rfl)
  have m1 : hV (Mc h am s) 79 (p + 1) = vI (agQ cl 0) := isP_79 hg (by omega) (ev 0 _ (agQ_s (by rw [hlen]; decide)))
  have m2 : hV (Mc h am s) 79 (p + 2) = vI (agQ cl 1) := isP_79 hg (by omega) (ev 1 _ (agQ_s (by rw [hlen]; decide)))
  have m3 : hV (Mc h am s) 79 (p + 3) = vI (agQ cl 2) := isP_79 hg (by omega) (ev 2 _ (agQ_s (by rw [hlen]; decide)))
  have m4 : hV (Mc h am s) 79 (p + 4) = vI (agQ cl 3) := isP_79 hg (by omega) (ev 3 _ (agQ_s (by rw [hlen]; decide)))
  have m5 : hV (Mc h am s) 79 (p + 5) = vI (agQ cl 4) := isP_79 hg (by omega) (ev 4 _ (agQ_s (by rw [hlen]; decide)))
  have h5 := hS.1.2.2.1.2.1
  have hn8 := hS.1.2.2.1.1
  have a0 := hS.1.2.2.1.2.2.1
  have e5 : (S.1 1 5).toNat = n := by omega
  by_cases z : ORc (agQ cl 0) (agQ cl 1) (agQ cl 2) (agQ cl 3) (agQ cl 4) ∧ n < 8
  · have e : ∀ Q : Option AV → AH → Prop, XC (d + 10) 189 [vR 76, vI (agQ cl 0), vI (agQ cl 1), vI (agQ cl 2), vI (agQ cl 3), vI (agQ cl 4)] (Mc h am s) Q = Q (some (vI (n : Int))) (Mc h (orA am n (agQ cl 0) (agQ cl 1) (agQ cl 2) (agQ cl 3) (agQ cl 4)) s) := fun Q => (E_orM (d := d + 8) (s := s) hR.1 a0 hn8 Q).trans (if_pos z)
    have ep : plF cs near cl S = (true, (orW S.1 n (agQ cl 0) (agQ cl 1) (agQ cl 2) (agQ cl 3) (agQ cl 4), S.2)) := by rw [plF_5 hk, e5]; exact if_pos z
    unfold isPQ
    rw [ep]
    exact ⟨_, s, c, n + 1, ⟨⟨WR_ord hS.1 z.2 z.1, hS.2⟩, FRM_or z.2⟩, isW_5a hR.1 m0 m1 m2 m3 m4 m5 hp e⟩
  · have e : ∀ Q : Option AV → AH → Prop, XC (d + 10) 189 [vR 76, vI (agQ cl 0), vI (agQ cl 1), vI (agQ cl 2), vI (agQ cl 3), vI (agQ cl 4)] (Mc h am s) Q = Q (some (vI (-1))) (Mc h am s) := fun Q => (E_orM (d := d + 8) (s := s) hR.1 a0 hn8 Q).trans (if_neg z)
    have ep : plF cs near cl S = (false, S) := by rw [plF_5 hk, e5]; exact if_neg z
    unfold isPQ
    rw [ep]
    exact ⟨am, s, c, n, ⟨hS, FRM_r am⟩, isW_5b (n := 0) hR.1 m0 m1 m2 m3 m4 m5 hp e⟩
theorem E_isP {h : AH} {am : Nat → Int} {s : SCM} {d n c p : Nat} {J : Int} {cs : List cCl} {near : Int} {gm : Nat → Int} {cl : cCl} {S : STC} (hR : RMH h J cs) (hj : am 4 = J) (hn : am 1 = near) (hS : WRS S am c n) (hg : ∀ i, i < 3012 → hV h 79 i = vI (gm i)) (hp : p + 6 ≤ 3012) (e0 : gm p = soM cl.1) (ev : ∀ (k : Nat) (v : Int), cl.2.2[k]? = some v → gm (p + 1 + k) = v) (hv : CLv cl) (hkk : CLk cl) : isPQ h cs near cl S am d p s := by
  by_cases z5 : cl.1 = 5
  · exact isP_5 hR hj hn hS hg hp e0 ev hv z5
  by_cases z6 : cl.1 = 6
  · exact isP_6 hR hj hn hS hg hp e0 ev hv z6
  by_cases z7 : cl.1 = 7
  · exact isP_7 hR hj hn hS hg hp e0 ev hv z7
  by_cases z16 : cl.1 = 16
  · exact isP_16 hR hj hn hS hg hp e0 ev hv z16
  by_cases z8 : cl.1 = 8
  · exact isP_8 hR hj hn hS hg hp e0 ev hv z8
  by_cases z9 : cl.1 = 9
  · exact isP_9 hR hj hn hS hg hp e0 ev hv z9
  by_cases z10 : cl.1 = 10
  · exact isP_10 hR hj hn hS hg hp e0 ev hv z10
  have hkk := hkk.1
  have m0 : hV (Mc h am s) 79 p = vI (soM cl.1) := isP_79 hg (by omega) e0
  have m1 : hV (Mc h am s) 79 (p + 1) = vI (gm (p + 1)) := isP_79 hg (by omega) rfl
  have sw : swF (soM cl.1) 145 [(5, 56), (6, 102), (7, 108), (8, 114), (9, 120), (10, 126), (11, 132)] = 145 := sw_264 (by unfold soM; rw [if_pos (by omega)]; omega)
  have ep : plF cs near cl S = (true, S) := plF_o (by omega)
  unfold isPQ
  rw [ep]
  exact ⟨am, s, c, n, ⟨hS, FRM_r am⟩, isW_o hR.1 m0 m1 hp sw⟩
/-! all clauses, one behind the other -/
def plA (cs : List cCl) (near : Int) : List cCl → Nat → STC → Int × STC
  | [], _, S => (-1, S)
  | cl :: r, k, S => if (plF cs near cl S).1 = true then plA cs near r (k + 1) (plF cs near cl S).2 else ((k : Int), (plF cs near cl S).2)
theorem drp {α : Type} : ∀ (l : List α) (k : Nat) (a : α) (r : List α), l.drop k = a :: r → l[k]? = some a ∧ l.drop (k + 1) = r := by
  intro l
  induction l with
  | nil => intro k a r h; rw [List.drop_nil] at h; cases h
  | cons x l ih =>
    intro k a r h
    cases k with
    | zero =>
      have h : x :: l = a :: r := h
      cases h
      exact ⟨rfl, rfl⟩
    | succ k => exact ih k a r h
theorem drn {α : Type} : ∀ (l : List α) (k : Nat), l.drop k = [] → l.length ≤ k := by
  intro l
  induction l with
  | nil => intro k _; exact Nat.zero_le _
  | cons x l ih =>
    intro k h
    cases k with
    | zero => cases h
    | succ k => exact Nat.succ_le_succ (ih k h)
def pmQ (h : AH) (x : Int × STC) (am : Nat → Int) (r : Option AV) (g : AH) : Prop := r = some (vI x.1) ∧ ∃ (am' : Nat → Int) (s' : SCM) (c' n' : Nat), g = Mc h am' s' ∧ WRS x.2 am' c' n' ∧ FRM am am'
theorem pl_n {j k : Nat} (hj : j < 4) (hk : k < 24) : (WE (753 * (j : Int)) ((753 * j : Nat) : Int) ∧ WE (((753 * j : Nat) : Int) + 1) ((753 * j + 1 : Nat) : Int) ∧ WE (6 * (k : Int)) ((6 * k : Nat) : Int) ∧ WE (((753 * j + 1 : Nat) : Int) + ((6 * k : Nat) : Int)) ((753 * j + 1 + 6 * k : Nat) : Int) ∧ WE ((k : Int) + 1) ((k + 1 : Nat) : Int)) ∧ ((0 : Int) ≤ ((753 * j : Nat) : Int) ∧ ((753 * j : Nat) : Int) < 3012) := by unfold WE w32; omega
theorem pl_0 {j : Nat} (hj : j < 4) : WE (753 * (j : Int)) ((753 * j : Nat) : Int) ∧ ((0 : Int) ≤ ((753 * j : Nat) : Int) ∧ ((753 * j : Nat) : Int) < 3012) := by unfold WE w32; omega
set_option maxHeartbeats 2000000 in
theorem pm_l {d j W : Nat} {h : AH} {J : Int} {cs csP : List cCl} {near : Int} {gm : Nat → Int} (hR : RMH h J cs) (hg : ∀ i, i < 3012 → hV h 79 i = vI (gm i)) (hj4 : j < 4) (hT : TMR j gm csP W) (h24 : csP.length ≤ 24) (hK : ∀ cl, cl ∈ csP → CLk cl) (hC : ∀ cl, cl ∈ csP → CLv cl) : ∀ (r : List cCl) (k c n : Nat) (S : STC) (am : Nat → Int) (s : SCM), csP.drop k = r → am 4 = J → am 1 = near → WRS S am c n → XP (d + 11) 265 21 [some (vR 76), some (vI (j : Int)), some (vI (k : Int))] [] (Mc h am s) (pmQ h (plA cs near r k S) am) := by
  have hJ := hR.1
  intro r
  induction r with
  | nil =>
    intro k c n S am s hd hj hn hS
    have hl := drn csP k hd
    have z : (csP.length : Int) ≤ (k : Int) := by omega
    obtain ⟨w0, b0⟩ := pl_0 hj4
    have m2 : hV (Mc h am s) 76 2 = vR 79 := (Mc_n (by decide) (by decide) (Or.inr ⟨by decide, by decide⟩) (by decide) (by decide)).trans (F_76_2 hJ)
    have v0 : hV (Mc h am s) 79 (753 * j) = vI (csP.length : Int) := isP_79 hg (by omega) hT.1
    have y : pmQ h (plA cs near [] k S) am (some (vI (-1))) (Mc h am s) := ⟨rfl, am, s, c, n, rfl, hS, FRM_r am⟩
    refine xpk_sound (stops := []) (n := 20) ?_
    simp only [sk_0, sk_1, sk_2, sk_3, sk_4, sk_5, sk_6, sk_7, sk_8, sk_iadd, sk_isub, sk_imul, sk_iand, sk_ior, sk_ixor, sk_ishl, sk_ishr, sk_iushr, sk_idiv, sk_irem, sk_ineg, sk_ladd, sk_lsub, sk_lmul, sk_land, sk_lor, sk_ldiv, sk_lrem, sk_lneg, sk_lshl, sk_lshr, sk_i2l, sk_l2i, sk_lcmp, sk_dupI, sk_dupR, sk_dup2L, sk_dup2I, sk_popI, sk_ifeq, sk_ifne, sk_iflt, sk_ifge, sk_ifgt, sk_ifle, sk_iceq, sk_icne, sk_iclt, sk_icge, sk_icgt, sk_icle, sk_goto, sk_getf, sk_putf, sk_gets, sk_iald, sk_lald, sk_bald, sk_aald, sk_iast, sk_last, sk_bast, sk_aast, sk_alen, sk_newa, sk_newt, sk_new, sk_cs1, sk_cs2, sk_cs3, sk_cs4, sk_cs5, sk_cs6, sk_cv1, sk_cv2, sk_cv3, sk_cv4, sk_cv5, sk_cv6, sk_ci1, sk_ci2, sk_ci3, sk_ret0, sk_retI, sk_retL, sk_retR, sk_sw, sk_oin, sk_max, sk_min, sk_abs, lI_0, lI_s, lL_0, lL_s, lR_0, lR_s, vIo_e, vLo_e, vOo_e, stW_I, stW_L, stW_R, stW_0, stW_z, okSt_0, okSt_s, hV_eq, hK_eq, okF_0, okF_1, okF_3, is01_0, is01_1, is01_i, Int.toNat_natCast, Int.reduceEq, Int.reduceLE, Int.reduceLT, Int.reduceNeg, Nat.reduceLT, not_true_eq_false, not_false_eq_true, reduceIte, Option.toList, List.cons_append, List.nil_append, List.set_cons_zero, List.set_cons_succ, List.not_mem_nil, List.mem_cons, if_false, if_true, ite_true, ite_false, and_self, and_true, true_and, Nat.reduceAdd, Nat.reduceLeDiff, Nat.reduceEqDiff, Nat.zero_add, Nat.le_refl, Nat.zero_le, or_false, false_or, Int.reduceToNat, or_true, true_or, eq_self, and_false, false_and, inR_d, nc_4, nc_5, nc_6, nc_7, nc_8, nc_16, nc_18, nc_20, nc_24, nc_32, nc_40, nc_64, nc_104, nc_120, nc_160, nc_256, nc_300, nc_330, nc_390, nc_1200, nc_1260, nc_3012, nc_9834, okSt_1i, okSt_1r, okSt_1n, List.length_cons, List.length_nil, xpk_succ cd_265_21, xpk_succ cd_265_22, xpk_succ cd_265_23, xpk_succ cd_265_26, xpk_succ cd_265_29, xpk_succ cd_265_30, xpk_succ cd_265_31, xpk_succ cd_265_32, xpk_succ cd_265_35, xpk_succ cd_265_36, xpk_succ cd_265_39, xpk_succ cd_265_40, xpk_succ cd_265_41, xpk_succ cd_265_42, xpk_succ cd_265_43, xpk_succ cd_265_45, xpk_succ cd_265_46, xpk_succ cd_265_47, xpk_succ cd_265_48, xpk_succ cd_265_51, xpk_succ cd_265_54, xpk_succ cd_265_55, xpk_succ cd_265_56, xpk_succ cd_265_59, xpk_succ cd_265_62, xpk_succ cd_265_63, Mc_k, (K_76 hJ), (K_77 hJ), (K_79 hJ), (Mc_0 hJ), m2, (WE_e w0), b0, v0, z]
    exact y
  | cons cl r ih =>
    intro k c n S am s hd hj hn hS
    obtain ⟨hk, hd2⟩ := drp csP k cl r hd
    have hl := gq_l _ _ _ hk
    have hm := List.mem_of_getElem? hk
    have z : ¬ ((csP.length : Int) ≤ (k : Int)) := by omega
    have z2 : (k : Int) < (csP.length : Int) := by omega
    obtain ⟨⟨w0, w1, w2, w3, w4⟩, b0⟩ := pl_n (k := k) hj4 (by omega)
    have m2 : hV (Mc h am s) 76 2 = vR 79 := (Mc_n (by decide) (by decide) (Or.inr ⟨by decide, by decide⟩) (by decide) (by decide)).trans (F_76_2 hJ)
    have v0 : hV (Mc h am s) 79 (753 * j) = vI (csP.length : Int) := isP_79 hg (by omega) hT.1
    obtain ⟨c1, c2, c3⟩ := hT.2 k cl hk
    by_cases y5 : cl.1 < 5
    · have e : ∀ Q : Option AV → AH → Prop, XC (d + 11) 264 [vR 76, vI ((753 * j + 1 + 6 * k : Nat) : Int)] (Mc h am s) Q = Q (some (vI 1)) (Mc h am s) := isW_o hJ (isP_79 hg (by omega) c1) (isP_79 hg (by omega) rfl) (by omega) (sw_264 (by unfold soM; rw [if_pos (by omega)]; omega))
      have ep : plF cs near cl S = (true, S) := plF_o (by omega)
      have y := ih (k + 1) c n S am s hd2 hj hn hS
      have ea : plA cs near (cl :: r) k S = plA cs near r (k + 1) S := by
        show (if (plF cs near cl S).1 = true then plA cs near r (k + 1) (plF cs near cl S).2 else ((k : Int), (plF cs near cl S).2)) = _
        rw [ep]; rfl
      rw [ea]
      refine xpk_sound (stops := [21]) (n := 60) ?_
      simp only [sk_0, sk_1, sk_2, sk_3, sk_4, sk_5, sk_6, sk_7, sk_8, sk_iadd, sk_isub, sk_imul, sk_iand, sk_ior, sk_ixor, sk_ishl, sk_ishr, sk_iushr, sk_idiv, sk_irem, sk_ineg, sk_ladd, sk_lsub, sk_lmul, sk_land, sk_lor, sk_ldiv, sk_lrem, sk_lneg, sk_lshl, sk_lshr, sk_i2l, sk_l2i, sk_lcmp, sk_dupI, sk_dupR, sk_dup2L, sk_dup2I, sk_popI, sk_ifeq, sk_ifne, sk_iflt, sk_ifge, sk_ifgt, sk_ifle, sk_iceq, sk_icne, sk_iclt, sk_icge, sk_icgt, sk_icle, sk_goto, sk_getf, sk_putf, sk_gets, sk_iald, sk_lald, sk_bald, sk_aald, sk_iast, sk_last, sk_bast, sk_aast, sk_alen, sk_newa, sk_newt, sk_new, sk_cs1, sk_cs2, sk_cs3, sk_cs4, sk_cs5, sk_cs6, sk_cv1, sk_cv2, sk_cv3, sk_cv4, sk_cv5, sk_cv6, sk_ci1, sk_ci2, sk_ci3, sk_ret0, sk_retI, sk_retL, sk_retR, sk_sw, sk_oin, sk_max, sk_min, sk_abs, lI_0, lI_s, lL_0, lL_s, lR_0, lR_s, vIo_e, vLo_e, vOo_e, stW_I, stW_L, stW_R, stW_0, stW_z, okSt_0, okSt_s, hV_eq, hK_eq, okF_0, okF_1, okF_3, is01_0, is01_1, is01_i, Int.toNat_natCast, Int.reduceEq, Int.reduceLE, Int.reduceLT, Int.reduceNeg, Nat.reduceLT, not_true_eq_false, not_false_eq_true, reduceIte, Option.toList, List.cons_append, List.nil_append, List.set_cons_zero, List.set_cons_succ, List.not_mem_nil, List.mem_cons, if_false, if_true, ite_true, ite_false, and_self, and_true, true_and, Nat.reduceAdd, Nat.reduceLeDiff, Nat.reduceEqDiff, Nat.zero_add, Nat.le_refl, Nat.zero_le, or_false, false_or, Int.reduceToNat, or_true, true_or, eq_self, and_false, false_and, inR_d, nc_4, nc_5, nc_6, nc_7, nc_8, nc_16, nc_18, nc_20, nc_24, nc_32, nc_40, nc_64, nc_104, nc_120, nc_160, nc_256, nc_300, nc_330, nc_390, nc_1200, nc_1260, nc_3012, nc_9834, okSt_1i, okSt_1r, okSt_1n, List.length_cons, List.length_nil, xpk_succ cd_265_21, xpk_succ cd_265_22, xpk_succ cd_265_23, xpk_succ cd_265_26, xpk_succ cd_265_29, xpk_succ cd_265_30, xpk_succ cd_265_31, xpk_succ cd_265_32, xpk_succ cd_265_35, xpk_succ cd_265_36, xpk_succ cd_265_39, xpk_succ cd_265_40, xpk_succ cd_265_41, xpk_succ cd_265_42, xpk_succ cd_265_43, xpk_succ cd_265_45, xpk_succ cd_265_46, xpk_succ cd_265_47, xpk_succ cd_265_48, xpk_succ cd_265_51, xpk_succ cd_265_54, xpk_succ cd_265_55, xpk_succ cd_265_56, xpk_succ cd_265_59, xpk_succ cd_265_62, xpk_succ cd_265_63, Mc_k, (K_76 hJ), (K_77 hJ), (K_79 hJ), (Mc_0 hJ), m2, (WE_e w0), (WE_e w1), (WE_e w2), (WE_e w3), (WE_e w4), b0, v0, z, z2, e]
      exact y
    · obtain ⟨am', s', c', n', ⟨hw, hF⟩, e⟩ := E_isP (d := d) (s := s) (p := 753 * j + 1 + 6 * k) hR hj hn hS hg (by omega) c1 (c3 y5) (hC cl hm) (hK cl hm)
      have hj' : am' 4 = J := (hF 4 (by omega)).trans hj
      have hn' : am' 1 = near := (hF 1 (by omega)).trans hn
      by_cases yb : (plF cs near cl S).1 = true
      · have y := ih (k + 1) c' n' (plF cs near cl S).2 am' s' hd2 hj' hn' hw
        have ea : plA cs near (cl :: r) k S = plA cs near r (k + 1) (plF cs near cl S).2 := if_pos yb
        rw [ea]
        rw [yb] at e
        have e : ∀ Q : Option AV → AH → Prop, XC (d + 11) 264 [vR 76, vI ((753 * j + 1 + 6 * k : Nat) : Int)] (Mc h am s) Q = Q (some (vI 1)) (Mc h am' s') := e
        have y2 : XP (d + 11) 265 21 [some (vR 76), some (vI (j : Int)), some (vI ((k + 1 : Nat) : Int))] [] (Mc h am' s') (pmQ h (plA cs near r (k + 1) (plF cs near cl S).2) am) := XP_mono y (fun r0 g0 q => by
          obtain ⟨q1, a2, s2, c2, n2, q2, q3, q4⟩ := q
          exact ⟨q1, a2, s2, c2, n2, q2, q3, FRM_t hF q4⟩)
        refine xpk_sound (stops := [21]) (n := 60) ?_
        simp only [sk_0, sk_1, sk_2, sk_3, sk_4, sk_5, sk_6, sk_7, sk_8, sk_iadd, sk_isub, sk_imul, sk_iand, sk_ior, sk_ixor, sk_ishl, sk_ishr, sk_iushr, sk_idiv, sk_irem, sk_ineg, sk_ladd, sk_lsub, sk_lmul, sk_land, sk_lor, sk_ldiv, sk_lrem, sk_lneg, sk_lshl, sk_lshr, sk_i2l, sk_l2i, sk_lcmp, sk_dupI, sk_dupR, sk_dup2L, sk_dup2I, sk_popI, sk_ifeq, sk_ifne, sk_iflt, sk_ifge, sk_ifgt, sk_ifle, sk_iceq, sk_icne, sk_iclt, sk_icge, sk_icgt, sk_icle, sk_goto, sk_getf, sk_putf, sk_gets, sk_iald, sk_lald, sk_bald, sk_aald, sk_iast, sk_last, sk_bast, sk_aast, sk_alen, sk_newa, sk_newt, sk_new, sk_cs1, sk_cs2, sk_cs3, sk_cs4, sk_cs5, sk_cs6, sk_cv1, sk_cv2, sk_cv3, sk_cv4, sk_cv5, sk_cv6, sk_ci1, sk_ci2, sk_ci3, sk_ret0, sk_retI, sk_retL, sk_retR, sk_sw, sk_oin, sk_max, sk_min, sk_abs, lI_0, lI_s, lL_0, lL_s, lR_0, lR_s, vIo_e, vLo_e, vOo_e, stW_I, stW_L, stW_R, stW_0, stW_z, okSt_0, okSt_s, hV_eq, hK_eq, okF_0, okF_1, okF_3, is01_0, is01_1, is01_i, Int.toNat_natCast, Int.reduceEq, Int.reduceLE, Int.reduceLT, Int.reduceNeg, Nat.reduceLT, not_true_eq_false, not_false_eq_true, reduceIte, Option.toList, List.cons_append, List.nil_append, List.set_cons_zero, List.set_cons_succ, List.not_mem_nil, List.mem_cons, if_false, if_true, ite_true, ite_false, and_self, and_true, true_and, Nat.reduceAdd, Nat.reduceLeDiff, Nat.reduceEqDiff, Nat.zero_add, Nat.le_refl, Nat.zero_le, or_false, false_or, Int.reduceToNat, or_true, true_or, eq_self, and_false, false_and, inR_d, nc_4, nc_5, nc_6, nc_7, nc_8, nc_16, nc_18, nc_20, nc_24, nc_32, nc_40, nc_64, nc_104, nc_120, nc_160, nc_256, nc_300, nc_330, nc_390, nc_1200, nc_1260, nc_3012, nc_9834, okSt_1i, okSt_1r, okSt_1n, List.length_cons, List.length_nil, xpk_succ cd_265_21, xpk_succ cd_265_22, xpk_succ cd_265_23, xpk_succ cd_265_26, xpk_succ cd_265_29, xpk_succ cd_265_30, xpk_succ cd_265_31, xpk_succ cd_265_32, xpk_succ cd_265_35, xpk_succ cd_265_36, xpk_succ cd_265_39, xpk_succ cd_265_40, xpk_succ cd_265_41, xpk_succ cd_265_42, xpk_succ cd_265_43, xpk_succ cd_265_45, xpk_succ cd_265_46, xpk_succ cd_265_47, xpk_succ cd_265_48, xpk_succ cd_265_51, xpk_succ cd_265_54, xpk_succ cd_265_55, xpk_succ cd_265_56, xpk_succ cd_265_59, xpk_succ cd_265_62, xpk_succ cd_265_63, Mc_k, (K_76 hJ), (K_77 hJ), (K_79 hJ), (Mc_0 hJ), m2, (WE_e w0), (WE_e w1), (WE_e w2), (WE_e w3), (WE_e w4), b0, v0, z, z2, e]
        exact y2
      · have yb : (plF cs near cl S).1 = false := by
          cases hb : (plF cs near cl S).1 with
          | true => exact absurd hb yb
          | false => rfl
        have ea : plA cs near (cl :: r) k S = ((k : Int), (plF cs near cl S).2) := if_neg (by rw [yb]; decide)
        rw [ea]
        rw [yb] at e
        have e : ∀ Q : Option AV → AH → Prop, XC (d + 11) 264 [vR 76, vI ((753 * j + 1 + 6 * k : Nat) : Int)] (Mc h am s) Q = Q (some (vI 0)) (Mc h am' s') := e
        have y : pmQ h ((k : Int), (plF cs near cl S).2) am (some (vI (k : Int))) (Mc h am' s') := ⟨rfl, am', s', c', n', rfl, hw, hF⟩
        refine xpk_sound (stops := []) (n := 60) ?_
        simp only [sk_0, sk_1, sk_2, sk_3, sk_4, sk_5, sk_6, sk_7, sk_8, sk_iadd, sk_isub, sk_imul, sk_iand, sk_ior, sk_ixor, sk_ishl, sk_ishr, sk_iushr, sk_idiv, sk_irem, sk_ineg, sk_ladd, sk_lsub, sk_lmul, sk_land, sk_lor, sk_ldiv, sk_lrem, sk_lneg, sk_lshl, sk_lshr, sk_i2l, sk_l2i, sk_lcmp, sk_dupI, sk_dupR, sk_dup2L, sk_dup2I, sk_popI, sk_ifeq, sk_ifne, sk_iflt, sk_ifge, sk_ifgt, sk_ifle, sk_iceq, sk_icne, sk_iclt, sk_icge, sk_icgt, sk_icle, sk_goto, sk_getf, sk_putf, sk_gets, sk_iald, sk_lald, sk_bald, sk_aald, sk_iast, sk_last, sk_bast, sk_aast, sk_alen, sk_newa, sk_newt, sk_new, sk_cs1, sk_cs2, sk_cs3, sk_cs4, sk_cs5, sk_cs6, sk_cv1, sk_cv2, sk_cv3, sk_cv4, sk_cv5, sk_cv6, sk_ci1, sk_ci2, sk_ci3, sk_ret0, sk_retI, sk_retL, sk_retR, sk_sw, sk_oin, sk_max, sk_min, sk_abs, lI_0, lI_s, lL_0, lL_s, lR_0, lR_s, vIo_e, vLo_e, vOo_e, stW_I, stW_L, stW_R, stW_0, stW_z, okSt_0, okSt_s, hV_eq, hK_eq, okF_0, okF_1, okF_3, is01_0, is01_1, is01_i, Int.toNat_natCast, Int.reduceEq, Int.reduceLE, Int.reduceLT, Int.reduceNeg, Nat.reduceLT, not_true_eq_false, not_false_eq_true, reduceIte, Option.toList, List.cons_append, List.nil_append, List.set_cons_zero, List.set_cons_succ, List.not_mem_nil, List.mem_cons, if_false, if_true, ite_true, ite_false, and_self, and_true, true_and, Nat.reduceAdd, Nat.reduceLeDiff, Nat.reduceEqDiff, Nat.zero_add, Nat.le_refl, Nat.zero_le, or_false, false_or, Int.reduceToNat, or_true, true_or, eq_self, and_false, false_and, inR_d, nc_4, nc_5, nc_6, nc_7, nc_8, nc_16, nc_18, nc_20, nc_24, nc_32, nc_40, nc_64, nc_104, nc_120, nc_160, nc_256, nc_300, nc_330, nc_390, nc_1200, nc_1260, nc_3012, nc_9834, okSt_1i, okSt_1r, okSt_1n, List.length_cons, List.length_nil, xpk_succ cd_265_21, xpk_succ cd_265_22, xpk_succ cd_265_23, xpk_succ cd_265_26, xpk_succ cd_265_29, xpk_succ cd_265_30, xpk_succ cd_265_31, xpk_succ cd_265_32, xpk_succ cd_265_35, xpk_succ cd_265_36, xpk_succ cd_265_39, xpk_succ cd_265_40, xpk_succ cd_265_41, xpk_succ cd_265_42, xpk_succ cd_265_43, xpk_succ cd_265_45, xpk_succ cd_265_46, xpk_succ cd_265_47, xpk_succ cd_265_48, xpk_succ cd_265_51, xpk_succ cd_265_54, xpk_succ cd_265_55, xpk_succ cd_265_56, xpk_succ cd_265_59, xpk_succ cd_265_62, xpk_succ cd_265_63, Mc_k, (K_76 hJ), (K_77 hJ), (K_79 hJ), (Mc_0 hJ), m2, (WE_e w0), (WE_e w1), (WE_e w2), (WE_e w3), (WE_e w4), b0, v0, z, z2, e]
        exact y
set_option maxHeartbeats 2000000 in
theorem E_plM {d j W c n cnt : Nat} {h : AH} {am : Nat → Int} {s : SCM} {J : Int} {cs csP : List cCl} {near : Int} {gm : Nat → Int} {S : STC} (hR : RMH h J cs) (hj : am 4 = J) (hn : am 1 = near) (hS : WRS S am c n) (hg : ∀ i, i < 3012 → hV h 79 i = vI (gm i)) (h3 : am 3 = (cnt : Int)) (hc4 : cnt ≤ 4) (hjc : j < cnt) (hT : TMR j gm csP W) (h24 : csP.length ≤ 24) (hK : ∀ cl, cl ∈ csP → CLk cl) (hC : ∀ cl, cl ∈ csP → CLv cl) : XC (d + 12) 265 [vR 76, vI (j : Int)] (Mc h am s) (pmQ h (plA cs near csP 0 S) am) := by
  have hJ := hR.1
  refine XC_of (Nat.le_of_ble_eq_true rfl) ?_
  show XP (d + 11) 265 0 [some (vR 76), some (vI (j : Int)), none] [] (Mc h am s) _
  have y := pm_l (d := d) hR hg (show j < 4 by omega) hT h24 hK hC csP 0 c n S am s rfl hj hn hS
  have w1 : WE ((cnt : Int) - 1) ((cnt : Int) - 1) := by unfold WE w32; omega
  have ei : ∀ Q : Option AV → AH → Prop, XC (d + 11) 182 [vI (j : Int), vI 0, vI ((cnt : Int) - 1)] (Mc h am s) Q = Q (some (vI 1)) (Mc h am s) := fun Q => by rw [X_in, if_pos (by omega)]
  have v3 : hV (Mc h am s) 77 3 = vI (cnt : Int) := (Mc_v (by decide)).trans (congrArg vI h3)
  refine xpk_sound (stops := [21]) (n := 40) ?_
  simp only [sk_0, sk_1, sk_2, sk_3, sk_4, sk_5, sk_6, sk_7, sk_8, sk_iadd, sk_isub, sk_imul, sk_iand, sk_ior, sk_ixor, sk_ishl, sk_ishr, sk_iushr, sk_idiv, sk_irem, sk_ineg, sk_ladd, sk_lsub, sk_lmul, sk_land, sk_lor, sk_ldiv, sk_lrem, sk_lneg, sk_lshl, sk_lshr, sk_i2l, sk_l2i, sk_lcmp, sk_dupI, sk_dupR, sk_dup2L, sk_dup2I, sk_popI, sk_ifeq, sk_ifne, sk_iflt, sk_ifge, sk_ifgt, sk_ifle, sk_iceq, sk_icne, sk_iclt, sk_icge, sk_icgt, sk_icle, sk_goto, sk_getf, sk_putf, sk_gets, sk_iald, sk_lald, sk_bald, sk_aald, sk_iast, sk_last, sk_bast, sk_aast, sk_alen, sk_newa, sk_newt, sk_new, sk_cs1, sk_cs2, sk_cs3, sk_cs4, sk_cs5, sk_cs6, sk_cv1, sk_cv2, sk_cv3, sk_cv4, sk_cv5, sk_cv6, sk_ci1, sk_ci2, sk_ci3, sk_ret0, sk_retI, sk_retL, sk_retR, sk_sw, sk_oin, sk_max, sk_min, sk_abs, lI_0, lI_s, lL_0, lL_s, lR_0, lR_s, vIo_e, vLo_e, vOo_e, stW_I, stW_L, stW_R, stW_0, stW_z, okSt_0, okSt_s, hV_eq, hK_eq, okF_0, okF_1, okF_3, is01_0, is01_1, is01_i, Int.toNat_natCast, Int.reduceEq, Int.reduceLE, Int.reduceLT, Int.reduceNeg, Nat.reduceLT, not_true_eq_false, not_false_eq_true, reduceIte, Option.toList, List.cons_append, List.nil_append, List.set_cons_zero, List.set_cons_succ, List.not_mem_nil, List.mem_cons, if_false, if_true, ite_true, ite_false, and_self, and_true, true_and, Nat.reduceAdd, Nat.reduceLeDiff, Nat.reduceEqDiff, Nat.zero_add, Nat.le_refl, Nat.zero_le, or_false, false_or, Int.reduceToNat, or_true, true_or, eq_self, and_false, false_and, inR_d, nc_4, nc_5, nc_6, nc_7, nc_8, nc_16, nc_18, nc_20, nc_24, nc_32, nc_40, nc_64, nc_104, nc_120, nc_160, nc_256, nc_300, nc_330, nc_390, nc_1200, nc_1260, nc_3012, nc_9834, okSt_1i, okSt_1r, okSt_1n, List.length_cons, List.length_nil, xpk_succ cd_265_0, xpk_succ cd_265_1, xpk_succ cd_265_2, xpk_succ cd_265_3, xpk_succ cd_265_6, xpk_succ cd_265_7, xpk_succ cd_265_8, xpk_succ cd_265_9, xpk_succ cd_265_10, xpk_succ cd_265_13, xpk_succ cd_265_16, xpk_succ cd_265_18, xpk_succ cd_265_19, xpk_succ cd_265_20, Mc_k, (K_76 hJ), (K_77 hJ), (Mc_0 hJ), (WE_e w1), v3, ei]
  exact y
theorem E_plM0 {d cnt : Nat} {h : AH} {am : Nat → Int} {s : SCM} {t : Int} (hJ : k_H JB h) (h3 : am 3 = (cnt : Int)) (hc4 : cnt ≤ 4) (ht : ¬ (0 ≤ t ∧ t ≤ (cnt : Int) - 1)) (Q : Option AV → AH → Prop) : XC (d + 12) 265 [vR 76, vI t] (Mc h am s) Q = Q (some (vI (-2))) (Mc h am s) := by
  refine XC_eq (Nat.le_of_ble_eq_true rfl) ?_ Q
  show XP (d + 11) 265 0 [some (vR 76), some (vI t), none] [] (Mc h am s) _
  have w1 : WE ((cnt : Int) - 1) ((cnt : Int) - 1) := by unfold WE w32; omega
  have ei : ∀ Q : Option AV → AH → Prop, XC (d + 11) 182 [vI t, vI 0, vI ((cnt : Int) - 1)] (Mc h am s) Q = Q (some (vI 0)) (Mc h am s) := fun Q => by rw [X_in, if_neg ht]
  have v3 : hV (Mc h am s) 77 3 = vI (cnt : Int) := (Mc_v (by decide)).trans (congrArg vI h3)
  refine xpk_sound (stops := []) (n := 30) ?_
  simp only [sk_0, sk_1, sk_2, sk_3, sk_4, sk_5, sk_6, sk_7, sk_8, sk_iadd, sk_isub, sk_imul, sk_iand, sk_ior, sk_ixor, sk_ishl, sk_ishr, sk_iushr, sk_idiv, sk_irem, sk_ineg, sk_ladd, sk_lsub, sk_lmul, sk_land, sk_lor, sk_ldiv, sk_lrem, sk_lneg, sk_lshl, sk_lshr, sk_i2l, sk_l2i, sk_lcmp, sk_dupI, sk_dupR, sk_dup2L, sk_dup2I, sk_popI, sk_ifeq, sk_ifne, sk_iflt, sk_ifge, sk_ifgt, sk_ifle, sk_iceq, sk_icne, sk_iclt, sk_icge, sk_icgt, sk_icle, sk_goto, sk_getf, sk_putf, sk_gets, sk_iald, sk_lald, sk_bald, sk_aald, sk_iast, sk_last, sk_bast, sk_aast, sk_alen, sk_newa, sk_newt, sk_new, sk_cs1, sk_cs2, sk_cs3, sk_cs4, sk_cs5, sk_cs6, sk_cv1, sk_cv2, sk_cv3, sk_cv4, sk_cv5, sk_cv6, sk_ci1, sk_ci2, sk_ci3, sk_ret0, sk_retI, sk_retL, sk_retR, sk_sw, sk_oin, sk_max, sk_min, sk_abs, lI_0, lI_s, lL_0, lL_s, lR_0, lR_s, vIo_e, vLo_e, vOo_e, stW_I, stW_L, stW_R, stW_0, stW_z, okSt_0, okSt_s, hV_eq, hK_eq, okF_0, okF_1, okF_3, is01_0, is01_1, is01_i, Int.toNat_natCast, Int.reduceEq, Int.reduceLE, Int.reduceLT, Int.reduceNeg, Nat.reduceLT, not_true_eq_false, not_false_eq_true, reduceIte, Option.toList, List.cons_append, List.nil_append, List.set_cons_zero, List.set_cons_succ, List.not_mem_nil, List.mem_cons, if_false, if_true, ite_true, ite_false, and_self, and_true, true_and, Nat.reduceAdd, Nat.reduceLeDiff, Nat.reduceEqDiff, Nat.zero_add, Nat.le_refl, Nat.zero_le, or_false, false_or, Int.reduceToNat, or_true, true_or, eq_self, and_false, false_and, inR_d, nc_4, nc_5, nc_6, nc_7, nc_8, nc_16, nc_18, nc_20, nc_24, nc_32, nc_40, nc_64, nc_104, nc_120, nc_160, nc_256, nc_300, nc_330, nc_390, nc_1200, nc_1260, nc_3012, nc_9834, okSt_1i, okSt_1r, okSt_1n, List.length_cons, List.length_nil, xpk_succ cd_265_0, xpk_succ cd_265_1, xpk_succ cd_265_2, xpk_succ cd_265_3, xpk_succ cd_265_6, xpk_succ cd_265_7, xpk_succ cd_265_8, xpk_succ cd_265_9, xpk_succ cd_265_10, xpk_succ cd_265_13, xpk_succ cd_265_16, xpk_succ cd_265_18, xpk_succ cd_265_19, xpk_succ cd_265_20, Mc_k, (K_76 hJ), (K_77 hJ), (Mc_0 hJ), (WE_e w1), v3, ei]
