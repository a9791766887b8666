/-- the tokens of a tape, up to a place -/
def bla (b : Nat → Int) (p s : Nat) : Prop := ∀ i, p ≤ i → i < s → b i = 32 ∨ b i = 10
def LXs (b : Nat → Int) (n cnt : Nat) (ep sp : Nat → Nat) (kn vn : Nat → Int) (a : Nat) : Prop := (ep 0 = 0 ∧ cnt ≤ ep cnt) ∧ (∀ j, j < cnt → ep j ≤ sp j ∧ bla b (ep j) (sp j) ∧ TSH b n (sp j) (ep (j + 1)) (kn j) (vn j)) ∧ ep cnt ≤ a ∧ bla b (ep cnt) a
theorem LXs_b {b : Nat → Int} {n cnt a : Nat} {ep sp : Nat → Nat} {kn vn : Nat → Int} (h : LXs b n cnt ep sp kn vn a) (hc : b a = 32 ∨ b a = 10) : LXs b n cnt ep sp kn vn (a + 1) := ⟨h.1, h.2.1, by have := h.2.2.1; omega, fun i h1 h2 => by
  rcases Nat.lt_or_ge i a with z | z
  · exact h.2.2.2 i h1 z
  · rw [show i = a by omega]; exact hc⟩
theorem LXs_t {b : Nat → Int} {n cnt a e : Nat} {ep sp : Nat → Nat} {kn vn : Nat → Int} {K V : Int} (h : LXs b n cnt ep sp kn vn a) (ht : TSH b n a e K V) : LXs b n (cnt + 1) (fun i => if i = cnt + 1 then e else ep i) (fun i => if i = cnt then a else sp i) (upF kn cnt K) (upF vn cnt V) e := by
  obtain ⟨⟨h1, h1'⟩, h2, h3, h4⟩ := h
  have he := ht.1.1
  refine ⟨⟨?_, ?_⟩, fun j hj => ?_, ?_, fun i g1 g2 => ?_⟩
  · show (if 0 = cnt + 1 then e else ep 0) = 0; rw [if_neg (by omega)]; exact h1
  · show cnt + 1 ≤ (if cnt + 1 = cnt + 1 then e else ep (cnt + 1)); rw [if_pos rfl]; omega
  · show (if j = cnt + 1 then e else ep j) ≤ (if j = cnt then a else sp j) ∧ bla b (if j = cnt + 1 then e else ep j) (if j = cnt then a else sp j) ∧ TSH b n (if j = cnt then a else sp j) (if j + 1 = cnt + 1 then e else ep (j + 1)) (upF kn cnt K j) (upF vn cnt V j)
    by_cases z : j = cnt
    · subst z
      rw [if_neg (by omega), if_pos rfl, if_pos rfl, upF_at, upF_at]
      exact ⟨h3, h4, ht⟩
    · rw [if_neg (by omega), if_neg z, if_neg (by omega), upF_ne z, upF_ne z]
      exact h2 j (by omega)
  · show (if cnt + 1 = cnt + 1 then e else ep (cnt + 1)) ≤ e; rw [if_pos rfl]; exact Nat.le_refl _
  · have g1 : (if cnt + 1 = cnt + 1 then e else ep (cnt + 1)) ≤ i := g1
    rw [if_pos rfl] at g1; omega
def SNq (h : AH) (b : Nat → Int) (n : Nat) (r : Option AV) (g : AH) : Prop := r = none ∧ ∃ cnt kn vn ep sp, g = hT h cnt n kn (fun j => ((sp j : Nat) : Int)) vn ∧ LXs b n cnt ep sp kn vn n ∧ cnt ≤ 300
theorem upF_sp {sp : Nat → Nat} {cnt a : Nat} : upF (fun j => ((sp j : Nat) : Int)) cnt (a : Int) = fun j => (((if j = cnt then a else sp j) : Nat) : Int) := by
  funext j
  by_cases z : j = cnt
  · subst z; rw [upF_at, if_pos rfl]
  · rw [upF_ne z, if_neg z]
set_option maxHeartbeats 8000000 in
theorem sn_l {d : Nat} {h : AH} {b : Nat → Int} {n : Nat} (hb : TKB h b) (hn : n ≤ 300) : ∀ (m a r cnt : Nat) (kn vn : Nat → Int) (ep sp : Nat → Nat), n < a + m → r ≤ a → a ≤ n → LXs b n cnt ep sp kn vn a → XP (d + 3) 102 26 [some (vR 71), some (vR 75), some (vI (n : Int)), some (vI (a : Int)), some (vI (r : Int))] [] (hT h cnt n kn (fun j => ((sp j : Nat) : Int)) vn) (SNq h b n) := by
  intro m
  induction m with
  | zero => intro a r cnt kn vn ep sp hm hr ha; omega
  | succ m ih =>
    intro a r cnt kn vn ep sp hm hr ha hL
    have hcn : cnt ≤ a := by have := hL.1.2; have := hL.2.2.1; omega
    by_cases z : a < n
    · have z1 : ¬ ((300 : Int) ≤ (r : Int)) := by omega
      have z2 : ¬ ((n : Int) ≤ (a : Int)) := by omega
      have w1 : WE ((r : Int) + 1) (((r + 1 : Nat) : Int)) := by unfold WE w32; omega
      obtain ⟨r1, g1, ⟨e, rfl, hq⟩, e1⟩ := XC_dt (E_sc (d := d) (kn := kn) (pn := fun j => ((sp j : Nat) : Int)) (vn := vn) hb hn z (show cnt < 300 by omega))
      rcases hq with ⟨⟨hc, rfl⟩, rfl⟩ | ⟨K, V, ht, rfl⟩
      · have y := ih (a + 1) (r + 1) cnt kn vn ep sp (by omega) (by omega) (by omega) (LXs_b hL hc)
        refine xpk_sound (stops := [26]) (n := 30) ?_
        simp only [sk_0, sk_1, sk_2, sk_3, sk_4, sk_5, sk_6, sk_7, sk_8, sk_iadd, sk_isub, sk_imul, sk_iand, sk_ior, sk_ixor, sk_ishl, sk_ishr, sk_iushr, sk_idiv, sk_irem, sk_ineg, sk_ladd, sk_lsub, sk_lmul, sk_land, sk_lor, sk_ldiv, sk_lrem, sk_lneg, sk_lshl, sk_lshr, sk_i2l, sk_l2i, sk_lcmp, sk_dupI, sk_dupR, sk_dup2L, sk_dup2I, sk_popI, sk_ifeq, sk_ifne, sk_iflt, sk_ifge, sk_ifgt, sk_ifle, sk_iceq, sk_icne, sk_iclt, sk_icge, sk_icgt, sk_icle, sk_goto, sk_getf, sk_putf, sk_gets, sk_iald, sk_lald, sk_bald, sk_aald, sk_iast, sk_last, sk_bast, sk_aast, sk_alen, sk_newa, sk_newt, sk_new, sk_cs1, sk_cs2, sk_cs3, sk_cs4, sk_cs5, sk_cs6, sk_cv1, sk_cv2, sk_cv3, sk_cv4, sk_cv5, sk_cv6, sk_ci1, sk_ci2, sk_ci3, sk_ret0, sk_retI, sk_retL, sk_retR, sk_sw, sk_oin, sk_max, sk_min, sk_abs, lI_0, lI_s, lL_0, lL_s, lR_0, lR_s, vIo_e, vLo_e, vOo_e, stW_I, stW_L, stW_R, stW_0, stW_z, okSt_0, okSt_s, hV_eq, hK_eq, okF_0, okF_1, okF_3, is01_0, is01_1, is01_i, Int.toNat_natCast, Int.reduceEq, Int.reduceLE, Int.reduceLT, Int.reduceNeg, Nat.reduceLT, not_true_eq_false, not_false_eq_true, reduceIte, Option.toList, List.cons_append, List.nil_append, List.set_cons_zero, List.set_cons_succ, List.not_mem_nil, List.mem_cons, if_false, if_true, ite_true, ite_false, and_self, and_true, true_and, Nat.reduceAdd, Nat.reduceLeDiff, Nat.reduceEqDiff, Nat.zero_add, Nat.le_refl, Nat.zero_le, or_false, false_or, Int.reduceToNat, or_true, true_or, eq_self, and_false, false_and, inR_d, nc_4, nc_5, nc_6, nc_7, nc_8, nc_16, nc_18, nc_20, nc_24, nc_32, nc_40, nc_64, nc_104, nc_120, nc_160, nc_256, nc_300, nc_330, nc_390, nc_1200, nc_1260, nc_3012, nc_9834, okSt_1i, okSt_1r, okSt_1n, List.length_cons, List.length_nil, xpk_succ cd_102_26, xpk_succ cd_102_28, xpk_succ cd_102_31, xpk_succ cd_102_34, xpk_succ cd_102_35, xpk_succ cd_102_36, xpk_succ cd_102_39, xpk_succ cd_102_42, xpk_succ cd_102_43, xpk_succ cd_102_44, xpk_succ cd_102_45, xpk_succ cd_102_48, xpk_succ cd_102_49, xpk_succ cd_102_52, xpk_succ cd_102_55, hK_T, hT_3, hT_4, hT_s3, hT_s4, (TB_0 hb), (TB_1 hb), (TB_2 hb), hb.1.1, hb.2.1.1, hb.2.1.2.1, hb.2.1.2.2.1, hb.2.1.2.2.2, z1, z2, (WE_e w1), e1]
        exact y
      · have y := ih e (r + 1) (cnt + 1) (upF kn cnt K) (upF vn cnt V) _ _ (by have := ht.1.1; omega) (by have := ht.1.1; omega) ht.1.2 (LXs_t hL ht)
        rw [← upF_sp] at y
        refine xpk_sound (stops := [26]) (n := 30) ?_
        simp only [sk_0, sk_1, sk_2, sk_3, sk_4, sk_5, sk_6, sk_7, sk_8, sk_iadd, sk_isub, sk_imul, sk_iand, sk_ior, sk_ixor, sk_ishl, sk_ishr, sk_iushr, sk_idiv, sk_irem, sk_ineg, sk_ladd, sk_lsub, sk_lmul, sk_land, sk_lor, sk_ldiv, sk_lrem, sk_lneg, sk_lshl, sk_lshr, sk_i2l, sk_l2i, sk_lcmp, sk_dupI, sk_dupR, sk_dup2L, sk_dup2I, sk_popI, sk_ifeq, sk_ifne, sk_iflt, sk_ifge, sk_ifgt, sk_ifle, sk_iceq, sk_icne, sk_iclt, sk_icge, sk_icgt, sk_icle, sk_goto, sk_getf, sk_putf, sk_gets, sk_iald, sk_lald, sk_bald, sk_aald, sk_iast, sk_last, sk_bast, sk_aast, sk_alen, sk_newa, sk_newt, sk_new, sk_cs1, sk_cs2, sk_cs3, sk_cs4, sk_cs5, sk_cs6, sk_cv1, sk_cv2, sk_cv3, sk_cv4, sk_cv5, sk_cv6, sk_ci1, sk_ci2, sk_ci3, sk_ret0, sk_retI, sk_retL, sk_retR, sk_sw, sk_oin, sk_max, sk_min, sk_abs, lI_0, lI_s, lL_0, lL_s, lR_0, lR_s, vIo_e, vLo_e, vOo_e, stW_I, stW_L, stW_R, stW_0, stW_z, okSt_0, okSt_s, hV_eq, hK_eq, okF_0, okF_1, okF_3, is01_0, is01_1, is01_i, Int.toNat_natCast, Int.reduceEq, Int.reduceLE, Int.reduceLT, Int.reduceNeg, Nat.reduceLT, not_true_eq_false, not_false_eq_true, reduceIte, Option.toList, List.cons_append, List.nil_append, List.set_cons_zero, List.set_cons_succ, List.not_mem_nil, List.mem_cons, if_false, if_true, ite_true, ite_false, and_self, and_true, true_and, Nat.reduceAdd, Nat.reduceLeDiff, Nat.reduceEqDiff, Nat.zero_add, Nat.le_refl, Nat.zero_le, or_false, false_or, Int.reduceToNat, or_true, true_or, eq_self, and_false, false_and, inR_d, nc_4, nc_5, nc_6, nc_7, nc_8, nc_16, nc_18, nc_20, nc_24, nc_32, nc_40, nc_64, nc_104, nc_120, nc_160, nc_256, nc_300, nc_330, nc_390, nc_1200, nc_1260, nc_3012, nc_9834, okSt_1i, okSt_1r, okSt_1n, List.length_cons, List.length_nil, xpk_succ cd_102_26, xpk_succ cd_102_28, xpk_succ cd_102_31, xpk_succ cd_102_34, xpk_succ cd_102_35, xpk_succ cd_102_36, xpk_succ cd_102_39, xpk_succ cd_102_42, xpk_succ cd_102_43, xpk_succ cd_102_44, xpk_succ cd_102_45, xpk_succ cd_102_48, xpk_succ cd_102_49, xpk_succ cd_102_52, xpk_succ cd_102_55, hK_T, hT_3, hT_4, hT_s3, hT_s4, (TB_0 hb), (TB_1 hb), (TB_2 hb), hb.1.1, hb.2.1.1, hb.2.1.2.1, hb.2.1.2.2.1, hb.2.1.2.2.2, z1, z2, (WE_e w1), e1]
        exact y
    · obtain rfl : a = n := by omega
      have y : SNq h b a none (hT h cnt a kn (fun j => ((sp j : Nat) : Int)) vn) := ⟨rfl, cnt, kn, vn, ep, sp, rfl, hL, by omega⟩
      by_cases z1 : (300 : Int) ≤ (r : Int)
      · refine xpk_sound (stops := []) (n := 30) ?_
        simp only [sk_0, sk_1, sk_2, sk_3, sk_4, sk_5, sk_6, sk_7, sk_8, sk_iadd, sk_isub, sk_imul, sk_iand, sk_ior, sk_ixor, sk_ishl, sk_ishr, sk_iushr, sk_idiv, sk_irem, sk_ineg, sk_ladd, sk_lsub, sk_lmul, sk_land, sk_lor, sk_ldiv, sk_lrem, sk_lneg, sk_lshl, sk_lshr, sk_i2l, sk_l2i, sk_lcmp, sk_dupI, sk_dupR, sk_dup2L, sk_dup2I, sk_popI, sk_ifeq, sk_ifne, sk_iflt, sk_ifge, sk_ifgt, sk_ifle, sk_iceq, sk_icne, sk_iclt, sk_icge, sk_icgt, sk_icle, sk_goto, sk_getf, sk_putf, sk_gets, sk_iald, sk_lald, sk_bald, sk_aald, sk_iast, sk_last, sk_bast, sk_aast, sk_alen, sk_newa, sk_newt, sk_new, sk_cs1, sk_cs2, sk_cs3, sk_cs4, sk_cs5, sk_cs6, sk_cv1, sk_cv2, sk_cv3, sk_cv4, sk_cv5, sk_cv6, sk_ci1, sk_ci2, sk_ci3, sk_ret0, sk_retI, sk_retL, sk_retR, sk_sw, sk_oin, sk_max, sk_min, sk_abs, lI_0, lI_s, lL_0, lL_s, lR_0, lR_s, vIo_e, vLo_e, vOo_e, stW_I, stW_L, stW_R, stW_0, stW_z, okSt_0, okSt_s, hV_eq, hK_eq, okF_0, okF_1, okF_3, is01_0, is01_1, is01_i, Int.toNat_natCast, Int.reduceEq, Int.reduceLE, Int.reduceLT, Int.reduceNeg, Nat.reduceLT, not_true_eq_false, not_false_eq_true, reduceIte, Option.toList, List.cons_append, List.nil_append, List.set_cons_zero, List.set_cons_succ, List.not_mem_nil, List.mem_cons, if_false, if_true, ite_true, ite_false, and_self, and_true, true_and, Nat.reduceAdd, Nat.reduceLeDiff, Nat.reduceEqDiff, Nat.zero_add, Nat.le_refl, Nat.zero_le, or_false, false_or, Int.reduceToNat, or_true, true_or, eq_self, and_false, false_and, inR_d, nc_4, nc_5, nc_6, nc_7, nc_8, nc_16, nc_18, nc_20, nc_24, nc_32, nc_40, nc_64, nc_104, nc_120, nc_160, nc_256, nc_300, nc_330, nc_390, nc_1200, nc_1260, nc_3012, nc_9834, okSt_1i, okSt_1r, okSt_1n, List.length_cons, List.length_nil, xpk_succ cd_102_26, xpk_succ cd_102_28, xpk_succ cd_102_31, xpk_succ cd_102_34, xpk_succ cd_102_35, xpk_succ cd_102_36, xpk_succ cd_102_39, xpk_succ cd_102_42, xpk_succ cd_102_43, xpk_succ cd_102_44, xpk_succ cd_102_45, xpk_succ cd_102_48, xpk_succ cd_102_49, xpk_succ cd_102_52, xpk_succ cd_102_55, hK_T, hT_3, hT_4, hT_s3, hT_s4, (TB_0 hb), (TB_1 hb), (TB_2 hb), hb.1.1, hb.2.1.1, hb.2.1.2.1, hb.2.1.2.2.1, hb.2.1.2.2.2, z1]
        exact y
      · have z2 : (a : Int) ≤ (a : Int) := Int.le_refl _
        refine xpk_sound (stops := []) (n := 30) ?_
        simp only [sk_0, sk_1, sk_2, sk_3, sk_4, sk_5, sk_6, sk_7, sk_8, sk_iadd, sk_isub, sk_imul, sk_iand, sk_ior, sk_ixor, sk_ishl, sk_ishr, sk_iushr, sk_idiv, sk_irem, sk_ineg, sk_ladd, sk_lsub, sk_lmul, sk_land, sk_lor, sk_ldiv, sk_lrem, sk_lneg, sk_lshl, sk_lshr, sk_i2l, sk_l2i, sk_lcmp, sk_dupI, sk_dupR, sk_dup2L, sk_dup2I, sk_popI, sk_ifeq, sk_ifne, sk_iflt, sk_ifge, sk_ifgt, sk_ifle, sk_iceq, sk_icne, sk_iclt, sk_icge, sk_icgt, sk_icle, sk_goto, sk_getf, sk_putf, sk_gets, sk_iald, sk_lald, sk_bald, sk_aald, sk_iast, sk_last, sk_bast, sk_aast, sk_alen, sk_newa, sk_newt, sk_new, sk_cs1, sk_cs2, sk_cs3, sk_cs4, sk_cs5, sk_cs6, sk_cv1, sk_cv2, sk_cv3, sk_cv4, sk_cv5, sk_cv6, sk_ci1, sk_ci2, sk_ci3, sk_ret0, sk_retI, sk_retL, sk_retR, sk_sw, sk_oin, sk_max, sk_min, sk_abs, lI_0, lI_s, lL_0, lL_s, lR_0, lR_s, vIo_e, vLo_e, vOo_e, stW_I, stW_L, stW_R, stW_0, stW_z, okSt_0, okSt_s, hV_eq, hK_eq, okF_0, okF_1, okF_3, is01_0, is01_1, is01_i, Int.toNat_natCast, Int.reduceEq, Int.reduceLE, Int.reduceLT, Int.reduceNeg, Nat.reduceLT, not_true_eq_false, not_false_eq_true, reduceIte, Option.toList, List.cons_append, List.nil_append, List.set_cons_zero, List.set_cons_succ, List.not_mem_nil, List.mem_cons, if_false, if_true, ite_true, ite_false, and_self, and_true, true_and, Nat.reduceAdd, Nat.reduceLeDiff, Nat.reduceEqDiff, Nat.zero_add, Nat.le_refl, Nat.zero_le, or_false, false_or, Int.reduceToNat, or_true, true_or, eq_self, and_false, false_and, inR_d, nc_4, nc_5, nc_6, nc_7, nc_8, nc_16, nc_18, nc_20, nc_24, nc_32, nc_40, nc_64, nc_104, nc_120, nc_160, nc_256, nc_300, nc_330, nc_390, nc_1200, nc_1260, nc_3012, nc_9834, okSt_1i, okSt_1r, okSt_1n, List.length_cons, List.length_nil, xpk_succ cd_102_26, xpk_succ cd_102_28, xpk_succ cd_102_31, xpk_succ cd_102_34, xpk_succ cd_102_35, xpk_succ cd_102_36, xpk_succ cd_102_39, xpk_succ cd_102_42, xpk_succ cd_102_43, xpk_succ cd_102_44, xpk_succ cd_102_45, xpk_succ cd_102_48, xpk_succ cd_102_49, xpk_succ cd_102_52, xpk_succ cd_102_55, hK_T, hT_3, hT_4, hT_s3, hT_s4, (TB_0 hb), (TB_1 hb), (TB_2 hb), hb.1.1, hb.2.1.1, hb.2.1.2.1, hb.2.1.2.2.1, hb.2.1.2.2.2, z1, z2]
        exact y
set_option maxHeartbeats 8000000 in
theorem hT_s3z {h : AH} {cnt n : Nat} {kn pn vn : Nat → Int} : hSet (hT h cnt n kn pn vn) 71 3 (vI 0) = hT h 0 n kn pn vn := hT_s3 (x := 0)
set_option maxHeartbeats 8000000 in
theorem E_scan {d : Nat} {h : AH} {b : Nat → Int} {n c0 m0 : Nat} {k0 v0 : Nat → Int} {s0 : Nat → Nat} (hb : TKB h b) (hn : n ≤ 300) : XC (d + 4) 102 [vR 71, vR 75, vI (n : Int)] (hT h c0 m0 k0 (fun j => ((s0 j : Nat) : Int)) v0) (SNq h b n) := by
  refine XC_of (Nat.le_of_ble_eq_true rfl) ?_
  show XP (d + 3) 102 0 [some (vR 71), some (vR 75), some (vI (n : Int)), none, none] [] (hT h c0 m0 k0 (fun j => ((s0 j : Nat) : Int)) v0) _
  have y := sn_l (d := d) hb hn (n + 1) 0 0 0 k0 v0 (fun _ => 0) s0 (by omega) (Nat.le_refl _) (Nat.zero_le _) ⟨⟨rfl, Nat.le_refl _⟩, fun j hj => absurd hj (Nat.not_lt_zero _), Nat.le_refl _, fun i h1 h2 => by omega⟩
  have y : XP (d + 3) 102 26 [some (vR 71), some (vR 75), some (vI (n : Int)), some (vI 0), some (vI 0)] [] (hT h 0 n k0 (fun j => ((s0 j : Nat) : Int)) v0) (SNq h b n) := y
  have m1 : min (300 : Int) 300 = 300 := by decide
  have m2 : min (n : Int) 300 = (n : Int) := by omega
  refine xpk_sound (stops := [26]) (n := 30) ?_
  simp only [sk_0, sk_1, sk_2, sk_3, sk_4, sk_5, sk_6, sk_7, sk_8, sk_iadd, sk_isub, sk_imul, sk_iand, sk_ior, sk_ixor, sk_ishl, sk_ishr, sk_iushr, sk_idiv, sk_irem, sk_ineg, sk_ladd, sk_lsub, sk_lmul, sk_land, sk_lor, sk_ldiv, sk_lrem, sk_lneg, sk_lshl, sk_lshr, sk_i2l, sk_l2i, sk_lcmp, sk_dupI, sk_dupR, sk_dup2L, sk_dup2I, sk_popI, sk_ifeq, sk_ifne, sk_iflt, sk_ifge, sk_ifgt, sk_ifle, sk_iceq, sk_icne, sk_iclt, sk_icge, sk_icgt, sk_icle, sk_goto, sk_getf, sk_putf, sk_gets, sk_iald, sk_lald, sk_bald, sk_aald, sk_iast, sk_last, sk_bast, sk_aast, sk_alen, sk_newa, sk_newt, sk_new, sk_cs1, sk_cs2, sk_cs3, sk_cs4, sk_cs5, sk_cs6, sk_cv1, sk_cv2, sk_cv3, sk_cv4, sk_cv5, sk_cv6, sk_ci1, sk_ci2, sk_ci3, sk_ret0, sk_retI, sk_retL, sk_retR, sk_sw, sk_oin, sk_max, sk_min, sk_abs, lI_0, lI_s, lL_0, lL_s, lR_0, lR_s, vIo_e, vLo_e, vOo_e, stW_I, stW_L, stW_R, stW_0, stW_z, okSt_0, okSt_s, hV_eq, hK_eq, okF_0, okF_1, okF_3, is01_0, is01_1, is01_i, Int.toNat_natCast, Int.reduceEq, Int.reduceLE, Int.reduceLT, Int.reduceNeg, Nat.reduceLT, not_true_eq_false, not_false_eq_true, reduceIte, Option.toList, List.cons_append, List.nil_append, List.set_cons_zero, List.set_cons_succ, List.not_mem_nil, List.mem_cons, if_false, if_true, ite_true, ite_false, and_self, and_true, true_and, Nat.reduceAdd, Nat.reduceLeDiff, Nat.reduceEqDiff, Nat.zero_add, Nat.le_refl, Nat.zero_le, or_false, false_or, Int.reduceToNat, or_true, true_or, eq_self, and_false, false_and, inR_d, nc_4, nc_5, nc_6, nc_7, nc_8, nc_16, nc_18, nc_20, nc_24, nc_32, nc_40, nc_64, nc_104, nc_120, nc_160, nc_256, nc_300, nc_330, nc_390, nc_1200, nc_1260, nc_3012, nc_9834, okSt_1i, okSt_1r, okSt_1n, List.length_cons, List.length_nil, xpk_succ cd_102_0, xpk_succ cd_102_1, xpk_succ cd_102_2, xpk_succ cd_102_3, xpk_succ cd_102_4, xpk_succ cd_102_7, xpk_succ cd_102_10, xpk_succ cd_102_13, xpk_succ cd_102_16, xpk_succ cd_102_17, xpk_succ cd_102_18, xpk_succ cd_102_21, xpk_succ cd_102_22, xpk_succ cd_102_23, xpk_succ cd_102_24, hK_T, hT_3, hT_4, hT_s3, hT_s4, (TB_0 hb), (TB_1 hb), (TB_2 hb), hb.1.1, hb.2.1.1, hb.2.1.2.1, hb.2.1.2.2.1, hb.2.1.2.2.2, hT_s3z, m1, m2]
  exact y
def bAt (b : Nat → Int) (n k : Nat) : Int := if k < n then b k else -1
set_option maxHeartbeats 4000000 in
theorem E_by {d : Nat} {h : AH} {J n : Nat} {b : Nat → Int} (hb : MB h J n b) {a wr pi op : Nat} {pl tk nu wd so wh on : Int} {pf g : Nat → Int} {k : Nat} (Q : Option AV → AH → Prop) : XC (d + 1) 194 [vR 76, vI (k : Int)] (hM h a pl tk nu wd wr so pi op wh on pf g) Q = Q (some (vI (bAt b n k))) (hM h a pl tk nu wd wr so pi op wh on pf g) := by
  refine XC_eq (Nat.le_of_ble_eq_true rfl) ?_ Q
  show XP d 194 0 [some (vR 76), some (vI (k : Int))] [] (hM h a pl tk nu wd wr so pi op wh on pf g) _
  have hn := hb.1.2
  unfold bAt
  by_cases z : k < n
  · have z1 : ¬ ((n : Int) ≤ (k : Int)) := by omega
    have z3 : (0 : Int) ≤ (k : Int) ∧ (k : Int) < 300 := by omega
    have v := M_b (a := a) (pl := pl) (tk := tk) (nu := nu) (wd := wd) (wr := wr) (so := so) (pi := pi) (op := op) (wh := wh) (on := on) (pf := pf) (g := g) hb (i := k) (by omega)
    rw [if_pos z]
    refine xpk_sound (stops := []) (n := 20) ?_
    simp only [sk_0, sk_1, sk_2, sk_3, sk_4, sk_5, sk_6, sk_7, sk_8, sk_iadd, sk_isub, sk_imul, sk_iand, sk_ior, sk_ixor, sk_ishl, sk_ishr, sk_iushr, sk_idiv, sk_irem, sk_ineg, sk_ladd, sk_lsub, sk_lmul, sk_land, sk_lor, sk_ldiv, sk_lrem, sk_lneg, sk_lshl, sk_lshr, sk_i2l, sk_l2i, sk_lcmp, sk_dupI, sk_dupR, sk_dup2L, sk_dup2I, sk_popI, sk_ifeq, sk_ifne, sk_iflt, sk_ifge, sk_ifgt, sk_ifle, sk_iceq, sk_icne, sk_iclt, sk_icge, sk_icgt, sk_icle, sk_goto, sk_getf, sk_putf, sk_gets, sk_iald, sk_lald, sk_bald, sk_aald, sk_iast, sk_last, sk_bast, sk_aast, sk_alen, sk_newa, sk_newt, sk_new, sk_cs1, sk_cs2, sk_cs3, sk_cs4, sk_cs5, sk_cs6, sk_cv1, sk_cv2, sk_cv3, sk_cv4, sk_cv5, sk_cv6, sk_ci1, sk_ci2, sk_ci3, sk_ret0, sk_retI, sk_retL, sk_retR, sk_sw, sk_oin, sk_max, sk_min, sk_abs, lI_0, lI_s, lL_0, lL_s, lR_0, lR_s, vIo_e, vLo_e, vOo_e, stW_I, stW_L, stW_R, stW_0, stW_z, okSt_0, okSt_s, hV_eq, hK_eq, okF_0, okF_1, okF_3, is01_0, is01_1, is01_i, Int.toNat_natCast, Int.reduceEq, Int.reduceLE, Int.reduceLT, Int.reduceNeg, Nat.reduceLT, not_true_eq_false, not_false_eq_true, reduceIte, Option.toList, List.cons_append, List.nil_append, List.set_cons_zero, List.set_cons_succ, List.not_mem_nil, List.mem_cons, if_false, if_true, ite_true, ite_false, and_self, and_true, true_and, Nat.reduceAdd, Nat.reduceLeDiff, Nat.reduceEqDiff, Nat.zero_add, Nat.le_refl, Nat.zero_le, or_false, false_or, Int.reduceToNat, or_true, true_or, eq_self, and_false, false_and, inR_d, nc_4, nc_5, nc_6, nc_7, nc_8, nc_16, nc_18, nc_20, nc_24, nc_32, nc_40, nc_64, nc_104, nc_120, nc_160, nc_256, nc_300, nc_330, nc_390, nc_1200, nc_1260, nc_3012, nc_9834, okSt_1i, okSt_1r, okSt_1n, List.length_cons, List.length_nil, xpk_succ cd_194_0, xpk_succ cd_194_1, xpk_succ cd_194_2, xpk_succ cd_194_5, xpk_succ cd_194_8, xpk_succ cd_194_9, xpk_succ cd_194_12, xpk_succ cd_194_13, xpk_succ cd_194_14, xpk_succ cd_194_17, xpk_succ cd_194_18, hM_7, hM_8, hM_9, hM_10, hM_11, hM_13, hM_14, hM_16, hM_17, hM_18, hM_19, hM_s7, hM_s8, hM_s9, hM_s10, hM_s11, hM_s13, hM_s14, hM_s16, hM_s17, hM_s18, hM_s19, hK_M, (M_2 hb), (M_3 hb), (M_4 hb), (M_12 hb), (M_15 hb), hb.2.1.1, hb.2.1.2.1, hb.2.1.2.2.1, hb.2.1.2.2.2, z1, z3, v]
  · have z1 : (n : Int) ≤ (k : Int) := by omega
    rw [if_neg z]
    refine xpk_sound (stops := []) (n := 20) ?_
    simp only [sk_0, sk_1, sk_2, sk_3, sk_4, sk_5, sk_6, sk_7, sk_8, sk_iadd, sk_isub, sk_imul, sk_iand, sk_ior, sk_ixor, sk_ishl, sk_ishr, sk_iushr, sk_idiv, sk_irem, sk_ineg, sk_ladd, sk_lsub, sk_lmul, sk_land, sk_lor, sk_ldiv, sk_lrem, sk_lneg, sk_lshl, sk_lshr, sk_i2l, sk_l2i, sk_lcmp, sk_dupI, sk_dupR, sk_dup2L, sk_dup2I, sk_popI, sk_ifeq, sk_ifne, sk_iflt, sk_ifge, sk_ifgt, sk_ifle, sk_iceq, sk_icne, sk_iclt, sk_icge, sk_icgt, sk_icle, sk_goto, sk_getf, sk_putf, sk_gets, sk_iald, sk_lald, sk_bald, sk_aald, sk_iast, sk_last, sk_bast, sk_aast, sk_alen, sk_newa, sk_newt, sk_new, sk_cs1, sk_cs2, sk_cs3, sk_cs4, sk_cs5, sk_cs6, sk_cv1, sk_cv2, sk_cv3, sk_cv4, sk_cv5, sk_cv6, sk_ci1, sk_ci2, sk_ci3, sk_ret0, sk_retI, sk_retL, sk_retR, sk_sw, sk_oin, sk_max, sk_min, sk_abs, lI_0, lI_s, lL_0, lL_s, lR_0, lR_s, vIo_e, vLo_e, vOo_e, stW_I, stW_L, stW_R, stW_0, stW_z, okSt_0, okSt_s, hV_eq, hK_eq, okF_0, okF_1, okF_3, is01_0, is01_1, is01_i, Int.toNat_natCast, Int.reduceEq, Int.reduceLE, Int.reduceLT, Int.reduceNeg, Nat.reduceLT, not_true_eq_false, not_false_eq_true, reduceIte, Option.toList, List.cons_append, List.nil_append, List.set_cons_zero, List.set_cons_succ, List.not_mem_nil, List.mem_cons, if_false, if_true, ite_true, ite_false, and_self, and_true, true_and, Nat.reduceAdd, Nat.reduceLeDiff, Nat.reduceEqDiff, Nat.zero_add, Nat.le_refl, Nat.zero_le, or_false, false_or, Int.reduceToNat, or_true, true_or, eq_self, and_false, false_and, inR_d, nc_4, nc_5, nc_6, nc_7, nc_8, nc_16, nc_18, nc_20, nc_24, nc_32, nc_40, nc_64, nc_104, nc_120, nc_160, nc_256, nc_300, nc_330, nc_390, nc_1200, nc_1260, nc_3012, nc_9834, okSt_1i, okSt_1r, okSt_1n, List.length_cons, List.length_nil, xpk_succ cd_194_0, xpk_succ cd_194_1, xpk_succ cd_194_2, xpk_succ cd_194_5, xpk_succ cd_194_8, xpk_succ cd_194_9, xpk_succ cd_194_12, xpk_succ cd_194_13, xpk_succ cd_194_14, xpk_succ cd_194_17, xpk_succ cd_194_18, hM_7, hM_8, hM_9, hM_10, hM_11, hM_13, hM_14, hM_16, hM_17, hM_18, hM_19, hM_s7, hM_s8, hM_s9, hM_s10, hM_s11, hM_s13, hM_s14, hM_s16, hM_s17, hM_s18, hM_s19, hK_M, (M_2 hb), (M_3 hb), (M_4 hb), (M_12 hb), (M_15 hb), hb.2.1.1, hb.2.1.2.1, hb.2.1.2.2.1, hb.2.1.2.2.2, z1]
set_option maxHeartbeats 4000000 in
theorem E_fg {d : Nat} {g : AH} {c : Int} (Q : Option AV → AH → Prop) : XC (d + 1) 196 [vI c] g Q = Q (some (vI (b01 (dgB c)))) g := by
  refine XC_eq (Nat.le_of_ble_eq_true rfl) ?_ Q
  show XP d 196 0 [some (vI c)] [] g _
  by_cases z1 : c < 48
  · rw [show dgB c = false from dgB_0.mpr (by omega), show b01 false = 0 from rfl]
    refine xpk_sound (stops := []) (n := 20) ?_
    simp only [sk_0, sk_1, sk_2, sk_3, sk_4, sk_5, sk_6, sk_7, sk_8, sk_iadd, sk_isub, sk_imul, sk_iand, sk_ior, sk_ixor, sk_ishl, sk_ishr, sk_iushr, sk_idiv, sk_irem, sk_ineg, sk_ladd, sk_lsub, sk_lmul, sk_land, sk_lor, sk_ldiv, sk_lrem, sk_lneg, sk_lshl, sk_lshr, sk_i2l, sk_l2i, sk_lcmp, sk_dupI, sk_dupR, sk_dup2L, sk_dup2I, sk_popI, sk_ifeq, sk_ifne, sk_iflt, sk_ifge, sk_ifgt, sk_ifle, sk_iceq, sk_icne, sk_iclt, sk_icge, sk_icgt, sk_icle, sk_goto, sk_getf, sk_putf, sk_gets, sk_iald, sk_lald, sk_bald, sk_aald, sk_iast, sk_last, sk_bast, sk_aast, sk_alen, sk_newa, sk_newt, sk_new, sk_cs1, sk_cs2, sk_cs3, sk_cs4, sk_cs5, sk_cs6, sk_cv1, sk_cv2, sk_cv3, sk_cv4, sk_cv5, sk_cv6, sk_ci1, sk_ci2, sk_ci3, sk_ret0, sk_retI, sk_retL, sk_retR, sk_sw, sk_oin, sk_max, sk_min, sk_abs, lI_0, lI_s, lL_0, lL_s, lR_0, lR_s, vIo_e, vLo_e, vOo_e, stW_I, stW_L, stW_R, stW_0, stW_z, okSt_0, okSt_s, hV_eq, hK_eq, okF_0, okF_1, okF_3, is01_0, is01_1, is01_i, Int.toNat_natCast, Int.reduceEq, Int.reduceLE, Int.reduceLT, Int.reduceNeg, Nat.reduceLT, not_true_eq_false, not_false_eq_true, reduceIte, Option.toList, List.cons_append, List.nil_append, List.set_cons_zero, List.set_cons_succ, List.not_mem_nil, List.mem_cons, if_false, if_true, ite_true, ite_false, and_self, and_true, true_and, Nat.reduceAdd, Nat.reduceLeDiff, Nat.reduceEqDiff, Nat.zero_add, Nat.le_refl, Nat.zero_le, or_false, false_or, Int.reduceToNat, or_true, true_or, eq_self, and_false, false_and, inR_d, nc_4, nc_5, nc_6, nc_7, nc_8, nc_16, nc_18, nc_20, nc_24, nc_32, nc_40, nc_64, nc_104, nc_120, nc_160, nc_256, nc_300, nc_330, nc_390, nc_1200, nc_1260, nc_3012, nc_9834, okSt_1i, okSt_1r, okSt_1n, List.length_cons, List.length_nil, xpk_succ cd_196_0, xpk_succ cd_196_1, xpk_succ cd_196_3, xpk_succ cd_196_6, xpk_succ cd_196_7, xpk_succ cd_196_9, xpk_succ cd_196_12, xpk_succ cd_196_13, xpk_succ cd_196_16, xpk_succ cd_196_17, z1]
  · by_cases z2 : 57 < c
    · rw [show dgB c = false from dgB_0.mpr (by omega), show b01 false = 0 from rfl]
      refine xpk_sound (stops := []) (n := 20) ?_
      simp only [sk_0, sk_1, sk_2, sk_3, sk_4, sk_5, sk_6, sk_7, sk_8, sk_iadd, sk_isub, sk_imul, sk_iand, sk_ior, sk_ixor, sk_ishl, sk_ishr, sk_iushr, sk_idiv, sk_irem, sk_ineg, sk_ladd, sk_lsub, sk_lmul, sk_land, sk_lor, sk_ldiv, sk_lrem, sk_lneg, sk_lshl, sk_lshr, sk_i2l, sk_l2i, sk_lcmp, sk_dupI, sk_dupR, sk_dup2L, sk_dup2I, sk_popI, sk_ifeq, sk_ifne, sk_iflt, sk_ifge, sk_ifgt, sk_ifle, sk_iceq, sk_icne, sk_iclt, sk_icge, sk_icgt, sk_icle, sk_goto, sk_getf, sk_putf, sk_gets, sk_iald, sk_lald, sk_bald, sk_aald, sk_iast, sk_last, sk_bast, sk_aast, sk_alen, sk_newa, sk_newt, sk_new, sk_cs1, sk_cs2, sk_cs3, sk_cs4, sk_cs5, sk_cs6, sk_cv1, sk_cv2, sk_cv3, sk_cv4, sk_cv5, sk_cv6, sk_ci1, sk_ci2, sk_ci3, sk_ret0, sk_retI, sk_retL, sk_retR, sk_sw, sk_oin, sk_max, sk_min, sk_abs, lI_0, lI_s, lL_0, lL_s, lR_0, lR_s, vIo_e, vLo_e, vOo_e, stW_I, stW_L, stW_R, stW_0, stW_z, okSt_0, okSt_s, hV_eq, hK_eq, okF_0, okF_1, okF_3, is01_0, is01_1, is01_i, Int.toNat_natCast, Int.reduceEq, Int.reduceLE, Int.reduceLT, Int.reduceNeg, Nat.reduceLT, not_true_eq_false, not_false_eq_true, reduceIte, Option.toList, List.cons_append, List.nil_append, List.set_cons_zero, List.set_cons_succ, List.not_mem_nil, List.mem_cons, if_false, if_true, ite_true, ite_false, and_self, and_true, true_and, Nat.reduceAdd, Nat.reduceLeDiff, Nat.reduceEqDiff, Nat.zero_add, Nat.le_refl, Nat.zero_le, or_false, false_or, Int.reduceToNat, or_true, true_or, eq_self, and_false, false_and, inR_d, nc_4, nc_5, nc_6, nc_7, nc_8, nc_16, nc_18, nc_20, nc_24, nc_32, nc_40, nc_64, nc_104, nc_120, nc_160, nc_256, nc_300, nc_330, nc_390, nc_1200, nc_1260, nc_3012, nc_9834, okSt_1i, okSt_1r, okSt_1n, List.length_cons, List.length_nil, xpk_succ cd_196_0, xpk_succ cd_196_1, xpk_succ cd_196_3, xpk_succ cd_196_6, xpk_succ cd_196_7, xpk_succ cd_196_9, xpk_succ cd_196_12, xpk_succ cd_196_13, xpk_succ cd_196_16, xpk_succ cd_196_17, z1, z2]
    · rw [show dgB c = true from dgB_1.mpr (by omega), show b01 true = 1 from rfl]
      refine xpk_sound (stops := []) (n := 20) ?_
      simp only [sk_0, sk_1, sk_2, sk_3, sk_4, sk_5, sk_6, sk_7, sk_8, sk_iadd, sk_isub, sk_imul, sk_iand, sk_ior, sk_ixor, sk_ishl, sk_ishr, sk_iushr, sk_idiv, sk_irem, sk_ineg, sk_ladd, sk_lsub, sk_lmul, sk_land, sk_lor, sk_ldiv, sk_lrem, sk_lneg, sk_lshl, sk_lshr, sk_i2l, sk_l2i, sk_lcmp, sk_dupI, sk_dupR, sk_dup2L, sk_dup2I, sk_popI, sk_ifeq, sk_ifne, sk_iflt, sk_ifge, sk_ifgt, sk_ifle, sk_iceq, sk_icne, sk_iclt, sk_icge, sk_icgt, sk_icle, sk_goto, sk_getf, sk_putf, sk_gets, sk_iald, sk_lald, sk_bald, sk_aald, sk_iast, sk_last, sk_bast, sk_aast, sk_alen, sk_newa, sk_newt, sk_new, sk_cs1, sk_cs2, sk_cs3, sk_cs4, sk_cs5, sk_cs6, sk_cv1, sk_cv2, sk_cv3, sk_cv4, sk_cv5, sk_cv6, sk_ci1, sk_ci2, sk_ci3, sk_ret0, sk_retI, sk_retL, sk_retR, sk_sw, sk_oin, sk_max, sk_min, sk_abs, lI_0, lI_s, lL_0, lL_s, lR_0, lR_s, vIo_e, vLo_e, vOo_e, stW_I, stW_L, stW_R, stW_0, stW_z, okSt_0, okSt_s, hV_eq, hK_eq, okF_0, okF_1, okF_3, is01_0, is01_1, is01_i, Int.toNat_natCast, Int.reduceEq, Int.reduceLE, Int.reduceLT, Int.reduceNeg, Nat.reduceLT, not_true_eq_false, not_false_eq_true, reduceIte, Option.toList, List.cons_append, List.nil_append, List.set_cons_zero, List.set_cons_succ, List.not_mem_nil, List.mem_cons, if_false, if_true, ite_true, ite_false, and_self, and_true, true_and, Nat.reduceAdd, Nat.reduceLeDiff, Nat.reduceEqDiff, Nat.zero_add, Nat.le_refl, Nat.zero_le, or_false, false_or, Int.reduceToNat, or_true, true_or, eq_self, and_false, false_and, inR_d, nc_4, nc_5, nc_6, nc_7, nc_8, nc_16, nc_18, nc_20, nc_24, nc_32, nc_40, nc_64, nc_104, nc_120, nc_160, nc_256, nc_300, nc_330, nc_390, nc_1200, nc_1260, nc_3012, nc_9834, okSt_1i, okSt_1r, okSt_1n, List.length_cons, List.length_nil, xpk_succ cd_196_0, xpk_succ cd_196_1, xpk_succ cd_196_3, xpk_succ cd_196_6, xpk_succ cd_196_7, xpk_succ cd_196_9, xpk_succ cd_196_12, xpk_succ cd_196_13, xpk_succ cd_196_16, xpk_succ cd_196_17, z1, z2]
set_option maxHeartbeats 4000000 in
theorem E_lb {d : Nat} {g : AH} {c : Int} (Q : Option AV → AH → Prop) : XC (d + 1) 195 [vI c] g Q = Q (some (vI (b01 (ltB c)))) g := by
  refine XC_eq (Nat.le_of_ble_eq_true rfl) ?_ Q
  show XP d 195 0 [some (vI c)] [] g _
  by_cases z1 : c < 97
  · by_cases z3 : c < 65
    · rw [show ltB c = false from ltB_0.mpr (by omega), show b01 false = 0 from rfl]
      refine xpk_sound (stops := []) (n := 30) ?_
      simp only [sk_0, sk_1, sk_2, sk_3, sk_4, sk_5, sk_6, sk_7, sk_8, sk_iadd, sk_isub, sk_imul, sk_iand, sk_ior, sk_ixor, sk_ishl, sk_ishr, sk_iushr, sk_idiv, sk_irem, sk_ineg, sk_ladd, sk_lsub, sk_lmul, sk_land, sk_lor, sk_ldiv, sk_lrem, sk_lneg, sk_lshl, sk_lshr, sk_i2l, sk_l2i, sk_lcmp, sk_dupI, sk_dupR, sk_dup2L, sk_dup2I, sk_popI, sk_ifeq, sk_ifne, sk_iflt, sk_ifge, sk_ifgt, sk_ifle, sk_iceq, sk_icne, sk_iclt, sk_icge, sk_icgt, sk_icle, sk_goto, sk_getf, sk_putf, sk_gets, sk_iald, sk_lald, sk_bald, sk_aald, sk_iast, sk_last, sk_bast, sk_aast, sk_alen, sk_newa, sk_newt, sk_new, sk_cs1, sk_cs2, sk_cs3, sk_cs4, sk_cs5, sk_cs6, sk_cv1, sk_cv2, sk_cv3, sk_cv4, sk_cv5, sk_cv6, sk_ci1, sk_ci2, sk_ci3, sk_ret0, sk_retI, sk_retL, sk_retR, sk_sw, sk_oin, sk_max, sk_min, sk_abs, lI_0, lI_s, lL_0, lL_s, lR_0, lR_s, vIo_e, vLo_e, vOo_e, stW_I, stW_L, stW_R, stW_0, stW_z, okSt_0, okSt_s, hV_eq, hK_eq, okF_0, okF_1, okF_3, is01_0, is01_1, is01_i, Int.toNat_natCast, Int.reduceEq, Int.reduceLE, Int.reduceLT, Int.reduceNeg, Nat.reduceLT, not_true_eq_false, not_false_eq_true, reduceIte, Option.toList, List.cons_append, List.nil_append, List.set_cons_zero, List.set_cons_succ, List.not_mem_nil, List.mem_cons, if_false, if_true, ite_true, ite_false, and_self, and_true, true_and, Nat.reduceAdd, Nat.reduceLeDiff, Nat.reduceEqDiff, Nat.zero_add, Nat.le_refl, Nat.zero_le, or_false, false_or, Int.reduceToNat, or_true, true_or, eq_self, and_false, false_and, inR_d, nc_4, nc_5, nc_6, nc_7, nc_8, nc_16, nc_18, nc_20, nc_24, nc_32, nc_40, nc_64, nc_104, nc_120, nc_160, nc_256, nc_300, nc_330, nc_390, nc_1200, nc_1260, nc_3012, nc_9834, okSt_1i, okSt_1r, okSt_1n, List.length_cons, List.length_nil, xpk_succ cd_195_0, xpk_succ cd_195_1, xpk_succ cd_195_3, xpk_succ cd_195_6, xpk_succ cd_195_7, xpk_succ cd_195_9, xpk_succ cd_195_12, xpk_succ cd_195_13, xpk_succ cd_195_15, xpk_succ cd_195_18, xpk_succ cd_195_19, xpk_succ cd_195_21, xpk_succ cd_195_24, xpk_succ cd_195_25, xpk_succ cd_195_28, xpk_succ cd_195_29, z1, z3]
    · by_cases z4 : 90 < c
      · rw [show ltB c = false from ltB_0.mpr (by omega), show b01 false = 0 from rfl]
        refine xpk_sound (stops := []) (n := 30) ?_
        simp only [sk_0, sk_1, sk_2, sk_3, sk_4, sk_5, sk_6, sk_7, sk_8, sk_iadd, sk_isub, sk_imul, sk_iand, sk_ior, sk_ixor, sk_ishl, sk_ishr, sk_iushr, sk_idiv, sk_irem, sk_ineg, sk_ladd, sk_lsub, sk_lmul, sk_land, sk_lor, sk_ldiv, sk_lrem, sk_lneg, sk_lshl, sk_lshr, sk_i2l, sk_l2i, sk_lcmp, sk_dupI, sk_dupR, sk_dup2L, sk_dup2I, sk_popI, sk_ifeq, sk_ifne, sk_iflt, sk_ifge, sk_ifgt, sk_ifle, sk_iceq, sk_icne, sk_iclt, sk_icge, sk_icgt, sk_icle, sk_goto, sk_getf, sk_putf, sk_gets, sk_iald, sk_lald, sk_bald, sk_aald, sk_iast, sk_last, sk_bast, sk_aast, sk_alen, sk_newa, sk_newt, sk_new, sk_cs1, sk_cs2, sk_cs3, sk_cs4, sk_cs5, sk_cs6, sk_cv1, sk_cv2, sk_cv3, sk_cv4, sk_cv5, sk_cv6, sk_ci1, sk_ci2, sk_ci3, sk_ret0, sk_retI, sk_retL, sk_retR, sk_sw, sk_oin, sk_max, sk_min, sk_abs, lI_0, lI_s, lL_0, lL_s, lR_0, lR_s, vIo_e, vLo_e, vOo_e, stW_I, stW_L, stW_R, stW_0, stW_z, okSt_0, okSt_s, hV_eq, hK_eq, okF_0, okF_1, okF_3, is01_0, is01_1, is01_i, Int.toNat_natCast, Int.reduceEq, Int.reduceLE, Int.reduceLT, Int.reduceNeg, Nat.reduceLT, not_true_eq_false, not_false_eq_true, reduceIte, Option.toList, List.cons_append, List.nil_append, List.set_cons_zero, List.set_cons_succ, List.not_mem_nil, List.mem_cons, if_false, if_true, ite_true, ite_false, and_self, and_true, true_and, Nat.reduceAdd, Nat.reduceLeDiff, Nat.reduceEqDiff, Nat.zero_add, Nat.le_refl, Nat.zero_le, or_false, false_or, Int.reduceToNat, or_true, true_or, eq_self, and_false, false_and, inR_d, nc_4, nc_5, nc_6, nc_7, nc_8, nc_16, nc_18, nc_20, nc_24, nc_32, nc_40, nc_64, nc_104, nc_120, nc_160, nc_256, nc_300, nc_330, nc_390, nc_1200, nc_1260, nc_3012, nc_9834, okSt_1i, okSt_1r, okSt_1n, List.length_cons, List.length_nil, xpk_succ cd_195_0, xpk_succ cd_195_1, xpk_succ cd_195_3, xpk_succ cd_195_6, xpk_succ cd_195_7, xpk_succ cd_195_9, xpk_succ cd_195_12, xpk_succ cd_195_13, xpk_succ cd_195_15, xpk_succ cd_195_18, xpk_succ cd_195_19, xpk_succ cd_195_21, xpk_succ cd_195_24, xpk_succ cd_195_25, xpk_succ cd_195_28, xpk_succ cd_195_29, z1, z3, z4]
      · rw [show ltB c = true from ltB_1.mpr (by omega), show b01 true = 1 from rfl]
        refine xpk_sound (stops := []) (n := 30) ?_
        simp only [sk_0, sk_1, sk_2, sk_3, sk_4, sk_5, sk_6, sk_7, sk_8, sk_iadd, sk_isub, sk_imul, sk_iand, sk_ior, sk_ixor, sk_ishl, sk_ishr, sk_iushr, sk_idiv, sk_irem, sk_ineg, sk_ladd, sk_lsub, sk_lmul, sk_land, sk_lor, sk_ldiv, sk_lrem, sk_lneg, sk_lshl, sk_lshr, sk_i2l, sk_l2i, sk_lcmp, sk_dupI, sk_dupR, sk_dup2L, sk_dup2I, sk_popI, sk_ifeq, sk_ifne, sk_iflt, sk_ifge, sk_ifgt, sk_ifle, sk_iceq, sk_icne, sk_iclt, sk_icge, sk_icgt, sk_icle, sk_goto, sk_getf, sk_putf, sk_gets, sk_iald, sk_lald, sk_bald, sk_aald, sk_iast, sk_last, sk_bast, sk_aast, sk_alen, sk_newa, sk_newt, sk_new, sk_cs1, sk_cs2, sk_cs3, sk_cs4, sk_cs5, sk_cs6, sk_cv1, sk_cv2, sk_cv3, sk_cv4, sk_cv5, sk_cv6, sk_ci1, sk_ci2, sk_ci3, sk_ret0, sk_retI, sk_retL, sk_retR, sk_sw, sk_oin, sk_max, sk_min, sk_abs, lI_0, lI_s, lL_0, lL_s, lR_0, lR_s, vIo_e, vLo_e, vOo_e, stW_I, stW_L, stW_R, stW_0, stW_z, okSt_0, okSt_s, hV_eq, hK_eq, okF_0, okF_1, okF_3, is01_0, is01_1, is01_i, Int.toNat_natCast, Int.reduceEq, Int.reduceLE, Int.reduceLT, Int.reduceNeg, Nat.reduceLT, not_true_eq_false, not_false_eq_true, reduceIte, Option.toList, List.cons_append, List.nil_append, List.set_cons_zero, List.set_cons_succ, List.not_mem_nil, List.mem_cons, if_false, if_true, ite_true, ite_false, and_self, and_true, true_and, Nat.reduceAdd, Nat.reduceLeDiff, Nat.reduceEqDiff, Nat.zero_add, Nat.le_refl, Nat.zero_le, or_false, false_or, Int.reduceToNat, or_true, true_or, eq_self, and_false, false_and, inR_d, nc_4, nc_5, nc_6, nc_7, nc_8, nc_16, nc_18, nc_20, nc_24, nc_32, nc_40, nc_64, nc_104, nc_120, nc_160, nc_256, nc_300, nc_330, nc_390, nc_1200, nc_1260, nc_3012, nc_9834, okSt_1i, okSt_1r, okSt_1n, List.length_cons, List.length_nil, xpk_succ cd_195_0, xpk_succ cd_195_1, xpk_succ cd_195_3, xpk_succ cd_195_6, xpk_succ cd_195_7, xpk_succ cd_195_9, xpk_succ cd_195_12, xpk_succ cd_195_13, xpk_succ cd_195_15, xpk_succ cd_195_18, xpk_succ cd_195_19, xpk_succ cd_195_21, xpk_succ cd_195_24, xpk_succ cd_195_25, xpk_succ cd_195_28, xpk_succ cd_195_29, z1, z3, z4]
  · by_cases z2 : c ≤ 122
    · rw [show ltB c = true from ltB_1.mpr (by omega), show b01 true = 1 from rfl]
      refine xpk_sound (stops := []) (n := 30) ?_
      simp only [sk_0, sk_1, sk_2, sk_3, sk_4, sk_5, sk_6, sk_7, sk_8, sk_iadd, sk_isub, sk_imul, sk_iand, sk_ior, sk_ixor, sk_ishl, sk_ishr, sk_iushr, sk_idiv, sk_irem, sk_ineg, sk_ladd, sk_lsub, sk_lmul, sk_land, sk_lor, sk_ldiv, sk_lrem, sk_lneg, sk_lshl, sk_lshr, sk_i2l, sk_l2i, sk_lcmp, sk_dupI, sk_dupR, sk_dup2L, sk_dup2I, sk_popI, sk_ifeq, sk_ifne, sk_iflt, sk_ifge, sk_ifgt, sk_ifle, sk_iceq, sk_icne, sk_iclt, sk_icge, sk_icgt, sk_icle, sk_goto, sk_getf, sk_putf, sk_gets, sk_iald, sk_lald, sk_bald, sk_aald, sk_iast, sk_last, sk_bast, sk_aast, sk_alen, sk_newa, sk_newt, sk_new, sk_cs1, sk_cs2, sk_cs3, sk_cs4, sk_cs5, sk_cs6, sk_cv1, sk_cv2, sk_cv3, sk_cv4, sk_cv5, sk_cv6, sk_ci1, sk_ci2, sk_ci3, sk_ret0, sk_retI, sk_retL, sk_retR, sk_sw, sk_oin, sk_max, sk_min, sk_abs, lI_0, lI_s, lL_0, lL_s, lR_0, lR_s, vIo_e, vLo_e, vOo_e, stW_I, stW_L, stW_R, stW_0, stW_z, okSt_0, okSt_s, hV_eq, hK_eq, okF_0, okF_1, okF_3, is01_0, is01_1, is01_i, Int.toNat_natCast, Int.reduceEq, Int.reduceLE, Int.reduceLT, Int.reduceNeg, Nat.reduceLT, not_true_eq_false, not_false_eq_true, reduceIte, Option.toList, List.cons_append, List.nil_append, List.set_cons_zero, List.set_cons_succ, List.not_mem_nil, List.mem_cons, if_false, if_true, ite_true, ite_false, and_self, and_true, true_and, Nat.reduceAdd, Nat.reduceLeDiff, Nat.reduceEqDiff, Nat.zero_add, Nat.le_refl, Nat.zero_le, or_false, false_or, Int.reduceToNat, or_true, true_or, eq_self, and_false, false_and, inR_d, nc_4, nc_5, nc_6, nc_7, nc_8, nc_16, nc_18, nc_20, nc_24, nc_32, nc_40, nc_64, nc_104, nc_120, nc_160, nc_256, nc_300, nc_330, nc_390, nc_1200, nc_1260, nc_3012, nc_9834, okSt_1i, okSt_1r, okSt_1n, List.length_cons, List.length_nil, xpk_succ cd_195_0, xpk_succ cd_195_1, xpk_succ cd_195_3, xpk_succ cd_195_6, xpk_succ cd_195_7, xpk_succ cd_195_9, xpk_succ cd_195_12, xpk_succ cd_195_13, xpk_succ cd_195_15, xpk_succ cd_195_18, xpk_succ cd_195_19, xpk_succ cd_195_21, xpk_succ cd_195_24, xpk_succ cd_195_25, xpk_succ cd_195_28, xpk_succ cd_195_29, z1, z2]
    · have z3 : ¬ c < 65 := by omega
      have z4 : 90 < c := by omega
      rw [show ltB c = false from ltB_0.mpr (by omega), show b01 false = 0 from rfl]
      refine xpk_sound (stops := []) (n := 30) ?_
      simp only [sk_0, sk_1, sk_2, sk_3, sk_4, sk_5, sk_6, sk_7, sk_8, sk_iadd, sk_isub, sk_imul, sk_iand, sk_ior, sk_ixor, sk_ishl, sk_ishr, sk_iushr, sk_idiv, sk_irem, sk_ineg, sk_ladd, sk_lsub, sk_lmul, sk_land, sk_lor, sk_ldiv, sk_lrem, sk_lneg, sk_lshl, sk_lshr, sk_i2l, sk_l2i, sk_lcmp, sk_dupI, sk_dupR, sk_dup2L, sk_dup2I, sk_popI, sk_ifeq, sk_ifne, sk_iflt, sk_ifge, sk_ifgt, sk_ifle, sk_iceq, sk_icne, sk_iclt, sk_icge, sk_icgt, sk_icle, sk_goto, sk_getf, sk_putf, sk_gets, sk_iald, sk_lald, sk_bald, sk_aald, sk_iast, sk_last, sk_bast, sk_aast, sk_alen, sk_newa, sk_newt, sk_new, sk_cs1, sk_cs2, sk_cs3, sk_cs4, sk_cs5, sk_cs6, sk_cv1, sk_cv2, sk_cv3, sk_cv4, sk_cv5, sk_cv6, sk_ci1, sk_ci2, sk_ci3, sk_ret0, sk_retI, sk_retL, sk_retR, sk_sw, sk_oin, sk_max, sk_min, sk_abs, lI_0, lI_s, lL_0, lL_s, lR_0, lR_s, vIo_e, vLo_e, vOo_e, stW_I, stW_L, stW_R, stW_0, stW_z, okSt_0, okSt_s, hV_eq, hK_eq, okF_0, okF_1, okF_3, is01_0, is01_1, is01_i, Int.toNat_natCast, Int.reduceEq, Int.reduceLE, Int.reduceLT, Int.reduceNeg, Nat.reduceLT, not_true_eq_false, not_false_eq_true, reduceIte, Option.toList, List.cons_append, List.nil_append, List.set_cons_zero, List.set_cons_succ, List.not_mem_nil, List.mem_cons, if_false, if_true, ite_true, ite_false, and_self, and_true, true_and, Nat.reduceAdd, Nat.reduceLeDiff, Nat.reduceEqDiff, Nat.zero_add, Nat.le_refl, Nat.zero_le, or_false, false_or, Int.reduceToNat, or_true, true_or, eq_self, and_false, false_and, inR_d, nc_4, nc_5, nc_6, nc_7, nc_8, nc_16, nc_18, nc_20, nc_24, nc_32, nc_40, nc_64, nc_104, nc_120, nc_160, nc_256, nc_300, nc_330, nc_390, nc_1200, nc_1260, nc_3012, nc_9834, okSt_1i, okSt_1r, okSt_1n, List.length_cons, List.length_nil, xpk_succ cd_195_0, xpk_succ cd_195_1, xpk_succ cd_195_3, xpk_succ cd_195_6, xpk_succ cd_195_7, xpk_succ cd_195_9, xpk_succ cd_195_12, xpk_succ cd_195_13, xpk_succ cd_195_15, xpk_succ cd_195_18, xpk_succ cd_195_19, xpk_succ cd_195_21, xpk_succ cd_195_24, xpk_succ cd_195_25, xpk_succ cd_195_28, xpk_succ cd_195_29, z1, z2, z3, z4]
def sgB (c : Int) : Bool := decide (c = 60 ∨ c = 62 ∨ c = 61 ∨ c = 35 ∨ c = 43 ∨ c = 45 ∨ c = 42 ∨ c = 47 ∨ c = 40 ∨ c = 41 ∨ c = 59)
theorem sw_197 {c : Int} : swF c 130 [(35, 128), (36, 130), (37, 130), (38, 130), (39, 130), (40, 128), (41, 128), (42, 128), (43, 128), (44, 130), (45, 128), (46, 130), (47, 128), (48, 130), (49, 130), (50, 130), (51, 130), (52, 130), (53, 130), (54, 130), (55, 130), (56, 130), (57, 130), (58, 130), (59, 128), (60, 128), (61, 128), (62, 128)] = (if c = 60 ∨ c = 62 ∨ c = 61 ∨ c = 35 ∨ c = 43 ∨ c = 45 ∨ c = 42 ∨ c = 47 ∨ c = 40 ∨ c = 41 ∨ c = 59 then 128 else 130) := by
  simp only [swF]
  by_cases z60 : c = 60
  · subst z60; rfl
  by_cases z62 : c = 62
  · subst z62; rfl
  by_cases z61 : c = 61
  · subst z61; rfl
  by_cases z35 : c = 35
  · subst z35; rfl
  by_cases z43 : c = 43
  · subst z43; rfl
  by_cases z45 : c = 45
  · subst z45; rfl
  by_cases z42 : c = 42
  · subst z42; rfl
  by_cases z47 : c = 47
  · subst z47; rfl
  by_cases z40 : c = 40
  · subst z40; rfl
  by_cases z41 : c = 41
  · subst z41; rfl
  by_cases z59 : c = 59
  · subst z59; rfl
  rw [if_neg (show ¬ (c = 60 ∨ c = 62 ∨ c = 61 ∨ c = 35 ∨ c = 43 ∨ c = 45 ∨ c = 42 ∨ c = 47 ∨ c = 40 ∨ c = 41 ∨ c = 59) by omega)]
  simp only [if_neg z60, if_neg z62, if_neg z61, if_neg z35, if_neg z43, if_neg z45, if_neg z42, if_neg z47, if_neg z40, if_neg z41, if_neg z59, ite_self]
set_option maxHeartbeats 4000000 in
theorem E_sn {d : Nat} {g : AH} {c : Int} (Q : Option AV → AH → Prop) : XC (d + 1) 197 [vI c] g Q = Q (some (vI (b01 (sgB c)))) g := by
  refine XC_eq (Nat.le_of_ble_eq_true rfl) ?_ Q
  show XP d 197 0 [some (vI c)] [] g _
  by_cases z : c = 60 ∨ c = 62 ∨ c = 61 ∨ c = 35 ∨ c = 43 ∨ c = 45 ∨ c = 42 ∨ c = 47 ∨ c = 40 ∨ c = 41 ∨ c = 59
  · have sw : swF c 130 [(35, 128), (36, 130), (37, 130), (38, 130), (39, 130), (40, 128), (41, 128), (42, 128), (43, 128), (44, 130), (45, 128), (46, 130), (47, 128), (48, 130), (49, 130), (50, 130), (51, 130), (52, 130), (53, 130), (54, 130), (55, 130), (56, 130), (57, 130), (58, 130), (59, 128), (60, 128), (61, 128), (62, 128)] = 128 := by rw [sw_197, if_pos z]
    rw [show sgB c = true from decide_eq_true z, show b01 true = 1 from rfl]
    refine xpk_sound (stops := []) (n := 20) ?_
    simp only [sk_0, sk_1, sk_2, sk_3, sk_4, sk_5, sk_6, sk_7, sk_8, sk_iadd, sk_isub, sk_imul, sk_iand, sk_ior, sk_ixor, sk_ishl, sk_ishr, sk_iushr, sk_idiv, sk_irem, sk_ineg, sk_ladd, sk_lsub, sk_lmul, sk_land, sk_lor, sk_ldiv, sk_lrem, sk_lneg, sk_lshl, sk_lshr, sk_i2l, sk_l2i, sk_lcmp, sk_dupI, sk_dupR, sk_dup2L, sk_dup2I, sk_popI, sk_ifeq, sk_ifne, sk_iflt, sk_ifge, sk_ifgt, sk_ifle, sk_iceq, sk_icne, sk_iclt, sk_icge, sk_icgt, sk_icle, sk_goto, sk_getf, sk_putf, sk_gets, sk_iald, sk_lald, sk_bald, sk_aald, sk_iast, sk_last, sk_bast, sk_aast, sk_alen, sk_newa, sk_newt, sk_new, sk_cs1, sk_cs2, sk_cs3, sk_cs4, sk_cs5, sk_cs6, sk_cv1, sk_cv2, sk_cv3, sk_cv4, sk_cv5, sk_cv6, sk_ci1, sk_ci2, sk_ci3, sk_ret0, sk_retI, sk_retL, sk_retR, sk_sw, sk_oin, sk_max, sk_min, sk_abs, lI_0, lI_s, lL_0, lL_s, lR_0, lR_s, vIo_e, vLo_e, vOo_e, stW_I, stW_L, stW_R, stW_0, stW_z, okSt_0, okSt_s, hV_eq, hK_eq, okF_0, okF_1, okF_3, is01_0, is01_1, is01_i, Int.toNat_natCast, Int.reduceEq, Int.reduceLE, Int.reduceLT, Int.reduceNeg, Nat.reduceLT, not_true_eq_false, not_false_eq_true, reduceIte, Option.toList, List.cons_append, List.nil_append, List.set_cons_zero, List.set_cons_succ, List.not_mem_nil, List.mem_cons, if_false, if_true, ite_true, ite_false, and_self, and_true, true_and, Nat.reduceAdd, Nat.reduceLeDiff, Nat.reduceEqDiff, Nat.zero_add, Nat.le_refl, Nat.zero_le, or_false, false_or, Int.reduceToNat, or_true, true_or, eq_self, and_false, false_and, inR_d, nc_4, nc_5, nc_6, nc_7, nc_8, nc_16, nc_18, nc_20, nc_24, nc_32, nc_40, nc_64, nc_104, nc_120, nc_160, nc_256, nc_300, nc_330, nc_390, nc_1200, nc_1260, nc_3012, nc_9834, okSt_1i, okSt_1r, okSt_1n, List.length_cons, List.length_nil, xpk_succ cd_197_0, xpk_succ cd_197_1, xpk_succ cd_197_128, xpk_succ cd_197_129, xpk_succ cd_197_130, xpk_succ cd_197_131, sw]
  · have sw : swF c 130 [(35, 128), (36, 130), (37, 130), (38, 130), (39, 130), (40, 128), (41, 128), (42, 128), (43, 128), (44, 130), (45, 128), (46, 130), (47, 128), (48, 130), (49, 130), (50, 130), (51, 130), (52, 130), (53, 130), (54, 130), (55, 130), (56, 130), (57, 130), (58, 130), (59, 128), (60, 128), (61, 128), (62, 128)] = 130 := by rw [sw_197, if_neg z]
    rw [show sgB c = false from decide_eq_false z, show b01 false = 0 from rfl]
    refine xpk_sound (stops := []) (n := 20) ?_
    simp only [sk_0, sk_1, sk_2, sk_3, sk_4, sk_5, sk_6, sk_7, sk_8, sk_iadd, sk_isub, sk_imul, sk_iand, sk_ior, sk_ixor, sk_ishl, sk_ishr, sk_iushr, sk_idiv, sk_irem, sk_ineg, sk_ladd, sk_lsub, sk_lmul, sk_land, sk_lor, sk_ldiv, sk_lrem, sk_lneg, sk_lshl, sk_lshr, sk_i2l, sk_l2i, sk_lcmp, sk_dupI, sk_dupR, sk_dup2L, sk_dup2I, sk_popI, sk_ifeq, sk_ifne, sk_iflt, sk_ifge, sk_ifgt, sk_ifle, sk_iceq, sk_icne, sk_iclt, sk_icge, sk_icgt, sk_icle, sk_goto, sk_getf, sk_putf, sk_gets, sk_iald, sk_lald, sk_bald, sk_aald, sk_iast, sk_last, sk_bast, sk_aast, sk_alen, sk_newa, sk_newt, sk_new, sk_cs1, sk_cs2, sk_cs3, sk_cs4, sk_cs5, sk_cs6, sk_cv1, sk_cv2, sk_cv3, sk_cv4, sk_cv5, sk_cv6, sk_ci1, sk_ci2, sk_ci3, sk_ret0, sk_retI, sk_retL, sk_retR, sk_sw, sk_oin, sk_max, sk_min, sk_abs, lI_0, lI_s, lL_0, lL_s, lR_0, lR_s, vIo_e, vLo_e, vOo_e, stW_I, stW_L, stW_R, stW_0, stW_z, okSt_0, okSt_s, hV_eq, hK_eq, okF_0, okF_1, okF_3, is01_0, is01_1, is01_i, Int.toNat_natCast, Int.reduceEq, Int.reduceLE, Int.reduceLT, Int.reduceNeg, Nat.reduceLT, not_true_eq_false, not_false_eq_true, reduceIte, Option.toList, List.cons_append, List.nil_append, List.set_cons_zero, List.set_cons_succ, List.not_mem_nil, List.mem_cons, if_false, if_true, ite_true, ite_false, and_self, and_true, true_and, Nat.reduceAdd, Nat.reduceLeDiff, Nat.reduceEqDiff, Nat.zero_add, Nat.le_refl, Nat.zero_le, or_false, false_or, Int.reduceToNat, or_true, true_or, eq_self, and_false, false_and, inR_d, nc_4, nc_5, nc_6, nc_7, nc_8, nc_16, nc_18, nc_20, nc_24, nc_32, nc_40, nc_64, nc_104, nc_120, nc_160, nc_256, nc_300, nc_330, nc_390, nc_1200, nc_1260, nc_3012, nc_9834, okSt_1i, okSt_1r, okSt_1n, List.length_cons, List.length_nil, xpk_succ cd_197_0, xpk_succ cd_197_1, xpk_succ cd_197_128, xpk_succ cd_197_129, xpk_succ cd_197_130, xpk_succ cd_197_131, sw]
/-- the reference's number of figures -/
def vaM (b : Nat → Int) (s : Nat) : Nat → Int
  | 0 => 0
  | k + 1 => if 99999 < vaM b s k then vaM b s k else 10 * vaM b s k + b (s + k) - 48
theorem vaM_r {b : Nat → Int} {s : Nat} : ∀ k, (∀ i, s ≤ i → i < s + k → dgB (b i) = true) → 0 ≤ vaM b s k ∧ vaM b s k ≤ 999999 := by
  intro k
  induction k with
  | zero => intro _; show (0 : Int) ≤ 0 ∧ (0 : Int) ≤ 999999; exact ⟨by decide, by decide⟩
  | succ k ih =>
    intro h
    have h1 := ih (fun i a1 a2 => h i a1 (by omega))
    have h2 := dgB_1.mp (h (s + k) (by omega) (by omega))
    show 0 ≤ (if 99999 < vaM b s k then vaM b s k else 10 * vaM b s k + b (s + k) - 48) ∧ (if 99999 < vaM b s k then vaM b s k else 10 * vaM b s k + b (s + k) - 48) ≤ 999999
    split <;> omega
theorem va_CM {b : Nat → Int} {s : Nat} : ∀ k, (∀ i, s ≤ i → i ≤ s + k → dgB (b i) = true) → (vaM b s (k + 1) ≤ 9999 ∧ vaC b s k = vaM b s (k + 1)) ∨ (9999 < vaM b s (k + 1) ∧ 9999 < vaC b s k) := by
  intro k
  induction k with
  | zero =>
    intro h
    have h2 := dgB_1.mp (h s (Nat.le_refl _) (Nat.le_refl _))
    have e1 : vaM b s 1 = 10 * 0 + b (s + 0) - 48 := if_neg (show ¬ (99999 : Int) < 0 by decide)
    have e2 : vaC b s 0 = b s - 48 := rfl
    rw [e1, e2, Nat.add_zero]
    omega
  | succ k ih =>
    intro h
    have h1 := ih (fun i a1 a2 => h i a1 (by omega))
    have r := vaM_r (b := b) (s := s) (k + 1) (fun i a1 a2 => h i a1 (by omega))
    have h2 := dgB_1.mp (h (s + k + 1) (by omega) (by omega))
    have e1 : vaM b s (k + 1 + 1) = if 99999 < vaM b s (k + 1) then vaM b s (k + 1) else 10 * vaM b s (k + 1) + b (s + (k + 1)) - 48 := rfl
    have e2 : vaC b s (k + 1) = min 10000 (vaC b s k * 10 + b (s + k + 1) - 48) := rfl
    rw [e1, e2, show s + (k + 1) = s + k + 1 by omega]
    split <;> omega
/-- letters behind one another -/
def blL (b : Nat → Int) : Nat → Nat → List Int
  | _, 0 => []
  | s, k + 1 => b s :: blL b (s + 1) k
def joW : List (List Int) → List Int
  | [] => []
  | w :: L => w ++ 32 :: joW L
def fdx (l : List Int) : List (List Int) → Int → Int
  | [], _ => 61
  | w :: L, k => if l = w then k else fdx l L (k + 1)
theorem wsc_f {b : Nat → Int} {e s : Nat} {L : List Int} {num : Int} : ∀ (w : List Int) (a : Nat), (∀ c, c ∈ w → c ≠ 32) → wsc b e s (w ++ 32 :: L) num a false = wsc b e s L (num + 1) s true := by
  intro w
  induction w with
  | nil => intro a _; show (if (32 : Int) = 32 then (if false = true ∧ a = e then num else _) else _) = _; rw [if_pos rfl, if_neg (fun q => absurd q.1 (by decide))]
  | cons c w ih =>
    intro a h
    show (if c = 32 then _ else (if false = true ∧ a < e ∧ b a = c then _ else wsc b e s (w ++ 32 :: L) num a false)) = _
    rw [if_neg (h c (List.mem_cons_self ..)), if_neg (fun q => absurd q.1 (by decide))]
    exact ih a (fun c hc => h c (List.mem_cons_of_mem _ hc))
theorem wsc_t {b : Nat → Int} {e s : Nat} {L : List Int} {num : Int} : ∀ (w : List Int) (a : Nat), (∀ c, c ∈ w → c ≠ 32) → a ≤ e → wsc b e s (w ++ 32 :: L) num a true = if blL b a (e - a) = w then num else wsc b e s L (num + 1) s true := by
  intro w
  induction w with
  | nil =>
    intro a _ ha
    show (if (32 : Int) = 32 then (if true = true ∧ a = e then num else wsc b e s L (num + 1) s true) else _) = _
    rw [if_pos rfl]
    by_cases z : a = e
    · rw [if_pos ⟨rfl, z⟩, show e - a = 0 by omega, if_pos (show blL b a 0 = [] from rfl)]
    · obtain ⟨k, hk⟩ : ∃ k, e - a = k + 1 := ⟨e - a - 1, by omega⟩
      rw [if_neg (fun q => z q.2), hk, if_neg (fun q => by cases q)]
  | cons c w ih =>
    intro a h ha
    show (if c = 32 then _ else (if true = true ∧ a < e ∧ b a = c then wsc b e s (w ++ 32 :: L) num (a + 1) true else wsc b e s (w ++ 32 :: L) num a false)) = _
    rw [if_neg (h c (List.mem_cons_self ..))]
    by_cases z : a < e
    · obtain ⟨k, hk⟩ : ∃ k, e - a = k + 1 := ⟨e - a - 1, by omega⟩
      rw [hk]
      show _ = if b a :: blL b (a + 1) k = c :: w then num else _
      by_cases y : b a = c
      · rw [if_pos ⟨rfl, z, y⟩, ih (a + 1) (fun c hc => h c (List.mem_cons_of_mem _ hc)) (by omega), show e - (a + 1) = k by omega]
        by_cases x : blL b (a + 1) k = w
        · rw [if_pos x, if_pos (by rw [x, y])]
        · rw [if_neg x, if_neg (fun q => x (List.cons.inj q).2)]
      · rw [if_neg (fun q => y q.2.2), if_neg (fun q => y (List.cons.inj q).1)]
        exact wsc_f w a (fun c hc => h c (List.mem_cons_of_mem _ hc))
    · rw [if_neg (fun q => z q.2.1), show e - a = 0 by omega, if_neg (fun q => by cases q)]
      exact wsc_f w a (fun c hc => h c (List.mem_cons_of_mem _ hc))
theorem wsc_j {b : Nat → Int} {e s : Nat} (hs : s ≤ e) : ∀ (L : List (List Int)) (num : Int), (∀ w, w ∈ L → ∀ c, c ∈ w → c ≠ 32) → wsc b e s (joW L) num s true = fdx (blL b s (e - s)) L num := by
  intro L
  induction L with
  | nil => intro num _; rfl
  | cons w L ih =>
    intro num h
    show wsc b e s (w ++ 32 :: joW L) num s true = if blL b s (e - s) = w then num else fdx (blL b s (e - s)) L (num + 1)
    rw [wsc_t w s (h w (List.mem_cons_self ..)) hs, ih (num + 1) (fun w hw => h w (List.mem_cons_of_mem _ hw))]
def wdL : List (List Int) := [[112, 97, 99, 101, 115], [115, 119, 105, 110, 103, 115], [104, 97, 110, 100], [104, 111, 108, 100, 115], [108, 97, 115, 116, 115], [111, 114, 100, 101, 114], [109, 111, 118, 101], [114, 117, 110], [97, 105, 109], [104, 111, 111, 107], [108, 97, 110, 100], [97, 119, 97, 121], [115, 112, 101, 101, 100], [112, 97, 99, 101], [119, 105, 110, 100], [103, 111, 97, 108], [114, 111, 112, 101], [119, 101, 105, 103, 104, 116], [121, 97, 114, 100], [97, 116], [100, 117, 101], [109, 101, 110], [105, 110], [111, 110], [111, 117, 116], [105, 102], [116, 104, 101, 110], [101, 108, 115, 101], [101, 110, 100], [111, 114], [97, 110, 100], [110, 111, 116], [115, 105, 122, 101], [97, 103, 111]]
theorem wd_j : wdB = joW wdL := by decide +kernel
/-- the reference's word of letters -/
def stW2 (x c : Int) : Int := if 281474976710656 ≤ x then 1152921504606846976 else 256 * x + c
def rvW : List Int → Int
  | [] => 0
  | c :: r => stW2 (rvW r) c
def wdF (l : List Int) : Int := rvW l.reverse
def letL (l : List Int) : Prop := ∀ c, c ∈ l → 65 ≤ c ∧ c ≤ 122
theorem rvW_r : ∀ r : List Int, letL r → 0 ≤ rvW r ∧ rvW r ≤ 1152921504606846976 ∧ (r ≠ [] → 65 ≤ rvW r) := by
  intro r
  induction r with
  | nil => intro _; exact ⟨Int.le_refl _, by decide, fun h => absurd rfl h⟩
  | cons c r ih =>
    intro h
    have h1 := ih (fun c hc => h c (List.mem_cons_of_mem _ hc))
    have h2 := h c (List.mem_cons_self ..)
    show 0 ≤ stW2 (rvW r) c ∧ stW2 (rvW r) c ≤ 1152921504606846976 ∧ (_ → 65 ≤ stW2 (rvW r) c)
    unfold stW2
    split
    · exact ⟨by decide, by decide, fun _ => by decide⟩
    · exact ⟨by omega, by omega, fun _ => by omega⟩
theorem rvW_i : ∀ (r q : List Int), letL r → letL q → rvW r = rvW q → rvW q < 281474976710656 → r = q := by
  intro r
  induction r with
  | nil =>
    intro q _ hq he _
    cases q with
    | nil => rfl
    | cons c q =>
      have := (rvW_r (c :: q) hq).2.2 (fun z => by cases z)
      have he : (0 : Int) = rvW (c :: q) := he
      omega
  | cons c r ih =>
    intro q hr hq he hl
    cases q with
    | nil =>
      have := (rvW_r (c :: r) hr).2.2 (fun z => by cases z)
      have he : rvW (c :: r) = (0 : Int) := he
      omega
    | cons c' q =>
      have h1 := hr c (List.mem_cons_self ..)
      have h2 := hq c' (List.mem_cons_self ..)
      have r1 := rvW_r r (fun c hc => hr c (List.mem_cons_of_mem _ hc))
      have r2 := rvW_r q (fun c hc => hq c (List.mem_cons_of_mem _ hc))
      have he : stW2 (rvW r) c = stW2 (rvW q) c' := he
      have hl : stW2 (rvW q) c' < 281474976710656 := hl
      unfold stW2 at he hl
      by_cases z2 : 281474976710656 ≤ rvW q
      · rw [if_pos z2] at hl; omega
      · rw [if_neg z2] at hl he
        by_cases z1 : 281474976710656 ≤ rvW r
        · rw [if_pos z1] at he; omega
        · rw [if_neg z1] at he
          have ec : c = c' := by omega
          have ex : rvW r = rvW q := by omega
          rw [ec, ih q (fun c hc => hr c (List.mem_cons_of_mem _ hc)) (fun c hc => hq c (List.mem_cons_of_mem _ hc)) ex (by omega)]
theorem wdF_i {l w : List Int} (hl : letL l) (hw : letL w) (he : wdF l = wdF w) (h48 : wdF w < 281474976710656) : l = w := by
  have := rvW_i l.reverse w.reverse (fun c hc => hl c (List.mem_reverse.mp hc)) (fun c hc => hw c (List.mem_reverse.mp hc)) he h48
  have := congrArg List.reverse this
  rw [List.reverse_reverse, List.reverse_reverse] at this
  exact this
theorem wdL_ok : ∀ i : Fin 34, (∃ w, wdL[i.val]? = some w ∧ wdF w = encW (i.val : Int) ∧ wdF w < 281474976710656 ∧ (w.all fun c => decide (65 ≤ c ∧ c ≤ 122)) = true) := by
  intro i
  have h : ∀ i : Fin 34, (match wdL[i.val]? with | some w => decide (wdF w = encW (i.val : Int)) && (decide (wdF w < 281474976710656) && (w.all fun c => decide (65 ≤ c ∧ c ≤ 122))) | none => false) = true := by decide +kernel
  have h := h i
  split at h
  · rename_i w hw
    rw [Bool.and_eq_true, Bool.and_eq_true, decide_eq_true_eq, decide_eq_true_eq] at h
    exact ⟨w, hw, h.1, h.2.1, h.2.2⟩
  · cases h
theorem wdL_32 : ∀ w, w ∈ wdL → ∀ c, c ∈ w → c ≠ 32 := by decide +kernel
theorem fdx_c {l : List Int} : ∀ (L : List (List Int)) (k : Int), (fdx l L k = 61 ∧ ∀ (i : Nat) (w : List Int), L[i]? = some w → l ≠ w) ∨ (∃ i : Nat, i < L.length ∧ L[i]? = some l ∧ fdx l L k = k + i ∧ ∀ (i' : Nat), i' < i → L[i']? ≠ some l) := by
  intro L
  induction L with
  | nil => intro k; exact Or.inl ⟨rfl, fun i w h => by cases i <;> cases h⟩
  | cons w L ih =>
    intro k
    by_cases z : l = w
    · exact Or.inr ⟨0, by rw [List.length_cons]; omega, by rw [z]; rfl, by show (if l = w then k else _) = _; rw [if_pos z]; omega, fun i' h => by omega⟩
    · have e : fdx l (w :: L) k = fdx l L (k + 1) := if_neg z
      rw [e]
      rcases ih (k + 1) with ⟨h1, h2⟩ | ⟨i, h1, h2, h3, h4⟩
      · refine Or.inl ⟨h1, fun i w' h => ?_⟩
        cases i with
        | zero => injection h with h; rw [← h]; exact z
        | succ i => exact h2 i w' h
      · refine Or.inr ⟨i + 1, by rw [List.length_cons]; omega, h2, by rw [h3]; omega, fun i' h => ?_⟩
        cases i' with
        | zero => intro q; injection q with q; exact z q.symm
        | succ i' => exact h4 i' (by omega)
