/-! reckon -/
def hL (h : AH) (sf : Nat → Int) : AH := (h.1, h.2.1, h.2.2.1, fun k j => if k = 60 ∧ j < 64 then vI (sf j) else h.2.2.2 k j)
theorem hK_L {h : AH} {sf : Nat → Int} : hK (hL h sf) = hK h := rfl
theorem hL_v {h : AH} {sf : Nat → Int} {i : Nat} (hi : i < 64) : hV (hL h sf) 60 i = vI (sf i) := if_pos ⟨rfl, hi⟩
theorem hL_n {h : AH} {sf : Nat → Int} {k i : Nat} (hk : k ≠ 60) : hV (hL h sf) k i = hV h k i := if_neg (fun y => hk y.1)
theorem hL_s {h : AH} {sf : Nat → Int} {i : Nat} {v : Int} (hi : i < 64) : hSet (hL h sf) 60 i (vI v) = hL h (upF sf i v) := by
  refine Prod.ext rfl (Prod.ext rfl (Prod.ext rfl ?_))
  funext k j
  show (if k = 60 ∧ j = i then vI v else if k = 60 ∧ j < 64 then vI (sf j) else h.2.2.2 k j) = (if k = 60 ∧ j < 64 then vI (upF sf i v j) else h.2.2.2 k j)
  by_cases z : k = 60 ∧ j = i
  · rw [if_pos z, if_pos ⟨z.1, by omega⟩, z.2, upF_at]
  · rw [if_neg z]
    by_cases z2 : k = 60 ∧ j < 64
    · rw [if_pos z2, if_pos z2, upF_ne (fun y => z ⟨z2.1, y⟩)]
    · rw [if_neg z2, if_neg z2]
theorem iand31 (x : Int) : iand x 31 = x % 32 := by
  unfold iand
  have e3 : BitVec.ofInt 32 31 = BitVec.ofNat 32 31 := rfl
  rw [e3]
  have e4 : (BitVec.ofInt 32 x &&& BitVec.ofNat 32 31).toNat = (BitVec.ofInt 32 x).toNat % 32 := by
    rw [BitVec.toNat_and, BitVec.toNat_ofNat, show 31 % 2 ^ 32 = 2 ^ 5 - 1 by decide, Nat.and_two_pow_sub_one_eq_mod]
  rw [BitVec.toInt_eq_toNat_of_lt (by rw [e4]; omega), e4, BitVec.toNat_ofInt]
  have e5 : ((2 ^ 32 : Nat) : Int) = 4294967296 := by decide
  rw [e5]
  omega
theorem ishr5 (x : Int) : ishr x 5 = x / 32 := rfl
set_option maxRecDepth 30000 in
set_option maxHeartbeats 4000000 in
theorem RK_j0 {d : Nat} {h : AH} {T D b : Nat} {dd : Nat → Int} {e : ENV} (hk : hK h 58 = (2, 0) ∧ hV h 58 3 = vR 60 ∧ hK h 60 = (11, 64) ∧ hK h D = (11, 300)) (hD : D ≠ 60) (hdd : ∀ i, i < 300 → hV h D i = vI (dd i)) (hb : b ≤ 300) (hfe : ∀ (op arg : Int) (sf : Nat → Int) (Q : Option AV → AH → Prop), 2 ≤ op → op ≤ 4 → 0 ≤ arg ∧ arg ≤ 1000000000 → XC (d + 4) 43 [vR 58, vI op, vI arg] (hL h sf) Q = Q (some (vI (feF op arg e))) (hL h sf)) {PQ : Option AV → AH → Prop} {w : Int} {i at_ : Nat} {sf : Nat → Int} {l8 l9 : Option AV} (hi : i < 300) (hat : at_ < b) {o A : Int} (ho : dd at_ % 32 = o) (hA : dd at_ / 32 = A) (z8 : 8 ≤ o) (y : XP (d + 4) 42 30 [some (vR 58), some (vR T), some (vI w), some (vR D), some (vI ((at_ + 1 : Nat) : Int)), some (vI (b : Int)), some (vI 0), some (vI ((i + 1 : Nat) : Int)), (some (vI o)), (some (vI A))] [] (hL h sf) PQ) : XP (d + 4) 42 30 [some (vR 58), some (vR T), some (vI w), some (vR D), some (vI (at_ : Int)), some (vI (b : Int)), some (vI 0), some (vI (i : Int)), l8, l9] [] (hL h sf) PQ := by
  have k3 : ∀ {sf : Nat → Int}, hV (hL h sf) 58 3 = vR 60 := fun {sf} => (hL_n (by decide)).trans hk.2.1
  have i0 : ¬ (300 ≤ (i : Int)) := by omega
  have i1 : ¬ ((at_ : Int) < 0) := by omega
  have i2 : ¬ ((b : Int) ≤ (at_ : Int)) := by omega
  have v : ∀ {sf : Nat → Int}, hV (hL h sf) D at_ = vI (dd at_) := fun {sf} => (hL_n hD).trans (hdd at_ (by omega))
  have b0 : (0 : Int) ≤ (at_ : Int) ∧ (at_ : Int) < 300 := by omega
  have wa : WE ((at_ : Int) + 1) ((at_ + 1 : Nat) : Int) := by unfold WE w32; omega
  have wi : WE ((i : Int) + 1) ((i + 1 : Nat) : Int) := by unfold WE w32; omega
  have e31 : iand (dd at_) 31 = o := by rw [iand31, ho]
  have e5 : dd at_ / 32 = A := hA
  have z8n : ¬ o < 8 := by omega
  have t2 : ((0 : Nat) : Int) < 2 := by decide
  refine xpk_sound (stops := [30]) (n := 90) ?_
  simp only [sk_0, sk_1, sk_2, sk_3, sk_4, sk_5, sk_6, sk_7, sk_8, sk_iadd, sk_isub, sk_imul, sk_iand, sk_ior, sk_ixor, sk_ishl, sk_ishr, sk_iushr, sk_idiv, sk_irem, sk_ineg, sk_ladd, sk_lsub, sk_lmul, sk_land, sk_lor, sk_ldiv, sk_lrem, sk_lneg, sk_lshl, sk_lshr, sk_i2l, sk_l2i, sk_lcmp, sk_dupI, sk_dupR, sk_dup2L, sk_dup2I, sk_popI, sk_ifeq, sk_ifne, sk_iflt, sk_ifge, sk_ifgt, sk_ifle, sk_iceq, sk_icne, sk_iclt, sk_icge, sk_icgt, sk_icle, sk_goto, sk_getf, sk_putf, sk_gets, sk_iald, sk_lald, sk_bald, sk_aald, sk_iast, sk_last, sk_bast, sk_aast, sk_alen, sk_newa, sk_newt, sk_new, sk_cs1, sk_cs2, sk_cs3, sk_cs4, sk_cs5, sk_cs6, sk_cv1, sk_cv2, sk_cv3, sk_cv4, sk_cv5, sk_cv6, sk_ci1, sk_ci2, sk_ci3, sk_ret0, sk_retI, sk_retL, sk_retR, sk_sw, sk_oin, sk_max, sk_min, sk_abs, lI_0, lI_s, lL_0, lL_s, lR_0, lR_s, vIo_e, vLo_e, vOo_e, stW_I, stW_L, stW_R, stW_0, stW_z, okSt_0, okSt_s, hV_eq, hK_eq, okF_0, okF_1, okF_3, is01_0, is01_1, is01_i, Int.toNat_natCast, Int.reduceEq, Int.reduceLE, Int.reduceLT, Int.reduceNeg, Nat.reduceLT, not_true_eq_false, not_false_eq_true, reduceIte, Option.toList, List.cons_append, List.nil_append, List.set_cons_zero, List.set_cons_succ, List.not_mem_nil, List.mem_cons, if_false, if_true, ite_true, ite_false, and_self, and_true, true_and, Nat.reduceAdd, Nat.reduceLeDiff, Nat.reduceEqDiff, Nat.zero_add, Nat.le_refl, Nat.zero_le, or_false, false_or, Int.reduceToNat, or_true, true_or, eq_self, and_false, false_and, inR_d, nc_4, nc_5, nc_6, nc_7, nc_8, nc_16, nc_18, nc_20, nc_24, nc_32, nc_40, nc_64, nc_104, nc_120, nc_160, nc_256, nc_300, nc_330, nc_390, nc_1200, nc_1260, nc_3012, nc_9834, okSt_1i, okSt_1r, okSt_1n, List.length_cons, List.length_nil, xpk_succ cd_42_30, xpk_succ cd_42_32, xpk_succ cd_42_35, xpk_succ cd_42_38, xpk_succ cd_42_40, xpk_succ cd_42_43, xpk_succ cd_42_45, xpk_succ cd_42_47, xpk_succ cd_42_50, xpk_succ cd_42_51, xpk_succ cd_42_53, xpk_succ cd_42_54, xpk_succ cd_42_56, xpk_succ cd_42_57, xpk_succ cd_42_59, xpk_succ cd_42_60, xpk_succ cd_42_62, xpk_succ cd_42_63, xpk_succ cd_42_64, xpk_succ cd_42_65, xpk_succ cd_42_67, xpk_succ cd_42_70, xpk_succ cd_42_72, xpk_succ cd_42_74, xpk_succ cd_42_77, xpk_succ cd_42_79, xpk_succ cd_42_80, xpk_succ cd_42_231, xpk_succ cd_42_234, hK_L, hk.1, k3, hk.2.2.1, hk.2.2.2, i0, i1, i2, v, b0, e31, e5, (WE_e wa), (WE_e wi), ishr5, z8, z8n]
  exact y
set_option maxRecDepth 30000 in
set_option maxHeartbeats 4000000 in
theorem RK_j1 {d : Nat} {h : AH} {T D b : Nat} {dd : Nat → Int} {e : ENV} (hk : hK h 58 = (2, 0) ∧ hV h 58 3 = vR 60 ∧ hK h 60 = (11, 64) ∧ hK h D = (11, 300)) (hD : D ≠ 60) (hdd : ∀ i, i < 300 → hV h D i = vI (dd i)) (hb : b ≤ 300) (hfe : ∀ (op arg : Int) (sf : Nat → Int) (Q : Option AV → AH → Prop), 2 ≤ op → op ≤ 4 → 0 ≤ arg ∧ arg ≤ 1000000000 → XC (d + 4) 43 [vR 58, vI op, vI arg] (hL h sf) Q = Q (some (vI (feF op arg e))) (hL h sf)) {PQ : Option AV → AH → Prop} {w : Int} {i at_ : Nat} {sf : Nat → Int} {l8 l9 : Option AV} (hi : i < 300) (hat : at_ < b) {o A : Int} (ho : dd at_ % 32 = o) (hA : dd at_ / 32 = A) (z8 : 8 ≤ o) (y : XP (d + 4) 42 30 [some (vR 58), some (vR T), some (vI w), some (vR D), some (vI ((at_ + 1 : Nat) : Int)), some (vI (b : Int)), some (vI 1), some (vI ((i + 1 : Nat) : Int)), (some (vI o)), (some (vI A))] [] (hL h sf) PQ) : XP (d + 4) 42 30 [some (vR 58), some (vR T), some (vI w), some (vR D), some (vI (at_ : Int)), some (vI (b : Int)), some (vI 1), some (vI (i : Int)), l8, l9] [] (hL h sf) PQ := by
  have k3 : ∀ {sf : Nat → Int}, hV (hL h sf) 58 3 = vR 60 := fun {sf} => (hL_n (by decide)).trans hk.2.1
  have i0 : ¬ (300 ≤ (i : Int)) := by omega
  have i1 : ¬ ((at_ : Int) < 0) := by omega
  have i2 : ¬ ((b : Int) ≤ (at_ : Int)) := by omega
  have v : ∀ {sf : Nat → Int}, hV (hL h sf) D at_ = vI (dd at_) := fun {sf} => (hL_n hD).trans (hdd at_ (by omega))
  have b0 : (0 : Int) ≤ (at_ : Int) ∧ (at_ : Int) < 300 := by omega
  have wa : WE ((at_ : Int) + 1) ((at_ + 1 : Nat) : Int) := by unfold WE w32; omega
  have wi : WE ((i : Int) + 1) ((i + 1 : Nat) : Int) := by unfold WE w32; omega
  have e31 : iand (dd at_) 31 = o := by rw [iand31, ho]
  have e5 : dd at_ / 32 = A := hA
  have z8n : ¬ o < 8 := by omega
  refine xpk_sound (stops := [30]) (n := 90) ?_
  simp only [sk_0, sk_1, sk_2, sk_3, sk_4, sk_5, sk_6, sk_7, sk_8, sk_iadd, sk_isub, sk_imul, sk_iand, sk_ior, sk_ixor, sk_ishl, sk_ishr, sk_iushr, sk_idiv, sk_irem, sk_ineg, sk_ladd, sk_lsub, sk_lmul, sk_land, sk_lor, sk_ldiv, sk_lrem, sk_lneg, sk_lshl, sk_lshr, sk_i2l, sk_l2i, sk_lcmp, sk_dupI, sk_dupR, sk_dup2L, sk_dup2I, sk_popI, sk_ifeq, sk_ifne, sk_iflt, sk_ifge, sk_ifgt, sk_ifle, sk_iceq, sk_icne, sk_iclt, sk_icge, sk_icgt, sk_icle, sk_goto, sk_getf, sk_putf, sk_gets, sk_iald, sk_lald, sk_bald, sk_aald, sk_iast, sk_last, sk_bast, sk_aast, sk_alen, sk_newa, sk_newt, sk_new, sk_cs1, sk_cs2, sk_cs3, sk_cs4, sk_cs5, sk_cs6, sk_cv1, sk_cv2, sk_cv3, sk_cv4, sk_cv5, sk_cv6, sk_ci1, sk_ci2, sk_ci3, sk_ret0, sk_retI, sk_retL, sk_retR, sk_sw, sk_oin, sk_max, sk_min, sk_abs, lI_0, lI_s, lL_0, lL_s, lR_0, lR_s, vIo_e, vLo_e, vOo_e, stW_I, stW_L, stW_R, stW_0, stW_z, okSt_0, okSt_s, hV_eq, hK_eq, okF_0, okF_1, okF_3, is01_0, is01_1, is01_i, Int.toNat_natCast, Int.reduceEq, Int.reduceLE, Int.reduceLT, Int.reduceNeg, Nat.reduceLT, not_true_eq_false, not_false_eq_true, reduceIte, Option.toList, List.cons_append, List.nil_append, List.set_cons_zero, List.set_cons_succ, List.not_mem_nil, List.mem_cons, if_false, if_true, ite_true, ite_false, and_self, and_true, true_and, Nat.reduceAdd, Nat.reduceLeDiff, Nat.reduceEqDiff, Nat.zero_add, Nat.le_refl, Nat.zero_le, or_false, false_or, Int.reduceToNat, or_true, true_or, eq_self, and_false, false_and, inR_d, nc_4, nc_5, nc_6, nc_7, nc_8, nc_16, nc_18, nc_20, nc_24, nc_32, nc_40, nc_64, nc_104, nc_120, nc_160, nc_256, nc_300, nc_330, nc_390, nc_1200, nc_1260, nc_3012, nc_9834, okSt_1i, okSt_1r, okSt_1n, List.length_cons, List.length_nil, xpk_succ cd_42_30, xpk_succ cd_42_32, xpk_succ cd_42_35, xpk_succ cd_42_38, xpk_succ cd_42_40, xpk_succ cd_42_43, xpk_succ cd_42_45, xpk_succ cd_42_47, xpk_succ cd_42_50, xpk_succ cd_42_51, xpk_succ cd_42_53, xpk_succ cd_42_54, xpk_succ cd_42_56, xpk_succ cd_42_57, xpk_succ cd_42_59, xpk_succ cd_42_60, xpk_succ cd_42_62, xpk_succ cd_42_63, xpk_succ cd_42_64, xpk_succ cd_42_65, xpk_succ cd_42_67, xpk_succ cd_42_70, xpk_succ cd_42_72, xpk_succ cd_42_74, xpk_succ cd_42_77, xpk_succ cd_42_79, xpk_succ cd_42_80, xpk_succ cd_42_231, xpk_succ cd_42_234, hK_L, hk.1, k3, hk.2.2.1, hk.2.2.2, i0, i1, i2, v, b0, e31, e5, (WE_e wa), (WE_e wi), ishr5, z8, z8n]
  exact y
set_option maxRecDepth 30000 in
set_option maxHeartbeats 4000000 in
theorem RK_j2 {d : Nat} {h : AH} {T D b : Nat} {dd : Nat → Int} {e : ENV} (hk : hK h 58 = (2, 0) ∧ hV h 58 3 = vR 60 ∧ hK h 60 = (11, 64) ∧ hK h D = (11, 300)) (hD : D ≠ 60) (hdd : ∀ i, i < 300 → hV h D i = vI (dd i)) (hb : b ≤ 300) (hfe : ∀ (op arg : Int) (sf : Nat → Int) (Q : Option AV → AH → Prop), 2 ≤ op → op ≤ 4 → 0 ≤ arg ∧ arg ≤ 1000000000 → XC (d + 4) 43 [vR 58, vI op, vI arg] (hL h sf) Q = Q (some (vI (feF op arg e))) (hL h sf)) {PQ : Option AV → AH → Prop} {w : Int} {i at_ : Nat} {sf : Nat → Int} {l8 l9 : Option AV} (hi : i < 300) (hat : at_ < b) {o A : Int} (ho : dd at_ % 32 = o) (hA : dd at_ / 32 = A) (z8 : 8 ≤ o) {x1 y1 : Int} {r : List Int} (p1 : sf (r.length + 1) = y1) (p2 : sf r.length = x1) (ok : okS (y1 :: x1 :: r)) (y : XP (d + 4) 42 30 [some (vR 58), some (vR T), some (vI w), some (vR D), some (vI ((at_ + 1 : Nat) : Int)), some (vI (b : Int)), some (vI ((r.length + 1 : Nat) : Int)), some (vI ((i + 1 : Nat) : Int)), (some (vI o)), (some (vI A))] [] (hL h (upF sf r.length (joF o x1 y1))) PQ) : XP (d + 4) 42 30 [some (vR 58), some (vR T), some (vI w), some (vR D), some (vI (at_ : Int)), some (vI (b : Int)), some (vI ((r.length + 2 : Nat) : Int)), some (vI (i : Int)), l8, l9] [] (hL h sf) PQ := by
  have k3 : ∀ {sf : Nat → Int}, hV (hL h sf) 58 3 = vR 60 := fun {sf} => (hL_n (by decide)).trans hk.2.1
  have i0 : ¬ (300 ≤ (i : Int)) := by omega
  have i1 : ¬ ((at_ : Int) < 0) := by omega
  have i2 : ¬ ((b : Int) ≤ (at_ : Int)) := by omega
  have v : ∀ {sf : Nat → Int}, hV (hL h sf) D at_ = vI (dd at_) := fun {sf} => (hL_n hD).trans (hdd at_ (by omega))
  have b0 : (0 : Int) ≤ (at_ : Int) ∧ (at_ : Int) < 300 := by omega
  have wa : WE ((at_ : Int) + 1) ((at_ + 1 : Nat) : Int) := by unfold WE w32; omega
  have wi : WE ((i : Int) + 1) ((i + 1 : Nat) : Int) := by unfold WE w32; omega
  have e31 : iand (dd at_) 31 = o := by rw [iand31, ho]
  have e5 : dd at_ / 32 = A := hA
  have z8n : ¬ o < 8 := by omega
  have okl : r.length + 2 ≤ 64 := ok.1
  have t2 : ¬ (((r.length + 2 : Nat) : Int) < 2) := by omega
  have u1 : WE (((r.length + 2 : Nat) : Int) + -1) ((r.length + 1 : Nat) : Int) := by unfold WE w32; omega
  have u2 : WE (((r.length + 1 : Nat) : Int) - 1) ((r.length : Nat) : Int) := by unfold WE w32; omega
  have c1 : (0 : Int) ≤ ((r.length + 1 : Nat) : Int) ∧ ((r.length + 1 : Nat) : Int) < 64 := by omega
  have c2 : (0 : Int) ≤ ((r.length : Nat) : Int) ∧ ((r.length : Nat) : Int) < 64 := by omega
  have v1 : hV (hL h sf) 60 (r.length + 1) = vI y1 := by rw [hL_v (by omega), p1]
  have v2 : hV (hL h sf) 60 r.length = vI x1 := by rw [hL_v (by omega), p2]
  have s1 : hSet (hL h sf) 60 r.length (vI (joF o x1 y1)) = hL h (upF sf r.length (joF o x1 y1)) := hL_s (by omega)
  have eJ : ∀ Q : Option AV → AH → Prop, XC (d + 4) 45 [vI o, vI x1, vI y1] (hL h sf) Q = Q (some (vI (joF o x1 y1))) (hL h sf) := fun Q => E_jo (d := d + 2) z8 (ok.2 x1 (List.mem_cons_of_mem _ (List.mem_cons_self ..))) (ok.2 y1 (List.mem_cons_self ..)) Q
  refine xpk_sound (stops := [30]) (n := 90) ?_
  simp only [sk_0, sk_1, sk_2, sk_3, sk_4, sk_5, sk_6, sk_7, sk_8, sk_iadd, sk_isub, sk_imul, sk_iand, sk_ior, sk_ixor, sk_ishl, sk_ishr, sk_iushr, sk_idiv, sk_irem, sk_ineg, sk_ladd, sk_lsub, sk_lmul, sk_land, sk_lor, sk_ldiv, sk_lrem, sk_lneg, sk_lshl, sk_lshr, sk_i2l, sk_l2i, sk_lcmp, sk_dupI, sk_dupR, sk_dup2L, sk_dup2I, sk_popI, sk_ifeq, sk_ifne, sk_iflt, sk_ifge, sk_ifgt, sk_ifle, sk_iceq, sk_icne, sk_iclt, sk_icge, sk_icgt, sk_icle, sk_goto, sk_getf, sk_putf, sk_gets, sk_iald, sk_lald, sk_bald, sk_aald, sk_iast, sk_last, sk_bast, sk_aast, sk_alen, sk_newa, sk_newt, sk_new, sk_cs1, sk_cs2, sk_cs3, sk_cs4, sk_cs5, sk_cs6, sk_cv1, sk_cv2, sk_cv3, sk_cv4, sk_cv5, sk_cv6, sk_ci1, sk_ci2, sk_ci3, sk_ret0, sk_retI, sk_retL, sk_retR, sk_sw, sk_oin, sk_max, sk_min, sk_abs, lI_0, lI_s, lL_0, lL_s, lR_0, lR_s, vIo_e, vLo_e, vOo_e, stW_I, stW_L, stW_R, stW_0, stW_z, okSt_0, okSt_s, hV_eq, hK_eq, okF_0, okF_1, okF_3, is01_0, is01_1, is01_i, Int.toNat_natCast, Int.reduceEq, Int.reduceLE, Int.reduceLT, Int.reduceNeg, Nat.reduceLT, not_true_eq_false, not_false_eq_true, reduceIte, Option.toList, List.cons_append, List.nil_append, List.set_cons_zero, List.set_cons_succ, List.not_mem_nil, List.mem_cons, if_false, if_true, ite_true, ite_false, and_self, and_true, true_and, Nat.reduceAdd, Nat.reduceLeDiff, Nat.reduceEqDiff, Nat.zero_add, Nat.le_refl, Nat.zero_le, or_false, false_or, Int.reduceToNat, or_true, true_or, eq_self, and_false, false_and, inR_d, nc_4, nc_5, nc_6, nc_7, nc_8, nc_16, nc_18, nc_20, nc_24, nc_32, nc_40, nc_64, nc_104, nc_120, nc_160, nc_256, nc_300, nc_330, nc_390, nc_1200, nc_1260, nc_3012, nc_9834, okSt_1i, okSt_1r, okSt_1n, List.length_cons, List.length_nil, xpk_succ cd_42_30, xpk_succ cd_42_32, xpk_succ cd_42_35, xpk_succ cd_42_38, xpk_succ cd_42_40, xpk_succ cd_42_43, xpk_succ cd_42_45, xpk_succ cd_42_47, xpk_succ cd_42_50, xpk_succ cd_42_51, xpk_succ cd_42_53, xpk_succ cd_42_54, xpk_succ cd_42_56, xpk_succ cd_42_57, xpk_succ cd_42_59, xpk_succ cd_42_60, xpk_succ cd_42_62, xpk_succ cd_42_63, xpk_succ cd_42_64, xpk_succ cd_42_65, xpk_succ cd_42_67, xpk_succ cd_42_70, xpk_succ cd_42_72, xpk_succ cd_42_74, xpk_succ cd_42_77, xpk_succ cd_42_79, xpk_succ cd_42_80, xpk_succ cd_42_83, xpk_succ cd_42_86, xpk_succ cd_42_87, xpk_succ cd_42_90, xpk_succ cd_42_92, xpk_succ cd_42_93, xpk_succ cd_42_94, xpk_succ cd_42_96, xpk_succ cd_42_97, xpk_succ cd_42_100, xpk_succ cd_42_102, xpk_succ cd_42_103, xpk_succ cd_42_104, xpk_succ cd_42_105, xpk_succ cd_42_106, xpk_succ cd_42_109, xpk_succ cd_42_111, xpk_succ cd_42_112, xpk_succ cd_42_115, xpk_succ cd_42_116, xpk_succ cd_42_231, xpk_succ cd_42_234, hK_L, hk.1, k3, hk.2.2.1, hk.2.2.2, i0, i1, i2, v, b0, e31, e5, (WE_e wa), (WE_e wi), ishr5, z8, z8n, t2, (WE_e u1), (WE_e u2), c1, c2, v1, v2, s1, eJ]
  exact y
set_option maxRecDepth 30000 in
set_option maxHeartbeats 4000000 in
theorem RK_c0 {d : Nat} {h : AH} {T D b : Nat} {dd : Nat → Int} {e : ENV} (hk : hK h 58 = (2, 0) ∧ hV h 58 3 = vR 60 ∧ hK h 60 = (11, 64) ∧ hK h D = (11, 300)) (hD : D ≠ 60) (hdd : ∀ i, i < 300 → hV h D i = vI (dd i)) (hb : b ≤ 300) (hfe : ∀ (op arg : Int) (sf : Nat → Int) (Q : Option AV → AH → Prop), 2 ≤ op → op ≤ 4 → 0 ≤ arg ∧ arg ≤ 1000000000 → XC (d + 4) 43 [vR 58, vI op, vI arg] (hL h sf) Q = Q (some (vI (feF op arg e))) (hL h sf)) {PQ : Option AV → AH → Prop} {w : Int} {i at_ : Nat} {sf : Nat → Int} {l8 l9 : Option AV} (hi : i < 300) (hat : at_ < b) {o A : Int} (ho : dd at_ % 32 = o) (hA : dd at_ / 32 = A) (z8n : o < 8) (z5 : 5 ≤ o) (y : XP (d + 4) 42 30 [some (vR 58), some (vR T), some (vI w), some (vR D), some (vI ((at_ + 1 : Nat) : Int)), some (vI (b : Int)), some (vI 0), some (vI ((i + 1 : Nat) : Int)), (some (vI o)), (some (vI A))] [] (hL h sf) PQ) : XP (d + 4) 42 30 [some (vR 58), some (vR T), some (vI w), some (vR D), some (vI (at_ : Int)), some (vI (b : Int)), some (vI 0), some (vI (i : Int)), l8, l9] [] (hL h sf) PQ := by
  have k3 : ∀ {sf : Nat → Int}, hV (hL h sf) 58 3 = vR 60 := fun {sf} => (hL_n (by decide)).trans hk.2.1
  have i0 : ¬ (300 ≤ (i : Int)) := by omega
  have i1 : ¬ ((at_ : Int) < 0) := by omega
  have i2 : ¬ ((b : Int) ≤ (at_ : Int)) := by omega
  have v : ∀ {sf : Nat → Int}, hV (hL h sf) D at_ = vI (dd at_) := fun {sf} => (hL_n hD).trans (hdd at_ (by omega))
  have b0 : (0 : Int) ≤ (at_ : Int) ∧ (at_ : Int) < 300 := by omega
  have wa : WE ((at_ : Int) + 1) ((at_ + 1 : Nat) : Int) := by unfold WE w32; omega
  have wi : WE ((i : Int) + 1) ((i + 1 : Nat) : Int) := by unfold WE w32; omega
  have e31 : iand (dd at_) 31 = o := by rw [iand31, ho]
  have e5 : dd at_ / 32 = A := hA
  have z8 : ¬ (8 ≤ o) := by omega
  have z5n : ¬ o < 5 := by omega
  refine xpk_sound (stops := [30]) (n := 90) ?_
  simp only [sk_0, sk_1, sk_2, sk_3, sk_4, sk_5, sk_6, sk_7, sk_8, sk_iadd, sk_isub, sk_imul, sk_iand, sk_ior, sk_ixor, sk_ishl, sk_ishr, sk_iushr, sk_idiv, sk_irem, sk_ineg, sk_ladd, sk_lsub, sk_lmul, sk_land, sk_lor, sk_ldiv, sk_lrem, sk_lneg, sk_lshl, sk_lshr, sk_i2l, sk_l2i, sk_lcmp, sk_dupI, sk_dupR, sk_dup2L, sk_dup2I, sk_popI, sk_ifeq, sk_ifne, sk_iflt, sk_ifge, sk_ifgt, sk_ifle, sk_iceq, sk_icne, sk_iclt, sk_icge, sk_icgt, sk_icle, sk_goto, sk_getf, sk_putf, sk_gets, sk_iald, sk_lald, sk_bald, sk_aald, sk_iast, sk_last, sk_bast, sk_aast, sk_alen, sk_newa, sk_newt, sk_new, sk_cs1, sk_cs2, sk_cs3, sk_cs4, sk_cs5, sk_cs6, sk_cv1, sk_cv2, sk_cv3, sk_cv4, sk_cv5, sk_cv6, sk_ci1, sk_ci2, sk_ci3, sk_ret0, sk_retI, sk_retL, sk_retR, sk_sw, sk_oin, sk_max, sk_min, sk_abs, lI_0, lI_s, lL_0, lL_s, lR_0, lR_s, vIo_e, vLo_e, vOo_e, stW_I, stW_L, stW_R, stW_0, stW_z, okSt_0, okSt_s, hV_eq, hK_eq, okF_0, okF_1, okF_3, is01_0, is01_1, is01_i, Int.toNat_natCast, Int.reduceEq, Int.reduceLE, Int.reduceLT, Int.reduceNeg, Nat.reduceLT, not_true_eq_false, not_false_eq_true, reduceIte, Option.toList, List.cons_append, List.nil_append, List.set_cons_zero, List.set_cons_succ, List.not_mem_nil, List.mem_cons, if_false, if_true, ite_true, ite_false, and_self, and_true, true_and, Nat.reduceAdd, Nat.reduceLeDiff, Nat.reduceEqDiff, Nat.zero_add, Nat.le_refl, Nat.zero_le, or_false, false_or, Int.reduceToNat, or_true, true_or, eq_self, and_false, false_and, inR_d, nc_4, nc_5, nc_6, nc_7, nc_8, nc_16, nc_18, nc_20, nc_24, nc_32, nc_40, nc_64, nc_104, nc_120, nc_160, nc_256, nc_300, nc_330, nc_390, nc_1200, nc_1260, nc_3012, nc_9834, okSt_1i, okSt_1r, okSt_1n, List.length_cons, List.length_nil, xpk_succ cd_42_30, xpk_succ cd_42_32, xpk_succ cd_42_35, xpk_succ cd_42_38, xpk_succ cd_42_40, xpk_succ cd_42_43, xpk_succ cd_42_45, xpk_succ cd_42_47, xpk_succ cd_42_50, xpk_succ cd_42_51, xpk_succ cd_42_53, xpk_succ cd_42_54, xpk_succ cd_42_56, xpk_succ cd_42_57, xpk_succ cd_42_59, xpk_succ cd_42_60, xpk_succ cd_42_62, xpk_succ cd_42_63, xpk_succ cd_42_64, xpk_succ cd_42_65, xpk_succ cd_42_67, xpk_succ cd_42_70, xpk_succ cd_42_72, xpk_succ cd_42_74, xpk_succ cd_42_119, xpk_succ cd_42_121, xpk_succ cd_42_122, xpk_succ cd_42_125, xpk_succ cd_42_127, xpk_succ cd_42_128, xpk_succ cd_42_231, xpk_succ cd_42_234, hK_L, hk.1, k3, hk.2.2.1, hk.2.2.2, i0, i1, i2, v, b0, e31, e5, (WE_e wa), (WE_e wi), ishr5, z8, z8n, z5, z5n]
  exact y
set_option maxRecDepth 30000 in
set_option maxHeartbeats 4000000 in
theorem RK_c1 {d : Nat} {h : AH} {T D b : Nat} {dd : Nat → Int} {e : ENV} (hk : hK h 58 = (2, 0) ∧ hV h 58 3 = vR 60 ∧ hK h 60 = (11, 64) ∧ hK h D = (11, 300)) (hD : D ≠ 60) (hdd : ∀ i, i < 300 → hV h D i = vI (dd i)) (hb : b ≤ 300) (hfe : ∀ (op arg : Int) (sf : Nat → Int) (Q : Option AV → AH → Prop), 2 ≤ op → op ≤ 4 → 0 ≤ arg ∧ arg ≤ 1000000000 → XC (d + 4) 43 [vR 58, vI op, vI arg] (hL h sf) Q = Q (some (vI (feF op arg e))) (hL h sf)) {PQ : Option AV → AH → Prop} {w : Int} {i at_ : Nat} {sf : Nat → Int} {l8 l9 : Option AV} (hi : i < 300) (hat : at_ < b) {o A : Int} (ho : dd at_ % 32 = o) (hA : dd at_ / 32 = A) (z8n : o < 8) (z5 : 5 ≤ o) {x1 : Int} {r : List Int} (p2 : sf r.length = x1) (ok : okS (x1 :: r)) (y : XP (d + 4) 42 30 [some (vR 58), some (vR T), some (vI w), some (vR D), some (vI ((at_ + 1 : Nat) : Int)), some (vI (b : Int)), some (vI ((r.length + 1 : Nat) : Int)), some (vI ((i + 1 : Nat) : Int)), (some (vI o)), (some (vI A))] [] (hL h (upF sf r.length (chF o x1))) PQ) : XP (d + 4) 42 30 [some (vR 58), some (vR T), some (vI w), some (vR D), some (vI (at_ : Int)), some (vI (b : Int)), some (vI ((r.length + 1 : Nat) : Int)), some (vI (i : Int)), l8, l9] [] (hL h sf) PQ := by
  have k3 : ∀ {sf : Nat → Int}, hV (hL h sf) 58 3 = vR 60 := fun {sf} => (hL_n (by decide)).trans hk.2.1
  have i0 : ¬ (300 ≤ (i : Int)) := by omega
  have i1 : ¬ ((at_ : Int) < 0) := by omega
  have i2 : ¬ ((b : Int) ≤ (at_ : Int)) := by omega
  have v : ∀ {sf : Nat → Int}, hV (hL h sf) D at_ = vI (dd at_) := fun {sf} => (hL_n hD).trans (hdd at_ (by omega))
  have b0 : (0 : Int) ≤ (at_ : Int) ∧ (at_ : Int) < 300 := by omega
  have wa : WE ((at_ : Int) + 1) ((at_ + 1 : Nat) : Int) := by unfold WE w32; omega
  have wi : WE ((i : Int) + 1) ((i + 1 : Nat) : Int) := by unfold WE w32; omega
  have e31 : iand (dd at_) 31 = o := by rw [iand31, ho]
  have e5 : dd at_ / 32 = A := hA
  have z8 : ¬ (8 ≤ o) := by omega
  have z5n : ¬ o < 5 := by omega
  have okl : r.length + 1 ≤ 64 := ok.1
  have t1 : ¬ (((r.length + 1 : Nat) : Int) < 1) := by omega
  have u2 : WE (((r.length + 1 : Nat) : Int) - 1) ((r.length : Nat) : Int) := by unfold WE w32; omega
  have c2 : (0 : Int) ≤ ((r.length : Nat) : Int) ∧ ((r.length : Nat) : Int) < 64 := by omega
  have v2 : hV (hL h sf) 60 r.length = vI x1 := by rw [hL_v (by omega), p2]
  have s1 : hSet (hL h sf) 60 r.length (vI (chF o x1)) = hL h (upF sf r.length (chF o x1)) := hL_s (by omega)
  have eC : ∀ Q : Option AV → AH → Prop, XC (d + 4) 44 [vI o, vI x1] (hL h sf) Q = Q (some (vI (chF o x1))) (hL h sf) := fun Q => E_ch (d := d + 2) (ok.2 x1 (List.mem_cons_self ..)) Q
  refine xpk_sound (stops := [30]) (n := 90) ?_
  simp only [sk_0, sk_1, sk_2, sk_3, sk_4, sk_5, sk_6, sk_7, sk_8, sk_iadd, sk_isub, sk_imul, sk_iand, sk_ior, sk_ixor, sk_ishl, sk_ishr, sk_iushr, sk_idiv, sk_irem, sk_ineg, sk_ladd, sk_lsub, sk_lmul, sk_land, sk_lor, sk_ldiv, sk_lrem, sk_lneg, sk_lshl, sk_lshr, sk_i2l, sk_l2i, sk_lcmp, sk_dupI, sk_dupR, sk_dup2L, sk_dup2I, sk_popI, sk_ifeq, sk_ifne, sk_iflt, sk_ifge, sk_ifgt, sk_ifle, sk_iceq, sk_icne, sk_iclt, sk_icge, sk_icgt, sk_icle, sk_goto, sk_getf, sk_putf, sk_gets, sk_iald, sk_lald, sk_bald, sk_aald, sk_iast, sk_last, sk_bast, sk_aast, sk_alen, sk_newa, sk_newt, sk_new, sk_cs1, sk_cs2, sk_cs3, sk_cs4, sk_cs5, sk_cs6, sk_cv1, sk_cv2, sk_cv3, sk_cv4, sk_cv5, sk_cv6, sk_ci1, sk_ci2, sk_ci3, sk_ret0, sk_retI, sk_retL, sk_retR, sk_sw, sk_oin, sk_max, sk_min, sk_abs, lI_0, lI_s, lL_0, lL_s, lR_0, lR_s, vIo_e, vLo_e, vOo_e, stW_I, stW_L, stW_R, stW_0, stW_z, okSt_0, okSt_s, hV_eq, hK_eq, okF_0, okF_1, okF_3, is01_0, is01_1, is01_i, Int.toNat_natCast, Int.reduceEq, Int.reduceLE, Int.reduceLT, Int.reduceNeg, Nat.reduceLT, not_true_eq_false, not_false_eq_true, reduceIte, Option.toList, List.cons_append, List.nil_append, List.set_cons_zero, List.set_cons_succ, List.not_mem_nil, List.mem_cons, if_false, if_true, ite_true, ite_false, and_self, and_true, true_and, Nat.reduceAdd, Nat.reduceLeDiff, Nat.reduceEqDiff, Nat.zero_add, Nat.le_refl, Nat.zero_le, or_false, false_or, Int.reduceToNat, or_true, true_or, eq_self, and_false, false_and, inR_d, nc_4, nc_5, nc_6, nc_7, nc_8, nc_16, nc_18, nc_20, nc_24, nc_32, nc_40, nc_64, nc_104, nc_120, nc_160, nc_256, nc_300, nc_330, nc_390, nc_1200, nc_1260, nc_3012, nc_9834, okSt_1i, okSt_1r, okSt_1n, List.length_cons, List.length_nil, xpk_succ cd_42_30, xpk_succ cd_42_32, xpk_succ cd_42_35, xpk_succ cd_42_38, xpk_succ cd_42_40, xpk_succ cd_42_43, xpk_succ cd_42_45, xpk_succ cd_42_47, xpk_succ cd_42_50, xpk_succ cd_42_51, xpk_succ cd_42_53, xpk_succ cd_42_54, xpk_succ cd_42_56, xpk_succ cd_42_57, xpk_succ cd_42_59, xpk_succ cd_42_60, xpk_succ cd_42_62, xpk_succ cd_42_63, xpk_succ cd_42_64, xpk_succ cd_42_65, xpk_succ cd_42_67, xpk_succ cd_42_70, xpk_succ cd_42_72, xpk_succ cd_42_74, xpk_succ cd_42_119, xpk_succ cd_42_121, xpk_succ cd_42_122, xpk_succ cd_42_125, xpk_succ cd_42_127, xpk_succ cd_42_128, xpk_succ cd_42_131, xpk_succ cd_42_132, xpk_succ cd_42_135, xpk_succ cd_42_137, xpk_succ cd_42_138, xpk_succ cd_42_139, xpk_succ cd_42_141, xpk_succ cd_42_142, xpk_succ cd_42_145, xpk_succ cd_42_147, xpk_succ cd_42_148, xpk_succ cd_42_149, xpk_succ cd_42_150, xpk_succ cd_42_153, xpk_succ cd_42_154, xpk_succ cd_42_231, xpk_succ cd_42_234, hK_L, hk.1, k3, hk.2.2.1, hk.2.2.2, i0, i1, i2, v, b0, e31, e5, (WE_e wa), (WE_e wi), ishr5, z8, z8n, z5, z5n, t1, (WE_e u2), c2, v2, s1, eC]
  exact y
set_option maxRecDepth 30000 in
set_option maxHeartbeats 4000000 in
theorem RK_le {d : Nat} {h : AH} {T D b : Nat} {dd : Nat → Int} {e : ENV} (hk : hK h 58 = (2, 0) ∧ hV h 58 3 = vR 60 ∧ hK h 60 = (11, 64) ∧ hK h D = (11, 300)) (hD : D ≠ 60) (hdd : ∀ i, i < 300 → hV h D i = vI (dd i)) (hb : b ≤ 300) (hfe : ∀ (op arg : Int) (sf : Nat → Int) (Q : Option AV → AH → Prop), 2 ≤ op → op ≤ 4 → 0 ≤ arg ∧ arg ≤ 1000000000 → XC (d + 4) 43 [vR 58, vI op, vI arg] (hL h sf) Q = Q (some (vI (feF op arg e))) (hL h sf)) {PQ : Option AV → AH → Prop} {w : Int} {i at_ : Nat} {sf : Nat → Int} {l8 l9 : Option AV} (hi : i < 300) (hat : at_ < b) {o A : Int} (ho : dd at_ % 32 = o) (hA : dd at_ / 32 = A) {s : List Int} (z5n : o < 5) (z0 : o = 0) (y : XP (d + 4) 42 30 [some (vR 58), some (vR T), some (vI w), some (vR D), some (vI A), some (vI (b : Int)), some (vI (s.length : Int)), some (vI ((i + 1 : Nat) : Int)), (some (vI o)), (some (vI A))] [] (hL h sf) PQ) : XP (d + 4) 42 30 [some (vR 58), some (vR T), some (vI w), some (vR D), some (vI (at_ : Int)), some (vI (b : Int)), some (vI (s.length : Int)), some (vI (i : Int)), l8, l9] [] (hL h sf) PQ := by
  have k3 : ∀ {sf : Nat → Int}, hV (hL h sf) 58 3 = vR 60 := fun {sf} => (hL_n (by decide)).trans hk.2.1
  have i0 : ¬ (300 ≤ (i : Int)) := by omega
  have i1 : ¬ ((at_ : Int) < 0) := by omega
  have i2 : ¬ ((b : Int) ≤ (at_ : Int)) := by omega
  have v : ∀ {sf : Nat → Int}, hV (hL h sf) D at_ = vI (dd at_) := fun {sf} => (hL_n hD).trans (hdd at_ (by omega))
  have b0 : (0 : Int) ≤ (at_ : Int) ∧ (at_ : Int) < 300 := by omega
  have wa : WE ((at_ : Int) + 1) ((at_ + 1 : Nat) : Int) := by unfold WE w32; omega
  have wi : WE ((i : Int) + 1) ((i + 1 : Nat) : Int) := by unfold WE w32; omega
  have e31 : iand (dd at_) 31 = o := by rw [iand31, ho]
  have e5 : dd at_ / 32 = A := hA
  have z8 : ¬ (8 ≤ o) := by omega
  have z8n : o < 8 := by omega
  have z5 : ¬ (5 ≤ o) := by omega
  refine xpk_sound (stops := [30]) (n := 90) ?_
  simp only [sk_0, sk_1, sk_2, sk_3, sk_4, sk_5, sk_6, sk_7, sk_8, sk_iadd, sk_isub, sk_imul, sk_iand, sk_ior, sk_ixor, sk_ishl, sk_ishr, sk_iushr, sk_idiv, sk_irem, sk_ineg, sk_ladd, sk_lsub, sk_lmul, sk_land, sk_lor, sk_ldiv, sk_lrem, sk_lneg, sk_lshl, sk_lshr, sk_i2l, sk_l2i, sk_lcmp, sk_dupI, sk_dupR, sk_dup2L, sk_dup2I, sk_popI, sk_ifeq, sk_ifne, sk_iflt, sk_ifge, sk_ifgt, sk_ifle, sk_iceq, sk_icne, sk_iclt, sk_icge, sk_icgt, sk_icle, sk_goto, sk_getf, sk_putf, sk_gets, sk_iald, sk_lald, sk_bald, sk_aald, sk_iast, sk_last, sk_bast, sk_aast, sk_alen, sk_newa, sk_newt, sk_new, sk_cs1, sk_cs2, sk_cs3, sk_cs4, sk_cs5, sk_cs6, sk_cv1, sk_cv2, sk_cv3, sk_cv4, sk_cv5, sk_cv6, sk_ci1, sk_ci2, sk_ci3, sk_ret0, sk_retI, sk_retL, sk_retR, sk_sw, sk_oin, sk_max, sk_min, sk_abs, lI_0, lI_s, lL_0, lL_s, lR_0, lR_s, vIo_e, vLo_e, vOo_e, stW_I, stW_L, stW_R, stW_0, stW_z, okSt_0, okSt_s, hV_eq, hK_eq, okF_0, okF_1, okF_3, is01_0, is01_1, is01_i, Int.toNat_natCast, Int.reduceEq, Int.reduceLE, Int.reduceLT, Int.reduceNeg, Nat.reduceLT, not_true_eq_false, not_false_eq_true, reduceIte, Option.toList, List.cons_append, List.nil_append, List.set_cons_zero, List.set_cons_succ, List.not_mem_nil, List.mem_cons, if_false, if_true, ite_true, ite_false, and_self, and_true, true_and, Nat.reduceAdd, Nat.reduceLeDiff, Nat.reduceEqDiff, Nat.zero_add, Nat.le_refl, Nat.zero_le, or_false, false_or, Int.reduceToNat, or_true, true_or, eq_self, and_false, false_and, inR_d, nc_4, nc_5, nc_6, nc_7, nc_8, nc_16, nc_18, nc_20, nc_24, nc_32, nc_40, nc_64, nc_104, nc_120, nc_160, nc_256, nc_300, nc_330, nc_390, nc_1200, nc_1260, nc_3012, nc_9834, okSt_1i, okSt_1r, okSt_1n, List.length_cons, List.length_nil, xpk_succ cd_42_30, xpk_succ cd_42_32, xpk_succ cd_42_35, xpk_succ cd_42_38, xpk_succ cd_42_40, xpk_succ cd_42_43, xpk_succ cd_42_45, xpk_succ cd_42_47, xpk_succ cd_42_50, xpk_succ cd_42_51, xpk_succ cd_42_53, xpk_succ cd_42_54, xpk_succ cd_42_56, xpk_succ cd_42_57, xpk_succ cd_42_59, xpk_succ cd_42_60, xpk_succ cd_42_62, xpk_succ cd_42_63, xpk_succ cd_42_64, xpk_succ cd_42_65, xpk_succ cd_42_67, xpk_succ cd_42_70, xpk_succ cd_42_72, xpk_succ cd_42_74, xpk_succ cd_42_119, xpk_succ cd_42_121, xpk_succ cd_42_122, xpk_succ cd_42_157, xpk_succ cd_42_159, xpk_succ cd_42_162, xpk_succ cd_42_164, xpk_succ cd_42_166, xpk_succ cd_42_231, xpk_succ cd_42_234, hK_L, hk.1, k3, hk.2.2.1, hk.2.2.2, i0, i1, i2, v, b0, e31, e5, (WE_e wa), (WE_e wi), ishr5, z8, z8n, z5, z5n, (eq_true z0)]
  exact y
set_option maxRecDepth 30000 in
set_option maxHeartbeats 4000000 in
theorem RK_u0 {d : Nat} {h : AH} {T D b : Nat} {dd : Nat → Int} {e : ENV} (hk : hK h 58 = (2, 0) ∧ hV h 58 3 = vR 60 ∧ hK h 60 = (11, 64) ∧ hK h D = (11, 300)) (hD : D ≠ 60) (hdd : ∀ i, i < 300 → hV h D i = vI (dd i)) (hb : b ≤ 300) (hfe : ∀ (op arg : Int) (sf : Nat → Int) (Q : Option AV → AH → Prop), 2 ≤ op → op ≤ 4 → 0 ≤ arg ∧ arg ≤ 1000000000 → XC (d + 4) 43 [vR 58, vI op, vI arg] (hL h sf) Q = Q (some (vI (feF op arg e))) (hL h sf)) {PQ : Option AV → AH → Prop} {w : Int} {i at_ : Nat} {sf : Nat → Int} {l8 l9 : Option AV} (hi : i < 300) (hat : at_ < b) {o A : Int} (ho : dd at_ % 32 = o) (hA : dd at_ / 32 = A) (z5n : o < 5) (z0 : ¬ o = 0) (z1 : o = 1) (y : XP (d + 4) 42 30 [some (vR 58), some (vR T), some (vI w), some (vR D), some (vI ((at_ + 1 : Nat) : Int)), some (vI (b : Int)), some (vI 0), some (vI ((i + 1 : Nat) : Int)), (some (vI o)), (some (vI A))] [] (hL h sf) PQ) : XP (d + 4) 42 30 [some (vR 58), some (vR T), some (vI w), some (vR D), some (vI (at_ : Int)), some (vI (b : Int)), some (vI 0), some (vI (i : Int)), l8, l9] [] (hL h sf) PQ := by
  have k3 : ∀ {sf : Nat → Int}, hV (hL h sf) 58 3 = vR 60 := fun {sf} => (hL_n (by decide)).trans hk.2.1
  have i0 : ¬ (300 ≤ (i : Int)) := by omega
  have i1 : ¬ ((at_ : Int) < 0) := by omega
  have i2 : ¬ ((b : Int) ≤ (at_ : Int)) := by omega
  have v : ∀ {sf : Nat → Int}, hV (hL h sf) D at_ = vI (dd at_) := fun {sf} => (hL_n hD).trans (hdd at_ (by omega))
  have b0 : (0 : Int) ≤ (at_ : Int) ∧ (at_ : Int) < 300 := by omega
  have wa : WE ((at_ : Int) + 1) ((at_ + 1 : Nat) : Int) := by unfold WE w32; omega
  have wi : WE ((i : Int) + 1) ((i + 1 : Nat) : Int) := by unfold WE w32; omega
  have e31 : iand (dd at_) 31 = o := by rw [iand31, ho]
  have e5 : dd at_ / 32 = A := hA
  have z8 : ¬ (8 ≤ o) := by omega
  have z8n : o < 8 := by omega
  have z5 : ¬ (5 ≤ o) := by omega
  refine xpk_sound (stops := [30]) (n := 90) ?_
  simp only [sk_0, sk_1, sk_2, sk_3, sk_4, sk_5, sk_6, sk_7, sk_8, sk_iadd, sk_isub, sk_imul, sk_iand, sk_ior, sk_ixor, sk_ishl, sk_ishr, sk_iushr, sk_idiv, sk_irem, sk_ineg, sk_ladd, sk_lsub, sk_lmul, sk_land, sk_lor, sk_ldiv, sk_lrem, sk_lneg, sk_lshl, sk_lshr, sk_i2l, sk_l2i, sk_lcmp, sk_dupI, sk_dupR, sk_dup2L, sk_dup2I, sk_popI, sk_ifeq, sk_ifne, sk_iflt, sk_ifge, sk_ifgt, sk_ifle, sk_iceq, sk_icne, sk_iclt, sk_icge, sk_icgt, sk_icle, sk_goto, sk_getf, sk_putf, sk_gets, sk_iald, sk_lald, sk_bald, sk_aald, sk_iast, sk_last, sk_bast, sk_aast, sk_alen, sk_newa, sk_newt, sk_new, sk_cs1, sk_cs2, sk_cs3, sk_cs4, sk_cs5, sk_cs6, sk_cv1, sk_cv2, sk_cv3, sk_cv4, sk_cv5, sk_cv6, sk_ci1, sk_ci2, sk_ci3, sk_ret0, sk_retI, sk_retL, sk_retR, sk_sw, sk_oin, sk_max, sk_min, sk_abs, lI_0, lI_s, lL_0, lL_s, lR_0, lR_s, vIo_e, vLo_e, vOo_e, stW_I, stW_L, stW_R, stW_0, stW_z, okSt_0, okSt_s, hV_eq, hK_eq, okF_0, okF_1, okF_3, is01_0, is01_1, is01_i, Int.toNat_natCast, Int.reduceEq, Int.reduceLE, Int.reduceLT, Int.reduceNeg, Nat.reduceLT, not_true_eq_false, not_false_eq_true, reduceIte, Option.toList, List.cons_append, List.nil_append, List.set_cons_zero, List.set_cons_succ, List.not_mem_nil, List.mem_cons, if_false, if_true, ite_true, ite_false, and_self, and_true, true_and, Nat.reduceAdd, Nat.reduceLeDiff, Nat.reduceEqDiff, Nat.zero_add, Nat.le_refl, Nat.zero_le, or_false, false_or, Int.reduceToNat, or_true, true_or, eq_self, and_false, false_and, inR_d, nc_4, nc_5, nc_6, nc_7, nc_8, nc_16, nc_18, nc_20, nc_24, nc_32, nc_40, nc_64, nc_104, nc_120, nc_160, nc_256, nc_300, nc_330, nc_390, nc_1200, nc_1260, nc_3012, nc_9834, okSt_1i, okSt_1r, okSt_1n, List.length_cons, List.length_nil, xpk_succ cd_42_30, xpk_succ cd_42_32, xpk_succ cd_42_35, xpk_succ cd_42_38, xpk_succ cd_42_40, xpk_succ cd_42_43, xpk_succ cd_42_45, xpk_succ cd_42_47, xpk_succ cd_42_50, xpk_succ cd_42_51, xpk_succ cd_42_53, xpk_succ cd_42_54, xpk_succ cd_42_56, xpk_succ cd_42_57, xpk_succ cd_42_59, xpk_succ cd_42_60, xpk_succ cd_42_62, xpk_succ cd_42_63, xpk_succ cd_42_64, xpk_succ cd_42_65, xpk_succ cd_42_67, xpk_succ cd_42_70, xpk_succ cd_42_72, xpk_succ cd_42_74, xpk_succ cd_42_119, xpk_succ cd_42_121, xpk_succ cd_42_122, xpk_succ cd_42_157, xpk_succ cd_42_159, xpk_succ cd_42_169, xpk_succ cd_42_171, xpk_succ cd_42_172, xpk_succ cd_42_175, xpk_succ cd_42_177, xpk_succ cd_42_178, xpk_succ cd_42_231, xpk_succ cd_42_234, hK_L, hk.1, k3, hk.2.2.1, hk.2.2.2, i0, i1, i2, v, b0, e31, e5, (WE_e wa), (WE_e wi), ishr5, z8, z8n, z5, z5n, z0, (eq_true z1)]
  exact y
set_option maxRecDepth 30000 in
set_option maxHeartbeats 4000000 in
theorem RK_u1 {d : Nat} {h : AH} {T D b : Nat} {dd : Nat → Int} {e : ENV} (hk : hK h 58 = (2, 0) ∧ hV h 58 3 = vR 60 ∧ hK h 60 = (11, 64) ∧ hK h D = (11, 300)) (hD : D ≠ 60) (hdd : ∀ i, i < 300 → hV h D i = vI (dd i)) (hb : b ≤ 300) (hfe : ∀ (op arg : Int) (sf : Nat → Int) (Q : Option AV → AH → Prop), 2 ≤ op → op ≤ 4 → 0 ≤ arg ∧ arg ≤ 1000000000 → XC (d + 4) 43 [vR 58, vI op, vI arg] (hL h sf) Q = Q (some (vI (feF op arg e))) (hL h sf)) {PQ : Option AV → AH → Prop} {w : Int} {i at_ : Nat} {sf : Nat → Int} {l8 l9 : Option AV} (hi : i < 300) (hat : at_ < b) {o A : Int} (ho : dd at_ % 32 = o) (hA : dd at_ / 32 = A) (z5n : o < 5) (z0 : ¬ o = 0) (z1 : o = 1) {x1 : Int} {r : List Int} (p2 : sf r.length = x1) (okl : r.length + 1 ≤ 64) (zx : x1 = 0) (y : XP (d + 4) 42 30 [some (vR 58), some (vR T), some (vI w), some (vR D), some (vI A), some (vI (b : Int)), some (vI ((r.length : Nat) : Int)), some (vI ((i + 1 : Nat) : Int)), (some (vI o)), (some (vI A))] [] (hL h sf) PQ) : XP (d + 4) 42 30 [some (vR 58), some (vR T), some (vI w), some (vR D), some (vI (at_ : Int)), some (vI (b : Int)), some (vI ((r.length + 1 : Nat) : Int)), some (vI (i : Int)), l8, l9] [] (hL h sf) PQ := by
  have k3 : ∀ {sf : Nat → Int}, hV (hL h sf) 58 3 = vR 60 := fun {sf} => (hL_n (by decide)).trans hk.2.1
  have i0 : ¬ (300 ≤ (i : Int)) := by omega
  have i1 : ¬ ((at_ : Int) < 0) := by omega
  have i2 : ¬ ((b : Int) ≤ (at_ : Int)) := by omega
  have v : ∀ {sf : Nat → Int}, hV (hL h sf) D at_ = vI (dd at_) := fun {sf} => (hL_n hD).trans (hdd at_ (by omega))
  have b0 : (0 : Int) ≤ (at_ : Int) ∧ (at_ : Int) < 300 := by omega
  have wa : WE ((at_ : Int) + 1) ((at_ + 1 : Nat) : Int) := by unfold WE w32; omega
  have wi : WE ((i : Int) + 1) ((i + 1 : Nat) : Int) := by unfold WE w32; omega
  have e31 : iand (dd at_) 31 = o := by rw [iand31, ho]
  have e5 : dd at_ / 32 = A := hA
  have z8 : ¬ (8 ≤ o) := by omega
  have z8n : o < 8 := by omega
  have z5 : ¬ (5 ≤ o) := by omega
  have t1 : ¬ (((r.length + 1 : Nat) : Int) < 1) := by omega
  have u2 : WE (((r.length + 1 : Nat) : Int) + -1) ((r.length : Nat) : Int) := by unfold WE w32; omega
  have c2 : (0 : Int) ≤ ((r.length : Nat) : Int) ∧ ((r.length : Nat) : Int) < 64 := by omega
  have v2 : hV (hL h sf) 60 r.length = vI x1 := by rw [hL_v (by omega), p2]
  refine xpk_sound (stops := [30]) (n := 90) ?_
  simp only [sk_0, sk_1, sk_2, sk_3, sk_4, sk_5, sk_6, sk_7, sk_8, sk_iadd, sk_isub, sk_imul, sk_iand, sk_ior, sk_ixor, sk_ishl, sk_ishr, sk_iushr, sk_idiv, sk_irem, sk_ineg, sk_ladd, sk_lsub, sk_lmul, sk_land, sk_lor, sk_ldiv, sk_lrem, sk_lneg, sk_lshl, sk_lshr, sk_i2l, sk_l2i, sk_lcmp, sk_dupI, sk_dupR, sk_dup2L, sk_dup2I, sk_popI, sk_ifeq, sk_ifne, sk_iflt, sk_ifge, sk_ifgt, sk_ifle, sk_iceq, sk_icne, sk_iclt, sk_icge, sk_icgt, sk_icle, sk_goto, sk_getf, sk_putf, sk_gets, sk_iald, sk_lald, sk_bald, sk_aald, sk_iast, sk_last, sk_bast, sk_aast, sk_alen, sk_newa, sk_newt, sk_new, sk_cs1, sk_cs2, sk_cs3, sk_cs4, sk_cs5, sk_cs6, sk_cv1, sk_cv2, sk_cv3, sk_cv4, sk_cv5, sk_cv6, sk_ci1, sk_ci2, sk_ci3, sk_ret0, sk_retI, sk_retL, sk_retR, sk_sw, sk_oin, sk_max, sk_min, sk_abs, lI_0, lI_s, lL_0, lL_s, lR_0, lR_s, vIo_e, vLo_e, vOo_e, stW_I, stW_L, stW_R, stW_0, stW_z, okSt_0, okSt_s, hV_eq, hK_eq, okF_0, okF_1, okF_3, is01_0, is01_1, is01_i, Int.toNat_natCast, Int.reduceEq, Int.reduceLE, Int.reduceLT, Int.reduceNeg, Nat.reduceLT, not_true_eq_false, not_false_eq_true, reduceIte, Option.toList, List.cons_append, List.nil_append, List.set_cons_zero, List.set_cons_succ, List.not_mem_nil, List.mem_cons, if_false, if_true, ite_true, ite_false, and_self, and_true, true_and, Nat.reduceAdd, Nat.reduceLeDiff, Nat.reduceEqDiff, Nat.zero_add, Nat.le_refl, Nat.zero_le, or_false, false_or, Int.reduceToNat, or_true, true_or, eq_self, and_false, false_and, inR_d, nc_4, nc_5, nc_6, nc_7, nc_8, nc_16, nc_18, nc_20, nc_24, nc_32, nc_40, nc_64, nc_104, nc_120, nc_160, nc_256, nc_300, nc_330, nc_390, nc_1200, nc_1260, nc_3012, nc_9834, okSt_1i, okSt_1r, okSt_1n, List.length_cons, List.length_nil, xpk_succ cd_42_30, xpk_succ cd_42_32, xpk_succ cd_42_35, xpk_succ cd_42_38, xpk_succ cd_42_40, xpk_succ cd_42_43, xpk_succ cd_42_45, xpk_succ cd_42_47, xpk_succ cd_42_50, xpk_succ cd_42_51, xpk_succ cd_42_53, xpk_succ cd_42_54, xpk_succ cd_42_56, xpk_succ cd_42_57, xpk_succ cd_42_59, xpk_succ cd_42_60, xpk_succ cd_42_62, xpk_succ cd_42_63, xpk_succ cd_42_64, xpk_succ cd_42_65, xpk_succ cd_42_67, xpk_succ cd_42_70, xpk_succ cd_42_72, xpk_succ cd_42_74, xpk_succ cd_42_119, xpk_succ cd_42_121, xpk_succ cd_42_122, xpk_succ cd_42_157, xpk_succ cd_42_159, xpk_succ cd_42_169, xpk_succ cd_42_171, xpk_succ cd_42_172, xpk_succ cd_42_175, xpk_succ cd_42_177, xpk_succ cd_42_178, xpk_succ cd_42_181, xpk_succ cd_42_184, xpk_succ cd_42_185, xpk_succ cd_42_188, xpk_succ cd_42_190, xpk_succ cd_42_191, xpk_succ cd_42_194, xpk_succ cd_42_196, xpk_succ cd_42_199, xpk_succ cd_42_201, xpk_succ cd_42_203, xpk_succ cd_42_231, xpk_succ cd_42_234, hK_L, hk.1, k3, hk.2.2.1, hk.2.2.2, i0, i1, i2, v, b0, e31, e5, (WE_e wa), (WE_e wi), ishr5, z8, z8n, z5, z5n, z0, (eq_true z1), t1, (WE_e u2), c2, v2, (eq_true zx)]
  exact y
set_option maxRecDepth 30000 in
set_option maxHeartbeats 4000000 in
theorem RK_u2 {d : Nat} {h : AH} {T D b : Nat} {dd : Nat → Int} {e : ENV} (hk : hK h 58 = (2, 0) ∧ hV h 58 3 = vR 60 ∧ hK h 60 = (11, 64) ∧ hK h D = (11, 300)) (hD : D ≠ 60) (hdd : ∀ i, i < 300 → hV h D i = vI (dd i)) (hb : b ≤ 300) (hfe : ∀ (op arg : Int) (sf : Nat → Int) (Q : Option AV → AH → Prop), 2 ≤ op → op ≤ 4 → 0 ≤ arg ∧ arg ≤ 1000000000 → XC (d + 4) 43 [vR 58, vI op, vI arg] (hL h sf) Q = Q (some (vI (feF op arg e))) (hL h sf)) {PQ : Option AV → AH → Prop} {w : Int} {i at_ : Nat} {sf : Nat → Int} {l8 l9 : Option AV} (hi : i < 300) (hat : at_ < b) {o A : Int} (ho : dd at_ % 32 = o) (hA : dd at_ / 32 = A) (z5n : o < 5) (z0 : ¬ o = 0) (z1 : o = 1) {x1 : Int} {r : List Int} (p2 : sf r.length = x1) (okl : r.length + 1 ≤ 64) (zx : ¬ x1 = 0) (y : XP (d + 4) 42 30 [some (vR 58), some (vR T), some (vI w), some (vR D), some (vI ((at_ + 1 : Nat) : Int)), some (vI (b : Int)), some (vI ((r.length : Nat) : Int)), some (vI ((i + 1 : Nat) : Int)), (some (vI o)), (some (vI A))] [] (hL h sf) PQ) : XP (d + 4) 42 30 [some (vR 58), some (vR T), some (vI w), some (vR D), some (vI (at_ : Int)), some (vI (b : Int)), some (vI ((r.length + 1 : Nat) : Int)), some (vI (i : Int)), l8, l9] [] (hL h sf) PQ := by
  have k3 : ∀ {sf : Nat → Int}, hV (hL h sf) 58 3 = vR 60 := fun {sf} => (hL_n (by decide)).trans hk.2.1
  have i0 : ¬ (300 ≤ (i : Int)) := by omega
  have i1 : ¬ ((at_ : Int) < 0) := by omega
  have i2 : ¬ ((b : Int) ≤ (at_ : Int)) := by omega
  have v : ∀ {sf : Nat → Int}, hV (hL h sf) D at_ = vI (dd at_) := fun {sf} => (hL_n hD).trans (hdd at_ (by omega))
  have b0 : (0 : Int) ≤ (at_ : Int) ∧ (at_ : Int) < 300 := by omega
  have wa : WE ((at_ : Int) + 1) ((at_ + 1 : Nat) : Int) := by unfold WE w32; omega
  have wi : WE ((i : Int) + 1) ((i + 1 : Nat) : Int) := by unfold WE w32; omega
  have e31 : iand (dd at_) 31 = o := by rw [iand31, ho]
  have e5 : dd at_ / 32 = A := hA
  have z8 : ¬ (8 ≤ o) := by omega
  have z8n : o < 8 := by omega
  have z5 : ¬ (5 ≤ o) := by omega
  have t1 : ¬ (((r.length + 1 : Nat) : Int) < 1) := by omega
  have u2 : WE (((r.length + 1 : Nat) : Int) + -1) ((r.length : Nat) : Int) := by unfold WE w32; omega
  have c2 : (0 : Int) ≤ ((r.length : Nat) : Int) ∧ ((r.length : Nat) : Int) < 64 := by omega
  have v2 : hV (hL h sf) 60 r.length = vI x1 := by rw [hL_v (by omega), p2]
  refine xpk_sound (stops := [30]) (n := 90) ?_
  simp only [sk_0, sk_1, sk_2, sk_3, sk_4, sk_5, sk_6, sk_7, sk_8, sk_iadd, sk_isub, sk_imul, sk_iand, sk_ior, sk_ixor, sk_ishl, sk_ishr, sk_iushr, sk_idiv, sk_irem, sk_ineg, sk_ladd, sk_lsub, sk_lmul, sk_land, sk_lor, sk_ldiv, sk_lrem, sk_lneg, sk_lshl, sk_lshr, sk_i2l, sk_l2i, sk_lcmp, sk_dupI, sk_dupR, sk_dup2L, sk_dup2I, sk_popI, sk_ifeq, sk_ifne, sk_iflt, sk_ifge, sk_ifgt, sk_ifle, sk_iceq, sk_icne, sk_iclt, sk_icge, sk_icgt, sk_icle, sk_goto, sk_getf, sk_putf, sk_gets, sk_iald, sk_lald, sk_bald, sk_aald, sk_iast, sk_last, sk_bast, sk_aast, sk_alen, sk_newa, sk_newt, sk_new, sk_cs1, sk_cs2, sk_cs3, sk_cs4, sk_cs5, sk_cs6, sk_cv1, sk_cv2, sk_cv3, sk_cv4, sk_cv5, sk_cv6, sk_ci1, sk_ci2, sk_ci3, sk_ret0, sk_retI, sk_retL, sk_retR, sk_sw, sk_oin, sk_max, sk_min, sk_abs, lI_0, lI_s, lL_0, lL_s, lR_0, lR_s, vIo_e, vLo_e, vOo_e, stW_I, stW_L, stW_R, stW_0, stW_z, okSt_0, okSt_s, hV_eq, hK_eq, okF_0, okF_1, okF_3, is01_0, is01_1, is01_i, Int.toNat_natCast, Int.reduceEq, Int.reduceLE, Int.reduceLT, Int.reduceNeg, Nat.reduceLT, not_true_eq_false, not_false_eq_true, reduceIte, Option.toList, List.cons_append, List.nil_append, List.set_cons_zero, List.set_cons_succ, List.not_mem_nil, List.mem_cons, if_false, if_true, ite_true, ite_false, and_self, and_true, true_and, Nat.reduceAdd, Nat.reduceLeDiff, Nat.reduceEqDiff, Nat.zero_add, Nat.le_refl, Nat.zero_le, or_false, false_or, Int.reduceToNat, or_true, true_or, eq_self, and_false, false_and, inR_d, nc_4, nc_5, nc_6, nc_7, nc_8, nc_16, nc_18, nc_20, nc_24, nc_32, nc_40, nc_64, nc_104, nc_120, nc_160, nc_256, nc_300, nc_330, nc_390, nc_1200, nc_1260, nc_3012, nc_9834, okSt_1i, okSt_1r, okSt_1n, List.length_cons, List.length_nil, xpk_succ cd_42_30, xpk_succ cd_42_32, xpk_succ cd_42_35, xpk_succ cd_42_38, xpk_succ cd_42_40, xpk_succ cd_42_43, xpk_succ cd_42_45, xpk_succ cd_42_47, xpk_succ cd_42_50, xpk_succ cd_42_51, xpk_succ cd_42_53, xpk_succ cd_42_54, xpk_succ cd_42_56, xpk_succ cd_42_57, xpk_succ cd_42_59, xpk_succ cd_42_60, xpk_succ cd_42_62, xpk_succ cd_42_63, xpk_succ cd_42_64, xpk_succ cd_42_65, xpk_succ cd_42_67, xpk_succ cd_42_70, xpk_succ cd_42_72, xpk_succ cd_42_74, xpk_succ cd_42_119, xpk_succ cd_42_121, xpk_succ cd_42_122, xpk_succ cd_42_157, xpk_succ cd_42_159, xpk_succ cd_42_169, xpk_succ cd_42_171, xpk_succ cd_42_172, xpk_succ cd_42_175, xpk_succ cd_42_177, xpk_succ cd_42_178, xpk_succ cd_42_181, xpk_succ cd_42_184, xpk_succ cd_42_185, xpk_succ cd_42_188, xpk_succ cd_42_190, xpk_succ cd_42_191, xpk_succ cd_42_194, xpk_succ cd_42_196, xpk_succ cd_42_199, xpk_succ cd_42_201, xpk_succ cd_42_203, xpk_succ cd_42_231, xpk_succ cd_42_234, hK_L, hk.1, k3, hk.2.2.1, hk.2.2.2, i0, i1, i2, v, b0, e31, e5, (WE_e wa), (WE_e wi), ishr5, z8, z8n, z5, z5n, z0, (eq_true z1), t1, (WE_e u2), c2, v2, zx]
  exact y
set_option maxRecDepth 30000 in
set_option maxHeartbeats 4000000 in
theorem RK_fe {d : Nat} {h : AH} {T D b : Nat} {dd : Nat → Int} {e : ENV} (hk : hK h 58 = (2, 0) ∧ hV h 58 3 = vR 60 ∧ hK h 60 = (11, 64) ∧ hK h D = (11, 300)) (hD : D ≠ 60) (hdd : ∀ i, i < 300 → hV h D i = vI (dd i)) (hb : b ≤ 300) (hfe : ∀ (op arg : Int) (sf : Nat → Int) (Q : Option AV → AH → Prop), 2 ≤ op → op ≤ 4 → 0 ≤ arg ∧ arg ≤ 1000000000 → XC (d + 4) 43 [vR 58, vI op, vI arg] (hL h sf) Q = Q (some (vI (feF op arg e))) (hL h sf)) {PQ : Option AV → AH → Prop} {w : Int} {i at_ : Nat} {sf : Nat → Int} {l8 l9 : Option AV} (hi : i < 300) (hat : at_ < b) {o A : Int} (ho : dd at_ % 32 = o) (hA : dd at_ / 32 = A) {s : List Int} (z5n : o < 5) (z0 : ¬ o = 0) (z1 : ¬ o = 1) (o0 : 0 ≤ o) (A0 : 0 ≤ A ∧ A ≤ 1000000000) (okl : s.length + 1 ≤ 64) (y : XP (d + 4) 42 30 [some (vR 58), some (vR T), some (vI w), some (vR D), some (vI ((at_ + 1 : Nat) : Int)), some (vI (b : Int)), some (vI ((s.length + 1 : Nat) : Int)), some (vI ((i + 1 : Nat) : Int)), (some (vI o)), (some (vI A))] [] (hL h (upF sf s.length (feF o A e))) PQ) : XP (d + 4) 42 30 [some (vR 58), some (vR T), some (vI w), some (vR D), some (vI (at_ : Int)), some (vI (b : Int)), some (vI (s.length : Int)), some (vI (i : Int)), l8, l9] [] (hL h sf) PQ := by
  have k3 : ∀ {sf : Nat → Int}, hV (hL h sf) 58 3 = vR 60 := fun {sf} => (hL_n (by decide)).trans hk.2.1
  have i0 : ¬ (300 ≤ (i : Int)) := by omega
  have i1 : ¬ ((at_ : Int) < 0) := by omega
  have i2 : ¬ ((b : Int) ≤ (at_ : Int)) := by omega
  have v : ∀ {sf : Nat → Int}, hV (hL h sf) D at_ = vI (dd at_) := fun {sf} => (hL_n hD).trans (hdd at_ (by omega))
  have b0 : (0 : Int) ≤ (at_ : Int) ∧ (at_ : Int) < 300 := by omega
  have wa : WE ((at_ : Int) + 1) ((at_ + 1 : Nat) : Int) := by unfold WE w32; omega
  have wi : WE ((i : Int) + 1) ((i + 1 : Nat) : Int) := by unfold WE w32; omega
  have e31 : iand (dd at_) 31 = o := by rw [iand31, ho]
  have e5 : dd at_ / 32 = A := hA
  have z8 : ¬ (8 ≤ o) := by omega
  have z8n : o < 8 := by omega
  have z5 : ¬ (5 ≤ o) := by omega
  have t64 : ¬ ((64 : Int) ≤ ((s.length : Nat) : Int)) := by omega
  have c2 : (0 : Int) ≤ ((s.length : Nat) : Int) ∧ ((s.length : Nat) : Int) < 64 := by omega
  have u2 : WE (((s.length : Nat) : Int) + 1) ((s.length + 1 : Nat) : Int) := by unfold WE w32; omega
  have s1 : hSet (hL h sf) 60 s.length (vI (feF o A e)) = hL h (upF sf s.length (feF o A e)) := hL_s (by omega)
  have eF : ∀ Q : Option AV → AH → Prop, XC (d + 4) 43 [vR 58, vI o, vI A] (hL h sf) Q = Q (some (vI (feF o A e))) (hL h sf) := fun Q => hfe o A sf Q (by omega) (by omega) A0
  refine xpk_sound (stops := [30]) (n := 90) ?_
  simp only [sk_0, sk_1, sk_2, sk_3, sk_4, sk_5, sk_6, sk_7, sk_8, sk_iadd, sk_isub, sk_imul, sk_iand, sk_ior, sk_ixor, sk_ishl, sk_ishr, sk_iushr, sk_idiv, sk_irem, sk_ineg, sk_ladd, sk_lsub, sk_lmul, sk_land, sk_lor, sk_ldiv, sk_lrem, sk_lneg, sk_lshl, sk_lshr, sk_i2l, sk_l2i, sk_lcmp, sk_dupI, sk_dupR, sk_dup2L, sk_dup2I, sk_popI, sk_ifeq, sk_ifne, sk_iflt, sk_ifge, sk_ifgt, sk_ifle, sk_iceq, sk_icne, sk_iclt, sk_icge, sk_icgt, sk_icle, sk_goto, sk_getf, sk_putf, sk_gets, sk_iald, sk_lald, sk_bald, sk_aald, sk_iast, sk_last, sk_bast, sk_aast, sk_alen, sk_newa, sk_newt, sk_new, sk_cs1, sk_cs2, sk_cs3, sk_cs4, sk_cs5, sk_cs6, sk_cv1, sk_cv2, sk_cv3, sk_cv4, sk_cv5, sk_cv6, sk_ci1, sk_ci2, sk_ci3, sk_ret0, sk_retI, sk_retL, sk_retR, sk_sw, sk_oin, sk_max, sk_min, sk_abs, lI_0, lI_s, lL_0, lL_s, lR_0, lR_s, vIo_e, vLo_e, vOo_e, stW_I, stW_L, stW_R, stW_0, stW_z, okSt_0, okSt_s, hV_eq, hK_eq, okF_0, okF_1, okF_3, is01_0, is01_1, is01_i, Int.toNat_natCast, Int.reduceEq, Int.reduceLE, Int.reduceLT, Int.reduceNeg, Nat.reduceLT, not_true_eq_false, not_false_eq_true, reduceIte, Option.toList, List.cons_append, List.nil_append, List.set_cons_zero, List.set_cons_succ, List.not_mem_nil, List.mem_cons, if_false, if_true, ite_true, ite_false, and_self, and_true, true_and, Nat.reduceAdd, Nat.reduceLeDiff, Nat.reduceEqDiff, Nat.zero_add, Nat.le_refl, Nat.zero_le, or_false, false_or, Int.reduceToNat, or_true, true_or, eq_self, and_false, false_and, inR_d, nc_4, nc_5, nc_6, nc_7, nc_8, nc_16, nc_18, nc_20, nc_24, nc_32, nc_40, nc_64, nc_104, nc_120, nc_160, nc_256, nc_300, nc_330, nc_390, nc_1200, nc_1260, nc_3012, nc_9834, okSt_1i, okSt_1r, okSt_1n, List.length_cons, List.length_nil, xpk_succ cd_42_30, xpk_succ cd_42_32, xpk_succ cd_42_35, xpk_succ cd_42_38, xpk_succ cd_42_40, xpk_succ cd_42_43, xpk_succ cd_42_45, xpk_succ cd_42_47, xpk_succ cd_42_50, xpk_succ cd_42_51, xpk_succ cd_42_53, xpk_succ cd_42_54, xpk_succ cd_42_56, xpk_succ cd_42_57, xpk_succ cd_42_59, xpk_succ cd_42_60, xpk_succ cd_42_62, xpk_succ cd_42_63, xpk_succ cd_42_64, xpk_succ cd_42_65, xpk_succ cd_42_67, xpk_succ cd_42_70, xpk_succ cd_42_72, xpk_succ cd_42_74, xpk_succ cd_42_119, xpk_succ cd_42_121, xpk_succ cd_42_122, xpk_succ cd_42_157, xpk_succ cd_42_159, xpk_succ cd_42_169, xpk_succ cd_42_171, xpk_succ cd_42_172, xpk_succ cd_42_206, xpk_succ cd_42_208, xpk_succ cd_42_210, xpk_succ cd_42_213, xpk_succ cd_42_214, xpk_succ cd_42_217, xpk_succ cd_42_219, xpk_succ cd_42_220, xpk_succ cd_42_222, xpk_succ cd_42_224, xpk_succ cd_42_227, xpk_succ cd_42_228, xpk_succ cd_42_231, xpk_succ cd_42_234, hK_L, hk.1, k3, hk.2.2.1, hk.2.2.2, i0, i1, i2, v, b0, e31, e5, (WE_e wa), (WE_e wi), ishr5, z8, z8n, z5, z5n, z0, z1, t64, c2, (WE_e u2), s1, eF]
  exact y
theorem RK_1 {d : Nat} {h : AH} {T D b : Nat} {dd : Nat → Int} {e : ENV} (hk : hK h 58 = (2, 0) ∧ hV h 58 3 = vR 60 ∧ hK h 60 = (11, 64) ∧ hK h D = (11, 300)) (hD : D ≠ 60) (hdd : ∀ i, i < 300 → hV h D i = vI (dd i)) (hb : b ≤ 300) (hfe : ∀ (op arg : Int) (sf : Nat → Int) (Q : Option AV → AH → Prop), 2 ≤ op → op ≤ 4 → 0 ≤ arg ∧ arg ≤ 1000000000 → XC (d + 4) 43 [vR 58, vI op, vI arg] (hL h sf) Q = Q (some (vI (feF op arg e))) (hL h sf)) {PQ : Option AV → AH → Prop} {w : Int} {i at_ : Nat} {s : List Int} {sf : Nat → Int} {l8 l9 : Option AV} (hi : i < 300) (hat : at_ < b) (hd0 : 0 ≤ dd at_ ∧ dd at_ ≤ 2147483647) (ok : okS s) (ok2 : okS (ckS dd e (at_, s)).2) (hp : PLf sf s) (nx : ∀ (sf' : Nat → Int) (x8 x9 : Int), PLf sf' (ckS dd e (at_, s)).2 → XP (d + 4) 42 30 [some (vR 58), some (vR T), some (vI w), some (vR D), some (vI ((ckS dd e (at_, s)).1 : Int)), some (vI (b : Int)), some (vI ((ckS dd e (at_, s)).2.length : Int)), some (vI ((i + 1 : Nat) : Int)), (some (vI x8)), (some (vI x9))] [] (hL h sf') PQ) : XP (d + 4) 42 30 [some (vR 58), some (vR T), some (vI w), some (vR D), some (vI (at_ : Int)), some (vI (b : Int)), some (vI (s.length : Int)), some (vI (i : Int)), l8, l9] [] (hL h sf) PQ := by
  obtain ⟨o, ho⟩ : ∃ o, dd at_ % 32 = o := ⟨_, rfl⟩
  obtain ⟨A, hA⟩ : ∃ A, dd at_ / 32 = A := ⟨_, rfl⟩
  have o0 : 0 ≤ o := by omega
  have A0 : 0 ≤ A ∧ A ≤ 1000000000 := by omega
  unfold ckS at nx ok2
  dsimp only at nx ok2
  rw [ho, hA] at nx ok2
  by_cases z8 : 8 ≤ o
  · rw [if_pos z8] at nx ok2
    match s, hp, ok, ok2, nx with
    | [], hp, ok, ok2, nx => exact RK_j0 hk hD hdd hb hfe hi hat ho hA z8 (nx sf o A hp)
    | [x], hp, ok, ok2, nx => exact RK_j1 hk hD hdd hb hfe hi hat ho hA z8 (nx sf o A hp)
    | y1 :: x1 :: r, hp, ok, ok2, nx =>
      obtain ⟨p1, p2, p3⟩ := hp
      exact RK_j2 hk hD hdd hb hfe hi hat ho hA z8 p1 p2 ok (nx (upF sf r.length (joF o x1 y1)) o A ⟨upF_at, PLf_u r (Nat.le_refl _) p3⟩)
  have z8n : o < 8 := by omega
  rw [if_neg z8] at nx ok2
  by_cases z5 : 5 ≤ o
  · rw [if_pos z5] at nx ok2
    match s, hp, ok, ok2, nx with
    | [], hp, ok, ok2, nx => exact RK_c0 hk hD hdd hb hfe hi hat ho hA z8n z5 (nx sf o A hp)
    | x1 :: r, hp, ok, ok2, nx =>
      obtain ⟨p2, p3⟩ := hp
      exact RK_c1 hk hD hdd hb hfe hi hat ho hA z8n z5 p2 ok (nx (upF sf r.length (chF o x1)) o A ⟨upF_at, PLf_u r (Nat.le_refl _) p3⟩)
  have z5n : o < 5 := by omega
  have eA : ((A.toNat : Nat) : Int) = A := by omega
  rw [if_neg z5] at nx ok2
  by_cases z0 : o = 0
  · rw [if_pos z0] at nx ok2
    have y2 := nx sf o A hp
    dsimp only at y2
    rw [eA] at y2
    exact RK_le hk hD hdd hb hfe hi hat ho hA z5n z0 y2
  rw [if_neg z0] at nx ok2
  by_cases z1 : o = 1
  · rw [if_pos z1] at nx ok2
    match s, hp, ok, ok2, nx with
    | [], hp, ok, ok2, nx => exact RK_u0 hk hD hdd hb hfe hi hat ho hA z5n z0 z1 (nx sf o A hp)
    | x1 :: r, hp, ok, ok2, nx =>
      obtain ⟨p2, p3⟩ := hp
      have okl : r.length + 1 ≤ 64 := ok.1
      have y2 := nx sf o A p3
      rw [show lpW (at_ + 1) A.toNat (x1 :: r) = (if x1 = 0 then A.toNat else at_ + 1, r) from rfl] at y2
      dsimp only at y2
      by_cases zx : x1 = 0
      · rw [if_pos zx, eA] at y2
        exact RK_u1 hk hD hdd hb hfe hi hat ho hA z5n z0 z1 p2 okl zx y2
      · rw [if_neg zx] at y2
        exact RK_u2 hk hD hdd hb hfe hi hat ho hA z5n z0 z1 p2 okl zx y2
  rw [if_neg z1] at nx ok2
  exact RK_fe hk hD hdd hb hfe hi hat ho hA z5n z0 z1 o0 A0 ok2.1 (nx (upF sf s.length (feF o A e)) o A ⟨upF_at, PLf_u s (Nat.le_refl _) hp⟩)
theorem RK_n {d : Nat} {h : AH} {T D b : Nat} {dd : Nat → Int} {e : ENV} (hk : hK h 58 = (2, 0) ∧ hV h 58 3 = vR 60 ∧ hK h 60 = (11, 64) ∧ hK h D = (11, 300)) (hD : D ≠ 60) (hdd : ∀ i, i < 300 → hV h D i = vI (dd i)) (hb : b ≤ 300) (hfe : ∀ (op arg : Int) (sf : Nat → Int) (Q : Option AV → AH → Prop), 2 ≤ op → op ≤ 4 → 0 ≤ arg ∧ arg ≤ 1000000000 → XC (d + 4) 43 [vR 58, vI op, vI arg] (hL h sf) Q = Q (some (vI (feF op arg e))) (hL h sf)) (hdu : ∀ i, i < 300 → dd i ≤ 2147483647) {PQ : Option AV → AH → Prop} {w : Int} {a : Nat} : ∀ (n i : Nat) (q q' : Nat × List Int) (sf : Nat → Int) (l8 l9 : Option AV), cRu dd e a b n q q' → i + n ≤ 300 → PLf sf q.2 → (∀ (sf' : Nat → Int) (l8 l9 : Option AV), PLf sf' q'.2 → XP (d + 4) 42 30 [some (vR 58), some (vR T), some (vI w), some (vR D), some (vI (q'.1 : Int)), some (vI (b : Int)), some (vI (q'.2.length : Int)), some (vI ((i + n : Nat) : Int)), l8, l9] [] (hL h sf') PQ) → XP (d + 4) 42 30 [some (vR 58), some (vR T), some (vI w), some (vR D), some (vI (q.1 : Int)), some (vI (b : Int)), some (vI (q.2.length : Int)), some (vI (i : Int)), l8, l9] [] (hL h sf) PQ := by
  intro n
  induction n with
  | zero =>
    intro i q q' sf l8 l9 hr hi hp nx
    have hr : q = q' := hr
    subst hr
    exact nx sf l8 l9 hp
  | succ n ih =>
    intro i q q' sf l8 l9 hr hi hp nx
    obtain ⟨⟨h1, h2, h3⟩, h4, h5, h6⟩ := hr
    refine RK_1 hk hD hdd hb hfe (by omega) h2 ⟨h3, hdu _ (by omega)⟩ h4 h5 hp (fun sf' x8 x9 hp' => ?_)
    refine ih (i + 1) (ckS dd e q) q' sf' (some (vI x8)) (some (vI x9)) h6 (by omega) hp' (fun sf2 l8 l9 hp2 => ?_)
    rw [show i + 1 + n = i + (n + 1) by omega]
    exact nx sf2 l8 l9 hp2
