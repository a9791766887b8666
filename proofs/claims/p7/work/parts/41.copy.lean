/-! deeper is as good -/
theorem xec_d1 : ∀ (n d M pc : Nat) (ls : List (Option AV)) (st : List AV) (h : AH) (v : Option AV × AH), xec n d M pc ls st h = some v → xec n (d + 1) M pc ls st h = some v := by
  intro n
  induction n with
  | zero => intro d M pc ls st h v hv; rw [xec] at hv; cases hv
  | succ n ih =>
    intro d M pc ls st h v
    cases hc : cd M pc with
    | none => intro hv; rw [xec, hc] at hv; cases hv
    | some ce =>
      rw [xec_succ hc, xec_succ hc]
      refine stepK_rel (R := fun (x y : RT) => x = some v → y = some v) (fun h => h) (fun pc ls st h => ih d M pc ls st h v) (fun _ _ h => h) (fun M' as h k k' hk hv => ?_) ce ls st h
      obtain ⟨d', r, h1, rfl, hl, he, hk1⟩ := callX_some hv
      rw [callX_of hl (ih d' M' 0 _ [] h _ he)]
      exact hk r h1 hk1
theorem xec_d {n d d' M pc : Nat} {ls : List (Option AV)} {st : List AV} {h : AH} {v : Option AV × AH} (hd : d ≤ d') (hv : xec n d M pc ls st h = some v) : xec n d' M pc ls st h = some v := by
  induction hd with
  | refl => exact hv
  | step _ ih => exact xec_d1 _ _ _ _ _ _ _ _ ih
theorem XC_d {d d' M : Nat} {as : List AV} {h h' : AH} {r : Option AV} (hd : d ≤ d') (hw : ∀ Q, XC (d + 1) M as h Q = Q r h') (Q : Option AV → AH → Prop) : XC (d' + 1) M as h Q = Q r h' := by
  have h1 : XC (d + 1) M as h (fun r1 h1 => r1 = r ∧ h1 = h') := by rw [hw]; exact ⟨rfl, rfl⟩
  obtain ⟨hl, n, r1, h1, he, rfl, rfl⟩ := h1
  exact XC_eq hl ⟨n, _, _, xec_d hd he, rfl, rfl⟩ Q
theorem hK_cpy (h : AH) (r sp q dp n : Nat) : hK (hCpy h r sp q dp n) = hK h := rfl
theorem hV_cpy_ne {h : AH} {r sp q dp n k i : Nat} (hk : k ≠ q) : hV (hCpy h r sp q dp n) k i = hV h k i := if_neg (fun z => hk z.1)
theorem cpy_0 (h : AH) (r q : Nat) : hCpy h r 0 q 0 0 = h := by
  obtain ⟨a, b, K, V⟩ := h
  unfold hCpy
  refine congrArg (fun V => (a, b, K, V)) ?_
  funext x j
  exact if_neg (fun z => by omega)
theorem cpy_s {h : AH} {r q k : Nat} (hne : r ≠ q) : hSet (hCpy h r 0 q 0 k) q k (hV h r k) = hCpy h r 0 q 0 (k + 1) := by
  obtain ⟨a, b, K, V⟩ := h
  unfold hSet hCpy upV hV
  refine congrArg (fun V => (a, b, K, V)) ?_
  funext x j
  dsimp only
  by_cases hx : x = q
  · by_cases hj : j = k
    · rw [if_pos ⟨hx, hj⟩, if_pos ⟨hx, by omega, by omega⟩, hj]
      congr 1; omega
    · rw [if_neg (fun z => hj z.2)]
      by_cases hlt : j < k
      · rw [if_pos ⟨hx, by omega, by omega⟩, if_pos ⟨hx, by omega, by omega⟩]
      · rw [if_neg (fun z => by omega), if_neg (fun z => by omega)]
  · rw [if_neg (fun z => hx z.1), if_neg (fun z => hx z.1), if_neg (fun z => hx z.1)]
theorem copy_loop (d p q : Nat) (h : AH) (f : Nat → Int) (Q : Option AV → AH → Prop) (hp : hK h p = (11, 9834)) (hq : hK h q = (11, 9834)) (hne : p ≠ q) (hv : ∀ i, i < 9834 → hV h p i = vI (f i)) (hQ : Q none (hCpy h p 0 q 0 9834)) :
    ∀ j k : Nat, k + j = 9834 → XP d 181 2 [some (vR p), some (vR q), some (vI (k : Int))] [] (hCpy h p 0 q 0 k) Q := by
  intro j
  induction j with
  | zero =>
    intro k hk
    obtain rfl : k = 9834 := by omega
    refine xpk_sound (stops := [2]) (n := 5) ?_
    simp only [sk_0, sk_1, sk_2, sk_3, sk_4, sk_5, sk_6, sk_7, sk_8, sk_iadd, sk_isub, sk_imul, sk_iand, sk_ior, sk_ixor, sk_ishl, sk_ishr, sk_iushr, sk_idiv, sk_irem, sk_ineg, sk_ladd, sk_lsub, sk_lmul, sk_land, sk_lor, sk_ldiv, sk_lrem, sk_lneg, sk_lshl, sk_lshr, sk_i2l, sk_l2i, sk_lcmp, sk_dupI, sk_dupR, sk_dup2L, sk_dup2I, sk_popI, sk_ifeq, sk_ifne, sk_iflt, sk_ifge, sk_ifgt, sk_ifle, sk_iceq, sk_icne, sk_iclt, sk_icge, sk_icgt, sk_icle, sk_goto, sk_getf, sk_putf, sk_gets, sk_iald, sk_lald, sk_bald, sk_aald, sk_iast, sk_last, sk_bast, sk_aast, sk_alen, sk_newa, sk_newt, sk_new, sk_cs1, sk_cs2, sk_cs3, sk_cs4, sk_cs5, sk_cs6, sk_cv1, sk_cv2, sk_cv3, sk_cv4, sk_cv5, sk_cv6, sk_ci1, sk_ci2, sk_ci3, sk_ret0, sk_retI, sk_retL, sk_retR, sk_sw, sk_oin, sk_max, sk_min, sk_abs, lI_0, lI_s, lL_0, lL_s, lR_0, lR_s, vIo_e, vLo_e, vOo_e, stW_I, stW_L, stW_R, stW_0, stW_z, okSt_0, okSt_s, hV_eq, hK_eq, okF_0, okF_1, okF_3, is01_0, is01_1, is01_i, Int.toNat_natCast, Int.reduceEq, Int.reduceLE, Int.reduceLT, Int.reduceNeg, Nat.reduceLT, not_true_eq_false, not_false_eq_true, reduceIte, Option.toList, List.cons_append, List.nil_append, List.set_cons_zero, List.set_cons_succ, List.not_mem_nil, List.mem_cons, if_false, if_true, ite_true, ite_false, and_self, and_true, true_and, Nat.reduceAdd, Nat.reduceLeDiff, Nat.reduceEqDiff, Nat.zero_add, Nat.le_refl, Nat.zero_le, or_false, false_or, Int.reduceToNat, or_true, true_or, eq_self, and_false, false_and, inR_d, nc_4, nc_5, nc_6, nc_7, nc_8, nc_16, nc_18, nc_20, nc_24, nc_32, nc_40, nc_64, nc_104, nc_120, nc_160, nc_256, nc_300, nc_330, nc_390, nc_1200, nc_1260, nc_3012, nc_9834, xpk_succ cd_181_0, xpk_succ cd_181_1, xpk_succ cd_181_2, xpk_succ cd_181_3, xpk_succ cd_181_6, xpk_succ cd_181_9, xpk_succ cd_181_10, xpk_succ cd_181_11, xpk_succ cd_181_12, xpk_succ cd_181_13, xpk_succ cd_181_14, xpk_succ cd_181_15, xpk_succ cd_181_18, xpk_succ cd_181_21]
    exact hQ
  | succ j ih =>
    intro k hk
    have hi1 : (0 : Int) ≤ k := by omega
    have hi2 : (k : Int) < 9834 := by omega
    have hvk : hV (hCpy h p 0 q 0 k) p k = vI (f k) := (hV_cpy_ne hne).trans (hv k (by omega))
    have hw : w32 ((k : Int) + 1) = ((k + 1 : Nat) : Int) := by unfold w32; omega
    have hs : hSet (hCpy h p 0 q 0 k) q k (vI (f k)) = hCpy h p 0 q 0 (k + 1) := by rw [← hv k (by omega)]; exact cpy_s hne
    refine xpk_sound (stops := [2]) (n := 20) ?_
    simp only [sk_0, sk_1, sk_2, sk_3, sk_4, sk_5, sk_6, sk_7, sk_8, sk_iadd, sk_isub, sk_imul, sk_iand, sk_ior, sk_ixor, sk_ishl, sk_ishr, sk_iushr, sk_idiv, sk_irem, sk_ineg, sk_ladd, sk_lsub, sk_lmul, sk_land, sk_lor, sk_ldiv, sk_lrem, sk_lneg, sk_lshl, sk_lshr, sk_i2l, sk_l2i, sk_lcmp, sk_dupI, sk_dupR, sk_dup2L, sk_dup2I, sk_popI, sk_ifeq, sk_ifne, sk_iflt, sk_ifge, sk_ifgt, sk_ifle, sk_iceq, sk_icne, sk_iclt, sk_icge, sk_icgt, sk_icle, sk_goto, sk_getf, sk_putf, sk_gets, sk_iald, sk_lald, sk_bald, sk_aald, sk_iast, sk_last, sk_bast, sk_aast, sk_alen, sk_newa, sk_newt, sk_new, sk_cs1, sk_cs2, sk_cs3, sk_cs4, sk_cs5, sk_cs6, sk_cv1, sk_cv2, sk_cv3, sk_cv4, sk_cv5, sk_cv6, sk_ci1, sk_ci2, sk_ci3, sk_ret0, sk_retI, sk_retL, sk_retR, sk_sw, sk_oin, sk_max, sk_min, sk_abs, lI_0, lI_s, lL_0, lL_s, lR_0, lR_s, vIo_e, vLo_e, vOo_e, stW_I, stW_L, stW_R, stW_0, stW_z, okSt_0, okSt_s, hV_eq, hK_eq, okF_0, okF_1, okF_3, is01_0, is01_1, is01_i, Int.toNat_natCast, Int.reduceEq, Int.reduceLE, Int.reduceLT, Int.reduceNeg, Nat.reduceLT, not_true_eq_false, not_false_eq_true, reduceIte, Option.toList, List.cons_append, List.nil_append, List.set_cons_zero, List.set_cons_succ, List.not_mem_nil, List.mem_cons, if_false, if_true, ite_true, ite_false, and_self, and_true, true_and, Nat.reduceAdd, Nat.reduceLeDiff, Nat.reduceEqDiff, Nat.zero_add, Nat.le_refl, Nat.zero_le, or_false, false_or, Int.reduceToNat, or_true, true_or, eq_self, and_false, false_and, inR_d, nc_4, nc_5, nc_6, nc_7, nc_8, nc_16, nc_18, nc_20, nc_24, nc_32, nc_40, nc_64, nc_104, nc_120, nc_160, nc_256, nc_300, nc_330, nc_390, nc_1200, nc_1260, nc_3012, nc_9834, xpk_succ cd_181_0, xpk_succ cd_181_1, xpk_succ cd_181_2, xpk_succ cd_181_3, xpk_succ cd_181_6, xpk_succ cd_181_9, xpk_succ cd_181_10, xpk_succ cd_181_11, xpk_succ cd_181_12, xpk_succ cd_181_13, xpk_succ cd_181_14, xpk_succ cd_181_15, xpk_succ cd_181_18, xpk_succ cd_181_21, hK_cpy, hp, hq, hi1, hi2, hvk, hs, hw]
    rw [if_neg (by omega)]
    exact ih (k + 1) (by omega)
theorem X_copy (d p q : Nat) (h : AH) (f : Nat → Int) (hp : hK h p = (11, 9834)) (hq : hK h q = (11, 9834)) (hne : p ≠ q) (hv : ∀ i, i < 9834 → hV h p i = vI (f i)) (Q : Option AV → AH → Prop) : XC (d + 1) 181 [vR p, vR q] h Q = Q none (hCpy h p 0 q 0 9834) := by
  refine XC_eq (Nat.le_of_ble_eq_true rfl) (xpk_sound (stops := [2]) (n := 3) ?_) Q
  show xpk [2] 3 d 181 0 [some (vR p), some (vR q), none] [] h _
  simp only [sk_0, sk_1, sk_2, sk_3, sk_4, sk_5, sk_6, sk_7, sk_8, sk_iadd, sk_isub, sk_imul, sk_iand, sk_ior, sk_ixor, sk_ishl, sk_ishr, sk_iushr, sk_idiv, sk_irem, sk_ineg, sk_ladd, sk_lsub, sk_lmul, sk_land, sk_lor, sk_ldiv, sk_lrem, sk_lneg, sk_lshl, sk_lshr, sk_i2l, sk_l2i, sk_lcmp, sk_dupI, sk_dupR, sk_dup2L, sk_dup2I, sk_popI, sk_ifeq, sk_ifne, sk_iflt, sk_ifge, sk_ifgt, sk_ifle, sk_iceq, sk_icne, sk_iclt, sk_icge, sk_icgt, sk_icle, sk_goto, sk_getf, sk_putf, sk_gets, sk_iald, sk_lald, sk_bald, sk_aald, sk_iast, sk_last, sk_bast, sk_aast, sk_alen, sk_newa, sk_newt, sk_new, sk_cs1, sk_cs2, sk_cs3, sk_cs4, sk_cs5, sk_cs6, sk_cv1, sk_cv2, sk_cv3, sk_cv4, sk_cv5, sk_cv6, sk_ci1, sk_ci2, sk_ci3, sk_ret0, sk_retI, sk_retL, sk_retR, sk_sw, sk_oin, sk_max, sk_min, sk_abs, lI_0, lI_s, lL_0, lL_s, lR_0, lR_s, vIo_e, vLo_e, vOo_e, stW_I, stW_L, stW_R, stW_0, stW_z, okSt_0, okSt_s, hV_eq, hK_eq, okF_0, okF_1, okF_3, is01_0, is01_1, is01_i, Int.toNat_natCast, Int.reduceEq, Int.reduceLE, Int.reduceLT, Int.reduceNeg, Nat.reduceLT, not_true_eq_false, not_false_eq_true, reduceIte, Option.toList, List.cons_append, List.nil_append, List.set_cons_zero, List.set_cons_succ, List.not_mem_nil, List.mem_cons, if_false, if_true, ite_true, ite_false, and_self, and_true, true_and, Nat.reduceAdd, Nat.reduceLeDiff, Nat.reduceEqDiff, Nat.zero_add, Nat.le_refl, Nat.zero_le, or_false, false_or, Int.reduceToNat, or_true, true_or, eq_self, and_false, false_and, inR_d, nc_4, nc_5, nc_6, nc_7, nc_8, nc_16, nc_18, nc_20, nc_24, nc_32, nc_40, nc_64, nc_104, nc_120, nc_160, nc_256, nc_300, nc_330, nc_390, nc_1200, nc_1260, nc_3012, nc_9834, xpk_succ cd_181_0, xpk_succ cd_181_1, xpk_succ cd_181_2, xpk_succ cd_181_3, xpk_succ cd_181_6, xpk_succ cd_181_9, xpk_succ cd_181_10, xpk_succ cd_181_11, xpk_succ cd_181_12, xpk_succ cd_181_13, xpk_succ cd_181_14, xpk_succ cd_181_15, xpk_succ cd_181_18, xpk_succ cd_181_21]
  have h1 := copy_loop d p q h f (fun r1 h1 => r1 = none ∧ h1 = hCpy h p 0 q 0 9834) hp hq hne hv ⟨rfl, rfl⟩ 9834 0 (by omega)
  rw [cpy_0] at h1
  exact h1
