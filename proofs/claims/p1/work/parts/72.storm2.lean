def f0 : Nat → Int := fun i => if i = 5 then 5 else if i = 10 then 59 else if i = 11 then -1 else 0
def g0 : Nat → Int := fun i => if i = 1 then 2 else if i = 2 then 59 else if i = 4 then -1 else if i = 5 then 1 else if i = 12 then 5 else if i = 17 then -1 else 0
def bG0 : List (List (Option AC)) := [bcC0, [], bcC2, bcC3, bcM]
theorem nil_D (j : Nat) : ([] : List (Option AC)).getD j none = none := by rw [List.getD_eq_getElem?_getD, List.getElem?_nil]; rfl
theorem drop_1 (A B C D E : List (Option AC)) (q j : Nat) (c : AC) (h : (([A, [], C, D, E] : List (List (Option AC))).getD q []).getD j none = some c) : (([A, B, C, D, E] : List (List (Option AC))).getD q []).getD j none = some c := by
  match q, h with
  | 0, h => exact h
  | 1, h => have h : ([] : List (Option AC)).getD j none = some c := h; rw [nil_D] at h; cases h
  | 2, h => exact h
  | 3, h => exact h
  | 4, h => exact h
  | n + 5, h => exact h
theorem bG0_s {z : List (Nat × AC)} {h : AH} (hb : ab_H (bc0, z) h) : ab_H (bG0, z) h := by
  refine ⟨hb.1, hb.2.1, fun k c hc => hb.2.2 k c ?_⟩
  unfold gC bG0 at hc
  unfold gC bc0
  split at hc
  · rename_i hk
    rw [if_pos hk]
    exact drop_1 bcC0 bcC1 bcC2 bcC3 bcM (k / 19) (k % 19) c hc
  · rename_i hk
    rw [if_neg hk]
    exact hc
theorem ai_fits : achF nt0 1000000 1000000 nSt 997 129 0 (entG [xR 0, .inr (1, 40)] (repN (mL 129 - lenW [xR 0, .inr (1, 40)]))) [] (bG0, bx bxT) (cKs (some (xI 1)) bG0) = true := by decide +kernel
theorem ai_keepStep2 : achF nt0 1000000 1000000 nSt 997 111 0 (entG [xR 1] (repN (mL 111 - lenW [xR 1]))) [] (bG0, bx bxT) (cKs none bKs) = true := by decide +kernel
theorem X_fits {h : AH} {n : Int} (hb : ab_H (bG0, bx bxT) h) (h1 : 1 ≤ n) (h2 : n ≤ 40) : ∃ h', ab_H (bG0, bx bxT) h' ∧ ∀ Q : Option AV → AH → Prop, XC 998 129 [vR 0, vI n] h Q = Q (some (vI 1)) h' :=
  XC_ex (ai_call nt0_s ai_fits (by decide) ⟨_, _, rfl, rfl, _, _, rfl, ab_rg h1 h2, rfl⟩ hb (fun r b v h hk ho hb => by
    obtain ⟨rfl, hb'⟩ := cKs_s hk rfl rfl hb
    obtain ⟨u, rfl, hu⟩ := ho
    have hu : u = vI 1 := hu
    rw [hu]
    exact ⟨rfl, hb'⟩))
theorem X_keepStep2 {h : AH} (hb : ab_H (bG0, bx bxT) h) : ∃ h', ab_H (bKs, bx bxT) h' ∧ ∀ Q : Option AV → AH → Prop, XC 998 111 [vR 1] h Q = Q none h' :=
  XC_ex (ai_call nt0_s ai_keepStep2 (by decide) ⟨_, _, rfl, rfl, rfl⟩ hb (fun r b v h hk ho hb => by
    obtain ⟨rfl, hb'⟩ := cKs_s hk rfl rfl hb
    exact ⟨ho, hb'⟩))
theorem XC_999 {M : Nat} {as : List AV} {h h' : AH} {r : Option AV} (e : ∀ Q, XC 998 M as h Q = Q r h') : ∀ Q, XC 999 M as h Q = Q r h' := XC_d (d := 997) (d' := 998) (by decide) e
theorem HO_K {h : AH} (hb : ab_H (bKs, bx bxT) h) : HO h 2 3 f0 := by
  refine ⟨(hasI_s (i := 0) (v := vR 3) hb (by decide +kernel)).1, (hasI_s (kd := 0) (len := 0) (v := vR 3) hb (by decide +kernel)).2, fun i h1 h2 => ?_⟩
  match i, h1, h2 with
  | 1, _, _ => exact (hasI_s (kd := 0) (len := 0) (v := vI (0)) hb (by decide +kernel)).2
  | 2, _, _ => exact (hasI_s (kd := 0) (len := 0) (v := vI (0)) hb (by decide +kernel)).2
  | 3, _, _ => exact (hasI_s (kd := 0) (len := 0) (v := vI (0)) hb (by decide +kernel)).2
  | 4, _, _ => exact (hasI_s (kd := 0) (len := 0) (v := vI (0)) hb (by decide +kernel)).2
  | 5, _, _ => exact (hasI_s (kd := 0) (len := 0) (v := vI (5)) hb (by decide +kernel)).2
  | 6, _, _ => exact (hasI_s (kd := 0) (len := 0) (v := vI (0)) hb (by decide +kernel)).2
  | 7, _, _ => exact (hasI_s (kd := 0) (len := 0) (v := vI (0)) hb (by decide +kernel)).2
  | 8, _, _ => exact (hasI_s (kd := 0) (len := 0) (v := vI (0)) hb (by decide +kernel)).2
  | 9, _, _ => exact (hasI_s (kd := 0) (len := 0) (v := vI (0)) hb (by decide +kernel)).2
  | 10, _, _ => exact (hasI_s (kd := 0) (len := 0) (v := vI (59)) hb (by decide +kernel)).2
  | 11, _, _ => exact (hasI_s (kd := 0) (len := 0) (v := vI (-1)) hb (by decide +kernel)).2
  | 12, _, _ => exact (hasI_s (kd := 0) (len := 0) (v := vI (0)) hb (by decide +kernel)).2
  | 13, _, _ => exact (hasI_s (kd := 0) (len := 0) (v := vI (0)) hb (by decide +kernel)).2
  | 14, _, _ => exact (hasI_s (kd := 0) (len := 0) (v := vI (0)) hb (by decide +kernel)).2
  | n + 15, _, h2 => exact absurd h2 (by omega)
noncomputable def kdI (b : BH) (k kd len : Nat) : Bool := match gF b k with
  | some c => Nat.beq c.1 kd && Nat.beq c.2.1 len
  | none => false
theorem kdI_s {b : BH} {h : AH} {k kd len : Nat} (hb : ab_H b h) (hh : kdI b k kd len = true) : hK h k = (kd, len) := by
  unfold kdI at hh
  rw [gF_eq] at hh
  split at hh
  · rename_i c e
    rw [Bool.and_eq_true, beq_d, beq_d, decide_eq_true_eq, decide_eq_true_eq] at hh
    rw [(hb.2.2 k c e).1, hh.1, hh.2]
  · cases hh
theorem WC_K {h : AH} (hb : ab_H (bKs, bx bxT) h) : WC h := by
  have a := hasI_s (k := 3) (kd := 1) (len := 0) (i := 0) (v := vR 4) hb (by decide +kernel)
  have b := hasI_s (k := 3) (kd := 1) (len := 0) (i := 1) (v := vI 1260) hb (by decide +kernel)
  refine ⟨okLaw_s hb (by decide +kernel), okSta_s hb (by decide +kernel), a.1, a.2, b.2, kdI_s hb (by decide +kernel)⟩
theorem MO_K {h : AH} (hb : ab_H (bKm, bx bxT) h) : MO h g0 0 := by
  have m0 := hasI_s (k := 76) (kd := 10) (len := 0) (i := 0) (v := vR 77) hb (by decide +kernel)
  have m20 := hasI_s (k := 76) (kd := 10) (len := 0) (i := 20) (v := vR 82) hb (by decide +kernel)
  have m25 := hasI_s (k := 76) (kd := 10) (len := 0) (i := 25) (v := vI 0) hb (by decide +kernel)
  have a0 := hasI_s (k := 77) (kd := 11) (len := 9834) (i := 0) (v := vI 0) hb (by decide +kernel)
  have q0 := hasI_s (k := 82) (kd := 11) (len := 8) (i := 0) (v := vI 0) hb (by decide +kernel)
  refine ⟨m0.1, m0.2, m20.2, m25.2, a0.1, q0.1, fun i hi => ?_⟩
  match i, hi with
  | 0, _ => exact (hasI_s (kd := 11) (len := 9834) (v := vI (0)) hb (by decide +kernel)).2
  | 1, _ => exact (hasI_s (kd := 11) (len := 9834) (v := vI (2)) hb (by decide +kernel)).2
  | 2, _ => exact (hasI_s (kd := 11) (len := 9834) (v := vI (59)) hb (by decide +kernel)).2
  | 3, _ => exact (hasI_s (kd := 11) (len := 9834) (v := vI (0)) hb (by decide +kernel)).2
  | 4, _ => exact (hasI_s (kd := 11) (len := 9834) (v := vI (-1)) hb (by decide +kernel)).2
  | 5, _ => exact (hasI_s (kd := 11) (len := 9834) (v := vI (1)) hb (by decide +kernel)).2
  | 6, _ => exact (hasI_s (kd := 11) (len := 9834) (v := vI (0)) hb (by decide +kernel)).2
  | 7, _ => exact (hasI_s (kd := 11) (len := 9834) (v := vI (0)) hb (by decide +kernel)).2
  | 8, _ => exact (hasI_s (kd := 11) (len := 9834) (v := vI (0)) hb (by decide +kernel)).2
  | 9, _ => exact (hasI_s (kd := 11) (len := 9834) (v := vI (0)) hb (by decide +kernel)).2
  | 10, _ => exact (hasI_s (kd := 11) (len := 9834) (v := vI (0)) hb (by decide +kernel)).2
  | 11, _ => exact (hasI_s (kd := 11) (len := 9834) (v := vI (0)) hb (by decide +kernel)).2
  | 12, _ => exact (hasI_s (kd := 11) (len := 9834) (v := vI (5)) hb (by decide +kernel)).2
  | 13, _ => exact (hasI_s (kd := 11) (len := 9834) (v := vI (0)) hb (by decide +kernel)).2
  | 14, _ => exact (hasI_s (kd := 11) (len := 9834) (v := vI (0)) hb (by decide +kernel)).2
  | 15, _ => exact (hasI_s (kd := 11) (len := 9834) (v := vI (0)) hb (by decide +kernel)).2
  | 16, _ => exact (hasI_s (kd := 11) (len := 9834) (v := vI (0)) hb (by decide +kernel)).2
  | 17, _ => exact (hasI_s (kd := 11) (len := 9834) (v := vI (-1)) hb (by decide +kernel)).2
  | 18, _ => exact (hasI_s (kd := 11) (len := 9834) (v := vI (0)) hb (by decide +kernel)).2
  | n + 19, h2 => exact absurd h2 (by omega)
theorem rel_0 {x : Int} (h1 : 0 ≤ x) (h2 : x ≤ 30252) : RQ (up f0 10 x) (up g0 2 x) ∧ RB (up f0 10 x) := by
  have n : ∀ j, j ≠ 10 → up f0 10 x j = f0 j := fun j h => up_ne h
  have m : ∀ j, j ≠ 2 → up g0 2 x j = g0 j := fun j h => up_ne h
  have x10 : up f0 10 x 10 = x := up_at
  have y2 : up g0 2 x 2 = x := up_at
  unfold RQ RB
  rw [n 1 (by decide), n 2 (by decide), n 3 (by decide), n 4 (by decide), n 5 (by decide), n 7 (by decide), n 9 (by decide), n 14 (by decide), x10, m 8 (by decide), m 9 (by decide), m 10 (by decide), m 11 (by decide), m 12 (by decide), m 14 (by decide), m 16 (by decide), m 4 (by decide), y2]
  exact ⟨⟨rfl, rfl, rfl, rfl, rfl, rfl, rfl, rfl, rfl, rfl⟩, by decide, by decide, by decide, by decide, by decide, by decide, by decide, h1, h2⟩
theorem cells_1 {h h' : AH} (hb : ab_H (bKs, bx bxT) h) (hf : FRM h h' 2 4) : ab_H (bc1, bx bxT) h' := by
  obtain ⟨f1, f2, f3, f4⟩ := hf
  refine ⟨by rw [f1]; exact hb.1, by rw [f2]; exact hb.2.1, fun k c hc => ?_⟩
  have hg : gC (bKs, bx bxT) k = some c := gC_1 rfl hc
  have hk : k ≠ 2 ∧ k ≠ 4 := by
    unfold gC at hc
    split at hc
    · have hc : (bc1.getD (k / 19) []).getD (k % 19) none = some c := hc
      refine ⟨fun z => ?_, fun z => ?_⟩
      · rw [z, show bc1.getD (2 / 19) [] = [] from rfl, nil_D] at hc; cases hc
      · rw [z, show bc1.getD (4 / 19) [] = [] from rfl, nil_D] at hc; cases hc
    · rename_i h6
      exact ⟨by omega, by omega⟩
  obtain ⟨q1, q2, q3⟩ := hb.2.2 k c hg
  exact ⟨by rw [f3]; exact q1, fun i w hw => by rw [f4 k hk.1 hk.2]; exact q2 i w hw, fun w hw i a b => by rw [f4 k hk.1 hk.2]; exact q3 w hw i a b⟩
set_option maxHeartbeats 4000000 in
theorem X_stormC {h : AH} {s n : Int} (hb0 : ab_H (bc0, bx bxT) h) (s1 : 0 ≤ s) (s2 : s ≤ 9999) (n1 : 1 ≤ n) (n2 : n ≤ 40) : ∃ h', ab_H (bc1, bx bxT) h' ∧ ∀ Q : Option AV → AH → Prop, XC 1000 136 [vR 0, vI s, vI n] h Q = Q (some (vI (itC n.toNat (up f0 10 (s * 3 + 59)) 1))) h' := by
  have hb := bG0_s hb0
  have k0 := (hasI_s (k := 0) (kd := 9) (len := 0) (i := 0) (v := vR 1) hb (by decide +kernel)).1
  obtain ⟨ha, hba, ea⟩ := X_fits hb n1 n2
  have ea := XC_999 ea
  have a0 := hasI_s (k := 0) (kd := 9) (len := 0) (i := 0) (v := vR 1) hba (by decide +kernel)
  have a1 := hasI_s (k := 1) (kd := 8) (len := 0) (i := 0) (v := vR 2) hba (by decide +kernel)
  obtain ⟨h1, hb1, e1⟩ := X_keepStep2 hba
  have e1 := XC_999 e1
  have c0 := hasI_s (k := 0) (kd := 9) (len := 0) (i := 0) (v := vR 1) hb1 (by decide +kernel)
  have c1 := hasI_s (k := 1) (kd := 8) (len := 0) (i := 0) (v := vR 2) hb1 (by decide +kernel)
  obtain ⟨h2, hb2, e2⟩ := X_ruled hb1
  have e2 := XC_999 e2
  have H2 := HO_K hb2
  have W2 := WC_K hb2
  have hx : w32 (w32 (s * 3) + 59) = s * 3 + 59 := by rw [w32_in (z := s * 3) (by omega) (by omega), w32_in (z := s * 3 + 59) (by omega) (by omega)]
  obtain ⟨hr, hB⟩ := rel_0 (x := s * 3 + 59) (by omega) (by omega)
  have H3 : HO (hSet h2 2 10 (vI (s * 3 + 59))) 2 3 (up f0 10 (s * 3 + 59)) := HO_set H2 (by decide)
  have W3 := WC_fr W2 (FRM_set (h := h2) (r := 2) (q := 4) (i := 10) (v := vI (s * 3 + 59)))
  refine XC_ex (d := 999) (XC_of (Nat.le_of_ble_eq_true rfl) ?_)
  have hloop := stC_loop s n (fun r h' => r = some (vI (itC n.toNat (up f0 10 (s * 3 + 59)) 1)) ∧ ab_H (bc1, bx bxT) h') n.toNat 0 _ _ _ (by omega) (by omega) H3 W3 hr hB (by
    have e : up f0 10 (s * 3 + 59) 9 = 0 := up_ne (by decide)
    rw [e]; omega) (fun h' a b => ⟨rfl, cells_1 hb2 (FRM_tr FRM_set b)⟩)
  have k2 := H2.1
  have q1 : 0 ≤ s ∧ s ≤ 9999 := ⟨s1, s2⟩
  have q2 : 1 ≤ n ∧ n ≤ 40 := ⟨n1, n2⟩
  have a00 := a0.1
  have a01 := a0.2
  have a11 := a1.1
  have c00 := c0.1
  have c01 := c0.2
  have c10 := c1.1
  have c11 := c1.2
  refine xpk_sound (stops := [65]) (n := 50) ?_
  show xpk [65] 50 999 136 0 [some (vR 0), some (vI s), some (vI n), none, none, none] [] h _
  simp only [sk_0, sk_1, sk_2, sk_3, sk_4, sk_5, sk_6, sk_7, sk_8, sk_iadd, sk_isub, sk_imul, sk_iand, sk_ior, sk_ixor, sk_ishl, sk_ishr, sk_iushr, sk_idiv, sk_irem, sk_ineg, sk_ladd, sk_lsub, sk_lmul, sk_land, sk_lor, sk_ldiv, sk_lrem, sk_lneg, sk_lshl, sk_lshr, sk_i2l, sk_l2i, sk_lcmp, sk_dupI, sk_dupR, sk_dup2L, sk_dup2I, sk_popI, sk_ifeq, sk_ifne, sk_iflt, sk_ifge, sk_ifgt, sk_ifle, sk_iceq, sk_icne, sk_iclt, sk_icge, sk_icgt, sk_icle, sk_goto, sk_getf, sk_putf, sk_gets, sk_iald, sk_lald, sk_bald, sk_aald, sk_iast, sk_last, sk_bast, sk_aast, sk_alen, sk_newa, sk_newt, sk_new, sk_cs1, sk_cs2, sk_cs3, sk_cs4, sk_cs5, sk_cs6, sk_cv1, sk_cv2, sk_cv3, sk_cv4, sk_cv5, sk_cv6, sk_ci1, sk_ci2, sk_ci3, sk_ret0, sk_retI, sk_retL, sk_retR, sk_sw, sk_oin, sk_max, sk_min, sk_abs, lI_0, lI_s, lL_0, lL_s, lR_0, lR_s, vIo_e, vLo_e, vOo_e, stW_I, stW_L, stW_R, stW_0, stW_z, okSt_0, okSt_s, hV_eq, hK_eq, okF_0, okF_1, okF_3, is01_0, is01_1, is01_i, Int.toNat_natCast, Int.reduceEq, Int.reduceLE, Int.reduceLT, Int.reduceNeg, Nat.reduceLT, not_true_eq_false, not_false_eq_true, reduceIte, Option.toList, List.cons_append, List.nil_append, List.set_cons_zero, List.set_cons_succ, List.not_mem_nil, List.mem_cons, if_false, if_true, ite_true, ite_false, and_self, and_true, true_and, Nat.reduceAdd, Nat.reduceLeDiff, Nat.reduceEqDiff, Nat.zero_add, Nat.le_refl, Nat.zero_le, or_false, false_or, Int.reduceToNat, or_true, true_or, eq_self, and_false, false_and, inR_d, nc_4, nc_5, nc_6, nc_7, nc_8, nc_16, nc_18, nc_20, nc_24, nc_32, nc_40, nc_64, nc_104, nc_120, nc_160, nc_256, nc_300, nc_330, nc_390, nc_1200, nc_1260, nc_3012, nc_9834, okSt_1i, okSt_1r, okSt_1n, xpk_succ cd_136_0, xpk_succ cd_136_1, xpk_succ cd_136_2, xpk_succ cd_136_5, xpk_succ cd_136_8, xpk_succ cd_136_11, xpk_succ cd_136_12, xpk_succ cd_136_13, xpk_succ cd_136_15, xpk_succ cd_136_18, xpk_succ cd_136_21, xpk_succ cd_136_22, xpk_succ cd_136_23, xpk_succ cd_136_26, xpk_succ cd_136_29, xpk_succ cd_136_30, xpk_succ cd_136_31, xpk_succ cd_136_32, xpk_succ cd_136_35, xpk_succ cd_136_38, xpk_succ cd_136_39, xpk_succ cd_136_42, xpk_succ cd_136_45, xpk_succ cd_136_46, xpk_succ cd_136_47, xpk_succ cd_136_50, xpk_succ cd_136_52, xpk_succ cd_136_53, xpk_succ cd_136_54, xpk_succ cd_136_55, xpk_succ cd_136_56, xpk_succ cd_136_58, xpk_succ cd_136_59, xpk_succ cd_136_62, xpk_succ cd_136_63, xpk_succ cd_136_65, xpk_succ cd_136_67, xpk_succ cd_136_68, xpk_succ cd_136_71, xpk_succ cd_136_72, xpk_succ cd_136_73, xpk_succ cd_136_76, xpk_succ cd_136_79, xpk_succ cd_136_80, xpk_succ cd_136_81, xpk_succ cd_136_84, xpk_succ cd_136_85, xpk_succ cd_136_86, xpk_succ cd_136_87, xpk_succ cd_136_88, xpk_succ cd_136_90, xpk_succ cd_136_93, xpk_succ cd_136_94, xpk_succ cd_136_97, xpk_succ cd_136_100, xpk_succ cd_136_103, xpk_succ cd_136_104, xpk_succ cd_136_107, X_within, k0, ea, e1, e2, a00, a01, a11, c00, c01, c10, c11, k2, q1, q2, hx]
  exact hloop
set_option maxHeartbeats 4000000 in
theorem X_stormM {h : AH} {s n : Int} (hb : ab_H (bc1, bx bxT) h) (s1 : 0 ≤ s) (s2 : s ≤ 9999) (n1 : 1 ≤ n) (n2 : n ≤ 40) : ∃ h', (hN h' = 93 ∧ hS h' = 32805 ∧ hK h' 1000100 = (20, 6)) ∧ ∀ Q : Option AV → AH → Prop, XC 1000 266 [vR 76, vI s, vI n] h Q = Q (some (vI (itM n.toNat (up g0 2 (s * 3 + 59)) 8))) h' := by
  have a0 := hasI_s (k := 76) (kd := 10) (len := 0) (i := 0) (v := vR 77) hb (by decide +kernel)
  have a1 := hasI_s (k := 77) (kd := 11) (len := 9834) (i := 16) (v := vI 0) hb (by decide +kernel)
  obtain ⟨h1, hb1, e1⟩ := X_mkeep hb
  have e1 := XC_999 e1
  have M1 := MO_K hb1
  have hx : w32 (w32 (s * 3) + 59) = s * 3 + 59 := by rw [w32_in (z := s * 3) (by omega) (by omega), w32_in (z := s * 3 + 59) (by omega) (by omega)]
  have hy : w32 (0 + n) = n := by unfold w32; omega
  obtain ⟨hr, hB⟩ := rel_0 (x := s * 3 + 59) (by omega) (by omega)
  have M2 : MO (hSet h1 77 2 (vI (s * 3 + 59))) (up g0 2 (s * 3 + 59)) 0 := MO_a M1
  have hK6 : hK h1 1000100 = (20, 6) := kdI_s hb1 (by decide +kernel)
  refine XC_ex (d := 999) (XC_of (Nat.le_of_ble_eq_true rfl) ?_)
  have hloop := stM_loop s n (fun r h' => r = some (vI (itM n.toNat (up g0 2 (s * 3 + 59)) 8)) ∧ (hN h' = 93 ∧ hS h' = 32805 ∧ hK h' 1000100 = (20, 6))) n.toNat 0 _ _ _ (by omega) (by omega) M2 hr hB (by
    have e : up f0 10 (s * 3 + 59) 9 = 0 := up_ne (by decide)
    rw [e]; omega) (fun h' a b => ⟨rfl, b.1.trans hb1.1, b.2.1.trans hb1.2.1, by rw [b.2.2.1]; exact hK6⟩)
  have q1 : 0 ≤ s ∧ s ≤ 9999 := ⟨s1, s2⟩
  have q2 : 1 ≤ n ∧ n ≤ 40 := ⟨n1, n2⟩
  have q3 : n ≤ 9999 := by omega
  have a00 := a0.1
  have a01 := a0.2
  have a10 := a1.1
  have a11 := a1.2
  have c0 := M1.1
  have c1 := M1.2.1
  have c2 := M1.2.2.2.2.1
  refine xpk_sound (stops := [56]) (n := 50) ?_
  show xpk [56] 50 999 266 0 [some (vR 76), some (vI s), some (vI n), none] [] h _
  simp only [sk_0, sk_1, sk_2, sk_3, sk_4, sk_5, sk_6, sk_7, sk_8, sk_iadd, sk_isub, sk_imul, sk_iand, sk_ior, sk_ixor, sk_ishl, sk_ishr, sk_iushr, sk_idiv, sk_irem, sk_ineg, sk_ladd, sk_lsub, sk_lmul, sk_land, sk_lor, sk_ldiv, sk_lrem, sk_lneg, sk_lshl, sk_lshr, sk_i2l, sk_l2i, sk_lcmp, sk_dupI, sk_dupR, sk_dup2L, sk_dup2I, sk_popI, sk_ifeq, sk_ifne, sk_iflt, sk_ifge, sk_ifgt, sk_ifle, sk_iceq, sk_icne, sk_iclt, sk_icge, sk_icgt, sk_icle, sk_goto, sk_getf, sk_putf, sk_gets, sk_iald, sk_lald, sk_bald, sk_aald, sk_iast, sk_last, sk_bast, sk_aast, sk_alen, sk_newa, sk_newt, sk_new, sk_cs1, sk_cs2, sk_cs3, sk_cs4, sk_cs5, sk_cs6, sk_cv1, sk_cv2, sk_cv3, sk_cv4, sk_cv5, sk_cv6, sk_ci1, sk_ci2, sk_ci3, sk_ret0, sk_retI, sk_retL, sk_retR, sk_sw, sk_oin, sk_max, sk_min, sk_abs, lI_0, lI_s, lL_0, lL_s, lR_0, lR_s, vIo_e, vLo_e, vOo_e, stW_I, stW_L, stW_R, stW_0, stW_z, okSt_0, okSt_s, hV_eq, hK_eq, okF_0, okF_1, okF_3, is01_0, is01_1, is01_i, Int.toNat_natCast, Int.reduceEq, Int.reduceLE, Int.reduceLT, Int.reduceNeg, Nat.reduceLT, not_true_eq_false, not_false_eq_true, reduceIte, Option.toList, List.cons_append, List.nil_append, List.set_cons_zero, List.set_cons_succ, List.not_mem_nil, List.mem_cons, if_false, if_true, ite_true, ite_false, and_self, and_true, true_and, Nat.reduceAdd, Nat.reduceLeDiff, Nat.reduceEqDiff, Nat.zero_add, Nat.le_refl, Nat.zero_le, or_false, false_or, Int.reduceToNat, or_true, true_or, eq_self, and_false, false_and, inR_d, nc_4, nc_5, nc_6, nc_7, nc_8, nc_16, nc_18, nc_20, nc_24, nc_32, nc_40, nc_64, nc_104, nc_120, nc_160, nc_256, nc_300, nc_330, nc_390, nc_1200, nc_1260, nc_3012, nc_9834, okSt_1i, okSt_1r, okSt_1n, xpk_succ cd_266_0, xpk_succ cd_266_1, xpk_succ cd_266_2, xpk_succ cd_266_5, xpk_succ cd_266_8, xpk_succ cd_266_11, xpk_succ cd_266_12, xpk_succ cd_266_13, xpk_succ cd_266_15, xpk_succ cd_266_18, xpk_succ cd_266_21, xpk_succ cd_266_22, xpk_succ cd_266_25, xpk_succ cd_266_27, xpk_succ cd_266_28, xpk_succ cd_266_29, xpk_succ cd_266_30, xpk_succ cd_266_33, xpk_succ cd_266_36, xpk_succ cd_266_37, xpk_succ cd_266_38, xpk_succ cd_266_39, xpk_succ cd_266_42, xpk_succ cd_266_43, xpk_succ cd_266_46, xpk_succ cd_266_47, xpk_succ cd_266_48, xpk_succ cd_266_49, xpk_succ cd_266_50, xpk_succ cd_266_52, xpk_succ cd_266_53, xpk_succ cd_266_54, xpk_succ cd_266_55, xpk_succ cd_266_56, xpk_succ cd_266_57, xpk_succ cd_266_58, xpk_succ cd_266_61, xpk_succ cd_266_62, xpk_succ cd_266_65, xpk_succ cd_266_67, xpk_succ cd_266_68, xpk_succ cd_266_71, xpk_succ cd_266_72, xpk_succ cd_266_73, xpk_succ cd_266_75, xpk_succ cd_266_76, xpk_succ cd_266_77, xpk_succ cd_266_78, xpk_succ cd_266_81, xpk_succ cd_266_82, xpk_succ cd_266_83, xpk_succ cd_266_86, xpk_succ cd_266_87, xpk_succ cd_266_88, xpk_succ cd_266_89, xpk_succ cd_266_90, xpk_succ cd_266_91, xpk_succ cd_266_92, xpk_succ cd_266_95, xpk_succ cd_266_96, xpk_succ cd_266_99, xpk_succ cd_266_102, xpk_succ cd_266_105, xpk_succ cd_266_106, xpk_succ cd_266_109, xpk_succ cd_266_111, xpk_succ cd_266_112, X_isIn, e1, a00, a01, a10, a11, c0, c1, c2, q1, q2, q3, hx, hy]
  exact hloop
set_option maxHeartbeats 4000000 in
theorem law_14 {xs : Nat → Int} {h h1 h2 : AH} {r : Int} (k0 : hK h 0 = (9, 0)) (ks : hK h 1000100 = (20, 6)) (s1 : hV h 1000100 1 = vI (xs 1)) (s2 : hV h 1000100 2 = vI (xs 2))
    (k76 : hK h1 76 = (10, 0)) (ks' : hK h1 1000100 = (20, 6)) (t1 : hV h1 1000100 1 = vI (xs 1)) (t2 : hV h1 1000100 2 = vI (xs 2))
    (e1 : ∀ Q, XC 1000 136 [vR 0, vI (xs 1), vI (xs 2)] h Q = Q (some (vI r)) h1) (e2 : ∀ Q, XC 1000 266 [vR 76, vI (xs 1), vI (xs 2)] h1 Q = Q (some (vI r)) h2) (hend : XP 1000 321 1541 lsc [] h2 lwQ) : XP 1000 321 610 lsc [] h lwQ := by
  have w1 := w32_i (k := 1) (by decide) (by decide)
  have w2 := w32_i (k := 2) (by decide) (by decide)
  refine xpk_sound (stops := [1541]) (n := 40) ?_
  show xpk [1541] 40 1000 321 610 [some (vR 1000100), some (vR 0), some (vR 76), some (vI 0)] [] h _
  simp only [sk_0, sk_1, sk_2, sk_3, sk_4, sk_5, sk_6, sk_7, sk_8, sk_iadd, sk_isub, sk_imul, sk_iand, sk_ior, sk_ixor, sk_ishl, sk_ishr, sk_iushr, sk_idiv, sk_irem, sk_ineg, sk_ladd, sk_lsub, sk_lmul, sk_land, sk_lor, sk_ldiv, sk_lrem, sk_lneg, sk_lshl, sk_lshr, sk_i2l, sk_l2i, sk_lcmp, sk_dupI, sk_dupR, sk_dup2L, sk_dup2I, sk_popI, sk_ifeq, sk_ifne, sk_iflt, sk_ifge, sk_ifgt, sk_ifle, sk_iceq, sk_icne, sk_iclt, sk_icge, sk_icgt, sk_icle, sk_goto, sk_getf, sk_putf, sk_gets, sk_iald, sk_lald, sk_bald, sk_aald, sk_iast, sk_last, sk_bast, sk_aast, sk_alen, sk_newa, sk_newt, sk_new, sk_cs1, sk_cs2, sk_cs3, sk_cs4, sk_cs5, sk_cs6, sk_cv1, sk_cv2, sk_cv3, sk_cv4, sk_cv5, sk_cv6, sk_ci1, sk_ci2, sk_ci3, sk_ret0, sk_retI, sk_retL, sk_retR, sk_sw, sk_oin, sk_max, sk_min, sk_abs, lI_0, lI_s, lL_0, lL_s, lR_0, lR_s, vIo_e, vLo_e, vOo_e, stW_I, stW_L, stW_R, stW_0, stW_z, okSt_0, okSt_s, hV_eq, hK_eq, okF_0, okF_1, okF_3, is01_0, is01_1, is01_i, Int.toNat_natCast, Int.reduceEq, Int.reduceLE, Int.reduceLT, Int.reduceNeg, Nat.reduceLT, not_true_eq_false, not_false_eq_true, reduceIte, Option.toList, List.cons_append, List.nil_append, List.set_cons_zero, List.set_cons_succ, List.not_mem_nil, List.mem_cons, if_false, if_true, ite_true, ite_false, and_self, and_true, true_and, Nat.reduceAdd, Nat.reduceLeDiff, Nat.reduceEqDiff, Nat.zero_add, Nat.le_refl, Nat.zero_le, or_false, false_or, Int.reduceToNat, or_true, true_or, eq_self, and_false, false_and, inR_d, nc_4, nc_5, nc_6, nc_7, nc_8, nc_16, nc_18, nc_20, nc_24, nc_32, nc_40, nc_64, nc_104, nc_120, nc_160, nc_256, nc_300, nc_330, nc_390, nc_1200, nc_1260, nc_3012, nc_9834, okSt_1i, okSt_1r, okSt_1n, xpk_succ cd_321_610, xpk_succ cd_321_611, xpk_succ cd_321_612, xpk_succ cd_321_613, xpk_succ cd_321_614, xpk_succ cd_321_615, xpk_succ cd_321_616, xpk_succ cd_321_617, xpk_succ cd_321_618, xpk_succ cd_321_619, xpk_succ cd_321_620, xpk_succ cd_321_621, xpk_succ cd_321_624, xpk_succ cd_321_625, xpk_succ cd_321_626, xpk_succ cd_321_627, xpk_succ cd_321_628, xpk_succ cd_321_629, xpk_succ cd_321_630, xpk_succ cd_321_631, xpk_succ cd_321_632, xpk_succ cd_321_633, xpk_succ cd_321_634, xpk_succ cd_321_635, xpk_succ cd_321_638, xpk_succ cd_321_641, xpk_succ cd_321_642, k0, ks, s1, s2, k76, ks', t1, t2, e1, e2, w1, w2]
  exact hend
def cs_14 : List (List AW × AW) := [([xT, .inr (-2147483648, -1), xT, xT, xT, xT], xI (-1)),
  ([xT, .inr (0, 9999), .inr (-2147483648, 0), xT, xT, xT], xI (-1)),
  ([xT, .inr (0, 9999), .inr (41, 2147483647), xT, xT, xT], xI (-1)),
  ([xT, .inr (10000, 2147483647), xT, xT, xT, xT], xI (-1))]
theorem ck_14 : cb_L nt1 610 624 cs_14 = true := by decide +kernel
theorem OUT_XC {L d M : Nat} {xs : Nat → Int} {as : List AV} {h h' : AH} {r : Option AV} (e : ∀ Q, XC (d + 1) M as h Q = Q r h') (ho : OUT L xs h) : OUT L xs h' := by
  have h1 : XC (d + 1) M as h (fun r1 h1 => r1 = r ∧ h1 = h') := by rw [e]; exact ⟨rfl, rfl⟩
  obtain ⟨hl, n, r1, h1, he, rfl, rfl⟩ := h1
  exact OUT_run ho he
theorem FR_T {xs : Nat → Int} {h : AH} (hf : FR 6 xs h) (q0 : -2147483648 ≤ xs 0 ∧ xs 0 ≤ 2147483647) (q1 : -2147483648 ≤ xs 1 ∧ xs 1 ≤ 2147483647) (q2 : -2147483648 ≤ xs 2 ∧ xs 2 ≤ 2147483647) (q3 : -2147483648 ≤ xs 3 ∧ xs 3 ≤ 2147483647) (q4 : -2147483648 ≤ xs 4 ∧ xs 4 ≤ 2147483647) (q5 : -2147483648 ≤ xs 5 ∧ xs 5 ≤ 2147483647) : ab_H (bc0, bx bxT) h := by
  refine FR_b okcs_0 hf (fun j w hw => ?_)
  have hw : [xT, xT, xT, xT, xT, xT][j]? = some w := hw
  match j, hw with
  | 0, hw => cases hw; exact ab_rg q0.1 q0.2
  | 1, hw => cases hw; exact ab_rg q1.1 q1.2
  | 2, hw => cases hw; exact ab_rg q2.1 q2.2
  | 3, hw => cases hw; exact ab_rg q3.1 q3.2
  | 4, hw => cases hw; exact ab_rg q4.1 q4.2
  | 5, hw => cases hw; exact ab_rg q5.1 q5.2
  | n + 6, hw => cases hw
set_option maxHeartbeats 4000000 in
theorem case_14 {xs : Nat → Int} {h : AH} (hf : FR 6 xs h) (q0 : -2147483648 ≤ xs 0 ∧ xs 0 ≤ 2147483647) (q1 : -2147483648 ≤ xs 1 ∧ xs 1 ≤ 2147483647) (q2 : -2147483648 ≤ xs 2 ∧ xs 2 ≤ 2147483647) (q3 : -2147483648 ≤ xs 3 ∧ xs 3 ≤ 2147483647) (q4 : -2147483648 ≤ xs 4 ∧ xs 4 ≤ 2147483647) (q5 : -2147483648 ≤ xs 5 ∧ xs 5 ≤ 2147483647) : XP 1000 321 610 lsc [] h lwQ := by
  by_cases z1 : xs 1 ≤ -1
  · exact leaf2 nt1_s ck_14 hf 0 rfl (ab_rg (by omega) (by omega)) (ab_rg (by omega) (by omega)) (ab_rg (by omega) (by omega)) (ab_rg (by omega) (by omega)) (ab_rg (by omega) (by omega)) (ab_rg (by omega) (by omega))
  by_cases z2 : xs 1 ≤ 9999
  · by_cases z3 : xs 2 ≤ 0
    · exact leaf2 nt1_s ck_14 hf 1 rfl (ab_rg (by omega) (by omega)) (ab_rg (by omega) (by omega)) (ab_rg (by omega) (by omega)) (ab_rg (by omega) (by omega)) (ab_rg (by omega) (by omega)) (ab_rg (by omega) (by omega))
    by_cases z4 : xs 2 ≤ 40
    · have hb0 := FR_T hf q0 q1 q2 q3 q4 q5
      obtain ⟨h1, hb1, e1⟩ := X_stormC (s := xs 1) (n := xs 2) hb0 (by omega) z2 (by omega) z4
      obtain ⟨h2, ⟨n1, n2, n3⟩, e2⟩ := X_stormM (s := xs 1) (n := xs 2) hb1 (by omega) z2 (by omega) z4
      obtain ⟨hr, hB⟩ := rel_0 (x := xs 1 * 3 + 59) (by omega) (by omega)
      have hit := it_rel (xs 2).toNat _ _ hr hB (by
        have e : up f0 10 (xs 1 * 3 + 59) 9 = 0 := up_ne (by decide)
        rw [e]; omega)
      rw [← hit] at e2
      have o0 := hf.2.2.1
      have o1 : OUT 6 xs h1 := OUT_XC (d := 999) e1 o0
      obtain ⟨ks, vs⟩ := o0.2 1000100 (Nat.le_of_ble_eq_true rfl)
      have ks : hK h 1000100 = (20, 6) := ks
      have vs : ∀ i, hV h 1000100 i = vI (xs i) := vs
      obtain ⟨kt, vt⟩ := o1.2 1000100 (Nat.le_of_ble_eq_true rfl)
      have kt : hK h1 1000100 = (20, 6) := kt
      have vt : ∀ i, hV h1 1000100 i = vI (xs i) := vt
      exact law_14 (hf.2.2.2 0 (by decide)).1 ks (vs 1) (vs 2) (kdI_s hb1 (by decide +kernel)) kt (vt 1) (vt 2) e1 e2 (law_end n1 n2 n3)
    · exact leaf2 nt1_s ck_14 hf 2 rfl (ab_rg (by omega) (by omega)) (ab_rg (by omega) (by omega)) (ab_rg (by omega) (by omega)) (ab_rg (by omega) (by omega)) (ab_rg (by omega) (by omega)) (ab_rg (by omega) (by omega))
  · exact leaf2 nt1_s ck_14 hf 3 rfl (ab_rg (by omega) (by omega)) (ab_rg (by omega) (by omega)) (ab_rg (by omega) (by omega)) (ab_rg (by omega) (by omega)) (ab_rg (by omega) (by omega)) (ab_rg (by omega) (by omega))
