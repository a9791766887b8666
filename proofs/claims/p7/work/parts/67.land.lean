set_option maxRecDepth 20000 in
theorem ac_263 : allC[263]? = some cl263 := rfl
theorem cd_263_0 : cd 263 0 = some (4, 1, 0, 0, 0, []) := cd_row ac_263 rfl
theorem cd_263_1 : cd 263 1 = some (23, 4, 10, 0, 0, []) := cd_row ac_263 rfl
theorem cd_263_4 : cd 263 4 = some (0, 6, 0, 0, 17, []) := cd_row ac_263 rfl
theorem cd_263_6 : cd 263 6 = some (26, 7, 0, 0, 0, []) := cd_row ac_263 rfl
theorem cd_263_7 : cd 263 7 = some (5, 8, 1, 0, 0, []) := cd_row ac_263 rfl
theorem cd_263_8 : cd 263 8 = some (2, 9, 1, 0, 0, []) := cd_row ac_263 rfl
theorem cd_263_9 : cd 263 9 = some (0, 10, 0, 0, -1, []) := cd_row ac_263 rfl
theorem cd_263_10 : cd 263 10 = some (21, 13, 20, 0, 0, []) := cd_row ac_263 rfl
theorem cd_263_13 : cd 263 13 = some (4, 14, 0, 0, 0, []) := cd_row ac_263 rfl
theorem cd_263_14 : cd 263 14 = some (46, 17, 252, 1, 10, []) := cd_row ac_263 rfl
theorem cd_263_17 : cd 263 17 = some (20, 20, 22, 1, 0, []) := cd_row ac_263 rfl
theorem cd_263_20 : cd 263 20 = some (0, 21, 0, 0, -1, []) := cd_row ac_263 rfl
theorem cd_263_21 : cd 263 21 = some (40, 22, 0, 0, 0, []) := cd_row ac_263 rfl
theorem cd_263_22 : cd 263 22 = some (4, 23, 0, 0, 0, []) := cd_row ac_263 rfl
theorem cd_263_23 : cd 263 23 = some (46, 26, 254, 1, 10, []) := cd_row ac_263 rfl
theorem cd_263_26 : cd 263 26 = some (4, 27, 0, 0, 0, []) := cd_row ac_263 rfl
theorem cd_263_27 : cd 263 27 = some (23, 30, 10, 0, 0, []) := cd_row ac_263 rfl
theorem cd_263_30 : cd 263 30 = some (0, 33, 0, 0, 474, []) := cd_row ac_263 rfl
theorem cd_263_33 : cd 263 33 = some (0, 34, 0, 0, 2, []) := cd_row ac_263 rfl
theorem cd_263_34 : cd 263 34 = some (4, 35, 0, 0, 0, []) := cd_row ac_263 rfl
theorem cd_263_35 : cd 263 35 = some (23, 38, 10, 0, 0, []) := cd_row ac_263 rfl
theorem cd_263_38 : cd 263 38 = some (0, 40, 0, 0, 7, []) := cd_row ac_263 rfl
theorem cd_263_40 : cd 263 40 = some (26, 41, 0, 0, 0, []) := cd_row ac_263 rfl
theorem cd_263_41 : cd 263 41 = some (0, 43, 0, 0, 64, []) := cd_row ac_263 rfl
theorem cd_263_43 : cd 263 43 = some (9, 44, 0, 7, 0, []) := cd_row ac_263 rfl
theorem cd_263_44 : cd 263 44 = some (9, 45, 0, 2, 0, []) := cd_row ac_263 rfl
theorem cd_263_45 : cd 263 45 = some (9, 46, 0, 0, 0, []) := cd_row ac_263 rfl
theorem cd_263_46 : cd 263 46 = some (2, 47, 1, 0, 0, []) := cd_row ac_263 rfl
theorem cd_263_47 : cd 263 47 = some (30, 48, 0, 0, 0, []) := cd_row ac_263 rfl
theorem cd_263_48 : cd 263 48 = some (4, 49, 0, 0, 0, []) := cd_row ac_263 rfl
theorem cd_263_49 : cd 263 49 = some (23, 52, 10, 0, 0, []) := cd_row ac_263 rfl
theorem cd_263_52 : cd 263 52 = some (0, 55, 0, 0, 474, []) := cd_row ac_263 rfl
theorem cd_263_55 : cd 263 55 = some (0, 56, 0, 0, 2, []) := cd_row ac_263 rfl
theorem cd_263_56 : cd 263 56 = some (4, 57, 0, 0, 0, []) := cd_row ac_263 rfl
theorem cd_263_57 : cd 263 57 = some (23, 60, 10, 0, 0, []) := cd_row ac_263 rfl
theorem cd_263_60 : cd 263 60 = some (0, 62, 0, 0, 7, []) := cd_row ac_263 rfl
theorem cd_263_62 : cd 263 62 = some (26, 63, 0, 0, 0, []) := cd_row ac_263 rfl
theorem cd_263_63 : cd 263 63 = some (0, 65, 0, 0, 64, []) := cd_row ac_263 rfl
theorem cd_263_65 : cd 263 65 = some (9, 66, 0, 7, 0, []) := cd_row ac_263 rfl
theorem cd_263_66 : cd 263 66 = some (9, 67, 0, 2, 0, []) := cd_row ac_263 rfl
theorem cd_263_67 : cd 263 67 = some (9, 68, 0, 0, 0, []) := cd_row ac_263 rfl
theorem cd_263_68 : cd 263 68 = some (0, 69, 0, 0, 1, []) := cd_row ac_263 rfl
theorem cd_263_69 : cd 263 69 = some (9, 70, 0, 0, 0, []) := cd_row ac_263 rfl
theorem cd_263_70 : cd 263 70 = some (4, 71, 0, 0, 0, []) := cd_row ac_263 rfl
theorem cd_263_71 : cd 263 71 = some (23, 74, 10, 0, 0, []) := cd_row ac_263 rfl
theorem cd_263_74 : cd 263 74 = some (0, 76, 0, 0, 16, []) := cd_row ac_263 rfl
theorem cd_263_76 : cd 263 76 = some (26, 77, 0, 0, 0, []) := cd_row ac_263 rfl
theorem cd_263_77 : cd 263 77 = some (30, 78, 0, 0, 0, []) := cd_row ac_263 rfl
theorem cd_263_78 : cd 263 78 = some (4, 79, 0, 0, 0, []) := cd_row ac_263 rfl
theorem cd_263_79 : cd 263 79 = some (23, 82, 10, 0, 0, []) := cd_row ac_263 rfl
theorem cd_263_82 : cd 263 82 = some (0, 84, 0, 0, 7, []) := cd_row ac_263 rfl
theorem cd_263_84 : cd 263 84 = some (18, 85, 0, 0, 0, []) := cd_row ac_263 rfl
theorem cd_263_85 : cd 263 85 = some (26, 86, 0, 0, 0, []) := cd_row ac_263 rfl
theorem cd_263_86 : cd 263 86 = some (0, 87, 0, 0, 1, []) := cd_row ac_263 rfl
theorem cd_263_87 : cd 263 87 = some (9, 88, 0, 0, 0, []) := cd_row ac_263 rfl
theorem cd_263_88 : cd 263 88 = some (30, 89, 0, 0, 0, []) := cd_row ac_263 rfl
theorem cd_263_89 : cd 263 89 = some (4, 90, 0, 0, 0, []) := cd_row ac_263 rfl
theorem cd_263_90 : cd 263 90 = some (23, 93, 10, 0, 0, []) := cd_row ac_263 rfl
theorem cd_263_93 : cd 263 93 = some (0, 95, 0, 0, 20, []) := cd_row ac_263 rfl
theorem cd_263_95 : cd 263 95 = some (0, 97, 0, 0, 6, []) := cd_row ac_263 rfl
theorem cd_263_97 : cd 263 97 = some (2, 98, 1, 0, 0, []) := cd_row ac_263 rfl
theorem cd_263_98 : cd 263 98 = some (9, 99, 0, 2, 0, []) := cd_row ac_263 rfl
theorem cd_263_99 : cd 263 99 = some (9, 100, 0, 0, 0, []) := cd_row ac_263 rfl
theorem cd_263_100 : cd 263 100 = some (0, 101, 0, 0, 5, []) := cd_row ac_263 rfl
theorem cd_263_101 : cd 263 101 = some (9, 102, 0, 0, 0, []) := cd_row ac_263 rfl
theorem cd_263_102 : cd 263 102 = some (0, 103, 0, 0, 1, []) := cd_row ac_263 rfl
theorem cd_263_103 : cd 263 103 = some (30, 104, 0, 0, 0, []) := cd_row ac_263 rfl
theorem cd_263_104 : cd 263 104 = some (4, 105, 0, 0, 0, []) := cd_row ac_263 rfl
theorem cd_263_105 : cd 263 105 = some (23, 108, 10, 0, 0, []) := cd_row ac_263 rfl
theorem cd_263_108 : cd 263 108 = some (0, 110, 0, 0, 17, []) := cd_row ac_263 rfl
theorem cd_263_110 : cd 263 110 = some (0, 111, 0, 0, -1, []) := cd_row ac_263 rfl
theorem cd_263_111 : cd 263 111 = some (30, 112, 0, 0, 0, []) := cd_row ac_263 rfl
theorem cd_263_112 : cd 263 112 = some (4, 113, 0, 0, 0, []) := cd_row ac_263 rfl
theorem cd_263_113 : cd 263 113 = some (23, 116, 10, 0, 0, []) := cd_row ac_263 rfl
theorem cd_263_116 : cd 263 116 = some (0, 118, 0, 0, 13, []) := cd_row ac_263 rfl
theorem cd_263_118 : cd 263 118 = some (0, 119, 0, 0, 0, []) := cd_row ac_263 rfl
theorem cd_263_119 : cd 263 119 = some (30, 120, 0, 0, 0, []) := cd_row ac_263 rfl
theorem cd_263_120 : cd 263 120 = some (2, 121, 1, 0, 0, []) := cd_row ac_263 rfl
theorem cd_263_121 : cd 263 121 = some (40, 122, 0, 0, 0, []) := cd_row ac_263 rfl
theorem XC_det {d M : Nat} {as : List AV} {h : AH} {P : Option AV → AH → Prop} (hw : XC (d + 1) M as h P) : ∃ r h', P r h' ∧ ∀ Q : Option AV → AH → Prop, XC (d + 1) M as h Q = Q r h' := by
  obtain ⟨hl, n, r1, h1, he, hp⟩ := hw
  exact ⟨r1, h1, hp, fun Q => XC_eq hl ⟨n, _, _, he, rfl, rfl⟩ Q⟩
theorem AH_ext {h h' : AH} (h1 : hN h' = hN h) (h2 : hS h' = hS h) (h3 : hK h' = hK h) (h4 : ∀ k i, hV h' k i = hV h k i) : h' = h := by
  obtain ⟨a, b, K, V⟩ := h
  obtain ⟨a', b', K', V'⟩ := h'
  have h1 : a' = a := h1
  have h2 : b' = b := h2
  have h3 : K' = K := h3
  have h4 : V' = V := funext fun k => funext fun i => h4 k i
  rw [h1, h2, h3, h4]
/-- a call that writes nothing -/
theorem same_h {β : Nat} {h h' : AH} (hJ : k_H JB h) (hJ' : k_H JB h') (hf : n_F (W0 β) [] h h') : h' = h := AH_ext (by rw [hJ'.1, hJ.1]) (by rw [hJ'.2.1, hJ.2.1]) hf.1.1 (fun k i => hf.2 k i (fun z => by obtain ⟨q, q1, -⟩ := z; cases q1))
theorem X_hs {β d : Nat} {h : AH} (hJ : k_H JB h) (hW : W0 β h) : ∃ r : Int, (r = 0 ∨ r = 1) ∧ ∀ Q : Option AV → AH → Prop, XC (d + 2) 252 [vR 76] h Q = Q (some (vI r)) h := by
  have hk := okM252 (β := β) (d + 2) [vR 76] h (fun r h' => h' = h ∧ ∃ x : Int, r = some (vI x) ∧ (x = 0 ∨ x = 1)) (Nat.le_add_left 2 d) ⟨_, _, rfl, rfl, rfl⟩ hJ hW (fun f hf => by cases hf) (fun r h' a1 a2 a3 a4 a5 => by
    refine ⟨same_h hJ a2 a5, ?_⟩
    obtain ⟨u, rfl, x, rfl, x1, x2⟩ := a1
    have x1 : (0 : Int) ≤ x := x1
    have x2 : x ≤ 1 := x2
    exact ⟨x, rfl, by omega⟩)
  obtain ⟨r, h', ⟨rfl, x, rfl, hx⟩, e⟩ := XC_det hk
  exact ⟨x, hx, e⟩
theorem X_kp {β d : Nat} {h : AH} (hJ : k_H JB h) (hW : W0 β h) (h16 : inRg (false, 0, 9999) (hV h 77 16)) : ∃ h', (k_H JB h' ∧ n_F (W0 β) hk254_0.2.2.1 h h') ∧ ∀ Q : Option AV → AH → Prop, XC (d + 4) 254 [vR 76] h Q = Q none h' := by
  have hk := hok254_0 (β := β) (d + 4) [vR 76] h (fun r h' => r = none ∧ k_H JB h' ∧ n_F (W0 β) hk254_0.2.2.1 h h') (Nat.le_add_left 4 d) ⟨_, _, rfl, rfl, rfl⟩ hJ hW (fun f hf => by
    rcases List.mem_cons.mp hf with rfl | hf
    · exact h16
    · cases hf) (fun r h' a1 a2 a3 a4 a5 => ⟨a1, a2, a5⟩)
  obtain ⟨r, h', ⟨rfl, a, b⟩, e⟩ := XC_det hk
  exact ⟨h', ⟨a, b⟩, e⟩
/-- what is landed: the row behind it -/
def LND (f f' : Nat → Int) (o w : Nat) : Prop := f' (474 + 2 * (w % 64)) = (o : Int) ∧ f' (474 + 2 * (w % 64) + 1) = f 16 ∧ f' 7 = ((w + 1 : Nat) : Int) ∧ f' (25 + 6 * o) = 1 ∧ f' 17 = -1 ∧ f' 13 = 0 ∧ ∀ i, i ≠ 474 + 2 * (w % 64) → i ≠ 474 + 2 * (w % 64) + 1 → i ≠ 7 → i ≠ 25 + 6 * o → i ≠ 17 → i ≠ 13 → f' i = f i
def ldF (f : Nat → Int) (o w : Nat) : Nat → Int := upF (upF (upF (upF (upF (upF f (474 + 2 * (w % 64)) (o : Int)) (474 + 2 * (w % 64) + 1) (f 16)) 7 ((w + 1 : Nat) : Int)) (25 + 6 * o) 1) 17 (-1)) 13 0
theorem ld_L {f : Nat → Int} {o w : Nat} (ho : o < 8) : LND f (ldF f o w) o w := by
  unfold ldF
  refine ⟨?_, ?_, ?_, ?_, ?_, upF_at, fun i h1 h2 h3 h4 h5 h6 => ?_⟩
  · rw [upF_ne (by omega), upF_ne (by omega), upF_ne (by omega), upF_ne (by omega), upF_ne (by omega), upF_at]
  · rw [upF_ne (by omega), upF_ne (by omega), upF_ne (by omega), upF_ne (by omega), upF_at]
  · rw [upF_ne (by omega), upF_ne (by omega), upF_ne (by omega), upF_at]
  · rw [upF_ne (by omega), upF_ne (by omega), upF_at]
  · rw [upF_ne (by omega), upF_at]
  · rw [upF_ne h6, upF_ne h5, upF_ne h4, upF_ne h3, upF_ne h2, upF_ne h1]
set_option maxHeartbeats 4000000 in
theorem ld_b (d : Nat) (h : AH) (f : Nat → Int) (o w : Nat) (ho : AO h) (h1 : o < 8) (h7 : f 7 = (w : Int)) (hw : w < 30000) (Q : Option AV → AH → Prop) (hQ : Q (some (vI (o : Int))) (hA h (ldF f o w))) : XP d 263 26 [some (vR 76), some (vI (o : Int))] [] (hA h f) Q := by
  have k76 : ∀ g, hK (hA h g) 76 = (10, 0) := fun g => (AO_A (f := g) ho).1
  have v76 : ∀ g, hV (hA h g) 76 0 = vR 77 := fun g => (AO_A (f := g) ho).2.1
  have k77 : ∀ g, hK (hA h g) 77 = (11, 9834) := fun g => (AO_A (f := g) ho).2.2
  have v7 : ∀ g, hV (hA h g) 77 7 = vI (g 7) := fun g => hA_V (by decide)
  have v16 : ∀ g, hV (hA h g) 77 16 = vI (g 16) := fun g => hA_V (by decide)
  have t1 : Int.tmod (w : Int) 64 = ((w % 64 : Nat) : Int) := by rw [Int.tmod_eq_emod_of_nonneg (by omega)]; omega
  generalize hq : w % 64 = q at t1
  have hq64 : q < 64 := by omega
  have a1 : w32 (2 * (q : Int)) = ((2 * q : Nat) : Int) := by unfold w32; omega
  have a2 : w32 (474 + ((2 * q : Nat) : Int)) = ((474 + 2 * q : Nat) : Int) := by unfold w32; omega
  have a3 : w32 (((474 + 2 * q : Nat) : Int) + 1) = ((474 + 2 * q + 1 : Nat) : Int) := by unfold w32; omega
  have a4 : w32 ((w : Int) + 1) = ((w + 1 : Nat) : Int) := by unfold w32; omega
  have a5 : w32 (6 * (o : Int)) = ((6 * o : Nat) : Int) := by unfold w32; omega
  have a6 : w32 (20 + ((6 * o : Nat) : Int)) = ((20 + 6 * o : Nat) : Int) := by unfold w32; omega
  have a7 : w32 (((20 + 6 * o : Nat) : Int) + 5) = ((25 + 6 * o : Nat) : Int) := by unfold w32; omega
  have b1 : (0 : Int) ≤ ((474 + 2 * q : Nat) : Int) ∧ ((474 + 2 * q : Nat) : Int) < 9834 := by omega
  have b2 : (0 : Int) ≤ ((474 + 2 * q + 1 : Nat) : Int) ∧ ((474 + 2 * q + 1 : Nat) : Int) < 9834 := by omega
  have b3 : (0 : Int) ≤ ((25 + 6 * o : Nat) : Int) ∧ ((25 + 6 * o : Nat) : Int) < 9834 := by omega
  have s1 : ∀ g x, hSet (hA h g) 77 (474 + 2 * q) (vI x) = hA h (upF g (474 + 2 * q) x) := fun g x => hA_set (by omega)
  have s2 : ∀ g x, hSet (hA h g) 77 (474 + 2 * q + 1) (vI x) = hA h (upF g (474 + 2 * q + 1) x) := fun g x => hA_set (by omega)
  have s3 : ∀ g x, hSet (hA h g) 77 7 (vI x) = hA h (upF g 7 x) := fun g x => hA_set (by decide)
  have s4 : ∀ g x, hSet (hA h g) 77 (25 + 6 * o) (vI x) = hA h (upF g (25 + 6 * o) x) := fun g x => hA_set (by omega)
  have s5 : ∀ g x, hSet (hA h g) 77 17 (vI x) = hA h (upF g 17 x) := fun g x => hA_set (by decide)
  have s6 : ∀ g x, hSet (hA h g) 77 13 (vI x) = hA h (upF g 13 x) := fun g x => hA_set (by decide)
  have e1 : ∀ x, upF f (474 + 2 * q) x 7 = (w : Int) := fun x => by rw [upF_ne (by omega), h7]
  have e2 : ∀ x y, upF (upF f (474 + 2 * q) x) (474 + 2 * q + 1) y 7 = (w : Int) := fun x y => by rw [upF_ne (by omega), upF_ne (by omega), h7]
  have e3 : ∀ x, upF f (474 + 2 * q) x 16 = f 16 := fun x => upF_ne (by omega)
  unfold ldF at hQ
  rw [hq] at hQ
  refine xpk_sound (stops := []) (n := 100) ?_
  simp only [sk_0, sk_1, sk_2, sk_3, sk_4, sk_5, sk_6, sk_7, sk_8, sk_iadd, sk_isub, sk_imul, sk_iand, sk_ior, sk_ixor, sk_ishl, sk_ishr, sk_iushr, sk_idiv, sk_irem, sk_ineg, sk_ladd, sk_lsub, sk_lmul, sk_land, sk_lor, sk_ldiv, sk_lrem, sk_lneg, sk_lshl, sk_lshr, sk_i2l, sk_l2i, sk_lcmp, sk_dupI, sk_dupR, sk_dup2L, sk_dup2I, sk_popI, sk_ifeq, sk_ifne, sk_iflt, sk_ifge, sk_ifgt, sk_ifle, sk_iceq, sk_icne, sk_iclt, sk_icge, sk_icgt, sk_icle, sk_goto, sk_getf, sk_putf, sk_gets, sk_iald, sk_lald, sk_bald, sk_aald, sk_iast, sk_last, sk_bast, sk_aast, sk_alen, sk_newa, sk_newt, sk_new, sk_cs1, sk_cs2, sk_cs3, sk_cs4, sk_cs5, sk_cs6, sk_cv1, sk_cv2, sk_cv3, sk_cv4, sk_cv5, sk_cv6, sk_ci1, sk_ci2, sk_ci3, sk_ret0, sk_retI, sk_retL, sk_retR, sk_sw, sk_oin, sk_max, sk_min, sk_abs, lI_0, lI_s, lL_0, lL_s, lR_0, lR_s, vIo_e, vLo_e, vOo_e, stW_I, stW_L, stW_R, stW_0, stW_z, okSt_0, okSt_s, hV_eq, hK_eq, okF_0, okF_1, okF_3, is01_0, is01_1, is01_i, Int.toNat_natCast, Int.reduceEq, Int.reduceLE, Int.reduceLT, Int.reduceNeg, Nat.reduceLT, not_true_eq_false, not_false_eq_true, reduceIte, Option.toList, List.cons_append, List.nil_append, List.set_cons_zero, List.set_cons_succ, List.not_mem_nil, List.mem_cons, if_false, if_true, ite_true, ite_false, and_self, and_true, true_and, Nat.reduceAdd, Nat.reduceLeDiff, Nat.reduceEqDiff, Nat.zero_add, Nat.le_refl, Nat.zero_le, or_false, false_or, Int.reduceToNat, or_true, true_or, eq_self, and_false, false_and, inR_d, nc_4, nc_5, nc_6, nc_7, nc_8, nc_16, nc_18, nc_20, nc_24, nc_32, nc_40, nc_64, nc_104, nc_120, nc_160, nc_256, nc_300, nc_330, nc_390, nc_1200, nc_1260, nc_3012, nc_9834, okSt_1i, okSt_1r, okSt_1n, xpk_succ cd_263_26, xpk_succ cd_263_27, xpk_succ cd_263_30, xpk_succ cd_263_33, xpk_succ cd_263_34, xpk_succ cd_263_35, xpk_succ cd_263_38, xpk_succ cd_263_40, xpk_succ cd_263_41, xpk_succ cd_263_43, xpk_succ cd_263_44, xpk_succ cd_263_45, xpk_succ cd_263_46, xpk_succ cd_263_47, xpk_succ cd_263_48, xpk_succ cd_263_49, xpk_succ cd_263_52, xpk_succ cd_263_55, xpk_succ cd_263_56, xpk_succ cd_263_57, xpk_succ cd_263_60, xpk_succ cd_263_62, xpk_succ cd_263_63, xpk_succ cd_263_65, xpk_succ cd_263_66, xpk_succ cd_263_67, xpk_succ cd_263_68, xpk_succ cd_263_69, xpk_succ cd_263_70, xpk_succ cd_263_71, xpk_succ cd_263_74, xpk_succ cd_263_76, xpk_succ cd_263_77, xpk_succ cd_263_78, xpk_succ cd_263_79, xpk_succ cd_263_82, xpk_succ cd_263_84, xpk_succ cd_263_85, xpk_succ cd_263_86, xpk_succ cd_263_87, xpk_succ cd_263_88, xpk_succ cd_263_89, xpk_succ cd_263_90, xpk_succ cd_263_93, xpk_succ cd_263_95, xpk_succ cd_263_97, xpk_succ cd_263_98, xpk_succ cd_263_99, xpk_succ cd_263_100, xpk_succ cd_263_101, xpk_succ cd_263_102, xpk_succ cd_263_103, xpk_succ cd_263_104, xpk_succ cd_263_105, xpk_succ cd_263_108, xpk_succ cd_263_110, xpk_succ cd_263_111, xpk_succ cd_263_112, xpk_succ cd_263_113, xpk_succ cd_263_116, xpk_succ cd_263_118, xpk_succ cd_263_119, xpk_succ cd_263_120, xpk_succ cd_263_121, k76, v76, k77, v7, v16, h7, t1, a1, a2, a3, a4, a5, a6, a7, b1, b2, b3, s1, s2, s3, s4, s5, s6, e1, e2, e3]
  exact hQ
theorem jp_17 : rg0 jp77[17]? = (false, -1, 7) ∧ leQQ (false, 0, 0) (rg0 jp77[13]?) = true := by decide +kernel
theorem dn_r : ∀ r, r ∈ jrA → (r.1 < 602 → 474 < r.2.1 → ∀ q, q ∈ r.2.2.2 → leQQ (false, 0, 9999) q = true) := by decide +kernel
theorem lnd_JB {h : AH} {f' : Nat → Int} {o w : Nat} (hJ : k_H JB h) (ho : o < 8) (hw : w + 1 ≤ 20000) (h16 : inRg (false, 0, 9999) (vI (aF h 16))) (hL : LND (aF h) f' o w) : k_H JB (hA h f') := by
  obtain ⟨l1, l2, l3, l4, l5, l6, l7⟩ := hL
  have h16 := inI h16
  refine hA_JB hJ (fun i hi => ?_) (fun r i q hr i1 i2 hq => ?_)
  · by_cases z7 : i = 7
    · subst z7; rw [l3, jp_0.2.2.1]; exact inI_of (by omega) (by omega)
    by_cases z17 : i = 17
    · subst z17; rw [l5, jp_17.1]; exact inI_of (by omega) (by omega)
    by_cases z13 : i = 13
    · subst z13; rw [l6]; exact leQQ_s jp_17.2 (inI_of (by decide) (by decide))
    rw [l7 i (by omega) (by omega) z7 (by omega) z17 z13]
    exact aF_p hJ hi
  · have hb := jrA_b r hr
    by_cases z1 : i = 474 + 2 * (w % 64)
    · subst z1
      rw [l1]
      exact leQQ_s (dn_r r hr (by omega) (by omega) q (List.mem_of_getElem? hq)) (inI_of (by omega) (by omega))
    by_cases z2 : i = 474 + 2 * (w % 64) + 1
    · subst z2
      rw [l2]
      exact leQQ_s (dn_r r hr (by omega) (by omega) q (List.mem_of_getElem? hq)) (inI_of h16.1 h16.2)
    by_cases z3 : i = 25 + 6 * o
    · subst z3
      rw [l4]
      exact leQQ_s (bt_r r hr (by omega) (by omega) q (List.mem_of_getElem? hq)) (inI_of (by decide) (by decide))
    rw [l7 i z1 z2 (by omega) z3 (by omega) (by omega)]
    exact aF_r hJ hr i1 i2 hq
theorem wB_le {β β' k : Nat} {h : AH} (hb : β ≤ β') (h1 : wB β k h) : wB β' k h := by
  refine ⟨?_, fun r hr => ?_⟩
  · obtain ⟨x, x1, x2, x3⟩ := h1.1; exact ⟨x, x1, x2, by omega⟩
  · obtain ⟨x, x1, x2, x3⟩ := h1.2 r hr; exact ⟨x, x1, x2, by omega⟩
theorem W0_le {β β' : Nat} {h : AH} (hb : β ≤ β') (h1 : W0 β h) : W0 β' h := ⟨⟨h1.1.1, wB_le hb h1.1.2.1, wB_le hb h1.1.2.2⟩, h1.2⟩
theorem lnd_W {β : Nat} {h : AH} {f' : Nat → Int} {o w : Nat} (hJ : k_H JB h) (ho : o < 8) (hw : w ≤ β) (hW : W0 β h) (hL : LND (aF h) f' o w) : W0 (β + 1) (hA h f') := by
  obtain ⟨l1, l2, l3, l4, l5, l6, l7⟩ := hL
  obtain ⟨⟨⟨w1, w2⟩, w3, w4⟩, w5⟩ := W0_le (Nat.le_succ β) hW
  have hv := aF_v hJ
  have n78 : ∀ i, hV (hA h f') 78 i = hV h 78 i := fun i => hA_n (by decide)
  have row : ∀ i, 84 ≤ i → i < 474 → hV (hA h f') 77 i = hV h 77 i := fun i h1 h2 => by
    rw [hA_V (by omega), l7 i (by omega) (by omega) (by omega) (by omega) (by omega) (by omega), hv i (by omega)]
  have ct : (fun i => if i ≤ 3012 then hV (hA h f') 79 i else vN) = (fun i => if i ≤ 3012 then hV h 79 i else vN) := by
    funext i; rw [hA_n (by decide)]
  refine ⟨⟨⟨fun r hr hs' => ?_, fun r hr hs' => ?_⟩, ⟨⟨_, hA_V (by decide), ?_⟩, fun r hr => ?_⟩, ⟨?_, fun r hr => ?_⟩⟩, by rw [ct]; exact w5⟩
  · rw [hA_V (by decide), l7 5 (by omega) (by omega) (by omega) (by omega) (by omega) (by omega), ← hv 5 (by decide)] at hs'
    rw [row _ (by omega) (by omega)]
    exact w1 r hr hs'
  · rw [n78] at hs' ⊢; exact w2 r hr hs'
  · rw [l3]; omega
  · rw [row _ (by omega) (by omega)]; exact w3.2 r hr
  · rw [n78]; exact w4.1
  · rw [n78]; exact w4.2 r hr
set_option maxHeartbeats 4000000 in
/-- land: one more may be written down behind it -/
theorem X_land {β d : Nat} {h : AH} (hJ : k_H JB h) (hW : W0 β h) (hβ : β < 20000) (h16 : inRg (false, 0, 9999) (hV h 77 16)) : ∃ (r : Int) (h' : AH), (k_H JB h' ∧ W0 (β + 1) h' ∧ inRg (false, 0, 9999) (hV h' 77 16) ∧ (-1 ≤ r ∧ r ≤ 7) ∧ FL h h') ∧ ∀ Q : Option AV → AH → Prop, XC (d + 6) 263 [vR 76] h Q = Q (some (vI r)) h' := by
  have hv := aF_v hJ
  have ho := AO_J hJ
  have p17 := aF_p hJ (i := 17) (by decide)
  rw [jp_17.1] at p17
  have p17 := inI p17
  obtain ⟨r1, hr1, e1⟩ := X_hs (d := d + 3) hJ hW
  obtain ⟨h2, ⟨J2, F2⟩, e2⟩ := X_kp (d := d + 1) hJ hW h16
  have o1 := ho.1
  have o2 := ho.2.1
  have o3 := ho.2.2
  have v17 := hv 17 (by decide)
  have q0 : XC (d + 6) 263 [vR 76] h (fun r h' => ∃ x : Int, r = some (vI x) ∧ (k_H JB h' ∧ W0 (β + 1) h' ∧ inRg (false, 0, 9999) (hV h' 77 16) ∧ (-1 ≤ x ∧ x ≤ 7) ∧ FL h h')) := by
    refine XC_of (Nat.le_of_ble_eq_true rfl) ?_
    show XP (d + 5) 263 0 [some (vR 76), none] [] h _
    have stay : ∃ x : Int, some (vI (-1)) = some (vI x) ∧ (k_H JB h ∧ W0 (β + 1) h ∧ inRg (false, 0, 9999) (hV h 77 16) ∧ (-1 ≤ x ∧ x ≤ 7) ∧ FL h h) := ⟨-1, rfl, hJ, W0_le (Nat.le_succ β) hW, h16, ⟨by decide, by decide⟩, FL_r h⟩
    by_cases z : aF h 17 = -1
    · refine xpk_sound (stops := []) (n := 20) ?_
      simp only [sk_0, sk_1, sk_2, sk_3, sk_4, sk_5, sk_6, sk_7, sk_8, sk_iadd, sk_isub, sk_imul, sk_iand, sk_ior, sk_ixor, sk_ishl, sk_ishr, sk_iushr, sk_idiv, sk_irem, sk_ineg, sk_ladd, sk_lsub, sk_lmul, sk_land, sk_lor, sk_ldiv, sk_lrem, sk_lneg, sk_lshl, sk_lshr, sk_i2l, sk_l2i, sk_lcmp, sk_dupI, sk_dupR, sk_dup2L, sk_dup2I, sk_popI, sk_ifeq, sk_ifne, sk_iflt, sk_ifge, sk_ifgt, sk_ifle, sk_iceq, sk_icne, sk_iclt, sk_icge, sk_icgt, sk_icle, sk_goto, sk_getf, sk_putf, sk_gets, sk_iald, sk_lald, sk_bald, sk_aald, sk_iast, sk_last, sk_bast, sk_aast, sk_alen, sk_newa, sk_newt, sk_new, sk_cs1, sk_cs2, sk_cs3, sk_cs4, sk_cs5, sk_cs6, sk_cv1, sk_cv2, sk_cv3, sk_cv4, sk_cv5, sk_cv6, sk_ci1, sk_ci2, sk_ci3, sk_ret0, sk_retI, sk_retL, sk_retR, sk_sw, sk_oin, sk_max, sk_min, sk_abs, lI_0, lI_s, lL_0, lL_s, lR_0, lR_s, vIo_e, vLo_e, vOo_e, stW_I, stW_L, stW_R, stW_0, stW_z, okSt_0, okSt_s, hV_eq, hK_eq, okF_0, okF_1, okF_3, is01_0, is01_1, is01_i, Int.toNat_natCast, Int.reduceEq, Int.reduceLE, Int.reduceLT, Int.reduceNeg, Nat.reduceLT, not_true_eq_false, not_false_eq_true, reduceIte, Option.toList, List.cons_append, List.nil_append, List.set_cons_zero, List.set_cons_succ, List.not_mem_nil, List.mem_cons, if_false, if_true, ite_true, ite_false, and_self, and_true, true_and, Nat.reduceAdd, Nat.reduceLeDiff, Nat.reduceEqDiff, Nat.zero_add, Nat.le_refl, Nat.zero_le, or_false, false_or, Int.reduceToNat, or_true, true_or, eq_self, and_false, false_and, inR_d, nc_4, nc_5, nc_6, nc_7, nc_8, nc_16, nc_18, nc_20, nc_24, nc_32, nc_40, nc_64, nc_104, nc_120, nc_160, nc_256, nc_300, nc_330, nc_390, nc_1200, nc_1260, nc_3012, nc_9834, okSt_1i, okSt_1r, okSt_1n, xpk_succ cd_263_0, xpk_succ cd_263_1, xpk_succ cd_263_4, xpk_succ cd_263_6, xpk_succ cd_263_7, xpk_succ cd_263_8, xpk_succ cd_263_9, xpk_succ cd_263_10, xpk_succ cd_263_13, xpk_succ cd_263_14, xpk_succ cd_263_17, xpk_succ cd_263_20, xpk_succ cd_263_21, o1, o2, o3, v17, z, e1]
      exact stay
    · rcases hr1 with rfl | rfl
      · refine xpk_sound (stops := []) (n := 20) ?_
        simp only [sk_0, sk_1, sk_2, sk_3, sk_4, sk_5, sk_6, sk_7, sk_8, sk_iadd, sk_isub, sk_imul, sk_iand, sk_ior, sk_ixor, sk_ishl, sk_ishr, sk_iushr, sk_idiv, sk_irem, sk_ineg, sk_ladd, sk_lsub, sk_lmul, sk_land, sk_lor, sk_ldiv, sk_lrem, sk_lneg, sk_lshl, sk_lshr, sk_i2l, sk_l2i, sk_lcmp, sk_dupI, sk_dupR, sk_dup2L, sk_dup2I, sk_popI, sk_ifeq, sk_ifne, sk_iflt, sk_ifge, sk_ifgt, sk_ifle, sk_iceq, sk_icne, sk_iclt, sk_icge, sk_icgt, sk_icle, sk_goto, sk_getf, sk_putf, sk_gets, sk_iald, sk_lald, sk_bald, sk_aald, sk_iast, sk_last, sk_bast, sk_aast, sk_alen, sk_newa, sk_newt, sk_new, sk_cs1, sk_cs2, sk_cs3, sk_cs4, sk_cs5, sk_cs6, sk_cv1, sk_cv2, sk_cv3, sk_cv4, sk_cv5, sk_cv6, sk_ci1, sk_ci2, sk_ci3, sk_ret0, sk_retI, sk_retL, sk_retR, sk_sw, sk_oin, sk_max, sk_min, sk_abs, lI_0, lI_s, lL_0, lL_s, lR_0, lR_s, vIo_e, vLo_e, vOo_e, stW_I, stW_L, stW_R, stW_0, stW_z, okSt_0, okSt_s, hV_eq, hK_eq, okF_0, okF_1, okF_3, is01_0, is01_1, is01_i, Int.toNat_natCast, Int.reduceEq, Int.reduceLE, Int.reduceLT, Int.reduceNeg, Nat.reduceLT, not_true_eq_false, not_false_eq_true, reduceIte, Option.toList, List.cons_append, List.nil_append, List.set_cons_zero, List.set_cons_succ, List.not_mem_nil, List.mem_cons, if_false, if_true, ite_true, ite_false, and_self, and_true, true_and, Nat.reduceAdd, Nat.reduceLeDiff, Nat.reduceEqDiff, Nat.zero_add, Nat.le_refl, Nat.zero_le, or_false, false_or, Int.reduceToNat, or_true, true_or, eq_self, and_false, false_and, inR_d, nc_4, nc_5, nc_6, nc_7, nc_8, nc_16, nc_18, nc_20, nc_24, nc_32, nc_40, nc_64, nc_104, nc_120, nc_160, nc_256, nc_300, nc_330, nc_390, nc_1200, nc_1260, nc_3012, nc_9834, okSt_1i, okSt_1r, okSt_1n, xpk_succ cd_263_0, xpk_succ cd_263_1, xpk_succ cd_263_4, xpk_succ cd_263_6, xpk_succ cd_263_7, xpk_succ cd_263_8, xpk_succ cd_263_9, xpk_succ cd_263_10, xpk_succ cd_263_13, xpk_succ cd_263_14, xpk_succ cd_263_17, xpk_succ cd_263_20, xpk_succ cd_263_21, o1, o2, o3, v17, z, e1]
        exact stay
      · have fr : ∀ i, i ≠ 5 → (i < 84 ∨ 474 ≤ i) → hV h2 77 i = hV h 77 i := fun i h1 h2' => F2.2 77 i (fun y => by
          obtain ⟨q, q1, q2, q3, q4⟩ := y
          rcases List.mem_cons.mp q1 with rfl | q1
          · have q3 : 5 ≤ i := q3
            have q4 : i ≤ 5 := q4
            omega
          · rcases List.mem_cons.mp q1 with rfl | q1
            · have q3 : 84 ≤ i := q3
              have q4 : i ≤ 473 := q4
              omega
            · cases q1)
        have hv2 := aF_v J2
        have W2 := F2.1.2
        obtain ⟨w, w1, w2, w3⟩ := W2.1.2.1.1
        rw [hv2 7 (by decide)] at w1
        have w1 := Sum.inl.inj (show (Sum.inl (aF h2 7) : AV) = Sum.inl w from w1)
        have g16 : inRg (false, 0, 9999) (vI (aF h2 16)) := by rw [← hv2 16 (by decide), fr 16 (by decide) (by decide)]; exact h16
        have hL := ld_L (f := aF h2) (o := (aF h 17).toNat) (w := w.toNat) (by omega)
        have fin := ld_b (d + 5) h2 (aF h2) (aF h 17).toNat w.toNat (AO_J J2) (by omega) (by omega) (by omega) (fun r h' => ∃ x : Int, r = some (vI x) ∧ (k_H JB h' ∧ W0 (β + 1) h' ∧ inRg (false, 0, 9999) (hV h' 77 16) ∧ (-1 ≤ x ∧ x ≤ 7) ∧ FL h h')) ⟨_, rfl, lnd_JB J2 (by omega) (by omega) g16 hL, lnd_W J2 (by omega) (by omega) W2 hL, by
          rw [hA_V (by decide), hL.2.2.2.2.2.2 16 (by omega) (by omega) (by omega) (by omega) (by omega) (by omega)]
          exact g16, ⟨by omega, by omega⟩, FL_t (FL_of (by decide +kernel) F2) (FL_A (fun i hi => by rw [hL.2.2.2.2.2.2 i (by omega) (by omega) (by omega) (by omega) (by omega) (by omega), hv2 i (by omega)]))⟩
        rw [hA_0 hv2, show (((aF h 17).toNat : Nat) : Int) = aF h 17 by omega] at fin
        have p1 : hK h2 76 = (10, 0) := (AO_J J2).1
        refine xpk_sound (stops := [26]) (n := 20) ?_
        simp only [sk_0, sk_1, sk_2, sk_3, sk_4, sk_5, sk_6, sk_7, sk_8, sk_iadd, sk_isub, sk_imul, sk_iand, sk_ior, sk_ixor, sk_ishl, sk_ishr, sk_iushr, sk_idiv, sk_irem, sk_ineg, sk_ladd, sk_lsub, sk_lmul, sk_land, sk_lor, sk_ldiv, sk_lrem, sk_lneg, sk_lshl, sk_lshr, sk_i2l, sk_l2i, sk_lcmp, sk_dupI, sk_dupR, sk_dup2L, sk_dup2I, sk_popI, sk_ifeq, sk_ifne, sk_iflt, sk_ifge, sk_ifgt, sk_ifle, sk_iceq, sk_icne, sk_iclt, sk_icge, sk_icgt, sk_icle, sk_goto, sk_getf, sk_putf, sk_gets, sk_iald, sk_lald, sk_bald, sk_aald, sk_iast, sk_last, sk_bast, sk_aast, sk_alen, sk_newa, sk_newt, sk_new, sk_cs1, sk_cs2, sk_cs3, sk_cs4, sk_cs5, sk_cs6, sk_cv1, sk_cv2, sk_cv3, sk_cv4, sk_cv5, sk_cv6, sk_ci1, sk_ci2, sk_ci3, sk_ret0, sk_retI, sk_retL, sk_retR, sk_sw, sk_oin, sk_max, sk_min, sk_abs, lI_0, lI_s, lL_0, lL_s, lR_0, lR_s, vIo_e, vLo_e, vOo_e, stW_I, stW_L, stW_R, stW_0, stW_z, okSt_0, okSt_s, hV_eq, hK_eq, okF_0, okF_1, okF_3, is01_0, is01_1, is01_i, Int.toNat_natCast, Int.reduceEq, Int.reduceLE, Int.reduceLT, Int.reduceNeg, Nat.reduceLT, not_true_eq_false, not_false_eq_true, reduceIte, Option.toList, List.cons_append, List.nil_append, List.set_cons_zero, List.set_cons_succ, List.not_mem_nil, List.mem_cons, if_false, if_true, ite_true, ite_false, and_self, and_true, true_and, Nat.reduceAdd, Nat.reduceLeDiff, Nat.reduceEqDiff, Nat.zero_add, Nat.le_refl, Nat.zero_le, or_false, false_or, Int.reduceToNat, or_true, true_or, eq_self, and_false, false_and, inR_d, nc_4, nc_5, nc_6, nc_7, nc_8, nc_16, nc_18, nc_20, nc_24, nc_32, nc_40, nc_64, nc_104, nc_120, nc_160, nc_256, nc_300, nc_330, nc_390, nc_1200, nc_1260, nc_3012, nc_9834, okSt_1i, okSt_1r, okSt_1n, xpk_succ cd_263_0, xpk_succ cd_263_1, xpk_succ cd_263_4, xpk_succ cd_263_6, xpk_succ cd_263_7, xpk_succ cd_263_8, xpk_succ cd_263_9, xpk_succ cd_263_10, xpk_succ cd_263_13, xpk_succ cd_263_14, xpk_succ cd_263_17, xpk_succ cd_263_20, xpk_succ cd_263_21, xpk_succ cd_263_22, xpk_succ cd_263_23, o1, o2, o3, v17, z, e1, e2]
        exact fin
  obtain ⟨r, h', ⟨x, rfl, hx⟩, e⟩ := XC_det q0
  exact ⟨x, h', hx, e⟩
