set_option maxRecDepth 20000 in
theorem ac_266 : allC[266]? = some cl266 := rfl
theorem cd_266_0 : cd 266 0 = some (2, 1, 1, 0, 0, []) := cd_row ac_266 rfl
theorem cd_266_1 : cd 266 1 = some (0, 2, 0, 0, 0, []) := cd_row ac_266 rfl
theorem cd_266_2 : cd 266 2 = some (0, 5, 0, 0, 9999, []) := cd_row ac_266 rfl
theorem cd_266_5 : cd 266 5 = some (38, 8, 182, 3, 0, []) := cd_row ac_266 rfl
theorem cd_266_8 : cd 266 8 = some (20, 11, 36, 0, 0, []) := cd_row ac_266 rfl
theorem cd_266_11 : cd 266 11 = some (2, 12, 2, 0, 0, []) := cd_row ac_266 rfl
theorem cd_266_12 : cd 266 12 = some (0, 13, 0, 0, 1, []) := cd_row ac_266 rfl
theorem cd_266_13 : cd 266 13 = some (0, 15, 0, 0, 40, []) := cd_row ac_266 rfl
theorem cd_266_15 : cd 266 15 = some (38, 18, 182, 3, 0, []) := cd_row ac_266 rfl
theorem cd_266_18 : cd 266 18 = some (20, 21, 36, 0, 0, []) := cd_row ac_266 rfl
theorem cd_266_21 : cd 266 21 = some (4, 22, 0, 0, 0, []) := cd_row ac_266 rfl
theorem cd_266_22 : cd 266 22 = some (23, 25, 10, 0, 0, []) := cd_row ac_266 rfl
theorem cd_266_25 : cd 266 25 = some (0, 27, 0, 0, 16, []) := cd_row ac_266 rfl
theorem cd_266_27 : cd 266 27 = some (26, 28, 0, 0, 0, []) := cd_row ac_266 rfl
theorem cd_266_28 : cd 266 28 = some (2, 29, 2, 0, 0, []) := cd_row ac_266 rfl
theorem cd_266_29 : cd 266 29 = some (9, 30, 0, 0, 0, []) := cd_row ac_266 rfl
theorem cd_266_30 : cd 266 30 = some (0, 33, 0, 0, 9999, []) := cd_row ac_266 rfl
theorem cd_266_33 : cd 266 33 = some (21, 36, 38, 5, 0, []) := cd_row ac_266 rfl
theorem cd_266_36 : cd 266 36 = some (0, 37, 0, 0, -1, []) := cd_row ac_266 rfl
theorem cd_266_37 : cd 266 37 = some (40, 38, 0, 0, 0, []) := cd_row ac_266 rfl
theorem cd_266_38 : cd 266 38 = some (4, 39, 0, 0, 0, []) := cd_row ac_266 rfl
theorem cd_266_39 : cd 266 39 = some (46, 42, 254, 1, 10, []) := cd_row ac_266 rfl
theorem cd_266_42 : cd 266 42 = some (4, 43, 0, 0, 0, []) := cd_row ac_266 rfl
theorem cd_266_43 : cd 266 43 = some (23, 46, 10, 0, 0, []) := cd_row ac_266 rfl
theorem cd_266_46 : cd 266 46 = some (0, 47, 0, 0, 2, []) := cd_row ac_266 rfl
theorem cd_266_47 : cd 266 47 = some (2, 48, 1, 0, 0, []) := cd_row ac_266 rfl
theorem cd_266_48 : cd 266 48 = some (0, 49, 0, 0, 3, []) := cd_row ac_266 rfl
theorem cd_266_49 : cd 266 49 = some (9, 50, 0, 2, 0, []) := cd_row ac_266 rfl
theorem cd_266_50 : cd 266 50 = some (0, 52, 0, 0, 59, []) := cd_row ac_266 rfl
theorem cd_266_52 : cd 266 52 = some (9, 53, 0, 0, 0, []) := cd_row ac_266 rfl
theorem cd_266_53 : cd 266 53 = some (30, 54, 0, 0, 0, []) := cd_row ac_266 rfl
theorem cd_266_54 : cd 266 54 = some (0, 55, 0, 0, 0, []) := cd_row ac_266 rfl
theorem cd_266_55 : cd 266 55 = some (5, 56, 3, 0, 0, []) := cd_row ac_266 rfl
theorem cd_266_56 : cd 266 56 = some (2, 57, 3, 0, 0, []) := cd_row ac_266 rfl
theorem cd_266_57 : cd 266 57 = some (2, 58, 2, 0, 0, []) := cd_row ac_266 rfl
theorem cd_266_58 : cd 266 58 = some (21, 61, 105, 3, 0, []) := cd_row ac_266 rfl
theorem cd_266_61 : cd 266 61 = some (4, 62, 0, 0, 0, []) := cd_row ac_266 rfl
theorem cd_266_62 : cd 266 62 = some (23, 65, 10, 0, 0, []) := cd_row ac_266 rfl
theorem cd_266_65 : cd 266 65 = some (0, 67, 0, 0, 14, []) := cd_row ac_266 rfl
theorem cd_266_67 : cd 266 67 = some (4, 68, 0, 0, 0, []) := cd_row ac_266 rfl
theorem cd_266_68 : cd 266 68 = some (23, 71, 10, 0, 0, []) := cd_row ac_266 rfl
theorem cd_266_71 : cd 266 71 = some (0, 72, 0, 0, 2, []) := cd_row ac_266 rfl
theorem cd_266_72 : cd 266 72 = some (26, 73, 0, 0, 0, []) := cd_row ac_266 rfl
theorem cd_266_73 : cd 266 73 = some (0, 75, 0, 0, 10, []) := cd_row ac_266 rfl
theorem cd_266_75 : cd 266 75 = some (9, 76, 0, 7, 0, []) := cd_row ac_266 rfl
theorem cd_266_76 : cd 266 76 = some (30, 77, 0, 0, 0, []) := cd_row ac_266 rfl
theorem cd_266_77 : cd 266 77 = some (4, 78, 0, 0, 0, []) := cd_row ac_266 rfl
theorem cd_266_78 : cd 266 78 = some (46, 81, 249, 1, 10, []) := cd_row ac_266 rfl
theorem cd_266_81 : cd 266 81 = some (4, 82, 0, 0, 0, []) := cd_row ac_266 rfl
theorem cd_266_82 : cd 266 82 = some (4, 83, 0, 0, 0, []) := cd_row ac_266 rfl
theorem cd_266_83 : cd 266 83 = some (23, 86, 10, 0, 0, []) := cd_row ac_266 rfl
theorem cd_266_86 : cd 266 86 = some (0, 87, 0, 0, 2, []) := cd_row ac_266 rfl
theorem cd_266_87 : cd 266 87 = some (26, 88, 0, 0, 0, []) := cd_row ac_266 rfl
theorem cd_266_88 : cd 266 88 = some (0, 89, 0, 0, 3, []) := cd_row ac_266 rfl
theorem cd_266_89 : cd 266 89 = some (9, 90, 0, 7, 0, []) := cd_row ac_266 rfl
theorem cd_266_90 : cd 266 90 = some (0, 91, 0, 0, 1, []) := cd_row ac_266 rfl
theorem cd_266_91 : cd 266 91 = some (9, 92, 0, 1, 0, []) := cd_row ac_266 rfl
theorem cd_266_92 : cd 266 92 = some (46, 95, 251, 2, 10, []) := cd_row ac_266 rfl
theorem cd_266_95 : cd 266 95 = some (4, 96, 0, 0, 0, []) := cd_row ac_266 rfl
theorem cd_266_96 : cd 266 96 = some (46, 99, 249, 1, 10, []) := cd_row ac_266 rfl
theorem cd_266_99 : cd 266 99 = some (8, 102, 3, 0, 1, []) := cd_row ac_266 rfl
theorem cd_266_102 : cd 266 102 = some (22, 105, 56, 0, 0, []) := cd_row ac_266 rfl
theorem cd_266_105 : cd 266 105 = some (4, 106, 0, 0, 0, []) := cd_row ac_266 rfl
theorem cd_266_106 : cd 266 106 = some (23, 109, 10, 0, 0, []) := cd_row ac_266 rfl
theorem cd_266_109 : cd 266 109 = some (0, 111, 0, 0, 8, []) := cd_row ac_266 rfl
theorem cd_266_111 : cd 266 111 = some (26, 112, 0, 0, 0, []) := cd_row ac_266 rfl
theorem cd_266_112 : cd 266 112 = some (40, 113, 0, 0, 0, []) := cd_row ac_266 rfl
/-! storm -/
abbrev STM : Type := (Nat → Int) × (Nat → Int) × Nat
def sf1 (f : Nat → Int) : Nat → Int := upF (upF f 10 (rnX (f 10))) 7 (f 10 % 10)
def scm (f : Nat → Int) : Int := rnX (f 10) % 3 - 1
def sm1 (cs : List cCl) (S : STM) : STM := (upF (TNf cs (sf1 S.1) S.2.1 1260 S.2.2 (scm S.1)) 10 (rnX (TNf cs (sf1 S.1) S.2.1 1260 S.2.2 (scm S.1) 10)), rwT (sf1 S.1) S.2.1 1260 S.2.2 (scm S.1), S.2.2 + 1)
def smS (cs : List cCl) : Nat → STM → STM
  | 0, S => S
  | n + 1, S => smS cs n (sm1 cs S)
theorem scm_r (f : Nat → Int) : -1 ≤ scm f ∧ scm f ≤ 1 := by unfold scm; omega
theorem sf1_v {f : Nat → Int} : sf1 f 7 = f 10 % 10 ∧ sf1 f 10 = rnX (f 10) ∧ ∀ i, i ≠ 7 → i ≠ 10 → sf1 f i = f i := ⟨upF_at, (upF_ne (by decide)).trans upF_at, fun i a b => (upF_ne a).trans (upF_ne b)⟩
theorem sf1_k {f : Nat → Int} (hf : HKs f) : HKs (sf1 f) := by
  obtain ⟨⟨a1, a2, a3, a4, a5, a6, a7, a8, a9⟩, g2, g3⟩ := hf
  obtain ⟨e7, e10, e⟩ := sf1_v (f := f)
  refine ⟨⟨?_, ?_, ?_, ?_, ?_, ?_, ?_, ?_, ?_⟩, ?_, ?_⟩
  · rw [e 1 (by decide) (by decide)]; exact a1
  · rw [e 2 (by decide) (by decide)]; exact a2
  · rw [e 3 (by decide) (by decide)]; exact a3
  · rw [e 4 (by decide) (by decide)]; exact a4
  · rw [e 5 (by decide) (by decide)]; exact a5
  · rw [e 6 (by decide) (by decide)]; exact a6
  · rw [e7]; omega
  · rw [e 8 (by decide) (by decide)]; exact a8
  · rw [e 9 (by decide) (by decide)]; exact a9
  · rw [e10]; exact rnX_r g2.1
  · rw [e 9 (by decide) (by decide)]; exact g3
theorem HKs_x {f : Nat → Int} (hf : HKs f) {x : Int} (hx : 0 ≤ x ∧ x ≤ 30252) : HKs (upF f 10 x) := by
  obtain ⟨⟨a1, a2, a3, a4, a5, a6, a7, a8, a9⟩, g2, g3⟩ := hf
  have e : ∀ i, i ≠ 10 → upF f 10 x i = f i := fun i hi => upF_ne hi
  refine ⟨⟨?_, ?_, ?_, ?_, ?_, ?_, ?_, ?_, ?_⟩, ?_, ?_⟩
  · rw [e 1 (by decide)]; exact a1
  · rw [e 2 (by decide)]; exact a2
  · rw [e 3 (by decide)]; exact a3
  · rw [e 4 (by decide)]; exact a4
  · rw [e 5 (by decide)]; exact a5
  · rw [e 6 (by decide)]; exact a6
  · rw [e 7 (by decide)]; exact a7
  · rw [e 8 (by decide)]; exact a8
  · rw [e 9 (by decide)]; exact a9
  · rw [upF_at]; exact hx
  · rw [e 9 (by decide)]; exact g3
theorem sm1_k {cs : List cCl} {S : STM} (hf : HKs S.1) (h9 : S.1 9 = (S.2.2 : Int)) (ht : S.2.2 < 9999) : HKs (sm1 cs S).1 ∧ (sm1 cs S).1 9 = (((sm1 cs S).2.2 : Nat) : Int) := by
  have h1 := sf1_k hf
  have e9 : sf1 S.1 9 = (S.2.2 : Int) := (sf1_v.2.2 9 (by decide) (by decide)).trans h9
  obtain ⟨a, b⟩ := HKs_n (cs := cs) (rw_ := S.2.1) (c := scm S.1) h1 e9 (by omega)
  refine ⟨HKs_x a (rnX_r a.2.1.1), ?_⟩
  show upF (TNf cs (sf1 S.1) S.2.1 1260 S.2.2 (scm S.1)) 10 (rnX (TNf cs (sf1 S.1) S.2.1 1260 S.2.2 (scm S.1) 10)) 9 = ((S.2.2 + 1 : Nat) : Int)
  rw [upF_ne (by decide)]
  exact b
def smQ (h : AH) (T : Nat) (W : Nat → Nat → Int) (S : STM) (r : Option AV) (g : AH) : Prop := r = some (vI (S.1 1)) ∧ ∃ s : SCR, SOK s ∧ g = Zc h T T W S.1 S.2.1 s
set_option maxHeartbeats 4000000 in
theorem smC_l {d T : Nat} {h : AH} {W : Nat → Nat → Int} {cs : List cCl} (hJ : k_H JB h) (hl : LWC h T cs) (hc : CST cs) {v : Int} {cn : Nat} (hcn : cn ≤ 40) : ∀ (n k : Nat) (S : STM) (s : SCR), k + n = cn → HKs S.1 → S.1 9 = (S.2.2 : Int) → S.2.2 + n ≤ 9999 → SOK s → XP (d + 7) 136 65 [some (vR 0), some (vI v), some (vI (cn : Int)), some (vR 2), some (vR 58), some (vI (k : Int))] [] (Zc h T T W S.1 S.2.1 s) (smQ h T W (smS cs n S)) := by
  intro n
  induction n with
  | zero =>
    intro k S s hk hf h9 ht hs
    obtain rfl : k = cn := hk
    have c1 : ¬ ((k : Int) < (k : Int)) := by omega
    have c2 : (k : Int) ≤ (k : Int) := Int.le_refl _
    have y : smQ h T W (smS cs 0 S) (some (vI (S.1 1))) (Zc h T T W S.1 S.2.1 s) := ⟨rfl, s, hs, rfl⟩
    refine xpk_sound (stops := []) (n := 12) ?_
    simp only [sk_0, sk_1, sk_2, sk_3, sk_4, sk_5, sk_6, sk_7, sk_8, sk_iadd, sk_isub, sk_imul, sk_iand, sk_ior, sk_ixor, sk_ishl, sk_ishr, sk_iushr, sk_idiv, sk_irem, sk_ineg, sk_ladd, sk_lsub, sk_lmul, sk_land, sk_lor, sk_ldiv, sk_lrem, sk_lneg, sk_lshl, sk_lshr, sk_i2l, sk_l2i, sk_lcmp, sk_dupI, sk_dupR, sk_dup2L, sk_dup2I, sk_popI, sk_ifeq, sk_ifne, sk_iflt, sk_ifge, sk_ifgt, sk_ifle, sk_iceq, sk_icne, sk_iclt, sk_icge, sk_icgt, sk_icle, sk_goto, sk_getf, sk_putf, sk_gets, sk_iald, sk_lald, sk_bald, sk_aald, sk_iast, sk_last, sk_bast, sk_aast, sk_alen, sk_newa, sk_newt, sk_new, sk_cs1, sk_cs2, sk_cs3, sk_cs4, sk_cs5, sk_cs6, sk_cv1, sk_cv2, sk_cv3, sk_cv4, sk_cv5, sk_cv6, sk_ci1, sk_ci2, sk_ci3, sk_ret0, sk_retI, sk_retL, sk_retR, sk_sw, sk_oin, sk_max, sk_min, sk_abs, lI_0, lI_s, lL_0, lL_s, lR_0, lR_s, vIo_e, vLo_e, vOo_e, stW_I, stW_L, stW_R, stW_0, stW_z, okSt_0, okSt_s, hV_eq, hK_eq, okF_0, okF_1, okF_3, is01_0, is01_1, is01_i, Int.toNat_natCast, Int.reduceEq, Int.reduceLE, Int.reduceLT, Int.reduceNeg, Nat.reduceLT, not_true_eq_false, not_false_eq_true, reduceIte, Option.toList, List.cons_append, List.nil_append, List.set_cons_zero, List.set_cons_succ, List.not_mem_nil, List.mem_cons, if_false, if_true, ite_true, ite_false, and_self, and_true, true_and, Nat.reduceAdd, Nat.reduceLeDiff, Nat.reduceEqDiff, Nat.zero_add, Nat.le_refl, Nat.zero_le, or_false, false_or, Int.reduceToNat, or_true, true_or, eq_self, and_false, false_and, inR_d, nc_4, nc_5, nc_6, nc_7, nc_8, nc_16, nc_18, nc_20, nc_24, nc_32, nc_40, nc_64, nc_104, nc_120, nc_160, nc_256, nc_300, nc_330, nc_390, nc_1200, nc_1260, nc_3012, nc_9834, okSt_1i, okSt_1r, okSt_1n, List.length_cons, List.length_nil, xpk_succ cd_136_65, xpk_succ cd_136_67, xpk_succ cd_136_68, xpk_succ cd_136_71, xpk_succ cd_136_72, xpk_succ cd_136_73, xpk_succ cd_136_76, xpk_succ cd_136_79, xpk_succ cd_136_80, xpk_succ cd_136_81, xpk_succ cd_136_84, xpk_succ cd_136_85, xpk_succ cd_136_86, xpk_succ cd_136_87, xpk_succ cd_136_88, xpk_succ cd_136_90, xpk_succ cd_136_93, xpk_succ cd_136_94, xpk_succ cd_136_97, xpk_succ cd_136_100, xpk_succ cd_136_103, xpk_succ cd_136_104, xpk_succ cd_136_107, Zc_k, (K_0 hJ), (K_1 hJ), (K_2 hJ), (K_5 hJ), (K_6 hJ), (K_9 hJ), (K_10 hJ), (K_21 hJ), (K_58 hJ), (Zp_0_0 hJ), (Zp_0_2 hJ), (Zp_0_3 hJ), (Zp_0_4 hJ), (Zp_1_0 hJ), (Zp_1_4 hJ), (Zp_1_6 hJ), (Zp_1_13 hJ), (Zp_1_14 hJ), (Zc_f (i := 1) (by decide) (by decide)), (eq_true c2), c1]
    exact y
  | succ n ih =>
    intro k S s hk hf h9 ht hs
    obtain ⟨f, rw_, t⟩ := S
    have hf1 := sf1_k hf
    have e9 : sf1 f 9 = (t : Int) := (sf1_v.2.2 9 (by decide) (by decide)).trans h9
    have ed : ∀ Q : Option AV → AH → Prop, XC (d + 7) 15 [vR 2] (Zc h T T W f rw_ s) Q = Q (some (vI (f 10 % 10))) (Zc h T T W (upF f 10 (rnX (f 10))) rw_ s) := fun Q => E_drw (d := d + 5) (h := hB (hLw h T T) W) (r := 2) (R := 4) (sz := 1260) (K_2 (h := h) hJ) (by decide) hf.2.1 Q
    have s7 : hSet (Zc h T T W (upF f 10 (rnX (f 10))) rw_ s) 2 7 (vI (f 10 % 10)) = Zc h T T W (sf1 f) rw_ s := Zc_sf (by decide) (by decide)
    have v10 : hV (Zc h T T W (sf1 f) rw_ s) 2 10 = vI (rnX (f 10)) := (Zc_f (by decide) (by decide)).trans (congrArg vI sf1_v.2.1)
    have v10b : hV (Zc h T T W (upF f 10 (rnX (f 10))) rw_ s) 2 10 = vI (rnX (f 10)) := (Zc_f (by decide) (by decide)).trans (congrArg vI upF_at)
    have rx := rnX_r hf.2.1.1
    have tm : Int.tmod (rnX (f 10)) 3 = rnX (f 10) % 3 := Int.tmod_eq_emod_of_nonneg rx.1
    have w2 : WE (rnX (f 10) % 3 - 1) (scm f) := by unfold scm WE w32; omega
    have cr := scm_r f
    obtain ⟨s2, hs2, et⟩ := E_tbZ (d := d) (h := h) (T1 := T) (T2 := T) (W := W) (rw_ := rw_) hJ hl hc hf1 e9 hs cr.1 cr.2
    obtain ⟨ka, kb⟩ := HKs_n (cs := cs) (rw_ := rw_) (c := scm f) hf1 e9 (show t < 19999 by have ht : t + (n + 1) ≤ 9999 := ht; omega)
    have er : ∀ Q : Option AV → AH → Prop, XC (d + 7) 16 [vR 2] (Zc h T T W (TNf cs (sf1 f) rw_ 1260 t (scm f)) (rwT (sf1 f) rw_ 1260 t (scm f)) s2) Q = Q none (Zc h T T W (sm1 cs (f, rw_, t)).1 (sm1 cs (f, rw_, t)).2.1 s2) := fun Q => E_rnw (d := d + 6) (h := hB (hLw h T T) W) (r := 2) (R := 4) (sz := 1260) (K_2 (h := h) hJ) (by decide) ka.2.1 Q
    obtain ⟨k1, k2⟩ := sm1_k (cs := cs) hf h9 (show t < 9999 by have ht : t + (n + 1) ≤ 9999 := ht; omega)
    have y := ih (k + 1) (sm1 cs (f, rw_, t)) s2 (by omega) k1 k2 (by have ht : t + (n + 1) ≤ 9999 := ht; show t + 1 + n ≤ 9999; omega) hs2
    have c1 : ¬ ((cn : Int) ≤ (k : Int)) := by omega
    have w1 : WE ((k : Int) + 1) ((k + 1 : Nat) : Int) := by unfold WE w32; omega
    show XP (d + 7) 136 65 _ [] (Zc h T T W f rw_ s) _
    refine xpk_sound (stops := [65]) (n := 50) ?_
    simp only [sk_0, sk_1, sk_2, sk_3, sk_4, sk_5, sk_6, sk_7, sk_8, sk_iadd, sk_isub, sk_imul, sk_iand, sk_ior, sk_ixor, sk_ishl, sk_ishr, sk_iushr, sk_idiv, sk_irem, sk_ineg, sk_ladd, sk_lsub, sk_lmul, sk_land, sk_lor, sk_ldiv, sk_lrem, sk_lneg, sk_lshl, sk_lshr, sk_i2l, sk_l2i, sk_lcmp, sk_dupI, sk_dupR, sk_dup2L, sk_dup2I, sk_popI, sk_ifeq, sk_ifne, sk_iflt, sk_ifge, sk_ifgt, sk_ifle, sk_iceq, sk_icne, sk_iclt, sk_icge, sk_icgt, sk_icle, sk_goto, sk_getf, sk_putf, sk_gets, sk_iald, sk_lald, sk_bald, sk_aald, sk_iast, sk_last, sk_bast, sk_aast, sk_alen, sk_newa, sk_newt, sk_new, sk_cs1, sk_cs2, sk_cs3, sk_cs4, sk_cs5, sk_cs6, sk_cv1, sk_cv2, sk_cv3, sk_cv4, sk_cv5, sk_cv6, sk_ci1, sk_ci2, sk_ci3, sk_ret0, sk_retI, sk_retL, sk_retR, sk_sw, sk_oin, sk_max, sk_min, sk_abs, lI_0, lI_s, lL_0, lL_s, lR_0, lR_s, vIo_e, vLo_e, vOo_e, stW_I, stW_L, stW_R, stW_0, stW_z, okSt_0, okSt_s, hV_eq, hK_eq, okF_0, okF_1, okF_3, is01_0, is01_1, is01_i, Int.toNat_natCast, Int.reduceEq, Int.reduceLE, Int.reduceLT, Int.reduceNeg, Nat.reduceLT, not_true_eq_false, not_false_eq_true, reduceIte, Option.toList, List.cons_append, List.nil_append, List.set_cons_zero, List.set_cons_succ, List.not_mem_nil, List.mem_cons, if_false, if_true, ite_true, ite_false, and_self, and_true, true_and, Nat.reduceAdd, Nat.reduceLeDiff, Nat.reduceEqDiff, Nat.zero_add, Nat.le_refl, Nat.zero_le, or_false, false_or, Int.reduceToNat, or_true, true_or, eq_self, and_false, false_and, inR_d, nc_4, nc_5, nc_6, nc_7, nc_8, nc_16, nc_18, nc_20, nc_24, nc_32, nc_40, nc_64, nc_104, nc_120, nc_160, nc_256, nc_300, nc_330, nc_390, nc_1200, nc_1260, nc_3012, nc_9834, okSt_1i, okSt_1r, okSt_1n, List.length_cons, List.length_nil, xpk_succ cd_136_65, xpk_succ cd_136_67, xpk_succ cd_136_68, xpk_succ cd_136_71, xpk_succ cd_136_72, xpk_succ cd_136_73, xpk_succ cd_136_76, xpk_succ cd_136_79, xpk_succ cd_136_80, xpk_succ cd_136_81, xpk_succ cd_136_84, xpk_succ cd_136_85, xpk_succ cd_136_86, xpk_succ cd_136_87, xpk_succ cd_136_88, xpk_succ cd_136_90, xpk_succ cd_136_93, xpk_succ cd_136_94, xpk_succ cd_136_97, xpk_succ cd_136_100, xpk_succ cd_136_103, xpk_succ cd_136_104, xpk_succ cd_136_107, Zc_k, (K_0 hJ), (K_1 hJ), (K_2 hJ), (K_5 hJ), (K_6 hJ), (K_9 hJ), (K_10 hJ), (K_21 hJ), (K_58 hJ), (Zp_0_0 hJ), (Zp_0_2 hJ), (Zp_0_3 hJ), (Zp_0_4 hJ), (Zp_1_0 hJ), (Zp_1_4 hJ), (Zp_1_6 hJ), (Zp_1_13 hJ), (Zp_1_14 hJ), c1, ed, s7, v10, v10b, tm, (WE_e w2), et, er, (WE_e w1)]
    exact y
set_option maxHeartbeats 4000000 in
theorem E_stC {h : AH} {T1 T2 : Nat} {W : Nat → Nat → Int} {f rw_ : Nat → Int} {s : SCR} {d m t T : Nat} {cs : List cCl} (hJ : k_H JB h) (hr : RUL h T) (hl : LWC h T cs) (hc : CST cs) (hf : HKs f) (h9 : f 9 = (t : Int)) (ht : t ≤ 9999) (hs : SOK s) (h7 : W 1 7 = (m : Int)) (hm : m < 30) (h8 : 0 ≤ W 1 8 ∧ W 1 8 ≤ 30) {v n : Int} (hn : -2147483648 ≤ n ∧ n ≤ 2147483647) : ((0 ≤ v ∧ v ≤ 9999) ∧ (1 ≤ n ∧ n ≤ 40) ∧ (t : Int) + n ≤ 9999 ∧ ∃ s' : SCR, SOK s' ∧ ∀ Q : Option AV → AH → Prop, XC (d + 8) 136 [vR 0, vI v, vI n] (Zc h T1 T2 W f rw_ s) Q = Q (some (vI ((smS cs n.toNat (upF f 10 (v * 3 + 59), rw_, t)).1 1))) (Zc h T T (ksW W f m) (smS cs n.toNat (upF f 10 (v * 3 + 59), rw_, t)).1 (smS cs n.toNat (upF f 10 (v * 3 + 59), rw_, t)).2.1 s')) ∨ (¬ ((0 ≤ v ∧ v ≤ 9999) ∧ (1 ≤ n ∧ n ≤ 40) ∧ (t : Int) + n ≤ 9999) ∧ ∀ Q : Option AV → AH → Prop, XC (d + 8) 136 [vR 0, vI v, vI n] (Zc h T1 T2 W f rw_ s) Q = Q (some (vI (-1))) (Zc h T1 T2 W f rw_ s)) := by
  have e1 := fun Q => X_wn (d := d + 6) (v := v) (lo := 0) (hi := 9999) (h := Zc h T1 T2 W f rw_ s) Q
  have e2 := fun Q => X_wn (d := d + 6) (v := n) (lo := 1) (hi := 40) (h := Zc h T1 T2 W f rw_ s) Q
  by_cases z1 : 0 ≤ v ∧ v ≤ 9999
  · have e1 : ∀ Q : Option AV → AH → Prop, XC (d + 7) 177 [vI v, vI 0, vI 9999] (Zc h T1 T2 W f rw_ s) Q = Q (some (vI 1)) (Zc h T1 T2 W f rw_ s) := fun Q => by rw [e1 Q, if_pos z1]
    by_cases z2 : 1 ≤ n ∧ n ≤ 40
    · have e2 : ∀ Q : Option AV → AH → Prop, XC (d + 7) 177 [vI n, vI 1, vI 40] (Zc h T1 T2 W f rw_ s) Q = Q (some (vI 1)) (Zc h T1 T2 W f rw_ s) := fun Q => by rw [e2 Q, if_pos z2]
      have e3 := fun Q => E_fit (d := d + 6) (T1 := T1) (T2 := T2) (W := W) (f := f) (rw_ := rw_) (s := s) hJ (n := n) (by rw [h9]; unfold WE w32; omega) Q
      by_cases z3 : (t : Int) + n ≤ 9999
      · have e3 : ∀ Q : Option AV → AH → Prop, XC (d + 7) 129 [vR 0, vI n] (Zc h T1 T2 W f rw_ s) Q = Q (some (vI 1)) (Zc h T1 T2 W f rw_ s) := fun Q => by rw [e3 Q, if_pos (by omega)]
        have ek := fun Q => E_ks (d := d + 5) (T1 := T1) (T2 := T2) (f := f) (rw_ := rw_) (s := s) hJ h7 hm h8 Q
        have er := fun Q => E_rul (d := d + 4) (T1 := T1) (T2 := T2) (W := ksW W f m) (f := f) (rw_ := rw_) (s := s) hJ hr Q
        have y := smC_l (d := d) (W := ksW W f m) hJ hl hc (v := v) (cn := n.toNat) (by omega) n.toNat 0 (upF f 10 (v * 3 + 59), rw_, t) s (Nat.zero_add _) (HKs_x hf (by omega)) (show upF f 10 (v * 3 + 59) 9 = (t : Int) by rw [upF_ne (by decide)]; exact h9) (by show t + n.toNat ≤ 9999; omega) hs
        rw [show ((n.toNat : Nat) : Int) = n by omega] at y
        have w1 : WE (v * 3) (v * 3) := by unfold WE w32; omega
        have w2 : WE (v * 3 + 59) (v * 3 + 59) := by unfold WE w32; omega
        have y0 : XC (d + 8) 136 [vR 0, vI v, vI n] (Zc h T1 T2 W f rw_ s) (smQ h T (ksW W f m) (smS cs n.toNat (upF f 10 (v * 3 + 59), rw_, t))) := by
          refine XC_of (Nat.le_of_ble_eq_true rfl) ?_
          show XP (d + 7) 136 0 [some (vR 0), some (vI v), some (vI n), none, none, none] [] (Zc h T1 T2 W f rw_ s) _
          refine xpk_sound (stops := [65]) (n := 60) ?_
          simp only [sk_0, sk_1, sk_2, sk_3, sk_4, sk_5, sk_6, sk_7, sk_8, sk_iadd, sk_isub, sk_imul, sk_iand, sk_ior, sk_ixor, sk_ishl, sk_ishr, sk_iushr, sk_idiv, sk_irem, sk_ineg, sk_ladd, sk_lsub, sk_lmul, sk_land, sk_lor, sk_ldiv, sk_lrem, sk_lneg, sk_lshl, sk_lshr, sk_i2l, sk_l2i, sk_lcmp, sk_dupI, sk_dupR, sk_dup2L, sk_dup2I, sk_popI, sk_ifeq, sk_ifne, sk_iflt, sk_ifge, sk_ifgt, sk_ifle, sk_iceq, sk_icne, sk_iclt, sk_icge, sk_icgt, sk_icle, sk_goto, sk_getf, sk_putf, sk_gets, sk_iald, sk_lald, sk_bald, sk_aald, sk_iast, sk_last, sk_bast, sk_aast, sk_alen, sk_newa, sk_newt, sk_new, sk_cs1, sk_cs2, sk_cs3, sk_cs4, sk_cs5, sk_cs6, sk_cv1, sk_cv2, sk_cv3, sk_cv4, sk_cv5, sk_cv6, sk_ci1, sk_ci2, sk_ci3, sk_ret0, sk_retI, sk_retL, sk_retR, sk_sw, sk_oin, sk_max, sk_min, sk_abs, lI_0, lI_s, lL_0, lL_s, lR_0, lR_s, vIo_e, vLo_e, vOo_e, stW_I, stW_L, stW_R, stW_0, stW_z, okSt_0, okSt_s, hV_eq, hK_eq, okF_0, okF_1, okF_3, is01_0, is01_1, is01_i, Int.toNat_natCast, Int.reduceEq, Int.reduceLE, Int.reduceLT, Int.reduceNeg, Nat.reduceLT, not_true_eq_false, not_false_eq_true, reduceIte, Option.toList, List.cons_append, List.nil_append, List.set_cons_zero, List.set_cons_succ, List.not_mem_nil, List.mem_cons, if_false, if_true, ite_true, ite_false, and_self, and_true, true_and, Nat.reduceAdd, Nat.reduceLeDiff, Nat.reduceEqDiff, Nat.zero_add, Nat.le_refl, Nat.zero_le, or_false, false_or, Int.reduceToNat, or_true, true_or, eq_self, and_false, false_and, inR_d, nc_4, nc_5, nc_6, nc_7, nc_8, nc_16, nc_18, nc_20, nc_24, nc_32, nc_40, nc_64, nc_104, nc_120, nc_160, nc_256, nc_300, nc_330, nc_390, nc_1200, nc_1260, nc_3012, nc_9834, okSt_1i, okSt_1r, okSt_1n, List.length_cons, List.length_nil, xpk_succ cd_136_0, xpk_succ cd_136_1, xpk_succ cd_136_2, xpk_succ cd_136_5, xpk_succ cd_136_8, xpk_succ cd_136_11, xpk_succ cd_136_12, xpk_succ cd_136_13, xpk_succ cd_136_15, xpk_succ cd_136_18, xpk_succ cd_136_21, xpk_succ cd_136_22, xpk_succ cd_136_23, xpk_succ cd_136_26, xpk_succ cd_136_29, xpk_succ cd_136_30, xpk_succ cd_136_31, xpk_succ cd_136_32, xpk_succ cd_136_35, xpk_succ cd_136_38, xpk_succ cd_136_39, xpk_succ cd_136_42, xpk_succ cd_136_45, xpk_succ cd_136_46, xpk_succ cd_136_47, xpk_succ cd_136_50, xpk_succ cd_136_52, xpk_succ cd_136_53, xpk_succ cd_136_54, xpk_succ cd_136_55, xpk_succ cd_136_56, xpk_succ cd_136_58, xpk_succ cd_136_59, xpk_succ cd_136_62, xpk_succ cd_136_63, Zc_k, (K_0 hJ), (K_1 hJ), (K_2 hJ), (K_5 hJ), (K_6 hJ), (K_9 hJ), (K_10 hJ), (K_21 hJ), (K_58 hJ), (Zp_0_0 hJ), (Zp_0_2 hJ), (Zp_0_3 hJ), (Zp_0_4 hJ), (Zp_1_0 hJ), (Zp_1_4 hJ), (Zp_1_6 hJ), (Zp_1_13 hJ), (Zp_1_14 hJ), e1, e2, e3, ek, er, (WE_e w1), (WE_e w2), (Zc_sf (i := 10) (by decide) (by decide))]
          exact y
        obtain ⟨r, g, ⟨hr1, s', hs', hg⟩, e⟩ := XC_dt y0
        subst hr1 hg
        exact Or.inl ⟨z1, z2, z3, s', hs', e⟩
      · have e3 : ∀ Q : Option AV → AH → Prop, XC (d + 7) 129 [vR 0, vI n] (Zc h T1 T2 W f rw_ s) Q = Q (some (vI 0)) (Zc h T1 T2 W f rw_ s) := fun Q => by rw [e3 Q, if_neg (by omega)]
        refine Or.inr ⟨fun w => z3 w.2.2, fun Q => XC_eq (Nat.le_of_ble_eq_true rfl) ?_ Q⟩
        show XP (d + 7) 136 0 [some (vR 0), some (vI v), some (vI n), none, none, none] [] (Zc h T1 T2 W f rw_ s) _
        refine xpk_sound (stops := []) (n := 60) ?_
        simp only [sk_0, sk_1, sk_2, sk_3, sk_4, sk_5, sk_6, sk_7, sk_8, sk_iadd, sk_isub, sk_imul, sk_iand, sk_ior, sk_ixor, sk_ishl, sk_ishr, sk_iushr, sk_idiv, sk_irem, sk_ineg, sk_ladd, sk_lsub, sk_lmul, sk_land, sk_lor, sk_ldiv, sk_lrem, sk_lneg, sk_lshl, sk_lshr, sk_i2l, sk_l2i, sk_lcmp, sk_dupI, sk_dupR, sk_dup2L, sk_dup2I, sk_popI, sk_ifeq, sk_ifne, sk_iflt, sk_ifge, sk_ifgt, sk_ifle, sk_iceq, sk_icne, sk_iclt, sk_icge, sk_icgt, sk_icle, sk_goto, sk_getf, sk_putf, sk_gets, sk_iald, sk_lald, sk_bald, sk_aald, sk_iast, sk_last, sk_bast, sk_aast, sk_alen, sk_newa, sk_newt, sk_new, sk_cs1, sk_cs2, sk_cs3, sk_cs4, sk_cs5, sk_cs6, sk_cv1, sk_cv2, sk_cv3, sk_cv4, sk_cv5, sk_cv6, sk_ci1, sk_ci2, sk_ci3, sk_ret0, sk_retI, sk_retL, sk_retR, sk_sw, sk_oin, sk_max, sk_min, sk_abs, lI_0, lI_s, lL_0, lL_s, lR_0, lR_s, vIo_e, vLo_e, vOo_e, stW_I, stW_L, stW_R, stW_0, stW_z, okSt_0, okSt_s, hV_eq, hK_eq, okF_0, okF_1, okF_3, is01_0, is01_1, is01_i, Int.toNat_natCast, Int.reduceEq, Int.reduceLE, Int.reduceLT, Int.reduceNeg, Nat.reduceLT, not_true_eq_false, not_false_eq_true, reduceIte, Option.toList, List.cons_append, List.nil_append, List.set_cons_zero, List.set_cons_succ, List.not_mem_nil, List.mem_cons, if_false, if_true, ite_true, ite_false, and_self, and_true, true_and, Nat.reduceAdd, Nat.reduceLeDiff, Nat.reduceEqDiff, Nat.zero_add, Nat.le_refl, Nat.zero_le, or_false, false_or, Int.reduceToNat, or_true, true_or, eq_self, and_false, false_and, inR_d, nc_4, nc_5, nc_6, nc_7, nc_8, nc_16, nc_18, nc_20, nc_24, nc_32, nc_40, nc_64, nc_104, nc_120, nc_160, nc_256, nc_300, nc_330, nc_390, nc_1200, nc_1260, nc_3012, nc_9834, okSt_1i, okSt_1r, okSt_1n, List.length_cons, List.length_nil, xpk_succ cd_136_0, xpk_succ cd_136_1, xpk_succ cd_136_2, xpk_succ cd_136_5, xpk_succ cd_136_8, xpk_succ cd_136_11, xpk_succ cd_136_12, xpk_succ cd_136_13, xpk_succ cd_136_15, xpk_succ cd_136_18, xpk_succ cd_136_21, xpk_succ cd_136_22, xpk_succ cd_136_23, xpk_succ cd_136_26, xpk_succ cd_136_29, xpk_succ cd_136_30, xpk_succ cd_136_31, xpk_succ cd_136_32, xpk_succ cd_136_35, xpk_succ cd_136_38, xpk_succ cd_136_39, xpk_succ cd_136_42, xpk_succ cd_136_45, xpk_succ cd_136_46, xpk_succ cd_136_47, xpk_succ cd_136_50, xpk_succ cd_136_52, xpk_succ cd_136_53, xpk_succ cd_136_54, xpk_succ cd_136_55, xpk_succ cd_136_56, xpk_succ cd_136_58, xpk_succ cd_136_59, xpk_succ cd_136_62, xpk_succ cd_136_63, xpk_succ cd_136_65, xpk_succ cd_136_67, xpk_succ cd_136_68, xpk_succ cd_136_71, xpk_succ cd_136_72, xpk_succ cd_136_73, xpk_succ cd_136_76, xpk_succ cd_136_79, xpk_succ cd_136_80, xpk_succ cd_136_81, xpk_succ cd_136_84, xpk_succ cd_136_85, xpk_succ cd_136_86, xpk_succ cd_136_87, xpk_succ cd_136_88, xpk_succ cd_136_90, xpk_succ cd_136_93, xpk_succ cd_136_94, xpk_succ cd_136_97, xpk_succ cd_136_100, xpk_succ cd_136_103, xpk_succ cd_136_104, xpk_succ cd_136_107, Zc_k, (K_0 hJ), (K_1 hJ), (K_2 hJ), (K_5 hJ), (K_6 hJ), (K_9 hJ), (K_10 hJ), (K_21 hJ), (K_58 hJ), (Zp_0_0 hJ), (Zp_0_2 hJ), (Zp_0_3 hJ), (Zp_0_4 hJ), (Zp_1_0 hJ), (Zp_1_4 hJ), (Zp_1_6 hJ), (Zp_1_13 hJ), (Zp_1_14 hJ), e1, e2, e3]
    · have e2 : ∀ Q : Option AV → AH → Prop, XC (d + 7) 177 [vI n, vI 1, vI 40] (Zc h T1 T2 W f rw_ s) Q = Q (some (vI 0)) (Zc h T1 T2 W f rw_ s) := fun Q => by rw [e2 Q, if_neg z2]
      refine Or.inr ⟨fun w => z2 w.2.1, fun Q => XC_eq (Nat.le_of_ble_eq_true rfl) ?_ Q⟩
      show XP (d + 7) 136 0 [some (vR 0), some (vI v), some (vI n), none, none, none] [] (Zc h T1 T2 W f rw_ s) _
      refine xpk_sound (stops := []) (n := 60) ?_
      simp only [sk_0, sk_1, sk_2, sk_3, sk_4, sk_5, sk_6, sk_7, sk_8, sk_iadd, sk_isub, sk_imul, sk_iand, sk_ior, sk_ixor, sk_ishl, sk_ishr, sk_iushr, sk_idiv, sk_irem, sk_ineg, sk_ladd, sk_lsub, sk_lmul, sk_land, sk_lor, sk_ldiv, sk_lrem, sk_lneg, sk_lshl, sk_lshr, sk_i2l, sk_l2i, sk_lcmp, sk_dupI, sk_dupR, sk_dup2L, sk_dup2I, sk_popI, sk_ifeq, sk_ifne, sk_iflt, sk_ifge, sk_ifgt, sk_ifle, sk_iceq, sk_icne, sk_iclt, sk_icge, sk_icgt, sk_icle, sk_goto, sk_getf, sk_putf, sk_gets, sk_iald, sk_lald, sk_bald, sk_aald, sk_iast, sk_last, sk_bast, sk_aast, sk_alen, sk_newa, sk_newt, sk_new, sk_cs1, sk_cs2, sk_cs3, sk_cs4, sk_cs5, sk_cs6, sk_cv1, sk_cv2, sk_cv3, sk_cv4, sk_cv5, sk_cv6, sk_ci1, sk_ci2, sk_ci3, sk_ret0, sk_retI, sk_retL, sk_retR, sk_sw, sk_oin, sk_max, sk_min, sk_abs, lI_0, lI_s, lL_0, lL_s, lR_0, lR_s, vIo_e, vLo_e, vOo_e, stW_I, stW_L, stW_R, stW_0, stW_z, okSt_0, okSt_s, hV_eq, hK_eq, okF_0, okF_1, okF_3, is01_0, is01_1, is01_i, Int.toNat_natCast, Int.reduceEq, Int.reduceLE, Int.reduceLT, Int.reduceNeg, Nat.reduceLT, not_true_eq_false, not_false_eq_true, reduceIte, Option.toList, List.cons_append, List.nil_append, List.set_cons_zero, List.set_cons_succ, List.not_mem_nil, List.mem_cons, if_false, if_true, ite_true, ite_false, and_self, and_true, true_and, Nat.reduceAdd, Nat.reduceLeDiff, Nat.reduceEqDiff, Nat.zero_add, Nat.le_refl, Nat.zero_le, or_false, false_or, Int.reduceToNat, or_true, true_or, eq_self, and_false, false_and, inR_d, nc_4, nc_5, nc_6, nc_7, nc_8, nc_16, nc_18, nc_20, nc_24, nc_32, nc_40, nc_64, nc_104, nc_120, nc_160, nc_256, nc_300, nc_330, nc_390, nc_1200, nc_1260, nc_3012, nc_9834, okSt_1i, okSt_1r, okSt_1n, List.length_cons, List.length_nil, xpk_succ cd_136_0, xpk_succ cd_136_1, xpk_succ cd_136_2, xpk_succ cd_136_5, xpk_succ cd_136_8, xpk_succ cd_136_11, xpk_succ cd_136_12, xpk_succ cd_136_13, xpk_succ cd_136_15, xpk_succ cd_136_18, xpk_succ cd_136_21, xpk_succ cd_136_22, xpk_succ cd_136_23, xpk_succ cd_136_26, xpk_succ cd_136_29, xpk_succ cd_136_30, xpk_succ cd_136_31, xpk_succ cd_136_32, xpk_succ cd_136_35, xpk_succ cd_136_38, xpk_succ cd_136_39, xpk_succ cd_136_42, xpk_succ cd_136_45, xpk_succ cd_136_46, xpk_succ cd_136_47, xpk_succ cd_136_50, xpk_succ cd_136_52, xpk_succ cd_136_53, xpk_succ cd_136_54, xpk_succ cd_136_55, xpk_succ cd_136_56, xpk_succ cd_136_58, xpk_succ cd_136_59, xpk_succ cd_136_62, xpk_succ cd_136_63, xpk_succ cd_136_65, xpk_succ cd_136_67, xpk_succ cd_136_68, xpk_succ cd_136_71, xpk_succ cd_136_72, xpk_succ cd_136_73, xpk_succ cd_136_76, xpk_succ cd_136_79, xpk_succ cd_136_80, xpk_succ cd_136_81, xpk_succ cd_136_84, xpk_succ cd_136_85, xpk_succ cd_136_86, xpk_succ cd_136_87, xpk_succ cd_136_88, xpk_succ cd_136_90, xpk_succ cd_136_93, xpk_succ cd_136_94, xpk_succ cd_136_97, xpk_succ cd_136_100, xpk_succ cd_136_103, xpk_succ cd_136_104, xpk_succ cd_136_107, Zc_k, (K_0 hJ), (K_1 hJ), (K_2 hJ), (K_5 hJ), (K_6 hJ), (K_9 hJ), (K_10 hJ), (K_21 hJ), (K_58 hJ), (Zp_0_0 hJ), (Zp_0_2 hJ), (Zp_0_3 hJ), (Zp_0_4 hJ), (Zp_1_0 hJ), (Zp_1_4 hJ), (Zp_1_6 hJ), (Zp_1_13 hJ), (Zp_1_14 hJ), e1, e2]
  · have e1 : ∀ Q : Option AV → AH → Prop, XC (d + 7) 177 [vI v, vI 0, vI 9999] (Zc h T1 T2 W f rw_ s) Q = Q (some (vI 0)) (Zc h T1 T2 W f rw_ s) := fun Q => by rw [e1 Q, if_neg z1]
    refine Or.inr ⟨fun w => z1 w.1, fun Q => XC_eq (Nat.le_of_ble_eq_true rfl) ?_ Q⟩
    show XP (d + 7) 136 0 [some (vR 0), some (vI v), some (vI n), none, none, none] [] (Zc h T1 T2 W f rw_ s) _
    refine xpk_sound (stops := []) (n := 60) ?_
    simp only [sk_0, sk_1, sk_2, sk_3, sk_4, sk_5, sk_6, sk_7, sk_8, sk_iadd, sk_isub, sk_imul, sk_iand, sk_ior, sk_ixor, sk_ishl, sk_ishr, sk_iushr, sk_idiv, sk_irem, sk_ineg, sk_ladd, sk_lsub, sk_lmul, sk_land, sk_lor, sk_ldiv, sk_lrem, sk_lneg, sk_lshl, sk_lshr, sk_i2l, sk_l2i, sk_lcmp, sk_dupI, sk_dupR, sk_dup2L, sk_dup2I, sk_popI, sk_ifeq, sk_ifne, sk_iflt, sk_ifge, sk_ifgt, sk_ifle, sk_iceq, sk_icne, sk_iclt, sk_icge, sk_icgt, sk_icle, sk_goto, sk_getf, sk_putf, sk_gets, sk_iald, sk_lald, sk_bald, sk_aald, sk_iast, sk_last, sk_bast, sk_aast, sk_alen, sk_newa, sk_newt, sk_new, sk_cs1, sk_cs2, sk_cs3, sk_cs4, sk_cs5, sk_cs6, sk_cv1, sk_cv2, sk_cv3, sk_cv4, sk_cv5, sk_cv6, sk_ci1, sk_ci2, sk_ci3, sk_ret0, sk_retI, sk_retL, sk_retR, sk_sw, sk_oin, sk_max, sk_min, sk_abs, lI_0, lI_s, lL_0, lL_s, lR_0, lR_s, vIo_e, vLo_e, vOo_e, stW_I, stW_L, stW_R, stW_0, stW_z, okSt_0, okSt_s, hV_eq, hK_eq, okF_0, okF_1, okF_3, is01_0, is01_1, is01_i, Int.toNat_natCast, Int.reduceEq, Int.reduceLE, Int.reduceLT, Int.reduceNeg, Nat.reduceLT, not_true_eq_false, not_false_eq_true, reduceIte, Option.toList, List.cons_append, List.nil_append, List.set_cons_zero, List.set_cons_succ, List.not_mem_nil, List.mem_cons, if_false, if_true, ite_true, ite_false, and_self, and_true, true_and, Nat.reduceAdd, Nat.reduceLeDiff, Nat.reduceEqDiff, Nat.zero_add, Nat.le_refl, Nat.zero_le, or_false, false_or, Int.reduceToNat, or_true, true_or, eq_self, and_false, false_and, inR_d, nc_4, nc_5, nc_6, nc_7, nc_8, nc_16, nc_18, nc_20, nc_24, nc_32, nc_40, nc_64, nc_104, nc_120, nc_160, nc_256, nc_300, nc_330, nc_390, nc_1200, nc_1260, nc_3012, nc_9834, okSt_1i, okSt_1r, okSt_1n, List.length_cons, List.length_nil, xpk_succ cd_136_0, xpk_succ cd_136_1, xpk_succ cd_136_2, xpk_succ cd_136_5, xpk_succ cd_136_8, xpk_succ cd_136_11, xpk_succ cd_136_12, xpk_succ cd_136_13, xpk_succ cd_136_15, xpk_succ cd_136_18, xpk_succ cd_136_21, xpk_succ cd_136_22, xpk_succ cd_136_23, xpk_succ cd_136_26, xpk_succ cd_136_29, xpk_succ cd_136_30, xpk_succ cd_136_31, xpk_succ cd_136_32, xpk_succ cd_136_35, xpk_succ cd_136_38, xpk_succ cd_136_39, xpk_succ cd_136_42, xpk_succ cd_136_45, xpk_succ cd_136_46, xpk_succ cd_136_47, xpk_succ cd_136_50, xpk_succ cd_136_52, xpk_succ cd_136_53, xpk_succ cd_136_54, xpk_succ cd_136_55, xpk_succ cd_136_56, xpk_succ cd_136_58, xpk_succ cd_136_59, xpk_succ cd_136_62, xpk_succ cd_136_63, xpk_succ cd_136_65, xpk_succ cd_136_67, xpk_succ cd_136_68, xpk_succ cd_136_71, xpk_succ cd_136_72, xpk_succ cd_136_73, xpk_succ cd_136_76, xpk_succ cd_136_79, xpk_succ cd_136_80, xpk_succ cd_136_81, xpk_succ cd_136_84, xpk_succ cd_136_85, xpk_succ cd_136_86, xpk_succ cd_136_87, xpk_succ cd_136_88, xpk_succ cd_136_90, xpk_succ cd_136_93, xpk_succ cd_136_94, xpk_succ cd_136_97, xpk_succ cd_136_100, xpk_succ cd_136_103, xpk_succ cd_136_104, xpk_succ cd_136_107, Zc_k, (K_0 hJ), (K_1 hJ), (K_2 hJ), (K_5 hJ), (K_6 hJ), (K_9 hJ), (K_10 hJ), (K_21 hJ), (K_58 hJ), (Zp_0_0 hJ), (Zp_0_2 hJ), (Zp_0_3 hJ), (Zp_0_4 hJ), (Zp_1_0 hJ), (Zp_1_4 hJ), (Zp_1_6 hJ), (Zp_1_13 hJ), (Zp_1_14 hJ), e1]
/-! the reference -/
theorem HKO_o {f f' : Nat → Int} {n : Nat} (h : HKO f n) (h1 : HKs f') (e9 : f' 9 = f 9) (e11 : f' 11 = f 11) (e12 : f' 12 = f 12) (e13 : f' 13 = f 13) : HKO f' n := by
  obtain ⟨_, h2, h3, h4, h5, h6⟩ := h
  refine ⟨h1, ?_, ?_, ?_, ?_, ?_⟩
  · rw [e9]; exact h2
  · rw [e11]; exact h3
  · rw [e12]; exact h4
  · rw [e12, e13]; exact h5
  · rw [e11, e12]; exact h6
theorem WR_x {W : Nat → Nat → Int} {f rw_ am : Nat → Int} {m c n : Nat} {x : Int} (h : WRs W f rw_ am m c n) (hx : 0 ≤ x ∧ x ≤ 30252) : WRs W (upF f 10 x) rw_ (upF am 2 x) m c n := by
  obtain ⟨n1, n3, n4, n5⟩ := h.2.1
  refine WR_upd h (HKO_o h.1 (HKs_x h.1.1 hx) (upF_ne (by decide)) (upF_ne (by decide)) (upF_ne (by decide)) (upF_ne (by decide))) ⟨AMf_x n1, ?_, ?_, ?_⟩ (upF_ne (by decide)) (upF_ne (by decide)) (upF_ne (by decide)) (fun j hj _ => upF_ne hj)
  · rw [upF_ne (by decide), upF_ne (by decide)]; exact n3
  · rw [upF_ne (by decide), upF_ne (by decide)]; exact n4
  · rw [upF_ne (by decide)]; exact n5
theorem WR_s {W : Nat → Nat → Int} {f rw_ am : Nat → Int} {m c n : Nat} (h : WRs W f rw_ am m c n) : WRs W (sf1 f) rw_ (upF (upF am 14 (am 2 % 10)) 2 (rnX (am 2))) m c n := by
  obtain ⟨⟨n1, n2⟩, n3, n4, n5⟩ := h.2.1
  obtain ⟨e7, e10, e⟩ := sf1_v (f := f)
  refine WR_upd h (HKO_o h.1 (sf1_k h.1.1) (e 9 (by decide) (by decide)) (e 11 (by decide) (by decide)) (e 12 (by decide) (by decide)) (e 13 (by decide) (by decide))) ⟨⟨fun i h1 h2 => ?_, ?_⟩, ?_, ?_, ?_⟩ (e 9 (by decide) (by decide)) (e 12 (by decide) (by decide)) (e 13 (by decide) (by decide)) (fun j hj hj2 => by rw [upF_ne hj, upF_ne (by omega)])
  · rw [upF_ne (by omega)]
    by_cases z : i = 7
    · subst z; rw [e7, n2.symm]; exact upF_at
    · rw [upF_ne (by omega), e i z (by omega)]; exact n1 i h1 h2
  · rw [upF_at, e10, n2]
  · rw [upF_ne (by decide), upF_ne (by decide), e 11 (by decide) (by decide)]; exact n3
  · rw [upF_ne (by decide), upF_ne (by decide), e 13 (by decide) (by decide)]; exact n4
  · rw [e 14 (by decide) (by decide)]; exact n5
def smR (h : AH) (cs : List cCl) (am : Nat → Int) (W : Nat → Nat → Int) (S : STM) (m c n : Nat) (r : Option AV) (g : AH) : Prop := r = some (vI (S.1 1)) ∧ ∃ (am' : Nat → Int) (s' : SCM), g = Mc h am' s' ∧ WRs W S.1 S.2.1 am' m c n ∧ FRM am am'
set_option maxHeartbeats 4000000 in
theorem sr_l {d m c n : Nat} {h : AH} {W : Nat → Nat → Int} {J : Int} {cs : List cCl} (hR : RMH h J cs) (hc1 : 1 ≤ c) {v : Int} {cn : Nat} (hcn : cn ≤ 40) : ∀ (e k : Nat) (S : STM) (am : Nat → Int) (s : SCM), k + e = cn → am 4 = J → WRs W S.1 S.2.1 am m c n → S.1 9 = (S.2.2 : Int) → S.2.2 + e ≤ 9999 → S.1 9 + (e : Int) ≤ rwF W m 0 9 + 40 → XP (d + 6) 266 56 [some (vR 76), some (vI v), some (vI (cn : Int)), some (vI (k : Int))] [] (Mc h am s) (smR h cs am W (smS cs e S) m c n) := by
  have hJ := hR.1
  have kk : ∀ {am : Nat → Int} {s : SCM}, hV (Mc h am s) 76 0 = vR 77 := Mc_0 hJ
  intro e
  induction e with
  | zero =>
    intro k S am s hk hj hw h9 ht hsl
    obtain rfl : k = cn := hk
    have c2 : (k : Int) ≤ (k : Int) := Int.le_refl _
    have v8 : hV (Mc h am s) 77 8 = vI (S.1 1) := (Mc_v (by decide)).trans (congrArg vI (hw.2.1.1.1 1 (by decide) (by decide)))
    have y : smR h cs am W (smS cs 0 S) m c n (some (vI (S.1 1))) (Mc h am s) := ⟨rfl, am, s, rfl, hw, FRM_r am⟩
    refine xpk_sound (stops := []) (n := 12) ?_
    simp only [sk_0, sk_1, sk_2, sk_3, sk_4, sk_5, sk_6, sk_7, sk_8, sk_iadd, sk_isub, sk_imul, sk_iand, sk_ior, sk_ixor, sk_ishl, sk_ishr, sk_iushr, sk_idiv, sk_irem, sk_ineg, sk_ladd, sk_lsub, sk_lmul, sk_land, sk_lor, sk_ldiv, sk_lrem, sk_lneg, sk_lshl, sk_lshr, sk_i2l, sk_l2i, sk_lcmp, sk_dupI, sk_dupR, sk_dup2L, sk_dup2I, sk_popI, sk_ifeq, sk_ifne, sk_iflt, sk_ifge, sk_ifgt, sk_ifle, sk_iceq, sk_icne, sk_iclt, sk_icge, sk_icgt, sk_icle, sk_goto, sk_getf, sk_putf, sk_gets, sk_iald, sk_lald, sk_bald, sk_aald, sk_iast, sk_last, sk_bast, sk_aast, sk_alen, sk_newa, sk_newt, sk_new, sk_cs1, sk_cs2, sk_cs3, sk_cs4, sk_cs5, sk_cs6, sk_cv1, sk_cv2, sk_cv3, sk_cv4, sk_cv5, sk_cv6, sk_ci1, sk_ci2, sk_ci3, sk_ret0, sk_retI, sk_retL, sk_retR, sk_sw, sk_oin, sk_max, sk_min, sk_abs, lI_0, lI_s, lL_0, lL_s, lR_0, lR_s, vIo_e, vLo_e, vOo_e, stW_I, stW_L, stW_R, stW_0, stW_z, okSt_0, okSt_s, hV_eq, hK_eq, okF_0, okF_1, okF_3, is01_0, is01_1, is01_i, Int.toNat_natCast, Int.reduceEq, Int.reduceLE, Int.reduceLT, Int.reduceNeg, Nat.reduceLT, not_true_eq_false, not_false_eq_true, reduceIte, Option.toList, List.cons_append, List.nil_append, List.set_cons_zero, List.set_cons_succ, List.not_mem_nil, List.mem_cons, if_false, if_true, ite_true, ite_false, and_self, and_true, true_and, Nat.reduceAdd, Nat.reduceLeDiff, Nat.reduceEqDiff, Nat.zero_add, Nat.le_refl, Nat.zero_le, or_false, false_or, Int.reduceToNat, or_true, true_or, eq_self, and_false, false_and, inR_d, nc_4, nc_5, nc_6, nc_7, nc_8, nc_16, nc_18, nc_20, nc_24, nc_32, nc_40, nc_64, nc_104, nc_120, nc_160, nc_256, nc_300, nc_330, nc_390, nc_1200, nc_1260, nc_3012, nc_9834, okSt_1i, okSt_1r, okSt_1n, List.length_cons, List.length_nil, xpk_succ cd_266_56, xpk_succ cd_266_57, xpk_succ cd_266_58, xpk_succ cd_266_61, xpk_succ cd_266_62, xpk_succ cd_266_65, xpk_succ cd_266_67, xpk_succ cd_266_68, xpk_succ cd_266_71, xpk_succ cd_266_72, xpk_succ cd_266_73, xpk_succ cd_266_75, xpk_succ cd_266_76, xpk_succ cd_266_77, xpk_succ cd_266_78, xpk_succ cd_266_81, xpk_succ cd_266_82, xpk_succ cd_266_83, xpk_succ cd_266_86, xpk_succ cd_266_87, xpk_succ cd_266_88, xpk_succ cd_266_89, xpk_succ cd_266_90, xpk_succ cd_266_91, xpk_succ cd_266_92, xpk_succ cd_266_95, xpk_succ cd_266_96, xpk_succ cd_266_99, xpk_succ cd_266_102, xpk_succ cd_266_105, xpk_succ cd_266_106, xpk_succ cd_266_109, xpk_succ cd_266_111, xpk_succ cd_266_112, Mc_k, (K_76 (h := h) hJ), (K_77 (h := h) hJ), (Mc_0 hJ), (eq_true c2), v8]
    exact y
  | succ e ih =>
    intro k S am s hk hj hw h9 ht hsl
    obtain ⟨f, rw_, t⟩ := S
    have hw : WRs W f rw_ am m c n := hw
    have h9 : f 9 = (t : Int) := h9
    have ht : t + (e + 1) ≤ 9999 := ht
    have hsl : f 9 + ((e + 1 : Nat) : Int) ≤ rwF W m 0 9 + 40 := hsl
    have a2 : am 2 = f 10 := hw.2.1.1.2
    have hx := hw.1.1.2.1
    have c1 : ¬ ((cn : Int) ≤ (k : Int)) := by omega
    have w0 := WR_s hw
    have v2 : hV (Mc h am s) 77 2 = vI (am 2) := Mc_v (by decide)
    have s14 : hSet (Mc h am s) 77 14 (vI (am 2 % 10)) = Mc h (upF am 14 (am 2 % 10)) s := Mc_s (by decide)
    have tm0 : Int.tmod (am 2) 10 = am 2 % 10 := Int.tmod_eq_emod_of_nonneg (by omega)
    have en : ∀ Q : Option AV → AH → Prop, XC (d + 6) 249 [vR 76] (Mc h (upF am 14 (am 2 % 10)) s) Q = Q none (Mc h (upF (upF am 14 (am 2 % 10)) 2 (rnX (am 2))) s) := fun Q => by
      have q := E_anM (d := d + 5) (h := h) (am := upF am 14 (am 2 % 10)) (nm := s.1) (af := s.2.1) (ae := s.2.2.1) (vf := s.2.2.2.1) (tf := s.2.2.2.2) (PKM_J hJ) (by rw [upF_ne (by decide), a2]; exact hx) Q
      rw [upF_ne (show (2 : Nat) ≠ 14 by decide)] at q
      exact q
    have v2b : hV (Mc h (upF (upF am 14 (am 2 % 10)) 2 (rnX (am 2))) s) 77 2 = vI (rnX (f 10)) := (Mc_v (by decide)).trans (congrArg vI (by rw [upF_at, a2]))
    have rx := rnX_r hx.1
    have tm : Int.tmod (rnX (f 10)) 3 = rnX (f 10) % 3 := Int.tmod_eq_emod_of_nonneg rx.1
    have w2 : WE (rnX (f 10) % 3 - 1) (scm f) := by unfold scm WE w32; omega
    have e9 : sf1 f 9 = (t : Int) := (sf1_v.2.2 9 (by decide) (by decide)).trans h9
    obtain ⟨am2, s2, ⟨w3, f3⟩, ep⟩ := E_psW (s := s) (d := d) hR (show upF (upF am 14 (am 2 % 10)) 2 (rnX (am 2)) 4 = J by rw [upF_ne (by decide), upF_ne (by decide)]; exact hj) w0 hc1 (by rw [e9]; omega) e9 (by omega) (scm_r f)
    have hx2 := w3.1.1.2.1
    have a22 : am2 2 = TNf cs (sf1 f) rw_ 1260 t (scm f) 10 := w3.2.1.1.2
    have w4 := WR_x (x := rnX (TNf cs (sf1 f) rw_ 1260 t (scm f) 10)) w3 (rnX_r hx2.1)
    have er : ∀ Q : Option AV → AH → Prop, XC (d + 6) 249 [vR 76] (Mc h am2 s2) Q = Q none (Mc h (upF am2 2 (rnX (TNf cs (sf1 f) rw_ 1260 t (scm f) 10))) s2) := fun Q => by
      have q := E_anM (d := d + 5) (h := h) (am := am2) (nm := s2.1) (af := s2.2.1) (ae := s2.2.2.1) (vf := s2.2.2.2.1) (tf := s2.2.2.2.2) (PKM_J hJ) (by rw [a22]; exact hx2) Q
      rw [a22] at q
      exact q
    have fr : FRM am (upF am2 2 (rnX (TNf cs (sf1 f) rw_ 1260 t (scm f) 10))) := FRM_u (FRM_t (FRM_u (FRM_u (FRM_r am) (by omega)) (by omega)) f3) (by omega)
    have t1 := (sm1_k (cs := cs) (S := (f, rw_, t)) hw.1.1 h9 (by show t < 9999; omega)).2
    have y := ih (k + 1) (sm1 cs (f, rw_, t)) _ s2 (by omega) ((fr 4 (by omega)).trans hj) w4 t1 (by show t + 1 + e ≤ 9999; omega) (by rw [t1]; show ((t + 1 : Nat) : Int) + (e : Int) ≤ rwF W m 0 9 + 40; omega)
    have y2 : XP (d + 6) 266 56 [some (vR 76), some (vI v), some (vI (cn : Int)), some (vI ((k + 1 : Nat) : Int))] [] (Mc h (upF am2 2 (rnX (TNf cs (sf1 f) rw_ 1260 t (scm f) 10))) s2) (smR h cs am W (smS cs (e + 1) (f, rw_, t)) m c n) := by
      refine XP_mono y (fun r g hq => ?_)
      obtain ⟨q1, a3, s3, q2, q3, q4⟩ := hq
      exact ⟨q1, a3, s3, q2, q3, FRM_t fr q4⟩
    have w1 : WE ((k : Int) + 1) ((k + 1 : Nat) : Int) := by unfold WE w32; omega
    refine xpk_sound (stops := [56]) (n := 60) ?_
    simp only [sk_0, sk_1, sk_2, sk_3, sk_4, sk_5, sk_6, sk_7, sk_8, sk_iadd, sk_isub, sk_imul, sk_iand, sk_ior, sk_ixor, sk_ishl, sk_ishr, sk_iushr, sk_idiv, sk_irem, sk_ineg, sk_ladd, sk_lsub, sk_lmul, sk_land, sk_lor, sk_ldiv, sk_lrem, sk_lneg, sk_lshl, sk_lshr, sk_i2l, sk_l2i, sk_lcmp, sk_dupI, sk_dupR, sk_dup2L, sk_dup2I, sk_popI, sk_ifeq, sk_ifne, sk_iflt, sk_ifge, sk_ifgt, sk_ifle, sk_iceq, sk_icne, sk_iclt, sk_icge, sk_icgt, sk_icle, sk_goto, sk_getf, sk_putf, sk_gets, sk_iald, sk_lald, sk_bald, sk_aald, sk_iast, sk_last, sk_bast, sk_aast, sk_alen, sk_newa, sk_newt, sk_new, sk_cs1, sk_cs2, sk_cs3, sk_cs4, sk_cs5, sk_cs6, sk_cv1, sk_cv2, sk_cv3, sk_cv4, sk_cv5, sk_cv6, sk_ci1, sk_ci2, sk_ci3, sk_ret0, sk_retI, sk_retL, sk_retR, sk_sw, sk_oin, sk_max, sk_min, sk_abs, lI_0, lI_s, lL_0, lL_s, lR_0, lR_s, vIo_e, vLo_e, vOo_e, stW_I, stW_L, stW_R, stW_0, stW_z, okSt_0, okSt_s, hV_eq, hK_eq, okF_0, okF_1, okF_3, is01_0, is01_1, is01_i, Int.toNat_natCast, Int.reduceEq, Int.reduceLE, Int.reduceLT, Int.reduceNeg, Nat.reduceLT, not_true_eq_false, not_false_eq_true, reduceIte, Option.toList, List.cons_append, List.nil_append, List.set_cons_zero, List.set_cons_succ, List.not_mem_nil, List.mem_cons, if_false, if_true, ite_true, ite_false, and_self, and_true, true_and, Nat.reduceAdd, Nat.reduceLeDiff, Nat.reduceEqDiff, Nat.zero_add, Nat.le_refl, Nat.zero_le, or_false, false_or, Int.reduceToNat, or_true, true_or, eq_self, and_false, false_and, inR_d, nc_4, nc_5, nc_6, nc_7, nc_8, nc_16, nc_18, nc_20, nc_24, nc_32, nc_40, nc_64, nc_104, nc_120, nc_160, nc_256, nc_300, nc_330, nc_390, nc_1200, nc_1260, nc_3012, nc_9834, okSt_1i, okSt_1r, okSt_1n, List.length_cons, List.length_nil, xpk_succ cd_266_56, xpk_succ cd_266_57, xpk_succ cd_266_58, xpk_succ cd_266_61, xpk_succ cd_266_62, xpk_succ cd_266_65, xpk_succ cd_266_67, xpk_succ cd_266_68, xpk_succ cd_266_71, xpk_succ cd_266_72, xpk_succ cd_266_73, xpk_succ cd_266_75, xpk_succ cd_266_76, xpk_succ cd_266_77, xpk_succ cd_266_78, xpk_succ cd_266_81, xpk_succ cd_266_82, xpk_succ cd_266_83, xpk_succ cd_266_86, xpk_succ cd_266_87, xpk_succ cd_266_88, xpk_succ cd_266_89, xpk_succ cd_266_90, xpk_succ cd_266_91, xpk_succ cd_266_92, xpk_succ cd_266_95, xpk_succ cd_266_96, xpk_succ cd_266_99, xpk_succ cd_266_102, xpk_succ cd_266_105, xpk_succ cd_266_106, xpk_succ cd_266_109, xpk_succ cd_266_111, xpk_succ cd_266_112, Mc_k, (K_76 (h := h) hJ), (K_77 (h := h) hJ), (Mc_0 hJ), c1, v2, tm0, s14, en, v2b, tm, (WE_e w2), ep, er, (WE_e w1)]
    exact y2
set_option maxHeartbeats 4000000 in
theorem E_stM {h : AH} {am : Nat → Int} {s : SCM} {W : Nat → Nat → Int} {f rw_ : Nat → Int} {m c n : Nat} {d t : Nat} {J : Int} {cs : List cCl} (hR : RMH h J cs) (hj : am 4 = J) (hw : WRs W f rw_ am m c n) (h9 : f 9 = (t : Int)) {v x : Int} (hx : -2147483648 ≤ x ∧ x ≤ 2147483647) : ((0 ≤ v ∧ v ≤ 9999) ∧ (1 ≤ x ∧ x ≤ 40) ∧ (t : Int) + x ≤ 9999 ∧ ∃ (am' : Nat → Int) (s' : SCM), (WRs (ksW W f m) (smS cs x.toNat (upF f 10 (v * 3 + 59), rw_, t)).1 (smS cs x.toNat (upF f 10 (v * 3 + 59), rw_, t)).2.1 am' ((m + 1) % 30) (min 30 (c + 1)) n ∧ FRM am am') ∧ ∀ Q : Option AV → AH → Prop, XC (d + 7) 266 [vR 76, vI v, vI x] (Mc h am s) Q = Q (some (vI ((smS cs x.toNat (upF f 10 (v * 3 + 59), rw_, t)).1 1))) (Mc h am' s')) ∨ (¬ ((0 ≤ v ∧ v ≤ 9999) ∧ (1 ≤ x ∧ x ≤ 40) ∧ (t : Int) + x ≤ 9999) ∧ ∀ Q : Option AV → AH → Prop, XC (d + 7) 266 [vR 76, vI v, vI x] (Mc h am s) Q = Q (some (vI (-1))) (Mc h am s)) := by
  have hJ := hR.1
  have kk : ∀ {am : Nat → Int} {s : SCM}, hV (Mc h am s) 76 0 = vR 77 := Mc_0 hJ
  have e1 := fun Q => X_im (d := d + 5) (x := v) (u := 0) (v := 9999) (g := Mc h am s) Q
  have e2 := fun Q => X_im (d := d + 5) (x := x) (u := 1) (v := 40) (g := Mc h am s) Q
  have v16 : hV (Mc h am s) 77 16 = vI (t : Int) := (Mc_v (by decide)).trans (congrArg vI ((hw.2.1.1.1 9 (by decide) (by decide)).trans h9))
  by_cases z1 : 0 ≤ v ∧ v ≤ 9999
  · rw [b01_t z1] at e1
    by_cases z2 : 1 ≤ x ∧ x ≤ 40
    · rw [b01_t z2] at e2
      have t9 : t ≤ 9999 := by have := hw.1.2.1; omega
      have w3 : WE ((t : Int) + x) ((t : Int) + x) := by unfold WE w32; omega
      by_cases z3 : (t : Int) + x ≤ 9999
      · obtain ⟨am1, ⟨w1, k1, f1, _⟩, ek⟩ := E_kW (s := s) (d := d + 4) hJ hw
        have w2 := WR_x (x := v * 3 + 59) w1 (by omega)
        have fr : FRM am (upF am1 2 (v * 3 + 59)) := FRM_u f1 (by omega)
        have y := sr_l (d := d) hR (show 1 ≤ min 30 (c + 1) by omega) (v := v) (cn := x.toNat) (by omega) x.toNat 0 (upF f 10 (v * 3 + 59), rw_, t) (upF am1 2 (v * 3 + 59)) s (Nat.zero_add _) ((fr 4 (by omega)).trans hj) w2 (show upF f 10 (v * 3 + 59) 9 = (t : Int) by rw [upF_ne (by decide)]; exact h9) (by show t + x.toNat ≤ 9999; omega) (by
          show upF f 10 (v * 3 + 59) 9 + ((x.toNat : Nat) : Int) ≤ rwF (ksW W f m) ((m + 1) % 30) 0 9 + 40
          rw [k1 9 (by decide) (by decide), upF_ne (by decide)]; omega)
        rw [show ((x.toNat : Nat) : Int) = x by omega] at y
        have q1 : WE (v * 3) (v * 3) := by unfold WE w32; omega
        have q2 : WE (v * 3 + 59) (v * 3 + 59) := by unfold WE w32; omega
        have y0 : XC (d + 7) 266 [vR 76, vI v, vI x] (Mc h am s) (smR h cs (upF am1 2 (v * 3 + 59)) (ksW W f m) (smS cs x.toNat (upF f 10 (v * 3 + 59), rw_, t)) ((m + 1) % 30) (min 30 (c + 1)) n) := by
          refine XC_of (Nat.le_of_ble_eq_true rfl) ?_
          show XP (d + 6) 266 0 [some (vR 76), some (vI v), some (vI x), none] [] (Mc h am s) _
          refine xpk_sound (stops := [56]) (n := 60) ?_
          simp only [sk_0, sk_1, sk_2, sk_3, sk_4, sk_5, sk_6, sk_7, sk_8, sk_iadd, sk_isub, sk_imul, sk_iand, sk_ior, sk_ixor, sk_ishl, sk_ishr, sk_iushr, sk_idiv, sk_irem, sk_ineg, sk_ladd, sk_lsub, sk_lmul, sk_land, sk_lor, sk_ldiv, sk_lrem, sk_lneg, sk_lshl, sk_lshr, sk_i2l, sk_l2i, sk_lcmp, sk_dupI, sk_dupR, sk_dup2L, sk_dup2I, sk_popI, sk_ifeq, sk_ifne, sk_iflt, sk_ifge, sk_ifgt, sk_ifle, sk_iceq, sk_icne, sk_iclt, sk_icge, sk_icgt, sk_icle, sk_goto, sk_getf, sk_putf, sk_gets, sk_iald, sk_lald, sk_bald, sk_aald, sk_iast, sk_last, sk_bast, sk_aast, sk_alen, sk_newa, sk_newt, sk_new, sk_cs1, sk_cs2, sk_cs3, sk_cs4, sk_cs5, sk_cs6, sk_cv1, sk_cv2, sk_cv3, sk_cv4, sk_cv5, sk_cv6, sk_ci1, sk_ci2, sk_ci3, sk_ret0, sk_retI, sk_retL, sk_retR, sk_sw, sk_oin, sk_max, sk_min, sk_abs, lI_0, lI_s, lL_0, lL_s, lR_0, lR_s, vIo_e, vLo_e, vOo_e, stW_I, stW_L, stW_R, stW_0, stW_z, okSt_0, okSt_s, hV_eq, hK_eq, okF_0, okF_1, okF_3, is01_0, is01_1, is01_i, Int.toNat_natCast, Int.reduceEq, Int.reduceLE, Int.reduceLT, Int.reduceNeg, Nat.reduceLT, not_true_eq_false, not_false_eq_true, reduceIte, Option.toList, List.cons_append, List.nil_append, List.set_cons_zero, List.set_cons_succ, List.not_mem_nil, List.mem_cons, if_false, if_true, ite_true, ite_false, and_self, and_true, true_and, Nat.reduceAdd, Nat.reduceLeDiff, Nat.reduceEqDiff, Nat.zero_add, Nat.le_refl, Nat.zero_le, or_false, false_or, Int.reduceToNat, or_true, true_or, eq_self, and_false, false_and, inR_d, nc_4, nc_5, nc_6, nc_7, nc_8, nc_16, nc_18, nc_20, nc_24, nc_32, nc_40, nc_64, nc_104, nc_120, nc_160, nc_256, nc_300, nc_330, nc_390, nc_1200, nc_1260, nc_3012, nc_9834, okSt_1i, okSt_1r, okSt_1n, List.length_cons, List.length_nil, xpk_succ cd_266_0, xpk_succ cd_266_1, xpk_succ cd_266_2, xpk_succ cd_266_5, xpk_succ cd_266_8, xpk_succ cd_266_11, xpk_succ cd_266_12, xpk_succ cd_266_13, xpk_succ cd_266_15, xpk_succ cd_266_18, xpk_succ cd_266_21, xpk_succ cd_266_22, xpk_succ cd_266_25, xpk_succ cd_266_27, xpk_succ cd_266_28, xpk_succ cd_266_29, xpk_succ cd_266_30, xpk_succ cd_266_33, xpk_succ cd_266_36, xpk_succ cd_266_37, xpk_succ cd_266_38, xpk_succ cd_266_39, xpk_succ cd_266_42, xpk_succ cd_266_43, xpk_succ cd_266_46, xpk_succ cd_266_47, xpk_succ cd_266_48, xpk_succ cd_266_49, xpk_succ cd_266_50, xpk_succ cd_266_52, xpk_succ cd_266_53, xpk_succ cd_266_54, xpk_succ cd_266_55, Mc_k, (K_76 (h := h) hJ), (K_77 (h := h) hJ), (Mc_0 hJ), e1, e2, v16, (WE_e w3), (eq_true z3), ek, (WE_e q1), (WE_e q2), (Mc_s (i := 2) (by decide))]
          exact y
        obtain ⟨r, g, ⟨hr1, am', s', hg, w4, f4⟩, e⟩ := XC_dt y0
        subst hr1 hg
        exact Or.inl ⟨z1, z2, z3, am', s', ⟨w4, FRM_t fr f4⟩, e⟩
      · refine Or.inr ⟨fun w => z3 w.2.2, fun Q => XC_eq (Nat.le_of_ble_eq_true rfl) ?_ Q⟩
        show XP (d + 6) 266 0 [some (vR 76), some (vI v), some (vI x), none] [] (Mc h am s) _
        refine xpk_sound (stops := []) (n := 60) ?_
        simp only [sk_0, sk_1, sk_2, sk_3, sk_4, sk_5, sk_6, sk_7, sk_8, sk_iadd, sk_isub, sk_imul, sk_iand, sk_ior, sk_ixor, sk_ishl, sk_ishr, sk_iushr, sk_idiv, sk_irem, sk_ineg, sk_ladd, sk_lsub, sk_lmul, sk_land, sk_lor, sk_ldiv, sk_lrem, sk_lneg, sk_lshl, sk_lshr, sk_i2l, sk_l2i, sk_lcmp, sk_dupI, sk_dupR, sk_dup2L, sk_dup2I, sk_popI, sk_ifeq, sk_ifne, sk_iflt, sk_ifge, sk_ifgt, sk_ifle, sk_iceq, sk_icne, sk_iclt, sk_icge, sk_icgt, sk_icle, sk_goto, sk_getf, sk_putf, sk_gets, sk_iald, sk_lald, sk_bald, sk_aald, sk_iast, sk_last, sk_bast, sk_aast, sk_alen, sk_newa, sk_newt, sk_new, sk_cs1, sk_cs2, sk_cs3, sk_cs4, sk_cs5, sk_cs6, sk_cv1, sk_cv2, sk_cv3, sk_cv4, sk_cv5, sk_cv6, sk_ci1, sk_ci2, sk_ci3, sk_ret0, sk_retI, sk_retL, sk_retR, sk_sw, sk_oin, sk_max, sk_min, sk_abs, lI_0, lI_s, lL_0, lL_s, lR_0, lR_s, vIo_e, vLo_e, vOo_e, stW_I, stW_L, stW_R, stW_0, stW_z, okSt_0, okSt_s, hV_eq, hK_eq, okF_0, okF_1, okF_3, is01_0, is01_1, is01_i, Int.toNat_natCast, Int.reduceEq, Int.reduceLE, Int.reduceLT, Int.reduceNeg, Nat.reduceLT, not_true_eq_false, not_false_eq_true, reduceIte, Option.toList, List.cons_append, List.nil_append, List.set_cons_zero, List.set_cons_succ, List.not_mem_nil, List.mem_cons, if_false, if_true, ite_true, ite_false, and_self, and_true, true_and, Nat.reduceAdd, Nat.reduceLeDiff, Nat.reduceEqDiff, Nat.zero_add, Nat.le_refl, Nat.zero_le, or_false, false_or, Int.reduceToNat, or_true, true_or, eq_self, and_false, false_and, inR_d, nc_4, nc_5, nc_6, nc_7, nc_8, nc_16, nc_18, nc_20, nc_24, nc_32, nc_40, nc_64, nc_104, nc_120, nc_160, nc_256, nc_300, nc_330, nc_390, nc_1200, nc_1260, nc_3012, nc_9834, okSt_1i, okSt_1r, okSt_1n, List.length_cons, List.length_nil, xpk_succ cd_266_0, xpk_succ cd_266_1, xpk_succ cd_266_2, xpk_succ cd_266_5, xpk_succ cd_266_8, xpk_succ cd_266_11, xpk_succ cd_266_12, xpk_succ cd_266_13, xpk_succ cd_266_15, xpk_succ cd_266_18, xpk_succ cd_266_21, xpk_succ cd_266_22, xpk_succ cd_266_25, xpk_succ cd_266_27, xpk_succ cd_266_28, xpk_succ cd_266_29, xpk_succ cd_266_30, xpk_succ cd_266_33, xpk_succ cd_266_36, xpk_succ cd_266_37, xpk_succ cd_266_38, xpk_succ cd_266_39, xpk_succ cd_266_42, xpk_succ cd_266_43, xpk_succ cd_266_46, xpk_succ cd_266_47, xpk_succ cd_266_48, xpk_succ cd_266_49, xpk_succ cd_266_50, xpk_succ cd_266_52, xpk_succ cd_266_53, xpk_succ cd_266_54, xpk_succ cd_266_55, xpk_succ cd_266_56, xpk_succ cd_266_57, xpk_succ cd_266_58, xpk_succ cd_266_61, xpk_succ cd_266_62, xpk_succ cd_266_65, xpk_succ cd_266_67, xpk_succ cd_266_68, xpk_succ cd_266_71, xpk_succ cd_266_72, xpk_succ cd_266_73, xpk_succ cd_266_75, xpk_succ cd_266_76, xpk_succ cd_266_77, xpk_succ cd_266_78, xpk_succ cd_266_81, xpk_succ cd_266_82, xpk_succ cd_266_83, xpk_succ cd_266_86, xpk_succ cd_266_87, xpk_succ cd_266_88, xpk_succ cd_266_89, xpk_succ cd_266_90, xpk_succ cd_266_91, xpk_succ cd_266_92, xpk_succ cd_266_95, xpk_succ cd_266_96, xpk_succ cd_266_99, xpk_succ cd_266_102, xpk_succ cd_266_105, xpk_succ cd_266_106, xpk_succ cd_266_109, xpk_succ cd_266_111, xpk_succ cd_266_112, Mc_k, (K_76 (h := h) hJ), (K_77 (h := h) hJ), (Mc_0 hJ), e1, e2, v16, (WE_e w3), z3]
    · rw [b01_f z2] at e2
      refine Or.inr ⟨fun w => z2 w.2.1, fun Q => XC_eq (Nat.le_of_ble_eq_true rfl) ?_ Q⟩
      show XP (d + 6) 266 0 [some (vR 76), some (vI v), some (vI x), none] [] (Mc h am s) _
      refine xpk_sound (stops := []) (n := 60) ?_
      simp only [sk_0, sk_1, sk_2, sk_3, sk_4, sk_5, sk_6, sk_7, sk_8, sk_iadd, sk_isub, sk_imul, sk_iand, sk_ior, sk_ixor, sk_ishl, sk_ishr, sk_iushr, sk_idiv, sk_irem, sk_ineg, sk_ladd, sk_lsub, sk_lmul, sk_land, sk_lor, sk_ldiv, sk_lrem, sk_lneg, sk_lshl, sk_lshr, sk_i2l, sk_l2i, sk_lcmp, sk_dupI, sk_dupR, sk_dup2L, sk_dup2I, sk_popI, sk_ifeq, sk_ifne, sk_iflt, sk_ifge, sk_ifgt, sk_ifle, sk_iceq, sk_icne, sk_iclt, sk_icge, sk_icgt, sk_icle, sk_goto, sk_getf, sk_putf, sk_gets, sk_iald, sk_lald, sk_bald, sk_aald, sk_iast, sk_last, sk_bast, sk_aast, sk_alen, sk_newa, sk_newt, sk_new, sk_cs1, sk_cs2, sk_cs3, sk_cs4, sk_cs5, sk_cs6, sk_cv1, sk_cv2, sk_cv3, sk_cv4, sk_cv5, sk_cv6, sk_ci1, sk_ci2, sk_ci3, sk_ret0, sk_retI, sk_retL, sk_retR, sk_sw, sk_oin, sk_max, sk_min, sk_abs, lI_0, lI_s, lL_0, lL_s, lR_0, lR_s, vIo_e, vLo_e, vOo_e, stW_I, stW_L, stW_R, stW_0, stW_z, okSt_0, okSt_s, hV_eq, hK_eq, okF_0, okF_1, okF_3, is01_0, is01_1, is01_i, Int.toNat_natCast, Int.reduceEq, Int.reduceLE, Int.reduceLT, Int.reduceNeg, Nat.reduceLT, not_true_eq_false, not_false_eq_true, reduceIte, Option.toList, List.cons_append, List.nil_append, List.set_cons_zero, List.set_cons_succ, List.not_mem_nil, List.mem_cons, if_false, if_true, ite_true, ite_false, and_self, and_true, true_and, Nat.reduceAdd, Nat.reduceLeDiff, Nat.reduceEqDiff, Nat.zero_add, Nat.le_refl, Nat.zero_le, or_false, false_or, Int.reduceToNat, or_true, true_or, eq_self, and_false, false_and, inR_d, nc_4, nc_5, nc_6, nc_7, nc_8, nc_16, nc_18, nc_20, nc_24, nc_32, nc_40, nc_64, nc_104, nc_120, nc_160, nc_256, nc_300, nc_330, nc_390, nc_1200, nc_1260, nc_3012, nc_9834, okSt_1i, okSt_1r, okSt_1n, List.length_cons, List.length_nil, xpk_succ cd_266_0, xpk_succ cd_266_1, xpk_succ cd_266_2, xpk_succ cd_266_5, xpk_succ cd_266_8, xpk_succ cd_266_11, xpk_succ cd_266_12, xpk_succ cd_266_13, xpk_succ cd_266_15, xpk_succ cd_266_18, xpk_succ cd_266_21, xpk_succ cd_266_22, xpk_succ cd_266_25, xpk_succ cd_266_27, xpk_succ cd_266_28, xpk_succ cd_266_29, xpk_succ cd_266_30, xpk_succ cd_266_33, xpk_succ cd_266_36, xpk_succ cd_266_37, xpk_succ cd_266_38, xpk_succ cd_266_39, xpk_succ cd_266_42, xpk_succ cd_266_43, xpk_succ cd_266_46, xpk_succ cd_266_47, xpk_succ cd_266_48, xpk_succ cd_266_49, xpk_succ cd_266_50, xpk_succ cd_266_52, xpk_succ cd_266_53, xpk_succ cd_266_54, xpk_succ cd_266_55, xpk_succ cd_266_56, xpk_succ cd_266_57, xpk_succ cd_266_58, xpk_succ cd_266_61, xpk_succ cd_266_62, xpk_succ cd_266_65, xpk_succ cd_266_67, xpk_succ cd_266_68, xpk_succ cd_266_71, xpk_succ cd_266_72, xpk_succ cd_266_73, xpk_succ cd_266_75, xpk_succ cd_266_76, xpk_succ cd_266_77, xpk_succ cd_266_78, xpk_succ cd_266_81, xpk_succ cd_266_82, xpk_succ cd_266_83, xpk_succ cd_266_86, xpk_succ cd_266_87, xpk_succ cd_266_88, xpk_succ cd_266_89, xpk_succ cd_266_90, xpk_succ cd_266_91, xpk_succ cd_266_92, xpk_succ cd_266_95, xpk_succ cd_266_96, xpk_succ cd_266_99, xpk_succ cd_266_102, xpk_succ cd_266_105, xpk_succ cd_266_106, xpk_succ cd_266_109, xpk_succ cd_266_111, xpk_succ cd_266_112, Mc_k, (K_76 (h := h) hJ), (K_77 (h := h) hJ), (Mc_0 hJ), e1, e2]
  · rw [b01_f z1] at e1
    refine Or.inr ⟨fun w => z1 w.1, fun Q => XC_eq (Nat.le_of_ble_eq_true rfl) ?_ Q⟩
    show XP (d + 6) 266 0 [some (vR 76), some (vI v), some (vI x), none] [] (Mc h am s) _
    refine xpk_sound (stops := []) (n := 60) ?_
    simp only [sk_0, sk_1, sk_2, sk_3, sk_4, sk_5, sk_6, sk_7, sk_8, sk_iadd, sk_isub, sk_imul, sk_iand, sk_ior, sk_ixor, sk_ishl, sk_ishr, sk_iushr, sk_idiv, sk_irem, sk_ineg, sk_ladd, sk_lsub, sk_lmul, sk_land, sk_lor, sk_ldiv, sk_lrem, sk_lneg, sk_lshl, sk_lshr, sk_i2l, sk_l2i, sk_lcmp, sk_dupI, sk_dupR, sk_dup2L, sk_dup2I, sk_popI, sk_ifeq, sk_ifne, sk_iflt, sk_ifge, sk_ifgt, sk_ifle, sk_iceq, sk_icne, sk_iclt, sk_icge, sk_icgt, sk_icle, sk_goto, sk_getf, sk_putf, sk_gets, sk_iald, sk_lald, sk_bald, sk_aald, sk_iast, sk_last, sk_bast, sk_aast, sk_alen, sk_newa, sk_newt, sk_new, sk_cs1, sk_cs2, sk_cs3, sk_cs4, sk_cs5, sk_cs6, sk_cv1, sk_cv2, sk_cv3, sk_cv4, sk_cv5, sk_cv6, sk_ci1, sk_ci2, sk_ci3, sk_ret0, sk_retI, sk_retL, sk_retR, sk_sw, sk_oin, sk_max, sk_min, sk_abs, lI_0, lI_s, lL_0, lL_s, lR_0, lR_s, vIo_e, vLo_e, vOo_e, stW_I, stW_L, stW_R, stW_0, stW_z, okSt_0, okSt_s, hV_eq, hK_eq, okF_0, okF_1, okF_3, is01_0, is01_1, is01_i, Int.toNat_natCast, Int.reduceEq, Int.reduceLE, Int.reduceLT, Int.reduceNeg, Nat.reduceLT, not_true_eq_false, not_false_eq_true, reduceIte, Option.toList, List.cons_append, List.nil_append, List.set_cons_zero, List.set_cons_succ, List.not_mem_nil, List.mem_cons, if_false, if_true, ite_true, ite_false, and_self, and_true, true_and, Nat.reduceAdd, Nat.reduceLeDiff, Nat.reduceEqDiff, Nat.zero_add, Nat.le_refl, Nat.zero_le, or_false, false_or, Int.reduceToNat, or_true, true_or, eq_self, and_false, false_and, inR_d, nc_4, nc_5, nc_6, nc_7, nc_8, nc_16, nc_18, nc_20, nc_24, nc_32, nc_40, nc_64, nc_104, nc_120, nc_160, nc_256, nc_300, nc_330, nc_390, nc_1200, nc_1260, nc_3012, nc_9834, okSt_1i, okSt_1r, okSt_1n, List.length_cons, List.length_nil, xpk_succ cd_266_0, xpk_succ cd_266_1, xpk_succ cd_266_2, xpk_succ cd_266_5, xpk_succ cd_266_8, xpk_succ cd_266_11, xpk_succ cd_266_12, xpk_succ cd_266_13, xpk_succ cd_266_15, xpk_succ cd_266_18, xpk_succ cd_266_21, xpk_succ cd_266_22, xpk_succ cd_266_25, xpk_succ cd_266_27, xpk_succ cd_266_28, xpk_succ cd_266_29, xpk_succ cd_266_30, xpk_succ cd_266_33, xpk_succ cd_266_36, xpk_succ cd_266_37, xpk_succ cd_266_38, xpk_succ cd_266_39, xpk_succ cd_266_42, xpk_succ cd_266_43, xpk_succ cd_266_46, xpk_succ cd_266_47, xpk_succ cd_266_48, xpk_succ cd_266_49, xpk_succ cd_266_50, xpk_succ cd_266_52, xpk_succ cd_266_53, xpk_succ cd_266_54, xpk_succ cd_266_55, xpk_succ cd_266_56, xpk_succ cd_266_57, xpk_succ cd_266_58, xpk_succ cd_266_61, xpk_succ cd_266_62, xpk_succ cd_266_65, xpk_succ cd_266_67, xpk_succ cd_266_68, xpk_succ cd_266_71, xpk_succ cd_266_72, xpk_succ cd_266_73, xpk_succ cd_266_75, xpk_succ cd_266_76, xpk_succ cd_266_77, xpk_succ cd_266_78, xpk_succ cd_266_81, xpk_succ cd_266_82, xpk_succ cd_266_83, xpk_succ cd_266_86, xpk_succ cd_266_87, xpk_succ cd_266_88, xpk_succ cd_266_89, xpk_succ cd_266_90, xpk_succ cd_266_91, xpk_succ cd_266_92, xpk_succ cd_266_95, xpk_succ cd_266_96, xpk_succ cd_266_99, xpk_succ cd_266_102, xpk_succ cd_266_105, xpk_succ cd_266_106, xpk_succ cd_266_109, xpk_succ cd_266_111, xpk_succ cd_266_112, Mc_k, (K_76 (h := h) hJ), (K_77 (h := h) hJ), (Mc_0 hJ), e1]
