set_option maxRecDepth 20000 in
theorem ac_259 : allC[259]? = some cl259 := rfl
theorem cd_259_0 : cd 259 0 = some (2, 1, 1, 0, 0, []) := cd_row ac_259 rfl
theorem cd_259_1 : cd 259 1 = some (0, 2, 0, 0, 1, []) := cd_row ac_259 rfl
theorem cd_259_2 : cd 259 2 = some (0, 4, 0, 0, 60, []) := cd_row ac_259 rfl
theorem cd_259_4 : cd 259 4 = some (38, 7, 182, 3, 0, []) := cd_row ac_259 rfl
theorem cd_259_7 : cd 259 7 = some (20, 10, 43, 0, 0, []) := cd_row ac_259 rfl
theorem cd_259_10 : cd 259 10 = some (4, 11, 0, 0, 0, []) := cd_row ac_259 rfl
theorem cd_259_11 : cd 259 11 = some (23, 14, 10, 0, 0, []) := cd_row ac_259 rfl
theorem cd_259_14 : cd 259 14 = some (0, 16, 0, 0, 16, []) := cd_row ac_259 rfl
theorem cd_259_16 : cd 259 16 = some (26, 17, 0, 0, 0, []) := cd_row ac_259 rfl
theorem cd_259_17 : cd 259 17 = some (2, 18, 1, 0, 0, []) := cd_row ac_259 rfl
theorem cd_259_18 : cd 259 18 = some (9, 19, 0, 0, 0, []) := cd_row ac_259 rfl
theorem cd_259_19 : cd 259 19 = some (0, 22, 0, 0, 9999, []) := cd_row ac_259 rfl
theorem cd_259_22 : cd 259 22 = some (21, 25, 43, 4, 0, []) := cd_row ac_259 rfl
theorem cd_259_25 : cd 259 25 = some (4, 26, 0, 0, 0, []) := cd_row ac_259 rfl
theorem cd_259_26 : cd 259 26 = some (2, 27, 1, 0, 0, []) := cd_row ac_259 rfl
theorem cd_259_27 : cd 259 27 = some (46, 30, 258, 2, 10, []) := cd_row ac_259 rfl
theorem cd_259_30 : cd 259 30 = some (20, 33, 43, 0, 0, []) := cd_row ac_259 rfl
theorem cd_259_33 : cd 259 33 = some (4, 34, 0, 0, 0, []) := cd_row ac_259 rfl
theorem cd_259_34 : cd 259 34 = some (23, 37, 10, 0, 0, []) := cd_row ac_259 rfl
theorem cd_259_37 : cd 259 37 = some (0, 39, 0, 0, 8, []) := cd_row ac_259 rfl
theorem cd_259_39 : cd 259 39 = some (26, 40, 0, 0, 0, []) := cd_row ac_259 rfl
theorem cd_259_40 : cd 259 40 = some (22, 43, 44, 0, 0, []) := cd_row ac_259 rfl
theorem cd_259_43 : cd 259 43 = some (0, 44, 0, 0, -1, []) := cd_row ac_259 rfl
theorem cd_259_44 : cd 259 44 = some (40, 45, 0, 0, 0, []) := cd_row ac_259 rfl
/-! run: the reference's turns -/
def rnX (k : Nat) : Int := bif Nat.ble k 39 then 59 else 15674
def rnS (k : Nat) : Int := bif Nat.ble k 30 then (k : Int) else 30
def rnW (k : Nat) : Int := bif Nat.ble k 39 then 0 else bif Nat.ble k 49 then ((49 - k : Nat) : Int) else 0
def bRM (k : Nat) : List (Option AC) := [some (10, 0, [xR 77, xR 78, xR 79, xR 80, xI 0, xI (-1), xI (-1), xI 0, xI 0, xI 0, xI 0, xL 0, xI 0, xI 0, xI 0, xR 81, xI 0, xI 0, xI 0, xI 0, xR 82, xT, xT, xR 83, xR 84, xI 0, xR 85, xI 0, xI 0, xR 86, xR 87, xR 88, xR 89, xR 90, xI 0, xR 91, xR 92], none),
  some (11, 9834, [xI 0, xI 2, xI (rnX k), xI 0, xI (-1), xI (rnS k), xI 0, xI 0, xI 0, xI 0, xI 0, xI 0, xI 5, xI 0, xI (rnW k), xI 0, xI (k : Int), xI (-1), xI 0], some xT),
  some (11, 9834, [xI 0, xI 2, xI 59, xI 0, xI (-1), xI 0, xI 0, xI 0, xI 0, xI 0, xI 0, xI 0, xI 5, xI 0, xI 0, xI 0, xI 0, xI (-1), xI 0], some xT),
  some (11, 3012, [], some xT),
  some (11, 300, [], some xT),
  some (11, 160, [], some xT),
  some (11, 8, [xT, xT, xT, xT, xT, xT, xT, xT], some xT),
  some (12, 330, [], none),
  some (13, 330, [], none),
  some (11, 18, [xI 0, xI 0, xI 0, xI 0, xI 0, xI 0, xI 0, xI 0, xI 0, xI 0, xI 0, xI 0, xI 0, xI 0, xI 0, xI 0, xI 0, xI 0], some xT),
  some (11, 1200, [], some xT),
  some (11, 8, [], some xT),
  some (11, 8, [], some xT),
  some (11, 8, [], some xT),
  some (11, 8, [], some xT),
  some (11, 8, [], some xT),
  some (11, 8, [], some xT)]
def bRs (k : Nat) : List (List (Option AC)) := [[], [], [], [], bRM k]
theorem bRs_s {k0 : Nat} {b : BH} {h : AH} (hl : leO (b.1.getD 4 []) (bRM k0) = true) (hz : eqZ b.2 (bx bxT) = true) (hb : ab_H b h) : ab_H (bRs k0, bx bxT) h := by
  refine ⟨hb.1, hb.2.1, fun k c hc => ?_⟩
  unfold gC bRs at hc
  split at hc
  · rename_i hk
    generalize hE : bRM k0 = E at hl hc
    have hc : (([[], [], [], [], E] : List (List (Option AC))).getD (k / 19) []).getD (k % 19) none = some c := hc
    by_cases y : k / 19 = 4
    · rw [y] at hc
      have hc : E.getD (k % 19) none = some c := hc
      obtain ⟨c0, e0, hle⟩ := leO_s hl _ _ hc
      refine leC_s hle (hb.2.2 k c0 ?_)
      unfold gC
      rw [if_pos hk, y]
      exact e0
    · exfalso
      have e : ∀ (E : List (Option AC)) (q : Nat), q ≠ 4 → ([[], [], [], [], E] : List (List (Option AC))).getD q [] = [] := fun E q hq => by
        match q, hq with
        | 0, _ => rfl
        | 1, _ => rfl
        | 2, _ => rfl
        | 3, _ => rfl
        | 4, hq => exact absurd rfl hq
        | n + 5, _ => rfl
      rw [e E _ y, nil_D] at hc
      cases hc
  · rename_i hk
    refine hb.2.2 k c ?_
    unfold gC
    rw [if_neg hk, eqZ_s hz]
    exact hc
def rLs (k : Nat) : List (Option AW) := [some (xR 76), some (.inr (1, 60)), some (xI (k : Int))]
noncomputable def rKS (k : Nat) (ls : List (Option AW)) (st : List AW) (b : BH) : Bool := (decide (ls = rLs k) && decide (st = [])) && (leO (b.1.getD 4 []) (bRM k) && eqZ b.2 (bx bxT))
noncomputable def rK (r : Option AW) (b : BH) : Bool := (decide (r = some (xI 1)) && hasI b 77 11 9834 8 (xI 0)) && (hasI b 76 10 0 0 (xR 77) && kdI b 1000100 20 6)
noncomputable def rCk (k : Nat) : Bool := achF nt2 1000000 2 (fun ls st b => !Nat.beq k 60 && rKS (k + 1) ls st b) 998 258 2 (rLs k) [] (bRs k, bx bxT) rK
theorem rBg : achF nt2 1000000 2 (rKS 0) 998 258 0 [some (xR 76), some (.inr (1, 60)), none] [] (bc1, bx bxT) (fun _ _ => false) = true := by decide +kernel
theorem rCk_0 : (List.range' 0 30).all rCk = true := by decide +kernel
theorem rCk_30 : (List.range' 30 4).all rCk = true := by decide +kernel
theorem rCk_34 : (List.range' 34 4).all rCk = true := by decide +kernel
theorem rCk_38 : (List.range' 38 4).all rCk = true := by decide +kernel
theorem rCk_42 : (List.range' 42 4).all rCk = true := by decide +kernel
theorem rCk_46 : (List.range' 46 4).all rCk = true := by decide +kernel
theorem rCk_50 : (List.range' 50 4).all rCk = true := by decide +kernel
theorem rCk_54 : (List.range' 54 4).all rCk = true := by decide +kernel
theorem rCk_58 : (List.range' 58 3).all rCk = true := by decide +kernel
theorem rCk_all (w : Nat) (h : w < 61) : rCk w = true := by
  by_cases w0 : w < 30
  · exact List.all_eq_true.mp rCk_0 w (List.mem_range'_1.mpr ⟨by omega, by omega⟩)
  by_cases w30 : w < 34
  · exact List.all_eq_true.mp rCk_30 w (List.mem_range'_1.mpr ⟨by omega, by omega⟩)
  by_cases w34 : w < 38
  · exact List.all_eq_true.mp rCk_34 w (List.mem_range'_1.mpr ⟨by omega, by omega⟩)
  by_cases w38 : w < 42
  · exact List.all_eq_true.mp rCk_38 w (List.mem_range'_1.mpr ⟨by omega, by omega⟩)
  by_cases w42 : w < 46
  · exact List.all_eq_true.mp rCk_42 w (List.mem_range'_1.mpr ⟨by omega, by omega⟩)
  by_cases w46 : w < 50
  · exact List.all_eq_true.mp rCk_46 w (List.mem_range'_1.mpr ⟨by omega, by omega⟩)
  by_cases w50 : w < 54
  · exact List.all_eq_true.mp rCk_50 w (List.mem_range'_1.mpr ⟨by omega, by omega⟩)
  by_cases w54 : w < 58
  · exact List.all_eq_true.mp rCk_54 w (List.mem_range'_1.mpr ⟨by omega, by omega⟩)
  by_cases w58 : w < 61
  · exact List.all_eq_true.mp rCk_58 w (List.mem_range'_1.mpr ⟨by omega, by omega⟩)
  exact absurd h (by omega)
theorem rn_loop (Q : Option AV → AH → Prop) (hQ : ∀ h', hN h' = 93 → hS h' = 32805 → hK h' 1000100 = (20, 6) → (hK h' 76 = (10, 0) ∧ hV h' 76 0 = vR 77 ∧ hK h' 77 = (11, 9834) ∧ hV h' 77 8 = vI 0) → Q (some (vI 1)) h') : ∀ (j w : Nat) (ls : List (Option AV)) (h : AH), w + j = 60 → ab_L (rLs w) ls → ab_H (bRs w, bx bxT) h → XP 998 258 2 ls [] h Q := by
  intro j
  have hret : ∀ (r : Option AW) (b : BH) (v : Option AV) (h : AH), rK r b = true → ab_O r v → ab_H b h → Q v h := fun r b v h hr ho hb => by
    unfold rK at hr
    rw [Bool.and_eq_true, Bool.and_eq_true, Bool.and_eq_true, decide_eq_true_eq] at hr
    obtain ⟨⟨rfl, h1⟩, h2, h3⟩ := hr
    obtain ⟨u, rfl, hu⟩ := ho
    have hu : u = vI 1 := hu
    rw [hu]
    exact hQ h hb.1 hb.2.1 (kdI_s hb h3) ⟨(hasI_s hb h2).1, (hasI_s hb h2).2, (hasI_s hb h1).1, (hasI_s hb h1).2⟩
  induction j with
  | zero =>
    intro w ls h hw hl hb
    have hck := rCk_all w (by omega)
    unfold rCk at hck
    rw [achF_eq] at hck
    refine achk_s nt2_s _ _ _ _ _ _ _ _ _ _ hck ls [] h Q hl rfl hb (fun als ast b ls st h hk hl hs hb => ?_) hret
    rw [Bool.and_eq_true, beq_d, decide_eq_true (show w = 60 by omega)] at hk
    cases hk.1
  | succ j ih =>
    intro w ls h hw hl hb
    have hck := rCk_all w (by omega)
    unfold rCk at hck
    rw [achF_eq] at hck
    refine achk_s nt2_s _ _ _ _ _ _ _ _ _ _ hck ls [] h Q hl rfl hb (fun als ast b ls st h hk hl hs hb => ?_) hret
    rw [Bool.and_eq_true] at hk
    have hk := hk.2
    unfold rKS at hk
    rw [Bool.and_eq_true, Bool.and_eq_true, Bool.and_eq_true, decide_eq_true_eq, decide_eq_true_eq] at hk
    obtain ⟨⟨rfl, rfl⟩, h3, h4⟩ := hk
    have hs : st = [] := hs
    subst hs
    exact ih (w + 1) ls h (by omega) hl (bRs_s h3 h4 hb)
theorem X_areRun {h : AH} {n : Int} (hb : ab_H (bc1, bx bxT) h) (n1 : 1 ≤ n) (n2 : n ≤ 60) : ∃ h', (hN h' = 93 ∧ hS h' = 32805 ∧ hK h' 1000100 = (20, 6) ∧ (hK h' 76 = (10, 0) ∧ hV h' 76 0 = vR 77 ∧ hK h' 77 = (11, 9834) ∧ hV h' 77 8 = vI 0)) ∧ ∀ Q : Option AV → AH → Prop, XC 999 258 [vR 76, vI n] h Q = Q (some (vI 1)) h' := by
  refine XC_ex (d := 998) (XC_of (Nat.le_of_ble_eq_true rfl) ?_)
  show XP 998 258 0 [some (vR 76), some (vI n), none] [] h _
  have hck := rBg
  rw [achF_eq] at hck
  refine achk_s nt2_s _ _ _ _ _ _ _ _ _ _ hck _ [] h _ ⟨_, _, rfl, ⟨_, rfl, rfl⟩, _, _, rfl, ⟨_, rfl, ab_rg n1 n2⟩, _, _, rfl, rfl, rfl⟩ rfl hb (fun als ast b ls st h hk hl hs hb => ?_) (fun _ _ _ _ z => by cases z)
  unfold rKS at hk
  rw [Bool.and_eq_true, Bool.and_eq_true, Bool.and_eq_true, decide_eq_true_eq, decide_eq_true_eq] at hk
  obtain ⟨⟨rfl, rfl⟩, h3, h4⟩ := hk
  have hs : st = [] := hs
  subst hs
  exact rn_loop _ (fun h' a b c d => ⟨rfl, a, b, c, d⟩) 60 0 ls h rfl hl (bRs_s h3 h4 hb)
set_option maxHeartbeats 4000000 in
theorem X_runM {h : AH} {n : Int} (hb : ab_H (bc1, bx bxT) h) (n1 : 1 ≤ n) (n2 : n ≤ 60) : ∃ h', (hN h' = 93 ∧ hS h' = 32805 ∧ hK h' 1000100 = (20, 6)) ∧ ∀ Q : Option AV → AH → Prop, XC 1000 259 [vR 76, vI n] h Q = Q (some (vI 0)) h' := by
  obtain ⟨h', ⟨a1, a2, a3, a4, a5, a6, a7⟩, e⟩ := X_areRun hb n1 n2
  have m0 := hasI_s (k := 76) (kd := 10) (len := 0) (i := 0) (v := vR 77) hb (by decide +kernel)
  have m1 := hasI_s (k := 77) (kd := 11) (len := 9834) (i := 16) (v := vI 0) hb (by decide +kernel)
  have p1 := m0.1
  have p2 := m0.2
  have p3 := m1.1
  have p4 := m1.2
  have hy : w32 (0 + n) = n := by unfold w32; omega
  have hc : ¬ 9999 < n := by omega
  have q1 : 1 ≤ n ∧ n ≤ 60 := ⟨n1, n2⟩
  refine ⟨h', ⟨a1, a2, a3⟩, fun Q => XC_eq (Nat.le_of_ble_eq_true rfl) (xpk_sound (stops := []) (n := 40) ?_) Q⟩
  show xpk [] 40 999 259 0 [some (vR 76), some (vI n)] [] h _
  simp only [sk_0, sk_1, sk_2, sk_3, sk_4, sk_5, sk_6, sk_7, sk_8, sk_iadd, sk_isub, sk_imul, sk_iand, sk_ior, sk_ixor, sk_ishl, sk_ishr, sk_iushr, sk_idiv, sk_irem, sk_ineg, sk_ladd, sk_lsub, sk_lmul, sk_land, sk_lor, sk_ldiv, sk_lrem, sk_lneg, sk_lshl, sk_lshr, sk_i2l, sk_l2i, sk_lcmp, sk_dupI, sk_dupR, sk_dup2L, sk_dup2I, sk_popI, sk_ifeq, sk_ifne, sk_iflt, sk_ifge, sk_ifgt, sk_ifle, sk_iceq, sk_icne, sk_iclt, sk_icge, sk_icgt, sk_icle, sk_goto, sk_getf, sk_putf, sk_gets, sk_iald, sk_lald, sk_bald, sk_aald, sk_iast, sk_last, sk_bast, sk_aast, sk_alen, sk_newa, sk_newt, sk_new, sk_cs1, sk_cs2, sk_cs3, sk_cs4, sk_cs5, sk_cs6, sk_cv1, sk_cv2, sk_cv3, sk_cv4, sk_cv5, sk_cv6, sk_ci1, sk_ci2, sk_ci3, sk_ret0, sk_retI, sk_retL, sk_retR, sk_sw, sk_oin, sk_max, sk_min, sk_abs, lI_0, lI_s, lL_0, lL_s, lR_0, lR_s, vIo_e, vLo_e, vOo_e, stW_I, stW_L, stW_R, stW_0, stW_z, okSt_0, okSt_s, hV_eq, hK_eq, okF_0, okF_1, okF_3, is01_0, is01_1, is01_i, Int.toNat_natCast, Int.reduceEq, Int.reduceLE, Int.reduceLT, Int.reduceNeg, Nat.reduceLT, not_true_eq_false, not_false_eq_true, reduceIte, Option.toList, List.cons_append, List.nil_append, List.set_cons_zero, List.set_cons_succ, List.not_mem_nil, List.mem_cons, if_false, if_true, ite_true, ite_false, and_self, and_true, true_and, Nat.reduceAdd, Nat.reduceLeDiff, Nat.reduceEqDiff, Nat.zero_add, Nat.le_refl, Nat.zero_le, or_false, false_or, Int.reduceToNat, or_true, true_or, eq_self, and_false, false_and, inR_d, nc_4, nc_5, nc_6, nc_7, nc_8, nc_16, nc_18, nc_20, nc_24, nc_32, nc_40, nc_64, nc_104, nc_120, nc_160, nc_256, nc_300, nc_330, nc_390, nc_1200, nc_1260, nc_3012, nc_9834, okSt_1i, okSt_1r, okSt_1n, xpk_succ cd_259_0, xpk_succ cd_259_1, xpk_succ cd_259_2, xpk_succ cd_259_4, xpk_succ cd_259_7, xpk_succ cd_259_10, xpk_succ cd_259_11, xpk_succ cd_259_14, xpk_succ cd_259_16, xpk_succ cd_259_17, xpk_succ cd_259_18, xpk_succ cd_259_19, xpk_succ cd_259_22, xpk_succ cd_259_25, xpk_succ cd_259_26, xpk_succ cd_259_27, xpk_succ cd_259_30, xpk_succ cd_259_33, xpk_succ cd_259_34, xpk_succ cd_259_37, xpk_succ cd_259_39, xpk_succ cd_259_40, xpk_succ cd_259_43, xpk_succ cd_259_44, X_isIn, e, p1, p2, p3, p4, a4, a5, a6, a7, hy, hc, q1]
set_option maxHeartbeats 4000000 in
theorem law_8 {h h2 : AH} {r i : Int} (k76 : hK h 76 = (10, 0)) (ks : hK h 1000100 = (20, 6)) (t1 : hV h 1000100 1 = vI i) (e2 : ∀ Q, XC 1000 259 [vR 76, vI i] h Q = Q (some (vI r)) h2) (hend : XP 1000 321 1541 lsc [] h2 lwQ) : XP 1000 321 491 lsc [vI r] h lwQ := by
  have w1 := w32_i (k := 1) (by decide) (by decide)
  refine xpk_sound (stops := [1541]) (n := 30) ?_
  show xpk [1541] 30 1000 321 491 [some (vR 1000100), some (vR 0), some (vR 76), some (vI 0)] [vI r] h _
  simp only [sk_0, sk_1, sk_2, sk_3, sk_4, sk_5, sk_6, sk_7, sk_8, sk_iadd, sk_isub, sk_imul, sk_iand, sk_ior, sk_ixor, sk_ishl, sk_ishr, sk_iushr, sk_idiv, sk_irem, sk_ineg, sk_ladd, sk_lsub, sk_lmul, sk_land, sk_lor, sk_ldiv, sk_lrem, sk_lneg, sk_lshl, sk_lshr, sk_i2l, sk_l2i, sk_lcmp, sk_dupI, sk_dupR, sk_dup2L, sk_dup2I, sk_popI, sk_ifeq, sk_ifne, sk_iflt, sk_ifge, sk_ifgt, sk_ifle, sk_iceq, sk_icne, sk_iclt, sk_icge, sk_icgt, sk_icle, sk_goto, sk_getf, sk_putf, sk_gets, sk_iald, sk_lald, sk_bald, sk_aald, sk_iast, sk_last, sk_bast, sk_aast, sk_alen, sk_newa, sk_newt, sk_new, sk_cs1, sk_cs2, sk_cs3, sk_cs4, sk_cs5, sk_cs6, sk_cv1, sk_cv2, sk_cv3, sk_cv4, sk_cv5, sk_cv6, sk_ci1, sk_ci2, sk_ci3, sk_ret0, sk_retI, sk_retL, sk_retR, sk_sw, sk_oin, sk_max, sk_min, sk_abs, lI_0, lI_s, lL_0, lL_s, lR_0, lR_s, vIo_e, vLo_e, vOo_e, stW_I, stW_L, stW_R, stW_0, stW_z, okSt_0, okSt_s, hV_eq, hK_eq, okF_0, okF_1, okF_3, is01_0, is01_1, is01_i, Int.toNat_natCast, Int.reduceEq, Int.reduceLE, Int.reduceLT, Int.reduceNeg, Nat.reduceLT, not_true_eq_false, not_false_eq_true, reduceIte, Option.toList, List.cons_append, List.nil_append, List.set_cons_zero, List.set_cons_succ, List.not_mem_nil, List.mem_cons, if_false, if_true, ite_true, ite_false, and_self, and_true, true_and, Nat.reduceAdd, Nat.reduceLeDiff, Nat.reduceEqDiff, Nat.zero_add, Nat.le_refl, Nat.zero_le, or_false, false_or, Int.reduceToNat, or_true, true_or, eq_self, and_false, false_and, inR_d, nc_4, nc_5, nc_6, nc_7, nc_8, nc_16, nc_18, nc_20, nc_24, nc_32, nc_40, nc_64, nc_104, nc_120, nc_160, nc_256, nc_300, nc_330, nc_390, nc_1200, nc_1260, nc_3012, nc_9834, okSt_1i, okSt_1r, okSt_1n, xpk_succ cd_321_491, xpk_succ cd_321_492, xpk_succ cd_321_493, xpk_succ cd_321_494, xpk_succ cd_321_495, xpk_succ cd_321_496, xpk_succ cd_321_497, xpk_succ cd_321_500, xpk_succ cd_321_503, xpk_succ cd_321_504, k76, ks, t1, e2, w1]
  exact hend
def cs_8 : List (List AW × AW) := [([xT, .inr (-2147483648, 0), xT, xT, xT, xT], xI (-1)), ([xT, .inr (61, 2147483647), xT, xT, xT, xT], xI (-1))]
theorem ck_8 : cb_L nt1 482 491 cs_8 = true := by decide +kernel
theorem ck_8a : cb_1 nt2 482 491 [xT, .inr (1, 60), xT, xT, xT, xT] (xI 0) = true := by decide +kernel
theorem case_8 {xs : Nat → Int} {h : AH} (hf : FR 6 xs h) (q0 : -2147483648 ≤ xs 0 ∧ xs 0 ≤ 2147483647) (q1 : -2147483648 ≤ xs 1 ∧ xs 1 ≤ 2147483647) (q2 : -2147483648 ≤ xs 2 ∧ xs 2 ≤ 2147483647) (q3 : -2147483648 ≤ xs 3 ∧ xs 3 ≤ 2147483647) (q4 : -2147483648 ≤ xs 4 ∧ xs 4 ≤ 2147483647) (q5 : -2147483648 ≤ xs 5 ∧ xs 5 ≤ 2147483647) : XP 1000 321 482 lsc [] h lwQ := by
  by_cases y1 : xs 1 ≤ 0
  · exact leaf2 nt1_s ck_8 hf 0 rfl (ab_rg (by omega) (by omega)) (ab_rg (by omega) (by omega)) (ab_rg (by omega) (by omega)) (ab_rg (by omega) (by omega)) (ab_rg (by omega) (by omega)) (ab_rg (by omega) (by omega))
  by_cases y2 : 61 ≤ xs 1
  · exact leaf2 nt1_s ck_8 hf 1 rfl (ab_rg (by omega) (by omega)) (ab_rg (by omega) (by omega)) (ab_rg (by omega) (by omega)) (ab_rg (by omega) (by omega)) (ab_rg (by omega) (by omega)) (ab_rg (by omega) (by omega))
  have hbox : ab_H (bc0, bx [xT, .inr (1, 60), xT, xT, xT, xT]) h := FR_b okcs_0 hf (fun j w hj => by
    match j, hj with
    | 0, hj => cases hj; exact ab_rg q0.1 q0.2
    | 1, hj => cases hj; exact ab_rg (by omega) (by omega)
    | 2, hj => cases hj; exact ab_rg q2.1 q2.2
    | 3, hj => cases hj; exact ab_rg q3.1 q3.2
    | 4, hj => cases hj; exact ab_rg q4.1 q4.2
    | 5, hj => cases hj; exact ab_rg q5.1 q5.2
    | n + 6, hj => cases hj)
  refine ca_1s nt2_s (by unfold ca_1; rw [← achF_eq]; exact ck_8a) hbox (fun h' v hb hv => ?_)
  have hv : v = vI 0 := hv
  rw [hv]
  have hg : gC (bc1, bx [xT, .inr (1, 60), xT, xT, xT, xT]) 1000100 = some (20, 6, [xT, .inr (1, 60), xT, xT, xT, xT], none) := by
    unfold gC
    rw [if_neg (by omega)]
    unfold bx
    rw [List.lookup_cons, beq_self_eq_true]
  obtain ⟨p1, p2, p3⟩ := hb.2.2 1000100 _ hg
  have v1 := p2 1 _ rfl
  obtain ⟨i, ei, i1, i2⟩ := v1
  have hb' := bx_w (w1 := .inr (1, 60)) rfl hb
  obtain ⟨h2, ⟨n1, n2, n3⟩, e2⟩ := X_runM (n := i) hb' i1 i2
  exact law_8 (kdI_s hb' (by decide +kernel)) p1 ei e2 (law_end n1 n2 n3)
