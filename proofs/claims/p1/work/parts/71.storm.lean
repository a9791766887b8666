/-! storm -/
theorem XC_ex {d M : Nat} {as : List AV} {h : AH} {rv : Option AV} {P : AH → Prop} (hw : XC (d + 1) M as h (fun r h' => r = rv ∧ P h')) : ∃ h', P h' ∧ ∀ Q : Option AV → AH → Prop, XC (d + 1) M as h Q = Q rv h' := by
  obtain ⟨hl, n, r, h', e, rfl, hp⟩ := hw
  exact ⟨h', hp, fun Q => XC_eq hl ⟨n, _, _, e, rfl, rfl⟩ Q⟩
theorem ai_call {nt : NT} (hn : ab_N nt) {M d : Nat} {as : List AW} {b : BH} {K : Option AW → BH → Bool} (hck : achF nt 1000000 1000000 nSt d M 0 (entG as (repN (mL M - lenW as))) [] b K = true) (hlen : lenW as ≤ mL M) {vs : List AV} {h : AH} {Q : Option AV → AH → Prop} (hs : ab_S as vs) (hb : ab_H b h) (hQ : ∀ r b v h, K r b = true → ab_O r v → ab_H b h → Q v h) : XC (d + 1) M vs h Q := by
  have hE := ent_s hs
  rw [lenW_eq] at hlen
  refine XC_of (by unfold entN; rw [← ab_L_len hE]; exact hlen) ?_
  rw [achF_eq] at hck
  refine achk_s hn _ _ _ _ _ _ _ _ _ _ hck _ [] h Q ?_ rfl hb (fun _ _ _ _ _ _ z => by cases z) hQ
  rw [entG_eq, repN_eq, lenW_eq]
  unfold entL
  rw [ab_L_len hE]
  exact ab_L_app hE (ab_L_rep _)
def bxT : List AW := [xT, xT, xT, xT, xT, xT]
def cKs (r0 : Option AW) (bs : List (List (Option AC))) (r : Option AW) (b : BH) : Bool := decide (r = r0) && (eqO (b.1.getD 0 []) (bs.getD 0 []) && (eqO (b.1.getD 2 []) (bs.getD 2 []) && (eqO (b.1.getD 3 []) (bs.getD 3 []) && (eqO (b.1.getD 4 []) (bs.getD 4 []) && eqZ b.2 (bx bxT)))))
theorem cKs_s {r0 r : Option AW} {bs : List (List (Option AC))} {b : BH} {h : AH} (hk : cKs r0 bs r b = true) (h1 : bs.getD 1 [] = []) (h5 : bs.length = 5) (hb : ab_H b h) : r = r0 ∧ ab_H (bs, bx bxT) h := by
  unfold cKs at hk
  rw [Bool.and_eq_true, Bool.and_eq_true, Bool.and_eq_true, Bool.and_eq_true, Bool.and_eq_true, decide_eq_true_eq] at hk
  obtain ⟨e, e0, e2, e3, e4, ez⟩ := hk
  refine ⟨e, hb.1, hb.2.1, fun k c hc => hb.2.2 k c ?_⟩
  unfold gC at hc ⊢
  split
  · rename_i hk
    rw [if_pos hk] at hc
    have hc : (bs.getD (k / 19) []).getD (k % 19) none = some c := hc
    have hnil : ∀ j, ([] : List (Option AC)).getD j none = none := fun j => by rw [List.getD_eq_getElem?_getD, List.getElem?_nil]; rfl
    rcases Nat.lt_or_ge (k / 19) 5 with y | y
    · match k / 19, y, hc with
      | 0, _, hc => rw [eqO_s e0]; exact hc
      | 1, _, hc => rw [h1, hnil] at hc; cases hc
      | 2, _, hc => rw [eqO_s e2]; exact hc
      | 3, _, hc => rw [eqO_s e3]; exact hc
      | 4, _, hc => rw [eqO_s e4]; exact hc
      | n + 5, y, _ => exact absurd y (by omega)
    · rw [List.getD_eq_getElem?_getD (l := bs), List.getElem?_eq_none (by rw [h5]; exact y)] at hc
      have hc : ([] : List (Option AC)).getD (k % 19) none = some c := hc
      rw [hnil] at hc
      cases hc
  · rename_i hk
    rw [if_neg hk] at hc
    rw [eqZ_s ez]
    exact hc
def bK0 : List (Option AC) := [some (9, 0, [xR 1, xR 11, xR 21, xR 46, xR 58, xR 52, xR 55, xR 61, xR 65, xR 70, xR 75, xI 0, xI 0], none),
  some (8, 0, [xR 2, xI 2, xI 0, xI (-1), xR 5, xI 0, xR 6, xI 1, xI 1, xR 7, xI 0, xR 8, xI 0, xR 9, xR 10], none),
  some (0, 0, [xR 3, xI 0, xI 0, xI 0, xI 0, xI 5, xI 0, xI 0, xI 0, xI 0, xI 59, xI (-1), xI 0, xI 0, xI 0], none),
  some (1, 0, [xR 4, xI 1260], none),
  some (12, 1260, [], none),
  some (11, 40, [], some xT),
  some (11, 390, [], some xT),
  some (11, 8, [], some xT),
  some (11, 16, [], some xT),
  some (11, 20, [], some xT),
  some (11, 20, [], some xT),
  some (8, 0, [xR 12, xI 2, xI 0, xI (-1), xR 15, xI 0, xR 16, xI 0, xI 0, xR 17, xI 0, xR 18, xI 0, xR 19, xR 20], none),
  some (0, 0, [xR 13, xI 0, xI 0, xI 0, xI 0, xI 5, xI 0, xI 0, xI 0, xI 0, xI 59, xI (-1), xI 0, xI 0, xI 0], none),
  some (1, 0, [xR 14, xI 1260], none),
  some (12, 1260, [], none),
  some (11, 40, [], some xT),
  some (11, 390, [], some xT),
  some (11, 8, [], some xT),
  some (11, 16, [], some xT)]
def bKM : List (Option AC) := [some (10, 0, [xR 77, xR 78, xR 79, xR 80, xI 0, xI (-1), xI (-1), xI 0, xI 0, xI 0, xI 0, xL 0, xI 0, xI 0, xI 0, xR 81, xI 0, xI 0, xI 0, xI 0, xR 82, xI 0, xI 0, xR 83, xR 84, xI 0, xR 85, xI 0, xI 0, xR 86, xR 87, xR 88, xR 89, xR 90, xI 0, xR 91, xR 92], none),
  some (11, 9834, [xI 0, xI 2, xI 59, xI 0, xI (-1), xI 1, xI 0, xI 0, xI 0, xI 0, xI 0, xI 0, xI 5, xI 0, xI 0, xI 0, xI 0, xI (-1), xI 0], some xT),
  some (11, 9834, [xI 0, xI 2, xI 59, xI 0, xI (-1), xI 0, xI 0, xI 0, xI 0, xI 0, xI 0, xI 0, xI 5, xI 0, xI 0, xI 0, xI 0, xI (-1), xI 0], some xT),
  some (11, 3012, [], some xT),
  some (11, 300, [], some xT),
  some (11, 160, [], some xT),
  some (11, 8, [xI 0, xI 0, xI 0, xI 0, xI 0, xI 0, xI 0, xI 0], some xT),
  some (12, 330, [], none),
  some (13, 330, [], none),
  some (11, 18, [xI 0, xI 0, xI 0, xI 0, xI 0, xI 0, xI 0, xI 0, xI 0, xI 0, xI 0, xI 0, xI 0, xI 0, xI 0, xI 0, xI 0, xI 0], some xT),
  some (11, 1200, [], some xT),
  some (11, 8, [], some xT),
  some (11, 8, [], some xT),
  some (11, 8, [], some xT),
  some (11, 8, [], some xT),
  some (11, 8, [], some xT),
  some (11, 8, [], some xT)]
def bKs : List (List (Option AC)) := [bK0, [], bcC2, bcC3, bcM]
def bKm : List (List (Option AC)) := [[], [], [], [], bKM]
theorem ai_keepStep : achF nt0 1000000 1000000 nSt 997 111 0 (entG [xR 1] (repN (mL 111 - lenW [xR 1]))) [] (bc0, bx bxT) (cKs none bKs) = true := by decide +kernel
theorem ai_ruled : achF nt0 1000000 1000000 nSt 997 175 0 (entG [xR 0] (repN (mL 175 - lenW [xR 0]))) [] (bKs, bx bxT) (cKs (some (xR 58)) bKs) = true := by decide +kernel
theorem ai_keep : achF nt0 1000000 1000000 nSt 997 254 0 (entG [xR 76] (repN (mL 254 - lenW [xR 76]))) [] (bc1, bx bxT) (cKs none bKm) = true := by decide +kernel
theorem X_keepStep {h : AH} (hb : ab_H (bc0, bx bxT) h) : ∃ h', ab_H (bKs, bx bxT) h' ∧ ∀ Q : Option AV → AH → Prop, XC 998 111 [vR 1] h Q = Q none h' :=
  XC_ex (ai_call nt0_s ai_keepStep (by decide) ⟨_, _, rfl, rfl, rfl⟩ hb (fun r b v h hk ho hb => by
    obtain ⟨rfl, hb'⟩ := cKs_s hk rfl rfl hb
    exact ⟨ho, hb'⟩))
theorem X_ruled {h : AH} (hb : ab_H (bKs, bx bxT) h) : ∃ h', ab_H (bKs, bx bxT) h' ∧ ∀ Q : Option AV → AH → Prop, XC 998 175 [vR 0] h Q = Q (some (vR 58)) h' :=
  XC_ex (ai_call nt0_s ai_ruled (by decide) ⟨_, _, rfl, rfl, rfl⟩ hb (fun r b v h hk ho hb => by
    obtain ⟨rfl, hb'⟩ := cKs_s hk rfl rfl hb
    obtain ⟨u, rfl, hu⟩ := ho
    have hu : u = vR 58 := hu
    rw [hu]
    exact ⟨rfl, hb'⟩))
theorem X_mkeep {h : AH} (hb : ab_H (bc1, bx bxT) h) : ∃ h', ab_H (bKm, bx bxT) h' ∧ ∀ Q : Option AV → AH → Prop, XC 998 254 [vR 76] h Q = Q none h' :=
  XC_ex (ai_call nt0_s ai_keep (by decide) ⟨_, _, rfl, rfl, rfl⟩ hb (fun r b v h hk ho hb => by
    obtain ⟨rfl, hb'⟩ := cKs_s hk rfl rfl hb
    exact ⟨ho, hb'⟩))
def WC (h : AH) : Prop := LAW0 h ∧ SX h ∧ hK h 3 = (1, 0) ∧ hV h 3 0 = vR 4 ∧ hV h 3 1 = vI 1260 ∧ hK h 4 = (12, 1260)
theorem WC_fr {h h' : AH} (hw : WC h) (hf : FRM h h' 2 4) : WC h' := by
  obtain ⟨w1, w2, w3, w4, w5, w6⟩ := hw
  refine ⟨LAW0_fr w1 hf (by decide) (by decide), ?_, ?_, ?_, ?_, ?_⟩
  · obtain ⟨f1, f2, f3, f4⟩ := hf
    unfold SX
    rw [f3]
    simp only [f4 1000000 (by decide) (by decide), f4 1000002 (by decide) (by decide)]
    exact w2
  · rw [hf.2.2.1]; exact w3
  · rw [hf.2.2.2 3 (by decide) (by decide)]; exact w4
  · rw [hf.2.2.2 3 (by decide) (by decide)]; exact w5
  · rw [hf.2.2.1]; exact w6
def itC : Nat → (Nat → Int) → Nat → Int
  | 0, f => f
  | j + 1, f => itC j (stC f)
def itM : Nat → (Nat → Int) → Nat → Int
  | 0, g => g
  | j + 1, g => itM j (stM g)
theorem it_rel : ∀ (j : Nat) (f g : Nat → Int), RQ f g → RB f → f 9 + j ≤ 8999 → itC j f 1 = itM j g 8 := by
  intro j
  induction j with
  | zero => intro f g h _ _; exact h.1
  | succ j ih =>
    intro f g h hb h9
    obtain ⟨h1, h2, h3⟩ := storm_rel h hb (by omega)
    exact ih (stC f) (stM g) h1 h2 (by omega)
set_option maxHeartbeats 4000000 in
theorem stC_loop (s n : Int) (Q : Option AV → AH → Prop) : ∀ (j i : Nat) (h : AH) (f g : Nat → Int), ((i + j : Nat) : Int) = n → i + j ≤ 40 → HO h 2 3 f → WC h → RQ f g → RB f → f 9 + j ≤ 8999 → (∀ h', HO h' 2 3 (itC j f) → FRM h h' 2 4 → Q (some (vI (itC j f 1))) h') → XP 999 136 65 [some (vR 0), some (vI s), some (vI n), some (vR 2), some (vR 58), some (vI (i : Int))] [] h Q := by
  intro j
  induction j with
  | zero =>
    intro i h f g hin h40 hh hw hr hb h9 hQ
    have hq := hQ h hh (FRM_rf h 2 4)
    have hc : n ≤ (i : Int) := by omega
    have v1 := hh.2.2 1 (by decide) (by decide)
    have hk := hh.1
    refine xpk_sound (stops := []) (n := 10) ?_
    simp only [sk_0, sk_1, sk_2, sk_3, sk_4, sk_5, sk_6, sk_7, sk_8, sk_iadd, sk_isub, sk_imul, sk_iand, sk_ior, sk_ixor, sk_ishl, sk_ishr, sk_iushr, sk_idiv, sk_irem, sk_ineg, sk_ladd, sk_lsub, sk_lmul, sk_land, sk_lor, sk_ldiv, sk_lrem, sk_lneg, sk_lshl, sk_lshr, sk_i2l, sk_l2i, sk_lcmp, sk_dupI, sk_dupR, sk_dup2L, sk_dup2I, sk_popI, sk_ifeq, sk_ifne, sk_iflt, sk_ifge, sk_ifgt, sk_ifle, sk_iceq, sk_icne, sk_iclt, sk_icge, sk_icgt, sk_icle, sk_goto, sk_getf, sk_putf, sk_gets, sk_iald, sk_lald, sk_bald, sk_aald, sk_iast, sk_last, sk_bast, sk_aast, sk_alen, sk_newa, sk_newt, sk_new, sk_cs1, sk_cs2, sk_cs3, sk_cs4, sk_cs5, sk_cs6, sk_cv1, sk_cv2, sk_cv3, sk_cv4, sk_cv5, sk_cv6, sk_ci1, sk_ci2, sk_ci3, sk_ret0, sk_retI, sk_retL, sk_retR, sk_sw, sk_oin, sk_max, sk_min, sk_abs, lI_0, lI_s, lL_0, lL_s, lR_0, lR_s, vIo_e, vLo_e, vOo_e, stW_I, stW_L, stW_R, stW_0, stW_z, okSt_0, okSt_s, hV_eq, hK_eq, okF_0, okF_1, okF_3, is01_0, is01_1, is01_i, Int.toNat_natCast, Int.reduceEq, Int.reduceLE, Int.reduceLT, Int.reduceNeg, Nat.reduceLT, not_true_eq_false, not_false_eq_true, reduceIte, Option.toList, List.cons_append, List.nil_append, List.set_cons_zero, List.set_cons_succ, List.not_mem_nil, List.mem_cons, if_false, if_true, ite_true, ite_false, and_self, and_true, true_and, Nat.reduceAdd, Nat.reduceLeDiff, Nat.reduceEqDiff, Nat.zero_add, Nat.le_refl, Nat.zero_le, or_false, false_or, Int.reduceToNat, or_true, true_or, eq_self, and_false, false_and, inR_d, nc_4, nc_5, nc_6, nc_7, nc_8, nc_16, nc_18, nc_20, nc_24, nc_32, nc_40, nc_64, nc_104, nc_120, nc_160, nc_256, nc_300, nc_330, nc_390, nc_1200, nc_1260, nc_3012, nc_9834, okSt_1i, okSt_1r, okSt_1n, xpk_succ cd_136_0, xpk_succ cd_136_1, xpk_succ cd_136_2, xpk_succ cd_136_5, xpk_succ cd_136_8, xpk_succ cd_136_11, xpk_succ cd_136_12, xpk_succ cd_136_13, xpk_succ cd_136_15, xpk_succ cd_136_18, xpk_succ cd_136_21, xpk_succ cd_136_22, xpk_succ cd_136_23, xpk_succ cd_136_26, xpk_succ cd_136_29, xpk_succ cd_136_30, xpk_succ cd_136_31, xpk_succ cd_136_32, xpk_succ cd_136_35, xpk_succ cd_136_38, xpk_succ cd_136_39, xpk_succ cd_136_42, xpk_succ cd_136_45, xpk_succ cd_136_46, xpk_succ cd_136_47, xpk_succ cd_136_50, xpk_succ cd_136_52, xpk_succ cd_136_53, xpk_succ cd_136_54, xpk_succ cd_136_55, xpk_succ cd_136_56, xpk_succ cd_136_58, xpk_succ cd_136_59, xpk_succ cd_136_62, xpk_succ cd_136_63, xpk_succ cd_136_65, xpk_succ cd_136_67, xpk_succ cd_136_68, xpk_succ cd_136_71, xpk_succ cd_136_72, xpk_succ cd_136_73, xpk_succ cd_136_76, xpk_succ cd_136_79, xpk_succ cd_136_80, xpk_succ cd_136_81, xpk_succ cd_136_84, xpk_succ cd_136_85, xpk_succ cd_136_86, xpk_succ cd_136_87, xpk_succ cd_136_88, xpk_succ cd_136_90, xpk_succ cd_136_93, xpk_succ cd_136_94, xpk_succ cd_136_97, xpk_succ cd_136_100, xpk_succ cd_136_103, xpk_succ cd_136_104, xpk_succ cd_136_107, hc, hk, v1]
    exact hq
  | succ j ih =>
    intro i h f g hin h40 hh hw hr hb h9 hQ
    have hc : ¬ n ≤ (i : Int) := by omega
    have hk := hh.1
    have v10 := hh.2.2 10 (by decide) (by decide)
    have e1 : ∀ Q, XC 999 15 [vR 2] h Q = Q (some (vI ((f 10).tmod 10))) (hSet h 2 10 (vI (renC (f 10)))) := X_drawn 997 2 h (f 10) hk v10
    obtain ⟨hr1, hb1⟩ := RQ_up hr hb
    have H2 : HO (hSet (hSet h 2 10 (vI (renC (f 10)))) 2 7 (vI ((f 10).tmod 10))) 2 3 (up (up f 10 (renC (f 10))) 7 ((f 10).tmod 10)) := HO_set (HO_set hh (by decide)) (by decide)
    have F2 : FRM h (hSet (hSet h 2 10 (vI (renC (f 10)))) 2 7 (vI ((f 10).tmod 10))) 2 4 := FRM_tr FRM_set FRM_set
    have W2 := WC_fr hw F2
    obtain ⟨w1, w2, w3, w4, w5, w6⟩ := W2
    have hF10 : up (up f 10 (renC (f 10))) 7 ((f 10).tmod 10) 10 = renC (f 10) := (up_ne (by decide)).trans up_at
    generalize hFe : up (up f 10 (renC (f 10))) 7 ((f 10).tmod 10) = F at H2 hr1 hb1 hF10
    obtain ⟨h3, e3, H3, F3⟩ := X_tenth 993 2 3 4 1260 _ F (w32 ((renC (f 10)).tmod 3 - 1)) H2 w1 w2 w3 w4 w5 w6 (by decide) hb1.2.2.2.2.2.2.1.1 (by have := hb1.2.2.2.2.1; omega) (by decide) (by decide) (by decide)
    have hk3 := H3.1
    have a10 := H3.2.2 10 (by decide) (by decide)
    have e4 : ∀ Q, XC 999 16 [vR 2] h3 Q = Q none (hSet h3 2 10 (vI (renC (tenthC F (w32 ((renC (f 10)).tmod 3 - 1)) 10)))) := X_renew 998 2 h3 _ hk3 a10
    have hst : stC f = up (tenthC F (w32 ((renC (f 10)).tmod 3 - 1))) 10 (renC (tenthC F (w32 ((renC (f 10)).tmod 3 - 1)) 10)) := by
      unfold stC
      rw [hFe]
      dsimp only
      rw [hF10]
    obtain ⟨q1, q2, q3⟩ := storm_rel hr hb (by omega)
    have H4 : HO (hSet h3 2 10 (vI (renC (tenthC F (w32 ((renC (f 10)).tmod 3 - 1)) 10)))) 2 3 (stC f) := by rw [hst]; exact HO_set H3 (by decide)
    have F4 : FRM h (hSet h3 2 10 (vI (renC (tenthC F (w32 ((renC (f 10)).tmod 3 - 1)) 10)))) 2 4 := FRM_tr F2 (FRM_tr F3 FRM_set)
    have hi : w32 ((i : Int) + 1) = ((i + 1 : Nat) : Int) := by unfold w32; omega
    have hq := ih (i + 1) _ (stC f) (stM g) (by omega) (by omega) H4 (WC_fr hw F4) q1 q2 (by omega) (fun h' a b => hQ h' a (FRM_tr F4 b))
    have l1 := w1.1
    refine xpk_sound (stops := [65]) (n := 30) ?_
    simp only [sk_0, sk_1, sk_2, sk_3, sk_4, sk_5, sk_6, sk_7, sk_8, sk_iadd, sk_isub, sk_imul, sk_iand, sk_ior, sk_ixor, sk_ishl, sk_ishr, sk_iushr, sk_idiv, sk_irem, sk_ineg, sk_ladd, sk_lsub, sk_lmul, sk_land, sk_lor, sk_ldiv, sk_lrem, sk_lneg, sk_lshl, sk_lshr, sk_i2l, sk_l2i, sk_lcmp, sk_dupI, sk_dupR, sk_dup2L, sk_dup2I, sk_popI, sk_ifeq, sk_ifne, sk_iflt, sk_ifge, sk_ifgt, sk_ifle, sk_iceq, sk_icne, sk_iclt, sk_icge, sk_icgt, sk_icle, sk_goto, sk_getf, sk_putf, sk_gets, sk_iald, sk_lald, sk_bald, sk_aald, sk_iast, sk_last, sk_bast, sk_aast, sk_alen, sk_newa, sk_newt, sk_new, sk_cs1, sk_cs2, sk_cs3, sk_cs4, sk_cs5, sk_cs6, sk_cv1, sk_cv2, sk_cv3, sk_cv4, sk_cv5, sk_cv6, sk_ci1, sk_ci2, sk_ci3, sk_ret0, sk_retI, sk_retL, sk_retR, sk_sw, sk_oin, sk_max, sk_min, sk_abs, lI_0, lI_s, lL_0, lL_s, lR_0, lR_s, vIo_e, vLo_e, vOo_e, stW_I, stW_L, stW_R, stW_0, stW_z, okSt_0, okSt_s, hV_eq, hK_eq, okF_0, okF_1, okF_3, is01_0, is01_1, is01_i, Int.toNat_natCast, Int.reduceEq, Int.reduceLE, Int.reduceLT, Int.reduceNeg, Nat.reduceLT, not_true_eq_false, not_false_eq_true, reduceIte, Option.toList, List.cons_append, List.nil_append, List.set_cons_zero, List.set_cons_succ, List.not_mem_nil, List.mem_cons, if_false, if_true, ite_true, ite_false, and_self, and_true, true_and, Nat.reduceAdd, Nat.reduceLeDiff, Nat.reduceEqDiff, Nat.zero_add, Nat.le_refl, Nat.zero_le, or_false, false_or, Int.reduceToNat, or_true, true_or, eq_self, and_false, false_and, inR_d, nc_4, nc_5, nc_6, nc_7, nc_8, nc_16, nc_18, nc_20, nc_24, nc_32, nc_40, nc_64, nc_104, nc_120, nc_160, nc_256, nc_300, nc_330, nc_390, nc_1200, nc_1260, nc_3012, nc_9834, okSt_1i, okSt_1r, okSt_1n, xpk_succ cd_136_0, xpk_succ cd_136_1, xpk_succ cd_136_2, xpk_succ cd_136_5, xpk_succ cd_136_8, xpk_succ cd_136_11, xpk_succ cd_136_12, xpk_succ cd_136_13, xpk_succ cd_136_15, xpk_succ cd_136_18, xpk_succ cd_136_21, xpk_succ cd_136_22, xpk_succ cd_136_23, xpk_succ cd_136_26, xpk_succ cd_136_29, xpk_succ cd_136_30, xpk_succ cd_136_31, xpk_succ cd_136_32, xpk_succ cd_136_35, xpk_succ cd_136_38, xpk_succ cd_136_39, xpk_succ cd_136_42, xpk_succ cd_136_45, xpk_succ cd_136_46, xpk_succ cd_136_47, xpk_succ cd_136_50, xpk_succ cd_136_52, xpk_succ cd_136_53, xpk_succ cd_136_54, xpk_succ cd_136_55, xpk_succ cd_136_56, xpk_succ cd_136_58, xpk_succ cd_136_59, xpk_succ cd_136_62, xpk_succ cd_136_63, xpk_succ cd_136_65, xpk_succ cd_136_67, xpk_succ cd_136_68, xpk_succ cd_136_71, xpk_succ cd_136_72, xpk_succ cd_136_73, xpk_succ cd_136_76, xpk_succ cd_136_79, xpk_succ cd_136_80, xpk_succ cd_136_81, xpk_succ cd_136_84, xpk_succ cd_136_85, xpk_succ cd_136_86, xpk_succ cd_136_87, xpk_succ cd_136_88, xpk_succ cd_136_90, xpk_succ cd_136_93, xpk_succ cd_136_94, xpk_succ cd_136_97, xpk_succ cd_136_100, xpk_succ cd_136_103, xpk_succ cd_136_104, xpk_succ cd_136_107, hc, hk, v10, e1, e3, hk3, e4, hi, hV_eq]
    exact hq
set_option maxHeartbeats 4000000 in
theorem stM_loop (s n : Int) (Q : Option AV → AH → Prop) : ∀ (j i : Nat) (h : AH) (f g : Nat → Int), ((i + j : Nat) : Int) = n → i + j ≤ 40 → MO h g 0 → RQ f g → RB f → f 9 + j ≤ 8999 → (∀ h', MO h' (itM j g) 0 → FM h h' → Q (some (vI (itM j g 8))) h') → XP 999 266 56 [some (vR 76), some (vI s), some (vI n), some (vI (i : Int))] [] h Q := by
  intro j
  induction j with
  | zero =>
    intro i h f g hin h40 hm hr hb h9 hQ
    have hq := hQ h hm (FM_rf h)
    have hc : n ≤ (i : Int) := by omega
    obtain ⟨m1, m2, m3, m4, m5, m6, m7⟩ := hm
    have u8 := m7 8 (by decide)
    refine xpk_sound (stops := []) (n := 10) ?_
    simp only [sk_0, sk_1, sk_2, sk_3, sk_4, sk_5, sk_6, sk_7, sk_8, sk_iadd, sk_isub, sk_imul, sk_iand, sk_ior, sk_ixor, sk_ishl, sk_ishr, sk_iushr, sk_idiv, sk_irem, sk_ineg, sk_ladd, sk_lsub, sk_lmul, sk_land, sk_lor, sk_ldiv, sk_lrem, sk_lneg, sk_lshl, sk_lshr, sk_i2l, sk_l2i, sk_lcmp, sk_dupI, sk_dupR, sk_dup2L, sk_dup2I, sk_popI, sk_ifeq, sk_ifne, sk_iflt, sk_ifge, sk_ifgt, sk_ifle, sk_iceq, sk_icne, sk_iclt, sk_icge, sk_icgt, sk_icle, sk_goto, sk_getf, sk_putf, sk_gets, sk_iald, sk_lald, sk_bald, sk_aald, sk_iast, sk_last, sk_bast, sk_aast, sk_alen, sk_newa, sk_newt, sk_new, sk_cs1, sk_cs2, sk_cs3, sk_cs4, sk_cs5, sk_cs6, sk_cv1, sk_cv2, sk_cv3, sk_cv4, sk_cv5, sk_cv6, sk_ci1, sk_ci2, sk_ci3, sk_ret0, sk_retI, sk_retL, sk_retR, sk_sw, sk_oin, sk_max, sk_min, sk_abs, lI_0, lI_s, lL_0, lL_s, lR_0, lR_s, vIo_e, vLo_e, vOo_e, stW_I, stW_L, stW_R, stW_0, stW_z, okSt_0, okSt_s, hV_eq, hK_eq, okF_0, okF_1, okF_3, is01_0, is01_1, is01_i, Int.toNat_natCast, Int.reduceEq, Int.reduceLE, Int.reduceLT, Int.reduceNeg, Nat.reduceLT, not_true_eq_false, not_false_eq_true, reduceIte, Option.toList, List.cons_append, List.nil_append, List.set_cons_zero, List.set_cons_succ, List.not_mem_nil, List.mem_cons, if_false, if_true, ite_true, ite_false, and_self, and_true, true_and, Nat.reduceAdd, Nat.reduceLeDiff, Nat.reduceEqDiff, Nat.zero_add, Nat.le_refl, Nat.zero_le, or_false, false_or, Int.reduceToNat, or_true, true_or, eq_self, and_false, false_and, inR_d, nc_4, nc_5, nc_6, nc_7, nc_8, nc_16, nc_18, nc_20, nc_24, nc_32, nc_40, nc_64, nc_104, nc_120, nc_160, nc_256, nc_300, nc_330, nc_390, nc_1200, nc_1260, nc_3012, nc_9834, okSt_1i, okSt_1r, okSt_1n, xpk_succ cd_266_0, xpk_succ cd_266_1, xpk_succ cd_266_2, xpk_succ cd_266_5, xpk_succ cd_266_8, xpk_succ cd_266_11, xpk_succ cd_266_12, xpk_succ cd_266_13, xpk_succ cd_266_15, xpk_succ cd_266_18, xpk_succ cd_266_21, xpk_succ cd_266_22, xpk_succ cd_266_25, xpk_succ cd_266_27, xpk_succ cd_266_28, xpk_succ cd_266_29, xpk_succ cd_266_30, xpk_succ cd_266_33, xpk_succ cd_266_36, xpk_succ cd_266_37, xpk_succ cd_266_38, xpk_succ cd_266_39, xpk_succ cd_266_42, xpk_succ cd_266_43, xpk_succ cd_266_46, xpk_succ cd_266_47, xpk_succ cd_266_48, xpk_succ cd_266_49, xpk_succ cd_266_50, xpk_succ cd_266_52, xpk_succ cd_266_53, xpk_succ cd_266_54, xpk_succ cd_266_55, xpk_succ cd_266_56, xpk_succ cd_266_57, xpk_succ cd_266_58, xpk_succ cd_266_61, xpk_succ cd_266_62, xpk_succ cd_266_65, xpk_succ cd_266_67, xpk_succ cd_266_68, xpk_succ cd_266_71, xpk_succ cd_266_72, xpk_succ cd_266_73, xpk_succ cd_266_75, xpk_succ cd_266_76, xpk_succ cd_266_77, xpk_succ cd_266_78, xpk_succ cd_266_81, xpk_succ cd_266_82, xpk_succ cd_266_83, xpk_succ cd_266_86, xpk_succ cd_266_87, xpk_succ cd_266_88, xpk_succ cd_266_89, xpk_succ cd_266_90, xpk_succ cd_266_91, xpk_succ cd_266_92, xpk_succ cd_266_95, xpk_succ cd_266_96, xpk_succ cd_266_99, xpk_succ cd_266_102, xpk_succ cd_266_105, xpk_succ cd_266_106, xpk_succ cd_266_109, xpk_succ cd_266_111, xpk_succ cd_266_112, hc, m1, m2, m5, u8]
    exact hq
  | succ j ih =>
    intro i h f g hin h40 hm hr hb h9 hQ
    have hc : ¬ n ≤ (i : Int) := by omega
    have hi : w32 ((i : Int) + 1) = ((i + 1 : Nat) : Int) := by unfold w32; omega
    obtain ⟨q1, q2, q3⟩ := storm_rel hr hb (by omega)
    have q9 : stC f 9 + (j : Int) ≤ 8999 := by rw [q3]; omega
    have hin' : ((i + 1 + j : Nat) : Int) = n := by omega
    have h40' : i + 1 + j ≤ 40 := by omega
    obtain ⟨hr1, hb1⟩ := RQ_up hr hb
    have M1 : MO (hSet h 77 14 (vI ((g 2).tmod 10))) (up g 14 ((g 2).tmod 10)) 0 := MO_a hm
    have e1 : ∀ Q, XC 999 249 [vR 76] (hSet h 77 14 (vI ((g 2).tmod 10))) Q = Q none (hSet (hSet h 77 14 (vI ((g 2).tmod 10))) 77 2 (vI (renM (g 2)))) := by
      have e := X_anew 998 _ _ 0 M1
      rw [show up g 14 ((g 2).tmod 10) 2 = g 2 from up_ne (by decide)] at e
      exact e
    have M2 : MO (hSet (hSet h 77 14 (vI ((g 2).tmod 10))) 77 2 (vI (renM (g 2)))) (up (up g 14 ((g 2).tmod 10)) 2 (renM (g 2))) 0 := MO_a M1
    have F2 : FM h (hSet (hSet h 77 14 (vI ((g 2).tmod 10))) 77 2 (vI (renM (g 2)))) := FM_tr (FM_a (by decide)) (FM_a (by decide))
    have hG2 : up (up g 14 ((g 2).tmod 10)) 2 (renM (g 2)) 2 = renM (g 2) := up_at
    generalize hGe : up (up g 14 ((g 2).tmod 10)) 2 (renM (g 2)) = G at M2 hr1 hG2
    obtain ⟨p1, p2, p3, p4, p5, p7, p9, p10, p14, p4'⟩ := hr1
    obtain ⟨b1, b2, b3, b4, b5, b7, b9, b10⟩ := hb1
    obtain ⟨h3, ⟨M3, F3, N3⟩, e3⟩ := X_pass 996 _ G 0 (w32 ((renM (g 2)).tmod 3 - 1)) M2 p4' (by omega) (by omega) (by unfold r32; omega) (by unfold r32; omega) (by unfold r32; omega) (w32_r _)
    have e4 := X_anew 998 h3 _ 0 M3
    have hst : stM g = up (passM 0 G (w32 ((renM (g 2)).tmod 3 - 1))) 2 (renM (passM 0 G (w32 ((renM (g 2)).tmod 3 - 1)) 2)) := by
      unfold stM
      rw [hGe]
      dsimp only
      rw [hG2]
    have M4 : MO (hSet h3 77 2 (vI (renM (passM 0 G (w32 ((renM (g 2)).tmod 3 - 1)) 2)))) (stM g) 0 := by rw [hst]; exact MO_a M3
    have F4 : FM h (hSet h3 77 2 (vI (renM (passM 0 G (w32 ((renM (g 2)).tmod 3 - 1)) 2)))) := FM_tr F2 (FM_tr F3 (FM_a (by decide)))
    have hq := ih (i + 1) _ (stC f) (stM g) hin' h40' M4 q1 q2 q9 (fun h' a b => hQ h' a (FM_tr F4 b))
    have k3 := M3.1
    obtain ⟨m1, m2, m3, m4, m5, m6, m7⟩ := hm
    have u2 := m7 2 (by decide)
    refine xpk_sound (stops := [56]) (n := 40) ?_
    simp only [sk_0, sk_1, sk_2, sk_3, sk_4, sk_5, sk_6, sk_7, sk_8, sk_iadd, sk_isub, sk_imul, sk_iand, sk_ior, sk_ixor, sk_ishl, sk_ishr, sk_iushr, sk_idiv, sk_irem, sk_ineg, sk_ladd, sk_lsub, sk_lmul, sk_land, sk_lor, sk_ldiv, sk_lrem, sk_lneg, sk_lshl, sk_lshr, sk_i2l, sk_l2i, sk_lcmp, sk_dupI, sk_dupR, sk_dup2L, sk_dup2I, sk_popI, sk_ifeq, sk_ifne, sk_iflt, sk_ifge, sk_ifgt, sk_ifle, sk_iceq, sk_icne, sk_iclt, sk_icge, sk_icgt, sk_icle, sk_goto, sk_getf, sk_putf, sk_gets, sk_iald, sk_lald, sk_bald, sk_aald, sk_iast, sk_last, sk_bast, sk_aast, sk_alen, sk_newa, sk_newt, sk_new, sk_cs1, sk_cs2, sk_cs3, sk_cs4, sk_cs5, sk_cs6, sk_cv1, sk_cv2, sk_cv3, sk_cv4, sk_cv5, sk_cv6, sk_ci1, sk_ci2, sk_ci3, sk_ret0, sk_retI, sk_retL, sk_retR, sk_sw, sk_oin, sk_max, sk_min, sk_abs, lI_0, lI_s, lL_0, lL_s, lR_0, lR_s, vIo_e, vLo_e, vOo_e, stW_I, stW_L, stW_R, stW_0, stW_z, okSt_0, okSt_s, hV_eq, hK_eq, okF_0, okF_1, okF_3, is01_0, is01_1, is01_i, Int.toNat_natCast, Int.reduceEq, Int.reduceLE, Int.reduceLT, Int.reduceNeg, Nat.reduceLT, not_true_eq_false, not_false_eq_true, reduceIte, Option.toList, List.cons_append, List.nil_append, List.set_cons_zero, List.set_cons_succ, List.not_mem_nil, List.mem_cons, if_false, if_true, ite_true, ite_false, and_self, and_true, true_and, Nat.reduceAdd, Nat.reduceLeDiff, Nat.reduceEqDiff, Nat.zero_add, Nat.le_refl, Nat.zero_le, or_false, false_or, Int.reduceToNat, or_true, true_or, eq_self, and_false, false_and, inR_d, nc_4, nc_5, nc_6, nc_7, nc_8, nc_16, nc_18, nc_20, nc_24, nc_32, nc_40, nc_64, nc_104, nc_120, nc_160, nc_256, nc_300, nc_330, nc_390, nc_1200, nc_1260, nc_3012, nc_9834, okSt_1i, okSt_1r, okSt_1n, xpk_succ cd_266_0, xpk_succ cd_266_1, xpk_succ cd_266_2, xpk_succ cd_266_5, xpk_succ cd_266_8, xpk_succ cd_266_11, xpk_succ cd_266_12, xpk_succ cd_266_13, xpk_succ cd_266_15, xpk_succ cd_266_18, xpk_succ cd_266_21, xpk_succ cd_266_22, xpk_succ cd_266_25, xpk_succ cd_266_27, xpk_succ cd_266_28, xpk_succ cd_266_29, xpk_succ cd_266_30, xpk_succ cd_266_33, xpk_succ cd_266_36, xpk_succ cd_266_37, xpk_succ cd_266_38, xpk_succ cd_266_39, xpk_succ cd_266_42, xpk_succ cd_266_43, xpk_succ cd_266_46, xpk_succ cd_266_47, xpk_succ cd_266_48, xpk_succ cd_266_49, xpk_succ cd_266_50, xpk_succ cd_266_52, xpk_succ cd_266_53, xpk_succ cd_266_54, xpk_succ cd_266_55, xpk_succ cd_266_56, xpk_succ cd_266_57, xpk_succ cd_266_58, xpk_succ cd_266_61, xpk_succ cd_266_62, xpk_succ cd_266_65, xpk_succ cd_266_67, xpk_succ cd_266_68, xpk_succ cd_266_71, xpk_succ cd_266_72, xpk_succ cd_266_73, xpk_succ cd_266_75, xpk_succ cd_266_76, xpk_succ cd_266_77, xpk_succ cd_266_78, xpk_succ cd_266_81, xpk_succ cd_266_82, xpk_succ cd_266_83, xpk_succ cd_266_86, xpk_succ cd_266_87, xpk_succ cd_266_88, xpk_succ cd_266_89, xpk_succ cd_266_90, xpk_succ cd_266_91, xpk_succ cd_266_92, xpk_succ cd_266_95, xpk_succ cd_266_96, xpk_succ cd_266_99, xpk_succ cd_266_102, xpk_succ cd_266_105, xpk_succ cd_266_106, xpk_succ cd_266_109, xpk_succ cd_266_111, xpk_succ cd_266_112, hc, m1, m2, m5, u2, e1, e3, e4, k3, hi, hV_eq]
    exact hq
