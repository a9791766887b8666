theorem INp_1 {cnt w0 : Nat} {P : List Int} {o j : Nat} {c : oCd} {q : Int × Int} {S' : oSt} (hs : oneS P o c q j = .inl S') (hc : chn P) (ho : o = opl P) (h8 : o ≤ 8) (hl : w0 + c.length + P.length + 1 ≤ j) (hj : j ≤ cnt) (hcn : cnt ≤ 300) : INp cnt w0 S' := by
  unfold oneS at hs
  have hs := (Sum.inl.inj hs).symm
  subst hs
  rw [stJ_c P o (c ++ [q])]
  obtain ⟨y1, y2, y3, y4, y5⟩ := stJ_I (least := 7) (by decide) P o hc ho
  refine ⟨⟨y2, by show (stJ 7 P o []).2.1 ≤ 8; omega, y1⟩, ?_, hj, hcn⟩
  show w0 + ((c ++ [q]) ++ (stJ 7 P o []).2.2).length + (stJ 7 P o []).1.length ≤ j
  rw [List.length_append, List.length_append]
  show w0 + (c.length + 1 + _) + _ ≤ j
  omega
theorem INp_2 {cnt w0 : Nat} {P : List Int} {o j : Nat} {c : oCd} {x : Int} {S' : oSt} (hs : opnS P o c x j = .inl S') (hx : opo x = 1) (hc : chn P) (ho : o = opl P) (h8 : o ≤ 8) (hl : w0 + c.length + P.length ≤ j) (hj : j < cnt) (hcn : cnt ≤ 300) : INp cnt w0 S' := by
  unfold opnS at hs
  by_cases z : o = 8
  · rw [if_pos z] at hs; cases hs
  · rw [if_neg z] at hs
    have hs := (Sum.inl.inj hs).symm
    subst hs
    refine ⟨⟨?_, by show o + 1 ≤ 8; omega, hc, Or.inl hx⟩, ?_, by show j + 1 ≤ cnt; omega, hcn⟩
    · show o + 1 = opo x + opl P; omega
    · show w0 + c.length + (x :: P).length ≤ j + 1; rw [List.length_cons]; omega
theorem btw_d (K : Int) (P : List Int) : btw K P = -1 ∨ ((6 ≤ btw K P ∧ btw K P ≤ 15) ∨ btw K P = 21 ∨ btw K P = 22) := by
  unfold btw
  (repeat' split) <;> omega
theorem opq_0 {x : Int} (h : ¬ (40 ≤ x ∨ x = 4 ∨ x = 5 ∨ x = 20)) : opo x = 0 := if_neg h
theorem INp_n {l : Int} {tq : Nat → Int × Int} {cnt w0 : Nat} {S S' : oSt} (hq : ∀ i, cnt ≤ i → (tq i).1 = 62) (hI : INp cnt w0 S) (hs : opSt l tq S = .inl S') : INp cnt w0 S' := by
  obtain ⟨P, w, j, o, c⟩ := S
  obtain ⟨⟨i1, i2, i3⟩, i4, i5, i6⟩ := id hI
  have i1 : o = opl P := i1
  have i2 : o ≤ 8 := i2
  have i3 : chn P := i3
  have i4 : w0 + c.length + P.length ≤ j := i4
  have i5 : j ≤ cnt := i5
  have jn : ∀ k, (tq k).1 ≠ 62 → k < cnt := fun k h2 => by
    rcases Nat.lt_or_ge k cnt with z | z
    · exact z
    · exact absurd (hq k z) h2
  cases w with
  | false =>
    have hs : begS l tq P j o c = .inl S' := hs
    unfold begS at hs
    by_cases k60 : (tq j).1 = 60
    · rw [if_pos k60] at hs
      split at hs
      · cases hs
      · exact INp_1 hs i3 i1 i2 (by omega) (jn j (by omega)) i6
    rw [if_neg k60] at hs
    by_cases kn : 11 ≤ (tq j).1 ∧ (tq j).1 ≤ 18
    · rw [if_pos kn] at hs
      split at hs
      · exact INp_1 hs i3 i1 i2 (by omega) (jn j (by omega)) i6
      · cases hs
    rw [if_neg kn] at hs
    by_cases k33 : (tq j).1 = 33
    · rw [if_pos k33] at hs
      have j0 := jn j (by omega)
      by_cases a1 : (tq (j + 1)).1 ≠ 60
      · rw [if_pos a1] at hs; cases hs
      rw [if_neg a1] at hs
      by_cases a2 : ¬ (1 ≤ (tq (j + 1)).2 ∧ (tq (j + 1)).2 ≤ 9)
      · rw [if_pos a2] at hs; cases hs
      rw [if_neg a2] at hs
      by_cases a3 : ¬ (11 ≤ (tq (j + 2)).1 ∧ (tq (j + 2)).1 ≤ 18)
      · rw [if_pos a3] at hs; cases hs
      rw [if_neg a3] at hs
      have j2 := jn (j + 2) (by omega)
      split at hs
      · exact INp_1 hs i3 i1 i2 (by omega) (by omega) i6
      · cases hs
    rw [if_neg k33] at hs
    by_cases k50 : (tq j).1 = 50
    · rw [if_pos k50] at hs; exact INp_2 hs (by decide) i3 i1 i2 i4 (jn j (by omega)) i6
    rw [if_neg k50] at hs
    by_cases k47 : (tq j).1 = 47
    · rw [if_pos k47] at hs; exact INp_2 hs (by decide) i3 i1 i2 i4 (jn j (by omega)) i6
    rw [if_neg k47] at hs
    by_cases k32 : (tq j).1 = 32
    · rw [if_pos k32] at hs; exact INp_2 hs (by decide) i3 i1 i2 i4 (jn j (by omega)) i6
    rw [if_neg k32] at hs
    by_cases k25 : (tq j).1 = 25
    · rw [if_pos k25] at hs; exact INp_2 hs (by decide) i3 i1 i2 i4 (jn j (by omega)) i6
    rw [if_neg k25] at hs
    by_cases k31 : (tq j).1 = 31 ∧ askA P = true
    · rw [if_pos k31] at hs; exact INp_2 hs (by decide) i3 i1 i2 i4 (jn j (by omega)) i6
    rw [if_neg k31] at hs
    cases hs
  | true =>
    have hs : behS tq P j o c = .inl S' := hs
    unfold behS at hs
    by_cases zb : 0 ≤ btw (tq j).1 P
    · rw [if_pos zb] at hs
      have hs := (Sum.inl.inj hs).symm
      subst hs
      have bd := btw_d (tq j).1 P
      have bk : (tq j).1 ≠ 62 := by
        rcases btw_c (tq j).1 P with h | h
        · omega
        · exact h.2
      have jc := jn j bk
      generalize btw (tq j).1 P = B at *
      have rb : 1 ≤ rankO B := by unfold rankO; rw [if_neg (by omega)]; (repeat' split) <;> omega
      obtain ⟨y1, y2, y3, y4, y5⟩ := stJ_I rb P o i3 i1
      rw [stJ_c P o c]
      refine ⟨⟨?_, by show (stJ (rankO B) P o []).2.1 ≤ 8; omega, y1, Or.inr ?_⟩, ?_, by show j + 1 ≤ cnt; omega, i6⟩
      · show (stJ (rankO B) P o []).2.1 = opo B + opl (stJ (rankO B) P o []).1
        rw [opq_0 (by omega), Nat.zero_add]; exact y2
      · cases hP : (stJ (rankO B) P o []).1 with
        | nil => show 0 < rankO B; omega
        | cons x R => exact y4 x R hP
      · show w0 + (c ++ (stJ (rankO B) P o []).2.2).length + (B :: (stJ (rankO B) P o []).1).length ≤ j + 1
        rw [List.length_append, List.length_cons]; omega
    rw [if_neg zb] at hs
    by_cases zp : 0 ≤ prtO (tq j).1 P
    · rw [if_pos zp] at hs
      rcases prt_c (tq j).1 P with h | ⟨p1, p2, p3⟩
      · omega
      have jc := jn j p2
      obtain ⟨y1, y2, y3, y4, y5⟩ := stJ_I (least := 1) (by decide) P o i3 i1
      obtain ⟨R, eR⟩ := stJ_x (least := 1) (by decide) P o p3 (by decide)
      rw [stJ_c P o c] at hs
      rw [eR] at y1 y2 y3 hs
      have hlR : (opJ P :: R).length = R.length + 1 := List.length_cons
      have e2 : (stJ 1 P o []).2.1 = 1 + opl R := by rw [y2]; show opo (opJ P) + opl R = _; rw [opo_1 (Or.inl p3)]
      unfold prt2 at hs
      by_cases p0 : 0 < prtO (tq j).1 P
      · rw [if_pos p0] at hs
        have hs := (Sum.inl.inj hs).symm
        subst hs
        have ox : opo (prtO (tq j).1 P) = 1 := opo_1 (Or.inl (by omega))
        refine ⟨⟨?_, by show (stJ 1 P o []).2.1 ≤ 8; omega, y1.1, Or.inl ox⟩, ?_, by show j + 1 ≤ cnt; omega, i6⟩
        · show (stJ 1 P o []).2.1 = opo (prtO (tq j).1 P) + opl R
          rw [ox]; exact e2
        · show w0 + (c ++ (stJ 1 P o []).2.2).length + (prtO (tq j).1 P :: R).length ≤ j + 1
          rw [List.length_append, List.length_cons]; omega
      · rw [if_neg p0] at hs
        have hs := (Sum.inl.inj hs).symm
        have eo : (stJ 1 P o []).2.1 - 1 = opl R := by omega
        obtain ⟨c2, hc2, hl2⟩ : ∃ c2, (if opJ P = 43 then (c ++ (stJ 1 P o []).2.2) ++ [((3 : Int), (0 : Int))] else c ++ (stJ 1 P o []).2.2) = c2 ∧ c2.length ≤ (c ++ (stJ 1 P o []).2.2).length + 1 := by
          refine ⟨_, rfl, ?_⟩
          split
          · rw [List.length_append]; exact Nat.le_refl _
          · omega
        have hs : S' = ((stJ 7 R ((stJ 1 P o []).2.1 - 1) (if opJ P = 43 then (c ++ (stJ 1 P o []).2.2) ++ [((3 : Int), (0 : Int))] else c ++ (stJ 1 P o []).2.2)).1, true, j + 1, (stJ 7 R ((stJ 1 P o []).2.1 - 1) (if opJ P = 43 then (c ++ (stJ 1 P o []).2.2) ++ [((3 : Int), (0 : Int))] else c ++ (stJ 1 P o []).2.2)).2.1, (stJ 7 R ((stJ 1 P o []).2.1 - 1) (if opJ P = 43 then (c ++ (stJ 1 P o []).2.2) ++ [((3 : Int), (0 : Int))] else c ++ (stJ 1 P o []).2.2)).2.2) := hs
        rw [hc2, eo, stJ_c R (opl R) c2] at hs
        subst hs
        obtain ⟨u1, u2, u3, u4, u5⟩ := stJ_I (least := 7) (by decide) R (opl R) y1.1 rfl
        refine ⟨⟨u2, by show (stJ 7 R (opl R) []).2.1 ≤ 8; omega, u1⟩, ?_, by show j + 1 ≤ cnt; omega, i6⟩
        show w0 + (c2 ++ (stJ 7 R (opl R) []).2.2).length + (stJ 7 R (opl R) []).1.length ≤ j + 1
        rw [List.length_append] at hl2 ⊢
        omega
    · rw [if_neg zp] at hs
      split at hs <;> cases hs
/-- what a sum comes to -/
def SUq (h : AH) (tq : Nat → Int × Int) (plp : Nat → Int) (ep : Nat → Nat) (J w0 : Nat) (so on : Int) (g0 : Nat → Int) (f : Int) (jf : Nat) (c : oCd) (r : Option AV) (gh : AH) : Prop := r = some (vI f) ∧ (f ≠ 0 → MFt h plp so on jf gh) ∧ (f = 0 → ∃ tk nu wd pi op pf, TKR (tq jf) tk nu wd ∧ gh = hM h (ep (jf + 1)) (plp jf) tk nu wd (w0 + c.length) so pi op 1 on pf (wrC (753 * J + 145) w0 c g0))
set_option maxHeartbeats 8000000 in
theorem SU_l {d : Nat} {h : AH} {J n : Nat} {b : Nat → Int} (hb : MB h J n b) {tq : Nat → Int × Int} {plp : Nat → Int} {ep : Nat → Nat} {cnt w0 : Nat} {so on : Int} {g0 : Nat → Int} (hn : NTp h tq plp ep cnt) (hq : ∀ i, cnt ≤ i → (tq i).1 = 62) {f : Int} {jf : Nat} {c' : oCd} : ∀ (n : Nat) (S : oSt) (gh : AH) (l1 : Option AV), (l1 = none ∨ ∃ x, l1 = some (vI x)) → INp cnt w0 S → MRp h tq plp ep J w0 so on g0 S gh → opRun so tq n S = .inr (f, jf, c') → XP (d + 9) 222 15 [some (vR 76), l1] [] gh (SUq h tq plp ep J w0 so on g0 f jf c') := by
  intro n
  induction n with
  | zero => intro S gh l1 _ _ _ hr; cases hr
  | succ n ih =>
    intro S gh l1 hl1 hI hM0 hr
    have hr : (match opSt so tq S with | .inl S' => opRun so tq n S' | .inr r => .inr r) = .inr (f, jf, c') := hr
    obtain ⟨P, w, j, o, c⟩ := S
    have iL : P.length ≤ 71 := INp_l hI
    obtain ⟨tk, nu, wd, pf, t0, hp, hg⟩ := id hM0
    have t0 : TKR (tq j) tk nu wd := t0
    have hp : PLf pf P := hp
    cases w with
    | true =>
      have hp : PLf pf P := hp
      have t0 : TKR (tq j) tk nu wd := t0
      have hg : gh = hM h (ep (j + 1)) (plp j) tk nu wd (w0 + c.length) so P.length o 1 on pf (wrC (753 * J + 145) w0 c g0) := hg
      subst hg
      rcases E_be (d := d + 3) hb hn hq hI hM0 with ⟨S', gh', hs, hM', e⟩ | ⟨⟨zb, zp⟩, e⟩
      · rw [hs] at hr
        have y := ih S' gh' l1 hl1 (INp_n hq hI hs) hM' hr
        refine xpk_sound (stops := [15]) (n := 20) ?_
        simp only [sk_0, sk_1, sk_2, sk_3, sk_4, sk_5, sk_6, sk_7, sk_8, sk_iadd, sk_isub, sk_imul, sk_iand, sk_ior, sk_ixor, sk_ishl, sk_ishr, sk_iushr, sk_idiv, sk_irem, sk_ineg, sk_ladd, sk_lsub, sk_lmul, sk_land, sk_lor, sk_ldiv, sk_lrem, sk_lneg, sk_lshl, sk_lshr, sk_i2l, sk_l2i, sk_lcmp, sk_dupI, sk_dupR, sk_dup2L, sk_dup2I, sk_popI, sk_ifeq, sk_ifne, sk_iflt, sk_ifge, sk_ifgt, sk_ifle, sk_iceq, sk_icne, sk_iclt, sk_icge, sk_icgt, sk_icle, sk_goto, sk_getf, sk_putf, sk_gets, sk_iald, sk_lald, sk_bald, sk_aald, sk_iast, sk_last, sk_bast, sk_aast, sk_alen, sk_newa, sk_newt, sk_new, sk_cs1, sk_cs2, sk_cs3, sk_cs4, sk_cs5, sk_cs6, sk_cv1, sk_cv2, sk_cv3, sk_cv4, sk_cv5, sk_cv6, sk_ci1, sk_ci2, sk_ci3, sk_ret0, sk_retI, sk_retL, sk_retR, sk_sw, sk_oin, sk_max, sk_min, sk_abs, lI_0, lI_s, lL_0, lL_s, lR_0, lR_s, vIo_e, vLo_e, vOo_e, stW_I, stW_L, stW_R, stW_0, stW_z, okSt_0, okSt_s, hV_eq, hK_eq, okF_0, okF_1, okF_3, is01_0, is01_1, is01_i, Int.toNat_natCast, Int.reduceEq, Int.reduceLE, Int.reduceLT, Int.reduceNeg, Nat.reduceLT, not_true_eq_false, not_false_eq_true, reduceIte, Option.toList, List.cons_append, List.nil_append, List.set_cons_zero, List.set_cons_succ, List.not_mem_nil, List.mem_cons, if_false, if_true, ite_true, ite_false, and_self, and_true, true_and, Nat.reduceAdd, Nat.reduceLeDiff, Nat.reduceEqDiff, Nat.zero_add, Nat.le_refl, Nat.zero_le, or_false, false_or, Int.reduceToNat, or_true, true_or, eq_self, and_false, false_and, inR_d, nc_4, nc_5, nc_6, nc_7, nc_8, nc_16, nc_18, nc_20, nc_24, nc_32, nc_40, nc_64, nc_104, nc_120, nc_160, nc_256, nc_300, nc_330, nc_390, nc_1200, nc_1260, nc_3012, nc_9834, okSt_1i, okSt_1r, okSt_1n, List.length_cons, List.length_nil, xpk_succ cd_222_15, xpk_succ cd_222_16, xpk_succ cd_222_19, xpk_succ cd_222_22, xpk_succ cd_222_23, xpk_succ cd_222_26, xpk_succ cd_222_29, xpk_succ cd_222_32, xpk_succ cd_222_33, xpk_succ cd_222_36, xpk_succ cd_222_39, xpk_succ cd_222_40, xpk_succ cd_222_41, xpk_succ cd_222_42, xpk_succ cd_222_43, xpk_succ cd_222_46, xpk_succ cd_222_47, xpk_succ cd_222_48, xpk_succ cd_222_49, xpk_succ cd_222_52, xpk_succ cd_222_53, xpk_succ cd_222_54, xpk_succ cd_222_57, xpk_succ cd_222_58, xpk_succ cd_222_59, hM_7, hM_8, hM_9, hM_10, hM_11, hM_13, hM_14, hM_16, hM_17, hM_18, hM_19, hM_s7, hM_s8, hM_s9, hM_s10, hM_s11, hM_s13, hM_s14, hM_s16, hM_s17, hM_s18, hM_s19, hK_M, (M_2 hb), (M_3 hb), (M_4 hb), (M_12 hb), (M_15 hb), hb.2.1.1, hb.2.1.2.1, hb.2.1.2.2.1, hb.2.1.2.2.2, e]
        exact y
      · have eo := fun Q => E_on (d := d + 7) hb (a := ep (j + 1)) (pl := plp j) (tk := tk) (nu := nu) (wd := wd) (wr := w0 + c.length) (so := so) (op := o) (wh := 1) (on := on) (g := wrC (753 * J + 145) w0 c g0) hp (by omega) Q
        by_cases z0 : 0 ≤ opJ P
        · have hs : opSt so tq (P, true, j, o, c) = .inr (1, j, c) := by
            show behS tq P j o c = _
            unfold behS
            rw [zb, zp, if_neg (by decide), if_neg (by decide), if_pos z0]
          rw [hs] at hr
          cases hr
          have z0' : ¬ (opJ P < 0) := by omega
          have y : SUq h tq plp ep J w0 so on g0 1 jf c' (some (vI 1)) (hM h (ep (jf + 1)) (plp jf) tk nu wd (w0 + c'.length) so P.length o 1 on pf (wrC (753 * J + 145) w0 c' g0)) := ⟨rfl, fun _ => ⟨_, _, _, _, _, _, _, _, _, _, rfl⟩, fun q => absurd q (by decide)⟩
          refine xpk_sound (stops := []) (n := 30) ?_
          simp only [sk_0, sk_1, sk_2, sk_3, sk_4, sk_5, sk_6, sk_7, sk_8, sk_iadd, sk_isub, sk_imul, sk_iand, sk_ior, sk_ixor, sk_ishl, sk_ishr, sk_iushr, sk_idiv, sk_irem, sk_ineg, sk_ladd, sk_lsub, sk_lmul, sk_land, sk_lor, sk_ldiv, sk_lrem, sk_lneg, sk_lshl, sk_lshr, sk_i2l, sk_l2i, sk_lcmp, sk_dupI, sk_dupR, sk_dup2L, sk_dup2I, sk_popI, sk_ifeq, sk_ifne, sk_iflt, sk_ifge, sk_ifgt, sk_ifle, sk_iceq, sk_icne, sk_iclt, sk_icge, sk_icgt, sk_icle, sk_goto, sk_getf, sk_putf, sk_gets, sk_iald, sk_lald, sk_bald, sk_aald, sk_iast, sk_last, sk_bast, sk_aast, sk_alen, sk_newa, sk_newt, sk_new, sk_cs1, sk_cs2, sk_cs3, sk_cs4, sk_cs5, sk_cs6, sk_cv1, sk_cv2, sk_cv3, sk_cv4, sk_cv5, sk_cv6, sk_ci1, sk_ci2, sk_ci3, sk_ret0, sk_retI, sk_retL, sk_retR, sk_sw, sk_oin, sk_max, sk_min, sk_abs, lI_0, lI_s, lL_0, lL_s, lR_0, lR_s, vIo_e, vLo_e, vOo_e, stW_I, stW_L, stW_R, stW_0, stW_z, okSt_0, okSt_s, hV_eq, hK_eq, okF_0, okF_1, okF_3, is01_0, is01_1, is01_i, Int.toNat_natCast, Int.reduceEq, Int.reduceLE, Int.reduceLT, Int.reduceNeg, Nat.reduceLT, not_true_eq_false, not_false_eq_true, reduceIte, Option.toList, List.cons_append, List.nil_append, List.set_cons_zero, List.set_cons_succ, List.not_mem_nil, List.mem_cons, if_false, if_true, ite_true, ite_false, and_self, and_true, true_and, Nat.reduceAdd, Nat.reduceLeDiff, Nat.reduceEqDiff, Nat.zero_add, Nat.le_refl, Nat.zero_le, or_false, false_or, Int.reduceToNat, or_true, true_or, eq_self, and_false, false_and, inR_d, nc_4, nc_5, nc_6, nc_7, nc_8, nc_16, nc_18, nc_20, nc_24, nc_32, nc_40, nc_64, nc_104, nc_120, nc_160, nc_256, nc_300, nc_330, nc_390, nc_1200, nc_1260, nc_3012, nc_9834, okSt_1i, okSt_1r, okSt_1n, List.length_cons, List.length_nil, xpk_succ cd_222_15, xpk_succ cd_222_16, xpk_succ cd_222_19, xpk_succ cd_222_22, xpk_succ cd_222_23, xpk_succ cd_222_26, xpk_succ cd_222_29, xpk_succ cd_222_32, xpk_succ cd_222_33, xpk_succ cd_222_36, xpk_succ cd_222_39, xpk_succ cd_222_40, xpk_succ cd_222_41, xpk_succ cd_222_42, xpk_succ cd_222_43, xpk_succ cd_222_46, xpk_succ cd_222_47, xpk_succ cd_222_48, xpk_succ cd_222_49, xpk_succ cd_222_52, xpk_succ cd_222_53, xpk_succ cd_222_54, xpk_succ cd_222_57, xpk_succ cd_222_58, xpk_succ cd_222_59, hM_7, hM_8, hM_9, hM_10, hM_11, hM_13, hM_14, hM_16, hM_17, hM_18, hM_19, hM_s7, hM_s8, hM_s9, hM_s10, hM_s11, hM_s13, hM_s14, hM_s16, hM_s17, hM_s18, hM_s19, hK_M, (M_2 hb), (M_3 hb), (M_4 hb), (M_12 hb), (M_15 hb), hb.2.1.1, hb.2.1.2.1, hb.2.1.2.2.1, hb.2.1.2.2.2, e, eo, z0']
          exact y
        · have hs : opSt so tq (P, true, j, o, c) = .inr (0, j, (stJ 1 P o c).2.2) := by
            show behS tq P j o c = _
            unfold behS
            rw [zb, zp, if_neg (by decide), if_neg (by decide), if_neg z0]
          rw [hs] at hr
          cases hr
          have z0' : opJ P < 0 := by omega
          obtain ⟨⟨i1, i2, i3⟩, i4, i5, i6⟩ := id hI
          have i4 : w0 + c.length + P.length ≤ jf := i4
          have i5 : jf ≤ cnt := i5
          have i2 : o ≤ 8 := i2
          have hp : PLf pf P := hp
          have i1 : o = opl P := i1
          have es := fun Q => E_st (d := d + 7) hb (least := 1) (by decide) (a := ep (jf + 1)) (pl := plp jf) (tk := tk) (nu := nu) (wd := wd) (wr := w0 + c.length) (so := so) (op := o) (wh := 1) (on := on) (g := wrC (753 * J + 145) w0 c g0) hp (by omega) i1 (by omega) (by omega) Q
          have y : SUq h tq plp ep J w0 so on g0 0 jf (stJ 1 P o c).2.2 (some (vI 0)) (hM h (ep (jf + 1)) (plp jf) tk nu wd (w0 + c.length + (stJ 1 P o []).2.2.length) so (stJ 1 P o []).1.length (stJ 1 P o []).2.1 1 on pf (wrC (753 * J + 145) (w0 + c.length) (stJ 1 P o []).2.2 (wrC (753 * J + 145) w0 c g0))) := by
            refine ⟨rfl, fun q => absurd rfl q, fun _ => ⟨tk, nu, wd, (stJ 1 P o []).1.length, (stJ 1 P o []).2.1, pf, t0, ?_⟩⟩
            rw [stJ_c P o c, wrC_2, len_2]
          refine xpk_sound (stops := []) (n := 30) ?_
          simp only [sk_0, sk_1, sk_2, sk_3, sk_4, sk_5, sk_6, sk_7, sk_8, sk_iadd, sk_isub, sk_imul, sk_iand, sk_ior, sk_ixor, sk_ishl, sk_ishr, sk_iushr, sk_idiv, sk_irem, sk_ineg, sk_ladd, sk_lsub, sk_lmul, sk_land, sk_lor, sk_ldiv, sk_lrem, sk_lneg, sk_lshl, sk_lshr, sk_i2l, sk_l2i, sk_lcmp, sk_dupI, sk_dupR, sk_dup2L, sk_dup2I, sk_popI, sk_ifeq, sk_ifne, sk_iflt, sk_ifge, sk_ifgt, sk_ifle, sk_iceq, sk_icne, sk_iclt, sk_icge, sk_icgt, sk_icle, sk_goto, sk_getf, sk_putf, sk_gets, sk_iald, sk_lald, sk_bald, sk_aald, sk_iast, sk_last, sk_bast, sk_aast, sk_alen, sk_newa, sk_newt, sk_new, sk_cs1, sk_cs2, sk_cs3, sk_cs4, sk_cs5, sk_cs6, sk_cv1, sk_cv2, sk_cv3, sk_cv4, sk_cv5, sk_cv6, sk_ci1, sk_ci2, sk_ci3, sk_ret0, sk_retI, sk_retL, sk_retR, sk_sw, sk_oin, sk_max, sk_min, sk_abs, lI_0, lI_s, lL_0, lL_s, lR_0, lR_s, vIo_e, vLo_e, vOo_e, stW_I, stW_L, stW_R, stW_0, stW_z, okSt_0, okSt_s, hV_eq, hK_eq, okF_0, okF_1, okF_3, is01_0, is01_1, is01_i, Int.toNat_natCast, Int.reduceEq, Int.reduceLE, Int.reduceLT, Int.reduceNeg, Nat.reduceLT, not_true_eq_false, not_false_eq_true, reduceIte, Option.toList, List.cons_append, List.nil_append, List.set_cons_zero, List.set_cons_succ, List.not_mem_nil, List.mem_cons, if_false, if_true, ite_true, ite_false, and_self, and_true, true_and, Nat.reduceAdd, Nat.reduceLeDiff, Nat.reduceEqDiff, Nat.zero_add, Nat.le_refl, Nat.zero_le, or_false, false_or, Int.reduceToNat, or_true, true_or, eq_self, and_false, false_and, inR_d, nc_4, nc_5, nc_6, nc_7, nc_8, nc_16, nc_18, nc_20, nc_24, nc_32, nc_40, nc_64, nc_104, nc_120, nc_160, nc_256, nc_300, nc_330, nc_390, nc_1200, nc_1260, nc_3012, nc_9834, okSt_1i, okSt_1r, okSt_1n, List.length_cons, List.length_nil, xpk_succ cd_222_15, xpk_succ cd_222_16, xpk_succ cd_222_19, xpk_succ cd_222_22, xpk_succ cd_222_23, xpk_succ cd_222_26, xpk_succ cd_222_29, xpk_succ cd_222_32, xpk_succ cd_222_33, xpk_succ cd_222_36, xpk_succ cd_222_39, xpk_succ cd_222_40, xpk_succ cd_222_41, xpk_succ cd_222_42, xpk_succ cd_222_43, xpk_succ cd_222_46, xpk_succ cd_222_47, xpk_succ cd_222_48, xpk_succ cd_222_49, xpk_succ cd_222_52, xpk_succ cd_222_53, xpk_succ cd_222_54, xpk_succ cd_222_57, xpk_succ cd_222_58, xpk_succ cd_222_59, hM_7, hM_8, hM_9, hM_10, hM_11, hM_13, hM_14, hM_16, hM_17, hM_18, hM_19, hM_s7, hM_s8, hM_s9, hM_s10, hM_s11, hM_s13, hM_s14, hM_s16, hM_s17, hM_s18, hM_s19, hK_M, (M_2 hb), (M_3 hb), (M_4 hb), (M_12 hb), (M_15 hb), hb.2.1.1, hb.2.1.2.1, hb.2.1.2.2.1, hb.2.1.2.2.2, e, eo, z0', es]
          exact y
    | false =>
      have hp : PLf pf P := hp
      have t0 : TKR (tq j) tk nu wd := t0
      have hg : gh = hM h (ep (j + 1)) (plp j) tk nu wd (w0 + c.length) so P.length o 0 on pf (wrC (753 * J + 145) w0 c g0) := hg
      obtain ⟨r, gh', hB, e⟩ := E_bg (d := d + 1) hb hn hq hI hM0
      subst hg
      rcases hB with ⟨S', hs, rfl, hM'⟩ | ⟨f1, jf1, c1, hs, hf, rfl, hF⟩
      · rw [hs] at hr
        have y := fun l1 hl1 => ih S' gh' l1 hl1 (INp_n hq hI hs) hM' hr
        have y := y (some (vI 0)) (Or.inr ⟨0, rfl⟩)
        rcases hl1 with rfl | ⟨x, rfl⟩
        · refine xpk_sound (stops := [15]) (n := 20) ?_
          simp only [sk_0, sk_1, sk_2, sk_3, sk_4, sk_5, sk_6, sk_7, sk_8, sk_iadd, sk_isub, sk_imul, sk_iand, sk_ior, sk_ixor, sk_ishl, sk_ishr, sk_iushr, sk_idiv, sk_irem, sk_ineg, sk_ladd, sk_lsub, sk_lmul, sk_land, sk_lor, sk_ldiv, sk_lrem, sk_lneg, sk_lshl, sk_lshr, sk_i2l, sk_l2i, sk_lcmp, sk_dupI, sk_dupR, sk_dup2L, sk_dup2I, sk_popI, sk_ifeq, sk_ifne, sk_iflt, sk_ifge, sk_ifgt, sk_ifle, sk_iceq, sk_icne, sk_iclt, sk_icge, sk_icgt, sk_icle, sk_goto, sk_getf, sk_putf, sk_gets, sk_iald, sk_lald, sk_bald, sk_aald, sk_iast, sk_last, sk_bast, sk_aast, sk_alen, sk_newa, sk_newt, sk_new, sk_cs1, sk_cs2, sk_cs3, sk_cs4, sk_cs5, sk_cs6, sk_cv1, sk_cv2, sk_cv3, sk_cv4, sk_cv5, sk_cv6, sk_ci1, sk_ci2, sk_ci3, sk_ret0, sk_retI, sk_retL, sk_retR, sk_sw, sk_oin, sk_max, sk_min, sk_abs, lI_0, lI_s, lL_0, lL_s, lR_0, lR_s, vIo_e, vLo_e, vOo_e, stW_I, stW_L, stW_R, stW_0, stW_z, okSt_0, okSt_s, hV_eq, hK_eq, okF_0, okF_1, okF_3, is01_0, is01_1, is01_i, Int.toNat_natCast, Int.reduceEq, Int.reduceLE, Int.reduceLT, Int.reduceNeg, Nat.reduceLT, not_true_eq_false, not_false_eq_true, reduceIte, Option.toList, List.cons_append, List.nil_append, List.set_cons_zero, List.set_cons_succ, List.not_mem_nil, List.mem_cons, if_false, if_true, ite_true, ite_false, and_self, and_true, true_and, Nat.reduceAdd, Nat.reduceLeDiff, Nat.reduceEqDiff, Nat.zero_add, Nat.le_refl, Nat.zero_le, or_false, false_or, Int.reduceToNat, or_true, true_or, eq_self, and_false, false_and, inR_d, nc_4, nc_5, nc_6, nc_7, nc_8, nc_16, nc_18, nc_20, nc_24, nc_32, nc_40, nc_64, nc_104, nc_120, nc_160, nc_256, nc_300, nc_330, nc_390, nc_1200, nc_1260, nc_3012, nc_9834, okSt_1i, okSt_1r, okSt_1n, List.length_cons, List.length_nil, xpk_succ cd_222_15, xpk_succ cd_222_16, xpk_succ cd_222_19, xpk_succ cd_222_22, xpk_succ cd_222_23, xpk_succ cd_222_26, xpk_succ cd_222_29, xpk_succ cd_222_32, xpk_succ cd_222_33, xpk_succ cd_222_36, xpk_succ cd_222_39, xpk_succ cd_222_40, xpk_succ cd_222_41, xpk_succ cd_222_42, xpk_succ cd_222_43, xpk_succ cd_222_46, xpk_succ cd_222_47, xpk_succ cd_222_48, xpk_succ cd_222_49, xpk_succ cd_222_52, xpk_succ cd_222_53, xpk_succ cd_222_54, xpk_succ cd_222_57, xpk_succ cd_222_58, xpk_succ cd_222_59, hM_7, hM_8, hM_9, hM_10, hM_11, hM_13, hM_14, hM_16, hM_17, hM_18, hM_19, hM_s7, hM_s8, hM_s9, hM_s10, hM_s11, hM_s13, hM_s14, hM_s16, hM_s17, hM_s18, hM_s19, hK_M, (M_2 hb), (M_3 hb), (M_4 hb), (M_12 hb), (M_15 hb), hb.2.1.1, hb.2.1.2.1, hb.2.1.2.2.1, hb.2.1.2.2.2, e]
          exact y
        · refine xpk_sound (stops := [15]) (n := 20) ?_
          simp only [sk_0, sk_1, sk_2, sk_3, sk_4, sk_5, sk_6, sk_7, sk_8, sk_iadd, sk_isub, sk_imul, sk_iand, sk_ior, sk_ixor, sk_ishl, sk_ishr, sk_iushr, sk_idiv, sk_irem, sk_ineg, sk_ladd, sk_lsub, sk_lmul, sk_land, sk_lor, sk_ldiv, sk_lrem, sk_lneg, sk_lshl, sk_lshr, sk_i2l, sk_l2i, sk_lcmp, sk_dupI, sk_dupR, sk_dup2L, sk_dup2I, sk_popI, sk_ifeq, sk_ifne, sk_iflt, sk_ifge, sk_ifgt, sk_ifle, sk_iceq, sk_icne, sk_iclt, sk_icge, sk_icgt, sk_icle, sk_goto, sk_getf, sk_putf, sk_gets, sk_iald, sk_lald, sk_bald, sk_aald, sk_iast, sk_last, sk_bast, sk_aast, sk_alen, sk_newa, sk_newt, sk_new, sk_cs1, sk_cs2, sk_cs3, sk_cs4, sk_cs5, sk_cs6, sk_cv1, sk_cv2, sk_cv3, sk_cv4, sk_cv5, sk_cv6, sk_ci1, sk_ci2, sk_ci3, sk_ret0, sk_retI, sk_retL, sk_retR, sk_sw, sk_oin, sk_max, sk_min, sk_abs, lI_0, lI_s, lL_0, lL_s, lR_0, lR_s, vIo_e, vLo_e, vOo_e, stW_I, stW_L, stW_R, stW_0, stW_z, okSt_0, okSt_s, hV_eq, hK_eq, okF_0, okF_1, okF_3, is01_0, is01_1, is01_i, Int.toNat_natCast, Int.reduceEq, Int.reduceLE, Int.reduceLT, Int.reduceNeg, Nat.reduceLT, not_true_eq_false, not_false_eq_true, reduceIte, Option.toList, List.cons_append, List.nil_append, List.set_cons_zero, List.set_cons_succ, List.not_mem_nil, List.mem_cons, if_false, if_true, ite_true, ite_false, and_self, and_true, true_and, Nat.reduceAdd, Nat.reduceLeDiff, Nat.reduceEqDiff, Nat.zero_add, Nat.le_refl, Nat.zero_le, or_false, false_or, Int.reduceToNat, or_true, true_or, eq_self, and_false, false_and, inR_d, nc_4, nc_5, nc_6, nc_7, nc_8, nc_16, nc_18, nc_20, nc_24, nc_32, nc_40, nc_64, nc_104, nc_120, nc_160, nc_256, nc_300, nc_330, nc_390, nc_1200, nc_1260, nc_3012, nc_9834, okSt_1i, okSt_1r, okSt_1n, List.length_cons, List.length_nil, xpk_succ cd_222_15, xpk_succ cd_222_16, xpk_succ cd_222_19, xpk_succ cd_222_22, xpk_succ cd_222_23, xpk_succ cd_222_26, xpk_succ cd_222_29, xpk_succ cd_222_32, xpk_succ cd_222_33, xpk_succ cd_222_36, xpk_succ cd_222_39, xpk_succ cd_222_40, xpk_succ cd_222_41, xpk_succ cd_222_42, xpk_succ cd_222_43, xpk_succ cd_222_46, xpk_succ cd_222_47, xpk_succ cd_222_48, xpk_succ cd_222_49, xpk_succ cd_222_52, xpk_succ cd_222_53, xpk_succ cd_222_54, xpk_succ cd_222_57, xpk_succ cd_222_58, xpk_succ cd_222_59, hM_7, hM_8, hM_9, hM_10, hM_11, hM_13, hM_14, hM_16, hM_17, hM_18, hM_19, hM_s7, hM_s8, hM_s9, hM_s10, hM_s11, hM_s13, hM_s14, hM_s16, hM_s17, hM_s18, hM_s19, hK_M, (M_2 hb), (M_3 hb), (M_4 hb), (M_12 hb), (M_15 hb), hb.2.1.1, hb.2.1.2.1, hb.2.1.2.2.1, hb.2.1.2.2.2, e]
          exact y
      · rw [hs] at hr
        cases hr
        have y : SUq h tq plp ep J w0 so on g0 f jf c' (some (vI f)) gh' := ⟨rfl, fun _ => hF, fun q => absurd q hf⟩
        rcases hl1 with rfl | ⟨x, rfl⟩
        · refine xpk_sound (stops := []) (n := 20) ?_
          simp only [sk_0, sk_1, sk_2, sk_3, sk_4, sk_5, sk_6, sk_7, sk_8, sk_iadd, sk_isub, sk_imul, sk_iand, sk_ior, sk_ixor, sk_ishl, sk_ishr, sk_iushr, sk_idiv, sk_irem, sk_ineg, sk_ladd, sk_lsub, sk_lmul, sk_land, sk_lor, sk_ldiv, sk_lrem, sk_lneg, sk_lshl, sk_lshr, sk_i2l, sk_l2i, sk_lcmp, sk_dupI, sk_dupR, sk_dup2L, sk_dup2I, sk_popI, sk_ifeq, sk_ifne, sk_iflt, sk_ifge, sk_ifgt, sk_ifle, sk_iceq, sk_icne, sk_iclt, sk_icge, sk_icgt, sk_icle, sk_goto, sk_getf, sk_putf, sk_gets, sk_iald, sk_lald, sk_bald, sk_aald, sk_iast, sk_last, sk_bast, sk_aast, sk_alen, sk_newa, sk_newt, sk_new, sk_cs1, sk_cs2, sk_cs3, sk_cs4, sk_cs5, sk_cs6, sk_cv1, sk_cv2, sk_cv3, sk_cv4, sk_cv5, sk_cv6, sk_ci1, sk_ci2, sk_ci3, sk_ret0, sk_retI, sk_retL, sk_retR, sk_sw, sk_oin, sk_max, sk_min, sk_abs, lI_0, lI_s, lL_0, lL_s, lR_0, lR_s, vIo_e, vLo_e, vOo_e, stW_I, stW_L, stW_R, stW_0, stW_z, okSt_0, okSt_s, hV_eq, hK_eq, okF_0, okF_1, okF_3, is01_0, is01_1, is01_i, Int.toNat_natCast, Int.reduceEq, Int.reduceLE, Int.reduceLT, Int.reduceNeg, Nat.reduceLT, not_true_eq_false, not_false_eq_true, reduceIte, Option.toList, List.cons_append, List.nil_append, List.set_cons_zero, List.set_cons_succ, List.not_mem_nil, List.mem_cons, if_false, if_true, ite_true, ite_false, and_self, and_true, true_and, Nat.reduceAdd, Nat.reduceLeDiff, Nat.reduceEqDiff, Nat.zero_add, Nat.le_refl, Nat.zero_le, or_false, false_or, Int.reduceToNat, or_true, true_or, eq_self, and_false, false_and, inR_d, nc_4, nc_5, nc_6, nc_7, nc_8, nc_16, nc_18, nc_20, nc_24, nc_32, nc_40, nc_64, nc_104, nc_120, nc_160, nc_256, nc_300, nc_330, nc_390, nc_1200, nc_1260, nc_3012, nc_9834, okSt_1i, okSt_1r, okSt_1n, List.length_cons, List.length_nil, xpk_succ cd_222_15, xpk_succ cd_222_16, xpk_succ cd_222_19, xpk_succ cd_222_22, xpk_succ cd_222_23, xpk_succ cd_222_26, xpk_succ cd_222_29, xpk_succ cd_222_32, xpk_succ cd_222_33, xpk_succ cd_222_36, xpk_succ cd_222_39, xpk_succ cd_222_40, xpk_succ cd_222_41, xpk_succ cd_222_42, xpk_succ cd_222_43, xpk_succ cd_222_46, xpk_succ cd_222_47, xpk_succ cd_222_48, xpk_succ cd_222_49, xpk_succ cd_222_52, xpk_succ cd_222_53, xpk_succ cd_222_54, xpk_succ cd_222_57, xpk_succ cd_222_58, xpk_succ cd_222_59, hM_7, hM_8, hM_9, hM_10, hM_11, hM_13, hM_14, hM_16, hM_17, hM_18, hM_19, hM_s7, hM_s8, hM_s9, hM_s10, hM_s11, hM_s13, hM_s14, hM_s16, hM_s17, hM_s18, hM_s19, hK_M, (M_2 hb), (M_3 hb), (M_4 hb), (M_12 hb), (M_15 hb), hb.2.1.1, hb.2.1.2.1, hb.2.1.2.2.1, hb.2.1.2.2.2, e, hf]
          exact y
        · refine xpk_sound (stops := []) (n := 20) ?_
          simp only [sk_0, sk_1, sk_2, sk_3, sk_4, sk_5, sk_6, sk_7, sk_8, sk_iadd, sk_isub, sk_imul, sk_iand, sk_ior, sk_ixor, sk_ishl, sk_ishr, sk_iushr, sk_idiv, sk_irem, sk_ineg, sk_ladd, sk_lsub, sk_lmul, sk_land, sk_lor, sk_ldiv, sk_lrem, sk_lneg, sk_lshl, sk_lshr, sk_i2l, sk_l2i, sk_lcmp, sk_dupI, sk_dupR, sk_dup2L, sk_dup2I, sk_popI, sk_ifeq, sk_ifne, sk_iflt, sk_ifge, sk_ifgt, sk_ifle, sk_iceq, sk_icne, sk_iclt, sk_icge, sk_icgt, sk_icle, sk_goto, sk_getf, sk_putf, sk_gets, sk_iald, sk_lald, sk_bald, sk_aald, sk_iast, sk_last, sk_bast, sk_aast, sk_alen, sk_newa, sk_newt, sk_new, sk_cs1, sk_cs2, sk_cs3, sk_cs4, sk_cs5, sk_cs6, sk_cv1, sk_cv2, sk_cv3, sk_cv4, sk_cv5, sk_cv6, sk_ci1, sk_ci2, sk_ci3, sk_ret0, sk_retI, sk_retL, sk_retR, sk_sw, sk_oin, sk_max, sk_min, sk_abs, lI_0, lI_s, lL_0, lL_s, lR_0, lR_s, vIo_e, vLo_e, vOo_e, stW_I, stW_L, stW_R, stW_0, stW_z, okSt_0, okSt_s, hV_eq, hK_eq, okF_0, okF_1, okF_3, is01_0, is01_1, is01_i, Int.toNat_natCast, Int.reduceEq, Int.reduceLE, Int.reduceLT, Int.reduceNeg, Nat.reduceLT, not_true_eq_false, not_false_eq_true, reduceIte, Option.toList, List.cons_append, List.nil_append, List.set_cons_zero, List.set_cons_succ, List.not_mem_nil, List.mem_cons, if_false, if_true, ite_true, ite_false, and_self, and_true, true_and, Nat.reduceAdd, Nat.reduceLeDiff, Nat.reduceEqDiff, Nat.zero_add, Nat.le_refl, Nat.zero_le, or_false, false_or, Int.reduceToNat, or_true, true_or, eq_self, and_false, false_and, inR_d, nc_4, nc_5, nc_6, nc_7, nc_8, nc_16, nc_18, nc_20, nc_24, nc_32, nc_40, nc_64, nc_104, nc_120, nc_160, nc_256, nc_300, nc_330, nc_390, nc_1200, nc_1260, nc_3012, nc_9834, okSt_1i, okSt_1r, okSt_1n, List.length_cons, List.length_nil, xpk_succ cd_222_15, xpk_succ cd_222_16, xpk_succ cd_222_19, xpk_succ cd_222_22, xpk_succ cd_222_23, xpk_succ cd_222_26, xpk_succ cd_222_29, xpk_succ cd_222_32, xpk_succ cd_222_33, xpk_succ cd_222_36, xpk_succ cd_222_39, xpk_succ cd_222_40, xpk_succ cd_222_41, xpk_succ cd_222_42, xpk_succ cd_222_43, xpk_succ cd_222_46, xpk_succ cd_222_47, xpk_succ cd_222_48, xpk_succ cd_222_49, xpk_succ cd_222_52, xpk_succ cd_222_53, xpk_succ cd_222_54, xpk_succ cd_222_57, xpk_succ cd_222_58, xpk_succ cd_222_59, hM_7, hM_8, hM_9, hM_10, hM_11, hM_13, hM_14, hM_16, hM_17, hM_18, hM_19, hM_s7, hM_s8, hM_s9, hM_s10, hM_s11, hM_s13, hM_s14, hM_s16, hM_s17, hM_s18, hM_s19, hK_M, (M_2 hb), (M_3 hb), (M_4 hb), (M_12 hb), (M_15 hb), hb.2.1.1, hb.2.1.2.1, hb.2.1.2.2.1, hb.2.1.2.2.2, e, hf]
          exact y
