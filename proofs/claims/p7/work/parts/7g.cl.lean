/-! a clause over tokens; a text of the class -/
def hasL (cs : List cCl) (K : Int) : Bool := cs.any fun cl => decide (cl.1 = K)
def fiV (tk : Nat → Int × Int) (K : Int) : cX → (Int × Nat) ⊕ (Nat × cCl)
  | .inl r => .inl r
  | .inr (j, vs) => if (tk j).1 = 52 then .inr (j + 1, (K, [], vs)) else .inl (1, j)
def fiC (tk : Nat → Int × Int) (K : Int) (f : Int) (jf : Nat) (c : oCd) : (Int × Nat) ⊕ (Nat × cCl) := if f ≠ 0 then .inl (f, jf) else if (tk jf).1 = 52 then .inr (jf + 1, (K, c, [])) else .inl (1, jf)
def CLo (tk : Nat → Int × Int) (cs : List cCl) (j : Nat) (out : (Int × Nat) ⊕ (Nat × cCl)) : Prop :=
  if ¬ ((tk j).1 ≤ 10 ∨ (tk j).1 = 16) then out = .inl (1, j)
  else if (tk j).1 < 5 ∧ hasL cs (tk j).1 = true then out = .inl (4, j)
  else if 24 ≤ cs.length then out = .inl (6, j)
  else if (tk j).1 < 5 then ∃ f jf c m, opRun (tk j).1 tk m ([], false, j + 1, 0, []) = .inr (f, jf, c) ∧ out = fiC tk (tk j).1 f jf c
  else out = fiV tk (tk j).1 (bdV tk (tk j).1 (j + 1))
def TXR (bg en kd ag : Nat → Int) (L : Nat) (dd : Nat → Int) (cs : List cCl) : Prop :=
  (∀ w : Nat, w < 5 → (bg w = -1 ∧ hasL cs (w : Int) = false) ∨ (∃ (a b : Nat) (cl : cCl), bg w = (a : Int) ∧ en w = (b : Int) ∧ b ≤ L ∧ cl ∈ cs ∧ cl.1 = (w : Int) ∧ Ex dd a b cl.2.1 43)) ∧ ∀ (i : Nat) (cl : cCl), cs[i]? = some cl → kd i = cl.1 ∧ ∀ (k : Nat) (v : Int), k < 5 → cl.2.2[k]? = some v → ag (i * 5 + k) = v
/-- behind a clause -/
def CLr (h : AH) (T D cnt : Nat) (n : Int) (kn vn pn : Nat → Int) (cs : List cCl) (j : Nat) (out : (Int × Nat) ⊕ (Nat × cCl)) (g : AH) : Prop := match out with
  | .inl (f, jf) => f ≠ 0 ∧ ∃ (bg en kd ag : Nat → Int) (nC : Nat) (a c l : Int) (L : Nat) (dd : Nat → Int), g = hR (hX h T bg en kd ag nC) T D a 63 c l f (plf cnt n pn jf) L dd
  | .inr (j', cl) => ∃ (bg en kd ag : Nat → Int) (l : Int) (L : Nat) (dd : Nat → Int), g = hR (hX h T bg en kd ag (cs.length + 1)) T D (j' : Int) (tkf cnt kn vn j').1 0 l 0 (-1) L dd ∧ TXR bg en kd ag L dd (cs ++ [cl]) ∧ (j < j' ∧ j' ≤ cnt ∧ L ≤ j')
theorem hasL_a {cs : List cCl} {cl : cCl} {K : Int} : hasL (cs ++ [cl]) K = (hasL cs K || decide (cl.1 = K)) := by
  unfold hasL
  rw [List.any_append]
  show (_ || (decide (cl.1 = K) || false)) = _
  rw [Bool.or_false]
theorem hasL_m {cs : List cCl} {cl : cCl} (h : cl ∈ cs) : hasL cs cl.1 = true := by
  unfold hasL
  rw [List.any_eq_true]
  exact ⟨cl, h, decide_eq_true rfl⟩
theorem TXR_b {bg en kd ag : Nat → Int} {L : Nat} {dd : Nat → Int} {cs : List cCl} (h : TXR bg en kd ag L dd cs) {w : Nat} (hw : w < 5) : bg w ≠ -1 ↔ hasL cs (w : Int) = true := by
  rcases h.1 w hw with ⟨h1, h2⟩ | ⟨a, b, cl, h1, h2, h3, h4, h5, h6⟩
  · exact ⟨fun y => absurd h1 y, fun y => by rw [h2] at y; cases y⟩
  · exact ⟨fun _ => by rw [← h5]; exact hasL_m h4, fun _ => by rw [h1]; omega⟩
theorem get_sn {α : Type} {cs : List α} {c x : α} {i : Nat} (h : (cs ++ [c])[i]? = some x) : (i < cs.length ∧ cs[i]? = some x) ∨ (i = cs.length ∧ x = c) := by
  by_cases z : i < cs.length
  · rw [List.getElem?_append_left z] at h; exact Or.inl ⟨z, h⟩
  · rw [List.getElem?_append_right (by omega)] at h
    by_cases z2 : i = cs.length
    · subst z2
      rw [Nat.sub_self] at h
      exact Or.inr ⟨rfl, (Option.some.inj h).symm⟩
    · obtain ⟨m, hm⟩ : ∃ m, i - cs.length = m + 1 := ⟨i - cs.length - 1, by omega⟩
      rw [hm] at h
      cases h
theorem wrL_n : ∀ (vs : List Int) (p : Nat) (g : Nat → Int) (i : Nat), i < p → wrL p vs g i = g i := by
  intro vs
  induction vs with
  | nil => intro p g i _; rfl
  | cons v vs ih =>
    intro p g i hi
    show wrL (p + 1) vs (upF g p v) i = g i
    rw [ih _ _ _ (by omega), upF_ne (by omega)]
theorem wrL_v : ∀ (vs : List Int) (p : Nat) (g : Nat → Int) (k : Nat) (v : Int), vs[k]? = some v → wrL p vs g (p + k) = v := by
  intro vs
  induction vs with
  | nil => intro p g k v h; cases h
  | cons w vs ih =>
    intro p g k v h
    show wrL (p + 1) vs (upF g p w) (p + k) = v
    cases k with
    | zero =>
      have h : w = v := Option.some.inj h
      rw [wrL_n _ _ _ _ (by omega)]
      show upF g p w p = v
      rw [upF_at]
      exact h
    | succ k =>
      rw [show p + (k + 1) = p + 1 + k by omega]
      exact ih (p + 1) (upF g p w) k v h
/-- a law comes behind the others -/
theorem TXR_l {bg en kd ag : Nat → Int} {L L' w : Nat} {dd dd' : Nat → Int} {cs : List cCl} {c : oCd} (h : TXR bg en kd ag L dd cs) (hd : ∀ i, i < L → dd' i = dd i) (hL : L ≤ L') (hw : w < 5) (hx : Ex dd' L L' c 43) : TXR (upF bg w (L : Int)) (upF en w (L' : Int)) (upF kd cs.length (w : Int)) ag L' dd' (cs ++ [((w : Int), c, [])]) := by
  refine ⟨fun v hv => ?_, fun i cl hi => ?_⟩
  · by_cases z : v = w
    · subst z
      exact Or.inr ⟨L, L', ((v : Int), c, []), upF_at, upF_at, Nat.le_refl _, List.mem_append_right _ (List.mem_singleton.mpr rfl), rfl, hx⟩
    · rcases h.1 v hv with ⟨h1, h2⟩ | ⟨a, b, cl, h1, h2, h3, h4, h5, h6⟩
      · refine Or.inl ⟨by rw [upF_ne z]; exact h1, ?_⟩
        rw [hasL_a, h2, decide_eq_false (fun y : (w : Int) = (v : Int) => z (by omega))]; rfl
      · exact Or.inr ⟨a, b, cl, by rw [upF_ne z]; exact h1, by rw [upF_ne z]; exact h2, by omega, List.mem_append_left _ h4, h5, Ex_w (fun i h1 h2 => hd i (by omega)) (Nat.le_refl _) h6⟩
  · rcases get_sn hi with ⟨h1, h2⟩ | ⟨h1, h2⟩
    · obtain ⟨q1, q2⟩ := h.2 i cl h2
      exact ⟨by rw [upF_ne (by omega)]; exact q1, q2⟩
    · subst h1 h2
      exact ⟨upF_at, fun k v _ hk => by cases hk⟩
theorem TXR_o {bg en kd ag : Nat → Int} {L : Nat} {dd : Nat → Int} {cs : List cCl} {K : Int} {vs : List Int} (h : TXR bg en kd ag L dd cs) (hK : 5 ≤ K) (hv : vs.length ≤ 5) : TXR bg en (upF kd cs.length K) (wrL (cs.length * 5) vs ag) L dd (cs ++ [(K, [], vs)]) := by
  refine ⟨fun v hv => ?_, fun i cl hi => ?_⟩
  · rcases h.1 v hv with ⟨h1, h2⟩ | ⟨a, b, cl, h1, h2, h3, h4, h5, h6⟩
    · refine Or.inl ⟨h1, ?_⟩
      rw [hasL_a, h2, decide_eq_false (fun y : K = (v : Int) => by omega)]; rfl
    · exact Or.inr ⟨a, b, cl, h1, h2, h3, List.mem_append_left _ h4, h5, h6⟩
  · rcases get_sn hi with ⟨h1, h2⟩ | ⟨h1, h2⟩
    · obtain ⟨q1, q2⟩ := h.2 i cl h2
      exact ⟨by rw [upF_ne (by omega)]; exact q1, fun k v k5 hk => by rw [wrL_n _ _ _ _ (by omega)]; exact q2 k v k5 hk⟩
    · subst h1 h2
      exact ⟨upF_at, fun k v _ hk => wrL_v vs _ ag k v hk⟩
set_option maxHeartbeats 4000000 in
/-- from the semicolon on, a fault behind -/
theorem B64f {d : Nat} {h : AH} {T D cnt : Nat} {n : Int} {kn vn pn : Nat → Int} (hb : RDB h T D) (hk : TOK h cnt n kn vn pn) (hx : TXH h T) {bg en kd ag : Nat → Int} {nC L : Nat} {c l f p a : Int} {dd : Nat → Int} {l2 : Option AV} {K : Int} (hC : nC < 24) (hf : f ≠ 0) : XP (d + 74) 64 108 [some (vR 70), some (vI K), l2] [] (hR (hX h T bg en kd ag nC) T D a 63 c l f p L dd) (fun r g => r = none ∧ ∃ (kd : Nat → Int) (nC : Nat), g = hR (hX h T bg en kd ag nC) T D a 63 c l f p L dd) := by
  have e : ∀ Q : Option AV → AH → Prop, XC (d + 74) 62 [vR 70, vI 52] (hR (hX h T bg en kd ag nC) T D a 63 c l f p L dd) Q = Q none (hR (hX h T bg en kd ag nC) T D a 63 c l f p L dd) := fun Q => F_take (d := d + 71) (RDB_X hb) (TOK_X hb.1 hk) hf (by decide) Q
  have e2 : ∀ Q : Option AV → AH → Prop, XC (d + 74) 95 [vR T, vI K] (hR (hX h T bg en kd ag nC) T D a 63 c l f p L dd) Q = Q none (hR (hX h T bg en (upF kd nC K) ag (nC + 1)) T D a 63 c l f p L dd) := fun Q => X_cls (d := d + 73) hb hx hC Q
  have y : (none : Option AV) = none ∧ ∃ (kd0 : Nat → Int) (nC0 : Nat), hR (hX h T bg en (upF kd nC K) ag (nC + 1)) T D a 63 c l f p L dd = hR (hX h T bg en kd0 ag nC0) T D a 63 c l f p L dd := ⟨rfl, _, _, rfl⟩
  refine xpk_sound (stops := []) (n := 20) ?_
  simp only [sk_0, sk_1, sk_2, sk_3, sk_4, sk_5, sk_6, sk_7, sk_8, sk_iadd, sk_isub, sk_imul, sk_iand, sk_ior, sk_ixor, sk_ishl, sk_ishr, sk_iushr, sk_idiv, sk_irem, sk_ineg, sk_ladd, sk_lsub, sk_lmul, sk_land, sk_lor, sk_ldiv, sk_lrem, sk_lneg, sk_lshl, sk_lshr, sk_i2l, sk_l2i, sk_lcmp, sk_dupI, sk_dupR, sk_dup2L, sk_dup2I, sk_popI, sk_ifeq, sk_ifne, sk_iflt, sk_ifge, sk_ifgt, sk_ifle, sk_iceq, sk_icne, sk_iclt, sk_icge, sk_icgt, sk_icle, sk_goto, sk_getf, sk_putf, sk_gets, sk_iald, sk_lald, sk_bald, sk_aald, sk_iast, sk_last, sk_bast, sk_aast, sk_alen, sk_newa, sk_newt, sk_new, sk_cs1, sk_cs2, sk_cs3, sk_cs4, sk_cs5, sk_cs6, sk_cv1, sk_cv2, sk_cv3, sk_cv4, sk_cv5, sk_cv6, sk_ci1, sk_ci2, sk_ci3, sk_ret0, sk_retI, sk_retL, sk_retR, sk_sw, sk_oin, sk_max, sk_min, sk_abs, lI_0, lI_s, lL_0, lL_s, lR_0, lR_s, vIo_e, vLo_e, vOo_e, stW_I, stW_L, stW_R, stW_0, stW_z, okSt_0, okSt_s, hV_eq, hK_eq, okF_0, okF_1, okF_3, is01_0, is01_1, is01_i, Int.toNat_natCast, Int.reduceEq, Int.reduceLE, Int.reduceLT, Int.reduceNeg, Nat.reduceLT, not_true_eq_false, not_false_eq_true, reduceIte, Option.toList, List.cons_append, List.nil_append, List.set_cons_zero, List.set_cons_succ, List.not_mem_nil, List.mem_cons, if_false, if_true, ite_true, ite_false, and_self, and_true, true_and, Nat.reduceAdd, Nat.reduceLeDiff, Nat.reduceEqDiff, Nat.zero_add, Nat.le_refl, Nat.zero_le, or_false, false_or, Int.reduceToNat, or_true, true_or, eq_self, and_false, false_and, inR_d, nc_4, nc_5, nc_6, nc_7, nc_8, nc_16, nc_18, nc_20, nc_24, nc_32, nc_40, nc_64, nc_104, nc_120, nc_160, nc_256, nc_300, nc_330, nc_390, nc_1200, nc_1260, nc_3012, nc_9834, okSt_1i, okSt_1r, okSt_1n, List.length_cons, List.length_nil, xpk_succ cd_64_108, xpk_succ cd_64_109, xpk_succ cd_64_111, xpk_succ cd_64_114, xpk_succ cd_64_115, xpk_succ cd_64_118, xpk_succ cd_64_119, xpk_succ cd_64_122, hR_2, hR_3, hR_4, hR_5, hR_6, hR_7, hR_s2, hR_s3, hR_s4, hR_s5, hR_s6, hR_s7, (hR_T hb.1), (hR_sT hb.1), (R_0 (RDB_X hb)), (R_1 (RDB_X hb)), (R_T0 (RDB_X hb)), hK_R, hK_X, hb.2.1.1, hb.2.2.1.1, (GX_6 hb hx), e, e2]
  exact y.2
set_option maxHeartbeats 4000000 in
/-- from the semicolon on, nothing wrong so far -/
theorem B64o {d : Nat} {h : AH} {T D cnt : Nat} {n : Int} {kn vn pn : Nat → Int} (hb : RDB h T D) (hk : TOK h cnt n kn vn pn) (hx : TXH h T) {bg en kd ag : Nat → Int} {nC L j : Nat} {l : Int} {dd : Nat → Int} {l2 : Option AV} {K : Int} (hC : nC < 24) (hj : j ≤ cnt) : XP (d + 74) 64 108 [some (vR 70), some (vI K), l2] [] (hR (hX h T bg en kd ag nC) T D ((j : Nat) : Int) ((tkf cnt kn vn j).1) 0 l 0 (-1) L dd) (fun r g => r = none ∧ (((tkf cnt kn vn j).1 = 52 ∧ g = hR (hX h T bg en (upF kd nC K) ag (nC + 1)) T D ((j + 1 : Nat) : Int) ((tkf cnt kn vn (j + 1)).1) 0 l 0 (-1) L dd) ∨ ((tkf cnt kn vn j).1 ≠ 52 ∧ ∃ (kd : Nat → Int) (nC : Nat), g = hR (hX h T bg en kd ag nC) T D ((j : Nat) : Int) 63 0 l 1 (plf cnt n pn j) L dd))) := by
  have hc := hk.1.1
  by_cases z : (tkf cnt kn vn j).1 = 52
  · have e : ∀ Q : Option AV → AH → Prop, XC (d + 74) 62 [vR 70, vI 52] (hR (hX h T bg en kd ag nC) T D ((j : Nat) : Int) ((tkf cnt kn vn j).1) 0 l 0 (-1) L dd) Q = Q none (hR (hX h T bg en kd ag nC) T D ((j + 1 : Nat) : Int) ((tkf cnt kn vn (j + 1)).1) 0 l 0 (-1) L dd) := fun Q => E_take (d := d + 71) (RDB_X hb) (TOK_X hb.1 hk) (by omega) z Q
    have e2 : ∀ Q : Option AV → AH → Prop, XC (d + 74) 95 [vR T, vI K] (hR (hX h T bg en kd ag nC) T D ((j + 1 : Nat) : Int) ((tkf cnt kn vn (j + 1)).1) 0 l 0 (-1) L dd) Q = Q none (hR (hX h T bg en (upF kd nC K) ag (nC + 1)) T D ((j + 1 : Nat) : Int) ((tkf cnt kn vn (j + 1)).1) 0 l 0 (-1) L dd) := fun Q => X_cls (d := d + 73) hb hx hC Q
    have y : (none : Option AV) = none ∧ (((tkf cnt kn vn j).1 = 52 ∧ hR (hX h T bg en (upF kd nC K) ag (nC + 1)) T D ((j + 1 : Nat) : Int) ((tkf cnt kn vn (j + 1)).1) 0 l 0 (-1) L dd = hR (hX h T bg en (upF kd nC K) ag (nC + 1)) T D ((j + 1 : Nat) : Int) ((tkf cnt kn vn (j + 1)).1) 0 l 0 (-1) L dd) ∨ ((tkf cnt kn vn j).1 ≠ 52 ∧ ∃ (kd0 : Nat → Int) (nC0 : Nat), hR (hX h T bg en (upF kd nC K) ag (nC + 1)) T D ((j + 1 : Nat) : Int) ((tkf cnt kn vn (j + 1)).1) 0 l 0 (-1) L dd = hR (hX h T bg en kd0 ag nC0) T D ((j : Nat) : Int) 63 0 l 1 (plf cnt n pn j) L dd)) := ⟨rfl, Or.inl ⟨z, rfl⟩⟩
    refine xpk_sound (stops := []) (n := 20) ?_
    simp only [sk_0, sk_1, sk_2, sk_3, sk_4, sk_5, sk_6, sk_7, sk_8, sk_iadd, sk_isub, sk_imul, sk_iand, sk_ior, sk_ixor, sk_ishl, sk_ishr, sk_iushr, sk_idiv, sk_irem, sk_ineg, sk_ladd, sk_lsub, sk_lmul, sk_land, sk_lor, sk_ldiv, sk_lrem, sk_lneg, sk_lshl, sk_lshr, sk_i2l, sk_l2i, sk_lcmp, sk_dupI, sk_dupR, sk_dup2L, sk_dup2I, sk_popI, sk_ifeq, sk_ifne, sk_iflt, sk_ifge, sk_ifgt, sk_ifle, sk_iceq, sk_icne, sk_iclt, sk_icge, sk_icgt, sk_icle, sk_goto, sk_getf, sk_putf, sk_gets, sk_iald, sk_lald, sk_bald, sk_aald, sk_iast, sk_last, sk_bast, sk_aast, sk_alen, sk_newa, sk_newt, sk_new, sk_cs1, sk_cs2, sk_cs3, sk_cs4, sk_cs5, sk_cs6, sk_cv1, sk_cv2, sk_cv3, sk_cv4, sk_cv5, sk_cv6, sk_ci1, sk_ci2, sk_ci3, sk_ret0, sk_retI, sk_retL, sk_retR, sk_sw, sk_oin, sk_max, sk_min, sk_abs, lI_0, lI_s, lL_0, lL_s, lR_0, lR_s, vIo_e, vLo_e, vOo_e, stW_I, stW_L, stW_R, stW_0, stW_z, okSt_0, okSt_s, hV_eq, hK_eq, okF_0, okF_1, okF_3, is01_0, is01_1, is01_i, Int.toNat_natCast, Int.reduceEq, Int.reduceLE, Int.reduceLT, Int.reduceNeg, Nat.reduceLT, not_true_eq_false, not_false_eq_true, reduceIte, Option.toList, List.cons_append, List.nil_append, List.set_cons_zero, List.set_cons_succ, List.not_mem_nil, List.mem_cons, if_false, if_true, ite_true, ite_false, and_self, and_true, true_and, Nat.reduceAdd, Nat.reduceLeDiff, Nat.reduceEqDiff, Nat.zero_add, Nat.le_refl, Nat.zero_le, or_false, false_or, Int.reduceToNat, or_true, true_or, eq_self, and_false, false_and, inR_d, nc_4, nc_5, nc_6, nc_7, nc_8, nc_16, nc_18, nc_20, nc_24, nc_32, nc_40, nc_64, nc_104, nc_120, nc_160, nc_256, nc_300, nc_330, nc_390, nc_1200, nc_1260, nc_3012, nc_9834, okSt_1i, okSt_1r, okSt_1n, List.length_cons, List.length_nil, xpk_succ cd_64_108, xpk_succ cd_64_109, xpk_succ cd_64_111, xpk_succ cd_64_114, xpk_succ cd_64_115, xpk_succ cd_64_118, xpk_succ cd_64_119, xpk_succ cd_64_122, hR_2, hR_3, hR_4, hR_5, hR_6, hR_7, hR_s2, hR_s3, hR_s4, hR_s5, hR_s6, hR_s7, (hR_T hb.1), (hR_sT hb.1), (R_0 (RDB_X hb)), (R_1 (RDB_X hb)), (R_T0 (RDB_X hb)), hK_R, hK_X, hb.2.1.1, hb.2.2.1.1, (GX_6 hb hx), e, e2]
    rcases y.2 with h | h
    · exact Or.inl h.1
    · exact Or.inr h
  · have e : ∀ Q : Option AV → AH → Prop, XC (d + 74) 62 [vR 70, vI 52] (hR (hX h T bg en kd ag nC) T D ((j : Nat) : Int) ((tkf cnt kn vn j).1) 0 l 0 (-1) L dd) Q = Q none (hR (hX h T bg en kd ag nC) T D ((j : Nat) : Int) 63 0 l 1 (plf cnt n pn j) L dd) := fun Q => E_takef (d := d + 71) (RDB_X hb) (TOK_X hb.1 hk) z Q
    have e2 : ∀ Q : Option AV → AH → Prop, XC (d + 74) 95 [vR T, vI K] (hR (hX h T bg en kd ag nC) T D ((j : Nat) : Int) 63 0 l 1 (plf cnt n pn j) L dd) Q = Q none (hR (hX h T bg en (upF kd nC K) ag (nC + 1)) T D ((j : Nat) : Int) 63 0 l 1 (plf cnt n pn j) L dd) := fun Q => X_cls (d := d + 73) hb hx hC Q
    have y : (none : Option AV) = none ∧ (((tkf cnt kn vn j).1 = 52 ∧ hR (hX h T bg en (upF kd nC K) ag (nC + 1)) T D ((j : Nat) : Int) 63 0 l 1 (plf cnt n pn j) L dd = hR (hX h T bg en (upF kd nC K) ag (nC + 1)) T D ((j + 1 : Nat) : Int) ((tkf cnt kn vn (j + 1)).1) 0 l 0 (-1) L dd) ∨ ((tkf cnt kn vn j).1 ≠ 52 ∧ ∃ (kd0 : Nat → Int) (nC0 : Nat), hR (hX h T bg en (upF kd nC K) ag (nC + 1)) T D ((j : Nat) : Int) 63 0 l 1 (plf cnt n pn j) L dd = hR (hX h T bg en kd0 ag nC0) T D ((j : Nat) : Int) 63 0 l 1 (plf cnt n pn j) L dd)) := ⟨rfl, Or.inr ⟨z, _, _, rfl⟩⟩
    refine xpk_sound (stops := []) (n := 20) ?_
    simp only [sk_0, sk_1, sk_2, sk_3, sk_4, sk_5, sk_6, sk_7, sk_8, sk_iadd, sk_isub, sk_imul, sk_iand, sk_ior, sk_ixor, sk_ishl, sk_ishr, sk_iushr, sk_idiv, sk_irem, sk_ineg, sk_ladd, sk_lsub, sk_lmul, sk_land, sk_lor, sk_ldiv, sk_lrem, sk_lneg, sk_lshl, sk_lshr, sk_i2l, sk_l2i, sk_lcmp, sk_dupI, sk_dupR, sk_dup2L, sk_dup2I, sk_popI, sk_ifeq, sk_ifne, sk_iflt, sk_ifge, sk_ifgt, sk_ifle, sk_iceq, sk_icne, sk_iclt, sk_icge, sk_icgt, sk_icle, sk_goto, sk_getf, sk_putf, sk_gets, sk_iald, sk_lald, sk_bald, sk_aald, sk_iast, sk_last, sk_bast, sk_aast, sk_alen, sk_newa, sk_newt, sk_new, sk_cs1, sk_cs2, sk_cs3, sk_cs4, sk_cs5, sk_cs6, sk_cv1, sk_cv2, sk_cv3, sk_cv4, sk_cv5, sk_cv6, sk_ci1, sk_ci2, sk_ci3, sk_ret0, sk_retI, sk_retL, sk_retR, sk_sw, sk_oin, sk_max, sk_min, sk_abs, lI_0, lI_s, lL_0, lL_s, lR_0, lR_s, vIo_e, vLo_e, vOo_e, stW_I, stW_L, stW_R, stW_0, stW_z, okSt_0, okSt_s, hV_eq, hK_eq, okF_0, okF_1, okF_3, is01_0, is01_1, is01_i, Int.toNat_natCast, Int.reduceEq, Int.reduceLE, Int.reduceLT, Int.reduceNeg, Nat.reduceLT, not_true_eq_false, not_false_eq_true, reduceIte, Option.toList, List.cons_append, List.nil_append, List.set_cons_zero, List.set_cons_succ, List.not_mem_nil, List.mem_cons, if_false, if_true, ite_true, ite_false, and_self, and_true, true_and, Nat.reduceAdd, Nat.reduceLeDiff, Nat.reduceEqDiff, Nat.zero_add, Nat.le_refl, Nat.zero_le, or_false, false_or, Int.reduceToNat, or_true, true_or, eq_self, and_false, false_and, inR_d, nc_4, nc_5, nc_6, nc_7, nc_8, nc_16, nc_18, nc_20, nc_24, nc_32, nc_40, nc_64, nc_104, nc_120, nc_160, nc_256, nc_300, nc_330, nc_390, nc_1200, nc_1260, nc_3012, nc_9834, okSt_1i, okSt_1r, okSt_1n, List.length_cons, List.length_nil, xpk_succ cd_64_108, xpk_succ cd_64_109, xpk_succ cd_64_111, xpk_succ cd_64_114, xpk_succ cd_64_115, xpk_succ cd_64_118, xpk_succ cd_64_119, xpk_succ cd_64_122, hR_2, hR_3, hR_4, hR_5, hR_6, hR_7, hR_s2, hR_s3, hR_s4, hR_s5, hR_s6, hR_s7, (hR_T hb.1), (hR_sT hb.1), (R_0 (RDB_X hb)), (R_1 (RDB_X hb)), (R_T0 (RDB_X hb)), hK_R, hK_X, hb.2.1.1, hb.2.2.1.1, (GX_6 hb hx), e, e2]
    exact y.2
theorem nmW_m {tk : Nat → Int × Int} {lo hi : Int} {x : cX} {j2 : Nat} {vs : List Int} (h : nmW tk lo hi x = .inr (j2, vs)) : ∃ j vs', x = .inr (j, vs') ∧ j ≤ j2 := by
  cases x with
  | inl r => cases h
  | inr q =>
    obtain ⟨j, vs'⟩ := q
    have h : (if (tk j).1 = 60 then (if lo ≤ (tk j).2 ∧ (tk j).2 ≤ hi then .inr (j + 1, vs' ++ [(tk j).2]) else .inl (2, j)) else .inl (1, j) : cX) = .inr (j2, vs) := h
    refine ⟨j, vs', rfl, ?_⟩
    split at h
    · split at h
      · have := congrArg Prod.fst (Sum.inr.inj h); have this : j + 1 = j2 := this; omega
      · cases h
    · cases h
theorem tkV_m {tk : Nat → Int × Int} {w : Int} {x : cX} {j2 : Nat} {vs : List Int} (h : tkV tk w x = .inr (j2, vs)) : ∃ j vs', x = .inr (j, vs') ∧ j ≤ j2 := by
  cases x with
  | inl r => cases h
  | inr q =>
    obtain ⟨j, vs'⟩ := q
    have h : (if (tk j).1 = w then .inr (j + 1, vs') else .inl (1, j) : cX) = .inr (j2, vs) := h
    refine ⟨j, vs', rfl, ?_⟩
    split at h
    · have := congrArg Prod.fst (Sum.inr.inj h); have this : j + 1 = j2 := this; omega
    · cases h
theorem siV_m {tk : Nat → Int × Int} {x : cX} {j2 : Nat} {vs : List Int} (h : siV tk x = .inr (j2, vs)) : ∃ j vs', x = .inr (j, vs') ∧ j ≤ j2 := by
  cases x with
  | inl r => cases h
  | inr q =>
    obtain ⟨j, vs'⟩ := q
    have h : (if 22 ≤ (tk j).1 ∧ (tk j).1 ≤ 24 then .inr (j + 1, vs' ++ [(tk j).1 - 23]) else .inl (1, j) : cX) = .inr (j2, vs) := h
    refine ⟨j, vs', rfl, ?_⟩
    split at h
    · have := congrArg Prod.fst (Sum.inr.inj h); have this : j + 1 = j2 := this; omega
    · cases h
theorem inr_m {j j0 j2 : Nat} {vs vs0 : List Int} (h : (.inr (j, vs0) : cX) = .inr (j2, vs)) : j = j2 := congrArg Prod.fst (Sum.inr.inj h)
theorem bdV_m {tk : Nat → Int × Int} {K : Int} {j j2 : Nat} {vs : List Int} (h : bdV tk K j = .inr (j2, vs)) : j ≤ j2 := by
  unfold bdV at h
  split at h
  · have h : nmW tk 0 1 (tkV tk 23 (nmW tk 0 9 (tkV tk 21 (nmW tk 0 999 (tkV tk 20 (nmW tk 0 60 (tkV tk 19 (nmW tk 1 99 (.inr (j, []))))))))))  = .inr (j2, vs) := h
    obtain ⟨j9, v9, h, l9⟩ := nmW_m h
    obtain ⟨j8, v8, h, l8⟩ := tkV_m h
    obtain ⟨j7, v7, h, l7⟩ := nmW_m h
    obtain ⟨j6, v6, h, l6⟩ := tkV_m h
    obtain ⟨j5, v5, h, l5⟩ := nmW_m h
    obtain ⟨j4, v4, h, l4⟩ := tkV_m h
    obtain ⟨j3, v3, h, l3⟩ := nmW_m h
    obtain ⟨j1, v1, h, l1⟩ := tkV_m h
    obtain ⟨j0, v0, h, l0⟩ := nmW_m h
    have := inr_m (j0 := 0) h
    omega
  · split at h
    · obtain ⟨j0, v0, h, l0⟩ := siV_m h; have := inr_m (j0 := 0) h; omega
    · split at h
      · obtain ⟨j0, v0, h, l0⟩ := nmW_m h; have := inr_m (j0 := 0) h; omega
      · split at h
        · obtain ⟨j0, v0, h, l0⟩ := nmW_m h; have := inr_m (j0 := 0) h; omega
        · split at h
          · obtain ⟨j0, v0, h, l0⟩ := nmW_m h; have := inr_m (j0 := 0) h; omega
          · split at h
            · obtain ⟨j0, v0, h, l0⟩ := nmW_m h; have := inr_m (j0 := 0) h; omega
            · have := inr_m (j0 := 0) h; omega
set_option maxHeartbeats 8000000 in
theorem E_cl {d : Nat} {h : AH} {T D cnt : Nat} {n : Int} {kn vn pn : Nat → Int} (hb : RDB h T D) (hk : TOK h cnt n kn vn pn) (hx : TXH h T) {bg en kd ag : Nat → Int} {L : Nat} {l : Int} {dd : Nat → Int} {cs : List cCl} (hv : TKV cnt kn vn) (hr : TXR bg en kd ag L dd cs) (hC : cs.length ≤ 24) {j : Nat} (hj : j < cnt) (hLj : L ≤ j) : XC (d + 75) 64 [vR 70] (hR (hX h T bg en kd ag cs.length) T D ((j : Nat) : Int) ((tkf cnt kn vn j).1) 0 l 0 (-1) L dd) (fun r g => r = none ∧ ∃ out, CLo (tkf cnt kn vn) cs j out ∧ CLr h T D cnt n kn vn pn cs j out g) := by
  refine XC_of (Nat.le_of_ble_eq_true rfl) ?_
  show XP (d + 74) 64 0 [some (vR 70), none, none] [] (hR (hX h T bg en kd ag cs.length) T D ((j : Nat) : Int) ((tkf cnt kn vn j).1) 0 l 0 (-1) L dd) _
  have hc := hk.1.1
  have hK0 := (TKV_k hv j).1
  have hhas : ∀ Q : Option AV → AH → Prop, XC (d + 74) 88 [vR T, vI (tkf cnt kn vn j).1] (hR (hX h T bg en kd ag cs.length) T D ((j : Nat) : Int) ((tkf cnt kn vn j).1) 0 l 0 (-1) L dd) Q = Q (some (vI (b01 (decide ((tkf cnt kn vn j).1 < 5 ∧ hasL cs (tkf cnt kn vn j).1 = true))))) (hR (hX h T bg en kd ag cs.length) T D ((j : Nat) : Int) ((tkf cnt kn vn j).1) 0 l 0 (-1) L dd) := fun Q => by
    have q := X_hs8 (d := d + 71) hb hx (bg := bg) (en := en) (kd := kd) (ag := ag) (nC := cs.length) (a := ((j : Nat) : Int)) (b := (tkf cnt kn vn j).1) (c := 0) (l := l) (f := 0) (p := -1) (L := L) (dd := dd) (w := (tkf cnt kn vn j).1) Q
    have e : decide ((0 ≤ (tkf cnt kn vn j).1 ∧ (tkf cnt kn vn j).1 ≤ 4) ∧ bg ((tkf cnt kn vn j).1).toNat ≠ -1) = decide ((tkf cnt kn vn j).1 < 5 ∧ hasL cs (tkf cnt kn vn j).1 = true) := by
      refine decide_eq_decide.mpr ?_
      by_cases z : (tkf cnt kn vn j).1 < 5
      · obtain ⟨w, hw⟩ : ∃ w : Nat, (tkf cnt kn vn j).1 = (w : Int) := ⟨((tkf cnt kn vn j).1).toNat, by omega⟩
        rw [hw, Int.toNat_natCast]
        have hb5 := TXR_b hr (w := w) (by omega)
        exact ⟨fun y => ⟨by omega, hb5.mp y.2⟩, fun y => ⟨by omega, hb5.mpr y.2⟩⟩
      · exact ⟨fun y => absurd y.1.2 (by omega), fun y => absurd y.1 z⟩
    rw [e] at q
    exact q
  by_cases z1 : (tkf cnt kn vn j).1 ≤ 10 ∨ (tkf cnt kn vn j).1 = 16
  · have n1 : ¬ ¬ ((tkf cnt kn vn j).1 ≤ 10 ∨ (tkf cnt kn vn j).1 = 16) := fun y => y z1
    have go : XP (d + 74) 64 25 [some (vR 70), some (vI (tkf cnt kn vn j).1), none] [] (hR (hX h T bg en kd ag cs.length) T D ((j : Nat) : Int) ((tkf cnt kn vn j).1) 0 l 0 (-1) L dd) (fun r g => r = none ∧ ∃ out, CLo (tkf cnt kn vn) cs j out ∧ CLr h T D cnt n kn vn pn cs j out g) := by
      by_cases z2 : (tkf cnt kn vn j).1 < 5 ∧ hasL cs (tkf cnt kn vn j).1 = true
      · have h1 : b01 (decide ((tkf cnt kn vn j).1 < 5 ∧ hasL cs (tkf cnt kn vn j).1 = true)) = 1 := by rw [decide_eq_true z2]; rfl
        rw [h1] at hhas
        have y : (none : Option AV) = none ∧ ∃ out, CLo (tkf cnt kn vn) cs j out ∧ CLr h T D cnt n kn vn pn cs j out (hR (hX h T bg en kd ag cs.length) T D ((j : Nat) : Int) 63 0 l 4 (plf cnt n pn j) L dd) := ⟨rfl, .inl (4, j), by unfold CLo; rw [if_neg n1, if_pos z2], ⟨by decide, _, _, _, _, _, _, _, _, _, _, rfl⟩⟩
        have e : ∀ Q : Option AV → AH → Prop, XC (d + 74) 60 [vR 70, vI 4] (hR (hX h T bg en kd ag cs.length) T D ((j : Nat) : Int) ((tkf cnt kn vn j).1) 0 l 0 (-1) L dd) Q = Q none (hR (hX h T bg en kd ag cs.length) T D ((j : Nat) : Int) 63 0 l 4 (plf cnt n pn j) L dd) := fun Q => E_fail (d := d + 72) (RDB_X hb) (TOK_X hb.1 hk) Q
        refine xpk_sound (stops := []) (n := 40) ?_
        simp only [sk_0, sk_1, sk_2, sk_3, sk_4, sk_5, sk_6, sk_7, sk_8, sk_iadd, sk_isub, sk_imul, sk_iand, sk_ior, sk_ixor, sk_ishl, sk_ishr, sk_iushr, sk_idiv, sk_irem, sk_ineg, sk_ladd, sk_lsub, sk_lmul, sk_land, sk_lor, sk_ldiv, sk_lrem, sk_lneg, sk_lshl, sk_lshr, sk_i2l, sk_l2i, sk_lcmp, sk_dupI, sk_dupR, sk_dup2L, sk_dup2I, sk_popI, sk_ifeq, sk_ifne, sk_iflt, sk_ifge, sk_ifgt, sk_ifle, sk_iceq, sk_icne, sk_iclt, sk_icge, sk_icgt, sk_icle, sk_goto, sk_getf, sk_putf, sk_gets, sk_iald, sk_lald, sk_bald, sk_aald, sk_iast, sk_last, sk_bast, sk_aast, sk_alen, sk_newa, sk_newt, sk_new, sk_cs1, sk_cs2, sk_cs3, sk_cs4, sk_cs5, sk_cs6, sk_cv1, sk_cv2, sk_cv3, sk_cv4, sk_cv5, sk_cv6, sk_ci1, sk_ci2, sk_ci3, sk_ret0, sk_retI, sk_retL, sk_retR, sk_sw, sk_oin, sk_max, sk_min, sk_abs, lI_0, lI_s, lL_0, lL_s, lR_0, lR_s, vIo_e, vLo_e, vOo_e, stW_I, stW_L, stW_R, stW_0, stW_z, okSt_0, okSt_s, hV_eq, hK_eq, okF_0, okF_1, okF_3, is01_0, is01_1, is01_i, Int.toNat_natCast, Int.reduceEq, Int.reduceLE, Int.reduceLT, Int.reduceNeg, Nat.reduceLT, not_true_eq_false, not_false_eq_true, reduceIte, Option.toList, List.cons_append, List.nil_append, List.set_cons_zero, List.set_cons_succ, List.not_mem_nil, List.mem_cons, if_false, if_true, ite_true, ite_false, and_self, and_true, true_and, Nat.reduceAdd, Nat.reduceLeDiff, Nat.reduceEqDiff, Nat.zero_add, Nat.le_refl, Nat.zero_le, or_false, false_or, Int.reduceToNat, or_true, true_or, eq_self, and_false, false_and, inR_d, nc_4, nc_5, nc_6, nc_7, nc_8, nc_16, nc_18, nc_20, nc_24, nc_32, nc_40, nc_64, nc_104, nc_120, nc_160, nc_256, nc_300, nc_330, nc_390, nc_1200, nc_1260, nc_3012, nc_9834, okSt_1i, okSt_1r, okSt_1n, List.length_cons, List.length_nil, xpk_succ cd_64_25, xpk_succ cd_64_26, xpk_succ cd_64_29, xpk_succ cd_64_30, xpk_succ cd_64_33, xpk_succ cd_64_36, xpk_succ cd_64_37, xpk_succ cd_64_38, xpk_succ cd_64_41, xpk_succ cd_64_44, xpk_succ cd_64_45, xpk_succ cd_64_48, xpk_succ cd_64_51, xpk_succ cd_64_53, xpk_succ cd_64_56, xpk_succ cd_64_57, xpk_succ cd_64_59, xpk_succ cd_64_62, xpk_succ cd_64_65, xpk_succ cd_64_66, xpk_succ cd_64_69, xpk_succ cd_64_70, xpk_succ cd_64_71, xpk_succ cd_64_74, xpk_succ cd_64_75, xpk_succ cd_64_76, xpk_succ cd_64_79, xpk_succ cd_64_80, xpk_succ cd_64_83, xpk_succ cd_64_86, xpk_succ cd_64_87, xpk_succ cd_64_88, xpk_succ cd_64_91, xpk_succ cd_64_92, xpk_succ cd_64_95, xpk_succ cd_64_96, xpk_succ cd_64_97, xpk_succ cd_64_100, xpk_succ cd_64_103, xpk_succ cd_64_104, xpk_succ cd_64_105, xpk_succ cd_64_108, xpk_succ cd_64_109, xpk_succ cd_64_111, xpk_succ cd_64_114, xpk_succ cd_64_115, xpk_succ cd_64_118, xpk_succ cd_64_119, xpk_succ cd_64_122, hR_2, hR_3, hR_4, hR_5, hR_6, hR_7, hR_s2, hR_s3, hR_s4, hR_s5, hR_s6, hR_s7, (hR_T hb.1), (hR_sT hb.1), (R_0 (RDB_X hb)), (R_1 (RDB_X hb)), (R_T0 (RDB_X hb)), hK_R, hK_X, hb.2.1.1, hb.2.2.1.1, (GX_6 hb hx), hhas, e]
        exact y.2
      have h1 : b01 (decide ((tkf cnt kn vn j).1 < 5 ∧ hasL cs (tkf cnt kn vn j).1 = true)) = 0 := by rw [decide_eq_false z2]; rfl
      rw [h1] at hhas
      by_cases z3 : 24 ≤ cs.length
      · have y : (none : Option AV) = none ∧ ∃ out, CLo (tkf cnt kn vn) cs j out ∧ CLr h T D cnt n kn vn pn cs j out (hR (hX h T bg en kd ag cs.length) T D ((j : Nat) : Int) 63 0 l 6 (plf cnt n pn j) L dd) := ⟨rfl, .inl (6, j), by unfold CLo; rw [if_neg n1, if_neg z2, if_pos z3], ⟨by decide, _, _, _, _, _, _, _, _, _, _, rfl⟩⟩
        have g3 : ¬ ((cs.length : Int) < 24) := by omega
        have g3b : (24 : Int) ≤ (cs.length : Int) := by omega
        have e : ∀ Q : Option AV → AH → Prop, XC (d + 74) 60 [vR 70, vI 6] (hR (hX h T bg en kd ag cs.length) T D ((j : Nat) : Int) ((tkf cnt kn vn j).1) 0 l 0 (-1) L dd) Q = Q none (hR (hX h T bg en kd ag cs.length) T D ((j : Nat) : Int) 63 0 l 6 (plf cnt n pn j) L dd) := fun Q => E_fail (d := d + 72) (RDB_X hb) (TOK_X hb.1 hk) Q
        refine xpk_sound (stops := []) (n := 40) ?_
        simp only [sk_0, sk_1, sk_2, sk_3, sk_4, sk_5, sk_6, sk_7, sk_8, sk_iadd, sk_isub, sk_imul, sk_iand, sk_ior, sk_ixor, sk_ishl, sk_ishr, sk_iushr, sk_idiv, sk_irem, sk_ineg, sk_ladd, sk_lsub, sk_lmul, sk_land, sk_lor, sk_ldiv, sk_lrem, sk_lneg, sk_lshl, sk_lshr, sk_i2l, sk_l2i, sk_lcmp, sk_dupI, sk_dupR, sk_dup2L, sk_dup2I, sk_popI, sk_ifeq, sk_ifne, sk_iflt, sk_ifge, sk_ifgt, sk_ifle, sk_iceq, sk_icne, sk_iclt, sk_icge, sk_icgt, sk_icle, sk_goto, sk_getf, sk_putf, sk_gets, sk_iald, sk_lald, sk_bald, sk_aald, sk_iast, sk_last, sk_bast, sk_aast, sk_alen, sk_newa, sk_newt, sk_new, sk_cs1, sk_cs2, sk_cs3, sk_cs4, sk_cs5, sk_cs6, sk_cv1, sk_cv2, sk_cv3, sk_cv4, sk_cv5, sk_cv6, sk_ci1, sk_ci2, sk_ci3, sk_ret0, sk_retI, sk_retL, sk_retR, sk_sw, sk_oin, sk_max, sk_min, sk_abs, lI_0, lI_s, lL_0, lL_s, lR_0, lR_s, vIo_e, vLo_e, vOo_e, stW_I, stW_L, stW_R, stW_0, stW_z, okSt_0, okSt_s, hV_eq, hK_eq, okF_0, okF_1, okF_3, is01_0, is01_1, is01_i, Int.toNat_natCast, Int.reduceEq, Int.reduceLE, Int.reduceLT, Int.reduceNeg, Nat.reduceLT, not_true_eq_false, not_false_eq_true, reduceIte, Option.toList, List.cons_append, List.nil_append, List.set_cons_zero, List.set_cons_succ, List.not_mem_nil, List.mem_cons, if_false, if_true, ite_true, ite_false, and_self, and_true, true_and, Nat.reduceAdd, Nat.reduceLeDiff, Nat.reduceEqDiff, Nat.zero_add, Nat.le_refl, Nat.zero_le, or_false, false_or, Int.reduceToNat, or_true, true_or, eq_self, and_false, false_and, inR_d, nc_4, nc_5, nc_6, nc_7, nc_8, nc_16, nc_18, nc_20, nc_24, nc_32, nc_40, nc_64, nc_104, nc_120, nc_160, nc_256, nc_300, nc_330, nc_390, nc_1200, nc_1260, nc_3012, nc_9834, okSt_1i, okSt_1r, okSt_1n, List.length_cons, List.length_nil, xpk_succ cd_64_25, xpk_succ cd_64_26, xpk_succ cd_64_29, xpk_succ cd_64_30, xpk_succ cd_64_33, xpk_succ cd_64_36, xpk_succ cd_64_37, xpk_succ cd_64_38, xpk_succ cd_64_41, xpk_succ cd_64_44, xpk_succ cd_64_45, xpk_succ cd_64_48, xpk_succ cd_64_51, xpk_succ cd_64_53, xpk_succ cd_64_56, xpk_succ cd_64_57, xpk_succ cd_64_59, xpk_succ cd_64_62, xpk_succ cd_64_65, xpk_succ cd_64_66, xpk_succ cd_64_69, xpk_succ cd_64_70, xpk_succ cd_64_71, xpk_succ cd_64_74, xpk_succ cd_64_75, xpk_succ cd_64_76, xpk_succ cd_64_79, xpk_succ cd_64_80, xpk_succ cd_64_83, xpk_succ cd_64_86, xpk_succ cd_64_87, xpk_succ cd_64_88, xpk_succ cd_64_91, xpk_succ cd_64_92, xpk_succ cd_64_95, xpk_succ cd_64_96, xpk_succ cd_64_97, xpk_succ cd_64_100, xpk_succ cd_64_103, xpk_succ cd_64_104, xpk_succ cd_64_105, xpk_succ cd_64_108, xpk_succ cd_64_109, xpk_succ cd_64_111, xpk_succ cd_64_114, xpk_succ cd_64_115, xpk_succ cd_64_118, xpk_succ cd_64_119, xpk_succ cd_64_122, hR_2, hR_3, hR_4, hR_5, hR_6, hR_7, hR_s2, hR_s3, hR_s4, hR_s5, hR_s6, hR_s7, (hR_T hb.1), (hR_sT hb.1), (R_0 (RDB_X hb)), (R_1 (RDB_X hb)), (R_T0 (RDB_X hb)), hK_R, hK_X, hb.2.1.1, hb.2.2.1.1, (GX_6 hb hx), hhas, e, g3, g3b]
        exact y.2
      have g3 : ((cs.length : Nat) : Int) < 24 := by omega
      have g3b : ¬ ((24 : Int) ≤ (cs.length : Int)) := by omega
      have hC1 : cs.length < 24 := by omega
      have es : ∀ Q : Option AV → AH → Prop, XC (d + 74) 61 [vR 70] (hR (hX h T bg en kd ag cs.length) T D ((j : Nat) : Int) ((tkf cnt kn vn j).1) 0 l 0 (-1) L dd) Q = Q none (hR (hX h T bg en kd ag cs.length) T D ((j + 1 : Nat) : Int) ((tkf cnt kn vn (j + 1)).1) 0 l 0 (-1) L dd) := fun Q => E_step (d := d + 72) (RDB_X hb) (TOK_X hb.1 hk) (by omega) Q
      by_cases z5 : (tkf cnt kn vn j).1 < 5
      · have g5 : ¬ 5 ≤ (tkf cnt kn vn j).1 := by omega
        obtain ⟨w, hw⟩ : ∃ w : Nat, (tkf cnt kn vn j).1 = (w : Int) := ⟨((tkf cnt kn vn j).1).toNat, by omega⟩
        obtain ⟨g, eg, hs⟩ := SUM_c (d := d) (RDB_X (bg := bg) (en := en) (kd := kd) (ag := ag) (nC := cs.length) hb) (TOK_X hb.1 hk) (l := (tkf cnt kn vn j).1) ⟨by omega, by omega⟩ hv (j := j + 1) (L := L) (dd := dd) (by omega) (by omega)
        rcases hs with ⟨j2, L2, dd2, cd, m, hg, ha, hx2, hm⟩ | ⟨f, jf, ⟨a2, c2, L2, dd2, hg, hL2, hf⟩, hm⟩
        · subst hg
          have hq := B64o (d := d) hb hk hx (bg := (upF bg ((tkf cnt kn vn j).1).toNat ((L : Nat) : Int))) (en := (upF en ((tkf cnt kn vn j).1).toNat ((L2 : Nat) : Int))) (kd := kd) (ag := ag) (nC := cs.length) (L := L2) (j := j2) (l := (tkf cnt kn vn j).1) (dd := dd2) (l2 := some (vI ((L : Nat) : Int))) (K := (tkf cnt kn vn j).1) hC1 ha.1.2
          have y : XP (d + 74) 64 108 [some (vR 70), some (vI (tkf cnt kn vn j).1), some (vI ((L : Nat) : Int))] [] (hR (hX h T (upF bg ((tkf cnt kn vn j).1).toNat ((L : Nat) : Int)) (upF en ((tkf cnt kn vn j).1).toNat ((L2 : Nat) : Int)) kd ag cs.length) T D ((j2 : Nat) : Int) ((tkf cnt kn vn j2).1) 0 ((tkf cnt kn vn j).1) 0 (-1) L2 dd2) (fun r g => r = none ∧ ∃ out, CLo (tkf cnt kn vn) cs j out ∧ CLr h T D cnt n kn vn pn cs j out g) := XP_mono hq (fun r g q => ?_)
          · have el : ∀ Q : Option AV → AH → Prop, XC (d + 74) 93 [vR T, vI (tkf cnt kn vn j).1, vI ((L : Nat) : Int)] (hR (hX h T bg en kd ag cs.length) T D ((j2 : Nat) : Int) ((tkf cnt kn vn j2).1) 0 ((tkf cnt kn vn j).1) 0 (-1) L2 dd2) Q = Q none (hR (hX h T (upF bg ((tkf cnt kn vn j).1).toNat ((L : Nat) : Int)) (upF en ((tkf cnt kn vn j).1).toNat ((L2 : Nat) : Int)) kd ag cs.length) T D ((j2 : Nat) : Int) ((tkf cnt kn vn j2).1) 0 ((tkf cnt kn vn j).1) 0 (-1) L2 dd2) := fun Q => X_setL (d := d + 72) hb hx (by omega) (by omega) Q
            refine xpk_sound (stops := [108]) (n := 60) ?_
            simp only [sk_0, sk_1, sk_2, sk_3, sk_4, sk_5, sk_6, sk_7, sk_8, sk_iadd, sk_isub, sk_imul, sk_iand, sk_ior, sk_ixor, sk_ishl, sk_ishr, sk_iushr, sk_idiv, sk_irem, sk_ineg, sk_ladd, sk_lsub, sk_lmul, sk_land, sk_lor, sk_ldiv, sk_lrem, sk_lneg, sk_lshl, sk_lshr, sk_i2l, sk_l2i, sk_lcmp, sk_dupI, sk_dupR, sk_dup2L, sk_dup2I, sk_popI, sk_ifeq, sk_ifne, sk_iflt, sk_ifge, sk_ifgt, sk_ifle, sk_iceq, sk_icne, sk_iclt, sk_icge, sk_icgt, sk_icle, sk_goto, sk_getf, sk_putf, sk_gets, sk_iald, sk_lald, sk_bald, sk_aald, sk_iast, sk_last, sk_bast, sk_aast, sk_alen, sk_newa, sk_newt, sk_new, sk_cs1, sk_cs2, sk_cs3, sk_cs4, sk_cs5, sk_cs6, sk_cv1, sk_cv2, sk_cv3, sk_cv4, sk_cv5, sk_cv6, sk_ci1, sk_ci2, sk_ci3, sk_ret0, sk_retI, sk_retL, sk_retR, sk_sw, sk_oin, sk_max, sk_min, sk_abs, lI_0, lI_s, lL_0, lL_s, lR_0, lR_s, vIo_e, vLo_e, vOo_e, stW_I, stW_L, stW_R, stW_0, stW_z, okSt_0, okSt_s, hV_eq, hK_eq, okF_0, okF_1, okF_3, is01_0, is01_1, is01_i, Int.toNat_natCast, Int.reduceEq, Int.reduceLE, Int.reduceLT, Int.reduceNeg, Nat.reduceLT, not_true_eq_false, not_false_eq_true, reduceIte, Option.toList, List.cons_append, List.nil_append, List.set_cons_zero, List.set_cons_succ, List.not_mem_nil, List.mem_cons, if_false, if_true, ite_true, ite_false, and_self, and_true, true_and, Nat.reduceAdd, Nat.reduceLeDiff, Nat.reduceEqDiff, Nat.zero_add, Nat.le_refl, Nat.zero_le, or_false, false_or, Int.reduceToNat, or_true, true_or, eq_self, and_false, false_and, inR_d, nc_4, nc_5, nc_6, nc_7, nc_8, nc_16, nc_18, nc_20, nc_24, nc_32, nc_40, nc_64, nc_104, nc_120, nc_160, nc_256, nc_300, nc_330, nc_390, nc_1200, nc_1260, nc_3012, nc_9834, okSt_1i, okSt_1r, okSt_1n, List.length_cons, List.length_nil, xpk_succ cd_64_25, xpk_succ cd_64_26, xpk_succ cd_64_29, xpk_succ cd_64_30, xpk_succ cd_64_33, xpk_succ cd_64_36, xpk_succ cd_64_37, xpk_succ cd_64_38, xpk_succ cd_64_41, xpk_succ cd_64_44, xpk_succ cd_64_45, xpk_succ cd_64_48, xpk_succ cd_64_51, xpk_succ cd_64_53, xpk_succ cd_64_56, xpk_succ cd_64_57, xpk_succ cd_64_59, xpk_succ cd_64_62, xpk_succ cd_64_65, xpk_succ cd_64_66, xpk_succ cd_64_69, xpk_succ cd_64_70, xpk_succ cd_64_71, xpk_succ cd_64_74, xpk_succ cd_64_75, xpk_succ cd_64_76, xpk_succ cd_64_79, xpk_succ cd_64_80, xpk_succ cd_64_83, xpk_succ cd_64_86, xpk_succ cd_64_87, xpk_succ cd_64_88, xpk_succ cd_64_91, xpk_succ cd_64_92, xpk_succ cd_64_95, xpk_succ cd_64_96, xpk_succ cd_64_97, xpk_succ cd_64_100, xpk_succ cd_64_103, xpk_succ cd_64_104, xpk_succ cd_64_105, hR_2, hR_3, hR_4, hR_5, hR_6, hR_7, hR_s2, hR_s3, hR_s4, hR_s5, hR_s6, hR_s7, (hR_T hb.1), (hR_sT hb.1), (R_0 (RDB_X hb)), (R_1 (RDB_X hb)), (R_T0 (RDB_X hb)), hK_R, hK_X, hb.2.1.1, hb.2.2.1.1, (GX_6 hb hx), hhas, es, eg, el, g3, g3b, z5, g5]
            exact y
          · refine ⟨q.1, ?_⟩
            rcases q.2 with ⟨k52, q2⟩ | ⟨k52, kd0, nC0, q2⟩
            · refine ⟨.inr (j2 + 1, ((tkf cnt kn vn j).1, cd, [])), ?_, ?_⟩
              · unfold CLo; rw [if_neg n1, if_neg z2, if_neg z3, if_pos z5]
                exact ⟨0, j2, cd, m, hm, by unfold fiC; rw [if_neg (fun y => y rfl), if_pos k52]⟩
              · have ht := TXR_l hr ha.2.2 ha.2.1.1 (show w < 5 by omega) hx2
                rw [hw, Int.toNat_natCast] at q2
                have hjc : j2 < cnt := tk_le (by rw [k52]; decide)
                have h3 := ha.2.1.2
                have h4 := ha.1.1
                exact ⟨_, _, _, _, _, _, _, q2, by rw [hw]; exact ht, by omega, by omega, by omega⟩
            · refine ⟨.inl (1, j2), ?_, ⟨by decide, _, _, _, _, _, _, _, _, _, _, q2⟩⟩
              unfold CLo; rw [if_neg n1, if_neg z2, if_neg z3, if_pos z5]
              exact ⟨0, j2, cd, m, hm, by unfold fiC; rw [if_neg (fun y => y rfl), if_neg k52]⟩
        · subst hg
          obtain ⟨m, cd, hm⟩ := hm
          have hq := B64f (d := d) hb hk hx (bg := (upF bg ((tkf cnt kn vn j).1).toNat ((L : Nat) : Int))) (en := (upF en ((tkf cnt kn vn j).1).toNat ((L2 : Nat) : Int))) (kd := kd) (ag := ag) (nC := cs.length) (L := L2) (c := c2) (l := (tkf cnt kn vn j).1) (f := f) (p := (plf cnt n pn jf)) (a := a2) (dd := dd2) (l2 := some (vI ((L : Nat) : Int))) (K := (tkf cnt kn vn j).1) hC1 hf
          have y : XP (d + 74) 64 108 [some (vR 70), some (vI (tkf cnt kn vn j).1), some (vI ((L : Nat) : Int))] [] (hR (hX h T (upF bg ((tkf cnt kn vn j).1).toNat ((L : Nat) : Int)) (upF en ((tkf cnt kn vn j).1).toNat ((L2 : Nat) : Int)) kd ag cs.length) T D a2 63 c2 ((tkf cnt kn vn j).1) f (plf cnt n pn jf) L2 dd2) (fun r g => r = none ∧ ∃ out, CLo (tkf cnt kn vn) cs j out ∧ CLr h T D cnt n kn vn pn cs j out g) := XP_mono hq (fun r g q => ?_)
          · have el : ∀ Q : Option AV → AH → Prop, XC (d + 74) 93 [vR T, vI (tkf cnt kn vn j).1, vI ((L : Nat) : Int)] (hR (hX h T bg en kd ag cs.length) T D a2 63 c2 ((tkf cnt kn vn j).1) f (plf cnt n pn jf) L2 dd2) Q = Q none (hR (hX h T (upF bg ((tkf cnt kn vn j).1).toNat ((L : Nat) : Int)) (upF en ((tkf cnt kn vn j).1).toNat ((L2 : Nat) : Int)) kd ag cs.length) T D a2 63 c2 ((tkf cnt kn vn j).1) f (plf cnt n pn jf) L2 dd2) := fun Q => X_setL (d := d + 72) hb hx (by omega) (by omega) Q
            refine xpk_sound (stops := [108]) (n := 60) ?_
            simp only [sk_0, sk_1, sk_2, sk_3, sk_4, sk_5, sk_6, sk_7, sk_8, sk_iadd, sk_isub, sk_imul, sk_iand, sk_ior, sk_ixor, sk_ishl, sk_ishr, sk_iushr, sk_idiv, sk_irem, sk_ineg, sk_ladd, sk_lsub, sk_lmul, sk_land, sk_lor, sk_ldiv, sk_lrem, sk_lneg, sk_lshl, sk_lshr, sk_i2l, sk_l2i, sk_lcmp, sk_dupI, sk_dupR, sk_dup2L, sk_dup2I, sk_popI, sk_ifeq, sk_ifne, sk_iflt, sk_ifge, sk_ifgt, sk_ifle, sk_iceq, sk_icne, sk_iclt, sk_icge, sk_icgt, sk_icle, sk_goto, sk_getf, sk_putf, sk_gets, sk_iald, sk_lald, sk_bald, sk_aald, sk_iast, sk_last, sk_bast, sk_aast, sk_alen, sk_newa, sk_newt, sk_new, sk_cs1, sk_cs2, sk_cs3, sk_cs4, sk_cs5, sk_cs6, sk_cv1, sk_cv2, sk_cv3, sk_cv4, sk_cv5, sk_cv6, sk_ci1, sk_ci2, sk_ci3, sk_ret0, sk_retI, sk_retL, sk_retR, sk_sw, sk_oin, sk_max, sk_min, sk_abs, lI_0, lI_s, lL_0, lL_s, lR_0, lR_s, vIo_e, vLo_e, vOo_e, stW_I, stW_L, stW_R, stW_0, stW_z, okSt_0, okSt_s, hV_eq, hK_eq, okF_0, okF_1, okF_3, is01_0, is01_1, is01_i, Int.toNat_natCast, Int.reduceEq, Int.reduceLE, Int.reduceLT, Int.reduceNeg, Nat.reduceLT, not_true_eq_false, not_false_eq_true, reduceIte, Option.toList, List.cons_append, List.nil_append, List.set_cons_zero, List.set_cons_succ, List.not_mem_nil, List.mem_cons, if_false, if_true, ite_true, ite_false, and_self, and_true, true_and, Nat.reduceAdd, Nat.reduceLeDiff, Nat.reduceEqDiff, Nat.zero_add, Nat.le_refl, Nat.zero_le, or_false, false_or, Int.reduceToNat, or_true, true_or, eq_self, and_false, false_and, inR_d, nc_4, nc_5, nc_6, nc_7, nc_8, nc_16, nc_18, nc_20, nc_24, nc_32, nc_40, nc_64, nc_104, nc_120, nc_160, nc_256, nc_300, nc_330, nc_390, nc_1200, nc_1260, nc_3012, nc_9834, okSt_1i, okSt_1r, okSt_1n, List.length_cons, List.length_nil, xpk_succ cd_64_25, xpk_succ cd_64_26, xpk_succ cd_64_29, xpk_succ cd_64_30, xpk_succ cd_64_33, xpk_succ cd_64_36, xpk_succ cd_64_37, xpk_succ cd_64_38, xpk_succ cd_64_41, xpk_succ cd_64_44, xpk_succ cd_64_45, xpk_succ cd_64_48, xpk_succ cd_64_51, xpk_succ cd_64_53, xpk_succ cd_64_56, xpk_succ cd_64_57, xpk_succ cd_64_59, xpk_succ cd_64_62, xpk_succ cd_64_65, xpk_succ cd_64_66, xpk_succ cd_64_69, xpk_succ cd_64_70, xpk_succ cd_64_71, xpk_succ cd_64_74, xpk_succ cd_64_75, xpk_succ cd_64_76, xpk_succ cd_64_79, xpk_succ cd_64_80, xpk_succ cd_64_83, xpk_succ cd_64_86, xpk_succ cd_64_87, xpk_succ cd_64_88, xpk_succ cd_64_91, xpk_succ cd_64_92, xpk_succ cd_64_95, xpk_succ cd_64_96, xpk_succ cd_64_97, xpk_succ cd_64_100, xpk_succ cd_64_103, xpk_succ cd_64_104, xpk_succ cd_64_105, hR_2, hR_3, hR_4, hR_5, hR_6, hR_7, hR_s2, hR_s3, hR_s4, hR_s5, hR_s6, hR_s7, (hR_T hb.1), (hR_sT hb.1), (R_0 (RDB_X hb)), (R_1 (RDB_X hb)), (R_T0 (RDB_X hb)), hK_R, hK_X, hb.2.1.1, hb.2.2.1.1, (GX_6 hb hx), hhas, es, eg, el, g3, g3b, z5, g5]
            exact y
          · obtain ⟨kd0, nC0, q2⟩ := q.2
            refine ⟨q.1, .inl (f, jf), ?_, ⟨hf, _, _, _, _, _, _, _, _, _, _, q2⟩⟩
            unfold CLo; rw [if_neg n1, if_neg z2, if_neg z3, if_pos z5]
            exact ⟨f, jf, cd, m, hm, by unfold fiC; rw [if_pos hf]⟩
      have g5 : 5 ≤ (tkf cnt kn vn j).1 := by omega
      have g5n : ¬ (tkf cnt kn vn j).1 < 5 := z5
      have q0 : XC (d + 74) 65 [vR 70, vI (tkf cnt kn vn j).1] (hR (hX h T bg en kd ag cs.length) T D ((j + 1 : Nat) : Int) ((tkf cnt kn vn (j + 1)).1) 0 l 0 (-1) L dd) (CQ h T D cnt n kn vn pn bg en kd ag cs.length 0 l L dd (bdV (tkf cnt kn vn) (tkf cnt kn vn j).1 (j + 1))) := by
        have hK : (tkf cnt kn vn j).1 = 5 ∨ (tkf cnt kn vn j).1 = 6 ∨ (tkf cnt kn vn j).1 = 7 ∨ (tkf cnt kn vn j).1 = 8 ∨ (tkf cnt kn vn j).1 = 9 ∨ (tkf cnt kn vn j).1 = 10 ∨ (tkf cnt kn vn j).1 = 16 := by omega
        rcases hK with hK | hK | hK | hK | hK | hK | hK
        · rw [hK]; exact O65_5 (d := d + 69) hb hk hx hC1 (by omega)
        · rw [hK]; exact O65_6 (d := d + 69) hb hk hx hC1 (by omega)
        · rw [hK]; exact O65_7 (d := d + 69) hb hk hx hC1 (by omega)
        · rw [hK]; exact O65_8 (d := d + 69) hb hk hx hC1 (by omega)
        · rw [hK]; exact O65_9 (d := d + 69) hb hk hx hC1 (by omega)
        · rw [hK]; exact O65_10 (d := d + 69) hb hk hx hC1 (by omega)
        · rw [hK]; exact O65_16 (d := d + 69) hb hk hx hC1 (by omega)
      obtain ⟨r1, g1, hq1, e1⟩ := XC_dt (d := d + 73) q0
      have hr1 := hq1.1
      subst hr1
      have hq2 := hq1.2
      have eC : CLo (tkf cnt kn vn) cs j (fiV (tkf cnt kn vn) (tkf cnt kn vn j).1 (bdV (tkf cnt kn vn) (tkf cnt kn vn j).1 (j + 1))) := by unfold CLo; rw [if_neg n1, if_neg z2, if_neg z3, if_neg z5]
      have e1 : ∀ Q : Option AV → AH → Prop, XC (d + 74) 65 [vR 70, vI (tkf cnt kn vn j).1] (hR (hX h T bg en kd ag cs.length) T D ((j + 1 : Nat) : Int) ((tkf cnt kn vn (j + 1)).1) 0 l 0 (-1) L dd) Q = Q none g1 := e1
      cases hbd : bdV (tkf cnt kn vn) (tkf cnt kn vn j).1 (j + 1) with
      | inl x =>
        obtain ⟨f, jf⟩ := x
        rw [hbd] at hq2 eC
        obtain ⟨hf, ag1, hg⟩ := hq2
        subst hg
        have hq := B64f (d := d) hb hk hx (bg := bg) (en := en) (kd := kd) (ag := ag1) (nC := cs.length) (L := L) (c := 0) (l := l) (f := f) (p := (plf cnt n pn jf)) (a := ((jf : Nat) : Int)) (dd := dd) (l2 := none) (K := (tkf cnt kn vn j).1) hC1 hf
        have y : XP (d + 74) 64 108 [some (vR 70), some (vI (tkf cnt kn vn j).1), none] [] (hR (hX h T bg en kd ag1 cs.length) T D ((jf : Nat) : Int) 63 0 l f (plf cnt n pn jf) L dd) (fun r g => r = none ∧ ∃ out, CLo (tkf cnt kn vn) cs j out ∧ CLr h T D cnt n kn vn pn cs j out g) := XP_mono hq (fun r g q => by
          obtain ⟨kd0, nC0, q2⟩ := q.2
          exact ⟨q.1, .inl (f, jf), eC, ⟨hf, _, _, _, _, _, _, _, _, _, _, q2⟩⟩)
        refine xpk_sound (stops := [108]) (n := 60) ?_
        simp only [sk_0, sk_1, sk_2, sk_3, sk_4, sk_5, sk_6, sk_7, sk_8, sk_iadd, sk_isub, sk_imul, sk_iand, sk_ior, sk_ixor, sk_ishl, sk_ishr, sk_iushr, sk_idiv, sk_irem, sk_ineg, sk_ladd, sk_lsub, sk_lmul, sk_land, sk_lor, sk_ldiv, sk_lrem, sk_lneg, sk_lshl, sk_lshr, sk_i2l, sk_l2i, sk_lcmp, sk_dupI, sk_dupR, sk_dup2L, sk_dup2I, sk_popI, sk_ifeq, sk_ifne, sk_iflt, sk_ifge, sk_ifgt, sk_ifle, sk_iceq, sk_icne, sk_iclt, sk_icge, sk_icgt, sk_icle, sk_goto, sk_getf, sk_putf, sk_gets, sk_iald, sk_lald, sk_bald, sk_aald, sk_iast, sk_last, sk_bast, sk_aast, sk_alen, sk_newa, sk_newt, sk_new, sk_cs1, sk_cs2, sk_cs3, sk_cs4, sk_cs5, sk_cs6, sk_cv1, sk_cv2, sk_cv3, sk_cv4, sk_cv5, sk_cv6, sk_ci1, sk_ci2, sk_ci3, sk_ret0, sk_retI, sk_retL, sk_retR, sk_sw, sk_oin, sk_max, sk_min, sk_abs, lI_0, lI_s, lL_0, lL_s, lR_0, lR_s, vIo_e, vLo_e, vOo_e, stW_I, stW_L, stW_R, stW_0, stW_z, okSt_0, okSt_s, hV_eq, hK_eq, okF_0, okF_1, okF_3, is01_0, is01_1, is01_i, Int.toNat_natCast, Int.reduceEq, Int.reduceLE, Int.reduceLT, Int.reduceNeg, Nat.reduceLT, not_true_eq_false, not_false_eq_true, reduceIte, Option.toList, List.cons_append, List.nil_append, List.set_cons_zero, List.set_cons_succ, List.not_mem_nil, List.mem_cons, if_false, if_true, ite_true, ite_false, and_self, and_true, true_and, Nat.reduceAdd, Nat.reduceLeDiff, Nat.reduceEqDiff, Nat.zero_add, Nat.le_refl, Nat.zero_le, or_false, false_or, Int.reduceToNat, or_true, true_or, eq_self, and_false, false_and, inR_d, nc_4, nc_5, nc_6, nc_7, nc_8, nc_16, nc_18, nc_20, nc_24, nc_32, nc_40, nc_64, nc_104, nc_120, nc_160, nc_256, nc_300, nc_330, nc_390, nc_1200, nc_1260, nc_3012, nc_9834, okSt_1i, okSt_1r, okSt_1n, List.length_cons, List.length_nil, xpk_succ cd_64_25, xpk_succ cd_64_26, xpk_succ cd_64_29, xpk_succ cd_64_30, xpk_succ cd_64_33, xpk_succ cd_64_36, xpk_succ cd_64_37, xpk_succ cd_64_38, xpk_succ cd_64_41, xpk_succ cd_64_44, xpk_succ cd_64_45, xpk_succ cd_64_48, xpk_succ cd_64_51, xpk_succ cd_64_53, xpk_succ cd_64_56, xpk_succ cd_64_57, xpk_succ cd_64_59, xpk_succ cd_64_62, xpk_succ cd_64_65, xpk_succ cd_64_66, xpk_succ cd_64_69, xpk_succ cd_64_70, xpk_succ cd_64_71, xpk_succ cd_64_74, xpk_succ cd_64_75, xpk_succ cd_64_76, xpk_succ cd_64_79, xpk_succ cd_64_80, xpk_succ cd_64_83, xpk_succ cd_64_86, xpk_succ cd_64_87, xpk_succ cd_64_88, xpk_succ cd_64_91, xpk_succ cd_64_92, xpk_succ cd_64_95, xpk_succ cd_64_96, xpk_succ cd_64_97, xpk_succ cd_64_100, xpk_succ cd_64_103, xpk_succ cd_64_104, xpk_succ cd_64_105, hR_2, hR_3, hR_4, hR_5, hR_6, hR_7, hR_s2, hR_s3, hR_s4, hR_s5, hR_s6, hR_s7, (hR_T hb.1), (hR_sT hb.1), (R_0 (RDB_X hb)), (R_1 (RDB_X hb)), (R_T0 (RDB_X hb)), hK_R, hK_X, hb.2.1.1, hb.2.2.1.1, (GX_6 hb hx), hhas, es, e1, g3, g3b, g5, g5n]
        exact y
      | inr x =>
        obtain ⟨j2, vs⟩ := x
        rw [hbd] at hq2 eC
        obtain ⟨⟨hj2, hvs⟩, hg⟩ := hq2
        subst hg
        have hmo : j + 1 ≤ j2 := bdV_m hbd
        have hq := B64o (d := d) hb hk hx (bg := bg) (en := en) (kd := kd) (ag := wrL (cs.length * 5) vs ag) (nC := cs.length) (L := L) (j := j2) (l := l) (dd := dd) (l2 := none) (K := (tkf cnt kn vn j).1) hC1 hj2
        have y : XP (d + 74) 64 108 [some (vR 70), some (vI (tkf cnt kn vn j).1), none] [] (hR (hX h T bg en kd (wrL (cs.length * 5) vs ag) cs.length) T D ((j2 : Nat) : Int) ((tkf cnt kn vn j2).1) 0 l 0 (-1) L dd) (fun r g => r = none ∧ ∃ out, CLo (tkf cnt kn vn) cs j out ∧ CLr h T D cnt n kn vn pn cs j out g) := XP_mono hq (fun r g q => ?_)
        · refine xpk_sound (stops := [108]) (n := 60) ?_
          simp only [sk_0, sk_1, sk_2, sk_3, sk_4, sk_5, sk_6, sk_7, sk_8, sk_iadd, sk_isub, sk_imul, sk_iand, sk_ior, sk_ixor, sk_ishl, sk_ishr, sk_iushr, sk_idiv, sk_irem, sk_ineg, sk_ladd, sk_lsub, sk_lmul, sk_land, sk_lor, sk_ldiv, sk_lrem, sk_lneg, sk_lshl, sk_lshr, sk_i2l, sk_l2i, sk_lcmp, sk_dupI, sk_dupR, sk_dup2L, sk_dup2I, sk_popI, sk_ifeq, sk_ifne, sk_iflt, sk_ifge, sk_ifgt, sk_ifle, sk_iceq, sk_icne, sk_iclt, sk_icge, sk_icgt, sk_icle, sk_goto, sk_getf, sk_putf, sk_gets, sk_iald, sk_lald, sk_bald, sk_aald, sk_iast, sk_last, sk_bast, sk_aast, sk_alen, sk_newa, sk_newt, sk_new, sk_cs1, sk_cs2, sk_cs3, sk_cs4, sk_cs5, sk_cs6, sk_cv1, sk_cv2, sk_cv3, sk_cv4, sk_cv5, sk_cv6, sk_ci1, sk_ci2, sk_ci3, sk_ret0, sk_retI, sk_retL, sk_retR, sk_sw, sk_oin, sk_max, sk_min, sk_abs, lI_0, lI_s, lL_0, lL_s, lR_0, lR_s, vIo_e, vLo_e, vOo_e, stW_I, stW_L, stW_R, stW_0, stW_z, okSt_0, okSt_s, hV_eq, hK_eq, okF_0, okF_1, okF_3, is01_0, is01_1, is01_i, Int.toNat_natCast, Int.reduceEq, Int.reduceLE, Int.reduceLT, Int.reduceNeg, Nat.reduceLT, not_true_eq_false, not_false_eq_true, reduceIte, Option.toList, List.cons_append, List.nil_append, List.set_cons_zero, List.set_cons_succ, List.not_mem_nil, List.mem_cons, if_false, if_true, ite_true, ite_false, and_self, and_true, true_and, Nat.reduceAdd, Nat.reduceLeDiff, Nat.reduceEqDiff, Nat.zero_add, Nat.le_refl, Nat.zero_le, or_false, false_or, Int.reduceToNat, or_true, true_or, eq_self, and_false, false_and, inR_d, nc_4, nc_5, nc_6, nc_7, nc_8, nc_16, nc_18, nc_20, nc_24, nc_32, nc_40, nc_64, nc_104, nc_120, nc_160, nc_256, nc_300, nc_330, nc_390, nc_1200, nc_1260, nc_3012, nc_9834, okSt_1i, okSt_1r, okSt_1n, List.length_cons, List.length_nil, xpk_succ cd_64_25, xpk_succ cd_64_26, xpk_succ cd_64_29, xpk_succ cd_64_30, xpk_succ cd_64_33, xpk_succ cd_64_36, xpk_succ cd_64_37, xpk_succ cd_64_38, xpk_succ cd_64_41, xpk_succ cd_64_44, xpk_succ cd_64_45, xpk_succ cd_64_48, xpk_succ cd_64_51, xpk_succ cd_64_53, xpk_succ cd_64_56, xpk_succ cd_64_57, xpk_succ cd_64_59, xpk_succ cd_64_62, xpk_succ cd_64_65, xpk_succ cd_64_66, xpk_succ cd_64_69, xpk_succ cd_64_70, xpk_succ cd_64_71, xpk_succ cd_64_74, xpk_succ cd_64_75, xpk_succ cd_64_76, xpk_succ cd_64_79, xpk_succ cd_64_80, xpk_succ cd_64_83, xpk_succ cd_64_86, xpk_succ cd_64_87, xpk_succ cd_64_88, xpk_succ cd_64_91, xpk_succ cd_64_92, xpk_succ cd_64_95, xpk_succ cd_64_96, xpk_succ cd_64_97, xpk_succ cd_64_100, xpk_succ cd_64_103, xpk_succ cd_64_104, xpk_succ cd_64_105, hR_2, hR_3, hR_4, hR_5, hR_6, hR_7, hR_s2, hR_s3, hR_s4, hR_s5, hR_s6, hR_s7, (hR_T hb.1), (hR_sT hb.1), (R_0 (RDB_X hb)), (R_1 (RDB_X hb)), (R_T0 (RDB_X hb)), hK_R, hK_X, hb.2.1.1, hb.2.2.1.1, (GX_6 hb hx), hhas, es, e1, g3, g3b, g5, g5n]
          exact y
        · refine ⟨q.1, ?_⟩
          rcases q.2 with ⟨k52, q2⟩ | ⟨k52, kd0, nC0, q2⟩
          · have eF : fiV (tkf cnt kn vn) (tkf cnt kn vn j).1 (.inr (j2, vs)) = .inr (j2 + 1, ((tkf cnt kn vn j).1, [], vs)) := if_pos k52
            rw [eF] at eC
            have hjc : j2 < cnt := tk_le (by rw [k52]; decide)
            exact ⟨_, eC, _, _, _, _, _, _, _, q2, TXR_o hr g5 hvs, by omega, by omega, by omega⟩
          · have eF : fiV (tkf cnt kn vn) (tkf cnt kn vn j).1 (.inr (j2, vs)) = .inl (1, j2) := if_neg k52
            rw [eF] at eC
            exact ⟨_, eC, by decide, _, _, _, _, _, _, _, _, _, _, q2⟩
    by_cases z10 : (tkf cnt kn vn j).1 ≤ 10
    · have g10 : ¬ 10 < (tkf cnt kn vn j).1 := by omega
      refine xpk_sound (stops := [25]) (n := 20) ?_
      simp only [sk_0, sk_1, sk_2, sk_3, sk_4, sk_5, sk_6, sk_7, sk_8, sk_iadd, sk_isub, sk_imul, sk_iand, sk_ior, sk_ixor, sk_ishl, sk_ishr, sk_iushr, sk_idiv, sk_irem, sk_ineg, sk_ladd, sk_lsub, sk_lmul, sk_land, sk_lor, sk_ldiv, sk_lrem, sk_lneg, sk_lshl, sk_lshr, sk_i2l, sk_l2i, sk_lcmp, sk_dupI, sk_dupR, sk_dup2L, sk_dup2I, sk_popI, sk_ifeq, sk_ifne, sk_iflt, sk_ifge, sk_ifgt, sk_ifle, sk_iceq, sk_icne, sk_iclt, sk_icge, sk_icgt, sk_icle, sk_goto, sk_getf, sk_putf, sk_gets, sk_iald, sk_lald, sk_bald, sk_aald, sk_iast, sk_last, sk_bast, sk_aast, sk_alen, sk_newa, sk_newt, sk_new, sk_cs1, sk_cs2, sk_cs3, sk_cs4, sk_cs5, sk_cs6, sk_cv1, sk_cv2, sk_cv3, sk_cv4, sk_cv5, sk_cv6, sk_ci1, sk_ci2, sk_ci3, sk_ret0, sk_retI, sk_retL, sk_retR, sk_sw, sk_oin, sk_max, sk_min, sk_abs, lI_0, lI_s, lL_0, lL_s, lR_0, lR_s, vIo_e, vLo_e, vOo_e, stW_I, stW_L, stW_R, stW_0, stW_z, okSt_0, okSt_s, hV_eq, hK_eq, okF_0, okF_1, okF_3, is01_0, is01_1, is01_i, Int.toNat_natCast, Int.reduceEq, Int.reduceLE, Int.reduceLT, Int.reduceNeg, Nat.reduceLT, not_true_eq_false, not_false_eq_true, reduceIte, Option.toList, List.cons_append, List.nil_append, List.set_cons_zero, List.set_cons_succ, List.not_mem_nil, List.mem_cons, if_false, if_true, ite_true, ite_false, and_self, and_true, true_and, Nat.reduceAdd, Nat.reduceLeDiff, Nat.reduceEqDiff, Nat.zero_add, Nat.le_refl, Nat.zero_le, or_false, false_or, Int.reduceToNat, or_true, true_or, eq_self, and_false, false_and, inR_d, nc_4, nc_5, nc_6, nc_7, nc_8, nc_16, nc_18, nc_20, nc_24, nc_32, nc_40, nc_64, nc_104, nc_120, nc_160, nc_256, nc_300, nc_330, nc_390, nc_1200, nc_1260, nc_3012, nc_9834, okSt_1i, okSt_1r, okSt_1n, List.length_cons, List.length_nil, xpk_succ cd_64_0, xpk_succ cd_64_1, xpk_succ cd_64_4, xpk_succ cd_64_5, xpk_succ cd_64_6, xpk_succ cd_64_8, xpk_succ cd_64_11, xpk_succ cd_64_12, xpk_succ cd_64_14, xpk_succ cd_64_17, xpk_succ cd_64_18, xpk_succ cd_64_19, xpk_succ cd_64_22, hR_2, hR_3, hR_4, hR_5, hR_6, hR_7, hR_s2, hR_s3, hR_s4, hR_s5, hR_s6, hR_s7, (hR_T hb.1), (hR_sT hb.1), (R_0 (RDB_X hb)), (R_1 (RDB_X hb)), (R_T0 (RDB_X hb)), hK_R, hK_X, hb.2.1.1, hb.2.2.1.1, (GX_6 hb hx), z10, g10]
      exact go
    · have g10 : 10 < (tkf cnt kn vn j).1 := by omega
      have z16 : (tkf cnt kn vn j).1 = 16 := by omega
      refine xpk_sound (stops := [25]) (n := 20) ?_
      simp only [sk_0, sk_1, sk_2, sk_3, sk_4, sk_5, sk_6, sk_7, sk_8, sk_iadd, sk_isub, sk_imul, sk_iand, sk_ior, sk_ixor, sk_ishl, sk_ishr, sk_iushr, sk_idiv, sk_irem, sk_ineg, sk_ladd, sk_lsub, sk_lmul, sk_land, sk_lor, sk_ldiv, sk_lrem, sk_lneg, sk_lshl, sk_lshr, sk_i2l, sk_l2i, sk_lcmp, sk_dupI, sk_dupR, sk_dup2L, sk_dup2I, sk_popI, sk_ifeq, sk_ifne, sk_iflt, sk_ifge, sk_ifgt, sk_ifle, sk_iceq, sk_icne, sk_iclt, sk_icge, sk_icgt, sk_icle, sk_goto, sk_getf, sk_putf, sk_gets, sk_iald, sk_lald, sk_bald, sk_aald, sk_iast, sk_last, sk_bast, sk_aast, sk_alen, sk_newa, sk_newt, sk_new, sk_cs1, sk_cs2, sk_cs3, sk_cs4, sk_cs5, sk_cs6, sk_cv1, sk_cv2, sk_cv3, sk_cv4, sk_cv5, sk_cv6, sk_ci1, sk_ci2, sk_ci3, sk_ret0, sk_retI, sk_retL, sk_retR, sk_sw, sk_oin, sk_max, sk_min, sk_abs, lI_0, lI_s, lL_0, lL_s, lR_0, lR_s, vIo_e, vLo_e, vOo_e, stW_I, stW_L, stW_R, stW_0, stW_z, okSt_0, okSt_s, hV_eq, hK_eq, okF_0, okF_1, okF_3, is01_0, is01_1, is01_i, Int.toNat_natCast, Int.reduceEq, Int.reduceLE, Int.reduceLT, Int.reduceNeg, Nat.reduceLT, not_true_eq_false, not_false_eq_true, reduceIte, Option.toList, List.cons_append, List.nil_append, List.set_cons_zero, List.set_cons_succ, List.not_mem_nil, List.mem_cons, if_false, if_true, ite_true, ite_false, and_self, and_true, true_and, Nat.reduceAdd, Nat.reduceLeDiff, Nat.reduceEqDiff, Nat.zero_add, Nat.le_refl, Nat.zero_le, or_false, false_or, Int.reduceToNat, or_true, true_or, eq_self, and_false, false_and, inR_d, nc_4, nc_5, nc_6, nc_7, nc_8, nc_16, nc_18, nc_20, nc_24, nc_32, nc_40, nc_64, nc_104, nc_120, nc_160, nc_256, nc_300, nc_330, nc_390, nc_1200, nc_1260, nc_3012, nc_9834, okSt_1i, okSt_1r, okSt_1n, List.length_cons, List.length_nil, xpk_succ cd_64_0, xpk_succ cd_64_1, xpk_succ cd_64_4, xpk_succ cd_64_5, xpk_succ cd_64_6, xpk_succ cd_64_8, xpk_succ cd_64_11, xpk_succ cd_64_12, xpk_succ cd_64_14, xpk_succ cd_64_17, xpk_succ cd_64_18, xpk_succ cd_64_19, xpk_succ cd_64_22, hR_2, hR_3, hR_4, hR_5, hR_6, hR_7, hR_s2, hR_s3, hR_s4, hR_s5, hR_s6, hR_s7, (hR_T hb.1), (hR_sT hb.1), (R_0 (RDB_X hb)), (R_1 (RDB_X hb)), (R_T0 (RDB_X hb)), hK_R, hK_X, hb.2.1.1, hb.2.2.1.1, (GX_6 hb hx), z10, g10, (eq_true z16)]
      exact go
  · have g10 : 10 < (tkf cnt kn vn j).1 := by omega
    have g10n : ¬ (tkf cnt kn vn j).1 ≤ 10 := by omega
    have g16 : ¬ (tkf cnt kn vn j).1 = 16 := by omega
    have y : (none : Option AV) = none ∧ ∃ out, CLo (tkf cnt kn vn) cs j out ∧ CLr h T D cnt n kn vn pn cs j out (hR (hX h T bg en kd ag cs.length) T D ((j : Nat) : Int) 63 0 l 1 (plf cnt n pn j) L dd) := ⟨rfl, .inl (1, j), by unfold CLo; rw [if_pos z1], ⟨by decide, _, _, _, _, _, _, _, _, _, _, rfl⟩⟩
    have e : ∀ Q : Option AV → AH → Prop, XC (d + 74) 60 [vR 70, vI 1] (hR (hX h T bg en kd ag cs.length) T D ((j : Nat) : Int) ((tkf cnt kn vn j).1) 0 l 0 (-1) L dd) Q = Q none (hR (hX h T bg en kd ag cs.length) T D ((j : Nat) : Int) 63 0 l 1 (plf cnt n pn j) L dd) := fun Q => E_fail (d := d + 72) (RDB_X hb) (TOK_X hb.1 hk) Q
    refine xpk_sound (stops := []) (n := 40) ?_
    simp only [sk_0, sk_1, sk_2, sk_3, sk_4, sk_5, sk_6, sk_7, sk_8, sk_iadd, sk_isub, sk_imul, sk_iand, sk_ior, sk_ixor, sk_ishl, sk_ishr, sk_iushr, sk_idiv, sk_irem, sk_ineg, sk_ladd, sk_lsub, sk_lmul, sk_land, sk_lor, sk_ldiv, sk_lrem, sk_lneg, sk_lshl, sk_lshr, sk_i2l, sk_l2i, sk_lcmp, sk_dupI, sk_dupR, sk_dup2L, sk_dup2I, sk_popI, sk_ifeq, sk_ifne, sk_iflt, sk_ifge, sk_ifgt, sk_ifle, sk_iceq, sk_icne, sk_iclt, sk_icge, sk_icgt, sk_icle, sk_goto, sk_getf, sk_putf, sk_gets, sk_iald, sk_lald, sk_bald, sk_aald, sk_iast, sk_last, sk_bast, sk_aast, sk_alen, sk_newa, sk_newt, sk_new, sk_cs1, sk_cs2, sk_cs3, sk_cs4, sk_cs5, sk_cs6, sk_cv1, sk_cv2, sk_cv3, sk_cv4, sk_cv5, sk_cv6, sk_ci1, sk_ci2, sk_ci3, sk_ret0, sk_retI, sk_retL, sk_retR, sk_sw, sk_oin, sk_max, sk_min, sk_abs, lI_0, lI_s, lL_0, lL_s, lR_0, lR_s, vIo_e, vLo_e, vOo_e, stW_I, stW_L, stW_R, stW_0, stW_z, okSt_0, okSt_s, hV_eq, hK_eq, okF_0, okF_1, okF_3, is01_0, is01_1, is01_i, Int.toNat_natCast, Int.reduceEq, Int.reduceLE, Int.reduceLT, Int.reduceNeg, Nat.reduceLT, not_true_eq_false, not_false_eq_true, reduceIte, Option.toList, List.cons_append, List.nil_append, List.set_cons_zero, List.set_cons_succ, List.not_mem_nil, List.mem_cons, if_false, if_true, ite_true, ite_false, and_self, and_true, true_and, Nat.reduceAdd, Nat.reduceLeDiff, Nat.reduceEqDiff, Nat.zero_add, Nat.le_refl, Nat.zero_le, or_false, false_or, Int.reduceToNat, or_true, true_or, eq_self, and_false, false_and, inR_d, nc_4, nc_5, nc_6, nc_7, nc_8, nc_16, nc_18, nc_20, nc_24, nc_32, nc_40, nc_64, nc_104, nc_120, nc_160, nc_256, nc_300, nc_330, nc_390, nc_1200, nc_1260, nc_3012, nc_9834, okSt_1i, okSt_1r, okSt_1n, List.length_cons, List.length_nil, xpk_succ cd_64_0, xpk_succ cd_64_1, xpk_succ cd_64_4, xpk_succ cd_64_5, xpk_succ cd_64_6, xpk_succ cd_64_8, xpk_succ cd_64_11, xpk_succ cd_64_12, xpk_succ cd_64_14, xpk_succ cd_64_17, xpk_succ cd_64_18, xpk_succ cd_64_19, xpk_succ cd_64_22, xpk_succ cd_64_25, xpk_succ cd_64_26, xpk_succ cd_64_29, xpk_succ cd_64_30, xpk_succ cd_64_33, xpk_succ cd_64_36, xpk_succ cd_64_37, xpk_succ cd_64_38, xpk_succ cd_64_41, xpk_succ cd_64_44, xpk_succ cd_64_45, xpk_succ cd_64_48, xpk_succ cd_64_51, xpk_succ cd_64_53, xpk_succ cd_64_56, xpk_succ cd_64_57, xpk_succ cd_64_59, xpk_succ cd_64_62, xpk_succ cd_64_65, xpk_succ cd_64_66, xpk_succ cd_64_69, xpk_succ cd_64_70, xpk_succ cd_64_71, xpk_succ cd_64_74, xpk_succ cd_64_75, xpk_succ cd_64_76, xpk_succ cd_64_79, xpk_succ cd_64_80, xpk_succ cd_64_83, xpk_succ cd_64_86, xpk_succ cd_64_87, xpk_succ cd_64_88, xpk_succ cd_64_91, xpk_succ cd_64_92, xpk_succ cd_64_95, xpk_succ cd_64_96, xpk_succ cd_64_97, xpk_succ cd_64_100, xpk_succ cd_64_103, xpk_succ cd_64_104, xpk_succ cd_64_105, xpk_succ cd_64_108, xpk_succ cd_64_109, xpk_succ cd_64_111, xpk_succ cd_64_114, xpk_succ cd_64_115, xpk_succ cd_64_118, xpk_succ cd_64_119, xpk_succ cd_64_122, hR_2, hR_3, hR_4, hR_5, hR_6, hR_7, hR_s2, hR_s3, hR_s4, hR_s5, hR_s6, hR_s7, (hR_T hb.1), (hR_sT hb.1), (R_0 (RDB_X hb)), (R_1 (RDB_X hb)), (R_T0 (RDB_X hb)), hK_R, hK_X, hb.2.1.1, hb.2.2.1.1, (GX_6 hb hx), g10, g10n, g16, e]
    exact y.2
/-! a text over tokens -/
def RDo (tk : Nat → Int × Int) : Nat → List cCl → Nat → (Int × Nat) ⊕ (List cCl) → Prop
  | 0, cs, j, out => (tk j).1 = 62 ∧ out = .inr cs
  | m + 1, cs, j, out => (tk j).1 ≠ 62 ∧ ∃ o, CLo tk cs j o ∧ match o with
    | .inl r => out = .inl r
    | .inr (j', cl) => RDo tk m (cs ++ [cl]) j' out
