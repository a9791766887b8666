/-! less is known -/
noncomputable def leVs (l : List AW) : List AW → Bool := List.rec (fun l' => match l' with
  | [] => true
  | _ => false) (fun a _ ih l' => match l' with
  | [] => false
  | a' :: t => leW a a' && ih t) l
theorem leVs_s {l : List AW} : ∀ {l' : List AW}, leVs l l' = true → l.length = l'.length ∧ ∀ (i : Nat) (w' : AW), l'[i]? = some w' → ∃ w, l[i]? = some w ∧ leW w w' = true := by
  induction l with
  | nil =>
    intro l' h
    cases l' with
    | nil => exact ⟨rfl, fun i w' hw => by rw [List.getElem?_nil] at hw; cases hw⟩
    | cons a t => cases h
  | cons a l ih =>
    intro l' h
    cases l' with
    | nil => cases h
    | cons a' t =>
      have h : (leW a a' && leVs l t) = true := h
      rw [Bool.and_eq_true] at h
      obtain ⟨h1, h2⟩ := ih h.2
      refine ⟨by rw [List.length_cons, List.length_cons, h1], fun i w' hw => ?_⟩
      cases i with
      | zero => rw [List.getElem?_cons_zero] at hw; cases hw; exact ⟨a, rfl, h.1⟩
      | succ i => rw [List.getElem?_cons_succ] at hw ⊢; exact h2 i w' hw
noncomputable def leC (c c' : AC) : Bool := (Nat.beq c.1 c'.1 && Nat.beq c.2.1 c'.2.1) && (leVs c.2.2.1 c'.2.2.1 && decide (c.2.2.2 = c'.2.2.2))
theorem leC_s {h : AH} {k : Nat} {c c' : AC} (hl : leC c c' = true) (hc : ab_C h k c) : ab_C h k c' := by
  unfold leC at hl
  rw [Bool.and_eq_true, Bool.and_eq_true, Bool.and_eq_true, beq_d, beq_d, decide_eq_true_eq, decide_eq_true_eq, decide_eq_true_eq] at hl
  obtain ⟨⟨h1, h2⟩, h3, h4⟩ := hl
  obtain ⟨hlen, hv⟩ := leVs_s h3
  refine ⟨by rw [hc.1, h1, h2], fun i w' hw => ?_, fun w hw i g1 g2 => ?_⟩
  · obtain ⟨w, ew, hle⟩ := hv i w' hw
    exact leW_s hle (hc.2.1 i w ew)
  · exact hc.2.2 w (by rw [h4]; exact hw) i (by rw [hlen]; exact g1) (by rw [h2]; exact g2)
noncomputable def leO (l : List (Option AC)) : List (Option AC) → Bool := List.rec (fun l' => match l' with
  | [] => true
  | _ => false) (fun a _ ih l' => match a, l' with
  | some c, some c' :: t => leC c c' && ih t
  | _, _ => false) l
theorem leO_s {l : List (Option AC)} : ∀ {l' : List (Option AC)}, leO l l' = true → ∀ (i : Nat) (c' : AC), l'.getD i none = some c' → ∃ c, l.getD i none = some c ∧ leC c c' = true := by
  induction l with
  | nil =>
    intro l' h
    cases l' with
    | nil => intro i c' hc; rw [nil_D] at hc; cases hc
    | cons a t => cases h
  | cons a l ih =>
    intro l' h i c' hc
    match a, l', h with
    | some c, some c0 :: t, h =>
      have h : (leC c c0 && leO l t) = true := h
      rw [Bool.and_eq_true] at h
      cases i with
      | zero => have hc : some c0 = some c' := hc; cases hc; exact ⟨c, rfl, h.1⟩
      | succ i => exact ih h.2 i c' hc
def bWM : List (Option AC) := [some (10, 0, [xR 77, xR 78, xR 79, xR 80, xI 0, xI (-1), xI (-1), xI 0, xI 0, xI 0, xI 0, xL 0, xI 0, xI 0, xI 0, xR 81, xI 0, xI 0, xI 0, xI 0, xR 82, xT, xT, xR 83, xR 84, xI 0, xR 85, xI 0, xI 0, xR 86, xR 87, xR 88, xR 89, xR 90, xI 0, xR 91, xR 92], none),
  some (11, 9834, [xI 0, xI 2, xI 59, xI 0, xI (-1), xI 0, xI 0, xI 0, xI 0, xI 0, xI 0, xI 0, xI 5, xI 0, xI 0, xI 0, xI 0, xI (-1), xI 0], some xT),
  some (11, 9834, [xI 0, xI 2, xI 59, xI 0, xI (-1), xI 0, xI 0, xI 0, xI 0, xI 0, xI 0, xI 0, xI 5, xI 0, xI 0, xI 0, xI 0, xI (-1), xI 0], some xT),
  some (11, 3012, [], some xT),
  some (11, 300, [], some xT),
  some (11, 160, [], some xT),
  some (11, 8, [xT, xT, xT, xT, xT, xT, xT, xT], some xT),
  some (12, 330, [], none),
  some (13, 330, [], none),
  some (11, 18, [xT, xT, xT, xT, xT, xT, xT, xT, xT, xT, xT, xT, xT, xT, xT, xT, xT, xT], some xT),
  some (11, 1200, [], some xT),
  some (11, 8, [], some xT),
  some (11, 8, [], some xT),
  some (11, 8, [], some xT),
  some (11, 8, [], some xT),
  some (11, 8, [], some xT),
  some (11, 8, [], some xT)]
def bWs : List (List (Option AC)) := [[], [], [], [], bWM]
theorem bWs_s {b : BH} {h : AH} (hl : leO (b.1.getD 4 []) bWM = true) (hz : eqZ b.2 (bx bxT) = true) (hb : ab_H b h) : ab_H (bWs, bx bxT) h := by
  refine ⟨hb.1, hb.2.1, fun k c hc => ?_⟩
  unfold gC at hc
  split at hc
  · rename_i hk
    have hc : (bWs.getD (k / 19) []).getD (k % 19) none = some c := hc
    by_cases y : k / 19 = 4
    · rw [y] at hc
      have hc : bWM.getD (k % 19) none = some c := hc
      obtain ⟨c0, e0, hle⟩ := leO_s hl _ _ hc
      refine leC_s hle (hb.2.2 k c0 ?_)
      unfold gC
      rw [if_pos hk, y]
      exact e0
    · exfalso
      have e : ∀ (E : List (Option AC)) (q : Nat), q ≠ 4 → ([[], [], [], [], E] : List (List (Option AC))).getD q [] = [] := fun E q hq => by
        match q, hq with
        | 0, _ => rfl
        | 1, _ => rfl
        | 2, _ => rfl
        | 3, _ => rfl
        | 4, hq => exact absurd rfl hq
        | n + 5, _ => rfl
      unfold bWs at hc
      rw [e bWM _ y, nil_D] at hc
      cases hc
  · rename_i hk
    refine hb.2.2 k c ?_
    unfold gC
    rw [if_neg hk, eqZ_s hz]
    exact hc
def wLs (w : Nat) : List (Option AW) := match w with
  | 0 => [some (xR 76), some (xI (-1)), some (xI 100000000), some (xI 0), none]
  | w + 1 => [some (xR 76), some (xI 0), some (xI 1), some (xI ((w + 1 : Nat) : Int)), some (xI ((w + 1 : Nat) : Int))]
noncomputable def wKS (w : Nat) (ls : List (Option AW)) (st : List AW) (b : BH) : Bool := (decide (ls = wLs w) && decide (st = [])) && (leO (b.1.getD 4 []) bWM && eqZ b.2 (bx bxT))
noncomputable def wCk (w : Nat) : Bool := achF nt2 1000000 8 (fun ls st b => !Nat.beq w 61 && wKS (w + 1) ls st b) 999 294 8 (wLs w) [] (bWs, bx bxT) (fun r b => (Nat.beq w 61 && decide (r = some (xI 0))) && kdI b 1000100 20 6)
theorem wBg : achF nt2 1000000 8 (wKS 0) 999 294 0 [some (xR 76), none, none, none, none] [] (bc1, bx bxT) (fun _ _ => false) = true := by decide +kernel
theorem wCk_0 : (List.range' 0 14).all wCk = true := by decide +kernel
theorem wCk_14 : (List.range' 14 11).all wCk = true := by decide +kernel
theorem wCk_25 : (List.range' 25 8).all wCk = true := by decide +kernel
theorem wCk_33 : (List.range' 33 7).all wCk = true := by decide +kernel
theorem wCk_40 : (List.range' 40 6).all wCk = true := by decide +kernel
theorem wCk_46 : (List.range' 46 5).all wCk = true := by decide +kernel
theorem wCk_51 : (List.range' 51 5).all wCk = true := by decide +kernel
theorem wCk_56 : (List.range' 56 6).all wCk = true := by decide +kernel
theorem wCk_all (w : Nat) (h : w < 62) : wCk w = true := by
  by_cases w0 : w < 14
  · exact List.all_eq_true.mp wCk_0 w (List.mem_range'_1.mpr ⟨by omega, by omega⟩)
  by_cases w14 : w < 25
  · exact List.all_eq_true.mp wCk_14 w (List.mem_range'_1.mpr ⟨by omega, by omega⟩)
  by_cases w25 : w < 33
  · exact List.all_eq_true.mp wCk_25 w (List.mem_range'_1.mpr ⟨by omega, by omega⟩)
  by_cases w33 : w < 40
  · exact List.all_eq_true.mp wCk_33 w (List.mem_range'_1.mpr ⟨by omega, by omega⟩)
  by_cases w40 : w < 46
  · exact List.all_eq_true.mp wCk_40 w (List.mem_range'_1.mpr ⟨by omega, by omega⟩)
  by_cases w46 : w < 51
  · exact List.all_eq_true.mp wCk_46 w (List.mem_range'_1.mpr ⟨by omega, by omega⟩)
  by_cases w51 : w < 56
  · exact List.all_eq_true.mp wCk_51 w (List.mem_range'_1.mpr ⟨by omega, by omega⟩)
  by_cases w56 : w < 62
  · exact List.all_eq_true.mp wCk_56 w (List.mem_range'_1.mpr ⟨by omega, by omega⟩)
  exact absurd h (by omega)
theorem wg_loop (Q : Option AV → AH → Prop) (hQ : ∀ h', hN h' = 93 → hS h' = 32805 → hK h' 1000100 = (20, 6) → Q (some (vI 0)) h') : ∀ (j w : Nat) (ls : List (Option AV)) (h : AH), w + j = 61 → ab_L (wLs w) ls → ab_H (bWs, bx bxT) h → XP 999 294 8 ls [] h Q := by
  intro j
  induction j with
  | zero =>
    intro w ls h hw hl hb
    have hck := wCk_all w (by omega)
    unfold wCk at hck
    rw [achF_eq] at hck
    refine achk_s nt2_s _ _ _ _ _ _ _ _ _ _ hck ls [] h Q hl rfl hb (fun als ast b ls st h hk hl hs hb => ?_) (fun r b v h hr ho hb => ?_)
    · rw [Bool.and_eq_true, beq_d, decide_eq_true (show w = 61 by omega)] at hk
      cases hk.1
    · rw [Bool.and_eq_true, Bool.and_eq_true, decide_eq_true_eq] at hr
      obtain ⟨⟨-, rfl⟩, hkd⟩ := hr
      obtain ⟨u, rfl, hu⟩ := ho
      have hu : u = vI 0 := hu
      rw [hu]
      exact hQ h hb.1 hb.2.1 (kdI_s hb hkd)
  | succ j ih =>
    intro w ls h hw hl hb
    have hck := wCk_all w (by omega)
    unfold wCk at hck
    rw [achF_eq] at hck
    refine achk_s nt2_s _ _ _ _ _ _ _ _ _ _ hck ls [] h Q hl rfl hb (fun als ast b ls st h hk hl hs hb => ?_) (fun r b v h hr ho hb => ?_)
    · rw [Bool.and_eq_true] at hk
      have hk := hk.2
      unfold wKS at hk
      rw [Bool.and_eq_true, Bool.and_eq_true, Bool.and_eq_true, decide_eq_true_eq, decide_eq_true_eq] at hk
      obtain ⟨⟨rfl, rfl⟩, h3, h4⟩ := hk
      have hs : st = [] := hs
      subst hs
      exact ih (w + 1) ls h (by omega) hl (bWs_s h3 h4 hb)
    · rw [Bool.and_eq_true, Bool.and_eq_true, beq_d, decide_eq_false (show ¬ w = 61 by omega)] at hr
      cases hr.1.1
theorem X_wgM {h : AH} (hb : ab_H (bc1, bx bxT) h) : ∃ h', (hN h' = 93 ∧ hS h' = 32805 ∧ hK h' 1000100 = (20, 6)) ∧ ∀ Q : Option AV → AH → Prop, XC 1000 294 [vR 76] h Q = Q (some (vI 0)) h' := by
  refine XC_ex (d := 999) (XC_of (Nat.le_of_ble_eq_true rfl) ?_)
  show XP 999 294 0 [some (vR 76), none, none, none, none] [] h _
  have hck := wBg
  rw [achF_eq] at hck
  refine achk_s nt2_s _ _ _ _ _ _ _ _ _ _ hck _ [] h _ ⟨_, _, rfl, ⟨_, rfl, rfl⟩, _, _, rfl, rfl, _, _, rfl, rfl, _, _, rfl, rfl, _, _, rfl, rfl, rfl⟩ rfl hb (fun als ast b ls st h hk hl hs hb => ?_) (fun _ _ _ _ z => by cases z)
  unfold wKS at hk
  rw [Bool.and_eq_true, Bool.and_eq_true, Bool.and_eq_true, decide_eq_true_eq, decide_eq_true_eq] at hk
  obtain ⟨⟨rfl, rfl⟩, h3, h4⟩ := hk
  have hs : st = [] := hs
  subst hs
  exact wg_loop _ (fun h' a b c => ⟨rfl, a, b, c⟩) 61 0 ls h rfl hl (bWs_s h3 h4 hb)
set_option maxHeartbeats 4000000 in
theorem law_29 {h h2 : AH} {r : Int} (k76 : hK h 76 = (10, 0)) (e2 : ∀ Q, XC 1000 294 [vR 76] h Q = Q (some (vI r)) h2) (hend : XP 1000 321 1541 lsc [] h2 lwQ) : XP 1000 321 1082 lsc [vI r] h lwQ := by
  refine xpk_sound (stops := [1541]) (n := 30) ?_
  show xpk [1541] 30 1000 321 1082 [some (vR 1000100), some (vR 0), some (vR 76), some (vI 0)] [vI r] h _
  simp only [sk_0, sk_1, sk_2, sk_3, sk_4, sk_5, sk_6, sk_7, sk_8, sk_iadd, sk_isub, sk_imul, sk_iand, sk_ior, sk_ixor, sk_ishl, sk_ishr, sk_iushr, sk_idiv, sk_irem, sk_ineg, sk_ladd, sk_lsub, sk_lmul, sk_land, sk_lor, sk_ldiv, sk_lrem, sk_lneg, sk_lshl, sk_lshr, sk_i2l, sk_l2i, sk_lcmp, sk_dupI, sk_dupR, sk_dup2L, sk_dup2I, sk_popI, sk_ifeq, sk_ifne, sk_iflt, sk_ifge, sk_ifgt, sk_ifle, sk_iceq, sk_icne, sk_iclt, sk_icge, sk_icgt, sk_icle, sk_goto, sk_getf, sk_putf, sk_gets, sk_iald, sk_lald, sk_bald, sk_aald, sk_iast, sk_last, sk_bast, sk_aast, sk_alen, sk_newa, sk_newt, sk_new, sk_cs1, sk_cs2, sk_cs3, sk_cs4, sk_cs5, sk_cs6, sk_cv1, sk_cv2, sk_cv3, sk_cv4, sk_cv5, sk_cv6, sk_ci1, sk_ci2, sk_ci3, sk_ret0, sk_retI, sk_retL, sk_retR, sk_sw, sk_oin, sk_max, sk_min, sk_abs, lI_0, lI_s, lL_0, lL_s, lR_0, lR_s, vIo_e, vLo_e, vOo_e, stW_I, stW_L, stW_R, stW_0, stW_z, okSt_0, okSt_s, hV_eq, hK_eq, okF_0, okF_1, okF_3, is01_0, is01_1, is01_i, Int.toNat_natCast, Int.reduceEq, Int.reduceLE, Int.reduceLT, Int.reduceNeg, Nat.reduceLT, not_true_eq_false, not_false_eq_true, reduceIte, Option.toList, List.cons_append, List.nil_append, List.set_cons_zero, List.set_cons_succ, List.not_mem_nil, List.mem_cons, if_false, if_true, ite_true, ite_false, and_self, and_true, true_and, Nat.reduceAdd, Nat.reduceLeDiff, Nat.reduceEqDiff, Nat.zero_add, Nat.le_refl, Nat.zero_le, or_false, false_or, Int.reduceToNat, or_true, true_or, eq_self, and_false, false_and, inR_d, nc_4, nc_5, nc_6, nc_7, nc_8, nc_16, nc_18, nc_20, nc_24, nc_32, nc_40, nc_64, nc_104, nc_120, nc_160, nc_256, nc_300, nc_330, nc_390, nc_1200, nc_1260, nc_3012, nc_9834, okSt_1i, okSt_1r, okSt_1n, xpk_succ cd_321_1082, xpk_succ cd_321_1083, xpk_succ cd_321_1086, xpk_succ cd_321_1089, xpk_succ cd_321_1090, k76, e2]
  exact hend
