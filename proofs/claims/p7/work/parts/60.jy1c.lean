set_option maxRecDepth 20000 in
theorem ac_241 : allC[241]? = some cl241 := rfl
theorem cd_241_0 : cd 241 0 = some (0, 1, 0, 0, 0, []) := cd_row ac_241 rfl
theorem cd_241_1 : cd 241 1 = some (5, 2, 3, 0, 0, []) := cd_row ac_241 rfl
theorem cd_241_2 : cd 241 2 = some (2, 3, 1, 0, 0, []) := cd_row ac_241 rfl
theorem cd_241_3 : cd 241 3 = some (20, 6, 49, 2, 0, []) := cd_row ac_241 rfl
theorem cd_241_6 : cd 241 6 = some (2, 7, 3, 0, 0, []) := cd_row ac_241 rfl
theorem cd_241_7 : cd 241 7 = some (4, 8, 0, 0, 0, []) := cd_row ac_241 rfl
theorem cd_241_8 : cd 241 8 = some (23, 11, 10, 2, 0, []) := cd_row ac_241 rfl
theorem cd_241_11 : cd 241 11 = some (0, 14, 0, 0, 753, []) := cd_row ac_241 rfl
theorem cd_241_14 : cd 241 14 = some (2, 15, 1, 0, 0, []) := cd_row ac_241 rfl
theorem cd_241_15 : cd 241 15 = some (9, 16, 0, 2, 0, []) := cd_row ac_241 rfl
theorem cd_241_16 : cd 241 16 = some (26, 17, 0, 0, 0, []) := cd_row ac_241 rfl
theorem cd_241_17 : cd 241 17 = some (21, 20, 49, 3, 0, []) := cd_row ac_241 rfl
theorem cd_241_20 : cd 241 20 = some (4, 21, 0, 0, 0, []) := cd_row ac_241 rfl
theorem cd_241_21 : cd 241 21 = some (23, 24, 10, 2, 0, []) := cd_row ac_241 rfl
theorem cd_241_24 : cd 241 24 = some (0, 27, 0, 0, 753, []) := cd_row ac_241 rfl
theorem cd_241_27 : cd 241 27 = some (2, 28, 1, 0, 0, []) := cd_row ac_241 rfl
theorem cd_241_28 : cd 241 28 = some (9, 29, 0, 2, 0, []) := cd_row ac_241 rfl
theorem cd_241_29 : cd 241 29 = some (0, 30, 0, 0, 1, []) := cd_row ac_241 rfl
theorem cd_241_30 : cd 241 30 = some (9, 31, 0, 0, 0, []) := cd_row ac_241 rfl
theorem cd_241_31 : cd 241 31 = some (0, 33, 0, 0, 6, []) := cd_row ac_241 rfl
theorem cd_241_33 : cd 241 33 = some (2, 34, 3, 0, 0, []) := cd_row ac_241 rfl
theorem cd_241_34 : cd 241 34 = some (9, 35, 0, 2, 0, []) := cd_row ac_241 rfl
theorem cd_241_35 : cd 241 35 = some (9, 36, 0, 0, 0, []) := cd_row ac_241 rfl
theorem cd_241_36 : cd 241 36 = some (26, 37, 0, 0, 0, []) := cd_row ac_241 rfl
theorem cd_241_37 : cd 241 37 = some (2, 38, 2, 0, 0, []) := cd_row ac_241 rfl
theorem cd_241_38 : cd 241 38 = some (21, 41, 43, 1, 0, []) := cd_row ac_241 rfl
theorem cd_241_41 : cd 241 41 = some (2, 42, 3, 0, 0, []) := cd_row ac_241 rfl
theorem cd_241_42 : cd 241 42 = some (40, 43, 0, 0, 0, []) := cd_row ac_241 rfl
theorem cd_241_43 : cd 241 43 = some (8, 46, 3, 0, 1, []) := cd_row ac_241 rfl
theorem cd_241_46 : cd 241 46 = some (22, 49, 2, 0, 0, []) := cd_row ac_241 rfl
theorem cd_241_49 : cd 241 49 = some (0, 50, 0, 0, -1, []) := cd_row ac_241 rfl
theorem cd_241_50 : cd 241 50 = some (40, 51, 0, 0, 0, []) := cd_row ac_241 rfl
set_option maxRecDepth 20000 in
theorem ac_242 : allC[242]? = some cl242 := rfl
theorem cd_242_0 : cd 242 0 = some (4, 1, 0, 0, 0, []) := cd_row ac_242 rfl
theorem cd_242_1 : cd 242 1 = some (4, 2, 0, 0, 0, []) := cd_row ac_242 rfl
theorem cd_242_2 : cd 242 2 = some (23, 5, 10, 0, 0, []) := cd_row ac_242 rfl
theorem cd_242_5 : cd 242 5 = some (0, 6, 0, 0, 4, []) := cd_row ac_242 rfl
theorem cd_242_6 : cd 242 6 = some (26, 7, 0, 0, 0, []) := cd_row ac_242 rfl
theorem cd_242_7 : cd 242 7 = some (2, 8, 1, 0, 0, []) := cd_row ac_242 rfl
theorem cd_242_8 : cd 242 8 = some (46, 11, 241, 3, 10, []) := cd_row ac_242 rfl
theorem cd_242_11 : cd 242 11 = some (5, 13, 5, 0, 0, []) := cd_row ac_242 rfl
theorem cd_242_13 : cd 242 13 = some (2, 15, 5, 0, 0, []) := cd_row ac_242 rfl
theorem cd_242_15 : cd 242 15 = some (20, 18, 22, 3, 0, []) := cd_row ac_242 rfl
theorem cd_242_18 : cd 242 18 = some (2, 19, 2, 0, 0, []) := cd_row ac_242 rfl
theorem cd_242_19 : cd 242 19 = some (22, 22, 40, 0, 0, []) := cd_row ac_242 rfl
theorem cd_242_22 : cd 242 22 = some (4, 23, 0, 0, 0, []) := cd_row ac_242 rfl
theorem cd_242_23 : cd 242 23 = some (4, 24, 0, 0, 0, []) := cd_row ac_242 rfl
theorem cd_242_24 : cd 242 24 = some (23, 27, 10, 0, 0, []) := cd_row ac_242 rfl
theorem cd_242_27 : cd 242 27 = some (0, 28, 0, 0, 4, []) := cd_row ac_242 rfl
theorem cd_242_28 : cd 242 28 = some (26, 29, 0, 0, 0, []) := cd_row ac_242 rfl
theorem cd_242_29 : cd 242 29 = some (2, 31, 5, 0, 0, []) := cd_row ac_242 rfl
theorem cd_242_31 : cd 242 31 = some (46, 34, 240, 3, 10, []) := cd_row ac_242 rfl
theorem cd_242_34 : cd 242 34 = some (2, 35, 3, 0, 0, []) := cd_row ac_242 rfl
theorem cd_242_35 : cd 242 35 = some (2, 37, 4, 0, 0, []) := cd_row ac_242 rfl
theorem cd_242_37 : cd 242 37 = some (38, 40, 183, 3, 0, []) := cd_row ac_242 rfl
theorem cd_242_40 : cd 242 40 = some (40, 41, 0, 0, 0, []) := cd_row ac_242 rfl
set_option maxRecDepth 20000 in
theorem ac_245 : allC[245]? = some cl245 := rfl
theorem cd_245_0 : cd 245 0 = some (4, 1, 0, 0, 0, []) := cd_row ac_245 rfl
theorem cd_245_1 : cd 245 1 = some (2, 2, 1, 0, 0, []) := cd_row ac_245 rfl
theorem cd_245_2 : cd 245 2 = some (0, 3, 0, 0, 2, []) := cd_row ac_245 rfl
theorem cd_245_3 : cd 245 3 = some (46, 6, 241, 3, 10, []) := cd_row ac_245 rfl
theorem cd_245_6 : cd 245 6 = some (5, 7, 2, 0, 0, []) := cd_row ac_245 rfl
theorem cd_245_7 : cd 245 7 = some (2, 8, 2, 0, 0, []) := cd_row ac_245 rfl
theorem cd_245_8 : cd 245 8 = some (20, 11, 20, 3, 0, []) := cd_row ac_245 rfl
theorem cd_245_11 : cd 245 11 = some (4, 12, 0, 0, 0, []) := cd_row ac_245 rfl
theorem cd_245_12 : cd 245 12 = some (23, 15, 10, 20, 0, []) := cd_row ac_245 rfl
theorem cd_245_15 : cd 245 15 = some (0, 16, 0, 0, 4, []) := cd_row ac_245 rfl
theorem cd_245_16 : cd 245 16 = some (26, 17, 0, 0, 0, []) := cd_row ac_245 rfl
theorem cd_245_17 : cd 245 17 = some (22, 20, 26, 0, 0, []) := cd_row ac_245 rfl
theorem cd_245_20 : cd 245 20 = some (4, 21, 0, 0, 0, []) := cd_row ac_245 rfl
theorem cd_245_21 : cd 245 21 = some (2, 22, 1, 0, 0, []) := cd_row ac_245 rfl
theorem cd_245_22 : cd 245 22 = some (2, 23, 2, 0, 0, []) := cd_row ac_245 rfl
theorem cd_245_23 : cd 245 23 = some (46, 26, 240, 3, 10, []) := cd_row ac_245 rfl
theorem cd_245_26 : cd 245 26 = some (5, 27, 3, 0, 0, []) := cd_row ac_245 rfl
theorem cd_245_27 : cd 245 27 = some (2, 28, 3, 0, 0, []) := cd_row ac_245 rfl
theorem cd_245_28 : cd 245 28 = some (20, 31, 35, 5, 0, []) := cd_row ac_245 rfl
theorem cd_245_31 : cd 245 31 = some (0, 32, 0, 0, 1, []) := cd_row ac_245 rfl
theorem cd_245_32 : cd 245 32 = some (22, 35, 44, 0, 0, []) := cd_row ac_245 rfl
theorem cd_245_35 : cd 245 35 = some (2, 36, 3, 0, 0, []) := cd_row ac_245 rfl
theorem cd_245_36 : cd 245 36 = some (20, 39, 43, 3, 0, []) := cd_row ac_245 rfl
theorem cd_245_39 : cd 245 39 = some (0, 40, 0, 0, -1, []) := cd_row ac_245 rfl
theorem cd_245_40 : cd 245 40 = some (22, 43, 44, 0, 0, []) := cd_row ac_245 rfl
theorem cd_245_43 : cd 245 43 = some (0, 44, 0, 0, 0, []) := cd_row ac_245 rfl
theorem cd_245_44 : cd 245 44 = some (40, 45, 0, 0, 0, []) := cd_row ac_245 rfl
theorem dst_le {o : Int} {q r : Nat × Nat} (h : dst o q = some r) : r.1 ≤ q.1 + 1 ∧ r.2 ≤ q.2 + 1 := by
  unfold dst at h
  repeat' split at h
  all_goals first | (cases h; done) | (injection h with h; subst h; (try dsimp only); omega)
theorem dpt_le {g : Nat → AV} {p a : Nat} : ∀ (m n t : Nat), dpt g p a m = some (n, t) → n ≤ m ∧ t ≤ m := by
  intro m
  induction m with
  | zero => intro n t h; injection h with h; injection h with h1 h2; omega
  | succ m ih =>
    intro n t h
    have h : (dpt g p a m).bind (dst (ofI (g (p + 2 * (a + m))))) = some (n, t) := h
    cases hq : dpt g p a m with
    | none => rw [hq] at h; cases h
    | some q =>
      rw [hq] at h
      have h1 := dst_le (show dst (ofI (g (p + 2 * (a + m)))) q = some (n, t) from h)
      have h2 := ih q.1 q.2 hq
      have h3 : n ≤ q.1 + 1 := h1.1
      have h4 : t ≤ q.2 + 1 := h1.2
      omega
theorem dpt_pre {g : Nat → AV} {p a : Nat} : ∀ (j m : Nat) (q : Nat × Nat), dpt g p a (m + j) = some q → ∃ q', dpt g p a m = some q' := by
  intro j
  induction j with
  | zero => intro m q h; exact ⟨q, h⟩
  | succ j ih =>
    intro m q h
    have h : (dpt g p a (m + j)).bind (dst (ofI (g (p + 2 * (a + (m + j)))))) = some q := h
    cases hq : dpt g p a (m + j) with
    | none => rw [hq] at h; cases h
    | some q' => exact ih m q' hq
def WKd (β : Nat) (h0 : AH) (r : Option AV) (h' : AH) : Prop := STo β mdW h0 h' ∧ ∃ z : Int, r = some (vI z) ∧ -2147483648 ≤ z ∧ z ≤ 2147483647
set_option maxHeartbeats 4000000 in
theorem wk_e {β d : Nat} {h0 h : AH} {T k b : Nat} {l8 l9 : Option AV} {n t : Int} (hs : STo β mdW h0 h) (hT : T < 4) (hk : k < 24) (v1 : hV h 79 (753 * T + 1 + 6 * k + 2) = vI (b : Int)) : XP (d + 3) 240 40 [some (vR 76), some (vI (T : Int)), some (vI (k : Int)), some (vI ((753 * T + 1 + 6 * k : Nat) : Int)), some (vI ((753 * T + 145 : Nat) : Int)), some (vI (n)), some (vI (t)), some (vI (b : Int)), l8, l9] [] h (WKd β h0) := by
  obtain ⟨⟨o1, o2, o3, o4, o5⟩, k1, k2, k3, k4, k5, k6⟩ := wkF hs.1
  have z : ((b : Nat) : Int) ≤ (b : Int) := Int.le_refl _
  have a1 : w32 (((753 * T + 1 + 6 * k : Nat) : Int) + 2) = ((753 * T + 1 + 6 * k + 2 : Nat) : Int) := by unfold w32; omega
  have b1 : (0 : Int) ≤ ((753 * T + 1 + 6 * k + 2 : Nat) : Int) ∧ ((753 * T + 1 + 6 * k + 2 : Nat) : Int) < 3012 := by omega
  obtain ⟨u, hu, u1, u2⟩ := v83 hs.1 (i := 0) (by decide)
  have y : WKd β h0 (some (vI (w32 u))) h := ⟨hs, _, rfl, (w32_j u).1, (w32_j u).2⟩
  refine xpk_sound (stops := []) (n := 40) ?_
  simp only [sk_0, sk_1, sk_2, sk_3, sk_4, sk_5, sk_6, sk_7, sk_8, sk_iadd, sk_isub, sk_imul, sk_iand, sk_ior, sk_ixor, sk_ishl, sk_ishr, sk_iushr, sk_idiv, sk_irem, sk_ineg, sk_ladd, sk_lsub, sk_lmul, sk_land, sk_lor, sk_ldiv, sk_lrem, sk_lneg, sk_lshl, sk_lshr, sk_i2l, sk_l2i, sk_lcmp, sk_dupI, sk_dupR, sk_dup2L, sk_dup2I, sk_popI, sk_ifeq, sk_ifne, sk_iflt, sk_ifge, sk_ifgt, sk_ifle, sk_iceq, sk_icne, sk_iclt, sk_icge, sk_icgt, sk_icle, sk_goto, sk_getf, sk_putf, sk_gets, sk_iald, sk_lald, sk_bald, sk_aald, sk_iast, sk_last, sk_bast, sk_aast, sk_alen, sk_newa, sk_newt, sk_new, sk_cs1, sk_cs2, sk_cs3, sk_cs4, sk_cs5, sk_cs6, sk_cv1, sk_cv2, sk_cv3, sk_cv4, sk_cv5, sk_cv6, sk_ci1, sk_ci2, sk_ci3, sk_ret0, sk_retI, sk_retL, sk_retR, sk_sw, sk_oin, sk_max, sk_min, sk_abs, lI_0, lI_s, lL_0, lL_s, lR_0, lR_s, vIo_e, vLo_e, vOo_e, stW_I, stW_L, stW_R, stW_0, stW_z, okSt_0, okSt_s, hV_eq, hK_eq, okF_0, okF_1, okF_3, is01_0, is01_1, is01_i, Int.toNat_natCast, Int.reduceEq, Int.reduceLE, Int.reduceLT, Int.reduceNeg, Nat.reduceLT, not_true_eq_false, not_false_eq_true, reduceIte, Option.toList, List.cons_append, List.nil_append, List.set_cons_zero, List.set_cons_succ, List.not_mem_nil, List.mem_cons, if_false, if_true, ite_true, ite_false, and_self, and_true, true_and, Nat.reduceAdd, Nat.reduceLeDiff, Nat.reduceEqDiff, Nat.zero_add, Nat.le_refl, Nat.zero_le, or_false, false_or, Int.reduceToNat, or_true, true_or, eq_self, and_false, false_and, inR_d, nc_4, nc_5, nc_6, nc_7, nc_8, nc_16, nc_18, nc_20, nc_24, nc_32, nc_40, nc_64, nc_104, nc_120, nc_160, nc_256, nc_300, nc_330, nc_390, nc_1200, nc_1260, nc_3012, nc_9834, okSt_1i, okSt_1r, okSt_1n, List.length_cons, List.length_nil, xpk_succ cd_240_40, xpk_succ cd_240_42, xpk_succ cd_240_43, xpk_succ cd_240_46, xpk_succ cd_240_47, xpk_succ cd_240_48, xpk_succ cd_240_49, xpk_succ cd_240_50, xpk_succ cd_240_473, xpk_succ cd_240_474, xpk_succ cd_240_477, xpk_succ cd_240_478, xpk_succ cd_240_479, xpk_succ cd_240_480, o2, o4, k1, k3, k5, z, a1, b1, v1, hu]
  exact y
set_option maxHeartbeats 4000000 in
theorem wk_l {β d : Nat} {h0 : AH} {T k a b : Nat} {g : Nat → AV} (hT : T < 4) (hk : k < 24) (hg : ∀ j, j < 3012 → g j = hV h0 79 j) (hb : g (753 * T + 1 + 6 * k + 2) = vI (b : Int)) (hC : CDK g (753 * T + 145) a b) : ∀ (e i : Nat) (h : AH) (n t : Nat) (l8 l9 : Option AV), STo β mdW h0 h → a ≤ i → i + e = b → dpt g (753 * T + 145) a (i - a) = some (n, t) → XP (d + 3) 240 40 [some (vR 76), some (vI (T : Int)), some (vI (k : Int)), some (vI ((753 * T + 1 + 6 * k : Nat) : Int)), some (vI ((753 * T + 145 : Nat) : Int)), some (vI (n : Int)), some (vI (t : Int)), some (vI (i : Int)), l8, l9] [] h (WKd β h0) := by
  obtain ⟨c1, c2, c3, c4⟩ := hC
  have v79 : ∀ (h : AH) (j : Nat), STo β mdW h0 h → j < 3012 → hV h 79 j = g j := fun h j hs hj => by rw [hg j hj]; exact ST_n hs (by decide)
  have vb : ∀ h, STo β mdW h0 h → hV h 79 (753 * T + 1 + 6 * k + 2) = vI (b : Int) := fun h hs => by rw [v79 h _ hs (by omega), hb]
  intro e
  induction e with
  | zero =>
    intro i h n t l8 l9 hs hi he hd
    obtain rfl : i = b := by omega
    exact wk_e hs hT hk (vb h hs)
  | succ e ih =>
    intro i h n t l8 l9 hs hi he hd
    have hib : i < b := by omega
    have hP : 753 * T + 145 + 2 * i + 1 < 3012 := by omega
    obtain ⟨w1, w2, w3⟩ := tF_v hs.1 (i := 753 * T + 145 + 2 * i) (by omega)
    obtain ⟨x1, x2, x3⟩ := tF_v hs.1 (i := 753 * T + 145 + 2 * i + 1) hP
    have e1 : ofI (g (753 * T + 145 + 2 * i)) = tF h (753 * T + 145 + 2 * i) := by rw [← v79 h _ hs (by omega), w1]; rfl
    have e2 : ofI (g (753 * T + 145 + 2 * i + 1)) = tF h (753 * T + 145 + 2 * i + 1) := by rw [← v79 h _ hs hP, x1]; rfl
    have ha := c4 i hi hib
    rw [e1, e2] at ha
    obtain ⟨⟨n', t'⟩, hq⟩ := dpt_pre (g := g) (p := 753 * T + 145) (a := a) (b - (i + 1)) (i + 1 - a) (1, 0) (by rw [show i + 1 - a + (b - (i + 1)) = b - a by omega]; exact c3)
    have hq2 := hq
    rw [show i + 1 - a = (i - a) + 1 by omega] at hq2
    have hq2 : (dpt g (753 * T + 145) a (i - a)).bind (dst (ofI (g (753 * T + 145 + 2 * (a + (i - a)))))) = some (n', t') := hq2
    rw [hd, show a + (i - a) = i by omega, e1] at hq2
    have hq2 : dst (tF h (753 * T + 145 + 2 * i)) (n, t) = some (n', t') := hq2
    have hl := dpt_le _ _ _ hd
    exact wk_s hs (by omega) hP hib c2 (vb h hs) w1 x1 (by omega) (by omega) ha ⟨w2, w3⟩ ⟨x2, x3⟩ hq2 _ (fun h' hs' => ih (i + 1) h' n' t' _ _ hs' (by omega) (by omega) hq)
set_option maxHeartbeats 4000000 in
theorem X_wk {β d : Nat} {h : AH} {T k : Nat} (hJ : k_H JB h) (hW : W0 β h) (hT : T < 4) (hk : (k : Int) < tF h (753 * T)) (h0 : 0 ≤ tF h (753 * T + 1 + 6 * k)) (h4 : tF h (753 * T + 1 + 6 * k) ≤ 4) : XC (d + 4) 240 [vR 76, vI (T : Int), vI (k : Int)] h (WKd β h) := by
  have hc := tF_c hJ hT
  have hk2 : k < 24 := by omega
  have gv : ∀ j, j < 3012 → (fun i => if i ≤ 3012 then hV h 79 i else vN) j = hV h 79 j := fun j hj => if_pos (by omega)
  have go : ∀ j, j < 3012 → ofI ((fun i => if i ≤ 3012 then hV h 79 i else vN) j) = tF h j := fun j hj => by rw [gv j hj, (tF_v hJ hj).1]; rfl
  obtain ⟨a, b, ea, eb, hC⟩ := hW.2 T hT k (by rw [go _ (by omega)]; exact hk) hk2 (by rw [go _ (by omega)]; exact h0) (by rw [go _ (by omega)]; exact h4)
  have va : hV h 79 (753 * T + 1 + 6 * k + 1) = vI (a : Int) := (gv _ (by omega)).symm.trans ea
  have key := wk_l (d := d) (h0 := h) (β := β) hT hk2 gv eb hC (b - a) a h 0 0 none none (ST_r hJ hW) (Nat.le_refl _) (by have := hC.1; omega) (by rw [Nat.sub_self]; rfl)
  obtain ⟨⟨o1, o2, o3, o4, o5⟩, k1, k2, k3, k4, k5, k6⟩ := wkF hJ
  have a1 : w32 (753 * (T : Int)) = ((753 * T : Nat) : Int) := by unfold w32; omega
  have a2 : w32 (((753 * T : Nat) : Int) + 1) = ((753 * T + 1 : Nat) : Int) := by unfold w32; omega
  have a3 : w32 (6 * (k : Int)) = ((6 * k : Nat) : Int) := by unfold w32; omega
  have a4 : w32 (((753 * T + 1 : Nat) : Int) + ((6 * k : Nat) : Int)) = ((753 * T + 1 + 6 * k : Nat) : Int) := by unfold w32; omega
  have a5 : w32 (((753 * T : Nat) : Int) + 145) = ((753 * T + 145 : Nat) : Int) := by unfold w32; omega
  have a6 : w32 (((753 * T + 1 + 6 * k : Nat) : Int) + 1) = ((753 * T + 1 + 6 * k + 1 : Nat) : Int) := by unfold w32; omega
  have b6 : (0 : Int) ≤ ((753 * T + 1 + 6 * k + 1 : Nat) : Int) ∧ ((753 * T + 1 + 6 * k + 1 : Nat) : Int) < 3012 := by omega
  refine XC_of (Nat.le_of_ble_eq_true rfl) ?_
  show XP (d + 3) 240 0 [some (vR 76), some (vI (T : Int)), some (vI (k : Int)), none, none, none, none, none, none, none] [] h _
  refine xpk_sound (stops := [40]) (n := 40) ?_
  simp only [sk_0, sk_1, sk_2, sk_3, sk_4, sk_5, sk_6, sk_7, sk_8, sk_iadd, sk_isub, sk_imul, sk_iand, sk_ior, sk_ixor, sk_ishl, sk_ishr, sk_iushr, sk_idiv, sk_irem, sk_ineg, sk_ladd, sk_lsub, sk_lmul, sk_land, sk_lor, sk_ldiv, sk_lrem, sk_lneg, sk_lshl, sk_lshr, sk_i2l, sk_l2i, sk_lcmp, sk_dupI, sk_dupR, sk_dup2L, sk_dup2I, sk_popI, sk_ifeq, sk_ifne, sk_iflt, sk_ifge, sk_ifgt, sk_ifle, sk_iceq, sk_icne, sk_iclt, sk_icge, sk_icgt, sk_icle, sk_goto, sk_getf, sk_putf, sk_gets, sk_iald, sk_lald, sk_bald, sk_aald, sk_iast, sk_last, sk_bast, sk_aast, sk_alen, sk_newa, sk_newt, sk_new, sk_cs1, sk_cs2, sk_cs3, sk_cs4, sk_cs5, sk_cs6, sk_cv1, sk_cv2, sk_cv3, sk_cv4, sk_cv5, sk_cv6, sk_ci1, sk_ci2, sk_ci3, sk_ret0, sk_retI, sk_retL, sk_retR, sk_sw, sk_oin, sk_max, sk_min, sk_abs, lI_0, lI_s, lL_0, lL_s, lR_0, lR_s, vIo_e, vLo_e, vOo_e, stW_I, stW_L, stW_R, stW_0, stW_z, okSt_0, okSt_s, hV_eq, hK_eq, okF_0, okF_1, okF_3, is01_0, is01_1, is01_i, Int.toNat_natCast, Int.reduceEq, Int.reduceLE, Int.reduceLT, Int.reduceNeg, Nat.reduceLT, not_true_eq_false, not_false_eq_true, reduceIte, Option.toList, List.cons_append, List.nil_append, List.set_cons_zero, List.set_cons_succ, List.not_mem_nil, List.mem_cons, if_false, if_true, ite_true, ite_false, and_self, and_true, true_and, Nat.reduceAdd, Nat.reduceLeDiff, Nat.reduceEqDiff, Nat.zero_add, Nat.le_refl, Nat.zero_le, or_false, false_or, Int.reduceToNat, or_true, true_or, eq_self, and_false, false_and, inR_d, nc_4, nc_5, nc_6, nc_7, nc_8, nc_16, nc_18, nc_20, nc_24, nc_32, nc_40, nc_64, nc_104, nc_120, nc_160, nc_256, nc_300, nc_330, nc_390, nc_1200, nc_1260, nc_3012, nc_9834, okSt_1i, okSt_1r, okSt_1n, List.length_cons, List.length_nil, xpk_succ cd_240_0, xpk_succ cd_240_3, xpk_succ cd_240_4, xpk_succ cd_240_5, xpk_succ cd_240_6, xpk_succ cd_240_7, xpk_succ cd_240_9, xpk_succ cd_240_10, xpk_succ cd_240_11, xpk_succ cd_240_12, xpk_succ cd_240_13, xpk_succ cd_240_16, xpk_succ cd_240_17, xpk_succ cd_240_18, xpk_succ cd_240_21, xpk_succ cd_240_22, xpk_succ cd_240_24, xpk_succ cd_240_25, xpk_succ cd_240_27, xpk_succ cd_240_28, xpk_succ cd_240_30, xpk_succ cd_240_31, xpk_succ cd_240_34, xpk_succ cd_240_35, xpk_succ cd_240_36, xpk_succ cd_240_37, xpk_succ cd_240_38, o2, k1, k3, a1, a2, a3, a4, a5, a6, b6, va]
  exact key
def CLd (h : AH) (T s : Int) (r : Option AV) (h' : AH) : Prop := h' = h ∧ ∃ x : Int, r = some (vI x) ∧ (x = -1 ∨ ∃ (k j : Nat), x = (k : Int) ∧ T = (j : Int) ∧ (k : Int) < tF h (753 * j) ∧ tF h (753 * j + 1 + 6 * k) = s)
set_option maxHeartbeats 4000000 in
theorem cl_l {d : Nat} {h : AH} {T : Nat} {s : Int} (hJ : k_H JB h) (hT : T < 4) : ∀ (e k : Nat), ((k + e : Nat) : Int) = tF h (753 * T) → XP d 241 2 [some (vR 76), some (vI (T : Int)), some (vI s), some (vI (k : Int))] [] h (CLd h T s) := by
  obtain ⟨⟨o1, o2, o3, o4, o5⟩, k1, k2, k3, k4, k5, k6⟩ := wkF hJ
  have hc := tF_c hJ hT
  have v0 := (tF_v hJ (i := 753 * T) (by omega)).1
  have a1 : w32 (753 * (T : Int)) = ((753 * T : Nat) : Int) := by unfold w32; omega
  have b1 : (0 : Int) ≤ ((753 * T : Nat) : Int) ∧ ((753 * T : Nat) : Int) < 3012 := by omega
  have z0 : ¬ (T : Int) < 0 := by omega
  intro e
  induction e with
  | zero =>
    intro k hk
    have z : tF h (753 * T) ≤ (k : Int) := by omega
    have y : CLd h T s (some (vI (-1))) h := ⟨rfl, -1, rfl, Or.inl rfl⟩
    refine xpk_sound (stops := []) (n := 30) ?_
    simp only [sk_0, sk_1, sk_2, sk_3, sk_4, sk_5, sk_6, sk_7, sk_8, sk_iadd, sk_isub, sk_imul, sk_iand, sk_ior, sk_ixor, sk_ishl, sk_ishr, sk_iushr, sk_idiv, sk_irem, sk_ineg, sk_ladd, sk_lsub, sk_lmul, sk_land, sk_lor, sk_ldiv, sk_lrem, sk_lneg, sk_lshl, sk_lshr, sk_i2l, sk_l2i, sk_lcmp, sk_dupI, sk_dupR, sk_dup2L, sk_dup2I, sk_popI, sk_ifeq, sk_ifne, sk_iflt, sk_ifge, sk_ifgt, sk_ifle, sk_iceq, sk_icne, sk_iclt, sk_icge, sk_icgt, sk_icle, sk_goto, sk_getf, sk_putf, sk_gets, sk_iald, sk_lald, sk_bald, sk_aald, sk_iast, sk_last, sk_bast, sk_aast, sk_alen, sk_newa, sk_newt, sk_new, sk_cs1, sk_cs2, sk_cs3, sk_cs4, sk_cs5, sk_cs6, sk_cv1, sk_cv2, sk_cv3, sk_cv4, sk_cv5, sk_cv6, sk_ci1, sk_ci2, sk_ci3, sk_ret0, sk_retI, sk_retL, sk_retR, sk_sw, sk_oin, sk_max, sk_min, sk_abs, lI_0, lI_s, lL_0, lL_s, lR_0, lR_s, vIo_e, vLo_e, vOo_e, stW_I, stW_L, stW_R, stW_0, stW_z, okSt_0, okSt_s, hV_eq, hK_eq, okF_0, okF_1, okF_3, is01_0, is01_1, is01_i, Int.toNat_natCast, Int.reduceEq, Int.reduceLE, Int.reduceLT, Int.reduceNeg, Nat.reduceLT, not_true_eq_false, not_false_eq_true, reduceIte, Option.toList, List.cons_append, List.nil_append, List.set_cons_zero, List.set_cons_succ, List.not_mem_nil, List.mem_cons, if_false, if_true, ite_true, ite_false, and_self, and_true, true_and, Nat.reduceAdd, Nat.reduceLeDiff, Nat.reduceEqDiff, Nat.zero_add, Nat.le_refl, Nat.zero_le, or_false, false_or, Int.reduceToNat, or_true, true_or, eq_self, and_false, false_and, inR_d, nc_4, nc_5, nc_6, nc_7, nc_8, nc_16, nc_18, nc_20, nc_24, nc_32, nc_40, nc_64, nc_104, nc_120, nc_160, nc_256, nc_300, nc_330, nc_390, nc_1200, nc_1260, nc_3012, nc_9834, okSt_1i, okSt_1r, okSt_1n, List.length_cons, List.length_nil, xpk_succ cd_241_2, xpk_succ cd_241_3, xpk_succ cd_241_6, xpk_succ cd_241_7, xpk_succ cd_241_8, xpk_succ cd_241_11, xpk_succ cd_241_14, xpk_succ cd_241_15, xpk_succ cd_241_16, xpk_succ cd_241_17, xpk_succ cd_241_49, xpk_succ cd_241_50, o2, k1, k3, v0, a1, b1, z0, z]
    exact y
  | succ e ih =>
    intro k hk
    have z : ¬ tF h (753 * T) ≤ (k : Int) := by omega
    have a2 : w32 (((753 * T : Nat) : Int) + 1) = ((753 * T + 1 : Nat) : Int) := by unfold w32; omega
    have a3 : w32 (6 * (k : Int)) = ((6 * k : Nat) : Int) := by unfold w32; omega
    have a4 : w32 (((753 * T + 1 : Nat) : Int) + ((6 * k : Nat) : Int)) = ((753 * T + 1 + 6 * k : Nat) : Int) := by unfold w32; omega
    have b4 : (0 : Int) ≤ ((753 * T + 1 + 6 * k : Nat) : Int) ∧ ((753 * T + 1 + 6 * k : Nat) : Int) < 3012 := by omega
    have v4 := (tF_v hJ (i := 753 * T + 1 + 6 * k) (by omega)).1
    have a5 : w32 ((k : Int) + 1) = ((k + 1 : Nat) : Int) := by unfold w32; omega
    have y := ih (k + 1) (by omega)
    by_cases q : tF h (753 * T + 1 + 6 * k) = s
    · have y1 : CLd h T s (some (vI (k : Int))) h := ⟨rfl, k, rfl, Or.inr ⟨k, T, rfl, rfl, by omega, q⟩⟩
      refine xpk_sound (stops := []) (n := 40) ?_
      simp only [sk_0, sk_1, sk_2, sk_3, sk_4, sk_5, sk_6, sk_7, sk_8, sk_iadd, sk_isub, sk_imul, sk_iand, sk_ior, sk_ixor, sk_ishl, sk_ishr, sk_iushr, sk_idiv, sk_irem, sk_ineg, sk_ladd, sk_lsub, sk_lmul, sk_land, sk_lor, sk_ldiv, sk_lrem, sk_lneg, sk_lshl, sk_lshr, sk_i2l, sk_l2i, sk_lcmp, sk_dupI, sk_dupR, sk_dup2L, sk_dup2I, sk_popI, sk_ifeq, sk_ifne, sk_iflt, sk_ifge, sk_ifgt, sk_ifle, sk_iceq, sk_icne, sk_iclt, sk_icge, sk_icgt, sk_icle, sk_goto, sk_getf, sk_putf, sk_gets, sk_iald, sk_lald, sk_bald, sk_aald, sk_iast, sk_last, sk_bast, sk_aast, sk_alen, sk_newa, sk_newt, sk_new, sk_cs1, sk_cs2, sk_cs3, sk_cs4, sk_cs5, sk_cs6, sk_cv1, sk_cv2, sk_cv3, sk_cv4, sk_cv5, sk_cv6, sk_ci1, sk_ci2, sk_ci3, sk_ret0, sk_retI, sk_retL, sk_retR, sk_sw, sk_oin, sk_max, sk_min, sk_abs, lI_0, lI_s, lL_0, lL_s, lR_0, lR_s, vIo_e, vLo_e, vOo_e, stW_I, stW_L, stW_R, stW_0, stW_z, okSt_0, okSt_s, hV_eq, hK_eq, okF_0, okF_1, okF_3, is01_0, is01_1, is01_i, Int.toNat_natCast, Int.reduceEq, Int.reduceLE, Int.reduceLT, Int.reduceNeg, Nat.reduceLT, not_true_eq_false, not_false_eq_true, reduceIte, Option.toList, List.cons_append, List.nil_append, List.set_cons_zero, List.set_cons_succ, List.not_mem_nil, List.mem_cons, if_false, if_true, ite_true, ite_false, and_self, and_true, true_and, Nat.reduceAdd, Nat.reduceLeDiff, Nat.reduceEqDiff, Nat.zero_add, Nat.le_refl, Nat.zero_le, or_false, false_or, Int.reduceToNat, or_true, true_or, eq_self, and_false, false_and, inR_d, nc_4, nc_5, nc_6, nc_7, nc_8, nc_16, nc_18, nc_20, nc_24, nc_32, nc_40, nc_64, nc_104, nc_120, nc_160, nc_256, nc_300, nc_330, nc_390, nc_1200, nc_1260, nc_3012, nc_9834, okSt_1i, okSt_1r, okSt_1n, List.length_cons, List.length_nil, xpk_succ cd_241_2, xpk_succ cd_241_3, xpk_succ cd_241_6, xpk_succ cd_241_7, xpk_succ cd_241_8, xpk_succ cd_241_11, xpk_succ cd_241_14, xpk_succ cd_241_15, xpk_succ cd_241_16, xpk_succ cd_241_17, xpk_succ cd_241_20, xpk_succ cd_241_21, xpk_succ cd_241_24, xpk_succ cd_241_27, xpk_succ cd_241_28, xpk_succ cd_241_29, xpk_succ cd_241_30, xpk_succ cd_241_31, xpk_succ cd_241_33, xpk_succ cd_241_34, xpk_succ cd_241_35, xpk_succ cd_241_36, xpk_succ cd_241_37, xpk_succ cd_241_38, xpk_succ cd_241_41, xpk_succ cd_241_42, xpk_succ cd_241_43, xpk_succ cd_241_46, o2, k1, k3, v0, a1, b1, z0, z, a2, a3, a4, b4, v4, a5, q]
      exact y1
    · refine xpk_sound (stops := [2]) (n := 40) ?_
      simp only [sk_0, sk_1, sk_2, sk_3, sk_4, sk_5, sk_6, sk_7, sk_8, sk_iadd, sk_isub, sk_imul, sk_iand, sk_ior, sk_ixor, sk_ishl, sk_ishr, sk_iushr, sk_idiv, sk_irem, sk_ineg, sk_ladd, sk_lsub, sk_lmul, sk_land, sk_lor, sk_ldiv, sk_lrem, sk_lneg, sk_lshl, sk_lshr, sk_i2l, sk_l2i, sk_lcmp, sk_dupI, sk_dupR, sk_dup2L, sk_dup2I, sk_popI, sk_ifeq, sk_ifne, sk_iflt, sk_ifge, sk_ifgt, sk_ifle, sk_iceq, sk_icne, sk_iclt, sk_icge, sk_icgt, sk_icle, sk_goto, sk_getf, sk_putf, sk_gets, sk_iald, sk_lald, sk_bald, sk_aald, sk_iast, sk_last, sk_bast, sk_aast, sk_alen, sk_newa, sk_newt, sk_new, sk_cs1, sk_cs2, sk_cs3, sk_cs4, sk_cs5, sk_cs6, sk_cv1, sk_cv2, sk_cv3, sk_cv4, sk_cv5, sk_cv6, sk_ci1, sk_ci2, sk_ci3, sk_ret0, sk_retI, sk_retL, sk_retR, sk_sw, sk_oin, sk_max, sk_min, sk_abs, lI_0, lI_s, lL_0, lL_s, lR_0, lR_s, vIo_e, vLo_e, vOo_e, stW_I, stW_L, stW_R, stW_0, stW_z, okSt_0, okSt_s, hV_eq, hK_eq, okF_0, okF_1, okF_3, is01_0, is01_1, is01_i, Int.toNat_natCast, Int.reduceEq, Int.reduceLE, Int.reduceLT, Int.reduceNeg, Nat.reduceLT, not_true_eq_false, not_false_eq_true, reduceIte, Option.toList, List.cons_append, List.nil_append, List.set_cons_zero, List.set_cons_succ, List.not_mem_nil, List.mem_cons, if_false, if_true, ite_true, ite_false, and_self, and_true, true_and, Nat.reduceAdd, Nat.reduceLeDiff, Nat.reduceEqDiff, Nat.zero_add, Nat.le_refl, Nat.zero_le, or_false, false_or, Int.reduceToNat, or_true, true_or, eq_self, and_false, false_and, inR_d, nc_4, nc_5, nc_6, nc_7, nc_8, nc_16, nc_18, nc_20, nc_24, nc_32, nc_40, nc_64, nc_104, nc_120, nc_160, nc_256, nc_300, nc_330, nc_390, nc_1200, nc_1260, nc_3012, nc_9834, okSt_1i, okSt_1r, okSt_1n, List.length_cons, List.length_nil, xpk_succ cd_241_2, xpk_succ cd_241_3, xpk_succ cd_241_6, xpk_succ cd_241_7, xpk_succ cd_241_8, xpk_succ cd_241_11, xpk_succ cd_241_14, xpk_succ cd_241_15, xpk_succ cd_241_16, xpk_succ cd_241_17, xpk_succ cd_241_20, xpk_succ cd_241_21, xpk_succ cd_241_24, xpk_succ cd_241_27, xpk_succ cd_241_28, xpk_succ cd_241_29, xpk_succ cd_241_30, xpk_succ cd_241_31, xpk_succ cd_241_33, xpk_succ cd_241_34, xpk_succ cd_241_35, xpk_succ cd_241_36, xpk_succ cd_241_37, xpk_succ cd_241_38, xpk_succ cd_241_41, xpk_succ cd_241_42, xpk_succ cd_241_43, xpk_succ cd_241_46, o2, k1, k3, v0, a1, b1, z0, z, a2, a3, a4, b4, v4, a5, q]
      exact y
theorem X_cl {d : Nat} {h : AH} {T s : Int} (hJ : k_H JB h) (h1 : -1 ≤ T) (h2 : T ≤ 3) : ∃ x : Int, (x = -1 ∨ ∃ (k j : Nat), x = (k : Int) ∧ T = (j : Int) ∧ (k : Int) < tF h (753 * j) ∧ tF h (753 * j + 1 + 6 * k) = s) ∧ ∀ Q : Option AV → AH → Prop, XC (d + 1) 241 [vR 76, vI T, vI s] h Q = Q (some (vI x)) h := by
  have q0 : XC (d + 1) 241 [vR 76, vI T, vI s] h (CLd h T s) := by
    refine XC_of (Nat.le_of_ble_eq_true rfl) ?_
    show XP d 241 0 [some (vR 76), some (vI T), some (vI s), none] [] h _
    by_cases z : T < 0
    · have y : CLd h T s (some (vI (-1))) h := ⟨rfl, -1, rfl, Or.inl rfl⟩
      refine xpk_sound (stops := []) (n := 30) ?_
      simp only [sk_0, sk_1, sk_2, sk_3, sk_4, sk_5, sk_6, sk_7, sk_8, sk_iadd, sk_isub, sk_imul, sk_iand, sk_ior, sk_ixor, sk_ishl, sk_ishr, sk_iushr, sk_idiv, sk_irem, sk_ineg, sk_ladd, sk_lsub, sk_lmul, sk_land, sk_lor, sk_ldiv, sk_lrem, sk_lneg, sk_lshl, sk_lshr, sk_i2l, sk_l2i, sk_lcmp, sk_dupI, sk_dupR, sk_dup2L, sk_dup2I, sk_popI, sk_ifeq, sk_ifne, sk_iflt, sk_ifge, sk_ifgt, sk_ifle, sk_iceq, sk_icne, sk_iclt, sk_icge, sk_icgt, sk_icle, sk_goto, sk_getf, sk_putf, sk_gets, sk_iald, sk_lald, sk_bald, sk_aald, sk_iast, sk_last, sk_bast, sk_aast, sk_alen, sk_newa, sk_newt, sk_new, sk_cs1, sk_cs2, sk_cs3, sk_cs4, sk_cs5, sk_cs6, sk_cv1, sk_cv2, sk_cv3, sk_cv4, sk_cv5, sk_cv6, sk_ci1, sk_ci2, sk_ci3, sk_ret0, sk_retI, sk_retL, sk_retR, sk_sw, sk_oin, sk_max, sk_min, sk_abs, lI_0, lI_s, lL_0, lL_s, lR_0, lR_s, vIo_e, vLo_e, vOo_e, stW_I, stW_L, stW_R, stW_0, stW_z, okSt_0, okSt_s, hV_eq, hK_eq, okF_0, okF_1, okF_3, is01_0, is01_1, is01_i, Int.toNat_natCast, Int.reduceEq, Int.reduceLE, Int.reduceLT, Int.reduceNeg, Nat.reduceLT, not_true_eq_false, not_false_eq_true, reduceIte, Option.toList, List.cons_append, List.nil_append, List.set_cons_zero, List.set_cons_succ, List.not_mem_nil, List.mem_cons, if_false, if_true, ite_true, ite_false, and_self, and_true, true_and, Nat.reduceAdd, Nat.reduceLeDiff, Nat.reduceEqDiff, Nat.zero_add, Nat.le_refl, Nat.zero_le, or_false, false_or, Int.reduceToNat, or_true, true_or, eq_self, and_false, false_and, inR_d, nc_4, nc_5, nc_6, nc_7, nc_8, nc_16, nc_18, nc_20, nc_24, nc_32, nc_40, nc_64, nc_104, nc_120, nc_160, nc_256, nc_300, nc_330, nc_390, nc_1200, nc_1260, nc_3012, nc_9834, okSt_1i, okSt_1r, okSt_1n, List.length_cons, List.length_nil, xpk_succ cd_241_0, xpk_succ cd_241_1, xpk_succ cd_241_2, xpk_succ cd_241_3, xpk_succ cd_241_49, xpk_succ cd_241_50, z]
      exact y
    · obtain ⟨j, rfl⟩ := Int.eq_ofNat_of_zero_le (show 0 ≤ T by omega)
      have hj : j < 4 := by omega
      have hc := tF_c hJ hj
      have y := cl_l (d := d) (s := s) hJ hj (tF h (753 * j)).toNat 0 (by omega)
      refine xpk_sound (stops := [2]) (n := 30) ?_
      simp only [sk_0, sk_1, sk_2, sk_3, sk_4, sk_5, sk_6, sk_7, sk_8, sk_iadd, sk_isub, sk_imul, sk_iand, sk_ior, sk_ixor, sk_ishl, sk_ishr, sk_iushr, sk_idiv, sk_irem, sk_ineg, sk_ladd, sk_lsub, sk_lmul, sk_land, sk_lor, sk_ldiv, sk_lrem, sk_lneg, sk_lshl, sk_lshr, sk_i2l, sk_l2i, sk_lcmp, sk_dupI, sk_dupR, sk_dup2L, sk_dup2I, sk_popI, sk_ifeq, sk_ifne, sk_iflt, sk_ifge, sk_ifgt, sk_ifle, sk_iceq, sk_icne, sk_iclt, sk_icge, sk_icgt, sk_icle, sk_goto, sk_getf, sk_putf, sk_gets, sk_iald, sk_lald, sk_bald, sk_aald, sk_iast, sk_last, sk_bast, sk_aast, sk_alen, sk_newa, sk_newt, sk_new, sk_cs1, sk_cs2, sk_cs3, sk_cs4, sk_cs5, sk_cs6, sk_cv1, sk_cv2, sk_cv3, sk_cv4, sk_cv5, sk_cv6, sk_ci1, sk_ci2, sk_ci3, sk_ret0, sk_retI, sk_retL, sk_retR, sk_sw, sk_oin, sk_max, sk_min, sk_abs, lI_0, lI_s, lL_0, lL_s, lR_0, lR_s, vIo_e, vLo_e, vOo_e, stW_I, stW_L, stW_R, stW_0, stW_z, okSt_0, okSt_s, hV_eq, hK_eq, okF_0, okF_1, okF_3, is01_0, is01_1, is01_i, Int.toNat_natCast, Int.reduceEq, Int.reduceLE, Int.reduceLT, Int.reduceNeg, Nat.reduceLT, not_true_eq_false, not_false_eq_true, reduceIte, Option.toList, List.cons_append, List.nil_append, List.set_cons_zero, List.set_cons_succ, List.not_mem_nil, List.mem_cons, if_false, if_true, ite_true, ite_false, and_self, and_true, true_and, Nat.reduceAdd, Nat.reduceLeDiff, Nat.reduceEqDiff, Nat.zero_add, Nat.le_refl, Nat.zero_le, or_false, false_or, Int.reduceToNat, or_true, true_or, eq_self, and_false, false_and, inR_d, nc_4, nc_5, nc_6, nc_7, nc_8, nc_16, nc_18, nc_20, nc_24, nc_32, nc_40, nc_64, nc_104, nc_120, nc_160, nc_256, nc_300, nc_330, nc_390, nc_1200, nc_1260, nc_3012, nc_9834, okSt_1i, okSt_1r, okSt_1n, List.length_cons, List.length_nil, xpk_succ cd_241_0, xpk_succ cd_241_1]
      exact y
  obtain ⟨r, h', ⟨rfl, x, rfl, hx⟩, e⟩ := XC_dt q0
  exact ⟨x, hx, e⟩
def CTd (h : AH) (x y z : Int) (r : Option AV) (h' : AH) : Prop := h' = h ∧ ∃ g : Int, r = some (vI g) ∧ (g = x ∨ g = y ∨ g = z)
theorem X_cut {d : Nat} {h : AH} {x y z : Int} : ∃ r : Int, (r = x ∨ r = y ∨ r = z) ∧ ∀ Q : Option AV → AH → Prop, XC (d + 1) 183 [vI x, vI y, vI z] h Q = Q (some (vI r)) h := by
  have q0 : XC (d + 1) 183 [vI x, vI y, vI z] h (CTd h x y z) := by
    refine XC_of (Nat.le_of_ble_eq_true rfl) ?_
    show XP d 183 0 [some (vI x), some (vI y), some (vI z)] [] h _
    have y1 : CTd h x y z (some (vI x)) h := ⟨rfl, x, rfl, Or.inl rfl⟩
    have y2 : CTd h x y z (some (vI y)) h := ⟨rfl, y, rfl, Or.inr (Or.inl rfl)⟩
    have y3 : CTd h x y z (some (vI z)) h := ⟨rfl, z, rfl, Or.inr (Or.inr rfl)⟩
    by_cases c1 : y ≤ x
    · by_cases c2 : x ≤ z
      · refine xpk_sound (stops := []) (n := 30) ?_
        simp only [sk_0, sk_1, sk_2, sk_3, sk_4, sk_5, sk_6, sk_7, sk_8, sk_iadd, sk_isub, sk_imul, sk_iand, sk_ior, sk_ixor, sk_ishl, sk_ishr, sk_iushr, sk_idiv, sk_irem, sk_ineg, sk_ladd, sk_lsub, sk_lmul, sk_land, sk_lor, sk_ldiv, sk_lrem, sk_lneg, sk_lshl, sk_lshr, sk_i2l, sk_l2i, sk_lcmp, sk_dupI, sk_dupR, sk_dup2L, sk_dup2I, sk_popI, sk_ifeq, sk_ifne, sk_iflt, sk_ifge, sk_ifgt, sk_ifle, sk_iceq, sk_icne, sk_iclt, sk_icge, sk_icgt, sk_icle, sk_goto, sk_getf, sk_putf, sk_gets, sk_iald, sk_lald, sk_bald, sk_aald, sk_iast, sk_last, sk_bast, sk_aast, sk_alen, sk_newa, sk_newt, sk_new, sk_cs1, sk_cs2, sk_cs3, sk_cs4, sk_cs5, sk_cs6, sk_cv1, sk_cv2, sk_cv3, sk_cv4, sk_cv5, sk_cv6, sk_ci1, sk_ci2, sk_ci3, sk_ret0, sk_retI, sk_retL, sk_retR, sk_sw, sk_oin, sk_max, sk_min, sk_abs, lI_0, lI_s, lL_0, lL_s, lR_0, lR_s, vIo_e, vLo_e, vOo_e, stW_I, stW_L, stW_R, stW_0, stW_z, okSt_0, okSt_s, hV_eq, hK_eq, okF_0, okF_1, okF_3, is01_0, is01_1, is01_i, Int.toNat_natCast, Int.reduceEq, Int.reduceLE, Int.reduceLT, Int.reduceNeg, Nat.reduceLT, not_true_eq_false, not_false_eq_true, reduceIte, Option.toList, List.cons_append, List.nil_append, List.set_cons_zero, List.set_cons_succ, List.not_mem_nil, List.mem_cons, if_false, if_true, ite_true, ite_false, and_self, and_true, true_and, Nat.reduceAdd, Nat.reduceLeDiff, Nat.reduceEqDiff, Nat.zero_add, Nat.le_refl, Nat.zero_le, or_false, false_or, Int.reduceToNat, or_true, true_or, eq_self, and_false, false_and, inR_d, nc_4, nc_5, nc_6, nc_7, nc_8, nc_16, nc_18, nc_20, nc_24, nc_32, nc_40, nc_64, nc_104, nc_120, nc_160, nc_256, nc_300, nc_330, nc_390, nc_1200, nc_1260, nc_3012, nc_9834, okSt_1i, okSt_1r, okSt_1n, List.length_cons, List.length_nil, xpk_succ cd_183_0, xpk_succ cd_183_1, xpk_succ cd_183_2, xpk_succ cd_183_5, xpk_succ cd_183_6, xpk_succ cd_183_9, xpk_succ cd_183_10, xpk_succ cd_183_11, xpk_succ cd_183_14, xpk_succ cd_183_15, xpk_succ cd_183_18, xpk_succ cd_183_19, c1, c2]
        exact y1
      · refine xpk_sound (stops := []) (n := 30) ?_
        simp only [sk_0, sk_1, sk_2, sk_3, sk_4, sk_5, sk_6, sk_7, sk_8, sk_iadd, sk_isub, sk_imul, sk_iand, sk_ior, sk_ixor, sk_ishl, sk_ishr, sk_iushr, sk_idiv, sk_irem, sk_ineg, sk_ladd, sk_lsub, sk_lmul, sk_land, sk_lor, sk_ldiv, sk_lrem, sk_lneg, sk_lshl, sk_lshr, sk_i2l, sk_l2i, sk_lcmp, sk_dupI, sk_dupR, sk_dup2L, sk_dup2I, sk_popI, sk_ifeq, sk_ifne, sk_iflt, sk_ifge, sk_ifgt, sk_ifle, sk_iceq, sk_icne, sk_iclt, sk_icge, sk_icgt, sk_icle, sk_goto, sk_getf, sk_putf, sk_gets, sk_iald, sk_lald, sk_bald, sk_aald, sk_iast, sk_last, sk_bast, sk_aast, sk_alen, sk_newa, sk_newt, sk_new, sk_cs1, sk_cs2, sk_cs3, sk_cs4, sk_cs5, sk_cs6, sk_cv1, sk_cv2, sk_cv3, sk_cv4, sk_cv5, sk_cv6, sk_ci1, sk_ci2, sk_ci3, sk_ret0, sk_retI, sk_retL, sk_retR, sk_sw, sk_oin, sk_max, sk_min, sk_abs, lI_0, lI_s, lL_0, lL_s, lR_0, lR_s, vIo_e, vLo_e, vOo_e, stW_I, stW_L, stW_R, stW_0, stW_z, okSt_0, okSt_s, hV_eq, hK_eq, okF_0, okF_1, okF_3, is01_0, is01_1, is01_i, Int.toNat_natCast, Int.reduceEq, Int.reduceLE, Int.reduceLT, Int.reduceNeg, Nat.reduceLT, not_true_eq_false, not_false_eq_true, reduceIte, Option.toList, List.cons_append, List.nil_append, List.set_cons_zero, List.set_cons_succ, List.not_mem_nil, List.mem_cons, if_false, if_true, ite_true, ite_false, and_self, and_true, true_and, Nat.reduceAdd, Nat.reduceLeDiff, Nat.reduceEqDiff, Nat.zero_add, Nat.le_refl, Nat.zero_le, or_false, false_or, Int.reduceToNat, or_true, true_or, eq_self, and_false, false_and, inR_d, nc_4, nc_5, nc_6, nc_7, nc_8, nc_16, nc_18, nc_20, nc_24, nc_32, nc_40, nc_64, nc_104, nc_120, nc_160, nc_256, nc_300, nc_330, nc_390, nc_1200, nc_1260, nc_3012, nc_9834, okSt_1i, okSt_1r, okSt_1n, List.length_cons, List.length_nil, xpk_succ cd_183_0, xpk_succ cd_183_1, xpk_succ cd_183_2, xpk_succ cd_183_5, xpk_succ cd_183_6, xpk_succ cd_183_9, xpk_succ cd_183_10, xpk_succ cd_183_11, xpk_succ cd_183_14, xpk_succ cd_183_15, xpk_succ cd_183_18, xpk_succ cd_183_19, c1, c2]
        exact y3
    · refine xpk_sound (stops := []) (n := 30) ?_
      simp only [sk_0, sk_1, sk_2, sk_3, sk_4, sk_5, sk_6, sk_7, sk_8, sk_iadd, sk_isub, sk_imul, sk_iand, sk_ior, sk_ixor, sk_ishl, sk_ishr, sk_iushr, sk_idiv, sk_irem, sk_ineg, sk_ladd, sk_lsub, sk_lmul, sk_land, sk_lor, sk_ldiv, sk_lrem, sk_lneg, sk_lshl, sk_lshr, sk_i2l, sk_l2i, sk_lcmp, sk_dupI, sk_dupR, sk_dup2L, sk_dup2I, sk_popI, sk_ifeq, sk_ifne, sk_iflt, sk_ifge, sk_ifgt, sk_ifle, sk_iceq, sk_icne, sk_iclt, sk_icge, sk_icgt, sk_icle, sk_goto, sk_getf, sk_putf, sk_gets, sk_iald, sk_lald, sk_bald, sk_aald, sk_iast, sk_last, sk_bast, sk_aast, sk_alen, sk_newa, sk_newt, sk_new, sk_cs1, sk_cs2, sk_cs3, sk_cs4, sk_cs5, sk_cs6, sk_cv1, sk_cv2, sk_cv3, sk_cv4, sk_cv5, sk_cv6, sk_ci1, sk_ci2, sk_ci3, sk_ret0, sk_retI, sk_retL, sk_retR, sk_sw, sk_oin, sk_max, sk_min, sk_abs, lI_0, lI_s, lL_0, lL_s, lR_0, lR_s, vIo_e, vLo_e, vOo_e, stW_I, stW_L, stW_R, stW_0, stW_z, okSt_0, okSt_s, hV_eq, hK_eq, okF_0, okF_1, okF_3, is01_0, is01_1, is01_i, Int.toNat_natCast, Int.reduceEq, Int.reduceLE, Int.reduceLT, Int.reduceNeg, Nat.reduceLT, not_true_eq_false, not_false_eq_true, reduceIte, Option.toList, List.cons_append, List.nil_append, List.set_cons_zero, List.set_cons_succ, List.not_mem_nil, List.mem_cons, if_false, if_true, ite_true, ite_false, and_self, and_true, true_and, Nat.reduceAdd, Nat.reduceLeDiff, Nat.reduceEqDiff, Nat.zero_add, Nat.le_refl, Nat.zero_le, or_false, false_or, Int.reduceToNat, or_true, true_or, eq_self, and_false, false_and, inR_d, nc_4, nc_5, nc_6, nc_7, nc_8, nc_16, nc_18, nc_20, nc_24, nc_32, nc_40, nc_64, nc_104, nc_120, nc_160, nc_256, nc_300, nc_330, nc_390, nc_1200, nc_1260, nc_3012, nc_9834, okSt_1i, okSt_1r, okSt_1n, List.length_cons, List.length_nil, xpk_succ cd_183_0, xpk_succ cd_183_1, xpk_succ cd_183_2, xpk_succ cd_183_5, xpk_succ cd_183_6, xpk_succ cd_183_9, xpk_succ cd_183_10, xpk_succ cd_183_11, xpk_succ cd_183_14, xpk_succ cd_183_15, xpk_succ cd_183_18, xpk_succ cd_183_19, c1]
      exact y2
  obtain ⟨r, h', ⟨rfl, x, rfl, hx⟩, e⟩ := XC_dt q0
  exact ⟨x, hx, e⟩
theorem j774 : jF2 77 4 (false, -1, 3) = true := by decide +kernel
set_option maxHeartbeats 4000000 in
theorem hok242_0 {β : Nat} : KOK JB (W0 β) 242 hk242_0 := by
  intro d vs h Q hd ha hJ hW hp hQ
  obtain ⟨v1, t1, rfl, e1, v2, t2, rfl, e2, v3, t3, rfl, e3, v4, t4, rfl, e4, v5, t5, rfl, e5, e6⟩ := ha
  have e1 : v1 = vR 76 := e1
  have e6 : t5 = [] := e6
  obtain ⟨s, rfl, s1, s2⟩ := e2
  obtain ⟨w, rfl, w1, w2⟩ := e3
  obtain ⟨lo, rfl, l1, l2⟩ := e4
  obtain ⟨hi, rfl, m1, m2⟩ := e5
  have s1 : (0 : Int) ≤ s := s1
  have s2 : s ≤ 4 := s2
  have w1 : (-2147483648 : Int) ≤ w := w1
  have w2 : w ≤ 2147483647 := w2
  have l1 : (-99 : Int) ≤ lo := l1
  have l2 : lo ≤ 1 := l2
  have m1 : (9 : Int) ≤ hi := m1
  have m2 : hi ≤ 99 := m2
  subst e1 e6
  obtain ⟨d, rfl⟩ : ∃ d', d = d' + 8 := ⟨d - 8, by have hd : 8 ≤ d := hd; omega⟩
  obtain ⟨⟨o1, o2, o3, o4, o5⟩, k1, k2, k3, k4, k5, k6⟩ := wkF hJ
  obtain ⟨T, v4, T1, T2⟩ : ∃ x, hV h 77 4 = vI x ∧ (-1 : Int) ≤ x ∧ x ≤ 3 := jF2_s hJ j774
  obtain ⟨x, hx, ex⟩ := X_cl (d := d + 6) (s := s) hJ T1 T2
  have q0 : XC (d + 8) 242 [vR 76, vI s, vI w, vI lo, vI hi] h (WKd β h) := by
    refine XC_of (Nat.le_of_ble_eq_true rfl) ?_
    show XP (d + 7) 242 0 [some (vR 76), some (vI s), some (vI w), some (vI lo), some (vI hi), none] [] h _
    rcases hx with rfl | ⟨k, j, rfl, rfl, hk, hks⟩
    · have y : WKd β h (some (vI w)) h := ⟨ST_r hJ hW, w, rfl, w1, w2⟩
      refine xpk_sound (stops := []) (n := 30) ?_
      simp only [sk_0, sk_1, sk_2, sk_3, sk_4, sk_5, sk_6, sk_7, sk_8, sk_iadd, sk_isub, sk_imul, sk_iand, sk_ior, sk_ixor, sk_ishl, sk_ishr, sk_iushr, sk_idiv, sk_irem, sk_ineg, sk_ladd, sk_lsub, sk_lmul, sk_land, sk_lor, sk_ldiv, sk_lrem, sk_lneg, sk_lshl, sk_lshr, sk_i2l, sk_l2i, sk_lcmp, sk_dupI, sk_dupR, sk_dup2L, sk_dup2I, sk_popI, sk_ifeq, sk_ifne, sk_iflt, sk_ifge, sk_ifgt, sk_ifle, sk_iceq, sk_icne, sk_iclt, sk_icge, sk_icgt, sk_icle, sk_goto, sk_getf, sk_putf, sk_gets, sk_iald, sk_lald, sk_bald, sk_aald, sk_iast, sk_last, sk_bast, sk_aast, sk_alen, sk_newa, sk_newt, sk_new, sk_cs1, sk_cs2, sk_cs3, sk_cs4, sk_cs5, sk_cs6, sk_cv1, sk_cv2, sk_cv3, sk_cv4, sk_cv5, sk_cv6, sk_ci1, sk_ci2, sk_ci3, sk_ret0, sk_retI, sk_retL, sk_retR, sk_sw, sk_oin, sk_max, sk_min, sk_abs, lI_0, lI_s, lL_0, lL_s, lR_0, lR_s, vIo_e, vLo_e, vOo_e, stW_I, stW_L, stW_R, stW_0, stW_z, okSt_0, okSt_s, hV_eq, hK_eq, okF_0, okF_1, okF_3, is01_0, is01_1, is01_i, Int.toNat_natCast, Int.reduceEq, Int.reduceLE, Int.reduceLT, Int.reduceNeg, Nat.reduceLT, not_true_eq_false, not_false_eq_true, reduceIte, Option.toList, List.cons_append, List.nil_append, List.set_cons_zero, List.set_cons_succ, List.not_mem_nil, List.mem_cons, if_false, if_true, ite_true, ite_false, and_self, and_true, true_and, Nat.reduceAdd, Nat.reduceLeDiff, Nat.reduceEqDiff, Nat.zero_add, Nat.le_refl, Nat.zero_le, or_false, false_or, Int.reduceToNat, or_true, true_or, eq_self, and_false, false_and, inR_d, nc_4, nc_5, nc_6, nc_7, nc_8, nc_16, nc_18, nc_20, nc_24, nc_32, nc_40, nc_64, nc_104, nc_120, nc_160, nc_256, nc_300, nc_330, nc_390, nc_1200, nc_1260, nc_3012, nc_9834, okSt_1i, okSt_1r, okSt_1n, List.length_cons, List.length_nil, xpk_succ cd_242_0, xpk_succ cd_242_1, xpk_succ cd_242_2, xpk_succ cd_242_5, xpk_succ cd_242_6, xpk_succ cd_242_7, xpk_succ cd_242_8, xpk_succ cd_242_11, xpk_succ cd_242_13, xpk_succ cd_242_15, xpk_succ cd_242_18, xpk_succ cd_242_19, xpk_succ cd_242_40, o1, k1, k2, v4, ex]
      exact y
    · obtain ⟨r, h', ⟨hs, z, rfl, z1, z2⟩, ew⟩ := XC_dt (X_wk (d := d + 3) hJ hW (T := j) (k := k) (by omega) hk (by omega) (by omega))
      obtain ⟨c, hc, ec⟩ := X_cut (d := d + 6) (h := h') (x := z) (y := lo) (z := hi)
      have y : WKd β h (some (vI c)) h' := ⟨hs, c, rfl, by omega, by omega⟩
      have z0 : (0 : Int) ≤ (k : Int) := by omega
      refine xpk_sound (stops := []) (n := 40) ?_
      simp only [sk_0, sk_1, sk_2, sk_3, sk_4, sk_5, sk_6, sk_7, sk_8, sk_iadd, sk_isub, sk_imul, sk_iand, sk_ior, sk_ixor, sk_ishl, sk_ishr, sk_iushr, sk_idiv, sk_irem, sk_ineg, sk_ladd, sk_lsub, sk_lmul, sk_land, sk_lor, sk_ldiv, sk_lrem, sk_lneg, sk_lshl, sk_lshr, sk_i2l, sk_l2i, sk_lcmp, sk_dupI, sk_dupR, sk_dup2L, sk_dup2I, sk_popI, sk_ifeq, sk_ifne, sk_iflt, sk_ifge, sk_ifgt, sk_ifle, sk_iceq, sk_icne, sk_iclt, sk_icge, sk_icgt, sk_icle, sk_goto, sk_getf, sk_putf, sk_gets, sk_iald, sk_lald, sk_bald, sk_aald, sk_iast, sk_last, sk_bast, sk_aast, sk_alen, sk_newa, sk_newt, sk_new, sk_cs1, sk_cs2, sk_cs3, sk_cs4, sk_cs5, sk_cs6, sk_cv1, sk_cv2, sk_cv3, sk_cv4, sk_cv5, sk_cv6, sk_ci1, sk_ci2, sk_ci3, sk_ret0, sk_retI, sk_retL, sk_retR, sk_sw, sk_oin, sk_max, sk_min, sk_abs, lI_0, lI_s, lL_0, lL_s, lR_0, lR_s, vIo_e, vLo_e, vOo_e, stW_I, stW_L, stW_R, stW_0, stW_z, okSt_0, okSt_s, hV_eq, hK_eq, okF_0, okF_1, okF_3, is01_0, is01_1, is01_i, Int.toNat_natCast, Int.reduceEq, Int.reduceLE, Int.reduceLT, Int.reduceNeg, Nat.reduceLT, not_true_eq_false, not_false_eq_true, reduceIte, Option.toList, List.cons_append, List.nil_append, List.set_cons_zero, List.set_cons_succ, List.not_mem_nil, List.mem_cons, if_false, if_true, ite_true, ite_false, and_self, and_true, true_and, Nat.reduceAdd, Nat.reduceLeDiff, Nat.reduceEqDiff, Nat.zero_add, Nat.le_refl, Nat.zero_le, or_false, false_or, Int.reduceToNat, or_true, true_or, eq_self, and_false, false_and, inR_d, nc_4, nc_5, nc_6, nc_7, nc_8, nc_16, nc_18, nc_20, nc_24, nc_32, nc_40, nc_64, nc_104, nc_120, nc_160, nc_256, nc_300, nc_330, nc_390, nc_1200, nc_1260, nc_3012, nc_9834, okSt_1i, okSt_1r, okSt_1n, List.length_cons, List.length_nil, xpk_succ cd_242_0, xpk_succ cd_242_1, xpk_succ cd_242_2, xpk_succ cd_242_5, xpk_succ cd_242_6, xpk_succ cd_242_7, xpk_succ cd_242_8, xpk_succ cd_242_11, xpk_succ cd_242_13, xpk_succ cd_242_15, xpk_succ cd_242_18, xpk_succ cd_242_22, xpk_succ cd_242_23, xpk_succ cd_242_24, xpk_succ cd_242_27, xpk_succ cd_242_28, xpk_succ cd_242_29, xpk_succ cd_242_31, xpk_succ cd_242_34, xpk_succ cd_242_35, xpk_succ cd_242_37, xpk_succ cd_242_40, o1, k1, k2, v4, ex, z0, ew, ec]
      exact y
  refine XC_mono ?_ q0
  rintro r h' ⟨hs, g, rfl, g1, g2⟩
  exact hQ _ _ ⟨_, rfl, g, rfl, g1, g2⟩ hs.1 (fun q hq => by cases hq) (fun q hq => by cases hq) hs.2
def CBd (β : Nat) (h : AH) (r : Option AV) (h' : AH) : Prop := STo β mdW h h' ∧ ∃ z : Int, r = some (vI z) ∧ -1 ≤ z ∧ z ≤ 1
set_option maxHeartbeats 4000000 in
theorem hok245_0 {β : Nat} : KOK JB (W0 β) 245 hk245_0 := by
  intro d vs h Q hd ha hJ hW hp hQ
  obtain ⟨v1, t1, rfl, e1, v2, t2, rfl, e2, e3⟩ := ha
  have e1 : v1 = vR 76 := e1
  have e3 : t2 = [] := e3
  obtain ⟨T, rfl, T1, T2⟩ := e2
  have T1 : (-1 : Int) ≤ T := T1
  have T2 : T ≤ 3 := T2
  subst e1 e3
  obtain ⟨d, rfl⟩ : ∃ d', d = d' + 8 := ⟨d - 8, by have hd : 8 ≤ d := hd; omega⟩
  obtain ⟨⟨o1, o2, o3, o4, o5⟩, k1, k2, k3, k4, k5, k6⟩ := wkF hJ
  obtain ⟨x, hx, ex⟩ := X_cl (d := d + 6) (s := 2) hJ T1 T2
  have q0 : XC (d + 8) 245 [vR 76, vI T] h (CBd β h) := by
    refine XC_of (Nat.le_of_ble_eq_true rfl) ?_
    show XP (d + 7) 245 0 [some (vR 76), some (vI T), none, none] [] h _
    have y0 : ∀ h', STo β mdW h h' → CBd β h (some (vI 0)) h' := fun h' hs => ⟨hs, 0, rfl, by decide, by decide⟩
    have y1 : ∀ h', STo β mdW h h' → CBd β h (some (vI 1)) h' := fun h' hs => ⟨hs, 1, rfl, by decide, by decide⟩
    have y2 : ∀ h', STo β mdW h h' → CBd β h (some (vI (-1))) h' := fun h' hs => ⟨hs, -1, rfl, by decide, by decide⟩
    rcases hx with rfl | ⟨k, j, rfl, rfl, hk, hks⟩
    · obtain ⟨u, hu, -⟩ := v82 hJ (i := 4) (by decide)
      have hs := ST_r (β := β) (md := mdW) hJ hW
      by_cases c1 : u ≤ 0
      · by_cases c2 : 0 ≤ u
        · refine xpk_sound (stops := []) (n := 40) ?_
          simp only [sk_0, sk_1, sk_2, sk_3, sk_4, sk_5, sk_6, sk_7, sk_8, sk_iadd, sk_isub, sk_imul, sk_iand, sk_ior, sk_ixor, sk_ishl, sk_ishr, sk_iushr, sk_idiv, sk_irem, sk_ineg, sk_ladd, sk_lsub, sk_lmul, sk_land, sk_lor, sk_ldiv, sk_lrem, sk_lneg, sk_lshl, sk_lshr, sk_i2l, sk_l2i, sk_lcmp, sk_dupI, sk_dupR, sk_dup2L, sk_dup2I, sk_popI, sk_ifeq, sk_ifne, sk_iflt, sk_ifge, sk_ifgt, sk_ifle, sk_iceq, sk_icne, sk_iclt, sk_icge, sk_icgt, sk_icle, sk_goto, sk_getf, sk_putf, sk_gets, sk_iald, sk_lald, sk_bald, sk_aald, sk_iast, sk_last, sk_bast, sk_aast, sk_alen, sk_newa, sk_newt, sk_new, sk_cs1, sk_cs2, sk_cs3, sk_cs4, sk_cs5, sk_cs6, sk_cv1, sk_cv2, sk_cv3, sk_cv4, sk_cv5, sk_cv6, sk_ci1, sk_ci2, sk_ci3, sk_ret0, sk_retI, sk_retL, sk_retR, sk_sw, sk_oin, sk_max, sk_min, sk_abs, lI_0, lI_s, lL_0, lL_s, lR_0, lR_s, vIo_e, vLo_e, vOo_e, stW_I, stW_L, stW_R, stW_0, stW_z, okSt_0, okSt_s, hV_eq, hK_eq, okF_0, okF_1, okF_3, is01_0, is01_1, is01_i, Int.toNat_natCast, Int.reduceEq, Int.reduceLE, Int.reduceLT, Int.reduceNeg, Nat.reduceLT, not_true_eq_false, not_false_eq_true, reduceIte, Option.toList, List.cons_append, List.nil_append, List.set_cons_zero, List.set_cons_succ, List.not_mem_nil, List.mem_cons, if_false, if_true, ite_true, ite_false, and_self, and_true, true_and, Nat.reduceAdd, Nat.reduceLeDiff, Nat.reduceEqDiff, Nat.zero_add, Nat.le_refl, Nat.zero_le, or_false, false_or, Int.reduceToNat, or_true, true_or, eq_self, and_false, false_and, inR_d, nc_4, nc_5, nc_6, nc_7, nc_8, nc_16, nc_18, nc_20, nc_24, nc_32, nc_40, nc_64, nc_104, nc_120, nc_160, nc_256, nc_300, nc_330, nc_390, nc_1200, nc_1260, nc_3012, nc_9834, okSt_1i, okSt_1r, okSt_1n, List.length_cons, List.length_nil, xpk_succ cd_245_0, xpk_succ cd_245_1, xpk_succ cd_245_2, xpk_succ cd_245_3, xpk_succ cd_245_6, xpk_succ cd_245_7, xpk_succ cd_245_8, xpk_succ cd_245_11, xpk_succ cd_245_12, xpk_succ cd_245_15, xpk_succ cd_245_16, xpk_succ cd_245_17, xpk_succ cd_245_26, xpk_succ cd_245_27, xpk_succ cd_245_28, xpk_succ cd_245_31, xpk_succ cd_245_32, xpk_succ cd_245_35, xpk_succ cd_245_36, xpk_succ cd_245_39, xpk_succ cd_245_40, xpk_succ cd_245_43, xpk_succ cd_245_44, o3, k1, k4, ex, hu, c1, c2]
          exact y0 _ hs
        · refine xpk_sound (stops := []) (n := 40) ?_
          simp only [sk_0, sk_1, sk_2, sk_3, sk_4, sk_5, sk_6, sk_7, sk_8, sk_iadd, sk_isub, sk_imul, sk_iand, sk_ior, sk_ixor, sk_ishl, sk_ishr, sk_iushr, sk_idiv, sk_irem, sk_ineg, sk_ladd, sk_lsub, sk_lmul, sk_land, sk_lor, sk_ldiv, sk_lrem, sk_lneg, sk_lshl, sk_lshr, sk_i2l, sk_l2i, sk_lcmp, sk_dupI, sk_dupR, sk_dup2L, sk_dup2I, sk_popI, sk_ifeq, sk_ifne, sk_iflt, sk_ifge, sk_ifgt, sk_ifle, sk_iceq, sk_icne, sk_iclt, sk_icge, sk_icgt, sk_icle, sk_goto, sk_getf, sk_putf, sk_gets, sk_iald, sk_lald, sk_bald, sk_aald, sk_iast, sk_last, sk_bast, sk_aast, sk_alen, sk_newa, sk_newt, sk_new, sk_cs1, sk_cs2, sk_cs3, sk_cs4, sk_cs5, sk_cs6, sk_cv1, sk_cv2, sk_cv3, sk_cv4, sk_cv5, sk_cv6, sk_ci1, sk_ci2, sk_ci3, sk_ret0, sk_retI, sk_retL, sk_retR, sk_sw, sk_oin, sk_max, sk_min, sk_abs, lI_0, lI_s, lL_0, lL_s, lR_0, lR_s, vIo_e, vLo_e, vOo_e, stW_I, stW_L, stW_R, stW_0, stW_z, okSt_0, okSt_s, hV_eq, hK_eq, okF_0, okF_1, okF_3, is01_0, is01_1, is01_i, Int.toNat_natCast, Int.reduceEq, Int.reduceLE, Int.reduceLT, Int.reduceNeg, Nat.reduceLT, not_true_eq_false, not_false_eq_true, reduceIte, Option.toList, List.cons_append, List.nil_append, List.set_cons_zero, List.set_cons_succ, List.not_mem_nil, List.mem_cons, if_false, if_true, ite_true, ite_false, and_self, and_true, true_and, Nat.reduceAdd, Nat.reduceLeDiff, Nat.reduceEqDiff, Nat.zero_add, Nat.le_refl, Nat.zero_le, or_false, false_or, Int.reduceToNat, or_true, true_or, eq_self, and_false, false_and, inR_d, nc_4, nc_5, nc_6, nc_7, nc_8, nc_16, nc_18, nc_20, nc_24, nc_32, nc_40, nc_64, nc_104, nc_120, nc_160, nc_256, nc_300, nc_330, nc_390, nc_1200, nc_1260, nc_3012, nc_9834, okSt_1i, okSt_1r, okSt_1n, List.length_cons, List.length_nil, xpk_succ cd_245_0, xpk_succ cd_245_1, xpk_succ cd_245_2, xpk_succ cd_245_3, xpk_succ cd_245_6, xpk_succ cd_245_7, xpk_succ cd_245_8, xpk_succ cd_245_11, xpk_succ cd_245_12, xpk_succ cd_245_15, xpk_succ cd_245_16, xpk_succ cd_245_17, xpk_succ cd_245_26, xpk_succ cd_245_27, xpk_succ cd_245_28, xpk_succ cd_245_31, xpk_succ cd_245_32, xpk_succ cd_245_35, xpk_succ cd_245_36, xpk_succ cd_245_39, xpk_succ cd_245_40, xpk_succ cd_245_43, xpk_succ cd_245_44, o3, k1, k4, ex, hu, c1, c2]
          exact y2 _ hs
      · refine xpk_sound (stops := []) (n := 40) ?_
        simp only [sk_0, sk_1, sk_2, sk_3, sk_4, sk_5, sk_6, sk_7, sk_8, sk_iadd, sk_isub, sk_imul, sk_iand, sk_ior, sk_ixor, sk_ishl, sk_ishr, sk_iushr, sk_idiv, sk_irem, sk_ineg, sk_ladd, sk_lsub, sk_lmul, sk_land, sk_lor, sk_ldiv, sk_lrem, sk_lneg, sk_lshl, sk_lshr, sk_i2l, sk_l2i, sk_lcmp, sk_dupI, sk_dupR, sk_dup2L, sk_dup2I, sk_popI, sk_ifeq, sk_ifne, sk_iflt, sk_ifge, sk_ifgt, sk_ifle, sk_iceq, sk_icne, sk_iclt, sk_icge, sk_icgt, sk_icle, sk_goto, sk_getf, sk_putf, sk_gets, sk_iald, sk_lald, sk_bald, sk_aald, sk_iast, sk_last, sk_bast, sk_aast, sk_alen, sk_newa, sk_newt, sk_new, sk_cs1, sk_cs2, sk_cs3, sk_cs4, sk_cs5, sk_cs6, sk_cv1, sk_cv2, sk_cv3, sk_cv4, sk_cv5, sk_cv6, sk_ci1, sk_ci2, sk_ci3, sk_ret0, sk_retI, sk_retL, sk_retR, sk_sw, sk_oin, sk_max, sk_min, sk_abs, lI_0, lI_s, lL_0, lL_s, lR_0, lR_s, vIo_e, vLo_e, vOo_e, stW_I, stW_L, stW_R, stW_0, stW_z, okSt_0, okSt_s, hV_eq, hK_eq, okF_0, okF_1, okF_3, is01_0, is01_1, is01_i, Int.toNat_natCast, Int.reduceEq, Int.reduceLE, Int.reduceLT, Int.reduceNeg, Nat.reduceLT, not_true_eq_false, not_false_eq_true, reduceIte, Option.toList, List.cons_append, List.nil_append, List.set_cons_zero, List.set_cons_succ, List.not_mem_nil, List.mem_cons, if_false, if_true, ite_true, ite_false, and_self, and_true, true_and, Nat.reduceAdd, Nat.reduceLeDiff, Nat.reduceEqDiff, Nat.zero_add, Nat.le_refl, Nat.zero_le, or_false, false_or, Int.reduceToNat, or_true, true_or, eq_self, and_false, false_and, inR_d, nc_4, nc_5, nc_6, nc_7, nc_8, nc_16, nc_18, nc_20, nc_24, nc_32, nc_40, nc_64, nc_104, nc_120, nc_160, nc_256, nc_300, nc_330, nc_390, nc_1200, nc_1260, nc_3012, nc_9834, okSt_1i, okSt_1r, okSt_1n, List.length_cons, List.length_nil, xpk_succ cd_245_0, xpk_succ cd_245_1, xpk_succ cd_245_2, xpk_succ cd_245_3, xpk_succ cd_245_6, xpk_succ cd_245_7, xpk_succ cd_245_8, xpk_succ cd_245_11, xpk_succ cd_245_12, xpk_succ cd_245_15, xpk_succ cd_245_16, xpk_succ cd_245_17, xpk_succ cd_245_26, xpk_succ cd_245_27, xpk_succ cd_245_28, xpk_succ cd_245_31, xpk_succ cd_245_32, xpk_succ cd_245_35, xpk_succ cd_245_36, xpk_succ cd_245_39, xpk_succ cd_245_40, xpk_succ cd_245_43, xpk_succ cd_245_44, o3, k1, k4, ex, hu, c1]
        exact y1 _ hs
    · obtain ⟨r, h', ⟨hs, u, rfl, z1, z2⟩, ew⟩ := XC_dt (X_wk (d := d + 3) hJ hW (T := j) (k := k) (by omega) hk (by omega) (by omega))
      have z0 : (0 : Int) ≤ (k : Int) := by omega
      by_cases c1 : u ≤ 0
      · by_cases c2 : 0 ≤ u
        · refine xpk_sound (stops := []) (n := 40) ?_
          simp only [sk_0, sk_1, sk_2, sk_3, sk_4, sk_5, sk_6, sk_7, sk_8, sk_iadd, sk_isub, sk_imul, sk_iand, sk_ior, sk_ixor, sk_ishl, sk_ishr, sk_iushr, sk_idiv, sk_irem, sk_ineg, sk_ladd, sk_lsub, sk_lmul, sk_land, sk_lor, sk_ldiv, sk_lrem, sk_lneg, sk_lshl, sk_lshr, sk_i2l, sk_l2i, sk_lcmp, sk_dupI, sk_dupR, sk_dup2L, sk_dup2I, sk_popI, sk_ifeq, sk_ifne, sk_iflt, sk_ifge, sk_ifgt, sk_ifle, sk_iceq, sk_icne, sk_iclt, sk_icge, sk_icgt, sk_icle, sk_goto, sk_getf, sk_putf, sk_gets, sk_iald, sk_lald, sk_bald, sk_aald, sk_iast, sk_last, sk_bast, sk_aast, sk_alen, sk_newa, sk_newt, sk_new, sk_cs1, sk_cs2, sk_cs3, sk_cs4, sk_cs5, sk_cs6, sk_cv1, sk_cv2, sk_cv3, sk_cv4, sk_cv5, sk_cv6, sk_ci1, sk_ci2, sk_ci3, sk_ret0, sk_retI, sk_retL, sk_retR, sk_sw, sk_oin, sk_max, sk_min, sk_abs, lI_0, lI_s, lL_0, lL_s, lR_0, lR_s, vIo_e, vLo_e, vOo_e, stW_I, stW_L, stW_R, stW_0, stW_z, okSt_0, okSt_s, hV_eq, hK_eq, okF_0, okF_1, okF_3, is01_0, is01_1, is01_i, Int.toNat_natCast, Int.reduceEq, Int.reduceLE, Int.reduceLT, Int.reduceNeg, Nat.reduceLT, not_true_eq_false, not_false_eq_true, reduceIte, Option.toList, List.cons_append, List.nil_append, List.set_cons_zero, List.set_cons_succ, List.not_mem_nil, List.mem_cons, if_false, if_true, ite_true, ite_false, and_self, and_true, true_and, Nat.reduceAdd, Nat.reduceLeDiff, Nat.reduceEqDiff, Nat.zero_add, Nat.le_refl, Nat.zero_le, or_false, false_or, Int.reduceToNat, or_true, true_or, eq_self, and_false, false_and, inR_d, nc_4, nc_5, nc_6, nc_7, nc_8, nc_16, nc_18, nc_20, nc_24, nc_32, nc_40, nc_64, nc_104, nc_120, nc_160, nc_256, nc_300, nc_330, nc_390, nc_1200, nc_1260, nc_3012, nc_9834, okSt_1i, okSt_1r, okSt_1n, List.length_cons, List.length_nil, xpk_succ cd_245_0, xpk_succ cd_245_1, xpk_succ cd_245_2, xpk_succ cd_245_3, xpk_succ cd_245_6, xpk_succ cd_245_7, xpk_succ cd_245_8, xpk_succ cd_245_20, xpk_succ cd_245_21, xpk_succ cd_245_22, xpk_succ cd_245_23, xpk_succ cd_245_26, xpk_succ cd_245_27, xpk_succ cd_245_28, xpk_succ cd_245_31, xpk_succ cd_245_32, xpk_succ cd_245_35, xpk_succ cd_245_36, xpk_succ cd_245_39, xpk_succ cd_245_40, xpk_succ cd_245_43, xpk_succ cd_245_44, k1, ex, z0, ew, c1, c2]
          exact y0 _ hs
        · refine xpk_sound (stops := []) (n := 40) ?_
          simp only [sk_0, sk_1, sk_2, sk_3, sk_4, sk_5, sk_6, sk_7, sk_8, sk_iadd, sk_isub, sk_imul, sk_iand, sk_ior, sk_ixor, sk_ishl, sk_ishr, sk_iushr, sk_idiv, sk_irem, sk_ineg, sk_ladd, sk_lsub, sk_lmul, sk_land, sk_lor, sk_ldiv, sk_lrem, sk_lneg, sk_lshl, sk_lshr, sk_i2l, sk_l2i, sk_lcmp, sk_dupI, sk_dupR, sk_dup2L, sk_dup2I, sk_popI, sk_ifeq, sk_ifne, sk_iflt, sk_ifge, sk_ifgt, sk_ifle, sk_iceq, sk_icne, sk_iclt, sk_icge, sk_icgt, sk_icle, sk_goto, sk_getf, sk_putf, sk_gets, sk_iald, sk_lald, sk_bald, sk_aald, sk_iast, sk_last, sk_bast, sk_aast, sk_alen, sk_newa, sk_newt, sk_new, sk_cs1, sk_cs2, sk_cs3, sk_cs4, sk_cs5, sk_cs6, sk_cv1, sk_cv2, sk_cv3, sk_cv4, sk_cv5, sk_cv6, sk_ci1, sk_ci2, sk_ci3, sk_ret0, sk_retI, sk_retL, sk_retR, sk_sw, sk_oin, sk_max, sk_min, sk_abs, lI_0, lI_s, lL_0, lL_s, lR_0, lR_s, vIo_e, vLo_e, vOo_e, stW_I, stW_L, stW_R, stW_0, stW_z, okSt_0, okSt_s, hV_eq, hK_eq, okF_0, okF_1, okF_3, is01_0, is01_1, is01_i, Int.toNat_natCast, Int.reduceEq, Int.reduceLE, Int.reduceLT, Int.reduceNeg, Nat.reduceLT, not_true_eq_false, not_false_eq_true, reduceIte, Option.toList, List.cons_append, List.nil_append, List.set_cons_zero, List.set_cons_succ, List.not_mem_nil, List.mem_cons, if_false, if_true, ite_true, ite_false, and_self, and_true, true_and, Nat.reduceAdd, Nat.reduceLeDiff, Nat.reduceEqDiff, Nat.zero_add, Nat.le_refl, Nat.zero_le, or_false, false_or, Int.reduceToNat, or_true, true_or, eq_self, and_false, false_and, inR_d, nc_4, nc_5, nc_6, nc_7, nc_8, nc_16, nc_18, nc_20, nc_24, nc_32, nc_40, nc_64, nc_104, nc_120, nc_160, nc_256, nc_300, nc_330, nc_390, nc_1200, nc_1260, nc_3012, nc_9834, okSt_1i, okSt_1r, okSt_1n, List.length_cons, List.length_nil, xpk_succ cd_245_0, xpk_succ cd_245_1, xpk_succ cd_245_2, xpk_succ cd_245_3, xpk_succ cd_245_6, xpk_succ cd_245_7, xpk_succ cd_245_8, xpk_succ cd_245_20, xpk_succ cd_245_21, xpk_succ cd_245_22, xpk_succ cd_245_23, xpk_succ cd_245_26, xpk_succ cd_245_27, xpk_succ cd_245_28, xpk_succ cd_245_31, xpk_succ cd_245_32, xpk_succ cd_245_35, xpk_succ cd_245_36, xpk_succ cd_245_39, xpk_succ cd_245_40, xpk_succ cd_245_43, xpk_succ cd_245_44, k1, ex, z0, ew, c1, c2]
          exact y2 _ hs
      · refine xpk_sound (stops := []) (n := 40) ?_
        simp only [sk_0, sk_1, sk_2, sk_3, sk_4, sk_5, sk_6, sk_7, sk_8, sk_iadd, sk_isub, sk_imul, sk_iand, sk_ior, sk_ixor, sk_ishl, sk_ishr, sk_iushr, sk_idiv, sk_irem, sk_ineg, sk_ladd, sk_lsub, sk_lmul, sk_land, sk_lor, sk_ldiv, sk_lrem, sk_lneg, sk_lshl, sk_lshr, sk_i2l, sk_l2i, sk_lcmp, sk_dupI, sk_dupR, sk_dup2L, sk_dup2I, sk_popI, sk_ifeq, sk_ifne, sk_iflt, sk_ifge, sk_ifgt, sk_ifle, sk_iceq, sk_icne, sk_iclt, sk_icge, sk_icgt, sk_icle, sk_goto, sk_getf, sk_putf, sk_gets, sk_iald, sk_lald, sk_bald, sk_aald, sk_iast, sk_last, sk_bast, sk_aast, sk_alen, sk_newa, sk_newt, sk_new, sk_cs1, sk_cs2, sk_cs3, sk_cs4, sk_cs5, sk_cs6, sk_cv1, sk_cv2, sk_cv3, sk_cv4, sk_cv5, sk_cv6, sk_ci1, sk_ci2, sk_ci3, sk_ret0, sk_retI, sk_retL, sk_retR, sk_sw, sk_oin, sk_max, sk_min, sk_abs, lI_0, lI_s, lL_0, lL_s, lR_0, lR_s, vIo_e, vLo_e, vOo_e, stW_I, stW_L, stW_R, stW_0, stW_z, okSt_0, okSt_s, hV_eq, hK_eq, okF_0, okF_1, okF_3, is01_0, is01_1, is01_i, Int.toNat_natCast, Int.reduceEq, Int.reduceLE, Int.reduceLT, Int.reduceNeg, Nat.reduceLT, not_true_eq_false, not_false_eq_true, reduceIte, Option.toList, List.cons_append, List.nil_append, List.set_cons_zero, List.set_cons_succ, List.not_mem_nil, List.mem_cons, if_false, if_true, ite_true, ite_false, and_self, and_true, true_and, Nat.reduceAdd, Nat.reduceLeDiff, Nat.reduceEqDiff, Nat.zero_add, Nat.le_refl, Nat.zero_le, or_false, false_or, Int.reduceToNat, or_true, true_or, eq_self, and_false, false_and, inR_d, nc_4, nc_5, nc_6, nc_7, nc_8, nc_16, nc_18, nc_20, nc_24, nc_32, nc_40, nc_64, nc_104, nc_120, nc_160, nc_256, nc_300, nc_330, nc_390, nc_1200, nc_1260, nc_3012, nc_9834, okSt_1i, okSt_1r, okSt_1n, List.length_cons, List.length_nil, xpk_succ cd_245_0, xpk_succ cd_245_1, xpk_succ cd_245_2, xpk_succ cd_245_3, xpk_succ cd_245_6, xpk_succ cd_245_7, xpk_succ cd_245_8, xpk_succ cd_245_20, xpk_succ cd_245_21, xpk_succ cd_245_22, xpk_succ cd_245_23, xpk_succ cd_245_26, xpk_succ cd_245_27, xpk_succ cd_245_28, xpk_succ cd_245_31, xpk_succ cd_245_32, xpk_succ cd_245_35, xpk_succ cd_245_36, xpk_succ cd_245_39, xpk_succ cd_245_40, xpk_succ cd_245_43, xpk_succ cd_245_44, k1, ex, z0, ew, c1]
        exact y1 _ hs
  refine XC_mono ?_ q0
  rintro r h' ⟨hs, g, rfl, g1, g2⟩
  exact hQ _ _ ⟨_, rfl, g, rfl, g1, g2⟩ hs.1 (fun q hq => by cases hq) (fun q hq => by cases hq) hs.2
