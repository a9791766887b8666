def ks204 : KT := ([.inl (.inr (.inr (some 76))), .inr (true, (-9223372036854775808), 9223372036854775807)], some (.inr (false, 0, 1)), [], [], [], [], [], 1)
theorem ks204e : chkE JB [] [] ks204 0 204 = true := by decide +kernel
theorem ks204o {β : Nat} : KOK JB (W0 β) 204 ks204 := KOK_of W0_f (CT := []) (cuts := []) trivial ks204e (fun cu h => by cases h) rfl
def ks204b : KT := ([.inl (.inr (.inr (some 76))), .inr (true, (-9223372036854775808), 9223372036854775807)], some (.inr (false, 0, 0)), [], [], [(76, 9, .inr (false, 0, 0))], [], [], 1)
theorem ks204c : chkE JB [] [] ks204b 0 204 = true := by decide +kernel
theorem ks204d {β : Nat} : KOK JB (W0 β) 204 ks204b := KOK_of W0_f (CT := []) (cuts := []) trivial ks204c (fun cu h => by cases h) rfl
def ks229 : KT := ([.inl (.inr (.inr (some 76)))], some (.inr (false, (-1), 11)), [], [], [], [], [], 7)
def cq229 : CTB := [(199, [ks199]), (200, [ks200]), (201, [ks201]), (202, [ks202]), (203, [ks203]), (204, [ks204])]
theorem ks229e : chkE JB cq229 [] ks229 6 229 = true := by decide +kernel
theorem ks229o {β : Nat} : KOK JB (W0 β) 229 ks229 := KOK_of W0_f (CT := cq229) (cuts := []) ⟨⟨ks199o, trivial⟩, ⟨ks200o, trivial⟩, ⟨ks201o, trivial⟩, ⟨ks202o, trivial⟩, ⟨ks203o, trivial⟩, ⟨ks204o, trivial⟩, trivial⟩ ks229e (fun cu h => by cases h) rfl
def ks229b : KT := ([.inl (.inr (.inr (some 76)))], some (.inr (false, (-1), (-1))), [], [], [(76, 9, .inr (false, 0, 0))], [], [], 7)
def cq229b : CTB := [(199, [ks199]), (200, [ks200]), (201, [ks201]), (202, [ks202]), (203, [ks203]), (204, [ks204b])]
theorem ks229c : chkE JB cq229b [] ks229b 6 229 = true := by decide +kernel
theorem ks229d {β : Nat} : KOK JB (W0 β) 229 ks229b := KOK_of W0_f (CT := cq229b) (cuts := []) ⟨⟨ks199o, trivial⟩, ⟨ks200o, trivial⟩, ⟨ks201o, trivial⟩, ⟨ks202o, trivial⟩, ⟨ks203o, trivial⟩, ⟨ks204d, trivial⟩, trivial⟩ ks229c (fun cu h => by cases h) rfl
theorem X_so {β d : Nat} {h : AH} {tk : Int} (hJ : k_H JB h) (hW : W0 β h) (r4 : hV h 76 9 = vI tk) : ∃ z : Int, (-1 ≤ z ∧ z ≤ 11) ∧ (0 ≤ z → tk ≠ 0) ∧ ∀ Q : Option AV → AH → Prop, XC (d + 7) 229 [vR 76] h Q = Q (some (vI z)) h := by
  by_cases c1 : tk = 0
  · subst c1
    obtain ⟨v, ⟨z, rfl, z1, z2⟩, e⟩ := X_pure (d := d + 6) (vs := [vR 76]) (ks229d (β := β)) (by show 7 ≤ d + 6 + 1; omega) ⟨_, _, rfl, rfl, rfl⟩ hJ hW (fun f hf => by
      rcases List.mem_cons.mp hf with rfl | hf
      · exact ⟨0, r4, by decide, by decide⟩
      · cases hf) rfl rfl
    have z1 : (-1 : Int) ≤ z := z1
    have z2 : z ≤ -1 := z2
    exact ⟨z, by omega, fun q => by omega, e⟩
  · obtain ⟨v, ⟨z, rfl, z1, z2⟩, e⟩ := X_pure (d := d + 6) (vs := [vR 76]) (ks229o (β := β)) (by show 7 ≤ d + 6 + 1; omega) ⟨_, _, rfl, rfl, rfl⟩ hJ hW (fun f hf => by cases hf) rfl rfl
    exact ⟨z, ⟨z1, z2⟩, fun _ => c1, e⟩
def ks185 : KT := ([.inr (false, 0, 31), .inr (false, 0, 4)], some (.inr (false, 0, 1)), [], [], [], [], [], 1)
theorem ks185e : chkE JB [] [] ks185 0 185 = true := by decide +kernel
theorem ks185o {β : Nat} : KOK JB (W0 β) 185 ks185 := KOK_of W0_f (CT := []) (cuts := []) trivial ks185e (fun cu h => by cases h) rfl
theorem X_ha {β d : Nat} {h : AH} {x y : Int} (hJ : k_H JB h) (hW : W0 β h) (hx : 0 ≤ x ∧ x ≤ 31) (hy : 0 ≤ y ∧ y ≤ 4) : ∃ z : Int, (z = 0 ∨ z = 1) ∧ ∀ Q : Option AV → AH → Prop, XC (d + 1) 185 [vI x, vI y] h Q = Q (some (vI z)) h := by
  obtain ⟨v, ⟨z, rfl, z1, z2⟩, e⟩ := X_pure (d := d) (vs := [vI x, vI y]) (ks185o (β := β)) (by show 1 ≤ d + 1; omega) ⟨_, _, rfl, ⟨x, rfl, hx⟩, _, _, rfl, ⟨y, rfl, hy⟩, rfl⟩ hJ hW (fun f hf => by cases hf) rfl rfl
  have z1 : (0 : Int) ≤ z := z1
  have z2 : z ≤ 1 := z2
  exact ⟨z, by omega, e⟩
theorem on_31 : ∀ o : Fin 32, ∀ s : Fin 5, 0 ≤ ior (o.val : Int) (ishl 1 (s.val : Int)) ∧ ior (o.val : Int) (ishl 1 (s.val : Int)) ≤ 31 := by decide +kernel
theorem on_b {x y : Int} (hx : 0 ≤ x ∧ x ≤ 31) (hy : 0 ≤ y ∧ y ≤ 4) : 0 ≤ ior x (ishl 1 y) ∧ ior x (ishl 1 y) ≤ 31 := by
  obtain ⟨a, rfl⟩ := Int.eq_ofNat_of_zero_le hx.1
  obtain ⟨b, rfl⟩ := Int.eq_ofNat_of_zero_le hy.1
  exact on_31 ⟨a, by omega⟩ ⟨b, by omega⟩
theorem CDK_g {g g' : Nat → AV} {p a b : Nat} (hg : ∀ i, i < b → ∀ x, x < 2 → g' (p + 2 * i + x) = g (p + 2 * i + x)) (h : CDK g p a b) : CDK g' p a b := by
  obtain ⟨c1, c2, c3, c4⟩ := h
  refine ⟨c1, c2, ?_, fun i i1 i2 => ?_⟩
  · rw [dpt_g (b - a) (fun i hi => hg (a + i) (by omega) 0 (by decide))]; exact c3
  · have q0 : g' (p + 2 * i) = g (p + 2 * i) := hg i i2 0 (by decide)
    rw [q0, hg i i2 1 (by decide)]; exact c4 i i1 i2
theorem ix_n {J j k i : Nat} (hj : j < 4) (hJ : J < 4) (hk : k < 24) (hi : i < 6) : 753 * j + 1 + 6 * k + i ≠ 753 * J := by rcases Nat.lt_trichotomy j J with h | h | h <;> omega
theorem ix_m {J j i x : Nat} (hj : j < 4) (hJ : J < 4) (hi : i < 303) (hx : x < 2) : 753 * j + 145 + 2 * i + x ≠ 753 * J := by rcases Nat.lt_trichotomy j J with h | h | h <;> omega
/-- one clause more -/
theorem TX_inc {g g' : Nat → AV} {J n w : Nat} (hJ : J < 4) (hn : n < 24) (hc : ofI (g (753 * J)) = (n : Int)) (h : TXw g J w) (hl : CLx g J n w) (h1 : ∀ i, i ≠ 753 * J → g' i = g i) (h2 : g' (753 * J) = vI ((n + 1 : Nat) : Int)) : TXw g' J w := by
  intro j hj k hk hk2 s0 s4
  have row : ∀ i, i < 6 → g' (753 * j + 1 + 6 * k + i) = g (753 * j + 1 + 6 * k + i) := fun i hi => h1 _ (ix_n hj hJ hk2 hi)
  have r0 : g' (753 * j + 1 + 6 * k) = g (753 * j + 1 + 6 * k) := row 0 (by decide)
  have cg : ∀ b, b ≤ 303 → ∀ i, i < b → ∀ x, x < 2 → g' (753 * j + 145 + 2 * i + x) = g (753 * j + 145 + 2 * i + x) := fun b hb i hi x hx => h1 _ (ix_m hj hJ (by omega) hx)
  rw [r0] at s0 s4
  by_cases e : j = J ∧ k = n
  · obtain ⟨rfl, rfl⟩ := e
    obtain ⟨a, b, e1, e2, e3, e4⟩ := hl s0 s4
    exact ⟨a, b, by rw [row 1 (by decide)]; exact e1, by rw [row 2 (by decide)]; exact e2, CDK_g (cg b e3.2.1) e3, fun _ => e4⟩
  · have hk3 : (k : Int) < ofI (g (753 * j)) := by
      by_cases z : j = J
      · subst z
        rw [h2] at hk
        have hk : (k : Int) < ((n + 1 : Nat) : Int) := hk
        rw [hc]
        have : k ≠ n := fun q => e ⟨rfl, q⟩
        omega
      · rw [h1 _ (by omega)] at hk; exact hk
    obtain ⟨a, b, e1, e2, e3, e4⟩ := h j hj k hk3 hk2 s0 s4
    exact ⟨a, b, by rw [row 1 (by decide)]; exact e1, by rw [row 2 (by decide)]; exact e2, CDK_g (cg b e3.2.1) e3, e4⟩
/-- a field of the reader's -/
theorem CS_f {β J n w a i : Nat} {h0 h : AH} {tk : Int} {v : AV} {q : Bool × Int × Int} (hs : CSx β J n h0 h w a tk) (h1 : i = 14 ∨ i = 19) (hq : jW2 76 i q = true) (hv : inRg q v) : CSx β J n h0 (hSet h 76 i v) w a tk := by
  obtain ⟨s1, ⟨r1, r2, r3, r4⟩, s3, s4⟩ := hs
  have e : ∀ j, hV (hSet h 76 i v) 79 j = hV h 79 j := fun j => by rw [hV_eq, if_neg (fun y => absurd y.1 (by decide))]
  exact ⟨ST_f s1 (by omega) (by omega) hq hv, ⟨(f_set (by omega)).trans r1, (f_set (by omega)).trans r2, (f_set (by omega)).trans r3, (f_set (by omega)).trans r4⟩, by rw [e]; exact s3, by rw [gT_e e]; exact s4⟩
theorem cl_n {J n : Nat} (hJ : J < 4) (hn : n < 24) : w32 (((753 * J : Nat) : Int) + 1) = ((753 * J + 1 : Nat) : Int) ∧ w32 (6 * (n : Int)) = ((6 * n : Nat) : Int) ∧ w32 (((753 * J + 1 : Nat) : Int) + ((6 * n : Nat) : Int)) = ((753 * J + 1 + 6 * n : Nat) : Int) ∧ ((0 : Int) ≤ ((753 * J + 1 + 6 * n : Nat) : Int) ∧ ((753 * J + 1 + 6 * n : Nat) : Int) < 3012) ∧ w32 ((n : Int) + 1) = ((n + 1 : Nat) : Int) ∧ ((0 : Int) ≤ ((753 * J : Nat) : Int) ∧ ((753 * J : Nat) : Int) < 3012) ∧ 753 * J ≤ 3012 := by
  refine ⟨by unfold w32; omega, by unfold w32; omega, by unfold w32; omega, by omega, by unfold w32; omega, by omega, by omega⟩
def CLe (β J : Nat) (h0 : AH) (μ : Nat) (r : Option AV) (h' : AH) : Prop := ∃ f : Int, r = some (vI f) ∧ ((1 ≤ f ∧ f ≤ 6 ∧ STo β mdR h0 h') ∨ (f = 0 ∧ ∃ n w a tk, n ≤ 24 ∧ CSx β J n h0 h' w a tk ∧ w + tz tk ≤ a ∧ a ≤ 300 ∧ 2 * (301 - a) + tz tk < μ))
theorem CL_f {β J : Nat} {h0 : AH} {μ : Nat} {h' : AH} {f : Int} (hf : 1 ≤ f ∧ f ≤ 6) (hs : STo β mdR h0 h') : CLe β J h0 μ (some (vI f)) h' := ⟨f, rfl, Or.inl ⟨hf.1, hf.2, hs⟩⟩
set_option maxHeartbeats 2000000 in
theorem cl_65 {β J n d w a : Nat} {h0 h : AH} {tk s : Int} {l3 l4 : Option AV} (hJ : J < 4) (hn : n < 24) (hs : CSx β J n h0 h w a tk) (hw : w + tz tk ≤ a) (ha : a ≤ 300) (ht : tk ≠ 0) (h1 : 0 ≤ s ∧ s ≤ 11) : XP (d + 12) 230 65 [some (vR 76), some (vI s), some (vI (n : Int)), none, none] [] h (CLe β J h0 (2 * (301 - a) + tz tk)) := by
  obtain ⟨s1, ⟨r1, r2, r3, r4⟩, s3, s4⟩ := id hs
  obtain ⟨-, k1, -⟩ := rdF s1.1
  obtain ⟨a1, a2, a3, b3, a4, b4, b5⟩ := cl_n hJ hn
  have t1 := CS_f (i := 14) (v := vI s) hs (Or.inl rfl) jr76.2.2.2.2.2.2.2.1 ⟨s, rfl, Int.le_trans (by decide) h1.1, h1.2⟩
  obtain ⟨r, h2, ⟨rfl, n1, a', tk', n2, n3, n4, n5, n6, n7, n8⟩, E1⟩ := XC_dt (X_nt (d := d + 10) t1.1.1 t1.1.2.1.2 t1.2.1.2.2.1 ha)
  have t2 := CS_nt t1 n1 n2 n3
  have l1 := (rdF t1.1.1).2.1
  obtain ⟨⟨i2, -⟩, j1, j2, -⟩ := rdF t2.1.1
  have v12 := t2.2.1.1
  have mu := mu_d ht n4 n6 n5
  have bu := bd_d (w_tz hw) n4 n6
  have sr : -2147483648 ≤ s ∧ s ≤ 2147483647 := i32_99 h1.1 (Int.le_trans h1.2 (by decide))
  have t3 := CS_r (i := 0) (x := s) t2 hJ hn (by decide) sr
  have vx : hV (hSet h2 79 (753 * J + 1 + 6 * n) (vI s)) 79 (753 * J + 1 + 6 * n) = vI s := f_at
  have t3 : CSx β J n h0 (hSet h2 79 (753 * J + 1 + 6 * n) (vI s)) w a' tk' := t3
  obtain ⟨-, m1, -⟩ := rdF t3.1.1
  obtain ⟨r, h4, ⟨f, rfl, q⟩, E3⟩ := XC_dt (X_bo (d := d) hJ hn t3 bu n5 vx h1)
  rcases q with ⟨q1, q2, q3⟩ | ⟨rfl, w', a2', tk2, q2, q3, q4, q5, q6⟩
  · have fz := f_nz q1
    have y : CLe β J h0 (2 * (301 - a) + tz tk) (some (vI f)) h4 := CL_f ⟨q1, q2⟩ q3
    refine xpk_sound (stops := []) (n := 80) ?_
    simp only [sk_0, sk_1, sk_2, sk_3, sk_4, sk_5, sk_6, sk_7, sk_8, sk_iadd, sk_isub, sk_imul, sk_iand, sk_ior, sk_ixor, sk_ishl, sk_ishr, sk_iushr, sk_idiv, sk_irem, sk_ineg, sk_ladd, sk_lsub, sk_lmul, sk_land, sk_lor, sk_ldiv, sk_lrem, sk_lneg, sk_lshl, sk_lshr, sk_i2l, sk_l2i, sk_lcmp, sk_dupI, sk_dupR, sk_dup2L, sk_dup2I, sk_popI, sk_ifeq, sk_ifne, sk_iflt, sk_ifge, sk_ifgt, sk_ifle, sk_iceq, sk_icne, sk_iclt, sk_icge, sk_icgt, sk_icle, sk_goto, sk_getf, sk_putf, sk_gets, sk_iald, sk_lald, sk_bald, sk_aald, sk_iast, sk_last, sk_bast, sk_aast, sk_alen, sk_newa, sk_newt, sk_new, sk_cs1, sk_cs2, sk_cs3, sk_cs4, sk_cs5, sk_cs6, sk_cv1, sk_cv2, sk_cv3, sk_cv4, sk_cv5, sk_cv6, sk_ci1, sk_ci2, sk_ci3, sk_ret0, sk_retI, sk_retL, sk_retR, sk_sw, sk_oin, sk_max, sk_min, sk_abs, lI_0, lI_s, lL_0, lL_s, lR_0, lR_s, vIo_e, vLo_e, vOo_e, stW_I, stW_L, stW_R, stW_0, stW_z, okSt_0, okSt_s, hV_eq, hK_eq, okF_0, okF_1, okF_3, is01_0, is01_1, is01_i, Int.toNat_natCast, Int.reduceEq, Int.reduceLE, Int.reduceLT, Int.reduceNeg, Nat.reduceLT, not_true_eq_false, not_false_eq_true, reduceIte, Option.toList, List.cons_append, List.nil_append, List.set_cons_zero, List.set_cons_succ, List.not_mem_nil, List.mem_cons, if_false, if_true, ite_true, ite_false, and_self, and_true, true_and, Nat.reduceAdd, Nat.reduceLeDiff, Nat.reduceEqDiff, Nat.zero_add, Nat.le_refl, Nat.zero_le, or_false, false_or, Int.reduceToNat, or_true, true_or, eq_self, and_false, false_and, inR_d, nc_4, nc_5, nc_6, nc_7, nc_8, nc_16, nc_18, nc_20, nc_24, nc_32, nc_40, nc_64, nc_104, nc_120, nc_160, nc_256, nc_300, nc_330, nc_390, nc_1200, nc_1260, nc_3012, nc_9834, okSt_1i, okSt_1r, okSt_1n, List.length_cons, List.length_nil, xpk_succ cd_230_65, xpk_succ cd_230_66, xpk_succ cd_230_67, xpk_succ cd_230_70, xpk_succ cd_230_71, xpk_succ cd_230_74, xpk_succ cd_230_75, xpk_succ cd_230_78, xpk_succ cd_230_79, xpk_succ cd_230_80, xpk_succ cd_230_82, xpk_succ cd_230_83, xpk_succ cd_230_84, xpk_succ cd_230_85, xpk_succ cd_230_86, xpk_succ cd_230_87, xpk_succ cd_230_90, xpk_succ cd_230_91, xpk_succ cd_230_92, xpk_succ cd_230_93, xpk_succ cd_230_94, xpk_succ cd_230_95, xpk_succ cd_230_96, xpk_succ cd_230_99, xpk_succ cd_230_101, xpk_succ cd_230_103, xpk_succ cd_230_106, xpk_succ cd_230_108, k1, E1, l1, j1, j2, i2, v12, a1, a2, a3, b3, m1, E3, fz]
    exact y
  · obtain ⟨z1, ⟨z2, z3, z4, z5⟩, z6, z7⟩ := id q2
    obtain ⟨⟨p2, -⟩, p4, p5, -⟩ := rdF z1.1
    have tx : TXw (gT (hSet h4 79 (753 * J) (vI ((n + 1 : Nat) : Int)))) J w' := TX_inc hJ hn (by rw [gT_v b5, z6]; rfl) z7 q6 (fun i hi => gT_set hi) (gT_at b5)
    have st := ST_79 (x := ((n + 1 : Nat) : Int)) z1 b5 (by omega) (Or.inr (by omega)) (TXw_T tx)
    have f76 : ∀ j, hV (hSet h4 79 (753 * J) (vI ((n + 1 : Nat) : Int))) 76 j = hV h4 76 j := fun j => by rw [hV_eq, if_neg (fun y => absurd y.1 (by decide))]
    have t5 : CSx β J (n + 1) h0 (hSet h4 79 (753 * J) (vI ((n + 1 : Nat) : Int))) w' a2' tk2 := ⟨st, ⟨by rw [f76]; exact z2, by rw [f76]; exact z3, by rw [f76]; exact z4, by rw [f76]; exact z5⟩, f_at, tx⟩
    by_cases c1 : tk2 = 59
    · subst c1
      obtain ⟨r, h6, ⟨rfl, g1, a6, tk6, g2, g3, g4, g5, g6, g7, g8⟩, E4⟩ := XC_dt (X_nt (d := d + 10) t5.1.1 t5.1.2.1.2 t5.2.1.2.2.1 q4)
      have t6 := CS_nt t5 g1 g2 g3
      obtain ⟨-, l6, -⟩ := rdF t5.1.1
      have mu2 := mu_d (tk := 59) (by decide) g4 g6 g5
      have y : CLe β J h0 (2 * (301 - a) + tz tk) (some (vI 0)) h6 := ⟨0, rfl, Or.inr ⟨rfl, n + 1, w', a6, tk6, hn, t6, bd_d (w_tz q3) g4 g6, g5, Nat.lt_trans (Nat.lt_of_lt_of_le mu2 q5) mu⟩⟩
      refine xpk_sound (stops := []) (n := 80) ?_
      simp only [sk_0, sk_1, sk_2, sk_3, sk_4, sk_5, sk_6, sk_7, sk_8, sk_iadd, sk_isub, sk_imul, sk_iand, sk_ior, sk_ixor, sk_ishl, sk_ishr, sk_iushr, sk_idiv, sk_irem, sk_ineg, sk_ladd, sk_lsub, sk_lmul, sk_land, sk_lor, sk_ldiv, sk_lrem, sk_lneg, sk_lshl, sk_lshr, sk_i2l, sk_l2i, sk_lcmp, sk_dupI, sk_dupR, sk_dup2L, sk_dup2I, sk_popI, sk_ifeq, sk_ifne, sk_iflt, sk_ifge, sk_ifgt, sk_ifle, sk_iceq, sk_icne, sk_iclt, sk_icge, sk_icgt, sk_icle, sk_goto, sk_getf, sk_putf, sk_gets, sk_iald, sk_lald, sk_bald, sk_aald, sk_iast, sk_last, sk_bast, sk_aast, sk_alen, sk_newa, sk_newt, sk_new, sk_cs1, sk_cs2, sk_cs3, sk_cs4, sk_cs5, sk_cs6, sk_cv1, sk_cv2, sk_cv3, sk_cv4, sk_cv5, sk_cv6, sk_ci1, sk_ci2, sk_ci3, sk_ret0, sk_retI, sk_retL, sk_retR, sk_sw, sk_oin, sk_max, sk_min, sk_abs, lI_0, lI_s, lL_0, lL_s, lR_0, lR_s, vIo_e, vLo_e, vOo_e, stW_I, stW_L, stW_R, stW_0, stW_z, okSt_0, okSt_s, hV_eq, hK_eq, okF_0, okF_1, okF_3, is01_0, is01_1, is01_i, Int.toNat_natCast, Int.reduceEq, Int.reduceLE, Int.reduceLT, Int.reduceNeg, Nat.reduceLT, not_true_eq_false, not_false_eq_true, reduceIte, Option.toList, List.cons_append, List.nil_append, List.set_cons_zero, List.set_cons_succ, List.not_mem_nil, List.mem_cons, if_false, if_true, ite_true, ite_false, and_self, and_true, true_and, Nat.reduceAdd, Nat.reduceLeDiff, Nat.reduceEqDiff, Nat.zero_add, Nat.le_refl, Nat.zero_le, or_false, false_or, Int.reduceToNat, or_true, true_or, eq_self, and_false, false_and, inR_d, nc_4, nc_5, nc_6, nc_7, nc_8, nc_16, nc_18, nc_20, nc_24, nc_32, nc_40, nc_64, nc_104, nc_120, nc_160, nc_256, nc_300, nc_330, nc_390, nc_1200, nc_1260, nc_3012, nc_9834, okSt_1i, okSt_1r, okSt_1n, List.length_cons, List.length_nil, xpk_succ cd_230_65, xpk_succ cd_230_66, xpk_succ cd_230_67, xpk_succ cd_230_70, xpk_succ cd_230_71, xpk_succ cd_230_74, xpk_succ cd_230_75, xpk_succ cd_230_78, xpk_succ cd_230_79, xpk_succ cd_230_80, xpk_succ cd_230_82, xpk_succ cd_230_83, xpk_succ cd_230_84, xpk_succ cd_230_85, xpk_succ cd_230_86, xpk_succ cd_230_87, xpk_succ cd_230_90, xpk_succ cd_230_91, xpk_succ cd_230_92, xpk_succ cd_230_93, xpk_succ cd_230_94, xpk_succ cd_230_95, xpk_succ cd_230_96, xpk_succ cd_230_99, xpk_succ cd_230_101, xpk_succ cd_230_103, xpk_succ cd_230_106, xpk_succ cd_230_108, xpk_succ cd_230_109, xpk_succ cd_230_110, xpk_succ cd_230_113, xpk_succ cd_230_114, xpk_succ cd_230_117, xpk_succ cd_230_118, xpk_succ cd_230_119, xpk_succ cd_230_120, xpk_succ cd_230_121, xpk_succ cd_230_122, xpk_succ cd_230_123, xpk_succ cd_230_126, xpk_succ cd_230_128, xpk_succ cd_230_131, xpk_succ cd_230_132, xpk_succ cd_230_133, xpk_succ cd_230_134, xpk_succ cd_230_137, xpk_succ cd_230_138, k1, E1, l1, j1, j2, i2, v12, a1, a2, a3, b3, m1, E3, p2, p4, p5, z2, z6, b4, a4, z5, l6, E4]
      exact y
    · have y : CLe β J h0 (2 * (301 - a) + tz tk) (some (vI 1)) (hSet h4 79 (753 * J) (vI ((n + 1 : Nat) : Int))) := CL_f (by decide) st
      refine xpk_sound (stops := []) (n := 80) ?_
      simp only [sk_0, sk_1, sk_2, sk_3, sk_4, sk_5, sk_6, sk_7, sk_8, sk_iadd, sk_isub, sk_imul, sk_iand, sk_ior, sk_ixor, sk_ishl, sk_ishr, sk_iushr, sk_idiv, sk_irem, sk_ineg, sk_ladd, sk_lsub, sk_lmul, sk_land, sk_lor, sk_ldiv, sk_lrem, sk_lneg, sk_lshl, sk_lshr, sk_i2l, sk_l2i, sk_lcmp, sk_dupI, sk_dupR, sk_dup2L, sk_dup2I, sk_popI, sk_ifeq, sk_ifne, sk_iflt, sk_ifge, sk_ifgt, sk_ifle, sk_iceq, sk_icne, sk_iclt, sk_icge, sk_icgt, sk_icle, sk_goto, sk_getf, sk_putf, sk_gets, sk_iald, sk_lald, sk_bald, sk_aald, sk_iast, sk_last, sk_bast, sk_aast, sk_alen, sk_newa, sk_newt, sk_new, sk_cs1, sk_cs2, sk_cs3, sk_cs4, sk_cs5, sk_cs6, sk_cv1, sk_cv2, sk_cv3, sk_cv4, sk_cv5, sk_cv6, sk_ci1, sk_ci2, sk_ci3, sk_ret0, sk_retI, sk_retL, sk_retR, sk_sw, sk_oin, sk_max, sk_min, sk_abs, lI_0, lI_s, lL_0, lL_s, lR_0, lR_s, vIo_e, vLo_e, vOo_e, stW_I, stW_L, stW_R, stW_0, stW_z, okSt_0, okSt_s, hV_eq, hK_eq, okF_0, okF_1, okF_3, is01_0, is01_1, is01_i, Int.toNat_natCast, Int.reduceEq, Int.reduceLE, Int.reduceLT, Int.reduceNeg, Nat.reduceLT, not_true_eq_false, not_false_eq_true, reduceIte, Option.toList, List.cons_append, List.nil_append, List.set_cons_zero, List.set_cons_succ, List.not_mem_nil, List.mem_cons, if_false, if_true, ite_true, ite_false, and_self, and_true, true_and, Nat.reduceAdd, Nat.reduceLeDiff, Nat.reduceEqDiff, Nat.zero_add, Nat.le_refl, Nat.zero_le, or_false, false_or, Int.reduceToNat, or_true, true_or, eq_self, and_false, false_and, inR_d, nc_4, nc_5, nc_6, nc_7, nc_8, nc_16, nc_18, nc_20, nc_24, nc_32, nc_40, nc_64, nc_104, nc_120, nc_160, nc_256, nc_300, nc_330, nc_390, nc_1200, nc_1260, nc_3012, nc_9834, okSt_1i, okSt_1r, okSt_1n, List.length_cons, List.length_nil, xpk_succ cd_230_65, xpk_succ cd_230_66, xpk_succ cd_230_67, xpk_succ cd_230_70, xpk_succ cd_230_71, xpk_succ cd_230_74, xpk_succ cd_230_75, xpk_succ cd_230_78, xpk_succ cd_230_79, xpk_succ cd_230_80, xpk_succ cd_230_82, xpk_succ cd_230_83, xpk_succ cd_230_84, xpk_succ cd_230_85, xpk_succ cd_230_86, xpk_succ cd_230_87, xpk_succ cd_230_90, xpk_succ cd_230_91, xpk_succ cd_230_92, xpk_succ cd_230_93, xpk_succ cd_230_94, xpk_succ cd_230_95, xpk_succ cd_230_96, xpk_succ cd_230_99, xpk_succ cd_230_101, xpk_succ cd_230_103, xpk_succ cd_230_106, xpk_succ cd_230_108, xpk_succ cd_230_109, xpk_succ cd_230_110, xpk_succ cd_230_113, xpk_succ cd_230_114, xpk_succ cd_230_117, xpk_succ cd_230_118, xpk_succ cd_230_119, xpk_succ cd_230_120, xpk_succ cd_230_121, xpk_succ cd_230_122, xpk_succ cd_230_123, xpk_succ cd_230_126, xpk_succ cd_230_128, xpk_succ cd_230_131, xpk_succ cd_230_132, xpk_succ cd_230_133, xpk_succ cd_230_134, xpk_succ cd_230_137, xpk_succ cd_230_138, k1, E1, l1, j1, j2, i2, v12, a1, a2, a3, b3, m1, E3, p2, p4, p5, z2, z6, b4, a4, z5, c1]
      exact y
theorem jf19 : jF2 76 19 (false, 0, 31) = true := by decide +kernel
theorem n_24 {n : Nat} (h : n ≤ 24) (h2 : n ≠ 24) : n < 24 ∧ ¬ (n : Int) = 24 := by omega
set_option maxHeartbeats 2000000 in
theorem X_cl2 {β J n d w a : Nat} {h0 h : AH} {tk : Int} (hJ : J < 4) (hn : n ≤ 24) (hs : CSx β J n h0 h w a tk) (hw : w + tz tk ≤ a) (ha : a ≤ 300) : XC (d + 13) 230 [vR 76] h (CLe β J h0 (2 * (301 - a) + tz tk)) := by
  obtain ⟨s1, ⟨r1, r2, r3, r4⟩, s3, s4⟩ := id hs
  obtain ⟨⟨o2, o3, o4, o5⟩, k1, k2, k3, k4, k5⟩ := rdF s1.1
  obtain ⟨on, hon, on1, on2⟩ : ∃ y, hV h 76 19 = vI y ∧ (0 : Int) ≤ y ∧ y ≤ 31 := jF2_s s1.1 jf19
  have b4 : ((0 : Int) ≤ ((753 * J : Nat) : Int) ∧ ((753 * J : Nat) : Int) < 3012) := by omega
  obtain ⟨z, hz, ht, E1⟩ := X_so (d := d + 5) s1.1 s1.2.1.2 r4
  refine XC_of (Nat.le_of_ble_eq_true rfl) ?_
  show XP (d + 12) 230 0 [some (vR 76), none, none, none, none] [] h _
  by_cases c1 : 0 ≤ z
  · have ht := ht c1
    by_cases c2 : 4 < z
    · by_cases c3 : n = 24
      · subst c3
        have s3 : hV h 79 (753 * J) = vI 24 := s3
        have y : CLe β J h0 (2 * (301 - a) + tz tk) (some (vI 6)) h := CL_f (by decide) s1
        refine xpk_sound (stops := []) (n := 80) ?_
        simp only [sk_0, sk_1, sk_2, sk_3, sk_4, sk_5, sk_6, sk_7, sk_8, sk_iadd, sk_isub, sk_imul, sk_iand, sk_ior, sk_ixor, sk_ishl, sk_ishr, sk_iushr, sk_idiv, sk_irem, sk_ineg, sk_ladd, sk_lsub, sk_lmul, sk_land, sk_lor, sk_ldiv, sk_lrem, sk_lneg, sk_lshl, sk_lshr, sk_i2l, sk_l2i, sk_lcmp, sk_dupI, sk_dupR, sk_dup2L, sk_dup2I, sk_popI, sk_ifeq, sk_ifne, sk_iflt, sk_ifge, sk_ifgt, sk_ifle, sk_iceq, sk_icne, sk_iclt, sk_icge, sk_icgt, sk_icle, sk_goto, sk_getf, sk_putf, sk_gets, sk_iald, sk_lald, sk_bald, sk_aald, sk_iast, sk_last, sk_bast, sk_aast, sk_alen, sk_newa, sk_newt, sk_new, sk_cs1, sk_cs2, sk_cs3, sk_cs4, sk_cs5, sk_cs6, sk_cv1, sk_cv2, sk_cv3, sk_cv4, sk_cv5, sk_cv6, sk_ci1, sk_ci2, sk_ci3, sk_ret0, sk_retI, sk_retL, sk_retR, sk_sw, sk_oin, sk_max, sk_min, sk_abs, lI_0, lI_s, lL_0, lL_s, lR_0, lR_s, vIo_e, vLo_e, vOo_e, stW_I, stW_L, stW_R, stW_0, stW_z, okSt_0, okSt_s, hV_eq, hK_eq, okF_0, okF_1, okF_3, is01_0, is01_1, is01_i, Int.toNat_natCast, Int.reduceEq, Int.reduceLE, Int.reduceLT, Int.reduceNeg, Nat.reduceLT, not_true_eq_false, not_false_eq_true, reduceIte, Option.toList, List.cons_append, List.nil_append, List.set_cons_zero, List.set_cons_succ, List.not_mem_nil, List.mem_cons, if_false, if_true, ite_true, ite_false, and_self, and_true, true_and, Nat.reduceAdd, Nat.reduceLeDiff, Nat.reduceEqDiff, Nat.zero_add, Nat.le_refl, Nat.zero_le, or_false, false_or, Int.reduceToNat, or_true, true_or, eq_self, and_false, false_and, inR_d, nc_4, nc_5, nc_6, nc_7, nc_8, nc_16, nc_18, nc_20, nc_24, nc_32, nc_40, nc_64, nc_104, nc_120, nc_160, nc_256, nc_300, nc_330, nc_390, nc_1200, nc_1260, nc_3012, nc_9834, okSt_1i, okSt_1r, okSt_1n, List.length_cons, List.length_nil, xpk_succ cd_230_0, xpk_succ cd_230_1, xpk_succ cd_230_4, xpk_succ cd_230_5, xpk_succ cd_230_6, xpk_succ cd_230_9, xpk_succ cd_230_10, xpk_succ cd_230_11, xpk_succ cd_230_12, xpk_succ cd_230_13, xpk_succ cd_230_16, xpk_succ cd_230_17, xpk_succ cd_230_20, xpk_succ cd_230_21, xpk_succ cd_230_24, xpk_succ cd_230_27, xpk_succ cd_230_28, xpk_succ cd_230_29, xpk_succ cd_230_30, xpk_succ cd_230_33, xpk_succ cd_230_34, xpk_succ cd_230_37, xpk_succ cd_230_38, xpk_succ cd_230_39, xpk_succ cd_230_40, xpk_succ cd_230_42, xpk_succ cd_230_45, xpk_succ cd_230_47, k1, k2, o2, r1, s3, b4, E1, c1, c2]
        exact y
      · obtain ⟨n24, c4⟩ := n_24 hn c3
        have y := cl_65 (d := d) (l3 := none) (l4 := none) hJ n24 hs hw ha ht ⟨c1, hz.2⟩
        refine xpk_sound (stops := [65]) (n := 80) ?_
        simp only [sk_0, sk_1, sk_2, sk_3, sk_4, sk_5, sk_6, sk_7, sk_8, sk_iadd, sk_isub, sk_imul, sk_iand, sk_ior, sk_ixor, sk_ishl, sk_ishr, sk_iushr, sk_idiv, sk_irem, sk_ineg, sk_ladd, sk_lsub, sk_lmul, sk_land, sk_lor, sk_ldiv, sk_lrem, sk_lneg, sk_lshl, sk_lshr, sk_i2l, sk_l2i, sk_lcmp, sk_dupI, sk_dupR, sk_dup2L, sk_dup2I, sk_popI, sk_ifeq, sk_ifne, sk_iflt, sk_ifge, sk_ifgt, sk_ifle, sk_iceq, sk_icne, sk_iclt, sk_icge, sk_icgt, sk_icle, sk_goto, sk_getf, sk_putf, sk_gets, sk_iald, sk_lald, sk_bald, sk_aald, sk_iast, sk_last, sk_bast, sk_aast, sk_alen, sk_newa, sk_newt, sk_new, sk_cs1, sk_cs2, sk_cs3, sk_cs4, sk_cs5, sk_cs6, sk_cv1, sk_cv2, sk_cv3, sk_cv4, sk_cv5, sk_cv6, sk_ci1, sk_ci2, sk_ci3, sk_ret0, sk_retI, sk_retL, sk_retR, sk_sw, sk_oin, sk_max, sk_min, sk_abs, lI_0, lI_s, lL_0, lL_s, lR_0, lR_s, vIo_e, vLo_e, vOo_e, stW_I, stW_L, stW_R, stW_0, stW_z, okSt_0, okSt_s, hV_eq, hK_eq, okF_0, okF_1, okF_3, is01_0, is01_1, is01_i, Int.toNat_natCast, Int.reduceEq, Int.reduceLE, Int.reduceLT, Int.reduceNeg, Nat.reduceLT, not_true_eq_false, not_false_eq_true, reduceIte, Option.toList, List.cons_append, List.nil_append, List.set_cons_zero, List.set_cons_succ, List.not_mem_nil, List.mem_cons, if_false, if_true, ite_true, ite_false, and_self, and_true, true_and, Nat.reduceAdd, Nat.reduceLeDiff, Nat.reduceEqDiff, Nat.zero_add, Nat.le_refl, Nat.zero_le, or_false, false_or, Int.reduceToNat, or_true, true_or, eq_self, and_false, false_and, inR_d, nc_4, nc_5, nc_6, nc_7, nc_8, nc_16, nc_18, nc_20, nc_24, nc_32, nc_40, nc_64, nc_104, nc_120, nc_160, nc_256, nc_300, nc_330, nc_390, nc_1200, nc_1260, nc_3012, nc_9834, okSt_1i, okSt_1r, okSt_1n, List.length_cons, List.length_nil, xpk_succ cd_230_0, xpk_succ cd_230_1, xpk_succ cd_230_4, xpk_succ cd_230_5, xpk_succ cd_230_6, xpk_succ cd_230_9, xpk_succ cd_230_10, xpk_succ cd_230_11, xpk_succ cd_230_12, xpk_succ cd_230_13, xpk_succ cd_230_16, xpk_succ cd_230_17, xpk_succ cd_230_20, xpk_succ cd_230_21, xpk_succ cd_230_24, xpk_succ cd_230_27, xpk_succ cd_230_28, xpk_succ cd_230_29, xpk_succ cd_230_30, xpk_succ cd_230_33, xpk_succ cd_230_34, xpk_succ cd_230_37, xpk_succ cd_230_38, xpk_succ cd_230_39, xpk_succ cd_230_40, xpk_succ cd_230_42, xpk_succ cd_230_45, xpk_succ cd_230_47, xpk_succ cd_230_48, xpk_succ cd_230_49, xpk_succ cd_230_50, xpk_succ cd_230_53, xpk_succ cd_230_54, xpk_succ cd_230_55, xpk_succ cd_230_58, xpk_succ cd_230_59, xpk_succ cd_230_60, xpk_succ cd_230_61, xpk_succ cd_230_62, k1, k2, o2, r1, s3, b4, E1, c1, c2, c4]
        exact y
    · have z4 : z ≤ 4 := Int.not_lt.mp c2
      obtain ⟨hh, hh2, E2⟩ := X_ha (d := d + 11) (x := on) (y := z) s1.1 s1.2.1.2 ⟨on1, on2⟩ ⟨c1, z4⟩
      rcases hh2 with rfl | rfl
      · by_cases c3 : n = 24
        · subst c3
          have s3 : hV h 79 (753 * J) = vI 24 := s3
          have y : CLe β J h0 (2 * (301 - a) + tz tk) (some (vI 6)) h := CL_f (by decide) s1
          refine xpk_sound (stops := []) (n := 80) ?_
          simp only [sk_0, sk_1, sk_2, sk_3, sk_4, sk_5, sk_6, sk_7, sk_8, sk_iadd, sk_isub, sk_imul, sk_iand, sk_ior, sk_ixor, sk_ishl, sk_ishr, sk_iushr, sk_idiv, sk_irem, sk_ineg, sk_ladd, sk_lsub, sk_lmul, sk_land, sk_lor, sk_ldiv, sk_lrem, sk_lneg, sk_lshl, sk_lshr, sk_i2l, sk_l2i, sk_lcmp, sk_dupI, sk_dupR, sk_dup2L, sk_dup2I, sk_popI, sk_ifeq, sk_ifne, sk_iflt, sk_ifge, sk_ifgt, sk_ifle, sk_iceq, sk_icne, sk_iclt, sk_icge, sk_icgt, sk_icle, sk_goto, sk_getf, sk_putf, sk_gets, sk_iald, sk_lald, sk_bald, sk_aald, sk_iast, sk_last, sk_bast, sk_aast, sk_alen, sk_newa, sk_newt, sk_new, sk_cs1, sk_cs2, sk_cs3, sk_cs4, sk_cs5, sk_cs6, sk_cv1, sk_cv2, sk_cv3, sk_cv4, sk_cv5, sk_cv6, sk_ci1, sk_ci2, sk_ci3, sk_ret0, sk_retI, sk_retL, sk_retR, sk_sw, sk_oin, sk_max, sk_min, sk_abs, lI_0, lI_s, lL_0, lL_s, lR_0, lR_s, vIo_e, vLo_e, vOo_e, stW_I, stW_L, stW_R, stW_0, stW_z, okSt_0, okSt_s, hV_eq, hK_eq, okF_0, okF_1, okF_3, is01_0, is01_1, is01_i, Int.toNat_natCast, Int.reduceEq, Int.reduceLE, Int.reduceLT, Int.reduceNeg, Nat.reduceLT, not_true_eq_false, not_false_eq_true, reduceIte, Option.toList, List.cons_append, List.nil_append, List.set_cons_zero, List.set_cons_succ, List.not_mem_nil, List.mem_cons, if_false, if_true, ite_true, ite_false, and_self, and_true, true_and, Nat.reduceAdd, Nat.reduceLeDiff, Nat.reduceEqDiff, Nat.zero_add, Nat.le_refl, Nat.zero_le, or_false, false_or, Int.reduceToNat, or_true, true_or, eq_self, and_false, false_and, inR_d, nc_4, nc_5, nc_6, nc_7, nc_8, nc_16, nc_18, nc_20, nc_24, nc_32, nc_40, nc_64, nc_104, nc_120, nc_160, nc_256, nc_300, nc_330, nc_390, nc_1200, nc_1260, nc_3012, nc_9834, okSt_1i, okSt_1r, okSt_1n, List.length_cons, List.length_nil, xpk_succ cd_230_0, xpk_succ cd_230_1, xpk_succ cd_230_4, xpk_succ cd_230_5, xpk_succ cd_230_6, xpk_succ cd_230_9, xpk_succ cd_230_10, xpk_succ cd_230_11, xpk_succ cd_230_12, xpk_succ cd_230_13, xpk_succ cd_230_16, xpk_succ cd_230_17, xpk_succ cd_230_20, xpk_succ cd_230_21, xpk_succ cd_230_24, xpk_succ cd_230_27, xpk_succ cd_230_28, xpk_succ cd_230_29, xpk_succ cd_230_30, xpk_succ cd_230_33, xpk_succ cd_230_34, xpk_succ cd_230_37, xpk_succ cd_230_38, xpk_succ cd_230_39, xpk_succ cd_230_40, xpk_succ cd_230_42, xpk_succ cd_230_45, xpk_succ cd_230_47, k1, k2, o2, r1, s3, b4, E1, c1, c2, hon, E2]
          exact y
        · obtain ⟨n24, c4⟩ := n_24 hn c3
          have ob := on_b ⟨on1, on2⟩ ⟨c1, z4⟩
          have t1 := CS_f (i := 19) (v := vI (ior on (ishl 1 z))) hs (Or.inr rfl) jr76.2.2.2.2.2.2.2.2.2.2.2 ⟨_, rfl, ob⟩
          have y := cl_65 (d := d) (l3 := none) (l4 := none) hJ n24 t1 hw ha ht ⟨c1, hz.2⟩
          refine xpk_sound (stops := [65]) (n := 80) ?_
          simp only [sk_0, sk_1, sk_2, sk_3, sk_4, sk_5, sk_6, sk_7, sk_8, sk_iadd, sk_isub, sk_imul, sk_iand, sk_ior, sk_ixor, sk_ishl, sk_ishr, sk_iushr, sk_idiv, sk_irem, sk_ineg, sk_ladd, sk_lsub, sk_lmul, sk_land, sk_lor, sk_ldiv, sk_lrem, sk_lneg, sk_lshl, sk_lshr, sk_i2l, sk_l2i, sk_lcmp, sk_dupI, sk_dupR, sk_dup2L, sk_dup2I, sk_popI, sk_ifeq, sk_ifne, sk_iflt, sk_ifge, sk_ifgt, sk_ifle, sk_iceq, sk_icne, sk_iclt, sk_icge, sk_icgt, sk_icle, sk_goto, sk_getf, sk_putf, sk_gets, sk_iald, sk_lald, sk_bald, sk_aald, sk_iast, sk_last, sk_bast, sk_aast, sk_alen, sk_newa, sk_newt, sk_new, sk_cs1, sk_cs2, sk_cs3, sk_cs4, sk_cs5, sk_cs6, sk_cv1, sk_cv2, sk_cv3, sk_cv4, sk_cv5, sk_cv6, sk_ci1, sk_ci2, sk_ci3, sk_ret0, sk_retI, sk_retL, sk_retR, sk_sw, sk_oin, sk_max, sk_min, sk_abs, lI_0, lI_s, lL_0, lL_s, lR_0, lR_s, vIo_e, vLo_e, vOo_e, stW_I, stW_L, stW_R, stW_0, stW_z, okSt_0, okSt_s, hV_eq, hK_eq, okF_0, okF_1, okF_3, is01_0, is01_1, is01_i, Int.toNat_natCast, Int.reduceEq, Int.reduceLE, Int.reduceLT, Int.reduceNeg, Nat.reduceLT, not_true_eq_false, not_false_eq_true, reduceIte, Option.toList, List.cons_append, List.nil_append, List.set_cons_zero, List.set_cons_succ, List.not_mem_nil, List.mem_cons, if_false, if_true, ite_true, ite_false, and_self, and_true, true_and, Nat.reduceAdd, Nat.reduceLeDiff, Nat.reduceEqDiff, Nat.zero_add, Nat.le_refl, Nat.zero_le, or_false, false_or, Int.reduceToNat, or_true, true_or, eq_self, and_false, false_and, inR_d, nc_4, nc_5, nc_6, nc_7, nc_8, nc_16, nc_18, nc_20, nc_24, nc_32, nc_40, nc_64, nc_104, nc_120, nc_160, nc_256, nc_300, nc_330, nc_390, nc_1200, nc_1260, nc_3012, nc_9834, okSt_1i, okSt_1r, okSt_1n, List.length_cons, List.length_nil, xpk_succ cd_230_0, xpk_succ cd_230_1, xpk_succ cd_230_4, xpk_succ cd_230_5, xpk_succ cd_230_6, xpk_succ cd_230_9, xpk_succ cd_230_10, xpk_succ cd_230_11, xpk_succ cd_230_12, xpk_succ cd_230_13, xpk_succ cd_230_16, xpk_succ cd_230_17, xpk_succ cd_230_20, xpk_succ cd_230_21, xpk_succ cd_230_24, xpk_succ cd_230_27, xpk_succ cd_230_28, xpk_succ cd_230_29, xpk_succ cd_230_30, xpk_succ cd_230_33, xpk_succ cd_230_34, xpk_succ cd_230_37, xpk_succ cd_230_38, xpk_succ cd_230_39, xpk_succ cd_230_40, xpk_succ cd_230_42, xpk_succ cd_230_45, xpk_succ cd_230_47, xpk_succ cd_230_48, xpk_succ cd_230_49, xpk_succ cd_230_50, xpk_succ cd_230_53, xpk_succ cd_230_54, xpk_succ cd_230_55, xpk_succ cd_230_58, xpk_succ cd_230_59, xpk_succ cd_230_60, xpk_succ cd_230_61, xpk_succ cd_230_62, k1, k2, o2, r1, s3, b4, E1, c1, c2, hon, E2, c4]
          exact y
      · have y : CLe β J h0 (2 * (301 - a) + tz tk) (some (vI 4)) h := CL_f (by decide) s1
        refine xpk_sound (stops := []) (n := 80) ?_
        simp only [sk_0, sk_1, sk_2, sk_3, sk_4, sk_5, sk_6, sk_7, sk_8, sk_iadd, sk_isub, sk_imul, sk_iand, sk_ior, sk_ixor, sk_ishl, sk_ishr, sk_iushr, sk_idiv, sk_irem, sk_ineg, sk_ladd, sk_lsub, sk_lmul, sk_land, sk_lor, sk_ldiv, sk_lrem, sk_lneg, sk_lshl, sk_lshr, sk_i2l, sk_l2i, sk_lcmp, sk_dupI, sk_dupR, sk_dup2L, sk_dup2I, sk_popI, sk_ifeq, sk_ifne, sk_iflt, sk_ifge, sk_ifgt, sk_ifle, sk_iceq, sk_icne, sk_iclt, sk_icge, sk_icgt, sk_icle, sk_goto, sk_getf, sk_putf, sk_gets, sk_iald, sk_lald, sk_bald, sk_aald, sk_iast, sk_last, sk_bast, sk_aast, sk_alen, sk_newa, sk_newt, sk_new, sk_cs1, sk_cs2, sk_cs3, sk_cs4, sk_cs5, sk_cs6, sk_cv1, sk_cv2, sk_cv3, sk_cv4, sk_cv5, sk_cv6, sk_ci1, sk_ci2, sk_ci3, sk_ret0, sk_retI, sk_retL, sk_retR, sk_sw, sk_oin, sk_max, sk_min, sk_abs, lI_0, lI_s, lL_0, lL_s, lR_0, lR_s, vIo_e, vLo_e, vOo_e, stW_I, stW_L, stW_R, stW_0, stW_z, okSt_0, okSt_s, hV_eq, hK_eq, okF_0, okF_1, okF_3, is01_0, is01_1, is01_i, Int.toNat_natCast, Int.reduceEq, Int.reduceLE, Int.reduceLT, Int.reduceNeg, Nat.reduceLT, not_true_eq_false, not_false_eq_true, reduceIte, Option.toList, List.cons_append, List.nil_append, List.set_cons_zero, List.set_cons_succ, List.not_mem_nil, List.mem_cons, if_false, if_true, ite_true, ite_false, and_self, and_true, true_and, Nat.reduceAdd, Nat.reduceLeDiff, Nat.reduceEqDiff, Nat.zero_add, Nat.le_refl, Nat.zero_le, or_false, false_or, Int.reduceToNat, or_true, true_or, eq_self, and_false, false_and, inR_d, nc_4, nc_5, nc_6, nc_7, nc_8, nc_16, nc_18, nc_20, nc_24, nc_32, nc_40, nc_64, nc_104, nc_120, nc_160, nc_256, nc_300, nc_330, nc_390, nc_1200, nc_1260, nc_3012, nc_9834, okSt_1i, okSt_1r, okSt_1n, List.length_cons, List.length_nil, xpk_succ cd_230_0, xpk_succ cd_230_1, xpk_succ cd_230_4, xpk_succ cd_230_5, xpk_succ cd_230_6, xpk_succ cd_230_9, xpk_succ cd_230_10, xpk_succ cd_230_11, xpk_succ cd_230_12, xpk_succ cd_230_13, xpk_succ cd_230_16, xpk_succ cd_230_17, xpk_succ cd_230_20, xpk_succ cd_230_21, xpk_succ cd_230_24, xpk_succ cd_230_27, xpk_succ cd_230_28, k1, k2, o2, r1, s3, b4, E1, c1, c2, hon, E2]
        exact y
  · have y : CLe β J h0 (2 * (301 - a) + tz tk) (some (vI 1)) h := CL_f (by decide) s1
    refine xpk_sound (stops := []) (n := 80) ?_
    simp only [sk_0, sk_1, sk_2, sk_3, sk_4, sk_5, sk_6, sk_7, sk_8, sk_iadd, sk_isub, sk_imul, sk_iand, sk_ior, sk_ixor, sk_ishl, sk_ishr, sk_iushr, sk_idiv, sk_irem, sk_ineg, sk_ladd, sk_lsub, sk_lmul, sk_land, sk_lor, sk_ldiv, sk_lrem, sk_lneg, sk_lshl, sk_lshr, sk_i2l, sk_l2i, sk_lcmp, sk_dupI, sk_dupR, sk_dup2L, sk_dup2I, sk_popI, sk_ifeq, sk_ifne, sk_iflt, sk_ifge, sk_ifgt, sk_ifle, sk_iceq, sk_icne, sk_iclt, sk_icge, sk_icgt, sk_icle, sk_goto, sk_getf, sk_putf, sk_gets, sk_iald, sk_lald, sk_bald, sk_aald, sk_iast, sk_last, sk_bast, sk_aast, sk_alen, sk_newa, sk_newt, sk_new, sk_cs1, sk_cs2, sk_cs3, sk_cs4, sk_cs5, sk_cs6, sk_cv1, sk_cv2, sk_cv3, sk_cv4, sk_cv5, sk_cv6, sk_ci1, sk_ci2, sk_ci3, sk_ret0, sk_retI, sk_retL, sk_retR, sk_sw, sk_oin, sk_max, sk_min, sk_abs, lI_0, lI_s, lL_0, lL_s, lR_0, lR_s, vIo_e, vLo_e, vOo_e, stW_I, stW_L, stW_R, stW_0, stW_z, okSt_0, okSt_s, hV_eq, hK_eq, okF_0, okF_1, okF_3, is01_0, is01_1, is01_i, Int.toNat_natCast, Int.reduceEq, Int.reduceLE, Int.reduceLT, Int.reduceNeg, Nat.reduceLT, not_true_eq_false, not_false_eq_true, reduceIte, Option.toList, List.cons_append, List.nil_append, List.set_cons_zero, List.set_cons_succ, List.not_mem_nil, List.mem_cons, if_false, if_true, ite_true, ite_false, and_self, and_true, true_and, Nat.reduceAdd, Nat.reduceLeDiff, Nat.reduceEqDiff, Nat.zero_add, Nat.le_refl, Nat.zero_le, or_false, false_or, Int.reduceToNat, or_true, true_or, eq_self, and_false, false_and, inR_d, nc_4, nc_5, nc_6, nc_7, nc_8, nc_16, nc_18, nc_20, nc_24, nc_32, nc_40, nc_64, nc_104, nc_120, nc_160, nc_256, nc_300, nc_330, nc_390, nc_1200, nc_1260, nc_3012, nc_9834, okSt_1i, okSt_1r, okSt_1n, List.length_cons, List.length_nil, xpk_succ cd_230_0, xpk_succ cd_230_1, xpk_succ cd_230_4, xpk_succ cd_230_5, xpk_succ cd_230_6, xpk_succ cd_230_9, xpk_succ cd_230_10, k1, E1, c1]
    exact y
def RTd (β : Nat) (h0 : AH) (r : Option AV) (h' : AH) : Prop := ∃ f : Int, r = some (vI f) ∧ 0 ≤ f ∧ f ≤ 6 ∧ STo β mdR h0 h'
set_option maxHeartbeats 2000000 in
theorem rt_l {β J d : Nat} {h0 : AH} (hJ : J < 4) : ∀ (μ k n w a : Nat) (tk : Int) (h : AH) (l1 : Option AV), k < μ → n ≤ 24 → CSx β J n h0 h w a tk → w + tz tk ≤ a → a ≤ 300 → 2 * (301 - a) + tz tk = k → XP (d + 13) 231 43 [some (vR 76), l1] [] h (RTd β h0) := by
  intro μ
  induction μ with
  | zero => intro k n w a tk h l1 hk; exact absurd hk (Nat.not_lt_zero _)
  | succ μ ih =>
    intro k n w a tk h l1 hk hn hs hw ha hm
    obtain ⟨s1, ⟨r1, r2, r3, r4⟩, s3, s4⟩ := id hs
    obtain ⟨-, k1, -⟩ := rdF s1.1
    by_cases c1 : tk = 0
    · subst c1
      have y : RTd β h0 (some (vI 0)) h := ⟨0, rfl, by decide, by decide, s1⟩
      refine xpk_sound (stops := []) (n := 40) ?_
      simp only [sk_0, sk_1, sk_2, sk_3, sk_4, sk_5, sk_6, sk_7, sk_8, sk_iadd, sk_isub, sk_imul, sk_iand, sk_ior, sk_ixor, sk_ishl, sk_ishr, sk_iushr, sk_idiv, sk_irem, sk_ineg, sk_ladd, sk_lsub, sk_lmul, sk_land, sk_lor, sk_ldiv, sk_lrem, sk_lneg, sk_lshl, sk_lshr, sk_i2l, sk_l2i, sk_lcmp, sk_dupI, sk_dupR, sk_dup2L, sk_dup2I, sk_popI, sk_ifeq, sk_ifne, sk_iflt, sk_ifge, sk_ifgt, sk_ifle, sk_iceq, sk_icne, sk_iclt, sk_icge, sk_icgt, sk_icle, sk_goto, sk_getf, sk_putf, sk_gets, sk_iald, sk_lald, sk_bald, sk_aald, sk_iast, sk_last, sk_bast, sk_aast, sk_alen, sk_newa, sk_newt, sk_new, sk_cs1, sk_cs2, sk_cs3, sk_cs4, sk_cs5, sk_cs6, sk_cv1, sk_cv2, sk_cv3, sk_cv4, sk_cv5, sk_cv6, sk_ci1, sk_ci2, sk_ci3, sk_ret0, sk_retI, sk_retL, sk_retR, sk_sw, sk_oin, sk_max, sk_min, sk_abs, lI_0, lI_s, lL_0, lL_s, lR_0, lR_s, vIo_e, vLo_e, vOo_e, stW_I, stW_L, stW_R, stW_0, stW_z, okSt_0, okSt_s, hV_eq, hK_eq, okF_0, okF_1, okF_3, is01_0, is01_1, is01_i, Int.toNat_natCast, Int.reduceEq, Int.reduceLE, Int.reduceLT, Int.reduceNeg, Nat.reduceLT, not_true_eq_false, not_false_eq_true, reduceIte, Option.toList, List.cons_append, List.nil_append, List.set_cons_zero, List.set_cons_succ, List.not_mem_nil, List.mem_cons, if_false, if_true, ite_true, ite_false, and_self, and_true, true_and, Nat.reduceAdd, Nat.reduceLeDiff, Nat.reduceEqDiff, Nat.zero_add, Nat.le_refl, Nat.zero_le, or_false, false_or, Int.reduceToNat, or_true, true_or, eq_self, and_false, false_and, inR_d, nc_4, nc_5, nc_6, nc_7, nc_8, nc_16, nc_18, nc_20, nc_24, nc_32, nc_40, nc_64, nc_104, nc_120, nc_160, nc_256, nc_300, nc_330, nc_390, nc_1200, nc_1260, nc_3012, nc_9834, okSt_1i, okSt_1r, okSt_1n, List.length_cons, List.length_nil, xpk_succ cd_231_43, xpk_succ cd_231_44, xpk_succ cd_231_47, xpk_succ cd_231_50, xpk_succ cd_231_51, xpk_succ cd_231_54, xpk_succ cd_231_55, xpk_succ cd_231_56, xpk_succ cd_231_59, xpk_succ cd_231_60, xpk_succ cd_231_61, xpk_succ cd_231_64, xpk_succ cd_231_65, k1, r4]
      exact y
    · obtain ⟨r, h2, ⟨f, rfl, q⟩, E1⟩ := XC_dt (X_cl2 (d := d) hJ hn hs hw ha)
      rcases q with ⟨q1, q2, q3⟩ | ⟨rfl, n', w', a', tk', q1, q2, q3, q4, q5⟩
      · have fz := f_nz q1
        have y : RTd β h0 (some (vI f)) h2 := ⟨f, rfl, Int.le_trans (by decide) q1, q2, q3⟩
        refine xpk_sound (stops := []) (n := 40) ?_
        simp only [sk_0, sk_1, sk_2, sk_3, sk_4, sk_5, sk_6, sk_7, sk_8, sk_iadd, sk_isub, sk_imul, sk_iand, sk_ior, sk_ixor, sk_ishl, sk_ishr, sk_iushr, sk_idiv, sk_irem, sk_ineg, sk_ladd, sk_lsub, sk_lmul, sk_land, sk_lor, sk_ldiv, sk_lrem, sk_lneg, sk_lshl, sk_lshr, sk_i2l, sk_l2i, sk_lcmp, sk_dupI, sk_dupR, sk_dup2L, sk_dup2I, sk_popI, sk_ifeq, sk_ifne, sk_iflt, sk_ifge, sk_ifgt, sk_ifle, sk_iceq, sk_icne, sk_iclt, sk_icge, sk_icgt, sk_icle, sk_goto, sk_getf, sk_putf, sk_gets, sk_iald, sk_lald, sk_bald, sk_aald, sk_iast, sk_last, sk_bast, sk_aast, sk_alen, sk_newa, sk_newt, sk_new, sk_cs1, sk_cs2, sk_cs3, sk_cs4, sk_cs5, sk_cs6, sk_cv1, sk_cv2, sk_cv3, sk_cv4, sk_cv5, sk_cv6, sk_ci1, sk_ci2, sk_ci3, sk_ret0, sk_retI, sk_retL, sk_retR, sk_sw, sk_oin, sk_max, sk_min, sk_abs, lI_0, lI_s, lL_0, lL_s, lR_0, lR_s, vIo_e, vLo_e, vOo_e, stW_I, stW_L, stW_R, stW_0, stW_z, okSt_0, okSt_s, hV_eq, hK_eq, okF_0, okF_1, okF_3, is01_0, is01_1, is01_i, Int.toNat_natCast, Int.reduceEq, Int.reduceLE, Int.reduceLT, Int.reduceNeg, Nat.reduceLT, not_true_eq_false, not_false_eq_true, reduceIte, Option.toList, List.cons_append, List.nil_append, List.set_cons_zero, List.set_cons_succ, List.not_mem_nil, List.mem_cons, if_false, if_true, ite_true, ite_false, and_self, and_true, true_and, Nat.reduceAdd, Nat.reduceLeDiff, Nat.reduceEqDiff, Nat.zero_add, Nat.le_refl, Nat.zero_le, or_false, false_or, Int.reduceToNat, or_true, true_or, eq_self, and_false, false_and, inR_d, nc_4, nc_5, nc_6, nc_7, nc_8, nc_16, nc_18, nc_20, nc_24, nc_32, nc_40, nc_64, nc_104, nc_120, nc_160, nc_256, nc_300, nc_330, nc_390, nc_1200, nc_1260, nc_3012, nc_9834, okSt_1i, okSt_1r, okSt_1n, List.length_cons, List.length_nil, xpk_succ cd_231_43, xpk_succ cd_231_44, xpk_succ cd_231_47, xpk_succ cd_231_50, xpk_succ cd_231_51, xpk_succ cd_231_54, xpk_succ cd_231_55, xpk_succ cd_231_56, xpk_succ cd_231_59, xpk_succ cd_231_60, xpk_succ cd_231_61, xpk_succ cd_231_64, xpk_succ cd_231_65, k1, r4, c1, E1, fz]
        exact y
      · have y := ih (2 * (301 - a') + tz tk') n' w' a' tk' h2 (some (vI 0)) (Nat.lt_of_lt_of_le q5 (by rw [hm]; exact Nat.le_of_lt_succ hk)) q1 q2 q3 q4 rfl
        refine xpk_sound (stops := [43]) (n := 40) ?_
        simp only [sk_0, sk_1, sk_2, sk_3, sk_4, sk_5, sk_6, sk_7, sk_8, sk_iadd, sk_isub, sk_imul, sk_iand, sk_ior, sk_ixor, sk_ishl, sk_ishr, sk_iushr, sk_idiv, sk_irem, sk_ineg, sk_ladd, sk_lsub, sk_lmul, sk_land, sk_lor, sk_ldiv, sk_lrem, sk_lneg, sk_lshl, sk_lshr, sk_i2l, sk_l2i, sk_lcmp, sk_dupI, sk_dupR, sk_dup2L, sk_dup2I, sk_popI, sk_ifeq, sk_ifne, sk_iflt, sk_ifge, sk_ifgt, sk_ifle, sk_iceq, sk_icne, sk_iclt, sk_icge, sk_icgt, sk_icle, sk_goto, sk_getf, sk_putf, sk_gets, sk_iald, sk_lald, sk_bald, sk_aald, sk_iast, sk_last, sk_bast, sk_aast, sk_alen, sk_newa, sk_newt, sk_new, sk_cs1, sk_cs2, sk_cs3, sk_cs4, sk_cs5, sk_cs6, sk_cv1, sk_cv2, sk_cv3, sk_cv4, sk_cv5, sk_cv6, sk_ci1, sk_ci2, sk_ci3, sk_ret0, sk_retI, sk_retL, sk_retR, sk_sw, sk_oin, sk_max, sk_min, sk_abs, lI_0, lI_s, lL_0, lL_s, lR_0, lR_s, vIo_e, vLo_e, vOo_e, stW_I, stW_L, stW_R, stW_0, stW_z, okSt_0, okSt_s, hV_eq, hK_eq, okF_0, okF_1, okF_3, is01_0, is01_1, is01_i, Int.toNat_natCast, Int.reduceEq, Int.reduceLE, Int.reduceLT, Int.reduceNeg, Nat.reduceLT, not_true_eq_false, not_false_eq_true, reduceIte, Option.toList, List.cons_append, List.nil_append, List.set_cons_zero, List.set_cons_succ, List.not_mem_nil, List.mem_cons, if_false, if_true, ite_true, ite_false, and_self, and_true, true_and, Nat.reduceAdd, Nat.reduceLeDiff, Nat.reduceEqDiff, Nat.zero_add, Nat.le_refl, Nat.zero_le, or_false, false_or, Int.reduceToNat, or_true, true_or, eq_self, and_false, false_and, inR_d, nc_4, nc_5, nc_6, nc_7, nc_8, nc_16, nc_18, nc_20, nc_24, nc_32, nc_40, nc_64, nc_104, nc_120, nc_160, nc_256, nc_300, nc_330, nc_390, nc_1200, nc_1260, nc_3012, nc_9834, okSt_1i, okSt_1r, okSt_1n, List.length_cons, List.length_nil, xpk_succ cd_231_43, xpk_succ cd_231_44, xpk_succ cd_231_47, xpk_succ cd_231_50, xpk_succ cd_231_51, xpk_succ cd_231_54, xpk_succ cd_231_55, xpk_succ cd_231_56, xpk_succ cd_231_59, xpk_succ cd_231_60, xpk_succ cd_231_61, xpk_succ cd_231_64, xpk_succ cd_231_65, k1, r4, c1, E1]
        exact y
def hk231_n : KT := ([.inl (.inr (.inr (some 76)))], some (.inr (false, 0, 6)), [(76, 5, 19), (79, 0, 3012), (81, 0, 160)], [76, 79, 81], [(77, 3, .inr (false, 0, 3))], [], [], 20)
theorem rt_n {J : Nat} (hJ : (J : Int) ≤ 3) : J < 4 ∧ w32 (753 * (J : Int)) = ((753 * J : Nat) : Int) ∧ ((0 : Int) ≤ ((753 * J : Nat) : Int) ∧ ((753 * J : Nat) : Int) < 3012) ∧ 753 * J ≤ 3012 ∧ ((0 : Int) ≤ ((753 * J : Nat) : Int) ∧ ((753 * J : Nat) : Int) ≤ 2259) := by unfold w32; omega
theorem TX_0 {g g' : Nat → AV} {J : Nat} (hJ : J < 4) (h : TXT g) (h1 : ∀ i, i ≠ 753 * J → g' i = g i) (h2 : g' (753 * J) = vI 0) : TXw g' J 0 := by
  intro j hj k hk hk2 s0 s4
  have jn : j ≠ J := fun z => by
    subst z
    rw [h2] at hk
    have hk : (k : Int) < 0 := hk
    omega
  have row : ∀ i, i < 6 → g' (753 * j + 1 + 6 * k + i) = g (753 * j + 1 + 6 * k + i) := fun i hi => h1 _ (ix_n hj hJ hk2 hi)
  have r0 : g' (753 * j + 1 + 6 * k) = g (753 * j + 1 + 6 * k) := row 0 (by decide)
  rw [r0] at s0 s4
  rw [h1 _ (by omega)] at hk
  obtain ⟨a, b, e1, e2, e3⟩ := h j hj k hk hk2 s0 s4
  exact ⟨a, b, by rw [row 1 (by decide)]; exact e1, by rw [row 2 (by decide)]; exact e2, CDK_g (fun i hi x hx => h1 _ (ix_m hj hJ (by have := e3.2.1; omega) hx)) e3, fun z => absurd z jn⟩
set_option maxHeartbeats 2000000 in
theorem hok231_n {β : Nat} : KOK JB (W0 β) 231 hk231_n := by
  intro d vs h Q hd ha hJh hW hp hQ
  obtain ⟨v1, t1, rfl, e1, e2⟩ := ha
  have e1 : v1 = vR 76 := e1
  have e2 : t1 = [] := e2
  subst e1 e2
  obtain ⟨d, rfl⟩ : ∃ d', d = d' + 14 := ⟨d - 14, by have hd : 20 ≤ d := hd; omega⟩
  obtain ⟨⟨o2, o3, o4, o5⟩, k1, k2, k3, k4, k5⟩ := rdF hJh
  obtain ⟨j0, hj0, j1, j2⟩ : ∃ x, hV h 77 3 = vI x ∧ (0 : Int) ≤ x ∧ x ≤ 3 := hp (77, 3, .inr (false, 0, 3)) (List.mem_cons_self ..)
  obtain ⟨J, rfl⟩ := Int.eq_ofNat_of_zero_le j1
  obtain ⟨hJ, a1, b1, b2, b3⟩ := rt_n j2
  have u0 := ST_r (md := mdR) hJh hW
  have u1 := ST_f (i := 12) (v := vI ((753 * J : Nat) : Int)) u0 (by decide) (by decide) jr76.2.2.2.2.2.1 ⟨_, rfl, b3⟩
  have e79 : ∀ j, hV (hSet h 76 12 (vI ((753 * J : Nat) : Int))) 79 j = hV h 79 j := fun j => by rw [hV_eq, if_neg (fun y => absurd y.1 (by decide))]
  have tx : TXw (gT (hSet (hSet h 76 12 (vI ((753 * J : Nat) : Int))) 79 (753 * J) (vI 0))) J 0 := TX_0 hJ (show TXT (gT h) from hW.2) (fun i hi => (gT_set hi).trans (congrFun (gT_e e79) i)) (gT_at b2)
  have u2 := ST_79 (x := 0) u1 b2 (by decide) (Or.inr (by decide)) (TXw_T tx)
  have u3 := ST_f (i := 13) (v := vI 0) u2 (by decide) (by decide) jr76.2.2.2.2.2.2.1 ⟨0, rfl, by decide, by decide⟩
  have u4 := ST_f (i := 19) (v := vI 0) u3 (by decide) (by decide) jr76.2.2.2.2.2.2.2.2.2.2.2 ⟨0, rfl, by decide, by decide⟩
  have u5 := ST_f (i := 7) (v := vI 0) u4 (by decide) (by decide) jr76.1 ⟨0, rfl, by decide, by decide⟩
  have g79 : ∀ j, hV (hSet (hSet (hSet (hSet (hSet h 76 12 (vI ((753 * J : Nat) : Int))) 79 (753 * J) (vI 0)) 76 13 (vI 0)) 76 19 (vI 0)) 76 7 (vI 0)) 79 j = hV (hSet (hSet h 76 12 (vI ((753 * J : Nat) : Int))) 79 (753 * J) (vI 0)) 79 j := fun j => by rw [hV_eq, if_neg (fun y => absurd y.1 (by decide)), hV_eq, if_neg (fun y => absurd y.1 (by decide)), hV_eq, if_neg (fun y => absurd y.1 (by decide))]
  have w12 : hV (hSet (hSet (hSet (hSet (hSet h 76 12 (vI ((753 * J : Nat) : Int))) 79 (753 * J) (vI 0)) 76 13 (vI 0)) 76 19 (vI 0)) 76 7 (vI 0)) 76 12 = vI ((753 * J : Nat) : Int) := by rw [f_set (by decide), f_set (by decide), f_set (by decide), hV_eq, if_neg (fun y => absurd y.1 (by decide)), f_at]
  have w13 : hV (hSet (hSet (hSet (hSet (hSet h 76 12 (vI ((753 * J : Nat) : Int))) 79 (753 * J) (vI 0)) 76 13 (vI 0)) 76 19 (vI 0)) 76 7 (vI 0)) 76 13 = vI 0 := by rw [f_set (by decide), f_set (by decide), f_at]
  have w7 : hV (hSet (hSet (hSet (hSet (hSet h 76 12 (vI ((753 * J : Nat) : Int))) 79 (753 * J) (vI 0)) 76 13 (vI 0)) 76 19 (vI 0)) 76 7 (vI 0)) 76 7 = vI ((0 : Nat) : Int) := f_at
  have q0 : XC (d + 14) 231 [vR 76] h (RTd β h) := by
    refine XC_of (Nat.le_of_ble_eq_true rfl) ?_
    show XP (d + 13) 231 0 [some (vR 76), none] [] h _
    obtain ⟨r, h2, ⟨rfl, n1, a', tk', n2, n3, n4, n5, n6, n7, n8⟩, E1⟩ := XC_dt (X_nt (d := d + 11) u5.1 u5.2.1.2 w7 (Nat.zero_le _))
    obtain ⟨t9, ht9⟩ : ∃ t9, hV (hSet (hSet (hSet (hSet (hSet h 76 12 (vI ((753 * J : Nat) : Int))) 79 (753 * J) (vI 0)) 76 13 (vI 0)) 76 19 (vI 0)) 76 7 (vI 0)) 76 9 = vI t9 := by
      obtain ⟨x, hx, -⟩ : ∃ y, hV (hSet (hSet (hSet (hSet (hSet h 76 12 (vI ((753 * J : Nat) : Int))) 79 (753 * J) (vI 0)) 76 13 (vI 0)) 76 19 (vI 0)) 76 7 (vI 0)) 76 9 = vI y ∧ (0 : Int) ≤ y ∧ y ≤ 255 := jF2_s u5.1 jf11.2.2
      exact ⟨x, hx⟩
    have c0 : CSx β J 0 h (hSet (hSet (hSet (hSet (hSet h 76 12 (vI ((753 * J : Nat) : Int))) 79 (753 * J) (vI 0)) 76 13 (vI 0)) 76 19 (vI 0)) 76 7 (vI 0)) 0 0 t9 := ⟨u5, ⟨w12, w13, w7, ht9⟩, by rw [g79]; exact f_at, by rw [gT_e g79]; exact tx⟩
    have c2 := CS_nt c0 n1 n2 n3
    obtain ⟨-, l5, -⟩ := rdF u5.1
    have y := rt_l (d := d) hJ (2 * (301 - a') + tz tk' + 1) (2 * (301 - a') + tz tk') 0 0 a' tk' h2 none (Nat.lt_succ_self _) (Nat.zero_le _) c2 (bd_d (Nat.zero_le _) n4 n6) n5 rfl
    refine xpk_sound (stops := [43]) (n := 60) ?_
    simp only [sk_0, sk_1, sk_2, sk_3, sk_4, sk_5, sk_6, sk_7, sk_8, sk_iadd, sk_isub, sk_imul, sk_iand, sk_ior, sk_ixor, sk_ishl, sk_ishr, sk_iushr, sk_idiv, sk_irem, sk_ineg, sk_ladd, sk_lsub, sk_lmul, sk_land, sk_lor, sk_ldiv, sk_lrem, sk_lneg, sk_lshl, sk_lshr, sk_i2l, sk_l2i, sk_lcmp, sk_dupI, sk_dupR, sk_dup2L, sk_dup2I, sk_popI, sk_ifeq, sk_ifne, sk_iflt, sk_ifge, sk_ifgt, sk_ifle, sk_iceq, sk_icne, sk_iclt, sk_icge, sk_icgt, sk_icle, sk_goto, sk_getf, sk_putf, sk_gets, sk_iald, sk_lald, sk_bald, sk_aald, sk_iast, sk_last, sk_bast, sk_aast, sk_alen, sk_newa, sk_newt, sk_new, sk_cs1, sk_cs2, sk_cs3, sk_cs4, sk_cs5, sk_cs6, sk_cv1, sk_cv2, sk_cv3, sk_cv4, sk_cv5, sk_cv6, sk_ci1, sk_ci2, sk_ci3, sk_ret0, sk_retI, sk_retL, sk_retR, sk_sw, sk_oin, sk_max, sk_min, sk_abs, lI_0, lI_s, lL_0, lL_s, lR_0, lR_s, vIo_e, vLo_e, vOo_e, stW_I, stW_L, stW_R, stW_0, stW_z, okSt_0, okSt_s, hV_eq, hK_eq, okF_0, okF_1, okF_3, is01_0, is01_1, is01_i, Int.toNat_natCast, Int.reduceEq, Int.reduceLE, Int.reduceLT, Int.reduceNeg, Nat.reduceLT, not_true_eq_false, not_false_eq_true, reduceIte, Option.toList, List.cons_append, List.nil_append, List.set_cons_zero, List.set_cons_succ, List.not_mem_nil, List.mem_cons, if_false, if_true, ite_true, ite_false, and_self, and_true, true_and, Nat.reduceAdd, Nat.reduceLeDiff, Nat.reduceEqDiff, Nat.zero_add, Nat.le_refl, Nat.zero_le, or_false, false_or, Int.reduceToNat, or_true, true_or, eq_self, and_false, false_and, inR_d, nc_4, nc_5, nc_6, nc_7, nc_8, nc_16, nc_18, nc_20, nc_24, nc_32, nc_40, nc_64, nc_104, nc_120, nc_160, nc_256, nc_300, nc_330, nc_390, nc_1200, nc_1260, nc_3012, nc_9834, okSt_1i, okSt_1r, okSt_1n, List.length_cons, List.length_nil, xpk_succ cd_231_0, xpk_succ cd_231_1, xpk_succ cd_231_4, xpk_succ cd_231_5, xpk_succ cd_231_8, xpk_succ cd_231_9, xpk_succ cd_231_10, xpk_succ cd_231_11, xpk_succ cd_231_14, xpk_succ cd_231_15, xpk_succ cd_231_18, xpk_succ cd_231_19, xpk_succ cd_231_22, xpk_succ cd_231_23, xpk_succ cd_231_24, xpk_succ cd_231_25, xpk_succ cd_231_26, xpk_succ cd_231_29, xpk_succ cd_231_30, xpk_succ cd_231_31, xpk_succ cd_231_34, xpk_succ cd_231_35, xpk_succ cd_231_36, xpk_succ cd_231_39, xpk_succ cd_231_40, k1, k2, k5, o2, o5, hj0, a1, b1, l5, E1]
    exact y
  refine XC_mono ?_ q0
  rintro r h' ⟨f, rfl, g1, g2, hs⟩
  exact hQ _ _ ⟨_, rfl, f, rfl, g1, g2⟩ hs.1 (fun q hq => by cases hq) (fun q hq => by cases hq) hs.2
