/-! left of both: the same products, the same steps of Euclid -/
def cmE : Nat → Int → Int → Int
  | 0, a, _ => a
  | f + 1, a, b => if b = 0 then a else cmE f b (a.tmod b)
def rE : Nat → Int → Int → Prop
  | 0, _, b => b = 0
  | f + 1, a, b => b = 0 ∨ rE f b (a.tmod b)
theorem rE_0 {f : Nat} {a : Int} : rE f a 0 := by
  cases f with
  | zero => rfl
  | succ f => exact Or.inl rfl
theorem rE_k : ∀ (k f : Nat) (a b : Int), 2 * k ≤ f → 0 ≤ a → 0 ≤ b → b < 2 ^ k → rE f a b := by
  intro k
  induction k with
  | zero =>
    intro f a b _ _ h1 h2
    have h2 : b < 1 := h2
    obtain rfl : b = 0 := by omega
    exact rE_0
  | succ k ih =>
    intro f a b hf h0 h1 h2
    by_cases z : b = 0
    · subst z; exact rE_0
    obtain ⟨f, rfl⟩ : ∃ f', f = f' + 2 := ⟨f - 2, by omega⟩
    refine Or.inr ?_
    have r1 : a.tmod b = a % b := Int.tmod_eq_emod_of_nonneg h0
    have r2 : 0 ≤ a % b := Int.emod_nonneg _ z
    have r3 : a % b < b := Int.emod_lt_of_pos _ (by omega)
    rw [r1]
    by_cases z2 : a % b = 0
    · exact Or.inl z2
    refine Or.inr ?_
    have q1 : b.tmod (a % b) = b % (a % b) := Int.tmod_eq_emod_of_nonneg h1
    have q2 : 0 ≤ b % (a % b) := Int.emod_nonneg _ z2
    have q3 : b % (a % b) < a % b := Int.emod_lt_of_pos _ (by omega)
    have q4 : b % (a % b) ≤ b - a % b := by
      have e1 := Int.mul_ediv_add_emod b (a % b)
      have e2 : 1 ≤ b / (a % b) := Int.le_ediv_of_mul_le (by omega) (by omega)
      have e3 : a % b * 1 ≤ a % b * (b / (a % b)) := Int.mul_le_mul_of_nonneg_left e2 r2
      omega
    rw [q1]
    refine ih f _ _ (by omega) r2 q2 ?_
    have e : (2 : Int) ^ (k + 1) = 2 ^ k * 2 := Int.pow_succ 2 k
    omega
theorem cmE_n : ∀ (f : Nat) (a b : Int), (a ≠ 0 ∨ b ≠ 0) → rE f a b → cmE f a b ≠ 0 := by
  intro f
  induction f with
  | zero =>
    intro a b h1 h2
    have h2 : b = 0 := h2
    rcases h1 with h1 | h1
    · exact h1
    · exact absurd h2 h1
  | succ f ih =>
    intro a b h1 h2
    show (if b = 0 then a else cmE f b (a.tmod b)) ≠ 0
    by_cases z : b = 0
    · rw [if_pos z]
      rcases h1 with h1 | h1
      · exact h1
      · exact absurd z h1
    · rw [if_neg z]
      rcases h2 with h2 | h2
      · exact absurd h2 z
      · exact ih b (a.tmod b) (Or.inl z) h2
theorem cmE_0 {f : Nat} {a : Int} : cmE f a 0 = a := by
  cases f with
  | zero => rfl
  | succ f => exact if_pos rfl
def lpA (f : Nat → Int) : Nat → Int
  | 0 => 1
  | k + 1 => lpA f k * f k
def lpB (f : Nat → Int) : Nat → Int
  | 0 => 1
  | k + 1 => lpB f k * (10 - f k)
theorem lp_m {a x A : Int} (h1 : 0 ≤ a) (h2 : a ≤ A) (h3 : 0 ≤ x) (h4 : x ≤ 10) : 0 ≤ a * x ∧ a * x ≤ A * 10 := ⟨Int.mul_nonneg h1 h3, Int.mul_le_mul h2 h4 h3 (Int.le_trans h1 h2)⟩
theorem lp_b {f : Nat → Int} {n : Nat} (hf : ∀ i, i < n → 0 ≤ f i ∧ f i ≤ 10) : ∀ k, k ≤ n → (0 ≤ lpA f k ∧ lpA f k ≤ 10 ^ k) ∧ (0 ≤ lpB f k ∧ lpB f k ≤ 10 ^ k) := by
  intro k
  induction k with
  | zero => intro _; exact ⟨⟨(show (0 : Int) ≤ 1 by decide), (show (1 : Int) ≤ 10 ^ 0 by decide)⟩, ⟨(show (0 : Int) ≤ 1 by decide), (show (1 : Int) ≤ 10 ^ 0 by decide)⟩⟩
  | succ k ih =>
    intro hk
    obtain ⟨⟨i1, i2⟩, ⟨i3, i4⟩⟩ := ih (by omega)
    obtain ⟨f1, f2⟩ := hf k (by omega)
    have e : (10 : Int) ^ (k + 1) = 10 ^ k * 10 := Int.pow_succ 10 k
    rw [e]
    exact ⟨lp_m i1 i2 f1 f2, lp_m i3 i4 (by omega) (by omega)⟩
theorem p10_8 {k : Nat} (hk : k ≤ 8) : (10 : Int) ^ k ≤ 100000000 := by
  have h : ∀ k : Fin 9, (10 : Int) ^ k.1 ≤ 100000000 := by decide
  exact h ⟨k, by omega⟩
theorem w64_s {z : Int} (h1 : 0 ≤ z) (h2 : z ≤ 1000000000) : w64 z = z := by unfold w64; omega
theorem w32_k {k : Nat} (hk : k ≤ 200) : w32 ((k : Int) + 1) = ((k + 1 : Nat) : Int) := by unfold w32; omega
theorem lp_w {f : Nat → Int} {n k : Nat} (hf : ∀ i, i < n → 0 ≤ f i ∧ f i ≤ 10) (hn : n ≤ 8) (hk : k < n) : w64 (lpA f k * f k) = lpA f (k + 1) ∧ w64 (lpB f k * (10 - f k)) = lpB f (k + 1) ∧ w32 (10 - f k) = 10 - f k ∧ w32 ((k : Int) + 1) = ((k + 1 : Nat) : Int) := by
  obtain ⟨⟨i1, i2⟩, ⟨i3, i4⟩⟩ := lp_b hf (k + 1) hk
  have p := p10_8 (k := k + 1) (by omega)
  obtain ⟨f1, f2⟩ := hf k hk
  refine ⟨w64_s i1 (Int.le_trans i2 (Int.le_trans p (by decide))), w64_s i3 (Int.le_trans i4 (Int.le_trans p (by decide))), ?_, w32_k (by omega)⟩
  unfold w32; omega
theorem lp_x {x c : Int} (h : c = 10 - x) (h2 : 0 ≤ c ∧ c ≤ 10) : w32 (10 - x) = c := by rw [h] at h2 ⊢; unfold w32; omega
theorem lp_y {x c : Int} (h : c = 10 - x) : x = 10 - c := by omega
/-- what both answer -/
def lfE (s a b : Int) : Int := if a + b = 0 then (if s = 0 then 0 else 1) else w64 ((if s = 0 then a else a + b).tdiv (cmE 200 a (a + b)))
theorem lc_d {x : Int} : (lcmp3 x 0 = 0) = (x = 0) := by
  by_cases z : x = 0
  · rw [lc_0 z]; exact (eq_true z).symm ▸ (eq_true rfl)
  · exact propext ⟨fun h => absurd h (lc_1 z), fun h => absurd h z⟩
set_option maxHeartbeats 2000000 in
theorem lt_l {d : Nat} {h : AH} {u l s : Int} {Q : Option AV → AH → Prop} : ∀ (f i : Nat) (a b : Int) (l10 l11 : Option AV), i + f = 200 → (∀ (b' : Int) (i' : Int) (l10 l11 : Option AV), XP d 179 45 [some (vL u), none, some (vL l), none, some (vI s), some (vL (cmE f a b)), none, some (vL b'), none, some (vI i'), l10, l11] [] h Q) → XP d 179 9 [some (vL u), none, some (vL l), none, some (vI s), some (vL a), none, some (vL b), none, some (vI (i : Int)), l10, l11] [] h Q := by
  intro f
  induction f with
  | zero =>
    intro i a b l10 l11 hi y
    have z : (i : Int) ≥ 200 := by omega
    have z : 200 ≤ (i : Int) := by omega
    have y := y b i l10 l11
    have y : XP d 179 45 [some (vL u), none, some (vL l), none, some (vI s), some (vL a), none, some (vL b), none, some (vI (i : Int)), l10, l11] [] h Q := y
    refine xpk_sound (stops := [45]) (n := 20) ?_
    simp only [sk_0, sk_1, sk_2, sk_3, sk_4, sk_5, sk_6, sk_7, sk_8, sk_iadd, sk_isub, sk_imul, sk_iand, sk_ior, sk_ixor, sk_ishl, sk_ishr, sk_iushr, sk_idiv, sk_irem, sk_ineg, sk_ladd, sk_lsub, sk_lmul, sk_land, sk_lor, sk_ldiv, sk_lrem, sk_lneg, sk_lshl, sk_lshr, sk_i2l, sk_l2i, sk_lcmp, sk_dupI, sk_dupR, sk_dup2L, sk_dup2I, sk_popI, sk_ifeq, sk_ifne, sk_iflt, sk_ifge, sk_ifgt, sk_ifle, sk_iceq, sk_icne, sk_iclt, sk_icge, sk_icgt, sk_icle, sk_goto, sk_getf, sk_putf, sk_gets, sk_iald, sk_lald, sk_bald, sk_aald, sk_iast, sk_last, sk_bast, sk_aast, sk_alen, sk_newa, sk_newt, sk_new, sk_cs1, sk_cs2, sk_cs3, sk_cs4, sk_cs5, sk_cs6, sk_cv1, sk_cv2, sk_cv3, sk_cv4, sk_cv5, sk_cv6, sk_ci1, sk_ci2, sk_ci3, sk_ret0, sk_retI, sk_retL, sk_retR, sk_sw, sk_oin, sk_max, sk_min, sk_abs, lI_0, lI_s, lL_0, lL_s, lR_0, lR_s, vIo_e, vLo_e, vOo_e, stW_I, stW_L, stW_R, stW_0, stW_z, okSt_0, okSt_s, hV_eq, hK_eq, okF_0, okF_1, okF_3, is01_0, is01_1, is01_i, Int.toNat_natCast, Int.reduceEq, Int.reduceLE, Int.reduceLT, Int.reduceNeg, Nat.reduceLT, not_true_eq_false, not_false_eq_true, reduceIte, Option.toList, List.cons_append, List.nil_append, List.set_cons_zero, List.set_cons_succ, List.not_mem_nil, List.mem_cons, if_false, if_true, ite_true, ite_false, and_self, and_true, true_and, Nat.reduceAdd, Nat.reduceLeDiff, Nat.reduceEqDiff, Nat.zero_add, Nat.le_refl, Nat.zero_le, or_false, false_or, Int.reduceToNat, or_true, true_or, eq_self, and_false, false_and, inR_d, nc_4, nc_5, nc_6, nc_7, nc_8, nc_16, nc_18, nc_20, nc_24, nc_32, nc_40, nc_64, nc_104, nc_120, nc_160, nc_256, nc_300, nc_330, nc_390, nc_1200, nc_1260, nc_3012, nc_9834, okSt_1i, okSt_1r, okSt_1n, List.length_cons, List.length_nil, xpk_succ cd_179_9, xpk_succ cd_179_11, xpk_succ cd_179_14, z]
    exact y
  | succ f ih =>
    intro i a b l10 l11 hi y
    have z : ¬ (200 ≤ (i : Int)) := by omega
    by_cases zb : b = 0
    · have y := y b i l10 l11
      have e : cmE (f + 1) a b = a := if_pos zb
      rw [e] at y
      have c := lc_0 zb
      refine xpk_sound (stops := [45]) (n := 20) ?_
      simp only [sk_0, sk_1, sk_2, sk_3, sk_4, sk_5, sk_6, sk_7, sk_8, sk_iadd, sk_isub, sk_imul, sk_iand, sk_ior, sk_ixor, sk_ishl, sk_ishr, sk_iushr, sk_idiv, sk_irem, sk_ineg, sk_ladd, sk_lsub, sk_lmul, sk_land, sk_lor, sk_ldiv, sk_lrem, sk_lneg, sk_lshl, sk_lshr, sk_i2l, sk_l2i, sk_lcmp, sk_dupI, sk_dupR, sk_dup2L, sk_dup2I, sk_popI, sk_ifeq, sk_ifne, sk_iflt, sk_ifge, sk_ifgt, sk_ifle, sk_iceq, sk_icne, sk_iclt, sk_icge, sk_icgt, sk_icle, sk_goto, sk_getf, sk_putf, sk_gets, sk_iald, sk_lald, sk_bald, sk_aald, sk_iast, sk_last, sk_bast, sk_aast, sk_alen, sk_newa, sk_newt, sk_new, sk_cs1, sk_cs2, sk_cs3, sk_cs4, sk_cs5, sk_cs6, sk_cv1, sk_cv2, sk_cv3, sk_cv4, sk_cv5, sk_cv6, sk_ci1, sk_ci2, sk_ci3, sk_ret0, sk_retI, sk_retL, sk_retR, sk_sw, sk_oin, sk_max, sk_min, sk_abs, lI_0, lI_s, lL_0, lL_s, lR_0, lR_s, vIo_e, vLo_e, vOo_e, stW_I, stW_L, stW_R, stW_0, stW_z, okSt_0, okSt_s, hV_eq, hK_eq, okF_0, okF_1, okF_3, is01_0, is01_1, is01_i, Int.toNat_natCast, Int.reduceEq, Int.reduceLE, Int.reduceLT, Int.reduceNeg, Nat.reduceLT, not_true_eq_false, not_false_eq_true, reduceIte, Option.toList, List.cons_append, List.nil_append, List.set_cons_zero, List.set_cons_succ, List.not_mem_nil, List.mem_cons, if_false, if_true, ite_true, ite_false, and_self, and_true, true_and, Nat.reduceAdd, Nat.reduceLeDiff, Nat.reduceEqDiff, Nat.zero_add, Nat.le_refl, Nat.zero_le, or_false, false_or, Int.reduceToNat, or_true, true_or, eq_self, and_false, false_and, inR_d, nc_4, nc_5, nc_6, nc_7, nc_8, nc_16, nc_18, nc_20, nc_24, nc_32, nc_40, nc_64, nc_104, nc_120, nc_160, nc_256, nc_300, nc_330, nc_390, nc_1200, nc_1260, nc_3012, nc_9834, okSt_1i, okSt_1r, okSt_1n, List.length_cons, List.length_nil, xpk_succ cd_179_9, xpk_succ cd_179_11, xpk_succ cd_179_14, xpk_succ cd_179_17, xpk_succ cd_179_19, xpk_succ cd_179_20, xpk_succ cd_179_21, z, c]
      exact y
    · have e : cmE (f + 1) a b = cmE f b (a.tmod b) := if_neg zb
      rw [e] at y
      have c := lc_1 zb
      have g := w32_k (k := i) (by omega)
      have x := ih (i + 1) b (a.tmod b) (some (vL (a.tmod b))) none (by omega) y
      refine xpk_sound (stops := [9]) (n := 30) ?_
      simp only [sk_0, sk_1, sk_2, sk_3, sk_4, sk_5, sk_6, sk_7, sk_8, sk_iadd, sk_isub, sk_imul, sk_iand, sk_ior, sk_ixor, sk_ishl, sk_ishr, sk_iushr, sk_idiv, sk_irem, sk_ineg, sk_ladd, sk_lsub, sk_lmul, sk_land, sk_lor, sk_ldiv, sk_lrem, sk_lneg, sk_lshl, sk_lshr, sk_i2l, sk_l2i, sk_lcmp, sk_dupI, sk_dupR, sk_dup2L, sk_dup2I, sk_popI, sk_ifeq, sk_ifne, sk_iflt, sk_ifge, sk_ifgt, sk_ifle, sk_iceq, sk_icne, sk_iclt, sk_icge, sk_icgt, sk_icle, sk_goto, sk_getf, sk_putf, sk_gets, sk_iald, sk_lald, sk_bald, sk_aald, sk_iast, sk_last, sk_bast, sk_aast, sk_alen, sk_newa, sk_newt, sk_new, sk_cs1, sk_cs2, sk_cs3, sk_cs4, sk_cs5, sk_cs6, sk_cv1, sk_cv2, sk_cv3, sk_cv4, sk_cv5, sk_cv6, sk_ci1, sk_ci2, sk_ci3, sk_ret0, sk_retI, sk_retL, sk_retR, sk_sw, sk_oin, sk_max, sk_min, sk_abs, lI_0, lI_s, lL_0, lL_s, lR_0, lR_s, vIo_e, vLo_e, vOo_e, stW_I, stW_L, stW_R, stW_0, stW_z, okSt_0, okSt_s, hV_eq, hK_eq, okF_0, okF_1, okF_3, is01_0, is01_1, is01_i, Int.toNat_natCast, Int.reduceEq, Int.reduceLE, Int.reduceLT, Int.reduceNeg, Nat.reduceLT, not_true_eq_false, not_false_eq_true, reduceIte, Option.toList, List.cons_append, List.nil_append, List.set_cons_zero, List.set_cons_succ, List.not_mem_nil, List.mem_cons, if_false, if_true, ite_true, ite_false, and_self, and_true, true_and, Nat.reduceAdd, Nat.reduceLeDiff, Nat.reduceEqDiff, Nat.zero_add, Nat.le_refl, Nat.zero_le, or_false, false_or, Int.reduceToNat, or_true, true_or, eq_self, and_false, false_and, inR_d, nc_4, nc_5, nc_6, nc_7, nc_8, nc_16, nc_18, nc_20, nc_24, nc_32, nc_40, nc_64, nc_104, nc_120, nc_160, nc_256, nc_300, nc_330, nc_390, nc_1200, nc_1260, nc_3012, nc_9834, okSt_1i, okSt_1r, okSt_1n, List.length_cons, List.length_nil, xpk_succ cd_179_9, xpk_succ cd_179_11, xpk_succ cd_179_14, xpk_succ cd_179_17, xpk_succ cd_179_19, xpk_succ cd_179_20, xpk_succ cd_179_21, xpk_succ cd_179_24, xpk_succ cd_179_26, xpk_succ cd_179_28, xpk_succ cd_179_29, xpk_succ cd_179_31, xpk_succ cd_179_33, xpk_succ cd_179_35, xpk_succ cd_179_37, xpk_succ cd_179_39, xpk_succ cd_179_42, z, c, g, zb]
      exact x
set_option maxHeartbeats 4000000 in
theorem X_low {d : Nat} {h : AH} {a b s : Int} (h1 : 0 ≤ a ∧ a ≤ 100000000) (h2 : 0 ≤ b ∧ b ≤ 100000000) (Q : Option AV → AH → Prop) : XC (d + 1) 179 [vL a, vL (a + b), vI s] h Q = Q (some (vL (lfE s a b))) h := by
  refine XC_eq (Nat.le_of_ble_eq_true rfl) ?_ Q
  show XP d 179 0 [some (vL a), none, some (vL (a + b)), none, some (vI s), none, none, none, none, none, none, none] [] h _
  have y := lt_l (d := d) (h := h) (u := a) (l := a + b) (s := s) (Q := fun r1 h1 => r1 = some (vL (lfE s a b)) ∧ h1 = h) 200 0 a (a + b) none none rfl ?_
  · refine xpk_sound (stops := [9]) (n := 20) ?_
    simp only [sk_0, sk_1, sk_2, sk_3, sk_4, sk_5, sk_6, sk_7, sk_8, sk_iadd, sk_isub, sk_imul, sk_iand, sk_ior, sk_ixor, sk_ishl, sk_ishr, sk_iushr, sk_idiv, sk_irem, sk_ineg, sk_ladd, sk_lsub, sk_lmul, sk_land, sk_lor, sk_ldiv, sk_lrem, sk_lneg, sk_lshl, sk_lshr, sk_i2l, sk_l2i, sk_lcmp, sk_dupI, sk_dupR, sk_dup2L, sk_dup2I, sk_popI, sk_ifeq, sk_ifne, sk_iflt, sk_ifge, sk_ifgt, sk_ifle, sk_iceq, sk_icne, sk_iclt, sk_icge, sk_icgt, sk_icle, sk_goto, sk_getf, sk_putf, sk_gets, sk_iald, sk_lald, sk_bald, sk_aald, sk_iast, sk_last, sk_bast, sk_aast, sk_alen, sk_newa, sk_newt, sk_new, sk_cs1, sk_cs2, sk_cs3, sk_cs4, sk_cs5, sk_cs6, sk_cv1, sk_cv2, sk_cv3, sk_cv4, sk_cv5, sk_cv6, sk_ci1, sk_ci2, sk_ci3, sk_ret0, sk_retI, sk_retL, sk_retR, sk_sw, sk_oin, sk_max, sk_min, sk_abs, lI_0, lI_s, lL_0, lL_s, lR_0, lR_s, vIo_e, vLo_e, vOo_e, stW_I, stW_L, stW_R, stW_0, stW_z, okSt_0, okSt_s, hV_eq, hK_eq, okF_0, okF_1, okF_3, is01_0, is01_1, is01_i, Int.toNat_natCast, Int.reduceEq, Int.reduceLE, Int.reduceLT, Int.reduceNeg, Nat.reduceLT, not_true_eq_false, not_false_eq_true, reduceIte, Option.toList, List.cons_append, List.nil_append, List.set_cons_zero, List.set_cons_succ, List.not_mem_nil, List.mem_cons, if_false, if_true, ite_true, ite_false, and_self, and_true, true_and, Nat.reduceAdd, Nat.reduceLeDiff, Nat.reduceEqDiff, Nat.zero_add, Nat.le_refl, Nat.zero_le, or_false, false_or, Int.reduceToNat, or_true, true_or, eq_self, and_false, false_and, inR_d, nc_4, nc_5, nc_6, nc_7, nc_8, nc_16, nc_18, nc_20, nc_24, nc_32, nc_40, nc_64, nc_104, nc_120, nc_160, nc_256, nc_300, nc_330, nc_390, nc_1200, nc_1260, nc_3012, nc_9834, okSt_1i, okSt_1r, okSt_1n, List.length_cons, List.length_nil, xpk_succ cd_179_0, xpk_succ cd_179_1, xpk_succ cd_179_3, xpk_succ cd_179_4, xpk_succ cd_179_6, xpk_succ cd_179_7, Int.natCast_zero]
    exact y
  · intro b' i' l10 l11
    have re : rE 200 a (a + b) := rE_k 28 200 a (a + b) (by decide) h1.1 (by omega) (by have e : (2 : Int) ^ 28 = 268435456 := rfl; rw [e]; omega)
    by_cases z : a + b = 0
    · have za : a = 0 := by omega
      have zg : cmE 200 a (a + b) = 0 := by rw [z, cmE_0]; exact za
      have c := lc_0 zg
      by_cases zs : s = 0
      · have y : lfE s a b = 0 := by unfold lfE; rw [if_pos z, if_pos zs]
        rw [y]
        refine xpk_sound (stops := []) (n := 30) ?_
        simp only [sk_0, sk_1, sk_2, sk_3, sk_4, sk_5, sk_6, sk_7, sk_8, sk_iadd, sk_isub, sk_imul, sk_iand, sk_ior, sk_ixor, sk_ishl, sk_ishr, sk_iushr, sk_idiv, sk_irem, sk_ineg, sk_ladd, sk_lsub, sk_lmul, sk_land, sk_lor, sk_ldiv, sk_lrem, sk_lneg, sk_lshl, sk_lshr, sk_i2l, sk_l2i, sk_lcmp, sk_dupI, sk_dupR, sk_dup2L, sk_dup2I, sk_popI, sk_ifeq, sk_ifne, sk_iflt, sk_ifge, sk_ifgt, sk_ifle, sk_iceq, sk_icne, sk_iclt, sk_icge, sk_icgt, sk_icle, sk_goto, sk_getf, sk_putf, sk_gets, sk_iald, sk_lald, sk_bald, sk_aald, sk_iast, sk_last, sk_bast, sk_aast, sk_alen, sk_newa, sk_newt, sk_new, sk_cs1, sk_cs2, sk_cs3, sk_cs4, sk_cs5, sk_cs6, sk_cv1, sk_cv2, sk_cv3, sk_cv4, sk_cv5, sk_cv6, sk_ci1, sk_ci2, sk_ci3, sk_ret0, sk_retI, sk_retL, sk_retR, sk_sw, sk_oin, sk_max, sk_min, sk_abs, lI_0, lI_s, lL_0, lL_s, lR_0, lR_s, vIo_e, vLo_e, vOo_e, stW_I, stW_L, stW_R, stW_0, stW_z, okSt_0, okSt_s, hV_eq, hK_eq, okF_0, okF_1, okF_3, is01_0, is01_1, is01_i, Int.toNat_natCast, Int.reduceEq, Int.reduceLE, Int.reduceLT, Int.reduceNeg, Nat.reduceLT, not_true_eq_false, not_false_eq_true, reduceIte, Option.toList, List.cons_append, List.nil_append, List.set_cons_zero, List.set_cons_succ, List.not_mem_nil, List.mem_cons, if_false, if_true, ite_true, ite_false, and_self, and_true, true_and, Nat.reduceAdd, Nat.reduceLeDiff, Nat.reduceEqDiff, Nat.zero_add, Nat.le_refl, Nat.zero_le, or_false, false_or, Int.reduceToNat, or_true, true_or, eq_self, and_false, false_and, inR_d, nc_4, nc_5, nc_6, nc_7, nc_8, nc_16, nc_18, nc_20, nc_24, nc_32, nc_40, nc_64, nc_104, nc_120, nc_160, nc_256, nc_300, nc_330, nc_390, nc_1200, nc_1260, nc_3012, nc_9834, okSt_1i, okSt_1r, okSt_1n, List.length_cons, List.length_nil, xpk_succ cd_179_45, xpk_succ cd_179_47, xpk_succ cd_179_48, xpk_succ cd_179_49, xpk_succ cd_179_52, xpk_succ cd_179_54, xpk_succ cd_179_57, xpk_succ cd_179_58, xpk_succ cd_179_61, xpk_succ cd_179_62, c, zs]
      · have y : lfE s a b = 1 := by unfold lfE; rw [if_pos z, if_neg zs]
        rw [y]
        refine xpk_sound (stops := []) (n := 30) ?_
        simp only [sk_0, sk_1, sk_2, sk_3, sk_4, sk_5, sk_6, sk_7, sk_8, sk_iadd, sk_isub, sk_imul, sk_iand, sk_ior, sk_ixor, sk_ishl, sk_ishr, sk_iushr, sk_idiv, sk_irem, sk_ineg, sk_ladd, sk_lsub, sk_lmul, sk_land, sk_lor, sk_ldiv, sk_lrem, sk_lneg, sk_lshl, sk_lshr, sk_i2l, sk_l2i, sk_lcmp, sk_dupI, sk_dupR, sk_dup2L, sk_dup2I, sk_popI, sk_ifeq, sk_ifne, sk_iflt, sk_ifge, sk_ifgt, sk_ifle, sk_iceq, sk_icne, sk_iclt, sk_icge, sk_icgt, sk_icle, sk_goto, sk_getf, sk_putf, sk_gets, sk_iald, sk_lald, sk_bald, sk_aald, sk_iast, sk_last, sk_bast, sk_aast, sk_alen, sk_newa, sk_newt, sk_new, sk_cs1, sk_cs2, sk_cs3, sk_cs4, sk_cs5, sk_cs6, sk_cv1, sk_cv2, sk_cv3, sk_cv4, sk_cv5, sk_cv6, sk_ci1, sk_ci2, sk_ci3, sk_ret0, sk_retI, sk_retL, sk_retR, sk_sw, sk_oin, sk_max, sk_min, sk_abs, lI_0, lI_s, lL_0, lL_s, lR_0, lR_s, vIo_e, vLo_e, vOo_e, stW_I, stW_L, stW_R, stW_0, stW_z, okSt_0, okSt_s, hV_eq, hK_eq, okF_0, okF_1, okF_3, is01_0, is01_1, is01_i, Int.toNat_natCast, Int.reduceEq, Int.reduceLE, Int.reduceLT, Int.reduceNeg, Nat.reduceLT, not_true_eq_false, not_false_eq_true, reduceIte, Option.toList, List.cons_append, List.nil_append, List.set_cons_zero, List.set_cons_succ, List.not_mem_nil, List.mem_cons, if_false, if_true, ite_true, ite_false, and_self, and_true, true_and, Nat.reduceAdd, Nat.reduceLeDiff, Nat.reduceEqDiff, Nat.zero_add, Nat.le_refl, Nat.zero_le, or_false, false_or, Int.reduceToNat, or_true, true_or, eq_self, and_false, false_and, inR_d, nc_4, nc_5, nc_6, nc_7, nc_8, nc_16, nc_18, nc_20, nc_24, nc_32, nc_40, nc_64, nc_104, nc_120, nc_160, nc_256, nc_300, nc_330, nc_390, nc_1200, nc_1260, nc_3012, nc_9834, okSt_1i, okSt_1r, okSt_1n, List.length_cons, List.length_nil, xpk_succ cd_179_45, xpk_succ cd_179_47, xpk_succ cd_179_48, xpk_succ cd_179_49, xpk_succ cd_179_52, xpk_succ cd_179_54, xpk_succ cd_179_57, xpk_succ cd_179_58, xpk_succ cd_179_61, xpk_succ cd_179_62, c, zs]
    · have zg : cmE 200 a (a + b) ≠ 0 := cmE_n 200 a (a + b) (Or.inr z) re
      have c := lc_1 zg
      by_cases zs : s = 0
      · have y : lfE s a b = w64 (a.tdiv (cmE 200 a (a + b))) := by unfold lfE; rw [if_neg z, if_pos zs]
        rw [y]
        refine xpk_sound (stops := []) (n := 30) ?_
        simp only [sk_0, sk_1, sk_2, sk_3, sk_4, sk_5, sk_6, sk_7, sk_8, sk_iadd, sk_isub, sk_imul, sk_iand, sk_ior, sk_ixor, sk_ishl, sk_ishr, sk_iushr, sk_idiv, sk_irem, sk_ineg, sk_ladd, sk_lsub, sk_lmul, sk_land, sk_lor, sk_ldiv, sk_lrem, sk_lneg, sk_lshl, sk_lshr, sk_i2l, sk_l2i, sk_lcmp, sk_dupI, sk_dupR, sk_dup2L, sk_dup2I, sk_popI, sk_ifeq, sk_ifne, sk_iflt, sk_ifge, sk_ifgt, sk_ifle, sk_iceq, sk_icne, sk_iclt, sk_icge, sk_icgt, sk_icle, sk_goto, sk_getf, sk_putf, sk_gets, sk_iald, sk_lald, sk_bald, sk_aald, sk_iast, sk_last, sk_bast, sk_aast, sk_alen, sk_newa, sk_newt, sk_new, sk_cs1, sk_cs2, sk_cs3, sk_cs4, sk_cs5, sk_cs6, sk_cv1, sk_cv2, sk_cv3, sk_cv4, sk_cv5, sk_cv6, sk_ci1, sk_ci2, sk_ci3, sk_ret0, sk_retI, sk_retL, sk_retR, sk_sw, sk_oin, sk_max, sk_min, sk_abs, lI_0, lI_s, lL_0, lL_s, lR_0, lR_s, vIo_e, vLo_e, vOo_e, stW_I, stW_L, stW_R, stW_0, stW_z, okSt_0, okSt_s, hV_eq, hK_eq, okF_0, okF_1, okF_3, is01_0, is01_1, is01_i, Int.toNat_natCast, Int.reduceEq, Int.reduceLE, Int.reduceLT, Int.reduceNeg, Nat.reduceLT, not_true_eq_false, not_false_eq_true, reduceIte, Option.toList, List.cons_append, List.nil_append, List.set_cons_zero, List.set_cons_succ, List.not_mem_nil, List.mem_cons, if_false, if_true, ite_true, ite_false, and_self, and_true, true_and, Nat.reduceAdd, Nat.reduceLeDiff, Nat.reduceEqDiff, Nat.zero_add, Nat.le_refl, Nat.zero_le, or_false, false_or, Int.reduceToNat, or_true, true_or, eq_self, and_false, false_and, inR_d, nc_4, nc_5, nc_6, nc_7, nc_8, nc_16, nc_18, nc_20, nc_24, nc_32, nc_40, nc_64, nc_104, nc_120, nc_160, nc_256, nc_300, nc_330, nc_390, nc_1200, nc_1260, nc_3012, nc_9834, okSt_1i, okSt_1r, okSt_1n, List.length_cons, List.length_nil, xpk_succ cd_179_45, xpk_succ cd_179_47, xpk_succ cd_179_48, xpk_succ cd_179_49, xpk_succ cd_179_52, xpk_succ cd_179_54, xpk_succ cd_179_57, xpk_succ cd_179_58, xpk_succ cd_179_61, xpk_succ cd_179_62, xpk_succ cd_179_63, xpk_succ cd_179_65, xpk_succ cd_179_68, xpk_succ cd_179_69, xpk_succ cd_179_71, xpk_succ cd_179_72, xpk_succ cd_179_75, xpk_succ cd_179_76, xpk_succ cd_179_78, xpk_succ cd_179_79, c, zg, zs]
      · have y : lfE s a b = w64 ((a + b).tdiv (cmE 200 a (a + b))) := by unfold lfE; rw [if_neg z, if_neg zs]
        rw [y]
        refine xpk_sound (stops := []) (n := 30) ?_
        simp only [sk_0, sk_1, sk_2, sk_3, sk_4, sk_5, sk_6, sk_7, sk_8, sk_iadd, sk_isub, sk_imul, sk_iand, sk_ior, sk_ixor, sk_ishl, sk_ishr, sk_iushr, sk_idiv, sk_irem, sk_ineg, sk_ladd, sk_lsub, sk_lmul, sk_land, sk_lor, sk_ldiv, sk_lrem, sk_lneg, sk_lshl, sk_lshr, sk_i2l, sk_l2i, sk_lcmp, sk_dupI, sk_dupR, sk_dup2L, sk_dup2I, sk_popI, sk_ifeq, sk_ifne, sk_iflt, sk_ifge, sk_ifgt, sk_ifle, sk_iceq, sk_icne, sk_iclt, sk_icge, sk_icgt, sk_icle, sk_goto, sk_getf, sk_putf, sk_gets, sk_iald, sk_lald, sk_bald, sk_aald, sk_iast, sk_last, sk_bast, sk_aast, sk_alen, sk_newa, sk_newt, sk_new, sk_cs1, sk_cs2, sk_cs3, sk_cs4, sk_cs5, sk_cs6, sk_cv1, sk_cv2, sk_cv3, sk_cv4, sk_cv5, sk_cv6, sk_ci1, sk_ci2, sk_ci3, sk_ret0, sk_retI, sk_retL, sk_retR, sk_sw, sk_oin, sk_max, sk_min, sk_abs, lI_0, lI_s, lL_0, lL_s, lR_0, lR_s, vIo_e, vLo_e, vOo_e, stW_I, stW_L, stW_R, stW_0, stW_z, okSt_0, okSt_s, hV_eq, hK_eq, okF_0, okF_1, okF_3, is01_0, is01_1, is01_i, Int.toNat_natCast, Int.reduceEq, Int.reduceLE, Int.reduceLT, Int.reduceNeg, Nat.reduceLT, not_true_eq_false, not_false_eq_true, reduceIte, Option.toList, List.cons_append, List.nil_append, List.set_cons_zero, List.set_cons_succ, List.not_mem_nil, List.mem_cons, if_false, if_true, ite_true, ite_false, and_self, and_true, true_and, Nat.reduceAdd, Nat.reduceLeDiff, Nat.reduceEqDiff, Nat.zero_add, Nat.le_refl, Nat.zero_le, or_false, false_or, Int.reduceToNat, or_true, true_or, eq_self, and_false, false_and, inR_d, nc_4, nc_5, nc_6, nc_7, nc_8, nc_16, nc_18, nc_20, nc_24, nc_32, nc_40, nc_64, nc_104, nc_120, nc_160, nc_256, nc_300, nc_330, nc_390, nc_1200, nc_1260, nc_3012, nc_9834, okSt_1i, okSt_1r, okSt_1n, List.length_cons, List.length_nil, xpk_succ cd_179_45, xpk_succ cd_179_47, xpk_succ cd_179_48, xpk_succ cd_179_49, xpk_succ cd_179_52, xpk_succ cd_179_54, xpk_succ cd_179_57, xpk_succ cd_179_58, xpk_succ cd_179_61, xpk_succ cd_179_62, xpk_succ cd_179_63, xpk_succ cd_179_65, xpk_succ cd_179_68, xpk_succ cd_179_69, xpk_succ cd_179_71, xpk_succ cd_179_72, xpk_succ cd_179_75, xpk_succ cd_179_76, xpk_succ cd_179_78, xpk_succ cd_179_79, c, zg, zs]
set_option maxHeartbeats 2000000 in
theorem lC_l {d n : Nat} {h : AH} (hJ : k_H JB h) {s : Int} (hn : (n : Int) = fI h 1 10) (hf : ∀ i, i < n → 0 ≤ fI h 7 i ∧ fI h 7 i ≤ 10) {Q : Option AV → AH → Prop} (y : XP d 165 59 [some (vR 0), some (vI s), some (vL (lpA (fI h 7) n)), none, some (vL (lpB (fI h 7) n)), none, some (vI (n : Int))] [] h Q) : ∀ (e k : Nat), k + e = n → XP d 165 8 [some (vR 0), some (vI s), some (vL (lpA (fI h 7) k)), none, some (vL (lpB (fI h 7) k)), none, some (vI (k : Int))] [] h Q := by
  obtain ⟨en, n0, n8⟩ := I_1_10 hJ
  rw [← hn] at en n8
  intro e
  induction e with
  | zero =>
    intro k hk
    obtain rfl : k = n := by omega
    refine xpk_sound (stops := [59]) (n := 20) ?_
    simp only [sk_0, sk_1, sk_2, sk_3, sk_4, sk_5, sk_6, sk_7, sk_8, sk_iadd, sk_isub, sk_imul, sk_iand, sk_ior, sk_ixor, sk_ishl, sk_ishr, sk_iushr, sk_idiv, sk_irem, sk_ineg, sk_ladd, sk_lsub, sk_lmul, sk_land, sk_lor, sk_ldiv, sk_lrem, sk_lneg, sk_lshl, sk_lshr, sk_i2l, sk_l2i, sk_lcmp, sk_dupI, sk_dupR, sk_dup2L, sk_dup2I, sk_popI, sk_ifeq, sk_ifne, sk_iflt, sk_ifge, sk_ifgt, sk_ifle, sk_iceq, sk_icne, sk_iclt, sk_icge, sk_icgt, sk_icle, sk_goto, sk_getf, sk_putf, sk_gets, sk_iald, sk_lald, sk_bald, sk_aald, sk_iast, sk_last, sk_bast, sk_aast, sk_alen, sk_newa, sk_newt, sk_new, sk_cs1, sk_cs2, sk_cs3, sk_cs4, sk_cs5, sk_cs6, sk_cv1, sk_cv2, sk_cv3, sk_cv4, sk_cv5, sk_cv6, sk_ci1, sk_ci2, sk_ci3, sk_ret0, sk_retI, sk_retL, sk_retR, sk_sw, sk_oin, sk_max, sk_min, sk_abs, lI_0, lI_s, lL_0, lL_s, lR_0, lR_s, vIo_e, vLo_e, vOo_e, stW_I, stW_L, stW_R, stW_0, stW_z, okSt_0, okSt_s, hV_eq, hK_eq, okF_0, okF_1, okF_3, is01_0, is01_1, is01_i, Int.toNat_natCast, Int.reduceEq, Int.reduceLE, Int.reduceLT, Int.reduceNeg, Nat.reduceLT, not_true_eq_false, not_false_eq_true, reduceIte, Option.toList, List.cons_append, List.nil_append, List.set_cons_zero, List.set_cons_succ, List.not_mem_nil, List.mem_cons, if_false, if_true, ite_true, ite_false, and_self, and_true, true_and, Nat.reduceAdd, Nat.reduceLeDiff, Nat.reduceEqDiff, Nat.zero_add, Nat.le_refl, Nat.zero_le, or_false, false_or, Int.reduceToNat, or_true, true_or, eq_self, and_false, false_and, inR_d, nc_4, nc_5, nc_6, nc_7, nc_8, nc_16, nc_18, nc_20, nc_24, nc_32, nc_40, nc_64, nc_104, nc_120, nc_160, nc_256, nc_300, nc_330, nc_390, nc_1200, nc_1260, nc_3012, nc_9834, okSt_1i, okSt_1r, okSt_1n, List.length_cons, List.length_nil, xpk_succ cd_165_8, xpk_succ cd_165_10, xpk_succ cd_165_11, xpk_succ cd_165_14, xpk_succ cd_165_17, en, K_0 hJ, K_1 hJ, F_0_0 hJ, Int.le_refl]
    exact y
  | succ e ih =>
    intro k hk
    have x := ih (k + 1) (by omega)
    have z : ¬ ((n : Int) ≤ (k : Int)) := by omega
    have v := (A_7_0 (i := k) hJ (Nat.zero_le _) (by omega)).1
    have b : (0 : Int) ≤ (k : Int) ∧ (k : Int) < 8 := by omega
    obtain ⟨w1, w2, w3, w4⟩ := lp_w hf (by omega) (show k < n by omega)
    refine xpk_sound (stops := [8]) (n := 60) ?_
    simp only [sk_0, sk_1, sk_2, sk_3, sk_4, sk_5, sk_6, sk_7, sk_8, sk_iadd, sk_isub, sk_imul, sk_iand, sk_ior, sk_ixor, sk_ishl, sk_ishr, sk_iushr, sk_idiv, sk_irem, sk_ineg, sk_ladd, sk_lsub, sk_lmul, sk_land, sk_lor, sk_ldiv, sk_lrem, sk_lneg, sk_lshl, sk_lshr, sk_i2l, sk_l2i, sk_lcmp, sk_dupI, sk_dupR, sk_dup2L, sk_dup2I, sk_popI, sk_ifeq, sk_ifne, sk_iflt, sk_ifge, sk_ifgt, sk_ifle, sk_iceq, sk_icne, sk_iclt, sk_icge, sk_icgt, sk_icle, sk_goto, sk_getf, sk_putf, sk_gets, sk_iald, sk_lald, sk_bald, sk_aald, sk_iast, sk_last, sk_bast, sk_aast, sk_alen, sk_newa, sk_newt, sk_new, sk_cs1, sk_cs2, sk_cs3, sk_cs4, sk_cs5, sk_cs6, sk_cv1, sk_cv2, sk_cv3, sk_cv4, sk_cv5, sk_cv6, sk_ci1, sk_ci2, sk_ci3, sk_ret0, sk_retI, sk_retL, sk_retR, sk_sw, sk_oin, sk_max, sk_min, sk_abs, lI_0, lI_s, lL_0, lL_s, lR_0, lR_s, vIo_e, vLo_e, vOo_e, stW_I, stW_L, stW_R, stW_0, stW_z, okSt_0, okSt_s, hV_eq, hK_eq, okF_0, okF_1, okF_3, is01_0, is01_1, is01_i, Int.toNat_natCast, Int.reduceEq, Int.reduceLE, Int.reduceLT, Int.reduceNeg, Nat.reduceLT, not_true_eq_false, not_false_eq_true, reduceIte, Option.toList, List.cons_append, List.nil_append, List.set_cons_zero, List.set_cons_succ, List.not_mem_nil, List.mem_cons, if_false, if_true, ite_true, ite_false, and_self, and_true, true_and, Nat.reduceAdd, Nat.reduceLeDiff, Nat.reduceEqDiff, Nat.zero_add, Nat.le_refl, Nat.zero_le, or_false, false_or, Int.reduceToNat, or_true, true_or, eq_self, and_false, false_and, inR_d, nc_4, nc_5, nc_6, nc_7, nc_8, nc_16, nc_18, nc_20, nc_24, nc_32, nc_40, nc_64, nc_104, nc_120, nc_160, nc_256, nc_300, nc_330, nc_390, nc_1200, nc_1260, nc_3012, nc_9834, okSt_1i, okSt_1r, okSt_1n, List.length_cons, List.length_nil, xpk_succ cd_165_8, xpk_succ cd_165_10, xpk_succ cd_165_11, xpk_succ cd_165_14, xpk_succ cd_165_17, xpk_succ cd_165_20, xpk_succ cd_165_21, xpk_succ cd_165_22, xpk_succ cd_165_25, xpk_succ cd_165_28, xpk_succ cd_165_30, xpk_succ cd_165_31, xpk_succ cd_165_32, xpk_succ cd_165_33, xpk_succ cd_165_34, xpk_succ cd_165_36, xpk_succ cd_165_38, xpk_succ cd_165_39, xpk_succ cd_165_42, xpk_succ cd_165_45, xpk_succ cd_165_47, xpk_succ cd_165_48, xpk_succ cd_165_49, xpk_succ cd_165_50, xpk_succ cd_165_51, xpk_succ cd_165_53, xpk_succ cd_165_56, en, z, v, b, w1, w2, w3, w4, K_0 hJ, K_1 hJ, K_7 hJ, F_0_0 hJ, F_1_9 hJ]
    exact x
theorem X_leftC {d : Nat} {h : AH} (hJ : k_H JB h) {s : Int} {n : Nat} (hn : (n : Int) = fI h 1 10) (Q : Option AV → AH → Prop) : XC (d + 2) 165 [vR 0, vI s] h Q = Q (some (vL (lfE s (lpA (fI h 7) n) (lpB (fI h 7) n)))) h := by
  refine XC_eq (Nat.le_of_ble_eq_true rfl) ?_ Q
  show XP (d + 1) 165 0 [some (vR 0), some (vI s), none, none, none, none, none] [] h _
  have n8 := (I_1_10 hJ).2.2
  have hf : ∀ i, i < n → 0 ≤ fI h 7 i ∧ fI h 7 i ≤ 10 := fun i hi => (A_7_0 (i := i) hJ (Nat.zero_le _) (by omega)).2
  obtain ⟨b1, b2⟩ := lp_b hf n (Nat.le_refl _)
  have p := p10_8 (k := n) (by omega)
  have c1 : ∀ Q : Option AV → AH → Prop, XC (d + 1) 179 [vL (lpA (fI h 7) n), vL (lpA (fI h 7) n + lpB (fI h 7) n), vI s] h Q = Q (some (vL (lfE s (lpA (fI h 7) n) (lpB (fI h 7) n)))) h := fun Q => X_low ⟨b1.1, Int.le_trans b1.2 p⟩ ⟨b2.1, Int.le_trans b2.2 p⟩ Q
  have g : w64 (lpA (fI h 7) n + lpB (fI h 7) n) = lpA (fI h 7) n + lpB (fI h 7) n := w64_s (by omega) (by omega)
  have y := lC_l (d := d + 1) (s := s) hJ hn hf (Q := fun r1 h1 => r1 = some (vL (lfE s (lpA (fI h 7) n) (lpB (fI h 7) n))) ∧ h1 = h) (by
    refine xpk_sound (stops := []) (n := 20) ?_
    simp only [sk_0, sk_1, sk_2, sk_3, sk_4, sk_5, sk_6, sk_7, sk_8, sk_iadd, sk_isub, sk_imul, sk_iand, sk_ior, sk_ixor, sk_ishl, sk_ishr, sk_iushr, sk_idiv, sk_irem, sk_ineg, sk_ladd, sk_lsub, sk_lmul, sk_land, sk_lor, sk_ldiv, sk_lrem, sk_lneg, sk_lshl, sk_lshr, sk_i2l, sk_l2i, sk_lcmp, sk_dupI, sk_dupR, sk_dup2L, sk_dup2I, sk_popI, sk_ifeq, sk_ifne, sk_iflt, sk_ifge, sk_ifgt, sk_ifle, sk_iceq, sk_icne, sk_iclt, sk_icge, sk_icgt, sk_icle, sk_goto, sk_getf, sk_putf, sk_gets, sk_iald, sk_lald, sk_bald, sk_aald, sk_iast, sk_last, sk_bast, sk_aast, sk_alen, sk_newa, sk_newt, sk_new, sk_cs1, sk_cs2, sk_cs3, sk_cs4, sk_cs5, sk_cs6, sk_cv1, sk_cv2, sk_cv3, sk_cv4, sk_cv5, sk_cv6, sk_ci1, sk_ci2, sk_ci3, sk_ret0, sk_retI, sk_retL, sk_retR, sk_sw, sk_oin, sk_max, sk_min, sk_abs, lI_0, lI_s, lL_0, lL_s, lR_0, lR_s, vIo_e, vLo_e, vOo_e, stW_I, stW_L, stW_R, stW_0, stW_z, okSt_0, okSt_s, hV_eq, hK_eq, okF_0, okF_1, okF_3, is01_0, is01_1, is01_i, Int.toNat_natCast, Int.reduceEq, Int.reduceLE, Int.reduceLT, Int.reduceNeg, Nat.reduceLT, not_true_eq_false, not_false_eq_true, reduceIte, Option.toList, List.cons_append, List.nil_append, List.set_cons_zero, List.set_cons_succ, List.not_mem_nil, List.mem_cons, if_false, if_true, ite_true, ite_false, and_self, and_true, true_and, Nat.reduceAdd, Nat.reduceLeDiff, Nat.reduceEqDiff, Nat.zero_add, Nat.le_refl, Nat.zero_le, or_false, false_or, Int.reduceToNat, or_true, true_or, eq_self, and_false, false_and, inR_d, nc_4, nc_5, nc_6, nc_7, nc_8, nc_16, nc_18, nc_20, nc_24, nc_32, nc_40, nc_64, nc_104, nc_120, nc_160, nc_256, nc_300, nc_330, nc_390, nc_1200, nc_1260, nc_3012, nc_9834, okSt_1i, okSt_1r, okSt_1n, List.length_cons, List.length_nil, xpk_succ cd_165_59, xpk_succ cd_165_60, xpk_succ cd_165_61, xpk_succ cd_165_63, xpk_succ cd_165_64, xpk_succ cd_165_65, xpk_succ cd_165_68, c1, g]) n 0 (Nat.zero_add _)
  have y : XP (d + 1) 165 8 [some (vR 0), some (vI s), some (vL 1), none, some (vL 1), none, some (vI 0)] [] h (fun r1 h1 => r1 = some (vL (lfE s (lpA (fI h 7) n) (lpB (fI h 7) n))) ∧ h1 = h) := y
  refine xpk_sound (stops := [8]) (n := 20) ?_
  simp only [sk_0, sk_1, sk_2, sk_3, sk_4, sk_5, sk_6, sk_7, sk_8, sk_iadd, sk_isub, sk_imul, sk_iand, sk_ior, sk_ixor, sk_ishl, sk_ishr, sk_iushr, sk_idiv, sk_irem, sk_ineg, sk_ladd, sk_lsub, sk_lmul, sk_land, sk_lor, sk_ldiv, sk_lrem, sk_lneg, sk_lshl, sk_lshr, sk_i2l, sk_l2i, sk_lcmp, sk_dupI, sk_dupR, sk_dup2L, sk_dup2I, sk_popI, sk_ifeq, sk_ifne, sk_iflt, sk_ifge, sk_ifgt, sk_ifle, sk_iceq, sk_icne, sk_iclt, sk_icge, sk_icgt, sk_icle, sk_goto, sk_getf, sk_putf, sk_gets, sk_iald, sk_lald, sk_bald, sk_aald, sk_iast, sk_last, sk_bast, sk_aast, sk_alen, sk_newa, sk_newt, sk_new, sk_cs1, sk_cs2, sk_cs3, sk_cs4, sk_cs5, sk_cs6, sk_cv1, sk_cv2, sk_cv3, sk_cv4, sk_cv5, sk_cv6, sk_ci1, sk_ci2, sk_ci3, sk_ret0, sk_retI, sk_retL, sk_retR, sk_sw, sk_oin, sk_max, sk_min, sk_abs, lI_0, lI_s, lL_0, lL_s, lR_0, lR_s, vIo_e, vLo_e, vOo_e, stW_I, stW_L, stW_R, stW_0, stW_z, okSt_0, okSt_s, hV_eq, hK_eq, okF_0, okF_1, okF_3, is01_0, is01_1, is01_i, Int.toNat_natCast, Int.reduceEq, Int.reduceLE, Int.reduceLT, Int.reduceNeg, Nat.reduceLT, not_true_eq_false, not_false_eq_true, reduceIte, Option.toList, List.cons_append, List.nil_append, List.set_cons_zero, List.set_cons_succ, List.not_mem_nil, List.mem_cons, if_false, if_true, ite_true, ite_false, and_self, and_true, true_and, Nat.reduceAdd, Nat.reduceLeDiff, Nat.reduceEqDiff, Nat.zero_add, Nat.le_refl, Nat.zero_le, or_false, false_or, Int.reduceToNat, or_true, true_or, eq_self, and_false, false_and, inR_d, nc_4, nc_5, nc_6, nc_7, nc_8, nc_16, nc_18, nc_20, nc_24, nc_32, nc_40, nc_64, nc_104, nc_120, nc_160, nc_256, nc_300, nc_330, nc_390, nc_1200, nc_1260, nc_3012, nc_9834, okSt_1i, okSt_1r, okSt_1n, List.length_cons, List.length_nil, xpk_succ cd_165_0, xpk_succ cd_165_1, xpk_succ cd_165_2, xpk_succ cd_165_3, xpk_succ cd_165_5, xpk_succ cd_165_6]
  exact y
set_option maxHeartbeats 2000000 in
theorem cmx_l {d : Nat} {h : AH} {x0 y0 : Int} : ∀ (f : Nat) (a b : Int) (l8 l9 : Option AV), rE f a b → XP d 311 6 [some (vL x0), none, some (vL y0), none, some (vL a), none, some (vL b), none, l8, l9] [] h (fun r h' => r = some (vL (cmE f a b)) ∧ h' = h) := by
  have z0 : ∀ (f : Nat) (a b : Int) (l8 l9 : Option AV), b = 0 → XP d 311 6 [some (vL x0), none, some (vL y0), none, some (vL a), none, some (vL b), none, l8, l9] [] h (fun r h' => r = some (vL (cmE f a b)) ∧ h' = h) := by
    intro f a b l8 l9 zb
    have e : cmE f a b = a := by rw [zb]; exact cmE_0
    rw [e]
    have c := lc_0 zb
    refine xpk_sound (stops := []) (n := 20) ?_
    simp only [sk_0, sk_1, sk_2, sk_3, sk_4, sk_5, sk_6, sk_7, sk_8, sk_iadd, sk_isub, sk_imul, sk_iand, sk_ior, sk_ixor, sk_ishl, sk_ishr, sk_iushr, sk_idiv, sk_irem, sk_ineg, sk_ladd, sk_lsub, sk_lmul, sk_land, sk_lor, sk_ldiv, sk_lrem, sk_lneg, sk_lshl, sk_lshr, sk_i2l, sk_l2i, sk_lcmp, sk_dupI, sk_dupR, sk_dup2L, sk_dup2I, sk_popI, sk_ifeq, sk_ifne, sk_iflt, sk_ifge, sk_ifgt, sk_ifle, sk_iceq, sk_icne, sk_iclt, sk_icge, sk_icgt, sk_icle, sk_goto, sk_getf, sk_putf, sk_gets, sk_iald, sk_lald, sk_bald, sk_aald, sk_iast, sk_last, sk_bast, sk_aast, sk_alen, sk_newa, sk_newt, sk_new, sk_cs1, sk_cs2, sk_cs3, sk_cs4, sk_cs5, sk_cs6, sk_cv1, sk_cv2, sk_cv3, sk_cv4, sk_cv5, sk_cv6, sk_ci1, sk_ci2, sk_ci3, sk_ret0, sk_retI, sk_retL, sk_retR, sk_sw, sk_oin, sk_max, sk_min, sk_abs, lI_0, lI_s, lL_0, lL_s, lR_0, lR_s, vIo_e, vLo_e, vOo_e, stW_I, stW_L, stW_R, stW_0, stW_z, okSt_0, okSt_s, hV_eq, hK_eq, okF_0, okF_1, okF_3, is01_0, is01_1, is01_i, Int.toNat_natCast, Int.reduceEq, Int.reduceLE, Int.reduceLT, Int.reduceNeg, Nat.reduceLT, not_true_eq_false, not_false_eq_true, reduceIte, Option.toList, List.cons_append, List.nil_append, List.set_cons_zero, List.set_cons_succ, List.not_mem_nil, List.mem_cons, if_false, if_true, ite_true, ite_false, and_self, and_true, true_and, Nat.reduceAdd, Nat.reduceLeDiff, Nat.reduceEqDiff, Nat.zero_add, Nat.le_refl, Nat.zero_le, or_false, false_or, Int.reduceToNat, or_true, true_or, eq_self, and_false, false_and, inR_d, nc_4, nc_5, nc_6, nc_7, nc_8, nc_16, nc_18, nc_20, nc_24, nc_32, nc_40, nc_64, nc_104, nc_120, nc_160, nc_256, nc_300, nc_330, nc_390, nc_1200, nc_1260, nc_3012, nc_9834, okSt_1i, okSt_1r, okSt_1n, List.length_cons, List.length_nil, xpk_succ cd_311_6, xpk_succ cd_311_8, xpk_succ cd_311_9, xpk_succ cd_311_10, xpk_succ cd_311_31, xpk_succ cd_311_33, c]
  intro f
  induction f with
  | zero => intro a b l8 l9 hb; exact z0 0 a b l8 l9 hb
  | succ f ih =>
    intro a b l8 l9 hb
    by_cases zb : b = 0
    · exact z0 (f + 1) a b l8 l9 zb
    · have x := ih b (a.tmod b) (some (vL (a.tmod b))) none (by
        rcases hb with hb | hb
        · exact absurd hb zb
        · exact hb)
      have e : cmE (f + 1) a b = cmE f b (a.tmod b) := if_neg zb
      rw [e]
      have c := lc_1 zb
      refine xpk_sound (stops := [6]) (n := 20) ?_
      simp only [sk_0, sk_1, sk_2, sk_3, sk_4, sk_5, sk_6, sk_7, sk_8, sk_iadd, sk_isub, sk_imul, sk_iand, sk_ior, sk_ixor, sk_ishl, sk_ishr, sk_iushr, sk_idiv, sk_irem, sk_ineg, sk_ladd, sk_lsub, sk_lmul, sk_land, sk_lor, sk_ldiv, sk_lrem, sk_lneg, sk_lshl, sk_lshr, sk_i2l, sk_l2i, sk_lcmp, sk_dupI, sk_dupR, sk_dup2L, sk_dup2I, sk_popI, sk_ifeq, sk_ifne, sk_iflt, sk_ifge, sk_ifgt, sk_ifle, sk_iceq, sk_icne, sk_iclt, sk_icge, sk_icgt, sk_icle, sk_goto, sk_getf, sk_putf, sk_gets, sk_iald, sk_lald, sk_bald, sk_aald, sk_iast, sk_last, sk_bast, sk_aast, sk_alen, sk_newa, sk_newt, sk_new, sk_cs1, sk_cs2, sk_cs3, sk_cs4, sk_cs5, sk_cs6, sk_cv1, sk_cv2, sk_cv3, sk_cv4, sk_cv5, sk_cv6, sk_ci1, sk_ci2, sk_ci3, sk_ret0, sk_retI, sk_retL, sk_retR, sk_sw, sk_oin, sk_max, sk_min, sk_abs, lI_0, lI_s, lL_0, lL_s, lR_0, lR_s, vIo_e, vLo_e, vOo_e, stW_I, stW_L, stW_R, stW_0, stW_z, okSt_0, okSt_s, hV_eq, hK_eq, okF_0, okF_1, okF_3, is01_0, is01_1, is01_i, Int.toNat_natCast, Int.reduceEq, Int.reduceLE, Int.reduceLT, Int.reduceNeg, Nat.reduceLT, not_true_eq_false, not_false_eq_true, reduceIte, Option.toList, List.cons_append, List.nil_append, List.set_cons_zero, List.set_cons_succ, List.not_mem_nil, List.mem_cons, if_false, if_true, ite_true, ite_false, and_self, and_true, true_and, Nat.reduceAdd, Nat.reduceLeDiff, Nat.reduceEqDiff, Nat.zero_add, Nat.le_refl, Nat.zero_le, or_false, false_or, Int.reduceToNat, or_true, true_or, eq_self, and_false, false_and, inR_d, nc_4, nc_5, nc_6, nc_7, nc_8, nc_16, nc_18, nc_20, nc_24, nc_32, nc_40, nc_64, nc_104, nc_120, nc_160, nc_256, nc_300, nc_330, nc_390, nc_1200, nc_1260, nc_3012, nc_9834, okSt_1i, okSt_1r, okSt_1n, List.length_cons, List.length_nil, xpk_succ cd_311_6, xpk_succ cd_311_8, xpk_succ cd_311_9, xpk_succ cd_311_10, xpk_succ cd_311_13, xpk_succ cd_311_15, xpk_succ cd_311_17, xpk_succ cd_311_18, xpk_succ cd_311_20, xpk_succ cd_311_22, xpk_succ cd_311_24, xpk_succ cd_311_26, xpk_succ cd_311_28, c, zb]
      exact x
theorem X_cmx {d : Nat} {h : AH} {a b : Int} (hr : rE 200 a b) (Q : Option AV → AH → Prop) : XC (d + 1) 311 [vL a, vL b] h Q = Q (some (vL (cmE 200 a b))) h := by
  refine XC_eq (Nat.le_of_ble_eq_true rfl) ?_ Q
  show XP d 311 0 [some (vL a), none, some (vL b), none, none, none, none, none, none, none] [] h _
  have y := cmx_l (d := d) (h := h) (x0 := a) (y0 := b) 200 a b none none hr
  refine xpk_sound (stops := [6]) (n := 20) ?_
  simp only [sk_0, sk_1, sk_2, sk_3, sk_4, sk_5, sk_6, sk_7, sk_8, sk_iadd, sk_isub, sk_imul, sk_iand, sk_ior, sk_ixor, sk_ishl, sk_ishr, sk_iushr, sk_idiv, sk_irem, sk_ineg, sk_ladd, sk_lsub, sk_lmul, sk_land, sk_lor, sk_ldiv, sk_lrem, sk_lneg, sk_lshl, sk_lshr, sk_i2l, sk_l2i, sk_lcmp, sk_dupI, sk_dupR, sk_dup2L, sk_dup2I, sk_popI, sk_ifeq, sk_ifne, sk_iflt, sk_ifge, sk_ifgt, sk_ifle, sk_iceq, sk_icne, sk_iclt, sk_icge, sk_icgt, sk_icle, sk_goto, sk_getf, sk_putf, sk_gets, sk_iald, sk_lald, sk_bald, sk_aald, sk_iast, sk_last, sk_bast, sk_aast, sk_alen, sk_newa, sk_newt, sk_new, sk_cs1, sk_cs2, sk_cs3, sk_cs4, sk_cs5, sk_cs6, sk_cv1, sk_cv2, sk_cv3, sk_cv4, sk_cv5, sk_cv6, sk_ci1, sk_ci2, sk_ci3, sk_ret0, sk_retI, sk_retL, sk_retR, sk_sw, sk_oin, sk_max, sk_min, sk_abs, lI_0, lI_s, lL_0, lL_s, lR_0, lR_s, vIo_e, vLo_e, vOo_e, stW_I, stW_L, stW_R, stW_0, stW_z, okSt_0, okSt_s, hV_eq, hK_eq, okF_0, okF_1, okF_3, is01_0, is01_1, is01_i, Int.toNat_natCast, Int.reduceEq, Int.reduceLE, Int.reduceLT, Int.reduceNeg, Nat.reduceLT, not_true_eq_false, not_false_eq_true, reduceIte, Option.toList, List.cons_append, List.nil_append, List.set_cons_zero, List.set_cons_succ, List.not_mem_nil, List.mem_cons, if_false, if_true, ite_true, ite_false, and_self, and_true, true_and, Nat.reduceAdd, Nat.reduceLeDiff, Nat.reduceEqDiff, Nat.zero_add, Nat.le_refl, Nat.zero_le, or_false, false_or, Int.reduceToNat, or_true, true_or, eq_self, and_false, false_and, inR_d, nc_4, nc_5, nc_6, nc_7, nc_8, nc_16, nc_18, nc_20, nc_24, nc_32, nc_40, nc_64, nc_104, nc_120, nc_160, nc_256, nc_300, nc_330, nc_390, nc_1200, nc_1260, nc_3012, nc_9834, okSt_1i, okSt_1r, okSt_1n, List.length_cons, List.length_nil, xpk_succ cd_311_0, xpk_succ cd_311_1, xpk_succ cd_311_3, xpk_succ cd_311_4]
  exact y
set_option maxHeartbeats 4000000 in
theorem lM_l {d n : Nat} {h : AH} (hJ : k_H JB h) {s : Int} {c : Nat → Int} (n8 : n ≤ 8) (en : hV h 77 6 = vI (n : Int)) (hf : ∀ i, i < n → 0 ≤ c i ∧ c i ≤ 10) (hc : ∀ i, i < n → c i = if fI h 77 (69 + 2 * i) = 1 then fI h 77 (68 + 2 * i) else 10 - fI h 77 (68 + 2 * i)) {Q : Option AV → AH → Prop} (y : ∀ l7 l8, XP d 312 107 [some (vR 76), some (vI s), some (vL (lpA c n)), none, some (vL (lpB c n)), none, some (vI (n : Int)), l7, l8] [] h Q) : ∀ (e k : Nat) (l7 l8 : Option AV), k + e = n → XP d 312 8 [some (vR 76), some (vI s), some (vL (lpA c k)), none, some (vL (lpB c k)), none, some (vI (k : Int)), l7, l8] [] h Q := by
  intro e
  induction e with
  | zero =>
    intro k l7 l8 hk
    obtain rfl : k = n := by omega
    have y := y l7 l8
    refine xpk_sound (stops := [107]) (n := 20) ?_
    simp only [sk_0, sk_1, sk_2, sk_3, sk_4, sk_5, sk_6, sk_7, sk_8, sk_iadd, sk_isub, sk_imul, sk_iand, sk_ior, sk_ixor, sk_ishl, sk_ishr, sk_iushr, sk_idiv, sk_irem, sk_ineg, sk_ladd, sk_lsub, sk_lmul, sk_land, sk_lor, sk_ldiv, sk_lrem, sk_lneg, sk_lshl, sk_lshr, sk_i2l, sk_l2i, sk_lcmp, sk_dupI, sk_dupR, sk_dup2L, sk_dup2I, sk_popI, sk_ifeq, sk_ifne, sk_iflt, sk_ifge, sk_ifgt, sk_ifle, sk_iceq, sk_icne, sk_iclt, sk_icge, sk_icgt, sk_icle, sk_goto, sk_getf, sk_putf, sk_gets, sk_iald, sk_lald, sk_bald, sk_aald, sk_iast, sk_last, sk_bast, sk_aast, sk_alen, sk_newa, sk_newt, sk_new, sk_cs1, sk_cs2, sk_cs3, sk_cs4, sk_cs5, sk_cs6, sk_cv1, sk_cv2, sk_cv3, sk_cv4, sk_cv5, sk_cv6, sk_ci1, sk_ci2, sk_ci3, sk_ret0, sk_retI, sk_retL, sk_retR, sk_sw, sk_oin, sk_max, sk_min, sk_abs, lI_0, lI_s, lL_0, lL_s, lR_0, lR_s, vIo_e, vLo_e, vOo_e, stW_I, stW_L, stW_R, stW_0, stW_z, okSt_0, okSt_s, hV_eq, hK_eq, okF_0, okF_1, okF_3, is01_0, is01_1, is01_i, Int.toNat_natCast, Int.reduceEq, Int.reduceLE, Int.reduceLT, Int.reduceNeg, Nat.reduceLT, not_true_eq_false, not_false_eq_true, reduceIte, Option.toList, List.cons_append, List.nil_append, List.set_cons_zero, List.set_cons_succ, List.not_mem_nil, List.mem_cons, if_false, if_true, ite_true, ite_false, and_self, and_true, true_and, Nat.reduceAdd, Nat.reduceLeDiff, Nat.reduceEqDiff, Nat.zero_add, Nat.le_refl, Nat.zero_le, or_false, false_or, Int.reduceToNat, or_true, true_or, eq_self, and_false, false_and, inR_d, nc_4, nc_5, nc_6, nc_7, nc_8, nc_16, nc_18, nc_20, nc_24, nc_32, nc_40, nc_64, nc_104, nc_120, nc_160, nc_256, nc_300, nc_330, nc_390, nc_1200, nc_1260, nc_3012, nc_9834, okSt_1i, okSt_1r, okSt_1n, List.length_cons, List.length_nil, xpk_succ cd_312_8, xpk_succ cd_312_10, xpk_succ cd_312_11, xpk_succ cd_312_14, xpk_succ cd_312_16, xpk_succ cd_312_17, en, K_76 hJ, K_77 hJ, F_76_0 hJ, Int.le_refl]
    exact y
  | succ e ih =>
    intro k l7 l8 hk
    have x := fun l7 l8 => ih (k + 1) l7 l8 (by omega)
    have z : ¬ ((n : Int) ≤ (k : Int)) := by omega
    obtain ⟨x1, v1⟩ := int_77 hJ (68 + 2 * k) (by omega)
    obtain ⟨x2, v2⟩ := int_77 hJ (69 + 2 * k) (by omega)
    have v1 : hV h 77 (68 + 2 * k) = vI x1 := v1
    have v2 : hV h 77 (69 + 2 * k) = vI x2 := v2
    have hk' := hc k (by omega)
    have hfk := hf k (by omega)
    have hk8 : k < 8 := by omega
    obtain ⟨w1, w2, w3, w4⟩ := lp_w hf (by omega) (show k < n by omega)
    obtain ⟨g1, g2, g3, g4, g5, g6, g7⟩ := sd_n (n := k) hk8
    unfold fI at hk'
    rw [v1, v2] at hk'
    have hk' : c k = if x2 = 1 then x1 else 10 - x1 := hk'
    by_cases q : x2 = 1
    · rw [if_pos q] at hk'
      rw [hk'] at w1 w2 w3
      refine xpk_sound (stops := [8]) (n := 90) ?_
      simp only [sk_0, sk_1, sk_2, sk_3, sk_4, sk_5, sk_6, sk_7, sk_8, sk_iadd, sk_isub, sk_imul, sk_iand, sk_ior, sk_ixor, sk_ishl, sk_ishr, sk_iushr, sk_idiv, sk_irem, sk_ineg, sk_ladd, sk_lsub, sk_lmul, sk_land, sk_lor, sk_ldiv, sk_lrem, sk_lneg, sk_lshl, sk_lshr, sk_i2l, sk_l2i, sk_lcmp, sk_dupI, sk_dupR, sk_dup2L, sk_dup2I, sk_popI, sk_ifeq, sk_ifne, sk_iflt, sk_ifge, sk_ifgt, sk_ifle, sk_iceq, sk_icne, sk_iclt, sk_icge, sk_icgt, sk_icle, sk_goto, sk_getf, sk_putf, sk_gets, sk_iald, sk_lald, sk_bald, sk_aald, sk_iast, sk_last, sk_bast, sk_aast, sk_alen, sk_newa, sk_newt, sk_new, sk_cs1, sk_cs2, sk_cs3, sk_cs4, sk_cs5, sk_cs6, sk_cv1, sk_cv2, sk_cv3, sk_cv4, sk_cv5, sk_cv6, sk_ci1, sk_ci2, sk_ci3, sk_ret0, sk_retI, sk_retL, sk_retR, sk_sw, sk_oin, sk_max, sk_min, sk_abs, lI_0, lI_s, lL_0, lL_s, lR_0, lR_s, vIo_e, vLo_e, vOo_e, stW_I, stW_L, stW_R, stW_0, stW_z, okSt_0, okSt_s, hV_eq, hK_eq, okF_0, okF_1, okF_3, is01_0, is01_1, is01_i, Int.toNat_natCast, Int.reduceEq, Int.reduceLE, Int.reduceLT, Int.reduceNeg, Nat.reduceLT, not_true_eq_false, not_false_eq_true, reduceIte, Option.toList, List.cons_append, List.nil_append, List.set_cons_zero, List.set_cons_succ, List.not_mem_nil, List.mem_cons, if_false, if_true, ite_true, ite_false, and_self, and_true, true_and, Nat.reduceAdd, Nat.reduceLeDiff, Nat.reduceEqDiff, Nat.zero_add, Nat.le_refl, Nat.zero_le, or_false, false_or, Int.reduceToNat, or_true, true_or, eq_self, and_false, false_and, inR_d, nc_4, nc_5, nc_6, nc_7, nc_8, nc_16, nc_18, nc_20, nc_24, nc_32, nc_40, nc_64, nc_104, nc_120, nc_160, nc_256, nc_300, nc_330, nc_390, nc_1200, nc_1260, nc_3012, nc_9834, okSt_1i, okSt_1r, okSt_1n, List.length_cons, List.length_nil, xpk_succ cd_312_8, xpk_succ cd_312_10, xpk_succ cd_312_11, xpk_succ cd_312_14, xpk_succ cd_312_16, xpk_succ cd_312_17, xpk_succ cd_312_20, xpk_succ cd_312_21, xpk_succ cd_312_24, xpk_succ cd_312_26, xpk_succ cd_312_27, xpk_succ cd_312_29, xpk_succ cd_312_30, xpk_succ cd_312_31, xpk_succ cd_312_32, xpk_succ cd_312_34, xpk_succ cd_312_35, xpk_succ cd_312_38, xpk_succ cd_312_40, xpk_succ cd_312_41, xpk_succ cd_312_43, xpk_succ cd_312_44, xpk_succ cd_312_45, xpk_succ cd_312_46, xpk_succ cd_312_47, xpk_succ cd_312_48, xpk_succ cd_312_49, xpk_succ cd_312_52, xpk_succ cd_312_53, xpk_succ cd_312_56, xpk_succ cd_312_57, xpk_succ cd_312_59, xpk_succ cd_312_60, xpk_succ cd_312_62, xpk_succ cd_312_65, xpk_succ cd_312_67, xpk_succ cd_312_68, xpk_succ cd_312_71, xpk_succ cd_312_73, xpk_succ cd_312_75, xpk_succ cd_312_76, xpk_succ cd_312_77, xpk_succ cd_312_78, xpk_succ cd_312_79, xpk_succ cd_312_81, xpk_succ cd_312_83, xpk_succ cd_312_86, xpk_succ cd_312_88, xpk_succ cd_312_90, xpk_succ cd_312_91, xpk_succ cd_312_92, xpk_succ cd_312_95, xpk_succ cd_312_97, xpk_succ cd_312_98, xpk_succ cd_312_99, xpk_succ cd_312_101, xpk_succ cd_312_104, en, z, v1, v2, q, g2, g3, g4, g5, g6, w1, w2, w3, w4, K_76 hJ, K_77 hJ, F_76_0 hJ]
      exact x _ _
    · rw [if_neg q] at hk'
      have e2 : w32 (10 - x1) = c k := lp_x hk' hfk
      have e3 : x1 = 10 - c k := lp_y hk'
      have w2 : w64 (lpB c k * x1) = lpB c (k + 1) := by rw [e3]; exact w2
      refine xpk_sound (stops := [8]) (n := 90) ?_
      simp only [sk_0, sk_1, sk_2, sk_3, sk_4, sk_5, sk_6, sk_7, sk_8, sk_iadd, sk_isub, sk_imul, sk_iand, sk_ior, sk_ixor, sk_ishl, sk_ishr, sk_iushr, sk_idiv, sk_irem, sk_ineg, sk_ladd, sk_lsub, sk_lmul, sk_land, sk_lor, sk_ldiv, sk_lrem, sk_lneg, sk_lshl, sk_lshr, sk_i2l, sk_l2i, sk_lcmp, sk_dupI, sk_dupR, sk_dup2L, sk_dup2I, sk_popI, sk_ifeq, sk_ifne, sk_iflt, sk_ifge, sk_ifgt, sk_ifle, sk_iceq, sk_icne, sk_iclt, sk_icge, sk_icgt, sk_icle, sk_goto, sk_getf, sk_putf, sk_gets, sk_iald, sk_lald, sk_bald, sk_aald, sk_iast, sk_last, sk_bast, sk_aast, sk_alen, sk_newa, sk_newt, sk_new, sk_cs1, sk_cs2, sk_cs3, sk_cs4, sk_cs5, sk_cs6, sk_cv1, sk_cv2, sk_cv3, sk_cv4, sk_cv5, sk_cv6, sk_ci1, sk_ci2, sk_ci3, sk_ret0, sk_retI, sk_retL, sk_retR, sk_sw, sk_oin, sk_max, sk_min, sk_abs, lI_0, lI_s, lL_0, lL_s, lR_0, lR_s, vIo_e, vLo_e, vOo_e, stW_I, stW_L, stW_R, stW_0, stW_z, okSt_0, okSt_s, hV_eq, hK_eq, okF_0, okF_1, okF_3, is01_0, is01_1, is01_i, Int.toNat_natCast, Int.reduceEq, Int.reduceLE, Int.reduceLT, Int.reduceNeg, Nat.reduceLT, not_true_eq_false, not_false_eq_true, reduceIte, Option.toList, List.cons_append, List.nil_append, List.set_cons_zero, List.set_cons_succ, List.not_mem_nil, List.mem_cons, if_false, if_true, ite_true, ite_false, and_self, and_true, true_and, Nat.reduceAdd, Nat.reduceLeDiff, Nat.reduceEqDiff, Nat.zero_add, Nat.le_refl, Nat.zero_le, or_false, false_or, Int.reduceToNat, or_true, true_or, eq_self, and_false, false_and, inR_d, nc_4, nc_5, nc_6, nc_7, nc_8, nc_16, nc_18, nc_20, nc_24, nc_32, nc_40, nc_64, nc_104, nc_120, nc_160, nc_256, nc_300, nc_330, nc_390, nc_1200, nc_1260, nc_3012, nc_9834, okSt_1i, okSt_1r, okSt_1n, List.length_cons, List.length_nil, xpk_succ cd_312_8, xpk_succ cd_312_10, xpk_succ cd_312_11, xpk_succ cd_312_14, xpk_succ cd_312_16, xpk_succ cd_312_17, xpk_succ cd_312_20, xpk_succ cd_312_21, xpk_succ cd_312_24, xpk_succ cd_312_26, xpk_succ cd_312_27, xpk_succ cd_312_29, xpk_succ cd_312_30, xpk_succ cd_312_31, xpk_succ cd_312_32, xpk_succ cd_312_34, xpk_succ cd_312_35, xpk_succ cd_312_38, xpk_succ cd_312_40, xpk_succ cd_312_41, xpk_succ cd_312_43, xpk_succ cd_312_44, xpk_succ cd_312_45, xpk_succ cd_312_46, xpk_succ cd_312_47, xpk_succ cd_312_48, xpk_succ cd_312_49, xpk_succ cd_312_52, xpk_succ cd_312_53, xpk_succ cd_312_56, xpk_succ cd_312_57, xpk_succ cd_312_59, xpk_succ cd_312_60, xpk_succ cd_312_62, xpk_succ cd_312_65, xpk_succ cd_312_67, xpk_succ cd_312_68, xpk_succ cd_312_71, xpk_succ cd_312_73, xpk_succ cd_312_75, xpk_succ cd_312_76, xpk_succ cd_312_77, xpk_succ cd_312_78, xpk_succ cd_312_79, xpk_succ cd_312_81, xpk_succ cd_312_83, xpk_succ cd_312_86, xpk_succ cd_312_88, xpk_succ cd_312_90, xpk_succ cd_312_91, xpk_succ cd_312_92, xpk_succ cd_312_95, xpk_succ cd_312_97, xpk_succ cd_312_98, xpk_succ cd_312_99, xpk_succ cd_312_101, xpk_succ cd_312_104, en, z, v1, v2, q, g2, g3, g4, g5, g6, e2, w1, w2, w4, K_76 hJ, K_77 hJ, F_76_0 hJ]
      exact x _ _
set_option maxHeartbeats 4000000 in
theorem X_leftM {d : Nat} {h : AH} (hJ : k_H JB h) {s : Int} {n : Nat} {c : Nat → Int} (n8 : n ≤ 8) (en : hV h 77 6 = vI (n : Int)) (hf : ∀ i, i < n → 0 ≤ c i ∧ c i ≤ 10) (hc : ∀ i, i < n → c i = if fI h 77 (69 + 2 * i) = 1 then fI h 77 (68 + 2 * i) else 10 - fI h 77 (68 + 2 * i)) (Q : Option AV → AH → Prop) : XC (d + 2) 312 [vR 76, vI s] h Q = Q (some (vL (lfE s (lpA c n) (lpB c n)))) h := by
  refine XC_eq (Nat.le_of_ble_eq_true rfl) ?_ Q
  show XP (d + 1) 312 0 [some (vR 76), some (vI s), none, none, none, none, none, none, none] [] h _
  obtain ⟨b1, b2⟩ := lp_b hf n (Nat.le_refl _)
  have p := p10_8 n8
  have re : rE 200 (lpA c n) (lpA c n + lpB c n) := rE_k 28 200 _ _ (by decide) b1.1 (by omega) (by have e : (2 : Int) ^ 28 = 268435456 := rfl; rw [e]; omega)
  have c1 : ∀ Q : Option AV → AH → Prop, XC (d + 1) 311 [vL (lpA c n), vL (lpA c n + lpB c n)] h Q = Q (some (vL (cmE 200 (lpA c n) (lpA c n + lpB c n)))) h := fun Q => X_cmx re Q
  have g : w64 (lpA c n + lpB c n) = lpA c n + lpB c n := w64_s (by omega) (by omega)
  have y := lM_l (d := d + 1) (s := s) hJ n8 en hf hc (Q := fun r1 h1 => r1 = some (vL (lfE s (lpA c n) (lpB c n))) ∧ h1 = h) (by
    intro l7 l8
    by_cases z : lpA c n + lpB c n = 0
    · have cz := lc_0 z
      by_cases zs : s = 0
      · have y : lfE s (lpA c n) (lpB c n) = 0 := by unfold lfE; rw [if_pos z, if_pos zs]
        rw [y]
        refine xpk_sound (stops := []) (n := 30) ?_
        simp only [sk_0, sk_1, sk_2, sk_3, sk_4, sk_5, sk_6, sk_7, sk_8, sk_iadd, sk_isub, sk_imul, sk_iand, sk_ior, sk_ixor, sk_ishl, sk_ishr, sk_iushr, sk_idiv, sk_irem, sk_ineg, sk_ladd, sk_lsub, sk_lmul, sk_land, sk_lor, sk_ldiv, sk_lrem, sk_lneg, sk_lshl, sk_lshr, sk_i2l, sk_l2i, sk_lcmp, sk_dupI, sk_dupR, sk_dup2L, sk_dup2I, sk_popI, sk_ifeq, sk_ifne, sk_iflt, sk_ifge, sk_ifgt, sk_ifle, sk_iceq, sk_icne, sk_iclt, sk_icge, sk_icgt, sk_icle, sk_goto, sk_getf, sk_putf, sk_gets, sk_iald, sk_lald, sk_bald, sk_aald, sk_iast, sk_last, sk_bast, sk_aast, sk_alen, sk_newa, sk_newt, sk_new, sk_cs1, sk_cs2, sk_cs3, sk_cs4, sk_cs5, sk_cs6, sk_cv1, sk_cv2, sk_cv3, sk_cv4, sk_cv5, sk_cv6, sk_ci1, sk_ci2, sk_ci3, sk_ret0, sk_retI, sk_retL, sk_retR, sk_sw, sk_oin, sk_max, sk_min, sk_abs, lI_0, lI_s, lL_0, lL_s, lR_0, lR_s, vIo_e, vLo_e, vOo_e, stW_I, stW_L, stW_R, stW_0, stW_z, okSt_0, okSt_s, hV_eq, hK_eq, okF_0, okF_1, okF_3, is01_0, is01_1, is01_i, Int.toNat_natCast, Int.reduceEq, Int.reduceLE, Int.reduceLT, Int.reduceNeg, Nat.reduceLT, not_true_eq_false, not_false_eq_true, reduceIte, Option.toList, List.cons_append, List.nil_append, List.set_cons_zero, List.set_cons_succ, List.not_mem_nil, List.mem_cons, if_false, if_true, ite_true, ite_false, and_self, and_true, true_and, Nat.reduceAdd, Nat.reduceLeDiff, Nat.reduceEqDiff, Nat.zero_add, Nat.le_refl, Nat.zero_le, or_false, false_or, Int.reduceToNat, or_true, true_or, eq_self, and_false, false_and, inR_d, nc_4, nc_5, nc_6, nc_7, nc_8, nc_16, nc_18, nc_20, nc_24, nc_32, nc_40, nc_64, nc_104, nc_120, nc_160, nc_256, nc_300, nc_330, nc_390, nc_1200, nc_1260, nc_3012, nc_9834, okSt_1i, okSt_1r, okSt_1n, List.length_cons, List.length_nil, xpk_succ cd_312_107, xpk_succ cd_312_108, xpk_succ cd_312_110, xpk_succ cd_312_111, xpk_succ cd_312_112, xpk_succ cd_312_113, xpk_succ cd_312_116, xpk_succ cd_312_117, xpk_succ cd_312_120, xpk_succ cd_312_121, xpk_succ cd_312_124, xpk_succ cd_312_125, g, cz, zs]
      · have y : lfE s (lpA c n) (lpB c n) = 1 := by unfold lfE; rw [if_pos z, if_neg zs]
        rw [y]
        refine xpk_sound (stops := []) (n := 30) ?_
        simp only [sk_0, sk_1, sk_2, sk_3, sk_4, sk_5, sk_6, sk_7, sk_8, sk_iadd, sk_isub, sk_imul, sk_iand, sk_ior, sk_ixor, sk_ishl, sk_ishr, sk_iushr, sk_idiv, sk_irem, sk_ineg, sk_ladd, sk_lsub, sk_lmul, sk_land, sk_lor, sk_ldiv, sk_lrem, sk_lneg, sk_lshl, sk_lshr, sk_i2l, sk_l2i, sk_lcmp, sk_dupI, sk_dupR, sk_dup2L, sk_dup2I, sk_popI, sk_ifeq, sk_ifne, sk_iflt, sk_ifge, sk_ifgt, sk_ifle, sk_iceq, sk_icne, sk_iclt, sk_icge, sk_icgt, sk_icle, sk_goto, sk_getf, sk_putf, sk_gets, sk_iald, sk_lald, sk_bald, sk_aald, sk_iast, sk_last, sk_bast, sk_aast, sk_alen, sk_newa, sk_newt, sk_new, sk_cs1, sk_cs2, sk_cs3, sk_cs4, sk_cs5, sk_cs6, sk_cv1, sk_cv2, sk_cv3, sk_cv4, sk_cv5, sk_cv6, sk_ci1, sk_ci2, sk_ci3, sk_ret0, sk_retI, sk_retL, sk_retR, sk_sw, sk_oin, sk_max, sk_min, sk_abs, lI_0, lI_s, lL_0, lL_s, lR_0, lR_s, vIo_e, vLo_e, vOo_e, stW_I, stW_L, stW_R, stW_0, stW_z, okSt_0, okSt_s, hV_eq, hK_eq, okF_0, okF_1, okF_3, is01_0, is01_1, is01_i, Int.toNat_natCast, Int.reduceEq, Int.reduceLE, Int.reduceLT, Int.reduceNeg, Nat.reduceLT, not_true_eq_false, not_false_eq_true, reduceIte, Option.toList, List.cons_append, List.nil_append, List.set_cons_zero, List.set_cons_succ, List.not_mem_nil, List.mem_cons, if_false, if_true, ite_true, ite_false, and_self, and_true, true_and, Nat.reduceAdd, Nat.reduceLeDiff, Nat.reduceEqDiff, Nat.zero_add, Nat.le_refl, Nat.zero_le, or_false, false_or, Int.reduceToNat, or_true, true_or, eq_self, and_false, false_and, inR_d, nc_4, nc_5, nc_6, nc_7, nc_8, nc_16, nc_18, nc_20, nc_24, nc_32, nc_40, nc_64, nc_104, nc_120, nc_160, nc_256, nc_300, nc_330, nc_390, nc_1200, nc_1260, nc_3012, nc_9834, okSt_1i, okSt_1r, okSt_1n, List.length_cons, List.length_nil, xpk_succ cd_312_107, xpk_succ cd_312_108, xpk_succ cd_312_110, xpk_succ cd_312_111, xpk_succ cd_312_112, xpk_succ cd_312_113, xpk_succ cd_312_116, xpk_succ cd_312_117, xpk_succ cd_312_120, xpk_succ cd_312_121, xpk_succ cd_312_124, xpk_succ cd_312_125, g, cz, zs]
    · have zg : cmE 200 (lpA c n) (lpA c n + lpB c n) ≠ 0 := cmE_n 200 _ _ (Or.inr z) re
      have cz := lc_1 z
      by_cases zs : s = 0
      · have y : lfE s (lpA c n) (lpB c n) = w64 ((lpA c n).tdiv (cmE 200 (lpA c n) (lpA c n + lpB c n))) := by unfold lfE; rw [if_neg z, if_pos zs]
        rw [y]
        refine xpk_sound (stops := []) (n := 30) ?_
        simp only [sk_0, sk_1, sk_2, sk_3, sk_4, sk_5, sk_6, sk_7, sk_8, sk_iadd, sk_isub, sk_imul, sk_iand, sk_ior, sk_ixor, sk_ishl, sk_ishr, sk_iushr, sk_idiv, sk_irem, sk_ineg, sk_ladd, sk_lsub, sk_lmul, sk_land, sk_lor, sk_ldiv, sk_lrem, sk_lneg, sk_lshl, sk_lshr, sk_i2l, sk_l2i, sk_lcmp, sk_dupI, sk_dupR, sk_dup2L, sk_dup2I, sk_popI, sk_ifeq, sk_ifne, sk_iflt, sk_ifge, sk_ifgt, sk_ifle, sk_iceq, sk_icne, sk_iclt, sk_icge, sk_icgt, sk_icle, sk_goto, sk_getf, sk_putf, sk_gets, sk_iald, sk_lald, sk_bald, sk_aald, sk_iast, sk_last, sk_bast, sk_aast, sk_alen, sk_newa, sk_newt, sk_new, sk_cs1, sk_cs2, sk_cs3, sk_cs4, sk_cs5, sk_cs6, sk_cv1, sk_cv2, sk_cv3, sk_cv4, sk_cv5, sk_cv6, sk_ci1, sk_ci2, sk_ci3, sk_ret0, sk_retI, sk_retL, sk_retR, sk_sw, sk_oin, sk_max, sk_min, sk_abs, lI_0, lI_s, lL_0, lL_s, lR_0, lR_s, vIo_e, vLo_e, vOo_e, stW_I, stW_L, stW_R, stW_0, stW_z, okSt_0, okSt_s, hV_eq, hK_eq, okF_0, okF_1, okF_3, is01_0, is01_1, is01_i, Int.toNat_natCast, Int.reduceEq, Int.reduceLE, Int.reduceLT, Int.reduceNeg, Nat.reduceLT, not_true_eq_false, not_false_eq_true, reduceIte, Option.toList, List.cons_append, List.nil_append, List.set_cons_zero, List.set_cons_succ, List.not_mem_nil, List.mem_cons, if_false, if_true, ite_true, ite_false, and_self, and_true, true_and, Nat.reduceAdd, Nat.reduceLeDiff, Nat.reduceEqDiff, Nat.zero_add, Nat.le_refl, Nat.zero_le, or_false, false_or, Int.reduceToNat, or_true, true_or, eq_self, and_false, false_and, inR_d, nc_4, nc_5, nc_6, nc_7, nc_8, nc_16, nc_18, nc_20, nc_24, nc_32, nc_40, nc_64, nc_104, nc_120, nc_160, nc_256, nc_300, nc_330, nc_390, nc_1200, nc_1260, nc_3012, nc_9834, okSt_1i, okSt_1r, okSt_1n, List.length_cons, List.length_nil, xpk_succ cd_312_107, xpk_succ cd_312_108, xpk_succ cd_312_110, xpk_succ cd_312_111, xpk_succ cd_312_112, xpk_succ cd_312_113, xpk_succ cd_312_116, xpk_succ cd_312_117, xpk_succ cd_312_120, xpk_succ cd_312_121, xpk_succ cd_312_124, xpk_succ cd_312_125, xpk_succ cd_312_126, xpk_succ cd_312_127, xpk_succ cd_312_130, xpk_succ cd_312_131, xpk_succ cd_312_133, xpk_succ cd_312_134, xpk_succ cd_312_137, xpk_succ cd_312_138, xpk_succ cd_312_139, xpk_succ cd_312_140, xpk_succ cd_312_142, xpk_succ cd_312_143, xpk_succ cd_312_146, xpk_succ cd_312_147, g, cz, zs, c1, zg]
      · have y : lfE s (lpA c n) (lpB c n) = w64 ((lpA c n + lpB c n).tdiv (cmE 200 (lpA c n) (lpA c n + lpB c n))) := by unfold lfE; rw [if_neg z, if_neg zs]
        rw [y]
        refine xpk_sound (stops := []) (n := 30) ?_
        simp only [sk_0, sk_1, sk_2, sk_3, sk_4, sk_5, sk_6, sk_7, sk_8, sk_iadd, sk_isub, sk_imul, sk_iand, sk_ior, sk_ixor, sk_ishl, sk_ishr, sk_iushr, sk_idiv, sk_irem, sk_ineg, sk_ladd, sk_lsub, sk_lmul, sk_land, sk_lor, sk_ldiv, sk_lrem, sk_lneg, sk_lshl, sk_lshr, sk_i2l, sk_l2i, sk_lcmp, sk_dupI, sk_dupR, sk_dup2L, sk_dup2I, sk_popI, sk_ifeq, sk_ifne, sk_iflt, sk_ifge, sk_ifgt, sk_ifle, sk_iceq, sk_icne, sk_iclt, sk_icge, sk_icgt, sk_icle, sk_goto, sk_getf, sk_putf, sk_gets, sk_iald, sk_lald, sk_bald, sk_aald, sk_iast, sk_last, sk_bast, sk_aast, sk_alen, sk_newa, sk_newt, sk_new, sk_cs1, sk_cs2, sk_cs3, sk_cs4, sk_cs5, sk_cs6, sk_cv1, sk_cv2, sk_cv3, sk_cv4, sk_cv5, sk_cv6, sk_ci1, sk_ci2, sk_ci3, sk_ret0, sk_retI, sk_retL, sk_retR, sk_sw, sk_oin, sk_max, sk_min, sk_abs, lI_0, lI_s, lL_0, lL_s, lR_0, lR_s, vIo_e, vLo_e, vOo_e, stW_I, stW_L, stW_R, stW_0, stW_z, okSt_0, okSt_s, hV_eq, hK_eq, okF_0, okF_1, okF_3, is01_0, is01_1, is01_i, Int.toNat_natCast, Int.reduceEq, Int.reduceLE, Int.reduceLT, Int.reduceNeg, Nat.reduceLT, not_true_eq_false, not_false_eq_true, reduceIte, Option.toList, List.cons_append, List.nil_append, List.set_cons_zero, List.set_cons_succ, List.not_mem_nil, List.mem_cons, if_false, if_true, ite_true, ite_false, and_self, and_true, true_and, Nat.reduceAdd, Nat.reduceLeDiff, Nat.reduceEqDiff, Nat.zero_add, Nat.le_refl, Nat.zero_le, or_false, false_or, Int.reduceToNat, or_true, true_or, eq_self, and_false, false_and, inR_d, nc_4, nc_5, nc_6, nc_7, nc_8, nc_16, nc_18, nc_20, nc_24, nc_32, nc_40, nc_64, nc_104, nc_120, nc_160, nc_256, nc_300, nc_330, nc_390, nc_1200, nc_1260, nc_3012, nc_9834, okSt_1i, okSt_1r, okSt_1n, List.length_cons, List.length_nil, xpk_succ cd_312_107, xpk_succ cd_312_108, xpk_succ cd_312_110, xpk_succ cd_312_111, xpk_succ cd_312_112, xpk_succ cd_312_113, xpk_succ cd_312_116, xpk_succ cd_312_117, xpk_succ cd_312_120, xpk_succ cd_312_121, xpk_succ cd_312_124, xpk_succ cd_312_125, xpk_succ cd_312_126, xpk_succ cd_312_127, xpk_succ cd_312_130, xpk_succ cd_312_131, xpk_succ cd_312_133, xpk_succ cd_312_134, xpk_succ cd_312_137, xpk_succ cd_312_138, xpk_succ cd_312_139, xpk_succ cd_312_140, xpk_succ cd_312_142, xpk_succ cd_312_143, xpk_succ cd_312_146, xpk_succ cd_312_147, g, cz, zs, c1, zg]) n 0 none none (Nat.zero_add _)
  have y : XP (d + 1) 312 8 [some (vR 76), some (vI s), some (vL 1), none, some (vL 1), none, some (vI 0), none, none] [] h (fun r1 h1 => r1 = some (vL (lfE s (lpA c n) (lpB c n))) ∧ h1 = h) := y
  refine xpk_sound (stops := [8]) (n := 20) ?_
  simp only [sk_0, sk_1, sk_2, sk_3, sk_4, sk_5, sk_6, sk_7, sk_8, sk_iadd, sk_isub, sk_imul, sk_iand, sk_ior, sk_ixor, sk_ishl, sk_ishr, sk_iushr, sk_idiv, sk_irem, sk_ineg, sk_ladd, sk_lsub, sk_lmul, sk_land, sk_lor, sk_ldiv, sk_lrem, sk_lneg, sk_lshl, sk_lshr, sk_i2l, sk_l2i, sk_lcmp, sk_dupI, sk_dupR, sk_dup2L, sk_dup2I, sk_popI, sk_ifeq, sk_ifne, sk_iflt, sk_ifge, sk_ifgt, sk_ifle, sk_iceq, sk_icne, sk_iclt, sk_icge, sk_icgt, sk_icle, sk_goto, sk_getf, sk_putf, sk_gets, sk_iald, sk_lald, sk_bald, sk_aald, sk_iast, sk_last, sk_bast, sk_aast, sk_alen, sk_newa, sk_newt, sk_new, sk_cs1, sk_cs2, sk_cs3, sk_cs4, sk_cs5, sk_cs6, sk_cv1, sk_cv2, sk_cv3, sk_cv4, sk_cv5, sk_cv6, sk_ci1, sk_ci2, sk_ci3, sk_ret0, sk_retI, sk_retL, sk_retR, sk_sw, sk_oin, sk_max, sk_min, sk_abs, lI_0, lI_s, lL_0, lL_s, lR_0, lR_s, vIo_e, vLo_e, vOo_e, stW_I, stW_L, stW_R, stW_0, stW_z, okSt_0, okSt_s, hV_eq, hK_eq, okF_0, okF_1, okF_3, is01_0, is01_1, is01_i, Int.toNat_natCast, Int.reduceEq, Int.reduceLE, Int.reduceLT, Int.reduceNeg, Nat.reduceLT, not_true_eq_false, not_false_eq_true, reduceIte, Option.toList, List.cons_append, List.nil_append, List.set_cons_zero, List.set_cons_succ, List.not_mem_nil, List.mem_cons, if_false, if_true, ite_true, ite_false, and_self, and_true, true_and, Nat.reduceAdd, Nat.reduceLeDiff, Nat.reduceEqDiff, Nat.zero_add, Nat.le_refl, Nat.zero_le, or_false, false_or, Int.reduceToNat, or_true, true_or, eq_self, and_false, false_and, inR_d, nc_4, nc_5, nc_6, nc_7, nc_8, nc_16, nc_18, nc_20, nc_24, nc_32, nc_40, nc_64, nc_104, nc_120, nc_160, nc_256, nc_300, nc_330, nc_390, nc_1200, nc_1260, nc_3012, nc_9834, okSt_1i, okSt_1r, okSt_1n, List.length_cons, List.length_nil, xpk_succ cd_312_0, xpk_succ cd_312_1, xpk_succ cd_312_2, xpk_succ cd_312_3, xpk_succ cd_312_5, xpk_succ cd_312_6]
  exact y
