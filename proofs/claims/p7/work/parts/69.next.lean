set_option maxRecDepth 20000 in
theorem ac_303 : allC[303]? = some cl303 := rfl
theorem cd_303_0 : cd 303 0 = some (4, 1, 0, 0, 0, []) := cd_row ac_303 rfl
theorem cd_303_1 : cd 303 1 = some (23, 4, 10, 34, 0, []) := cd_row ac_303 rfl
theorem cd_303_4 : cd 303 4 = some (0, 5, 0, 0, 2, []) := cd_row ac_303 rfl
theorem cd_303_5 : cd 303 5 = some (9, 6, 0, 1, 0, []) := cd_row ac_303 rfl
theorem cd_303_6 : cd 303 6 = some (5, 7, 1, 0, 0, []) := cd_row ac_303 rfl
theorem cd_303_7 : cd 303 7 = some (2, 8, 1, 0, 0, []) := cd_row ac_303 rfl
theorem cd_303_8 : cd 303 8 = some (20, 11, 34, 2, 0, []) := cd_row ac_303 rfl
theorem cd_303_11 : cd 303 11 = some (4, 12, 0, 0, 0, []) := cd_row ac_303 rfl
theorem cd_303_12 : cd 303 12 = some (23, 15, 10, 32, 0, []) := cd_row ac_303 rfl
theorem cd_303_15 : cd 303 15 = some (2, 16, 1, 0, 0, []) := cd_row ac_303 rfl
theorem cd_303_16 : cd 303 16 = some (26, 17, 0, 0, 0, []) := cd_row ac_303 rfl
theorem cd_303_17 : cd 303 17 = some (4, 18, 0, 0, 0, []) := cd_row ac_303 rfl
theorem cd_303_18 : cd 303 18 = some (23, 21, 10, 32, 0, []) := cd_row ac_303 rfl
theorem cd_303_21 : cd 303 21 = some (2, 22, 1, 0, 0, []) := cd_row ac_303 rfl
theorem cd_303_22 : cd 303 22 = some (0, 23, 0, 0, 1, []) := cd_row ac_303 rfl
theorem cd_303_23 : cd 303 23 = some (9, 24, 0, 0, 0, []) := cd_row ac_303 rfl
theorem cd_303_24 : cd 303 24 = some (26, 25, 0, 0, 0, []) := cd_row ac_303 rfl
theorem cd_303_25 : cd 303 25 = some (21, 28, 34, 5, 0, []) := cd_row ac_303 rfl
theorem cd_303_28 : cd 303 28 = some (8, 31, 1, 0, -1, []) := cd_row ac_303 rfl
theorem cd_303_31 : cd 303 31 = some (22, 34, 7, 0, 0, []) := cd_row ac_303 rfl
theorem cd_303_34 : cd 303 34 = some (2, 35, 1, 0, 0, []) := cd_row ac_303 rfl
theorem cd_303_35 : cd 303 35 = some (20, 38, 40, 3, 0, []) := cd_row ac_303 rfl
theorem cd_303_38 : cd 303 38 = some (0, 39, 0, 0, 0, []) := cd_row ac_303 rfl
theorem cd_303_39 : cd 303 39 = some (40, 40, 1, 0, 0, []) := cd_row ac_303 rfl
theorem cd_303_40 : cd 303 40 = some (4, 41, 0, 0, 0, []) := cd_row ac_303 rfl
theorem cd_303_41 : cd 303 41 = some (23, 44, 10, 34, 0, []) := cd_row ac_303 rfl
theorem cd_303_44 : cd 303 44 = some (0, 45, 0, 0, 1, []) := cd_row ac_303 rfl
theorem cd_303_45 : cd 303 45 = some (9, 46, 0, 1, 0, []) := cd_row ac_303 rfl
theorem cd_303_46 : cd 303 46 = some (5, 47, 2, 0, 0, []) := cd_row ac_303 rfl
theorem cd_303_47 : cd 303 47 = some (4, 48, 0, 0, 0, []) := cd_row ac_303 rfl
theorem cd_303_48 : cd 303 48 = some (23, 51, 10, 32, 0, []) := cd_row ac_303 rfl
theorem cd_303_51 : cd 303 51 = some (2, 52, 2, 0, 0, []) := cd_row ac_303 rfl
theorem cd_303_52 : cd 303 52 = some (26, 53, 0, 0, 0, []) := cd_row ac_303 rfl
theorem cd_303_53 : cd 303 53 = some (4, 54, 0, 0, 0, []) := cd_row ac_303 rfl
theorem cd_303_54 : cd 303 54 = some (23, 57, 10, 32, 0, []) := cd_row ac_303 rfl
theorem cd_303_57 : cd 303 57 = some (2, 58, 1, 0, 0, []) := cd_row ac_303 rfl
theorem cd_303_58 : cd 303 58 = some (26, 59, 0, 0, 0, []) := cd_row ac_303 rfl
theorem cd_303_59 : cd 303 59 = some (21, 62, 68, 3, 0, []) := cd_row ac_303 rfl
theorem cd_303_62 : cd 303 62 = some (8, 65, 2, 0, -1, []) := cd_row ac_303 rfl
theorem cd_303_65 : cd 303 65 = some (22, 68, 47, 0, 0, []) := cd_row ac_303 rfl
theorem cd_303_68 : cd 303 68 = some (4, 69, 0, 0, 0, []) := cd_row ac_303 rfl
theorem cd_303_69 : cd 303 69 = some (23, 72, 10, 32, 0, []) := cd_row ac_303 rfl
theorem cd_303_72 : cd 303 72 = some (2, 73, 1, 0, 0, []) := cd_row ac_303 rfl
theorem cd_303_73 : cd 303 73 = some (26, 74, 0, 0, 0, []) := cd_row ac_303 rfl
theorem cd_303_74 : cd 303 74 = some (5, 75, 3, 0, 0, []) := cd_row ac_303 rfl
theorem cd_303_75 : cd 303 75 = some (4, 76, 0, 0, 0, []) := cd_row ac_303 rfl
theorem cd_303_76 : cd 303 76 = some (23, 79, 10, 32, 0, []) := cd_row ac_303 rfl
theorem cd_303_79 : cd 303 79 = some (2, 80, 1, 0, 0, []) := cd_row ac_303 rfl
theorem cd_303_80 : cd 303 80 = some (4, 81, 0, 0, 0, []) := cd_row ac_303 rfl
theorem cd_303_81 : cd 303 81 = some (23, 84, 10, 32, 0, []) := cd_row ac_303 rfl
theorem cd_303_84 : cd 303 84 = some (2, 85, 2, 0, 0, []) := cd_row ac_303 rfl
theorem cd_303_85 : cd 303 85 = some (26, 86, 0, 0, 0, []) := cd_row ac_303 rfl
theorem cd_303_86 : cd 303 86 = some (30, 87, 0, 0, 0, []) := cd_row ac_303 rfl
theorem cd_303_87 : cd 303 87 = some (4, 88, 0, 0, 0, []) := cd_row ac_303 rfl
theorem cd_303_88 : cd 303 88 = some (23, 91, 10, 32, 0, []) := cd_row ac_303 rfl
theorem cd_303_91 : cd 303 91 = some (2, 92, 2, 0, 0, []) := cd_row ac_303 rfl
theorem cd_303_92 : cd 303 92 = some (2, 93, 3, 0, 0, []) := cd_row ac_303 rfl
theorem cd_303_93 : cd 303 93 = some (30, 94, 0, 0, 0, []) := cd_row ac_303 rfl
theorem cd_303_94 : cd 303 94 = some (2, 95, 1, 0, 0, []) := cd_row ac_303 rfl
theorem cd_303_95 : cd 303 95 = some (0, 96, 0, 0, 1, []) := cd_row ac_303 rfl
theorem cd_303_96 : cd 303 96 = some (9, 97, 0, 0, 0, []) := cd_row ac_303 rfl
theorem cd_303_97 : cd 303 97 = some (5, 99, 4, 0, 0, []) := cd_row ac_303 rfl
theorem cd_303_99 : cd 303 99 = some (4, 100, 0, 0, 0, []) := cd_row ac_303 rfl
theorem cd_303_100 : cd 303 100 = some (23, 103, 10, 34, 0, []) := cd_row ac_303 rfl
theorem cd_303_103 : cd 303 103 = some (0, 104, 0, 0, 1, []) := cd_row ac_303 rfl
theorem cd_303_104 : cd 303 104 = some (9, 105, 0, 1, 0, []) := cd_row ac_303 rfl
theorem cd_303_105 : cd 303 105 = some (5, 107, 5, 0, 0, []) := cd_row ac_303 rfl
theorem cd_303_107 : cd 303 107 = some (2, 109, 4, 0, 0, []) := cd_row ac_303 rfl
theorem cd_303_109 : cd 303 109 = some (2, 111, 5, 0, 0, []) := cd_row ac_303 rfl
theorem cd_303_111 : cd 303 111 = some (21, 114, 153, 3, 0, []) := cd_row ac_303 rfl
theorem cd_303_114 : cd 303 114 = some (4, 115, 0, 0, 0, []) := cd_row ac_303 rfl
theorem cd_303_115 : cd 303 115 = some (23, 118, 10, 32, 0, []) := cd_row ac_303 rfl
theorem cd_303_118 : cd 303 118 = some (2, 120, 4, 0, 0, []) := cd_row ac_303 rfl
theorem cd_303_120 : cd 303 120 = some (26, 121, 0, 0, 0, []) := cd_row ac_303 rfl
theorem cd_303_121 : cd 303 121 = some (5, 122, 3, 0, 0, []) := cd_row ac_303 rfl
theorem cd_303_122 : cd 303 122 = some (4, 123, 0, 0, 0, []) := cd_row ac_303 rfl
theorem cd_303_123 : cd 303 123 = some (23, 126, 10, 32, 0, []) := cd_row ac_303 rfl
theorem cd_303_126 : cd 303 126 = some (2, 128, 4, 0, 0, []) := cd_row ac_303 rfl
theorem cd_303_128 : cd 303 128 = some (4, 129, 0, 0, 0, []) := cd_row ac_303 rfl
theorem cd_303_129 : cd 303 129 = some (23, 132, 10, 32, 0, []) := cd_row ac_303 rfl
theorem cd_303_132 : cd 303 132 = some (2, 134, 5, 0, 0, []) := cd_row ac_303 rfl
theorem cd_303_134 : cd 303 134 = some (26, 135, 0, 0, 0, []) := cd_row ac_303 rfl
theorem cd_303_135 : cd 303 135 = some (30, 136, 0, 0, 0, []) := cd_row ac_303 rfl
theorem cd_303_136 : cd 303 136 = some (4, 137, 0, 0, 0, []) := cd_row ac_303 rfl
theorem cd_303_137 : cd 303 137 = some (23, 140, 10, 32, 0, []) := cd_row ac_303 rfl
theorem cd_303_140 : cd 303 140 = some (2, 142, 5, 0, 0, []) := cd_row ac_303 rfl
theorem cd_303_142 : cd 303 142 = some (2, 143, 3, 0, 0, []) := cd_row ac_303 rfl
theorem cd_303_143 : cd 303 143 = some (30, 144, 0, 0, 0, []) := cd_row ac_303 rfl
theorem cd_303_144 : cd 303 144 = some (8, 147, 4, 0, 1, []) := cd_row ac_303 rfl
theorem cd_303_147 : cd 303 147 = some (8, 150, 5, 0, -1, []) := cd_row ac_303 rfl
theorem cd_303_150 : cd 303 150 = some (22, 153, 107, 0, 0, []) := cd_row ac_303 rfl
theorem cd_303_153 : cd 303 153 = some (0, 154, 0, 0, 1, []) := cd_row ac_303 rfl
theorem cd_303_154 : cd 303 154 = some (40, 155, 1, 0, 0, []) := cd_row ac_303 rfl
/-! a row of numbers in some cell -/
def hG (c m : Nat) (h : AH) (f : Nat → Int) : AH := (h.1, h.2.1, h.2.2.1, fun a j => if a = c ∧ j < m then vI (f j) else h.2.2.2 a j)
theorem hG_K {c m : Nat} {h : AH} {f : Nat → Int} : hK (hG c m h f) = hK h := rfl
theorem hG_V {c m : Nat} {h : AH} {f : Nat → Int} {i : Nat} (hi : i < m) : hV (hG c m h f) c i = vI (f i) := if_pos ⟨rfl, hi⟩
theorem hG_n {c m : Nat} {h : AH} {f : Nat → Int} {k i : Nat} (hk : k ≠ c) : hV (hG c m h f) k i = hV h k i := if_neg (fun z => hk z.1)
theorem hG_b {c m : Nat} {h : AH} {f : Nat → Int} {i : Nat} (hi : m ≤ i) : hV (hG c m h f) c i = hV h c i := if_neg (fun z => by omega)
theorem hG_set {c m : Nat} {h : AH} {f : Nat → Int} {i : Nat} {x : Int} (hi : i < m) : hSet (hG c m h f) c i (vI x) = hG c m h (upF f i x) := by
  obtain ⟨a, b, K, V⟩ := h
  unfold hSet hG upV upF
  refine congrArg (fun V => (a, b, K, V)) ?_
  funext r j
  dsimp only
  by_cases z : r = c ∧ j = i
  · rw [if_pos z, if_pos ⟨z.1, by omega⟩, if_pos z.2]
  · rw [if_neg z]
    by_cases y : r = c ∧ j < m
    · rw [if_pos y, if_pos y, if_neg (fun q => z ⟨y.1, q⟩)]
    · rw [if_neg y, if_neg y]
theorem hG_0 {c m : Nat} {h : AH} {f : Nat → Int} (hv : ∀ i, i < m → hV h c i = vI (f i)) : hG c m h f = h := by
  obtain ⟨a, b, K, V⟩ := h
  unfold hG
  refine congrArg (fun V => (a, b, K, V)) ?_
  funext r j
  dsimp only
  by_cases z : r = c ∧ j < m
  · rw [if_pos z, z.1]; exact (hv j z.2).symm
  · rw [if_neg z]
/-- each of n is another one -/
def PRM (n : Nat) (g : Nat → Int) : Prop := (∀ i j, i < n → j < n → i ≠ j → g i ≠ g j) ∧ ∀ i, i < 8 → 0 ≤ g i ∧ g i ≤ 7
def GRT (n p : Nat) (f g : Nat → Int) : Prop := PRM n g ∧ (∀ i, i < p → g i = f i) ∧ f p < g p
def swp (g : Nat → Int) (a b : Nat) : Nat → Int := upF (upF g a (g b)) b (g a)
theorem swp_v {g : Nat → Int} {a b i : Nat} : swp g a b i = if i = b then g a else if i = a then g b else g i := rfl
theorem swp_P {n : Nat} {g : Nat → Int} {a b : Nat} (ha : a < n) (hb : b < n) (hn : n ≤ 8) (h : PRM n g) : PRM n (swp g a b) := by
  refine ⟨fun i j hi hj hij => ?_, fun i hi => ?_⟩
  · rw [swp_v, swp_v]
    by_cases i1 : i = b
    · rw [if_pos i1]
      by_cases j1 : j = b
      · omega
      · rw [if_neg j1]
        by_cases j2 : j = a
        · rw [if_pos j2]; exact h.1 a b ha hb (by omega)
        · rw [if_neg j2]; exact h.1 a j ha hj (by omega)
    · rw [if_neg i1]
      by_cases i2 : i = a
      · rw [if_pos i2]
        by_cases j1 : j = b
        · rw [if_pos j1]; exact h.1 b a hb ha (by omega)
        · rw [if_neg j1, if_neg (by omega)]; exact h.1 b j hb hj (by omega)
      · rw [if_neg i2]
        by_cases j1 : j = b
        · rw [if_pos j1]; exact h.1 i a hi ha (by omega)
        · rw [if_neg j1]
          by_cases j2 : j = a
          · rw [if_pos j2]; exact h.1 i b hi hb (by omega)
          · rw [if_neg j2]; exact h.1 i j hi hj hij
  · rw [swp_v]
    by_cases i1 : i = b
    · rw [if_pos i1]; exact h.2 a (by omega)
    · rw [if_neg i1]
      by_cases i2 : i = a
      · rw [if_pos i2]; exact h.2 b (by omega)
      · rw [if_neg i2]; exact h.2 i hi
theorem swp_G {n p : Nat} {f g : Nat → Int} {a b : Nat} (ha : a < n) (hb : b < n) (hn : n ≤ 8) (pa : p < a) (pb : p < b) (h : GRT n p f g) : GRT n p f (swp g a b) := by
  refine ⟨swp_P ha hb hn h.1, fun i hi => ?_, ?_⟩
  · rw [swp_v, if_neg (by omega), if_neg (by omega)]; exact h.2.1 i hi
  · rw [swp_v, if_neg (by omega), if_neg (by omega)]; exact h.2.2
theorem swp_1 {n p j : Nat} {f : Nat → Int} (hj : j < n) (hn : n ≤ 8) (pj : p < j) (h : PRM n f) (hl : f p ≤ f j) : GRT n p f (swp f p j) := by
  refine ⟨swp_P (by omega) hj hn h, fun i hi => ?_, ?_⟩
  · rw [swp_v, if_neg (by omega), if_neg (by omega)]
  · rw [swp_v, if_neg (by omega), if_pos rfl]
    have := h.1 p j (by omega) hj (by omega)
    omega
/-! the rows as numbers -/
def rV (f : Nat → Int) : Nat → Int
  | 0 => 0
  | n + 1 => 8 * rV f n + f n
theorem rV_eq {f g : Nat → Int} : ∀ {n : Nat}, (∀ i, i < n → g i = f i) → rV g n = rV f n := by
  intro n
  induction n with
  | zero => intro _; rfl
  | succ n ih => intro h; show 8 * rV g n + g n = 8 * rV f n + f n; rw [ih (fun i hi => h i (by omega)), h n (by omega)]
theorem rV_lt {f g : Nat → Int} {p : Nat} (hf : ∀ i, i < 8 → 0 ≤ f i ∧ f i ≤ 7) (hg : ∀ i, i < 8 → 0 ≤ g i ∧ g i ≤ 7) (he : ∀ i, i < p → g i = f i) (hl : f p < g p) : ∀ n, p < n → n ≤ 8 → rV f n + 1 ≤ rV g n := by
  intro n
  induction n with
  | zero => intro h; omega
  | succ n ih =>
    intro hp h8
    show 8 * rV f n + f n + 1 ≤ 8 * rV g n + g n
    by_cases z : p = n
    · subst z
      rw [rV_eq he]
      omega
    · have := ih (by omega) (by omega)
      have := hf n (by omega)
      have := hg n (by omega)
      omega
theorem rV_b {f : Nat → Int} (hf : ∀ i, i < 8 → 0 ≤ f i ∧ f i ≤ 7) : ∀ n, n ≤ 8 → 0 ≤ rV f n ∧ rV f n < 8 ^ n := by
  intro n
  induction n with
  | zero => intro _; exact ⟨Int.le_refl 0, by show (0 : Int) < 8 ^ 0; decide⟩
  | succ n ih =>
    intro h8
    have h1 := ih (by omega)
    have h2 := hf n (by omega)
    show 0 ≤ 8 * rV f n + f n ∧ 8 * rV f n + f n < 8 ^ (n + 1)
    rw [Int.pow_succ]
    omega
/-! nextRow -/
def NRO (n : Nat) (h : AH) : Prop := hK h 76 = (10, 0) ∧ hV h 76 32 = vR 89 ∧ hK h 89 = (11, 8) ∧ hV h 76 34 = vI (n : Int)
theorem NRO_G {n : Nat} {h : AH} {f : Nat → Int} (ho : NRO n h) : NRO n (hG 89 8 h f) := ⟨ho.1, by rw [hG_n (by decide)]; exact ho.2.1, ho.2.2.1, by rw [hG_n (by decide)]; exact ho.2.2.2⟩
theorem m1 {x : Nat} (h : x < 1000) : w32 (((x + 1 : Nat) : Int) + -1) = (x : Int) := by unfold w32; omega
theorem i8 {x : Nat} (h : x < 8) : (0 : Int) ≤ (x : Int) ∧ (x : Int) < 8 := by omega
theorem p1_ {x : Nat} (h : x < 1000) : w32 ((x : Int) + 1) = ((x + 1 : Nat) : Int) := by unfold w32; omega
set_option maxHeartbeats 4000000 in
theorem nr_1 {d n : Nat} {h : AH} {f : Nat → Int} {Q : Option AV → AH → Prop} (ho : NRO n h) (hn : n ≤ 8) : ∀ (m : Nat), m < n → (∀ p : Nat, p + 1 < n → f p ≤ f (p + 1) → XP d 303 34 [some (vR 76), some (vI (p : Int)), none, none, none, none] [] (hG 89 8 h f) Q) → XP d 303 34 [some (vR 76), some (vI (-1)), none, none, none, none] [] (hG 89 8 h f) Q → XP d 303 7 [some (vR 76), some (vI ((m : Int) + -1)), none, none, none, none] [] (hG 89 8 h f) Q := by
  obtain ⟨o1, o2, o3, o4⟩ := NRO_G (f := f) ho
  intro m
  induction m with
  | zero =>
    intro hm h1 h2
    refine xpk_sound (stops := [34]) (n := 10) ?_
    simp only [sk_0, sk_1, sk_2, sk_3, sk_4, sk_5, sk_6, sk_7, sk_8, sk_iadd, sk_isub, sk_imul, sk_iand, sk_ior, sk_ixor, sk_ishl, sk_ishr, sk_iushr, sk_idiv, sk_irem, sk_ineg, sk_ladd, sk_lsub, sk_lmul, sk_land, sk_lor, sk_ldiv, sk_lrem, sk_lneg, sk_lshl, sk_lshr, sk_i2l, sk_l2i, sk_lcmp, sk_dupI, sk_dupR, sk_dup2L, sk_dup2I, sk_popI, sk_ifeq, sk_ifne, sk_iflt, sk_ifge, sk_ifgt, sk_ifle, sk_iceq, sk_icne, sk_iclt, sk_icge, sk_icgt, sk_icle, sk_goto, sk_getf, sk_putf, sk_gets, sk_iald, sk_lald, sk_bald, sk_aald, sk_iast, sk_last, sk_bast, sk_aast, sk_alen, sk_newa, sk_newt, sk_new, sk_cs1, sk_cs2, sk_cs3, sk_cs4, sk_cs5, sk_cs6, sk_cv1, sk_cv2, sk_cv3, sk_cv4, sk_cv5, sk_cv6, sk_ci1, sk_ci2, sk_ci3, sk_ret0, sk_retI, sk_retL, sk_retR, sk_sw, sk_oin, sk_max, sk_min, sk_abs, lI_0, lI_s, lL_0, lL_s, lR_0, lR_s, vIo_e, vLo_e, vOo_e, stW_I, stW_L, stW_R, stW_0, stW_z, okSt_0, okSt_s, hV_eq, hK_eq, okF_0, okF_1, okF_3, is01_0, is01_1, is01_i, Int.toNat_natCast, Int.reduceEq, Int.reduceLE, Int.reduceLT, Int.reduceNeg, Nat.reduceLT, not_true_eq_false, not_false_eq_true, reduceIte, Option.toList, List.cons_append, List.nil_append, List.set_cons_zero, List.set_cons_succ, List.not_mem_nil, List.mem_cons, if_false, if_true, ite_true, ite_false, and_self, and_true, true_and, Nat.reduceAdd, Nat.reduceLeDiff, Nat.reduceEqDiff, Nat.zero_add, Nat.le_refl, Nat.zero_le, or_false, false_or, Int.reduceToNat, or_true, true_or, eq_self, and_false, false_and, inR_d, nc_4, nc_5, nc_6, nc_7, nc_8, nc_16, nc_18, nc_20, nc_24, nc_32, nc_40, nc_64, nc_104, nc_120, nc_160, nc_256, nc_300, nc_330, nc_390, nc_1200, nc_1260, nc_3012, nc_9834, okSt_1i, okSt_1r, okSt_1n, xpk_succ cd_303_7, xpk_succ cd_303_8, xpk_succ cd_303_11, xpk_succ cd_303_12, xpk_succ cd_303_15, xpk_succ cd_303_16, xpk_succ cd_303_17, xpk_succ cd_303_18, xpk_succ cd_303_21, xpk_succ cd_303_22, xpk_succ cd_303_23, xpk_succ cd_303_24, xpk_succ cd_303_25, xpk_succ cd_303_28, xpk_succ cd_303_31, o1, o2, o3, o4, Int.zero_add, Int.natCast_zero, Int.ofNat_zero, Int.cast_ofNat_Int]
    exact h2
  | succ m ih =>
    intro hm h1 h2
    have y := ih (by omega) h1 h2
    have e0 : ((m + 1 : Nat) : Int) + -1 = (m : Int) := by omega
    rw [e0]
    have c1 : ¬ (m : Int) < 0 := by omega
    have b1 := i8 (show m < 8 by omega)
    have b2 := i8 (show m + 1 < 8 by omega)
    have a1 := p1_ (show m < 1000 by omega)
    have a2 : w32 ((m : Int) + -1) = (m : Int) + -1 := by unfold w32; omega
    have v1 : hV (hG 89 8 h f) 89 m = vI (f m) := hG_V (by omega)
    have v2 : hV (hG 89 8 h f) 89 (m + 1) = vI (f (m + 1)) := hG_V (by omega)
    by_cases z : f m ≤ f (m + 1)
    · have y2 := h1 m (by omega) z
      refine xpk_sound (stops := [34]) (n := 20) ?_
      simp only [sk_0, sk_1, sk_2, sk_3, sk_4, sk_5, sk_6, sk_7, sk_8, sk_iadd, sk_isub, sk_imul, sk_iand, sk_ior, sk_ixor, sk_ishl, sk_ishr, sk_iushr, sk_idiv, sk_irem, sk_ineg, sk_ladd, sk_lsub, sk_lmul, sk_land, sk_lor, sk_ldiv, sk_lrem, sk_lneg, sk_lshl, sk_lshr, sk_i2l, sk_l2i, sk_lcmp, sk_dupI, sk_dupR, sk_dup2L, sk_dup2I, sk_popI, sk_ifeq, sk_ifne, sk_iflt, sk_ifge, sk_ifgt, sk_ifle, sk_iceq, sk_icne, sk_iclt, sk_icge, sk_icgt, sk_icle, sk_goto, sk_getf, sk_putf, sk_gets, sk_iald, sk_lald, sk_bald, sk_aald, sk_iast, sk_last, sk_bast, sk_aast, sk_alen, sk_newa, sk_newt, sk_new, sk_cs1, sk_cs2, sk_cs3, sk_cs4, sk_cs5, sk_cs6, sk_cv1, sk_cv2, sk_cv3, sk_cv4, sk_cv5, sk_cv6, sk_ci1, sk_ci2, sk_ci3, sk_ret0, sk_retI, sk_retL, sk_retR, sk_sw, sk_oin, sk_max, sk_min, sk_abs, lI_0, lI_s, lL_0, lL_s, lR_0, lR_s, vIo_e, vLo_e, vOo_e, stW_I, stW_L, stW_R, stW_0, stW_z, okSt_0, okSt_s, hV_eq, hK_eq, okF_0, okF_1, okF_3, is01_0, is01_1, is01_i, Int.toNat_natCast, Int.reduceEq, Int.reduceLE, Int.reduceLT, Int.reduceNeg, Nat.reduceLT, not_true_eq_false, not_false_eq_true, reduceIte, Option.toList, List.cons_append, List.nil_append, List.set_cons_zero, List.set_cons_succ, List.not_mem_nil, List.mem_cons, if_false, if_true, ite_true, ite_false, and_self, and_true, true_and, Nat.reduceAdd, Nat.reduceLeDiff, Nat.reduceEqDiff, Nat.zero_add, Nat.le_refl, Nat.zero_le, or_false, false_or, Int.reduceToNat, or_true, true_or, eq_self, and_false, false_and, inR_d, nc_4, nc_5, nc_6, nc_7, nc_8, nc_16, nc_18, nc_20, nc_24, nc_32, nc_40, nc_64, nc_104, nc_120, nc_160, nc_256, nc_300, nc_330, nc_390, nc_1200, nc_1260, nc_3012, nc_9834, okSt_1i, okSt_1r, okSt_1n, xpk_succ cd_303_7, xpk_succ cd_303_8, xpk_succ cd_303_11, xpk_succ cd_303_12, xpk_succ cd_303_15, xpk_succ cd_303_16, xpk_succ cd_303_17, xpk_succ cd_303_18, xpk_succ cd_303_21, xpk_succ cd_303_22, xpk_succ cd_303_23, xpk_succ cd_303_24, xpk_succ cd_303_25, xpk_succ cd_303_28, xpk_succ cd_303_31, o1, o2, o3, o4, c1, b1, b2, a1, a2, v1, v2, z]
      exact y2
    · refine xpk_sound (stops := [7, 34]) (n := 20) ?_
      simp only [sk_0, sk_1, sk_2, sk_3, sk_4, sk_5, sk_6, sk_7, sk_8, sk_iadd, sk_isub, sk_imul, sk_iand, sk_ior, sk_ixor, sk_ishl, sk_ishr, sk_iushr, sk_idiv, sk_irem, sk_ineg, sk_ladd, sk_lsub, sk_lmul, sk_land, sk_lor, sk_ldiv, sk_lrem, sk_lneg, sk_lshl, sk_lshr, sk_i2l, sk_l2i, sk_lcmp, sk_dupI, sk_dupR, sk_dup2L, sk_dup2I, sk_popI, sk_ifeq, sk_ifne, sk_iflt, sk_ifge, sk_ifgt, sk_ifle, sk_iceq, sk_icne, sk_iclt, sk_icge, sk_icgt, sk_icle, sk_goto, sk_getf, sk_putf, sk_gets, sk_iald, sk_lald, sk_bald, sk_aald, sk_iast, sk_last, sk_bast, sk_aast, sk_alen, sk_newa, sk_newt, sk_new, sk_cs1, sk_cs2, sk_cs3, sk_cs4, sk_cs5, sk_cs6, sk_cv1, sk_cv2, sk_cv3, sk_cv4, sk_cv5, sk_cv6, sk_ci1, sk_ci2, sk_ci3, sk_ret0, sk_retI, sk_retL, sk_retR, sk_sw, sk_oin, sk_max, sk_min, sk_abs, lI_0, lI_s, lL_0, lL_s, lR_0, lR_s, vIo_e, vLo_e, vOo_e, stW_I, stW_L, stW_R, stW_0, stW_z, okSt_0, okSt_s, hV_eq, hK_eq, okF_0, okF_1, okF_3, is01_0, is01_1, is01_i, Int.toNat_natCast, Int.reduceEq, Int.reduceLE, Int.reduceLT, Int.reduceNeg, Nat.reduceLT, not_true_eq_false, not_false_eq_true, reduceIte, Option.toList, List.cons_append, List.nil_append, List.set_cons_zero, List.set_cons_succ, List.not_mem_nil, List.mem_cons, if_false, if_true, ite_true, ite_false, and_self, and_true, true_and, Nat.reduceAdd, Nat.reduceLeDiff, Nat.reduceEqDiff, Nat.zero_add, Nat.le_refl, Nat.zero_le, or_false, false_or, Int.reduceToNat, or_true, true_or, eq_self, and_false, false_and, inR_d, nc_4, nc_5, nc_6, nc_7, nc_8, nc_16, nc_18, nc_20, nc_24, nc_32, nc_40, nc_64, nc_104, nc_120, nc_160, nc_256, nc_300, nc_330, nc_390, nc_1200, nc_1260, nc_3012, nc_9834, okSt_1i, okSt_1r, okSt_1n, xpk_succ cd_303_7, xpk_succ cd_303_8, xpk_succ cd_303_11, xpk_succ cd_303_12, xpk_succ cd_303_15, xpk_succ cd_303_16, xpk_succ cd_303_17, xpk_succ cd_303_18, xpk_succ cd_303_21, xpk_succ cd_303_22, xpk_succ cd_303_23, xpk_succ cd_303_24, xpk_succ cd_303_25, xpk_succ cd_303_28, xpk_succ cd_303_31, o1, o2, o3, o4, c1, b1, b2, a1, a2, v1, v2, z]
      exact y
set_option maxHeartbeats 4000000 in
theorem nr_2 {d n p : Nat} {h : AH} {f : Nat → Int} {Q : Option AV → AH → Prop} (ho : NRO n h) (hn : n ≤ 8) (hp : p + 1 < n) (hf : f p ≤ f (p + 1)) (hQ : ∀ j : Nat, p < j → j < n → f p ≤ f j → XP d 303 68 [some (vR 76), some (vI (p : Int)), some (vI (j : Int)), none, none, none] [] (hG 89 8 h f) Q) : ∀ (e : Nat), p + 1 + e < n → XP d 303 47 [some (vR 76), some (vI (p : Int)), some (vI ((p + 1 + e : Nat) : Int)), none, none, none] [] (hG 89 8 h f) Q := by
  obtain ⟨o1, o2, o3, o4⟩ := NRO_G (f := f) ho
  intro e
  induction e with
  | zero =>
    intro he
    have y := hQ (p + 1) (by omega) he hf
    have b1 := i8 (show p < 8 by omega)
    have b2 := i8 (show p + 1 < 8 by omega)
    have v1 : hV (hG 89 8 h f) 89 p = vI (f p) := hG_V (by omega)
    have v2 : hV (hG 89 8 h f) 89 (p + 1) = vI (f (p + 1)) := hG_V (by omega)
    rw [Nat.add_zero]
    refine xpk_sound (stops := [68]) (n := 20) ?_
    simp only [sk_0, sk_1, sk_2, sk_3, sk_4, sk_5, sk_6, sk_7, sk_8, sk_iadd, sk_isub, sk_imul, sk_iand, sk_ior, sk_ixor, sk_ishl, sk_ishr, sk_iushr, sk_idiv, sk_irem, sk_ineg, sk_ladd, sk_lsub, sk_lmul, sk_land, sk_lor, sk_ldiv, sk_lrem, sk_lneg, sk_lshl, sk_lshr, sk_i2l, sk_l2i, sk_lcmp, sk_dupI, sk_dupR, sk_dup2L, sk_dup2I, sk_popI, sk_ifeq, sk_ifne, sk_iflt, sk_ifge, sk_ifgt, sk_ifle, sk_iceq, sk_icne, sk_iclt, sk_icge, sk_icgt, sk_icle, sk_goto, sk_getf, sk_putf, sk_gets, sk_iald, sk_lald, sk_bald, sk_aald, sk_iast, sk_last, sk_bast, sk_aast, sk_alen, sk_newa, sk_newt, sk_new, sk_cs1, sk_cs2, sk_cs3, sk_cs4, sk_cs5, sk_cs6, sk_cv1, sk_cv2, sk_cv3, sk_cv4, sk_cv5, sk_cv6, sk_ci1, sk_ci2, sk_ci3, sk_ret0, sk_retI, sk_retL, sk_retR, sk_sw, sk_oin, sk_max, sk_min, sk_abs, lI_0, lI_s, lL_0, lL_s, lR_0, lR_s, vIo_e, vLo_e, vOo_e, stW_I, stW_L, stW_R, stW_0, stW_z, okSt_0, okSt_s, hV_eq, hK_eq, okF_0, okF_1, okF_3, is01_0, is01_1, is01_i, Int.toNat_natCast, Int.reduceEq, Int.reduceLE, Int.reduceLT, Int.reduceNeg, Nat.reduceLT, not_true_eq_false, not_false_eq_true, reduceIte, Option.toList, List.cons_append, List.nil_append, List.set_cons_zero, List.set_cons_succ, List.not_mem_nil, List.mem_cons, if_false, if_true, ite_true, ite_false, and_self, and_true, true_and, Nat.reduceAdd, Nat.reduceLeDiff, Nat.reduceEqDiff, Nat.zero_add, Nat.le_refl, Nat.zero_le, or_false, false_or, Int.reduceToNat, or_true, true_or, eq_self, and_false, false_and, inR_d, nc_4, nc_5, nc_6, nc_7, nc_8, nc_16, nc_18, nc_20, nc_24, nc_32, nc_40, nc_64, nc_104, nc_120, nc_160, nc_256, nc_300, nc_330, nc_390, nc_1200, nc_1260, nc_3012, nc_9834, okSt_1i, okSt_1r, okSt_1n, xpk_succ cd_303_47, xpk_succ cd_303_48, xpk_succ cd_303_51, xpk_succ cd_303_52, xpk_succ cd_303_53, xpk_succ cd_303_54, xpk_succ cd_303_57, xpk_succ cd_303_58, xpk_succ cd_303_59, xpk_succ cd_303_62, xpk_succ cd_303_65, o1, o2, o3, o4, b1, b2, v1, v2, hf]
    exact y
  | succ e ih =>
    intro he
    generalize hj : p + 1 + (e + 1) = j at he
    have b1 := i8 (show p < 8 by omega)
    have b2 := i8 (show j < 8 by omega)
    have v1 : hV (hG 89 8 h f) 89 p = vI (f p) := hG_V (by omega)
    have v2 : hV (hG 89 8 h f) 89 j = vI (f j) := hG_V (by omega)
    by_cases z : f p ≤ f j
    · have y := hQ j (by omega) he z
      refine xpk_sound (stops := [68]) (n := 20) ?_
      simp only [sk_0, sk_1, sk_2, sk_3, sk_4, sk_5, sk_6, sk_7, sk_8, sk_iadd, sk_isub, sk_imul, sk_iand, sk_ior, sk_ixor, sk_ishl, sk_ishr, sk_iushr, sk_idiv, sk_irem, sk_ineg, sk_ladd, sk_lsub, sk_lmul, sk_land, sk_lor, sk_ldiv, sk_lrem, sk_lneg, sk_lshl, sk_lshr, sk_i2l, sk_l2i, sk_lcmp, sk_dupI, sk_dupR, sk_dup2L, sk_dup2I, sk_popI, sk_ifeq, sk_ifne, sk_iflt, sk_ifge, sk_ifgt, sk_ifle, sk_iceq, sk_icne, sk_iclt, sk_icge, sk_icgt, sk_icle, sk_goto, sk_getf, sk_putf, sk_gets, sk_iald, sk_lald, sk_bald, sk_aald, sk_iast, sk_last, sk_bast, sk_aast, sk_alen, sk_newa, sk_newt, sk_new, sk_cs1, sk_cs2, sk_cs3, sk_cs4, sk_cs5, sk_cs6, sk_cv1, sk_cv2, sk_cv3, sk_cv4, sk_cv5, sk_cv6, sk_ci1, sk_ci2, sk_ci3, sk_ret0, sk_retI, sk_retL, sk_retR, sk_sw, sk_oin, sk_max, sk_min, sk_abs, lI_0, lI_s, lL_0, lL_s, lR_0, lR_s, vIo_e, vLo_e, vOo_e, stW_I, stW_L, stW_R, stW_0, stW_z, okSt_0, okSt_s, hV_eq, hK_eq, okF_0, okF_1, okF_3, is01_0, is01_1, is01_i, Int.toNat_natCast, Int.reduceEq, Int.reduceLE, Int.reduceLT, Int.reduceNeg, Nat.reduceLT, not_true_eq_false, not_false_eq_true, reduceIte, Option.toList, List.cons_append, List.nil_append, List.set_cons_zero, List.set_cons_succ, List.not_mem_nil, List.mem_cons, if_false, if_true, ite_true, ite_false, and_self, and_true, true_and, Nat.reduceAdd, Nat.reduceLeDiff, Nat.reduceEqDiff, Nat.zero_add, Nat.le_refl, Nat.zero_le, or_false, false_or, Int.reduceToNat, or_true, true_or, eq_self, and_false, false_and, inR_d, nc_4, nc_5, nc_6, nc_7, nc_8, nc_16, nc_18, nc_20, nc_24, nc_32, nc_40, nc_64, nc_104, nc_120, nc_160, nc_256, nc_300, nc_330, nc_390, nc_1200, nc_1260, nc_3012, nc_9834, okSt_1i, okSt_1r, okSt_1n, xpk_succ cd_303_47, xpk_succ cd_303_48, xpk_succ cd_303_51, xpk_succ cd_303_52, xpk_succ cd_303_53, xpk_succ cd_303_54, xpk_succ cd_303_57, xpk_succ cd_303_58, xpk_succ cd_303_59, xpk_succ cd_303_62, xpk_succ cd_303_65, o1, o2, o3, o4, b1, b2, v1, v2, z]
      exact y
    · have y := ih (by omega)
      have a2 : w32 ((j : Int) + -1) = ((p + 1 + e : Nat) : Int) := by unfold w32; omega
      refine xpk_sound (stops := [47, 68]) (n := 20) ?_
      simp only [sk_0, sk_1, sk_2, sk_3, sk_4, sk_5, sk_6, sk_7, sk_8, sk_iadd, sk_isub, sk_imul, sk_iand, sk_ior, sk_ixor, sk_ishl, sk_ishr, sk_iushr, sk_idiv, sk_irem, sk_ineg, sk_ladd, sk_lsub, sk_lmul, sk_land, sk_lor, sk_ldiv, sk_lrem, sk_lneg, sk_lshl, sk_lshr, sk_i2l, sk_l2i, sk_lcmp, sk_dupI, sk_dupR, sk_dup2L, sk_dup2I, sk_popI, sk_ifeq, sk_ifne, sk_iflt, sk_ifge, sk_ifgt, sk_ifle, sk_iceq, sk_icne, sk_iclt, sk_icge, sk_icgt, sk_icle, sk_goto, sk_getf, sk_putf, sk_gets, sk_iald, sk_lald, sk_bald, sk_aald, sk_iast, sk_last, sk_bast, sk_aast, sk_alen, sk_newa, sk_newt, sk_new, sk_cs1, sk_cs2, sk_cs3, sk_cs4, sk_cs5, sk_cs6, sk_cv1, sk_cv2, sk_cv3, sk_cv4, sk_cv5, sk_cv6, sk_ci1, sk_ci2, sk_ci3, sk_ret0, sk_retI, sk_retL, sk_retR, sk_sw, sk_oin, sk_max, sk_min, sk_abs, lI_0, lI_s, lL_0, lL_s, lR_0, lR_s, vIo_e, vLo_e, vOo_e, stW_I, stW_L, stW_R, stW_0, stW_z, okSt_0, okSt_s, hV_eq, hK_eq, okF_0, okF_1, okF_3, is01_0, is01_1, is01_i, Int.toNat_natCast, Int.reduceEq, Int.reduceLE, Int.reduceLT, Int.reduceNeg, Nat.reduceLT, not_true_eq_false, not_false_eq_true, reduceIte, Option.toList, List.cons_append, List.nil_append, List.set_cons_zero, List.set_cons_succ, List.not_mem_nil, List.mem_cons, if_false, if_true, ite_true, ite_false, and_self, and_true, true_and, Nat.reduceAdd, Nat.reduceLeDiff, Nat.reduceEqDiff, Nat.zero_add, Nat.le_refl, Nat.zero_le, or_false, false_or, Int.reduceToNat, or_true, true_or, eq_self, and_false, false_and, inR_d, nc_4, nc_5, nc_6, nc_7, nc_8, nc_16, nc_18, nc_20, nc_24, nc_32, nc_40, nc_64, nc_104, nc_120, nc_160, nc_256, nc_300, nc_330, nc_390, nc_1200, nc_1260, nc_3012, nc_9834, okSt_1i, okSt_1r, okSt_1n, xpk_succ cd_303_47, xpk_succ cd_303_48, xpk_succ cd_303_51, xpk_succ cd_303_52, xpk_succ cd_303_53, xpk_succ cd_303_54, xpk_succ cd_303_57, xpk_succ cd_303_58, xpk_succ cd_303_59, xpk_succ cd_303_62, xpk_succ cd_303_65, o1, o2, o3, o4, b1, b2, v1, v2, z, a2]
      exact y
set_option maxHeartbeats 4000000 in
theorem nr_3 {d n p : Nat} {h : AH} {f : Nat → Int} {Q : Option AV → AH → Prop} (ho : NRO n h) (hn : n ≤ 8) {j : Int} (hQ : ∀ g, GRT n p f g → Q (some (vI 1)) (hG 89 8 h g)) : ∀ (e a b : Nat) (x3 : Int) (g : Nat → Int), b ≤ a + e → p < a → b < n → GRT n p f g → XP d 303 107 [some (vR 76), some (vI (p : Int)), some (vI j), some (vI x3), some (vI (a : Int)), some (vI (b : Int))] [] (hG 89 8 h g) Q := by
  intro e
  induction e with
  | zero =>
    intro a b x3 g h1 h2 h3 hg
    have y := hQ g hg
    have z : (b : Int) ≤ (a : Int) := by omega
    refine xpk_sound (stops := []) (n := 20) ?_
    simp only [sk_0, sk_1, sk_2, sk_3, sk_4, sk_5, sk_6, sk_7, sk_8, sk_iadd, sk_isub, sk_imul, sk_iand, sk_ior, sk_ixor, sk_ishl, sk_ishr, sk_iushr, sk_idiv, sk_irem, sk_ineg, sk_ladd, sk_lsub, sk_lmul, sk_land, sk_lor, sk_ldiv, sk_lrem, sk_lneg, sk_lshl, sk_lshr, sk_i2l, sk_l2i, sk_lcmp, sk_dupI, sk_dupR, sk_dup2L, sk_dup2I, sk_popI, sk_ifeq, sk_ifne, sk_iflt, sk_ifge, sk_ifgt, sk_ifle, sk_iceq, sk_icne, sk_iclt, sk_icge, sk_icgt, sk_icle, sk_goto, sk_getf, sk_putf, sk_gets, sk_iald, sk_lald, sk_bald, sk_aald, sk_iast, sk_last, sk_bast, sk_aast, sk_alen, sk_newa, sk_newt, sk_new, sk_cs1, sk_cs2, sk_cs3, sk_cs4, sk_cs5, sk_cs6, sk_cv1, sk_cv2, sk_cv3, sk_cv4, sk_cv5, sk_cv6, sk_ci1, sk_ci2, sk_ci3, sk_ret0, sk_retI, sk_retL, sk_retR, sk_sw, sk_oin, sk_max, sk_min, sk_abs, lI_0, lI_s, lL_0, lL_s, lR_0, lR_s, vIo_e, vLo_e, vOo_e, stW_I, stW_L, stW_R, stW_0, stW_z, okSt_0, okSt_s, hV_eq, hK_eq, okF_0, okF_1, okF_3, is01_0, is01_1, is01_i, Int.toNat_natCast, Int.reduceEq, Int.reduceLE, Int.reduceLT, Int.reduceNeg, Nat.reduceLT, not_true_eq_false, not_false_eq_true, reduceIte, Option.toList, List.cons_append, List.nil_append, List.set_cons_zero, List.set_cons_succ, List.not_mem_nil, List.mem_cons, if_false, if_true, ite_true, ite_false, and_self, and_true, true_and, Nat.reduceAdd, Nat.reduceLeDiff, Nat.reduceEqDiff, Nat.zero_add, Nat.le_refl, Nat.zero_le, or_false, false_or, Int.reduceToNat, or_true, true_or, eq_self, and_false, false_and, inR_d, nc_4, nc_5, nc_6, nc_7, nc_8, nc_16, nc_18, nc_20, nc_24, nc_32, nc_40, nc_64, nc_104, nc_120, nc_160, nc_256, nc_300, nc_330, nc_390, nc_1200, nc_1260, nc_3012, nc_9834, okSt_1i, okSt_1r, okSt_1n, xpk_succ cd_303_107, xpk_succ cd_303_109, xpk_succ cd_303_111, xpk_succ cd_303_153, xpk_succ cd_303_154, z]
    exact y
  | succ e ih =>
    intro a b x3 g h1 h2 h3 hg
    by_cases z : (b : Int) ≤ (a : Int)
    · have y := hQ g hg
      refine xpk_sound (stops := []) (n := 20) ?_
      simp only [sk_0, sk_1, sk_2, sk_3, sk_4, sk_5, sk_6, sk_7, sk_8, sk_iadd, sk_isub, sk_imul, sk_iand, sk_ior, sk_ixor, sk_ishl, sk_ishr, sk_iushr, sk_idiv, sk_irem, sk_ineg, sk_ladd, sk_lsub, sk_lmul, sk_land, sk_lor, sk_ldiv, sk_lrem, sk_lneg, sk_lshl, sk_lshr, sk_i2l, sk_l2i, sk_lcmp, sk_dupI, sk_dupR, sk_dup2L, sk_dup2I, sk_popI, sk_ifeq, sk_ifne, sk_iflt, sk_ifge, sk_ifgt, sk_ifle, sk_iceq, sk_icne, sk_iclt, sk_icge, sk_icgt, sk_icle, sk_goto, sk_getf, sk_putf, sk_gets, sk_iald, sk_lald, sk_bald, sk_aald, sk_iast, sk_last, sk_bast, sk_aast, sk_alen, sk_newa, sk_newt, sk_new, sk_cs1, sk_cs2, sk_cs3, sk_cs4, sk_cs5, sk_cs6, sk_cv1, sk_cv2, sk_cv3, sk_cv4, sk_cv5, sk_cv6, sk_ci1, sk_ci2, sk_ci3, sk_ret0, sk_retI, sk_retL, sk_retR, sk_sw, sk_oin, sk_max, sk_min, sk_abs, lI_0, lI_s, lL_0, lL_s, lR_0, lR_s, vIo_e, vLo_e, vOo_e, stW_I, stW_L, stW_R, stW_0, stW_z, okSt_0, okSt_s, hV_eq, hK_eq, okF_0, okF_1, okF_3, is01_0, is01_1, is01_i, Int.toNat_natCast, Int.reduceEq, Int.reduceLE, Int.reduceLT, Int.reduceNeg, Nat.reduceLT, not_true_eq_false, not_false_eq_true, reduceIte, Option.toList, List.cons_append, List.nil_append, List.set_cons_zero, List.set_cons_succ, List.not_mem_nil, List.mem_cons, if_false, if_true, ite_true, ite_false, and_self, and_true, true_and, Nat.reduceAdd, Nat.reduceLeDiff, Nat.reduceEqDiff, Nat.zero_add, Nat.le_refl, Nat.zero_le, or_false, false_or, Int.reduceToNat, or_true, true_or, eq_self, and_false, false_and, inR_d, nc_4, nc_5, nc_6, nc_7, nc_8, nc_16, nc_18, nc_20, nc_24, nc_32, nc_40, nc_64, nc_104, nc_120, nc_160, nc_256, nc_300, nc_330, nc_390, nc_1200, nc_1260, nc_3012, nc_9834, okSt_1i, okSt_1r, okSt_1n, xpk_succ cd_303_107, xpk_succ cd_303_109, xpk_succ cd_303_111, xpk_succ cd_303_153, xpk_succ cd_303_154, z]
      exact y
    · obtain ⟨c, rfl⟩ : ∃ c, b = c + 1 := ⟨b - 1, by omega⟩
      have y := ih (a + 1) c (g a) (swp g a (c + 1)) (by omega) (by omega) (by omega) (swp_G (by omega) h3 hn h2 (by omega) hg)
      have k76 : ∀ g, hK (hG 89 8 h g) 76 = (10, 0) := fun g => (NRO_G (f := g) ho).1
      have v32 : ∀ g, hV (hG 89 8 h g) 76 32 = vR 89 := fun g => (NRO_G (f := g) ho).2.1
      have k89 : ∀ g, hK (hG 89 8 h g) 89 = (11, 8) := fun g => (NRO_G (f := g) ho).2.2.1
      have b1 := i8 (show a < 8 by omega)
      have b2 := i8 (show c + 1 < 8 by omega)
      have v1 : hV (hG 89 8 h g) 89 a = vI (g a) := hG_V (by omega)
      have v2 : hV (hG 89 8 h g) 89 (c + 1) = vI (g (c + 1)) := hG_V (by omega)
      have s1 : ∀ g x, hSet (hG 89 8 h g) 89 a (vI x) = hG 89 8 h (upF g a x) := fun g x => hG_set (by omega)
      have s2 : ∀ g x, hSet (hG 89 8 h g) 89 (c + 1) (vI x) = hG 89 8 h (upF g (c + 1) x) := fun g x => hG_set (by omega)
      have a1 := p1_ (show a < 1000 by omega)
      have a2 := m1 (show c < 1000 by omega)
      unfold swp at y
      refine xpk_sound (stops := [107]) (n := 40) ?_
      simp only [sk_0, sk_1, sk_2, sk_3, sk_4, sk_5, sk_6, sk_7, sk_8, sk_iadd, sk_isub, sk_imul, sk_iand, sk_ior, sk_ixor, sk_ishl, sk_ishr, sk_iushr, sk_idiv, sk_irem, sk_ineg, sk_ladd, sk_lsub, sk_lmul, sk_land, sk_lor, sk_ldiv, sk_lrem, sk_lneg, sk_lshl, sk_lshr, sk_i2l, sk_l2i, sk_lcmp, sk_dupI, sk_dupR, sk_dup2L, sk_dup2I, sk_popI, sk_ifeq, sk_ifne, sk_iflt, sk_ifge, sk_ifgt, sk_ifle, sk_iceq, sk_icne, sk_iclt, sk_icge, sk_icgt, sk_icle, sk_goto, sk_getf, sk_putf, sk_gets, sk_iald, sk_lald, sk_bald, sk_aald, sk_iast, sk_last, sk_bast, sk_aast, sk_alen, sk_newa, sk_newt, sk_new, sk_cs1, sk_cs2, sk_cs3, sk_cs4, sk_cs5, sk_cs6, sk_cv1, sk_cv2, sk_cv3, sk_cv4, sk_cv5, sk_cv6, sk_ci1, sk_ci2, sk_ci3, sk_ret0, sk_retI, sk_retL, sk_retR, sk_sw, sk_oin, sk_max, sk_min, sk_abs, lI_0, lI_s, lL_0, lL_s, lR_0, lR_s, vIo_e, vLo_e, vOo_e, stW_I, stW_L, stW_R, stW_0, stW_z, okSt_0, okSt_s, hV_eq, hK_eq, okF_0, okF_1, okF_3, is01_0, is01_1, is01_i, Int.toNat_natCast, Int.reduceEq, Int.reduceLE, Int.reduceLT, Int.reduceNeg, Nat.reduceLT, not_true_eq_false, not_false_eq_true, reduceIte, Option.toList, List.cons_append, List.nil_append, List.set_cons_zero, List.set_cons_succ, List.not_mem_nil, List.mem_cons, if_false, if_true, ite_true, ite_false, and_self, and_true, true_and, Nat.reduceAdd, Nat.reduceLeDiff, Nat.reduceEqDiff, Nat.zero_add, Nat.le_refl, Nat.zero_le, or_false, false_or, Int.reduceToNat, or_true, true_or, eq_self, and_false, false_and, inR_d, nc_4, nc_5, nc_6, nc_7, nc_8, nc_16, nc_18, nc_20, nc_24, nc_32, nc_40, nc_64, nc_104, nc_120, nc_160, nc_256, nc_300, nc_330, nc_390, nc_1200, nc_1260, nc_3012, nc_9834, okSt_1i, okSt_1r, okSt_1n, xpk_succ cd_303_107, xpk_succ cd_303_109, xpk_succ cd_303_111, xpk_succ cd_303_114, xpk_succ cd_303_115, xpk_succ cd_303_118, xpk_succ cd_303_120, xpk_succ cd_303_121, xpk_succ cd_303_122, xpk_succ cd_303_123, xpk_succ cd_303_126, xpk_succ cd_303_128, xpk_succ cd_303_129, xpk_succ cd_303_132, xpk_succ cd_303_134, xpk_succ cd_303_135, xpk_succ cd_303_136, xpk_succ cd_303_137, xpk_succ cd_303_140, xpk_succ cd_303_142, xpk_succ cd_303_143, xpk_succ cd_303_144, xpk_succ cd_303_147, xpk_succ cd_303_150, k76, v32, k89, z, b1, b2, v1, v2, s1, s2, a1, a2]
      exact y
set_option maxHeartbeats 4000000 in
/-- the next row is a greater one -/
theorem X_nr {d n : Nat} {h : AH} {f : Nat → Int} (ho : NRO n h) (hn : n ≤ 8) (hf : PRM n f) : ∃ (r : Int) (g : Nat → Int), ((r = 0 ∧ g = f) ∨ (r = 1 ∧ PRM n g ∧ rV f n + 1 ≤ rV g n)) ∧ ∀ Q : Option AV → AH → Prop, XC (d + 1) 303 [vR 76] (hG 89 8 h f) Q = Q (some (vI r)) (hG 89 8 h g) := by
  have q0 : XC (d + 1) 303 [vR 76] (hG 89 8 h f) (fun r' h' => ∃ (r : Int) (g : Nat → Int), r' = some (vI r) ∧ h' = hG 89 8 h g ∧ ((r = 0 ∧ g = f) ∨ (r = 1 ∧ PRM n g ∧ rV f n + 1 ≤ rV g n))) := by
    obtain ⟨o1, o2, o3, o4⟩ := NRO_G (f := f) ho
    have fin0 : ∃ (r : Int) (g : Nat → Int), some (vI 0) = some (vI r) ∧ hG 89 8 h f = hG 89 8 h g ∧ ((r = 0 ∧ g = f) ∨ (r = 1 ∧ PRM n g ∧ rV f n + 1 ≤ rV g n)) := ⟨0, f, rfl, rfl, Or.inl ⟨rfl, rfl⟩⟩
    refine XC_of (Nat.le_of_ble_eq_true rfl) ?_
    show XP d 303 0 [some (vR 76), none, none, none, none, none] [] (hG 89 8 h f) _
    have a0 : w32 ((n : Int) - 2) = (n : Int) - 2 := by unfold w32; omega
    generalize hQQ : (fun (r' : Option AV) (h' : AH) => ∃ (r : Int) (g : Nat → Int), r' = some (vI r) ∧ h' = hG 89 8 h g ∧ ((r = 0 ∧ g = f) ∨ (r = 1 ∧ PRM n g ∧ rV f n + 1 ≤ rV g n))) = QQ
    have y0 : QQ (some (vI 0)) (hG 89 8 h f) := by rw [← hQQ]; exact fin0
    by_cases z : n ≤ 1
    · have c1 : (n : Int) - 2 < 0 := by omega
      have c2 : ¬ (0 : Int) ≤ (n : Int) - 2 := by omega
      refine xpk_sound (stops := []) (n := 20) ?_
      simp only [sk_0, sk_1, sk_2, sk_3, sk_4, sk_5, sk_6, sk_7, sk_8, sk_iadd, sk_isub, sk_imul, sk_iand, sk_ior, sk_ixor, sk_ishl, sk_ishr, sk_iushr, sk_idiv, sk_irem, sk_ineg, sk_ladd, sk_lsub, sk_lmul, sk_land, sk_lor, sk_ldiv, sk_lrem, sk_lneg, sk_lshl, sk_lshr, sk_i2l, sk_l2i, sk_lcmp, sk_dupI, sk_dupR, sk_dup2L, sk_dup2I, sk_popI, sk_ifeq, sk_ifne, sk_iflt, sk_ifge, sk_ifgt, sk_ifle, sk_iceq, sk_icne, sk_iclt, sk_icge, sk_icgt, sk_icle, sk_goto, sk_getf, sk_putf, sk_gets, sk_iald, sk_lald, sk_bald, sk_aald, sk_iast, sk_last, sk_bast, sk_aast, sk_alen, sk_newa, sk_newt, sk_new, sk_cs1, sk_cs2, sk_cs3, sk_cs4, sk_cs5, sk_cs6, sk_cv1, sk_cv2, sk_cv3, sk_cv4, sk_cv5, sk_cv6, sk_ci1, sk_ci2, sk_ci3, sk_ret0, sk_retI, sk_retL, sk_retR, sk_sw, sk_oin, sk_max, sk_min, sk_abs, lI_0, lI_s, lL_0, lL_s, lR_0, lR_s, vIo_e, vLo_e, vOo_e, stW_I, stW_L, stW_R, stW_0, stW_z, okSt_0, okSt_s, hV_eq, hK_eq, okF_0, okF_1, okF_3, is01_0, is01_1, is01_i, Int.toNat_natCast, Int.reduceEq, Int.reduceLE, Int.reduceLT, Int.reduceNeg, Nat.reduceLT, not_true_eq_false, not_false_eq_true, reduceIte, Option.toList, List.cons_append, List.nil_append, List.set_cons_zero, List.set_cons_succ, List.not_mem_nil, List.mem_cons, if_false, if_true, ite_true, ite_false, and_self, and_true, true_and, Nat.reduceAdd, Nat.reduceLeDiff, Nat.reduceEqDiff, Nat.zero_add, Nat.le_refl, Nat.zero_le, or_false, false_or, Int.reduceToNat, or_true, true_or, eq_self, and_false, false_and, inR_d, nc_4, nc_5, nc_6, nc_7, nc_8, nc_16, nc_18, nc_20, nc_24, nc_32, nc_40, nc_64, nc_104, nc_120, nc_160, nc_256, nc_300, nc_330, nc_390, nc_1200, nc_1260, nc_3012, nc_9834, okSt_1i, okSt_1r, okSt_1n, xpk_succ cd_303_0, xpk_succ cd_303_1, xpk_succ cd_303_4, xpk_succ cd_303_5, xpk_succ cd_303_6, xpk_succ cd_303_7, xpk_succ cd_303_8, xpk_succ cd_303_11, xpk_succ cd_303_34, xpk_succ cd_303_35, xpk_succ cd_303_38, xpk_succ cd_303_39, o1, o2, o3, o4, a0, c1, c2]
      exact y0
    · have e34 : XP d 303 34 [some (vR 76), some (vI (-1)), none, none, none, none] [] (hG 89 8 h f) QQ := by
        refine xpk_sound (stops := []) (n := 20) ?_
        simp only [sk_0, sk_1, sk_2, sk_3, sk_4, sk_5, sk_6, sk_7, sk_8, sk_iadd, sk_isub, sk_imul, sk_iand, sk_ior, sk_ixor, sk_ishl, sk_ishr, sk_iushr, sk_idiv, sk_irem, sk_ineg, sk_ladd, sk_lsub, sk_lmul, sk_land, sk_lor, sk_ldiv, sk_lrem, sk_lneg, sk_lshl, sk_lshr, sk_i2l, sk_l2i, sk_lcmp, sk_dupI, sk_dupR, sk_dup2L, sk_dup2I, sk_popI, sk_ifeq, sk_ifne, sk_iflt, sk_ifge, sk_ifgt, sk_ifle, sk_iceq, sk_icne, sk_iclt, sk_icge, sk_icgt, sk_icle, sk_goto, sk_getf, sk_putf, sk_gets, sk_iald, sk_lald, sk_bald, sk_aald, sk_iast, sk_last, sk_bast, sk_aast, sk_alen, sk_newa, sk_newt, sk_new, sk_cs1, sk_cs2, sk_cs3, sk_cs4, sk_cs5, sk_cs6, sk_cv1, sk_cv2, sk_cv3, sk_cv4, sk_cv5, sk_cv6, sk_ci1, sk_ci2, sk_ci3, sk_ret0, sk_retI, sk_retL, sk_retR, sk_sw, sk_oin, sk_max, sk_min, sk_abs, lI_0, lI_s, lL_0, lL_s, lR_0, lR_s, vIo_e, vLo_e, vOo_e, stW_I, stW_L, stW_R, stW_0, stW_z, okSt_0, okSt_s, hV_eq, hK_eq, okF_0, okF_1, okF_3, is01_0, is01_1, is01_i, Int.toNat_natCast, Int.reduceEq, Int.reduceLE, Int.reduceLT, Int.reduceNeg, Nat.reduceLT, not_true_eq_false, not_false_eq_true, reduceIte, Option.toList, List.cons_append, List.nil_append, List.set_cons_zero, List.set_cons_succ, List.not_mem_nil, List.mem_cons, if_false, if_true, ite_true, ite_false, and_self, and_true, true_and, Nat.reduceAdd, Nat.reduceLeDiff, Nat.reduceEqDiff, Nat.zero_add, Nat.le_refl, Nat.zero_le, or_false, false_or, Int.reduceToNat, or_true, true_or, eq_self, and_false, false_and, inR_d, nc_4, nc_5, nc_6, nc_7, nc_8, nc_16, nc_18, nc_20, nc_24, nc_32, nc_40, nc_64, nc_104, nc_120, nc_160, nc_256, nc_300, nc_330, nc_390, nc_1200, nc_1260, nc_3012, nc_9834, okSt_1i, okSt_1r, okSt_1n, xpk_succ cd_303_34, xpk_succ cd_303_35, xpk_succ cd_303_38, xpk_succ cd_303_39, o1, o2, o3, o4]
        exact y0
      have e40 : ∀ p : Nat, p + 1 < n → f p ≤ f (p + 1) → XP d 303 34 [some (vR 76), some (vI (p : Int)), none, none, none, none] [] (hG 89 8 h f) QQ := by
        intro p hp hl
        have e68 : ∀ j : Nat, p < j → j < n → f p ≤ f j → XP d 303 68 [some (vR 76), some (vI (p : Int)), some (vI (j : Int)), none, none, none] [] (hG 89 8 h f) QQ := by
          intro j pj hj hfj
          have y := nr_3 (d := d) (p := p) (f := f) (Q := QQ) ho hn (j := (j : Int)) (fun g hg => by
            rw [← hQQ]
            exact ⟨1, g, rfl, rfl, Or.inr ⟨rfl, hg.1, rV_lt hf.2 hg.1.2 hg.2.1 hg.2.2 n (by omega) hn⟩⟩) 8 (p + 1) (n - 1) (f p) (swp f p j) (by omega) (by omega) (by omega) (swp_1 hj hn pj hf hfj)
          have k76 : ∀ g, hK (hG 89 8 h g) 76 = (10, 0) := fun g => (NRO_G (f := g) ho).1
          have v32 : ∀ g, hV (hG 89 8 h g) 76 32 = vR 89 := fun g => (NRO_G (f := g) ho).2.1
          have v34 : ∀ g, hV (hG 89 8 h g) 76 34 = vI (n : Int) := fun g => (NRO_G (f := g) ho).2.2.2
          have k89 : ∀ g, hK (hG 89 8 h g) 89 = (11, 8) := fun g => (NRO_G (f := g) ho).2.2.1
          have b1 := i8 (show p < 8 by omega)
          have b2 := i8 (show j < 8 by omega)
          have v1 : hV (hG 89 8 h f) 89 p = vI (f p) := hG_V (by omega)
          have v2 : hV (hG 89 8 h f) 89 j = vI (f j) := hG_V (by omega)
          have s1 : ∀ g x, hSet (hG 89 8 h g) 89 p (vI x) = hG 89 8 h (upF g p x) := fun g x => hG_set (by omega)
          have s2 : ∀ g x, hSet (hG 89 8 h g) 89 j (vI x) = hG 89 8 h (upF g j x) := fun g x => hG_set (by omega)
          have a1 := p1_ (show p < 1000 by omega)
          have a2 : w32 ((n : Int) - 1) = ((n - 1 : Nat) : Int) := by unfold w32; omega
          unfold swp at y
          refine xpk_sound (stops := [107]) (n := 50) ?_
          simp only [sk_0, sk_1, sk_2, sk_3, sk_4, sk_5, sk_6, sk_7, sk_8, sk_iadd, sk_isub, sk_imul, sk_iand, sk_ior, sk_ixor, sk_ishl, sk_ishr, sk_iushr, sk_idiv, sk_irem, sk_ineg, sk_ladd, sk_lsub, sk_lmul, sk_land, sk_lor, sk_ldiv, sk_lrem, sk_lneg, sk_lshl, sk_lshr, sk_i2l, sk_l2i, sk_lcmp, sk_dupI, sk_dupR, sk_dup2L, sk_dup2I, sk_popI, sk_ifeq, sk_ifne, sk_iflt, sk_ifge, sk_ifgt, sk_ifle, sk_iceq, sk_icne, sk_iclt, sk_icge, sk_icgt, sk_icle, sk_goto, sk_getf, sk_putf, sk_gets, sk_iald, sk_lald, sk_bald, sk_aald, sk_iast, sk_last, sk_bast, sk_aast, sk_alen, sk_newa, sk_newt, sk_new, sk_cs1, sk_cs2, sk_cs3, sk_cs4, sk_cs5, sk_cs6, sk_cv1, sk_cv2, sk_cv3, sk_cv4, sk_cv5, sk_cv6, sk_ci1, sk_ci2, sk_ci3, sk_ret0, sk_retI, sk_retL, sk_retR, sk_sw, sk_oin, sk_max, sk_min, sk_abs, lI_0, lI_s, lL_0, lL_s, lR_0, lR_s, vIo_e, vLo_e, vOo_e, stW_I, stW_L, stW_R, stW_0, stW_z, okSt_0, okSt_s, hV_eq, hK_eq, okF_0, okF_1, okF_3, is01_0, is01_1, is01_i, Int.toNat_natCast, Int.reduceEq, Int.reduceLE, Int.reduceLT, Int.reduceNeg, Nat.reduceLT, not_true_eq_false, not_false_eq_true, reduceIte, Option.toList, List.cons_append, List.nil_append, List.set_cons_zero, List.set_cons_succ, List.not_mem_nil, List.mem_cons, if_false, if_true, ite_true, ite_false, and_self, and_true, true_and, Nat.reduceAdd, Nat.reduceLeDiff, Nat.reduceEqDiff, Nat.zero_add, Nat.le_refl, Nat.zero_le, or_false, false_or, Int.reduceToNat, or_true, true_or, eq_self, and_false, false_and, inR_d, nc_4, nc_5, nc_6, nc_7, nc_8, nc_16, nc_18, nc_20, nc_24, nc_32, nc_40, nc_64, nc_104, nc_120, nc_160, nc_256, nc_300, nc_330, nc_390, nc_1200, nc_1260, nc_3012, nc_9834, okSt_1i, okSt_1r, okSt_1n, xpk_succ cd_303_68, xpk_succ cd_303_69, xpk_succ cd_303_72, xpk_succ cd_303_73, xpk_succ cd_303_74, xpk_succ cd_303_75, xpk_succ cd_303_76, xpk_succ cd_303_79, xpk_succ cd_303_80, xpk_succ cd_303_81, xpk_succ cd_303_84, xpk_succ cd_303_85, xpk_succ cd_303_86, xpk_succ cd_303_87, xpk_succ cd_303_88, xpk_succ cd_303_91, xpk_succ cd_303_92, xpk_succ cd_303_93, xpk_succ cd_303_94, xpk_succ cd_303_95, xpk_succ cd_303_96, xpk_succ cd_303_97, xpk_succ cd_303_99, xpk_succ cd_303_100, xpk_succ cd_303_103, xpk_succ cd_303_104, xpk_succ cd_303_105, k76, v32, v34, k89, b1, b2, v1, v2, s1, s2, a1, a2]
          exact y
        have y := nr_2 (d := d) (Q := QQ) ho hn hp hl e68 (n - 2 - p) (by omega)
        rw [show p + 1 + (n - 2 - p) = n - 1 by omega] at y
        have a2 : w32 ((n : Int) - 1) = ((n - 1 : Nat) : Int) := by unfold w32; omega
        have c1 : (0 : Int) ≤ (p : Int) := by omega
        refine xpk_sound (stops := [47]) (n := 20) ?_
        simp only [sk_0, sk_1, sk_2, sk_3, sk_4, sk_5, sk_6, sk_7, sk_8, sk_iadd, sk_isub, sk_imul, sk_iand, sk_ior, sk_ixor, sk_ishl, sk_ishr, sk_iushr, sk_idiv, sk_irem, sk_ineg, sk_ladd, sk_lsub, sk_lmul, sk_land, sk_lor, sk_ldiv, sk_lrem, sk_lneg, sk_lshl, sk_lshr, sk_i2l, sk_l2i, sk_lcmp, sk_dupI, sk_dupR, sk_dup2L, sk_dup2I, sk_popI, sk_ifeq, sk_ifne, sk_iflt, sk_ifge, sk_ifgt, sk_ifle, sk_iceq, sk_icne, sk_iclt, sk_icge, sk_icgt, sk_icle, sk_goto, sk_getf, sk_putf, sk_gets, sk_iald, sk_lald, sk_bald, sk_aald, sk_iast, sk_last, sk_bast, sk_aast, sk_alen, sk_newa, sk_newt, sk_new, sk_cs1, sk_cs2, sk_cs3, sk_cs4, sk_cs5, sk_cs6, sk_cv1, sk_cv2, sk_cv3, sk_cv4, sk_cv5, sk_cv6, sk_ci1, sk_ci2, sk_ci3, sk_ret0, sk_retI, sk_retL, sk_retR, sk_sw, sk_oin, sk_max, sk_min, sk_abs, lI_0, lI_s, lL_0, lL_s, lR_0, lR_s, vIo_e, vLo_e, vOo_e, stW_I, stW_L, stW_R, stW_0, stW_z, okSt_0, okSt_s, hV_eq, hK_eq, okF_0, okF_1, okF_3, is01_0, is01_1, is01_i, Int.toNat_natCast, Int.reduceEq, Int.reduceLE, Int.reduceLT, Int.reduceNeg, Nat.reduceLT, not_true_eq_false, not_false_eq_true, reduceIte, Option.toList, List.cons_append, List.nil_append, List.set_cons_zero, List.set_cons_succ, List.not_mem_nil, List.mem_cons, if_false, if_true, ite_true, ite_false, and_self, and_true, true_and, Nat.reduceAdd, Nat.reduceLeDiff, Nat.reduceEqDiff, Nat.zero_add, Nat.le_refl, Nat.zero_le, or_false, false_or, Int.reduceToNat, or_true, true_or, eq_self, and_false, false_and, inR_d, nc_4, nc_5, nc_6, nc_7, nc_8, nc_16, nc_18, nc_20, nc_24, nc_32, nc_40, nc_64, nc_104, nc_120, nc_160, nc_256, nc_300, nc_330, nc_390, nc_1200, nc_1260, nc_3012, nc_9834, okSt_1i, okSt_1r, okSt_1n, xpk_succ cd_303_34, xpk_succ cd_303_35, xpk_succ cd_303_40, xpk_succ cd_303_41, xpk_succ cd_303_44, xpk_succ cd_303_45, xpk_succ cd_303_46, o1, o2, o3, o4, a2, c1]
        exact y
      have y := nr_1 (d := d) (Q := QQ) ho hn (n - 1) (by omega) e40 e34
      rw [show ((n - 1 : Nat) : Int) + -1 = (n : Int) - 2 by omega] at y
      refine xpk_sound (stops := [7]) (n := 20) ?_
      simp only [sk_0, sk_1, sk_2, sk_3, sk_4, sk_5, sk_6, sk_7, sk_8, sk_iadd, sk_isub, sk_imul, sk_iand, sk_ior, sk_ixor, sk_ishl, sk_ishr, sk_iushr, sk_idiv, sk_irem, sk_ineg, sk_ladd, sk_lsub, sk_lmul, sk_land, sk_lor, sk_ldiv, sk_lrem, sk_lneg, sk_lshl, sk_lshr, sk_i2l, sk_l2i, sk_lcmp, sk_dupI, sk_dupR, sk_dup2L, sk_dup2I, sk_popI, sk_ifeq, sk_ifne, sk_iflt, sk_ifge, sk_ifgt, sk_ifle, sk_iceq, sk_icne, sk_iclt, sk_icge, sk_icgt, sk_icle, sk_goto, sk_getf, sk_putf, sk_gets, sk_iald, sk_lald, sk_bald, sk_aald, sk_iast, sk_last, sk_bast, sk_aast, sk_alen, sk_newa, sk_newt, sk_new, sk_cs1, sk_cs2, sk_cs3, sk_cs4, sk_cs5, sk_cs6, sk_cv1, sk_cv2, sk_cv3, sk_cv4, sk_cv5, sk_cv6, sk_ci1, sk_ci2, sk_ci3, sk_ret0, sk_retI, sk_retL, sk_retR, sk_sw, sk_oin, sk_max, sk_min, sk_abs, lI_0, lI_s, lL_0, lL_s, lR_0, lR_s, vIo_e, vLo_e, vOo_e, stW_I, stW_L, stW_R, stW_0, stW_z, okSt_0, okSt_s, hV_eq, hK_eq, okF_0, okF_1, okF_3, is01_0, is01_1, is01_i, Int.toNat_natCast, Int.reduceEq, Int.reduceLE, Int.reduceLT, Int.reduceNeg, Nat.reduceLT, not_true_eq_false, not_false_eq_true, reduceIte, Option.toList, List.cons_append, List.nil_append, List.set_cons_zero, List.set_cons_succ, List.not_mem_nil, List.mem_cons, if_false, if_true, ite_true, ite_false, and_self, and_true, true_and, Nat.reduceAdd, Nat.reduceLeDiff, Nat.reduceEqDiff, Nat.zero_add, Nat.le_refl, Nat.zero_le, or_false, false_or, Int.reduceToNat, or_true, true_or, eq_self, and_false, false_and, inR_d, nc_4, nc_5, nc_6, nc_7, nc_8, nc_16, nc_18, nc_20, nc_24, nc_32, nc_40, nc_64, nc_104, nc_120, nc_160, nc_256, nc_300, nc_330, nc_390, nc_1200, nc_1260, nc_3012, nc_9834, okSt_1i, okSt_1r, okSt_1n, xpk_succ cd_303_0, xpk_succ cd_303_1, xpk_succ cd_303_4, xpk_succ cd_303_5, xpk_succ cd_303_6, o1, o2, o3, o4, a0]
      exact y
  obtain ⟨r, h', ⟨r', g, rfl, rfl, hg⟩, e⟩ := XC_dt q0
  exact ⟨r', g, hg, e⟩
