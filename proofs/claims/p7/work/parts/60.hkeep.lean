set_option maxRecDepth 20000 in
theorem ac_254 : allC[254]? = some cl254 := rfl
theorem cd_254_0 : cd 254 0 = some (4, 1, 0, 0, 0, []) := cd_row ac_254 rfl
theorem cd_254_1 : cd 254 1 = some (23, 4, 10, 0, 0, []) := cd_row ac_254 rfl
theorem cd_254_4 : cd 254 4 = some (0, 5, 0, 0, 5, []) := cd_row ac_254 rfl
theorem cd_254_5 : cd 254 5 = some (26, 6, 0, 0, 0, []) := cd_row ac_254 rfl
theorem cd_254_6 : cd 254 6 = some (0, 8, 0, 0, 30, []) := cd_row ac_254 rfl
theorem cd_254_8 : cd 254 8 = some (21, 11, 54, 1, 0, []) := cd_row ac_254 rfl
theorem cd_254_11 : cd 254 11 = some (0, 12, 0, 0, 0, []) := cd_row ac_254 rfl
theorem cd_254_12 : cd 254 12 = some (5, 13, 1, 0, 0, []) := cd_row ac_254 rfl
theorem cd_254_13 : cd 254 13 = some (2, 14, 1, 0, 0, []) := cd_row ac_254 rfl
theorem cd_254_14 : cd 254 14 = some (0, 17, 0, 0, 377, []) := cd_row ac_254 rfl
theorem cd_254_17 : cd 254 17 = some (21, 20, 44, 3, 0, []) := cd_row ac_254 rfl
theorem cd_254_20 : cd 254 20 = some (4, 21, 0, 0, 0, []) := cd_row ac_254 rfl
theorem cd_254_21 : cd 254 21 = some (23, 24, 10, 0, 0, []) := cd_row ac_254 rfl
theorem cd_254_24 : cd 254 24 = some (0, 26, 0, 0, 84, []) := cd_row ac_254 rfl
theorem cd_254_26 : cd 254 26 = some (2, 27, 1, 0, 0, []) := cd_row ac_254 rfl
theorem cd_254_27 : cd 254 27 = some (9, 28, 0, 0, 0, []) := cd_row ac_254 rfl
theorem cd_254_28 : cd 254 28 = some (4, 29, 0, 0, 0, []) := cd_row ac_254 rfl
theorem cd_254_29 : cd 254 29 = some (23, 32, 10, 0, 0, []) := cd_row ac_254 rfl
theorem cd_254_32 : cd 254 32 = some (0, 34, 0, 0, 97, []) := cd_row ac_254 rfl
theorem cd_254_34 : cd 254 34 = some (2, 35, 1, 0, 0, []) := cd_row ac_254 rfl
theorem cd_254_35 : cd 254 35 = some (9, 36, 0, 0, 0, []) := cd_row ac_254 rfl
theorem cd_254_36 : cd 254 36 = some (26, 37, 0, 0, 0, []) := cd_row ac_254 rfl
theorem cd_254_37 : cd 254 37 = some (30, 38, 0, 0, 0, []) := cd_row ac_254 rfl
theorem cd_254_38 : cd 254 38 = some (8, 41, 1, 0, 1, []) := cd_row ac_254 rfl
theorem cd_254_41 : cd 254 41 = some (22, 44, 13, 0, 0, []) := cd_row ac_254 rfl
theorem cd_254_44 : cd 254 44 = some (4, 45, 0, 0, 0, []) := cd_row ac_254 rfl
theorem cd_254_45 : cd 254 45 = some (23, 48, 10, 0, 0, []) := cd_row ac_254 rfl
theorem cd_254_48 : cd 254 48 = some (0, 49, 0, 0, 5, []) := cd_row ac_254 rfl
theorem cd_254_49 : cd 254 49 = some (18, 50, 0, 0, 0, []) := cd_row ac_254 rfl
theorem cd_254_50 : cd 254 50 = some (26, 51, 0, 0, 0, []) := cd_row ac_254 rfl
theorem cd_254_51 : cd 254 51 = some (0, 52, 0, 0, 1, []) := cd_row ac_254 rfl
theorem cd_254_52 : cd 254 52 = some (9, 53, 0, 1, 0, []) := cd_row ac_254 rfl
theorem cd_254_53 : cd 254 53 = some (30, 54, 0, 0, 0, []) := cd_row ac_254 rfl
theorem cd_254_54 : cd 254 54 = some (0, 56, 0, 0, 84, []) := cd_row ac_254 rfl
theorem cd_254_56 : cd 254 56 = some (0, 58, 0, 0, 13, []) := cd_row ac_254 rfl
theorem cd_254_58 : cd 254 58 = some (4, 59, 0, 0, 0, []) := cd_row ac_254 rfl
theorem cd_254_59 : cd 254 59 = some (23, 62, 10, 0, 0, []) := cd_row ac_254 rfl
theorem cd_254_62 : cd 254 62 = some (0, 63, 0, 0, 5, []) := cd_row ac_254 rfl
theorem cd_254_63 : cd 254 63 = some (26, 64, 0, 0, 0, []) := cd_row ac_254 rfl
theorem cd_254_64 : cd 254 64 = some (9, 65, 0, 2, 0, []) := cd_row ac_254 rfl
theorem cd_254_65 : cd 254 65 = some (9, 66, 0, 0, 0, []) := cd_row ac_254 rfl
theorem cd_254_66 : cd 254 66 = some (5, 67, 1, 0, 0, []) := cd_row ac_254 rfl
theorem cd_254_67 : cd 254 67 = some (0, 68, 0, 0, 0, []) := cd_row ac_254 rfl
theorem cd_254_68 : cd 254 68 = some (5, 69, 2, 0, 0, []) := cd_row ac_254 rfl
theorem cd_254_69 : cd 254 69 = some (2, 70, 2, 0, 0, []) := cd_row ac_254 rfl
theorem cd_254_70 : cd 254 70 = some (0, 72, 0, 0, 10, []) := cd_row ac_254 rfl
theorem cd_254_72 : cd 254 72 = some (21, 75, 98, 3, 0, []) := cd_row ac_254 rfl
theorem cd_254_75 : cd 254 75 = some (4, 76, 0, 0, 0, []) := cd_row ac_254 rfl
theorem cd_254_76 : cd 254 76 = some (23, 79, 10, 0, 0, []) := cd_row ac_254 rfl
theorem cd_254_79 : cd 254 79 = some (2, 80, 1, 0, 0, []) := cd_row ac_254 rfl
theorem cd_254_80 : cd 254 80 = some (2, 81, 2, 0, 0, []) := cd_row ac_254 rfl
theorem cd_254_81 : cd 254 81 = some (9, 82, 0, 0, 0, []) := cd_row ac_254 rfl
theorem cd_254_82 : cd 254 82 = some (4, 83, 0, 0, 0, []) := cd_row ac_254 rfl
theorem cd_254_83 : cd 254 83 = some (23, 86, 10, 0, 0, []) := cd_row ac_254 rfl
theorem cd_254_86 : cd 254 86 = some (0, 88, 0, 0, 8, []) := cd_row ac_254 rfl
theorem cd_254_88 : cd 254 88 = some (2, 89, 2, 0, 0, []) := cd_row ac_254 rfl
theorem cd_254_89 : cd 254 89 = some (9, 90, 0, 0, 0, []) := cd_row ac_254 rfl
theorem cd_254_90 : cd 254 90 = some (26, 91, 0, 0, 0, []) := cd_row ac_254 rfl
theorem cd_254_91 : cd 254 91 = some (30, 92, 0, 0, 0, []) := cd_row ac_254 rfl
theorem cd_254_92 : cd 254 92 = some (8, 95, 2, 0, 1, []) := cd_row ac_254 rfl
theorem cd_254_95 : cd 254 95 = some (22, 98, 69, 0, 0, []) := cd_row ac_254 rfl
theorem cd_254_98 : cd 254 98 = some (4, 99, 0, 0, 0, []) := cd_row ac_254 rfl
theorem cd_254_99 : cd 254 99 = some (23, 102, 10, 0, 0, []) := cd_row ac_254 rfl
theorem cd_254_102 : cd 254 102 = some (2, 103, 1, 0, 0, []) := cd_row ac_254 rfl
theorem cd_254_103 : cd 254 103 = some (0, 105, 0, 0, 10, []) := cd_row ac_254 rfl
theorem cd_254_105 : cd 254 105 = some (9, 106, 0, 0, 0, []) := cd_row ac_254 rfl
theorem cd_254_106 : cd 254 106 = some (4, 107, 0, 0, 0, []) := cd_row ac_254 rfl
theorem cd_254_107 : cd 254 107 = some (23, 110, 10, 0, 0, []) := cd_row ac_254 rfl
theorem cd_254_110 : cd 254 110 = some (0, 111, 0, 0, 2, []) := cd_row ac_254 rfl
theorem cd_254_111 : cd 254 111 = some (26, 112, 0, 0, 0, []) := cd_row ac_254 rfl
theorem cd_254_112 : cd 254 112 = some (30, 113, 0, 0, 0, []) := cd_row ac_254 rfl
theorem cd_254_113 : cd 254 113 = some (4, 114, 0, 0, 0, []) := cd_row ac_254 rfl
theorem cd_254_114 : cd 254 114 = some (23, 117, 10, 0, 0, []) := cd_row ac_254 rfl
theorem cd_254_117 : cd 254 117 = some (2, 118, 1, 0, 0, []) := cd_row ac_254 rfl
theorem cd_254_118 : cd 254 118 = some (0, 120, 0, 0, 11, []) := cd_row ac_254 rfl
theorem cd_254_120 : cd 254 120 = some (9, 121, 0, 0, 0, []) := cd_row ac_254 rfl
theorem cd_254_121 : cd 254 121 = some (4, 122, 0, 0, 0, []) := cd_row ac_254 rfl
theorem cd_254_122 : cd 254 122 = some (23, 125, 10, 0, 0, []) := cd_row ac_254 rfl
theorem cd_254_125 : cd 254 125 = some (0, 127, 0, 0, 7, []) := cd_row ac_254 rfl
theorem cd_254_127 : cd 254 127 = some (26, 128, 0, 0, 0, []) := cd_row ac_254 rfl
theorem cd_254_128 : cd 254 128 = some (30, 129, 0, 0, 0, []) := cd_row ac_254 rfl
theorem cd_254_129 : cd 254 129 = some (4, 130, 0, 0, 0, []) := cd_row ac_254 rfl
theorem cd_254_130 : cd 254 130 = some (23, 133, 10, 0, 0, []) := cd_row ac_254 rfl
theorem cd_254_133 : cd 254 133 = some (2, 134, 1, 0, 0, []) := cd_row ac_254 rfl
theorem cd_254_134 : cd 254 134 = some (0, 136, 0, 0, 12, []) := cd_row ac_254 rfl
theorem cd_254_136 : cd 254 136 = some (9, 137, 0, 0, 0, []) := cd_row ac_254 rfl
theorem cd_254_137 : cd 254 137 = some (0, 138, 0, 0, 0, []) := cd_row ac_254 rfl
theorem cd_254_138 : cd 254 138 = some (30, 139, 0, 0, 0, []) := cd_row ac_254 rfl
theorem cd_254_139 : cd 254 139 = some (0, 140, 0, 0, 0, []) := cd_row ac_254 rfl
theorem cd_254_140 : cd 254 140 = some (5, 141, 2, 0, 0, []) := cd_row ac_254 rfl
theorem cd_254_141 : cd 254 141 = some (2, 142, 2, 0, 0, []) := cd_row ac_254 rfl
theorem cd_254_142 : cd 254 142 = some (4, 143, 0, 0, 0, []) := cd_row ac_254 rfl
theorem cd_254_143 : cd 254 143 = some (23, 146, 10, 0, 0, []) := cd_row ac_254 rfl
theorem cd_254_146 : cd 254 146 = some (0, 147, 0, 0, 0, []) := cd_row ac_254 rfl
theorem cd_254_147 : cd 254 147 = some (26, 148, 0, 0, 0, []) := cd_row ac_254 rfl
theorem cd_254_148 : cd 254 148 = some (21, 151, 177, 3, 0, []) := cd_row ac_254 rfl
theorem cd_254_151 : cd 254 151 = some (4, 152, 0, 0, 0, []) := cd_row ac_254 rfl
theorem cd_254_152 : cd 254 152 = some (23, 155, 10, 0, 0, []) := cd_row ac_254 rfl
theorem cd_254_155 : cd 254 155 = some (2, 156, 1, 0, 0, []) := cd_row ac_254 rfl
theorem cd_254_156 : cd 254 156 = some (0, 158, 0, 0, 12, []) := cd_row ac_254 rfl
theorem cd_254_158 : cd 254 158 = some (9, 159, 0, 0, 0, []) := cd_row ac_254 rfl
theorem cd_254_159 : cd 254 159 = some (18, 160, 0, 0, 0, []) := cd_row ac_254 rfl
theorem cd_254_160 : cd 254 160 = some (26, 161, 0, 0, 0, []) := cd_row ac_254 rfl
theorem cd_254_161 : cd 254 161 = some (4, 162, 0, 0, 0, []) := cd_row ac_254 rfl
theorem cd_254_162 : cd 254 162 = some (2, 163, 2, 0, 0, []) := cd_row ac_254 rfl
theorem cd_254_163 : cd 254 163 = some (0, 164, 0, 0, 5, []) := cd_row ac_254 rfl
theorem cd_254_164 : cd 254 164 = some (46, 167, 188, 3, 10, []) := cd_row ac_254 rfl
theorem cd_254_167 : cd 254 167 = some (2, 168, 2, 0, 0, []) := cd_row ac_254 rfl
theorem cd_254_168 : cd 254 168 = some (9, 169, 0, 8, 0, []) := cd_row ac_254 rfl
theorem cd_254_169 : cd 254 169 = some (9, 170, 0, 4, 0, []) := cd_row ac_254 rfl
theorem cd_254_170 : cd 254 170 = some (30, 171, 0, 0, 0, []) := cd_row ac_254 rfl
theorem cd_254_171 : cd 254 171 = some (8, 174, 2, 0, 1, []) := cd_row ac_254 rfl
theorem cd_254_174 : cd 254 174 = some (22, 177, 141, 0, 0, []) := cd_row ac_254 rfl
theorem cd_254_177 : cd 254 177 = some (4, 178, 0, 0, 0, []) := cd_row ac_254 rfl
theorem cd_254_178 : cd 254 178 = some (23, 181, 10, 0, 0, []) := cd_row ac_254 rfl
theorem cd_254_181 : cd 254 181 = some (0, 182, 0, 0, 5, []) := cd_row ac_254 rfl
theorem cd_254_182 : cd 254 182 = some (18, 183, 0, 0, 0, []) := cd_row ac_254 rfl
theorem cd_254_183 : cd 254 183 = some (26, 184, 0, 0, 0, []) := cd_row ac_254 rfl
theorem cd_254_184 : cd 254 184 = some (0, 185, 0, 0, 1, []) := cd_row ac_254 rfl
theorem cd_254_185 : cd 254 185 = some (9, 186, 0, 0, 0, []) := cd_row ac_254 rfl
theorem cd_254_186 : cd 254 186 = some (30, 187, 0, 0, 0, []) := cd_row ac_254 rfl
theorem cd_254_187 : cd 254 187 = some (39, 188, 0, 0, 0, []) := cd_row ac_254 rfl
theorem okSt_1i {x : Int} {o : Option AV} {l : List (Option AV)} : okSt (some (.inl x) :: o :: l) 1 = true := okSt_1 (fun z h => by cases h) (by rw [List.length_cons]; omega)
theorem okSt_1r {x : Option Nat} {o : Option AV} {l : List (Option AV)} : okSt (some (.inr (.inr x)) :: o :: l) 1 = true := okSt_1 (fun z h => by cases h) (by rw [List.length_cons]; omega)
theorem okSt_1n {o : Option AV} {l : List (Option AV)} : okSt (none :: o :: l) 1 = true := okSt_1 (fun z h => by cases h) (by rw [List.length_cons]; omega)
/-! the reference's row a, as numbers -/
def hA (h : AH) (f : Nat → Int) : AH := (h.1, h.2.1, h.2.2.1, fun a j => if a = 77 ∧ j < 9834 then vI (f j) else h.2.2.2 a j)
def upF (f : Nat → Int) (i : Nat) (x : Int) : Nat → Int := fun j => if j = i then x else f j
theorem upF_at {f : Nat → Int} {i : Nat} {x : Int} : upF f i x i = x := if_pos rfl
theorem upF_ne {f : Nat → Int} {i j : Nat} {x : Int} (h : j ≠ i) : upF f i x j = f j := if_neg h
theorem hA_K (h : AH) (f : Nat → Int) : hK (hA h f) = hK h := rfl
theorem hA_V {h : AH} {f : Nat → Int} {i : Nat} (hi : i < 9834) : hV (hA h f) 77 i = vI (f i) := if_pos ⟨rfl, hi⟩
theorem hA_n {h : AH} {f : Nat → Int} {k i : Nat} (hk : k ≠ 77) : hV (hA h f) k i = hV h k i := if_neg (fun z => hk z.1)
theorem hA_b {h : AH} {f : Nat → Int} {i : Nat} (hi : 9834 ≤ i) : hV (hA h f) 77 i = hV h 77 i := if_neg (fun z => by omega)
theorem hA_set {h : AH} {f : Nat → Int} {i : Nat} {x : Int} (hi : i < 9834) : hSet (hA h f) 77 i (vI x) = hA h (upF f i x) := by
  obtain ⟨a, b, K, V⟩ := h
  unfold hSet hA upV upF
  refine congrArg (fun V => (a, b, K, V)) ?_
  funext r j
  dsimp only
  by_cases z : r = 77 ∧ j = i
  · rw [if_pos z, if_pos ⟨z.1, by omega⟩, if_pos z.2]
  · rw [if_neg z]
    by_cases y : r = 77 ∧ j < 9834
    · rw [if_pos y, if_pos y, if_neg (fun q => z ⟨y.1, q⟩)]
    · rw [if_neg y, if_neg y]
theorem hA_0 {h : AH} {f : Nat → Int} (hv : ∀ i, i < 9834 → hV h 77 i = vI (f i)) : hA h f = h := by
  obtain ⟨a, b, K, V⟩ := h
  unfold hA
  refine congrArg (fun V => (a, b, K, V)) ?_
  funext r j
  dsimp only
  by_cases z : r = 77 ∧ j < 9834
  · rw [if_pos z, z.1]; exact (hv j z.2).symm
  · rw [if_neg z]
/-- the reference stands there -/
def AO (h : AH) : Prop := hK h 76 = (10, 0) ∧ hV h 76 0 = vR 77 ∧ hK h 77 = (11, 9834)
theorem AO_A {h : AH} {f : Nat → Int} (ho : AO h) : AO (hA h f) := ⟨ho.1, by rw [hA_n (by decide)]; exact ho.2.1, ho.2.2⟩
theorem ix {n : Nat} {z : Int} (hz : z = (n : Int)) (hn : n < 9834) : (0 ≤ z ∧ z < 9834) ∧ z.toNat = n := by omega
def shF (f : Nat → Int) (k : Nat) : Nat → Int := fun i => if 84 ≤ i ∧ i < 84 + k then f (i + 13) else f i
def cpF (f : Nat → Int) (x k : Nat) : Nat → Int := fun i => if x ≤ i ∧ i < x + k then f (8 + (i - x)) else f i
theorem shF_0 (f : Nat → Int) : shF f 0 = f := by funext i; exact if_neg (fun z => by omega)
theorem cpF_0 (f : Nat → Int) (x : Nat) : cpF f x 0 = f := by funext i; exact if_neg (fun z => by omega)
theorem shF_s (f : Nat → Int) (k : Nat) : upF (shF f k) (84 + k) (shF f k (97 + k)) = shF f (k + 1) := by
  funext i
  unfold upF shF
  by_cases z : i = 84 + k
  · rw [if_pos z, if_neg (fun y => by omega), if_pos (by omega), z]; congr 1; omega
  · rw [if_neg z]
    by_cases y : 84 ≤ i ∧ i < 84 + k
    · rw [if_pos y, if_pos (by omega)]
    · rw [if_neg y, if_neg (by omega)]
theorem cpF_s (f : Nat → Int) (x k : Nat) (hx : 84 ≤ x) (hk : k < 10) : upF (cpF f x k) (x + k) (cpF f x k (8 + k)) = cpF f x (k + 1) := by
  funext i
  unfold upF cpF
  by_cases z : i = x + k
  · rw [if_pos z, if_neg (fun y => by omega), if_pos (by omega), z]; congr 1; omega
  · rw [if_neg z]
    by_cases y : x ≤ i ∧ i < x + k
    · rw [if_pos y, if_pos (by omega)]
    · rw [if_neg y, if_neg (by omega)]
set_option maxHeartbeats 4000000 in
theorem kp_1 (d : Nat) (h : AH) (f : Nat → Int) (Q : Option AV → AH → Prop) (ho : AO h) (hend : XP d 254 44 [some (vR 76), some (vI 377), none] [] (hA h (shF f 377)) Q) : ∀ j k : Nat, k + j = 377 → XP d 254 13 [some (vR 76), some (vI (k : Int)), none] [] (hA h (shF f k)) Q := by
  intro j
  induction j with
  | zero =>
    intro k hk
    obtain rfl : k = 377 := by omega
    refine xpk_sound (stops := [44]) (n := 5) ?_
    simp only [sk_0, sk_1, sk_2, sk_3, sk_4, sk_5, sk_6, sk_7, sk_8, sk_iadd, sk_isub, sk_imul, sk_iand, sk_ior, sk_ixor, sk_ishl, sk_ishr, sk_iushr, sk_idiv, sk_irem, sk_ineg, sk_ladd, sk_lsub, sk_lmul, sk_land, sk_lor, sk_ldiv, sk_lrem, sk_lneg, sk_lshl, sk_lshr, sk_i2l, sk_l2i, sk_lcmp, sk_dupI, sk_dupR, sk_dup2L, sk_dup2I, sk_popI, sk_ifeq, sk_ifne, sk_iflt, sk_ifge, sk_ifgt, sk_ifle, sk_iceq, sk_icne, sk_iclt, sk_icge, sk_icgt, sk_icle, sk_goto, sk_getf, sk_putf, sk_gets, sk_iald, sk_lald, sk_bald, sk_aald, sk_iast, sk_last, sk_bast, sk_aast, sk_alen, sk_newa, sk_newt, sk_new, sk_cs1, sk_cs2, sk_cs3, sk_cs4, sk_cs5, sk_cs6, sk_cv1, sk_cv2, sk_cv3, sk_cv4, sk_cv5, sk_cv6, sk_ci1, sk_ci2, sk_ci3, sk_ret0, sk_retI, sk_retL, sk_retR, sk_sw, sk_oin, sk_max, sk_min, sk_abs, lI_0, lI_s, lL_0, lL_s, lR_0, lR_s, vIo_e, vLo_e, vOo_e, stW_I, stW_L, stW_R, stW_0, stW_z, okSt_0, okSt_s, hV_eq, hK_eq, okF_0, okF_1, okF_3, is01_0, is01_1, is01_i, Int.toNat_natCast, Int.reduceEq, Int.reduceLE, Int.reduceLT, Int.reduceNeg, Nat.reduceLT, not_true_eq_false, not_false_eq_true, reduceIte, Option.toList, List.cons_append, List.nil_append, List.set_cons_zero, List.set_cons_succ, List.not_mem_nil, List.mem_cons, if_false, if_true, ite_true, ite_false, and_self, and_true, true_and, Nat.reduceAdd, Nat.reduceLeDiff, Nat.reduceEqDiff, Nat.zero_add, Nat.le_refl, Nat.zero_le, or_false, false_or, Int.reduceToNat, or_true, true_or, eq_self, and_false, false_and, inR_d, nc_4, nc_5, nc_6, nc_7, nc_8, nc_16, nc_18, nc_20, nc_24, nc_32, nc_40, nc_64, nc_104, nc_120, nc_160, nc_256, nc_300, nc_330, nc_390, nc_1200, nc_1260, nc_3012, nc_9834, okSt_1i, okSt_1r, okSt_1n, xpk_succ cd_254_13, xpk_succ cd_254_14, xpk_succ cd_254_17, Int.le_refl]
    exact hend
  | succ j ih =>
    intro k hk
    have hc : ¬ (377 : Int) ≤ (k : Int) := by omega
    have o1 := (AO_A (f := shF f k) ho).1
    have o2 := (AO_A (f := shF f k) ho).2.1
    have o3 := (AO_A (f := shF f k) ho).2.2
    have a1 : w32 (84 + (k : Int)) = ((84 + k : Nat) : Int) := by unfold w32; omega
    have a2 : w32 (97 + (k : Int)) = ((97 + k : Nat) : Int) := by unfold w32; omega
    have a3 : w32 ((k : Int) + 1) = ((k + 1 : Nat) : Int) := by unfold w32; omega
    have b1 : (0 : Int) ≤ ((84 + k : Nat) : Int) ∧ ((84 + k : Nat) : Int) < 9834 := by omega
    have b2 : (0 : Int) ≤ ((97 + k : Nat) : Int) ∧ ((97 + k : Nat) : Int) < 9834 := by omega
    have v1 : hV (hA h (shF f k)) 77 (97 + k) = vI (shF f k (97 + k)) := hA_V (by omega)
    have s1 : hSet (hA h (shF f k)) 77 (84 + k) (vI (shF f k (97 + k))) = hA h (shF f (k + 1)) := by rw [hA_set (by omega), shF_s]
    refine xpk_sound (stops := [13]) (n := 30) ?_
    simp only [sk_0, sk_1, sk_2, sk_3, sk_4, sk_5, sk_6, sk_7, sk_8, sk_iadd, sk_isub, sk_imul, sk_iand, sk_ior, sk_ixor, sk_ishl, sk_ishr, sk_iushr, sk_idiv, sk_irem, sk_ineg, sk_ladd, sk_lsub, sk_lmul, sk_land, sk_lor, sk_ldiv, sk_lrem, sk_lneg, sk_lshl, sk_lshr, sk_i2l, sk_l2i, sk_lcmp, sk_dupI, sk_dupR, sk_dup2L, sk_dup2I, sk_popI, sk_ifeq, sk_ifne, sk_iflt, sk_ifge, sk_ifgt, sk_ifle, sk_iceq, sk_icne, sk_iclt, sk_icge, sk_icgt, sk_icle, sk_goto, sk_getf, sk_putf, sk_gets, sk_iald, sk_lald, sk_bald, sk_aald, sk_iast, sk_last, sk_bast, sk_aast, sk_alen, sk_newa, sk_newt, sk_new, sk_cs1, sk_cs2, sk_cs3, sk_cs4, sk_cs5, sk_cs6, sk_cv1, sk_cv2, sk_cv3, sk_cv4, sk_cv5, sk_cv6, sk_ci1, sk_ci2, sk_ci3, sk_ret0, sk_retI, sk_retL, sk_retR, sk_sw, sk_oin, sk_max, sk_min, sk_abs, lI_0, lI_s, lL_0, lL_s, lR_0, lR_s, vIo_e, vLo_e, vOo_e, stW_I, stW_L, stW_R, stW_0, stW_z, okSt_0, okSt_s, hV_eq, hK_eq, okF_0, okF_1, okF_3, is01_0, is01_1, is01_i, Int.toNat_natCast, Int.reduceEq, Int.reduceLE, Int.reduceLT, Int.reduceNeg, Nat.reduceLT, not_true_eq_false, not_false_eq_true, reduceIte, Option.toList, List.cons_append, List.nil_append, List.set_cons_zero, List.set_cons_succ, List.not_mem_nil, List.mem_cons, if_false, if_true, ite_true, ite_false, and_self, and_true, true_and, Nat.reduceAdd, Nat.reduceLeDiff, Nat.reduceEqDiff, Nat.zero_add, Nat.le_refl, Nat.zero_le, or_false, false_or, Int.reduceToNat, or_true, true_or, eq_self, and_false, false_and, inR_d, nc_4, nc_5, nc_6, nc_7, nc_8, nc_16, nc_18, nc_20, nc_24, nc_32, nc_40, nc_64, nc_104, nc_120, nc_160, nc_256, nc_300, nc_330, nc_390, nc_1200, nc_1260, nc_3012, nc_9834, okSt_1i, okSt_1r, okSt_1n, xpk_succ cd_254_13, xpk_succ cd_254_14, xpk_succ cd_254_17, xpk_succ cd_254_20, xpk_succ cd_254_21, xpk_succ cd_254_24, xpk_succ cd_254_26, xpk_succ cd_254_27, xpk_succ cd_254_28, xpk_succ cd_254_29, xpk_succ cd_254_32, xpk_succ cd_254_34, xpk_succ cd_254_35, xpk_succ cd_254_36, xpk_succ cd_254_37, xpk_succ cd_254_38, xpk_succ cd_254_41, hc, o1, o2, o3, a1, a2, a3, b1, b2, v1]
    rw [s1]
    exact ih (k + 1) (by omega)
set_option maxHeartbeats 4000000 in
theorem kp_2 (d : Nat) (h : AH) (f : Nat → Int) (x : Nat) (hx : 84 ≤ x) (hx2 : x + 12 < 474) (Q : Option AV → AH → Prop) (ho : AO h) (hend : XP d 254 98 [some (vR 76), some (vI (x : Int)), some (vI 10)] [] (hA h (cpF f x 10)) Q) : ∀ j k : Nat, k + j = 10 → XP d 254 69 [some (vR 76), some (vI (x : Int)), some (vI (k : Int))] [] (hA h (cpF f x k)) Q := by
  intro j
  induction j with
  | zero =>
    intro k hk
    obtain rfl : k = 10 := by omega
    refine xpk_sound (stops := [98]) (n := 5) ?_
    simp only [sk_0, sk_1, sk_2, sk_3, sk_4, sk_5, sk_6, sk_7, sk_8, sk_iadd, sk_isub, sk_imul, sk_iand, sk_ior, sk_ixor, sk_ishl, sk_ishr, sk_iushr, sk_idiv, sk_irem, sk_ineg, sk_ladd, sk_lsub, sk_lmul, sk_land, sk_lor, sk_ldiv, sk_lrem, sk_lneg, sk_lshl, sk_lshr, sk_i2l, sk_l2i, sk_lcmp, sk_dupI, sk_dupR, sk_dup2L, sk_dup2I, sk_popI, sk_ifeq, sk_ifne, sk_iflt, sk_ifge, sk_ifgt, sk_ifle, sk_iceq, sk_icne, sk_iclt, sk_icge, sk_icgt, sk_icle, sk_goto, sk_getf, sk_putf, sk_gets, sk_iald, sk_lald, sk_bald, sk_aald, sk_iast, sk_last, sk_bast, sk_aast, sk_alen, sk_newa, sk_newt, sk_new, sk_cs1, sk_cs2, sk_cs3, sk_cs4, sk_cs5, sk_cs6, sk_cv1, sk_cv2, sk_cv3, sk_cv4, sk_cv5, sk_cv6, sk_ci1, sk_ci2, sk_ci3, sk_ret0, sk_retI, sk_retL, sk_retR, sk_sw, sk_oin, sk_max, sk_min, sk_abs, lI_0, lI_s, lL_0, lL_s, lR_0, lR_s, vIo_e, vLo_e, vOo_e, stW_I, stW_L, stW_R, stW_0, stW_z, okSt_0, okSt_s, hV_eq, hK_eq, okF_0, okF_1, okF_3, is01_0, is01_1, is01_i, Int.toNat_natCast, Int.reduceEq, Int.reduceLE, Int.reduceLT, Int.reduceNeg, Nat.reduceLT, not_true_eq_false, not_false_eq_true, reduceIte, Option.toList, List.cons_append, List.nil_append, List.set_cons_zero, List.set_cons_succ, List.not_mem_nil, List.mem_cons, if_false, if_true, ite_true, ite_false, and_self, and_true, true_and, Nat.reduceAdd, Nat.reduceLeDiff, Nat.reduceEqDiff, Nat.zero_add, Nat.le_refl, Nat.zero_le, or_false, false_or, Int.reduceToNat, or_true, true_or, eq_self, and_false, false_and, inR_d, nc_4, nc_5, nc_6, nc_7, nc_8, nc_16, nc_18, nc_20, nc_24, nc_32, nc_40, nc_64, nc_104, nc_120, nc_160, nc_256, nc_300, nc_330, nc_390, nc_1200, nc_1260, nc_3012, nc_9834, okSt_1i, okSt_1r, okSt_1n, xpk_succ cd_254_69, xpk_succ cd_254_70, xpk_succ cd_254_72, Int.le_refl]
    exact hend
  | succ j ih =>
    intro k hk
    have hc : ¬ (10 : Int) ≤ (k : Int) := by omega
    have o1 := (AO_A (f := cpF f x k) ho).1
    have o2 := (AO_A (f := cpF f x k) ho).2.1
    have o3 := (AO_A (f := cpF f x k) ho).2.2
    have a1 : w32 ((x : Int) + (k : Int)) = ((x + k : Nat) : Int) := by unfold w32; omega
    have a2 : w32 (8 + (k : Int)) = ((8 + k : Nat) : Int) := by unfold w32; omega
    have a3 : w32 ((k : Int) + 1) = ((k + 1 : Nat) : Int) := by unfold w32; omega
    have b1 : (0 : Int) ≤ ((x + k : Nat) : Int) ∧ ((x + k : Nat) : Int) < 9834 := by omega
    have b2 : (0 : Int) ≤ ((8 + k : Nat) : Int) ∧ ((8 + k : Nat) : Int) < 9834 := by omega
    have v1 : hV (hA h (cpF f x k)) 77 (8 + k) = vI (cpF f x k (8 + k)) := hA_V (by omega)
    have s1 : hSet (hA h (cpF f x k)) 77 (x + k) (vI (cpF f x k (8 + k))) = hA h (cpF f x (k + 1)) := by rw [hA_set (by omega), cpF_s f x k hx (by omega)]
    refine xpk_sound (stops := [69]) (n := 30) ?_
    simp only [sk_0, sk_1, sk_2, sk_3, sk_4, sk_5, sk_6, sk_7, sk_8, sk_iadd, sk_isub, sk_imul, sk_iand, sk_ior, sk_ixor, sk_ishl, sk_ishr, sk_iushr, sk_idiv, sk_irem, sk_ineg, sk_ladd, sk_lsub, sk_lmul, sk_land, sk_lor, sk_ldiv, sk_lrem, sk_lneg, sk_lshl, sk_lshr, sk_i2l, sk_l2i, sk_lcmp, sk_dupI, sk_dupR, sk_dup2L, sk_dup2I, sk_popI, sk_ifeq, sk_ifne, sk_iflt, sk_ifge, sk_ifgt, sk_ifle, sk_iceq, sk_icne, sk_iclt, sk_icge, sk_icgt, sk_icle, sk_goto, sk_getf, sk_putf, sk_gets, sk_iald, sk_lald, sk_bald, sk_aald, sk_iast, sk_last, sk_bast, sk_aast, sk_alen, sk_newa, sk_newt, sk_new, sk_cs1, sk_cs2, sk_cs3, sk_cs4, sk_cs5, sk_cs6, sk_cv1, sk_cv2, sk_cv3, sk_cv4, sk_cv5, sk_cv6, sk_ci1, sk_ci2, sk_ci3, sk_ret0, sk_retI, sk_retL, sk_retR, sk_sw, sk_oin, sk_max, sk_min, sk_abs, lI_0, lI_s, lL_0, lL_s, lR_0, lR_s, vIo_e, vLo_e, vOo_e, stW_I, stW_L, stW_R, stW_0, stW_z, okSt_0, okSt_s, hV_eq, hK_eq, okF_0, okF_1, okF_3, is01_0, is01_1, is01_i, Int.toNat_natCast, Int.reduceEq, Int.reduceLE, Int.reduceLT, Int.reduceNeg, Nat.reduceLT, not_true_eq_false, not_false_eq_true, reduceIte, Option.toList, List.cons_append, List.nil_append, List.set_cons_zero, List.set_cons_succ, List.not_mem_nil, List.mem_cons, if_false, if_true, ite_true, ite_false, and_self, and_true, true_and, Nat.reduceAdd, Nat.reduceLeDiff, Nat.reduceEqDiff, Nat.zero_add, Nat.le_refl, Nat.zero_le, or_false, false_or, Int.reduceToNat, or_true, true_or, eq_self, and_false, false_and, inR_d, nc_4, nc_5, nc_6, nc_7, nc_8, nc_16, nc_18, nc_20, nc_24, nc_32, nc_40, nc_64, nc_104, nc_120, nc_160, nc_256, nc_300, nc_330, nc_390, nc_1200, nc_1260, nc_3012, nc_9834, okSt_1i, okSt_1r, okSt_1n, xpk_succ cd_254_69, xpk_succ cd_254_70, xpk_succ cd_254_72, xpk_succ cd_254_75, xpk_succ cd_254_76, xpk_succ cd_254_79, xpk_succ cd_254_80, xpk_succ cd_254_81, xpk_succ cd_254_82, xpk_succ cd_254_83, xpk_succ cd_254_86, xpk_succ cd_254_88, xpk_succ cd_254_89, xpk_succ cd_254_90, xpk_succ cd_254_91, xpk_succ cd_254_92, xpk_succ cd_254_95, hc, o1, o2, o3, a1, a2, a3, b1, b2, v1]
    rw [s1]
    exact ih (k + 1) (by omega)
set_option maxHeartbeats 4000000 in
theorem X_get (d : Nat) (h : AH) (f : Nat → Int) (o w : Nat) (ho : AO h) (h1 : o < 8) (h2 : w < 6) (Q : Option AV → AH → Prop) : XC (d + 1) 188 [vR 76, vI (o : Int), vI (w : Int)] (hA h f) Q = Q (some (vI (f (20 + 6 * o + w)))) (hA h f) := by
  have o1 := (AO_A (f := f) ho).1
  have o2 := (AO_A (f := f) ho).2.1
  have o3 := (AO_A (f := f) ho).2.2
  have a1 : w32 (6 * (o : Int)) = ((6 * o : Nat) : Int) := by unfold w32; omega
  have a2 : w32 (20 + ((6 * o : Nat) : Int)) = ((20 + 6 * o : Nat) : Int) := by unfold w32; omega
  have a3 : w32 (((20 + 6 * o : Nat) : Int) + (w : Int)) = ((20 + 6 * o + w : Nat) : Int) := by unfold w32; omega
  have b1 : (0 : Int) ≤ ((20 + 6 * o + w : Nat) : Int) ∧ ((20 + 6 * o + w : Nat) : Int) < 9834 := by omega
  have v1 : hV (hA h f) 77 (20 + 6 * o + w) = vI (f (20 + 6 * o + w)) := hA_V (by omega)
  refine XC_eq (Nat.le_of_ble_eq_true rfl) (xpk_sound (stops := []) (n := 30) ?_) Q
  show xpk [] 30 d 188 0 [some (vR 76), some (vI (o : Int)), some (vI (w : Int))] [] (hA h f) _
  simp only [sk_0, sk_1, sk_2, sk_3, sk_4, sk_5, sk_6, sk_7, sk_8, sk_iadd, sk_isub, sk_imul, sk_iand, sk_ior, sk_ixor, sk_ishl, sk_ishr, sk_iushr, sk_idiv, sk_irem, sk_ineg, sk_ladd, sk_lsub, sk_lmul, sk_land, sk_lor, sk_ldiv, sk_lrem, sk_lneg, sk_lshl, sk_lshr, sk_i2l, sk_l2i, sk_lcmp, sk_dupI, sk_dupR, sk_dup2L, sk_dup2I, sk_popI, sk_ifeq, sk_ifne, sk_iflt, sk_ifge, sk_ifgt, sk_ifle, sk_iceq, sk_icne, sk_iclt, sk_icge, sk_icgt, sk_icle, sk_goto, sk_getf, sk_putf, sk_gets, sk_iald, sk_lald, sk_bald, sk_aald, sk_iast, sk_last, sk_bast, sk_aast, sk_alen, sk_newa, sk_newt, sk_new, sk_cs1, sk_cs2, sk_cs3, sk_cs4, sk_cs5, sk_cs6, sk_cv1, sk_cv2, sk_cv3, sk_cv4, sk_cv5, sk_cv6, sk_ci1, sk_ci2, sk_ci3, sk_ret0, sk_retI, sk_retL, sk_retR, sk_sw, sk_oin, sk_max, sk_min, sk_abs, lI_0, lI_s, lL_0, lL_s, lR_0, lR_s, vIo_e, vLo_e, vOo_e, stW_I, stW_L, stW_R, stW_0, stW_z, okSt_0, okSt_s, hV_eq, hK_eq, okF_0, okF_1, okF_3, is01_0, is01_1, is01_i, Int.toNat_natCast, Int.reduceEq, Int.reduceLE, Int.reduceLT, Int.reduceNeg, Nat.reduceLT, not_true_eq_false, not_false_eq_true, reduceIte, Option.toList, List.cons_append, List.nil_append, List.set_cons_zero, List.set_cons_succ, List.not_mem_nil, List.mem_cons, if_false, if_true, ite_true, ite_false, and_self, and_true, true_and, Nat.reduceAdd, Nat.reduceLeDiff, Nat.reduceEqDiff, Nat.zero_add, Nat.le_refl, Nat.zero_le, or_false, false_or, Int.reduceToNat, or_true, true_or, eq_self, and_false, false_and, inR_d, nc_4, nc_5, nc_6, nc_7, nc_8, nc_16, nc_18, nc_20, nc_24, nc_32, nc_40, nc_64, nc_104, nc_120, nc_160, nc_256, nc_300, nc_330, nc_390, nc_1200, nc_1260, nc_3012, nc_9834, okSt_1i, okSt_1r, okSt_1n, xpk_succ cd_188_0, xpk_succ cd_188_1, xpk_succ cd_188_4, xpk_succ cd_188_6, xpk_succ cd_188_8, xpk_succ cd_188_9, xpk_succ cd_188_10, xpk_succ cd_188_11, xpk_succ cd_188_12, xpk_succ cd_188_13, xpk_succ cd_188_14, o1, o2, o3, a1, a2, a3, b1, v1]
set_option maxHeartbeats 4000000 in
theorem kp_3 (d : Nat) (h : AH) (g : Nat → Int) (x n0 : Nat) (hx : 84 ≤ x) (hx2 : x + 12 < 474) (h0 : g 0 = (n0 : Int)) (hn : n0 ≤ 8) (Q : Option AV → AH → Prop) (ho : AO h) (hend : ∀ m : Int, -2147483648 ≤ m ∧ m ≤ 2147483647 → XP (d + 1) 254 177 [some (vR 76), some (vI (x : Int)), some (vI (n0 : Int))] [] (hA h (upF g (x + 12) m)) Q) : ∀ (j o : Nat) (m : Int), o + j = n0 → -2147483648 ≤ m ∧ m ≤ 2147483647 → XP (d + 1) 254 141 [some (vR 76), some (vI (x : Int)), some (vI (o : Int))] [] (hA h (upF g (x + 12) m)) Q := by
  intro j
  induction j with
  | zero =>
    intro o m hk hm
    obtain rfl : o = n0 := by omega
    have o1 := (AO_A (f := upF g (x + 12) m) ho).1
    have o2 := (AO_A (f := upF g (x + 12) m) ho).2.1
    have o3 := (AO_A (f := upF g (x + 12) m) ho).2.2
    have v0 : hV (hA h (upF g (x + 12) m)) 77 0 = vI (o : Int) := by rw [hA_V (by decide), upF_ne (by omega), h0]
    have he := hend m hm
    refine xpk_sound (stops := [177]) (n := 9) ?_
    simp only [sk_0, sk_1, sk_2, sk_3, sk_4, sk_5, sk_6, sk_7, sk_8, sk_iadd, sk_isub, sk_imul, sk_iand, sk_ior, sk_ixor, sk_ishl, sk_ishr, sk_iushr, sk_idiv, sk_irem, sk_ineg, sk_ladd, sk_lsub, sk_lmul, sk_land, sk_lor, sk_ldiv, sk_lrem, sk_lneg, sk_lshl, sk_lshr, sk_i2l, sk_l2i, sk_lcmp, sk_dupI, sk_dupR, sk_dup2L, sk_dup2I, sk_popI, sk_ifeq, sk_ifne, sk_iflt, sk_ifge, sk_ifgt, sk_ifle, sk_iceq, sk_icne, sk_iclt, sk_icge, sk_icgt, sk_icle, sk_goto, sk_getf, sk_putf, sk_gets, sk_iald, sk_lald, sk_bald, sk_aald, sk_iast, sk_last, sk_bast, sk_aast, sk_alen, sk_newa, sk_newt, sk_new, sk_cs1, sk_cs2, sk_cs3, sk_cs4, sk_cs5, sk_cs6, sk_cv1, sk_cv2, sk_cv3, sk_cv4, sk_cv5, sk_cv6, sk_ci1, sk_ci2, sk_ci3, sk_ret0, sk_retI, sk_retL, sk_retR, sk_sw, sk_oin, sk_max, sk_min, sk_abs, lI_0, lI_s, lL_0, lL_s, lR_0, lR_s, vIo_e, vLo_e, vOo_e, stW_I, stW_L, stW_R, stW_0, stW_z, okSt_0, okSt_s, hV_eq, hK_eq, okF_0, okF_1, okF_3, is01_0, is01_1, is01_i, Int.toNat_natCast, Int.reduceEq, Int.reduceLE, Int.reduceLT, Int.reduceNeg, Nat.reduceLT, not_true_eq_false, not_false_eq_true, reduceIte, Option.toList, List.cons_append, List.nil_append, List.set_cons_zero, List.set_cons_succ, List.not_mem_nil, List.mem_cons, if_false, if_true, ite_true, ite_false, and_self, and_true, true_and, Nat.reduceAdd, Nat.reduceLeDiff, Nat.reduceEqDiff, Nat.zero_add, Nat.le_refl, Nat.zero_le, or_false, false_or, Int.reduceToNat, or_true, true_or, eq_self, and_false, false_and, inR_d, nc_4, nc_5, nc_6, nc_7, nc_8, nc_16, nc_18, nc_20, nc_24, nc_32, nc_40, nc_64, nc_104, nc_120, nc_160, nc_256, nc_300, nc_330, nc_390, nc_1200, nc_1260, nc_3012, nc_9834, okSt_1i, okSt_1r, okSt_1n, xpk_succ cd_254_141, xpk_succ cd_254_142, xpk_succ cd_254_143, xpk_succ cd_254_146, xpk_succ cd_254_147, xpk_succ cd_254_148, o1, o2, o3, v0, Int.le_refl]
    exact he
  | succ j ih =>
    intro o m hk hm
    have o1 := (AO_A (f := upF g (x + 12) m) ho).1
    have o2 := (AO_A (f := upF g (x + 12) m) ho).2.1
    have o3 := (AO_A (f := upF g (x + 12) m) ho).2.2
    have v0 : hV (hA h (upF g (x + 12) m)) 77 0 = vI (n0 : Int) := by rw [hA_V (by decide), upF_ne (by omega), h0]
    have hc : ¬ (n0 : Int) ≤ (o : Int) := by omega
    have a1 : w32 ((x : Int) + 12) = ((x + 12 : Nat) : Int) := by unfold w32; omega
    have a3 : w32 ((o : Int) + 1) = ((o + 1 : Nat) : Int) := by unfold w32; omega
    have b1 : (0 : Int) ≤ ((x + 12 : Nat) : Int) ∧ ((x + 12 : Nat) : Int) < 9834 := by omega
    have v1 : hV (hA h (upF g (x + 12) m)) 77 (x + 12) = vI m := by rw [hA_V (by omega), upF_at]
    have e1 := X_get d h (upF g (x + 12) m) o 5 ho (by omega) (by decide)
    have e1 : ∀ Q : Option AV → AH → Prop, XC (d + 1) 188 [vR 76, vI (o : Int), vI 5] (hA h (upF g (x + 12) m)) Q = Q (some (vI (upF g (x + 12) m (20 + 6 * o + 5)))) (hA h (upF g (x + 12) m)) := e1
    have s1 : ∀ z : Int, hSet (hA h (upF g (x + 12) m)) 77 (x + 12) (vI z) = hA h (upF g (x + 12) z) := fun z => by
      have e : upF (upF g (x + 12) m) (x + 12) z = upF g (x + 12) z := by
        funext i
        unfold upF
        by_cases y : i = x + 12
        · rw [if_pos y, if_pos y]
        · rw [if_neg y, if_neg y, if_neg y]
      rw [hA_set (by omega), e]
    refine xpk_sound (stops := [141]) (n := 40) ?_
    simp only [sk_0, sk_1, sk_2, sk_3, sk_4, sk_5, sk_6, sk_7, sk_8, sk_iadd, sk_isub, sk_imul, sk_iand, sk_ior, sk_ixor, sk_ishl, sk_ishr, sk_iushr, sk_idiv, sk_irem, sk_ineg, sk_ladd, sk_lsub, sk_lmul, sk_land, sk_lor, sk_ldiv, sk_lrem, sk_lneg, sk_lshl, sk_lshr, sk_i2l, sk_l2i, sk_lcmp, sk_dupI, sk_dupR, sk_dup2L, sk_dup2I, sk_popI, sk_ifeq, sk_ifne, sk_iflt, sk_ifge, sk_ifgt, sk_ifle, sk_iceq, sk_icne, sk_iclt, sk_icge, sk_icgt, sk_icle, sk_goto, sk_getf, sk_putf, sk_gets, sk_iald, sk_lald, sk_bald, sk_aald, sk_iast, sk_last, sk_bast, sk_aast, sk_alen, sk_newa, sk_newt, sk_new, sk_cs1, sk_cs2, sk_cs3, sk_cs4, sk_cs5, sk_cs6, sk_cv1, sk_cv2, sk_cv3, sk_cv4, sk_cv5, sk_cv6, sk_ci1, sk_ci2, sk_ci3, sk_ret0, sk_retI, sk_retL, sk_retR, sk_sw, sk_oin, sk_max, sk_min, sk_abs, lI_0, lI_s, lL_0, lL_s, lR_0, lR_s, vIo_e, vLo_e, vOo_e, stW_I, stW_L, stW_R, stW_0, stW_z, okSt_0, okSt_s, hV_eq, hK_eq, okF_0, okF_1, okF_3, is01_0, is01_1, is01_i, Int.toNat_natCast, Int.reduceEq, Int.reduceLE, Int.reduceLT, Int.reduceNeg, Nat.reduceLT, not_true_eq_false, not_false_eq_true, reduceIte, Option.toList, List.cons_append, List.nil_append, List.set_cons_zero, List.set_cons_succ, List.not_mem_nil, List.mem_cons, if_false, if_true, ite_true, ite_false, and_self, and_true, true_and, Nat.reduceAdd, Nat.reduceLeDiff, Nat.reduceEqDiff, Nat.zero_add, Nat.le_refl, Nat.zero_le, or_false, false_or, Int.reduceToNat, or_true, true_or, eq_self, and_false, false_and, inR_d, nc_4, nc_5, nc_6, nc_7, nc_8, nc_16, nc_18, nc_20, nc_24, nc_32, nc_40, nc_64, nc_104, nc_120, nc_160, nc_256, nc_300, nc_330, nc_390, nc_1200, nc_1260, nc_3012, nc_9834, okSt_1i, okSt_1r, okSt_1n, xpk_succ cd_254_141, xpk_succ cd_254_142, xpk_succ cd_254_143, xpk_succ cd_254_146, xpk_succ cd_254_147, xpk_succ cd_254_148, xpk_succ cd_254_151, xpk_succ cd_254_152, xpk_succ cd_254_155, xpk_succ cd_254_156, xpk_succ cd_254_158, xpk_succ cd_254_159, xpk_succ cd_254_160, xpk_succ cd_254_161, xpk_succ cd_254_162, xpk_succ cd_254_163, xpk_succ cd_254_164, xpk_succ cd_254_167, xpk_succ cd_254_168, xpk_succ cd_254_169, xpk_succ cd_254_170, xpk_succ cd_254_171, xpk_succ cd_254_174, hc, o1, o2, o3, v0, a1, a3, b1, v1, e1]
    rw [s1]
    exact ih (o + 1) _ (by omega) (bv32_b _)
def kpF (g : Nat → Int) (x : Nat) : Nat → Int := upF (upF (cpF g x 10) (x + 10) (g 2)) (x + 11) (g 7)
set_option maxHeartbeats 4000000 in
/-- from the place of the row on -/
theorem kp_4 (d : Nat) (h : AH) (g : Nat → Int) (s n0 : Nat) (hs : s < 30) (h5 : g 5 = (s : Int)) (h0 : g 0 = (n0 : Int)) (hn : n0 ≤ 8) (ls : Option AV) (hls : ∀ z, ls ≠ some (.inr (.inl z))) (Q : Option AV → AH → Prop) (ho : AO h) (hend : ∀ m : Int, -2147483648 ≤ m ∧ m ≤ 2147483647 → Q none (hA h (upF (upF (kpF g (84 + 13 * s)) (84 + 13 * s + 12) m) 5 ((s + 1 : Nat) : Int)))) : XP (d + 1) 254 54 [some (vR 76), ls, none] [] (hA h g) Q := by
  have hx : 84 ≤ 84 + 13 * s := by omega
  have hx2 : 84 + 13 * s + 12 < 474 := by omega
  generalize hX : 84 + 13 * s = x at hx hx2 hend
  have kn : ∀ i, i < 84 → kpF g x i = g i := fun i hi => by
    unfold kpF
    rw [upF_ne (by omega), upF_ne (by omega)]
    exact if_neg (fun z => by omega)
  have fin : ∀ m : Int, -2147483648 ≤ m ∧ m ≤ 2147483647 → XP (d + 1) 254 177 [some (vR 76), some (vI (x : Int)), some (vI (n0 : Int))] [] (hA h (upF (kpF g x) (x + 12) m)) Q := fun m hm => by
    have o1 := (AO_A (f := upF (kpF g x) (x + 12) m) ho).1
    have o2 := (AO_A (f := upF (kpF g x) (x + 12) m) ho).2.1
    have o3 := (AO_A (f := upF (kpF g x) (x + 12) m) ho).2.2
    have v5 : hV (hA h (upF (kpF g x) (x + 12) m)) 77 5 = vI (s : Int) := by rw [hA_V (by decide), upF_ne (by omega), kn 5 (by decide), h5]
    have a1 : w32 ((s : Int) + 1) = ((s + 1 : Nat) : Int) := by unfold w32; omega
    have s1 : hSet (hA h (upF (kpF g x) (x + 12) m)) 77 5 (vI ((s + 1 : Nat) : Int)) = hA h (upF (upF (kpF g x) (x + 12) m) 5 ((s + 1 : Nat) : Int)) := hA_set (by decide)
    have he := hend m hm
    refine xpk_sound (stops := []) (n := 14) ?_
    simp only [sk_0, sk_1, sk_2, sk_3, sk_4, sk_5, sk_6, sk_7, sk_8, sk_iadd, sk_isub, sk_imul, sk_iand, sk_ior, sk_ixor, sk_ishl, sk_ishr, sk_iushr, sk_idiv, sk_irem, sk_ineg, sk_ladd, sk_lsub, sk_lmul, sk_land, sk_lor, sk_ldiv, sk_lrem, sk_lneg, sk_lshl, sk_lshr, sk_i2l, sk_l2i, sk_lcmp, sk_dupI, sk_dupR, sk_dup2L, sk_dup2I, sk_popI, sk_ifeq, sk_ifne, sk_iflt, sk_ifge, sk_ifgt, sk_ifle, sk_iceq, sk_icne, sk_iclt, sk_icge, sk_icgt, sk_icle, sk_goto, sk_getf, sk_putf, sk_gets, sk_iald, sk_lald, sk_bald, sk_aald, sk_iast, sk_last, sk_bast, sk_aast, sk_alen, sk_newa, sk_newt, sk_new, sk_cs1, sk_cs2, sk_cs3, sk_cs4, sk_cs5, sk_cs6, sk_cv1, sk_cv2, sk_cv3, sk_cv4, sk_cv5, sk_cv6, sk_ci1, sk_ci2, sk_ci3, sk_ret0, sk_retI, sk_retL, sk_retR, sk_sw, sk_oin, sk_max, sk_min, sk_abs, lI_0, lI_s, lL_0, lL_s, lR_0, lR_s, vIo_e, vLo_e, vOo_e, stW_I, stW_L, stW_R, stW_0, stW_z, okSt_0, okSt_s, hV_eq, hK_eq, okF_0, okF_1, okF_3, is01_0, is01_1, is01_i, Int.toNat_natCast, Int.reduceEq, Int.reduceLE, Int.reduceLT, Int.reduceNeg, Nat.reduceLT, not_true_eq_false, not_false_eq_true, reduceIte, Option.toList, List.cons_append, List.nil_append, List.set_cons_zero, List.set_cons_succ, List.not_mem_nil, List.mem_cons, if_false, if_true, ite_true, ite_false, and_self, and_true, true_and, Nat.reduceAdd, Nat.reduceLeDiff, Nat.reduceEqDiff, Nat.zero_add, Nat.le_refl, Nat.zero_le, or_false, false_or, Int.reduceToNat, or_true, true_or, eq_self, and_false, false_and, inR_d, nc_4, nc_5, nc_6, nc_7, nc_8, nc_16, nc_18, nc_20, nc_24, nc_32, nc_40, nc_64, nc_104, nc_120, nc_160, nc_256, nc_300, nc_330, nc_390, nc_1200, nc_1260, nc_3012, nc_9834, okSt_1i, okSt_1r, okSt_1n, xpk_succ cd_254_177, xpk_succ cd_254_178, xpk_succ cd_254_181, xpk_succ cd_254_182, xpk_succ cd_254_183, xpk_succ cd_254_184, xpk_succ cd_254_185, xpk_succ cd_254_186, xpk_succ cd_254_187, o1, o2, o3, v5, a1]
    rw [s1]
    exact he
  have lp3 : XP (d + 1) 254 141 [some (vR 76), some (vI (x : Int)), some (vI 0)] [] (hA h (upF (kpF g x) (x + 12) 0)) Q := kp_3 d h (kpF g x) x n0 hx hx2 (by rw [kn 0 (by decide)]; exact h0) hn Q ho fin n0 0 0 (by omega) ⟨by decide, by decide⟩
  have c2 : cpF g x 10 2 = g 2 := if_neg (fun z => by omega)
  have c7 : cpF g x 10 7 = g 7 := if_neg (fun z => by omega)
  have mid : XP (d + 1) 254 98 [some (vR 76), some (vI (x : Int)), some (vI 10)] [] (hA h (cpF g x 10)) Q := by
    have o1 := (AO_A (f := cpF g x 10) ho).1
    have o2 := (AO_A (f := cpF g x 10) ho).2.1
    have o3 := (AO_A (f := cpF g x 10) ho).2.2
    have p1 := (AO_A (f := upF (cpF g x 10) (x + 10) (g 2)) ho).1
    have p2 := (AO_A (f := upF (cpF g x 10) (x + 10) (g 2)) ho).2.1
    have p3 := (AO_A (f := upF (cpF g x 10) (x + 10) (g 2)) ho).2.2
    have r1 := (AO_A (f := kpF g x) ho).1
    have r2 := (AO_A (f := kpF g x) ho).2.1
    have r3 := (AO_A (f := kpF g x) ho).2.2
    have a10 : w32 ((x : Int) + 10) = ((x + 10 : Nat) : Int) := by unfold w32; omega
    have a11 : w32 ((x : Int) + 11) = ((x + 11 : Nat) : Int) := by unfold w32; omega
    have a12 : w32 ((x : Int) + 12) = ((x + 12 : Nat) : Int) := by unfold w32; omega
    have b10 : (0 : Int) ≤ ((x + 10 : Nat) : Int) ∧ ((x + 10 : Nat) : Int) < 9834 := by omega
    have b11 : (0 : Int) ≤ ((x + 11 : Nat) : Int) ∧ ((x + 11 : Nat) : Int) < 9834 := by omega
    have b12 : (0 : Int) ≤ ((x + 12 : Nat) : Int) ∧ ((x + 12 : Nat) : Int) < 9834 := by omega
    have v2 : hV (hA h (cpF g x 10)) 77 2 = vI (g 2) := by rw [hA_V (by decide), c2]
    have v7 : hV (hA h (upF (cpF g x 10) (x + 10) (g 2))) 77 7 = vI (g 7) := by rw [hA_V (by decide), upF_ne (by omega), c7]
    have s10 : hSet (hA h (cpF g x 10)) 77 (x + 10) (vI (g 2)) = hA h (upF (cpF g x 10) (x + 10) (g 2)) := hA_set (by omega)
    have s11 : hSet (hA h (upF (cpF g x 10) (x + 10) (g 2))) 77 (x + 11) (vI (g 7)) = hA h (kpF g x) := hA_set (by omega)
    have s12 : hSet (hA h (kpF g x)) 77 (x + 12) (vI 0) = hA h (upF (kpF g x) (x + 12) 0) := hA_set (by omega)
    refine xpk_sound (stops := [141]) (n := 60) ?_
    simp only [sk_0, sk_1, sk_2, sk_3, sk_4, sk_5, sk_6, sk_7, sk_8, sk_iadd, sk_isub, sk_imul, sk_iand, sk_ior, sk_ixor, sk_ishl, sk_ishr, sk_iushr, sk_idiv, sk_irem, sk_ineg, sk_ladd, sk_lsub, sk_lmul, sk_land, sk_lor, sk_ldiv, sk_lrem, sk_lneg, sk_lshl, sk_lshr, sk_i2l, sk_l2i, sk_lcmp, sk_dupI, sk_dupR, sk_dup2L, sk_dup2I, sk_popI, sk_ifeq, sk_ifne, sk_iflt, sk_ifge, sk_ifgt, sk_ifle, sk_iceq, sk_icne, sk_iclt, sk_icge, sk_icgt, sk_icle, sk_goto, sk_getf, sk_putf, sk_gets, sk_iald, sk_lald, sk_bald, sk_aald, sk_iast, sk_last, sk_bast, sk_aast, sk_alen, sk_newa, sk_newt, sk_new, sk_cs1, sk_cs2, sk_cs3, sk_cs4, sk_cs5, sk_cs6, sk_cv1, sk_cv2, sk_cv3, sk_cv4, sk_cv5, sk_cv6, sk_ci1, sk_ci2, sk_ci3, sk_ret0, sk_retI, sk_retL, sk_retR, sk_sw, sk_oin, sk_max, sk_min, sk_abs, lI_0, lI_s, lL_0, lL_s, lR_0, lR_s, vIo_e, vLo_e, vOo_e, stW_I, stW_L, stW_R, stW_0, stW_z, okSt_0, okSt_s, hV_eq, hK_eq, okF_0, okF_1, okF_3, is01_0, is01_1, is01_i, Int.toNat_natCast, Int.reduceEq, Int.reduceLE, Int.reduceLT, Int.reduceNeg, Nat.reduceLT, not_true_eq_false, not_false_eq_true, reduceIte, Option.toList, List.cons_append, List.nil_append, List.set_cons_zero, List.set_cons_succ, List.not_mem_nil, List.mem_cons, if_false, if_true, ite_true, ite_false, and_self, and_true, true_and, Nat.reduceAdd, Nat.reduceLeDiff, Nat.reduceEqDiff, Nat.zero_add, Nat.le_refl, Nat.zero_le, or_false, false_or, Int.reduceToNat, or_true, true_or, eq_self, and_false, false_and, inR_d, nc_4, nc_5, nc_6, nc_7, nc_8, nc_16, nc_18, nc_20, nc_24, nc_32, nc_40, nc_64, nc_104, nc_120, nc_160, nc_256, nc_300, nc_330, nc_390, nc_1200, nc_1260, nc_3012, nc_9834, okSt_1i, okSt_1r, okSt_1n, xpk_succ cd_254_98, xpk_succ cd_254_99, xpk_succ cd_254_102, xpk_succ cd_254_103, xpk_succ cd_254_105, xpk_succ cd_254_106, xpk_succ cd_254_107, xpk_succ cd_254_110, xpk_succ cd_254_111, xpk_succ cd_254_112, xpk_succ cd_254_113, xpk_succ cd_254_114, xpk_succ cd_254_117, xpk_succ cd_254_118, xpk_succ cd_254_120, xpk_succ cd_254_121, xpk_succ cd_254_122, xpk_succ cd_254_125, xpk_succ cd_254_127, xpk_succ cd_254_128, xpk_succ cd_254_129, xpk_succ cd_254_130, xpk_succ cd_254_133, xpk_succ cd_254_134, xpk_succ cd_254_136, xpk_succ cd_254_137, xpk_succ cd_254_138, xpk_succ cd_254_139, xpk_succ cd_254_140, o1, o2, o3, p1, p2, p3, r1, r2, r3, a10, a11, a12, b10, b11, b12, v2, v7, s10, s11, s12]
    exact lp3
  have lp2 : XP (d + 1) 254 69 [some (vR 76), some (vI (x : Int)), some (vI 0)] [] (hA h g) Q := by
    have := kp_2 (d + 1) h g x hx hx2 Q ho mid 10 0 rfl
    rw [cpF_0] at this
    exact this
  have o1 := (AO_A (f := g) ho).1
  have o2 := (AO_A (f := g) ho).2.1
  have o3 := (AO_A (f := g) ho).2.2
  have v5 : hV (hA h g) 77 5 = vI (s : Int) := by rw [hA_V (by decide), h5]
  have a1 : w32 (13 * (s : Int)) = ((13 * s : Nat) : Int) := by unfold w32; omega
  have a2 : w32 (84 + ((13 * s : Nat) : Int)) = (x : Int) := by rw [← hX]; unfold w32; omega
  have ok1 : okSt [some (vR 76), ls, none] 1 = true := okSt_1 (fun z hz => by cases hz) (Nat.zero_lt_succ 1)
  have ok2 : ∀ y : AV, y = vI (x : Int) → okSt [some (vR 76), some y, none] 2 = true := fun y hy => by rw [hy]; rfl
  have ok2 := ok2 _ rfl
  refine xpk_sound (stops := [69]) (n := 24) ?_
  simp only [sk_0, sk_1, sk_2, sk_3, sk_4, sk_5, sk_6, sk_7, sk_8, sk_iadd, sk_isub, sk_imul, sk_iand, sk_ior, sk_ixor, sk_ishl, sk_ishr, sk_iushr, sk_idiv, sk_irem, sk_ineg, sk_ladd, sk_lsub, sk_lmul, sk_land, sk_lor, sk_ldiv, sk_lrem, sk_lneg, sk_lshl, sk_lshr, sk_i2l, sk_l2i, sk_lcmp, sk_dupI, sk_dupR, sk_dup2L, sk_dup2I, sk_popI, sk_ifeq, sk_ifne, sk_iflt, sk_ifge, sk_ifgt, sk_ifle, sk_iceq, sk_icne, sk_iclt, sk_icge, sk_icgt, sk_icle, sk_goto, sk_getf, sk_putf, sk_gets, sk_iald, sk_lald, sk_bald, sk_aald, sk_iast, sk_last, sk_bast, sk_aast, sk_alen, sk_newa, sk_newt, sk_new, sk_cs1, sk_cs2, sk_cs3, sk_cs4, sk_cs5, sk_cs6, sk_cv1, sk_cv2, sk_cv3, sk_cv4, sk_cv5, sk_cv6, sk_ci1, sk_ci2, sk_ci3, sk_ret0, sk_retI, sk_retL, sk_retR, sk_sw, sk_oin, sk_max, sk_min, sk_abs, lI_0, lI_s, lL_0, lL_s, lR_0, lR_s, vIo_e, vLo_e, vOo_e, stW_I, stW_L, stW_R, stW_0, stW_z, okSt_0, okSt_s, hV_eq, hK_eq, okF_0, okF_1, okF_3, is01_0, is01_1, is01_i, Int.toNat_natCast, Int.reduceEq, Int.reduceLE, Int.reduceLT, Int.reduceNeg, Nat.reduceLT, not_true_eq_false, not_false_eq_true, reduceIte, Option.toList, List.cons_append, List.nil_append, List.set_cons_zero, List.set_cons_succ, List.not_mem_nil, List.mem_cons, if_false, if_true, ite_true, ite_false, and_self, and_true, true_and, Nat.reduceAdd, Nat.reduceLeDiff, Nat.reduceEqDiff, Nat.zero_add, Nat.le_refl, Nat.zero_le, or_false, false_or, Int.reduceToNat, or_true, true_or, eq_self, and_false, false_and, inR_d, nc_4, nc_5, nc_6, nc_7, nc_8, nc_16, nc_18, nc_20, nc_24, nc_32, nc_40, nc_64, nc_104, nc_120, nc_160, nc_256, nc_300, nc_330, nc_390, nc_1200, nc_1260, nc_3012, nc_9834, okSt_1i, okSt_1r, okSt_1n, xpk_succ cd_254_54, xpk_succ cd_254_56, xpk_succ cd_254_58, xpk_succ cd_254_59, xpk_succ cd_254_62, xpk_succ cd_254_63, xpk_succ cd_254_64, xpk_succ cd_254_65, xpk_succ cd_254_66, xpk_succ cd_254_67, xpk_succ cd_254_68, o1, o2, o3, v5, a1, a2, ok1, ok2]
  exact lp2
set_option maxHeartbeats 4000000 in
theorem X_keep (d : Nat) (h : AH) (f : Nat → Int) (s n0 : Nat) (ho : AO h) (h5 : f 5 = (s : Int)) (hs : s ≤ 30) (h0 : f 0 = (n0 : Int)) (hn : n0 ≤ 8) (Q : Option AV → AH → Prop) (hQ : ∀ (g : Nat → Int) (s' : Nat) (m : Int), s' < 30 → (s < 30 ∧ g = f ∧ s' = s) ∨ (s = 30 ∧ g = upF (shF f 377) 5 29 ∧ s' = 29) → -2147483648 ≤ m ∧ m ≤ 2147483647 → Q none (hA h (upF (upF (kpF g (84 + 13 * s')) (84 + 13 * s' + 12) m) 5 ((s' + 1 : Nat) : Int)))) : XC (d + 2) 254 [vR 76] (hA h f) Q := by
  refine XC_of (Nat.le_of_ble_eq_true rfl) ?_
  show XP (d + 1) 254 0 [some (vR 76), none, none] [] (hA h f) Q
  have o1 := (AO_A (f := f) ho).1
  have o2 := (AO_A (f := f) ho).2.1
  have o3 := (AO_A (f := f) ho).2.2
  have v5 : hV (hA h f) 77 5 = vI (s : Int) := by rw [hA_V (by decide), h5]
  by_cases z : s = 30
  · have g5 : upF (shF f 377) 5 29 5 = ((29 : Nat) : Int) := upF_at
    have g0 : upF (shF f 377) 5 29 0 = (n0 : Int) := by rw [upF_ne (by decide)]; exact (if_neg (fun y => by omega)).trans h0
    have e54 := kp_4 d h (upF (shF f 377) 5 29) 29 n0 (by decide) g5 g0 hn (some (vI 377)) (fun z hz => by cases hz) Q ho (fun m hm => hQ _ 29 m (by decide) (Or.inr ⟨z, rfl, rfl⟩) hm)
    have e44 : XP (d + 1) 254 44 [some (vR 76), some (vI 377), none] [] (hA h (shF f 377)) Q := by
      have p1 := (AO_A (f := shF f 377) ho).1
      have p2 := (AO_A (f := shF f 377) ho).2.1
      have p3 := (AO_A (f := shF f 377) ho).2.2
      have u5 : hV (hA h (shF f 377)) 77 5 = vI 30 := by rw [hA_V (by decide)]; exact congrArg vI ((if_neg (fun y => by omega)).trans (by rw [h5, z]; rfl))
      have a1 : w32 (30 - 1) = 29 := by decide
      have s1 : hSet (hA h (shF f 377)) 77 5 (vI 29) = hA h (upF (shF f 377) 5 29) := hA_set (by decide)
      refine xpk_sound (stops := [54]) (n := 14) ?_
      simp only [sk_0, sk_1, sk_2, sk_3, sk_4, sk_5, sk_6, sk_7, sk_8, sk_iadd, sk_isub, sk_imul, sk_iand, sk_ior, sk_ixor, sk_ishl, sk_ishr, sk_iushr, sk_idiv, sk_irem, sk_ineg, sk_ladd, sk_lsub, sk_lmul, sk_land, sk_lor, sk_ldiv, sk_lrem, sk_lneg, sk_lshl, sk_lshr, sk_i2l, sk_l2i, sk_lcmp, sk_dupI, sk_dupR, sk_dup2L, sk_dup2I, sk_popI, sk_ifeq, sk_ifne, sk_iflt, sk_ifge, sk_ifgt, sk_ifle, sk_iceq, sk_icne, sk_iclt, sk_icge, sk_icgt, sk_icle, sk_goto, sk_getf, sk_putf, sk_gets, sk_iald, sk_lald, sk_bald, sk_aald, sk_iast, sk_last, sk_bast, sk_aast, sk_alen, sk_newa, sk_newt, sk_new, sk_cs1, sk_cs2, sk_cs3, sk_cs4, sk_cs5, sk_cs6, sk_cv1, sk_cv2, sk_cv3, sk_cv4, sk_cv5, sk_cv6, sk_ci1, sk_ci2, sk_ci3, sk_ret0, sk_retI, sk_retL, sk_retR, sk_sw, sk_oin, sk_max, sk_min, sk_abs, lI_0, lI_s, lL_0, lL_s, lR_0, lR_s, vIo_e, vLo_e, vOo_e, stW_I, stW_L, stW_R, stW_0, stW_z, okSt_0, okSt_s, hV_eq, hK_eq, okF_0, okF_1, okF_3, is01_0, is01_1, is01_i, Int.toNat_natCast, Int.reduceEq, Int.reduceLE, Int.reduceLT, Int.reduceNeg, Nat.reduceLT, not_true_eq_false, not_false_eq_true, reduceIte, Option.toList, List.cons_append, List.nil_append, List.set_cons_zero, List.set_cons_succ, List.not_mem_nil, List.mem_cons, if_false, if_true, ite_true, ite_false, and_self, and_true, true_and, Nat.reduceAdd, Nat.reduceLeDiff, Nat.reduceEqDiff, Nat.zero_add, Nat.le_refl, Nat.zero_le, or_false, false_or, Int.reduceToNat, or_true, true_or, eq_self, and_false, false_and, inR_d, nc_4, nc_5, nc_6, nc_7, nc_8, nc_16, nc_18, nc_20, nc_24, nc_32, nc_40, nc_64, nc_104, nc_120, nc_160, nc_256, nc_300, nc_330, nc_390, nc_1200, nc_1260, nc_3012, nc_9834, okSt_1i, okSt_1r, okSt_1n, xpk_succ cd_254_44, xpk_succ cd_254_45, xpk_succ cd_254_48, xpk_succ cd_254_49, xpk_succ cd_254_50, xpk_succ cd_254_51, xpk_succ cd_254_52, xpk_succ cd_254_53, p1, p2, p3, u5, a1]
      rw [s1]
      exact e54
    have e13 : XP (d + 1) 254 13 [some (vR 76), some (vI 0), none] [] (hA h f) Q := by
      have := kp_1 (d + 1) h f Q ho e44 377 0 rfl
      rw [shF_0] at this
      exact this
    have hc : ¬ ¬ (s : Int) = 30 := by omega
    refine xpk_sound (stops := [13]) (n := 14) ?_
    simp only [sk_0, sk_1, sk_2, sk_3, sk_4, sk_5, sk_6, sk_7, sk_8, sk_iadd, sk_isub, sk_imul, sk_iand, sk_ior, sk_ixor, sk_ishl, sk_ishr, sk_iushr, sk_idiv, sk_irem, sk_ineg, sk_ladd, sk_lsub, sk_lmul, sk_land, sk_lor, sk_ldiv, sk_lrem, sk_lneg, sk_lshl, sk_lshr, sk_i2l, sk_l2i, sk_lcmp, sk_dupI, sk_dupR, sk_dup2L, sk_dup2I, sk_popI, sk_ifeq, sk_ifne, sk_iflt, sk_ifge, sk_ifgt, sk_ifle, sk_iceq, sk_icne, sk_iclt, sk_icge, sk_icgt, sk_icle, sk_goto, sk_getf, sk_putf, sk_gets, sk_iald, sk_lald, sk_bald, sk_aald, sk_iast, sk_last, sk_bast, sk_aast, sk_alen, sk_newa, sk_newt, sk_new, sk_cs1, sk_cs2, sk_cs3, sk_cs4, sk_cs5, sk_cs6, sk_cv1, sk_cv2, sk_cv3, sk_cv4, sk_cv5, sk_cv6, sk_ci1, sk_ci2, sk_ci3, sk_ret0, sk_retI, sk_retL, sk_retR, sk_sw, sk_oin, sk_max, sk_min, sk_abs, lI_0, lI_s, lL_0, lL_s, lR_0, lR_s, vIo_e, vLo_e, vOo_e, stW_I, stW_L, stW_R, stW_0, stW_z, okSt_0, okSt_s, hV_eq, hK_eq, okF_0, okF_1, okF_3, is01_0, is01_1, is01_i, Int.toNat_natCast, Int.reduceEq, Int.reduceLE, Int.reduceLT, Int.reduceNeg, Nat.reduceLT, not_true_eq_false, not_false_eq_true, reduceIte, Option.toList, List.cons_append, List.nil_append, List.set_cons_zero, List.set_cons_succ, List.not_mem_nil, List.mem_cons, if_false, if_true, ite_true, ite_false, and_self, and_true, true_and, Nat.reduceAdd, Nat.reduceLeDiff, Nat.reduceEqDiff, Nat.zero_add, Nat.le_refl, Nat.zero_le, or_false, false_or, Int.reduceToNat, or_true, true_or, eq_self, and_false, false_and, inR_d, nc_4, nc_5, nc_6, nc_7, nc_8, nc_16, nc_18, nc_20, nc_24, nc_32, nc_40, nc_64, nc_104, nc_120, nc_160, nc_256, nc_300, nc_330, nc_390, nc_1200, nc_1260, nc_3012, nc_9834, okSt_1i, okSt_1r, okSt_1n, xpk_succ cd_254_0, xpk_succ cd_254_1, xpk_succ cd_254_4, xpk_succ cd_254_5, xpk_succ cd_254_6, xpk_succ cd_254_8, xpk_succ cd_254_11, xpk_succ cd_254_12, o1, o2, o3, v5, hc]
    exact e13
  · have e54 := kp_4 d h f s n0 (by omega) h5 h0 hn none (fun z hz => by cases hz) Q ho (fun m hm => hQ f s m (by omega) (Or.inl ⟨by omega, rfl, rfl⟩) hm)
    have hc : ¬ (s : Int) = 30 := by omega
    refine xpk_sound (stops := [54]) (n := 14) ?_
    simp only [sk_0, sk_1, sk_2, sk_3, sk_4, sk_5, sk_6, sk_7, sk_8, sk_iadd, sk_isub, sk_imul, sk_iand, sk_ior, sk_ixor, sk_ishl, sk_ishr, sk_iushr, sk_idiv, sk_irem, sk_ineg, sk_ladd, sk_lsub, sk_lmul, sk_land, sk_lor, sk_ldiv, sk_lrem, sk_lneg, sk_lshl, sk_lshr, sk_i2l, sk_l2i, sk_lcmp, sk_dupI, sk_dupR, sk_dup2L, sk_dup2I, sk_popI, sk_ifeq, sk_ifne, sk_iflt, sk_ifge, sk_ifgt, sk_ifle, sk_iceq, sk_icne, sk_iclt, sk_icge, sk_icgt, sk_icle, sk_goto, sk_getf, sk_putf, sk_gets, sk_iald, sk_lald, sk_bald, sk_aald, sk_iast, sk_last, sk_bast, sk_aast, sk_alen, sk_newa, sk_newt, sk_new, sk_cs1, sk_cs2, sk_cs3, sk_cs4, sk_cs5, sk_cs6, sk_cv1, sk_cv2, sk_cv3, sk_cv4, sk_cv5, sk_cv6, sk_ci1, sk_ci2, sk_ci3, sk_ret0, sk_retI, sk_retL, sk_retR, sk_sw, sk_oin, sk_max, sk_min, sk_abs, lI_0, lI_s, lL_0, lL_s, lR_0, lR_s, vIo_e, vLo_e, vOo_e, stW_I, stW_L, stW_R, stW_0, stW_z, okSt_0, okSt_s, hV_eq, hK_eq, okF_0, okF_1, okF_3, is01_0, is01_1, is01_i, Int.toNat_natCast, Int.reduceEq, Int.reduceLE, Int.reduceLT, Int.reduceNeg, Nat.reduceLT, not_true_eq_false, not_false_eq_true, reduceIte, Option.toList, List.cons_append, List.nil_append, List.set_cons_zero, List.set_cons_succ, List.not_mem_nil, List.mem_cons, if_false, if_true, ite_true, ite_false, and_self, and_true, true_and, Nat.reduceAdd, Nat.reduceLeDiff, Nat.reduceEqDiff, Nat.zero_add, Nat.le_refl, Nat.zero_le, or_false, false_or, Int.reduceToNat, or_true, true_or, eq_self, and_false, false_and, inR_d, nc_4, nc_5, nc_6, nc_7, nc_8, nc_16, nc_18, nc_20, nc_24, nc_32, nc_40, nc_64, nc_104, nc_120, nc_160, nc_256, nc_300, nc_330, nc_390, nc_1200, nc_1260, nc_3012, nc_9834, okSt_1i, okSt_1r, okSt_1n, xpk_succ cd_254_0, xpk_succ cd_254_1, xpk_succ cd_254_4, xpk_succ cd_254_5, xpk_succ cd_254_6, xpk_succ cd_254_8, xpk_succ cd_254_11, xpk_succ cd_254_12, o1, o2, o3, v5, hc]
    exact e54
/-! what JB says of the row a -/
def rg0 (e : Option HV) : Bool × Int × Int := match e with
  | some (.inr (.inl q)) => q
  | _ => (true, 0, 0)
theorem jp_r : ∀ i, i < 20 → jp77[i]? = some (.inr (.inl (rg0 jp77[i]?))) := fun i hi => by
  match i, hi with
  | 0, _ => rfl
  | 1, _ => rfl
  | 2, _ => rfl
  | 3, _ => rfl
  | 4, _ => rfl
  | 5, _ => rfl
  | 6, _ => rfl
  | 7, _ => rfl
  | 8, _ => rfl
  | 9, _ => rfl
  | 10, _ => rfl
  | 11, _ => rfl
  | 12, _ => rfl
  | 13, _ => rfl
  | 14, _ => rfl
  | 15, _ => rfl
  | 16, _ => rfl
  | 17, _ => rfl
  | 18, _ => rfl
  | 19, _ => rfl
  | n + 20, hi => omega
theorem jp_0 : rg0 jp77[0]? = (false, 0, 8) ∧ rg0 jp77[5]? = (false, 0, 30) ∧ rg0 jp77[7]? = (false, 0, 20000) ∧ rg0 jp77[12]? = (false, 1, 24) := by decide +kernel
theorem jp_i : ∀ i, i < 20 → (rg0 jp77[i]?).1 = false := by decide +kernel
theorem st_r : ∀ r, r ∈ jrA → (r.1 < 474 → 84 < r.2.1 → r.1 = 84 ∧ r.2.1 = 474 ∧ r.2.2.1 = 13) := by decide +kernel
def fitK (es : List (Bool × Int × Int)) (q : Bool × Int × Int) (j : Nat) : Bool := match es[j]? with
  | some q' => leQQ q q'
  | none => true
theorem st_k : ∀ r, r ∈ jrA → r.1 = 84 → (∀ k, k < 10 → k ≠ 8 → fitK r.2.2.2 (rg0 jp77[8 + k]?) ((6 + k) % 13) = true) ∧ fitK r.2.2.2 (false, 0, 9999) 1 = true ∧ fitK r.2.2.2 (rg0 jp77[2]?) 3 = true ∧ fitK r.2.2.2 (rg0 jp77[7]?) 4 = true ∧ fitK r.2.2.2 (false, -2147483648, 2147483647) 5 = true := by decide +kernel
theorem fitK_s {es : List (Bool × Int × Int)} {q q' : Bool × Int × Int} {j : Nat} {v : AV} (h : fitK es q j = true) (hj : es[j]? = some q') (hv : inRg q v) : inRg q' v := by
  unfold fitK at h
  rw [hj] at h
  exact leQQ_s h hv
def is77 (e : Option HV) : Bool := match e with
  | some (.inr (.inr [k])) => Nat.beq k 77
  | _ => false
noncomputable def j76 : Bool := match gS JB 76 with
  | some c => (Nat.beq c.1 10 && Nat.beq c.2.1 0) && is77 c.2.2.1[0]?
  | none => false
theorem j76_t : j76 = true := by decide +kernel
theorem AO_J {h : AH} (hJ : k_H JB h) : AO h := by
  have h1 := j76_t
  unfold j76 at h1
  split at h1
  · rename_i c hc
    rw [Bool.and_eq_true, Bool.and_eq_true] at h1
    have hC := hJ.2.2 76 c hc
    refine ⟨by rw [hC.1, Nat.eq_of_beq_eq_true h1.1.1, Nat.eq_of_beq_eq_true h1.1.2], ?_, (hJ.2.2 77 _ g77).1⟩
    have h2 := h1.2
    unfold is77 at h2
    split at h2
    · rename_i k0 he
      obtain ⟨k, k1, k2⟩ := hC.2.1 0 _ he
      rcases List.mem_cons.mp k1 with rfl | k1
      · rw [k2, Nat.eq_of_beq_eq_true h2]
      · cases k1
    · cases h2
  · cases h1
def aF (h : AH) : Nat → Int := fun i => nmb (hV h 77 i)
theorem aF_v {h : AH} (hJ : k_H JB h) : ∀ i, i < 9834 → hV h 77 i = vI (aF h i) := fun i hi => by
  obtain ⟨x, hx⟩ := int_77 hJ i hi
  unfold aF
  rw [hx]
  rfl
theorem aF_p {h : AH} (hJ : k_H JB h) {i : Nat} (hi : i < 20) : inRg (rg0 jp77[i]?) (vI (aF h i)) := by
  rw [← aF_v hJ i (by omega)]
  exact (hJ.2.2 77 _ g77).2.1 i _ (jp_r i hi)
theorem hA_JB {h : AH} {f : Nat → Int} (hJ : k_H JB h) (hp : ∀ i, i < 20 → inRg (rg0 jp77[i]?) (vI (f i))) (hr : ∀ (r : RG) (i : Nat) (q : Bool × Int × Int), r ∈ jrA → r.1 ≤ i → i < r.2.1 → r.2.2.2[i % r.2.2.1]? = some q → inRg q (vI (f i))) : k_H JB (hA h f) := by
  refine ⟨hJ.1, hJ.2.1, fun k c hc => ?_⟩
  by_cases z : k = 77
  · subst z
    rw [g77] at hc
    cases hc
    have hC := hJ.2.2 77 _ g77
    refine ⟨hC.1, fun i e he => ?_, fun r hr' => ⟨(hC.2.2 r hr').1, fun i q i1 i2 hq => ?_⟩⟩
    · have he : jp77[i]? = some e := he
      have hi : i < 20 := by
        rw [← jp_len.1]
        rcases Nat.lt_or_ge i jp77.length with y | y
        · exact y
        · rw [List.getElem?_eq_none y] at he; cases he
      rw [jp_r i hi] at he
      cases he
      rw [hA_V (by omega)]
      exact hp i hi
    · rw [hA_V (by have := (jrA_b r hr').2; omega)]
      exact hr r i q hr' i1 i2 hq
  · have hC := hJ.2.2 k c hc
    exact ⟨hC.1, fun i e he => by rw [hA_n z]; exact hC.2.1 i e he, fun r hr' => ⟨(hC.2.2 r hr').1, fun i q i1 i2 hq => by rw [hA_n z]; exact (hC.2.2 r hr').2 i q i1 i2 hq⟩⟩
theorem aF_r {h : AH} (hJ : k_H JB h) {r : RG} {i : Nat} {q : Bool × Int × Int} (hr : r ∈ jrA) (i1 : r.1 ≤ i) (i2 : i < r.2.1) (hq : r.2.2.2[i % r.2.2.1]? = some q) : inRg q (vI (aF h i)) := by
  rw [← aF_v hJ i (by have := (jrA_b r hr).2; omega)]
  exact ((hJ.2.2 77 _ g77).2.2 r hr).2 i q i1 i2 hq
theorem inI {lo hi x : Int} (h : inRg (false, lo, hi) (vI x)) : lo ≤ x ∧ x ≤ hi := by
  obtain ⟨y, e, h1, h2⟩ := h
  have e : (Sum.inl x : AV) = Sum.inl y := e
  have e := Sum.inl.inj e
  have h1 : lo ≤ y := h1
  have h2 : y ≤ hi := h2
  omega
theorem inI_of {lo hi x : Int} (h1 : lo ≤ x) (h2 : x ≤ hi) : inRg (false, lo, hi) (vI x) := ⟨x, rfl, h1, h2⟩
/-- a row is laid at s, ahead of it the rows are as they were or came down by one -/
def LAY (f f' : Nat → Int) (s : Nat) (t : Bool) : Prop := (s < 30 ∧ f' 5 = ((s + 1 : Nat) : Int) ∧ (t = true → f 5 = 30 ∧ s = 29) ∧ (t = false → f 5 = (s : Int))) ∧ (∀ i, i ≠ 5 → (i < 84 ∨ 474 ≤ i) → f' i = f i) ∧ (∀ i, 84 ≤ i → i < 474 → (i < 84 + 13 * s ∨ 84 + 13 * s + 13 ≤ i) → f' i = f (bif t then i + 13 else i) ∧ (t = true → i + 13 < 474)) ∧ (∀ k, k < 10 → f' (84 + 13 * s + k) = f (8 + k)) ∧ f' (84 + 13 * s + 10) = f 2 ∧ f' (84 + 13 * s + 11) = f 7 ∧ (-2147483648 ≤ f' (84 + 13 * s + 12) ∧ f' (84 + 13 * s + 12) ≤ 2147483647)
theorem kp_lay {f g : Nat → Int} {s s' : Nat} {m : Int} (h5 : f 5 = (s : Int)) (hs' : s' < 30) (hg : (s < 30 ∧ g = f ∧ s' = s) ∨ (s = 30 ∧ g = upF (shF f 377) 5 29 ∧ s' = 29)) (hm : -2147483648 ≤ m ∧ m ≤ 2147483647) : ∃ t, LAY f (upF (upF (kpF g (84 + 13 * s')) (84 + 13 * s' + 12) m) 5 ((s' + 1 : Nat) : Int)) s' t := by
  have glo : ∀ i, i ≠ 5 → (i < 84 ∨ 474 ≤ i) → g i = f i := fun i h1 h2 => by
    rcases hg with ⟨-, rfl, -⟩ | ⟨-, rfl, -⟩
    · rfl
    · rw [upF_ne h1]; exact if_neg (fun z => by omega)
  have out : ∀ i, i ≠ 5 → (i < 84 + 13 * s' ∨ 84 + 13 * s' + 13 ≤ i) → upF (upF (kpF g (84 + 13 * s')) (84 + 13 * s' + 12) m) 5 ((s' + 1 : Nat) : Int) i = g i := fun i h1 h2 => by
    rw [upF_ne h1, upF_ne (by omega)]
    unfold kpF
    rw [upF_ne (by omega), upF_ne (by omega)]
    exact if_neg (fun z => by omega)
  have ins : ∀ k, k < 10 → upF (upF (kpF g (84 + 13 * s')) (84 + 13 * s' + 12) m) 5 ((s' + 1 : Nat) : Int) (84 + 13 * s' + k) = f (8 + k) := fun k hk => by
    rw [upF_ne (by omega), upF_ne (by omega)]
    unfold kpF
    rw [upF_ne (by omega), upF_ne (by omega)]
    have e : cpF g (84 + 13 * s') 10 (84 + 13 * s' + k) = g (8 + (84 + 13 * s' + k - (84 + 13 * s'))) := if_pos (by omega)
    rw [e, show 8 + (84 + 13 * s' + k - (84 + 13 * s')) = 8 + k by omega]
    exact glo _ (by omega) (by omega)
  have i10 : upF (upF (kpF g (84 + 13 * s')) (84 + 13 * s' + 12) m) 5 ((s' + 1 : Nat) : Int) (84 + 13 * s' + 10) = f 2 := by
    rw [upF_ne (by omega), upF_ne (by omega)]
    unfold kpF
    rw [upF_ne (by omega), upF_at]
    exact glo 2 (by decide) (by decide)
  have i11 : upF (upF (kpF g (84 + 13 * s')) (84 + 13 * s' + 12) m) 5 ((s' + 1 : Nat) : Int) (84 + 13 * s' + 11) = f 7 := by
    rw [upF_ne (by omega), upF_ne (by omega)]
    unfold kpF
    rw [upF_at]
    exact glo 7 (by decide) (by decide)
  have i12 : upF (upF (kpF g (84 + 13 * s')) (84 + 13 * s' + 12) m) 5 ((s' + 1 : Nat) : Int) (84 + 13 * s' + 12) = m := by rw [upF_ne (by omega), upF_at]
  rcases hg with ⟨a1, rfl, rfl⟩ | ⟨a1, a2, rfl⟩
  · exact ⟨false, ⟨hs', upF_at, fun z => (by cases z), fun _ => h5⟩, fun i h1 h2 => by rw [out i h1 (by omega)], fun i h1 h2 h3 => ⟨by rw [out i (by omega) h3]; rfl, fun z => (by cases z)⟩, ins, i10, i11, by rw [i12]; exact hm⟩
  · refine ⟨true, ⟨hs', upF_at, fun _ => ⟨by rw [h5, a1]; rfl, rfl⟩, fun z => (by cases z)⟩, fun i h1 h2 => by rw [out i h1 (by omega)]; exact glo i h1 h2, fun i h1 h2 h3 => ⟨?_, fun _ => (by omega)⟩, ins, i10, i11, by rw [i12]; exact hm⟩
    rw [out i (by omega) h3, a2, upF_ne (by omega)]
    exact if_pos (by omega)
theorem lay_JB {h : AH} {f' : Nat → Int} {s : Nat} {t : Bool} (hJ : k_H JB h) (h16 : inRg (false, 0, 9999) (vI (aF h 16))) (hL : LAY (aF h) f' s t) : k_H JB (hA h f') := by
  obtain ⟨⟨l1, l2, -, -⟩, l3, l4, l5, l6, l7, l8⟩ := hL
  refine hA_JB hJ (fun i hi => ?_) (fun r i q hr i1 i2 hq => ?_)
  · by_cases z : i = 5
    · subst z
      rw [l2, jp_0.2.1]
      exact inI_of (by omega) (by omega)
    · rw [l3 i z (by omega)]
      exact aF_p hJ hi
  · by_cases z : 84 ≤ i ∧ i < 474
    · obtain ⟨r1, r2, r3⟩ := st_r r hr (by omega) (by omega)
      obtain ⟨k1, k2, k3, k4, k5⟩ := st_k r hr r1
      rw [r3] at hq
      by_cases y : i < 84 + 13 * s ∨ 84 + 13 * s + 13 ≤ i
      · obtain ⟨y1, y2⟩ := l4 i z.1 z.2 y
        rw [y1]
        cases t with
        | false => exact aF_r hJ hr i1 i2 (by rw [r3]; exact hq)
        | true =>
          have y2 := y2 rfl
          refine aF_r (i := i + 13) hJ hr (by omega) (by omega) ?_
          rw [r3, show (i + 13) % 13 = i % 13 by omega]
          exact hq
      · obtain ⟨k, hk⟩ : ∃ k, i = 84 + 13 * s + k := ⟨i - (84 + 13 * s), by omega⟩
        by_cases y10 : k < 10
        · rw [hk, show (84 + 13 * s + k) % 13 = (6 + k) % 13 by omega] at hq
          rw [hk, l5 k y10]
          by_cases y8 : k = 8
          · subst y8
            exact fitK_s k2 hq h16
          · exact fitK_s (k1 k y10 y8) hq (aF_p hJ (by omega))
        · by_cases e10 : k = 10
          · subst e10
            rw [hk, show (84 + 13 * s + 10) % 13 = 3 by omega] at hq
            rw [hk, l6]
            exact fitK_s k3 hq (aF_p hJ (by decide))
          · by_cases e11 : k = 11
            · subst e11
              rw [hk, show (84 + 13 * s + 11) % 13 = 4 by omega] at hq
              rw [hk, l7]
              exact fitK_s k4 hq (aF_p hJ (by decide))
            · have e12 : k = 12 := by omega
              subst e12
              rw [hk, show (84 + 13 * s + 12) % 13 = 5 by omega] at hq
              rw [hk]
              exact fitK_s k5 hq (inI_of l8.1 l8.2)
    · by_cases z5 : i = 5
      · have := (jrA_b r hr).1
        omega
      · rw [l3 i z5 (by omega)]
        exact aF_r hJ hr i1 i2 hq
theorem lay_W {β : Nat} {h : AH} {f' : Nat → Int} {s : Nat} {t : Bool} (hJ : k_H JB h) (hW : W0 β h) (hL : LAY (aF h) f' s t) : W0 β (hA h f') := by
  obtain ⟨⟨l1, l2, l9, l0⟩, l3, l4, l5, l6, l7, l8⟩ := hL
  obtain ⟨⟨⟨w1, w2⟩, w3, w4⟩, w5⟩ := hW
  have hv := aF_v hJ
  have r12 := aF_p hJ (i := 12) (by decide)
  rw [jp_0.2.2.2] at r12
  have r12 := inI r12
  have n78 : ∀ i, hV (hA h f') 78 i = hV h 78 i := fun i => hA_n (by decide)
  have ct : (fun i => if i ≤ 3012 then hV (hA h f') 79 i else vN) = (fun i => if i ≤ 3012 then hV h 79 i else vN) := by
    funext i; rw [hA_n (by decide)]
  refine ⟨⟨⟨fun r hr hs => ?_, fun r hr hs => ?_⟩, ⟨?_, fun r hr => ?_⟩, ⟨?_, fun r hr => ?_⟩⟩, by rw [ct]; exact w5⟩
  · rw [hA_V (by decide), l2] at hs
    obtain ⟨y, hy, hs⟩ := hs
    have hy := Sum.inl.inj (show (Sum.inl ((s + 1 : Nat) : Int) : AV) = Sum.inl y from hy)
    rw [hA_V (by omega)]
    by_cases z : r = s
    · subst z
      refine ⟨_, rfl, ?_⟩
      rw [l5 4 (by decide)]
      exact r12
    · obtain ⟨y1, y2⟩ := l4 (84 + 13 * r + 4) (by omega) (by omega) (by omega)
      rw [y1]
      cases t with
      | false =>
        have := w1 r hr ⟨_, hv 5 (by decide), by rw [l0 rfl]; omega⟩
        rw [hv _ (by omega)] at this
        exact this
      | true =>
        have := w1 (r + 1) (by have := (l9 rfl).2; omega) ⟨_, hv 5 (by decide), by rw [(l9 rfl).1]; have := (l9 rfl).2; omega⟩
        rw [show 84 + 13 * (r + 1) + 4 = 84 + 13 * r + 4 + 13 by omega, hv _ (by have := (l9 rfl).2; omega)] at this
        exact this
  · rw [n78] at hs ⊢; exact w2 r hr hs
  · rw [hA_V (by decide), l3 7 (by decide) (by decide), ← hv 7 (by decide)]; exact w3.1
  · rw [hA_V (by omega)]
    by_cases z : r = s
    · subst z
      rw [l7, ← hv 7 (by decide)]
      exact w3.1
    · obtain ⟨y1, y2⟩ := l4 (84 + 13 * r + 11) (by omega) (by omega) (by omega)
      rw [y1]
      cases t with
      | false =>
        have := w3.2 r hr
        rw [hv _ (by omega)] at this
        exact this
      | true =>
        have y2 := y2 rfl
        have := w3.2 (r + 1) (by omega)
        rw [show 84 + 13 * (r + 1) + 11 = 84 + 13 * r + 11 + 13 by omega, hv _ (by omega)] at this
        exact this
  · rw [n78]; exact w4.1
  · rw [n78]; exact w4.2 r hr
theorem hok254_0 {β : Nat} : KOK JB (W0 β) 254 hk254_0 := by
  intro d vs h Q hd ha hJ hW hp hQ
  obtain ⟨v1, t1, rfl, e1, e2⟩ := ha
  have e1 : v1 = vR 76 := e1
  have e2 : t1 = [] := e2
  subst e1 e2
  obtain ⟨d, rfl⟩ : ∃ d', d = d' + 2 := ⟨d - 2, by have hd : 4 ≤ d := hd; omega⟩
  have hv := aF_v hJ
  have p0 := aF_p hJ (i := 0) (by decide)
  rw [jp_0.1] at p0
  have p0 := inI p0
  have p5 := aF_p hJ (i := 5) (by decide)
  rw [jp_0.2.1] at p5
  have p5 := inI p5
  have h16 := hp (77, 16, .inr (false, 0, 9999)) List.mem_cons_self
  have h16 : inRg (false, 0, 9999) (hV h 77 16) := h16
  rw [hv 16 (by decide)] at h16
  have key := X_keep d h (aF h) (aF h 5).toNat (aF h 0).toNat (AO_J hJ) (by omega) (by omega) (by omega) (by omega) Q (fun g s' m hs' hg hm => by
    obtain ⟨t, hL⟩ := kp_lay (f := aF h) (by omega) hs' hg hm
    refine hQ none _ rfl (lay_JB hJ h16 hL) (fun f hf => by cases hf) (fun q hq => by cases hq) ⟨⟨rfl, lay_W hJ hW hL⟩, fun k i hn => ?_⟩
    by_cases z : k = 77
    · subst z
      by_cases y : i < 9834
      · rw [hA_V y, hL.2.1 i (fun q => hn ⟨(77, 5, 5), List.mem_cons_self, rfl, by show 5 ≤ i; omega, by show i ≤ 5; omega⟩) (by
          rcases Nat.lt_or_ge i 84 with q | q
          · exact Or.inl q
          · right
            rcases Nat.lt_or_ge i 474 with q2 | q2
            · exact absurd ⟨(77, 84, 473), List.mem_cons_of_mem _ List.mem_cons_self, rfl, q, by show i ≤ 473; omega⟩ hn
            · exact q2), hv i y]
      · exact hA_b (by omega)
    · exact hA_n z)
  rw [hA_0 hv] at key
  exact key
