set_option maxRecDepth 20000 in
theorem ac_264 : allC[264]? = some cl264 := rfl
theorem cd_264_0 : cd 264 0 = some (4, 1, 0, 0, 0, []) := cd_row ac_264 rfl
theorem cd_264_1 : cd 264 1 = some (23, 4, 10, 2, 0, []) := cd_row ac_264 rfl
theorem cd_264_4 : cd 264 4 = some (2, 5, 1, 0, 0, []) := cd_row ac_264 rfl
theorem cd_264_5 : cd 264 5 = some (0, 6, 0, 0, 1, []) := cd_row ac_264 rfl
theorem cd_264_6 : cd 264 6 = some (9, 7, 0, 0, 0, []) := cd_row ac_264 rfl
theorem cd_264_7 : cd 264 7 = some (26, 8, 0, 0, 0, []) := cd_row ac_264 rfl
theorem cd_264_8 : cd 264 8 = some (5, 9, 2, 0, 0, []) := cd_row ac_264 rfl
theorem cd_264_9 : cd 264 9 = some (4, 10, 0, 0, 0, []) := cd_row ac_264 rfl
theorem cd_264_10 : cd 264 10 = some (23, 13, 10, 2, 0, []) := cd_row ac_264 rfl
theorem cd_264_13 : cd 264 13 = some (2, 14, 1, 0, 0, []) := cd_row ac_264 rfl
theorem cd_264_14 : cd 264 14 = some (26, 15, 0, 0, 0, []) := cd_row ac_264 rfl
theorem cd_264_15 : cd 264 15 = some (43, 56, 145, 0, 0, [(5, 56), (6, 102), (7, 108), (8, 114), (9, 120), (10, 126), (11, 132)]) := cd_row ac_264 rfl
theorem cd_264_56 : cd 264 56 = some (4, 57, 0, 0, 0, []) := cd_row ac_264 rfl
theorem cd_264_57 : cd 264 57 = some (2, 58, 2, 0, 0, []) := cd_row ac_264 rfl
theorem cd_264_58 : cd 264 58 = some (4, 59, 0, 0, 0, []) := cd_row ac_264 rfl
theorem cd_264_59 : cd 264 59 = some (23, 62, 10, 2, 0, []) := cd_row ac_264 rfl
theorem cd_264_62 : cd 264 62 = some (2, 63, 1, 0, 0, []) := cd_row ac_264 rfl
theorem cd_264_63 : cd 264 63 = some (0, 64, 0, 0, 2, []) := cd_row ac_264 rfl
theorem cd_264_64 : cd 264 64 = some (9, 65, 0, 0, 0, []) := cd_row ac_264 rfl
theorem cd_264_65 : cd 264 65 = some (26, 66, 0, 0, 0, []) := cd_row ac_264 rfl
theorem cd_264_66 : cd 264 66 = some (4, 67, 0, 0, 0, []) := cd_row ac_264 rfl
theorem cd_264_67 : cd 264 67 = some (23, 70, 10, 2, 0, []) := cd_row ac_264 rfl
theorem cd_264_70 : cd 264 70 = some (2, 71, 1, 0, 0, []) := cd_row ac_264 rfl
theorem cd_264_71 : cd 264 71 = some (0, 72, 0, 0, 3, []) := cd_row ac_264 rfl
theorem cd_264_72 : cd 264 72 = some (9, 73, 0, 0, 0, []) := cd_row ac_264 rfl
theorem cd_264_73 : cd 264 73 = some (26, 74, 0, 0, 0, []) := cd_row ac_264 rfl
theorem cd_264_74 : cd 264 74 = some (4, 75, 0, 0, 0, []) := cd_row ac_264 rfl
theorem cd_264_75 : cd 264 75 = some (23, 78, 10, 2, 0, []) := cd_row ac_264 rfl
theorem cd_264_78 : cd 264 78 = some (2, 79, 1, 0, 0, []) := cd_row ac_264 rfl
theorem cd_264_79 : cd 264 79 = some (0, 80, 0, 0, 4, []) := cd_row ac_264 rfl
theorem cd_264_80 : cd 264 80 = some (9, 81, 0, 0, 0, []) := cd_row ac_264 rfl
theorem cd_264_81 : cd 264 81 = some (26, 82, 0, 0, 0, []) := cd_row ac_264 rfl
theorem cd_264_82 : cd 264 82 = some (4, 83, 0, 0, 0, []) := cd_row ac_264 rfl
theorem cd_264_83 : cd 264 83 = some (23, 86, 10, 2, 0, []) := cd_row ac_264 rfl
theorem cd_264_86 : cd 264 86 = some (2, 87, 1, 0, 0, []) := cd_row ac_264 rfl
theorem cd_264_87 : cd 264 87 = some (0, 88, 0, 0, 5, []) := cd_row ac_264 rfl
theorem cd_264_88 : cd 264 88 = some (9, 89, 0, 0, 0, []) := cd_row ac_264 rfl
theorem cd_264_89 : cd 264 89 = some (26, 90, 0, 0, 0, []) := cd_row ac_264 rfl
theorem cd_264_90 : cd 264 90 = some (46, 93, 189, 6, 10, []) := cd_row ac_264 rfl
theorem cd_264_93 : cd 264 93 = some (20, 96, 100, 2, 0, []) := cd_row ac_264 rfl
theorem cd_264_96 : cd 264 96 = some (0, 97, 0, 0, 1, []) := cd_row ac_264 rfl
theorem cd_264_97 : cd 264 97 = some (22, 100, 101, 0, 0, []) := cd_row ac_264 rfl
theorem cd_264_100 : cd 264 100 = some (0, 101, 0, 0, 0, []) := cd_row ac_264 rfl
theorem cd_264_101 : cd 264 101 = some (40, 102, 1, 0, 0, []) := cd_row ac_264 rfl
theorem cd_264_102 : cd 264 102 = some (4, 103, 0, 0, 0, []) := cd_row ac_264 rfl
theorem cd_264_103 : cd 264 103 = some (2, 104, 2, 0, 0, []) := cd_row ac_264 rfl
theorem cd_264_104 : cd 264 104 = some (46, 107, 256, 2, 10, []) := cd_row ac_264 rfl
theorem cd_264_107 : cd 264 107 = some (40, 108, 1, 0, 0, []) := cd_row ac_264 rfl
theorem cd_264_108 : cd 264 108 = some (4, 109, 0, 0, 0, []) := cd_row ac_264 rfl
theorem cd_264_109 : cd 264 109 = some (2, 110, 2, 0, 0, []) := cd_row ac_264 rfl
theorem cd_264_110 : cd 264 110 = some (46, 113, 258, 2, 10, []) := cd_row ac_264 rfl
theorem cd_264_113 : cd 264 113 = some (40, 114, 1, 0, 0, []) := cd_row ac_264 rfl
theorem cd_264_114 : cd 264 114 = some (4, 115, 0, 0, 0, []) := cd_row ac_264 rfl
theorem cd_264_115 : cd 264 115 = some (2, 116, 2, 0, 0, []) := cd_row ac_264 rfl
theorem cd_264_116 : cd 264 116 = some (46, 119, 260, 2, 10, []) := cd_row ac_264 rfl
theorem cd_264_119 : cd 264 119 = some (40, 120, 1, 0, 0, []) := cd_row ac_264 rfl
theorem cd_264_120 : cd 264 120 = some (4, 121, 0, 0, 0, []) := cd_row ac_264 rfl
theorem cd_264_121 : cd 264 121 = some (2, 122, 2, 0, 0, []) := cd_row ac_264 rfl
theorem cd_264_122 : cd 264 122 = some (46, 125, 261, 2, 10, []) := cd_row ac_264 rfl
theorem cd_264_125 : cd 264 125 = some (40, 126, 1, 0, 0, []) := cd_row ac_264 rfl
theorem cd_264_126 : cd 264 126 = some (4, 127, 0, 0, 0, []) := cd_row ac_264 rfl
theorem cd_264_127 : cd 264 127 = some (2, 128, 2, 0, 0, []) := cd_row ac_264 rfl
theorem cd_264_128 : cd 264 128 = some (46, 131, 262, 2, 10, []) := cd_row ac_264 rfl
theorem cd_264_131 : cd 264 131 = some (40, 132, 1, 0, 0, []) := cd_row ac_264 rfl
theorem cd_264_132 : cd 264 132 = some (4, 133, 0, 0, 0, []) := cd_row ac_264 rfl
theorem cd_264_133 : cd 264 133 = some (46, 136, 263, 1, 10, []) := cd_row ac_264 rfl
theorem cd_264_136 : cd 264 136 = some (20, 139, 143, 2, 0, []) := cd_row ac_264 rfl
theorem cd_264_139 : cd 264 139 = some (0, 140, 0, 0, 1, []) := cd_row ac_264 rfl
theorem cd_264_140 : cd 264 140 = some (22, 143, 144, 0, 0, []) := cd_row ac_264 rfl
theorem cd_264_143 : cd 264 143 = some (0, 144, 0, 0, 0, []) := cd_row ac_264 rfl
theorem cd_264_144 : cd 264 144 = some (40, 145, 1, 0, 0, []) := cd_row ac_264 rfl
theorem cd_264_145 : cd 264 145 = some (0, 146, 0, 0, 1, []) := cd_row ac_264 rfl
theorem cd_264_146 : cd 264 146 = some (40, 147, 1, 0, 0, []) := cd_row ac_264 rfl
set_option maxRecDepth 20000 in
theorem ac_265 : allC[265]? = some cl265 := rfl
theorem cd_265_0 : cd 265 0 = some (2, 1, 1, 0, 0, []) := cd_row ac_265 rfl
theorem cd_265_1 : cd 265 1 = some (0, 2, 0, 0, 0, []) := cd_row ac_265 rfl
theorem cd_265_2 : cd 265 2 = some (4, 3, 0, 0, 0, []) := cd_row ac_265 rfl
theorem cd_265_3 : cd 265 3 = some (23, 6, 10, 0, 0, []) := cd_row ac_265 rfl
theorem cd_265_6 : cd 265 6 = some (0, 7, 0, 0, 3, []) := cd_row ac_265 rfl
theorem cd_265_7 : cd 265 7 = some (26, 8, 0, 0, 0, []) := cd_row ac_265 rfl
theorem cd_265_8 : cd 265 8 = some (0, 9, 0, 0, 1, []) := cd_row ac_265 rfl
theorem cd_265_9 : cd 265 9 = some (9, 10, 0, 1, 0, []) := cd_row ac_265 rfl
theorem cd_265_10 : cd 265 10 = some (38, 13, 182, 3, 0, []) := cd_row ac_265 rfl
theorem cd_265_13 : cd 265 13 = some (20, 16, 19, 1, 0, []) := cd_row ac_265 rfl
theorem cd_265_16 : cd 265 16 = some (0, 18, 0, 0, -2, []) := cd_row ac_265 rfl
theorem cd_265_18 : cd 265 18 = some (40, 19, 0, 0, 0, []) := cd_row ac_265 rfl
theorem cd_265_19 : cd 265 19 = some (0, 20, 0, 0, 0, []) := cd_row ac_265 rfl
theorem cd_265_20 : cd 265 20 = some (5, 21, 2, 0, 0, []) := cd_row ac_265 rfl
theorem cd_265_21 : cd 265 21 = some (2, 22, 2, 0, 0, []) := cd_row ac_265 rfl
theorem cd_265_22 : cd 265 22 = some (4, 23, 0, 0, 0, []) := cd_row ac_265 rfl
theorem cd_265_23 : cd 265 23 = some (23, 26, 10, 2, 0, []) := cd_row ac_265 rfl
theorem cd_265_26 : cd 265 26 = some (0, 29, 0, 0, 753, []) := cd_row ac_265 rfl
theorem cd_265_29 : cd 265 29 = some (2, 30, 1, 0, 0, []) := cd_row ac_265 rfl
theorem cd_265_30 : cd 265 30 = some (9, 31, 0, 2, 0, []) := cd_row ac_265 rfl
theorem cd_265_31 : cd 265 31 = some (26, 32, 0, 0, 0, []) := cd_row ac_265 rfl
theorem cd_265_32 : cd 265 32 = some (21, 35, 62, 3, 0, []) := cd_row ac_265 rfl
theorem cd_265_35 : cd 265 35 = some (4, 36, 0, 0, 0, []) := cd_row ac_265 rfl
theorem cd_265_36 : cd 265 36 = some (0, 39, 0, 0, 753, []) := cd_row ac_265 rfl
theorem cd_265_39 : cd 265 39 = some (2, 40, 1, 0, 0, []) := cd_row ac_265 rfl
theorem cd_265_40 : cd 265 40 = some (9, 41, 0, 2, 0, []) := cd_row ac_265 rfl
theorem cd_265_41 : cd 265 41 = some (0, 42, 0, 0, 1, []) := cd_row ac_265 rfl
theorem cd_265_42 : cd 265 42 = some (9, 43, 0, 0, 0, []) := cd_row ac_265 rfl
theorem cd_265_43 : cd 265 43 = some (0, 45, 0, 0, 6, []) := cd_row ac_265 rfl
theorem cd_265_45 : cd 265 45 = some (2, 46, 2, 0, 0, []) := cd_row ac_265 rfl
theorem cd_265_46 : cd 265 46 = some (9, 47, 0, 2, 0, []) := cd_row ac_265 rfl
theorem cd_265_47 : cd 265 47 = some (9, 48, 0, 0, 0, []) := cd_row ac_265 rfl
theorem cd_265_48 : cd 265 48 = some (46, 51, 264, 2, 10, []) := cd_row ac_265 rfl
theorem cd_265_51 : cd 265 51 = some (20, 54, 56, 1, 0, []) := cd_row ac_265 rfl
theorem cd_265_54 : cd 265 54 = some (2, 55, 2, 0, 0, []) := cd_row ac_265 rfl
theorem cd_265_55 : cd 265 55 = some (40, 56, 0, 0, 0, []) := cd_row ac_265 rfl
theorem cd_265_56 : cd 265 56 = some (8, 59, 2, 0, 1, []) := cd_row ac_265 rfl
theorem cd_265_59 : cd 265 59 = some (22, 62, 21, 0, 0, []) := cd_row ac_265 rfl
theorem cd_265_62 : cd 265 62 = some (0, 63, 0, 0, -1, []) := cd_row ac_265 rfl
theorem cd_265_63 : cd 265 63 = some (40, 64, 0, 0, 0, []) := cd_row ac_265 rfl
/-- a call whose contract asks for the tenth and tells of it -/
theorem X_ten {β d M : Nat} {c : KT} {vs : List AV} {h : AH} {lo hi : Int} (hc : KOK JB (W0 β) M c) (hd : c.2.2.2.2.2.2.2 ≤ d + 1) (ha : c.2.1 = some (.inr (false, lo, hi))) (hx : exB c.2.2.1 = true) (hp : c.2.2.2.2.1 = [(77, 16, .inr (false, 0, 9999))]) (hq : c.2.2.2.2.2.1 = [(77, 16, .inr (false, 0, 9999))]) (hs : sa_S c.1 vs) (hJ : k_H JB h) (hW : W0 β h) (h16 : inRg (false, 0, 9999) (hV h 77 16)) : ∃ (r : Int) (h' : AH), ((lo ≤ r ∧ r ≤ hi) ∧ k_H JB h' ∧ W0 β h' ∧ inRg (false, 0, 9999) (hV h' 77 16) ∧ FL h h') ∧ ∀ Q : Option AV → AH → Prop, XC (d + 1) M vs h Q = Q (some (vI r)) h' := by
  have hk := hc (d + 1) vs h (fun r h' => ∃ x : Int, r = some (vI x) ∧ (lo ≤ x ∧ x ≤ hi) ∧ k_H JB h' ∧ W0 β h' ∧ inRg (false, 0, 9999) (hV h' 77 16) ∧ FL h h') hd hs hJ hW (by
    rw [hp]
    intro f hf
    rcases List.mem_cons.mp hf with rfl | hf
    · exact h16
    · cases hf) (fun r h' a1 a2 a3 a4 a5 => by
    rw [ha] at a1
    rw [hq] at a3
    obtain ⟨u, rfl, x, rfl, x1, x2⟩ := a1
    exact ⟨x, rfl, ⟨x1, x2⟩, a2, a5.1.2, a3 _ (List.mem_cons_self ..), FL_of hx a5⟩)
  obtain ⟨r, h', ⟨x, rfl, hx⟩, e⟩ := XC_det hk
  exact ⟨x, h', hx, e⟩
theorem aI {x : Int} (h1 : -2147483648 ≤ x) (h2 : x ≤ 2147483647) : sa_V (.inr (false, (-2147483648), 2147483647)) (vI x) := ⟨x, rfl, h1, h2⟩
def IPd (β : Nat) (h : AH) (r : Option AV) (h' : AH) : Prop := ∃ x : Int, r = some (vI x) ∧ k_H JB h' ∧ W0 (β + 1) h' ∧ inRg (false, 0, 9999) (hV h' 77 16) ∧ (0 ≤ x ∧ x ≤ 1) ∧ FL h h'
set_option maxHeartbeats 4000000 in
theorem ip_w {β d : Nat} {h : AH} {x : Nat} (hJ : k_H JB h) (hW : W0 β h) (hβ : β < 20000) (h16 : inRg (false, 0, 9999) (hV h 77 16)) (hx : x + 5 < 3012) : XC (d + 12) 264 [vR 76, vI (x : Int)] h (IPd β h) := by
  have o1 := (AO_J hJ).1
  have o2 := (j79_1 hJ).1
  have o3 := (j79_1 hJ).2
  have b0 : (0 : Int) ≤ (x : Int) ∧ (x : Int) < 3012 := by omega
  obtain ⟨v0, u0, l0⟩ := tF_v hJ (i := x) (by omega)
  obtain ⟨v1, u1, l1⟩ := tF_v hJ (i := x + 1) (by omega)
  obtain ⟨v2, u2, l2⟩ := tF_v hJ (i := x + 2) (by omega)
  obtain ⟨v3, u3, l3⟩ := tF_v hJ (i := x + 3) (by omega)
  obtain ⟨v4, u4, l4⟩ := tF_v hJ (i := x + 4) (by omega)
  obtain ⟨v5, u5, l5⟩ := tF_v hJ (i := x + 5) (by omega)
  have a1 : w32 ((x : Int) + 1) = ((x + 1 : Nat) : Int) := ad_1 hx
  have b1 : (0 : Int) ≤ ((x + 1 : Nat) : Int) ∧ ((x + 1 : Nat) : Int) < 3012 := bd_1 hx
  have a2 : w32 ((x : Int) + 2) = ((x + 2 : Nat) : Int) := ad_2 hx
  have b2 : (0 : Int) ≤ ((x + 2 : Nat) : Int) ∧ ((x + 2 : Nat) : Int) < 3012 := bd_2 hx
  have a3 : w32 ((x : Int) + 3) = ((x + 3 : Nat) : Int) := ad_3 hx
  have b3 : (0 : Int) ≤ ((x + 3 : Nat) : Int) ∧ ((x + 3 : Nat) : Int) < 3012 := bd_3 hx
  have a4 : w32 ((x : Int) + 4) = ((x + 4 : Nat) : Int) := ad_4 hx
  have b4 : (0 : Int) ≤ ((x + 4 : Nat) : Int) ∧ ((x + 4 : Nat) : Int) < 3012 := bd_4 hx
  have a5 : w32 ((x : Int) + 5) = ((x + 5 : Nat) : Int) := ad_5 hx
  have b5 : (0 : Int) ≤ ((x + 5 : Nat) : Int) ∧ ((x + 5 : Nat) : Int) < 3012 := bd_5 hx
  have W1 : ∀ {h' : AH}, W0 β h' → W0 (β + 1) h' := fun z => W0_le (Nat.le_succ β) z
  refine XC_of (Nat.le_of_ble_eq_true rfl) ?_
  show XP (d + 11) 264 0 [some (vR 76), some (vI (x : Int)), none] [] h _
  have V : ∀ {P : Nat → Prop}, (tF h x = 5 → P 56) → (tF h x = 6 → P 102) → (tF h x = 7 → P 108) → (tF h x = 8 → P 114) → (tF h x = 9 → P 120) → (tF h x = 10 → P 126) → (tF h x = 11 → P 132) → P 145 → P (swF (tF h x) 145 [(5, 56), (6, 102), (7, 108), (8, 114), (9, 120), (10, 126), (11, 132)]) := by
    intro P p1 p2 p3 p4 p5 p6 p7 p8
    unfold swF
    split
    · exact p1 (by assumption)
    unfold swF
    split
    · exact p2 (by assumption)
    unfold swF
    split
    · exact p3 (by assumption)
    unfold swF
    split
    · exact p4 (by assumption)
    unfold swF
    split
    · exact p5 (by assumption)
    unfold swF
    split
    · exact p6 (by assumption)
    unfold swF
    split
    · exact p7 (by assumption)
    exact p8
  have P : ∀ pc : Nat, swF (tF h x) 145 [(5, 56), (6, 102), (7, 108), (8, 114), (9, 120), (10, 126), (11, 132)] = pc → XP (d + 11) 264 pc [some (vR 76), some (vI (x : Int)), some (vI (tF h (x + 1)))] [] h (IPd β h) → XP (d + 11) 264 0 [some (vR 76), some (vI (x : Int)), none] [] h (IPd β h) := by
    intro pc e hp
    rw [← e] at hp
    have o15 : XP (d + 11) 264 15 [some (vR 76), some (vI (x : Int)), some (vI (tF h (x + 1)))] [vI (tF h x)] h (IPd β h) := XP_step cd_264_15 hp
    refine xpk_sound (stops := [15]) (n := 30) ?_
    simp only [sk_0, sk_1, sk_2, sk_3, sk_4, sk_5, sk_6, sk_7, sk_8, sk_iadd, sk_isub, sk_imul, sk_iand, sk_ior, sk_ixor, sk_ishl, sk_ishr, sk_iushr, sk_idiv, sk_irem, sk_ineg, sk_ladd, sk_lsub, sk_lmul, sk_land, sk_lor, sk_ldiv, sk_lrem, sk_lneg, sk_lshl, sk_lshr, sk_i2l, sk_l2i, sk_lcmp, sk_dupI, sk_dupR, sk_dup2L, sk_dup2I, sk_popI, sk_ifeq, sk_ifne, sk_iflt, sk_ifge, sk_ifgt, sk_ifle, sk_iceq, sk_icne, sk_iclt, sk_icge, sk_icgt, sk_icle, sk_goto, sk_getf, sk_putf, sk_gets, sk_iald, sk_lald, sk_bald, sk_aald, sk_iast, sk_last, sk_bast, sk_aast, sk_alen, sk_newa, sk_newt, sk_new, sk_cs1, sk_cs2, sk_cs3, sk_cs4, sk_cs5, sk_cs6, sk_cv1, sk_cv2, sk_cv3, sk_cv4, sk_cv5, sk_cv6, sk_ci1, sk_ci2, sk_ci3, sk_ret0, sk_retI, sk_retL, sk_retR, sk_sw, sk_oin, sk_max, sk_min, sk_abs, lI_0, lI_s, lL_0, lL_s, lR_0, lR_s, vIo_e, vLo_e, vOo_e, stW_I, stW_L, stW_R, stW_0, stW_z, okSt_0, okSt_s, hV_eq, hK_eq, okF_0, okF_1, okF_3, is01_0, is01_1, is01_i, Int.toNat_natCast, Int.reduceEq, Int.reduceLE, Int.reduceLT, Int.reduceNeg, Nat.reduceLT, not_true_eq_false, not_false_eq_true, reduceIte, Option.toList, List.cons_append, List.nil_append, List.set_cons_zero, List.set_cons_succ, List.not_mem_nil, List.mem_cons, if_false, if_true, ite_true, ite_false, and_self, and_true, true_and, Nat.reduceAdd, Nat.reduceLeDiff, Nat.reduceEqDiff, Nat.zero_add, Nat.le_refl, Nat.zero_le, or_false, false_or, Int.reduceToNat, or_true, true_or, eq_self, and_false, false_and, inR_d, nc_4, nc_5, nc_6, nc_7, nc_8, nc_16, nc_18, nc_20, nc_24, nc_32, nc_40, nc_64, nc_104, nc_120, nc_160, nc_256, nc_300, nc_330, nc_390, nc_1200, nc_1260, nc_3012, nc_9834, okSt_1i, okSt_1r, okSt_1n, xpk_succ cd_264_0, xpk_succ cd_264_1, xpk_succ cd_264_4, xpk_succ cd_264_5, xpk_succ cd_264_6, xpk_succ cd_264_7, xpk_succ cd_264_8, xpk_succ cd_264_9, xpk_succ cd_264_10, xpk_succ cd_264_13, xpk_succ cd_264_14, o1, o2, o3, v0, v1, v2, v3, v4, v5, a1, a2, a3, a4, a5, b0, b1, b2, b3, b4, b5]
    exact o15
  refine P _ rfl ?_
  refine V (P := fun pc => XP (d + 11) 264 pc [some (vR 76), some (vI (x : Int)), some (vI (tF h (x + 1)))] [] h (IPd β h)) (fun _ => ?_) (fun _ => ?_) (fun _ => ?_) (fun _ => ?_) (fun _ => ?_) (fun _ => ?_) (fun _ => ?_) ?_
  · obtain ⟨r, h', ⟨hr, J', W', g', fl⟩, e⟩ := X_ten (d := d + 10) (okM189 (β := β)) (Nat.le_add_left 2 (d + 9)) rfl (by decide +kernel) rfl rfl ⟨_, _, rfl, rfl, _, _, rfl, aI u1 l1, _, _, rfl, aI u2 l2, _, _, rfl, aI u3 l3, _, _, rfl, aI u4 l4, _, _, rfl, aI u5 l5, rfl⟩ hJ hW h16
    have y0 : IPd β h (some (vI 0)) h' := ⟨0, rfl, J', W1 W', g', ⟨by decide, by decide⟩, fl⟩
    have y1 : IPd β h (some (vI 1)) h' := ⟨1, rfl, J', W1 W', g', ⟨by decide, by decide⟩, fl⟩
    by_cases z : r < 0
    · refine xpk_sound (stops := []) (n := 50) ?_
      simp only [sk_0, sk_1, sk_2, sk_3, sk_4, sk_5, sk_6, sk_7, sk_8, sk_iadd, sk_isub, sk_imul, sk_iand, sk_ior, sk_ixor, sk_ishl, sk_ishr, sk_iushr, sk_idiv, sk_irem, sk_ineg, sk_ladd, sk_lsub, sk_lmul, sk_land, sk_lor, sk_ldiv, sk_lrem, sk_lneg, sk_lshl, sk_lshr, sk_i2l, sk_l2i, sk_lcmp, sk_dupI, sk_dupR, sk_dup2L, sk_dup2I, sk_popI, sk_ifeq, sk_ifne, sk_iflt, sk_ifge, sk_ifgt, sk_ifle, sk_iceq, sk_icne, sk_iclt, sk_icge, sk_icgt, sk_icle, sk_goto, sk_getf, sk_putf, sk_gets, sk_iald, sk_lald, sk_bald, sk_aald, sk_iast, sk_last, sk_bast, sk_aast, sk_alen, sk_newa, sk_newt, sk_new, sk_cs1, sk_cs2, sk_cs3, sk_cs4, sk_cs5, sk_cs6, sk_cv1, sk_cv2, sk_cv3, sk_cv4, sk_cv5, sk_cv6, sk_ci1, sk_ci2, sk_ci3, sk_ret0, sk_retI, sk_retL, sk_retR, sk_sw, sk_oin, sk_max, sk_min, sk_abs, lI_0, lI_s, lL_0, lL_s, lR_0, lR_s, vIo_e, vLo_e, vOo_e, stW_I, stW_L, stW_R, stW_0, stW_z, okSt_0, okSt_s, hV_eq, hK_eq, okF_0, okF_1, okF_3, is01_0, is01_1, is01_i, Int.toNat_natCast, Int.reduceEq, Int.reduceLE, Int.reduceLT, Int.reduceNeg, Nat.reduceLT, not_true_eq_false, not_false_eq_true, reduceIte, Option.toList, List.cons_append, List.nil_append, List.set_cons_zero, List.set_cons_succ, List.not_mem_nil, List.mem_cons, if_false, if_true, ite_true, ite_false, and_self, and_true, true_and, Nat.reduceAdd, Nat.reduceLeDiff, Nat.reduceEqDiff, Nat.zero_add, Nat.le_refl, Nat.zero_le, or_false, false_or, Int.reduceToNat, or_true, true_or, eq_self, and_false, false_and, inR_d, nc_4, nc_5, nc_6, nc_7, nc_8, nc_16, nc_18, nc_20, nc_24, nc_32, nc_40, nc_64, nc_104, nc_120, nc_160, nc_256, nc_300, nc_330, nc_390, nc_1200, nc_1260, nc_3012, nc_9834, okSt_1i, okSt_1r, okSt_1n, xpk_succ cd_264_56, xpk_succ cd_264_57, xpk_succ cd_264_58, xpk_succ cd_264_59, xpk_succ cd_264_62, xpk_succ cd_264_63, xpk_succ cd_264_64, xpk_succ cd_264_65, xpk_succ cd_264_66, xpk_succ cd_264_67, xpk_succ cd_264_70, xpk_succ cd_264_71, xpk_succ cd_264_72, xpk_succ cd_264_73, xpk_succ cd_264_74, xpk_succ cd_264_75, xpk_succ cd_264_78, xpk_succ cd_264_79, xpk_succ cd_264_80, xpk_succ cd_264_81, xpk_succ cd_264_82, xpk_succ cd_264_83, xpk_succ cd_264_86, xpk_succ cd_264_87, xpk_succ cd_264_88, xpk_succ cd_264_89, xpk_succ cd_264_90, xpk_succ cd_264_93, xpk_succ cd_264_96, xpk_succ cd_264_97, xpk_succ cd_264_100, xpk_succ cd_264_101, o1, o2, o3, v0, v1, v2, v3, v4, v5, a1, a2, a3, a4, a5, b0, b1, b2, b3, b4, b5, e, z]
      exact y0
    · refine xpk_sound (stops := []) (n := 50) ?_
      simp only [sk_0, sk_1, sk_2, sk_3, sk_4, sk_5, sk_6, sk_7, sk_8, sk_iadd, sk_isub, sk_imul, sk_iand, sk_ior, sk_ixor, sk_ishl, sk_ishr, sk_iushr, sk_idiv, sk_irem, sk_ineg, sk_ladd, sk_lsub, sk_lmul, sk_land, sk_lor, sk_ldiv, sk_lrem, sk_lneg, sk_lshl, sk_lshr, sk_i2l, sk_l2i, sk_lcmp, sk_dupI, sk_dupR, sk_dup2L, sk_dup2I, sk_popI, sk_ifeq, sk_ifne, sk_iflt, sk_ifge, sk_ifgt, sk_ifle, sk_iceq, sk_icne, sk_iclt, sk_icge, sk_icgt, sk_icle, sk_goto, sk_getf, sk_putf, sk_gets, sk_iald, sk_lald, sk_bald, sk_aald, sk_iast, sk_last, sk_bast, sk_aast, sk_alen, sk_newa, sk_newt, sk_new, sk_cs1, sk_cs2, sk_cs3, sk_cs4, sk_cs5, sk_cs6, sk_cv1, sk_cv2, sk_cv3, sk_cv4, sk_cv5, sk_cv6, sk_ci1, sk_ci2, sk_ci3, sk_ret0, sk_retI, sk_retL, sk_retR, sk_sw, sk_oin, sk_max, sk_min, sk_abs, lI_0, lI_s, lL_0, lL_s, lR_0, lR_s, vIo_e, vLo_e, vOo_e, stW_I, stW_L, stW_R, stW_0, stW_z, okSt_0, okSt_s, hV_eq, hK_eq, okF_0, okF_1, okF_3, is01_0, is01_1, is01_i, Int.toNat_natCast, Int.reduceEq, Int.reduceLE, Int.reduceLT, Int.reduceNeg, Nat.reduceLT, not_true_eq_false, not_false_eq_true, reduceIte, Option.toList, List.cons_append, List.nil_append, List.set_cons_zero, List.set_cons_succ, List.not_mem_nil, List.mem_cons, if_false, if_true, ite_true, ite_false, and_self, and_true, true_and, Nat.reduceAdd, Nat.reduceLeDiff, Nat.reduceEqDiff, Nat.zero_add, Nat.le_refl, Nat.zero_le, or_false, false_or, Int.reduceToNat, or_true, true_or, eq_self, and_false, false_and, inR_d, nc_4, nc_5, nc_6, nc_7, nc_8, nc_16, nc_18, nc_20, nc_24, nc_32, nc_40, nc_64, nc_104, nc_120, nc_160, nc_256, nc_300, nc_330, nc_390, nc_1200, nc_1260, nc_3012, nc_9834, okSt_1i, okSt_1r, okSt_1n, xpk_succ cd_264_56, xpk_succ cd_264_57, xpk_succ cd_264_58, xpk_succ cd_264_59, xpk_succ cd_264_62, xpk_succ cd_264_63, xpk_succ cd_264_64, xpk_succ cd_264_65, xpk_succ cd_264_66, xpk_succ cd_264_67, xpk_succ cd_264_70, xpk_succ cd_264_71, xpk_succ cd_264_72, xpk_succ cd_264_73, xpk_succ cd_264_74, xpk_succ cd_264_75, xpk_succ cd_264_78, xpk_succ cd_264_79, xpk_succ cd_264_80, xpk_succ cd_264_81, xpk_succ cd_264_82, xpk_succ cd_264_83, xpk_succ cd_264_86, xpk_succ cd_264_87, xpk_succ cd_264_88, xpk_succ cd_264_89, xpk_succ cd_264_90, xpk_succ cd_264_93, xpk_succ cd_264_96, xpk_succ cd_264_97, xpk_succ cd_264_100, xpk_succ cd_264_101, o1, o2, o3, v0, v1, v2, v3, v4, v5, a1, a2, a3, a4, a5, b0, b1, b2, b3, b4, b5, e, z]
      exact y1
  · obtain ⟨r, h', ⟨hr, J', W', g', fl⟩, e⟩ := X_ten (d := d + 10) (okM256 (β := β)) (Nat.le_add_left 10 (d + 1)) rfl (by decide +kernel) rfl rfl ⟨_, _, rfl, rfl, _, _, rfl, aI u1 l1, rfl⟩ hJ hW h16
    have y : IPd β h (some (vI r)) h' := ⟨r, rfl, J', W1 W', g', ⟨hr.1, hr.2⟩, fl⟩
    have i01 : is01 r = true := is_01 hr.1 hr.2
    refine xpk_sound (stops := []) (n := 10) ?_
    simp only [sk_0, sk_1, sk_2, sk_3, sk_4, sk_5, sk_6, sk_7, sk_8, sk_iadd, sk_isub, sk_imul, sk_iand, sk_ior, sk_ixor, sk_ishl, sk_ishr, sk_iushr, sk_idiv, sk_irem, sk_ineg, sk_ladd, sk_lsub, sk_lmul, sk_land, sk_lor, sk_ldiv, sk_lrem, sk_lneg, sk_lshl, sk_lshr, sk_i2l, sk_l2i, sk_lcmp, sk_dupI, sk_dupR, sk_dup2L, sk_dup2I, sk_popI, sk_ifeq, sk_ifne, sk_iflt, sk_ifge, sk_ifgt, sk_ifle, sk_iceq, sk_icne, sk_iclt, sk_icge, sk_icgt, sk_icle, sk_goto, sk_getf, sk_putf, sk_gets, sk_iald, sk_lald, sk_bald, sk_aald, sk_iast, sk_last, sk_bast, sk_aast, sk_alen, sk_newa, sk_newt, sk_new, sk_cs1, sk_cs2, sk_cs3, sk_cs4, sk_cs5, sk_cs6, sk_cv1, sk_cv2, sk_cv3, sk_cv4, sk_cv5, sk_cv6, sk_ci1, sk_ci2, sk_ci3, sk_ret0, sk_retI, sk_retL, sk_retR, sk_sw, sk_oin, sk_max, sk_min, sk_abs, lI_0, lI_s, lL_0, lL_s, lR_0, lR_s, vIo_e, vLo_e, vOo_e, stW_I, stW_L, stW_R, stW_0, stW_z, okSt_0, okSt_s, hV_eq, hK_eq, okF_0, okF_1, okF_3, is01_0, is01_1, is01_i, Int.toNat_natCast, Int.reduceEq, Int.reduceLE, Int.reduceLT, Int.reduceNeg, Nat.reduceLT, not_true_eq_false, not_false_eq_true, reduceIte, Option.toList, List.cons_append, List.nil_append, List.set_cons_zero, List.set_cons_succ, List.not_mem_nil, List.mem_cons, if_false, if_true, ite_true, ite_false, and_self, and_true, true_and, Nat.reduceAdd, Nat.reduceLeDiff, Nat.reduceEqDiff, Nat.zero_add, Nat.le_refl, Nat.zero_le, or_false, false_or, Int.reduceToNat, or_true, true_or, eq_self, and_false, false_and, inR_d, nc_4, nc_5, nc_6, nc_7, nc_8, nc_16, nc_18, nc_20, nc_24, nc_32, nc_40, nc_64, nc_104, nc_120, nc_160, nc_256, nc_300, nc_330, nc_390, nc_1200, nc_1260, nc_3012, nc_9834, okSt_1i, okSt_1r, okSt_1n, xpk_succ cd_264_102, xpk_succ cd_264_103, xpk_succ cd_264_104, xpk_succ cd_264_107, o1, e, i01]
    exact y
  · obtain ⟨r, h', ⟨hr, J', W', g', fl⟩, e⟩ := X_ten (d := d + 10) (okM258 (β := β)) (Nat.le_add_left 11 (d + 0)) rfl (by decide +kernel) rfl rfl ⟨_, _, rfl, rfl, _, _, rfl, aI u1 l1, rfl⟩ hJ hW h16
    have y : IPd β h (some (vI r)) h' := ⟨r, rfl, J', W1 W', g', ⟨hr.1, hr.2⟩, fl⟩
    have i01 : is01 r = true := is_01 hr.1 hr.2
    refine xpk_sound (stops := []) (n := 10) ?_
    simp only [sk_0, sk_1, sk_2, sk_3, sk_4, sk_5, sk_6, sk_7, sk_8, sk_iadd, sk_isub, sk_imul, sk_iand, sk_ior, sk_ixor, sk_ishl, sk_ishr, sk_iushr, sk_idiv, sk_irem, sk_ineg, sk_ladd, sk_lsub, sk_lmul, sk_land, sk_lor, sk_ldiv, sk_lrem, sk_lneg, sk_lshl, sk_lshr, sk_i2l, sk_l2i, sk_lcmp, sk_dupI, sk_dupR, sk_dup2L, sk_dup2I, sk_popI, sk_ifeq, sk_ifne, sk_iflt, sk_ifge, sk_ifgt, sk_ifle, sk_iceq, sk_icne, sk_iclt, sk_icge, sk_icgt, sk_icle, sk_goto, sk_getf, sk_putf, sk_gets, sk_iald, sk_lald, sk_bald, sk_aald, sk_iast, sk_last, sk_bast, sk_aast, sk_alen, sk_newa, sk_newt, sk_new, sk_cs1, sk_cs2, sk_cs3, sk_cs4, sk_cs5, sk_cs6, sk_cv1, sk_cv2, sk_cv3, sk_cv4, sk_cv5, sk_cv6, sk_ci1, sk_ci2, sk_ci3, sk_ret0, sk_retI, sk_retL, sk_retR, sk_sw, sk_oin, sk_max, sk_min, sk_abs, lI_0, lI_s, lL_0, lL_s, lR_0, lR_s, vIo_e, vLo_e, vOo_e, stW_I, stW_L, stW_R, stW_0, stW_z, okSt_0, okSt_s, hV_eq, hK_eq, okF_0, okF_1, okF_3, is01_0, is01_1, is01_i, Int.toNat_natCast, Int.reduceEq, Int.reduceLE, Int.reduceLT, Int.reduceNeg, Nat.reduceLT, not_true_eq_false, not_false_eq_true, reduceIte, Option.toList, List.cons_append, List.nil_append, List.set_cons_zero, List.set_cons_succ, List.not_mem_nil, List.mem_cons, if_false, if_true, ite_true, ite_false, and_self, and_true, true_and, Nat.reduceAdd, Nat.reduceLeDiff, Nat.reduceEqDiff, Nat.zero_add, Nat.le_refl, Nat.zero_le, or_false, false_or, Int.reduceToNat, or_true, true_or, eq_self, and_false, false_and, inR_d, nc_4, nc_5, nc_6, nc_7, nc_8, nc_16, nc_18, nc_20, nc_24, nc_32, nc_40, nc_64, nc_104, nc_120, nc_160, nc_256, nc_300, nc_330, nc_390, nc_1200, nc_1260, nc_3012, nc_9834, okSt_1i, okSt_1r, okSt_1n, xpk_succ cd_264_108, xpk_succ cd_264_109, xpk_succ cd_264_110, xpk_succ cd_264_113, o1, e, i01]
    exact y
  · obtain ⟨r, h', ⟨hr, J', W', g', fl⟩, e⟩ := X_ten (d := d + 10) (okM260 (β := β)) (Nat.le_add_left 5 (d + 6)) rfl (by decide +kernel) rfl rfl ⟨_, _, rfl, rfl, _, _, rfl, aI u1 l1, rfl⟩ hJ hW h16
    have y : IPd β h (some (vI r)) h' := ⟨r, rfl, J', W1 W', g', ⟨hr.1, hr.2⟩, fl⟩
    have i01 : is01 r = true := is_01 hr.1 hr.2
    refine xpk_sound (stops := []) (n := 10) ?_
    simp only [sk_0, sk_1, sk_2, sk_3, sk_4, sk_5, sk_6, sk_7, sk_8, sk_iadd, sk_isub, sk_imul, sk_iand, sk_ior, sk_ixor, sk_ishl, sk_ishr, sk_iushr, sk_idiv, sk_irem, sk_ineg, sk_ladd, sk_lsub, sk_lmul, sk_land, sk_lor, sk_ldiv, sk_lrem, sk_lneg, sk_lshl, sk_lshr, sk_i2l, sk_l2i, sk_lcmp, sk_dupI, sk_dupR, sk_dup2L, sk_dup2I, sk_popI, sk_ifeq, sk_ifne, sk_iflt, sk_ifge, sk_ifgt, sk_ifle, sk_iceq, sk_icne, sk_iclt, sk_icge, sk_icgt, sk_icle, sk_goto, sk_getf, sk_putf, sk_gets, sk_iald, sk_lald, sk_bald, sk_aald, sk_iast, sk_last, sk_bast, sk_aast, sk_alen, sk_newa, sk_newt, sk_new, sk_cs1, sk_cs2, sk_cs3, sk_cs4, sk_cs5, sk_cs6, sk_cv1, sk_cv2, sk_cv3, sk_cv4, sk_cv5, sk_cv6, sk_ci1, sk_ci2, sk_ci3, sk_ret0, sk_retI, sk_retL, sk_retR, sk_sw, sk_oin, sk_max, sk_min, sk_abs, lI_0, lI_s, lL_0, lL_s, lR_0, lR_s, vIo_e, vLo_e, vOo_e, stW_I, stW_L, stW_R, stW_0, stW_z, okSt_0, okSt_s, hV_eq, hK_eq, okF_0, okF_1, okF_3, is01_0, is01_1, is01_i, Int.toNat_natCast, Int.reduceEq, Int.reduceLE, Int.reduceLT, Int.reduceNeg, Nat.reduceLT, not_true_eq_false, not_false_eq_true, reduceIte, Option.toList, List.cons_append, List.nil_append, List.set_cons_zero, List.set_cons_succ, List.not_mem_nil, List.mem_cons, if_false, if_true, ite_true, ite_false, and_self, and_true, true_and, Nat.reduceAdd, Nat.reduceLeDiff, Nat.reduceEqDiff, Nat.zero_add, Nat.le_refl, Nat.zero_le, or_false, false_or, Int.reduceToNat, or_true, true_or, eq_self, and_false, false_and, inR_d, nc_4, nc_5, nc_6, nc_7, nc_8, nc_16, nc_18, nc_20, nc_24, nc_32, nc_40, nc_64, nc_104, nc_120, nc_160, nc_256, nc_300, nc_330, nc_390, nc_1200, nc_1260, nc_3012, nc_9834, okSt_1i, okSt_1r, okSt_1n, xpk_succ cd_264_114, xpk_succ cd_264_115, xpk_succ cd_264_116, xpk_succ cd_264_119, o1, e, i01]
    exact y
  · obtain ⟨r, h', ⟨hr, J', W', g', fl⟩, e⟩ := X_ten (d := d + 10) (okM261 (β := β)) (Nat.le_add_left 5 (d + 6)) rfl (by decide +kernel) rfl rfl ⟨_, _, rfl, rfl, _, _, rfl, aI u1 l1, rfl⟩ hJ hW h16
    have y : IPd β h (some (vI r)) h' := ⟨r, rfl, J', W1 W', g', ⟨hr.1, hr.2⟩, fl⟩
    have i01 : is01 r = true := is_01 hr.1 hr.2
    refine xpk_sound (stops := []) (n := 10) ?_
    simp only [sk_0, sk_1, sk_2, sk_3, sk_4, sk_5, sk_6, sk_7, sk_8, sk_iadd, sk_isub, sk_imul, sk_iand, sk_ior, sk_ixor, sk_ishl, sk_ishr, sk_iushr, sk_idiv, sk_irem, sk_ineg, sk_ladd, sk_lsub, sk_lmul, sk_land, sk_lor, sk_ldiv, sk_lrem, sk_lneg, sk_lshl, sk_lshr, sk_i2l, sk_l2i, sk_lcmp, sk_dupI, sk_dupR, sk_dup2L, sk_dup2I, sk_popI, sk_ifeq, sk_ifne, sk_iflt, sk_ifge, sk_ifgt, sk_ifle, sk_iceq, sk_icne, sk_iclt, sk_icge, sk_icgt, sk_icle, sk_goto, sk_getf, sk_putf, sk_gets, sk_iald, sk_lald, sk_bald, sk_aald, sk_iast, sk_last, sk_bast, sk_aast, sk_alen, sk_newa, sk_newt, sk_new, sk_cs1, sk_cs2, sk_cs3, sk_cs4, sk_cs5, sk_cs6, sk_cv1, sk_cv2, sk_cv3, sk_cv4, sk_cv5, sk_cv6, sk_ci1, sk_ci2, sk_ci3, sk_ret0, sk_retI, sk_retL, sk_retR, sk_sw, sk_oin, sk_max, sk_min, sk_abs, lI_0, lI_s, lL_0, lL_s, lR_0, lR_s, vIo_e, vLo_e, vOo_e, stW_I, stW_L, stW_R, stW_0, stW_z, okSt_0, okSt_s, hV_eq, hK_eq, okF_0, okF_1, okF_3, is01_0, is01_1, is01_i, Int.toNat_natCast, Int.reduceEq, Int.reduceLE, Int.reduceLT, Int.reduceNeg, Nat.reduceLT, not_true_eq_false, not_false_eq_true, reduceIte, Option.toList, List.cons_append, List.nil_append, List.set_cons_zero, List.set_cons_succ, List.not_mem_nil, List.mem_cons, if_false, if_true, ite_true, ite_false, and_self, and_true, true_and, Nat.reduceAdd, Nat.reduceLeDiff, Nat.reduceEqDiff, Nat.zero_add, Nat.le_refl, Nat.zero_le, or_false, false_or, Int.reduceToNat, or_true, true_or, eq_self, and_false, false_and, inR_d, nc_4, nc_5, nc_6, nc_7, nc_8, nc_16, nc_18, nc_20, nc_24, nc_32, nc_40, nc_64, nc_104, nc_120, nc_160, nc_256, nc_300, nc_330, nc_390, nc_1200, nc_1260, nc_3012, nc_9834, okSt_1i, okSt_1r, okSt_1n, xpk_succ cd_264_120, xpk_succ cd_264_121, xpk_succ cd_264_122, xpk_succ cd_264_125, o1, e, i01]
    exact y
  · obtain ⟨r, h', ⟨hr, J', W', g', fl⟩, e⟩ := X_ten (d := d + 10) (okM262 (β := β)) (Nat.le_add_left 5 (d + 6)) rfl (by decide +kernel) rfl rfl ⟨_, _, rfl, rfl, _, _, rfl, aI u1 l1, rfl⟩ hJ hW h16
    have y : IPd β h (some (vI r)) h' := ⟨r, rfl, J', W1 W', g', ⟨hr.1, hr.2⟩, fl⟩
    have i01 : is01 r = true := is_01 hr.1 hr.2
    refine xpk_sound (stops := []) (n := 10) ?_
    simp only [sk_0, sk_1, sk_2, sk_3, sk_4, sk_5, sk_6, sk_7, sk_8, sk_iadd, sk_isub, sk_imul, sk_iand, sk_ior, sk_ixor, sk_ishl, sk_ishr, sk_iushr, sk_idiv, sk_irem, sk_ineg, sk_ladd, sk_lsub, sk_lmul, sk_land, sk_lor, sk_ldiv, sk_lrem, sk_lneg, sk_lshl, sk_lshr, sk_i2l, sk_l2i, sk_lcmp, sk_dupI, sk_dupR, sk_dup2L, sk_dup2I, sk_popI, sk_ifeq, sk_ifne, sk_iflt, sk_ifge, sk_ifgt, sk_ifle, sk_iceq, sk_icne, sk_iclt, sk_icge, sk_icgt, sk_icle, sk_goto, sk_getf, sk_putf, sk_gets, sk_iald, sk_lald, sk_bald, sk_aald, sk_iast, sk_last, sk_bast, sk_aast, sk_alen, sk_newa, sk_newt, sk_new, sk_cs1, sk_cs2, sk_cs3, sk_cs4, sk_cs5, sk_cs6, sk_cv1, sk_cv2, sk_cv3, sk_cv4, sk_cv5, sk_cv6, sk_ci1, sk_ci2, sk_ci3, sk_ret0, sk_retI, sk_retL, sk_retR, sk_sw, sk_oin, sk_max, sk_min, sk_abs, lI_0, lI_s, lL_0, lL_s, lR_0, lR_s, vIo_e, vLo_e, vOo_e, stW_I, stW_L, stW_R, stW_0, stW_z, okSt_0, okSt_s, hV_eq, hK_eq, okF_0, okF_1, okF_3, is01_0, is01_1, is01_i, Int.toNat_natCast, Int.reduceEq, Int.reduceLE, Int.reduceLT, Int.reduceNeg, Nat.reduceLT, not_true_eq_false, not_false_eq_true, reduceIte, Option.toList, List.cons_append, List.nil_append, List.set_cons_zero, List.set_cons_succ, List.not_mem_nil, List.mem_cons, if_false, if_true, ite_true, ite_false, and_self, and_true, true_and, Nat.reduceAdd, Nat.reduceLeDiff, Nat.reduceEqDiff, Nat.zero_add, Nat.le_refl, Nat.zero_le, or_false, false_or, Int.reduceToNat, or_true, true_or, eq_self, and_false, false_and, inR_d, nc_4, nc_5, nc_6, nc_7, nc_8, nc_16, nc_18, nc_20, nc_24, nc_32, nc_40, nc_64, nc_104, nc_120, nc_160, nc_256, nc_300, nc_330, nc_390, nc_1200, nc_1260, nc_3012, nc_9834, okSt_1i, okSt_1r, okSt_1n, xpk_succ cd_264_126, xpk_succ cd_264_127, xpk_succ cd_264_128, xpk_succ cd_264_131, o1, e, i01]
    exact y
  · obtain ⟨r, h', ⟨J', W', g', hr, fl⟩, e⟩ := X_land (d := d + 5) hJ hW hβ h16
    have y0 : IPd β h (some (vI 0)) h' := ⟨0, rfl, J', W', g', ⟨by decide, by decide⟩, fl⟩
    have y1 : IPd β h (some (vI 1)) h' := ⟨1, rfl, J', W', g', ⟨by decide, by decide⟩, fl⟩
    by_cases z : r < 0
    · refine xpk_sound (stops := []) (n := 20) ?_
      simp only [sk_0, sk_1, sk_2, sk_3, sk_4, sk_5, sk_6, sk_7, sk_8, sk_iadd, sk_isub, sk_imul, sk_iand, sk_ior, sk_ixor, sk_ishl, sk_ishr, sk_iushr, sk_idiv, sk_irem, sk_ineg, sk_ladd, sk_lsub, sk_lmul, sk_land, sk_lor, sk_ldiv, sk_lrem, sk_lneg, sk_lshl, sk_lshr, sk_i2l, sk_l2i, sk_lcmp, sk_dupI, sk_dupR, sk_dup2L, sk_dup2I, sk_popI, sk_ifeq, sk_ifne, sk_iflt, sk_ifge, sk_ifgt, sk_ifle, sk_iceq, sk_icne, sk_iclt, sk_icge, sk_icgt, sk_icle, sk_goto, sk_getf, sk_putf, sk_gets, sk_iald, sk_lald, sk_bald, sk_aald, sk_iast, sk_last, sk_bast, sk_aast, sk_alen, sk_newa, sk_newt, sk_new, sk_cs1, sk_cs2, sk_cs3, sk_cs4, sk_cs5, sk_cs6, sk_cv1, sk_cv2, sk_cv3, sk_cv4, sk_cv5, sk_cv6, sk_ci1, sk_ci2, sk_ci3, sk_ret0, sk_retI, sk_retL, sk_retR, sk_sw, sk_oin, sk_max, sk_min, sk_abs, lI_0, lI_s, lL_0, lL_s, lR_0, lR_s, vIo_e, vLo_e, vOo_e, stW_I, stW_L, stW_R, stW_0, stW_z, okSt_0, okSt_s, hV_eq, hK_eq, okF_0, okF_1, okF_3, is01_0, is01_1, is01_i, Int.toNat_natCast, Int.reduceEq, Int.reduceLE, Int.reduceLT, Int.reduceNeg, Nat.reduceLT, not_true_eq_false, not_false_eq_true, reduceIte, Option.toList, List.cons_append, List.nil_append, List.set_cons_zero, List.set_cons_succ, List.not_mem_nil, List.mem_cons, if_false, if_true, ite_true, ite_false, and_self, and_true, true_and, Nat.reduceAdd, Nat.reduceLeDiff, Nat.reduceEqDiff, Nat.zero_add, Nat.le_refl, Nat.zero_le, or_false, false_or, Int.reduceToNat, or_true, true_or, eq_self, and_false, false_and, inR_d, nc_4, nc_5, nc_6, nc_7, nc_8, nc_16, nc_18, nc_20, nc_24, nc_32, nc_40, nc_64, nc_104, nc_120, nc_160, nc_256, nc_300, nc_330, nc_390, nc_1200, nc_1260, nc_3012, nc_9834, okSt_1i, okSt_1r, okSt_1n, xpk_succ cd_264_132, xpk_succ cd_264_133, xpk_succ cd_264_136, xpk_succ cd_264_139, xpk_succ cd_264_140, xpk_succ cd_264_143, xpk_succ cd_264_144, o1, e, z]
      exact y0
    · refine xpk_sound (stops := []) (n := 20) ?_
      simp only [sk_0, sk_1, sk_2, sk_3, sk_4, sk_5, sk_6, sk_7, sk_8, sk_iadd, sk_isub, sk_imul, sk_iand, sk_ior, sk_ixor, sk_ishl, sk_ishr, sk_iushr, sk_idiv, sk_irem, sk_ineg, sk_ladd, sk_lsub, sk_lmul, sk_land, sk_lor, sk_ldiv, sk_lrem, sk_lneg, sk_lshl, sk_lshr, sk_i2l, sk_l2i, sk_lcmp, sk_dupI, sk_dupR, sk_dup2L, sk_dup2I, sk_popI, sk_ifeq, sk_ifne, sk_iflt, sk_ifge, sk_ifgt, sk_ifle, sk_iceq, sk_icne, sk_iclt, sk_icge, sk_icgt, sk_icle, sk_goto, sk_getf, sk_putf, sk_gets, sk_iald, sk_lald, sk_bald, sk_aald, sk_iast, sk_last, sk_bast, sk_aast, sk_alen, sk_newa, sk_newt, sk_new, sk_cs1, sk_cs2, sk_cs3, sk_cs4, sk_cs5, sk_cs6, sk_cv1, sk_cv2, sk_cv3, sk_cv4, sk_cv5, sk_cv6, sk_ci1, sk_ci2, sk_ci3, sk_ret0, sk_retI, sk_retL, sk_retR, sk_sw, sk_oin, sk_max, sk_min, sk_abs, lI_0, lI_s, lL_0, lL_s, lR_0, lR_s, vIo_e, vLo_e, vOo_e, stW_I, stW_L, stW_R, stW_0, stW_z, okSt_0, okSt_s, hV_eq, hK_eq, okF_0, okF_1, okF_3, is01_0, is01_1, is01_i, Int.toNat_natCast, Int.reduceEq, Int.reduceLE, Int.reduceLT, Int.reduceNeg, Nat.reduceLT, not_true_eq_false, not_false_eq_true, reduceIte, Option.toList, List.cons_append, List.nil_append, List.set_cons_zero, List.set_cons_succ, List.not_mem_nil, List.mem_cons, if_false, if_true, ite_true, ite_false, and_self, and_true, true_and, Nat.reduceAdd, Nat.reduceLeDiff, Nat.reduceEqDiff, Nat.zero_add, Nat.le_refl, Nat.zero_le, or_false, false_or, Int.reduceToNat, or_true, true_or, eq_self, and_false, false_and, inR_d, nc_4, nc_5, nc_6, nc_7, nc_8, nc_16, nc_18, nc_20, nc_24, nc_32, nc_40, nc_64, nc_104, nc_120, nc_160, nc_256, nc_300, nc_330, nc_390, nc_1200, nc_1260, nc_3012, nc_9834, okSt_1i, okSt_1r, okSt_1n, xpk_succ cd_264_132, xpk_succ cd_264_133, xpk_succ cd_264_136, xpk_succ cd_264_139, xpk_succ cd_264_140, xpk_succ cd_264_143, xpk_succ cd_264_144, o1, e, z]
      exact y1
  · have y : IPd β h (some (vI 1)) h := ⟨1, rfl, hJ, W1 hW, h16, ⟨by decide, by decide⟩, FL_r h⟩
    refine xpk_sound (stops := []) (n := 10) ?_
    simp only [sk_0, sk_1, sk_2, sk_3, sk_4, sk_5, sk_6, sk_7, sk_8, sk_iadd, sk_isub, sk_imul, sk_iand, sk_ior, sk_ixor, sk_ishl, sk_ishr, sk_iushr, sk_idiv, sk_irem, sk_ineg, sk_ladd, sk_lsub, sk_lmul, sk_land, sk_lor, sk_ldiv, sk_lrem, sk_lneg, sk_lshl, sk_lshr, sk_i2l, sk_l2i, sk_lcmp, sk_dupI, sk_dupR, sk_dup2L, sk_dup2I, sk_popI, sk_ifeq, sk_ifne, sk_iflt, sk_ifge, sk_ifgt, sk_ifle, sk_iceq, sk_icne, sk_iclt, sk_icge, sk_icgt, sk_icle, sk_goto, sk_getf, sk_putf, sk_gets, sk_iald, sk_lald, sk_bald, sk_aald, sk_iast, sk_last, sk_bast, sk_aast, sk_alen, sk_newa, sk_newt, sk_new, sk_cs1, sk_cs2, sk_cs3, sk_cs4, sk_cs5, sk_cs6, sk_cv1, sk_cv2, sk_cv3, sk_cv4, sk_cv5, sk_cv6, sk_ci1, sk_ci2, sk_ci3, sk_ret0, sk_retI, sk_retL, sk_retR, sk_sw, sk_oin, sk_max, sk_min, sk_abs, lI_0, lI_s, lL_0, lL_s, lR_0, lR_s, vIo_e, vLo_e, vOo_e, stW_I, stW_L, stW_R, stW_0, stW_z, okSt_0, okSt_s, hV_eq, hK_eq, okF_0, okF_1, okF_3, is01_0, is01_1, is01_i, Int.toNat_natCast, Int.reduceEq, Int.reduceLE, Int.reduceLT, Int.reduceNeg, Nat.reduceLT, not_true_eq_false, not_false_eq_true, reduceIte, Option.toList, List.cons_append, List.nil_append, List.set_cons_zero, List.set_cons_succ, List.not_mem_nil, List.mem_cons, if_false, if_true, ite_true, ite_false, and_self, and_true, true_and, Nat.reduceAdd, Nat.reduceLeDiff, Nat.reduceEqDiff, Nat.zero_add, Nat.le_refl, Nat.zero_le, or_false, false_or, Int.reduceToNat, or_true, true_or, eq_self, and_false, false_and, inR_d, nc_4, nc_5, nc_6, nc_7, nc_8, nc_16, nc_18, nc_20, nc_24, nc_32, nc_40, nc_64, nc_104, nc_120, nc_160, nc_256, nc_300, nc_330, nc_390, nc_1200, nc_1260, nc_3012, nc_9834, okSt_1i, okSt_1r, okSt_1n, xpk_succ cd_264_145, xpk_succ cd_264_146]
    exact y

def PLd (β : Nat) (h : AH) (r : Option AV) (h' : AH) : Prop := ∃ x : Int, r = some (vI x) ∧ k_H JB h' ∧ W0 (β + 24) h' ∧ inRg (false, 0, 9999) (hV h' 77 16) ∧ (-2 ≤ x ∧ x ≤ 24) ∧ FL h h'
set_option maxHeartbeats 4000000 in
theorem pl_l {β d t : Nat} {h0 : AH} (ht : t < 4) (hβ : β + 24 ≤ 20000) : ∀ (n k : Nat) (h : AH), k + n = 24 → k_H JB h → W0 (β + k) h → inRg (false, 0, 9999) (hV h 77 16) → FL h0 h → XP (d + 12) 265 21 [some (vR 76), some (vI (t : Int)), some (vI (k : Int))] [] h (PLd β h0) := by
  intro n
  induction n with
  | zero =>
    intro k h hk hJ hW h16 fl0
    have o1 := (AO_J hJ).1
    have o2 := (j79_1 hJ).1
    have o3 := (j79_1 hJ).2
    have hc := tF_c hJ ht
    have v0 := (tF_v hJ (i := 753 * t) (by omega)).1
    have a1 : w32 (753 * (t : Int)) = ((753 * t : Nat) : Int) := by unfold w32; omega
    have b1 : (0 : Int) ≤ ((753 * t : Nat) : Int) ∧ ((753 * t : Nat) : Int) < 3012 := by omega
    have z : tF h (753 * t) ≤ (k : Int) := by omega
    have y : PLd β h0 (some (vI (-1))) h := ⟨-1, rfl, hJ, W0_le (by omega) hW, h16, ⟨by decide, by decide⟩, fl0⟩
    refine xpk_sound (stops := []) (n := 30) ?_
    simp only [sk_0, sk_1, sk_2, sk_3, sk_4, sk_5, sk_6, sk_7, sk_8, sk_iadd, sk_isub, sk_imul, sk_iand, sk_ior, sk_ixor, sk_ishl, sk_ishr, sk_iushr, sk_idiv, sk_irem, sk_ineg, sk_ladd, sk_lsub, sk_lmul, sk_land, sk_lor, sk_ldiv, sk_lrem, sk_lneg, sk_lshl, sk_lshr, sk_i2l, sk_l2i, sk_lcmp, sk_dupI, sk_dupR, sk_dup2L, sk_dup2I, sk_popI, sk_ifeq, sk_ifne, sk_iflt, sk_ifge, sk_ifgt, sk_ifle, sk_iceq, sk_icne, sk_iclt, sk_icge, sk_icgt, sk_icle, sk_goto, sk_getf, sk_putf, sk_gets, sk_iald, sk_lald, sk_bald, sk_aald, sk_iast, sk_last, sk_bast, sk_aast, sk_alen, sk_newa, sk_newt, sk_new, sk_cs1, sk_cs2, sk_cs3, sk_cs4, sk_cs5, sk_cs6, sk_cv1, sk_cv2, sk_cv3, sk_cv4, sk_cv5, sk_cv6, sk_ci1, sk_ci2, sk_ci3, sk_ret0, sk_retI, sk_retL, sk_retR, sk_sw, sk_oin, sk_max, sk_min, sk_abs, lI_0, lI_s, lL_0, lL_s, lR_0, lR_s, vIo_e, vLo_e, vOo_e, stW_I, stW_L, stW_R, stW_0, stW_z, okSt_0, okSt_s, hV_eq, hK_eq, okF_0, okF_1, okF_3, is01_0, is01_1, is01_i, Int.toNat_natCast, Int.reduceEq, Int.reduceLE, Int.reduceLT, Int.reduceNeg, Nat.reduceLT, not_true_eq_false, not_false_eq_true, reduceIte, Option.toList, List.cons_append, List.nil_append, List.set_cons_zero, List.set_cons_succ, List.not_mem_nil, List.mem_cons, if_false, if_true, ite_true, ite_false, and_self, and_true, true_and, Nat.reduceAdd, Nat.reduceLeDiff, Nat.reduceEqDiff, Nat.zero_add, Nat.le_refl, Nat.zero_le, or_false, false_or, Int.reduceToNat, or_true, true_or, eq_self, and_false, false_and, inR_d, nc_4, nc_5, nc_6, nc_7, nc_8, nc_16, nc_18, nc_20, nc_24, nc_32, nc_40, nc_64, nc_104, nc_120, nc_160, nc_256, nc_300, nc_330, nc_390, nc_1200, nc_1260, nc_3012, nc_9834, okSt_1i, okSt_1r, okSt_1n, xpk_succ cd_265_21, xpk_succ cd_265_22, xpk_succ cd_265_23, xpk_succ cd_265_26, xpk_succ cd_265_29, xpk_succ cd_265_30, xpk_succ cd_265_31, xpk_succ cd_265_32, xpk_succ cd_265_62, xpk_succ cd_265_63, o1, o2, o3, v0, a1, b1, z]
    exact y
  | succ n ih =>
    intro k h hk hJ hW h16 fl0
    have o1 := (AO_J hJ).1
    have o2 := (j79_1 hJ).1
    have o3 := (j79_1 hJ).2
    have hc := tF_c hJ ht
    have v0 := (tF_v hJ (i := 753 * t) (by omega)).1
    have a1 : w32 (753 * (t : Int)) = ((753 * t : Nat) : Int) := by unfold w32; omega
    have b1 : (0 : Int) ≤ ((753 * t : Nat) : Int) ∧ ((753 * t : Nat) : Int) < 3012 := by omega
    by_cases z : tF h (753 * t) ≤ (k : Int)
    · have y : PLd β h0 (some (vI (-1))) h := ⟨-1, rfl, hJ, W0_le (by omega) hW, h16, ⟨by decide, by decide⟩, fl0⟩
      refine xpk_sound (stops := []) (n := 30) ?_
      simp only [sk_0, sk_1, sk_2, sk_3, sk_4, sk_5, sk_6, sk_7, sk_8, sk_iadd, sk_isub, sk_imul, sk_iand, sk_ior, sk_ixor, sk_ishl, sk_ishr, sk_iushr, sk_idiv, sk_irem, sk_ineg, sk_ladd, sk_lsub, sk_lmul, sk_land, sk_lor, sk_ldiv, sk_lrem, sk_lneg, sk_lshl, sk_lshr, sk_i2l, sk_l2i, sk_lcmp, sk_dupI, sk_dupR, sk_dup2L, sk_dup2I, sk_popI, sk_ifeq, sk_ifne, sk_iflt, sk_ifge, sk_ifgt, sk_ifle, sk_iceq, sk_icne, sk_iclt, sk_icge, sk_icgt, sk_icle, sk_goto, sk_getf, sk_putf, sk_gets, sk_iald, sk_lald, sk_bald, sk_aald, sk_iast, sk_last, sk_bast, sk_aast, sk_alen, sk_newa, sk_newt, sk_new, sk_cs1, sk_cs2, sk_cs3, sk_cs4, sk_cs5, sk_cs6, sk_cv1, sk_cv2, sk_cv3, sk_cv4, sk_cv5, sk_cv6, sk_ci1, sk_ci2, sk_ci3, sk_ret0, sk_retI, sk_retL, sk_retR, sk_sw, sk_oin, sk_max, sk_min, sk_abs, lI_0, lI_s, lL_0, lL_s, lR_0, lR_s, vIo_e, vLo_e, vOo_e, stW_I, stW_L, stW_R, stW_0, stW_z, okSt_0, okSt_s, hV_eq, hK_eq, okF_0, okF_1, okF_3, is01_0, is01_1, is01_i, Int.toNat_natCast, Int.reduceEq, Int.reduceLE, Int.reduceLT, Int.reduceNeg, Nat.reduceLT, not_true_eq_false, not_false_eq_true, reduceIte, Option.toList, List.cons_append, List.nil_append, List.set_cons_zero, List.set_cons_succ, List.not_mem_nil, List.mem_cons, if_false, if_true, ite_true, ite_false, and_self, and_true, true_and, Nat.reduceAdd, Nat.reduceLeDiff, Nat.reduceEqDiff, Nat.zero_add, Nat.le_refl, Nat.zero_le, or_false, false_or, Int.reduceToNat, or_true, true_or, eq_self, and_false, false_and, inR_d, nc_4, nc_5, nc_6, nc_7, nc_8, nc_16, nc_18, nc_20, nc_24, nc_32, nc_40, nc_64, nc_104, nc_120, nc_160, nc_256, nc_300, nc_330, nc_390, nc_1200, nc_1260, nc_3012, nc_9834, okSt_1i, okSt_1r, okSt_1n, xpk_succ cd_265_21, xpk_succ cd_265_22, xpk_succ cd_265_23, xpk_succ cd_265_26, xpk_succ cd_265_29, xpk_succ cd_265_30, xpk_succ cd_265_31, xpk_succ cd_265_32, xpk_succ cd_265_62, xpk_succ cd_265_63, o1, o2, o3, v0, a1, b1, z]
      exact y
    · have a2 : w32 (((753 * t : Nat) : Int) + 1) = ((753 * t + 1 : Nat) : Int) := by unfold w32; omega
      have a3 : w32 (6 * (k : Int)) = ((6 * k : Nat) : Int) := by unfold w32; omega
      have a4 : w32 (((753 * t + 1 : Nat) : Int) + ((6 * k : Nat) : Int)) = ((753 * t + 1 + 6 * k : Nat) : Int) := by unfold w32; omega
      have a5 : w32 ((k : Int) + 1) = ((k + 1 : Nat) : Int) := by unfold w32; omega
      obtain ⟨r, h', ⟨x, rfl, J', W', g', ⟨x1, x2⟩, fl⟩, e⟩ := XC_det (ip_w (d := d) (x := 753 * t + 1 + 6 * k) hJ hW (by omega) h16 (by omega))
      by_cases z0 : x = 0
      · have y : PLd β h0 (some (vI (k : Int))) h' := ⟨k, rfl, J', W0_le (by omega) W', g', ⟨by omega, by omega⟩, FL_t fl0 fl⟩
        refine xpk_sound (stops := []) (n := 40) ?_
        simp only [sk_0, sk_1, sk_2, sk_3, sk_4, sk_5, sk_6, sk_7, sk_8, sk_iadd, sk_isub, sk_imul, sk_iand, sk_ior, sk_ixor, sk_ishl, sk_ishr, sk_iushr, sk_idiv, sk_irem, sk_ineg, sk_ladd, sk_lsub, sk_lmul, sk_land, sk_lor, sk_ldiv, sk_lrem, sk_lneg, sk_lshl, sk_lshr, sk_i2l, sk_l2i, sk_lcmp, sk_dupI, sk_dupR, sk_dup2L, sk_dup2I, sk_popI, sk_ifeq, sk_ifne, sk_iflt, sk_ifge, sk_ifgt, sk_ifle, sk_iceq, sk_icne, sk_iclt, sk_icge, sk_icgt, sk_icle, sk_goto, sk_getf, sk_putf, sk_gets, sk_iald, sk_lald, sk_bald, sk_aald, sk_iast, sk_last, sk_bast, sk_aast, sk_alen, sk_newa, sk_newt, sk_new, sk_cs1, sk_cs2, sk_cs3, sk_cs4, sk_cs5, sk_cs6, sk_cv1, sk_cv2, sk_cv3, sk_cv4, sk_cv5, sk_cv6, sk_ci1, sk_ci2, sk_ci3, sk_ret0, sk_retI, sk_retL, sk_retR, sk_sw, sk_oin, sk_max, sk_min, sk_abs, lI_0, lI_s, lL_0, lL_s, lR_0, lR_s, vIo_e, vLo_e, vOo_e, stW_I, stW_L, stW_R, stW_0, stW_z, okSt_0, okSt_s, hV_eq, hK_eq, okF_0, okF_1, okF_3, is01_0, is01_1, is01_i, Int.toNat_natCast, Int.reduceEq, Int.reduceLE, Int.reduceLT, Int.reduceNeg, Nat.reduceLT, not_true_eq_false, not_false_eq_true, reduceIte, Option.toList, List.cons_append, List.nil_append, List.set_cons_zero, List.set_cons_succ, List.not_mem_nil, List.mem_cons, if_false, if_true, ite_true, ite_false, and_self, and_true, true_and, Nat.reduceAdd, Nat.reduceLeDiff, Nat.reduceEqDiff, Nat.zero_add, Nat.le_refl, Nat.zero_le, or_false, false_or, Int.reduceToNat, or_true, true_or, eq_self, and_false, false_and, inR_d, nc_4, nc_5, nc_6, nc_7, nc_8, nc_16, nc_18, nc_20, nc_24, nc_32, nc_40, nc_64, nc_104, nc_120, nc_160, nc_256, nc_300, nc_330, nc_390, nc_1200, nc_1260, nc_3012, nc_9834, okSt_1i, okSt_1r, okSt_1n, xpk_succ cd_265_21, xpk_succ cd_265_22, xpk_succ cd_265_23, xpk_succ cd_265_26, xpk_succ cd_265_29, xpk_succ cd_265_30, xpk_succ cd_265_31, xpk_succ cd_265_32, xpk_succ cd_265_35, xpk_succ cd_265_36, xpk_succ cd_265_39, xpk_succ cd_265_40, xpk_succ cd_265_41, xpk_succ cd_265_42, xpk_succ cd_265_43, xpk_succ cd_265_45, xpk_succ cd_265_46, xpk_succ cd_265_47, xpk_succ cd_265_48, xpk_succ cd_265_51, xpk_succ cd_265_54, xpk_succ cd_265_55, xpk_succ cd_265_56, xpk_succ cd_265_59, o1, o2, o3, v0, a1, b1, a2, a3, a4, a5, z, e, z0]
        exact y
      · have y := ih (k + 1) h' (by omega) J' W' g' (FL_t fl0 fl)
        refine xpk_sound (stops := [21]) (n := 40) ?_
        simp only [sk_0, sk_1, sk_2, sk_3, sk_4, sk_5, sk_6, sk_7, sk_8, sk_iadd, sk_isub, sk_imul, sk_iand, sk_ior, sk_ixor, sk_ishl, sk_ishr, sk_iushr, sk_idiv, sk_irem, sk_ineg, sk_ladd, sk_lsub, sk_lmul, sk_land, sk_lor, sk_ldiv, sk_lrem, sk_lneg, sk_lshl, sk_lshr, sk_i2l, sk_l2i, sk_lcmp, sk_dupI, sk_dupR, sk_dup2L, sk_dup2I, sk_popI, sk_ifeq, sk_ifne, sk_iflt, sk_ifge, sk_ifgt, sk_ifle, sk_iceq, sk_icne, sk_iclt, sk_icge, sk_icgt, sk_icle, sk_goto, sk_getf, sk_putf, sk_gets, sk_iald, sk_lald, sk_bald, sk_aald, sk_iast, sk_last, sk_bast, sk_aast, sk_alen, sk_newa, sk_newt, sk_new, sk_cs1, sk_cs2, sk_cs3, sk_cs4, sk_cs5, sk_cs6, sk_cv1, sk_cv2, sk_cv3, sk_cv4, sk_cv5, sk_cv6, sk_ci1, sk_ci2, sk_ci3, sk_ret0, sk_retI, sk_retL, sk_retR, sk_sw, sk_oin, sk_max, sk_min, sk_abs, lI_0, lI_s, lL_0, lL_s, lR_0, lR_s, vIo_e, vLo_e, vOo_e, stW_I, stW_L, stW_R, stW_0, stW_z, okSt_0, okSt_s, hV_eq, hK_eq, okF_0, okF_1, okF_3, is01_0, is01_1, is01_i, Int.toNat_natCast, Int.reduceEq, Int.reduceLE, Int.reduceLT, Int.reduceNeg, Nat.reduceLT, not_true_eq_false, not_false_eq_true, reduceIte, Option.toList, List.cons_append, List.nil_append, List.set_cons_zero, List.set_cons_succ, List.not_mem_nil, List.mem_cons, if_false, if_true, ite_true, ite_false, and_self, and_true, true_and, Nat.reduceAdd, Nat.reduceLeDiff, Nat.reduceEqDiff, Nat.zero_add, Nat.le_refl, Nat.zero_le, or_false, false_or, Int.reduceToNat, or_true, true_or, eq_self, and_false, false_and, inR_d, nc_4, nc_5, nc_6, nc_7, nc_8, nc_16, nc_18, nc_20, nc_24, nc_32, nc_40, nc_64, nc_104, nc_120, nc_160, nc_256, nc_300, nc_330, nc_390, nc_1200, nc_1260, nc_3012, nc_9834, okSt_1i, okSt_1r, okSt_1n, xpk_succ cd_265_21, xpk_succ cd_265_22, xpk_succ cd_265_23, xpk_succ cd_265_26, xpk_succ cd_265_29, xpk_succ cd_265_30, xpk_succ cd_265_31, xpk_succ cd_265_32, xpk_succ cd_265_35, xpk_succ cd_265_36, xpk_succ cd_265_39, xpk_succ cd_265_40, xpk_succ cd_265_41, xpk_succ cd_265_42, xpk_succ cd_265_43, xpk_succ cd_265_45, xpk_succ cd_265_46, xpk_succ cd_265_47, xpk_succ cd_265_48, xpk_succ cd_265_51, xpk_succ cd_265_54, xpk_succ cd_265_55, xpk_succ cd_265_56, xpk_succ cd_265_59, o1, o2, o3, v0, a1, b1, a2, a3, a4, a5, z, e, z0]
        exact y

theorem X_in {d : Nat} {x a b : Int} {h : AH} {Q : Option AV → AH → Prop} : XC (d + 1) 182 [vI x, vI a, vI b] h Q = Q (some (vI (if a ≤ x ∧ x ≤ b then 1 else 0))) h := by
  have q0 : XC (d + 1) 182 [vI x, vI a, vI b] h (fun r h' => r = some (vI (if a ≤ x ∧ x ≤ b then 1 else 0)) ∧ h' = h) := by
    refine XC_of (Nat.le_of_ble_eq_true rfl) ?_
    show XP d 182 0 [some (vI x), some (vI a), some (vI b)] [] h _
    by_cases z1 : x < a
    · have z : ¬ (a ≤ x ∧ x ≤ b) := by omega
      refine xpk_sound (stops := []) (n := 20) ?_
      simp only [sk_0, sk_1, sk_2, sk_3, sk_4, sk_5, sk_6, sk_7, sk_8, sk_iadd, sk_isub, sk_imul, sk_iand, sk_ior, sk_ixor, sk_ishl, sk_ishr, sk_iushr, sk_idiv, sk_irem, sk_ineg, sk_ladd, sk_lsub, sk_lmul, sk_land, sk_lor, sk_ldiv, sk_lrem, sk_lneg, sk_lshl, sk_lshr, sk_i2l, sk_l2i, sk_lcmp, sk_dupI, sk_dupR, sk_dup2L, sk_dup2I, sk_popI, sk_ifeq, sk_ifne, sk_iflt, sk_ifge, sk_ifgt, sk_ifle, sk_iceq, sk_icne, sk_iclt, sk_icge, sk_icgt, sk_icle, sk_goto, sk_getf, sk_putf, sk_gets, sk_iald, sk_lald, sk_bald, sk_aald, sk_iast, sk_last, sk_bast, sk_aast, sk_alen, sk_newa, sk_newt, sk_new, sk_cs1, sk_cs2, sk_cs3, sk_cs4, sk_cs5, sk_cs6, sk_cv1, sk_cv2, sk_cv3, sk_cv4, sk_cv5, sk_cv6, sk_ci1, sk_ci2, sk_ci3, sk_ret0, sk_retI, sk_retL, sk_retR, sk_sw, sk_oin, sk_max, sk_min, sk_abs, lI_0, lI_s, lL_0, lL_s, lR_0, lR_s, vIo_e, vLo_e, vOo_e, stW_I, stW_L, stW_R, stW_0, stW_z, okSt_0, okSt_s, hV_eq, hK_eq, okF_0, okF_1, okF_3, is01_0, is01_1, is01_i, Int.toNat_natCast, Int.reduceEq, Int.reduceLE, Int.reduceLT, Int.reduceNeg, Nat.reduceLT, not_true_eq_false, not_false_eq_true, reduceIte, Option.toList, List.cons_append, List.nil_append, List.set_cons_zero, List.set_cons_succ, List.not_mem_nil, List.mem_cons, if_false, if_true, ite_true, ite_false, and_self, and_true, true_and, Nat.reduceAdd, Nat.reduceLeDiff, Nat.reduceEqDiff, Nat.zero_add, Nat.le_refl, Nat.zero_le, or_false, false_or, Int.reduceToNat, or_true, true_or, eq_self, and_false, false_and, inR_d, nc_4, nc_5, nc_6, nc_7, nc_8, nc_16, nc_18, nc_20, nc_24, nc_32, nc_40, nc_64, nc_104, nc_120, nc_160, nc_256, nc_300, nc_330, nc_390, nc_1200, nc_1260, nc_3012, nc_9834, okSt_1i, okSt_1r, okSt_1n, xpk_succ cd_182_0, xpk_succ cd_182_1, xpk_succ cd_182_2, xpk_succ cd_182_5, xpk_succ cd_182_6, xpk_succ cd_182_7, xpk_succ cd_182_10, xpk_succ cd_182_11, xpk_succ cd_182_14, xpk_succ cd_182_15, z1, z]
    · by_cases z2 : b < x
      · have z : ¬ (a ≤ x ∧ x ≤ b) := by omega
        refine xpk_sound (stops := []) (n := 20) ?_
        simp only [sk_0, sk_1, sk_2, sk_3, sk_4, sk_5, sk_6, sk_7, sk_8, sk_iadd, sk_isub, sk_imul, sk_iand, sk_ior, sk_ixor, sk_ishl, sk_ishr, sk_iushr, sk_idiv, sk_irem, sk_ineg, sk_ladd, sk_lsub, sk_lmul, sk_land, sk_lor, sk_ldiv, sk_lrem, sk_lneg, sk_lshl, sk_lshr, sk_i2l, sk_l2i, sk_lcmp, sk_dupI, sk_dupR, sk_dup2L, sk_dup2I, sk_popI, sk_ifeq, sk_ifne, sk_iflt, sk_ifge, sk_ifgt, sk_ifle, sk_iceq, sk_icne, sk_iclt, sk_icge, sk_icgt, sk_icle, sk_goto, sk_getf, sk_putf, sk_gets, sk_iald, sk_lald, sk_bald, sk_aald, sk_iast, sk_last, sk_bast, sk_aast, sk_alen, sk_newa, sk_newt, sk_new, sk_cs1, sk_cs2, sk_cs3, sk_cs4, sk_cs5, sk_cs6, sk_cv1, sk_cv2, sk_cv3, sk_cv4, sk_cv5, sk_cv6, sk_ci1, sk_ci2, sk_ci3, sk_ret0, sk_retI, sk_retL, sk_retR, sk_sw, sk_oin, sk_max, sk_min, sk_abs, lI_0, lI_s, lL_0, lL_s, lR_0, lR_s, vIo_e, vLo_e, vOo_e, stW_I, stW_L, stW_R, stW_0, stW_z, okSt_0, okSt_s, hV_eq, hK_eq, okF_0, okF_1, okF_3, is01_0, is01_1, is01_i, Int.toNat_natCast, Int.reduceEq, Int.reduceLE, Int.reduceLT, Int.reduceNeg, Nat.reduceLT, not_true_eq_false, not_false_eq_true, reduceIte, Option.toList, List.cons_append, List.nil_append, List.set_cons_zero, List.set_cons_succ, List.not_mem_nil, List.mem_cons, if_false, if_true, ite_true, ite_false, and_self, and_true, true_and, Nat.reduceAdd, Nat.reduceLeDiff, Nat.reduceEqDiff, Nat.zero_add, Nat.le_refl, Nat.zero_le, or_false, false_or, Int.reduceToNat, or_true, true_or, eq_self, and_false, false_and, inR_d, nc_4, nc_5, nc_6, nc_7, nc_8, nc_16, nc_18, nc_20, nc_24, nc_32, nc_40, nc_64, nc_104, nc_120, nc_160, nc_256, nc_300, nc_330, nc_390, nc_1200, nc_1260, nc_3012, nc_9834, okSt_1i, okSt_1r, okSt_1n, xpk_succ cd_182_0, xpk_succ cd_182_1, xpk_succ cd_182_2, xpk_succ cd_182_5, xpk_succ cd_182_6, xpk_succ cd_182_7, xpk_succ cd_182_10, xpk_succ cd_182_11, xpk_succ cd_182_14, xpk_succ cd_182_15, z1, z2, z]
      · have z : a ≤ x ∧ x ≤ b := by omega
        refine xpk_sound (stops := []) (n := 20) ?_
        simp only [sk_0, sk_1, sk_2, sk_3, sk_4, sk_5, sk_6, sk_7, sk_8, sk_iadd, sk_isub, sk_imul, sk_iand, sk_ior, sk_ixor, sk_ishl, sk_ishr, sk_iushr, sk_idiv, sk_irem, sk_ineg, sk_ladd, sk_lsub, sk_lmul, sk_land, sk_lor, sk_ldiv, sk_lrem, sk_lneg, sk_lshl, sk_lshr, sk_i2l, sk_l2i, sk_lcmp, sk_dupI, sk_dupR, sk_dup2L, sk_dup2I, sk_popI, sk_ifeq, sk_ifne, sk_iflt, sk_ifge, sk_ifgt, sk_ifle, sk_iceq, sk_icne, sk_iclt, sk_icge, sk_icgt, sk_icle, sk_goto, sk_getf, sk_putf, sk_gets, sk_iald, sk_lald, sk_bald, sk_aald, sk_iast, sk_last, sk_bast, sk_aast, sk_alen, sk_newa, sk_newt, sk_new, sk_cs1, sk_cs2, sk_cs3, sk_cs4, sk_cs5, sk_cs6, sk_cv1, sk_cv2, sk_cv3, sk_cv4, sk_cv5, sk_cv6, sk_ci1, sk_ci2, sk_ci3, sk_ret0, sk_retI, sk_retL, sk_retR, sk_sw, sk_oin, sk_max, sk_min, sk_abs, lI_0, lI_s, lL_0, lL_s, lR_0, lR_s, vIo_e, vLo_e, vOo_e, stW_I, stW_L, stW_R, stW_0, stW_z, okSt_0, okSt_s, hV_eq, hK_eq, okF_0, okF_1, okF_3, is01_0, is01_1, is01_i, Int.toNat_natCast, Int.reduceEq, Int.reduceLE, Int.reduceLT, Int.reduceNeg, Nat.reduceLT, not_true_eq_false, not_false_eq_true, reduceIte, Option.toList, List.cons_append, List.nil_append, List.set_cons_zero, List.set_cons_succ, List.not_mem_nil, List.mem_cons, if_false, if_true, ite_true, ite_false, and_self, and_true, true_and, Nat.reduceAdd, Nat.reduceLeDiff, Nat.reduceEqDiff, Nat.zero_add, Nat.le_refl, Nat.zero_le, or_false, false_or, Int.reduceToNat, or_true, true_or, eq_self, and_false, false_and, inR_d, nc_4, nc_5, nc_6, nc_7, nc_8, nc_16, nc_18, nc_20, nc_24, nc_32, nc_40, nc_64, nc_104, nc_120, nc_160, nc_256, nc_300, nc_330, nc_390, nc_1200, nc_1260, nc_3012, nc_9834, okSt_1i, okSt_1r, okSt_1n, xpk_succ cd_182_0, xpk_succ cd_182_1, xpk_succ cd_182_2, xpk_succ cd_182_5, xpk_succ cd_182_6, xpk_succ cd_182_7, xpk_succ cd_182_10, xpk_succ cd_182_11, xpk_succ cd_182_14, xpk_succ cd_182_15, z1, z2, z]
  obtain ⟨r, h', ⟨rfl, rfl⟩, e⟩ := XC_det q0
  exact e Q
theorem jp_3 : rg0 jp77[3]? = (false, 0, 4) := by decide +kernel
set_option maxHeartbeats 4000000 in
/-- played: at most 24 more may be written down behind it -/
theorem X_pl {β d : Nat} {h : AH} {t : Int} (hJ : k_H JB h) (hW : W0 β h) (hβ : β + 24 ≤ 20000) (h16 : inRg (false, 0, 9999) (hV h 77 16)) : XC (d + 13) 265 [vR 76, vI t] h (PLd β h) := by
  have o1 := (AO_J hJ).1
  have o2 := (AO_J hJ).2.1
  have o3 := (AO_J hJ).2.2
  have p3 := aF_p hJ (i := 3) (by decide)
  rw [jp_3] at p3
  have p3 := inI p3
  have v3 := aF_v hJ 3 (by decide)
  have a1 : w32 (aF h 3 - 1) = aF h 3 - 1 := by unfold w32; omega
  have xi : ∀ {D : Nat} {y u v : Int} {g : AH} {Q : Option AV → AH → Prop}, XC (D + 1) 182 [vI y, vI u, vI v] g Q = Q (some (vI (if u ≤ y ∧ y ≤ v then 1 else 0))) g := X_in
  refine XC_of (Nat.le_of_ble_eq_true rfl) ?_
  show XP (d + 12) 265 0 [some (vR 76), some (vI t), none] [] h _
  by_cases z : 0 ≤ t ∧ t ≤ aF h 3 - 1
  · have y := pl_l (β := β) (d := d) (t := t.toNat) (by omega) hβ 24 0 h rfl hJ hW h16 (FL_r h)
    rw [show ((t.toNat : Nat) : Int) = t by omega] at y
    refine xpk_sound (stops := [21]) (n := 20) ?_
    simp only [sk_0, sk_1, sk_2, sk_3, sk_4, sk_5, sk_6, sk_7, sk_8, sk_iadd, sk_isub, sk_imul, sk_iand, sk_ior, sk_ixor, sk_ishl, sk_ishr, sk_iushr, sk_idiv, sk_irem, sk_ineg, sk_ladd, sk_lsub, sk_lmul, sk_land, sk_lor, sk_ldiv, sk_lrem, sk_lneg, sk_lshl, sk_lshr, sk_i2l, sk_l2i, sk_lcmp, sk_dupI, sk_dupR, sk_dup2L, sk_dup2I, sk_popI, sk_ifeq, sk_ifne, sk_iflt, sk_ifge, sk_ifgt, sk_ifle, sk_iceq, sk_icne, sk_iclt, sk_icge, sk_icgt, sk_icle, sk_goto, sk_getf, sk_putf, sk_gets, sk_iald, sk_lald, sk_bald, sk_aald, sk_iast, sk_last, sk_bast, sk_aast, sk_alen, sk_newa, sk_newt, sk_new, sk_cs1, sk_cs2, sk_cs3, sk_cs4, sk_cs5, sk_cs6, sk_cv1, sk_cv2, sk_cv3, sk_cv4, sk_cv5, sk_cv6, sk_ci1, sk_ci2, sk_ci3, sk_ret0, sk_retI, sk_retL, sk_retR, sk_sw, sk_oin, sk_max, sk_min, sk_abs, lI_0, lI_s, lL_0, lL_s, lR_0, lR_s, vIo_e, vLo_e, vOo_e, stW_I, stW_L, stW_R, stW_0, stW_z, okSt_0, okSt_s, hV_eq, hK_eq, okF_0, okF_1, okF_3, is01_0, is01_1, is01_i, Int.toNat_natCast, Int.reduceEq, Int.reduceLE, Int.reduceLT, Int.reduceNeg, Nat.reduceLT, not_true_eq_false, not_false_eq_true, reduceIte, Option.toList, List.cons_append, List.nil_append, List.set_cons_zero, List.set_cons_succ, List.not_mem_nil, List.mem_cons, if_false, if_true, ite_true, ite_false, and_self, and_true, true_and, Nat.reduceAdd, Nat.reduceLeDiff, Nat.reduceEqDiff, Nat.zero_add, Nat.le_refl, Nat.zero_le, or_false, false_or, Int.reduceToNat, or_true, true_or, eq_self, and_false, false_and, inR_d, nc_4, nc_5, nc_6, nc_7, nc_8, nc_16, nc_18, nc_20, nc_24, nc_32, nc_40, nc_64, nc_104, nc_120, nc_160, nc_256, nc_300, nc_330, nc_390, nc_1200, nc_1260, nc_3012, nc_9834, okSt_1i, okSt_1r, okSt_1n, xpk_succ cd_265_0, xpk_succ cd_265_1, xpk_succ cd_265_2, xpk_succ cd_265_3, xpk_succ cd_265_6, xpk_succ cd_265_7, xpk_succ cd_265_8, xpk_succ cd_265_9, xpk_succ cd_265_10, xpk_succ cd_265_13, xpk_succ cd_265_16, xpk_succ cd_265_18, xpk_succ cd_265_19, xpk_succ cd_265_20, o1, o2, o3, v3, a1, xi, z]
    exact y
  · have y : PLd β h (some (vI (-2))) h := ⟨-2, rfl, hJ, W0_le (by omega) hW, h16, ⟨by decide, by decide⟩, FL_r h⟩
    refine xpk_sound (stops := []) (n := 20) ?_
    simp only [sk_0, sk_1, sk_2, sk_3, sk_4, sk_5, sk_6, sk_7, sk_8, sk_iadd, sk_isub, sk_imul, sk_iand, sk_ior, sk_ixor, sk_ishl, sk_ishr, sk_iushr, sk_idiv, sk_irem, sk_ineg, sk_ladd, sk_lsub, sk_lmul, sk_land, sk_lor, sk_ldiv, sk_lrem, sk_lneg, sk_lshl, sk_lshr, sk_i2l, sk_l2i, sk_lcmp, sk_dupI, sk_dupR, sk_dup2L, sk_dup2I, sk_popI, sk_ifeq, sk_ifne, sk_iflt, sk_ifge, sk_ifgt, sk_ifle, sk_iceq, sk_icne, sk_iclt, sk_icge, sk_icgt, sk_icle, sk_goto, sk_getf, sk_putf, sk_gets, sk_iald, sk_lald, sk_bald, sk_aald, sk_iast, sk_last, sk_bast, sk_aast, sk_alen, sk_newa, sk_newt, sk_new, sk_cs1, sk_cs2, sk_cs3, sk_cs4, sk_cs5, sk_cs6, sk_cv1, sk_cv2, sk_cv3, sk_cv4, sk_cv5, sk_cv6, sk_ci1, sk_ci2, sk_ci3, sk_ret0, sk_retI, sk_retL, sk_retR, sk_sw, sk_oin, sk_max, sk_min, sk_abs, lI_0, lI_s, lL_0, lL_s, lR_0, lR_s, vIo_e, vLo_e, vOo_e, stW_I, stW_L, stW_R, stW_0, stW_z, okSt_0, okSt_s, hV_eq, hK_eq, okF_0, okF_1, okF_3, is01_0, is01_1, is01_i, Int.toNat_natCast, Int.reduceEq, Int.reduceLE, Int.reduceLT, Int.reduceNeg, Nat.reduceLT, not_true_eq_false, not_false_eq_true, reduceIte, Option.toList, List.cons_append, List.nil_append, List.set_cons_zero, List.set_cons_succ, List.not_mem_nil, List.mem_cons, if_false, if_true, ite_true, ite_false, and_self, and_true, true_and, Nat.reduceAdd, Nat.reduceLeDiff, Nat.reduceEqDiff, Nat.zero_add, Nat.le_refl, Nat.zero_le, or_false, false_or, Int.reduceToNat, or_true, true_or, eq_self, and_false, false_and, inR_d, nc_4, nc_5, nc_6, nc_7, nc_8, nc_16, nc_18, nc_20, nc_24, nc_32, nc_40, nc_64, nc_104, nc_120, nc_160, nc_256, nc_300, nc_330, nc_390, nc_1200, nc_1260, nc_3012, nc_9834, okSt_1i, okSt_1r, okSt_1n, xpk_succ cd_265_0, xpk_succ cd_265_1, xpk_succ cd_265_2, xpk_succ cd_265_3, xpk_succ cd_265_6, xpk_succ cd_265_7, xpk_succ cd_265_8, xpk_succ cd_265_9, xpk_succ cd_265_10, xpk_succ cd_265_13, xpk_succ cd_265_16, xpk_succ cd_265_18, xpk_succ cd_265_19, xpk_succ cd_265_20, o1, o2, o3, v3, a1, xi, z]
    exact y
