set_option maxRecDepth 20000 in
theorem ac_126 : allC[126]? = some cl126 := rfl
theorem cd_126_0 : cd 126 0 = some (2, 1, 1, 0, 0, []) := cd_row ac_126 rfl
theorem cd_126_1 : cd 126 1 = some (0, 2, 0, 0, -1, []) := cd_row ac_126 rfl
theorem cd_126_2 : cd 126 2 = some (0, 3, 0, 0, 1, []) := cd_row ac_126 rfl
theorem cd_126_3 : cd 126 3 = some (38, 6, 177, 3, 0, []) := cd_row ac_126 rfl
theorem cd_126_6 : cd 126 6 = some (20, 9, 17, 0, 0, []) := cd_row ac_126 rfl
theorem cd_126_9 : cd 126 9 = some (4, 10, 0, 0, 0, []) := cd_row ac_126 rfl
theorem cd_126_10 : cd 126 10 = some (0, 11, 0, 0, 1, []) := cd_row ac_126 rfl
theorem cd_126_11 : cd 126 11 = some (46, 14, 129, 2, 9, []) := cd_row ac_126 rfl
theorem cd_126_14 : cd 126 14 = some (20, 17, 19, 1, 0, []) := cd_row ac_126 rfl
theorem cd_126_17 : cd 126 17 = some (0, 18, 0, 0, -1, []) := cd_row ac_126 rfl
theorem cd_126_18 : cd 126 18 = some (40, 19, 0, 0, 0, []) := cd_row ac_126 rfl
theorem cd_126_19 : cd 126 19 = some (4, 20, 0, 0, 0, []) := cd_row ac_126 rfl
theorem cd_126_20 : cd 126 20 = some (23, 23, 9, 0, 0, []) := cd_row ac_126 rfl
theorem cd_126_23 : cd 126 23 = some (46, 26, 111, 1, 8, []) := cd_row ac_126 rfl
theorem cd_126_26 : cd 126 26 = some (4, 27, 0, 0, 0, []) := cd_row ac_126 rfl
theorem cd_126_27 : cd 126 27 = some (23, 30, 9, 0, 0, []) := cd_row ac_126 rfl
theorem cd_126_30 : cd 126 30 = some (23, 33, 8, 0, 0, []) := cd_row ac_126 rfl
theorem cd_126_33 : cd 126 33 = some (2, 34, 1, 0, 0, []) := cd_row ac_126 rfl
theorem cd_126_34 : cd 126 34 = some (4, 35, 0, 0, 0, []) := cd_row ac_126 rfl
theorem cd_126_35 : cd 126 35 = some (46, 38, 175, 1, 9, []) := cd_row ac_126 rfl
theorem cd_126_38 : cd 126 38 = some (46, 41, 12, 3, 0, []) := cd_row ac_126 rfl
theorem cd_126_41 : cd 126 41 = some (4, 42, 0, 0, 0, []) := cd_row ac_126 rfl
theorem cd_126_42 : cd 126 42 = some (23, 45, 9, 0, 0, []) := cd_row ac_126 rfl
theorem cd_126_45 : cd 126 45 = some (23, 48, 8, 0, 0, []) := cd_row ac_126 rfl
theorem cd_126_48 : cd 126 48 = some (23, 51, 0, 1, 0, []) := cd_row ac_126 rfl
theorem cd_126_51 : cd 126 51 = some (40, 52, 0, 0, 0, []) := cd_row ac_126 rfl
set_option maxRecDepth 20000 in
theorem ac_127 : allC[127]? = some cl127 := rfl
theorem cd_127_0 : cd 127 0 = some (2, 1, 1, 0, 0, []) := cd_row ac_127 rfl
theorem cd_127_1 : cd 127 1 = some (0, 2, 0, 0, 1, []) := cd_row ac_127 rfl
theorem cd_127_2 : cd 127 2 = some (0, 4, 0, 0, 60, []) := cd_row ac_127 rfl
theorem cd_127_4 : cd 127 4 = some (38, 7, 177, 3, 0, []) := cd_row ac_127 rfl
theorem cd_127_7 : cd 127 7 = some (20, 10, 18, 0, 0, []) := cd_row ac_127 rfl
theorem cd_127_10 : cd 127 10 = some (4, 11, 0, 0, 0, []) := cd_row ac_127 rfl
theorem cd_127_11 : cd 127 11 = some (2, 12, 1, 0, 0, []) := cd_row ac_127 rfl
theorem cd_127_12 : cd 127 12 = some (46, 15, 129, 2, 9, []) := cd_row ac_127 rfl
theorem cd_127_15 : cd 127 15 = some (20, 18, 20, 1, 0, []) := cd_row ac_127 rfl
theorem cd_127_18 : cd 127 18 = some (0, 19, 0, 0, -1, []) := cd_row ac_127 rfl
theorem cd_127_19 : cd 127 19 = some (40, 20, 0, 0, 0, []) := cd_row ac_127 rfl
theorem cd_127_20 : cd 127 20 = some (4, 21, 0, 0, 0, []) := cd_row ac_127 rfl
theorem cd_127_21 : cd 127 21 = some (2, 22, 1, 0, 0, []) := cd_row ac_127 rfl
theorem cd_127_22 : cd 127 22 = some (46, 25, 128, 2, 9, []) := cd_row ac_127 rfl
theorem cd_127_25 : cd 127 25 = some (19, 26, 0, 0, 0, []) := cd_row ac_127 rfl
theorem cd_127_26 : cd 127 26 = some (4, 27, 0, 0, 0, []) := cd_row ac_127 rfl
theorem cd_127_27 : cd 127 27 = some (23, 30, 9, 0, 0, []) := cd_row ac_127 rfl
theorem cd_127_30 : cd 127 30 = some (23, 33, 8, 0, 0, []) := cd_row ac_127 rfl
theorem cd_127_33 : cd 127 33 = some (23, 36, 0, 1, 0, []) := cd_row ac_127 rfl
theorem cd_127_36 : cd 127 36 = some (40, 37, 0, 0, 0, []) := cd_row ac_127 rfl
set_option maxRecDepth 20000 in
theorem ac_128 : allC[128]? = some cl128 := rfl
theorem cd_128_0 : cd 128 0 = some (4, 1, 0, 0, 0, []) := cd_row ac_128 rfl
theorem cd_128_1 : cd 128 1 = some (46, 4, 175, 1, 9, []) := cd_row ac_128 rfl
theorem cd_128_4 : cd 128 4 = some (7, 5, 2, 0, 0, []) := cd_row ac_128 rfl
theorem cd_128_5 : cd 128 5 = some (2, 6, 1, 0, 0, []) := cd_row ac_128 rfl
theorem cd_128_6 : cd 128 6 = some (0, 9, 0, 0, 9999, []) := cd_row ac_128 rfl
theorem cd_128_9 : cd 128 9 = some (4, 10, 0, 0, 0, []) := cd_row ac_128 rfl
theorem cd_128_10 : cd 128 10 = some (23, 13, 9, 0, 0, []) := cd_row ac_128 rfl
theorem cd_128_13 : cd 128 13 = some (23, 16, 8, 0, 0, []) := cd_row ac_128 rfl
theorem cd_128_16 : cd 128 16 = some (23, 19, 0, 9, 0, []) := cd_row ac_128 rfl
theorem cd_128_19 : cd 128 19 = some (9, 20, 0, 1, 0, []) := cd_row ac_128 rfl
theorem cd_128_20 : cd 128 20 = some (50, 23, 0, 0, 0, []) := cd_row ac_128 rfl
theorem cd_128_23 : cd 128 23 = some (5, 24, 3, 0, 0, []) := cd_row ac_128 rfl
theorem cd_128_24 : cd 128 24 = some (0, 25, 0, 0, 0, []) := cd_row ac_128 rfl
theorem cd_128_25 : cd 128 25 = some (5, 27, 4, 0, 0, []) := cd_row ac_128 rfl
theorem cd_128_27 : cd 128 27 = some (2, 29, 4, 0, 0, []) := cd_row ac_128 rfl
theorem cd_128_29 : cd 128 29 = some (2, 30, 3, 0, 0, []) := cd_row ac_128 rfl
theorem cd_128_30 : cd 128 30 = some (21, 33, 68, 3, 0, []) := cd_row ac_128 rfl
theorem cd_128_33 : cd 128 33 = some (4, 34, 0, 0, 0, []) := cd_row ac_128 rfl
theorem cd_128_34 : cd 128 34 = some (23, 37, 9, 0, 0, []) := cd_row ac_128 rfl
theorem cd_128_37 : cd 128 37 = some (46, 40, 111, 1, 8, []) := cd_row ac_128 rfl
theorem cd_128_40 : cd 128 40 = some (4, 41, 0, 0, 0, []) := cd_row ac_128 rfl
theorem cd_128_41 : cd 128 41 = some (23, 44, 9, 0, 0, []) := cd_row ac_128 rfl
theorem cd_128_44 : cd 128 44 = some (23, 47, 8, 0, 0, []) := cd_row ac_128 rfl
theorem cd_128_47 : cd 128 47 = some (4, 48, 2, 0, 0, []) := cd_row ac_128 rfl
theorem cd_128_48 : cd 128 48 = some (4, 49, 0, 0, 0, []) := cd_row ac_128 rfl
theorem cd_128_49 : cd 128 49 = some (23, 52, 9, 0, 0, []) := cd_row ac_128 rfl
theorem cd_128_52 : cd 128 52 = some (23, 55, 8, 0, 0, []) := cd_row ac_128 rfl
theorem cd_128_55 : cd 128 55 = some (46, 58, 35, 2, 2, []) := cd_row ac_128 rfl
theorem cd_128_58 : cd 128 58 = some (4, 59, 2, 0, 0, []) := cd_row ac_128 rfl
theorem cd_128_59 : cd 128 59 = some (46, 62, 12, 3, 0, []) := cd_row ac_128 rfl
theorem cd_128_62 : cd 128 62 = some (8, 65, 4, 0, 1, []) := cd_row ac_128 rfl
theorem cd_128_65 : cd 128 65 = some (22, 68, 27, 0, 0, []) := cd_row ac_128 rfl
theorem cd_128_68 : cd 128 68 = some (2, 69, 3, 0, 0, []) := cd_row ac_128 rfl
theorem cd_128_69 : cd 128 69 = some (40, 70, 0, 0, 0, []) := cd_row ac_128 rfl
set_option maxRecDepth 20000 in
theorem ac_136 : allC[136]? = some cl136 := rfl
theorem cd_136_0 : cd 136 0 = some (2, 1, 1, 0, 0, []) := cd_row ac_136 rfl
theorem cd_136_1 : cd 136 1 = some (0, 2, 0, 0, 0, []) := cd_row ac_136 rfl
theorem cd_136_2 : cd 136 2 = some (0, 5, 0, 0, 9999, []) := cd_row ac_136 rfl
theorem cd_136_5 : cd 136 5 = some (38, 8, 177, 3, 0, []) := cd_row ac_136 rfl
theorem cd_136_8 : cd 136 8 = some (20, 11, 29, 0, 0, []) := cd_row ac_136 rfl
theorem cd_136_11 : cd 136 11 = some (2, 12, 2, 0, 0, []) := cd_row ac_136 rfl
theorem cd_136_12 : cd 136 12 = some (0, 13, 0, 0, 1, []) := cd_row ac_136 rfl
theorem cd_136_13 : cd 136 13 = some (0, 15, 0, 0, 40, []) := cd_row ac_136 rfl
theorem cd_136_15 : cd 136 15 = some (38, 18, 177, 3, 0, []) := cd_row ac_136 rfl
theorem cd_136_18 : cd 136 18 = some (20, 21, 29, 0, 0, []) := cd_row ac_136 rfl
theorem cd_136_21 : cd 136 21 = some (4, 22, 0, 0, 0, []) := cd_row ac_136 rfl
theorem cd_136_22 : cd 136 22 = some (2, 23, 2, 0, 0, []) := cd_row ac_136 rfl
theorem cd_136_23 : cd 136 23 = some (46, 26, 129, 2, 9, []) := cd_row ac_136 rfl
theorem cd_136_26 : cd 136 26 = some (20, 29, 31, 1, 0, []) := cd_row ac_136 rfl
theorem cd_136_29 : cd 136 29 = some (0, 30, 0, 0, -1, []) := cd_row ac_136 rfl
theorem cd_136_30 : cd 136 30 = some (40, 31, 0, 0, 0, []) := cd_row ac_136 rfl
theorem cd_136_31 : cd 136 31 = some (4, 32, 0, 0, 0, []) := cd_row ac_136 rfl
theorem cd_136_32 : cd 136 32 = some (23, 35, 9, 0, 0, []) := cd_row ac_136 rfl
theorem cd_136_35 : cd 136 35 = some (46, 38, 111, 1, 8, []) := cd_row ac_136 rfl
theorem cd_136_38 : cd 136 38 = some (4, 39, 0, 0, 0, []) := cd_row ac_136 rfl
theorem cd_136_39 : cd 136 39 = some (23, 42, 9, 0, 0, []) := cd_row ac_136 rfl
theorem cd_136_42 : cd 136 42 = some (23, 45, 8, 0, 0, []) := cd_row ac_136 rfl
theorem cd_136_45 : cd 136 45 = some (7, 46, 3, 0, 0, []) := cd_row ac_136 rfl
theorem cd_136_46 : cd 136 46 = some (4, 47, 0, 0, 0, []) := cd_row ac_136 rfl
theorem cd_136_47 : cd 136 47 = some (46, 50, 175, 1, 9, []) := cd_row ac_136 rfl
theorem cd_136_50 : cd 136 50 = some (7, 52, 4, 0, 0, []) := cd_row ac_136 rfl
theorem cd_136_52 : cd 136 52 = some (4, 53, 3, 0, 0, []) := cd_row ac_136 rfl
theorem cd_136_53 : cd 136 53 = some (2, 54, 1, 0, 0, []) := cd_row ac_136 rfl
theorem cd_136_54 : cd 136 54 = some (0, 55, 0, 0, 3, []) := cd_row ac_136 rfl
theorem cd_136_55 : cd 136 55 = some (9, 56, 0, 2, 0, []) := cd_row ac_136 rfl
theorem cd_136_56 : cd 136 56 = some (0, 58, 0, 0, 59, []) := cd_row ac_136 rfl
theorem cd_136_58 : cd 136 58 = some (9, 59, 0, 0, 0, []) := cd_row ac_136 rfl
theorem cd_136_59 : cd 136 59 = some (24, 62, 0, 10, 0, []) := cd_row ac_136 rfl
theorem cd_136_62 : cd 136 62 = some (0, 63, 0, 0, 0, []) := cd_row ac_136 rfl
theorem cd_136_63 : cd 136 63 = some (5, 65, 5, 0, 0, []) := cd_row ac_136 rfl
theorem cd_136_65 : cd 136 65 = some (2, 67, 5, 0, 0, []) := cd_row ac_136 rfl
theorem cd_136_67 : cd 136 67 = some (2, 68, 2, 0, 0, []) := cd_row ac_136 rfl
theorem cd_136_68 : cd 136 68 = some (21, 71, 103, 3, 0, []) := cd_row ac_136 rfl
theorem cd_136_71 : cd 136 71 = some (4, 72, 3, 0, 0, []) := cd_row ac_136 rfl
theorem cd_136_72 : cd 136 72 = some (4, 73, 3, 0, 0, []) := cd_row ac_136 rfl
theorem cd_136_73 : cd 136 73 = some (46, 76, 15, 1, 0, []) := cd_row ac_136 rfl
theorem cd_136_76 : cd 136 76 = some (24, 79, 0, 7, 0, []) := cd_row ac_136 rfl
theorem cd_136_79 : cd 136 79 = some (4, 80, 3, 0, 0, []) := cd_row ac_136 rfl
theorem cd_136_80 : cd 136 80 = some (4, 81, 3, 0, 0, []) := cd_row ac_136 rfl
theorem cd_136_81 : cd 136 81 = some (23, 84, 0, 10, 0, []) := cd_row ac_136 rfl
theorem cd_136_84 : cd 136 84 = some (0, 85, 0, 0, 3, []) := cd_row ac_136 rfl
theorem cd_136_85 : cd 136 85 = some (9, 86, 0, 7, 0, []) := cd_row ac_136 rfl
theorem cd_136_86 : cd 136 86 = some (0, 87, 0, 0, 1, []) := cd_row ac_136 rfl
theorem cd_136_87 : cd 136 87 = some (9, 88, 0, 1, 0, []) := cd_row ac_136 rfl
theorem cd_136_88 : cd 136 88 = some (4, 90, 4, 0, 0, []) := cd_row ac_136 rfl
theorem cd_136_90 : cd 136 90 = some (46, 93, 12, 3, 0, []) := cd_row ac_136 rfl
theorem cd_136_93 : cd 136 93 = some (4, 94, 3, 0, 0, []) := cd_row ac_136 rfl
theorem cd_136_94 : cd 136 94 = some (46, 97, 16, 1, 0, []) := cd_row ac_136 rfl
theorem cd_136_97 : cd 136 97 = some (8, 100, 5, 0, 1, []) := cd_row ac_136 rfl
theorem cd_136_100 : cd 136 100 = some (22, 103, 65, 0, 0, []) := cd_row ac_136 rfl
theorem cd_136_103 : cd 136 103 = some (4, 104, 3, 0, 0, []) := cd_row ac_136 rfl
theorem cd_136_104 : cd 136 104 = some (23, 107, 0, 1, 0, []) := cd_row ac_136 rfl
theorem cd_136_107 : cd 136 107 = some (40, 108, 0, 0, 0, []) := cd_row ac_136 rfl
theorem I3_1 {h : AH} (hJ : k_H JB h) : hV h 3 1 = vI 1260 := by
  obtain ⟨e, b⟩ := I_3_1 hJ
  rw [e, show fI h 3 1 = 1260 by omega]
/-! tenths of the class -/
theorem hBL_k {h : AH} {T1 T2 : Nat} {W : Nat → Nat → Int} : hK (hB (hLw h T1 T2) W) = hK h := rfl
theorem hBL_n {h : AH} {T1 T2 k i : Nat} {W : Nat → Nat → Int} (hk : k = 0 ∨ (2 ≤ k ∧ k < 5) ∨ 11 ≤ k) (hk2 : k ≠ 58 ∨ (i ≠ 0 ∧ i ≠ 1)) : hV (hB (hLw h T1 T2) W) k i = hV h k i := (hB_n (decide_eq_false (by omega))).trans (hLw_n hk2)
theorem LWC_B {h : AH} {T : Nat} {cs : List cCl} (hl : LWC h T cs) {T1 T2 : Nat} {W : Nat → Nat → Int} : LWC (hB (hLw h T1 T2) W) T cs := by
  obtain ⟨D, bg, en, kd, ag, L, dd, ht, hx, hr, hL⟩ := hl
  have n : ∀ {k i : Nat}, 22 ≤ k → k < 58 → hV (hB (hLw h T1 T2) W) k i = hV h k i := fun a b => hBL_n (by omega) (by omega)
  exact ⟨D, bg, en, kd, ag, L, dd, ht, ⟨hx.1, ⟨(n (by omega) (by omega)).trans hx.2.1.1, (n (by omega) (by omega)).trans hx.2.1.2.1, (n (by omega) (by omega)).trans hx.2.1.2.2⟩, fun i hi => (n (by omega) (by omega)).trans (hx.2.2.1 i hi), fun i hi => (n (by omega) (by omega)).trans (hx.2.2.2.1 i hi), fun i hi => (n (by omega) (by omega)).trans (hx.2.2.2.2.1 i hi), hx.2.2.2.2.2⟩, hr, hL⟩
theorem LKC_B {h : AH} (hJ : k_H JB h) {T1 T2 : Nat} {W : Nat → Nat → Int} : LKC (hB (hLw h T1 T2) W) := by
  refine ⟨⟨K_58 (h := h) hJ, K_59 (h := h) hJ, K_60 (h := h) hJ⟩, ⟨(hBL_n (by decide) (by decide)).trans (F_58_2 hJ), (hBL_n (by decide) (by decide)).trans (F_58_3 hJ)⟩, ?_⟩
  have hs := stK_J hJ
  unfold stK at *
  rw [hBL_k]
  have e : ∀ {k i : Nat}, 60 ≤ k → hV (hB (hLw h T1 T2) W) k i = hV h k i := fun {k i} q => hBL_n (by omega) (by omega)
  simp only [e (show 60 ≤ 1000000 by decide), e (show 60 ≤ 1000001 by decide), e (show 60 ≤ 1000002 by decide)]
  exact hs
theorem HPL_2 : HPL 2 3 4 := by unfold HPL; omega
theorem E_tbZ {h : AH} {T1 T2 : Nat} {W : Nat → Nat → Int} {f rw_ : Nat → Int} {s : SCR} {d t : Nat} {cs : List cCl} (hJ : k_H JB h) (hl : LWC h T1 cs) (hc : CST cs) (hf : HKs f) (h9 : f 9 = (t : Int)) (hs : SOK s) {c : Int} (c0 : -1 ≤ c) (c1 : c ≤ 1) : ∃ s' : SCR, SOK s' ∧ ∀ Q : Option AV → AH → Prop, XC (d + 7) 12 [vR 2, vI c, vR 58] (Zc h T1 T2 W f rw_ s) Q = Q none (Zc h T1 T2 W (TNf cs f rw_ 1260 t c) (rwT f rw_ 1260 t c) s') := by
  obtain ⟨nm', kc', tn', el', sf', n, e⟩ := E_tb (d := d) (h := hB (hLw h T1 T2) W) (T := T1) (R := 4) (sz := 1260) (rw_ := rw_) HPL_2 (LKC_B hJ) (LWC_B hl) ((hB_n rfl).trans hLw_0) (K_2 (h := h) hJ) ((hBL_n (by decide) (by decide)).trans (F_2_0 hJ)) ⟨K_3 (h := h) hJ, K_4 (h := h) hJ⟩ ⟨(hBL_n (by decide) (by decide)).trans (F_3_0 hJ), (hBL_n (by decide) (by decide)).trans (I3_1 hJ)⟩ (by decide) hf h9 (nm := s.1) (kc := s.2.1) (tn := s.2.2.1) (el := s.2.2.2.1) hs (sf := s.2.2.2.2) hc c0 c1
  exact ⟨(nm', kc', tn', el', sf'), n, e⟩
theorem E_cmZ {h : AH} {T1 T2 : Nat} {W : Nat → Nat → Int} {f rw_ : Nat → Int} {s : SCR} {d t : Nat} {cs : List cCl} (hJ : k_H JB h) (hl : LWC h T2 cs) (hc : CST cs) (hf : HKs f) (h9 : f 9 = (t : Int)) (hs : SOK s) : ∃ s' : SCR, SOK s' ∧ ∀ Q : Option AV → AH → Prop, XC (d + 6) 35 [vR 58, vR 2] (Zc h T1 T2 W f rw_ s) Q = Q (some (vI (cmT cs f rw_ 1260 t))) (Zc h T1 T2 W f rw_ s') := by
  obtain ⟨nm', kc', tn', el', sf', n, e⟩ := E_cm (d := d) (h := hB (hLw h T1 T2) W) (T := T2) (R := 4) (sz := 1260) (rw_ := rw_) HPL_2 (LKC_B hJ) (LWC_B hl) ((hB_n rfl).trans hLw_1) (K_2 (h := h) hJ) ((hBL_n (by decide) (by decide)).trans (F_2_0 hJ)) ⟨K_3 (h := h) hJ, K_4 (h := h) hJ⟩ ⟨(hBL_n (by decide) (by decide)).trans (F_3_0 hJ), (hBL_n (by decide) (by decide)).trans (I3_1 hJ)⟩ (by decide) hf h9 (nm := s.1) (kc := s.2.1) (tn := s.2.2.1) (el := s.2.2.2.1) hs (sf := s.2.2.2.2) hc
  exact ⟨(nm', kc', tn', el', sf'), n, e⟩
set_option maxHeartbeats 4000000 in
theorem E_mov {h : AH} {T1 T2 : Nat} {W : Nat → Nat → Int} {f rw_ : Nat → Int} {s : SCR} {d m t : Nat} {T : Nat} {cs : List cCl} (hJ : k_H JB h) (hr : RUL h T) (hl : LWC h T cs) (hc : CST cs) (hf : HKs f) (h9 : f 9 = (t : Int)) (hs : SOK s) (h7 : W 1 7 = (m : Int)) (hm : m < 30) (h8 : 0 ≤ W 1 8 ∧ W 1 8 ≤ 30) {c : Int} : ∃ s' : SCR, SOK s' ∧ ∀ Q : Option AV → AH → Prop, XC (d + 8) 126 [vR 0, vI c] (Zc h T1 T2 W f rw_ s) Q = if (-1 ≤ c ∧ c ≤ 1) ∧ t < 9999 then Q (some (vI (TNf cs f rw_ 1260 t c 1))) (Zc h T T (ksW W f m) (TNf cs f rw_ 1260 t c) (rwT f rw_ 1260 t c) s') else Q (some (vI (-1))) (Zc h T1 T2 W f rw_ s) := by
  have ew := fun Q => X_wn (d := d + 6) (v := c) (lo := -1) (hi := 1) (h := Zc h T1 T2 W f rw_ s) Q
  by_cases z : -1 ≤ c ∧ c ≤ 1
  · have ew : ∀ Q : Option AV → AH → Prop, XC (d + 7) 177 [vI c, vI (-1), vI 1] (Zc h T1 T2 W f rw_ s) Q = Q (some (vI 1)) (Zc h T1 T2 W f rw_ s) := fun Q => by rw [ew Q, if_pos z]
    have ef := fun Q => E_fit (d := d + 6) (T1 := T1) (T2 := T2) (W := W) (f := f) (rw_ := rw_) (s := s) hJ (n := 1) (by rw [h9]; have := hf.2.2; unfold WE w32; omega) Q
    by_cases y : t < 9999
    · have ef : ∀ Q : Option AV → AH → Prop, XC (d + 7) 129 [vR 0, vI 1] (Zc h T1 T2 W f rw_ s) Q = Q (some (vI 1)) (Zc h T1 T2 W f rw_ s) := fun Q => by rw [ef Q, if_pos (by omega)]
      have ek := fun Q => E_ks (d := d + 5) (T1 := T1) (T2 := T2) (f := f) (rw_ := rw_) (s := s) hJ h7 hm h8 Q
      have er := fun Q => E_rul (d := d + 4) (T1 := T1) (T2 := T2) (W := ksW W f m) (f := f) (rw_ := rw_) (s := s) hJ hr Q
      obtain ⟨s', hs', et⟩ := E_tbZ (d := d) (T1 := T) (T2 := T) (W := ksW W f m) (rw_ := rw_) hJ hl hc hf h9 hs z.1 z.2
      refine ⟨s', hs', fun Q => ?_⟩
      rw [if_pos ⟨z, y⟩]
      refine XC_eq (Nat.le_of_ble_eq_true rfl) ?_ Q
      show XP (d + 7) 126 0 [some (vR 0), some (vI c)] [] (Zc h T1 T2 W f rw_ s) _
      refine xpk_sound (stops := []) (n := 60) ?_
      simp only [sk_0, sk_1, sk_2, sk_3, sk_4, sk_5, sk_6, sk_7, sk_8, sk_iadd, sk_isub, sk_imul, sk_iand, sk_ior, sk_ixor, sk_ishl, sk_ishr, sk_iushr, sk_idiv, sk_irem, sk_ineg, sk_ladd, sk_lsub, sk_lmul, sk_land, sk_lor, sk_ldiv, sk_lrem, sk_lneg, sk_lshl, sk_lshr, sk_i2l, sk_l2i, sk_lcmp, sk_dupI, sk_dupR, sk_dup2L, sk_dup2I, sk_popI, sk_ifeq, sk_ifne, sk_iflt, sk_ifge, sk_ifgt, sk_ifle, sk_iceq, sk_icne, sk_iclt, sk_icge, sk_icgt, sk_icle, sk_goto, sk_getf, sk_putf, sk_gets, sk_iald, sk_lald, sk_bald, sk_aald, sk_iast, sk_last, sk_bast, sk_aast, sk_alen, sk_newa, sk_newt, sk_new, sk_cs1, sk_cs2, sk_cs3, sk_cs4, sk_cs5, sk_cs6, sk_cv1, sk_cv2, sk_cv3, sk_cv4, sk_cv5, sk_cv6, sk_ci1, sk_ci2, sk_ci3, sk_ret0, sk_retI, sk_retL, sk_retR, sk_sw, sk_oin, sk_max, sk_min, sk_abs, lI_0, lI_s, lL_0, lL_s, lR_0, lR_s, vIo_e, vLo_e, vOo_e, stW_I, stW_L, stW_R, stW_0, stW_z, okSt_0, okSt_s, hV_eq, hK_eq, okF_0, okF_1, okF_3, is01_0, is01_1, is01_i, Int.toNat_natCast, Int.reduceEq, Int.reduceLE, Int.reduceLT, Int.reduceNeg, Nat.reduceLT, not_true_eq_false, not_false_eq_true, reduceIte, Option.toList, List.cons_append, List.nil_append, List.set_cons_zero, List.set_cons_succ, List.not_mem_nil, List.mem_cons, if_false, if_true, ite_true, ite_false, and_self, and_true, true_and, Nat.reduceAdd, Nat.reduceLeDiff, Nat.reduceEqDiff, Nat.zero_add, Nat.le_refl, Nat.zero_le, or_false, false_or, Int.reduceToNat, or_true, true_or, eq_self, and_false, false_and, inR_d, nc_4, nc_5, nc_6, nc_7, nc_8, nc_16, nc_18, nc_20, nc_24, nc_32, nc_40, nc_64, nc_104, nc_120, nc_160, nc_256, nc_300, nc_330, nc_390, nc_1200, nc_1260, nc_3012, nc_9834, okSt_1i, okSt_1r, okSt_1n, List.length_cons, List.length_nil, xpk_succ cd_126_0, xpk_succ cd_126_1, xpk_succ cd_126_2, xpk_succ cd_126_3, xpk_succ cd_126_6, xpk_succ cd_126_9, xpk_succ cd_126_10, xpk_succ cd_126_11, xpk_succ cd_126_14, xpk_succ cd_126_17, xpk_succ cd_126_18, xpk_succ cd_126_19, xpk_succ cd_126_20, xpk_succ cd_126_23, xpk_succ cd_126_26, xpk_succ cd_126_27, xpk_succ cd_126_30, xpk_succ cd_126_33, xpk_succ cd_126_34, xpk_succ cd_126_35, xpk_succ cd_126_38, xpk_succ cd_126_41, xpk_succ cd_126_42, xpk_succ cd_126_45, xpk_succ cd_126_48, xpk_succ cd_126_51, Zc_k, (K_0 hJ), (K_1 hJ), (K_2 hJ), (K_5 hJ), (K_6 hJ), (K_9 hJ), (K_10 hJ), (K_21 hJ), (K_58 hJ), (Zp_0_0 hJ), (Zp_0_2 hJ), (Zp_0_3 hJ), (Zp_0_4 hJ), (Zp_1_0 hJ), (Zp_1_4 hJ), (Zp_1_6 hJ), (Zp_1_13 hJ), (Zp_1_14 hJ), (Zc_f (i := 1) (by decide) (by decide)), ew, ef, ek, er, et]
    · have ef : ∀ Q : Option AV → AH → Prop, XC (d + 7) 129 [vR 0, vI 1] (Zc h T1 T2 W f rw_ s) Q = Q (some (vI 0)) (Zc h T1 T2 W f rw_ s) := fun Q => by rw [ef Q, if_neg (by omega)]
      refine ⟨s, hs, fun Q => ?_⟩
      rw [if_neg (fun w => y w.2)]
      refine XC_eq (Nat.le_of_ble_eq_true rfl) ?_ Q
      show XP (d + 7) 126 0 [some (vR 0), some (vI c)] [] (Zc h T1 T2 W f rw_ s) _
      refine xpk_sound (stops := []) (n := 60) ?_
      simp only [sk_0, sk_1, sk_2, sk_3, sk_4, sk_5, sk_6, sk_7, sk_8, sk_iadd, sk_isub, sk_imul, sk_iand, sk_ior, sk_ixor, sk_ishl, sk_ishr, sk_iushr, sk_idiv, sk_irem, sk_ineg, sk_ladd, sk_lsub, sk_lmul, sk_land, sk_lor, sk_ldiv, sk_lrem, sk_lneg, sk_lshl, sk_lshr, sk_i2l, sk_l2i, sk_lcmp, sk_dupI, sk_dupR, sk_dup2L, sk_dup2I, sk_popI, sk_ifeq, sk_ifne, sk_iflt, sk_ifge, sk_ifgt, sk_ifle, sk_iceq, sk_icne, sk_iclt, sk_icge, sk_icgt, sk_icle, sk_goto, sk_getf, sk_putf, sk_gets, sk_iald, sk_lald, sk_bald, sk_aald, sk_iast, sk_last, sk_bast, sk_aast, sk_alen, sk_newa, sk_newt, sk_new, sk_cs1, sk_cs2, sk_cs3, sk_cs4, sk_cs5, sk_cs6, sk_cv1, sk_cv2, sk_cv3, sk_cv4, sk_cv5, sk_cv6, sk_ci1, sk_ci2, sk_ci3, sk_ret0, sk_retI, sk_retL, sk_retR, sk_sw, sk_oin, sk_max, sk_min, sk_abs, lI_0, lI_s, lL_0, lL_s, lR_0, lR_s, vIo_e, vLo_e, vOo_e, stW_I, stW_L, stW_R, stW_0, stW_z, okSt_0, okSt_s, hV_eq, hK_eq, okF_0, okF_1, okF_3, is01_0, is01_1, is01_i, Int.toNat_natCast, Int.reduceEq, Int.reduceLE, Int.reduceLT, Int.reduceNeg, Nat.reduceLT, not_true_eq_false, not_false_eq_true, reduceIte, Option.toList, List.cons_append, List.nil_append, List.set_cons_zero, List.set_cons_succ, List.not_mem_nil, List.mem_cons, if_false, if_true, ite_true, ite_false, and_self, and_true, true_and, Nat.reduceAdd, Nat.reduceLeDiff, Nat.reduceEqDiff, Nat.zero_add, Nat.le_refl, Nat.zero_le, or_false, false_or, Int.reduceToNat, or_true, true_or, eq_self, and_false, false_and, inR_d, nc_4, nc_5, nc_6, nc_7, nc_8, nc_16, nc_18, nc_20, nc_24, nc_32, nc_40, nc_64, nc_104, nc_120, nc_160, nc_256, nc_300, nc_330, nc_390, nc_1200, nc_1260, nc_3012, nc_9834, okSt_1i, okSt_1r, okSt_1n, List.length_cons, List.length_nil, xpk_succ cd_126_0, xpk_succ cd_126_1, xpk_succ cd_126_2, xpk_succ cd_126_3, xpk_succ cd_126_6, xpk_succ cd_126_9, xpk_succ cd_126_10, xpk_succ cd_126_11, xpk_succ cd_126_14, xpk_succ cd_126_17, xpk_succ cd_126_18, xpk_succ cd_126_19, xpk_succ cd_126_20, xpk_succ cd_126_23, xpk_succ cd_126_26, xpk_succ cd_126_27, xpk_succ cd_126_30, xpk_succ cd_126_33, xpk_succ cd_126_34, xpk_succ cd_126_35, xpk_succ cd_126_38, xpk_succ cd_126_41, xpk_succ cd_126_42, xpk_succ cd_126_45, xpk_succ cd_126_48, xpk_succ cd_126_51, Zc_k, (K_0 hJ), (K_1 hJ), (K_2 hJ), (K_5 hJ), (K_6 hJ), (K_9 hJ), (K_10 hJ), (K_21 hJ), (K_58 hJ), (Zp_0_0 hJ), (Zp_0_2 hJ), (Zp_0_3 hJ), (Zp_0_4 hJ), (Zp_1_0 hJ), (Zp_1_4 hJ), (Zp_1_6 hJ), (Zp_1_13 hJ), (Zp_1_14 hJ), ew, ef]
  · have ew : ∀ Q : Option AV → AH → Prop, XC (d + 7) 177 [vI c, vI (-1), vI 1] (Zc h T1 T2 W f rw_ s) Q = Q (some (vI 0)) (Zc h T1 T2 W f rw_ s) := fun Q => by rw [ew Q, if_neg z]
    refine ⟨s, hs, fun Q => ?_⟩
    rw [if_neg (fun w => z w.1)]
    refine XC_eq (Nat.le_of_ble_eq_true rfl) ?_ Q
    show XP (d + 7) 126 0 [some (vR 0), some (vI c)] [] (Zc h T1 T2 W f rw_ s) _
    refine xpk_sound (stops := []) (n := 60) ?_
    simp only [sk_0, sk_1, sk_2, sk_3, sk_4, sk_5, sk_6, sk_7, sk_8, sk_iadd, sk_isub, sk_imul, sk_iand, sk_ior, sk_ixor, sk_ishl, sk_ishr, sk_iushr, sk_idiv, sk_irem, sk_ineg, sk_ladd, sk_lsub, sk_lmul, sk_land, sk_lor, sk_ldiv, sk_lrem, sk_lneg, sk_lshl, sk_lshr, sk_i2l, sk_l2i, sk_lcmp, sk_dupI, sk_dupR, sk_dup2L, sk_dup2I, sk_popI, sk_ifeq, sk_ifne, sk_iflt, sk_ifge, sk_ifgt, sk_ifle, sk_iceq, sk_icne, sk_iclt, sk_icge, sk_icgt, sk_icle, sk_goto, sk_getf, sk_putf, sk_gets, sk_iald, sk_lald, sk_bald, sk_aald, sk_iast, sk_last, sk_bast, sk_aast, sk_alen, sk_newa, sk_newt, sk_new, sk_cs1, sk_cs2, sk_cs3, sk_cs4, sk_cs5, sk_cs6, sk_cv1, sk_cv2, sk_cv3, sk_cv4, sk_cv5, sk_cv6, sk_ci1, sk_ci2, sk_ci3, sk_ret0, sk_retI, sk_retL, sk_retR, sk_sw, sk_oin, sk_max, sk_min, sk_abs, lI_0, lI_s, lL_0, lL_s, lR_0, lR_s, vIo_e, vLo_e, vOo_e, stW_I, stW_L, stW_R, stW_0, stW_z, okSt_0, okSt_s, hV_eq, hK_eq, okF_0, okF_1, okF_3, is01_0, is01_1, is01_i, Int.toNat_natCast, Int.reduceEq, Int.reduceLE, Int.reduceLT, Int.reduceNeg, Nat.reduceLT, not_true_eq_false, not_false_eq_true, reduceIte, Option.toList, List.cons_append, List.nil_append, List.set_cons_zero, List.set_cons_succ, List.not_mem_nil, List.mem_cons, if_false, if_true, ite_true, ite_false, and_self, and_true, true_and, Nat.reduceAdd, Nat.reduceLeDiff, Nat.reduceEqDiff, Nat.zero_add, Nat.le_refl, Nat.zero_le, or_false, false_or, Int.reduceToNat, or_true, true_or, eq_self, and_false, false_and, inR_d, nc_4, nc_5, nc_6, nc_7, nc_8, nc_16, nc_18, nc_20, nc_24, nc_32, nc_40, nc_64, nc_104, nc_120, nc_160, nc_256, nc_300, nc_330, nc_390, nc_1200, nc_1260, nc_3012, nc_9834, okSt_1i, okSt_1r, okSt_1n, List.length_cons, List.length_nil, xpk_succ cd_126_0, xpk_succ cd_126_1, xpk_succ cd_126_2, xpk_succ cd_126_3, xpk_succ cd_126_6, xpk_succ cd_126_9, xpk_succ cd_126_10, xpk_succ cd_126_11, xpk_succ cd_126_14, xpk_succ cd_126_17, xpk_succ cd_126_18, xpk_succ cd_126_19, xpk_succ cd_126_20, xpk_succ cd_126_23, xpk_succ cd_126_26, xpk_succ cd_126_27, xpk_succ cd_126_30, xpk_succ cd_126_33, xpk_succ cd_126_34, xpk_succ cd_126_35, xpk_succ cd_126_38, xpk_succ cd_126_41, xpk_succ cd_126_42, xpk_succ cd_126_45, xpk_succ cd_126_48, xpk_succ cd_126_51, Zc_k, (K_0 hJ), (K_1 hJ), (K_2 hJ), (K_5 hJ), (K_6 hJ), (K_9 hJ), (K_10 hJ), (K_21 hJ), (K_58 hJ), (Zp_0_0 hJ), (Zp_0_2 hJ), (Zp_0_3 hJ), (Zp_0_4 hJ), (Zp_1_0 hJ), (Zp_1_4 hJ), (Zp_1_6 hJ), (Zp_1_13 hJ), (Zp_1_14 hJ), ew]
/-- some tenths by the hand -/
abbrev STC : Type := (Nat → Nat → Int) × (Nat → Int) × (Nat → Int) × Nat × Nat
def rn1 (cs : List cCl) (S : STC) : STC := (ksW S.1 S.2.1 S.2.2.2.1, TNf cs S.2.1 S.2.2.1 1260 S.2.2.2.2 (cmT cs S.2.1 S.2.2.1 1260 S.2.2.2.2), rwT S.2.1 S.2.2.1 1260 S.2.2.2.2 (cmT cs S.2.1 S.2.2.1 1260 S.2.2.2.2), (S.2.2.2.1 + 1) % 30, S.2.2.2.2 + 1)
def rnS (cs : List cCl) : Nat → STC → STC
  | 0, S => S
  | n + 1, S => rnS cs n (rn1 cs S)
def SCk (S : STC) : Prop := HKs S.2.1 ∧ S.2.1 9 = (S.2.2.2.2 : Int) ∧ S.1 1 7 = (S.2.2.2.1 : Int) ∧ S.2.2.2.1 < 30 ∧ 0 ≤ S.1 1 8 ∧ S.1 1 8 ≤ 30
def ZSc (h : AH) (T1 T2 : Nat) (S : STC) (s : SCR) : AH := Zc h T1 T2 S.1 S.2.1 S.2.2.1 s
theorem ksW_7 {W : Nat → Nat → Int} {f : Nat → Int} {m : Nat} : ksW W f m 1 7 = (((m + 1) % 30 : Nat) : Int) := (upW_ne (by decide)).trans upW_at
theorem ksW_8 {W : Nat → Nat → Int} {f : Nat → Int} {m : Nat} : ksW W f m 1 8 = min 30 (W 1 8 + 1) := upW_at
theorem HKs_n {cs : List cCl} {f rw_ : Nat → Int} {t : Nat} {c : Int} (hf : HKs f) (h9 : f 9 = (t : Int)) (ht : t < 19999) : HKs (TNf cs f rw_ 1260 t c) ∧ TNf cs f rw_ 1260 t c 9 = ((t + 1 : Nat) : Int) := by
  obtain ⟨v1, v2, v3, _, _⟩ := TN_v (cs := cs) (rw_ := rw_) (sz := 1260) (t := t) (c := c) hf
  exact ⟨⟨v1, v2, by omega⟩, by omega⟩
theorem rn1_k {cs : List cCl} {S : STC} (h : SCk S) (ht : S.2.2.2.2 < 9999) : SCk (rn1 cs S) := by
  obtain ⟨h1, h2, h3, h4, h5, h6⟩ := h
  obtain ⟨a, b⟩ := HKs_n (cs := cs) (rw_ := S.2.2.1) (c := cmT cs S.2.1 S.2.2.1 1260 S.2.2.2.2) h1 h2 (by omega)
  refine ⟨a, b, ksW_7 (W := S.1) (f := S.2.1) (m := S.2.2.2.1), Nat.mod_lt _ (by decide), ?_, ?_⟩
  · show 0 ≤ ksW S.1 S.2.1 S.2.2.2.1 1 8
    rw [ksW_8]; omega
  · show ksW S.1 S.2.1 S.2.2.2.1 1 8 ≤ 30
    rw [ksW_8]; omega
def rnQ (h : AH) (T : Nat) (S : STC) (n : Int) (r : Option AV) (g : AH) : Prop := r = some (vI n) ∧ ∃ s : SCR, SOK s ∧ g = ZSc h T T S s
set_option maxHeartbeats 4000000 in
theorem rn_l {d T : Nat} {h : AH} {cs : List cCl} (hJ : k_H JB h) (hl : LWC h T cs) (hc : CST cs) {v : Int} : ∀ (n : Nat) (k cn : Nat) (S : STC) (s : SCR), k + n = cn → cn ≤ 9999 → SCk S → S.2.2.2.2 + n ≤ 9999 → SOK s → XP (d + 7) 128 27 [some (vR 0), some (vI v), some (vR 58), some (vI (cn : Int)), some (vI (k : Int))] [] (ZSc h T T S s) (rnQ h T (rnS cs n S) (cn : Int)) := by
  intro n
  induction n with
  | zero =>
    intro k cn S s hk hcn hS ht hs
    obtain rfl : k = cn := hk
    have c1 : (k : Int) ≤ (k : Int) := Int.le_refl _
    have y : rnQ h T (rnS cs 0 S) (k : Int) (some (vI (k : Int))) (ZSc h T T S s) := ⟨rfl, s, hs, rfl⟩
    unfold ZSc at y ⊢
    refine xpk_sound (stops := []) (n := 12) ?_
    simp only [sk_0, sk_1, sk_2, sk_3, sk_4, sk_5, sk_6, sk_7, sk_8, sk_iadd, sk_isub, sk_imul, sk_iand, sk_ior, sk_ixor, sk_ishl, sk_ishr, sk_iushr, sk_idiv, sk_irem, sk_ineg, sk_ladd, sk_lsub, sk_lmul, sk_land, sk_lor, sk_ldiv, sk_lrem, sk_lneg, sk_lshl, sk_lshr, sk_i2l, sk_l2i, sk_lcmp, sk_dupI, sk_dupR, sk_dup2L, sk_dup2I, sk_popI, sk_ifeq, sk_ifne, sk_iflt, sk_ifge, sk_ifgt, sk_ifle, sk_iceq, sk_icne, sk_iclt, sk_icge, sk_icgt, sk_icle, sk_goto, sk_getf, sk_putf, sk_gets, sk_iald, sk_lald, sk_bald, sk_aald, sk_iast, sk_last, sk_bast, sk_aast, sk_alen, sk_newa, sk_newt, sk_new, sk_cs1, sk_cs2, sk_cs3, sk_cs4, sk_cs5, sk_cs6, sk_cv1, sk_cv2, sk_cv3, sk_cv4, sk_cv5, sk_cv6, sk_ci1, sk_ci2, sk_ci3, sk_ret0, sk_retI, sk_retL, sk_retR, sk_sw, sk_oin, sk_max, sk_min, sk_abs, lI_0, lI_s, lL_0, lL_s, lR_0, lR_s, vIo_e, vLo_e, vOo_e, stW_I, stW_L, stW_R, stW_0, stW_z, okSt_0, okSt_s, hV_eq, hK_eq, okF_0, okF_1, okF_3, is01_0, is01_1, is01_i, Int.toNat_natCast, Int.reduceEq, Int.reduceLE, Int.reduceLT, Int.reduceNeg, Nat.reduceLT, not_true_eq_false, not_false_eq_true, reduceIte, Option.toList, List.cons_append, List.nil_append, List.set_cons_zero, List.set_cons_succ, List.not_mem_nil, List.mem_cons, if_false, if_true, ite_true, ite_false, and_self, and_true, true_and, Nat.reduceAdd, Nat.reduceLeDiff, Nat.reduceEqDiff, Nat.zero_add, Nat.le_refl, Nat.zero_le, or_false, false_or, Int.reduceToNat, or_true, true_or, eq_self, and_false, false_and, inR_d, nc_4, nc_5, nc_6, nc_7, nc_8, nc_16, nc_18, nc_20, nc_24, nc_32, nc_40, nc_64, nc_104, nc_120, nc_160, nc_256, nc_300, nc_330, nc_390, nc_1200, nc_1260, nc_3012, nc_9834, okSt_1i, okSt_1r, okSt_1n, List.length_cons, List.length_nil, xpk_succ cd_128_27, xpk_succ cd_128_29, xpk_succ cd_128_30, xpk_succ cd_128_33, xpk_succ cd_128_34, xpk_succ cd_128_37, xpk_succ cd_128_40, xpk_succ cd_128_41, xpk_succ cd_128_44, xpk_succ cd_128_47, xpk_succ cd_128_48, xpk_succ cd_128_49, xpk_succ cd_128_52, xpk_succ cd_128_55, xpk_succ cd_128_58, xpk_succ cd_128_59, xpk_succ cd_128_62, xpk_succ cd_128_65, xpk_succ cd_128_68, xpk_succ cd_128_69, (eq_true c1)]
    exact y
  | succ n ih =>
    intro k cn S s hk hcn hS ht hs
    have hS2 := hS
    obtain ⟨h1, h2, h3, h4, h5, h6⟩ := hS2
    obtain ⟨W, f, rw_, m, t⟩ := S
    have ek := fun Q => E_ks (d := d + 5) (h := h) (T1 := T) (T2 := T) (W := W) (f := f) (rw_ := rw_) (s := s) hJ h3 h4 ⟨h5, h6⟩ Q
    obtain ⟨s1, hs1, ec⟩ := E_cmZ (d := d + 1) (h := h) (T1 := T) (T2 := T) (W := ksW W f m) (rw_ := rw_) hJ hl hc h1 h2 hs
    have cr := cmT_r (cs := cs) (f := f) (rw_ := rw_) (sz := 1260) (t := t)
    obtain ⟨s2, hs2, et⟩ := E_tbZ (d := d) (h := h) (T1 := T) (T2 := T) (W := ksW W f m) (rw_ := rw_) hJ hl hc h1 h2 hs1 cr.1 cr.2
    have y := ih (k + 1) cn (rn1 cs (W, f, rw_, m, t)) s2 (by omega) hcn (rn1_k hS (show t < 9999 by have ht : t + (n + 1) ≤ 9999 := ht; omega)) (by have ht : t + (n + 1) ≤ 9999 := ht; show t + 1 + n ≤ 9999; omega) hs2
    have c1 : ¬ ((cn : Int) ≤ (k : Int)) := by omega
    have w1 : WE ((k : Int) + 1) ((k + 1 : Nat) : Int) := by unfold WE w32; omega
    unfold ZSc rn1 at y
    show XP (d + 7) 128 27 _ [] (Zc h T T W f rw_ s) _
    refine xpk_sound (stops := [27]) (n := 50) ?_
    simp only [sk_0, sk_1, sk_2, sk_3, sk_4, sk_5, sk_6, sk_7, sk_8, sk_iadd, sk_isub, sk_imul, sk_iand, sk_ior, sk_ixor, sk_ishl, sk_ishr, sk_iushr, sk_idiv, sk_irem, sk_ineg, sk_ladd, sk_lsub, sk_lmul, sk_land, sk_lor, sk_ldiv, sk_lrem, sk_lneg, sk_lshl, sk_lshr, sk_i2l, sk_l2i, sk_lcmp, sk_dupI, sk_dupR, sk_dup2L, sk_dup2I, sk_popI, sk_ifeq, sk_ifne, sk_iflt, sk_ifge, sk_ifgt, sk_ifle, sk_iceq, sk_icne, sk_iclt, sk_icge, sk_icgt, sk_icle, sk_goto, sk_getf, sk_putf, sk_gets, sk_iald, sk_lald, sk_bald, sk_aald, sk_iast, sk_last, sk_bast, sk_aast, sk_alen, sk_newa, sk_newt, sk_new, sk_cs1, sk_cs2, sk_cs3, sk_cs4, sk_cs5, sk_cs6, sk_cv1, sk_cv2, sk_cv3, sk_cv4, sk_cv5, sk_cv6, sk_ci1, sk_ci2, sk_ci3, sk_ret0, sk_retI, sk_retL, sk_retR, sk_sw, sk_oin, sk_max, sk_min, sk_abs, lI_0, lI_s, lL_0, lL_s, lR_0, lR_s, vIo_e, vLo_e, vOo_e, stW_I, stW_L, stW_R, stW_0, stW_z, okSt_0, okSt_s, hV_eq, hK_eq, okF_0, okF_1, okF_3, is01_0, is01_1, is01_i, Int.toNat_natCast, Int.reduceEq, Int.reduceLE, Int.reduceLT, Int.reduceNeg, Nat.reduceLT, not_true_eq_false, not_false_eq_true, reduceIte, Option.toList, List.cons_append, List.nil_append, List.set_cons_zero, List.set_cons_succ, List.not_mem_nil, List.mem_cons, if_false, if_true, ite_true, ite_false, and_self, and_true, true_and, Nat.reduceAdd, Nat.reduceLeDiff, Nat.reduceEqDiff, Nat.zero_add, Nat.le_refl, Nat.zero_le, or_false, false_or, Int.reduceToNat, or_true, true_or, eq_self, and_false, false_and, inR_d, nc_4, nc_5, nc_6, nc_7, nc_8, nc_16, nc_18, nc_20, nc_24, nc_32, nc_40, nc_64, nc_104, nc_120, nc_160, nc_256, nc_300, nc_330, nc_390, nc_1200, nc_1260, nc_3012, nc_9834, okSt_1i, okSt_1r, okSt_1n, List.length_cons, List.length_nil, xpk_succ cd_128_27, xpk_succ cd_128_29, xpk_succ cd_128_30, xpk_succ cd_128_33, xpk_succ cd_128_34, xpk_succ cd_128_37, xpk_succ cd_128_40, xpk_succ cd_128_41, xpk_succ cd_128_44, xpk_succ cd_128_47, xpk_succ cd_128_48, xpk_succ cd_128_49, xpk_succ cd_128_52, xpk_succ cd_128_55, xpk_succ cd_128_58, xpk_succ cd_128_59, xpk_succ cd_128_62, xpk_succ cd_128_65, xpk_succ cd_128_68, xpk_succ cd_128_69, Zc_k, (K_0 hJ), (K_1 hJ), (K_2 hJ), (K_5 hJ), (K_6 hJ), (K_9 hJ), (K_10 hJ), (K_21 hJ), (K_58 hJ), (Zp_0_0 hJ), (Zp_0_2 hJ), (Zp_0_3 hJ), (Zp_0_4 hJ), (Zp_1_0 hJ), (Zp_1_4 hJ), (Zp_1_6 hJ), (Zp_1_13 hJ), (Zp_1_14 hJ), c1, ek, ec, et, (WE_e w1)]
    exact y
set_option maxHeartbeats 4000000 in
theorem E_rnT {h : AH} {T1 T2 : Nat} {W : Nat → Nat → Int} {f rw_ : Nat → Int} {s : SCR} {d m t n : Nat} {T : Nat} {cs : List cCl} (hJ : k_H JB h) (hr : RUL h T) (hl : LWC h T cs) (hc : CST cs) (hf : HKs f) (h9 : f 9 = (t : Int)) (ht : t ≤ 9999) (hs : SOK s) (h7 : W 1 7 = (m : Int)) (hm : m < 30) (h8 : 0 ≤ W 1 8 ∧ W 1 8 ≤ 30) (hn : n ≤ 60) : XC (d + 8) 128 [vR 0, vI (n : Int)] (Zc h T1 T2 W f rw_ s) (rnQ h T (rnS cs (min n (9999 - t)) (W, f, rw_, m, t)) ((min n (9999 - t) : Nat) : Int)) := by
  refine XC_of (Nat.le_of_ble_eq_true rfl) ?_
  show XP (d + 7) 128 0 [some (vR 0), some (vI (n : Int)), none, none, none] [] (Zc h T1 T2 W f rw_ s) _
  obtain ⟨cn, hcn⟩ : ∃ cn, min n (9999 - t) = cn := ⟨_, rfl⟩
  rw [hcn]
  have er := fun Q => E_rul (d := d + 4) (T1 := T1) (T2 := T2) (W := W) (f := f) (rw_ := rw_) (s := s) hJ hr Q
  have y := rn_l (d := d) hJ hl hc (v := (n : Int)) cn 0 cn (W, f, rw_, m, t) s (by omega) (by omega) ⟨hf, h9, h7, hm, h8.1, h8.2⟩ (show t + cn ≤ 9999 by omega) hs
  have w1 : WE (9999 - (t : Int)) (9999 - (t : Int)) := by unfold WE w32; omega
  have e1 : min (n : Int) (9999 - (t : Int)) = (cn : Int) := by omega
  have v9 : hV (Zc h T T W f rw_ s) 2 9 = vI (t : Int) := (Zc_f (by decide) (by decide)).trans (congrArg vI h9)
  unfold ZSc at y
  refine xpk_sound (stops := [27]) (n := 50) ?_
  simp only [sk_0, sk_1, sk_2, sk_3, sk_4, sk_5, sk_6, sk_7, sk_8, sk_iadd, sk_isub, sk_imul, sk_iand, sk_ior, sk_ixor, sk_ishl, sk_ishr, sk_iushr, sk_idiv, sk_irem, sk_ineg, sk_ladd, sk_lsub, sk_lmul, sk_land, sk_lor, sk_ldiv, sk_lrem, sk_lneg, sk_lshl, sk_lshr, sk_i2l, sk_l2i, sk_lcmp, sk_dupI, sk_dupR, sk_dup2L, sk_dup2I, sk_popI, sk_ifeq, sk_ifne, sk_iflt, sk_ifge, sk_ifgt, sk_ifle, sk_iceq, sk_icne, sk_iclt, sk_icge, sk_icgt, sk_icle, sk_goto, sk_getf, sk_putf, sk_gets, sk_iald, sk_lald, sk_bald, sk_aald, sk_iast, sk_last, sk_bast, sk_aast, sk_alen, sk_newa, sk_newt, sk_new, sk_cs1, sk_cs2, sk_cs3, sk_cs4, sk_cs5, sk_cs6, sk_cv1, sk_cv2, sk_cv3, sk_cv4, sk_cv5, sk_cv6, sk_ci1, sk_ci2, sk_ci3, sk_ret0, sk_retI, sk_retL, sk_retR, sk_sw, sk_oin, sk_max, sk_min, sk_abs, lI_0, lI_s, lL_0, lL_s, lR_0, lR_s, vIo_e, vLo_e, vOo_e, stW_I, stW_L, stW_R, stW_0, stW_z, okSt_0, okSt_s, hV_eq, hK_eq, okF_0, okF_1, okF_3, is01_0, is01_1, is01_i, Int.toNat_natCast, Int.reduceEq, Int.reduceLE, Int.reduceLT, Int.reduceNeg, Nat.reduceLT, not_true_eq_false, not_false_eq_true, reduceIte, Option.toList, List.cons_append, List.nil_append, List.set_cons_zero, List.set_cons_succ, List.not_mem_nil, List.mem_cons, if_false, if_true, ite_true, ite_false, and_self, and_true, true_and, Nat.reduceAdd, Nat.reduceLeDiff, Nat.reduceEqDiff, Nat.zero_add, Nat.le_refl, Nat.zero_le, or_false, false_or, Int.reduceToNat, or_true, true_or, eq_self, and_false, false_and, inR_d, nc_4, nc_5, nc_6, nc_7, nc_8, nc_16, nc_18, nc_20, nc_24, nc_32, nc_40, nc_64, nc_104, nc_120, nc_160, nc_256, nc_300, nc_330, nc_390, nc_1200, nc_1260, nc_3012, nc_9834, okSt_1i, okSt_1r, okSt_1n, List.length_cons, List.length_nil, xpk_succ cd_128_0, xpk_succ cd_128_1, xpk_succ cd_128_4, xpk_succ cd_128_5, xpk_succ cd_128_6, xpk_succ cd_128_9, xpk_succ cd_128_10, xpk_succ cd_128_13, xpk_succ cd_128_16, xpk_succ cd_128_19, xpk_succ cd_128_20, xpk_succ cd_128_23, xpk_succ cd_128_24, xpk_succ cd_128_25, Zc_k, (K_0 hJ), (K_1 hJ), (K_2 hJ), (K_5 hJ), (K_6 hJ), (K_9 hJ), (K_10 hJ), (K_21 hJ), (K_58 hJ), (Zp_0_0 hJ), (Zp_0_2 hJ), (Zp_0_3 hJ), (Zp_0_4 hJ), (Zp_1_0 hJ), (Zp_1_4 hJ), (Zp_1_6 hJ), (Zp_1_13 hJ), (Zp_1_14 hJ), er, v9, (WE_e w1), e1]
  exact y
theorem rnS_k {cs : List cCl} : ∀ (n : Nat) (S : STC), SCk S → S.2.2.2.2 + n ≤ 9999 → SCk (rnS cs n S) ∧ (rnS cs n S).2.2.2.2 = S.2.2.2.2 + n
  | 0, S, h, _ => ⟨h, rfl⟩
  | n + 1, S, h, ht => by
    obtain ⟨a, b⟩ := rnS_k n (rn1 cs S) (rn1_k h (by omega)) (by show S.2.2.2.2 + 1 + n ≤ 9999; omega)
    exact ⟨a, by rw [show rnS cs (n + 1) S = rnS cs n (rn1 cs S) from rfl, b]; show S.2.2.2.2 + 1 + n = S.2.2.2.2 + (n + 1); omega⟩
set_option maxHeartbeats 4000000 in
theorem E_run {h : AH} {T1 T2 : Nat} {W : Nat → Nat → Int} {f rw_ : Nat → Int} {s : SCR} {d m t : Nat} {T : Nat} {cs : List cCl} (hJ : k_H JB h) (hr : RUL h T) (hl : LWC h T cs) (hc : CST cs) (hf : HKs f) (h9 : f 9 = (t : Int)) (ht : t ≤ 9999) (hs : SOK s) (h7 : W 1 7 = (m : Int)) (hm : m < 30) (h8 : 0 ≤ W 1 8 ∧ W 1 8 ≤ 30) {n : Int} : ∃ s' : SCR, SOK s' ∧ ∀ Q : Option AV → AH → Prop, XC (d + 9) 127 [vR 0, vI n] (Zc h T1 T2 W f rw_ s) Q = if (1 ≤ n ∧ n ≤ 60) ∧ (t : Int) + n ≤ 9999 then Q (some (vI ((rnS cs n.toNat (W, f, rw_, m, t)).2.1 1))) (ZSc h T T (rnS cs n.toNat (W, f, rw_, m, t)) s') else Q (some (vI (-1))) (Zc h T1 T2 W f rw_ s) := by
  have ew := fun Q => X_wn (d := d + 7) (v := n) (lo := 1) (hi := 60) (h := Zc h T1 T2 W f rw_ s) Q
  by_cases z : 1 ≤ n ∧ n ≤ 60
  · have ew : ∀ Q : Option AV → AH → Prop, XC (d + 8) 177 [vI n, vI 1, vI 60] (Zc h T1 T2 W f rw_ s) Q = Q (some (vI 1)) (Zc h T1 T2 W f rw_ s) := fun Q => by rw [ew Q, if_pos z]
    have ef := fun Q => E_fit (d := d + 7) (T1 := T1) (T2 := T2) (W := W) (f := f) (rw_ := rw_) (s := s) hJ (n := n) (by rw [h9]; unfold WE w32; omega) Q
    by_cases y : (t : Int) + n ≤ 9999
    · have ef : ∀ Q : Option AV → AH → Prop, XC (d + 8) 129 [vR 0, vI n] (Zc h T1 T2 W f rw_ s) Q = Q (some (vI 1)) (Zc h T1 T2 W f rw_ s) := fun Q => by rw [ef Q, if_pos (by omega)]
      have en : ((n.toNat : Nat) : Int) = n := by omega
      obtain ⟨r, g, ⟨hr1, s', hs', hg⟩, er⟩ := XC_dt (E_rnT (d := d) (T1 := T1) (T2 := T2) (rw_ := rw_) (n := n.toNat) hJ hr hl hc hf h9 ht hs h7 hm h8 (by omega))
      subst hr1 hg
      have e2 : min n.toNat (9999 - t) = n.toNat := by omega
      rw [e2, en] at er
      refine ⟨s', hs', fun Q => ?_⟩
      rw [if_pos ⟨z, y⟩]
      refine XC_eq (Nat.le_of_ble_eq_true rfl) ?_ Q
      show XP (d + 8) 127 0 [some (vR 0), some (vI n)] [] (Zc h T1 T2 W f rw_ s) _
      unfold ZSc at er ⊢
      refine xpk_sound (stops := []) (n := 60) ?_
      simp only [sk_0, sk_1, sk_2, sk_3, sk_4, sk_5, sk_6, sk_7, sk_8, sk_iadd, sk_isub, sk_imul, sk_iand, sk_ior, sk_ixor, sk_ishl, sk_ishr, sk_iushr, sk_idiv, sk_irem, sk_ineg, sk_ladd, sk_lsub, sk_lmul, sk_land, sk_lor, sk_ldiv, sk_lrem, sk_lneg, sk_lshl, sk_lshr, sk_i2l, sk_l2i, sk_lcmp, sk_dupI, sk_dupR, sk_dup2L, sk_dup2I, sk_popI, sk_ifeq, sk_ifne, sk_iflt, sk_ifge, sk_ifgt, sk_ifle, sk_iceq, sk_icne, sk_iclt, sk_icge, sk_icgt, sk_icle, sk_goto, sk_getf, sk_putf, sk_gets, sk_iald, sk_lald, sk_bald, sk_aald, sk_iast, sk_last, sk_bast, sk_aast, sk_alen, sk_newa, sk_newt, sk_new, sk_cs1, sk_cs2, sk_cs3, sk_cs4, sk_cs5, sk_cs6, sk_cv1, sk_cv2, sk_cv3, sk_cv4, sk_cv5, sk_cv6, sk_ci1, sk_ci2, sk_ci3, sk_ret0, sk_retI, sk_retL, sk_retR, sk_sw, sk_oin, sk_max, sk_min, sk_abs, lI_0, lI_s, lL_0, lL_s, lR_0, lR_s, vIo_e, vLo_e, vOo_e, stW_I, stW_L, stW_R, stW_0, stW_z, okSt_0, okSt_s, hV_eq, hK_eq, okF_0, okF_1, okF_3, is01_0, is01_1, is01_i, Int.toNat_natCast, Int.reduceEq, Int.reduceLE, Int.reduceLT, Int.reduceNeg, Nat.reduceLT, not_true_eq_false, not_false_eq_true, reduceIte, Option.toList, List.cons_append, List.nil_append, List.set_cons_zero, List.set_cons_succ, List.not_mem_nil, List.mem_cons, if_false, if_true, ite_true, ite_false, and_self, and_true, true_and, Nat.reduceAdd, Nat.reduceLeDiff, Nat.reduceEqDiff, Nat.zero_add, Nat.le_refl, Nat.zero_le, or_false, false_or, Int.reduceToNat, or_true, true_or, eq_self, and_false, false_and, inR_d, nc_4, nc_5, nc_6, nc_7, nc_8, nc_16, nc_18, nc_20, nc_24, nc_32, nc_40, nc_64, nc_104, nc_120, nc_160, nc_256, nc_300, nc_330, nc_390, nc_1200, nc_1260, nc_3012, nc_9834, okSt_1i, okSt_1r, okSt_1n, List.length_cons, List.length_nil, xpk_succ cd_127_0, xpk_succ cd_127_1, xpk_succ cd_127_2, xpk_succ cd_127_4, xpk_succ cd_127_7, xpk_succ cd_127_10, xpk_succ cd_127_11, xpk_succ cd_127_12, xpk_succ cd_127_15, xpk_succ cd_127_18, xpk_succ cd_127_19, xpk_succ cd_127_20, xpk_succ cd_127_21, xpk_succ cd_127_22, xpk_succ cd_127_25, xpk_succ cd_127_26, xpk_succ cd_127_27, xpk_succ cd_127_30, xpk_succ cd_127_33, xpk_succ cd_127_36, Zc_k, (K_0 hJ), (K_1 hJ), (K_2 hJ), (K_5 hJ), (K_6 hJ), (K_9 hJ), (K_10 hJ), (K_21 hJ), (K_58 hJ), (Zp_0_0 hJ), (Zp_0_2 hJ), (Zp_0_3 hJ), (Zp_0_4 hJ), (Zp_1_0 hJ), (Zp_1_4 hJ), (Zp_1_6 hJ), (Zp_1_13 hJ), (Zp_1_14 hJ), (Zc_f (i := 1) (by decide) (by decide)), ew, ef, er]
    · have ef : ∀ Q : Option AV → AH → Prop, XC (d + 8) 129 [vR 0, vI n] (Zc h T1 T2 W f rw_ s) Q = Q (some (vI 0)) (Zc h T1 T2 W f rw_ s) := fun Q => by rw [ef Q, if_neg (by omega)]
      refine ⟨s, hs, fun Q => ?_⟩
      rw [if_neg (fun w => y w.2)]
      refine XC_eq (Nat.le_of_ble_eq_true rfl) ?_ Q
      show XP (d + 8) 127 0 [some (vR 0), some (vI n)] [] (Zc h T1 T2 W f rw_ s) _
      refine xpk_sound (stops := []) (n := 60) ?_
      simp only [sk_0, sk_1, sk_2, sk_3, sk_4, sk_5, sk_6, sk_7, sk_8, sk_iadd, sk_isub, sk_imul, sk_iand, sk_ior, sk_ixor, sk_ishl, sk_ishr, sk_iushr, sk_idiv, sk_irem, sk_ineg, sk_ladd, sk_lsub, sk_lmul, sk_land, sk_lor, sk_ldiv, sk_lrem, sk_lneg, sk_lshl, sk_lshr, sk_i2l, sk_l2i, sk_lcmp, sk_dupI, sk_dupR, sk_dup2L, sk_dup2I, sk_popI, sk_ifeq, sk_ifne, sk_iflt, sk_ifge, sk_ifgt, sk_ifle, sk_iceq, sk_icne, sk_iclt, sk_icge, sk_icgt, sk_icle, sk_goto, sk_getf, sk_putf, sk_gets, sk_iald, sk_lald, sk_bald, sk_aald, sk_iast, sk_last, sk_bast, sk_aast, sk_alen, sk_newa, sk_newt, sk_new, sk_cs1, sk_cs2, sk_cs3, sk_cs4, sk_cs5, sk_cs6, sk_cv1, sk_cv2, sk_cv3, sk_cv4, sk_cv5, sk_cv6, sk_ci1, sk_ci2, sk_ci3, sk_ret0, sk_retI, sk_retL, sk_retR, sk_sw, sk_oin, sk_max, sk_min, sk_abs, lI_0, lI_s, lL_0, lL_s, lR_0, lR_s, vIo_e, vLo_e, vOo_e, stW_I, stW_L, stW_R, stW_0, stW_z, okSt_0, okSt_s, hV_eq, hK_eq, okF_0, okF_1, okF_3, is01_0, is01_1, is01_i, Int.toNat_natCast, Int.reduceEq, Int.reduceLE, Int.reduceLT, Int.reduceNeg, Nat.reduceLT, not_true_eq_false, not_false_eq_true, reduceIte, Option.toList, List.cons_append, List.nil_append, List.set_cons_zero, List.set_cons_succ, List.not_mem_nil, List.mem_cons, if_false, if_true, ite_true, ite_false, and_self, and_true, true_and, Nat.reduceAdd, Nat.reduceLeDiff, Nat.reduceEqDiff, Nat.zero_add, Nat.le_refl, Nat.zero_le, or_false, false_or, Int.reduceToNat, or_true, true_or, eq_self, and_false, false_and, inR_d, nc_4, nc_5, nc_6, nc_7, nc_8, nc_16, nc_18, nc_20, nc_24, nc_32, nc_40, nc_64, nc_104, nc_120, nc_160, nc_256, nc_300, nc_330, nc_390, nc_1200, nc_1260, nc_3012, nc_9834, okSt_1i, okSt_1r, okSt_1n, List.length_cons, List.length_nil, xpk_succ cd_127_0, xpk_succ cd_127_1, xpk_succ cd_127_2, xpk_succ cd_127_4, xpk_succ cd_127_7, xpk_succ cd_127_10, xpk_succ cd_127_11, xpk_succ cd_127_12, xpk_succ cd_127_15, xpk_succ cd_127_18, xpk_succ cd_127_19, xpk_succ cd_127_20, xpk_succ cd_127_21, xpk_succ cd_127_22, xpk_succ cd_127_25, xpk_succ cd_127_26, xpk_succ cd_127_27, xpk_succ cd_127_30, xpk_succ cd_127_33, xpk_succ cd_127_36, Zc_k, (K_0 hJ), (K_1 hJ), (K_2 hJ), (K_5 hJ), (K_6 hJ), (K_9 hJ), (K_10 hJ), (K_21 hJ), (K_58 hJ), (Zp_0_0 hJ), (Zp_0_2 hJ), (Zp_0_3 hJ), (Zp_0_4 hJ), (Zp_1_0 hJ), (Zp_1_4 hJ), (Zp_1_6 hJ), (Zp_1_13 hJ), (Zp_1_14 hJ), ew, ef]
  · have ew : ∀ Q : Option AV → AH → Prop, XC (d + 8) 177 [vI n, vI 1, vI 60] (Zc h T1 T2 W f rw_ s) Q = Q (some (vI 0)) (Zc h T1 T2 W f rw_ s) := fun Q => by rw [ew Q, if_neg z]
    refine ⟨s, hs, fun Q => ?_⟩
    rw [if_neg (fun w => z w.1)]
    refine XC_eq (Nat.le_of_ble_eq_true rfl) ?_ Q
    show XP (d + 8) 127 0 [some (vR 0), some (vI n)] [] (Zc h T1 T2 W f rw_ s) _
    refine xpk_sound (stops := []) (n := 60) ?_
    simp only [sk_0, sk_1, sk_2, sk_3, sk_4, sk_5, sk_6, sk_7, sk_8, sk_iadd, sk_isub, sk_imul, sk_iand, sk_ior, sk_ixor, sk_ishl, sk_ishr, sk_iushr, sk_idiv, sk_irem, sk_ineg, sk_ladd, sk_lsub, sk_lmul, sk_land, sk_lor, sk_ldiv, sk_lrem, sk_lneg, sk_lshl, sk_lshr, sk_i2l, sk_l2i, sk_lcmp, sk_dupI, sk_dupR, sk_dup2L, sk_dup2I, sk_popI, sk_ifeq, sk_ifne, sk_iflt, sk_ifge, sk_ifgt, sk_ifle, sk_iceq, sk_icne, sk_iclt, sk_icge, sk_icgt, sk_icle, sk_goto, sk_getf, sk_putf, sk_gets, sk_iald, sk_lald, sk_bald, sk_aald, sk_iast, sk_last, sk_bast, sk_aast, sk_alen, sk_newa, sk_newt, sk_new, sk_cs1, sk_cs2, sk_cs3, sk_cs4, sk_cs5, sk_cs6, sk_cv1, sk_cv2, sk_cv3, sk_cv4, sk_cv5, sk_cv6, sk_ci1, sk_ci2, sk_ci3, sk_ret0, sk_retI, sk_retL, sk_retR, sk_sw, sk_oin, sk_max, sk_min, sk_abs, lI_0, lI_s, lL_0, lL_s, lR_0, lR_s, vIo_e, vLo_e, vOo_e, stW_I, stW_L, stW_R, stW_0, stW_z, okSt_0, okSt_s, hV_eq, hK_eq, okF_0, okF_1, okF_3, is01_0, is01_1, is01_i, Int.toNat_natCast, Int.reduceEq, Int.reduceLE, Int.reduceLT, Int.reduceNeg, Nat.reduceLT, not_true_eq_false, not_false_eq_true, reduceIte, Option.toList, List.cons_append, List.nil_append, List.set_cons_zero, List.set_cons_succ, List.not_mem_nil, List.mem_cons, if_false, if_true, ite_true, ite_false, and_self, and_true, true_and, Nat.reduceAdd, Nat.reduceLeDiff, Nat.reduceEqDiff, Nat.zero_add, Nat.le_refl, Nat.zero_le, or_false, false_or, Int.reduceToNat, or_true, true_or, eq_self, and_false, false_and, inR_d, nc_4, nc_5, nc_6, nc_7, nc_8, nc_16, nc_18, nc_20, nc_24, nc_32, nc_40, nc_64, nc_104, nc_120, nc_160, nc_256, nc_300, nc_330, nc_390, nc_1200, nc_1260, nc_3012, nc_9834, okSt_1i, okSt_1r, okSt_1n, List.length_cons, List.length_nil, xpk_succ cd_127_0, xpk_succ cd_127_1, xpk_succ cd_127_2, xpk_succ cd_127_4, xpk_succ cd_127_7, xpk_succ cd_127_10, xpk_succ cd_127_11, xpk_succ cd_127_12, xpk_succ cd_127_15, xpk_succ cd_127_18, xpk_succ cd_127_19, xpk_succ cd_127_20, xpk_succ cd_127_21, xpk_succ cd_127_22, xpk_succ cd_127_25, xpk_succ cd_127_26, xpk_succ cd_127_27, xpk_succ cd_127_30, xpk_succ cd_127_33, xpk_succ cd_127_36, Zc_k, (K_0 hJ), (K_1 hJ), (K_2 hJ), (K_5 hJ), (K_6 hJ), (K_9 hJ), (K_10 hJ), (K_21 hJ), (K_58 hJ), (Zp_0_0 hJ), (Zp_0_2 hJ), (Zp_0_3 hJ), (Zp_0_4 hJ), (Zp_1_0 hJ), (Zp_1_4 hJ), (Zp_1_6 hJ), (Zp_1_13 hJ), (Zp_1_14 hJ), ew]
