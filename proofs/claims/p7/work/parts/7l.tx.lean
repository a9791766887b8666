set_option maxRecDepth 20000 in
theorem ac_123 : allC[123]? = some cl123 := rfl
theorem cd_123_0 : cd 123 0 = some (4, 1, 0, 0, 0, []) := cd_row ac_123 rfl
theorem cd_123_1 : cd 123 1 = some (23, 4, 9, 0, 0, []) := cd_row ac_123 rfl
theorem cd_123_4 : cd 123 4 = some (23, 7, 8, 2, 0, []) := cd_row ac_123 rfl
theorem cd_123_7 : cd 123 7 = some (0, 8, 0, 0, 4, []) := cd_row ac_123 rfl
theorem cd_123_8 : cd 123 8 = some (21, 11, 13, 2, 0, []) := cd_row ac_123 rfl
theorem cd_123_11 : cd 123 11 = some (0, 12, 0, 0, -1, []) := cd_row ac_123 rfl
theorem cd_123_12 : cd 123 12 = some (40, 13, 0, 0, 0, []) := cd_row ac_123 rfl
theorem cd_123_13 : cd 123 13 = some (4, 14, 0, 0, 0, []) := cd_row ac_123 rfl
theorem cd_123_14 : cd 123 14 = some (23, 17, 9, 9, 0, []) := cd_row ac_123 rfl
theorem cd_123_17 : cd 123 17 = some (4, 18, 0, 0, 0, []) := cd_row ac_123 rfl
theorem cd_123_18 : cd 123 18 = some (23, 21, 9, 10, 0, []) := cd_row ac_123 rfl
theorem cd_123_21 : cd 123 21 = some (4, 22, 0, 0, 0, []) := cd_row ac_123 rfl
theorem cd_123_22 : cd 123 22 = some (23, 25, 9, 11, 0, []) := cd_row ac_123 rfl
theorem cd_123_25 : cd 123 25 = some (4, 26, 0, 0, 0, []) := cd_row ac_123 rfl
theorem cd_123_26 : cd 123 26 = some (23, 29, 9, 2, 0, []) := cd_row ac_123 rfl
theorem cd_123_29 : cd 123 29 = some (4, 30, 0, 0, 0, []) := cd_row ac_123 rfl
theorem cd_123_30 : cd 123 30 = some (23, 33, 9, 0, 0, []) := cd_row ac_123 rfl
theorem cd_123_33 : cd 123 33 = some (23, 36, 8, 2, 0, []) := cd_row ac_123 rfl
theorem cd_123_36 : cd 123 36 = some (29, 37, 0, 0, 0, []) := cd_row ac_123 rfl
theorem cd_123_37 : cd 123 37 = some (46, 40, 59, 4, 4, []) := cd_row ac_123 rfl
theorem cd_123_40 : cd 123 40 = some (5, 41, 1, 0, 0, []) := cd_row ac_123 rfl
theorem cd_123_41 : cd 123 41 = some (4, 42, 0, 0, 0, []) := cd_row ac_123 rfl
theorem cd_123_42 : cd 123 42 = some (0, 43, 0, 0, 1, []) := cd_row ac_123 rfl
theorem cd_123_43 : cd 123 43 = some (24, 46, 9, 12, 2, []) := cd_row ac_123 rfl
theorem cd_123_46 : cd 123 46 = some (4, 47, 0, 0, 0, []) := cd_row ac_123 rfl
theorem cd_123_47 : cd 123 47 = some (0, 48, 0, 0, 0, []) := cd_row ac_123 rfl
theorem cd_123_48 : cd 123 48 = some (24, 51, 9, 11, 0, []) := cd_row ac_123 rfl
theorem cd_123_51 : cd 123 51 = some (2, 52, 1, 0, 0, []) := cd_row ac_123 rfl
theorem cd_123_52 : cd 123 52 = some (20, 55, 57, 1, 0, []) := cd_row ac_123 rfl
theorem cd_123_55 : cd 123 55 = some (0, 56, 0, 0, -1, []) := cd_row ac_123 rfl
theorem cd_123_56 : cd 123 56 = some (40, 57, 0, 0, 0, []) := cd_row ac_123 rfl
theorem cd_123_57 : cd 123 57 = some (4, 58, 0, 0, 0, []) := cd_row ac_123 rfl
theorem cd_123_58 : cd 123 58 = some (23, 61, 9, 0, 0, []) := cd_row ac_123 rfl
theorem cd_123_61 : cd 123 61 = some (17, 62, 0, 0, 0, []) := cd_row ac_123 rfl
theorem cd_123_62 : cd 123 62 = some (23, 65, 8, 2, 0, []) := cd_row ac_123 rfl
theorem cd_123_65 : cd 123 65 = some (0, 66, 0, 0, 1, []) := cd_row ac_123 rfl
theorem cd_123_66 : cd 123 66 = some (9, 67, 0, 0, 0, []) := cd_row ac_123 rfl
theorem cd_123_67 : cd 123 67 = some (24, 70, 8, 2, 0, []) := cd_row ac_123 rfl
theorem cd_123_70 : cd 123 70 = some (4, 71, 0, 0, 0, []) := cd_row ac_123 rfl
theorem cd_123_71 : cd 123 71 = some (23, 74, 9, 0, 0, []) := cd_row ac_123 rfl
theorem cd_123_74 : cd 123 74 = some (23, 77, 8, 2, 0, []) := cd_row ac_123 rfl
theorem cd_123_77 : cd 123 77 = some (0, 78, 0, 0, 1, []) := cd_row ac_123 rfl
theorem cd_123_78 : cd 123 78 = some (9, 79, 0, 1, 0, []) := cd_row ac_123 rfl
theorem cd_123_79 : cd 123 79 = some (40, 80, 0, 0, 0, []) := cd_row ac_123 rfl
set_option maxRecDepth 20000 in
theorem ac_232 : allC[232]? = some cl232 := rfl
theorem cd_232_0 : cd 232 0 = some (4, 1, 0, 0, 0, []) := cd_row ac_232 rfl
theorem cd_232_1 : cd 232 1 = some (23, 4, 10, 0, 0, []) := cd_row ac_232 rfl
theorem cd_232_4 : cd 232 4 = some (0, 5, 0, 0, 3, []) := cd_row ac_232 rfl
theorem cd_232_5 : cd 232 5 = some (26, 6, 0, 0, 0, []) := cd_row ac_232 rfl
theorem cd_232_6 : cd 232 6 = some (0, 7, 0, 0, 4, []) := cd_row ac_232 rfl
theorem cd_232_7 : cd 232 7 = some (21, 10, 12, 1, 0, []) := cd_row ac_232 rfl
theorem cd_232_10 : cd 232 10 = some (0, 11, 0, 0, -1, []) := cd_row ac_232 rfl
theorem cd_232_11 : cd 232 11 = some (40, 12, 0, 0, 0, []) := cd_row ac_232 rfl
theorem cd_232_12 : cd 232 12 = some (4, 13, 0, 0, 0, []) := cd_row ac_232 rfl
theorem cd_232_13 : cd 232 13 = some (4, 14, 0, 0, 0, []) := cd_row ac_232 rfl
theorem cd_232_14 : cd 232 14 = some (46, 17, 231, 1, 10, []) := cd_row ac_232 rfl
theorem cd_232_17 : cd 232 17 = some (24, 20, 10, 5, 0, []) := cd_row ac_232 rfl
theorem cd_232_20 : cd 232 20 = some (4, 21, 0, 0, 0, []) := cd_row ac_232 rfl
theorem cd_232_21 : cd 232 21 = some (4, 22, 0, 0, 0, []) := cd_row ac_232 rfl
theorem cd_232_22 : cd 232 22 = some (23, 25, 10, 5, 0, []) := cd_row ac_232 rfl
theorem cd_232_25 : cd 232 25 = some (20, 28, 32, 1, 0, []) := cd_row ac_232 rfl
theorem cd_232_28 : cd 232 28 = some (0, 29, 0, 0, -1, []) := cd_row ac_232 rfl
theorem cd_232_29 : cd 232 29 = some (22, 32, 36, 0, 0, []) := cd_row ac_232 rfl
theorem cd_232_32 : cd 232 32 = some (4, 33, 0, 0, 0, []) := cd_row ac_232 rfl
theorem cd_232_33 : cd 232 33 = some (23, 36, 10, 8, 0, []) := cd_row ac_232 rfl
theorem cd_232_36 : cd 232 36 = some (24, 39, 10, 6, 0, []) := cd_row ac_232 rfl
theorem cd_232_39 : cd 232 39 = some (4, 40, 0, 0, 0, []) := cd_row ac_232 rfl
theorem cd_232_40 : cd 232 40 = some (0, 41, 0, 0, 0, []) := cd_row ac_232 rfl
theorem cd_232_41 : cd 232 41 = some (24, 44, 10, 4, 0, []) := cd_row ac_232 rfl
theorem cd_232_44 : cd 232 44 = some (4, 45, 0, 0, 0, []) := cd_row ac_232 rfl
theorem cd_232_45 : cd 232 45 = some (23, 48, 10, 5, 0, []) := cd_row ac_232 rfl
theorem cd_232_48 : cd 232 48 = some (20, 51, 53, 0, 0, []) := cd_row ac_232 rfl
theorem cd_232_51 : cd 232 51 = some (0, 52, 0, 0, -1, []) := cd_row ac_232 rfl
theorem cd_232_52 : cd 232 52 = some (40, 53, 0, 0, 0, []) := cd_row ac_232 rfl
theorem cd_232_53 : cd 232 53 = some (4, 54, 0, 0, 0, []) := cd_row ac_232 rfl
theorem cd_232_54 : cd 232 54 = some (23, 57, 10, 0, 0, []) := cd_row ac_232 rfl
theorem cd_232_57 : cd 232 57 = some (0, 58, 0, 0, 3, []) := cd_row ac_232 rfl
theorem cd_232_58 : cd 232 58 = some (18, 59, 0, 0, 0, []) := cd_row ac_232 rfl
theorem cd_232_59 : cd 232 59 = some (26, 60, 0, 0, 0, []) := cd_row ac_232 rfl
theorem cd_232_60 : cd 232 60 = some (0, 61, 0, 0, 1, []) := cd_row ac_232 rfl
theorem cd_232_61 : cd 232 61 = some (9, 62, 0, 0, 0, []) := cd_row ac_232 rfl
theorem cd_232_62 : cd 232 62 = some (30, 63, 0, 0, 0, []) := cd_row ac_232 rfl
theorem cd_232_63 : cd 232 63 = some (4, 64, 0, 0, 0, []) := cd_row ac_232 rfl
theorem cd_232_64 : cd 232 64 = some (23, 67, 10, 0, 0, []) := cd_row ac_232 rfl
theorem cd_232_67 : cd 232 67 = some (0, 68, 0, 0, 3, []) := cd_row ac_232 rfl
theorem cd_232_68 : cd 232 68 = some (26, 69, 0, 0, 0, []) := cd_row ac_232 rfl
theorem cd_232_69 : cd 232 69 = some (0, 70, 0, 0, 1, []) := cd_row ac_232 rfl
theorem cd_232_70 : cd 232 70 = some (9, 71, 0, 1, 0, []) := cd_row ac_232 rfl
theorem cd_232_71 : cd 232 71 = some (40, 72, 0, 0, 0, []) := cd_row ac_232 rfl
theorem JT_5 {h : AH} {T D : Nat} (hJ : k_H JB h) (ht : TD T D) : hV h T 5 = vI (((fI h T 5).toNat : Nat) : Int) ∧ (∀ i, i < 300 → hV h D i = vI (fI h D i)) ∧ hV h T 6 = vI (((fI h T 6).toNat : Nat) : Int) ∧ (∀ i, i < 5 → hV h (T + 2) i = vI (fI h (T + 2) i)) ∧ (∀ i, i < 5 → hV h (T + 3) i = vI (fI h (T + 3) i)) ∧ (∀ i, i < 24 → hV h (T + 4) i = vI (fI h (T + 4) i)) ∧ (∀ i, i < 120 → hV h (T + 5) i = vI (fI h (T + 5) i)) := by
  have nn : ∀ {k i : Nat} {u : Int}, hV h k i = vI (fI h k i) ∧ (0 ≤ fI h k i ∧ fI h k i ≤ u) → hV h k i = vI (((fI h k i).toNat : Nat) : Int) := fun {k i u} q => by rw [Int.toNat_of_nonneg q.2.1]; exact q.1
  rcases ht with ⟨rfl, rfl⟩ | ⟨rfl, rfl⟩ | ⟨rfl, rfl⟩ | ⟨rfl, rfl⟩
  · exact ⟨nn (I_22_5 hJ), fun i hi => (A_23_0 (i := i) hJ (Nat.zero_le _) hi).1, nn (I_22_6 hJ), fun i hi => (A_24_0 (i := i) hJ (Nat.zero_le _) hi).1, fun i hi => (A_25_0 (i := i) hJ (Nat.zero_le _) hi).1, fun i hi => (A_26_0 (i := i) hJ (Nat.zero_le _) hi).1, fun i hi => (A_27_0 (i := i) hJ (Nat.zero_le _) hi).1⟩
  · exact ⟨nn (I_28_5 hJ), fun i hi => (A_29_0 (i := i) hJ (Nat.zero_le _) hi).1, nn (I_28_6 hJ), fun i hi => (A_30_0 (i := i) hJ (Nat.zero_le _) hi).1, fun i hi => (A_31_0 (i := i) hJ (Nat.zero_le _) hi).1, fun i hi => (A_32_0 (i := i) hJ (Nat.zero_le _) hi).1, fun i hi => (A_33_0 (i := i) hJ (Nat.zero_le _) hi).1⟩
  · exact ⟨nn (I_34_5 hJ), fun i hi => (A_35_0 (i := i) hJ (Nat.zero_le _) hi).1, nn (I_34_6 hJ), fun i hi => (A_36_0 (i := i) hJ (Nat.zero_le _) hi).1, fun i hi => (A_37_0 (i := i) hJ (Nat.zero_le _) hi).1, fun i hi => (A_38_0 (i := i) hJ (Nat.zero_le _) hi).1, fun i hi => (A_39_0 (i := i) hJ (Nat.zero_le _) hi).1⟩
  · exact ⟨nn (I_40_5 hJ), fun i hi => (A_41_0 (i := i) hJ (Nat.zero_le _) hi).1, nn (I_40_6 hJ), fun i hi => (A_42_0 (i := i) hJ (Nat.zero_le _) hi).1, fun i hi => (A_43_0 (i := i) hJ (Nat.zero_le _) hi).1, fun i hi => (A_44_0 (i := i) hJ (Nat.zero_le _) hi).1, fun i hi => (A_45_0 (i := i) hJ (Nat.zero_le _) hi).1⟩
/-- the class reads a tape -/
def RDw (h : AH) (T D n : Nat) (b : Nat → Int) (r : Option AV) (g : AH) : Prop := ∃ (cnt : Nat) (kn vn : Nat → Int) (ep sp : Nat → Nat), LXs b n cnt ep sp kn vn n ∧ cnt ≤ 300 ∧ RDq (hT (hSet h 70 1 (vR T)) cnt n kn (fun j => ((sp j : Nat) : Int)) vn) T D cnt n kn vn (fun j => ((sp j : Nat) : Int)) [] 0 r g
theorem XP_ex {d M pc : Nat} {ls : List (Option AV)} {st : List AV} {h : AH} {α : Type} {Q : α → Option AV → AH → Prop} (a : α) (y : XP d M pc ls st h (Q a)) : XP d M pc ls st h (fun r g => ∃ a, Q a r g) := XP_mono y (fun r g q => ⟨a, q⟩)
theorem KV_T {h : AH} {cnt n : Nat} {kn pn vn : Nat → Int} (hJ : k_H JB h) {T : Nat} : TKV cnt kn vn ↔ TKV cnt kn vn := Iff.rfl
theorem sgK_r (c : Int) : 40 ≤ sgK c ∧ sgK c ≤ 61 := by unfold sgK; (repeat' split) <;> omega
def c32 : List Int → Nat
  | [] => 0
  | c :: w => (if c = 32 then 1 else 0) + c32 w
theorem wsc_r {b : Nat → Int} {e s : Nat} : ∀ (w : List Int) (num : Int) (a : Nat) (al : Bool), wsc b e s w num a al = 61 ∨ (num ≤ wsc b e s w num a al ∧ wsc b e s w num a al ≤ num + (c32 w : Int)) := by
  intro w
  induction w with
  | nil => intro num a al; exact Or.inl rfl
  | cons c w ih =>
    intro num a al
    by_cases z : c = 32
    · have e1 : (c32 (c :: w) : Int) = 1 + (c32 w : Int) := by show (((if c = 32 then 1 else 0) + c32 w : Nat) : Int) = _; rw [if_pos z]; omega
      by_cases z2 : al = true ∧ a = e
      · have e2 : wsc b e s (c :: w) num a al = num := (if_pos z).trans (if_pos z2)
        rw [e2, e1]
        exact Or.inr ⟨Int.le_refl _, by omega⟩
      · have e2 : wsc b e s (c :: w) num a al = wsc b e s w (num + 1) s true := (if_pos z).trans (if_neg z2)
        rw [e2, e1]
        rcases ih (num + 1) s true with h | h
        · exact Or.inl h
        · exact Or.inr ⟨by omega, by omega⟩
    · have e1 : (c32 (c :: w) : Int) = (c32 w : Int) := by show (((if c = 32 then 1 else 0) + c32 w : Nat) : Int) = _; rw [if_neg z]; omega
      by_cases z2 : al = true ∧ a < e ∧ b a = c
      · have e2 : wsc b e s (c :: w) num a al = wsc b e s w num (a + 1) true := (if_neg z).trans (if_pos z2)
        rw [e2, e1]
        exact ih num (a + 1) true
      · have e2 : wsc b e s (c :: w) num a al = wsc b e s w num a false := (if_neg z).trans (if_neg z2)
        rw [e2, e1]
        exact ih num a false
theorem c32_w : c32 wdB = 34 := by decide +kernel
theorem LXs_v {b : Nat → Int} {n cnt a : Nat} {ep sp : Nat → Nat} {kn vn : Nat → Int} (h : LXs b n cnt ep sp kn vn a) (hc : cnt ≤ 300) (hby : ∀ i, i < 300 → 0 ≤ b i ∧ b i ≤ 255) : TKV cnt kn vn := by
  intro i hi
  obtain ⟨-, -, ⟨h1, h2⟩, h3⟩ := h.2.1 i hi
  rcases h3 with ⟨g1, g2, g3, g4⟩ | ⟨g1, g2, g3, g4⟩ | ⟨g1, g2, g3, g4, g5⟩ | ⟨g1, g2, g3, g4, g5⟩
  · rw [g3, g4]
    exact ⟨by decide, (vaC_r _ (fun k k1 k2 => g1 k k1 (by omega))).1⟩
  · rw [g4, g3]
    have q := wsc_r (b := b) (e := ep (i + 1)) (s := sp i) wdB 0 (sp i) true
    rw [c32_w] at q
    exact ⟨by omega, Int.le_refl _⟩
  · rw [g4, g5]
    refine ⟨?_, Int.le_refl _⟩
    split <;> decide
  · rw [g4, g5]
    have := sgK_r (b (sp i))
    exact ⟨by omega, Int.le_refl _⟩
set_option maxHeartbeats 8000000 in
theorem E_read {d : Nat} {h : AH} {T D n : Nat} (hJ : k_H JB h) (ht : TD T D) (hn : n ≤ 300) {b : Nat → Int} (hb75 : ∀ i, i < 300 → hV h 75 i = vI (b i)) (hby : ∀ i, i < 300 → 0 ≤ b i ∧ b i ≤ 255) : XC (d + 78) 59 [vR 70, vR 75, vI (n : Int), vR T] h (RDw h T D n b) := by
  obtain ⟨hb1, hx1⟩ := RDB_J hJ ht
  have htn := TD_n ht
  have ht0 := ht
  unfold TD at ht0
  obtain ⟨j1, j2, j3, j4, j5, j6, j7⟩ := JT_5 hJ ht
  have n1 : ∀ k i, k ≠ 70 ∨ i ≠ 1 → hV (hSet h 70 1 (vR T)) k i = hV h k i := fun k i hk => if_neg (fun y => by omega)
  have fi : ∀ k i, k ≠ 70 → fI (hSet h 70 1 (vR T)) k i = fI h k i := fun k i hk => congrArg nmb (n1 k i (Or.inl hk))
  have f70 : ∀ i, i ≠ 1 → fI (hSet h 70 1 (vR T)) 70 i = fI h 70 i := fun i hi => congrArg nmb (n1 70 i (Or.inr hi))
  have v70 : ∀ j, 2 ≤ j → j ≤ 7 → hV (hSet h 70 1 (vR T)) 70 j = vI (fI (hSet h 70 1 (vR T)) 70 j) := fun j h2 h7 => by
    rw [f70 j (by omega), n1 70 j (Or.inr (by omega))]
    have : j = 2 ∨ j = 3 ∨ j = 4 ∨ j = 5 ∨ j = 6 ∨ j = 7 := by omega
    rcases this with rfl | rfl | rfl | rfl | rfl | rfl
    · exact (I_70_2 hJ).1
    · exact (I_70_3 hJ).1
    · exact (I_70_4 hJ).1
    · exact (I_70_5 hJ).1
    · exact (I_70_6 hJ).1
    · exact (I_70_7 hJ).1
  have sX : hX (hSet h 70 1 (vR T)) T (fI h (T + 2)) (fI h (T + 3)) (fI h (T + 4)) (fI h (T + 5)) (fI h T 6).toNat = (hSet h 70 1 (vR T)) := hX_self ((n1 _ _ (by omega)).trans j3) (fun i hi => (n1 _ _ (by omega)).trans (j4 i hi)) (fun i hi => (n1 _ _ (by omega)).trans (j5 i hi)) (fun i hi => (n1 _ _ (by omega)).trans (j6 i hi)) (fun i hi => (n1 _ _ (by omega)).trans (j7 i hi))
  have sR := hR_self (T := T) (D := D) v70 ((n1 _ _ (by omega)).trans j1) (fun i hi => (n1 D i (by omega)).trans (j2 i hi))
  rw [f70 2 (by decide), f70 3 (by decide), f70 4 (by decide), f70 5 (by decide), f70 6 (by decide), f70 7 (by decide)] at sR
  have self : hR (hX (hSet h 70 1 (vR T)) T (fI h (T + 2)) (fI h (T + 3)) (fI h (T + 4)) (fI h (T + 5)) (fI h T 6).toNat) T D (fI h 70 2) (fI h 70 3) (fI h 70 4) (fI h 70 5) (fI h 70 6) (fI h 70 7) (fI h T 5).toNat (fI h D) = (hSet h 70 1 (vR T)) := by rw [sX]; exact sR
  have e1 : ∀ Q : Option AV → AH → Prop, XC (d + 77) 87 [vR T] (hSet h 70 1 (vR T)) Q = Q none (hR (hX (hSet h 70 1 (vR T)) T (upF (upF (upF (upF (upF (fI h (T + 2)) 0 (-1)) 1 (-1)) 2 (-1)) 3 (-1)) 4 (-1)) (upF (upF (upF (upF (upF (fI h (T + 3)) 0 (-1)) 1 (-1)) 2 (-1)) 3 (-1)) 4 (-1)) (fI h (T + 4)) (fI h (T + 5)) 0) T D (fI h 70 2) (fI h 70 3) (fI h 70 4) (fI h 70 5) (fI h 70 6) (fI h 70 7) 0 (fI h D)) := fun Q => by
    have q := E_clr (d := d + 76) hb1 hx1 (bg := fI h (T + 2)) (en := fI h (T + 3)) (kd := fI h (T + 4)) (ag := fI h (T + 5)) (nC := (fI h T 6).toNat) (a := fI h 70 2) (b := fI h 70 3) (c := fI h 70 4) (l := fI h 70 5) (f := fI h 70 6) (p := fI h 70 7) (L := (fI h T 5).toNat) (dd := fI h D) Q
    rw [self] at q
    exact q
  -- the tokens
  have nC : ∀ k i, 70 < k → hV (hR (hX (hSet h 70 1 (vR T)) T (upF (upF (upF (upF (upF (fI h (T + 2)) 0 (-1)) 1 (-1)) 2 (-1)) 3 (-1)) 4 (-1)) (upF (upF (upF (upF (upF (fI h (T + 3)) 0 (-1)) 1 (-1)) 2 (-1)) 3 (-1)) 4 (-1)) (fI h (T + 4)) (fI h (T + 5)) 0) T D (fI h 70 2) (fI h 70 3) (fI h 70 4) (fI h 70 5) (fI h 70 6) (fI h 70 7) 0 (fI h D)) k i = hV h k i := fun k i hk => by rw [hR_n (by omega) (by omega) (by omega), hX_n (by omega) (by omega)]; exact n1 k i (by omega)
  have tb : TKB (hR (hX (hSet h 70 1 (vR T)) T (upF (upF (upF (upF (upF (fI h (T + 2)) 0 (-1)) 1 (-1)) 2 (-1)) 3 (-1)) 4 (-1)) (upF (upF (upF (upF (upF (fI h (T + 3)) 0 (-1)) 1 (-1)) 2 (-1)) 3 (-1)) 4 (-1)) (fI h (T + 4)) (fI h (T + 5)) 0) T D (fI h 70 2) (fI h 70 3) (fI h 70 4) (fI h 70 5) (fI h 70 6) (fI h 70 7) 0 (fI h D)) b := ⟨⟨K_71 (h := h) hJ, (nC _ _ (by decide)).trans (F_71_0 hJ), (nC _ _ (by decide)).trans (F_71_1 hJ), (nC _ _ (by decide)).trans (F_71_2 hJ)⟩, ⟨K_72 (h := h) hJ, K_73 (h := h) hJ, K_74 (h := h) hJ, K_75 (h := h) hJ⟩, fun i hi => (nC _ _ (by decide)).trans (hb75 i hi)⟩
  have nn : ∀ {k i : Nat} {u : Int}, hV h k i = vI (fI h k i) ∧ (0 ≤ fI h k i ∧ fI h k i ≤ u) → hV h k i = vI (((fI h k i).toNat : Nat) : Int) := fun {k i u} q => by rw [Int.toNat_of_nonneg q.2.1]; exact q.1
  have sT : hT (hR (hX (hSet h 70 1 (vR T)) T (upF (upF (upF (upF (upF (fI h (T + 2)) 0 (-1)) 1 (-1)) 2 (-1)) 3 (-1)) 4 (-1)) (upF (upF (upF (upF (upF (fI h (T + 3)) 0 (-1)) 1 (-1)) 2 (-1)) 3 (-1)) 4 (-1)) (fI h (T + 4)) (fI h (T + 5)) 0) T D (fI h 70 2) (fI h 70 3) (fI h 70 4) (fI h 70 5) (fI h 70 6) (fI h 70 7) 0 (fI h D)) (fI h 71 3).toNat (fI h 71 4).toNat (fI h 72) (fun j => (((fI h 73 j).toNat : Nat) : Int)) (fI h 74) = hR (hX (hSet h 70 1 (vR T)) T (upF (upF (upF (upF (upF (fI h (T + 2)) 0 (-1)) 1 (-1)) 2 (-1)) 3 (-1)) 4 (-1)) (upF (upF (upF (upF (upF (fI h (T + 3)) 0 (-1)) 1 (-1)) 2 (-1)) 3 (-1)) 4 (-1)) (fI h (T + 4)) (fI h (T + 5)) 0) T D (fI h 70 2) (fI h 70 3) (fI h 70 4) (fI h 70 5) (fI h 70 6) (fI h 70 7) 0 (fI h D) := hT_self ((nC _ _ (by decide)).trans (nn (I_71_3 hJ))) ((nC _ _ (by decide)).trans (nn (I_71_4 hJ))) (fun i hi => (nC _ _ (by decide)).trans (A_72_0 (i := i) hJ (Nat.zero_le _) hi).1) (fun i hi => (nC _ _ (by decide)).trans (nn (A_73_0 (i := i) hJ (Nat.zero_le _) hi))) (fun i hi => (nC _ _ (by decide)).trans (A_74_0 (i := i) hJ (Nat.zero_le _) hi).1)
  have q2 := E_scan (d := d + 73) (c0 := (fI h 71 3).toNat) (m0 := (fI h 71 4).toNat) (k0 := fI h 72) (v0 := fI h 74) (s0 := fun j => (fI h 73 j).toNat) tb hn
  rw [sT] at q2
  obtain ⟨r2, g2, ⟨hr2, cnt, kn, vn, ep, sp, hg2, hlx, hcn⟩, e2⟩ := XC_dt (d := d + 76) q2
  subst hr2
  rw [hT_hR ht, hT_hX (by omega)] at hg2
  subst hg2
  -- the heap behind
  have n2 : ∀ k i, k ≠ 71 → k ≠ 72 → k ≠ 73 → k ≠ 74 → hV (hT (hSet h 70 1 (vR T)) cnt n kn (fun j => ((sp j : Nat) : Int)) vn) k i = hV (hSet h 70 1 (vR T)) k i := fun k i h1 h2 h3 h4 => hT_n (Or.inl h1) ⟨h2, h3, h4⟩
  have hb2 : RDB (hT (hSet h 70 1 (vR T)) cnt n kn (fun j => ((sp j : Nat) : Int)) vn) T D := ⟨ht, ⟨hb1.2.1.1, (n2 _ _ (by omega) (by omega) (by omega) (by omega)).trans hb1.2.1.2.1, (n2 _ _ (by omega) (by omega) (by omega) (by omega)).trans hb1.2.1.2.2⟩, ⟨hb1.2.2.1.1, (n2 _ _ (by omega) (by omega) (by omega) (by omega)).trans hb1.2.2.1.2.1, hb1.2.2.1.2.2⟩, hb1.2.2.2.1, (n2 _ _ (by omega) (by omega) (by omega) (by omega)).trans hb1.2.2.2.2.1, (n2 _ _ (by omega) (by omega) (by omega) (by omega)).trans hb1.2.2.2.2.2.1, (n2 _ _ (by omega) (by omega) (by omega) (by omega)).trans hb1.2.2.2.2.2.2.1, (n2 _ _ (by omega) (by omega) (by omega) (by omega)).trans hb1.2.2.2.2.2.2.2.1, (n2 _ _ (by omega) (by omega) (by omega) (by omega)).trans hb1.2.2.2.2.2.2.2.2⟩
  have hx2 : TXH (hT (hSet h 70 1 (vR T)) cnt n kn (fun j => ((sp j : Nat) : Int)) vn) T := ⟨⟨(n2 _ _ (by omega) (by omega) (by omega) (by omega)).trans hx1.1.1, (n2 _ _ (by omega) (by omega) (by omega) (by omega)).trans hx1.1.2.1, (n2 _ _ (by omega) (by omega) (by omega) (by omega)).trans hx1.1.2.2.1, (n2 _ _ (by omega) (by omega) (by omega) (by omega)).trans hx1.1.2.2.2⟩, hx1.2⟩
  have hk2 : TOK (hT (hSet h 70 1 (vR T)) cnt n kn (fun j => ((sp j : Nat) : Int)) vn) cnt n kn vn (fun j => ((sp j : Nat) : Int)) := ⟨⟨hcn, by omega, by omega⟩, ⟨K_71 (h := h) hJ, (hT_n (Or.inr ⟨by decide, by decide⟩) ⟨by decide, by decide, by decide⟩).trans ((n1 _ _ (by omega)).trans (F_71_0 hJ)), (hT_n (Or.inr ⟨by decide, by decide⟩) ⟨by decide, by decide, by decide⟩).trans ((n1 _ _ (by omega)).trans (F_71_1 hJ)), (hT_n (Or.inr ⟨by decide, by decide⟩) ⟨by decide, by decide, by decide⟩).trans ((n1 _ _ (by omega)).trans (F_71_2 hJ)), hT_3, hT_4⟩, ⟨K_72 (h := h) hJ, K_73 (h := h) hJ, K_74 (h := h) hJ⟩, fun i hi => ⟨hT_v72 hi, hT_v73 hi, hT_v74 hi⟩⟩
  have hv : TKV cnt kn vn := LXs_v hlx hcn hby
  have y := RD_l (d := d + 1) hb2 hk2 hx2 hv (v2 := (n : Int)) 24 [] 0 0 _ _ (fI h (T + 4)) (fI h (T + 5)) (fI h 70 5) (fI h D) rfl (TXR_0 (bg := fI h (T + 2)) (en := fI h (T + 3))) (Nat.zero_le _) (Nat.le_refl _)
  have e3 : ∀ {a b c l f p : Int} {L : Nat} {dd bg en kd ag : Nat → Int} {nC : Nat} (Q : Option AV → AH → Prop), XC (d + 77) 99 [vR 71, vI 0] (hR (hX (hT (hSet h 70 1 (vR T)) cnt n kn (fun j => ((sp j : Nat) : Int)) vn) T bg en kd ag nC) T D a b c l f p L dd) Q = Q (some (vI (tkf cnt kn vn 0).1)) (hR (hX (hT (hSet h 70 1 (vR T)) cnt n kn (fun j => ((sp j : Nat) : Int)) vn) T bg en kd ag nC) T D a b c l f p L dd) := fun Q => E_kindAt (d := d + 76) (TOK_R ht (TOK_X ht hk2)) 0 Q
  have y : XP (d + 77) 59 56 [some (vR 70), some (vR 75), some (vI (n : Int)), some (vR T), some (vI 0)] [] (hR (hX (hT (hSet h 70 1 (vR T)) cnt n kn (fun j => ((sp j : Nat) : Int)) vn) T (upF (upF (upF (upF (upF (fI h (T + 2)) 0 (-1)) 1 (-1)) 2 (-1)) 3 (-1)) 4 (-1)) (upF (upF (upF (upF (upF (fI h (T + 3)) 0 (-1)) 1 (-1)) 2 (-1)) 3 (-1)) 4 (-1)) (fI h (T + 4)) (fI h (T + 5)) 0) T D 0 (tkf cnt kn vn 0).1 0 (fI h 70 5) 0 (-1) 0 (fI h D)) (RDq (hT (hSet h 70 1 (vR T)) cnt n kn (fun j => ((sp j : Nat) : Int)) vn) T D cnt n kn vn (fun j => ((sp j : Nat) : Int)) [] 0) := y
  have y := XP_mono y (Q' := RDw h T D n b) (fun r g q => ⟨cnt, kn, vn, ep, sp, hlx, hcn, q⟩)
  have r0 : hV (hR (hX (hSet h 70 1 (vR T)) T (upF (upF (upF (upF (upF (fI h (T + 2)) 0 (-1)) 1 (-1)) 2 (-1)) 3 (-1)) 4 (-1)) (upF (upF (upF (upF (upF (fI h (T + 3)) 0 (-1)) 1 (-1)) 2 (-1)) 3 (-1)) 4 (-1)) (fI h (T + 4)) (fI h (T + 5)) 0) T D (fI h 70 2) (fI h 70 3) (fI h 70 4) (fI h 70 5) (fI h 70 6) (fI h 70 7) 0 (fI h D)) 70 0 = vR 71 := R_0 (RDB_X hb1)
  have kC : hK (hR (hX (hSet h 70 1 (vR T)) T (upF (upF (upF (upF (upF (fI h (T + 2)) 0 (-1)) 1 (-1)) 2 (-1)) 3 (-1)) 4 (-1)) (upF (upF (upF (upF (upF (fI h (T + 3)) 0 (-1)) 1 (-1)) 2 (-1)) 3 (-1)) 4 (-1)) (fI h (T + 4)) (fI h (T + 5)) 0) T D (fI h 70 2) (fI h 70 3) (fI h 70 4) (fI h 70 5) (fI h 70 6) (fI h 70 7) 0 (fI h D)) = hK h := rfl
  have kH : hK (hSet h 70 1 (vR T)) = hK h := rfl
  have k2 : hK (hT (hSet h 70 1 (vR T)) cnt n kn (fun j => ((sp j : Nat) : Int)) vn) = hK h := rfl
  have p1 : hV (hSet h 70 1 (vR T)) 70 1 = vR T := (show ∀ k j, k = 70 ∧ j = 1 → hV (hSet h 70 1 (vR T)) k j = vR T from fun k j hk => if_pos hk) 70 1 ⟨rfl, rfl⟩
  have p0 : hV h 70 0 = vR 71 := F_70_0 hJ
  have kT : hK h T = (6, 0) := hb1.2.2.1.1
  have e2 : ∀ Q : Option AV → AH → Prop, XC (d + 77) 102 [vR 71, vR 75, vI (n : Int)] (hR (hX (hSet h 70 1 (vR T)) T (upF (upF (upF (upF (upF (fI h (T + 2)) 0 (-1)) 1 (-1)) 2 (-1)) 3 (-1)) 4 (-1)) (upF (upF (upF (upF (upF (fI h (T + 3)) 0 (-1)) 1 (-1)) 2 (-1)) 3 (-1)) 4 (-1)) (fI h (T + 4)) (fI h (T + 5)) 0) T D (fI h 70 2) (fI h 70 3) (fI h 70 4) (fI h 70 5) (fI h 70 6) (fI h 70 7) 0 (fI h D)) Q = Q none (hR (hX (hT (hSet h 70 1 (vR T)) cnt n kn (fun j => ((sp j : Nat) : Int)) vn) T (upF (upF (upF (upF (upF (fI h (T + 2)) 0 (-1)) 1 (-1)) 2 (-1)) 3 (-1)) 4 (-1)) (upF (upF (upF (upF (upF (fI h (T + 3)) 0 (-1)) 1 (-1)) 2 (-1)) 3 (-1)) 4 (-1)) (fI h (T + 4)) (fI h (T + 5)) 0) T D (fI h 70 2) (fI h 70 3) (fI h 70 4) (fI h 70 5) (fI h 70 6) (fI h 70 7) 0 (fI h D)) := e2
  refine XC_of (Nat.le_of_ble_eq_true rfl) ?_
  show XP (d + 77) 59 0 [some (vR 70), some (vR 75), some (vI (n : Int)), some (vR T), none] [] h _
  refine xpk_sound (stops := [56]) (n := 80) ?_
  simp only [sk_0, sk_1, sk_2, sk_3, sk_4, sk_5, sk_6, sk_7, sk_8, sk_iadd, sk_isub, sk_imul, sk_iand, sk_ior, sk_ixor, sk_ishl, sk_ishr, sk_iushr, sk_idiv, sk_irem, sk_ineg, sk_ladd, sk_lsub, sk_lmul, sk_land, sk_lor, sk_ldiv, sk_lrem, sk_lneg, sk_lshl, sk_lshr, sk_i2l, sk_l2i, sk_lcmp, sk_dupI, sk_dupR, sk_dup2L, sk_dup2I, sk_popI, sk_ifeq, sk_ifne, sk_iflt, sk_ifge, sk_ifgt, sk_ifle, sk_iceq, sk_icne, sk_iclt, sk_icge, sk_icgt, sk_icle, sk_goto, sk_getf, sk_putf, sk_gets, sk_iald, sk_lald, sk_bald, sk_aald, sk_iast, sk_last, sk_bast, sk_aast, sk_alen, sk_newa, sk_newt, sk_new, sk_cs1, sk_cs2, sk_cs3, sk_cs4, sk_cs5, sk_cs6, sk_cv1, sk_cv2, sk_cv3, sk_cv4, sk_cv5, sk_cv6, sk_ci1, sk_ci2, sk_ci3, sk_ret0, sk_retI, sk_retL, sk_retR, sk_sw, sk_oin, sk_max, sk_min, sk_abs, lI_0, lI_s, lL_0, lL_s, lR_0, lR_s, vIo_e, vLo_e, vOo_e, stW_I, stW_L, stW_R, stW_0, stW_z, okSt_0, okSt_s, hV_eq, hK_eq, okF_0, okF_1, okF_3, is01_0, is01_1, is01_i, Int.toNat_natCast, Int.reduceEq, Int.reduceLE, Int.reduceLT, Int.reduceNeg, Nat.reduceLT, not_true_eq_false, not_false_eq_true, reduceIte, Option.toList, List.cons_append, List.nil_append, List.set_cons_zero, List.set_cons_succ, List.not_mem_nil, List.mem_cons, if_false, if_true, ite_true, ite_false, and_self, and_true, true_and, Nat.reduceAdd, Nat.reduceLeDiff, Nat.reduceEqDiff, Nat.zero_add, Nat.le_refl, Nat.zero_le, or_false, false_or, Int.reduceToNat, or_true, true_or, eq_self, and_false, false_and, inR_d, nc_4, nc_5, nc_6, nc_7, nc_8, nc_16, nc_18, nc_20, nc_24, nc_32, nc_40, nc_64, nc_104, nc_120, nc_160, nc_256, nc_300, nc_330, nc_390, nc_1200, nc_1260, nc_3012, nc_9834, okSt_1i, okSt_1r, okSt_1n, List.length_cons, List.length_nil, xpk_succ cd_59_0, xpk_succ cd_59_1, xpk_succ cd_59_2, xpk_succ cd_59_5, xpk_succ cd_59_6, xpk_succ cd_59_9, xpk_succ cd_59_12, xpk_succ cd_59_13, xpk_succ cd_59_16, xpk_succ cd_59_17, xpk_succ cd_59_18, xpk_succ cd_59_21, xpk_succ cd_59_22, xpk_succ cd_59_23, xpk_succ cd_59_26, xpk_succ cd_59_27, xpk_succ cd_59_28, xpk_succ cd_59_31, xpk_succ cd_59_32, xpk_succ cd_59_33, xpk_succ cd_59_36, xpk_succ cd_59_37, xpk_succ cd_59_38, xpk_succ cd_59_41, xpk_succ cd_59_42, xpk_succ cd_59_43, xpk_succ cd_59_46, xpk_succ cd_59_47, xpk_succ cd_59_50, xpk_succ cd_59_53, xpk_succ cd_59_54, p1, p0, kH, kC, k2, kT, K_70 hJ, K_71 hJ, e1, r0, e2, e3, hR_s2, hR_s3, hR_s4, hR_s6, hR_s7, hK_R, hK_X, (R_0 (RDB_X hb2))]
  exact y
/-! the reference's next token, from the class's tokens -/
def epN (n cnt : Nat) (ep : Nat → Nat) (i : Nat) : Nat := if i ≤ cnt then ep i else n
theorem NT_j {d : Nat} {h : AH} {J n cnt : Nat} {b : Nat → Int} {ep sp : Nat → Nat} {kn vn : Nat → Int} (hb : MB h J n b) (hby : ∀ i, i < 300 → 0 ≤ b i ∧ b i ≤ 255) (hx : LXs b n cnt ep sp kn vn n) {j : Nat} (hj : j ≤ cnt) {pl tk nu wd : Int} {wr : Nat} {so : Int} {pi op : Nat} {wh on : Int} {pf g : Nat → Int} : ∃ tk' nu' wd', TKR (tkf cnt kn vn j) tk' nu' wd' ∧ ∀ Q : Option AV → AH → Prop, XC (d + 3) 198 [vR 76] (hM h (epN n cnt ep j) pl tk nu wd wr so pi op wh on pf g) Q = Q none (hM h (epN n cnt ep (j + 1)) (plf cnt n (fun j => ((sp j : Nat) : Int)) j) tk' nu' wd' wr so pi op wh on pf g) := by
  have e1 : epN n cnt ep j = ep j := if_pos hj
  rw [e1]
  by_cases z : j < cnt
  · have e2 : epN n cnt ep (j + 1) = ep (j + 1) := if_pos (by omega)
    have e3 : plf cnt n (fun j => ((sp j : Nat) : Int)) j = ((sp j : Nat) : Int) := if_pos z
    have e4 : tkf cnt kn vn j = (kn j, vn j) := if_pos z
    rw [e2, e3, e4]
    obtain ⟨q1, q2, q3⟩ := hx.2.1 j z
    exact E_nt hb hby q1 q2 (Or.inl q3)
  · have hjc : j = cnt := by omega
    subst hjc
    have e2 : epN n j ep (j + 1) = n := if_neg (by omega)
    have e3 : plf j n (fun j => ((sp j : Nat) : Int)) j = ((n : Nat) : Int) := if_neg z
    have e4 : tkf j kn vn j = (62, 0) := if_neg z
    rw [e2, e3, e4]
    exact E_nt hb hby hx.2.2.1 hx.2.2.2 (Or.inr ⟨rfl, rfl, rfl⟩)
theorem NT_p {h : AH} {J n cnt : Nat} {b : Nat → Int} {ep sp : Nat → Nat} {kn vn : Nat → Int} (hb : MB h J n b) (hby : ∀ i, i < 300 → 0 ≤ b i ∧ b i ≤ 255) (hx : LXs b n cnt ep sp kn vn n) : NTp h (tkf cnt kn vn) (plf cnt n (fun j => ((sp j : Nat) : Int))) (epN n cnt ep) cnt := fun d j pl tk nu wd wr so pi op wh on pf g hj => NT_j hb hby hx (by omega)
