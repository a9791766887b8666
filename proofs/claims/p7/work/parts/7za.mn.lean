set_option maxRecDepth 20000 in
theorem ac_243 : allC[243]? = some cl243 := rfl
theorem cd_243_0 : cd 243 0 = some (4, 1, 0, 0, 0, []) := cd_row ac_243 rfl
theorem cd_243_1 : cd 243 1 = some (23, 4, 10, 0, 0, []) := cd_row ac_243 rfl
theorem cd_243_4 : cd 243 4 = some (0, 6, 0, 0, 8, []) := cd_row ac_243 rfl
theorem cd_243_6 : cd 243 6 = some (26, 7, 0, 0, 0, []) := cd_row ac_243 rfl
theorem cd_243_7 : cd 243 7 = some (4, 8, 0, 0, 0, []) := cd_row ac_243 rfl
theorem cd_243_8 : cd 243 8 = some (23, 11, 10, 0, 0, []) := cd_row ac_243 rfl
theorem cd_243_11 : cd 243 11 = some (0, 13, 0, 0, 10, []) := cd_row ac_243 rfl
theorem cd_243_13 : cd 243 13 = some (26, 14, 0, 0, 0, []) := cd_row ac_243 rfl
theorem cd_243_14 : cd 243 14 = some (9, 15, 0, 1, 0, []) := cd_row ac_243 rfl
theorem cd_243_15 : cd 243 15 = some (40, 16, 0, 0, 0, []) := cd_row ac_243 rfl
set_option maxRecDepth 20000 in
theorem ac_244 : allC[244]? = some cl244 := rfl
theorem cd_244_0 : cd 244 0 = some (4, 1, 0, 0, 0, []) := cd_row ac_244 rfl
theorem cd_244_1 : cd 244 1 = some (23, 4, 10, 20, 0, []) := cd_row ac_244 rfl
theorem cd_244_4 : cd 244 4 = some (0, 5, 0, 0, 0, []) := cd_row ac_244 rfl
theorem cd_244_5 : cd 244 5 = some (4, 6, 0, 0, 0, []) := cd_row ac_244 rfl
theorem cd_244_6 : cd 244 6 = some (46, 9, 243, 1, 10, []) := cd_row ac_244 rfl
theorem cd_244_9 : cd 244 9 = some (30, 10, 0, 0, 0, []) := cd_row ac_244 rfl
theorem cd_244_10 : cd 244 10 = some (4, 11, 0, 0, 0, []) := cd_row ac_244 rfl
theorem cd_244_11 : cd 244 11 = some (23, 14, 10, 20, 0, []) := cd_row ac_244 rfl
theorem cd_244_14 : cd 244 14 = some (0, 15, 0, 0, 1, []) := cd_row ac_244 rfl
theorem cd_244_15 : cd 244 15 = some (4, 16, 0, 0, 0, []) := cd_row ac_244 rfl
theorem cd_244_16 : cd 244 16 = some (23, 19, 10, 0, 0, []) := cd_row ac_244 rfl
theorem cd_244_19 : cd 244 19 = some (0, 21, 0, 0, 11, []) := cd_row ac_244 rfl
theorem cd_244_21 : cd 244 21 = some (26, 22, 0, 0, 0, []) := cd_row ac_244 rfl
theorem cd_244_22 : cd 244 22 = some (30, 23, 0, 0, 0, []) := cd_row ac_244 rfl
theorem cd_244_23 : cd 244 23 = some (4, 24, 0, 0, 0, []) := cd_row ac_244 rfl
theorem cd_244_24 : cd 244 24 = some (23, 27, 10, 20, 0, []) := cd_row ac_244 rfl
theorem cd_244_27 : cd 244 27 = some (0, 28, 0, 0, 2, []) := cd_row ac_244 rfl
theorem cd_244_28 : cd 244 28 = some (4, 29, 0, 0, 0, []) := cd_row ac_244 rfl
theorem cd_244_29 : cd 244 29 = some (23, 32, 10, 0, 0, []) := cd_row ac_244 rfl
theorem cd_244_32 : cd 244 32 = some (0, 34, 0, 0, 9, []) := cd_row ac_244 rfl
theorem cd_244_34 : cd 244 34 = some (26, 35, 0, 0, 0, []) := cd_row ac_244 rfl
theorem cd_244_35 : cd 244 35 = some (30, 36, 0, 0, 0, []) := cd_row ac_244 rfl
theorem cd_244_36 : cd 244 36 = some (4, 37, 0, 0, 0, []) := cd_row ac_244 rfl
theorem cd_244_37 : cd 244 37 = some (23, 40, 10, 20, 0, []) := cd_row ac_244 rfl
theorem cd_244_40 : cd 244 40 = some (0, 41, 0, 0, 3, []) := cd_row ac_244 rfl
theorem cd_244_41 : cd 244 41 = some (4, 42, 0, 0, 0, []) := cd_row ac_244 rfl
theorem cd_244_42 : cd 244 42 = some (23, 45, 10, 0, 0, []) := cd_row ac_244 rfl
theorem cd_244_45 : cd 244 45 = some (0, 47, 0, 0, 14, []) := cd_row ac_244 rfl
theorem cd_244_47 : cd 244 47 = some (26, 48, 0, 0, 0, []) := cd_row ac_244 rfl
theorem cd_244_48 : cd 244 48 = some (30, 49, 0, 0, 0, []) := cd_row ac_244 rfl
theorem cd_244_49 : cd 244 49 = some (4, 50, 0, 0, 0, []) := cd_row ac_244 rfl
theorem cd_244_50 : cd 244 50 = some (23, 53, 10, 20, 0, []) := cd_row ac_244 rfl
theorem cd_244_53 : cd 244 53 = some (0, 54, 0, 0, 4, []) := cd_row ac_244 rfl
theorem cd_244_54 : cd 244 54 = some (4, 55, 0, 0, 0, []) := cd_row ac_244 rfl
theorem cd_244_55 : cd 244 55 = some (23, 58, 10, 0, 0, []) := cd_row ac_244 rfl
theorem cd_244_58 : cd 244 58 = some (0, 60, 0, 0, 15, []) := cd_row ac_244 rfl
theorem cd_244_60 : cd 244 60 = some (26, 61, 0, 0, 0, []) := cd_row ac_244 rfl
theorem cd_244_61 : cd 244 61 = some (4, 62, 0, 0, 0, []) := cd_row ac_244 rfl
theorem cd_244_62 : cd 244 62 = some (23, 65, 10, 0, 0, []) := cd_row ac_244 rfl
theorem cd_244_65 : cd 244 65 = some (0, 67, 0, 0, 8, []) := cd_row ac_244 rfl
theorem cd_244_67 : cd 244 67 = some (26, 68, 0, 0, 0, []) := cd_row ac_244 rfl
theorem cd_244_68 : cd 244 68 = some (9, 69, 0, 1, 0, []) := cd_row ac_244 rfl
theorem cd_244_69 : cd 244 69 = some (30, 70, 0, 0, 0, []) := cd_row ac_244 rfl
theorem cd_244_70 : cd 244 70 = some (4, 71, 0, 0, 0, []) := cd_row ac_244 rfl
theorem cd_244_71 : cd 244 71 = some (23, 74, 10, 20, 0, []) := cd_row ac_244 rfl
theorem cd_244_74 : cd 244 74 = some (0, 75, 0, 0, 5, []) := cd_row ac_244 rfl
theorem cd_244_75 : cd 244 75 = some (4, 76, 0, 0, 0, []) := cd_row ac_244 rfl
theorem cd_244_76 : cd 244 76 = some (23, 79, 10, 0, 0, []) := cd_row ac_244 rfl
theorem cd_244_79 : cd 244 79 = some (0, 81, 0, 0, 12, []) := cd_row ac_244 rfl
theorem cd_244_81 : cd 244 81 = some (26, 82, 0, 0, 0, []) := cd_row ac_244 rfl
theorem cd_244_82 : cd 244 82 = some (30, 83, 0, 0, 0, []) := cd_row ac_244 rfl
theorem cd_244_83 : cd 244 83 = some (4, 84, 0, 0, 0, []) := cd_row ac_244 rfl
theorem cd_244_84 : cd 244 84 = some (23, 87, 10, 20, 0, []) := cd_row ac_244 rfl
theorem cd_244_87 : cd 244 87 = some (0, 89, 0, 0, 6, []) := cd_row ac_244 rfl
theorem cd_244_89 : cd 244 89 = some (4, 90, 0, 0, 0, []) := cd_row ac_244 rfl
theorem cd_244_90 : cd 244 90 = some (23, 93, 10, 0, 0, []) := cd_row ac_244 rfl
theorem cd_244_93 : cd 244 93 = some (0, 95, 0, 0, 13, []) := cd_row ac_244 rfl
theorem cd_244_95 : cd 244 95 = some (26, 96, 0, 0, 0, []) := cd_row ac_244 rfl
theorem cd_244_96 : cd 244 96 = some (30, 97, 0, 0, 0, []) := cd_row ac_244 rfl
theorem cd_244_97 : cd 244 97 = some (4, 98, 0, 0, 0, []) := cd_row ac_244 rfl
theorem cd_244_98 : cd 244 98 = some (4, 99, 0, 0, 0, []) := cd_row ac_244 rfl
theorem cd_244_99 : cd 244 99 = some (23, 102, 10, 0, 0, []) := cd_row ac_244 rfl
theorem cd_244_102 : cd 244 102 = some (0, 104, 0, 0, 16, []) := cd_row ac_244 rfl
theorem cd_244_104 : cd 244 104 = some (26, 105, 0, 0, 0, []) := cd_row ac_244 rfl
theorem cd_244_105 : cd 244 105 = some (24, 108, 10, 21, 0, []) := cd_row ac_244 rfl
theorem cd_244_108 : cd 244 108 = some (4, 109, 0, 0, 0, []) := cd_row ac_244 rfl
theorem cd_244_109 : cd 244 109 = some (4, 110, 0, 0, 0, []) := cd_row ac_244 rfl
theorem cd_244_110 : cd 244 110 = some (23, 113, 10, 0, 0, []) := cd_row ac_244 rfl
theorem cd_244_113 : cd 244 113 = some (0, 115, 0, 0, 16, []) := cd_row ac_244 rfl
theorem cd_244_115 : cd 244 115 = some (26, 116, 0, 0, 0, []) := cd_row ac_244 rfl
theorem cd_244_116 : cd 244 116 = some (0, 118, 0, 0, 60, []) := cd_row ac_244 rfl
theorem cd_244_118 : cd 244 118 = some (21, 121, 125, 3, 0, []) := cd_row ac_244 rfl
theorem cd_244_121 : cd 244 121 = some (0, 122, 0, 0, 0, []) := cd_row ac_244 rfl
theorem cd_244_122 : cd 244 122 = some (22, 125, 135, 0, 0, []) := cd_row ac_244 rfl
theorem cd_244_125 : cd 244 125 = some (4, 126, 0, 0, 0, []) := cd_row ac_244 rfl
theorem cd_244_126 : cd 244 126 = some (23, 129, 10, 0, 0, []) := cd_row ac_244 rfl
theorem cd_244_129 : cd 244 129 = some (0, 131, 0, 0, 16, []) := cd_row ac_244 rfl
theorem cd_244_131 : cd 244 131 = some (26, 132, 0, 0, 0, []) := cd_row ac_244 rfl
theorem cd_244_132 : cd 244 132 = some (0, 134, 0, 0, 60, []) := cd_row ac_244 rfl
theorem cd_244_134 : cd 244 134 = some (9, 135, 0, 1, 0, []) := cd_row ac_244 rfl
theorem cd_244_135 : cd 244 135 = some (24, 138, 10, 22, 0, []) := cd_row ac_244 rfl
theorem cd_244_138 : cd 244 138 = some (39, 139, 0, 0, 0, []) := cd_row ac_244 rfl
/-! the reference looks around -/
def hY (h : AH) (nm : Nat → Int) (af ae : Int) : AH := (h.1, h.2.1, h.2.2.1, fun k j => if k = 82 ∧ j < 8 then vI (nm j) else if k = 76 ∧ j = 21 then vI af else if k = 76 ∧ j = 22 then vI ae else h.2.2.2 k j)
theorem hY_m {h : AH} {nm : Nat → Int} {af ae : Int} {i : Nat} (hi : i < 8) : hV (hY h nm af ae) 82 i = vI (nm i) := (show ∀ k, k = 82 → hV (hY h nm af ae) k i = vI (nm i) from fun k hk => if_pos ⟨hk, hi⟩) 82 rfl
theorem hY_21 {h : AH} {nm : Nat → Int} {af ae : Int} : hV (hY h nm af ae) 76 21 = vI af := (show ∀ k j, k = 76 → j = 21 → hV (hY h nm af ae) k j = vI af from fun k j hk hj => by
  show (if k = 82 ∧ j < 8 then vI (nm j) else if k = 76 ∧ j = 21 then vI af else _) = _
  rw [if_neg (by omega), if_pos ⟨hk, hj⟩]) 76 21 rfl rfl
theorem hY_22 {h : AH} {nm : Nat → Int} {af ae : Int} : hV (hY h nm af ae) 76 22 = vI ae := (show ∀ k j, k = 76 → j = 22 → hV (hY h nm af ae) k j = vI ae from fun k j hk hj => by
  show (if k = 82 ∧ j < 8 then vI (nm j) else if k = 76 ∧ j = 21 then vI af else if k = 76 ∧ j = 22 then vI ae else _) = _
  rw [if_neg (by omega), if_neg (by omega), if_pos ⟨hk, hj⟩]) 76 22 rfl rfl
theorem hY_n {h : AH} {nm : Nat → Int} {af ae : Int} {k i : Nat} (h1 : k ≠ 82) (h2 : k ≠ 76 ∨ (i ≠ 21 ∧ i ≠ 22)) : hV (hY h nm af ae) k i = hV h k i := by
  show (if k = 82 ∧ i < 8 then vI (nm i) else if k = 76 ∧ i = 21 then vI af else if k = 76 ∧ i = 22 then vI ae else h.2.2.2 k i) = _
  rw [if_neg (by omega), if_neg (by omega), if_neg (by omega)]
  rfl
theorem hY_sm {h : AH} {nm : Nat → Int} {af ae : Int} {i : Nat} {x : Int} (hi : i < 8) : hSet (hY h nm af ae) 82 i (vI x) = hY h (upF nm i x) af ae := by
  refine Prod.ext rfl (Prod.ext rfl (Prod.ext rfl ?_))
  funext k j
  show (if k = 82 ∧ j = i then vI x else if k = 82 ∧ j < 8 then vI (nm j) else if k = 76 ∧ j = 21 then vI af else if k = 76 ∧ j = 22 then vI ae else h.2.2.2 k j) = (if k = 82 ∧ j < 8 then vI (upF nm i x j) else if k = 76 ∧ j = 21 then vI af else if k = 76 ∧ j = 22 then vI ae else h.2.2.2 k j)
  by_cases z : k = 82 ∧ j = i
  · rw [if_pos z, if_pos ⟨z.1, by omega⟩, z.2, upF_at]
  · rw [if_neg z]
    by_cases y : k = 82 ∧ j < 8
    · rw [if_pos y, if_pos y, upF_ne (fun q => z ⟨y.1, q⟩)]
    · rw [if_neg y, if_neg y]
theorem hY_s21 {h : AH} {nm : Nat → Int} {af ae : Int} {x : Int} : hSet (hY h nm af ae) 76 21 (vI x) = hY h nm x ae := by
  refine Prod.ext rfl (Prod.ext rfl (Prod.ext rfl ?_))
  funext k j
  show (if k = 76 ∧ j = 21 then vI x else if k = 82 ∧ j < 8 then vI (nm j) else if k = 76 ∧ j = 21 then vI af else if k = 76 ∧ j = 22 then vI ae else h.2.2.2 k j) = (if k = 82 ∧ j < 8 then vI (nm j) else if k = 76 ∧ j = 21 then vI x else if k = 76 ∧ j = 22 then vI ae else h.2.2.2 k j)
  by_cases z : k = 76 ∧ j = 21
  · rw [if_pos z, if_neg (by omega), if_pos z]
  · rw [if_neg z]
    by_cases y1 : k = 82 ∧ j < 8
    · rw [if_pos y1, if_pos y1]
    rw [if_neg y1, if_neg y1]
    by_cases y2 : k = 76 ∧ j = 21
    · exact absurd y2 z
    rw [if_neg y2, if_neg y2]
theorem hY_s22 {h : AH} {nm : Nat → Int} {af ae : Int} {x : Int} : hSet (hY h nm af ae) 76 22 (vI x) = hY h nm af x := by
  refine Prod.ext rfl (Prod.ext rfl (Prod.ext rfl ?_))
  funext k j
  show (if k = 76 ∧ j = 22 then vI x else if k = 82 ∧ j < 8 then vI (nm j) else if k = 76 ∧ j = 21 then vI af else if k = 76 ∧ j = 22 then vI ae else h.2.2.2 k j) = (if k = 82 ∧ j < 8 then vI (nm j) else if k = 76 ∧ j = 21 then vI af else if k = 76 ∧ j = 22 then vI x else h.2.2.2 k j)
  by_cases z : k = 76 ∧ j = 22
  · rw [if_pos z, if_neg (by omega), if_neg (by omega), if_pos z]
  · rw [if_neg z]
    by_cases y1 : k = 82 ∧ j < 8
    · rw [if_pos y1, if_pos y1]
    rw [if_neg y1, if_neg y1]
    by_cases y2 : k = 76 ∧ j = 21
    · rw [if_pos y2, if_pos y2]
    rw [if_neg y2, if_neg y2]
    by_cases y3 : k = 76 ∧ j = 22
    · exact absurd y3 z
    rw [if_neg y3, if_neg y3]
theorem hU_so {h : AH} {vf tf : Nat → Int} {k0 i : Nat} {v : AV} (h3 : k0 ≠ 83) (h4 : k0 ≠ 84) : hSet (hU h vf tf) k0 i v = hU (hSet h k0 i v) vf tf := by
  refine Prod.ext rfl (Prod.ext rfl (Prod.ext rfl ?_))
  funext k j
  show (if k = k0 ∧ j = i then v else if k = 83 ∧ j < 330 then vL (vf j) else if k = 84 ∧ j < 330 then vI (tf j) else h.2.2.2 k j) = (if k = 83 ∧ j < 330 then vL (vf j) else if k = 84 ∧ j < 330 then vI (tf j) else if k = k0 ∧ j = i then v else h.2.2.2 k j)
  by_cases z : k = k0 ∧ j = i
  · rw [if_pos z, if_neg (fun y => h3 (z.1.symm.trans y.1)), if_neg (fun y => h4 (z.1.symm.trans y.1)), if_pos z]
  · rw [if_neg z]
    by_cases y : k = 83 ∧ j < 330
    · rw [if_pos y, if_pos y]
    rw [if_neg y, if_neg y]
    by_cases y2 : k = 84 ∧ j < 330
    · rw [if_pos y2, if_pos y2]
    rw [if_neg y2, if_neg y2, if_neg z]
/-- the reference's scratch: named, agoFrom, agoEldest, values, truth -/
def hZ (h : AH) (nm : Nat → Int) (af ae : Int) (vf tf : Nat → Int) : AH := hU (hY h nm af ae) vf tf
theorem hK_Z {h : AH} {nm : Nat → Int} {af ae : Int} {vf tf : Nat → Int} : hK (hZ h nm af ae vf tf) = hK h := rfl
theorem hZ_m {h : AH} {nm : Nat → Int} {af ae : Int} {vf tf : Nat → Int} {i : Nat} (hi : i < 8) : hV (hZ h nm af ae vf tf) 82 i = vI (nm i) := (hU_n (by decide) (by decide)).trans (hY_m hi)
theorem hZ_21 {h : AH} {nm : Nat → Int} {af ae : Int} {vf tf : Nat → Int} : hV (hZ h nm af ae vf tf) 76 21 = vI af := (hU_n (by decide) (by decide)).trans hY_21
theorem hZ_22 {h : AH} {nm : Nat → Int} {af ae : Int} {vf tf : Nat → Int} : hV (hZ h nm af ae vf tf) 76 22 = vI ae := (hU_n (by decide) (by decide)).trans hY_22
theorem hZ_n {h : AH} {nm : Nat → Int} {af ae : Int} {vf tf : Nat → Int} {k i : Nat} (h1 : k ≠ 82) (h2 : k ≠ 76 ∨ (i ≠ 21 ∧ i ≠ 22)) (h3 : k ≠ 83) (h4 : k ≠ 84) : hV (hZ h nm af ae vf tf) k i = hV h k i := (hU_n h3 h4).trans (hY_n h1 h2)
theorem hZ_sm {h : AH} {nm : Nat → Int} {af ae : Int} {vf tf : Nat → Int} {i : Nat} {x : Int} (hi : i < 8) : hSet (hZ h nm af ae vf tf) 82 i (vI x) = hZ h (upF nm i x) af ae vf tf := (hU_so (by decide) (by decide)).trans (congrArg (fun g => hU g vf tf) (hY_sm hi))
theorem hZ_s21 {h : AH} {nm : Nat → Int} {af ae : Int} {vf tf : Nat → Int} {x : Int} : hSet (hZ h nm af ae vf tf) 76 21 (vI x) = hZ h nm x ae vf tf := (hU_so (by decide) (by decide)).trans (congrArg (fun g => hU g vf tf) hY_s21)
theorem hZ_s22 {h : AH} {nm : Nat → Int} {af ae : Int} {vf tf : Nat → Int} {x : Int} : hSet (hZ h nm af ae vf tf) 76 22 (vI x) = hZ h nm af x vf tf := (hU_so (by decide) (by decide)).trans (congrArg (fun g => hU g vf tf) hY_s22)
theorem hZ_s22z {h : AH} {nm : Nat → Int} {af ae : Int} {vf tf : Nat → Int} : hSet (hZ h nm af ae vf tf) 76 22 (vI 0) = hZ h nm af 0 vf tf := hZ_s22
/-- the reference's numbers, as the class counts them -/
def HKM (h : AH) (f : Nat → Int) : Prop := (hK h 76 = (10, 0) ∧ hK h 77 = (11, 9834) ∧ hK h 82 = (11, 8)) ∧ (hV h 76 0 = vR 77 ∧ hV h 76 20 = vR 82) ∧ ∀ i, 1 ≤ i → i < 10 → hV h 77 (i + 7) = vI (f i)
theorem E_awM {d : Nat} {g : AH} {f : Nat → Int} (hh : (hK g 76 = (10, 0) ∧ hK g 77 = (11, 9834)) ∧ hV g 76 0 = vR 77 ∧ hV g 77 8 = vI (f 1) ∧ hV g 77 10 = vI (f 3)) (hf : HKr f) (Q : Option AV → AH → Prop) : XC (d + 1) 243 [vR 76] g Q = Q (some (vI (f 1 - f 3))) g := by
  refine XC_eq (Nat.le_of_ble_eq_true rfl) ?_ Q
  show XP d 243 0 [some (vR 76)] [] g _
  obtain ⟨⟨k0, k1⟩, v0, v1, v3⟩ := hh
  have w : WE (f 1 - f 3) (f 1 - f 3) := by
    obtain ⟨a1, _, a3, _⟩ := hf
    unfold WE w32; omega
  refine xpk_sound (stops := []) (n := 20) ?_
  simp only [sk_0, sk_1, sk_2, sk_3, sk_4, sk_5, sk_6, sk_7, sk_8, sk_iadd, sk_isub, sk_imul, sk_iand, sk_ior, sk_ixor, sk_ishl, sk_ishr, sk_iushr, sk_idiv, sk_irem, sk_ineg, sk_ladd, sk_lsub, sk_lmul, sk_land, sk_lor, sk_ldiv, sk_lrem, sk_lneg, sk_lshl, sk_lshr, sk_i2l, sk_l2i, sk_lcmp, sk_dupI, sk_dupR, sk_dup2L, sk_dup2I, sk_popI, sk_ifeq, sk_ifne, sk_iflt, sk_ifge, sk_ifgt, sk_ifle, sk_iceq, sk_icne, sk_iclt, sk_icge, sk_icgt, sk_icle, sk_goto, sk_getf, sk_putf, sk_gets, sk_iald, sk_lald, sk_bald, sk_aald, sk_iast, sk_last, sk_bast, sk_aast, sk_alen, sk_newa, sk_newt, sk_new, sk_cs1, sk_cs2, sk_cs3, sk_cs4, sk_cs5, sk_cs6, sk_cv1, sk_cv2, sk_cv3, sk_cv4, sk_cv5, sk_cv6, sk_ci1, sk_ci2, sk_ci3, sk_ret0, sk_retI, sk_retL, sk_retR, sk_sw, sk_oin, sk_max, sk_min, sk_abs, lI_0, lI_s, lL_0, lL_s, lR_0, lR_s, vIo_e, vLo_e, vOo_e, stW_I, stW_L, stW_R, stW_0, stW_z, okSt_0, okSt_s, hV_eq, hK_eq, okF_0, okF_1, okF_3, is01_0, is01_1, is01_i, Int.toNat_natCast, Int.reduceEq, Int.reduceLE, Int.reduceLT, Int.reduceNeg, Nat.reduceLT, not_true_eq_false, not_false_eq_true, reduceIte, Option.toList, List.cons_append, List.nil_append, List.set_cons_zero, List.set_cons_succ, List.not_mem_nil, List.mem_cons, if_false, if_true, ite_true, ite_false, and_self, and_true, true_and, Nat.reduceAdd, Nat.reduceLeDiff, Nat.reduceEqDiff, Nat.zero_add, Nat.le_refl, Nat.zero_le, or_false, false_or, Int.reduceToNat, or_true, true_or, eq_self, and_false, false_and, inR_d, nc_4, nc_5, nc_6, nc_7, nc_8, nc_16, nc_18, nc_20, nc_24, nc_32, nc_40, nc_64, nc_104, nc_120, nc_160, nc_256, nc_300, nc_330, nc_390, nc_1200, nc_1260, nc_3012, nc_9834, okSt_1i, okSt_1r, okSt_1n, List.length_cons, List.length_nil, xpk_succ cd_243_0, xpk_succ cd_243_1, xpk_succ cd_243_4, xpk_succ cd_243_6, xpk_succ cd_243_7, xpk_succ cd_243_8, xpk_succ cd_243_11, xpk_succ cd_243_13, xpk_succ cd_243_14, xpk_succ cd_243_15, k0, k1, v0, v1, v3, (WE_e w)]
theorem E_nn {d : Nat} {h : AH} {nm : Nat → Int} {af ae : Int} {vf tf : Nat → Int} {f : Nat → Int} (hh : HKM h f) (hf : HKr f) (Q : Option AV → AH → Prop) : XC (d + 2) 244 [vR 76] (hZ h nm af ae vf tf) Q = Q none (hZ h (lkN f nm) (f 9) (elF (f 9)) vf tf) := by
  refine XC_eq (Nat.le_of_ble_eq_true rfl) ?_ Q
  show XP (d + 1) 244 0 [some (vR 76)] [] (hZ h nm af ae vf tf) _
  obtain ⟨⟨k0, k1, k2⟩, ⟨v0, v20⟩, kv⟩ := hh
  have q0 : ∀ {nm : Nat → Int} {af ae : Int}, hV (hZ h nm af ae vf tf) 76 0 = vR 77 := (hZ_n (by decide) (Or.inr ⟨by decide, by decide⟩) (by decide) (by decide)).trans v0
  have q20 : ∀ {nm : Nat → Int} {af ae : Int}, hV (hZ h nm af ae vf tf) 76 20 = vR 82 := (hZ_n (by decide) (Or.inr ⟨by decide, by decide⟩) (by decide) (by decide)).trans v20
  have m1 : ∀ {nm : Nat → Int} {af ae : Int}, hV (hZ h nm af ae vf tf) 77 8 = vI (f 1) := (hZ_n (by decide) (Or.inl (by decide)) (by decide) (by decide)).trans (kv 1 (by decide) (by decide))
  have m2 : ∀ {nm : Nat → Int} {af ae : Int}, hV (hZ h nm af ae vf tf) 77 9 = vI (f 2) := (hZ_n (by decide) (Or.inl (by decide)) (by decide) (by decide)).trans (kv 2 (by decide) (by decide))
  have m3 : ∀ {nm : Nat → Int} {af ae : Int}, hV (hZ h nm af ae vf tf) 77 10 = vI (f 3) := (hZ_n (by decide) (Or.inl (by decide)) (by decide) (by decide)).trans (kv 3 (by decide) (by decide))
  have m4 : ∀ {nm : Nat → Int} {af ae : Int}, hV (hZ h nm af ae vf tf) 77 11 = vI (f 4) := (hZ_n (by decide) (Or.inl (by decide)) (by decide) (by decide)).trans (kv 4 (by decide) (by decide))
  have m5 : ∀ {nm : Nat → Int} {af ae : Int}, hV (hZ h nm af ae vf tf) 77 12 = vI (f 5) := (hZ_n (by decide) (Or.inl (by decide)) (by decide) (by decide)).trans (kv 5 (by decide) (by decide))
  have m6 : ∀ {nm : Nat → Int} {af ae : Int}, hV (hZ h nm af ae vf tf) 77 13 = vI (f 6) := (hZ_n (by decide) (Or.inl (by decide)) (by decide) (by decide)).trans (kv 6 (by decide) (by decide))
  have m7 : ∀ {nm : Nat → Int} {af ae : Int}, hV (hZ h nm af ae vf tf) 77 14 = vI (f 7) := (hZ_n (by decide) (Or.inl (by decide)) (by decide) (by decide)).trans (kv 7 (by decide) (by decide))
  have m8 : ∀ {nm : Nat → Int} {af ae : Int}, hV (hZ h nm af ae vf tf) 77 15 = vI (f 8) := (hZ_n (by decide) (Or.inl (by decide)) (by decide) (by decide)).trans (kv 8 (by decide) (by decide))
  have m9 : ∀ {nm : Nat → Int} {af ae : Int}, hV (hZ h nm af ae vf tf) 77 16 = vI (f 9) := (hZ_n (by decide) (Or.inl (by decide)) (by decide) (by decide)).trans (kv 9 (by decide) (by decide))
  have ea := fun {nm : Nat → Int} {af ae : Int} Q => E_awM (d := d) (g := hZ h nm af ae vf tf) ⟨⟨k0, k1⟩, q0, m1, m3⟩ hf Q
  have w : WE (f 8 - f 1) (f 8 - f 1) := by
    obtain ⟨a1, _, _, _, _, _, _, a8, _⟩ := hf
    unfold WE w32; omega
  have w9 : WE (f 9 - 60) (f 9 - 60) := by
    have a9 := hf.2.2.2.2.2.2.2.2
    unfold WE w32; omega
  unfold lkN
  by_cases z : (60 : Int) ≤ f 9
  · have e : elF (f 9) = f 9 - 60 := by unfold elF; split <;> omega
    rw [e]
    refine xpk_sound (stops := []) (n := 110) ?_
    simp only [sk_0, sk_1, sk_2, sk_3, sk_4, sk_5, sk_6, sk_7, sk_8, sk_iadd, sk_isub, sk_imul, sk_iand, sk_ior, sk_ixor, sk_ishl, sk_ishr, sk_iushr, sk_idiv, sk_irem, sk_ineg, sk_ladd, sk_lsub, sk_lmul, sk_land, sk_lor, sk_ldiv, sk_lrem, sk_lneg, sk_lshl, sk_lshr, sk_i2l, sk_l2i, sk_lcmp, sk_dupI, sk_dupR, sk_dup2L, sk_dup2I, sk_popI, sk_ifeq, sk_ifne, sk_iflt, sk_ifge, sk_ifgt, sk_ifle, sk_iceq, sk_icne, sk_iclt, sk_icge, sk_icgt, sk_icle, sk_goto, sk_getf, sk_putf, sk_gets, sk_iald, sk_lald, sk_bald, sk_aald, sk_iast, sk_last, sk_bast, sk_aast, sk_alen, sk_newa, sk_newt, sk_new, sk_cs1, sk_cs2, sk_cs3, sk_cs4, sk_cs5, sk_cs6, sk_cv1, sk_cv2, sk_cv3, sk_cv4, sk_cv5, sk_cv6, sk_ci1, sk_ci2, sk_ci3, sk_ret0, sk_retI, sk_retL, sk_retR, sk_sw, sk_oin, sk_max, sk_min, sk_abs, lI_0, lI_s, lL_0, lL_s, lR_0, lR_s, vIo_e, vLo_e, vOo_e, stW_I, stW_L, stW_R, stW_0, stW_z, okSt_0, okSt_s, hV_eq, hK_eq, okF_0, okF_1, okF_3, is01_0, is01_1, is01_i, Int.toNat_natCast, Int.reduceEq, Int.reduceLE, Int.reduceLT, Int.reduceNeg, Nat.reduceLT, not_true_eq_false, not_false_eq_true, reduceIte, Option.toList, List.cons_append, List.nil_append, List.set_cons_zero, List.set_cons_succ, List.not_mem_nil, List.mem_cons, if_false, if_true, ite_true, ite_false, and_self, and_true, true_and, Nat.reduceAdd, Nat.reduceLeDiff, Nat.reduceEqDiff, Nat.zero_add, Nat.le_refl, Nat.zero_le, or_false, false_or, Int.reduceToNat, or_true, true_or, eq_self, and_false, false_and, inR_d, nc_4, nc_5, nc_6, nc_7, nc_8, nc_16, nc_18, nc_20, nc_24, nc_32, nc_40, nc_64, nc_104, nc_120, nc_160, nc_256, nc_300, nc_330, nc_390, nc_1200, nc_1260, nc_3012, nc_9834, okSt_1i, okSt_1r, okSt_1n, List.length_cons, List.length_nil, xpk_succ cd_244_0, xpk_succ cd_244_1, xpk_succ cd_244_4, xpk_succ cd_244_5, xpk_succ cd_244_6, xpk_succ cd_244_9, xpk_succ cd_244_10, xpk_succ cd_244_11, xpk_succ cd_244_14, xpk_succ cd_244_15, xpk_succ cd_244_16, xpk_succ cd_244_19, xpk_succ cd_244_21, xpk_succ cd_244_22, xpk_succ cd_244_23, xpk_succ cd_244_24, xpk_succ cd_244_27, xpk_succ cd_244_28, xpk_succ cd_244_29, xpk_succ cd_244_32, xpk_succ cd_244_34, xpk_succ cd_244_35, xpk_succ cd_244_36, xpk_succ cd_244_37, xpk_succ cd_244_40, xpk_succ cd_244_41, xpk_succ cd_244_42, xpk_succ cd_244_45, xpk_succ cd_244_47, xpk_succ cd_244_48, xpk_succ cd_244_49, xpk_succ cd_244_50, xpk_succ cd_244_53, xpk_succ cd_244_54, xpk_succ cd_244_55, xpk_succ cd_244_58, xpk_succ cd_244_60, xpk_succ cd_244_61, xpk_succ cd_244_62, xpk_succ cd_244_65, xpk_succ cd_244_67, xpk_succ cd_244_68, xpk_succ cd_244_69, xpk_succ cd_244_70, xpk_succ cd_244_71, xpk_succ cd_244_74, xpk_succ cd_244_75, xpk_succ cd_244_76, xpk_succ cd_244_79, xpk_succ cd_244_81, xpk_succ cd_244_82, xpk_succ cd_244_83, xpk_succ cd_244_84, xpk_succ cd_244_87, xpk_succ cd_244_89, xpk_succ cd_244_90, xpk_succ cd_244_93, xpk_succ cd_244_95, xpk_succ cd_244_96, xpk_succ cd_244_97, xpk_succ cd_244_98, xpk_succ cd_244_99, xpk_succ cd_244_102, xpk_succ cd_244_104, xpk_succ cd_244_105, xpk_succ cd_244_108, xpk_succ cd_244_109, xpk_succ cd_244_110, xpk_succ cd_244_113, xpk_succ cd_244_115, xpk_succ cd_244_116, xpk_succ cd_244_118, xpk_succ cd_244_121, xpk_succ cd_244_122, xpk_succ cd_244_125, xpk_succ cd_244_126, xpk_succ cd_244_129, xpk_succ cd_244_131, xpk_succ cd_244_132, xpk_succ cd_244_134, xpk_succ cd_244_135, xpk_succ cd_244_138, hK_Z, k0, k1, k2, q0, q20, m1, m2, m3, m4, m5, m6, m7, m8, m9, ea, (WE_e w), (WE_e w9), z, (hZ_sm (i := 0) (by decide)), (hZ_sm (i := 1) (by decide)), (hZ_sm (i := 2) (by decide)), (hZ_sm (i := 3) (by decide)), (hZ_sm (i := 4) (by decide)), (hZ_sm (i := 5) (by decide)), (hZ_sm (i := 6) (by decide)), hZ_s21, hZ_s22]
  · have e : elF (f 9) = 0 := if_pos (by omega)
    rw [e]
    refine xpk_sound (stops := []) (n := 110) ?_
    simp only [sk_0, sk_1, sk_2, sk_3, sk_4, sk_5, sk_6, sk_7, sk_8, sk_iadd, sk_isub, sk_imul, sk_iand, sk_ior, sk_ixor, sk_ishl, sk_ishr, sk_iushr, sk_idiv, sk_irem, sk_ineg, sk_ladd, sk_lsub, sk_lmul, sk_land, sk_lor, sk_ldiv, sk_lrem, sk_lneg, sk_lshl, sk_lshr, sk_i2l, sk_l2i, sk_lcmp, sk_dupI, sk_dupR, sk_dup2L, sk_dup2I, sk_popI, sk_ifeq, sk_ifne, sk_iflt, sk_ifge, sk_ifgt, sk_ifle, sk_iceq, sk_icne, sk_iclt, sk_icge, sk_icgt, sk_icle, sk_goto, sk_getf, sk_putf, sk_gets, sk_iald, sk_lald, sk_bald, sk_aald, sk_iast, sk_last, sk_bast, sk_aast, sk_alen, sk_newa, sk_newt, sk_new, sk_cs1, sk_cs2, sk_cs3, sk_cs4, sk_cs5, sk_cs6, sk_cv1, sk_cv2, sk_cv3, sk_cv4, sk_cv5, sk_cv6, sk_ci1, sk_ci2, sk_ci3, sk_ret0, sk_retI, sk_retL, sk_retR, sk_sw, sk_oin, sk_max, sk_min, sk_abs, lI_0, lI_s, lL_0, lL_s, lR_0, lR_s, vIo_e, vLo_e, vOo_e, stW_I, stW_L, stW_R, stW_0, stW_z, okSt_0, okSt_s, hV_eq, hK_eq, okF_0, okF_1, okF_3, is01_0, is01_1, is01_i, Int.toNat_natCast, Int.reduceEq, Int.reduceLE, Int.reduceLT, Int.reduceNeg, Nat.reduceLT, not_true_eq_false, not_false_eq_true, reduceIte, Option.toList, List.cons_append, List.nil_append, List.set_cons_zero, List.set_cons_succ, List.not_mem_nil, List.mem_cons, if_false, if_true, ite_true, ite_false, and_self, and_true, true_and, Nat.reduceAdd, Nat.reduceLeDiff, Nat.reduceEqDiff, Nat.zero_add, Nat.le_refl, Nat.zero_le, or_false, false_or, Int.reduceToNat, or_true, true_or, eq_self, and_false, false_and, inR_d, nc_4, nc_5, nc_6, nc_7, nc_8, nc_16, nc_18, nc_20, nc_24, nc_32, nc_40, nc_64, nc_104, nc_120, nc_160, nc_256, nc_300, nc_330, nc_390, nc_1200, nc_1260, nc_3012, nc_9834, okSt_1i, okSt_1r, okSt_1n, List.length_cons, List.length_nil, xpk_succ cd_244_0, xpk_succ cd_244_1, xpk_succ cd_244_4, xpk_succ cd_244_5, xpk_succ cd_244_6, xpk_succ cd_244_9, xpk_succ cd_244_10, xpk_succ cd_244_11, xpk_succ cd_244_14, xpk_succ cd_244_15, xpk_succ cd_244_16, xpk_succ cd_244_19, xpk_succ cd_244_21, xpk_succ cd_244_22, xpk_succ cd_244_23, xpk_succ cd_244_24, xpk_succ cd_244_27, xpk_succ cd_244_28, xpk_succ cd_244_29, xpk_succ cd_244_32, xpk_succ cd_244_34, xpk_succ cd_244_35, xpk_succ cd_244_36, xpk_succ cd_244_37, xpk_succ cd_244_40, xpk_succ cd_244_41, xpk_succ cd_244_42, xpk_succ cd_244_45, xpk_succ cd_244_47, xpk_succ cd_244_48, xpk_succ cd_244_49, xpk_succ cd_244_50, xpk_succ cd_244_53, xpk_succ cd_244_54, xpk_succ cd_244_55, xpk_succ cd_244_58, xpk_succ cd_244_60, xpk_succ cd_244_61, xpk_succ cd_244_62, xpk_succ cd_244_65, xpk_succ cd_244_67, xpk_succ cd_244_68, xpk_succ cd_244_69, xpk_succ cd_244_70, xpk_succ cd_244_71, xpk_succ cd_244_74, xpk_succ cd_244_75, xpk_succ cd_244_76, xpk_succ cd_244_79, xpk_succ cd_244_81, xpk_succ cd_244_82, xpk_succ cd_244_83, xpk_succ cd_244_84, xpk_succ cd_244_87, xpk_succ cd_244_89, xpk_succ cd_244_90, xpk_succ cd_244_93, xpk_succ cd_244_95, xpk_succ cd_244_96, xpk_succ cd_244_97, xpk_succ cd_244_98, xpk_succ cd_244_99, xpk_succ cd_244_102, xpk_succ cd_244_104, xpk_succ cd_244_105, xpk_succ cd_244_108, xpk_succ cd_244_109, xpk_succ cd_244_110, xpk_succ cd_244_113, xpk_succ cd_244_115, xpk_succ cd_244_116, xpk_succ cd_244_118, xpk_succ cd_244_121, xpk_succ cd_244_122, xpk_succ cd_244_125, xpk_succ cd_244_126, xpk_succ cd_244_129, xpk_succ cd_244_131, xpk_succ cd_244_132, xpk_succ cd_244_134, xpk_succ cd_244_135, xpk_succ cd_244_138, hK_Z, k0, k1, k2, q0, q20, m1, m2, m3, m4, m5, m6, m7, m8, m9, ea, (WE_e w), z, (hZ_sm (i := 0) (by decide)), (hZ_sm (i := 1) (by decide)), (hZ_sm (i := 2) (by decide)), (hZ_sm (i := 3) (by decide)), (hZ_sm (i := 4) (by decide)), (hZ_sm (i := 5) (by decide)), (hZ_sm (i := 6) (by decide)), hZ_s21, hZ_s22z]
/-- behind a law -/
def WKq (h : AH) (v : Int) (r : Option AV) (g : AH) : Prop := r = some (vI v) ∧ ∃ vf tf : Nat → Int, g = hU h vf tf
set_option maxHeartbeats 4000000 in
theorem E_wkn {d : Nat} {h : AH} {e : ENV} {l : Int} (hk : (hV h 76 2 = vR 79 ∧ hV h 76 20 = vR 82 ∧ hV h 76 23 = vR 83 ∧ hV h 76 24 = vR 84) ∧ (hK h 76 = (10, 0) ∧ hK h 79 = (11, 3012) ∧ hK h 82 = (11, 8) ∧ hK h 83 = (12, 330) ∧ hK h 84 = (13, 330))) (hnm : ∀ m : Nat, m < 8 → isNm l (m : Int) = true → hV h 82 m = vI (e.1 m)) (hag : l ≤ 2 → ∀ (k w : Nat) (vf tf : Nat → Int) (Q : Option AV → AH → Prop), 1 ≤ k → k ≤ 9 → w ≤ 4 → XC (d + 3) 239 [vR 76, vI (k : Int), vI (w : Int)] (hU h vf tf) Q = Q (some (vI (e.2 k w))) (hU h vf tf)) {gm : Nat → Int} (hg : ∀ i, i < 3012 → hV h 79 i = vI (gm i)) {J i W : Nat} {cl : cCl} (hJ : J < 4) (hi : i < 24) (hW : W ≤ 300) (hC : CLM J gm i cl W) (h5 : cl.1 < 5) (hl : cl.1 = l) (hn : CLn cl) (he : envK e) {f : ENV → Int} (hm : SemM cl.2.1 f) (hok : okC cl.2.1) (hrf : rngV (f e)) {vf tf : Nat → Int} : ∃ vf' tf' : Nat → Int, ∀ Q : Option AV → AH → Prop, XC (d + 4) 240 [vR 76, vI (J : Int), vI (i : Int)] (hU h vf tf) Q = Q (some (vI (f e))) (hU h vf' tf') := by
  obtain ⟨_, c5, _⟩ := hC
  obtain ⟨w, wl, r1, r2, rc⟩ := c5 h5
  have hl5 : cl.2.1.length + w ≤ 300 := by omega
  have g1 := (hg (753 * J + 1 + 6 * i + 1) (by omega)).trans (congrArg vI r1)
  have g2 := (hg (753 * J + 1 + 6 * i + 2) (by omega)).trans (congrArg vI r2)
  have nx : ∀ (vf' tf' : Nat → Int) (l8 l9 : Option AV), PLf vf' (mRn e cl.2.1 ([], [])).1 → PLb tf' (mRn e cl.2.1 ([], [])).2 → XP (d + 3) 240 40 [some (vR 76), some (vI (J : Int)), some (vI (i : Int)), some (vI ((753 * J + 1 + 6 * i : Nat) : Int)), some (vI ((753 * J + 145 : Nat) : Int)), some (vI ((mRn e cl.2.1 ([], [])).1.length : Int)), some (vI ((mRn e cl.2.1 ([], [])).2.length : Int)), some (vI ((w + cl.2.1.length : Nat) : Int)), l8, l9] [] (hU h vf' tf') (WKq h (f e)) := fun vf' tf' l8 l9 hp _ => by
    rw [hm e he [] []] at hp ⊢
    show XP (d + 3) 240 40 [some (vR 76), some (vI (J : Int)), some (vI (i : Int)), some (vI ((753 * J + 1 + 6 * i : Nat) : Int)), some (vI ((753 * J + 145 : Nat) : Int)), some (vI 1), some (vI 0), some (vI ((w + cl.2.1.length : Nat) : Int)), l8, l9] [] (hU h vf' tf') (WKq h (f e))
    have v : hV (hU h vf' tf') 83 0 = vL (f e) := (hU_v (by decide)).trans (congrArg vL hp.1)
    have y : WKq h (f e) (some (vI (f e))) (hU h vf' tf') := ⟨rfl, vf', tf', rfl⟩
    have o2 : hV (hU h vf' tf') 76 2 = vR 79 := (hU_n (by decide) (by decide)).trans hk.1.1
    have o4 : hV (hU h vf' tf') 76 23 = vR 83 := (hU_n (by decide) (by decide)).trans hk.1.2.2.1
    have q2 : hV (hU h vf' tf') 79 (753 * J + 1 + 6 * i + 2) = vI ((w + cl.2.1.length : Nat) : Int) := (hU_n (by decide) (by decide)).trans g2
    have a1 : WE (((753 * J + 1 + 6 * i : Nat) : Int) + 2) ((753 * J + 1 + 6 * i + 2 : Nat) : Int) := by unfold WE w32; omega
    have b1 : (0 : Int) ≤ ((753 * J + 1 + 6 * i + 2 : Nat) : Int) ∧ ((753 * J + 1 + 6 * i + 2 : Nat) : Int) < 3012 := by omega
    have z : ((w + cl.2.1.length : Nat) : Int) ≤ ((w + cl.2.1.length : Nat) : Int) := Int.le_refl _
    have wf : WE (f e) (f e) := by unfold rngV at hrf; unfold WE w32; omega
    refine xpk_sound (stops := []) (n := 40) ?_
    simp only [sk_0, sk_1, sk_2, sk_3, sk_4, sk_5, sk_6, sk_7, sk_8, sk_iadd, sk_isub, sk_imul, sk_iand, sk_ior, sk_ixor, sk_ishl, sk_ishr, sk_iushr, sk_idiv, sk_irem, sk_ineg, sk_ladd, sk_lsub, sk_lmul, sk_land, sk_lor, sk_ldiv, sk_lrem, sk_lneg, sk_lshl, sk_lshr, sk_i2l, sk_l2i, sk_lcmp, sk_dupI, sk_dupR, sk_dup2L, sk_dup2I, sk_popI, sk_ifeq, sk_ifne, sk_iflt, sk_ifge, sk_ifgt, sk_ifle, sk_iceq, sk_icne, sk_iclt, sk_icge, sk_icgt, sk_icle, sk_goto, sk_getf, sk_putf, sk_gets, sk_iald, sk_lald, sk_bald, sk_aald, sk_iast, sk_last, sk_bast, sk_aast, sk_alen, sk_newa, sk_newt, sk_new, sk_cs1, sk_cs2, sk_cs3, sk_cs4, sk_cs5, sk_cs6, sk_cv1, sk_cv2, sk_cv3, sk_cv4, sk_cv5, sk_cv6, sk_ci1, sk_ci2, sk_ci3, sk_ret0, sk_retI, sk_retL, sk_retR, sk_sw, sk_oin, sk_max, sk_min, sk_abs, lI_0, lI_s, lL_0, lL_s, lR_0, lR_s, vIo_e, vLo_e, vOo_e, stW_I, stW_L, stW_R, stW_0, stW_z, okSt_0, okSt_s, hV_eq, hK_eq, okF_0, okF_1, okF_3, is01_0, is01_1, is01_i, Int.toNat_natCast, Int.reduceEq, Int.reduceLE, Int.reduceLT, Int.reduceNeg, Nat.reduceLT, not_true_eq_false, not_false_eq_true, reduceIte, Option.toList, List.cons_append, List.nil_append, List.set_cons_zero, List.set_cons_succ, List.not_mem_nil, List.mem_cons, if_false, if_true, ite_true, ite_false, and_self, and_true, true_and, Nat.reduceAdd, Nat.reduceLeDiff, Nat.reduceEqDiff, Nat.zero_add, Nat.le_refl, Nat.zero_le, or_false, false_or, Int.reduceToNat, or_true, true_or, eq_self, and_false, false_and, inR_d, nc_4, nc_5, nc_6, nc_7, nc_8, nc_16, nc_18, nc_20, nc_24, nc_32, nc_40, nc_64, nc_104, nc_120, nc_160, nc_256, nc_300, nc_330, nc_390, nc_1200, nc_1260, nc_3012, nc_9834, okSt_1i, okSt_1r, okSt_1n, List.length_cons, List.length_nil, xpk_succ cd_240_40, xpk_succ cd_240_42, xpk_succ cd_240_43, xpk_succ cd_240_46, xpk_succ cd_240_47, xpk_succ cd_240_48, xpk_succ cd_240_49, xpk_succ cd_240_50, hK_U, hk.2.1, hk.2.2.1, hk.2.2.2.2.1, o2, o4, q2, (WE_e a1), b1, z, v, (WE_e wf), xpk_succ cd_240_473, xpk_succ cd_240_474, xpk_succ cd_240_477, xpk_succ cd_240_478, xpk_succ cd_240_479, xpk_succ cd_240_480]
    exact y
  have y := WK_r (X := 753 * J + 1 + 6 * i) (P := 753 * J + 145) (T := J) (k := i) (b := w + cl.2.1.length) (PQ := WKq h (f e)) hk hnm hag (by omega) (by omega) g2 (by omega) cl.2.1 w ([], []) vf tf none none rfl (fun j q hj => by
    have hlj := gq_l _ _ _ hj
    have q1 := rc j q hj
    exact ⟨(hg _ (by omega)).trans (congrArg vI q1.1), (hg _ (by omega)).trans (congrArg vI q1.2)⟩) trivial trivial (Nat.zero_le _) (Nat.zero_le _) (hok e he [] [] (fun x hx => by cases hx)) (fun q hq => hl ▸ hn h5 q hq) nx
  have y : XP (d + 3) 240 40 [some (vR 76), some (vI (J : Int)), some (vI (i : Int)), some (vI ((753 * J + 1 + 6 * i : Nat) : Int)), some (vI ((753 * J + 145 : Nat) : Int)), some (vI 0), some (vI 0), some (vI (w : Int)), none, none] [] (hU h vf tf) (WKq h (f e)) := y
  have q0 : XC (d + 4) 240 [vR 76, vI (J : Int), vI (i : Int)] (hU h vf tf) (WKq h (f e)) := by
    refine XC_of (Nat.le_of_ble_eq_true rfl) ?_
    show XP (d + 3) 240 0 [some (vR 76), some (vI (J : Int)), some (vI (i : Int)), none, none, none, none, none, none, none] [] (hU h vf tf) _
    have k1 := hk.2.1
    have k2 := hk.2.2.1
    have o2 : hV (hU h vf tf) 76 2 = vR 79 := (hU_n (by decide) (by decide)).trans hk.1.1
    have q1 : hV (hU h vf tf) 79 (753 * J + 1 + 6 * i + 1) = vI (w : Int) := (hU_n (by decide) (by decide)).trans g1
    have a1 : WE (753 * (J : Int)) ((753 * J : Nat) : Int) := by unfold WE w32; omega
    have a2 : WE (((753 * J : Nat) : Int) + 1) ((753 * J + 1 : Nat) : Int) := by unfold WE w32; omega
    have a3 : WE (6 * (i : Int)) ((6 * i : Nat) : Int) := by unfold WE w32; omega
    have a4 : WE (((753 * J + 1 : Nat) : Int) + ((6 * i : Nat) : Int)) ((753 * J + 1 + 6 * i : Nat) : Int) := by unfold WE w32; omega
    have a5 : WE (((753 * J : Nat) : Int) + 145) ((753 * J + 145 : Nat) : Int) := by unfold WE w32; omega
    have a6 : WE (((753 * J + 1 + 6 * i : Nat) : Int) + 1) ((753 * J + 1 + 6 * i + 1 : Nat) : Int) := by unfold WE w32; omega
    have b1 : (0 : Int) ≤ ((753 * J + 1 + 6 * i + 1 : Nat) : Int) ∧ ((753 * J + 1 + 6 * i + 1 : Nat) : Int) < 3012 := by omega
    refine xpk_sound (stops := [40]) (n := 40) ?_
    simp only [sk_0, sk_1, sk_2, sk_3, sk_4, sk_5, sk_6, sk_7, sk_8, sk_iadd, sk_isub, sk_imul, sk_iand, sk_ior, sk_ixor, sk_ishl, sk_ishr, sk_iushr, sk_idiv, sk_irem, sk_ineg, sk_ladd, sk_lsub, sk_lmul, sk_land, sk_lor, sk_ldiv, sk_lrem, sk_lneg, sk_lshl, sk_lshr, sk_i2l, sk_l2i, sk_lcmp, sk_dupI, sk_dupR, sk_dup2L, sk_dup2I, sk_popI, sk_ifeq, sk_ifne, sk_iflt, sk_ifge, sk_ifgt, sk_ifle, sk_iceq, sk_icne, sk_iclt, sk_icge, sk_icgt, sk_icle, sk_goto, sk_getf, sk_putf, sk_gets, sk_iald, sk_lald, sk_bald, sk_aald, sk_iast, sk_last, sk_bast, sk_aast, sk_alen, sk_newa, sk_newt, sk_new, sk_cs1, sk_cs2, sk_cs3, sk_cs4, sk_cs5, sk_cs6, sk_cv1, sk_cv2, sk_cv3, sk_cv4, sk_cv5, sk_cv6, sk_ci1, sk_ci2, sk_ci3, sk_ret0, sk_retI, sk_retL, sk_retR, sk_sw, sk_oin, sk_max, sk_min, sk_abs, lI_0, lI_s, lL_0, lL_s, lR_0, lR_s, vIo_e, vLo_e, vOo_e, stW_I, stW_L, stW_R, stW_0, stW_z, okSt_0, okSt_s, hV_eq, hK_eq, okF_0, okF_1, okF_3, is01_0, is01_1, is01_i, Int.toNat_natCast, Int.reduceEq, Int.reduceLE, Int.reduceLT, Int.reduceNeg, Nat.reduceLT, not_true_eq_false, not_false_eq_true, reduceIte, Option.toList, List.cons_append, List.nil_append, List.set_cons_zero, List.set_cons_succ, List.not_mem_nil, List.mem_cons, if_false, if_true, ite_true, ite_false, and_self, and_true, true_and, Nat.reduceAdd, Nat.reduceLeDiff, Nat.reduceEqDiff, Nat.zero_add, Nat.le_refl, Nat.zero_le, or_false, false_or, Int.reduceToNat, or_true, true_or, eq_self, and_false, false_and, inR_d, nc_4, nc_5, nc_6, nc_7, nc_8, nc_16, nc_18, nc_20, nc_24, nc_32, nc_40, nc_64, nc_104, nc_120, nc_160, nc_256, nc_300, nc_330, nc_390, nc_1200, nc_1260, nc_3012, nc_9834, okSt_1i, okSt_1r, okSt_1n, List.length_cons, List.length_nil, xpk_succ cd_240_0, xpk_succ cd_240_3, xpk_succ cd_240_4, xpk_succ cd_240_5, xpk_succ cd_240_6, xpk_succ cd_240_7, xpk_succ cd_240_9, xpk_succ cd_240_10, xpk_succ cd_240_11, xpk_succ cd_240_12, xpk_succ cd_240_13, xpk_succ cd_240_16, xpk_succ cd_240_17, xpk_succ cd_240_18, xpk_succ cd_240_21, xpk_succ cd_240_22, xpk_succ cd_240_24, xpk_succ cd_240_25, xpk_succ cd_240_27, xpk_succ cd_240_28, xpk_succ cd_240_30, xpk_succ cd_240_31, xpk_succ cd_240_34, xpk_succ cd_240_35, xpk_succ cd_240_36, xpk_succ cd_240_37, xpk_succ cd_240_38, hK_U, k1, k2, o2, q1, (WE_e a1), (WE_e a2), (WE_e a3), (WE_e a4), (WE_e a5), (WE_e a6), b1]
    exact y
  obtain ⟨r1, g1, ⟨hr1, vf', tf', hg⟩, e3⟩ := XC_dt q0
  subst hr1 hg
  exact ⟨vf', tf', e3⟩
