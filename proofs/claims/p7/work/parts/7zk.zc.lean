set_option maxRecDepth 20000 in
theorem ac_110 : allC[110]? = some cl110 := rfl
theorem cd_110_0 : cd 110 0 = some (2, 1, 1, 0, 0, []) := cd_row ac_110 rfl
theorem cd_110_1 : cd 110 1 = some (0, 2, 0, 0, 0, []) := cd_row ac_110 rfl
theorem cd_110_2 : cd 110 2 = some (0, 4, 0, 0, 7, []) := cd_row ac_110 rfl
theorem cd_110_4 : cd 110 4 = some (38, 7, 177, 3, 0, []) := cd_row ac_110 rfl
theorem cd_110_7 : cd 110 7 = some (20, 10, 23, 0, 0, []) := cd_row ac_110 rfl
theorem cd_110_10 : cd 110 10 = some (2, 11, 2, 0, 0, []) := cd_row ac_110 rfl
theorem cd_110_11 : cd 110 11 = some (0, 12, 0, 0, 0, []) := cd_row ac_110 rfl
theorem cd_110_12 : cd 110 12 = some (0, 13, 0, 0, 4, []) := cd_row ac_110 rfl
theorem cd_110_13 : cd 110 13 = some (38, 16, 177, 3, 0, []) := cd_row ac_110 rfl
theorem cd_110_16 : cd 110 16 = some (20, 19, 23, 0, 0, []) := cd_row ac_110 rfl
theorem cd_110_19 : cd 110 19 = some (0, 20, 0, 0, 1, []) := cd_row ac_110 rfl
theorem cd_110_20 : cd 110 20 = some (22, 23, 24, 0, 0, []) := cd_row ac_110 rfl
theorem cd_110_23 : cd 110 23 = some (0, 24, 0, 0, 0, []) := cd_row ac_110 rfl
theorem cd_110_24 : cd 110 24 = some (5, 25, 3, 0, 0, []) := cd_row ac_110 rfl
theorem cd_110_25 : cd 110 25 = some (2, 26, 3, 0, 0, []) := cd_row ac_110 rfl
theorem cd_110_26 : cd 110 26 = some (20, 29, 42, 0, 0, []) := cd_row ac_110 rfl
theorem cd_110_29 : cd 110 29 = some (4, 30, 0, 0, 0, []) := cd_row ac_110 rfl
theorem cd_110_30 : cd 110 30 = some (23, 33, 8, 4, 0, []) := cd_row ac_110 rfl
theorem cd_110_33 : cd 110 33 = some (2, 34, 1, 0, 0, []) := cd_row ac_110 rfl
theorem cd_110_34 : cd 110 34 = some (0, 35, 0, 0, 5, []) := cd_row ac_110 rfl
theorem cd_110_35 : cd 110 35 = some (9, 36, 0, 2, 0, []) := cd_row ac_110 rfl
theorem cd_110_36 : cd 110 36 = some (2, 37, 2, 0, 0, []) := cd_row ac_110 rfl
theorem cd_110_37 : cd 110 37 = some (9, 38, 0, 0, 0, []) := cd_row ac_110 rfl
theorem cd_110_38 : cd 110 38 = some (26, 39, 0, 0, 0, []) := cd_row ac_110 rfl
theorem cd_110_39 : cd 110 39 = some (22, 42, 43, 0, 0, []) := cd_row ac_110 rfl
theorem cd_110_42 : cd 110 42 = some (0, 43, 0, 0, 0, []) := cd_row ac_110 rfl
theorem cd_110_43 : cd 110 43 = some (40, 44, 0, 0, 0, []) := cd_row ac_110 rfl
set_option maxRecDepth 20000 in
theorem ac_111 : allC[111]? = some cl111 := rfl
theorem cd_111_0 : cd 111 0 = some (4, 1, 0, 0, 0, []) := cd_row ac_111 rfl
theorem cd_111_1 : cd 111 1 = some (23, 4, 8, 0, 0, []) := cd_row ac_111 rfl
theorem cd_111_4 : cd 111 4 = some (4, 5, 0, 0, 0, []) := cd_row ac_111 rfl
theorem cd_111_5 : cd 111 5 = some (23, 8, 8, 6, 0, []) := cd_row ac_111 rfl
theorem cd_111_8 : cd 111 8 = some (4, 9, 0, 0, 0, []) := cd_row ac_111 rfl
theorem cd_111_9 : cd 111 9 = some (23, 12, 8, 7, 0, []) := cd_row ac_111 rfl
theorem cd_111_12 : cd 111 12 = some (46, 15, 24, 3, 0, []) := cd_row ac_111 rfl
theorem cd_111_15 : cd 111 15 = some (4, 16, 0, 0, 0, []) := cd_row ac_111 rfl
theorem cd_111_16 : cd 111 16 = some (4, 17, 0, 0, 0, []) := cd_row ac_111 rfl
theorem cd_111_17 : cd 111 17 = some (23, 20, 8, 7, 0, []) := cd_row ac_111 rfl
theorem cd_111_20 : cd 111 20 = some (0, 21, 0, 0, 1, []) := cd_row ac_111 rfl
theorem cd_111_21 : cd 111 21 = some (9, 22, 0, 0, 0, []) := cd_row ac_111 rfl
theorem cd_111_22 : cd 111 22 = some (0, 24, 0, 0, 30, []) := cd_row ac_111 rfl
theorem cd_111_24 : cd 111 24 = some (9, 25, 0, 7, 0, []) := cd_row ac_111 rfl
theorem cd_111_25 : cd 111 25 = some (24, 28, 8, 7, 0, []) := cd_row ac_111 rfl
theorem cd_111_28 : cd 111 28 = some (4, 29, 0, 0, 0, []) := cd_row ac_111 rfl
theorem cd_111_29 : cd 111 29 = some (0, 31, 0, 0, 30, []) := cd_row ac_111 rfl
theorem cd_111_31 : cd 111 31 = some (4, 32, 0, 0, 0, []) := cd_row ac_111 rfl
theorem cd_111_32 : cd 111 32 = some (23, 35, 8, 8, 0, []) := cd_row ac_111 rfl
theorem cd_111_35 : cd 111 35 = some (0, 36, 0, 0, 1, []) := cd_row ac_111 rfl
theorem cd_111_36 : cd 111 36 = some (9, 37, 0, 0, 0, []) := cd_row ac_111 rfl
theorem cd_111_37 : cd 111 37 = some (50, 40, 0, 0, 0, []) := cd_row ac_111 rfl
theorem cd_111_40 : cd 111 40 = some (24, 43, 8, 8, 0, []) := cd_row ac_111 rfl
theorem cd_111_43 : cd 111 43 = some (39, 44, 0, 0, 0, []) := cd_row ac_111 rfl
set_option maxRecDepth 20000 in
theorem ac_112 : allC[112]? = some cl112 := rfl
theorem cd_112_0 : cd 112 0 = some (4, 1, 0, 0, 0, []) := cd_row ac_112 rfl
theorem cd_112_1 : cd 112 1 = some (23, 4, 8, 8, 0, []) := cd_row ac_112 rfl
theorem cd_112_4 : cd 112 4 = some (20, 7, 9, 1, 0, []) := cd_row ac_112 rfl
theorem cd_112_7 : cd 112 7 = some (0, 8, 0, 0, 0, []) := cd_row ac_112 rfl
theorem cd_112_8 : cd 112 8 = some (40, 9, 1, 0, 0, []) := cd_row ac_112 rfl
theorem cd_112_9 : cd 112 9 = some (4, 10, 0, 0, 0, []) := cd_row ac_112 rfl
theorem cd_112_10 : cd 112 10 = some (4, 11, 0, 0, 0, []) := cd_row ac_112 rfl
theorem cd_112_11 : cd 112 11 = some (23, 14, 8, 7, 0, []) := cd_row ac_112 rfl
theorem cd_112_14 : cd 112 14 = some (0, 16, 0, 0, 30, []) := cd_row ac_112 rfl
theorem cd_112_16 : cd 112 16 = some (9, 17, 0, 0, 0, []) := cd_row ac_112 rfl
theorem cd_112_17 : cd 112 17 = some (0, 18, 0, 0, 1, []) := cd_row ac_112 rfl
theorem cd_112_18 : cd 112 18 = some (9, 19, 0, 1, 0, []) := cd_row ac_112 rfl
theorem cd_112_19 : cd 112 19 = some (0, 21, 0, 0, 30, []) := cd_row ac_112 rfl
theorem cd_112_21 : cd 112 21 = some (9, 22, 0, 7, 0, []) := cd_row ac_112 rfl
theorem cd_112_22 : cd 112 22 = some (24, 25, 8, 7, 0, []) := cd_row ac_112 rfl
theorem cd_112_25 : cd 112 25 = some (4, 26, 0, 0, 0, []) := cd_row ac_112 rfl
theorem cd_112_26 : cd 112 26 = some (17, 27, 0, 0, 0, []) := cd_row ac_112 rfl
theorem cd_112_27 : cd 112 27 = some (23, 30, 8, 8, 0, []) := cd_row ac_112 rfl
theorem cd_112_30 : cd 112 30 = some (0, 31, 0, 0, 1, []) := cd_row ac_112 rfl
theorem cd_112_31 : cd 112 31 = some (9, 32, 0, 1, 0, []) := cd_row ac_112 rfl
theorem cd_112_32 : cd 112 32 = some (24, 35, 8, 8, 0, []) := cd_row ac_112 rfl
theorem cd_112_35 : cd 112 35 = some (4, 36, 0, 0, 0, []) := cd_row ac_112 rfl
theorem cd_112_36 : cd 112 36 = some (23, 39, 8, 0, 0, []) := cd_row ac_112 rfl
theorem cd_112_39 : cd 112 39 = some (4, 40, 0, 0, 0, []) := cd_row ac_112 rfl
theorem cd_112_40 : cd 112 40 = some (23, 43, 8, 6, 0, []) := cd_row ac_112 rfl
theorem cd_112_43 : cd 112 43 = some (4, 44, 0, 0, 0, []) := cd_row ac_112 rfl
theorem cd_112_44 : cd 112 44 = some (23, 47, 8, 7, 0, []) := cd_row ac_112 rfl
theorem cd_112_47 : cd 112 47 = some (46, 50, 25, 3, 0, []) := cd_row ac_112 rfl
theorem cd_112_50 : cd 112 50 = some (0, 51, 0, 0, 1, []) := cd_row ac_112 rfl
theorem cd_112_51 : cd 112 51 = some (40, 52, 1, 0, 0, []) := cd_row ac_112 rfl
set_option maxRecDepth 20000 in
theorem ac_113 : allC[113]? = some cl113 := rfl
theorem cd_113_0 : cd 113 0 = some (4, 1, 0, 0, 0, []) := cd_row ac_113 rfl
theorem cd_113_1 : cd 113 1 = some (23, 4, 8, 0, 0, []) := cd_row ac_113 rfl
theorem cd_113_4 : cd 113 4 = some (23, 7, 0, 13, 0, []) := cd_row ac_113 rfl
theorem cd_113_7 : cd 113 7 = some (0, 9, 0, 0, 20, []) := cd_row ac_113 rfl
theorem cd_113_9 : cd 113 9 = some (21, 12, 57, 3, 0, []) := cd_row ac_113 rfl
theorem cd_113_12 : cd 113 12 = some (4, 13, 0, 0, 0, []) := cd_row ac_113 rfl
theorem cd_113_13 : cd 113 13 = some (23, 16, 8, 13, 0, []) := cd_row ac_113 rfl
theorem cd_113_16 : cd 113 16 = some (4, 17, 0, 0, 0, []) := cd_row ac_113 rfl
theorem cd_113_17 : cd 113 17 = some (23, 20, 8, 0, 0, []) := cd_row ac_113 rfl
theorem cd_113_20 : cd 113 20 = some (23, 23, 0, 13, 0, []) := cd_row ac_113 rfl
theorem cd_113_23 : cd 113 23 = some (2, 24, 1, 0, 0, []) := cd_row ac_113 rfl
theorem cd_113_24 : cd 113 24 = some (30, 25, 0, 0, 0, []) := cd_row ac_113 rfl
theorem cd_113_25 : cd 113 25 = some (4, 26, 0, 0, 0, []) := cd_row ac_113 rfl
theorem cd_113_26 : cd 113 26 = some (23, 29, 8, 14, 0, []) := cd_row ac_113 rfl
theorem cd_113_29 : cd 113 29 = some (4, 30, 0, 0, 0, []) := cd_row ac_113 rfl
theorem cd_113_30 : cd 113 30 = some (23, 33, 8, 0, 0, []) := cd_row ac_113 rfl
theorem cd_113_33 : cd 113 33 = some (23, 36, 0, 13, 0, []) := cd_row ac_113 rfl
theorem cd_113_36 : cd 113 36 = some (4, 37, 0, 0, 0, []) := cd_row ac_113 rfl
theorem cd_113_37 : cd 113 37 = some (23, 40, 8, 0, 0, []) := cd_row ac_113 rfl
theorem cd_113_40 : cd 113 40 = some (23, 43, 0, 9, 0, []) := cd_row ac_113 rfl
theorem cd_113_43 : cd 113 43 = some (30, 44, 0, 0, 0, []) := cd_row ac_113 rfl
theorem cd_113_44 : cd 113 44 = some (4, 45, 0, 0, 0, []) := cd_row ac_113 rfl
theorem cd_113_45 : cd 113 45 = some (23, 48, 8, 0, 0, []) := cd_row ac_113 rfl
theorem cd_113_48 : cd 113 48 = some (17, 49, 0, 0, 0, []) := cd_row ac_113 rfl
theorem cd_113_49 : cd 113 49 = some (23, 52, 0, 13, 0, []) := cd_row ac_113 rfl
theorem cd_113_52 : cd 113 52 = some (0, 53, 0, 0, 1, []) := cd_row ac_113 rfl
theorem cd_113_53 : cd 113 53 = some (9, 54, 0, 0, 0, []) := cd_row ac_113 rfl
theorem cd_113_54 : cd 113 54 = some (24, 57, 0, 13, 0, []) := cd_row ac_113 rfl
theorem cd_113_57 : cd 113 57 = some (4, 58, 0, 0, 0, []) := cd_row ac_113 rfl
theorem cd_113_58 : cd 113 58 = some (23, 61, 8, 0, 0, []) := cd_row ac_113 rfl
theorem cd_113_61 : cd 113 61 = some (17, 62, 0, 0, 0, []) := cd_row ac_113 rfl
theorem cd_113_62 : cd 113 62 = some (23, 65, 0, 12, 0, []) := cd_row ac_113 rfl
theorem cd_113_65 : cd 113 65 = some (0, 66, 0, 0, 1, []) := cd_row ac_113 rfl
theorem cd_113_66 : cd 113 66 = some (2, 67, 1, 0, 0, []) := cd_row ac_113 rfl
theorem cd_113_67 : cd 113 67 = some (9, 68, 0, 8, 0, []) := cd_row ac_113 rfl
theorem cd_113_68 : cd 113 68 = some (9, 69, 0, 4, 0, []) := cd_row ac_113 rfl
theorem cd_113_69 : cd 113 69 = some (24, 72, 0, 12, 0, []) := cd_row ac_113 rfl
theorem cd_113_72 : cd 113 72 = some (4, 73, 0, 0, 0, []) := cd_row ac_113 rfl
theorem cd_113_73 : cd 113 73 = some (23, 76, 8, 0, 0, []) := cd_row ac_113 rfl
theorem cd_113_76 : cd 113 76 = some (0, 77, 0, 0, -1, []) := cd_row ac_113 rfl
theorem cd_113_77 : cd 113 77 = some (24, 80, 0, 11, 0, []) := cd_row ac_113 rfl
theorem cd_113_80 : cd 113 80 = some (4, 81, 0, 0, 0, []) := cd_row ac_113 rfl
theorem cd_113_81 : cd 113 81 = some (23, 84, 8, 0, 0, []) := cd_row ac_113 rfl
theorem cd_113_84 : cd 113 84 = some (0, 85, 0, 0, 0, []) := cd_row ac_113 rfl
theorem cd_113_85 : cd 113 85 = some (24, 88, 0, 6, 0, []) := cd_row ac_113 rfl
theorem cd_113_88 : cd 113 88 = some (39, 89, 0, 0, 0, []) := cd_row ac_113 rfl
set_option maxRecDepth 20000 in
theorem ac_129 : allC[129]? = some cl129 := rfl
theorem cd_129_0 : cd 129 0 = some (4, 1, 0, 0, 0, []) := cd_row ac_129 rfl
theorem cd_129_1 : cd 129 1 = some (23, 4, 9, 0, 0, []) := cd_row ac_129 rfl
theorem cd_129_4 : cd 129 4 = some (23, 7, 8, 0, 0, []) := cd_row ac_129 rfl
theorem cd_129_7 : cd 129 7 = some (23, 10, 0, 9, 0, []) := cd_row ac_129 rfl
theorem cd_129_10 : cd 129 10 = some (2, 11, 1, 0, 0, []) := cd_row ac_129 rfl
theorem cd_129_11 : cd 129 11 = some (9, 12, 0, 0, 0, []) := cd_row ac_129 rfl
theorem cd_129_12 : cd 129 12 = some (0, 15, 0, 0, 9999, []) := cd_row ac_129 rfl
theorem cd_129_15 : cd 129 15 = some (21, 18, 22, 4, 0, []) := cd_row ac_129 rfl
theorem cd_129_18 : cd 129 18 = some (0, 19, 0, 0, 1, []) := cd_row ac_129 rfl
theorem cd_129_19 : cd 129 19 = some (22, 22, 23, 0, 0, []) := cd_row ac_129 rfl
theorem cd_129_22 : cd 129 22 = some (0, 23, 0, 0, 0, []) := cd_row ac_129 rfl
theorem cd_129_23 : cd 129 23 = some (40, 24, 1, 0, 0, []) := cd_row ac_129 rfl
/-! the world of now in normal form -/
def inG (k j : Nat) : Bool := decide ((k = 1 ∧ (j = 5 ∨ j = 7 ∨ j = 8)) ∨ (k = 5 ∧ j < 40) ∨ (k = 6 ∧ j < 390) ∨ (k = 9 ∧ j < 20) ∨ (k = 10 ∧ j < 20))
def upW (W : Nat → Nat → Int) (k i : Nat) (x : Int) : Nat → Nat → Int := fun k' i' => if k' = k ∧ i' = i then x else W k' i'
theorem upW_at {W : Nat → Nat → Int} {k i : Nat} {x : Int} : upW W k i x k i = x := (show ∀ k' i', k' = k ∧ i' = i → upW W k i x k' i' = x from fun _ _ q => if_pos q) k i ⟨rfl, rfl⟩
theorem upW_ne {W : Nat → Nat → Int} {k i k' i' : Nat} {x : Int} (h : ¬ (k' = k ∧ i' = i)) : upW W k i x k' i' = W k' i' := if_neg h
def hB (h : AH) (W : Nat → Nat → Int) : AH := (h.1, h.2.1, h.2.2.1, fun k j => if inG k j = true then vI (W k j) else h.2.2.2 k j)
theorem hB_v {h : AH} {W : Nat → Nat → Int} {k i : Nat} (hi : inG k i = true) : hV (hB h W) k i = vI (W k i) := if_pos hi
theorem hB_n {h : AH} {W : Nat → Nat → Int} {k i : Nat} (hi : inG k i = false) : hV (hB h W) k i = hV h k i := if_neg (fun y => by rw [hi] at y; cases y)
theorem hB_s {h : AH} {W : Nat → Nat → Int} {k0 i : Nat} {x : Int} (hi : inG k0 i = true) : hSet (hB h W) k0 i (vI x) = hB h (upW W k0 i x) := by
  refine Prod.ext rfl (Prod.ext rfl (Prod.ext rfl ?_))
  funext k j
  show (if k = k0 ∧ j = i then vI x else if inG k j = true then vI (W k j) else h.2.2.2 k j) = (if inG k j = true then vI (if k = k0 ∧ j = i then x else W k j) else h.2.2.2 k j)
  by_cases z : k = k0 ∧ j = i
  · rw [if_pos z, if_pos z, if_pos (by rw [z.1, z.2]; exact hi)]
  · rw [if_neg z, if_neg z]
theorem hB_so {h : AH} {W : Nat → Nat → Int} {k0 i : Nat} {v : AV} (hi : inG k0 i = false) : hSet (hB h W) k0 i v = hB (hSet h k0 i v) W := by
  refine Prod.ext rfl (Prod.ext rfl (Prod.ext rfl ?_))
  funext k j
  show (if k = k0 ∧ j = i then v else if inG k j = true then vI (W k j) else h.2.2.2 k j) = (if inG k j = true then vI (W k j) else if k = k0 ∧ j = i then v else h.2.2.2 k j)
  by_cases z : k = k0 ∧ j = i
  · rw [if_pos z, if_pos z, if_neg (fun y => by rw [z.1, z.2, hi] at y; cases y)]
  · rw [if_neg z, if_neg z]
/-- which texts rule -/
def hLw (h : AH) (T1 T2 : Nat) : AH := (h.1, h.2.1, h.2.2.1, fun k j => if k = 58 ∧ j = 0 then vR T1 else if k = 58 ∧ j = 1 then vR T2 else h.2.2.2 k j)
theorem hLw_0 {h : AH} {T1 T2 : Nat} : hV (hLw h T1 T2) 58 0 = vR T1 := (show ∀ k j, k = 58 → j = 0 → hV (hLw h T1 T2) k j = vR T1 from fun k j a b => if_pos ⟨a, b⟩) 58 0 rfl rfl
theorem hLw_1 {h : AH} {T1 T2 : Nat} : hV (hLw h T1 T2) 58 1 = vR T2 := (show ∀ k j, k = 58 → j = 1 → hV (hLw h T1 T2) k j = vR T2 from fun k j a b => by
  show (if k = 58 ∧ j = 0 then vR T1 else if k = 58 ∧ j = 1 then vR T2 else h.2.2.2 k j) = vR T2
  rw [if_neg (by omega), if_pos ⟨a, b⟩]) 58 1 rfl rfl
theorem hLw_n {h : AH} {T1 T2 k i : Nat} (hk : k ≠ 58 ∨ (i ≠ 0 ∧ i ≠ 1)) : hV (hLw h T1 T2) k i = hV h k i := by
  show (if k = 58 ∧ i = 0 then vR T1 else if k = 58 ∧ i = 1 then vR T2 else h.2.2.2 k i) = h.2.2.2 k i
  rw [if_neg (by omega), if_neg (by omega)]
theorem hLw_s0 {h : AH} {T1 T2 x : Nat} : hSet (hLw h T1 T2) 58 0 (vR x) = hLw h x T2 := by
  refine Prod.ext rfl (Prod.ext rfl (Prod.ext rfl ?_))
  funext k j
  show (if k = 58 ∧ j = 0 then vR x else if k = 58 ∧ j = 0 then vR T1 else if k = 58 ∧ j = 1 then vR T2 else h.2.2.2 k j) = (if k = 58 ∧ j = 0 then vR x else if k = 58 ∧ j = 1 then vR T2 else h.2.2.2 k j)
  by_cases z : k = 58 ∧ j = 0
  · rw [if_pos z, if_pos z]
  · rw [if_neg z, if_neg z, if_neg z]
theorem hLw_s1 {h : AH} {T1 T2 x : Nat} : hSet (hLw h T1 T2) 58 1 (vR x) = hLw h T1 x := by
  refine Prod.ext rfl (Prod.ext rfl (Prod.ext rfl ?_))
  funext k j
  show (if k = 58 ∧ j = 1 then vR x else if k = 58 ∧ j = 0 then vR T1 else if k = 58 ∧ j = 1 then vR T2 else h.2.2.2 k j) = (if k = 58 ∧ j = 0 then vR T1 else if k = 58 ∧ j = 1 then vR x else h.2.2.2 k j)
  by_cases z : k = 58 ∧ j = 1
  · rw [if_pos z, if_neg (by omega), if_pos z]
  · rw [if_neg z, if_neg z, if_neg z]
/-- the laws' scratch -/
abbrev SCR : Type := (Nat → Int) × Nat × Int × Int × (Nat → Int)
def SOK (s : SCR) : Prop := ∀ i, 7 ≤ i → rngV (s.1 i)
def hQs (h : AH) (s : SCR) : AH := hQ h s.1 s.2.1 s.2.2.1 s.2.2.2.1 s.2.2.2.2
def Zc (h : AH) (T1 T2 : Nat) (W : Nat → Nat → Int) (f rw_ : Nat → Int) (s : SCR) : AH := hQs (hGk (hB (hLw h T1 T2) W) 2 4 f rw_ 1260) s
theorem hGk_so {h : AH} {r R sz : Nat} {f rw_ : Nat → Int} {k0 i : Nat} {v : AV} (h1 : k0 ≠ r) (h2 : k0 ≠ R) : hSet (hGk h r R f rw_ sz) k0 i v = hGk (hSet h k0 i v) r R f rw_ sz := by
  refine Prod.ext rfl (Prod.ext rfl (Prod.ext rfl ?_))
  funext k j
  show (if k = k0 ∧ j = i then v else if k = r ∧ 1 ≤ j ∧ j < 15 then vI (f j) else if k = R ∧ j < sz then vL (rw_ j) else h.2.2.2 k j) = (if k = r ∧ 1 ≤ j ∧ j < 15 then vI (f j) else if k = R ∧ j < sz then vL (rw_ j) else if k = k0 ∧ j = i then v else h.2.2.2 k j)
  by_cases z : k = k0 ∧ j = i
  · rw [if_pos z, if_neg (by omega), if_neg (by omega), if_pos z]
  · rw [if_neg z, if_neg z]
theorem hQ_s58 {h : AH} {s : SCR} {i : Nat} {v : AV} (hi : i < 4) : hSet (hQs h s) 58 i v = hQs (hSet h 58 i v) s := by
  obtain ⟨nm, kc, tn, el, sf⟩ := s
  show hSet (hL (hW h nm kc tn el) sf) 58 i v = hL (hW (hSet h 58 i v) nm kc tn el) sf
  rw [hL_so (by decide)]
  refine congrArg (fun g => hL g sf) ?_
  refine Prod.ext rfl (Prod.ext rfl (Prod.ext rfl ?_))
  funext k j
  show (if k = 58 ∧ j = i then v else if k = 59 ∧ j < 8 then vI (nm j) else if k = 58 ∧ j = 4 then vR kc else if k = 58 ∧ j = 5 then vI tn else if k = 58 ∧ j = 6 then vI el else h.2.2.2 k j) = (if k = 59 ∧ j < 8 then vI (nm j) else if k = 58 ∧ j = 4 then vR kc else if k = 58 ∧ j = 5 then vI tn else if k = 58 ∧ j = 6 then vI el else if k = 58 ∧ j = i then v else h.2.2.2 k j)
  by_cases z : k = 58 ∧ j = i
  · rw [if_pos z, if_neg (by omega), if_neg (by omega), if_neg (by omega), if_neg (by omega), if_pos z]
  · rw [if_neg z, if_neg z]
theorem Zc_k {h : AH} {T1 T2 : Nat} {W : Nat → Nat → Int} {f rw_ : Nat → Int} {s : SCR} : hK (Zc h T1 T2 W f rw_ s) = hK h := rfl
theorem Zc_f {h : AH} {T1 T2 : Nat} {W : Nat → Nat → Int} {f rw_ : Nat → Int} {s : SCR} {i : Nat} (h1 : 1 ≤ i) (h2 : i < 15) : hV (Zc h T1 T2 W f rw_ s) 2 i = vI (f i) := hQG_f (by decide) h1 h2
theorem Zc_20 {h : AH} {T1 T2 : Nat} {W : Nat → Nat → Int} {f rw_ : Nat → Int} {s : SCR} : hV (Zc h T1 T2 W f rw_ s) 2 0 = hV h 2 0 := (hQG_0 (by decide) (by decide)).trans ((hB_n rfl).trans (hLw_n (Or.inl (by decide))))
theorem Zc_B {h : AH} {T1 T2 : Nat} {W : Nat → Nat → Int} {f rw_ : Nat → Int} {s : SCR} {k i : Nat} (h1 : k < 58) (h2 : k ≠ 2) (h3 : k ≠ 4) (hb : inG k i = true) : hV (Zc h T1 T2 W f rw_ s) k i = vI (W k i) := (hQG_n h1 h2 h3).trans (hB_v hb)
theorem Zc_n {h : AH} {T1 T2 : Nat} {W : Nat → Nat → Int} {f rw_ : Nat → Int} {s : SCR} {k i : Nat} (h1 : k < 58) (h2 : k ≠ 2) (h3 : k ≠ 4) (hb : inG k i = false) : hV (Zc h T1 T2 W f rw_ s) k i = hV h k i := (hQG_n h1 h2 h3).trans ((hB_n hb).trans (hLw_n (Or.inl (by omega))))
theorem inG_hi {k i : Nat} (h : 11 ≤ k) : inG k i = false := decide_eq_false (by omega)
theorem Zc_hi {h : AH} {T1 T2 : Nat} {W : Nat → Nat → Int} {f rw_ : Nat → Int} {s : SCR} {k i : Nat} (h1 : 61 ≤ k) : hV (Zc h T1 T2 W f rw_ s) k i = hV h k i := (hQ_n (by omega) (by omega) (by omega)).trans ((hGk_n (by omega) (by omega)).trans ((hB_n (inG_hi (by omega))).trans (hLw_n (by omega))))
theorem Zc_sB {h : AH} {T1 T2 : Nat} {W : Nat → Nat → Int} {f rw_ : Nat → Int} {s : SCR} {k i : Nat} {x : Int} (h1 : k < 58) (h2 : k ≠ 2) (h3 : k ≠ 4) (hb : inG k i = true) : hSet (Zc h T1 T2 W f rw_ s) k i (vI x) = Zc h T1 T2 (upW W k i x) f rw_ s := (hQ_so h1).trans (congrArg (fun g => hQs g s) ((hGk_so h2 h3).trans (congrArg (fun g => hGk g 2 4 f rw_ 1260) (hB_s hb))))
theorem Zc_sf {h : AH} {T1 T2 : Nat} {W : Nat → Nat → Int} {f rw_ : Nat → Int} {s : SCR} {i : Nat} {x : Int} (h1 : 1 ≤ i) (h2 : i < 15) : hSet (Zc h T1 T2 W f rw_ s) 2 i (vI x) = Zc h T1 T2 W (upF f i x) rw_ s := hQG_s (by decide) h1 h2
theorem Zc_s0 {h : AH} {T1 T2 : Nat} {W : Nat → Nat → Int} {f rw_ : Nat → Int} {s : SCR} {x : Nat} : hSet (Zc h T1 T2 W f rw_ s) 58 0 (vR x) = Zc h x T2 W f rw_ s := (hQ_s58 (by decide)).trans (congrArg (fun g => hQs g s) ((hGk_so (by decide) (by decide)).trans (congrArg (fun g => hGk g 2 4 f rw_ 1260) ((hB_so rfl).trans (congrArg (fun g => hB g W) hLw_s0)))))
theorem Zc_s1 {h : AH} {T1 T2 : Nat} {W : Nat → Nat → Int} {f rw_ : Nat → Int} {s : SCR} {x : Nat} : hSet (Zc h T1 T2 W f rw_ s) 58 1 (vR x) = Zc h T1 x W f rw_ s := (hQ_s58 (by decide)).trans (congrArg (fun g => hQs g s) ((hGk_so (by decide) (by decide)).trans (congrArg (fun g => hGk g 2 4 f rw_ 1260) ((hB_so rfl).trans (congrArg (fun g => hB g W) hLw_s1)))))
/-- two that are alike at a cell -/
theorem hQ_c {a b : AH} {s : SCR} {k i : Nat} (e : hV a k i = hV b k i) : hV (hQs a s) k i = hV (hQs b s) k i := by
  have e : a.2.2.2 k i = b.2.2.2 k i := e
  obtain ⟨nm, kc, tn, el, sf⟩ := s
  show (if k = 60 ∧ i < 64 then vI (sf i) else if k = 59 ∧ i < 8 then vI (nm i) else if k = 58 ∧ i = 4 then vR kc else if k = 58 ∧ i = 5 then vI tn else if k = 58 ∧ i = 6 then vI el else a.2.2.2 k i) = (if k = 60 ∧ i < 64 then vI (sf i) else if k = 59 ∧ i < 8 then vI (nm i) else if k = 58 ∧ i = 4 then vR kc else if k = 58 ∧ i = 5 then vI tn else if k = 58 ∧ i = 6 then vI el else b.2.2.2 k i)
  rw [e]
theorem hGk_c {a b : AH} {r R sz : Nat} {f g rw_ rw2 : Nat → Int} {k i : Nat} (e : hV a k i = hV b k i) (e1 : k = r → 1 ≤ i → i < 15 → f i = g i) (e2 : k = R → i < sz → rw_ i = rw2 i) : hV (hGk a r R f rw_ sz) k i = hV (hGk b r R g rw2 sz) k i := by
  have e : a.2.2.2 k i = b.2.2.2 k i := e
  show (if k = r ∧ 1 ≤ i ∧ i < 15 then vI (f i) else if k = R ∧ i < sz then vL (rw_ i) else a.2.2.2 k i) = (if k = r ∧ 1 ≤ i ∧ i < 15 then vI (g i) else if k = R ∧ i < sz then vL (rw2 i) else b.2.2.2 k i)
  by_cases z : k = r ∧ 1 ≤ i ∧ i < 15
  · rw [if_pos z, if_pos z, e1 z.1 z.2.1 z.2.2]
  · rw [if_neg z, if_neg z]
    by_cases y : k = R ∧ i < sz
    · rw [if_pos y, if_pos y, e2 y.1 y.2]
    · rw [if_neg y, if_neg y, e]
theorem hB_c {a b : AH} {W W' : Nat → Nat → Int} {k i : Nat} (e : hV a k i = hV b k i) (e1 : inG k i = true → W k i = W' k i) : hV (hB a W) k i = hV (hB b W') k i := by
  have e : a.2.2.2 k i = b.2.2.2 k i := e
  show (if inG k i = true then vI (W k i) else a.2.2.2 k i) = (if inG k i = true then vI (W' k i) else b.2.2.2 k i)
  by_cases z : inG k i = true
  · rw [if_pos z, if_pos z, e1 z]
  · rw [if_neg z, if_neg z, e]
theorem Zc_c {h : AH} {T1 T2 : Nat} {W W' : Nat → Nat → Int} {f g rw_ rw2 : Nat → Int} {s : SCR} {k i : Nat} (e0 : inG k i = true → W k i = W' k i) (e1 : k = 2 → 1 ≤ i → i < 15 → f i = g i) (e2 : k = 4 → i < 1260 → rw_ i = rw2 i) : hV (Zc h T1 T2 W f rw_ s) k i = hV (Zc h T1 T2 W' g rw2 s) k i := hQ_c (hGk_c (hB_c rfl e0) e1 e2)
theorem AH_x {a b : AH} (h1 : a.1 = b.1) (h2 : a.2.1 = b.2.1) (h3 : a.2.2.1 = b.2.2.1) (h4 : ∀ k i, hV a k i = hV b k i) : a = b := Prod.ext h1 (Prod.ext h2 (Prod.ext h3 (funext fun k => funext fun i => h4 k i)))
/-- a saved row, in W -/
def svW (W : Nat → Nat → Int) (f : Nat → Int) (x : Nat) : Nat → Nat → Int := fun k j => if k = 6 ∧ x ≤ j ∧ j < x + 13 then f (j - x + 1) else W k j
theorem svW_v {W : Nat → Nat → Int} {f : Nat → Int} {x p : Nat} (hp : p < 13) : svW W f x 6 (x + p) = f (p + 1) := by
  have e : svW W f x 6 (x + p) = f (x + p - x + 1) := (show ∀ k j, k = 6 ∧ x ≤ j ∧ j < x + 13 → svW W f x k j = f (j - x + 1) from fun _ _ q => if_pos q) 6 (x + p) ⟨rfl, by omega, by omega⟩
  rw [e, show x + p - x + 1 = p + 1 by omega]
theorem svW_n {W : Nat → Nat → Int} {f : Nat → Int} {x k j : Nat} (h : ¬ (k = 6 ∧ x ≤ j ∧ j < x + 13)) : svW W f x k j = W k j := if_neg h
theorem inG_6 {j : Nat} (h : j < 390) : inG 6 j = true := decide_eq_true (Or.inr (Or.inr (Or.inl ⟨rfl, h⟩)))
theorem Zc_sv {h : AH} {T1 T2 : Nat} {W : Nat → Nat → Int} {f rw_ : Nat → Int} {s : SCR} {x : Nat} (hx : x + 13 ≤ 390) : hSv (Zc h T1 T2 W f rw_ s) 6 x f 13 = Zc h T1 T2 (svW W f x) f rw_ s := by
  refine AH_x rfl rfl rfl (fun k i => ?_)
  by_cases z : k = 6 ∧ x ≤ i ∧ i < x + 13
  · obtain ⟨rfl, z1, z2⟩ := z
    have e1 : hV (hSv (Zc h T1 T2 W f rw_ s) 6 x f 13) 6 i = vI (f (i - x + 1)) := (show ∀ k, k = 6 → hV (hSv (Zc h T1 T2 W f rw_ s) 6 x f 13) k i = vI (f (i - x + 1)) from fun k hk => if_pos ⟨hk, z1, z2⟩) 6 rfl
    rw [e1, Zc_B (by decide) (by decide) (by decide) (inG_6 (by omega))]
    obtain ⟨p, rfl⟩ : ∃ p, i = x + p := ⟨i - x, by omega⟩
    rw [svW_v (by omega), show x + p - x + 1 = p + 1 by omega]
  · have e1 : hV (hSv (Zc h T1 T2 W f rw_ s) 6 x f 13) k i = hV (Zc h T1 T2 W f rw_ s) k i := if_neg z
    rw [e1]
    exact Zc_c (fun _ => (svW_n z).symm) (fun _ _ _ => rfl) (fun _ _ => rfl)
/-- a row taken back -/
def rsF (f v : Nat → Int) : Nat → Int := fun j => if 1 ≤ j ∧ j ≤ 13 then v j else f j
theorem rsF_v {f v : Nat → Int} {j : Nat} (h1 : 1 ≤ j) (h2 : j ≤ 13) : rsF f v j = v j := if_pos ⟨h1, h2⟩
theorem rsF_n {f v : Nat → Int} {j : Nat} (h : ¬ (1 ≤ j ∧ j ≤ 13)) : rsF f v j = f j := if_neg h
theorem Zc_rs {h : AH} {T1 T2 : Nat} {W : Nat → Nat → Int} {f rw_ : Nat → Int} {s : SCR} {v : Nat → Int} : hRs (Zc h T1 T2 W f rw_ s) 2 v 13 = Zc h T1 T2 W (rsF f v) rw_ s := by
  refine AH_x rfl rfl rfl (fun k i => ?_)
  by_cases z : k = 2 ∧ 1 ≤ i ∧ i ≤ 13
  · obtain ⟨rfl, z1, z2⟩ := z
    have e1 : hV (hRs (Zc h T1 T2 W f rw_ s) 2 v 13) 2 i = vI (v i) := (show ∀ k, k = 2 → hV (hRs (Zc h T1 T2 W f rw_ s) 2 v 13) k i = vI (v i) from fun k hk => if_pos ⟨hk, z1, z2⟩) 2 rfl
    rw [e1, Zc_f (by omega) (by omega), rsF_v z1 z2]
  · have e1 : hV (hRs (Zc h T1 T2 W f rw_ s) 2 v 13) k i = hV (Zc h T1 T2 W f rw_ s) k i := if_neg z
    rw [e1]
    exact Zc_c (fun _ => rfl) (fun hk _ _ => (rsF_n (fun y => z ⟨hk, y.1, y.2⟩)).symm) (fun _ _ => rfl)
/-- the heap itself -/
noncomputable def jH (k i : Nat) : Bool := match gS JB k with
  | some s => (match s.2.2.1[i]? with
    | some (.inr (.inr _)) => true
    | _ => false)
  | none => false
theorem jH_s {h : AH} {k i : Nat} (hJ : k_H JB h) (h1 : jH k i = true) : ∃ c, hV h k i = vR c := by
  unfold jH at h1
  split at h1
  · rename_i s hs
    have hC := hJ.2.2 k s hs
    split at h1
    · rename_i l he
      obtain ⟨q, k1, k2⟩ := hC.2.1 i _ he
      exact ⟨q, k2⟩
    · cases h1
  · cases h1
theorem jH_58 : jH 58 0 = true ∧ jH 58 1 = true ∧ jH 58 4 = true := ⟨by decide +kernel, by decide +kernel, by decide +kernel⟩
theorem A_6 {h : AH} {i : Nat} (hJ : k_H JB h) (h2 : i < 390) : hV h 6 i = vI (fI h 6 i) := by
  have ho : i % 13 = 0 ∨ i % 13 = 1 ∨ i % 13 = 2 ∨ i % 13 = 3 ∨ i % 13 = 4 ∨ i % 13 = 5 ∨ i % 13 = 6 ∨ i % 13 = 7 ∨ i % 13 = 8 ∨ i % 13 = 9 ∨ i % 13 = 10 ∨ i % 13 = 11 ∨ i % 13 = 12 := by omega
  rcases ho with z | z | z | z | z | z | z | z | z | z | z | z | z
  · exact (A_6_0_0 hJ (Nat.zero_le _) h2 z).1
  · exact (A_6_0_1 hJ (Nat.zero_le _) h2 z).1
  · exact (A_6_0_2 hJ (Nat.zero_le _) h2 z).1
  · exact (A_6_0_3 hJ (Nat.zero_le _) h2 z).1
  · exact (A_6_0_4 hJ (Nat.zero_le _) h2 z).1
  · exact (A_6_0_5 hJ (Nat.zero_le _) h2 z).1
  · exact (A_6_0_6 hJ (Nat.zero_le _) h2 z).1
  · exact (A_6_0_7 hJ (Nat.zero_le _) h2 z).1
  · exact (A_6_0_8 hJ (Nat.zero_le _) h2 z).1
  · exact (A_6_0_9 hJ (Nat.zero_le _) h2 z).1
  · exact (A_6_0_10 hJ (Nat.zero_le _) h2 z).1
  · exact (A_6_0_11 hJ (Nat.zero_le _) h2 z).1
  · exact (A_6_0_12 hJ (Nat.zero_le _) h2 z).1
theorem I_2 {h : AH} {i : Nat} (hJ : k_H JB h) (h1 : 1 ≤ i) (h2 : i < 15) : hV h 2 i = vI (fI h 2 i) := by
  have ho : i = 1 ∨ i = 2 ∨ i = 3 ∨ i = 4 ∨ i = 5 ∨ i = 6 ∨ i = 7 ∨ i = 8 ∨ i = 9 ∨ i = 10 ∨ i = 11 ∨ i = 12 ∨ i = 13 ∨ i = 14 := by omega
  rcases ho with rfl | rfl | rfl | rfl | rfl | rfl | rfl | rfl | rfl | rfl | rfl | rfl | rfl | rfl
  · exact (I_2_1 hJ).1
  · exact (I_2_2 hJ).1
  · exact (I_2_3 hJ).1
  · exact (I_2_4 hJ).1
  · exact (I_2_5 hJ).1
  · exact (I_2_6 hJ).1
  · exact (I_2_7 hJ).1
  · exact (I_2_8 hJ).1
  · exact (I_2_9 hJ).1
  · exact (I_2_10 hJ).1
  · exact (I_2_11 hJ).1
  · exact (I_2_12 hJ).1
  · exact (I_2_13 hJ).1
  · exact (I_2_14 hJ).1
theorem inG_I {h : AH} {k i : Nat} (hJ : k_H JB h) (hb : inG k i = true) : hV h k i = vI (fI h k i) := by
  have hb := of_decide_eq_true hb
  rcases hb with ⟨rfl, rfl | rfl | rfl⟩ | ⟨rfl, h2⟩ | ⟨rfl, h2⟩ | ⟨rfl, h2⟩ | ⟨rfl, h2⟩
  · exact (I_1_5 hJ).1
  · exact (I_1_7 hJ).1
  · exact (I_1_8 hJ).1
  · exact (A_5_0 hJ (Nat.zero_le _) h2).1
  · exact A_6 hJ h2
  · exact (A_9_0 hJ (Nat.zero_le _) h2).1
  · exact (A_10_0 hJ (Nat.zero_le _) h2).1
theorem Zc_self {h : AH} (hJ : k_H JB h) : ∃ (T1 T2 : Nat) (s : SCR), Zc h T1 T2 (fI h) (fI h 2) (fI h 4) s = h ∧ s.1 = fun i => if i < 8 then fI h 59 i else 0 := by
  obtain ⟨T1, t1⟩ := jH_s hJ jH_58.1
  obtain ⟨T2, t2⟩ := jH_s hJ jH_58.2.1
  obtain ⟨kc, t4⟩ := jH_s hJ jH_58.2.2
  refine ⟨T1, T2, (fun i => if i < 8 then fI h 59 i else 0, kc, fI h 58 5, fI h 58 6, fI h 60), AH_x rfl rfl rfl (fun k i => ?_), rfl⟩
  show (if k = 60 ∧ i < 64 then vI (fI h 60 i) else if k = 59 ∧ i < 8 then vI (if i < 8 then fI h 59 i else 0) else if k = 58 ∧ i = 4 then vR kc else if k = 58 ∧ i = 5 then vI (fI h 58 5) else if k = 58 ∧ i = 6 then vI (fI h 58 6) else if k = 2 ∧ 1 ≤ i ∧ i < 15 then vI (fI h 2 i) else if k = 4 ∧ i < 1260 then vL (fI h 4 i) else if inG k i = true then vI (fI h k i) else if k = 58 ∧ i = 0 then vR T1 else if k = 58 ∧ i = 1 then vR T2 else hV h k i) = hV h k i
  by_cases z1 : k = 60 ∧ i < 64
  · rw [if_pos z1, z1.1]; exact ((A_60_0 hJ (Nat.zero_le _) z1.2).1).symm
  rw [if_neg z1]
  by_cases z2 : k = 59 ∧ i < 8
  · rw [if_pos z2, if_pos z2.2, z2.1]; exact ((A_59_0 hJ (Nat.zero_le _) z2.2).1).symm
  rw [if_neg z2]
  by_cases z3 : k = 58 ∧ i = 4
  · rw [if_pos z3, z3.1, z3.2]; exact t4.symm
  rw [if_neg z3]
  by_cases z4 : k = 58 ∧ i = 5
  · rw [if_pos z4, z4.1, z4.2]; exact (I_58_5 hJ).1.symm
  rw [if_neg z4]
  by_cases z5 : k = 58 ∧ i = 6
  · rw [if_pos z5, z5.1, z5.2]; exact (I_58_6 hJ).1.symm
  rw [if_neg z5]
  by_cases z6 : k = 2 ∧ 1 ≤ i ∧ i < 15
  · rw [if_pos z6, z6.1]; exact (I_2 hJ z6.2.1 z6.2.2).symm
  rw [if_neg z6]
  by_cases z7 : k = 4 ∧ i < 1260
  · rw [if_pos z7, z7.1]; exact ((A_4_0 hJ (Nat.zero_le _) z7.2).1).symm
  rw [if_neg z7]
  by_cases z8 : inG k i = true
  · rw [if_pos z8]; exact (inG_I hJ z8).symm
  rw [if_neg z8]
  by_cases z9 : k = 58 ∧ i = 0
  · rw [if_pos z9, z9.1, z9.2]; exact t1.symm
  rw [if_neg z9]
  by_cases z10 : k = 58 ∧ i = 1
  · rw [if_pos z10, z10.1, z10.2]; exact t2.symm
  rw [if_neg z10]
theorem Zp_0_0 {h : AH} {T1 T2 : Nat} {W : Nat → Nat → Int} {f rw_ : Nat → Int} {s : SCR} (hJ : k_H JB h) : hV (Zc h T1 T2 W f rw_ s) 0 0 = vR 1 := (Zc_n (by decide) (by decide) (by decide) rfl).trans (F_0_0 hJ)
theorem Zp_0_2 {h : AH} {T1 T2 : Nat} {W : Nat → Nat → Int} {f rw_ : Nat → Int} {s : SCR} (hJ : k_H JB h) : hV (Zc h T1 T2 W f rw_ s) 0 2 = vR 21 := (Zc_n (by decide) (by decide) (by decide) rfl).trans (F_0_2 hJ)
theorem Zp_0_3 {h : AH} {T1 T2 : Nat} {W : Nat → Nat → Int} {f rw_ : Nat → Int} {s : SCR} (hJ : k_H JB h) : hV (Zc h T1 T2 W f rw_ s) 0 3 = vR 46 := (Zc_n (by decide) (by decide) (by decide) rfl).trans (F_0_3 hJ)
theorem Zp_0_4 {h : AH} {T1 T2 : Nat} {W : Nat → Nat → Int} {f rw_ : Nat → Int} {s : SCR} (hJ : k_H JB h) : hV (Zc h T1 T2 W f rw_ s) 0 4 = vR 58 := (Zc_n (by decide) (by decide) (by decide) rfl).trans (F_0_4 hJ)
theorem Zp_1_0 {h : AH} {T1 T2 : Nat} {W : Nat → Nat → Int} {f rw_ : Nat → Int} {s : SCR} (hJ : k_H JB h) : hV (Zc h T1 T2 W f rw_ s) 1 0 = vR 2 := (Zc_n (by decide) (by decide) (by decide) rfl).trans (F_1_0 hJ)
theorem Zp_1_4 {h : AH} {T1 T2 : Nat} {W : Nat → Nat → Int} {f rw_ : Nat → Int} {s : SCR} (hJ : k_H JB h) : hV (Zc h T1 T2 W f rw_ s) 1 4 = vR 5 := (Zc_n (by decide) (by decide) (by decide) rfl).trans (F_1_4 hJ)
theorem Zp_1_6 {h : AH} {T1 T2 : Nat} {W : Nat → Nat → Int} {f rw_ : Nat → Int} {s : SCR} (hJ : k_H JB h) : hV (Zc h T1 T2 W f rw_ s) 1 6 = vR 6 := (Zc_n (by decide) (by decide) (by decide) rfl).trans (F_1_6 hJ)
theorem Zp_1_13 {h : AH} {T1 T2 : Nat} {W : Nat → Nat → Int} {f rw_ : Nat → Int} {s : SCR} (hJ : k_H JB h) : hV (Zc h T1 T2 W f rw_ s) 1 13 = vR 9 := (Zc_n (by decide) (by decide) (by decide) rfl).trans (F_1_13 hJ)
theorem Zp_1_14 {h : AH} {T1 T2 : Nat} {W : Nat → Nat → Int} {f rw_ : Nat → Int} {s : SCR} (hJ : k_H JB h) : hV (Zc h T1 T2 W f rw_ s) 1 14 = vR 10 := (Zc_n (by decide) (by decide) (by decide) rfl).trans (F_1_14 hJ)
/-- small ones -/
def absF (x : Int) : Int := if 0 ≤ x then x else -x
theorem absF_w {x : Int} (h1 : -30000 ≤ x) (h2 : x ≤ 30000) : w32 (if 0 ≤ x then x else -x) = absF x := by
  unfold absF
  split <;> (unfold w32; omega)
theorem absF_r {x n : Int} : absF x ≤ n ↔ -n ≤ x ∧ x ≤ n := by unfold absF; split <;> omega
def hsF (f : Nat → Int) (near : Int) : Int := if f 2 = 0 ∧ absF (f 1 - f 8) ≤ near ∧ absF (f 1 - f 3) ≤ near ∧ absF (f 4) ≤ 1 then 1 else 0
theorem hsF_r (f : Nat → Int) (near : Int) : 0 ≤ hsF f near ∧ hsF f near ≤ 1 := by unfold hsF; split <;> omega
theorem hsF_1 {f : Nat → Int} {near : Int} (h : f 2 = 0 ∧ absF (f 1 - f 8) ≤ near ∧ absF (f 1 - f 3) ≤ near ∧ absF (f 4) ≤ 1) : hsF f near = 1 := if_pos h
theorem hsF_0 {f : Nat → Int} {near : Int} (h : ¬ (f 2 = 0 ∧ absF (f 1 - f 8) ≤ near ∧ absF (f 1 - f 3) ≤ near ∧ absF (f 4) ≤ 1)) : hsF f near = 0 := if_neg h
set_option maxHeartbeats 1000000 in
theorem E_swg {d : Nat} {g : AH} {r kc : Nat} {f : Nat → Int} (hh : HKC g r kc f) (hf : HKr f) (Q : Option AV → AH → Prop) : XC (d + 2) 8 [vR r] g Q = Q (some (vI (absF (f 1 - f 3)))) g := by
  refine XC_eq (Nat.le_of_ble_eq_true rfl) ?_ Q
  show XP (d + 1) 8 0 [some (vR r)] [] g _
  have ea := fun Q => E_aw (d := d) hh hf Q
  have a1 : w32 (if 0 ≤ f 1 - f 3 then f 1 - f 3 else -(f 1 - f 3)) = absF (f 1 - f 3) := by
    obtain ⟨a1, _, a3, _⟩ := hf
    exact absF_w (by omega) (by omega)
  have k0 := hh.1
  refine xpk_sound (stops := []) (n := 12) ?_
  simp only [sk_0, sk_1, sk_2, sk_3, sk_4, sk_5, sk_6, sk_7, sk_8, sk_iadd, sk_isub, sk_imul, sk_iand, sk_ior, sk_ixor, sk_ishl, sk_ishr, sk_iushr, sk_idiv, sk_irem, sk_ineg, sk_ladd, sk_lsub, sk_lmul, sk_land, sk_lor, sk_ldiv, sk_lrem, sk_lneg, sk_lshl, sk_lshr, sk_i2l, sk_l2i, sk_lcmp, sk_dupI, sk_dupR, sk_dup2L, sk_dup2I, sk_popI, sk_ifeq, sk_ifne, sk_iflt, sk_ifge, sk_ifgt, sk_ifle, sk_iceq, sk_icne, sk_iclt, sk_icge, sk_icgt, sk_icle, sk_goto, sk_getf, sk_putf, sk_gets, sk_iald, sk_lald, sk_bald, sk_aald, sk_iast, sk_last, sk_bast, sk_aast, sk_alen, sk_newa, sk_newt, sk_new, sk_cs1, sk_cs2, sk_cs3, sk_cs4, sk_cs5, sk_cs6, sk_cv1, sk_cv2, sk_cv3, sk_cv4, sk_cv5, sk_cv6, sk_ci1, sk_ci2, sk_ci3, sk_ret0, sk_retI, sk_retL, sk_retR, sk_sw, sk_oin, sk_max, sk_min, sk_abs, lI_0, lI_s, lL_0, lL_s, lR_0, lR_s, vIo_e, vLo_e, vOo_e, stW_I, stW_L, stW_R, stW_0, stW_z, okSt_0, okSt_s, hV_eq, hK_eq, okF_0, okF_1, okF_3, is01_0, is01_1, is01_i, Int.toNat_natCast, Int.reduceEq, Int.reduceLE, Int.reduceLT, Int.reduceNeg, Nat.reduceLT, not_true_eq_false, not_false_eq_true, reduceIte, Option.toList, List.cons_append, List.nil_append, List.set_cons_zero, List.set_cons_succ, List.not_mem_nil, List.mem_cons, if_false, if_true, ite_true, ite_false, and_self, and_true, true_and, Nat.reduceAdd, Nat.reduceLeDiff, Nat.reduceEqDiff, Nat.zero_add, Nat.le_refl, Nat.zero_le, or_false, false_or, Int.reduceToNat, or_true, true_or, eq_self, and_false, false_and, inR_d, nc_4, nc_5, nc_6, nc_7, nc_8, nc_16, nc_18, nc_20, nc_24, nc_32, nc_40, nc_64, nc_104, nc_120, nc_160, nc_256, nc_300, nc_330, nc_390, nc_1200, nc_1260, nc_3012, nc_9834, okSt_1i, okSt_1r, okSt_1n, List.length_cons, List.length_nil, xpk_succ cd_8_0, xpk_succ cd_8_1, xpk_succ cd_8_4, xpk_succ cd_8_7, k0, ea, a1]
set_option maxHeartbeats 2000000 in
theorem E_hs {d : Nat} {g : AH} {r kc : Nat} {f : Nat → Int} {near : Int} (hh : HKC g r kc f) (hf : HKr f) (Q : Option AV → AH → Prop) : XC (d + 3) 11 [vR r, vI near] g Q = Q (some (vI (hsF f near))) g := by
  refine XC_eq (Nat.le_of_ble_eq_true rfl) ?_ Q
  show XP (d + 2) 11 0 [some (vR r), some (vI near)] [] g _
  have es := fun Q => E_swg (d := d) hh hf Q
  obtain ⟨k0, _, v⟩ := hh
  have v1 := v 1 (by decide) (by decide)
  have v2 := v 2 (by decide) (by decide)
  have v4 := v 4 (by decide) (by decide)
  have v8 := v 8 (by decide) (by decide)
  obtain ⟨a1, a2, a3, a4, a5, a6, a7, a8, a9⟩ := hf
  have w1 : WE (f 1 - f 8) (f 1 - f 8) := by unfold WE w32; omega
  have b1 : w32 (if 0 ≤ f 1 - f 8 then f 1 - f 8 else -(f 1 - f 8)) = absF (f 1 - f 8) := absF_w (by omega) (by omega)
  have b2 : w32 (if 0 ≤ f 4 then f 4 else -f 4) = absF (f 4) := absF_w (by omega) (by omega)
  by_cases c1 : f 2 = 0
  · by_cases c2 : near < absF (f 1 - f 8)
    · rw [hsF_0 (fun y => by omega)]
      refine xpk_sound (stops := []) (n := 50) ?_
      simp only [sk_0, sk_1, sk_2, sk_3, sk_4, sk_5, sk_6, sk_7, sk_8, sk_iadd, sk_isub, sk_imul, sk_iand, sk_ior, sk_ixor, sk_ishl, sk_ishr, sk_iushr, sk_idiv, sk_irem, sk_ineg, sk_ladd, sk_lsub, sk_lmul, sk_land, sk_lor, sk_ldiv, sk_lrem, sk_lneg, sk_lshl, sk_lshr, sk_i2l, sk_l2i, sk_lcmp, sk_dupI, sk_dupR, sk_dup2L, sk_dup2I, sk_popI, sk_ifeq, sk_ifne, sk_iflt, sk_ifge, sk_ifgt, sk_ifle, sk_iceq, sk_icne, sk_iclt, sk_icge, sk_icgt, sk_icle, sk_goto, sk_getf, sk_putf, sk_gets, sk_iald, sk_lald, sk_bald, sk_aald, sk_iast, sk_last, sk_bast, sk_aast, sk_alen, sk_newa, sk_newt, sk_new, sk_cs1, sk_cs2, sk_cs3, sk_cs4, sk_cs5, sk_cs6, sk_cv1, sk_cv2, sk_cv3, sk_cv4, sk_cv5, sk_cv6, sk_ci1, sk_ci2, sk_ci3, sk_ret0, sk_retI, sk_retL, sk_retR, sk_sw, sk_oin, sk_max, sk_min, sk_abs, lI_0, lI_s, lL_0, lL_s, lR_0, lR_s, vIo_e, vLo_e, vOo_e, stW_I, stW_L, stW_R, stW_0, stW_z, okSt_0, okSt_s, hV_eq, hK_eq, okF_0, okF_1, okF_3, is01_0, is01_1, is01_i, Int.toNat_natCast, Int.reduceEq, Int.reduceLE, Int.reduceLT, Int.reduceNeg, Nat.reduceLT, not_true_eq_false, not_false_eq_true, reduceIte, Option.toList, List.cons_append, List.nil_append, List.set_cons_zero, List.set_cons_succ, List.not_mem_nil, List.mem_cons, if_false, if_true, ite_true, ite_false, and_self, and_true, true_and, Nat.reduceAdd, Nat.reduceLeDiff, Nat.reduceEqDiff, Nat.zero_add, Nat.le_refl, Nat.zero_le, or_false, false_or, Int.reduceToNat, or_true, true_or, eq_self, and_false, false_and, inR_d, nc_4, nc_5, nc_6, nc_7, nc_8, nc_16, nc_18, nc_20, nc_24, nc_32, nc_40, nc_64, nc_104, nc_120, nc_160, nc_256, nc_300, nc_330, nc_390, nc_1200, nc_1260, nc_3012, nc_9834, okSt_1i, okSt_1r, okSt_1n, List.length_cons, List.length_nil, xpk_succ cd_11_0, xpk_succ cd_11_1, xpk_succ cd_11_4, xpk_succ cd_11_7, xpk_succ cd_11_8, xpk_succ cd_11_11, xpk_succ cd_11_12, xpk_succ cd_11_15, xpk_succ cd_11_16, xpk_succ cd_11_19, xpk_succ cd_11_20, xpk_succ cd_11_23, xpk_succ cd_11_24, xpk_succ cd_11_27, xpk_succ cd_11_28, xpk_succ cd_11_31, xpk_succ cd_11_32, xpk_succ cd_11_35, xpk_succ cd_11_38, xpk_succ cd_11_39, xpk_succ cd_11_42, xpk_succ cd_11_43, xpk_succ cd_11_46, xpk_succ cd_11_47, k0, v1, v2, v8, (eq_true c1), (WE_e w1), b1, (eq_true c2)]
    · by_cases c3 : near < absF (f 1 - f 3)
      · rw [hsF_0 (fun y => by omega)]
        refine xpk_sound (stops := []) (n := 50) ?_
        simp only [sk_0, sk_1, sk_2, sk_3, sk_4, sk_5, sk_6, sk_7, sk_8, sk_iadd, sk_isub, sk_imul, sk_iand, sk_ior, sk_ixor, sk_ishl, sk_ishr, sk_iushr, sk_idiv, sk_irem, sk_ineg, sk_ladd, sk_lsub, sk_lmul, sk_land, sk_lor, sk_ldiv, sk_lrem, sk_lneg, sk_lshl, sk_lshr, sk_i2l, sk_l2i, sk_lcmp, sk_dupI, sk_dupR, sk_dup2L, sk_dup2I, sk_popI, sk_ifeq, sk_ifne, sk_iflt, sk_ifge, sk_ifgt, sk_ifle, sk_iceq, sk_icne, sk_iclt, sk_icge, sk_icgt, sk_icle, sk_goto, sk_getf, sk_putf, sk_gets, sk_iald, sk_lald, sk_bald, sk_aald, sk_iast, sk_last, sk_bast, sk_aast, sk_alen, sk_newa, sk_newt, sk_new, sk_cs1, sk_cs2, sk_cs3, sk_cs4, sk_cs5, sk_cs6, sk_cv1, sk_cv2, sk_cv3, sk_cv4, sk_cv5, sk_cv6, sk_ci1, sk_ci2, sk_ci3, sk_ret0, sk_retI, sk_retL, sk_retR, sk_sw, sk_oin, sk_max, sk_min, sk_abs, lI_0, lI_s, lL_0, lL_s, lR_0, lR_s, vIo_e, vLo_e, vOo_e, stW_I, stW_L, stW_R, stW_0, stW_z, okSt_0, okSt_s, hV_eq, hK_eq, okF_0, okF_1, okF_3, is01_0, is01_1, is01_i, Int.toNat_natCast, Int.reduceEq, Int.reduceLE, Int.reduceLT, Int.reduceNeg, Nat.reduceLT, not_true_eq_false, not_false_eq_true, reduceIte, Option.toList, List.cons_append, List.nil_append, List.set_cons_zero, List.set_cons_succ, List.not_mem_nil, List.mem_cons, if_false, if_true, ite_true, ite_false, and_self, and_true, true_and, Nat.reduceAdd, Nat.reduceLeDiff, Nat.reduceEqDiff, Nat.zero_add, Nat.le_refl, Nat.zero_le, or_false, false_or, Int.reduceToNat, or_true, true_or, eq_self, and_false, false_and, inR_d, nc_4, nc_5, nc_6, nc_7, nc_8, nc_16, nc_18, nc_20, nc_24, nc_32, nc_40, nc_64, nc_104, nc_120, nc_160, nc_256, nc_300, nc_330, nc_390, nc_1200, nc_1260, nc_3012, nc_9834, okSt_1i, okSt_1r, okSt_1n, List.length_cons, List.length_nil, xpk_succ cd_11_0, xpk_succ cd_11_1, xpk_succ cd_11_4, xpk_succ cd_11_7, xpk_succ cd_11_8, xpk_succ cd_11_11, xpk_succ cd_11_12, xpk_succ cd_11_15, xpk_succ cd_11_16, xpk_succ cd_11_19, xpk_succ cd_11_20, xpk_succ cd_11_23, xpk_succ cd_11_24, xpk_succ cd_11_27, xpk_succ cd_11_28, xpk_succ cd_11_31, xpk_succ cd_11_32, xpk_succ cd_11_35, xpk_succ cd_11_38, xpk_succ cd_11_39, xpk_succ cd_11_42, xpk_succ cd_11_43, xpk_succ cd_11_46, xpk_succ cd_11_47, k0, v1, v2, v8, (eq_true c1), (WE_e w1), b1, c2, es, (eq_true c3)]
      · by_cases c4 : 1 < absF (f 4)
        · rw [hsF_0 (fun y => by omega)]
          refine xpk_sound (stops := []) (n := 50) ?_
          simp only [sk_0, sk_1, sk_2, sk_3, sk_4, sk_5, sk_6, sk_7, sk_8, sk_iadd, sk_isub, sk_imul, sk_iand, sk_ior, sk_ixor, sk_ishl, sk_ishr, sk_iushr, sk_idiv, sk_irem, sk_ineg, sk_ladd, sk_lsub, sk_lmul, sk_land, sk_lor, sk_ldiv, sk_lrem, sk_lneg, sk_lshl, sk_lshr, sk_i2l, sk_l2i, sk_lcmp, sk_dupI, sk_dupR, sk_dup2L, sk_dup2I, sk_popI, sk_ifeq, sk_ifne, sk_iflt, sk_ifge, sk_ifgt, sk_ifle, sk_iceq, sk_icne, sk_iclt, sk_icge, sk_icgt, sk_icle, sk_goto, sk_getf, sk_putf, sk_gets, sk_iald, sk_lald, sk_bald, sk_aald, sk_iast, sk_last, sk_bast, sk_aast, sk_alen, sk_newa, sk_newt, sk_new, sk_cs1, sk_cs2, sk_cs3, sk_cs4, sk_cs5, sk_cs6, sk_cv1, sk_cv2, sk_cv3, sk_cv4, sk_cv5, sk_cv6, sk_ci1, sk_ci2, sk_ci3, sk_ret0, sk_retI, sk_retL, sk_retR, sk_sw, sk_oin, sk_max, sk_min, sk_abs, lI_0, lI_s, lL_0, lL_s, lR_0, lR_s, vIo_e, vLo_e, vOo_e, stW_I, stW_L, stW_R, stW_0, stW_z, okSt_0, okSt_s, hV_eq, hK_eq, okF_0, okF_1, okF_3, is01_0, is01_1, is01_i, Int.toNat_natCast, Int.reduceEq, Int.reduceLE, Int.reduceLT, Int.reduceNeg, Nat.reduceLT, not_true_eq_false, not_false_eq_true, reduceIte, Option.toList, List.cons_append, List.nil_append, List.set_cons_zero, List.set_cons_succ, List.not_mem_nil, List.mem_cons, if_false, if_true, ite_true, ite_false, and_self, and_true, true_and, Nat.reduceAdd, Nat.reduceLeDiff, Nat.reduceEqDiff, Nat.zero_add, Nat.le_refl, Nat.zero_le, or_false, false_or, Int.reduceToNat, or_true, true_or, eq_self, and_false, false_and, inR_d, nc_4, nc_5, nc_6, nc_7, nc_8, nc_16, nc_18, nc_20, nc_24, nc_32, nc_40, nc_64, nc_104, nc_120, nc_160, nc_256, nc_300, nc_330, nc_390, nc_1200, nc_1260, nc_3012, nc_9834, okSt_1i, okSt_1r, okSt_1n, List.length_cons, List.length_nil, xpk_succ cd_11_0, xpk_succ cd_11_1, xpk_succ cd_11_4, xpk_succ cd_11_7, xpk_succ cd_11_8, xpk_succ cd_11_11, xpk_succ cd_11_12, xpk_succ cd_11_15, xpk_succ cd_11_16, xpk_succ cd_11_19, xpk_succ cd_11_20, xpk_succ cd_11_23, xpk_succ cd_11_24, xpk_succ cd_11_27, xpk_succ cd_11_28, xpk_succ cd_11_31, xpk_succ cd_11_32, xpk_succ cd_11_35, xpk_succ cd_11_38, xpk_succ cd_11_39, xpk_succ cd_11_42, xpk_succ cd_11_43, xpk_succ cd_11_46, xpk_succ cd_11_47, k0, v1, v2, v4, v8, (eq_true c1), (WE_e w1), b1, c2, es, c3, b2, (eq_true c4)]
        · rw [hsF_1 ⟨c1, by omega, by omega, by omega⟩]
          refine xpk_sound (stops := []) (n := 50) ?_
          simp only [sk_0, sk_1, sk_2, sk_3, sk_4, sk_5, sk_6, sk_7, sk_8, sk_iadd, sk_isub, sk_imul, sk_iand, sk_ior, sk_ixor, sk_ishl, sk_ishr, sk_iushr, sk_idiv, sk_irem, sk_ineg, sk_ladd, sk_lsub, sk_lmul, sk_land, sk_lor, sk_ldiv, sk_lrem, sk_lneg, sk_lshl, sk_lshr, sk_i2l, sk_l2i, sk_lcmp, sk_dupI, sk_dupR, sk_dup2L, sk_dup2I, sk_popI, sk_ifeq, sk_ifne, sk_iflt, sk_ifge, sk_ifgt, sk_ifle, sk_iceq, sk_icne, sk_iclt, sk_icge, sk_icgt, sk_icle, sk_goto, sk_getf, sk_putf, sk_gets, sk_iald, sk_lald, sk_bald, sk_aald, sk_iast, sk_last, sk_bast, sk_aast, sk_alen, sk_newa, sk_newt, sk_new, sk_cs1, sk_cs2, sk_cs3, sk_cs4, sk_cs5, sk_cs6, sk_cv1, sk_cv2, sk_cv3, sk_cv4, sk_cv5, sk_cv6, sk_ci1, sk_ci2, sk_ci3, sk_ret0, sk_retI, sk_retL, sk_retR, sk_sw, sk_oin, sk_max, sk_min, sk_abs, lI_0, lI_s, lL_0, lL_s, lR_0, lR_s, vIo_e, vLo_e, vOo_e, stW_I, stW_L, stW_R, stW_0, stW_z, okSt_0, okSt_s, hV_eq, hK_eq, okF_0, okF_1, okF_3, is01_0, is01_1, is01_i, Int.toNat_natCast, Int.reduceEq, Int.reduceLE, Int.reduceLT, Int.reduceNeg, Nat.reduceLT, not_true_eq_false, not_false_eq_true, reduceIte, Option.toList, List.cons_append, List.nil_append, List.set_cons_zero, List.set_cons_succ, List.not_mem_nil, List.mem_cons, if_false, if_true, ite_true, ite_false, and_self, and_true, true_and, Nat.reduceAdd, Nat.reduceLeDiff, Nat.reduceEqDiff, Nat.zero_add, Nat.le_refl, Nat.zero_le, or_false, false_or, Int.reduceToNat, or_true, true_or, eq_self, and_false, false_and, inR_d, nc_4, nc_5, nc_6, nc_7, nc_8, nc_16, nc_18, nc_20, nc_24, nc_32, nc_40, nc_64, nc_104, nc_120, nc_160, nc_256, nc_300, nc_330, nc_390, nc_1200, nc_1260, nc_3012, nc_9834, okSt_1i, okSt_1r, okSt_1n, List.length_cons, List.length_nil, xpk_succ cd_11_0, xpk_succ cd_11_1, xpk_succ cd_11_4, xpk_succ cd_11_7, xpk_succ cd_11_8, xpk_succ cd_11_11, xpk_succ cd_11_12, xpk_succ cd_11_15, xpk_succ cd_11_16, xpk_succ cd_11_19, xpk_succ cd_11_20, xpk_succ cd_11_23, xpk_succ cd_11_24, xpk_succ cd_11_27, xpk_succ cd_11_28, xpk_succ cd_11_31, xpk_succ cd_11_32, xpk_succ cd_11_35, xpk_succ cd_11_38, xpk_succ cd_11_39, xpk_succ cd_11_42, xpk_succ cd_11_43, xpk_succ cd_11_46, xpk_succ cd_11_47, k0, v1, v2, v4, v8, (eq_true c1), (WE_e w1), b1, c2, es, c3, b2, c4]
  · rw [hsF_0 (fun y => c1 y.1)]
    refine xpk_sound (stops := []) (n := 50) ?_
    simp only [sk_0, sk_1, sk_2, sk_3, sk_4, sk_5, sk_6, sk_7, sk_8, sk_iadd, sk_isub, sk_imul, sk_iand, sk_ior, sk_ixor, sk_ishl, sk_ishr, sk_iushr, sk_idiv, sk_irem, sk_ineg, sk_ladd, sk_lsub, sk_lmul, sk_land, sk_lor, sk_ldiv, sk_lrem, sk_lneg, sk_lshl, sk_lshr, sk_i2l, sk_l2i, sk_lcmp, sk_dupI, sk_dupR, sk_dup2L, sk_dup2I, sk_popI, sk_ifeq, sk_ifne, sk_iflt, sk_ifge, sk_ifgt, sk_ifle, sk_iceq, sk_icne, sk_iclt, sk_icge, sk_icgt, sk_icle, sk_goto, sk_getf, sk_putf, sk_gets, sk_iald, sk_lald, sk_bald, sk_aald, sk_iast, sk_last, sk_bast, sk_aast, sk_alen, sk_newa, sk_newt, sk_new, sk_cs1, sk_cs2, sk_cs3, sk_cs4, sk_cs5, sk_cs6, sk_cv1, sk_cv2, sk_cv3, sk_cv4, sk_cv5, sk_cv6, sk_ci1, sk_ci2, sk_ci3, sk_ret0, sk_retI, sk_retL, sk_retR, sk_sw, sk_oin, sk_max, sk_min, sk_abs, lI_0, lI_s, lL_0, lL_s, lR_0, lR_s, vIo_e, vLo_e, vOo_e, stW_I, stW_L, stW_R, stW_0, stW_z, okSt_0, okSt_s, hV_eq, hK_eq, okF_0, okF_1, okF_3, is01_0, is01_1, is01_i, Int.toNat_natCast, Int.reduceEq, Int.reduceLE, Int.reduceLT, Int.reduceNeg, Nat.reduceLT, not_true_eq_false, not_false_eq_true, reduceIte, Option.toList, List.cons_append, List.nil_append, List.set_cons_zero, List.set_cons_succ, List.not_mem_nil, List.mem_cons, if_false, if_true, ite_true, ite_false, and_self, and_true, true_and, Nat.reduceAdd, Nat.reduceLeDiff, Nat.reduceEqDiff, Nat.zero_add, Nat.le_refl, Nat.zero_le, or_false, false_or, Int.reduceToNat, or_true, true_or, eq_self, and_false, false_and, inR_d, nc_4, nc_5, nc_6, nc_7, nc_8, nc_16, nc_18, nc_20, nc_24, nc_32, nc_40, nc_64, nc_104, nc_120, nc_160, nc_256, nc_300, nc_330, nc_390, nc_1200, nc_1260, nc_3012, nc_9834, okSt_1i, okSt_1r, okSt_1n, List.length_cons, List.length_nil, xpk_succ cd_11_0, xpk_succ cd_11_1, xpk_succ cd_11_4, xpk_succ cd_11_7, xpk_succ cd_11_8, xpk_succ cd_11_11, xpk_succ cd_11_12, xpk_succ cd_11_15, xpk_succ cd_11_16, xpk_succ cd_11_19, xpk_succ cd_11_20, xpk_succ cd_11_23, xpk_succ cd_11_24, xpk_succ cd_11_27, xpk_succ cd_11_28, xpk_succ cd_11_31, xpk_succ cd_11_32, xpk_succ cd_11_35, xpk_succ cd_11_38, xpk_succ cd_11_39, xpk_succ cd_11_42, xpk_succ cd_11_43, xpk_succ cd_11_46, xpk_succ cd_11_47, k0, v2, c1]
set_option maxHeartbeats 1000000 in
theorem E_fit {h : AH} {T1 T2 : Nat} {W : Nat → Nat → Int} {f rw_ : Nat → Int} {s : SCR} {d : Nat} (hJ : k_H JB h) {n : Int} (w : WE (f 9 + n) (f 9 + n)) (Q : Option AV → AH → Prop) : XC (d + 1) 129 [vR 0, vI n] (Zc h T1 T2 W f rw_ s) Q = Q (some (vI (if f 9 + n ≤ 9999 then 1 else 0))) (Zc h T1 T2 W f rw_ s) := by
  refine XC_eq (Nat.le_of_ble_eq_true rfl) ?_ Q
  show XP d 129 0 [some (vR 0), some (vI n)] [] (Zc h T1 T2 W f rw_ s) _
  by_cases c : f 9 + n ≤ 9999
  · rw [if_pos c]
    have c' : ¬ (9999 < f 9 + n) := by omega
    refine xpk_sound (stops := []) (n := 30) ?_
    simp only [sk_0, sk_1, sk_2, sk_3, sk_4, sk_5, sk_6, sk_7, sk_8, sk_iadd, sk_isub, sk_imul, sk_iand, sk_ior, sk_ixor, sk_ishl, sk_ishr, sk_iushr, sk_idiv, sk_irem, sk_ineg, sk_ladd, sk_lsub, sk_lmul, sk_land, sk_lor, sk_ldiv, sk_lrem, sk_lneg, sk_lshl, sk_lshr, sk_i2l, sk_l2i, sk_lcmp, sk_dupI, sk_dupR, sk_dup2L, sk_dup2I, sk_popI, sk_ifeq, sk_ifne, sk_iflt, sk_ifge, sk_ifgt, sk_ifle, sk_iceq, sk_icne, sk_iclt, sk_icge, sk_icgt, sk_icle, sk_goto, sk_getf, sk_putf, sk_gets, sk_iald, sk_lald, sk_bald, sk_aald, sk_iast, sk_last, sk_bast, sk_aast, sk_alen, sk_newa, sk_newt, sk_new, sk_cs1, sk_cs2, sk_cs3, sk_cs4, sk_cs5, sk_cs6, sk_cv1, sk_cv2, sk_cv3, sk_cv4, sk_cv5, sk_cv6, sk_ci1, sk_ci2, sk_ci3, sk_ret0, sk_retI, sk_retL, sk_retR, sk_sw, sk_oin, sk_max, sk_min, sk_abs, lI_0, lI_s, lL_0, lL_s, lR_0, lR_s, vIo_e, vLo_e, vOo_e, stW_I, stW_L, stW_R, stW_0, stW_z, okSt_0, okSt_s, hV_eq, hK_eq, okF_0, okF_1, okF_3, is01_0, is01_1, is01_i, Int.toNat_natCast, Int.reduceEq, Int.reduceLE, Int.reduceLT, Int.reduceNeg, Nat.reduceLT, not_true_eq_false, not_false_eq_true, reduceIte, Option.toList, List.cons_append, List.nil_append, List.set_cons_zero, List.set_cons_succ, List.not_mem_nil, List.mem_cons, if_false, if_true, ite_true, ite_false, and_self, and_true, true_and, Nat.reduceAdd, Nat.reduceLeDiff, Nat.reduceEqDiff, Nat.zero_add, Nat.le_refl, Nat.zero_le, or_false, false_or, Int.reduceToNat, or_true, true_or, eq_self, and_false, false_and, inR_d, nc_4, nc_5, nc_6, nc_7, nc_8, nc_16, nc_18, nc_20, nc_24, nc_32, nc_40, nc_64, nc_104, nc_120, nc_160, nc_256, nc_300, nc_330, nc_390, nc_1200, nc_1260, nc_3012, nc_9834, okSt_1i, okSt_1r, okSt_1n, List.length_cons, List.length_nil, xpk_succ cd_129_0, xpk_succ cd_129_1, xpk_succ cd_129_4, xpk_succ cd_129_7, xpk_succ cd_129_10, xpk_succ cd_129_11, xpk_succ cd_129_12, xpk_succ cd_129_15, xpk_succ cd_129_18, xpk_succ cd_129_19, xpk_succ cd_129_22, xpk_succ cd_129_23, Zc_k, (K_0 hJ), (K_1 hJ), (K_2 hJ), (K_5 hJ), (K_6 hJ), (K_9 hJ), (K_10 hJ), (K_21 hJ), (K_58 hJ), (Zp_0_0 hJ), (Zp_0_2 hJ), (Zp_0_3 hJ), (Zp_0_4 hJ), (Zp_1_0 hJ), (Zp_1_4 hJ), (Zp_1_6 hJ), (Zp_1_13 hJ), (Zp_1_14 hJ), (Zc_f (i := 9) (by decide) (by decide)), (WE_e w), c']
  · rw [if_neg c]
    have c' : 9999 < f 9 + n := by omega
    refine xpk_sound (stops := []) (n := 30) ?_
    simp only [sk_0, sk_1, sk_2, sk_3, sk_4, sk_5, sk_6, sk_7, sk_8, sk_iadd, sk_isub, sk_imul, sk_iand, sk_ior, sk_ixor, sk_ishl, sk_ishr, sk_iushr, sk_idiv, sk_irem, sk_ineg, sk_ladd, sk_lsub, sk_lmul, sk_land, sk_lor, sk_ldiv, sk_lrem, sk_lneg, sk_lshl, sk_lshr, sk_i2l, sk_l2i, sk_lcmp, sk_dupI, sk_dupR, sk_dup2L, sk_dup2I, sk_popI, sk_ifeq, sk_ifne, sk_iflt, sk_ifge, sk_ifgt, sk_ifle, sk_iceq, sk_icne, sk_iclt, sk_icge, sk_icgt, sk_icle, sk_goto, sk_getf, sk_putf, sk_gets, sk_iald, sk_lald, sk_bald, sk_aald, sk_iast, sk_last, sk_bast, sk_aast, sk_alen, sk_newa, sk_newt, sk_new, sk_cs1, sk_cs2, sk_cs3, sk_cs4, sk_cs5, sk_cs6, sk_cv1, sk_cv2, sk_cv3, sk_cv4, sk_cv5, sk_cv6, sk_ci1, sk_ci2, sk_ci3, sk_ret0, sk_retI, sk_retL, sk_retR, sk_sw, sk_oin, sk_max, sk_min, sk_abs, lI_0, lI_s, lL_0, lL_s, lR_0, lR_s, vIo_e, vLo_e, vOo_e, stW_I, stW_L, stW_R, stW_0, stW_z, okSt_0, okSt_s, hV_eq, hK_eq, okF_0, okF_1, okF_3, is01_0, is01_1, is01_i, Int.toNat_natCast, Int.reduceEq, Int.reduceLE, Int.reduceLT, Int.reduceNeg, Nat.reduceLT, not_true_eq_false, not_false_eq_true, reduceIte, Option.toList, List.cons_append, List.nil_append, List.set_cons_zero, List.set_cons_succ, List.not_mem_nil, List.mem_cons, if_false, if_true, ite_true, ite_false, and_self, and_true, true_and, Nat.reduceAdd, Nat.reduceLeDiff, Nat.reduceEqDiff, Nat.zero_add, Nat.le_refl, Nat.zero_le, or_false, false_or, Int.reduceToNat, or_true, true_or, eq_self, and_false, false_and, inR_d, nc_4, nc_5, nc_6, nc_7, nc_8, nc_16, nc_18, nc_20, nc_24, nc_32, nc_40, nc_64, nc_104, nc_120, nc_160, nc_256, nc_300, nc_330, nc_390, nc_1200, nc_1260, nc_3012, nc_9834, okSt_1i, okSt_1r, okSt_1n, List.length_cons, List.length_nil, xpk_succ cd_129_0, xpk_succ cd_129_1, xpk_succ cd_129_4, xpk_succ cd_129_7, xpk_succ cd_129_10, xpk_succ cd_129_11, xpk_succ cd_129_12, xpk_succ cd_129_15, xpk_succ cd_129_18, xpk_succ cd_129_19, xpk_succ cd_129_22, xpk_succ cd_129_23, Zc_k, (K_0 hJ), (K_1 hJ), (K_2 hJ), (K_5 hJ), (K_6 hJ), (K_9 hJ), (K_10 hJ), (K_21 hJ), (K_58 hJ), (Zp_0_0 hJ), (Zp_0_2 hJ), (Zp_0_3 hJ), (Zp_0_4 hJ), (Zp_1_0 hJ), (Zp_1_4 hJ), (Zp_1_6 hJ), (Zp_1_13 hJ), (Zp_1_14 hJ), (Zc_f (i := 9) (by decide) (by decide)), (WE_e w), (eq_true c')]
set_option maxHeartbeats 1000000 in
theorem E_iOr {h : AH} {T1 T2 : Nat} {W : Nat → Nat → Int} {f rw_ : Nat → Int} {s : SCR} {d : Nat} (hJ : k_H JB h) {v : Int} (b : 0 ≤ W 1 5 ∧ W 1 5 ≤ 8) (Q : Option AV → AH → Prop) : XC (d + 2) 172 [vR 0, vI v] (Zc h T1 T2 W f rw_ s) Q = Q (some (vI (if 0 ≤ v ∧ v ≤ W 1 5 - 1 then 1 else 0))) (Zc h T1 T2 W f rw_ s) := by
  refine XC_eq (Nat.le_of_ble_eq_true rfl) ?_ Q
  show XP (d + 1) 172 0 [some (vR 0), some (vI v)] [] (Zc h T1 T2 W f rw_ s) _
  have w : WE (W 1 5 - 1) (W 1 5 - 1) := by unfold WE w32; omega
  have e := fun Q => X_wn (d := d) (v := v) (lo := 0) (hi := W 1 5 - 1) (h := Zc h T1 T2 W f rw_ s) Q
  have b01 : is01 (if 0 ≤ v ∧ v ≤ W 1 5 - 1 then (1 : Int) else 0) = true := by split <;> rfl
  refine xpk_sound (stops := []) (n := 30) ?_
  simp only [sk_0, sk_1, sk_2, sk_3, sk_4, sk_5, sk_6, sk_7, sk_8, sk_iadd, sk_isub, sk_imul, sk_iand, sk_ior, sk_ixor, sk_ishl, sk_ishr, sk_iushr, sk_idiv, sk_irem, sk_ineg, sk_ladd, sk_lsub, sk_lmul, sk_land, sk_lor, sk_ldiv, sk_lrem, sk_lneg, sk_lshl, sk_lshr, sk_i2l, sk_l2i, sk_lcmp, sk_dupI, sk_dupR, sk_dup2L, sk_dup2I, sk_popI, sk_ifeq, sk_ifne, sk_iflt, sk_ifge, sk_ifgt, sk_ifle, sk_iceq, sk_icne, sk_iclt, sk_icge, sk_icgt, sk_icle, sk_goto, sk_getf, sk_putf, sk_gets, sk_iald, sk_lald, sk_bald, sk_aald, sk_iast, sk_last, sk_bast, sk_aast, sk_alen, sk_newa, sk_newt, sk_new, sk_cs1, sk_cs2, sk_cs3, sk_cs4, sk_cs5, sk_cs6, sk_cv1, sk_cv2, sk_cv3, sk_cv4, sk_cv5, sk_cv6, sk_ci1, sk_ci2, sk_ci3, sk_ret0, sk_retI, sk_retL, sk_retR, sk_sw, sk_oin, sk_max, sk_min, sk_abs, lI_0, lI_s, lL_0, lL_s, lR_0, lR_s, vIo_e, vLo_e, vOo_e, stW_I, stW_L, stW_R, stW_0, stW_z, okSt_0, okSt_s, hV_eq, hK_eq, okF_0, okF_1, okF_3, is01_0, is01_1, is01_i, Int.toNat_natCast, Int.reduceEq, Int.reduceLE, Int.reduceLT, Int.reduceNeg, Nat.reduceLT, not_true_eq_false, not_false_eq_true, reduceIte, Option.toList, List.cons_append, List.nil_append, List.set_cons_zero, List.set_cons_succ, List.not_mem_nil, List.mem_cons, if_false, if_true, ite_true, ite_false, and_self, and_true, true_and, Nat.reduceAdd, Nat.reduceLeDiff, Nat.reduceEqDiff, Nat.zero_add, Nat.le_refl, Nat.zero_le, or_false, false_or, Int.reduceToNat, or_true, true_or, eq_self, and_false, false_and, inR_d, nc_4, nc_5, nc_6, nc_7, nc_8, nc_16, nc_18, nc_20, nc_24, nc_32, nc_40, nc_64, nc_104, nc_120, nc_160, nc_256, nc_300, nc_330, nc_390, nc_1200, nc_1260, nc_3012, nc_9834, okSt_1i, okSt_1r, okSt_1n, List.length_cons, List.length_nil, xpk_succ cd_172_0, xpk_succ cd_172_1, xpk_succ cd_172_2, xpk_succ cd_172_3, xpk_succ cd_172_6, xpk_succ cd_172_9, xpk_succ cd_172_10, xpk_succ cd_172_11, xpk_succ cd_172_14, Zc_k, (K_0 hJ), (K_1 hJ), (K_2 hJ), (K_5 hJ), (K_6 hJ), (K_9 hJ), (K_10 hJ), (K_21 hJ), (K_58 hJ), (Zp_0_0 hJ), (Zp_0_2 hJ), (Zp_0_3 hJ), (Zp_0_4 hJ), (Zp_1_0 hJ), (Zp_1_4 hJ), (Zp_1_6 hJ), (Zp_1_13 hJ), (Zp_1_14 hJ), (Zc_B (k := 1) (i := 5) (by decide) (by decide) (by decide) rfl), (WE_e w), e, b01]
set_option maxHeartbeats 1000000 in
theorem E_iTx {h : AH} {T1 T2 : Nat} {W : Nat → Nat → Int} {f rw_ : Nat → Int} {s : SCR} {d : Nat} (hJ : k_H JB h) {v n : Int} (vn : hV h 1 2 = vI n) (b : 0 ≤ n ∧ n ≤ 4) (Q : Option AV → AH → Prop) : XC (d + 2) 173 [vR 0, vI v] (Zc h T1 T2 W f rw_ s) Q = Q (some (vI (if 0 ≤ v ∧ v ≤ n - 1 then 1 else 0))) (Zc h T1 T2 W f rw_ s) := by
  refine XC_eq (Nat.le_of_ble_eq_true rfl) ?_ Q
  show XP (d + 1) 173 0 [some (vR 0), some (vI v)] [] (Zc h T1 T2 W f rw_ s) _
  have w : WE (n - 1) (n - 1) := by unfold WE w32; omega
  have e := fun Q => X_wn (d := d) (v := v) (lo := 0) (hi := n - 1) (h := Zc h T1 T2 W f rw_ s) Q
  have b01 : is01 (if 0 ≤ v ∧ v ≤ n - 1 then (1 : Int) else 0) = true := by split <;> rfl
  have r2 : hV (Zc h T1 T2 W f rw_ s) 1 2 = vI n := (Zc_n (by decide) (by decide) (by decide) rfl).trans vn
  refine xpk_sound (stops := []) (n := 30) ?_
  simp only [sk_0, sk_1, sk_2, sk_3, sk_4, sk_5, sk_6, sk_7, sk_8, sk_iadd, sk_isub, sk_imul, sk_iand, sk_ior, sk_ixor, sk_ishl, sk_ishr, sk_iushr, sk_idiv, sk_irem, sk_ineg, sk_ladd, sk_lsub, sk_lmul, sk_land, sk_lor, sk_ldiv, sk_lrem, sk_lneg, sk_lshl, sk_lshr, sk_i2l, sk_l2i, sk_lcmp, sk_dupI, sk_dupR, sk_dup2L, sk_dup2I, sk_popI, sk_ifeq, sk_ifne, sk_iflt, sk_ifge, sk_ifgt, sk_ifle, sk_iceq, sk_icne, sk_iclt, sk_icge, sk_icgt, sk_icle, sk_goto, sk_getf, sk_putf, sk_gets, sk_iald, sk_lald, sk_bald, sk_aald, sk_iast, sk_last, sk_bast, sk_aast, sk_alen, sk_newa, sk_newt, sk_new, sk_cs1, sk_cs2, sk_cs3, sk_cs4, sk_cs5, sk_cs6, sk_cv1, sk_cv2, sk_cv3, sk_cv4, sk_cv5, sk_cv6, sk_ci1, sk_ci2, sk_ci3, sk_ret0, sk_retI, sk_retL, sk_retR, sk_sw, sk_oin, sk_max, sk_min, sk_abs, lI_0, lI_s, lL_0, lL_s, lR_0, lR_s, vIo_e, vLo_e, vOo_e, stW_I, stW_L, stW_R, stW_0, stW_z, okSt_0, okSt_s, hV_eq, hK_eq, okF_0, okF_1, okF_3, is01_0, is01_1, is01_i, Int.toNat_natCast, Int.reduceEq, Int.reduceLE, Int.reduceLT, Int.reduceNeg, Nat.reduceLT, not_true_eq_false, not_false_eq_true, reduceIte, Option.toList, List.cons_append, List.nil_append, List.set_cons_zero, List.set_cons_succ, List.not_mem_nil, List.mem_cons, if_false, if_true, ite_true, ite_false, and_self, and_true, true_and, Nat.reduceAdd, Nat.reduceLeDiff, Nat.reduceEqDiff, Nat.zero_add, Nat.le_refl, Nat.zero_le, or_false, false_or, Int.reduceToNat, or_true, true_or, eq_self, and_false, false_and, inR_d, nc_4, nc_5, nc_6, nc_7, nc_8, nc_16, nc_18, nc_20, nc_24, nc_32, nc_40, nc_64, nc_104, nc_120, nc_160, nc_256, nc_300, nc_330, nc_390, nc_1200, nc_1260, nc_3012, nc_9834, okSt_1i, okSt_1r, okSt_1n, List.length_cons, List.length_nil, xpk_succ cd_173_0, xpk_succ cd_173_1, xpk_succ cd_173_2, xpk_succ cd_173_3, xpk_succ cd_173_6, xpk_succ cd_173_9, xpk_succ cd_173_10, xpk_succ cd_173_11, xpk_succ cd_173_14, Zc_k, (K_0 hJ), (K_1 hJ), (K_2 hJ), (K_5 hJ), (K_6 hJ), (K_9 hJ), (K_10 hJ), (K_21 hJ), (K_58 hJ), (Zp_0_0 hJ), (Zp_0_2 hJ), (Zp_0_3 hJ), (Zp_0_4 hJ), (Zp_1_0 hJ), (Zp_1_4 hJ), (Zp_1_6 hJ), (Zp_1_13 hJ), (Zp_1_14 hJ), r2, (WE_e w), e, b01]
/-- which text rules: its cell -/
def RUL (h : AH) (T : Nat) : Prop := ∃ n : Int, hV h 1 2 = vI n ∧ (0 ≤ n ∧ n ≤ 4) ∧ ((hV h 1 3 = vI (-1) ∧ T = 46) ∨ ∃ J : Nat, hV h 1 3 = vI (J : Int) ∧ (J : Int) < n ∧ T = 22 + 6 * J)
set_option maxHeartbeats 2000000 in
theorem E_rul {h : AH} {T1 T2 : Nat} {W : Nat → Nat → Int} {f rw_ : Nat → Int} {s : SCR} {d : Nat} (hJ : k_H JB h) {T : Nat} (hr : RUL h T) (Q : Option AV → AH → Prop) : XC (d + 3) 175 [vR 0] (Zc h T1 T2 W f rw_ s) Q = Q (some (vR 58)) (Zc h T T W f rw_ s) := by
  refine XC_eq (Nat.le_of_ble_eq_true rfl) ?_ Q
  show XP (d + 2) 175 0 [some (vR 0), none] [] (Zc h T1 T2 W f rw_ s) _
  obtain ⟨n, vn, bn, ⟨vr, rfl⟩ | ⟨J, vr, jn, rfl⟩⟩ := hr
  · have r3 : hV (Zc h T1 T2 W f rw_ s) 1 3 = vI (-1) := (Zc_n (by decide) (by decide) (by decide) rfl).trans vr
    have e : ∀ Q : Option AV → AH → Prop, XC (d + 2) 173 [vR 0, vI (-1)] (Zc h T1 T2 W f rw_ s) Q = Q (some (vI 0)) (Zc h T1 T2 W f rw_ s) := fun Q => by
      rw [E_iTx hJ vn bn Q, if_neg (by omega)]
    refine xpk_sound (stops := []) (n := 50) ?_
    simp only [sk_0, sk_1, sk_2, sk_3, sk_4, sk_5, sk_6, sk_7, sk_8, sk_iadd, sk_isub, sk_imul, sk_iand, sk_ior, sk_ixor, sk_ishl, sk_ishr, sk_iushr, sk_idiv, sk_irem, sk_ineg, sk_ladd, sk_lsub, sk_lmul, sk_land, sk_lor, sk_ldiv, sk_lrem, sk_lneg, sk_lshl, sk_lshr, sk_i2l, sk_l2i, sk_lcmp, sk_dupI, sk_dupR, sk_dup2L, sk_dup2I, sk_popI, sk_ifeq, sk_ifne, sk_iflt, sk_ifge, sk_ifgt, sk_ifle, sk_iceq, sk_icne, sk_iclt, sk_icge, sk_icgt, sk_icle, sk_goto, sk_getf, sk_putf, sk_gets, sk_iald, sk_lald, sk_bald, sk_aald, sk_iast, sk_last, sk_bast, sk_aast, sk_alen, sk_newa, sk_newt, sk_new, sk_cs1, sk_cs2, sk_cs3, sk_cs4, sk_cs5, sk_cs6, sk_cv1, sk_cv2, sk_cv3, sk_cv4, sk_cv5, sk_cv6, sk_ci1, sk_ci2, sk_ci3, sk_ret0, sk_retI, sk_retL, sk_retR, sk_sw, sk_oin, sk_max, sk_min, sk_abs, lI_0, lI_s, lL_0, lL_s, lR_0, lR_s, vIo_e, vLo_e, vOo_e, stW_I, stW_L, stW_R, stW_0, stW_z, okSt_0, okSt_s, hV_eq, hK_eq, okF_0, okF_1, okF_3, is01_0, is01_1, is01_i, Int.toNat_natCast, Int.reduceEq, Int.reduceLE, Int.reduceLT, Int.reduceNeg, Nat.reduceLT, not_true_eq_false, not_false_eq_true, reduceIte, Option.toList, List.cons_append, List.nil_append, List.set_cons_zero, List.set_cons_succ, List.not_mem_nil, List.mem_cons, if_false, if_true, ite_true, ite_false, and_self, and_true, true_and, Nat.reduceAdd, Nat.reduceLeDiff, Nat.reduceEqDiff, Nat.zero_add, Nat.le_refl, Nat.zero_le, or_false, false_or, Int.reduceToNat, or_true, true_or, eq_self, and_false, false_and, inR_d, nc_4, nc_5, nc_6, nc_7, nc_8, nc_16, nc_18, nc_20, nc_24, nc_32, nc_40, nc_64, nc_104, nc_120, nc_160, nc_256, nc_300, nc_330, nc_390, nc_1200, nc_1260, nc_3012, nc_9834, okSt_1i, okSt_1r, okSt_1n, List.length_cons, List.length_nil, xpk_succ cd_175_0, xpk_succ cd_175_1, xpk_succ cd_175_2, xpk_succ cd_175_5, xpk_succ cd_175_8, xpk_succ cd_175_11, xpk_succ cd_175_14, xpk_succ cd_175_15, xpk_succ cd_175_18, xpk_succ cd_175_19, xpk_succ cd_175_22, xpk_succ cd_175_25, xpk_succ cd_175_26, xpk_succ cd_175_29, xpk_succ cd_175_30, xpk_succ cd_175_33, xpk_succ cd_175_34, xpk_succ cd_175_35, xpk_succ cd_175_38, xpk_succ cd_175_39, xpk_succ cd_175_42, xpk_succ cd_175_43, xpk_succ cd_175_46, xpk_succ cd_175_47, xpk_succ cd_175_50, xpk_succ cd_175_51, xpk_succ cd_175_54, Zc_k, (K_0 hJ), (K_1 hJ), (K_2 hJ), (K_5 hJ), (K_6 hJ), (K_9 hJ), (K_10 hJ), (K_21 hJ), (K_58 hJ), (Zp_0_0 hJ), (Zp_0_2 hJ), (Zp_0_3 hJ), (Zp_0_4 hJ), (Zp_1_0 hJ), (Zp_1_4 hJ), (Zp_1_6 hJ), (Zp_1_13 hJ), (Zp_1_14 hJ), r3, e, Zc_s0, Zc_s1]
  · have r3 : hV (Zc h T1 T2 W f rw_ s) 1 3 = vI (J : Int) := (Zc_n (by decide) (by decide) (by decide) rfl).trans vr
    have e : ∀ Q : Option AV → AH → Prop, XC (d + 2) 173 [vR 0, vI (J : Int)] (Zc h T1 T2 W f rw_ s) Q = Q (some (vI 1)) (Zc h T1 T2 W f rw_ s) := fun Q => by
      rw [E_iTx hJ vn bn Q, if_pos (by omega)]
    have bj : (0 : Int) ≤ (J : Int) ∧ (J : Int) < 4 := by omega
    have rJ : hV (Zc h T1 T2 W f rw_ s) 21 J = vR (22 + 6 * J) := (Zc_n (by decide) (by decide) (by decide) (inG_hi (by decide))).trans (F_21 hJ (by omega))
    refine xpk_sound (stops := []) (n := 50) ?_
    simp only [sk_0, sk_1, sk_2, sk_3, sk_4, sk_5, sk_6, sk_7, sk_8, sk_iadd, sk_isub, sk_imul, sk_iand, sk_ior, sk_ixor, sk_ishl, sk_ishr, sk_iushr, sk_idiv, sk_irem, sk_ineg, sk_ladd, sk_lsub, sk_lmul, sk_land, sk_lor, sk_ldiv, sk_lrem, sk_lneg, sk_lshl, sk_lshr, sk_i2l, sk_l2i, sk_lcmp, sk_dupI, sk_dupR, sk_dup2L, sk_dup2I, sk_popI, sk_ifeq, sk_ifne, sk_iflt, sk_ifge, sk_ifgt, sk_ifle, sk_iceq, sk_icne, sk_iclt, sk_icge, sk_icgt, sk_icle, sk_goto, sk_getf, sk_putf, sk_gets, sk_iald, sk_lald, sk_bald, sk_aald, sk_iast, sk_last, sk_bast, sk_aast, sk_alen, sk_newa, sk_newt, sk_new, sk_cs1, sk_cs2, sk_cs3, sk_cs4, sk_cs5, sk_cs6, sk_cv1, sk_cv2, sk_cv3, sk_cv4, sk_cv5, sk_cv6, sk_ci1, sk_ci2, sk_ci3, sk_ret0, sk_retI, sk_retL, sk_retR, sk_sw, sk_oin, sk_max, sk_min, sk_abs, lI_0, lI_s, lL_0, lL_s, lR_0, lR_s, vIo_e, vLo_e, vOo_e, stW_I, stW_L, stW_R, stW_0, stW_z, okSt_0, okSt_s, hV_eq, hK_eq, okF_0, okF_1, okF_3, is01_0, is01_1, is01_i, Int.toNat_natCast, Int.reduceEq, Int.reduceLE, Int.reduceLT, Int.reduceNeg, Nat.reduceLT, not_true_eq_false, not_false_eq_true, reduceIte, Option.toList, List.cons_append, List.nil_append, List.set_cons_zero, List.set_cons_succ, List.not_mem_nil, List.mem_cons, if_false, if_true, ite_true, ite_false, and_self, and_true, true_and, Nat.reduceAdd, Nat.reduceLeDiff, Nat.reduceEqDiff, Nat.zero_add, Nat.le_refl, Nat.zero_le, or_false, false_or, Int.reduceToNat, or_true, true_or, eq_self, and_false, false_and, inR_d, nc_4, nc_5, nc_6, nc_7, nc_8, nc_16, nc_18, nc_20, nc_24, nc_32, nc_40, nc_64, nc_104, nc_120, nc_160, nc_256, nc_300, nc_330, nc_390, nc_1200, nc_1260, nc_3012, nc_9834, okSt_1i, okSt_1r, okSt_1n, List.length_cons, List.length_nil, xpk_succ cd_175_0, xpk_succ cd_175_1, xpk_succ cd_175_2, xpk_succ cd_175_5, xpk_succ cd_175_8, xpk_succ cd_175_11, xpk_succ cd_175_14, xpk_succ cd_175_15, xpk_succ cd_175_18, xpk_succ cd_175_19, xpk_succ cd_175_22, xpk_succ cd_175_25, xpk_succ cd_175_26, xpk_succ cd_175_29, xpk_succ cd_175_30, xpk_succ cd_175_33, xpk_succ cd_175_34, xpk_succ cd_175_35, xpk_succ cd_175_38, xpk_succ cd_175_39, xpk_succ cd_175_42, xpk_succ cd_175_43, xpk_succ cd_175_46, xpk_succ cd_175_47, xpk_succ cd_175_50, xpk_succ cd_175_51, xpk_succ cd_175_54, Zc_k, (K_0 hJ), (K_1 hJ), (K_2 hJ), (K_5 hJ), (K_6 hJ), (K_9 hJ), (K_10 hJ), (K_21 hJ), (K_58 hJ), (Zp_0_0 hJ), (Zp_0_2 hJ), (Zp_0_3 hJ), (Zp_0_4 hJ), (Zp_1_0 hJ), (Zp_1_4 hJ), (Zp_1_6 hJ), (Zp_1_13 hJ), (Zp_1_14 hJ), r3, e, bj, rJ, Zc_s0, Zc_s1]
/-- keepStep -/
def ksW (W : Nat → Nat → Int) (f : Nat → Int) (m : Nat) : Nat → Nat → Int := upW (upW (svW W f (13 * m)) 1 7 (((m + 1) % 30 : Nat) : Int)) 1 8 (min 30 (W 1 8 + 1))
set_option maxHeartbeats 2000000 in
theorem E_ks {h : AH} {T1 T2 : Nat} {W : Nat → Nat → Int} {f rw_ : Nat → Int} {s : SCR} {d m : Nat} (hJ : k_H JB h) (h7 : W 1 7 = (m : Int)) (hm : m < 30) (h8 : 0 ≤ W 1 8 ∧ W 1 8 ≤ 30) (Q : Option AV → AH → Prop) : XC (d + 2) 111 [vR 1] (Zc h T1 T2 W f rw_ s) Q = Q none (Zc h T1 T2 (ksW W f m) f rw_ s) := by
  refine XC_eq (Nat.le_of_ble_eq_true rfl) ?_ Q
  show XP (d + 1) 111 0 [some (vR 1)] [] (Zc h T1 T2 W f rw_ s) _
  have es : ∀ Q : Option AV → AH → Prop, XC (d + 1) 24 [vR 2, vR 6, vI (m : Int)] (Zc h T1 T2 W f rw_ s) Q = Q none (Zc h T1 T2 (svW W f (13 * m)) f rw_ s) := fun Q => by
    rw [← Zc_sv (x := 13 * m) (by omega)]
    exact E_sav (d := d) (g := Zc h T1 T2 W f rw_ s) (m := m) (f := f) (n := 390) (K_2 (h := h) hJ) (K_6 (h := h) hJ) (by omega) (by decide) (by decide) (fun i h1 h2 => Zc_f h1 (by omega)) Q
  have v7 : hV (Zc h T1 T2 W f rw_ s) 1 7 = vI (m : Int) := (Zc_B (by decide) (by decide) (by decide) rfl).trans (congrArg vI h7)
  have v7b : hV (Zc h T1 T2 (svW W f (13 * m)) f rw_ s) 1 7 = vI (m : Int) := (Zc_B (by decide) (by decide) (by decide) rfl).trans (congrArg vI ((svW_n (by omega)).trans h7))
  obtain ⟨c, hc⟩ : ∃ c, W 1 8 = c := ⟨_, rfl⟩
  rw [hc] at h8
  have v8 : ∀ {x : Int}, hV (Zc h T1 T2 (upW (svW W f (13 * m)) 1 7 x) f rw_ s) 1 8 = vI c := fun {x} => (Zc_B (by decide) (by decide) (by decide) rfl).trans (congrArg vI ((upW_ne (by omega)).trans ((svW_n (by omega)).trans hc)))
  have w1 : WE ((m : Int) + 1) ((m : Int) + 1) := by unfold WE w32; omega
  have tm : Int.tmod ((m : Int) + 1) 30 = (((m + 1) % 30 : Nat) : Int) := by rw [Int.tmod_eq_emod_of_nonneg (by omega)]; omega
  have w2 : WE (c + 1) (c + 1) := by unfold WE w32; omega
  unfold ksW
  rw [hc]
  refine xpk_sound (stops := []) (n := 50) ?_
  simp only [sk_0, sk_1, sk_2, sk_3, sk_4, sk_5, sk_6, sk_7, sk_8, sk_iadd, sk_isub, sk_imul, sk_iand, sk_ior, sk_ixor, sk_ishl, sk_ishr, sk_iushr, sk_idiv, sk_irem, sk_ineg, sk_ladd, sk_lsub, sk_lmul, sk_land, sk_lor, sk_ldiv, sk_lrem, sk_lneg, sk_lshl, sk_lshr, sk_i2l, sk_l2i, sk_lcmp, sk_dupI, sk_dupR, sk_dup2L, sk_dup2I, sk_popI, sk_ifeq, sk_ifne, sk_iflt, sk_ifge, sk_ifgt, sk_ifle, sk_iceq, sk_icne, sk_iclt, sk_icge, sk_icgt, sk_icle, sk_goto, sk_getf, sk_putf, sk_gets, sk_iald, sk_lald, sk_bald, sk_aald, sk_iast, sk_last, sk_bast, sk_aast, sk_alen, sk_newa, sk_newt, sk_new, sk_cs1, sk_cs2, sk_cs3, sk_cs4, sk_cs5, sk_cs6, sk_cv1, sk_cv2, sk_cv3, sk_cv4, sk_cv5, sk_cv6, sk_ci1, sk_ci2, sk_ci3, sk_ret0, sk_retI, sk_retL, sk_retR, sk_sw, sk_oin, sk_max, sk_min, sk_abs, lI_0, lI_s, lL_0, lL_s, lR_0, lR_s, vIo_e, vLo_e, vOo_e, stW_I, stW_L, stW_R, stW_0, stW_z, okSt_0, okSt_s, hV_eq, hK_eq, okF_0, okF_1, okF_3, is01_0, is01_1, is01_i, Int.toNat_natCast, Int.reduceEq, Int.reduceLE, Int.reduceLT, Int.reduceNeg, Nat.reduceLT, not_true_eq_false, not_false_eq_true, reduceIte, Option.toList, List.cons_append, List.nil_append, List.set_cons_zero, List.set_cons_succ, List.not_mem_nil, List.mem_cons, if_false, if_true, ite_true, ite_false, and_self, and_true, true_and, Nat.reduceAdd, Nat.reduceLeDiff, Nat.reduceEqDiff, Nat.zero_add, Nat.le_refl, Nat.zero_le, or_false, false_or, Int.reduceToNat, or_true, true_or, eq_self, and_false, false_and, inR_d, nc_4, nc_5, nc_6, nc_7, nc_8, nc_16, nc_18, nc_20, nc_24, nc_32, nc_40, nc_64, nc_104, nc_120, nc_160, nc_256, nc_300, nc_330, nc_390, nc_1200, nc_1260, nc_3012, nc_9834, okSt_1i, okSt_1r, okSt_1n, List.length_cons, List.length_nil, xpk_succ cd_111_0, xpk_succ cd_111_1, xpk_succ cd_111_4, xpk_succ cd_111_5, xpk_succ cd_111_8, xpk_succ cd_111_9, xpk_succ cd_111_12, xpk_succ cd_111_15, xpk_succ cd_111_16, xpk_succ cd_111_17, xpk_succ cd_111_20, xpk_succ cd_111_21, xpk_succ cd_111_22, xpk_succ cd_111_24, xpk_succ cd_111_25, xpk_succ cd_111_28, xpk_succ cd_111_29, xpk_succ cd_111_31, xpk_succ cd_111_32, xpk_succ cd_111_35, xpk_succ cd_111_36, xpk_succ cd_111_37, xpk_succ cd_111_40, xpk_succ cd_111_43, Zc_k, (K_0 hJ), (K_1 hJ), (K_2 hJ), (K_5 hJ), (K_6 hJ), (K_9 hJ), (K_10 hJ), (K_21 hJ), (K_58 hJ), (Zp_0_0 hJ), (Zp_0_2 hJ), (Zp_0_3 hJ), (Zp_0_4 hJ), (Zp_1_0 hJ), (Zp_1_4 hJ), (Zp_1_6 hJ), (Zp_1_13 hJ), (Zp_1_14 hJ), es, v7, v7b, v8, (WE_e w1), (WE_e w2), tm, (Zc_sB (k := 1) (i := 7) (by decide) (by decide) (by decide) rfl), (Zc_sB (k := 1) (i := 8) (by decide) (by decide) (by decide) rfl)]
