/-! dayEnds: the reference's isTooMuch -/
def qDM (cw ct : AW) : List (Option AC) := [some (10, 0, [xR 77, xR 78, xR 79, xR 80, xI 0, xI (-1), xI (-1), xI 0, xI 0, xI 0, xI 0, xL 0, xI 0, xI 0, xI 0, xR 81, xI 0, xI 0, xI 0, xI 0, xR 82, xT, xT, xR 83, xR 84, xI 1, xR 85, xI 0, xI 0, xR 86, xR 87, xR 88, xR 89, xR 90, xI 0, xR 91, xR 92], none),
  some (11, 9834, [xI 0, xI 2, xI 59, xI 0, xI (-1), xI 0, xI 0, xI 0, xI 0, xI 0, xI 0, xI 0, xI 5, xI 0, cw, xI 0, ct, xI (-1), xI 0], some xT),
  some (11, 9834, [xI 0, xI 2, xI 59, xI 0, xI (-1), xI 0, xI 0, xI 0, xI 0, xI 0, xI 0, xI 0, xI 5, xI 0, xI 0, xI 0, xI 0, xI (-1), xI 0], some xT),
  some (11, 3012, [], some xT),
  some (11, 300, [], some xT),
  some (11, 160, [], some xT),
  some (11, 8, [xT, xT, xT, xT, xT, xT, xT, xT], some xT),
  some (12, 330, [], none),
  some (13, 330, [], none),
  some (11, 18, [xI 0, xI 2, xI 59, xI 0, xI (-1), xI 0, xI 0, xI 0, xI 0, xI 0, xI 0, xI 0, xI 5, xI 0, xI 0, xI 0, xI 0, xI (-1)], some xT),
  some (11, 1200, [], some xT),
  some (11, 8, [], some xT),
  some (11, 8, [], some xT),
  some (11, 8, [], some xT),
  some (11, 8, [], some xT),
  some (11, 8, [], some xT),
  some (11, 8, [], some xT)]
def qDs (cw ct : AW) : List (List (Option AC)) := [[], [], [], [], qDM cw ct]
def qLs (n w k : AW) : List (Option AW) := [some (xR 76), some w, some n, some (.inr (0, 9999)), some (xI 0), some k]
noncomputable def qKS (n : AW) (w k : Int) (ls : List (Option AW)) (st : List AW) (b : BH) : Bool := (decide (ls = qLs n (xI w) (xI k)) && decide (st = [])) && (leO (b.1.getD 4 []) (qDM (xI w) (xI k)) && eqZ b.2 (bx bxT))
noncomputable def qA (w : Int) (k : Nat) : Bool := achF nt2 1000000 23 (qKS (.inr ((k : Int) + 1, 200)) w ((k + 1 : Nat) : Int)) 998 287 23 (qLs (.inr ((k : Int) + 1, 200)) (xI w) (xI (k : Int))) [] (qDs (xI w) (xI (k : Int)), bx bxT) (fun _ _ => false)
noncomputable def qB (w : Int) : Bool := achF nt2 1000000 23 (qKS (.inr (1, 200)) w 0) 998 287 0 [some (xR 76), some (xI w), some (.inr (1, 200)), some (.inr (0, 9999)), none, none] [] (bWs, bx bxT) (fun _ _ => false)
noncomputable def qE (w : Int) : Bool := achF nt2 1000000 1000000 nSt 998 287 63 (qLs (.inr (1, 200)) (xI w) (.inr (0, 200))) [] (qDs (xI w) (.inr (0, 200)), bx bxT) (fun r b => decide (r = some (xI 0)) && (leO (b.1.getD 4 []) bWM && eqZ b.2 (bx bxT)))
noncomputable def qW (w : Int) : Bool := (List.range' 0 201).all (fun k => leO (qDM (xI w) (xI (k : Int))) (qDM (xI w) (.inr (0, 200))))
theorem qB_ck : [1, 2, 3, 4, 5, 6, 7, 8, 9].all qB = true := by decide +kernel
theorem qE_ck : [1, 2, 3, 4, 5, 6, 7, 8, 9].all qE = true := by decide +kernel
theorem qW_ck : [1, 2, 3, 4, 5, 6, 7, 8, 9].all qW = true := by decide +kernel
theorem qB_nine (w : Int) (w1 : 1 ≤ w) (w9 : w ≤ 9) : qB w = true := by
  refine List.all_eq_true.mp qB_ck w ?_
  have hw : w = 1 ∨ w = 2 ∨ w = 3 ∨ w = 4 ∨ w = 5 ∨ w = 6 ∨ w = 7 ∨ w = 8 ∨ w = 9 := by omega
  rcases hw with rfl | rfl | rfl | rfl | rfl | rfl | rfl | rfl | rfl
  all_goals decide
theorem qE_nine (w : Int) (w1 : 1 ≤ w) (w9 : w ≤ 9) : qE w = true := by
  refine List.all_eq_true.mp qE_ck w ?_
  have hw : w = 1 ∨ w = 2 ∨ w = 3 ∨ w = 4 ∨ w = 5 ∨ w = 6 ∨ w = 7 ∨ w = 8 ∨ w = 9 := by omega
  rcases hw with rfl | rfl | rfl | rfl | rfl | rfl | rfl | rfl | rfl
  all_goals decide
theorem qW_nine (w : Int) (w1 : 1 ≤ w) (w9 : w ≤ 9) : qW w = true := by
  refine List.all_eq_true.mp qW_ck w ?_
  have hw : w = 1 ∨ w = 2 ∨ w = 3 ∨ w = 4 ∨ w = 5 ∨ w = 6 ∨ w = 7 ∨ w = 8 ∨ w = 9 := by omega
  rcases hw with rfl | rfl | rfl | rfl | rfl | rfl | rfl | rfl | rfl
  all_goals decide
theorem qA_1_0 : (List.range' 0 100).all (qA 1) = true := by decide +kernel
theorem qA_1_100 : (List.range' 100 100).all (qA 1) = true := by decide +kernel
theorem qA_2_0 : (List.range' 0 100).all (qA 2) = true := by decide +kernel
theorem qA_2_100 : (List.range' 100 100).all (qA 2) = true := by decide +kernel
theorem qA_3_0 : (List.range' 0 100).all (qA 3) = true := by decide +kernel
theorem qA_3_100 : (List.range' 100 100).all (qA 3) = true := by decide +kernel
theorem qA_4_0 : (List.range' 0 100).all (qA 4) = true := by decide +kernel
theorem qA_4_100 : (List.range' 100 100).all (qA 4) = true := by decide +kernel
theorem qA_5_0 : (List.range' 0 100).all (qA 5) = true := by decide +kernel
theorem qA_5_100 : (List.range' 100 100).all (qA 5) = true := by decide +kernel
theorem qA_6_0 : (List.range' 0 100).all (qA 6) = true := by decide +kernel
theorem qA_6_100 : (List.range' 100 100).all (qA 6) = true := by decide +kernel
theorem qA_7_0 : (List.range' 0 100).all (qA 7) = true := by decide +kernel
theorem qA_7_100 : (List.range' 100 100).all (qA 7) = true := by decide +kernel
theorem qA_8_0 : (List.range' 0 100).all (qA 8) = true := by decide +kernel
theorem qA_8_100 : (List.range' 100 100).all (qA 8) = true := by decide +kernel
theorem qA_9_0 : (List.range' 0 100).all (qA 9) = true := by decide +kernel
theorem qA_9_100 : (List.range' 100 100).all (qA 9) = true := by decide +kernel
theorem qA_all (w : Int) (w1 : 1 ≤ w) (w9 : w ≤ 9) (k : Nat) (hk : k < 200) : qA w k = true := by
  have hw : w = 1 ∨ w = 2 ∨ w = 3 ∨ w = 4 ∨ w = 5 ∨ w = 6 ∨ w = 7 ∨ w = 8 ∨ w = 9 := by omega
  rcases hw with rfl | rfl | rfl | rfl | rfl | rfl | rfl | rfl | rfl
  · by_cases y : k < 100
    · exact List.all_eq_true.mp qA_1_0 k (List.mem_range'_1.mpr ⟨by omega, by omega⟩)
    · exact List.all_eq_true.mp qA_1_100 k (List.mem_range'_1.mpr ⟨by omega, by omega⟩)
  · by_cases y : k < 100
    · exact List.all_eq_true.mp qA_2_0 k (List.mem_range'_1.mpr ⟨by omega, by omega⟩)
    · exact List.all_eq_true.mp qA_2_100 k (List.mem_range'_1.mpr ⟨by omega, by omega⟩)
  · by_cases y : k < 100
    · exact List.all_eq_true.mp qA_3_0 k (List.mem_range'_1.mpr ⟨by omega, by omega⟩)
    · exact List.all_eq_true.mp qA_3_100 k (List.mem_range'_1.mpr ⟨by omega, by omega⟩)
  · by_cases y : k < 100
    · exact List.all_eq_true.mp qA_4_0 k (List.mem_range'_1.mpr ⟨by omega, by omega⟩)
    · exact List.all_eq_true.mp qA_4_100 k (List.mem_range'_1.mpr ⟨by omega, by omega⟩)
  · by_cases y : k < 100
    · exact List.all_eq_true.mp qA_5_0 k (List.mem_range'_1.mpr ⟨by omega, by omega⟩)
    · exact List.all_eq_true.mp qA_5_100 k (List.mem_range'_1.mpr ⟨by omega, by omega⟩)
  · by_cases y : k < 100
    · exact List.all_eq_true.mp qA_6_0 k (List.mem_range'_1.mpr ⟨by omega, by omega⟩)
    · exact List.all_eq_true.mp qA_6_100 k (List.mem_range'_1.mpr ⟨by omega, by omega⟩)
  · by_cases y : k < 100
    · exact List.all_eq_true.mp qA_7_0 k (List.mem_range'_1.mpr ⟨by omega, by omega⟩)
    · exact List.all_eq_true.mp qA_7_100 k (List.mem_range'_1.mpr ⟨by omega, by omega⟩)
  · by_cases y : k < 100
    · exact List.all_eq_true.mp qA_8_0 k (List.mem_range'_1.mpr ⟨by omega, by omega⟩)
    · exact List.all_eq_true.mp qA_8_100 k (List.mem_range'_1.mpr ⟨by omega, by omega⟩)
  · by_cases y : k < 100
    · exact List.all_eq_true.mp qA_9_0 k (List.mem_range'_1.mpr ⟨by omega, by omega⟩)
    · exact List.all_eq_true.mp qA_9_100 k (List.mem_range'_1.mpr ⟨by omega, by omega⟩)
