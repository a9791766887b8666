/-! dayEnds: the class -/
def dD2 (cw ct : AW) : List (Option AC) := [some (11, 24, [], some xT),
  some (11, 120, [], some xT),
  some (6, 0, [xR 41, xR 42, xR 43, xR 44, xR 45, xI 0, xI 0], none),
  some (11, 300, [], some xT),
  some (11, 5, [xI (-1), xI (-1), xI (-1), xI (-1), xI (-1)], some xT),
  some (11, 5, [xI (-1), xI (-1), xI (-1), xI (-1), xI (-1)], some xT),
  some (11, 24, [], some xT),
  some (11, 120, [], some xT),
  some (6, 0, [xR 47, xR 48, xR 49, xR 50, xR 51, xI 0, xI 0], none),
  some (11, 300, [], some xT),
  some (11, 5, [xI (-1), xI (-1), xI (-1), xI (-1), xI (-1)], some xT),
  some (11, 5, [xI (-1), xI (-1), xI (-1), xI (-1), xI (-1)], some xT),
  some (11, 24, [], some xT),
  some (11, 120, [], some xT),
  some (0, 0, [xR 53, xI 0, xI 0, xI 0, xI 0, xI 5, xI 0, cw, xI 0, ct, xI 59, xI (-1), xI 0, xI 0, xI 1], none),
  some (1, 0, [xR 54, xI 32], none),
  some (12, 32, [], none),
  some (0, 0, [xR 56, xI 0, xI 0, xI 0, xI 0, xI 5, xI 0, xI 0, xI 0, xI 0, xI 59, xI (-1), xI 0, xI 0, xI 0], none),
  some (1, 0, [xR 57, xI 32], none)]
def dDs (cw ct : AW) : List (List (Option AC)) := [bcC0, [], dD2 cw ct, bcC3, bcM]
def dLs (n w k : AW) : List (Option AW) := [some (xR 0), some n, some (.inr (0, 9999)), some (xR 58), some w, some k]
def dKS (n : AW) (w k : Int) (ls : List (Option AW)) (st : List AW) (b : BH) : Bool := (decide (ls = dLs n (xI w) (xI k)) && decide (st = [])) && (eqO (b.1.getD 0 []) bcC0 && (eqO (b.1.getD 2 []) (dD2 (xI w) (xI k)) && (eqO (b.1.getD 3 []) bcC3 && (eqO (b.1.getD 4 []) bcM && eqZ b.2 (bx bxT)))))
noncomputable def dA (w : Int) (k : Nat) : Bool := achF nt2 1000000 73 (dKS (.inr ((k : Int) + 1, 200)) w ((k + 1 : Nat) : Int)) 999 152 73 (dLs (.inr ((k : Int) + 1, 200)) (xI w) (xI (k : Int))) [] (dDs (xI w) (xI (k : Int)), bx bxT) (fun _ _ => false)
noncomputable def dE (w : Int) : Bool := achF nt2 1000000 73 (fun ls st b => !eqI w 9 && dKS (.inr (1, 200)) (w + 1) 0 ls st b) 999 152 108 (dLs (.inr (1, 200)) (xI w) (.inr (0, 200))) [] (dDs (xI w) (.inr (0, 200)), bx bxT) (fun r b => (eqI w 9 && decide (r = some (xI (-1)))) && (eqO (b.1.getD 4 []) bcM && eqZ b.2 (bx bxT)))
noncomputable def dW (w : Int) : Bool := (List.range' 0 201).all (fun k => leO (dD2 (xI w) (xI (k : Int))) (dD2 (xI w) (.inr (0, 200))))
theorem dB_ck : achF nt2 1000000 73 (dKS (.inr (1, 200)) 1 0) 999 152 0 [some (xR 0), some (.inr (1, 200)), some (.inr (0, 9999)), none, none, none] [] (bG0, bx bxT) (fun _ _ => false) = true := by decide +kernel
theorem dE_ck : [1, 2, 3, 4, 5, 6, 7, 8, 9].all dE = true := by decide +kernel
theorem dW_ck : [1, 2, 3, 4, 5, 6, 7, 8, 9].all dW = true := by decide +kernel
theorem dE_nine (w : Int) (w1 : 1 ≤ w) (w9 : w ≤ 9) : dE w = true := by
  refine List.all_eq_true.mp dE_ck w ?_
  have hw : w = 1 ∨ w = 2 ∨ w = 3 ∨ w = 4 ∨ w = 5 ∨ w = 6 ∨ w = 7 ∨ w = 8 ∨ w = 9 := by omega
  rcases hw with rfl | rfl | rfl | rfl | rfl | rfl | rfl | rfl | rfl
  all_goals decide
theorem dW_nine (w : Int) (w1 : 1 ≤ w) (w9 : w ≤ 9) : dW w = true := by
  refine List.all_eq_true.mp dW_ck w ?_
  have hw : w = 1 ∨ w = 2 ∨ w = 3 ∨ w = 4 ∨ w = 5 ∨ w = 6 ∨ w = 7 ∨ w = 8 ∨ w = 9 := by omega
  rcases hw with rfl | rfl | rfl | rfl | rfl | rfl | rfl | rfl | rfl
  all_goals decide
theorem dA_1_0 : (List.range' 0 100).all (dA 1) = true := by decide +kernel
theorem dA_1_100 : (List.range' 100 100).all (dA 1) = true := by decide +kernel
theorem dA_2_0 : (List.range' 0 100).all (dA 2) = true := by decide +kernel
theorem dA_2_100 : (List.range' 100 100).all (dA 2) = true := by decide +kernel
theorem dA_3_0 : (List.range' 0 100).all (dA 3) = true := by decide +kernel
theorem dA_3_100 : (List.range' 100 100).all (dA 3) = true := by decide +kernel
theorem dA_4_0 : (List.range' 0 100).all (dA 4) = true := by decide +kernel
theorem dA_4_100 : (List.range' 100 100).all (dA 4) = true := by decide +kernel
theorem dA_5_0 : (List.range' 0 100).all (dA 5) = true := by decide +kernel
theorem dA_5_100 : (List.range' 100 100).all (dA 5) = true := by decide +kernel
theorem dA_6_0 : (List.range' 0 100).all (dA 6) = true := by decide +kernel
theorem dA_6_100 : (List.range' 100 100).all (dA 6) = true := by decide +kernel
theorem dA_7_0 : (List.range' 0 100).all (dA 7) = true := by decide +kernel
theorem dA_7_100 : (List.range' 100 100).all (dA 7) = true := by decide +kernel
theorem dA_8_0 : (List.range' 0 100).all (dA 8) = true := by decide +kernel
theorem dA_8_100 : (List.range' 100 100).all (dA 8) = true := by decide +kernel
theorem dA_9_0 : (List.range' 0 100).all (dA 9) = true := by decide +kernel
theorem dA_9_100 : (List.range' 100 100).all (dA 9) = true := by decide +kernel
theorem dA_all (w : Int) (w1 : 1 ≤ w) (w9 : w ≤ 9) (k : Nat) (hk : k < 200) : dA w k = true := by
  have hw : w = 1 ∨ w = 2 ∨ w = 3 ∨ w = 4 ∨ w = 5 ∨ w = 6 ∨ w = 7 ∨ w = 8 ∨ w = 9 := by omega
  rcases hw with rfl | rfl | rfl | rfl | rfl | rfl | rfl | rfl | rfl
  · by_cases y : k < 100
    · exact List.all_eq_true.mp dA_1_0 k (List.mem_range'_1.mpr ⟨by omega, by omega⟩)
    · exact List.all_eq_true.mp dA_1_100 k (List.mem_range'_1.mpr ⟨by omega, by omega⟩)
  · by_cases y : k < 100
    · exact List.all_eq_true.mp dA_2_0 k (List.mem_range'_1.mpr ⟨by omega, by omega⟩)
    · exact List.all_eq_true.mp dA_2_100 k (List.mem_range'_1.mpr ⟨by omega, by omega⟩)
  · by_cases y : k < 100
    · exact List.all_eq_true.mp dA_3_0 k (List.mem_range'_1.mpr ⟨by omega, by omega⟩)
    · exact List.all_eq_true.mp dA_3_100 k (List.mem_range'_1.mpr ⟨by omega, by omega⟩)
  · by_cases y : k < 100
    · exact List.all_eq_true.mp dA_4_0 k (List.mem_range'_1.mpr ⟨by omega, by omega⟩)
    · exact List.all_eq_true.mp dA_4_100 k (List.mem_range'_1.mpr ⟨by omega, by omega⟩)
  · by_cases y : k < 100
    · exact List.all_eq_true.mp dA_5_0 k (List.mem_range'_1.mpr ⟨by omega, by omega⟩)
    · exact List.all_eq_true.mp dA_5_100 k (List.mem_range'_1.mpr ⟨by omega, by omega⟩)
  · by_cases y : k < 100
    · exact List.all_eq_true.mp dA_6_0 k (List.mem_range'_1.mpr ⟨by omega, by omega⟩)
    · exact List.all_eq_true.mp dA_6_100 k (List.mem_range'_1.mpr ⟨by omega, by omega⟩)
  · by_cases y : k < 100
    · exact List.all_eq_true.mp dA_7_0 k (List.mem_range'_1.mpr ⟨by omega, by omega⟩)
    · exact List.all_eq_true.mp dA_7_100 k (List.mem_range'_1.mpr ⟨by omega, by omega⟩)
  · by_cases y : k < 100
    · exact List.all_eq_true.mp dA_8_0 k (List.mem_range'_1.mpr ⟨by omega, by omega⟩)
    · exact List.all_eq_true.mp dA_8_100 k (List.mem_range'_1.mpr ⟨by omega, by omega⟩)
  · by_cases y : k < 100
    · exact List.all_eq_true.mp dA_9_0 k (List.mem_range'_1.mpr ⟨by omega, by omega⟩)
    · exact List.all_eq_true.mp dA_9_100 k (List.mem_range'_1.mpr ⟨by omega, by omega⟩)
