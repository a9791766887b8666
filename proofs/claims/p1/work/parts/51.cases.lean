def cs_0 : List (List AW × AW) := [([xT, .inr (-2147483648, 0), xT, xT, xT, xT], xI (-1)),
  ([xT, .inr (1, 99), .inr (-2147483648, -1), xT, xT, xT], xI (-1)),
  ([xT, .inr (1, 99), .inr (0, 60), .inr (-2147483648, -1), xT, xT], xI (-1)),
  ([xT, .inr (1, 99), .inr (0, 60), .inr (0, 999), .inr (-2147483648, -1), xT], xI (-1)),
  ([xT, .inr (1, 99), .inr (0, 60), .inr (0, 999), .inr (0, 9), .inr (-2147483648, -1)], xI (-1)),
  ([xT, .inr (1, 99), .inr (0, 60), .inr (0, 999), .inr (0, 9), .inr (0, 1)], xI 0),
  ([xT, .inr (1, 99), .inr (0, 60), .inr (0, 999), .inr (0, 9), .inr (2, 2147483647)], xI (-1)),
  ([xT, .inr (1, 99), .inr (0, 60), .inr (0, 999), .inr (10, 2147483647), xT], xI (-1)),
  ([xT, .inr (1, 99), .inr (0, 60), .inr (1000, 2147483647), xT, xT], xI (-1)),
  ([xT, .inr (1, 99), .inr (61, 2147483647), xT, xT, xT], xI (-1)),
  ([xT, .inr (100, 2147483647), xT, xT, xT, xT], xI (-1))]
theorem ck_0 : cb_L nt1 228 257 cs_0 = true := by decide +kernel
set_option maxHeartbeats 4000000 in
theorem case_0 {xs : Nat → Int} {h : AH} (hf : FR 6 xs h) (q0 : -2147483648 ≤ xs 0 ∧ xs 0 ≤ 2147483647) (q1 : -2147483648 ≤ xs 1 ∧ xs 1 ≤ 2147483647) (q2 : -2147483648 ≤ xs 2 ∧ xs 2 ≤ 2147483647) (q3 : -2147483648 ≤ xs 3 ∧ xs 3 ≤ 2147483647) (q4 : -2147483648 ≤ xs 4 ∧ xs 4 ≤ 2147483647) (q5 : -2147483648 ≤ xs 5 ∧ xs 5 ≤ 2147483647) : XP 1000 321 228 lsc [] h lwQ := by
  by_cases z1_0 : xs 1 ≤ 0
  · skip
    exact leaf2 nt1_s ck_0 hf 0 rfl (ab_rg (by omega) (by omega)) (ab_rg (by omega) (by omega)) (ab_rg (by omega) (by omega)) (ab_rg (by omega) (by omega)) (ab_rg (by omega) (by omega)) (ab_rg (by omega) (by omega))
  by_cases z1_1 : xs 1 ≤ 99
  · skip
    by_cases z2_0 : xs 2 ≤ -1
    · skip
      exact leaf2 nt1_s ck_0 hf 1 rfl (ab_rg (by omega) (by omega)) (ab_rg (by omega) (by omega)) (ab_rg (by omega) (by omega)) (ab_rg (by omega) (by omega)) (ab_rg (by omega) (by omega)) (ab_rg (by omega) (by omega))
    by_cases z2_1 : xs 2 ≤ 60
    · skip
      by_cases z3_0 : xs 3 ≤ -1
      · skip
        exact leaf2 nt1_s ck_0 hf 2 rfl (ab_rg (by omega) (by omega)) (ab_rg (by omega) (by omega)) (ab_rg (by omega) (by omega)) (ab_rg (by omega) (by omega)) (ab_rg (by omega) (by omega)) (ab_rg (by omega) (by omega))
      by_cases z3_1 : xs 3 ≤ 999
      · skip
        by_cases z4_0 : xs 4 ≤ -1
        · skip
          exact leaf2 nt1_s ck_0 hf 3 rfl (ab_rg (by omega) (by omega)) (ab_rg (by omega) (by omega)) (ab_rg (by omega) (by omega)) (ab_rg (by omega) (by omega)) (ab_rg (by omega) (by omega)) (ab_rg (by omega) (by omega))
        by_cases z4_1 : xs 4 ≤ 9
        · skip
          by_cases z5_0 : xs 5 ≤ -1
          · skip
            exact leaf2 nt1_s ck_0 hf 4 rfl (ab_rg (by omega) (by omega)) (ab_rg (by omega) (by omega)) (ab_rg (by omega) (by omega)) (ab_rg (by omega) (by omega)) (ab_rg (by omega) (by omega)) (ab_rg (by omega) (by omega))
          by_cases z5_1 : xs 5 ≤ 1
          · skip
            exact leaf2 nt1_s ck_0 hf 5 rfl (ab_rg (by omega) (by omega)) (ab_rg (by omega) (by omega)) (ab_rg (by omega) (by omega)) (ab_rg (by omega) (by omega)) (ab_rg (by omega) (by omega)) (ab_rg (by omega) (by omega))
          exact leaf2 nt1_s ck_0 hf 6 rfl (ab_rg (by omega) (by omega)) (ab_rg (by omega) (by omega)) (ab_rg (by omega) (by omega)) (ab_rg (by omega) (by omega)) (ab_rg (by omega) (by omega)) (ab_rg (by omega) (by omega))
        exact leaf2 nt1_s ck_0 hf 7 rfl (ab_rg (by omega) (by omega)) (ab_rg (by omega) (by omega)) (ab_rg (by omega) (by omega)) (ab_rg (by omega) (by omega)) (ab_rg (by omega) (by omega)) (ab_rg (by omega) (by omega))
      exact leaf2 nt1_s ck_0 hf 8 rfl (ab_rg (by omega) (by omega)) (ab_rg (by omega) (by omega)) (ab_rg (by omega) (by omega)) (ab_rg (by omega) (by omega)) (ab_rg (by omega) (by omega)) (ab_rg (by omega) (by omega))
    exact leaf2 nt1_s ck_0 hf 9 rfl (ab_rg (by omega) (by omega)) (ab_rg (by omega) (by omega)) (ab_rg (by omega) (by omega)) (ab_rg (by omega) (by omega)) (ab_rg (by omega) (by omega)) (ab_rg (by omega) (by omega))
  exact leaf2 nt1_s ck_0 hf 10 rfl (ab_rg (by omega) (by omega)) (ab_rg (by omega) (by omega)) (ab_rg (by omega) (by omega)) (ab_rg (by omega) (by omega)) (ab_rg (by omega) (by omega)) (ab_rg (by omega) (by omega))
def cs_1 : List (List AW × AW) := [([xT, .inr (-2147483648, -1), xT, xT, xT, xT], xI 0),
  ([xT, .inr (0, 99), xT, xT, xT, xT], xI 1),
  ([xT, .inr (100, 2147483647), xT, xT, xT, xT], xI 0)]
theorem ck_1 : cb_L nt1 291 300 cs_1 = true := by decide +kernel
set_option maxHeartbeats 4000000 in
theorem case_1 {xs : Nat → Int} {h : AH} (hf : FR 6 xs h) (q0 : -2147483648 ≤ xs 0 ∧ xs 0 ≤ 2147483647) (q1 : -2147483648 ≤ xs 1 ∧ xs 1 ≤ 2147483647) (q2 : -2147483648 ≤ xs 2 ∧ xs 2 ≤ 2147483647) (q3 : -2147483648 ≤ xs 3 ∧ xs 3 ≤ 2147483647) (q4 : -2147483648 ≤ xs 4 ∧ xs 4 ≤ 2147483647) (q5 : -2147483648 ≤ xs 5 ∧ xs 5 ≤ 2147483647) : XP 1000 321 291 lsc [] h lwQ := by
  by_cases z1_0 : xs 1 ≤ -1
  · skip
    exact leaf2 nt1_s ck_1 hf 0 rfl (ab_rg (by omega) (by omega)) (ab_rg (by omega) (by omega)) (ab_rg (by omega) (by omega)) (ab_rg (by omega) (by omega)) (ab_rg (by omega) (by omega)) (ab_rg (by omega) (by omega))
  by_cases z1_1 : xs 1 ≤ 99
  · skip
    exact leaf2 nt1_s ck_1 hf 1 rfl (ab_rg (by omega) (by omega)) (ab_rg (by omega) (by omega)) (ab_rg (by omega) (by omega)) (ab_rg (by omega) (by omega)) (ab_rg (by omega) (by omega)) (ab_rg (by omega) (by omega))
  exact leaf2 nt1_s ck_1 hf 2 rfl (ab_rg (by omega) (by omega)) (ab_rg (by omega) (by omega)) (ab_rg (by omega) (by omega)) (ab_rg (by omega) (by omega)) (ab_rg (by omega) (by omega)) (ab_rg (by omega) (by omega))
def cs_2 : List (List AW × AW) := [([xT, xT, xT, xT, xT, xT], xI 20)]
theorem ck_2 : cb_L nt1 314 343 cs_2 = true := by decide +kernel
set_option maxHeartbeats 4000000 in
theorem case_2 {xs : Nat → Int} {h : AH} (hf : FR 6 xs h) (q0 : -2147483648 ≤ xs 0 ∧ xs 0 ≤ 2147483647) (q1 : -2147483648 ≤ xs 1 ∧ xs 1 ≤ 2147483647) (q2 : -2147483648 ≤ xs 2 ∧ xs 2 ≤ 2147483647) (q3 : -2147483648 ≤ xs 3 ∧ xs 3 ≤ 2147483647) (q4 : -2147483648 ≤ xs 4 ∧ xs 4 ≤ 2147483647) (q5 : -2147483648 ≤ xs 5 ∧ xs 5 ≤ 2147483647) : XP 1000 321 314 lsc [] h lwQ := by
  exact leaf2 nt1_s ck_2 hf 0 rfl (ab_rg (by omega) (by omega)) (ab_rg (by omega) (by omega)) (ab_rg (by omega) (by omega)) (ab_rg (by omega) (by omega)) (ab_rg (by omega) (by omega)) (ab_rg (by omega) (by omega))
def cs_3 : List (List AW × AW) := [([xT, .inr (-2147483648, -1), xT, xT, xT, xT], xI (-1)),
  ([xT, xI 0, xT, xT, xT, xT], xI 0),
  ([xT, .inr (1, 2147483647), xT, xT, xT, xT], xI (-1))]
theorem ck_3 : cb_L nt1 377 386 cs_3 = true := by decide +kernel
set_option maxHeartbeats 4000000 in
theorem case_3 {xs : Nat → Int} {h : AH} (hf : FR 6 xs h) (q0 : -2147483648 ≤ xs 0 ∧ xs 0 ≤ 2147483647) (q1 : -2147483648 ≤ xs 1 ∧ xs 1 ≤ 2147483647) (q2 : -2147483648 ≤ xs 2 ∧ xs 2 ≤ 2147483647) (q3 : -2147483648 ≤ xs 3 ∧ xs 3 ≤ 2147483647) (q4 : -2147483648 ≤ xs 4 ∧ xs 4 ≤ 2147483647) (q5 : -2147483648 ≤ xs 5 ∧ xs 5 ≤ 2147483647) : XP 1000 321 377 lsc [] h lwQ := by
  by_cases z1_0 : xs 1 ≤ -1
  · skip
    exact leaf2 nt1_s ck_3 hf 0 rfl (ab_rg (by omega) (by omega)) (ab_rg (by omega) (by omega)) (ab_rg (by omega) (by omega)) (ab_rg (by omega) (by omega)) (ab_rg (by omega) (by omega)) (ab_rg (by omega) (by omega))
  by_cases z1_1 : xs 1 ≤ 0
  · skip
    exact leaf2 nt1_s ck_3 hf 1 rfl (ab_rg (by omega) (by omega)) (ab_ex (by omega)) (ab_rg (by omega) (by omega)) (ab_rg (by omega) (by omega)) (ab_rg (by omega) (by omega)) (ab_rg (by omega) (by omega))
  exact leaf2 nt1_s ck_3 hf 2 rfl (ab_rg (by omega) (by omega)) (ab_rg (by omega) (by omega)) (ab_rg (by omega) (by omega)) (ab_rg (by omega) (by omega)) (ab_rg (by omega) (by omega)) (ab_rg (by omega) (by omega))
def cs_5 : List (List AW × AW) := [([xT, xT, xT, xT, xT, xT], xI (-1))]
theorem ck_5 : cb_L nt1 413 422 cs_5 = true := by decide +kernel
set_option maxHeartbeats 4000000 in
theorem case_5 {xs : Nat → Int} {h : AH} (hf : FR 6 xs h) (q0 : -2147483648 ≤ xs 0 ∧ xs 0 ≤ 2147483647) (q1 : -2147483648 ≤ xs 1 ∧ xs 1 ≤ 2147483647) (q2 : -2147483648 ≤ xs 2 ∧ xs 2 ≤ 2147483647) (q3 : -2147483648 ≤ xs 3 ∧ xs 3 ≤ 2147483647) (q4 : -2147483648 ≤ xs 4 ∧ xs 4 ≤ 2147483647) (q5 : -2147483648 ≤ xs 5 ∧ xs 5 ≤ 2147483647) : XP 1000 321 413 lsc [] h lwQ := by
  exact leaf2 nt1_s ck_5 hf 0 rfl (ab_rg (by omega) (by omega)) (ab_rg (by omega) (by omega)) (ab_rg (by omega) (by omega)) (ab_rg (by omega) (by omega)) (ab_rg (by omega) (by omega)) (ab_rg (by omega) (by omega))
def cs_6 : List (List AW × AW) := [([xT, .inr (-2147483648, -2), xT, xT, xT, xT], xI 0),
  ([xT, xI (-1), xT, xT, xT, xT], xI 1),
  ([xT, .inr (0, 2147483647), xT, xT, xT, xT], xI 0)]
theorem ck_6 : cb_L nt1 436 445 cs_6 = true := by decide +kernel
set_option maxHeartbeats 4000000 in
theorem case_6 {xs : Nat → Int} {h : AH} (hf : FR 6 xs h) (q0 : -2147483648 ≤ xs 0 ∧ xs 0 ≤ 2147483647) (q1 : -2147483648 ≤ xs 1 ∧ xs 1 ≤ 2147483647) (q2 : -2147483648 ≤ xs 2 ∧ xs 2 ≤ 2147483647) (q3 : -2147483648 ≤ xs 3 ∧ xs 3 ≤ 2147483647) (q4 : -2147483648 ≤ xs 4 ∧ xs 4 ≤ 2147483647) (q5 : -2147483648 ≤ xs 5 ∧ xs 5 ≤ 2147483647) : XP 1000 321 436 lsc [] h lwQ := by
  by_cases z1_0 : xs 1 ≤ -2
  · skip
    exact leaf2 nt1_s ck_6 hf 0 rfl (ab_rg (by omega) (by omega)) (ab_rg (by omega) (by omega)) (ab_rg (by omega) (by omega)) (ab_rg (by omega) (by omega)) (ab_rg (by omega) (by omega)) (ab_rg (by omega) (by omega))
  by_cases z1_1 : xs 1 ≤ -1
  · skip
    exact leaf2 nt1_s ck_6 hf 1 rfl (ab_rg (by omega) (by omega)) (ab_ex (by omega)) (ab_rg (by omega) (by omega)) (ab_rg (by omega) (by omega)) (ab_rg (by omega) (by omega)) (ab_rg (by omega) (by omega))
  exact leaf2 nt1_s ck_6 hf 2 rfl (ab_rg (by omega) (by omega)) (ab_rg (by omega) (by omega)) (ab_rg (by omega) (by omega)) (ab_rg (by omega) (by omega)) (ab_rg (by omega) (by omega)) (ab_rg (by omega) (by omega))
def cs_12 : List (List AW × AW) := [([xT, xT, xT, xT, xT, xT], xI (-1))]
theorem ck_12 : cb_L nt1 574 578 cs_12 = true := by decide +kernel
set_option maxHeartbeats 4000000 in
theorem case_12 {xs : Nat → Int} {h : AH} (hf : FR 6 xs h) (q0 : -2147483648 ≤ xs 0 ∧ xs 0 ≤ 2147483647) (q1 : -2147483648 ≤ xs 1 ∧ xs 1 ≤ 2147483647) (q2 : -2147483648 ≤ xs 2 ∧ xs 2 ≤ 2147483647) (q3 : -2147483648 ≤ xs 3 ∧ xs 3 ≤ 2147483647) (q4 : -2147483648 ≤ xs 4 ∧ xs 4 ≤ 2147483647) (q5 : -2147483648 ≤ xs 5 ∧ xs 5 ≤ 2147483647) : XP 1000 321 574 lsc [] h lwQ := by
  exact leaf2 nt1_s ck_12 hf 0 rfl (ab_rg (by omega) (by omega)) (ab_rg (by omega) (by omega)) (ab_rg (by omega) (by omega)) (ab_rg (by omega) (by omega)) (ab_rg (by omega) (by omega)) (ab_rg (by omega) (by omega))
def cs_15 : List (List AW × AW) := [([xT, xT, xT, xT, xT, xT], xI (-1))]
theorem ck_15 : cb_L nt1 643 647 cs_15 = true := by decide +kernel
set_option maxHeartbeats 4000000 in
theorem case_15 {xs : Nat → Int} {h : AH} (hf : FR 6 xs h) (q0 : -2147483648 ≤ xs 0 ∧ xs 0 ≤ 2147483647) (q1 : -2147483648 ≤ xs 1 ∧ xs 1 ≤ 2147483647) (q2 : -2147483648 ≤ xs 2 ∧ xs 2 ≤ 2147483647) (q3 : -2147483648 ≤ xs 3 ∧ xs 3 ≤ 2147483647) (q4 : -2147483648 ≤ xs 4 ∧ xs 4 ≤ 2147483647) (q5 : -2147483648 ≤ xs 5 ∧ xs 5 ≤ 2147483647) : XP 1000 321 643 lsc [] h lwQ := by
  exact leaf2 nt1_s ck_15 hf 0 rfl (ab_rg (by omega) (by omega)) (ab_rg (by omega) (by omega)) (ab_rg (by omega) (by omega)) (ab_rg (by omega) (by omega)) (ab_rg (by omega) (by omega)) (ab_rg (by omega) (by omega))
def cs_4 : List (List AW × AW) := [([xT, xT, xT, xT, xT, xT], xI 0)]
theorem ck_4 : cb_L nt1 400 404 cs_4 = true := by decide +kernel
set_option maxHeartbeats 4000000 in
theorem case_4 {xs : Nat → Int} {h : AH} (hf : FR 6 xs h) (q0 : -2147483648 ≤ xs 0 ∧ xs 0 ≤ 2147483647) (q1 : -2147483648 ≤ xs 1 ∧ xs 1 ≤ 2147483647) (q2 : -2147483648 ≤ xs 2 ∧ xs 2 ≤ 2147483647) (q3 : -2147483648 ≤ xs 3 ∧ xs 3 ≤ 2147483647) (q4 : -2147483648 ≤ xs 4 ∧ xs 4 ≤ 2147483647) (q5 : -2147483648 ≤ xs 5 ∧ xs 5 ≤ 2147483647) : XP 1000 321 400 lsc [] h lwQ := by
  exact leaf2 nt1_s ck_4 hf 0 rfl (ab_rg (by omega) (by omega)) (ab_rg (by omega) (by omega)) (ab_rg (by omega) (by omega)) (ab_rg (by omega) (by omega)) (ab_rg (by omega) (by omega)) (ab_rg (by omega) (by omega))
def cs_7 : List (List AW × AW) := [([xT, .inr (-2147483648, -2), xT, xT, xT, xT], xI (-1)),
  ([xT, xI (-1), xT, xT, xT, xT], xI 0),
  ([xT, xI 0, xT, xT, xT, xT], xI 0),
  ([xT, xI 1, xT, xT, xT, xT], xI 1),
  ([xT, .inr (2, 2147483647), xT, xT, xT, xT], xI (-1))]
theorem ck_7 : cb_L nt1 459 468 cs_7 = true := by decide +kernel
set_option maxHeartbeats 4000000 in
theorem case_7 {xs : Nat → Int} {h : AH} (hf : FR 6 xs h) (q0 : -2147483648 ≤ xs 0 ∧ xs 0 ≤ 2147483647) (q1 : -2147483648 ≤ xs 1 ∧ xs 1 ≤ 2147483647) (q2 : -2147483648 ≤ xs 2 ∧ xs 2 ≤ 2147483647) (q3 : -2147483648 ≤ xs 3 ∧ xs 3 ≤ 2147483647) (q4 : -2147483648 ≤ xs 4 ∧ xs 4 ≤ 2147483647) (q5 : -2147483648 ≤ xs 5 ∧ xs 5 ≤ 2147483647) : XP 1000 321 459 lsc [] h lwQ := by
  by_cases z1_0 : xs 1 ≤ -2
  · skip
    exact leaf2 nt1_s ck_7 hf 0 rfl (ab_rg (by omega) (by omega)) (ab_rg (by omega) (by omega)) (ab_rg (by omega) (by omega)) (ab_rg (by omega) (by omega)) (ab_rg (by omega) (by omega)) (ab_rg (by omega) (by omega))
  by_cases z1_1 : xs 1 ≤ -1
  · skip
    exact leaf2 nt1_s ck_7 hf 1 rfl (ab_rg (by omega) (by omega)) (ab_ex (by omega)) (ab_rg (by omega) (by omega)) (ab_rg (by omega) (by omega)) (ab_rg (by omega) (by omega)) (ab_rg (by omega) (by omega))
  by_cases z1_2 : xs 1 ≤ 0
  · skip
    exact leaf2 nt1_s ck_7 hf 2 rfl (ab_rg (by omega) (by omega)) (ab_ex (by omega)) (ab_rg (by omega) (by omega)) (ab_rg (by omega) (by omega)) (ab_rg (by omega) (by omega)) (ab_rg (by omega) (by omega))
  by_cases z1_3 : xs 1 ≤ 1
  · skip
    exact leaf2 nt1_s ck_7 hf 3 rfl (ab_rg (by omega) (by omega)) (ab_ex (by omega)) (ab_rg (by omega) (by omega)) (ab_rg (by omega) (by omega)) (ab_rg (by omega) (by omega)) (ab_rg (by omega) (by omega))
  exact leaf2 nt1_s ck_7 hf 4 rfl (ab_rg (by omega) (by omega)) (ab_rg (by omega) (by omega)) (ab_rg (by omega) (by omega)) (ab_rg (by omega) (by omega)) (ab_rg (by omega) (by omega)) (ab_rg (by omega) (by omega))
def cs_9 : List (List AW × AW) := [([xT, .inr (-2147483648, 0), xT, xT, xT, xT], xI 0),
  ([xT, .inr (1, 4), xT, xT, xT, xT], xI 1),
  ([xT, xI 5, xT, xT, xT, xT], xI 0),
  ([xT, .inr (6, 24), xT, xT, xT, xT], xI 1),
  ([xT, .inr (25, 2147483647), xT, xT, xT, xT], xI 0)]
theorem ck_9 : cb_L nt1 505 514 cs_9 = true := by decide +kernel
set_option maxHeartbeats 4000000 in
theorem case_9 {xs : Nat → Int} {h : AH} (hf : FR 6 xs h) (q0 : -2147483648 ≤ xs 0 ∧ xs 0 ≤ 2147483647) (q1 : -2147483648 ≤ xs 1 ∧ xs 1 ≤ 2147483647) (q2 : -2147483648 ≤ xs 2 ∧ xs 2 ≤ 2147483647) (q3 : -2147483648 ≤ xs 3 ∧ xs 3 ≤ 2147483647) (q4 : -2147483648 ≤ xs 4 ∧ xs 4 ≤ 2147483647) (q5 : -2147483648 ≤ xs 5 ∧ xs 5 ≤ 2147483647) : XP 1000 321 505 lsc [] h lwQ := by
  by_cases z1_0 : xs 1 ≤ 0
  · skip
    exact leaf2 nt1_s ck_9 hf 0 rfl (ab_rg (by omega) (by omega)) (ab_rg (by omega) (by omega)) (ab_rg (by omega) (by omega)) (ab_rg (by omega) (by omega)) (ab_rg (by omega) (by omega)) (ab_rg (by omega) (by omega))
  by_cases z1_1 : xs 1 ≤ 4
  · skip
    exact leaf2 nt1_s ck_9 hf 1 rfl (ab_rg (by omega) (by omega)) (ab_rg (by omega) (by omega)) (ab_rg (by omega) (by omega)) (ab_rg (by omega) (by omega)) (ab_rg (by omega) (by omega)) (ab_rg (by omega) (by omega))
  by_cases z1_2 : xs 1 ≤ 5
  · skip
    exact leaf2 nt1_s ck_9 hf 2 rfl (ab_rg (by omega) (by omega)) (ab_ex (by omega)) (ab_rg (by omega) (by omega)) (ab_rg (by omega) (by omega)) (ab_rg (by omega) (by omega)) (ab_rg (by omega) (by omega))
  by_cases z1_3 : xs 1 ≤ 24
  · skip
    exact leaf2 nt1_s ck_9 hf 3 rfl (ab_rg (by omega) (by omega)) (ab_rg (by omega) (by omega)) (ab_rg (by omega) (by omega)) (ab_rg (by omega) (by omega)) (ab_rg (by omega) (by omega)) (ab_rg (by omega) (by omega))
  exact leaf2 nt1_s ck_9 hf 4 rfl (ab_rg (by omega) (by omega)) (ab_rg (by omega) (by omega)) (ab_rg (by omega) (by omega)) (ab_rg (by omega) (by omega)) (ab_rg (by omega) (by omega)) (ab_rg (by omega) (by omega))
def cs_10 : List (List AW × AW) := [([xT, .inr (-2147483648, -1), xT, xT, xT, xT], xI 0),
  ([xT, xI 0, xT, xT, xT, xT], xI 0),
  ([xT, .inr (1, 600), xT, xT, xT, xT], xI 1),
  ([xT, .inr (601, 2147483647), xT, xT, xT, xT], xI 0)]
theorem ck_10 : cb_L nt1 528 537 cs_10 = true := by decide +kernel
set_option maxHeartbeats 4000000 in
theorem case_10 {xs : Nat → Int} {h : AH} (hf : FR 6 xs h) (q0 : -2147483648 ≤ xs 0 ∧ xs 0 ≤ 2147483647) (q1 : -2147483648 ≤ xs 1 ∧ xs 1 ≤ 2147483647) (q2 : -2147483648 ≤ xs 2 ∧ xs 2 ≤ 2147483647) (q3 : -2147483648 ≤ xs 3 ∧ xs 3 ≤ 2147483647) (q4 : -2147483648 ≤ xs 4 ∧ xs 4 ≤ 2147483647) (q5 : -2147483648 ≤ xs 5 ∧ xs 5 ≤ 2147483647) : XP 1000 321 528 lsc [] h lwQ := by
  by_cases z1_0 : xs 1 ≤ -1
  · skip
    exact leaf2 nt1_s ck_10 hf 0 rfl (ab_rg (by omega) (by omega)) (ab_rg (by omega) (by omega)) (ab_rg (by omega) (by omega)) (ab_rg (by omega) (by omega)) (ab_rg (by omega) (by omega)) (ab_rg (by omega) (by omega))
  by_cases z1_1 : xs 1 ≤ 0
  · skip
    exact leaf2 nt1_s ck_10 hf 1 rfl (ab_rg (by omega) (by omega)) (ab_ex (by omega)) (ab_rg (by omega) (by omega)) (ab_rg (by omega) (by omega)) (ab_rg (by omega) (by omega)) (ab_rg (by omega) (by omega))
  by_cases z1_2 : xs 1 ≤ 600
  · skip
    exact leaf2 nt1_s ck_10 hf 2 rfl (ab_rg (by omega) (by omega)) (ab_rg (by omega) (by omega)) (ab_rg (by omega) (by omega)) (ab_rg (by omega) (by omega)) (ab_rg (by omega) (by omega)) (ab_rg (by omega) (by omega))
  exact leaf2 nt1_s ck_10 hf 3 rfl (ab_rg (by omega) (by omega)) (ab_rg (by omega) (by omega)) (ab_rg (by omega) (by omega)) (ab_rg (by omega) (by omega)) (ab_rg (by omega) (by omega)) (ab_rg (by omega) (by omega))
def cs_11 : List (List AW × AW) := [([xT, .inr (-2147483648, -1), xT, xT, xT, xT], xI 0),
  ([xT, .inr (0, 2147483647), xT, xT, xT, xT], xI 0)]
theorem ck_11 : cb_L nt1 551 560 cs_11 = true := by decide +kernel
set_option maxHeartbeats 4000000 in
theorem case_11 {xs : Nat → Int} {h : AH} (hf : FR 6 xs h) (q0 : -2147483648 ≤ xs 0 ∧ xs 0 ≤ 2147483647) (q1 : -2147483648 ≤ xs 1 ∧ xs 1 ≤ 2147483647) (q2 : -2147483648 ≤ xs 2 ∧ xs 2 ≤ 2147483647) (q3 : -2147483648 ≤ xs 3 ∧ xs 3 ≤ 2147483647) (q4 : -2147483648 ≤ xs 4 ∧ xs 4 ≤ 2147483647) (q5 : -2147483648 ≤ xs 5 ∧ xs 5 ≤ 2147483647) : XP 1000 321 551 lsc [] h lwQ := by
  by_cases z1_0 : xs 1 ≤ -1
  · skip
    exact leaf2 nt1_s ck_11 hf 0 rfl (ab_rg (by omega) (by omega)) (ab_rg (by omega) (by omega)) (ab_rg (by omega) (by omega)) (ab_rg (by omega) (by omega)) (ab_rg (by omega) (by omega)) (ab_rg (by omega) (by omega))
  exact leaf2 nt1_s ck_11 hf 1 rfl (ab_rg (by omega) (by omega)) (ab_rg (by omega) (by omega)) (ab_rg (by omega) (by omega)) (ab_rg (by omega) (by omega)) (ab_rg (by omega) (by omega)) (ab_rg (by omega) (by omega))
def cs_13 : List (List AW × AW) := [([xT, .inr (-2147483648, -1), xT, xT, xT, xT], xI (-2)),
  ([xT, .inr (0, 2147483647), xT, xT, xT, xT], xI (-2))]
theorem ck_13 : cb_L nt1 587 596 cs_13 = true := by decide +kernel
set_option maxHeartbeats 4000000 in
theorem case_13 {xs : Nat → Int} {h : AH} (hf : FR 6 xs h) (q0 : -2147483648 ≤ xs 0 ∧ xs 0 ≤ 2147483647) (q1 : -2147483648 ≤ xs 1 ∧ xs 1 ≤ 2147483647) (q2 : -2147483648 ≤ xs 2 ∧ xs 2 ≤ 2147483647) (q3 : -2147483648 ≤ xs 3 ∧ xs 3 ≤ 2147483647) (q4 : -2147483648 ≤ xs 4 ∧ xs 4 ≤ 2147483647) (q5 : -2147483648 ≤ xs 5 ∧ xs 5 ≤ 2147483647) : XP 1000 321 587 lsc [] h lwQ := by
  by_cases z1_0 : xs 1 ≤ -1
  · skip
    exact leaf2 nt1_s ck_13 hf 0 rfl (ab_rg (by omega) (by omega)) (ab_rg (by omega) (by omega)) (ab_rg (by omega) (by omega)) (ab_rg (by omega) (by omega)) (ab_rg (by omega) (by omega)) (ab_rg (by omega) (by omega))
  exact leaf2 nt1_s ck_13 hf 1 rfl (ab_rg (by omega) (by omega)) (ab_rg (by omega) (by omega)) (ab_rg (by omega) (by omega)) (ab_rg (by omega) (by omega)) (ab_rg (by omega) (by omega)) (ab_rg (by omega) (by omega))
