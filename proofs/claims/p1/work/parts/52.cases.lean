def cs_4 : List (List AW × AW) := [([xT, xT, xT, xT, xT, xT], xI 0)]
theorem ck_4 : ca_L nt1 400 404 cs_4 = true := by decide +kernel
set_option maxHeartbeats 4000000 in
theorem case_4 {xs : Nat → Int} {h : AH} (hf : FR 6 xs h) (q0 : -2147483648 ≤ xs 0 ∧ xs 0 ≤ 2147483647) (q1 : -2147483648 ≤ xs 1 ∧ xs 1 ≤ 2147483647) (q2 : -2147483648 ≤ xs 2 ∧ xs 2 ≤ 2147483647) (q3 : -2147483648 ≤ xs 3 ∧ xs 3 ≤ 2147483647) (q4 : -2147483648 ≤ xs 4 ∧ xs 4 ≤ 2147483647) (q5 : -2147483648 ≤ xs 5 ∧ xs 5 ≤ 2147483647) : XP 1000 321 400 lsc [] h lwQ := by
  exact leaf nt1_s ck_4 hf 0 rfl (ab_rg (by omega) (by omega)) (ab_rg (by omega) (by omega)) (ab_rg (by omega) (by omega)) (ab_rg (by omega) (by omega)) (ab_rg (by omega) (by omega)) (ab_rg (by omega) (by omega))
def cs_7 : List (List AW × AW) := [([xT, .inr (-2147483648, -2), xT, xT, xT, xT], xI (-1)),
  ([xT, xI (-1), xT, xT, xT, xT], xI 0),
  ([xT, xI 0, xT, xT, xT, xT], xI 0),
  ([xT, xI 1, xT, xT, xT, xT], xI 1),
  ([xT, .inr (2, 2147483647), xT, xT, xT, xT], xI (-1))]
theorem ck_7 : ca_L nt1 459 468 cs_7 = true := by decide +kernel
set_option maxHeartbeats 4000000 in
theorem case_7 {xs : Nat → Int} {h : AH} (hf : FR 6 xs h) (q0 : -2147483648 ≤ xs 0 ∧ xs 0 ≤ 2147483647) (q1 : -2147483648 ≤ xs 1 ∧ xs 1 ≤ 2147483647) (q2 : -2147483648 ≤ xs 2 ∧ xs 2 ≤ 2147483647) (q3 : -2147483648 ≤ xs 3 ∧ xs 3 ≤ 2147483647) (q4 : -2147483648 ≤ xs 4 ∧ xs 4 ≤ 2147483647) (q5 : -2147483648 ≤ xs 5 ∧ xs 5 ≤ 2147483647) : XP 1000 321 459 lsc [] h lwQ := by
  by_cases z1_0 : xs 1 ≤ -2
  · skip
    exact leaf nt1_s ck_7 hf 0 rfl (ab_rg (by omega) (by omega)) (ab_rg (by omega) (by omega)) (ab_rg (by omega) (by omega)) (ab_rg (by omega) (by omega)) (ab_rg (by omega) (by omega)) (ab_rg (by omega) (by omega))
  by_cases z1_1 : xs 1 ≤ -1
  · skip
    exact leaf nt1_s ck_7 hf 1 rfl (ab_rg (by omega) (by omega)) (ab_ex (by omega)) (ab_rg (by omega) (by omega)) (ab_rg (by omega) (by omega)) (ab_rg (by omega) (by omega)) (ab_rg (by omega) (by omega))
  by_cases z1_2 : xs 1 ≤ 0
  · skip
    exact leaf nt1_s ck_7 hf 2 rfl (ab_rg (by omega) (by omega)) (ab_ex (by omega)) (ab_rg (by omega) (by omega)) (ab_rg (by omega) (by omega)) (ab_rg (by omega) (by omega)) (ab_rg (by omega) (by omega))
  by_cases z1_3 : xs 1 ≤ 1
  · skip
    exact leaf nt1_s ck_7 hf 3 rfl (ab_rg (by omega) (by omega)) (ab_ex (by omega)) (ab_rg (by omega) (by omega)) (ab_rg (by omega) (by omega)) (ab_rg (by omega) (by omega)) (ab_rg (by omega) (by omega))
  exact leaf nt1_s ck_7 hf 4 rfl (ab_rg (by omega) (by omega)) (ab_rg (by omega) (by omega)) (ab_rg (by omega) (by omega)) (ab_rg (by omega) (by omega)) (ab_rg (by omega) (by omega)) (ab_rg (by omega) (by omega))
def cs_9 : List (List AW × AW) := [([xT, .inr (-2147483648, 0), xT, xT, xT, xT], xI 0),
  ([xT, .inr (1, 4), xT, xT, xT, xT], xI 1),
  ([xT, xI 5, xT, xT, xT, xT], xI 0),
  ([xT, .inr (6, 24), xT, xT, xT, xT], xI 1),
  ([xT, .inr (25, 2147483647), xT, xT, xT, xT], xI 0)]
theorem ck_9 : ca_L nt1 505 514 cs_9 = true := by decide +kernel
set_option maxHeartbeats 4000000 in
theorem case_9 {xs : Nat → Int} {h : AH} (hf : FR 6 xs h) (q0 : -2147483648 ≤ xs 0 ∧ xs 0 ≤ 2147483647) (q1 : -2147483648 ≤ xs 1 ∧ xs 1 ≤ 2147483647) (q2 : -2147483648 ≤ xs 2 ∧ xs 2 ≤ 2147483647) (q3 : -2147483648 ≤ xs 3 ∧ xs 3 ≤ 2147483647) (q4 : -2147483648 ≤ xs 4 ∧ xs 4 ≤ 2147483647) (q5 : -2147483648 ≤ xs 5 ∧ xs 5 ≤ 2147483647) : XP 1000 321 505 lsc [] h lwQ := by
  by_cases z1_0 : xs 1 ≤ 0
  · skip
    exact leaf nt1_s ck_9 hf 0 rfl (ab_rg (by omega) (by omega)) (ab_rg (by omega) (by omega)) (ab_rg (by omega) (by omega)) (ab_rg (by omega) (by omega)) (ab_rg (by omega) (by omega)) (ab_rg (by omega) (by omega))
  by_cases z1_1 : xs 1 ≤ 4
  · skip
    exact leaf nt1_s ck_9 hf 1 rfl (ab_rg (by omega) (by omega)) (ab_rg (by omega) (by omega)) (ab_rg (by omega) (by omega)) (ab_rg (by omega) (by omega)) (ab_rg (by omega) (by omega)) (ab_rg (by omega) (by omega))
  by_cases z1_2 : xs 1 ≤ 5
  · skip
    exact leaf nt1_s ck_9 hf 2 rfl (ab_rg (by omega) (by omega)) (ab_ex (by omega)) (ab_rg (by omega) (by omega)) (ab_rg (by omega) (by omega)) (ab_rg (by omega) (by omega)) (ab_rg (by omega) (by omega))
  by_cases z1_3 : xs 1 ≤ 24
  · skip
    exact leaf nt1_s ck_9 hf 3 rfl (ab_rg (by omega) (by omega)) (ab_rg (by omega) (by omega)) (ab_rg (by omega) (by omega)) (ab_rg (by omega) (by omega)) (ab_rg (by omega) (by omega)) (ab_rg (by omega) (by omega))
  exact leaf nt1_s ck_9 hf 4 rfl (ab_rg (by omega) (by omega)) (ab_rg (by omega) (by omega)) (ab_rg (by omega) (by omega)) (ab_rg (by omega) (by omega)) (ab_rg (by omega) (by omega)) (ab_rg (by omega) (by omega))
def cs_10 : List (List AW × AW) := [([xT, .inr (-2147483648, -1), xT, xT, xT, xT], xI 0),
  ([xT, xI 0, xT, xT, xT, xT], xI 0),
  ([xT, .inr (1, 600), xT, xT, xT, xT], xI 1),
  ([xT, .inr (601, 2147483647), xT, xT, xT, xT], xI 0)]
theorem ck_10 : ca_L nt1 528 537 cs_10 = true := by decide +kernel
set_option maxHeartbeats 4000000 in
theorem case_10 {xs : Nat → Int} {h : AH} (hf : FR 6 xs h) (q0 : -2147483648 ≤ xs 0 ∧ xs 0 ≤ 2147483647) (q1 : -2147483648 ≤ xs 1 ∧ xs 1 ≤ 2147483647) (q2 : -2147483648 ≤ xs 2 ∧ xs 2 ≤ 2147483647) (q3 : -2147483648 ≤ xs 3 ∧ xs 3 ≤ 2147483647) (q4 : -2147483648 ≤ xs 4 ∧ xs 4 ≤ 2147483647) (q5 : -2147483648 ≤ xs 5 ∧ xs 5 ≤ 2147483647) : XP 1000 321 528 lsc [] h lwQ := by
  by_cases z1_0 : xs 1 ≤ -1
  · skip
    exact leaf nt1_s ck_10 hf 0 rfl (ab_rg (by omega) (by omega)) (ab_rg (by omega) (by omega)) (ab_rg (by omega) (by omega)) (ab_rg (by omega) (by omega)) (ab_rg (by omega) (by omega)) (ab_rg (by omega) (by omega))
  by_cases z1_1 : xs 1 ≤ 0
  · skip
    exact leaf nt1_s ck_10 hf 1 rfl (ab_rg (by omega) (by omega)) (ab_ex (by omega)) (ab_rg (by omega) (by omega)) (ab_rg (by omega) (by omega)) (ab_rg (by omega) (by omega)) (ab_rg (by omega) (by omega))
  by_cases z1_2 : xs 1 ≤ 600
  · skip
    exact leaf nt1_s ck_10 hf 2 rfl (ab_rg (by omega) (by omega)) (ab_rg (by omega) (by omega)) (ab_rg (by omega) (by omega)) (ab_rg (by omega) (by omega)) (ab_rg (by omega) (by omega)) (ab_rg (by omega) (by omega))
  exact leaf nt1_s ck_10 hf 3 rfl (ab_rg (by omega) (by omega)) (ab_rg (by omega) (by omega)) (ab_rg (by omega) (by omega)) (ab_rg (by omega) (by omega)) (ab_rg (by omega) (by omega)) (ab_rg (by omega) (by omega))
def cs_11 : List (List AW × AW) := [([xT, .inr (-2147483648, -1), xT, xT, xT, xT], xI 0),
  ([xT, .inr (0, 2147483647), xT, xT, xT, xT], xI 0)]
theorem ck_11 : ca_L nt1 551 560 cs_11 = true := by decide +kernel
set_option maxHeartbeats 4000000 in
theorem case_11 {xs : Nat → Int} {h : AH} (hf : FR 6 xs h) (q0 : -2147483648 ≤ xs 0 ∧ xs 0 ≤ 2147483647) (q1 : -2147483648 ≤ xs 1 ∧ xs 1 ≤ 2147483647) (q2 : -2147483648 ≤ xs 2 ∧ xs 2 ≤ 2147483647) (q3 : -2147483648 ≤ xs 3 ∧ xs 3 ≤ 2147483647) (q4 : -2147483648 ≤ xs 4 ∧ xs 4 ≤ 2147483647) (q5 : -2147483648 ≤ xs 5 ∧ xs 5 ≤ 2147483647) : XP 1000 321 551 lsc [] h lwQ := by
  by_cases z1_0 : xs 1 ≤ -1
  · skip
    exact leaf nt1_s ck_11 hf 0 rfl (ab_rg (by omega) (by omega)) (ab_rg (by omega) (by omega)) (ab_rg (by omega) (by omega)) (ab_rg (by omega) (by omega)) (ab_rg (by omega) (by omega)) (ab_rg (by omega) (by omega))
  exact leaf nt1_s ck_11 hf 1 rfl (ab_rg (by omega) (by omega)) (ab_rg (by omega) (by omega)) (ab_rg (by omega) (by omega)) (ab_rg (by omega) (by omega)) (ab_rg (by omega) (by omega)) (ab_rg (by omega) (by omega))
def cs_13 : List (List AW × AW) := [([xT, .inr (-2147483648, -1), xT, xT, xT, xT], xI (-2)),
  ([xT, .inr (0, 2147483647), xT, xT, xT, xT], xI (-2))]
theorem ck_13 : ca_L nt1 587 596 cs_13 = true := by decide +kernel
set_option maxHeartbeats 4000000 in
theorem case_13 {xs : Nat → Int} {h : AH} (hf : FR 6 xs h) (q0 : -2147483648 ≤ xs 0 ∧ xs 0 ≤ 2147483647) (q1 : -2147483648 ≤ xs 1 ∧ xs 1 ≤ 2147483647) (q2 : -2147483648 ≤ xs 2 ∧ xs 2 ≤ 2147483647) (q3 : -2147483648 ≤ xs 3 ∧ xs 3 ≤ 2147483647) (q4 : -2147483648 ≤ xs 4 ∧ xs 4 ≤ 2147483647) (q5 : -2147483648 ≤ xs 5 ∧ xs 5 ≤ 2147483647) : XP 1000 321 587 lsc [] h lwQ := by
  by_cases z1_0 : xs 1 ≤ -1
  · skip
    exact leaf nt1_s ck_13 hf 0 rfl (ab_rg (by omega) (by omega)) (ab_rg (by omega) (by omega)) (ab_rg (by omega) (by omega)) (ab_rg (by omega) (by omega)) (ab_rg (by omega) (by omega)) (ab_rg (by omega) (by omega))
  exact leaf nt1_s ck_13 hf 1 rfl (ab_rg (by omega) (by omega)) (ab_rg (by omega) (by omega)) (ab_rg (by omega) (by omega)) (ab_rg (by omega) (by omega)) (ab_rg (by omega) (by omega)) (ab_rg (by omega) (by omega))
def cs_16 : List (List AW × AW) := [([xT, .inr (-2147483648, -1), xT, xT, xT, xT], xI (-100000)),
  ([xT, xI 0, xT, xT, xT, xT], xI 0),
  ([xT, xI 1, xT, xT, xT, xT], xI 0),
  ([xT, xI 2, xT, xT, xT, xT], xI 0),
  ([xT, xI 3, xT, xT, xT, xT], xI 0),
  ([xT, xI 4, xT, xT, xT, xT], xI 0),
  ([xT, xI 5, xT, xT, xT, xT], xI 5),
  ([xT, xI 6, xT, xT, xT, xT], xI 0),
  ([xT, xI 7, xT, xT, xT, xT], xI 0),
  ([xT, xI 8, xT, xT, xT, xT], xI 0),
  ([xT, xI 9, xT, xT, xT, xT], xI 0),
  ([xT, xI 10, xT, xT, xT, xT], xI 1),
  ([xT, xI 11, xT, xT, xT, xT], xI (-1)),
  ([xT, xI 12, xT, xT, xT, xT], xI 0),
  ([xT, .inr (13, 2147483647), xT, xT, xT, xT], xI (-100000))]
theorem ck_16 : ca_L nt1 656 665 cs_16 = true := by decide +kernel
set_option maxHeartbeats 4000000 in
theorem case_16 {xs : Nat → Int} {h : AH} (hf : FR 6 xs h) (q0 : -2147483648 ≤ xs 0 ∧ xs 0 ≤ 2147483647) (q1 : -2147483648 ≤ xs 1 ∧ xs 1 ≤ 2147483647) (q2 : -2147483648 ≤ xs 2 ∧ xs 2 ≤ 2147483647) (q3 : -2147483648 ≤ xs 3 ∧ xs 3 ≤ 2147483647) (q4 : -2147483648 ≤ xs 4 ∧ xs 4 ≤ 2147483647) (q5 : -2147483648 ≤ xs 5 ∧ xs 5 ≤ 2147483647) : XP 1000 321 656 lsc [] h lwQ := by
  by_cases z1_0 : xs 1 ≤ -1
  · skip
    exact leaf nt1_s ck_16 hf 0 rfl (ab_rg (by omega) (by omega)) (ab_rg (by omega) (by omega)) (ab_rg (by omega) (by omega)) (ab_rg (by omega) (by omega)) (ab_rg (by omega) (by omega)) (ab_rg (by omega) (by omega))
  by_cases z1_1 : xs 1 ≤ 0
  · skip
    exact leaf nt1_s ck_16 hf 1 rfl (ab_rg (by omega) (by omega)) (ab_ex (by omega)) (ab_rg (by omega) (by omega)) (ab_rg (by omega) (by omega)) (ab_rg (by omega) (by omega)) (ab_rg (by omega) (by omega))
  by_cases z1_2 : xs 1 ≤ 1
  · skip
    exact leaf nt1_s ck_16 hf 2 rfl (ab_rg (by omega) (by omega)) (ab_ex (by omega)) (ab_rg (by omega) (by omega)) (ab_rg (by omega) (by omega)) (ab_rg (by omega) (by omega)) (ab_rg (by omega) (by omega))
  by_cases z1_3 : xs 1 ≤ 2
  · skip
    exact leaf nt1_s ck_16 hf 3 rfl (ab_rg (by omega) (by omega)) (ab_ex (by omega)) (ab_rg (by omega) (by omega)) (ab_rg (by omega) (by omega)) (ab_rg (by omega) (by omega)) (ab_rg (by omega) (by omega))
  by_cases z1_4 : xs 1 ≤ 3
  · skip
    exact leaf nt1_s ck_16 hf 4 rfl (ab_rg (by omega) (by omega)) (ab_ex (by omega)) (ab_rg (by omega) (by omega)) (ab_rg (by omega) (by omega)) (ab_rg (by omega) (by omega)) (ab_rg (by omega) (by omega))
  by_cases z1_5 : xs 1 ≤ 4
  · skip
    exact leaf nt1_s ck_16 hf 5 rfl (ab_rg (by omega) (by omega)) (ab_ex (by omega)) (ab_rg (by omega) (by omega)) (ab_rg (by omega) (by omega)) (ab_rg (by omega) (by omega)) (ab_rg (by omega) (by omega))
  by_cases z1_6 : xs 1 ≤ 5
  · skip
    exact leaf nt1_s ck_16 hf 6 rfl (ab_rg (by omega) (by omega)) (ab_ex (by omega)) (ab_rg (by omega) (by omega)) (ab_rg (by omega) (by omega)) (ab_rg (by omega) (by omega)) (ab_rg (by omega) (by omega))
  by_cases z1_7 : xs 1 ≤ 6
  · skip
    exact leaf nt1_s ck_16 hf 7 rfl (ab_rg (by omega) (by omega)) (ab_ex (by omega)) (ab_rg (by omega) (by omega)) (ab_rg (by omega) (by omega)) (ab_rg (by omega) (by omega)) (ab_rg (by omega) (by omega))
  by_cases z1_8 : xs 1 ≤ 7
  · skip
    exact leaf nt1_s ck_16 hf 8 rfl (ab_rg (by omega) (by omega)) (ab_ex (by omega)) (ab_rg (by omega) (by omega)) (ab_rg (by omega) (by omega)) (ab_rg (by omega) (by omega)) (ab_rg (by omega) (by omega))
  by_cases z1_9 : xs 1 ≤ 8
  · skip
    exact leaf nt1_s ck_16 hf 9 rfl (ab_rg (by omega) (by omega)) (ab_ex (by omega)) (ab_rg (by omega) (by omega)) (ab_rg (by omega) (by omega)) (ab_rg (by omega) (by omega)) (ab_rg (by omega) (by omega))
  by_cases z1_10 : xs 1 ≤ 9
  · skip
    exact leaf nt1_s ck_16 hf 10 rfl (ab_rg (by omega) (by omega)) (ab_ex (by omega)) (ab_rg (by omega) (by omega)) (ab_rg (by omega) (by omega)) (ab_rg (by omega) (by omega)) (ab_rg (by omega) (by omega))
  by_cases z1_11 : xs 1 ≤ 10
  · skip
    exact leaf nt1_s ck_16 hf 11 rfl (ab_rg (by omega) (by omega)) (ab_ex (by omega)) (ab_rg (by omega) (by omega)) (ab_rg (by omega) (by omega)) (ab_rg (by omega) (by omega)) (ab_rg (by omega) (by omega))
  by_cases z1_12 : xs 1 ≤ 11
  · skip
    exact leaf nt1_s ck_16 hf 12 rfl (ab_rg (by omega) (by omega)) (ab_ex (by omega)) (ab_rg (by omega) (by omega)) (ab_rg (by omega) (by omega)) (ab_rg (by omega) (by omega)) (ab_rg (by omega) (by omega))
  by_cases z1_13 : xs 1 ≤ 12
  · skip
    exact leaf nt1_s ck_16 hf 13 rfl (ab_rg (by omega) (by omega)) (ab_ex (by omega)) (ab_rg (by omega) (by omega)) (ab_rg (by omega) (by omega)) (ab_rg (by omega) (by omega)) (ab_rg (by omega) (by omega))
  exact leaf nt1_s ck_16 hf 14 rfl (ab_rg (by omega) (by omega)) (ab_rg (by omega) (by omega)) (ab_rg (by omega) (by omega)) (ab_rg (by omega) (by omega)) (ab_rg (by omega) (by omega)) (ab_rg (by omega) (by omega))
def cs_17 : List (List AW × AW) := [([xT, .inr (-2147483648, -1), xT, xT, xT, xT], xI (-1)),
  ([xT, .inr (0, 2147483647), xT, xT, xT, xT], xI (-1))]
theorem ck_17 : ca_L nt1 679 693 cs_17 = true := by decide +kernel
set_option maxHeartbeats 4000000 in
theorem case_17 {xs : Nat → Int} {h : AH} (hf : FR 6 xs h) (q0 : -2147483648 ≤ xs 0 ∧ xs 0 ≤ 2147483647) (q1 : -2147483648 ≤ xs 1 ∧ xs 1 ≤ 2147483647) (q2 : -2147483648 ≤ xs 2 ∧ xs 2 ≤ 2147483647) (q3 : -2147483648 ≤ xs 3 ∧ xs 3 ≤ 2147483647) (q4 : -2147483648 ≤ xs 4 ∧ xs 4 ≤ 2147483647) (q5 : -2147483648 ≤ xs 5 ∧ xs 5 ≤ 2147483647) : XP 1000 321 679 lsc [] h lwQ := by
  by_cases z1_0 : xs 1 ≤ -1
  · skip
    exact leaf nt1_s ck_17 hf 0 rfl (ab_rg (by omega) (by omega)) (ab_rg (by omega) (by omega)) (ab_rg (by omega) (by omega)) (ab_rg (by omega) (by omega)) (ab_rg (by omega) (by omega)) (ab_rg (by omega) (by omega))
  exact leaf nt1_s ck_17 hf 1 rfl (ab_rg (by omega) (by omega)) (ab_rg (by omega) (by omega)) (ab_rg (by omega) (by omega)) (ab_rg (by omega) (by omega)) (ab_rg (by omega) (by omega)) (ab_rg (by omega) (by omega))
def cs_18 : List (List AW × AW) := [([xT, .inr (-2147483648, 0), xT, xT, xT, xT], xI (-100000)),
  ([xT, .inr (1, 2147483647), xT, xT, xT, xT], xI (-100000))]
theorem ck_18 : ca_L nt1 712 726 cs_18 = true := by decide +kernel
set_option maxHeartbeats 4000000 in
theorem case_18 {xs : Nat → Int} {h : AH} (hf : FR 6 xs h) (q0 : -2147483648 ≤ xs 0 ∧ xs 0 ≤ 2147483647) (q1 : -2147483648 ≤ xs 1 ∧ xs 1 ≤ 2147483647) (q2 : -2147483648 ≤ xs 2 ∧ xs 2 ≤ 2147483647) (q3 : -2147483648 ≤ xs 3 ∧ xs 3 ≤ 2147483647) (q4 : -2147483648 ≤ xs 4 ∧ xs 4 ≤ 2147483647) (q5 : -2147483648 ≤ xs 5 ∧ xs 5 ≤ 2147483647) : XP 1000 321 712 lsc [] h lwQ := by
  by_cases z1_0 : xs 1 ≤ 0
  · skip
    exact leaf nt1_s ck_18 hf 0 rfl (ab_rg (by omega) (by omega)) (ab_rg (by omega) (by omega)) (ab_rg (by omega) (by omega)) (ab_rg (by omega) (by omega)) (ab_rg (by omega) (by omega)) (ab_rg (by omega) (by omega))
  exact leaf nt1_s ck_18 hf 1 rfl (ab_rg (by omega) (by omega)) (ab_rg (by omega) (by omega)) (ab_rg (by omega) (by omega)) (ab_rg (by omega) (by omega)) (ab_rg (by omega) (by omega)) (ab_rg (by omega) (by omega))
def cs_20 : List (List AW × AW) := [([xT, .inr (-2147483648, -2), xT, xT, xT, xT], xI (-2)),
  ([xT, xI (-1), xT, xT, xT, xT], xI 0),
  ([xT, .inr (0, 2147483647), xT, xT, xT, xT], xI (-2))]
theorem ck_20 : ca_L nt1 804 813 cs_20 = true := by decide +kernel
set_option maxHeartbeats 4000000 in
theorem case_20 {xs : Nat → Int} {h : AH} (hf : FR 6 xs h) (q0 : -2147483648 ≤ xs 0 ∧ xs 0 ≤ 2147483647) (q1 : -2147483648 ≤ xs 1 ∧ xs 1 ≤ 2147483647) (q2 : -2147483648 ≤ xs 2 ∧ xs 2 ≤ 2147483647) (q3 : -2147483648 ≤ xs 3 ∧ xs 3 ≤ 2147483647) (q4 : -2147483648 ≤ xs 4 ∧ xs 4 ≤ 2147483647) (q5 : -2147483648 ≤ xs 5 ∧ xs 5 ≤ 2147483647) : XP 1000 321 804 lsc [] h lwQ := by
  by_cases z1_0 : xs 1 ≤ -2
  · skip
    exact leaf nt1_s ck_20 hf 0 rfl (ab_rg (by omega) (by omega)) (ab_rg (by omega) (by omega)) (ab_rg (by omega) (by omega)) (ab_rg (by omega) (by omega)) (ab_rg (by omega) (by omega)) (ab_rg (by omega) (by omega))
  by_cases z1_1 : xs 1 ≤ -1
  · skip
    exact leaf nt1_s ck_20 hf 1 rfl (ab_rg (by omega) (by omega)) (ab_ex (by omega)) (ab_rg (by omega) (by omega)) (ab_rg (by omega) (by omega)) (ab_rg (by omega) (by omega)) (ab_rg (by omega) (by omega))
  exact leaf nt1_s ck_20 hf 2 rfl (ab_rg (by omega) (by omega)) (ab_rg (by omega) (by omega)) (ab_rg (by omega) (by omega)) (ab_rg (by omega) (by omega)) (ab_rg (by omega) (by omega)) (ab_rg (by omega) (by omega))
