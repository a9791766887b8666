def cs_37 : List (List AW × AW) := [([xT, .inr (-2147483648, -2), xT, xT, xT, xT], xI (-2)),
  ([xT, xI (-1), .inr (-2147483648, -1), xT, xT, xT], xI 0),
  ([xT, xI (-1), xI 0, xT, xT, xT], xI 0),
  ([xT, xI (-1), .inr (1, 2147483647), xT, xT, xT], xI 0),
  ([xT, .inr (0, 10), .inr (-2147483648, -1), xT, xT, xT], xI 1),
  ([xT, .inr (0, 10), xI 0, xT, xT, xT], xI 1),
  ([xT, .inr (0, 10), .inr (1, 2147483647), xT, xT, xT], xI 1),
  ([xT, .inr (11, 2147483647), xT, xT, xT, xT], xI (-2))]
theorem ck_37 : cb_L nt1 1308 1330 cs_37 = true := by decide +kernel
set_option maxHeartbeats 4000000 in
theorem case_37 {xs : Nat → Int} {h : AH} (hf : FR 6 xs h) (q0 : -2147483648 ≤ xs 0 ∧ xs 0 ≤ 2147483647) (q1 : -2147483648 ≤ xs 1 ∧ xs 1 ≤ 2147483647) (q2 : -2147483648 ≤ xs 2 ∧ xs 2 ≤ 2147483647) (q3 : -2147483648 ≤ xs 3 ∧ xs 3 ≤ 2147483647) (q4 : -2147483648 ≤ xs 4 ∧ xs 4 ≤ 2147483647) (q5 : -2147483648 ≤ xs 5 ∧ xs 5 ≤ 2147483647) : XP 1000 321 1308 lsc [] h lwQ := by
  by_cases z1_0 : xs 1 ≤ -2
  · skip
    exact leaf2 nt1_s ck_37 hf 0 rfl (ab_rg (by omega) (by omega)) (ab_rg (by omega) (by omega)) (ab_rg (by omega) (by omega)) (ab_rg (by omega) (by omega)) (ab_rg (by omega) (by omega)) (ab_rg (by omega) (by omega))
  by_cases z1_1 : xs 1 ≤ -1
  · skip
    by_cases z2_0 : xs 2 ≤ -1
    · skip
      exact leaf2 nt1_s ck_37 hf 1 rfl (ab_rg (by omega) (by omega)) (ab_ex (by omega)) (ab_rg (by omega) (by omega)) (ab_rg (by omega) (by omega)) (ab_rg (by omega) (by omega)) (ab_rg (by omega) (by omega))
    by_cases z2_1 : xs 2 ≤ 0
    · skip
      exact leaf2 nt1_s ck_37 hf 2 rfl (ab_rg (by omega) (by omega)) (ab_ex (by omega)) (ab_ex (by omega)) (ab_rg (by omega) (by omega)) (ab_rg (by omega) (by omega)) (ab_rg (by omega) (by omega))
    exact leaf2 nt1_s ck_37 hf 3 rfl (ab_rg (by omega) (by omega)) (ab_ex (by omega)) (ab_rg (by omega) (by omega)) (ab_rg (by omega) (by omega)) (ab_rg (by omega) (by omega)) (ab_rg (by omega) (by omega))
  by_cases z1_2 : xs 1 ≤ 10
  · skip
    by_cases z2_0 : xs 2 ≤ -1
    · skip
      exact leaf2 nt1_s ck_37 hf 4 rfl (ab_rg (by omega) (by omega)) (ab_rg (by omega) (by omega)) (ab_rg (by omega) (by omega)) (ab_rg (by omega) (by omega)) (ab_rg (by omega) (by omega)) (ab_rg (by omega) (by omega))
    by_cases z2_1 : xs 2 ≤ 0
    · skip
      exact leaf2 nt1_s ck_37 hf 5 rfl (ab_rg (by omega) (by omega)) (ab_rg (by omega) (by omega)) (ab_ex (by omega)) (ab_rg (by omega) (by omega)) (ab_rg (by omega) (by omega)) (ab_rg (by omega) (by omega))
    exact leaf2 nt1_s ck_37 hf 6 rfl (ab_rg (by omega) (by omega)) (ab_rg (by omega) (by omega)) (ab_rg (by omega) (by omega)) (ab_rg (by omega) (by omega)) (ab_rg (by omega) (by omega)) (ab_rg (by omega) (by omega))
  exact leaf2 nt1_s ck_37 hf 7 rfl (ab_rg (by omega) (by omega)) (ab_rg (by omega) (by omega)) (ab_rg (by omega) (by omega)) (ab_rg (by omega) (by omega)) (ab_rg (by omega) (by omega)) (ab_rg (by omega) (by omega))
def cs_38 : List (List AW × AW) := [([xT, .inr (-2147483648, -1), xT, xT, xT, xT], xL 2),
  ([xT, xI 0, xT, xT, xT, xT], xL 1),
  ([xT, .inr (1, 2147483647), xT, xT, xT, xT], xL 2)]
theorem ck_38 : cb_L nt1 1357 1374 cs_38 = true := by decide +kernel
set_option maxHeartbeats 4000000 in
theorem case_38 {xs : Nat → Int} {h : AH} (hf : FR 6 xs h) (q0 : -2147483648 ≤ xs 0 ∧ xs 0 ≤ 2147483647) (q1 : -2147483648 ≤ xs 1 ∧ xs 1 ≤ 2147483647) (q2 : -2147483648 ≤ xs 2 ∧ xs 2 ≤ 2147483647) (q3 : -2147483648 ≤ xs 3 ∧ xs 3 ≤ 2147483647) (q4 : -2147483648 ≤ xs 4 ∧ xs 4 ≤ 2147483647) (q5 : -2147483648 ≤ xs 5 ∧ xs 5 ≤ 2147483647) : XP 1000 321 1357 lsc [] h lwQ := by
  by_cases z1_0 : xs 1 ≤ -1
  · skip
    exact leaf2 nt1_s ck_38 hf 0 rfl (ab_rg (by omega) (by omega)) (ab_rg (by omega) (by omega)) (ab_rg (by omega) (by omega)) (ab_rg (by omega) (by omega)) (ab_rg (by omega) (by omega)) (ab_rg (by omega) (by omega))
  by_cases z1_1 : xs 1 ≤ 0
  · skip
    exact leaf2 nt1_s ck_38 hf 1 rfl (ab_rg (by omega) (by omega)) (ab_ex (by omega)) (ab_rg (by omega) (by omega)) (ab_rg (by omega) (by omega)) (ab_rg (by omega) (by omega)) (ab_rg (by omega) (by omega))
  exact leaf2 nt1_s ck_38 hf 2 rfl (ab_rg (by omega) (by omega)) (ab_rg (by omega) (by omega)) (ab_rg (by omega) (by omega)) (ab_rg (by omega) (by omega)) (ab_rg (by omega) (by omega)) (ab_rg (by omega) (by omega))
def cs_39 : List (List AW × AW) := [([xT, .inr (-2147483648, -2), xT, xT, xT, xT], xI (-2)),
  ([xT, xI (-1), xT, xT, xT, xT], xI 0),
  ([xT, .inr (0, 2147483647), xT, xT, xT, xT], xI (-2))]
theorem ck_39 : cb_L nt1 1397 1411 cs_39 = true := by decide +kernel
set_option maxHeartbeats 4000000 in
theorem case_39 {xs : Nat → Int} {h : AH} (hf : FR 6 xs h) (q0 : -2147483648 ≤ xs 0 ∧ xs 0 ≤ 2147483647) (q1 : -2147483648 ≤ xs 1 ∧ xs 1 ≤ 2147483647) (q2 : -2147483648 ≤ xs 2 ∧ xs 2 ≤ 2147483647) (q3 : -2147483648 ≤ xs 3 ∧ xs 3 ≤ 2147483647) (q4 : -2147483648 ≤ xs 4 ∧ xs 4 ≤ 2147483647) (q5 : -2147483648 ≤ xs 5 ∧ xs 5 ≤ 2147483647) : XP 1000 321 1397 lsc [] h lwQ := by
  by_cases z1_0 : xs 1 ≤ -2
  · skip
    exact leaf2 nt1_s ck_39 hf 0 rfl (ab_rg (by omega) (by omega)) (ab_rg (by omega) (by omega)) (ab_rg (by omega) (by omega)) (ab_rg (by omega) (by omega)) (ab_rg (by omega) (by omega)) (ab_rg (by omega) (by omega))
  by_cases z1_1 : xs 1 ≤ -1
  · skip
    exact leaf2 nt1_s ck_39 hf 1 rfl (ab_rg (by omega) (by omega)) (ab_ex (by omega)) (ab_rg (by omega) (by omega)) (ab_rg (by omega) (by omega)) (ab_rg (by omega) (by omega)) (ab_rg (by omega) (by omega))
  exact leaf2 nt1_s ck_39 hf 2 rfl (ab_rg (by omega) (by omega)) (ab_rg (by omega) (by omega)) (ab_rg (by omega) (by omega)) (ab_rg (by omega) (by omega)) (ab_rg (by omega) (by omega)) (ab_rg (by omega) (by omega))
def cs_40 : List (List AW × AW) := [([xT, .inr (-2147483648, 0), xT, xT, xT, xT], xI (-1)),
  ([xT, .inr (1, 9999), xT, xT, xT, xT], xI 0),
  ([xT, .inr (10000, 2147483647), xT, xT, xT, xT], xI (-1))]
theorem ck_40 : cb_L nt1 1430 1439 cs_40 = true := by decide +kernel
set_option maxHeartbeats 4000000 in
theorem case_40 {xs : Nat → Int} {h : AH} (hf : FR 6 xs h) (q0 : -2147483648 ≤ xs 0 ∧ xs 0 ≤ 2147483647) (q1 : -2147483648 ≤ xs 1 ∧ xs 1 ≤ 2147483647) (q2 : -2147483648 ≤ xs 2 ∧ xs 2 ≤ 2147483647) (q3 : -2147483648 ≤ xs 3 ∧ xs 3 ≤ 2147483647) (q4 : -2147483648 ≤ xs 4 ∧ xs 4 ≤ 2147483647) (q5 : -2147483648 ≤ xs 5 ∧ xs 5 ≤ 2147483647) : XP 1000 321 1430 lsc [] h lwQ := by
  by_cases z1_0 : xs 1 ≤ 0
  · skip
    exact leaf2 nt1_s ck_40 hf 0 rfl (ab_rg (by omega) (by omega)) (ab_rg (by omega) (by omega)) (ab_rg (by omega) (by omega)) (ab_rg (by omega) (by omega)) (ab_rg (by omega) (by omega)) (ab_rg (by omega) (by omega))
  by_cases z1_1 : xs 1 ≤ 9999
  · skip
    exact leaf2 nt1_s ck_40 hf 1 rfl (ab_rg (by omega) (by omega)) (ab_rg (by omega) (by omega)) (ab_rg (by omega) (by omega)) (ab_rg (by omega) (by omega)) (ab_rg (by omega) (by omega)) (ab_rg (by omega) (by omega))
  exact leaf2 nt1_s ck_40 hf 2 rfl (ab_rg (by omega) (by omega)) (ab_rg (by omega) (by omega)) (ab_rg (by omega) (by omega)) (ab_rg (by omega) (by omega)) (ab_rg (by omega) (by omega)) (ab_rg (by omega) (by omega))
def cs_41 : List (List AW × AW) := [([xT, xT, xT, xT, xT, xT], xI (-1))]
theorem ck_41 : cb_L nt1 1453 1470 cs_41 = true := by decide +kernel
set_option maxHeartbeats 4000000 in
theorem case_41 {xs : Nat → Int} {h : AH} (hf : FR 6 xs h) (q0 : -2147483648 ≤ xs 0 ∧ xs 0 ≤ 2147483647) (q1 : -2147483648 ≤ xs 1 ∧ xs 1 ≤ 2147483647) (q2 : -2147483648 ≤ xs 2 ∧ xs 2 ≤ 2147483647) (q3 : -2147483648 ≤ xs 3 ∧ xs 3 ≤ 2147483647) (q4 : -2147483648 ≤ xs 4 ∧ xs 4 ≤ 2147483647) (q5 : -2147483648 ≤ xs 5 ∧ xs 5 ≤ 2147483647) : XP 1000 321 1453 lsc [] h lwQ := by
  exact leaf2 nt1_s ck_41 hf 0 rfl (ab_rg (by omega) (by omega)) (ab_rg (by omega) (by omega)) (ab_rg (by omega) (by omega)) (ab_rg (by omega) (by omega)) (ab_rg (by omega) (by omega)) (ab_rg (by omega) (by omega))
def cs_42 : List (List AW × AW) := [([xT, xT, xT, xT, xT, xT], xI 0)]
theorem ck_42 : cb_L nt1 1492 1496 cs_42 = true := by decide +kernel
set_option maxHeartbeats 4000000 in
theorem case_42 {xs : Nat → Int} {h : AH} (hf : FR 6 xs h) (q0 : -2147483648 ≤ xs 0 ∧ xs 0 ≤ 2147483647) (q1 : -2147483648 ≤ xs 1 ∧ xs 1 ≤ 2147483647) (q2 : -2147483648 ≤ xs 2 ∧ xs 2 ≤ 2147483647) (q3 : -2147483648 ≤ xs 3 ∧ xs 3 ≤ 2147483647) (q4 : -2147483648 ≤ xs 4 ∧ xs 4 ≤ 2147483647) (q5 : -2147483648 ≤ xs 5 ∧ xs 5 ≤ 2147483647) : XP 1000 321 1492 lsc [] h lwQ := by
  exact leaf2 nt1_s ck_42 hf 0 rfl (ab_rg (by omega) (by omega)) (ab_rg (by omega) (by omega)) (ab_rg (by omega) (by omega)) (ab_rg (by omega) (by omega)) (ab_rg (by omega) (by omega)) (ab_rg (by omega) (by omega))
def cs_43 : List (List AW × AW) := [([xT, xT, xT, xT, xT, xT], xI 0)]
theorem ck_43 : cb_L nt1 1505 1509 cs_43 = true := by decide +kernel
set_option maxHeartbeats 4000000 in
theorem case_43 {xs : Nat → Int} {h : AH} (hf : FR 6 xs h) (q0 : -2147483648 ≤ xs 0 ∧ xs 0 ≤ 2147483647) (q1 : -2147483648 ≤ xs 1 ∧ xs 1 ≤ 2147483647) (q2 : -2147483648 ≤ xs 2 ∧ xs 2 ≤ 2147483647) (q3 : -2147483648 ≤ xs 3 ∧ xs 3 ≤ 2147483647) (q4 : -2147483648 ≤ xs 4 ∧ xs 4 ≤ 2147483647) (q5 : -2147483648 ≤ xs 5 ∧ xs 5 ≤ 2147483647) : XP 1000 321 1505 lsc [] h lwQ := by
  exact leaf2 nt1_s ck_43 hf 0 rfl (ab_rg (by omega) (by omega)) (ab_rg (by omega) (by omega)) (ab_rg (by omega) (by omega)) (ab_rg (by omega) (by omega)) (ab_rg (by omega) (by omega)) (ab_rg (by omega) (by omega))
def cs_44 : List (List AW × AW) := [([xT, .inr (-2147483648, -1), xT, xT, xT, xT], xI (-2)),
  ([xT, xI 0, xT, xT, xT, xT], xI 0),
  ([xT, xI 1, xT, xT, xT, xT], xI 2),
  ([xT, xI 2, xT, xT, xT, xT], xI 59),
  ([xT, xI 3, xT, xT, xT, xT], xI 0),
  ([xT, xI 4, xT, xT, xT, xT], xI (-1)),
  ([xT, xI 5, xT, xT, xT, xT], xI 0),
  ([xT, xI 6, xT, xT, xT, xT], xI 0),
  ([xT, xI 7, xT, xT, xT, xT], xI 0),
  ([xT, xI 8, xT, xT, xT, xT], xI 0),
  ([xT, xI 9, xT, xT, xT, xT], xI 0),
  ([xT, .inr (10, 2147483647), xT, xT, xT, xT], xI (-2))]
theorem ck_44 : cb_L nt1 1518 1527 cs_44 = true := by decide +kernel
set_option maxHeartbeats 4000000 in
theorem case_44 {xs : Nat → Int} {h : AH} (hf : FR 6 xs h) (q0 : -2147483648 ≤ xs 0 ∧ xs 0 ≤ 2147483647) (q1 : -2147483648 ≤ xs 1 ∧ xs 1 ≤ 2147483647) (q2 : -2147483648 ≤ xs 2 ∧ xs 2 ≤ 2147483647) (q3 : -2147483648 ≤ xs 3 ∧ xs 3 ≤ 2147483647) (q4 : -2147483648 ≤ xs 4 ∧ xs 4 ≤ 2147483647) (q5 : -2147483648 ≤ xs 5 ∧ xs 5 ≤ 2147483647) : XP 1000 321 1518 lsc [] h lwQ := by
  by_cases z1_0 : xs 1 ≤ -1
  · skip
    exact leaf2 nt1_s ck_44 hf 0 rfl (ab_rg (by omega) (by omega)) (ab_rg (by omega) (by omega)) (ab_rg (by omega) (by omega)) (ab_rg (by omega) (by omega)) (ab_rg (by omega) (by omega)) (ab_rg (by omega) (by omega))
  by_cases z1_1 : xs 1 ≤ 0
  · skip
    exact leaf2 nt1_s ck_44 hf 1 rfl (ab_rg (by omega) (by omega)) (ab_ex (by omega)) (ab_rg (by omega) (by omega)) (ab_rg (by omega) (by omega)) (ab_rg (by omega) (by omega)) (ab_rg (by omega) (by omega))
  by_cases z1_2 : xs 1 ≤ 1
  · skip
    exact leaf2 nt1_s ck_44 hf 2 rfl (ab_rg (by omega) (by omega)) (ab_ex (by omega)) (ab_rg (by omega) (by omega)) (ab_rg (by omega) (by omega)) (ab_rg (by omega) (by omega)) (ab_rg (by omega) (by omega))
  by_cases z1_3 : xs 1 ≤ 2
  · skip
    exact leaf2 nt1_s ck_44 hf 3 rfl (ab_rg (by omega) (by omega)) (ab_ex (by omega)) (ab_rg (by omega) (by omega)) (ab_rg (by omega) (by omega)) (ab_rg (by omega) (by omega)) (ab_rg (by omega) (by omega))
  by_cases z1_4 : xs 1 ≤ 3
  · skip
    exact leaf2 nt1_s ck_44 hf 4 rfl (ab_rg (by omega) (by omega)) (ab_ex (by omega)) (ab_rg (by omega) (by omega)) (ab_rg (by omega) (by omega)) (ab_rg (by omega) (by omega)) (ab_rg (by omega) (by omega))
  by_cases z1_5 : xs 1 ≤ 4
  · skip
    exact leaf2 nt1_s ck_44 hf 5 rfl (ab_rg (by omega) (by omega)) (ab_ex (by omega)) (ab_rg (by omega) (by omega)) (ab_rg (by omega) (by omega)) (ab_rg (by omega) (by omega)) (ab_rg (by omega) (by omega))
  by_cases z1_6 : xs 1 ≤ 5
  · skip
    exact leaf2 nt1_s ck_44 hf 6 rfl (ab_rg (by omega) (by omega)) (ab_ex (by omega)) (ab_rg (by omega) (by omega)) (ab_rg (by omega) (by omega)) (ab_rg (by omega) (by omega)) (ab_rg (by omega) (by omega))
  by_cases z1_7 : xs 1 ≤ 6
  · skip
    exact leaf2 nt1_s ck_44 hf 7 rfl (ab_rg (by omega) (by omega)) (ab_ex (by omega)) (ab_rg (by omega) (by omega)) (ab_rg (by omega) (by omega)) (ab_rg (by omega) (by omega)) (ab_rg (by omega) (by omega))
  by_cases z1_8 : xs 1 ≤ 7
  · skip
    exact leaf2 nt1_s ck_44 hf 8 rfl (ab_rg (by omega) (by omega)) (ab_ex (by omega)) (ab_rg (by omega) (by omega)) (ab_rg (by omega) (by omega)) (ab_rg (by omega) (by omega)) (ab_rg (by omega) (by omega))
  by_cases z1_9 : xs 1 ≤ 8
  · skip
    exact leaf2 nt1_s ck_44 hf 9 rfl (ab_rg (by omega) (by omega)) (ab_ex (by omega)) (ab_rg (by omega) (by omega)) (ab_rg (by omega) (by omega)) (ab_rg (by omega) (by omega)) (ab_rg (by omega) (by omega))
  by_cases z1_10 : xs 1 ≤ 9
  · skip
    exact leaf2 nt1_s ck_44 hf 10 rfl (ab_rg (by omega) (by omega)) (ab_ex (by omega)) (ab_rg (by omega) (by omega)) (ab_rg (by omega) (by omega)) (ab_rg (by omega) (by omega)) (ab_rg (by omega) (by omega))
  exact leaf2 nt1_s ck_44 hf 11 rfl (ab_rg (by omega) (by omega)) (ab_rg (by omega) (by omega)) (ab_rg (by omega) (by omega)) (ab_rg (by omega) (by omega)) (ab_rg (by omega) (by omega)) (ab_rg (by omega) (by omega))
