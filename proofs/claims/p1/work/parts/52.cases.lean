def cs_16 : List (List AW × AW) := [([xT, .inr (-2147483648, -1), xT, xT, xT, xT], xI (-100000)),
  ([xT, xI 0, xT, xT, xT, xT], xI 0),
  ([xT, xI 1, xT, xT, xT, xT], xI 0),
  ([xT, xI 2, xT, xT, xT, xT], xI 0),
  ([xT, xI 3, xT, xT, xT, xT], xI 0),
  ([xT, xI 4, xT, xT, xT, xT], xI 0),
  ([xT, xI 5, xT, xT, xT, xT], xI 5),
  ([xT, xI 6, xT, xT, xT, xT], xI 0),
  ([xT, xI 7, xT, xT, xT, xT], xI 0),
  ([xT, xI 8, xT, xT, xT, xT], xI 0),
  ([xT, xI 9, xT, xT, xT, xT], xI 0),
  ([xT, xI 10, xT, xT, xT, xT], xI 1),
  ([xT, xI 11, xT, xT, xT, xT], xI (-1)),
  ([xT, xI 12, xT, xT, xT, xT], xI 0),
  ([xT, .inr (13, 2147483647), xT, xT, xT, xT], xI (-100000))]
theorem ck_16 : cb_L nt1 656 665 cs_16 = true := by decide +kernel
set_option maxHeartbeats 4000000 in
theorem case_16 {xs : Nat → Int} {h : AH} (hf : FR 6 xs h) (q0 : -2147483648 ≤ xs 0 ∧ xs 0 ≤ 2147483647) (q1 : -2147483648 ≤ xs 1 ∧ xs 1 ≤ 2147483647) (q2 : -2147483648 ≤ xs 2 ∧ xs 2 ≤ 2147483647) (q3 : -2147483648 ≤ xs 3 ∧ xs 3 ≤ 2147483647) (q4 : -2147483648 ≤ xs 4 ∧ xs 4 ≤ 2147483647) (q5 : -2147483648 ≤ xs 5 ∧ xs 5 ≤ 2147483647) : XP 1000 321 656 lsc [] h lwQ := by
  by_cases z1_0 : xs 1 ≤ -1
  · skip
    exact leaf2 nt1_s ck_16 hf 0 rfl (ab_rg (by omega) (by omega)) (ab_rg (by omega) (by omega)) (ab_rg (by omega) (by omega)) (ab_rg (by omega) (by omega)) (ab_rg (by omega) (by omega)) (ab_rg (by omega) (by omega))
  by_cases z1_1 : xs 1 ≤ 0
  · skip
    exact leaf2 nt1_s ck_16 hf 1 rfl (ab_rg (by omega) (by omega)) (ab_ex (by omega)) (ab_rg (by omega) (by omega)) (ab_rg (by omega) (by omega)) (ab_rg (by omega) (by omega)) (ab_rg (by omega) (by omega))
  by_cases z1_2 : xs 1 ≤ 1
  · skip
    exact leaf2 nt1_s ck_16 hf 2 rfl (ab_rg (by omega) (by omega)) (ab_ex (by omega)) (ab_rg (by omega) (by omega)) (ab_rg (by omega) (by omega)) (ab_rg (by omega) (by omega)) (ab_rg (by omega) (by omega))
  by_cases z1_3 : xs 1 ≤ 2
  · skip
    exact leaf2 nt1_s ck_16 hf 3 rfl (ab_rg (by omega) (by omega)) (ab_ex (by omega)) (ab_rg (by omega) (by omega)) (ab_rg (by omega) (by omega)) (ab_rg (by omega) (by omega)) (ab_rg (by omega) (by omega))
  by_cases z1_4 : xs 1 ≤ 3
  · skip
    exact leaf2 nt1_s ck_16 hf 4 rfl (ab_rg (by omega) (by omega)) (ab_ex (by omega)) (ab_rg (by omega) (by omega)) (ab_rg (by omega) (by omega)) (ab_rg (by omega) (by omega)) (ab_rg (by omega) (by omega))
  by_cases z1_5 : xs 1 ≤ 4
  · skip
    exact leaf2 nt1_s ck_16 hf 5 rfl (ab_rg (by omega) (by omega)) (ab_ex (by omega)) (ab_rg (by omega) (by omega)) (ab_rg (by omega) (by omega)) (ab_rg (by omega) (by omega)) (ab_rg (by omega) (by omega))
  by_cases z1_6 : xs 1 ≤ 5
  · skip
    exact leaf2 nt1_s ck_16 hf 6 rfl (ab_rg (by omega) (by omega)) (ab_ex (by omega)) (ab_rg (by omega) (by omega)) (ab_rg (by omega) (by omega)) (ab_rg (by omega) (by omega)) (ab_rg (by omega) (by omega))
  by_cases z1_7 : xs 1 ≤ 6
  · skip
    exact leaf2 nt1_s ck_16 hf 7 rfl (ab_rg (by omega) (by omega)) (ab_ex (by omega)) (ab_rg (by omega) (by omega)) (ab_rg (by omega) (by omega)) (ab_rg (by omega) (by omega)) (ab_rg (by omega) (by omega))
  by_cases z1_8 : xs 1 ≤ 7
  · skip
    exact leaf2 nt1_s ck_16 hf 8 rfl (ab_rg (by omega) (by omega)) (ab_ex (by omega)) (ab_rg (by omega) (by omega)) (ab_rg (by omega) (by omega)) (ab_rg (by omega) (by omega)) (ab_rg (by omega) (by omega))
  by_cases z1_9 : xs 1 ≤ 8
  · skip
    exact leaf2 nt1_s ck_16 hf 9 rfl (ab_rg (by omega) (by omega)) (ab_ex (by omega)) (ab_rg (by omega) (by omega)) (ab_rg (by omega) (by omega)) (ab_rg (by omega) (by omega)) (ab_rg (by omega) (by omega))
  by_cases z1_10 : xs 1 ≤ 9
  · skip
    exact leaf2 nt1_s ck_16 hf 10 rfl (ab_rg (by omega) (by omega)) (ab_ex (by omega)) (ab_rg (by omega) (by omega)) (ab_rg (by omega) (by omega)) (ab_rg (by omega) (by omega)) (ab_rg (by omega) (by omega))
  by_cases z1_11 : xs 1 ≤ 10
  · skip
    exact leaf2 nt1_s ck_16 hf 11 rfl (ab_rg (by omega) (by omega)) (ab_ex (by omega)) (ab_rg (by omega) (by omega)) (ab_rg (by omega) (by omega)) (ab_rg (by omega) (by omega)) (ab_rg (by omega) (by omega))
  by_cases z1_12 : xs 1 ≤ 11
  · skip
    exact leaf2 nt1_s ck_16 hf 12 rfl (ab_rg (by omega) (by omega)) (ab_ex (by omega)) (ab_rg (by omega) (by omega)) (ab_rg (by omega) (by omega)) (ab_rg (by omega) (by omega)) (ab_rg (by omega) (by omega))
  by_cases z1_13 : xs 1 ≤ 12
  · skip
    exact leaf2 nt1_s ck_16 hf 13 rfl (ab_rg (by omega) (by omega)) (ab_ex (by omega)) (ab_rg (by omega) (by omega)) (ab_rg (by omega) (by omega)) (ab_rg (by omega) (by omega)) (ab_rg (by omega) (by omega))
  exact leaf2 nt1_s ck_16 hf 14 rfl (ab_rg (by omega) (by omega)) (ab_rg (by omega) (by omega)) (ab_rg (by omega) (by omega)) (ab_rg (by omega) (by omega)) (ab_rg (by omega) (by omega)) (ab_rg (by omega) (by omega))
def cs_17 : List (List AW × AW) := [([xT, .inr (-2147483648, -1), xT, xT, xT, xT], xI (-1)),
  ([xT, .inr (0, 2147483647), xT, xT, xT, xT], xI (-1))]
theorem ck_17 : cb_L nt1 679 693 cs_17 = true := by decide +kernel
set_option maxHeartbeats 4000000 in
theorem case_17 {xs : Nat → Int} {h : AH} (hf : FR 6 xs h) (q0 : -2147483648 ≤ xs 0 ∧ xs 0 ≤ 2147483647) (q1 : -2147483648 ≤ xs 1 ∧ xs 1 ≤ 2147483647) (q2 : -2147483648 ≤ xs 2 ∧ xs 2 ≤ 2147483647) (q3 : -2147483648 ≤ xs 3 ∧ xs 3 ≤ 2147483647) (q4 : -2147483648 ≤ xs 4 ∧ xs 4 ≤ 2147483647) (q5 : -2147483648 ≤ xs 5 ∧ xs 5 ≤ 2147483647) : XP 1000 321 679 lsc [] h lwQ := by
  by_cases z1_0 : xs 1 ≤ -1
  · skip
    exact leaf2 nt1_s ck_17 hf 0 rfl (ab_rg (by omega) (by omega)) (ab_rg (by omega) (by omega)) (ab_rg (by omega) (by omega)) (ab_rg (by omega) (by omega)) (ab_rg (by omega) (by omega)) (ab_rg (by omega) (by omega))
  exact leaf2 nt1_s ck_17 hf 1 rfl (ab_rg (by omega) (by omega)) (ab_rg (by omega) (by omega)) (ab_rg (by omega) (by omega)) (ab_rg (by omega) (by omega)) (ab_rg (by omega) (by omega)) (ab_rg (by omega) (by omega))
def cs_18 : List (List AW × AW) := [([xT, .inr (-2147483648, 0), xT, xT, xT, xT], xI (-100000)),
  ([xT, .inr (1, 2147483647), xT, xT, xT, xT], xI (-100000))]
theorem ck_18 : cb_L nt1 712 726 cs_18 = true := by decide +kernel
set_option maxHeartbeats 4000000 in
theorem case_18 {xs : Nat → Int} {h : AH} (hf : FR 6 xs h) (q0 : -2147483648 ≤ xs 0 ∧ xs 0 ≤ 2147483647) (q1 : -2147483648 ≤ xs 1 ∧ xs 1 ≤ 2147483647) (q2 : -2147483648 ≤ xs 2 ∧ xs 2 ≤ 2147483647) (q3 : -2147483648 ≤ xs 3 ∧ xs 3 ≤ 2147483647) (q4 : -2147483648 ≤ xs 4 ∧ xs 4 ≤ 2147483647) (q5 : -2147483648 ≤ xs 5 ∧ xs 5 ≤ 2147483647) : XP 1000 321 712 lsc [] h lwQ := by
  by_cases z1_0 : xs 1 ≤ 0
  · skip
    exact leaf2 nt1_s ck_18 hf 0 rfl (ab_rg (by omega) (by omega)) (ab_rg (by omega) (by omega)) (ab_rg (by omega) (by omega)) (ab_rg (by omega) (by omega)) (ab_rg (by omega) (by omega)) (ab_rg (by omega) (by omega))
  exact leaf2 nt1_s ck_18 hf 1 rfl (ab_rg (by omega) (by omega)) (ab_rg (by omega) (by omega)) (ab_rg (by omega) (by omega)) (ab_rg (by omega) (by omega)) (ab_rg (by omega) (by omega)) (ab_rg (by omega) (by omega))
def cs_20 : List (List AW × AW) := [([xT, .inr (-2147483648, -2), xT, xT, xT, xT], xI (-2)),
  ([xT, xI (-1), xT, xT, xT, xT], xI 0),
  ([xT, .inr (0, 2147483647), xT, xT, xT, xT], xI (-2))]
theorem ck_20 : cb_L nt1 804 813 cs_20 = true := by decide +kernel
set_option maxHeartbeats 4000000 in
theorem case_20 {xs : Nat → Int} {h : AH} (hf : FR 6 xs h) (q0 : -2147483648 ≤ xs 0 ∧ xs 0 ≤ 2147483647) (q1 : -2147483648 ≤ xs 1 ∧ xs 1 ≤ 2147483647) (q2 : -2147483648 ≤ xs 2 ∧ xs 2 ≤ 2147483647) (q3 : -2147483648 ≤ xs 3 ∧ xs 3 ≤ 2147483647) (q4 : -2147483648 ≤ xs 4 ∧ xs 4 ≤ 2147483647) (q5 : -2147483648 ≤ xs 5 ∧ xs 5 ≤ 2147483647) : XP 1000 321 804 lsc [] h lwQ := by
  by_cases z1_0 : xs 1 ≤ -2
  · skip
    exact leaf2 nt1_s ck_20 hf 0 rfl (ab_rg (by omega) (by omega)) (ab_rg (by omega) (by omega)) (ab_rg (by omega) (by omega)) (ab_rg (by omega) (by omega)) (ab_rg (by omega) (by omega)) (ab_rg (by omega) (by omega))
  by_cases z1_1 : xs 1 ≤ -1
  · skip
    exact leaf2 nt1_s ck_20 hf 1 rfl (ab_rg (by omega) (by omega)) (ab_ex (by omega)) (ab_rg (by omega) (by omega)) (ab_rg (by omega) (by omega)) (ab_rg (by omega) (by omega)) (ab_rg (by omega) (by omega))
  exact leaf2 nt1_s ck_20 hf 2 rfl (ab_rg (by omega) (by omega)) (ab_rg (by omega) (by omega)) (ab_rg (by omega) (by omega)) (ab_rg (by omega) (by omega)) (ab_rg (by omega) (by omega)) (ab_rg (by omega) (by omega))
def cs_24 : List (List AW × AW) := [([xT, .inr (-2147483648, -1), xT, xT, xT, xT], xI (-2)),
  ([xT, .inr (0, 2147483647), xT, xT, xT, xT], xI (-2))]
theorem ck_24 : cb_L nt1 933 947 cs_24 = true := by decide +kernel
set_option maxHeartbeats 4000000 in
theorem case_24 {xs : Nat → Int} {h : AH} (hf : FR 6 xs h) (q0 : -2147483648 ≤ xs 0 ∧ xs 0 ≤ 2147483647) (q1 : -2147483648 ≤ xs 1 ∧ xs 1 ≤ 2147483647) (q2 : -2147483648 ≤ xs 2 ∧ xs 2 ≤ 2147483647) (q3 : -2147483648 ≤ xs 3 ∧ xs 3 ≤ 2147483647) (q4 : -2147483648 ≤ xs 4 ∧ xs 4 ≤ 2147483647) (q5 : -2147483648 ≤ xs 5 ∧ xs 5 ≤ 2147483647) : XP 1000 321 933 lsc [] h lwQ := by
  by_cases z1_0 : xs 1 ≤ -1
  · skip
    exact leaf2 nt1_s ck_24 hf 0 rfl (ab_rg (by omega) (by omega)) (ab_rg (by omega) (by omega)) (ab_rg (by omega) (by omega)) (ab_rg (by omega) (by omega)) (ab_rg (by omega) (by omega)) (ab_rg (by omega) (by omega))
  exact leaf2 nt1_s ck_24 hf 1 rfl (ab_rg (by omega) (by omega)) (ab_rg (by omega) (by omega)) (ab_rg (by omega) (by omega)) (ab_rg (by omega) (by omega)) (ab_rg (by omega) (by omega)) (ab_rg (by omega) (by omega))
def cs_25 : List (List AW × AW) := [([xT, .inr (-2147483648, 0), xT, xT, xT, xT], xI (-1)),
  ([xT, xI 1, xT, xT, xT, xT], xI (-1)),
  ([xT, .inr (2, 200), xT, xT, xT, xT], xI (-1)),
  ([xT, .inr (201, 2147483647), xT, xT, xT, xT], xI (-1))]
theorem ck_25 : cb_L nt1 966 975 cs_25 = true := by decide +kernel
set_option maxHeartbeats 4000000 in
theorem case_25 {xs : Nat → Int} {h : AH} (hf : FR 6 xs h) (q0 : -2147483648 ≤ xs 0 ∧ xs 0 ≤ 2147483647) (q1 : -2147483648 ≤ xs 1 ∧ xs 1 ≤ 2147483647) (q2 : -2147483648 ≤ xs 2 ∧ xs 2 ≤ 2147483647) (q3 : -2147483648 ≤ xs 3 ∧ xs 3 ≤ 2147483647) (q4 : -2147483648 ≤ xs 4 ∧ xs 4 ≤ 2147483647) (q5 : -2147483648 ≤ xs 5 ∧ xs 5 ≤ 2147483647) : XP 1000 321 966 lsc [] h lwQ := by
  by_cases z1_0 : xs 1 ≤ 0
  · skip
    exact leaf2 nt1_s ck_25 hf 0 rfl (ab_rg (by omega) (by omega)) (ab_rg (by omega) (by omega)) (ab_rg (by omega) (by omega)) (ab_rg (by omega) (by omega)) (ab_rg (by omega) (by omega)) (ab_rg (by omega) (by omega))
  by_cases z1_1 : xs 1 ≤ 1
  · skip
    exact leaf2 nt1_s ck_25 hf 1 rfl (ab_rg (by omega) (by omega)) (ab_ex (by omega)) (ab_rg (by omega) (by omega)) (ab_rg (by omega) (by omega)) (ab_rg (by omega) (by omega)) (ab_rg (by omega) (by omega))
  by_cases z1_2 : xs 1 ≤ 200
  · skip
    exact leaf2 nt1_s ck_25 hf 2 rfl (ab_rg (by omega) (by omega)) (ab_rg (by omega) (by omega)) (ab_rg (by omega) (by omega)) (ab_rg (by omega) (by omega)) (ab_rg (by omega) (by omega)) (ab_rg (by omega) (by omega))
  exact leaf2 nt1_s ck_25 hf 3 rfl (ab_rg (by omega) (by omega)) (ab_rg (by omega) (by omega)) (ab_rg (by omega) (by omega)) (ab_rg (by omega) (by omega)) (ab_rg (by omega) (by omega)) (ab_rg (by omega) (by omega))
def cs_26 : List (List AW × AW) := [([xT, xT, xT, xT, xT, xT], xI 0)]
theorem ck_26 : cb_L nt1 989 993 cs_26 = true := by decide +kernel
set_option maxHeartbeats 4000000 in
theorem case_26 {xs : Nat → Int} {h : AH} (hf : FR 6 xs h) (q0 : -2147483648 ≤ xs 0 ∧ xs 0 ≤ 2147483647) (q1 : -2147483648 ≤ xs 1 ∧ xs 1 ≤ 2147483647) (q2 : -2147483648 ≤ xs 2 ∧ xs 2 ≤ 2147483647) (q3 : -2147483648 ≤ xs 3 ∧ xs 3 ≤ 2147483647) (q4 : -2147483648 ≤ xs 4 ∧ xs 4 ≤ 2147483647) (q5 : -2147483648 ≤ xs 5 ∧ xs 5 ≤ 2147483647) : XP 1000 321 989 lsc [] h lwQ := by
  exact leaf2 nt1_s ck_26 hf 0 rfl (ab_rg (by omega) (by omega)) (ab_rg (by omega) (by omega)) (ab_rg (by omega) (by omega)) (ab_rg (by omega) (by omega)) (ab_rg (by omega) (by omega)) (ab_rg (by omega) (by omega))
def cs_28 : List (List AW × AW) := [([xT, .inr (-2147483648, -1), xT, xT, xT, xT], xI (-100000)),
  ([xT, .inr (0, 2147483647), xT, xT, xT, xT], xI (-100000))]
theorem ck_28 : cb_L nt1 1035 1054 cs_28 = true := by decide +kernel
set_option maxHeartbeats 4000000 in
theorem case_28 {xs : Nat → Int} {h : AH} (hf : FR 6 xs h) (q0 : -2147483648 ≤ xs 0 ∧ xs 0 ≤ 2147483647) (q1 : -2147483648 ≤ xs 1 ∧ xs 1 ≤ 2147483647) (q2 : -2147483648 ≤ xs 2 ∧ xs 2 ≤ 2147483647) (q3 : -2147483648 ≤ xs 3 ∧ xs 3 ≤ 2147483647) (q4 : -2147483648 ≤ xs 4 ∧ xs 4 ≤ 2147483647) (q5 : -2147483648 ≤ xs 5 ∧ xs 5 ≤ 2147483647) : XP 1000 321 1035 lsc [] h lwQ := by
  by_cases z1_0 : xs 1 ≤ -1
  · skip
    exact leaf2 nt1_s ck_28 hf 0 rfl (ab_rg (by omega) (by omega)) (ab_rg (by omega) (by omega)) (ab_rg (by omega) (by omega)) (ab_rg (by omega) (by omega)) (ab_rg (by omega) (by omega)) (ab_rg (by omega) (by omega))
  exact leaf2 nt1_s ck_28 hf 1 rfl (ab_rg (by omega) (by omega)) (ab_rg (by omega) (by omega)) (ab_rg (by omega) (by omega)) (ab_rg (by omega) (by omega)) (ab_rg (by omega) (by omega)) (ab_rg (by omega) (by omega))
def cs_34 : List (List AW × AW) := [([xT, xT, xT, xT, xT, xT], xI 0)]
theorem ck_34 : cb_L nt1 1229 1233 cs_34 = true := by decide +kernel
set_option maxHeartbeats 4000000 in
theorem case_34 {xs : Nat → Int} {h : AH} (hf : FR 6 xs h) (q0 : -2147483648 ≤ xs 0 ∧ xs 0 ≤ 2147483647) (q1 : -2147483648 ≤ xs 1 ∧ xs 1 ≤ 2147483647) (q2 : -2147483648 ≤ xs 2 ∧ xs 2 ≤ 2147483647) (q3 : -2147483648 ≤ xs 3 ∧ xs 3 ≤ 2147483647) (q4 : -2147483648 ≤ xs 4 ∧ xs 4 ≤ 2147483647) (q5 : -2147483648 ≤ xs 5 ∧ xs 5 ≤ 2147483647) : XP 1000 321 1229 lsc [] h lwQ := by
  exact leaf2 nt1_s ck_34 hf 0 rfl (ab_rg (by omega) (by omega)) (ab_rg (by omega) (by omega)) (ab_rg (by omega) (by omega)) (ab_rg (by omega) (by omega)) (ab_rg (by omega) (by omega)) (ab_rg (by omega) (by omega))
def cs_35 : List (List AW × AW) := [([xT, .inr (-2147483648, 0), xT, xT, xT, xT], xI (-1)),
  ([xT, .inr (1, 2147483647), xT, xT, xT, xT], xI (-1))]
theorem ck_35 : cb_L nt1 1242 1256 cs_35 = true := by decide +kernel
set_option maxHeartbeats 4000000 in
theorem case_35 {xs : Nat → Int} {h : AH} (hf : FR 6 xs h) (q0 : -2147483648 ≤ xs 0 ∧ xs 0 ≤ 2147483647) (q1 : -2147483648 ≤ xs 1 ∧ xs 1 ≤ 2147483647) (q2 : -2147483648 ≤ xs 2 ∧ xs 2 ≤ 2147483647) (q3 : -2147483648 ≤ xs 3 ∧ xs 3 ≤ 2147483647) (q4 : -2147483648 ≤ xs 4 ∧ xs 4 ≤ 2147483647) (q5 : -2147483648 ≤ xs 5 ∧ xs 5 ≤ 2147483647) : XP 1000 321 1242 lsc [] h lwQ := by
  by_cases z1_0 : xs 1 ≤ 0
  · skip
    exact leaf2 nt1_s ck_35 hf 0 rfl (ab_rg (by omega) (by omega)) (ab_rg (by omega) (by omega)) (ab_rg (by omega) (by omega)) (ab_rg (by omega) (by omega)) (ab_rg (by omega) (by omega)) (ab_rg (by omega) (by omega))
  exact leaf2 nt1_s ck_35 hf 1 rfl (ab_rg (by omega) (by omega)) (ab_rg (by omega) (by omega)) (ab_rg (by omega) (by omega)) (ab_rg (by omega) (by omega)) (ab_rg (by omega) (by omega)) (ab_rg (by omega) (by omega))
def cs_36 : List (List AW × AW) := [([xT, .inr (-2147483648, 0), .inr (-2147483648, -2), xT, xT, xT], xI (-1)),
  ([xT, .inr (-2147483648, 0), xI (-1), xT, xT, xT], xI (-1)),
  ([xT, .inr (-2147483648, 0), .inr (0, 2147483647), xT, xT, xT], xI (-1)),
  ([xT, .inr (1, 2147483647), .inr (-2147483648, -2), xT, xT, xT], xI (-1)),
  ([xT, .inr (1, 2147483647), xI (-1), xT, xT, xT], xI (-1)),
  ([xT, .inr (1, 2147483647), .inr (0, 2147483647), xT, xT, xT], xI (-1))]
theorem ck_36 : cb_L nt1 1275 1289 cs_36 = true := by decide +kernel
set_option maxHeartbeats 4000000 in
theorem case_36 {xs : Nat → Int} {h : AH} (hf : FR 6 xs h) (q0 : -2147483648 ≤ xs 0 ∧ xs 0 ≤ 2147483647) (q1 : -2147483648 ≤ xs 1 ∧ xs 1 ≤ 2147483647) (q2 : -2147483648 ≤ xs 2 ∧ xs 2 ≤ 2147483647) (q3 : -2147483648 ≤ xs 3 ∧ xs 3 ≤ 2147483647) (q4 : -2147483648 ≤ xs 4 ∧ xs 4 ≤ 2147483647) (q5 : -2147483648 ≤ xs 5 ∧ xs 5 ≤ 2147483647) : XP 1000 321 1275 lsc [] h lwQ := by
  by_cases z1_0 : xs 1 ≤ 0
  · skip
    by_cases z2_0 : xs 2 ≤ -2
    · skip
      exact leaf2 nt1_s ck_36 hf 0 rfl (ab_rg (by omega) (by omega)) (ab_rg (by omega) (by omega)) (ab_rg (by omega) (by omega)) (ab_rg (by omega) (by omega)) (ab_rg (by omega) (by omega)) (ab_rg (by omega) (by omega))
    by_cases z2_1 : xs 2 ≤ -1
    · skip
      exact leaf2 nt1_s ck_36 hf 1 rfl (ab_rg (by omega) (by omega)) (ab_rg (by omega) (by omega)) (ab_ex (by omega)) (ab_rg (by omega) (by omega)) (ab_rg (by omega) (by omega)) (ab_rg (by omega) (by omega))
    exact leaf2 nt1_s ck_36 hf 2 rfl (ab_rg (by omega) (by omega)) (ab_rg (by omega) (by omega)) (ab_rg (by omega) (by omega)) (ab_rg (by omega) (by omega)) (ab_rg (by omega) (by omega)) (ab_rg (by omega) (by omega))
  by_cases z2_0 : xs 2 ≤ -2
  · skip
    exact leaf2 nt1_s ck_36 hf 3 rfl (ab_rg (by omega) (by omega)) (ab_rg (by omega) (by omega)) (ab_rg (by omega) (by omega)) (ab_rg (by omega) (by omega)) (ab_rg (by omega) (by omega)) (ab_rg (by omega) (by omega))
  by_cases z2_1 : xs 2 ≤ -1
  · skip
    exact leaf2 nt1_s ck_36 hf 4 rfl (ab_rg (by omega) (by omega)) (ab_rg (by omega) (by omega)) (ab_ex (by omega)) (ab_rg (by omega) (by omega)) (ab_rg (by omega) (by omega)) (ab_rg (by omega) (by omega))
  exact leaf2 nt1_s ck_36 hf 5 rfl (ab_rg (by omega) (by omega)) (ab_rg (by omega) (by omega)) (ab_rg (by omega) (by omega)) (ab_rg (by omega) (by omega)) (ab_rg (by omega) (by omega)) (ab_rg (by omega) (by omega))
