def cs_33_0 : List (List AW × AW) := [([xT, .inr (-2147483648, 0), xT, xT, xT, xT], xI (-1)),
  ([xT, xI 1, xT, xT, xT, xT], xI 59),
  ([xT, xI 2, xT, xT, xT, xT], xI 58),
  ([xT, xI 3, xT, xT, xT, xT], xI 57),
  ([xT, xI 4, xT, xT, xT, xT], xI 56),
  ([xT, xI 5, xT, xT, xT, xT], xI 55),
  ([xT, xI 6, xT, xT, xT, xT], xI 54)]
theorem ck_33_0 : cb_L nt1 1206 1215 cs_33_0 = true := by decide +kernel
def cs_33_1 : List (List AW × AW) := [([xT, xI 7, xT, xT, xT, xT], xI 53),
  ([xT, xI 8, xT, xT, xT, xT], xI 52),
  ([xT, xI 9, xT, xT, xT, xT], xI 51),
  ([xT, xI 10, xT, xT, xT, xT], xI 50),
  ([xT, xI 11, xT, xT, xT, xT], xI 49),
  ([xT, xI 12, xT, xT, xT, xT], xI 48),
  ([xT, xI 13, xT, xT, xT, xT], xI 47)]
theorem ck_33_1 : cb_L nt1 1206 1215 cs_33_1 = true := by decide +kernel
def cs_33_2 : List (List AW × AW) := [([xT, xI 14, xT, xT, xT, xT], xI 46),
  ([xT, xI 15, xT, xT, xT, xT], xI 45),
  ([xT, xI 16, xT, xT, xT, xT], xI 44),
  ([xT, xI 17, xT, xT, xT, xT], xI 43),
  ([xT, xI 18, xT, xT, xT, xT], xI 42),
  ([xT, xI 19, xT, xT, xT, xT], xI 41),
  ([xT, xI 20, xT, xT, xT, xT], xI 40)]
theorem ck_33_2 : cb_L nt1 1206 1215 cs_33_2 = true := by decide +kernel
def cs_33_3 : List (List AW × AW) := [([xT, xI 21, xT, xT, xT, xT], xI 39),
  ([xT, xI 22, xT, xT, xT, xT], xI 38),
  ([xT, xI 23, xT, xT, xT, xT], xI 37),
  ([xT, xI 24, xT, xT, xT, xT], xI 36),
  ([xT, xI 25, xT, xT, xT, xT], xI 35),
  ([xT, xI 26, xT, xT, xT, xT], xI 34),
  ([xT, xI 27, xT, xT, xT, xT], xI 33)]
theorem ck_33_3 : cb_L nt1 1206 1215 cs_33_3 = true := by decide +kernel
def cs_33_4 : List (List AW × AW) := [([xT, xI 28, xT, xT, xT, xT], xI 32),
  ([xT, xI 29, xT, xT, xT, xT], xI 31),
  ([xT, xI 30, xT, xT, xT, xT], xI 30),
  ([xT, xI 31, xT, xT, xT, xT], xI 29),
  ([xT, xI 32, xT, xT, xT, xT], xI 28),
  ([xT, xI 33, xT, xT, xT, xT], xI 27),
  ([xT, xI 34, xT, xT, xT, xT], xI 26)]
theorem ck_33_4 : cb_L nt1 1206 1215 cs_33_4 = true := by decide +kernel
def cs_33_5 : List (List AW × AW) := [([xT, xI 35, xT, xT, xT, xT], xI 25),
  ([xT, xI 36, xT, xT, xT, xT], xI 24),
  ([xT, xI 37, xT, xT, xT, xT], xI 23),
  ([xT, xI 38, xT, xT, xT, xT], xI 22),
  ([xT, xI 39, xT, xT, xT, xT], xI 21),
  ([xT, xI 40, xT, xT, xT, xT], xI 20),
  ([xT, xI 41, xT, xT, xT, xT], xI 19)]
theorem ck_33_5 : cb_L nt1 1206 1215 cs_33_5 = true := by decide +kernel
def cs_33_6 : List (List AW × AW) := [([xT, xI 42, xT, xT, xT, xT], xI 18),
  ([xT, xI 43, xT, xT, xT, xT], xI 17),
  ([xT, xI 44, xT, xT, xT, xT], xI 16),
  ([xT, xI 45, xT, xT, xT, xT], xI 15),
  ([xT, xI 46, xT, xT, xT, xT], xI 14),
  ([xT, xI 47, xT, xT, xT, xT], xI 13),
  ([xT, xI 48, xT, xT, xT, xT], xI 12)]
theorem ck_33_6 : cb_L nt1 1206 1215 cs_33_6 = true := by decide +kernel
def cs_33_7 : List (List AW × AW) := [([xT, xI 49, xT, xT, xT, xT], xI 11),
  ([xT, xI 50, xT, xT, xT, xT], xI 10),
  ([xT, xI 51, xT, xT, xT, xT], xI 9),
  ([xT, xI 52, xT, xT, xT, xT], xI 8),
  ([xT, xI 53, xT, xT, xT, xT], xI 7),
  ([xT, xI 54, xT, xT, xT, xT], xI 6),
  ([xT, xI 55, xT, xT, xT, xT], xI 5)]
theorem ck_33_7 : cb_L nt1 1206 1215 cs_33_7 = true := by decide +kernel
def cs_33_8 : List (List AW × AW) := [([xT, xI 56, xT, xT, xT, xT], xI 4),
  ([xT, xI 57, xT, xT, xT, xT], xI 3),
  ([xT, xI 58, xT, xT, xT, xT], xI 2),
  ([xT, xI 59, xT, xT, xT, xT], xI 1),
  ([xT, xI 60, xT, xT, xT, xT], xI 0),
  ([xT, .inr (61, 99), xT, xT, xT, xT], xI (-1)),
  ([xT, .inr (100, 2147483647), xT, xT, xT, xT], xI (-1))]
theorem ck_33_8 : cb_L nt1 1206 1215 cs_33_8 = true := by decide +kernel
set_option maxHeartbeats 4000000 in
theorem case_33 {xs : Nat → Int} {h : AH} (hf : FR 6 xs h) (q0 : -2147483648 ≤ xs 0 ∧ xs 0 ≤ 2147483647) (q1 : -2147483648 ≤ xs 1 ∧ xs 1 ≤ 2147483647) (q2 : -2147483648 ≤ xs 2 ∧ xs 2 ≤ 2147483647) (q3 : -2147483648 ≤ xs 3 ∧ xs 3 ≤ 2147483647) (q4 : -2147483648 ≤ xs 4 ∧ xs 4 ≤ 2147483647) (q5 : -2147483648 ≤ xs 5 ∧ xs 5 ≤ 2147483647) : XP 1000 321 1206 lsc [] h lwQ := by
  by_cases z1_0 : xs 1 ≤ 0
  · skip
    exact leaf2 nt1_s ck_33_0 hf 0 rfl (ab_rg (by omega) (by omega)) (ab_rg (by omega) (by omega)) (ab_rg (by omega) (by omega)) (ab_rg (by omega) (by omega)) (ab_rg (by omega) (by omega)) (ab_rg (by omega) (by omega))
  by_cases z1_1 : xs 1 ≤ 1
  · skip
    exact leaf2 nt1_s ck_33_0 hf 1 rfl (ab_rg (by omega) (by omega)) (ab_ex (by omega)) (ab_rg (by omega) (by omega)) (ab_rg (by omega) (by omega)) (ab_rg (by omega) (by omega)) (ab_rg (by omega) (by omega))
  by_cases z1_2 : xs 1 ≤ 2
  · skip
    exact leaf2 nt1_s ck_33_0 hf 2 rfl (ab_rg (by omega) (by omega)) (ab_ex (by omega)) (ab_rg (by omega) (by omega)) (ab_rg (by omega) (by omega)) (ab_rg (by omega) (by omega)) (ab_rg (by omega) (by omega))
  by_cases z1_3 : xs 1 ≤ 3
  · skip
    exact leaf2 nt1_s ck_33_0 hf 3 rfl (ab_rg (by omega) (by omega)) (ab_ex (by omega)) (ab_rg (by omega) (by omega)) (ab_rg (by omega) (by omega)) (ab_rg (by omega) (by omega)) (ab_rg (by omega) (by omega))
  by_cases z1_4 : xs 1 ≤ 4
  · skip
    exact leaf2 nt1_s ck_33_0 hf 4 rfl (ab_rg (by omega) (by omega)) (ab_ex (by omega)) (ab_rg (by omega) (by omega)) (ab_rg (by omega) (by omega)) (ab_rg (by omega) (by omega)) (ab_rg (by omega) (by omega))
  by_cases z1_5 : xs 1 ≤ 5
  · skip
    exact leaf2 nt1_s ck_33_0 hf 5 rfl (ab_rg (by omega) (by omega)) (ab_ex (by omega)) (ab_rg (by omega) (by omega)) (ab_rg (by omega) (by omega)) (ab_rg (by omega) (by omega)) (ab_rg (by omega) (by omega))
  by_cases z1_6 : xs 1 ≤ 6
  · skip
    exact leaf2 nt1_s ck_33_0 hf 6 rfl (ab_rg (by omega) (by omega)) (ab_ex (by omega)) (ab_rg (by omega) (by omega)) (ab_rg (by omega) (by omega)) (ab_rg (by omega) (by omega)) (ab_rg (by omega) (by omega))
  by_cases z1_7 : xs 1 ≤ 7
  · skip
    exact leaf2 nt1_s ck_33_1 hf 0 rfl (ab_rg (by omega) (by omega)) (ab_ex (by omega)) (ab_rg (by omega) (by omega)) (ab_rg (by omega) (by omega)) (ab_rg (by omega) (by omega)) (ab_rg (by omega) (by omega))
  by_cases z1_8 : xs 1 ≤ 8
  · skip
    exact leaf2 nt1_s ck_33_1 hf 1 rfl (ab_rg (by omega) (by omega)) (ab_ex (by omega)) (ab_rg (by omega) (by omega)) (ab_rg (by omega) (by omega)) (ab_rg (by omega) (by omega)) (ab_rg (by omega) (by omega))
  by_cases z1_9 : xs 1 ≤ 9
  · skip
    exact leaf2 nt1_s ck_33_1 hf 2 rfl (ab_rg (by omega) (by omega)) (ab_ex (by omega)) (ab_rg (by omega) (by omega)) (ab_rg (by omega) (by omega)) (ab_rg (by omega) (by omega)) (ab_rg (by omega) (by omega))
  by_cases z1_10 : xs 1 ≤ 10
  · skip
    exact leaf2 nt1_s ck_33_1 hf 3 rfl (ab_rg (by omega) (by omega)) (ab_ex (by omega)) (ab_rg (by omega) (by omega)) (ab_rg (by omega) (by omega)) (ab_rg (by omega) (by omega)) (ab_rg (by omega) (by omega))
  by_cases z1_11 : xs 1 ≤ 11
  · skip
    exact leaf2 nt1_s ck_33_1 hf 4 rfl (ab_rg (by omega) (by omega)) (ab_ex (by omega)) (ab_rg (by omega) (by omega)) (ab_rg (by omega) (by omega)) (ab_rg (by omega) (by omega)) (ab_rg (by omega) (by omega))
  by_cases z1_12 : xs 1 ≤ 12
  · skip
    exact leaf2 nt1_s ck_33_1 hf 5 rfl (ab_rg (by omega) (by omega)) (ab_ex (by omega)) (ab_rg (by omega) (by omega)) (ab_rg (by omega) (by omega)) (ab_rg (by omega) (by omega)) (ab_rg (by omega) (by omega))
  by_cases z1_13 : xs 1 ≤ 13
  · skip
    exact leaf2 nt1_s ck_33_1 hf 6 rfl (ab_rg (by omega) (by omega)) (ab_ex (by omega)) (ab_rg (by omega) (by omega)) (ab_rg (by omega) (by omega)) (ab_rg (by omega) (by omega)) (ab_rg (by omega) (by omega))
  by_cases z1_14 : xs 1 ≤ 14
  · skip
    exact leaf2 nt1_s ck_33_2 hf 0 rfl (ab_rg (by omega) (by omega)) (ab_ex (by omega)) (ab_rg (by omega) (by omega)) (ab_rg (by omega) (by omega)) (ab_rg (by omega) (by omega)) (ab_rg (by omega) (by omega))
  by_cases z1_15 : xs 1 ≤ 15
  · skip
    exact leaf2 nt1_s ck_33_2 hf 1 rfl (ab_rg (by omega) (by omega)) (ab_ex (by omega)) (ab_rg (by omega) (by omega)) (ab_rg (by omega) (by omega)) (ab_rg (by omega) (by omega)) (ab_rg (by omega) (by omega))
  by_cases z1_16 : xs 1 ≤ 16
  · skip
    exact leaf2 nt1_s ck_33_2 hf 2 rfl (ab_rg (by omega) (by omega)) (ab_ex (by omega)) (ab_rg (by omega) (by omega)) (ab_rg (by omega) (by omega)) (ab_rg (by omega) (by omega)) (ab_rg (by omega) (by omega))
  by_cases z1_17 : xs 1 ≤ 17
  · skip
    exact leaf2 nt1_s ck_33_2 hf 3 rfl (ab_rg (by omega) (by omega)) (ab_ex (by omega)) (ab_rg (by omega) (by omega)) (ab_rg (by omega) (by omega)) (ab_rg (by omega) (by omega)) (ab_rg (by omega) (by omega))
  by_cases z1_18 : xs 1 ≤ 18
  · skip
    exact leaf2 nt1_s ck_33_2 hf 4 rfl (ab_rg (by omega) (by omega)) (ab_ex (by omega)) (ab_rg (by omega) (by omega)) (ab_rg (by omega) (by omega)) (ab_rg (by omega) (by omega)) (ab_rg (by omega) (by omega))
  by_cases z1_19 : xs 1 ≤ 19
  · skip
    exact leaf2 nt1_s ck_33_2 hf 5 rfl (ab_rg (by omega) (by omega)) (ab_ex (by omega)) (ab_rg (by omega) (by omega)) (ab_rg (by omega) (by omega)) (ab_rg (by omega) (by omega)) (ab_rg (by omega) (by omega))
  by_cases z1_20 : xs 1 ≤ 20
  · skip
    exact leaf2 nt1_s ck_33_2 hf 6 rfl (ab_rg (by omega) (by omega)) (ab_ex (by omega)) (ab_rg (by omega) (by omega)) (ab_rg (by omega) (by omega)) (ab_rg (by omega) (by omega)) (ab_rg (by omega) (by omega))
  by_cases z1_21 : xs 1 ≤ 21
  · skip
    exact leaf2 nt1_s ck_33_3 hf 0 rfl (ab_rg (by omega) (by omega)) (ab_ex (by omega)) (ab_rg (by omega) (by omega)) (ab_rg (by omega) (by omega)) (ab_rg (by omega) (by omega)) (ab_rg (by omega) (by omega))
  by_cases z1_22 : xs 1 ≤ 22
  · skip
    exact leaf2 nt1_s ck_33_3 hf 1 rfl (ab_rg (by omega) (by omega)) (ab_ex (by omega)) (ab_rg (by omega) (by omega)) (ab_rg (by omega) (by omega)) (ab_rg (by omega) (by omega)) (ab_rg (by omega) (by omega))
  by_cases z1_23 : xs 1 ≤ 23
  · skip
    exact leaf2 nt1_s ck_33_3 hf 2 rfl (ab_rg (by omega) (by omega)) (ab_ex (by omega)) (ab_rg (by omega) (by omega)) (ab_rg (by omega) (by omega)) (ab_rg (by omega) (by omega)) (ab_rg (by omega) (by omega))
  by_cases z1_24 : xs 1 ≤ 24
  · skip
    exact leaf2 nt1_s ck_33_3 hf 3 rfl (ab_rg (by omega) (by omega)) (ab_ex (by omega)) (ab_rg (by omega) (by omega)) (ab_rg (by omega) (by omega)) (ab_rg (by omega) (by omega)) (ab_rg (by omega) (by omega))
  by_cases z1_25 : xs 1 ≤ 25
  · skip
    exact leaf2 nt1_s ck_33_3 hf 4 rfl (ab_rg (by omega) (by omega)) (ab_ex (by omega)) (ab_rg (by omega) (by omega)) (ab_rg (by omega) (by omega)) (ab_rg (by omega) (by omega)) (ab_rg (by omega) (by omega))
  by_cases z1_26 : xs 1 ≤ 26
  · skip
    exact leaf2 nt1_s ck_33_3 hf 5 rfl (ab_rg (by omega) (by omega)) (ab_ex (by omega)) (ab_rg (by omega) (by omega)) (ab_rg (by omega) (by omega)) (ab_rg (by omega) (by omega)) (ab_rg (by omega) (by omega))
  by_cases z1_27 : xs 1 ≤ 27
  · skip
    exact leaf2 nt1_s ck_33_3 hf 6 rfl (ab_rg (by omega) (by omega)) (ab_ex (by omega)) (ab_rg (by omega) (by omega)) (ab_rg (by omega) (by omega)) (ab_rg (by omega) (by omega)) (ab_rg (by omega) (by omega))
  by_cases z1_28 : xs 1 ≤ 28
  · skip
    exact leaf2 nt1_s ck_33_4 hf 0 rfl (ab_rg (by omega) (by omega)) (ab_ex (by omega)) (ab_rg (by omega) (by omega)) (ab_rg (by omega) (by omega)) (ab_rg (by omega) (by omega)) (ab_rg (by omega) (by omega))
  by_cases z1_29 : xs 1 ≤ 29
  · skip
    exact leaf2 nt1_s ck_33_4 hf 1 rfl (ab_rg (by omega) (by omega)) (ab_ex (by omega)) (ab_rg (by omega) (by omega)) (ab_rg (by omega) (by omega)) (ab_rg (by omega) (by omega)) (ab_rg (by omega) (by omega))
  by_cases z1_30 : xs 1 ≤ 30
  · skip
    exact leaf2 nt1_s ck_33_4 hf 2 rfl (ab_rg (by omega) (by omega)) (ab_ex (by omega)) (ab_rg (by omega) (by omega)) (ab_rg (by omega) (by omega)) (ab_rg (by omega) (by omega)) (ab_rg (by omega) (by omega))
  by_cases z1_31 : xs 1 ≤ 31
  · skip
    exact leaf2 nt1_s ck_33_4 hf 3 rfl (ab_rg (by omega) (by omega)) (ab_ex (by omega)) (ab_rg (by omega) (by omega)) (ab_rg (by omega) (by omega)) (ab_rg (by omega) (by omega)) (ab_rg (by omega) (by omega))
  by_cases z1_32 : xs 1 ≤ 32
  · skip
    exact leaf2 nt1_s ck_33_4 hf 4 rfl (ab_rg (by omega) (by omega)) (ab_ex (by omega)) (ab_rg (by omega) (by omega)) (ab_rg (by omega) (by omega)) (ab_rg (by omega) (by omega)) (ab_rg (by omega) (by omega))
  by_cases z1_33 : xs 1 ≤ 33
  · skip
    exact leaf2 nt1_s ck_33_4 hf 5 rfl (ab_rg (by omega) (by omega)) (ab_ex (by omega)) (ab_rg (by omega) (by omega)) (ab_rg (by omega) (by omega)) (ab_rg (by omega) (by omega)) (ab_rg (by omega) (by omega))
  by_cases z1_34 : xs 1 ≤ 34
  · skip
    exact leaf2 nt1_s ck_33_4 hf 6 rfl (ab_rg (by omega) (by omega)) (ab_ex (by omega)) (ab_rg (by omega) (by omega)) (ab_rg (by omega) (by omega)) (ab_rg (by omega) (by omega)) (ab_rg (by omega) (by omega))
  by_cases z1_35 : xs 1 ≤ 35
  · skip
    exact leaf2 nt1_s ck_33_5 hf 0 rfl (ab_rg (by omega) (by omega)) (ab_ex (by omega)) (ab_rg (by omega) (by omega)) (ab_rg (by omega) (by omega)) (ab_rg (by omega) (by omega)) (ab_rg (by omega) (by omega))
  by_cases z1_36 : xs 1 ≤ 36
  · skip
    exact leaf2 nt1_s ck_33_5 hf 1 rfl (ab_rg (by omega) (by omega)) (ab_ex (by omega)) (ab_rg (by omega) (by omega)) (ab_rg (by omega) (by omega)) (ab_rg (by omega) (by omega)) (ab_rg (by omega) (by omega))
  by_cases z1_37 : xs 1 ≤ 37
  · skip
    exact leaf2 nt1_s ck_33_5 hf 2 rfl (ab_rg (by omega) (by omega)) (ab_ex (by omega)) (ab_rg (by omega) (by omega)) (ab_rg (by omega) (by omega)) (ab_rg (by omega) (by omega)) (ab_rg (by omega) (by omega))
  by_cases z1_38 : xs 1 ≤ 38
  · skip
    exact leaf2 nt1_s ck_33_5 hf 3 rfl (ab_rg (by omega) (by omega)) (ab_ex (by omega)) (ab_rg (by omega) (by omega)) (ab_rg (by omega) (by omega)) (ab_rg (by omega) (by omega)) (ab_rg (by omega) (by omega))
  by_cases z1_39 : xs 1 ≤ 39
  · skip
    exact leaf2 nt1_s ck_33_5 hf 4 rfl (ab_rg (by omega) (by omega)) (ab_ex (by omega)) (ab_rg (by omega) (by omega)) (ab_rg (by omega) (by omega)) (ab_rg (by omega) (by omega)) (ab_rg (by omega) (by omega))
  by_cases z1_40 : xs 1 ≤ 40
  · skip
    exact leaf2 nt1_s ck_33_5 hf 5 rfl (ab_rg (by omega) (by omega)) (ab_ex (by omega)) (ab_rg (by omega) (by omega)) (ab_rg (by omega) (by omega)) (ab_rg (by omega) (by omega)) (ab_rg (by omega) (by omega))
  by_cases z1_41 : xs 1 ≤ 41
  · skip
    exact leaf2 nt1_s ck_33_5 hf 6 rfl (ab_rg (by omega) (by omega)) (ab_ex (by omega)) (ab_rg (by omega) (by omega)) (ab_rg (by omega) (by omega)) (ab_rg (by omega) (by omega)) (ab_rg (by omega) (by omega))
  by_cases z1_42 : xs 1 ≤ 42
  · skip
    exact leaf2 nt1_s ck_33_6 hf 0 rfl (ab_rg (by omega) (by omega)) (ab_ex (by omega)) (ab_rg (by omega) (by omega)) (ab_rg (by omega) (by omega)) (ab_rg (by omega) (by omega)) (ab_rg (by omega) (by omega))
  by_cases z1_43 : xs 1 ≤ 43
  · skip
    exact leaf2 nt1_s ck_33_6 hf 1 rfl (ab_rg (by omega) (by omega)) (ab_ex (by omega)) (ab_rg (by omega) (by omega)) (ab_rg (by omega) (by omega)) (ab_rg (by omega) (by omega)) (ab_rg (by omega) (by omega))
  by_cases z1_44 : xs 1 ≤ 44
  · skip
    exact leaf2 nt1_s ck_33_6 hf 2 rfl (ab_rg (by omega) (by omega)) (ab_ex (by omega)) (ab_rg (by omega) (by omega)) (ab_rg (by omega) (by omega)) (ab_rg (by omega) (by omega)) (ab_rg (by omega) (by omega))
  by_cases z1_45 : xs 1 ≤ 45
  · skip
    exact leaf2 nt1_s ck_33_6 hf 3 rfl (ab_rg (by omega) (by omega)) (ab_ex (by omega)) (ab_rg (by omega) (by omega)) (ab_rg (by omega) (by omega)) (ab_rg (by omega) (by omega)) (ab_rg (by omega) (by omega))
  by_cases z1_46 : xs 1 ≤ 46
  · skip
    exact leaf2 nt1_s ck_33_6 hf 4 rfl (ab_rg (by omega) (by omega)) (ab_ex (by omega)) (ab_rg (by omega) (by omega)) (ab_rg (by omega) (by omega)) (ab_rg (by omega) (by omega)) (ab_rg (by omega) (by omega))
  by_cases z1_47 : xs 1 ≤ 47
  · skip
    exact leaf2 nt1_s ck_33_6 hf 5 rfl (ab_rg (by omega) (by omega)) (ab_ex (by omega)) (ab_rg (by omega) (by omega)) (ab_rg (by omega) (by omega)) (ab_rg (by omega) (by omega)) (ab_rg (by omega) (by omega))
  by_cases z1_48 : xs 1 ≤ 48
  · skip
    exact leaf2 nt1_s ck_33_6 hf 6 rfl (ab_rg (by omega) (by omega)) (ab_ex (by omega)) (ab_rg (by omega) (by omega)) (ab_rg (by omega) (by omega)) (ab_rg (by omega) (by omega)) (ab_rg (by omega) (by omega))
  by_cases z1_49 : xs 1 ≤ 49
  · skip
    exact leaf2 nt1_s ck_33_7 hf 0 rfl (ab_rg (by omega) (by omega)) (ab_ex (by omega)) (ab_rg (by omega) (by omega)) (ab_rg (by omega) (by omega)) (ab_rg (by omega) (by omega)) (ab_rg (by omega) (by omega))
  by_cases z1_50 : xs 1 ≤ 50
  · skip
    exact leaf2 nt1_s ck_33_7 hf 1 rfl (ab_rg (by omega) (by omega)) (ab_ex (by omega)) (ab_rg (by omega) (by omega)) (ab_rg (by omega) (by omega)) (ab_rg (by omega) (by omega)) (ab_rg (by omega) (by omega))
  by_cases z1_51 : xs 1 ≤ 51
  · skip
    exact leaf2 nt1_s ck_33_7 hf 2 rfl (ab_rg (by omega) (by omega)) (ab_ex (by omega)) (ab_rg (by omega) (by omega)) (ab_rg (by omega) (by omega)) (ab_rg (by omega) (by omega)) (ab_rg (by omega) (by omega))
  by_cases z1_52 : xs 1 ≤ 52
  · skip
    exact leaf2 nt1_s ck_33_7 hf 3 rfl (ab_rg (by omega) (by omega)) (ab_ex (by omega)) (ab_rg (by omega) (by omega)) (ab_rg (by omega) (by omega)) (ab_rg (by omega) (by omega)) (ab_rg (by omega) (by omega))
  by_cases z1_53 : xs 1 ≤ 53
  · skip
    exact leaf2 nt1_s ck_33_7 hf 4 rfl (ab_rg (by omega) (by omega)) (ab_ex (by omega)) (ab_rg (by omega) (by omega)) (ab_rg (by omega) (by omega)) (ab_rg (by omega) (by omega)) (ab_rg (by omega) (by omega))
  by_cases z1_54 : xs 1 ≤ 54
  · skip
    exact leaf2 nt1_s ck_33_7 hf 5 rfl (ab_rg (by omega) (by omega)) (ab_ex (by omega)) (ab_rg (by omega) (by omega)) (ab_rg (by omega) (by omega)) (ab_rg (by omega) (by omega)) (ab_rg (by omega) (by omega))
  by_cases z1_55 : xs 1 ≤ 55
  · skip
    exact leaf2 nt1_s ck_33_7 hf 6 rfl (ab_rg (by omega) (by omega)) (ab_ex (by omega)) (ab_rg (by omega) (by omega)) (ab_rg (by omega) (by omega)) (ab_rg (by omega) (by omega)) (ab_rg (by omega) (by omega))
  by_cases z1_56 : xs 1 ≤ 56
  · skip
    exact leaf2 nt1_s ck_33_8 hf 0 rfl (ab_rg (by omega) (by omega)) (ab_ex (by omega)) (ab_rg (by omega) (by omega)) (ab_rg (by omega) (by omega)) (ab_rg (by omega) (by omega)) (ab_rg (by omega) (by omega))
  by_cases z1_57 : xs 1 ≤ 57
  · skip
    exact leaf2 nt1_s ck_33_8 hf 1 rfl (ab_rg (by omega) (by omega)) (ab_ex (by omega)) (ab_rg (by omega) (by omega)) (ab_rg (by omega) (by omega)) (ab_rg (by omega) (by omega)) (ab_rg (by omega) (by omega))
  by_cases z1_58 : xs 1 ≤ 58
  · skip
    exact leaf2 nt1_s ck_33_8 hf 2 rfl (ab_rg (by omega) (by omega)) (ab_ex (by omega)) (ab_rg (by omega) (by omega)) (ab_rg (by omega) (by omega)) (ab_rg (by omega) (by omega)) (ab_rg (by omega) (by omega))
  by_cases z1_59 : xs 1 ≤ 59
  · skip
    exact leaf2 nt1_s ck_33_8 hf 3 rfl (ab_rg (by omega) (by omega)) (ab_ex (by omega)) (ab_rg (by omega) (by omega)) (ab_rg (by omega) (by omega)) (ab_rg (by omega) (by omega)) (ab_rg (by omega) (by omega))
  by_cases z1_60 : xs 1 ≤ 60
  · skip
    exact leaf2 nt1_s ck_33_8 hf 4 rfl (ab_rg (by omega) (by omega)) (ab_ex (by omega)) (ab_rg (by omega) (by omega)) (ab_rg (by omega) (by omega)) (ab_rg (by omega) (by omega)) (ab_rg (by omega) (by omega))
  by_cases z1_61 : xs 1 ≤ 99
  · skip
    exact leaf2 nt1_s ck_33_8 hf 5 rfl (ab_rg (by omega) (by omega)) (ab_rg (by omega) (by omega)) (ab_rg (by omega) (by omega)) (ab_rg (by omega) (by omega)) (ab_rg (by omega) (by omega)) (ab_rg (by omega) (by omega))
  exact leaf2 nt1_s ck_33_8 hf 6 rfl (ab_rg (by omega) (by omega)) (ab_rg (by omega) (by omega)) (ab_rg (by omega) (by omega)) (ab_rg (by omega) (by omega)) (ab_rg (by omega) (by omega)) (ab_rg (by omega) (by omega))
