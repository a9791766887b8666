def cs_22 : List (List AW × AW) := [([xT, .inr (-2147483648, 1), xT, xT, xT, xT], xI (-1)),
  ([xT, .inr (2, 200), xT, xT, xT, xT], xI (-1)),
  ([xT, .inr (201, 2147483647), xT, xT, xT, xT], xI (-1))]
theorem ck_22 : cb_L nt2 850 859 cs_22 = true := by decide +kernel
set_option maxHeartbeats 4000000 in
theorem case_22 {xs : Nat → Int} {h : AH} (hf : FR 6 xs h) (q0 : -2147483648 ≤ xs 0 ∧ xs 0 ≤ 2147483647) (q1 : -2147483648 ≤ xs 1 ∧ xs 1 ≤ 2147483647) (q2 : -2147483648 ≤ xs 2 ∧ xs 2 ≤ 2147483647) (q3 : -2147483648 ≤ xs 3 ∧ xs 3 ≤ 2147483647) (q4 : -2147483648 ≤ xs 4 ∧ xs 4 ≤ 2147483647) (q5 : -2147483648 ≤ xs 5 ∧ xs 5 ≤ 2147483647) : XP 1000 321 850 lsc [] h lwQ := by
  by_cases z1_0 : xs 1 ≤ 1
  · skip
    exact leaf2 nt2_s ck_22 hf 0 rfl (ab_rg (by omega) (by omega)) (ab_rg (by omega) (by omega)) (ab_rg (by omega) (by omega)) (ab_rg (by omega) (by omega)) (ab_rg (by omega) (by omega)) (ab_rg (by omega) (by omega))
  by_cases z1_1 : xs 1 ≤ 200
  · skip
    exact leaf2 nt2_s ck_22 hf 1 rfl (ab_rg (by omega) (by omega)) (ab_rg (by omega) (by omega)) (ab_rg (by omega) (by omega)) (ab_rg (by omega) (by omega)) (ab_rg (by omega) (by omega)) (ab_rg (by omega) (by omega))
  exact leaf2 nt2_s ck_22 hf 2 rfl (ab_rg (by omega) (by omega)) (ab_rg (by omega) (by omega)) (ab_rg (by omega) (by omega)) (ab_rg (by omega) (by omega)) (ab_rg (by omega) (by omega)) (ab_rg (by omega) (by omega))
