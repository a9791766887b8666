theorem ctor_fresh : ∃ h1, runC = some (none, h1) ∧ hN h1 = 76 ∧ hS h1 = 7694 ∧ FrC h1 := by
  have hn := ctor_n
  have c0 := ctor_0
  have c1 := ctor_1
  have c2 := ctor_2
  have c3 := ctor_3
  have c4 := ctor_4
  have c5 := ctor_5
  have c6 := ctor_6
  have c7 := ctor_7
  have c8 := ctor_8
  have c9 := ctor_9
  have c10 := ctor_10
  have c11 := ctor_11
  have c12 := ctor_12
  cases hr : runC with
  | none => rw [hr] at hn; cases hn
  | some q =>
    obtain ⟨r, h1⟩ := q
    cases r with
    | some r => rw [hr] at hn; cases hn
    | none =>
      simp only [hr] at hn c0 c1 c2 c3 c4 c5 c6 c7 c8 c9 c10 c11 c12
      have hn := of_decide_eq_true hn
      refine ⟨h1, rfl, hn.1, hn.2, fun k hk => ?_⟩
      rcases Nat.lt_or_ge k 4 with z | z
      · exact ckT_of c0 k (by omega) z
      rcases Nat.lt_or_ge k 5 with z | z
      · exact ckT_of c1 k (by omega) z
      rcases Nat.lt_or_ge k 14 with z | z
      · exact ckT_of c2 k (by omega) z
      rcases Nat.lt_or_ge k 15 with z | z
      · exact ckT_of c3 k (by omega) z
      rcases Nat.lt_or_ge k 23 with z | z
      · exact ckT_of c4 k (by omega) z
      rcases Nat.lt_or_ge k 30 with z | z
      · exact ckT_of c5 k (by omega) z
      rcases Nat.lt_or_ge k 36 with z | z
      · exact ckT_of c6 k (by omega) z
      rcases Nat.lt_or_ge k 42 with z | z
      · exact ckT_of c7 k (by omega) z
      rcases Nat.lt_or_ge k 48 with z | z
      · exact ckT_of c8 k (by omega) z
      rcases Nat.lt_or_ge k 60 with z | z
      · exact ckT_of c9 k (by omega) z
      rcases Nat.lt_or_ge k 72 with z | z
      · exact ckT_of c10 k (by omega) z
      rcases Nat.lt_or_ge k 74 with z | z
      · exact ckT_of c11 k (by omega) z
      exact ckT_of c12 k (by omega) hk
theorem Kst_lo {L k : Nat} (h : k < 1000000) : Kst L k = (99, 0) := by
  unfold Kst
  rw [if_neg (by omega), if_neg (by omega)]
theorem EXT_st (L : Nat) (xs : Nat → Int) : EXT hC0 (hSt L xs) := ⟨rfl, rfl, fun k hk => absurd rfl hk⟩
theorem OUT_st (L : Nat) (xs : Nat → Int) : OUT L xs (hSt L xs) := ⟨Nat.zero_le _, fun k _ => ⟨rfl, fun _ => rfl⟩⟩
/-- new HookSwings(): from the start the class's cells are made, fresh -/
theorem X_ctor (L : Nat) (xs : Nat → Int) (d : Nat) : ∃ h1, hN h1 = 76 ∧ hS h1 = 7694 ∧ FrC h1 ∧ OUT L xs h1 ∧ ∀ Q, XC (20 + 1) 117 [vR 0] (hNew (hSt L xs) 9 0 (nF 9) (dfO 9)) Q = Q none h1 := by
  obtain ⟨h1, hr, h2, h3, hf⟩ := ctor_fresh
  have he := EXT_new (EXT_st L xs) 9 0 (nF 9) (dfO 9)
  obtain ⟨h1', hr', e⟩ := xec_ext 1000 20 117 0 _ [] _ _ he none h1 hr
  have ho : OUT L xs (hNew (hSt L xs) 9 0 (nF 9) (dfO 9)) := by
    refine ⟨by show 0 + 1 ≤ 5000; decide, fun k hk => ?_⟩
    have hne : k ≠ hN (hSt L xs) := by rw [hSt_N]; omega
    exact ⟨if_neg hne, fun i => if_neg hne⟩
  refine ⟨h1', by rw [← e.1]; exact h2, by rw [← e.2.1]; exact h3, fun k hk => ?_, OUT_run ho hr', XC_eq (Nat.le_of_ble_eq_true rfl) ⟨1000, none, h1', hr', rfl, rfl⟩⟩
  have hk99 : (hK h1 k).1 ≠ 99 := by
    rw [(hf k hk).1]
    have : ∀ k, k < 76 → (K0 k).1 ≠ 99 := by decide +kernel
    exact this k hk
  obtain ⟨e1, e2⟩ := e.2.2 k hk99
  exact ⟨by rw [e1]; exact (hf k hk).1, fun i hi => by rw [e2]; exact (hf k hk).2 i hi⟩
