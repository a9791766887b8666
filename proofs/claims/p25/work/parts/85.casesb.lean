def kc146_4_0_0 : KT := ([.inl (.inr (.inr (some 0))), .inl (.inl 4), .inl (.inl 0), .inl (.inl 0)], some (.inr (true, 1, 1)), [], [], [(77, 16, .inr (false, 0, 9999))], [(77, 16, .inr (false, 0, 9999))], [], 2)
theorem kc146_4_0_0e : chkE JB [] [] kc146_4_0_0 1 146 = true := by decide +kernel
theorem kc146_4_0_0o {β : Nat} : KOK JB (W0 β) 146 kc146_4_0_0 := KOK_of W0_f (CT := []) (cuts := []) trivial kc146_4_0_0e (fun cu h => by cases h) rfl
def kc280_4_0_0 : KT := ([.inl (.inr (.inr (some 76))), .inl (.inl 4), .inl (.inl 0), .inl (.inl 0)], some (.inr (true, 1, 1)), [], [], [(77, 16, .inr (false, 0, 9999))], [(77, 16, .inr (false, 0, 9999))], [], 2)
theorem kc280_4_0_0e : chkE JB [] [] kc280_4_0_0 1 280 = true := by decide +kernel
theorem kc280_4_0_0o {β : Nat} : KOK JB (W0 β) 280 kc280_4_0_0 := KOK_of W0_f (CT := []) (cuts := []) trivial kc280_4_0_0e (fun cu h => by cases h) rfl
def kc146_4_1_0 : KT := ([.inl (.inr (.inr (some 0))), .inl (.inl 4), .inl (.inl 1), .inl (.inl 0)], some (.inr (true, 1, 1)), [], [], [(77, 16, .inr (false, 0, 9999))], [(77, 16, .inr (false, 0, 9999))], [], 2)
theorem kc146_4_1_0e : chkE JB [] [] kc146_4_1_0 1 146 = true := by decide +kernel
theorem kc146_4_1_0o {β : Nat} : KOK JB (W0 β) 146 kc146_4_1_0 := KOK_of W0_f (CT := []) (cuts := []) trivial kc146_4_1_0e (fun cu h => by cases h) rfl
def kc280_4_1_0 : KT := ([.inl (.inr (.inr (some 76))), .inl (.inl 4), .inl (.inl 1), .inl (.inl 0)], some (.inr (true, 1, 1)), [], [], [(77, 16, .inr (false, 0, 9999))], [(77, 16, .inr (false, 0, 9999))], [], 2)
theorem kc280_4_1_0e : chkE JB [] [] kc280_4_1_0 1 280 = true := by decide +kernel
theorem kc280_4_1_0o {β : Nat} : KOK JB (W0 β) 280 kc280_4_1_0 := KOK_of W0_f (CT := []) (cuts := []) trivial kc280_4_1_0e (fun cu h => by cases h) rfl
def kc146_4_2_0 : KT := ([.inl (.inr (.inr (some 0))), .inl (.inl 4), .inl (.inl 2), .inl (.inl 0)], some (.inr (true, 81, 81)), [], [], [(77, 16, .inr (false, 0, 9999))], [(77, 16, .inr (false, 0, 9999))], [], 2)
theorem kc146_4_2_0e : chkE JB [] [] kc146_4_2_0 1 146 = true := by decide +kernel
theorem kc146_4_2_0o {β : Nat} : KOK JB (W0 β) 146 kc146_4_2_0 := KOK_of W0_f (CT := []) (cuts := []) trivial kc146_4_2_0e (fun cu h => by cases h) rfl
def kc280_4_2_0 : KT := ([.inl (.inr (.inr (some 76))), .inl (.inl 4), .inl (.inl 2), .inl (.inl 0)], some (.inr (true, 81, 81)), [], [], [(77, 16, .inr (false, 0, 9999))], [(77, 16, .inr (false, 0, 9999))], [], 2)
theorem kc280_4_2_0e : chkE JB [] [] kc280_4_2_0 1 280 = true := by decide +kernel
theorem kc280_4_2_0o {β : Nat} : KOK JB (W0 β) 280 kc280_4_2_0 := KOK_of W0_f (CT := []) (cuts := []) trivial kc280_4_2_0e (fun cu h => by cases h) rfl
def kc146_4_3_0 : KT := ([.inl (.inr (.inr (some 0))), .inl (.inl 4), .inl (.inl 3), .inl (.inl 0)], some (.inr (true, 16, 16)), [], [], [(77, 16, .inr (false, 0, 9999))], [(77, 16, .inr (false, 0, 9999))], [], 2)
theorem kc146_4_3_0e : chkE JB [] [] kc146_4_3_0 1 146 = true := by decide +kernel
theorem kc146_4_3_0o {β : Nat} : KOK JB (W0 β) 146 kc146_4_3_0 := KOK_of W0_f (CT := []) (cuts := []) trivial kc146_4_3_0e (fun cu h => by cases h) rfl
def kc280_4_3_0 : KT := ([.inl (.inr (.inr (some 76))), .inl (.inl 4), .inl (.inl 3), .inl (.inl 0)], some (.inr (true, 16, 16)), [], [], [(77, 16, .inr (false, 0, 9999))], [(77, 16, .inr (false, 0, 9999))], [], 2)
theorem kc280_4_3_0e : chkE JB [] [] kc280_4_3_0 1 280 = true := by decide +kernel
theorem kc280_4_3_0o {β : Nat} : KOK JB (W0 β) 280 kc280_4_3_0 := KOK_of W0_f (CT := []) (cuts := []) trivial kc280_4_3_0e (fun cu h => by cases h) rfl
def kc146_4_4_0 : KT := ([.inl (.inr (.inr (some 0))), .inl (.inl 4), .inl (.inl 4), .inl (.inl 0)], some (.inr (true, 1, 1)), [], [], [(77, 16, .inr (false, 0, 9999))], [(77, 16, .inr (false, 0, 9999))], [], 2)
theorem kc146_4_4_0e : chkE JB [] [] kc146_4_4_0 1 146 = true := by decide +kernel
theorem kc146_4_4_0o {β : Nat} : KOK JB (W0 β) 146 kc146_4_4_0 := KOK_of W0_f (CT := []) (cuts := []) trivial kc146_4_4_0e (fun cu h => by cases h) rfl
def kc280_4_4_0 : KT := ([.inl (.inr (.inr (some 76))), .inl (.inl 4), .inl (.inl 4), .inl (.inl 0)], some (.inr (true, 1, 1)), [], [], [(77, 16, .inr (false, 0, 9999))], [(77, 16, .inr (false, 0, 9999))], [], 2)
theorem kc280_4_4_0e : chkE JB [] [] kc280_4_4_0 1 280 = true := by decide +kernel
theorem kc280_4_4_0o {β : Nat} : KOK JB (W0 β) 280 kc280_4_4_0 := KOK_of W0_f (CT := []) (cuts := []) trivial kc280_4_4_0e (fun cu h => by cases h) rfl
def kc146_4_5_0 : KT := ([.inl (.inr (.inr (some 0))), .inl (.inl 4), .inl (.inl 5), .inl (.inl 0)], some (.inr (true, 81, 81)), [], [], [(77, 16, .inr (false, 0, 9999))], [(77, 16, .inr (false, 0, 9999))], [], 2)
theorem kc146_4_5_0e : chkE JB [] [] kc146_4_5_0 1 146 = true := by decide +kernel
theorem kc146_4_5_0o {β : Nat} : KOK JB (W0 β) 146 kc146_4_5_0 := KOK_of W0_f (CT := []) (cuts := []) trivial kc146_4_5_0e (fun cu h => by cases h) rfl
def kc280_4_5_0 : KT := ([.inl (.inr (.inr (some 76))), .inl (.inl 4), .inl (.inl 5), .inl (.inl 0)], some (.inr (true, 81, 81)), [], [], [(77, 16, .inr (false, 0, 9999))], [(77, 16, .inr (false, 0, 9999))], [], 2)
theorem kc280_4_5_0e : chkE JB [] [] kc280_4_5_0 1 280 = true := by decide +kernel
theorem kc280_4_5_0o {β : Nat} : KOK JB (W0 β) 280 kc280_4_5_0 := KOK_of W0_f (CT := []) (cuts := []) trivial kc280_4_5_0e (fun cu h => by cases h) rfl
def kc146_4_6_0 : KT := ([.inl (.inr (.inr (some 0))), .inl (.inl 4), .inl (.inl 6), .inl (.inl 0)], some (.inr (true, 2401, 2401)), [], [], [(77, 16, .inr (false, 0, 9999))], [(77, 16, .inr (false, 0, 9999))], [], 2)
theorem kc146_4_6_0e : chkE JB [] [] kc146_4_6_0 1 146 = true := by decide +kernel
theorem kc146_4_6_0o {β : Nat} : KOK JB (W0 β) 146 kc146_4_6_0 := KOK_of W0_f (CT := []) (cuts := []) trivial kc146_4_6_0e (fun cu h => by cases h) rfl
def kc280_4_6_0 : KT := ([.inl (.inr (.inr (some 76))), .inl (.inl 4), .inl (.inl 6), .inl (.inl 0)], some (.inr (true, 2401, 2401)), [], [], [(77, 16, .inr (false, 0, 9999))], [(77, 16, .inr (false, 0, 9999))], [], 2)
theorem kc280_4_6_0e : chkE JB [] [] kc280_4_6_0 1 280 = true := by decide +kernel
theorem kc280_4_6_0o {β : Nat} : KOK JB (W0 β) 280 kc280_4_6_0 := KOK_of W0_f (CT := []) (cuts := []) trivial kc280_4_6_0e (fun cu h => by cases h) rfl
def kc146_4_7_0 : KT := ([.inl (.inr (.inr (some 0))), .inl (.inl 4), .inl (.inl 7), .inl (.inl 0)], some (.inr (true, 256, 256)), [], [], [(77, 16, .inr (false, 0, 9999))], [(77, 16, .inr (false, 0, 9999))], [], 2)
theorem kc146_4_7_0e : chkE JB [] [] kc146_4_7_0 1 146 = true := by decide +kernel
theorem kc146_4_7_0o {β : Nat} : KOK JB (W0 β) 146 kc146_4_7_0 := KOK_of W0_f (CT := []) (cuts := []) trivial kc146_4_7_0e (fun cu h => by cases h) rfl
def kc280_4_7_0 : KT := ([.inl (.inr (.inr (some 76))), .inl (.inl 4), .inl (.inl 7), .inl (.inl 0)], some (.inr (true, 256, 256)), [], [], [(77, 16, .inr (false, 0, 9999))], [(77, 16, .inr (false, 0, 9999))], [], 2)
theorem kc280_4_7_0e : chkE JB [] [] kc280_4_7_0 1 280 = true := by decide +kernel
theorem kc280_4_7_0o {β : Nat} : KOK JB (W0 β) 280 kc280_4_7_0 := KOK_of W0_f (CT := []) (cuts := []) trivial kc280_4_7_0e (fun cu h => by cases h) rfl
def kc146_4_8_0 : KT := ([.inl (.inr (.inr (some 0))), .inl (.inl 4), .inl (.inl 8), .inl (.inl 0)], some (.inr (true, 6561, 6561)), [], [], [(77, 16, .inr (false, 0, 9999))], [(77, 16, .inr (false, 0, 9999))], [], 2)
theorem kc146_4_8_0e : chkE JB [] [] kc146_4_8_0 1 146 = true := by decide +kernel
theorem kc146_4_8_0o {β : Nat} : KOK JB (W0 β) 146 kc146_4_8_0 := KOK_of W0_f (CT := []) (cuts := []) trivial kc146_4_8_0e (fun cu h => by cases h) rfl
def kc280_4_8_0 : KT := ([.inl (.inr (.inr (some 76))), .inl (.inl 4), .inl (.inl 8), .inl (.inl 0)], some (.inr (true, 6561, 6561)), [], [], [(77, 16, .inr (false, 0, 9999))], [(77, 16, .inr (false, 0, 9999))], [], 2)
theorem kc280_4_8_0e : chkE JB [] [] kc280_4_8_0 1 280 = true := by decide +kernel
theorem kc280_4_8_0o {β : Nat} : KOK JB (W0 β) 280 kc280_4_8_0 := KOK_of W0_f (CT := []) (cuts := []) trivial kc280_4_8_0e (fun cu h => by cases h) rfl
def kc146_4_9_0 : KT := ([.inl (.inr (.inr (some 0))), .inl (.inl 4), .inl (.inl 9), .inl (.inl 0)], some (.inr (true, 1, 1)), [], [], [(77, 16, .inr (false, 0, 9999))], [(77, 16, .inr (false, 0, 9999))], [], 2)
theorem kc146_4_9_0e : chkE JB [] [] kc146_4_9_0 1 146 = true := by decide +kernel
theorem kc146_4_9_0o {β : Nat} : KOK JB (W0 β) 146 kc146_4_9_0 := KOK_of W0_f (CT := []) (cuts := []) trivial kc146_4_9_0e (fun cu h => by cases h) rfl
def kc280_4_9_0 : KT := ([.inl (.inr (.inr (some 76))), .inl (.inl 4), .inl (.inl 9), .inl (.inl 0)], some (.inr (true, 1, 1)), [], [], [(77, 16, .inr (false, 0, 9999))], [(77, 16, .inr (false, 0, 9999))], [], 2)
theorem kc280_4_9_0e : chkE JB [] [] kc280_4_9_0 1 280 = true := by decide +kernel
theorem kc280_4_9_0o {β : Nat} : KOK JB (W0 β) 280 kc280_4_9_0 := KOK_of W0_f (CT := []) (cuts := []) trivial kc280_4_9_0e (fun cu h => by cases h) rfl
set_option maxHeartbeats 4000000 in
theorem kcc_4_0 {β L : Nat} {xs : Nat → Int} {h : AH} {q : Int} (h0 : 0 ≤ q) (h9 : q ≤ 9) (hL : LI β L xs h) : ∃ (z : Int) (h1 h2 : AH), LI β L xs h1 ∧ LI β L xs h2 ∧ (∀ Q : Option AV → AH → Prop, XC 1000 146 [vR 0, vI 4, vI q, vI 0] h Q = Q (some (vL z)) h1) ∧ ∀ Q : Option AV → AH → Prop, XC 1000 280 [vR 76, vI 4, vI q, vI 0] h1 Q = Q (some (vL z)) h2 := by
  by_cases d0 : q = 0
  · subst d0
    obtain ⟨r1, h1, ⟨v1, rfl, y1, rfl, e1, f1⟩, l1, E1⟩ := LI_k (kc146_4_0_0o (β := β)) (by decide +kernel) (by decide +kernel) (vs := [vR 0, vI 4, vI 0, vI 0]) ⟨_, _, rfl, rfl, _, _, rfl, rfl, _, _, rfl, rfl, _, _, rfl, rfl, rfl⟩ hL
    obtain ⟨r2, h2, ⟨v2, rfl, y2, rfl, e2, f2⟩, l2, E2⟩ := LI_k (kc280_4_0_0o (β := β)) (by decide +kernel) (by decide +kernel) (vs := [vR 76, vI 4, vI 0, vI 0]) ⟨_, _, rfl, rfl, _, _, rfl, rfl, _, _, rfl, rfl, _, _, rfl, rfl, rfl⟩ l1
    have e1 : (1 : Int) ≤ y1 := e1
    have f1 : y1 ≤ (1 : Int) := f1
    obtain rfl : y1 = 1 := Int.le_antisymm f1 e1
    have e2 : (1 : Int) ≤ y2 := e2
    have f2 : y2 ≤ (1 : Int) := f2
    obtain rfl : y2 = 1 := Int.le_antisymm f2 e2
    exact ⟨_, h1, h2, l1, l2, E1, E2⟩
  by_cases d1 : q = 1
  · subst d1
    obtain ⟨r1, h1, ⟨v1, rfl, y1, rfl, e1, f1⟩, l1, E1⟩ := LI_k (kc146_4_1_0o (β := β)) (by decide +kernel) (by decide +kernel) (vs := [vR 0, vI 4, vI 1, vI 0]) ⟨_, _, rfl, rfl, _, _, rfl, rfl, _, _, rfl, rfl, _, _, rfl, rfl, rfl⟩ hL
    obtain ⟨r2, h2, ⟨v2, rfl, y2, rfl, e2, f2⟩, l2, E2⟩ := LI_k (kc280_4_1_0o (β := β)) (by decide +kernel) (by decide +kernel) (vs := [vR 76, vI 4, vI 1, vI 0]) ⟨_, _, rfl, rfl, _, _, rfl, rfl, _, _, rfl, rfl, _, _, rfl, rfl, rfl⟩ l1
    have e1 : (1 : Int) ≤ y1 := e1
    have f1 : y1 ≤ (1 : Int) := f1
    obtain rfl : y1 = 1 := Int.le_antisymm f1 e1
    have e2 : (1 : Int) ≤ y2 := e2
    have f2 : y2 ≤ (1 : Int) := f2
    obtain rfl : y2 = 1 := Int.le_antisymm f2 e2
    exact ⟨_, h1, h2, l1, l2, E1, E2⟩
  by_cases d2 : q = 2
  · subst d2
    obtain ⟨r1, h1, ⟨v1, rfl, y1, rfl, e1, f1⟩, l1, E1⟩ := LI_k (kc146_4_2_0o (β := β)) (by decide +kernel) (by decide +kernel) (vs := [vR 0, vI 4, vI 2, vI 0]) ⟨_, _, rfl, rfl, _, _, rfl, rfl, _, _, rfl, rfl, _, _, rfl, rfl, rfl⟩ hL
    obtain ⟨r2, h2, ⟨v2, rfl, y2, rfl, e2, f2⟩, l2, E2⟩ := LI_k (kc280_4_2_0o (β := β)) (by decide +kernel) (by decide +kernel) (vs := [vR 76, vI 4, vI 2, vI 0]) ⟨_, _, rfl, rfl, _, _, rfl, rfl, _, _, rfl, rfl, _, _, rfl, rfl, rfl⟩ l1
    have e1 : (81 : Int) ≤ y1 := e1
    have f1 : y1 ≤ (81 : Int) := f1
    obtain rfl : y1 = 81 := Int.le_antisymm f1 e1
    have e2 : (81 : Int) ≤ y2 := e2
    have f2 : y2 ≤ (81 : Int) := f2
    obtain rfl : y2 = 81 := Int.le_antisymm f2 e2
    exact ⟨_, h1, h2, l1, l2, E1, E2⟩
  by_cases d3 : q = 3
  · subst d3
    obtain ⟨r1, h1, ⟨v1, rfl, y1, rfl, e1, f1⟩, l1, E1⟩ := LI_k (kc146_4_3_0o (β := β)) (by decide +kernel) (by decide +kernel) (vs := [vR 0, vI 4, vI 3, vI 0]) ⟨_, _, rfl, rfl, _, _, rfl, rfl, _, _, rfl, rfl, _, _, rfl, rfl, rfl⟩ hL
    obtain ⟨r2, h2, ⟨v2, rfl, y2, rfl, e2, f2⟩, l2, E2⟩ := LI_k (kc280_4_3_0o (β := β)) (by decide +kernel) (by decide +kernel) (vs := [vR 76, vI 4, vI 3, vI 0]) ⟨_, _, rfl, rfl, _, _, rfl, rfl, _, _, rfl, rfl, _, _, rfl, rfl, rfl⟩ l1
    have e1 : (16 : Int) ≤ y1 := e1
    have f1 : y1 ≤ (16 : Int) := f1
    obtain rfl : y1 = 16 := Int.le_antisymm f1 e1
    have e2 : (16 : Int) ≤ y2 := e2
    have f2 : y2 ≤ (16 : Int) := f2
    obtain rfl : y2 = 16 := Int.le_antisymm f2 e2
    exact ⟨_, h1, h2, l1, l2, E1, E2⟩
  by_cases d4 : q = 4
  · subst d4
    obtain ⟨r1, h1, ⟨v1, rfl, y1, rfl, e1, f1⟩, l1, E1⟩ := LI_k (kc146_4_4_0o (β := β)) (by decide +kernel) (by decide +kernel) (vs := [vR 0, vI 4, vI 4, vI 0]) ⟨_, _, rfl, rfl, _, _, rfl, rfl, _, _, rfl, rfl, _, _, rfl, rfl, rfl⟩ hL
    obtain ⟨r2, h2, ⟨v2, rfl, y2, rfl, e2, f2⟩, l2, E2⟩ := LI_k (kc280_4_4_0o (β := β)) (by decide +kernel) (by decide +kernel) (vs := [vR 76, vI 4, vI 4, vI 0]) ⟨_, _, rfl, rfl, _, _, rfl, rfl, _, _, rfl, rfl, _, _, rfl, rfl, rfl⟩ l1
    have e1 : (1 : Int) ≤ y1 := e1
    have f1 : y1 ≤ (1 : Int) := f1
    obtain rfl : y1 = 1 := Int.le_antisymm f1 e1
    have e2 : (1 : Int) ≤ y2 := e2
    have f2 : y2 ≤ (1 : Int) := f2
    obtain rfl : y2 = 1 := Int.le_antisymm f2 e2
    exact ⟨_, h1, h2, l1, l2, E1, E2⟩
  by_cases d5 : q = 5
  · subst d5
    obtain ⟨r1, h1, ⟨v1, rfl, y1, rfl, e1, f1⟩, l1, E1⟩ := LI_k (kc146_4_5_0o (β := β)) (by decide +kernel) (by decide +kernel) (vs := [vR 0, vI 4, vI 5, vI 0]) ⟨_, _, rfl, rfl, _, _, rfl, rfl, _, _, rfl, rfl, _, _, rfl, rfl, rfl⟩ hL
    obtain ⟨r2, h2, ⟨v2, rfl, y2, rfl, e2, f2⟩, l2, E2⟩ := LI_k (kc280_4_5_0o (β := β)) (by decide +kernel) (by decide +kernel) (vs := [vR 76, vI 4, vI 5, vI 0]) ⟨_, _, rfl, rfl, _, _, rfl, rfl, _, _, rfl, rfl, _, _, rfl, rfl, rfl⟩ l1
    have e1 : (81 : Int) ≤ y1 := e1
    have f1 : y1 ≤ (81 : Int) := f1
    obtain rfl : y1 = 81 := Int.le_antisymm f1 e1
    have e2 : (81 : Int) ≤ y2 := e2
    have f2 : y2 ≤ (81 : Int) := f2
    obtain rfl : y2 = 81 := Int.le_antisymm f2 e2
    exact ⟨_, h1, h2, l1, l2, E1, E2⟩
  by_cases d6 : q = 6
  · subst d6
    obtain ⟨r1, h1, ⟨v1, rfl, y1, rfl, e1, f1⟩, l1, E1⟩ := LI_k (kc146_4_6_0o (β := β)) (by decide +kernel) (by decide +kernel) (vs := [vR 0, vI 4, vI 6, vI 0]) ⟨_, _, rfl, rfl, _, _, rfl, rfl, _, _, rfl, rfl, _, _, rfl, rfl, rfl⟩ hL
    obtain ⟨r2, h2, ⟨v2, rfl, y2, rfl, e2, f2⟩, l2, E2⟩ := LI_k (kc280_4_6_0o (β := β)) (by decide +kernel) (by decide +kernel) (vs := [vR 76, vI 4, vI 6, vI 0]) ⟨_, _, rfl, rfl, _, _, rfl, rfl, _, _, rfl, rfl, _, _, rfl, rfl, rfl⟩ l1
    have e1 : (2401 : Int) ≤ y1 := e1
    have f1 : y1 ≤ (2401 : Int) := f1
    obtain rfl : y1 = 2401 := Int.le_antisymm f1 e1
    have e2 : (2401 : Int) ≤ y2 := e2
    have f2 : y2 ≤ (2401 : Int) := f2
    obtain rfl : y2 = 2401 := Int.le_antisymm f2 e2
    exact ⟨_, h1, h2, l1, l2, E1, E2⟩
  by_cases d7 : q = 7
  · subst d7
    obtain ⟨r1, h1, ⟨v1, rfl, y1, rfl, e1, f1⟩, l1, E1⟩ := LI_k (kc146_4_7_0o (β := β)) (by decide +kernel) (by decide +kernel) (vs := [vR 0, vI 4, vI 7, vI 0]) ⟨_, _, rfl, rfl, _, _, rfl, rfl, _, _, rfl, rfl, _, _, rfl, rfl, rfl⟩ hL
    obtain ⟨r2, h2, ⟨v2, rfl, y2, rfl, e2, f2⟩, l2, E2⟩ := LI_k (kc280_4_7_0o (β := β)) (by decide +kernel) (by decide +kernel) (vs := [vR 76, vI 4, vI 7, vI 0]) ⟨_, _, rfl, rfl, _, _, rfl, rfl, _, _, rfl, rfl, _, _, rfl, rfl, rfl⟩ l1
    have e1 : (256 : Int) ≤ y1 := e1
    have f1 : y1 ≤ (256 : Int) := f1
    obtain rfl : y1 = 256 := Int.le_antisymm f1 e1
    have e2 : (256 : Int) ≤ y2 := e2
    have f2 : y2 ≤ (256 : Int) := f2
    obtain rfl : y2 = 256 := Int.le_antisymm f2 e2
    exact ⟨_, h1, h2, l1, l2, E1, E2⟩
  by_cases d8 : q = 8
  · subst d8
    obtain ⟨r1, h1, ⟨v1, rfl, y1, rfl, e1, f1⟩, l1, E1⟩ := LI_k (kc146_4_8_0o (β := β)) (by decide +kernel) (by decide +kernel) (vs := [vR 0, vI 4, vI 8, vI 0]) ⟨_, _, rfl, rfl, _, _, rfl, rfl, _, _, rfl, rfl, _, _, rfl, rfl, rfl⟩ hL
    obtain ⟨r2, h2, ⟨v2, rfl, y2, rfl, e2, f2⟩, l2, E2⟩ := LI_k (kc280_4_8_0o (β := β)) (by decide +kernel) (by decide +kernel) (vs := [vR 76, vI 4, vI 8, vI 0]) ⟨_, _, rfl, rfl, _, _, rfl, rfl, _, _, rfl, rfl, _, _, rfl, rfl, rfl⟩ l1
    have e1 : (6561 : Int) ≤ y1 := e1
    have f1 : y1 ≤ (6561 : Int) := f1
    obtain rfl : y1 = 6561 := Int.le_antisymm f1 e1
    have e2 : (6561 : Int) ≤ y2 := e2
    have f2 : y2 ≤ (6561 : Int) := f2
    obtain rfl : y2 = 6561 := Int.le_antisymm f2 e2
    exact ⟨_, h1, h2, l1, l2, E1, E2⟩
  have d9 : q = 9 := by omega
  subst d9
  obtain ⟨r1, h1, ⟨v1, rfl, y1, rfl, e1, f1⟩, l1, E1⟩ := LI_k (kc146_4_9_0o (β := β)) (by decide +kernel) (by decide +kernel) (vs := [vR 0, vI 4, vI 9, vI 0]) ⟨_, _, rfl, rfl, _, _, rfl, rfl, _, _, rfl, rfl, _, _, rfl, rfl, rfl⟩ hL
  obtain ⟨r2, h2, ⟨v2, rfl, y2, rfl, e2, f2⟩, l2, E2⟩ := LI_k (kc280_4_9_0o (β := β)) (by decide +kernel) (by decide +kernel) (vs := [vR 76, vI 4, vI 9, vI 0]) ⟨_, _, rfl, rfl, _, _, rfl, rfl, _, _, rfl, rfl, _, _, rfl, rfl, rfl⟩ l1
  have e1 : (1 : Int) ≤ y1 := e1
  have f1 : y1 ≤ (1 : Int) := f1
  obtain rfl : y1 = 1 := Int.le_antisymm f1 e1
  have e2 : (1 : Int) ≤ y2 := e2
  have f2 : y2 ≤ (1 : Int) := f2
  obtain rfl : y2 = 1 := Int.le_antisymm f2 e2
  exact ⟨_, h1, h2, l1, l2, E1, E2⟩
def kc146_4_0_1 : KT := ([.inl (.inr (.inr (some 0))), .inl (.inl 4), .inl (.inl 0), .inl (.inl 1)], some (.inr (true, 10000, 10000)), [], [], [(77, 16, .inr (false, 0, 9999))], [(77, 16, .inr (false, 0, 9999))], [], 2)
theorem kc146_4_0_1e : chkE JB [] [] kc146_4_0_1 1 146 = true := by decide +kernel
theorem kc146_4_0_1o {β : Nat} : KOK JB (W0 β) 146 kc146_4_0_1 := KOK_of W0_f (CT := []) (cuts := []) trivial kc146_4_0_1e (fun cu h => by cases h) rfl
def kc280_4_0_1 : KT := ([.inl (.inr (.inr (some 76))), .inl (.inl 4), .inl (.inl 0), .inl (.inl 1)], some (.inr (true, 10000, 10000)), [], [], [(77, 16, .inr (false, 0, 9999))], [(77, 16, .inr (false, 0, 9999))], [], 2)
theorem kc280_4_0_1e : chkE JB [] [] kc280_4_0_1 1 280 = true := by decide +kernel
theorem kc280_4_0_1o {β : Nat} : KOK JB (W0 β) 280 kc280_4_0_1 := KOK_of W0_f (CT := []) (cuts := []) trivial kc280_4_0_1e (fun cu h => by cases h) rfl
def kc146_4_1_1 : KT := ([.inl (.inr (.inr (some 0))), .inl (.inl 4), .inl (.inl 1), .inl (.inl 1)], some (.inr (true, 625, 625)), [], [], [(77, 16, .inr (false, 0, 9999))], [(77, 16, .inr (false, 0, 9999))], [], 2)
theorem kc146_4_1_1e : chkE JB [] [] kc146_4_1_1 1 146 = true := by decide +kernel
theorem kc146_4_1_1o {β : Nat} : KOK JB (W0 β) 146 kc146_4_1_1 := KOK_of W0_f (CT := []) (cuts := []) trivial kc146_4_1_1e (fun cu h => by cases h) rfl
def kc280_4_1_1 : KT := ([.inl (.inr (.inr (some 76))), .inl (.inl 4), .inl (.inl 1), .inl (.inl 1)], some (.inr (true, 625, 625)), [], [], [(77, 16, .inr (false, 0, 9999))], [(77, 16, .inr (false, 0, 9999))], [], 2)
theorem kc280_4_1_1e : chkE JB [] [] kc280_4_1_1 1 280 = true := by decide +kernel
theorem kc280_4_1_1o {β : Nat} : KOK JB (W0 β) 280 kc280_4_1_1 := KOK_of W0_f (CT := []) (cuts := []) trivial kc280_4_1_1e (fun cu h => by cases h) rfl
def kc146_4_2_1 : KT := ([.inl (.inr (.inr (some 0))), .inl (.inl 4), .inl (.inl 2), .inl (.inl 1)], some (.inr (true, 10000, 10000)), [], [], [(77, 16, .inr (false, 0, 9999))], [(77, 16, .inr (false, 0, 9999))], [], 2)
theorem kc146_4_2_1e : chkE JB [] [] kc146_4_2_1 1 146 = true := by decide +kernel
theorem kc146_4_2_1o {β : Nat} : KOK JB (W0 β) 146 kc146_4_2_1 := KOK_of W0_f (CT := []) (cuts := []) trivial kc146_4_2_1e (fun cu h => by cases h) rfl
def kc280_4_2_1 : KT := ([.inl (.inr (.inr (some 76))), .inl (.inl 4), .inl (.inl 2), .inl (.inl 1)], some (.inr (true, 10000, 10000)), [], [], [(77, 16, .inr (false, 0, 9999))], [(77, 16, .inr (false, 0, 9999))], [], 2)
theorem kc280_4_2_1e : chkE JB [] [] kc280_4_2_1 1 280 = true := by decide +kernel
theorem kc280_4_2_1o {β : Nat} : KOK JB (W0 β) 280 kc280_4_2_1 := KOK_of W0_f (CT := []) (cuts := []) trivial kc280_4_2_1e (fun cu h => by cases h) rfl
def kc146_4_3_1 : KT := ([.inl (.inr (.inr (some 0))), .inl (.inl 4), .inl (.inl 3), .inl (.inl 1)], some (.inr (true, 625, 625)), [], [], [(77, 16, .inr (false, 0, 9999))], [(77, 16, .inr (false, 0, 9999))], [], 2)
theorem kc146_4_3_1e : chkE JB [] [] kc146_4_3_1 1 146 = true := by decide +kernel
theorem kc146_4_3_1o {β : Nat} : KOK JB (W0 β) 146 kc146_4_3_1 := KOK_of W0_f (CT := []) (cuts := []) trivial kc146_4_3_1e (fun cu h => by cases h) rfl
def kc280_4_3_1 : KT := ([.inl (.inr (.inr (some 76))), .inl (.inl 4), .inl (.inl 3), .inl (.inl 1)], some (.inr (true, 625, 625)), [], [], [(77, 16, .inr (false, 0, 9999))], [(77, 16, .inr (false, 0, 9999))], [], 2)
theorem kc280_4_3_1e : chkE JB [] [] kc280_4_3_1 1 280 = true := by decide +kernel
theorem kc280_4_3_1o {β : Nat} : KOK JB (W0 β) 280 kc280_4_3_1 := KOK_of W0_f (CT := []) (cuts := []) trivial kc280_4_3_1e (fun cu h => by cases h) rfl
def kc146_4_4_1 : KT := ([.inl (.inr (.inr (some 0))), .inl (.inl 4), .inl (.inl 4), .inl (.inl 1)], some (.inr (true, 16, 16)), [], [], [(77, 16, .inr (false, 0, 9999))], [(77, 16, .inr (false, 0, 9999))], [], 2)
theorem kc146_4_4_1e : chkE JB [] [] kc146_4_4_1 1 146 = true := by decide +kernel
theorem kc146_4_4_1o {β : Nat} : KOK JB (W0 β) 146 kc146_4_4_1 := KOK_of W0_f (CT := []) (cuts := []) trivial kc146_4_4_1e (fun cu h => by cases h) rfl
def kc280_4_4_1 : KT := ([.inl (.inr (.inr (some 76))), .inl (.inl 4), .inl (.inl 4), .inl (.inl 1)], some (.inr (true, 16, 16)), [], [], [(77, 16, .inr (false, 0, 9999))], [(77, 16, .inr (false, 0, 9999))], [], 2)
theorem kc280_4_4_1e : chkE JB [] [] kc280_4_4_1 1 280 = true := by decide +kernel
theorem kc280_4_4_1o {β : Nat} : KOK JB (W0 β) 280 kc280_4_4_1 := KOK_of W0_f (CT := []) (cuts := []) trivial kc280_4_4_1e (fun cu h => by cases h) rfl
def kc146_4_5_1 : KT := ([.inl (.inr (.inr (some 0))), .inl (.inl 4), .inl (.inl 5), .inl (.inl 1)], some (.inr (true, 625, 625)), [], [], [(77, 16, .inr (false, 0, 9999))], [(77, 16, .inr (false, 0, 9999))], [], 2)
theorem kc146_4_5_1e : chkE JB [] [] kc146_4_5_1 1 146 = true := by decide +kernel
theorem kc146_4_5_1o {β : Nat} : KOK JB (W0 β) 146 kc146_4_5_1 := KOK_of W0_f (CT := []) (cuts := []) trivial kc146_4_5_1e (fun cu h => by cases h) rfl
def kc280_4_5_1 : KT := ([.inl (.inr (.inr (some 76))), .inl (.inl 4), .inl (.inl 5), .inl (.inl 1)], some (.inr (true, 625, 625)), [], [], [(77, 16, .inr (false, 0, 9999))], [(77, 16, .inr (false, 0, 9999))], [], 2)
theorem kc280_4_5_1e : chkE JB [] [] kc280_4_5_1 1 280 = true := by decide +kernel
theorem kc280_4_5_1o {β : Nat} : KOK JB (W0 β) 280 kc280_4_5_1 := KOK_of W0_f (CT := []) (cuts := []) trivial kc280_4_5_1e (fun cu h => by cases h) rfl
def kc146_4_6_1 : KT := ([.inl (.inr (.inr (some 0))), .inl (.inl 4), .inl (.inl 6), .inl (.inl 1)], some (.inr (true, 10000, 10000)), [], [], [(77, 16, .inr (false, 0, 9999))], [(77, 16, .inr (false, 0, 9999))], [], 2)
theorem kc146_4_6_1e : chkE JB [] [] kc146_4_6_1 1 146 = true := by decide +kernel
theorem kc146_4_6_1o {β : Nat} : KOK JB (W0 β) 146 kc146_4_6_1 := KOK_of W0_f (CT := []) (cuts := []) trivial kc146_4_6_1e (fun cu h => by cases h) rfl
def kc280_4_6_1 : KT := ([.inl (.inr (.inr (some 76))), .inl (.inl 4), .inl (.inl 6), .inl (.inl 1)], some (.inr (true, 10000, 10000)), [], [], [(77, 16, .inr (false, 0, 9999))], [(77, 16, .inr (false, 0, 9999))], [], 2)
theorem kc280_4_6_1e : chkE JB [] [] kc280_4_6_1 1 280 = true := by decide +kernel
theorem kc280_4_6_1o {β : Nat} : KOK JB (W0 β) 280 kc280_4_6_1 := KOK_of W0_f (CT := []) (cuts := []) trivial kc280_4_6_1e (fun cu h => by cases h) rfl
def kc146_4_7_1 : KT := ([.inl (.inr (.inr (some 0))), .inl (.inl 4), .inl (.inl 7), .inl (.inl 1)], some (.inr (true, 625, 625)), [], [], [(77, 16, .inr (false, 0, 9999))], [(77, 16, .inr (false, 0, 9999))], [], 2)
theorem kc146_4_7_1e : chkE JB [] [] kc146_4_7_1 1 146 = true := by decide +kernel
theorem kc146_4_7_1o {β : Nat} : KOK JB (W0 β) 146 kc146_4_7_1 := KOK_of W0_f (CT := []) (cuts := []) trivial kc146_4_7_1e (fun cu h => by cases h) rfl
def kc280_4_7_1 : KT := ([.inl (.inr (.inr (some 76))), .inl (.inl 4), .inl (.inl 7), .inl (.inl 1)], some (.inr (true, 625, 625)), [], [], [(77, 16, .inr (false, 0, 9999))], [(77, 16, .inr (false, 0, 9999))], [], 2)
theorem kc280_4_7_1e : chkE JB [] [] kc280_4_7_1 1 280 = true := by decide +kernel
theorem kc280_4_7_1o {β : Nat} : KOK JB (W0 β) 280 kc280_4_7_1 := KOK_of W0_f (CT := []) (cuts := []) trivial kc280_4_7_1e (fun cu h => by cases h) rfl
def kc146_4_8_1 : KT := ([.inl (.inr (.inr (some 0))), .inl (.inl 4), .inl (.inl 8), .inl (.inl 1)], some (.inr (true, 10000, 10000)), [], [], [(77, 16, .inr (false, 0, 9999))], [(77, 16, .inr (false, 0, 9999))], [], 2)
theorem kc146_4_8_1e : chkE JB [] [] kc146_4_8_1 1 146 = true := by decide +kernel
theorem kc146_4_8_1o {β : Nat} : KOK JB (W0 β) 146 kc146_4_8_1 := KOK_of W0_f (CT := []) (cuts := []) trivial kc146_4_8_1e (fun cu h => by cases h) rfl
def kc280_4_8_1 : KT := ([.inl (.inr (.inr (some 76))), .inl (.inl 4), .inl (.inl 8), .inl (.inl 1)], some (.inr (true, 10000, 10000)), [], [], [(77, 16, .inr (false, 0, 9999))], [(77, 16, .inr (false, 0, 9999))], [], 2)
theorem kc280_4_8_1e : chkE JB [] [] kc280_4_8_1 1 280 = true := by decide +kernel
theorem kc280_4_8_1o {β : Nat} : KOK JB (W0 β) 280 kc280_4_8_1 := KOK_of W0_f (CT := []) (cuts := []) trivial kc280_4_8_1e (fun cu h => by cases h) rfl
def kc146_4_9_1 : KT := ([.inl (.inr (.inr (some 0))), .inl (.inl 4), .inl (.inl 9), .inl (.inl 1)], some (.inr (true, 1, 1)), [], [], [(77, 16, .inr (false, 0, 9999))], [(77, 16, .inr (false, 0, 9999))], [], 2)
theorem kc146_4_9_1e : chkE JB [] [] kc146_4_9_1 1 146 = true := by decide +kernel
theorem kc146_4_9_1o {β : Nat} : KOK JB (W0 β) 146 kc146_4_9_1 := KOK_of W0_f (CT := []) (cuts := []) trivial kc146_4_9_1e (fun cu h => by cases h) rfl
def kc280_4_9_1 : KT := ([.inl (.inr (.inr (some 76))), .inl (.inl 4), .inl (.inl 9), .inl (.inl 1)], some (.inr (true, 1, 1)), [], [], [(77, 16, .inr (false, 0, 9999))], [(77, 16, .inr (false, 0, 9999))], [], 2)
theorem kc280_4_9_1e : chkE JB [] [] kc280_4_9_1 1 280 = true := by decide +kernel
theorem kc280_4_9_1o {β : Nat} : KOK JB (W0 β) 280 kc280_4_9_1 := KOK_of W0_f (CT := []) (cuts := []) trivial kc280_4_9_1e (fun cu h => by cases h) rfl
set_option maxHeartbeats 4000000 in
theorem kcc_4_1 {β L : Nat} {xs : Nat → Int} {h : AH} {q : Int} (h0 : 0 ≤ q) (h9 : q ≤ 9) (hL : LI β L xs h) : ∃ (z : Int) (h1 h2 : AH), LI β L xs h1 ∧ LI β L xs h2 ∧ (∀ Q : Option AV → AH → Prop, XC 1000 146 [vR 0, vI 4, vI q, vI 1] h Q = Q (some (vL z)) h1) ∧ ∀ Q : Option AV → AH → Prop, XC 1000 280 [vR 76, vI 4, vI q, vI 1] h1 Q = Q (some (vL z)) h2 := by
  by_cases d0 : q = 0
  · subst d0
    obtain ⟨r1, h1, ⟨v1, rfl, y1, rfl, e1, f1⟩, l1, E1⟩ := LI_k (kc146_4_0_1o (β := β)) (by decide +kernel) (by decide +kernel) (vs := [vR 0, vI 4, vI 0, vI 1]) ⟨_, _, rfl, rfl, _, _, rfl, rfl, _, _, rfl, rfl, _, _, rfl, rfl, rfl⟩ hL
    obtain ⟨r2, h2, ⟨v2, rfl, y2, rfl, e2, f2⟩, l2, E2⟩ := LI_k (kc280_4_0_1o (β := β)) (by decide +kernel) (by decide +kernel) (vs := [vR 76, vI 4, vI 0, vI 1]) ⟨_, _, rfl, rfl, _, _, rfl, rfl, _, _, rfl, rfl, _, _, rfl, rfl, rfl⟩ l1
    have e1 : (10000 : Int) ≤ y1 := e1
    have f1 : y1 ≤ (10000 : Int) := f1
    obtain rfl : y1 = 10000 := Int.le_antisymm f1 e1
    have e2 : (10000 : Int) ≤ y2 := e2
    have f2 : y2 ≤ (10000 : Int) := f2
    obtain rfl : y2 = 10000 := Int.le_antisymm f2 e2
    exact ⟨_, h1, h2, l1, l2, E1, E2⟩
  by_cases d1 : q = 1
  · subst d1
    obtain ⟨r1, h1, ⟨v1, rfl, y1, rfl, e1, f1⟩, l1, E1⟩ := LI_k (kc146_4_1_1o (β := β)) (by decide +kernel) (by decide +kernel) (vs := [vR 0, vI 4, vI 1, vI 1]) ⟨_, _, rfl, rfl, _, _, rfl, rfl, _, _, rfl, rfl, _, _, rfl, rfl, rfl⟩ hL
    obtain ⟨r2, h2, ⟨v2, rfl, y2, rfl, e2, f2⟩, l2, E2⟩ := LI_k (kc280_4_1_1o (β := β)) (by decide +kernel) (by decide +kernel) (vs := [vR 76, vI 4, vI 1, vI 1]) ⟨_, _, rfl, rfl, _, _, rfl, rfl, _, _, rfl, rfl, _, _, rfl, rfl, rfl⟩ l1
    have e1 : (625 : Int) ≤ y1 := e1
    have f1 : y1 ≤ (625 : Int) := f1
    obtain rfl : y1 = 625 := Int.le_antisymm f1 e1
    have e2 : (625 : Int) ≤ y2 := e2
    have f2 : y2 ≤ (625 : Int) := f2
    obtain rfl : y2 = 625 := Int.le_antisymm f2 e2
    exact ⟨_, h1, h2, l1, l2, E1, E2⟩
  by_cases d2 : q = 2
  · subst d2
    obtain ⟨r1, h1, ⟨v1, rfl, y1, rfl, e1, f1⟩, l1, E1⟩ := LI_k (kc146_4_2_1o (β := β)) (by decide +kernel) (by decide +kernel) (vs := [vR 0, vI 4, vI 2, vI 1]) ⟨_, _, rfl, rfl, _, _, rfl, rfl, _, _, rfl, rfl, _, _, rfl, rfl, rfl⟩ hL
    obtain ⟨r2, h2, ⟨v2, rfl, y2, rfl, e2, f2⟩, l2, E2⟩ := LI_k (kc280_4_2_1o (β := β)) (by decide +kernel) (by decide +kernel) (vs := [vR 76, vI 4, vI 2, vI 1]) ⟨_, _, rfl, rfl, _, _, rfl, rfl, _, _, rfl, rfl, _, _, rfl, rfl, rfl⟩ l1
    have e1 : (10000 : Int) ≤ y1 := e1
    have f1 : y1 ≤ (10000 : Int) := f1
    obtain rfl : y1 = 10000 := Int.le_antisymm f1 e1
    have e2 : (10000 : Int) ≤ y2 := e2
    have f2 : y2 ≤ (10000 : Int) := f2
    obtain rfl : y2 = 10000 := Int.le_antisymm f2 e2
    exact ⟨_, h1, h2, l1, l2, E1, E2⟩
  by_cases d3 : q = 3
  · subst d3
    obtain ⟨r1, h1, ⟨v1, rfl, y1, rfl, e1, f1⟩, l1, E1⟩ := LI_k (kc146_4_3_1o (β := β)) (by decide +kernel) (by decide +kernel) (vs := [vR 0, vI 4, vI 3, vI 1]) ⟨_, _, rfl, rfl, _, _, rfl, rfl, _, _, rfl, rfl, _, _, rfl, rfl, rfl⟩ hL
    obtain ⟨r2, h2, ⟨v2, rfl, y2, rfl, e2, f2⟩, l2, E2⟩ := LI_k (kc280_4_3_1o (β := β)) (by decide +kernel) (by decide +kernel) (vs := [vR 76, vI 4, vI 3, vI 1]) ⟨_, _, rfl, rfl, _, _, rfl, rfl, _, _, rfl, rfl, _, _, rfl, rfl, rfl⟩ l1
    have e1 : (625 : Int) ≤ y1 := e1
    have f1 : y1 ≤ (625 : Int) := f1
    obtain rfl : y1 = 625 := Int.le_antisymm f1 e1
    have e2 : (625 : Int) ≤ y2 := e2
    have f2 : y2 ≤ (625 : Int) := f2
    obtain rfl : y2 = 625 := Int.le_antisymm f2 e2
    exact ⟨_, h1, h2, l1, l2, E1, E2⟩
  by_cases d4 : q = 4
  · subst d4
    obtain ⟨r1, h1, ⟨v1, rfl, y1, rfl, e1, f1⟩, l1, E1⟩ := LI_k (kc146_4_4_1o (β := β)) (by decide +kernel) (by decide +kernel) (vs := [vR 0, vI 4, vI 4, vI 1]) ⟨_, _, rfl, rfl, _, _, rfl, rfl, _, _, rfl, rfl, _, _, rfl, rfl, rfl⟩ hL
    obtain ⟨r2, h2, ⟨v2, rfl, y2, rfl, e2, f2⟩, l2, E2⟩ := LI_k (kc280_4_4_1o (β := β)) (by decide +kernel) (by decide +kernel) (vs := [vR 76, vI 4, vI 4, vI 1]) ⟨_, _, rfl, rfl, _, _, rfl, rfl, _, _, rfl, rfl, _, _, rfl, rfl, rfl⟩ l1
    have e1 : (16 : Int) ≤ y1 := e1
    have f1 : y1 ≤ (16 : Int) := f1
    obtain rfl : y1 = 16 := Int.le_antisymm f1 e1
    have e2 : (16 : Int) ≤ y2 := e2
    have f2 : y2 ≤ (16 : Int) := f2
    obtain rfl : y2 = 16 := Int.le_antisymm f2 e2
    exact ⟨_, h1, h2, l1, l2, E1, E2⟩
  by_cases d5 : q = 5
  · subst d5
    obtain ⟨r1, h1, ⟨v1, rfl, y1, rfl, e1, f1⟩, l1, E1⟩ := LI_k (kc146_4_5_1o (β := β)) (by decide +kernel) (by decide +kernel) (vs := [vR 0, vI 4, vI 5, vI 1]) ⟨_, _, rfl, rfl, _, _, rfl, rfl, _, _, rfl, rfl, _, _, rfl, rfl, rfl⟩ hL
    obtain ⟨r2, h2, ⟨v2, rfl, y2, rfl, e2, f2⟩, l2, E2⟩ := LI_k (kc280_4_5_1o (β := β)) (by decide +kernel) (by decide +kernel) (vs := [vR 76, vI 4, vI 5, vI 1]) ⟨_, _, rfl, rfl, _, _, rfl, rfl, _, _, rfl, rfl, _, _, rfl, rfl, rfl⟩ l1
    have e1 : (625 : Int) ≤ y1 := e1
    have f1 : y1 ≤ (625 : Int) := f1
    obtain rfl : y1 = 625 := Int.le_antisymm f1 e1
    have e2 : (625 : Int) ≤ y2 := e2
    have f2 : y2 ≤ (625 : Int) := f2
    obtain rfl : y2 = 625 := Int.le_antisymm f2 e2
    exact ⟨_, h1, h2, l1, l2, E1, E2⟩
  by_cases d6 : q = 6
  · subst d6
    obtain ⟨r1, h1, ⟨v1, rfl, y1, rfl, e1, f1⟩, l1, E1⟩ := LI_k (kc146_4_6_1o (β := β)) (by decide +kernel) (by decide +kernel) (vs := [vR 0, vI 4, vI 6, vI 1]) ⟨_, _, rfl, rfl, _, _, rfl, rfl, _, _, rfl, rfl, _, _, rfl, rfl, rfl⟩ hL
    obtain ⟨r2, h2, ⟨v2, rfl, y2, rfl, e2, f2⟩, l2, E2⟩ := LI_k (kc280_4_6_1o (β := β)) (by decide +kernel) (by decide +kernel) (vs := [vR 76, vI 4, vI 6, vI 1]) ⟨_, _, rfl, rfl, _, _, rfl, rfl, _, _, rfl, rfl, _, _, rfl, rfl, rfl⟩ l1
    have e1 : (10000 : Int) ≤ y1 := e1
    have f1 : y1 ≤ (10000 : Int) := f1
    obtain rfl : y1 = 10000 := Int.le_antisymm f1 e1
    have e2 : (10000 : Int) ≤ y2 := e2
    have f2 : y2 ≤ (10000 : Int) := f2
    obtain rfl : y2 = 10000 := Int.le_antisymm f2 e2
    exact ⟨_, h1, h2, l1, l2, E1, E2⟩
  by_cases d7 : q = 7
  · subst d7
    obtain ⟨r1, h1, ⟨v1, rfl, y1, rfl, e1, f1⟩, l1, E1⟩ := LI_k (kc146_4_7_1o (β := β)) (by decide +kernel) (by decide +kernel) (vs := [vR 0, vI 4, vI 7, vI 1]) ⟨_, _, rfl, rfl, _, _, rfl, rfl, _, _, rfl, rfl, _, _, rfl, rfl, rfl⟩ hL
    obtain ⟨r2, h2, ⟨v2, rfl, y2, rfl, e2, f2⟩, l2, E2⟩ := LI_k (kc280_4_7_1o (β := β)) (by decide +kernel) (by decide +kernel) (vs := [vR 76, vI 4, vI 7, vI 1]) ⟨_, _, rfl, rfl, _, _, rfl, rfl, _, _, rfl, rfl, _, _, rfl, rfl, rfl⟩ l1
    have e1 : (625 : Int) ≤ y1 := e1
    have f1 : y1 ≤ (625 : Int) := f1
    obtain rfl : y1 = 625 := Int.le_antisymm f1 e1
    have e2 : (625 : Int) ≤ y2 := e2
    have f2 : y2 ≤ (625 : Int) := f2
    obtain rfl : y2 = 625 := Int.le_antisymm f2 e2
    exact ⟨_, h1, h2, l1, l2, E1, E2⟩
  by_cases d8 : q = 8
  · subst d8
    obtain ⟨r1, h1, ⟨v1, rfl, y1, rfl, e1, f1⟩, l1, E1⟩ := LI_k (kc146_4_8_1o (β := β)) (by decide +kernel) (by decide +kernel) (vs := [vR 0, vI 4, vI 8, vI 1]) ⟨_, _, rfl, rfl, _, _, rfl, rfl, _, _, rfl, rfl, _, _, rfl, rfl, rfl⟩ hL
    obtain ⟨r2, h2, ⟨v2, rfl, y2, rfl, e2, f2⟩, l2, E2⟩ := LI_k (kc280_4_8_1o (β := β)) (by decide +kernel) (by decide +kernel) (vs := [vR 76, vI 4, vI 8, vI 1]) ⟨_, _, rfl, rfl, _, _, rfl, rfl, _, _, rfl, rfl, _, _, rfl, rfl, rfl⟩ l1
    have e1 : (10000 : Int) ≤ y1 := e1
    have f1 : y1 ≤ (10000 : Int) := f1
    obtain rfl : y1 = 10000 := Int.le_antisymm f1 e1
    have e2 : (10000 : Int) ≤ y2 := e2
    have f2 : y2 ≤ (10000 : Int) := f2
    obtain rfl : y2 = 10000 := Int.le_antisymm f2 e2
    exact ⟨_, h1, h2, l1, l2, E1, E2⟩
  have d9 : q = 9 := by omega
  subst d9
  obtain ⟨r1, h1, ⟨v1, rfl, y1, rfl, e1, f1⟩, l1, E1⟩ := LI_k (kc146_4_9_1o (β := β)) (by decide +kernel) (by decide +kernel) (vs := [vR 0, vI 4, vI 9, vI 1]) ⟨_, _, rfl, rfl, _, _, rfl, rfl, _, _, rfl, rfl, _, _, rfl, rfl, rfl⟩ hL
  obtain ⟨r2, h2, ⟨v2, rfl, y2, rfl, e2, f2⟩, l2, E2⟩ := LI_k (kc280_4_9_1o (β := β)) (by decide +kernel) (by decide +kernel) (vs := [vR 76, vI 4, vI 9, vI 1]) ⟨_, _, rfl, rfl, _, _, rfl, rfl, _, _, rfl, rfl, _, _, rfl, rfl, rfl⟩ l1
  have e1 : (1 : Int) ≤ y1 := e1
  have f1 : y1 ≤ (1 : Int) := f1
  obtain rfl : y1 = 1 := Int.le_antisymm f1 e1
  have e2 : (1 : Int) ≤ y2 := e2
  have f2 : y2 ≤ (1 : Int) := f2
  obtain rfl : y2 = 1 := Int.le_antisymm f2 e2
  exact ⟨_, h1, h2, l1, l2, E1, E2⟩

def kc146_5_0_0 : KT := ([.inl (.inr (.inr (some 0))), .inl (.inl 5), .inl (.inl 0), .inl (.inl 0)], some (.inr (true, 1, 1)), [], [], [(77, 16, .inr (false, 0, 9999))], [(77, 16, .inr (false, 0, 9999))], [], 2)
theorem kc146_5_0_0e : chkE JB [] [] kc146_5_0_0 1 146 = true := by decide +kernel
theorem kc146_5_0_0o {β : Nat} : KOK JB (W0 β) 146 kc146_5_0_0 := KOK_of W0_f (CT := []) (cuts := []) trivial kc146_5_0_0e (fun cu h => by cases h) rfl
def kc280_5_0_0 : KT := ([.inl (.inr (.inr (some 76))), .inl (.inl 5), .inl (.inl 0), .inl (.inl 0)], some (.inr (true, 1, 1)), [], [], [(77, 16, .inr (false, 0, 9999))], [(77, 16, .inr (false, 0, 9999))], [], 2)
theorem kc280_5_0_0e : chkE JB [] [] kc280_5_0_0 1 280 = true := by decide +kernel
theorem kc280_5_0_0o {β : Nat} : KOK JB (W0 β) 280 kc280_5_0_0 := KOK_of W0_f (CT := []) (cuts := []) trivial kc280_5_0_0e (fun cu h => by cases h) rfl
def kc146_5_1_0 : KT := ([.inl (.inr (.inr (some 0))), .inl (.inl 5), .inl (.inl 1), .inl (.inl 0)], some (.inr (true, 1, 1)), [], [], [(77, 16, .inr (false, 0, 9999))], [(77, 16, .inr (false, 0, 9999))], [], 2)
theorem kc146_5_1_0e : chkE JB [] [] kc146_5_1_0 1 146 = true := by decide +kernel
theorem kc146_5_1_0o {β : Nat} : KOK JB (W0 β) 146 kc146_5_1_0 := KOK_of W0_f (CT := []) (cuts := []) trivial kc146_5_1_0e (fun cu h => by cases h) rfl
def kc280_5_1_0 : KT := ([.inl (.inr (.inr (some 76))), .inl (.inl 5), .inl (.inl 1), .inl (.inl 0)], some (.inr (true, 1, 1)), [], [], [(77, 16, .inr (false, 0, 9999))], [(77, 16, .inr (false, 0, 9999))], [], 2)
theorem kc280_5_1_0e : chkE JB [] [] kc280_5_1_0 1 280 = true := by decide +kernel
theorem kc280_5_1_0o {β : Nat} : KOK JB (W0 β) 280 kc280_5_1_0 := KOK_of W0_f (CT := []) (cuts := []) trivial kc280_5_1_0e (fun cu h => by cases h) rfl
def kc146_5_2_0 : KT := ([.inl (.inr (.inr (some 0))), .inl (.inl 5), .inl (.inl 2), .inl (.inl 0)], some (.inr (true, 243, 243)), [], [], [(77, 16, .inr (false, 0, 9999))], [(77, 16, .inr (false, 0, 9999))], [], 2)
theorem kc146_5_2_0e : chkE JB [] [] kc146_5_2_0 1 146 = true := by decide +kernel
theorem kc146_5_2_0o {β : Nat} : KOK JB (W0 β) 146 kc146_5_2_0 := KOK_of W0_f (CT := []) (cuts := []) trivial kc146_5_2_0e (fun cu h => by cases h) rfl
def kc280_5_2_0 : KT := ([.inl (.inr (.inr (some 76))), .inl (.inl 5), .inl (.inl 2), .inl (.inl 0)], some (.inr (true, 243, 243)), [], [], [(77, 16, .inr (false, 0, 9999))], [(77, 16, .inr (false, 0, 9999))], [], 2)
theorem kc280_5_2_0e : chkE JB [] [] kc280_5_2_0 1 280 = true := by decide +kernel
theorem kc280_5_2_0o {β : Nat} : KOK JB (W0 β) 280 kc280_5_2_0 := KOK_of W0_f (CT := []) (cuts := []) trivial kc280_5_2_0e (fun cu h => by cases h) rfl
def kc146_5_3_0 : KT := ([.inl (.inr (.inr (some 0))), .inl (.inl 5), .inl (.inl 3), .inl (.inl 0)], some (.inr (true, 32, 32)), [], [], [(77, 16, .inr (false, 0, 9999))], [(77, 16, .inr (false, 0, 9999))], [], 2)
theorem kc146_5_3_0e : chkE JB [] [] kc146_5_3_0 1 146 = true := by decide +kernel
theorem kc146_5_3_0o {β : Nat} : KOK JB (W0 β) 146 kc146_5_3_0 := KOK_of W0_f (CT := []) (cuts := []) trivial kc146_5_3_0e (fun cu h => by cases h) rfl
def kc280_5_3_0 : KT := ([.inl (.inr (.inr (some 76))), .inl (.inl 5), .inl (.inl 3), .inl (.inl 0)], some (.inr (true, 32, 32)), [], [], [(77, 16, .inr (false, 0, 9999))], [(77, 16, .inr (false, 0, 9999))], [], 2)
theorem kc280_5_3_0e : chkE JB [] [] kc280_5_3_0 1 280 = true := by decide +kernel
theorem kc280_5_3_0o {β : Nat} : KOK JB (W0 β) 280 kc280_5_3_0 := KOK_of W0_f (CT := []) (cuts := []) trivial kc280_5_3_0e (fun cu h => by cases h) rfl
def kc146_5_4_0 : KT := ([.inl (.inr (.inr (some 0))), .inl (.inl 5), .inl (.inl 4), .inl (.inl 0)], some (.inr (true, 1, 1)), [], [], [(77, 16, .inr (false, 0, 9999))], [(77, 16, .inr (false, 0, 9999))], [], 2)
theorem kc146_5_4_0e : chkE JB [] [] kc146_5_4_0 1 146 = true := by decide +kernel
theorem kc146_5_4_0o {β : Nat} : KOK JB (W0 β) 146 kc146_5_4_0 := KOK_of W0_f (CT := []) (cuts := []) trivial kc146_5_4_0e (fun cu h => by cases h) rfl
def kc280_5_4_0 : KT := ([.inl (.inr (.inr (some 76))), .inl (.inl 5), .inl (.inl 4), .inl (.inl 0)], some (.inr (true, 1, 1)), [], [], [(77, 16, .inr (false, 0, 9999))], [(77, 16, .inr (false, 0, 9999))], [], 2)
theorem kc280_5_4_0e : chkE JB [] [] kc280_5_4_0 1 280 = true := by decide +kernel
theorem kc280_5_4_0o {β : Nat} : KOK JB (W0 β) 280 kc280_5_4_0 := KOK_of W0_f (CT := []) (cuts := []) trivial kc280_5_4_0e (fun cu h => by cases h) rfl
def kc146_5_5_0 : KT := ([.inl (.inr (.inr (some 0))), .inl (.inl 5), .inl (.inl 5), .inl (.inl 0)], some (.inr (true, 243, 243)), [], [], [(77, 16, .inr (false, 0, 9999))], [(77, 16, .inr (false, 0, 9999))], [], 2)
theorem kc146_5_5_0e : chkE JB [] [] kc146_5_5_0 1 146 = true := by decide +kernel
theorem kc146_5_5_0o {β : Nat} : KOK JB (W0 β) 146 kc146_5_5_0 := KOK_of W0_f (CT := []) (cuts := []) trivial kc146_5_5_0e (fun cu h => by cases h) rfl
def kc280_5_5_0 : KT := ([.inl (.inr (.inr (some 76))), .inl (.inl 5), .inl (.inl 5), .inl (.inl 0)], some (.inr (true, 243, 243)), [], [], [(77, 16, .inr (false, 0, 9999))], [(77, 16, .inr (false, 0, 9999))], [], 2)
theorem kc280_5_5_0e : chkE JB [] [] kc280_5_5_0 1 280 = true := by decide +kernel
theorem kc280_5_5_0o {β : Nat} : KOK JB (W0 β) 280 kc280_5_5_0 := KOK_of W0_f (CT := []) (cuts := []) trivial kc280_5_5_0e (fun cu h => by cases h) rfl
def kc146_5_6_0 : KT := ([.inl (.inr (.inr (some 0))), .inl (.inl 5), .inl (.inl 6), .inl (.inl 0)], some (.inr (true, 16807, 16807)), [], [], [(77, 16, .inr (false, 0, 9999))], [(77, 16, .inr (false, 0, 9999))], [], 2)
theorem kc146_5_6_0e : chkE JB [] [] kc146_5_6_0 1 146 = true := by decide +kernel
theorem kc146_5_6_0o {β : Nat} : KOK JB (W0 β) 146 kc146_5_6_0 := KOK_of W0_f (CT := []) (cuts := []) trivial kc146_5_6_0e (fun cu h => by cases h) rfl
def kc280_5_6_0 : KT := ([.inl (.inr (.inr (some 76))), .inl (.inl 5), .inl (.inl 6), .inl (.inl 0)], some (.inr (true, 16807, 16807)), [], [], [(77, 16, .inr (false, 0, 9999))], [(77, 16, .inr (false, 0, 9999))], [], 2)
theorem kc280_5_6_0e : chkE JB [] [] kc280_5_6_0 1 280 = true := by decide +kernel
theorem kc280_5_6_0o {β : Nat} : KOK JB (W0 β) 280 kc280_5_6_0 := KOK_of W0_f (CT := []) (cuts := []) trivial kc280_5_6_0e (fun cu h => by cases h) rfl
def kc146_5_7_0 : KT := ([.inl (.inr (.inr (some 0))), .inl (.inl 5), .inl (.inl 7), .inl (.inl 0)], some (.inr (true, 1024, 1024)), [], [], [(77, 16, .inr (false, 0, 9999))], [(77, 16, .inr (false, 0, 9999))], [], 2)
theorem kc146_5_7_0e : chkE JB [] [] kc146_5_7_0 1 146 = true := by decide +kernel
theorem kc146_5_7_0o {β : Nat} : KOK JB (W0 β) 146 kc146_5_7_0 := KOK_of W0_f (CT := []) (cuts := []) trivial kc146_5_7_0e (fun cu h => by cases h) rfl
def kc280_5_7_0 : KT := ([.inl (.inr (.inr (some 76))), .inl (.inl 5), .inl (.inl 7), .inl (.inl 0)], some (.inr (true, 1024, 1024)), [], [], [(77, 16, .inr (false, 0, 9999))], [(77, 16, .inr (false, 0, 9999))], [], 2)
theorem kc280_5_7_0e : chkE JB [] [] kc280_5_7_0 1 280 = true := by decide +kernel
theorem kc280_5_7_0o {β : Nat} : KOK JB (W0 β) 280 kc280_5_7_0 := KOK_of W0_f (CT := []) (cuts := []) trivial kc280_5_7_0e (fun cu h => by cases h) rfl
def kc146_5_8_0 : KT := ([.inl (.inr (.inr (some 0))), .inl (.inl 5), .inl (.inl 8), .inl (.inl 0)], some (.inr (true, 59049, 59049)), [], [], [(77, 16, .inr (false, 0, 9999))], [(77, 16, .inr (false, 0, 9999))], [], 2)
theorem kc146_5_8_0e : chkE JB [] [] kc146_5_8_0 1 146 = true := by decide +kernel
theorem kc146_5_8_0o {β : Nat} : KOK JB (W0 β) 146 kc146_5_8_0 := KOK_of W0_f (CT := []) (cuts := []) trivial kc146_5_8_0e (fun cu h => by cases h) rfl
def kc280_5_8_0 : KT := ([.inl (.inr (.inr (some 76))), .inl (.inl 5), .inl (.inl 8), .inl (.inl 0)], some (.inr (true, 59049, 59049)), [], [], [(77, 16, .inr (false, 0, 9999))], [(77, 16, .inr (false, 0, 9999))], [], 2)
theorem kc280_5_8_0e : chkE JB [] [] kc280_5_8_0 1 280 = true := by decide +kernel
theorem kc280_5_8_0o {β : Nat} : KOK JB (W0 β) 280 kc280_5_8_0 := KOK_of W0_f (CT := []) (cuts := []) trivial kc280_5_8_0e (fun cu h => by cases h) rfl
def kc146_5_9_0 : KT := ([.inl (.inr (.inr (some 0))), .inl (.inl 5), .inl (.inl 9), .inl (.inl 0)], some (.inr (true, 1, 1)), [], [], [(77, 16, .inr (false, 0, 9999))], [(77, 16, .inr (false, 0, 9999))], [], 2)
theorem kc146_5_9_0e : chkE JB [] [] kc146_5_9_0 1 146 = true := by decide +kernel
theorem kc146_5_9_0o {β : Nat} : KOK JB (W0 β) 146 kc146_5_9_0 := KOK_of W0_f (CT := []) (cuts := []) trivial kc146_5_9_0e (fun cu h => by cases h) rfl
def kc280_5_9_0 : KT := ([.inl (.inr (.inr (some 76))), .inl (.inl 5), .inl (.inl 9), .inl (.inl 0)], some (.inr (true, 1, 1)), [], [], [(77, 16, .inr (false, 0, 9999))], [(77, 16, .inr (false, 0, 9999))], [], 2)
theorem kc280_5_9_0e : chkE JB [] [] kc280_5_9_0 1 280 = true := by decide +kernel
theorem kc280_5_9_0o {β : Nat} : KOK JB (W0 β) 280 kc280_5_9_0 := KOK_of W0_f (CT := []) (cuts := []) trivial kc280_5_9_0e (fun cu h => by cases h) rfl
set_option maxHeartbeats 4000000 in
theorem kcc_5_0 {β L : Nat} {xs : Nat → Int} {h : AH} {q : Int} (h0 : 0 ≤ q) (h9 : q ≤ 9) (hL : LI β L xs h) : ∃ (z : Int) (h1 h2 : AH), LI β L xs h1 ∧ LI β L xs h2 ∧ (∀ Q : Option AV → AH → Prop, XC 1000 146 [vR 0, vI 5, vI q, vI 0] h Q = Q (some (vL z)) h1) ∧ ∀ Q : Option AV → AH → Prop, XC 1000 280 [vR 76, vI 5, vI q, vI 0] h1 Q = Q (some (vL z)) h2 := by
  by_cases d0 : q = 0
  · subst d0
    obtain ⟨r1, h1, ⟨v1, rfl, y1, rfl, e1, f1⟩, l1, E1⟩ := LI_k (kc146_5_0_0o (β := β)) (by decide +kernel) (by decide +kernel) (vs := [vR 0, vI 5, vI 0, vI 0]) ⟨_, _, rfl, rfl, _, _, rfl, rfl, _, _, rfl, rfl, _, _, rfl, rfl, rfl⟩ hL
    obtain ⟨r2, h2, ⟨v2, rfl, y2, rfl, e2, f2⟩, l2, E2⟩ := LI_k (kc280_5_0_0o (β := β)) (by decide +kernel) (by decide +kernel) (vs := [vR 76, vI 5, vI 0, vI 0]) ⟨_, _, rfl, rfl, _, _, rfl, rfl, _, _, rfl, rfl, _, _, rfl, rfl, rfl⟩ l1
    have e1 : (1 : Int) ≤ y1 := e1
    have f1 : y1 ≤ (1 : Int) := f1
    obtain rfl : y1 = 1 := Int.le_antisymm f1 e1
    have e2 : (1 : Int) ≤ y2 := e2
    have f2 : y2 ≤ (1 : Int) := f2
    obtain rfl : y2 = 1 := Int.le_antisymm f2 e2
    exact ⟨_, h1, h2, l1, l2, E1, E2⟩
  by_cases d1 : q = 1
  · subst d1
    obtain ⟨r1, h1, ⟨v1, rfl, y1, rfl, e1, f1⟩, l1, E1⟩ := LI_k (kc146_5_1_0o (β := β)) (by decide +kernel) (by decide +kernel) (vs := [vR 0, vI 5, vI 1, vI 0]) ⟨_, _, rfl, rfl, _, _, rfl, rfl, _, _, rfl, rfl, _, _, rfl, rfl, rfl⟩ hL
    obtain ⟨r2, h2, ⟨v2, rfl, y2, rfl, e2, f2⟩, l2, E2⟩ := LI_k (kc280_5_1_0o (β := β)) (by decide +kernel) (by decide +kernel) (vs := [vR 76, vI 5, vI 1, vI 0]) ⟨_, _, rfl, rfl, _, _, rfl, rfl, _, _, rfl, rfl, _, _, rfl, rfl, rfl⟩ l1
    have e1 : (1 : Int) ≤ y1 := e1
    have f1 : y1 ≤ (1 : Int) := f1
    obtain rfl : y1 = 1 := Int.le_antisymm f1 e1
    have e2 : (1 : Int) ≤ y2 := e2
    have f2 : y2 ≤ (1 : Int) := f2
    obtain rfl : y2 = 1 := Int.le_antisymm f2 e2
    exact ⟨_, h1, h2, l1, l2, E1, E2⟩
  by_cases d2 : q = 2
  · subst d2
    obtain ⟨r1, h1, ⟨v1, rfl, y1, rfl, e1, f1⟩, l1, E1⟩ := LI_k (kc146_5_2_0o (β := β)) (by decide +kernel) (by decide +kernel) (vs := [vR 0, vI 5, vI 2, vI 0]) ⟨_, _, rfl, rfl, _, _, rfl, rfl, _, _, rfl, rfl, _, _, rfl, rfl, rfl⟩ hL
    obtain ⟨r2, h2, ⟨v2, rfl, y2, rfl, e2, f2⟩, l2, E2⟩ := LI_k (kc280_5_2_0o (β := β)) (by decide +kernel) (by decide +kernel) (vs := [vR 76, vI 5, vI 2, vI 0]) ⟨_, _, rfl, rfl, _, _, rfl, rfl, _, _, rfl, rfl, _, _, rfl, rfl, rfl⟩ l1
    have e1 : (243 : Int) ≤ y1 := e1
    have f1 : y1 ≤ (243 : Int) := f1
    obtain rfl : y1 = 243 := Int.le_antisymm f1 e1
    have e2 : (243 : Int) ≤ y2 := e2
    have f2 : y2 ≤ (243 : Int) := f2
    obtain rfl : y2 = 243 := Int.le_antisymm f2 e2
    exact ⟨_, h1, h2, l1, l2, E1, E2⟩
  by_cases d3 : q = 3
  · subst d3
    obtain ⟨r1, h1, ⟨v1, rfl, y1, rfl, e1, f1⟩, l1, E1⟩ := LI_k (kc146_5_3_0o (β := β)) (by decide +kernel) (by decide +kernel) (vs := [vR 0, vI 5, vI 3, vI 0]) ⟨_, _, rfl, rfl, _, _, rfl, rfl, _, _, rfl, rfl, _, _, rfl, rfl, rfl⟩ hL
    obtain ⟨r2, h2, ⟨v2, rfl, y2, rfl, e2, f2⟩, l2, E2⟩ := LI_k (kc280_5_3_0o (β := β)) (by decide +kernel) (by decide +kernel) (vs := [vR 76, vI 5, vI 3, vI 0]) ⟨_, _, rfl, rfl, _, _, rfl, rfl, _, _, rfl, rfl, _, _, rfl, rfl, rfl⟩ l1
    have e1 : (32 : Int) ≤ y1 := e1
    have f1 : y1 ≤ (32 : Int) := f1
    obtain rfl : y1 = 32 := Int.le_antisymm f1 e1
    have e2 : (32 : Int) ≤ y2 := e2
    have f2 : y2 ≤ (32 : Int) := f2
    obtain rfl : y2 = 32 := Int.le_antisymm f2 e2
    exact ⟨_, h1, h2, l1, l2, E1, E2⟩
  by_cases d4 : q = 4
  · subst d4
    obtain ⟨r1, h1, ⟨v1, rfl, y1, rfl, e1, f1⟩, l1, E1⟩ := LI_k (kc146_5_4_0o (β := β)) (by decide +kernel) (by decide +kernel) (vs := [vR 0, vI 5, vI 4, vI 0]) ⟨_, _, rfl, rfl, _, _, rfl, rfl, _, _, rfl, rfl, _, _, rfl, rfl, rfl⟩ hL
    obtain ⟨r2, h2, ⟨v2, rfl, y2, rfl, e2, f2⟩, l2, E2⟩ := LI_k (kc280_5_4_0o (β := β)) (by decide +kernel) (by decide +kernel) (vs := [vR 76, vI 5, vI 4, vI 0]) ⟨_, _, rfl, rfl, _, _, rfl, rfl, _, _, rfl, rfl, _, _, rfl, rfl, rfl⟩ l1
    have e1 : (1 : Int) ≤ y1 := e1
    have f1 : y1 ≤ (1 : Int) := f1
    obtain rfl : y1 = 1 := Int.le_antisymm f1 e1
    have e2 : (1 : Int) ≤ y2 := e2
    have f2 : y2 ≤ (1 : Int) := f2
    obtain rfl : y2 = 1 := Int.le_antisymm f2 e2
    exact ⟨_, h1, h2, l1, l2, E1, E2⟩
  by_cases d5 : q = 5
  · subst d5
    obtain ⟨r1, h1, ⟨v1, rfl, y1, rfl, e1, f1⟩, l1, E1⟩ := LI_k (kc146_5_5_0o (β := β)) (by decide +kernel) (by decide +kernel) (vs := [vR 0, vI 5, vI 5, vI 0]) ⟨_, _, rfl, rfl, _, _, rfl, rfl, _, _, rfl, rfl, _, _, rfl, rfl, rfl⟩ hL
    obtain ⟨r2, h2, ⟨v2, rfl, y2, rfl, e2, f2⟩, l2, E2⟩ := LI_k (kc280_5_5_0o (β := β)) (by decide +kernel) (by decide +kernel) (vs := [vR 76, vI 5, vI 5, vI 0]) ⟨_, _, rfl, rfl, _, _, rfl, rfl, _, _, rfl, rfl, _, _, rfl, rfl, rfl⟩ l1
    have e1 : (243 : Int) ≤ y1 := e1
    have f1 : y1 ≤ (243 : Int) := f1
    obtain rfl : y1 = 243 := Int.le_antisymm f1 e1
    have e2 : (243 : Int) ≤ y2 := e2
    have f2 : y2 ≤ (243 : Int) := f2
    obtain rfl : y2 = 243 := Int.le_antisymm f2 e2
    exact ⟨_, h1, h2, l1, l2, E1, E2⟩
  by_cases d6 : q = 6
  · subst d6
    obtain ⟨r1, h1, ⟨v1, rfl, y1, rfl, e1, f1⟩, l1, E1⟩ := LI_k (kc146_5_6_0o (β := β)) (by decide +kernel) (by decide +kernel) (vs := [vR 0, vI 5, vI 6, vI 0]) ⟨_, _, rfl, rfl, _, _, rfl, rfl, _, _, rfl, rfl, _, _, rfl, rfl, rfl⟩ hL
    obtain ⟨r2, h2, ⟨v2, rfl, y2, rfl, e2, f2⟩, l2, E2⟩ := LI_k (kc280_5_6_0o (β := β)) (by decide +kernel) (by decide +kernel) (vs := [vR 76, vI 5, vI 6, vI 0]) ⟨_, _, rfl, rfl, _, _, rfl, rfl, _, _, rfl, rfl, _, _, rfl, rfl, rfl⟩ l1
    have e1 : (16807 : Int) ≤ y1 := e1
    have f1 : y1 ≤ (16807 : Int) := f1
    obtain rfl : y1 = 16807 := Int.le_antisymm f1 e1
    have e2 : (16807 : Int) ≤ y2 := e2
    have f2 : y2 ≤ (16807 : Int) := f2
    obtain rfl : y2 = 16807 := Int.le_antisymm f2 e2
    exact ⟨_, h1, h2, l1, l2, E1, E2⟩
  by_cases d7 : q = 7
  · subst d7
    obtain ⟨r1, h1, ⟨v1, rfl, y1, rfl, e1, f1⟩, l1, E1⟩ := LI_k (kc146_5_7_0o (β := β)) (by decide +kernel) (by decide +kernel) (vs := [vR 0, vI 5, vI 7, vI 0]) ⟨_, _, rfl, rfl, _, _, rfl, rfl, _, _, rfl, rfl, _, _, rfl, rfl, rfl⟩ hL
    obtain ⟨r2, h2, ⟨v2, rfl, y2, rfl, e2, f2⟩, l2, E2⟩ := LI_k (kc280_5_7_0o (β := β)) (by decide +kernel) (by decide +kernel) (vs := [vR 76, vI 5, vI 7, vI 0]) ⟨_, _, rfl, rfl, _, _, rfl, rfl, _, _, rfl, rfl, _, _, rfl, rfl, rfl⟩ l1
    have e1 : (1024 : Int) ≤ y1 := e1
    have f1 : y1 ≤ (1024 : Int) := f1
    obtain rfl : y1 = 1024 := Int.le_antisymm f1 e1
    have e2 : (1024 : Int) ≤ y2 := e2
    have f2 : y2 ≤ (1024 : Int) := f2
    obtain rfl : y2 = 1024 := Int.le_antisymm f2 e2
    exact ⟨_, h1, h2, l1, l2, E1, E2⟩
  by_cases d8 : q = 8
  · subst d8
    obtain ⟨r1, h1, ⟨v1, rfl, y1, rfl, e1, f1⟩, l1, E1⟩ := LI_k (kc146_5_8_0o (β := β)) (by decide +kernel) (by decide +kernel) (vs := [vR 0, vI 5, vI 8, vI 0]) ⟨_, _, rfl, rfl, _, _, rfl, rfl, _, _, rfl, rfl, _, _, rfl, rfl, rfl⟩ hL
    obtain ⟨r2, h2, ⟨v2, rfl, y2, rfl, e2, f2⟩, l2, E2⟩ := LI_k (kc280_5_8_0o (β := β)) (by decide +kernel) (by decide +kernel) (vs := [vR 76, vI 5, vI 8, vI 0]) ⟨_, _, rfl, rfl, _, _, rfl, rfl, _, _, rfl, rfl, _, _, rfl, rfl, rfl⟩ l1
    have e1 : (59049 : Int) ≤ y1 := e1
    have f1 : y1 ≤ (59049 : Int) := f1
    obtain rfl : y1 = 59049 := Int.le_antisymm f1 e1
    have e2 : (59049 : Int) ≤ y2 := e2
    have f2 : y2 ≤ (59049 : Int) := f2
    obtain rfl : y2 = 59049 := Int.le_antisymm f2 e2
    exact ⟨_, h1, h2, l1, l2, E1, E2⟩
  have d9 : q = 9 := by omega
  subst d9
  obtain ⟨r1, h1, ⟨v1, rfl, y1, rfl, e1, f1⟩, l1, E1⟩ := LI_k (kc146_5_9_0o (β := β)) (by decide +kernel) (by decide +kernel) (vs := [vR 0, vI 5, vI 9, vI 0]) ⟨_, _, rfl, rfl, _, _, rfl, rfl, _, _, rfl, rfl, _, _, rfl, rfl, rfl⟩ hL
  obtain ⟨r2, h2, ⟨v2, rfl, y2, rfl, e2, f2⟩, l2, E2⟩ := LI_k (kc280_5_9_0o (β := β)) (by decide +kernel) (by decide +kernel) (vs := [vR 76, vI 5, vI 9, vI 0]) ⟨_, _, rfl, rfl, _, _, rfl, rfl, _, _, rfl, rfl, _, _, rfl, rfl, rfl⟩ l1
  have e1 : (1 : Int) ≤ y1 := e1
  have f1 : y1 ≤ (1 : Int) := f1
  obtain rfl : y1 = 1 := Int.le_antisymm f1 e1
  have e2 : (1 : Int) ≤ y2 := e2
  have f2 : y2 ≤ (1 : Int) := f2
  obtain rfl : y2 = 1 := Int.le_antisymm f2 e2
  exact ⟨_, h1, h2, l1, l2, E1, E2⟩
def kc146_5_0_1 : KT := ([.inl (.inr (.inr (some 0))), .inl (.inl 5), .inl (.inl 0), .inl (.inl 1)], some (.inr (true, 100000, 100000)), [], [], [(77, 16, .inr (false, 0, 9999))], [(77, 16, .inr (false, 0, 9999))], [], 2)
theorem kc146_5_0_1e : chkE JB [] [] kc146_5_0_1 1 146 = true := by decide +kernel
theorem kc146_5_0_1o {β : Nat} : KOK JB (W0 β) 146 kc146_5_0_1 := KOK_of W0_f (CT := []) (cuts := []) trivial kc146_5_0_1e (fun cu h => by cases h) rfl
def kc280_5_0_1 : KT := ([.inl (.inr (.inr (some 76))), .inl (.inl 5), .inl (.inl 0), .inl (.inl 1)], some (.inr (true, 100000, 100000)), [], [], [(77, 16, .inr (false, 0, 9999))], [(77, 16, .inr (false, 0, 9999))], [], 2)
theorem kc280_5_0_1e : chkE JB [] [] kc280_5_0_1 1 280 = true := by decide +kernel
theorem kc280_5_0_1o {β : Nat} : KOK JB (W0 β) 280 kc280_5_0_1 := KOK_of W0_f (CT := []) (cuts := []) trivial kc280_5_0_1e (fun cu h => by cases h) rfl
def kc146_5_1_1 : KT := ([.inl (.inr (.inr (some 0))), .inl (.inl 5), .inl (.inl 1), .inl (.inl 1)], some (.inr (true, 3125, 3125)), [], [], [(77, 16, .inr (false, 0, 9999))], [(77, 16, .inr (false, 0, 9999))], [], 2)
theorem kc146_5_1_1e : chkE JB [] [] kc146_5_1_1 1 146 = true := by decide +kernel
theorem kc146_5_1_1o {β : Nat} : KOK JB (W0 β) 146 kc146_5_1_1 := KOK_of W0_f (CT := []) (cuts := []) trivial kc146_5_1_1e (fun cu h => by cases h) rfl
def kc280_5_1_1 : KT := ([.inl (.inr (.inr (some 76))), .inl (.inl 5), .inl (.inl 1), .inl (.inl 1)], some (.inr (true, 3125, 3125)), [], [], [(77, 16, .inr (false, 0, 9999))], [(77, 16, .inr (false, 0, 9999))], [], 2)
theorem kc280_5_1_1e : chkE JB [] [] kc280_5_1_1 1 280 = true := by decide +kernel
theorem kc280_5_1_1o {β : Nat} : KOK JB (W0 β) 280 kc280_5_1_1 := KOK_of W0_f (CT := []) (cuts := []) trivial kc280_5_1_1e (fun cu h => by cases h) rfl
def kc146_5_2_1 : KT := ([.inl (.inr (.inr (some 0))), .inl (.inl 5), .inl (.inl 2), .inl (.inl 1)], some (.inr (true, 100000, 100000)), [], [], [(77, 16, .inr (false, 0, 9999))], [(77, 16, .inr (false, 0, 9999))], [], 2)
theorem kc146_5_2_1e : chkE JB [] [] kc146_5_2_1 1 146 = true := by decide +kernel
theorem kc146_5_2_1o {β : Nat} : KOK JB (W0 β) 146 kc146_5_2_1 := KOK_of W0_f (CT := []) (cuts := []) trivial kc146_5_2_1e (fun cu h => by cases h) rfl
def kc280_5_2_1 : KT := ([.inl (.inr (.inr (some 76))), .inl (.inl 5), .inl (.inl 2), .inl (.inl 1)], some (.inr (true, 100000, 100000)), [], [], [(77, 16, .inr (false, 0, 9999))], [(77, 16, .inr (false, 0, 9999))], [], 2)
theorem kc280_5_2_1e : chkE JB [] [] kc280_5_2_1 1 280 = true := by decide +kernel
theorem kc280_5_2_1o {β : Nat} : KOK JB (W0 β) 280 kc280_5_2_1 := KOK_of W0_f (CT := []) (cuts := []) trivial kc280_5_2_1e (fun cu h => by cases h) rfl
def kc146_5_3_1 : KT := ([.inl (.inr (.inr (some 0))), .inl (.inl 5), .inl (.inl 3), .inl (.inl 1)], some (.inr (true, 3125, 3125)), [], [], [(77, 16, .inr (false, 0, 9999))], [(77, 16, .inr (false, 0, 9999))], [], 2)
theorem kc146_5_3_1e : chkE JB [] [] kc146_5_3_1 1 146 = true := by decide +kernel
theorem kc146_5_3_1o {β : Nat} : KOK JB (W0 β) 146 kc146_5_3_1 := KOK_of W0_f (CT := []) (cuts := []) trivial kc146_5_3_1e (fun cu h => by cases h) rfl
def kc280_5_3_1 : KT := ([.inl (.inr (.inr (some 76))), .inl (.inl 5), .inl (.inl 3), .inl (.inl 1)], some (.inr (true, 3125, 3125)), [], [], [(77, 16, .inr (false, 0, 9999))], [(77, 16, .inr (false, 0, 9999))], [], 2)
theorem kc280_5_3_1e : chkE JB [] [] kc280_5_3_1 1 280 = true := by decide +kernel
theorem kc280_5_3_1o {β : Nat} : KOK JB (W0 β) 280 kc280_5_3_1 := KOK_of W0_f (CT := []) (cuts := []) trivial kc280_5_3_1e (fun cu h => by cases h) rfl
def kc146_5_4_1 : KT := ([.inl (.inr (.inr (some 0))), .inl (.inl 5), .inl (.inl 4), .inl (.inl 1)], some (.inr (true, 32, 32)), [], [], [(77, 16, .inr (false, 0, 9999))], [(77, 16, .inr (false, 0, 9999))], [], 2)
theorem kc146_5_4_1e : chkE JB [] [] kc146_5_4_1 1 146 = true := by decide +kernel
theorem kc146_5_4_1o {β : Nat} : KOK JB (W0 β) 146 kc146_5_4_1 := KOK_of W0_f (CT := []) (cuts := []) trivial kc146_5_4_1e (fun cu h => by cases h) rfl
def kc280_5_4_1 : KT := ([.inl (.inr (.inr (some 76))), .inl (.inl 5), .inl (.inl 4), .inl (.inl 1)], some (.inr (true, 32, 32)), [], [], [(77, 16, .inr (false, 0, 9999))], [(77, 16, .inr (false, 0, 9999))], [], 2)
theorem kc280_5_4_1e : chkE JB [] [] kc280_5_4_1 1 280 = true := by decide +kernel
theorem kc280_5_4_1o {β : Nat} : KOK JB (W0 β) 280 kc280_5_4_1 := KOK_of W0_f (CT := []) (cuts := []) trivial kc280_5_4_1e (fun cu h => by cases h) rfl
def kc146_5_5_1 : KT := ([.inl (.inr (.inr (some 0))), .inl (.inl 5), .inl (.inl 5), .inl (.inl 1)], some (.inr (true, 3125, 3125)), [], [], [(77, 16, .inr (false, 0, 9999))], [(77, 16, .inr (false, 0, 9999))], [], 2)
theorem kc146_5_5_1e : chkE JB [] [] kc146_5_5_1 1 146 = true := by decide +kernel
theorem kc146_5_5_1o {β : Nat} : KOK JB (W0 β) 146 kc146_5_5_1 := KOK_of W0_f (CT := []) (cuts := []) trivial kc146_5_5_1e (fun cu h => by cases h) rfl
def kc280_5_5_1 : KT := ([.inl (.inr (.inr (some 76))), .inl (.inl 5), .inl (.inl 5), .inl (.inl 1)], some (.inr (true, 3125, 3125)), [], [], [(77, 16, .inr (false, 0, 9999))], [(77, 16, .inr (false, 0, 9999))], [], 2)
theorem kc280_5_5_1e : chkE JB [] [] kc280_5_5_1 1 280 = true := by decide +kernel
theorem kc280_5_5_1o {β : Nat} : KOK JB (W0 β) 280 kc280_5_5_1 := KOK_of W0_f (CT := []) (cuts := []) trivial kc280_5_5_1e (fun cu h => by cases h) rfl
def kc146_5_6_1 : KT := ([.inl (.inr (.inr (some 0))), .inl (.inl 5), .inl (.inl 6), .inl (.inl 1)], some (.inr (true, 100000, 100000)), [], [], [(77, 16, .inr (false, 0, 9999))], [(77, 16, .inr (false, 0, 9999))], [], 2)
theorem kc146_5_6_1e : chkE JB [] [] kc146_5_6_1 1 146 = true := by decide +kernel
theorem kc146_5_6_1o {β : Nat} : KOK JB (W0 β) 146 kc146_5_6_1 := KOK_of W0_f (CT := []) (cuts := []) trivial kc146_5_6_1e (fun cu h => by cases h) rfl
def kc280_5_6_1 : KT := ([.inl (.inr (.inr (some 76))), .inl (.inl 5), .inl (.inl 6), .inl (.inl 1)], some (.inr (true, 100000, 100000)), [], [], [(77, 16, .inr (false, 0, 9999))], [(77, 16, .inr (false, 0, 9999))], [], 2)
theorem kc280_5_6_1e : chkE JB [] [] kc280_5_6_1 1 280 = true := by decide +kernel
theorem kc280_5_6_1o {β : Nat} : KOK JB (W0 β) 280 kc280_5_6_1 := KOK_of W0_f (CT := []) (cuts := []) trivial kc280_5_6_1e (fun cu h => by cases h) rfl
def kc146_5_7_1 : KT := ([.inl (.inr (.inr (some 0))), .inl (.inl 5), .inl (.inl 7), .inl (.inl 1)], some (.inr (true, 3125, 3125)), [], [], [(77, 16, .inr (false, 0, 9999))], [(77, 16, .inr (false, 0, 9999))], [], 2)
theorem kc146_5_7_1e : chkE JB [] [] kc146_5_7_1 1 146 = true := by decide +kernel
theorem kc146_5_7_1o {β : Nat} : KOK JB (W0 β) 146 kc146_5_7_1 := KOK_of W0_f (CT := []) (cuts := []) trivial kc146_5_7_1e (fun cu h => by cases h) rfl
def kc280_5_7_1 : KT := ([.inl (.inr (.inr (some 76))), .inl (.inl 5), .inl (.inl 7), .inl (.inl 1)], some (.inr (true, 3125, 3125)), [], [], [(77, 16, .inr (false, 0, 9999))], [(77, 16, .inr (false, 0, 9999))], [], 2)
theorem kc280_5_7_1e : chkE JB [] [] kc280_5_7_1 1 280 = true := by decide +kernel
theorem kc280_5_7_1o {β : Nat} : KOK JB (W0 β) 280 kc280_5_7_1 := KOK_of W0_f (CT := []) (cuts := []) trivial kc280_5_7_1e (fun cu h => by cases h) rfl
def kc146_5_8_1 : KT := ([.inl (.inr (.inr (some 0))), .inl (.inl 5), .inl (.inl 8), .inl (.inl 1)], some (.inr (true, 100000, 100000)), [], [], [(77, 16, .inr (false, 0, 9999))], [(77, 16, .inr (false, 0, 9999))], [], 2)
theorem kc146_5_8_1e : chkE JB [] [] kc146_5_8_1 1 146 = true := by decide +kernel
theorem kc146_5_8_1o {β : Nat} : KOK JB (W0 β) 146 kc146_5_8_1 := KOK_of W0_f (CT := []) (cuts := []) trivial kc146_5_8_1e (fun cu h => by cases h) rfl
def kc280_5_8_1 : KT := ([.inl (.inr (.inr (some 76))), .inl (.inl 5), .inl (.inl 8), .inl (.inl 1)], some (.inr (true, 100000, 100000)), [], [], [(77, 16, .inr (false, 0, 9999))], [(77, 16, .inr (false, 0, 9999))], [], 2)
theorem kc280_5_8_1e : chkE JB [] [] kc280_5_8_1 1 280 = true := by decide +kernel
theorem kc280_5_8_1o {β : Nat} : KOK JB (W0 β) 280 kc280_5_8_1 := KOK_of W0_f (CT := []) (cuts := []) trivial kc280_5_8_1e (fun cu h => by cases h) rfl
def kc146_5_9_1 : KT := ([.inl (.inr (.inr (some 0))), .inl (.inl 5), .inl (.inl 9), .inl (.inl 1)], some (.inr (true, 1, 1)), [], [], [(77, 16, .inr (false, 0, 9999))], [(77, 16, .inr (false, 0, 9999))], [], 2)
theorem kc146_5_9_1e : chkE JB [] [] kc146_5_9_1 1 146 = true := by decide +kernel
theorem kc146_5_9_1o {β : Nat} : KOK JB (W0 β) 146 kc146_5_9_1 := KOK_of W0_f (CT := []) (cuts := []) trivial kc146_5_9_1e (fun cu h => by cases h) rfl
def kc280_5_9_1 : KT := ([.inl (.inr (.inr (some 76))), .inl (.inl 5), .inl (.inl 9), .inl (.inl 1)], some (.inr (true, 1, 1)), [], [], [(77, 16, .inr (false, 0, 9999))], [(77, 16, .inr (false, 0, 9999))], [], 2)
theorem kc280_5_9_1e : chkE JB [] [] kc280_5_9_1 1 280 = true := by decide +kernel
theorem kc280_5_9_1o {β : Nat} : KOK JB (W0 β) 280 kc280_5_9_1 := KOK_of W0_f (CT := []) (cuts := []) trivial kc280_5_9_1e (fun cu h => by cases h) rfl
set_option maxHeartbeats 4000000 in
theorem kcc_5_1 {β L : Nat} {xs : Nat → Int} {h : AH} {q : Int} (h0 : 0 ≤ q) (h9 : q ≤ 9) (hL : LI β L xs h) : ∃ (z : Int) (h1 h2 : AH), LI β L xs h1 ∧ LI β L xs h2 ∧ (∀ Q : Option AV → AH → Prop, XC 1000 146 [vR 0, vI 5, vI q, vI 1] h Q = Q (some (vL z)) h1) ∧ ∀ Q : Option AV → AH → Prop, XC 1000 280 [vR 76, vI 5, vI q, vI 1] h1 Q = Q (some (vL z)) h2 := by
  by_cases d0 : q = 0
  · subst d0
    obtain ⟨r1, h1, ⟨v1, rfl, y1, rfl, e1, f1⟩, l1, E1⟩ := LI_k (kc146_5_0_1o (β := β)) (by decide +kernel) (by decide +kernel) (vs := [vR 0, vI 5, vI 0, vI 1]) ⟨_, _, rfl, rfl, _, _, rfl, rfl, _, _, rfl, rfl, _, _, rfl, rfl, rfl⟩ hL
    obtain ⟨r2, h2, ⟨v2, rfl, y2, rfl, e2, f2⟩, l2, E2⟩ := LI_k (kc280_5_0_1o (β := β)) (by decide +kernel) (by decide +kernel) (vs := [vR 76, vI 5, vI 0, vI 1]) ⟨_, _, rfl, rfl, _, _, rfl, rfl, _, _, rfl, rfl, _, _, rfl, rfl, rfl⟩ l1
    have e1 : (100000 : Int) ≤ y1 := e1
    have f1 : y1 ≤ (100000 : Int) := f1
    obtain rfl : y1 = 100000 := Int.le_antisymm f1 e1
    have e2 : (100000 : Int) ≤ y2 := e2
    have f2 : y2 ≤ (100000 : Int) := f2
    obtain rfl : y2 = 100000 := Int.le_antisymm f2 e2
    exact ⟨_, h1, h2, l1, l2, E1, E2⟩
  by_cases d1 : q = 1
  · subst d1
    obtain ⟨r1, h1, ⟨v1, rfl, y1, rfl, e1, f1⟩, l1, E1⟩ := LI_k (kc146_5_1_1o (β := β)) (by decide +kernel) (by decide +kernel) (vs := [vR 0, vI 5, vI 1, vI 1]) ⟨_, _, rfl, rfl, _, _, rfl, rfl, _, _, rfl, rfl, _, _, rfl, rfl, rfl⟩ hL
    obtain ⟨r2, h2, ⟨v2, rfl, y2, rfl, e2, f2⟩, l2, E2⟩ := LI_k (kc280_5_1_1o (β := β)) (by decide +kernel) (by decide +kernel) (vs := [vR 76, vI 5, vI 1, vI 1]) ⟨_, _, rfl, rfl, _, _, rfl, rfl, _, _, rfl, rfl, _, _, rfl, rfl, rfl⟩ l1
    have e1 : (3125 : Int) ≤ y1 := e1
    have f1 : y1 ≤ (3125 : Int) := f1
    obtain rfl : y1 = 3125 := Int.le_antisymm f1 e1
    have e2 : (3125 : Int) ≤ y2 := e2
    have f2 : y2 ≤ (3125 : Int) := f2
    obtain rfl : y2 = 3125 := Int.le_antisymm f2 e2
    exact ⟨_, h1, h2, l1, l2, E1, E2⟩
  by_cases d2 : q = 2
  · subst d2
    obtain ⟨r1, h1, ⟨v1, rfl, y1, rfl, e1, f1⟩, l1, E1⟩ := LI_k (kc146_5_2_1o (β := β)) (by decide +kernel) (by decide +kernel) (vs := [vR 0, vI 5, vI 2, vI 1]) ⟨_, _, rfl, rfl, _, _, rfl, rfl, _, _, rfl, rfl, _, _, rfl, rfl, rfl⟩ hL
    obtain ⟨r2, h2, ⟨v2, rfl, y2, rfl, e2, f2⟩, l2, E2⟩ := LI_k (kc280_5_2_1o (β := β)) (by decide +kernel) (by decide +kernel) (vs := [vR 76, vI 5, vI 2, vI 1]) ⟨_, _, rfl, rfl, _, _, rfl, rfl, _, _, rfl, rfl, _, _, rfl, rfl, rfl⟩ l1
    have e1 : (100000 : Int) ≤ y1 := e1
    have f1 : y1 ≤ (100000 : Int) := f1
    obtain rfl : y1 = 100000 := Int.le_antisymm f1 e1
    have e2 : (100000 : Int) ≤ y2 := e2
    have f2 : y2 ≤ (100000 : Int) := f2
    obtain rfl : y2 = 100000 := Int.le_antisymm f2 e2
    exact ⟨_, h1, h2, l1, l2, E1, E2⟩
  by_cases d3 : q = 3
  · subst d3
    obtain ⟨r1, h1, ⟨v1, rfl, y1, rfl, e1, f1⟩, l1, E1⟩ := LI_k (kc146_5_3_1o (β := β)) (by decide +kernel) (by decide +kernel) (vs := [vR 0, vI 5, vI 3, vI 1]) ⟨_, _, rfl, rfl, _, _, rfl, rfl, _, _, rfl, rfl, _, _, rfl, rfl, rfl⟩ hL
    obtain ⟨r2, h2, ⟨v2, rfl, y2, rfl, e2, f2⟩, l2, E2⟩ := LI_k (kc280_5_3_1o (β := β)) (by decide +kernel) (by decide +kernel) (vs := [vR 76, vI 5, vI 3, vI 1]) ⟨_, _, rfl, rfl, _, _, rfl, rfl, _, _, rfl, rfl, _, _, rfl, rfl, rfl⟩ l1
    have e1 : (3125 : Int) ≤ y1 := e1
    have f1 : y1 ≤ (3125 : Int) := f1
    obtain rfl : y1 = 3125 := Int.le_antisymm f1 e1
    have e2 : (3125 : Int) ≤ y2 := e2
    have f2 : y2 ≤ (3125 : Int) := f2
    obtain rfl : y2 = 3125 := Int.le_antisymm f2 e2
    exact ⟨_, h1, h2, l1, l2, E1, E2⟩
  by_cases d4 : q = 4
  · subst d4
    obtain ⟨r1, h1, ⟨v1, rfl, y1, rfl, e1, f1⟩, l1, E1⟩ := LI_k (kc146_5_4_1o (β := β)) (by decide +kernel) (by decide +kernel) (vs := [vR 0, vI 5, vI 4, vI 1]) ⟨_, _, rfl, rfl, _, _, rfl, rfl, _, _, rfl, rfl, _, _, rfl, rfl, rfl⟩ hL
    obtain ⟨r2, h2, ⟨v2, rfl, y2, rfl, e2, f2⟩, l2, E2⟩ := LI_k (kc280_5_4_1o (β := β)) (by decide +kernel) (by decide +kernel) (vs := [vR 76, vI 5, vI 4, vI 1]) ⟨_, _, rfl, rfl, _, _, rfl, rfl, _, _, rfl, rfl, _, _, rfl, rfl, rfl⟩ l1
    have e1 : (32 : Int) ≤ y1 := e1
    have f1 : y1 ≤ (32 : Int) := f1
    obtain rfl : y1 = 32 := Int.le_antisymm f1 e1
    have e2 : (32 : Int) ≤ y2 := e2
    have f2 : y2 ≤ (32 : Int) := f2
    obtain rfl : y2 = 32 := Int.le_antisymm f2 e2
    exact ⟨_, h1, h2, l1, l2, E1, E2⟩
  by_cases d5 : q = 5
  · subst d5
    obtain ⟨r1, h1, ⟨v1, rfl, y1, rfl, e1, f1⟩, l1, E1⟩ := LI_k (kc146_5_5_1o (β := β)) (by decide +kernel) (by decide +kernel) (vs := [vR 0, vI 5, vI 5, vI 1]) ⟨_, _, rfl, rfl, _, _, rfl, rfl, _, _, rfl, rfl, _, _, rfl, rfl, rfl⟩ hL
    obtain ⟨r2, h2, ⟨v2, rfl, y2, rfl, e2, f2⟩, l2, E2⟩ := LI_k (kc280_5_5_1o (β := β)) (by decide +kernel) (by decide +kernel) (vs := [vR 76, vI 5, vI 5, vI 1]) ⟨_, _, rfl, rfl, _, _, rfl, rfl, _, _, rfl, rfl, _, _, rfl, rfl, rfl⟩ l1
    have e1 : (3125 : Int) ≤ y1 := e1
    have f1 : y1 ≤ (3125 : Int) := f1
    obtain rfl : y1 = 3125 := Int.le_antisymm f1 e1
    have e2 : (3125 : Int) ≤ y2 := e2
    have f2 : y2 ≤ (3125 : Int) := f2
    obtain rfl : y2 = 3125 := Int.le_antisymm f2 e2
    exact ⟨_, h1, h2, l1, l2, E1, E2⟩
  by_cases d6 : q = 6
  · subst d6
    obtain ⟨r1, h1, ⟨v1, rfl, y1, rfl, e1, f1⟩, l1, E1⟩ := LI_k (kc146_5_6_1o (β := β)) (by decide +kernel) (by decide +kernel) (vs := [vR 0, vI 5, vI 6, vI 1]) ⟨_, _, rfl, rfl, _, _, rfl, rfl, _, _, rfl, rfl, _, _, rfl, rfl, rfl⟩ hL
    obtain ⟨r2, h2, ⟨v2, rfl, y2, rfl, e2, f2⟩, l2, E2⟩ := LI_k (kc280_5_6_1o (β := β)) (by decide +kernel) (by decide +kernel) (vs := [vR 76, vI 5, vI 6, vI 1]) ⟨_, _, rfl, rfl, _, _, rfl, rfl, _, _, rfl, rfl, _, _, rfl, rfl, rfl⟩ l1
    have e1 : (100000 : Int) ≤ y1 := e1
    have f1 : y1 ≤ (100000 : Int) := f1
    obtain rfl : y1 = 100000 := Int.le_antisymm f1 e1
    have e2 : (100000 : Int) ≤ y2 := e2
    have f2 : y2 ≤ (100000 : Int) := f2
    obtain rfl : y2 = 100000 := Int.le_antisymm f2 e2
    exact ⟨_, h1, h2, l1, l2, E1, E2⟩
  by_cases d7 : q = 7
  · subst d7
    obtain ⟨r1, h1, ⟨v1, rfl, y1, rfl, e1, f1⟩, l1, E1⟩ := LI_k (kc146_5_7_1o (β := β)) (by decide +kernel) (by decide +kernel) (vs := [vR 0, vI 5, vI 7, vI 1]) ⟨_, _, rfl, rfl, _, _, rfl, rfl, _, _, rfl, rfl, _, _, rfl, rfl, rfl⟩ hL
    obtain ⟨r2, h2, ⟨v2, rfl, y2, rfl, e2, f2⟩, l2, E2⟩ := LI_k (kc280_5_7_1o (β := β)) (by decide +kernel) (by decide +kernel) (vs := [vR 76, vI 5, vI 7, vI 1]) ⟨_, _, rfl, rfl, _, _, rfl, rfl, _, _, rfl, rfl, _, _, rfl, rfl, rfl⟩ l1
    have e1 : (3125 : Int) ≤ y1 := e1
    have f1 : y1 ≤ (3125 : Int) := f1
    obtain rfl : y1 = 3125 := Int.le_antisymm f1 e1
    have e2 : (3125 : Int) ≤ y2 := e2
    have f2 : y2 ≤ (3125 : Int) := f2
    obtain rfl : y2 = 3125 := Int.le_antisymm f2 e2
    exact ⟨_, h1, h2, l1, l2, E1, E2⟩
  by_cases d8 : q = 8
  · subst d8
    obtain ⟨r1, h1, ⟨v1, rfl, y1, rfl, e1, f1⟩, l1, E1⟩ := LI_k (kc146_5_8_1o (β := β)) (by decide +kernel) (by decide +kernel) (vs := [vR 0, vI 5, vI 8, vI 1]) ⟨_, _, rfl, rfl, _, _, rfl, rfl, _, _, rfl, rfl, _, _, rfl, rfl, rfl⟩ hL
    obtain ⟨r2, h2, ⟨v2, rfl, y2, rfl, e2, f2⟩, l2, E2⟩ := LI_k (kc280_5_8_1o (β := β)) (by decide +kernel) (by decide +kernel) (vs := [vR 76, vI 5, vI 8, vI 1]) ⟨_, _, rfl, rfl, _, _, rfl, rfl, _, _, rfl, rfl, _, _, rfl, rfl, rfl⟩ l1
    have e1 : (100000 : Int) ≤ y1 := e1
    have f1 : y1 ≤ (100000 : Int) := f1
    obtain rfl : y1 = 100000 := Int.le_antisymm f1 e1
    have e2 : (100000 : Int) ≤ y2 := e2
    have f2 : y2 ≤ (100000 : Int) := f2
    obtain rfl : y2 = 100000 := Int.le_antisymm f2 e2
    exact ⟨_, h1, h2, l1, l2, E1, E2⟩
  have d9 : q = 9 := by omega
  subst d9
  obtain ⟨r1, h1, ⟨v1, rfl, y1, rfl, e1, f1⟩, l1, E1⟩ := LI_k (kc146_5_9_1o (β := β)) (by decide +kernel) (by decide +kernel) (vs := [vR 0, vI 5, vI 9, vI 1]) ⟨_, _, rfl, rfl, _, _, rfl, rfl, _, _, rfl, rfl, _, _, rfl, rfl, rfl⟩ hL
  obtain ⟨r2, h2, ⟨v2, rfl, y2, rfl, e2, f2⟩, l2, E2⟩ := LI_k (kc280_5_9_1o (β := β)) (by decide +kernel) (by decide +kernel) (vs := [vR 76, vI 5, vI 9, vI 1]) ⟨_, _, rfl, rfl, _, _, rfl, rfl, _, _, rfl, rfl, _, _, rfl, rfl, rfl⟩ l1
  have e1 : (1 : Int) ≤ y1 := e1
  have f1 : y1 ≤ (1 : Int) := f1
  obtain rfl : y1 = 1 := Int.le_antisymm f1 e1
  have e2 : (1 : Int) ≤ y2 := e2
  have f2 : y2 ≤ (1 : Int) := f2
  obtain rfl : y2 = 1 := Int.le_antisymm f2 e2
  exact ⟨_, h1, h2, l1, l2, E1, E2⟩

def kc146_6_0_0 : KT := ([.inl (.inr (.inr (some 0))), .inl (.inl 6), .inl (.inl 0), .inl (.inl 0)], some (.inr (true, 1, 1)), [], [], [(77, 16, .inr (false, 0, 9999))], [(77, 16, .inr (false, 0, 9999))], [], 2)
theorem kc146_6_0_0e : chkE JB [] [] kc146_6_0_0 1 146 = true := by decide +kernel
theorem kc146_6_0_0o {β : Nat} : KOK JB (W0 β) 146 kc146_6_0_0 := KOK_of W0_f (CT := []) (cuts := []) trivial kc146_6_0_0e (fun cu h => by cases h) rfl
def kc280_6_0_0 : KT := ([.inl (.inr (.inr (some 76))), .inl (.inl 6), .inl (.inl 0), .inl (.inl 0)], some (.inr (true, 1, 1)), [], [], [(77, 16, .inr (false, 0, 9999))], [(77, 16, .inr (false, 0, 9999))], [], 2)
theorem kc280_6_0_0e : chkE JB [] [] kc280_6_0_0 1 280 = true := by decide +kernel
theorem kc280_6_0_0o {β : Nat} : KOK JB (W0 β) 280 kc280_6_0_0 := KOK_of W0_f (CT := []) (cuts := []) trivial kc280_6_0_0e (fun cu h => by cases h) rfl
def kc146_6_1_0 : KT := ([.inl (.inr (.inr (some 0))), .inl (.inl 6), .inl (.inl 1), .inl (.inl 0)], some (.inr (true, 1, 1)), [], [], [(77, 16, .inr (false, 0, 9999))], [(77, 16, .inr (false, 0, 9999))], [], 2)
theorem kc146_6_1_0e : chkE JB [] [] kc146_6_1_0 1 146 = true := by decide +kernel
theorem kc146_6_1_0o {β : Nat} : KOK JB (W0 β) 146 kc146_6_1_0 := KOK_of W0_f (CT := []) (cuts := []) trivial kc146_6_1_0e (fun cu h => by cases h) rfl
def kc280_6_1_0 : KT := ([.inl (.inr (.inr (some 76))), .inl (.inl 6), .inl (.inl 1), .inl (.inl 0)], some (.inr (true, 1, 1)), [], [], [(77, 16, .inr (false, 0, 9999))], [(77, 16, .inr (false, 0, 9999))], [], 2)
theorem kc280_6_1_0e : chkE JB [] [] kc280_6_1_0 1 280 = true := by decide +kernel
theorem kc280_6_1_0o {β : Nat} : KOK JB (W0 β) 280 kc280_6_1_0 := KOK_of W0_f (CT := []) (cuts := []) trivial kc280_6_1_0e (fun cu h => by cases h) rfl
def kc146_6_2_0 : KT := ([.inl (.inr (.inr (some 0))), .inl (.inl 6), .inl (.inl 2), .inl (.inl 0)], some (.inr (true, 729, 729)), [], [], [(77, 16, .inr (false, 0, 9999))], [(77, 16, .inr (false, 0, 9999))], [], 2)
theorem kc146_6_2_0e : chkE JB [] [] kc146_6_2_0 1 146 = true := by decide +kernel
theorem kc146_6_2_0o {β : Nat} : KOK JB (W0 β) 146 kc146_6_2_0 := KOK_of W0_f (CT := []) (cuts := []) trivial kc146_6_2_0e (fun cu h => by cases h) rfl
def kc280_6_2_0 : KT := ([.inl (.inr (.inr (some 76))), .inl (.inl 6), .inl (.inl 2), .inl (.inl 0)], some (.inr (true, 729, 729)), [], [], [(77, 16, .inr (false, 0, 9999))], [(77, 16, .inr (false, 0, 9999))], [], 2)
theorem kc280_6_2_0e : chkE JB [] [] kc280_6_2_0 1 280 = true := by decide +kernel
theorem kc280_6_2_0o {β : Nat} : KOK JB (W0 β) 280 kc280_6_2_0 := KOK_of W0_f (CT := []) (cuts := []) trivial kc280_6_2_0e (fun cu h => by cases h) rfl
def kc146_6_3_0 : KT := ([.inl (.inr (.inr (some 0))), .inl (.inl 6), .inl (.inl 3), .inl (.inl 0)], some (.inr (true, 64, 64)), [], [], [(77, 16, .inr (false, 0, 9999))], [(77, 16, .inr (false, 0, 9999))], [], 2)
theorem kc146_6_3_0e : chkE JB [] [] kc146_6_3_0 1 146 = true := by decide +kernel
theorem kc146_6_3_0o {β : Nat} : KOK JB (W0 β) 146 kc146_6_3_0 := KOK_of W0_f (CT := []) (cuts := []) trivial kc146_6_3_0e (fun cu h => by cases h) rfl
def kc280_6_3_0 : KT := ([.inl (.inr (.inr (some 76))), .inl (.inl 6), .inl (.inl 3), .inl (.inl 0)], some (.inr (true, 64, 64)), [], [], [(77, 16, .inr (false, 0, 9999))], [(77, 16, .inr (false, 0, 9999))], [], 2)
theorem kc280_6_3_0e : chkE JB [] [] kc280_6_3_0 1 280 = true := by decide +kernel
theorem kc280_6_3_0o {β : Nat} : KOK JB (W0 β) 280 kc280_6_3_0 := KOK_of W0_f (CT := []) (cuts := []) trivial kc280_6_3_0e (fun cu h => by cases h) rfl
def kc146_6_4_0 : KT := ([.inl (.inr (.inr (some 0))), .inl (.inl 6), .inl (.inl 4), .inl (.inl 0)], some (.inr (true, 1, 1)), [], [], [(77, 16, .inr (false, 0, 9999))], [(77, 16, .inr (false, 0, 9999))], [], 2)
theorem kc146_6_4_0e : chkE JB [] [] kc146_6_4_0 1 146 = true := by decide +kernel
theorem kc146_6_4_0o {β : Nat} : KOK JB (W0 β) 146 kc146_6_4_0 := KOK_of W0_f (CT := []) (cuts := []) trivial kc146_6_4_0e (fun cu h => by cases h) rfl
def kc280_6_4_0 : KT := ([.inl (.inr (.inr (some 76))), .inl (.inl 6), .inl (.inl 4), .inl (.inl 0)], some (.inr (true, 1, 1)), [], [], [(77, 16, .inr (false, 0, 9999))], [(77, 16, .inr (false, 0, 9999))], [], 2)
theorem kc280_6_4_0e : chkE JB [] [] kc280_6_4_0 1 280 = true := by decide +kernel
theorem kc280_6_4_0o {β : Nat} : KOK JB (W0 β) 280 kc280_6_4_0 := KOK_of W0_f (CT := []) (cuts := []) trivial kc280_6_4_0e (fun cu h => by cases h) rfl
def kc146_6_5_0 : KT := ([.inl (.inr (.inr (some 0))), .inl (.inl 6), .inl (.inl 5), .inl (.inl 0)], some (.inr (true, 729, 729)), [], [], [(77, 16, .inr (false, 0, 9999))], [(77, 16, .inr (false, 0, 9999))], [], 2)
theorem kc146_6_5_0e : chkE JB [] [] kc146_6_5_0 1 146 = true := by decide +kernel
theorem kc146_6_5_0o {β : Nat} : KOK JB (W0 β) 146 kc146_6_5_0 := KOK_of W0_f (CT := []) (cuts := []) trivial kc146_6_5_0e (fun cu h => by cases h) rfl
def kc280_6_5_0 : KT := ([.inl (.inr (.inr (some 76))), .inl (.inl 6), .inl (.inl 5), .inl (.inl 0)], some (.inr (true, 729, 729)), [], [], [(77, 16, .inr (false, 0, 9999))], [(77, 16, .inr (false, 0, 9999))], [], 2)
theorem kc280_6_5_0e : chkE JB [] [] kc280_6_5_0 1 280 = true := by decide +kernel
theorem kc280_6_5_0o {β : Nat} : KOK JB (W0 β) 280 kc280_6_5_0 := KOK_of W0_f (CT := []) (cuts := []) trivial kc280_6_5_0e (fun cu h => by cases h) rfl
def kc146_6_6_0 : KT := ([.inl (.inr (.inr (some 0))), .inl (.inl 6), .inl (.inl 6), .inl (.inl 0)], some (.inr (true, 117649, 117649)), [], [], [(77, 16, .inr (false, 0, 9999))], [(77, 16, .inr (false, 0, 9999))], [], 2)
theorem kc146_6_6_0e : chkE JB [] [] kc146_6_6_0 1 146 = true := by decide +kernel
theorem kc146_6_6_0o {β : Nat} : KOK JB (W0 β) 146 kc146_6_6_0 := KOK_of W0_f (CT := []) (cuts := []) trivial kc146_6_6_0e (fun cu h => by cases h) rfl
def kc280_6_6_0 : KT := ([.inl (.inr (.inr (some 76))), .inl (.inl 6), .inl (.inl 6), .inl (.inl 0)], some (.inr (true, 117649, 117649)), [], [], [(77, 16, .inr (false, 0, 9999))], [(77, 16, .inr (false, 0, 9999))], [], 2)
theorem kc280_6_6_0e : chkE JB [] [] kc280_6_6_0 1 280 = true := by decide +kernel
theorem kc280_6_6_0o {β : Nat} : KOK JB (W0 β) 280 kc280_6_6_0 := KOK_of W0_f (CT := []) (cuts := []) trivial kc280_6_6_0e (fun cu h => by cases h) rfl
def kc146_6_7_0 : KT := ([.inl (.inr (.inr (some 0))), .inl (.inl 6), .inl (.inl 7), .inl (.inl 0)], some (.inr (true, 4096, 4096)), [], [], [(77, 16, .inr (false, 0, 9999))], [(77, 16, .inr (false, 0, 9999))], [], 2)
theorem kc146_6_7_0e : chkE JB [] [] kc146_6_7_0 1 146 = true := by decide +kernel
theorem kc146_6_7_0o {β : Nat} : KOK JB (W0 β) 146 kc146_6_7_0 := KOK_of W0_f (CT := []) (cuts := []) trivial kc146_6_7_0e (fun cu h => by cases h) rfl
def kc280_6_7_0 : KT := ([.inl (.inr (.inr (some 76))), .inl (.inl 6), .inl (.inl 7), .inl (.inl 0)], some (.inr (true, 4096, 4096)), [], [], [(77, 16, .inr (false, 0, 9999))], [(77, 16, .inr (false, 0, 9999))], [], 2)
theorem kc280_6_7_0e : chkE JB [] [] kc280_6_7_0 1 280 = true := by decide +kernel
theorem kc280_6_7_0o {β : Nat} : KOK JB (W0 β) 280 kc280_6_7_0 := KOK_of W0_f (CT := []) (cuts := []) trivial kc280_6_7_0e (fun cu h => by cases h) rfl
def kc146_6_8_0 : KT := ([.inl (.inr (.inr (some 0))), .inl (.inl 6), .inl (.inl 8), .inl (.inl 0)], some (.inr (true, 531441, 531441)), [], [], [(77, 16, .inr (false, 0, 9999))], [(77, 16, .inr (false, 0, 9999))], [], 2)
theorem kc146_6_8_0e : chkE JB [] [] kc146_6_8_0 1 146 = true := by decide +kernel
theorem kc146_6_8_0o {β : Nat} : KOK JB (W0 β) 146 kc146_6_8_0 := KOK_of W0_f (CT := []) (cuts := []) trivial kc146_6_8_0e (fun cu h => by cases h) rfl
def kc280_6_8_0 : KT := ([.inl (.inr (.inr (some 76))), .inl (.inl 6), .inl (.inl 8), .inl (.inl 0)], some (.inr (true, 531441, 531441)), [], [], [(77, 16, .inr (false, 0, 9999))], [(77, 16, .inr (false, 0, 9999))], [], 2)
theorem kc280_6_8_0e : chkE JB [] [] kc280_6_8_0 1 280 = true := by decide +kernel
theorem kc280_6_8_0o {β : Nat} : KOK JB (W0 β) 280 kc280_6_8_0 := KOK_of W0_f (CT := []) (cuts := []) trivial kc280_6_8_0e (fun cu h => by cases h) rfl
def kc146_6_9_0 : KT := ([.inl (.inr (.inr (some 0))), .inl (.inl 6), .inl (.inl 9), .inl (.inl 0)], some (.inr (true, 1, 1)), [], [], [(77, 16, .inr (false, 0, 9999))], [(77, 16, .inr (false, 0, 9999))], [], 2)
theorem kc146_6_9_0e : chkE JB [] [] kc146_6_9_0 1 146 = true := by decide +kernel
theorem kc146_6_9_0o {β : Nat} : KOK JB (W0 β) 146 kc146_6_9_0 := KOK_of W0_f (CT := []) (cuts := []) trivial kc146_6_9_0e (fun cu h => by cases h) rfl
def kc280_6_9_0 : KT := ([.inl (.inr (.inr (some 76))), .inl (.inl 6), .inl (.inl 9), .inl (.inl 0)], some (.inr (true, 1, 1)), [], [], [(77, 16, .inr (false, 0, 9999))], [(77, 16, .inr (false, 0, 9999))], [], 2)
theorem kc280_6_9_0e : chkE JB [] [] kc280_6_9_0 1 280 = true := by decide +kernel
theorem kc280_6_9_0o {β : Nat} : KOK JB (W0 β) 280 kc280_6_9_0 := KOK_of W0_f (CT := []) (cuts := []) trivial kc280_6_9_0e (fun cu h => by cases h) rfl
set_option maxHeartbeats 4000000 in
theorem kcc_6_0 {β L : Nat} {xs : Nat → Int} {h : AH} {q : Int} (h0 : 0 ≤ q) (h9 : q ≤ 9) (hL : LI β L xs h) : ∃ (z : Int) (h1 h2 : AH), LI β L xs h1 ∧ LI β L xs h2 ∧ (∀ Q : Option AV → AH → Prop, XC 1000 146 [vR 0, vI 6, vI q, vI 0] h Q = Q (some (vL z)) h1) ∧ ∀ Q : Option AV → AH → Prop, XC 1000 280 [vR 76, vI 6, vI q, vI 0] h1 Q = Q (some (vL z)) h2 := by
  by_cases d0 : q = 0
  · subst d0
    obtain ⟨r1, h1, ⟨v1, rfl, y1, rfl, e1, f1⟩, l1, E1⟩ := LI_k (kc146_6_0_0o (β := β)) (by decide +kernel) (by decide +kernel) (vs := [vR 0, vI 6, vI 0, vI 0]) ⟨_, _, rfl, rfl, _, _, rfl, rfl, _, _, rfl, rfl, _, _, rfl, rfl, rfl⟩ hL
    obtain ⟨r2, h2, ⟨v2, rfl, y2, rfl, e2, f2⟩, l2, E2⟩ := LI_k (kc280_6_0_0o (β := β)) (by decide +kernel) (by decide +kernel) (vs := [vR 76, vI 6, vI 0, vI 0]) ⟨_, _, rfl, rfl, _, _, rfl, rfl, _, _, rfl, rfl, _, _, rfl, rfl, rfl⟩ l1
    have e1 : (1 : Int) ≤ y1 := e1
    have f1 : y1 ≤ (1 : Int) := f1
    obtain rfl : y1 = 1 := Int.le_antisymm f1 e1
    have e2 : (1 : Int) ≤ y2 := e2
    have f2 : y2 ≤ (1 : Int) := f2
    obtain rfl : y2 = 1 := Int.le_antisymm f2 e2
    exact ⟨_, h1, h2, l1, l2, E1, E2⟩
  by_cases d1 : q = 1
  · subst d1
    obtain ⟨r1, h1, ⟨v1, rfl, y1, rfl, e1, f1⟩, l1, E1⟩ := LI_k (kc146_6_1_0o (β := β)) (by decide +kernel) (by decide +kernel) (vs := [vR 0, vI 6, vI 1, vI 0]) ⟨_, _, rfl, rfl, _, _, rfl, rfl, _, _, rfl, rfl, _, _, rfl, rfl, rfl⟩ hL
    obtain ⟨r2, h2, ⟨v2, rfl, y2, rfl, e2, f2⟩, l2, E2⟩ := LI_k (kc280_6_1_0o (β := β)) (by decide +kernel) (by decide +kernel) (vs := [vR 76, vI 6, vI 1, vI 0]) ⟨_, _, rfl, rfl, _, _, rfl, rfl, _, _, rfl, rfl, _, _, rfl, rfl, rfl⟩ l1
    have e1 : (1 : Int) ≤ y1 := e1
    have f1 : y1 ≤ (1 : Int) := f1
    obtain rfl : y1 = 1 := Int.le_antisymm f1 e1
    have e2 : (1 : Int) ≤ y2 := e2
    have f2 : y2 ≤ (1 : Int) := f2
    obtain rfl : y2 = 1 := Int.le_antisymm f2 e2
    exact ⟨_, h1, h2, l1, l2, E1, E2⟩
  by_cases d2 : q = 2
  · subst d2
    obtain ⟨r1, h1, ⟨v1, rfl, y1, rfl, e1, f1⟩, l1, E1⟩ := LI_k (kc146_6_2_0o (β := β)) (by decide +kernel) (by decide +kernel) (vs := [vR 0, vI 6, vI 2, vI 0]) ⟨_, _, rfl, rfl, _, _, rfl, rfl, _, _, rfl, rfl, _, _, rfl, rfl, rfl⟩ hL
    obtain ⟨r2, h2, ⟨v2, rfl, y2, rfl, e2, f2⟩, l2, E2⟩ := LI_k (kc280_6_2_0o (β := β)) (by decide +kernel) (by decide +kernel) (vs := [vR 76, vI 6, vI 2, vI 0]) ⟨_, _, rfl, rfl, _, _, rfl, rfl, _, _, rfl, rfl, _, _, rfl, rfl, rfl⟩ l1
    have e1 : (729 : Int) ≤ y1 := e1
    have f1 : y1 ≤ (729 : Int) := f1
    obtain rfl : y1 = 729 := Int.le_antisymm f1 e1
    have e2 : (729 : Int) ≤ y2 := e2
    have f2 : y2 ≤ (729 : Int) := f2
    obtain rfl : y2 = 729 := Int.le_antisymm f2 e2
    exact ⟨_, h1, h2, l1, l2, E1, E2⟩
  by_cases d3 : q = 3
  · subst d3
    obtain ⟨r1, h1, ⟨v1, rfl, y1, rfl, e1, f1⟩, l1, E1⟩ := LI_k (kc146_6_3_0o (β := β)) (by decide +kernel) (by decide +kernel) (vs := [vR 0, vI 6, vI 3, vI 0]) ⟨_, _, rfl, rfl, _, _, rfl, rfl, _, _, rfl, rfl, _, _, rfl, rfl, rfl⟩ hL
    obtain ⟨r2, h2, ⟨v2, rfl, y2, rfl, e2, f2⟩, l2, E2⟩ := LI_k (kc280_6_3_0o (β := β)) (by decide +kernel) (by decide +kernel) (vs := [vR 76, vI 6, vI 3, vI 0]) ⟨_, _, rfl, rfl, _, _, rfl, rfl, _, _, rfl, rfl, _, _, rfl, rfl, rfl⟩ l1
    have e1 : (64 : Int) ≤ y1 := e1
    have f1 : y1 ≤ (64 : Int) := f1
    obtain rfl : y1 = 64 := Int.le_antisymm f1 e1
    have e2 : (64 : Int) ≤ y2 := e2
    have f2 : y2 ≤ (64 : Int) := f2
    obtain rfl : y2 = 64 := Int.le_antisymm f2 e2
    exact ⟨_, h1, h2, l1, l2, E1, E2⟩
  by_cases d4 : q = 4
  · subst d4
    obtain ⟨r1, h1, ⟨v1, rfl, y1, rfl, e1, f1⟩, l1, E1⟩ := LI_k (kc146_6_4_0o (β := β)) (by decide +kernel) (by decide +kernel) (vs := [vR 0, vI 6, vI 4, vI 0]) ⟨_, _, rfl, rfl, _, _, rfl, rfl, _, _, rfl, rfl, _, _, rfl, rfl, rfl⟩ hL
    obtain ⟨r2, h2, ⟨v2, rfl, y2, rfl, e2, f2⟩, l2, E2⟩ := LI_k (kc280_6_4_0o (β := β)) (by decide +kernel) (by decide +kernel) (vs := [vR 76, vI 6, vI 4, vI 0]) ⟨_, _, rfl, rfl, _, _, rfl, rfl, _, _, rfl, rfl, _, _, rfl, rfl, rfl⟩ l1
    have e1 : (1 : Int) ≤ y1 := e1
    have f1 : y1 ≤ (1 : Int) := f1
    obtain rfl : y1 = 1 := Int.le_antisymm f1 e1
    have e2 : (1 : Int) ≤ y2 := e2
    have f2 : y2 ≤ (1 : Int) := f2
    obtain rfl : y2 = 1 := Int.le_antisymm f2 e2
    exact ⟨_, h1, h2, l1, l2, E1, E2⟩
  by_cases d5 : q = 5
  · subst d5
    obtain ⟨r1, h1, ⟨v1, rfl, y1, rfl, e1, f1⟩, l1, E1⟩ := LI_k (kc146_6_5_0o (β := β)) (by decide +kernel) (by decide +kernel) (vs := [vR 0, vI 6, vI 5, vI 0]) ⟨_, _, rfl, rfl, _, _, rfl, rfl, _, _, rfl, rfl, _, _, rfl, rfl, rfl⟩ hL
    obtain ⟨r2, h2, ⟨v2, rfl, y2, rfl, e2, f2⟩, l2, E2⟩ := LI_k (kc280_6_5_0o (β := β)) (by decide +kernel) (by decide +kernel) (vs := [vR 76, vI 6, vI 5, vI 0]) ⟨_, _, rfl, rfl, _, _, rfl, rfl, _, _, rfl, rfl, _, _, rfl, rfl, rfl⟩ l1
    have e1 : (729 : Int) ≤ y1 := e1
    have f1 : y1 ≤ (729 : Int) := f1
    obtain rfl : y1 = 729 := Int.le_antisymm f1 e1
    have e2 : (729 : Int) ≤ y2 := e2
    have f2 : y2 ≤ (729 : Int) := f2
    obtain rfl : y2 = 729 := Int.le_antisymm f2 e2
    exact ⟨_, h1, h2, l1, l2, E1, E2⟩
  by_cases d6 : q = 6
  · subst d6
    obtain ⟨r1, h1, ⟨v1, rfl, y1, rfl, e1, f1⟩, l1, E1⟩ := LI_k (kc146_6_6_0o (β := β)) (by decide +kernel) (by decide +kernel) (vs := [vR 0, vI 6, vI 6, vI 0]) ⟨_, _, rfl, rfl, _, _, rfl, rfl, _, _, rfl, rfl, _, _, rfl, rfl, rfl⟩ hL
    obtain ⟨r2, h2, ⟨v2, rfl, y2, rfl, e2, f2⟩, l2, E2⟩ := LI_k (kc280_6_6_0o (β := β)) (by decide +kernel) (by decide +kernel) (vs := [vR 76, vI 6, vI 6, vI 0]) ⟨_, _, rfl, rfl, _, _, rfl, rfl, _, _, rfl, rfl, _, _, rfl, rfl, rfl⟩ l1
    have e1 : (117649 : Int) ≤ y1 := e1
    have f1 : y1 ≤ (117649 : Int) := f1
    obtain rfl : y1 = 117649 := Int.le_antisymm f1 e1
    have e2 : (117649 : Int) ≤ y2 := e2
    have f2 : y2 ≤ (117649 : Int) := f2
    obtain rfl : y2 = 117649 := Int.le_antisymm f2 e2
    exact ⟨_, h1, h2, l1, l2, E1, E2⟩
  by_cases d7 : q = 7
  · subst d7
    obtain ⟨r1, h1, ⟨v1, rfl, y1, rfl, e1, f1⟩, l1, E1⟩ := LI_k (kc146_6_7_0o (β := β)) (by decide +kernel) (by decide +kernel) (vs := [vR 0, vI 6, vI 7, vI 0]) ⟨_, _, rfl, rfl, _, _, rfl, rfl, _, _, rfl, rfl, _, _, rfl, rfl, rfl⟩ hL
    obtain ⟨r2, h2, ⟨v2, rfl, y2, rfl, e2, f2⟩, l2, E2⟩ := LI_k (kc280_6_7_0o (β := β)) (by decide +kernel) (by decide +kernel) (vs := [vR 76, vI 6, vI 7, vI 0]) ⟨_, _, rfl, rfl, _, _, rfl, rfl, _, _, rfl, rfl, _, _, rfl, rfl, rfl⟩ l1
    have e1 : (4096 : Int) ≤ y1 := e1
    have f1 : y1 ≤ (4096 : Int) := f1
    obtain rfl : y1 = 4096 := Int.le_antisymm f1 e1
    have e2 : (4096 : Int) ≤ y2 := e2
    have f2 : y2 ≤ (4096 : Int) := f2
    obtain rfl : y2 = 4096 := Int.le_antisymm f2 e2
    exact ⟨_, h1, h2, l1, l2, E1, E2⟩
  by_cases d8 : q = 8
  · subst d8
    obtain ⟨r1, h1, ⟨v1, rfl, y1, rfl, e1, f1⟩, l1, E1⟩ := LI_k (kc146_6_8_0o (β := β)) (by decide +kernel) (by decide +kernel) (vs := [vR 0, vI 6, vI 8, vI 0]) ⟨_, _, rfl, rfl, _, _, rfl, rfl, _, _, rfl, rfl, _, _, rfl, rfl, rfl⟩ hL
    obtain ⟨r2, h2, ⟨v2, rfl, y2, rfl, e2, f2⟩, l2, E2⟩ := LI_k (kc280_6_8_0o (β := β)) (by decide +kernel) (by decide +kernel) (vs := [vR 76, vI 6, vI 8, vI 0]) ⟨_, _, rfl, rfl, _, _, rfl, rfl, _, _, rfl, rfl, _, _, rfl, rfl, rfl⟩ l1
    have e1 : (531441 : Int) ≤ y1 := e1
    have f1 : y1 ≤ (531441 : Int) := f1
    obtain rfl : y1 = 531441 := Int.le_antisymm f1 e1
    have e2 : (531441 : Int) ≤ y2 := e2
    have f2 : y2 ≤ (531441 : Int) := f2
    obtain rfl : y2 = 531441 := Int.le_antisymm f2 e2
    exact ⟨_, h1, h2, l1, l2, E1, E2⟩
  have d9 : q = 9 := by omega
  subst d9
  obtain ⟨r1, h1, ⟨v1, rfl, y1, rfl, e1, f1⟩, l1, E1⟩ := LI_k (kc146_6_9_0o (β := β)) (by decide +kernel) (by decide +kernel) (vs := [vR 0, vI 6, vI 9, vI 0]) ⟨_, _, rfl, rfl, _, _, rfl, rfl, _, _, rfl, rfl, _, _, rfl, rfl, rfl⟩ hL
  obtain ⟨r2, h2, ⟨v2, rfl, y2, rfl, e2, f2⟩, l2, E2⟩ := LI_k (kc280_6_9_0o (β := β)) (by decide +kernel) (by decide +kernel) (vs := [vR 76, vI 6, vI 9, vI 0]) ⟨_, _, rfl, rfl, _, _, rfl, rfl, _, _, rfl, rfl, _, _, rfl, rfl, rfl⟩ l1
  have e1 : (1 : Int) ≤ y1 := e1
  have f1 : y1 ≤ (1 : Int) := f1
  obtain rfl : y1 = 1 := Int.le_antisymm f1 e1
  have e2 : (1 : Int) ≤ y2 := e2
  have f2 : y2 ≤ (1 : Int) := f2
  obtain rfl : y2 = 1 := Int.le_antisymm f2 e2
  exact ⟨_, h1, h2, l1, l2, E1, E2⟩
def kc146_6_0_1 : KT := ([.inl (.inr (.inr (some 0))), .inl (.inl 6), .inl (.inl 0), .inl (.inl 1)], some (.inr (true, 1000000, 1000000)), [], [], [(77, 16, .inr (false, 0, 9999))], [(77, 16, .inr (false, 0, 9999))], [], 2)
theorem kc146_6_0_1e : chkE JB [] [] kc146_6_0_1 1 146 = true := by decide +kernel
theorem kc146_6_0_1o {β : Nat} : KOK JB (W0 β) 146 kc146_6_0_1 := KOK_of W0_f (CT := []) (cuts := []) trivial kc146_6_0_1e (fun cu h => by cases h) rfl
def kc280_6_0_1 : KT := ([.inl (.inr (.inr (some 76))), .inl (.inl 6), .inl (.inl 0), .inl (.inl 1)], some (.inr (true, 1000000, 1000000)), [], [], [(77, 16, .inr (false, 0, 9999))], [(77, 16, .inr (false, 0, 9999))], [], 2)
theorem kc280_6_0_1e : chkE JB [] [] kc280_6_0_1 1 280 = true := by decide +kernel
theorem kc280_6_0_1o {β : Nat} : KOK JB (W0 β) 280 kc280_6_0_1 := KOK_of W0_f (CT := []) (cuts := []) trivial kc280_6_0_1e (fun cu h => by cases h) rfl
def kc146_6_1_1 : KT := ([.inl (.inr (.inr (some 0))), .inl (.inl 6), .inl (.inl 1), .inl (.inl 1)], some (.inr (true, 15625, 15625)), [], [], [(77, 16, .inr (false, 0, 9999))], [(77, 16, .inr (false, 0, 9999))], [], 2)
theorem kc146_6_1_1e : chkE JB [] [] kc146_6_1_1 1 146 = true := by decide +kernel
theorem kc146_6_1_1o {β : Nat} : KOK JB (W0 β) 146 kc146_6_1_1 := KOK_of W0_f (CT := []) (cuts := []) trivial kc146_6_1_1e (fun cu h => by cases h) rfl
def kc280_6_1_1 : KT := ([.inl (.inr (.inr (some 76))), .inl (.inl 6), .inl (.inl 1), .inl (.inl 1)], some (.inr (true, 15625, 15625)), [], [], [(77, 16, .inr (false, 0, 9999))], [(77, 16, .inr (false, 0, 9999))], [], 2)
theorem kc280_6_1_1e : chkE JB [] [] kc280_6_1_1 1 280 = true := by decide +kernel
theorem kc280_6_1_1o {β : Nat} : KOK JB (W0 β) 280 kc280_6_1_1 := KOK_of W0_f (CT := []) (cuts := []) trivial kc280_6_1_1e (fun cu h => by cases h) rfl
def kc146_6_2_1 : KT := ([.inl (.inr (.inr (some 0))), .inl (.inl 6), .inl (.inl 2), .inl (.inl 1)], some (.inr (true, 1000000, 1000000)), [], [], [(77, 16, .inr (false, 0, 9999))], [(77, 16, .inr (false, 0, 9999))], [], 2)
theorem kc146_6_2_1e : chkE JB [] [] kc146_6_2_1 1 146 = true := by decide +kernel
theorem kc146_6_2_1o {β : Nat} : KOK JB (W0 β) 146 kc146_6_2_1 := KOK_of W0_f (CT := []) (cuts := []) trivial kc146_6_2_1e (fun cu h => by cases h) rfl
def kc280_6_2_1 : KT := ([.inl (.inr (.inr (some 76))), .inl (.inl 6), .inl (.inl 2), .inl (.inl 1)], some (.inr (true, 1000000, 1000000)), [], [], [(77, 16, .inr (false, 0, 9999))], [(77, 16, .inr (false, 0, 9999))], [], 2)
theorem kc280_6_2_1e : chkE JB [] [] kc280_6_2_1 1 280 = true := by decide +kernel
theorem kc280_6_2_1o {β : Nat} : KOK JB (W0 β) 280 kc280_6_2_1 := KOK_of W0_f (CT := []) (cuts := []) trivial kc280_6_2_1e (fun cu h => by cases h) rfl
def kc146_6_3_1 : KT := ([.inl (.inr (.inr (some 0))), .inl (.inl 6), .inl (.inl 3), .inl (.inl 1)], some (.inr (true, 15625, 15625)), [], [], [(77, 16, .inr (false, 0, 9999))], [(77, 16, .inr (false, 0, 9999))], [], 2)
theorem kc146_6_3_1e : chkE JB [] [] kc146_6_3_1 1 146 = true := by decide +kernel
theorem kc146_6_3_1o {β : Nat} : KOK JB (W0 β) 146 kc146_6_3_1 := KOK_of W0_f (CT := []) (cuts := []) trivial kc146_6_3_1e (fun cu h => by cases h) rfl
def kc280_6_3_1 : KT := ([.inl (.inr (.inr (some 76))), .inl (.inl 6), .inl (.inl 3), .inl (.inl 1)], some (.inr (true, 15625, 15625)), [], [], [(77, 16, .inr (false, 0, 9999))], [(77, 16, .inr (false, 0, 9999))], [], 2)
theorem kc280_6_3_1e : chkE JB [] [] kc280_6_3_1 1 280 = true := by decide +kernel
theorem kc280_6_3_1o {β : Nat} : KOK JB (W0 β) 280 kc280_6_3_1 := KOK_of W0_f (CT := []) (cuts := []) trivial kc280_6_3_1e (fun cu h => by cases h) rfl
def kc146_6_4_1 : KT := ([.inl (.inr (.inr (some 0))), .inl (.inl 6), .inl (.inl 4), .inl (.inl 1)], some (.inr (true, 64, 64)), [], [], [(77, 16, .inr (false, 0, 9999))], [(77, 16, .inr (false, 0, 9999))], [], 2)
theorem kc146_6_4_1e : chkE JB [] [] kc146_6_4_1 1 146 = true := by decide +kernel
theorem kc146_6_4_1o {β : Nat} : KOK JB (W0 β) 146 kc146_6_4_1 := KOK_of W0_f (CT := []) (cuts := []) trivial kc146_6_4_1e (fun cu h => by cases h) rfl
def kc280_6_4_1 : KT := ([.inl (.inr (.inr (some 76))), .inl (.inl 6), .inl (.inl 4), .inl (.inl 1)], some (.inr (true, 64, 64)), [], [], [(77, 16, .inr (false, 0, 9999))], [(77, 16, .inr (false, 0, 9999))], [], 2)
theorem kc280_6_4_1e : chkE JB [] [] kc280_6_4_1 1 280 = true := by decide +kernel
theorem kc280_6_4_1o {β : Nat} : KOK JB (W0 β) 280 kc280_6_4_1 := KOK_of W0_f (CT := []) (cuts := []) trivial kc280_6_4_1e (fun cu h => by cases h) rfl
def kc146_6_5_1 : KT := ([.inl (.inr (.inr (some 0))), .inl (.inl 6), .inl (.inl 5), .inl (.inl 1)], some (.inr (true, 15625, 15625)), [], [], [(77, 16, .inr (false, 0, 9999))], [(77, 16, .inr (false, 0, 9999))], [], 2)
theorem kc146_6_5_1e : chkE JB [] [] kc146_6_5_1 1 146 = true := by decide +kernel
theorem kc146_6_5_1o {β : Nat} : KOK JB (W0 β) 146 kc146_6_5_1 := KOK_of W0_f (CT := []) (cuts := []) trivial kc146_6_5_1e (fun cu h => by cases h) rfl
def kc280_6_5_1 : KT := ([.inl (.inr (.inr (some 76))), .inl (.inl 6), .inl (.inl 5), .inl (.inl 1)], some (.inr (true, 15625, 15625)), [], [], [(77, 16, .inr (false, 0, 9999))], [(77, 16, .inr (false, 0, 9999))], [], 2)
theorem kc280_6_5_1e : chkE JB [] [] kc280_6_5_1 1 280 = true := by decide +kernel
theorem kc280_6_5_1o {β : Nat} : KOK JB (W0 β) 280 kc280_6_5_1 := KOK_of W0_f (CT := []) (cuts := []) trivial kc280_6_5_1e (fun cu h => by cases h) rfl
def kc146_6_6_1 : KT := ([.inl (.inr (.inr (some 0))), .inl (.inl 6), .inl (.inl 6), .inl (.inl 1)], some (.inr (true, 1000000, 1000000)), [], [], [(77, 16, .inr (false, 0, 9999))], [(77, 16, .inr (false, 0, 9999))], [], 2)
theorem kc146_6_6_1e : chkE JB [] [] kc146_6_6_1 1 146 = true := by decide +kernel
theorem kc146_6_6_1o {β : Nat} : KOK JB (W0 β) 146 kc146_6_6_1 := KOK_of W0_f (CT := []) (cuts := []) trivial kc146_6_6_1e (fun cu h => by cases h) rfl
def kc280_6_6_1 : KT := ([.inl (.inr (.inr (some 76))), .inl (.inl 6), .inl (.inl 6), .inl (.inl 1)], some (.inr (true, 1000000, 1000000)), [], [], [(77, 16, .inr (false, 0, 9999))], [(77, 16, .inr (false, 0, 9999))], [], 2)
theorem kc280_6_6_1e : chkE JB [] [] kc280_6_6_1 1 280 = true := by decide +kernel
theorem kc280_6_6_1o {β : Nat} : KOK JB (W0 β) 280 kc280_6_6_1 := KOK_of W0_f (CT := []) (cuts := []) trivial kc280_6_6_1e (fun cu h => by cases h) rfl
def kc146_6_7_1 : KT := ([.inl (.inr (.inr (some 0))), .inl (.inl 6), .inl (.inl 7), .inl (.inl 1)], some (.inr (true, 15625, 15625)), [], [], [(77, 16, .inr (false, 0, 9999))], [(77, 16, .inr (false, 0, 9999))], [], 2)
theorem kc146_6_7_1e : chkE JB [] [] kc146_6_7_1 1 146 = true := by decide +kernel
theorem kc146_6_7_1o {β : Nat} : KOK JB (W0 β) 146 kc146_6_7_1 := KOK_of W0_f (CT := []) (cuts := []) trivial kc146_6_7_1e (fun cu h => by cases h) rfl
def kc280_6_7_1 : KT := ([.inl (.inr (.inr (some 76))), .inl (.inl 6), .inl (.inl 7), .inl (.inl 1)], some (.inr (true, 15625, 15625)), [], [], [(77, 16, .inr (false, 0, 9999))], [(77, 16, .inr (false, 0, 9999))], [], 2)
theorem kc280_6_7_1e : chkE JB [] [] kc280_6_7_1 1 280 = true := by decide +kernel
theorem kc280_6_7_1o {β : Nat} : KOK JB (W0 β) 280 kc280_6_7_1 := KOK_of W0_f (CT := []) (cuts := []) trivial kc280_6_7_1e (fun cu h => by cases h) rfl
def kc146_6_8_1 : KT := ([.inl (.inr (.inr (some 0))), .inl (.inl 6), .inl (.inl 8), .inl (.inl 1)], some (.inr (true, 1000000, 1000000)), [], [], [(77, 16, .inr (false, 0, 9999))], [(77, 16, .inr (false, 0, 9999))], [], 2)
theorem kc146_6_8_1e : chkE JB [] [] kc146_6_8_1 1 146 = true := by decide +kernel
theorem kc146_6_8_1o {β : Nat} : KOK JB (W0 β) 146 kc146_6_8_1 := KOK_of W0_f (CT := []) (cuts := []) trivial kc146_6_8_1e (fun cu h => by cases h) rfl
def kc280_6_8_1 : KT := ([.inl (.inr (.inr (some 76))), .inl (.inl 6), .inl (.inl 8), .inl (.inl 1)], some (.inr (true, 1000000, 1000000)), [], [], [(77, 16, .inr (false, 0, 9999))], [(77, 16, .inr (false, 0, 9999))], [], 2)
theorem kc280_6_8_1e : chkE JB [] [] kc280_6_8_1 1 280 = true := by decide +kernel
theorem kc280_6_8_1o {β : Nat} : KOK JB (W0 β) 280 kc280_6_8_1 := KOK_of W0_f (CT := []) (cuts := []) trivial kc280_6_8_1e (fun cu h => by cases h) rfl
def kc146_6_9_1 : KT := ([.inl (.inr (.inr (some 0))), .inl (.inl 6), .inl (.inl 9), .inl (.inl 1)], some (.inr (true, 1, 1)), [], [], [(77, 16, .inr (false, 0, 9999))], [(77, 16, .inr (false, 0, 9999))], [], 2)
theorem kc146_6_9_1e : chkE JB [] [] kc146_6_9_1 1 146 = true := by decide +kernel
theorem kc146_6_9_1o {β : Nat} : KOK JB (W0 β) 146 kc146_6_9_1 := KOK_of W0_f (CT := []) (cuts := []) trivial kc146_6_9_1e (fun cu h => by cases h) rfl
def kc280_6_9_1 : KT := ([.inl (.inr (.inr (some 76))), .inl (.inl 6), .inl (.inl 9), .inl (.inl 1)], some (.inr (true, 1, 1)), [], [], [(77, 16, .inr (false, 0, 9999))], [(77, 16, .inr (false, 0, 9999))], [], 2)
theorem kc280_6_9_1e : chkE JB [] [] kc280_6_9_1 1 280 = true := by decide +kernel
theorem kc280_6_9_1o {β : Nat} : KOK JB (W0 β) 280 kc280_6_9_1 := KOK_of W0_f (CT := []) (cuts := []) trivial kc280_6_9_1e (fun cu h => by cases h) rfl
set_option maxHeartbeats 4000000 in
theorem kcc_6_1 {β L : Nat} {xs : Nat → Int} {h : AH} {q : Int} (h0 : 0 ≤ q) (h9 : q ≤ 9) (hL : LI β L xs h) : ∃ (z : Int) (h1 h2 : AH), LI β L xs h1 ∧ LI β L xs h2 ∧ (∀ Q : Option AV → AH → Prop, XC 1000 146 [vR 0, vI 6, vI q, vI 1] h Q = Q (some (vL z)) h1) ∧ ∀ Q : Option AV → AH → Prop, XC 1000 280 [vR 76, vI 6, vI q, vI 1] h1 Q = Q (some (vL z)) h2 := by
  by_cases d0 : q = 0
  · subst d0
    obtain ⟨r1, h1, ⟨v1, rfl, y1, rfl, e1, f1⟩, l1, E1⟩ := LI_k (kc146_6_0_1o (β := β)) (by decide +kernel) (by decide +kernel) (vs := [vR 0, vI 6, vI 0, vI 1]) ⟨_, _, rfl, rfl, _, _, rfl, rfl, _, _, rfl, rfl, _, _, rfl, rfl, rfl⟩ hL
    obtain ⟨r2, h2, ⟨v2, rfl, y2, rfl, e2, f2⟩, l2, E2⟩ := LI_k (kc280_6_0_1o (β := β)) (by decide +kernel) (by decide +kernel) (vs := [vR 76, vI 6, vI 0, vI 1]) ⟨_, _, rfl, rfl, _, _, rfl, rfl, _, _, rfl, rfl, _, _, rfl, rfl, rfl⟩ l1
    have e1 : (1000000 : Int) ≤ y1 := e1
    have f1 : y1 ≤ (1000000 : Int) := f1
    obtain rfl : y1 = 1000000 := Int.le_antisymm f1 e1
    have e2 : (1000000 : Int) ≤ y2 := e2
    have f2 : y2 ≤ (1000000 : Int) := f2
    obtain rfl : y2 = 1000000 := Int.le_antisymm f2 e2
    exact ⟨_, h1, h2, l1, l2, E1, E2⟩
  by_cases d1 : q = 1
  · subst d1
    obtain ⟨r1, h1, ⟨v1, rfl, y1, rfl, e1, f1⟩, l1, E1⟩ := LI_k (kc146_6_1_1o (β := β)) (by decide +kernel) (by decide +kernel) (vs := [vR 0, vI 6, vI 1, vI 1]) ⟨_, _, rfl, rfl, _, _, rfl, rfl, _, _, rfl, rfl, _, _, rfl, rfl, rfl⟩ hL
    obtain ⟨r2, h2, ⟨v2, rfl, y2, rfl, e2, f2⟩, l2, E2⟩ := LI_k (kc280_6_1_1o (β := β)) (by decide +kernel) (by decide +kernel) (vs := [vR 76, vI 6, vI 1, vI 1]) ⟨_, _, rfl, rfl, _, _, rfl, rfl, _, _, rfl, rfl, _, _, rfl, rfl, rfl⟩ l1
    have e1 : (15625 : Int) ≤ y1 := e1
    have f1 : y1 ≤ (15625 : Int) := f1
    obtain rfl : y1 = 15625 := Int.le_antisymm f1 e1
    have e2 : (15625 : Int) ≤ y2 := e2
    have f2 : y2 ≤ (15625 : Int) := f2
    obtain rfl : y2 = 15625 := Int.le_antisymm f2 e2
    exact ⟨_, h1, h2, l1, l2, E1, E2⟩
  by_cases d2 : q = 2
  · subst d2
    obtain ⟨r1, h1, ⟨v1, rfl, y1, rfl, e1, f1⟩, l1, E1⟩ := LI_k (kc146_6_2_1o (β := β)) (by decide +kernel) (by decide +kernel) (vs := [vR 0, vI 6, vI 2, vI 1]) ⟨_, _, rfl, rfl, _, _, rfl, rfl, _, _, rfl, rfl, _, _, rfl, rfl, rfl⟩ hL
    obtain ⟨r2, h2, ⟨v2, rfl, y2, rfl, e2, f2⟩, l2, E2⟩ := LI_k (kc280_6_2_1o (β := β)) (by decide +kernel) (by decide +kernel) (vs := [vR 76, vI 6, vI 2, vI 1]) ⟨_, _, rfl, rfl, _, _, rfl, rfl, _, _, rfl, rfl, _, _, rfl, rfl, rfl⟩ l1
    have e1 : (1000000 : Int) ≤ y1 := e1
    have f1 : y1 ≤ (1000000 : Int) := f1
    obtain rfl : y1 = 1000000 := Int.le_antisymm f1 e1
    have e2 : (1000000 : Int) ≤ y2 := e2
    have f2 : y2 ≤ (1000000 : Int) := f2
    obtain rfl : y2 = 1000000 := Int.le_antisymm f2 e2
    exact ⟨_, h1, h2, l1, l2, E1, E2⟩
  by_cases d3 : q = 3
  · subst d3
    obtain ⟨r1, h1, ⟨v1, rfl, y1, rfl, e1, f1⟩, l1, E1⟩ := LI_k (kc146_6_3_1o (β := β)) (by decide +kernel) (by decide +kernel) (vs := [vR 0, vI 6, vI 3, vI 1]) ⟨_, _, rfl, rfl, _, _, rfl, rfl, _, _, rfl, rfl, _, _, rfl, rfl, rfl⟩ hL
    obtain ⟨r2, h2, ⟨v2, rfl, y2, rfl, e2, f2⟩, l2, E2⟩ := LI_k (kc280_6_3_1o (β := β)) (by decide +kernel) (by decide +kernel) (vs := [vR 76, vI 6, vI 3, vI 1]) ⟨_, _, rfl, rfl, _, _, rfl, rfl, _, _, rfl, rfl, _, _, rfl, rfl, rfl⟩ l1
    have e1 : (15625 : Int) ≤ y1 := e1
    have f1 : y1 ≤ (15625 : Int) := f1
    obtain rfl : y1 = 15625 := Int.le_antisymm f1 e1
    have e2 : (15625 : Int) ≤ y2 := e2
    have f2 : y2 ≤ (15625 : Int) := f2
    obtain rfl : y2 = 15625 := Int.le_antisymm f2 e2
    exact ⟨_, h1, h2, l1, l2, E1, E2⟩
  by_cases d4 : q = 4
  · subst d4
    obtain ⟨r1, h1, ⟨v1, rfl, y1, rfl, e1, f1⟩, l1, E1⟩ := LI_k (kc146_6_4_1o (β := β)) (by decide +kernel) (by decide +kernel) (vs := [vR 0, vI 6, vI 4, vI 1]) ⟨_, _, rfl, rfl, _, _, rfl, rfl, _, _, rfl, rfl, _, _, rfl, rfl, rfl⟩ hL
    obtain ⟨r2, h2, ⟨v2, rfl, y2, rfl, e2, f2⟩, l2, E2⟩ := LI_k (kc280_6_4_1o (β := β)) (by decide +kernel) (by decide +kernel) (vs := [vR 76, vI 6, vI 4, vI 1]) ⟨_, _, rfl, rfl, _, _, rfl, rfl, _, _, rfl, rfl, _, _, rfl, rfl, rfl⟩ l1
    have e1 : (64 : Int) ≤ y1 := e1
    have f1 : y1 ≤ (64 : Int) := f1
    obtain rfl : y1 = 64 := Int.le_antisymm f1 e1
    have e2 : (64 : Int) ≤ y2 := e2
    have f2 : y2 ≤ (64 : Int) := f2
    obtain rfl : y2 = 64 := Int.le_antisymm f2 e2
    exact ⟨_, h1, h2, l1, l2, E1, E2⟩
  by_cases d5 : q = 5
  · subst d5
    obtain ⟨r1, h1, ⟨v1, rfl, y1, rfl, e1, f1⟩, l1, E1⟩ := LI_k (kc146_6_5_1o (β := β)) (by decide +kernel) (by decide +kernel) (vs := [vR 0, vI 6, vI 5, vI 1]) ⟨_, _, rfl, rfl, _, _, rfl, rfl, _, _, rfl, rfl, _, _, rfl, rfl, rfl⟩ hL
    obtain ⟨r2, h2, ⟨v2, rfl, y2, rfl, e2, f2⟩, l2, E2⟩ := LI_k (kc280_6_5_1o (β := β)) (by decide +kernel) (by decide +kernel) (vs := [vR 76, vI 6, vI 5, vI 1]) ⟨_, _, rfl, rfl, _, _, rfl, rfl, _, _, rfl, rfl, _, _, rfl, rfl, rfl⟩ l1
    have e1 : (15625 : Int) ≤ y1 := e1
    have f1 : y1 ≤ (15625 : Int) := f1
    obtain rfl : y1 = 15625 := Int.le_antisymm f1 e1
    have e2 : (15625 : Int) ≤ y2 := e2
    have f2 : y2 ≤ (15625 : Int) := f2
    obtain rfl : y2 = 15625 := Int.le_antisymm f2 e2
    exact ⟨_, h1, h2, l1, l2, E1, E2⟩
  by_cases d6 : q = 6
  · subst d6
    obtain ⟨r1, h1, ⟨v1, rfl, y1, rfl, e1, f1⟩, l1, E1⟩ := LI_k (kc146_6_6_1o (β := β)) (by decide +kernel) (by decide +kernel) (vs := [vR 0, vI 6, vI 6, vI 1]) ⟨_, _, rfl, rfl, _, _, rfl, rfl, _, _, rfl, rfl, _, _, rfl, rfl, rfl⟩ hL
    obtain ⟨r2, h2, ⟨v2, rfl, y2, rfl, e2, f2⟩, l2, E2⟩ := LI_k (kc280_6_6_1o (β := β)) (by decide +kernel) (by decide +kernel) (vs := [vR 76, vI 6, vI 6, vI 1]) ⟨_, _, rfl, rfl, _, _, rfl, rfl, _, _, rfl, rfl, _, _, rfl, rfl, rfl⟩ l1
    have e1 : (1000000 : Int) ≤ y1 := e1
    have f1 : y1 ≤ (1000000 : Int) := f1
    obtain rfl : y1 = 1000000 := Int.le_antisymm f1 e1
    have e2 : (1000000 : Int) ≤ y2 := e2
    have f2 : y2 ≤ (1000000 : Int) := f2
    obtain rfl : y2 = 1000000 := Int.le_antisymm f2 e2
    exact ⟨_, h1, h2, l1, l2, E1, E2⟩
  by_cases d7 : q = 7
  · subst d7
    obtain ⟨r1, h1, ⟨v1, rfl, y1, rfl, e1, f1⟩, l1, E1⟩ := LI_k (kc146_6_7_1o (β := β)) (by decide +kernel) (by decide +kernel) (vs := [vR 0, vI 6, vI 7, vI 1]) ⟨_, _, rfl, rfl, _, _, rfl, rfl, _, _, rfl, rfl, _, _, rfl, rfl, rfl⟩ hL
    obtain ⟨r2, h2, ⟨v2, rfl, y2, rfl, e2, f2⟩, l2, E2⟩ := LI_k (kc280_6_7_1o (β := β)) (by decide +kernel) (by decide +kernel) (vs := [vR 76, vI 6, vI 7, vI 1]) ⟨_, _, rfl, rfl, _, _, rfl, rfl, _, _, rfl, rfl, _, _, rfl, rfl, rfl⟩ l1
    have e1 : (15625 : Int) ≤ y1 := e1
    have f1 : y1 ≤ (15625 : Int) := f1
    obtain rfl : y1 = 15625 := Int.le_antisymm f1 e1
    have e2 : (15625 : Int) ≤ y2 := e2
    have f2 : y2 ≤ (15625 : Int) := f2
    obtain rfl : y2 = 15625 := Int.le_antisymm f2 e2
    exact ⟨_, h1, h2, l1, l2, E1, E2⟩
  by_cases d8 : q = 8
  · subst d8
    obtain ⟨r1, h1, ⟨v1, rfl, y1, rfl, e1, f1⟩, l1, E1⟩ := LI_k (kc146_6_8_1o (β := β)) (by decide +kernel) (by decide +kernel) (vs := [vR 0, vI 6, vI 8, vI 1]) ⟨_, _, rfl, rfl, _, _, rfl, rfl, _, _, rfl, rfl, _, _, rfl, rfl, rfl⟩ hL
    obtain ⟨r2, h2, ⟨v2, rfl, y2, rfl, e2, f2⟩, l2, E2⟩ := LI_k (kc280_6_8_1o (β := β)) (by decide +kernel) (by decide +kernel) (vs := [vR 76, vI 6, vI 8, vI 1]) ⟨_, _, rfl, rfl, _, _, rfl, rfl, _, _, rfl, rfl, _, _, rfl, rfl, rfl⟩ l1
    have e1 : (1000000 : Int) ≤ y1 := e1
    have f1 : y1 ≤ (1000000 : Int) := f1
    obtain rfl : y1 = 1000000 := Int.le_antisymm f1 e1
    have e2 : (1000000 : Int) ≤ y2 := e2
    have f2 : y2 ≤ (1000000 : Int) := f2
    obtain rfl : y2 = 1000000 := Int.le_antisymm f2 e2
    exact ⟨_, h1, h2, l1, l2, E1, E2⟩
  have d9 : q = 9 := by omega
  subst d9
  obtain ⟨r1, h1, ⟨v1, rfl, y1, rfl, e1, f1⟩, l1, E1⟩ := LI_k (kc146_6_9_1o (β := β)) (by decide +kernel) (by decide +kernel) (vs := [vR 0, vI 6, vI 9, vI 1]) ⟨_, _, rfl, rfl, _, _, rfl, rfl, _, _, rfl, rfl, _, _, rfl, rfl, rfl⟩ hL
  obtain ⟨r2, h2, ⟨v2, rfl, y2, rfl, e2, f2⟩, l2, E2⟩ := LI_k (kc280_6_9_1o (β := β)) (by decide +kernel) (by decide +kernel) (vs := [vR 76, vI 6, vI 9, vI 1]) ⟨_, _, rfl, rfl, _, _, rfl, rfl, _, _, rfl, rfl, _, _, rfl, rfl, rfl⟩ l1
  have e1 : (1 : Int) ≤ y1 := e1
  have f1 : y1 ≤ (1 : Int) := f1
  obtain rfl : y1 = 1 := Int.le_antisymm f1 e1
  have e2 : (1 : Int) ≤ y2 := e2
  have f2 : y2 ≤ (1 : Int) := f2
  obtain rfl : y2 = 1 := Int.le_antisymm f2 e2
  exact ⟨_, h1, h2, l1, l2, E1, E2⟩

def kc146_7_0_0 : KT := ([.inl (.inr (.inr (some 0))), .inl (.inl 7), .inl (.inl 0), .inl (.inl 0)], some (.inr (true, 1, 1)), [], [], [(77, 16, .inr (false, 0, 9999))], [(77, 16, .inr (false, 0, 9999))], [], 2)
theorem kc146_7_0_0e : chkE JB [] [] kc146_7_0_0 1 146 = true := by decide +kernel
theorem kc146_7_0_0o {β : Nat} : KOK JB (W0 β) 146 kc146_7_0_0 := KOK_of W0_f (CT := []) (cuts := []) trivial kc146_7_0_0e (fun cu h => by cases h) rfl
def kc280_7_0_0 : KT := ([.inl (.inr (.inr (some 76))), .inl (.inl 7), .inl (.inl 0), .inl (.inl 0)], some (.inr (true, 1, 1)), [], [], [(77, 16, .inr (false, 0, 9999))], [(77, 16, .inr (false, 0, 9999))], [], 2)
theorem kc280_7_0_0e : chkE JB [] [] kc280_7_0_0 1 280 = true := by decide +kernel
theorem kc280_7_0_0o {β : Nat} : KOK JB (W0 β) 280 kc280_7_0_0 := KOK_of W0_f (CT := []) (cuts := []) trivial kc280_7_0_0e (fun cu h => by cases h) rfl
def kc146_7_1_0 : KT := ([.inl (.inr (.inr (some 0))), .inl (.inl 7), .inl (.inl 1), .inl (.inl 0)], some (.inr (true, 1, 1)), [], [], [(77, 16, .inr (false, 0, 9999))], [(77, 16, .inr (false, 0, 9999))], [], 2)
theorem kc146_7_1_0e : chkE JB [] [] kc146_7_1_0 1 146 = true := by decide +kernel
theorem kc146_7_1_0o {β : Nat} : KOK JB (W0 β) 146 kc146_7_1_0 := KOK_of W0_f (CT := []) (cuts := []) trivial kc146_7_1_0e (fun cu h => by cases h) rfl
def kc280_7_1_0 : KT := ([.inl (.inr (.inr (some 76))), .inl (.inl 7), .inl (.inl 1), .inl (.inl 0)], some (.inr (true, 1, 1)), [], [], [(77, 16, .inr (false, 0, 9999))], [(77, 16, .inr (false, 0, 9999))], [], 2)
theorem kc280_7_1_0e : chkE JB [] [] kc280_7_1_0 1 280 = true := by decide +kernel
theorem kc280_7_1_0o {β : Nat} : KOK JB (W0 β) 280 kc280_7_1_0 := KOK_of W0_f (CT := []) (cuts := []) trivial kc280_7_1_0e (fun cu h => by cases h) rfl
def kc146_7_2_0 : KT := ([.inl (.inr (.inr (some 0))), .inl (.inl 7), .inl (.inl 2), .inl (.inl 0)], some (.inr (true, 2187, 2187)), [], [], [(77, 16, .inr (false, 0, 9999))], [(77, 16, .inr (false, 0, 9999))], [], 2)
theorem kc146_7_2_0e : chkE JB [] [] kc146_7_2_0 1 146 = true := by decide +kernel
theorem kc146_7_2_0o {β : Nat} : KOK JB (W0 β) 146 kc146_7_2_0 := KOK_of W0_f (CT := []) (cuts := []) trivial kc146_7_2_0e (fun cu h => by cases h) rfl
def kc280_7_2_0 : KT := ([.inl (.inr (.inr (some 76))), .inl (.inl 7), .inl (.inl 2), .inl (.inl 0)], some (.inr (true, 2187, 2187)), [], [], [(77, 16, .inr (false, 0, 9999))], [(77, 16, .inr (false, 0, 9999))], [], 2)
theorem kc280_7_2_0e : chkE JB [] [] kc280_7_2_0 1 280 = true := by decide +kernel
theorem kc280_7_2_0o {β : Nat} : KOK JB (W0 β) 280 kc280_7_2_0 := KOK_of W0_f (CT := []) (cuts := []) trivial kc280_7_2_0e (fun cu h => by cases h) rfl
def kc146_7_3_0 : KT := ([.inl (.inr (.inr (some 0))), .inl (.inl 7), .inl (.inl 3), .inl (.inl 0)], some (.inr (true, 128, 128)), [], [], [(77, 16, .inr (false, 0, 9999))], [(77, 16, .inr (false, 0, 9999))], [], 2)
theorem kc146_7_3_0e : chkE JB [] [] kc146_7_3_0 1 146 = true := by decide +kernel
theorem kc146_7_3_0o {β : Nat} : KOK JB (W0 β) 146 kc146_7_3_0 := KOK_of W0_f (CT := []) (cuts := []) trivial kc146_7_3_0e (fun cu h => by cases h) rfl
def kc280_7_3_0 : KT := ([.inl (.inr (.inr (some 76))), .inl (.inl 7), .inl (.inl 3), .inl (.inl 0)], some (.inr (true, 128, 128)), [], [], [(77, 16, .inr (false, 0, 9999))], [(77, 16, .inr (false, 0, 9999))], [], 2)
theorem kc280_7_3_0e : chkE JB [] [] kc280_7_3_0 1 280 = true := by decide +kernel
theorem kc280_7_3_0o {β : Nat} : KOK JB (W0 β) 280 kc280_7_3_0 := KOK_of W0_f (CT := []) (cuts := []) trivial kc280_7_3_0e (fun cu h => by cases h) rfl
def kc146_7_4_0 : KT := ([.inl (.inr (.inr (some 0))), .inl (.inl 7), .inl (.inl 4), .inl (.inl 0)], some (.inr (true, 1, 1)), [], [], [(77, 16, .inr (false, 0, 9999))], [(77, 16, .inr (false, 0, 9999))], [], 2)
theorem kc146_7_4_0e : chkE JB [] [] kc146_7_4_0 1 146 = true := by decide +kernel
theorem kc146_7_4_0o {β : Nat} : KOK JB (W0 β) 146 kc146_7_4_0 := KOK_of W0_f (CT := []) (cuts := []) trivial kc146_7_4_0e (fun cu h => by cases h) rfl
def kc280_7_4_0 : KT := ([.inl (.inr (.inr (some 76))), .inl (.inl 7), .inl (.inl 4), .inl (.inl 0)], some (.inr (true, 1, 1)), [], [], [(77, 16, .inr (false, 0, 9999))], [(77, 16, .inr (false, 0, 9999))], [], 2)
theorem kc280_7_4_0e : chkE JB [] [] kc280_7_4_0 1 280 = true := by decide +kernel
theorem kc280_7_4_0o {β : Nat} : KOK JB (W0 β) 280 kc280_7_4_0 := KOK_of W0_f (CT := []) (cuts := []) trivial kc280_7_4_0e (fun cu h => by cases h) rfl
def kc146_7_5_0 : KT := ([.inl (.inr (.inr (some 0))), .inl (.inl 7), .inl (.inl 5), .inl (.inl 0)], some (.inr (true, 2187, 2187)), [], [], [(77, 16, .inr (false, 0, 9999))], [(77, 16, .inr (false, 0, 9999))], [], 2)
theorem kc146_7_5_0e : chkE JB [] [] kc146_7_5_0 1 146 = true := by decide +kernel
theorem kc146_7_5_0o {β : Nat} : KOK JB (W0 β) 146 kc146_7_5_0 := KOK_of W0_f (CT := []) (cuts := []) trivial kc146_7_5_0e (fun cu h => by cases h) rfl
def kc280_7_5_0 : KT := ([.inl (.inr (.inr (some 76))), .inl (.inl 7), .inl (.inl 5), .inl (.inl 0)], some (.inr (true, 2187, 2187)), [], [], [(77, 16, .inr (false, 0, 9999))], [(77, 16, .inr (false, 0, 9999))], [], 2)
theorem kc280_7_5_0e : chkE JB [] [] kc280_7_5_0 1 280 = true := by decide +kernel
theorem kc280_7_5_0o {β : Nat} : KOK JB (W0 β) 280 kc280_7_5_0 := KOK_of W0_f (CT := []) (cuts := []) trivial kc280_7_5_0e (fun cu h => by cases h) rfl
def kc146_7_6_0 : KT := ([.inl (.inr (.inr (some 0))), .inl (.inl 7), .inl (.inl 6), .inl (.inl 0)], some (.inr (true, 823543, 823543)), [], [], [(77, 16, .inr (false, 0, 9999))], [(77, 16, .inr (false, 0, 9999))], [], 2)
theorem kc146_7_6_0e : chkE JB [] [] kc146_7_6_0 1 146 = true := by decide +kernel
theorem kc146_7_6_0o {β : Nat} : KOK JB (W0 β) 146 kc146_7_6_0 := KOK_of W0_f (CT := []) (cuts := []) trivial kc146_7_6_0e (fun cu h => by cases h) rfl
def kc280_7_6_0 : KT := ([.inl (.inr (.inr (some 76))), .inl (.inl 7), .inl (.inl 6), .inl (.inl 0)], some (.inr (true, 823543, 823543)), [], [], [(77, 16, .inr (false, 0, 9999))], [(77, 16, .inr (false, 0, 9999))], [], 2)
theorem kc280_7_6_0e : chkE JB [] [] kc280_7_6_0 1 280 = true := by decide +kernel
theorem kc280_7_6_0o {β : Nat} : KOK JB (W0 β) 280 kc280_7_6_0 := KOK_of W0_f (CT := []) (cuts := []) trivial kc280_7_6_0e (fun cu h => by cases h) rfl
def kc146_7_7_0 : KT := ([.inl (.inr (.inr (some 0))), .inl (.inl 7), .inl (.inl 7), .inl (.inl 0)], some (.inr (true, 16384, 16384)), [], [], [(77, 16, .inr (false, 0, 9999))], [(77, 16, .inr (false, 0, 9999))], [], 2)
theorem kc146_7_7_0e : chkE JB [] [] kc146_7_7_0 1 146 = true := by decide +kernel
theorem kc146_7_7_0o {β : Nat} : KOK JB (W0 β) 146 kc146_7_7_0 := KOK_of W0_f (CT := []) (cuts := []) trivial kc146_7_7_0e (fun cu h => by cases h) rfl
def kc280_7_7_0 : KT := ([.inl (.inr (.inr (some 76))), .inl (.inl 7), .inl (.inl 7), .inl (.inl 0)], some (.inr (true, 16384, 16384)), [], [], [(77, 16, .inr (false, 0, 9999))], [(77, 16, .inr (false, 0, 9999))], [], 2)
theorem kc280_7_7_0e : chkE JB [] [] kc280_7_7_0 1 280 = true := by decide +kernel
theorem kc280_7_7_0o {β : Nat} : KOK JB (W0 β) 280 kc280_7_7_0 := KOK_of W0_f (CT := []) (cuts := []) trivial kc280_7_7_0e (fun cu h => by cases h) rfl
def kc146_7_8_0 : KT := ([.inl (.inr (.inr (some 0))), .inl (.inl 7), .inl (.inl 8), .inl (.inl 0)], some (.inr (true, 4782969, 4782969)), [], [], [(77, 16, .inr (false, 0, 9999))], [(77, 16, .inr (false, 0, 9999))], [], 2)
theorem kc146_7_8_0e : chkE JB [] [] kc146_7_8_0 1 146 = true := by decide +kernel
theorem kc146_7_8_0o {β : Nat} : KOK JB (W0 β) 146 kc146_7_8_0 := KOK_of W0_f (CT := []) (cuts := []) trivial kc146_7_8_0e (fun cu h => by cases h) rfl
def kc280_7_8_0 : KT := ([.inl (.inr (.inr (some 76))), .inl (.inl 7), .inl (.inl 8), .inl (.inl 0)], some (.inr (true, 4782969, 4782969)), [], [], [(77, 16, .inr (false, 0, 9999))], [(77, 16, .inr (false, 0, 9999))], [], 2)
theorem kc280_7_8_0e : chkE JB [] [] kc280_7_8_0 1 280 = true := by decide +kernel
theorem kc280_7_8_0o {β : Nat} : KOK JB (W0 β) 280 kc280_7_8_0 := KOK_of W0_f (CT := []) (cuts := []) trivial kc280_7_8_0e (fun cu h => by cases h) rfl
def kc146_7_9_0 : KT := ([.inl (.inr (.inr (some 0))), .inl (.inl 7), .inl (.inl 9), .inl (.inl 0)], some (.inr (true, 1, 1)), [], [], [(77, 16, .inr (false, 0, 9999))], [(77, 16, .inr (false, 0, 9999))], [], 2)
theorem kc146_7_9_0e : chkE JB [] [] kc146_7_9_0 1 146 = true := by decide +kernel
theorem kc146_7_9_0o {β : Nat} : KOK JB (W0 β) 146 kc146_7_9_0 := KOK_of W0_f (CT := []) (cuts := []) trivial kc146_7_9_0e (fun cu h => by cases h) rfl
def kc280_7_9_0 : KT := ([.inl (.inr (.inr (some 76))), .inl (.inl 7), .inl (.inl 9), .inl (.inl 0)], some (.inr (true, 1, 1)), [], [], [(77, 16, .inr (false, 0, 9999))], [(77, 16, .inr (false, 0, 9999))], [], 2)
theorem kc280_7_9_0e : chkE JB [] [] kc280_7_9_0 1 280 = true := by decide +kernel
theorem kc280_7_9_0o {β : Nat} : KOK JB (W0 β) 280 kc280_7_9_0 := KOK_of W0_f (CT := []) (cuts := []) trivial kc280_7_9_0e (fun cu h => by cases h) rfl
set_option maxHeartbeats 4000000 in
theorem kcc_7_0 {β L : Nat} {xs : Nat → Int} {h : AH} {q : Int} (h0 : 0 ≤ q) (h9 : q ≤ 9) (hL : LI β L xs h) : ∃ (z : Int) (h1 h2 : AH), LI β L xs h1 ∧ LI β L xs h2 ∧ (∀ Q : Option AV → AH → Prop, XC 1000 146 [vR 0, vI 7, vI q, vI 0] h Q = Q (some (vL z)) h1) ∧ ∀ Q : Option AV → AH → Prop, XC 1000 280 [vR 76, vI 7, vI q, vI 0] h1 Q = Q (some (vL z)) h2 := by
  by_cases d0 : q = 0
  · subst d0
    obtain ⟨r1, h1, ⟨v1, rfl, y1, rfl, e1, f1⟩, l1, E1⟩ := LI_k (kc146_7_0_0o (β := β)) (by decide +kernel) (by decide +kernel) (vs := [vR 0, vI 7, vI 0, vI 0]) ⟨_, _, rfl, rfl, _, _, rfl, rfl, _, _, rfl, rfl, _, _, rfl, rfl, rfl⟩ hL
    obtain ⟨r2, h2, ⟨v2, rfl, y2, rfl, e2, f2⟩, l2, E2⟩ := LI_k (kc280_7_0_0o (β := β)) (by decide +kernel) (by decide +kernel) (vs := [vR 76, vI 7, vI 0, vI 0]) ⟨_, _, rfl, rfl, _, _, rfl, rfl, _, _, rfl, rfl, _, _, rfl, rfl, rfl⟩ l1
    have e1 : (1 : Int) ≤ y1 := e1
    have f1 : y1 ≤ (1 : Int) := f1
    obtain rfl : y1 = 1 := Int.le_antisymm f1 e1
    have e2 : (1 : Int) ≤ y2 := e2
    have f2 : y2 ≤ (1 : Int) := f2
    obtain rfl : y2 = 1 := Int.le_antisymm f2 e2
    exact ⟨_, h1, h2, l1, l2, E1, E2⟩
  by_cases d1 : q = 1
  · subst d1
    obtain ⟨r1, h1, ⟨v1, rfl, y1, rfl, e1, f1⟩, l1, E1⟩ := LI_k (kc146_7_1_0o (β := β)) (by decide +kernel) (by decide +kernel) (vs := [vR 0, vI 7, vI 1, vI 0]) ⟨_, _, rfl, rfl, _, _, rfl, rfl, _, _, rfl, rfl, _, _, rfl, rfl, rfl⟩ hL
    obtain ⟨r2, h2, ⟨v2, rfl, y2, rfl, e2, f2⟩, l2, E2⟩ := LI_k (kc280_7_1_0o (β := β)) (by decide +kernel) (by decide +kernel) (vs := [vR 76, vI 7, vI 1, vI 0]) ⟨_, _, rfl, rfl, _, _, rfl, rfl, _, _, rfl, rfl, _, _, rfl, rfl, rfl⟩ l1
    have e1 : (1 : Int) ≤ y1 := e1
    have f1 : y1 ≤ (1 : Int) := f1
    obtain rfl : y1 = 1 := Int.le_antisymm f1 e1
    have e2 : (1 : Int) ≤ y2 := e2
    have f2 : y2 ≤ (1 : Int) := f2
    obtain rfl : y2 = 1 := Int.le_antisymm f2 e2
    exact ⟨_, h1, h2, l1, l2, E1, E2⟩
  by_cases d2 : q = 2
  · subst d2
    obtain ⟨r1, h1, ⟨v1, rfl, y1, rfl, e1, f1⟩, l1, E1⟩ := LI_k (kc146_7_2_0o (β := β)) (by decide +kernel) (by decide +kernel) (vs := [vR 0, vI 7, vI 2, vI 0]) ⟨_, _, rfl, rfl, _, _, rfl, rfl, _, _, rfl, rfl, _, _, rfl, rfl, rfl⟩ hL
    obtain ⟨r2, h2, ⟨v2, rfl, y2, rfl, e2, f2⟩, l2, E2⟩ := LI_k (kc280_7_2_0o (β := β)) (by decide +kernel) (by decide +kernel) (vs := [vR 76, vI 7, vI 2, vI 0]) ⟨_, _, rfl, rfl, _, _, rfl, rfl, _, _, rfl, rfl, _, _, rfl, rfl, rfl⟩ l1
    have e1 : (2187 : Int) ≤ y1 := e1
    have f1 : y1 ≤ (2187 : Int) := f1
    obtain rfl : y1 = 2187 := Int.le_antisymm f1 e1
    have e2 : (2187 : Int) ≤ y2 := e2
    have f2 : y2 ≤ (2187 : Int) := f2
    obtain rfl : y2 = 2187 := Int.le_antisymm f2 e2
    exact ⟨_, h1, h2, l1, l2, E1, E2⟩
  by_cases d3 : q = 3
  · subst d3
    obtain ⟨r1, h1, ⟨v1, rfl, y1, rfl, e1, f1⟩, l1, E1⟩ := LI_k (kc146_7_3_0o (β := β)) (by decide +kernel) (by decide +kernel) (vs := [vR 0, vI 7, vI 3, vI 0]) ⟨_, _, rfl, rfl, _, _, rfl, rfl, _, _, rfl, rfl, _, _, rfl, rfl, rfl⟩ hL
    obtain ⟨r2, h2, ⟨v2, rfl, y2, rfl, e2, f2⟩, l2, E2⟩ := LI_k (kc280_7_3_0o (β := β)) (by decide +kernel) (by decide +kernel) (vs := [vR 76, vI 7, vI 3, vI 0]) ⟨_, _, rfl, rfl, _, _, rfl, rfl, _, _, rfl, rfl, _, _, rfl, rfl, rfl⟩ l1
    have e1 : (128 : Int) ≤ y1 := e1
    have f1 : y1 ≤ (128 : Int) := f1
    obtain rfl : y1 = 128 := Int.le_antisymm f1 e1
    have e2 : (128 : Int) ≤ y2 := e2
    have f2 : y2 ≤ (128 : Int) := f2
    obtain rfl : y2 = 128 := Int.le_antisymm f2 e2
    exact ⟨_, h1, h2, l1, l2, E1, E2⟩
  by_cases d4 : q = 4
  · subst d4
    obtain ⟨r1, h1, ⟨v1, rfl, y1, rfl, e1, f1⟩, l1, E1⟩ := LI_k (kc146_7_4_0o (β := β)) (by decide +kernel) (by decide +kernel) (vs := [vR 0, vI 7, vI 4, vI 0]) ⟨_, _, rfl, rfl, _, _, rfl, rfl, _, _, rfl, rfl, _, _, rfl, rfl, rfl⟩ hL
    obtain ⟨r2, h2, ⟨v2, rfl, y2, rfl, e2, f2⟩, l2, E2⟩ := LI_k (kc280_7_4_0o (β := β)) (by decide +kernel) (by decide +kernel) (vs := [vR 76, vI 7, vI 4, vI 0]) ⟨_, _, rfl, rfl, _, _, rfl, rfl, _, _, rfl, rfl, _, _, rfl, rfl, rfl⟩ l1
    have e1 : (1 : Int) ≤ y1 := e1
    have f1 : y1 ≤ (1 : Int) := f1
    obtain rfl : y1 = 1 := Int.le_antisymm f1 e1
    have e2 : (1 : Int) ≤ y2 := e2
    have f2 : y2 ≤ (1 : Int) := f2
    obtain rfl : y2 = 1 := Int.le_antisymm f2 e2
    exact ⟨_, h1, h2, l1, l2, E1, E2⟩
  by_cases d5 : q = 5
  · subst d5
    obtain ⟨r1, h1, ⟨v1, rfl, y1, rfl, e1, f1⟩, l1, E1⟩ := LI_k (kc146_7_5_0o (β := β)) (by decide +kernel) (by decide +kernel) (vs := [vR 0, vI 7, vI 5, vI 0]) ⟨_, _, rfl, rfl, _, _, rfl, rfl, _, _, rfl, rfl, _, _, rfl, rfl, rfl⟩ hL
    obtain ⟨r2, h2, ⟨v2, rfl, y2, rfl, e2, f2⟩, l2, E2⟩ := LI_k (kc280_7_5_0o (β := β)) (by decide +kernel) (by decide +kernel) (vs := [vR 76, vI 7, vI 5, vI 0]) ⟨_, _, rfl, rfl, _, _, rfl, rfl, _, _, rfl, rfl, _, _, rfl, rfl, rfl⟩ l1
    have e1 : (2187 : Int) ≤ y1 := e1
    have f1 : y1 ≤ (2187 : Int) := f1
    obtain rfl : y1 = 2187 := Int.le_antisymm f1 e1
    have e2 : (2187 : Int) ≤ y2 := e2
    have f2 : y2 ≤ (2187 : Int) := f2
    obtain rfl : y2 = 2187 := Int.le_antisymm f2 e2
    exact ⟨_, h1, h2, l1, l2, E1, E2⟩
  by_cases d6 : q = 6
  · subst d6
    obtain ⟨r1, h1, ⟨v1, rfl, y1, rfl, e1, f1⟩, l1, E1⟩ := LI_k (kc146_7_6_0o (β := β)) (by decide +kernel) (by decide +kernel) (vs := [vR 0, vI 7, vI 6, vI 0]) ⟨_, _, rfl, rfl, _, _, rfl, rfl, _, _, rfl, rfl, _, _, rfl, rfl, rfl⟩ hL
    obtain ⟨r2, h2, ⟨v2, rfl, y2, rfl, e2, f2⟩, l2, E2⟩ := LI_k (kc280_7_6_0o (β := β)) (by decide +kernel) (by decide +kernel) (vs := [vR 76, vI 7, vI 6, vI 0]) ⟨_, _, rfl, rfl, _, _, rfl, rfl, _, _, rfl, rfl, _, _, rfl, rfl, rfl⟩ l1
    have e1 : (823543 : Int) ≤ y1 := e1
    have f1 : y1 ≤ (823543 : Int) := f1
    obtain rfl : y1 = 823543 := Int.le_antisymm f1 e1
    have e2 : (823543 : Int) ≤ y2 := e2
    have f2 : y2 ≤ (823543 : Int) := f2
    obtain rfl : y2 = 823543 := Int.le_antisymm f2 e2
    exact ⟨_, h1, h2, l1, l2, E1, E2⟩
  by_cases d7 : q = 7
  · subst d7
    obtain ⟨r1, h1, ⟨v1, rfl, y1, rfl, e1, f1⟩, l1, E1⟩ := LI_k (kc146_7_7_0o (β := β)) (by decide +kernel) (by decide +kernel) (vs := [vR 0, vI 7, vI 7, vI 0]) ⟨_, _, rfl, rfl, _, _, rfl, rfl, _, _, rfl, rfl, _, _, rfl, rfl, rfl⟩ hL
    obtain ⟨r2, h2, ⟨v2, rfl, y2, rfl, e2, f2⟩, l2, E2⟩ := LI_k (kc280_7_7_0o (β := β)) (by decide +kernel) (by decide +kernel) (vs := [vR 76, vI 7, vI 7, vI 0]) ⟨_, _, rfl, rfl, _, _, rfl, rfl, _, _, rfl, rfl, _, _, rfl, rfl, rfl⟩ l1
    have e1 : (16384 : Int) ≤ y1 := e1
    have f1 : y1 ≤ (16384 : Int) := f1
    obtain rfl : y1 = 16384 := Int.le_antisymm f1 e1
    have e2 : (16384 : Int) ≤ y2 := e2
    have f2 : y2 ≤ (16384 : Int) := f2
    obtain rfl : y2 = 16384 := Int.le_antisymm f2 e2
    exact ⟨_, h1, h2, l1, l2, E1, E2⟩
  by_cases d8 : q = 8
  · subst d8
    obtain ⟨r1, h1, ⟨v1, rfl, y1, rfl, e1, f1⟩, l1, E1⟩ := LI_k (kc146_7_8_0o (β := β)) (by decide +kernel) (by decide +kernel) (vs := [vR 0, vI 7, vI 8, vI 0]) ⟨_, _, rfl, rfl, _, _, rfl, rfl, _, _, rfl, rfl, _, _, rfl, rfl, rfl⟩ hL
    obtain ⟨r2, h2, ⟨v2, rfl, y2, rfl, e2, f2⟩, l2, E2⟩ := LI_k (kc280_7_8_0o (β := β)) (by decide +kernel) (by decide +kernel) (vs := [vR 76, vI 7, vI 8, vI 0]) ⟨_, _, rfl, rfl, _, _, rfl, rfl, _, _, rfl, rfl, _, _, rfl, rfl, rfl⟩ l1
    have e1 : (4782969 : Int) ≤ y1 := e1
    have f1 : y1 ≤ (4782969 : Int) := f1
    obtain rfl : y1 = 4782969 := Int.le_antisymm f1 e1
    have e2 : (4782969 : Int) ≤ y2 := e2
    have f2 : y2 ≤ (4782969 : Int) := f2
    obtain rfl : y2 = 4782969 := Int.le_antisymm f2 e2
    exact ⟨_, h1, h2, l1, l2, E1, E2⟩
  have d9 : q = 9 := by omega
  subst d9
  obtain ⟨r1, h1, ⟨v1, rfl, y1, rfl, e1, f1⟩, l1, E1⟩ := LI_k (kc146_7_9_0o (β := β)) (by decide +kernel) (by decide +kernel) (vs := [vR 0, vI 7, vI 9, vI 0]) ⟨_, _, rfl, rfl, _, _, rfl, rfl, _, _, rfl, rfl, _, _, rfl, rfl, rfl⟩ hL
  obtain ⟨r2, h2, ⟨v2, rfl, y2, rfl, e2, f2⟩, l2, E2⟩ := LI_k (kc280_7_9_0o (β := β)) (by decide +kernel) (by decide +kernel) (vs := [vR 76, vI 7, vI 9, vI 0]) ⟨_, _, rfl, rfl, _, _, rfl, rfl, _, _, rfl, rfl, _, _, rfl, rfl, rfl⟩ l1
  have e1 : (1 : Int) ≤ y1 := e1
  have f1 : y1 ≤ (1 : Int) := f1
  obtain rfl : y1 = 1 := Int.le_antisymm f1 e1
  have e2 : (1 : Int) ≤ y2 := e2
  have f2 : y2 ≤ (1 : Int) := f2
  obtain rfl : y2 = 1 := Int.le_antisymm f2 e2
  exact ⟨_, h1, h2, l1, l2, E1, E2⟩
def kc146_7_0_1 : KT := ([.inl (.inr (.inr (some 0))), .inl (.inl 7), .inl (.inl 0), .inl (.inl 1)], some (.inr (true, 10000000, 10000000)), [], [], [(77, 16, .inr (false, 0, 9999))], [(77, 16, .inr (false, 0, 9999))], [], 2)
theorem kc146_7_0_1e : chkE JB [] [] kc146_7_0_1 1 146 = true := by decide +kernel
theorem kc146_7_0_1o {β : Nat} : KOK JB (W0 β) 146 kc146_7_0_1 := KOK_of W0_f (CT := []) (cuts := []) trivial kc146_7_0_1e (fun cu h => by cases h) rfl
def kc280_7_0_1 : KT := ([.inl (.inr (.inr (some 76))), .inl (.inl 7), .inl (.inl 0), .inl (.inl 1)], some (.inr (true, 10000000, 10000000)), [], [], [(77, 16, .inr (false, 0, 9999))], [(77, 16, .inr (false, 0, 9999))], [], 2)
theorem kc280_7_0_1e : chkE JB [] [] kc280_7_0_1 1 280 = true := by decide +kernel
theorem kc280_7_0_1o {β : Nat} : KOK JB (W0 β) 280 kc280_7_0_1 := KOK_of W0_f (CT := []) (cuts := []) trivial kc280_7_0_1e (fun cu h => by cases h) rfl
def kc146_7_1_1 : KT := ([.inl (.inr (.inr (some 0))), .inl (.inl 7), .inl (.inl 1), .inl (.inl 1)], some (.inr (true, 78125, 78125)), [], [], [(77, 16, .inr (false, 0, 9999))], [(77, 16, .inr (false, 0, 9999))], [], 2)
theorem kc146_7_1_1e : chkE JB [] [] kc146_7_1_1 1 146 = true := by decide +kernel
theorem kc146_7_1_1o {β : Nat} : KOK JB (W0 β) 146 kc146_7_1_1 := KOK_of W0_f (CT := []) (cuts := []) trivial kc146_7_1_1e (fun cu h => by cases h) rfl
def kc280_7_1_1 : KT := ([.inl (.inr (.inr (some 76))), .inl (.inl 7), .inl (.inl 1), .inl (.inl 1)], some (.inr (true, 78125, 78125)), [], [], [(77, 16, .inr (false, 0, 9999))], [(77, 16, .inr (false, 0, 9999))], [], 2)
theorem kc280_7_1_1e : chkE JB [] [] kc280_7_1_1 1 280 = true := by decide +kernel
theorem kc280_7_1_1o {β : Nat} : KOK JB (W0 β) 280 kc280_7_1_1 := KOK_of W0_f (CT := []) (cuts := []) trivial kc280_7_1_1e (fun cu h => by cases h) rfl
def kc146_7_2_1 : KT := ([.inl (.inr (.inr (some 0))), .inl (.inl 7), .inl (.inl 2), .inl (.inl 1)], some (.inr (true, 10000000, 10000000)), [], [], [(77, 16, .inr (false, 0, 9999))], [(77, 16, .inr (false, 0, 9999))], [], 2)
theorem kc146_7_2_1e : chkE JB [] [] kc146_7_2_1 1 146 = true := by decide +kernel
theorem kc146_7_2_1o {β : Nat} : KOK JB (W0 β) 146 kc146_7_2_1 := KOK_of W0_f (CT := []) (cuts := []) trivial kc146_7_2_1e (fun cu h => by cases h) rfl
def kc280_7_2_1 : KT := ([.inl (.inr (.inr (some 76))), .inl (.inl 7), .inl (.inl 2), .inl (.inl 1)], some (.inr (true, 10000000, 10000000)), [], [], [(77, 16, .inr (false, 0, 9999))], [(77, 16, .inr (false, 0, 9999))], [], 2)
theorem kc280_7_2_1e : chkE JB [] [] kc280_7_2_1 1 280 = true := by decide +kernel
theorem kc280_7_2_1o {β : Nat} : KOK JB (W0 β) 280 kc280_7_2_1 := KOK_of W0_f (CT := []) (cuts := []) trivial kc280_7_2_1e (fun cu h => by cases h) rfl
def kc146_7_3_1 : KT := ([.inl (.inr (.inr (some 0))), .inl (.inl 7), .inl (.inl 3), .inl (.inl 1)], some (.inr (true, 78125, 78125)), [], [], [(77, 16, .inr (false, 0, 9999))], [(77, 16, .inr (false, 0, 9999))], [], 2)
theorem kc146_7_3_1e : chkE JB [] [] kc146_7_3_1 1 146 = true := by decide +kernel
theorem kc146_7_3_1o {β : Nat} : KOK JB (W0 β) 146 kc146_7_3_1 := KOK_of W0_f (CT := []) (cuts := []) trivial kc146_7_3_1e (fun cu h => by cases h) rfl
def kc280_7_3_1 : KT := ([.inl (.inr (.inr (some 76))), .inl (.inl 7), .inl (.inl 3), .inl (.inl 1)], some (.inr (true, 78125, 78125)), [], [], [(77, 16, .inr (false, 0, 9999))], [(77, 16, .inr (false, 0, 9999))], [], 2)
theorem kc280_7_3_1e : chkE JB [] [] kc280_7_3_1 1 280 = true := by decide +kernel
theorem kc280_7_3_1o {β : Nat} : KOK JB (W0 β) 280 kc280_7_3_1 := KOK_of W0_f (CT := []) (cuts := []) trivial kc280_7_3_1e (fun cu h => by cases h) rfl
def kc146_7_4_1 : KT := ([.inl (.inr (.inr (some 0))), .inl (.inl 7), .inl (.inl 4), .inl (.inl 1)], some (.inr (true, 128, 128)), [], [], [(77, 16, .inr (false, 0, 9999))], [(77, 16, .inr (false, 0, 9999))], [], 2)
theorem kc146_7_4_1e : chkE JB [] [] kc146_7_4_1 1 146 = true := by decide +kernel
theorem kc146_7_4_1o {β : Nat} : KOK JB (W0 β) 146 kc146_7_4_1 := KOK_of W0_f (CT := []) (cuts := []) trivial kc146_7_4_1e (fun cu h => by cases h) rfl
def kc280_7_4_1 : KT := ([.inl (.inr (.inr (some 76))), .inl (.inl 7), .inl (.inl 4), .inl (.inl 1)], some (.inr (true, 128, 128)), [], [], [(77, 16, .inr (false, 0, 9999))], [(77, 16, .inr (false, 0, 9999))], [], 2)
theorem kc280_7_4_1e : chkE JB [] [] kc280_7_4_1 1 280 = true := by decide +kernel
theorem kc280_7_4_1o {β : Nat} : KOK JB (W0 β) 280 kc280_7_4_1 := KOK_of W0_f (CT := []) (cuts := []) trivial kc280_7_4_1e (fun cu h => by cases h) rfl
def kc146_7_5_1 : KT := ([.inl (.inr (.inr (some 0))), .inl (.inl 7), .inl (.inl 5), .inl (.inl 1)], some (.inr (true, 78125, 78125)), [], [], [(77, 16, .inr (false, 0, 9999))], [(77, 16, .inr (false, 0, 9999))], [], 2)
theorem kc146_7_5_1e : chkE JB [] [] kc146_7_5_1 1 146 = true := by decide +kernel
theorem kc146_7_5_1o {β : Nat} : KOK JB (W0 β) 146 kc146_7_5_1 := KOK_of W0_f (CT := []) (cuts := []) trivial kc146_7_5_1e (fun cu h => by cases h) rfl
def kc280_7_5_1 : KT := ([.inl (.inr (.inr (some 76))), .inl (.inl 7), .inl (.inl 5), .inl (.inl 1)], some (.inr (true, 78125, 78125)), [], [], [(77, 16, .inr (false, 0, 9999))], [(77, 16, .inr (false, 0, 9999))], [], 2)
theorem kc280_7_5_1e : chkE JB [] [] kc280_7_5_1 1 280 = true := by decide +kernel
theorem kc280_7_5_1o {β : Nat} : KOK JB (W0 β) 280 kc280_7_5_1 := KOK_of W0_f (CT := []) (cuts := []) trivial kc280_7_5_1e (fun cu h => by cases h) rfl
def kc146_7_6_1 : KT := ([.inl (.inr (.inr (some 0))), .inl (.inl 7), .inl (.inl 6), .inl (.inl 1)], some (.inr (true, 10000000, 10000000)), [], [], [(77, 16, .inr (false, 0, 9999))], [(77, 16, .inr (false, 0, 9999))], [], 2)
theorem kc146_7_6_1e : chkE JB [] [] kc146_7_6_1 1 146 = true := by decide +kernel
theorem kc146_7_6_1o {β : Nat} : KOK JB (W0 β) 146 kc146_7_6_1 := KOK_of W0_f (CT := []) (cuts := []) trivial kc146_7_6_1e (fun cu h => by cases h) rfl
def kc280_7_6_1 : KT := ([.inl (.inr (.inr (some 76))), .inl (.inl 7), .inl (.inl 6), .inl (.inl 1)], some (.inr (true, 10000000, 10000000)), [], [], [(77, 16, .inr (false, 0, 9999))], [(77, 16, .inr (false, 0, 9999))], [], 2)
theorem kc280_7_6_1e : chkE JB [] [] kc280_7_6_1 1 280 = true := by decide +kernel
theorem kc280_7_6_1o {β : Nat} : KOK JB (W0 β) 280 kc280_7_6_1 := KOK_of W0_f (CT := []) (cuts := []) trivial kc280_7_6_1e (fun cu h => by cases h) rfl
def kc146_7_7_1 : KT := ([.inl (.inr (.inr (some 0))), .inl (.inl 7), .inl (.inl 7), .inl (.inl 1)], some (.inr (true, 78125, 78125)), [], [], [(77, 16, .inr (false, 0, 9999))], [(77, 16, .inr (false, 0, 9999))], [], 2)
theorem kc146_7_7_1e : chkE JB [] [] kc146_7_7_1 1 146 = true := by decide +kernel
theorem kc146_7_7_1o {β : Nat} : KOK JB (W0 β) 146 kc146_7_7_1 := KOK_of W0_f (CT := []) (cuts := []) trivial kc146_7_7_1e (fun cu h => by cases h) rfl
def kc280_7_7_1 : KT := ([.inl (.inr (.inr (some 76))), .inl (.inl 7), .inl (.inl 7), .inl (.inl 1)], some (.inr (true, 78125, 78125)), [], [], [(77, 16, .inr (false, 0, 9999))], [(77, 16, .inr (false, 0, 9999))], [], 2)
theorem kc280_7_7_1e : chkE JB [] [] kc280_7_7_1 1 280 = true := by decide +kernel
theorem kc280_7_7_1o {β : Nat} : KOK JB (W0 β) 280 kc280_7_7_1 := KOK_of W0_f (CT := []) (cuts := []) trivial kc280_7_7_1e (fun cu h => by cases h) rfl
def kc146_7_8_1 : KT := ([.inl (.inr (.inr (some 0))), .inl (.inl 7), .inl (.inl 8), .inl (.inl 1)], some (.inr (true, 10000000, 10000000)), [], [], [(77, 16, .inr (false, 0, 9999))], [(77, 16, .inr (false, 0, 9999))], [], 2)
theorem kc146_7_8_1e : chkE JB [] [] kc146_7_8_1 1 146 = true := by decide +kernel
theorem kc146_7_8_1o {β : Nat} : KOK JB (W0 β) 146 kc146_7_8_1 := KOK_of W0_f (CT := []) (cuts := []) trivial kc146_7_8_1e (fun cu h => by cases h) rfl
def kc280_7_8_1 : KT := ([.inl (.inr (.inr (some 76))), .inl (.inl 7), .inl (.inl 8), .inl (.inl 1)], some (.inr (true, 10000000, 10000000)), [], [], [(77, 16, .inr (false, 0, 9999))], [(77, 16, .inr (false, 0, 9999))], [], 2)
theorem kc280_7_8_1e : chkE JB [] [] kc280_7_8_1 1 280 = true := by decide +kernel
theorem kc280_7_8_1o {β : Nat} : KOK JB (W0 β) 280 kc280_7_8_1 := KOK_of W0_f (CT := []) (cuts := []) trivial kc280_7_8_1e (fun cu h => by cases h) rfl
def kc146_7_9_1 : KT := ([.inl (.inr (.inr (some 0))), .inl (.inl 7), .inl (.inl 9), .inl (.inl 1)], some (.inr (true, 1, 1)), [], [], [(77, 16, .inr (false, 0, 9999))], [(77, 16, .inr (false, 0, 9999))], [], 2)
theorem kc146_7_9_1e : chkE JB [] [] kc146_7_9_1 1 146 = true := by decide +kernel
theorem kc146_7_9_1o {β : Nat} : KOK JB (W0 β) 146 kc146_7_9_1 := KOK_of W0_f (CT := []) (cuts := []) trivial kc146_7_9_1e (fun cu h => by cases h) rfl
def kc280_7_9_1 : KT := ([.inl (.inr (.inr (some 76))), .inl (.inl 7), .inl (.inl 9), .inl (.inl 1)], some (.inr (true, 1, 1)), [], [], [(77, 16, .inr (false, 0, 9999))], [(77, 16, .inr (false, 0, 9999))], [], 2)
theorem kc280_7_9_1e : chkE JB [] [] kc280_7_9_1 1 280 = true := by decide +kernel
theorem kc280_7_9_1o {β : Nat} : KOK JB (W0 β) 280 kc280_7_9_1 := KOK_of W0_f (CT := []) (cuts := []) trivial kc280_7_9_1e (fun cu h => by cases h) rfl
set_option maxHeartbeats 4000000 in
theorem kcc_7_1 {β L : Nat} {xs : Nat → Int} {h : AH} {q : Int} (h0 : 0 ≤ q) (h9 : q ≤ 9) (hL : LI β L xs h) : ∃ (z : Int) (h1 h2 : AH), LI β L xs h1 ∧ LI β L xs h2 ∧ (∀ Q : Option AV → AH → Prop, XC 1000 146 [vR 0, vI 7, vI q, vI 1] h Q = Q (some (vL z)) h1) ∧ ∀ Q : Option AV → AH → Prop, XC 1000 280 [vR 76, vI 7, vI q, vI 1] h1 Q = Q (some (vL z)) h2 := by
  by_cases d0 : q = 0
  · subst d0
    obtain ⟨r1, h1, ⟨v1, rfl, y1, rfl, e1, f1⟩, l1, E1⟩ := LI_k (kc146_7_0_1o (β := β)) (by decide +kernel) (by decide +kernel) (vs := [vR 0, vI 7, vI 0, vI 1]) ⟨_, _, rfl, rfl, _, _, rfl, rfl, _, _, rfl, rfl, _, _, rfl, rfl, rfl⟩ hL
    obtain ⟨r2, h2, ⟨v2, rfl, y2, rfl, e2, f2⟩, l2, E2⟩ := LI_k (kc280_7_0_1o (β := β)) (by decide +kernel) (by decide +kernel) (vs := [vR 76, vI 7, vI 0, vI 1]) ⟨_, _, rfl, rfl, _, _, rfl, rfl, _, _, rfl, rfl, _, _, rfl, rfl, rfl⟩ l1
    have e1 : (10000000 : Int) ≤ y1 := e1
    have f1 : y1 ≤ (10000000 : Int) := f1
    obtain rfl : y1 = 10000000 := Int.le_antisymm f1 e1
    have e2 : (10000000 : Int) ≤ y2 := e2
    have f2 : y2 ≤ (10000000 : Int) := f2
    obtain rfl : y2 = 10000000 := Int.le_antisymm f2 e2
    exact ⟨_, h1, h2, l1, l2, E1, E2⟩
  by_cases d1 : q = 1
  · subst d1
    obtain ⟨r1, h1, ⟨v1, rfl, y1, rfl, e1, f1⟩, l1, E1⟩ := LI_k (kc146_7_1_1o (β := β)) (by decide +kernel) (by decide +kernel) (vs := [vR 0, vI 7, vI 1, vI 1]) ⟨_, _, rfl, rfl, _, _, rfl, rfl, _, _, rfl, rfl, _, _, rfl, rfl, rfl⟩ hL
    obtain ⟨r2, h2, ⟨v2, rfl, y2, rfl, e2, f2⟩, l2, E2⟩ := LI_k (kc280_7_1_1o (β := β)) (by decide +kernel) (by decide +kernel) (vs := [vR 76, vI 7, vI 1, vI 1]) ⟨_, _, rfl, rfl, _, _, rfl, rfl, _, _, rfl, rfl, _, _, rfl, rfl, rfl⟩ l1
    have e1 : (78125 : Int) ≤ y1 := e1
    have f1 : y1 ≤ (78125 : Int) := f1
    obtain rfl : y1 = 78125 := Int.le_antisymm f1 e1
    have e2 : (78125 : Int) ≤ y2 := e2
    have f2 : y2 ≤ (78125 : Int) := f2
    obtain rfl : y2 = 78125 := Int.le_antisymm f2 e2
    exact ⟨_, h1, h2, l1, l2, E1, E2⟩
  by_cases d2 : q = 2
  · subst d2
    obtain ⟨r1, h1, ⟨v1, rfl, y1, rfl, e1, f1⟩, l1, E1⟩ := LI_k (kc146_7_2_1o (β := β)) (by decide +kernel) (by decide +kernel) (vs := [vR 0, vI 7, vI 2, vI 1]) ⟨_, _, rfl, rfl, _, _, rfl, rfl, _, _, rfl, rfl, _, _, rfl, rfl, rfl⟩ hL
    obtain ⟨r2, h2, ⟨v2, rfl, y2, rfl, e2, f2⟩, l2, E2⟩ := LI_k (kc280_7_2_1o (β := β)) (by decide +kernel) (by decide +kernel) (vs := [vR 76, vI 7, vI 2, vI 1]) ⟨_, _, rfl, rfl, _, _, rfl, rfl, _, _, rfl, rfl, _, _, rfl, rfl, rfl⟩ l1
    have e1 : (10000000 : Int) ≤ y1 := e1
    have f1 : y1 ≤ (10000000 : Int) := f1
    obtain rfl : y1 = 10000000 := Int.le_antisymm f1 e1
    have e2 : (10000000 : Int) ≤ y2 := e2
    have f2 : y2 ≤ (10000000 : Int) := f2
    obtain rfl : y2 = 10000000 := Int.le_antisymm f2 e2
    exact ⟨_, h1, h2, l1, l2, E1, E2⟩
  by_cases d3 : q = 3
  · subst d3
    obtain ⟨r1, h1, ⟨v1, rfl, y1, rfl, e1, f1⟩, l1, E1⟩ := LI_k (kc146_7_3_1o (β := β)) (by decide +kernel) (by decide +kernel) (vs := [vR 0, vI 7, vI 3, vI 1]) ⟨_, _, rfl, rfl, _, _, rfl, rfl, _, _, rfl, rfl, _, _, rfl, rfl, rfl⟩ hL
    obtain ⟨r2, h2, ⟨v2, rfl, y2, rfl, e2, f2⟩, l2, E2⟩ := LI_k (kc280_7_3_1o (β := β)) (by decide +kernel) (by decide +kernel) (vs := [vR 76, vI 7, vI 3, vI 1]) ⟨_, _, rfl, rfl, _, _, rfl, rfl, _, _, rfl, rfl, _, _, rfl, rfl, rfl⟩ l1
    have e1 : (78125 : Int) ≤ y1 := e1
    have f1 : y1 ≤ (78125 : Int) := f1
    obtain rfl : y1 = 78125 := Int.le_antisymm f1 e1
    have e2 : (78125 : Int) ≤ y2 := e2
    have f2 : y2 ≤ (78125 : Int) := f2
    obtain rfl : y2 = 78125 := Int.le_antisymm f2 e2
    exact ⟨_, h1, h2, l1, l2, E1, E2⟩
  by_cases d4 : q = 4
  · subst d4
    obtain ⟨r1, h1, ⟨v1, rfl, y1, rfl, e1, f1⟩, l1, E1⟩ := LI_k (kc146_7_4_1o (β := β)) (by decide +kernel) (by decide +kernel) (vs := [vR 0, vI 7, vI 4, vI 1]) ⟨_, _, rfl, rfl, _, _, rfl, rfl, _, _, rfl, rfl, _, _, rfl, rfl, rfl⟩ hL
    obtain ⟨r2, h2, ⟨v2, rfl, y2, rfl, e2, f2⟩, l2, E2⟩ := LI_k (kc280_7_4_1o (β := β)) (by decide +kernel) (by decide +kernel) (vs := [vR 76, vI 7, vI 4, vI 1]) ⟨_, _, rfl, rfl, _, _, rfl, rfl, _, _, rfl, rfl, _, _, rfl, rfl, rfl⟩ l1
    have e1 : (128 : Int) ≤ y1 := e1
    have f1 : y1 ≤ (128 : Int) := f1
    obtain rfl : y1 = 128 := Int.le_antisymm f1 e1
    have e2 : (128 : Int) ≤ y2 := e2
    have f2 : y2 ≤ (128 : Int) := f2
    obtain rfl : y2 = 128 := Int.le_antisymm f2 e2
    exact ⟨_, h1, h2, l1, l2, E1, E2⟩
  by_cases d5 : q = 5
  · subst d5
    obtain ⟨r1, h1, ⟨v1, rfl, y1, rfl, e1, f1⟩, l1, E1⟩ := LI_k (kc146_7_5_1o (β := β)) (by decide +kernel) (by decide +kernel) (vs := [vR 0, vI 7, vI 5, vI 1]) ⟨_, _, rfl, rfl, _, _, rfl, rfl, _, _, rfl, rfl, _, _, rfl, rfl, rfl⟩ hL
    obtain ⟨r2, h2, ⟨v2, rfl, y2, rfl, e2, f2⟩, l2, E2⟩ := LI_k (kc280_7_5_1o (β := β)) (by decide +kernel) (by decide +kernel) (vs := [vR 76, vI 7, vI 5, vI 1]) ⟨_, _, rfl, rfl, _, _, rfl, rfl, _, _, rfl, rfl, _, _, rfl, rfl, rfl⟩ l1
    have e1 : (78125 : Int) ≤ y1 := e1
    have f1 : y1 ≤ (78125 : Int) := f1
    obtain rfl : y1 = 78125 := Int.le_antisymm f1 e1
    have e2 : (78125 : Int) ≤ y2 := e2
    have f2 : y2 ≤ (78125 : Int) := f2
    obtain rfl : y2 = 78125 := Int.le_antisymm f2 e2
    exact ⟨_, h1, h2, l1, l2, E1, E2⟩
  by_cases d6 : q = 6
  · subst d6
    obtain ⟨r1, h1, ⟨v1, rfl, y1, rfl, e1, f1⟩, l1, E1⟩ := LI_k (kc146_7_6_1o (β := β)) (by decide +kernel) (by decide +kernel) (vs := [vR 0, vI 7, vI 6, vI 1]) ⟨_, _, rfl, rfl, _, _, rfl, rfl, _, _, rfl, rfl, _, _, rfl, rfl, rfl⟩ hL
    obtain ⟨r2, h2, ⟨v2, rfl, y2, rfl, e2, f2⟩, l2, E2⟩ := LI_k (kc280_7_6_1o (β := β)) (by decide +kernel) (by decide +kernel) (vs := [vR 76, vI 7, vI 6, vI 1]) ⟨_, _, rfl, rfl, _, _, rfl, rfl, _, _, rfl, rfl, _, _, rfl, rfl, rfl⟩ l1
    have e1 : (10000000 : Int) ≤ y1 := e1
    have f1 : y1 ≤ (10000000 : Int) := f1
    obtain rfl : y1 = 10000000 := Int.le_antisymm f1 e1
    have e2 : (10000000 : Int) ≤ y2 := e2
    have f2 : y2 ≤ (10000000 : Int) := f2
    obtain rfl : y2 = 10000000 := Int.le_antisymm f2 e2
    exact ⟨_, h1, h2, l1, l2, E1, E2⟩
  by_cases d7 : q = 7
  · subst d7
    obtain ⟨r1, h1, ⟨v1, rfl, y1, rfl, e1, f1⟩, l1, E1⟩ := LI_k (kc146_7_7_1o (β := β)) (by decide +kernel) (by decide +kernel) (vs := [vR 0, vI 7, vI 7, vI 1]) ⟨_, _, rfl, rfl, _, _, rfl, rfl, _, _, rfl, rfl, _, _, rfl, rfl, rfl⟩ hL
    obtain ⟨r2, h2, ⟨v2, rfl, y2, rfl, e2, f2⟩, l2, E2⟩ := LI_k (kc280_7_7_1o (β := β)) (by decide +kernel) (by decide +kernel) (vs := [vR 76, vI 7, vI 7, vI 1]) ⟨_, _, rfl, rfl, _, _, rfl, rfl, _, _, rfl, rfl, _, _, rfl, rfl, rfl⟩ l1
    have e1 : (78125 : Int) ≤ y1 := e1
    have f1 : y1 ≤ (78125 : Int) := f1
    obtain rfl : y1 = 78125 := Int.le_antisymm f1 e1
    have e2 : (78125 : Int) ≤ y2 := e2
    have f2 : y2 ≤ (78125 : Int) := f2
    obtain rfl : y2 = 78125 := Int.le_antisymm f2 e2
    exact ⟨_, h1, h2, l1, l2, E1, E2⟩
  by_cases d8 : q = 8
  · subst d8
    obtain ⟨r1, h1, ⟨v1, rfl, y1, rfl, e1, f1⟩, l1, E1⟩ := LI_k (kc146_7_8_1o (β := β)) (by decide +kernel) (by decide +kernel) (vs := [vR 0, vI 7, vI 8, vI 1]) ⟨_, _, rfl, rfl, _, _, rfl, rfl, _, _, rfl, rfl, _, _, rfl, rfl, rfl⟩ hL
    obtain ⟨r2, h2, ⟨v2, rfl, y2, rfl, e2, f2⟩, l2, E2⟩ := LI_k (kc280_7_8_1o (β := β)) (by decide +kernel) (by decide +kernel) (vs := [vR 76, vI 7, vI 8, vI 1]) ⟨_, _, rfl, rfl, _, _, rfl, rfl, _, _, rfl, rfl, _, _, rfl, rfl, rfl⟩ l1
    have e1 : (10000000 : Int) ≤ y1 := e1
    have f1 : y1 ≤ (10000000 : Int) := f1
    obtain rfl : y1 = 10000000 := Int.le_antisymm f1 e1
    have e2 : (10000000 : Int) ≤ y2 := e2
    have f2 : y2 ≤ (10000000 : Int) := f2
    obtain rfl : y2 = 10000000 := Int.le_antisymm f2 e2
    exact ⟨_, h1, h2, l1, l2, E1, E2⟩
  have d9 : q = 9 := by omega
  subst d9
  obtain ⟨r1, h1, ⟨v1, rfl, y1, rfl, e1, f1⟩, l1, E1⟩ := LI_k (kc146_7_9_1o (β := β)) (by decide +kernel) (by decide +kernel) (vs := [vR 0, vI 7, vI 9, vI 1]) ⟨_, _, rfl, rfl, _, _, rfl, rfl, _, _, rfl, rfl, _, _, rfl, rfl, rfl⟩ hL
  obtain ⟨r2, h2, ⟨v2, rfl, y2, rfl, e2, f2⟩, l2, E2⟩ := LI_k (kc280_7_9_1o (β := β)) (by decide +kernel) (by decide +kernel) (vs := [vR 76, vI 7, vI 9, vI 1]) ⟨_, _, rfl, rfl, _, _, rfl, rfl, _, _, rfl, rfl, _, _, rfl, rfl, rfl⟩ l1
  have e1 : (1 : Int) ≤ y1 := e1
  have f1 : y1 ≤ (1 : Int) := f1
  obtain rfl : y1 = 1 := Int.le_antisymm f1 e1
  have e2 : (1 : Int) ≤ y2 := e2
  have f2 : y2 ≤ (1 : Int) := f2
  obtain rfl : y2 = 1 := Int.le_antisymm f2 e2
  exact ⟨_, h1, h2, l1, l2, E1, E2⟩

def kc146_8_0_0 : KT := ([.inl (.inr (.inr (some 0))), .inl (.inl 8), .inl (.inl 0), .inl (.inl 0)], some (.inr (true, 1, 1)), [], [], [(77, 16, .inr (false, 0, 9999))], [(77, 16, .inr (false, 0, 9999))], [], 2)
theorem kc146_8_0_0e : chkE JB [] [] kc146_8_0_0 1 146 = true := by decide +kernel
theorem kc146_8_0_0o {β : Nat} : KOK JB (W0 β) 146 kc146_8_0_0 := KOK_of W0_f (CT := []) (cuts := []) trivial kc146_8_0_0e (fun cu h => by cases h) rfl
def kc280_8_0_0 : KT := ([.inl (.inr (.inr (some 76))), .inl (.inl 8), .inl (.inl 0), .inl (.inl 0)], some (.inr (true, 1, 1)), [], [], [(77, 16, .inr (false, 0, 9999))], [(77, 16, .inr (false, 0, 9999))], [], 2)
theorem kc280_8_0_0e : chkE JB [] [] kc280_8_0_0 1 280 = true := by decide +kernel
theorem kc280_8_0_0o {β : Nat} : KOK JB (W0 β) 280 kc280_8_0_0 := KOK_of W0_f (CT := []) (cuts := []) trivial kc280_8_0_0e (fun cu h => by cases h) rfl
def kc146_8_1_0 : KT := ([.inl (.inr (.inr (some 0))), .inl (.inl 8), .inl (.inl 1), .inl (.inl 0)], some (.inr (true, 1, 1)), [], [], [(77, 16, .inr (false, 0, 9999))], [(77, 16, .inr (false, 0, 9999))], [], 2)
theorem kc146_8_1_0e : chkE JB [] [] kc146_8_1_0 1 146 = true := by decide +kernel
theorem kc146_8_1_0o {β : Nat} : KOK JB (W0 β) 146 kc146_8_1_0 := KOK_of W0_f (CT := []) (cuts := []) trivial kc146_8_1_0e (fun cu h => by cases h) rfl
def kc280_8_1_0 : KT := ([.inl (.inr (.inr (some 76))), .inl (.inl 8), .inl (.inl 1), .inl (.inl 0)], some (.inr (true, 1, 1)), [], [], [(77, 16, .inr (false, 0, 9999))], [(77, 16, .inr (false, 0, 9999))], [], 2)
theorem kc280_8_1_0e : chkE JB [] [] kc280_8_1_0 1 280 = true := by decide +kernel
theorem kc280_8_1_0o {β : Nat} : KOK JB (W0 β) 280 kc280_8_1_0 := KOK_of W0_f (CT := []) (cuts := []) trivial kc280_8_1_0e (fun cu h => by cases h) rfl
def kc146_8_2_0 : KT := ([.inl (.inr (.inr (some 0))), .inl (.inl 8), .inl (.inl 2), .inl (.inl 0)], some (.inr (true, 6561, 6561)), [], [], [(77, 16, .inr (false, 0, 9999))], [(77, 16, .inr (false, 0, 9999))], [], 2)
theorem kc146_8_2_0e : chkE JB [] [] kc146_8_2_0 1 146 = true := by decide +kernel
theorem kc146_8_2_0o {β : Nat} : KOK JB (W0 β) 146 kc146_8_2_0 := KOK_of W0_f (CT := []) (cuts := []) trivial kc146_8_2_0e (fun cu h => by cases h) rfl
def kc280_8_2_0 : KT := ([.inl (.inr (.inr (some 76))), .inl (.inl 8), .inl (.inl 2), .inl (.inl 0)], some (.inr (true, 6561, 6561)), [], [], [(77, 16, .inr (false, 0, 9999))], [(77, 16, .inr (false, 0, 9999))], [], 2)
theorem kc280_8_2_0e : chkE JB [] [] kc280_8_2_0 1 280 = true := by decide +kernel
theorem kc280_8_2_0o {β : Nat} : KOK JB (W0 β) 280 kc280_8_2_0 := KOK_of W0_f (CT := []) (cuts := []) trivial kc280_8_2_0e (fun cu h => by cases h) rfl
def kc146_8_3_0 : KT := ([.inl (.inr (.inr (some 0))), .inl (.inl 8), .inl (.inl 3), .inl (.inl 0)], some (.inr (true, 256, 256)), [], [], [(77, 16, .inr (false, 0, 9999))], [(77, 16, .inr (false, 0, 9999))], [], 2)
theorem kc146_8_3_0e : chkE JB [] [] kc146_8_3_0 1 146 = true := by decide +kernel
theorem kc146_8_3_0o {β : Nat} : KOK JB (W0 β) 146 kc146_8_3_0 := KOK_of W0_f (CT := []) (cuts := []) trivial kc146_8_3_0e (fun cu h => by cases h) rfl
def kc280_8_3_0 : KT := ([.inl (.inr (.inr (some 76))), .inl (.inl 8), .inl (.inl 3), .inl (.inl 0)], some (.inr (true, 256, 256)), [], [], [(77, 16, .inr (false, 0, 9999))], [(77, 16, .inr (false, 0, 9999))], [], 2)
theorem kc280_8_3_0e : chkE JB [] [] kc280_8_3_0 1 280 = true := by decide +kernel
theorem kc280_8_3_0o {β : Nat} : KOK JB (W0 β) 280 kc280_8_3_0 := KOK_of W0_f (CT := []) (cuts := []) trivial kc280_8_3_0e (fun cu h => by cases h) rfl
def kc146_8_4_0 : KT := ([.inl (.inr (.inr (some 0))), .inl (.inl 8), .inl (.inl 4), .inl (.inl 0)], some (.inr (true, 1, 1)), [], [], [(77, 16, .inr (false, 0, 9999))], [(77, 16, .inr (false, 0, 9999))], [], 2)
theorem kc146_8_4_0e : chkE JB [] [] kc146_8_4_0 1 146 = true := by decide +kernel
theorem kc146_8_4_0o {β : Nat} : KOK JB (W0 β) 146 kc146_8_4_0 := KOK_of W0_f (CT := []) (cuts := []) trivial kc146_8_4_0e (fun cu h => by cases h) rfl
def kc280_8_4_0 : KT := ([.inl (.inr (.inr (some 76))), .inl (.inl 8), .inl (.inl 4), .inl (.inl 0)], some (.inr (true, 1, 1)), [], [], [(77, 16, .inr (false, 0, 9999))], [(77, 16, .inr (false, 0, 9999))], [], 2)
theorem kc280_8_4_0e : chkE JB [] [] kc280_8_4_0 1 280 = true := by decide +kernel
theorem kc280_8_4_0o {β : Nat} : KOK JB (W0 β) 280 kc280_8_4_0 := KOK_of W0_f (CT := []) (cuts := []) trivial kc280_8_4_0e (fun cu h => by cases h) rfl
def kc146_8_5_0 : KT := ([.inl (.inr (.inr (some 0))), .inl (.inl 8), .inl (.inl 5), .inl (.inl 0)], some (.inr (true, 6561, 6561)), [], [], [(77, 16, .inr (false, 0, 9999))], [(77, 16, .inr (false, 0, 9999))], [], 2)
theorem kc146_8_5_0e : chkE JB [] [] kc146_8_5_0 1 146 = true := by decide +kernel
theorem kc146_8_5_0o {β : Nat} : KOK JB (W0 β) 146 kc146_8_5_0 := KOK_of W0_f (CT := []) (cuts := []) trivial kc146_8_5_0e (fun cu h => by cases h) rfl
def kc280_8_5_0 : KT := ([.inl (.inr (.inr (some 76))), .inl (.inl 8), .inl (.inl 5), .inl (.inl 0)], some (.inr (true, 6561, 6561)), [], [], [(77, 16, .inr (false, 0, 9999))], [(77, 16, .inr (false, 0, 9999))], [], 2)
theorem kc280_8_5_0e : chkE JB [] [] kc280_8_5_0 1 280 = true := by decide +kernel
theorem kc280_8_5_0o {β : Nat} : KOK JB (W0 β) 280 kc280_8_5_0 := KOK_of W0_f (CT := []) (cuts := []) trivial kc280_8_5_0e (fun cu h => by cases h) rfl
def kc146_8_6_0 : KT := ([.inl (.inr (.inr (some 0))), .inl (.inl 8), .inl (.inl 6), .inl (.inl 0)], some (.inr (true, 5764801, 5764801)), [], [], [(77, 16, .inr (false, 0, 9999))], [(77, 16, .inr (false, 0, 9999))], [], 2)
theorem kc146_8_6_0e : chkE JB [] [] kc146_8_6_0 1 146 = true := by decide +kernel
theorem kc146_8_6_0o {β : Nat} : KOK JB (W0 β) 146 kc146_8_6_0 := KOK_of W0_f (CT := []) (cuts := []) trivial kc146_8_6_0e (fun cu h => by cases h) rfl
def kc280_8_6_0 : KT := ([.inl (.inr (.inr (some 76))), .inl (.inl 8), .inl (.inl 6), .inl (.inl 0)], some (.inr (true, 5764801, 5764801)), [], [], [(77, 16, .inr (false, 0, 9999))], [(77, 16, .inr (false, 0, 9999))], [], 2)
theorem kc280_8_6_0e : chkE JB [] [] kc280_8_6_0 1 280 = true := by decide +kernel
theorem kc280_8_6_0o {β : Nat} : KOK JB (W0 β) 280 kc280_8_6_0 := KOK_of W0_f (CT := []) (cuts := []) trivial kc280_8_6_0e (fun cu h => by cases h) rfl
def kc146_8_7_0 : KT := ([.inl (.inr (.inr (some 0))), .inl (.inl 8), .inl (.inl 7), .inl (.inl 0)], some (.inr (true, 65536, 65536)), [], [], [(77, 16, .inr (false, 0, 9999))], [(77, 16, .inr (false, 0, 9999))], [], 2)
theorem kc146_8_7_0e : chkE JB [] [] kc146_8_7_0 1 146 = true := by decide +kernel
theorem kc146_8_7_0o {β : Nat} : KOK JB (W0 β) 146 kc146_8_7_0 := KOK_of W0_f (CT := []) (cuts := []) trivial kc146_8_7_0e (fun cu h => by cases h) rfl
def kc280_8_7_0 : KT := ([.inl (.inr (.inr (some 76))), .inl (.inl 8), .inl (.inl 7), .inl (.inl 0)], some (.inr (true, 65536, 65536)), [], [], [(77, 16, .inr (false, 0, 9999))], [(77, 16, .inr (false, 0, 9999))], [], 2)
theorem kc280_8_7_0e : chkE JB [] [] kc280_8_7_0 1 280 = true := by decide +kernel
theorem kc280_8_7_0o {β : Nat} : KOK JB (W0 β) 280 kc280_8_7_0 := KOK_of W0_f (CT := []) (cuts := []) trivial kc280_8_7_0e (fun cu h => by cases h) rfl
def kc146_8_8_0 : KT := ([.inl (.inr (.inr (some 0))), .inl (.inl 8), .inl (.inl 8), .inl (.inl 0)], some (.inr (true, 43046721, 43046721)), [], [], [(77, 16, .inr (false, 0, 9999))], [(77, 16, .inr (false, 0, 9999))], [], 2)
theorem kc146_8_8_0e : chkE JB [] [] kc146_8_8_0 1 146 = true := by decide +kernel
theorem kc146_8_8_0o {β : Nat} : KOK JB (W0 β) 146 kc146_8_8_0 := KOK_of W0_f (CT := []) (cuts := []) trivial kc146_8_8_0e (fun cu h => by cases h) rfl
def kc280_8_8_0 : KT := ([.inl (.inr (.inr (some 76))), .inl (.inl 8), .inl (.inl 8), .inl (.inl 0)], some (.inr (true, 43046721, 43046721)), [], [], [(77, 16, .inr (false, 0, 9999))], [(77, 16, .inr (false, 0, 9999))], [], 2)
theorem kc280_8_8_0e : chkE JB [] [] kc280_8_8_0 1 280 = true := by decide +kernel
theorem kc280_8_8_0o {β : Nat} : KOK JB (W0 β) 280 kc280_8_8_0 := KOK_of W0_f (CT := []) (cuts := []) trivial kc280_8_8_0e (fun cu h => by cases h) rfl
def kc146_8_9_0 : KT := ([.inl (.inr (.inr (some 0))), .inl (.inl 8), .inl (.inl 9), .inl (.inl 0)], some (.inr (true, 1, 1)), [], [], [(77, 16, .inr (false, 0, 9999))], [(77, 16, .inr (false, 0, 9999))], [], 2)
theorem kc146_8_9_0e : chkE JB [] [] kc146_8_9_0 1 146 = true := by decide +kernel
theorem kc146_8_9_0o {β : Nat} : KOK JB (W0 β) 146 kc146_8_9_0 := KOK_of W0_f (CT := []) (cuts := []) trivial kc146_8_9_0e (fun cu h => by cases h) rfl
def kc280_8_9_0 : KT := ([.inl (.inr (.inr (some 76))), .inl (.inl 8), .inl (.inl 9), .inl (.inl 0)], some (.inr (true, 1, 1)), [], [], [(77, 16, .inr (false, 0, 9999))], [(77, 16, .inr (false, 0, 9999))], [], 2)
theorem kc280_8_9_0e : chkE JB [] [] kc280_8_9_0 1 280 = true := by decide +kernel
theorem kc280_8_9_0o {β : Nat} : KOK JB (W0 β) 280 kc280_8_9_0 := KOK_of W0_f (CT := []) (cuts := []) trivial kc280_8_9_0e (fun cu h => by cases h) rfl
set_option maxHeartbeats 4000000 in
theorem kcc_8_0 {β L : Nat} {xs : Nat → Int} {h : AH} {q : Int} (h0 : 0 ≤ q) (h9 : q ≤ 9) (hL : LI β L xs h) : ∃ (z : Int) (h1 h2 : AH), LI β L xs h1 ∧ LI β L xs h2 ∧ (∀ Q : Option AV → AH → Prop, XC 1000 146 [vR 0, vI 8, vI q, vI 0] h Q = Q (some (vL z)) h1) ∧ ∀ Q : Option AV → AH → Prop, XC 1000 280 [vR 76, vI 8, vI q, vI 0] h1 Q = Q (some (vL z)) h2 := by
  by_cases d0 : q = 0
  · subst d0
    obtain ⟨r1, h1, ⟨v1, rfl, y1, rfl, e1, f1⟩, l1, E1⟩ := LI_k (kc146_8_0_0o (β := β)) (by decide +kernel) (by decide +kernel) (vs := [vR 0, vI 8, vI 0, vI 0]) ⟨_, _, rfl, rfl, _, _, rfl, rfl, _, _, rfl, rfl, _, _, rfl, rfl, rfl⟩ hL
    obtain ⟨r2, h2, ⟨v2, rfl, y2, rfl, e2, f2⟩, l2, E2⟩ := LI_k (kc280_8_0_0o (β := β)) (by decide +kernel) (by decide +kernel) (vs := [vR 76, vI 8, vI 0, vI 0]) ⟨_, _, rfl, rfl, _, _, rfl, rfl, _, _, rfl, rfl, _, _, rfl, rfl, rfl⟩ l1
    have e1 : (1 : Int) ≤ y1 := e1
    have f1 : y1 ≤ (1 : Int) := f1
    obtain rfl : y1 = 1 := Int.le_antisymm f1 e1
    have e2 : (1 : Int) ≤ y2 := e2
    have f2 : y2 ≤ (1 : Int) := f2
    obtain rfl : y2 = 1 := Int.le_antisymm f2 e2
    exact ⟨_, h1, h2, l1, l2, E1, E2⟩
  by_cases d1 : q = 1
  · subst d1
    obtain ⟨r1, h1, ⟨v1, rfl, y1, rfl, e1, f1⟩, l1, E1⟩ := LI_k (kc146_8_1_0o (β := β)) (by decide +kernel) (by decide +kernel) (vs := [vR 0, vI 8, vI 1, vI 0]) ⟨_, _, rfl, rfl, _, _, rfl, rfl, _, _, rfl, rfl, _, _, rfl, rfl, rfl⟩ hL
    obtain ⟨r2, h2, ⟨v2, rfl, y2, rfl, e2, f2⟩, l2, E2⟩ := LI_k (kc280_8_1_0o (β := β)) (by decide +kernel) (by decide +kernel) (vs := [vR 76, vI 8, vI 1, vI 0]) ⟨_, _, rfl, rfl, _, _, rfl, rfl, _, _, rfl, rfl, _, _, rfl, rfl, rfl⟩ l1
    have e1 : (1 : Int) ≤ y1 := e1
    have f1 : y1 ≤ (1 : Int) := f1
    obtain rfl : y1 = 1 := Int.le_antisymm f1 e1
    have e2 : (1 : Int) ≤ y2 := e2
    have f2 : y2 ≤ (1 : Int) := f2
    obtain rfl : y2 = 1 := Int.le_antisymm f2 e2
    exact ⟨_, h1, h2, l1, l2, E1, E2⟩
  by_cases d2 : q = 2
  · subst d2
    obtain ⟨r1, h1, ⟨v1, rfl, y1, rfl, e1, f1⟩, l1, E1⟩ := LI_k (kc146_8_2_0o (β := β)) (by decide +kernel) (by decide +kernel) (vs := [vR 0, vI 8, vI 2, vI 0]) ⟨_, _, rfl, rfl, _, _, rfl, rfl, _, _, rfl, rfl, _, _, rfl, rfl, rfl⟩ hL
    obtain ⟨r2, h2, ⟨v2, rfl, y2, rfl, e2, f2⟩, l2, E2⟩ := LI_k (kc280_8_2_0o (β := β)) (by decide +kernel) (by decide +kernel) (vs := [vR 76, vI 8, vI 2, vI 0]) ⟨_, _, rfl, rfl, _, _, rfl, rfl, _, _, rfl, rfl, _, _, rfl, rfl, rfl⟩ l1
    have e1 : (6561 : Int) ≤ y1 := e1
    have f1 : y1 ≤ (6561 : Int) := f1
    obtain rfl : y1 = 6561 := Int.le_antisymm f1 e1
    have e2 : (6561 : Int) ≤ y2 := e2
    have f2 : y2 ≤ (6561 : Int) := f2
    obtain rfl : y2 = 6561 := Int.le_antisymm f2 e2
    exact ⟨_, h1, h2, l1, l2, E1, E2⟩
  by_cases d3 : q = 3
  · subst d3
    obtain ⟨r1, h1, ⟨v1, rfl, y1, rfl, e1, f1⟩, l1, E1⟩ := LI_k (kc146_8_3_0o (β := β)) (by decide +kernel) (by decide +kernel) (vs := [vR 0, vI 8, vI 3, vI 0]) ⟨_, _, rfl, rfl, _, _, rfl, rfl, _, _, rfl, rfl, _, _, rfl, rfl, rfl⟩ hL
    obtain ⟨r2, h2, ⟨v2, rfl, y2, rfl, e2, f2⟩, l2, E2⟩ := LI_k (kc280_8_3_0o (β := β)) (by decide +kernel) (by decide +kernel) (vs := [vR 76, vI 8, vI 3, vI 0]) ⟨_, _, rfl, rfl, _, _, rfl, rfl, _, _, rfl, rfl, _, _, rfl, rfl, rfl⟩ l1
    have e1 : (256 : Int) ≤ y1 := e1
    have f1 : y1 ≤ (256 : Int) := f1
    obtain rfl : y1 = 256 := Int.le_antisymm f1 e1
    have e2 : (256 : Int) ≤ y2 := e2
    have f2 : y2 ≤ (256 : Int) := f2
    obtain rfl : y2 = 256 := Int.le_antisymm f2 e2
    exact ⟨_, h1, h2, l1, l2, E1, E2⟩
  by_cases d4 : q = 4
  · subst d4
    obtain ⟨r1, h1, ⟨v1, rfl, y1, rfl, e1, f1⟩, l1, E1⟩ := LI_k (kc146_8_4_0o (β := β)) (by decide +kernel) (by decide +kernel) (vs := [vR 0, vI 8, vI 4, vI 0]) ⟨_, _, rfl, rfl, _, _, rfl, rfl, _, _, rfl, rfl, _, _, rfl, rfl, rfl⟩ hL
    obtain ⟨r2, h2, ⟨v2, rfl, y2, rfl, e2, f2⟩, l2, E2⟩ := LI_k (kc280_8_4_0o (β := β)) (by decide +kernel) (by decide +kernel) (vs := [vR 76, vI 8, vI 4, vI 0]) ⟨_, _, rfl, rfl, _, _, rfl, rfl, _, _, rfl, rfl, _, _, rfl, rfl, rfl⟩ l1
    have e1 : (1 : Int) ≤ y1 := e1
    have f1 : y1 ≤ (1 : Int) := f1
    obtain rfl : y1 = 1 := Int.le_antisymm f1 e1
    have e2 : (1 : Int) ≤ y2 := e2
    have f2 : y2 ≤ (1 : Int) := f2
    obtain rfl : y2 = 1 := Int.le_antisymm f2 e2
    exact ⟨_, h1, h2, l1, l2, E1, E2⟩
  by_cases d5 : q = 5
  · subst d5
    obtain ⟨r1, h1, ⟨v1, rfl, y1, rfl, e1, f1⟩, l1, E1⟩ := LI_k (kc146_8_5_0o (β := β)) (by decide +kernel) (by decide +kernel) (vs := [vR 0, vI 8, vI 5, vI 0]) ⟨_, _, rfl, rfl, _, _, rfl, rfl, _, _, rfl, rfl, _, _, rfl, rfl, rfl⟩ hL
    obtain ⟨r2, h2, ⟨v2, rfl, y2, rfl, e2, f2⟩, l2, E2⟩ := LI_k (kc280_8_5_0o (β := β)) (by decide +kernel) (by decide +kernel) (vs := [vR 76, vI 8, vI 5, vI 0]) ⟨_, _, rfl, rfl, _, _, rfl, rfl, _, _, rfl, rfl, _, _, rfl, rfl, rfl⟩ l1
    have e1 : (6561 : Int) ≤ y1 := e1
    have f1 : y1 ≤ (6561 : Int) := f1
    obtain rfl : y1 = 6561 := Int.le_antisymm f1 e1
    have e2 : (6561 : Int) ≤ y2 := e2
    have f2 : y2 ≤ (6561 : Int) := f2
    obtain rfl : y2 = 6561 := Int.le_antisymm f2 e2
    exact ⟨_, h1, h2, l1, l2, E1, E2⟩
  by_cases d6 : q = 6
  · subst d6
    obtain ⟨r1, h1, ⟨v1, rfl, y1, rfl, e1, f1⟩, l1, E1⟩ := LI_k (kc146_8_6_0o (β := β)) (by decide +kernel) (by decide +kernel) (vs := [vR 0, vI 8, vI 6, vI 0]) ⟨_, _, rfl, rfl, _, _, rfl, rfl, _, _, rfl, rfl, _, _, rfl, rfl, rfl⟩ hL
    obtain ⟨r2, h2, ⟨v2, rfl, y2, rfl, e2, f2⟩, l2, E2⟩ := LI_k (kc280_8_6_0o (β := β)) (by decide +kernel) (by decide +kernel) (vs := [vR 76, vI 8, vI 6, vI 0]) ⟨_, _, rfl, rfl, _, _, rfl, rfl, _, _, rfl, rfl, _, _, rfl, rfl, rfl⟩ l1
    have e1 : (5764801 : Int) ≤ y1 := e1
    have f1 : y1 ≤ (5764801 : Int) := f1
    obtain rfl : y1 = 5764801 := Int.le_antisymm f1 e1
    have e2 : (5764801 : Int) ≤ y2 := e2
    have f2 : y2 ≤ (5764801 : Int) := f2
    obtain rfl : y2 = 5764801 := Int.le_antisymm f2 e2
    exact ⟨_, h1, h2, l1, l2, E1, E2⟩
  by_cases d7 : q = 7
  · subst d7
    obtain ⟨r1, h1, ⟨v1, rfl, y1, rfl, e1, f1⟩, l1, E1⟩ := LI_k (kc146_8_7_0o (β := β)) (by decide +kernel) (by decide +kernel) (vs := [vR 0, vI 8, vI 7, vI 0]) ⟨_, _, rfl, rfl, _, _, rfl, rfl, _, _, rfl, rfl, _, _, rfl, rfl, rfl⟩ hL
    obtain ⟨r2, h2, ⟨v2, rfl, y2, rfl, e2, f2⟩, l2, E2⟩ := LI_k (kc280_8_7_0o (β := β)) (by decide +kernel) (by decide +kernel) (vs := [vR 76, vI 8, vI 7, vI 0]) ⟨_, _, rfl, rfl, _, _, rfl, rfl, _, _, rfl, rfl, _, _, rfl, rfl, rfl⟩ l1
    have e1 : (65536 : Int) ≤ y1 := e1
    have f1 : y1 ≤ (65536 : Int) := f1
    obtain rfl : y1 = 65536 := Int.le_antisymm f1 e1
    have e2 : (65536 : Int) ≤ y2 := e2
    have f2 : y2 ≤ (65536 : Int) := f2
    obtain rfl : y2 = 65536 := Int.le_antisymm f2 e2
    exact ⟨_, h1, h2, l1, l2, E1, E2⟩
  by_cases d8 : q = 8
  · subst d8
    obtain ⟨r1, h1, ⟨v1, rfl, y1, rfl, e1, f1⟩, l1, E1⟩ := LI_k (kc146_8_8_0o (β := β)) (by decide +kernel) (by decide +kernel) (vs := [vR 0, vI 8, vI 8, vI 0]) ⟨_, _, rfl, rfl, _, _, rfl, rfl, _, _, rfl, rfl, _, _, rfl, rfl, rfl⟩ hL
    obtain ⟨r2, h2, ⟨v2, rfl, y2, rfl, e2, f2⟩, l2, E2⟩ := LI_k (kc280_8_8_0o (β := β)) (by decide +kernel) (by decide +kernel) (vs := [vR 76, vI 8, vI 8, vI 0]) ⟨_, _, rfl, rfl, _, _, rfl, rfl, _, _, rfl, rfl, _, _, rfl, rfl, rfl⟩ l1
    have e1 : (43046721 : Int) ≤ y1 := e1
    have f1 : y1 ≤ (43046721 : Int) := f1
    obtain rfl : y1 = 43046721 := Int.le_antisymm f1 e1
    have e2 : (43046721 : Int) ≤ y2 := e2
    have f2 : y2 ≤ (43046721 : Int) := f2
    obtain rfl : y2 = 43046721 := Int.le_antisymm f2 e2
    exact ⟨_, h1, h2, l1, l2, E1, E2⟩
  have d9 : q = 9 := by omega
  subst d9
  obtain ⟨r1, h1, ⟨v1, rfl, y1, rfl, e1, f1⟩, l1, E1⟩ := LI_k (kc146_8_9_0o (β := β)) (by decide +kernel) (by decide +kernel) (vs := [vR 0, vI 8, vI 9, vI 0]) ⟨_, _, rfl, rfl, _, _, rfl, rfl, _, _, rfl, rfl, _, _, rfl, rfl, rfl⟩ hL
  obtain ⟨r2, h2, ⟨v2, rfl, y2, rfl, e2, f2⟩, l2, E2⟩ := LI_k (kc280_8_9_0o (β := β)) (by decide +kernel) (by decide +kernel) (vs := [vR 76, vI 8, vI 9, vI 0]) ⟨_, _, rfl, rfl, _, _, rfl, rfl, _, _, rfl, rfl, _, _, rfl, rfl, rfl⟩ l1
  have e1 : (1 : Int) ≤ y1 := e1
  have f1 : y1 ≤ (1 : Int) := f1
  obtain rfl : y1 = 1 := Int.le_antisymm f1 e1
  have e2 : (1 : Int) ≤ y2 := e2
  have f2 : y2 ≤ (1 : Int) := f2
  obtain rfl : y2 = 1 := Int.le_antisymm f2 e2
  exact ⟨_, h1, h2, l1, l2, E1, E2⟩
def kc146_8_0_1 : KT := ([.inl (.inr (.inr (some 0))), .inl (.inl 8), .inl (.inl 0), .inl (.inl 1)], some (.inr (true, 100000000, 100000000)), [], [], [(77, 16, .inr (false, 0, 9999))], [(77, 16, .inr (false, 0, 9999))], [], 2)
theorem kc146_8_0_1e : chkE JB [] [] kc146_8_0_1 1 146 = true := by decide +kernel
theorem kc146_8_0_1o {β : Nat} : KOK JB (W0 β) 146 kc146_8_0_1 := KOK_of W0_f (CT := []) (cuts := []) trivial kc146_8_0_1e (fun cu h => by cases h) rfl
def kc280_8_0_1 : KT := ([.inl (.inr (.inr (some 76))), .inl (.inl 8), .inl (.inl 0), .inl (.inl 1)], some (.inr (true, 100000000, 100000000)), [], [], [(77, 16, .inr (false, 0, 9999))], [(77, 16, .inr (false, 0, 9999))], [], 2)
theorem kc280_8_0_1e : chkE JB [] [] kc280_8_0_1 1 280 = true := by decide +kernel
theorem kc280_8_0_1o {β : Nat} : KOK JB (W0 β) 280 kc280_8_0_1 := KOK_of W0_f (CT := []) (cuts := []) trivial kc280_8_0_1e (fun cu h => by cases h) rfl
def kc146_8_1_1 : KT := ([.inl (.inr (.inr (some 0))), .inl (.inl 8), .inl (.inl 1), .inl (.inl 1)], some (.inr (true, 390625, 390625)), [], [], [(77, 16, .inr (false, 0, 9999))], [(77, 16, .inr (false, 0, 9999))], [], 2)
theorem kc146_8_1_1e : chkE JB [] [] kc146_8_1_1 1 146 = true := by decide +kernel
theorem kc146_8_1_1o {β : Nat} : KOK JB (W0 β) 146 kc146_8_1_1 := KOK_of W0_f (CT := []) (cuts := []) trivial kc146_8_1_1e (fun cu h => by cases h) rfl
def kc280_8_1_1 : KT := ([.inl (.inr (.inr (some 76))), .inl (.inl 8), .inl (.inl 1), .inl (.inl 1)], some (.inr (true, 390625, 390625)), [], [], [(77, 16, .inr (false, 0, 9999))], [(77, 16, .inr (false, 0, 9999))], [], 2)
theorem kc280_8_1_1e : chkE JB [] [] kc280_8_1_1 1 280 = true := by decide +kernel
theorem kc280_8_1_1o {β : Nat} : KOK JB (W0 β) 280 kc280_8_1_1 := KOK_of W0_f (CT := []) (cuts := []) trivial kc280_8_1_1e (fun cu h => by cases h) rfl
def kc146_8_2_1 : KT := ([.inl (.inr (.inr (some 0))), .inl (.inl 8), .inl (.inl 2), .inl (.inl 1)], some (.inr (true, 100000000, 100000000)), [], [], [(77, 16, .inr (false, 0, 9999))], [(77, 16, .inr (false, 0, 9999))], [], 2)
theorem kc146_8_2_1e : chkE JB [] [] kc146_8_2_1 1 146 = true := by decide +kernel
theorem kc146_8_2_1o {β : Nat} : KOK JB (W0 β) 146 kc146_8_2_1 := KOK_of W0_f (CT := []) (cuts := []) trivial kc146_8_2_1e (fun cu h => by cases h) rfl
def kc280_8_2_1 : KT := ([.inl (.inr (.inr (some 76))), .inl (.inl 8), .inl (.inl 2), .inl (.inl 1)], some (.inr (true, 100000000, 100000000)), [], [], [(77, 16, .inr (false, 0, 9999))], [(77, 16, .inr (false, 0, 9999))], [], 2)
theorem kc280_8_2_1e : chkE JB [] [] kc280_8_2_1 1 280 = true := by decide +kernel
theorem kc280_8_2_1o {β : Nat} : KOK JB (W0 β) 280 kc280_8_2_1 := KOK_of W0_f (CT := []) (cuts := []) trivial kc280_8_2_1e (fun cu h => by cases h) rfl
def kc146_8_3_1 : KT := ([.inl (.inr (.inr (some 0))), .inl (.inl 8), .inl (.inl 3), .inl (.inl 1)], some (.inr (true, 390625, 390625)), [], [], [(77, 16, .inr (false, 0, 9999))], [(77, 16, .inr (false, 0, 9999))], [], 2)
theorem kc146_8_3_1e : chkE JB [] [] kc146_8_3_1 1 146 = true := by decide +kernel
theorem kc146_8_3_1o {β : Nat} : KOK JB (W0 β) 146 kc146_8_3_1 := KOK_of W0_f (CT := []) (cuts := []) trivial kc146_8_3_1e (fun cu h => by cases h) rfl
def kc280_8_3_1 : KT := ([.inl (.inr (.inr (some 76))), .inl (.inl 8), .inl (.inl 3), .inl (.inl 1)], some (.inr (true, 390625, 390625)), [], [], [(77, 16, .inr (false, 0, 9999))], [(77, 16, .inr (false, 0, 9999))], [], 2)
theorem kc280_8_3_1e : chkE JB [] [] kc280_8_3_1 1 280 = true := by decide +kernel
theorem kc280_8_3_1o {β : Nat} : KOK JB (W0 β) 280 kc280_8_3_1 := KOK_of W0_f (CT := []) (cuts := []) trivial kc280_8_3_1e (fun cu h => by cases h) rfl
def kc146_8_4_1 : KT := ([.inl (.inr (.inr (some 0))), .inl (.inl 8), .inl (.inl 4), .inl (.inl 1)], some (.inr (true, 256, 256)), [], [], [(77, 16, .inr (false, 0, 9999))], [(77, 16, .inr (false, 0, 9999))], [], 2)
theorem kc146_8_4_1e : chkE JB [] [] kc146_8_4_1 1 146 = true := by decide +kernel
theorem kc146_8_4_1o {β : Nat} : KOK JB (W0 β) 146 kc146_8_4_1 := KOK_of W0_f (CT := []) (cuts := []) trivial kc146_8_4_1e (fun cu h => by cases h) rfl
def kc280_8_4_1 : KT := ([.inl (.inr (.inr (some 76))), .inl (.inl 8), .inl (.inl 4), .inl (.inl 1)], some (.inr (true, 256, 256)), [], [], [(77, 16, .inr (false, 0, 9999))], [(77, 16, .inr (false, 0, 9999))], [], 2)
theorem kc280_8_4_1e : chkE JB [] [] kc280_8_4_1 1 280 = true := by decide +kernel
theorem kc280_8_4_1o {β : Nat} : KOK JB (W0 β) 280 kc280_8_4_1 := KOK_of W0_f (CT := []) (cuts := []) trivial kc280_8_4_1e (fun cu h => by cases h) rfl
def kc146_8_5_1 : KT := ([.inl (.inr (.inr (some 0))), .inl (.inl 8), .inl (.inl 5), .inl (.inl 1)], some (.inr (true, 390625, 390625)), [], [], [(77, 16, .inr (false, 0, 9999))], [(77, 16, .inr (false, 0, 9999))], [], 2)
theorem kc146_8_5_1e : chkE JB [] [] kc146_8_5_1 1 146 = true := by decide +kernel
theorem kc146_8_5_1o {β : Nat} : KOK JB (W0 β) 146 kc146_8_5_1 := KOK_of W0_f (CT := []) (cuts := []) trivial kc146_8_5_1e (fun cu h => by cases h) rfl
def kc280_8_5_1 : KT := ([.inl (.inr (.inr (some 76))), .inl (.inl 8), .inl (.inl 5), .inl (.inl 1)], some (.inr (true, 390625, 390625)), [], [], [(77, 16, .inr (false, 0, 9999))], [(77, 16, .inr (false, 0, 9999))], [], 2)
theorem kc280_8_5_1e : chkE JB [] [] kc280_8_5_1 1 280 = true := by decide +kernel
theorem kc280_8_5_1o {β : Nat} : KOK JB (W0 β) 280 kc280_8_5_1 := KOK_of W0_f (CT := []) (cuts := []) trivial kc280_8_5_1e (fun cu h => by cases h) rfl
def kc146_8_6_1 : KT := ([.inl (.inr (.inr (some 0))), .inl (.inl 8), .inl (.inl 6), .inl (.inl 1)], some (.inr (true, 100000000, 100000000)), [], [], [(77, 16, .inr (false, 0, 9999))], [(77, 16, .inr (false, 0, 9999))], [], 2)
theorem kc146_8_6_1e : chkE JB [] [] kc146_8_6_1 1 146 = true := by decide +kernel
theorem kc146_8_6_1o {β : Nat} : KOK JB (W0 β) 146 kc146_8_6_1 := KOK_of W0_f (CT := []) (cuts := []) trivial kc146_8_6_1e (fun cu h => by cases h) rfl
def kc280_8_6_1 : KT := ([.inl (.inr (.inr (some 76))), .inl (.inl 8), .inl (.inl 6), .inl (.inl 1)], some (.inr (true, 100000000, 100000000)), [], [], [(77, 16, .inr (false, 0, 9999))], [(77, 16, .inr (false, 0, 9999))], [], 2)
theorem kc280_8_6_1e : chkE JB [] [] kc280_8_6_1 1 280 = true := by decide +kernel
theorem kc280_8_6_1o {β : Nat} : KOK JB (W0 β) 280 kc280_8_6_1 := KOK_of W0_f (CT := []) (cuts := []) trivial kc280_8_6_1e (fun cu h => by cases h) rfl
def kc146_8_7_1 : KT := ([.inl (.inr (.inr (some 0))), .inl (.inl 8), .inl (.inl 7), .inl (.inl 1)], some (.inr (true, 390625, 390625)), [], [], [(77, 16, .inr (false, 0, 9999))], [(77, 16, .inr (false, 0, 9999))], [], 2)
theorem kc146_8_7_1e : chkE JB [] [] kc146_8_7_1 1 146 = true := by decide +kernel
theorem kc146_8_7_1o {β : Nat} : KOK JB (W0 β) 146 kc146_8_7_1 := KOK_of W0_f (CT := []) (cuts := []) trivial kc146_8_7_1e (fun cu h => by cases h) rfl
def kc280_8_7_1 : KT := ([.inl (.inr (.inr (some 76))), .inl (.inl 8), .inl (.inl 7), .inl (.inl 1)], some (.inr (true, 390625, 390625)), [], [], [(77, 16, .inr (false, 0, 9999))], [(77, 16, .inr (false, 0, 9999))], [], 2)
theorem kc280_8_7_1e : chkE JB [] [] kc280_8_7_1 1 280 = true := by decide +kernel
theorem kc280_8_7_1o {β : Nat} : KOK JB (W0 β) 280 kc280_8_7_1 := KOK_of W0_f (CT := []) (cuts := []) trivial kc280_8_7_1e (fun cu h => by cases h) rfl
def kc146_8_8_1 : KT := ([.inl (.inr (.inr (some 0))), .inl (.inl 8), .inl (.inl 8), .inl (.inl 1)], some (.inr (true, 100000000, 100000000)), [], [], [(77, 16, .inr (false, 0, 9999))], [(77, 16, .inr (false, 0, 9999))], [], 2)
theorem kc146_8_8_1e : chkE JB [] [] kc146_8_8_1 1 146 = true := by decide +kernel
theorem kc146_8_8_1o {β : Nat} : KOK JB (W0 β) 146 kc146_8_8_1 := KOK_of W0_f (CT := []) (cuts := []) trivial kc146_8_8_1e (fun cu h => by cases h) rfl
def kc280_8_8_1 : KT := ([.inl (.inr (.inr (some 76))), .inl (.inl 8), .inl (.inl 8), .inl (.inl 1)], some (.inr (true, 100000000, 100000000)), [], [], [(77, 16, .inr (false, 0, 9999))], [(77, 16, .inr (false, 0, 9999))], [], 2)
theorem kc280_8_8_1e : chkE JB [] [] kc280_8_8_1 1 280 = true := by decide +kernel
theorem kc280_8_8_1o {β : Nat} : KOK JB (W0 β) 280 kc280_8_8_1 := KOK_of W0_f (CT := []) (cuts := []) trivial kc280_8_8_1e (fun cu h => by cases h) rfl
def kc146_8_9_1 : KT := ([.inl (.inr (.inr (some 0))), .inl (.inl 8), .inl (.inl 9), .inl (.inl 1)], some (.inr (true, 1, 1)), [], [], [(77, 16, .inr (false, 0, 9999))], [(77, 16, .inr (false, 0, 9999))], [], 2)
theorem kc146_8_9_1e : chkE JB [] [] kc146_8_9_1 1 146 = true := by decide +kernel
theorem kc146_8_9_1o {β : Nat} : KOK JB (W0 β) 146 kc146_8_9_1 := KOK_of W0_f (CT := []) (cuts := []) trivial kc146_8_9_1e (fun cu h => by cases h) rfl
def kc280_8_9_1 : KT := ([.inl (.inr (.inr (some 76))), .inl (.inl 8), .inl (.inl 9), .inl (.inl 1)], some (.inr (true, 1, 1)), [], [], [(77, 16, .inr (false, 0, 9999))], [(77, 16, .inr (false, 0, 9999))], [], 2)
theorem kc280_8_9_1e : chkE JB [] [] kc280_8_9_1 1 280 = true := by decide +kernel
theorem kc280_8_9_1o {β : Nat} : KOK JB (W0 β) 280 kc280_8_9_1 := KOK_of W0_f (CT := []) (cuts := []) trivial kc280_8_9_1e (fun cu h => by cases h) rfl
set_option maxHeartbeats 4000000 in
theorem kcc_8_1 {β L : Nat} {xs : Nat → Int} {h : AH} {q : Int} (h0 : 0 ≤ q) (h9 : q ≤ 9) (hL : LI β L xs h) : ∃ (z : Int) (h1 h2 : AH), LI β L xs h1 ∧ LI β L xs h2 ∧ (∀ Q : Option AV → AH → Prop, XC 1000 146 [vR 0, vI 8, vI q, vI 1] h Q = Q (some (vL z)) h1) ∧ ∀ Q : Option AV → AH → Prop, XC 1000 280 [vR 76, vI 8, vI q, vI 1] h1 Q = Q (some (vL z)) h2 := by
  by_cases d0 : q = 0
  · subst d0
    obtain ⟨r1, h1, ⟨v1, rfl, y1, rfl, e1, f1⟩, l1, E1⟩ := LI_k (kc146_8_0_1o (β := β)) (by decide +kernel) (by decide +kernel) (vs := [vR 0, vI 8, vI 0, vI 1]) ⟨_, _, rfl, rfl, _, _, rfl, rfl, _, _, rfl, rfl, _, _, rfl, rfl, rfl⟩ hL
    obtain ⟨r2, h2, ⟨v2, rfl, y2, rfl, e2, f2⟩, l2, E2⟩ := LI_k (kc280_8_0_1o (β := β)) (by decide +kernel) (by decide +kernel) (vs := [vR 76, vI 8, vI 0, vI 1]) ⟨_, _, rfl, rfl, _, _, rfl, rfl, _, _, rfl, rfl, _, _, rfl, rfl, rfl⟩ l1
    have e1 : (100000000 : Int) ≤ y1 := e1
    have f1 : y1 ≤ (100000000 : Int) := f1
    obtain rfl : y1 = 100000000 := Int.le_antisymm f1 e1
    have e2 : (100000000 : Int) ≤ y2 := e2
    have f2 : y2 ≤ (100000000 : Int) := f2
    obtain rfl : y2 = 100000000 := Int.le_antisymm f2 e2
    exact ⟨_, h1, h2, l1, l2, E1, E2⟩
  by_cases d1 : q = 1
  · subst d1
    obtain ⟨r1, h1, ⟨v1, rfl, y1, rfl, e1, f1⟩, l1, E1⟩ := LI_k (kc146_8_1_1o (β := β)) (by decide +kernel) (by decide +kernel) (vs := [vR 0, vI 8, vI 1, vI 1]) ⟨_, _, rfl, rfl, _, _, rfl, rfl, _, _, rfl, rfl, _, _, rfl, rfl, rfl⟩ hL
    obtain ⟨r2, h2, ⟨v2, rfl, y2, rfl, e2, f2⟩, l2, E2⟩ := LI_k (kc280_8_1_1o (β := β)) (by decide +kernel) (by decide +kernel) (vs := [vR 76, vI 8, vI 1, vI 1]) ⟨_, _, rfl, rfl, _, _, rfl, rfl, _, _, rfl, rfl, _, _, rfl, rfl, rfl⟩ l1
    have e1 : (390625 : Int) ≤ y1 := e1
    have f1 : y1 ≤ (390625 : Int) := f1
    obtain rfl : y1 = 390625 := Int.le_antisymm f1 e1
    have e2 : (390625 : Int) ≤ y2 := e2
    have f2 : y2 ≤ (390625 : Int) := f2
    obtain rfl : y2 = 390625 := Int.le_antisymm f2 e2
    exact ⟨_, h1, h2, l1, l2, E1, E2⟩
  by_cases d2 : q = 2
  · subst d2
    obtain ⟨r1, h1, ⟨v1, rfl, y1, rfl, e1, f1⟩, l1, E1⟩ := LI_k (kc146_8_2_1o (β := β)) (by decide +kernel) (by decide +kernel) (vs := [vR 0, vI 8, vI 2, vI 1]) ⟨_, _, rfl, rfl, _, _, rfl, rfl, _, _, rfl, rfl, _, _, rfl, rfl, rfl⟩ hL
    obtain ⟨r2, h2, ⟨v2, rfl, y2, rfl, e2, f2⟩, l2, E2⟩ := LI_k (kc280_8_2_1o (β := β)) (by decide +kernel) (by decide +kernel) (vs := [vR 76, vI 8, vI 2, vI 1]) ⟨_, _, rfl, rfl, _, _, rfl, rfl, _, _, rfl, rfl, _, _, rfl, rfl, rfl⟩ l1
    have e1 : (100000000 : Int) ≤ y1 := e1
    have f1 : y1 ≤ (100000000 : Int) := f1
    obtain rfl : y1 = 100000000 := Int.le_antisymm f1 e1
    have e2 : (100000000 : Int) ≤ y2 := e2
    have f2 : y2 ≤ (100000000 : Int) := f2
    obtain rfl : y2 = 100000000 := Int.le_antisymm f2 e2
    exact ⟨_, h1, h2, l1, l2, E1, E2⟩
  by_cases d3 : q = 3
  · subst d3
    obtain ⟨r1, h1, ⟨v1, rfl, y1, rfl, e1, f1⟩, l1, E1⟩ := LI_k (kc146_8_3_1o (β := β)) (by decide +kernel) (by decide +kernel) (vs := [vR 0, vI 8, vI 3, vI 1]) ⟨_, _, rfl, rfl, _, _, rfl, rfl, _, _, rfl, rfl, _, _, rfl, rfl, rfl⟩ hL
    obtain ⟨r2, h2, ⟨v2, rfl, y2, rfl, e2, f2⟩, l2, E2⟩ := LI_k (kc280_8_3_1o (β := β)) (by decide +kernel) (by decide +kernel) (vs := [vR 76, vI 8, vI 3, vI 1]) ⟨_, _, rfl, rfl, _, _, rfl, rfl, _, _, rfl, rfl, _, _, rfl, rfl, rfl⟩ l1
    have e1 : (390625 : Int) ≤ y1 := e1
    have f1 : y1 ≤ (390625 : Int) := f1
    obtain rfl : y1 = 390625 := Int.le_antisymm f1 e1
    have e2 : (390625 : Int) ≤ y2 := e2
    have f2 : y2 ≤ (390625 : Int) := f2
    obtain rfl : y2 = 390625 := Int.le_antisymm f2 e2
    exact ⟨_, h1, h2, l1, l2, E1, E2⟩
  by_cases d4 : q = 4
  · subst d4
    obtain ⟨r1, h1, ⟨v1, rfl, y1, rfl, e1, f1⟩, l1, E1⟩ := LI_k (kc146_8_4_1o (β := β)) (by decide +kernel) (by decide +kernel) (vs := [vR 0, vI 8, vI 4, vI 1]) ⟨_, _, rfl, rfl, _, _, rfl, rfl, _, _, rfl, rfl, _, _, rfl, rfl, rfl⟩ hL
    obtain ⟨r2, h2, ⟨v2, rfl, y2, rfl, e2, f2⟩, l2, E2⟩ := LI_k (kc280_8_4_1o (β := β)) (by decide +kernel) (by decide +kernel) (vs := [vR 76, vI 8, vI 4, vI 1]) ⟨_, _, rfl, rfl, _, _, rfl, rfl, _, _, rfl, rfl, _, _, rfl, rfl, rfl⟩ l1
    have e1 : (256 : Int) ≤ y1 := e1
    have f1 : y1 ≤ (256 : Int) := f1
    obtain rfl : y1 = 256 := Int.le_antisymm f1 e1
    have e2 : (256 : Int) ≤ y2 := e2
    have f2 : y2 ≤ (256 : Int) := f2
    obtain rfl : y2 = 256 := Int.le_antisymm f2 e2
    exact ⟨_, h1, h2, l1, l2, E1, E2⟩
  by_cases d5 : q = 5
  · subst d5
    obtain ⟨r1, h1, ⟨v1, rfl, y1, rfl, e1, f1⟩, l1, E1⟩ := LI_k (kc146_8_5_1o (β := β)) (by decide +kernel) (by decide +kernel) (vs := [vR 0, vI 8, vI 5, vI 1]) ⟨_, _, rfl, rfl, _, _, rfl, rfl, _, _, rfl, rfl, _, _, rfl, rfl, rfl⟩ hL
    obtain ⟨r2, h2, ⟨v2, rfl, y2, rfl, e2, f2⟩, l2, E2⟩ := LI_k (kc280_8_5_1o (β := β)) (by decide +kernel) (by decide +kernel) (vs := [vR 76, vI 8, vI 5, vI 1]) ⟨_, _, rfl, rfl, _, _, rfl, rfl, _, _, rfl, rfl, _, _, rfl, rfl, rfl⟩ l1
    have e1 : (390625 : Int) ≤ y1 := e1
    have f1 : y1 ≤ (390625 : Int) := f1
    obtain rfl : y1 = 390625 := Int.le_antisymm f1 e1
    have e2 : (390625 : Int) ≤ y2 := e2
    have f2 : y2 ≤ (390625 : Int) := f2
    obtain rfl : y2 = 390625 := Int.le_antisymm f2 e2
    exact ⟨_, h1, h2, l1, l2, E1, E2⟩
  by_cases d6 : q = 6
  · subst d6
    obtain ⟨r1, h1, ⟨v1, rfl, y1, rfl, e1, f1⟩, l1, E1⟩ := LI_k (kc146_8_6_1o (β := β)) (by decide +kernel) (by decide +kernel) (vs := [vR 0, vI 8, vI 6, vI 1]) ⟨_, _, rfl, rfl, _, _, rfl, rfl, _, _, rfl, rfl, _, _, rfl, rfl, rfl⟩ hL
    obtain ⟨r2, h2, ⟨v2, rfl, y2, rfl, e2, f2⟩, l2, E2⟩ := LI_k (kc280_8_6_1o (β := β)) (by decide +kernel) (by decide +kernel) (vs := [vR 76, vI 8, vI 6, vI 1]) ⟨_, _, rfl, rfl, _, _, rfl, rfl, _, _, rfl, rfl, _, _, rfl, rfl, rfl⟩ l1
    have e1 : (100000000 : Int) ≤ y1 := e1
    have f1 : y1 ≤ (100000000 : Int) := f1
    obtain rfl : y1 = 100000000 := Int.le_antisymm f1 e1
    have e2 : (100000000 : Int) ≤ y2 := e2
    have f2 : y2 ≤ (100000000 : Int) := f2
    obtain rfl : y2 = 100000000 := Int.le_antisymm f2 e2
    exact ⟨_, h1, h2, l1, l2, E1, E2⟩
  by_cases d7 : q = 7
  · subst d7
    obtain ⟨r1, h1, ⟨v1, rfl, y1, rfl, e1, f1⟩, l1, E1⟩ := LI_k (kc146_8_7_1o (β := β)) (by decide +kernel) (by decide +kernel) (vs := [vR 0, vI 8, vI 7, vI 1]) ⟨_, _, rfl, rfl, _, _, rfl, rfl, _, _, rfl, rfl, _, _, rfl, rfl, rfl⟩ hL
    obtain ⟨r2, h2, ⟨v2, rfl, y2, rfl, e2, f2⟩, l2, E2⟩ := LI_k (kc280_8_7_1o (β := β)) (by decide +kernel) (by decide +kernel) (vs := [vR 76, vI 8, vI 7, vI 1]) ⟨_, _, rfl, rfl, _, _, rfl, rfl, _, _, rfl, rfl, _, _, rfl, rfl, rfl⟩ l1
    have e1 : (390625 : Int) ≤ y1 := e1
    have f1 : y1 ≤ (390625 : Int) := f1
    obtain rfl : y1 = 390625 := Int.le_antisymm f1 e1
    have e2 : (390625 : Int) ≤ y2 := e2
    have f2 : y2 ≤ (390625 : Int) := f2
    obtain rfl : y2 = 390625 := Int.le_antisymm f2 e2
    exact ⟨_, h1, h2, l1, l2, E1, E2⟩
  by_cases d8 : q = 8
  · subst d8
    obtain ⟨r1, h1, ⟨v1, rfl, y1, rfl, e1, f1⟩, l1, E1⟩ := LI_k (kc146_8_8_1o (β := β)) (by decide +kernel) (by decide +kernel) (vs := [vR 0, vI 8, vI 8, vI 1]) ⟨_, _, rfl, rfl, _, _, rfl, rfl, _, _, rfl, rfl, _, _, rfl, rfl, rfl⟩ hL
    obtain ⟨r2, h2, ⟨v2, rfl, y2, rfl, e2, f2⟩, l2, E2⟩ := LI_k (kc280_8_8_1o (β := β)) (by decide +kernel) (by decide +kernel) (vs := [vR 76, vI 8, vI 8, vI 1]) ⟨_, _, rfl, rfl, _, _, rfl, rfl, _, _, rfl, rfl, _, _, rfl, rfl, rfl⟩ l1
    have e1 : (100000000 : Int) ≤ y1 := e1
    have f1 : y1 ≤ (100000000 : Int) := f1
    obtain rfl : y1 = 100000000 := Int.le_antisymm f1 e1
    have e2 : (100000000 : Int) ≤ y2 := e2
    have f2 : y2 ≤ (100000000 : Int) := f2
    obtain rfl : y2 = 100000000 := Int.le_antisymm f2 e2
    exact ⟨_, h1, h2, l1, l2, E1, E2⟩
  have d9 : q = 9 := by omega
  subst d9
  obtain ⟨r1, h1, ⟨v1, rfl, y1, rfl, e1, f1⟩, l1, E1⟩ := LI_k (kc146_8_9_1o (β := β)) (by decide +kernel) (by decide +kernel) (vs := [vR 0, vI 8, vI 9, vI 1]) ⟨_, _, rfl, rfl, _, _, rfl, rfl, _, _, rfl, rfl, _, _, rfl, rfl, rfl⟩ hL
  obtain ⟨r2, h2, ⟨v2, rfl, y2, rfl, e2, f2⟩, l2, E2⟩ := LI_k (kc280_8_9_1o (β := β)) (by decide +kernel) (by decide +kernel) (vs := [vR 76, vI 8, vI 9, vI 1]) ⟨_, _, rfl, rfl, _, _, rfl, rfl, _, _, rfl, rfl, _, _, rfl, rfl, rfl⟩ l1
  have e1 : (1 : Int) ≤ y1 := e1
  have f1 : y1 ≤ (1 : Int) := f1
  obtain rfl : y1 = 1 := Int.le_antisymm f1 e1
  have e2 : (1 : Int) ≤ y2 := e2
  have f2 : y2 ≤ (1 : Int) := f2
  obtain rfl : y2 = 1 := Int.le_antisymm f2 e2
  exact ⟨_, h1, h2, l1, l2, E1, E2⟩

def kc146_9_0_0 : KT := ([.inl (.inr (.inr (some 0))), .inl (.inl 9), .inl (.inl 0), .inl (.inl 0)], some (.inr (true, 1, 1)), [], [], [(77, 16, .inr (false, 0, 9999))], [(77, 16, .inr (false, 0, 9999))], [], 2)
theorem kc146_9_0_0e : chkE JB [] [] kc146_9_0_0 1 146 = true := by decide +kernel
theorem kc146_9_0_0o {β : Nat} : KOK JB (W0 β) 146 kc146_9_0_0 := KOK_of W0_f (CT := []) (cuts := []) trivial kc146_9_0_0e (fun cu h => by cases h) rfl
def kc280_9_0_0 : KT := ([.inl (.inr (.inr (some 76))), .inl (.inl 9), .inl (.inl 0), .inl (.inl 0)], some (.inr (true, 1, 1)), [], [], [(77, 16, .inr (false, 0, 9999))], [(77, 16, .inr (false, 0, 9999))], [], 2)
theorem kc280_9_0_0e : chkE JB [] [] kc280_9_0_0 1 280 = true := by decide +kernel
theorem kc280_9_0_0o {β : Nat} : KOK JB (W0 β) 280 kc280_9_0_0 := KOK_of W0_f (CT := []) (cuts := []) trivial kc280_9_0_0e (fun cu h => by cases h) rfl
def kc146_9_1_0 : KT := ([.inl (.inr (.inr (some 0))), .inl (.inl 9), .inl (.inl 1), .inl (.inl 0)], some (.inr (true, 1, 1)), [], [], [(77, 16, .inr (false, 0, 9999))], [(77, 16, .inr (false, 0, 9999))], [], 2)
theorem kc146_9_1_0e : chkE JB [] [] kc146_9_1_0 1 146 = true := by decide +kernel
theorem kc146_9_1_0o {β : Nat} : KOK JB (W0 β) 146 kc146_9_1_0 := KOK_of W0_f (CT := []) (cuts := []) trivial kc146_9_1_0e (fun cu h => by cases h) rfl
def kc280_9_1_0 : KT := ([.inl (.inr (.inr (some 76))), .inl (.inl 9), .inl (.inl 1), .inl (.inl 0)], some (.inr (true, 1, 1)), [], [], [(77, 16, .inr (false, 0, 9999))], [(77, 16, .inr (false, 0, 9999))], [], 2)
theorem kc280_9_1_0e : chkE JB [] [] kc280_9_1_0 1 280 = true := by decide +kernel
theorem kc280_9_1_0o {β : Nat} : KOK JB (W0 β) 280 kc280_9_1_0 := KOK_of W0_f (CT := []) (cuts := []) trivial kc280_9_1_0e (fun cu h => by cases h) rfl
def kc146_9_2_0 : KT := ([.inl (.inr (.inr (some 0))), .inl (.inl 9), .inl (.inl 2), .inl (.inl 0)], some (.inr (true, 19683, 19683)), [], [], [(77, 16, .inr (false, 0, 9999))], [(77, 16, .inr (false, 0, 9999))], [], 2)
theorem kc146_9_2_0e : chkE JB [] [] kc146_9_2_0 1 146 = true := by decide +kernel
theorem kc146_9_2_0o {β : Nat} : KOK JB (W0 β) 146 kc146_9_2_0 := KOK_of W0_f (CT := []) (cuts := []) trivial kc146_9_2_0e (fun cu h => by cases h) rfl
def kc280_9_2_0 : KT := ([.inl (.inr (.inr (some 76))), .inl (.inl 9), .inl (.inl 2), .inl (.inl 0)], some (.inr (true, 19683, 19683)), [], [], [(77, 16, .inr (false, 0, 9999))], [(77, 16, .inr (false, 0, 9999))], [], 2)
theorem kc280_9_2_0e : chkE JB [] [] kc280_9_2_0 1 280 = true := by decide +kernel
theorem kc280_9_2_0o {β : Nat} : KOK JB (W0 β) 280 kc280_9_2_0 := KOK_of W0_f (CT := []) (cuts := []) trivial kc280_9_2_0e (fun cu h => by cases h) rfl
def kc146_9_3_0 : KT := ([.inl (.inr (.inr (some 0))), .inl (.inl 9), .inl (.inl 3), .inl (.inl 0)], some (.inr (true, 512, 512)), [], [], [(77, 16, .inr (false, 0, 9999))], [(77, 16, .inr (false, 0, 9999))], [], 2)
theorem kc146_9_3_0e : chkE JB [] [] kc146_9_3_0 1 146 = true := by decide +kernel
theorem kc146_9_3_0o {β : Nat} : KOK JB (W0 β) 146 kc146_9_3_0 := KOK_of W0_f (CT := []) (cuts := []) trivial kc146_9_3_0e (fun cu h => by cases h) rfl
def kc280_9_3_0 : KT := ([.inl (.inr (.inr (some 76))), .inl (.inl 9), .inl (.inl 3), .inl (.inl 0)], some (.inr (true, 512, 512)), [], [], [(77, 16, .inr (false, 0, 9999))], [(77, 16, .inr (false, 0, 9999))], [], 2)
theorem kc280_9_3_0e : chkE JB [] [] kc280_9_3_0 1 280 = true := by decide +kernel
theorem kc280_9_3_0o {β : Nat} : KOK JB (W0 β) 280 kc280_9_3_0 := KOK_of W0_f (CT := []) (cuts := []) trivial kc280_9_3_0e (fun cu h => by cases h) rfl
def kc146_9_4_0 : KT := ([.inl (.inr (.inr (some 0))), .inl (.inl 9), .inl (.inl 4), .inl (.inl 0)], some (.inr (true, 1, 1)), [], [], [(77, 16, .inr (false, 0, 9999))], [(77, 16, .inr (false, 0, 9999))], [], 2)
theorem kc146_9_4_0e : chkE JB [] [] kc146_9_4_0 1 146 = true := by decide +kernel
theorem kc146_9_4_0o {β : Nat} : KOK JB (W0 β) 146 kc146_9_4_0 := KOK_of W0_f (CT := []) (cuts := []) trivial kc146_9_4_0e (fun cu h => by cases h) rfl
def kc280_9_4_0 : KT := ([.inl (.inr (.inr (some 76))), .inl (.inl 9), .inl (.inl 4), .inl (.inl 0)], some (.inr (true, 1, 1)), [], [], [(77, 16, .inr (false, 0, 9999))], [(77, 16, .inr (false, 0, 9999))], [], 2)
theorem kc280_9_4_0e : chkE JB [] [] kc280_9_4_0 1 280 = true := by decide +kernel
theorem kc280_9_4_0o {β : Nat} : KOK JB (W0 β) 280 kc280_9_4_0 := KOK_of W0_f (CT := []) (cuts := []) trivial kc280_9_4_0e (fun cu h => by cases h) rfl
def kc146_9_5_0 : KT := ([.inl (.inr (.inr (some 0))), .inl (.inl 9), .inl (.inl 5), .inl (.inl 0)], some (.inr (true, 19683, 19683)), [], [], [(77, 16, .inr (false, 0, 9999))], [(77, 16, .inr (false, 0, 9999))], [], 2)
theorem kc146_9_5_0e : chkE JB [] [] kc146_9_5_0 1 146 = true := by decide +kernel
theorem kc146_9_5_0o {β : Nat} : KOK JB (W0 β) 146 kc146_9_5_0 := KOK_of W0_f (CT := []) (cuts := []) trivial kc146_9_5_0e (fun cu h => by cases h) rfl
def kc280_9_5_0 : KT := ([.inl (.inr (.inr (some 76))), .inl (.inl 9), .inl (.inl 5), .inl (.inl 0)], some (.inr (true, 19683, 19683)), [], [], [(77, 16, .inr (false, 0, 9999))], [(77, 16, .inr (false, 0, 9999))], [], 2)
theorem kc280_9_5_0e : chkE JB [] [] kc280_9_5_0 1 280 = true := by decide +kernel
theorem kc280_9_5_0o {β : Nat} : KOK JB (W0 β) 280 kc280_9_5_0 := KOK_of W0_f (CT := []) (cuts := []) trivial kc280_9_5_0e (fun cu h => by cases h) rfl
def kc146_9_6_0 : KT := ([.inl (.inr (.inr (some 0))), .inl (.inl 9), .inl (.inl 6), .inl (.inl 0)], some (.inr (true, 40353607, 40353607)), [], [], [(77, 16, .inr (false, 0, 9999))], [(77, 16, .inr (false, 0, 9999))], [], 2)
theorem kc146_9_6_0e : chkE JB [] [] kc146_9_6_0 1 146 = true := by decide +kernel
theorem kc146_9_6_0o {β : Nat} : KOK JB (W0 β) 146 kc146_9_6_0 := KOK_of W0_f (CT := []) (cuts := []) trivial kc146_9_6_0e (fun cu h => by cases h) rfl
def kc280_9_6_0 : KT := ([.inl (.inr (.inr (some 76))), .inl (.inl 9), .inl (.inl 6), .inl (.inl 0)], some (.inr (true, 40353607, 40353607)), [], [], [(77, 16, .inr (false, 0, 9999))], [(77, 16, .inr (false, 0, 9999))], [], 2)
theorem kc280_9_6_0e : chkE JB [] [] kc280_9_6_0 1 280 = true := by decide +kernel
theorem kc280_9_6_0o {β : Nat} : KOK JB (W0 β) 280 kc280_9_6_0 := KOK_of W0_f (CT := []) (cuts := []) trivial kc280_9_6_0e (fun cu h => by cases h) rfl
def kc146_9_7_0 : KT := ([.inl (.inr (.inr (some 0))), .inl (.inl 9), .inl (.inl 7), .inl (.inl 0)], some (.inr (true, 262144, 262144)), [], [], [(77, 16, .inr (false, 0, 9999))], [(77, 16, .inr (false, 0, 9999))], [], 2)
theorem kc146_9_7_0e : chkE JB [] [] kc146_9_7_0 1 146 = true := by decide +kernel
theorem kc146_9_7_0o {β : Nat} : KOK JB (W0 β) 146 kc146_9_7_0 := KOK_of W0_f (CT := []) (cuts := []) trivial kc146_9_7_0e (fun cu h => by cases h) rfl
def kc280_9_7_0 : KT := ([.inl (.inr (.inr (some 76))), .inl (.inl 9), .inl (.inl 7), .inl (.inl 0)], some (.inr (true, 262144, 262144)), [], [], [(77, 16, .inr (false, 0, 9999))], [(77, 16, .inr (false, 0, 9999))], [], 2)
theorem kc280_9_7_0e : chkE JB [] [] kc280_9_7_0 1 280 = true := by decide +kernel
theorem kc280_9_7_0o {β : Nat} : KOK JB (W0 β) 280 kc280_9_7_0 := KOK_of W0_f (CT := []) (cuts := []) trivial kc280_9_7_0e (fun cu h => by cases h) rfl
def kc146_9_8_0 : KT := ([.inl (.inr (.inr (some 0))), .inl (.inl 9), .inl (.inl 8), .inl (.inl 0)], some (.inr (true, 387420489, 387420489)), [], [], [(77, 16, .inr (false, 0, 9999))], [(77, 16, .inr (false, 0, 9999))], [], 2)
theorem kc146_9_8_0e : chkE JB [] [] kc146_9_8_0 1 146 = true := by decide +kernel
theorem kc146_9_8_0o {β : Nat} : KOK JB (W0 β) 146 kc146_9_8_0 := KOK_of W0_f (CT := []) (cuts := []) trivial kc146_9_8_0e (fun cu h => by cases h) rfl
def kc280_9_8_0 : KT := ([.inl (.inr (.inr (some 76))), .inl (.inl 9), .inl (.inl 8), .inl (.inl 0)], some (.inr (true, 387420489, 387420489)), [], [], [(77, 16, .inr (false, 0, 9999))], [(77, 16, .inr (false, 0, 9999))], [], 2)
theorem kc280_9_8_0e : chkE JB [] [] kc280_9_8_0 1 280 = true := by decide +kernel
theorem kc280_9_8_0o {β : Nat} : KOK JB (W0 β) 280 kc280_9_8_0 := KOK_of W0_f (CT := []) (cuts := []) trivial kc280_9_8_0e (fun cu h => by cases h) rfl
def kc146_9_9_0 : KT := ([.inl (.inr (.inr (some 0))), .inl (.inl 9), .inl (.inl 9), .inl (.inl 0)], some (.inr (true, 1, 1)), [], [], [(77, 16, .inr (false, 0, 9999))], [(77, 16, .inr (false, 0, 9999))], [], 2)
theorem kc146_9_9_0e : chkE JB [] [] kc146_9_9_0 1 146 = true := by decide +kernel
theorem kc146_9_9_0o {β : Nat} : KOK JB (W0 β) 146 kc146_9_9_0 := KOK_of W0_f (CT := []) (cuts := []) trivial kc146_9_9_0e (fun cu h => by cases h) rfl
def kc280_9_9_0 : KT := ([.inl (.inr (.inr (some 76))), .inl (.inl 9), .inl (.inl 9), .inl (.inl 0)], some (.inr (true, 1, 1)), [], [], [(77, 16, .inr (false, 0, 9999))], [(77, 16, .inr (false, 0, 9999))], [], 2)
theorem kc280_9_9_0e : chkE JB [] [] kc280_9_9_0 1 280 = true := by decide +kernel
theorem kc280_9_9_0o {β : Nat} : KOK JB (W0 β) 280 kc280_9_9_0 := KOK_of W0_f (CT := []) (cuts := []) trivial kc280_9_9_0e (fun cu h => by cases h) rfl
set_option maxHeartbeats 4000000 in
theorem kcc_9_0 {β L : Nat} {xs : Nat → Int} {h : AH} {q : Int} (h0 : 0 ≤ q) (h9 : q ≤ 9) (hL : LI β L xs h) : ∃ (z : Int) (h1 h2 : AH), LI β L xs h1 ∧ LI β L xs h2 ∧ (∀ Q : Option AV → AH → Prop, XC 1000 146 [vR 0, vI 9, vI q, vI 0] h Q = Q (some (vL z)) h1) ∧ ∀ Q : Option AV → AH → Prop, XC 1000 280 [vR 76, vI 9, vI q, vI 0] h1 Q = Q (some (vL z)) h2 := by
  by_cases d0 : q = 0
  · subst d0
    obtain ⟨r1, h1, ⟨v1, rfl, y1, rfl, e1, f1⟩, l1, E1⟩ := LI_k (kc146_9_0_0o (β := β)) (by decide +kernel) (by decide +kernel) (vs := [vR 0, vI 9, vI 0, vI 0]) ⟨_, _, rfl, rfl, _, _, rfl, rfl, _, _, rfl, rfl, _, _, rfl, rfl, rfl⟩ hL
    obtain ⟨r2, h2, ⟨v2, rfl, y2, rfl, e2, f2⟩, l2, E2⟩ := LI_k (kc280_9_0_0o (β := β)) (by decide +kernel) (by decide +kernel) (vs := [vR 76, vI 9, vI 0, vI 0]) ⟨_, _, rfl, rfl, _, _, rfl, rfl, _, _, rfl, rfl, _, _, rfl, rfl, rfl⟩ l1
    have e1 : (1 : Int) ≤ y1 := e1
    have f1 : y1 ≤ (1 : Int) := f1
    obtain rfl : y1 = 1 := Int.le_antisymm f1 e1
    have e2 : (1 : Int) ≤ y2 := e2
    have f2 : y2 ≤ (1 : Int) := f2
    obtain rfl : y2 = 1 := Int.le_antisymm f2 e2
    exact ⟨_, h1, h2, l1, l2, E1, E2⟩
  by_cases d1 : q = 1
  · subst d1
    obtain ⟨r1, h1, ⟨v1, rfl, y1, rfl, e1, f1⟩, l1, E1⟩ := LI_k (kc146_9_1_0o (β := β)) (by decide +kernel) (by decide +kernel) (vs := [vR 0, vI 9, vI 1, vI 0]) ⟨_, _, rfl, rfl, _, _, rfl, rfl, _, _, rfl, rfl, _, _, rfl, rfl, rfl⟩ hL
    obtain ⟨r2, h2, ⟨v2, rfl, y2, rfl, e2, f2⟩, l2, E2⟩ := LI_k (kc280_9_1_0o (β := β)) (by decide +kernel) (by decide +kernel) (vs := [vR 76, vI 9, vI 1, vI 0]) ⟨_, _, rfl, rfl, _, _, rfl, rfl, _, _, rfl, rfl, _, _, rfl, rfl, rfl⟩ l1
    have e1 : (1 : Int) ≤ y1 := e1
    have f1 : y1 ≤ (1 : Int) := f1
    obtain rfl : y1 = 1 := Int.le_antisymm f1 e1
    have e2 : (1 : Int) ≤ y2 := e2
    have f2 : y2 ≤ (1 : Int) := f2
    obtain rfl : y2 = 1 := Int.le_antisymm f2 e2
    exact ⟨_, h1, h2, l1, l2, E1, E2⟩
  by_cases d2 : q = 2
  · subst d2
    obtain ⟨r1, h1, ⟨v1, rfl, y1, rfl, e1, f1⟩, l1, E1⟩ := LI_k (kc146_9_2_0o (β := β)) (by decide +kernel) (by decide +kernel) (vs := [vR 0, vI 9, vI 2, vI 0]) ⟨_, _, rfl, rfl, _, _, rfl, rfl, _, _, rfl, rfl, _, _, rfl, rfl, rfl⟩ hL
    obtain ⟨r2, h2, ⟨v2, rfl, y2, rfl, e2, f2⟩, l2, E2⟩ := LI_k (kc280_9_2_0o (β := β)) (by decide +kernel) (by decide +kernel) (vs := [vR 76, vI 9, vI 2, vI 0]) ⟨_, _, rfl, rfl, _, _, rfl, rfl, _, _, rfl, rfl, _, _, rfl, rfl, rfl⟩ l1
    have e1 : (19683 : Int) ≤ y1 := e1
    have f1 : y1 ≤ (19683 : Int) := f1
    obtain rfl : y1 = 19683 := Int.le_antisymm f1 e1
    have e2 : (19683 : Int) ≤ y2 := e2
    have f2 : y2 ≤ (19683 : Int) := f2
    obtain rfl : y2 = 19683 := Int.le_antisymm f2 e2
    exact ⟨_, h1, h2, l1, l2, E1, E2⟩
  by_cases d3 : q = 3
  · subst d3
    obtain ⟨r1, h1, ⟨v1, rfl, y1, rfl, e1, f1⟩, l1, E1⟩ := LI_k (kc146_9_3_0o (β := β)) (by decide +kernel) (by decide +kernel) (vs := [vR 0, vI 9, vI 3, vI 0]) ⟨_, _, rfl, rfl, _, _, rfl, rfl, _, _, rfl, rfl, _, _, rfl, rfl, rfl⟩ hL
    obtain ⟨r2, h2, ⟨v2, rfl, y2, rfl, e2, f2⟩, l2, E2⟩ := LI_k (kc280_9_3_0o (β := β)) (by decide +kernel) (by decide +kernel) (vs := [vR 76, vI 9, vI 3, vI 0]) ⟨_, _, rfl, rfl, _, _, rfl, rfl, _, _, rfl, rfl, _, _, rfl, rfl, rfl⟩ l1
    have e1 : (512 : Int) ≤ y1 := e1
    have f1 : y1 ≤ (512 : Int) := f1
    obtain rfl : y1 = 512 := Int.le_antisymm f1 e1
    have e2 : (512 : Int) ≤ y2 := e2
    have f2 : y2 ≤ (512 : Int) := f2
    obtain rfl : y2 = 512 := Int.le_antisymm f2 e2
    exact ⟨_, h1, h2, l1, l2, E1, E2⟩
  by_cases d4 : q = 4
  · subst d4
    obtain ⟨r1, h1, ⟨v1, rfl, y1, rfl, e1, f1⟩, l1, E1⟩ := LI_k (kc146_9_4_0o (β := β)) (by decide +kernel) (by decide +kernel) (vs := [vR 0, vI 9, vI 4, vI 0]) ⟨_, _, rfl, rfl, _, _, rfl, rfl, _, _, rfl, rfl, _, _, rfl, rfl, rfl⟩ hL
    obtain ⟨r2, h2, ⟨v2, rfl, y2, rfl, e2, f2⟩, l2, E2⟩ := LI_k (kc280_9_4_0o (β := β)) (by decide +kernel) (by decide +kernel) (vs := [vR 76, vI 9, vI 4, vI 0]) ⟨_, _, rfl, rfl, _, _, rfl, rfl, _, _, rfl, rfl, _, _, rfl, rfl, rfl⟩ l1
    have e1 : (1 : Int) ≤ y1 := e1
    have f1 : y1 ≤ (1 : Int) := f1
    obtain rfl : y1 = 1 := Int.le_antisymm f1 e1
    have e2 : (1 : Int) ≤ y2 := e2
    have f2 : y2 ≤ (1 : Int) := f2
    obtain rfl : y2 = 1 := Int.le_antisymm f2 e2
    exact ⟨_, h1, h2, l1, l2, E1, E2⟩
  by_cases d5 : q = 5
  · subst d5
    obtain ⟨r1, h1, ⟨v1, rfl, y1, rfl, e1, f1⟩, l1, E1⟩ := LI_k (kc146_9_5_0o (β := β)) (by decide +kernel) (by decide +kernel) (vs := [vR 0, vI 9, vI 5, vI 0]) ⟨_, _, rfl, rfl, _, _, rfl, rfl, _, _, rfl, rfl, _, _, rfl, rfl, rfl⟩ hL
    obtain ⟨r2, h2, ⟨v2, rfl, y2, rfl, e2, f2⟩, l2, E2⟩ := LI_k (kc280_9_5_0o (β := β)) (by decide +kernel) (by decide +kernel) (vs := [vR 76, vI 9, vI 5, vI 0]) ⟨_, _, rfl, rfl, _, _, rfl, rfl, _, _, rfl, rfl, _, _, rfl, rfl, rfl⟩ l1
    have e1 : (19683 : Int) ≤ y1 := e1
    have f1 : y1 ≤ (19683 : Int) := f1
    obtain rfl : y1 = 19683 := Int.le_antisymm f1 e1
    have e2 : (19683 : Int) ≤ y2 := e2
    have f2 : y2 ≤ (19683 : Int) := f2
    obtain rfl : y2 = 19683 := Int.le_antisymm f2 e2
    exact ⟨_, h1, h2, l1, l2, E1, E2⟩
  by_cases d6 : q = 6
  · subst d6
    obtain ⟨r1, h1, ⟨v1, rfl, y1, rfl, e1, f1⟩, l1, E1⟩ := LI_k (kc146_9_6_0o (β := β)) (by decide +kernel) (by decide +kernel) (vs := [vR 0, vI 9, vI 6, vI 0]) ⟨_, _, rfl, rfl, _, _, rfl, rfl, _, _, rfl, rfl, _, _, rfl, rfl, rfl⟩ hL
    obtain ⟨r2, h2, ⟨v2, rfl, y2, rfl, e2, f2⟩, l2, E2⟩ := LI_k (kc280_9_6_0o (β := β)) (by decide +kernel) (by decide +kernel) (vs := [vR 76, vI 9, vI 6, vI 0]) ⟨_, _, rfl, rfl, _, _, rfl, rfl, _, _, rfl, rfl, _, _, rfl, rfl, rfl⟩ l1
    have e1 : (40353607 : Int) ≤ y1 := e1
    have f1 : y1 ≤ (40353607 : Int) := f1
    obtain rfl : y1 = 40353607 := Int.le_antisymm f1 e1
    have e2 : (40353607 : Int) ≤ y2 := e2
    have f2 : y2 ≤ (40353607 : Int) := f2
    obtain rfl : y2 = 40353607 := Int.le_antisymm f2 e2
    exact ⟨_, h1, h2, l1, l2, E1, E2⟩
  by_cases d7 : q = 7
  · subst d7
    obtain ⟨r1, h1, ⟨v1, rfl, y1, rfl, e1, f1⟩, l1, E1⟩ := LI_k (kc146_9_7_0o (β := β)) (by decide +kernel) (by decide +kernel) (vs := [vR 0, vI 9, vI 7, vI 0]) ⟨_, _, rfl, rfl, _, _, rfl, rfl, _, _, rfl, rfl, _, _, rfl, rfl, rfl⟩ hL
    obtain ⟨r2, h2, ⟨v2, rfl, y2, rfl, e2, f2⟩, l2, E2⟩ := LI_k (kc280_9_7_0o (β := β)) (by decide +kernel) (by decide +kernel) (vs := [vR 76, vI 9, vI 7, vI 0]) ⟨_, _, rfl, rfl, _, _, rfl, rfl, _, _, rfl, rfl, _, _, rfl, rfl, rfl⟩ l1
    have e1 : (262144 : Int) ≤ y1 := e1
    have f1 : y1 ≤ (262144 : Int) := f1
    obtain rfl : y1 = 262144 := Int.le_antisymm f1 e1
    have e2 : (262144 : Int) ≤ y2 := e2
    have f2 : y2 ≤ (262144 : Int) := f2
    obtain rfl : y2 = 262144 := Int.le_antisymm f2 e2
    exact ⟨_, h1, h2, l1, l2, E1, E2⟩
  by_cases d8 : q = 8
  · subst d8
    obtain ⟨r1, h1, ⟨v1, rfl, y1, rfl, e1, f1⟩, l1, E1⟩ := LI_k (kc146_9_8_0o (β := β)) (by decide +kernel) (by decide +kernel) (vs := [vR 0, vI 9, vI 8, vI 0]) ⟨_, _, rfl, rfl, _, _, rfl, rfl, _, _, rfl, rfl, _, _, rfl, rfl, rfl⟩ hL
    obtain ⟨r2, h2, ⟨v2, rfl, y2, rfl, e2, f2⟩, l2, E2⟩ := LI_k (kc280_9_8_0o (β := β)) (by decide +kernel) (by decide +kernel) (vs := [vR 76, vI 9, vI 8, vI 0]) ⟨_, _, rfl, rfl, _, _, rfl, rfl, _, _, rfl, rfl, _, _, rfl, rfl, rfl⟩ l1
    have e1 : (387420489 : Int) ≤ y1 := e1
    have f1 : y1 ≤ (387420489 : Int) := f1
    obtain rfl : y1 = 387420489 := Int.le_antisymm f1 e1
    have e2 : (387420489 : Int) ≤ y2 := e2
    have f2 : y2 ≤ (387420489 : Int) := f2
    obtain rfl : y2 = 387420489 := Int.le_antisymm f2 e2
    exact ⟨_, h1, h2, l1, l2, E1, E2⟩
  have d9 : q = 9 := by omega
  subst d9
  obtain ⟨r1, h1, ⟨v1, rfl, y1, rfl, e1, f1⟩, l1, E1⟩ := LI_k (kc146_9_9_0o (β := β)) (by decide +kernel) (by decide +kernel) (vs := [vR 0, vI 9, vI 9, vI 0]) ⟨_, _, rfl, rfl, _, _, rfl, rfl, _, _, rfl, rfl, _, _, rfl, rfl, rfl⟩ hL
  obtain ⟨r2, h2, ⟨v2, rfl, y2, rfl, e2, f2⟩, l2, E2⟩ := LI_k (kc280_9_9_0o (β := β)) (by decide +kernel) (by decide +kernel) (vs := [vR 76, vI 9, vI 9, vI 0]) ⟨_, _, rfl, rfl, _, _, rfl, rfl, _, _, rfl, rfl, _, _, rfl, rfl, rfl⟩ l1
  have e1 : (1 : Int) ≤ y1 := e1
  have f1 : y1 ≤ (1 : Int) := f1
  obtain rfl : y1 = 1 := Int.le_antisymm f1 e1
  have e2 : (1 : Int) ≤ y2 := e2
  have f2 : y2 ≤ (1 : Int) := f2
  obtain rfl : y2 = 1 := Int.le_antisymm f2 e2
  exact ⟨_, h1, h2, l1, l2, E1, E2⟩
def kc146_9_0_1 : KT := ([.inl (.inr (.inr (some 0))), .inl (.inl 9), .inl (.inl 0), .inl (.inl 1)], some (.inr (true, 1000000000, 1000000000)), [], [], [(77, 16, .inr (false, 0, 9999))], [(77, 16, .inr (false, 0, 9999))], [], 2)
theorem kc146_9_0_1e : chkE JB [] [] kc146_9_0_1 1 146 = true := by decide +kernel
theorem kc146_9_0_1o {β : Nat} : KOK JB (W0 β) 146 kc146_9_0_1 := KOK_of W0_f (CT := []) (cuts := []) trivial kc146_9_0_1e (fun cu h => by cases h) rfl
def kc280_9_0_1 : KT := ([.inl (.inr (.inr (some 76))), .inl (.inl 9), .inl (.inl 0), .inl (.inl 1)], some (.inr (true, 1000000000, 1000000000)), [], [], [(77, 16, .inr (false, 0, 9999))], [(77, 16, .inr (false, 0, 9999))], [], 2)
theorem kc280_9_0_1e : chkE JB [] [] kc280_9_0_1 1 280 = true := by decide +kernel
theorem kc280_9_0_1o {β : Nat} : KOK JB (W0 β) 280 kc280_9_0_1 := KOK_of W0_f (CT := []) (cuts := []) trivial kc280_9_0_1e (fun cu h => by cases h) rfl
def kc146_9_1_1 : KT := ([.inl (.inr (.inr (some 0))), .inl (.inl 9), .inl (.inl 1), .inl (.inl 1)], some (.inr (true, 1953125, 1953125)), [], [], [(77, 16, .inr (false, 0, 9999))], [(77, 16, .inr (false, 0, 9999))], [], 2)
theorem kc146_9_1_1e : chkE JB [] [] kc146_9_1_1 1 146 = true := by decide +kernel
theorem kc146_9_1_1o {β : Nat} : KOK JB (W0 β) 146 kc146_9_1_1 := KOK_of W0_f (CT := []) (cuts := []) trivial kc146_9_1_1e (fun cu h => by cases h) rfl
def kc280_9_1_1 : KT := ([.inl (.inr (.inr (some 76))), .inl (.inl 9), .inl (.inl 1), .inl (.inl 1)], some (.inr (true, 1953125, 1953125)), [], [], [(77, 16, .inr (false, 0, 9999))], [(77, 16, .inr (false, 0, 9999))], [], 2)
theorem kc280_9_1_1e : chkE JB [] [] kc280_9_1_1 1 280 = true := by decide +kernel
theorem kc280_9_1_1o {β : Nat} : KOK JB (W0 β) 280 kc280_9_1_1 := KOK_of W0_f (CT := []) (cuts := []) trivial kc280_9_1_1e (fun cu h => by cases h) rfl
def kc146_9_2_1 : KT := ([.inl (.inr (.inr (some 0))), .inl (.inl 9), .inl (.inl 2), .inl (.inl 1)], some (.inr (true, 1000000000, 1000000000)), [], [], [(77, 16, .inr (false, 0, 9999))], [(77, 16, .inr (false, 0, 9999))], [], 2)
theorem kc146_9_2_1e : chkE JB [] [] kc146_9_2_1 1 146 = true := by decide +kernel
theorem kc146_9_2_1o {β : Nat} : KOK JB (W0 β) 146 kc146_9_2_1 := KOK_of W0_f (CT := []) (cuts := []) trivial kc146_9_2_1e (fun cu h => by cases h) rfl
def kc280_9_2_1 : KT := ([.inl (.inr (.inr (some 76))), .inl (.inl 9), .inl (.inl 2), .inl (.inl 1)], some (.inr (true, 1000000000, 1000000000)), [], [], [(77, 16, .inr (false, 0, 9999))], [(77, 16, .inr (false, 0, 9999))], [], 2)
theorem kc280_9_2_1e : chkE JB [] [] kc280_9_2_1 1 280 = true := by decide +kernel
theorem kc280_9_2_1o {β : Nat} : KOK JB (W0 β) 280 kc280_9_2_1 := KOK_of W0_f (CT := []) (cuts := []) trivial kc280_9_2_1e (fun cu h => by cases h) rfl
def kc146_9_3_1 : KT := ([.inl (.inr (.inr (some 0))), .inl (.inl 9), .inl (.inl 3), .inl (.inl 1)], some (.inr (true, 1953125, 1953125)), [], [], [(77, 16, .inr (false, 0, 9999))], [(77, 16, .inr (false, 0, 9999))], [], 2)
theorem kc146_9_3_1e : chkE JB [] [] kc146_9_3_1 1 146 = true := by decide +kernel
theorem kc146_9_3_1o {β : Nat} : KOK JB (W0 β) 146 kc146_9_3_1 := KOK_of W0_f (CT := []) (cuts := []) trivial kc146_9_3_1e (fun cu h => by cases h) rfl
def kc280_9_3_1 : KT := ([.inl (.inr (.inr (some 76))), .inl (.inl 9), .inl (.inl 3), .inl (.inl 1)], some (.inr (true, 1953125, 1953125)), [], [], [(77, 16, .inr (false, 0, 9999))], [(77, 16, .inr (false, 0, 9999))], [], 2)
theorem kc280_9_3_1e : chkE JB [] [] kc280_9_3_1 1 280 = true := by decide +kernel
theorem kc280_9_3_1o {β : Nat} : KOK JB (W0 β) 280 kc280_9_3_1 := KOK_of W0_f (CT := []) (cuts := []) trivial kc280_9_3_1e (fun cu h => by cases h) rfl
def kc146_9_4_1 : KT := ([.inl (.inr (.inr (some 0))), .inl (.inl 9), .inl (.inl 4), .inl (.inl 1)], some (.inr (true, 512, 512)), [], [], [(77, 16, .inr (false, 0, 9999))], [(77, 16, .inr (false, 0, 9999))], [], 2)
theorem kc146_9_4_1e : chkE JB [] [] kc146_9_4_1 1 146 = true := by decide +kernel
theorem kc146_9_4_1o {β : Nat} : KOK JB (W0 β) 146 kc146_9_4_1 := KOK_of W0_f (CT := []) (cuts := []) trivial kc146_9_4_1e (fun cu h => by cases h) rfl
def kc280_9_4_1 : KT := ([.inl (.inr (.inr (some 76))), .inl (.inl 9), .inl (.inl 4), .inl (.inl 1)], some (.inr (true, 512, 512)), [], [], [(77, 16, .inr (false, 0, 9999))], [(77, 16, .inr (false, 0, 9999))], [], 2)
theorem kc280_9_4_1e : chkE JB [] [] kc280_9_4_1 1 280 = true := by decide +kernel
theorem kc280_9_4_1o {β : Nat} : KOK JB (W0 β) 280 kc280_9_4_1 := KOK_of W0_f (CT := []) (cuts := []) trivial kc280_9_4_1e (fun cu h => by cases h) rfl
def kc146_9_5_1 : KT := ([.inl (.inr (.inr (some 0))), .inl (.inl 9), .inl (.inl 5), .inl (.inl 1)], some (.inr (true, 1953125, 1953125)), [], [], [(77, 16, .inr (false, 0, 9999))], [(77, 16, .inr (false, 0, 9999))], [], 2)
theorem kc146_9_5_1e : chkE JB [] [] kc146_9_5_1 1 146 = true := by decide +kernel
theorem kc146_9_5_1o {β : Nat} : KOK JB (W0 β) 146 kc146_9_5_1 := KOK_of W0_f (CT := []) (cuts := []) trivial kc146_9_5_1e (fun cu h => by cases h) rfl
def kc280_9_5_1 : KT := ([.inl (.inr (.inr (some 76))), .inl (.inl 9), .inl (.inl 5), .inl (.inl 1)], some (.inr (true, 1953125, 1953125)), [], [], [(77, 16, .inr (false, 0, 9999))], [(77, 16, .inr (false, 0, 9999))], [], 2)
theorem kc280_9_5_1e : chkE JB [] [] kc280_9_5_1 1 280 = true := by decide +kernel
theorem kc280_9_5_1o {β : Nat} : KOK JB (W0 β) 280 kc280_9_5_1 := KOK_of W0_f (CT := []) (cuts := []) trivial kc280_9_5_1e (fun cu h => by cases h) rfl
def kc146_9_6_1 : KT := ([.inl (.inr (.inr (some 0))), .inl (.inl 9), .inl (.inl 6), .inl (.inl 1)], some (.inr (true, 1000000000, 1000000000)), [], [], [(77, 16, .inr (false, 0, 9999))], [(77, 16, .inr (false, 0, 9999))], [], 2)
theorem kc146_9_6_1e : chkE JB [] [] kc146_9_6_1 1 146 = true := by decide +kernel
theorem kc146_9_6_1o {β : Nat} : KOK JB (W0 β) 146 kc146_9_6_1 := KOK_of W0_f (CT := []) (cuts := []) trivial kc146_9_6_1e (fun cu h => by cases h) rfl
def kc280_9_6_1 : KT := ([.inl (.inr (.inr (some 76))), .inl (.inl 9), .inl (.inl 6), .inl (.inl 1)], some (.inr (true, 1000000000, 1000000000)), [], [], [(77, 16, .inr (false, 0, 9999))], [(77, 16, .inr (false, 0, 9999))], [], 2)
theorem kc280_9_6_1e : chkE JB [] [] kc280_9_6_1 1 280 = true := by decide +kernel
theorem kc280_9_6_1o {β : Nat} : KOK JB (W0 β) 280 kc280_9_6_1 := KOK_of W0_f (CT := []) (cuts := []) trivial kc280_9_6_1e (fun cu h => by cases h) rfl
def kc146_9_7_1 : KT := ([.inl (.inr (.inr (some 0))), .inl (.inl 9), .inl (.inl 7), .inl (.inl 1)], some (.inr (true, 1953125, 1953125)), [], [], [(77, 16, .inr (false, 0, 9999))], [(77, 16, .inr (false, 0, 9999))], [], 2)
theorem kc146_9_7_1e : chkE JB [] [] kc146_9_7_1 1 146 = true := by decide +kernel
theorem kc146_9_7_1o {β : Nat} : KOK JB (W0 β) 146 kc146_9_7_1 := KOK_of W0_f (CT := []) (cuts := []) trivial kc146_9_7_1e (fun cu h => by cases h) rfl
def kc280_9_7_1 : KT := ([.inl (.inr (.inr (some 76))), .inl (.inl 9), .inl (.inl 7), .inl (.inl 1)], some (.inr (true, 1953125, 1953125)), [], [], [(77, 16, .inr (false, 0, 9999))], [(77, 16, .inr (false, 0, 9999))], [], 2)
theorem kc280_9_7_1e : chkE JB [] [] kc280_9_7_1 1 280 = true := by decide +kernel
theorem kc280_9_7_1o {β : Nat} : KOK JB (W0 β) 280 kc280_9_7_1 := KOK_of W0_f (CT := []) (cuts := []) trivial kc280_9_7_1e (fun cu h => by cases h) rfl
def kc146_9_8_1 : KT := ([.inl (.inr (.inr (some 0))), .inl (.inl 9), .inl (.inl 8), .inl (.inl 1)], some (.inr (true, 1000000000, 1000000000)), [], [], [(77, 16, .inr (false, 0, 9999))], [(77, 16, .inr (false, 0, 9999))], [], 2)
theorem kc146_9_8_1e : chkE JB [] [] kc146_9_8_1 1 146 = true := by decide +kernel
theorem kc146_9_8_1o {β : Nat} : KOK JB (W0 β) 146 kc146_9_8_1 := KOK_of W0_f (CT := []) (cuts := []) trivial kc146_9_8_1e (fun cu h => by cases h) rfl
def kc280_9_8_1 : KT := ([.inl (.inr (.inr (some 76))), .inl (.inl 9), .inl (.inl 8), .inl (.inl 1)], some (.inr (true, 1000000000, 1000000000)), [], [], [(77, 16, .inr (false, 0, 9999))], [(77, 16, .inr (false, 0, 9999))], [], 2)
theorem kc280_9_8_1e : chkE JB [] [] kc280_9_8_1 1 280 = true := by decide +kernel
theorem kc280_9_8_1o {β : Nat} : KOK JB (W0 β) 280 kc280_9_8_1 := KOK_of W0_f (CT := []) (cuts := []) trivial kc280_9_8_1e (fun cu h => by cases h) rfl
def kc146_9_9_1 : KT := ([.inl (.inr (.inr (some 0))), .inl (.inl 9), .inl (.inl 9), .inl (.inl 1)], some (.inr (true, 1, 1)), [], [], [(77, 16, .inr (false, 0, 9999))], [(77, 16, .inr (false, 0, 9999))], [], 2)
theorem kc146_9_9_1e : chkE JB [] [] kc146_9_9_1 1 146 = true := by decide +kernel
theorem kc146_9_9_1o {β : Nat} : KOK JB (W0 β) 146 kc146_9_9_1 := KOK_of W0_f (CT := []) (cuts := []) trivial kc146_9_9_1e (fun cu h => by cases h) rfl
def kc280_9_9_1 : KT := ([.inl (.inr (.inr (some 76))), .inl (.inl 9), .inl (.inl 9), .inl (.inl 1)], some (.inr (true, 1, 1)), [], [], [(77, 16, .inr (false, 0, 9999))], [(77, 16, .inr (false, 0, 9999))], [], 2)
theorem kc280_9_9_1e : chkE JB [] [] kc280_9_9_1 1 280 = true := by decide +kernel
theorem kc280_9_9_1o {β : Nat} : KOK JB (W0 β) 280 kc280_9_9_1 := KOK_of W0_f (CT := []) (cuts := []) trivial kc280_9_9_1e (fun cu h => by cases h) rfl
set_option maxHeartbeats 4000000 in
theorem kcc_9_1 {β L : Nat} {xs : Nat → Int} {h : AH} {q : Int} (h0 : 0 ≤ q) (h9 : q ≤ 9) (hL : LI β L xs h) : ∃ (z : Int) (h1 h2 : AH), LI β L xs h1 ∧ LI β L xs h2 ∧ (∀ Q : Option AV → AH → Prop, XC 1000 146 [vR 0, vI 9, vI q, vI 1] h Q = Q (some (vL z)) h1) ∧ ∀ Q : Option AV → AH → Prop, XC 1000 280 [vR 76, vI 9, vI q, vI 1] h1 Q = Q (some (vL z)) h2 := by
  by_cases d0 : q = 0
  · subst d0
    obtain ⟨r1, h1, ⟨v1, rfl, y1, rfl, e1, f1⟩, l1, E1⟩ := LI_k (kc146_9_0_1o (β := β)) (by decide +kernel) (by decide +kernel) (vs := [vR 0, vI 9, vI 0, vI 1]) ⟨_, _, rfl, rfl, _, _, rfl, rfl, _, _, rfl, rfl, _, _, rfl, rfl, rfl⟩ hL
    obtain ⟨r2, h2, ⟨v2, rfl, y2, rfl, e2, f2⟩, l2, E2⟩ := LI_k (kc280_9_0_1o (β := β)) (by decide +kernel) (by decide +kernel) (vs := [vR 76, vI 9, vI 0, vI 1]) ⟨_, _, rfl, rfl, _, _, rfl, rfl, _, _, rfl, rfl, _, _, rfl, rfl, rfl⟩ l1
    have e1 : (1000000000 : Int) ≤ y1 := e1
    have f1 : y1 ≤ (1000000000 : Int) := f1
    obtain rfl : y1 = 1000000000 := Int.le_antisymm f1 e1
    have e2 : (1000000000 : Int) ≤ y2 := e2
    have f2 : y2 ≤ (1000000000 : Int) := f2
    obtain rfl : y2 = 1000000000 := Int.le_antisymm f2 e2
    exact ⟨_, h1, h2, l1, l2, E1, E2⟩
  by_cases d1 : q = 1
  · subst d1
    obtain ⟨r1, h1, ⟨v1, rfl, y1, rfl, e1, f1⟩, l1, E1⟩ := LI_k (kc146_9_1_1o (β := β)) (by decide +kernel) (by decide +kernel) (vs := [vR 0, vI 9, vI 1, vI 1]) ⟨_, _, rfl, rfl, _, _, rfl, rfl, _, _, rfl, rfl, _, _, rfl, rfl, rfl⟩ hL
    obtain ⟨r2, h2, ⟨v2, rfl, y2, rfl, e2, f2⟩, l2, E2⟩ := LI_k (kc280_9_1_1o (β := β)) (by decide +kernel) (by decide +kernel) (vs := [vR 76, vI 9, vI 1, vI 1]) ⟨_, _, rfl, rfl, _, _, rfl, rfl, _, _, rfl, rfl, _, _, rfl, rfl, rfl⟩ l1
    have e1 : (1953125 : Int) ≤ y1 := e1
    have f1 : y1 ≤ (1953125 : Int) := f1
    obtain rfl : y1 = 1953125 := Int.le_antisymm f1 e1
    have e2 : (1953125 : Int) ≤ y2 := e2
    have f2 : y2 ≤ (1953125 : Int) := f2
    obtain rfl : y2 = 1953125 := Int.le_antisymm f2 e2
    exact ⟨_, h1, h2, l1, l2, E1, E2⟩
  by_cases d2 : q = 2
  · subst d2
    obtain ⟨r1, h1, ⟨v1, rfl, y1, rfl, e1, f1⟩, l1, E1⟩ := LI_k (kc146_9_2_1o (β := β)) (by decide +kernel) (by decide +kernel) (vs := [vR 0, vI 9, vI 2, vI 1]) ⟨_, _, rfl, rfl, _, _, rfl, rfl, _, _, rfl, rfl, _, _, rfl, rfl, rfl⟩ hL
    obtain ⟨r2, h2, ⟨v2, rfl, y2, rfl, e2, f2⟩, l2, E2⟩ := LI_k (kc280_9_2_1o (β := β)) (by decide +kernel) (by decide +kernel) (vs := [vR 76, vI 9, vI 2, vI 1]) ⟨_, _, rfl, rfl, _, _, rfl, rfl, _, _, rfl, rfl, _, _, rfl, rfl, rfl⟩ l1
    have e1 : (1000000000 : Int) ≤ y1 := e1
    have f1 : y1 ≤ (1000000000 : Int) := f1
    obtain rfl : y1 = 1000000000 := Int.le_antisymm f1 e1
    have e2 : (1000000000 : Int) ≤ y2 := e2
    have f2 : y2 ≤ (1000000000 : Int) := f2
    obtain rfl : y2 = 1000000000 := Int.le_antisymm f2 e2
    exact ⟨_, h1, h2, l1, l2, E1, E2⟩
  by_cases d3 : q = 3
  · subst d3
    obtain ⟨r1, h1, ⟨v1, rfl, y1, rfl, e1, f1⟩, l1, E1⟩ := LI_k (kc146_9_3_1o (β := β)) (by decide +kernel) (by decide +kernel) (vs := [vR 0, vI 9, vI 3, vI 1]) ⟨_, _, rfl, rfl, _, _, rfl, rfl, _, _, rfl, rfl, _, _, rfl, rfl, rfl⟩ hL
    obtain ⟨r2, h2, ⟨v2, rfl, y2, rfl, e2, f2⟩, l2, E2⟩ := LI_k (kc280_9_3_1o (β := β)) (by decide +kernel) (by decide +kernel) (vs := [vR 76, vI 9, vI 3, vI 1]) ⟨_, _, rfl, rfl, _, _, rfl, rfl, _, _, rfl, rfl, _, _, rfl, rfl, rfl⟩ l1
    have e1 : (1953125 : Int) ≤ y1 := e1
    have f1 : y1 ≤ (1953125 : Int) := f1
    obtain rfl : y1 = 1953125 := Int.le_antisymm f1 e1
    have e2 : (1953125 : Int) ≤ y2 := e2
    have f2 : y2 ≤ (1953125 : Int) := f2
    obtain rfl : y2 = 1953125 := Int.le_antisymm f2 e2
    exact ⟨_, h1, h2, l1, l2, E1, E2⟩
  by_cases d4 : q = 4
  · subst d4
    obtain ⟨r1, h1, ⟨v1, rfl, y1, rfl, e1, f1⟩, l1, E1⟩ := LI_k (kc146_9_4_1o (β := β)) (by decide +kernel) (by decide +kernel) (vs := [vR 0, vI 9, vI 4, vI 1]) ⟨_, _, rfl, rfl, _, _, rfl, rfl, _, _, rfl, rfl, _, _, rfl, rfl, rfl⟩ hL
    obtain ⟨r2, h2, ⟨v2, rfl, y2, rfl, e2, f2⟩, l2, E2⟩ := LI_k (kc280_9_4_1o (β := β)) (by decide +kernel) (by decide +kernel) (vs := [vR 76, vI 9, vI 4, vI 1]) ⟨_, _, rfl, rfl, _, _, rfl, rfl, _, _, rfl, rfl, _, _, rfl, rfl, rfl⟩ l1
    have e1 : (512 : Int) ≤ y1 := e1
    have f1 : y1 ≤ (512 : Int) := f1
    obtain rfl : y1 = 512 := Int.le_antisymm f1 e1
    have e2 : (512 : Int) ≤ y2 := e2
    have f2 : y2 ≤ (512 : Int) := f2
    obtain rfl : y2 = 512 := Int.le_antisymm f2 e2
    exact ⟨_, h1, h2, l1, l2, E1, E2⟩
  by_cases d5 : q = 5
  · subst d5
    obtain ⟨r1, h1, ⟨v1, rfl, y1, rfl, e1, f1⟩, l1, E1⟩ := LI_k (kc146_9_5_1o (β := β)) (by decide +kernel) (by decide +kernel) (vs := [vR 0, vI 9, vI 5, vI 1]) ⟨_, _, rfl, rfl, _, _, rfl, rfl, _, _, rfl, rfl, _, _, rfl, rfl, rfl⟩ hL
    obtain ⟨r2, h2, ⟨v2, rfl, y2, rfl, e2, f2⟩, l2, E2⟩ := LI_k (kc280_9_5_1o (β := β)) (by decide +kernel) (by decide +kernel) (vs := [vR 76, vI 9, vI 5, vI 1]) ⟨_, _, rfl, rfl, _, _, rfl, rfl, _, _, rfl, rfl, _, _, rfl, rfl, rfl⟩ l1
    have e1 : (1953125 : Int) ≤ y1 := e1
    have f1 : y1 ≤ (1953125 : Int) := f1
    obtain rfl : y1 = 1953125 := Int.le_antisymm f1 e1
    have e2 : (1953125 : Int) ≤ y2 := e2
    have f2 : y2 ≤ (1953125 : Int) := f2
    obtain rfl : y2 = 1953125 := Int.le_antisymm f2 e2
    exact ⟨_, h1, h2, l1, l2, E1, E2⟩
  by_cases d6 : q = 6
  · subst d6
    obtain ⟨r1, h1, ⟨v1, rfl, y1, rfl, e1, f1⟩, l1, E1⟩ := LI_k (kc146_9_6_1o (β := β)) (by decide +kernel) (by decide +kernel) (vs := [vR 0, vI 9, vI 6, vI 1]) ⟨_, _, rfl, rfl, _, _, rfl, rfl, _, _, rfl, rfl, _, _, rfl, rfl, rfl⟩ hL
    obtain ⟨r2, h2, ⟨v2, rfl, y2, rfl, e2, f2⟩, l2, E2⟩ := LI_k (kc280_9_6_1o (β := β)) (by decide +kernel) (by decide +kernel) (vs := [vR 76, vI 9, vI 6, vI 1]) ⟨_, _, rfl, rfl, _, _, rfl, rfl, _, _, rfl, rfl, _, _, rfl, rfl, rfl⟩ l1
    have e1 : (1000000000 : Int) ≤ y1 := e1
    have f1 : y1 ≤ (1000000000 : Int) := f1
    obtain rfl : y1 = 1000000000 := Int.le_antisymm f1 e1
    have e2 : (1000000000 : Int) ≤ y2 := e2
    have f2 : y2 ≤ (1000000000 : Int) := f2
    obtain rfl : y2 = 1000000000 := Int.le_antisymm f2 e2
    exact ⟨_, h1, h2, l1, l2, E1, E2⟩
  by_cases d7 : q = 7
  · subst d7
    obtain ⟨r1, h1, ⟨v1, rfl, y1, rfl, e1, f1⟩, l1, E1⟩ := LI_k (kc146_9_7_1o (β := β)) (by decide +kernel) (by decide +kernel) (vs := [vR 0, vI 9, vI 7, vI 1]) ⟨_, _, rfl, rfl, _, _, rfl, rfl, _, _, rfl, rfl, _, _, rfl, rfl, rfl⟩ hL
    obtain ⟨r2, h2, ⟨v2, rfl, y2, rfl, e2, f2⟩, l2, E2⟩ := LI_k (kc280_9_7_1o (β := β)) (by decide +kernel) (by decide +kernel) (vs := [vR 76, vI 9, vI 7, vI 1]) ⟨_, _, rfl, rfl, _, _, rfl, rfl, _, _, rfl, rfl, _, _, rfl, rfl, rfl⟩ l1
    have e1 : (1953125 : Int) ≤ y1 := e1
    have f1 : y1 ≤ (1953125 : Int) := f1
    obtain rfl : y1 = 1953125 := Int.le_antisymm f1 e1
    have e2 : (1953125 : Int) ≤ y2 := e2
    have f2 : y2 ≤ (1953125 : Int) := f2
    obtain rfl : y2 = 1953125 := Int.le_antisymm f2 e2
    exact ⟨_, h1, h2, l1, l2, E1, E2⟩
  by_cases d8 : q = 8
  · subst d8
    obtain ⟨r1, h1, ⟨v1, rfl, y1, rfl, e1, f1⟩, l1, E1⟩ := LI_k (kc146_9_8_1o (β := β)) (by decide +kernel) (by decide +kernel) (vs := [vR 0, vI 9, vI 8, vI 1]) ⟨_, _, rfl, rfl, _, _, rfl, rfl, _, _, rfl, rfl, _, _, rfl, rfl, rfl⟩ hL
    obtain ⟨r2, h2, ⟨v2, rfl, y2, rfl, e2, f2⟩, l2, E2⟩ := LI_k (kc280_9_8_1o (β := β)) (by decide +kernel) (by decide +kernel) (vs := [vR 76, vI 9, vI 8, vI 1]) ⟨_, _, rfl, rfl, _, _, rfl, rfl, _, _, rfl, rfl, _, _, rfl, rfl, rfl⟩ l1
    have e1 : (1000000000 : Int) ≤ y1 := e1
    have f1 : y1 ≤ (1000000000 : Int) := f1
    obtain rfl : y1 = 1000000000 := Int.le_antisymm f1 e1
    have e2 : (1000000000 : Int) ≤ y2 := e2
    have f2 : y2 ≤ (1000000000 : Int) := f2
    obtain rfl : y2 = 1000000000 := Int.le_antisymm f2 e2
    exact ⟨_, h1, h2, l1, l2, E1, E2⟩
  have d9 : q = 9 := by omega
  subst d9
  obtain ⟨r1, h1, ⟨v1, rfl, y1, rfl, e1, f1⟩, l1, E1⟩ := LI_k (kc146_9_9_1o (β := β)) (by decide +kernel) (by decide +kernel) (vs := [vR 0, vI 9, vI 9, vI 1]) ⟨_, _, rfl, rfl, _, _, rfl, rfl, _, _, rfl, rfl, _, _, rfl, rfl, rfl⟩ hL
  obtain ⟨r2, h2, ⟨v2, rfl, y2, rfl, e2, f2⟩, l2, E2⟩ := LI_k (kc280_9_9_1o (β := β)) (by decide +kernel) (by decide +kernel) (vs := [vR 76, vI 9, vI 9, vI 1]) ⟨_, _, rfl, rfl, _, _, rfl, rfl, _, _, rfl, rfl, _, _, rfl, rfl, rfl⟩ l1
  have e1 : (1 : Int) ≤ y1 := e1
  have f1 : y1 ≤ (1 : Int) := f1
  obtain rfl : y1 = 1 := Int.le_antisymm f1 e1
  have e2 : (1 : Int) ≤ y2 := e2
  have f2 : y2 ≤ (1 : Int) := f2
  obtain rfl : y2 = 1 := Int.le_antisymm f2 e2
  exact ⟨_, h1, h2, l1, l2, E1, E2⟩

set_option maxHeartbeats 4000000 in
theorem kca_0 {β L : Nat} {xs : Nat → Int} {h : AH} {n q : Int} (hn : -2147483648 ≤ n ∧ n ≤ 2147483647) (hq : -2147483648 ≤ q ∧ q ≤ 2147483647) (hL : LI β L xs h) : ∃ (z : Int) (h1 h2 : AH), LI β L xs h1 ∧ LI β L xs h2 ∧ (∀ Q : Option AV → AH → Prop, XC 1000 146 [vR 0, vI n, vI q, vI 0] h Q = Q (some (vL z)) h1) ∧ ∀ Q : Option AV → AH → Prop, XC 1000 280 [vR 76, vI n, vI q, vI 0] h1 Q = Q (some (vL z)) h2 := by
  by_cases c0 : n ≤ 0
  · obtain ⟨r1, h1, ⟨v1, rfl, y1, rfl, e1, f1⟩, l1, E1⟩ := LI_k (kc146nao (β := β)) (by decide +kernel) (by decide +kernel) (vs := [vR 0, vI n, vI q, vI 0]) ⟨_, _, rfl, rfl, _, _, rfl, ⟨_, rfl, hn.1, c0⟩, _, _, rfl, ⟨_, rfl, hq⟩, _, _, rfl, ⟨0, rfl, by decide, by decide⟩, rfl⟩ hL
    obtain ⟨r2, h2, ⟨v2, rfl, y2, rfl, e2, f2⟩, l2, E2⟩ := LI_k (kc280nao (β := β)) (by decide +kernel) (by decide +kernel) (vs := [vR 76, vI n, vI q, vI 0]) ⟨_, _, rfl, rfl, _, _, rfl, ⟨_, rfl, hn.1, c0⟩, _, _, rfl, ⟨_, rfl, hq⟩, _, _, rfl, ⟨0, rfl, by decide, by decide⟩, rfl⟩ l1
    have e1 : ((-1) : Int) ≤ y1 := e1
    have f1 : y1 ≤ ((-1) : Int) := f1
    obtain rfl : y1 = (-1) := Int.le_antisymm f1 e1
    have e2 : ((-1) : Int) ≤ y2 := e2
    have f2 : y2 ≤ ((-1) : Int) := f2
    obtain rfl : y2 = (-1) := Int.le_antisymm f2 e2
    exact ⟨_, h1, h2, l1, l2, E1, E2⟩
  by_cases c1 : 10 ≤ n
  · obtain ⟨r1, h1, ⟨v1, rfl, y1, rfl, e1, f1⟩, l1, E1⟩ := LI_k (kc146nbo (β := β)) (by decide +kernel) (by decide +kernel) (vs := [vR 0, vI n, vI q, vI 0]) ⟨_, _, rfl, rfl, _, _, rfl, ⟨_, rfl, c1, hn.2⟩, _, _, rfl, ⟨_, rfl, hq⟩, _, _, rfl, ⟨0, rfl, by decide, by decide⟩, rfl⟩ hL
    obtain ⟨r2, h2, ⟨v2, rfl, y2, rfl, e2, f2⟩, l2, E2⟩ := LI_k (kc280nbo (β := β)) (by decide +kernel) (by decide +kernel) (vs := [vR 76, vI n, vI q, vI 0]) ⟨_, _, rfl, rfl, _, _, rfl, ⟨_, rfl, c1, hn.2⟩, _, _, rfl, ⟨_, rfl, hq⟩, _, _, rfl, ⟨0, rfl, by decide, by decide⟩, rfl⟩ l1
    have e1 : ((-1) : Int) ≤ y1 := e1
    have f1 : y1 ≤ ((-1) : Int) := f1
    obtain rfl : y1 = (-1) := Int.le_antisymm f1 e1
    have e2 : ((-1) : Int) ≤ y2 := e2
    have f2 : y2 ≤ ((-1) : Int) := f2
    obtain rfl : y2 = (-1) := Int.le_antisymm f2 e2
    exact ⟨_, h1, h2, l1, l2, E1, E2⟩
  have c2 : 1 ≤ n := by omega
  have c3 : n ≤ 9 := by omega
  by_cases c4 : q ≤ -1
  · obtain ⟨r1, h1, ⟨v1, rfl, y1, rfl, e1, f1⟩, l1, E1⟩ := LI_k (kc146qao (β := β)) (by decide +kernel) (by decide +kernel) (vs := [vR 0, vI n, vI q, vI 0]) ⟨_, _, rfl, rfl, _, _, rfl, ⟨_, rfl, c2, c3⟩, _, _, rfl, ⟨_, rfl, hq.1, c4⟩, _, _, rfl, ⟨0, rfl, by decide, by decide⟩, rfl⟩ hL
    obtain ⟨r2, h2, ⟨v2, rfl, y2, rfl, e2, f2⟩, l2, E2⟩ := LI_k (kc280qao (β := β)) (by decide +kernel) (by decide +kernel) (vs := [vR 76, vI n, vI q, vI 0]) ⟨_, _, rfl, rfl, _, _, rfl, ⟨_, rfl, c2, c3⟩, _, _, rfl, ⟨_, rfl, hq.1, c4⟩, _, _, rfl, ⟨0, rfl, by decide, by decide⟩, rfl⟩ l1
    have e1 : ((-1) : Int) ≤ y1 := e1
    have f1 : y1 ≤ ((-1) : Int) := f1
    obtain rfl : y1 = (-1) := Int.le_antisymm f1 e1
    have e2 : ((-1) : Int) ≤ y2 := e2
    have f2 : y2 ≤ ((-1) : Int) := f2
    obtain rfl : y2 = (-1) := Int.le_antisymm f2 e2
    exact ⟨_, h1, h2, l1, l2, E1, E2⟩
  by_cases c5 : 10 ≤ q
  · obtain ⟨r1, h1, ⟨v1, rfl, y1, rfl, e1, f1⟩, l1, E1⟩ := LI_k (kc146qbo (β := β)) (by decide +kernel) (by decide +kernel) (vs := [vR 0, vI n, vI q, vI 0]) ⟨_, _, rfl, rfl, _, _, rfl, ⟨_, rfl, c2, c3⟩, _, _, rfl, ⟨_, rfl, c5, hq.2⟩, _, _, rfl, ⟨0, rfl, by decide, by decide⟩, rfl⟩ hL
    obtain ⟨r2, h2, ⟨v2, rfl, y2, rfl, e2, f2⟩, l2, E2⟩ := LI_k (kc280qbo (β := β)) (by decide +kernel) (by decide +kernel) (vs := [vR 76, vI n, vI q, vI 0]) ⟨_, _, rfl, rfl, _, _, rfl, ⟨_, rfl, c2, c3⟩, _, _, rfl, ⟨_, rfl, c5, hq.2⟩, _, _, rfl, ⟨0, rfl, by decide, by decide⟩, rfl⟩ l1
    have e1 : ((-1) : Int) ≤ y1 := e1
    have f1 : y1 ≤ ((-1) : Int) := f1
    obtain rfl : y1 = (-1) := Int.le_antisymm f1 e1
    have e2 : ((-1) : Int) ≤ y2 := e2
    have f2 : y2 ≤ ((-1) : Int) := f2
    obtain rfl : y2 = (-1) := Int.le_antisymm f2 e2
    exact ⟨_, h1, h2, l1, l2, E1, E2⟩
  have c6 : 0 ≤ q := by omega
  have c7 : q ≤ 9 := by omega
  by_cases g1 : n = 1
  · subst g1; exact kcc_1_0 c6 c7 hL
  by_cases g2 : n = 2
  · subst g2; exact kcc_2_0 c6 c7 hL
  by_cases g3 : n = 3
  · subst g3; exact kcc_3_0 c6 c7 hL
  by_cases g4 : n = 4
  · subst g4; exact kcc_4_0 c6 c7 hL
  by_cases g5 : n = 5
  · subst g5; exact kcc_5_0 c6 c7 hL
  by_cases g6 : n = 6
  · subst g6; exact kcc_6_0 c6 c7 hL
  by_cases g7 : n = 7
  · subst g7; exact kcc_7_0 c6 c7 hL
  by_cases g8 : n = 8
  · subst g8; exact kcc_8_0 c6 c7 hL
  have g9 : n = 9 := by omega
  subst g9; exact kcc_9_0 c6 c7 hL
set_option maxHeartbeats 4000000 in
theorem kca_1 {β L : Nat} {xs : Nat → Int} {h : AH} {n q : Int} (hn : -2147483648 ≤ n ∧ n ≤ 2147483647) (hq : -2147483648 ≤ q ∧ q ≤ 2147483647) (hL : LI β L xs h) : ∃ (z : Int) (h1 h2 : AH), LI β L xs h1 ∧ LI β L xs h2 ∧ (∀ Q : Option AV → AH → Prop, XC 1000 146 [vR 0, vI n, vI q, vI 1] h Q = Q (some (vL z)) h1) ∧ ∀ Q : Option AV → AH → Prop, XC 1000 280 [vR 76, vI n, vI q, vI 1] h1 Q = Q (some (vL z)) h2 := by
  by_cases c0 : n ≤ 0
  · obtain ⟨r1, h1, ⟨v1, rfl, y1, rfl, e1, f1⟩, l1, E1⟩ := LI_k (kc146nao (β := β)) (by decide +kernel) (by decide +kernel) (vs := [vR 0, vI n, vI q, vI 1]) ⟨_, _, rfl, rfl, _, _, rfl, ⟨_, rfl, hn.1, c0⟩, _, _, rfl, ⟨_, rfl, hq⟩, _, _, rfl, ⟨1, rfl, by decide, by decide⟩, rfl⟩ hL
    obtain ⟨r2, h2, ⟨v2, rfl, y2, rfl, e2, f2⟩, l2, E2⟩ := LI_k (kc280nao (β := β)) (by decide +kernel) (by decide +kernel) (vs := [vR 76, vI n, vI q, vI 1]) ⟨_, _, rfl, rfl, _, _, rfl, ⟨_, rfl, hn.1, c0⟩, _, _, rfl, ⟨_, rfl, hq⟩, _, _, rfl, ⟨1, rfl, by decide, by decide⟩, rfl⟩ l1
    have e1 : ((-1) : Int) ≤ y1 := e1
    have f1 : y1 ≤ ((-1) : Int) := f1
    obtain rfl : y1 = (-1) := Int.le_antisymm f1 e1
    have e2 : ((-1) : Int) ≤ y2 := e2
    have f2 : y2 ≤ ((-1) : Int) := f2
    obtain rfl : y2 = (-1) := Int.le_antisymm f2 e2
    exact ⟨_, h1, h2, l1, l2, E1, E2⟩
  by_cases c1 : 10 ≤ n
  · obtain ⟨r1, h1, ⟨v1, rfl, y1, rfl, e1, f1⟩, l1, E1⟩ := LI_k (kc146nbo (β := β)) (by decide +kernel) (by decide +kernel) (vs := [vR 0, vI n, vI q, vI 1]) ⟨_, _, rfl, rfl, _, _, rfl, ⟨_, rfl, c1, hn.2⟩, _, _, rfl, ⟨_, rfl, hq⟩, _, _, rfl, ⟨1, rfl, by decide, by decide⟩, rfl⟩ hL
    obtain ⟨r2, h2, ⟨v2, rfl, y2, rfl, e2, f2⟩, l2, E2⟩ := LI_k (kc280nbo (β := β)) (by decide +kernel) (by decide +kernel) (vs := [vR 76, vI n, vI q, vI 1]) ⟨_, _, rfl, rfl, _, _, rfl, ⟨_, rfl, c1, hn.2⟩, _, _, rfl, ⟨_, rfl, hq⟩, _, _, rfl, ⟨1, rfl, by decide, by decide⟩, rfl⟩ l1
    have e1 : ((-1) : Int) ≤ y1 := e1
    have f1 : y1 ≤ ((-1) : Int) := f1
    obtain rfl : y1 = (-1) := Int.le_antisymm f1 e1
    have e2 : ((-1) : Int) ≤ y2 := e2
    have f2 : y2 ≤ ((-1) : Int) := f2
    obtain rfl : y2 = (-1) := Int.le_antisymm f2 e2
    exact ⟨_, h1, h2, l1, l2, E1, E2⟩
  have c2 : 1 ≤ n := by omega
  have c3 : n ≤ 9 := by omega
  by_cases c4 : q ≤ -1
  · obtain ⟨r1, h1, ⟨v1, rfl, y1, rfl, e1, f1⟩, l1, E1⟩ := LI_k (kc146qao (β := β)) (by decide +kernel) (by decide +kernel) (vs := [vR 0, vI n, vI q, vI 1]) ⟨_, _, rfl, rfl, _, _, rfl, ⟨_, rfl, c2, c3⟩, _, _, rfl, ⟨_, rfl, hq.1, c4⟩, _, _, rfl, ⟨1, rfl, by decide, by decide⟩, rfl⟩ hL
    obtain ⟨r2, h2, ⟨v2, rfl, y2, rfl, e2, f2⟩, l2, E2⟩ := LI_k (kc280qao (β := β)) (by decide +kernel) (by decide +kernel) (vs := [vR 76, vI n, vI q, vI 1]) ⟨_, _, rfl, rfl, _, _, rfl, ⟨_, rfl, c2, c3⟩, _, _, rfl, ⟨_, rfl, hq.1, c4⟩, _, _, rfl, ⟨1, rfl, by decide, by decide⟩, rfl⟩ l1
    have e1 : ((-1) : Int) ≤ y1 := e1
    have f1 : y1 ≤ ((-1) : Int) := f1
    obtain rfl : y1 = (-1) := Int.le_antisymm f1 e1
    have e2 : ((-1) : Int) ≤ y2 := e2
    have f2 : y2 ≤ ((-1) : Int) := f2
    obtain rfl : y2 = (-1) := Int.le_antisymm f2 e2
    exact ⟨_, h1, h2, l1, l2, E1, E2⟩
  by_cases c5 : 10 ≤ q
  · obtain ⟨r1, h1, ⟨v1, rfl, y1, rfl, e1, f1⟩, l1, E1⟩ := LI_k (kc146qbo (β := β)) (by decide +kernel) (by decide +kernel) (vs := [vR 0, vI n, vI q, vI 1]) ⟨_, _, rfl, rfl, _, _, rfl, ⟨_, rfl, c2, c3⟩, _, _, rfl, ⟨_, rfl, c5, hq.2⟩, _, _, rfl, ⟨1, rfl, by decide, by decide⟩, rfl⟩ hL
    obtain ⟨r2, h2, ⟨v2, rfl, y2, rfl, e2, f2⟩, l2, E2⟩ := LI_k (kc280qbo (β := β)) (by decide +kernel) (by decide +kernel) (vs := [vR 76, vI n, vI q, vI 1]) ⟨_, _, rfl, rfl, _, _, rfl, ⟨_, rfl, c2, c3⟩, _, _, rfl, ⟨_, rfl, c5, hq.2⟩, _, _, rfl, ⟨1, rfl, by decide, by decide⟩, rfl⟩ l1
    have e1 : ((-1) : Int) ≤ y1 := e1
    have f1 : y1 ≤ ((-1) : Int) := f1
    obtain rfl : y1 = (-1) := Int.le_antisymm f1 e1
    have e2 : ((-1) : Int) ≤ y2 := e2
    have f2 : y2 ≤ ((-1) : Int) := f2
    obtain rfl : y2 = (-1) := Int.le_antisymm f2 e2
    exact ⟨_, h1, h2, l1, l2, E1, E2⟩
  have c6 : 0 ≤ q := by omega
  have c7 : q ≤ 9 := by omega
  by_cases g1 : n = 1
  · subst g1; exact kcc_1_1 c6 c7 hL
  by_cases g2 : n = 2
  · subst g2; exact kcc_2_1 c6 c7 hL
  by_cases g3 : n = 3
  · subst g3; exact kcc_3_1 c6 c7 hL
  by_cases g4 : n = 4
  · subst g4; exact kcc_4_1 c6 c7 hL
  by_cases g5 : n = 5
  · subst g5; exact kcc_5_1 c6 c7 hL
  by_cases g6 : n = 6
  · subst g6; exact kcc_6_1 c6 c7 hL
  by_cases g7 : n = 7
  · subst g7; exact kcc_7_1 c6 c7 hL
  by_cases g8 : n = 8
  · subst g8; exact kcc_8_1 c6 c7 hL
  have g9 : n = 9 := by omega
  subst g9; exact kcc_9_1 c6 c7 hL

theorem lcmp3_z (z : Int) : lcmp3 z z = 0 := by unfold lcmp3; rw [if_neg (Int.lt_irrefl z), if_pos rfl]
set_option maxHeartbeats 2000000 in
theorem lcs_23 {β L k : Nat} {xs : Nat → Int} {h : AH} {Q : Option AV → AH → Prop} (hx : ∀ i, -2147483648 ≤ xs i ∧ xs i ≤ 2147483647) (hk : 6 * k + 6 ≤ L) (hl : L ≤ 3072) (hb : β + 24 ≤ 20000) (hL : LI β L xs h) (nx : ∀ h', LI (β + 24) L xs h' → XP 1000 321 1540 [some (vR 1000100), some (vR 0), some (vR 76), some (vI ((6 * k : Nat) : Int))] [] h' Q) : XP 1000 321 873 [some (vR 1000100), some (vR 0), some (vR 76), some (vI ((6 * k : Nat) : Int))] [] h Q := by
  obtain ⟨a1, b1⟩ := lw_j (j := 1) hk hl (by decide)
  have a1 : w32 (((6 * k : Nat) : Int) + 1) = ((6 * k + 1 : Nat) : Int) := a1
  obtain ⟨a2, b2⟩ := lw_j (j := 2) hk hl (by decide)
  have a2 : w32 (((6 * k : Nat) : Int) + 2) = ((6 * k + 2 : Nat) : Int) := a2
  obtain ⟨a3, b3⟩ := lw_j (j := 3) hk hl (by decide)
  have a3 : w32 (((6 * k : Nat) : Int) + 3) = ((6 * k + 3 : Nat) : Int) := a3
  obtain ⟨k0, k1, ks, vs⟩ := LI_s hL
  have v1 := vs (6 * k + 1)
  have v2 := vs (6 * k + 2)
  have v3 := vs (6 * k + 3)
  by_cases zz : xs (6 * k + 3) = 0
  · obtain ⟨z, h1, h2, l1, l2, E1, E2⟩ := kca_0 (hx (6 * k + 1)) (hx (6 * k + 2)) hL
    obtain ⟨m0, m1, ms, ws⟩ := LI_s l1
    have w1 := ws (6 * k + 1)
    have w2 := ws (6 * k + 2)
    have w3 := ws (6 * k + 3)
    have y := nx h2 (LI_m (Nat.le_add_right _ _) l2)
    refine xpk_sound (stops := [1540]) (n := 90) ?_
    simp only [sk_0, sk_1, sk_2, sk_3, sk_4, sk_5, sk_6, sk_7, sk_8, sk_iadd, sk_isub, sk_imul, sk_iand, sk_ior, sk_ixor, sk_ishl, sk_ishr, sk_iushr, sk_idiv, sk_irem, sk_ineg, sk_ladd, sk_lsub, sk_lmul, sk_land, sk_lor, sk_ldiv, sk_lrem, sk_lneg, sk_lshl, sk_lshr, sk_i2l, sk_l2i, sk_lcmp, sk_dupI, sk_dupR, sk_dup2L, sk_dup2I, sk_popI, sk_ifeq, sk_ifne, sk_iflt, sk_ifge, sk_ifgt, sk_ifle, sk_iceq, sk_icne, sk_iclt, sk_icge, sk_icgt, sk_icle, sk_goto, sk_getf, sk_putf, sk_gets, sk_iald, sk_lald, sk_bald, sk_aald, sk_iast, sk_last, sk_bast, sk_aast, sk_alen, sk_newa, sk_newt, sk_new, sk_cs1, sk_cs2, sk_cs3, sk_cs4, sk_cs5, sk_cs6, sk_cv1, sk_cv2, sk_cv3, sk_cv4, sk_cv5, sk_cv6, sk_ci1, sk_ci2, sk_ci3, sk_ret0, sk_retI, sk_retL, sk_retR, sk_sw, sk_oin, sk_max, sk_min, sk_abs, lI_0, lI_s, lL_0, lL_s, lR_0, lR_s, vIo_e, vLo_e, vOo_e, stW_I, stW_L, stW_R, stW_0, stW_z, okSt_0, okSt_s, hV_eq, hK_eq, okF_0, okF_1, okF_3, is01_0, is01_1, is01_i, Int.toNat_natCast, Int.reduceEq, Int.reduceLE, Int.reduceLT, Int.reduceNeg, Nat.reduceLT, not_true_eq_false, not_false_eq_true, reduceIte, Option.toList, List.cons_append, List.nil_append, List.set_cons_zero, List.set_cons_succ, List.not_mem_nil, List.mem_cons, if_false, if_true, ite_true, ite_false, and_self, and_true, true_and, Nat.reduceAdd, Nat.reduceLeDiff, Nat.reduceEqDiff, Nat.zero_add, Nat.le_refl, Nat.zero_le, or_false, false_or, Int.reduceToNat, or_true, true_or, eq_self, and_false, false_and, inR_d, nc_4, nc_5, nc_6, nc_7, nc_8, nc_16, nc_18, nc_20, nc_24, nc_32, nc_40, nc_64, nc_104, nc_120, nc_160, nc_256, nc_300, nc_330, nc_390, nc_1200, nc_1260, nc_3012, nc_9834, okSt_1i, okSt_1r, okSt_1n, List.length_cons, List.length_nil, sk_55, xpk_succ cd_321_873, xpk_succ cd_321_874, xpk_succ cd_321_875, xpk_succ cd_321_876, xpk_succ cd_321_877, xpk_succ cd_321_878, xpk_succ cd_321_879, xpk_succ cd_321_880, xpk_succ cd_321_881, xpk_succ cd_321_882, xpk_succ cd_321_883, xpk_succ cd_321_884, xpk_succ cd_321_885, xpk_succ cd_321_886, xpk_succ cd_321_887, xpk_succ cd_321_888, xpk_succ cd_321_889, xpk_succ cd_321_892, xpk_succ cd_321_893, xpk_succ cd_321_896, xpk_succ cd_321_897, xpk_succ cd_321_900, xpk_succ cd_321_901, xpk_succ cd_321_902, xpk_succ cd_321_903, xpk_succ cd_321_904, xpk_succ cd_321_905, xpk_succ cd_321_906, xpk_succ cd_321_907, xpk_succ cd_321_908, xpk_succ cd_321_909, xpk_succ cd_321_910, xpk_succ cd_321_911, xpk_succ cd_321_912, xpk_succ cd_321_913, xpk_succ cd_321_914, xpk_succ cd_321_915, xpk_succ cd_321_916, xpk_succ cd_321_919, xpk_succ cd_321_920, xpk_succ cd_321_923, xpk_succ cd_321_924, xpk_succ cd_321_927, xpk_succ cd_321_928, xpk_succ cd_321_931, xpk_succ cd_321_932, a1, b1, v1, a2, b2, v2, a3, b3, v3, k0, ks, E1, m1, ms, E2, w1, w2, w3, zz, lcmp3_z]
    exact y
  · obtain ⟨z, h1, h2, l1, l2, E1, E2⟩ := kca_1 (hx (6 * k + 1)) (hx (6 * k + 2)) hL
    obtain ⟨m0, m1, ms, ws⟩ := LI_s l1
    have w1 := ws (6 * k + 1)
    have w2 := ws (6 * k + 2)
    have w3 := ws (6 * k + 3)
    have y := nx h2 (LI_m (Nat.le_add_right _ _) l2)
    refine xpk_sound (stops := [1540]) (n := 90) ?_
    simp only [sk_0, sk_1, sk_2, sk_3, sk_4, sk_5, sk_6, sk_7, sk_8, sk_iadd, sk_isub, sk_imul, sk_iand, sk_ior, sk_ixor, sk_ishl, sk_ishr, sk_iushr, sk_idiv, sk_irem, sk_ineg, sk_ladd, sk_lsub, sk_lmul, sk_land, sk_lor, sk_ldiv, sk_lrem, sk_lneg, sk_lshl, sk_lshr, sk_i2l, sk_l2i, sk_lcmp, sk_dupI, sk_dupR, sk_dup2L, sk_dup2I, sk_popI, sk_ifeq, sk_ifne, sk_iflt, sk_ifge, sk_ifgt, sk_ifle, sk_iceq, sk_icne, sk_iclt, sk_icge, sk_icgt, sk_icle, sk_goto, sk_getf, sk_putf, sk_gets, sk_iald, sk_lald, sk_bald, sk_aald, sk_iast, sk_last, sk_bast, sk_aast, sk_alen, sk_newa, sk_newt, sk_new, sk_cs1, sk_cs2, sk_cs3, sk_cs4, sk_cs5, sk_cs6, sk_cv1, sk_cv2, sk_cv3, sk_cv4, sk_cv5, sk_cv6, sk_ci1, sk_ci2, sk_ci3, sk_ret0, sk_retI, sk_retL, sk_retR, sk_sw, sk_oin, sk_max, sk_min, sk_abs, lI_0, lI_s, lL_0, lL_s, lR_0, lR_s, vIo_e, vLo_e, vOo_e, stW_I, stW_L, stW_R, stW_0, stW_z, okSt_0, okSt_s, hV_eq, hK_eq, okF_0, okF_1, okF_3, is01_0, is01_1, is01_i, Int.toNat_natCast, Int.reduceEq, Int.reduceLE, Int.reduceLT, Int.reduceNeg, Nat.reduceLT, not_true_eq_false, not_false_eq_true, reduceIte, Option.toList, List.cons_append, List.nil_append, List.set_cons_zero, List.set_cons_succ, List.not_mem_nil, List.mem_cons, if_false, if_true, ite_true, ite_false, and_self, and_true, true_and, Nat.reduceAdd, Nat.reduceLeDiff, Nat.reduceEqDiff, Nat.zero_add, Nat.le_refl, Nat.zero_le, or_false, false_or, Int.reduceToNat, or_true, true_or, eq_self, and_false, false_and, inR_d, nc_4, nc_5, nc_6, nc_7, nc_8, nc_16, nc_18, nc_20, nc_24, nc_32, nc_40, nc_64, nc_104, nc_120, nc_160, nc_256, nc_300, nc_330, nc_390, nc_1200, nc_1260, nc_3012, nc_9834, okSt_1i, okSt_1r, okSt_1n, List.length_cons, List.length_nil, sk_55, xpk_succ cd_321_873, xpk_succ cd_321_874, xpk_succ cd_321_875, xpk_succ cd_321_876, xpk_succ cd_321_877, xpk_succ cd_321_878, xpk_succ cd_321_879, xpk_succ cd_321_880, xpk_succ cd_321_881, xpk_succ cd_321_882, xpk_succ cd_321_883, xpk_succ cd_321_884, xpk_succ cd_321_885, xpk_succ cd_321_886, xpk_succ cd_321_887, xpk_succ cd_321_888, xpk_succ cd_321_889, xpk_succ cd_321_892, xpk_succ cd_321_893, xpk_succ cd_321_896, xpk_succ cd_321_897, xpk_succ cd_321_900, xpk_succ cd_321_901, xpk_succ cd_321_902, xpk_succ cd_321_903, xpk_succ cd_321_904, xpk_succ cd_321_905, xpk_succ cd_321_906, xpk_succ cd_321_907, xpk_succ cd_321_908, xpk_succ cd_321_909, xpk_succ cd_321_910, xpk_succ cd_321_911, xpk_succ cd_321_912, xpk_succ cd_321_913, xpk_succ cd_321_914, xpk_succ cd_321_915, xpk_succ cd_321_916, xpk_succ cd_321_919, xpk_succ cd_321_920, xpk_succ cd_321_923, xpk_succ cd_321_924, xpk_succ cd_321_927, xpk_succ cd_321_928, xpk_succ cd_321_931, xpk_succ cd_321_932, a1, b1, v1, a2, b2, v2, a3, b3, v3, k0, ks, E1, m1, ms, E2, w1, w2, w3, zz, lcmp3_z]
    exact y

set_option maxHeartbeats 2000000 in
theorem lcs_24 {β L k : Nat} {xs : Nat → Int} {h : AH} {Q : Option AV → AH → Prop} (hx : ∀ i, -2147483648 ≤ xs i ∧ xs i ≤ 2147483647) (hk : 6 * k + 6 ≤ L) (hl : L ≤ 3072) (hb : β + 24 ≤ 20000) (hL : LI β L xs h) (nx : ∀ h', LI (β + 24) L xs h' → XP 1000 321 1540 [some (vR 1000100), some (vR 0), some (vR 76), some (vI ((6 * k : Nat) : Int))] [] h' Q) : XP 1000 321 933 [some (vR 1000100), some (vR 0), some (vR 76), some (vI ((6 * k : Nat) : Int))] [] h Q := by
  obtain ⟨a1, b1⟩ := lw_j (j := 1) hk hl (by decide)
  have a1 : w32 (((6 * k : Nat) : Int) + 1) = ((6 * k + 1 : Nat) : Int) := a1
  obtain ⟨a2, b2⟩ := lw_j (j := 2) hk hl (by decide)
  have a2 : w32 (((6 * k : Nat) : Int) + 2) = ((6 * k + 2 : Nat) : Int) := a2
  obtain ⟨k0, k1, ks, vs⟩ := LI_s hL
  have v1 := vs (6 * k + 1)
  have v2 := vs (6 * k + 2)
  obtain ⟨rE1, h1, ⟨vE1, rfl, yE1, rfl, -⟩, l1, E1⟩ := LI_k (okM147 (β := β)) (by decide +kernel) (by decide +kernel) (vs := [vR 0, vI (xs (6 * k + 1)), vI (xs (6 * k + 2))]) ⟨_, _, rfl, rfl, _, _, rfl, ⟨_, rfl, hx _⟩, _, _, rfl, ⟨_, rfl, hx _⟩, rfl⟩ hL
  have E1 : ∀ Q : Option AV → AH → Prop, XC 1000 147 [vR 0, vI (xs (6 * k + 1)), vI (xs (6 * k + 2))] h Q = Q (some (vI yE1)) h1 := E1
  obtain ⟨m0, m1, ms, ws⟩ := LI_s l1
  have w1 := ws (6 * k + 1)
  have w2 := ws (6 * k + 2)
  obtain ⟨rE2, h2, ⟨vE2, rfl, yE2, rfl, -⟩, l2, E2⟩ := LI_k (okM283 (β := β)) (by decide +kernel) (by decide +kernel) (vs := [vR 76, vI (xs (6 * k + 1)), vI (xs (6 * k + 2))]) ⟨_, _, rfl, rfl, _, _, rfl, ⟨_, rfl, hx _⟩, _, _, rfl, ⟨_, rfl, hx _⟩, rfl⟩ l1
  have E2 : ∀ Q : Option AV → AH → Prop, XC 1000 283 [vR 76, vI (xs (6 * k + 1)), vI (xs (6 * k + 2))] h1 Q = Q (some (vI yE2)) h2 := E2
  have y := nx h2 (LI_m (Nat.le_add_right _ _) l2)
  refine xpk_sound (stops := [1540]) (n := 90) ?_
  simp only [sk_0, sk_1, sk_2, sk_3, sk_4, sk_5, sk_6, sk_7, sk_8, sk_iadd, sk_isub, sk_imul, sk_iand, sk_ior, sk_ixor, sk_ishl, sk_ishr, sk_iushr, sk_idiv, sk_irem, sk_ineg, sk_ladd, sk_lsub, sk_lmul, sk_land, sk_lor, sk_ldiv, sk_lrem, sk_lneg, sk_lshl, sk_lshr, sk_i2l, sk_l2i, sk_lcmp, sk_dupI, sk_dupR, sk_dup2L, sk_dup2I, sk_popI, sk_ifeq, sk_ifne, sk_iflt, sk_ifge, sk_ifgt, sk_ifle, sk_iceq, sk_icne, sk_iclt, sk_icge, sk_icgt, sk_icle, sk_goto, sk_getf, sk_putf, sk_gets, sk_iald, sk_lald, sk_bald, sk_aald, sk_iast, sk_last, sk_bast, sk_aast, sk_alen, sk_newa, sk_newt, sk_new, sk_cs1, sk_cs2, sk_cs3, sk_cs4, sk_cs5, sk_cs6, sk_cv1, sk_cv2, sk_cv3, sk_cv4, sk_cv5, sk_cv6, sk_ci1, sk_ci2, sk_ci3, sk_ret0, sk_retI, sk_retL, sk_retR, sk_sw, sk_oin, sk_max, sk_min, sk_abs, lI_0, lI_s, lL_0, lL_s, lR_0, lR_s, vIo_e, vLo_e, vOo_e, stW_I, stW_L, stW_R, stW_0, stW_z, okSt_0, okSt_s, hV_eq, hK_eq, okF_0, okF_1, okF_3, is01_0, is01_1, is01_i, Int.toNat_natCast, Int.reduceEq, Int.reduceLE, Int.reduceLT, Int.reduceNeg, Nat.reduceLT, not_true_eq_false, not_false_eq_true, reduceIte, Option.toList, List.cons_append, List.nil_append, List.set_cons_zero, List.set_cons_succ, List.not_mem_nil, List.mem_cons, if_false, if_true, ite_true, ite_false, and_self, and_true, true_and, Nat.reduceAdd, Nat.reduceLeDiff, Nat.reduceEqDiff, Nat.zero_add, Nat.le_refl, Nat.zero_le, or_false, false_or, Int.reduceToNat, or_true, true_or, eq_self, and_false, false_and, inR_d, nc_4, nc_5, nc_6, nc_7, nc_8, nc_16, nc_18, nc_20, nc_24, nc_32, nc_40, nc_64, nc_104, nc_120, nc_160, nc_256, nc_300, nc_330, nc_390, nc_1200, nc_1260, nc_3012, nc_9834, okSt_1i, okSt_1r, okSt_1n, List.length_cons, List.length_nil, sk_55, xpk_succ cd_321_933, xpk_succ cd_321_934, xpk_succ cd_321_935, xpk_succ cd_321_936, xpk_succ cd_321_937, xpk_succ cd_321_938, xpk_succ cd_321_939, xpk_succ cd_321_940, xpk_succ cd_321_941, xpk_succ cd_321_942, xpk_succ cd_321_943, xpk_succ cd_321_944, xpk_succ cd_321_947, xpk_succ cd_321_948, xpk_succ cd_321_949, xpk_succ cd_321_950, xpk_succ cd_321_951, xpk_succ cd_321_952, xpk_succ cd_321_953, xpk_succ cd_321_954, xpk_succ cd_321_955, xpk_succ cd_321_956, xpk_succ cd_321_957, xpk_succ cd_321_958, xpk_succ cd_321_959, xpk_succ cd_321_962, xpk_succ cd_321_963, a1, b1, a2, b2, v1, v2, k0, ks, E1, m1, ms, E2, w1, w2]
  exact y
set_option maxHeartbeats 2000000 in
theorem lcs_25 {β L k : Nat} {xs : Nat → Int} {h : AH} {Q : Option AV → AH → Prop} (hx : ∀ i, -2147483648 ≤ xs i ∧ xs i ≤ 2147483647) (hk : 6 * k + 6 ≤ L) (hl : L ≤ 3072) (hb : β + 24 ≤ 20000) (hL : LI β L xs h) (nx : ∀ h', LI (β + 24) L xs h' → XP 1000 321 1540 [some (vR 1000100), some (vR 0), some (vR 76), some (vI ((6 * k : Nat) : Int))] [] h' Q) : XP 1000 321 966 [some (vR 1000100), some (vR 0), some (vR 76), some (vI ((6 * k : Nat) : Int))] [] h Q := by
  obtain ⟨a1, b1⟩ := lw_j (j := 1) hk hl (by decide)
  have a1 : w32 (((6 * k : Nat) : Int) + 1) = ((6 * k + 1 : Nat) : Int) := a1
  obtain ⟨k0, k1, ks, vs⟩ := LI_s hL
  have v1 := vs (6 * k + 1)
  obtain ⟨rE1, h1, ⟨vE1, rfl, yE1, rfl, -⟩, l1, E1⟩ := LI_k (okM148 (β := β)) (by decide +kernel) (by decide +kernel) (vs := [vR 0, vI (xs (6 * k + 1))]) ⟨_, _, rfl, rfl, _, _, rfl, ⟨_, rfl, hx _⟩, rfl⟩ hL
  have E1 : ∀ Q : Option AV → AH → Prop, XC 1000 148 [vR 0, vI (xs (6 * k + 1))] h Q = Q (some (vI yE1)) h1 := E1
  obtain ⟨m0, m1, ms, ws⟩ := LI_s l1
  have w1 := ws (6 * k + 1)
  obtain ⟨rE2, h2, ⟨vE2, rfl, yE2, rfl, -⟩, l2, E2⟩ := LI_k (okM284 (β := β)) (by decide +kernel) (by decide +kernel) (vs := [vR 76, vI (xs (6 * k + 1))]) ⟨_, _, rfl, rfl, _, _, rfl, ⟨_, rfl, hx _⟩, rfl⟩ l1
  have E2 : ∀ Q : Option AV → AH → Prop, XC 1000 284 [vR 76, vI (xs (6 * k + 1))] h1 Q = Q (some (vI yE2)) h2 := E2
  have y := nx h2 (LI_m (Nat.le_add_right _ _) l2)
  refine xpk_sound (stops := [1540]) (n := 90) ?_
  simp only [sk_0, sk_1, sk_2, sk_3, sk_4, sk_5, sk_6, sk_7, sk_8, sk_iadd, sk_isub, sk_imul, sk_iand, sk_ior, sk_ixor, sk_ishl, sk_ishr, sk_iushr, sk_idiv, sk_irem, sk_ineg, sk_ladd, sk_lsub, sk_lmul, sk_land, sk_lor, sk_ldiv, sk_lrem, sk_lneg, sk_lshl, sk_lshr, sk_i2l, sk_l2i, sk_lcmp, sk_dupI, sk_dupR, sk_dup2L, sk_dup2I, sk_popI, sk_ifeq, sk_ifne, sk_iflt, sk_ifge, sk_ifgt, sk_ifle, sk_iceq, sk_icne, sk_iclt, sk_icge, sk_icgt, sk_icle, sk_goto, sk_getf, sk_putf, sk_gets, sk_iald, sk_lald, sk_bald, sk_aald, sk_iast, sk_last, sk_bast, sk_aast, sk_alen, sk_newa, sk_newt, sk_new, sk_cs1, sk_cs2, sk_cs3, sk_cs4, sk_cs5, sk_cs6, sk_cv1, sk_cv2, sk_cv3, sk_cv4, sk_cv5, sk_cv6, sk_ci1, sk_ci2, sk_ci3, sk_ret0, sk_retI, sk_retL, sk_retR, sk_sw, sk_oin, sk_max, sk_min, sk_abs, lI_0, lI_s, lL_0, lL_s, lR_0, lR_s, vIo_e, vLo_e, vOo_e, stW_I, stW_L, stW_R, stW_0, stW_z, okSt_0, okSt_s, hV_eq, hK_eq, okF_0, okF_1, okF_3, is01_0, is01_1, is01_i, Int.toNat_natCast, Int.reduceEq, Int.reduceLE, Int.reduceLT, Int.reduceNeg, Nat.reduceLT, not_true_eq_false, not_false_eq_true, reduceIte, Option.toList, List.cons_append, List.nil_append, List.set_cons_zero, List.set_cons_succ, List.not_mem_nil, List.mem_cons, if_false, if_true, ite_true, ite_false, and_self, and_true, true_and, Nat.reduceAdd, Nat.reduceLeDiff, Nat.reduceEqDiff, Nat.zero_add, Nat.le_refl, Nat.zero_le, or_false, false_or, Int.reduceToNat, or_true, true_or, eq_self, and_false, false_and, inR_d, nc_4, nc_5, nc_6, nc_7, nc_8, nc_16, nc_18, nc_20, nc_24, nc_32, nc_40, nc_64, nc_104, nc_120, nc_160, nc_256, nc_300, nc_330, nc_390, nc_1200, nc_1260, nc_3012, nc_9834, okSt_1i, okSt_1r, okSt_1n, List.length_cons, List.length_nil, sk_55, xpk_succ cd_321_966, xpk_succ cd_321_967, xpk_succ cd_321_968, xpk_succ cd_321_969, xpk_succ cd_321_970, xpk_succ cd_321_971, xpk_succ cd_321_972, xpk_succ cd_321_975, xpk_succ cd_321_976, xpk_succ cd_321_977, xpk_succ cd_321_978, xpk_succ cd_321_979, xpk_succ cd_321_980, xpk_succ cd_321_981, xpk_succ cd_321_982, xpk_succ cd_321_985, xpk_succ cd_321_986, a1, b1, v1, k0, ks, E1, m1, ms, E2, w1]
  exact y
set_option maxHeartbeats 2000000 in
theorem lcs_26 {β L k : Nat} {xs : Nat → Int} {h : AH} {Q : Option AV → AH → Prop} (hx : ∀ i, -2147483648 ≤ xs i ∧ xs i ≤ 2147483647) (hk : 6 * k + 6 ≤ L) (hl : L ≤ 3072) (hb : β + 24 ≤ 20000) (hL : LI β L xs h) (nx : ∀ h', LI (β + 24) L xs h' → XP 1000 321 1540 [some (vR 1000100), some (vR 0), some (vR 76), some (vI ((6 * k : Nat) : Int))] [] h' Q) : XP 1000 321 989 [some (vR 1000100), some (vR 0), some (vR 76), some (vI ((6 * k : Nat) : Int))] [] h Q := by
  obtain ⟨k0, k1, ks, vs⟩ := LI_s hL
  obtain ⟨rE1, h1, ⟨vE1, rfl, yE1, rfl, -⟩, l1, E1⟩ := LI_k (okM150 (β := β)) (by decide +kernel) (by decide +kernel) (vs := [vR 0]) ⟨_, _, rfl, rfl, rfl⟩ hL
  have E1 : ∀ Q : Option AV → AH → Prop, XC 1000 150 [vR 0] h Q = Q (some (vI yE1)) h1 := E1
  obtain ⟨m0, m1, ms, ws⟩ := LI_s l1
  obtain ⟨rE2, h2, ⟨vE2, rfl, yE2, rfl, -⟩, l2, E2⟩ := LI_k (okM286 (β := β)) (by decide +kernel) (by decide +kernel) (vs := [vR 76]) ⟨_, _, rfl, rfl, rfl⟩ l1
  have E2 : ∀ Q : Option AV → AH → Prop, XC 1000 286 [vR 76] h1 Q = Q (some (vI yE2)) h2 := E2
  have y := nx h2 (LI_m (Nat.le_add_right _ _) l2)
  refine xpk_sound (stops := [1540]) (n := 90) ?_
  simp only [sk_0, sk_1, sk_2, sk_3, sk_4, sk_5, sk_6, sk_7, sk_8, sk_iadd, sk_isub, sk_imul, sk_iand, sk_ior, sk_ixor, sk_ishl, sk_ishr, sk_iushr, sk_idiv, sk_irem, sk_ineg, sk_ladd, sk_lsub, sk_lmul, sk_land, sk_lor, sk_ldiv, sk_lrem, sk_lneg, sk_lshl, sk_lshr, sk_i2l, sk_l2i, sk_lcmp, sk_dupI, sk_dupR, sk_dup2L, sk_dup2I, sk_popI, sk_ifeq, sk_ifne, sk_iflt, sk_ifge, sk_ifgt, sk_ifle, sk_iceq, sk_icne, sk_iclt, sk_icge, sk_icgt, sk_icle, sk_goto, sk_getf, sk_putf, sk_gets, sk_iald, sk_lald, sk_bald, sk_aald, sk_iast, sk_last, sk_bast, sk_aast, sk_alen, sk_newa, sk_newt, sk_new, sk_cs1, sk_cs2, sk_cs3, sk_cs4, sk_cs5, sk_cs6, sk_cv1, sk_cv2, sk_cv3, sk_cv4, sk_cv5, sk_cv6, sk_ci1, sk_ci2, sk_ci3, sk_ret0, sk_retI, sk_retL, sk_retR, sk_sw, sk_oin, sk_max, sk_min, sk_abs, lI_0, lI_s, lL_0, lL_s, lR_0, lR_s, vIo_e, vLo_e, vOo_e, stW_I, stW_L, stW_R, stW_0, stW_z, okSt_0, okSt_s, hV_eq, hK_eq, okF_0, okF_1, okF_3, is01_0, is01_1, is01_i, Int.toNat_natCast, Int.reduceEq, Int.reduceLE, Int.reduceLT, Int.reduceNeg, Nat.reduceLT, not_true_eq_false, not_false_eq_true, reduceIte, Option.toList, List.cons_append, List.nil_append, List.set_cons_zero, List.set_cons_succ, List.not_mem_nil, List.mem_cons, if_false, if_true, ite_true, ite_false, and_self, and_true, true_and, Nat.reduceAdd, Nat.reduceLeDiff, Nat.reduceEqDiff, Nat.zero_add, Nat.le_refl, Nat.zero_le, or_false, false_or, Int.reduceToNat, or_true, true_or, eq_self, and_false, false_and, inR_d, nc_4, nc_5, nc_6, nc_7, nc_8, nc_16, nc_18, nc_20, nc_24, nc_32, nc_40, nc_64, nc_104, nc_120, nc_160, nc_256, nc_300, nc_330, nc_390, nc_1200, nc_1260, nc_3012, nc_9834, okSt_1i, okSt_1r, okSt_1n, List.length_cons, List.length_nil, sk_55, xpk_succ cd_321_989, xpk_succ cd_321_990, xpk_succ cd_321_993, xpk_succ cd_321_994, xpk_succ cd_321_995, xpk_succ cd_321_998, xpk_succ cd_321_999, k0, ks, E1, m1, ms, E2]
  exact y
set_option maxHeartbeats 2000000 in
theorem lcs_27 {β L k : Nat} {xs : Nat → Int} {h : AH} {Q : Option AV → AH → Prop} (hx : ∀ i, -2147483648 ≤ xs i ∧ xs i ≤ 2147483647) (hk : 6 * k + 6 ≤ L) (hl : L ≤ 3072) (hb : β + 24 ≤ 20000) (hL : LI β L xs h) (nx : ∀ h', LI (β + 24) L xs h' → XP 1000 321 1540 [some (vR 1000100), some (vR 0), some (vR 76), some (vI ((6 * k : Nat) : Int))] [] h' Q) : XP 1000 321 1002 [some (vR 1000100), some (vR 0), some (vR 76), some (vI ((6 * k : Nat) : Int))] [] h Q := by
  obtain ⟨a1, b1⟩ := lw_j (j := 1) hk hl (by decide)
  have a1 : w32 (((6 * k : Nat) : Int) + 1) = ((6 * k + 1 : Nat) : Int) := a1
  obtain ⟨a2, b2⟩ := lw_j (j := 2) hk hl (by decide)
  have a2 : w32 (((6 * k : Nat) : Int) + 2) = ((6 * k + 2 : Nat) : Int) := a2
  obtain ⟨k0, k1, ks, vs⟩ := LI_s hL
  have v1 := vs (6 * k + 1)
  have v2 := vs (6 * k + 2)
  obtain ⟨rE1, h1, ⟨vE1, rfl, yE1, rfl, -⟩, l1, E1⟩ := LI_k (okM152 (β := β)) (by decide +kernel) (by decide +kernel) (vs := [vR 0, vI (xs (6 * k + 1)), vI (xs (6 * k + 2))]) ⟨_, _, rfl, rfl, _, _, rfl, ⟨_, rfl, hx _⟩, _, _, rfl, ⟨_, rfl, hx _⟩, rfl⟩ hL
  have E1 : ∀ Q : Option AV → AH → Prop, XC 1000 152 [vR 0, vI (xs (6 * k + 1)), vI (xs (6 * k + 2))] h Q = Q (some (vI yE1)) h1 := E1
  obtain ⟨m0, m1, ms, ws⟩ := LI_s l1
  have w1 := ws (6 * k + 1)
  have w2 := ws (6 * k + 2)
  obtain ⟨rE2, h2, ⟨vE2, rfl, yE2, rfl, -⟩, l2, E2⟩ := LI_k (okM299 (β := β)) (by decide +kernel) (by decide +kernel) (vs := [vR 76, vI (xs (6 * k + 1)), vI (xs (6 * k + 2))]) ⟨_, _, rfl, rfl, _, _, rfl, ⟨_, rfl, hx _⟩, _, _, rfl, ⟨_, rfl, hx _⟩, rfl⟩ l1
  have E2 : ∀ Q : Option AV → AH → Prop, XC 1000 299 [vR 76, vI (xs (6 * k + 1)), vI (xs (6 * k + 2))] h1 Q = Q (some (vI yE2)) h2 := E2
  have y := nx h2 (LI_m (Nat.le_add_right _ _) l2)
  refine xpk_sound (stops := [1540]) (n := 90) ?_
  simp only [sk_0, sk_1, sk_2, sk_3, sk_4, sk_5, sk_6, sk_7, sk_8, sk_iadd, sk_isub, sk_imul, sk_iand, sk_ior, sk_ixor, sk_ishl, sk_ishr, sk_iushr, sk_idiv, sk_irem, sk_ineg, sk_ladd, sk_lsub, sk_lmul, sk_land, sk_lor, sk_ldiv, sk_lrem, sk_lneg, sk_lshl, sk_lshr, sk_i2l, sk_l2i, sk_lcmp, sk_dupI, sk_dupR, sk_dup2L, sk_dup2I, sk_popI, sk_ifeq, sk_ifne, sk_iflt, sk_ifge, sk_ifgt, sk_ifle, sk_iceq, sk_icne, sk_iclt, sk_icge, sk_icgt, sk_icle, sk_goto, sk_getf, sk_putf, sk_gets, sk_iald, sk_lald, sk_bald, sk_aald, sk_iast, sk_last, sk_bast, sk_aast, sk_alen, sk_newa, sk_newt, sk_new, sk_cs1, sk_cs2, sk_cs3, sk_cs4, sk_cs5, sk_cs6, sk_cv1, sk_cv2, sk_cv3, sk_cv4, sk_cv5, sk_cv6, sk_ci1, sk_ci2, sk_ci3, sk_ret0, sk_retI, sk_retL, sk_retR, sk_sw, sk_oin, sk_max, sk_min, sk_abs, lI_0, lI_s, lL_0, lL_s, lR_0, lR_s, vIo_e, vLo_e, vOo_e, stW_I, stW_L, stW_R, stW_0, stW_z, okSt_0, okSt_s, hV_eq, hK_eq, okF_0, okF_1, okF_3, is01_0, is01_1, is01_i, Int.toNat_natCast, Int.reduceEq, Int.reduceLE, Int.reduceLT, Int.reduceNeg, Nat.reduceLT, not_true_eq_false, not_false_eq_true, reduceIte, Option.toList, List.cons_append, List.nil_append, List.set_cons_zero, List.set_cons_succ, List.not_mem_nil, List.mem_cons, if_false, if_true, ite_true, ite_false, and_self, and_true, true_and, Nat.reduceAdd, Nat.reduceLeDiff, Nat.reduceEqDiff, Nat.zero_add, Nat.le_refl, Nat.zero_le, or_false, false_or, Int.reduceToNat, or_true, true_or, eq_self, and_false, false_and, inR_d, nc_4, nc_5, nc_6, nc_7, nc_8, nc_16, nc_18, nc_20, nc_24, nc_32, nc_40, nc_64, nc_104, nc_120, nc_160, nc_256, nc_300, nc_330, nc_390, nc_1200, nc_1260, nc_3012, nc_9834, okSt_1i, okSt_1r, okSt_1n, List.length_cons, List.length_nil, sk_55, xpk_succ cd_321_1002, xpk_succ cd_321_1003, xpk_succ cd_321_1004, xpk_succ cd_321_1005, xpk_succ cd_321_1006, xpk_succ cd_321_1007, xpk_succ cd_321_1008, xpk_succ cd_321_1009, xpk_succ cd_321_1010, xpk_succ cd_321_1011, xpk_succ cd_321_1012, xpk_succ cd_321_1013, xpk_succ cd_321_1016, xpk_succ cd_321_1017, xpk_succ cd_321_1018, xpk_succ cd_321_1019, xpk_succ cd_321_1020, xpk_succ cd_321_1021, xpk_succ cd_321_1022, xpk_succ cd_321_1023, xpk_succ cd_321_1024, xpk_succ cd_321_1025, xpk_succ cd_321_1026, xpk_succ cd_321_1027, xpk_succ cd_321_1028, xpk_succ cd_321_1031, xpk_succ cd_321_1032, a1, b1, a2, b2, v1, v2, k0, ks, E1, m1, ms, E2, w1, w2]
  exact y
set_option maxHeartbeats 2000000 in
theorem lcs_28 {β L k : Nat} {xs : Nat → Int} {h : AH} {Q : Option AV → AH → Prop} (hx : ∀ i, -2147483648 ≤ xs i ∧ xs i ≤ 2147483647) (hk : 6 * k + 6 ≤ L) (hl : L ≤ 3072) (hb : β + 24 ≤ 20000) (hL : LI β L xs h) (nx : ∀ h', LI (β + 24) L xs h' → XP 1000 321 1540 [some (vR 1000100), some (vR 0), some (vR 76), some (vI ((6 * k : Nat) : Int))] [] h' Q) : XP 1000 321 1035 [some (vR 1000100), some (vR 0), some (vR 76), some (vI ((6 * k : Nat) : Int))] [] h Q := by
  obtain ⟨a1, b1⟩ := lw_j (j := 1) hk hl (by decide)
  have a1 : w32 (((6 * k : Nat) : Int) + 1) = ((6 * k + 1 : Nat) : Int) := a1
  obtain ⟨a2, b2⟩ := lw_j (j := 2) hk hl (by decide)
  have a2 : w32 (((6 * k : Nat) : Int) + 2) = ((6 * k + 2 : Nat) : Int) := a2
  obtain ⟨a3, b3⟩ := lw_j (j := 3) hk hl (by decide)
  have a3 : w32 (((6 * k : Nat) : Int) + 3) = ((6 * k + 3 : Nat) : Int) := a3
  obtain ⟨k0, k1, ks, vs⟩ := LI_s hL
  have v1 := vs (6 * k + 1)
  have v2 := vs (6 * k + 2)
  have v3 := vs (6 * k + 3)
  obtain ⟨rE1, h1, ⟨vE1, rfl, yE1, rfl, -⟩, l1, E1⟩ := LI_k (okM153 (β := β)) (by decide +kernel) (by decide +kernel) (vs := [vR 0, vI (xs (6 * k + 1)), vI (xs (6 * k + 2)), vI (xs (6 * k + 3))]) ⟨_, _, rfl, rfl, _, _, rfl, ⟨_, rfl, hx _⟩, _, _, rfl, ⟨_, rfl, hx _⟩, _, _, rfl, ⟨_, rfl, hx _⟩, rfl⟩ hL
  have E1 : ∀ Q : Option AV → AH → Prop, XC 1000 153 [vR 0, vI (xs (6 * k + 1)), vI (xs (6 * k + 2)), vI (xs (6 * k + 3))] h Q = Q (some (vI yE1)) h1 := E1
  obtain ⟨m0, m1, ms, ws⟩ := LI_s l1
  have w1 := ws (6 * k + 1)
  have w2 := ws (6 * k + 2)
  have w3 := ws (6 * k + 3)
  obtain ⟨rE2, h2, ⟨vE2, rfl, yE2, rfl, -⟩, l2, E2⟩ := LI_k (okM292 (β := β)) (by decide +kernel) (by decide +kernel) (vs := [vR 76, vI (xs (6 * k + 1)), vI (xs (6 * k + 2)), vI (xs (6 * k + 3))]) ⟨_, _, rfl, rfl, _, _, rfl, ⟨_, rfl, hx _⟩, _, _, rfl, ⟨_, rfl, hx _⟩, _, _, rfl, ⟨_, rfl, hx _⟩, rfl⟩ l1
  have E2 : ∀ Q : Option AV → AH → Prop, XC 1000 292 [vR 76, vI (xs (6 * k + 1)), vI (xs (6 * k + 2)), vI (xs (6 * k + 3))] h1 Q = Q (some (vI yE2)) h2 := E2
  have y := nx h2 (LI_m (Nat.le_add_right _ _) l2)
  refine xpk_sound (stops := [1540]) (n := 90) ?_
  simp only [sk_0, sk_1, sk_2, sk_3, sk_4, sk_5, sk_6, sk_7, sk_8, sk_iadd, sk_isub, sk_imul, sk_iand, sk_ior, sk_ixor, sk_ishl, sk_ishr, sk_iushr, sk_idiv, sk_irem, sk_ineg, sk_ladd, sk_lsub, sk_lmul, sk_land, sk_lor, sk_ldiv, sk_lrem, sk_lneg, sk_lshl, sk_lshr, sk_i2l, sk_l2i, sk_lcmp, sk_dupI, sk_dupR, sk_dup2L, sk_dup2I, sk_popI, sk_ifeq, sk_ifne, sk_iflt, sk_ifge, sk_ifgt, sk_ifle, sk_iceq, sk_icne, sk_iclt, sk_icge, sk_icgt, sk_icle, sk_goto, sk_getf, sk_putf, sk_gets, sk_iald, sk_lald, sk_bald, sk_aald, sk_iast, sk_last, sk_bast, sk_aast, sk_alen, sk_newa, sk_newt, sk_new, sk_cs1, sk_cs2, sk_cs3, sk_cs4, sk_cs5, sk_cs6, sk_cv1, sk_cv2, sk_cv3, sk_cv4, sk_cv5, sk_cv6, sk_ci1, sk_ci2, sk_ci3, sk_ret0, sk_retI, sk_retL, sk_retR, sk_sw, sk_oin, sk_max, sk_min, sk_abs, lI_0, lI_s, lL_0, lL_s, lR_0, lR_s, vIo_e, vLo_e, vOo_e, stW_I, stW_L, stW_R, stW_0, stW_z, okSt_0, okSt_s, hV_eq, hK_eq, okF_0, okF_1, okF_3, is01_0, is01_1, is01_i, Int.toNat_natCast, Int.reduceEq, Int.reduceLE, Int.reduceLT, Int.reduceNeg, Nat.reduceLT, not_true_eq_false, not_false_eq_true, reduceIte, Option.toList, List.cons_append, List.nil_append, List.set_cons_zero, List.set_cons_succ, List.not_mem_nil, List.mem_cons, if_false, if_true, ite_true, ite_false, and_self, and_true, true_and, Nat.reduceAdd, Nat.reduceLeDiff, Nat.reduceEqDiff, Nat.zero_add, Nat.le_refl, Nat.zero_le, or_false, false_or, Int.reduceToNat, or_true, true_or, eq_self, and_false, false_and, inR_d, nc_4, nc_5, nc_6, nc_7, nc_8, nc_16, nc_18, nc_20, nc_24, nc_32, nc_40, nc_64, nc_104, nc_120, nc_160, nc_256, nc_300, nc_330, nc_390, nc_1200, nc_1260, nc_3012, nc_9834, okSt_1i, okSt_1r, okSt_1n, List.length_cons, List.length_nil, sk_55, xpk_succ cd_321_1035, xpk_succ cd_321_1036, xpk_succ cd_321_1037, xpk_succ cd_321_1038, xpk_succ cd_321_1039, xpk_succ cd_321_1040, xpk_succ cd_321_1041, xpk_succ cd_321_1042, xpk_succ cd_321_1043, xpk_succ cd_321_1044, xpk_succ cd_321_1045, xpk_succ cd_321_1046, xpk_succ cd_321_1047, xpk_succ cd_321_1048, xpk_succ cd_321_1049, xpk_succ cd_321_1050, xpk_succ cd_321_1051, xpk_succ cd_321_1054, xpk_succ cd_321_1055, xpk_succ cd_321_1056, xpk_succ cd_321_1057, xpk_succ cd_321_1058, xpk_succ cd_321_1059, xpk_succ cd_321_1060, xpk_succ cd_321_1061, xpk_succ cd_321_1062, xpk_succ cd_321_1063, xpk_succ cd_321_1064, xpk_succ cd_321_1065, xpk_succ cd_321_1066, xpk_succ cd_321_1067, xpk_succ cd_321_1068, xpk_succ cd_321_1069, xpk_succ cd_321_1070, xpk_succ cd_321_1071, xpk_succ cd_321_1074, xpk_succ cd_321_1075, a1, b1, a2, b2, a3, b3, v1, v2, v3, k0, ks, E1, m1, ms, E2, w1, w2, w3]
  exact y
set_option maxHeartbeats 2000000 in
theorem lcs_29 {β L k : Nat} {xs : Nat → Int} {h : AH} {Q : Option AV → AH → Prop} (hx : ∀ i, -2147483648 ≤ xs i ∧ xs i ≤ 2147483647) (hk : 6 * k + 6 ≤ L) (hl : L ≤ 3072) (hb : β + 24 ≤ 20000) (hL : LI β L xs h) (nx : ∀ h', LI (β + 24) L xs h' → XP 1000 321 1540 [some (vR 1000100), some (vR 0), some (vR 76), some (vI ((6 * k : Nat) : Int))] [] h' Q) : XP 1000 321 1078 [some (vR 1000100), some (vR 0), some (vR 76), some (vI ((6 * k : Nat) : Int))] [] h Q := by
  obtain ⟨k0, k1, ks, vs⟩ := LI_s hL
  obtain ⟨rE1, h1, ⟨vE1, rfl, yE1, rfl, -⟩, l1, E1⟩ := LI_k (okM155 (β := β)) (by decide +kernel) (by decide +kernel) (vs := [vR 0]) ⟨_, _, rfl, rfl, rfl⟩ hL
  have E1 : ∀ Q : Option AV → AH → Prop, XC 1000 155 [vR 0] h Q = Q (some (vI yE1)) h1 := E1
  obtain ⟨m0, m1, ms, ws⟩ := LI_s l1
  obtain ⟨rE2, h2, ⟨vE2, rfl, yE2, rfl, -⟩, l2, E2⟩ := LI_k (okM294 (β := β)) (by decide +kernel) (by decide +kernel) (vs := [vR 76]) ⟨_, _, rfl, rfl, rfl⟩ l1
  have E2 : ∀ Q : Option AV → AH → Prop, XC 1000 294 [vR 76] h1 Q = Q (some (vI yE2)) h2 := E2
  have y := nx h2 (LI_m (Nat.le_add_right _ _) l2)
  refine xpk_sound (stops := [1540]) (n := 90) ?_
  simp only [sk_0, sk_1, sk_2, sk_3, sk_4, sk_5, sk_6, sk_7, sk_8, sk_iadd, sk_isub, sk_imul, sk_iand, sk_ior, sk_ixor, sk_ishl, sk_ishr, sk_iushr, sk_idiv, sk_irem, sk_ineg, sk_ladd, sk_lsub, sk_lmul, sk_land, sk_lor, sk_ldiv, sk_lrem, sk_lneg, sk_lshl, sk_lshr, sk_i2l, sk_l2i, sk_lcmp, sk_dupI, sk_dupR, sk_dup2L, sk_dup2I, sk_popI, sk_ifeq, sk_ifne, sk_iflt, sk_ifge, sk_ifgt, sk_ifle, sk_iceq, sk_icne, sk_iclt, sk_icge, sk_icgt, sk_icle, sk_goto, sk_getf, sk_putf, sk_gets, sk_iald, sk_lald, sk_bald, sk_aald, sk_iast, sk_last, sk_bast, sk_aast, sk_alen, sk_newa, sk_newt, sk_new, sk_cs1, sk_cs2, sk_cs3, sk_cs4, sk_cs5, sk_cs6, sk_cv1, sk_cv2, sk_cv3, sk_cv4, sk_cv5, sk_cv6, sk_ci1, sk_ci2, sk_ci3, sk_ret0, sk_retI, sk_retL, sk_retR, sk_sw, sk_oin, sk_max, sk_min, sk_abs, lI_0, lI_s, lL_0, lL_s, lR_0, lR_s, vIo_e, vLo_e, vOo_e, stW_I, stW_L, stW_R, stW_0, stW_z, okSt_0, okSt_s, hV_eq, hK_eq, okF_0, okF_1, okF_3, is01_0, is01_1, is01_i, Int.toNat_natCast, Int.reduceEq, Int.reduceLE, Int.reduceLT, Int.reduceNeg, Nat.reduceLT, not_true_eq_false, not_false_eq_true, reduceIte, Option.toList, List.cons_append, List.nil_append, List.set_cons_zero, List.set_cons_succ, List.not_mem_nil, List.mem_cons, if_false, if_true, ite_true, ite_false, and_self, and_true, true_and, Nat.reduceAdd, Nat.reduceLeDiff, Nat.reduceEqDiff, Nat.zero_add, Nat.le_refl, Nat.zero_le, or_false, false_or, Int.reduceToNat, or_true, true_or, eq_self, and_false, false_and, inR_d, nc_4, nc_5, nc_6, nc_7, nc_8, nc_16, nc_18, nc_20, nc_24, nc_32, nc_40, nc_64, nc_104, nc_120, nc_160, nc_256, nc_300, nc_330, nc_390, nc_1200, nc_1260, nc_3012, nc_9834, okSt_1i, okSt_1r, okSt_1n, List.length_cons, List.length_nil, sk_55, xpk_succ cd_321_1078, xpk_succ cd_321_1079, xpk_succ cd_321_1082, xpk_succ cd_321_1083, xpk_succ cd_321_1084, xpk_succ cd_321_1087, xpk_succ cd_321_1088, k0, ks, E1, m1, ms, E2]
  exact y
set_option maxHeartbeats 2000000 in
theorem lcs_30 {β L k : Nat} {xs : Nat → Int} {h : AH} {Q : Option AV → AH → Prop} (hx : ∀ i, -2147483648 ≤ xs i ∧ xs i ≤ 2147483647) (hk : 6 * k + 6 ≤ L) (hl : L ≤ 3072) (hb : β + 24 ≤ 20000) (hL : LI β L xs h) (nx : ∀ h', LI (β + 24) L xs h' → XP 1000 321 1540 [some (vR 1000100), some (vR 0), some (vR 76), some (vI ((6 * k : Nat) : Int))] [] h' Q) : XP 1000 321 1091 [some (vR 1000100), some (vR 0), some (vR 76), some (vI ((6 * k : Nat) : Int))] [] h Q := by
  obtain ⟨k0, k1, ks, vs⟩ := LI_s hL
  obtain ⟨rE1, h1, ⟨vE1, rfl, yE1, rfl, -⟩, l1, E1⟩ := LI_k (okM156 (β := β)) (by decide +kernel) (by decide +kernel) (vs := [vR 0]) ⟨_, _, rfl, rfl, rfl⟩ hL
  have E1 : ∀ Q : Option AV → AH → Prop, XC 1000 156 [vR 0] h Q = Q (some (vI yE1)) h1 := E1
  obtain ⟨m0, m1, ms, ws⟩ := LI_s l1
  obtain ⟨rE2, h2, ⟨vE2, rfl, yE2, rfl, -⟩, l2, E2⟩ := LI_k (okM295 (β := β)) (by decide +kernel) (by decide +kernel) (vs := [vR 76]) ⟨_, _, rfl, rfl, rfl⟩ l1
  have E2 : ∀ Q : Option AV → AH → Prop, XC 1000 295 [vR 76] h1 Q = Q (some (vI yE2)) h2 := E2
  have y := nx h2 (LI_m (Nat.le_add_right _ _) l2)
  refine xpk_sound (stops := [1540]) (n := 90) ?_
  simp only [sk_0, sk_1, sk_2, sk_3, sk_4, sk_5, sk_6, sk_7, sk_8, sk_iadd, sk_isub, sk_imul, sk_iand, sk_ior, sk_ixor, sk_ishl, sk_ishr, sk_iushr, sk_idiv, sk_irem, sk_ineg, sk_ladd, sk_lsub, sk_lmul, sk_land, sk_lor, sk_ldiv, sk_lrem, sk_lneg, sk_lshl, sk_lshr, sk_i2l, sk_l2i, sk_lcmp, sk_dupI, sk_dupR, sk_dup2L, sk_dup2I, sk_popI, sk_ifeq, sk_ifne, sk_iflt, sk_ifge, sk_ifgt, sk_ifle, sk_iceq, sk_icne, sk_iclt, sk_icge, sk_icgt, sk_icle, sk_goto, sk_getf, sk_putf, sk_gets, sk_iald, sk_lald, sk_bald, sk_aald, sk_iast, sk_last, sk_bast, sk_aast, sk_alen, sk_newa, sk_newt, sk_new, sk_cs1, sk_cs2, sk_cs3, sk_cs4, sk_cs5, sk_cs6, sk_cv1, sk_cv2, sk_cv3, sk_cv4, sk_cv5, sk_cv6, sk_ci1, sk_ci2, sk_ci3, sk_ret0, sk_retI, sk_retL, sk_retR, sk_sw, sk_oin, sk_max, sk_min, sk_abs, lI_0, lI_s, lL_0, lL_s, lR_0, lR_s, vIo_e, vLo_e, vOo_e, stW_I, stW_L, stW_R, stW_0, stW_z, okSt_0, okSt_s, hV_eq, hK_eq, okF_0, okF_1, okF_3, is01_0, is01_1, is01_i, Int.toNat_natCast, Int.reduceEq, Int.reduceLE, Int.reduceLT, Int.reduceNeg, Nat.reduceLT, not_true_eq_false, not_false_eq_true, reduceIte, Option.toList, List.cons_append, List.nil_append, List.set_cons_zero, List.set_cons_succ, List.not_mem_nil, List.mem_cons, if_false, if_true, ite_true, ite_false, and_self, and_true, true_and, Nat.reduceAdd, Nat.reduceLeDiff, Nat.reduceEqDiff, Nat.zero_add, Nat.le_refl, Nat.zero_le, or_false, false_or, Int.reduceToNat, or_true, true_or, eq_self, and_false, false_and, inR_d, nc_4, nc_5, nc_6, nc_7, nc_8, nc_16, nc_18, nc_20, nc_24, nc_32, nc_40, nc_64, nc_104, nc_120, nc_160, nc_256, nc_300, nc_330, nc_390, nc_1200, nc_1260, nc_3012, nc_9834, okSt_1i, okSt_1r, okSt_1n, List.length_cons, List.length_nil, sk_55, xpk_succ cd_321_1091, xpk_succ cd_321_1092, xpk_succ cd_321_1095, xpk_succ cd_321_1096, xpk_succ cd_321_1097, xpk_succ cd_321_1100, xpk_succ cd_321_1101, k0, ks, E1, m1, ms, E2]
  exact y
set_option maxHeartbeats 2000000 in
theorem lcs_31 {β L k : Nat} {xs : Nat → Int} {h : AH} {Q : Option AV → AH → Prop} (hx : ∀ i, -2147483648 ≤ xs i ∧ xs i ≤ 2147483647) (hk : 6 * k + 6 ≤ L) (hl : L ≤ 3072) (hb : β + 24 ≤ 20000) (hL : LI β L xs h) (nx : ∀ h', LI (β + 24) L xs h' → XP 1000 321 1540 [some (vR 1000100), some (vR 0), some (vR 76), some (vI ((6 * k : Nat) : Int))] [] h' Q) : XP 1000 321 1104 [some (vR 1000100), some (vR 0), some (vR 76), some (vI ((6 * k : Nat) : Int))] [] h Q := by
  obtain ⟨a1, b1⟩ := lw_j (j := 1) hk hl (by decide)
  have a1 : w32 (((6 * k : Nat) : Int) + 1) = ((6 * k + 1 : Nat) : Int) := a1
  obtain ⟨a2, b2⟩ := lw_j (j := 2) hk hl (by decide)
  have a2 : w32 (((6 * k : Nat) : Int) + 2) = ((6 * k + 2 : Nat) : Int) := a2
  obtain ⟨a3, b3⟩ := lw_j (j := 3) hk hl (by decide)
  have a3 : w32 (((6 * k : Nat) : Int) + 3) = ((6 * k + 3 : Nat) : Int) := a3
  obtain ⟨a4, b4⟩ := lw_j (j := 4) hk hl (by decide)
  have a4 : w32 (((6 * k : Nat) : Int) + 4) = ((6 * k + 4 : Nat) : Int) := a4
  obtain ⟨k0, k1, ks, vs⟩ := LI_s hL
  have v1 := vs (6 * k + 1)
  have v2 := vs (6 * k + 2)
  have v3 := vs (6 * k + 3)
  have v4 := vs (6 * k + 4)
  obtain ⟨rE1, h1, ⟨vE1, rfl, yE1, rfl, -⟩, l1, E1⟩ := LI_k (okM157 (β := β)) (by decide +kernel) (by decide +kernel) (vs := [vR 0, vI (xs (6 * k + 1)), vI (xs (6 * k + 2)), vI (xs (6 * k + 3)), vI (xs (6 * k + 4))]) ⟨_, _, rfl, rfl, _, _, rfl, ⟨_, rfl, hx _⟩, _, _, rfl, ⟨_, rfl, hx _⟩, _, _, rfl, ⟨_, rfl, hx _⟩, _, _, rfl, ⟨_, rfl, hx _⟩, rfl⟩ hL
  have E1 : ∀ Q : Option AV → AH → Prop, XC 1000 157 [vR 0, vI (xs (6 * k + 1)), vI (xs (6 * k + 2)), vI (xs (6 * k + 3)), vI (xs (6 * k + 4))] h Q = Q (some (vI yE1)) h1 := E1
  obtain ⟨m0, m1, ms, ws⟩ := LI_s l1
  have w1 := ws (6 * k + 1)
  have w2 := ws (6 * k + 2)
  have w3 := ws (6 * k + 3)
  have w4 := ws (6 * k + 4)
  obtain ⟨rE2, h2, ⟨vE2, rfl, yE2, rfl, -⟩, l2, E2⟩ := LI_k (okM296 (β := β)) (by decide +kernel) (by decide +kernel) (vs := [vR 76, vI (xs (6 * k + 1)), vI (xs (6 * k + 2)), vI (xs (6 * k + 3)), vI (xs (6 * k + 4))]) ⟨_, _, rfl, rfl, _, _, rfl, ⟨_, rfl, hx _⟩, _, _, rfl, ⟨_, rfl, hx _⟩, _, _, rfl, ⟨_, rfl, hx _⟩, _, _, rfl, ⟨_, rfl, hx _⟩, rfl⟩ l1
  have E2 : ∀ Q : Option AV → AH → Prop, XC 1000 296 [vR 76, vI (xs (6 * k + 1)), vI (xs (6 * k + 2)), vI (xs (6 * k + 3)), vI (xs (6 * k + 4))] h1 Q = Q (some (vI yE2)) h2 := E2
  have y := nx h2 (LI_m (Nat.le_add_right _ _) l2)
  refine xpk_sound (stops := [1540]) (n := 90) ?_
  simp only [sk_0, sk_1, sk_2, sk_3, sk_4, sk_5, sk_6, sk_7, sk_8, sk_iadd, sk_isub, sk_imul, sk_iand, sk_ior, sk_ixor, sk_ishl, sk_ishr, sk_iushr, sk_idiv, sk_irem, sk_ineg, sk_ladd, sk_lsub, sk_lmul, sk_land, sk_lor, sk_ldiv, sk_lrem, sk_lneg, sk_lshl, sk_lshr, sk_i2l, sk_l2i, sk_lcmp, sk_dupI, sk_dupR, sk_dup2L, sk_dup2I, sk_popI, sk_ifeq, sk_ifne, sk_iflt, sk_ifge, sk_ifgt, sk_ifle, sk_iceq, sk_icne, sk_iclt, sk_icge, sk_icgt, sk_icle, sk_goto, sk_getf, sk_putf, sk_gets, sk_iald, sk_lald, sk_bald, sk_aald, sk_iast, sk_last, sk_bast, sk_aast, sk_alen, sk_newa, sk_newt, sk_new, sk_cs1, sk_cs2, sk_cs3, sk_cs4, sk_cs5, sk_cs6, sk_cv1, sk_cv2, sk_cv3, sk_cv4, sk_cv5, sk_cv6, sk_ci1, sk_ci2, sk_ci3, sk_ret0, sk_retI, sk_retL, sk_retR, sk_sw, sk_oin, sk_max, sk_min, sk_abs, lI_0, lI_s, lL_0, lL_s, lR_0, lR_s, vIo_e, vLo_e, vOo_e, stW_I, stW_L, stW_R, stW_0, stW_z, okSt_0, okSt_s, hV_eq, hK_eq, okF_0, okF_1, okF_3, is01_0, is01_1, is01_i, Int.toNat_natCast, Int.reduceEq, Int.reduceLE, Int.reduceLT, Int.reduceNeg, Nat.reduceLT, not_true_eq_false, not_false_eq_true, reduceIte, Option.toList, List.cons_append, List.nil_append, List.set_cons_zero, List.set_cons_succ, List.not_mem_nil, List.mem_cons, if_false, if_true, ite_true, ite_false, and_self, and_true, true_and, Nat.reduceAdd, Nat.reduceLeDiff, Nat.reduceEqDiff, Nat.zero_add, Nat.le_refl, Nat.zero_le, or_false, false_or, Int.reduceToNat, or_true, true_or, eq_self, and_false, false_and, inR_d, nc_4, nc_5, nc_6, nc_7, nc_8, nc_16, nc_18, nc_20, nc_24, nc_32, nc_40, nc_64, nc_104, nc_120, nc_160, nc_256, nc_300, nc_330, nc_390, nc_1200, nc_1260, nc_3012, nc_9834, okSt_1i, okSt_1r, okSt_1n, List.length_cons, List.length_nil, sk_55, xpk_succ cd_321_1104, xpk_succ cd_321_1105, xpk_succ cd_321_1106, xpk_succ cd_321_1107, xpk_succ cd_321_1108, xpk_succ cd_321_1109, xpk_succ cd_321_1110, xpk_succ cd_321_1111, xpk_succ cd_321_1112, xpk_succ cd_321_1113, xpk_succ cd_321_1114, xpk_succ cd_321_1115, xpk_succ cd_321_1116, xpk_succ cd_321_1117, xpk_succ cd_321_1118, xpk_succ cd_321_1119, xpk_succ cd_321_1120, xpk_succ cd_321_1121, xpk_succ cd_321_1122, xpk_succ cd_321_1123, xpk_succ cd_321_1124, xpk_succ cd_321_1125, xpk_succ cd_321_1128, xpk_succ cd_321_1129, xpk_succ cd_321_1130, xpk_succ cd_321_1131, xpk_succ cd_321_1132, xpk_succ cd_321_1133, xpk_succ cd_321_1134, xpk_succ cd_321_1135, xpk_succ cd_321_1136, xpk_succ cd_321_1137, xpk_succ cd_321_1138, xpk_succ cd_321_1139, xpk_succ cd_321_1140, xpk_succ cd_321_1141, xpk_succ cd_321_1142, xpk_succ cd_321_1143, xpk_succ cd_321_1144, xpk_succ cd_321_1145, xpk_succ cd_321_1146, xpk_succ cd_321_1147, xpk_succ cd_321_1148, xpk_succ cd_321_1149, xpk_succ cd_321_1150, xpk_succ cd_321_1153, xpk_succ cd_321_1154, a1, b1, a2, b2, a3, b3, a4, b4, v1, v2, v3, v4, k0, ks, E1, m1, ms, E2, w1, w2, w3, w4]
  exact y
set_option maxHeartbeats 2000000 in
theorem lcs_32 {β L k : Nat} {xs : Nat → Int} {h : AH} {Q : Option AV → AH → Prop} (hx : ∀ i, -2147483648 ≤ xs i ∧ xs i ≤ 2147483647) (hk : 6 * k + 6 ≤ L) (hl : L ≤ 3072) (hb : β + 24 ≤ 20000) (hL : LI β L xs h) (nx : ∀ h', LI (β + 24) L xs h' → XP 1000 321 1540 [some (vR 1000100), some (vR 0), some (vR 76), some (vI ((6 * k : Nat) : Int))] [] h' Q) : XP 1000 321 1157 [some (vR 1000100), some (vR 0), some (vR 76), some (vI ((6 * k : Nat) : Int))] [] h Q := by
  obtain ⟨a1, b1⟩ := lw_j (j := 1) hk hl (by decide)
  have a1 : w32 (((6 * k : Nat) : Int) + 1) = ((6 * k + 1 : Nat) : Int) := a1
  obtain ⟨a2, b2⟩ := lw_j (j := 2) hk hl (by decide)
  have a2 : w32 (((6 * k : Nat) : Int) + 2) = ((6 * k + 2 : Nat) : Int) := a2
  obtain ⟨k0, k1, ks, vs⟩ := LI_s hL
  have v1 := vs (6 * k + 1)
  have v2 := vs (6 * k + 2)
  by_cases zz : xs (6 * k + 2) = 0
  · obtain ⟨rE1, h1, ⟨vE1, rfl, yE1, rfl, -⟩, l1, E1⟩ := LI_k (okM158 (β := β)) (by decide +kernel) (by decide +kernel) (vs := [vR 0, vI (xs (6 * k + 1)), vI 0]) ⟨_, _, rfl, rfl, _, _, rfl, ⟨_, rfl, hx _⟩, _, _, rfl, ⟨0, rfl, by decide, by decide⟩, rfl⟩ hL
    have E1 : ∀ Q : Option AV → AH → Prop, XC 1000 158 [vR 0, vI (xs (6 * k + 1)), vI 0] h Q = Q (some (vI yE1)) h1 := E1
    obtain ⟨m0, m1, ms, ws⟩ := LI_s l1
    have w1 := ws (6 * k + 1)
    have w2 := ws (6 * k + 2)
    obtain ⟨rE2, h2, ⟨vE2, rfl, yE2, rfl, -⟩, l2, E2⟩ := LI_k (okM298 (β := β)) (by decide +kernel) (by decide +kernel) (vs := [vR 76, vI (xs (6 * k + 1)), vI 0]) ⟨_, _, rfl, rfl, _, _, rfl, ⟨_, rfl, hx _⟩, _, _, rfl, ⟨0, rfl, by decide, by decide⟩, rfl⟩ l1
    have E2 : ∀ Q : Option AV → AH → Prop, XC 1000 298 [vR 76, vI (xs (6 * k + 1)), vI 0] h1 Q = Q (some (vI yE2)) h2 := E2
    have y := nx h2 (LI_m (Nat.le_add_right _ _) l2)
    refine xpk_sound (stops := [1540]) (n := 90) ?_
    simp only [sk_0, sk_1, sk_2, sk_3, sk_4, sk_5, sk_6, sk_7, sk_8, sk_iadd, sk_isub, sk_imul, sk_iand, sk_ior, sk_ixor, sk_ishl, sk_ishr, sk_iushr, sk_idiv, sk_irem, sk_ineg, sk_ladd, sk_lsub, sk_lmul, sk_land, sk_lor, sk_ldiv, sk_lrem, sk_lneg, sk_lshl, sk_lshr, sk_i2l, sk_l2i, sk_lcmp, sk_dupI, sk_dupR, sk_dup2L, sk_dup2I, sk_popI, sk_ifeq, sk_ifne, sk_iflt, sk_ifge, sk_ifgt, sk_ifle, sk_iceq, sk_icne, sk_iclt, sk_icge, sk_icgt, sk_icle, sk_goto, sk_getf, sk_putf, sk_gets, sk_iald, sk_lald, sk_bald, sk_aald, sk_iast, sk_last, sk_bast, sk_aast, sk_alen, sk_newa, sk_newt, sk_new, sk_cs1, sk_cs2, sk_cs3, sk_cs4, sk_cs5, sk_cs6, sk_cv1, sk_cv2, sk_cv3, sk_cv4, sk_cv5, sk_cv6, sk_ci1, sk_ci2, sk_ci3, sk_ret0, sk_retI, sk_retL, sk_retR, sk_sw, sk_oin, sk_max, sk_min, sk_abs, lI_0, lI_s, lL_0, lL_s, lR_0, lR_s, vIo_e, vLo_e, vOo_e, stW_I, stW_L, stW_R, stW_0, stW_z, okSt_0, okSt_s, hV_eq, hK_eq, okF_0, okF_1, okF_3, is01_0, is01_1, is01_i, Int.toNat_natCast, Int.reduceEq, Int.reduceLE, Int.reduceLT, Int.reduceNeg, Nat.reduceLT, not_true_eq_false, not_false_eq_true, reduceIte, Option.toList, List.cons_append, List.nil_append, List.set_cons_zero, List.set_cons_succ, List.not_mem_nil, List.mem_cons, if_false, if_true, ite_true, ite_false, and_self, and_true, true_and, Nat.reduceAdd, Nat.reduceLeDiff, Nat.reduceEqDiff, Nat.zero_add, Nat.le_refl, Nat.zero_le, or_false, false_or, Int.reduceToNat, or_true, true_or, eq_self, and_false, false_and, inR_d, nc_4, nc_5, nc_6, nc_7, nc_8, nc_16, nc_18, nc_20, nc_24, nc_32, nc_40, nc_64, nc_104, nc_120, nc_160, nc_256, nc_300, nc_330, nc_390, nc_1200, nc_1260, nc_3012, nc_9834, okSt_1i, okSt_1r, okSt_1n, List.length_cons, List.length_nil, sk_55, xpk_succ cd_321_1157, xpk_succ cd_321_1158, xpk_succ cd_321_1159, xpk_succ cd_321_1160, xpk_succ cd_321_1161, xpk_succ cd_321_1162, xpk_succ cd_321_1163, xpk_succ cd_321_1164, xpk_succ cd_321_1165, xpk_succ cd_321_1166, xpk_succ cd_321_1167, xpk_succ cd_321_1168, xpk_succ cd_321_1171, xpk_succ cd_321_1172, xpk_succ cd_321_1175, xpk_succ cd_321_1176, xpk_succ cd_321_1179, xpk_succ cd_321_1180, xpk_succ cd_321_1181, xpk_succ cd_321_1182, xpk_succ cd_321_1183, xpk_succ cd_321_1184, xpk_succ cd_321_1185, xpk_succ cd_321_1186, xpk_succ cd_321_1187, xpk_succ cd_321_1188, xpk_succ cd_321_1189, xpk_succ cd_321_1190, xpk_succ cd_321_1191, xpk_succ cd_321_1194, xpk_succ cd_321_1195, xpk_succ cd_321_1198, xpk_succ cd_321_1199, xpk_succ cd_321_1202, xpk_succ cd_321_1203, a1, b1, a2, b2, v1, v2, k0, ks, E1, m1, ms, E2, w1, w2, zz]
    exact y
  · obtain ⟨rE1, h1, ⟨vE1, rfl, yE1, rfl, -⟩, l1, E1⟩ := LI_k (okM158 (β := β)) (by decide +kernel) (by decide +kernel) (vs := [vR 0, vI (xs (6 * k + 1)), vI 1]) ⟨_, _, rfl, rfl, _, _, rfl, ⟨_, rfl, hx _⟩, _, _, rfl, ⟨1, rfl, by decide, by decide⟩, rfl⟩ hL
    have E1 : ∀ Q : Option AV → AH → Prop, XC 1000 158 [vR 0, vI (xs (6 * k + 1)), vI 1] h Q = Q (some (vI yE1)) h1 := E1
    obtain ⟨m0, m1, ms, ws⟩ := LI_s l1
    have w1 := ws (6 * k + 1)
    have w2 := ws (6 * k + 2)
    obtain ⟨rE2, h2, ⟨vE2, rfl, yE2, rfl, -⟩, l2, E2⟩ := LI_k (okM298 (β := β)) (by decide +kernel) (by decide +kernel) (vs := [vR 76, vI (xs (6 * k + 1)), vI 1]) ⟨_, _, rfl, rfl, _, _, rfl, ⟨_, rfl, hx _⟩, _, _, rfl, ⟨1, rfl, by decide, by decide⟩, rfl⟩ l1
    have E2 : ∀ Q : Option AV → AH → Prop, XC 1000 298 [vR 76, vI (xs (6 * k + 1)), vI 1] h1 Q = Q (some (vI yE2)) h2 := E2
    have y := nx h2 (LI_m (Nat.le_add_right _ _) l2)
    refine xpk_sound (stops := [1540]) (n := 90) ?_
    simp only [sk_0, sk_1, sk_2, sk_3, sk_4, sk_5, sk_6, sk_7, sk_8, sk_iadd, sk_isub, sk_imul, sk_iand, sk_ior, sk_ixor, sk_ishl, sk_ishr, sk_iushr, sk_idiv, sk_irem, sk_ineg, sk_ladd, sk_lsub, sk_lmul, sk_land, sk_lor, sk_ldiv, sk_lrem, sk_lneg, sk_lshl, sk_lshr, sk_i2l, sk_l2i, sk_lcmp, sk_dupI, sk_dupR, sk_dup2L, sk_dup2I, sk_popI, sk_ifeq, sk_ifne, sk_iflt, sk_ifge, sk_ifgt, sk_ifle, sk_iceq, sk_icne, sk_iclt, sk_icge, sk_icgt, sk_icle, sk_goto, sk_getf, sk_putf, sk_gets, sk_iald, sk_lald, sk_bald, sk_aald, sk_iast, sk_last, sk_bast, sk_aast, sk_alen, sk_newa, sk_newt, sk_new, sk_cs1, sk_cs2, sk_cs3, sk_cs4, sk_cs5, sk_cs6, sk_cv1, sk_cv2, sk_cv3, sk_cv4, sk_cv5, sk_cv6, sk_ci1, sk_ci2, sk_ci3, sk_ret0, sk_retI, sk_retL, sk_retR, sk_sw, sk_oin, sk_max, sk_min, sk_abs, lI_0, lI_s, lL_0, lL_s, lR_0, lR_s, vIo_e, vLo_e, vOo_e, stW_I, stW_L, stW_R, stW_0, stW_z, okSt_0, okSt_s, hV_eq, hK_eq, okF_0, okF_1, okF_3, is01_0, is01_1, is01_i, Int.toNat_natCast, Int.reduceEq, Int.reduceLE, Int.reduceLT, Int.reduceNeg, Nat.reduceLT, not_true_eq_false, not_false_eq_true, reduceIte, Option.toList, List.cons_append, List.nil_append, List.set_cons_zero, List.set_cons_succ, List.not_mem_nil, List.mem_cons, if_false, if_true, ite_true, ite_false, and_self, and_true, true_and, Nat.reduceAdd, Nat.reduceLeDiff, Nat.reduceEqDiff, Nat.zero_add, Nat.le_refl, Nat.zero_le, or_false, false_or, Int.reduceToNat, or_true, true_or, eq_self, and_false, false_and, inR_d, nc_4, nc_5, nc_6, nc_7, nc_8, nc_16, nc_18, nc_20, nc_24, nc_32, nc_40, nc_64, nc_104, nc_120, nc_160, nc_256, nc_300, nc_330, nc_390, nc_1200, nc_1260, nc_3012, nc_9834, okSt_1i, okSt_1r, okSt_1n, List.length_cons, List.length_nil, sk_55, xpk_succ cd_321_1157, xpk_succ cd_321_1158, xpk_succ cd_321_1159, xpk_succ cd_321_1160, xpk_succ cd_321_1161, xpk_succ cd_321_1162, xpk_succ cd_321_1163, xpk_succ cd_321_1164, xpk_succ cd_321_1165, xpk_succ cd_321_1166, xpk_succ cd_321_1167, xpk_succ cd_321_1168, xpk_succ cd_321_1171, xpk_succ cd_321_1172, xpk_succ cd_321_1175, xpk_succ cd_321_1176, xpk_succ cd_321_1179, xpk_succ cd_321_1180, xpk_succ cd_321_1181, xpk_succ cd_321_1182, xpk_succ cd_321_1183, xpk_succ cd_321_1184, xpk_succ cd_321_1185, xpk_succ cd_321_1186, xpk_succ cd_321_1187, xpk_succ cd_321_1188, xpk_succ cd_321_1189, xpk_succ cd_321_1190, xpk_succ cd_321_1191, xpk_succ cd_321_1194, xpk_succ cd_321_1195, xpk_succ cd_321_1198, xpk_succ cd_321_1199, xpk_succ cd_321_1202, xpk_succ cd_321_1203, a1, b1, a2, b2, v1, v2, k0, ks, E1, m1, ms, E2, w1, w2, zz]
    exact y
set_option maxHeartbeats 2000000 in
theorem lcs_33 {β L k : Nat} {xs : Nat → Int} {h : AH} {Q : Option AV → AH → Prop} (hx : ∀ i, -2147483648 ≤ xs i ∧ xs i ≤ 2147483647) (hk : 6 * k + 6 ≤ L) (hl : L ≤ 3072) (hb : β + 24 ≤ 20000) (hL : LI β L xs h) (nx : ∀ h', LI (β + 24) L xs h' → XP 1000 321 1540 [some (vR 1000100), some (vR 0), some (vR 76), some (vI ((6 * k : Nat) : Int))] [] h' Q) : XP 1000 321 1206 [some (vR 1000100), some (vR 0), some (vR 76), some (vI ((6 * k : Nat) : Int))] [] h Q := by
  obtain ⟨a1, b1⟩ := lw_j (j := 1) hk hl (by decide)
  have a1 : w32 (((6 * k : Nat) : Int) + 1) = ((6 * k + 1 : Nat) : Int) := a1
  obtain ⟨k0, k1, ks, vs⟩ := LI_s hL
  have v1 := vs (6 * k + 1)
  obtain ⟨rE1, h1, ⟨vE1, rfl, yE1, rfl, -⟩, l1, E1⟩ := LI_k (okM159 (β := β)) (by decide +kernel) (by decide +kernel) (vs := [vR 0, vI (xs (6 * k + 1))]) ⟨_, _, rfl, rfl, _, _, rfl, ⟨_, rfl, hx _⟩, rfl⟩ hL
  have E1 : ∀ Q : Option AV → AH → Prop, XC 1000 159 [vR 0, vI (xs (6 * k + 1))] h Q = Q (some (vI yE1)) h1 := E1
  obtain ⟨m0, m1, ms, ws⟩ := LI_s l1
  have w1 := ws (6 * k + 1)
  obtain ⟨rE2, h2, ⟨vE2, rfl, yE2, rfl, -⟩, l2, E2⟩ := LI_k (okM300 (β := β)) (by decide +kernel) (by decide +kernel) (vs := [vR 76, vI (xs (6 * k + 1))]) ⟨_, _, rfl, rfl, _, _, rfl, ⟨_, rfl, hx _⟩, rfl⟩ l1
  have E2 : ∀ Q : Option AV → AH → Prop, XC 1000 300 [vR 76, vI (xs (6 * k + 1))] h1 Q = Q (some (vI yE2)) h2 := E2
  have y := nx h2 (LI_m (Nat.le_add_right _ _) l2)
  refine xpk_sound (stops := [1540]) (n := 90) ?_
  simp only [sk_0, sk_1, sk_2, sk_3, sk_4, sk_5, sk_6, sk_7, sk_8, sk_iadd, sk_isub, sk_imul, sk_iand, sk_ior, sk_ixor, sk_ishl, sk_ishr, sk_iushr, sk_idiv, sk_irem, sk_ineg, sk_ladd, sk_lsub, sk_lmul, sk_land, sk_lor, sk_ldiv, sk_lrem, sk_lneg, sk_lshl, sk_lshr, sk_i2l, sk_l2i, sk_lcmp, sk_dupI, sk_dupR, sk_dup2L, sk_dup2I, sk_popI, sk_ifeq, sk_ifne, sk_iflt, sk_ifge, sk_ifgt, sk_ifle, sk_iceq, sk_icne, sk_iclt, sk_icge, sk_icgt, sk_icle, sk_goto, sk_getf, sk_putf, sk_gets, sk_iald, sk_lald, sk_bald, sk_aald, sk_iast, sk_last, sk_bast, sk_aast, sk_alen, sk_newa, sk_newt, sk_new, sk_cs1, sk_cs2, sk_cs3, sk_cs4, sk_cs5, sk_cs6, sk_cv1, sk_cv2, sk_cv3, sk_cv4, sk_cv5, sk_cv6, sk_ci1, sk_ci2, sk_ci3, sk_ret0, sk_retI, sk_retL, sk_retR, sk_sw, sk_oin, sk_max, sk_min, sk_abs, lI_0, lI_s, lL_0, lL_s, lR_0, lR_s, vIo_e, vLo_e, vOo_e, stW_I, stW_L, stW_R, stW_0, stW_z, okSt_0, okSt_s, hV_eq, hK_eq, okF_0, okF_1, okF_3, is01_0, is01_1, is01_i, Int.toNat_natCast, Int.reduceEq, Int.reduceLE, Int.reduceLT, Int.reduceNeg, Nat.reduceLT, not_true_eq_false, not_false_eq_true, reduceIte, Option.toList, List.cons_append, List.nil_append, List.set_cons_zero, List.set_cons_succ, List.not_mem_nil, List.mem_cons, if_false, if_true, ite_true, ite_false, and_self, and_true, true_and, Nat.reduceAdd, Nat.reduceLeDiff, Nat.reduceEqDiff, Nat.zero_add, Nat.le_refl, Nat.zero_le, or_false, false_or, Int.reduceToNat, or_true, true_or, eq_self, and_false, false_and, inR_d, nc_4, nc_5, nc_6, nc_7, nc_8, nc_16, nc_18, nc_20, nc_24, nc_32, nc_40, nc_64, nc_104, nc_120, nc_160, nc_256, nc_300, nc_330, nc_390, nc_1200, nc_1260, nc_3012, nc_9834, okSt_1i, okSt_1r, okSt_1n, List.length_cons, List.length_nil, sk_55, xpk_succ cd_321_1206, xpk_succ cd_321_1207, xpk_succ cd_321_1208, xpk_succ cd_321_1209, xpk_succ cd_321_1210, xpk_succ cd_321_1211, xpk_succ cd_321_1212, xpk_succ cd_321_1215, xpk_succ cd_321_1216, xpk_succ cd_321_1217, xpk_succ cd_321_1218, xpk_succ cd_321_1219, xpk_succ cd_321_1220, xpk_succ cd_321_1221, xpk_succ cd_321_1222, xpk_succ cd_321_1225, xpk_succ cd_321_1226, a1, b1, v1, k0, ks, E1, m1, ms, E2, w1]
  exact y
set_option maxHeartbeats 2000000 in
theorem lcs_34 {β L k : Nat} {xs : Nat → Int} {h : AH} {Q : Option AV → AH → Prop} (hx : ∀ i, -2147483648 ≤ xs i ∧ xs i ≤ 2147483647) (hk : 6 * k + 6 ≤ L) (hl : L ≤ 3072) (hb : β + 24 ≤ 20000) (hL : LI β L xs h) (nx : ∀ h', LI (β + 24) L xs h' → XP 1000 321 1540 [some (vR 1000100), some (vR 0), some (vR 76), some (vI ((6 * k : Nat) : Int))] [] h' Q) : XP 1000 321 1229 [some (vR 1000100), some (vR 0), some (vR 76), some (vI ((6 * k : Nat) : Int))] [] h Q := by
  obtain ⟨k0, k1, ks, vs⟩ := LI_s hL
  obtain ⟨rE1, h1, ⟨vE1, rfl, yE1, rfl, -⟩, l1, E1⟩ := LI_k (okM160 (β := β)) (by decide +kernel) (by decide +kernel) (vs := [vR 0]) ⟨_, _, rfl, rfl, rfl⟩ hL
  have E1 : ∀ Q : Option AV → AH → Prop, XC 1000 160 [vR 0] h Q = Q (some (vI yE1)) h1 := E1
  obtain ⟨m0, m1, ms, ws⟩ := LI_s l1
  obtain ⟨rE2, h2, ⟨vE2, rfl, yE2, rfl, -⟩, l2, E2⟩ := LI_k (okM301 (β := β)) (by decide +kernel) (by decide +kernel) (vs := [vR 76]) ⟨_, _, rfl, rfl, rfl⟩ l1
  have E2 : ∀ Q : Option AV → AH → Prop, XC 1000 301 [vR 76] h1 Q = Q (some (vI yE2)) h2 := E2
  have y := nx h2 (LI_m (Nat.le_add_right _ _) l2)
  refine xpk_sound (stops := [1540]) (n := 90) ?_
  simp only [sk_0, sk_1, sk_2, sk_3, sk_4, sk_5, sk_6, sk_7, sk_8, sk_iadd, sk_isub, sk_imul, sk_iand, sk_ior, sk_ixor, sk_ishl, sk_ishr, sk_iushr, sk_idiv, sk_irem, sk_ineg, sk_ladd, sk_lsub, sk_lmul, sk_land, sk_lor, sk_ldiv, sk_lrem, sk_lneg, sk_lshl, sk_lshr, sk_i2l, sk_l2i, sk_lcmp, sk_dupI, sk_dupR, sk_dup2L, sk_dup2I, sk_popI, sk_ifeq, sk_ifne, sk_iflt, sk_ifge, sk_ifgt, sk_ifle, sk_iceq, sk_icne, sk_iclt, sk_icge, sk_icgt, sk_icle, sk_goto, sk_getf, sk_putf, sk_gets, sk_iald, sk_lald, sk_bald, sk_aald, sk_iast, sk_last, sk_bast, sk_aast, sk_alen, sk_newa, sk_newt, sk_new, sk_cs1, sk_cs2, sk_cs3, sk_cs4, sk_cs5, sk_cs6, sk_cv1, sk_cv2, sk_cv3, sk_cv4, sk_cv5, sk_cv6, sk_ci1, sk_ci2, sk_ci3, sk_ret0, sk_retI, sk_retL, sk_retR, sk_sw, sk_oin, sk_max, sk_min, sk_abs, lI_0, lI_s, lL_0, lL_s, lR_0, lR_s, vIo_e, vLo_e, vOo_e, stW_I, stW_L, stW_R, stW_0, stW_z, okSt_0, okSt_s, hV_eq, hK_eq, okF_0, okF_1, okF_3, is01_0, is01_1, is01_i, Int.toNat_natCast, Int.reduceEq, Int.reduceLE, Int.reduceLT, Int.reduceNeg, Nat.reduceLT, not_true_eq_false, not_false_eq_true, reduceIte, Option.toList, List.cons_append, List.nil_append, List.set_cons_zero, List.set_cons_succ, List.not_mem_nil, List.mem_cons, if_false, if_true, ite_true, ite_false, and_self, and_true, true_and, Nat.reduceAdd, Nat.reduceLeDiff, Nat.reduceEqDiff, Nat.zero_add, Nat.le_refl, Nat.zero_le, or_false, false_or, Int.reduceToNat, or_true, true_or, eq_self, and_false, false_and, inR_d, nc_4, nc_5, nc_6, nc_7, nc_8, nc_16, nc_18, nc_20, nc_24, nc_32, nc_40, nc_64, nc_104, nc_120, nc_160, nc_256, nc_300, nc_330, nc_390, nc_1200, nc_1260, nc_3012, nc_9834, okSt_1i, okSt_1r, okSt_1n, List.length_cons, List.length_nil, sk_55, xpk_succ cd_321_1229, xpk_succ cd_321_1230, xpk_succ cd_321_1233, xpk_succ cd_321_1234, xpk_succ cd_321_1235, xpk_succ cd_321_1238, xpk_succ cd_321_1239, k0, ks, E1, m1, ms, E2]
  exact y
set_option maxHeartbeats 2000000 in
theorem lcs_35 {β L k : Nat} {xs : Nat → Int} {h : AH} {Q : Option AV → AH → Prop} (hx : ∀ i, -2147483648 ≤ xs i ∧ xs i ≤ 2147483647) (hk : 6 * k + 6 ≤ L) (hl : L ≤ 3072) (hb : β + 24 ≤ 20000) (hL : LI β L xs h) (nx : ∀ h', LI (β + 24) L xs h' → XP 1000 321 1540 [some (vR 1000100), some (vR 0), some (vR 76), some (vI ((6 * k : Nat) : Int))] [] h' Q) : XP 1000 321 1242 [some (vR 1000100), some (vR 0), some (vR 76), some (vI ((6 * k : Nat) : Int))] [] h Q := by
  obtain ⟨a1, b1⟩ := lw_j (j := 1) hk hl (by decide)
  have a1 : w32 (((6 * k : Nat) : Int) + 1) = ((6 * k + 1 : Nat) : Int) := a1
  obtain ⟨a2, b2⟩ := lw_j (j := 2) hk hl (by decide)
  have a2 : w32 (((6 * k : Nat) : Int) + 2) = ((6 * k + 2 : Nat) : Int) := a2
  obtain ⟨k0, k1, ks, vs⟩ := LI_s hL
  have v1 := vs (6 * k + 1)
  have v2 := vs (6 * k + 2)
  obtain ⟨rE1, h1, ⟨vE1, rfl, yE1, rfl, -⟩, l1, E1⟩ := LI_k (okM161 (β := β)) (by decide +kernel) (by decide +kernel) (vs := [vR 0, vI (xs (6 * k + 1)), vI (xs (6 * k + 2))]) ⟨_, _, rfl, rfl, _, _, rfl, ⟨_, rfl, hx _⟩, _, _, rfl, ⟨_, rfl, hx _⟩, rfl⟩ hL
  have E1 : ∀ Q : Option AV → AH → Prop, XC 1000 161 [vR 0, vI (xs (6 * k + 1)), vI (xs (6 * k + 2))] h Q = Q (some (vI yE1)) h1 := E1
  obtain ⟨m0, m1, ms, ws⟩ := LI_s l1
  have w1 := ws (6 * k + 1)
  have w2 := ws (6 * k + 2)
  obtain ⟨rE2, h2, ⟨vE2, rfl, yE2, rfl, -⟩, l2, E2⟩ := LI_k (hok305_0 (β := β)) (by decide +kernel) (by decide +kernel) (vs := [vR 76, vI (xs (6 * k + 1)), vI (xs (6 * k + 2))]) ⟨_, _, rfl, rfl, _, _, rfl, ⟨_, rfl, hx _⟩, _, _, rfl, ⟨_, rfl, hx _⟩, rfl⟩ l1
  have E2 : ∀ Q : Option AV → AH → Prop, XC 1000 305 [vR 76, vI (xs (6 * k + 1)), vI (xs (6 * k + 2))] h1 Q = Q (some (vI yE2)) h2 := E2
  have y := nx h2 (LI_m (Nat.le_add_right _ _) l2)
  refine xpk_sound (stops := [1540]) (n := 90) ?_
  simp only [sk_0, sk_1, sk_2, sk_3, sk_4, sk_5, sk_6, sk_7, sk_8, sk_iadd, sk_isub, sk_imul, sk_iand, sk_ior, sk_ixor, sk_ishl, sk_ishr, sk_iushr, sk_idiv, sk_irem, sk_ineg, sk_ladd, sk_lsub, sk_lmul, sk_land, sk_lor, sk_ldiv, sk_lrem, sk_lneg, sk_lshl, sk_lshr, sk_i2l, sk_l2i, sk_lcmp, sk_dupI, sk_dupR, sk_dup2L, sk_dup2I, sk_popI, sk_ifeq, sk_ifne, sk_iflt, sk_ifge, sk_ifgt, sk_ifle, sk_iceq, sk_icne, sk_iclt, sk_icge, sk_icgt, sk_icle, sk_goto, sk_getf, sk_putf, sk_gets, sk_iald, sk_lald, sk_bald, sk_aald, sk_iast, sk_last, sk_bast, sk_aast, sk_alen, sk_newa, sk_newt, sk_new, sk_cs1, sk_cs2, sk_cs3, sk_cs4, sk_cs5, sk_cs6, sk_cv1, sk_cv2, sk_cv3, sk_cv4, sk_cv5, sk_cv6, sk_ci1, sk_ci2, sk_ci3, sk_ret0, sk_retI, sk_retL, sk_retR, sk_sw, sk_oin, sk_max, sk_min, sk_abs, lI_0, lI_s, lL_0, lL_s, lR_0, lR_s, vIo_e, vLo_e, vOo_e, stW_I, stW_L, stW_R, stW_0, stW_z, okSt_0, okSt_s, hV_eq, hK_eq, okF_0, okF_1, okF_3, is01_0, is01_1, is01_i, Int.toNat_natCast, Int.reduceEq, Int.reduceLE, Int.reduceLT, Int.reduceNeg, Nat.reduceLT, not_true_eq_false, not_false_eq_true, reduceIte, Option.toList, List.cons_append, List.nil_append, List.set_cons_zero, List.set_cons_succ, List.not_mem_nil, List.mem_cons, if_false, if_true, ite_true, ite_false, and_self, and_true, true_and, Nat.reduceAdd, Nat.reduceLeDiff, Nat.reduceEqDiff, Nat.zero_add, Nat.le_refl, Nat.zero_le, or_false, false_or, Int.reduceToNat, or_true, true_or, eq_self, and_false, false_and, inR_d, nc_4, nc_5, nc_6, nc_7, nc_8, nc_16, nc_18, nc_20, nc_24, nc_32, nc_40, nc_64, nc_104, nc_120, nc_160, nc_256, nc_300, nc_330, nc_390, nc_1200, nc_1260, nc_3012, nc_9834, okSt_1i, okSt_1r, okSt_1n, List.length_cons, List.length_nil, sk_55, xpk_succ cd_321_1242, xpk_succ cd_321_1243, xpk_succ cd_321_1244, xpk_succ cd_321_1245, xpk_succ cd_321_1246, xpk_succ cd_321_1247, xpk_succ cd_321_1248, xpk_succ cd_321_1249, xpk_succ cd_321_1250, xpk_succ cd_321_1251, xpk_succ cd_321_1252, xpk_succ cd_321_1253, xpk_succ cd_321_1256, xpk_succ cd_321_1257, xpk_succ cd_321_1258, xpk_succ cd_321_1259, xpk_succ cd_321_1260, xpk_succ cd_321_1261, xpk_succ cd_321_1262, xpk_succ cd_321_1263, xpk_succ cd_321_1264, xpk_succ cd_321_1265, xpk_succ cd_321_1266, xpk_succ cd_321_1267, xpk_succ cd_321_1268, xpk_succ cd_321_1271, xpk_succ cd_321_1272, a1, b1, a2, b2, v1, v2, k0, ks, E1, m1, ms, E2, w1, w2]
  exact y
set_option maxHeartbeats 2000000 in
theorem lcs_36 {β L k : Nat} {xs : Nat → Int} {h : AH} {Q : Option AV → AH → Prop} (hx : ∀ i, -2147483648 ≤ xs i ∧ xs i ≤ 2147483647) (hk : 6 * k + 6 ≤ L) (hl : L ≤ 3072) (hb : β + 24 ≤ 20000) (hL : LI β L xs h) (nx : ∀ h', LI (β + 24) L xs h' → XP 1000 321 1540 [some (vR 1000100), some (vR 0), some (vR 76), some (vI ((6 * k : Nat) : Int))] [] h' Q) : XP 1000 321 1275 [some (vR 1000100), some (vR 0), some (vR 76), some (vI ((6 * k : Nat) : Int))] [] h Q := by
  obtain ⟨a1, b1⟩ := lw_j (j := 1) hk hl (by decide)
  have a1 : w32 (((6 * k : Nat) : Int) + 1) = ((6 * k + 1 : Nat) : Int) := a1
  obtain ⟨a2, b2⟩ := lw_j (j := 2) hk hl (by decide)
  have a2 : w32 (((6 * k : Nat) : Int) + 2) = ((6 * k + 2 : Nat) : Int) := a2
  obtain ⟨k0, k1, ks, vs⟩ := LI_s hL
  have v1 := vs (6 * k + 1)
  have v2 := vs (6 * k + 2)
  obtain ⟨rE1, h1, ⟨vE1, rfl, yE1, rfl, -⟩, l1, E1⟩ := LI_k (okM162 (β := β)) (by decide +kernel) (by decide +kernel) (vs := [vR 0, vI (xs (6 * k + 1)), vI (xs (6 * k + 2))]) ⟨_, _, rfl, rfl, _, _, rfl, ⟨_, rfl, hx _⟩, _, _, rfl, ⟨_, rfl, hx _⟩, rfl⟩ hL
  have E1 : ∀ Q : Option AV → AH → Prop, XC 1000 162 [vR 0, vI (xs (6 * k + 1)), vI (xs (6 * k + 2))] h Q = Q (some (vI yE1)) h1 := E1
  obtain ⟨m0, m1, ms, ws⟩ := LI_s l1
  have w1 := ws (6 * k + 1)
  have w2 := ws (6 * k + 2)
  obtain ⟨rE2, h2, ⟨vE2, rfl, yE2, rfl, -⟩, l2, E2⟩ := LI_k (hok309_0 (β := β)) (by decide +kernel) (by decide +kernel) (vs := [vR 76, vI (xs (6 * k + 1)), vI (xs (6 * k + 2))]) ⟨_, _, rfl, rfl, _, _, rfl, ⟨_, rfl, hx _⟩, _, _, rfl, ⟨_, rfl, hx _⟩, rfl⟩ l1
  have E2 : ∀ Q : Option AV → AH → Prop, XC 1000 309 [vR 76, vI (xs (6 * k + 1)), vI (xs (6 * k + 2))] h1 Q = Q (some (vI yE2)) h2 := E2
  have y := nx h2 (LI_m (Nat.le_add_right _ _) l2)
  refine xpk_sound (stops := [1540]) (n := 90) ?_
  simp only [sk_0, sk_1, sk_2, sk_3, sk_4, sk_5, sk_6, sk_7, sk_8, sk_iadd, sk_isub, sk_imul, sk_iand, sk_ior, sk_ixor, sk_ishl, sk_ishr, sk_iushr, sk_idiv, sk_irem, sk_ineg, sk_ladd, sk_lsub, sk_lmul, sk_land, sk_lor, sk_ldiv, sk_lrem, sk_lneg, sk_lshl, sk_lshr, sk_i2l, sk_l2i, sk_lcmp, sk_dupI, sk_dupR, sk_dup2L, sk_dup2I, sk_popI, sk_ifeq, sk_ifne, sk_iflt, sk_ifge, sk_ifgt, sk_ifle, sk_iceq, sk_icne, sk_iclt, sk_icge, sk_icgt, sk_icle, sk_goto, sk_getf, sk_putf, sk_gets, sk_iald, sk_lald, sk_bald, sk_aald, sk_iast, sk_last, sk_bast, sk_aast, sk_alen, sk_newa, sk_newt, sk_new, sk_cs1, sk_cs2, sk_cs3, sk_cs4, sk_cs5, sk_cs6, sk_cv1, sk_cv2, sk_cv3, sk_cv4, sk_cv5, sk_cv6, sk_ci1, sk_ci2, sk_ci3, sk_ret0, sk_retI, sk_retL, sk_retR, sk_sw, sk_oin, sk_max, sk_min, sk_abs, lI_0, lI_s, lL_0, lL_s, lR_0, lR_s, vIo_e, vLo_e, vOo_e, stW_I, stW_L, stW_R, stW_0, stW_z, okSt_0, okSt_s, hV_eq, hK_eq, okF_0, okF_1, okF_3, is01_0, is01_1, is01_i, Int.toNat_natCast, Int.reduceEq, Int.reduceLE, Int.reduceLT, Int.reduceNeg, Nat.reduceLT, not_true_eq_false, not_false_eq_true, reduceIte, Option.toList, List.cons_append, List.nil_append, List.set_cons_zero, List.set_cons_succ, List.not_mem_nil, List.mem_cons, if_false, if_true, ite_true, ite_false, and_self, and_true, true_and, Nat.reduceAdd, Nat.reduceLeDiff, Nat.reduceEqDiff, Nat.zero_add, Nat.le_refl, Nat.zero_le, or_false, false_or, Int.reduceToNat, or_true, true_or, eq_self, and_false, false_and, inR_d, nc_4, nc_5, nc_6, nc_7, nc_8, nc_16, nc_18, nc_20, nc_24, nc_32, nc_40, nc_64, nc_104, nc_120, nc_160, nc_256, nc_300, nc_330, nc_390, nc_1200, nc_1260, nc_3012, nc_9834, okSt_1i, okSt_1r, okSt_1n, List.length_cons, List.length_nil, sk_55, xpk_succ cd_321_1275, xpk_succ cd_321_1276, xpk_succ cd_321_1277, xpk_succ cd_321_1278, xpk_succ cd_321_1279, xpk_succ cd_321_1280, xpk_succ cd_321_1281, xpk_succ cd_321_1282, xpk_succ cd_321_1283, xpk_succ cd_321_1284, xpk_succ cd_321_1285, xpk_succ cd_321_1286, xpk_succ cd_321_1289, xpk_succ cd_321_1290, xpk_succ cd_321_1291, xpk_succ cd_321_1292, xpk_succ cd_321_1293, xpk_succ cd_321_1294, xpk_succ cd_321_1295, xpk_succ cd_321_1296, xpk_succ cd_321_1297, xpk_succ cd_321_1298, xpk_succ cd_321_1299, xpk_succ cd_321_1300, xpk_succ cd_321_1301, xpk_succ cd_321_1304, xpk_succ cd_321_1305, a1, b1, a2, b2, v1, v2, k0, ks, E1, m1, ms, E2, w1, w2]
  exact y
set_option maxHeartbeats 2000000 in
theorem lcs_37 {β L k : Nat} {xs : Nat → Int} {h : AH} {Q : Option AV → AH → Prop} (hx : ∀ i, -2147483648 ≤ xs i ∧ xs i ≤ 2147483647) (hk : 6 * k + 6 ≤ L) (hl : L ≤ 3072) (hb : β + 24 ≤ 20000) (hL : LI β L xs h) (nx : ∀ h', LI (β + 24) L xs h' → XP 1000 321 1540 [some (vR 1000100), some (vR 0), some (vR 76), some (vI ((6 * k : Nat) : Int))] [] h' Q) : XP 1000 321 1308 [some (vR 1000100), some (vR 0), some (vR 76), some (vI ((6 * k : Nat) : Int))] [] h Q := by
  obtain ⟨a1, b1⟩ := lw_j (j := 1) hk hl (by decide)
  have a1 : w32 (((6 * k : Nat) : Int) + 1) = ((6 * k + 1 : Nat) : Int) := a1
  obtain ⟨a2, b2⟩ := lw_j (j := 2) hk hl (by decide)
  have a2 : w32 (((6 * k : Nat) : Int) + 2) = ((6 * k + 2 : Nat) : Int) := a2
  obtain ⟨k0, k1, ks, vs⟩ := LI_s hL
  have v1 := vs (6 * k + 1)
  have v2 := vs (6 * k + 2)
  by_cases zz : xs (6 * k + 2) = 0
  · obtain ⟨rE1, h1, ⟨vE1, rfl, yE1, rfl, -⟩, l1, E1⟩ := LI_k (okM164 (β := β)) (by decide +kernel) (by decide +kernel) (vs := [vR 0, vI (xs (6 * k + 1)), vI 0]) ⟨_, _, rfl, rfl, _, _, rfl, ⟨_, rfl, hx _⟩, _, _, rfl, ⟨0, rfl, by decide, by decide⟩, rfl⟩ hL
    have E1 : ∀ Q : Option AV → AH → Prop, XC 1000 164 [vR 0, vI (xs (6 * k + 1)), vI 0] h Q = Q (some (vI yE1)) h1 := E1
    obtain ⟨m0, m1, ms, ws⟩ := LI_s l1
    have w1 := ws (6 * k + 1)
    have w2 := ws (6 * k + 2)
    obtain ⟨rE2, h2, ⟨vE2, rfl, yE2, rfl, -⟩, l2, E2⟩ := LI_k (okM310 (β := β)) (by decide +kernel) (by decide +kernel) (vs := [vR 76, vI (xs (6 * k + 1)), vI 0]) ⟨_, _, rfl, rfl, _, _, rfl, ⟨_, rfl, hx _⟩, _, _, rfl, ⟨0, rfl, by decide, by decide⟩, rfl⟩ l1
    have E2 : ∀ Q : Option AV → AH → Prop, XC 1000 310 [vR 76, vI (xs (6 * k + 1)), vI 0] h1 Q = Q (some (vI yE2)) h2 := E2
    have y := nx h2 (LI_m (Nat.le_add_right _ _) l2)
    refine xpk_sound (stops := [1540]) (n := 90) ?_
    simp only [sk_0, sk_1, sk_2, sk_3, sk_4, sk_5, sk_6, sk_7, sk_8, sk_iadd, sk_isub, sk_imul, sk_iand, sk_ior, sk_ixor, sk_ishl, sk_ishr, sk_iushr, sk_idiv, sk_irem, sk_ineg, sk_ladd, sk_lsub, sk_lmul, sk_land, sk_lor, sk_ldiv, sk_lrem, sk_lneg, sk_lshl, sk_lshr, sk_i2l, sk_l2i, sk_lcmp, sk_dupI, sk_dupR, sk_dup2L, sk_dup2I, sk_popI, sk_ifeq, sk_ifne, sk_iflt, sk_ifge, sk_ifgt, sk_ifle, sk_iceq, sk_icne, sk_iclt, sk_icge, sk_icgt, sk_icle, sk_goto, sk_getf, sk_putf, sk_gets, sk_iald, sk_lald, sk_bald, sk_aald, sk_iast, sk_last, sk_bast, sk_aast, sk_alen, sk_newa, sk_newt, sk_new, sk_cs1, sk_cs2, sk_cs3, sk_cs4, sk_cs5, sk_cs6, sk_cv1, sk_cv2, sk_cv3, sk_cv4, sk_cv5, sk_cv6, sk_ci1, sk_ci2, sk_ci3, sk_ret0, sk_retI, sk_retL, sk_retR, sk_sw, sk_oin, sk_max, sk_min, sk_abs, lI_0, lI_s, lL_0, lL_s, lR_0, lR_s, vIo_e, vLo_e, vOo_e, stW_I, stW_L, stW_R, stW_0, stW_z, okSt_0, okSt_s, hV_eq, hK_eq, okF_0, okF_1, okF_3, is01_0, is01_1, is01_i, Int.toNat_natCast, Int.reduceEq, Int.reduceLE, Int.reduceLT, Int.reduceNeg, Nat.reduceLT, not_true_eq_false, not_false_eq_true, reduceIte, Option.toList, List.cons_append, List.nil_append, List.set_cons_zero, List.set_cons_succ, List.not_mem_nil, List.mem_cons, if_false, if_true, ite_true, ite_false, and_self, and_true, true_and, Nat.reduceAdd, Nat.reduceLeDiff, Nat.reduceEqDiff, Nat.zero_add, Nat.le_refl, Nat.zero_le, or_false, false_or, Int.reduceToNat, or_true, true_or, eq_self, and_false, false_and, inR_d, nc_4, nc_5, nc_6, nc_7, nc_8, nc_16, nc_18, nc_20, nc_24, nc_32, nc_40, nc_64, nc_104, nc_120, nc_160, nc_256, nc_300, nc_330, nc_390, nc_1200, nc_1260, nc_3012, nc_9834, okSt_1i, okSt_1r, okSt_1n, List.length_cons, List.length_nil, sk_55, xpk_succ cd_321_1308, xpk_succ cd_321_1309, xpk_succ cd_321_1310, xpk_succ cd_321_1311, xpk_succ cd_321_1312, xpk_succ cd_321_1313, xpk_succ cd_321_1314, xpk_succ cd_321_1315, xpk_succ cd_321_1316, xpk_succ cd_321_1317, xpk_succ cd_321_1318, xpk_succ cd_321_1319, xpk_succ cd_321_1322, xpk_succ cd_321_1323, xpk_succ cd_321_1326, xpk_succ cd_321_1327, xpk_succ cd_321_1330, xpk_succ cd_321_1331, xpk_succ cd_321_1332, xpk_succ cd_321_1333, xpk_succ cd_321_1334, xpk_succ cd_321_1335, xpk_succ cd_321_1336, xpk_succ cd_321_1337, xpk_succ cd_321_1338, xpk_succ cd_321_1339, xpk_succ cd_321_1340, xpk_succ cd_321_1341, xpk_succ cd_321_1342, xpk_succ cd_321_1345, xpk_succ cd_321_1346, xpk_succ cd_321_1349, xpk_succ cd_321_1350, xpk_succ cd_321_1353, xpk_succ cd_321_1354, a1, b1, a2, b2, v1, v2, k0, ks, E1, m1, ms, E2, w1, w2, zz]
    exact y
  · obtain ⟨rE1, h1, ⟨vE1, rfl, yE1, rfl, -⟩, l1, E1⟩ := LI_k (okM164 (β := β)) (by decide +kernel) (by decide +kernel) (vs := [vR 0, vI (xs (6 * k + 1)), vI 1]) ⟨_, _, rfl, rfl, _, _, rfl, ⟨_, rfl, hx _⟩, _, _, rfl, ⟨1, rfl, by decide, by decide⟩, rfl⟩ hL
    have E1 : ∀ Q : Option AV → AH → Prop, XC 1000 164 [vR 0, vI (xs (6 * k + 1)), vI 1] h Q = Q (some (vI yE1)) h1 := E1
    obtain ⟨m0, m1, ms, ws⟩ := LI_s l1
    have w1 := ws (6 * k + 1)
    have w2 := ws (6 * k + 2)
    obtain ⟨rE2, h2, ⟨vE2, rfl, yE2, rfl, -⟩, l2, E2⟩ := LI_k (okM310 (β := β)) (by decide +kernel) (by decide +kernel) (vs := [vR 76, vI (xs (6 * k + 1)), vI 1]) ⟨_, _, rfl, rfl, _, _, rfl, ⟨_, rfl, hx _⟩, _, _, rfl, ⟨1, rfl, by decide, by decide⟩, rfl⟩ l1
    have E2 : ∀ Q : Option AV → AH → Prop, XC 1000 310 [vR 76, vI (xs (6 * k + 1)), vI 1] h1 Q = Q (some (vI yE2)) h2 := E2
    have y := nx h2 (LI_m (Nat.le_add_right _ _) l2)
    refine xpk_sound (stops := [1540]) (n := 90) ?_
    simp only [sk_0, sk_1, sk_2, sk_3, sk_4, sk_5, sk_6, sk_7, sk_8, sk_iadd, sk_isub, sk_imul, sk_iand, sk_ior, sk_ixor, sk_ishl, sk_ishr, sk_iushr, sk_idiv, sk_irem, sk_ineg, sk_ladd, sk_lsub, sk_lmul, sk_land, sk_lor, sk_ldiv, sk_lrem, sk_lneg, sk_lshl, sk_lshr, sk_i2l, sk_l2i, sk_lcmp, sk_dupI, sk_dupR, sk_dup2L, sk_dup2I, sk_popI, sk_ifeq, sk_ifne, sk_iflt, sk_ifge, sk_ifgt, sk_ifle, sk_iceq, sk_icne, sk_iclt, sk_icge, sk_icgt, sk_icle, sk_goto, sk_getf, sk_putf, sk_gets, sk_iald, sk_lald, sk_bald, sk_aald, sk_iast, sk_last, sk_bast, sk_aast, sk_alen, sk_newa, sk_newt, sk_new, sk_cs1, sk_cs2, sk_cs3, sk_cs4, sk_cs5, sk_cs6, sk_cv1, sk_cv2, sk_cv3, sk_cv4, sk_cv5, sk_cv6, sk_ci1, sk_ci2, sk_ci3, sk_ret0, sk_retI, sk_retL, sk_retR, sk_sw, sk_oin, sk_max, sk_min, sk_abs, lI_0, lI_s, lL_0, lL_s, lR_0, lR_s, vIo_e, vLo_e, vOo_e, stW_I, stW_L, stW_R, stW_0, stW_z, okSt_0, okSt_s, hV_eq, hK_eq, okF_0, okF_1, okF_3, is01_0, is01_1, is01_i, Int.toNat_natCast, Int.reduceEq, Int.reduceLE, Int.reduceLT, Int.reduceNeg, Nat.reduceLT, not_true_eq_false, not_false_eq_true, reduceIte, Option.toList, List.cons_append, List.nil_append, List.set_cons_zero, List.set_cons_succ, List.not_mem_nil, List.mem_cons, if_false, if_true, ite_true, ite_false, and_self, and_true, true_and, Nat.reduceAdd, Nat.reduceLeDiff, Nat.reduceEqDiff, Nat.zero_add, Nat.le_refl, Nat.zero_le, or_false, false_or, Int.reduceToNat, or_true, true_or, eq_self, and_false, false_and, inR_d, nc_4, nc_5, nc_6, nc_7, nc_8, nc_16, nc_18, nc_20, nc_24, nc_32, nc_40, nc_64, nc_104, nc_120, nc_160, nc_256, nc_300, nc_330, nc_390, nc_1200, nc_1260, nc_3012, nc_9834, okSt_1i, okSt_1r, okSt_1n, List.length_cons, List.length_nil, sk_55, xpk_succ cd_321_1308, xpk_succ cd_321_1309, xpk_succ cd_321_1310, xpk_succ cd_321_1311, xpk_succ cd_321_1312, xpk_succ cd_321_1313, xpk_succ cd_321_1314, xpk_succ cd_321_1315, xpk_succ cd_321_1316, xpk_succ cd_321_1317, xpk_succ cd_321_1318, xpk_succ cd_321_1319, xpk_succ cd_321_1322, xpk_succ cd_321_1323, xpk_succ cd_321_1326, xpk_succ cd_321_1327, xpk_succ cd_321_1330, xpk_succ cd_321_1331, xpk_succ cd_321_1332, xpk_succ cd_321_1333, xpk_succ cd_321_1334, xpk_succ cd_321_1335, xpk_succ cd_321_1336, xpk_succ cd_321_1337, xpk_succ cd_321_1338, xpk_succ cd_321_1339, xpk_succ cd_321_1340, xpk_succ cd_321_1341, xpk_succ cd_321_1342, xpk_succ cd_321_1345, xpk_succ cd_321_1346, xpk_succ cd_321_1349, xpk_succ cd_321_1350, xpk_succ cd_321_1353, xpk_succ cd_321_1354, a1, b1, a2, b2, v1, v2, k0, ks, E1, m1, ms, E2, w1, w2, zz]
    exact y
set_option maxHeartbeats 2000000 in
theorem lcs_38 {β L k : Nat} {xs : Nat → Int} {h : AH} {Q : Option AV → AH → Prop} (hx : ∀ i, -2147483648 ≤ xs i ∧ xs i ≤ 2147483647) (hk : 6 * k + 6 ≤ L) (hl : L ≤ 3072) (hb : β + 24 ≤ 20000) (hL : LI β L xs h) (nx : ∀ h', LI (β + 24) L xs h' → XP 1000 321 1540 [some (vR 1000100), some (vR 0), some (vR 76), some (vI ((6 * k : Nat) : Int))] [] h' Q) : XP 1000 321 1357 [some (vR 1000100), some (vR 0), some (vR 76), some (vI ((6 * k : Nat) : Int))] [] h Q := by
  obtain ⟨a1, b1⟩ := lw_j (j := 1) hk hl (by decide)
  have a1 : w32 (((6 * k : Nat) : Int) + 1) = ((6 * k + 1 : Nat) : Int) := a1
  obtain ⟨k0, k1, ks, vs⟩ := LI_s hL
  have v1 := vs (6 * k + 1)
  by_cases zz : xs (6 * k + 1) = 0
  · obtain ⟨rE1, h1, ⟨vE1, rfl, yE1, rfl, -⟩, l1, E1⟩ := LI_k (okM165 (β := β)) (by decide +kernel) (by decide +kernel) (vs := [vR 0, vI 0]) ⟨_, _, rfl, rfl, _, _, rfl, ⟨0, rfl, by decide, by decide⟩, rfl⟩ hL
    have E1 : ∀ Q : Option AV → AH → Prop, XC 1000 165 [vR 0, vI 0] h Q = Q (some (vL yE1)) h1 := E1
    obtain ⟨m0, m1, ms, ws⟩ := LI_s l1
    have w1 := ws (6 * k + 1)
    obtain ⟨rE2, h2, ⟨vE2, rfl, yE2, rfl, -⟩, l2, E2⟩ := LI_k (hok312_0 (β := β)) (by decide +kernel) (by decide +kernel) (vs := [vR 76, vI 0]) ⟨_, _, rfl, rfl, _, _, rfl, ⟨0, rfl, by decide, by decide⟩, rfl⟩ l1
    have E2 : ∀ Q : Option AV → AH → Prop, XC 1000 312 [vR 76, vI 0] h1 Q = Q (some (vL yE2)) h2 := E2
    have y := nx h2 (LI_m (Nat.le_add_right _ _) l2)
    refine xpk_sound (stops := [1540]) (n := 90) ?_
    simp only [sk_0, sk_1, sk_2, sk_3, sk_4, sk_5, sk_6, sk_7, sk_8, sk_iadd, sk_isub, sk_imul, sk_iand, sk_ior, sk_ixor, sk_ishl, sk_ishr, sk_iushr, sk_idiv, sk_irem, sk_ineg, sk_ladd, sk_lsub, sk_lmul, sk_land, sk_lor, sk_ldiv, sk_lrem, sk_lneg, sk_lshl, sk_lshr, sk_i2l, sk_l2i, sk_lcmp, sk_dupI, sk_dupR, sk_dup2L, sk_dup2I, sk_popI, sk_ifeq, sk_ifne, sk_iflt, sk_ifge, sk_ifgt, sk_ifle, sk_iceq, sk_icne, sk_iclt, sk_icge, sk_icgt, sk_icle, sk_goto, sk_getf, sk_putf, sk_gets, sk_iald, sk_lald, sk_bald, sk_aald, sk_iast, sk_last, sk_bast, sk_aast, sk_alen, sk_newa, sk_newt, sk_new, sk_cs1, sk_cs2, sk_cs3, sk_cs4, sk_cs5, sk_cs6, sk_cv1, sk_cv2, sk_cv3, sk_cv4, sk_cv5, sk_cv6, sk_ci1, sk_ci2, sk_ci3, sk_ret0, sk_retI, sk_retL, sk_retR, sk_sw, sk_oin, sk_max, sk_min, sk_abs, lI_0, lI_s, lL_0, lL_s, lR_0, lR_s, vIo_e, vLo_e, vOo_e, stW_I, stW_L, stW_R, stW_0, stW_z, okSt_0, okSt_s, hV_eq, hK_eq, okF_0, okF_1, okF_3, is01_0, is01_1, is01_i, Int.toNat_natCast, Int.reduceEq, Int.reduceLE, Int.reduceLT, Int.reduceNeg, Nat.reduceLT, not_true_eq_false, not_false_eq_true, reduceIte, Option.toList, List.cons_append, List.nil_append, List.set_cons_zero, List.set_cons_succ, List.not_mem_nil, List.mem_cons, if_false, if_true, ite_true, ite_false, and_self, and_true, true_and, Nat.reduceAdd, Nat.reduceLeDiff, Nat.reduceEqDiff, Nat.zero_add, Nat.le_refl, Nat.zero_le, or_false, false_or, Int.reduceToNat, or_true, true_or, eq_self, and_false, false_and, inR_d, nc_4, nc_5, nc_6, nc_7, nc_8, nc_16, nc_18, nc_20, nc_24, nc_32, nc_40, nc_64, nc_104, nc_120, nc_160, nc_256, nc_300, nc_330, nc_390, nc_1200, nc_1260, nc_3012, nc_9834, okSt_1i, okSt_1r, okSt_1n, List.length_cons, List.length_nil, sk_55, xpk_succ cd_321_1357, xpk_succ cd_321_1358, xpk_succ cd_321_1359, xpk_succ cd_321_1360, xpk_succ cd_321_1361, xpk_succ cd_321_1362, xpk_succ cd_321_1363, xpk_succ cd_321_1366, xpk_succ cd_321_1367, xpk_succ cd_321_1370, xpk_succ cd_321_1371, xpk_succ cd_321_1374, xpk_succ cd_321_1375, xpk_succ cd_321_1376, xpk_succ cd_321_1377, xpk_succ cd_321_1378, xpk_succ cd_321_1379, xpk_succ cd_321_1380, xpk_succ cd_321_1381, xpk_succ cd_321_1384, xpk_succ cd_321_1385, xpk_succ cd_321_1388, xpk_succ cd_321_1389, xpk_succ cd_321_1392, xpk_succ cd_321_1393, a1, b1, v1, k0, ks, E1, m1, ms, E2, w1, zz]
    exact y
  · obtain ⟨rE1, h1, ⟨vE1, rfl, yE1, rfl, -⟩, l1, E1⟩ := LI_k (okM165 (β := β)) (by decide +kernel) (by decide +kernel) (vs := [vR 0, vI 1]) ⟨_, _, rfl, rfl, _, _, rfl, ⟨1, rfl, by decide, by decide⟩, rfl⟩ hL
    have E1 : ∀ Q : Option AV → AH → Prop, XC 1000 165 [vR 0, vI 1] h Q = Q (some (vL yE1)) h1 := E1
    obtain ⟨m0, m1, ms, ws⟩ := LI_s l1
    have w1 := ws (6 * k + 1)
    obtain ⟨rE2, h2, ⟨vE2, rfl, yE2, rfl, -⟩, l2, E2⟩ := LI_k (hok312_0 (β := β)) (by decide +kernel) (by decide +kernel) (vs := [vR 76, vI 1]) ⟨_, _, rfl, rfl, _, _, rfl, ⟨1, rfl, by decide, by decide⟩, rfl⟩ l1
    have E2 : ∀ Q : Option AV → AH → Prop, XC 1000 312 [vR 76, vI 1] h1 Q = Q (some (vL yE2)) h2 := E2
    have y := nx h2 (LI_m (Nat.le_add_right _ _) l2)
    refine xpk_sound (stops := [1540]) (n := 90) ?_
    simp only [sk_0, sk_1, sk_2, sk_3, sk_4, sk_5, sk_6, sk_7, sk_8, sk_iadd, sk_isub, sk_imul, sk_iand, sk_ior, sk_ixor, sk_ishl, sk_ishr, sk_iushr, sk_idiv, sk_irem, sk_ineg, sk_ladd, sk_lsub, sk_lmul, sk_land, sk_lor, sk_ldiv, sk_lrem, sk_lneg, sk_lshl, sk_lshr, sk_i2l, sk_l2i, sk_lcmp, sk_dupI, sk_dupR, sk_dup2L, sk_dup2I, sk_popI, sk_ifeq, sk_ifne, sk_iflt, sk_ifge, sk_ifgt, sk_ifle, sk_iceq, sk_icne, sk_iclt, sk_icge, sk_icgt, sk_icle, sk_goto, sk_getf, sk_putf, sk_gets, sk_iald, sk_lald, sk_bald, sk_aald, sk_iast, sk_last, sk_bast, sk_aast, sk_alen, sk_newa, sk_newt, sk_new, sk_cs1, sk_cs2, sk_cs3, sk_cs4, sk_cs5, sk_cs6, sk_cv1, sk_cv2, sk_cv3, sk_cv4, sk_cv5, sk_cv6, sk_ci1, sk_ci2, sk_ci3, sk_ret0, sk_retI, sk_retL, sk_retR, sk_sw, sk_oin, sk_max, sk_min, sk_abs, lI_0, lI_s, lL_0, lL_s, lR_0, lR_s, vIo_e, vLo_e, vOo_e, stW_I, stW_L, stW_R, stW_0, stW_z, okSt_0, okSt_s, hV_eq, hK_eq, okF_0, okF_1, okF_3, is01_0, is01_1, is01_i, Int.toNat_natCast, Int.reduceEq, Int.reduceLE, Int.reduceLT, Int.reduceNeg, Nat.reduceLT, not_true_eq_false, not_false_eq_true, reduceIte, Option.toList, List.cons_append, List.nil_append, List.set_cons_zero, List.set_cons_succ, List.not_mem_nil, List.mem_cons, if_false, if_true, ite_true, ite_false, and_self, and_true, true_and, Nat.reduceAdd, Nat.reduceLeDiff, Nat.reduceEqDiff, Nat.zero_add, Nat.le_refl, Nat.zero_le, or_false, false_or, Int.reduceToNat, or_true, true_or, eq_self, and_false, false_and, inR_d, nc_4, nc_5, nc_6, nc_7, nc_8, nc_16, nc_18, nc_20, nc_24, nc_32, nc_40, nc_64, nc_104, nc_120, nc_160, nc_256, nc_300, nc_330, nc_390, nc_1200, nc_1260, nc_3012, nc_9834, okSt_1i, okSt_1r, okSt_1n, List.length_cons, List.length_nil, sk_55, xpk_succ cd_321_1357, xpk_succ cd_321_1358, xpk_succ cd_321_1359, xpk_succ cd_321_1360, xpk_succ cd_321_1361, xpk_succ cd_321_1362, xpk_succ cd_321_1363, xpk_succ cd_321_1366, xpk_succ cd_321_1367, xpk_succ cd_321_1370, xpk_succ cd_321_1371, xpk_succ cd_321_1374, xpk_succ cd_321_1375, xpk_succ cd_321_1376, xpk_succ cd_321_1377, xpk_succ cd_321_1378, xpk_succ cd_321_1379, xpk_succ cd_321_1380, xpk_succ cd_321_1381, xpk_succ cd_321_1384, xpk_succ cd_321_1385, xpk_succ cd_321_1388, xpk_succ cd_321_1389, xpk_succ cd_321_1392, xpk_succ cd_321_1393, a1, b1, v1, k0, ks, E1, m1, ms, E2, w1, zz]
    exact y
set_option maxHeartbeats 2000000 in
theorem lcs_39 {β L k : Nat} {xs : Nat → Int} {h : AH} {Q : Option AV → AH → Prop} (hx : ∀ i, -2147483648 ≤ xs i ∧ xs i ≤ 2147483647) (hk : 6 * k + 6 ≤ L) (hl : L ≤ 3072) (hb : β + 24 ≤ 20000) (hL : LI β L xs h) (nx : ∀ h', LI (β + 24) L xs h' → XP 1000 321 1540 [some (vR 1000100), some (vR 0), some (vR 76), some (vI ((6 * k : Nat) : Int))] [] h' Q) : XP 1000 321 1396 [some (vR 1000100), some (vR 0), some (vR 76), some (vI ((6 * k : Nat) : Int))] [] h Q := by
  obtain ⟨a1, b1⟩ := lw_j (j := 1) hk hl (by decide)
  have a1 : w32 (((6 * k : Nat) : Int) + 1) = ((6 * k + 1 : Nat) : Int) := a1
  obtain ⟨a2, b2⟩ := lw_j (j := 2) hk hl (by decide)
  have a2 : w32 (((6 * k : Nat) : Int) + 2) = ((6 * k + 2 : Nat) : Int) := a2
  obtain ⟨k0, k1, ks, vs⟩ := LI_s hL
  have v1 := vs (6 * k + 1)
  have v2 := vs (6 * k + 2)
  obtain ⟨rE1, h1, ⟨vE1, rfl, yE1, rfl, -⟩, l1, E1⟩ := LI_k (okM166 (β := β)) (by decide +kernel) (by decide +kernel) (vs := [vR 0, vI (xs (6 * k + 1)), vI (xs (6 * k + 2))]) ⟨_, _, rfl, rfl, _, _, rfl, ⟨_, rfl, hx _⟩, _, _, rfl, ⟨_, rfl, hx _⟩, rfl⟩ hL
  have E1 : ∀ Q : Option AV → AH → Prop, XC 1000 166 [vR 0, vI (xs (6 * k + 1)), vI (xs (6 * k + 2))] h Q = Q (some (vI yE1)) h1 := E1
  obtain ⟨m0, m1, ms, ws⟩ := LI_s l1
  have w1 := ws (6 * k + 1)
  have w2 := ws (6 * k + 2)
  obtain ⟨rE2, h2, ⟨vE2, rfl, yE2, rfl, -⟩, l2, E2⟩ := LI_k (okM315 (β := β)) (by decide +kernel) (by decide +kernel) (vs := [vR 76, vI (xs (6 * k + 1)), vI (xs (6 * k + 2))]) ⟨_, _, rfl, rfl, _, _, rfl, ⟨_, rfl, hx _⟩, _, _, rfl, ⟨_, rfl, hx _⟩, rfl⟩ l1
  have E2 : ∀ Q : Option AV → AH → Prop, XC 1000 315 [vR 76, vI (xs (6 * k + 1)), vI (xs (6 * k + 2))] h1 Q = Q (some (vI yE2)) h2 := E2
  have y := nx h2 (LI_m (Nat.le_add_right _ _) l2)
  refine xpk_sound (stops := [1540]) (n := 90) ?_
  simp only [sk_0, sk_1, sk_2, sk_3, sk_4, sk_5, sk_6, sk_7, sk_8, sk_iadd, sk_isub, sk_imul, sk_iand, sk_ior, sk_ixor, sk_ishl, sk_ishr, sk_iushr, sk_idiv, sk_irem, sk_ineg, sk_ladd, sk_lsub, sk_lmul, sk_land, sk_lor, sk_ldiv, sk_lrem, sk_lneg, sk_lshl, sk_lshr, sk_i2l, sk_l2i, sk_lcmp, sk_dupI, sk_dupR, sk_dup2L, sk_dup2I, sk_popI, sk_ifeq, sk_ifne, sk_iflt, sk_ifge, sk_ifgt, sk_ifle, sk_iceq, sk_icne, sk_iclt, sk_icge, sk_icgt, sk_icle, sk_goto, sk_getf, sk_putf, sk_gets, sk_iald, sk_lald, sk_bald, sk_aald, sk_iast, sk_last, sk_bast, sk_aast, sk_alen, sk_newa, sk_newt, sk_new, sk_cs1, sk_cs2, sk_cs3, sk_cs4, sk_cs5, sk_cs6, sk_cv1, sk_cv2, sk_cv3, sk_cv4, sk_cv5, sk_cv6, sk_ci1, sk_ci2, sk_ci3, sk_ret0, sk_retI, sk_retL, sk_retR, sk_sw, sk_oin, sk_max, sk_min, sk_abs, lI_0, lI_s, lL_0, lL_s, lR_0, lR_s, vIo_e, vLo_e, vOo_e, stW_I, stW_L, stW_R, stW_0, stW_z, okSt_0, okSt_s, hV_eq, hK_eq, okF_0, okF_1, okF_3, is01_0, is01_1, is01_i, Int.toNat_natCast, Int.reduceEq, Int.reduceLE, Int.reduceLT, Int.reduceNeg, Nat.reduceLT, not_true_eq_false, not_false_eq_true, reduceIte, Option.toList, List.cons_append, List.nil_append, List.set_cons_zero, List.set_cons_succ, List.not_mem_nil, List.mem_cons, if_false, if_true, ite_true, ite_false, and_self, and_true, true_and, Nat.reduceAdd, Nat.reduceLeDiff, Nat.reduceEqDiff, Nat.zero_add, Nat.le_refl, Nat.zero_le, or_false, false_or, Int.reduceToNat, or_true, true_or, eq_self, and_false, false_and, inR_d, nc_4, nc_5, nc_6, nc_7, nc_8, nc_16, nc_18, nc_20, nc_24, nc_32, nc_40, nc_64, nc_104, nc_120, nc_160, nc_256, nc_300, nc_330, nc_390, nc_1200, nc_1260, nc_3012, nc_9834, okSt_1i, okSt_1r, okSt_1n, List.length_cons, List.length_nil, sk_55, xpk_succ cd_321_1396, xpk_succ cd_321_1397, xpk_succ cd_321_1398, xpk_succ cd_321_1399, xpk_succ cd_321_1400, xpk_succ cd_321_1401, xpk_succ cd_321_1402, xpk_succ cd_321_1403, xpk_succ cd_321_1404, xpk_succ cd_321_1405, xpk_succ cd_321_1406, xpk_succ cd_321_1407, xpk_succ cd_321_1410, xpk_succ cd_321_1411, xpk_succ cd_321_1412, xpk_succ cd_321_1413, xpk_succ cd_321_1414, xpk_succ cd_321_1415, xpk_succ cd_321_1416, xpk_succ cd_321_1417, xpk_succ cd_321_1418, xpk_succ cd_321_1419, xpk_succ cd_321_1420, xpk_succ cd_321_1421, xpk_succ cd_321_1422, xpk_succ cd_321_1425, xpk_succ cd_321_1426, a1, b1, a2, b2, v1, v2, k0, ks, E1, m1, ms, E2, w1, w2]
  exact y
set_option maxHeartbeats 2000000 in
theorem lcs_40 {β L k : Nat} {xs : Nat → Int} {h : AH} {Q : Option AV → AH → Prop} (hx : ∀ i, -2147483648 ≤ xs i ∧ xs i ≤ 2147483647) (hk : 6 * k + 6 ≤ L) (hl : L ≤ 3072) (hb : β + 24 ≤ 20000) (hL : LI β L xs h) (nx : ∀ h', LI (β + 24) L xs h' → XP 1000 321 1540 [some (vR 1000100), some (vR 0), some (vR 76), some (vI ((6 * k : Nat) : Int))] [] h' Q) : XP 1000 321 1429 [some (vR 1000100), some (vR 0), some (vR 76), some (vI ((6 * k : Nat) : Int))] [] h Q := by
  obtain ⟨a1, b1⟩ := lw_j (j := 1) hk hl (by decide)
  have a1 : w32 (((6 * k : Nat) : Int) + 1) = ((6 * k + 1 : Nat) : Int) := a1
  obtain ⟨k0, k1, ks, vs⟩ := LI_s hL
  have v1 := vs (6 * k + 1)
  obtain ⟨rE1, h1, ⟨vE1, rfl, yE1, rfl, -⟩, l1, E1⟩ := LI_k (okM167 (β := β)) (by decide +kernel) (by decide +kernel) (vs := [vR 0, vI (xs (6 * k + 1))]) ⟨_, _, rfl, rfl, _, _, rfl, ⟨_, rfl, hx _⟩, rfl⟩ hL
  have E1 : ∀ Q : Option AV → AH → Prop, XC 1000 167 [vR 0, vI (xs (6 * k + 1))] h Q = Q (some (vI yE1)) h1 := E1
  obtain ⟨m0, m1, ms, ws⟩ := LI_s l1
  have w1 := ws (6 * k + 1)
  obtain ⟨rE2, h2, ⟨vE2, rfl, yE2, rfl, -⟩, l2, E2⟩ := LI_k (okM316 (β := β)) (by decide +kernel) (by decide +kernel) (vs := [vR 76, vI (xs (6 * k + 1))]) ⟨_, _, rfl, rfl, _, _, rfl, ⟨_, rfl, hx _⟩, rfl⟩ l1
  have E2 : ∀ Q : Option AV → AH → Prop, XC 1000 316 [vR 76, vI (xs (6 * k + 1))] h1 Q = Q (some (vI yE2)) h2 := E2
  have y := nx h2 (LI_m (Nat.le_add_right _ _) l2)
  refine xpk_sound (stops := [1540]) (n := 90) ?_
  simp only [sk_0, sk_1, sk_2, sk_3, sk_4, sk_5, sk_6, sk_7, sk_8, sk_iadd, sk_isub, sk_imul, sk_iand, sk_ior, sk_ixor, sk_ishl, sk_ishr, sk_iushr, sk_idiv, sk_irem, sk_ineg, sk_ladd, sk_lsub, sk_lmul, sk_land, sk_lor, sk_ldiv, sk_lrem, sk_lneg, sk_lshl, sk_lshr, sk_i2l, sk_l2i, sk_lcmp, sk_dupI, sk_dupR, sk_dup2L, sk_dup2I, sk_popI, sk_ifeq, sk_ifne, sk_iflt, sk_ifge, sk_ifgt, sk_ifle, sk_iceq, sk_icne, sk_iclt, sk_icge, sk_icgt, sk_icle, sk_goto, sk_getf, sk_putf, sk_gets, sk_iald, sk_lald, sk_bald, sk_aald, sk_iast, sk_last, sk_bast, sk_aast, sk_alen, sk_newa, sk_newt, sk_new, sk_cs1, sk_cs2, sk_cs3, sk_cs4, sk_cs5, sk_cs6, sk_cv1, sk_cv2, sk_cv3, sk_cv4, sk_cv5, sk_cv6, sk_ci1, sk_ci2, sk_ci3, sk_ret0, sk_retI, sk_retL, sk_retR, sk_sw, sk_oin, sk_max, sk_min, sk_abs, lI_0, lI_s, lL_0, lL_s, lR_0, lR_s, vIo_e, vLo_e, vOo_e, stW_I, stW_L, stW_R, stW_0, stW_z, okSt_0, okSt_s, hV_eq, hK_eq, okF_0, okF_1, okF_3, is01_0, is01_1, is01_i, Int.toNat_natCast, Int.reduceEq, Int.reduceLE, Int.reduceLT, Int.reduceNeg, Nat.reduceLT, not_true_eq_false, not_false_eq_true, reduceIte, Option.toList, List.cons_append, List.nil_append, List.set_cons_zero, List.set_cons_succ, List.not_mem_nil, List.mem_cons, if_false, if_true, ite_true, ite_false, and_self, and_true, true_and, Nat.reduceAdd, Nat.reduceLeDiff, Nat.reduceEqDiff, Nat.zero_add, Nat.le_refl, Nat.zero_le, or_false, false_or, Int.reduceToNat, or_true, true_or, eq_self, and_false, false_and, inR_d, nc_4, nc_5, nc_6, nc_7, nc_8, nc_16, nc_18, nc_20, nc_24, nc_32, nc_40, nc_64, nc_104, nc_120, nc_160, nc_256, nc_300, nc_330, nc_390, nc_1200, nc_1260, nc_3012, nc_9834, okSt_1i, okSt_1r, okSt_1n, List.length_cons, List.length_nil, sk_55, xpk_succ cd_321_1429, xpk_succ cd_321_1430, xpk_succ cd_321_1431, xpk_succ cd_321_1432, xpk_succ cd_321_1433, xpk_succ cd_321_1434, xpk_succ cd_321_1435, xpk_succ cd_321_1438, xpk_succ cd_321_1439, xpk_succ cd_321_1440, xpk_succ cd_321_1441, xpk_succ cd_321_1442, xpk_succ cd_321_1443, xpk_succ cd_321_1444, xpk_succ cd_321_1445, xpk_succ cd_321_1448, xpk_succ cd_321_1449, a1, b1, v1, k0, ks, E1, m1, ms, E2, w1]
  exact y
set_option maxHeartbeats 2000000 in
theorem lcs_41 {β L k : Nat} {xs : Nat → Int} {h : AH} {Q : Option AV → AH → Prop} (hx : ∀ i, -2147483648 ≤ xs i ∧ xs i ≤ 2147483647) (hk : 6 * k + 6 ≤ L) (hl : L ≤ 3072) (hb : β + 24 ≤ 20000) (hL : LI β L xs h) (nx : ∀ h', LI (β + 24) L xs h' → XP 1000 321 1540 [some (vR 1000100), some (vR 0), some (vR 76), some (vI ((6 * k : Nat) : Int))] [] h' Q) : XP 1000 321 1452 [some (vR 1000100), some (vR 0), some (vR 76), some (vI ((6 * k : Nat) : Int))] [] h Q := by
  obtain ⟨a1, b1⟩ := lw_j (j := 1) hk hl (by decide)
  have a1 : w32 (((6 * k : Nat) : Int) + 1) = ((6 * k + 1 : Nat) : Int) := a1
  obtain ⟨k0, k1, ks, vs⟩ := LI_s hL
  have v1 := vs (6 * k + 1)
  by_cases zz : xs (6 * k + 1) = 0
  · obtain ⟨rE1, h1, ⟨vE1, rfl, yE1, rfl, -⟩, l1, E1⟩ := LI_k (okM168 (β := β)) (by decide +kernel) (by decide +kernel) (vs := [vR 0, vI 0]) ⟨_, _, rfl, rfl, _, _, rfl, ⟨0, rfl, by decide, by decide⟩, rfl⟩ hL
    have E1 : ∀ Q : Option AV → AH → Prop, XC 1000 168 [vR 0, vI 0] h Q = Q (some (vI yE1)) h1 := E1
    obtain ⟨m0, m1, ms, ws⟩ := LI_s l1
    have w1 := ws (6 * k + 1)
    obtain ⟨rE2, h2, ⟨vE2, rfl, yE2, rfl, -⟩, l2, E2⟩ := LI_k (hok317_0 (β := β)) (by decide +kernel) (by decide +kernel) (vs := [vR 76, vI 0]) ⟨_, _, rfl, rfl, _, _, rfl, ⟨0, rfl, by decide, by decide⟩, rfl⟩ l1
    have E2 : ∀ Q : Option AV → AH → Prop, XC 1000 317 [vR 76, vI 0] h1 Q = Q (some (vI yE2)) h2 := E2
    have y := nx h2 (LI_m (Nat.le_add_right _ _) l2)
    refine xpk_sound (stops := [1540]) (n := 90) ?_
    simp only [sk_0, sk_1, sk_2, sk_3, sk_4, sk_5, sk_6, sk_7, sk_8, sk_iadd, sk_isub, sk_imul, sk_iand, sk_ior, sk_ixor, sk_ishl, sk_ishr, sk_iushr, sk_idiv, sk_irem, sk_ineg, sk_ladd, sk_lsub, sk_lmul, sk_land, sk_lor, sk_ldiv, sk_lrem, sk_lneg, sk_lshl, sk_lshr, sk_i2l, sk_l2i, sk_lcmp, sk_dupI, sk_dupR, sk_dup2L, sk_dup2I, sk_popI, sk_ifeq, sk_ifne, sk_iflt, sk_ifge, sk_ifgt, sk_ifle, sk_iceq, sk_icne, sk_iclt, sk_icge, sk_icgt, sk_icle, sk_goto, sk_getf, sk_putf, sk_gets, sk_iald, sk_lald, sk_bald, sk_aald, sk_iast, sk_last, sk_bast, sk_aast, sk_alen, sk_newa, sk_newt, sk_new, sk_cs1, sk_cs2, sk_cs3, sk_cs4, sk_cs5, sk_cs6, sk_cv1, sk_cv2, sk_cv3, sk_cv4, sk_cv5, sk_cv6, sk_ci1, sk_ci2, sk_ci3, sk_ret0, sk_retI, sk_retL, sk_retR, sk_sw, sk_oin, sk_max, sk_min, sk_abs, lI_0, lI_s, lL_0, lL_s, lR_0, lR_s, vIo_e, vLo_e, vOo_e, stW_I, stW_L, stW_R, stW_0, stW_z, okSt_0, okSt_s, hV_eq, hK_eq, okF_0, okF_1, okF_3, is01_0, is01_1, is01_i, Int.toNat_natCast, Int.reduceEq, Int.reduceLE, Int.reduceLT, Int.reduceNeg, Nat.reduceLT, not_true_eq_false, not_false_eq_true, reduceIte, Option.toList, List.cons_append, List.nil_append, List.set_cons_zero, List.set_cons_succ, List.not_mem_nil, List.mem_cons, if_false, if_true, ite_true, ite_false, and_self, and_true, true_and, Nat.reduceAdd, Nat.reduceLeDiff, Nat.reduceEqDiff, Nat.zero_add, Nat.le_refl, Nat.zero_le, or_false, false_or, Int.reduceToNat, or_true, true_or, eq_self, and_false, false_and, inR_d, nc_4, nc_5, nc_6, nc_7, nc_8, nc_16, nc_18, nc_20, nc_24, nc_32, nc_40, nc_64, nc_104, nc_120, nc_160, nc_256, nc_300, nc_330, nc_390, nc_1200, nc_1260, nc_3012, nc_9834, okSt_1i, okSt_1r, okSt_1n, List.length_cons, List.length_nil, sk_55, xpk_succ cd_321_1452, xpk_succ cd_321_1453, xpk_succ cd_321_1454, xpk_succ cd_321_1455, xpk_succ cd_321_1456, xpk_succ cd_321_1457, xpk_succ cd_321_1458, xpk_succ cd_321_1461, xpk_succ cd_321_1462, xpk_succ cd_321_1465, xpk_succ cd_321_1466, xpk_succ cd_321_1469, xpk_succ cd_321_1470, xpk_succ cd_321_1471, xpk_succ cd_321_1472, xpk_succ cd_321_1473, xpk_succ cd_321_1474, xpk_succ cd_321_1475, xpk_succ cd_321_1476, xpk_succ cd_321_1479, xpk_succ cd_321_1480, xpk_succ cd_321_1483, xpk_succ cd_321_1484, xpk_succ cd_321_1487, xpk_succ cd_321_1488, a1, b1, v1, k0, ks, E1, m1, ms, E2, w1, zz]
    exact y
  · obtain ⟨rE1, h1, ⟨vE1, rfl, yE1, rfl, -⟩, l1, E1⟩ := LI_k (okM168 (β := β)) (by decide +kernel) (by decide +kernel) (vs := [vR 0, vI 1]) ⟨_, _, rfl, rfl, _, _, rfl, ⟨1, rfl, by decide, by decide⟩, rfl⟩ hL
    have E1 : ∀ Q : Option AV → AH → Prop, XC 1000 168 [vR 0, vI 1] h Q = Q (some (vI yE1)) h1 := E1
    obtain ⟨m0, m1, ms, ws⟩ := LI_s l1
    have w1 := ws (6 * k + 1)
    obtain ⟨rE2, h2, ⟨vE2, rfl, yE2, rfl, -⟩, l2, E2⟩ := LI_k (hok317_0 (β := β)) (by decide +kernel) (by decide +kernel) (vs := [vR 76, vI 1]) ⟨_, _, rfl, rfl, _, _, rfl, ⟨1, rfl, by decide, by decide⟩, rfl⟩ l1
    have E2 : ∀ Q : Option AV → AH → Prop, XC 1000 317 [vR 76, vI 1] h1 Q = Q (some (vI yE2)) h2 := E2
    have y := nx h2 (LI_m (Nat.le_add_right _ _) l2)
    refine xpk_sound (stops := [1540]) (n := 90) ?_
    simp only [sk_0, sk_1, sk_2, sk_3, sk_4, sk_5, sk_6, sk_7, sk_8, sk_iadd, sk_isub, sk_imul, sk_iand, sk_ior, sk_ixor, sk_ishl, sk_ishr, sk_iushr, sk_idiv, sk_irem, sk_ineg, sk_ladd, sk_lsub, sk_lmul, sk_land, sk_lor, sk_ldiv, sk_lrem, sk_lneg, sk_lshl, sk_lshr, sk_i2l, sk_l2i, sk_lcmp, sk_dupI, sk_dupR, sk_dup2L, sk_dup2I, sk_popI, sk_ifeq, sk_ifne, sk_iflt, sk_ifge, sk_ifgt, sk_ifle, sk_iceq, sk_icne, sk_iclt, sk_icge, sk_icgt, sk_icle, sk_goto, sk_getf, sk_putf, sk_gets, sk_iald, sk_lald, sk_bald, sk_aald, sk_iast, sk_last, sk_bast, sk_aast, sk_alen, sk_newa, sk_newt, sk_new, sk_cs1, sk_cs2, sk_cs3, sk_cs4, sk_cs5, sk_cs6, sk_cv1, sk_cv2, sk_cv3, sk_cv4, sk_cv5, sk_cv6, sk_ci1, sk_ci2, sk_ci3, sk_ret0, sk_retI, sk_retL, sk_retR, sk_sw, sk_oin, sk_max, sk_min, sk_abs, lI_0, lI_s, lL_0, lL_s, lR_0, lR_s, vIo_e, vLo_e, vOo_e, stW_I, stW_L, stW_R, stW_0, stW_z, okSt_0, okSt_s, hV_eq, hK_eq, okF_0, okF_1, okF_3, is01_0, is01_1, is01_i, Int.toNat_natCast, Int.reduceEq, Int.reduceLE, Int.reduceLT, Int.reduceNeg, Nat.reduceLT, not_true_eq_false, not_false_eq_true, reduceIte, Option.toList, List.cons_append, List.nil_append, List.set_cons_zero, List.set_cons_succ, List.not_mem_nil, List.mem_cons, if_false, if_true, ite_true, ite_false, and_self, and_true, true_and, Nat.reduceAdd, Nat.reduceLeDiff, Nat.reduceEqDiff, Nat.zero_add, Nat.le_refl, Nat.zero_le, or_false, false_or, Int.reduceToNat, or_true, true_or, eq_self, and_false, false_and, inR_d, nc_4, nc_5, nc_6, nc_7, nc_8, nc_16, nc_18, nc_20, nc_24, nc_32, nc_40, nc_64, nc_104, nc_120, nc_160, nc_256, nc_300, nc_330, nc_390, nc_1200, nc_1260, nc_3012, nc_9834, okSt_1i, okSt_1r, okSt_1n, List.length_cons, List.length_nil, sk_55, xpk_succ cd_321_1452, xpk_succ cd_321_1453, xpk_succ cd_321_1454, xpk_succ cd_321_1455, xpk_succ cd_321_1456, xpk_succ cd_321_1457, xpk_succ cd_321_1458, xpk_succ cd_321_1461, xpk_succ cd_321_1462, xpk_succ cd_321_1465, xpk_succ cd_321_1466, xpk_succ cd_321_1469, xpk_succ cd_321_1470, xpk_succ cd_321_1471, xpk_succ cd_321_1472, xpk_succ cd_321_1473, xpk_succ cd_321_1474, xpk_succ cd_321_1475, xpk_succ cd_321_1476, xpk_succ cd_321_1479, xpk_succ cd_321_1480, xpk_succ cd_321_1483, xpk_succ cd_321_1484, xpk_succ cd_321_1487, xpk_succ cd_321_1488, a1, b1, v1, k0, ks, E1, m1, ms, E2, w1, zz]
    exact y
set_option maxHeartbeats 2000000 in
theorem lcs_42 {β L k : Nat} {xs : Nat → Int} {h : AH} {Q : Option AV → AH → Prop} (hx : ∀ i, -2147483648 ≤ xs i ∧ xs i ≤ 2147483647) (hk : 6 * k + 6 ≤ L) (hl : L ≤ 3072) (hb : β + 24 ≤ 20000) (hL : LI β L xs h) (nx : ∀ h', LI (β + 24) L xs h' → XP 1000 321 1540 [some (vR 1000100), some (vR 0), some (vR 76), some (vI ((6 * k : Nat) : Int))] [] h' Q) : XP 1000 321 1491 [some (vR 1000100), some (vR 0), some (vR 76), some (vI ((6 * k : Nat) : Int))] [] h Q := by
  obtain ⟨k0, k1, ks, vs⟩ := LI_s hL
  obtain ⟨rE1, h1, ⟨vE1, rfl, yE1, rfl, -⟩, l1, E1⟩ := LI_k (okM169 (β := β)) (by decide +kernel) (by decide +kernel) (vs := [vR 0]) ⟨_, _, rfl, rfl, rfl⟩ hL
  have E1 : ∀ Q : Option AV → AH → Prop, XC 1000 169 [vR 0] h Q = Q (some (vI yE1)) h1 := E1
  obtain ⟨m0, m1, ms, ws⟩ := LI_s l1
  obtain ⟨rE2, h2, ⟨vE2, rfl, yE2, rfl, -⟩, l2, E2⟩ := LI_k (okM318 (β := β)) (by decide +kernel) (by decide +kernel) (vs := [vR 76]) ⟨_, _, rfl, rfl, rfl⟩ l1
  have E2 : ∀ Q : Option AV → AH → Prop, XC 1000 318 [vR 76] h1 Q = Q (some (vI yE2)) h2 := E2
  have y := nx h2 (LI_m (Nat.le_add_right _ _) l2)
  refine xpk_sound (stops := [1540]) (n := 90) ?_
  simp only [sk_0, sk_1, sk_2, sk_3, sk_4, sk_5, sk_6, sk_7, sk_8, sk_iadd, sk_isub, sk_imul, sk_iand, sk_ior, sk_ixor, sk_ishl, sk_ishr, sk_iushr, sk_idiv, sk_irem, sk_ineg, sk_ladd, sk_lsub, sk_lmul, sk_land, sk_lor, sk_ldiv, sk_lrem, sk_lneg, sk_lshl, sk_lshr, sk_i2l, sk_l2i, sk_lcmp, sk_dupI, sk_dupR, sk_dup2L, sk_dup2I, sk_popI, sk_ifeq, sk_ifne, sk_iflt, sk_ifge, sk_ifgt, sk_ifle, sk_iceq, sk_icne, sk_iclt, sk_icge, sk_icgt, sk_icle, sk_goto, sk_getf, sk_putf, sk_gets, sk_iald, sk_lald, sk_bald, sk_aald, sk_iast, sk_last, sk_bast, sk_aast, sk_alen, sk_newa, sk_newt, sk_new, sk_cs1, sk_cs2, sk_cs3, sk_cs4, sk_cs5, sk_cs6, sk_cv1, sk_cv2, sk_cv3, sk_cv4, sk_cv5, sk_cv6, sk_ci1, sk_ci2, sk_ci3, sk_ret0, sk_retI, sk_retL, sk_retR, sk_sw, sk_oin, sk_max, sk_min, sk_abs, lI_0, lI_s, lL_0, lL_s, lR_0, lR_s, vIo_e, vLo_e, vOo_e, stW_I, stW_L, stW_R, stW_0, stW_z, okSt_0, okSt_s, hV_eq, hK_eq, okF_0, okF_1, okF_3, is01_0, is01_1, is01_i, Int.toNat_natCast, Int.reduceEq, Int.reduceLE, Int.reduceLT, Int.reduceNeg, Nat.reduceLT, not_true_eq_false, not_false_eq_true, reduceIte, Option.toList, List.cons_append, List.nil_append, List.set_cons_zero, List.set_cons_succ, List.not_mem_nil, List.mem_cons, if_false, if_true, ite_true, ite_false, and_self, and_true, true_and, Nat.reduceAdd, Nat.reduceLeDiff, Nat.reduceEqDiff, Nat.zero_add, Nat.le_refl, Nat.zero_le, or_false, false_or, Int.reduceToNat, or_true, true_or, eq_self, and_false, false_and, inR_d, nc_4, nc_5, nc_6, nc_7, nc_8, nc_16, nc_18, nc_20, nc_24, nc_32, nc_40, nc_64, nc_104, nc_120, nc_160, nc_256, nc_300, nc_330, nc_390, nc_1200, nc_1260, nc_3012, nc_9834, okSt_1i, okSt_1r, okSt_1n, List.length_cons, List.length_nil, sk_55, xpk_succ cd_321_1491, xpk_succ cd_321_1492, xpk_succ cd_321_1495, xpk_succ cd_321_1496, xpk_succ cd_321_1497, xpk_succ cd_321_1500, xpk_succ cd_321_1501, k0, ks, E1, m1, ms, E2]
  exact y
set_option maxHeartbeats 2000000 in
theorem lcs_43 {β L k : Nat} {xs : Nat → Int} {h : AH} {Q : Option AV → AH → Prop} (hx : ∀ i, -2147483648 ≤ xs i ∧ xs i ≤ 2147483647) (hk : 6 * k + 6 ≤ L) (hl : L ≤ 3072) (hb : β + 24 ≤ 20000) (hL : LI β L xs h) (nx : ∀ h', LI (β + 24) L xs h' → XP 1000 321 1540 [some (vR 1000100), some (vR 0), some (vR 76), some (vI ((6 * k : Nat) : Int))] [] h' Q) : XP 1000 321 1504 [some (vR 1000100), some (vR 0), some (vR 76), some (vI ((6 * k : Nat) : Int))] [] h Q := by
  obtain ⟨k0, k1, ks, vs⟩ := LI_s hL
  obtain ⟨rE1, h1, ⟨vE1, rfl, yE1, rfl, -⟩, l1, E1⟩ := LI_k (okM170 (β := β)) (by decide +kernel) (by decide +kernel) (vs := [vR 0]) ⟨_, _, rfl, rfl, rfl⟩ hL
  have E1 : ∀ Q : Option AV → AH → Prop, XC 1000 170 [vR 0] h Q = Q (some (vI yE1)) h1 := E1
  obtain ⟨m0, m1, ms, ws⟩ := LI_s l1
  obtain ⟨rE2, h2, ⟨vE2, rfl, yE2, rfl, -⟩, l2, E2⟩ := LI_k (okM319 (β := β)) (by decide +kernel) (by decide +kernel) (vs := [vR 76]) ⟨_, _, rfl, rfl, rfl⟩ l1
  have E2 : ∀ Q : Option AV → AH → Prop, XC 1000 319 [vR 76] h1 Q = Q (some (vI yE2)) h2 := E2
  have y := nx h2 (LI_m (Nat.le_add_right _ _) l2)
  refine xpk_sound (stops := [1540]) (n := 90) ?_
  simp only [sk_0, sk_1, sk_2, sk_3, sk_4, sk_5, sk_6, sk_7, sk_8, sk_iadd, sk_isub, sk_imul, sk_iand, sk_ior, sk_ixor, sk_ishl, sk_ishr, sk_iushr, sk_idiv, sk_irem, sk_ineg, sk_ladd, sk_lsub, sk_lmul, sk_land, sk_lor, sk_ldiv, sk_lrem, sk_lneg, sk_lshl, sk_lshr, sk_i2l, sk_l2i, sk_lcmp, sk_dupI, sk_dupR, sk_dup2L, sk_dup2I, sk_popI, sk_ifeq, sk_ifne, sk_iflt, sk_ifge, sk_ifgt, sk_ifle, sk_iceq, sk_icne, sk_iclt, sk_icge, sk_icgt, sk_icle, sk_goto, sk_getf, sk_putf, sk_gets, sk_iald, sk_lald, sk_bald, sk_aald, sk_iast, sk_last, sk_bast, sk_aast, sk_alen, sk_newa, sk_newt, sk_new, sk_cs1, sk_cs2, sk_cs3, sk_cs4, sk_cs5, sk_cs6, sk_cv1, sk_cv2, sk_cv3, sk_cv4, sk_cv5, sk_cv6, sk_ci1, sk_ci2, sk_ci3, sk_ret0, sk_retI, sk_retL, sk_retR, sk_sw, sk_oin, sk_max, sk_min, sk_abs, lI_0, lI_s, lL_0, lL_s, lR_0, lR_s, vIo_e, vLo_e, vOo_e, stW_I, stW_L, stW_R, stW_0, stW_z, okSt_0, okSt_s, hV_eq, hK_eq, okF_0, okF_1, okF_3, is01_0, is01_1, is01_i, Int.toNat_natCast, Int.reduceEq, Int.reduceLE, Int.reduceLT, Int.reduceNeg, Nat.reduceLT, not_true_eq_false, not_false_eq_true, reduceIte, Option.toList, List.cons_append, List.nil_append, List.set_cons_zero, List.set_cons_succ, List.not_mem_nil, List.mem_cons, if_false, if_true, ite_true, ite_false, and_self, and_true, true_and, Nat.reduceAdd, Nat.reduceLeDiff, Nat.reduceEqDiff, Nat.zero_add, Nat.le_refl, Nat.zero_le, or_false, false_or, Int.reduceToNat, or_true, true_or, eq_self, and_false, false_and, inR_d, nc_4, nc_5, nc_6, nc_7, nc_8, nc_16, nc_18, nc_20, nc_24, nc_32, nc_40, nc_64, nc_104, nc_120, nc_160, nc_256, nc_300, nc_330, nc_390, nc_1200, nc_1260, nc_3012, nc_9834, okSt_1i, okSt_1r, okSt_1n, List.length_cons, List.length_nil, sk_55, xpk_succ cd_321_1504, xpk_succ cd_321_1505, xpk_succ cd_321_1508, xpk_succ cd_321_1509, xpk_succ cd_321_1510, xpk_succ cd_321_1513, xpk_succ cd_321_1514, k0, ks, E1, m1, ms, E2]
  exact y
set_option maxHeartbeats 2000000 in
theorem lcs_44 {β L k : Nat} {xs : Nat → Int} {h : AH} {Q : Option AV → AH → Prop} (hx : ∀ i, -2147483648 ≤ xs i ∧ xs i ≤ 2147483647) (hk : 6 * k + 6 ≤ L) (hl : L ≤ 3072) (hb : β + 24 ≤ 20000) (hL : LI β L xs h) (nx : ∀ h', LI (β + 24) L xs h' → XP 1000 321 1540 [some (vR 1000100), some (vR 0), some (vR 76), some (vI ((6 * k : Nat) : Int))] [] h' Q) : XP 1000 321 1517 [some (vR 1000100), some (vR 0), some (vR 76), some (vI ((6 * k : Nat) : Int))] [] h Q := by
  obtain ⟨a1, b1⟩ := lw_j (j := 1) hk hl (by decide)
  have a1 : w32 (((6 * k : Nat) : Int) + 1) = ((6 * k + 1 : Nat) : Int) := a1
  obtain ⟨k0, k1, ks, vs⟩ := LI_s hL
  have v1 := vs (6 * k + 1)
  obtain ⟨rE1, h1, ⟨vE1, rfl, yE1, rfl, -⟩, l1, E1⟩ := LI_k (okM171 (β := β)) (by decide +kernel) (by decide +kernel) (vs := [vR 0, vI (xs (6 * k + 1))]) ⟨_, _, rfl, rfl, _, _, rfl, ⟨_, rfl, hx _⟩, rfl⟩ hL
  have E1 : ∀ Q : Option AV → AH → Prop, XC 1000 171 [vR 0, vI (xs (6 * k + 1))] h Q = Q (some (vI yE1)) h1 := E1
  obtain ⟨m0, m1, ms, ws⟩ := LI_s l1
  have w1 := ws (6 * k + 1)
  obtain ⟨rE2, h2, ⟨vE2, rfl, yE2, rfl, -⟩, l2, E2⟩ := LI_k (okM320 (β := β)) (by decide +kernel) (by decide +kernel) (vs := [vR 76, vI (xs (6 * k + 1))]) ⟨_, _, rfl, rfl, _, _, rfl, ⟨_, rfl, hx _⟩, rfl⟩ l1
  have E2 : ∀ Q : Option AV → AH → Prop, XC 1000 320 [vR 76, vI (xs (6 * k + 1))] h1 Q = Q (some (vI yE2)) h2 := E2
  have y := nx h2 (LI_m (Nat.le_add_right _ _) l2)
  refine xpk_sound (stops := [1540]) (n := 90) ?_
  simp only [sk_0, sk_1, sk_2, sk_3, sk_4, sk_5, sk_6, sk_7, sk_8, sk_iadd, sk_isub, sk_imul, sk_iand, sk_ior, sk_ixor, sk_ishl, sk_ishr, sk_iushr, sk_idiv, sk_irem, sk_ineg, sk_ladd, sk_lsub, sk_lmul, sk_land, sk_lor, sk_ldiv, sk_lrem, sk_lneg, sk_lshl, sk_lshr, sk_i2l, sk_l2i, sk_lcmp, sk_dupI, sk_dupR, sk_dup2L, sk_dup2I, sk_popI, sk_ifeq, sk_ifne, sk_iflt, sk_ifge, sk_ifgt, sk_ifle, sk_iceq, sk_icne, sk_iclt, sk_icge, sk_icgt, sk_icle, sk_goto, sk_getf, sk_putf, sk_gets, sk_iald, sk_lald, sk_bald, sk_aald, sk_iast, sk_last, sk_bast, sk_aast, sk_alen, sk_newa, sk_newt, sk_new, sk_cs1, sk_cs2, sk_cs3, sk_cs4, sk_cs5, sk_cs6, sk_cv1, sk_cv2, sk_cv3, sk_cv4, sk_cv5, sk_cv6, sk_ci1, sk_ci2, sk_ci3, sk_ret0, sk_retI, sk_retL, sk_retR, sk_sw, sk_oin, sk_max, sk_min, sk_abs, lI_0, lI_s, lL_0, lL_s, lR_0, lR_s, vIo_e, vLo_e, vOo_e, stW_I, stW_L, stW_R, stW_0, stW_z, okSt_0, okSt_s, hV_eq, hK_eq, okF_0, okF_1, okF_3, is01_0, is01_1, is01_i, Int.toNat_natCast, Int.reduceEq, Int.reduceLE, Int.reduceLT, Int.reduceNeg, Nat.reduceLT, not_true_eq_false, not_false_eq_true, reduceIte, Option.toList, List.cons_append, List.nil_append, List.set_cons_zero, List.set_cons_succ, List.not_mem_nil, List.mem_cons, if_false, if_true, ite_true, ite_false, and_self, and_true, true_and, Nat.reduceAdd, Nat.reduceLeDiff, Nat.reduceEqDiff, Nat.zero_add, Nat.le_refl, Nat.zero_le, or_false, false_or, Int.reduceToNat, or_true, true_or, eq_self, and_false, false_and, inR_d, nc_4, nc_5, nc_6, nc_7, nc_8, nc_16, nc_18, nc_20, nc_24, nc_32, nc_40, nc_64, nc_104, nc_120, nc_160, nc_256, nc_300, nc_330, nc_390, nc_1200, nc_1260, nc_3012, nc_9834, okSt_1i, okSt_1r, okSt_1n, List.length_cons, List.length_nil, sk_55, xpk_succ cd_321_1517, xpk_succ cd_321_1518, xpk_succ cd_321_1519, xpk_succ cd_321_1520, xpk_succ cd_321_1521, xpk_succ cd_321_1522, xpk_succ cd_321_1523, xpk_succ cd_321_1526, xpk_succ cd_321_1527, xpk_succ cd_321_1528, xpk_succ cd_321_1529, xpk_succ cd_321_1530, xpk_succ cd_321_1531, xpk_succ cd_321_1532, xpk_succ cd_321_1533, xpk_succ cd_321_1536, xpk_succ cd_321_1537, a1, b1, v1, k0, ks, E1, m1, ms, E2, w1]
  exact y
