theorem mPre_lo {h : AH} (hn : hN h = 77) {k : Nat} (hk : k < 76 ∨ 93 ≤ k) : hK (mPre h) k = hK h k ∧ ∀ i, hV (mPre h) k i = hV h k i := by
  unfold mPre
  refine ⟨?_, fun i => ?_⟩
  · simp only [hK_eq, hK_new, hN_set, hN_new, hn, Nat.reduceAdd, if_false, show ¬ k = 76 from by omega, show ¬ k = 77 from by omega, show ¬ k = 78 from by omega, show ¬ k = 79 from by omega, show ¬ k = 80 from by omega, show ¬ k = 81 from by omega, show ¬ k = 82 from by omega, show ¬ k = 83 from by omega, show ¬ k = 84 from by omega, show ¬ k = 85 from by omega, show ¬ k = 86 from by omega, show ¬ k = 87 from by omega, show ¬ k = 88 from by omega, show ¬ k = 89 from by omega, show ¬ k = 90 from by omega, show ¬ k = 91 from by omega, show ¬ k = 92 from by omega]
  · simp only [hV_eq, hV_new, hN_set, hN_new, hn, Nat.reduceAdd, if_false, false_and, show ¬ k = 76 from by omega, show ¬ k = 77 from by omega, show ¬ k = 78 from by omega, show ¬ k = 79 from by omega, show ¬ k = 80 from by omega, show ¬ k = 81 from by omega, show ¬ k = 82 from by omega, show ¬ k = 83 from by omega, show ¬ k = 84 from by omega, show ¬ k = 85 from by omega, show ¬ k = 86 from by omega, show ¬ k = 87 from by omega, show ¬ k = 88 from by omega, show ¬ k = 89 from by omega, show ¬ k = 90 from by omega, show ¬ k = 91 from by omega, show ¬ k = 92 from by omega]
theorem mPre_N {h : AH} (hn : hN h = 77) : hN (mPre h) = 93 := by
  unfold mPre
  simp only [hN_set, hN_new, hn, Nat.reduceAdd]
theorem mPre_S {h : AH} : hS (mPre h) = hS h + 25074 := by
  have e : hS (mPre h) = hS h + 9834 + 9834 + 3012 + 300 + 160 + 8 + 330 + 330 + 18 + 1200 + 8 + 8 + 8 + 8 + 8 + 8 := rfl
  exact e.trans (by omega)
theorem mF_V0 (i : Nat) : V0 77 i = vI (mF i) ∧ V0 78 i = vI (mF i) := by
  have h1 : ∀ i, i < 18 → V0 77 i = vI (mF i) ∧ V0 78 i = vI (mF i) := by decide +kernel
  rcases Nat.lt_or_ge i 18 with z | z
  · exact h1 i z
  · have e1 : mF i = 0 := by
      unfold mF
      rw [if_neg (by omega), if_neg (by omega), if_neg (by omega), if_neg (by omega), if_neg (by omega)]
    have e2 : ∀ (l : List AV), l.length ≤ i → l.getD i (vI 0) = vI 0 := fun l hl => by
      rw [List.getD_eq_getElem?_getD, List.getElem?_eq_none hl]; rfl
    rw [e1]
    exact ⟨e2 _ z, e2 _ z⟩
set_option maxHeartbeats 4000000 in
theorem mPre_76 {h : AH} (hn : hN h = 77) (hk : hK h 76 = (10, 0)) (hv : ∀ i, hV h 76 i = dfO 10 i) : hK (mPre h) 76 = K0 76 ∧ ∀ i, i < 37 → hV (mPre h) 76 i = V0 76 i := by
  unfold mPre
  refine ⟨?_, fun i hi => ?_⟩
  · simp only [hV_eq, hV_new, hK_eq, hK_new, hN_set, hN_new, hn, Nat.reduceAdd, Nat.reduceEqDiff, if_true, if_false, false_and, true_and, and_true, and_false, hk]; rfl
  · simp only [hV_eq, hV_new, hK_eq, hK_new, hN_set, hN_new, hn, Nat.reduceAdd, Nat.reduceEqDiff, if_true, if_false, false_and, true_and, and_true, and_false, hv]
    match i, hi with
    | 0, _ => rfl
    | 1, _ => rfl
    | 2, _ => rfl
    | 3, _ => rfl
    | 4, _ => rfl
    | 5, _ => rfl
    | 6, _ => rfl
    | 7, _ => rfl
    | 8, _ => rfl
    | 9, _ => rfl
    | 10, _ => rfl
    | 11, _ => rfl
    | 12, _ => rfl
    | 13, _ => rfl
    | 14, _ => rfl
    | 15, _ => rfl
    | 16, _ => rfl
    | 17, _ => rfl
    | 18, _ => rfl
    | 19, _ => rfl
    | 20, _ => rfl
    | 21, _ => rfl
    | 22, _ => rfl
    | 23, _ => rfl
    | 24, _ => rfl
    | 25, _ => rfl
    | 26, _ => rfl
    | 27, _ => rfl
    | 28, _ => rfl
    | 29, _ => rfl
    | 30, _ => rfl
    | 31, _ => rfl
    | 32, _ => rfl
    | 33, _ => rfl
    | 34, _ => rfl
    | 35, _ => rfl
    | 36, _ => rfl
    | n + 37, hi => exact absurd hi (by omega)
theorem mPre_79 {h : AH} (hn : hN h = 77) : hK (mPre h) 79 = K0 79 ∧ ∀ i, hV (mPre h) 79 i = V0 79 i := by
  unfold mPre
  refine ⟨?_, fun i => ?_⟩
  · simp only [hV_eq, hV_new, hK_eq, hK_new, hN_set, hN_new, hn, Nat.reduceAdd, Nat.reduceEqDiff, if_true, if_false, false_and, true_and, and_true, and_false]; rfl
  · simp only [hV_eq, hV_new, hK_eq, hK_new, hN_set, hN_new, hn, Nat.reduceAdd, Nat.reduceEqDiff, if_true, if_false, false_and, true_and, and_true, and_false]; rfl
theorem mPre_80 {h : AH} (hn : hN h = 77) : hK (mPre h) 80 = K0 80 ∧ ∀ i, hV (mPre h) 80 i = V0 80 i := by
  unfold mPre
  refine ⟨?_, fun i => ?_⟩
  · simp only [hV_eq, hV_new, hK_eq, hK_new, hN_set, hN_new, hn, Nat.reduceAdd, Nat.reduceEqDiff, if_true, if_false, false_and, true_and, and_true, and_false]; rfl
  · simp only [hV_eq, hV_new, hK_eq, hK_new, hN_set, hN_new, hn, Nat.reduceAdd, Nat.reduceEqDiff, if_true, if_false, false_and, true_and, and_true, and_false]; rfl
theorem mPre_81 {h : AH} (hn : hN h = 77) : hK (mPre h) 81 = K0 81 ∧ ∀ i, hV (mPre h) 81 i = V0 81 i := by
  unfold mPre
  refine ⟨?_, fun i => ?_⟩
  · simp only [hV_eq, hV_new, hK_eq, hK_new, hN_set, hN_new, hn, Nat.reduceAdd, Nat.reduceEqDiff, if_true, if_false, false_and, true_and, and_true, and_false]; rfl
  · simp only [hV_eq, hV_new, hK_eq, hK_new, hN_set, hN_new, hn, Nat.reduceAdd, Nat.reduceEqDiff, if_true, if_false, false_and, true_and, and_true, and_false]; rfl
theorem mPre_82 {h : AH} (hn : hN h = 77) : hK (mPre h) 82 = K0 82 ∧ ∀ i, hV (mPre h) 82 i = V0 82 i := by
  unfold mPre
  refine ⟨?_, fun i => ?_⟩
  · simp only [hV_eq, hV_new, hK_eq, hK_new, hN_set, hN_new, hn, Nat.reduceAdd, Nat.reduceEqDiff, if_true, if_false, false_and, true_and, and_true, and_false]; rfl
  · simp only [hV_eq, hV_new, hK_eq, hK_new, hN_set, hN_new, hn, Nat.reduceAdd, Nat.reduceEqDiff, if_true, if_false, false_and, true_and, and_true, and_false]; rfl
theorem mPre_83 {h : AH} (hn : hN h = 77) : hK (mPre h) 83 = K0 83 ∧ ∀ i, hV (mPre h) 83 i = V0 83 i := by
  unfold mPre
  refine ⟨?_, fun i => ?_⟩
  · simp only [hV_eq, hV_new, hK_eq, hK_new, hN_set, hN_new, hn, Nat.reduceAdd, Nat.reduceEqDiff, if_true, if_false, false_and, true_and, and_true, and_false]; rfl
  · simp only [hV_eq, hV_new, hK_eq, hK_new, hN_set, hN_new, hn, Nat.reduceAdd, Nat.reduceEqDiff, if_true, if_false, false_and, true_and, and_true, and_false]; rfl
theorem mPre_84 {h : AH} (hn : hN h = 77) : hK (mPre h) 84 = K0 84 ∧ ∀ i, hV (mPre h) 84 i = V0 84 i := by
  unfold mPre
  refine ⟨?_, fun i => ?_⟩
  · simp only [hV_eq, hV_new, hK_eq, hK_new, hN_set, hN_new, hn, Nat.reduceAdd, Nat.reduceEqDiff, if_true, if_false, false_and, true_and, and_true, and_false]; rfl
  · simp only [hV_eq, hV_new, hK_eq, hK_new, hN_set, hN_new, hn, Nat.reduceAdd, Nat.reduceEqDiff, if_true, if_false, false_and, true_and, and_true, and_false]; rfl
theorem mPre_85 {h : AH} (hn : hN h = 77) : hK (mPre h) 85 = K0 85 ∧ ∀ i, hV (mPre h) 85 i = V0 85 i := by
  unfold mPre
  refine ⟨?_, fun i => ?_⟩
  · simp only [hV_eq, hV_new, hK_eq, hK_new, hN_set, hN_new, hn, Nat.reduceAdd, Nat.reduceEqDiff, if_true, if_false, false_and, true_and, and_true, and_false]; rfl
  · simp only [hV_eq, hV_new, hK_eq, hK_new, hN_set, hN_new, hn, Nat.reduceAdd, Nat.reduceEqDiff, if_true, if_false, false_and, true_and, and_true, and_false]; rfl
theorem mPre_86 {h : AH} (hn : hN h = 77) : hK (mPre h) 86 = K0 86 ∧ ∀ i, hV (mPre h) 86 i = V0 86 i := by
  unfold mPre
  refine ⟨?_, fun i => ?_⟩
  · simp only [hV_eq, hV_new, hK_eq, hK_new, hN_set, hN_new, hn, Nat.reduceAdd, Nat.reduceEqDiff, if_true, if_false, false_and, true_and, and_true, and_false]; rfl
  · simp only [hV_eq, hV_new, hK_eq, hK_new, hN_set, hN_new, hn, Nat.reduceAdd, Nat.reduceEqDiff, if_true, if_false, false_and, true_and, and_true, and_false]; rfl
theorem mPre_87 {h : AH} (hn : hN h = 77) : hK (mPre h) 87 = K0 87 ∧ ∀ i, hV (mPre h) 87 i = V0 87 i := by
  unfold mPre
  refine ⟨?_, fun i => ?_⟩
  · simp only [hV_eq, hV_new, hK_eq, hK_new, hN_set, hN_new, hn, Nat.reduceAdd, Nat.reduceEqDiff, if_true, if_false, false_and, true_and, and_true, and_false]; rfl
  · simp only [hV_eq, hV_new, hK_eq, hK_new, hN_set, hN_new, hn, Nat.reduceAdd, Nat.reduceEqDiff, if_true, if_false, false_and, true_and, and_true, and_false]; rfl
theorem mPre_88 {h : AH} (hn : hN h = 77) : hK (mPre h) 88 = K0 88 ∧ ∀ i, hV (mPre h) 88 i = V0 88 i := by
  unfold mPre
  refine ⟨?_, fun i => ?_⟩
  · simp only [hV_eq, hV_new, hK_eq, hK_new, hN_set, hN_new, hn, Nat.reduceAdd, Nat.reduceEqDiff, if_true, if_false, false_and, true_and, and_true, and_false]; rfl
  · simp only [hV_eq, hV_new, hK_eq, hK_new, hN_set, hN_new, hn, Nat.reduceAdd, Nat.reduceEqDiff, if_true, if_false, false_and, true_and, and_true, and_false]; rfl
theorem mPre_89 {h : AH} (hn : hN h = 77) : hK (mPre h) 89 = K0 89 ∧ ∀ i, hV (mPre h) 89 i = V0 89 i := by
  unfold mPre
  refine ⟨?_, fun i => ?_⟩
  · simp only [hV_eq, hV_new, hK_eq, hK_new, hN_set, hN_new, hn, Nat.reduceAdd, Nat.reduceEqDiff, if_true, if_false, false_and, true_and, and_true, and_false]; rfl
  · simp only [hV_eq, hV_new, hK_eq, hK_new, hN_set, hN_new, hn, Nat.reduceAdd, Nat.reduceEqDiff, if_true, if_false, false_and, true_and, and_true, and_false]; rfl
theorem mPre_90 {h : AH} (hn : hN h = 77) : hK (mPre h) 90 = K0 90 ∧ ∀ i, hV (mPre h) 90 i = V0 90 i := by
  unfold mPre
  refine ⟨?_, fun i => ?_⟩
  · simp only [hV_eq, hV_new, hK_eq, hK_new, hN_set, hN_new, hn, Nat.reduceAdd, Nat.reduceEqDiff, if_true, if_false, false_and, true_and, and_true, and_false]; rfl
  · simp only [hV_eq, hV_new, hK_eq, hK_new, hN_set, hN_new, hn, Nat.reduceAdd, Nat.reduceEqDiff, if_true, if_false, false_and, true_and, and_true, and_false]; rfl
theorem mPre_91 {h : AH} (hn : hN h = 77) : hK (mPre h) 91 = K0 91 ∧ ∀ i, hV (mPre h) 91 i = V0 91 i := by
  unfold mPre
  refine ⟨?_, fun i => ?_⟩
  · simp only [hV_eq, hV_new, hK_eq, hK_new, hN_set, hN_new, hn, Nat.reduceAdd, Nat.reduceEqDiff, if_true, if_false, false_and, true_and, and_true, and_false]; rfl
  · simp only [hV_eq, hV_new, hK_eq, hK_new, hN_set, hN_new, hn, Nat.reduceAdd, Nat.reduceEqDiff, if_true, if_false, false_and, true_and, and_true, and_false]; rfl
theorem mPre_92 {h : AH} (hn : hN h = 77) : hK (mPre h) 92 = K0 92 ∧ ∀ i, hV (mPre h) 92 i = V0 92 i := by
  unfold mPre
  refine ⟨?_, fun i => ?_⟩
  · simp only [hV_eq, hV_new, hK_eq, hK_new, hN_set, hN_new, hn, Nat.reduceAdd, Nat.reduceEqDiff, if_true, if_false, false_and, true_and, and_true, and_false]; rfl
  · simp only [hV_eq, hV_new, hK_eq, hK_new, hN_set, hN_new, hn, Nat.reduceAdd, Nat.reduceEqDiff, if_true, if_false, false_and, true_and, and_true, and_false]; rfl
/-- both objects as they are fresh -/
def FR (L : Nat) (xs : Nat → Int) (h : AH) : Prop := hN h = 93 ∧ hS h = 32805 ∧ OUT L xs h ∧ ∀ k, k < 93 → hK h k = K0 k ∧ ∀ i, i < sz0 k → hV h k i = V0 k i
theorem FR_made {L : Nat} {xs : Nat → Int} {h1 : AH} (h76 : hN h1 = 76) (hs : hS h1 = 7694) (hf : FrC h1) (ho : OUT L xs h1) : FR L xs (hCpy (mPre (hNew h1 10 0 37 (dfO 10))) 77 0 78 0 9834) := by
  have hn : hN (hNew h1 10 0 37 (dfO 10)) = 77 := by rw [hN_new, h76]
  have hk : hK (hNew h1 10 0 37 (dfO 10)) 76 = (10, 0) := by rw [hK_new, h76, if_pos rfl]
  have hv : ∀ i, hV (hNew h1 10 0 37 (dfO 10)) 76 i = dfO 10 i := fun i => by rw [hV_new, h76, if_pos rfl]
  have hlo : ∀ k, k < 76 ∨ 93 ≤ k → hK (mPre (hNew h1 10 0 37 (dfO 10))) k = hK h1 k ∧ ∀ i, hV (mPre (hNew h1 10 0 37 (dfO 10))) k i = hV h1 k i := fun k hk => by
    obtain ⟨a, b⟩ := mPre_lo hn hk
    exact ⟨by rw [a, hK_new, h76, if_neg (by omega)], fun i => by rw [b, hV_new, h76, if_neg (by omega)]⟩
  refine ⟨mPre_N hn, ?_, ⟨?_, fun k h6 => ?_⟩, fun k h93 => ?_⟩
  · show hS (mPre (hNew h1 10 0 37 (dfO 10))) = 32805
    rw [mPre_S, hS_new, hs]
  · show hN (mPre (hNew h1 10 0 37 (dfO 10))) ≤ 5000
    rw [mPre_N hn]; decide
  · obtain ⟨a, b⟩ := hlo k (Or.inr (by omega))
    rw [hK_cpy, a]
    exact ⟨(ho.2 k h6).1, fun i => by rw [hV_cpy_ne (by omega), b]; exact (ho.2 k h6).2 i⟩
  · rw [hK_cpy]
    rcases Nat.lt_or_ge k 76 with z | z
    · obtain ⟨a, b⟩ := hlo k (Or.inl z)
      rw [a]
      exact ⟨(hf k z).1, fun i hi => by rw [hV_cpy_ne (by omega), b]; exact (hf k z).2 i hi⟩
    · obtain ⟨k1, k2, k3⟩ := mPre_77 hn
      match k, z, h93 with
      | 76, _, _ => exact ⟨(mPre_76 hn hk hv).1, fun i hi => by rw [hV_cpy_ne (by decide)]; exact (mPre_76 hn hk hv).2 i hi⟩
      | 77, _, _ => exact ⟨k1, fun i hi => by rw [hV_cpy_ne (by decide), k3, (mF_V0 i).1]⟩
      | 78, _, _ =>
        refine ⟨k2, fun i hi => ?_⟩
        have hi : i < 9834 := hi
        have e1 : hV (hCpy (mPre (hNew h1 10 0 37 (dfO 10))) 77 0 78 0 9834) 78 i = hV (mPre (hNew h1 10 0 37 (dfO 10))) 77 (0 + (i - 0)) := if_pos ⟨rfl, Nat.zero_le _, by omega⟩
        rw [e1, k3, (mF_V0 i).2]
        congr 2
        omega
      | 79, _, _ => exact ⟨(mPre_79 hn).1, fun i hi => by rw [hV_cpy_ne (by decide)]; exact (mPre_79 hn).2 i⟩
      | 80, _, _ => exact ⟨(mPre_80 hn).1, fun i hi => by rw [hV_cpy_ne (by decide)]; exact (mPre_80 hn).2 i⟩
      | 81, _, _ => exact ⟨(mPre_81 hn).1, fun i hi => by rw [hV_cpy_ne (by decide)]; exact (mPre_81 hn).2 i⟩
      | 82, _, _ => exact ⟨(mPre_82 hn).1, fun i hi => by rw [hV_cpy_ne (by decide)]; exact (mPre_82 hn).2 i⟩
      | 83, _, _ => exact ⟨(mPre_83 hn).1, fun i hi => by rw [hV_cpy_ne (by decide)]; exact (mPre_83 hn).2 i⟩
      | 84, _, _ => exact ⟨(mPre_84 hn).1, fun i hi => by rw [hV_cpy_ne (by decide)]; exact (mPre_84 hn).2 i⟩
      | 85, _, _ => exact ⟨(mPre_85 hn).1, fun i hi => by rw [hV_cpy_ne (by decide)]; exact (mPre_85 hn).2 i⟩
      | 86, _, _ => exact ⟨(mPre_86 hn).1, fun i hi => by rw [hV_cpy_ne (by decide)]; exact (mPre_86 hn).2 i⟩
      | 87, _, _ => exact ⟨(mPre_87 hn).1, fun i hi => by rw [hV_cpy_ne (by decide)]; exact (mPre_87 hn).2 i⟩
      | 88, _, _ => exact ⟨(mPre_88 hn).1, fun i hi => by rw [hV_cpy_ne (by decide)]; exact (mPre_88 hn).2 i⟩
      | 89, _, _ => exact ⟨(mPre_89 hn).1, fun i hi => by rw [hV_cpy_ne (by decide)]; exact (mPre_89 hn).2 i⟩
      | 90, _, _ => exact ⟨(mPre_90 hn).1, fun i hi => by rw [hV_cpy_ne (by decide)]; exact (mPre_90 hn).2 i⟩
      | 91, _, _ => exact ⟨(mPre_91 hn).1, fun i hi => by rw [hV_cpy_ne (by decide)]; exact (mPre_91 hn).2 i⟩
      | 92, _, _ => exact ⟨(mPre_92 hn).1, fun i hi => by rw [hV_cpy_ne (by decide)]; exact (mPre_92 hn).2 i⟩
      | n + 93, _, h93 => exact absurd h93 (by omega)
