/-! image, back: the relation -/
theorem imC_w {h : AH} (hJ : k_H JB h) : ∀ k i, nowG k i → hV (imC h) (k + 10) i = hV h (k + 0) i := by
  intro k i g
  rcases g with ⟨rfl, z⟩ | ⟨rfl, z1, z2⟩ | ⟨rfl, z⟩ | ⟨rfl, z⟩ | ⟨rfl, z⟩ | ⟨rfl, z⟩ | ⟨rfl, z⟩
  · rcases z with rfl | rfl | rfl | rfl | rfl | rfl
    · show hV (imC h) 11 1 = hV h 1 1
      unfold imC imCw
      simp only [hV_eq, hV_cpy, Nat.reduceEqDiff, Nat.reduceLeDiff, Nat.reduceLT, Nat.reduceAdd, Nat.reduceSub, Nat.zero_le, Nat.zero_add, Nat.sub_zero, false_and, and_false, and_self, true_and, and_true, if_false, if_true, reduceIte]
      exact (I_1_1 hJ).1.symm
    · show hV (imC h) 11 2 = hV h 1 2
      unfold imC imCw
      simp only [hV_eq, hV_cpy, Nat.reduceEqDiff, Nat.reduceLeDiff, Nat.reduceLT, Nat.reduceAdd, Nat.reduceSub, Nat.zero_le, Nat.zero_add, Nat.sub_zero, false_and, and_false, and_self, true_and, and_true, if_false, if_true, reduceIte]
      exact (I_1_2 hJ).1.symm
    · show hV (imC h) 11 3 = hV h 1 3
      unfold imC imCw
      simp only [hV_eq, hV_cpy, Nat.reduceEqDiff, Nat.reduceLeDiff, Nat.reduceLT, Nat.reduceAdd, Nat.reduceSub, Nat.zero_le, Nat.zero_add, Nat.sub_zero, false_and, and_false, and_self, true_and, and_true, if_false, if_true, reduceIte]
      exact (I_1_3 hJ).1.symm
    · show hV (imC h) 11 5 = hV h 1 5
      unfold imC imCw
      simp only [hV_eq, hV_cpy, Nat.reduceEqDiff, Nat.reduceLeDiff, Nat.reduceLT, Nat.reduceAdd, Nat.reduceSub, Nat.zero_le, Nat.zero_add, Nat.sub_zero, false_and, and_false, and_self, true_and, and_true, if_false, if_true, reduceIte]
      exact (I_1_5 hJ).1.symm
    · show hV (imC h) 11 7 = hV h 1 7
      unfold imC imCw
      simp only [hV_eq, hV_cpy, Nat.reduceEqDiff, Nat.reduceLeDiff, Nat.reduceLT, Nat.reduceAdd, Nat.reduceSub, Nat.zero_le, Nat.zero_add, Nat.sub_zero, false_and, and_false, and_self, true_and, and_true, if_false, if_true, reduceIte]
      exact (I_1_7 hJ).1.symm
    · show hV (imC h) 11 8 = hV h 1 8
      unfold imC imCw
      simp only [hV_eq, hV_cpy, Nat.reduceEqDiff, Nat.reduceLeDiff, Nat.reduceLT, Nat.reduceAdd, Nat.reduceSub, Nat.zero_le, Nat.zero_add, Nat.sub_zero, false_and, and_false, and_self, true_and, and_true, if_false, if_true, reduceIte]
      exact (I_1_8 hJ).1.symm
  · have z3 : i < 1 + 14 := z2
    have z4 : 1 + (i - 1) = i := by omega
    show hV (imC h) 12 i = hV h 2 i
    unfold imC imCw
    simp only [hV_eq, hV_cpy, z1, z2, z3, z4, Nat.reduceEqDiff, Nat.reduceLeDiff, Nat.reduceLT, Nat.reduceAdd, Nat.reduceSub, Nat.zero_le, Nat.zero_add, Nat.sub_zero, false_and, and_false, and_self, true_and, and_true, if_false, if_true, reduceIte]
  · show hV (imC h) 14 i = hV h 4 i
    unfold imC imCw
    simp only [hV_eq, hV_cpy, z, Nat.reduceEqDiff, Nat.reduceLeDiff, Nat.reduceLT, Nat.reduceAdd, Nat.reduceSub, Nat.zero_le, Nat.zero_add, Nat.sub_zero, false_and, and_false, and_self, true_and, and_true, if_false, if_true, reduceIte]
  · show hV (imC h) 15 i = hV h 5 i
    unfold imC imCw
    simp only [hV_eq, hV_cpy, z, Nat.reduceEqDiff, Nat.reduceLeDiff, Nat.reduceLT, Nat.reduceAdd, Nat.reduceSub, Nat.zero_le, Nat.zero_add, Nat.sub_zero, false_and, and_false, and_self, true_and, and_true, if_false, if_true, reduceIte]
  · show hV (imC h) 16 i = hV h 6 i
    unfold imC imCw
    simp only [hV_eq, hV_cpy, z, Nat.reduceEqDiff, Nat.reduceLeDiff, Nat.reduceLT, Nat.reduceAdd, Nat.reduceSub, Nat.zero_le, Nat.zero_add, Nat.sub_zero, false_and, and_false, and_self, true_and, and_true, if_false, if_true, reduceIte]
  · show hV (imC h) 19 i = hV h 9 i
    unfold imC imCw
    simp only [hV_eq, hV_cpy, z, Nat.reduceEqDiff, Nat.reduceLeDiff, Nat.reduceLT, Nat.reduceAdd, Nat.reduceSub, Nat.zero_le, Nat.zero_add, Nat.sub_zero, false_and, and_false, and_self, true_and, and_true, if_false, if_true, reduceIte]
  · show hV (imC h) 20 i = hV h 10 i
    unfold imC imCw
    simp only [hV_eq, hV_cpy, z, Nat.reduceEqDiff, Nat.reduceLeDiff, Nat.reduceLT, Nat.reduceAdd, Nat.reduceSub, Nat.zero_le, Nat.zero_add, Nat.sub_zero, false_and, and_false, and_self, true_and, and_true, if_false, if_true, reduceIte]
theorem imC_o {h : AH} (hJ : k_H JB h) : ∀ k i, nowG k i → hV (imC h) (k + 0) i = hV h (k + 0) i := by
  intro k i g
  rcases g with ⟨rfl, z⟩ | ⟨rfl, z1, z2⟩ | ⟨rfl, z⟩ | ⟨rfl, z⟩ | ⟨rfl, z⟩ | ⟨rfl, z⟩ | ⟨rfl, z⟩
  · show hV (imC h) 1 i = hV h 1 i
    unfold imC imCw
    simp only [hV_eq, hV_cpy, Nat.reduceEqDiff, Nat.reduceLeDiff, Nat.reduceLT, Nat.reduceAdd, Nat.reduceSub, Nat.zero_le, Nat.zero_add, Nat.sub_zero, false_and, and_false, and_self, true_and, and_true, if_false, if_true, reduceIte]
  · show hV (imC h) 2 i = hV h 2 i
    unfold imC imCw
    simp only [hV_eq, hV_cpy, Nat.reduceEqDiff, Nat.reduceLeDiff, Nat.reduceLT, Nat.reduceAdd, Nat.reduceSub, Nat.zero_le, Nat.zero_add, Nat.sub_zero, false_and, and_false, and_self, true_and, and_true, if_false, if_true, reduceIte]
  · show hV (imC h) 4 i = hV h 4 i
    unfold imC imCw
    simp only [hV_eq, hV_cpy, Nat.reduceEqDiff, Nat.reduceLeDiff, Nat.reduceLT, Nat.reduceAdd, Nat.reduceSub, Nat.zero_le, Nat.zero_add, Nat.sub_zero, false_and, and_false, and_self, true_and, and_true, if_false, if_true, reduceIte]
  · show hV (imC h) 5 i = hV h 5 i
    unfold imC imCw
    simp only [hV_eq, hV_cpy, Nat.reduceEqDiff, Nat.reduceLeDiff, Nat.reduceLT, Nat.reduceAdd, Nat.reduceSub, Nat.zero_le, Nat.zero_add, Nat.sub_zero, false_and, and_false, and_self, true_and, and_true, if_false, if_true, reduceIte]
  · show hV (imC h) 6 i = hV h 6 i
    unfold imC imCw
    simp only [hV_eq, hV_cpy, Nat.reduceEqDiff, Nat.reduceLeDiff, Nat.reduceLT, Nat.reduceAdd, Nat.reduceSub, Nat.zero_le, Nat.zero_add, Nat.sub_zero, false_and, and_false, and_self, true_and, and_true, if_false, if_true, reduceIte]
  · show hV (imC h) 9 i = hV h 9 i
    unfold imC imCw
    simp only [hV_eq, hV_cpy, Nat.reduceEqDiff, Nat.reduceLeDiff, Nat.reduceLT, Nat.reduceAdd, Nat.reduceSub, Nat.zero_le, Nat.zero_add, Nat.sub_zero, false_and, and_false, and_self, true_and, and_true, if_false, if_true, reduceIte]
  · show hV (imC h) 10 i = hV h 10 i
    unfold imC imCw
    simp only [hV_eq, hV_cpy, Nat.reduceEqDiff, Nat.reduceLeDiff, Nat.reduceLT, Nat.reduceAdd, Nat.reduceSub, Nat.zero_le, Nat.zero_add, Nat.sub_zero, false_and, and_false, and_self, true_and, and_true, if_false, if_true, reduceIte]
theorem baC_w {h : AH} (hJ : k_H JB h) : ∀ k i, nowG k i → hV (baC h) (k + 0) i = hV h (k + 10) i := by
  intro k i g
  rcases g with ⟨rfl, z⟩ | ⟨rfl, z1, z2⟩ | ⟨rfl, z⟩ | ⟨rfl, z⟩ | ⟨rfl, z⟩ | ⟨rfl, z⟩ | ⟨rfl, z⟩
  · rcases z with rfl | rfl | rfl | rfl | rfl | rfl
    · show hV (baC h) 1 1 = hV h 11 1
      unfold baC baCw
      simp only [hV_eq, hV_cpy, Nat.reduceEqDiff, Nat.reduceLeDiff, Nat.reduceLT, Nat.reduceAdd, Nat.reduceSub, Nat.zero_le, Nat.zero_add, Nat.sub_zero, false_and, and_false, and_self, true_and, and_true, if_false, if_true, reduceIte]
      exact (I_11_1 hJ).1.symm
    · show hV (baC h) 1 2 = hV h 11 2
      unfold baC baCw
      simp only [hV_eq, hV_cpy, Nat.reduceEqDiff, Nat.reduceLeDiff, Nat.reduceLT, Nat.reduceAdd, Nat.reduceSub, Nat.zero_le, Nat.zero_add, Nat.sub_zero, false_and, and_false, and_self, true_and, and_true, if_false, if_true, reduceIte]
      exact (I_11_2 hJ).1.symm
    · show hV (baC h) 1 3 = hV h 11 3
      unfold baC baCw
      simp only [hV_eq, hV_cpy, Nat.reduceEqDiff, Nat.reduceLeDiff, Nat.reduceLT, Nat.reduceAdd, Nat.reduceSub, Nat.zero_le, Nat.zero_add, Nat.sub_zero, false_and, and_false, and_self, true_and, and_true, if_false, if_true, reduceIte]
      exact (I_11_3 hJ).1.symm
    · show hV (baC h) 1 5 = hV h 11 5
      unfold baC baCw
      simp only [hV_eq, hV_cpy, Nat.reduceEqDiff, Nat.reduceLeDiff, Nat.reduceLT, Nat.reduceAdd, Nat.reduceSub, Nat.zero_le, Nat.zero_add, Nat.sub_zero, false_and, and_false, and_self, true_and, and_true, if_false, if_true, reduceIte]
      exact (I_11_5 hJ).1.symm
    · show hV (baC h) 1 7 = hV h 11 7
      unfold baC baCw
      simp only [hV_eq, hV_cpy, Nat.reduceEqDiff, Nat.reduceLeDiff, Nat.reduceLT, Nat.reduceAdd, Nat.reduceSub, Nat.zero_le, Nat.zero_add, Nat.sub_zero, false_and, and_false, and_self, true_and, and_true, if_false, if_true, reduceIte]
      exact (I_11_7 hJ).1.symm
    · show hV (baC h) 1 8 = hV h 11 8
      unfold baC baCw
      simp only [hV_eq, hV_cpy, Nat.reduceEqDiff, Nat.reduceLeDiff, Nat.reduceLT, Nat.reduceAdd, Nat.reduceSub, Nat.zero_le, Nat.zero_add, Nat.sub_zero, false_and, and_false, and_self, true_and, and_true, if_false, if_true, reduceIte]
      exact (I_11_8 hJ).1.symm
  · have z3 : i < 1 + 14 := z2
    have z4 : 1 + (i - 1) = i := by omega
    show hV (baC h) 2 i = hV h 12 i
    unfold baC baCw
    simp only [hV_eq, hV_cpy, z1, z2, z3, z4, Nat.reduceEqDiff, Nat.reduceLeDiff, Nat.reduceLT, Nat.reduceAdd, Nat.reduceSub, Nat.zero_le, Nat.zero_add, Nat.sub_zero, false_and, and_false, and_self, true_and, and_true, if_false, if_true, reduceIte]
  · show hV (baC h) 4 i = hV h 14 i
    unfold baC baCw
    simp only [hV_eq, hV_cpy, z, Nat.reduceEqDiff, Nat.reduceLeDiff, Nat.reduceLT, Nat.reduceAdd, Nat.reduceSub, Nat.zero_le, Nat.zero_add, Nat.sub_zero, false_and, and_false, and_self, true_and, and_true, if_false, if_true, reduceIte]
  · show hV (baC h) 5 i = hV h 15 i
    unfold baC baCw
    simp only [hV_eq, hV_cpy, z, Nat.reduceEqDiff, Nat.reduceLeDiff, Nat.reduceLT, Nat.reduceAdd, Nat.reduceSub, Nat.zero_le, Nat.zero_add, Nat.sub_zero, false_and, and_false, and_self, true_and, and_true, if_false, if_true, reduceIte]
  · show hV (baC h) 6 i = hV h 16 i
    unfold baC baCw
    simp only [hV_eq, hV_cpy, z, Nat.reduceEqDiff, Nat.reduceLeDiff, Nat.reduceLT, Nat.reduceAdd, Nat.reduceSub, Nat.zero_le, Nat.zero_add, Nat.sub_zero, false_and, and_false, and_self, true_and, and_true, if_false, if_true, reduceIte]
  · show hV (baC h) 9 i = hV h 19 i
    unfold baC baCw
    simp only [hV_eq, hV_cpy, z, Nat.reduceEqDiff, Nat.reduceLeDiff, Nat.reduceLT, Nat.reduceAdd, Nat.reduceSub, Nat.zero_le, Nat.zero_add, Nat.sub_zero, false_and, and_false, and_self, true_and, and_true, if_false, if_true, reduceIte]
  · show hV (baC h) 10 i = hV h 20 i
    unfold baC baCw
    simp only [hV_eq, hV_cpy, z, Nat.reduceEqDiff, Nat.reduceLeDiff, Nat.reduceLT, Nat.reduceAdd, Nat.reduceSub, Nat.zero_le, Nat.zero_add, Nat.sub_zero, false_and, and_false, and_self, true_and, and_true, if_false, if_true, reduceIte]
theorem baC_o {h : AH} (hJ : k_H JB h) : ∀ k i, nowG k i → hV (baC h) (k + 10) i = hV h (k + 10) i := by
  intro k i g
  rcases g with ⟨rfl, z⟩ | ⟨rfl, z1, z2⟩ | ⟨rfl, z⟩ | ⟨rfl, z⟩ | ⟨rfl, z⟩ | ⟨rfl, z⟩ | ⟨rfl, z⟩
  · show hV (baC h) 11 i = hV h 11 i
    unfold baC baCw
    simp only [hV_eq, hV_cpy, Nat.reduceEqDiff, Nat.reduceLeDiff, Nat.reduceLT, Nat.reduceAdd, Nat.reduceSub, Nat.zero_le, Nat.zero_add, Nat.sub_zero, false_and, and_false, and_self, true_and, and_true, if_false, if_true, reduceIte]
  · show hV (baC h) 12 i = hV h 12 i
    unfold baC baCw
    simp only [hV_eq, hV_cpy, Nat.reduceEqDiff, Nat.reduceLeDiff, Nat.reduceLT, Nat.reduceAdd, Nat.reduceSub, Nat.zero_le, Nat.zero_add, Nat.sub_zero, false_and, and_false, and_self, true_and, and_true, if_false, if_true, reduceIte]
  · show hV (baC h) 14 i = hV h 14 i
    unfold baC baCw
    simp only [hV_eq, hV_cpy, Nat.reduceEqDiff, Nat.reduceLeDiff, Nat.reduceLT, Nat.reduceAdd, Nat.reduceSub, Nat.zero_le, Nat.zero_add, Nat.sub_zero, false_and, and_false, and_self, true_and, and_true, if_false, if_true, reduceIte]
  · show hV (baC h) 15 i = hV h 15 i
    unfold baC baCw
    simp only [hV_eq, hV_cpy, Nat.reduceEqDiff, Nat.reduceLeDiff, Nat.reduceLT, Nat.reduceAdd, Nat.reduceSub, Nat.zero_le, Nat.zero_add, Nat.sub_zero, false_and, and_false, and_self, true_and, and_true, if_false, if_true, reduceIte]
  · show hV (baC h) 16 i = hV h 16 i
    unfold baC baCw
    simp only [hV_eq, hV_cpy, Nat.reduceEqDiff, Nat.reduceLeDiff, Nat.reduceLT, Nat.reduceAdd, Nat.reduceSub, Nat.zero_le, Nat.zero_add, Nat.sub_zero, false_and, and_false, and_self, true_and, and_true, if_false, if_true, reduceIte]
  · show hV (baC h) 19 i = hV h 19 i
    unfold baC baCw
    simp only [hV_eq, hV_cpy, Nat.reduceEqDiff, Nat.reduceLeDiff, Nat.reduceLT, Nat.reduceAdd, Nat.reduceSub, Nat.zero_le, Nat.zero_add, Nat.sub_zero, false_and, and_false, and_self, true_and, and_true, if_false, if_true, reduceIte]
  · show hV (baC h) 20 i = hV h 20 i
    unfold baC baCw
    simp only [hV_eq, hV_cpy, Nat.reduceEqDiff, Nat.reduceLeDiff, Nat.reduceLT, Nat.reduceAdd, Nat.reduceSub, Nat.zero_le, Nat.zero_add, Nat.sub_zero, false_and, and_false, and_self, true_and, and_true, if_false, if_true, reduceIte]
theorem nowG_r {k i : Nat} (g : nowG k i) : 1 ≤ k ∧ k ≠ 3 ∧ k ≤ 10 := by
  unfold nowG at g
  omega
/-- an image is taken -/
theorem REL_im {h h1 h2 : AH} (hJ : k_H JB h) (hJ2 : k_H JB h2) (r : REL h) (e1 : h1 = imC h) (e2 : h2 = hCpy h1 77 0 78 0 9834) : REL h2 := by
  obtain ⟨r1, ⟨r2, r3⟩, ⟨r4, r5⟩, r6, r7, ⟨CS, r8⟩, r9, r10⟩ := r
  have n1 : ∀ k i, k ≠ 78 → hV h2 k i = hV h1 k i := fun k i hk => by rw [e2]; exact hV_cpy_ne hk
  have n2 : ∀ i, i < 9834 → hV h2 78 i = hV h1 77 i := fun i hi => by rw [e2]; exact cpyV hi
  obtain ⟨-, -, -, -, nn⟩ := imC_v hJ
  have hi : ∀ k i, 21 ≤ k → hV h1 k i = hV h k i := fun k i hk => by rw [e1]; exact nn k i (by omega) (by omega) (by omega) (by omega) (by omega) (by omega) (by omega) (by omega) (by omega)
  have lo : ∀ i, hV h1 0 i = hV h 0 i := fun i => by rw [e1]; exact nn 0 i (by decide) (by decide) (by decide) (by decide) (by decide) (by decide) (by decide) (by decide) (by decide)
  have w0 : ∀ k i, nowG k i → hV h2 (k + 0) i = hV h (k + 0) i := fun k i g => by
    have b := nowG_r g
    rw [n1 _ _ (by omega), e1]; exact imC_o hJ k i g
  have w1 : ∀ k i, nowG k i → hV h2 (k + 10) i = hV h (k + 0) i := fun k i g => by
    have b := nowG_r g
    rw [n1 _ _ (by omega), e1]; exact imC_w hJ k i g
  have a7 : ∀ i, fI h2 77 i = fI h 77 i := fun i => fI_g ((n1 77 i (by decide)).trans (hi 77 i (by decide)))
  have a8 : ∀ i, i < 9834 → fI h2 78 i = fI h 77 i := fun i hi2 => fI_g ((n2 i hi2).trans (hi 77 i (by decide)))
  have u : ∀ k i, 21 ≤ k → k ≠ 78 → hV h2 k i = hV h k i := fun k i a b => (n1 k i b).trans (hi k i a)
  have e12 : fI h2 1 2 = fI h 1 2 := fI_g (w0 1 2 (Or.inl ⟨rfl, by decide⟩))
  have e112 : fI h2 11 2 = fI h 1 2 := fI_g (w1 1 2 (Or.inl ⟨rfl, by decide⟩))
  refine ⟨?_, ⟨WNo_f (fun k i g => w0 k i (wrG_n g)) (fun i _ _ => a7 i) r2, OTH_f w0 (a7 1) (a7 3) (a7 4) r3⟩, ⟨WNo_f (fun k i g => w1 k i (wrG_n g)) (fun i hi2 _ => a8 i hi2) r2, OTH_f w1 (a8 1 (by decide)) (a8 3 (by decide)) (a8 4 (by decide)) r3⟩, by rw [e12, e112]; exact Int.le_refl _, TXZ_f (fun i _ => u 47 i (by decide) (by decide)) (fun i _ => u 48 i (by decide) (by decide)) (fun i _ => u 49 i (by decide) (by decide)) r7, ⟨CS, fun J hj => ?_⟩, ?_, (u 76 25 (by decide) (by decide)).trans r10⟩
  · obtain ⟨⟨b1, b2, b3⟩, b4, b5⟩ := r1
    have l0 : ∀ i, hV h2 0 i = hV h 0 i := fun i => (n1 0 i (by decide)).trans (lo i)
    have x1 : hV h2 1 2 = hV h 1 2 := w0 1 2 (Or.inl ⟨rfl, by decide⟩)
    have x2 : hV h2 11 2 = hV h 1 2 := w1 1 2 (Or.inl ⟨rfl, by decide⟩)
    have x3 : hV h2 78 3 = hV h 77 3 := (n2 3 (by decide)).trans (hi 77 3 (by decide))
    refine ⟨⟨?_, ?_, ?_⟩, fun i hi2 => ?_, ?_⟩
    · rw [l0, u 76 4 (by decide) (by decide)]; exact b1
    · rw [x1, u 77 3 (by decide) (by decide)]; exact b2
    · rw [x2, x3]; exact b2
    · rw [u 75 i (by decide) (by decide), u 80 i (by decide) (by decide)]; exact b4 i hi2
    · rw [l0, u 76 5 (by decide) (by decide), u 76 6 (by decide) (by decide), u 70 6 (by decide) (by decide), u 70 7 (by decide) (by decide)]; exact b5
  · rw [e12] at hj
    have h4 := (I_1_2 hJ).2.2
    refine TXJ_f hJ2 (by omega) (fun k i g => ?_) (fun i _ _ => u 79 i (by decide) (by decide)) (r8 J hj)
    unfold tjG at g
    exact u k i (by omega) (by omega)
  · rw [fI_g (u 59 7 (by decide) (by decide))]; exact r9
/-- back to the image -/
theorem REL_ba {h h1 h2 : AH} (hJ : k_H JB h) (hJ2 : k_H JB h2) (r : REL h) (e1 : h1 = baC h) (e2 : h2 = hCpy h1 78 0 77 0 9834) : REL h2 := by
  obtain ⟨r1, ⟨r2, r3⟩, ⟨r4, r5⟩, r6, r7, ⟨CS, r8⟩, r9, r10⟩ := r
  have n1 : ∀ k i, k ≠ 77 → hV h2 k i = hV h1 k i := fun k i hk => by rw [e2]; exact hV_cpy_ne hk
  have n2 : ∀ i, i < 9834 → hV h2 77 i = hV h1 78 i := fun i hi => by rw [e2]; exact cpyV hi
  obtain ⟨-, -, -, -, nn⟩ := baC_v hJ
  have hi : ∀ k i, 21 ≤ k → hV h1 k i = hV h k i := fun k i hk => by rw [e1]; exact nn k i (by omega) (by omega) (by omega) (by omega) (by omega) (by omega) (by omega) (by omega) (by omega)
  have lo : ∀ i, hV h1 0 i = hV h 0 i := fun i => by rw [e1]; exact nn 0 i (by decide) (by decide) (by decide) (by decide) (by decide) (by decide) (by decide) (by decide) (by decide)
  have w1 : ∀ k i, nowG k i → hV h2 (k + 10) i = hV h (k + 10) i := fun k i g => by
    have b := nowG_r g
    rw [n1 _ _ (by omega), e1]; exact baC_o hJ k i g
  have w0 : ∀ k i, nowG k i → hV h2 (k + 0) i = hV h (k + 10) i := fun k i g => by
    have b := nowG_r g
    rw [n1 _ _ (by omega), e1]; exact baC_w hJ k i g
  have a8 : ∀ i, fI h2 78 i = fI h 78 i := fun i => fI_g ((n1 78 i (by decide)).trans (hi 78 i (by decide)))
  have a7 : ∀ i, i < 9834 → fI h2 77 i = fI h 78 i := fun i hi2 => fI_g ((n2 i hi2).trans (hi 78 i (by decide)))
  have u : ∀ k i, 21 ≤ k → k ≠ 77 → hV h2 k i = hV h k i := fun k i a b => (n1 k i b).trans (hi k i a)
  have e12 : fI h2 1 2 = fI h 11 2 := fI_g (w0 1 2 (Or.inl ⟨rfl, by decide⟩))
  have e112 : fI h2 11 2 = fI h 11 2 := fI_g (w1 1 2 (Or.inl ⟨rfl, by decide⟩))
  refine ⟨?_, ⟨WNo_f (fun k i g => w0 k i (wrG_n g)) (fun i hi2 _ => a7 i hi2) r4, OTH_f w0 (a7 1 (by decide)) (a7 3 (by decide)) (a7 4 (by decide)) r5⟩, ⟨WNo_f (fun k i g => w1 k i (wrG_n g)) (fun i _ _ => a8 i) r4, OTH_f w1 (a8 1) (a8 3) (a8 4) r5⟩, by rw [e12, e112]; exact Int.le_refl _, TXZ_f (fun i _ => u 47 i (by decide) (by decide)) (fun i _ => u 48 i (by decide) (by decide)) (fun i _ => u 49 i (by decide) (by decide)) r7, ⟨CS, fun J hj => ?_⟩, ?_, (u 76 25 (by decide) (by decide)).trans r10⟩
  · obtain ⟨⟨b1, b2, b3⟩, b4, b5⟩ := r1
    have l0 : ∀ i, hV h2 0 i = hV h 0 i := fun i => (n1 0 i (by decide)).trans (lo i)
    have x1 : hV h2 1 2 = hV h 11 2 := w0 1 2 (Or.inl ⟨rfl, by decide⟩)
    have x2 : hV h2 11 2 = hV h 11 2 := w1 1 2 (Or.inl ⟨rfl, by decide⟩)
    have x3 : hV h2 77 3 = hV h 78 3 := (n2 3 (by decide)).trans (hi 78 3 (by decide))
    refine ⟨⟨?_, ?_, ?_⟩, fun i hi2 => ?_, ?_⟩
    · rw [l0, u 76 4 (by decide) (by decide)]; exact b1
    · rw [x1, x3]; exact b3
    · rw [x2, u 78 3 (by decide) (by decide)]; exact b3
    · rw [u 75 i (by decide) (by decide), u 80 i (by decide) (by decide)]; exact b4 i hi2
    · rw [l0, u 76 5 (by decide) (by decide), u 76 6 (by decide) (by decide), u 70 6 (by decide) (by decide), u 70 7 (by decide) (by decide)]; exact b5
  · rw [e12] at hj
    have h4 := (I_11_2 hJ).2.2
    refine TXJ_f hJ2 (by omega) (fun k i g => ?_) (fun i _ _ => u 79 i (by decide) (by decide)) (r8 J (Int.lt_of_lt_of_le hj r6))
    unfold tjG at g
    exact u k i (by omega) (by omega)
  · rw [fI_g (u 59 7 (by decide) (by decide))]; exact r9
/-- image, back of both: the tenth -/
theorem RE_image {h h1 h2 : AH} {r1 r2 : Option AV} (hJ : k_H JB h) (hJ1 : k_H JB h1) (hJ2 : k_H JB h2) (r : REL h) (E1 : ∀ Q : Option AV → AH → Prop, XC 1000 169 [vR 0] h Q = Q r1 h1) (E2 : ∀ Q : Option AV → AH → Prop, XC 1000 318 [vR 76] h1 Q = Q r2 h2) : r2 = r1 ∧ REL h2 := by
  obtain ⟨q1, q2⟩ := XC_same E1 (X_imC (d := 996) hJ)
  obtain ⟨p1, p2⟩ := XC_same E2 (X_imM (d := 997) hJ1)
  refine ⟨?_, REL_im hJ hJ2 r q2.symm p2.symm⟩
  obtain ⟨-, -, -, v9, nn⟩ := imC_v hJ
  have e1 : fI (imC h) 2 9 = fI h 2 9 := fI_g v9
  have e2 : hV h1 77 16 = hV h 77 16 := by rw [← q2]; exact nn 77 16 (by decide) (by decide) (by decide) (by decide) (by decide) (by decide) (by decide) (by decide) (by decide)
  have e3 : nmb (hV h 77 16) = fI h 2 9 := by
    obtain ⟨m, c, n, hw⟩ := r.2.1.1
    exact hw.2.1.1.1 9 (by decide) (by decide)
  rw [← p1, ← q1, e1, e2, e3]
theorem RE_back {h h1 h2 : AH} {r1 r2 : Option AV} (hJ : k_H JB h) (hJ1 : k_H JB h1) (hJ2 : k_H JB h2) (r : REL h) (E1 : ∀ Q : Option AV → AH → Prop, XC 1000 170 [vR 0] h Q = Q r1 h1) (E2 : ∀ Q : Option AV → AH → Prop, XC 1000 319 [vR 76] h1 Q = Q r2 h2) : r2 = r1 ∧ REL h2 := by
  obtain ⟨q1, q2⟩ := XC_same E1 (X_baC (d := 996) hJ)
  obtain ⟨p1, p2⟩ := XC_same E2 (X_baM (d := 997) hJ1)
  refine ⟨?_, REL_ba hJ hJ2 r q2.symm p2.symm⟩
  obtain ⟨-, -, -, v9, nn⟩ := baC_v hJ
  have e1 : fI (baC h) 2 9 = fI h 12 9 := fI_g v9
  have e2 : hV h1 78 16 = hV h 78 16 := by rw [← q2]; exact nn 78 16 (by decide) (by decide) (by decide) (by decide) (by decide) (by decide) (by decide) (by decide) (by decide)
  have e3 : nmb (hV h 78 16) = fI h 12 9 := by
    obtain ⟨m, c, n, hw⟩ := r.2.2.1.1
    exact hw.2.1.1.1 9 (by decide) (by decide)
  rw [← p1, ← q1, e1, e2, e3]
