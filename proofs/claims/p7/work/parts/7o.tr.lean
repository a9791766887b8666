/-! tape, texts, fault: what is alike -/
def TRp (h : AH) : Prop := (hV h 0 11 = hV h 76 4 ∧ hV h 1 2 = hV h 77 3 ∧ hV h 11 2 = hV h 78 3) ∧ (∀ i, i < 300 → hV h 75 i = hV h 80 i) ∧ ((hV h 0 12 = vI 0 ∧ hV h 76 5 = vI (-1) ∧ hV h 76 6 = vI (-1)) ∨ (hV h 0 12 = vI 1 ∧ hV h 70 6 = hV h 76 5 ∧ hV h 70 7 = hV h 76 6))
theorem TRp_f {h h' : AH} (f : FL h h') (b : TRp h) : TRp h' := by
  have e : ∀ (k a z i : Nat), (k, a, z) ∈ flR → a ≤ i → i ≤ z → hV h' k i = hV h k i := fun k a z i hq h1 h2 => f (k, a, z) hq i h1 h2
  have e1 := e 0 11 12 11 (by decide) (by decide) (by decide)
  have e2 := e 0 11 12 12 (by decide) (by decide) (by decide)
  have e3 := e 1 2 2 2 (by decide) (by decide) (by decide)
  have e4 := e 11 2 2 2 (by decide) (by decide) (by decide)
  have e5 := e 70 6 7 6 (by decide) (by decide) (by decide)
  have e6 := e 70 6 7 7 (by decide) (by decide) (by decide)
  have e7 := e 76 4 6 4 (by decide) (by decide) (by decide)
  have e8 := e 76 4 6 5 (by decide) (by decide) (by decide)
  have e9 := e 76 4 6 6 (by decide) (by decide) (by decide)
  have ea := e 77 3 3 3 (by decide) (by decide) (by decide)
  have eb := e 78 3 3 3 (by decide) (by decide) (by decide)
  obtain ⟨⟨b1, b2, b3⟩, b4, b5⟩ := b
  refine ⟨⟨by rw [e1, e7, b1], by rw [e3, ea, b2], by rw [e4, eb, b3]⟩, fun i hi => ?_, ?_⟩
  · rw [e 75 0 299 i (by decide) (Nat.zero_le _) (by omega), e 80 0 299 i (by decide) (Nat.zero_le _) (by omega), b4 i hi]
  · rw [e2, e5, e6, e8, e9]; exact b5
/-- the tape's length, its bytes -/
theorem TP_n {h : AH} (hJ : k_H JB h) : ∃ t : Nat, hV h 0 11 = vI (t : Int) ∧ t ≤ 300 ∧ (∀ i, i < 300 → hV h 75 i = vI (fI h 75 i)) ∧ (∀ i, i < 300 → 0 ≤ fI h 75 i ∧ fI h 75 i ≤ 255) := by
  obtain ⟨e, z0, z1⟩ := I_0_11 hJ
  exact ⟨(fI h 0 11).toNat, by rw [Int.toNat_of_nonneg z0]; exact e, by omega, fun i hi => (A_75_0 (i := i) hJ (Nat.zero_le _) hi).1, fun i hi => (A_75_0 (i := i) hJ (Nat.zero_le _) hi).2⟩
theorem TX_n {h : AH} (hJ : k_H JB h) : ∃ t : Nat, hV h 1 2 = vI (t : Int) ∧ t ≤ 4 := by
  obtain ⟨e, z0, z1⟩ := I_1_2 hJ
  exact ⟨(fI h 1 2).toNat, by rw [Int.toNat_of_nonneg z0]; exact e, by omega⟩
/-- feed of both -/
theorem TR_feed {h : AH} {a b c e g : Int} (hJ : k_H JB h) (q : TRp h) : ∃ (z : Int) (h1 h2 : AH), TRp h2 ∧ (∀ Q : Option AV → AH → Prop, XC 1000 120 [vR 0, vI a, vI b, vI c, vI e, vI g] h Q = Q (some (vI z)) h1) ∧ ∀ Q : Option AV → AH → Prop, XC 1000 192 [vR 76, vI a, vI b, vI c, vI e, vI g] h1 Q = Q (some (vI z)) h2 := by
  obtain ⟨t, v, ht, hf, -⟩ := TP_n hJ
  obtain ⟨⟨b1, b2, b3⟩, b4, b5⟩ := q
  have s1 := hF_self (k0 := 0) (i0 := 11) (k1 := 75) v hf
  have E1 := fun Q => X_feedC (d := 998) (h := h) (a := a) (b := b) (c := c) (e := e) (g := g) (f := fI h 75) (K_0 hJ) (K_75 hJ) (F_0_10 hJ) ht Q
  rw [s1] at E1
  by_cases z : t + 20 ≤ 300
  · rw [if_pos z, if_pos z] at E1
    have n1 : ∀ k i, (k ≠ 0 ∨ i ≠ 11) → k ≠ 75 → hV (hF h 0 11 75 (t + 20) (fu5 (fI h 75) t a b c e g)) k i = hV h k i := fun k i h0 h1 => hF_n h0 h1
    have v2 : hV (hF h 0 11 75 (t + 20) (fu5 (fI h 75) t a b c e g)) 76 4 = vI (t : Int) := (n1 76 4 (Or.inl (by decide)) (by decide)).trans (b1.symm.trans v)
    have f2 : ∀ i, i < 300 → hV (hF h 0 11 75 (t + 20) (fu5 (fI h 75) t a b c e g)) 80 i = vI (fI h 75 i) := fun i hi => (n1 80 i (Or.inl (by decide)) (by decide)).trans ((b4 i hi).symm.trans (hf i hi))
    have s2 := hF_self (k0 := 76) (i0 := 4) (k1 := 80) v2 f2
    have E2 := fun Q => X_feedM (d := 998) (h := hF h 0 11 75 (t + 20) (fu5 (fI h 75) t a b c e g)) (a := a) (b := b) (c := c) (e := e) (g := g) (f := fI h 75) (K_76 (h := h) hJ) (K_80 (h := h) hJ) ((n1 76 3 (Or.inl (by decide)) (by decide)).trans (F_76_3 hJ)) ht Q
    rw [s2, if_pos z, if_pos z] at E2
    refine ⟨_, _, _, ⟨⟨?_, ?_, ?_⟩, fun i hi => ?_, ?_⟩, E1, E2⟩
    · rw [hF_t, hF_n (Or.inl (by decide)) (by decide), hF_t]
    · rw [hF_n (Or.inl (by decide)) (by decide), hF_n (Or.inl (by decide)) (by decide), hF_n (Or.inl (by decide)) (by decide), hF_n (Or.inl (by decide)) (by decide)]; exact b2
    · rw [hF_n (Or.inl (by decide)) (by decide), hF_n (Or.inl (by decide)) (by decide), hF_n (Or.inl (by decide)) (by decide), hF_n (Or.inl (by decide)) (by decide)]; exact b3
    · rw [hF_f (by decide) hi, hF_n (Or.inl (by decide)) (by decide), hF_f (by decide) hi]
    · rw [hF_n (Or.inl (by decide)) (by decide), hF_n (Or.inr (by decide)) (by decide), hF_n (k := 76) (i := 5) (Or.inr (by decide)) (by decide), hF_n (k := 76) (i := 5) (Or.inl (by decide)) (by decide), hF_n (k := 76) (i := 6) (Or.inr (by decide)) (by decide), hF_n (k := 76) (i := 6) (Or.inl (by decide)) (by decide), hF_n (k := 70) (i := 6) (Or.inl (by decide)) (by decide), hF_n (k := 70) (i := 6) (Or.inl (by decide)) (by decide), hF_n (k := 70) (i := 7) (Or.inl (by decide)) (by decide), hF_n (k := 70) (i := 7) (Or.inl (by decide)) (by decide)]; exact b5
  · rw [if_neg z, if_neg z] at E1
    have f2 : ∀ i, i < 300 → hV h 80 i = vI (fI h 75 i) := fun i hi => (b4 i hi).symm.trans (hf i hi)
    have s2 := hF_self (k0 := 76) (i0 := 4) (k1 := 80) (b1.symm.trans v) f2
    have E2 := fun Q => X_feedM (d := 998) (h := h) (a := a) (b := b) (c := c) (e := e) (g := g) (f := fI h 75) (K_76 (h := h) hJ) (K_80 (h := h) hJ) (F_76_3 hJ) ht Q
    rw [s2, if_neg z, if_neg z] at E2
    exact ⟨_, _, _, ⟨⟨b1, b2, b3⟩, b4, b5⟩, E1, E2⟩
/-- end of both -/
theorem TR_end {h h1 : AH} {n z : Int} (hJ : k_H JB h) (hJ1 : k_H JB h1) (q : TRp h) (E1 : ∀ Q : Option AV → AH → Prop, XC 1000 122 [vR 0, vI n] h Q = Q (some (vI z)) h1) : ∃ h2 : AH, TRp h2 ∧ ∀ Q : Option AV → AH → Prop, XC 1000 193 [vR 76, vI n] h1 Q = Q (some (vI z)) h2 := by
  obtain ⟨t, v, ht, -, -⟩ := TP_n hJ
  obtain ⟨⟨b1, b2, b3⟩, b4, b5⟩ := q
  obtain ⟨q1, q2⟩ := XC_same E1 (X_endC (d := 998) hJ v)
  have q1 := Sum.inl.inj (Option.some.inj q1)
  have v1 : hV h1 76 4 = vI (t : Int) := by
    rw [← q2]
    split
    · exact (hS_ne (by decide)).trans (b1.symm.trans v)
    · exact b1.symm.trans v
  have E2 := X_endM (d := 998) (n := n) hJ1 v1
  rw [q1] at E2
  refine ⟨_, ?_, E2⟩
  by_cases y : 0 ≤ n ∧ n ≤ (t : Int)
  · rw [if_pos y] at q2 ⊢
    have n1 : ∀ k i, (k ≠ 0 ∨ i ≠ 11) → (k ≠ 76 ∨ i ≠ 4) → hV (hSet h1 76 4 (vI n)) k i = hV h k i := fun k i h0 h2 => by
      rw [← q2]
      exact (if_neg (fun w => by omega)).trans (if_neg (fun w => by omega))
    refine ⟨⟨?_, ?_, ?_⟩, fun i hi => ?_, ?_⟩
    · rw [hV_s, ← q2]; exact (hS_ne (by decide)).trans hV_s
    · rw [n1 _ _ (by omega) (by omega), n1 _ _ (by omega) (by omega)]; exact b2
    · rw [n1 _ _ (by omega) (by omega), n1 _ _ (by omega) (by omega)]; exact b3
    · rw [n1 _ _ (by omega) (by omega), n1 _ _ (by omega) (by omega)]; exact b4 i hi
    · rw [n1 _ _ (by omega) (by omega), n1 76 5 (by omega) (by omega), n1 76 6 (by omega) (by omega), n1 70 6 (by omega) (by omega), n1 70 7 (by omega) (by omega)]; exact b5
  · rw [if_neg y] at q2 ⊢
    rw [← q2]
    exact ⟨⟨b1, b2, b3⟩, b4, b5⟩
/-- by of both: the answer -/
theorem TR_by {h h1 : AH} {n z : Int} (hJ : k_H JB h) (hJ1 : k_H JB h1) (q : TRp h) (E1 : ∀ Q : Option AV → AH → Prop, XC 1000 125 [vR 0, vI n] h Q = Q (some (vI z)) h1) : ∃ h2 : AH, TRp h2 ∧ ∀ Q : Option AV → AH → Prop, XC 1000 234 [vR 76, vI n] h1 Q = Q (some (vI z)) h2 := by
  obtain ⟨t, v, ht⟩ := TX_n hJ
  obtain ⟨⟨b1, b2, b3⟩, b4, b5⟩ := q
  obtain ⟨q1, q2⟩ := XC_same E1 (X_byC (d := 998) hJ v ht)
  have q1 := Sum.inl.inj (Option.some.inj q1)
  have n1 : ∀ k i, (k ≠ 1 ∨ i ≠ 3) → hV h1 k i = hV h k i := fun k i h0 => by
    rw [← q2]
    split
    · exact if_neg (fun w => by omega)
    · rfl
  have v1 : hV h1 77 3 = vI (t : Int) := (n1 _ _ (by omega)).trans (b2.symm.trans v)
  have E2 := X_byM (d := 998) (n := n) hJ1 v1 ht
  rw [q1] at E2
  refine ⟨_, ?_, E2⟩
  have n2 : ∀ k i, (k ≠ 1 ∨ i ≠ 3) → (k ≠ 77 ∨ i ≠ 4) → hV (if -1 ≤ n ∧ n ≤ (t : Int) - 1 then hSet h1 77 4 (vI n) else h1) k i = hV h k i := fun k i h0 h2 => by
    split
    · exact (if_neg (fun w => by omega)).trans (n1 k i h0)
    · exact n1 k i h0
  refine ⟨⟨?_, ?_, ?_⟩, fun i hi => ?_, ?_⟩
  · rw [n2 _ _ (by omega) (by omega), n2 _ _ (by omega) (by omega)]; exact b1
  · rw [n2 _ _ (by omega) (by omega), n2 _ _ (by omega) (by omega)]; exact b2
  · rw [n2 _ _ (by omega) (by omega), n2 _ _ (by omega) (by omega)]; exact b3
  · rw [n2 _ _ (by omega) (by omega), n2 _ _ (by omega) (by omega)]; exact b4 i hi
  · rw [n2 _ _ (by omega) (by omega), n2 76 5 (by omega) (by omega), n2 76 6 (by omega) (by omega), n2 70 6 (by omega) (by omega), n2 70 7 (by omega) (by omega)]; exact b5
/-- fault of both -/
theorem TR_fa {h : AH} {x : Int} (hJ : k_H JB h) (q : TRp h) : ∃ z : Int, (∀ Q : Option AV → AH → Prop, XC 1000 124 [vR 0, vI x] h Q = Q (some (vI z)) h) ∧ ∀ Q : Option AV → AH → Prop, XC 1000 233 [vR 76, vI x] h Q = Q (some (vI z)) h := by
  obtain ⟨-, -, b5⟩ := q
  rcases b5 with ⟨c1, c2, c3⟩ | ⟨c1, c2, c3⟩
  · have E2 := X_faM (d := 999) (x := x) hJ c2 c3
    have e : flt x (-1) (-1) = -1 := by unfold flt; (repeat' split) <;> rfl
    rw [e] at E2
    exact ⟨_, X_faC0 (d := 999) hJ c1, E2⟩
  · have w6 := (I_70_6 hJ).1
    have w7 := (I_70_7 hJ).1
    exact ⟨_, X_faC (d := 999) hJ c1 w6 w7, X_faM (d := 999) hJ (c2.symm.trans w6) (c3.symm.trans w7)⟩
/-- text of both -/
theorem TR_tx {h h1 : AH} {r1 : Option AV} (hJ : k_H JB h) (hJ1 : k_H JB h1) (q : TRp h) (E1 : ∀ Q : Option AV → AH → Prop, XC 1000 123 [vR 0] h Q = Q r1 h1) : ∃ (z : Int) (h2 : AH), r1 = some (vI z) ∧ TRp h2 ∧ ∀ Q : Option AV → AH → Prop, XC 1000 232 [vR 76] h1 Q = Q (some (vI z)) h2 := by
  obtain ⟨n, v11, hn, hf, hby⟩ := TP_n hJ
  obtain ⟨J, v2, hJ4⟩ := TX_n hJ
  obtain ⟨⟨b1, b2, b3⟩, b4, b5⟩ := q
  by_cases z : J < 4
  · obtain ⟨cnt, kn, vn, ep, sp, m, out, r, h', ho, hc, e⟩ := X_txC (d := 921) hJ v11 v2 z hf hby
    obtain ⟨q1, q2⟩ := XC_same E1 e
    subst q1 q2
    obtain ⟨⟨fr, g11, g12⟩, hc⟩ := hc
    have v4 : hV h' 76 4 = vI (n : Int) := (fr 76 4 (by omega)).trans (b1.symm.trans v11)
    have v3 : hV h' 77 3 = vI (J : Int) := (fr 77 3 (by omega)).trans (b2.symm.trans v2)
    have v80 : ∀ i, i < 300 → hV h' 80 i = vI (fI h 75 i) := fun i hi => (fr 80 i (by omega)).trans ((b4 i hi).symm.trans (hf i hi))
    obtain ⟨r2, h2, ⟨⟨fm, g4⟩, hm⟩, e2⟩ := X_txM (d := 985) hJ1 v4 v3 z hn v80 hby ho
    cases out with
    | inl x =>
      obtain ⟨f, jf⟩ := x
      obtain ⟨hf0, rfl, c2, c6, c7⟩ := hc
      obtain ⟨rfl, m3, m5, m6⟩ := hm
      refine ⟨_, h2, rfl, ⟨⟨?_, ?_, ?_⟩, fun i hi => ?_, Or.inr ⟨?_, ?_, ?_⟩⟩, e2⟩
      · rw [fm 0 11 (by omega), g11, g4]
      · rw [fm 1 2 (by omega), c2, m3, v3, v2]
      · rw [fm 11 2 (by omega), fm 78 3 (by omega), fr 11 2 (by omega), fr 78 3 (by omega)]; exact b3
      · rw [fm 75 i (by omega), fm 80 i (by omega), fr 75 i (by omega), fr 80 i (by omega)]; exact b4 i hi
      · rw [fm 0 12 (by omega)]; exact g12
      · rw [fm 70 6 (by omega), c6, m5]
      · rw [fm 70 7 (by omega), c7, m6]
    | inr cs =>
      obtain ⟨rfl, c2, c6, c7⟩ := hc
      obtain ⟨rfl, m3, m5, m6⟩ := hm
      refine ⟨_, h2, rfl, ⟨⟨?_, ?_, ?_⟩, fun i hi => ?_, Or.inr ⟨?_, ?_, ?_⟩⟩, e2⟩
      · rw [fm 0 11 (by omega), g11, g4]
      · rw [fm 1 2 (by omega), c2, m3]
      · rw [fm 11 2 (by omega), fm 78 3 (by omega), fr 11 2 (by omega), fr 78 3 (by omega)]; exact b3
      · rw [fm 75 i (by omega), fm 80 i (by omega), fr 75 i (by omega), fr 80 i (by omega)]; exact b4 i hi
      · rw [fm 0 12 (by omega)]; exact g12
      · rw [fm 70 6 (by omega), c6, m5]
      · rw [fm 70 7 (by omega), c7, m6]
  · obtain rfl : J = 4 := by omega
    obtain ⟨q1, q2⟩ := XC_same E1 (X_txC4 (d := 999) hJ v2)
    subst q1 q2
    exact ⟨_, _, rfl, ⟨⟨b1, b2, b3⟩, b4, b5⟩, X_txM4 (d := 999) hJ (b2.symm.trans v2)⟩
/-- image of both -/
theorem TR_im {h h1 h2 : AH} (hJ : k_H JB h) (b : TRp h) (e1 : h1 = imC h) (e2 : h2 = hCpy h1 77 0 78 0 9834) : TRp h2 := by
  have n1 : ∀ k i, k ≠ 78 → hV h2 k i = hV h1 k i := fun k i hk => by rw [e2]; exact hV_cpy_ne hk
  have n2 : hV h2 78 3 = hV h1 77 3 := by rw [e2]; exact cpyV (by decide)
  obtain ⟨-, -, -, -, nn⟩ := imC_v hJ
  have m0 : ∀ k i, 22 ≤ k ∨ k = 0 → hV h1 k i = hV h k i := fun k i hk => by rw [e1]; exact nn k i (by omega) (by omega) (by omega) (by omega) (by omega) (by omega) (by omega) (by omega) (by omega)
  have w1 : hV h1 11 2 = hV h 1 2 := by rw [e1]; unfold imC imCw; simp only [hV_eq, hV_cpy, Nat.reduceEqDiff, Nat.reduceLeDiff, Nat.reduceLT, Nat.reduceAdd, Nat.reduceSub, false_and, and_false, and_self, true_and, and_true, if_false, if_true, reduceIte]; exact (I_1_2 hJ).1.symm
  have w2 : hV h1 1 2 = hV h 1 2 := by rw [e1]; unfold imC imCw; simp only [hV_eq, hV_cpy, Nat.reduceEqDiff, Nat.reduceLeDiff, Nat.reduceLT, Nat.reduceAdd, Nat.reduceSub, false_and, and_false, and_self, true_and, and_true, if_false, if_true, reduceIte]
  obtain ⟨⟨b1, b2, b3⟩, b4, b5⟩ := b
  refine ⟨⟨?_, ?_, ?_⟩, fun i hi => ?_, ?_⟩
  · rw [n1 _ _ (by decide), n1 _ _ (by decide), m0 _ _ (by omega), m0 _ _ (by omega)]; exact b1
  · rw [n1 1 2 (by decide), n1 77 3 (by decide), w2, m0 77 3 (by omega)]; exact b2
  · rw [n1 11 2 (by decide), n2, w1, m0 77 3 (by omega)]; exact b2
  · rw [n1 _ _ (by decide), n1 _ _ (by decide), m0 _ _ (by omega), m0 _ _ (by omega)]; exact b4 i hi
  · rw [n1 _ _ (by decide), n1 76 5 (by decide), n1 76 6 (by decide), n1 70 6 (by decide), n1 70 7 (by decide), m0 _ _ (by omega), m0 76 5 (by omega), m0 76 6 (by omega), m0 70 6 (by omega), m0 70 7 (by omega)]; exact b5
/-- back of both -/
theorem TR_ba {h h1 h2 : AH} (hJ : k_H JB h) (b : TRp h) (e1 : h1 = baC h) (e2 : h2 = hCpy h1 78 0 77 0 9834) : TRp h2 := by
  have n1 : ∀ k i, k ≠ 77 → hV h2 k i = hV h1 k i := fun k i hk => by rw [e2]; exact hV_cpy_ne hk
  have n2 : hV h2 77 3 = hV h1 78 3 := by rw [e2]; exact cpyV (by decide)
  obtain ⟨-, -, -, -, nn⟩ := baC_v hJ
  have m0 : ∀ k i, 22 ≤ k ∨ k = 0 → hV h1 k i = hV h k i := fun k i hk => by rw [e1]; exact nn k i (by omega) (by omega) (by omega) (by omega) (by omega) (by omega) (by omega) (by omega) (by omega)
  have w1 : hV h1 1 2 = hV h 11 2 := by rw [e1]; unfold baC baCw; simp only [hV_eq, hV_cpy, Nat.reduceEqDiff, Nat.reduceLeDiff, Nat.reduceLT, Nat.reduceAdd, Nat.reduceSub, false_and, and_false, and_self, true_and, and_true, if_false, if_true, reduceIte]; exact (I_11_2 hJ).1.symm
  have w2 : hV h1 11 2 = hV h 11 2 := by rw [e1]; unfold baC baCw; simp only [hV_eq, hV_cpy, Nat.reduceEqDiff, Nat.reduceLeDiff, Nat.reduceLT, Nat.reduceAdd, Nat.reduceSub, false_and, and_false, and_self, true_and, and_true, if_false, if_true, reduceIte]
  obtain ⟨⟨b1, b2, b3⟩, b4, b5⟩ := b
  refine ⟨⟨?_, ?_, ?_⟩, fun i hi => ?_, ?_⟩
  · rw [n1 _ _ (by decide), n1 _ _ (by decide), m0 _ _ (by omega), m0 _ _ (by omega)]; exact b1
  · rw [n1 1 2 (by decide), n2, w1, m0 78 3 (by omega)]; exact b3
  · rw [n1 11 2 (by decide), n1 78 3 (by decide), w2, m0 78 3 (by omega)]; exact b3
  · rw [n1 _ _ (by decide), n1 _ _ (by decide), m0 _ _ (by omega), m0 _ _ (by omega)]; exact b4 i hi
  · rw [n1 _ _ (by decide), n1 76 5 (by decide), n1 76 6 (by decide), n1 70 6 (by decide), n1 70 7 (by decide), m0 _ _ (by omega), m0 76 5 (by omega), m0 76 6 (by omega), m0 70 6 (by omega), m0 70 7 (by omega)]; exact b5
