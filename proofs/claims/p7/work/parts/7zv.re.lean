/-! class and reference alike, in the heap -/
theorem fI_g {h h' : AH} {k i k' i' : Nat} (e : hV h' k' i' = hV h k i) : fI h' k' i' = fI h k i := congrArg nmb e
theorem AMf_c {am am' f f' : Nat → Int} (ea : ∀ i, (i = 2 ∨ (8 ≤ i ∧ i < 17)) → am' i = am i) (ef : ∀ i, 1 ≤ i → i < 15 → f' i = f i) (h : AMf am f) : AMf am' f' := ⟨fun i h1 h2 => by rw [ea (i + 7) (by omega), ef i h1 (by omega)]; exact h.1 i h1 h2, by rw [ea 2 (Or.inl rfl), ef 10 (by decide) (by decide)]; exact h.2⟩
def frG (i : Nat) : Prop := i = 1 ∨ i = 3 ∨ i = 4 ∨ i = 6 ∨ i = 18 ∨ (68 ≤ i ∧ i < 84) ∨ (9818 ≤ i ∧ i < 9834)
theorem WRs_c {W W' : Nat → Nat → Int} {f f' rw_ rw2 am am' : Nat → Int} {m c n : Nat} (eW : ∀ k i, inG k i = true → W' k i = W k i) (ef : ∀ i, 1 ≤ i → i < 15 → f' i = f i) (er : ∀ i, i < 1260 → rw2 i = rw_ i) (ea : ∀ i, i < 9834 → ¬ frG i → am' i = am i) (h : WRs W f rw_ am m c n) : WRs W' f' rw2 am' m c n := by
  obtain ⟨hH, hN, hO, hI, hS, hP⟩ := h
  have ea : ∀ i, i < 9834 → ¬ (i = 1 ∨ i = 3 ∨ i = 4 ∨ i = 6 ∨ i = 18 ∨ (68 ≤ i ∧ i < 84) ∨ (9818 ≤ i ∧ i < 9834)) → am' i = am i := ea
  have er6 : ∀ j i, 1 ≤ i → i ≤ 13 → rwF W' m j i = rwF W m j i := fun j i h1 h2 => eW _ _ (inG_6 (by omega))
  refine ⟨HKO_c (fun i h1 h2 => ef i h1 (by omega)) hH, ?_, ?_, ?_, ?_, ?_⟩
  · obtain ⟨n1, n2, n3, n4⟩ := hN
    exact ⟨AMf_c (fun i hi => ea i (by omega) (by omega)) ef n1, by rw [ea 17 (by decide) (by decide), ef 11 (by decide) (by decide)]; exact n2, by rw [ea 7 (by decide) (by decide), ef 13 (by decide) (by decide)]; exact n3, by rw [ef 14 (by decide) (by decide)]; exact n4⟩
  · obtain ⟨o1, o2, o3, o4⟩ := hO
    refine ⟨o1, (eW 1 5 rfl).trans o2, (ea 0 (by decide) (by decide)).trans o3, fun o ho => ?_⟩
    obtain ⟨q1, q2, q3⟩ := o4 o ho
    refine ⟨fun w hw => ?_, ?_, ORr_c (fun w hw => eW _ _ (inG_5 (by omega))) q3⟩
    · rw [ea _ (by omega) (by omega), eW _ _ (inG_5 (by omega))]; exact q1 w hw
    · rw [ea _ (by omega) (by omega), ef 12 (by decide) (by decide)]; exact q2
  · intro i hi
    rw [ef 13 (by decide) (by decide)] at hi
    have b := hH.2.2.2.2.1
    have b8 := pcB_8 (b := f 12)
    rw [ea _ (by omega) (by omega), ea _ (by omega) (by omega), eW _ _ (inG_9 (by omega)), eW _ _ (inG_10 (by omega))]
    exact hI i hi
  · obtain ⟨⟨hm, hc2, w7, w8, a5⟩, hr⟩ := hS
    refine ⟨⟨hm, hc2, (eW 1 7 rfl).trans w7, (eW 1 8 rfl).trans w8, (ea 5 (by decide) (by decide)).trans a5⟩, fun j hj => ?_⟩
    obtain ⟨r1, r2, r3⟩ := hr j hj
    refine ⟨AMr_c (fun k hk => ea _ (by omega) (by omega)) (fun i h1 h2 => er6 j i h1 h2) r1, HKO_c (fun i h1 h2 => er6 j i h1 h2) r2, NXT_c (fun i h1 h2 => er6 j i h1 h2) (fun i h1 h2 => ?_) r3⟩
    unfold prv
    by_cases z : j = 0
    · rw [if_pos z, if_pos z]; exact ef i h1 (by omega)
    · rw [if_neg z, if_neg z]; exact er6 _ i h1 h2
  · have eo : oldT W' f' m c = oldT W f m c := by
      unfold oldT
      by_cases z : c = 0
      · rw [if_pos z, if_pos z]; exact ef 9 (by decide) (by decide)
      · rw [if_neg z, if_neg z]; exact er6 _ 9 (by decide) (by decide)
    rw [eo]
    intro t h1 h2 w hw
    rw [ef 9 (by decide) (by decide)] at h1
    rw [er _ (Nat.mod_lt _ (by decide)), ea _ (by omega) (by omega)]
    exact hP t h1 h2 w hw
def WNo (h : AH) (b A : Nat) : Prop := ∃ m c n, WRs (fun k i => fI h (k + b) i) (fI h (2 + b)) (fI h (4 + b)) (fI h A) m c n
def OTH (h : AH) (b A : Nat) : Prop := (fI h A 1 = fI h (1 + b) 1 ∧ fI h A 3 = fI h (1 + b) 2 ∧ fI h A 4 = fI h (1 + b) 3) ∧ fI h (1 + b) 3 < fI h (1 + b) 2
/-- what an image holds of the class -/
def nowG (k i : Nat) : Prop := (k = 1 ∧ (i = 1 ∨ i = 2 ∨ i = 3 ∨ i = 5 ∨ i = 7 ∨ i = 8)) ∨ (k = 2 ∧ 1 ≤ i ∧ i < 15) ∨ (k = 4 ∧ i < 1260) ∨ (k = 5 ∧ i < 40) ∨ (k = 6 ∧ i < 390) ∨ (k = 9 ∧ i < 20) ∨ (k = 10 ∧ i < 20)
/-- what of the now-world a step speaks of -/
def wrG (k i : Nat) : Prop := inG k i = true ∨ (k = 2 ∧ 1 ≤ i ∧ i < 15) ∨ (k = 4 ∧ i < 1260)
theorem inG_w {k i : Nat} (h : inG k i = true) : nowG k i := by
  have h := of_decide_eq_true h
  unfold nowG
  omega
theorem wrG_n {k i : Nat} (h : wrG k i) : nowG k i := by
  rcases h with h | h | h
  · exact inG_w h
  · exact Or.inr (Or.inl h)
  · exact Or.inr (Or.inr (Or.inl h))
theorem WNo_f {h h' : AH} {b A b' A' : Nat} (e : ∀ k i, wrG k i → hV h' (k + b') i = hV h (k + b) i) (eA : ∀ i, i < 9834 → ¬ frG i → fI h' A' i = fI h A i) (w : WNo h b A) : WNo h' b' A' := by
  obtain ⟨m, c, n, w⟩ := w
  have e2 : ∀ i, 1 ≤ i → i < 15 → fI h' (2 + b') i = fI h (2 + b) i := fun i i1 i2 => fI_g (e 2 i (Or.inr (Or.inl ⟨rfl, i1, i2⟩)))
  have e4 : ∀ i, i < 1260 → fI h' (4 + b') i = fI h (4 + b) i := fun i i1 => fI_g (e 4 i (Or.inr (Or.inr ⟨rfl, i1⟩)))
  have eW : ∀ k i, inG k i = true → (fun k i => fI h' (k + b') i) k i = (fun k i => fI h (k + b) i) k i := fun k i hi => fI_g (e k i (Or.inl hi))
  exact ⟨m, c, n, WRs_c eW e2 e4 eA w⟩
theorem OTH_f {h h' : AH} {b A b' A' : Nat} (e : ∀ k i, nowG k i → hV h' (k + b') i = hV h (k + b) i) (a1 : fI h' A' 1 = fI h A 1) (a3 : fI h' A' 3 = fI h A 3) (a4 : fI h' A' 4 = fI h A 4) (w : OTH h b A) : OTH h' b' A' := by
  obtain ⟨⟨w1, w2, w3⟩, w6⟩ := w
  have e1 : fI h' (1 + b') 1 = fI h (1 + b) 1 := fI_g (e 1 1 (Or.inl ⟨rfl, by decide⟩))
  have e2 : fI h' (1 + b') 2 = fI h (1 + b) 2 := fI_g (e 1 2 (Or.inl ⟨rfl, by decide⟩))
  have e3 : fI h' (1 + b') 3 = fI h (1 + b) 3 := fI_g (e 1 3 (Or.inl ⟨rfl, by decide⟩))
  refine ⟨⟨?_, ?_, ?_⟩, ?_⟩
  · rw [a1, e1]; exact w1
  · rw [a3, e2]; exact w2
  · rw [a4, e3]; exact w3
  · rw [e3, e2]; exact w6
theorem TXZ_f {h h' : AH} (e7 : ∀ i, i < 300 → hV h' 47 i = hV h 47 i) (e8 : ∀ i, i < 5 → hV h' 48 i = hV h 48 i) (e9 : ∀ i, i < 5 → hV h' 49 i = hV h 49 i) (t : TXZ h) : TXZ h' := by
  obtain ⟨dd, t1, t2, t3⟩ := t
  exact ⟨dd, fun i hi => (e8 i hi).trans (t1 i hi), fun i hi => (e9 i hi).trans (t2 i hi), fun i hi => (e7 i hi).trans (t3 i hi)⟩
theorem TRp_e {h h' : AH} (e : ∀ k i, (k = 0 ∧ (i = 11 ∨ i = 12)) ∨ (k = 1 ∧ i = 2) ∨ (k = 11 ∧ i = 2) ∨ (k = 70 ∧ (i = 6 ∨ i = 7)) ∨ (k = 76 ∧ (i = 4 ∨ i = 5 ∨ i = 6)) ∨ ((k = 77 ∨ k = 78) ∧ i = 3) ∨ ((k = 75 ∨ k = 80) ∧ i < 300) → hV h' k i = hV h k i) (b : TRp h) : TRp h' := by
  obtain ⟨⟨b1, b2, b3⟩, b4, b5⟩ := b
  refine ⟨⟨?_, ?_, ?_⟩, fun i hi => ?_, ?_⟩
  · rw [e 0 11 (by omega), e 76 4 (by omega)]; exact b1
  · rw [e 1 2 (by omega), e 77 3 (by omega)]; exact b2
  · rw [e 11 2 (by omega), e 78 3 (by omega)]; exact b3
  · rw [e 75 i (by omega), e 80 i (by omega)]; exact b4 i hi
  · rw [e 0 12 (by omega), e 76 5 (by omega), e 76 6 (by omega), e 70 6 (by omega), e 70 7 (by omega)]; exact b5
/-- the whole relation -/
def REL (h : AH) : Prop := TRp h ∧ (WNo h 0 77 ∧ OTH h 0 77) ∧ (WNo h 10 78 ∧ OTH h 10 78) ∧ fI h 11 2 ≤ fI h 1 2 ∧ TXZ h ∧ (∃ CS : Nat → List cCl, ∀ J : Nat, (J : Int) < fI h 1 2 → TXJ h J (CS J)) ∧ rngV (fI h 59 7) ∧ hV h 76 25 = vI 0
def sbG (i : Nat) : Prop := i = 6 ∨ i = 18 ∨ (68 ≤ i ∧ i < 84) ∨ 9818 ≤ i
def allM (k i : Nat) : Prop := (k = 76 ∧ (i = 4 ∨ i = 5 ∨ i = 6 ∨ i = 25)) ∨ ((k = 77 ∨ k = 78) ∧ ¬ sbG i) ∨ (k = 79 ∧ i < 3012) ∨ (k = 80 ∧ i < 300)
theorem frG_s {i : Nat} (hi : i < 9834) (h : ¬ frG i) : ¬ sbG i := by
  unfold sbG
  unfold frG at h
  omega
/-- the list of what the relation speaks of, for contracts -/
def reR : List (Nat × Nat × Nat) := [(0, 11, 12), (1, 1, 3), (1, 5, 5), (1, 7, 8), (2, 1, 14), (4, 0, 1259), (5, 0, 39), (6, 0, 389), (9, 0, 19), (10, 0, 19), (11, 1, 3), (11, 5, 5), (11, 7, 8), (12, 1, 14), (14, 0, 1259), (15, 0, 39), (16, 0, 389), (19, 0, 19), (20, 0, 19), (22, 5, 6), (23, 0, 299), (24, 0, 4), (25, 0, 4), (26, 0, 23), (27, 0, 119), (28, 5, 6), (29, 0, 299), (30, 0, 4), (31, 0, 4), (32, 0, 23), (33, 0, 119), (34, 5, 6), (35, 0, 299), (36, 0, 4), (37, 0, 4), (38, 0, 23), (39, 0, 119), (40, 5, 6), (41, 0, 299), (42, 0, 4), (43, 0, 4), (44, 0, 23), (45, 0, 119), (47, 0, 299), (48, 0, 4), (49, 0, 4), (70, 6, 7), (75, 0, 299), (76, 4, 6), (76, 25, 25), (77, 0, 5), (77, 7, 17), (77, 19, 67), (77, 84, 9817), (78, 0, 5), (78, 7, 17), (78, 19, 67), (78, 84, 9817), (79, 0, 3011), (80, 0, 299)]
def REQ (h h' : AH) : Prop := ∀ q, q ∈ reR → ∀ i, q.2.1 ≤ i → i ≤ q.2.2 → hV h' q.1 i = hV h q.1 i
def exR (md : List (Nat × Nat × Nat)) : Bool := reR.all fun q => md.all fun m => !(Nat.beq m.1 q.1) || (Nat.ble (m.2.2 + 1) q.2.1 || Nat.ble (q.2.2 + 1) m.2.1)
theorem REQ_of {W : AH → Prop} {md : List (Nat × Nat × Nat)} {h h' : AH} (hx : exR md = true) (hF : n_F W md h h') : REQ h h' := by
  intro q hq i i1 i2
  refine hF.2 q.1 i ?_
  rintro ⟨m, m1, m2, m3, m4⟩
  unfold exR at hx
  rw [List.all_eq_true] at hx
  have h1 := hx q hq
  rw [List.all_eq_true] at h1
  have h2 := h1 m m1
  rw [show Nat.beq m.1 q.1 = true from Nat.beq_eq.mpr m2] at h2
  rw [Bool.not_true, Bool.false_or, Bool.or_eq_true] at h2
  rcases h2 with h2 | h2
  · have := Nat.le_of_ble_eq_true h2; omega
  · have := Nat.le_of_ble_eq_true h2; omega
theorem REQ_b {h h' : AH} (e : REQ h h') {k i : Nat} (hb : ∃ q, q ∈ reR ∧ q.1 = k ∧ q.2.1 ≤ i ∧ i ≤ q.2.2) : hV h' k i = hV h k i := by
  obtain ⟨q, q1, rfl, q2, q3⟩ := hb
  exact e q q1 i q2 q3
theorem REQ_k {h h' : AH} (e : REQ h h') (k a z : Nat) (hq : (k, a, z) ∈ reR) {i : Nat} (h1 : a ≤ i) (h2 : i ≤ z) : hV h' k i = hV h k i := e (k, a, z) hq i h1 h2
theorem REQ_now {h h' : AH} (e : REQ h h') : ∀ k i, nowG k i → hV h' k i = hV h k i := by
  intro k i g
  rcases g with ⟨rfl, z⟩ | ⟨rfl, z1, z2⟩ | ⟨rfl, z⟩ | ⟨rfl, z⟩ | ⟨rfl, z⟩ | ⟨rfl, z⟩ | ⟨rfl, z⟩
  · by_cases z3 : i ≤ 3
    · exact REQ_k e 1 1 3 (by decide) (by omega) z3
    by_cases z5 : i = 5
    · exact REQ_k e 1 5 5 (by decide) (by omega) (by omega)
    exact REQ_k e 1 7 8 (by decide) (by omega) (by omega)
  · exact REQ_k e 2 1 14 (by decide) z1 (by omega)
  · exact REQ_k e 4 0 1259 (by decide) (Nat.zero_le _) (by omega)
  · exact REQ_k e 5 0 39 (by decide) (Nat.zero_le _) (by omega)
  · exact REQ_k e 6 0 389 (by decide) (Nat.zero_le _) (by omega)
  · exact REQ_k e 9 0 19 (by decide) (Nat.zero_le _) (by omega)
  · exact REQ_k e 10 0 19 (by decide) (Nat.zero_le _) (by omega)
theorem REQ_img {h h' : AH} (e : REQ h h') : ∀ k i, nowG k i → hV h' (k + 10) i = hV h (k + 10) i := by
  intro k i g
  rcases g with ⟨rfl, z⟩ | ⟨rfl, z1, z2⟩ | ⟨rfl, z⟩ | ⟨rfl, z⟩ | ⟨rfl, z⟩ | ⟨rfl, z⟩ | ⟨rfl, z⟩
  · by_cases z3 : i ≤ 3
    · exact REQ_k e 11 1 3 (by decide) (by omega) z3
    by_cases z5 : i = 5
    · exact REQ_k e 11 5 5 (by decide) (by omega) (by omega)
    exact REQ_k e 11 7 8 (by decide) (by omega) (by omega)
  · exact REQ_k e 12 1 14 (by decide) z1 (by omega)
  · exact REQ_k e 14 0 1259 (by decide) (Nat.zero_le _) (by omega)
  · exact REQ_k e 15 0 39 (by decide) (Nat.zero_le _) (by omega)
  · exact REQ_k e 16 0 389 (by decide) (Nat.zero_le _) (by omega)
  · exact REQ_k e 19 0 19 (by decide) (Nat.zero_le _) (by omega)
  · exact REQ_k e 20 0 19 (by decide) (Nat.zero_le _) (by omega)
theorem REQ_tx {h h' : AH} (e : REQ h h') : ∀ J k i, J < 4 → tjG J k i → hV h' k i = hV h k i := by
  intro J k i hJ g
  have hJ3 : J = 0 ∨ J = 1 ∨ J = 2 ∨ J = 3 := by omega
  rcases hJ3 with rfl | rfl | rfl | rfl
  · rcases g with ⟨g, z1, z2⟩ | ⟨g, z⟩ | ⟨g, z⟩ | ⟨g, z⟩ | ⟨g, z⟩ | ⟨g, z⟩
    · obtain rfl : k = 22 := g
      exact REQ_k e 22 5 6 (by decide) z1 z2
    · obtain rfl : k = 23 := g
      exact REQ_k e 23 0 299 (by decide) (Nat.zero_le _) (by omega)
    · obtain rfl : k = 24 := g
      exact REQ_k e 24 0 4 (by decide) (Nat.zero_le _) (by omega)
    · obtain rfl : k = 25 := g
      exact REQ_k e 25 0 4 (by decide) (Nat.zero_le _) (by omega)
    · obtain rfl : k = 26 := g
      exact REQ_k e 26 0 23 (by decide) (Nat.zero_le _) (by omega)
    · obtain rfl : k = 27 := g
      exact REQ_k e 27 0 119 (by decide) (Nat.zero_le _) (by omega)
  · rcases g with ⟨g, z1, z2⟩ | ⟨g, z⟩ | ⟨g, z⟩ | ⟨g, z⟩ | ⟨g, z⟩ | ⟨g, z⟩
    · obtain rfl : k = 28 := g
      exact REQ_k e 28 5 6 (by decide) z1 z2
    · obtain rfl : k = 29 := g
      exact REQ_k e 29 0 299 (by decide) (Nat.zero_le _) (by omega)
    · obtain rfl : k = 30 := g
      exact REQ_k e 30 0 4 (by decide) (Nat.zero_le _) (by omega)
    · obtain rfl : k = 31 := g
      exact REQ_k e 31 0 4 (by decide) (Nat.zero_le _) (by omega)
    · obtain rfl : k = 32 := g
      exact REQ_k e 32 0 23 (by decide) (Nat.zero_le _) (by omega)
    · obtain rfl : k = 33 := g
      exact REQ_k e 33 0 119 (by decide) (Nat.zero_le _) (by omega)
  · rcases g with ⟨g, z1, z2⟩ | ⟨g, z⟩ | ⟨g, z⟩ | ⟨g, z⟩ | ⟨g, z⟩ | ⟨g, z⟩
    · obtain rfl : k = 34 := g
      exact REQ_k e 34 5 6 (by decide) z1 z2
    · obtain rfl : k = 35 := g
      exact REQ_k e 35 0 299 (by decide) (Nat.zero_le _) (by omega)
    · obtain rfl : k = 36 := g
      exact REQ_k e 36 0 4 (by decide) (Nat.zero_le _) (by omega)
    · obtain rfl : k = 37 := g
      exact REQ_k e 37 0 4 (by decide) (Nat.zero_le _) (by omega)
    · obtain rfl : k = 38 := g
      exact REQ_k e 38 0 23 (by decide) (Nat.zero_le _) (by omega)
    · obtain rfl : k = 39 := g
      exact REQ_k e 39 0 119 (by decide) (Nat.zero_le _) (by omega)
  · rcases g with ⟨g, z1, z2⟩ | ⟨g, z⟩ | ⟨g, z⟩ | ⟨g, z⟩ | ⟨g, z⟩ | ⟨g, z⟩
    · obtain rfl : k = 40 := g
      exact REQ_k e 40 5 6 (by decide) z1 z2
    · obtain rfl : k = 41 := g
      exact REQ_k e 41 0 299 (by decide) (Nat.zero_le _) (by omega)
    · obtain rfl : k = 42 := g
      exact REQ_k e 42 0 4 (by decide) (Nat.zero_le _) (by omega)
    · obtain rfl : k = 43 := g
      exact REQ_k e 43 0 4 (by decide) (Nat.zero_le _) (by omega)
    · obtain rfl : k = 44 := g
      exact REQ_k e 44 0 23 (by decide) (Nat.zero_le _) (by omega)
    · obtain rfl : k = 45 := g
      exact REQ_k e 45 0 119 (by decide) (Nat.zero_le _) (by omega)
theorem REQ_M {h h' : AH} (e : REQ h h') : ∀ k i, allM k i → hV h' k i = hV h k i := by
  intro k i g
  rcases g with ⟨rfl, z⟩ | ⟨rfl | rfl, z⟩ | ⟨rfl, z⟩ | ⟨rfl, z⟩
  · by_cases z3 : i = 25
    · exact REQ_k e 76 25 25 (by decide) (by omega) (by omega)
    exact REQ_k e 76 4 6 (by decide) (by omega) (by omega)
  · unfold sbG at z
    by_cases z1 : i ≤ 5
    · exact REQ_k e 77 0 5 (by decide) (Nat.zero_le _) z1
    by_cases z2 : i ≤ 17
    · exact REQ_k e 77 7 17 (by decide) (by omega) z2
    by_cases z3 : i ≤ 67
    · exact REQ_k e 77 19 67 (by decide) (by omega) z3
    exact REQ_k e 77 84 9817 (by decide) (by omega) (by omega)
  · unfold sbG at z
    by_cases z1 : i ≤ 5
    · exact REQ_k e 78 0 5 (by decide) (Nat.zero_le _) z1
    by_cases z2 : i ≤ 17
    · exact REQ_k e 78 7 17 (by decide) (by omega) z2
    by_cases z3 : i ≤ 67
    · exact REQ_k e 78 19 67 (by decide) (by omega) z3
    exact REQ_k e 78 84 9817 (by decide) (by omega) (by omega)
  · exact REQ_k e 79 0 3011 (by decide) (Nat.zero_le _) (by omega)
  · exact REQ_k e 80 0 299 (by decide) (Nat.zero_le _) (by omega)
/-- what leaves all that alone keeps it -/
theorem REL_f {h h' : AH} (hJ : k_H JB h) (hJ' : k_H JB h') (e : REQ h h') (e7 : rngV (fI h' 59 7)) (r : REL h) : REL h' := by
  obtain ⟨r1, ⟨r2, r3⟩, ⟨r4, r5⟩, r6, r7, ⟨CS, r8⟩, r9, r10⟩ := r
  have s1 : ¬ sbG 1 := by unfold sbG; omega
  have s3 : ¬ sbG 3 := by unfold sbG; omega
  have s4 : ¬ sbG 4 := by unfold sbG; omega
  have eM := REQ_M e
  have g0 : ∀ k i, nowG k i → hV h' (k + 0) i = hV h (k + 0) i := REQ_now e
  have g1 := REQ_img e
  have a7 : ∀ i, ¬ sbG i → fI h' 77 i = fI h 77 i := fun i hi => fI_g (eM 77 i (Or.inr (Or.inl ⟨Or.inl rfl, hi⟩)))
  have a8 : ∀ i, ¬ sbG i → fI h' 78 i = fI h 78 i := fun i hi => fI_g (eM 78 i (Or.inr (Or.inl ⟨Or.inr rfl, hi⟩)))
  have e12 : fI h' 1 2 = fI h 1 2 := fI_g (g0 1 2 (Or.inl ⟨rfl, by decide⟩))
  have e112 : fI h' 11 2 = fI h 11 2 := fI_g (g1 1 2 (Or.inl ⟨rfl, by decide⟩))
  refine ⟨TRp_e (fun k i hi => ?_) r1, ⟨WNo_f (fun k i hi => g0 k i (wrG_n hi)) (fun i hi hf => a7 i (frG_s hi hf)) r2, OTH_f g0 (a7 1 s1) (a7 3 s3) (a7 4 s4) r3⟩, ⟨WNo_f (fun k i hi => g1 k i (wrG_n hi)) (fun i hi hf => a8 i (frG_s hi hf)) r4, OTH_f g1 (a8 1 s1) (a8 3 s3) (a8 4 s4) r5⟩, ?_, TXZ_f (fun i hi => ?_) (fun i hi => ?_) (fun i hi => ?_) r7, ⟨CS, fun J hj => ?_⟩, e7, ?_⟩
  · rcases hi with ⟨rfl, z⟩ | ⟨rfl, rfl⟩ | ⟨rfl, rfl⟩ | ⟨rfl, z⟩ | ⟨rfl, z⟩ | ⟨z, rfl⟩ | ⟨rfl | rfl, z⟩
    · exact REQ_k e 0 11 12 (by decide) (by omega) (by omega)
    · exact REQ_k e 1 1 3 (by decide) (by decide) (by decide)
    · exact REQ_k e 11 1 3 (by decide) (by decide) (by decide)
    · exact REQ_k e 70 6 7 (by decide) (by omega) (by omega)
    · exact eM 76 i (Or.inl ⟨rfl, by omega⟩)
    · exact eM k 3 (Or.inr (Or.inl ⟨z, s3⟩))
    · exact REQ_k e 75 0 299 (by decide) (Nat.zero_le _) (by omega)
    · exact eM 80 i (Or.inr (Or.inr (Or.inr ⟨rfl, z⟩)))
  · rw [e12, e112]; exact r6
  · exact REQ_k e 47 0 299 (by decide) (Nat.zero_le _) (by omega)
  · exact REQ_k e 48 0 4 (by decide) (Nat.zero_le _) (by omega)
  · exact REQ_k e 49 0 4 (by decide) (Nat.zero_le _) (by omega)
  · rw [e12] at hj
    have h4 := (I_1_2 hJ).2.2
    have hJ4 : J < 4 := by omega
    exact TXJ_f hJ' hJ4 (fun k i hi => REQ_tx e J k i hJ4 hi) (fun i i1 i2 => eM 79 i (Or.inr (Or.inr (Or.inl ⟨rfl, by omega⟩)))) (r8 J hj)
  · rw [eM 76 25 (Or.inl ⟨rfl, by omega⟩)]; exact r10
/-- both worlds of now have gone on -/
theorem inG_0 {k i : Nat} (h : k ≠ 1) (h5 : k ≠ 5) (h6 : k ≠ 6) (h9 : k ≠ 9) (h10 : k ≠ 10) : inG k i = false := decide_eq_false (by omega)
theorem REL_step {h h1 h2 : AH} {T1 T2 m c n : Nat} {W : Nat → Nat → Int} {f rw_ am : Nat → Int} {s : SCR} {sM : SCM} (hJ : k_H JB h) (hJ2 : k_H JB h2) (r : REL h) (e1 : h1 = Zc h T1 T2 W f rw_ s) (e2 : h2 = Mc h1 am sM) (hs : SOK s) (hw : WRs W f rw_ am m c n) (hF : FRM (fI h 77) am) : REL h2 := by
  obtain ⟨r1, ⟨r2, r3⟩, ⟨r4, r5⟩, r6, r7, ⟨CS, r8⟩, r9, r10⟩ := r
  -- what isn't touched
  have u1 : ∀ k i, k < 58 → k ≠ 2 → k ≠ 4 → inG k i = false → hV h2 k i = hV h k i := fun k i a b d g => by
    rw [e2, e1]
    exact (Mc_n (by omega) (by omega) (Or.inl (by omega)) (by omega) (by omega)).trans (Zc_n a b d g)
  have u2 : ∀ k i, 61 ≤ k → k ≠ 77 → k ≠ 82 → (k ≠ 76 ∨ (i ≠ 21 ∧ i ≠ 22)) → k ≠ 83 → k ≠ 84 → hV h2 k i = hV h k i := fun k i a b d g p q => by
    rw [e2, e1]
    exact (Mc_n b d g p q).trans (Zc_hi a)
  have u3 : ∀ k i, inG k i = true → hV h2 k i = vI (W k i) := fun k i g => by
    have g2 := of_decide_eq_true g
    rw [e2, e1]
    exact (Mc_n (by omega) (by omega) (Or.inl (by omega)) (by omega) (by omega)).trans (Zc_B (by omega) (by omega) (by omega) g)
  have u4 : ∀ i, 1 ≤ i → i < 15 → hV h2 2 i = vI (f i) := fun i a b => by
    rw [e2, e1]
    exact (Mc_n (by decide) (by decide) (Or.inl (by decide)) (by decide) (by decide)).trans (Zc_f a b)
  have u5 : ∀ i, i < 1260 → hV h2 4 i = vL (rw_ i) := fun i a => by
    rw [e2, e1]
    exact (Mc_n (by decide) (by decide) (Or.inl (by decide)) (by decide) (by decide)).trans ((hQ_n (by decide) (Or.inl (by decide)) (by decide)).trans (hGk_r (by decide) a))
  have u6 : ∀ i, i < 9834 → hV h2 77 i = vI (am i) := fun i a => by
    rw [e2]
    exact Mc_v a
  have u7 : hV h2 59 7 = vI (s.1 7) := by
    rw [e2, e1]
    exact (Mc_n (by decide) (by decide) (Or.inl (by decide)) (by decide) (by decide)).trans (hQ_m (by decide))
  have hi : ∀ k i, 11 ≤ k → k < 58 → hV h2 k i = hV h k i := fun k i a b => u1 k i b (by omega) (by omega) (inG_hi a)
  have g1 : ∀ k i, nowG k i → hV h2 (k + 10) i = hV h (k + 10) i := fun k i g => by
    unfold nowG at g
    exact hi (k + 10) i (by omega) (by omega)
  have lo1 : ∀ i, i ≠ 5 → i ≠ 7 → i ≠ 8 → hV h2 1 i = hV h 1 i := fun i a b d => u1 1 i (by decide) (by decide) (by decide) (decide_eq_false (by omega))
  have e12 : fI h2 1 2 = fI h 1 2 := fI_g (lo1 2 (by decide) (by decide) (by decide))
  have e112 : fI h2 11 2 = fI h 11 2 := fI_g (hi 11 2 (by decide) (by decide))
  have a8 : ∀ i, fI h2 78 i = fI h 78 i := fun i => fI_g (u2 78 i (by decide) (by decide) (by decide) (Or.inl (by decide)) (by decide) (by decide))
  have hF : ∀ i, (i = 1 ∨ i = 3 ∨ i = 4 ∨ i = 6 ∨ i = 18 ∨ (68 ≤ i ∧ i < 84) ∨ (9818 ≤ i ∧ i < 9834)) → am i = fI h 77 i := hF
  have a7 : ∀ i, (i = 1 ∨ i = 3 ∨ i = 4 ∨ i = 6 ∨ i = 18 ∨ (68 ≤ i ∧ i < 84) ∨ (9818 ≤ i ∧ i < 9834)) → fI h2 77 i = fI h 77 i := fun i g => by
    have q : fI h2 77 i = am i := congrArg nmb (u6 i (by omega))
    exact q.trans (hF i g)
  have e73 : hV h2 77 3 = hV h 77 3 := by
    obtain ⟨x, hx⟩ := int_77 hJ 3 (by decide)
    have q := hF 3 (by decide)
    have q2 : fI h 77 3 = x := congrArg nmb hx
    rw [u6 3 (by decide), hx, q, q2]
  refine ⟨TRp_e (fun k i g => ?_) r1, ⟨⟨m, c, n, ?_⟩, ?_⟩, ⟨WNo_f (fun k i g => g1 k i (wrG_n g)) (fun i _ _ => a8 i) r4, OTH_f g1 (a8 1) (a8 3) (a8 4) r5⟩, ?_, TXZ_f (fun i _ => hi 47 i (by decide) (by decide)) (fun i _ => hi 48 i (by decide) (by decide)) (fun i _ => hi 49 i (by decide) (by decide)) r7, ⟨CS, fun J hj => ?_⟩, ?_, ?_⟩
  · rcases g with ⟨rfl, z⟩ | ⟨rfl, rfl⟩ | ⟨rfl, rfl⟩ | ⟨rfl, z⟩ | ⟨rfl, z⟩ | ⟨rfl | rfl, rfl⟩ | ⟨rfl | rfl, z⟩
    · exact u1 0 i (by decide) (by decide) (by decide) (inG_0 (by decide) (by decide) (by decide) (by decide) (by decide))
    · exact lo1 2 (by decide) (by decide) (by decide)
    · exact hi 11 2 (by decide) (by decide)
    · exact u2 70 i (by decide) (by decide) (by decide) (Or.inl (by decide)) (by decide) (by decide)
    · exact u2 76 i (by decide) (by decide) (by decide) (Or.inr (by omega)) (by decide) (by decide)
    · exact e73
    · exact u2 78 3 (by decide) (by decide) (by decide) (Or.inl (by decide)) (by decide) (by decide)
    · exact u2 75 i (by decide) (by decide) (by decide) (Or.inl (by decide)) (by decide) (by decide)
    · exact u2 80 i (by decide) (by decide) (by decide) (Or.inl (by decide)) (by decide) (by decide)
  · have eW : ∀ k i, inG k i = true → (fun k i => fI h2 (k + 0) i) k i = W k i := fun k i g => congrArg nmb (u3 k i g)
    have ef : ∀ i, 1 ≤ i → i < 15 → fI h2 (2 + 0) i = f i := fun i a b => congrArg nmb (u4 i a b)
    have er : ∀ i, i < 1260 → fI h2 (4 + 0) i = rw_ i := fun i a => congrArg nmb (u5 i a)
    have ea : ∀ i, i < 9834 → ¬ frG i → fI h2 77 i = am i := fun i a _ => congrArg nmb (u6 i a)
    exact WRs_c eW ef er ea hw
  · obtain ⟨⟨w1, w2, w3⟩, w6⟩ := r3
    have q1 : fI h2 1 1 = fI h 1 1 := fI_g (lo1 1 (by decide) (by decide) (by decide))
    have q3 : fI h2 1 3 = fI h 1 3 := fI_g (lo1 3 (by decide) (by decide) (by decide))
    have w1 : fI h 77 1 = fI h 1 1 := w1
    have w2 : fI h 77 3 = fI h 1 2 := w2
    have w3 : fI h 77 4 = fI h 1 3 := w3
    have w6 : fI h 1 3 < fI h 1 2 := w6
    show (fI h2 77 1 = fI h2 1 1 ∧ fI h2 77 3 = fI h2 1 2 ∧ fI h2 77 4 = fI h2 1 3) ∧ fI h2 1 3 < fI h2 1 2
    rw [a7 1 (by decide), a7 3 (by decide), a7 4 (by decide), q1, e12, q3]
    exact ⟨⟨w1, w2, w3⟩, w6⟩
  · rw [e12, e112]; exact r6
  · rw [e12] at hj
    have h4 := (I_1_2 hJ).2.2
    refine TXJ_f hJ2 (by omega) (fun k i g => ?_) (fun i _ _ => u2 79 i (by decide) (by decide) (by decide) (Or.inl (by decide)) (by decide) (by decide)) (r8 J hj)
    unfold tjG at g
    exact hi k i (by omega) (by omega)
  · have q : fI h2 59 7 = s.1 7 := congrArg nmb u7
    rw [q]
    exact hs 7 (by decide)
  · rw [u2 76 25 (by decide) (by decide) (by decide) (Or.inr (by decide)) (by decide) (by decide)]; exact r10
/-- what the relation gives the walks -/
theorem LWM_f {h h' : AH} {J : Int} {cs : List cCl} (e : ∀ i, i < 3012 → hV h' 79 i = hV h 79 i) (t : LWM h J cs) : LWM h' J cs := by
  rcases t with t | ⟨j, W, gm, t1, t2, t3, t4, t5⟩
  · exact Or.inl t
  · exact Or.inr ⟨j, W, gm, t1, t2, t3, fun i hi => (e i hi).trans (t4 i hi), t5⟩
theorem SOK_self {h : AH} {s : SCR} (e : s.1 = fun i => if i < 8 then fI h 59 i else 0) (h7 : rngV (fI h 59 7)) : SOK s := fun i hi => by
  rw [e]
  show rngV (if i < 8 then fI h 59 i else 0)
  by_cases z : i < 8
  · obtain rfl : i = 7 := by omega
    rw [if_pos z]; exact h7
  · rw [if_neg z]; exact ⟨by decide, by decide⟩
theorem REL_T {h : AH} (hJ : k_H JB h) (r : REL h) : ∃ (T : Nat) (cs : List cCl), RUL h T ∧ LWC h T cs ∧ LWM h (fI h 77 4) cs ∧ CST cs := by
  obtain ⟨r1, ⟨r2, r3⟩, ⟨r4, r5⟩, r6, r7, ⟨CS, r8⟩, r9, r10⟩ := r
  obtain ⟨⟨w1, w2, w3⟩, w6⟩ := r3
  have w3 : fI h 77 4 = fI h 1 3 := w3
  have w6 : fI h 1 3 < fI h 1 2 := w6
  obtain ⟨e2, a1, a2⟩ := I_1_2 hJ
  obtain ⟨e3, b1, b2⟩ := I_1_3 hJ
  rw [w3]
  by_cases z : fI h 1 3 = -1
  · rw [z] at e3 ⊢
    exact ⟨46, [], ⟨_, e2, ⟨a1, a2⟩, Or.inl ⟨e3, rfl⟩⟩, TXZ_C hJ r7, Or.inl ⟨rfl, rfl⟩, CST_0⟩
  · obtain ⟨J, hj⟩ : ∃ J : Nat, (J : Int) = fI h 1 3 := ⟨(fI h 1 3).toNat, by omega⟩
    rw [← hj] at e3 w6 ⊢
    have t := r8 J w6
    exact ⟨22 + 6 * J, CS J, ⟨_, e2, ⟨a1, a2⟩, Or.inr ⟨J, e3, w6, rfl⟩⟩, TXJ_C hJ (by omega) t, TXJ_M (by omega) t, TXJ_T hJ (by omega) t⟩
/-- the reference's normal form of a heap -/
theorem hU_ge {h : AH} {vf tf : Nat → Int} {k i : Nat} (hi : ¬ i < 330) : hV (hU h vf tf) k i = hV h k i := by
  show (if k = 83 ∧ i < 330 then vL (vf i) else if k = 84 ∧ i < 330 then vI (tf i) else h.2.2.2 k i) = h.2.2.2 k i
  rw [if_neg (fun y => hi y.2), if_neg (fun y => hi y.2)]
theorem hY_ge {h : AH} {nm : Nat → Int} {af ae : Int} {k i : Nat} (hk : k ≠ 76) (hi : ¬ i < 8) : hV (hY h nm af ae) k i = hV h k i := by
  show (if k = 82 ∧ i < 8 then vI (nm i) else if k = 76 ∧ i = 21 then vI af else if k = 76 ∧ i = 22 then vI ae else h.2.2.2 k i) = h.2.2.2 k i
  rw [if_neg (fun y => hi y.2), if_neg (fun y => hk y.1), if_neg (fun y => hk y.1)]
theorem Mc_self {h : AH} (hJ : k_H JB h) : Mc h (fI h 77) (fI h 82, fI h 76 21, fI h 76 22, fI h 83, fI h 84) = h := by
  refine AH_x rfl rfl rfl (fun k i => ?_)
  show hV (hM7 h (fI h 77) (fI h 82) (fI h 76 21) (fI h 76 22) (fI h 83) (fI h 84)) k i = hV h k i
  by_cases z3 : k = 83
  · subst z3
    by_cases y : i < 330
    · exact (hU_v y).trans (A_83_0 hJ (Nat.zero_le _) y).1.symm
    · exact (hU_ge y).trans ((hY_n (by decide) (Or.inl (by decide))).trans (hA_n (by decide)))
  by_cases z4 : k = 84
  · subst z4
    by_cases y : i < 330
    · exact (hU_t y).trans (A_84_0 hJ (Nat.zero_le _) y).1.symm
    · exact (hU_ge y).trans ((hY_n (by decide) (Or.inl (by decide))).trans (hA_n (by decide)))
  refine (hU_n z3 z4).trans ?_
  by_cases z2 : k = 82
  · subst z2
    by_cases y : i < 8
    · exact (hY_m y).trans (A_82_0 hJ (Nat.zero_le _) y).1.symm
    · exact (hY_ge (by decide) y).trans (hA_n (by decide))
  by_cases z6 : k = 76 ∧ (i = 21 ∨ i = 22)
  · obtain ⟨rfl, rfl | rfl⟩ := z6
    · exact hY_21.trans (I_76_21 hJ).1.symm
    · exact hY_22.trans (I_76_22 hJ).1.symm
  refine (hY_n z2 (by omega)).trans ?_
  by_cases z7 : k = 77 ∧ i < 9834
  · obtain ⟨rfl, y⟩ := z7
    obtain ⟨x, hx⟩ := int_77 hJ i y
    have q : fI h 77 i = x := congrArg nmb hx
    rw [hA_V y, hx, q]
  · exact if_neg z7
