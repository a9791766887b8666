/-! class and reference alike: the hook, the orders, what landed, the steps, what is kept -/
def pcB (b : Int) : Int := bitF b 0 + bitF b 1 + bitF b 2 + bitF b 3 + bitF b 4 + bitF b 5 + bitF b 6 + bitF b 7
def ORr (W : Nat → Nat → Int) (o : Nat) : Prop := (1 ≤ W 5 (5 * o) ∧ W 5 (5 * o) ≤ 99) ∧ (0 ≤ W 5 (5 * o + 1) ∧ W 5 (5 * o + 1) ≤ 60) ∧ (0 ≤ W 5 (5 * o + 2) ∧ W 5 (5 * o + 2) ≤ 999) ∧ (0 ≤ W 5 (5 * o + 3) ∧ W 5 (5 * o + 3) ≤ 9) ∧ (0 ≤ W 5 (5 * o + 4) ∧ W 5 (5 * o + 4) ≤ 1)
def HKO (f : Nat → Int) (n : Nat) : Prop := HKs f ∧ f 9 ≤ 9999 ∧ (-1 ≤ f 11 ∧ f 11 < (n : Int)) ∧ (0 ≤ f 12 ∧ f 12 < 2 ^ n) ∧ pcB (f 12) = f 13 ∧ (f 11 = -1 ∨ bitF (f 12) (f 11).toNat = 0)
theorem HKO_c {f g : Nat → Int} {n : Nat} (e : ∀ i, 1 ≤ i → i ≤ 13 → g i = f i) (h : HKO f n) : HKO g n := by
  unfold HKO HKs HKr at *
  rw [e 1 (by decide) (by decide), e 2 (by decide) (by decide), e 3 (by decide) (by decide), e 4 (by decide) (by decide), e 5 (by decide) (by decide), e 6 (by decide) (by decide), e 7 (by decide) (by decide), e 8 (by decide) (by decide), e 9 (by decide) (by decide), e 10 (by decide) (by decide), e 11 (by decide) (by decide), e 12 (by decide) (by decide), e 13 (by decide) (by decide)]
  exact h
/-- a kept step's numbers in the reference -/
def AMr (am : Nat → Int) (x : Nat) (g : Nat → Int) : Prop := (∀ k, k < 9 → am (x + k) = g (k + 1)) ∧ am (x + 9) = g 11 ∧ am (x + 10) = g 10 ∧ am (x + 11) = g 13 ∧ am (x + 12) = g 12
theorem AMr_c {am am' : Nat → Int} {x x' : Nat} {g g' : Nat → Int} (e : ∀ k, k < 13 → am' (x' + k) = am (x + k)) (eg : ∀ i, 1 ≤ i → i ≤ 13 → g' i = g i) (h : AMr am x g) : AMr am' x' g' := by
  obtain ⟨h1, h2, h3, h4, h5⟩ := h
  refine ⟨fun k hk => ?_, ?_, ?_, ?_, ?_⟩
  · rw [e k (by omega), eg (k + 1) (by omega) (by omega)]; exact h1 k hk
  · rw [e 9 (by decide), eg 11 (by decide) (by decide)]; exact h2
  · rw [e 10 (by decide), eg 10 (by decide) (by decide)]; exact h3
  · rw [e 11 (by decide), eg 13 (by decide) (by decide)]; exact h4
  · rw [e 12 (by decide), eg 12 (by decide) (by decide)]; exact h5
/-- the j-th latest of the class's kept steps -/
def rwF (W : Nat → Nat → Int) (m j : Nat) : Nat → Int := fun i => W 6 (13 * ((m + 29 - j) % 30) + (i - 1))
def prv (W : Nat → Nat → Int) (f : Nat → Int) (m j : Nat) : Nat → Int := if j = 0 then f else rwF W m (j - 1)
def NXT (g g' : Nat → Int) : Prop := g 9 ≤ g' 9 ∧ g' 9 ≤ g 9 + 40 ∧ g 13 ≤ g' 13
theorem NXT_c {g g' k k' : Nat → Int} (e : ∀ i, 1 ≤ i → i ≤ 13 → k i = g i) (e' : ∀ i, 1 ≤ i → i ≤ 13 → k' i = g' i) (h : NXT g g') : NXT k k' := by
  unfold NXT at *
  rw [e 9 (by decide) (by decide), e 13 (by decide) (by decide), e' 9 (by decide) (by decide), e' 13 (by decide) (by decide)]
  exact h
def oldT (W : Nat → Nat → Int) (f : Nat → Int) (m c : Nat) : Int := if c = 0 then f 9 else rwF W m (c - 1) 9
def NUM (f am : Nat → Int) : Prop := AMf am f ∧ am 17 = f 11 ∧ am 7 = f 13 ∧ f 14 = 0
def ORD (W : Nat → Nat → Int) (f am : Nat → Int) (n : Nat) : Prop := n ≤ 8 ∧ W 1 5 = (n : Int) ∧ am 0 = (n : Int) ∧ ∀ o, o < n → (∀ w, w < 5 → am (20 + 6 * o + w) = W 5 (5 * o + w)) ∧ am (25 + 6 * o) = bitF (f 12) o ∧ ORr W o
def WRI (W : Nat → Nat → Int) (f am : Nat → Int) : Prop := ∀ i : Nat, (i : Int) < f 13 → am (474 + 2 * i) = W 9 i ∧ am (475 + 2 * i) = W 10 i
def STP (W : Nat → Nat → Int) (f am : Nat → Int) (m c n : Nat) : Prop := (m < 30 ∧ c ≤ 30 ∧ W 1 7 = (m : Int) ∧ W 1 8 = (c : Int) ∧ am 5 = (c : Int)) ∧ ∀ j, j < c → AMr am (84 + 13 * (c - 1 - j)) (rwF W m j) ∧ HKO (rwF W m j) n ∧ NXT (rwF W m j) (prv W f m j)
def PST (f rw_ am : Nat → Int) (o : Int) : Prop := ∀ t : Nat, (t : Int) < f 9 → o ≤ (t : Int) + 60 → ∀ w, w < 6 → prW (rw_ (t % 1260)) w = am (602 + 6 * (t % 1536) + w)
def WRs (W : Nat → Nat → Int) (f rw_ am : Nat → Int) (m c n : Nat) : Prop := HKO f n ∧ NUM f am ∧ ORD W f am n ∧ WRI W f am ∧ STP W f am m c n ∧ PST f rw_ am (oldT W f m c)
theorem pcB_8 {b : Int} : 0 ≤ pcB b ∧ pcB b ≤ 8 := by
  have h0 := bitF_r b 0
  have h1 := bitF_r b 1
  have h2 := bitF_r b 2
  have h3 := bitF_r b 3
  have h4 := bitF_r b 4
  have h5 := bitF_r b 5
  have h6 := bitF_r b 6
  have h7 := bitF_r b 7
  unfold pcB
  omega
theorem chnT {W : Nat → Nat → Int} {f am : Nat → Int} {m c n : Nat} (h : STP W f am m c n) : ∀ j, j < c → rwF W m j 9 ≤ f 9 ∧ f 9 ≤ rwF W m j 9 + 40 * ((j : Int) + 1) ∧ rwF W m 0 9 ≤ rwF W m j 9 + 40 * (j : Int) := by
  intro j
  induction j with
  | zero =>
    intro hj
    have q := (h.2 0 hj).2.2
    have q : NXT (rwF W m 0) f := q
    obtain ⟨q1, q2, q3⟩ := q
    omega
  | succ j ih =>
    intro hj
    obtain ⟨i1, i2, i3⟩ := ih (by omega)
    have q := (h.2 (j + 1) hj).2.2
    have q : NXT (rwF W m (j + 1)) (rwF W m j) := q
    obtain ⟨q1, q2, q3⟩ := q
    omega
theorem oldT_r {W : Nat → Nat → Int} {f am : Nat → Int} {m c n : Nat} (h : STP W f am m c n) : oldT W f m c ≤ f 9 ∧ (1 ≤ c → rwF W m 0 9 ≤ oldT W f m c + 40 * ((c : Int) - 1)) := by
  unfold oldT
  by_cases z : c = 0
  · rw [if_pos z]
    exact ⟨Int.le_refl _, fun y => by omega⟩
  · rw [if_neg z]
    have q := chnT h (c - 1) (by omega)
    refine ⟨q.1, fun _ => ?_⟩
    have e : ((c - 1 : Nat) : Int) = (c : Int) - 1 := by omega
    rw [e] at q
    exact q.2.2
theorem PST_R {W : Nat → Nat → Int} {f rw_ am : Nat → Int} {m c n t : Nat} (h : WRs W f rw_ am m c n) (h9 : f 9 = (t : Int)) : PRW am rw_ 1260 t (elF (t : Int)).toNat := by
  obtain ⟨_, _, _, _, hs, hp⟩ := h
  have ho := (oldT_r hs).1
  intro k w k1 k9 hw hk
  exact (hp (t - k) (by omega) (by omega) w (by omega)).symm
/-- what keepStep leaves alone -/
theorem ksW_n {W : Nat → Nat → Int} {f : Nat → Int} {m k j : Nat} (h1 : k ≠ 6) (h2 : ¬ (k = 1 ∧ (j = 7 ∨ j = 8))) : ksW W f m k j = W k j := by
  unfold ksW
  rw [upW_ne (by omega), upW_ne (by omega), svW_n (by omega)]
theorem ksW_6 {W : Nat → Nat → Int} {f : Nat → Int} {m j : Nat} : ksW W f m 6 j = svW W f (13 * m) 6 j := by
  unfold ksW
  rw [upW_ne (by omega), upW_ne (by omega)]
theorem rwK_0 {W : Nat → Nat → Int} {f : Nat → Int} {m : Nat} (hm : m < 30) : ∀ i, 1 ≤ i → i ≤ 13 → rwF (ksW W f m) ((m + 1) % 30) 0 i = f i := by
  intro i h1 h2
  unfold rwF
  rw [ksW_6, show ((m + 1) % 30 + 29 - 0) % 30 = m by omega, svW_v (by omega), show i - 1 + 1 = i by omega]
theorem rwK_s {W : Nat → Nat → Int} {f : Nat → Int} {m j : Nat} (hm : m < 30) (hj : j < 29) : ∀ i, 1 ≤ i → i ≤ 13 → rwF (ksW W f m) ((m + 1) % 30) (j + 1) i = rwF W m j i := by
  intro i h1 h2
  unfold rwF
  obtain ⟨r, hr⟩ : ∃ r, (m + 29 - j) % 30 = r := ⟨_, rfl⟩
  have e : ((m + 1) % 30 + 29 - (j + 1)) % 30 = r := by omega
  have hn : r ≠ m := by omega
  rw [ksW_6, e, hr, svW_n (by omega)]
theorem prvK {W : Nat → Nat → Int} {f : Nat → Int} {m j : Nat} (hm : m < 30) (hj : j < 29) : ∀ i, 1 ≤ i → i ≤ 13 → prv (ksW W f m) f ((m + 1) % 30) (j + 1) i = prv W f m j i := by
  intro i h1 h2
  unfold prv
  rw [if_neg (by omega), show j + 1 - 1 = j by omega]
  by_cases z : j = 0
  · subst z
    rw [if_pos rfl]
    exact rwK_0 hm i h1 h2
  · rw [if_neg z]
    obtain ⟨j2, rfl⟩ : ∃ j2, j = j2 + 1 := ⟨j - 1, by omega⟩
    rw [show j2 + 1 - 1 = j2 by omega]
    exact rwK_s hm (by omega) i h1 h2
theorem ORr_c {W W' : Nat → Nat → Int} {o : Nat} (e : ∀ w, w < 5 → W' 5 (5 * o + w) = W 5 (5 * o + w)) (h : ORr W o) : ORr W' o := by
  unfold ORr at *
  have e0 := e 0 (by decide)
  have e0 : W' 5 (5 * o) = W 5 (5 * o) := e0
  rw [e0, e 1 (by decide), e 2 (by decide), e 3 (by decide), e 4 (by decide)]
  exact h
/-- a step is kept -/
theorem WR_keep {W : Nat → Nat → Int} {f rw_ am am' : Nat → Int} {m c n s' : Nat} {t : Bool} (h : WRs W f rw_ am m c n) (hL : LAY am am' s' t) (hb : am' (84 + 13 * s' + 12) = f 12) : WRs (ksW W f m) f rw_ am' ((m + 1) % 30) (min 30 (c + 1)) n ∧ ∀ i, 1 ≤ i → i ≤ 13 → rwF (ksW W f m) ((m + 1) % 30) 0 i = f i := by
  obtain ⟨hH, hN, hO, hI, hS, hP⟩ := h
  obtain ⟨⟨l1, l2, l3, l4⟩, l5, l6, l7, l8, l9, _⟩ := hL
  have hS0 := hS
  obtain ⟨⟨hm, hc, w7, w8, a5⟩, hr⟩ := hS
  have hcs : (t = true ∧ c = 30 ∧ s' = 29) ∨ (t = false ∧ c = s') := by
    cases t with
    | true => have := l3 rfl; exact Or.inl ⟨rfl, by omega, by omega⟩
    | false => have := l4 rfl; exact Or.inr ⟨rfl, by omega⟩
  have hc' : min 30 (c + 1) = s' + 1 := by omega
  have lo : ∀ i, i ≠ 5 → i < 84 → am' i = am i := fun i h1 h2 => l5 i h1 (Or.inl h2)
  have k0 := rwK_0 (W := W) (f := f) hm
  refine ⟨⟨hH, ?_, ?_, ?_, ?_, ?_⟩, k0⟩
  · obtain ⟨⟨n1, n2⟩, n3, n4, n5⟩ := hN
    exact ⟨⟨fun i h1 h2 => (lo (i + 7) (by omega) (by omega)).trans (n1 i h1 h2), (lo 2 (by decide) (by decide)).trans n2⟩, (lo 17 (by decide) (by decide)).trans n3, (lo 7 (by decide) (by decide)).trans n4, n5⟩
  · obtain ⟨o1, o2, o3, o4⟩ := hO
    refine ⟨o1, (ksW_n (by decide) (by omega)).trans o2, (lo 0 (by decide) (by decide)).trans o3, fun o ho => ?_⟩
    obtain ⟨p1, p2, p3⟩ := o4 o ho
    refine ⟨fun w hw => ?_, (lo (25 + 6 * o) (by omega) (by omega)).trans p2, ORr_c (fun w _ => ksW_n (by decide) (by omega)) p3⟩
    rw [lo (20 + 6 * o + w) (by omega) (by omega), ksW_n (by decide) (by omega)]
    exact p1 w hw
  · intro i hi
    have q := hI i hi
    rw [l5 (474 + 2 * i) (by omega) (Or.inr (by omega)), l5 (475 + 2 * i) (by omega) (Or.inr (by omega)), ksW_n (by decide) (by omega), ksW_n (by decide) (by omega)]
    exact q
  · refine ⟨⟨Nat.mod_lt _ (by decide), by omega, ksW_7, ?_, ?_⟩, fun j hj => ?_⟩
    · rw [ksW_8, w8]; omega
    · rw [l2, hc']
    · rw [hc'] at hj ⊢
      cases j with
      | zero =>
        obtain ⟨⟨n1, n2⟩, n3, n4, n5⟩ := hN
        refine ⟨⟨fun k hk => ?_, ?_, ?_, ?_, ?_⟩, HKO_c k0 hH, ?_⟩
        · rw [show s' + 1 - 1 - 0 = s' by omega, l7 k (by omega), k0 (k + 1) (by omega) (by omega), ← n1 (k + 1) (by omega) (by omega)]
          exact congrArg am (by omega)
        · rw [show s' + 1 - 1 - 0 = s' by omega, l7 9 (by decide), k0 11 (by decide) (by decide)]; exact n3
        · rw [show s' + 1 - 1 - 0 = s' by omega, l8, k0 10 (by decide) (by decide)]; exact n2
        · rw [show s' + 1 - 1 - 0 = s' by omega, l9, k0 13 (by decide) (by decide)]; exact n4
        · rw [show s' + 1 - 1 - 0 = s' by omega, hb, k0 12 (by decide) (by decide)]
        · show NXT _ f
          unfold NXT
          rw [k0 9 (by decide) (by decide), k0 13 (by decide) (by decide)]
          omega
      | succ j =>
        have hj2 : j < c := by omega
        obtain ⟨r1, r2, r3⟩ := hr j hj2
        have ks := rwK_s (W := W) (f := f) (j := j) hm (by omega)
        refine ⟨AMr_c (fun k hk => ?_) ks r1, HKO_c ks r2, NXT_c ks (prvK hm (by omega)) r3⟩
        obtain ⟨q1, q2⟩ := l6 (84 + 13 * (s' + 1 - 1 - (j + 1)) + k) (by omega) (by omega) (Or.inl (by omega))
        rw [q1]
        rcases hcs with ⟨rfl, e1, e2⟩ | ⟨rfl, e1⟩
        · exact congrArg am (by show 84 + 13 * (s' + 1 - 1 - (j + 1)) + k + 13 = 84 + 13 * (c - 1 - j) + k; omega)
        · exact congrArg am (by show 84 + 13 * (s' + 1 - 1 - (j + 1)) + k = 84 + 13 * (c - 1 - j) + k; omega)
  · have ho : oldT W f m c ≤ oldT (ksW W f m) f ((m + 1) % 30) (min 30 (c + 1)) := by
      rw [hc']
      unfold oldT
      rw [if_neg (show ¬ s' + 1 = 0 by omega), show s' + 1 - 1 = s' by omega]
      by_cases z : c = 0
      · rw [if_pos z]
        have e : s' = 0 := by omega
        subst e
        rw [k0 9 (by decide) (by decide)]
        exact Int.le_refl _
      · rw [if_neg z]
        obtain ⟨j, hj⟩ : ∃ j, s' = j + 1 := ⟨s' - 1, by omega⟩
        rw [hj, rwK_s hm (by omega) 9 (by decide) (by decide)]
        rcases hcs with ⟨_, e1, e2⟩ | ⟨_, e1⟩
        · have e3 : j = 28 := by omega
          subst e3
          have q : NXT (rwF W m 29) (rwF W m 28) := (hr 29 (by omega)).2.2
          rw [show c - 1 = 29 by omega]
          exact q.1
        · rw [show c - 1 = j by omega]
          exact Int.le_refl _
    intro t' h1 h2 w hw
    rw [l5 _ (by omega) (Or.inr (by omega))]
    exact hP t' h1 (by omega) w hw
/-- what a tenth leaves of the reference's numbers -/
def PSx (am am' f' : Nat → Int) (x : Nat) (z : Int) : Prop := AMf am' f' ∧ (∀ w, w < 6 → am' (x + w) = prW z w) ∧ ∀ i, i ≠ 2 → ¬ (8 ≤ i ∧ i ≤ 16) → ¬ (x ≤ i ∧ i < x + 6) → am' i = am i
/-- a tenth goes by -/
theorem WR_ten {W : Nat → Nat → Int} {f rw_ am am' : Nat → Int} {m c n t : Nat} {cs : List cCl} {cm : Int} (h : WRs W f rw_ am m c n) (hc : 1 ≤ c) (hsl : f 9 + 1 ≤ rwF W m 0 9 + 40) (h9 : f 9 = (t : Int)) (ht : t < 9999) (hp : PSx am am' (TNf cs f rw_ 1260 t cm) (602 + 6 * (t % 1536)) (pkZ f cm)) : WRs W (TNf cs f rw_ 1260 t cm) (rwT f rw_ 1260 t cm) am' m c n := by
  obtain ⟨hH, hN, hO, hI, hS, hP⟩ := h
  obtain ⟨p1, p2, p3⟩ := hp
  obtain ⟨v1, v2, v3, v4, v5⟩ := TN_v (cs := cs) (rw_ := rw_) (sz := 1260) (t := t) (c := cm) hH.1
  have lo : ∀ i, i ≠ 2 → ¬ (8 ≤ i ∧ i ≤ 16) → i < 602 → am' i = am i := fun i a b d => p3 i a b (by omega)
  refine ⟨?_, ?_, ?_, ?_, ?_, ?_⟩
  · obtain ⟨_, _, h3, h4, h5, h6⟩ := hH
    refine ⟨⟨v1, v2, by omega⟩, by omega, ?_, ?_, ?_, ?_⟩
    · rw [v5 11 (by decide)]; exact h3
    · rw [v5 12 (by decide)]; exact h4
    · rw [v5 12 (by decide), v5 13 (by decide)]; exact h5
    · rw [v5 11 (by decide), v5 12 (by decide)]; exact h6
  · obtain ⟨_, n3, n4, n5⟩ := hN
    exact ⟨p1, by rw [lo 17 (by decide) (by decide) (by decide), v5 11 (by decide)]; exact n3, by rw [lo 7 (by decide) (by decide) (by decide), v5 13 (by decide)]; exact n4, by rw [v5 14 (by decide)]; exact n5⟩
  · obtain ⟨o1, o2, o3, o4⟩ := hO
    refine ⟨o1, o2, (lo 0 (by decide) (by decide) (by decide)).trans o3, fun o ho => ?_⟩
    obtain ⟨q1, q2, q3⟩ := o4 o ho
    refine ⟨fun w hw => ?_, ?_, q3⟩
    · rw [lo (20 + 6 * o + w) (by omega) (by omega) (by omega)]; exact q1 w hw
    · rw [lo (25 + 6 * o) (by omega) (by omega) (by omega), v5 12 (by decide)]; exact q2
  · intro i hi
    rw [v5 13 (by decide)] at hi
    have b := hH.2.2.2.2.1
    have b8 := pcB_8 (b := f 12)
    rw [lo (474 + 2 * i) (by omega) (by omega) (by omega), lo (475 + 2 * i) (by omega) (by omega) (by omega)]
    exact hI i hi
  · obtain ⟨⟨hm, hc2, w7, w8, a5⟩, hr⟩ := hS
    refine ⟨⟨hm, hc2, w7, w8, (lo 5 (by decide) (by decide) (by decide)).trans a5⟩, fun j hj => ?_⟩
    obtain ⟨r1, r2, r3⟩ := hr j hj
    refine ⟨AMr_c (fun k hk => lo _ (by omega) (by omega) (by omega)) (fun _ _ _ => rfl) r1, r2, ?_⟩
    by_cases z : j = 0
    · subst z
      have r3 : NXT (rwF W m 0) f := r3
      show NXT (rwF W m 0) (TNf cs f rw_ 1260 t cm)
      unfold NXT at *
      rw [v3, v5 13 (by decide)]
      omega
    · unfold prv at r3 ⊢
      rw [if_neg z] at r3 ⊢
      exact r3
  · have ho := oldT_r hS
    have eo : oldT W (TNf cs f rw_ 1260 t cm) m c = oldT W f m c := by
      unfold oldT
      rw [if_neg (by omega), if_neg (by omega)]
    rw [eo]
    have hc2 := hS.1.2.1
    intro t' h1 h2 w hw
    rw [v3] at h1
    unfold rwT
    by_cases z : t' = t
    · subst z
      rw [upF_at]
      exact (p2 w hw).symm
    · have b1 := ho.2 hc
      obtain ⟨k, hk⟩ : ∃ k, t' = t - k ∧ 1 ≤ k ∧ k < 1260 ∧ k ≤ t := ⟨t - t', by omega, by omega, by omega, by omega⟩
      obtain ⟨rfl, k1, k2, k3⟩ := hk
      have m1 := mod_k (sz := 1260) k1 k2 k3
      have m2 := mod_k (sz := 1536) k1 (by omega) k3
      rw [upF_ne m1, p3 _ (by omega) (by omega) (by omega)]
      exact hP (t - k) (by omega) (by omega) w hw
/-- the latest step is taken back -/
theorem WR_undo {W : Nat → Nat → Int} {f rw_ am am' : Nat → Int} {m c n : Nat} {b : Int} (h : WRs W f rw_ am m (c + 1) n) (hU : UNx b am am' c n) (hb : b = rwF W m 0 12) : WRs (tkW W m) (tkF W f m) rw_ am' ((m + 29) % 30) c n := by
  obtain ⟨hH, hN, hO, hI, hS, hP⟩ := h
  obtain ⟨u1, u2, u3, u4, u5, u6⟩ := hU
  have hS0 := hS
  obtain ⟨⟨hm, hc, w7, w8, a5⟩, hr⟩ := hS
  obtain ⟨⟨r1, r2, r3, r4, r5⟩, rH, rN⟩ := hr 0 (by omega)
  have rN : NXT (rwF W m 0) f := rN
  rw [show c + 1 - 1 - 0 = c by omega] at r1 r2 r3 r4 r5
  have ef : ∀ i, 1 ≤ i → i ≤ 13 → tkF W f m i = rwF W m 0 i := fun i h1 h2 => rsF_v h1 h2
  have ef14 : tkF W f m 14 = f 14 := rsF_n (by omega)
  have tW : ∀ k j, ¬ (k = 1 ∧ (j = 7 ∨ j = 8)) → tkW W m k j = W k j := fun k j hk => by unfold tkW; rw [upW_ne (by omega), upW_ne (by omega)]
  have lo : ∀ i, i ≠ 5 → i ≠ 2 → i ≠ 7 → (i < 8 ∨ 18 ≤ i) → (i < 20 ∨ 68 ≤ i ∨ ∃ o w, i = 20 + 6 * o + w ∧ w < 5) → am' i = am i := fun i h1 h2 h3 h4 h5 => u6 i h1 h2 h3 h4 (fun o ho => by
    have := hO.1
    rcases h5 with h5 | h5 | ⟨o', w, rfl, hw⟩
    · omega
    · omega
    · omega)
  have rs : ∀ j, j < 29 → ∀ i, rwF (tkW W m) ((m + 29) % 30) j i = rwF W m (j + 1) i := fun j hj i => by
    unfold rwF
    rw [tW _ _ (by omega), show ((m + 29) % 30 + 29 - j) % 30 = (m + 29 - (j + 1)) % 30 by omega]
  refine ⟨HKO_c ef rH, ?_, ?_, ?_, ?_, ?_⟩
  · refine ⟨⟨fun i h1 h2 => ?_, ?_⟩, ?_, ?_, ?_⟩
    · have q := u2 (i - 1) (by omega)
      rw [show 8 + (i - 1) = i + 7 by omega, r1 (i - 1) (by omega), show i - 1 + 1 = i by omega] at q
      rw [q, ef i h1 (by omega)]
    · rw [u3, r3, ef 10 (by decide) (by decide)]
    · have q := u2 9 (by decide)
      rw [r2] at q
      rw [q, ef 11 (by decide) (by decide)]
    · rw [u4, r4, ef 13 (by decide) (by decide)]
    · rw [ef14]; exact hN.2.2.2
  · obtain ⟨o1, o2, o3, o4⟩ := hO
    refine ⟨o1, (tW 1 5 (by omega)).trans o2, (lo 0 (by decide) (by decide) (by decide) (by decide) (Or.inl (by decide))).trans o3, fun o ho => ?_⟩
    obtain ⟨q1, q2, q3⟩ := o4 o ho
    refine ⟨fun w hw => ?_, ?_, ORr_c (fun w _ => tW _ _ (by omega)) q3⟩
    · rw [lo (20 + 6 * o + w) (by omega) (by omega) (by omega) (by omega) (Or.inr (Or.inr ⟨o, w, rfl, hw⟩)), tW _ _ (by omega)]
      exact q1 w hw
    · rw [u5 o ho, ef 12 (by decide) (by decide), hb]
  · intro i hi
    rw [ef 13 (by decide) (by decide)] at hi
    have := rN.2.2
    rw [lo (474 + 2 * i) (by omega) (by omega) (by omega) (by omega) (Or.inr (Or.inl (by omega))), lo (475 + 2 * i) (by omega) (by omega) (by omega) (by omega) (Or.inr (Or.inl (by omega))), tW _ _ (by omega), tW _ _ (by omega)]
    exact hI i (by omega)
  · refine ⟨⟨Nat.mod_lt _ (by decide), by omega, ?_, ?_, u1⟩, fun j hj => ?_⟩
    · unfold tkW; rw [upW_ne (by omega), upW_at]
    · unfold tkW; rw [upW_at, w8]; omega
    · obtain ⟨x1, x2, x3⟩ := hr (j + 1) (by omega)
      have e := rs j (by omega)
      refine ⟨AMr_c (fun k hk => ?_) (fun i _ _ => e i) x1, HKO_c (fun i _ _ => e i) x2, ?_⟩
      · rw [lo _ (by omega) (by omega) (by omega) (by omega) (Or.inr (Or.inl (by omega)))]
        exact congrArg am (by omega)
      · refine NXT_c (fun i _ _ => e i) (fun i i1 i2 => ?_) x3
        unfold prv
        rw [if_neg (show ¬ j + 1 = 0 by omega), show j + 1 - 1 = j by omega]
        by_cases z : j = 0
        · rw [if_pos z, z]; exact ef i i1 i2
        · rw [if_neg z, rs (j - 1) (by omega) i, show j - 1 + 1 = j by omega]
  · have eo : oldT (tkW W m) (tkF W f m) ((m + 29) % 30) c = oldT W f m (c + 1) := by
      unfold oldT
      rw [if_neg (show ¬ c + 1 = 0 by omega), show c + 1 - 1 = c by omega]
      by_cases z : c = 0
      · rw [if_pos z, z]; exact ef 9 (by decide) (by decide)
      · rw [if_neg z, rs (c - 1) (by omega) 9, show c - 1 + 1 = c by omega]
    rw [eo]
    intro t h1 h2 w hw
    rw [ef 9 (by decide) (by decide)] at h1
    have := rN.1
    rw [lo _ (by omega) (by omega) (by omega) (by omega) (Or.inr (Or.inl (by omega)))]
    exact hP t (by omega) h2 w hw
/-- numbers change, but not the tenth, nor what landed -/
theorem WR_upd {W : Nat → Nat → Int} {f f' rw_ am am' : Nat → Int} {m c n : Nat} (h : WRs W f rw_ am m c n) (hH' : HKO f' n) (hN' : NUM f' am') (e9 : f' 9 = f 9) (e12 : f' 12 = f 12) (e13 : f' 13 = f 13) (lo : ∀ i, i ≠ 2 → ¬ (8 ≤ i ∧ i ≤ 17) → am' i = am i) : WRs W f' rw_ am' m c n := by
  obtain ⟨hH, hN, hO, hI, hS, hP⟩ := h
  refine ⟨hH', hN', ?_, ?_, ?_, ?_⟩
  · obtain ⟨o1, o2, o3, o4⟩ := hO
    refine ⟨o1, o2, (lo 0 (by decide) (by decide)).trans o3, fun o ho => ?_⟩
    obtain ⟨q1, q2, q3⟩ := o4 o ho
    refine ⟨fun w hw => ?_, ?_, q3⟩
    · rw [lo (20 + 6 * o + w) (by omega) (by omega)]; exact q1 w hw
    · rw [lo (25 + 6 * o) (by omega) (by omega), e12]; exact q2
  · intro i hi
    rw [e13] at hi
    rw [lo (474 + 2 * i) (by omega) (by omega), lo (475 + 2 * i) (by omega) (by omega)]
    exact hI i hi
  · obtain ⟨⟨hm, hc2, w7, w8, a5⟩, hr⟩ := hS
    refine ⟨⟨hm, hc2, w7, w8, (lo 5 (by decide) (by decide)).trans a5⟩, fun j hj => ?_⟩
    obtain ⟨r1, r2, r3⟩ := hr j hj
    refine ⟨AMr_c (fun k hk => lo _ (by omega) (by omega)) (fun _ _ _ => rfl) r1, r2, ?_⟩
    by_cases z : j = 0
    · subst z
      have r3 : NXT (rwF W m 0) f := r3
      show NXT (rwF W m 0) f'
      unfold NXT at *
      rw [e9, e13]
      exact r3
    · unfold prv at r3 ⊢
      rw [if_neg z] at r3 ⊢
      exact r3
  · have eo : oldT W f' m c = oldT W f m c := by
      unfold oldT
      rw [e9]
    rw [eo]
    intro t h1 h2 w hw
    rw [e9] at h1
    rw [lo _ (by omega) (by omega)]
    exact hP t h1 h2 w hw
theorem setB_p {b : Int} (b0 : 0 ≤ b) (b1 : b ≤ 255) {o : Nat} (ho : o < 8) (h0 : bitF b o = 0) : pcB (setB b o) = pcB b + 1 := by
  have q : ∀ (b : Fin 256) (o : Fin 8), bitF (b.val : Int) o.val = 0 → pcB (setB (b.val : Int) o.val) = pcB (b.val : Int) + 1 := by decide +kernel
  have e : b = ((b.toNat : Nat) : Int) := by omega
  have := q ⟨b.toNat, by omega⟩ ⟨o, ho⟩
  rw [e] at h0 ⊢
  exact this h0
theorem setB_n {b : Int} {n : Nat} (b0 : 0 ≤ b) (b1 : b < 2 ^ n) (hn : n ≤ 8) {o : Nat} (ho : o < n) : setB b o < 2 ^ n := by
  have q : ∀ (n : Fin 9) (b : Fin 256) (o : Fin 8), (b.val : Int) < 2 ^ n.val → o.val < n.val → setB (b.val : Int) o.val < 2 ^ n.val := by decide +kernel
  have b2 : b < 256 := by
    have hn2 : n = 0 ∨ n = 1 ∨ n = 2 ∨ n = 3 ∨ n = 4 ∨ n = 5 ∨ n = 6 ∨ n = 7 ∨ n = 8 := by omega
    rcases hn2 with rfl | rfl | rfl | rfl | rfl | rfl | rfl | rfl | rfl <;> omega
  have e : b = ((b.toNat : Nat) : Int) := by omega
  have := q ⟨n, by omega⟩ ⟨b.toNat, by omega⟩ ⟨o, by omega⟩
  rw [e] at b1 ⊢
  exact this b1 ho
theorem pow_8 {b : Int} {n : Nat} (b1 : b < 2 ^ n) (hn : n ≤ 8) : b ≤ 255 := by
  have hn2 : n = 0 ∨ n = 1 ∨ n = 2 ∨ n = 3 ∨ n = 4 ∨ n = 5 ∨ n = 6 ∨ n = 7 ∨ n = 8 := by omega
  rcases hn2 with rfl | rfl | rfl | rfl | rfl | rfl | rfl | rfl | rfl <;> omega
/-- LANDED in the reference -/
def lnA (am : Nat → Int) (k o : Nat) : Nat → Int := upF (upF (upF (upF (upF (upF am (474 + 2 * k) (o : Int)) (475 + 2 * k) (am 16)) 7 ((k + 1 : Nat) : Int)) (25 + 6 * o) 1) 17 (-1)) 13 0
theorem WR_land {W : Nat → Nat → Int} {f rw_ am : Nat → Int} {m c n k o : Nat} (h : WRs W f rw_ am m c n) (h11 : f 11 = (o : Int)) (h13 : f 13 = (k : Int)) : WRs (wdW W k (o : Int) (f 9)) (wdnF f k o) rw_ (lnA am k o) m c n := by
  obtain ⟨hH, hN, hO, hI, hS, hP⟩ := h
  obtain ⟨⟨g1, g2, g3⟩, h2, h3, h4, h5, h6⟩ := hH
  have o1 := hO.1
  have ho : o < n := by omega
  have b255 := pow_8 h4.2 o1
  have b0 : bitF (f 12) o = 0 := by
    rcases h6 with h6 | h6
    · omega
    · rw [h11] at h6; exact h6
  have ps := setB_p h4.1 b255 (o := o) (by omega) b0
  have pb := pcB_8 (b := setB (f 12) o)
  have hk : k < 8 := by omega
  have e6 : wdnF f k o 6 = 0 := upF_at
  have e11 : wdnF f k o 11 = -1 := (upF_ne (by decide)).trans upF_at
  have e12 : wdnF f k o 12 = setB (f 12) o := (upF_ne (by decide)).trans ((upF_ne (by decide)).trans upF_at)
  have e13 : wdnF f k o 13 = ((k + 1 : Nat) : Int) := (upF_ne (by decide)).trans ((upF_ne (by decide)).trans ((upF_ne (by decide)).trans upF_at))
  have eo : ∀ i, i ≠ 6 → i ≠ 11 → i ≠ 12 → i ≠ 13 → wdnF f k o i = f i := fun i i1 i2 i3 i4 => by unfold wdnF; rw [upF_ne i1, upF_ne i2, upF_ne i3, upF_ne i4]
  have w9 : ∀ i, wdW W k (o : Int) (f 9) 9 i = if i = k then (o : Int) else W 9 i := fun i => by
    unfold wdW
    rw [upW_ne (by omega)]
    by_cases z : i = k
    · subst z; rw [if_pos rfl]; exact upW_at
    · rw [if_neg z]; exact upW_ne (by omega)
  have w10 : ∀ i, wdW W k (o : Int) (f 9) 10 i = if i = k then f 9 else W 10 i := fun i => by
    unfold wdW
    by_cases z : i = k
    · subst z; rw [if_pos rfl]; exact upW_at
    · rw [if_neg z, upW_ne (by omega), upW_ne (by omega)]
  have wo : ∀ k' j, k' ≠ 9 → k' ≠ 10 → wdW W k (o : Int) (f 9) k' j = W k' j := fun k' j a b => by unfold wdW; rw [upW_ne (by omega), upW_ne (by omega)]
  have a13 : lnA am k o 13 = 0 := upF_at
  have a17 : lnA am k o 17 = -1 := (upF_ne (by decide)).trans upF_at
  have afl : ∀ o', o' < 60 → lnA am k o (25 + 6 * o') = if o' = o then 1 else am (25 + 6 * o') := fun o' h60 => by
    unfold lnA
    rw [upF_ne (by omega), upF_ne (by omega)]
    by_cases z : o' = o
    · subst z; rw [if_pos rfl]; exact upF_at
    · rw [if_neg z, upF_ne (by omega), upF_ne (by omega), upF_ne (by omega), upF_ne (by omega)]
  have a7 : lnA am k o 7 = ((k + 1 : Nat) : Int) := by
    unfold lnA
    rw [upF_ne (by decide), upF_ne (by decide), upF_ne (by omega)]
    exact upF_at
  have aw1 : ∀ i, i < 60 → lnA am k o (474 + 2 * i) = (if i = k then (o : Int) else am (474 + 2 * i)) := fun i hi => by
    unfold lnA
    rw [upF_ne (by omega), upF_ne (by omega), upF_ne (by omega), upF_ne (by omega), upF_ne (by omega)]
    by_cases z : i = k
    · subst z; rw [if_pos rfl]; exact upF_at
    · rw [if_neg z, upF_ne (by omega)]
  have aw2 : ∀ i, i < 60 → lnA am k o (475 + 2 * i) = (if i = k then am 16 else am (475 + 2 * i)) := fun i hi => by
    unfold lnA
    rw [upF_ne (by omega), upF_ne (by omega), upF_ne (by omega), upF_ne (by omega)]
    by_cases z : i = k
    · subst z; rw [if_pos rfl]; exact upF_at
    · rw [if_neg z, upF_ne (by omega), upF_ne (by omega)]
  have al : ∀ i, i ≠ 7 → i ≠ 13 → i ≠ 17 → (∀ o', i ≠ 25 + 6 * o') ∨ 68 ≤ i → (i < 474 ∨ 602 ≤ i) → lnA am k o i = am i := fun i i1 i2 i3 i4 i5 => by
    unfold lnA
    rw [upF_ne i2, upF_ne i3, upF_ne (by rcases i4 with i4 | i4; exact i4 o; omega), upF_ne i1, upF_ne (by omega), upF_ne (by omega)]
  have g6 := g1
  obtain ⟨q1, q2, q3, q4, q5, q6, q7, q8, q9⟩ := g6
  refine ⟨⟨⟨⟨?_, ?_, ?_, ?_, ?_, ?_, ?_, ?_, ?_⟩, ?_, ?_⟩, ?_, ?_, ?_, ?_, ?_⟩, ?_, ?_, ?_, ?_, ?_⟩
  · rw [eo 1 (by decide) (by decide) (by decide) (by decide)]; exact q1
  · rw [eo 2 (by decide) (by decide) (by decide) (by decide)]; exact q2
  · rw [eo 3 (by decide) (by decide) (by decide) (by decide)]; exact q3
  · rw [eo 4 (by decide) (by decide) (by decide) (by decide)]; exact q4
  · rw [eo 5 (by decide) (by decide) (by decide) (by decide)]; exact q5
  · rw [e6]; omega
  · rw [eo 7 (by decide) (by decide) (by decide) (by decide)]; exact q7
  · rw [eo 8 (by decide) (by decide) (by decide) (by decide)]; exact q8
  · rw [eo 9 (by decide) (by decide) (by decide) (by decide)]; exact q9
  · rw [eo 10 (by decide) (by decide) (by decide) (by decide)]; exact g2
  · rw [eo 9 (by decide) (by decide) (by decide) (by decide)]; exact g3
  · rw [eo 9 (by decide) (by decide) (by decide) (by decide)]; exact h2
  · rw [e11]; omega
  · rw [e12]; exact ⟨(setB_v h4.1 b255 (o := o) (o' := 0) (by omega) (by decide)).2.1, setB_n h4.1 h4.2 o1 ho⟩
  · rw [e12, e13, ps]; omega
  · exact Or.inl e11
  · obtain ⟨⟨n1, n2⟩, n3, n4, n5⟩ := hN
    refine ⟨⟨fun i i1 i2 => ?_, ?_⟩, ?_, ?_, ?_⟩
    · by_cases z : i = 6
      · subst z; rw [e6]; exact a13
      · rw [al (i + 7) (by omega) (by omega) (by omega) (Or.inl (fun o' => by omega)) (by omega), eo i z (by omega) (by omega) (by omega)]
        exact n1 i i1 i2
    · rw [al 2 (by decide) (by decide) (by decide) (Or.inl (fun o' => by omega)) (by decide), eo 10 (by decide) (by decide) (by decide) (by decide)]; exact n2
    · rw [a17, e11]
    · rw [a7, e13]
    · rw [eo 14 (by decide) (by decide) (by decide) (by decide)]; exact n5
  · obtain ⟨_, o2, o3, o4⟩ := hO
    refine ⟨o1, (wo 1 5 (by decide) (by decide)).trans o2, (al 0 (by decide) (by decide) (by decide) (Or.inl (fun o' => by omega)) (by decide)).trans o3, fun o' ho' => ?_⟩
    obtain ⟨p1, p2, p3⟩ := o4 o' ho'
    refine ⟨fun w hw => ?_, ?_, ORr_c (fun w _ => wo _ _ (by decide) (by decide)) p3⟩
    · rw [al (20 + 6 * o' + w) (by omega) (by omega) (by omega) (Or.inl (fun o2 => by omega)) (by omega), wo _ _ (by decide) (by decide)]
      exact p1 w hw
    · rw [afl o' (by omega), e12, (setB_v h4.1 b255 (o := o) (o' := o') (by omega) (by omega)).1, p2]
  · intro i hi
    rw [e13] at hi
    rw [aw1 i (by omega), aw2 i (by omega), w9, w10]
    by_cases z : i = k
    · rw [if_pos z, if_pos z, if_pos z, if_pos z]
      exact ⟨rfl, hN.1.1 9 (by decide) (by decide)⟩
    · rw [if_neg z, if_neg z, if_neg z, if_neg z]
      exact hI i (by omega)
  · obtain ⟨⟨hm, hc2, w7, w8, a5⟩, hr⟩ := hS
    have rwo : ∀ j i, rwF (wdW W k (o : Int) (f 9)) m j i = rwF W m j i := fun j i => wo _ _ (by decide) (by decide)
    refine ⟨⟨hm, hc2, (wo _ _ (by decide) (by decide)).trans w7, (wo _ _ (by decide) (by decide)).trans w8, (al 5 (by decide) (by decide) (by decide) (Or.inl (fun o' => by omega)) (by decide)).trans a5⟩, fun j hj => ?_⟩
    obtain ⟨r1, r2, r3⟩ := hr j hj
    refine ⟨AMr_c (fun k2 hk2 => al _ (by omega) (by omega) (by omega) (Or.inr (by omega)) (by omega)) (fun i _ _ => rwo j i) r1, HKO_c (fun i _ _ => rwo j i) r2, ?_⟩
    by_cases z : j = 0
    · subst z
      have r3 : NXT (rwF W m 0) f := r3
      show NXT (rwF (wdW W k (o : Int) (f 9)) m 0) (wdnF f k o)
      unfold NXT at *
      rw [rwo, rwo, eo 9 (by decide) (by decide) (by decide) (by decide), e13]
      omega
    · refine NXT_c (fun i _ _ => rwo j i) (fun i _ _ => ?_) r3
      unfold prv
      rw [if_neg z, if_neg z]
      exact rwo _ i
  · have eo2 : oldT (wdW W k (o : Int) (f 9)) (wdnF f k o) m c = oldT W f m c := by
      unfold oldT
      by_cases z : c = 0
      · rw [if_pos z, if_pos z]; exact eo 9 (by decide) (by decide) (by decide) (by decide)
      · rw [if_neg z, if_neg z]; exact wo _ _ (by decide) (by decide)
    rw [eo2]
    intro t t1 t2 w hw
    rw [eo 9 (by decide) (by decide) (by decide) (by decide)] at t1
    rw [al _ (by omega) (by omega) (by omega) (Or.inr (by omega)) (Or.inr (by omega))]
    exact hP t t1 t2 w hw
