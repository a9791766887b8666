/-! the texts while one is read -/
def gT (h : AH) : Nat → AV := fun i => if i ≤ 3012 then hV h 79 i else vN
theorem gT_set {h : AH} {i : Nat} {v : AV} {j : Nat} (hj : j ≠ i) : gT (hSet h 79 i v) j = gT h j := by
  have e : hV (hSet h 79 i v) 79 j = hV h 79 j := by rw [hV_eq]; exact if_neg (fun z => hj z.2)
  unfold gT; rw [e]
theorem gT_at {h : AH} {i : Nat} {v : AV} (hi : i ≤ 3012) : gT (hSet h 79 i v) i = v := by
  unfold gT; rw [if_pos hi, hV_eq, if_pos ⟨rfl, rfl⟩]
theorem gT_ne {h : AH} {k i : Nat} {v : AV} (hk : k ≠ 79) : gT (hSet h k i v) = gT h := by
  funext j
  have e : hV (hSet h k i v) 79 j = hV h 79 j := by rw [hV_eq]; exact if_neg (fun z => hk z.1.symm)
  unfold gT; rw [e]
theorem gT_v {h : AH} {j : Nat} (hj : j ≤ 3012) : gT h j = hV h 79 j := by unfold gT; rw [if_pos hj]
theorem gT_e {h h' : AH} (he : ∀ i, hV h' 79 i = hV h 79 i) : gT h' = gT h := by funext j; unfold gT; rw [he j]
def TXw (g : Nat → AV) (J w : Nat) : Prop := ∀ j : Nat, j < 4 → ∀ k : Nat, (k : Int) < ofI (g (753 * j)) → k < 24 → 0 ≤ ofI (g (753 * j + 1 + 6 * k)) → ofI (g (753 * j + 1 + 6 * k)) ≤ 4 → ∃ a b : Nat, g (753 * j + 1 + 6 * k + 1) = vI a ∧ g (753 * j + 1 + 6 * k + 2) = vI b ∧ CDK g (753 * j + 145) a b ∧ (j = J → b ≤ w)
theorem TXw_T {g : Nat → AV} {J w : Nat} (h : TXw g J w) : TXT g := by
  intro j hj k hk hk2 s0 s4
  obtain ⟨a, b, h1, h2, h3, -⟩ := h j hj k hk hk2 s0 s4
  exact ⟨a, b, h1, h2, h3⟩
theorem TXw_m {g : Nat → AV} {J w w' : Nat} (hw : w ≤ w') (h : TXw g J w) : TXw g J w' := by
  intro j hj k hk hk2 s0 s4
  obtain ⟨a, b, h1, h2, h3, h4⟩ := h j hj k hk hk2 s0 s4
  exact ⟨a, b, h1, h2, h3, fun e => Nat.le_trans (h4 e) hw⟩
theorem dpt_g {g g' : Nat → AV} {p a : Nat} : ∀ n : Nat, (∀ i, i < n → g' (p + 2 * (a + i)) = g (p + 2 * (a + i))) → dpt g' p a n = dpt g p a n := by
  intro n
  induction n with
  | zero => intro _; rfl
  | succ n ih =>
    intro h
    show (dpt g' p a n).bind (dst (ofI (g' (p + 2 * (a + n))))) = (dpt g p a n).bind (dst (ofI (g (p + 2 * (a + n)))))
    rw [ih (fun i hi => h i (by omega)), h n (by omega)]
theorem ix_r {J j k n i : Nat} (hj : j < 4) (hJ : J < 4) (hk : k < 24) (hkn : j = J → k < n) (hi : i < 6) : 753 * j + 1 + 6 * k + i < 753 * J ∨ 753 * J + 753 ≤ 753 * j + 1 + 6 * k + i ∨ 753 * j + 1 + 6 * k + i = 753 * J ∨ (753 * J < 753 * j + 1 + 6 * k + i ∧ 753 * j + 1 + 6 * k + i < 753 * J + 1 + 6 * n) ∨ (753 * J + 145 ≤ 753 * j + 1 + 6 * k + i ∧ 753 * j + 1 + 6 * k + i < 753 * J + 145 + 2 * 0) := by
  by_cases e : j = J
  · have := hkn e; subst e; omega
  · omega
theorem ix_c {J j b w i x : Nat} (hj : j < 4) (hJ : J < 4) (hi : i < b) (hb : b ≤ 303) (hw : j = J → b ≤ w) (hx : x < 2) : 753 * j + 145 + 2 * i + x < 753 * J ∨ 753 * J + 753 ≤ 753 * j + 145 + 2 * i + x ∨ (753 * J + 145 ≤ 753 * j + 145 + 2 * i + x ∧ 753 * j + 145 + 2 * i + x < 753 * J + 145 + 2 * w) := by
  by_cases e : j = J
  · have := hw e; subst e; omega
  · omega
theorem TXw_g {g g' : Nat → AV} {J n w : Nat} (hJ : J < 4) (hc : ofI (g (753 * J)) = (n : Int)) (h1 : ∀ i, (i < 753 * J ∨ 753 * J + 753 ≤ i ∨ i = 753 * J ∨ (753 * J < i ∧ i < 753 * J + 1 + 6 * n) ∨ (753 * J + 145 ≤ i ∧ i < 753 * J + 145 + 2 * w)) → g' i = g i) (h : TXw g J w) : TXw g' J w := by
  intro j hj k hk hk2 s0 s4
  have e0 : g' (753 * j) = g (753 * j) := h1 _ (by omega)
  rw [e0] at hk
  have hkn : j = J → k < n := by intro e; rw [e, hc] at hk; omega
  have row : ∀ i, i < 6 → g' (753 * j + 1 + 6 * k + i) = g (753 * j + 1 + 6 * k + i) := fun i hi => h1 _ (by have := ix_r hj hJ hk2 hkn hi; omega)
  have r0 : g' (753 * j + 1 + 6 * k) = g (753 * j + 1 + 6 * k) := row 0 (by decide)
  obtain ⟨a, b, ea, eb, hC, hb⟩ := h j hj k hk hk2 (by rw [← r0]; exact s0) (by rw [← r0]; exact s4)
  refine ⟨a, b, by rw [row 1 (by decide)]; exact ea, by rw [row 2 (by decide)]; exact eb, ?_, hb⟩
  obtain ⟨c1, c2, c3, c4⟩ := hC
  have cg : ∀ i, i < b → ∀ x, x < 2 → g' (753 * j + 145 + 2 * i + x) = g (753 * j + 145 + 2 * i + x) := fun i hi x hx => h1 _ (by have := ix_c hj hJ hi c2 hb hx; omega)
  refine ⟨c1, c2, ?_, fun i i1 i2 => ?_⟩
  · rw [dpt_g (b - a) (fun i hi => cg (a + i) (by omega) 0 (by decide))]; exact c3
  · have q0 : g' (753 * j + 145 + 2 * i) = g (753 * j + 145 + 2 * i) := cg i i2 0 (by decide)
    rw [q0, cg i i2 1 (by decide)]; exact c4 i i1 i2
theorem TXw_s {h : AH} {J n w i : Nat} {v : AV} (hJ : J < 4) (hc : hV h 79 (753 * J) = vI (n : Int)) (h1 : 753 * J + 1 + 6 * n ≤ i) (h2 : i < 753 * J + 145 ∨ 753 * J + 145 + 2 * w ≤ i) (h3 : i < 753 * J + 753) (ht : TXw (gT h) J w) : TXw (gT (hSet h 79 i v)) J w := by
  refine TXw_g (n := n) hJ (by rw [gT_v (by omega), hc]; rfl) (fun j hj => ?_) ht
  exact gT_set (by omega)
/-! the code of the law that is read -/
def COD (g : Nat → AV) (J c w : Nat) (q : Nat × Nat) : Prop := c ≤ w ∧ dpt g (753 * J + 145) c (w - c) = some q ∧ ∀ i : Nat, c ≤ i → i < w → argK (ofI (g (753 * J + 145 + 2 * i))) (ofI (g (753 * J + 145 + 2 * i + 1)))
theorem COD_e {h : AH} {J c w : Nat} {q q' : Nat × Nat} {o v : Int} (hJ : J < 4) (hw : w ≤ 303) (hc : COD (gT h) J c w q) (hd : dst o q = some q') (ha : argK o v) : COD (gT (hSet (hSet h 79 (753 * J + 145 + 2 * w) (vI o)) 79 (753 * J + 145 + 2 * w + 1) (vI v))) J c (w + 1) q' := by
  obtain ⟨c1, c2, c3⟩ := hc
  have e1 : gT (hSet (hSet h 79 (753 * J + 145 + 2 * w) (vI o)) 79 (753 * J + 145 + 2 * w + 1) (vI v)) (753 * J + 145 + 2 * w) = vI o := by
    rw [gT_set (by omega), gT_at (by omega)]
  have e2 : gT (hSet (hSet h 79 (753 * J + 145 + 2 * w) (vI o)) 79 (753 * J + 145 + 2 * w + 1) (vI v)) (753 * J + 145 + 2 * w + 1) = vI v := gT_at (by omega)
  have e3 : ∀ i, i < 753 * J + 145 + 2 * w → gT (hSet (hSet h 79 (753 * J + 145 + 2 * w) (vI o)) 79 (753 * J + 145 + 2 * w + 1) (vI v)) i = gT h i := fun i hi => by rw [gT_set (by omega), gT_set (by omega)]
  refine ⟨by omega, ?_, fun i i1 i2 => ?_⟩
  · rw [show w + 1 - c = (w - c) + 1 by omega]
    show (dpt _ _ c (w - c)).bind (dst (ofI (gT (hSet (hSet h 79 (753 * J + 145 + 2 * w) (vI o)) 79 (753 * J + 145 + 2 * w + 1) (vI v)) (753 * J + 145 + 2 * (c + (w - c)))))) = some q'
    rw [dpt_g (g := gT h) (w - c) (fun i hi => e3 _ (by omega)), c2, show c + (w - c) = w by omega, e1]
    exact hd
  · by_cases z : i = w
    · subst z; rw [e1, e2]; exact ha
    · rw [e3 _ (by omega), e3 _ (by omega)]; exact c3 i i1 (by omega)
/-! stores among the texts -/
def c79 : SC := (11, 3012, [], [(0, 3012, 753, [(false, 0, 24)]), (0, 3012, 1, [(false, (-2147483648), 2147483647)])])
theorem g79 : gS JB 79 = some c79 := rfl
theorem JB_79 {h : AH} {i : Nat} {x : Int} (hx : -2147483648 ≤ x ∧ x ≤ 2147483647) (hi : i % 753 ≠ 0 ∨ (0 ≤ x ∧ x ≤ 24)) (hJ : k_H JB h) : k_H JB (hSet h 79 i (vI x)) := by
  refine ⟨hJ.1, hJ.2.1, fun k' c hc => ?_⟩
  have hC := hJ.2.2 k' c hc
  by_cases z : k' = 79
  · subst z
    have hc2 := hc
    rw [g79] at hc2
    injection hc2 with hc2
    subst hc2
    refine ⟨hC.1, fun j e he => (by cases he), fun r hr => ⟨(hC.2.2 r hr).1, fun j q' j1 j2 hq => ?_⟩⟩
    rw [hV_eq]
    by_cases y : 79 = 79 ∧ j = i
    · rw [if_pos y]
      have hr2 : r ∈ [((0, 3012, 753, [(false, 0, 24)]) : RG), (0, 3012, 1, [(false, (-2147483648), 2147483647)])] := hr
      rcases List.mem_cons.mp hr2 with e | hr2
      · subst e
        have hq : ([(false, 0, 24)] : List (Bool × Int × Int))[j % 753]? = some q' := hq
        cases hm : j % 753 with
        | zero =>
          rw [hm] at hq
          cases hq
          have : 0 ≤ x ∧ x ≤ 24 := by rcases hi with hi | hi; · exact absurd (y.2 ▸ hm) hi
                                      · exact hi
          exact ⟨x, rfl, this⟩
        | succ n => rw [hm] at hq; cases hq
      · rcases List.mem_cons.mp hr2 with e | hr2
        · subst e
          have hq : ([(false, (-2147483648), 2147483647)] : List (Bool × Int × Int))[j % 1]? = some q' := hq
          rw [Nat.mod_one] at hq
          cases hq
          exact ⟨x, rfl, hx⟩
        · cases hr2
    · rw [if_neg y]; exact (hC.2.2 r hr).2 j q' j1 j2 hq
  · refine ⟨hC.1, fun j e he => ?_, fun r hr => ⟨(hC.2.2 r hr).1, fun j q' j1 j2 hq => ?_⟩⟩
    · rw [hV_eq, if_neg (fun y => z y.1)]; exact hC.2.1 j e he
    · rw [hV_eq, if_neg (fun y => z y.1)]; exact (hC.2.2 r hr).2 j q' j1 j2 hq
theorem W0_79 {β i : Nat} {h : AH} {v : AV} (hw : W0 β h) (ht : TXT (gT (hSet h 79 i v))) : W0 β (hSet h 79 i v) := by
  have e7 : ∀ j, hV (hSet h 79 i v) 77 j = hV h 77 j := fun j => by rw [hV_eq, if_neg (fun y => absurd y.1 (by decide))]
  have e8 : ∀ j, hV (hSet h 79 i v) 78 j = hV h 78 j := fun j => by rw [hV_eq, if_neg (fun y => absurd y.1 (by decide))]
  obtain ⟨⟨⟨w1, w2⟩, w3, w4⟩, w5⟩ := hw
  refine ⟨⟨⟨fun r hr hs => ?_, fun r hr hs => ?_⟩, ⟨?_, fun r hr => ?_⟩, ⟨?_, fun r hr => ?_⟩⟩, ht⟩
  · rw [e7] at hs; rw [e7]; exact w1 r hr hs
  · rw [e8] at hs; rw [e8]; exact w2 r hr hs
  · rw [e7]; exact w3.1
  · rw [e7]; exact w3.2 r hr
  · rw [e8]; exact w4.1
  · rw [e8]; exact w4.2 r hr
def mdR : MD := [(76, 5, 19), (79, 0, 3012), (81, 0, 160)]
theorem ST_79 {β i : Nat} {h0 h : AH} {x : Int} (hs : STo β mdR h0 h) (hi : i ≤ 3012) (hx : -2147483648 ≤ x ∧ x ≤ 2147483647) (hi2 : i % 753 ≠ 0 ∨ (0 ≤ x ∧ x ≤ 24)) (ht : TXT (gT (hSet h 79 i (vI x)))) : STo β mdR h0 (hSet h 79 i (vI x)) := by
  refine ⟨JB_79 hx hi2 hs.1, ⟨hs.2.1.1, W0_79 hs.2.1.2 ht⟩, fun k j hn => ?_⟩
  rw [hV_eq, if_neg (fun y => hn ⟨(79, 0, 3012), by decide, y.1.symm, Nat.zero_le _, by rw [y.2]; exact hi⟩)]
  exact hs.2.2 k j hn
/-! the reader's fields -/
theorem jr76 : jW2 76 7 (false, 0, 300) = true ∧ jW2 76 8 (false, 0, 300) = true ∧ jW2 76 9 (false, 0, 255) = true ∧ jW2 76 10 (false, 0, 999999) = true ∧ jW2 76 11 (true, -9223372036854775808, 9223372036854775807) = true ∧ jW2 76 12 (false, 0, 2259) = true ∧ jW2 76 13 (false, 0, 304) = true ∧ jW2 76 14 (false, -1, 11) = true ∧ jW2 76 16 (false, 0, 160) = true ∧ jW2 76 17 (false, 0, 8) = true ∧ jW2 76 18 (false, 0, 1) = true ∧ jW2 76 19 (false, 0, 31) = true := by
  refine ⟨?_, ?_, ?_, ?_, ?_, ?_, ?_, ?_, ?_, ?_, ?_, ?_⟩ <;> decide +kernel
theorem okr (i : Nat) (h1 : 5 ≤ i) (h2 : i ≤ 19) : okW 76 i i = true := by
  have : ∀ i : Nat, i < 20 → 5 ≤ i → okW 76 i i = true := by decide +kernel
  exact this i (by omega) h1
theorem okr2 (i : Nat) (h1 : 5 ≤ i) (h2 : i ≤ 19) : okMd mdR 76 i i = true := by
  have : ∀ i : Nat, i < 20 → 5 ≤ i → okMd mdR 76 i i = true := by decide +kernel
  exact this i (by omega) h1
theorem ST_f {β i : Nat} {h0 h : AH} {v : AV} {q : Bool × Int × Int} (hs : STo β mdR h0 h) (h1 : 5 ≤ i) (h2 : i ≤ 19) (hq : jW2 76 i q = true) (hv : inRg q v) : STo β mdR h0 (hSet h 76 i v) := ST_s2 hs hq hv (okr i h1 h2) (okr2 i h1 h2)
theorem jr81 : jW1 81 (false, 0, 43) = true ∧ okW 81 0 160 = true ∧ okMd mdR 81 0 160 = true := by refine ⟨?_, ?_, ?_⟩ <;> decide +kernel
theorem ST_p {β i : Nat} {h0 h : AH} {x : Int} (hs : STo β mdR h0 h) (hi : i ≤ 160) (hx : 0 ≤ x ∧ x ≤ 43) : STo β mdR h0 (hSet h 81 i (vI x)) := ST_s1 (l := 0) (u := 160) hs jr81.1 ⟨x, rfl, hx⟩ jr81.2.1 jr81.2.2 (Nat.zero_le _) hi
theorem jrF : (jF 76 2 79 = true ∧ jF 76 3 80 = true ∧ jF 76 15 81 = true ∧ jF 76 0 77 = true) ∧ (jK 76 10 0 = true ∧ jK 79 11 3012 = true ∧ jK 80 11 300 = true ∧ jK 81 11 160 = true ∧ jK 77 11 9834 = true) ∧ jF2 76 4 (false, 0, 300) = true := by
  refine ⟨⟨?_, ?_, ?_, ?_⟩, ⟨?_, ?_, ?_, ?_, ?_⟩, ?_⟩ <;> decide +kernel
theorem rdF {h : AH} (hJ : k_H JB h) : (hV h 76 2 = vR 79 ∧ hV h 76 3 = vR 80 ∧ hV h 76 15 = vR 81 ∧ hV h 76 0 = vR 77) ∧ (hK h 76 = (10, 0) ∧ hK h 79 = (11, 3012) ∧ hK h 80 = (11, 300) ∧ hK h 81 = (11, 160) ∧ hK h 77 = (11, 9834)) := by
  obtain ⟨⟨a1, a2, a3, a4⟩, ⟨b1, b2, b3, b4, b5⟩, -⟩ := jrF
  exact ⟨⟨jF_s hJ a1, jF_s hJ a2, jF_s hJ a3, jF_s hJ a4⟩, jK_s hJ b1, jK_s hJ b2, jK_s hJ b3, jK_s hJ b4, jK_s hJ b5⟩
def RWs (h : AH) (J w a : Nat) (tk : Int) (p op : Nat) (wh : Int) : Prop := hV h 76 12 = vI ((753 * J : Nat) : Int) ∧ hV h 76 13 = vI (w : Int) ∧ hV h 76 7 = vI (a : Int) ∧ hV h 76 9 = vI tk ∧ hV h 76 16 = vI (p : Int) ∧ hV h 76 17 = vI (op : Int) ∧ hV h 76 18 = vI wh
def PLs (h : AH) : List Int → Prop
  | [] => True
  | o :: L => hV h 81 L.length = vI o ∧ PLs h L
theorem PLs_f {h h' : AH} : ∀ L : List Int, (∀ i, i < L.length → hV h' 81 i = hV h 81 i) → PLs h L → PLs h' L := by
  intro L
  induction L with
  | nil => intro _ _; trivial
  | cons o L ih =>
    intro he hp
    exact ⟨by rw [he L.length (Nat.lt_succ_self _)]; exact hp.1, ih (fun i hi => he i (Nat.lt_succ_of_lt hi)) hp.2⟩
/-- a law is being read: J the text, n its clauses, c where the law's code begins, w how much is written, a the place, tk the token, L the pile, op what is open, wh whole, q what lies there -/
def PS (β J n c : Nat) (h0 hb h : AH) (w a : Nat) (tk : Int) (L : List Int) (op : Nat) (wh : Int) (q : Nat × Nat) : Prop :=
  (STo β mdR h0 h ∧ RWs h J w a tk L.length op wh ∧ PLs h L) ∧ (hV h 79 (753 * J) = vI (n : Int) ∧ (∀ i, i < 753 * J + 145 → hV h 79 i = hV hb 79 i)) ∧ TXw (gT h) J c ∧ COD (gT h) J c w q
theorem PS_76 {β J n c : Nat} {h0 hb h : AH} {w a : Nat} {tk : Int} {L : List Int} {op : Nat} {wh : Int} {q : Nat × Nat} {i : Nat} {v : AV} {a' : Nat} {tk' : Int} {L' : List Int} {op' : Nat} {wh' : Int} (hs : PS β J n c h0 hb h w a tk L op wh q) (h1 : STo β mdR h0 (hSet h 76 i v)) (h2 : RWs (hSet h 76 i v) J w a' tk' L'.length op' wh') (h3 : PLs h L') : PS β J n c h0 hb (hSet h 76 i v) w a' tk' L' op' wh' q := by
  have e : ∀ j, hV (hSet h 76 i v) 79 j = hV h 79 j := fun j => by rw [hV_eq, if_neg (fun y => absurd y.1 (by decide))]
  obtain ⟨⟨s1, s2, s3⟩, ⟨s4, s5⟩, s6, s7⟩ := hs
  refine ⟨⟨h1, h2, PLs_f L' (fun j _ => by rw [hV_eq, if_neg (fun y => absurd y.1 (by decide))]) h3⟩, ⟨by rw [e]; exact s4, fun j hj => by rw [e]; exact s5 j hj⟩, ?_, ?_⟩
  · rw [gT_e e]; exact s6
  · rw [gT_e e]; exact s7
def ehp (h : AH) (J w : Nat) (o v : Int) : AH := hSet (hSet (hSet h 79 (753 * J + 145 + 2 * w) (vI o)) 79 (753 * J + 145 + 2 * w + 1) (vI v)) 76 13 (vI ((w + 1 : Nat) : Int))
theorem md_7 {J w x : Nat} (hw : w ≤ 303) (hx : x < 2) : (753 * J + 145 + 2 * w + x) % 753 ≠ 0 := by
  rw [show 753 * J + 145 + 2 * w + x = 753 * J + (145 + 2 * w + x) by omega, Nat.mul_add_mod, Nat.mod_eq_of_lt (by omega)]; omega
theorem PS_em {β J n c : Nat} {h0 hb h : AH} {w a : Nat} {tk : Int} {L : List Int} {op : Nat} {wh : Int} {q q' : Nat × Nat} {o v : Int} (hs : PS β J n c h0 hb h w a tk L op wh q) (hJ : J < 4) (hn : n < 24) (hw : w ≤ 303) (ho : -2147483648 ≤ o ∧ o ≤ 2147483647) (hv : -2147483648 ≤ v ∧ v ≤ 2147483647) (hd : dst o q = some q') (ha : argK o v) : PS β J n c h0 hb (ehp h J w o v) (w + 1) a tk L op wh q' := by
  obtain ⟨⟨s1, ⟨r1, r2, r3, r4, r5, r6, r7⟩, s3⟩, ⟨s4, s5⟩, s6, s7⟩ := hs
  have hcw := s7.1
  have t1 := TXw_s (i := 753 * J + 145 + 2 * w) (v := vI o) hJ s4 (by omega) (by omega) (by omega) s6
  have n1 : hV (hSet h 79 (753 * J + 145 + 2 * w) (vI o)) 79 (753 * J) = vI (n : Int) := by rw [hV_eq, if_neg (by omega)]; exact s4
  have t2 := TXw_s (i := 753 * J + 145 + 2 * w + 1) (v := vI v) hJ n1 (by omega) (by omega) (by omega) t1
  have u1 := ST_79 (x := o) s1 (by omega) ho (Or.inl (md_7 (J := J) (x := 0) hw (by decide))) (TXw_T t1)
  have u2 := ST_79 (x := v) u1 (by omega) hv (Or.inl (md_7 (J := J) (x := 1) hw (by decide))) (TXw_T t2)
  have u3 := ST_f (i := 13) (v := vI ((w + 1 : Nat) : Int)) u2 (by decide) (by decide) jr76.2.2.2.2.2.2.1 ⟨_, rfl, by show (0 : Int) ≤ ((w + 1 : Nat) : Int); omega, by show ((w + 1 : Nat) : Int) ≤ 304; omega⟩
  have e : ∀ j, hV (ehp h J w o v) 79 j = hV (hSet (hSet h 79 (753 * J + 145 + 2 * w) (vI o)) 79 (753 * J + 145 + 2 * w + 1) (vI v)) 79 j := fun j => by unfold ehp; rw [hV_eq, if_neg (fun y => absurd y.1 (by decide))]
  have e2 : ∀ j, j < 753 * J + 145 → hV (ehp h J w o v) 79 j = hV h 79 j := fun j hj => by rw [e, hV_eq, if_neg (by omega), hV_eq, if_neg (by omega)]
  have f : ∀ k j, k ≠ 79 → ¬ (k = 76 ∧ j = 13) → hV (ehp h J w o v) k j = hV h k j := fun k j hk hj => by unfold ehp; rw [hV_eq, if_neg hj, hV_eq, if_neg (fun y => hk y.1), hV_eq, if_neg (fun y => hk y.1)]
  refine ⟨⟨u3, ⟨by rw [f _ _ (by decide) (by decide)]; exact r1, ?_, by rw [f _ _ (by decide) (by decide)]; exact r3, by rw [f _ _ (by decide) (by decide)]; exact r4, by rw [f _ _ (by decide) (by decide)]; exact r5, by rw [f _ _ (by decide) (by decide)]; exact r6, by rw [f _ _ (by decide) (by decide)]; exact r7⟩, PLs_f L (fun j _ => f _ _ (by decide) (fun y => absurd y.1 (by decide))) s3⟩, ⟨by rw [e2 _ (by omega)]; exact s4, fun j hj => by rw [e2 j hj]; exact s5 j hj⟩, ?_, ?_⟩
  · unfold ehp; rw [hV_eq, if_pos ⟨rfl, rfl⟩]
  · rw [gT_e e]; exact t2
  · rw [gT_e e]; exact COD_e hJ hw s7 hd ha
