/-! between two calls of the law -/
def tenF : Nat × Nat × SAV := (77, 16, .inr (false, 0, 9999))
def tenB (f : Nat × Nat × SAV) : Bool := decide (f = tenF)
def okL (c : KT) : Bool := c.2.2.2.2.1.all tenB && (c.2.2.2.2.2.1.any tenB || c.2.2.1.all (fun q => !Nat.beq q.1 77))
def LI (β L : Nat) (xs : Nat → Int) (h : AH) : Prop := k_H JB h ∧ W0 β h ∧ inRg (false, 0, 9999) (hV h 77 16) ∧ OUT L xs h
theorem XC_out {L : Nat} {xs : Nat → Int} {d M : Nat} {as : List AV} {h : AH} {P : Option AV → AH → Prop} (ho : OUT L xs h) (hw : XC (d + 1) M as h P) : ∃ r h', (P r h' ∧ OUT L xs h') ∧ ∀ Q : Option AV → AH → Prop, XC (d + 1) M as h Q = Q r h' := by
  have q : XC (d + 1) M as h (fun r h' => P r h' ∧ OUT L xs h') := by
    have hw : XM d M as h P := hw
    obtain ⟨hl, n, r, h', he, hp⟩ := hw
    exact ⟨hl, n, r, h', he, hp, OUT_run ho he⟩
  exact XC_dt q
theorem LI_k {β L M : Nat} {xs : Nat → Int} {c : KT} {vs : List AV} {h : AH} (hc : KOK JB (W0 β) M c) (hd : Nat.ble c.2.2.2.2.2.2.2 1000 = true) (hp : okL c = true) (hx : exB c.2.2.1 = true) (ha : sa_S c.1 vs) (hL : LI β L xs h) : ∃ r h', sa_O c.2.1 r ∧ (LI β L xs h' ∧ FL h h') ∧ ∀ Q : Option AV → AH → Prop, XC 1000 M vs h Q = Q r h' := by
  obtain ⟨l1, l2, l3, l4⟩ := hL
  unfold okL at hp
  rw [Bool.and_eq_true, List.all_eq_true] at hp
  have pre : k_F c.2.2.2.2.1 h := fun f hf => by
    have e := of_decide_eq_true (hp.1 f hf)
    rw [e]; exact l3
  have q0 : XC (999 + 1) M vs h (fun r h' => sa_O c.2.1 r ∧ k_H JB h' ∧ W0 β h' ∧ inRg (false, 0, 9999) (hV h' 77 16) ∧ FL h h') := by
    refine hc 1000 vs h _ (Nat.le_of_ble_eq_true hd) ha l1 l2 pre (fun r h' hr hJ' hpo _ hF => ⟨hr, hJ', hF.1.2, ?_, FL_of hx hF⟩)
    have z0 := hp.2
    rw [Bool.or_eq_true] at z0
    rcases z0 with z | z
    · rw [List.any_eq_true] at z
      obtain ⟨f, hf, z⟩ := z
      have e := of_decide_eq_true z
      have := hpo f hf
      rw [e] at this
      exact this
    · rw [List.all_eq_true] at z
      have e : hV h' 77 16 = hV h 77 16 := hF.2 77 16 (fun y => by
        obtain ⟨q, q1, q2, -⟩ := y
        have := z q q1
        rw [q2] at this
        exact absurd this (by decide))
      rw [e]; exact l3
  obtain ⟨r, h', ⟨⟨q1, q2, q3, q4, q6⟩, q5⟩, e⟩ := XC_out l4 q0
  exact ⟨r, h', q1, ⟨⟨q2, q3, q4, q5⟩, q6⟩, e⟩
theorem LI_k0 {β L M : Nat} {xs : Nat → Int} {c : KT} {vs : List AV} {h : AH} (hc : KOK JB (W0 β) M c) (hd : Nat.ble c.2.2.2.2.2.2.2 1000 = true) (hp : okL c = true) (ha : sa_S c.1 vs) (hL : LI β L xs h) : ∃ r h', sa_O c.2.1 r ∧ LI β L xs h' ∧ ∀ Q : Option AV → AH → Prop, XC 1000 M vs h Q = Q r h' := by
  obtain ⟨l1, l2, l3, l4⟩ := hL
  unfold okL at hp
  rw [Bool.and_eq_true, List.all_eq_true] at hp
  have pre : k_F c.2.2.2.2.1 h := fun f hf => by
    have e := of_decide_eq_true (hp.1 f hf)
    rw [e]; exact l3
  have q0 : XC (999 + 1) M vs h (fun r h' => sa_O c.2.1 r ∧ k_H JB h' ∧ W0 β h' ∧ inRg (false, 0, 9999) (hV h' 77 16)) := by
    refine hc 1000 vs h _ (Nat.le_of_ble_eq_true hd) ha l1 l2 pre (fun r h' hr hJ' hpo _ hF => ⟨hr, hJ', hF.1.2, ?_⟩)
    have z0 := hp.2
    rw [Bool.or_eq_true] at z0
    rcases z0 with z | z
    · rw [List.any_eq_true] at z
      obtain ⟨f, hf, z⟩ := z
      have e := of_decide_eq_true z
      have := hpo f hf
      rw [e] at this
      exact this
    · rw [List.all_eq_true] at z
      have e : hV h' 77 16 = hV h 77 16 := hF.2 77 16 (fun y => by
        obtain ⟨q, q1, q2, -⟩ := y
        have := z q q1
        rw [q2] at this
        exact absurd this (by decide))
      rw [e]; exact l3
  obtain ⟨r, h', ⟨⟨q1, q2, q3, q4⟩, q5⟩, e⟩ := XC_out l4 q0
  exact ⟨r, h', q1, ⟨q2, q3, q4, q5⟩, e⟩
theorem wB_m {β β' k : Nat} {h : AH} (hb : β ≤ β') (hw : wB β k h) : wB β' k h := by
  have hb : (β : Int) ≤ (β' : Int) := by omega
  refine ⟨?_, fun r hr => ?_⟩
  · obtain ⟨x, q1, q2, q3⟩ := hw.1; exact ⟨x, q1, q2, Int.le_trans q3 hb⟩
  · obtain ⟨x, q1, q2, q3⟩ := hw.2 r hr; exact ⟨x, q1, q2, Int.le_trans q3 hb⟩
theorem LI_m {β β' L : Nat} {xs : Nat → Int} {h : AH} (hb : β ≤ β') (hL : LI β L xs h) : LI β' L xs h := ⟨hL.1, ⟨⟨hL.2.1.1.1, wB_m hb hL.2.1.1.2.1, wB_m hb hL.2.1.1.2.2⟩, hL.2.1.2⟩, hL.2.2⟩
def LJ (β L : Nat) (xs : Nat → Int) (h : AH) : Prop := LI β L xs h ∧ TRp h
theorem v0_b : (V0 0 11 = vI 0 ∧ V0 76 4 = vI 0 ∧ V0 1 2 = vI 0 ∧ V0 77 3 = vI 0 ∧ V0 11 2 = vI 0 ∧ V0 78 3 = vI 0 ∧ V0 0 12 = vI 0 ∧ V0 76 5 = vI (-1) ∧ V0 76 6 = vI (-1)) ∧ (12 < sz0 0 ∧ 6 < sz0 76 ∧ 2 < sz0 1 ∧ 2 < sz0 11) ∧ sz0 77 = 9834 ∧ sz0 78 = 9834 ∧ sz0 75 = 300 ∧ sz0 80 = 300 := by decide +kernel
theorem v0_t : ∀ i : Fin 300, V0 75 i.val = V0 80 i.val := by decide +kernel
theorem FR_B {L : Nat} {xs : Nat → Int} {h : AH} (hf : FR L xs h) : TRp h := by
  obtain ⟨f1, f2, f3, f4⟩ := hf
  obtain ⟨⟨s1, s2, s3, s4, s5, s6, s7, s8, s9⟩, ⟨z1, z2, z3, z4⟩, z5, z6, z7, z8⟩ := v0_b
  refine ⟨⟨?_, ?_, ?_⟩, fun i hi => ?_, Or.inl ⟨?_, ?_, ?_⟩⟩
  · rw [(f4 0 (by decide)).2 11 (by omega), (f4 76 (by decide)).2 4 (by omega), s1, s2]
  · rw [(f4 1 (by decide)).2 2 (by omega), (f4 77 (by decide)).2 3 (by omega), s3, s4]
  · rw [(f4 11 (by decide)).2 2 (by omega), (f4 78 (by decide)).2 3 (by omega), s5, s6]
  · rw [(f4 75 (by decide)).2 i (by omega), (f4 80 (by decide)).2 i (by omega)]; exact v0_t ⟨i, hi⟩
  · rw [(f4 0 (by decide)).2 12 (by omega), s7]
  · rw [(f4 76 (by decide)).2 5 (by omega), s8]
  · rw [(f4 76 (by decide)).2 6 (by omega), s9]
theorem LI_0 {L : Nat} {xs : Nat → Int} {h : AH} (hf : FR L xs h) : LI 0 L xs h := by
  obtain ⟨w1, w2⟩ := FR_W hf
  exact ⟨FR_J hf, w1, by rw [w2]; exact ⟨0, rfl, by decide, by decide⟩, hf.2.2.1⟩
theorem j0_76 : jK 0 9 0 = true ∧ jK 76 10 0 = true := ⟨by decide +kernel, by decide +kernel⟩
theorem LI_s {β L : Nat} {xs : Nat → Int} {h : AH} (hL : LI β L xs h) : hK h 0 = (9, 0) ∧ hK h 76 = (10, 0) ∧ hK h 1000100 = (20, L) ∧ ∀ i, hV h 1000100 i = vI (xs i) := by
  obtain ⟨g1, g2⟩ := hL.2.2.2.2 1000100 (Nat.le_of_ble_eq_true rfl)
  exact ⟨jK_s hL.1 j0_76.1, jK_s hL.1 j0_76.2, g1, g2⟩
theorem lw_j {L k j : Nat} (hk : 6 * k + 6 ≤ L) (hL : L ≤ 3072) (hj : j < 6) : w32 (((6 * k : Nat) : Int) + (j : Int)) = ((6 * k + j : Nat) : Int) ∧ ((0 : Int) ≤ ((6 * k + j : Nat) : Int) ∧ ((6 * k + j : Nat) : Int) < (L : Int)) := by unfold w32; omega
theorem XC_eq_out {L : Nat} {xs : Nat → Int} {M : Nat} {as : List AV} {h h' : AH} {r : Option AV} (ho : OUT L xs h) (e : ∀ Q : Option AV → AH → Prop, XC 1000 M as h Q = Q r h') : OUT L xs h' := by
  have q0 : XC (999 + 1) M as h (fun r1 h1 => h1 = h') := Eq.mpr (e (fun r1 h1 => h1 = h')) rfl
  obtain ⟨r1, h1, ⟨rfl, q⟩, -⟩ := XC_out ho q0
  exact q
/-- land, played of the reference -/
theorem LI_land {β L : Nat} {xs : Nat → Int} {h : AH} (hb : β + 24 ≤ 20000) (hL : LI β L xs h) : ∃ (z : Int) (h' : AH), (LI (β + 24) L xs h' ∧ FL h h') ∧ ∀ Q : Option AV → AH → Prop, XC 1000 263 [vR 76] h Q = Q (some (vI z)) h' := by
  obtain ⟨r, h', ⟨q1, q2, q3, q4, q5⟩, e⟩ := X_land (d := 994) hL.1 hL.2.1 (by omega) hL.2.2.1
  exact ⟨r, h', ⟨LI_m (β := β + 1) (by omega) ⟨q1, q2, q3, XC_eq_out hL.2.2.2 e⟩, q5⟩, e⟩
theorem LI_pl {β L : Nat} {xs : Nat → Int} {h : AH} {t : Int} (hb : β + 24 ≤ 20000) (hL : LI β L xs h) : ∃ (z : Int) (h' : AH), (LI (β + 24) L xs h' ∧ FL h h') ∧ ∀ Q : Option AV → AH → Prop, XC 1000 265 [vR 76, vI t] h Q = Q (some (vI z)) h' := by
  obtain ⟨r, h', ⟨⟨z, rfl, q1, q2, q3, -, q5⟩, q4⟩, e⟩ := XC_out hL.2.2.2 (X_pl (d := 987) (t := t) hL.1 hL.2.1 hb hL.2.2.1)
  exact ⟨z, h', ⟨⟨q1, q2, q3, q4⟩, q5⟩, e⟩
set_option maxHeartbeats 4000000 in
theorem LI_st {β L : Nat} {xs : Nat → Int} {h : AH} {a n : Int} (ha : -2147483648 ≤ a ∧ a ≤ 2147483647) (hn : -2147483648 ≤ n ∧ n ≤ 2147483647) (hL : LI β L xs h) : ∃ (z : Int) (h' : AH), (LI β L xs h' ∧ FL h h') ∧ ∀ Q : Option AV → AH → Prop, XC 1000 266 [vR 76, vI a, vI n] h Q = Q (some (vI z)) h' := by
  by_cases c0 : n ≤ 0
  · obtain ⟨r, h', ⟨v, rfl, z, rfl, -⟩, l, e⟩ := LI_k (ok317 (β := β)) (by decide +kernel) (by decide +kernel) (by decide +kernel) (vs := [vR 76, vI a, vI n]) ⟨_, _, rfl, rfl, _, _, rfl, ⟨a, rfl, ha⟩, _, _, rfl, ⟨n, rfl, hn.1, c0⟩, rfl⟩ hL
    exact ⟨z, h', l, e⟩
  by_cases c41 : 41 ≤ n
  · obtain ⟨r, h', ⟨v, rfl, z, rfl, -⟩, l, e⟩ := LI_k (ok318 (β := β)) (by decide +kernel) (by decide +kernel) (by decide +kernel) (vs := [vR 76, vI a, vI n]) ⟨_, _, rfl, rfl, _, _, rfl, ⟨a, rfl, ha⟩, _, _, rfl, ⟨n, rfl, c41, hn.2⟩, rfl⟩ hL
    exact ⟨z, h', l, e⟩
  by_cases c1 : n = 1
  · subst c1
    obtain ⟨r, h', ⟨v, rfl, z, rfl, -⟩, l, e⟩ := LI_k (ok277 (β := β)) (by decide +kernel) (by decide +kernel) (by decide +kernel) (vs := [vR 76, vI a, vI 1]) ⟨_, _, rfl, rfl, _, _, rfl, ⟨a, rfl, ha⟩, _, _, rfl, rfl, rfl⟩ hL
    exact ⟨z, h', l, e⟩
  by_cases c2 : n = 2
  · subst c2
    obtain ⟨r, h', ⟨v, rfl, z, rfl, -⟩, l, e⟩ := LI_k (ok278 (β := β)) (by decide +kernel) (by decide +kernel) (by decide +kernel) (vs := [vR 76, vI a, vI 2]) ⟨_, _, rfl, rfl, _, _, rfl, ⟨a, rfl, ha⟩, _, _, rfl, rfl, rfl⟩ hL
    exact ⟨z, h', l, e⟩
  by_cases c3 : n = 3
  · subst c3
    obtain ⟨r, h', ⟨v, rfl, z, rfl, -⟩, l, e⟩ := LI_k (ok279 (β := β)) (by decide +kernel) (by decide +kernel) (by decide +kernel) (vs := [vR 76, vI a, vI 3]) ⟨_, _, rfl, rfl, _, _, rfl, ⟨a, rfl, ha⟩, _, _, rfl, rfl, rfl⟩ hL
    exact ⟨z, h', l, e⟩
  by_cases c4 : n = 4
  · subst c4
    obtain ⟨r, h', ⟨v, rfl, z, rfl, -⟩, l, e⟩ := LI_k (ok280 (β := β)) (by decide +kernel) (by decide +kernel) (by decide +kernel) (vs := [vR 76, vI a, vI 4]) ⟨_, _, rfl, rfl, _, _, rfl, ⟨a, rfl, ha⟩, _, _, rfl, rfl, rfl⟩ hL
    exact ⟨z, h', l, e⟩
  by_cases c5 : n = 5
  · subst c5
    obtain ⟨r, h', ⟨v, rfl, z, rfl, -⟩, l, e⟩ := LI_k (ok281 (β := β)) (by decide +kernel) (by decide +kernel) (by decide +kernel) (vs := [vR 76, vI a, vI 5]) ⟨_, _, rfl, rfl, _, _, rfl, ⟨a, rfl, ha⟩, _, _, rfl, rfl, rfl⟩ hL
    exact ⟨z, h', l, e⟩
  by_cases c6 : n = 6
  · subst c6
    obtain ⟨r, h', ⟨v, rfl, z, rfl, -⟩, l, e⟩ := LI_k (ok282 (β := β)) (by decide +kernel) (by decide +kernel) (by decide +kernel) (vs := [vR 76, vI a, vI 6]) ⟨_, _, rfl, rfl, _, _, rfl, ⟨a, rfl, ha⟩, _, _, rfl, rfl, rfl⟩ hL
    exact ⟨z, h', l, e⟩
  by_cases c7 : n = 7
  · subst c7
    obtain ⟨r, h', ⟨v, rfl, z, rfl, -⟩, l, e⟩ := LI_k (ok283 (β := β)) (by decide +kernel) (by decide +kernel) (by decide +kernel) (vs := [vR 76, vI a, vI 7]) ⟨_, _, rfl, rfl, _, _, rfl, ⟨a, rfl, ha⟩, _, _, rfl, rfl, rfl⟩ hL
    exact ⟨z, h', l, e⟩
  by_cases c8 : n = 8
  · subst c8
    obtain ⟨r, h', ⟨v, rfl, z, rfl, -⟩, l, e⟩ := LI_k (ok284 (β := β)) (by decide +kernel) (by decide +kernel) (by decide +kernel) (vs := [vR 76, vI a, vI 8]) ⟨_, _, rfl, rfl, _, _, rfl, ⟨a, rfl, ha⟩, _, _, rfl, rfl, rfl⟩ hL
    exact ⟨z, h', l, e⟩
  by_cases c9 : n = 9
  · subst c9
    obtain ⟨r, h', ⟨v, rfl, z, rfl, -⟩, l, e⟩ := LI_k (ok285 (β := β)) (by decide +kernel) (by decide +kernel) (by decide +kernel) (vs := [vR 76, vI a, vI 9]) ⟨_, _, rfl, rfl, _, _, rfl, ⟨a, rfl, ha⟩, _, _, rfl, rfl, rfl⟩ hL
    exact ⟨z, h', l, e⟩
  by_cases c10 : n = 10
  · subst c10
    obtain ⟨r, h', ⟨v, rfl, z, rfl, -⟩, l, e⟩ := LI_k (ok286 (β := β)) (by decide +kernel) (by decide +kernel) (by decide +kernel) (vs := [vR 76, vI a, vI 10]) ⟨_, _, rfl, rfl, _, _, rfl, ⟨a, rfl, ha⟩, _, _, rfl, rfl, rfl⟩ hL
    exact ⟨z, h', l, e⟩
  by_cases c11 : n = 11
  · subst c11
    obtain ⟨r, h', ⟨v, rfl, z, rfl, -⟩, l, e⟩ := LI_k (ok287 (β := β)) (by decide +kernel) (by decide +kernel) (by decide +kernel) (vs := [vR 76, vI a, vI 11]) ⟨_, _, rfl, rfl, _, _, rfl, ⟨a, rfl, ha⟩, _, _, rfl, rfl, rfl⟩ hL
    exact ⟨z, h', l, e⟩
  by_cases c12 : n = 12
  · subst c12
    obtain ⟨r, h', ⟨v, rfl, z, rfl, -⟩, l, e⟩ := LI_k (ok288 (β := β)) (by decide +kernel) (by decide +kernel) (by decide +kernel) (vs := [vR 76, vI a, vI 12]) ⟨_, _, rfl, rfl, _, _, rfl, ⟨a, rfl, ha⟩, _, _, rfl, rfl, rfl⟩ hL
    exact ⟨z, h', l, e⟩
  by_cases c13 : n = 13
  · subst c13
    obtain ⟨r, h', ⟨v, rfl, z, rfl, -⟩, l, e⟩ := LI_k (ok289 (β := β)) (by decide +kernel) (by decide +kernel) (by decide +kernel) (vs := [vR 76, vI a, vI 13]) ⟨_, _, rfl, rfl, _, _, rfl, ⟨a, rfl, ha⟩, _, _, rfl, rfl, rfl⟩ hL
    exact ⟨z, h', l, e⟩
  by_cases c14 : n = 14
  · subst c14
    obtain ⟨r, h', ⟨v, rfl, z, rfl, -⟩, l, e⟩ := LI_k (ok290 (β := β)) (by decide +kernel) (by decide +kernel) (by decide +kernel) (vs := [vR 76, vI a, vI 14]) ⟨_, _, rfl, rfl, _, _, rfl, ⟨a, rfl, ha⟩, _, _, rfl, rfl, rfl⟩ hL
    exact ⟨z, h', l, e⟩
  by_cases c15 : n = 15
  · subst c15
    obtain ⟨r, h', ⟨v, rfl, z, rfl, -⟩, l, e⟩ := LI_k (ok291 (β := β)) (by decide +kernel) (by decide +kernel) (by decide +kernel) (vs := [vR 76, vI a, vI 15]) ⟨_, _, rfl, rfl, _, _, rfl, ⟨a, rfl, ha⟩, _, _, rfl, rfl, rfl⟩ hL
    exact ⟨z, h', l, e⟩
  by_cases c16 : n = 16
  · subst c16
    obtain ⟨r, h', ⟨v, rfl, z, rfl, -⟩, l, e⟩ := LI_k (ok292 (β := β)) (by decide +kernel) (by decide +kernel) (by decide +kernel) (vs := [vR 76, vI a, vI 16]) ⟨_, _, rfl, rfl, _, _, rfl, ⟨a, rfl, ha⟩, _, _, rfl, rfl, rfl⟩ hL
    exact ⟨z, h', l, e⟩
  by_cases c17 : n = 17
  · subst c17
    obtain ⟨r, h', ⟨v, rfl, z, rfl, -⟩, l, e⟩ := LI_k (ok293 (β := β)) (by decide +kernel) (by decide +kernel) (by decide +kernel) (vs := [vR 76, vI a, vI 17]) ⟨_, _, rfl, rfl, _, _, rfl, ⟨a, rfl, ha⟩, _, _, rfl, rfl, rfl⟩ hL
    exact ⟨z, h', l, e⟩
  by_cases c18 : n = 18
  · subst c18
    obtain ⟨r, h', ⟨v, rfl, z, rfl, -⟩, l, e⟩ := LI_k (ok294 (β := β)) (by decide +kernel) (by decide +kernel) (by decide +kernel) (vs := [vR 76, vI a, vI 18]) ⟨_, _, rfl, rfl, _, _, rfl, ⟨a, rfl, ha⟩, _, _, rfl, rfl, rfl⟩ hL
    exact ⟨z, h', l, e⟩
  by_cases c19 : n = 19
  · subst c19
    obtain ⟨r, h', ⟨v, rfl, z, rfl, -⟩, l, e⟩ := LI_k (ok295 (β := β)) (by decide +kernel) (by decide +kernel) (by decide +kernel) (vs := [vR 76, vI a, vI 19]) ⟨_, _, rfl, rfl, _, _, rfl, ⟨a, rfl, ha⟩, _, _, rfl, rfl, rfl⟩ hL
    exact ⟨z, h', l, e⟩
  by_cases c20 : n = 20
  · subst c20
    obtain ⟨r, h', ⟨v, rfl, z, rfl, -⟩, l, e⟩ := LI_k (ok296 (β := β)) (by decide +kernel) (by decide +kernel) (by decide +kernel) (vs := [vR 76, vI a, vI 20]) ⟨_, _, rfl, rfl, _, _, rfl, ⟨a, rfl, ha⟩, _, _, rfl, rfl, rfl⟩ hL
    exact ⟨z, h', l, e⟩
  by_cases c21 : n = 21
  · subst c21
    obtain ⟨r, h', ⟨v, rfl, z, rfl, -⟩, l, e⟩ := LI_k (ok297 (β := β)) (by decide +kernel) (by decide +kernel) (by decide +kernel) (vs := [vR 76, vI a, vI 21]) ⟨_, _, rfl, rfl, _, _, rfl, ⟨a, rfl, ha⟩, _, _, rfl, rfl, rfl⟩ hL
    exact ⟨z, h', l, e⟩
  by_cases c22 : n = 22
  · subst c22
    obtain ⟨r, h', ⟨v, rfl, z, rfl, -⟩, l, e⟩ := LI_k (ok298 (β := β)) (by decide +kernel) (by decide +kernel) (by decide +kernel) (vs := [vR 76, vI a, vI 22]) ⟨_, _, rfl, rfl, _, _, rfl, ⟨a, rfl, ha⟩, _, _, rfl, rfl, rfl⟩ hL
    exact ⟨z, h', l, e⟩
  by_cases c23 : n = 23
  · subst c23
    obtain ⟨r, h', ⟨v, rfl, z, rfl, -⟩, l, e⟩ := LI_k (ok299 (β := β)) (by decide +kernel) (by decide +kernel) (by decide +kernel) (vs := [vR 76, vI a, vI 23]) ⟨_, _, rfl, rfl, _, _, rfl, ⟨a, rfl, ha⟩, _, _, rfl, rfl, rfl⟩ hL
    exact ⟨z, h', l, e⟩
  by_cases c24 : n = 24
  · subst c24
    obtain ⟨r, h', ⟨v, rfl, z, rfl, -⟩, l, e⟩ := LI_k (ok300 (β := β)) (by decide +kernel) (by decide +kernel) (by decide +kernel) (vs := [vR 76, vI a, vI 24]) ⟨_, _, rfl, rfl, _, _, rfl, ⟨a, rfl, ha⟩, _, _, rfl, rfl, rfl⟩ hL
    exact ⟨z, h', l, e⟩
  by_cases c25 : n = 25
  · subst c25
    obtain ⟨r, h', ⟨v, rfl, z, rfl, -⟩, l, e⟩ := LI_k (ok301 (β := β)) (by decide +kernel) (by decide +kernel) (by decide +kernel) (vs := [vR 76, vI a, vI 25]) ⟨_, _, rfl, rfl, _, _, rfl, ⟨a, rfl, ha⟩, _, _, rfl, rfl, rfl⟩ hL
    exact ⟨z, h', l, e⟩
  by_cases c26 : n = 26
  · subst c26
    obtain ⟨r, h', ⟨v, rfl, z, rfl, -⟩, l, e⟩ := LI_k (ok302 (β := β)) (by decide +kernel) (by decide +kernel) (by decide +kernel) (vs := [vR 76, vI a, vI 26]) ⟨_, _, rfl, rfl, _, _, rfl, ⟨a, rfl, ha⟩, _, _, rfl, rfl, rfl⟩ hL
    exact ⟨z, h', l, e⟩
  by_cases c27 : n = 27
  · subst c27
    obtain ⟨r, h', ⟨v, rfl, z, rfl, -⟩, l, e⟩ := LI_k (ok303 (β := β)) (by decide +kernel) (by decide +kernel) (by decide +kernel) (vs := [vR 76, vI a, vI 27]) ⟨_, _, rfl, rfl, _, _, rfl, ⟨a, rfl, ha⟩, _, _, rfl, rfl, rfl⟩ hL
    exact ⟨z, h', l, e⟩
  by_cases c28 : n = 28
  · subst c28
    obtain ⟨r, h', ⟨v, rfl, z, rfl, -⟩, l, e⟩ := LI_k (ok304 (β := β)) (by decide +kernel) (by decide +kernel) (by decide +kernel) (vs := [vR 76, vI a, vI 28]) ⟨_, _, rfl, rfl, _, _, rfl, ⟨a, rfl, ha⟩, _, _, rfl, rfl, rfl⟩ hL
    exact ⟨z, h', l, e⟩
  by_cases c29 : n = 29
  · subst c29
    obtain ⟨r, h', ⟨v, rfl, z, rfl, -⟩, l, e⟩ := LI_k (ok305 (β := β)) (by decide +kernel) (by decide +kernel) (by decide +kernel) (vs := [vR 76, vI a, vI 29]) ⟨_, _, rfl, rfl, _, _, rfl, ⟨a, rfl, ha⟩, _, _, rfl, rfl, rfl⟩ hL
    exact ⟨z, h', l, e⟩
  by_cases c30 : n = 30
  · subst c30
    obtain ⟨r, h', ⟨v, rfl, z, rfl, -⟩, l, e⟩ := LI_k (ok306 (β := β)) (by decide +kernel) (by decide +kernel) (by decide +kernel) (vs := [vR 76, vI a, vI 30]) ⟨_, _, rfl, rfl, _, _, rfl, ⟨a, rfl, ha⟩, _, _, rfl, rfl, rfl⟩ hL
    exact ⟨z, h', l, e⟩
  by_cases c31 : n = 31
  · subst c31
    obtain ⟨r, h', ⟨v, rfl, z, rfl, -⟩, l, e⟩ := LI_k (ok307 (β := β)) (by decide +kernel) (by decide +kernel) (by decide +kernel) (vs := [vR 76, vI a, vI 31]) ⟨_, _, rfl, rfl, _, _, rfl, ⟨a, rfl, ha⟩, _, _, rfl, rfl, rfl⟩ hL
    exact ⟨z, h', l, e⟩
  by_cases c32 : n = 32
  · subst c32
    obtain ⟨r, h', ⟨v, rfl, z, rfl, -⟩, l, e⟩ := LI_k (ok308 (β := β)) (by decide +kernel) (by decide +kernel) (by decide +kernel) (vs := [vR 76, vI a, vI 32]) ⟨_, _, rfl, rfl, _, _, rfl, ⟨a, rfl, ha⟩, _, _, rfl, rfl, rfl⟩ hL
    exact ⟨z, h', l, e⟩
  by_cases c33 : n = 33
  · subst c33
    obtain ⟨r, h', ⟨v, rfl, z, rfl, -⟩, l, e⟩ := LI_k (ok309 (β := β)) (by decide +kernel) (by decide +kernel) (by decide +kernel) (vs := [vR 76, vI a, vI 33]) ⟨_, _, rfl, rfl, _, _, rfl, ⟨a, rfl, ha⟩, _, _, rfl, rfl, rfl⟩ hL
    exact ⟨z, h', l, e⟩
  by_cases c34 : n = 34
  · subst c34
    obtain ⟨r, h', ⟨v, rfl, z, rfl, -⟩, l, e⟩ := LI_k (ok310 (β := β)) (by decide +kernel) (by decide +kernel) (by decide +kernel) (vs := [vR 76, vI a, vI 34]) ⟨_, _, rfl, rfl, _, _, rfl, ⟨a, rfl, ha⟩, _, _, rfl, rfl, rfl⟩ hL
    exact ⟨z, h', l, e⟩
  by_cases c35 : n = 35
  · subst c35
    obtain ⟨r, h', ⟨v, rfl, z, rfl, -⟩, l, e⟩ := LI_k (ok311 (β := β)) (by decide +kernel) (by decide +kernel) (by decide +kernel) (vs := [vR 76, vI a, vI 35]) ⟨_, _, rfl, rfl, _, _, rfl, ⟨a, rfl, ha⟩, _, _, rfl, rfl, rfl⟩ hL
    exact ⟨z, h', l, e⟩
  by_cases c36 : n = 36
  · subst c36
    obtain ⟨r, h', ⟨v, rfl, z, rfl, -⟩, l, e⟩ := LI_k (ok312 (β := β)) (by decide +kernel) (by decide +kernel) (by decide +kernel) (vs := [vR 76, vI a, vI 36]) ⟨_, _, rfl, rfl, _, _, rfl, ⟨a, rfl, ha⟩, _, _, rfl, rfl, rfl⟩ hL
    exact ⟨z, h', l, e⟩
  by_cases c37 : n = 37
  · subst c37
    obtain ⟨r, h', ⟨v, rfl, z, rfl, -⟩, l, e⟩ := LI_k (ok313 (β := β)) (by decide +kernel) (by decide +kernel) (by decide +kernel) (vs := [vR 76, vI a, vI 37]) ⟨_, _, rfl, rfl, _, _, rfl, ⟨a, rfl, ha⟩, _, _, rfl, rfl, rfl⟩ hL
    exact ⟨z, h', l, e⟩
  by_cases c38 : n = 38
  · subst c38
    obtain ⟨r, h', ⟨v, rfl, z, rfl, -⟩, l, e⟩ := LI_k (ok314 (β := β)) (by decide +kernel) (by decide +kernel) (by decide +kernel) (vs := [vR 76, vI a, vI 38]) ⟨_, _, rfl, rfl, _, _, rfl, ⟨a, rfl, ha⟩, _, _, rfl, rfl, rfl⟩ hL
    exact ⟨z, h', l, e⟩
  by_cases c39 : n = 39
  · subst c39
    obtain ⟨r, h', ⟨v, rfl, z, rfl, -⟩, l, e⟩ := LI_k (ok315 (β := β)) (by decide +kernel) (by decide +kernel) (by decide +kernel) (vs := [vR 76, vI a, vI 39]) ⟨_, _, rfl, rfl, _, _, rfl, ⟨a, rfl, ha⟩, _, _, rfl, rfl, rfl⟩ hL
    exact ⟨z, h', l, e⟩
  have c40 : n = 40 := by omega
  subst c40
  obtain ⟨r, h', ⟨v, rfl, z, rfl, -⟩, l, e⟩ := LI_k (ok316 (β := β)) (by decide +kernel) (by decide +kernel) (by decide +kernel) (vs := [vR 76, vI a, vI 40]) ⟨_, _, rfl, rfl, _, _, rfl, ⟨a, rfl, ha⟩, _, _, rfl, rfl, rfl⟩ hL
  exact ⟨z, h', l, e⟩
set_option maxHeartbeats 4000000 in
theorem LI_ca1 {β L : Nat} {xs : Nat → Int} {h : AH} {q b : Int} (hq : -2147483648 ≤ q ∧ q ≤ 2147483647) (hb : 0 ≤ b ∧ b ≤ 1) (hL : LI β L xs h) : ∃ (z : Int) (h' : AH), (LI β L xs h' ∧ FL h h') ∧ ∀ Q : Option AV → AH → Prop, XC 1000 280 [vR 76, vI 1, vI q, vI b] h Q = Q (some (vL z)) h' := by
  by_cases c0 : q ≤ -1
  · obtain ⟨r, h', ⟨v, rfl, z, rfl, -⟩, l, e⟩ := LI_k (ok341 (β := β)) (by decide +kernel) (by decide +kernel) (by decide +kernel) (vs := [vR 76, vI 1, vI q, vI b]) ⟨_, _, rfl, rfl, _, _, rfl, rfl, _, _, rfl, ⟨q, rfl, hq.1, c0⟩, _, _, rfl, ⟨b, rfl, hb⟩, rfl⟩ hL
    exact ⟨z, h', l, e⟩
  by_cases c10 : 10 ≤ q
  · obtain ⟨r, h', ⟨v, rfl, z, rfl, -⟩, l, e⟩ := LI_k (ok342 (β := β)) (by decide +kernel) (by decide +kernel) (by decide +kernel) (vs := [vR 76, vI 1, vI q, vI b]) ⟨_, _, rfl, rfl, _, _, rfl, rfl, _, _, rfl, ⟨q, rfl, c10, hq.2⟩, _, _, rfl, ⟨b, rfl, hb⟩, rfl⟩ hL
    exact ⟨z, h', l, e⟩
  by_cases d0 : q = 0
  · subst d0
    obtain ⟨r, h', ⟨v, rfl, z, rfl, -⟩, l, e⟩ := LI_k (ok331 (β := β)) (by decide +kernel) (by decide +kernel) (by decide +kernel) (vs := [vR 76, vI 1, vI 0, vI b]) ⟨_, _, rfl, rfl, _, _, rfl, rfl, _, _, rfl, rfl, _, _, rfl, ⟨b, rfl, hb⟩, rfl⟩ hL
    exact ⟨z, h', l, e⟩
  by_cases d1 : q = 1
  · subst d1
    obtain ⟨r, h', ⟨v, rfl, z, rfl, -⟩, l, e⟩ := LI_k (ok332 (β := β)) (by decide +kernel) (by decide +kernel) (by decide +kernel) (vs := [vR 76, vI 1, vI 1, vI b]) ⟨_, _, rfl, rfl, _, _, rfl, rfl, _, _, rfl, rfl, _, _, rfl, ⟨b, rfl, hb⟩, rfl⟩ hL
    exact ⟨z, h', l, e⟩
  by_cases d2 : q = 2
  · subst d2
    obtain ⟨r, h', ⟨v, rfl, z, rfl, -⟩, l, e⟩ := LI_k (ok333 (β := β)) (by decide +kernel) (by decide +kernel) (by decide +kernel) (vs := [vR 76, vI 1, vI 2, vI b]) ⟨_, _, rfl, rfl, _, _, rfl, rfl, _, _, rfl, rfl, _, _, rfl, ⟨b, rfl, hb⟩, rfl⟩ hL
    exact ⟨z, h', l, e⟩
  by_cases d3 : q = 3
  · subst d3
    obtain ⟨r, h', ⟨v, rfl, z, rfl, -⟩, l, e⟩ := LI_k (ok334 (β := β)) (by decide +kernel) (by decide +kernel) (by decide +kernel) (vs := [vR 76, vI 1, vI 3, vI b]) ⟨_, _, rfl, rfl, _, _, rfl, rfl, _, _, rfl, rfl, _, _, rfl, ⟨b, rfl, hb⟩, rfl⟩ hL
    exact ⟨z, h', l, e⟩
  by_cases d4 : q = 4
  · subst d4
    obtain ⟨r, h', ⟨v, rfl, z, rfl, -⟩, l, e⟩ := LI_k (ok335 (β := β)) (by decide +kernel) (by decide +kernel) (by decide +kernel) (vs := [vR 76, vI 1, vI 4, vI b]) ⟨_, _, rfl, rfl, _, _, rfl, rfl, _, _, rfl, rfl, _, _, rfl, ⟨b, rfl, hb⟩, rfl⟩ hL
    exact ⟨z, h', l, e⟩
  by_cases d5 : q = 5
  · subst d5
    obtain ⟨r, h', ⟨v, rfl, z, rfl, -⟩, l, e⟩ := LI_k (ok336 (β := β)) (by decide +kernel) (by decide +kernel) (by decide +kernel) (vs := [vR 76, vI 1, vI 5, vI b]) ⟨_, _, rfl, rfl, _, _, rfl, rfl, _, _, rfl, rfl, _, _, rfl, ⟨b, rfl, hb⟩, rfl⟩ hL
    exact ⟨z, h', l, e⟩
  by_cases d6 : q = 6
  · subst d6
    obtain ⟨r, h', ⟨v, rfl, z, rfl, -⟩, l, e⟩ := LI_k (ok337 (β := β)) (by decide +kernel) (by decide +kernel) (by decide +kernel) (vs := [vR 76, vI 1, vI 6, vI b]) ⟨_, _, rfl, rfl, _, _, rfl, rfl, _, _, rfl, rfl, _, _, rfl, ⟨b, rfl, hb⟩, rfl⟩ hL
    exact ⟨z, h', l, e⟩
  by_cases d7 : q = 7
  · subst d7
    obtain ⟨r, h', ⟨v, rfl, z, rfl, -⟩, l, e⟩ := LI_k (ok338 (β := β)) (by decide +kernel) (by decide +kernel) (by decide +kernel) (vs := [vR 76, vI 1, vI 7, vI b]) ⟨_, _, rfl, rfl, _, _, rfl, rfl, _, _, rfl, rfl, _, _, rfl, ⟨b, rfl, hb⟩, rfl⟩ hL
    exact ⟨z, h', l, e⟩
  by_cases d8 : q = 8
  · subst d8
    obtain ⟨r, h', ⟨v, rfl, z, rfl, -⟩, l, e⟩ := LI_k (ok339 (β := β)) (by decide +kernel) (by decide +kernel) (by decide +kernel) (vs := [vR 76, vI 1, vI 8, vI b]) ⟨_, _, rfl, rfl, _, _, rfl, rfl, _, _, rfl, rfl, _, _, rfl, ⟨b, rfl, hb⟩, rfl⟩ hL
    exact ⟨z, h', l, e⟩
  have d9 : q = 9 := by omega
  subst d9
  obtain ⟨r, h', ⟨v, rfl, z, rfl, -⟩, l, e⟩ := LI_k (ok340 (β := β)) (by decide +kernel) (by decide +kernel) (by decide +kernel) (vs := [vR 76, vI 1, vI 9, vI b]) ⟨_, _, rfl, rfl, _, _, rfl, rfl, _, _, rfl, rfl, _, _, rfl, ⟨b, rfl, hb⟩, rfl⟩ hL
  exact ⟨z, h', l, e⟩
set_option maxHeartbeats 4000000 in
theorem LI_ca2 {β L : Nat} {xs : Nat → Int} {h : AH} {q b : Int} (hq : -2147483648 ≤ q ∧ q ≤ 2147483647) (hb : 0 ≤ b ∧ b ≤ 1) (hL : LI β L xs h) : ∃ (z : Int) (h' : AH), (LI β L xs h' ∧ FL h h') ∧ ∀ Q : Option AV → AH → Prop, XC 1000 280 [vR 76, vI 2, vI q, vI b] h Q = Q (some (vL z)) h' := by
  by_cases c0 : q ≤ -1
  · obtain ⟨r, h', ⟨v, rfl, z, rfl, -⟩, l, e⟩ := LI_k (ok353 (β := β)) (by decide +kernel) (by decide +kernel) (by decide +kernel) (vs := [vR 76, vI 2, vI q, vI b]) ⟨_, _, rfl, rfl, _, _, rfl, rfl, _, _, rfl, ⟨q, rfl, hq.1, c0⟩, _, _, rfl, ⟨b, rfl, hb⟩, rfl⟩ hL
    exact ⟨z, h', l, e⟩
  by_cases c10 : 10 ≤ q
  · obtain ⟨r, h', ⟨v, rfl, z, rfl, -⟩, l, e⟩ := LI_k (ok354 (β := β)) (by decide +kernel) (by decide +kernel) (by decide +kernel) (vs := [vR 76, vI 2, vI q, vI b]) ⟨_, _, rfl, rfl, _, _, rfl, rfl, _, _, rfl, ⟨q, rfl, c10, hq.2⟩, _, _, rfl, ⟨b, rfl, hb⟩, rfl⟩ hL
    exact ⟨z, h', l, e⟩
  by_cases d0 : q = 0
  · subst d0
    obtain ⟨r, h', ⟨v, rfl, z, rfl, -⟩, l, e⟩ := LI_k (ok343 (β := β)) (by decide +kernel) (by decide +kernel) (by decide +kernel) (vs := [vR 76, vI 2, vI 0, vI b]) ⟨_, _, rfl, rfl, _, _, rfl, rfl, _, _, rfl, rfl, _, _, rfl, ⟨b, rfl, hb⟩, rfl⟩ hL
    exact ⟨z, h', l, e⟩
  by_cases d1 : q = 1
  · subst d1
    obtain ⟨r, h', ⟨v, rfl, z, rfl, -⟩, l, e⟩ := LI_k (ok344 (β := β)) (by decide +kernel) (by decide +kernel) (by decide +kernel) (vs := [vR 76, vI 2, vI 1, vI b]) ⟨_, _, rfl, rfl, _, _, rfl, rfl, _, _, rfl, rfl, _, _, rfl, ⟨b, rfl, hb⟩, rfl⟩ hL
    exact ⟨z, h', l, e⟩
  by_cases d2 : q = 2
  · subst d2
    obtain ⟨r, h', ⟨v, rfl, z, rfl, -⟩, l, e⟩ := LI_k (ok345 (β := β)) (by decide +kernel) (by decide +kernel) (by decide +kernel) (vs := [vR 76, vI 2, vI 2, vI b]) ⟨_, _, rfl, rfl, _, _, rfl, rfl, _, _, rfl, rfl, _, _, rfl, ⟨b, rfl, hb⟩, rfl⟩ hL
    exact ⟨z, h', l, e⟩
  by_cases d3 : q = 3
  · subst d3
    obtain ⟨r, h', ⟨v, rfl, z, rfl, -⟩, l, e⟩ := LI_k (ok346 (β := β)) (by decide +kernel) (by decide +kernel) (by decide +kernel) (vs := [vR 76, vI 2, vI 3, vI b]) ⟨_, _, rfl, rfl, _, _, rfl, rfl, _, _, rfl, rfl, _, _, rfl, ⟨b, rfl, hb⟩, rfl⟩ hL
    exact ⟨z, h', l, e⟩
  by_cases d4 : q = 4
  · subst d4
    obtain ⟨r, h', ⟨v, rfl, z, rfl, -⟩, l, e⟩ := LI_k (ok347 (β := β)) (by decide +kernel) (by decide +kernel) (by decide +kernel) (vs := [vR 76, vI 2, vI 4, vI b]) ⟨_, _, rfl, rfl, _, _, rfl, rfl, _, _, rfl, rfl, _, _, rfl, ⟨b, rfl, hb⟩, rfl⟩ hL
    exact ⟨z, h', l, e⟩
  by_cases d5 : q = 5
  · subst d5
    obtain ⟨r, h', ⟨v, rfl, z, rfl, -⟩, l, e⟩ := LI_k (ok348 (β := β)) (by decide +kernel) (by decide +kernel) (by decide +kernel) (vs := [vR 76, vI 2, vI 5, vI b]) ⟨_, _, rfl, rfl, _, _, rfl, rfl, _, _, rfl, rfl, _, _, rfl, ⟨b, rfl, hb⟩, rfl⟩ hL
    exact ⟨z, h', l, e⟩
  by_cases d6 : q = 6
  · subst d6
    obtain ⟨r, h', ⟨v, rfl, z, rfl, -⟩, l, e⟩ := LI_k (ok349 (β := β)) (by decide +kernel) (by decide +kernel) (by decide +kernel) (vs := [vR 76, vI 2, vI 6, vI b]) ⟨_, _, rfl, rfl, _, _, rfl, rfl, _, _, rfl, rfl, _, _, rfl, ⟨b, rfl, hb⟩, rfl⟩ hL
    exact ⟨z, h', l, e⟩
  by_cases d7 : q = 7
  · subst d7
    obtain ⟨r, h', ⟨v, rfl, z, rfl, -⟩, l, e⟩ := LI_k (ok350 (β := β)) (by decide +kernel) (by decide +kernel) (by decide +kernel) (vs := [vR 76, vI 2, vI 7, vI b]) ⟨_, _, rfl, rfl, _, _, rfl, rfl, _, _, rfl, rfl, _, _, rfl, ⟨b, rfl, hb⟩, rfl⟩ hL
    exact ⟨z, h', l, e⟩
  by_cases d8 : q = 8
  · subst d8
    obtain ⟨r, h', ⟨v, rfl, z, rfl, -⟩, l, e⟩ := LI_k (ok351 (β := β)) (by decide +kernel) (by decide +kernel) (by decide +kernel) (vs := [vR 76, vI 2, vI 8, vI b]) ⟨_, _, rfl, rfl, _, _, rfl, rfl, _, _, rfl, rfl, _, _, rfl, ⟨b, rfl, hb⟩, rfl⟩ hL
    exact ⟨z, h', l, e⟩
  have d9 : q = 9 := by omega
  subst d9
  obtain ⟨r, h', ⟨v, rfl, z, rfl, -⟩, l, e⟩ := LI_k (ok352 (β := β)) (by decide +kernel) (by decide +kernel) (by decide +kernel) (vs := [vR 76, vI 2, vI 9, vI b]) ⟨_, _, rfl, rfl, _, _, rfl, rfl, _, _, rfl, rfl, _, _, rfl, ⟨b, rfl, hb⟩, rfl⟩ hL
  exact ⟨z, h', l, e⟩
set_option maxHeartbeats 4000000 in
theorem LI_ca3 {β L : Nat} {xs : Nat → Int} {h : AH} {q b : Int} (hq : -2147483648 ≤ q ∧ q ≤ 2147483647) (hb : 0 ≤ b ∧ b ≤ 1) (hL : LI β L xs h) : ∃ (z : Int) (h' : AH), (LI β L xs h' ∧ FL h h') ∧ ∀ Q : Option AV → AH → Prop, XC 1000 280 [vR 76, vI 3, vI q, vI b] h Q = Q (some (vL z)) h' := by
  by_cases c0 : q ≤ -1
  · obtain ⟨r, h', ⟨v, rfl, z, rfl, -⟩, l, e⟩ := LI_k (ok365 (β := β)) (by decide +kernel) (by decide +kernel) (by decide +kernel) (vs := [vR 76, vI 3, vI q, vI b]) ⟨_, _, rfl, rfl, _, _, rfl, rfl, _, _, rfl, ⟨q, rfl, hq.1, c0⟩, _, _, rfl, ⟨b, rfl, hb⟩, rfl⟩ hL
    exact ⟨z, h', l, e⟩
  by_cases c10 : 10 ≤ q
  · obtain ⟨r, h', ⟨v, rfl, z, rfl, -⟩, l, e⟩ := LI_k (ok366 (β := β)) (by decide +kernel) (by decide +kernel) (by decide +kernel) (vs := [vR 76, vI 3, vI q, vI b]) ⟨_, _, rfl, rfl, _, _, rfl, rfl, _, _, rfl, ⟨q, rfl, c10, hq.2⟩, _, _, rfl, ⟨b, rfl, hb⟩, rfl⟩ hL
    exact ⟨z, h', l, e⟩
  by_cases d0 : q = 0
  · subst d0
    obtain ⟨r, h', ⟨v, rfl, z, rfl, -⟩, l, e⟩ := LI_k (ok355 (β := β)) (by decide +kernel) (by decide +kernel) (by decide +kernel) (vs := [vR 76, vI 3, vI 0, vI b]) ⟨_, _, rfl, rfl, _, _, rfl, rfl, _, _, rfl, rfl, _, _, rfl, ⟨b, rfl, hb⟩, rfl⟩ hL
    exact ⟨z, h', l, e⟩
  by_cases d1 : q = 1
  · subst d1
    obtain ⟨r, h', ⟨v, rfl, z, rfl, -⟩, l, e⟩ := LI_k (ok356 (β := β)) (by decide +kernel) (by decide +kernel) (by decide +kernel) (vs := [vR 76, vI 3, vI 1, vI b]) ⟨_, _, rfl, rfl, _, _, rfl, rfl, _, _, rfl, rfl, _, _, rfl, ⟨b, rfl, hb⟩, rfl⟩ hL
    exact ⟨z, h', l, e⟩
  by_cases d2 : q = 2
  · subst d2
    obtain ⟨r, h', ⟨v, rfl, z, rfl, -⟩, l, e⟩ := LI_k (ok357 (β := β)) (by decide +kernel) (by decide +kernel) (by decide +kernel) (vs := [vR 76, vI 3, vI 2, vI b]) ⟨_, _, rfl, rfl, _, _, rfl, rfl, _, _, rfl, rfl, _, _, rfl, ⟨b, rfl, hb⟩, rfl⟩ hL
    exact ⟨z, h', l, e⟩
  by_cases d3 : q = 3
  · subst d3
    obtain ⟨r, h', ⟨v, rfl, z, rfl, -⟩, l, e⟩ := LI_k (ok358 (β := β)) (by decide +kernel) (by decide +kernel) (by decide +kernel) (vs := [vR 76, vI 3, vI 3, vI b]) ⟨_, _, rfl, rfl, _, _, rfl, rfl, _, _, rfl, rfl, _, _, rfl, ⟨b, rfl, hb⟩, rfl⟩ hL
    exact ⟨z, h', l, e⟩
  by_cases d4 : q = 4
  · subst d4
    obtain ⟨r, h', ⟨v, rfl, z, rfl, -⟩, l, e⟩ := LI_k (ok359 (β := β)) (by decide +kernel) (by decide +kernel) (by decide +kernel) (vs := [vR 76, vI 3, vI 4, vI b]) ⟨_, _, rfl, rfl, _, _, rfl, rfl, _, _, rfl, rfl, _, _, rfl, ⟨b, rfl, hb⟩, rfl⟩ hL
    exact ⟨z, h', l, e⟩
  by_cases d5 : q = 5
  · subst d5
    obtain ⟨r, h', ⟨v, rfl, z, rfl, -⟩, l, e⟩ := LI_k (ok360 (β := β)) (by decide +kernel) (by decide +kernel) (by decide +kernel) (vs := [vR 76, vI 3, vI 5, vI b]) ⟨_, _, rfl, rfl, _, _, rfl, rfl, _, _, rfl, rfl, _, _, rfl, ⟨b, rfl, hb⟩, rfl⟩ hL
    exact ⟨z, h', l, e⟩
  by_cases d6 : q = 6
  · subst d6
    obtain ⟨r, h', ⟨v, rfl, z, rfl, -⟩, l, e⟩ := LI_k (ok361 (β := β)) (by decide +kernel) (by decide +kernel) (by decide +kernel) (vs := [vR 76, vI 3, vI 6, vI b]) ⟨_, _, rfl, rfl, _, _, rfl, rfl, _, _, rfl, rfl, _, _, rfl, ⟨b, rfl, hb⟩, rfl⟩ hL
    exact ⟨z, h', l, e⟩
  by_cases d7 : q = 7
  · subst d7
    obtain ⟨r, h', ⟨v, rfl, z, rfl, -⟩, l, e⟩ := LI_k (ok362 (β := β)) (by decide +kernel) (by decide +kernel) (by decide +kernel) (vs := [vR 76, vI 3, vI 7, vI b]) ⟨_, _, rfl, rfl, _, _, rfl, rfl, _, _, rfl, rfl, _, _, rfl, ⟨b, rfl, hb⟩, rfl⟩ hL
    exact ⟨z, h', l, e⟩
  by_cases d8 : q = 8
  · subst d8
    obtain ⟨r, h', ⟨v, rfl, z, rfl, -⟩, l, e⟩ := LI_k (ok363 (β := β)) (by decide +kernel) (by decide +kernel) (by decide +kernel) (vs := [vR 76, vI 3, vI 8, vI b]) ⟨_, _, rfl, rfl, _, _, rfl, rfl, _, _, rfl, rfl, _, _, rfl, ⟨b, rfl, hb⟩, rfl⟩ hL
    exact ⟨z, h', l, e⟩
  have d9 : q = 9 := by omega
  subst d9
  obtain ⟨r, h', ⟨v, rfl, z, rfl, -⟩, l, e⟩ := LI_k (ok364 (β := β)) (by decide +kernel) (by decide +kernel) (by decide +kernel) (vs := [vR 76, vI 3, vI 9, vI b]) ⟨_, _, rfl, rfl, _, _, rfl, rfl, _, _, rfl, rfl, _, _, rfl, ⟨b, rfl, hb⟩, rfl⟩ hL
  exact ⟨z, h', l, e⟩
set_option maxHeartbeats 4000000 in
theorem LI_ca4 {β L : Nat} {xs : Nat → Int} {h : AH} {q b : Int} (hq : -2147483648 ≤ q ∧ q ≤ 2147483647) (hb : 0 ≤ b ∧ b ≤ 1) (hL : LI β L xs h) : ∃ (z : Int) (h' : AH), (LI β L xs h' ∧ FL h h') ∧ ∀ Q : Option AV → AH → Prop, XC 1000 280 [vR 76, vI 4, vI q, vI b] h Q = Q (some (vL z)) h' := by
  by_cases c0 : q ≤ -1
  · obtain ⟨r, h', ⟨v, rfl, z, rfl, -⟩, l, e⟩ := LI_k (ok377 (β := β)) (by decide +kernel) (by decide +kernel) (by decide +kernel) (vs := [vR 76, vI 4, vI q, vI b]) ⟨_, _, rfl, rfl, _, _, rfl, rfl, _, _, rfl, ⟨q, rfl, hq.1, c0⟩, _, _, rfl, ⟨b, rfl, hb⟩, rfl⟩ hL
    exact ⟨z, h', l, e⟩
  by_cases c10 : 10 ≤ q
  · obtain ⟨r, h', ⟨v, rfl, z, rfl, -⟩, l, e⟩ := LI_k (ok378 (β := β)) (by decide +kernel) (by decide +kernel) (by decide +kernel) (vs := [vR 76, vI 4, vI q, vI b]) ⟨_, _, rfl, rfl, _, _, rfl, rfl, _, _, rfl, ⟨q, rfl, c10, hq.2⟩, _, _, rfl, ⟨b, rfl, hb⟩, rfl⟩ hL
    exact ⟨z, h', l, e⟩
  by_cases d0 : q = 0
  · subst d0
    obtain ⟨r, h', ⟨v, rfl, z, rfl, -⟩, l, e⟩ := LI_k (ok367 (β := β)) (by decide +kernel) (by decide +kernel) (by decide +kernel) (vs := [vR 76, vI 4, vI 0, vI b]) ⟨_, _, rfl, rfl, _, _, rfl, rfl, _, _, rfl, rfl, _, _, rfl, ⟨b, rfl, hb⟩, rfl⟩ hL
    exact ⟨z, h', l, e⟩
  by_cases d1 : q = 1
  · subst d1
    obtain ⟨r, h', ⟨v, rfl, z, rfl, -⟩, l, e⟩ := LI_k (ok368 (β := β)) (by decide +kernel) (by decide +kernel) (by decide +kernel) (vs := [vR 76, vI 4, vI 1, vI b]) ⟨_, _, rfl, rfl, _, _, rfl, rfl, _, _, rfl, rfl, _, _, rfl, ⟨b, rfl, hb⟩, rfl⟩ hL
    exact ⟨z, h', l, e⟩
  by_cases d2 : q = 2
  · subst d2
    obtain ⟨r, h', ⟨v, rfl, z, rfl, -⟩, l, e⟩ := LI_k (ok369 (β := β)) (by decide +kernel) (by decide +kernel) (by decide +kernel) (vs := [vR 76, vI 4, vI 2, vI b]) ⟨_, _, rfl, rfl, _, _, rfl, rfl, _, _, rfl, rfl, _, _, rfl, ⟨b, rfl, hb⟩, rfl⟩ hL
    exact ⟨z, h', l, e⟩
  by_cases d3 : q = 3
  · subst d3
    obtain ⟨r, h', ⟨v, rfl, z, rfl, -⟩, l, e⟩ := LI_k (ok370 (β := β)) (by decide +kernel) (by decide +kernel) (by decide +kernel) (vs := [vR 76, vI 4, vI 3, vI b]) ⟨_, _, rfl, rfl, _, _, rfl, rfl, _, _, rfl, rfl, _, _, rfl, ⟨b, rfl, hb⟩, rfl⟩ hL
    exact ⟨z, h', l, e⟩
  by_cases d4 : q = 4
  · subst d4
    obtain ⟨r, h', ⟨v, rfl, z, rfl, -⟩, l, e⟩ := LI_k (ok371 (β := β)) (by decide +kernel) (by decide +kernel) (by decide +kernel) (vs := [vR 76, vI 4, vI 4, vI b]) ⟨_, _, rfl, rfl, _, _, rfl, rfl, _, _, rfl, rfl, _, _, rfl, ⟨b, rfl, hb⟩, rfl⟩ hL
    exact ⟨z, h', l, e⟩
  by_cases d5 : q = 5
  · subst d5
    obtain ⟨r, h', ⟨v, rfl, z, rfl, -⟩, l, e⟩ := LI_k (ok372 (β := β)) (by decide +kernel) (by decide +kernel) (by decide +kernel) (vs := [vR 76, vI 4, vI 5, vI b]) ⟨_, _, rfl, rfl, _, _, rfl, rfl, _, _, rfl, rfl, _, _, rfl, ⟨b, rfl, hb⟩, rfl⟩ hL
    exact ⟨z, h', l, e⟩
  by_cases d6 : q = 6
  · subst d6
    obtain ⟨r, h', ⟨v, rfl, z, rfl, -⟩, l, e⟩ := LI_k (ok373 (β := β)) (by decide +kernel) (by decide +kernel) (by decide +kernel) (vs := [vR 76, vI 4, vI 6, vI b]) ⟨_, _, rfl, rfl, _, _, rfl, rfl, _, _, rfl, rfl, _, _, rfl, ⟨b, rfl, hb⟩, rfl⟩ hL
    exact ⟨z, h', l, e⟩
  by_cases d7 : q = 7
  · subst d7
    obtain ⟨r, h', ⟨v, rfl, z, rfl, -⟩, l, e⟩ := LI_k (ok374 (β := β)) (by decide +kernel) (by decide +kernel) (by decide +kernel) (vs := [vR 76, vI 4, vI 7, vI b]) ⟨_, _, rfl, rfl, _, _, rfl, rfl, _, _, rfl, rfl, _, _, rfl, ⟨b, rfl, hb⟩, rfl⟩ hL
    exact ⟨z, h', l, e⟩
  by_cases d8 : q = 8
  · subst d8
    obtain ⟨r, h', ⟨v, rfl, z, rfl, -⟩, l, e⟩ := LI_k (ok375 (β := β)) (by decide +kernel) (by decide +kernel) (by decide +kernel) (vs := [vR 76, vI 4, vI 8, vI b]) ⟨_, _, rfl, rfl, _, _, rfl, rfl, _, _, rfl, rfl, _, _, rfl, ⟨b, rfl, hb⟩, rfl⟩ hL
    exact ⟨z, h', l, e⟩
  have d9 : q = 9 := by omega
  subst d9
  obtain ⟨r, h', ⟨v, rfl, z, rfl, -⟩, l, e⟩ := LI_k (ok376 (β := β)) (by decide +kernel) (by decide +kernel) (by decide +kernel) (vs := [vR 76, vI 4, vI 9, vI b]) ⟨_, _, rfl, rfl, _, _, rfl, rfl, _, _, rfl, rfl, _, _, rfl, ⟨b, rfl, hb⟩, rfl⟩ hL
  exact ⟨z, h', l, e⟩
set_option maxHeartbeats 4000000 in
theorem LI_ca5 {β L : Nat} {xs : Nat → Int} {h : AH} {q b : Int} (hq : -2147483648 ≤ q ∧ q ≤ 2147483647) (hb : 0 ≤ b ∧ b ≤ 1) (hL : LI β L xs h) : ∃ (z : Int) (h' : AH), (LI β L xs h' ∧ FL h h') ∧ ∀ Q : Option AV → AH → Prop, XC 1000 280 [vR 76, vI 5, vI q, vI b] h Q = Q (some (vL z)) h' := by
  by_cases c0 : q ≤ -1
  · obtain ⟨r, h', ⟨v, rfl, z, rfl, -⟩, l, e⟩ := LI_k (ok389 (β := β)) (by decide +kernel) (by decide +kernel) (by decide +kernel) (vs := [vR 76, vI 5, vI q, vI b]) ⟨_, _, rfl, rfl, _, _, rfl, rfl, _, _, rfl, ⟨q, rfl, hq.1, c0⟩, _, _, rfl, ⟨b, rfl, hb⟩, rfl⟩ hL
    exact ⟨z, h', l, e⟩
  by_cases c10 : 10 ≤ q
  · obtain ⟨r, h', ⟨v, rfl, z, rfl, -⟩, l, e⟩ := LI_k (ok390 (β := β)) (by decide +kernel) (by decide +kernel) (by decide +kernel) (vs := [vR 76, vI 5, vI q, vI b]) ⟨_, _, rfl, rfl, _, _, rfl, rfl, _, _, rfl, ⟨q, rfl, c10, hq.2⟩, _, _, rfl, ⟨b, rfl, hb⟩, rfl⟩ hL
    exact ⟨z, h', l, e⟩
  by_cases d0 : q = 0
  · subst d0
    obtain ⟨r, h', ⟨v, rfl, z, rfl, -⟩, l, e⟩ := LI_k (ok379 (β := β)) (by decide +kernel) (by decide +kernel) (by decide +kernel) (vs := [vR 76, vI 5, vI 0, vI b]) ⟨_, _, rfl, rfl, _, _, rfl, rfl, _, _, rfl, rfl, _, _, rfl, ⟨b, rfl, hb⟩, rfl⟩ hL
    exact ⟨z, h', l, e⟩
  by_cases d1 : q = 1
  · subst d1
    obtain ⟨r, h', ⟨v, rfl, z, rfl, -⟩, l, e⟩ := LI_k (ok380 (β := β)) (by decide +kernel) (by decide +kernel) (by decide +kernel) (vs := [vR 76, vI 5, vI 1, vI b]) ⟨_, _, rfl, rfl, _, _, rfl, rfl, _, _, rfl, rfl, _, _, rfl, ⟨b, rfl, hb⟩, rfl⟩ hL
    exact ⟨z, h', l, e⟩
  by_cases d2 : q = 2
  · subst d2
    obtain ⟨r, h', ⟨v, rfl, z, rfl, -⟩, l, e⟩ := LI_k (ok381 (β := β)) (by decide +kernel) (by decide +kernel) (by decide +kernel) (vs := [vR 76, vI 5, vI 2, vI b]) ⟨_, _, rfl, rfl, _, _, rfl, rfl, _, _, rfl, rfl, _, _, rfl, ⟨b, rfl, hb⟩, rfl⟩ hL
    exact ⟨z, h', l, e⟩
  by_cases d3 : q = 3
  · subst d3
    obtain ⟨r, h', ⟨v, rfl, z, rfl, -⟩, l, e⟩ := LI_k (ok382 (β := β)) (by decide +kernel) (by decide +kernel) (by decide +kernel) (vs := [vR 76, vI 5, vI 3, vI b]) ⟨_, _, rfl, rfl, _, _, rfl, rfl, _, _, rfl, rfl, _, _, rfl, ⟨b, rfl, hb⟩, rfl⟩ hL
    exact ⟨z, h', l, e⟩
  by_cases d4 : q = 4
  · subst d4
    obtain ⟨r, h', ⟨v, rfl, z, rfl, -⟩, l, e⟩ := LI_k (ok383 (β := β)) (by decide +kernel) (by decide +kernel) (by decide +kernel) (vs := [vR 76, vI 5, vI 4, vI b]) ⟨_, _, rfl, rfl, _, _, rfl, rfl, _, _, rfl, rfl, _, _, rfl, ⟨b, rfl, hb⟩, rfl⟩ hL
    exact ⟨z, h', l, e⟩
  by_cases d5 : q = 5
  · subst d5
    obtain ⟨r, h', ⟨v, rfl, z, rfl, -⟩, l, e⟩ := LI_k (ok384 (β := β)) (by decide +kernel) (by decide +kernel) (by decide +kernel) (vs := [vR 76, vI 5, vI 5, vI b]) ⟨_, _, rfl, rfl, _, _, rfl, rfl, _, _, rfl, rfl, _, _, rfl, ⟨b, rfl, hb⟩, rfl⟩ hL
    exact ⟨z, h', l, e⟩
  by_cases d6 : q = 6
  · subst d6
    obtain ⟨r, h', ⟨v, rfl, z, rfl, -⟩, l, e⟩ := LI_k (ok385 (β := β)) (by decide +kernel) (by decide +kernel) (by decide +kernel) (vs := [vR 76, vI 5, vI 6, vI b]) ⟨_, _, rfl, rfl, _, _, rfl, rfl, _, _, rfl, rfl, _, _, rfl, ⟨b, rfl, hb⟩, rfl⟩ hL
    exact ⟨z, h', l, e⟩
  by_cases d7 : q = 7
  · subst d7
    obtain ⟨r, h', ⟨v, rfl, z, rfl, -⟩, l, e⟩ := LI_k (ok386 (β := β)) (by decide +kernel) (by decide +kernel) (by decide +kernel) (vs := [vR 76, vI 5, vI 7, vI b]) ⟨_, _, rfl, rfl, _, _, rfl, rfl, _, _, rfl, rfl, _, _, rfl, ⟨b, rfl, hb⟩, rfl⟩ hL
    exact ⟨z, h', l, e⟩
  by_cases d8 : q = 8
  · subst d8
    obtain ⟨r, h', ⟨v, rfl, z, rfl, -⟩, l, e⟩ := LI_k (ok387 (β := β)) (by decide +kernel) (by decide +kernel) (by decide +kernel) (vs := [vR 76, vI 5, vI 8, vI b]) ⟨_, _, rfl, rfl, _, _, rfl, rfl, _, _, rfl, rfl, _, _, rfl, ⟨b, rfl, hb⟩, rfl⟩ hL
    exact ⟨z, h', l, e⟩
  have d9 : q = 9 := by omega
  subst d9
  obtain ⟨r, h', ⟨v, rfl, z, rfl, -⟩, l, e⟩ := LI_k (ok388 (β := β)) (by decide +kernel) (by decide +kernel) (by decide +kernel) (vs := [vR 76, vI 5, vI 9, vI b]) ⟨_, _, rfl, rfl, _, _, rfl, rfl, _, _, rfl, rfl, _, _, rfl, ⟨b, rfl, hb⟩, rfl⟩ hL
  exact ⟨z, h', l, e⟩
set_option maxHeartbeats 4000000 in
theorem LI_ca6 {β L : Nat} {xs : Nat → Int} {h : AH} {q b : Int} (hq : -2147483648 ≤ q ∧ q ≤ 2147483647) (hb : 0 ≤ b ∧ b ≤ 1) (hL : LI β L xs h) : ∃ (z : Int) (h' : AH), (LI β L xs h' ∧ FL h h') ∧ ∀ Q : Option AV → AH → Prop, XC 1000 280 [vR 76, vI 6, vI q, vI b] h Q = Q (some (vL z)) h' := by
  by_cases c0 : q ≤ -1
  · obtain ⟨r, h', ⟨v, rfl, z, rfl, -⟩, l, e⟩ := LI_k (ok401 (β := β)) (by decide +kernel) (by decide +kernel) (by decide +kernel) (vs := [vR 76, vI 6, vI q, vI b]) ⟨_, _, rfl, rfl, _, _, rfl, rfl, _, _, rfl, ⟨q, rfl, hq.1, c0⟩, _, _, rfl, ⟨b, rfl, hb⟩, rfl⟩ hL
    exact ⟨z, h', l, e⟩
  by_cases c10 : 10 ≤ q
  · obtain ⟨r, h', ⟨v, rfl, z, rfl, -⟩, l, e⟩ := LI_k (ok402 (β := β)) (by decide +kernel) (by decide +kernel) (by decide +kernel) (vs := [vR 76, vI 6, vI q, vI b]) ⟨_, _, rfl, rfl, _, _, rfl, rfl, _, _, rfl, ⟨q, rfl, c10, hq.2⟩, _, _, rfl, ⟨b, rfl, hb⟩, rfl⟩ hL
    exact ⟨z, h', l, e⟩
  by_cases d0 : q = 0
  · subst d0
    obtain ⟨r, h', ⟨v, rfl, z, rfl, -⟩, l, e⟩ := LI_k (ok391 (β := β)) (by decide +kernel) (by decide +kernel) (by decide +kernel) (vs := [vR 76, vI 6, vI 0, vI b]) ⟨_, _, rfl, rfl, _, _, rfl, rfl, _, _, rfl, rfl, _, _, rfl, ⟨b, rfl, hb⟩, rfl⟩ hL
    exact ⟨z, h', l, e⟩
  by_cases d1 : q = 1
  · subst d1
    obtain ⟨r, h', ⟨v, rfl, z, rfl, -⟩, l, e⟩ := LI_k (ok392 (β := β)) (by decide +kernel) (by decide +kernel) (by decide +kernel) (vs := [vR 76, vI 6, vI 1, vI b]) ⟨_, _, rfl, rfl, _, _, rfl, rfl, _, _, rfl, rfl, _, _, rfl, ⟨b, rfl, hb⟩, rfl⟩ hL
    exact ⟨z, h', l, e⟩
  by_cases d2 : q = 2
  · subst d2
    obtain ⟨r, h', ⟨v, rfl, z, rfl, -⟩, l, e⟩ := LI_k (ok393 (β := β)) (by decide +kernel) (by decide +kernel) (by decide +kernel) (vs := [vR 76, vI 6, vI 2, vI b]) ⟨_, _, rfl, rfl, _, _, rfl, rfl, _, _, rfl, rfl, _, _, rfl, ⟨b, rfl, hb⟩, rfl⟩ hL
    exact ⟨z, h', l, e⟩
  by_cases d3 : q = 3
  · subst d3
    obtain ⟨r, h', ⟨v, rfl, z, rfl, -⟩, l, e⟩ := LI_k (ok394 (β := β)) (by decide +kernel) (by decide +kernel) (by decide +kernel) (vs := [vR 76, vI 6, vI 3, vI b]) ⟨_, _, rfl, rfl, _, _, rfl, rfl, _, _, rfl, rfl, _, _, rfl, ⟨b, rfl, hb⟩, rfl⟩ hL
    exact ⟨z, h', l, e⟩
  by_cases d4 : q = 4
  · subst d4
    obtain ⟨r, h', ⟨v, rfl, z, rfl, -⟩, l, e⟩ := LI_k (ok395 (β := β)) (by decide +kernel) (by decide +kernel) (by decide +kernel) (vs := [vR 76, vI 6, vI 4, vI b]) ⟨_, _, rfl, rfl, _, _, rfl, rfl, _, _, rfl, rfl, _, _, rfl, ⟨b, rfl, hb⟩, rfl⟩ hL
    exact ⟨z, h', l, e⟩
  by_cases d5 : q = 5
  · subst d5
    obtain ⟨r, h', ⟨v, rfl, z, rfl, -⟩, l, e⟩ := LI_k (ok396 (β := β)) (by decide +kernel) (by decide +kernel) (by decide +kernel) (vs := [vR 76, vI 6, vI 5, vI b]) ⟨_, _, rfl, rfl, _, _, rfl, rfl, _, _, rfl, rfl, _, _, rfl, ⟨b, rfl, hb⟩, rfl⟩ hL
    exact ⟨z, h', l, e⟩
  by_cases d6 : q = 6
  · subst d6
    obtain ⟨r, h', ⟨v, rfl, z, rfl, -⟩, l, e⟩ := LI_k (ok397 (β := β)) (by decide +kernel) (by decide +kernel) (by decide +kernel) (vs := [vR 76, vI 6, vI 6, vI b]) ⟨_, _, rfl, rfl, _, _, rfl, rfl, _, _, rfl, rfl, _, _, rfl, ⟨b, rfl, hb⟩, rfl⟩ hL
    exact ⟨z, h', l, e⟩
  by_cases d7 : q = 7
  · subst d7
    obtain ⟨r, h', ⟨v, rfl, z, rfl, -⟩, l, e⟩ := LI_k (ok398 (β := β)) (by decide +kernel) (by decide +kernel) (by decide +kernel) (vs := [vR 76, vI 6, vI 7, vI b]) ⟨_, _, rfl, rfl, _, _, rfl, rfl, _, _, rfl, rfl, _, _, rfl, ⟨b, rfl, hb⟩, rfl⟩ hL
    exact ⟨z, h', l, e⟩
  by_cases d8 : q = 8
  · subst d8
    obtain ⟨r, h', ⟨v, rfl, z, rfl, -⟩, l, e⟩ := LI_k (ok399 (β := β)) (by decide +kernel) (by decide +kernel) (by decide +kernel) (vs := [vR 76, vI 6, vI 8, vI b]) ⟨_, _, rfl, rfl, _, _, rfl, rfl, _, _, rfl, rfl, _, _, rfl, ⟨b, rfl, hb⟩, rfl⟩ hL
    exact ⟨z, h', l, e⟩
  have d9 : q = 9 := by omega
  subst d9
  obtain ⟨r, h', ⟨v, rfl, z, rfl, -⟩, l, e⟩ := LI_k (ok400 (β := β)) (by decide +kernel) (by decide +kernel) (by decide +kernel) (vs := [vR 76, vI 6, vI 9, vI b]) ⟨_, _, rfl, rfl, _, _, rfl, rfl, _, _, rfl, rfl, _, _, rfl, ⟨b, rfl, hb⟩, rfl⟩ hL
  exact ⟨z, h', l, e⟩
set_option maxHeartbeats 4000000 in
theorem LI_ca7 {β L : Nat} {xs : Nat → Int} {h : AH} {q b : Int} (hq : -2147483648 ≤ q ∧ q ≤ 2147483647) (hb : 0 ≤ b ∧ b ≤ 1) (hL : LI β L xs h) : ∃ (z : Int) (h' : AH), (LI β L xs h' ∧ FL h h') ∧ ∀ Q : Option AV → AH → Prop, XC 1000 280 [vR 76, vI 7, vI q, vI b] h Q = Q (some (vL z)) h' := by
  by_cases c0 : q ≤ -1
  · obtain ⟨r, h', ⟨v, rfl, z, rfl, -⟩, l, e⟩ := LI_k (ok413 (β := β)) (by decide +kernel) (by decide +kernel) (by decide +kernel) (vs := [vR 76, vI 7, vI q, vI b]) ⟨_, _, rfl, rfl, _, _, rfl, rfl, _, _, rfl, ⟨q, rfl, hq.1, c0⟩, _, _, rfl, ⟨b, rfl, hb⟩, rfl⟩ hL
    exact ⟨z, h', l, e⟩
  by_cases c10 : 10 ≤ q
  · obtain ⟨r, h', ⟨v, rfl, z, rfl, -⟩, l, e⟩ := LI_k (ok414 (β := β)) (by decide +kernel) (by decide +kernel) (by decide +kernel) (vs := [vR 76, vI 7, vI q, vI b]) ⟨_, _, rfl, rfl, _, _, rfl, rfl, _, _, rfl, ⟨q, rfl, c10, hq.2⟩, _, _, rfl, ⟨b, rfl, hb⟩, rfl⟩ hL
    exact ⟨z, h', l, e⟩
  by_cases d0 : q = 0
  · subst d0
    obtain ⟨r, h', ⟨v, rfl, z, rfl, -⟩, l, e⟩ := LI_k (ok403 (β := β)) (by decide +kernel) (by decide +kernel) (by decide +kernel) (vs := [vR 76, vI 7, vI 0, vI b]) ⟨_, _, rfl, rfl, _, _, rfl, rfl, _, _, rfl, rfl, _, _, rfl, ⟨b, rfl, hb⟩, rfl⟩ hL
    exact ⟨z, h', l, e⟩
  by_cases d1 : q = 1
  · subst d1
    obtain ⟨r, h', ⟨v, rfl, z, rfl, -⟩, l, e⟩ := LI_k (ok404 (β := β)) (by decide +kernel) (by decide +kernel) (by decide +kernel) (vs := [vR 76, vI 7, vI 1, vI b]) ⟨_, _, rfl, rfl, _, _, rfl, rfl, _, _, rfl, rfl, _, _, rfl, ⟨b, rfl, hb⟩, rfl⟩ hL
    exact ⟨z, h', l, e⟩
  by_cases d2 : q = 2
  · subst d2
    obtain ⟨r, h', ⟨v, rfl, z, rfl, -⟩, l, e⟩ := LI_k (ok405 (β := β)) (by decide +kernel) (by decide +kernel) (by decide +kernel) (vs := [vR 76, vI 7, vI 2, vI b]) ⟨_, _, rfl, rfl, _, _, rfl, rfl, _, _, rfl, rfl, _, _, rfl, ⟨b, rfl, hb⟩, rfl⟩ hL
    exact ⟨z, h', l, e⟩
  by_cases d3 : q = 3
  · subst d3
    obtain ⟨r, h', ⟨v, rfl, z, rfl, -⟩, l, e⟩ := LI_k (ok406 (β := β)) (by decide +kernel) (by decide +kernel) (by decide +kernel) (vs := [vR 76, vI 7, vI 3, vI b]) ⟨_, _, rfl, rfl, _, _, rfl, rfl, _, _, rfl, rfl, _, _, rfl, ⟨b, rfl, hb⟩, rfl⟩ hL
    exact ⟨z, h', l, e⟩
  by_cases d4 : q = 4
  · subst d4
    obtain ⟨r, h', ⟨v, rfl, z, rfl, -⟩, l, e⟩ := LI_k (ok407 (β := β)) (by decide +kernel) (by decide +kernel) (by decide +kernel) (vs := [vR 76, vI 7, vI 4, vI b]) ⟨_, _, rfl, rfl, _, _, rfl, rfl, _, _, rfl, rfl, _, _, rfl, ⟨b, rfl, hb⟩, rfl⟩ hL
    exact ⟨z, h', l, e⟩
  by_cases d5 : q = 5
  · subst d5
    obtain ⟨r, h', ⟨v, rfl, z, rfl, -⟩, l, e⟩ := LI_k (ok408 (β := β)) (by decide +kernel) (by decide +kernel) (by decide +kernel) (vs := [vR 76, vI 7, vI 5, vI b]) ⟨_, _, rfl, rfl, _, _, rfl, rfl, _, _, rfl, rfl, _, _, rfl, ⟨b, rfl, hb⟩, rfl⟩ hL
    exact ⟨z, h', l, e⟩
  by_cases d6 : q = 6
  · subst d6
    obtain ⟨r, h', ⟨v, rfl, z, rfl, -⟩, l, e⟩ := LI_k (ok409 (β := β)) (by decide +kernel) (by decide +kernel) (by decide +kernel) (vs := [vR 76, vI 7, vI 6, vI b]) ⟨_, _, rfl, rfl, _, _, rfl, rfl, _, _, rfl, rfl, _, _, rfl, ⟨b, rfl, hb⟩, rfl⟩ hL
    exact ⟨z, h', l, e⟩
  by_cases d7 : q = 7
  · subst d7
    obtain ⟨r, h', ⟨v, rfl, z, rfl, -⟩, l, e⟩ := LI_k (ok410 (β := β)) (by decide +kernel) (by decide +kernel) (by decide +kernel) (vs := [vR 76, vI 7, vI 7, vI b]) ⟨_, _, rfl, rfl, _, _, rfl, rfl, _, _, rfl, rfl, _, _, rfl, ⟨b, rfl, hb⟩, rfl⟩ hL
    exact ⟨z, h', l, e⟩
  by_cases d8 : q = 8
  · subst d8
    obtain ⟨r, h', ⟨v, rfl, z, rfl, -⟩, l, e⟩ := LI_k (ok411 (β := β)) (by decide +kernel) (by decide +kernel) (by decide +kernel) (vs := [vR 76, vI 7, vI 8, vI b]) ⟨_, _, rfl, rfl, _, _, rfl, rfl, _, _, rfl, rfl, _, _, rfl, ⟨b, rfl, hb⟩, rfl⟩ hL
    exact ⟨z, h', l, e⟩
  have d9 : q = 9 := by omega
  subst d9
  obtain ⟨r, h', ⟨v, rfl, z, rfl, -⟩, l, e⟩ := LI_k (ok412 (β := β)) (by decide +kernel) (by decide +kernel) (by decide +kernel) (vs := [vR 76, vI 7, vI 9, vI b]) ⟨_, _, rfl, rfl, _, _, rfl, rfl, _, _, rfl, rfl, _, _, rfl, ⟨b, rfl, hb⟩, rfl⟩ hL
  exact ⟨z, h', l, e⟩
set_option maxHeartbeats 4000000 in
theorem LI_ca8 {β L : Nat} {xs : Nat → Int} {h : AH} {q b : Int} (hq : -2147483648 ≤ q ∧ q ≤ 2147483647) (hb : 0 ≤ b ∧ b ≤ 1) (hL : LI β L xs h) : ∃ (z : Int) (h' : AH), (LI β L xs h' ∧ FL h h') ∧ ∀ Q : Option AV → AH → Prop, XC 1000 280 [vR 76, vI 8, vI q, vI b] h Q = Q (some (vL z)) h' := by
  by_cases c0 : q ≤ -1
  · obtain ⟨r, h', ⟨v, rfl, z, rfl, -⟩, l, e⟩ := LI_k (ok425 (β := β)) (by decide +kernel) (by decide +kernel) (by decide +kernel) (vs := [vR 76, vI 8, vI q, vI b]) ⟨_, _, rfl, rfl, _, _, rfl, rfl, _, _, rfl, ⟨q, rfl, hq.1, c0⟩, _, _, rfl, ⟨b, rfl, hb⟩, rfl⟩ hL
    exact ⟨z, h', l, e⟩
  by_cases c10 : 10 ≤ q
  · obtain ⟨r, h', ⟨v, rfl, z, rfl, -⟩, l, e⟩ := LI_k (ok426 (β := β)) (by decide +kernel) (by decide +kernel) (by decide +kernel) (vs := [vR 76, vI 8, vI q, vI b]) ⟨_, _, rfl, rfl, _, _, rfl, rfl, _, _, rfl, ⟨q, rfl, c10, hq.2⟩, _, _, rfl, ⟨b, rfl, hb⟩, rfl⟩ hL
    exact ⟨z, h', l, e⟩
  by_cases d0 : q = 0
  · subst d0
    obtain ⟨r, h', ⟨v, rfl, z, rfl, -⟩, l, e⟩ := LI_k (ok415 (β := β)) (by decide +kernel) (by decide +kernel) (by decide +kernel) (vs := [vR 76, vI 8, vI 0, vI b]) ⟨_, _, rfl, rfl, _, _, rfl, rfl, _, _, rfl, rfl, _, _, rfl, ⟨b, rfl, hb⟩, rfl⟩ hL
    exact ⟨z, h', l, e⟩
  by_cases d1 : q = 1
  · subst d1
    obtain ⟨r, h', ⟨v, rfl, z, rfl, -⟩, l, e⟩ := LI_k (ok416 (β := β)) (by decide +kernel) (by decide +kernel) (by decide +kernel) (vs := [vR 76, vI 8, vI 1, vI b]) ⟨_, _, rfl, rfl, _, _, rfl, rfl, _, _, rfl, rfl, _, _, rfl, ⟨b, rfl, hb⟩, rfl⟩ hL
    exact ⟨z, h', l, e⟩
  by_cases d2 : q = 2
  · subst d2
    obtain ⟨r, h', ⟨v, rfl, z, rfl, -⟩, l, e⟩ := LI_k (ok417 (β := β)) (by decide +kernel) (by decide +kernel) (by decide +kernel) (vs := [vR 76, vI 8, vI 2, vI b]) ⟨_, _, rfl, rfl, _, _, rfl, rfl, _, _, rfl, rfl, _, _, rfl, ⟨b, rfl, hb⟩, rfl⟩ hL
    exact ⟨z, h', l, e⟩
  by_cases d3 : q = 3
  · subst d3
    obtain ⟨r, h', ⟨v, rfl, z, rfl, -⟩, l, e⟩ := LI_k (ok418 (β := β)) (by decide +kernel) (by decide +kernel) (by decide +kernel) (vs := [vR 76, vI 8, vI 3, vI b]) ⟨_, _, rfl, rfl, _, _, rfl, rfl, _, _, rfl, rfl, _, _, rfl, ⟨b, rfl, hb⟩, rfl⟩ hL
    exact ⟨z, h', l, e⟩
  by_cases d4 : q = 4
  · subst d4
    obtain ⟨r, h', ⟨v, rfl, z, rfl, -⟩, l, e⟩ := LI_k (ok419 (β := β)) (by decide +kernel) (by decide +kernel) (by decide +kernel) (vs := [vR 76, vI 8, vI 4, vI b]) ⟨_, _, rfl, rfl, _, _, rfl, rfl, _, _, rfl, rfl, _, _, rfl, ⟨b, rfl, hb⟩, rfl⟩ hL
    exact ⟨z, h', l, e⟩
  by_cases d5 : q = 5
  · subst d5
    obtain ⟨r, h', ⟨v, rfl, z, rfl, -⟩, l, e⟩ := LI_k (ok420 (β := β)) (by decide +kernel) (by decide +kernel) (by decide +kernel) (vs := [vR 76, vI 8, vI 5, vI b]) ⟨_, _, rfl, rfl, _, _, rfl, rfl, _, _, rfl, rfl, _, _, rfl, ⟨b, rfl, hb⟩, rfl⟩ hL
    exact ⟨z, h', l, e⟩
  by_cases d6 : q = 6
  · subst d6
    obtain ⟨r, h', ⟨v, rfl, z, rfl, -⟩, l, e⟩ := LI_k (ok421 (β := β)) (by decide +kernel) (by decide +kernel) (by decide +kernel) (vs := [vR 76, vI 8, vI 6, vI b]) ⟨_, _, rfl, rfl, _, _, rfl, rfl, _, _, rfl, rfl, _, _, rfl, ⟨b, rfl, hb⟩, rfl⟩ hL
    exact ⟨z, h', l, e⟩
  by_cases d7 : q = 7
  · subst d7
    obtain ⟨r, h', ⟨v, rfl, z, rfl, -⟩, l, e⟩ := LI_k (ok422 (β := β)) (by decide +kernel) (by decide +kernel) (by decide +kernel) (vs := [vR 76, vI 8, vI 7, vI b]) ⟨_, _, rfl, rfl, _, _, rfl, rfl, _, _, rfl, rfl, _, _, rfl, ⟨b, rfl, hb⟩, rfl⟩ hL
    exact ⟨z, h', l, e⟩
  by_cases d8 : q = 8
  · subst d8
    obtain ⟨r, h', ⟨v, rfl, z, rfl, -⟩, l, e⟩ := LI_k (ok423 (β := β)) (by decide +kernel) (by decide +kernel) (by decide +kernel) (vs := [vR 76, vI 8, vI 8, vI b]) ⟨_, _, rfl, rfl, _, _, rfl, rfl, _, _, rfl, rfl, _, _, rfl, ⟨b, rfl, hb⟩, rfl⟩ hL
    exact ⟨z, h', l, e⟩
  have d9 : q = 9 := by omega
  subst d9
  obtain ⟨r, h', ⟨v, rfl, z, rfl, -⟩, l, e⟩ := LI_k (ok424 (β := β)) (by decide +kernel) (by decide +kernel) (by decide +kernel) (vs := [vR 76, vI 8, vI 9, vI b]) ⟨_, _, rfl, rfl, _, _, rfl, rfl, _, _, rfl, rfl, _, _, rfl, ⟨b, rfl, hb⟩, rfl⟩ hL
  exact ⟨z, h', l, e⟩
set_option maxHeartbeats 4000000 in
theorem LI_ca9 {β L : Nat} {xs : Nat → Int} {h : AH} {q b : Int} (hq : -2147483648 ≤ q ∧ q ≤ 2147483647) (hb : 0 ≤ b ∧ b ≤ 1) (hL : LI β L xs h) : ∃ (z : Int) (h' : AH), (LI β L xs h' ∧ FL h h') ∧ ∀ Q : Option AV → AH → Prop, XC 1000 280 [vR 76, vI 9, vI q, vI b] h Q = Q (some (vL z)) h' := by
  by_cases c0 : q ≤ -1
  · obtain ⟨r, h', ⟨v, rfl, z, rfl, -⟩, l, e⟩ := LI_k (ok437 (β := β)) (by decide +kernel) (by decide +kernel) (by decide +kernel) (vs := [vR 76, vI 9, vI q, vI b]) ⟨_, _, rfl, rfl, _, _, rfl, rfl, _, _, rfl, ⟨q, rfl, hq.1, c0⟩, _, _, rfl, ⟨b, rfl, hb⟩, rfl⟩ hL
    exact ⟨z, h', l, e⟩
  by_cases c10 : 10 ≤ q
  · obtain ⟨r, h', ⟨v, rfl, z, rfl, -⟩, l, e⟩ := LI_k (ok438 (β := β)) (by decide +kernel) (by decide +kernel) (by decide +kernel) (vs := [vR 76, vI 9, vI q, vI b]) ⟨_, _, rfl, rfl, _, _, rfl, rfl, _, _, rfl, ⟨q, rfl, c10, hq.2⟩, _, _, rfl, ⟨b, rfl, hb⟩, rfl⟩ hL
    exact ⟨z, h', l, e⟩
  by_cases d0 : q = 0
  · subst d0
    obtain ⟨r, h', ⟨v, rfl, z, rfl, -⟩, l, e⟩ := LI_k (ok427 (β := β)) (by decide +kernel) (by decide +kernel) (by decide +kernel) (vs := [vR 76, vI 9, vI 0, vI b]) ⟨_, _, rfl, rfl, _, _, rfl, rfl, _, _, rfl, rfl, _, _, rfl, ⟨b, rfl, hb⟩, rfl⟩ hL
    exact ⟨z, h', l, e⟩
  by_cases d1 : q = 1
  · subst d1
    obtain ⟨r, h', ⟨v, rfl, z, rfl, -⟩, l, e⟩ := LI_k (ok428 (β := β)) (by decide +kernel) (by decide +kernel) (by decide +kernel) (vs := [vR 76, vI 9, vI 1, vI b]) ⟨_, _, rfl, rfl, _, _, rfl, rfl, _, _, rfl, rfl, _, _, rfl, ⟨b, rfl, hb⟩, rfl⟩ hL
    exact ⟨z, h', l, e⟩
  by_cases d2 : q = 2
  · subst d2
    obtain ⟨r, h', ⟨v, rfl, z, rfl, -⟩, l, e⟩ := LI_k (ok429 (β := β)) (by decide +kernel) (by decide +kernel) (by decide +kernel) (vs := [vR 76, vI 9, vI 2, vI b]) ⟨_, _, rfl, rfl, _, _, rfl, rfl, _, _, rfl, rfl, _, _, rfl, ⟨b, rfl, hb⟩, rfl⟩ hL
    exact ⟨z, h', l, e⟩
  by_cases d3 : q = 3
  · subst d3
    obtain ⟨r, h', ⟨v, rfl, z, rfl, -⟩, l, e⟩ := LI_k (ok430 (β := β)) (by decide +kernel) (by decide +kernel) (by decide +kernel) (vs := [vR 76, vI 9, vI 3, vI b]) ⟨_, _, rfl, rfl, _, _, rfl, rfl, _, _, rfl, rfl, _, _, rfl, ⟨b, rfl, hb⟩, rfl⟩ hL
    exact ⟨z, h', l, e⟩
  by_cases d4 : q = 4
  · subst d4
    obtain ⟨r, h', ⟨v, rfl, z, rfl, -⟩, l, e⟩ := LI_k (ok431 (β := β)) (by decide +kernel) (by decide +kernel) (by decide +kernel) (vs := [vR 76, vI 9, vI 4, vI b]) ⟨_, _, rfl, rfl, _, _, rfl, rfl, _, _, rfl, rfl, _, _, rfl, ⟨b, rfl, hb⟩, rfl⟩ hL
    exact ⟨z, h', l, e⟩
  by_cases d5 : q = 5
  · subst d5
    obtain ⟨r, h', ⟨v, rfl, z, rfl, -⟩, l, e⟩ := LI_k (ok432 (β := β)) (by decide +kernel) (by decide +kernel) (by decide +kernel) (vs := [vR 76, vI 9, vI 5, vI b]) ⟨_, _, rfl, rfl, _, _, rfl, rfl, _, _, rfl, rfl, _, _, rfl, ⟨b, rfl, hb⟩, rfl⟩ hL
    exact ⟨z, h', l, e⟩
  by_cases d6 : q = 6
  · subst d6
    obtain ⟨r, h', ⟨v, rfl, z, rfl, -⟩, l, e⟩ := LI_k (ok433 (β := β)) (by decide +kernel) (by decide +kernel) (by decide +kernel) (vs := [vR 76, vI 9, vI 6, vI b]) ⟨_, _, rfl, rfl, _, _, rfl, rfl, _, _, rfl, rfl, _, _, rfl, ⟨b, rfl, hb⟩, rfl⟩ hL
    exact ⟨z, h', l, e⟩
  by_cases d7 : q = 7
  · subst d7
    obtain ⟨r, h', ⟨v, rfl, z, rfl, -⟩, l, e⟩ := LI_k (ok434 (β := β)) (by decide +kernel) (by decide +kernel) (by decide +kernel) (vs := [vR 76, vI 9, vI 7, vI b]) ⟨_, _, rfl, rfl, _, _, rfl, rfl, _, _, rfl, rfl, _, _, rfl, ⟨b, rfl, hb⟩, rfl⟩ hL
    exact ⟨z, h', l, e⟩
  by_cases d8 : q = 8
  · subst d8
    obtain ⟨r, h', ⟨v, rfl, z, rfl, -⟩, l, e⟩ := LI_k (ok435 (β := β)) (by decide +kernel) (by decide +kernel) (by decide +kernel) (vs := [vR 76, vI 9, vI 8, vI b]) ⟨_, _, rfl, rfl, _, _, rfl, rfl, _, _, rfl, rfl, _, _, rfl, ⟨b, rfl, hb⟩, rfl⟩ hL
    exact ⟨z, h', l, e⟩
  have d9 : q = 9 := by omega
  subst d9
  obtain ⟨r, h', ⟨v, rfl, z, rfl, -⟩, l, e⟩ := LI_k (ok436 (β := β)) (by decide +kernel) (by decide +kernel) (by decide +kernel) (vs := [vR 76, vI 9, vI 9, vI b]) ⟨_, _, rfl, rfl, _, _, rfl, rfl, _, _, rfl, rfl, _, _, rfl, ⟨b, rfl, hb⟩, rfl⟩ hL
  exact ⟨z, h', l, e⟩
set_option maxHeartbeats 4000000 in
theorem LI_ca {β L : Nat} {xs : Nat → Int} {h : AH} {n q b : Int} (hn : -2147483648 ≤ n ∧ n ≤ 2147483647) (hq : -2147483648 ≤ q ∧ q ≤ 2147483647) (hb : 0 ≤ b ∧ b ≤ 1) (hL : LI β L xs h) : ∃ (z : Int) (h' : AH), (LI β L xs h' ∧ FL h h') ∧ ∀ Q : Option AV → AH → Prop, XC 1000 280 [vR 76, vI n, vI q, vI b] h Q = Q (some (vL z)) h' := by
  by_cases c0 : n ≤ 0
  · obtain ⟨r, h', ⟨v, rfl, z, rfl, -⟩, l, e⟩ := LI_k (ok439 (β := β)) (by decide +kernel) (by decide +kernel) (by decide +kernel) (vs := [vR 76, vI n, vI q, vI b]) ⟨_, _, rfl, rfl, _, _, rfl, ⟨n, rfl, hn.1, c0⟩, _, _, rfl, ⟨q, rfl, hq⟩, _, _, rfl, ⟨b, rfl, hb⟩, rfl⟩ hL
    exact ⟨z, h', l, e⟩
  by_cases c10 : 10 ≤ n
  · obtain ⟨r, h', ⟨v, rfl, z, rfl, -⟩, l, e⟩ := LI_k (ok440 (β := β)) (by decide +kernel) (by decide +kernel) (by decide +kernel) (vs := [vR 76, vI n, vI q, vI b]) ⟨_, _, rfl, rfl, _, _, rfl, ⟨n, rfl, c10, hn.2⟩, _, _, rfl, ⟨q, rfl, hq⟩, _, _, rfl, ⟨b, rfl, hb⟩, rfl⟩ hL
    exact ⟨z, h', l, e⟩
  by_cases c1 : n = 1
  · subst c1; exact LI_ca1 hq hb hL
  by_cases c2 : n = 2
  · subst c2; exact LI_ca2 hq hb hL
  by_cases c3 : n = 3
  · subst c3; exact LI_ca3 hq hb hL
  by_cases c4 : n = 4
  · subst c4; exact LI_ca4 hq hb hL
  by_cases c5 : n = 5
  · subst c5; exact LI_ca5 hq hb hL
  by_cases c6 : n = 6
  · subst c6; exact LI_ca6 hq hb hL
  by_cases c7 : n = 7
  · subst c7; exact LI_ca7 hq hb hL
  by_cases c8 : n = 8
  · subst c8; exact LI_ca8 hq hb hL
  have c9 : n = 9 := by omega
  subst c9; exact LI_ca9 hq hb hL
def sixF (n : Int) : Nat × Nat × SAV := (77, 3, .inr (false, n, n))
def okN (n : Int) (c : KT) : Bool := c.2.2.2.2.1.all (fun f => tenB f || decide (f = sixF n)) && (c.2.2.2.2.2.1.any tenB && c.2.2.2.2.2.1.any (fun f => decide (f = sixF n)))
def exB7 (md : List (Nat × Nat × Nat)) : Bool := (flR.drop 1).all fun q => md.all fun m => !(Nat.beq m.1 q.1) || (Nat.ble (m.2.2 + 1) q.2.1 || Nat.ble (q.2.2 + 1) m.2.1)
theorem FL_of7 {W : AH → Prop} {md : List (Nat × Nat × Nat)} {h h' : AH} (hx : exB7 md = true) (hF : n_F W md h h') (h6 : hV h' 77 3 = hV h 77 3) : FL h h' := by
  intro q hq i i1 i2
  rcases List.mem_cons.mp hq with rfl | hq
  · have i1 : 3 ≤ i := i1
    have i2 : i ≤ 3 := i2
    obtain rfl : i = 3 := by omega
    exact h6
  refine hF.2 q.1 i ?_
  rintro ⟨m, m1, m2, m3, m4⟩
  unfold exB7 at hx
  rw [List.all_eq_true] at hx
  have h1 := hx q hq
  rw [List.all_eq_true] at h1
  have h2 := h1 m m1
  rw [show Nat.beq m.1 q.1 = true from Nat.beq_eq.mpr m2] at h2
  rw [Bool.not_true, Bool.false_or, Bool.or_eq_true] at h2
  rcases h2 with h2 | h2
  · have := Nat.le_of_ble_eq_true h2; omega
  · have := Nat.le_of_ble_eq_true h2; omega
theorem LI_kn {β L M : Nat} {xs : Nat → Int} {c : KT} {vs : List AV} {h : AH} {n : Int} (hc : KOK JB (W0 β) M c) (hd : Nat.ble c.2.2.2.2.2.2.2 1000 = true) (hp : okN n c = true) (hx : exB7 c.2.2.1 = true) (ha : sa_S c.1 vs) (hL : LI β L xs h) (h6 : hV h 77 3 = vI n) : ∃ r h', sa_O c.2.1 r ∧ (LI β L xs h' ∧ FL h h') ∧ ∀ Q : Option AV → AH → Prop, XC 1000 M vs h Q = Q r h' := by
  obtain ⟨l1, l2, l3, l4⟩ := hL
  unfold okN at hp
  rw [Bool.and_eq_true, List.all_eq_true, Bool.and_eq_true] at hp
  obtain ⟨hp1, hp2, hp3⟩ := hp
  have pre : k_F c.2.2.2.2.1 h := fun f hf => by
    have e0 := hp1 f hf
    rw [Bool.or_eq_true] at e0
    rcases e0 with e0 | e0
    · have e := of_decide_eq_true e0
      rw [e]; exact l3
    · have e := of_decide_eq_true e0
      rw [e]; exact ⟨n, h6, Int.le_refl _, Int.le_refl _⟩
  have q0 : XC (999 + 1) M vs h (fun r h' => sa_O c.2.1 r ∧ k_H JB h' ∧ W0 β h' ∧ inRg (false, 0, 9999) (hV h' 77 16) ∧ FL h h') := by
    refine hc 1000 vs h _ (Nat.le_of_ble_eq_true hd) ha l1 l2 pre (fun r h' hr hJ' hpo _ hF => ?_)
    have g16 : inRg (false, 0, 9999) (hV h' 77 16) := by
      rw [List.any_eq_true] at hp2
      obtain ⟨f, hf, z⟩ := hp2
      have e := of_decide_eq_true z
      have := hpo f hf
      rw [e] at this
      exact this
    have g6 : inRg (false, n, n) (hV h' 77 3) := by
      rw [List.any_eq_true] at hp3
      obtain ⟨f, hf, z⟩ := hp3
      have e := of_decide_eq_true z
      have := hpo f hf
      rw [e] at this
      exact this
    obtain ⟨x, x1, x2, x3⟩ := g6
    have x2 : n ≤ x := x2
    have x3 : x ≤ n := x3
    have x1 : hV h' 77 3 = vI x := x1
    have e6 : hV h' 77 3 = hV h 77 3 := by rw [h6, x1, Int.le_antisymm x3 x2]
    exact ⟨hr, hJ', hF.1.2, g16, FL_of7 hx hF e6⟩
  obtain ⟨r, h', ⟨⟨q1, q2, q3, q4, q6⟩, q5⟩, e⟩ := XC_out l4 q0
  exact ⟨r, h', q1, ⟨⟨q2, q3, q4, q5⟩, q6⟩, e⟩
set_option maxHeartbeats 4000000 in
theorem LI_v273 {β L : Nat} {xs : Nat → Int} {h : AH} {a b c : Int} (ha : -2147483648 ≤ a ∧ a ≤ 2147483647) (hb : 0 ≤ b ∧ b ≤ 1) (hc : -2147483648 ≤ c ∧ c ≤ 2147483647) (hL : LI β L xs h) : ∃ (z : Int) (h' : AH), (LI β L xs h' ∧ FL h h') ∧ ∀ Q : Option AV → AH → Prop, XC 1000 273 [vR 76, vI a, vI b, vI c] h Q = Q (some (vI z)) h' := by
  obtain ⟨e6, n0, n8⟩ := I_77_3 hL.1
  have y : fI h 77 3 = 0 ∨ fI h 77 3 = 1 ∨ fI h 77 3 = 2 ∨ fI h 77 3 = 3 ∨ fI h 77 3 = 4 := by omega
  rcases y with y | y | y | y | y
  · obtain ⟨r, h', ⟨v, rfl, z, rfl, -⟩, l, e⟩ := LI_kn (n := 0) (okv273_0 (β := β)) (by decide +kernel) (by decide +kernel) (by decide +kernel) (vs := [vR 76, vI a, vI b, vI c]) ⟨_, _, rfl, rfl, _, _, rfl, ⟨_, rfl, ha⟩, _, _, rfl, ⟨_, rfl, hb⟩, _, _, rfl, ⟨_, rfl, hc⟩, rfl⟩ hL (e6.trans (congrArg vI y))
    exact ⟨z, h', l, e⟩
  · obtain ⟨r, h', ⟨v, rfl, z, rfl, -⟩, l, e⟩ := LI_kn (n := 1) (okv273_1 (β := β)) (by decide +kernel) (by decide +kernel) (by decide +kernel) (vs := [vR 76, vI a, vI b, vI c]) ⟨_, _, rfl, rfl, _, _, rfl, ⟨_, rfl, ha⟩, _, _, rfl, ⟨_, rfl, hb⟩, _, _, rfl, ⟨_, rfl, hc⟩, rfl⟩ hL (e6.trans (congrArg vI y))
    exact ⟨z, h', l, e⟩
  · obtain ⟨r, h', ⟨v, rfl, z, rfl, -⟩, l, e⟩ := LI_kn (n := 2) (okv273_2 (β := β)) (by decide +kernel) (by decide +kernel) (by decide +kernel) (vs := [vR 76, vI a, vI b, vI c]) ⟨_, _, rfl, rfl, _, _, rfl, ⟨_, rfl, ha⟩, _, _, rfl, ⟨_, rfl, hb⟩, _, _, rfl, ⟨_, rfl, hc⟩, rfl⟩ hL (e6.trans (congrArg vI y))
    exact ⟨z, h', l, e⟩
  · obtain ⟨r, h', ⟨v, rfl, z, rfl, -⟩, l, e⟩ := LI_kn (n := 3) (okv273_3 (β := β)) (by decide +kernel) (by decide +kernel) (by decide +kernel) (vs := [vR 76, vI a, vI b, vI c]) ⟨_, _, rfl, rfl, _, _, rfl, ⟨_, rfl, ha⟩, _, _, rfl, ⟨_, rfl, hb⟩, _, _, rfl, ⟨_, rfl, hc⟩, rfl⟩ hL (e6.trans (congrArg vI y))
    exact ⟨z, h', l, e⟩
  · obtain ⟨r, h', ⟨v, rfl, z, rfl, -⟩, l, e⟩ := LI_kn (n := 4) (okv273_4 (β := β)) (by decide +kernel) (by decide +kernel) (by decide +kernel) (vs := [vR 76, vI a, vI b, vI c]) ⟨_, _, rfl, rfl, _, _, rfl, ⟨_, rfl, ha⟩, _, _, rfl, ⟨_, rfl, hb⟩, _, _, rfl, ⟨_, rfl, hc⟩, rfl⟩ hL (e6.trans (congrArg vI y))
    exact ⟨z, h', l, e⟩
set_option maxHeartbeats 4000000 in
theorem LI_v276 {β L : Nat} {xs : Nat → Int} {h : AH} {a : Int} (ha : -2147483648 ≤ a ∧ a ≤ 2147483647) (hL : LI β L xs h) : ∃ (z : Int) (h' : AH), (LI β L xs h' ∧ FL h h') ∧ ∀ Q : Option AV → AH → Prop, XC 1000 276 [vR 76, vI a] h Q = Q (some (vI z)) h' := by
  obtain ⟨e6, n0, n8⟩ := I_77_3 hL.1
  have y : fI h 77 3 = 0 ∨ fI h 77 3 = 1 ∨ fI h 77 3 = 2 ∨ fI h 77 3 = 3 ∨ fI h 77 3 = 4 := by omega
  rcases y with y | y | y | y | y
  · obtain ⟨r, h', ⟨v, rfl, z, rfl, -⟩, l, e⟩ := LI_kn (n := 0) (okv276_0 (β := β)) (by decide +kernel) (by decide +kernel) (by decide +kernel) (vs := [vR 76, vI a]) ⟨_, _, rfl, rfl, _, _, rfl, ⟨_, rfl, ha⟩, rfl⟩ hL (e6.trans (congrArg vI y))
    exact ⟨z, h', l, e⟩
  · obtain ⟨r, h', ⟨v, rfl, z, rfl, -⟩, l, e⟩ := LI_kn (n := 1) (okv276_1 (β := β)) (by decide +kernel) (by decide +kernel) (by decide +kernel) (vs := [vR 76, vI a]) ⟨_, _, rfl, rfl, _, _, rfl, ⟨_, rfl, ha⟩, rfl⟩ hL (e6.trans (congrArg vI y))
    exact ⟨z, h', l, e⟩
  · obtain ⟨r, h', ⟨v, rfl, z, rfl, -⟩, l, e⟩ := LI_kn (n := 2) (okv276_2 (β := β)) (by decide +kernel) (by decide +kernel) (by decide +kernel) (vs := [vR 76, vI a]) ⟨_, _, rfl, rfl, _, _, rfl, ⟨_, rfl, ha⟩, rfl⟩ hL (e6.trans (congrArg vI y))
    exact ⟨z, h', l, e⟩
  · obtain ⟨r, h', ⟨v, rfl, z, rfl, -⟩, l, e⟩ := LI_kn (n := 3) (okv276_3 (β := β)) (by decide +kernel) (by decide +kernel) (by decide +kernel) (vs := [vR 76, vI a]) ⟨_, _, rfl, rfl, _, _, rfl, ⟨_, rfl, ha⟩, rfl⟩ hL (e6.trans (congrArg vI y))
    exact ⟨z, h', l, e⟩
  · obtain ⟨r, h', ⟨v, rfl, z, rfl, -⟩, l, e⟩ := LI_kn (n := 4) (okv276_4 (β := β)) (by decide +kernel) (by decide +kernel) (by decide +kernel) (vs := [vR 76, vI a]) ⟨_, _, rfl, rfl, _, _, rfl, ⟨_, rfl, ha⟩, rfl⟩ hL (e6.trans (congrArg vI y))
    exact ⟨z, h', l, e⟩
set_option maxHeartbeats 4000000 in
theorem LI_v278 {β L : Nat} {xs : Nat → Int} {h : AH} {a : Int} (ha : -2147483648 ≤ a ∧ a ≤ 2147483647) (hL : LI β L xs h) : ∃ (z : Int) (h' : AH), (LI β L xs h' ∧ FL h h') ∧ ∀ Q : Option AV → AH → Prop, XC 1000 278 [vR 76, vI a] h Q = Q (some (vI z)) h' := by
  obtain ⟨e6, n0, n8⟩ := I_77_3 hL.1
  have y : fI h 77 3 = 0 ∨ fI h 77 3 = 1 ∨ fI h 77 3 = 2 ∨ fI h 77 3 = 3 ∨ fI h 77 3 = 4 := by omega
  rcases y with y | y | y | y | y
  · obtain ⟨r, h', ⟨v, rfl, z, rfl, -⟩, l, e⟩ := LI_kn (n := 0) (okv278_0 (β := β)) (by decide +kernel) (by decide +kernel) (by decide +kernel) (vs := [vR 76, vI a]) ⟨_, _, rfl, rfl, _, _, rfl, ⟨_, rfl, ha⟩, rfl⟩ hL (e6.trans (congrArg vI y))
    exact ⟨z, h', l, e⟩
  · obtain ⟨r, h', ⟨v, rfl, z, rfl, -⟩, l, e⟩ := LI_kn (n := 1) (okv278_1 (β := β)) (by decide +kernel) (by decide +kernel) (by decide +kernel) (vs := [vR 76, vI a]) ⟨_, _, rfl, rfl, _, _, rfl, ⟨_, rfl, ha⟩, rfl⟩ hL (e6.trans (congrArg vI y))
    exact ⟨z, h', l, e⟩
  · obtain ⟨r, h', ⟨v, rfl, z, rfl, -⟩, l, e⟩ := LI_kn (n := 2) (okv278_2 (β := β)) (by decide +kernel) (by decide +kernel) (by decide +kernel) (vs := [vR 76, vI a]) ⟨_, _, rfl, rfl, _, _, rfl, ⟨_, rfl, ha⟩, rfl⟩ hL (e6.trans (congrArg vI y))
    exact ⟨z, h', l, e⟩
  · obtain ⟨r, h', ⟨v, rfl, z, rfl, -⟩, l, e⟩ := LI_kn (n := 3) (okv278_3 (β := β)) (by decide +kernel) (by decide +kernel) (by decide +kernel) (vs := [vR 76, vI a]) ⟨_, _, rfl, rfl, _, _, rfl, ⟨_, rfl, ha⟩, rfl⟩ hL (e6.trans (congrArg vI y))
    exact ⟨z, h', l, e⟩
  · obtain ⟨r, h', ⟨v, rfl, z, rfl, -⟩, l, e⟩ := LI_kn (n := 4) (okv278_4 (β := β)) (by decide +kernel) (by decide +kernel) (by decide +kernel) (vs := [vR 76, vI a]) ⟨_, _, rfl, rfl, _, _, rfl, ⟨_, rfl, ha⟩, rfl⟩ hL (e6.trans (congrArg vI y))
    exact ⟨z, h', l, e⟩
set_option maxHeartbeats 4000000 in
theorem LI_v279 {β L : Nat} {xs : Nat → Int} {h : AH} {a : Int} (ha : -2147483648 ≤ a ∧ a ≤ 2147483647) (hL : LI β L xs h) : ∃ (z : Int) (h' : AH), (LI β L xs h' ∧ FL h h') ∧ ∀ Q : Option AV → AH → Prop, XC 1000 279 [vR 76, vI a] h Q = Q (some (vI z)) h' := by
  obtain ⟨e6, n0, n8⟩ := I_77_3 hL.1
  have y : fI h 77 3 = 0 ∨ fI h 77 3 = 1 ∨ fI h 77 3 = 2 ∨ fI h 77 3 = 3 ∨ fI h 77 3 = 4 := by omega
  rcases y with y | y | y | y | y
  · obtain ⟨r, h', ⟨v, rfl, z, rfl, -⟩, l, e⟩ := LI_kn (n := 0) (okv279_0 (β := β)) (by decide +kernel) (by decide +kernel) (by decide +kernel) (vs := [vR 76, vI a]) ⟨_, _, rfl, rfl, _, _, rfl, ⟨_, rfl, ha⟩, rfl⟩ hL (e6.trans (congrArg vI y))
    exact ⟨z, h', l, e⟩
  · obtain ⟨r, h', ⟨v, rfl, z, rfl, -⟩, l, e⟩ := LI_kn (n := 1) (okv279_1 (β := β)) (by decide +kernel) (by decide +kernel) (by decide +kernel) (vs := [vR 76, vI a]) ⟨_, _, rfl, rfl, _, _, rfl, ⟨_, rfl, ha⟩, rfl⟩ hL (e6.trans (congrArg vI y))
    exact ⟨z, h', l, e⟩
  · obtain ⟨r, h', ⟨v, rfl, z, rfl, -⟩, l, e⟩ := LI_kn (n := 2) (okv279_2 (β := β)) (by decide +kernel) (by decide +kernel) (by decide +kernel) (vs := [vR 76, vI a]) ⟨_, _, rfl, rfl, _, _, rfl, ⟨_, rfl, ha⟩, rfl⟩ hL (e6.trans (congrArg vI y))
    exact ⟨z, h', l, e⟩
  · obtain ⟨r, h', ⟨v, rfl, z, rfl, -⟩, l, e⟩ := LI_kn (n := 3) (okv279_3 (β := β)) (by decide +kernel) (by decide +kernel) (by decide +kernel) (vs := [vR 76, vI a]) ⟨_, _, rfl, rfl, _, _, rfl, ⟨_, rfl, ha⟩, rfl⟩ hL (e6.trans (congrArg vI y))
    exact ⟨z, h', l, e⟩
  · obtain ⟨r, h', ⟨v, rfl, z, rfl, -⟩, l, e⟩ := LI_kn (n := 4) (okv279_4 (β := β)) (by decide +kernel) (by decide +kernel) (by decide +kernel) (vs := [vR 76, vI a]) ⟨_, _, rfl, rfl, _, _, rfl, ⟨_, rfl, ha⟩, rfl⟩ hL (e6.trans (congrArg vI y))
    exact ⟨z, h', l, e⟩
set_option maxHeartbeats 4000000 in
theorem LI_v283 {β L : Nat} {xs : Nat → Int} {h : AH} {a b : Int} (ha : -2147483648 ≤ a ∧ a ≤ 2147483647) (hb : -2147483648 ≤ b ∧ b ≤ 2147483647) (hL : LI β L xs h) : ∃ (z : Int) (h' : AH), (LI β L xs h' ∧ FL h h') ∧ ∀ Q : Option AV → AH → Prop, XC 1000 283 [vR 76, vI a, vI b] h Q = Q (some (vI z)) h' := by
  obtain ⟨e6, n0, n8⟩ := I_77_3 hL.1
  have y : fI h 77 3 = 0 ∨ fI h 77 3 = 1 ∨ fI h 77 3 = 2 ∨ fI h 77 3 = 3 ∨ fI h 77 3 = 4 := by omega
  rcases y with y | y | y | y | y
  · obtain ⟨r, h', ⟨v, rfl, z, rfl, -⟩, l, e⟩ := LI_kn (n := 0) (okv283_0 (β := β)) (by decide +kernel) (by decide +kernel) (by decide +kernel) (vs := [vR 76, vI a, vI b]) ⟨_, _, rfl, rfl, _, _, rfl, ⟨_, rfl, ha⟩, _, _, rfl, ⟨_, rfl, hb⟩, rfl⟩ hL (e6.trans (congrArg vI y))
    exact ⟨z, h', l, e⟩
  · obtain ⟨r, h', ⟨v, rfl, z, rfl, -⟩, l, e⟩ := LI_kn (n := 1) (okv283_1 (β := β)) (by decide +kernel) (by decide +kernel) (by decide +kernel) (vs := [vR 76, vI a, vI b]) ⟨_, _, rfl, rfl, _, _, rfl, ⟨_, rfl, ha⟩, _, _, rfl, ⟨_, rfl, hb⟩, rfl⟩ hL (e6.trans (congrArg vI y))
    exact ⟨z, h', l, e⟩
  · obtain ⟨r, h', ⟨v, rfl, z, rfl, -⟩, l, e⟩ := LI_kn (n := 2) (okv283_2 (β := β)) (by decide +kernel) (by decide +kernel) (by decide +kernel) (vs := [vR 76, vI a, vI b]) ⟨_, _, rfl, rfl, _, _, rfl, ⟨_, rfl, ha⟩, _, _, rfl, ⟨_, rfl, hb⟩, rfl⟩ hL (e6.trans (congrArg vI y))
    exact ⟨z, h', l, e⟩
  · obtain ⟨r, h', ⟨v, rfl, z, rfl, -⟩, l, e⟩ := LI_kn (n := 3) (okv283_3 (β := β)) (by decide +kernel) (by decide +kernel) (by decide +kernel) (vs := [vR 76, vI a, vI b]) ⟨_, _, rfl, rfl, _, _, rfl, ⟨_, rfl, ha⟩, _, _, rfl, ⟨_, rfl, hb⟩, rfl⟩ hL (e6.trans (congrArg vI y))
    exact ⟨z, h', l, e⟩
  · obtain ⟨r, h', ⟨v, rfl, z, rfl, -⟩, l, e⟩ := LI_kn (n := 4) (okv283_4 (β := β)) (by decide +kernel) (by decide +kernel) (by decide +kernel) (vs := [vR 76, vI a, vI b]) ⟨_, _, rfl, rfl, _, _, rfl, ⟨_, rfl, ha⟩, _, _, rfl, ⟨_, rfl, hb⟩, rfl⟩ hL (e6.trans (congrArg vI y))
    exact ⟨z, h', l, e⟩
set_option maxHeartbeats 4000000 in
theorem LI_v284 {β L : Nat} {xs : Nat → Int} {h : AH} {a : Int} (ha : -2147483648 ≤ a ∧ a ≤ 2147483647) (hL : LI β L xs h) : ∃ (z : Int) (h' : AH), (LI β L xs h' ∧ FL h h') ∧ ∀ Q : Option AV → AH → Prop, XC 1000 284 [vR 76, vI a] h Q = Q (some (vI z)) h' := by
  obtain ⟨e6, n0, n8⟩ := I_77_3 hL.1
  have y : fI h 77 3 = 0 ∨ fI h 77 3 = 1 ∨ fI h 77 3 = 2 ∨ fI h 77 3 = 3 ∨ fI h 77 3 = 4 := by omega
  rcases y with y | y | y | y | y
  · obtain ⟨r, h', ⟨v, rfl, z, rfl, -⟩, l, e⟩ := LI_kn (n := 0) (okv284_0 (β := β)) (by decide +kernel) (by decide +kernel) (by decide +kernel) (vs := [vR 76, vI a]) ⟨_, _, rfl, rfl, _, _, rfl, ⟨_, rfl, ha⟩, rfl⟩ hL (e6.trans (congrArg vI y))
    exact ⟨z, h', l, e⟩
  · obtain ⟨r, h', ⟨v, rfl, z, rfl, -⟩, l, e⟩ := LI_kn (n := 1) (okv284_1 (β := β)) (by decide +kernel) (by decide +kernel) (by decide +kernel) (vs := [vR 76, vI a]) ⟨_, _, rfl, rfl, _, _, rfl, ⟨_, rfl, ha⟩, rfl⟩ hL (e6.trans (congrArg vI y))
    exact ⟨z, h', l, e⟩
  · obtain ⟨r, h', ⟨v, rfl, z, rfl, -⟩, l, e⟩ := LI_kn (n := 2) (okv284_2 (β := β)) (by decide +kernel) (by decide +kernel) (by decide +kernel) (vs := [vR 76, vI a]) ⟨_, _, rfl, rfl, _, _, rfl, ⟨_, rfl, ha⟩, rfl⟩ hL (e6.trans (congrArg vI y))
    exact ⟨z, h', l, e⟩
  · obtain ⟨r, h', ⟨v, rfl, z, rfl, -⟩, l, e⟩ := LI_kn (n := 3) (okv284_3 (β := β)) (by decide +kernel) (by decide +kernel) (by decide +kernel) (vs := [vR 76, vI a]) ⟨_, _, rfl, rfl, _, _, rfl, ⟨_, rfl, ha⟩, rfl⟩ hL (e6.trans (congrArg vI y))
    exact ⟨z, h', l, e⟩
  · obtain ⟨r, h', ⟨v, rfl, z, rfl, -⟩, l, e⟩ := LI_kn (n := 4) (okv284_4 (β := β)) (by decide +kernel) (by decide +kernel) (by decide +kernel) (vs := [vR 76, vI a]) ⟨_, _, rfl, rfl, _, _, rfl, ⟨_, rfl, ha⟩, rfl⟩ hL (e6.trans (congrArg vI y))
    exact ⟨z, h', l, e⟩
set_option maxHeartbeats 4000000 in
theorem LI_v299 {β L : Nat} {xs : Nat → Int} {h : AH} {a b : Int} (ha : -2147483648 ≤ a ∧ a ≤ 2147483647) (hb : -2147483648 ≤ b ∧ b ≤ 2147483647) (hL : LI β L xs h) : ∃ (z : Int) (h' : AH), (LI β L xs h' ∧ FL h h') ∧ ∀ Q : Option AV → AH → Prop, XC 1000 299 [vR 76, vI a, vI b] h Q = Q (some (vI z)) h' := by
  obtain ⟨e6, n0, n8⟩ := I_77_3 hL.1
  have y : fI h 77 3 = 0 ∨ fI h 77 3 = 1 ∨ fI h 77 3 = 2 ∨ fI h 77 3 = 3 ∨ fI h 77 3 = 4 := by omega
  rcases y with y | y | y | y | y
  · obtain ⟨r, h', ⟨v, rfl, z, rfl, -⟩, l, e⟩ := LI_kn (n := 0) (okv299_0 (β := β)) (by decide +kernel) (by decide +kernel) (by decide +kernel) (vs := [vR 76, vI a, vI b]) ⟨_, _, rfl, rfl, _, _, rfl, ⟨_, rfl, ha⟩, _, _, rfl, ⟨_, rfl, hb⟩, rfl⟩ hL (e6.trans (congrArg vI y))
    exact ⟨z, h', l, e⟩
  · obtain ⟨r, h', ⟨v, rfl, z, rfl, -⟩, l, e⟩ := LI_kn (n := 1) (okv299_1 (β := β)) (by decide +kernel) (by decide +kernel) (by decide +kernel) (vs := [vR 76, vI a, vI b]) ⟨_, _, rfl, rfl, _, _, rfl, ⟨_, rfl, ha⟩, _, _, rfl, ⟨_, rfl, hb⟩, rfl⟩ hL (e6.trans (congrArg vI y))
    exact ⟨z, h', l, e⟩
  · obtain ⟨r, h', ⟨v, rfl, z, rfl, -⟩, l, e⟩ := LI_kn (n := 2) (okv299_2 (β := β)) (by decide +kernel) (by decide +kernel) (by decide +kernel) (vs := [vR 76, vI a, vI b]) ⟨_, _, rfl, rfl, _, _, rfl, ⟨_, rfl, ha⟩, _, _, rfl, ⟨_, rfl, hb⟩, rfl⟩ hL (e6.trans (congrArg vI y))
    exact ⟨z, h', l, e⟩
  · obtain ⟨r, h', ⟨v, rfl, z, rfl, -⟩, l, e⟩ := LI_kn (n := 3) (okv299_3 (β := β)) (by decide +kernel) (by decide +kernel) (by decide +kernel) (vs := [vR 76, vI a, vI b]) ⟨_, _, rfl, rfl, _, _, rfl, ⟨_, rfl, ha⟩, _, _, rfl, ⟨_, rfl, hb⟩, rfl⟩ hL (e6.trans (congrArg vI y))
    exact ⟨z, h', l, e⟩
  · obtain ⟨r, h', ⟨v, rfl, z, rfl, -⟩, l, e⟩ := LI_kn (n := 4) (okv299_4 (β := β)) (by decide +kernel) (by decide +kernel) (by decide +kernel) (vs := [vR 76, vI a, vI b]) ⟨_, _, rfl, rfl, _, _, rfl, ⟨_, rfl, ha⟩, _, _, rfl, ⟨_, rfl, hb⟩, rfl⟩ hL (e6.trans (congrArg vI y))
    exact ⟨z, h', l, e⟩
set_option maxHeartbeats 4000000 in
theorem LI_v292 {β L : Nat} {xs : Nat → Int} {h : AH} {a b c : Int} (ha : -2147483648 ≤ a ∧ a ≤ 2147483647) (hb : -2147483648 ≤ b ∧ b ≤ 2147483647) (hc : -2147483648 ≤ c ∧ c ≤ 2147483647) (hL : LI β L xs h) : ∃ (z : Int) (h' : AH), (LI β L xs h' ∧ FL h h') ∧ ∀ Q : Option AV → AH → Prop, XC 1000 292 [vR 76, vI a, vI b, vI c] h Q = Q (some (vI z)) h' := by
  obtain ⟨e6, n0, n8⟩ := I_77_3 hL.1
  have y : fI h 77 3 = 0 ∨ fI h 77 3 = 1 ∨ fI h 77 3 = 2 ∨ fI h 77 3 = 3 ∨ fI h 77 3 = 4 := by omega
  rcases y with y | y | y | y | y
  · obtain ⟨r, h', ⟨v, rfl, z, rfl, -⟩, l, e⟩ := LI_kn (n := 0) (okv292_0 (β := β)) (by decide +kernel) (by decide +kernel) (by decide +kernel) (vs := [vR 76, vI a, vI b, vI c]) ⟨_, _, rfl, rfl, _, _, rfl, ⟨_, rfl, ha⟩, _, _, rfl, ⟨_, rfl, hb⟩, _, _, rfl, ⟨_, rfl, hc⟩, rfl⟩ hL (e6.trans (congrArg vI y))
    exact ⟨z, h', l, e⟩
  · obtain ⟨r, h', ⟨v, rfl, z, rfl, -⟩, l, e⟩ := LI_kn (n := 1) (okv292_1 (β := β)) (by decide +kernel) (by decide +kernel) (by decide +kernel) (vs := [vR 76, vI a, vI b, vI c]) ⟨_, _, rfl, rfl, _, _, rfl, ⟨_, rfl, ha⟩, _, _, rfl, ⟨_, rfl, hb⟩, _, _, rfl, ⟨_, rfl, hc⟩, rfl⟩ hL (e6.trans (congrArg vI y))
    exact ⟨z, h', l, e⟩
  · obtain ⟨r, h', ⟨v, rfl, z, rfl, -⟩, l, e⟩ := LI_kn (n := 2) (okv292_2 (β := β)) (by decide +kernel) (by decide +kernel) (by decide +kernel) (vs := [vR 76, vI a, vI b, vI c]) ⟨_, _, rfl, rfl, _, _, rfl, ⟨_, rfl, ha⟩, _, _, rfl, ⟨_, rfl, hb⟩, _, _, rfl, ⟨_, rfl, hc⟩, rfl⟩ hL (e6.trans (congrArg vI y))
    exact ⟨z, h', l, e⟩
  · obtain ⟨r, h', ⟨v, rfl, z, rfl, -⟩, l, e⟩ := LI_kn (n := 3) (okv292_3 (β := β)) (by decide +kernel) (by decide +kernel) (by decide +kernel) (vs := [vR 76, vI a, vI b, vI c]) ⟨_, _, rfl, rfl, _, _, rfl, ⟨_, rfl, ha⟩, _, _, rfl, ⟨_, rfl, hb⟩, _, _, rfl, ⟨_, rfl, hc⟩, rfl⟩ hL (e6.trans (congrArg vI y))
    exact ⟨z, h', l, e⟩
  · obtain ⟨r, h', ⟨v, rfl, z, rfl, -⟩, l, e⟩ := LI_kn (n := 4) (okv292_4 (β := β)) (by decide +kernel) (by decide +kernel) (by decide +kernel) (vs := [vR 76, vI a, vI b, vI c]) ⟨_, _, rfl, rfl, _, _, rfl, ⟨_, rfl, ha⟩, _, _, rfl, ⟨_, rfl, hb⟩, _, _, rfl, ⟨_, rfl, hc⟩, rfl⟩ hL (e6.trans (congrArg vI y))
    exact ⟨z, h', l, e⟩
set_option maxHeartbeats 4000000 in
theorem LI_v294 {β L : Nat} {xs : Nat → Int} {h : AH}  (hL : LI β L xs h) : ∃ (z : Int) (h' : AH), (LI β L xs h' ∧ FL h h') ∧ ∀ Q : Option AV → AH → Prop, XC 1000 294 [vR 76] h Q = Q (some (vI z)) h' := by
  obtain ⟨e6, n0, n8⟩ := I_77_3 hL.1
  have y : fI h 77 3 = 0 ∨ fI h 77 3 = 1 ∨ fI h 77 3 = 2 ∨ fI h 77 3 = 3 ∨ fI h 77 3 = 4 := by omega
  rcases y with y | y | y | y | y
  · obtain ⟨r, h', ⟨v, rfl, z, rfl, -⟩, l, e⟩ := LI_kn (n := 0) (okv294_0 (β := β)) (by decide +kernel) (by decide +kernel) (by decide +kernel) (vs := [vR 76]) ⟨_, _, rfl, rfl, rfl⟩ hL (e6.trans (congrArg vI y))
    exact ⟨z, h', l, e⟩
  · obtain ⟨r, h', ⟨v, rfl, z, rfl, -⟩, l, e⟩ := LI_kn (n := 1) (okv294_1 (β := β)) (by decide +kernel) (by decide +kernel) (by decide +kernel) (vs := [vR 76]) ⟨_, _, rfl, rfl, rfl⟩ hL (e6.trans (congrArg vI y))
    exact ⟨z, h', l, e⟩
  · obtain ⟨r, h', ⟨v, rfl, z, rfl, -⟩, l, e⟩ := LI_kn (n := 2) (okv294_2 (β := β)) (by decide +kernel) (by decide +kernel) (by decide +kernel) (vs := [vR 76]) ⟨_, _, rfl, rfl, rfl⟩ hL (e6.trans (congrArg vI y))
    exact ⟨z, h', l, e⟩
  · obtain ⟨r, h', ⟨v, rfl, z, rfl, -⟩, l, e⟩ := LI_kn (n := 3) (okv294_3 (β := β)) (by decide +kernel) (by decide +kernel) (by decide +kernel) (vs := [vR 76]) ⟨_, _, rfl, rfl, rfl⟩ hL (e6.trans (congrArg vI y))
    exact ⟨z, h', l, e⟩
  · obtain ⟨r, h', ⟨v, rfl, z, rfl, -⟩, l, e⟩ := LI_kn (n := 4) (okv294_4 (β := β)) (by decide +kernel) (by decide +kernel) (by decide +kernel) (vs := [vR 76]) ⟨_, _, rfl, rfl, rfl⟩ hL (e6.trans (congrArg vI y))
    exact ⟨z, h', l, e⟩
set_option maxHeartbeats 4000000 in
theorem LI_v295 {β L : Nat} {xs : Nat → Int} {h : AH}  (hL : LI β L xs h) : ∃ (z : Int) (h' : AH), (LI β L xs h' ∧ FL h h') ∧ ∀ Q : Option AV → AH → Prop, XC 1000 295 [vR 76] h Q = Q (some (vI z)) h' := by
  obtain ⟨e6, n0, n8⟩ := I_77_3 hL.1
  have y : fI h 77 3 = 0 ∨ fI h 77 3 = 1 ∨ fI h 77 3 = 2 ∨ fI h 77 3 = 3 ∨ fI h 77 3 = 4 := by omega
  rcases y with y | y | y | y | y
  · obtain ⟨r, h', ⟨v, rfl, z, rfl, -⟩, l, e⟩ := LI_kn (n := 0) (okv295_0 (β := β)) (by decide +kernel) (by decide +kernel) (by decide +kernel) (vs := [vR 76]) ⟨_, _, rfl, rfl, rfl⟩ hL (e6.trans (congrArg vI y))
    exact ⟨z, h', l, e⟩
  · obtain ⟨r, h', ⟨v, rfl, z, rfl, -⟩, l, e⟩ := LI_kn (n := 1) (okv295_1 (β := β)) (by decide +kernel) (by decide +kernel) (by decide +kernel) (vs := [vR 76]) ⟨_, _, rfl, rfl, rfl⟩ hL (e6.trans (congrArg vI y))
    exact ⟨z, h', l, e⟩
  · obtain ⟨r, h', ⟨v, rfl, z, rfl, -⟩, l, e⟩ := LI_kn (n := 2) (okv295_2 (β := β)) (by decide +kernel) (by decide +kernel) (by decide +kernel) (vs := [vR 76]) ⟨_, _, rfl, rfl, rfl⟩ hL (e6.trans (congrArg vI y))
    exact ⟨z, h', l, e⟩
  · obtain ⟨r, h', ⟨v, rfl, z, rfl, -⟩, l, e⟩ := LI_kn (n := 3) (okv295_3 (β := β)) (by decide +kernel) (by decide +kernel) (by decide +kernel) (vs := [vR 76]) ⟨_, _, rfl, rfl, rfl⟩ hL (e6.trans (congrArg vI y))
    exact ⟨z, h', l, e⟩
  · obtain ⟨r, h', ⟨v, rfl, z, rfl, -⟩, l, e⟩ := LI_kn (n := 4) (okv295_4 (β := β)) (by decide +kernel) (by decide +kernel) (by decide +kernel) (vs := [vR 76]) ⟨_, _, rfl, rfl, rfl⟩ hL (e6.trans (congrArg vI y))
    exact ⟨z, h', l, e⟩
set_option maxHeartbeats 4000000 in
theorem LI_v298 {β L : Nat} {xs : Nat → Int} {h : AH} {a b : Int} (ha : -2147483648 ≤ a ∧ a ≤ 2147483647) (hb : 0 ≤ b ∧ b ≤ 1) (hL : LI β L xs h) : ∃ (z : Int) (h' : AH), (LI β L xs h' ∧ FL h h') ∧ ∀ Q : Option AV → AH → Prop, XC 1000 298 [vR 76, vI a, vI b] h Q = Q (some (vI z)) h' := by
  obtain ⟨e6, n0, n8⟩ := I_77_3 hL.1
  have y : fI h 77 3 = 0 ∨ fI h 77 3 = 1 ∨ fI h 77 3 = 2 ∨ fI h 77 3 = 3 ∨ fI h 77 3 = 4 := by omega
  rcases y with y | y | y | y | y
  · obtain ⟨r, h', ⟨v, rfl, z, rfl, -⟩, l, e⟩ := LI_kn (n := 0) (okv298_0 (β := β)) (by decide +kernel) (by decide +kernel) (by decide +kernel) (vs := [vR 76, vI a, vI b]) ⟨_, _, rfl, rfl, _, _, rfl, ⟨_, rfl, ha⟩, _, _, rfl, ⟨_, rfl, hb⟩, rfl⟩ hL (e6.trans (congrArg vI y))
    exact ⟨z, h', l, e⟩
  · obtain ⟨r, h', ⟨v, rfl, z, rfl, -⟩, l, e⟩ := LI_kn (n := 1) (okv298_1 (β := β)) (by decide +kernel) (by decide +kernel) (by decide +kernel) (vs := [vR 76, vI a, vI b]) ⟨_, _, rfl, rfl, _, _, rfl, ⟨_, rfl, ha⟩, _, _, rfl, ⟨_, rfl, hb⟩, rfl⟩ hL (e6.trans (congrArg vI y))
    exact ⟨z, h', l, e⟩
  · obtain ⟨r, h', ⟨v, rfl, z, rfl, -⟩, l, e⟩ := LI_kn (n := 2) (okv298_2 (β := β)) (by decide +kernel) (by decide +kernel) (by decide +kernel) (vs := [vR 76, vI a, vI b]) ⟨_, _, rfl, rfl, _, _, rfl, ⟨_, rfl, ha⟩, _, _, rfl, ⟨_, rfl, hb⟩, rfl⟩ hL (e6.trans (congrArg vI y))
    exact ⟨z, h', l, e⟩
  · obtain ⟨r, h', ⟨v, rfl, z, rfl, -⟩, l, e⟩ := LI_kn (n := 3) (okv298_3 (β := β)) (by decide +kernel) (by decide +kernel) (by decide +kernel) (vs := [vR 76, vI a, vI b]) ⟨_, _, rfl, rfl, _, _, rfl, ⟨_, rfl, ha⟩, _, _, rfl, ⟨_, rfl, hb⟩, rfl⟩ hL (e6.trans (congrArg vI y))
    exact ⟨z, h', l, e⟩
  · obtain ⟨r, h', ⟨v, rfl, z, rfl, -⟩, l, e⟩ := LI_kn (n := 4) (okv298_4 (β := β)) (by decide +kernel) (by decide +kernel) (by decide +kernel) (vs := [vR 76, vI a, vI b]) ⟨_, _, rfl, rfl, _, _, rfl, ⟨_, rfl, ha⟩, _, _, rfl, ⟨_, rfl, hb⟩, rfl⟩ hL (e6.trans (congrArg vI y))
    exact ⟨z, h', l, e⟩
