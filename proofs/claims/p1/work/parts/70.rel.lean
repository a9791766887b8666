/-! both tenths are one -/
def RQ (f g : Nat → Int) : Prop := f 1 = g 8 ∧ f 2 = g 9 ∧ f 3 = g 10 ∧ f 4 = g 11 ∧ f 5 = g 12 ∧ f 7 = g 14 ∧ f 9 = g 16 ∧ f 10 = g 2 ∧ f 14 = 0 ∧ g 4 = -1
def RB (f : Nat → Int) : Prop := (0 ≤ f 1 ∧ f 1 ≤ 600) ∧ (-9 ≤ f 2 ∧ f 2 ≤ 9) ∧ (-9999 ≤ f 3 ∧ f 3 ≤ 9999) ∧ (-99 ≤ f 4 ∧ f 4 ≤ 99) ∧ (1 ≤ f 5 ∧ f 5 ≤ 24) ∧ (0 ≤ f 7 ∧ f 7 ≤ 9) ∧ (0 ≤ f 9 ∧ f 9 ≤ 9000) ∧ (0 ≤ f 10 ∧ f 10 ≤ 30252)
def qV (f : Nat → Int) (c : Int) : Int := max (-3) (min 3 (w32 (f 2 + c)))
def qT (f : Nat → Int) (c : Int) : Int := w32 (f 1 + qV f c)
def qP (f : Nat → Int) (c : Int) : Int := max 0 (min 600 (qT f c))
def qS (f : Nat → Int) (c : Int) : Int := max (-99) (min 99 (w32 (f 4 + max (-99) (min 99 (w32 ((w32 (qP f c - f 3)).tdiv (f 5)))))))
def qL (f : Nat → Int) (c : Int) : Int := max (-9999) (min 9999 (w32 (f 3 + qS f c)))
theorem tc5_o (f : Nat → Int) (j : Nat) (h1 : j ≠ 7) (h2 : j ≠ 10) : tc5 f j = f j := by
  unfold tc5
  split
  · rfl
  · split
    · exact (up_ne h1).trans (up_ne h2)
    · exact up_ne h1
theorem tm5_o (ic : Int) (g : Nat → Int) (j : Nat) (h1 : j ≠ 14) (h2 : j ≠ 2) : tm5 ic g j = g j := by
  unfold tm5
  split
  · rfl
  · split
    · exact (up_ne h1).trans (up_ne h2)
    · exact up_ne h1
section TC
variable (f : Nat → Int) (c : Int)
theorem c1_1 : tc1 f c 1 = f 1 := up_ne (by decide)
theorem c1_2 : tc1 f c 2 = qV f c := up_at
theorem c2_1 : tc2 (tc1 f c) 1 = qP f c := by
  unfold tc2
  rw [c1_1, c1_2]
  show (if qP f c = qT f c then up (tc1 f c) 1 (qP f c) else up (up (tc1 f c) 1 (qP f c)) 2 0) 1 = qP f c
  split
  · exact up_at
  · exact (up_ne (by decide)).trans up_at
theorem c2_2 : tc2 (tc1 f c) 2 = if qP f c = qT f c then qV f c else 0 := by
  unfold tc2
  rw [c1_1, c1_2]
  show (if qP f c = qT f c then up (tc1 f c) 1 (qP f c) else up (up (tc1 f c) 1 (qP f c)) 2 0) 2 = _
  by_cases e : qP f c = qT f c
  · rw [if_pos e, if_pos e]; exact (up_ne (by decide)).trans (c1_2 f c)
  · rw [if_neg e, if_neg e]; exact up_at
theorem c2_o (j : Nat) (h1 : j ≠ 1) (h2 : j ≠ 2) : tc2 (tc1 f c) j = f j := (tc2_o _ _ h1 h2).trans (up_ne h2)
theorem c3_4 : tc3 (tc2 (tc1 f c)) 4 = qS f c := by
  have e : tc3 (tc2 (tc1 f c)) 4 = max (-99) (min 99 (w32 (tc2 (tc1 f c) 4 + max (-99) (min 99 (w32 ((w32 (tc2 (tc1 f c) 1 - tc2 (tc1 f c) 3)).tdiv (tc2 (tc1 f c) 5))))))) := up_at
  rw [e, c2_1, c2_o f c 4 (by decide) (by decide), c2_o f c 3 (by decide) (by decide), c2_o f c 5 (by decide) (by decide)]
  rfl
theorem c3_o (j : Nat) (h : j ≠ 4) : tc3 (tc2 (tc1 f c)) j = tc2 (tc1 f c) j := up_ne h
theorem c4_3 : tc4 (tc3 (tc2 (tc1 f c))) 3 = qL f c := by
  have e : tc4 (tc3 (tc2 (tc1 f c))) 3 = max (-9999) (min 9999 (w32 (tc3 (tc2 (tc1 f c)) 3 + tc3 (tc2 (tc1 f c)) 4))) := up_at
  rw [e, c3_4, c3_o f c 3 (by decide), c2_o f c 3 (by decide) (by decide)]
  rfl
theorem c4_o (j : Nat) (h : j ≠ 3) : tc4 (tc3 (tc2 (tc1 f c))) j = tc3 (tc2 (tc1 f c)) j := up_ne h
theorem tC_1 : tenthC f c 1 = qP f c := by
  unfold tenthC
  exact (up_ne (by decide)).trans ((tc5_o _ _ (by decide) (by decide)).trans ((c4_o f c 1 (by decide)).trans ((c3_o f c 1 (by decide)).trans (c2_1 f c))))
theorem tC_2 : tenthC f c 2 = if qP f c = qT f c then qV f c else 0 := by
  unfold tenthC
  exact (up_ne (by decide)).trans ((tc5_o _ _ (by decide) (by decide)).trans ((c4_o f c 2 (by decide)).trans ((c3_o f c 2 (by decide)).trans (c2_2 f c))))
theorem tC_3 : tenthC f c 3 = qL f c := by
  unfold tenthC
  exact (up_ne (by decide)).trans ((tc5_o _ _ (by decide) (by decide)).trans (c4_3 f c))
theorem tC_4 : tenthC f c 4 = qS f c := by
  unfold tenthC
  exact (up_ne (by decide)).trans ((tc5_o _ _ (by decide) (by decide)).trans ((c4_o f c 4 (by decide)).trans (c3_4 f c)))
theorem c4_x (j : Nat) (h1 : j ≠ 1) (h2 : j ≠ 2) (h3 : j ≠ 3) (h4 : j ≠ 4) : tc4 (tc3 (tc2 (tc1 f c))) j = f j := (c4_o f c j h3).trans ((c3_o f c j h4).trans (c2_o f c j h1 h2))
theorem tC_9 : tenthC f c 9 = w32 (f 9 + 1) := by
  unfold tenthC
  have e : tc6 (tc5 (tc4 (tc3 (tc2 (tc1 f c))))) 9 = w32 (tc5 (tc4 (tc3 (tc2 (tc1 f c)))) 9 + 1) := up_at
  rw [e, tc5_o _ _ (by decide) (by decide), c4_x f c 9 (by decide) (by decide) (by decide) (by decide)]
theorem tC_7 (h14 : f 14 = 0) : tenthC f c 7 = if (w32 (f 9 + 1)).tmod 40 = 0 then (f 10).tmod 10 else max 0 (w32 (f 7 - 1)) := by
  unfold tenthC
  refine (up_ne (by decide)).trans ?_
  unfold tc5
  rw [c4_x f c 14 (by decide) (by decide) (by decide) (by decide), c4_x f c 9 (by decide) (by decide) (by decide) (by decide), c4_x f c 10 (by decide) (by decide) (by decide) (by decide), c4_x f c 7 (by decide) (by decide) (by decide) (by decide), if_neg (by omega)]
  split
  · exact up_at
  · exact up_at
theorem tC_10 (h14 : f 14 = 0) : tenthC f c 10 = if (w32 (f 9 + 1)).tmod 40 = 0 then renC (f 10) else f 10 := by
  unfold tenthC
  refine (up_ne (by decide)).trans ?_
  unfold tc5
  rw [c4_x f c 14 (by decide) (by decide) (by decide) (by decide), c4_x f c 9 (by decide) (by decide) (by decide) (by decide), c4_x f c 10 (by decide) (by decide) (by decide) (by decide), c4_x f c 7 (by decide) (by decide) (by decide) (by decide), if_neg (by omega)]
  split
  · exact (up_ne (by decide)).trans up_at
  · exact (up_ne (by decide)).trans (c4_x f c 10 (by decide) (by decide) (by decide) (by decide))
end TC
section TM
variable (g : Nat → Int) (c : Int)
def mV (g : Nat → Int) (c : Int) : Int := max (-3) (min 3 (w32 (g 9 + c)))
def mT (g : Nat → Int) (c : Int) : Int := w32 (g 8 + mV g c)
def mS (g : Nat → Int) (c p : Int) : Int := max (-99) (min 99 (w32 (g 11 + max (-99) (min 99 (w32 ((w32 (p - g 10)).tdiv (g 12)))))))
theorem m1_8 : tm1 g c 8 = mT g c := up_at
theorem m1_9 : tm1 g c 9 = mV g c := (up_ne (by decide)).trans up_at
theorem m1_o (j : Nat) (h1 : j ≠ 8) (h2 : j ≠ 9) : tm1 g c j = g j := (up_ne h1).trans (up_ne h2)
theorem m2_8 : tm2 (tm1 g c) 8 = max 0 (min 600 (mT g c)) := by
  unfold tm2
  rw [m1_8]
  split
  · rw [m1_8]; omega
  · exact (up_ne (by decide)).trans up_at
theorem m2_9 : tm2 (tm1 g c) 9 = if 0 ≤ mT g c ∧ mT g c ≤ 600 then mV g c else 0 := by
  unfold tm2
  rw [m1_8]
  by_cases e : 0 ≤ mT g c ∧ mT g c ≤ 600
  · rw [if_pos e, if_pos e]; exact m1_9 g c
  · rw [if_neg e, if_neg e]; exact up_at
theorem m2_o (j : Nat) (h1 : j ≠ 8) (h2 : j ≠ 9) : tm2 (tm1 g c) j = g j := (tm2_o _ _ h1 h2).trans (m1_o g c j h1 h2)
theorem m3_11 : tm3 (tm2 (tm1 g c)) 11 = mS g c (max 0 (min 600 (mT g c))) := by
  have e : tm3 (tm2 (tm1 g c)) 11 = max (-99) (min 99 (w32 (tm2 (tm1 g c) 11 + max (-99) (min 99 (w32 ((w32 (tm2 (tm1 g c) 8 - tm2 (tm1 g c) 10)).tdiv (tm2 (tm1 g c) 12))))))) := up_at
  rw [e, m2_8, m2_o g c 11 (by decide) (by decide), m2_o g c 10 (by decide) (by decide), m2_o g c 12 (by decide) (by decide)]
  rfl
theorem m3_o (j : Nat) (h : j ≠ 11) : tm3 (tm2 (tm1 g c)) j = tm2 (tm1 g c) j := up_ne h
theorem m4_10 : tm4 (tm3 (tm2 (tm1 g c))) 10 = max (-9999) (min 9999 (w32 (g 10 + mS g c (max 0 (min 600 (mT g c)))))) := by
  have e : tm4 (tm3 (tm2 (tm1 g c))) 10 = max (-9999) (min 9999 (w32 (tm3 (tm2 (tm1 g c)) 10 + tm3 (tm2 (tm1 g c)) 11))) := up_at
  rw [e, m3_11, m3_o g c 10 (by decide), m2_o g c 10 (by decide) (by decide)]
theorem m4_o (j : Nat) (h : j ≠ 10) : tm4 (tm3 (tm2 (tm1 g c))) j = tm3 (tm2 (tm1 g c)) j := up_ne h
theorem m4_x (j : Nat) (h1 : j ≠ 8) (h2 : j ≠ 9) (h3 : j ≠ 10) (h4 : j ≠ 11) : tm4 (tm3 (tm2 (tm1 g c))) j = g j := (m4_o g c j h3).trans ((m3_o g c j h4).trans (m2_o g c j h1 h2))
theorem pM_8 : passM 0 g c 8 = max 0 (min 600 (mT g c)) := by
  unfold passM
  exact (up_ne (by decide)).trans ((tm5_o _ _ _ (by decide) (by decide)).trans ((m4_o g c 8 (by decide)).trans ((m3_o g c 8 (by decide)).trans (m2_8 g c))))
theorem pM_9 : passM 0 g c 9 = if 0 ≤ mT g c ∧ mT g c ≤ 600 then mV g c else 0 := by
  unfold passM
  exact (up_ne (by decide)).trans ((tm5_o _ _ _ (by decide) (by decide)).trans ((m4_o g c 9 (by decide)).trans ((m3_o g c 9 (by decide)).trans (m2_9 g c))))
theorem pM_10 : passM 0 g c 10 = max (-9999) (min 9999 (w32 (g 10 + mS g c (max 0 (min 600 (mT g c)))))) := by
  unfold passM
  exact (up_ne (by decide)).trans ((tm5_o _ _ _ (by decide) (by decide)).trans (m4_10 g c))
theorem pM_11 : passM 0 g c 11 = mS g c (max 0 (min 600 (mT g c))) := by
  unfold passM
  exact (up_ne (by decide)).trans ((tm5_o _ _ _ (by decide) (by decide)).trans ((m4_o g c 11 (by decide)).trans (m3_11 g c)))
theorem pM_16 : passM 0 g c 16 = w32 (g 16 + 1) := by
  unfold passM
  have e : tm6 (tm5 0 (tm4 (tm3 (tm2 (tm1 g c))))) 16 = w32 (tm5 0 (tm4 (tm3 (tm2 (tm1 g c)))) 16 + 1) := up_at
  rw [e, tm5_o _ _ _ (by decide) (by decide), m4_x g c 16 (by decide) (by decide) (by decide) (by decide)]
theorem pM_14 : passM 0 g c 14 = if (w32 (g 16 + 1)).tmod 40 = 0 then (g 2).tmod 10 else if 0 < g 14 then w32 (g 14 - 1) else 0 := by
  unfold passM
  refine (up_ne (by decide)).trans ?_
  unfold tm5
  rw [m4_x g c 16 (by decide) (by decide) (by decide) (by decide), m4_x g c 2 (by decide) (by decide) (by decide) (by decide), m4_x g c 14 (by decide) (by decide) (by decide) (by decide), if_neg (by omega)]
  split
  · exact up_at
  · exact up_at
theorem pM_2 : passM 0 g c 2 = if (w32 (g 16 + 1)).tmod 40 = 0 then renM (g 2) else g 2 := by
  unfold passM
  refine (up_ne (by decide)).trans ?_
  unfold tm5
  rw [m4_x g c 16 (by decide) (by decide) (by decide) (by decide), m4_x g c 2 (by decide) (by decide) (by decide) (by decide), m4_x g c 14 (by decide) (by decide) (by decide) (by decide), if_neg (by omega)]
  split
  · exact (up_ne (by decide)).trans up_at
  · exact (up_ne (by decide)).trans (m4_x g c 2 (by decide) (by decide) (by decide) (by decide))
end TM
theorem ren_eq {x : Int} (h1 : 0 ≤ x) (h2 : x ≤ 30252) : renC x = renM x ∧ 0 ≤ renC x ∧ renC x ≤ 30252 := by
  unfold renC renM
  have e1 : w32 (x * 263) = x * 263 := w32_in (by omega) (by omega)
  have e2 : w32 (x * 263 + 157) = x * 263 + 157 := w32_in (by omega) (by omega)
  have e3 : w64 (x * 263) = x * 263 := by unfold w64; omega
  have e4 : w64 (x * 263 + 157) = x * 263 + 157 := by unfold w64; omega
  rw [e1, e2, e3, e4, Int.tmod_eq_emod_of_nonneg (by omega)]
  have h3 := Int.emod_nonneg (x * 263 + 157) (show (30253 : Int) ≠ 0 by decide)
  have h4 := Int.emod_lt_of_pos (x * 263 + 157) (show (0 : Int) < 30253 by decide)
  refine ⟨(w32_in (by omega) (by omega)).symm, h3, by omega⟩
theorem mod10 {x : Int} (h1 : 0 ≤ x) : 0 ≤ x.tmod 10 ∧ x.tmod 10 ≤ 9 := by
  rw [Int.tmod_eq_emod_of_nonneg h1]
  omega
set_option maxHeartbeats 4000000 in
theorem tenth_rel {f g : Nat → Int} {c : Int} (h : RQ f g) (hb : RB f) (h9 : f 9 ≤ 8999) : RQ (tenthC f c) (passM 0 g c) ∧ RB (tenthC f c) ∧ tenthC f c 9 = f 9 + 1 := by
  obtain ⟨r1, r2, r3, r4, r5, r7, r9, r10, r14, r4'⟩ := h
  obtain ⟨b1, b2, b3, b4, b5, b7, b9, b10⟩ := hb
  have e9 : w32 (f 9 + 1) = f 9 + 1 := w32_in (by omega) (by omega)
  have eV : qV f c = mV g c := by unfold qV mV; rw [r2]
  have eT : qT f c = mT g c := by unfold qT mT; rw [eV, r1]
  have hV1 : -3 ≤ qV f c ∧ qV f c ≤ 3 := by unfold qV; omega
  have eP : qP f c = max 0 (min 600 (mT g c)) := by unfold qP; rw [eT]
  have eS : qS f c = mS g c (max 0 (min 600 (mT g c))) := by unfold qS mS; rw [eP, r3, r4, r5]
  have hS : -99 ≤ qS f c ∧ qS f c ≤ 99 := by unfold qS; omega
  have eL : qL f c = max (-9999) (min 9999 (w32 (g 10 + mS g c (max 0 (min 600 (mT g c)))))) := by unfold qL; rw [eS, r3]
  have hL : -9999 ≤ qL f c ∧ qL f c ≤ 9999 := by unfold qL; omega
  have hP : 0 ≤ qP f c ∧ qP f c ≤ 600 := by unfold qP; omega
  have hren := ren_eq b10.1 b10.2
  have hm := mod10 b10.1
  have h7 : tenthC f c 7 = passM 0 g c 14 := by
    rw [tC_7 f c r14, pM_14, r9, r10, r7]
    split
    · rfl
    · have e : w32 (g 14 - 1) = g 14 - 1 := w32_in (by omega) (by omega)
      rw [e]
      split <;> omega
  have h7b : 0 ≤ tenthC f c 7 ∧ tenthC f c 7 ≤ 9 := by
    rw [tC_7 f c r14]
    have e : w32 (f 7 - 1) = f 7 - 1 := w32_in (by omega) (by omega)
    rw [e]
    split <;> omega
  have h10 : tenthC f c 10 = passM 0 g c 2 := by
    rw [tC_10 f c r14, pM_2, r9, r10]
    split
    · rw [← r10]; exact hren.1
    · rfl
  have h10b : 0 ≤ tenthC f c 10 ∧ tenthC f c 10 ≤ 30252 := by
    rw [tC_10 f c r14]
    split
    · exact hren.2
    · exact b10
  have h2 : tenthC f c 2 = passM 0 g c 9 := by
    rw [tC_2, pM_9, eP, eT, eV]
    by_cases e : 0 ≤ mT g c ∧ mT g c ≤ 600
    · rw [if_pos e, if_pos (by omega)]
    · rw [if_neg e, if_neg (by omega)]
  have h2b : -9 ≤ tenthC f c 2 ∧ tenthC f c 2 ≤ 9 := by
    rw [tC_2]
    split <;> omega
  have t5 := tenthC_5 f c 5 (by decide)
  have t14 := tenthC_5 f c 14 (by decide)
  have p12 := passM_o 0 g c 12 (by decide)
  have p4 := passM_o 0 g c 4 (by decide)
  refine ⟨⟨?_, h2, ?_, ?_, ?_, h7, ?_, h10, ?_, ?_⟩, ⟨?_, h2b, ?_, ?_, ?_, h7b, ?_, h10b⟩, ?_⟩
  · rw [tC_1, pM_8, eP]
  · rw [tC_3, pM_10, eL]
  · rw [tC_4, pM_11, eS]
  · rw [t5, p12, r5]
  · rw [tC_9, pM_16, r9]
  · rw [t14, r14]
  · rw [p4, r4']
  · rw [tC_1]; exact hP
  · rw [tC_3]; exact hL
  · rw [tC_4]; exact hS
  · rw [t5]; exact b5
  · rw [tC_9, e9]; omega
  · rw [tC_9, e9]
/-- one turn of the storm -/
def stC (f : Nat → Int) : Nat → Int := let f1 := up (up f 10 (renC (f 10))) 7 ((f 10).tmod 10); let f2 := tenthC f1 (w32 ((f1 10).tmod 3 - 1)); up f2 10 (renC (f2 10))
def stM (g : Nat → Int) : Nat → Int := let g1 := up (up g 14 ((g 2).tmod 10)) 2 (renM (g 2)); let g2 := passM 0 g1 (w32 ((g1 2).tmod 3 - 1)); up g2 2 (renM (g2 2))
theorem RQ_up {f g : Nat → Int} (h : RQ f g) (hb : RB f) : RQ (up (up f 10 (renC (f 10))) 7 ((f 10).tmod 10)) (up (up g 14 ((g 2).tmod 10)) 2 (renM (g 2))) ∧ RB (up (up f 10 (renC (f 10))) 7 ((f 10).tmod 10)) := by
  obtain ⟨r1, r2, r3, r4, r5, r7, r9, r10, r14, r4'⟩ := h
  obtain ⟨b1, b2, b3, b4, b5, b7, b9, b10⟩ := hb
  have hren := ren_eq b10.1 b10.2
  have hm := mod10 b10.1
  have n : ∀ j, j ≠ 7 → j ≠ 10 → up (up f 10 (renC (f 10))) 7 ((f 10).tmod 10) j = f j := fun j h1 h2 => (up_ne h1).trans (up_ne h2)
  have m : ∀ j, j ≠ 2 → j ≠ 14 → up (up g 14 ((g 2).tmod 10)) 2 (renM (g 2)) j = g j := fun j h1 h2 => (up_ne h1).trans (up_ne h2)
  have x7 : up (up f 10 (renC (f 10))) 7 ((f 10).tmod 10) 7 = (f 10).tmod 10 := up_at
  have x10 : up (up f 10 (renC (f 10))) 7 ((f 10).tmod 10) 10 = renC (f 10) := (up_ne (by decide)).trans up_at
  have y14 : up (up g 14 ((g 2).tmod 10)) 2 (renM (g 2)) 14 = (g 2).tmod 10 := (up_ne (by decide)).trans up_at
  have y2 : up (up g 14 ((g 2).tmod 10)) 2 (renM (g 2)) 2 = renM (g 2) := up_at
  unfold RQ RB
  rw [n 1 (by decide) (by decide), n 2 (by decide) (by decide), n 3 (by decide) (by decide), n 4 (by decide) (by decide), n 5 (by decide) (by decide), n 9 (by decide) (by decide), n 14 (by decide) (by decide), x7, x10, m 8 (by decide) (by decide), m 9 (by decide) (by decide), m 10 (by decide) (by decide), m 11 (by decide) (by decide), m 12 (by decide) (by decide), m 16 (by decide) (by decide), m 4 (by decide) (by decide), y14, y2]
  exact ⟨⟨r1, r2, r3, r4, r5, by rw [r10], r9, by rw [← r10]; exact hren.1, r14, r4'⟩, b1, b2, b3, b4, b5, hm, b9, hren.2⟩
theorem storm_rel {f g : Nat → Int} (h : RQ f g) (hb : RB f) (h9 : f 9 ≤ 8999) : RQ (stC f) (stM g) ∧ RB (stC f) ∧ stC f 9 = f 9 + 1 := by
  obtain ⟨h1, hb1⟩ := RQ_up h hb
  unfold stC stM
  generalize hF : up (up f 10 (renC (f 10))) 7 ((f 10).tmod 10) = F at h1 hb1
  generalize up (up g 14 ((g 2).tmod 10)) 2 (renM (g 2)) = G at h1
  have hF9 : F 9 = f 9 := by rw [← hF]; exact (up_ne (by decide)).trans (up_ne (by decide))
  have e10 : F 10 = G 2 := h1.2.2.2.2.2.2.2.1
  dsimp only
  rw [e10]
  obtain ⟨h2, hb2, h29⟩ := tenth_rel (c := w32 ((G 2).tmod 3 - 1)) h1 hb1 (by omega)
  generalize tenthC F (w32 ((G 2).tmod 3 - 1)) = A at h2 hb2 h29
  generalize passM 0 G (w32 ((G 2).tmod 3 - 1)) = B at h2
  obtain ⟨r1, r2, r3, r4, r5, r7, r9, r10, r14, r4'⟩ := h2
  obtain ⟨b1, b2, b3, b4, b5, b7, b9, b10⟩ := hb2
  have hren := ren_eq b10.1 b10.2
  have n : ∀ j, j ≠ 10 → up A 10 (renC (A 10)) j = A j := fun j h => up_ne h
  have m : ∀ j, j ≠ 2 → up B 2 (renM (B 2)) j = B j := fun j h => up_ne h
  have x10 : up A 10 (renC (A 10)) 10 = renC (A 10) := up_at
  have y2 : up B 2 (renM (B 2)) 2 = renM (B 2) := up_at
  unfold RQ RB
  rw [n 1 (by decide), n 2 (by decide), n 3 (by decide), n 4 (by decide), n 5 (by decide), n 7 (by decide), n 9 (by decide), n 14 (by decide), x10, m 8 (by decide), m 9 (by decide), m 10 (by decide), m 11 (by decide), m 12 (by decide), m 14 (by decide), m 16 (by decide), m 4 (by decide), y2]
  exact ⟨⟨r1, r2, r3, r4, r5, r7, r9, by rw [← r10]; exact hren.1, r14, r4'⟩, ⟨b1, b2, b3, b4, b5, b7, b9, hren.2⟩, by rw [h29, hF9]⟩
