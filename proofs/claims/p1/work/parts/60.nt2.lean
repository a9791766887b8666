/-! a tenth as a known call -/
noncomputable def iV (vals : List AW) (i : Nat) : Int := match nth vals i with
  | some (.inl (.inl x)) => x
  | _ => 0
def isX (w : AW) : Bool := match w with
  | .inl (.inl _) => true
  | _ => false
noncomputable def isXn (vals : List AW) (i : Nat) : Bool := match nth vals i with
  | some w => isX w
  | none => false
theorem isXn_s {vals : List AW} {i : Nat} (h : isXn vals i = true) : vals[i]? = some (xI (iV vals i)) := by
  unfold isXn at h
  unfold iV
  rw [nth_eq] at h ⊢
  cases e : vals[i]? with
  | none => rw [e] at h; cases h
  | some w =>
    rw [e] at h
    match w, h with
    | .inl (.inl x), _ => rfl
def r32b (z : Int) : Bool := !ltI z (-2147483648) && ltI z 2147483648
theorem r32b_s {z : Int} (h : r32b z = true) : r32 z := by
  unfold r32b at h
  rw [ltI_eq, ltI_eq, Bool.and_eq_true, Bool.not_eq_true', decide_eq_false_iff_not, decide_eq_true_eq] at h
  exact ⟨by omega, h.2⟩
noncomputable def hasI (b : BH) (k kd len i : Nat) (w : AW) : Bool := match gF b k with
  | some c => (Nat.beq c.1 kd && Nat.beq c.2.1 len) && (match nth c.2.2.1 i with
    | some u => decide (u = w)
    | none => false)
  | none => false
theorem hasI_s {b : BH} {h : AH} {k kd len i : Nat} {v : AV} (hb : ab_H b h) (hh : hasI b k kd len i (.inl v) = true) : hK h k = (kd, len) ∧ hV h k i = v := by
  unfold hasI at hh
  rw [gF_eq] at hh
  split at hh
  · rename_i c e
    rw [Bool.and_eq_true, Bool.and_eq_true, beq_d, beq_d, decide_eq_true_eq, decide_eq_true_eq] at hh
    obtain ⟨⟨h1, h2⟩, h3⟩ := hh
    rw [nth_eq] at h3
    split at h3
    · rename_i u eu
      have h3 := of_decide_eq_true h3
      subst h3
      have C := hb.2.2 k c e
      exact ⟨by rw [C.1, h1, h2], C.2.1 i _ eu⟩
    · cases h3
  · cases hh
noncomputable def okLaw (b : BH) : Bool := (hasI b 58 2 0 0 (xR 46) && hasI b 58 2 0 1 (xR 46)) && ((hasI b 46 6 0 1 (xR 48) && hasI b 48 11 5 0 (xI (-1))) && (hasI b 48 11 5 1 (xI (-1)) && hasI b 48 11 5 2 (xI (-1))))
theorem okLaw_s {b : BH} {h : AH} (hb : ab_H b h) (hh : okLaw b = true) : LAW0 h := by
  unfold okLaw at hh
  rw [Bool.and_eq_true, Bool.and_eq_true, Bool.and_eq_true, Bool.and_eq_true, Bool.and_eq_true] at hh
  obtain ⟨⟨h1, h2⟩, ⟨h3, h4⟩, h5, h6⟩ := hh
  have a1 := hasI_s hb h1
  have a2 := hasI_s hb h2
  have a3 := hasI_s hb h3
  have a4 := hasI_s hb h4
  have a5 := hasI_s hb h5
  have a6 := hasI_s hb h6
  exact ⟨a1.1, a1.2, a2.2, a3.1, a3.2, a4.1, a4.2, a5.2, a6.2⟩
noncomputable def okSta (b : BH) : Bool := ((hasI b 1000000 20 6 0 (xI 0) && hasI b 1000000 20 6 1 (xI 15)) && ((hasI b 1000000 20 6 2 (xI 23) && hasI b 1000000 20 6 3 (xI 28)) && (hasI b 1000000 20 6 4 (xI 32) && hasI b 1000000 20 6 5 (xI 43)))) && ((hasI b 1000002 20 6 0 (xI (-9999)) && hasI b 1000002 20 6 1 (xI (-99))) && ((hasI b 1000002 20 6 2 (xI (-9)) && hasI b 1000002 20 6 3 (xI 0)) && (hasI b 1000002 20 6 4 (xI (-600)) && hasI b 1000002 20 6 5 (xI (-1)))))
theorem okSta_s {b : BH} {h : AH} (hb : ab_H b h) (hh : okSta b = true) : SX h := by
  unfold okSta at hh
  simp only [Bool.and_eq_true] at hh
  obtain ⟨⟨⟨h1, h2⟩, ⟨h3, h4⟩, h5, h6⟩, ⟨g1, g2⟩, ⟨g3, g4⟩, g5, g6⟩ := hh
  have a1 := hasI_s hb h1
  have a2 := hasI_s hb h2
  have a3 := hasI_s hb h3
  have a4 := hasI_s hb h4
  have a5 := hasI_s hb h5
  have a6 := hasI_s hb h6
  have b1 := hasI_s hb g1
  have b2 := hasI_s hb g2
  have b3 := hasI_s hb g3
  have b4 := hasI_s hb g4
  have b5 := hasI_s hb g5
  have b6 := hasI_s hb g6
  exact ⟨⟨a1.1, b1.1⟩, ⟨a1.2, a2.2, a3.2, a4.2, a5.2, a6.2⟩, b1.2, b2.2, b3.2, b4.2, b5.2, b6.2⟩
noncomputable def tcL (vals : List AW) (w0 : AW) (f : Nat → Int) : List AW := match vals with
  | [_, _, _, _, _, v5, v6, _, v8, _, _, v11, v12, v13, v14] => [w0, xI (f 1), xI (f 2), xI (f 3), xI (f 4), v5, v6, xI (f 7), v8, xI (f 9), xI (f 10), v11, v12, v13, v14]
  | _ => []
noncomputable def forceI (z : Int) : Bool := eqI z 0 || true
abbrev NR : Type := Option (Option AW × BH)
def oC (o : Option AC) (k : AC → NR) : NR := match o with
  | some c => k c
  | none => none
def oR (o : Option AW) (k : Nat → NR) : NR := match o with
  | some (.inl (.inr (.inr (some x)))) => k x
  | _ => none
theorem oC_s {o : Option AC} {k : AC → NR} {y : Option AW × BH} (h : oC o k = some y) : ∃ c, o = some c ∧ k c = some y := by
  cases o with
  | none => cases h
  | some c => exact ⟨c, rfl, h⟩
theorem oR_s {o : Option AW} {k : Nat → NR} {y : Option AW × BH} (h : oR o k = some y) : ∃ x, o = some (xR x) ∧ k x = some y := by
  match o, h with
  | some (.inl (.inr (.inr (some x)))), h => exact ⟨x, rfl, h⟩
noncomputable def allX (vals : List AW) : Bool := List.rec true (fun w _ ih => isX w && ih) vals
theorem allX_s {vals : List AW} (h : allX vals = true) : ∀ (i : Nat) (w : AW), vals[i]? = some w → isX w = true := by
  induction vals with
  | nil => intro i w hw; rw [List.getElem?_nil] at hw; cases hw
  | cons a l ih =>
    have h : (isX a && allX l) = true := h
    rw [Bool.and_eq_true] at h
    intro i w hw
    cases i with
    | zero => rw [List.getElem?_cons_zero] at hw; cases hw; exact h.1
    | succ i => rw [List.getElem?_cons_succ] at hw; exact ih h.2 i w hw
noncomputable def ntTt (b : BH) (r rc : Nat) (cr ck cc : AC) (w3 : AW) : Bool := ((decide (w3 = xR 58) && (Nat.beq cr.1 0 && Nat.beq cr.2.1 0)) && ((Nat.beq ck.1 1 && Nat.beq ck.2.1 0) && (isXn ck.2.2.1 1 && eqI (iV ck.2.2.1 1) cc.2.1))) && (((Nat.beq cc.1 12 && Nat.beq cc.2.2.1.length 0) && (cc.2.2.2.isNone && Nat.ble 1 cc.2.1)) && ((okLaw b && okSta b) && ((Nat.beq cr.2.2.1.length 15 && allX (cr.2.2.1.drop 1)) && ((!ltI (iV cr.2.2.1 9) 0 && !eqI (iV cr.2.2.1 5) 0) && ((Nat.ble (r + 1) 1000000 && !Nat.beq r rc) && (((!Nat.beq r 58 && !Nat.beq r 46) && !Nat.beq r 48) && ((!Nat.beq rc 58 && !Nat.beq rc 46) && !Nat.beq rc 48)))))))
noncomputable def ntTf (f : Nat → Int) : Bool := forceI (f 1) && (forceI (f 2) && (forceI (f 3) && (forceI (f 4) && (forceI (f 7) && (forceI (f 9) && forceI (f 10))))))
noncomputable def ntT (as : List AW) (b : BH) : NR := match as with
  | [.inl (.inr (.inr (some r))), .inl (.inl c), w3] => oC (gF b r) fun cr => oR (nth cr.2.2.1 0) fun kc => oC (gF b kc) fun ck => oR (nth ck.2.2.1 0) fun rc => oC (gF b rc) fun cc => bif ntTt b r rc cr ck cc w3 && ntTf (tenthC (iV cr.2.2.1) c) then some (none, sF b r (0, 0, tcL cr.2.2.1 (xR kc) (tenthC (iV cr.2.2.1) c), cr.2.2.2)) else none
  | _ => none
theorem cond_some {α : Type} {t : Bool} {x y : α} (h : (bif t then some x else none) = some y) : t = true ∧ x = y := by
  cases t with
  | false => cases h
  | true => exact ⟨rfl, Option.some.inj h⟩
theorem tenthC_5 (f : Nat → Int) (c : Int) (j : Nat) (hj : j = 5 ∨ j = 6 ∨ j = 8 ∨ j = 11 ∨ j = 12 ∨ j = 13 ∨ j = 14) : tenthC f c j = f j := by
  have h5 : ∀ g : Nat → Int, tc5 g j = g j := fun g => by
    unfold tc5
    split
    · rfl
    · split
      · exact (up_ne (by omega)).trans (up_ne (by omega))
      · exact up_ne (by omega)
  unfold tenthC
  exact (up_ne (by omega)).trans ((h5 _).trans ((up_ne (by omega)).trans ((up_ne (by omega)).trans ((tc2_o _ _ (by omega) (by omega)).trans (up_ne (by omega))))))
theorem len15 {l : List AW} (h : l.length = 15) : ∃ a0 a1 a2 a3 a4 a5 a6 a7 a8 a9 a10 a11 a12 a13 a14, l = [a0, a1, a2, a3, a4, a5, a6, a7, a8, a9, a10, a11, a12, a13, a14] := by
  have step : ∀ {n : Nat} {l : List AW}, l.length = n + 1 → ∃ a t, l = a :: t ∧ t.length = n := fun {n} {l} hl => by
    cases l with
    | nil => cases hl
    | cons a t => exact ⟨a, t, rfl, Nat.succ.inj hl⟩
  obtain ⟨a0, l0, e0, h0⟩ := step h
  obtain ⟨a1, l1, e1, h1⟩ := step h0
  obtain ⟨a2, l2, e2, h2⟩ := step h1
  obtain ⟨a3, l3, e3, h3⟩ := step h2
  obtain ⟨a4, l4, e4, h4⟩ := step h3
  obtain ⟨a5, l5, e5, h5⟩ := step h4
  obtain ⟨a6, l6, e6, h6⟩ := step h5
  obtain ⟨a7, l7, e7, h7⟩ := step h6
  obtain ⟨a8, l8, e8, h8⟩ := step h7
  obtain ⟨a9, l9, e9, h9⟩ := step h8
  obtain ⟨a10, l10, e10, h10⟩ := step h9
  obtain ⟨a11, l11, e11, h11⟩ := step h10
  obtain ⟨a12, l12, e12, h12⟩ := step h11
  obtain ⟨a13, l13, e13, h13⟩ := step h12
  obtain ⟨a14, l14, e14, h14⟩ := step h13
  have e15 : l14 = [] := List.length_eq_zero_iff.mp h14
  refine ⟨a0, a1, a2, a3, a4, a5, a6, a7, a8, a9, a10, a11, a12, a13, a14, ?_⟩
  rw [e0, e1, e2, e3, e4, e5, e6, e7, e8, e9, e10, e11, e12, e13, e14, e15]
set_option maxHeartbeats 4000000 in
theorem ntT_core {b : BH} {h : AH} {r kc rc n : Nat} {c : Int} {vals : List AW} {df : Option AW} {vk : List AW} {dk : Option AW} (hb : ab_H b h) (e1 : gC b r = some (0, 0, vals, df)) (ev0 : vals[0]? = some (xR kc)) (e2 : gC b kc = some (1, 0, vk, dk)) (ek0 : vk[0]? = some (xR rc)) (ek1 : vk[1]? = some (xI n)) (e3 : gC b rc = some (12, n, [], none)) (hlw : LAW0 h) (hst : SX h) (hn1 : 1 ≤ n) (hlen : vals.length = 15)
    (hx : ∀ i, 1 ≤ i → i < 15 → isXn vals i = true) (ht9 : 0 ≤ iV vals 9) (h5 : ¬ iV vals 5 = 0) (hg1 : r ≠ 58 ∧ r ≠ 46 ∧ r ≠ 48) (hg2 : rc ≠ 58 ∧ rc ≠ 46 ∧ rc ≠ 48) (hr : r < 1000000) (hne : r ≠ rc) (d : Nat) :
    ∃ h', ab_H (sC b r (0, 0, tcL vals (xR kc) (tenthC (iV vals) c), df)) h' ∧ ∀ Q : Option AV → AH → Prop, XC (d + 6) 12 [vR r, vI c, vR 58] h Q = Q none h' := by
  have C := hb.2.2 r _ e1
  have Ck := hb.2.2 kc _ e2
  have Cr := hb.2.2 rc _ e3
  have hv : ∀ i, 1 ≤ i → i < 15 → hV h r i = vI (iV vals i) := fun i h1 h2 => C.2.1 i (xI (iV vals i)) (isXn_s (hx i h1 h2))
  have h0 : hV h r 0 = vR kc := C.2.1 0 (xR kc) ev0
  have HH : HO h r kc (iV vals) := ⟨C.1, h0, hv⟩
  obtain ⟨h', e, H', F'⟩ := X_tenth d r kc rc n h (iV vals) c HH hlw hst Ck.1 (Ck.2.1 0 _ ek0) (Ck.2.1 1 _ ek1) Cr.1 hn1 ht9 h5 hg1 hg2 hne
  refine ⟨h', ?_, e⟩
  obtain ⟨f1, f2, f3, f4⟩ := F'
  obtain ⟨a0, a1, a2, a3, a4, a5, a6, a7, a8, a9, a10, a11, a12, a13, a14, ev⟩ := len15 hlen
  refine ⟨by rw [f1]; exact hb.1, by rw [f2]; exact hb.2.1, fun k c' hk => ?_⟩
  rcases gC_sC hr hk with ⟨rfl, rfl⟩ | ⟨hkr, hk0⟩
  · refine ⟨by rw [f3]; exact C.1, fun i w hw => ?_, fun w hw i g1 g2 => absurd g2 (Nat.not_lt_zero _)⟩
    have keep : ∀ j, (j = 5 ∨ j = 6 ∨ j = 8 ∨ j = 11 ∨ j = 12 ∨ j = 13 ∨ j = 14) → ∀ w, vals[j]? = some w → ab_V w (hV h' k j) := fun j hj w hw => by
      rw [H'.2.2 j (by omega) (by omega), tenthC_5 _ _ j hj, ← hv j (by omega) (by omega)]
      exact C.2.1 j w hw
    generalize tenthC (iV vals) c = f' at hw H'
    have hw : (tcL vals (xR kc) f')[i]? = some w := hw
    subst ev
    have hw : [xR kc, xI (f' 1), xI (f' 2), xI (f' 3), xI (f' 4), a5, a6, xI (f' 7), a8, xI (f' 9), xI (f' 10), a11, a12, a13, a14][i]? = some w := hw
    match i, hw with
    | 0, hw => cases hw; exact H'.2.1
    | 1, hw => cases hw; exact H'.2.2 1 (by decide) (by decide)
    | 2, hw => cases hw; exact H'.2.2 2 (by decide) (by decide)
    | 3, hw => cases hw; exact H'.2.2 3 (by decide) (by decide)
    | 4, hw => cases hw; exact H'.2.2 4 (by decide) (by decide)
    | 5, hw => exact keep 5 (by decide) w hw
    | 6, hw => exact keep 6 (by decide) w hw
    | 7, hw => cases hw; exact H'.2.2 7 (by decide) (by decide)
    | 8, hw => exact keep 8 (by decide) w hw
    | 9, hw => cases hw; exact H'.2.2 9 (by decide) (by decide)
    | 10, hw => cases hw; exact H'.2.2 10 (by decide) (by decide)
    | 11, hw => exact keep 11 (by decide) w hw
    | 12, hw => exact keep 12 (by decide) w hw
    | 13, hw => exact keep 13 (by decide) w hw
    | 14, hw => exact keep 14 (by decide) w hw
    | n + 15, hw => cases hw
  · obtain ⟨q1, q2, q3⟩ := hb.2.2 k c' hk0
    by_cases hkc : k = rc
    · subst hkc
      rw [e3] at hk0
      cases hk0
      refine ⟨by rw [f3]; exact q1, fun i w hw => ?_, fun w hw => by cases hw⟩
      have hw : ([] : List AW)[i]? = some w := hw
      rw [List.getElem?_nil] at hw
      cases hw
    · exact ⟨by rw [f3]; exact q1, fun i w hw => by rw [f4 k hkr hkc]; exact q2 i w hw, fun w hw i g1 g2 => by rw [f4 k hkr hkc]; exact q3 w hw i g1 g2⟩

set_option maxHeartbeats 4000000 in
theorem ntT_s {as : List AW} {b : BH} {r0 : Option AW} {b' : BH} (hn : ntT as b = some (r0, b')) : ∀ d vs h (Q : Option AV → AH → Prop), 20 ≤ d → ab_S as vs → ab_H b h → (∀ v h', ab_O r0 v → ab_H b' h' → Q v h') → XC d 12 vs h Q := by
  intro d vs h Q hd hs hb hQ
  unfold ntT at hn
  split at hn
  · rename_i r c w3
    obtain ⟨cr, e1, hn⟩ := oC_s hn
    obtain ⟨kc, ev0, hn⟩ := oR_s hn
    obtain ⟨ck, e2, hn⟩ := oC_s hn
    obtain ⟨rc, ek0, hn⟩ := oR_s hn
    obtain ⟨cc, e3, hn⟩ := oC_s hn
    obtain ⟨hc, hn⟩ := cond_some hn
    cases hn
    rw [Bool.and_eq_true] at hc
    have hc := hc.1
    unfold ntTt at hc
    simp only [Bool.and_eq_true, beq_d, ble_d, eqI_eq, ltI_eq, Bool.not_eq_true', decide_eq_true_eq, decide_eq_false_iff_not] at hc
    obtain ⟨⟨⟨rfl, t1, t2⟩, ⟨t3, t4⟩, t5, t6⟩, ⟨⟨t7, t8⟩, t9, t10⟩, ⟨t11, t12⟩, ⟨t13, t14⟩, ⟨t15, t16⟩, ⟨t17, t18⟩, ⟨⟨t19, t20⟩, t21⟩, ⟨t22, t23⟩, t24⟩ := hc
    rw [gF_eq] at e1 e2 e3
    rw [nth_eq] at ev0 ek0
    obtain ⟨cr1, cr2, vals, df⟩ := cr
    obtain ⟨ck1, ck2, vk, dk⟩ := ck
    obtain ⟨cc1, n, vc, dc⟩ := cc
    have t1 : cr1 = 0 := t1
    have t2 : cr2 = 0 := t2
    have t3 : ck1 = 1 := t3
    have t4 : ck2 = 0 := t4
    have t7 : cc1 = 12 := t7
    have t8' : vc = [] := List.length_eq_zero_iff.mp t8
    have t9' : dc = none := by
      cases dc with
      | none => rfl
      | some w => cases t9
    subst t1 t2 t3 t4 t7 t8' t9'
    have hlen : vals.length = 15 := t13
    obtain ⟨d, rfl⟩ : ∃ d', d = d' + 6 := ⟨d - 6, by omega⟩
    obtain ⟨h', hb', e⟩ := ntT_core (c := c) hb e1 ev0 e2 ek0 (by rw [isXn_s t5]; rw [t6]) e3 (okLaw_s hb t11) (okSta_s hb t12) t10 hlen (fun i h1 h2 => by
      unfold isXn
      rw [nth_eq]
      cases hq : vals[i]? with
      | none => exact absurd (List.getElem?_eq_none_iff.mp hq) (by omega)
      | some w =>
        refine allX_s t14 (i - 1) w ?_
        rw [List.getElem?_drop, show 1 + (i - 1) = i by omega]
        exact hq) (Int.not_lt.mp t15) t16 ⟨t19, t20, t21⟩ ⟨t22, t23, t24⟩ (by omega) t18 d
    obtain ⟨v1, vs1, rfl, hv1, v2, vs2, rfl, hv2, v3, vs3, rfl, hv3, hs4⟩ := hs
    have hv1 : v1 = vR r := hv1
    have hv2 : v2 = vI c := hv2
    have hv3 : v3 = vR 58 := hv3
    have hs4 : vs3 = [] := hs4
    subst hv1 hv2 hv3 hs4
    rw [e]
    refine hQ none h' rfl ?_
    rw [sF_eq]
    exact hb'
  · cases hn

/-! the reference's tenth as a known call -/
noncomputable def pcL (vals : List AW) (g : Nat → Int) : List AW := match vals with
  | [v0, v1, _, v3, v4, v5, v6, v7, _, _, _, _, v12, v13, _, v15, _, v17, v18] => [v0, v1, xI (g 2), v3, v4, v5, v6, v7, xI (g 8), xI (g 9), xI (g 10), xI (g 11), v12, v13, xI (g 14), v15, xI (g 16), v17, v18]
  | _ => []
noncomputable def nmL (vals : List AW) (g : Nat → Int) : List AW := match vals with
  | [_, _, _, _, _, _, _, v7] => [xI (w32F (g 8 - g 10)), xI (g 11), xI (g 9), xI (g 14), xI (w32F (g 15 - g 8)), xI (g 12), xI (g 13), v7]
  | _ => []
noncomputable def agL (g : Nat → Int) : Int := bif ltI (g 16) 60 then 0 else w32F (g 16 - 60)
noncomputable def ntPt (c : Int) (m a q : AC) (g : Nat → Int) : Bool := (((Nat.beq m.1 10 && Nat.beq m.2.1 0) && (decide (nth m.2.2.1 0 = some (xR 77)) && decide (nth m.2.2.1 20 = some (xR 82)))) && ((isXn m.2.2.1 25 && hasN m.2.2.1 22) && ((Nat.beq a.1 11 && Nat.beq a.2.1 9834) && (decide (a.2.2.2 = some xT) && (Nat.beq a.2.2.1.length 19 && allX a.2.2.1))))) && (((Nat.beq q.1 11 && Nat.beq q.2.1 8) && Nat.beq q.2.2.1.length 8) && ((eqI (g 4) (-1) && !eqI (g 12) 0) && ((!ltI (g 16) 0 && r32b (g 9)) && ((r32b (g 11) && r32b (g 14)) && r32b c))))
noncomputable def ntPf (f : Nat → Int) : Bool := forceI (f 2) && (forceI (f 8) && (forceI (f 9) && (forceI (f 10) && (forceI (f 11) && (forceI (f 14) && forceI (f 16))))))
noncomputable def ntPr (b : BH) (m a q : AC) (g g2 g' : Nat → Int) : BH := sF (sF (sF b 77 (11, 9834, pcL a.2.2.1 g', some xT)) 82 (11, 8, nmL q.2.2.1 g2, q.2.2.2)) 76 (10, 0, setF (setF m.2.2.1 21 (xI (g2 16))) 22 (xI (agL g2)), m.2.2.2)
noncomputable def ntP (as : List AW) (b : BH) : NR := match as with
  | [w0, .inl (.inl c)] => oC (gF b 76) fun m => oC (gF b 77) fun a => oC (gF b 82) fun q => bif decide (w0 = xR 76) && (ntPt c m a q (iV a.2.2.1) && ntPf (passM (iV m.2.2.1 25) (iV a.2.2.1) c)) then some (none, ntPr b m a q (iV a.2.2.1) (tm2 (tm1 (iV a.2.2.1) c)) (passM (iV m.2.2.1 25) (iV a.2.2.1) c)) else none
  | _ => none
theorem passM_o (ic : Int) (g : Nat → Int) (c : Int) (j : Nat) (hj : j = 0 ∨ j = 1 ∨ j = 3 ∨ j = 4 ∨ j = 5 ∨ j = 6 ∨ j = 7 ∨ j = 12 ∨ j = 13 ∨ j = 15 ∨ j = 17 ∨ j = 18) : passM ic g c j = g j := by
  have h5 : ∀ g : Nat → Int, tm5 ic g j = g j := fun g => by
    unfold tm5
    split
    · rfl
    · split
      · exact (up_ne (by omega)).trans (up_ne (by omega))
      · exact up_ne (by omega)
  unfold passM
  exact (up_ne (by omega)).trans ((h5 _).trans ((up_ne (by omega)).trans ((up_ne (by omega)).trans ((tm2_o _ _ (by omega) (by omega)).trans ((up_ne (by omega)).trans (up_ne (by omega)))))))
theorem lenS {n : Nat} {l : List AW} (hl : l.length = n + 1) : ∃ a t, l = a :: t ∧ t.length = n := by
  cases l with
  | nil => cases hl
  | cons a t => exact ⟨a, t, rfl, Nat.succ.inj hl⟩
theorem lenl19 {l : List AW} (h : l.length = 19) : ∃ a0 a1 a2 a3 a4 a5 a6 a7 a8 a9 a10 a11 a12 a13 a14 a15 a16 a17 a18, l = [a0, a1, a2, a3, a4, a5, a6, a7, a8, a9, a10, a11, a12, a13, a14, a15, a16, a17, a18] := by
  obtain ⟨a0, l0, e0, h0⟩ := lenS h
  obtain ⟨a1, l1, e1, h1⟩ := lenS h0
  obtain ⟨a2, l2, e2, h2⟩ := lenS h1
  obtain ⟨a3, l3, e3, h3⟩ := lenS h2
  obtain ⟨a4, l4, e4, h4⟩ := lenS h3
  obtain ⟨a5, l5, e5, h5⟩ := lenS h4
  obtain ⟨a6, l6, e6, h6⟩ := lenS h5
  obtain ⟨a7, l7, e7, h7⟩ := lenS h6
  obtain ⟨a8, l8, e8, h8⟩ := lenS h7
  obtain ⟨a9, l9, e9, h9⟩ := lenS h8
  obtain ⟨a10, l10, e10, h10⟩ := lenS h9
  obtain ⟨a11, l11, e11, h11⟩ := lenS h10
  obtain ⟨a12, l12, e12, h12⟩ := lenS h11
  obtain ⟨a13, l13, e13, h13⟩ := lenS h12
  obtain ⟨a14, l14, e14, h14⟩ := lenS h13
  obtain ⟨a15, l15, e15, h15⟩ := lenS h14
  obtain ⟨a16, l16, e16, h16⟩ := lenS h15
  obtain ⟨a17, l17, e17, h17⟩ := lenS h16
  obtain ⟨a18, l18, e18, h18⟩ := lenS h17
  have e19 : l18 = [] := List.length_eq_zero_iff.mp h18
  refine ⟨a0, a1, a2, a3, a4, a5, a6, a7, a8, a9, a10, a11, a12, a13, a14, a15, a16, a17, a18, ?_⟩
  rw [e0, e1, e2, e3, e4, e5, e6, e7, e8, e9, e10, e11, e12, e13, e14, e15, e16, e17, e18, e19]
theorem lenl8 {l : List AW} (h : l.length = 8) : ∃ a0 a1 a2 a3 a4 a5 a6 a7, l = [a0, a1, a2, a3, a4, a5, a6, a7] := by
  obtain ⟨a0, l0, e0, h0⟩ := lenS h
  obtain ⟨a1, l1, e1, h1⟩ := lenS h0
  obtain ⟨a2, l2, e2, h2⟩ := lenS h1
  obtain ⟨a3, l3, e3, h3⟩ := lenS h2
  obtain ⟨a4, l4, e4, h4⟩ := lenS h3
  obtain ⟨a5, l5, e5, h5⟩ := lenS h4
  obtain ⟨a6, l6, e6, h6⟩ := lenS h5
  obtain ⟨a7, l7, e7, h7⟩ := lenS h6
  have e8 : l7 = [] := List.length_eq_zero_iff.mp h7
  refine ⟨a0, a1, a2, a3, a4, a5, a6, a7, ?_⟩
  rw [e0, e1, e2, e3, e4, e5, e6, e7, e8]
theorem agL_eq (g : Nat → Int) : agL g = if g 16 < 60 then 0 else w32 (g 16 - 60) := by
  unfold agL
  rw [ltI_eq, w32F_eq]
  by_cases e : g 16 < 60
  · rw [decide_eq_true e, if_pos e, cnd_t]
  · rw [decide_eq_false e, if_neg e, cnd_f]
set_option maxHeartbeats 4000000 in
theorem ntP_core {b : BH} {h : AH} {c : Int} {m a q : AC} (hb : ab_H b h) (e1 : gC b 76 = some m) (e2 : gC b 77 = some a) (e3 : gC b 82 = some q) (ht : ntPt c m a q (iV a.2.2.1) = true) (d : Nat) :
    ∃ h', ab_H (ntPr b m a q (iV a.2.2.1) (tm2 (tm1 (iV a.2.2.1) c)) (passM (iV m.2.2.1 25) (iV a.2.2.1) c)) h' ∧ ∀ Q : Option AV → AH → Prop, XC (d + 3) 251 [vR 76, vI c] h Q = Q none h' := by
  unfold ntPt at ht
  simp only [Bool.and_eq_true, beq_d, hasN_eq, nth_eq, eqI_eq, ltI_eq, Bool.not_eq_true', decide_eq_true_eq, decide_eq_false_iff_not] at ht
  obtain ⟨⟨⟨⟨t1, t2⟩, t3, t4⟩, ⟨t5, t6⟩, ⟨t7, t8⟩, t9, t10, t11⟩, ⟨⟨t12, t13⟩, t14⟩, ⟨t15, t16⟩, ⟨t17, t18⟩, ⟨t19, t20⟩, t21⟩ := ht
  obtain ⟨m1, m2, vm, dm⟩ := m
  obtain ⟨a1, a2, va, da⟩ := a
  obtain ⟨q1, q2, vq, dq⟩ := q
  have t1 : m1 = 10 := t1
  have t2 : m2 = 0 := t2
  have t7 : a1 = 11 := t7
  have t8 : a2 = 9834 := t8
  have t9 : da = some xT := t9
  have t12 : q1 = 11 := t12
  have t13 : q2 = 8 := t13
  subst t1 t2 t7 t8 t9 t12 t13
  have Cm := hb.2.2 76 _ e1
  have Ca := hb.2.2 77 _ e2
  have Cq := hb.2.2 82 _ e3
  have t10 : va.length = 19 := t10
  have t14 : vq.length = 8 := t14
  have hga : ∀ i, i < 19 → hV h 77 i = vI (iV va i) := fun i hi => by
    refine Ca.2.1 i (xI (iV va i)) (isXn_s ?_)
    unfold isXn
    rw [nth_eq]
    cases hq : va[i]? with
    | none => exact absurd (List.getElem?_eq_none_iff.mp hq) (by omega)
    | some w => exact allX_s t11 i w hq
  have hm : MO h (iV va) (iV vm 25) := ⟨Cm.1, Cm.2.1 0 _ t3, Cm.2.1 20 _ t4, Cm.2.1 25 _ (isXn_s t5), Ca.1, Cq.1, hga⟩
  obtain ⟨h', ⟨hm', F, N⟩, e⟩ := X_pass d h (iV va) (iV vm 25) c hm t15 t16 (Int.not_lt.mp t17) (r32b_s t18) (r32b_s t19) (r32b_s t20) (r32b_s t21)
  refine ⟨h', ?_, e⟩
  obtain ⟨f1, f2, f3, f4, f5, f6, f7⟩ := F
  have N0 := N
  obtain ⟨nq0, nq1, nq2, nq3, nq4, nq5, nq6, nq21, nq22⟩ := N
  have keep : ∀ j, (j = 0 ∨ j = 1 ∨ j = 3 ∨ j = 4 ∨ j = 5 ∨ j = 6 ∨ j = 7 ∨ j = 12 ∨ j = 13 ∨ j = 15 ∨ j = 17 ∨ j = 18) → ∀ w, va[j]? = some w → ab_V w (hV h' 77 j) := fun j hj w hw => by
    rw [hm'.2.2.2.2.2.2 j (by omega), passM_o _ _ _ j hj, ← hga j (by omega)]
    exact Ca.2.1 j w hw
  unfold ntPr
  rw [sF_eq, sF_eq, sF_eq, setF_eq, setF_eq]
  generalize passM (iV vm 25) (iV va) c = g' at hm'
  generalize tm2 (tm1 (iV va) c) = g2 at nq0 nq1 nq2 nq3 nq4 nq5 nq6 nq21 nq22
  refine ⟨by rw [f1]; exact hb.1, by rw [f2]; exact hb.2.1, fun k c' hk => ?_⟩
  rcases gC_sC (by decide) hk with ⟨rfl, rfl⟩ | ⟨k76, hk⟩
  · refine ⟨by rw [f3]; exact Cm.1, fun i w hw => ?_, fun w hw i z1 z2 => absurd z2 (Nat.not_lt_zero _)⟩
    have hw : ((vm.set 21 (xI (g2 16))).set 22 (xI (agL g2)))[i]? = some w := hw
    by_cases i22 : i = 22
    · subst i22
      rw [List.getElem?_set, if_pos rfl] at hw
      split at hw
      · cases hw
        rw [agL_eq]; exact nq22
      · cases hw
    · rw [List.getElem?_set_ne (fun z => i22 z.symm)] at hw
      by_cases i21 : i = 21
      · subst i21
        rw [List.getElem?_set, if_pos rfl] at hw
        split at hw
        · cases hw; exact nq21
        · cases hw
      · rw [List.getElem?_set_ne (fun z => i21 z.symm)] at hw
        rw [f5 i i21 i22]
        exact Cm.2.1 i w hw
  rcases gC_sC (by decide) hk with ⟨rfl, rfl⟩ | ⟨k82, hk⟩
  · obtain ⟨b0, b1, b2, b3, b4, b5, b6, b7, ev⟩ := lenl8 t14
    refine ⟨by rw [f3]; exact Cq.1, fun i w hw => ?_, fun w hw i z1 z2 => ?_⟩
    · have hw : (nmL vq g2)[i]? = some w := hw
      rw [ev] at hw
      have hw : [xI (w32F (g2 8 - g2 10)), xI (g2 11), xI (g2 9), xI (g2 14), xI (w32F (g2 15 - g2 8)), xI (g2 12), xI (g2 13), b7][i]? = some w := hw
      match i, hw with
      | 0, hw => cases hw; rw [w32F_eq]; exact nq0
      | 1, hw => cases hw; exact nq1
      | 2, hw => cases hw; exact nq2
      | 3, hw => cases hw; exact nq3
      | 4, hw => cases hw; rw [w32F_eq]; exact nq4
      | 5, hw => cases hw; exact nq5
      | 6, hw => cases hw; exact nq6
      | 7, hw =>
        rw [f6 7 (by decide)]
        refine Cq.2.1 7 w ?_
        show vq[7]? = some w
        rw [ev]; exact hw
      | n + 8, hw => cases hw
    · have z1 : (nmL vq g2).length ≤ i := z1
      rw [ev] at z1
      have z1 : 8 ≤ i := z1
      have z2 : i < 8 := z2
      exact absurd z1 (by omega)
  rcases gC_sC (by decide) hk with ⟨rfl, rfl⟩ | ⟨k77, hk⟩
  · obtain ⟨b0, b1, b2, b3, b4, b5, b6, b7, b8, b9, b10, b11, b12, b13, b14, b15, b16, b17, b18, ev⟩ := lenl19 t10
    refine ⟨by rw [f3]; exact Ca.1, fun i w hw => ?_, fun w hw i z1 z2 => ?_⟩
    · have hw : (pcL va g')[i]? = some w := hw
      rw [ev] at hw
      rw [ev] at keep
      have hw : [b0, b1, xI (g' 2), b3, b4, b5, b6, b7, xI (g' 8), xI (g' 9), xI (g' 10), xI (g' 11), b12, b13, xI (g' 14), b15, xI (g' 16), b17, b18][i]? = some w := hw
      match i, hw with
      | 0, hw => exact keep 0 (by decide) w hw
      | 1, hw => exact keep 1 (by decide) w hw
      | 2, hw => cases hw; exact hm'.2.2.2.2.2.2 2 (by decide)
      | 3, hw => exact keep 3 (by decide) w hw
      | 4, hw => exact keep 4 (by decide) w hw
      | 5, hw => exact keep 5 (by decide) w hw
      | 6, hw => exact keep 6 (by decide) w hw
      | 7, hw => exact keep 7 (by decide) w hw
      | 8, hw => cases hw; exact hm'.2.2.2.2.2.2 8 (by decide)
      | 9, hw => cases hw; exact hm'.2.2.2.2.2.2 9 (by decide)
      | 10, hw => cases hw; exact hm'.2.2.2.2.2.2 10 (by decide)
      | 11, hw => cases hw; exact hm'.2.2.2.2.2.2 11 (by decide)
      | 12, hw => exact keep 12 (by decide) w hw
      | 13, hw => exact keep 13 (by decide) w hw
      | 14, hw => cases hw; exact hm'.2.2.2.2.2.2 14 (by decide)
      | 15, hw => exact keep 15 (by decide) w hw
      | 16, hw => cases hw; exact hm'.2.2.2.2.2.2 16 (by decide)
      | 17, hw => exact keep 17 (by decide) w hw
      | 18, hw => exact keep 18 (by decide) w hw
      | n + 19, hw => cases hw
    · have hw : some xT = some w := hw
      cases hw
      have z1 : (pcL va g').length ≤ i := z1
      rw [ev] at z1
      have z1 : 19 ≤ i := z1
      rcases f7 i z1 with z | ⟨z, ez, rz⟩
      · rw [z]; exact Ca.2.2 xT rfl i (by show va.length ≤ i; omega) z2
      · rw [ez]; exact ab_rg rz.1 (by have := rz.2; omega)
  · obtain ⟨q1, q2, q3⟩ := hb.2.2 k c' hk
    exact ⟨by rw [f3]; exact q1, fun i w hw => by rw [f4 k k76 k77 k82]; exact q2 i w hw, fun w hw i g1 g2 => by rw [f4 k k76 k77 k82]; exact q3 w hw i g1 g2⟩
theorem ntP_s {as : List AW} {b : BH} {r0 : Option AW} {b' : BH} (hn : ntP as b = some (r0, b')) : ∀ d vs h (Q : Option AV → AH → Prop), 20 ≤ d → ab_S as vs → ab_H b h → (∀ v h', ab_O r0 v → ab_H b' h' → Q v h') → XC d 251 vs h Q := by
  intro d vs h Q hd hs hb hQ
  unfold ntP at hn
  split at hn
  · rename_i w0 c
    obtain ⟨m, e1, hn⟩ := oC_s hn
    obtain ⟨a, e2, hn⟩ := oC_s hn
    obtain ⟨q, e3, hn⟩ := oC_s hn
    obtain ⟨hc, hn⟩ := cond_some hn
    cases hn
    rw [Bool.and_eq_true, Bool.and_eq_true, decide_eq_true_eq] at hc
    obtain ⟨rfl, ht, -⟩ := hc
    rw [gF_eq] at e1 e2 e3
    obtain ⟨d, rfl⟩ : ∃ d', d = d' + 3 := ⟨d - 3, by omega⟩
    obtain ⟨h', hb', e⟩ := ntP_core hb e1 e2 e3 ht d
    obtain ⟨v1, vs1, rfl, hv1, v2, vs2, rfl, hv2, hs4⟩ := hs
    have hv1 : v1 = vR 76 := hv1
    have hv2 : v2 = vI c := hv2
    have hs4 : vs2 = [] := hs4
    subst hv1 hv2 hs4
    rw [e]
    exact hQ none h' rfl hb'
  · cases hn
noncomputable def nt2 : NT := fun M as b => bif Nat.beq M 12 then ntT as b else bif Nat.beq M 251 then ntP as b else bif Nat.beq M 181 then ntC2 as b else none
theorem nt2_s : ab_N nt2 := by
  intro M as b r b' hn
  unfold nt2 at hn
  rw [beq_d, beq_d, beq_d] at hn
  by_cases h1 : M = 12
  · rw [decide_eq_true h1, cnd_t] at hn
    subst h1
    exact ntT_s hn
  · rw [decide_eq_false h1, cnd_f] at hn
    by_cases h2 : M = 251
    · rw [decide_eq_true h2, cnd_t] at hn
      subst h2
      exact ntP_s hn
    · rw [decide_eq_false h2, cnd_f] at hn
      by_cases h3 : M = 181
      · rw [decide_eq_true h3, cnd_t] at hn
        subst h3
        exact ntC2_s hn
      · rw [decide_eq_false h3, cnd_f] at hn
        cases hn
