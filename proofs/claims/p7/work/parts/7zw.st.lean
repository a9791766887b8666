/-! a call that goes on, in both: the relation stays, the answers are alike -/
theorem RE_pre {h : AH} (hJ : k_H JB h) (r : REL h) : ∃ (T : Nat) (cs : List cCl) (T1 T2 : Nat) (s : SCR) (m c n t : Nat), (RUL h T ∧ LWC h T cs ∧ CST cs ∧ LWM h (fI h 77 4) cs) ∧ (Zc h T1 T2 (fI h) (fI h 2) (fI h 4) s = h ∧ SOK s) ∧ WRs (fI h) (fI h 2) (fI h 4) (fI h 77) m c n ∧ (fI h 2 9 = (t : Int) ∧ t ≤ 9999 ∧ HKs (fI h 2)) ∧ (fI h 1 7 = (m : Int) ∧ m < 30) ∧ (0 ≤ fI h 1 8 ∧ fI h 1 8 ≤ 30) ∧ fI h 1 8 = (c : Int) ∧ (fI h 1 5 = (n : Int) ∧ n ≤ 8) ∧ fI h 77 1 = fI h 1 1 := by
  obtain ⟨T, cs, hr, hl, hm, hc⟩ := REL_T hJ r
  obtain ⟨T1, T2, s, es, hs0⟩ := Zc_self hJ
  obtain ⟨r1, ⟨⟨m, c, n, hw⟩, r3⟩, r4, r6, r7, r8, r9, r10⟩ := r
  have hw : WRs (fI h) (fI h 2) (fI h 4) (fI h 77) m c n := hw
  have n1 : fI h 77 1 = fI h 1 1 := r3.1.1
  have hw0 := hw
  obtain ⟨hH, hN, hO, hI, hS, hP⟩ := hw0
  obtain ⟨⟨sm, sc, s7, s8, s5⟩, -⟩ := hS
  have b9 := hH.1.1.2.2.2.2.2.2.2.2
  have b99 := hH.2.1
  exact ⟨T, cs, T1, T2, s, m, c, n, (fI h 2 9).toNat, ⟨hr, hl, hc, hm⟩, ⟨es, SOK_self hs0 r9⟩, hw, ⟨by omega, by omega, hH.1⟩, ⟨s7, sm⟩, by omega, s8, ⟨hO.2.1, hO.1⟩, n1⟩
theorem RE_mid {h h1 : AH} {J : Int} {cs : List cCl} (hJ1 : k_H JB h1) (r : REL h) (e : ∀ k i, 61 ≤ k → hV h1 k i = hV h k i) (hm : LWM h J cs) (hc : CST cs) : RMH h1 J cs ∧ ∃ sM : SCM, Mc h1 (fI h 77) sM = h1 := by
  obtain ⟨-, -, -, -, -, -, -, r10⟩ := r
  refine ⟨⟨hJ1, LWM_f (fun i _ => e 79 i (by decide)) hm, hc, (e 76 25 (by decide)).trans r10⟩, ?_⟩
  have e77 : fI h1 77 = fI h 77 := funext fun i => fI_g (e 77 i (by decide))
  have y := Mc_self hJ1
  rw [e77] at y
  exact ⟨_, y⟩
theorem XC_tr {M : Nat} {as : List AV} {h g g' : AH} {r : Option AV} (e : g = h) (E : ∀ Q : Option AV → AH → Prop, XC 1000 M as g Q = Q r g') : ∀ Q : Option AV → AH → Prop, XC 1000 M as h Q = Q r g' := e ▸ E
/-- the answers' and the relation's end -/
theorem RE_end {h h1 h2 : AH} {r1 r2 : Option AV} {M1 M2 : Nat} {as1 as2 : List AV} {T1 T2 m c n : Nat} {W : Nat → Nat → Int} {f rw_ am : Nat → Int} {s : SCR} {sM : SCM} {z : Option AV} (hJ : k_H JB h) (hJ2 : k_H JB h2) (r : REL h) (E1 : ∀ Q : Option AV → AH → Prop, XC 1000 M1 as1 h Q = Q r1 h1) (E2 : ∀ Q : Option AV → AH → Prop, XC 1000 M2 as2 h1 Q = Q r2 h2) (C1 : ∀ Q : Option AV → AH → Prop, XC 1000 M1 as1 h Q = Q z (Zc h T1 T2 W f rw_ s)) (C2 : ∀ Q : Option AV → AH → Prop, XC 1000 M2 as2 h1 Q = Q z (Mc h1 am sM)) (hs : SOK s) (hw : WRs W f rw_ am m c n) (hF : FRM (fI h 77) am) : r2 = r1 ∧ REL h2 := by
  obtain ⟨q1, q2⟩ := XC_same E1 C1
  obtain ⟨p1, p2⟩ := XC_same E2 C2
  exact ⟨by rw [← p1, ← q1], REL_step hJ hJ2 r q2.symm p2.symm hs hw hF⟩
theorem RE_non {h h1 h2 : AH} {r1 r2 : Option AV} {M1 M2 : Nat} {as1 as2 : List AV} {z : Option AV} (r : REL h) (E1 : ∀ Q : Option AV → AH → Prop, XC 1000 M1 as1 h Q = Q r1 h1) (E2 : ∀ Q : Option AV → AH → Prop, XC 1000 M2 as2 h1 Q = Q r2 h2) (C1 : ∀ Q : Option AV → AH → Prop, XC 1000 M1 as1 h Q = Q z h) (C2 : h1 = h → ∀ Q : Option AV → AH → Prop, XC 1000 M2 as2 h1 Q = Q z h1) : r2 = r1 ∧ REL h2 := by
  obtain ⟨q1, q2⟩ := XC_same E1 C1
  obtain ⟨p1, p2⟩ := XC_same E2 (C2 q2.symm)
  exact ⟨by rw [← p1, ← q1], by rw [← p2, ← q2]; exact r⟩
theorem Zc_61 {h h1 : AH} {T1 T2 : Nat} {W : Nat → Nat → Int} {f rw_ : Nat → Int} {s : SCR} (e : Zc h T1 T2 W f rw_ s = h1) : ∀ k i, 61 ≤ k → hV h1 k i = hV h k i := fun k i hk => by rw [← e]; exact Zc_hi hk
/-- move -/
theorem RE_move {h h1 h2 : AH} {r1 r2 : Option AV} {v : Int} (hJ : k_H JB h) (hJ1 : k_H JB h1) (hJ2 : k_H JB h2) (r : REL h) (E1 : ∀ Q : Option AV → AH → Prop, XC 1000 126 [vR 0, vI v] h Q = Q r1 h1) (E2 : ∀ Q : Option AV → AH → Prop, XC 1000 257 [vR 76, vI v] h1 Q = Q r2 h2) : r2 = r1 ∧ REL h2 := by
  obtain ⟨T, cs, T1, T2, s, m, c, n, t, ⟨hr, hl, hc, hm⟩, ⟨es, hs⟩, hw, ⟨h9, ht, hk⟩, ⟨h7, hm30⟩, h8, -, -, -⟩ := RE_pre hJ r
  obtain ⟨s1, hs1, EC⟩ := E_mov (T1 := T1) (T2 := T2) (rw_ := fI h 4) (d := 992) hJ hr hl hc hk h9 hs h7 hm30 h8 (c := v)
  rw [es] at EC
  by_cases z : (-1 ≤ v ∧ v ≤ 1) ∧ t < 9999
  · have C1 : ∀ Q : Option AV → AH → Prop, XC 1000 126 [vR 0, vI v] h Q = Q (some (vI (TNf cs (fI h 2) (fI h 4) 1260 t v 1))) (Zc h T T (ksW (fI h) (fI h 2) m) (TNf cs (fI h 2) (fI h 4) 1260 t v) (rwT (fI h 2) (fI h 4) 1260 t v) s1) := fun Q => (EC Q).trans (if_pos z)
    obtain ⟨q1, q2⟩ := XC_same E1 C1
    obtain ⟨hR, sM, eM⟩ := RE_mid hJ1 r (Zc_61 q2) hm hc
    rcases E_mvW (am := fI h 77) (s := sM) (d := 992) hR rfl hw h9 (cm := v) with ⟨g1, g2, am', s', ⟨hw2, hF⟩, EM⟩ | ⟨g, EM⟩
    · exact RE_end hJ hJ2 r E1 E2 C1 (XC_tr eM EM) hs1 hw2 hF
    · exact absurd z g
  · refine RE_non r E1 E2 (fun Q => (EC Q).trans (if_neg z)) (fun eh => ?_)
    obtain ⟨hR, sM, eM⟩ := RE_mid hJ1 r (fun k i _ => by rw [eh]) hm hc
    rcases E_mvW (am := fI h 77) (s := sM) (d := 992) hR rfl hw h9 (cm := v) with ⟨g1, g2, g3⟩ | ⟨g, EM⟩
    · exact absurd ⟨g1, g2⟩ z
    · rw [eM] at EM
      exact EM
/-- run -/
theorem RE_run {h h1 h2 : AH} {r1 r2 : Option AV} {v : Int} (hv : -2147483648 ≤ v ∧ v ≤ 2147483647) (hJ : k_H JB h) (hJ1 : k_H JB h1) (hJ2 : k_H JB h2) (r : REL h) (E1 : ∀ Q : Option AV → AH → Prop, XC 1000 127 [vR 0, vI v] h Q = Q r1 h1) (E2 : ∀ Q : Option AV → AH → Prop, XC 1000 259 [vR 76, vI v] h1 Q = Q r2 h2) : r2 = r1 ∧ REL h2 := by
  obtain ⟨T, cs, T1, T2, s, m, c, n, t, ⟨hr, hl, hc, hm⟩, ⟨es, hs⟩, hw, ⟨h9, ht, hk⟩, ⟨h7, hm30⟩, h8, -, -, -⟩ := RE_pre hJ r
  obtain ⟨s1, hs1, EC⟩ := E_run (T1 := T1) (T2 := T2) (rw_ := fI h 4) (d := 991) hJ hr hl hc hk h9 ht hs h7 hm30 h8 (n := v)
  rw [es] at EC
  have hS : WRS (fI h, fI h 2, fI h 4, m, t) (fI h 77) c n := ⟨hw, h9⟩
  by_cases z : (1 ≤ v ∧ v ≤ 60) ∧ (t : Int) + v ≤ 9999
  · have C1 : ∀ Q : Option AV → AH → Prop, XC 1000 127 [vR 0, vI v] h Q = Q (some (vI ((rnS cs v.toNat (fI h, fI h 2, fI h 4, m, t)).2.1 1))) (ZSc h T T (rnS cs v.toNat (fI h, fI h 2, fI h 4, m, t)) s1) := fun Q => (EC Q).trans (if_pos z)
    obtain ⟨q1, q2⟩ := XC_same E1 C1
    obtain ⟨hR, sM, eM⟩ := RE_mid hJ1 r (Zc_61 q2) hm hc
    rcases E_ruW (am := fI h 77) (s := sM) (d := 990) hR rfl hS hv with ⟨g1, g2, am', s', c', ⟨hw2, hF⟩, EM⟩ | ⟨g, EM⟩
    · exact RE_end hJ hJ2 r E1 E2 C1 (XC_tr eM EM) hs1 hw2.1 hF
    · exact absurd z g
  · refine RE_non r E1 E2 (fun Q => (EC Q).trans (if_neg z)) (fun eh => ?_)
    obtain ⟨hR, sM, eM⟩ := RE_mid hJ1 r (fun k i _ => by rw [eh]) hm hc
    rcases E_ruW (am := fI h 77) (s := sM) (d := 990) hR rfl hS hv with ⟨g1, g2, g3⟩ | ⟨g, EM⟩
    · exact absurd ⟨g1, g2⟩ z
    · rw [eM] at EM
      exact EM
/-- hoist -/
theorem RE_hoist {h h1 h2 : AH} {r1 r2 : Option AV} {v : Int} (hJ : k_H JB h) (hJ1 : k_H JB h1) (hJ2 : k_H JB h2) (r : REL h) (E1 : ∀ Q : Option AV → AH → Prop, XC 1000 130 [vR 0, vI v] h Q = Q r1 h1) (E2 : ∀ Q : Option AV → AH → Prop, XC 1000 260 [vR 76, vI v] h1 Q = Q r2 h2) : r2 = r1 ∧ REL h2 := by
  obtain ⟨T, cs, T1, T2, s, m, c, n, t, ⟨hr, hl, hc, hm⟩, ⟨es, hs⟩, hw, ⟨h9, ht, hk⟩, ⟨h7, hm30⟩, h8, -, -, -⟩ := RE_pre hJ r
  have EC := fun Q => E_hoi (T1 := T1) (T2 := T2) (f := fI h 2) (rw_ := fI h 4) (s := s) (d := 997) hJ h7 hm30 h8 (v := v) Q
  rw [es] at EC
  by_cases z : 1 ≤ v ∧ v ≤ 24 ∧ ¬ v = fI h 2 5
  · have C1 : ∀ Q : Option AV → AH → Prop, XC 1000 130 [vR 0, vI v] h Q = Q (some (vI 1)) (Zc h T1 T2 (ksW (fI h) (fI h 2) m) (upF (fI h 2) 5 v) (fI h 4) s) := fun Q => (EC Q).trans (if_pos z)
    obtain ⟨q1, q2⟩ := XC_same E1 C1
    obtain ⟨hR, sM, eM⟩ := RE_mid hJ1 r (Zc_61 q2) hm hc
    rcases E_hoW (am := fI h 77) (s := sM) (d := 997) hJ1 hw (v := v) with ⟨g1, am', ⟨hw2, hF⟩, EM⟩ | ⟨g, EM⟩
    · exact RE_end hJ hJ2 r E1 E2 C1 (XC_tr eM EM) hs hw2 hF
    · exact absurd z g
  · refine RE_non r E1 E2 (fun Q => (EC Q).trans (if_neg z)) (fun eh => ?_)
    obtain ⟨hR, sM, eM⟩ := RE_mid hJ1 r (fun k i _ => by rw [eh]) hm hc
    rcases E_hoW (am := fI h 77) (s := sM) (d := 997) hJ1 hw (v := v) with ⟨g1, g2⟩ | ⟨g, EM⟩
    · exact absurd g1 z
    · rw [eM] at EM
      exact EM
/-- aim -/
theorem RE_aim {h h1 h2 : AH} {r1 r2 : Option AV} {v : Int} (hJ : k_H JB h) (hJ1 : k_H JB h1) (hJ2 : k_H JB h2) (r : REL h) (E1 : ∀ Q : Option AV → AH → Prop, XC 1000 131 [vR 0, vI v] h Q = Q r1 h1) (E2 : ∀ Q : Option AV → AH → Prop, XC 1000 261 [vR 76, vI v] h1 Q = Q r2 h2) : r2 = r1 ∧ REL h2 := by
  obtain ⟨T, cs, T1, T2, s, m, c, n, t, ⟨hr, hl, hc, hm⟩, ⟨es, hs⟩, hw, ⟨h9, ht, hk⟩, ⟨h7, hm30⟩, h8, -, -, -⟩ := RE_pre hJ r
  have EC := fun Q => E_aim (T1 := T1) (T2 := T2) (f := fI h 2) (rw_ := fI h 4) (s := s) (d := 997) hJ h7 hm30 h8 (v := v) Q
  rw [es] at EC
  by_cases z : 0 ≤ v ∧ v ≤ 600 ∧ ¬ v = fI h 2 8
  · have C1 : ∀ Q : Option AV → AH → Prop, XC 1000 131 [vR 0, vI v] h Q = Q (some (vI 1)) (Zc h T1 T2 (ksW (fI h) (fI h 2) m) (upF (fI h 2) 8 v) (fI h 4) s) := fun Q => (EC Q).trans (if_pos z)
    obtain ⟨q1, q2⟩ := XC_same E1 C1
    obtain ⟨hR, sM, eM⟩ := RE_mid hJ1 r (Zc_61 q2) hm hc
    rcases E_aiW (am := fI h 77) (s := sM) (d := 997) hJ1 hw (v := v) with ⟨g1, am', ⟨hw2, hF⟩, EM⟩ | ⟨g, EM⟩
    · exact RE_end hJ hJ2 r E1 E2 C1 (XC_tr eM EM) hs hw2 hF
    · exact absurd z g
  · refine RE_non r E1 E2 (fun Q => (EC Q).trans (if_neg z)) (fun eh => ?_)
    obtain ⟨hR, sM, eM⟩ := RE_mid hJ1 r (fun k i _ => by rw [eh]) hm hc
    rcases E_aiW (am := fI h 77) (s := sM) (d := 997) hJ1 hw (v := v) with ⟨g1, g2⟩ | ⟨g, EM⟩
    · exact absurd g1 z
    · rw [eM] at EM
      exact EM
/-- hook -/
theorem RE_hook {h h1 h2 : AH} {r1 r2 : Option AV} {v : Int} (hJ : k_H JB h) (hJ1 : k_H JB h1) (hJ2 : k_H JB h2) (r : REL h) (E1 : ∀ Q : Option AV → AH → Prop, XC 1000 132 [vR 0, vI v] h Q = Q r1 h1) (E2 : ∀ Q : Option AV → AH → Prop, XC 1000 262 [vR 76, vI v] h1 Q = Q r2 h2) : r2 = r1 ∧ REL h2 := by
  obtain ⟨T, cs, T1, T2, s, m, c, n, t, ⟨hr, hl, hc, hm⟩, ⟨es, hs⟩, hw, ⟨h9, ht, hk⟩, ⟨h7, hm30⟩, h8, -, ⟨h5, hn8⟩, -⟩ := RE_pre hJ r
  have b5 : 0 ≤ fI h 1 5 ∧ fI h 1 5 ≤ 8 := by omega
  by_cases y : 0 ≤ v ∧ v ≤ fI h 1 5 - 1
  · obtain ⟨o, rfl⟩ : ∃ o : Nat, v = (o : Int) := ⟨v.toNat, by omega⟩
    have hon : o < n := by omega
    have q := hw.2.2.1.2.2.2 o hon
    obtain ⟨-, -, -, ⟨y0, y1⟩, -⟩ := q
    have EC := fun Q => E_hok (T1 := T1) (T2 := T2) (f := fI h 2) (rw_ := fI h 4) (s := s) (d := 997) hJ h7 hm30 h8 b5 (o := o) (by omega) ⟨y0, by omega⟩ Q
    rw [es] at EC
    by_cases z : fI h 2 11 = -1 ∧ bitF (fI h 2 12) o = 0
    · have C1 : ∀ Q : Option AV → AH → Prop, XC 1000 132 [vR 0, vI (o : Int)] h Q = Q (some (vI 1)) (Zc h T1 T2 (ksW (fI h) (fI h 2) m) (hkF (fI h) (fI h 2) o) (fI h 4) s) := fun Q => (EC Q).trans (if_pos z)
      obtain ⟨q1, q2⟩ := XC_same E1 C1
      obtain ⟨hR, sM, eM⟩ := RE_mid hJ1 r (Zc_61 q2) hm hc
      rcases E_hkW (am := fI h 77) (s := sM) (d := 997) hJ1 hw hon with ⟨g1, am', ⟨hw2, hF⟩, EM⟩ | ⟨g, EM⟩
      · exact RE_end hJ hJ2 r E1 E2 C1 (XC_tr eM EM) hs hw2 hF
      · exact absurd z g
    · refine RE_non r E1 E2 (fun Q => (EC Q).trans (if_neg z)) (fun eh => ?_)
      obtain ⟨hR, sM, eM⟩ := RE_mid hJ1 r (fun k i _ => by rw [eh]) hm hc
      rcases E_hkW (am := fI h 77) (s := sM) (d := 997) hJ1 hw hon with ⟨g1, g2⟩ | ⟨g, EM⟩
      · exact absurd g1 z
      · rw [eM] at EM
        exact EM
  · have EC := fun Q => E_hok0 (T1 := T1) (T2 := T2) (f := fI h 2) (rw_ := fI h 4) (s := s) (d := 997) hJ b5 y Q
    rw [es] at EC
    refine RE_non r E1 E2 EC (fun eh => ?_)
    obtain ⟨hR, sM, eM⟩ := RE_mid hJ1 r (fun k i _ => by rw [eh]) hm hc
    have EM := fun Q => E_hkW0 (am := fI h 77) (s := sM) (d := 997) hJ1 hw.2.2.1.2.2.1 hn8 (by rw [← h5]; exact y) Q
    rw [eM] at EM
    exact EM
/-- land -/
theorem RE_land {h h1 h2 : AH} {r1 r2 : Option AV} (hJ : k_H JB h) (hJ1 : k_H JB h1) (hJ2 : k_H JB h2) (r : REL h) (E1 : ∀ Q : Option AV → AH → Prop, XC 1000 133 [vR 0] h Q = Q r1 h1) (E2 : ∀ Q : Option AV → AH → Prop, XC 1000 263 [vR 76] h1 Q = Q r2 h2) : r2 = r1 ∧ REL h2 := by
  obtain ⟨T, cs, T1, T2, s, m, c, n, t, ⟨hr, hl, hc, hm⟩, ⟨es, hs⟩, hw, ⟨h9, ht, hk⟩, ⟨h7, hm30⟩, h8, -, ⟨h5, hn8⟩, hn⟩ := RE_pre hJ r
  obtain ⟨-, -, x11, -, x13, -⟩ := hw.1
  have n11 := hw.2.1.2.1
  have p8 := pcB_8 (b := fI h 2 12)
  by_cases y : fI h 2 11 = -1
  · have EC := fun Q => E_lan0 (T1 := T1) (T2 := T2) (W := fI h) (rw_ := fI h 4) (s := s) (d := 999) hJ y Q
    rw [es] at EC
    refine RE_non r E1 E2 EC (fun eh => ?_)
    obtain ⟨hR, sM, eM⟩ := RE_mid hJ1 r (fun k i _ => by rw [eh]) hm hc
    have EM := fun Q => E_laW0 (am := fI h 77) (s := sM) (d := 999) hJ1 (n11.trans y) Q
    rw [eM] at EM
    exact EM
  · obtain ⟨o, ho⟩ : ∃ o : Nat, fI h 2 11 = (o : Int) := ⟨(fI h 2 11).toNat, by omega⟩
    obtain ⟨k, hk13⟩ : ∃ k : Nat, fI h 2 13 = (k : Int) := ⟨(fI h 2 13).toNat, by omega⟩
    have EC := fun Q => E_lan (T1 := T1) (T2 := T2) (rw_ := fI h 4) (s := s) (d := 996) hJ h7 hm30 h8 hk.1 (I_1_1 hJ).1 ho (by omega) hk13 (by omega) Q
    rw [es] at EC
    by_cases z : hsF (fI h 2) (fI h 1 1) = 1
    · have C1 : ∀ Q : Option AV → AH → Prop, XC 1000 133 [vR 0] h Q = Q (some (vI (o : Int))) (Zc h T1 T2 (wdW (ksW (fI h) (fI h 2) m) k (o : Int) (fI h 2 9)) (wdnF (fI h 2) k o) (fI h 4) s) := fun Q => (EC Q).trans (if_pos z)
      obtain ⟨q1, q2⟩ := XC_same E1 C1
      obtain ⟨hR, sM, eM⟩ := RE_mid hJ1 r (Zc_61 q2) hm hc
      rcases E_laW (am := fI h 77) (s := sM) (d := 997) hJ1 hw hn ho hk13 with ⟨g1, am', ⟨hw2, hF⟩, EM⟩ | ⟨g, EM⟩
      · exact RE_end hJ hJ2 r E1 E2 C1 (XC_tr eM EM) hs hw2 hF
      · exact absurd z g
    · refine RE_non r E1 E2 (fun Q => (EC Q).trans (if_neg z)) (fun eh => ?_)
      obtain ⟨hR, sM, eM⟩ := RE_mid hJ1 r (fun k i _ => by rw [eh]) hm hc
      rcases E_laW (am := fI h 77) (s := sM) (d := 997) hJ1 hw hn ho hk13 with ⟨g1, g2⟩ | ⟨g, EM⟩
      · exact absurd g1 z
      · rw [eM] at EM
        exact EM
/-- undo -/
theorem RE_undo {h h1 h2 : AH} {r1 r2 : Option AV} (hJ : k_H JB h) (hJ1 : k_H JB h1) (hJ2 : k_H JB h2) (r : REL h) (E1 : ∀ Q : Option AV → AH → Prop, XC 1000 137 [vR 0] h Q = Q r1 h1) (E2 : ∀ Q : Option AV → AH → Prop, XC 1000 255 [vR 76] h1 Q = Q r2 h2) : r2 = r1 ∧ REL h2 := by
  obtain ⟨T, cs, T1, T2, s, m, c, n, t, ⟨hr, hl, hc, hm⟩, ⟨es, hs⟩, hw, ⟨h9, ht, hk⟩, ⟨h7, hm30⟩, h8, h8c, -, -⟩ := RE_pre hJ r
  have EC := fun Q => E_und (T1 := T1) (T2 := T2) (f := fI h 2) (rw_ := fI h 4) (s := s) (d := 997) hJ h7 hm30 h8 Q
  rw [es] at EC
  have a5 := hw.2.2.2.2.1.1.2.2.2.2
  by_cases z : fI h 1 8 = 0
  · refine RE_non r E1 E2 (fun Q => (EC Q).trans (if_pos z)) (fun eh => ?_)
    obtain ⟨hR, sM, eM⟩ := RE_mid hJ1 r (fun k i _ => by rw [eh]) hm hc
    have EM := fun Q => E_uM0 (am := fI h 77) (s := sM) (d := 999) hJ1 (by rw [a5, ← h8c]; exact z) Q
    rw [eM] at EM
    exact EM
  · obtain ⟨c, rfl⟩ : ∃ c' : Nat, c = c' + 1 := ⟨c - 1, by omega⟩
    have e8 : fI h 1 8 - 1 = (c : Int) := by omega
    have C1 : ∀ Q : Option AV → AH → Prop, XC 1000 137 [vR 0] h Q = Q (some (vI (c : Int))) (Zc h T1 T2 (tkW (fI h) m) (tkF (fI h) (fI h 2) m) (fI h 4) s) := fun Q => by
      have y := (EC Q).trans (if_neg z)
      rw [e8] at y
      exact y
    obtain ⟨q1, q2⟩ := XC_same E1 C1
    obtain ⟨hR, sM, eM⟩ := RE_mid hJ1 r (Zc_61 q2) hm hc
    obtain ⟨am', ⟨hw2, hF⟩, EM⟩ := E_unW (am := fI h 77) (s := sM) (d := 999) hJ1 hw
    exact RE_end hJ hJ2 r E1 E2 C1 (XC_tr eM EM) hs hw2 hF
/-- order -/
theorem RE_order {h h1 h2 : AH} {r1 r2 : Option AV} {va vb vc vd ve : Int} (hJ : k_H JB h) (hJ1 : k_H JB h1) (hJ2 : k_H JB h2) (r : REL h) (E1 : ∀ Q : Option AV → AH → Prop, XC 1000 118 [vR 0, vI va, vI vb, vI vc, vI vd, vI ve] h Q = Q r1 h1) (E2 : ∀ Q : Option AV → AH → Prop, XC 1000 189 [vR 76, vI va, vI vb, vI vc, vI vd, vI ve] h1 Q = Q r2 h2) : r2 = r1 ∧ REL h2 := by
  obtain ⟨T, cs, T1, T2, s, m, c, n, t, ⟨hr, hl, hc, hm⟩, ⟨es, hs⟩, hw, ⟨h9, ht, hk⟩, ⟨h7, hm30⟩, h8, -, ⟨h5, hn8⟩, -⟩ := RE_pre hJ r
  have EC := fun Q => E_orC (T1 := T1) (T2 := T2) (f := fI h 2) (rw_ := fI h 4) (s := s) (d := 998) hJ h5 hn8 (va := va) (vb := vb) (vc := vc) (vd := vd) (ve := ve) Q
  rw [es] at EC
  have a0 := hw.2.2.1.2.2.1
  by_cases z : ORc va vb vc vd ve ∧ n < 8
  · have C1 : ∀ Q : Option AV → AH → Prop, XC 1000 118 [vR 0, vI va, vI vb, vI vc, vI vd, vI ve] h Q = Q (some (vI (n : Int))) (Zc h T1 T2 (orW (fI h) n va vb vc vd ve) (fI h 2) (fI h 4) s) := fun Q => (EC Q).trans (if_pos z)
    obtain ⟨q1, q2⟩ := XC_same E1 C1
    obtain ⟨hR, sM, eM⟩ := RE_mid hJ1 r (Zc_61 q2) hm hc
    have EM : ∀ Q : Option AV → AH → Prop, XC 1000 189 [vR 76, vI va, vI vb, vI vc, vI vd, vI ve] (Mc h1 (fI h 77) sM) Q = Q (some (vI (n : Int))) (Mc h1 (orA (fI h 77) n va vb vc vd ve) sM) := fun Q => (E_orM (d := 998) hJ1 a0 hn8 Q).trans (if_pos z)
    exact RE_end hJ hJ2 r E1 E2 C1 (XC_tr eM EM) hs (WR_ord hw z.2 z.1) (FRM_or z.2)
  · refine RE_non r E1 E2 (fun Q => (EC Q).trans (if_neg z)) (fun eh => ?_)
    obtain ⟨hR, sM, eM⟩ := RE_mid hJ1 r (fun k i _ => by rw [eh]) hm hc
    have EM : ∀ Q : Option AV → AH → Prop, XC 1000 189 [vR 76, vI va, vI vb, vI vc, vI vd, vI ve] (Mc h1 (fI h 77) sM) Q = Q (some (vI (-1))) (Mc h1 (fI h 77) sM) := fun Q => (E_orM (d := 998) hJ1 a0 hn8 Q).trans (if_neg z)
    rw [eM] at EM
    exact EM
/-- storm -/
theorem RE_storm {h h1 h2 : AH} {r1 r2 : Option AV} {v x : Int} (hx : -2147483648 ≤ x ∧ x ≤ 2147483647) (hJ : k_H JB h) (hJ1 : k_H JB h1) (hJ2 : k_H JB h2) (r : REL h) (E1 : ∀ Q : Option AV → AH → Prop, XC 1000 136 [vR 0, vI v, vI x] h Q = Q r1 h1) (E2 : ∀ Q : Option AV → AH → Prop, XC 1000 266 [vR 76, vI v, vI x] h1 Q = Q r2 h2) : r2 = r1 ∧ REL h2 := by
  obtain ⟨T, cs, T1, T2, s, m, c, n, t, ⟨hr, hl, hc, hm⟩, ⟨es, hs⟩, hw, ⟨h9, ht, hk⟩, ⟨h7, hm30⟩, h8, -, -, -⟩ := RE_pre hJ r
  rcases E_stC (T1 := T1) (T2 := T2) (rw_ := fI h 4) (d := 992) hJ hr hl hc hk h9 ht hs h7 hm30 h8 (v := v) hx with ⟨z1, z2, z3, s1, hs1, EC⟩ | ⟨z, EC⟩
  · rw [es] at EC
    obtain ⟨q1, q2⟩ := XC_same E1 EC
    obtain ⟨hR, sM, eM⟩ := RE_mid hJ1 r (Zc_61 q2) hm hc
    rcases E_stM (am := fI h 77) (s := sM) (d := 993) hR rfl hw h9 (v := v) hx with ⟨-, -, -, am', s', ⟨hw2, hF⟩, EM⟩ | ⟨g, EM⟩
    · exact RE_end hJ hJ2 r E1 E2 EC (XC_tr eM EM) hs1 hw2 hF
    · exact absurd ⟨z1, z2, z3⟩ g
  · rw [es] at EC
    refine RE_non r E1 E2 EC (fun eh => ?_)
    obtain ⟨hR, sM, eM⟩ := RE_mid hJ1 r (fun k i _ => by rw [eh]) hm hc
    rcases E_stM (am := fI h 77) (s := sM) (d := 993) hR rfl hw h9 (v := v) hx with ⟨g1, g2, g3, g4⟩ | ⟨g, EM⟩
    · exact absurd ⟨g1, g2, g3⟩ z
    · rw [eM] at EM
      exact EM
