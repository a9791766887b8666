/-! what a clause holds -/
theorem nmW_v {tk : Nat → Int × Int} {lo hi : Int} {x : cX} {j2 : Nat} {vs : List Int} (h : nmW tk lo hi x = .inr (j2, vs)) : ∃ (j : Nat) (vs' : List Int) (v : Int), x = .inr (j, vs') ∧ vs = vs' ++ [v] ∧ lo ≤ v ∧ v ≤ hi := by
  cases x with
  | inl r => cases h
  | inr p =>
    obtain ⟨j, vs'⟩ := p
    have h : (if (tk j).1 = 60 then (if lo ≤ (tk j).2 ∧ (tk j).2 ≤ hi then .inr (j + 1, vs' ++ [(tk j).2]) else .inl (2, j)) else .inl (1, j) : cX) = .inr (j2, vs) := h
    split at h
    · split at h
      · rename_i z
        have e : vs' ++ [(tk j).2] = vs := congrArg Prod.snd (Sum.inr.inj h)
        exact ⟨j, vs', _, rfl, e.symm, z.1, z.2⟩
      · cases h
    · cases h
theorem siV_v {tk : Nat → Int × Int} {x : cX} {j2 : Nat} {vs : List Int} (h : siV tk x = .inr (j2, vs)) : ∃ (j : Nat) (vs' : List Int) (v : Int), x = .inr (j, vs') ∧ vs = vs' ++ [v] ∧ -1 ≤ v ∧ v ≤ 1 := by
  cases x with
  | inl r => cases h
  | inr p =>
    obtain ⟨j, vs'⟩ := p
    have h : (if 22 ≤ (tk j).1 ∧ (tk j).1 ≤ 24 then .inr (j + 1, vs' ++ [(tk j).1 - 23]) else .inl (1, j) : cX) = .inr (j2, vs) := h
    split at h
    · rename_i z
      have e : vs' ++ [(tk j).1 - 23] = vs := congrArg Prod.snd (Sum.inr.inj h)
      exact ⟨j, vs', _, rfl, e.symm, by omega, by omega⟩
    · cases h
def CLv (cl : cCl) : Prop := (cl.1 = 5 → cl.2.2.length = 5) ∧ (cl.1 = 6 → ∃ v : Int, cl.2.2 = [v] ∧ -1 ≤ v ∧ v ≤ 1) ∧ (cl.1 = 7 → ∃ v : Int, cl.2.2 = [v] ∧ 1 ≤ v ∧ v ≤ 60) ∧ (cl.1 = 8 ∨ cl.1 = 9 ∨ cl.1 = 16 → ∃ v : Int, cl.2.2 = [v] ∧ 0 ≤ v ∧ v ≤ 600)
theorem nm_1 {tk : Nat → Int × Int} {lo hi : Int} {j j2 : Nat} {vs : List Int} (h : nmW tk lo hi (.inr (j, [])) = .inr (j2, vs)) : ∃ v : Int, vs = [v] ∧ lo ≤ v ∧ v ≤ hi := by
  obtain ⟨j0, v0, v, e, e2, h1, h2⟩ := nmW_v h
  have e : ([] : List Int) = v0 := congrArg Prod.snd (Sum.inr.inj e)
  rw [← e] at e2
  exact ⟨v, e2, h1, h2⟩
theorem bdV_v {tk : Nat → Int × Int} {K : Int} {j j2 : Nat} {vs : List Int} (h : bdV tk K j = .inr (j2, vs)) : CLv (K, [], vs) := by
  refine ⟨fun e => ?_, fun e => ?_, fun e => ?_, fun e => ?_⟩
  · have e : K = 5 := e
    subst e
    have h : nmW tk 0 1 (tkV tk 23 (nmW tk 0 9 (tkV tk 21 (nmW tk 0 999 (tkV tk 20 (nmW tk 0 60 (tkV tk 19 (nmW tk 1 99 (.inr (j, [])))))))))) = .inr (j2, vs) := by
      rw [show bdV tk 5 j = r66_0 tk (.inr (j, [])) from if_pos rfl] at h
      exact h
    obtain ⟨j9, v9, h, l9⟩ := nmW_g h
    obtain ⟨j8, v8, h, l8⟩ := tkV_g h
    obtain ⟨j7, v7, h, l7⟩ := nmW_g h
    obtain ⟨j6, v6, h, l6⟩ := tkV_g h
    obtain ⟨j5, v5, h, l5⟩ := nmW_g h
    obtain ⟨j4, v4, h, l4⟩ := tkV_g h
    obtain ⟨j3, v3, h, l3⟩ := nmW_g h
    obtain ⟨j1, v1, h, l1⟩ := tkV_g h
    obtain ⟨j0, v0, h, l0⟩ := nmW_g h
    have e := inr_l h
    have e1 : v0.length = 0 := by rw [← e]; rfl
    show vs.length = 5
    omega
  · have e : K = 6 := e
    subst e
    rw [show bdV tk 6 j = siV tk (.inr (j, [])) from (if_neg (by decide)).trans (if_pos rfl)] at h
    obtain ⟨j0, v0, v, e, e2, h1, h2⟩ := siV_v h
    have e : ([] : List Int) = v0 := congrArg Prod.snd (Sum.inr.inj e)
    rw [← e] at e2
    exact ⟨v, e2, h1, h2⟩
  · have e : K = 7 := e
    subst e
    rw [show bdV tk 7 j = nmW tk 1 60 (.inr (j, [])) from (if_neg (by decide)).trans ((if_neg (by decide)).trans (if_pos rfl))] at h
    exact nm_1 h
  · have e : K = 8 ∨ K = 9 ∨ K = 16 := e
    rcases e with rfl | rfl | rfl
    · rw [show bdV tk 8 j = nmW tk 0 600 (.inr (j, [])) from (if_neg (by decide)).trans ((if_neg (by decide)).trans ((if_neg (by decide)).trans (if_pos rfl)))] at h
      exact nm_1 h
    · rw [show bdV tk 9 j = nmW tk 0 7 (.inr (j, [])) from (if_neg (by decide)).trans ((if_neg (by decide)).trans ((if_neg (by decide)).trans ((if_neg (by decide)).trans (if_pos rfl))))] at h
      obtain ⟨v, h1, h2, h3⟩ := nm_1 h
      exact ⟨v, h1, h2, by omega⟩
    · rw [show bdV tk 16 j = nmW tk 1 24 (.inr (j, [])) from (if_neg (by decide)).trans ((if_neg (by decide)).trans ((if_neg (by decide)).trans ((if_neg (by decide)).trans ((if_neg (by decide)).trans (if_pos rfl)))))] at h
      obtain ⟨v, h1, h2, h3⟩ := nm_1 h
      exact ⟨v, h1, by omega, by omega⟩
theorem CLo_v {tk : Nat → Int × Int} {cs : List cCl} {j j' : Nat} {cl : cCl} (h : CLo tk cs j (.inr (j', cl))) : CLv cl := by
  unfold CLo at h
  split at h
  · cases h
  split at h
  · cases h
  split at h
  · cases h
  split at h
  · rename_i z5
    obtain ⟨f, jf, c, m, _, h⟩ := h
    unfold fiC at h
    split at h
    · cases h
    split at h
    · have h := congrArg Prod.snd (Sum.inr.inj h)
      have h : cl = ((tk j).1, c, []) := h
      subst h
      refine ⟨fun e => ?_, fun e => ?_, fun e => ?_, fun e => ?_⟩
      · have e : (tk j).1 = 5 := e
        omega
      · have e : (tk j).1 = 6 := e
        omega
      · have e : (tk j).1 = 7 := e
        omega
      · have e : (tk j).1 = 8 ∨ (tk j).1 = 9 ∨ (tk j).1 = 16 := e
        omega
    · cases h
  · cases hb : bdV tk (tk j).1 (j + 1) with
    | inl r => rw [hb] at h; cases h
    | inr q =>
      obtain ⟨j2, vs⟩ := q
      rw [hb] at h
      have h : (.inr (j', cl) : (Int × Nat) ⊕ (Nat × cCl)) = (if (tk j2).1 = 52 then .inr (j2 + 1, ((tk j).1, [], vs)) else .inl (1, j2)) := h
      split at h
      · have h := congrArg Prod.snd (Sum.inr.inj h)
        have h : cl = ((tk j).1, [], vs) := h
        subst h
        exact bdV_v hb
      · cases h
theorem RDo_v {tk : Nat → Int × Int} {cs' : List cCl} : ∀ (m : Nat) (cs : List cCl) (j : Nat), RDo tk m cs j (.inr cs') → (∀ cl, cl ∈ cs → CLv cl) → ∀ cl, cl ∈ cs' → CLv cl := by
  intro m
  induction m with
  | zero =>
    intro cs j h hk
    have h2 := h.2
    have h2 : cs' = cs := Sum.inr.inj h2
    rw [h2]; exact hk
  | succ m ih =>
    intro cs j h hk
    obtain ⟨_, o, ho, hr⟩ := h
    cases o with
    | inl r => cases hr
    | inr q =>
      obtain ⟨j', cl⟩ := q
      refine ih (cs ++ [cl]) j' hr (fun c hc => ?_)
      rcases List.mem_append.mp hc with hc | hc
      · exact hk c hc
      · rcases List.mem_cons.mp hc with rfl | hc
        · exact CLo_v ho
        · cases hc
/-! a text of both -/
def TXJ (h : AH) (J : Nat) (cs : List cCl) : Prop := RAWT h J cs ∧ (∃ (gm : Nat → Int) (W : Nat), (∀ i, i < 3012 → hV h 79 i = vI (gm i)) ∧ W ≤ 300 ∧ TMR J gm cs W) ∧ CSk cs ∧ CSn cs ∧ ∀ cl, cl ∈ cs → CLv cl
/-- the lawless text -/
def TXZ (h : AH) : Prop := ∃ dd : Nat → Int, (∀ i, i < 5 → hV h 48 i = vI (-1)) ∧ (∀ i, i < 5 → hV h 49 i = vI (-1)) ∧ ∀ i, i < 300 → hV h 47 i = vI (dd i)
theorem CLM_f {J W i : Nat} {g g' : Nat → Int} {cl : cCl} (hi : i < 24) (h5 : cl.2.2.length ≤ 5) (hW : W ≤ 300) (e : ∀ x, 753 * J ≤ x → x < 753 * J + 753 → g' x = g x) (h : CLM J g i cl W) : CLM J g' i cl W := by
  obtain ⟨h1, h2, h3⟩ := h
  refine ⟨(e _ (by omega) (by omega)).trans h1, fun z => ?_, fun z k v hk => ?_⟩
  · obtain ⟨w, a1, a2, a3, a4⟩ := h2 z
    refine ⟨w, a1, (e _ (by omega) (by omega)).trans a2, (e _ (by omega) (by omega)).trans a3, fun k p hp => ?_⟩
    have l := gq_l _ _ _ hp
    obtain ⟨b1, b2⟩ := a4 k p hp
    exact ⟨(e _ (by omega) (by omega)).trans b1, (e _ (by omega) (by omega)).trans b2⟩
  · have l := gq_l _ _ _ hk
    exact (e _ (by omega) (by omega)).trans (h3 z k v hk)
theorem TMR_f {J W : Nat} {g g' : Nat → Int} {cs : List cCl} (h24 : cs.length ≤ 24) (h5 : ∀ cl, cl ∈ cs → cl.2.2.length ≤ 5) (hW : W ≤ 300) (e : ∀ x, 753 * J ≤ x → x < 753 * J + 753 → g' x = g x) (h : TMR J g cs W) : TMR J g' cs W := by
  refine ⟨(e _ (by omega) (by omega)).trans h.1, fun i cl hc => ?_⟩
  have l := gq_l _ _ _ hc
  exact CLM_f (by omega) (h5 cl (List.mem_of_getElem? hc)) hW e (h.2 i cl hc)
/-- a text isn't touched -/
def tjG (J k i : Nat) : Prop := (k = 22 + 6 * J ∧ 5 ≤ i ∧ i ≤ 6) ∨ (k = 23 + 6 * J ∧ i < 300) ∨ (k = 24 + 6 * J ∧ i < 5) ∨ (k = 25 + 6 * J ∧ i < 5) ∨ (k = 26 + 6 * J ∧ i < 24) ∨ (k = 27 + 6 * J ∧ i < 120)
theorem tjG_r {J : Nat} : tjG J (22 + 6 * J) 5 ∧ tjG J (22 + 6 * J) 6 ∧ (∀ i, i < 300 → tjG J (23 + 6 * J) i) ∧ (∀ i, i < 5 → tjG J (22 + 6 * J + 2) i) ∧ (∀ i, i < 5 → tjG J (22 + 6 * J + 3) i) ∧ (∀ i, i < 24 → tjG J (22 + 6 * J + 4) i) ∧ ∀ i, i < 120 → tjG J (22 + 6 * J + 5) i := by
  unfold tjG
  exact ⟨by omega, by omega, fun i hi => by omega, fun i hi => by omega, fun i hi => by omega, fun i hi => by omega, fun i hi => by omega⟩
theorem TXJ_f {h h' : AH} {J : Nat} {cs : List cCl} (hJ : k_H JB h') (hJ4 : J < 4) (e1 : ∀ k i, tjG J k i → hV h' k i = hV h k i) (e2 : ∀ i, 753 * J ≤ i → i < 753 * J + 753 → hV h' 79 i = hV h 79 i) (t : TXJ h J cs) : TXJ h' J cs := by
  obtain ⟨⟨bg, en, kd, ag, L, dd, r1, r2, r3, r4, r5, r6, r7, r8, r9⟩, ⟨gm, W, g1, g2, g3⟩, t3, t4, t5⟩ := t
  obtain ⟨x1, x2, x3, x4, x5, x6, x7⟩ := tjG_r (J := J)
  refine ⟨⟨bg, en, kd, ag, L, dd, (e1 _ _ x1).trans r1, (e1 _ _ x2).trans r2, fun i hi => (e1 _ _ (x3 i hi)).trans (r3 i hi), fun i hi => (e1 _ _ (x4 i hi)).trans (r4 i hi), fun i hi => (e1 _ _ (x5 i hi)).trans (r5 i hi), fun i hi => (e1 _ _ (x6 i hi)).trans (r6 i hi), fun i hi => (e1 _ _ (x7 i hi)).trans (r7 i hi), r8, r9⟩, ⟨fI h' 79, W, fun i hi => (A_79_1 (i := i) hJ (Nat.zero_le _) hi).1, g2, ?_⟩, t3, t4, t5⟩
  refine TMR_f r9 (fun cl hc => (t3.1 cl hc).2) g2 (fun x hx1 hx2 => ?_) g3
  have q1 := (A_79_1 (i := x) hJ (Nat.zero_le _) (by omega)).1
  have q2 := g1 x (by omega)
  rw [e2 x hx1 hx2, q2] at q1
  exact (Sum.inl.inj q1).symm
theorem TD_rng {J : Nat} (hJ4 : J < 4) : (22 ≤ 22 + 6 * J ∧ 22 + 6 * J + 3 < 52) ∧ 22 ≤ 23 + 6 * J ∧ 23 + 6 * J < 52 := by omega
theorem TXJ_C {h : AH} (hJ : k_H JB h) {J : Nat} (hJ4 : J < 4) {cs : List cCl} (t : TXJ h J cs) : LWC h (22 + 6 * J) cs := by
  obtain ⟨⟨bg, en, kd, ag, L, dd, r1, r2, r3, r4, r5, r6, r7, r8, r9⟩, _, t3, t4, t5⟩ := t
  refine ⟨23 + 6 * J, bg, en, kd, ag, L, dd, TD_rng hJ4, ?_, r8, ?_⟩
  · have hJ3 : J = 0 ∨ J = 1 ∨ J = 2 ∨ J = 3 := by omega
    rcases hJ3 with rfl | rfl | rfl | rfl
    · exact ⟨⟨K_22 hJ, K_24 hJ, K_25 hJ, K_23 hJ⟩, ⟨F_22_0 hJ, F_22_1 hJ, F_22_2 hJ⟩, r4, r5, r3, fun i hi => by
        have q := A_23_0 (i := i) hJ (Nat.zero_le _) hi
        have e := (Sum.inl.inj (q.1.symm.trans (r3 i hi)))
        rw [← e]; exact q.2.2⟩
    · exact ⟨⟨K_28 hJ, K_30 hJ, K_31 hJ, K_29 hJ⟩, ⟨F_28_0 hJ, F_28_1 hJ, F_28_2 hJ⟩, r4, r5, r3, fun i hi => by
        have q := A_29_0 (i := i) hJ (Nat.zero_le _) hi
        have e := (Sum.inl.inj (q.1.symm.trans (r3 i hi)))
        rw [← e]; exact q.2.2⟩
    · exact ⟨⟨K_34 hJ, K_36 hJ, K_37 hJ, K_35 hJ⟩, ⟨F_34_0 hJ, F_34_1 hJ, F_34_2 hJ⟩, r4, r5, r3, fun i hi => by
        have q := A_35_0 (i := i) hJ (Nat.zero_le _) hi
        have e := (Sum.inl.inj (q.1.symm.trans (r3 i hi)))
        rw [← e]; exact q.2.2⟩
    · exact ⟨⟨K_40 hJ, K_42 hJ, K_43 hJ, K_41 hJ⟩, ⟨F_40_0 hJ, F_40_1 hJ, F_40_2 hJ⟩, r4, r5, r3, fun i hi => by
        have q := A_41_0 (i := i) hJ (Nat.zero_le _) hi
        have e := (Sum.inl.inj (q.1.symm.trans (r3 i hi)))
        rw [← e]; exact q.2.2⟩
  · have hJ3 : J = 0 ∨ J = 1 ∨ J = 2 ∨ J = 3 := by omega
    rcases hJ3 with rfl | rfl | rfl | rfl
    · have q := I_22_5 hJ
      have e : fI h 22 5 = (L : Int) := Sum.inl.inj (q.1.symm.trans r1)
      omega
    · have q := I_28_5 hJ
      have e : fI h 28 5 = (L : Int) := Sum.inl.inj (q.1.symm.trans r1)
      omega
    · have q := I_34_5 hJ
      have e : fI h 34 5 = (L : Int) := Sum.inl.inj (q.1.symm.trans r1)
      omega
    · have q := I_40_5 hJ
      have e : fI h 40 5 = (L : Int) := Sum.inl.inj (q.1.symm.trans r1)
      omega
theorem TXJ_M {h : AH} {J : Nat} (hJ4 : J < 4) {cs : List cCl} (t : TXJ h J cs) : LWM h (J : Int) cs := by
  obtain ⟨⟨bg, en, kd, ag, L, dd, r1, r2, r3, r4, r5, r6, r7, r8, r9⟩, ⟨gm, W, g1, g2, g3⟩, t3, t4, t5⟩ := t
  exact Or.inr ⟨J, W, gm, rfl, hJ4, g2, g1, g3, t3, t4, r9⟩
theorem TXJ_T {h : AH} (hJ : k_H JB h) {J : Nat} (hJ4 : J < 4) {cs : List cCl} (t : TXJ h J cs) : CST cs := ⟨t.2.2.1, t.2.2.2.1, LWC_s t.2.2.1 (TXJ_C hJ hJ4 t)⟩
theorem TXZ_C {h : AH} (hJ : k_H JB h) (t : TXZ h) : LWC h 46 [] := by
  obtain ⟨dd, t1, t2, t3⟩ := t
  refine ⟨47, fun _ => -1, fun _ => -1, fun _ => 0, fun _ => 0, 0, dd, by decide, ⟨⟨K_46 hJ, K_48 hJ, K_49 hJ, K_47 hJ⟩, ⟨F_46_0 hJ, F_46_1 hJ, F_46_2 hJ⟩, t1, t2, t3, fun i hi => ?_⟩, ⟨fun w _ => Or.inl ⟨rfl, rfl⟩, fun i cl h => by cases i <;> cases h⟩, Nat.zero_le _⟩
  have q := A_47_0 (i := i) hJ (Nat.zero_le _) hi
  have e := (Sum.inl.inj (q.1.symm.trans (t3 i hi)))
  rw [← e]; exact q.2.2
theorem CST_0 : CST [] := by
  refine ⟨CSk_0, ?_, ?_⟩
  · intro cl h
    cases h
  · intro w _ cl h
    cases h
/-- text in both, and what it leaves -/
theorem TR_tx2 {h h1 h2 : AH} {r1 r2 : Option AV} (hJ : k_H JB h) (hJ1 : k_H JB h1) (q : TRp h) (E1 : ∀ Q : Option AV → AH → Prop, XC 1000 123 [vR 0] h Q = Q r1 h1) (E2 : ∀ Q : Option AV → AH → Prop, XC 1000 232 [vR 76] h1 Q = Q r2 h2) : (∃ (n J cnt : Nat) (sp : Nat → Nat) (out : (Int × Nat) ⊕ (List cCl)) (tk : Nat → Int × Int) (m : Nat), J < 4 ∧ hV h 1 2 = vI (J : Int) ∧ RDo tk m [] 0 out ∧ TXc h n J cnt sp out r1 h1 ∧ TXm h1 n J cnt sp out r2 h2) ∨ (hV h 1 2 = vI 4 ∧ h1 = h ∧ h2 = h1) := by
  obtain ⟨n, v11, hn, hf, hby⟩ := TP_n hJ
  obtain ⟨J, v2, hJ4⟩ := TX_n hJ
  obtain ⟨⟨b1, b2, b3⟩, b4, b5⟩ := q
  by_cases z : J < 4
  · obtain ⟨cnt, kn, vn, ep, sp, m, out, r, h', ho, hc, e⟩ := X_txC (d := 921) hJ v11 v2 z hf hby
    obtain ⟨q1, q2⟩ := XC_same E1 e
    subst q1 q2
    have hc2 := hc
    obtain ⟨⟨fr, g11, g12⟩, hc⟩ := hc
    have v4 : hV h' 76 4 = vI (n : Int) := (fr 76 4 (by omega)).trans (b1.symm.trans v11)
    have v3 : hV h' 77 3 = vI (J : Int) := (fr 77 3 (by omega)).trans (b2.symm.trans v2)
    have v80 : ∀ i, i < 300 → hV h' 80 i = vI (fI h 75 i) := fun i hi => (fr 80 i (by omega)).trans ((b4 i hi).symm.trans (hf i hi))
    obtain ⟨r3, h3, hm, e2⟩ := X_txM (d := 985) hJ1 v4 v3 z hn v80 hby ho
    obtain ⟨q1, q2⟩ := XC_same E2 e2
    subst q1 q2
    exact Or.inl ⟨n, J, cnt, sp, out, tkf cnt kn vn, m, z, v2, ho.2.2, hc2, hm⟩
  · obtain rfl : J = 4 := by omega
    obtain ⟨q1, q2⟩ := XC_same E1 (X_txC4 (d := 999) hJ v2)
    subst q1 q2
    obtain ⟨q3, q4⟩ := XC_same E2 (X_txM4 (d := 999) hJ (b2.symm.trans v2))
    subst q3 q4
    exact Or.inr ⟨v2, rfl, rfl⟩
