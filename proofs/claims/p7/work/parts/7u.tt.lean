/-! what a text comes to: the reference's rows -/
theorem gq_l {α : Type} : ∀ (l : List α) (k : Nat) (a : α), l[k]? = some a → k < l.length := by
  intro l
  induction l with
  | nil => intro k a h; cases h
  | cons x l ih =>
    intro k a h
    cases k with
    | zero => exact Nat.succ_pos _
    | succ k => exact Nat.succ_lt_succ (ih k a h)
theorem wrC_lo {P : Nat} : ∀ (c : oCd) (w : Nat) (g : Nat → Int) (i : Nat), i < P + 2 * w → wrC P w c g i = g i := by
  intro c
  induction c with
  | nil => intro w g i _; rfl
  | cons q c ih =>
    intro w g i hi
    show wrC P (w + 1) c (upF (upF g (P + 2 * w) q.1) (P + 2 * w + 1) q.2) i = g i
    rw [ih _ _ _ (by omega), upF_ne (by omega), upF_ne (by omega)]
theorem wrC_v {P : Nat} : ∀ (c : oCd) (w : Nat) (g : Nat → Int) (k : Nat) (p : Int × Int), c[k]? = some p → wrC P w c g (P + 2 * (w + k)) = p.1 ∧ wrC P w c g (P + 2 * (w + k) + 1) = p.2 := by
  intro c
  induction c with
  | nil => intro w g k p h; cases h
  | cons q c ih =>
    intro w g k p h
    cases k with
    | zero =>
      have h : q = p := Option.some.inj h
      subst h
      show wrC P (w + 1) c (upF (upF g (P + 2 * w) q.1) (P + 2 * w + 1) q.2) (P + 2 * w) = q.1 ∧ wrC P (w + 1) c (upF (upF g (P + 2 * w) q.1) (P + 2 * w + 1) q.2) (P + 2 * w + 1) = q.2
      rw [wrC_lo c _ _ _ (by omega), wrC_lo c _ _ _ (by omega)]
      exact ⟨by rw [upF_ne (by omega), upF_at], upF_at⟩
    | succ k =>
      show wrC P (w + 1) c (upF (upF g (P + 2 * w) q.1) (P + 2 * w + 1) q.2) (P + 2 * (w + (k + 1))) = p.1 ∧ wrC P (w + 1) c (upF (upF g (P + 2 * w) q.1) (P + 2 * w + 1) q.2) (P + 2 * (w + (k + 1)) + 1) = p.2
      rw [show w + (k + 1) = w + 1 + k by omega]
      exact ih (w + 1) _ k p h
theorem wrL_hi : ∀ (vs : List Int) (p : Nat) (g : Nat → Int) (i : Nat), p + vs.length ≤ i → wrL p vs g i = g i := by
  intro vs
  induction vs with
  | nil => intro p g i _; rfl
  | cons w vs ih =>
    intro p g i hi
    rw [List.length_cons] at hi
    show wrL (p + 1) vs (upF g p w) i = g i
    rw [ih _ _ _ (by omega), upF_ne (by omega)]
/-- the rows of clause i -/
def CLM (J : Nat) (g : Nat → Int) (i : Nat) (cl : cCl) (W : Nat) : Prop := g (753 * J + 1 + 6 * i) = soM cl.1 ∧ (cl.1 < 5 → ∃ w : Nat, w + cl.2.1.length ≤ W ∧ g (753 * J + 1 + 6 * i + 1) = (w : Int) ∧ g (753 * J + 1 + 6 * i + 2) = ((w + cl.2.1.length : Nat) : Int) ∧ ∀ (k : Nat) (p : Int × Int), cl.2.1[k]? = some p → g (753 * J + 145 + 2 * (w + k)) = p.1 ∧ g (753 * J + 145 + 2 * (w + k) + 1) = p.2) ∧ (¬ cl.1 < 5 → ∀ (k : Nat) (v : Int), cl.2.2[k]? = some v → g (753 * J + 1 + 6 * i + 1 + k) = v)
def TMR (J : Nat) (g : Nat → Int) (cs : List cCl) (W : Nat) : Prop := g (753 * J) = (cs.length : Int) ∧ ∀ (i : Nat) (cl : cCl), cs[i]? = some cl → CLM J g i cl W
theorem txG_lo {J W n : Nat} {g : Nat → Int} {cl : cCl} (hn : n < 24) (h5 : cl.2.2.length ≤ 5) {x : Nat} (h0 : x ≠ 753 * J) (h1 : x < 753 * J + 1 + 6 * n ∨ 753 * J + 145 ≤ x) (h2 : cl.1 < 5 → x < 753 * J + 145 + 2 * W) : txG J W g n cl x = g x := by
  unfold txG
  rw [upF_ne h0]
  by_cases z : cl.1 < 5
  · have h2 := h2 z
    rw [if_pos z, upF_ne (by omega), wrC_lo _ _ _ _ (by omega), upF_ne (by omega), upF_ne (by omega)]
  · rw [if_neg z]
    rcases h1 with h1 | h1
    · rw [wrL_n _ _ _ _ (by omega), upF_ne (by omega)]
    · rw [wrL_hi _ _ _ _ (by omega), upF_ne (by omega)]
theorem CLM_k {J W W0 n i : Nat} {g : Nat → Int} {cl c0 : cCl} (hn : n < 24) (h5 : cl.2.2.length ≤ 5) (hi : i < n) (h0 : c0.2.2.length ≤ 5) (hW : W0 ≤ W) (h : CLM J g i c0 W0) : CLM J (txG J W g n cl) i c0 (W + cl.2.1.length) := by
  obtain ⟨a, b, c⟩ := h
  refine ⟨by rw [txG_lo hn h5 (by omega) (by omega) (by omega)]; exact a, fun z => ?_, fun z k v hk => ?_⟩
  · obtain ⟨w, b1, b2, b3, b4⟩ := b z
    refine ⟨w, by omega, by rw [txG_lo hn h5 (by omega) (by omega) (by omega)]; exact b2, by rw [txG_lo hn h5 (by omega) (by omega) (by omega)]; exact b3, fun k p hk => ?_⟩
    have hl := gq_l _ _ _ hk
    rw [txG_lo hn h5 (by omega) (by omega) (by omega), txG_lo hn h5 (by omega) (by omega) (by omega)]
    exact b4 k p hk
  · have hl := gq_l _ _ _ hk
    rw [txG_lo hn h5 (by omega) (by omega) (by omega)]
    exact c z k v hk
theorem CLM_n {J W n : Nat} {g : Nat → Int} {cl : cCl} (hn : n < 24) (h5 : cl.2.2.length ≤ 5) : CLM J (txG J W g n cl) n cl (W + cl.2.1.length) := by
  by_cases z : cl.1 < 5
  · have e : txG J W g n cl = upF (upF (wrC (753 * J + 145) W cl.2.1 (upF (upF g (753 * J + 1 + 6 * n) (soM cl.1)) (753 * J + 1 + 6 * n + 1) (W : Int))) (753 * J + 1 + 6 * n + 2) ((W + cl.2.1.length : Nat) : Int)) (753 * J) ((n + 1 : Nat) : Int) := by
      unfold txG
      rw [if_pos z]
    rw [e]
    refine ⟨by rw [upF_ne (by omega), upF_ne (by omega), wrC_lo _ _ _ _ (by omega), upF_ne (by omega), upF_at], fun _ => ⟨W, Nat.le_refl _, by rw [upF_ne (by omega), upF_ne (by omega), wrC_lo _ _ _ _ (by omega), upF_at], by rw [upF_ne (by omega), upF_at], fun k p hk => ?_⟩, fun y => absurd z y⟩
    have q := wrC_v (P := 753 * J + 145) cl.2.1 W (upF (upF g (753 * J + 1 + 6 * n) (soM cl.1)) (753 * J + 1 + 6 * n + 1) (W : Int)) k p hk
    rw [upF_ne (by omega), upF_ne (by omega), upF_ne (by omega), upF_ne (by omega)]
    exact q
  · have e : txG J W g n cl = upF (wrL (753 * J + 1 + 6 * n + 1) cl.2.2 (upF g (753 * J + 1 + 6 * n) (soM cl.1))) (753 * J) ((n + 1 : Nat) : Int) := by
      unfold txG
      rw [if_neg z]
    rw [e]
    refine ⟨by rw [upF_ne (by omega), wrL_n _ _ _ _ (by omega), upF_at], fun y => absurd y z, fun _ k v hk => ?_⟩
    rw [upF_ne (by omega)]
    exact wrL_v _ _ _ k v hk
theorem TMR_A {J : Nat} {g : Nat → Int} : ∀ (cs : List cCl), cs.length ≤ 24 → (∀ cl, cl ∈ cs → cl.2.2.length ≤ 5) → TMR J (txA J g cs).2.2 cs (txA J g cs).1 := by
  intro cs
  obtain ⟨rs, hrs⟩ : ∃ rs, cs = List.reverse rs := ⟨cs.reverse, (List.reverse_reverse cs).symm⟩
  subst hrs
  induction rs with
  | nil => intro _ _; exact ⟨upF_at, fun i cl h => by cases h⟩
  | cons c rs ih =>
    intro hl h5
    rw [List.reverse_cons] at hl h5 ⊢
    rw [List.length_append] at hl
    have hl : rs.reverse.length + 1 ≤ 24 := hl
    have hc : c.2.2.length ≤ 5 := h5 c (List.mem_append_right _ (List.mem_cons_self ..))
    obtain ⟨i1, i2⟩ := ih (by omega) (fun cl h => h5 cl (List.mem_append_left _ h))
    have n0 := txA_n (J := J) (g := g) rs.reverse
    have n1 := txA_n (J := J) (g := g) (rs.reverse ++ [c])
    refine ⟨n1.2, fun i cl h => ?_⟩
    rw [txA_a, n0.1]
    show CLM J (txG J (txA J g rs.reverse).1 (txA J g rs.reverse).2.2 rs.reverse.length c) i cl ((txA J g rs.reverse).1 + c.2.1.length)
    have hi := gq_l _ _ _ h
    rw [List.length_append] at hi
    have hi : i < rs.reverse.length + 1 := hi
    by_cases z : i < rs.reverse.length
    · rw [List.getElem?_append_left z] at h
      exact CLM_k (by omega) hc z (h5 cl (List.mem_append_left _ (List.mem_of_getElem? h))) (Nat.le_refl _) (i2 i cl h)
    · have e : i = rs.reverse.length := by omega
      subst e
      rw [List.getElem?_append_right (Nat.le_refl _), Nat.sub_self] at h
      have h : c = cl := Option.some.inj h
      subst h
      exact CLM_n (by omega) hc
/-! which clauses there are -/
theorem nmW_g {tk : Nat → Int × Int} {lo hi : Int} {x : cX} {j2 : Nat} {vs : List Int} (h : nmW tk lo hi x = .inr (j2, vs)) : ∃ j vs', x = .inr (j, vs') ∧ vs.length = vs'.length + 1 := by
  cases x with
  | inl r => cases h
  | inr q =>
    obtain ⟨j, vs'⟩ := q
    have h : (if (tk j).1 = 60 then (if lo ≤ (tk j).2 ∧ (tk j).2 ≤ hi then .inr (j + 1, vs' ++ [(tk j).2]) else .inl (2, j)) else .inl (1, j) : cX) = .inr (j2, vs) := h
    refine ⟨j, vs', rfl, ?_⟩
    split at h
    · split at h
      · have := congrArg Prod.snd (Sum.inr.inj h); have this : vs' ++ [(tk j).2] = vs := this; rw [← this, List.length_append]; rfl
      · cases h
    · cases h
theorem tkV_g {tk : Nat → Int × Int} {w : Int} {x : cX} {j2 : Nat} {vs : List Int} (h : tkV tk w x = .inr (j2, vs)) : ∃ j vs', x = .inr (j, vs') ∧ vs.length = vs'.length := by
  cases x with
  | inl r => cases h
  | inr q =>
    obtain ⟨j, vs'⟩ := q
    have h : (if (tk j).1 = w then .inr (j + 1, vs') else .inl (1, j) : cX) = .inr (j2, vs) := h
    refine ⟨j, vs', rfl, ?_⟩
    split at h
    · have := congrArg Prod.snd (Sum.inr.inj h); have this : vs' = vs := this; rw [this]
    · cases h
theorem siV_g {tk : Nat → Int × Int} {x : cX} {j2 : Nat} {vs : List Int} (h : siV tk x = .inr (j2, vs)) : ∃ j vs', x = .inr (j, vs') ∧ vs.length = vs'.length + 1 := by
  cases x with
  | inl r => cases h
  | inr q =>
    obtain ⟨j, vs'⟩ := q
    have h : (if 22 ≤ (tk j).1 ∧ (tk j).1 ≤ 24 then .inr (j + 1, vs' ++ [(tk j).1 - 23]) else .inl (1, j) : cX) = .inr (j2, vs) := h
    refine ⟨j, vs', rfl, ?_⟩
    split at h
    · have := congrArg Prod.snd (Sum.inr.inj h); have this : vs' ++ [(tk j).1 - 23] = vs := this; rw [← this, List.length_append]; rfl
    · cases h
theorem inr_l {j j2 : Nat} {vs vs0 : List Int} (h : (.inr (j, vs0) : cX) = .inr (j2, vs)) : vs0 = vs := congrArg Prod.snd (Sum.inr.inj h)
theorem bdV_5 {tk : Nat → Int × Int} {K : Int} {j j2 : Nat} {vs : List Int} (h : bdV tk K j = .inr (j2, vs)) : vs.length ≤ 5 := by
  unfold bdV at h
  split at h
  · have h : nmW tk 0 1 (tkV tk 23 (nmW tk 0 9 (tkV tk 21 (nmW tk 0 999 (tkV tk 20 (nmW tk 0 60 (tkV tk 19 (nmW tk 1 99 (.inr (j, []))))))))))  = .inr (j2, vs) := h
    obtain ⟨j9, v9, h, l9⟩ := nmW_g h
    obtain ⟨j8, v8, h, l8⟩ := tkV_g h
    obtain ⟨j7, v7, h, l7⟩ := nmW_g h
    obtain ⟨j6, v6, h, l6⟩ := tkV_g h
    obtain ⟨j5, v5, h, l5⟩ := nmW_g h
    obtain ⟨j4, v4, h, l4⟩ := tkV_g h
    obtain ⟨j3, v3, h, l3⟩ := nmW_g h
    obtain ⟨j1, v1, h, l1⟩ := tkV_g h
    obtain ⟨j0, v0, h, l0⟩ := nmW_g h
    have e := inr_l h
    have e1 : v0.length = 0 := by rw [← e]; rfl
    omega
  · split at h
    · obtain ⟨j0, v0, h, l0⟩ := siV_g h; have e := inr_l h; have e1 : v0.length = 0 := by rw [← e]; rfl
      omega
    · split at h
      · obtain ⟨j0, v0, h, l0⟩ := nmW_g h; have e := inr_l h; have e1 : v0.length = 0 := by rw [← e]; rfl
        omega
      · split at h
        · obtain ⟨j0, v0, h, l0⟩ := nmW_g h; have e := inr_l h; have e1 : v0.length = 0 := by rw [← e]; rfl
          omega
        · split at h
          · obtain ⟨j0, v0, h, l0⟩ := nmW_g h; have e := inr_l h; have e1 : v0.length = 0 := by rw [← e]; rfl
            omega
          · split at h
            · obtain ⟨j0, v0, h, l0⟩ := nmW_g h; have e := inr_l h; have e1 : v0.length = 0 := by rw [← e]; rfl
              omega
            · have e := inr_l h; have e1 : vs.length = 0 := by rw [← e]; rfl
              omega
/-- a clause's kind and numbers -/
def CLk (cl : cCl) : Prop := (cl.1 ≤ 10 ∨ cl.1 = 16) ∧ cl.2.2.length ≤ 5
theorem CLo_k {tk : Nat → Int × Int} {cs : List cCl} {j j' : Nat} {cl : cCl} (h : CLo tk cs j (.inr (j', cl))) : CLk cl ∧ (cl.1 < 5 → hasL cs cl.1 = false) := by
  unfold CLo at h
  split at h
  · cases h
  rename_i z1
  have z1 : (tk j).1 ≤ 10 ∨ (tk j).1 = 16 := Classical.not_not.mp z1
  split at h
  · cases h
  rename_i z2
  split at h
  · cases h
  split at h
  · rename_i z5
    obtain ⟨f, jf, c, m, _, h⟩ := h
    unfold fiC at h
    split at h
    · cases h
    split at h
    · have h := congrArg Prod.snd (Sum.inr.inj h)
      have h : cl = ((tk j).1, c, []) := h
      subst h
      refine ⟨⟨z1, Nat.zero_le _⟩, fun _ => ?_⟩
      show hasL cs (tk j).1 = false
      cases hh : hasL cs (tk j).1 with
      | true => exact absurd ⟨z5, hh⟩ z2
      | false => rfl
    · cases h
  · rename_i z5
    cases hb : bdV tk (tk j).1 (j + 1) with
    | inl r => rw [hb] at h; cases h
    | inr q =>
      obtain ⟨j2, vs⟩ := q
      rw [hb] at h
      have h : (.inr (j', cl) : (Int × Nat) ⊕ (Nat × cCl)) = (if (tk j2).1 = 52 then .inr (j2 + 1, ((tk j).1, [], vs)) else .inl (1, j2)) := h
      split at h
      · have h := congrArg Prod.snd (Sum.inr.inj h)
        have h : cl = ((tk j).1, [], vs) := h
        subst h
        exact ⟨⟨z1, bdV_5 hb⟩, fun y => absurd y z5⟩
      · cases h
/-- all clauses of a text: their kinds and numbers, no law twice -/
def CSk (cs : List cCl) : Prop := (∀ cl, cl ∈ cs → CLk cl) ∧ ∀ (i1 i2 : Nat) (c1 c2 : cCl), cs[i1]? = some c1 → cs[i2]? = some c2 → c1.1 < 5 → c1.1 = c2.1 → i1 = i2
theorem hasL_f {cs : List cCl} {K : Int} (h : hasL cs K = false) : ∀ cl, cl ∈ cs → cl.1 ≠ K := by
  intro cl hc e
  unfold hasL at h
  rw [List.any_eq_false] at h
  exact h cl hc (decide_eq_true e)
theorem CSk_a {cs : List cCl} {cl : cCl} (h : CSk cs) (hk : CLk cl) (hf : cl.1 < 5 → hasL cs cl.1 = false) : CSk (cs ++ [cl]) := by
  refine ⟨fun c hc => ?_, fun i1 i2 c1 c2 h1 h2 h5 he => ?_⟩
  · rcases List.mem_append.mp hc with hc | hc
    · exact h.1 c hc
    · rcases List.mem_cons.mp hc with rfl | hc
      · exact hk
      · cases hc
  · have l1 := gq_l _ _ _ h1
    have l2 := gq_l _ _ _ h2
    rw [List.length_append] at l1 l2
    have l1 : i1 < cs.length + 1 := l1
    have l2 : i2 < cs.length + 1 := l2
    by_cases z1 : i1 < cs.length
    · rw [List.getElem?_append_left z1] at h1
      by_cases z2 : i2 < cs.length
      · rw [List.getElem?_append_left z2] at h2
        exact h.2 i1 i2 c1 c2 h1 h2 h5 he
      · have e2 : i2 = cs.length := by omega
        subst e2
        rw [List.getElem?_append_right (Nat.le_refl _), Nat.sub_self] at h2
        have h2 : cl = c2 := Option.some.inj h2
        subst h2
        exact absurd he (hasL_f (hf (he ▸ h5)) c1 (List.mem_of_getElem? h1))
    · have e1 : i1 = cs.length := by omega
      subst e1
      rw [List.getElem?_append_right (Nat.le_refl _), Nat.sub_self] at h1
      have h1 : cl = c1 := Option.some.inj h1
      subst h1
      by_cases z2 : i2 < cs.length
      · rw [List.getElem?_append_left z2] at h2
        exact absurd he.symm (hasL_f (hf h5) c2 (List.mem_of_getElem? h2))
      · omega
theorem RDo_k {tk : Nat → Int × Int} {cs' : List cCl} : ∀ (m : Nat) (cs : List cCl) (j : Nat), RDo tk m cs j (.inr cs') → CSk cs → CSk cs' := by
  intro m
  induction m with
  | zero =>
    intro cs j h hk
    have h2 := h.2
    have h2 : cs' = cs := Sum.inr.inj h2
    rw [h2]; exact hk
  | succ m ih =>
    intro cs j h hk
    obtain ⟨_, o, ho, hr⟩ := h
    cases o with
    | inl r => cases hr
    | inr q =>
      obtain ⟨j', cl⟩ := q
      obtain ⟨k1, k2⟩ := CLo_k ho
      exact ih (cs ++ [cl]) j' hr (CSk_a hk k1 k2)
theorem CSk_0 : CSk [] := ⟨fun cl h => (by cases h), fun i1 i2 c1 c2 h => (by cases h)⟩
