/-! which names a law's code has -/
def nmq (l : Int) (q : Int × Int) : Prop := (q.1 = 1 → isNm l q.2 = true) ∧ (q.1 = 2 → l ≤ 2)
def NMo (l : Int) (P : List Int) (c : oCd) : Prop := (∀ x, x ∈ P → 3 ≤ x) ∧ ∀ q, q ∈ c → nmq l q
theorem nmq_o {l x : Int} (h : 3 ≤ x) : nmq l (x, 0) := ⟨fun e => by have e : x = 1 := e; omega, fun e => by have e : x = 2 := e; omega⟩
theorem nmc_a {l : Int} {c : oCd} {q : Int × Int} (h : ∀ q, q ∈ c → nmq l q) (hq : nmq l q) : ∀ p, p ∈ c ++ [q] → nmq l p := fun p hp => by
  rcases List.mem_append.mp hp with hp | hp
  · exact h p hp
  · rcases List.mem_cons.mp hp with rfl | hp
    · exact hq
    · cases hp
theorem NM_s {l least : Int} : ∀ (P : List Int) (o : Nat) (c : oCd), NMo l P c → NMo l (stJ least P o c).1 (stJ least P o c).2.2 := by
  intro P
  induction P with
  | nil => intro o c h; exact h
  | cons x P ih =>
    intro o c h
    by_cases z : least ≤ rankO x
    · rw [show stJ least (x :: P) o c = stJ least P (if rankO x = 7 ∨ x = 20 then o - 1 else o) (c ++ [(x, 0)]) from if_pos z]
      exact ih _ _ ⟨fun y hy => h.1 y (List.mem_cons_of_mem _ hy), nmc_a h.2 (nmq_o (h.1 x (List.mem_cons_self ..)))⟩
    · rw [show stJ least (x :: P) o c = (x :: P, o, c) from if_neg z]
      exact h
theorem oneS_N {l : Int} {P : List Int} {o j : Nat} {c : oCd} {q : Int × Int} {S' : oSt} (hs : oneS P o c q j = .inl S') (h : NMo l P c) (hq : nmq l q) : NMo l S'.1 S'.2.2.2.2 := by
  unfold oneS at hs
  have hs := (Sum.inl.inj hs).symm
  subst hs
  exact NM_s P o (c ++ [q]) ⟨h.1, nmc_a h.2 hq⟩
theorem opnS_N {l : Int} {P : List Int} {o j : Nat} {c : oCd} {x : Int} {S' : oSt} (hs : opnS P o c x j = .inl S') (h : NMo l P c) (hx : 3 ≤ x) : NMo l S'.1 S'.2.2.2.2 := by
  unfold opnS at hs
  split at hs
  · cases hs
  · have hs := (Sum.inl.inj hs).symm
    subst hs
    refine ⟨fun y hy => ?_, h.2⟩
    rcases List.mem_cons.mp hy with rfl | hy
    · exact hx
    · exact h.1 y hy
theorem opnS_i {P : List Int} {o j jf : Nat} {c c' : oCd} {x f : Int} (hs : opnS P o c x j = .inr (f, jf, c')) : c' = c := by
  unfold opnS at hs
  split at hs
  · have := congrArg (fun q => q.2.2) (Sum.inr.inj hs); exact this.symm
  · cases hs
theorem isNm_2 {l n : Int} (hn : n < 5) (h : isNm l n = true) : l ≤ 2 := by
  unfold isNm at h
  rw [if_pos hn] at h
  exact of_decide_eq_true h
theorem NM_1 {l : Int} {tk : Nat → Int × Int} {S S' : oSt} (hs : opSt l tk S = .inl S') (h : NMo l S.1 S.2.2.2.2) : NMo l S'.1 S'.2.2.2.2 := by
  obtain ⟨P, w, j, o, c⟩ := S
  cases w with
  | false =>
    have hs : begS l tk P j o c = .inl S' := hs
    have h : NMo l P c := h
    unfold begS at hs
    split at hs
    · split at hs
      · cases hs
      · exact oneS_N hs h ⟨fun e => by have e : (0 : Int) = 1 := e; omega, fun e => by have e : (0 : Int) = 2 := e; omega⟩
    split at hs
    · split at hs
      · rename_i hi
        exact oneS_N hs h ⟨fun _ => hi, fun e => by have e : (1 : Int) = 2 := e; omega⟩
      · cases hs
    split at hs
    · split at hs
      · cases hs
      split at hs
      · cases hs
      split at hs
      · cases hs
      split at hs
      · rename_i hi
        exact oneS_N hs h ⟨fun e => by have e : (2 : Int) = 1 := e; omega, fun _ => isNm_2 (by omega) hi.2⟩
      · cases hs
    split at hs
    · exact opnS_N hs h (by decide)
    split at hs
    · exact opnS_N hs h (by decide)
    split at hs
    · exact opnS_N hs h (by decide)
    split at hs
    · exact opnS_N hs h (by decide)
    split at hs
    · exact opnS_N hs h (by decide)
    · cases hs
  | true =>
    have hs : behS tk P j o c = .inl S' := hs
    have h : NMo l P c := h
    unfold behS at hs
    split at hs
    · rename_i hb
      have hs := (Sum.inl.inj hs).symm
      subst hs
      have b := btw_c (tk j).1 P
      have q := NM_s (l := l) (least := rankO (btw (tk j).1 P)) P o c h
      refine ⟨fun y hy => ?_, q.2⟩
      rcases List.mem_cons.mp hy with rfl | hy
      · omega
      · exact q.1 y hy
    split at hs
    · rename_i hb
      have b := prt_c (tk j).1 P
      have q := NM_s (l := l) (least := 1) P o c h
      unfold prt2 at hs
      split at hs
      · rename_i hp
        have hs := (Sum.inl.inj hs).symm
        subst hs
        refine ⟨fun y hy => ?_, q.2⟩
        rcases List.mem_cons.mp hy with rfl | hy
        · omega
        · exact q.1 y (List.mem_of_mem_tail hy)
      · have hs := (Sum.inl.inj hs).symm
        subst hs
        refine NM_s _ _ _ ⟨fun y hy => q.1 y (List.mem_of_mem_tail hy), ?_⟩
        split
        · exact nmc_a q.2 (nmq_o (by decide))
        · exact q.2
    split at hs
    · cases hs
    · cases hs
theorem NM_2 {l : Int} {tk : Nat → Int × Int} {S : oSt} {f : Int} {jf : Nat} {c' : oCd} (hs : opSt l tk S = .inr (f, jf, c')) (h : NMo l S.1 S.2.2.2.2) : ∀ q, q ∈ c' → nmq l q := by
  obtain ⟨P, w, j, o, c⟩ := S
  have h : NMo l P c := h
  cases w with
  | false =>
    have hs : begS l tk P j o c = .inr (f, jf, c') := hs
    have go : c' = c := by
      unfold begS at hs
      (repeat' split at hs) <;> first | exact (congrArg (fun q => q.2.2) (Sum.inr.inj hs)).symm | (unfold oneS at hs; cases hs) | exact opnS_i hs
    rw [go]; exact h.2
  | true =>
    have hs : behS tk P j o c = .inr (f, jf, c') := hs
    have q := NM_s (l := l) (least := 1) P o c h
    unfold behS at hs
    split at hs
    · cases hs
    split at hs
    · unfold prt2 at hs
      split at hs
      · cases hs
      · cases hs
    split at hs
    · have e : c = c' := congrArg (fun q => q.2.2) (Sum.inr.inj hs)
      rw [← e]; exact h.2
    · have e : (stJ 1 P o c).2.2 = c' := congrArg (fun q => q.2.2) (Sum.inr.inj hs)
      rw [← e]; exact q.2
theorem NM_r {l : Int} {tk : Nat → Int × Int} {f : Int} {jf : Nat} {c' : oCd} : ∀ (n : Nat) (S : oSt), opRun l tk n S = .inr (f, jf, c') → NMo l S.1 S.2.2.2.2 → ∀ q, q ∈ c' → nmq l q := by
  intro n
  induction n with
  | zero => intro S h; cases h
  | succ n ih =>
    intro S h hn
    have h : (match opSt l tk S with | .inl S' => opRun l tk n S' | .inr r => .inr r) = .inr (f, jf, c') := h
    cases e : opSt l tk S with
    | inl S1 => rw [e] at h; exact ih S1 h (NM_1 e hn)
    | inr r =>
      rw [e] at h
      have h : r = (f, jf, c') := Sum.inr.inj h
      rw [h] at e
      exact NM_2 e hn
/-- a law's clause has names that its law may have -/
def CLn (cl : cCl) : Prop := cl.1 < 5 → ∀ q, q ∈ cl.2.1 → nmq cl.1 q
theorem CLo_n {tk : Nat → Int × Int} {cs : List cCl} {j j' : Nat} {cl : cCl} (h : CLo tk cs j (.inr (j', cl))) : CLn cl := by
  intro h5
  unfold CLo at h
  split at h
  · cases h
  split at h
  · cases h
  split at h
  · cases h
  split at h
  · obtain ⟨f, jf, c, m, hm, h⟩ := h
    unfold fiC at h
    split at h
    · cases h
    split at h
    · have h := congrArg Prod.snd (Sum.inr.inj h)
      have h : cl = ((tk j).1, c, []) := h
      subst h
      exact NM_r m _ hm ⟨fun x hx => (by cases hx), fun q hq => (by cases hq)⟩
    · cases h
  · rename_i z5
    cases hb : bdV tk (tk j).1 (j + 1) with
    | inl r => rw [hb] at h; cases h
    | inr q =>
      obtain ⟨j2, vs⟩ := q
      rw [hb] at h
      have h : (.inr (j', cl) : (Int × Nat) ⊕ (Nat × cCl)) = (if (tk j2).1 = 52 then .inr (j2 + 1, ((tk j).1, [], vs)) else .inl (1, j2)) := h
      split at h
      · have h := congrArg Prod.snd (Sum.inr.inj h)
        have h : cl = ((tk j).1, [], vs) := h
        subst h
        exact absurd h5 z5
      · cases h
theorem RDo_n {tk : Nat → Int × Int} {cs' : List cCl} : ∀ (m : Nat) (cs : List cCl) (j : Nat), RDo tk m cs j (.inr cs') → (∀ cl, cl ∈ cs → CLn cl) → ∀ cl, cl ∈ cs' → CLn cl := by
  intro m
  induction m with
  | zero =>
    intro cs j h hk
    have h2 : cs' = cs := Sum.inr.inj h.2
    rw [h2]; exact hk
  | succ m ih =>
    intro cs j h hk
    obtain ⟨_, o, ho, hr⟩ := h
    cases o with
    | inl r => cases hr
    | inr q =>
      obtain ⟨j', cl⟩ := q
      refine ih (cs ++ [cl]) j' hr (fun c hc => ?_)
      rcases List.mem_append.mp hc with hc | hc
      · exact hk c hc
      · rcases List.mem_cons.mp hc with rfl | hc
        · exact CLo_n ho
        · cases hc
/-! what a code is worth depends on what it names alone -/
def eqN (e e' : ENV) (c : oCd) : Prop := ∀ q, q ∈ c → (q.1 = 1 → e.1 q.2.toNat = e'.1 q.2.toNat) ∧ (q.1 = 2 → e.2 (q.2 / 10).toNat (q.2 % 10).toNat = e'.2 (q.2 / 10).toNat (q.2 % 10).toNat)
theorem mS_c {e e' : ENV} {w : List Int × List Bool} {q : Int × Int} (h : (q.1 = 1 → e.1 q.2.toNat = e'.1 q.2.toNat) ∧ (q.1 = 2 → e.2 (q.2 / 10).toNat (q.2 % 10).toNat = e'.2 (q.2 / 10).toNat (q.2 % 10).toNat)) : mS e w q = mS e' w q := by
  unfold mS
  by_cases z0 : q.1 = 0
  · rw [if_pos z0, if_pos z0]
  rw [if_neg z0, if_neg z0]
  by_cases z1 : q.1 = 1
  · rw [if_pos z1, if_pos z1, h.1 z1]
  rw [if_neg z1, if_neg z1]
  by_cases z2 : q.1 = 2
  · rw [if_pos z2, if_pos z2, h.2 z2]
  rw [if_neg z2, if_neg z2]
theorem mRn_c {e e' : ENV} : ∀ (c : oCd) (w : List Int × List Bool), eqN e e' c → mRn e c w = mRn e' c w := by
  intro c
  induction c with
  | nil => intro w _; rfl
  | cons q c ih =>
    intro w h
    show mRn e c (mS e w q) = mRn e' c (mS e' w q)
    rw [mS_c (h q (List.mem_cons_self ..))]
    exact ih _ (fun p hp => h p (List.mem_cons_of_mem _ hp))
theorem SemM_c {c : oCd} {f : ENV → Int} (hm : SemM c f) {e e' : ENV} (he : envK e) (he' : envK e') (h : eqN e e' c) : f e = f e' := by
  have h1 := hm e he [] []
  have h2 := hm e' he' [] []
  rw [mRn_c c _ h, h2] at h1
  have h3 := congrArg Prod.fst h1
  have h3 : [f e'] = [f e] := h3
  exact (List.cons.inj h3).1.symm
