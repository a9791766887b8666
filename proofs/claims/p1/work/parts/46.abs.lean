/-! the machine over what is known: a value is known, or it is an int between two -/
abbrev AW : Type := AV ⊕ (Int × Int)
def ab_V (a : AW) (v : AV) : Prop := match a with
  | .inl u => v = u
  | .inr q => ∃ x : Int, v = .inl x ∧ q.1 ≤ x ∧ x ≤ q.2
def ab_O (a : Option AW) (v : Option AV) : Prop := match a with
  | none => v = none
  | some a => ∃ u, v = some u ∧ ab_V a u
def ab_S : List AW → List AV → Prop
  | [], st => st = []
  | a :: as, st => ∃ v vs, st = v :: vs ∧ ab_V a v ∧ ab_S as vs
def ab_L : List (Option AW) → List (Option AV) → Prop
  | [], st => st = []
  | a :: as, st => ∃ v vs, st = v :: vs ∧ ab_O a v ∧ ab_L as vs
abbrev xI (x : Int) : AW := .inl (.inl x)
abbrev xL (x : Int) : AW := .inl (.inr (.inl x))
abbrev xR (x : Nat) : AW := .inl (.inr (.inr (some x)))
theorem ab_xI (x : Int) : ab_V (xI x) (.inl x) := rfl
theorem ab_xL (x : Int) : ab_V (xL x) (.inr (.inl x)) := rfl
theorem ab_xR (x : Nat) : ab_V (xR x) (.inr (.inr (some x))) := rfl
def isI (w : AW) : Bool := match w with
  | .inl (.inl _) => true
  | .inr _ => true
  | _ => false
theorem isI_s {w : AW} {v : AV} (h : isI w = true) (hv : ab_V w v) : ∃ x, v = .inl x := by
  match w, h, hv with
  | .inl (.inl x), _, hv => exact ⟨x, hv⟩
  | .inr q, _, hv => obtain ⟨x, e, -, -⟩ := hv; exact ⟨x, e⟩
def isR (w : AW) : Bool := match w with
  | .inl (.inr (.inr _)) => true
  | _ => false
theorem isR_s {w : AW} {v : AV} (h : isR w = true) (hv : ab_V w v) : ∃ x, v = .inr (.inr x) := by
  match w, h, hv with
  | .inl (.inr (.inr x)), _, hv => exact ⟨x, hv⟩
def rg (w : AW) : Int × Int := match w with
  | .inl (.inl x) => (x, x)
  | .inl _ => (0, 0)
  | .inr q => q
theorem rg_s {w : AW} {x : Int} (h : ab_V w (.inl x)) : (rg w).1 ≤ x ∧ x ≤ (rg w).2 := by
  match w, h with
  | .inl (.inl y), h =>
    have h : (Sum.inl x : AV) = .inl y := h
    cases h; exact ⟨Int.le_refl _, Int.le_refl _⟩
  | .inl (.inr y), h => have h : (Sum.inl x : AV) = .inr y := h; cases h
  | .inr q, h => obtain ⟨y, e, h1, h2⟩ := h; cases e; exact ⟨h1, h2⟩
theorem ab_rg {x l u : Int} (h1 : l ≤ x) (h2 : x ≤ u) : ab_V (.inr (l, u)) (.inl x) := ⟨x, rfl, h1, h2⟩
/-! pops -/
def aI (st : List AW) (k : AW → List AW → Bool) : Bool := match st with
  | w :: st => isI w && k w st
  | [] => false
def aX (st : List AW) (k : Int → List AW → Bool) : Bool := match st with
  | .inl (.inl x) :: st => k x st
  | _ => false
def aL (st : List AW) (k : Int → List AW → Bool) : Bool := match st with
  | .inl (.inr (.inl x)) :: st => k x st
  | _ => false
def aR (st : List AW) (k : Nat → List AW → Bool) : Bool := match st with
  | .inl (.inr (.inr (some x))) :: st => k x st
  | _ => false
def aV (st : List AW) (k : AW → List AW → Bool) : Bool := match st with
  | w :: st => k w st
  | [] => false
theorem aI_s {ast : List AW} {st : List AV} {k : AW → List AW → Bool} {k' : Int → List AV → Prop} (h : aI ast k = true) (hs : ab_S ast st) (hk : ∀ w x ast' st', ab_V w (.inl x) → ab_S ast' st' → k w ast' = true → k' x st') : pI False st k' := by
  cases ast with
  | nil => cases h
  | cons w ast =>
    have h : (isI w && k w ast) = true := h
    rw [Bool.and_eq_true] at h
    obtain ⟨v, vs, rfl, hv, hs⟩ := hs
    obtain ⟨x, rfl⟩ := isI_s h.1 hv
    exact hk w x ast vs hv hs h.2
theorem aX_s {ast : List AW} {st : List AV} {k : Int → List AW → Bool} {k' : Int → List AV → Prop} (h : aX ast k = true) (hs : ab_S ast st) (hk : ∀ x ast' st', ab_S ast' st' → k x ast' = true → k' x st') : pI False st k' := by
  match ast, h, hs with
  | .inl (.inl x) :: ast, h, hs =>
    obtain ⟨v, vs, rfl, hv, hs2⟩ := hs
    have hv : v = .inl x := hv
    subst hv
    exact hk x ast vs hs2 h
theorem aL_s {ast : List AW} {st : List AV} {k : Int → List AW → Bool} {k' : Int → List AV → Prop} (h : aL ast k = true) (hs : ab_S ast st) (hk : ∀ x ast' st', ab_S ast' st' → k x ast' = true → k' x st') : pL False st k' := by
  match ast, h, hs with
  | .inl (.inr (.inl x)) :: ast, h, hs =>
    obtain ⟨v, vs, rfl, hv, hs2⟩ := hs
    have hv : v = .inr (.inl x) := hv
    subst hv
    exact hk x ast vs hs2 h
theorem aR_s {ast : List AW} {st : List AV} {k : Nat → List AW → Bool} {k' : Nat → List AV → Prop} (h : aR ast k = true) (hs : ab_S ast st) (hk : ∀ x ast' st', ab_S ast' st' → k x ast' = true → k' x st') : pR False st k' := by
  match ast, h, hs with
  | .inl (.inr (.inr (some x))) :: ast, h, hs =>
    obtain ⟨v, vs, rfl, hv, hs2⟩ := hs
    have hv : v = .inr (.inr (some x)) := hv
    subst hv
    exact hk x ast vs hs2 h
theorem aV_s {ast : List AW} {st : List AV} {k : AW → List AW → Bool} {k' : AV → List AV → Prop} (h : aV ast k = true) (hs : ab_S ast st) (hk : ∀ w v ast' st', ab_V w v → ab_S ast' st' → k w ast' = true → k' v st') : pV False st k' := by
  cases ast with
  | nil => cases h
  | cons w ast =>
    obtain ⟨v, vs, rfl, hv, hs⟩ := hs
    exact hk w v ast vs hv hs h
/-! locals -/
theorem ab_L_get {al : List (Option AW)} : ∀ {cl : List (Option AV)} {i : Nat} {o : Option AW}, ab_L al cl → al[i]? = some o → ∃ v, cl[i]? = some v ∧ ab_O o v := by
  induction al with
  | nil => intro cl i o _ h; rw [List.getElem?_nil] at h; cases h
  | cons a al ih =>
    intro cl i o hl h
    obtain ⟨v, vs, rfl, hv, hl⟩ := hl
    cases i with
    | zero => rw [List.getElem?_cons_zero] at h ⊢; cases h; exact ⟨v, rfl, hv⟩
    | succ i => rw [List.getElem?_cons_succ] at h ⊢; exact ih hl h
theorem ab_L_len {al : List (Option AW)} : ∀ {cl : List (Option AV)}, ab_L al cl → al.length = cl.length := by
  induction al with
  | nil => intro cl h; have h : cl = [] := h; rw [h]; rfl
  | cons a al ih =>
    intro cl hl
    obtain ⟨v, vs, rfl, hv, hl⟩ := hl
    rw [List.length_cons, List.length_cons, ih hl]
theorem ab_L_set {al : List (Option AW)} : ∀ {cl : List (Option AV)} {i : Nat} {o : Option AW} {v : Option AV}, ab_L al cl → ab_O o v → ab_L (al.set i o) (cl.set i v) := by
  induction al with
  | nil => intro cl i o v h _; have h : cl = [] := h; subst h; exact rfl
  | cons a al ih =>
    intro cl i o v hl ho
    obtain ⟨u, vs, rfl, hv, hl⟩ := hl
    cases i with
    | zero => exact ⟨v, vs, rfl, ho, hl⟩
    | succ i => exact ⟨u, vs.set i v, rfl, hv, ih hl ho⟩
def alI (ls : List (Option AW)) (i : Nat) (k : AW → Bool) : Bool := match ls[i]? with
  | some (some w) => isI w && k w
  | _ => false
def alX (ls : List (Option AW)) (i : Nat) (k : Int → Bool) : Bool := match ls[i]? with
  | some (some (.inl (.inl x))) => k x
  | _ => false
def alL (ls : List (Option AW)) (i : Nat) (k : Int → Bool) : Bool := match ls[i]? with
  | some (some (.inl (.inr (.inl x)))) => k x
  | _ => false
def alR (ls : List (Option AW)) (i : Nat) (k : Nat → Bool) : Bool := match ls[i]? with
  | some (some (.inl (.inr (.inr (some x))))) => k x
  | _ => false
theorem alI_s {al : List (Option AW)} {cl : List (Option AV)} {i : Nat} {k : AW → Bool} {k' : Int → Prop} (h : alI al i k = true) (hl : ab_L al cl) (hk : ∀ w x, ab_V w (.inl x) → k w = true → k' x) : lI False cl i k' := by
  unfold alI at h
  split at h
  · rename_i w e
    rw [Bool.and_eq_true] at h
    obtain ⟨v, e2, u, rfl, hv⟩ := ab_L_get hl e
    obtain ⟨x, rfl⟩ := isI_s h.1 hv
    unfold lI; rw [e2]; exact hk w x hv h.2
  · cases h
theorem alX_s {al : List (Option AW)} {cl : List (Option AV)} {i : Nat} {k : Int → Bool} {k' : Int → Prop} (h : alX al i k = true) (hl : ab_L al cl) (hk : ∀ x, k x = true → k' x) : lI False cl i k' := by
  unfold alX at h
  split at h
  · rename_i x e
    obtain ⟨v, e2, u, rfl, hv⟩ := ab_L_get hl e
    have hv : u = .inl x := hv
    subst hv
    unfold lI; rw [e2]; exact hk x h
  · cases h
theorem alL_s {al : List (Option AW)} {cl : List (Option AV)} {i : Nat} {k : Int → Bool} {k' : Int → Prop} (h : alL al i k = true) (hl : ab_L al cl) (hk : ∀ x, k x = true → k' x) : lL False cl i k' := by
  unfold alL at h
  split at h
  · rename_i x e
    obtain ⟨v, e2, u, rfl, hv⟩ := ab_L_get hl e
    have hv : u = .inr (.inl x) := hv
    subst hv
    unfold lL; rw [e2]; exact hk x h
  · cases h
theorem alR_s {al : List (Option AW)} {cl : List (Option AV)} {i : Nat} {k : Nat → Bool} {k' : Nat → Prop} (h : alR al i k = true) (hl : ab_L al cl) (hk : ∀ x, k x = true → k' x) : lR False cl i k' := by
  unfold alR at h
  split at h
  · rename_i x e
    obtain ⟨v, e2, u, rfl, hv⟩ := ab_L_get hl e
    have hv : u = .inr (.inr (some x)) := hv
    subst hv
    unfold lR; rw [e2]; exact hk x h
  · cases h
def okA (ls : List (Option AW)) (i : Nat) : Bool := match i with
  | 0 => decide (0 < ls.length)
  | j + 1 => match ls[j]? with
    | some (some (.inl (.inr (.inl _)))) => false
    | _ => decide (j + 1 < ls.length)
theorem okA_s {al : List (Option AW)} {cl : List (Option AV)} {i : Nat} (h : okA al i = true) (hl : ab_L al cl) : okSt cl i = true := by
  cases i with
  | zero =>
    have h : decide (0 < al.length) = true := h
    show decide (0 < cl.length) = true
    rw [← ab_L_len hl]; exact h
  | succ j =>
    unfold okA at h
    dsimp only at h
    unfold okSt
    dsimp only
    split
    · rename_i z e
      exfalso
      split at h
      · cases h
      · rename_i hne
        have hj : j + 1 < al.length := of_decide_eq_true h
        have e1 : al[j]? = some (al[j]'(by omega)) := List.getElem?_eq_getElem (by omega)
        obtain ⟨v, e2, ho⟩ := ab_L_get hl e1
        rw [e] at e2
        cases e2
        cases hq : al[j]'(by omega) with
        | none => rw [hq] at ho; cases ho
        | some w =>
          rw [hq] at ho e1
          obtain ⟨u, eu, hu⟩ := ho
          cases eu
          match w, hu, e1 with
          | .inl q, hu, e1 =>
            have hu : (Sum.inr (Sum.inl z) : AV) = q := hu
            subst hu
            exact hne z e1
          | .inr q, hu, e1 => obtain ⟨x, ex, -, -⟩ := hu; cases ex
    · split at h
      · cases h
      · rw [← ab_L_len hl]; exact h
/-! stacks -/
def catW (w : AW) : Nat := match w with
  | .inl v => catA v
  | .inr _ => 1
theorem catW_s {w : AW} {v : AV} (h : ab_V w v) : catA v = catW w := by
  match w, h with
  | .inl u, h => have h : v = u := h; rw [h]; rfl
  | .inr q, h => obtain ⟨x, rfl, -, -⟩ := h; rfl
def stWA : List AW → Nat
  | [] => 0
  | w :: st => catW w + stWA st
theorem stWA_s {ast : List AW} : ∀ {st : List AV}, ab_S ast st → stW st = stWA ast := by
  induction ast with
  | nil => intro st h; have h : st = [] := h; rw [h]; rfl
  | cons w ast ih =>
    intro st h
    obtain ⟨v, vs, rfl, hv, hs⟩ := h
    show catA v + stW vs = catW w + stWA ast
    rw [ih hs, catW_s hv]
theorem ab_S_len {ast : List AW} : ∀ {st : List AV}, ab_S ast st → ast.length = st.length := by
  induction ast with
  | nil => intro st h; have h : st = [] := h; rw [h]; rfl
  | cons w ast ih =>
    intro st h
    obtain ⟨v, vs, rfl, hv, hs⟩ := h
    rw [List.length_cons, List.length_cons, ih hs]
theorem ab_S_drop {ast : List AW} : ∀ {st : List AV} (n : Nat), ab_S ast st → ab_S (ast.drop n) (st.drop n) := by
  induction ast with
  | nil => intro st n h; have h : st = [] := h; rw [h, List.drop_nil, List.drop_nil]; exact rfl
  | cons w ast ih =>
    intro st n h
    obtain ⟨v, vs, rfl, hv, hs⟩ := h
    cases n with
    | zero => exact ⟨v, vs, rfl, hv, hs⟩
    | succ n => exact ih n hs
theorem ab_S_take {ast : List AW} : ∀ {st : List AV} (n : Nat), ab_S ast st → ab_S (ast.take n) (st.take n) := by
  induction ast with
  | nil => intro st n h; have h : st = [] := h; rw [h, List.take_nil, List.take_nil]; exact rfl
  | cons w ast ih =>
    intro st n h
    obtain ⟨v, vs, rfl, hv, hs⟩ := h
    cases n with
    | zero => exact rfl
    | succ n => exact ⟨v, vs.take n, rfl, hv, ih n hs⟩
theorem ab_S_app {ast : List AW} : ∀ {st : List AV} {bst : List AW} {tt : List AV}, ab_S ast st → ab_S bst tt → ab_S (ast ++ bst) (st ++ tt) := by
  induction ast with
  | nil => intro st bst tt h h2; have h : st = [] := h; rw [h]; exact h2
  | cons w ast ih =>
    intro st bst tt h h2
    obtain ⟨v, vs, rfl, hv, hs⟩ := h
    exact ⟨v, vs ++ tt, rfl, hv, ih hs h2⟩
theorem ab_S_rev {ast : List AW} : ∀ {st : List AV}, ab_S ast st → ab_S ast.reverse st.reverse := by
  induction ast with
  | nil => intro st h; have h : st = [] := h; rw [h]; exact rfl
  | cons w ast ih =>
    intro st h
    obtain ⟨v, vs, rfl, hv, hs⟩ := h
    rw [List.reverse_cons, List.reverse_cons]
    exact ab_S_app (ih hs) ⟨v, [], rfl, hv, rfl⟩
theorem ab_S_opt {r : Option AW} {v : Option AV} {ast : List AW} {st : List AV} (h : ab_O r v) (hs : ab_S ast st) : ab_S (r.toList ++ ast) (v.toList ++ st) := by
  cases r with
  | none => have h : v = none := h; rw [h]; exact hs
  | some w => obtain ⟨u, rfl, hu⟩ := h; exact ⟨u, st, rfl, hu, hs⟩
