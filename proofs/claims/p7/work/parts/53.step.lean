/-! pops and locals -/
def qI (st : List SV) (k : SV → List SV → Bool) : Bool := match st with
  | w :: st => isYI w && k w st
  | [] => false
def qL (st : List SV) (k : SV → List SV → Bool) : Bool := match st with
  | w :: st => isYL w && k w st
  | [] => false
def qR (st : List SV) (k : Nat → List SV → Bool) : Bool := match st with
  | .inl (.inr (.inr (some x))) :: st => k x st
  | _ => false
def qV (st : List SV) (k : SV → List SV → Bool) : Bool := match st with
  | w :: st => k w st
  | [] => false
section POPS
variable {n : Nat} {ρ : Nat → Int}
theorem qI_s {ast : List SV} {st : List AV} {k : SV → List SV → Bool} {k' : Int → List AV → Prop} (h : qI ast k = true) (hs : n_S n ρ ast st) (hk : ∀ w x ast' st', n_V n ρ w (.inl x) → n_S n ρ ast' st' → k w ast' = true → k' x st') : pI False st k' := by
  cases ast with
  | nil => cases h
  | cons w ast =>
    have h : (isYI w && k w ast) = true := h
    rw [Bool.and_eq_true] at h
    obtain ⟨v, vs, rfl, hv, hs⟩ := hs
    obtain ⟨x, rfl⟩ := isYI_s h.1 hv
    exact hk w x ast vs hv hs h.2
theorem qL_s {ast : List SV} {st : List AV} {k : SV → List SV → Bool} {k' : Int → List AV → Prop} (h : qL ast k = true) (hs : n_S n ρ ast st) (hk : ∀ w x ast' st', n_V n ρ w (.inr (.inl x)) → n_S n ρ ast' st' → k w ast' = true → k' x st') : pL False st k' := by
  cases ast with
  | nil => cases h
  | cons w ast =>
    have h : (isYL w && k w ast) = true := h
    rw [Bool.and_eq_true] at h
    obtain ⟨v, vs, rfl, hv, hs⟩ := hs
    obtain ⟨x, rfl⟩ := isYL_s h.1 hv
    exact hk w x ast vs hv hs h.2
theorem qR_s {ast : List SV} {st : List AV} {k : Nat → List SV → Bool} {k' : Nat → List AV → Prop} (h : qR ast k = true) (hs : n_S n ρ ast st) (hk : ∀ x ast' st', n_S n ρ ast' st' → k x ast' = true → k' x st') : pR False st k' := by
  match ast, h, hs with
  | .inl (.inr (.inr (some x))) :: ast, h, hs =>
    obtain ⟨v, vs, rfl, hv, hs2⟩ := hs
    have hv : v = .inr (.inr (some x)) := hv.2
    subst hv
    exact hk x ast vs hs2 h
theorem qV_s {ast : List SV} {st : List AV} {k : SV → List SV → Bool} {k' : AV → List AV → Prop} (h : qV ast k = true) (hs : n_S n ρ ast st) (hk : ∀ w v ast' st', n_V n ρ w v → n_S n ρ ast' st' → k w ast' = true → k' v st') : pV False st k' := by
  cases ast with
  | nil => cases h
  | cons w ast =>
    obtain ⟨v, vs, rfl, hv, hs⟩ := hs
    exact hk w v ast vs hv hs h
theorem n_L_get {al : List (Option SV)} : ∀ {cl : List (Option AV)} {i : Nat} {o : Option SV}, n_L n ρ al cl → al[i]? = some o → ∃ v, cl[i]? = some v ∧ n_P n ρ o v := by
  induction al with
  | nil => intro cl i o _ h; rw [List.getElem?_nil] at h; cases h
  | cons a al ih =>
    intro cl i o hl h
    obtain ⟨v, vs, rfl, hv, hl⟩ := hl
    cases i with
    | zero => rw [List.getElem?_cons_zero] at h ⊢; cases h; exact ⟨v, rfl, hv⟩
    | succ i => rw [List.getElem?_cons_succ] at h ⊢; exact ih hl h
theorem n_L_len {al : List (Option SV)} : ∀ {cl : List (Option AV)}, n_L n ρ al cl → al.length = cl.length := by
  induction al with
  | nil => intro cl h; have h : cl = [] := h; rw [h]; rfl
  | cons a al ih =>
    intro cl hl
    obtain ⟨v, vs, rfl, hv, hl⟩ := hl
    rw [List.length_cons, List.length_cons, ih hl]
theorem n_L_set {al : List (Option SV)} : ∀ {cl : List (Option AV)} {i : Nat} {o : Option SV} {v : Option AV}, n_L n ρ al cl → n_P n ρ o v → n_L n ρ (setF al i o) (cl.set i v) := by
  induction al with
  | nil => intro cl i o v h _; have h : cl = [] := h; subst h; exact rfl
  | cons a al ih =>
    intro cl i o v hl ho
    obtain ⟨u, vs, rfl, hv, hl⟩ := hl
    cases i with
    | zero => exact ⟨v, vs, rfl, ho, hl⟩
    | succ i => exact ⟨u, vs.set i v, rfl, hv, ih hl ho⟩
end POPS
noncomputable def mlI (ls : List (Option SV)) (i : Nat) (k : SV → Bool) : Bool := match nth ls i with
  | some (some w) => isYI w && k w
  | _ => false
noncomputable def mlL (ls : List (Option SV)) (i : Nat) (k : SV → Bool) : Bool := match nth ls i with
  | some (some w) => isYL w && k w
  | _ => false
noncomputable def mlR (ls : List (Option SV)) (i : Nat) (k : Nat → Bool) : Bool := match nth ls i with
  | some (some (.inl (.inr (.inr (some x))))) => k x
  | _ => false
noncomputable def okY (ls : List (Option SV)) (i : Nat) : Bool := match i with
  | 0 => hasN ls 0
  | j + 1 => (match nth ls j with
    | some (some w) => !isYL w
    | _ => true) && hasN ls (j + 1)
section LOCS
variable {n : Nat} {ρ : Nat → Int}
theorem mlI_s {al : List (Option SV)} {cl : List (Option AV)} {i : Nat} {k : SV → Bool} {k' : Int → Prop} (h : mlI al i k = true) (hl : n_L n ρ al cl) (hk : ∀ w x, n_V n ρ w (.inl x) → k w = true → k' x) : lI False cl i k' := by
  unfold mlI at h
  split at h
  · rename_i w e
    rw [Bool.and_eq_true] at h
    rw [nth_eq] at e
    obtain ⟨v, e2, u, rfl, hv⟩ := n_L_get hl e
    obtain ⟨x, rfl⟩ := isYI_s h.1 hv
    unfold lI; rw [e2]; exact hk w x hv h.2
  · cases h
theorem mlL_s {al : List (Option SV)} {cl : List (Option AV)} {i : Nat} {k : SV → Bool} {k' : Int → Prop} (h : mlL al i k = true) (hl : n_L n ρ al cl) (hk : ∀ w x, n_V n ρ w (.inr (.inl x)) → k w = true → k' x) : lL False cl i k' := by
  unfold mlL at h
  split at h
  · rename_i w e
    rw [Bool.and_eq_true] at h
    rw [nth_eq] at e
    obtain ⟨v, e2, u, rfl, hv⟩ := n_L_get hl e
    obtain ⟨x, rfl⟩ := isYL_s h.1 hv
    unfold lL; rw [e2]; exact hk w x hv h.2
  · cases h
theorem mlR_s {al : List (Option SV)} {cl : List (Option AV)} {i : Nat} {k : Nat → Bool} {k' : Nat → Prop} (h : mlR al i k = true) (hl : n_L n ρ al cl) (hk : ∀ x, k x = true → k' x) : lR False cl i k' := by
  unfold mlR at h
  split at h
  · rename_i x e
    rw [nth_eq] at e
    obtain ⟨v, e2, u, rfl, hv⟩ := n_L_get hl e
    have hv : u = .inr (.inr (some x)) := hv.2
    subst hv
    unfold lR; rw [e2]; exact hk x h
  · cases h
theorem okY_s {al : List (Option SV)} {cl : List (Option AV)} {i : Nat} (h : okY al i = true) (hl : n_L n ρ al cl) : okSt cl i = true := by
  cases i with
  | zero =>
    have h : hasN al 0 = true := h
    rw [hasN_eq] at h
    show decide (0 < cl.length) = true
    rw [← n_L_len hl]; exact h
  | succ j =>
    unfold okY at h
    dsimp only at h
    rw [Bool.and_eq_true, hasN_eq, decide_eq_true_eq, nth_eq] at h
    obtain ⟨h1, h2⟩ := h
    have e1 : al[j]? = some (al[j]'(by omega)) := List.getElem?_eq_getElem (by omega)
    obtain ⟨v, e2, ho⟩ := n_L_get hl e1
    unfold okSt
    dsimp only
    rw [e2]
    rw [e1] at h1
    cases hq : al[j]'(by omega) with
    | none =>
      rw [hq] at ho
      have ho : ∀ z, v ≠ some (.inr (.inl z)) := ho
      split
      · rename_i z ez
        exact absurd (Option.some.inj ez) (ho z)
      · exact decide_eq_true (by rw [← n_L_len hl]; exact h2)
    | some w =>
      rw [hq] at ho h1
      obtain ⟨u, rfl, hu⟩ := ho
      dsimp only at h1 ⊢
      split
      · rename_i z ez
        exfalso
        have ez := Option.some.inj (Option.some.inj ez)
        subst ez
        match w, hu, h1 with
        | .inl q, hu, h1 => have hu : (Sum.inr (Sum.inl z) : AV) = q := hu.2; subst hu; cases h1
        | .inr (true, i, o), hu, h1 => cases h1
        | .inr (false, i, o), hu, h1 => have hu : (Sum.inr (Sum.inl z) : AV) = Sum.inl (ρ i + o) := hu.2; cases hu
      · exact decide_eq_true (by rw [← n_L_len hl]; exact h2)
theorem catY_s {w : SV} {v : AV} (h : n_V n ρ w v) : catA v = bif isYL w then 2 else 1 := by
  obtain ⟨-, rfl⟩ := h
  match w with
  | .inl (.inl x) => rfl
  | .inl (.inr (.inl x)) => rfl
  | .inl (.inr (.inr x)) => rfl
  | .inr (true, i, o) => rfl
  | .inr (false, i, o) => rfl
end LOCS
def stWY : List SV → Nat
  | [] => 0
  | w :: st => (bif isYL w then 2 else 1) + stWY st
section STKS
variable {n : Nat} {ρ : Nat → Int}
theorem stWY_s {ast : List SV} : ∀ {st : List AV}, n_S n ρ ast st → stW st = stWY ast := by
  induction ast with
  | nil => intro st h; have h : st = [] := h; rw [h]; rfl
  | cons w ast ih =>
    intro st h
    obtain ⟨v, vs, rfl, hv, hs⟩ := h
    show catA v + stW vs = (bif isYL w then 2 else 1) + stWY ast
    rw [ih hs, catY_s hv]
theorem n_S_app {ast : List SV} : ∀ {st : List AV} {bst : List SV} {tt : List AV}, n_S n ρ ast st → n_S n ρ bst tt → n_S n ρ (ast ++ bst) (st ++ tt) := by
  induction ast with
  | nil => intro st bst tt h h2; have h : st = [] := h; rw [h]; exact h2
  | cons w ast ih =>
    intro st bst tt h h2
    obtain ⟨v, vs, rfl, hv, hs⟩ := h
    exact ⟨v, vs ++ tt, rfl, hv, ih hs h2⟩
theorem n_S_opt {r : Option SV} {v : Option AV} {ast : List SV} {st : List AV} (h : n_O n ρ r v) (hs : n_S n ρ ast st) : n_S n ρ (r.toList ++ ast) (v.toList ++ st) := by
  cases r with
  | none => have h : v = none := h; rw [h]; exact hs
  | some w => obtain ⟨u, rfl, hu⟩ := h; exact ⟨u, st, rfl, hu, hs⟩
end STKS
/-- the arguments of a call, in their order, and the rest -/
noncomputable def popY (m : Nat) : List SV → List SV → (List SV → List SV → Bool) → Bool := Nat.rec (fun st acc k => k acc st) (fun _ ih st acc k => List.rec false (fun w st _ => ih st (w :: acc) k) st) m
theorem popY_s {n : Nat} {ρ : Nat → Int} (m : Nat) : ∀ {st acc : List SV} {cst cacc : List AV} {k : List SV → List SV → Bool}, popY m st acc k = true → n_S n ρ st cst → n_S n ρ acc cacc → ∃ as rest, k as rest = true ∧ m ≤ cst.length ∧ n_S n ρ as ((cst.take m).reverse ++ cacc) ∧ n_S n ρ rest (cst.drop m) := by
  induction m with
  | zero => intro st acc cst cacc k h hs ha; exact ⟨acc, st, h, Nat.zero_le _, ha, hs⟩
  | succ m ih =>
    intro st acc cst cacc k h hs ha
    cases st with
    | nil => cases h
    | cons w st =>
      have h : popY m st (w :: acc) k = true := h
      obtain ⟨v, vs, rfl, hv, hs⟩ := hs
      obtain ⟨as, rest, h1, h2, h3, h4⟩ := ih h hs ⟨v, cacc, rfl, hv, ha⟩
      refine ⟨as, rest, h1, by rw [List.length_cons]; omega, ?_, ?_⟩
      · rw [List.take_succ_cons, List.reverse_cons, List.append_assoc]; exact h3
      · rw [List.drop_succ_cons]; exact h4
noncomputable def fS (b : SB) (r : Nat) (k : SC → Bool) : Bool := match gS b r with
  | some c => k c
  | none => false
theorem fS_s {b : SB} {r : Nat} {k : SC → Bool} (h : fS b r k = true) : ∃ c, gS b r = some c ∧ k c = true := by
  unfold fS at h
  split at h
  · rename_i c hc; exact ⟨c, hc, h⟩
  · cases h
