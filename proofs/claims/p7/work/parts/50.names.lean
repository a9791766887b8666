/-! the machine with names: a value is known, or a name and a number added to it -/
abbrev SV : Type := AV ⊕ (Bool × Nat × Int)
/-- what is known of a name: least, most, what divides it, another name that it does not pass by more than a number -/
abbrev SE : Type := Int × Int × Int × Option (Nat × Int)
abbrev EV : Type := List SE
abbrev yI (x : Int) : SV := .inl (.inl x)
abbrev yL (x : Int) : SV := .inl (.inr (.inl x))
abbrev yR (x : Nat) : SV := .inl (.inr (.inr (some x)))
def svl (ρ : Nat → Int) (w : SV) : AV := match w with
  | .inl v => v
  | .inr (false, i, o) => .inl (ρ i + o)
  | .inr (true, i, o) => .inr (.inl (ρ i + o))
def scp (n : Nat) (w : SV) : Prop := match w with
  | .inl _ => True
  | .inr q => q.2.1 < n
def n_V (n : Nat) (ρ : Nat → Int) (w : SV) (v : AV) : Prop := scp n w ∧ v = svl ρ w
def upR (ρ : Nat → Int) (n : Nat) (x : Int) : Nat → Int := fun i => if i = n then x else ρ i
theorem upR_at {ρ : Nat → Int} {n : Nat} {x : Int} : upR ρ n x n = x := if_pos rfl
theorem upR_ne {ρ : Nat → Int} {n i : Nat} {x : Int} (h : i < n) : upR ρ n x i = ρ i := if_neg (by omega)
theorem svl_up {ρ : Nat → Int} {n : Nat} {x : Int} {w : SV} (h : scp n w) : svl (upR ρ n x) w = svl ρ w := by
  match w, h with
  | .inl v, _ => rfl
  | .inr (false, i, o), h => have h : i < n := h; show (Sum.inl (upR ρ n x i + o) : AV) = _; rw [upR_ne h]; rfl
  | .inr (true, i, o), h => have h : i < n := h; show (Sum.inr (Sum.inl (upR ρ n x i + o)) : AV) = _; rw [upR_ne h]; rfl
theorem scp_up {n : Nat} {w : SV} (h : scp n w) : scp (n + 1) w := by
  match w, h with
  | .inl v, _ => exact trivial
  | .inr q, h => have h : q.2.1 < n := h; show q.2.1 < n + 1; omega
theorem n_V_up {n : Nat} {ρ : Nat → Int} {x : Int} {w : SV} {v : AV} (h : n_V n ρ w v) : n_V (n + 1) (upR ρ n x) w v := ⟨scp_up h.1, by rw [svl_up h.1]; exact h.2⟩
theorem n_yI {n : Nat} {ρ : Nat → Int} (x : Int) : n_V n ρ (yI x) (.inl x) := ⟨trivial, rfl⟩
theorem n_yL {n : Nat} {ρ : Nat → Int} (x : Int) : n_V n ρ (yL x) (.inr (.inl x)) := ⟨trivial, rfl⟩
theorem n_yR {n : Nat} {ρ : Nat → Int} (x : Nat) : n_V n ρ (yR x) (.inr (.inr (some x))) := ⟨trivial, rfl⟩
/-! what is known of the names -/
def eOK (ρ : Nat → Int) (x : Int) (e : SE) : Prop := e.1 ≤ x ∧ x ≤ e.2.1 ∧ e.2.2.1 ∣ x ∧ ∀ q, e.2.2.2 = some q → x ≤ ρ q.1 + q.2
def n_E (n : Nat) (E : EV) (ρ : Nat → Int) : Prop := ∀ j e, E[j]? = some e → j < n ∧ eOK ρ (ρ (n - 1 - j)) e ∧ ∀ q, e.2.2.2 = some q → q.1 < n
noncomputable def eG (n : Nat) (E : EV) (i : Nat) : Option SE := bif Nat.ble (i + 1) n then nth E (n - 1 - i) else none
theorem eG_s {n : Nat} {E : EV} {ρ : Nat → Int} {i : Nat} {e : SE} (h : eG n E i = some e) (hE : n_E n E ρ) : i < n ∧ eOK ρ (ρ i) e ∧ ∀ q, e.2.2.2 = some q → q.1 < n := by
  unfold eG at h
  cases hb : Nat.ble (i + 1) n with
  | false => rw [hb, cnd_f] at h; cases h
  | true =>
    rw [hb, cnd_t, nth_eq] at h
    have hi := Nat.le_of_ble_eq_true hb
    obtain ⟨h1, h2, h3⟩ := hE _ _ h
    rw [show n - 1 - (n - 1 - i) = i by omega] at h2
    exact ⟨by omega, h2, h3⟩
/-- a new name -/
theorem n_E_new {n : Nat} {E : EV} {ρ : Nat → Int} {e : SE} {x : Int} (hE : n_E n E ρ) (hx : e.1 ≤ x ∧ x ≤ e.2.1 ∧ e.2.2.1 ∣ x ∧ ∀ q, e.2.2.2 = some q → q.1 < n ∧ x ≤ ρ q.1 + q.2) : n_E (n + 1) (e :: E) (upR ρ n x) := by
  intro j e' he
  cases j with
  | zero =>
    rw [List.getElem?_cons_zero] at he
    cases he
    refine ⟨by omega, ?_, fun q hq => by have := (hx.2.2.2 q hq).1; omega⟩
    rw [show n + 1 - 1 - 0 = n by omega, upR_at]
    exact ⟨hx.1, hx.2.1, hx.2.2.1, fun q hq => by rw [upR_ne (hx.2.2.2 q hq).1]; exact (hx.2.2.2 q hq).2⟩
  | succ j =>
    rw [List.getElem?_cons_succ] at he
    obtain ⟨h1, h2, h3⟩ := hE j e' he
    refine ⟨by omega, ?_, fun q hq => by have := h3 q hq; omega⟩
    rw [show n + 1 - 1 - (j + 1) = n - 1 - j by omega, upR_ne (by omega)]
    exact ⟨h2.1, h2.2.1, h2.2.2.1, fun q hq => by rw [upR_ne (h3 q hq)]; exact h2.2.2.2 q hq⟩
/-- less is possible for a name -/
theorem n_E_set {n : Nat} {E : EV} {ρ : Nat → Int} {i : Nat} {e e' : SE} (hE : n_E n E ρ) (hg : eG n E i = some e) (hl : e'.1 ≤ ρ i) (hh : ρ i ≤ e'.2.1) (hm : e'.2.2 = e.2.2) : n_E n (setF E (n - 1 - i) e') ρ := by
  intro j f hf
  obtain ⟨g1, g2, g3⟩ := eG_s hg hE
  rw [setF_eq, List.getElem?_set] at hf
  split at hf
  · rename_i hj
    split at hf
    · cases hf
      refine ⟨by omega, ?_, fun q hq => g3 q (by rw [← hm]; exact hq)⟩
      rw [show n - 1 - j = i by omega]
      exact ⟨hl, hh, by rw [hm]; exact g2.2.2.1, fun q hq => g2.2.2.2 q (by rw [← hm]; exact hq)⟩
    · cases hf
  · exact hE j f hf
theorem n_E_put {n : Nat} {E : EV} {ρ : Nat → Int} {i : Nat} {e' : SE} (hE : n_E n E ρ) (hi : i < n) (he : eOK ρ (ρ i) e') (hs : ∀ q, e'.2.2.2 = some q → q.1 < n) : n_E n (setF E (n - 1 - i) e') ρ := by
  intro j f hf
  rw [setF_eq, List.getElem?_set] at hf
  split at hf
  · rename_i hj
    split at hf
    · cases hf
      refine ⟨by omega, ?_, hs⟩
      rw [show n - 1 - j = i by omega]
      exact he
    · cases hf
  · exact hE j f hf
/-- between what -/
noncomputable def hiE (n : Nat) (E : EV) (e : SE) : Int := match e.2.2.2 with
  | none => e.2.1
  | some q => match eG n E q.1 with
    | none => e.2.1
    | some f => bif ltI (f.2.1 + q.2) e.2.1 then f.2.1 + q.2 else e.2.1
theorem hiE_s {n : Nat} {E : EV} {ρ : Nat → Int} {e : SE} {x : Int} (hE : n_E n E ρ) (hx : eOK ρ x e) : x ≤ hiE n E e := by
  unfold hiE
  split
  · exact hx.2.1
  · rename_i q hq
    split
    · exact hx.2.1
    · rename_i f hf
      have h1 := hx.2.2.2 q hq
      have h2 := (eG_s hf hE).2.1.2.1
      cases ltI (f.2.1 + q.2) e.2.1 with
      | true => rw [cnd_t]; omega
      | false => rw [cnd_f]; exact hx.2.1
/-- the number of a value -/
def nmb (v : AV) : Int := match v with
  | .inl x => x
  | .inr (.inl x) => x
  | .inr (.inr _) => 0
noncomputable def sR (n : Nat) (E : EV) (w : SV) (k : Int → Int → Bool) : Bool := match w with
  | .inl (.inl x) => k x x
  | .inl (.inr (.inl x)) => k x x
  | .inl (.inr (.inr _)) => false
  | .inr q => match eG n E q.2.1 with
    | some e => k (e.1 + q.2.2) (hiE n E e + q.2.2)
    | none => false
theorem nmb_s {ρ : Nat → Int} {q : Bool × Nat × Int} : nmb (svl ρ (.inr q)) = ρ q.2.1 + q.2.2 := by
  match q with
  | (false, i, o) => rfl
  | (true, i, o) => rfl
theorem sR_s {n : Nat} {E : EV} {ρ : Nat → Int} {w : SV} {v : AV} {k : Int → Int → Bool} (h : sR n E w k = true) (hE : n_E n E ρ) (hv : n_V n ρ w v) : ∃ l u, k l u = true ∧ l ≤ nmb v ∧ nmb v ≤ u := by
  obtain ⟨h1, rfl⟩ := hv
  match w, h with
  | .inl (.inl x), h => exact ⟨x, x, h, Int.le_refl _, Int.le_refl _⟩
  | .inl (.inr (.inl x)), h => exact ⟨x, x, h, Int.le_refl _, Int.le_refl _⟩
  | .inr q, h =>
    unfold sR at h
    dsimp only at h
    split at h
    · rename_i e he
      obtain ⟨-, h3, -⟩ := eG_s he hE
      have h4 := hiE_s hE h3
      have h5 := h3.1
      refine ⟨_, _, h, ?_, ?_⟩ <;> rw [nmb_s] <;> omega
    · cases h
/-- what kind of value -/
def isYI (w : SV) : Bool := match w with
  | .inl (.inl _) => true
  | .inr (false, _, _) => true
  | _ => false
def isYL (w : SV) : Bool := match w with
  | .inl (.inr (.inl _)) => true
  | .inr (true, _, _) => true
  | _ => false
theorem isYI_s {n : Nat} {ρ : Nat → Int} {w : SV} {v : AV} (h : isYI w = true) (hv : n_V n ρ w v) : ∃ x, v = .inl x := by
  obtain ⟨-, rfl⟩ := hv
  match w, h with
  | .inl (.inl x), _ => exact ⟨x, rfl⟩
  | .inr (false, i, o), _ => exact ⟨_, rfl⟩
theorem isYL_s {n : Nat} {ρ : Nat → Int} {w : SV} {v : AV} (h : isYL w = true) (hv : n_V n ρ w v) : ∃ x, v = .inr (.inl x) := by
  obtain ⟨-, rfl⟩ := hv
  match w, h with
  | .inl (.inr (.inl x)), _ => exact ⟨x, rfl⟩
  | .inr (true, i, o), _ => exact ⟨_, rfl⟩
/-- a new name, or a number where there is but one -/
def mkN (l : Bool) (n : Nat) (E : EV) (lo hi m : Int) (k : Nat → EV → SV → Bool) : Bool :=
  bif eqI lo hi then k n E (bif l then yL lo else yI lo) else k (n + 1) ((lo, hi, m, none) :: E) (.inr (l, n, 0))
def vN_ (l : Bool) (x : Int) : AV := bif l then .inr (.inl x) else .inl x
/-! states -/
def n_O (n : Nat) (ρ : Nat → Int) (w : Option SV) (v : Option AV) : Prop := match w with
  | none => v = none
  | some w => ∃ u, v = some u ∧ n_V n ρ w u
/-- of a local nothing may be known but that it is no long -/
def n_P (n : Nat) (ρ : Nat → Int) (w : Option SV) (v : Option AV) : Prop := match w with
  | none => ∀ z, v ≠ some (.inr (.inl z))
  | some w => ∃ u, v = some u ∧ n_V n ρ w u
def n_S (n : Nat) (ρ : Nat → Int) : List SV → List AV → Prop
  | [], st => st = []
  | a :: as, st => ∃ v vs, st = v :: vs ∧ n_V n ρ a v ∧ n_S n ρ as vs
def n_L (n : Nat) (ρ : Nat → Int) : List (Option SV) → List (Option AV) → Prop
  | [], st => st = []
  | a :: as, st => ∃ v vs, st = v :: vs ∧ n_P n ρ a v ∧ n_L n ρ as vs
/-! more names -/
def n_X (n : Nat) (ρ : Nat → Int) (n' : Nat) (ρ' : Nat → Int) : Prop := n ≤ n' ∧ ∀ i, i < n → ρ' i = ρ i
theorem n_X_r {n : Nat} {ρ : Nat → Int} : n_X n ρ n ρ := ⟨Nat.le_refl n, fun _ _ => rfl⟩
theorem n_X_t {n n' n'' : Nat} {ρ ρ' ρ'' : Nat → Int} (h : n_X n ρ n' ρ') (h' : n_X n' ρ' n'' ρ'') : n_X n ρ n'' ρ'' := ⟨Nat.le_trans h.1 h'.1, fun i hi => by rw [h'.2 i (Nat.lt_of_lt_of_le hi h.1), h.2 i hi]⟩
theorem n_X_1 {n : Nat} {ρ : Nat → Int} {x : Int} : n_X n ρ (n + 1) (upR ρ n x) := ⟨Nat.le_succ n, fun _ hi => upR_ne hi⟩
theorem n_V_x {n n' : Nat} {ρ ρ' : Nat → Int} {w : SV} {v : AV} (hx : n_X n ρ n' ρ') (h : n_V n ρ w v) : n_V n' ρ' w v := by
  obtain ⟨h1, rfl⟩ := h
  match w, h1 with
  | .inl v, _ => exact ⟨trivial, rfl⟩
  | .inr (false, i, o), h1 => have h1 : i < n := h1; exact ⟨Nat.lt_of_lt_of_le h1 hx.1, by show (Sum.inl (ρ i + o) : AV) = Sum.inl (ρ' i + o); rw [hx.2 i h1]⟩
  | .inr (true, i, o), h1 => have h1 : i < n := h1; exact ⟨Nat.lt_of_lt_of_le h1 hx.1, by show (Sum.inr (Sum.inl (ρ i + o)) : AV) = Sum.inr (Sum.inl (ρ' i + o)); rw [hx.2 i h1]⟩
theorem n_O_x {n n' : Nat} {ρ ρ' : Nat → Int} {w : Option SV} {v : Option AV} (hx : n_X n ρ n' ρ') (h : n_O n ρ w v) : n_O n' ρ' w v := by
  cases w with
  | none => exact h
  | some w => obtain ⟨u, rfl, h⟩ := h; exact ⟨u, rfl, n_V_x hx h⟩
theorem n_P_x {n n' : Nat} {ρ ρ' : Nat → Int} {w : Option SV} {v : Option AV} (hx : n_X n ρ n' ρ') (h : n_P n ρ w v) : n_P n' ρ' w v := by
  cases w with
  | none => exact h
  | some w => obtain ⟨u, rfl, h⟩ := h; exact ⟨u, rfl, n_V_x hx h⟩
theorem n_S_x {n n' : Nat} {ρ ρ' : Nat → Int} {ws : List SV} (hx : n_X n ρ n' ρ') : ∀ {st : List AV}, n_S n ρ ws st → n_S n' ρ' ws st := by
  induction ws with
  | nil => intro st h; exact h
  | cons w ws ih => intro st h; obtain ⟨v, vs, rfl, h1, h2⟩ := h; exact ⟨v, vs, rfl, n_V_x hx h1, ih h2⟩
theorem n_L_x {n n' : Nat} {ρ ρ' : Nat → Int} {ws : List (Option SV)} (hx : n_X n ρ n' ρ') : ∀ {ls : List (Option AV)}, n_L n ρ ws ls → n_L n' ρ' ws ls := by
  induction ws with
  | nil => intro ls h; exact h
  | cons w ws ih => intro ls h; obtain ⟨v, vs, rfl, h1, h2⟩ := h; exact ⟨v, vs, rfl, n_P_x hx h1, ih h2⟩
theorem mkN_s {l : Bool} {n : Nat} {E : EV} {ρ : Nat → Int} {lo hi m x : Int} {k : Nat → EV → SV → Bool} (h : mkN l n E lo hi m k = true) (hE : n_E n E ρ) (h1 : lo ≤ x) (h2 : x ≤ hi) (h3 : m ∣ x) : ∃ n' ρ' E' w, k n' E' w = true ∧ n_X n ρ n' ρ' ∧ n_E n' E' ρ' ∧ n_V n' ρ' w (vN_ l x) := by
  unfold mkN at h
  rw [eqI_eq] at h
  by_cases e : lo = hi
  · rw [decide_eq_true e, cnd_t] at h
    have hx : x = lo := by omega
    subst hx
    refine ⟨n, ρ, E, _, h, n_X_r, hE, ?_⟩
    cases l
    · exact ⟨trivial, rfl⟩
    · exact ⟨trivial, rfl⟩
  · rw [decide_eq_false e, cnd_f] at h
    refine ⟨n + 1, upR ρ n x, _, _, h, n_X_1, n_E_new hE ⟨h1, h2, h3, fun q hq => by cases hq⟩, Nat.lt_succ_self n, ?_⟩
    cases l
    · show (Sum.inl x : AV) = Sum.inl (upR ρ n x n + 0); rw [upR_at, Int.add_zero]
    · show (Sum.inr (Sum.inl x) : AV) = Sum.inr (Sum.inl (upR ρ n x n + 0)); rw [upR_at, Int.add_zero]
/-! comparisons -/
noncomputable def rfL (n : Nat) (E : EV) (w : SV) (l : Int) : EV := match w with
  | .inl _ => E
  | .inr q => match eG n E q.2.1 with
    | some e => bif ltI e.1 (l - q.2.2) then setF E (n - 1 - q.2.1) (l - q.2.2, e.2) else E
    | none => E
noncomputable def rfH (n : Nat) (E : EV) (w : SV) (u : Int) : EV := match w with
  | .inl _ => E
  | .inr q => match eG n E q.2.1 with
    | some e => bif ltI (u - q.2.2) e.2.1 then setF E (n - 1 - q.2.1) (e.1, u - q.2.2, e.2.2) else E
    | none => E
theorem rfL_s {n : Nat} {E : EV} {ρ : Nat → Int} {w : SV} {v : AV} {l : Int} (hE : n_E n E ρ) (hv : n_V n ρ w v) (hl : l ≤ nmb v) : n_E n (rfL n E w l) ρ := by
  obtain ⟨h1, rfl⟩ := hv
  match w, h1, hl with
  | .inl v, _, _ => exact hE
  | .inr q, h1, hl =>
    unfold rfL
    dsimp only
    split
    · rename_i e he
      rw [nmb_s] at hl
      cases ltI e.1 (l - q.2.2) with
      | true => rw [cnd_t]; exact n_E_set hE he (by show l - q.2.2 ≤ _; omega) (eG_s he hE).2.1.2.1 rfl
      | false => rw [cnd_f]; exact hE
    · exact hE
theorem rfH_s {n : Nat} {E : EV} {ρ : Nat → Int} {w : SV} {v : AV} {u : Int} (hE : n_E n E ρ) (hv : n_V n ρ w v) (hu : nmb v ≤ u) : n_E n (rfH n E w u) ρ := by
  obtain ⟨h1, rfl⟩ := hv
  match w, h1, hu with
  | .inl v, _, _ => exact hE
  | .inr q, h1, hu =>
    unfold rfH
    dsimp only
    split
    · rename_i e he
      rw [nmb_s] at hu
      cases ltI (u - q.2.2) e.2.1 with
      | true => rw [cnd_t]; exact n_E_set hE he (eG_s he hE).2.1.1 (by show _ ≤ u - q.2.2; omega) rfl
      | false => rw [cnd_f]; exact hE
    · exact hE
noncomputable def ubd (n : Nat) (E : EV) (wx wy : SV) (c : Int) : EV := match wx, wy with
  | .inr p, .inr q => bif Nat.beq p.2.1 q.2.1 then E else (match eG n E p.2.1 with
    | some e => (match e.2.2.2 with
      | none => setF E (n - 1 - p.2.1) (e.1, e.2.1, e.2.2.1, some (q.2.1, c + q.2.2 - p.2.2))
      | some u => bif Nat.beq u.1 q.2.1 && ltI (c + q.2.2 - p.2.2) u.2 then setF E (n - 1 - p.2.1) (e.1, e.2.1, e.2.2.1, some (q.2.1, c + q.2.2 - p.2.2)) else E)
    | none => E)
  | _, _ => E
theorem ubd_s {n : Nat} {E : EV} {ρ : Nat → Int} {wx wy : SV} {vx vy : AV} {c : Int} (hE : n_E n E ρ) (hx : n_V n ρ wx vx) (hy : n_V n ρ wy vy) (hc : nmb vx ≤ nmb vy + c) : n_E n (ubd n E wx wy c) ρ := by
  obtain ⟨h1, rfl⟩ := hx
  obtain ⟨h2, rfl⟩ := hy
  match wx, wy, h1, h2, hc with
  | .inl _, _, _, _, _ => exact hE
  | .inr p, .inl _, _, _, _ => exact hE
  | .inr p, .inr q, h1, h2, hc =>
    rw [nmb_s, nmb_s] at hc
    have h1 : p.2.1 < n := h1
    have h2 : q.2.1 < n := h2
    unfold ubd
    dsimp only
    cases Nat.beq p.2.1 q.2.1 with
    | true => rw [cnd_t]; exact hE
    | false =>
      rw [cnd_f]
      split
      · rename_i e he
        obtain ⟨-, g1, g2⟩ := eG_s he hE
        have new : n_E n (setF E (n - 1 - p.2.1) (e.1, e.2.1, e.2.2.1, some (q.2.1, c + q.2.2 - p.2.2))) ρ := by
          refine n_E_put hE h1 ⟨g1.1, g1.2.1, g1.2.2.1, fun u hu => ?_⟩ (fun u hu => ?_)
          · have hu : some (q.2.1, c + q.2.2 - p.2.2) = some u := hu
            cases hu
            show ρ p.2.1 ≤ ρ q.2.1 + (c + q.2.2 - p.2.2)
            omega
          · have hu : some (q.2.1, c + q.2.2 - p.2.2) = some u := hu
            cases hu
            exact h2
        split
        · exact new
        · rename_i u hu
          cases (Nat.beq u.1 q.2.1 && ltI (c + q.2.2 - p.2.2) u.2) with
          | true => rw [cnd_t]; exact new
          | false => rw [cnd_f]; exact hE
      · exact hE
/-- two that are not alike, of which the one does not pass the other -/
noncomputable def ubn (n : Nat) (E : EV) (wx wy : SV) : EV := match wx, wy with
  | .inr p, .inr q => (match eG n E p.2.1 with
    | some e => (match e.2.2.2 with
      | some u => bif Nat.beq u.1 q.2.1 && eqI (u.2 + p.2.2 - q.2.2) 0 then setF E (n - 1 - p.2.1) (e.1, e.2.1, e.2.2.1, some (u.1, u.2 - 1)) else E
      | none => E)
    | none => E)
  | _, _ => E
theorem ubn_s {n : Nat} {E : EV} {ρ : Nat → Int} {wx wy : SV} {vx vy : AV} (hE : n_E n E ρ) (hx : n_V n ρ wx vx) (hy : n_V n ρ wy vy) (hc : ¬ nmb vx = nmb vy) : n_E n (ubn n E wx wy) ρ := by
  obtain ⟨h1, rfl⟩ := hx
  obtain ⟨h2, rfl⟩ := hy
  match wx, wy, h1, h2, hc with
  | .inl _, _, _, _, _ => exact hE
  | .inr p, .inl _, _, _, _ => exact hE
  | .inr p, .inr q, h1, h2, hc =>
    rw [nmb_s, nmb_s] at hc
    have h1 : p.2.1 < n := h1
    unfold ubn
    dsimp only
    split
    · rename_i e he
      obtain ⟨-, g1, g2⟩ := eG_s he hE
      split
      · rename_i u hu
        cases hb : (Nat.beq u.1 q.2.1 && eqI (u.2 + p.2.2 - q.2.2) 0) with
        | true =>
          rw [cnd_t]
          rw [Bool.and_eq_true, eqI_eq, decide_eq_true_eq] at hb
          have e1 := Nat.eq_of_beq_eq_true hb.1
          have g3 := g1.2.2.2 u hu
          refine n_E_put hE h1 ⟨g1.1, g1.2.1, g1.2.2.1, fun u' hu' => ?_⟩ (fun u' hu' => ?_)
          · have hu' : some (u.1, u.2 - 1) = some u' := hu'
            cases hu'
            show ρ p.2.1 ≤ ρ u.1 + (u.2 - 1)
            rw [e1] at g3 ⊢
            omega
          · have hu' : some (u.1, u.2 - 1) = some u' := hu'
            cases hu'
            exact g2 u hu
        | false => rw [cnd_f]; exact hE
      · exact hE
    · exact hE
noncomputable def rlt (n : Nat) (E : EV) (wx wy : SV) (k : EV → Bool) : Bool := sR n E wx fun xl _ => sR n E wy fun _ yh => bif ltI xl yh then k (ubd n (rfL n (rfH n E wx (yh - 1)) wy (xl + 1)) wx wy (-1)) else true
noncomputable def rle (n : Nat) (E : EV) (wx wy : SV) (k : EV → Bool) : Bool := sR n E wx fun xl _ => sR n E wy fun _ yh => bif ltI yh xl then true else k (ubd n (rfL n (rfH n E wx yh) wy xl) wx wy 0)
noncomputable def req (n : Nat) (E : EV) (wx wy : SV) (k : EV → Bool) : Bool := sR n E wx fun xl xh => sR n E wy fun yl yh => bif ltI yh xl || ltI xh yl then true else k (rfL n (rfH n (rfL n (rfH n E wx yh) wx yl) wy xh) wy xl)
noncomputable def rne (n : Nat) (E : EV) (wx wy : SV) (k : EV → Bool) : Bool := sR n E wx fun xl xh => sR n E wy fun yl yh =>
  bif eqI yl yh then (bif eqI xl yl then (bif eqI xh yl then true else k (rfL n E wx (yl + 1))) else bif eqI xh yl then k (rfH n E wx (yl - 1)) else bif (eqI yl 0 || !ltI 16 (xh - xl)) && (ltI xl yl && ltI yl xh) then k (rfH n E wx (yl - 1)) && k (rfL n E wx (yl + 1)) else k E) else k (ubn n E wx wy)
theorem rlt_s {n : Nat} {E : EV} {ρ : Nat → Int} {wx wy : SV} {vx vy : AV} {k : EV → Bool} (h : rlt n E wx wy k = true) (hE : n_E n E ρ) (hx : n_V n ρ wx vx) (hy : n_V n ρ wy vy) (hc : nmb vx < nmb vy) : ∃ E', k E' = true ∧ n_E n E' ρ := by
  obtain ⟨xl, xh, h, x1, x2⟩ := sR_s h hE hx
  obtain ⟨yl, yh, h, y1, y2⟩ := sR_s h hE hy
  rw [ltI_eq, decide_eq_true (by omega), cnd_t] at h
  exact ⟨_, h, ubd_s (rfL_s (rfH_s hE hx (by omega)) hy (by omega)) hx hy (by omega)⟩
theorem rle_s {n : Nat} {E : EV} {ρ : Nat → Int} {wx wy : SV} {vx vy : AV} {k : EV → Bool} (h : rle n E wx wy k = true) (hE : n_E n E ρ) (hx : n_V n ρ wx vx) (hy : n_V n ρ wy vy) (hc : nmb vx ≤ nmb vy) : ∃ E', k E' = true ∧ n_E n E' ρ := by
  obtain ⟨xl, xh, h, x1, x2⟩ := sR_s h hE hx
  obtain ⟨yl, yh, h, y1, y2⟩ := sR_s h hE hy
  rw [ltI_eq, decide_eq_false (by omega), cnd_f] at h
  exact ⟨_, h, ubd_s (rfL_s (rfH_s hE hx (by omega)) hy (by omega)) hx hy (by omega)⟩
theorem req_s {n : Nat} {E : EV} {ρ : Nat → Int} {wx wy : SV} {vx vy : AV} {k : EV → Bool} (h : req n E wx wy k = true) (hE : n_E n E ρ) (hx : n_V n ρ wx vx) (hy : n_V n ρ wy vy) (hc : nmb vx = nmb vy) : ∃ E', k E' = true ∧ n_E n E' ρ := by
  obtain ⟨xl, xh, h, x1, x2⟩ := sR_s h hE hx
  obtain ⟨yl, yh, h, y1, y2⟩ := sR_s h hE hy
  rw [ltI_eq, ltI_eq, decide_eq_false (by omega), decide_eq_false (by omega)] at h
  exact ⟨_, h, rfL_s (rfH_s (rfL_s (rfH_s hE hx (by omega)) hx (by omega)) hy (by omega)) hy (by omega)⟩
theorem rne_s {n : Nat} {E : EV} {ρ : Nat → Int} {wx wy : SV} {vx vy : AV} {k : EV → Bool} (h : rne n E wx wy k = true) (hE : n_E n E ρ) (hx : n_V n ρ wx vx) (hy : n_V n ρ wy vy) (hc : ¬ nmb vx = nmb vy) : ∃ E', k E' = true ∧ n_E n E' ρ := by
  obtain ⟨xl, xh, h, x1, x2⟩ := sR_s h hE hx
  obtain ⟨yl, yh, h, y1, y2⟩ := sR_s h hE hy
  rw [eqI_eq, eqI_eq, eqI_eq] at h
  by_cases a1 : yl = yh
  · rw [decide_eq_true a1, cnd_t] at h
    by_cases a2 : xl = yl
    · rw [decide_eq_true a2, cnd_t] at h
      by_cases a3 : xh = yl
      · exact absurd (show nmb vx = nmb vy by omega) hc
      · rw [decide_eq_false a3, cnd_f] at h
        exact ⟨_, h, rfL_s hE hx (by omega)⟩
    · rw [decide_eq_false a2, cnd_f] at h
      by_cases a3 : xh = yl
      · rw [decide_eq_true a3, cnd_t] at h
        exact ⟨_, h, rfH_s hE hx (by omega)⟩
      · rw [decide_eq_false a3, cnd_f] at h
        cases a4 : ((eqI yl 0 || !ltI 16 (xh - xl)) && (ltI xl yl && ltI yl xh)) with
        | false => rw [a4, cnd_f] at h; exact ⟨_, h, hE⟩
        | true =>
          rw [a4, cnd_t, Bool.and_eq_true] at h
          by_cases a5 : nmb vx < yl
          · exact ⟨_, h.1, rfH_s hE hx (by omega)⟩
          · exact ⟨_, h.2, rfL_s hE hx (by omega)⟩
  · rw [decide_eq_false a1, cnd_f] at h
    exact ⟨_, h, ubn_s hE hx hy hc⟩
noncomputable def cmK (b : Nat) (n : Nat) (E : EV) (wx wy : SV) (t f : EV → Bool) : Bool := match b with
  | 0 => req n E wx wy t && rne n E wx wy f
  | 1 => rne n E wx wy t && req n E wx wy f
  | 2 => rlt n E wx wy t && rle n E wy wx f
  | 3 => rle n E wy wx t && rlt n E wx wy f
  | 4 => rlt n E wy wx t && rle n E wx wy f
  | _ => rle n E wx wy t && rlt n E wy wx f
theorem cmK_s {b n : Nat} {E : EV} {ρ : Nat → Int} {wx wy : SV} {x y : Int} {t f : EV → Bool} {P R : Prop} (h : cmK b n E wx wy t f = true) (hE : n_E n E ρ) (hx : n_V n ρ wx (.inl x)) (hy : n_V n ρ wy (.inl y)) (ht : ∀ E', t E' = true → n_E n E' ρ → P) (hf : ∀ E', f E' = true → n_E n E' ρ → R) : if cmpB b x y = true then P else R := by
  have hP : ∀ {c : Prop} [Decidable c], (c → P) → (¬ c → R) → if decide c = true then P else R := fun {c} _ a b' => by
    by_cases hc : c
    · rw [decide_eq_true hc, if_pos rfl]; exact a hc
    · rw [decide_eq_false hc, if_neg (by decide)]; exact b' hc
  match b, h with
  | 0, h =>
    have h : (req n E wx wy t && rne n E wx wy f) = true := h
    rw [Bool.and_eq_true] at h
    exact hP (fun c => by obtain ⟨E', a, b⟩ := req_s h.1 hE hx hy c; exact ht E' a b) (fun c => by obtain ⟨E', a, b⟩ := rne_s h.2 hE hx hy c; exact hf E' a b)
  | 1, h =>
    have h : (rne n E wx wy t && req n E wx wy f) = true := h
    rw [Bool.and_eq_true] at h
    exact hP (fun c => by obtain ⟨E', a, b⟩ := rne_s h.1 hE hx hy c; exact ht E' a b) (fun c => by obtain ⟨E', a, b⟩ := req_s h.2 hE hx hy (Decidable.not_not.mp c); exact hf E' a b)
  | 2, h =>
    have h : (rlt n E wx wy t && rle n E wy wx f) = true := h
    rw [Bool.and_eq_true] at h
    exact hP (fun c => by obtain ⟨E', a, b⟩ := rlt_s h.1 hE hx hy c; exact ht E' a b) (fun c => by obtain ⟨E', a, b⟩ := rle_s h.2 hE hy hx (Int.not_lt.mp c); exact hf E' a b)
  | 3, h =>
    have h : (rle n E wy wx t && rlt n E wx wy f) = true := h
    rw [Bool.and_eq_true] at h
    exact hP (fun c => by obtain ⟨E', a, b⟩ := rle_s h.1 hE hy hx c; exact ht E' a b) (fun c => by obtain ⟨E', a, b⟩ := rlt_s h.2 hE hx hy (Int.not_le.mp c); exact hf E' a b)
  | 4, h =>
    have h : (rlt n E wy wx t && rle n E wx wy f) = true := h
    rw [Bool.and_eq_true] at h
    exact hP (fun c => by obtain ⟨E', a, b⟩ := rlt_s h.1 hE hy hx c; exact ht E' a b) (fun c => by obtain ⟨E', a, b⟩ := rle_s h.2 hE hx hy (Int.not_lt.mp c); exact hf E' a b)
  | n' + 5, h =>
    have h : (rle n E wx wy t && rlt n E wy wx f) = true := h
    rw [Bool.and_eq_true] at h
    exact hP (fun c => by obtain ⟨E', a, b⟩ := rle_s h.1 hE hx hy c; exact ht E' a b) (fun c => by obtain ⟨E', a, b⟩ := rlt_s h.2 hE hy hx (Int.not_le.mp c); exact hf E' a b)
