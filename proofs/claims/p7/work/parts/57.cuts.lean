/-! templates of states: at a cut, at the entry -/
theorem xed_d1 : ∀ (n d M pc : Nat) (ls : List (Option AV)) (st : List AV) (h : AH) (v : Option AV × AH), xec n d M pc ls st h = some v → xec n (d + 1) M pc ls st h = some v := by
  intro n
  induction n with
  | zero => intro d M pc ls st h v hv; rw [xec] at hv; cases hv
  | succ n ih =>
    intro d M pc ls st h v
    cases hc : cd M pc with
    | none => intro hv; rw [xec, hc] at hv; cases hv
    | some ce =>
      rw [xec_succ hc, xec_succ hc]
      refine stepK_rel (R := fun (x y : RT) => x = some v → y = some v) (fun h => h) (fun pc ls st h => ih d M pc ls st h v) (fun _ _ h => h) (fun M' as h k k' hk hv => ?_) ce ls st h
      obtain ⟨d', r, h1, rfl, hl, he, hk1⟩ := callX_some hv
      rw [callX_of hl (ih d' M' 0 _ [] h _ he)]
      exact hk r h1 hk1
theorem xed_d {n d d' M pc : Nat} {ls : List (Option AV)} {st : List AV} {h : AH} {v : Option AV × AH} (hd : d ≤ d') (hv : xec n d M pc ls st h = some v) : xec n d' M pc ls st h = some v := by
  induction hd with
  | refl => exact hv
  | step _ ih => exact xed_d1 _ _ _ _ _ _ _ _ ih
theorem XP_d {d d' M pc : Nat} {ls : List (Option AV)} {st : List AV} {h : AH} {Q : Option AV → AH → Prop} (hd : d ≤ d') (hp : XP d M pc ls st h Q) : XP d' M pc ls st h Q := by
  obtain ⟨n, r, h', he, hq⟩ := hp
  exact ⟨n, r, h', xed_d hd he, hq⟩
abbrev TL : Type := List (Option (AV ⊕ (Bool × SE)))
abbrev OV : Type := List (Nat × Nat × (SE ⊕ Nat))
def tS : TL → List SE
  | [] => []
  | none :: ts => tS ts
  | some (.inl _) :: ts => tS ts
  | some (.inr q) :: ts => q.2 :: tS ts
def tL : TL → Nat → List (Option SV)
  | [], _ => []
  | none :: ts, m => none :: tL ts m
  | some (.inl v) :: ts, m => some (.inl v) :: tL ts m
  | some (.inr q) :: ts, m => some (.inr (q.1, m, 0)) :: tL ts (m + 1)
theorem svl_x {n n' : Nat} {ρ ρ' : Nat → Int} {w : SV} (hx : n_X n ρ n' ρ') (h : scp n w) : svl ρ' w = svl ρ w := ((n_V_x hx (⟨h, rfl⟩ : n_V n ρ w (svl ρ w))).2).symm
/-- each name has a value that fits -/
def n_B (n : Nat) (ρ : Nat → Int) (es : List SE) (ws : List SV) : Prop := es.length = ws.length ∧ ∀ (j : Nat) (e : SE), es[j]? = some e → ∃ w, ws[j]? = some w ∧ scp n w ∧ e.1 ≤ nmb (svl ρ w) ∧ nmb (svl ρ w) ≤ e.2.1 ∧ e.2.2.1 = 1
theorem n_B_x {n n' : Nat} {ρ ρ' : Nat → Int} {es : List SE} {ws : List SV} (hx : n_X n ρ n' ρ') (h : n_B n ρ es ws) : n_B n' ρ' es ws := by
  refine ⟨h.1, fun j e he => ?_⟩
  obtain ⟨w, h1, h2, h3, h4, h5⟩ := h.2 j e he
  have hs : scp n' w := (n_V_x hx (⟨h2, rfl⟩ : n_V n ρ w (svl ρ w))).1
  exact ⟨w, h1, hs, by rw [svl_x hx h2]; exact h3, by rw [svl_x hx h2]; exact h4, h5⟩
theorem n_B_app {n : Nat} {ρ : Nat → Int} {es es' : List SE} {ws ws' : List SV} (h : n_B n ρ es ws) (h' : n_B n ρ es' ws') : n_B n ρ (es ++ es') (ws ++ ws') := by
  refine ⟨by rw [List.length_append, List.length_append, h.1, h'.1], fun j e he => ?_⟩
  by_cases z : j < es.length
  · rw [List.getElem?_append_left z] at he
    rw [List.getElem?_append_left (by rw [← h.1]; exact z)]
    exact h.2 j e he
  · rw [List.getElem?_append_right (by omega)] at he
    rw [List.getElem?_append_right (by rw [← h.1]; omega), ← h.1]
    exact h'.2 _ e he
theorem n_B_1 {n : Nat} {ρ : Nat → Int} {e : SE} {w : SV} (h1 : scp n w) (h2 : e.1 ≤ nmb (svl ρ w)) (h3 : nmb (svl ρ w) ≤ e.2.1) (h4 : e.2.2.1 = 1) : n_B n ρ [e] [w] := by
  refine ⟨rfl, fun j e' he => ?_⟩
  cases j with
  | zero => rw [List.getElem?_cons_zero] at he; cases he; exact ⟨w, rfl, h1, h2, h3, h4⟩
  | succ j => rw [List.getElem?_cons_succ, List.getElem?_nil] at he; cases he
theorem n_B_0 {n : Nat} {ρ : Nat → Int} : n_B n ρ [] [] := ⟨rfl, fun j e he => by rw [List.getElem?_nil] at he; cases he⟩
theorem nmb_v {n : Nat} {ρ : Nat → Int} {l : Bool} {w : SV} {v : AV} (hk : (bif l then isYL w else isYI w) = true) (hv : n_V n ρ w v) : v = vN_ l (nmb v) := by
  cases l with
  | false => obtain ⟨x, rfl⟩ := isYI_s hk hv; rfl
  | true => obtain ⟨x, rfl⟩ := isYL_s hk hv; rfl
theorem n_name {N : Nat} {ρ : Nat → Int} {l : Bool} {m : Nat} {x : Int} (hm : m < N) (hx : ρ m = x) : n_V N ρ (.inr (l, m, 0)) (vN_ l x) := by
  refine ⟨hm, ?_⟩
  cases l with
  | false => show (Sum.inl x : AV) = Sum.inl (ρ m + 0); rw [hx, Int.add_zero]
  | true => show (Sum.inr (Sum.inl x) : AV) = Sum.inr (Sum.inl (ρ m + 0)); rw [hx, Int.add_zero]
def noL (a : Option SV) : Bool := match a with
  | none => true
  | some w => !isYL w
def sam (a : Option SV) (v : AV) : Bool := match a with
  | some (.inl u) => eqAV u v
  | _ => false
noncomputable def arrL (n : Nat) (E : EV) (ts : TL) : List (Option SV) → List SV → (List SV → Bool) → Bool := List.rec (fun als acc k => match als with
  | [] => k acc
  | _ => false) (fun t _ ih als acc k => match als with
  | [] => false
  | a :: as => match t with
    | none => noL a && ih as acc k
    | some (.inl v) => sam a v && ih as acc k
    | some (.inr q) => match a with
      | some w => ((bif q.1 then isYL w else isYI w) && eqI q.2.2.2.1 1) && ((sR n E w fun l u => !ltI l q.2.1 && !ltI q.2.2.1 u) && ih as (acc ++ [w]) k)
      | none => false) ts
theorem n_P_no {n : Nat} {ρ : Nat → Int} {a : Option SV} {v : Option AV} (h : noL a = true) (hp : n_P n ρ a v) : ∀ z, v ≠ some (.inr (.inl z)) := by
  cases a with
  | none => exact hp
  | some w =>
    obtain ⟨u, rfl, hu⟩ := hp
    intro z hz
    have hz := Option.some.inj hz
    have h1 := catY_1 h hu
    rw [hz] at h1
    cases h1
theorem sR_in {n : Nat} {E : EV} {ρ : Nat → Int} {w : SV} {v : AV} {lo hi : Int} (h : (sR n E w fun l u => !ltI l lo && !ltI hi u) = true) (hE : n_E n E ρ) (hv : n_V n ρ w v) : lo ≤ nmb v ∧ nmb v ≤ hi := by
  obtain ⟨l, u, h, h1, h2⟩ := sR_s h hE hv
  rw [Bool.and_eq_true, ltI_eq, ltI_eq, not_d, not_d, decide_eq_true_eq, decide_eq_true_eq] at h
  omega
theorem arrL_s {n : Nat} {E : EV} {ρ : Nat → Int} (hE : n_E n E ρ) {k : List SV → Bool} {ts : TL} : ∀ {als : List (Option SV)} {ls : List (Option AV)} {acc : List SV}, arrL n E ts als acc k = true → n_L n ρ als ls → ∃ ws, k (acc ++ ws) = true ∧ n_B n ρ (tS ts) ws ∧ ∀ (N : Nat) (ρ2 : Nat → Int), acc.length + ws.length ≤ N → (∀ (j : Nat) (w : SV), ws[j]? = some w → ρ2 (acc.length + j) = nmb (svl ρ w)) → n_L N ρ2 (tL ts acc.length) ls := by
  induction ts with
  | nil =>
    intro als ls acc h hl
    cases als with
    | nil => exact ⟨[], by rw [List.append_nil]; exact h, n_B_0, fun _ _ _ _ => hl⟩
    | cons a as => cases h
  | cons t ts ih =>
    intro als ls acc h hl
    cases als with
    | nil => cases h
    | cons a as =>
      obtain ⟨v, vs, rfl, hv, hl⟩ := hl
      match t, h with
      | none, h =>
        have h : (noL a && arrL n E ts as acc k) = true := h
        rw [Bool.and_eq_true] at h
        obtain ⟨ws, g1, g2, g3⟩ := ih h.2 hl
        exact ⟨ws, g1, g2, fun N ρ2 p1 p2 => ⟨v, vs, rfl, n_P_no h.1 hv, g3 N ρ2 p1 p2⟩⟩
      | some (.inl u), h =>
        have h : (sam a u && arrL n E ts as acc k) = true := h
        rw [Bool.and_eq_true] at h
        obtain ⟨ws, g1, g2, g3⟩ := ih h.2 hl
        refine ⟨ws, g1, g2, fun N ρ2 p1 p2 => ⟨v, vs, rfl, ?_, g3 N ρ2 p1 p2⟩⟩
        match a, h.1, hv with
        | some (.inl u'), h1, hv =>
          have h1 : eqAV u' u = true := h1
          obtain ⟨x, rfl, hx⟩ := hv
          have hx : x = u' := hx.2
          rw [hx, eqAV_s h1]
          exact ⟨u, rfl, trivial, rfl⟩
      | some (.inr q), h =>
        match a, h, hv with
        | some w, h, hv =>
          have h : (((bif q.1 then isYL w else isYI w) && eqI q.2.2.2.1 1) && ((sR n E w fun l u => !ltI l q.2.1 && !ltI q.2.2.1 u) && arrL n E ts as (acc ++ [w]) k)) = true := h
          rw [Bool.and_eq_true, Bool.and_eq_true, Bool.and_eq_true, eqI_eq, decide_eq_true_eq] at h
          obtain ⟨⟨h1, h2⟩, h3, h4⟩ := h
          obtain ⟨u, rfl, hu⟩ := hv
          obtain ⟨r1, r2⟩ := sR_in h3 hE hu
          have hu2 : u = svl ρ w := hu.2
          obtain ⟨ws, g1, g2, g3⟩ := ih h4 hl
          refine ⟨w :: ws, by rw [List.append_assoc] at g1; exact g1, ?_, fun N ρ2 p1 p2 => ⟨some u, vs, rfl, ⟨u, rfl, ?_⟩, ?_⟩⟩
          · exact n_B_app (n_B_1 hu.1 (by rw [← hu2]; exact r1) (by rw [← hu2]; exact r2) h2) g2
          · rw [nmb_v h1 hu]
            refine n_name (by rw [List.length_cons] at p1; omega) ?_
            rw [hu2]
            exact p2 0 w rfl
          · have e : (acc ++ [w]).length = acc.length + 1 := by rw [List.length_append]; rfl
            rw [e] at g3
            exact g3 N ρ2 (by rw [List.length_cons] at p1; omega) (fun j w' hw' => by rw [show acc.length + 1 + j = acc.length + (j + 1) by omega]; exact p2 (j + 1) w' (by rw [List.getElem?_cons_succ]; exact hw'))
/-! entries of the heap with names; an entry may have the name of another one -/
noncomputable def putO (ov : OV) : Nat → SB → SB := List.rec (fun _ b => b) (fun q _ ih m b => match q.2.2 with
  | .inl _ => ih (m + 1) (put1 q.1 q.2.1 (.inl (.inr (false, m, 0))) b)
  | .inr j => ih m (put1 q.1 q.2.1 (.inl (.inr (false, j, 0))) b)) ov
def ovS : OV → List SE
  | [] => []
  | (_, _, .inl e) :: ov => e :: ovS ov
  | (_, _, .inr _) :: ov => ovS ov
def isN (acc : List SV) (j : Nat) (w : SV) : Bool := match acc[j]? with
  | some w' => eqSV w w'
  | none => false
noncomputable def arrH (ov : OV) : Nat → EV → SB → List SV → (Nat → EV → SB → List SV → Bool) → Bool := List.rec (fun n E b acc k => k n E b acc) (fun q _ ih n E b acc k => fS b q.1 fun c => ldE n E b q.1 c q.2.1 fun n E b w => match q.2.2 with
  | .inl e => (isYI w && eqI e.2.2.1 1) && ((sR n E w fun l u => !ltI l e.1 && !ltI e.2.1 u) && ih n E b (acc ++ [w]) k)
  | .inr j => (isYI w && isN acc j w) && ih n E b acc k) ov
theorem arrH_s {h : AH} {k : Nat → EV → SB → List SV → Bool} {ov : OV} : ∀ {n : Nat} {E : EV} {ρ : Nat → Int} {b : SB} {acc : List SV}, arrH ov n E b acc k = true → n_E n E ρ → n_H n ρ b h → ∃ n' ρ' E' b' ws, k n' E' b' (acc ++ ws) = true ∧ n_X n ρ n' ρ' ∧ n_E n' E' ρ' ∧ n_H n' ρ' b' h ∧ n_B n' ρ' (ovS ov) ws ∧ ∀ (N : Nat) (ρ2 : Nat → Int) (bb : SB), n_H N ρ2 bb h → acc.length + ws.length ≤ N → (∀ (j : Nat) (w : SV), (acc ++ ws)[j]? = some w → ρ2 j = nmb (svl ρ' w)) → n_H N ρ2 (putO ov acc.length bb) h := by
  induction ov with
  | nil => intro n E ρ b acc hh hE hb; exact ⟨n, ρ, E, b, [], by rw [List.append_nil]; exact hh, n_X_r, hE, hb, n_B_0, fun _ _ _ hB _ _ => hB⟩
  | cons q ov ih =>
    intro n E ρ b acc hh hE hb
    obtain ⟨k0, i0, o⟩ := q
    obtain ⟨c, hc, hh⟩ := fS_s (show fS b k0 _ = true from hh)
    obtain ⟨n1, ρ1, E1, b1, w, g1, g2, g3, g4, g5⟩ := ldE_s hh hE hb hc
    have hw2 : hV h k0 i0 = svl ρ1 w := g5.2
    cases o with
    | inl e0 =>
      have g1 : ((isYI w && eqI e0.2.2.1 1) && ((sR n1 E1 w fun l u => !ltI l e0.1 && !ltI e0.2.1 u) && arrH ov n1 E1 b1 (acc ++ [w]) k)) = true := g1
      rw [Bool.and_eq_true, Bool.and_eq_true, Bool.and_eq_true, eqI_eq, decide_eq_true_eq] at g1
      obtain ⟨⟨h1, h2⟩, h3, h4⟩ := g1
      obtain ⟨r1, r2⟩ := sR_in h3 g3 g5
      obtain ⟨n2, ρ2', E2, b2, ws, q1, q2, q3, q4, q5, q6⟩ := ih h4 g3 g4
      have e : (acc ++ [w]).length = acc.length + 1 := by rw [List.length_append]; rfl
      have hsv : svl ρ2' w = svl ρ1 w := svl_x q2 g5.1
      refine ⟨n2, ρ2', E2, b2, w :: ws, by rw [List.append_assoc] at q1; exact q1, n_X_t g2 q2, q3, q4, ?_, fun N ρ2 bb hB p1 p2 => ?_⟩
      · exact n_B_app (n_B_x q2 (n_B_1 (e := e0) g5.1 (by rw [← hw2]; exact r1) (by rw [← hw2]; exact r2) h2)) q5
      · rw [e, List.append_assoc] at q6
        refine q6 N ρ2 (put1 k0 i0 (.inl (.inr (false, acc.length, 0))) bb) (put1_s hB ?_) (by rw [List.length_cons] at p1; omega) p2
        have hv : hV h k0 i0 = vN_ false (nmb (hV h k0 i0)) := nmb_v (l := false) h1 g5
        rw [hv]
        refine n_name (by rw [List.length_cons] at p1; omega) ?_
        have := p2 acc.length w (by rw [List.getElem?_append_right (Nat.le_refl _), Nat.sub_self]; rfl)
        rw [this, hsv, hw2]
    | inr j =>
      have g1 : ((isYI w && isN acc j w) && arrH ov n1 E1 b1 acc k) = true := g1
      rw [Bool.and_eq_true, Bool.and_eq_true] at g1
      obtain ⟨⟨h1, h2⟩, h4⟩ := g1
      obtain ⟨n2, ρ2', E2, b2, ws, q1, q2, q3, q4, q5, q6⟩ := ih h4 g3 g4
      have hsv : svl ρ2' w = svl ρ1 w := svl_x q2 g5.1
      refine ⟨n2, ρ2', E2, b2, ws, q1, n_X_t g2 q2, q3, q4, q5, fun N ρ2 bb hB p1 p2 => ?_⟩
      refine q6 N ρ2 (put1 k0 i0 (.inl (.inr (false, j, 0))) bb) (put1_s hB ?_) p1 p2
      unfold isN at h2
      split at h2
      · rename_i w' hw'
        have ew := eqSV_s h2
        subst ew
        have hj : j < acc.length := by
          rcases Nat.lt_or_ge j acc.length with z | z
          · exact z
          · rw [List.getElem?_eq_none z] at hw'; cases hw'
        have hv : hV h k0 i0 = vN_ false (nmb (hV h k0 i0)) := nmb_v (l := false) h1 g5
        rw [hv]
        refine n_name (by omega) ?_
        have := p2 j w (by rw [List.getElem?_append_left hj]; exact hw')
        rw [this, hsv, hw2]
      · cases h2
/-! a name and another -/
noncomputable def leU (n : Nat) (E : EV) (w w' : SV) (c : Int) : Bool := (match w, w' with
  | .inr q, .inr q' => bif Nat.beq q.2.1 q'.2.1 then !ltI c (q.2.2 - q'.2.2) else (match eG n E q.2.1 with
    | some e => (match e.2.2.2 with
      | some u => Nat.beq u.1 q'.2.1 && !ltI c (u.2 + q.2.2 - q'.2.2)
      | none => false)
    | none => false)
  | _, _ => false) || sR n E w fun _ u => sR n E w' fun l _ => !ltI (l + c) u
theorem leU_s {n : Nat} {E : EV} {ρ : Nat → Int} {w w' : SV} {c : Int} (h : leU n E w w' c = true) (hE : n_E n E ρ) (hw : scp n w) (hw' : scp n w') : nmb (svl ρ w) ≤ nmb (svl ρ w') + c := by
  unfold leU at h
  rw [Bool.or_eq_true] at h
  rcases h with h | h
  · match w, w', h with
    | .inr q, .inr q', h =>
      dsimp only at h
      rw [nmb_s, nmb_s]
      cases hb : Nat.beq q.2.1 q'.2.1 with
      | true =>
        rw [hb, cnd_t, ltI_eq, not_d, decide_eq_true_eq] at h
        rw [Nat.eq_of_beq_eq_true hb]
        omega
      | false =>
        rw [hb, cnd_f] at h
        split at h
        · rename_i e he
          split at h
          · rename_i u hu
            rw [Bool.and_eq_true, ltI_eq, not_d, decide_eq_true_eq] at h
            have h1 := (eG_s he hE).2.1.2.2.2 u hu
            rw [Nat.eq_of_beq_eq_true h.1] at h1
            omega
          · cases h
        · cases h
  · obtain ⟨l, u, h, h1, h2⟩ := sR_s h hE (⟨hw, rfl⟩ : n_V n ρ w (svl ρ w))
    obtain ⟨l', u', h, h3, h4⟩ := sR_s h hE (⟨hw', rfl⟩ : n_V n ρ w' (svl ρ w'))
    rw [ltI_eq, not_d, decide_eq_true_eq] at h
    omega
noncomputable def ubs (n : Nat) (E : EV) (ws0 : List SV) (es : List SE) : List SV → Bool := List.rec (fun _ => true) (fun e _ ih ws => match ws with
  | [] => false
  | w :: t => (match e.2.2.2 with
    | none => true
    | some q => match nth ws0 q.1 with
      | some w' => leU n E w w' q.2
      | none => false) && ih t) es
theorem ubs_s {n : Nat} {E : EV} {ws0 : List SV} {es : List SE} : ∀ {ws : List SV}, ubs n E ws0 es ws = true → ∀ (j : Nat) (e : SE) (w : SV) (q : Nat × Int), es[j]? = some e → ws[j]? = some w → e.2.2.2 = some q → ∃ w', ws0[q.1]? = some w' ∧ leU n E w w' q.2 = true := by
  induction es with
  | nil => intro ws h j e w q he; rw [List.getElem?_nil] at he; cases he
  | cons e es ih =>
    intro ws h j e' w q he hw hq
    cases ws with
    | nil => rw [List.getElem?_nil] at hw; cases hw
    | cons w0 t =>
      have h : ((match e.2.2.2 with
        | none => true
        | some q => match nth ws0 q.1 with
          | some w' => leU n E w0 w' q.2
          | none => false) && ubs n E ws0 es t) = true := h
      rw [Bool.and_eq_true] at h
      cases j with
      | zero =>
        rw [List.getElem?_cons_zero] at he hw
        cases he
        cases hw
        have h1 := h.1
        rw [hq] at h1
        dsimp only at h1
        split at h1
        · rename_i w' hw'
          rw [nth_eq] at hw'
          exact ⟨w', hw', h1⟩
        · cases h1
      | succ j =>
        rw [List.getElem?_cons_succ] at he hw
        exact ih h.2 j e' w q he hw hq
theorem n_E_of {es : List SE} {ρ : Nat → Int} (h : ∀ (i : Nat) (e : SE), es[i]? = some e → eOK ρ (ρ i) e ∧ ∀ q, e.2.2.2 = some q → q.1 < es.length) : n_E es.length es.reverse ρ := by
  intro j e he
  have hj : j < es.length := by
    rcases Nat.lt_or_ge j es.length with z | z
    · exact z
    · rw [List.getElem?_eq_none (by rw [List.length_reverse]; exact z)] at he; cases he
  rw [List.getElem?_reverse hj] at he
  exact ⟨hj, h _ e he⟩
theorem n_E_B {n : Nat} {E : EV} {ρ : Nat → Int} {es : List SE} {ws : List SV} (hB : n_B n ρ es ws) (hU : ubs n E ws es ws = true) (hE : n_E n E ρ) : n_E es.length es.reverse (fun j => nmb (svl ρ (ws.getD j (yI 0)))) := by
  refine n_E_of fun i e he => ?_
  obtain ⟨w, h1, h2, h3, h4, h5⟩ := hB.2 i e he
  have hg : ∀ (j : Nat) (w : SV), ws[j]? = some w → ws.getD j (yI 0) = w := fun j w hj => by rw [List.getD_eq_getElem?_getD, hj]; rfl
  refine ⟨⟨?_, ?_, ?_, fun q hq => ?_⟩, fun q hq => ?_⟩
  · show e.1 ≤ nmb (svl ρ (ws.getD i (yI 0))); rw [hg i w h1]; exact h3
  · show nmb (svl ρ (ws.getD i (yI 0))) ≤ e.2.1; rw [hg i w h1]; exact h4
  · rw [h5]; exact Int.one_dvd _
  · obtain ⟨w', g1, g2⟩ := ubs_s hU i e w q he h1 hq
    show nmb (svl ρ (ws.getD i (yI 0))) ≤ nmb (svl ρ (ws.getD q.1 (yI 0))) + q.2
    rw [hg i w h1, hg q.1 w' g1]
    have hq1 : q.1 < es.length := by
      rw [hB.1]
      rcases Nat.lt_or_ge q.1 ws.length with z | z
      · exact z
      · rw [List.getElem?_eq_none z] at g1; cases g1
    obtain ⟨w2, f1, f2, -⟩ := hB.2 q.1 _ (List.getElem?_eq_getElem hq1)
    rw [g1] at f1
    cases f1
    exact leU_s g2 hE h2 f2
  · obtain ⟨w', g1, g2⟩ := ubs_s hU i e w q he h1 hq
    rw [hB.1]
    rcases Nat.lt_or_ge q.1 ws.length with z | z
    · exact z
    · rw [List.getElem?_eq_none z] at g1; cases g1
