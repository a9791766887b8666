/-! the pile's machine over tokens; kinds of tokens as the class numbers them -/
def rankO (o : Int) : Int := if 40 ≤ o then 0 else if o = 22 then 1 else if o = 21 then 2 else if o = 20 then 3 else if 10 ≤ o then 4 else if o = 4 ∨ o = 5 then 7 else if 8 ≤ o then 6 else 5
abbrev oCd : Type := List (Int × Int)
abbrev oSt : Type := List Int × Bool × Nat × Nat × oCd
abbrev oRs : Type := Int × Nat × oCd
def stJ (least : Int) : List Int → Nat → oCd → List Int × Nat × oCd
  | [], o, c => ([], o, c)
  | x :: P, o, c => if least ≤ rankO x then stJ least P (if rankO x = 7 ∨ x = 20 then o - 1 else o) (c ++ [(x, 0)]) else (x :: P, o, c)
def opJ : List Int → Int
  | [] => -1
  | x :: P => if 40 ≤ x then x else opJ P
def cmJ : List Int → Bool
  | [] => false
  | x :: P => if 4 < rankO x then cmJ P else decide (rankO x = 4)
def askA : List Int → Bool
  | [] => false
  | x :: P => decide (opJ (x :: P) = 41) && (decide (x = 41) || decide (1 ≤ rankO x ∧ rankO x ≤ 3))
def isNm (l n : Int) : Bool := if n < 5 then decide (l ≤ 2) else if n < 7 then decide (l ≠ 3) else decide (3 ≤ l)
def oneS (P : List Int) (o : Nat) (c : oCd) (q : Int × Int) (j : Nat) : oSt ⊕ oRs := .inl ((stJ 7 P o (c ++ [q])).1, true, j, (stJ 7 P o (c ++ [q])).2.1, (stJ 7 P o (c ++ [q])).2.2)
def opnS (P : List Int) (o : Nat) (c : oCd) (x : Int) (j : Nat) : oSt ⊕ oRs := if o = 8 then .inr (3, j, c) else .inl (x :: P, false, j + 1, o + 1, c)
def begS (l : Int) (tk : Nat → Int × Int) (P : List Int) (j o : Nat) (c : oCd) : oSt ⊕ oRs :=
  if (tk j).1 = 60 then (if 9999 < (tk j).2 then .inr (2, j, c) else oneS P o c (0, (tk j).2) (j + 1))
  else if 11 ≤ (tk j).1 ∧ (tk j).1 ≤ 18 then (if isNm l ((tk j).1 - 11) = true then oneS P o c (1, (tk j).1 - 11) (j + 1) else .inr (5, j, c))
  else if (tk j).1 = 33 then (if (tk (j + 1)).1 ≠ 60 then .inr (1, j + 1, c) else if ¬ (1 ≤ (tk (j + 1)).2 ∧ (tk (j + 1)).2 ≤ 9) then .inr (2, j + 1, c)
    else if ¬ (11 ≤ (tk (j + 2)).1 ∧ (tk (j + 2)).1 ≤ 18) then .inr (1, j + 2, c) else if (tk (j + 2)).1 ≤ 15 ∧ isNm l ((tk (j + 2)).1 - 11) = true then oneS P o c (2, 10 * (tk (j + 1)).2 + ((tk (j + 2)).1 - 11)) (j + 3) else .inr (5, j + 2, c))
  else if (tk j).1 = 50 then opnS P o c 40 j
  else if (tk j).1 = 47 then opnS P o c 4 j
  else if (tk j).1 = 32 then opnS P o c 5 j
  else if (tk j).1 = 25 then opnS P o c 41 j
  else if (tk j).1 = 31 ∧ askA P = true then opnS P o c 20 j
  else .inr (1, j, c)
def btw (K : Int) (P : List Int) : Int := if 46 ≤ K ∧ K ≤ 49 then K - 40 else if opJ P = 41 then (if cmJ P = true then (if K = 30 then 21 else if K = 29 then 22 else -1) else if 40 ≤ K ∧ K ≤ 45 then K - 30 else -1) else -1
def prtO (K : Int) (P : List Int) : Int := if opJ P = 40 then (if K = 51 then 0 else -1) else if opJ P = 41 then (if K = 26 ∧ cmJ P = true then 42 else -1) else if opJ P = 42 then (if K = 27 then 43 else -1) else if opJ P = 43 then (if K = 28 then 0 else -1) else -1
def prt2 (x part : Int) (q : List Int × Nat × oCd) (j : Nat) : oSt ⊕ oRs :=
  if 0 < part then .inl (part :: q.1.tail, false, j + 1, q.2.1, q.2.2)
  else .inl ((stJ 7 q.1.tail (q.2.1 - 1) (if x = 43 then q.2.2 ++ [(3, 0)] else q.2.2)).1, true, j + 1, (stJ 7 q.1.tail (q.2.1 - 1) (if x = 43 then q.2.2 ++ [(3, 0)] else q.2.2)).2.1, (stJ 7 q.1.tail (q.2.1 - 1) (if x = 43 then q.2.2 ++ [(3, 0)] else q.2.2)).2.2)
def behS (tk : Nat → Int × Int) (P : List Int) (j o : Nat) (c : oCd) : oSt ⊕ oRs :=
  if 0 ≤ btw (tk j).1 P then .inl (btw (tk j).1 P :: (stJ (rankO (btw (tk j).1 P)) P o c).1, false, j + 1, (stJ (rankO (btw (tk j).1 P)) P o c).2.1, (stJ (rankO (btw (tk j).1 P)) P o c).2.2)
  else if 0 ≤ prtO (tk j).1 P then prt2 (opJ P) (prtO (tk j).1 P) (stJ 1 P o c) j
  else if 0 ≤ opJ P then .inr (1, j, c)
  else .inr (0, j, (stJ 1 P o c).2.2)
def opSt (l : Int) (tk : Nat → Int × Int) (S : oSt) : oSt ⊕ oRs := if S.2.1 = true then behS tk S.1 S.2.2.1 S.2.2.2.1 S.2.2.2.2 else begS l tk S.1 S.2.2.1 S.2.2.2.1 S.2.2.2.2
def opRun (l : Int) (tk : Nat → Int × Int) : Nat → oSt → oSt ⊕ oRs
  | 0, S => .inl S
  | n + 1, S => match opSt l tk S with
    | .inl S' => opRun l tk n S'
    | .inr r => .inr r
def oRe (l : Int) (tk : Nat → Int × Int) (S S' : oSt) : Prop := ∃ n, opRun l tk n S = .inl S'
def oHa (l : Int) (tk : Nat → Int × Int) (S : oSt) (f : Int) (j : Nat) : Prop := ∃ n c, opRun l tk n S = .inr (f, j, c)
theorem opRun_add {l : Int} {tk : Nat → Int × Int} : ∀ (n m : Nat) (S S' : oSt), opRun l tk n S = .inl S' → opRun l tk (n + m) S = opRun l tk m S' := by
  intro n
  induction n with
  | zero => intro m S S' h; have h : S = S' := Sum.inl.inj h; rw [h, Nat.zero_add]
  | succ n ih =>
    intro m S S' h
    rw [Nat.succ_add]
    show (match opSt l tk S with | .inl S' => opRun l tk (n + m) S' | .inr r => .inr r) = _
    have h : (match opSt l tk S with | .inl S' => opRun l tk n S' | .inr r => .inr r) = .inl S' := h
    cases e : opSt l tk S with
    | inl S1 => rw [e] at h; exact ih m S1 S' h
    | inr r => rw [e] at h; cases h
theorem oRe_r {l : Int} {tk : Nat → Int × Int} (S : oSt) : oRe l tk S S := ⟨0, rfl⟩
theorem oRe_t {l : Int} {tk : Nat → Int × Int} {S1 S2 S3 : oSt} (h1 : oRe l tk S1 S2) (h2 : oRe l tk S2 S3) : oRe l tk S1 S3 := by
  obtain ⟨n, h1⟩ := h1; obtain ⟨m, h2⟩ := h2
  exact ⟨n + m, by rw [opRun_add n m _ _ h1, h2]⟩
theorem oHa_t {l : Int} {tk : Nat → Int × Int} {S1 S2 : oSt} {f : Int} {j : Nat} (h1 : oRe l tk S1 S2) (h2 : oHa l tk S2 f j) : oHa l tk S1 f j := by
  obtain ⟨n, h1⟩ := h1; obtain ⟨m, c, h2⟩ := h2
  exact ⟨n + m, c, by rw [opRun_add n m _ _ h1, h2]⟩
theorem oRe_1 {l : Int} {tk : Nat → Int × Int} {S S' : oSt} (h : opSt l tk S = .inl S') : oRe l tk S S' := ⟨1, by show (match opSt l tk S with | .inl S' => opRun l tk 0 S' | .inr r => .inr r) = _; rw [h]; rfl⟩
theorem oHa_1 {l : Int} {tk : Nat → Int × Int} {S : oSt} {f : Int} {j : Nat} {c : oCd} (h : opSt l tk S = .inr (f, j, c)) : oHa l tk S f j := ⟨1, c, by show (match opSt l tk S with | .inl S' => opRun l tk 0 S' | .inr r => .inr r) = _; rw [h]⟩
/-! what settles -/
def emO (P : List Int) : oCd := P.map fun x => (x, 0)
def cnO (P : List Int) : Nat := (P.filter fun x => decide (rankO x = 7 ∨ x = 20)).length
theorem emO_a (P Q : List Int) : emO (P ++ Q) = emO P ++ emO Q := List.map_append
theorem cnO_a (P Q : List Int) : cnO (P ++ Q) = cnO P + cnO Q := by unfold cnO; rw [List.filter_append, List.length_append]
theorem cnO_c (x : Int) (P : List Int) : cnO (x :: P) = (if rankO x = 7 ∨ x = 20 then 1 else 0) + cnO P := by
  unfold cnO
  by_cases z : rankO x = 7 ∨ x = 20
  · rw [List.filter_cons, if_pos (decide_eq_true z), if_pos z, List.length_cons]; omega
  · rw [List.filter_cons, if_neg (by rw [decide_eq_true_eq]; exact z), if_neg z]; omega
theorem stJ_a {least : Int} : ∀ (P R : List Int) (o : Nat) (c : oCd), (∀ x, x ∈ P → least ≤ rankO x) → stJ least (P ++ R) o c = stJ least R (o - cnO P) (c ++ emO P) := by
  intro P
  induction P with
  | nil => intro R o c _; show stJ least R o c = stJ least R (o - 0) (c ++ []); rw [Nat.sub_zero, List.append_nil]
  | cons x P ih =>
    intro R o c h
    show (if least ≤ rankO x then stJ least (P ++ R) (if rankO x = 7 ∨ x = 20 then o - 1 else o) (c ++ [(x, 0)]) else (x :: (P ++ R), o, c)) = _
    rw [if_pos (h x (List.mem_cons_self ..)), ih R _ _ (fun y hy => h y (List.mem_cons_of_mem _ hy))]
    have e : (if rankO x = 7 ∨ x = 20 then o - 1 else o) - cnO P = o - cnO (x :: P) := by
      rw [cnO_c]
      by_cases z : rankO x = 7 ∨ x = 20
      · rw [if_pos z, if_pos z]; omega
      · rw [if_neg z, if_neg z]; omega
    rw [e, List.append_assoc]
    rfl
def topL (least : Int) (R : List Int) : Prop := ∀ x R', R = x :: R' → rankO x < least
theorem stJ_0 {least : Int} {R : List Int} (h : topL least R) (o : Nat) (c : oCd) : stJ least R o c = (R, o, c) := by
  cases R with
  | nil => rfl
  | cons x R => exact if_neg (by have := h x R rfl; omega)
theorem stJ_p {least : Int} {P R : List Int} (h : ∀ x, x ∈ P → least ≤ rankO x) (h2 : topL least R) (o : Nat) (c : oCd) : stJ least (P ++ R) o c = (R, o - cnO P, c ++ emO P) := by rw [stJ_a P R o c h, stJ_0 h2]
theorem topL_m {a b : Int} {R : List Int} (h : topL a R) (hab : a ≤ b) : topL b R := fun x R' e => by have := h x R' e; omega
theorem topL_c {a x : Int} {R : List Int} (h : rankO x < a) : topL a (x :: R) := fun y R' e => by cases e; exact h
theorem topL_n {a : Int} : topL a [] := fun y R' e => by cases e
theorem rank_r (x : Int) : 0 ≤ rankO x ∧ rankO x ≤ 7 := by unfold rankO; (repeat' split) <;> omega
theorem opJ_a : ∀ (P R : List Int), (∀ x, x ∈ P → 1 ≤ rankO x) → opJ (P ++ R) = opJ R := by
  intro P
  induction P with
  | nil => intro R _; rfl
  | cons x P ih =>
    intro R h
    have h1 := h x (List.mem_cons_self ..)
    have : ¬ 40 ≤ x := fun z => by unfold rankO at h1; rw [if_pos z] at h1; omega
    show (if 40 ≤ x then x else opJ (P ++ R)) = _
    rw [if_neg this]
    exact ih R (fun y hy => h y (List.mem_cons_of_mem _ hy))
theorem cmJ_a : ∀ (P R : List Int), (∀ x, x ∈ P → 5 ≤ rankO x) → cmJ (P ++ R) = cmJ R := by
  intro P
  induction P with
  | nil => intro R _; rfl
  | cons x P ih =>
    intro R h
    have h1 := h x (List.mem_cons_self ..)
    show (if 4 < rankO x then cmJ (P ++ R) else _) = _
    rw [if_pos (by omega)]
    exact ih R (fun y hy => h y (List.mem_cons_of_mem _ hy))
theorem cnO_0 {P : List Int} (h : ∀ x, x ∈ P → rankO x = 5 ∨ rankO x = 6 ∨ rankO x = 4 ∨ rankO x = 2 ∨ rankO x = 1) : cnO P = 0 := by
  unfold cnO
  have : P.filter (fun x => decide (rankO x = 7 ∨ x = 20)) = [] := by
    rw [List.filter_eq_nil_iff]
    intro x hx
    have h1 := h x hx
    have h2 : x ≠ 20 := fun z => by subst z; have e : rankO 20 = 3 := by decide
                                    omega
    rw [decide_eq_true_eq]
    omega
  rw [this]; rfl
