/-! the pile of a law that is read: ranks, modes (0: a number, 1: asked, 2: a number of what is asked, 3: compared), what it holds back -/
def rk (o : Int) : Int := if 40 ≤ o then 0 else if o = 22 then 1 else if o = 21 then 2 else if o = 20 then 3 else if 10 ≤ o then 4 else if o = 4 ∨ o = 5 then 7 else if 8 ≤ o then 6 else 5
theorem rk_b (o : Int) : 0 ≤ rk o ∧ rk o ≤ 7 := by unfold rk; (repeat' split) <;> decide
theorem rk_ar {o : Int} (h1 : 4 ≤ o) (h2 : o ≤ 9) : 5 ≤ rk o := by unfold rk; (repeat' split) <;> omega
theorem rk_cm {o : Int} (h1 : 10 ≤ o) (h2 : o ≤ 15) : rk o = 4 := by unfold rk; (repeat' split) <;> omega
theorem rk_op {o : Int} (h1 : 40 ≤ o) : rk o = 0 := by unfold rk; rw [if_pos h1]
theorem rk_7 {o : Int} (h1 : 0 ≤ o) : rk o = 7 ↔ (o = 4 ∨ o = 5) := by unfold rk; (repeat' split) <;> omega
theorem rk_lt {o : Int} (h1 : 1 ≤ rk o) : o < 40 := by
  by_cases z : 40 ≤ o
  · rw [rk_op z] at h1; omega
  · omega
def mdo (o : Int) (m : Nat) : Option Nat :=
  if o = 41 then some 1 else if 40 ≤ o then (if o ≤ 43 then some 0 else none)
  else if 20 ≤ o then (if o ≤ 22 ∧ m = 1 then some 1 else none)
  else if 10 ≤ o then (if o ≤ 15 ∧ m = 1 then some 3 else none)
  else if 4 ≤ o then some (if m = 1 then 2 else m)
  else none
theorem mdo_c {o : Int} {m' m : Nat} (h : mdo o m' = some m) : (o = 41 ∧ m = 1) ∨ ((o = 40 ∨ o = 42 ∨ o = 43) ∧ m = 0) ∨ ((o = 20 ∨ o = 21 ∨ o = 22) ∧ m' = 1 ∧ m = 1) ∨ (10 ≤ o ∧ o ≤ 15 ∧ m' = 1 ∧ m = 3) ∨ (4 ≤ o ∧ o ≤ 9 ∧ m' = 1 ∧ m = 2) ∨ (4 ≤ o ∧ o ≤ 9 ∧ m' ≠ 1 ∧ m = m') := by
  unfold mdo at h
  by_cases c1 : o = 41
  · rw [if_pos c1] at h; injection h with h; omega
  rw [if_neg c1] at h
  by_cases c2 : 40 ≤ o
  · rw [if_pos c2] at h
    by_cases c3 : o ≤ 43
    · rw [if_pos c3] at h; injection h with h; omega
    · rw [if_neg c3] at h; cases h
  rw [if_neg c2] at h
  by_cases c3 : 20 ≤ o
  · rw [if_pos c3] at h
    by_cases c4 : o ≤ 22 ∧ m' = 1
    · rw [if_pos c4] at h; injection h with h; omega
    · rw [if_neg c4] at h; cases h
  rw [if_neg c3] at h
  by_cases c4 : 10 ≤ o
  · rw [if_pos c4] at h
    by_cases c5 : o ≤ 15 ∧ m' = 1
    · rw [if_pos c5] at h; injection h with h; omega
    · rw [if_neg c5] at h; cases h
  rw [if_neg c4] at h
  by_cases c5 : 4 ≤ o
  · rw [if_pos c5] at h
    injection h with h
    by_cases c6 : m' = 1
    · rw [if_pos c6] at h; omega
    · rw [if_neg c6] at h; omega
  · rw [if_neg c5] at h; cases h
def mdl : List Int → Option Nat
  | [] => some 0
  | o :: L => (mdl L).bind (mdo o)
theorem mdl_c {o : Int} {L : List Int} {m : Nat} (h : mdl (o :: L) = some m) : ∃ m', mdl L = some m' ∧ mdo o m' = some m := by
  have h : (mdl L).bind (mdo o) = some m := h
  cases hq : mdl L with
  | none => rw [hq] at h; cases h
  | some m' => rw [hq] at h; exact ⟨m', rfl, h⟩
theorem mdl_p {o : Int} {L : List Int} {m m' : Nat} (h1 : mdl L = some m') (h2 : mdo o m' = some m) : mdl (o :: L) = some m := by
  show (mdl L).bind (mdo o) = some m
  rw [h1]; exact h2
def hvo (o : Int) : Nat := if o = 43 ∨ (6 ≤ o ∧ o ≤ 15) then 1 else 0
def hto (o : Int) : Nat := if o = 42 ∨ o = 43 ∨ o = 21 ∨ o = 22 then 1 else 0
def opo (o : Int) : Nat := if 40 ≤ o ∨ o = 4 ∨ o = 5 ∨ o = 20 then 1 else 0
def hvl : List Int → Nat
  | [] => 0
  | o :: L => hvo o + hvl L
def htl : List Int → Nat
  | [] => 0
  | o :: L => hto o + htl L
def opl : List Int → Nat
  | [] => 0
  | o :: L => opo o + opl L
def rkt : List Int → Int
  | [] => 0
  | o :: _ => rk o
def chn : List Int → Prop
  | [] => True
  | o :: L => chn L ∧ (opo o = 1 ∨ rkt L < rk o)
theorem rkt_b (L : List Int) : 0 ≤ rkt L ∧ rkt L ≤ 7 := by
  cases L with
  | nil => exact ⟨Int.le_refl _, by decide⟩
  | cons o L => exact rk_b o
theorem len_b : ∀ L : List Int, chn L → (L.length : Int) ≤ 8 * (opl L : Int) + rkt L := by
  intro L
  induction L with
  | nil => intro _; decide
  | cons o L ih =>
    intro h
    have h1 := ih h.1
    have h2 := rkt_b L
    have h3 := rk_b o
    have e1 : (o :: L).length = L.length + 1 := rfl
    have e2 : opl (o :: L) = opo o + opl L := rfl
    have e3 : rkt (o :: L) = rk o := rfl
    rw [e1, e2, e3]
    rcases h.2 with h4 | h4
    · rw [h4]; omega
    · omega
def opN : List Int → Int
  | [] => -1
  | o :: L => if 40 ≤ o then o else opN L
def oAt : List Int → Int
  | [] => -1
  | o :: L => if 40 ≤ o then (L.length : Int) else oAt L
def cmpd : List Int → Bool
  | [] => false
  | o :: L => if 4 < rk o then cmpd L else decide (rk o = 4)
theorem opN_m : ∀ (L : List Int) (m : Nat), mdl L = some m → (opN L = 41 ↔ m ≠ 0) := by
  intro L
  induction L with
  | nil => intro m h; injection h with h; subst h; decide
  | cons o L ih =>
    intro m h
    obtain ⟨m', h1, h2⟩ := mdl_c h
    have h3 := ih m' h1
    have e : opN (o :: L) = if 40 ≤ o then o else opN L := rfl
    rw [e]
    have h4 := mdo_c h2
    by_cases z : 40 ≤ o
    · rw [if_pos z]; omega
    · rw [if_neg z, h3]; omega
theorem cmpd_m : ∀ (L : List Int) (m : Nat), mdl L = some m → (cmpd L = true ↔ m = 3) := by
  intro L
  induction L with
  | nil => intro m h; injection h with h; subst h; decide
  | cons o L ih =>
    intro m h
    obtain ⟨m', h1, h2⟩ := mdl_c h
    have h3 := ih m' h1
    have e : cmpd (o :: L) = if 4 < rk o then cmpd L else decide (rk o = 4) := rfl
    rw [e]
    rcases mdo_c h2 with ⟨a, b⟩ | ⟨a, b⟩ | ⟨a, b, c⟩ | ⟨a, b, c, f⟩ | ⟨a, b, c, f⟩ | ⟨a, b, c, f⟩
    · have r := rk_op (o := o) (by omega)
      rw [r, if_neg (by decide), decide_eq_true_eq]; omega
    · have r := rk_op (o := o) (by omega)
      rw [r, if_neg (by decide), decide_eq_true_eq]; omega
    · rcases a with rfl | rfl | rfl
      · rw [show rk 20 = 3 from rfl, if_neg (by decide), decide_eq_true_eq]; omega
      · rw [show rk 21 = 2 from rfl, if_neg (by decide), decide_eq_true_eq]; omega
      · rw [show rk 22 = 1 from rfl, if_neg (by decide), decide_eq_true_eq]; omega
    · rw [rk_cm a b, if_neg (by decide), decide_eq_true_eq]; omega
    · have r := rk_ar a b
      rw [if_pos (by omega), h3]; omega
    · have r := rk_ar a b
      rw [if_pos (by omega), h3]; omega
theorem ask_m {o : Int} {L : List Int} {m : Nat} (h : mdl (o :: L) = some m) (h1 : opN (o :: L) = 41) : (o = 41 ∨ (1 ≤ rk o ∧ rk o ≤ 3)) ↔ m = 1 := by
  obtain ⟨m', h2, h3⟩ := mdl_c h
  have h4 := (opN_m _ _ h).1 h1
  rcases mdo_c h3 with ⟨a, b⟩ | ⟨a, b⟩ | ⟨a, b, c⟩ | ⟨a, b, c, f⟩ | ⟨a, b, c, f⟩ | ⟨a, b, c, f⟩
  · exact ⟨fun _ => b, fun _ => Or.inl a⟩
  · omega
  · refine ⟨fun _ => c, fun _ => Or.inr ?_⟩
    rcases a with rfl | rfl | rfl <;> decide
  · have r := rk_cm a b
    omega
  · have r := rk_ar a b
    omega
  · have r := rk_ar a b
    have r2 : m' ≠ 1 := c
    omega
/-- what lies there behind a number (false) or a truth (true) -/
def qkd (L : List Int) (tr : Bool) : Nat × Nat := if tr = true then (hvl L, htl L + 1) else (hvl L + 1, htl L)
/-- how far settling may go -/
def SPc (least : Int) (m0 m : Nat) (tr : Bool) : Prop := (5 ≤ least ∧ tr = false) ∨ (least = 4 ∧ tr = false ∧ (m = 1 ∨ m = 2)) ∨ (least ≤ 3 ∧ m0 = 0 ∧ tr = false ∧ m = 0) ∨ (least ≤ 3 ∧ m0 = 3 ∧ ((tr = false ∧ m = 3) ∨ (tr = true ∧ m = 1)))
theorem dst_ar {o : Int} {V T : Nat} (h1 : 6 ≤ o) (h2 : o ≤ 9) : dst o (V + 2, T) = some (V + 1, T) := by
  unfold dst
  rw [if_neg (by omega), if_neg (by omega), if_neg (by omega), if_neg (by omega), if_pos (by omega), if_pos (show 2 ≤ V + 2 by omega)]
  rfl
theorem dst_un {o : Int} {V T : Nat} (h1 : o = 4 ∨ o = 5) : dst o (V + 1, T) = some (V + 1, T) := by
  unfold dst
  rw [if_neg (by omega), if_neg (by omega), if_neg (by omega), if_pos (by omega), if_pos (show 1 ≤ V + 1 by omega)]
theorem dst_cm {o : Int} {V T : Nat} (h1 : 10 ≤ o) (h2 : o ≤ 15) : dst o (V + 2, T) = some (V, T + 1) := by
  unfold dst
  rw [if_neg (by omega), if_neg (by omega), if_neg (by omega), if_neg (by omega), if_neg (by omega), if_pos (by omega), if_pos (show 2 ≤ V + 2 by omega)]
  rfl
theorem dst_no {V T : Nat} : dst 20 (V, T + 1) = some (V, T + 1) := by
  unfold dst
  rw [if_neg (by omega), if_neg (by omega), if_neg (by omega), if_neg (by omega), if_neg (by omega), if_neg (by omega), if_pos rfl, if_pos (show 1 ≤ T + 1 by omega)]
theorem dst_lg {o : Int} {V T : Nat} (h1 : o = 21 ∨ o = 22) : dst o (V, T + 2) = some (V, T + 1) := by
  unfold dst
  rw [if_neg (by omega), if_neg (by omega), if_neg (by omega), if_neg (by omega), if_neg (by omega), if_neg (by omega), if_neg (by omega), if_pos (show 2 ≤ T + 2 by omega)]
  rfl
theorem dst_se {V T : Nat} : dst 3 (V + 2, T + 1) = some (V + 1, T) := by
  unfold dst
  rw [if_neg (by omega), if_neg (by omega), if_pos rfl, if_pos (show 2 ≤ V + 2 ∧ 1 ≤ T + 1 by omega)]
  rfl
theorem dst_pu {o : Int} {V T : Nat} (h1 : 0 ≤ o) (h2 : o ≤ 2) : dst o (V, T) = some (V + 1, T) := by
  unfold dst
  rw [if_neg (by omega), if_pos h2]
theorem hvo_1 {o : Int} (h : 6 ≤ o ∧ o ≤ 15) : hvo o = 1 := if_pos (Or.inr h)
theorem hvo_0 {o : Int} (h : o ≠ 43) (h2 : o < 6 ∨ 15 < o) : hvo o = 0 := if_neg (by omega)
theorem hto_1 {o : Int} (h : o = 42 ∨ o = 43 ∨ o = 21 ∨ o = 22) : hto o = 1 := if_pos h
theorem hto_0 {o : Int} (h : ¬ (o = 42 ∨ o = 43 ∨ o = 21 ∨ o = 22)) : hto o = 0 := if_neg h
theorem pop_s {o least : Int} {L : List Int} {m0 m : Nat} {tr : Bool} (h : mdl (o :: L) = some m) (hs : SPc least m0 m tr) (h1 : 1 ≤ least) (h2 : least ≤ rk o) : ∃ m' tr', mdl L = some m' ∧ SPc least m0 m' tr' ∧ dst o (qkd (o :: L) tr) = some (qkd L tr') := by
  obtain ⟨m', h3, h4⟩ := mdl_c h
  have ev : hvl (o :: L) = hvo o + hvl L := rfl
  have et : htl (o :: L) = hto o + htl L := rfl
  have ar : 4 ≤ o → o ≤ 9 → dst o (qkd (o :: L) false) = some (qkd L false) := by
    intro a b
    show dst o (hvl (o :: L) + 1, htl (o :: L)) = some (hvl L + 1, htl L)
    rw [ev, et, hto_0 (by omega), Nat.zero_add]
    by_cases z : 6 ≤ o
    · rw [hvo_1 (by omega), show 1 + hvl L + 1 = hvl L + 2 by omega]; exact dst_ar z b
    · rw [hvo_0 (by omega) (by omega), Nat.zero_add]; exact dst_un (by omega)
  unfold SPc at hs ⊢
  rcases mdo_c h4 with ⟨a, b⟩ | ⟨a, b⟩ | ⟨a, b, c⟩ | ⟨a, b, c, f⟩ | ⟨a, b, c, f⟩ | ⟨a, b, c, f⟩
  · have r := rk_op (o := o) (by omega); omega
  · have r := rk_op (o := o) (by omega); omega
  · have r : rk o ≤ 3 := by rcases a with rfl | rfl | rfl <;> decide
    have s : least ≤ 3 ∧ m0 = 3 ∧ tr = true := by
      rcases hs with ⟨s1, -⟩ | ⟨s1, -⟩ | ⟨s1, s2, s3, s4⟩ | ⟨s1, s2, ⟨s3, s4⟩ | ⟨s3, s4⟩⟩
      · omega
      · omega
      · omega
      · omega
      · exact ⟨s1, s2, s3⟩
    obtain ⟨s1, s2, rfl⟩ := s
    refine ⟨1, true, by rw [h3, b], Or.inr (Or.inr (Or.inr ⟨s1, s2, Or.inr ⟨rfl, rfl⟩⟩)), ?_⟩
    show dst o (hvl (o :: L), htl (o :: L) + 1) = some (hvl L, htl L + 1)
    rw [ev, et, hvo_0 (by omega) (by omega), Nat.zero_add]
    rcases a with rfl | a
    · rw [hto_0 (by omega), Nat.zero_add]; exact dst_no
    · rw [hto_1 (by omega), show 1 + htl L + 1 = htl L + 2 by omega]; exact dst_lg a
  · have r := rk_cm a b
    have s : least ≤ 3 ∧ m0 = 3 ∧ tr = false := by
      rcases hs with ⟨s1, -⟩ | ⟨s1, s2, s3⟩ | ⟨s1, s2, s3, s4⟩ | ⟨s1, s2, ⟨s3, s4⟩ | ⟨s3, s4⟩⟩
      · omega
      · omega
      · omega
      · exact ⟨s1, s2, s3⟩
      · omega
    obtain ⟨s1, s2, rfl⟩ := s
    refine ⟨1, true, by rw [h3, c], Or.inr (Or.inr (Or.inr ⟨s1, s2, Or.inr ⟨rfl, rfl⟩⟩)), ?_⟩
    show dst o (hvl (o :: L) + 1, htl (o :: L)) = some (hvl L, htl L + 1)
    rw [ev, et, hvo_1 (by omega), hto_0 (by omega), Nat.zero_add, show 1 + hvl L + 1 = hvl L + 2 by omega]
    exact dst_cm a b
  · have s : tr = false ∧ (5 ≤ least ∨ least = 4) := by
      rcases hs with ⟨s1, s2⟩ | ⟨s1, s2, s3⟩ | ⟨s1, s2, s3, s4⟩ | ⟨s1, s2, ⟨s3, s4⟩ | ⟨s3, s4⟩⟩
      · exact ⟨s2, Or.inl s1⟩
      · exact ⟨s2, Or.inr s1⟩
      · omega
      · omega
      · omega
    obtain ⟨rfl, s⟩ := s
    refine ⟨1, false, by rw [h3, c], ?_, ar a b⟩
    rcases s with s | s
    · exact Or.inl ⟨s, rfl⟩
    · exact Or.inr (Or.inl ⟨s, rfl, Or.inl rfl⟩)
  · subst f
    refine ⟨m, false, h3, ?_, ?_⟩
    · rcases hs with ⟨s1, s2⟩ | ⟨s1, s2, s3⟩ | ⟨s1, s2, s3, s4⟩ | ⟨s1, s2, ⟨s3, s4⟩ | ⟨s3, s4⟩⟩
      · exact Or.inl ⟨s1, rfl⟩
      · exact Or.inr (Or.inl ⟨s1, rfl, s3⟩)
      · exact Or.inr (Or.inr (Or.inl ⟨s1, s2, rfl, s4⟩))
      · exact Or.inr (Or.inr (Or.inr ⟨s1, s2, Or.inl ⟨rfl, s4⟩⟩))
      · omega
    · have e : tr = false := by
        rcases hs with ⟨s1, s2⟩ | ⟨s1, s2, s3⟩ | ⟨s1, s2, s3, s4⟩ | ⟨s1, s2, ⟨s3, s4⟩ | ⟨s3, s4⟩⟩
        · exact s2
        · exact s2
        · exact s3
        · exact s3
        · omega
      rw [e]; exact ar a b
