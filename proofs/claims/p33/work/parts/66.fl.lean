/-! what isn't touched: how many BARS there are -/
def exE (md : List (Nat × Nat × Nat)) (k i : Nat) : Bool := md.all fun q => !(Nat.beq q.1 k && (Nat.ble q.2.1 i && Nat.ble i q.2.2))
theorem exE_s {md : List (Nat × Nat × Nat)} {k i : Nat} (h : exE md k i = true) : ¬ inMd md k i := by
  rintro ⟨q, q1, q2, q3, q4⟩
  unfold exE at h
  rw [List.all_eq_true] at h
  have := h q q1
  rw [show Nat.beq q.1 k = true from Nat.beq_eq.mpr q2, show Nat.ble q.2.1 i = true from Nat.ble_eq_true_of_le q3, show Nat.ble i q.2.2 = true from Nat.ble_eq_true_of_le q4] at this
  exact absurd this (by decide)
def FL (h h' : AH) : Prop := hV h' 77 18 = hV h 77 18 ∧ hV h' 78 18 = hV h 78 18 ∧ hV h' 1 12 = hV h 1 12 ∧ hV h' 11 12 = hV h 11 12
theorem FL_r (h : AH) : FL h h := ⟨rfl, rfl, rfl, rfl⟩
theorem FL_t {h h1 h2 : AH} (a : FL h h1) (b : FL h1 h2) : FL h h2 := ⟨b.1.trans a.1, b.2.1.trans a.2.1, b.2.2.1.trans a.2.2.1, b.2.2.2.trans a.2.2.2⟩
def exB (md : List (Nat × Nat × Nat)) : Bool := (exE md 77 18 && exE md 78 18) && (exE md 1 12 && exE md 11 12)
theorem FL_of {W : AH → Prop} {md : List (Nat × Nat × Nat)} {h h' : AH} (hx : exB md = true) (hF : n_F W md h h') : FL h h' := by
  unfold exB at hx
  rw [Bool.and_eq_true, Bool.and_eq_true, Bool.and_eq_true] at hx
  exact ⟨hF.2 _ _ (exE_s hx.1.1), hF.2 _ _ (exE_s hx.1.2), hF.2 _ _ (exE_s hx.2.1), hF.2 _ _ (exE_s hx.2.2)⟩
