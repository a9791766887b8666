/-! what isn't touched: tape, texts, fault -/
def flR : List (Nat × Nat × Nat) := [(77, 3, 3), (0, 11, 12), (1, 2, 2), (11, 2, 2), (70, 6, 7), (75, 0, 299), (76, 4, 6), (78, 3, 3), (80, 0, 299)]
def FL (h h' : AH) : Prop := ∀ q, q ∈ flR → ∀ i, q.2.1 ≤ i → i ≤ q.2.2 → hV h' q.1 i = hV h q.1 i
theorem FL_r (h : AH) : FL h h := fun _ _ _ _ _ => rfl
theorem FL_t {h h1 h2 : AH} (a : FL h h1) (b : FL h1 h2) : FL h h2 := fun q hq i i1 i2 => (b q hq i i1 i2).trans (a q hq i i1 i2)
def exB (md : List (Nat × Nat × Nat)) : Bool := flR.all fun q => md.all fun m => !(Nat.beq m.1 q.1) || (Nat.ble (m.2.2 + 1) q.2.1 || Nat.ble (q.2.2 + 1) m.2.1)
theorem FL_of {W : AH → Prop} {md : List (Nat × Nat × Nat)} {h h' : AH} (hx : exB md = true) (hF : n_F W md h h') : FL h h' := by
  intro q hq i i1 i2
  refine hF.2 q.1 i ?_
  rintro ⟨m, m1, m2, m3, m4⟩
  unfold exB at hx
  rw [List.all_eq_true] at hx
  have h1 := hx q hq
  rw [List.all_eq_true] at h1
  have h2 := h1 m m1
  rw [show Nat.beq m.1 q.1 = true from Nat.beq_eq.mpr m2] at h2
  rw [Bool.not_true, Bool.false_or, Bool.or_eq_true] at h2
  rcases h2 with h2 | h2
  · have := Nat.le_of_ble_eq_true h2; omega
  · have := Nat.le_of_ble_eq_true h2; omega
theorem FL_A {h : AH} {f : Nat → Int} (e : ∀ i, i = 3 → vI (f i) = hV h 77 i) : FL h (hA h f) := by
  intro q hq i i1 i2
  unfold flR at hq
  rcases List.mem_cons.mp hq with rfl | hq
  · have i1 : 3 ≤ i := i1
    have i2 : i ≤ 3 := i2
    exact (hA_V (by omega)).trans (e i (by omega))
  rcases List.mem_cons.mp hq with rfl | hq
  · exact hA_n (by decide)
  rcases List.mem_cons.mp hq with rfl | hq
  · exact hA_n (by decide)
  rcases List.mem_cons.mp hq with rfl | hq
  · exact hA_n (by decide)
  rcases List.mem_cons.mp hq with rfl | hq
  · exact hA_n (by decide)
  rcases List.mem_cons.mp hq with rfl | hq
  · exact hA_n (by decide)
  rcases List.mem_cons.mp hq with rfl | hq
  · exact hA_n (by decide)
  rcases List.mem_cons.mp hq with rfl | hq
  · exact hA_n (by decide)
  rcases List.mem_cons.mp hq with rfl | hq
  · exact hA_n (by decide)
  cases hq
