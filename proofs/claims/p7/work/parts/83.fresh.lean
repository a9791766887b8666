/-! the fresh heap is within what is known -/
def rgIn (q : Bool × Int × Int) (v : AV) : Bool := match v with
  | .inl x => !q.1 && decide (q.2.1 ≤ x ∧ x ≤ q.2.2)
  | .inr (.inl x) => q.1 && decide (q.2.1 ≤ x ∧ x ≤ q.2.2)
  | _ => false
theorem rgIn_s {q : Bool × Int × Int} {v : AV} (h : rgIn q v = true) : inRg q v := by
  obtain ⟨b, lo, hi⟩ := q
  unfold rgIn at h
  split at h
  · rw [Bool.and_eq_true, decide_eq_true_eq] at h
    rename_i x
    cases b with
    | true => have q : false = true := h.1; cases q
    | false => exact ⟨x, rfl, h.2⟩
  · rw [Bool.and_eq_true, decide_eq_true_eq] at h
    rename_i x
    cases b with
    | false => have q : false = true := h.1; cases q
    | true => exact ⟨x, rfl, h.2⟩
  · cases h
def entIn (e : HV) (v : AV) : Bool := match e with
  | .inl _ => false
  | .inr (.inl q) => rgIn q v
  | .inr (.inr ks) => ks.any (fun k => decide (v = vR k))
theorem entIn_s {e : HV} {v : AV} (h : entIn e v = true) : n_W 0 z0 e v := by
  unfold entIn at h
  split at h
  · cases h
  · exact rgIn_s h
  · rw [List.any_eq_true] at h
    obtain ⟨k, hk, h⟩ := h
    exact ⟨k, hk, of_decide_eq_true h⟩
def enC (l0 : List AV) (df : AV) : Nat → List HV → Bool
  | _, [] => true
  | i, e :: l => entIn e (l0.getD i df) && enC l0 df (i + 1) l
theorem enC_s {l0 : List AV} {df : AV} : ∀ (l : List HV) (j i : Nat) (e : HV), enC l0 df j l = true → l[i]? = some e → entIn e (l0.getD (j + i) df) = true := by
  intro l
  induction l with
  | nil => intro j i e _ h; cases h
  | cons a l ih =>
    intro j i e h he
    have h : (entIn a (l0.getD j df) && enC l0 df (j + 1) l) = true := h
    rw [Bool.and_eq_true] at h
    cases i with
    | zero => injection he with he; subst he; exact h.1
    | succ i => have := ih (j + 1) i e h.2 he; rw [show j + 1 + i = j + (i + 1) by omega] at this; exact this
def rlC (r : RG) : Nat → List AV → Bool
  | _, [] => true
  | i, v :: l => (bif (Nat.ble r.1 i && Nat.ble (i + 1) r.2.1) then (match r.2.2.2[i % r.2.2.1]? with
    | some q => rgIn q v
    | none => true) else true) && rlC r (i + 1) l
theorem rlC_s {r : RG} : ∀ (l : List AV) (j i : Nat) (v : AV) (q : Bool × Int × Int), rlC r j l = true → l[i]? = some v → r.1 ≤ j + i → j + i < r.2.1 → r.2.2.2[(j + i) % r.2.2.1]? = some q → rgIn q v = true := by
  intro l
  induction l with
  | nil => intro j i v q _ h; cases h
  | cons a l ih =>
    intro j i v q h hv h1 h2 hq
    have h : ((bif (Nat.ble r.1 j && Nat.ble (j + 1) r.2.1) then (match r.2.2.2[j % r.2.2.1]? with
      | some q => rgIn q a
      | none => true) else true) && rlC r (j + 1) l) = true := h
    rw [Bool.and_eq_true] at h
    cases i with
    | zero =>
      injection hv with hv
      subst hv
      have e : (Nat.ble r.1 j && Nat.ble (j + 1) r.2.1) = true := by rw [Bool.and_eq_true]; exact ⟨Nat.ble_eq_true_of_le h1, Nat.ble_eq_true_of_le h2⟩
      have h3 := h.1
      rw [e, cond_true] at h3
      have hq : r.2.2.2[j % r.2.2.1]? = some q := hq
      rw [hq] at h3
      exact h3
    | succ i =>
      have e : j + 1 + i = j + (i + 1) := by omega
      exact ih (j + 1) i v q h.2 hv (by omega) (by omega) (by rw [e]; exact hq)
noncomputable def rgC (l0 : List AV) (df : AV) (n sz : Nat) (r : RG) : Bool := Nat.ble n r.1 && (Nat.ble r.2.1 sz && (r.2.2.2.all (fun q => rgIn q df) && rlC r 0 l0))
noncomputable def fcK (k : Nat) : Bool := match gS JB k with
  | none => true
  | some c => match T0[k]? with
    | none => false
    | some t => Nat.beq c.1 t.1 && (Nat.beq c.2.1 t.2.1 && (Nat.ble c.2.2.1.length (sz0 k) && (enC t.2.2.1 t.2.2.2 0 c.2.2.1 && c.2.2.2.all (rgC t.2.2.1 t.2.2.2 c.2.2.1.length (sz0 k)))))
theorem fcK_all : ∀ k, k < 93 → fcK k = true := by decide +kernel
theorem lkx {k : Nat} {c : SC} (h : JBx.lookup k = some c) : ∃ j, j < 4 ∧ k = 1000000 + j ∧ c = (20, (stV j).length, (stV j).map (fun z => .inl (.inl (.inl z))), []) := by
  by_cases h0 : k = 1000000
  · subst h0
    have e : JBx.lookup 1000000 = some (20, (stV 0).length, (stV 0).map (fun z => .inl (.inl (.inl z))), []) := rfl
    rw [e] at h; injection h with h
    exact ⟨0, by decide, rfl, h.symm⟩
  by_cases h1 : k = 1000001
  · subst h1
    have e : JBx.lookup 1000001 = some (20, (stV 1).length, (stV 1).map (fun z => .inl (.inl (.inl z))), []) := rfl
    rw [e] at h; injection h with h
    exact ⟨1, by decide, rfl, h.symm⟩
  by_cases h2 : k = 1000002
  · subst h2
    have e : JBx.lookup 1000002 = some (20, (stV 2).length, (stV 2).map (fun z => .inl (.inl (.inl z))), []) := rfl
    rw [e] at h; injection h with h
    exact ⟨2, by decide, rfl, h.symm⟩
  by_cases h3 : k = 1000003
  · subst h3
    have e : JBx.lookup 1000003 = some (20, (stV 3).length, (stV 3).map (fun z => .inl (.inl (.inl z))), []) := rfl
    rw [e] at h; injection h with h
    exact ⟨3, by decide, rfl, h.symm⟩
  have b0 : (k == 1000000) = false := beq_eq_false_iff_ne.mpr h0
  have b1 : (k == 1000001) = false := beq_eq_false_iff_ne.mpr h1
  have b2 : (k == 1000002) = false := beq_eq_false_iff_ne.mpr h2
  have b3 : (k == 1000003) = false := beq_eq_false_iff_ne.mpr h3
  unfold JBx at h
  rw [List.lookup_cons, b0, List.lookup_cons, b1, List.lookup_cons, b2, List.lookup_cons, b3] at h
  cases h
theorem gS_big {k : Nat} (h1 : 93 ≤ k) (h2 : k < 1000000) : gS JB k = none := by
  have e : Nat.ble 1000000 k = false := by
    cases z : Nat.ble 1000000 k with
    | false => rfl
    | true => have := Nat.le_of_ble_eq_true z; omega
  unfold gS
  rw [e, cond_false]
  by_cases z : k < 95
  · have z : k = 93 ∨ k = 94 := by omega
    rcases z with rfl | rfl <;> rfl
  · have : nth JB.1 (k / 19) = none := by
      rw [nth_eq]
      refine List.getElem?_eq_none ?_
      show 5 ≤ k / 19
      omega
    rw [this]
theorem FR_J {L : Nat} {xs : Nat → Int} {h : AH} (hf : FR L xs h) : k_H JB h := by
  obtain ⟨f1, f2, f3, f4⟩ := hf
  refine ⟨f1, f2, fun k c hc => ?_⟩
  by_cases hk : k < 93
  · have h1 := fcK_all k hk
    unfold fcK at h1
    rw [hc] at h1
    obtain ⟨g1, g2⟩ := f4 k hk
    cases ht : T0[k]? with
    | none =>
      have h1 : (match T0[k]? with
        | none => false
        | some t => Nat.beq c.1 t.1 && (Nat.beq c.2.1 t.2.1 && (Nat.ble c.2.2.1.length (sz0 k) && (enC t.2.2.1 t.2.2.2 0 c.2.2.1 && c.2.2.2.all (rgC t.2.2.1 t.2.2.2 c.2.2.1.length (sz0 k)))))) = true := h1
      rw [ht] at h1; cases h1
    | some t =>
      have h1 : (match T0[k]? with
        | none => false
        | some t => Nat.beq c.1 t.1 && (Nat.beq c.2.1 t.2.1 && (Nat.ble c.2.2.1.length (sz0 k) && (enC t.2.2.1 t.2.2.2 0 c.2.2.1 && c.2.2.2.all (rgC t.2.2.1 t.2.2.2 c.2.2.1.length (sz0 k)))))) = true := h1
      rw [ht] at h1
      have h1 : (Nat.beq c.1 t.1 && (Nat.beq c.2.1 t.2.1 && (Nat.ble c.2.2.1.length (sz0 k) && (enC t.2.2.1 t.2.2.2 0 c.2.2.1 && c.2.2.2.all (rgC t.2.2.1 t.2.2.2 c.2.2.1.length (sz0 k)))))) = true := h1
      rw [Bool.and_eq_true, Bool.and_eq_true, Bool.and_eq_true, Bool.and_eq_true] at h1
      obtain ⟨a1, a2, a3, a4, a5⟩ := h1
      have eK : K0 k = (t.1, t.2.1) := by unfold K0; rw [ht]
      have eV : ∀ i, V0 k i = t.2.2.1.getD i t.2.2.2 := fun i => by unfold V0; rw [ht]
      have a3 := Nat.le_of_ble_eq_true a3
      refine ⟨by rw [g1, eK, Nat.eq_of_beq_eq_true a1, Nat.eq_of_beq_eq_true a2], fun i e he => ?_, fun r hr => ?_⟩
      · have hi : i < c.2.2.1.length := (List.getElem?_eq_some_iff.mp he).1
        have := enC_s _ 0 i e a4 he
        rw [Nat.zero_add] at this
        rw [g2 i (Nat.lt_of_lt_of_le hi a3), eV]
        exact entIn_s this
      · rw [List.all_eq_true] at a5
        have a6 := a5 r hr
        unfold rgC at a6
        rw [Bool.and_eq_true, Bool.and_eq_true, Bool.and_eq_true] at a6
        obtain ⟨b1, b2, b3, b4⟩ := a6
        refine ⟨Nat.le_of_ble_eq_true b1, fun i q i1 i2 hq => ?_⟩
        rw [g2 i (Nat.lt_of_lt_of_le i2 (Nat.le_of_ble_eq_true b2)), eV, List.getD_eq_getElem?_getD]
        cases hv : t.2.2.1[i]? with
        | none =>
          rw [List.all_eq_true] at b3
          exact rgIn_s (b3 q (List.mem_of_getElem? hq))
        | some v => exact rgIn_s (rlC_s _ 0 i v q b4 hv (by omega) (by omega) (by rw [Nat.zero_add]; exact hq))
  · by_cases hk2 : 1000000 ≤ k
    · have e : Nat.ble 1000000 k = true := Nat.ble_eq_true_of_le hk2
      unfold gS at hc
      rw [e, cond_true] at hc
      obtain ⟨j, j1, j2, j3⟩ := lkx hc
      obtain ⟨g1, g2⟩ := f3.2 k hk2
      have n1 : ¬ k = 1000100 := by omega
      have n2 : 1000000 ≤ k ∧ k < 1000004 := by omega
      have n3 : k - 1000000 = j := by omega
      rw [j3]
      refine ⟨?_, fun i e he => ?_, fun r hr => by cases hr⟩
      · rw [g1]; unfold Kst; rw [if_neg n1, if_pos n2, n3]
      · rw [g2 i]; unfold Vst; rw [if_neg n1, if_pos n2, n3]
        have he : ((stV j).map (fun z => ((.inl (.inl (.inl z))) : HV)))[i]? = some e := he
        rw [List.getElem?_map] at he
        rw [List.getD_eq_getElem?_getD]
        cases hz : (stV j)[i]? with
        | none => rw [hz] at he; cases he
        | some z =>
          rw [hz] at he
          injection he with he
          subst he
          exact ⟨trivial, rfl⟩
    · rw [gS_big (by omega) (by omega)] at hc; cases hc
theorem v0_77 : ∀ r, r < 30 → V0 77 (84 + 13 * r + 11) = vI 0 ∧ V0 78 (84 + 13 * r + 11) = vI 0 := by decide +kernel
theorem v0_s : (V0 77 5 = vI 0 ∧ V0 78 5 = vI 0 ∧ V0 77 7 = vI 0 ∧ V0 78 7 = vI 0 ∧ V0 77 16 = vI 0) ∧ sz0 77 = 9834 ∧ sz0 78 = 9834 ∧ sz0 79 = 3012 := by decide +kernel
theorem v0_79 : ∀ j, j < 4 → V0 79 (753 * j) = vI 0 := by decide +kernel
theorem FR_W {L : Nat} {xs : Nat → Int} {h : AH} (hf : FR L xs h) : W0 0 h ∧ hV h 77 16 = vI 0 := by
  obtain ⟨f1, f2, f3, f4⟩ := hf
  obtain ⟨⟨s1, s2, s3, s4, s5⟩, z1, z2, z3⟩ := v0_s
  have e7 : ∀ i, i < 9834 → hV h 77 i = V0 77 i := fun i hi => (f4 77 (by decide)).2 i (by rw [z1]; exact hi)
  have e8 : ∀ i, i < 9834 → hV h 78 i = V0 78 i := fun i hi => (f4 78 (by decide)).2 i (by rw [z2]; exact hi)
  have e9 : ∀ i, i < 3012 → hV h 79 i = V0 79 i := fun i hi => (f4 79 (by decide)).2 i (by rw [z3]; exact hi)
  refine ⟨⟨⟨⟨fun r hr hs => ?_, fun r hr hs => ?_⟩, ⟨?_, fun r hr => ?_⟩, ⟨?_, fun r hr => ?_⟩⟩, fun j hj k hk => ?_⟩, by rw [e7 16 (by decide), s5]⟩
  · obtain ⟨s, q1, q2⟩ := hs
    rw [e7 5 (by decide), s1] at q1
    injection q1 with q1
    omega
  · obtain ⟨s, q1, q2⟩ := hs
    rw [e8 5 (by decide), s2] at q1
    injection q1 with q1
    omega
  · exact ⟨0, by rw [e7 7 (by decide), s3], by decide, by decide⟩
  · exact ⟨0, by rw [e7 _ (by omega), (v0_77 r hr).1], by decide, by decide⟩
  · exact ⟨0, by rw [e8 7 (by decide), s4], by decide, by decide⟩
  · exact ⟨0, by rw [e8 _ (by omega), (v0_77 r hr).2], by decide, by decide⟩
  · have hk : (k : Int) < ofI (if 753 * j ≤ 3012 then hV h 79 (753 * j) else vN) := hk
    rw [if_pos (by omega), e9 _ (by omega), v0_79 j hj] at hk
    have hk : (k : Int) < 0 := hk
    omega
