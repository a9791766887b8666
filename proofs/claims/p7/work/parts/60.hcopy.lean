/-! the reference's rows: all that stands there are ints -/
noncomputable def covR (i : Nat) (rs : List RG) : Option (Bool × Int × Int) := List.rec none (fun r _ ih => bif Nat.ble r.1 i && Nat.ble (i + 1) r.2.1 then (match nth r.2.2.2 (i % r.2.2.1) with
  | some q => some q
  | none => ih) else ih) rs
theorem covR_s {i : Nat} {q : Bool × Int × Int} {rs : List RG} (h : covR i rs = some q) : ∃ r, r ∈ rs ∧ r.1 ≤ i ∧ i < r.2.1 ∧ r.2.2.2[i % r.2.2.1]? = some q := by
  induction rs with
  | nil => cases h
  | cons r rs ih =>
    have h : (bif Nat.ble r.1 i && Nat.ble (i + 1) r.2.1 then (match nth r.2.2.2 (i % r.2.2.1) with
      | some q => some q
      | none => covR i rs) else covR i rs) = some q := h
    have up : covR i rs = some q → ∃ r', r' ∈ r :: rs ∧ r'.1 ≤ i ∧ i < r'.2.1 ∧ r'.2.2.2[i % r'.2.2.1]? = some q := fun z => by
      obtain ⟨r', a, b⟩ := ih z
      exact ⟨r', List.mem_cons_of_mem _ a, b⟩
    cases hc : (Nat.ble r.1 i && Nat.ble (i + 1) r.2.1) with
    | false => rw [hc, cnd_f] at h; exact up h
    | true =>
      rw [hc, cnd_t] at h
      rw [Bool.and_eq_true] at hc
      have c1 := Nat.le_of_ble_eq_true hc.1
      have c2 := Nat.le_of_ble_eq_true hc.2
      split at h
      · rename_i q' hq'
        rw [nth_eq] at hq'
        cases h
        exact ⟨r, List.mem_cons_self, c1, c2, hq'⟩
      · exact up h
noncomputable def isIr (q : Option (Bool × Int × Int)) : Bool := match q with
  | some q => !q.1
  | none => false
def isIe (e : Option HV) : Bool := match e with
  | some (.inr (.inl q)) => !q.1
  | _ => false
theorem cov_ck : (List.range' 20 9814).all (fun i => isIr (covR i jrA)) = true := by decide +kernel
theorem pre_ck : (List.range' 0 20).all (fun i => isIe jp77[i]? && isIe jp78[i]?) = true := by decide +kernel
theorem g77 : gS JB 77 = some (11, 9834, jp77, jrA) := rfl
theorem g78 : gS JB 78 = some (11, 9834, jp78, jrA) := rfl
theorem int_row {h : AH} {k : Nat} {p : List HV} (hC : n_C 0 z0 h k (11, 9834, p, jrA)) (hp : ∀ i, i < 20 → isIe p[i]? = true) : ∀ i, i < 9834 → ∃ x, hV h k i = vI x := by
  intro i hi
  by_cases z : i < 20
  · have h1 := hp i z
    unfold isIe at h1
    split at h1
    · rename_i q hq
      obtain ⟨x, hx, -⟩ := hC.2.1 i _ hq
      obtain ⟨l, a⟩ := q
      cases l with
      | true => cases h1
      | false => exact ⟨x, hx⟩
    · cases h1
  · have h1 := List.all_eq_true.mp cov_ck i (List.mem_range'_1.mpr ⟨by omega, by omega⟩)
    unfold isIr at h1
    split at h1
    · rename_i q hq
      obtain ⟨r, r1, r2, r3, r4⟩ := covR_s hq
      obtain ⟨x, hx, -⟩ := (hC.2.2 r r1).2 i q r2 r3 r4
      obtain ⟨l, a⟩ := q
      cases l with
      | true => cases h1
      | false => exact ⟨x, hx⟩
    · cases h1
theorem pre77 : ∀ i, i < 20 → isIe jp77[i]? = true := fun i hi => by
  have := List.all_eq_true.mp pre_ck i (List.mem_range'_1.mpr ⟨by omega, by omega⟩)
  rw [Bool.and_eq_true] at this
  exact this.1
theorem pre78 : ∀ i, i < 20 → isIe jp78[i]? = true := fun i hi => by
  have := List.all_eq_true.mp pre_ck i (List.mem_range'_1.mpr ⟨by omega, by omega⟩)
  rw [Bool.and_eq_true] at this
  exact this.2
theorem int_77 {h : AH} (hJ : k_H JB h) : ∀ i, i < 9834 → ∃ x, hV h 77 i = vI x := int_row (hJ.2.2 77 _ g77) pre77
theorem int_78 {h : AH} (hJ : k_H JB h) : ∀ i, i < 9834 → ∃ x, hV h 78 i = vI x := int_row (hJ.2.2 78 _ g78) pre78
theorem jp_len : jp77.length = 20 ∧ jp78.length = 20 := by decide +kernel
theorem jp_eq : ∀ i, i < 20 → i ≠ 16 → jp78[i]? = jp77[i]? := fun i hi hn => by
  match i, hi, hn with
  | 0, _, _ => rfl
  | 1, _, _ => rfl
  | 2, _, _ => rfl
  | 3, _, _ => rfl
  | 4, _, _ => rfl
  | 5, _, _ => rfl
  | 6, _, _ => rfl
  | 7, _, _ => rfl
  | 8, _, _ => rfl
  | 9, _, _ => rfl
  | 10, _, _ => rfl
  | 11, _, _ => rfl
  | 12, _, _ => rfl
  | 13, _, _ => rfl
  | 14, _, _ => rfl
  | 15, _, _ => rfl
  | 17, _, _ => rfl
  | 18, _, _ => rfl
  | 19, _, _ => rfl
  | 16, _, hn => exact absurd rfl hn
  | n + 20, hi, _ => omega
theorem jp_16 : jp77[16]? = some (.inr (.inl (false, 0, 10300))) ∧ jp78[16]? = some (.inr (.inl (false, 0, 9999))) := ⟨rfl, rfl⟩
theorem cpyV {h : AH} {r q i : Nat} (hi : i < 9834) : hV (hCpy h r 0 q 0 9834) q i = hV h r i := by
  have : hV (hCpy h r 0 q 0 9834) q i = hV h r (0 + (i - 0)) := if_pos ⟨rfl, Nat.zero_le _, by omega⟩
  rw [this]; congr 1; omega
theorem cpy_C {h : AH} {r q : Nat} {p p' : List HV} (hC : n_C 0 z0 h r (11, 9834, p, jrA)) (hq : hK h q = (11, 9834)) (hl : p'.length = 20) (hr : ∀ g, g ∈ jrA → 20 ≤ g.1 ∧ g.2.1 ≤ 9834) (hp : ∀ i e, p'[i]? = some e → n_W 0 z0 e (hV h r i)) : n_C 0 z0 (hCpy h r 0 q 0 9834) q (11, 9834, p', jrA) := by
  refine ⟨hq, fun i e he => ?_, fun g hg => ⟨by rw [hl]; exact (hr g hg).1, fun i x i1 i2 hx => ?_⟩⟩
  · have hi : i < 20 := by
      rw [← hl]
      rcases Nat.lt_or_ge i p'.length with z | z
      · exact z
      · have he : p'[i]? = some e := he
        rw [List.getElem?_eq_none z] at he; cases he
    rw [cpyV (by omega)]
    exact hp i e he
  · rw [cpyV (by have := (hr g hg).2; omega)]
    exact (hC.2.2 g hg).2 i x i1 i2 hx
theorem jrA_b : ∀ g, g ∈ jrA → 20 ≤ g.1 ∧ g.2.1 ≤ 9834 := by decide +kernel
theorem cpy_JB {h : AH} {r q : Nat} {p' : List HV} (hJ : k_H JB h) (hg : gS JB q = some (11, 9834, p', jrA)) (hC : n_C 0 z0 (hCpy h r 0 q 0 9834) q (11, 9834, p', jrA)) : k_H JB (hCpy h r 0 q 0 9834) := by
  refine ⟨hJ.1, hJ.2.1, fun k c hc => ?_⟩
  by_cases z : k = q
  · subst z
    rw [hg] at hc
    cases hc
    exact hC
  · have hC := hJ.2.2 k c hc
    have hv : ∀ i, hV (hCpy h r 0 q 0 9834) k i = hV h k i := fun i => hV_cpy_ne z
    exact ⟨hC.1, fun i e he => by rw [hv i]; exact hC.2.1 i e he, fun g hg => ⟨(hC.2.2 g hg).1, fun i x i1 i2 hx => by rw [hv i]; exact (hC.2.2 g hg).2 i x i1 i2 hx⟩⟩
theorem cpy_W {β : Nat} {h h' : AH} {r q : Nat} (hrq : (r = 77 ∧ q = 78) ∨ (r = 78 ∧ q = 77)) (hW : W0 β h) (hr : ∀ i, hV h' r i = hV h r i) (hq : ∀ i, i < 9834 → hV h' q i = hV h r i) (ht : ∀ i, hV h' 79 i = hV h 79 i) : W0 β h' := by
  obtain ⟨⟨⟨w1, w2⟩, w3, w4⟩, w5⟩ := hW
  have one : ∀ k k', wA k h → wB β k h → (∀ i, i < 9834 → hV h' k' i = hV h k i) → wA k' h' ∧ wB β k' h' := fun k k' a b e => by
    refine ⟨fun x hx hs => ?_, ?_, fun x hx => ?_⟩
    · rw [e 5 (by omega)] at hs
      rw [e (84 + 13 * x + 4) (by omega)]
      exact a x hx hs
    · rw [e 7 (by omega)]; exact b.1
    · rw [e (84 + 13 * x + 11) (by omega)]; exact b.2 x hx
  have ct : (fun i => if i ≤ 3012 then hV h' 79 i else vN) = (fun i => if i ≤ 3012 then hV h 79 i else vN) := by
    funext i; rw [ht i]
  have w5 : TXT (fun i => if i ≤ 3012 then hV h' 79 i else vN) := by rw [ct]; exact w5
  rcases hrq with ⟨rfl, rfl⟩ | ⟨rfl, rfl⟩
  · have p1 := one 77 77 w1 w3 (fun i _ => hr i)
    have p2 := one 77 78 w1 w3 hq
    exact ⟨⟨⟨p1.1, p2.1⟩, p1.2, p2.2⟩, w5⟩
  · have p1 := one 78 77 w2 w4 hq
    have p2 := one 78 78 w2 w4 (fun i _ => hr i)
    exact ⟨⟨⟨p1.1, p2.1⟩, p1.2, p2.2⟩, w5⟩
theorem hok181_0 {β : Nat} : KOK JB (W0 β) 181 hk181_0 := by
  intro d vs h Q hd ha hJ hW hp hQ
  obtain ⟨v1, t1, rfl, e1, v2, t2, rfl, e2, e3⟩ := ha
  have e1 : v1 = vR 77 := e1
  have e2 : v2 = vR 78 := e2
  have e3 : t2 = [] := e3
  subst e1 e2 e3
  obtain ⟨d, rfl⟩ : ∃ d', d = d' + 1 := ⟨d - 1, by have hd : 3 ≤ d := hd; omega⟩
  have hC := hJ.2.2 77 _ g77
  have hC8 := hJ.2.2 78 _ g78
  have hv : ∀ i, i < 9834 → hV h 77 i = vI (nmb (hV h 77 i)) := fun i hi => by obtain ⟨x, hx⟩ := int_77 hJ i hi; rw [hx]; rfl
  rw [X_copy d 77 78 h (fun i => nmb (hV h 77 i)) hC.1 hC8.1 (by decide) hv Q]
  have h16 := hp (77, 16, .inr (false, 0, 9999)) List.mem_cons_self
  have hC' : n_C 0 z0 (hCpy h 77 0 78 0 9834) 78 (11, 9834, jp78, jrA) := cpy_C hC hC8.1 jp_len.2 jrA_b (fun i e he => by
    have hi : i < 20 := by
      rw [← jp_len.2]
      rcases Nat.lt_or_ge i jp78.length with z | z
      · exact z
      · rw [List.getElem?_eq_none z] at he; cases he
    by_cases z : i = 16
    · subst z
      rw [jp_16.2] at he
      cases he
      exact h16
    · rw [jp_eq i hi z] at he
      exact hC.2.1 i e he)
  refine hQ none _ rfl (cpy_JB hJ g78 hC') (fun f hf => by cases hf) (fun q hq => by cases hq) ⟨⟨rfl, cpy_W (Or.inl ⟨rfl, rfl⟩) hW (fun i => hV_cpy_ne (by decide)) (fun i hi => cpyV hi) (fun i => hV_cpy_ne (by decide))⟩, fun k i hn => ?_⟩
  by_cases z : k = 78
  · subst z
    exact if_neg (fun y => hn ⟨(78, 0, 9834), List.mem_cons_self, rfl, Nat.zero_le _, by show i ≤ 9834; omega⟩)
  · exact hV_cpy_ne z
theorem hok181_1 {β : Nat} : KOK JB (W0 β) 181 hk181_1 := by
  intro d vs h Q hd ha hJ hW hp hQ
  obtain ⟨v1, t1, rfl, e1, v2, t2, rfl, e2, e3⟩ := ha
  have e1 : v1 = vR 78 := e1
  have e2 : v2 = vR 77 := e2
  have e3 : t2 = [] := e3
  subst e1 e2 e3
  obtain ⟨d, rfl⟩ : ∃ d', d = d' + 1 := ⟨d - 1, by have hd : 3 ≤ d := hd; omega⟩
  have hC := hJ.2.2 78 _ g78
  have hC7 := hJ.2.2 77 _ g77
  have hv : ∀ i, i < 9834 → hV h 78 i = vI (nmb (hV h 78 i)) := fun i hi => by obtain ⟨x, hx⟩ := int_78 hJ i hi; rw [hx]; rfl
  rw [X_copy d 78 77 h (fun i => nmb (hV h 78 i)) hC.1 hC7.1 (by decide) hv Q]
  have h16 := hC.2.1 16 _ jp_16.2
  have hC' : n_C 0 z0 (hCpy h 78 0 77 0 9834) 77 (11, 9834, jp77, jrA) := cpy_C hC hC7.1 jp_len.1 jrA_b (fun i e he => by
    have hi : i < 20 := by
      rw [← jp_len.1]
      rcases Nat.lt_or_ge i jp77.length with z | z
      · exact z
      · rw [List.getElem?_eq_none z] at he; cases he
    by_cases z : i = 16
    · subst z
      rw [jp_16.1] at he
      cases he
      obtain ⟨x, hx, x1, x2⟩ := h16
      have x1 : (0 : Int) ≤ x := x1
      have x2 : x ≤ 9999 := x2
      exact ⟨x, hx, x1, by show x ≤ 10300; omega⟩
    · rw [← jp_eq i hi z] at he
      exact hC.2.1 i e he)
  refine hQ none _ rfl (cpy_JB hJ g77 hC') (fun f hf => ?_) (fun q hq => by cases hq) ⟨⟨rfl, cpy_W (Or.inr ⟨rfl, rfl⟩) hW (fun i => hV_cpy_ne (by decide)) (fun i hi => cpyV hi) (fun i => hV_cpy_ne (by decide))⟩, fun k i hn => ?_⟩
  · rcases List.mem_cons.mp hf with rfl | hf
    · show inRg (false, 0, 9999) (hV (hCpy h 78 0 77 0 9834) 77 16)
      rw [cpyV (by decide)]
      exact h16
    · cases hf
  · by_cases z : k = 77
    · subst z
      exact if_neg (fun y => hn ⟨(77, 0, 9834), List.mem_cons_self, rfl, Nat.zero_le _, by show i ≤ 9834; omega⟩)
    · exact hV_cpy_ne z
