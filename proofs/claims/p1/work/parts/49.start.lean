/-! what the abstract machine knows of the fresh heap -/
abbrev xT : AW := .inr (-2147483648, 2147483647)
def bcM : List (Option AC) := [some (10, 0, [xR 77, xR 78, xR 79, xR 80, xI 0, xI (-1), xI (-1), xI 0, xI 0, xI 0, xI 0, xL 0, xI 0, xI 0, xI 0, xR 81, xI 0, xI 0, xI 0, xI 0, xR 82, xI 0, xI 0, xR 83, xR 84, xI 0, xR 85, xI 0, xI 0, xR 86, xR 87, xR 88, xR 89, xR 90, xI 0, xR 91, xR 92], none),
  some (11, 9834, [xI 0, xI 2, xI 59, xI 0, xI (-1), xI 0, xI 0, xI 0, xI 0, xI 0, xI 0, xI 0, xI 5, xI 0, xI 0, xI 0, xI 0, xI (-1), xI 0], some xT),
  some (11, 9834, [xI 0, xI 2, xI 59, xI 0, xI (-1), xI 0, xI 0, xI 0, xI 0, xI 0, xI 0, xI 0, xI 5, xI 0, xI 0, xI 0, xI 0, xI (-1), xI 0], some xT),
  some (11, 3012, [], some xT),
  some (11, 300, [], some xT),
  some (11, 160, [], some xT),
  some (11, 8, [xI 0, xI 0, xI 0, xI 0, xI 0, xI 0, xI 0, xI 0], some xT),
  some (12, 330, [], none),
  some (13, 330, [], none),
  some (11, 18, [xI 0, xI 0, xI 0, xI 0, xI 0, xI 0, xI 0, xI 0, xI 0, xI 0, xI 0, xI 0, xI 0, xI 0, xI 0, xI 0, xI 0, xI 0], some xT),
  some (11, 1200, [], some xT),
  some (11, 8, [], some xT),
  some (11, 8, [], some xT),
  some (11, 8, [], some xT),
  some (11, 8, [], some xT),
  some (11, 8, [], some xT),
  some (11, 8, [], some xT)]
def bcC0 : List (Option AC) := [some (9, 0, [xR 1, xR 11, xR 21, xR 46, xR 58, xR 52, xR 55, xR 61, xR 65, xR 70, xR 75, xI 0, xI 0], none),
  some (8, 0, [xR 2, xI 2, xI 0, xI (-1), xR 5, xI 0, xR 6, xI 0, xI 0, xR 7, xI 0, xR 8, xI 0, xR 9, xR 10], none),
  some (0, 0, [xR 3, xI 0, xI 0, xI 0, xI 0, xI 5, xI 0, xI 0, xI 0, xI 0, xI 59, xI (-1), xI 0, xI 0, xI 0], none),
  some (1, 0, [xR 4, xI 1260], none),
  some (12, 1260, [], none),
  some (11, 40, [], some xT),
  some (11, 390, [], some xT),
  some (11, 8, [], some xT),
  some (11, 16, [], some xT),
  some (11, 20, [], some xT),
  some (11, 20, [], some xT),
  some (8, 0, [xR 12, xI 2, xI 0, xI (-1), xR 15, xI 0, xR 16, xI 0, xI 0, xR 17, xI 0, xR 18, xI 0, xR 19, xR 20], none),
  some (0, 0, [xR 13, xI 0, xI 0, xI 0, xI 0, xI 5, xI 0, xI 0, xI 0, xI 0, xI 59, xI (-1), xI 0, xI 0, xI 0], none),
  some (1, 0, [xR 14, xI 1260], none),
  some (12, 1260, [], none),
  some (11, 40, [], some xT),
  some (11, 390, [], some xT),
  some (11, 8, [], some xT),
  some (11, 16, [], some xT)]
def bcC1 : List (Option AC) := [some (11, 20, [], some xT),
  some (11, 20, [], some xT),
  some (14, 4, [xR 22, xR 28, xR 34, xR 40], none),
  some (6, 0, [xR 23, xR 24, xR 25, xR 26, xR 27, xI 0, xI 0], none),
  some (11, 300, [], some xT),
  some (11, 5, [xI (-1), xI (-1), xI (-1), xI (-1), xI (-1)], some xT),
  some (11, 5, [xI (-1), xI (-1), xI (-1), xI (-1), xI (-1)], some xT),
  some (11, 24, [], some xT),
  some (11, 120, [], some xT),
  some (6, 0, [xR 29, xR 30, xR 31, xR 32, xR 33, xI 0, xI 0], none),
  some (11, 300, [], some xT),
  some (11, 5, [xI (-1), xI (-1), xI (-1), xI (-1), xI (-1)], some xT),
  some (11, 5, [xI (-1), xI (-1), xI (-1), xI (-1), xI (-1)], some xT),
  some (11, 24, [], some xT),
  some (11, 120, [], some xT),
  some (6, 0, [xR 35, xR 36, xR 37, xR 38, xR 39, xI 0, xI 0], none),
  some (11, 300, [], some xT),
  some (11, 5, [xI (-1), xI (-1), xI (-1), xI (-1), xI (-1)], some xT),
  some (11, 5, [xI (-1), xI (-1), xI (-1), xI (-1), xI (-1)], some xT)]
def bcC2 : List (Option AC) := [some (11, 24, [], some xT),
  some (11, 120, [], some xT),
  some (6, 0, [xR 41, xR 42, xR 43, xR 44, xR 45, xI 0, xI 0], none),
  some (11, 300, [], some xT),
  some (11, 5, [xI (-1), xI (-1), xI (-1), xI (-1), xI (-1)], some xT),
  some (11, 5, [xI (-1), xI (-1), xI (-1), xI (-1), xI (-1)], some xT),
  some (11, 24, [], some xT),
  some (11, 120, [], some xT),
  some (6, 0, [xR 47, xR 48, xR 49, xR 50, xR 51, xI 0, xI 0], none),
  some (11, 300, [], some xT),
  some (11, 5, [xI (-1), xI (-1), xI (-1), xI (-1), xI (-1)], some xT),
  some (11, 5, [xI (-1), xI (-1), xI (-1), xI (-1), xI (-1)], some xT),
  some (11, 24, [], some xT),
  some (11, 120, [], some xT),
  some (0, 0, [xR 53, xI 0, xI 0, xI 0, xI 0, xI 5, xI 0, xI 0, xI 0, xI 0, xI 59, xI (-1), xI 0, xI 0, xI 0], none),
  some (1, 0, [xR 54, xI 32], none),
  some (12, 32, [], none),
  some (0, 0, [xR 56, xI 0, xI 0, xI 0, xI 0, xI 5, xI 0, xI 0, xI 0, xI 0, xI 59, xI (-1), xI 0, xI 0, xI 0], none),
  some (1, 0, [xR 57, xI 32], none)]
def bcC3 : List (Option AC) := [some (12, 32, [], none),
  some (2, 0, [xR 46, xR 46, xR 59, xR 60, xR 53, xI 0, xI 0], none),
  some (11, 8, [], some xT),
  some (11, 64, [], some xT),
  some (5, 0, [xR 62, xR 63, xR 64, xI 0, xI 0, xI 0, xI 0], none),
  some (11, 104, [], some xT),
  some (11, 7, [], some xT),
  some (11, 7, [], some xT),
  some (3, 0, [xR 66, xR 67, xI 0, xR 68, xR 69], none),
  some (11, 8, [], some xT),
  some (11, 8, [], some xT),
  some (11, 256, [], some xT),
  some (11, 8, [], some xT),
  some (4, 0, [xR 71, xR 46, xI 0, xI 0, xI 0, xI 0, xI 0, xI (-1)], none),
  some (7, 0, [xR 72, xR 73, xR 74, xI 0, xI 0], none),
  some (11, 300, [], some xT),
  some (11, 300, [], some xT),
  some (11, 300, [], some xT),
  some (11, 300, [], some xT)]
def bc0 : List (List (Option AC)) := [bcC0, bcC1, bcC2, bcC3, bcM]
def bc1 : List (List (Option AC)) := [[], [], [], [], bcM]
def bcS : List (Nat × AC) := [(1000000, (20, 6, [xI 0, xI 15, xI 23, xI 28, xI 32, xI 43], none)),
  (1000001, (20, 6, [xI 32767, xI 255, xI 31, xI 15, xI 2047, xI 3], none)),
  (1000002, (20, 6, [xI (-9999), xI (-99), xI (-9), xI 0, xI (-600), xI (-1)], none)),
  (1000003, (20, 5, [xI 127, xI 127, xI 127, xI 128, xI 224], none))]
def bx (box : List AW) : List (Nat × AC) := (1000100, (20, 6, box, none)) :: bcS
def lsx : List (Option AW) := [some (xR 1000100), some (xR 0), some (xR 76), some (xI 0)]
abbrev lsc : List (Option AV) := [some (vR 1000100), some (vR 0), some (vR 76), some (vI 0)]
abbrev lwQ : Option AV → AH → Prop := fun r h => r = some (vI 1) ∧ hN h ≤ 600000 ∧ hS h ≤ 7302250
theorem lsx_s : ab_L lsx lsc := ⟨_, _, rfl, ⟨_, rfl, rfl⟩, _, _, rfl, ⟨_, rfl, rfl⟩, _, _, rfl, ⟨_, rfl, rfl⟩, _, _, rfl, ⟨_, rfl, rfl⟩, rfl⟩
def wT (v : AV) : Bool := leW (.inl v) xT
def okc (k : Nat) (c : AC) : Bool := decide ((c.1, c.2.1) = K0 k) && (decide (c.2.2.1.length ≤ sz0 k) && ((List.range c.2.2.1.length).all (fun i => decide (c.2.2.1[i]? = some (.inl (V0 k i)))) && (match c.2.2.2 with
  | none => true
  | some w => decide (w = xT) && (decide (c.2.1 ≤ sz0 k) && (match T0[k]? with
    | some t => t.2.2.1.all wT && wT t.2.2.2
    | none => false)))))
def okcs (bs : List (List (Option AC))) : Bool := (decide (bs.length = 5) && decide ((bs.getD 4 []).length = 17)) && (List.range 93).all (fun k => match (bs.getD (k / 19) []).getD (k % 19) none with
  | some c => okc k c
  | none => true)
theorem okcs_0 : okcs bc0 = true := by decide +kernel
theorem okcs_1 : okcs bc1 = true := by decide +kernel
theorem okc_s {h : AH} {k : Nat} {c : AC} (hk : hK h k = K0 k) (hv : ∀ i, i < sz0 k → hV h k i = V0 k i) (ho : okc k c = true) : ab_C h k c := by
  unfold okc at ho
  rw [Bool.and_eq_true, Bool.and_eq_true, Bool.and_eq_true, decide_eq_true_eq, decide_eq_true_eq] at ho
  obtain ⟨h1, h2, h3, h4⟩ := ho
  refine ⟨by rw [hk]; exact h1.symm, fun i w hw => ?_, fun w hw i g1 g2 => ?_⟩
  · have hi : i < c.2.2.1.length := by
      rcases Nat.lt_or_ge i c.2.2.1.length with z | z
      · exact z
      · rw [List.getElem?_eq_none z] at hw; cases hw
    have e := of_decide_eq_true (List.all_eq_true.mp h3 i (List.mem_range.mpr hi))
    rw [hw] at e
    cases e
    exact hv i (by omega)
  · rw [hw] at h4
    dsimp only at h4
    rw [Bool.and_eq_true, Bool.and_eq_true, decide_eq_true_eq, decide_eq_true_eq] at h4
    obtain ⟨rfl, h5, h6⟩ := h4
    rw [hv i (by omega)]
    split at h6
    · rename_i t et
      rw [Bool.and_eq_true] at h6
      have e : V0 k i = t.2.2.1.getD i t.2.2.2 := by unfold V0; rw [et]
      rw [e, List.getD_eq_getElem?_getD]
      cases hq : t.2.2.1[i]? with
      | none => exact leW_s (w := .inl t.2.2.2) h6.2 rfl
      | some v => exact leW_s (w := .inl v) (List.all_eq_true.mp h6.1 v (List.mem_of_getElem? hq)) rfl
    · cases h6
theorem bcS_s {L : Nat} {xs : Nat → Int} {h : AH} (ho : OUT L xs h) {k : Nat} {c : AC} (hc : bcS.lookup k = some c) : ab_C h k c := by
  have hst : ∀ j, j < 4 → (∀ w, (bcS.lookup (1000000 + j)) = some w → (w.1 = 20 ∧ w.2.1 = (stV j).length ∧ w.2.2.2 = none ∧ w.2.2.1 = (stV j).map (fun z => xI z))) := by
    intro j hj
    match j, hj with
    | 0, _ => intro w hw; cases hw; exact ⟨rfl, rfl, rfl, rfl⟩
    | 1, _ => intro w hw; cases hw; exact ⟨rfl, rfl, rfl, rfl⟩
    | 2, _ => intro w hw; cases hw; exact ⟨rfl, rfl, rfl, rfl⟩
    | 3, _ => intro w hw; cases hw; exact ⟨rfl, rfl, rfl, rfl⟩
    | n + 4, hj => exact absurd hj (by omega)
  have hk : k = 1000000 ∨ k = 1000001 ∨ k = 1000002 ∨ k = 1000003 := by
    by_cases z0 : k = 1000000
    · exact Or.inl z0
    by_cases z1 : k = 1000001
    · exact Or.inr (Or.inl z1)
    by_cases z2 : k = 1000002
    · exact Or.inr (Or.inr (Or.inl z2))
    by_cases z3 : k = 1000003
    · exact Or.inr (Or.inr (Or.inr z3))
    exfalso
    unfold bcS at hc
    rw [List.lookup_cons, List.lookup_cons, List.lookup_cons, List.lookup_cons, beq_false_of_ne z0, beq_false_of_ne z1, beq_false_of_ne z2, beq_false_of_ne z3] at hc
    cases hc
  have hj : ∃ j, j < 4 ∧ k = 1000000 + j := by
    rcases hk with rfl | rfl | rfl | rfl
    · exact ⟨0, by decide, rfl⟩
    · exact ⟨1, by decide, rfl⟩
    · exact ⟨2, by decide, rfl⟩
    · exact ⟨3, by decide, rfl⟩
  obtain ⟨j, hj, rfl⟩ := hj
  obtain ⟨e1, e2, e3, e4⟩ := hst j hj c hc
  obtain ⟨o1, o2⟩ := ho.2 (1000000 + j) (by omega)
  refine ⟨?_, fun i w hw => ?_, fun w hw => by rw [e3] at hw; cases hw⟩
  · rw [o1, e1, e2]
    unfold Kst
    rw [if_neg (by omega), if_pos (by omega), Nat.add_sub_cancel_left]
  · rw [e4, List.getElem?_map] at hw
    rw [o2 i]
    cases hq : (stV j)[i]? with
    | none => rw [hq] at hw; cases hw
    | some z =>
      rw [hq] at hw
      cases hw
      show Vst xs (1000000 + j) i = vI z
      unfold Vst
      rw [if_neg (by omega), if_pos (by omega), Nat.add_sub_cancel_left, List.getD_eq_getElem?_getD, hq]
      rfl
theorem FR_b {xs : Nat → Int} {h : AH} {box : List AW} {bs : List (List (Option AC))} (hok : okcs bs = true) (hf : FR 6 xs h) (hbox : ∀ i w, box[i]? = some w → ab_V w (vI (xs i))) : ab_H (bs, bx box) h := by
  obtain ⟨f1, f2, f3, f4⟩ := hf
  refine ⟨f1, f2, fun k c hc => ?_⟩
  unfold okcs at hok
  rw [Bool.and_eq_true, Bool.and_eq_true, decide_eq_true_eq, decide_eq_true_eq] at hok
  unfold gC at hc
  split at hc
  · have hc : (bs.getD (k / 19) []).getD (k % 19) none = some c := hc
    have hk : k < 93 := by
      rcases Nat.lt_or_ge k 93 with z | z
      · exact z
      · exfalso
        rcases Nat.lt_or_ge (k / 19) 5 with y | y
        · rw [show k / 19 = 4 by omega, List.getD_eq_getElem?_getD, List.getElem?_eq_none (by rw [hok.1.2]; omega)] at hc
          cases hc
        · rw [List.getD_eq_getElem?_getD (l := bs), List.getElem?_eq_none (by rw [hok.1.1]; omega)] at hc
          have hc : ([] : List (Option AC)).getD (k % 19) none = some c := hc
          rw [List.getD_eq_getElem?_getD, List.getElem?_nil] at hc
          cases hc
    have hq := List.all_eq_true.mp hok.2 k (List.mem_range.mpr hk)
    rw [hc] at hq
    exact okc_s (f4 k hk).1 (f4 k hk).2 hq
  · have hc : (bx box).lookup k = some c := hc
    by_cases z : k = 1000100
    · subst z
      have e : (bx box).lookup 1000100 = some (20, 6, box, none) := by
        unfold bx
        rw [List.lookup_cons, beq_self_eq_true]
      rw [e] at hc
      cases hc
      obtain ⟨o1, o2⟩ := f3.2 1000100 (Nat.le_of_ble_eq_true rfl)
      refine ⟨o1, fun i w hw => ?_, fun w hw => by cases hw⟩
      rw [o2 i]
      exact hbox i w hw
    · unfold bx at hc
      rw [List.lookup_cons, beq_false_of_ne z] at hc
      exact bcS_s f3 hc
/-! one call: the class's up to its answer, then the reference's -/
def eqC (c1 c2 : AC) : Bool := decide (c1.1 = c2.1) && (decide (c1.2.1 = c2.2.1) && (decide (c1.2.2.1 = c2.2.2.1) && decide (c1.2.2.2 = c2.2.2.2)))
theorem eqC_s {c1 c2 : AC} (h : eqC c1 c2 = true) : c1 = c2 := by
  unfold eqC at h
  rw [Bool.and_eq_true, Bool.and_eq_true, Bool.and_eq_true, decide_eq_true_eq, decide_eq_true_eq, decide_eq_true_eq, decide_eq_true_eq] at h
  exact Prod.ext h.1 (Prod.ext h.2.1 (Prod.ext h.2.2.1 h.2.2.2))
def eqO : List (Option AC) → List (Option AC) → Bool
  | [], [] => true
  | none :: l, none :: l' => eqO l l'
  | some c :: l, some c' :: l' => eqC c c' && eqO l l'
  | _, _ => false
theorem eqO_s : ∀ {l l' : List (Option AC)}, eqO l l' = true → l = l'
  | [], [], _ => rfl
  | none :: l, none :: l', h => by rw [eqO_s (l := l) (l' := l') h]
  | some c :: l, some c' :: l', h => by
    have h : (eqC c c' && eqO l l') = true := h
    rw [Bool.and_eq_true] at h
    rw [eqC_s h.1, eqO_s h.2]
def eqZ : List (Nat × AC) → List (Nat × AC) → Bool
  | [], [] => true
  | c :: l, c' :: l' => (decide (c.1 = c'.1) && eqC c.2 c'.2) && eqZ l l'
  | _, _ => false
theorem eqZ_s : ∀ {l l' : List (Nat × AC)}, eqZ l l' = true → l = l'
  | [], [], _ => rfl
  | c :: l, c' :: l', h => by
    have h : ((decide (c.1 = c'.1) && eqC c.2 c'.2) && eqZ l l') = true := h
    rw [Bool.and_eq_true, Bool.and_eq_true, decide_eq_true_eq] at h
    rw [show c = c' from Prod.ext h.1.1 (eqC_s h.1.2), eqZ_s h.2]
def kS (box : List AW) (e : AW) (ls : List (Option AW)) (st : List AW) (b : BH) : Bool := decide (ls = lsx) && (decide (st = [e]) && (eqO (b.1.getD 4 []) bcM && eqZ b.2 (bx box)))
def ca_1 (nt : NT) (pc s : Nat) (box : List AW) (e : AW) : Bool := achk nt 1000000 s (kS box e) 1000 321 pc lsx [] (bc0, bx box) (fun _ _ => false)
def ca_2 (nt : NT) (s : Nat) (box : List AW) (e : AW) : Bool := achk nt 1000000 1000000 (fun _ _ _ => false) 1000 321 s lsx [e] (bc1, bx box) (fun r _ => decide (r = some (xI 1)))
theorem gC_1 {b : List (List (Option AC))} {z : List (Nat × AC)} {k : Nat} {c : AC} (hd : b.getD 4 [] = bcM) (hc : gC (bc1, z) k = some c) : gC (b, z) k = some c := by
  unfold gC at hc ⊢
  split
  · rename_i hk
    rw [if_pos hk] at hc
    have hc : (bc1.getD (k / 19) []).getD (k % 19) none = some c := hc
    show (b.getD (k / 19) []).getD (k % 19) none = some c
    have hnil : ∀ j, ([] : List (Option AC)).getD j none = none := fun j => by rw [List.getD_eq_getElem?_getD, List.getElem?_nil]; rfl
    by_cases y : k / 19 = 4
    · rw [y] at hc ⊢
      rw [hd]; exact hc
    · exfalso
      have e : bc1.getD (k / 19) [] = [] := by
        rcases Nat.lt_or_ge (k / 19) 4 with x | x
        · have : ∀ i, i < 4 → bc1.getD i [] = [] := fun i hi => by
            match i, hi with
            | 0, _ => rfl
            | 1, _ => rfl
            | 2, _ => rfl
            | 3, _ => rfl
            | n + 4, hi => exact absurd hi (by omega)
          exact this _ x
        · rw [List.getD_eq_getElem?_getD, List.getElem?_eq_none (show bc1.length ≤ k / 19 by show 5 ≤ k / 19; omega)]; rfl
      rw [e, hnil] at hc
      cases hc
  · rename_i hk
    rw [if_neg hk] at hc
    exact hc
theorem ca_2s {nt : NT} (hn : ab_N nt) {s : Nat} {box : List AW} {e : AW} {v : AV} {h : AH} (h2 : ca_2 nt s box e = true) (hb : ab_H (bc1, bx box) h) (hv : ab_V e v) : XP 1000 321 s lsc [v] h lwQ := by
  refine achk_s hn _ _ _ _ _ _ _ _ _ _ h2 lsc [v] h lwQ lsx_s ⟨_, _, rfl, hv, rfl⟩ hb (fun _ _ _ _ _ _ z => by cases z) (fun r b v h hr ho hb => ?_)
  have hr := of_decide_eq_true hr
  subst hr
  obtain ⟨u, rfl, hu⟩ := ho
  have hu : u = vI 1 := hu
  subst hu
  exact ⟨rfl, by rw [hb.1]; decide, by rw [hb.2.1]; decide⟩
theorem ca_s {nt : NT} (hn : ab_N nt) {pc s : Nat} {box : List AW} {e : AW} {h : AH} (h1 : ca_1 nt pc s box e = true) (h2 : ca_2 nt s box e = true) (hb : ab_H (bc0, bx box) h) : XP 1000 321 pc lsc [] h lwQ := by
  refine achk_s hn _ _ _ _ _ _ _ _ _ _ h1 lsc [] h lwQ lsx_s rfl hb (fun als ast b ls st h hk hl hs hb => ?_) (fun _ _ _ _ z => by cases z)
  unfold kS at hk
  rw [Bool.and_eq_true, Bool.and_eq_true, Bool.and_eq_true, decide_eq_true_eq, decide_eq_true_eq] at hk
  obtain ⟨rfl, rfl, hd, hz⟩ := hk
  have hd := eqO_s hd
  have hz := eqZ_s hz
  obtain ⟨v, vs, rfl, hv, hs⟩ := hs
  have hs : vs = [] := hs
  subst hs
  have hls : ls = lsc := by
    obtain ⟨a1, l1, rfl, ⟨u1, rfl, z1⟩, a2, l2, rfl, ⟨u2, rfl, z2⟩, a3, l3, rfl, ⟨u3, rfl, z3⟩, a4, l4, rfl, ⟨u4, rfl, z4⟩, z5⟩ := hl
    have z1 : u1 = _ := z1
    have z2 : u2 = _ := z2
    have z3 : u3 = _ := z3
    have z4 : u4 = _ := z4
    have z5 : l4 = [] := z5
    rw [z1, z2, z3, z4, z5]
  rw [hls]
  obtain ⟨b1, b2⟩ := b
  have hz : b2 = bx box := hz
  subst hz
  exact ca_2s hn h2 ⟨hb.1, hb.2.1, fun k c hc => hb.2.2 k c (gC_1 hd hc)⟩ hv
theorem ab_ex {x v : Int} (h : x = v) : ab_V (xI v) (.inl x) := by rw [h]; rfl
def ca_L (nt : NT) (pc s : Nat) (l : List (List AW × AW)) : Bool := l.all (fun q => ca_1 nt pc s q.1 q.2 && ca_2 nt s q.1 q.2)
theorem leaf {nt : NT} (hn : ab_N nt) {pc s : Nat} {l : List (List AW × AW)} (hck : ca_L nt pc s l = true) {xs : Nat → Int} {h : AH} (hf : FR 6 xs h) (i : Nat) {w0 w1 w2 w3 w4 w5 e : AW} (hi : l[i]? = some ([w0, w1, w2, w3, w4, w5], e))
    (h0 : ab_V w0 (vI (xs 0))) (h1 : ab_V w1 (vI (xs 1))) (h2 : ab_V w2 (vI (xs 2))) (h3 : ab_V w3 (vI (xs 3))) (h4 : ab_V w4 (vI (xs 4))) (h5 : ab_V w5 (vI (xs 5))) : XP 1000 321 pc lsc [] h lwQ := by
  have hq := List.all_eq_true.mp hck _ (List.mem_of_getElem? hi)
  rw [Bool.and_eq_true] at hq
  refine ca_s hn hq.1 hq.2 (FR_b okcs_0 hf fun j w hw => ?_)
  match j, hw with
  | 0, hw => cases hw; exact h0
  | 1, hw => cases hw; exact h1
  | 2, hw => cases hw; exact h2
  | 3, hw => cases hw; exact h3
  | 4, hw => cases hw; exact h4
  | 5, hw => cases hw; exact h5
  | n + 6, hw => cases hw
