/-! what is known of the heap -/
abbrev AC : Type := Nat × Nat × List AW × Option AW
abbrev BH : Type := List (List (Option AC)) × List (Nat × AC)
def gC (b : BH) (k : Nat) : Option AC := if k < 1000000 then (b.1.getD (k / 19) []).getD (k % 19) none else b.2.lookup k
def sC (b : BH) (k : Nat) (c : AC) : BH := (b.1.set (k / 19) ((b.1.getD (k / 19) []).set (k % 19) (some c)), b.2)
def ab_C (h : AH) (k : Nat) (c : AC) : Prop := hK h k = (c.1, c.2.1) ∧ (∀ i w, c.2.2.1[i]? = some w → ab_V w (hV h k i)) ∧ (∀ w, c.2.2.2 = some w → ∀ i, c.2.2.1.length ≤ i → i < c.2.1 → ab_V w (hV h k i))
def ab_H (b : BH) (h : AH) : Prop := hN h = 93 ∧ hS h = 32805 ∧ ∀ k c, gC b k = some c → ab_C h k c
theorem getD_set {α : Type} (l : List α) (i j : Nat) (v d : α) : (l.set i v).getD j d = if i = j then (if i < l.length then v else d) else l.getD j d := by
  rw [List.getD_eq_getElem?_getD, List.getElem?_set]
  split
  · split
    · rfl
    · rfl
  · rw [← List.getD_eq_getElem?_getD]
theorem gC_sC {b : BH} {k k' : Nat} {c c' : AC} (hk : k < 1000000) (h : gC (sC b k c) k' = some c') : (k' = k ∧ c' = c) ∨ (k' ≠ k ∧ gC b k' = some c') := by
  unfold gC sC at h
  dsimp only at h
  unfold gC
  by_cases hx : k' < 1000000
  · rw [if_pos hx] at h ⊢
    rw [getD_set] at h
    by_cases e : k / 19 = k' / 19
    · rw [if_pos e] at h
      by_cases e2 : k / 19 < b.1.length
      · rw [if_pos e2, getD_set] at h
        by_cases e3 : k % 19 = k' % 19
        · rw [if_pos e3] at h
          left
          split at h
          · exact ⟨by omega, (Option.some.inj h).symm⟩
          · cases h
        · rw [if_neg e3] at h
          right
          rw [e] at h
          exact ⟨fun z => e3 (by rw [z]), h⟩
      · rw [if_neg e2] at h
        have h : ([] : List (Option AC)).getD (k' % 19) none = some c' := h
        rw [List.getD_eq_getElem?_getD, List.getElem?_nil] at h
        cases h
    · rw [if_neg e] at h
      right
      exact ⟨fun z => e (by rw [z]), h⟩
  · rw [if_neg hx] at h ⊢
    right
    exact ⟨by omega, h⟩
theorem ab_H_to {b : BH} {h h' : AH} {k : Nat} {c : AC} (hb : ab_H b h) (hk : k < 1000000) (hn : hN h' = hN h) (hs : hS h' = hS h) (hKK : hK h' = hK h) (hV' : ∀ k', k' ≠ k → ∀ i, hV h' k' i = hV h k' i) (hc : ab_C h' k c) : ab_H (sC b k c) h' := by
  refine ⟨by rw [hn]; exact hb.1, by rw [hs]; exact hb.2.1, fun k' c' e => ?_⟩
  rcases gC_sC hk e with ⟨rfl, rfl⟩ | ⟨hne, e⟩
  · exact hc
  · obtain ⟨q1, q2, q3⟩ := hb.2.2 k' c' e
    exact ⟨by rw [hKK]; exact q1, fun i w hw => by rw [hV' k' hne]; exact q2 i w hw, fun w hw i h1 h2 => by rw [hV' k' hne]; exact q3 w hw i h1 h2⟩
theorem hV_set_ne {h : AH} {r i : Nat} {v : AV} {a j : Nat} (hne : a ≠ r ∨ j ≠ i) : hV (hSet h r i v) a j = hV h a j := by
  rw [hV_eq]
  exact if_neg (fun z => hne.elim (fun q => q z.1) (fun q => q z.2))
theorem hV_set_at {h : AH} {r i : Nat} {v : AV} : hV (hSet h r i v) r i = v := by rw [hV_eq]; exact if_pos ⟨rfl, rfl⟩
theorem ab_C_set {h : AH} {k i : Nat} {c : AC} {w : AW} {v : AV} (hc : ab_C h k c) (hw : ab_V w v) (hi : i < c.2.2.1.length) : ab_C (hSet h k i v) k (c.1, c.2.1, c.2.2.1.set i w, c.2.2.2) := by
  refine ⟨hc.1, fun j w' e => ?_, fun w' e j h1 h2 => ?_⟩
  · have e : (c.2.2.1.set i w)[j]? = some w' := e
    by_cases z : j = i
    · subst z
      rw [List.getElem?_set, if_pos rfl, if_pos hi] at e
      cases e
      rw [hV_set_at]; exact hw
    · rw [List.getElem?_set_ne (fun q => z q.symm)] at e
      rw [hV_set_ne (Or.inr z)]; exact hc.2.1 j w' e
  · have h1 : (c.2.2.1.set i w).length ≤ j := h1
    rw [List.length_set] at h1
    rw [hV_set_ne (Or.inr (by omega))]
    exact hc.2.2 w' e j h1 h2
theorem ab_H_set {b : BH} {h : AH} {k i : Nat} {c : AC} {w : AW} {v : AV} (hb : ab_H b h) (hk : k < 1000000) (hg : gC b k = some c) (hw : ab_V w v) (hi : i < c.2.2.1.length) : ab_H (sC b k (c.1, c.2.1, c.2.2.1.set i w, c.2.2.2)) (hSet h k i v) :=
  ab_H_to hb hk rfl rfl rfl (fun k' hne i' => hV_set_ne (Or.inl hne)) (ab_C_set (hb.2.2 k c hg) hw hi)
theorem ab_H_un {b : BH} {h : AH} {k i : Nat} {c : AC} {v : AV} (hb : ab_H b h) (hg : gC b k = some c) (hi : c.2.2.1.length ≤ i) (hv : ∀ w, c.2.2.2 = some w → ab_V w v) : ab_H b (hSet h k i v) := by
  refine ⟨hb.1, hb.2.1, fun k' c' e => ?_⟩
  obtain ⟨q1, q2, q3⟩ := hb.2.2 k' c' e
  by_cases z : k' = k
  · subst z
    rw [hg] at e
    cases e
    refine ⟨q1, fun j w hw => ?_, fun w hw j h1 h2 => ?_⟩
    · have hj : j < c.2.2.1.length := by
        rcases Nat.lt_or_ge j c.2.2.1.length with q | q
        · exact q
        · rw [List.getElem?_eq_none q] at hw; cases hw
      rw [hV_set_ne (Or.inr (by omega))]; exact q2 j w hw
    · by_cases y : j = i
      · subst y; rw [hV_set_at]; exact hv w hw
      · rw [hV_set_ne (Or.inr y)]; exact q3 w hw j h1 h2
  · exact ⟨q1, fun j w hw => by rw [hV_set_ne (Or.inl z)]; exact q2 j w hw, fun w hw j h1 h2 => by rw [hV_set_ne (Or.inl z)]; exact q3 w hw j h1 h2⟩
def leW (w q : AW) : Bool := match q with
  | .inl v => (match w with
    | .inl u => decide (u = v)
    | .inr _ => false)
  | .inr q => isI w && decide (q.1 ≤ (rg w).1 ∧ (rg w).2 ≤ q.2)
theorem leW_s {w q : AW} {v : AV} (h : leW w q = true) (hv : ab_V w v) : ab_V q v := by
  match q, h with
  | .inl z, h =>
    match w, h, hv with
    | .inl u, h, hv =>
      have h : decide (u = z) = true := h
      rw [← of_decide_eq_true h]; exact hv
  | .inr q, h =>
    have h : (isI w && decide (q.1 ≤ (rg w).1 ∧ (rg w).2 ≤ q.2)) = true := h
    rw [Bool.and_eq_true, decide_eq_true_eq] at h
    obtain ⟨x, rfl⟩ := isI_s h.1 hv
    have := rg_s hv
    exact ⟨x, rfl, by omega, by omega⟩
def dfk (d : Option AW) (w : AW) : Bool := match d with
  | some q => leW w q
  | none => true
theorem dfk_s {d : Option AW} {w : AW} {v : AV} (h : dfk d w = true) (hv : ab_V w v) : ∀ q, d = some q → ab_V q v := by
  intro q e
  subst e
  exact leW_s h hv
def aSt (b : BH) (r : Nat) (c : AC) (wi w : AW) (go : BH → Bool) : Bool := match wi with
  | .inl (.inl i) => decide (0 ≤ i ∧ i < (c.2.1 : Int)) && (if i.toNat < c.2.2.1.length then go (sC b r (c.1, c.2.1, c.2.2.1.set i.toNat w, c.2.2.2)) else dfk c.2.2.2 w && go b)
  | .inr q => decide ((c.2.2.1.length : Int) ≤ q.1 ∧ q.2 < (c.2.1 : Int)) && (dfk c.2.2.2 w && go b)
  | _ => false
theorem aSt_s {b : BH} {h : AH} {r : Nat} {c : AC} {wi w : AW} {go : BH → Bool} {i : Int} {v : AV} (hh : aSt b r c wi w go = true) (hb : ab_H b h) (hg : gC b r = some c) (hr : r < 1000000) (hi : ab_V wi (.inl i)) (hw : ab_V w v) : inR i c.2.1 = true ∧ ∃ b', go b' = true ∧ ab_H b' (hSet h r i.toNat v) := by
  match wi, hh, hi with
  | .inl (.inl j), hh, hi =>
    have hi : (Sum.inl i : AV) = .inl j := hi
    cases hi
    have hh : (decide (0 ≤ i ∧ i < (c.2.1 : Int)) && (if i.toNat < c.2.2.1.length then go (sC b r (c.1, c.2.1, c.2.2.1.set i.toNat w, c.2.2.2)) else dfk c.2.2.2 w && go b)) = true := hh
    rw [Bool.and_eq_true] at hh
    refine ⟨hh.1, ?_⟩
    have h2 := hh.2
    split at h2
    · rename_i hl
      exact ⟨_, h2, ab_H_set hb hr hg hw hl⟩
    · rename_i hl
      rw [Bool.and_eq_true] at h2
      exact ⟨b, h2.2, ab_H_un hb hg (by omega) (dfk_s h2.1 hw)⟩
  | .inr q, hh, hi =>
    have hh : (decide ((c.2.2.1.length : Int) ≤ q.1 ∧ q.2 < (c.2.1 : Int)) && (dfk c.2.2.2 w && go b)) = true := hh
    rw [Bool.and_eq_true, Bool.and_eq_true, decide_eq_true_eq] at hh
    obtain ⟨x, e, h1, h2⟩ := hi
    cases e
    refine ⟨decide_eq_true (by omega), b, hh.2.2, ab_H_un hb hg (by omega) (dfk_s hh.2.1 hw)⟩
def aLd (c : AC) (wi : AW) : Option AW := match wi with
  | .inl (.inl i) => if 0 ≤ i ∧ i < (c.2.1 : Int) then (match c.2.2.1[i.toNat]? with
    | some w => some w
    | none => c.2.2.2) else none
  | .inr q => if (c.2.2.1.length : Int) ≤ q.1 ∧ q.2 < (c.2.1 : Int) then c.2.2.2 else none
  | _ => none
theorem aLd_s {h : AH} {r : Nat} {c : AC} {wi w : AW} {i : Int} (hh : aLd c wi = some w) (hc : ab_C h r c) (hi : ab_V wi (.inl i)) : inR i c.2.1 = true ∧ ab_V w (hV h r i.toNat) := by
  match wi, hh, hi with
  | .inl (.inl j), hh, hi =>
    have hi : (Sum.inl i : AV) = .inl j := hi
    cases hi
    have hh : (if 0 ≤ i ∧ i < (c.2.1 : Int) then (match c.2.2.1[i.toNat]? with
      | some w => some w
      | none => c.2.2.2) else none) = some w := hh
    split at hh
    · rename_i hl
      refine ⟨decide_eq_true hl, ?_⟩
      split at hh
      · rename_i w' e
        cases hh
        exact hc.2.1 _ _ e
      · rename_i e
        exact hc.2.2 w hh i.toNat (List.getElem?_eq_none_iff.mp e) (by omega)
    · cases hh
  | .inr q, hh, hi =>
    have hh : (if (c.2.2.1.length : Int) ≤ q.1 ∧ q.2 < (c.2.1 : Int) then c.2.2.2 else none) = some w := hh
    obtain ⟨x, e, h1, h2⟩ := hi
    cases e
    split at hh
    · exact ⟨decide_eq_true (by omega), hc.2.2 w hh i.toNat (by omega) (by omega)⟩
    · cases hh
theorem ab_H_cpy {b : BH} {h : AH} {r q n : Nat} {c1 c2 : AC} (hb : ab_H b h) (h1 : gC b r = some c1) (h2 : gC b q = some c2) (hk : q < 1000000) (hkd : c2.1 = c1.1) (hl1 : c1.2.1 = n) (hl2 : c2.2.1 = n) (hl : c1.2.2.1.length ≤ n) : ab_H (sC b q c1) (hCpy h r 0 q 0 n) := by
  refine ab_H_to hb hk rfl rfl rfl (fun k' hne i' => hV_cpy_ne hne) ?_
  have e1 := hb.2.2 r c1 h1
  have e2 := hb.2.2 q c2 h2
  have hv : ∀ i, i < n → hV (hCpy h r 0 q 0 n) q i = hV h r i := fun i hi => by
    have : hV (hCpy h r 0 q 0 n) q i = hV h r (0 + (i - 0)) := if_pos ⟨rfl, Nat.zero_le _, by omega⟩
    rw [this]; congr 1; omega
  refine ⟨?_, fun i w hw => ?_, fun w hw i g1 g2 => ?_⟩
  · rw [hK_cpy, e2.1, hkd, hl2, hl1]
  · have hi : i < c1.2.2.1.length := by
      rcases Nat.lt_or_ge i c1.2.2.1.length with z | z
      · exact z
      · rw [List.getElem?_eq_none z] at hw; cases hw
    rw [hv i (by omega)]; exact e1.2.1 i w hw
  · rw [hv i (by omega)]; exact e1.2.2 w hw i g1 g2
/-! numbers -/
def bI (b : Nat) (x y : Int × Int) : Option AW := match b with
  | 0 => if -2147483648 ≤ x.1 + y.1 ∧ x.2 + y.2 ≤ 2147483647 then some (.inr (x.1 + y.1, x.2 + y.2)) else none
  | 1 => if -2147483648 ≤ x.1 - y.2 ∧ x.2 - y.1 ≤ 2147483647 then some (.inr (x.1 - y.2, x.2 - y.1)) else none
  | 3 => some (.inr (-2147483648, 2147483647))
  | 7 => if 0 ≤ x.1 ∧ y.1 = y.2 ∧ 0 < y.1 then some (.inr (0, y.1 - 1)) else none
  | 9 => if y.1 = y.2 then some (.inr (x.1 / 2 ^ (y.1 % 32).toNat, x.2 / 2 ^ (y.1 % 32).toNat)) else none
  | _ => none
def bA (b : Nat) (wx wy : AW) : Option AW := match wx, wy with
  | .inl (.inl x), .inl (.inl y) => (binI b x y).map (fun z => .inl (.inl z))
  | _, _ => bI b (rg wx) (rg wy)
theorem bI_s {b : Nat} {p q : Int × Int} {w : AW} {x y : Int} (h : bI b p q = some w) (hx : p.1 ≤ x ∧ x ≤ p.2) (hy : q.1 ≤ y ∧ y ≤ q.2) : ∃ z, binI b x y = some z ∧ ab_V w (.inl z) := by
  unfold bI at h
  split at h
  · split at h
    · cases h
      exact ⟨_, rfl, ab_rg (by unfold w32; omega) (by unfold w32; omega)⟩
    · cases h
  · split at h
    · cases h
      exact ⟨_, rfl, ab_rg (by unfold w32; omega) (by unfold w32; omega)⟩
    · cases h
  · cases h
    refine ⟨_, rfl, ab_rg ?_ ?_⟩
    · exact BitVec.le_toInt _
    · have := BitVec.toInt_lt (x := BitVec.ofInt 32 x &&& BitVec.ofInt 32 y)
      show (BitVec.ofInt 32 x &&& BitVec.ofInt 32 y).toInt ≤ 2147483647
      omega
  · split at h
    · rename_i hc
      cases h
      have hy0 : y = q.1 := by omega
      subst hy0
      refine ⟨x.tmod q.1, ?_, ab_rg ?_ ?_⟩
      · show (if q.1 = 0 then none else some (x.tmod q.1)) = some (x.tmod q.1)
        rw [if_neg (by omega)]
      · rw [Int.tmod_eq_emod_of_nonneg (by omega)]; exact Int.emod_nonneg _ (by omega)
      · rw [Int.tmod_eq_emod_of_nonneg (by omega)]
        have := Int.emod_lt_of_pos x (show 0 < q.1 by omega)
        omega
    · cases h
  · split at h
    · rename_i hc
      cases h
      have hy0 : y = q.1 := by omega
      subst hy0
      have hp : (0 : Int) < 2 ^ (q.1 % 32).toNat := Int.pow_pos (by decide)
      exact ⟨_, rfl, ab_rg (Int.ediv_le_ediv hp hx.1) (Int.ediv_le_ediv hp hx.2)⟩
    · cases h
  · cases h
theorem bA_s {b : Nat} {wx wy w : AW} {x y : Int} (h : bA b wx wy = some w) (hx : ab_V wx (.inl x)) (hy : ab_V wy (.inl y)) : ∃ z, binI b x y = some z ∧ ab_V w (.inl z) := by
  unfold bA at h
  split at h
  · rename_i x' y'
    have hx : (Sum.inl x : AV) = .inl x' := hx
    have hy : (Sum.inl y : AV) = .inl y' := hy
    cases hx; cases hy
    cases e : binI b x y with
    | none => rw [e] at h; cases h
    | some z => rw [e] at h; cases h; exact ⟨z, rfl, rfl⟩
  · exact bI_s h (rg_s hx) (rg_s hy)
def cI (b : Nat) (x y : Int × Int) : Option Bool := match b with
  | 0 => if x.2 < y.1 ∨ y.2 < x.1 then some false else none
  | 1 => if x.2 < y.1 ∨ y.2 < x.1 then some true else none
  | 2 => if x.2 < y.1 then some true else if y.2 ≤ x.1 then some false else none
  | 3 => if x.2 < y.1 then some false else if y.2 ≤ x.1 then some true else none
  | 4 => if y.2 < x.1 then some true else if x.2 ≤ y.1 then some false else none
  | 5 => if y.2 < x.1 then some false else if x.2 ≤ y.1 then some true else none
  | _ => none
def cA (b : Nat) (wx wy : AW) : Option Bool := match wx, wy with
  | .inl (.inl x), .inl (.inl y) => some (cmpB b x y)
  | _, _ => cI b (rg wx) (rg wy)
theorem cI_s {b : Nat} {p q : Int × Int} {t : Bool} {x y : Int} (h : cI b p q = some t) (hx : p.1 ≤ x ∧ x ≤ p.2) (hy : q.1 ≤ y ∧ y ≤ q.2) : cmpB b x y = t := by
  unfold cI at h
  split at h
  · split at h
    · cases h; exact decide_eq_false (by omega)
    · cases h
  · split at h
    · cases h; exact decide_eq_true (by omega)
    · cases h
  · split at h
    · cases h; exact decide_eq_true (by omega)
    · split at h
      · cases h; exact decide_eq_false (by omega)
      · cases h
  · split at h
    · cases h; exact decide_eq_false (by omega)
    · split at h
      · cases h; exact decide_eq_true (by omega)
      · cases h
  · split at h
    · cases h; exact decide_eq_true (by omega)
    · split at h
      · cases h; exact decide_eq_false (by omega)
      · cases h
  · split at h
    · cases h; exact decide_eq_false (by omega)
    · split at h
      · cases h; exact decide_eq_true (by omega)
      · cases h
  · cases h
theorem cA_s {b : Nat} {wx wy : AW} {t : Bool} {x y : Int} (h : cA b wx wy = some t) (hx : ab_V wx (.inl x)) (hy : ab_V wy (.inl y)) : cmpB b x y = t := by
  unfold cA at h
  split at h
  · rename_i x' y'
    have hx : (Sum.inl x : AV) = .inl x' := hx
    have hy : (Sum.inl y : AV) = .inl y' := hy
    cases hx; cases hy
    exact Option.some.inj h
  · exact cI_s h (rg_s hx) (rg_s hy)
def cT (o : Option Bool) (x y : Bool) : Bool := match o with
  | some true => x
  | some false => y
  | none => x && y
theorem cT_s {o : Option Bool} {x y : Bool} {t : Bool} {P R : Prop} (h : cT o x y = true) (ho : ∀ u, o = some u → t = u) (hx : x = true → P) (hy : y = true → R) : if t = true then P else R := by
  match o, h, ho with
  | some true, h, ho => rw [ho true rfl, if_pos rfl]; exact hx h
  | some false, h, ho => rw [ho false rfl, if_neg (by decide)]; exact hy h
  | none, h, _ =>
    have h : (x && y) = true := h
    rw [Bool.and_eq_true] at h
    split
    · exact hx h.1
    · exact hy h.2
def swA (w : AW) (d : Nat) (sw : List (Int × Nat)) : Option Nat := match w with
  | .inl (.inl x) => some (swF x d sw)
  | .inr q => if sw.all (fun e => decide (e.1 < q.1 ∨ q.2 < e.1)) then some d else none
  | _ => none
theorem swF_d {x : Int} {d : Nat} {sw : List (Int × Nat)} (h : ∀ e ∈ sw, x ≠ e.1) : swF x d sw = d := by
  induction sw with
  | nil => rfl
  | cons e sw ih =>
    obtain ⟨k, t⟩ := e
    show (if x = k then t else swF x d sw) = d
    rw [if_neg (h (k, t) List.mem_cons_self)]
    exact ih (fun e he => h e (List.mem_cons_of_mem _ he))
theorem swA_s {w : AW} {d pc : Nat} {sw : List (Int × Nat)} {x : Int} (h : swA w d sw = some pc) (hx : ab_V w (.inl x)) : swF x d sw = pc := by
  match w, h, hx with
  | .inl (.inl y), h, hx =>
    have hx : (Sum.inl x : AV) = .inl y := hx
    cases hx
    exact Option.some.inj h
  | .inr q, h, hx =>
    have h : (if sw.all (fun e => decide (e.1 < q.1 ∨ q.2 < e.1)) then some d else none) = some pc := h
    split at h
    · rename_i ha
      cases h
      obtain ⟨z, e, h1, h2⟩ := hx
      cases e
      refine swF_d fun e he => ?_
      have := of_decide_eq_true (List.all_eq_true.mp ha e he)
      omega
    · cases h
def mxA (wx wy : AW) : AW := match wx, wy with
  | .inl (.inl x), .inl (.inl y) => .inl (.inl (max x y))
  | _, _ => .inr (max (rg wx).1 (rg wy).1, max (rg wx).2 (rg wy).2)
def mnA (wx wy : AW) : AW := match wx, wy with
  | .inl (.inl x), .inl (.inl y) => .inl (.inl (min x y))
  | _, _ => .inr (min (rg wx).1 (rg wy).1, min (rg wx).2 (rg wy).2)
theorem mxA_s {wx wy : AW} {x y : Int} (hx : ab_V wx (.inl x)) (hy : ab_V wy (.inl y)) : ab_V (mxA wx wy) (.inl (max x y)) := by
  unfold mxA
  split
  · rename_i x' y'
    have hx : (Sum.inl x : AV) = .inl x' := hx
    have hy : (Sum.inl y : AV) = .inl y' := hy
    cases hx; cases hy
    exact rfl
  · have h1 := rg_s hx
    have h2 := rg_s hy
    exact ab_rg (by omega) (by omega)
theorem mnA_s {wx wy : AW} {x y : Int} (hx : ab_V wx (.inl x)) (hy : ab_V wy (.inl y)) : ab_V (mnA wx wy) (.inl (min x y)) := by
  unfold mnA
  split
  · rename_i x' y'
    have hx : (Sum.inl x : AV) = .inl x' := hx
    have hy : (Sum.inl y : AV) = .inl y' := hy
    cases hx; cases hy
    exact rfl
  · have h1 := rg_s hx
    have h2 := rg_s hy
    exact ab_rg (by omega) (by omega)
def okFA (k : Int) (w : AW) : Bool := match w with
  | .inl v => okF k v
  | .inr _ => decide (k = 0)
theorem okFA_s {k : Int} {w : AW} {v : AV} (h : okFA k w = true) (hv : ab_V w v) : okF k v = true := by
  match w, h, hv with
  | .inl u, h, hv => have hv : v = u := hv; rw [hv]; exact h
  | .inr q, h, hv =>
    obtain ⟨x, rfl, -, -⟩ := hv
    have h : k = 0 := of_decide_eq_true h
    rw [h]; rfl
def is01A (w : AW) : Bool := match w with
  | .inl (.inl x) => is01 x
  | .inr q => decide (0 ≤ q.1 ∧ q.2 ≤ 1)
  | _ => false
theorem is01A_s {w : AW} {x : Int} (h : is01A w = true) (hv : ab_V w (.inl x)) : is01 x = true := by
  match w, h, hv with
  | .inl (.inl y), h, hv =>
    have hv : (Sum.inl x : AV) = .inl y := hv
    cases hv; exact h
  | .inr q, h, hv =>
    obtain ⟨z, e, h1, h2⟩ := hv
    cases e
    have h : 0 ≤ q.1 ∧ q.2 ≤ 1 := of_decide_eq_true h
    exact decide_eq_true (by omega)
def oA (o : Option AW) (k : AW → Bool) : Bool := match o with
  | some w => k w
  | none => false
theorem oA_s {o : Option AW} {k : AW → Bool} (h : oA o k = true) : ∃ w, o = some w ∧ k w = true := by
  cases o with
  | none => cases h
  | some w => exact ⟨w, rfl, h⟩
def oB (o : Option Int) (k : Int → Bool) : Bool := match o with
  | some w => k w
  | none => false
theorem oB_s {o : Option Int} {k : Int → Bool} {k' : Int → Prop} (h : oB o k = true) (hk : ∀ z, k z = true → k' z) : oI False o k' := by
  cases o with
  | none => cases h
  | some w => exact hk w h
def oP (o : Option Nat) (k : Nat → Bool) : Bool := match o with
  | some w => k w
  | none => false
theorem oP_s {o : Option Nat} {k : Nat → Bool} (h : oP o k = true) : ∃ w, o = some w ∧ k w = true := by
  cases o with
  | none => cases h
  | some w => exact ⟨w, rfl, h⟩
def aC (b : BH) (r : Nat) (k : AC → Bool) : Bool := match gC b r with
  | some c => k c
  | none => false
theorem aC_s {b : BH} {r : Nat} {k : AC → Bool} (h : aC b r k = true) : ∃ c, gC b r = some c ∧ k c = true := by
  unfold aC at h
  split at h
  · rename_i c e; exact ⟨c, e, h⟩
  · cases h
