/-! what is known of the heap, with names -/
abbrev HV : Type := SV ⊕ ((Bool × Int × Int) ⊕ List Nat)
/-- from, up to, a period, what numbers stand there by the place in the period -/
abbrev RG : Type := Nat × Nat × Nat × List (Bool × Int × Int)
abbrev SC : Type := Nat × Nat × List HV × List RG
abbrev SB : Type := List (List (Option SC)) × List (Nat × SC)
def inRg (q : Bool × Int × Int) (v : AV) : Prop := ∃ x, v = vN_ q.1 x ∧ q.2.1 ≤ x ∧ x ≤ q.2.2
def n_W (n : Nat) (ρ : Nat → Int) (e : HV) (v : AV) : Prop := match e with
  | .inl w => n_V n ρ w v
  | .inr (.inl q) => inRg q v
  | .inr (.inr ks) => ∃ k, k ∈ ks ∧ v = vR k
def n_G (h : AH) (k : Nat) (r : RG) : Prop := ∀ i q, r.1 ≤ i → i < r.2.1 → r.2.2.2[i % r.2.2.1]? = some q → inRg q (hV h k i)
def n_C (n : Nat) (ρ : Nat → Int) (h : AH) (k : Nat) (c : SC) : Prop := hK h k = (c.1, c.2.1) ∧ (∀ i e, c.2.2.1[i]? = some e → n_W n ρ e (hV h k i)) ∧ ∀ r, r ∈ c.2.2.2 → c.2.2.1.length ≤ r.1 ∧ n_G h k r
noncomputable def gS (b : SB) (k : Nat) : Option SC := bif Nat.ble 1000000 k then b.2.lookup k else match nth b.1 (k / 19) with
  | some l => (match nth l (k % 19) with
    | some c => c
    | none => none)
  | none => none
noncomputable def sS (b : SB) (k : Nat) (c : SC) : SB := match nth b.1 (k / 19) with
  | some l => (setF b.1 (k / 19) (setF l (k % 19) (some c)), b.2)
  | none => b
def n_H (n : Nat) (ρ : Nat → Int) (b : SB) (h : AH) : Prop := hN h = 93 ∧ hS h = 32805 ∧ ∀ k c, gS b k = some c → n_C n ρ h k c
theorem gS_sS {b : SB} {k k' : Nat} {c c' : SC} (h : gS (sS b k c) k' = some c') : (k' = k ∧ c' = c) ∨ gS b k' = some c' ∧ (k < 1000000 → k' ≠ k ∨ gS b k = none) := by
  unfold sS at h
  split at h
  · rename_i l hl
    rw [nth_eq] at hl
    unfold gS at h ⊢
    cases hb : Nat.ble 1000000 k' with
    | true =>
      rw [hb, cnd_t] at h
      rw [cnd_t]
      right
      refine ⟨h, fun hk => Or.inl ?_⟩
      have := Nat.le_of_ble_eq_true hb
      omega
    | false =>
      rw [hb, cnd_f] at h
      rw [cnd_f]
      have hk' : ¬ 1000000 ≤ k' := fun z => by rw [Nat.ble_eq_true_of_le z] at hb; cases hb
      dsimp only at h
      rw [setF_eq, nth_eq, List.getElem?_set] at h
      by_cases e1 : k / 19 = k' / 19
      · rw [if_pos e1] at h
        have hlt : k / 19 < b.1.length := by
          rcases Nat.lt_or_ge (k / 19) b.1.length with z | z
          · exact z
          · rw [List.getElem?_eq_none z] at hl; cases hl
        rw [if_pos hlt] at h
        dsimp only at h
        rw [setF_eq, nth_eq, List.getElem?_set] at h
        by_cases e2 : k % 19 = k' % 19
        · rw [if_pos e2] at h
          left
          by_cases e3 : k % 19 < l.length
          · rw [if_pos e3] at h
            have h : some c = some c' := h
            exact ⟨by omega, (Option.some.inj h).symm⟩
          · rw [if_neg e3] at h
            cases h
        · rw [if_neg e2] at h
          right
          refine ⟨?_, fun _ => Or.inl (by omega)⟩
          rw [nth_eq, ← e1, hl]
          dsimp only
          rw [nth_eq]
          exact h
      · rw [if_neg e1] at h
        right
        refine ⟨?_, fun _ => Or.inl (fun z => e1 (by rw [z]))⟩
        rw [nth_eq]
        exact h
  · rename_i hl
    right
    refine ⟨h, fun hk => ?_⟩
    right
    unfold gS
    rw [hl]
    cases hb : Nat.ble 1000000 k with
    | true => have := Nat.le_of_ble_eq_true hb; omega
    | false => rw [cnd_f]
theorem inRg_le {q q' : Bool × Int × Int} {v : AV} (h : inRg q v) (h0 : q'.1 = q.1) (h1 : q'.2.1 ≤ q.2.1) (h2 : q.2.2 ≤ q'.2.2) : inRg q' v := by
  obtain ⟨x, rfl, a, b⟩ := h
  exact ⟨x, by rw [h0], by omega, by omega⟩
theorem n_W_x {n n' : Nat} {ρ ρ' : Nat → Int} {e : HV} {v : AV} (hx : n_X n ρ n' ρ') (h : n_W n ρ e v) : n_W n' ρ' e v := by
  match e, h with
  | .inl w, h => exact n_V_x hx h
  | .inr (.inl q), h => exact h
  | .inr (.inr ks), h => exact h
theorem n_C_x {n n' : Nat} {ρ ρ' : Nat → Int} {h : AH} {k : Nat} {c : SC} (hx : n_X n ρ n' ρ') (hc : n_C n ρ h k c) : n_C n' ρ' h k c := ⟨hc.1, fun i e he => n_W_x hx (hc.2.1 i e he), hc.2.2⟩
theorem n_H_x {n n' : Nat} {ρ ρ' : Nat → Int} {h : AH} {b : SB} (hx : n_X n ρ n' ρ') (hb : n_H n ρ b h) : n_H n' ρ' b h := ⟨hb.1, hb.2.1, fun k c hc => n_C_x hx (hb.2.2 k c hc)⟩
/-! an entry is looked at -/
noncomputable def setE (c : SC) (i : Nat) (e : HV) : SC := (c.1, c.2.1, setF c.2.2.1 i e, c.2.2.2)
noncomputable def aLL {α : Type} (l : List α) (p : α → Bool) : Bool := List.rec true (fun a _ ih => p a && ih) l
theorem aLL_s {α : Type} {l : List α} {p : α → Bool} (h : aLL l p = true) : ∀ a, a ∈ l → p a = true := by
  induction l with
  | nil => intro a ha; cases ha
  | cons b l ih =>
    have h : (p b && aLL l p) = true := h
    rw [Bool.and_eq_true] at h
    intro a ha
    rcases List.mem_cons.mp ha with rfl | ha
    · exact h.1
    · exact ih h.2 a ha
noncomputable def ldE (n : Nat) (E : EV) (b : SB) (k : Nat) (c : SC) (i : Nat) (go : Nat → EV → SB → SV → Bool) : Bool := match nth c.2.2.1 i with
  | none => false
  | some (.inl w) => go n E b w
  | some (.inr (.inl q)) => mkN q.1 n E q.2.1 q.2.2 1 fun n E w => go n E (sS b k (setE c i (.inl w))) w
  | some (.inr (.inr ks)) => aLL ks fun j => go n E (sS b k (setE c i (.inl (yR j)))) (yR j)
theorem n_C_setE {n : Nat} {ρ : Nat → Int} {h : AH} {k i : Nat} {c : SC} {e : HV} (hc : n_C n ρ h k c) (he : n_W n ρ e (hV h k i)) : n_C n ρ h k (setE c i e) := by
  refine ⟨hc.1, fun j f hf => ?_, fun r hr => ?_⟩
  · have hf2 : (setF c.2.2.1 i e)[j]? = some f := hf
    rw [setF_eq, List.getElem?_set] at hf2
    by_cases z : i = j
    · rw [if_pos z] at hf2
      rw [← z]
      split at hf2
      · cases hf2; exact he
      · cases hf2
    · rw [if_neg z] at hf2
      exact hc.2.1 j f hf2
  · have := hc.2.2 r hr
    refine ⟨?_, this.2⟩
    show (setF c.2.2.1 i e).length ≤ r.1
    rw [setF_eq, List.length_set]
    exact this.1
theorem n_H_setE {n : Nat} {ρ : Nat → Int} {h : AH} {b : SB} {k i : Nat} {c : SC} {e : HV} (hb : n_H n ρ b h) (hg : gS b k = some c) (he : n_W n ρ e (hV h k i)) : n_H n ρ (sS b k (setE c i e)) h := by
  refine ⟨hb.1, hb.2.1, fun k' c' hc' => ?_⟩
  rcases gS_sS hc' with ⟨rfl, rfl⟩ | ⟨hq, -⟩
  · exact n_C_setE (hb.2.2 _ c hg) he
  · exact hb.2.2 k' c' hq
theorem ldE_s {n : Nat} {E : EV} {ρ : Nat → Int} {b : SB} {k i : Nat} {c : SC} {h : AH} {go : Nat → EV → SB → SV → Bool} (hh : ldE n E b k c i go = true) (hE : n_E n E ρ) (hb : n_H n ρ b h) (hg : gS b k = some c) : ∃ n' ρ' E' b' w, go n' E' b' w = true ∧ n_X n ρ n' ρ' ∧ n_E n' E' ρ' ∧ n_H n' ρ' b' h ∧ n_V n' ρ' w (hV h k i) := by
  have hC := hb.2.2 k c hg
  unfold ldE at hh
  split at hh
  · cases hh
  · rename_i w hw
    rw [nth_eq] at hw
    exact ⟨n, ρ, E, b, w, hh, n_X_r, hE, hb, hC.2.1 i _ hw⟩
  · rename_i q hq
    rw [nth_eq] at hq
    obtain ⟨x, hx, x1, x2⟩ := hC.2.1 i _ hq
    obtain ⟨n', ρ', E', w, g1, g2, g3, g4⟩ := mkN_s hh hE x1 x2 (Int.one_dvd x)
    rw [← hx] at g4
    exact ⟨n', ρ', E', _, w, g1, g2, g3, n_H_setE (n_H_x g2 hb) hg g4, g4⟩
  · rename_i ks hq
    rw [nth_eq] at hq
    obtain ⟨j, hj, hx⟩ := hC.2.1 i _ hq
    have := aLL_s hh j hj
    have hv : n_V n ρ (yR j) (hV h k i) := by rw [hx]; exact n_yR j
    exact ⟨n, ρ, E, _, yR j, this, n_X_r, hE, n_H_setE hb hg hv, hv⟩
/-! an entry is written -/
def inMd (md : List (Nat × Nat × Nat)) (k i : Nat) : Prop := ∃ q, q ∈ md ∧ q.1 = k ∧ q.2.1 ≤ i ∧ i ≤ q.2.2
noncomputable def okMd (md : List (Nat × Nat × Nat)) (k l u : Nat) : Bool := List.rec false (fun q _ ih => (Nat.beq q.1 k && (Nat.ble q.2.1 l && Nat.ble u q.2.2)) || ih) md
theorem okMd_s {md : List (Nat × Nat × Nat)} {k l u i : Nat} (h : okMd md k l u = true) (h1 : l ≤ i) (h2 : i ≤ u) : inMd md k i := by
  induction md with
  | nil => cases h
  | cons q md ih =>
    have h : ((Nat.beq q.1 k && (Nat.ble q.2.1 l && Nat.ble u q.2.2)) || okMd md k l u) = true := h
    rw [Bool.or_eq_true, Bool.and_eq_true, Bool.and_eq_true] at h
    rcases h with ⟨a, b, c⟩ | h
    · have a := Nat.eq_of_beq_eq_true a
      have b := Nat.le_of_ble_eq_true b
      have c := Nat.le_of_ble_eq_true c
      exact ⟨q, List.mem_cons_self, a, by omega, by omega⟩
    · obtain ⟨q', a, b⟩ := ih h
      exact ⟨q', List.mem_cons_of_mem _ a, b⟩
/-- entries of which something more is known than numbers: only known calls write there -/
def wS0 : List (Nat × Nat × Nat) := [(77, 5, 5), (77, 7, 7), (77, 84, 473), (78, 0, 9834), (79, 0, 3012)]
def FrW (W : AH → Prop) : Prop := ∀ h h' : AH, (∀ k i, inMd wS0 k i → hV h' k i = hV h k i) → W h → W h'
noncomputable def okW (k l u : Nat) : Bool := aLL wS0 fun q => !Nat.beq q.1 k || (Nat.ble (q.2.2 + 1) l || Nat.ble (u + 1) q.2.1)
theorem okW_s {k l u i : Nat} (h : okW k l u = true) (h1 : l ≤ i) (h2 : i ≤ u) : ¬ inMd wS0 k i := by
  rintro ⟨q, q1, q2, q3, q4⟩
  have := aLL_s h q q1
  rw [Bool.or_eq_true, Bool.or_eq_true, ble_d, ble_d, decide_eq_true_eq, decide_eq_true_eq, beq_d, decide_eq_true q2] at this
  rcases this with z | z | z
  · cases z
  · omega
  · omega
theorem W_set {W : AH → Prop} (hW : FrW W) {h : AH} {k i : Nat} {v : AV} (hw : W h) (ho : ¬ inMd wS0 k i ∨ hV h k i = v) : W (hSet h k i v) := by
  refine hW h _ (fun k' i' hin => ?_) hw
  rw [hV_eq]
  split
  · rename_i z
    rw [z.1, z.2] at hin ⊢
    rcases ho with ho | ho
    · exact absurd hin ho
    · exact ho.symm
  · rfl
/-- nothing but this was written -/
def n_F (W : AH → Prop) (md : List (Nat × Nat × Nat)) (h0 h : AH) : Prop := (hK h = hK h0 ∧ W h) ∧ ∀ k i, ¬ inMd md k i → hV h k i = hV h0 k i
theorem n_F_r {W : AH → Prop} {md : List (Nat × Nat × Nat)} {h : AH} (hw : W h) : n_F W md h h := ⟨⟨rfl, hw⟩, fun _ _ _ => rfl⟩
theorem n_F_set {W : AH → Prop} (hW : FrW W) {md : List (Nat × Nat × Nat)} {h0 h : AH} {k i : Nat} {v : AV} (hf : n_F W md h0 h) (hm : inMd md k i) (ho : ¬ inMd wS0 k i ∨ hV h k i = v) : n_F W md h0 (hSet h k i v) := by
  refine ⟨⟨hf.1.1, W_set hW hf.1.2 ho⟩, fun k' i' hn => ?_⟩
  rw [hV_eq, if_neg (fun z => hn (by rw [z.1, z.2]; exact hm))]
  exact hf.2 k' i' hn
theorem n_H_eq {n : Nat} {ρ : Nat → Int} {b : SB} {h h' : AH} (h1 : hN h' = hN h) (h2 : hS h' = hS h) (h3 : hK h' = hK h) (h4 : ∀ k i, hV h' k i = hV h k i) (hb : n_H n ρ b h) : n_H n ρ b h' := by
  refine ⟨by rw [h1]; exact hb.1, by rw [h2]; exact hb.2.1, fun k c hc => ?_⟩
  have hC := hb.2.2 k c hc
  exact ⟨by rw [h3]; exact hC.1, fun i e he => by rw [h4]; exact hC.2.1 i e he, fun r hr => ⟨(hC.2.2 r hr).1, fun i q i1 i2 hq => by rw [h4]; exact (hC.2.2 r hr).2 i q i1 i2 hq⟩⟩
def eqAV (u v : AV) : Bool := match u, v with
  | .inl x, .inl y => eqI x y
  | .inr (.inl x), .inr (.inl y) => eqI x y
  | .inr (.inr (some x)), .inr (.inr (some y)) => Nat.beq x y
  | .inr (.inr none), .inr (.inr none) => true
  | _, _ => false
theorem eqAV_s {u v : AV} (h : eqAV u v = true) : u = v := by
  match u, v, h with
  | .inl x, .inl y, h => have h : eqI x y = true := h; rw [eqI_eq, decide_eq_true_eq] at h; rw [h]
  | .inr (.inl x), .inr (.inl y), h => have h : eqI x y = true := h; rw [eqI_eq, decide_eq_true_eq] at h; rw [h]
  | .inr (.inr (some x)), .inr (.inr (some y)), h => have h := Nat.eq_of_beq_eq_true h; rw [h]
  | .inr (.inr none), .inr (.inr none), _ => rfl
def eqSV (w w' : SV) : Bool := match w, w' with
  | .inl u, .inl v => eqAV u v
  | .inr (false, i, o), .inr (false, i', o') => Nat.beq i i' && eqI o o'
  | _, _ => false
theorem eqSV_s {w w' : SV} (h : eqSV w w' = true) : w = w' := by
  match w, w', h with
  | .inl u, .inl v, h => have h : eqAV u v = true := h; rw [eqAV_s h]
  | .inr (false, i, o), .inr (false, i', o'), h =>
    have h : (Nat.beq i i' && eqI o o') = true := h
    rw [Bool.and_eq_true, eqI_eq, decide_eq_true_eq] at h
    rw [Nat.eq_of_beq_eq_true h.1, h.2]
theorem n_H_set {n : Nat} {ρ : Nat → Int} {h : AH} {b : SB} {k i : Nat} {c : SC} {w : SV} {v : AV} (hb : n_H n ρ b h) (hk : k < 1000000) (hg : gS b k = some c) (hw : n_V n ρ w v) (hi : i < c.2.2.1.length) : n_H n ρ (sS b k (setE c i (.inl w))) (hSet h k i v) := by
  refine ⟨hb.1, hb.2.1, fun k' c' hc' => ?_⟩
  rcases gS_sS hc' with ⟨rfl, rfl⟩ | ⟨hq, hne⟩
  · have hC := hb.2.2 k' c hg
    refine ⟨hC.1, fun j f hf => ?_, fun r hr => ?_⟩
    · have hf2 : (setF c.2.2.1 i (.inl w))[j]? = some f := hf
      rw [setF_eq, List.getElem?_set] at hf2
      rw [hV_eq]
      by_cases z : i = j
      · rw [if_pos z] at hf2
        rw [if_pos ⟨rfl, z.symm⟩]
        rw [if_pos hi] at hf2
        cases hf2
        exact hw
      · rw [if_neg z] at hf2
        rw [if_neg (fun y => z y.2.symm)]
        exact hC.2.1 j f hf2
    · obtain ⟨g1, g2⟩ := hC.2.2 r hr
      refine ⟨?_, fun j q j1 j2 hq => ?_⟩
      · show (setF c.2.2.1 i (.inl w)).length ≤ r.1
        rw [setF_eq, List.length_set]; exact g1
      · rw [hV_eq, if_neg (fun y => by omega)]
        exact g2 j q j1 j2 hq
  · have hne' : k' ≠ k := by
      rcases hne hk with z | z
      · exact z
      · rw [hg] at z; cases z
    have hC := hb.2.2 k' c' hq
    refine ⟨hC.1, fun j f hf => ?_, fun r hr => ⟨(hC.2.2 r hr).1, fun j q j1 j2 hq => ?_⟩⟩
    · rw [hV_eq, if_neg (fun y => hne' y.1)]; exact hC.2.1 j f hf
    · rw [hV_eq, if_neg (fun y => hne' y.1)]; exact (hC.2.2 r hr).2 j q j1 j2 hq
/-- written where only the kind of number is known -/
theorem n_H_un {n : Nat} {ρ : Nat → Int} {h : AH} {b : SB} {k i : Nat} {c : SC} {v : AV} (hb : n_H n ρ b h) (hg : gS b k = some c) (hi : c.2.2.1.length ≤ i) (hv : ∀ r, r ∈ c.2.2.2 → r.1 ≤ i → i < r.2.1 → ∀ q, r.2.2.2[i % r.2.2.1]? = some q → inRg q v) : n_H n ρ b (hSet h k i v) := by
  refine ⟨hb.1, hb.2.1, fun k' c' hc' => ?_⟩
  have hC := hb.2.2 k' c' hc'
  by_cases z : k' = k
  · subst z
    rw [hg] at hc'
    cases hc'
    refine ⟨hC.1, fun j f hf => ?_, fun r hr => ⟨(hC.2.2 r hr).1, fun j q j1 j2 hq => ?_⟩⟩
    · have hj : j < c.2.2.1.length := by
        rcases Nat.lt_or_ge j c.2.2.1.length with y | y
        · exact y
        · rw [List.getElem?_eq_none y] at hf; cases hf
      rw [hV_eq, if_neg (fun y => by omega)]
      exact hC.2.1 j f hf
    · rw [hV_eq]
      split
      · rename_i y
        have y2 := y.2
        subst y2
        exact hv r hr j1 j2 q hq
      · exact (hC.2.2 r hr).2 j q j1 j2 hq
  · refine ⟨hC.1, fun j f hf => ?_, fun r hr => ⟨(hC.2.2 r hr).1, fun j q j1 j2 hq => ?_⟩⟩
    · rw [hV_eq, if_neg (fun y => z y.1)]; exact hC.2.1 j f hf
    · rw [hV_eq, if_neg (fun y => z y.1)]; exact (hC.2.2 r hr).2 j q j1 j2 hq
/-! rows -/
def rsdE (p : Nat) (o m : Int) : Option Nat := bif Nat.beq p 1 then some 0 else bif eqI (m % (p : Int)) 0 then some (o % (p : Int)).toNat else none
noncomputable def rsd (p n : Nat) (E : EV) (wi : SV) : Option Nat := match wi with
  | .inl (.inl x) => some (x.toNat % p)
  | .inr q => (match eG n E q.2.1 with
    | some e => rsdE p q.2.2 e.2.2.1
    | none => none)
  | _ => none
theorem rsd_s {p n s : Nat} {E : EV} {ρ : Nat → Int} {wi : SV} {i : Int} (h : rsd p n E wi = some s) (hE : n_E n E ρ) (hi : n_V n ρ wi (.inl i)) (h0 : 0 ≤ i) : i.toNat % p = s := by
  obtain ⟨h1, h2⟩ := hi
  match wi, h1, h2, h with
  | .inl (.inl x), h1, h2, h =>
    have h2 : (Sum.inl i : AV) = .inl x := h2
    cases h2
    have h : some (i.toNat % p) = some s := h
    exact Option.some.inj h
  | .inr (true, j, o), h1, h2, h => have h2 : (Sum.inl i : AV) = Sum.inr (Sum.inl (ρ j + o)) := h2; cases h2
  | .inr (false, j, o), h1, h2, h =>
    have h2 : (Sum.inl i : AV) = Sum.inl (ρ j + o) := h2
    have h2 := Sum.inl.inj h2
    unfold rsd at h
    dsimp only at h
    split at h
    · rename_i e he
      unfold rsdE at h
      rw [beq_d, eqI_eq] at h
      by_cases y : p = 1
      · rw [decide_eq_true y, cnd_t] at h
        cases h
        rw [y]; exact Nat.mod_one _
      · rw [decide_eq_false y, cnd_f] at h
        by_cases z : e.2.2.1 % (p : Int) = 0
        · rw [decide_eq_true z, cnd_t] at h
          have h := Option.some.inj h
          have hd : (p : Int) ∣ ρ j := Int.dvd_trans (Int.dvd_of_emod_eq_zero z) (eG_s he hE).2.1.2.2.1
          obtain ⟨t, ht⟩ := hd
          have e1 : i % (p : Int) = o % (p : Int) := by rw [h2, ht, Int.add_comm, Int.add_mul_emod_self_left]
          have e2 : ((i.toNat % p : Nat) : Int) = i % (p : Int) := by rw [Int.natCast_emod, Int.toNat_of_nonneg h0]
          rw [e1] at e2
          rw [← h]
          omega
        · rw [decide_eq_false z, cnd_f] at h; cases h
    · cases h
noncomputable def ldR (n : Nat) (E : EV) (l u : Int) (wi : SV) (go : Nat → EV → SV → Bool) (rs : List RG) : Bool := List.rec false (fun r _ ih => bif Nat.ble r.1 l.toNat && Nat.ble (u.toNat + 1) r.2.1 then (match rsd r.2.2.1 n E wi with
  | some s => (match nth r.2.2.2 s with
    | some q => mkN q.1 n E q.2.1 q.2.2 1 go
    | none => ih)
  | none => ih) else ih) rs
theorem ldR_s {n : Nat} {E : EV} {ρ : Nat → Int} {l u i : Int} {wi : SV} {h : AH} {k : Nat} {go : Nat → EV → SV → Bool} {rs : List RG} (hh : ldR n E l u wi go rs = true) (hE : n_E n E ρ) (hi : n_V n ρ wi (.inl i)) (h0 : 0 ≤ l) (h1 : l ≤ i) (h2 : i ≤ u) (hr : ∀ r, r ∈ rs → n_G h k r) : ∃ n' ρ' E' w, go n' E' w = true ∧ n_X n ρ n' ρ' ∧ n_E n' E' ρ' ∧ n_V n' ρ' w (hV h k i.toNat) := by
  induction rs with
  | nil => cases hh
  | cons r rs ih =>
    have hh : (bif Nat.ble r.1 l.toNat && Nat.ble (u.toNat + 1) r.2.1 then (match rsd r.2.2.1 n E wi with
      | some s => (match nth r.2.2.2 s with
        | some q => mkN q.1 n E q.2.1 q.2.2 1 go
        | none => ldR n E l u wi go rs)
      | none => ldR n E l u wi go rs) else ldR n E l u wi go rs) = true := hh
    cases hc : (Nat.ble r.1 l.toNat && Nat.ble (u.toNat + 1) r.2.1) with
    | false => rw [hc, cnd_f] at hh; exact ih hh (fun r hr' => hr r (List.mem_cons_of_mem _ hr'))
    | true =>
      rw [hc, cnd_t] at hh
      rw [Bool.and_eq_true] at hc
      have c1 := Nat.le_of_ble_eq_true hc.1
      have c2 := Nat.le_of_ble_eq_true hc.2
      split at hh
      · rename_i s hs
        split at hh
        · rename_i q hq
          rw [nth_eq] at hq
          have es := rsd_s hs hE hi (by omega)
          rw [← es] at hq
          obtain ⟨x, hx, x1, x2⟩ := hr r List.mem_cons_self i.toNat q (by omega) (by omega) hq
          obtain ⟨n', ρ', E', w, g1, g2, g3, g4⟩ := mkN_s hh hE x1 x2 (Int.one_dvd x)
          exact ⟨n', ρ', E', w, g1, g2, g3, by rw [hx]; exact g4⟩
        · exact ih hh (fun r hr' => hr r (List.mem_cons_of_mem _ hr'))
      · exact ih hh (fun r hr' => hr r (List.mem_cons_of_mem _ hr'))
noncomputable def spl (f : Nat → Bool) (c : Nat) : Bool := Nat.rec true (fun j ih => f j && ih) c
theorem spl_s {f : Nat → Bool} {c : Nat} (h : spl f c = true) : ∀ j, j < c → f j = true := by
  induction c with
  | zero => intro j hj; omega
  | succ c ih =>
    have h : (f c && spl f c) = true := h
    rw [Bool.and_eq_true] at h
    intro j hj
    by_cases z : j = c
    · rw [z]; exact h.1
    · exact ih h.2 j (by omega)
noncomputable def fixE (n : Nat) (E : EV) (w : SV) (x : Int) : EV := rfL n (rfH n E w x) w x
theorem fixE_s {n : Nat} {E : EV} {ρ : Nat → Int} {w : SV} {v : AV} {x : Int} (hE : n_E n E ρ) (hv : n_V n ρ w v) (hx : nmb v = x) : n_E n (fixE n E w x) ρ := rfL_s (rfH_s hE hv (by omega)) hv (by omega)
noncomputable def ldA (n : Nat) (E : EV) (b : SB) (k : Nat) (c : SC) (wi : SV) (go : Nat → EV → SB → SV → Bool) : Bool := sR n E wi fun l u => (inN l c.2.1 && inN u c.2.1) && (bif hasN c.2.2.1 u.toNat then Nat.ble (u - l).toNat 20 && spl (fun j => ldE n (fixE n E wi (l + (j : Int))) b k c (l + (j : Int)).toNat go) ((u - l).toNat + 1) else bif hasN c.2.2.1 l.toNat then false else ldR n E l u wi (fun n E w => go n E b w) c.2.2.2)
theorem ldA_s {n : Nat} {E : EV} {ρ : Nat → Int} {b : SB} {k : Nat} {c : SC} {wi : SV} {h : AH} {i : Int} {go : Nat → EV → SB → SV → Bool} (hh : ldA n E b k c wi go = true) (hE : n_E n E ρ) (hb : n_H n ρ b h) (hg : gS b k = some c) (hi : n_V n ρ wi (.inl i)) : inR i c.2.1 = true ∧ ∃ n' ρ' E' b' w, go n' E' b' w = true ∧ n_X n ρ n' ρ' ∧ n_E n' E' ρ' ∧ n_H n' ρ' b' h ∧ n_V n' ρ' w (hV h k i.toNat) := by
  obtain ⟨l, u, hh, h1, h2⟩ := sR_s hh hE hi
  have h1 : l ≤ i := h1
  have h2 : i ≤ u := h2
  rw [Bool.and_eq_true, Bool.and_eq_true, inN_eq, inN_eq, decide_eq_true_eq, decide_eq_true_eq, hasN_eq, hasN_eq] at hh
  obtain ⟨⟨a1, a2⟩, hh⟩ := hh
  refine ⟨decide_eq_true (by omega), ?_⟩
  by_cases p1 : u.toNat < c.2.2.1.length
  · rw [decide_eq_true p1, cnd_t, Bool.and_eq_true] at hh
    have := spl_s hh.2 (i - l).toNat (by omega)
    have e : l + ((i - l).toNat : Int) = i := by omega
    rw [e] at this
    exact ldE_s this (fixE_s hE hi rfl) hb hg
  · rw [decide_eq_false p1, cnd_f] at hh
    by_cases p2 : l.toNat < c.2.2.1.length
    · rw [decide_eq_true p2, cnd_t] at hh; cases hh
    · rw [decide_eq_false p2, cnd_f] at hh
      obtain ⟨n', ρ', E', w, g1, g2, g3, g4⟩ := ldR_s hh hE hi a1.1 h1 h2 (fun r hr => ((hb.2.2 k c hg).2.2 r hr).2)
      exact ⟨n', ρ', E', b, w, g1, g2, g3, n_H_x g2 hb, g4⟩
/-! does a value fit -/
noncomputable def leQ (n : Nat) (E : EV) (w : SV) (q : Bool × Int × Int) : Bool := (bif q.1 then isYL w else isYI w) && sR n E w fun l u => !ltI l q.2.1 && !ltI q.2.2 u
theorem leQ_s {n : Nat} {E : EV} {ρ : Nat → Int} {w : SV} {v : AV} {q : Bool × Int × Int} (h : leQ n E w q = true) (hE : n_E n E ρ) (hv : n_V n ρ w v) : inRg q v := by
  unfold leQ at h
  rw [Bool.and_eq_true] at h
  obtain ⟨l, u, h3, h4, h5⟩ := sR_s h.2 hE hv
  rw [Bool.and_eq_true, ltI_eq, ltI_eq, not_d, not_d, decide_eq_true_eq, decide_eq_true_eq] at h3
  obtain ⟨l0, lo, hi⟩ := q
  cases l0 with
  | false =>
    obtain ⟨x, rfl⟩ := isYI_s h.1 hv
    have h4 : l ≤ x := h4
    have h5 : x ≤ u := h5
    have h3 : ¬ l < lo ∧ ¬ hi < u := h3
    exact ⟨x, rfl, by show lo ≤ x; omega, by show x ≤ hi; omega⟩
  | true =>
    obtain ⟨x, rfl⟩ := isYL_s h.1 hv
    have h4 : l ≤ x := h4
    have h5 : x ≤ u := h5
    have h3 : ¬ l < lo ∧ ¬ hi < u := h3
    exact ⟨x, rfl, by show lo ≤ x; omega, by show x ≤ hi; omega⟩
noncomputable def fitR (n : Nat) (E : EV) (l u : Int) (wi w : SV) (rs : List RG) : Bool := aLL rs fun r => Nat.ble (u.toNat + 1) r.1 || (Nat.ble r.2.1 l.toNat || match rsd r.2.2.1 n E wi with
  | some s => (match nth r.2.2.2 s with
    | some q => leQ n E w q
    | none => true)
  | none => aLL r.2.2.2 fun q => leQ n E w q)
theorem fitR_s {n : Nat} {E : EV} {ρ : Nat → Int} {l u i : Int} {wi w : SV} {v : AV} {rs : List RG} (hh : fitR n E l u wi w rs = true) (hE : n_E n E ρ) (hi : n_V n ρ wi (.inl i)) (hw : n_V n ρ w v) (h0 : 0 ≤ l) (h1 : l ≤ i) (h2 : i ≤ u) : ∀ r, r ∈ rs → r.1 ≤ i.toNat → i.toNat < r.2.1 → ∀ q, r.2.2.2[i.toNat % r.2.2.1]? = some q → inRg q v := by
  intro r hr r1 r2 q hq
  have := aLL_s hh r hr
  rw [Bool.or_eq_true, Bool.or_eq_true, ble_d, ble_d, decide_eq_true_eq, decide_eq_true_eq] at this
  rcases this with z | z | z
  · omega
  · omega
  · split at z
    · rename_i s hs
      have es := rsd_s hs hE hi (by omega)
      rw [← es, nth_eq, hq] at z
      exact leQ_s z hE hw
    · exact leQ_s (aLL_s z q (List.mem_of_getElem? hq)) hE hw
noncomputable def stB (n : Nat) (E : EV) (b : SB) (k : Nat) (c : SC) (wi w : SV) (l u : Int) (go : EV → SB → Bool) : Bool := bif hasN c.2.2.1 u.toNat then Nat.ble (u - l).toNat 20 && spl (fun j => go (fixE n E wi (l + (j : Int))) (sS b k (setE c (l + (j : Int)).toNat (.inl w)))) ((u - l).toNat + 1) else bif hasN c.2.2.1 l.toNat then false else fitR n E l u wi w c.2.2.2 && go E b
/-- what stands there already -/
noncomputable def stI (c : SC) (w : SV) (l u : Int) : Bool := eqI l u && (match nth c.2.2.1 l.toNat with
  | some (.inl w0) => eqSV w0 w
  | _ => false)
noncomputable def stA (md : List (Nat × Nat × Nat)) (n : Nat) (E : EV) (b : SB) (k : Nat) (c : SC) (wi w : SV) (go : EV → SB → Bool) : Bool := sR n E wi fun l u => ((inN l c.2.1 && inN u c.2.1) && (Nat.ble (k + 1) 1000000 && okMd md k l.toNat u.toNat)) && (bif okW k l.toNat u.toNat then stB n E b k c wi w l u go else stI c w l u && go E b)
theorem stA_s {md : List (Nat × Nat × Nat)} {n : Nat} {E : EV} {ρ : Nat → Int} {b : SB} {k : Nat} {c : SC} {wi w : SV} {h : AH} {i : Int} {v : AV} {go : EV → SB → Bool} (hh : stA md n E b k c wi w go = true) (hE : n_E n E ρ) (hb : n_H n ρ b h) (hg : gS b k = some c) (hi : n_V n ρ wi (.inl i)) (hw : n_V n ρ w v) : inR i c.2.1 = true ∧ inMd md k i.toNat ∧ (¬ inMd wS0 k i.toNat ∨ hV h k i.toNat = v) ∧ ∃ E' b', go E' b' = true ∧ n_E n E' ρ ∧ n_H n ρ b' (hSet h k i.toNat v) := by
  obtain ⟨l, u, hh, h1, h2⟩ := sR_s hh hE hi
  have h1 : l ≤ i := h1
  have h2 : i ≤ u := h2
  rw [Bool.and_eq_true, Bool.and_eq_true, Bool.and_eq_true, Bool.and_eq_true, inN_eq, inN_eq, decide_eq_true_eq, decide_eq_true_eq, ble_d, decide_eq_true_eq] at hh
  obtain ⟨⟨⟨a1, a2⟩, a3, a4⟩, hh⟩ := hh
  refine ⟨decide_eq_true (by omega), okMd_s a4 (by omega) (by omega), ?_⟩
  cases hB : okW k l.toNat u.toNat with
  | true =>
    rw [hB, cnd_t] at hh
    unfold stB at hh
    rw [hasN_eq, hasN_eq] at hh
    refine ⟨Or.inl (okW_s hB (by omega) (by omega)), ?_⟩
    by_cases p1 : u.toNat < c.2.2.1.length
    · rw [decide_eq_true p1, cnd_t, Bool.and_eq_true] at hh
      have := spl_s hh.2 (i - l).toNat (by omega)
      have e : l + ((i - l).toNat : Int) = i := by omega
      rw [e] at this
      exact ⟨_, _, this, fixE_s hE hi rfl, n_H_set hb (by omega) hg hw (by omega)⟩
    · rw [decide_eq_false p1, cnd_f] at hh
      by_cases p2 : l.toNat < c.2.2.1.length
      · rw [decide_eq_true p2, cnd_t] at hh; cases hh
      · rw [decide_eq_false p2, cnd_f, Bool.and_eq_true] at hh
        exact ⟨E, b, hh.2, hE, n_H_un hb hg (by omega) (fitR_s hh.1 hE hi hw a1.1 h1 h2)⟩
  | false =>
    rw [hB, cnd_f, Bool.and_eq_true] at hh
    unfold stI at hh
    rw [Bool.and_eq_true, eqI_eq, decide_eq_true_eq] at hh
    obtain ⟨⟨e1, e2⟩, hh⟩ := hh
    have ei : l = i := by omega
    rw [ei] at e2
    have hv : hV h k i.toNat = v := by
      split at e2
      · rename_i w0 hw0
        rw [nth_eq] at hw0
        have g1 := (hb.2.2 k c hg).2.1 _ _ hw0
        rw [eqSV_s e2] at g1
        rw [g1.2, hw.2]
      · cases e2
    refine ⟨Or.inr hv, E, b, hh, hE, n_H_eq (h := h) (h' := hSet h k i.toNat v) rfl rfl rfl (fun a j => ?_) hb⟩
    rw [hV_eq]
    by_cases z : a = k ∧ j = i.toNat
    · rw [if_pos z, z.1, z.2]; exact hv.symm
    · rw [if_neg z]
