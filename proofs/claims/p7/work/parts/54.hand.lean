/-! one instruction -/
abbrev GOS : Type := Nat → Nat → EV → List (Option SV) → List SV → SB → Bool
abbrev RTS : Type := Nat → EV → Option SV → SB → Bool
abbrev CAL : Type := Nat → Nat → EV → List SV → SB → RTS → Bool
abbrev MD : Type := List (Nat × Nat × Nat)
abbrev HS : Type := MD → GOS → RTS → CAL → Nat → Nat → Nat → Int → List (Int × Nat) → Nat → EV → List (Option SV) → List SV → SB → Bool
def GOK (W : AH → Prop) (md : MD) (h0 : AH) (n : Nat) (ρ : Nat → Int) (go : GOS) (go' : Nat → List (Option AV) → List AV → AH → Prop) : Prop := ∀ pc n' ρ' E als ast b ls st h, go pc n' E als ast b = true → n_X n ρ n' ρ' → n_E n' E ρ' → n_L n' ρ' als ls → n_S n' ρ' ast st → n_H n' ρ' b h → n_F W md h0 h → go' pc ls st h
def ROK (W : AH → Prop) (md : MD) (h0 : AH) (n : Nat) (ρ : Nat → Int) (ret : RTS) (ret' : Option AV → AH → Prop) : Prop := ∀ n' ρ' E r b v h, ret n' E r b = true → n_X n ρ n' ρ' → n_E n' E ρ' → n_O n' ρ' r v → n_H n' ρ' b h → n_F W md h0 h → ret' v h
def COK (W : AH → Prop) (md : MD) (h0 : AH) (n : Nat) (ρ : Nat → Int) (call : CAL) (call' : Nat → List AV → AH → (Option AV → AH → Prop) → Prop) : Prop := ∀ M n' ρ' E as b k vs h k', call M n' E as b k = true → n_X n ρ n' ρ' → n_E n' E ρ' → n_S n' ρ' as vs → n_H n' ρ' b h → n_F W md h0 h → ROK W md h0 n' ρ' k k' → call' M vs h k'
def HOK (op : Nat) (f : HS) : Prop := ∀ (W : AH → Prop) (_ : FrW W) (md : MD) (h0 : AH) (n : Nat) (ρ : Nat → Int) (go : GOS) (ret : RTS) (call : CAL) (go' : Nat → List (Option AV) → List AV → AH → Prop) (ret' : Option AV → AH → Prop) (call' : Nat → List AV → AH → (Option AV → AH → Prop) → Prop) (dO : Nat → Nat → AV) (nf : Nat → Nat) (nx a bb : Nat) (k : Int) (sw : List (Int × Nat)) (E : EV) (als : List (Option SV)) (ast : List SV) (b : SB) (ls : List (Option AV)) (st : List AV) (h : AH), f md go ret call nx a bb k sw n E als ast b = true → n_E n E ρ → n_L n ρ als ls → n_S n ρ ast st → n_H n ρ b h → n_F W md h0 h → GOK W md h0 n ρ go go' → ROK W md h0 n ρ ret ret' → COK W md h0 n ρ call call' → stepK False go' ret' call' dO nf (op, nx, a, bb, k, sw) ls st h
noncomputable def hs_0 : HS := fun md go ret call nx a bb k sw n E ls st b => go nx n E ls (yI k :: st) b
theorem ho_0 : HOK 0 hs_0 := by
  intro W hW md h0 n ρ go ret call go' ret' call' dO nf nx a bb k sw E als ast b ls st h hh hE hl hs hb hf hg hr hc
  exact hg _ _ _ _ _ _ _ _ _ _ hh n_X_r hE hl ⟨_, _, rfl, n_yI k, hs⟩ hb hf
noncomputable def hs_1 : HS := fun md go ret call nx a bb k sw n E ls st b => go nx n E ls (yL k :: st) b
theorem ho_1 : HOK 1 hs_1 := by
  intro W hW md h0 n ρ go ret call go' ret' call' dO nf nx a bb k sw E als ast b ls st h hh hE hl hs hb hf hg hr hc
  exact hg _ _ _ _ _ _ _ _ _ _ hh n_X_r hE hl ⟨_, _, rfl, n_yL k, hs⟩ hb hf
noncomputable def hs_2 : HS := fun md go ret call nx a bb k sw n E ls st b => mlI ls a fun w => go nx n E ls (w :: st) b
theorem ho_2 : HOK 2 hs_2 := by
  intro W hW md h0 n ρ go ret call go' ret' call' dO nf nx a bb k sw E als ast b ls st h hh hE hl hs hb hf hg hr hc
  exact mlI_s hh hl fun w x hw e => hg _ _ _ _ _ _ _ _ _ _ e n_X_r hE hl ⟨_, _, rfl, hw, hs⟩ hb hf
noncomputable def hs_3 : HS := fun md go ret call nx a bb k sw n E ls st b => mlL ls a fun w => go nx n E ls (w :: st) b
theorem ho_3 : HOK 3 hs_3 := by
  intro W hW md h0 n ρ go ret call go' ret' call' dO nf nx a bb k sw E als ast b ls st h hh hE hl hs hb hf hg hr hc
  exact mlL_s hh hl fun w x hw e => hg _ _ _ _ _ _ _ _ _ _ e n_X_r hE hl ⟨_, _, rfl, hw, hs⟩ hb hf
noncomputable def hs_4 : HS := fun md go ret call nx a bb k sw n E ls st b => mlR ls a fun x => go nx n E ls (yR x :: st) b
theorem ho_4 : HOK 4 hs_4 := by
  intro W hW md h0 n ρ go ret call go' ret' call' dO nf nx a bb k sw E als ast b ls st h hh hE hl hs hb hf hg hr hc
  exact mlR_s hh hl fun x e => hg _ _ _ _ _ _ _ _ _ _ e n_X_r hE hl ⟨_, _, rfl, n_yR x, hs⟩ hb hf
noncomputable def hs_5 : HS := fun md go ret call nx a bb k sw n E ls st b => qI st fun w st => okY ls a && go nx n E (setF ls a (some w)) st b
theorem ho_5 : HOK 5 hs_5 := by
  intro W hW md h0 n ρ go ret call go' ret' call' dO nf nx a bb k sw E als ast b ls st h hh hE hl hs hb hf hg hr hc
  refine qI_s hh hs fun w x ast st hw hs e => ?_
  rw [Bool.and_eq_true] at e
  show if okSt ls a = true then _ else False
  rw [if_pos (okY_s e.1 hl)]
  exact hg _ _ _ _ _ _ _ _ _ _ e.2 n_X_r hE (n_L_set hl ⟨_, rfl, hw⟩) hs hb hf
noncomputable def hs_6 : HS := fun md go ret call nx a bb k sw n E ls st b => qL st fun w st => (okY ls a && hasN ls (a + 1)) && go nx n E (setF (setF ls a (some w)) (a + 1) none) st b
theorem ho_6 : HOK 6 hs_6 := by
  intro W hW md h0 n ρ go ret call go' ret' call' dO nf nx a bb k sw E als ast b ls st h hh hE hl hs hb hf hg hr hc
  refine qL_s hh hs fun w x ast st hw hs e => ?_
  rw [Bool.and_eq_true, Bool.and_eq_true, hasN_eq, decide_eq_true_eq] at e
  show if okSt ls a = true ∧ a + 1 < ls.length then _ else False
  rw [if_pos ⟨okY_s e.1.1 hl, by rw [← n_L_len hl]; exact e.1.2⟩]
  exact hg _ _ _ _ _ _ _ _ _ _ e.2 n_X_r hE (n_L_set (n_L_set hl ⟨_, rfl, hw⟩) (fun z hz => by cases hz)) hs hb hf
noncomputable def hs_7 : HS := fun md go ret call nx a bb k sw n E ls st b => qR st fun x st => okY ls a && go nx n E (setF ls a (some (yR x))) st b
theorem ho_7 : HOK 7 hs_7 := by
  intro W hW md h0 n ρ go ret call go' ret' call' dO nf nx a bb k sw E als ast b ls st h hh hE hl hs hb hf hg hr hc
  refine qR_s hh hs fun x ast st hs e => ?_
  rw [Bool.and_eq_true] at e
  show if okSt ls a = true then _ else False
  rw [if_pos (okY_s e.1 hl)]
  exact hg _ _ _ _ _ _ _ _ _ _ e.2 n_X_r hE (n_L_set hl ⟨_, rfl, n_yR x⟩) hs hb hf
noncomputable def hs_8 : HS := fun md go ret call nx a bb k sw n E ls st b => mlI ls a fun w => okY ls a && arI 0 n E w (yI k) fun n E w => go nx n E (setF ls a (some w)) st b
theorem ho_8 : HOK 8 hs_8 := by
  intro W hW md h0 n ρ go ret call go' ret' call' dO nf nx a bb k sw E als ast b ls st h hh hE hl hs hb hf hg hr hc
  refine mlI_s hh hl fun w x hw e => ?_
  rw [Bool.and_eq_true] at e
  show if okSt ls a = true then _ else False
  rw [if_pos (okY_s e.1 hl)]
  obtain ⟨z, ez, n', ρ', E', w', g1, g2, g3, g4⟩ := arI_s e.2 hE hw (n_yI k)
  have ez : some (w32 (x + k)) = some z := ez
  cases ez
  exact hg _ _ _ _ _ _ _ _ _ _ g1 g2 g3 (n_L_set (n_L_x g2 hl) ⟨_, rfl, g4⟩) (n_S_x g2 hs) (n_H_x g2 hb) hf
noncomputable def hs_9 : HS := fun md go ret call nx a bb k sw n E ls st b => qI st fun wy st => qI st fun wx st => arI bb n E wx wy fun n E w => go nx n E ls (w :: st) b
theorem ho_9 : HOK 9 hs_9 := by
  intro W hW md h0 n ρ go ret call go' ret' call' dO nf nx a bb k sw E als ast b ls st h hh hE hl hs hb hf hg hr hc
  refine qI_s hh hs fun wy y ast st hy hs e => qI_s e hs fun wx x ast st hx hs e => ?_
  obtain ⟨z, ez, n', ρ', E', w', g1, g2, g3, g4⟩ := arI_s e hE hx hy
  show oI False (binI bb x y) _
  rw [ez]
  exact hg _ _ _ _ _ _ _ _ _ _ g1 g2 g3 (n_L_x g2 hl) ⟨_, _, rfl, g4, n_S_x g2 hs⟩ (n_H_x g2 hb) hf
noncomputable def hs_10 : HS := fun md go ret call nx a bb k sw n E ls st b => qI st fun w st => sR n E w fun l u => in32 l u && bif ltI l (-2147483647) then mkN false n E (-2147483648) 2147483647 1 fun n E w => go nx n E ls (w :: st) b else mkN false n E (-u) (-l) 1 fun n E w => go nx n E ls (w :: st) b
theorem ho_10 : HOK 10 hs_10 := by
  intro W hW md h0 n ρ go ret call go' ret' call' dO nf nx a bb k sw E als ast b ls st h hh hE hl hs hb hf hg hr hc
  refine qI_s hh hs fun w x ast st hw hs e => ?_
  obtain ⟨l, u, e, x1, x2⟩ := sR_s e hE hw
  have x1 : l ≤ x := x1
  have x2 : x ≤ u := x2
  show go' nx ls (.inl (w32 (-x)) :: st) h
  rw [Bool.and_eq_true] at e
  have b0 := in32_s e.1
  have e := e.2
  rw [ltI_eq] at e
  by_cases c : l < -2147483647
  · rw [decide_eq_true c, cnd_t] at e
    obtain ⟨n', ρ', E', w', g1, g2, g3, g4⟩ := mkN_s e hE (w32_b (-x)).1 (w32_b (-x)).2 (Int.one_dvd _)
    exact hg _ _ _ _ _ _ _ _ _ _ g1 g2 g3 (n_L_x g2 hl) ⟨_, _, rfl, g4, n_S_x g2 hs⟩ (n_H_x g2 hb) hf
  · rw [decide_eq_false c, cnd_f] at e
    obtain ⟨n', ρ', E', w', g1, g2, g3, g4⟩ := mkN_s (x := -x) e hE (by omega) (by omega) (Int.one_dvd _)
    rw [w32_in (by omega) (by omega)]
    exact hg _ _ _ _ _ _ _ _ _ _ g1 g2 g3 (n_L_x g2 hl) ⟨_, _, rfl, g4, n_S_x g2 hs⟩ (n_H_x g2 hb) hf
noncomputable def hs_11 : HS := fun md go ret call nx a bb k sw n E ls st b => qL st fun wy st => qL st fun wx st => arL bb n E wx wy fun n E w => go nx n E ls (w :: st) b
theorem ho_11 : HOK 11 hs_11 := by
  intro W hW md h0 n ρ go ret call go' ret' call' dO nf nx a bb k sw E als ast b ls st h hh hE hl hs hb hf hg hr hc
  refine qL_s hh hs fun wy y ast st hy hs e => qL_s e hs fun wx x ast st hx hs e => ?_
  obtain ⟨z, ez, n', ρ', E', w', g1, g2, g3, g4⟩ := arL_s e hE hx hy
  show oI False (binL bb x y) _
  rw [ez]
  exact hg _ _ _ _ _ _ _ _ _ _ g1 g2 g3 (n_L_x g2 hl) ⟨_, _, rfl, g4, n_S_x g2 hs⟩ (n_H_x g2 hb) hf
noncomputable def hs_12 : HS := fun md go ret call nx a bb k sw n E ls st b => qL st fun w st => mkN true n E (-9223372036854775808) 9223372036854775807 1 fun n E w => go nx n E ls (w :: st) b
theorem ho_12 : HOK 12 hs_12 := by
  intro W hW md h0 n ρ go ret call go' ret' call' dO nf nx a bb k sw E als ast b ls st h hh hE hl hs hb hf hg hr hc
  refine qL_s hh hs fun w x ast st hw hs e => ?_
  obtain ⟨n', ρ', E', w', g1, g2, g3, g4⟩ := mkN_s e hE (w64_b (-x)).1 (w64_b (-x)).2 (Int.one_dvd _)
  exact hg _ _ _ _ _ _ _ _ _ _ g1 g2 g3 (n_L_x g2 hl) ⟨_, _, rfl, g4, n_S_x g2 hs⟩ (n_H_x g2 hb) hf
theorem lshr_b {x y : Int} (h1 : -9223372036854775808 ≤ x) (h2 : x ≤ 9223372036854775807) : -9223372036854775808 ≤ lshr x y ∧ lshr x y ≤ 9223372036854775807 := by
  have hp := pw_pos (y % 64).toNat
  constructor
  · refine Int.le_ediv_of_mul_le hp ?_
    have : (-9223372036854775808 : Int) * 2 ^ (y % 64).toNat ≤ -9223372036854775808 * 1 := Int.mul_le_mul_of_nonpos_left (by decide) (by omega)
    omega
  · by_cases c2 : 0 ≤ x
    · exact Int.le_trans (Int.ediv_le_self _ c2) (by omega)
    · have : x / 2 ^ (y % 64).toNat ≤ 0 / 2 ^ (y % 64).toNat := Int.ediv_le_ediv hp (by omega)
      rw [Int.zero_ediv] at this
      show x / 2 ^ (y % 64).toNat ≤ _
      omega
noncomputable def hs_13 : HS := fun md go ret call nx a bb k sw n E ls st b => qI st fun wy st => qL st fun wx st => sR n E wx fun l u => (in64 l u && Nat.ble bb 1) && mkN true n E (-9223372036854775808) 9223372036854775807 1 fun n E w => go nx n E ls (w :: st) b
theorem ho_13 : HOK 13 hs_13 := by
  intro W hW md h0 n ρ go ret call go' ret' call' dO nf nx a bb k sw E als ast b ls st h hh hE hl hs hb hf hg hr hc
  refine qI_s hh hs fun wy y ast st hy hs e => qL_s e hs fun wx x ast st hx hs e => ?_
  obtain ⟨l, u, e, x1, x2⟩ := sR_s e hE hx
  have x1 : l ≤ x := x1
  have x2 : x ≤ u := x2
  rw [Bool.and_eq_true, Bool.and_eq_true, ble_d, decide_eq_true_eq] at e
  have b0 := in64_s e.1.1
  obtain ⟨z, ez, hz⟩ : ∃ z, shfL bb x y = some z ∧ -9223372036854775808 ≤ z ∧ z ≤ 9223372036854775807 := by
    match bb, e.1.2 with
    | 0, _ => exact ⟨_, rfl, w64_b _⟩
    | 1, _ => exact ⟨_, rfl, lshr_b (by omega) (by omega)⟩
    | m + 2, q => omega
  obtain ⟨n', ρ', E', w', g1, g2, g3, g4⟩ := mkN_s e.2 hE hz.1 hz.2 (Int.one_dvd _)
  show oI False (shfL bb x y) _
  rw [ez]
  exact hg _ _ _ _ _ _ _ _ _ _ g1 g2 g3 (n_L_x g2 hl) ⟨_, _, rfl, g4, n_S_x g2 hs⟩ (n_H_x g2 hb) hf
def toL (w : SV) : SV := match w with
  | .inl (.inl x) => yL x
  | .inr (_, i, o) => .inr (true, i, o)
  | w => w
theorem toL_s {n : Nat} {ρ : Nat → Int} {w : SV} {x : Int} (h : n_V n ρ w (.inl x)) : n_V n ρ (toL w) (.inr (.inl x)) := by
  match w, h with
  | .inl (.inl y), h => have e := n_c h; subst e; exact n_yL x
  | .inl (.inr y), h => have e : (Sum.inl x : AV) = Sum.inr y := h.2; cases e
  | .inr (l, i, o), h => obtain ⟨rfl, hi, e⟩ := n_i h; exact ⟨hi, by rw [e]; rfl⟩
def toI (w : SV) : SV := match w with
  | .inl (.inr (.inl x)) => yI x
  | .inr (_, i, o) => .inr (false, i, o)
  | w => w
theorem toI_s {n : Nat} {ρ : Nat → Int} {w : SV} {x : Int} (h : n_V n ρ w (.inr (.inl x))) : n_V n ρ (toI w) (.inl x) := by
  match w, h with
  | .inl (.inl y), h => have e : (Sum.inr (Sum.inl x) : AV) = Sum.inl y := h.2; cases e
  | .inl (.inr (.inl y)), h => have e : (Sum.inr (Sum.inl x) : AV) = Sum.inr (Sum.inl y) := h.2; cases e; exact n_yI x
  | .inl (.inr (.inr y)), h => have e : (Sum.inr (Sum.inl x) : AV) = Sum.inr (Sum.inr y) := h.2; cases e
  | .inr (true, i, o), h => have e : (Sum.inr (Sum.inl x) : AV) = Sum.inr (Sum.inl (ρ i + o)) := h.2; cases e; exact ⟨h.1, rfl⟩
  | .inr (false, i, o), h => have e : (Sum.inr (Sum.inl x) : AV) = Sum.inl (ρ i + o) := h.2; cases e
noncomputable def hs_14 : HS := fun md go ret call nx a bb k sw n E ls st b => qI st fun w st => go nx n E ls (toL w :: st) b
theorem ho_14 : HOK 14 hs_14 := by
  intro W hW md h0 n ρ go ret call go' ret' call' dO nf nx a bb k sw E als ast b ls st h hh hE hl hs hb hf hg hr hc
  refine qI_s hh hs fun w x ast st hw hs e => ?_
  exact hg _ _ _ _ _ _ _ _ _ _ e n_X_r hE hl ⟨_, _, rfl, toL_s hw, hs⟩ hb hf
noncomputable def hs_15 : HS := fun md go ret call nx a bb k sw n E ls st b => qL st fun w st => sR n E w fun l u => bif in32 l u then go nx n E ls (toI w :: st) b else mkN false n E (-2147483648) 2147483647 1 fun n E w => go nx n E ls (w :: st) b
theorem ho_15 : HOK 15 hs_15 := by
  intro W hW md h0 n ρ go ret call go' ret' call' dO nf nx a bb k sw E als ast b ls st h hh hE hl hs hb hf hg hr hc
  refine qL_s hh hs fun w x ast st hw hs e => ?_
  obtain ⟨l, u, e, x1, x2⟩ := sR_s e hE hw
  have x1 : l ≤ x := x1
  have x2 : x ≤ u := x2
  show go' nx ls (.inl (w32 x) :: st) h
  cases c : in32 l u with
  | true =>
    rw [c, cnd_t] at e
    have b0 := in32_s c
    rw [w32_in (by omega) (by omega)]
    exact hg _ _ _ _ _ _ _ _ _ _ e n_X_r hE hl ⟨_, _, rfl, toI_s hw, hs⟩ hb hf
  | false =>
    rw [c, cnd_f] at e
    obtain ⟨n', ρ', E', w', g1, g2, g3, g4⟩ := mkN_s e hE (w32_b x).1 (w32_b x).2 (Int.one_dvd _)
    exact hg _ _ _ _ _ _ _ _ _ _ g1 g2 g3 (n_L_x g2 hl) ⟨_, _, rfl, g4, n_S_x g2 hs⟩ (n_H_x g2 hb) hf
noncomputable def hs_16 : HS := fun md go ret call nx a bb k sw n E ls st b => qL st fun wy st => qL st fun wx st => rlt n E wx wy (fun E => go nx n E ls (yI (-1) :: st) b) && (req n E wx wy (fun E => go nx n E ls (yI 0 :: st) b) && rlt n E wy wx (fun E => go nx n E ls (yI 1 :: st) b))
theorem ho_16 : HOK 16 hs_16 := by
  intro W hW md h0 n ρ go ret call go' ret' call' dO nf nx a bb k sw E als ast b ls st h hh hE hl hs hb hf hg hr hc
  refine qL_s hh hs fun wy y ast st hy hs e => qL_s e hs fun wx x ast st hx hs e => ?_
  rw [Bool.and_eq_true, Bool.and_eq_true] at e
  show go' nx ls (.inl (lcmp3 x y) :: st) h
  unfold lcmp3
  by_cases c1 : x > y
  · rw [if_pos c1]
    obtain ⟨E', q1, q2⟩ := rlt_s e.2.2 hE hy hx c1
    exact hg _ _ _ _ _ _ _ _ _ _ q1 n_X_r q2 hl ⟨_, _, rfl, n_yI 1, hs⟩ hb hf
  · rw [if_neg c1]
    by_cases c2 : x = y
    · rw [if_pos c2]
      obtain ⟨E', q1, q2⟩ := req_s e.2.1 hE hx hy c2
      exact hg _ _ _ _ _ _ _ _ _ _ q1 n_X_r q2 hl ⟨_, _, rfl, n_yI 0, hs⟩ hb hf
    · rw [if_neg c2]
      obtain ⟨E', q1, q2⟩ := rlt_s e.1 hE hx hy (show x < y by omega)
      exact hg _ _ _ _ _ _ _ _ _ _ q1 n_X_r q2 hl ⟨_, _, rfl, n_yI (-1), hs⟩ hb hf
theorem catY_1 {n : Nat} {ρ : Nat → Int} {w : SV} {v : AV} (h : (!isYL w) = true) (hw : n_V n ρ w v) : catA v = 1 := by
  rw [catY_s hw]
  cases c : isYL w with
  | true => rw [c] at h; cases h
  | false => rfl
theorem catY_2 {n : Nat} {ρ : Nat → Int} {w : SV} {v : AV} (h : isYL w = true) (hw : n_V n ρ w v) : catA v = 2 := by rw [catY_s hw, h]; rfl
noncomputable def hs_17 : HS := fun md go ret call nx a bb k sw n E ls st b => qV st fun w st => !isYL w && go nx n E ls (w :: w :: st) b
theorem ho_17 : HOK 17 hs_17 := by
  intro W hW md h0 n ρ go ret call go' ret' call' dO nf nx a bb k sw E als ast b ls st h hh hE hl hs hb hf hg hr hc
  refine qV_s hh hs fun w v ast st hw hs e => ?_
  rw [Bool.and_eq_true] at e
  show if catA v = 1 then _ else False
  rw [if_pos (catY_1 e.1 hw)]
  exact hg _ _ _ _ _ _ _ _ _ _ e.2 n_X_r hE hl ⟨_, _, rfl, hw, _, _, rfl, hw, hs⟩ hb hf
noncomputable def hs_18 : HS := fun md go ret call nx a bb k sw n E ls st b => qV st fun v st => bif isYL v then go nx n E ls (v :: v :: st) b else qV st fun w st => !isYL w && go nx n E ls (v :: w :: v :: w :: st) b
theorem ho_18 : HOK 18 hs_18 := by
  intro W hW md h0 n ρ go ret call go' ret' call' dO nf nx a bb k sw E als ast b ls st h hh hE hl hs hb hf hg hr hc
  refine qV_s hh hs fun v v' ast st hv hs e => ?_
  show if catA v' = 2 then _ else _
  cases c : isYL v with
  | true =>
    rw [c, cnd_t] at e
    rw [if_pos (catY_2 c hv)]
    exact hg _ _ _ _ _ _ _ _ _ _ e n_X_r hE hl ⟨_, _, rfl, hv, _, _, rfl, hv, hs⟩ hb hf
  | false =>
    rw [c, cnd_f] at e
    rw [if_neg (by rw [catY_1 (by rw [c]; rfl) hv]; decide)]
    refine qV_s e hs fun w w' ast st hw hs e => ?_
    rw [Bool.and_eq_true] at e
    show if catA w' = 1 then _ else False
    rw [if_pos (catY_1 e.1 hw)]
    exact hg _ _ _ _ _ _ _ _ _ _ e.2 n_X_r hE hl ⟨_, _, rfl, hv, _, _, rfl, hw, _, _, rfl, hv, _, _, rfl, hw, hs⟩ hb hf
noncomputable def hs_19 : HS := fun md go ret call nx a bb k sw n E ls st b => qV st fun w st => !isYL w && go nx n E ls st b
theorem ho_19 : HOK 19 hs_19 := by
  intro W hW md h0 n ρ go ret call go' ret' call' dO nf nx a bb k sw E als ast b ls st h hh hE hl hs hb hf hg hr hc
  refine qV_s hh hs fun w v ast st hw hs e => ?_
  rw [Bool.and_eq_true] at e
  show if catA v = 1 then _ else False
  rw [if_pos (catY_1 e.1 hw)]
  exact hg _ _ _ _ _ _ _ _ _ _ e.2 n_X_r hE hl hs hb hf
noncomputable def hs_20 : HS := fun md go ret call nx a bb k sw n E ls st b => qI st fun w st => cmK bb n E w (yI 0) (fun E => go a n E ls st b) (fun E => go nx n E ls st b)
theorem ho_20 : HOK 20 hs_20 := by
  intro W hW md h0 n ρ go ret call go' ret' call' dO nf nx a bb k sw E als ast b ls st h hh hE hl hs hb hf hg hr hc
  refine qI_s hh hs fun w x ast st hw hs e => ?_
  exact cmK_s e hE hw (n_yI 0) (fun E' q1 q2 => hg _ _ _ _ _ _ _ _ _ _ q1 n_X_r q2 hl hs hb hf) (fun E' q1 q2 => hg _ _ _ _ _ _ _ _ _ _ q1 n_X_r q2 hl hs hb hf)
noncomputable def hs_21 : HS := fun md go ret call nx a bb k sw n E ls st b => qI st fun wy st => qI st fun wx st => cmK bb n E wx wy (fun E => go a n E ls st b) (fun E => go nx n E ls st b)
theorem ho_21 : HOK 21 hs_21 := by
  intro W hW md h0 n ρ go ret call go' ret' call' dO nf nx a bb k sw E als ast b ls st h hh hE hl hs hb hf hg hr hc
  refine qI_s hh hs fun wy y ast st hy hs e => qI_s e hs fun wx x ast st hx hs e => ?_
  exact cmK_s e hE hx hy (fun E' q1 q2 => hg _ _ _ _ _ _ _ _ _ _ q1 n_X_r q2 hl hs hb hf) (fun E' q1 q2 => hg _ _ _ _ _ _ _ _ _ _ q1 n_X_r q2 hl hs hb hf)
noncomputable def hs_22 : HS := fun md go ret call nx a bb k sw n E ls st b => go a n E ls st b
theorem ho_22 : HOK 22 hs_22 := by
  intro W hW md h0 n ρ go ret call go' ret' call' dO nf nx a bb k sw E als ast b ls st h hh hE hl hs hb hf hg hr hc
  exact hg _ _ _ _ _ _ _ _ _ _ hh n_X_r hE hl hs hb hf
noncomputable def hs_23 : HS := fun md go ret call nx a bb k sw n E ls st b => qR st fun r st => fS b r fun c => Nat.beq c.1 a && ldE n E b r c bb fun n E b w => go nx n E ls (w :: st) b
theorem ho_23 : HOK 23 hs_23 := by
  intro W hW md h0 n ρ go ret call go' ret' call' dO nf nx a bb k sw E als ast b ls st h hh hE hl hs hb hf hg hr hc
  refine qR_s hh hs fun r ast st hs e => ?_
  obtain ⟨c, hc1, e⟩ := fS_s e
  rw [Bool.and_eq_true] at e
  have hC := hb.2.2 r c hc1
  show if (hK h r).1 = a then _ else False
  rw [if_pos (by rw [hC.1]; exact Nat.eq_of_beq_eq_true e.1)]
  obtain ⟨n', ρ', E', b', w, g1, g2, g3, g4, g5⟩ := ldE_s e.2 hE hb hc1
  exact hg _ _ _ _ _ _ _ _ _ _ g1 g2 g3 (n_L_x g2 hl) ⟨_, _, rfl, g5, n_S_x g2 hs⟩ g4 hf
def isYR (w : SV) : Bool := match w with
  | .inl (.inr (.inr _)) => true
  | _ => false
noncomputable def okYF (k : Int) (n : Nat) (E : EV) (w : SV) : Bool := bif eqI k 0 then isYI w else bif eqI k 1 then isYL w else bif eqI k 2 then leQ n E w (false, 0, 1) else bif eqI k 3 then isYR w else false
theorem okYF_s {k : Int} {n : Nat} {E : EV} {ρ : Nat → Int} {w : SV} {v : AV} (h : okYF k n E w = true) (hE : n_E n E ρ) (hw : n_V n ρ w v) : okF k v = true := by
  unfold okYF at h
  rw [eqI_eq, eqI_eq, eqI_eq, eqI_eq] at h
  by_cases c0 : k = 0
  · rw [decide_eq_true c0, cnd_t] at h
    obtain ⟨x, rfl⟩ := isYI_s h hw
    rw [c0]; rfl
  · rw [decide_eq_false c0, cnd_f] at h
    by_cases c1 : k = 1
    · rw [decide_eq_true c1, cnd_t] at h
      obtain ⟨x, rfl⟩ := isYL_s h hw
      rw [c1]; rfl
    · rw [decide_eq_false c1, cnd_f] at h
      by_cases c2 : k = 2
      · rw [decide_eq_true c2, cnd_t] at h
        obtain ⟨x, rfl, x1, x2⟩ := leQ_s h hE hw
        have x1 : (0 : Int) ≤ x := x1
        have x2 : x ≤ 1 := x2
        rw [c2]
        exact okF_2 (by omega)
      · rw [decide_eq_false c2, cnd_f] at h
        by_cases c3 : k = 3
        · rw [decide_eq_true c3, cnd_t] at h
          obtain ⟨-, rfl⟩ := hw
          match w, h with
          | .inl (.inr (.inr x)), _ => rw [c3]; rfl
        · rw [decide_eq_false c3, cnd_f] at h; cases h
noncomputable def hs_24 : HS := fun md go ret call nx a bb k sw n E ls st b => qV st fun w st => qR st fun r st => fS b r fun c => (((Nat.beq c.1 a && Nat.ble (r + 1) 1000000) && (hasN c.2.2.1 bb && (okMd md r bb bb && okW r bb bb))) && okYF k n E w) && go nx n E ls st (sS b r (setE c bb (.inl w)))
theorem ho_24 : HOK 24 hs_24 := by
  intro W hW md h0 n ρ go ret call go' ret' call' dO nf nx a bb k sw E als ast b ls st h hh hE hl hs hb hf hg hr hc
  refine qV_s hh hs fun w v ast st hw hs e => qR_s e hs fun r ast st hs e => ?_
  obtain ⟨c, hc1, e⟩ := fS_s e
  rw [Bool.and_eq_true, Bool.and_eq_true, Bool.and_eq_true, Bool.and_eq_true, Bool.and_eq_true, Bool.and_eq_true, hasN_eq, decide_eq_true_eq, ble_d, decide_eq_true_eq] at e
  have hC := hb.2.2 r c hc1
  show if (hK h r).1 = a ∧ okF k v = true then _ else False
  rw [if_pos ⟨by rw [hC.1]; exact Nat.eq_of_beq_eq_true e.1.1.1.1, okYF_s e.1.2 hE hw⟩]
  exact hg _ _ _ _ _ _ _ _ _ _ e.2 n_X_r hE hl hs (n_H_set hb (by omega) hc1 hw e.1.1.2.1) (n_F_set hW hf (okMd_s e.1.1.2.2.1 (Nat.le_refl _) (Nat.le_refl _)) (Or.inl (okW_s e.1.1.2.2.2 (Nat.le_refl _) (Nat.le_refl _))))
noncomputable def hs_25 : HS := fun md go ret call nx a bb k sw n E ls st b => go nx n E ls (yR (1000000 + a) :: st) b
theorem ho_25 : HOK 25 hs_25 := by
  intro W hW md h0 n ρ go ret call go' ret' call' dO nf nx a bb k sw E als ast b ls st h hh hE hl hs hb hf hg hr hc
  exact hg _ _ _ _ _ _ _ _ _ _ hh n_X_r hE hl ⟨_, _, rfl, n_yR _, hs⟩ hb hf
noncomputable def hs_26 : HS := fun md go ret call nx a bb k sw n E ls st b => qI st fun wi st => qR st fun r st => fS b r fun c => (Nat.beq c.1 11 || Nat.beq c.1 20) && ldA n E b r c wi fun n E b w => isYI w && go nx n E ls (w :: st) b
theorem ho_26 : HOK 26 hs_26 := by
  intro W hW md h0 n ρ go ret call go' ret' call' dO nf nx a bb k sw E als ast b ls st h hh hE hl hs hb hf hg hr hc
  refine qI_s hh hs fun wi i ast st hi hs e => qR_s e hs fun r ast st hs e => ?_
  obtain ⟨c, hc1, e⟩ := fS_s e
  rw [Bool.and_eq_true] at e
  have hC := hb.2.2 r c hc1
  obtain ⟨q1, n', ρ', E', b', w, g1, g2, g3, g4, g5⟩ := ldA_s e.2 hE hb hc1 hi
  rw [Bool.and_eq_true] at g1
  obtain ⟨x, ex⟩ := isYI_s g1.1 g5
  have hkd : c.1 = 11 ∨ c.1 = 20 := (Bool.or_eq_true _ _ ▸ e.1).imp Nat.eq_of_beq_eq_true Nat.eq_of_beq_eq_true
  show if ((hK h r).1 = 11 ∨ (hK h r).1 = 20) ∧ inR i (hK h r).2 = true then vIo False (hV h r i.toNat) _ else False
  rw [hC.1, if_pos ⟨hkd, q1⟩, ex]
  rw [ex] at g5
  exact hg _ _ _ _ _ _ _ _ _ _ g1.2 g2 g3 (n_L_x g2 hl) ⟨_, _, rfl, g5, n_S_x g2 hs⟩ g4 hf
noncomputable def hs_27 : HS := fun md go ret call nx a bb k sw n E ls st b => qI st fun wi st => qR st fun r st => fS b r fun c => (Nat.beq c.1 12) && ldA n E b r c wi fun n E b w => isYL w && go nx n E ls (w :: st) b
theorem ho_27 : HOK 27 hs_27 := by
  intro W hW md h0 n ρ go ret call go' ret' call' dO nf nx a bb k sw E als ast b ls st h hh hE hl hs hb hf hg hr hc
  refine qI_s hh hs fun wi i ast st hi hs e => qR_s e hs fun r ast st hs e => ?_
  obtain ⟨c, hc1, e⟩ := fS_s e
  rw [Bool.and_eq_true] at e
  have hC := hb.2.2 r c hc1
  obtain ⟨q1, n', ρ', E', b', w, g1, g2, g3, g4, g5⟩ := ldA_s e.2 hE hb hc1 hi
  rw [Bool.and_eq_true] at g1
  obtain ⟨x, ex⟩ := isYL_s g1.1 g5
  have hkd : c.1 = 12 := Nat.eq_of_beq_eq_true e.1
  show if ((hK h r).1 = 12) ∧ inR i (hK h r).2 = true then vLo False (hV h r i.toNat) _ else False
  rw [hC.1, if_pos ⟨hkd, q1⟩, ex]
  rw [ex] at g5
  exact hg _ _ _ _ _ _ _ _ _ _ g1.2 g2 g3 (n_L_x g2 hl) ⟨_, _, rfl, g5, n_S_x g2 hs⟩ g4 hf
noncomputable def hs_28 : HS := fun md go ret call nx a bb k sw n E ls st b => qI st fun wi st => qR st fun r st => fS b r fun c => (Nat.beq c.1 13) && ldA n E b r c wi fun n E b w => isYI w && go nx n E ls (w :: st) b
theorem ho_28 : HOK 28 hs_28 := by
  intro W hW md h0 n ρ go ret call go' ret' call' dO nf nx a bb k sw E als ast b ls st h hh hE hl hs hb hf hg hr hc
  refine qI_s hh hs fun wi i ast st hi hs e => qR_s e hs fun r ast st hs e => ?_
  obtain ⟨c, hc1, e⟩ := fS_s e
  rw [Bool.and_eq_true] at e
  have hC := hb.2.2 r c hc1
  obtain ⟨q1, n', ρ', E', b', w, g1, g2, g3, g4, g5⟩ := ldA_s e.2 hE hb hc1 hi
  rw [Bool.and_eq_true] at g1
  obtain ⟨x, ex⟩ := isYI_s g1.1 g5
  have hkd : c.1 = 13 := Nat.eq_of_beq_eq_true e.1
  show if ((hK h r).1 = 13) ∧ inR i (hK h r).2 = true then vIo False (hV h r i.toNat) _ else False
  rw [hC.1, if_pos ⟨hkd, q1⟩, ex]
  rw [ex] at g5
  exact hg _ _ _ _ _ _ _ _ _ _ g1.2 g2 g3 (n_L_x g2 hl) ⟨_, _, rfl, g5, n_S_x g2 hs⟩ g4 hf
theorem isYR_s {n : Nat} {ρ : Nat → Int} {w : SV} {v : AV} (h : isYR w = true) (hv : n_V n ρ w v) : ∃ x, v = .inr (.inr x) := by
  obtain ⟨-, rfl⟩ := hv
  match w, h with
  | .inl (.inr (.inr x)), _ => exact ⟨x, rfl⟩
noncomputable def hs_29 : HS := fun md go ret call nx a bb k sw n E ls st b => qI st fun wi st => qR st fun r st => fS b r fun c => (Nat.beq c.1 14) && ldA n E b r c wi fun n E b w => isYR w && go nx n E ls (w :: st) b
theorem ho_29 : HOK 29 hs_29 := by
  intro W hW md h0 n ρ go ret call go' ret' call' dO nf nx a bb k sw E als ast b ls st h hh hE hl hs hb hf hg hr hc
  refine qI_s hh hs fun wi i ast st hi hs e => qR_s e hs fun r ast st hs e => ?_
  obtain ⟨c, hc1, e⟩ := fS_s e
  rw [Bool.and_eq_true] at e
  have hC := hb.2.2 r c hc1
  obtain ⟨q1, n', ρ', E', b', w, g1, g2, g3, g4, g5⟩ := ldA_s e.2 hE hb hc1 hi
  rw [Bool.and_eq_true] at g1
  obtain ⟨x, ex⟩ := isYR_s g1.1 g5
  have hkd : c.1 = 14 := Nat.eq_of_beq_eq_true e.1
  show if ((hK h r).1 = 14) ∧ inR i (hK h r).2 = true then vOo False (hV h r i.toNat) _ else False
  rw [hC.1, if_pos ⟨hkd, q1⟩, ex]
  rw [ex] at g5
  exact hg _ _ _ _ _ _ _ _ _ _ g1.2 g2 g3 (n_L_x g2 hl) ⟨_, _, rfl, g5, n_S_x g2 hs⟩ g4 hf
noncomputable def hs_30 : HS := fun md go ret call nx a bb k sw n E ls st b => qI st fun w st => qI st fun wi st => qR st fun r st => fS b r fun c => (Nat.beq c.1 11) && stA md n E b r c wi w fun E b => go nx n E ls st b
theorem ho_30 : HOK 30 hs_30 := by
  intro W hW md h0 n ρ go ret call go' ret' call' dO nf nx a bb k sw E als ast b ls st h hh hE hl hs hb hf hg hr hc
  refine qI_s hh hs fun w x ast st hw hs e => qI_s e hs fun wi i ast st hi hs e => qR_s e hs fun r ast st hs e => ?_
  obtain ⟨c, hc1, e⟩ := fS_s e
  rw [Bool.and_eq_true] at e
  have hC := hb.2.2 r c hc1
  obtain ⟨q1, q2, q4, E', b', g1, g2, g3⟩ := stA_s e.2 hE hb hc1 hi hw
  show if (hK h r).1 = 11 ∧ inR i (hK h r).2 = true then _ else False
  rw [hC.1, if_pos ⟨Nat.eq_of_beq_eq_true e.1, q1⟩]
  exact hg _ _ _ _ _ _ _ _ _ _ g1 n_X_r g2 hl hs g3 (n_F_set hW hf q2 q4)
noncomputable def hs_31 : HS := fun md go ret call nx a bb k sw n E ls st b => qL st fun w st => qI st fun wi st => qR st fun r st => fS b r fun c => (Nat.beq c.1 12) && stA md n E b r c wi w fun E b => go nx n E ls st b
theorem ho_31 : HOK 31 hs_31 := by
  intro W hW md h0 n ρ go ret call go' ret' call' dO nf nx a bb k sw E als ast b ls st h hh hE hl hs hb hf hg hr hc
  refine qL_s hh hs fun w x ast st hw hs e => qI_s e hs fun wi i ast st hi hs e => qR_s e hs fun r ast st hs e => ?_
  obtain ⟨c, hc1, e⟩ := fS_s e
  rw [Bool.and_eq_true] at e
  have hC := hb.2.2 r c hc1
  obtain ⟨q1, q2, q4, E', b', g1, g2, g3⟩ := stA_s e.2 hE hb hc1 hi hw
  show if (hK h r).1 = 12 ∧ inR i (hK h r).2 = true then _ else False
  rw [hC.1, if_pos ⟨Nat.eq_of_beq_eq_true e.1, q1⟩]
  exact hg _ _ _ _ _ _ _ _ _ _ g1 n_X_r g2 hl hs g3 (n_F_set hW hf q2 q4)
noncomputable def hs_32 : HS := fun md go ret call nx a bb k sw n E ls st b => qI st fun w st => qI st fun wi st => qR st fun r st => fS b r fun c => (Nat.beq c.1 13 && leQ n E w (false, 0, 1)) && stA md n E b r c wi w fun E b => go nx n E ls st b
theorem ho_32 : HOK 32 hs_32 := by
  intro W hW md h0 n ρ go ret call go' ret' call' dO nf nx a bb k sw E als ast b ls st h hh hE hl hs hb hf hg hr hc
  refine qI_s hh hs fun w x ast st hw hs e => qI_s e hs fun wi i ast st hi hs e => qR_s e hs fun r ast st hs e => ?_
  obtain ⟨c, hc1, e⟩ := fS_s e
  rw [Bool.and_eq_true, Bool.and_eq_true] at e
  have hC := hb.2.2 r c hc1
  obtain ⟨q1, q2, q4, E', b', g1, g2, g3⟩ := stA_s e.2 hE hb hc1 hi hw
  obtain ⟨y, ey, y1, y2⟩ := leQ_s e.1.2 hE hw
  have ey : (Sum.inl x : AV) = Sum.inl y := ey
  have ey := Sum.inl.inj ey
  have y1 : (0 : Int) ≤ y := y1
  have y2 : y ≤ 1 := y2
  show if (hK h r).1 = 13 ∧ inR i (hK h r).2 = true ∧ is01 x = true then _ else False
  rw [hC.1, if_pos ⟨Nat.eq_of_beq_eq_true e.1.1, q1, decide_eq_true (by omega)⟩]
  exact hg _ _ _ _ _ _ _ _ _ _ g1 n_X_r g2 hl hs g3 (n_F_set hW hf q2 q4)
noncomputable def hs_34 : HS := fun md go ret call nx a bb k sw n E ls st b => qR st fun r st => fS b r fun c => (Nat.beq c.1 11 || Nat.beq c.1 20) && go nx n E ls (yI (c.2.1 : Int) :: st) b
theorem ho_34 : HOK 34 hs_34 := by
  intro W hW md h0 n ρ go ret call go' ret' call' dO nf nx a bb k sw E als ast b ls st h hh hE hl hs hb hf hg hr hc
  refine qR_s hh hs fun r ast st hs e => ?_
  obtain ⟨c, hc1, e⟩ := fS_s e
  rw [Bool.and_eq_true] at e
  have hC := hb.2.2 r c hc1
  have hkd : c.1 = 11 ∨ c.1 = 20 := (Bool.or_eq_true _ _ ▸ e.1).imp Nat.eq_of_beq_eq_true Nat.eq_of_beq_eq_true
  show if (hK h r).1 = 11 ∨ (hK h r).1 = 20 then _ else False
  rw [hC.1, if_pos hkd]
  exact hg _ _ _ _ _ _ _ _ _ _ e.2 n_X_r hE hl ⟨_, _, rfl, n_yI _, hs⟩ hb hf
noncomputable def hs_38 : HS := fun md go ret call nx a bb k sw n E ls st b => popY bb st [] fun as rest => Nat.ble (stWY rest) 8 && call a n E as b fun n E r b => go nx n E ls (r.toList ++ rest) b
theorem ho_38 : HOK 38 hs_38 := by
  intro W hW md h0 n ρ go ret call go' ret' call' dO nf nx a bb k sw E als ast b ls st h hh hE hl hs hb hf hg hr hc
  obtain ⟨as, rest, e, q1, q2, q3⟩ := popY_s bb hh hs (show n_S n ρ [] [] from rfl)
  rw [List.append_nil] at q2
  rw [Bool.and_eq_true, ble_d, decide_eq_true_eq] at e
  have hw : bb ≤ st.length ∧ stW (st.drop bb) ≤ 8 := ⟨q1, by rw [stWY_s q3]; exact e.1⟩
  show if bb ≤ st.length ∧ stW (st.drop bb) ≤ 8 then _ else False
  rw [if_pos hw]
  exact hc _ _ _ _ _ _ _ _ _ _ e.2 n_X_r hE q2 hb hf (fun n' ρ' E' r b v h e hx hE ho hb hf => hg _ _ _ _ _ _ _ _ _ _ e hx hE (n_L_x hx hl) (n_S_opt ho (n_S_x hx q3)) hb hf)
noncomputable def hs_39 : HS := fun md go ret call nx a bb k sw n E ls st b => (match st with
    | [] => ret n E none b
    | _ => false)
theorem ho_39 : HOK 39 hs_39 := by
  intro W hW md h0 n ρ go ret call go' ret' call' dO nf nx a bb k sw E als ast b ls st h hh hE hl hs hb hf hg hr hc
  unfold hs_39 at hh
  split at hh
  · have hs : st = [] := hs
    subst hs
    exact hr _ _ _ _ _ _ _ hh n_X_r hE rfl hb hf
  · cases hh
noncomputable def hs_40 : HS := fun md go ret call nx a bb k sw n E ls st b => (match st with
    | [w] => (isYI w && (Nat.beq a 0 || leQ n E w (false, 0, 1))) && ret n E (some w) b
    | _ => false)
theorem ho_40 : HOK 40 hs_40 := by
  intro W hW md h0 n ρ go ret call go' ret' call' dO nf nx a bb k sw E als ast b ls st h hh hE hl hs hb hf hg hr hc
  unfold hs_40 at hh
  split at hh
  · obtain ⟨v, vs, rfl, hv, hs⟩ := hs
    have hs : vs = [] := hs
    subst hs
    rw [Bool.and_eq_true, Bool.and_eq_true, Bool.or_eq_true] at hh
    obtain ⟨x, rfl⟩ := isYI_s hh.1.1 hv
    show if a = 0 ∨ is01 x = true then _ else False
    rw [if_pos (hh.1.2.imp Nat.eq_of_beq_eq_true (fun z => by
      obtain ⟨y, ey, y1, y2⟩ := leQ_s z hE hv
      have ey := Sum.inl.inj (show (Sum.inl x : AV) = Sum.inl y from ey)
      have y1 : (0 : Int) ≤ y := y1
      have y2 : y ≤ 1 := y2
      exact decide_eq_true (by omega)))]
    exact hr _ _ _ _ _ _ _ hh.2 n_X_r hE ⟨_, rfl, hv⟩ hb hf
  · cases hh
noncomputable def hs_41 : HS := fun md go ret call nx a bb k sw n E ls st b => (match st with
    | [w] => isYL w && ret n E (some w) b
    | _ => false)
theorem ho_41 : HOK 41 hs_41 := by
  intro W hW md h0 n ρ go ret call go' ret' call' dO nf nx a bb k sw E als ast b ls st h hh hE hl hs hb hf hg hr hc
  unfold hs_41 at hh
  split at hh
  · obtain ⟨v, vs, rfl, hv, hs⟩ := hs
    have hs : vs = [] := hs
    subst hs
    rw [Bool.and_eq_true] at hh
    obtain ⟨x, rfl⟩ := isYL_s hh.1 hv
    exact hr _ _ _ _ _ _ _ hh.2 n_X_r hE ⟨_, rfl, hv⟩ hb hf
  · cases hh
noncomputable def hs_42 : HS := fun md go ret call nx a bb k sw n E ls st b => (match st with
    | [.inl (.inr (.inr (some x)))] => ret n E (some (yR x)) b
    | _ => false)
theorem ho_42 : HOK 42 hs_42 := by
  intro W hW md h0 n ρ go ret call go' ret' call' dO nf nx a bb k sw E als ast b ls st h hh hE hl hs hb hf hg hr hc
  unfold hs_42 at hh
  split at hh
  · obtain ⟨v, vs, rfl, hv, hs⟩ := hs
    have hs : vs = [] := hs
    have hv' : v = _ := hv.2
    subst hs hv'
    exact hr _ _ _ _ _ _ _ hh n_X_r hE ⟨_, rfl, hv⟩ hb hf
  · cases hh
theorem swF_c (x : Int) (d : Nat) (sw : List (Int × Nat)) : (∃ q, q ∈ sw ∧ x = q.1 ∧ swF x d sw = q.2) ∨ swF x d sw = d := by
  induction sw with
  | nil => exact Or.inr rfl
  | cons q sw ih =>
    obtain ⟨k, t⟩ := q
    by_cases c : x = k
    · exact Or.inl ⟨(k, t), List.mem_cons_self, c, if_pos c⟩
    · have e : swF x d ((k, t) :: sw) = swF x d sw := if_neg c
      rw [e]
      rcases ih with ⟨q, q1, q2, q3⟩ | q
      · exact Or.inl ⟨q, List.mem_cons_of_mem _ q1, q2, q3⟩
      · exact Or.inr q
noncomputable def hs_43 : HS := fun md go ret call nx a bb k sw n E ls st b => qI st fun w st => aLL sw (fun e => req n E w (yI e.1) fun E => go e.2 n E ls st b) && go a n E ls st b
theorem ho_43 : HOK 43 hs_43 := by
  intro W hW md h0 n ρ go ret call go' ret' call' dO nf nx a bb k sw E als ast b ls st h hh hE hl hs hb hf hg hr hc
  refine qI_s hh hs fun w x ast st hw hs e => ?_
  rw [Bool.and_eq_true] at e
  show go' (swF x a sw) ls st h
  rcases swF_c x a sw with ⟨q, q1, q2, q3⟩ | q
  · obtain ⟨E', g1, g2⟩ := req_s (aLL_s e.1 q q1) hE hw (n_yI q.1) q2
    rw [q3]
    exact hg _ _ _ _ _ _ _ _ _ _ g1 n_X_r g2 hl hs hb hf
  · rw [q]
    exact hg _ _ _ _ _ _ _ _ _ _ e.2 n_X_r hE hl hs hb hf
noncomputable def hs_46 : HS := fun md go ret call nx a bb k sw n E ls st b => popY bb st [] fun as rest => Nat.ble (stWY rest) 8 && qR as fun q _ => fS b q fun c => Nat.beq c.1 k.toNat && call a n E as b fun n E r b => go nx n E ls (r.toList ++ rest) b
theorem ho_46 : HOK 46 hs_46 := by
  intro W hW md h0 n ρ go ret call go' ret' call' dO nf nx a bb k sw E als ast b ls st h hh hE hl hs hb hf hg hr hc
  obtain ⟨as, rest, e, q1, q2, q3⟩ := popY_s bb hh hs (show n_S n ρ [] [] from rfl)
  rw [List.append_nil] at q2
  rw [Bool.and_eq_true, ble_d, decide_eq_true_eq] at e
  have hw : bb ≤ st.length ∧ stW (st.drop bb) ≤ 8 := ⟨q1, by rw [stWY_s q3]; exact e.1⟩
  show if bb ≤ st.length ∧ stW (st.drop bb) ≤ 8 then _ else False
  rw [if_pos hw]
  refine qR_s e.2 q2 fun q _ _ _ e => ?_
  obtain ⟨c, hc1, e⟩ := fS_s e
  rw [Bool.and_eq_true] at e
  have hC := hb.2.2 q c hc1
  show if (hK h q).1 = k.toNat then _ else False
  rw [hC.1, if_pos (Nat.eq_of_beq_eq_true e.1)]
  exact hc _ _ _ _ _ _ _ _ _ _ e.2 n_X_r hE q2 hb hf (fun n' ρ' E' r b v h e hx hE ho hb hf => hg _ _ _ _ _ _ _ _ _ _ e hx hE (n_L_x hx hl) (n_S_opt ho (n_S_x hx q3)) hb hf)
noncomputable def hs_47 : HS := fun md go ret call nx a bb k sw n E ls st b => popY bb st [] fun as rest => Nat.ble (stWY rest) 8 && qR as fun _ _ => call a n E as b fun n E r b => go nx n E ls (r.toList ++ rest) b
theorem ho_47 : HOK 47 hs_47 := by
  intro W hW md h0 n ρ go ret call go' ret' call' dO nf nx a bb k sw E als ast b ls st h hh hE hl hs hb hf hg hr hc
  obtain ⟨as, rest, e, q1, q2, q3⟩ := popY_s bb hh hs (show n_S n ρ [] [] from rfl)
  rw [List.append_nil] at q2
  rw [Bool.and_eq_true, ble_d, decide_eq_true_eq] at e
  have hw : bb ≤ st.length ∧ stW (st.drop bb) ≤ 8 := ⟨q1, by rw [stWY_s q3]; exact e.1⟩
  show if bb ≤ st.length ∧ stW (st.drop bb) ≤ 8 then _ else False
  rw [if_pos hw]
  exact qR_s e.2 q2 fun q _ _ _ e => hc _ _ _ _ _ _ _ _ _ _ e n_X_r hE q2 hb hf (fun n' ρ' E' r b v h e hx hE ho hb hf => hg _ _ _ _ _ _ _ _ _ _ e hx hE (n_L_x hx hl) (n_S_opt ho (n_S_x hx q3)) hb hf)
noncomputable def hs_48 : HS := fun md go ret call nx a bb k sw n E ls st b => qR st fun _ st => Nat.ble (stWY st) 8 && go nx n E ls st b
theorem ho_48 : HOK 48 hs_48 := by
  intro W hW md h0 n ρ go ret call go' ret' call' dO nf nx a bb k sw E als ast b ls st h hh hE hl hs hb hf hg hr hc
  refine qR_s hh hs fun r ast st hs e => ?_
  rw [Bool.and_eq_true, ble_d, decide_eq_true_eq] at e
  show if stW st ≤ 8 then _ else False
  rw [if_pos (by rw [stWY_s hs]; exact e.1)]
  exact hg _ _ _ _ _ _ _ _ _ _ e.2 n_X_r hE hl hs hb hf
noncomputable def hs_49 : HS := fun md go ret call nx a bb k sw n E ls st b => qI st fun wy st => qI st fun wx st => Nat.ble (stWY st) 8 && sR n E wx fun xl xh => sR n E wy fun yl yh => bif !ltI xl yh then go nx n E ls (wx :: st) b else bif !ltI yl xh then go nx n E ls (wy :: st) b else mkN false n E (bif ltI xl yl then yl else xl) (bif ltI xh yh then yh else xh) 1 fun n E w => go nx n E ls (w :: st) b
theorem ho_49 : HOK 49 hs_49 := by
  intro W hW md h0 n ρ go ret call go' ret' call' dO nf nx a bb k sw E als ast b ls st h hh hE hl hs hb hf hg hr hc
  refine qI_s hh hs fun wy y ast st hy hs e => qI_s e hs fun wx x ast st hx hs e => ?_
  rw [Bool.and_eq_true, ble_d, decide_eq_true_eq] at e
  show if stW st ≤ 8 then _ else False
  rw [if_pos (by rw [stWY_s hs]; exact e.1)]
  obtain ⟨xl, xh, e, x1, x2⟩ := sR_s e.2 hE hx
  obtain ⟨yl, yh, e, y1, y2⟩ := sR_s e hE hy
  have x1 : xl ≤ x := x1
  have x2 : x ≤ xh := x2
  have y1 : yl ≤ y := y1
  have y2 : y ≤ yh := y2
  rw [ltI_eq, ltI_eq, ltI_eq, ltI_eq, not_d, not_d] at e
  by_cases c1 : ¬ xl < yh
  · rw [decide_eq_true c1, cnd_t] at e
    rw [show max x y = x by omega]
    exact hg _ _ _ _ _ _ _ _ _ _ e n_X_r hE hl ⟨_, _, rfl, hx, hs⟩ hb hf
  · rw [decide_eq_false c1, cnd_f] at e
    by_cases c2 : ¬ yl < xh
    · rw [decide_eq_true c2, cnd_t] at e
      rw [show max x y = y by omega]
      exact hg _ _ _ _ _ _ _ _ _ _ e n_X_r hE hl ⟨_, _, rfl, hy, hs⟩ hb hf
    · rw [decide_eq_false c2, cnd_f] at e
      obtain ⟨n', ρ', E', w', g1, g2, g3, g4⟩ := mkN_s (x := max x y) e hE (by
        by_cases c3 : xl < yl
        · rw [decide_eq_true c3, cnd_t]; omega
        · rw [decide_eq_false c3, cnd_f]; omega) (by
        by_cases c3 : xh < yh
        · rw [decide_eq_true c3, cnd_t]; omega
        · rw [decide_eq_false c3, cnd_f]; omega) (Int.one_dvd _)
      exact hg _ _ _ _ _ _ _ _ _ _ g1 g2 g3 (n_L_x g2 hl) ⟨_, _, rfl, g4, n_S_x g2 hs⟩ (n_H_x g2 hb) hf
noncomputable def hs_50 : HS := fun md go ret call nx a bb k sw n E ls st b => qI st fun wy st => qI st fun wx st => Nat.ble (stWY st) 8 && sR n E wx fun xl xh => sR n E wy fun yl yh => bif !ltI yl xh then go nx n E ls (wx :: st) b else bif !ltI xl yh then go nx n E ls (wy :: st) b else mkN false n E (bif ltI xl yl then xl else yl) (bif ltI xh yh then xh else yh) 1 fun n E w => go nx n E ls (w :: st) b
theorem ho_50 : HOK 50 hs_50 := by
  intro W hW md h0 n ρ go ret call go' ret' call' dO nf nx a bb k sw E als ast b ls st h hh hE hl hs hb hf hg hr hc
  refine qI_s hh hs fun wy y ast st hy hs e => qI_s e hs fun wx x ast st hx hs e => ?_
  rw [Bool.and_eq_true, ble_d, decide_eq_true_eq] at e
  show if stW st ≤ 8 then _ else False
  rw [if_pos (by rw [stWY_s hs]; exact e.1)]
  obtain ⟨xl, xh, e, x1, x2⟩ := sR_s e.2 hE hx
  obtain ⟨yl, yh, e, y1, y2⟩ := sR_s e hE hy
  have x1 : xl ≤ x := x1
  have x2 : x ≤ xh := x2
  have y1 : yl ≤ y := y1
  have y2 : y ≤ yh := y2
  rw [ltI_eq, ltI_eq, ltI_eq, ltI_eq, not_d, not_d] at e
  by_cases c1 : ¬ yl < xh
  · rw [decide_eq_true c1, cnd_t] at e
    rw [show min x y = x by omega]
    exact hg _ _ _ _ _ _ _ _ _ _ e n_X_r hE hl ⟨_, _, rfl, hx, hs⟩ hb hf
  · rw [decide_eq_false c1, cnd_f] at e
    by_cases c2 : ¬ xl < yh
    · rw [decide_eq_true c2, cnd_t] at e
      rw [show min x y = y by omega]
      exact hg _ _ _ _ _ _ _ _ _ _ e n_X_r hE hl ⟨_, _, rfl, hy, hs⟩ hb hf
    · rw [decide_eq_false c2, cnd_f] at e
      obtain ⟨n', ρ', E', w', g1, g2, g3, g4⟩ := mkN_s (x := min x y) e hE (by
        by_cases c3 : xl < yl
        · rw [decide_eq_true c3, cnd_t]; omega
        · rw [decide_eq_false c3, cnd_f]; omega) (by
        by_cases c3 : xh < yh
        · rw [decide_eq_true c3, cnd_t]; omega
        · rw [decide_eq_false c3, cnd_f]; omega) (Int.one_dvd _)
      exact hg _ _ _ _ _ _ _ _ _ _ g1 g2 g3 (n_L_x g2 hl) ⟨_, _, rfl, g4, n_S_x g2 hs⟩ (n_H_x g2 hb) hf
noncomputable def hs_51 : HS := fun md go ret call nx a bb k sw n E ls st b => qI st fun w st => Nat.ble (stWY st) 8 && sR n E w fun l u => bif in32 l u && ltI (-2147483648) l then mkN false n E (bif ltI 0 l then l else 0) (bif ltI u (-l) then -l else u) 1 fun n E w => go nx n E ls (w :: st) b else mkN false n E (-2147483648) 2147483647 1 fun n E w => go nx n E ls (w :: st) b
theorem ho_51 : HOK 51 hs_51 := by
  intro W hW md h0 n ρ go ret call go' ret' call' dO nf nx a bb k sw E als ast b ls st h hh hE hl hs hb hf hg hr hc
  refine qI_s hh hs fun w x ast st hw hs e => ?_
  rw [Bool.and_eq_true, ble_d, decide_eq_true_eq] at e
  show if stW st ≤ 8 then _ else False
  rw [if_pos (by rw [stWY_s hs]; exact e.1)]
  obtain ⟨l, u, e, x1, x2⟩ := sR_s e.2 hE hw
  have x1 : l ≤ x := x1
  have x2 : x ≤ u := x2
  cases c : (in32 l u && ltI (-2147483648) l) with
  | true =>
    rw [c, cnd_t] at e
    rw [Bool.and_eq_true, ltI_eq, decide_eq_true_eq] at c
    have b0 := in32_s c.1
    rw [ltI_eq, ltI_eq] at e
    have ex : w32 (if 0 ≤ x then x else -x) = if 0 ≤ x then x else -x := by
      split
      · exact w32_in (by omega) (by omega)
      · exact w32_in (by omega) (by omega)
    rw [ex]
    obtain ⟨n', ρ', E', w', g1, g2, g3, g4⟩ := mkN_s (x := if 0 ≤ x then x else -x) e hE (by
      by_cases c3 : 0 < l
      · rw [decide_eq_true c3, cnd_t]; split <;> omega
      · rw [decide_eq_false c3, cnd_f]; split <;> omega) (by
      by_cases c3 : u < -l
      · rw [decide_eq_true c3, cnd_t]; split <;> omega
      · rw [decide_eq_false c3, cnd_f]; split <;> omega) (Int.one_dvd _)
    exact hg _ _ _ _ _ _ _ _ _ _ g1 g2 g3 (n_L_x g2 hl) ⟨_, _, rfl, g4, n_S_x g2 hs⟩ (n_H_x g2 hb) hf
  | false =>
    rw [c, cnd_f] at e
    obtain ⟨n', ρ', E', w', g1, g2, g3, g4⟩ := mkN_s e hE (w32_b _).1 (w32_b _).2 (Int.one_dvd _)
    exact hg _ _ _ _ _ _ _ _ _ _ g1 g2 g3 (n_L_x g2 hl) ⟨_, _, rfl, g4, n_S_x g2 hs⟩ (n_H_x g2 hb) hf
def is0 (w : SV) : Bool := match w with
  | .inl (.inl x) => eqI x 0
  | _ => false
theorem is0_s {n : Nat} {ρ : Nat → Int} {w : SV} {x : Int} (h : is0 w = true) (hw : n_V n ρ w (.inl x)) : x = 0 := by
  match w, h, hw with
  | .inl (.inl y), h, hw =>
    have h : eqI y 0 = true := h
    rw [eqI_eq, decide_eq_true_eq] at h
    rw [n_c hw]; exact h
/-- what is known of the second row of numbers is known of the first -/
noncomputable def sub_R (r1 r2 : List RG) : Bool := aLL r2 fun r => r1.any fun q => decide (q.1 ≤ r.1 ∧ r.2.1 ≤ q.2.1 ∧ q.2.2 = r.2.2)
theorem n_H_cpy {n m : Nat} {ρ : Nat → Int} {h : AH} {b : SB} {r q : Nat} {c1 c2 : SC} (hb : n_H n ρ b h) (h1 : gS b r = some c1) (h2 : gS b q = some c2) (hp : (hasN c2.2.2.1 0 == false) = true) (hr : sub_R c1.2.2.2 c2.2.2.2 = true) : n_H n ρ b (hCpy h r 0 q 0 m) := by
  refine ⟨hb.1, hb.2.1, fun k c hc => ?_⟩
  have hC := hb.2.2 k c hc
  have hv : ∀ i, hV (hCpy h r 0 q 0 m) k i = if k = q ∧ 0 ≤ i ∧ i < 0 + m then hV h r (0 + (i - 0)) else hV h k i := fun i => rfl
  by_cases z : k = q
  · subst z
    rw [h2] at hc
    cases hc
    rw [hasN_eq] at hp
    have hp : ¬ 0 < c2.2.2.1.length := fun y => by rw [decide_eq_true y] at hp; cases hp
    refine ⟨hC.1, fun i e he => ?_, fun g hg => ⟨(hC.2.2 g hg).1, fun i x i1 i2 hx => ?_⟩⟩
    · have : i < c2.2.2.1.length := by
        rcases Nat.lt_or_ge i c2.2.2.1.length with y | y
        · exact y
        · rw [List.getElem?_eq_none y] at he; cases he
      omega
    · rw [hv i]
      split
      · have := aLL_s hr g hg
        obtain ⟨g', g1, g2⟩ := List.any_eq_true.mp this
        rw [decide_eq_true_eq] at g2
        have hG := ((hb.2.2 r c1 h1).2.2 g' g1).2
        rw [show 0 + (i - 0) = i by omega]
        exact hG i x (by omega) (by omega) (by rw [g2.2.2]; exact hx)
      · exact (hC.2.2 g hg).2 i x i1 i2 hx
  · have hv' : ∀ i, hV (hCpy h r 0 q 0 m) k i = hV h k i := fun i => by rw [hv i, if_neg (fun y => z y.1)]
    exact ⟨hC.1, fun i e he => by rw [hv' i]; exact hC.2.1 i e he, fun g hg => ⟨(hC.2.2 g hg).1, fun i x i1 i2 hx => by rw [hv' i]; exact (hC.2.2 g hg).2 i x i1 i2 hx⟩⟩
noncomputable def hs_45 : HS := fun md go ret call nx a bb k sw n E ls st b => qI st fun wn st => qI st fun wd st => qR st fun q st => qI st fun ws st => qR st fun r st => fS b r fun c1 => fS b q fun c2 => ((((Nat.beq c1.1 11 || Nat.beq c1.1 12) && Nat.beq c2.1 c1.1) && ((Nat.ble (q + 1) 1000000 && (okMd md q 0 c2.2.1 && okW q 0 c2.2.1)) && Nat.ble (stWY st) 8)) && ((is0 wd && is0 ws) && (hasN c2.2.2.1 0 == false && sub_R c1.2.2.2 c2.2.2.2))) && (sR n E wn fun l u => (!ltI l 0 && (!ltI (c1.2.1 : Int) u && !ltI (c2.2.1 : Int) u)) && go nx n E ls st b)
theorem ho_45 : HOK 45 hs_45 := by
  intro W hW md h0 n ρ go ret call go' ret' call' dO nf nx a bb k sw E als ast b ls st h hh hE hl hs hb hf hg hr hc
  refine qI_s hh hs fun wn m ast st hn hs e => qI_s e hs fun wd dp ast st hd hs e => qR_s e hs fun q ast st hs e => qI_s e hs fun ws sp ast st hsp hs e => qR_s e hs fun r ast st hs e => ?_
  obtain ⟨c1, hc1, e⟩ := fS_s e
  obtain ⟨c2, hc2, e⟩ := fS_s e
  rw [Bool.and_eq_true] at e
  obtain ⟨f, e⟩ := e
  obtain ⟨l, u, e, n1, n2⟩ := sR_s e hE hn
  have n1 : l ≤ m := n1
  have n2 : m ≤ u := n2
  rw [Bool.and_eq_true, Bool.and_eq_true, Bool.and_eq_true, ltI_eq, ltI_eq, ltI_eq, not_d, not_d, not_d, decide_eq_true_eq, decide_eq_true_eq, decide_eq_true_eq] at e
  rw [Bool.and_eq_true, Bool.and_eq_true, Bool.and_eq_true, Bool.and_eq_true, Bool.and_eq_true, Bool.and_eq_true, Bool.and_eq_true, Bool.and_eq_true, Bool.and_eq_true, Bool.or_eq_true, ble_d, ble_d, decide_eq_true_eq, decide_eq_true_eq] at f
  obtain ⟨⟨⟨f1, f2⟩, ⟨f3, f4, f10⟩, f5⟩, ⟨f6, f7⟩, f8, f9⟩ := f
  have f1 := f1.imp Nat.eq_of_beq_eq_true Nat.eq_of_beq_eq_true
  have f2 := Nat.eq_of_beq_eq_true f2
  have hC1 := hb.2.2 r c1 hc1
  have hC2 := hb.2.2 q c2 hc2
  have ed := is0_s f6 hd
  have es := is0_s f7 hsp
  subst ed es
  show if ((hK h r).1 = 11 ∨ (hK h r).1 = 12) ∧ (hK h q).1 = (hK h r).1 ∧ 0 ≤ m ∧ (0 : Int) ≤ 0 ∧ (0 : Int) ≤ 0 ∧ 0 + m ≤ (hK h r).2 ∧ 0 + m ≤ (hK h q).2 ∧ stW st ≤ 8 then _ else False
  rw [hC1.1, hC2.1, if_pos ⟨f1, f2, by omega, by omega, by omega, by show 0 + m ≤ (c1.2.1 : Int); omega, by show 0 + m ≤ (c2.2.1 : Int); omega, by rw [stWY_s hs]; exact f5⟩]
  refine hg _ _ _ _ _ _ _ _ _ _ e.2 n_X_r hE hl hs (n_H_cpy hb hc1 hc2 f8 f9) ⟨⟨hf.1.1, hW h _ (fun k' i' hin => ?_) hf.1.2⟩, fun k' i' hn' => ?_⟩
  · show (if k' = q ∧ 0 ≤ i' ∧ i' < 0 + m.toNat then hV h r (0 + (i' - 0)) else hV h k' i') = hV h k' i'
    rw [if_neg (fun z => okW_s f10 (Nat.zero_le i') (by omega) (by rw [← z.1]; exact hin))]
  have hne : ¬ (k' = q ∧ 0 ≤ i' ∧ i' < 0 + m.toNat) := fun z => hn' (by rw [z.1]; exact okMd_s f4 (Nat.zero_le _) (by omega))
  show (if k' = q ∧ 0 ≤ i' ∧ i' < 0 + m.toNat then hV h r (0 + (i' - 0)) else hV h k' i') = hV h0 k' i'
  rw [if_neg hne]
  exact hf.2 k' i' hn'
noncomputable def hsG (op : Nat) : Option HS := match op with
  | 0 => some hs_0
  | 1 => some hs_1
  | 2 => some hs_2
  | 3 => some hs_3
  | 4 => some hs_4
  | 5 => some hs_5
  | 6 => some hs_6
  | 7 => some hs_7
  | 8 => some hs_8
  | 9 => some hs_9
  | 10 => some hs_10
  | 11 => some hs_11
  | 12 => some hs_12
  | 13 => some hs_13
  | 14 => some hs_14
  | 15 => some hs_15
  | 16 => some hs_16
  | 17 => some hs_17
  | 18 => some hs_18
  | 19 => some hs_19
  | 20 => some hs_20
  | 21 => some hs_21
  | 22 => some hs_22
  | 23 => some hs_23
  | 24 => some hs_24
  | 25 => some hs_25
  | 26 => some hs_26
  | 27 => some hs_27
  | 28 => some hs_28
  | 29 => some hs_29
  | 30 => some hs_30
  | 31 => some hs_31
  | 32 => some hs_32
  | 34 => some hs_34
  | 38 => some hs_38
  | 39 => some hs_39
  | 40 => some hs_40
  | 41 => some hs_41
  | 42 => some hs_42
  | 43 => some hs_43
  | 45 => some hs_45
  | 46 => some hs_46
  | 47 => some hs_47
  | 48 => some hs_48
  | 49 => some hs_49
  | 50 => some hs_50
  | 51 => some hs_51
  | _ => none
theorem hs_ok (op : Nat) (f : HS) (h : hsG op = some f) : HOK op f := by
  unfold hsG at h
  split at h
  · cases h; exact ho_0
  · cases h; exact ho_1
  · cases h; exact ho_2
  · cases h; exact ho_3
  · cases h; exact ho_4
  · cases h; exact ho_5
  · cases h; exact ho_6
  · cases h; exact ho_7
  · cases h; exact ho_8
  · cases h; exact ho_9
  · cases h; exact ho_10
  · cases h; exact ho_11
  · cases h; exact ho_12
  · cases h; exact ho_13
  · cases h; exact ho_14
  · cases h; exact ho_15
  · cases h; exact ho_16
  · cases h; exact ho_17
  · cases h; exact ho_18
  · cases h; exact ho_19
  · cases h; exact ho_20
  · cases h; exact ho_21
  · cases h; exact ho_22
  · cases h; exact ho_23
  · cases h; exact ho_24
  · cases h; exact ho_25
  · cases h; exact ho_26
  · cases h; exact ho_27
  · cases h; exact ho_28
  · cases h; exact ho_29
  · cases h; exact ho_30
  · cases h; exact ho_31
  · cases h; exact ho_32
  · cases h; exact ho_34
  · cases h; exact ho_38
  · cases h; exact ho_39
  · cases h; exact ho_40
  · cases h; exact ho_41
  · cases h; exact ho_42
  · cases h; exact ho_43
  · cases h; exact ho_45
  · cases h; exact ho_46
  · cases h; exact ho_47
  · cases h; exact ho_48
  · cases h; exact ho_49
  · cases h; exact ho_50
  · cases h; exact ho_51
  · cases h
