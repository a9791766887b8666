/-! measures -/
abbrev MC : Type := Nat ⊕ (Nat × Bool × Int)
abbrev CU : Type := Nat × TL × OV × MC × MC × MC
def mval (c : MC) (ls : List (Option AV)) : Nat := match c with
  | .inl m => m
  | .inr q => match ls[q.1]? with
    | some (some (.inl x)) => (bif q.2.1 then q.2.2 - x else x - q.2.2).toNat
    | _ => 0
noncomputable def cM2 (n : Nat) (E : EV) (up : Bool) (B : Int) (w0 w : Bool × Nat × Int) : Nat := bif (Nat.beq w0.2.1 w.2.1 && !w0.1) && !w.1 then (bif eqI w0.2.2 w.2.2 then 1 else bif up then (bif ltI w0.2.2 w.2.2 && (sR n E (.inr w) fun _ u => !ltI B u) then 2 else 0) else (bif ltI w.2.2 w0.2.2 && (sR n E (.inr w) fun l _ => !ltI l B) then 2 else 0)) else 0
noncomputable def cM (n : Nat) (E : EV) (als0 als : List (Option SV)) (c0 c : MC) : Nat := match c0, c with
  | .inl a, .inl b => bif Nat.beq a b then 1 else bif Nat.ble b a then 2 else 0
  | .inr q, .inr q' => bif (Nat.beq q.1 q'.1 && (bif q.2.1 then q'.2.1 else !q'.2.1)) && eqI q.2.2 q'.2.2 then (match nth als0 q.1, nth als q.1 with
    | some (some (.inr w0)), some (some (.inr w)) => cM2 n E q.2.1 q.2.2 w0 w
    | _, _ => 0) else 0
  | _, _ => 0
def mOK (r x0 x : Nat) : Prop := (r = 1 → x = x0) ∧ (r = 2 → x < x0)
theorem mOK_0 {x0 x : Nat} : mOK 0 x0 x := ⟨fun z => (by cases z), fun z => (by cases z)⟩
theorem cM_s {n0 n : Nat} {E : EV} {ρ0 ρ : Nat → Int} {als0 als : List (Option SV)} {ls0 ls : List (Option AV)} {c0 c : MC} (hE : n_E n E ρ) (hx : n_X n0 ρ0 n ρ) (h0 : n_L n0 ρ0 als0 ls0) (h1 : n_L n ρ als ls) : mOK (cM n E als0 als c0 c) (mval c0 ls0) (mval c ls) := by
  unfold cM
  split
  · rename_i a b
    show mOK _ a b
    cases hb : Nat.beq a b with
    | true => rw [cnd_t]; exact ⟨fun _ => (Nat.eq_of_beq_eq_true hb).symm, fun z => by cases z⟩
    | false =>
      rw [cnd_f]
      have hne : ¬ a = b := fun z => by rw [beq_d, decide_eq_true z] at hb; cases hb
      cases hc : Nat.ble b a with
      | true => rw [cnd_t]; have := Nat.le_of_ble_eq_true hc; exact ⟨fun z => (by cases z), fun _ => (by omega)⟩
      | false => rw [cnd_f]; exact mOK_0
  · rename_i q q'
    cases hb : ((Nat.beq q.1 q'.1 && (bif q.2.1 then q'.2.1 else !q'.2.1)) && eqI q.2.2 q'.2.2) with
    | false => rw [cnd_f]; exact mOK_0
    | true =>
      rw [cnd_t]
      rw [Bool.and_eq_true, Bool.and_eq_true, eqI_eq, decide_eq_true_eq] at hb
      obtain ⟨⟨b1, b2⟩, b3⟩ := hb
      have b1 := Nat.eq_of_beq_eq_true b1
      have b4 : q'.2.1 = q.2.1 := by
        cases h5 : q.2.1 <;> cases h6 : q'.2.1 <;> first | rfl | (rw [h5, h6] at b2; cases b2)
      split
      · rename_i w0 w hw0 hw
        rw [nth_eq] at hw0 hw
        obtain ⟨v0, e0, u0, rfl, hv0⟩ := n_L_get h0 hw0
        obtain ⟨v1, e1, u1, rfl, hv1⟩ := n_L_get h1 hw
        unfold cM2
        cases hc : ((Nat.beq w0.2.1 w.2.1 && !w0.1) && !w.1) with
        | false => rw [cnd_f]; exact mOK_0
        | true =>
          rw [cnd_t]
          rw [Bool.and_eq_true, Bool.and_eq_true] at hc
          obtain ⟨⟨d1, d2⟩, d3⟩ := hc
          have d1 := Nat.eq_of_beq_eq_true d1
          obtain ⟨l0, i0, o0⟩ := w0
          obtain ⟨l1, i1, o1⟩ := w
          cases l0 with
          | true => cases d2
          | false =>
            cases l1 with
            | true => cases d3
            | false =>
              have d1 : i0 = i1 := d1
              subst d1
              have x0 : u0 = .inl (ρ0 i0 + o0) := hv0.2
              have x1 : u1 = .inl (ρ i0 + o1) := hv1.2
              have hs : i0 < n0 := hv0.1
              rw [hx.2 i0 hs] at x1
              subst x0 x1
              have m0 : mval (.inr q) ls0 = (bif q.2.1 then q.2.2 - (ρ0 i0 + o0) else ρ0 i0 + o0 - q.2.2).toNat := by unfold mval; dsimp only; rw [e0]
              have m1 : mval (.inr q') ls = (bif q.2.1 then q.2.2 - (ρ0 i0 + o1) else ρ0 i0 + o1 - q.2.2).toNat := by unfold mval; dsimp only; rw [← b1, e1, b4, ← b3]
              rw [m0, m1]
              dsimp only
              rw [eqI_eq]
              by_cases f1 : o0 = o1
              · rw [decide_eq_true f1, cnd_t, f1]; exact ⟨fun _ => rfl, fun z => by cases z⟩
              · rw [decide_eq_false f1, cnd_f]
                cases hu : q.2.1 with
                | true =>
                  rw [cnd_t, cnd_t, cnd_t]
                  cases hc : (ltI o0 o1 && (sR n E (.inr (false, i0, o1)) fun _ u => !ltI q.2.2 u)) with
                  | false => rw [cnd_f]; exact mOK_0
                  | true =>
                    rw [Bool.and_eq_true, ltI_eq, decide_eq_true_eq] at hc
                    obtain ⟨l, u, g1, g2, g3⟩ := sR_s hc.2 hE hv1
                    rw [ltI_eq, not_d, decide_eq_true_eq] at g1
                    have g3 : ρ0 i0 + o1 ≤ u := g3
                    rw [cnd_t]
                    exact ⟨fun z => (by cases z), fun _ => (by omega)⟩
                | false =>
                  rw [cnd_f, cnd_f, cnd_f]
                  cases hc : (ltI o1 o0 && (sR n E (.inr (false, i0, o1)) fun l _ => !ltI l q.2.2)) with
                  | false => rw [cnd_f]; exact mOK_0
                  | true =>
                    rw [Bool.and_eq_true, ltI_eq, decide_eq_true_eq] at hc
                    obtain ⟨l, u, g1, g2, g3⟩ := sR_s hc.2 hE hv1
                    rw [ltI_eq, not_d, decide_eq_true_eq] at g1
                    have g2 : l ≤ ρ0 i0 + o1 := g2
                    rw [cnd_t]
                    exact ⟨fun z => (by cases z), fun _ => (by omega)⟩
      · exact mOK_0
  · exact mOK_0
def LT3 (a b c a' b' c' : Nat) : Prop := a < a' ∨ (a = a' ∧ (b < b' ∨ (b = b' ∧ c < c')))
theorem lex3 {P : Nat → Nat → Nat → Prop} (h : ∀ a b c, (∀ a' b' c', LT3 a' b' c' a b c → P a' b' c') → P a b c) : ∀ a b c, P a b c := by
  intro a
  induction a using Nat.strongRecOn with
  | _ a iha =>
    intro b
    induction b using Nat.strongRecOn with
    | _ b ihb =>
      intro c
      induction c using Nat.strongRecOn with
      | _ c ihc =>
        refine h a b c (fun a' b' c' hl => ?_)
        rcases hl with z | ⟨rfl, z | ⟨rfl, z⟩⟩
        · exact iha a' z b' c'
        · exact ihb b' z c'
        · exact ihc c' z
noncomputable def lexK (n : Nat) (E : EV) (als0 als : List (Option SV)) (m0 m : MC × MC × MC) : Bool := match cM n E als0 als m0.1 m.1 with
  | 2 => true
  | 1 => (match cM n E als0 als m0.2.1 m.2.1 with
    | 2 => true
    | 1 => Nat.beq (cM n E als0 als m0.2.2 m.2.2) 2
    | _ => false)
  | _ => false
theorem lexK_s {n0 n : Nat} {E : EV} {ρ0 ρ : Nat → Int} {als0 als : List (Option SV)} {ls0 ls : List (Option AV)} {m0 m : MC × MC × MC} (h : lexK n E als0 als m0 m = true) (hE : n_E n E ρ) (hx : n_X n0 ρ0 n ρ) (h0 : n_L n0 ρ0 als0 ls0) (h1 : n_L n ρ als ls) : LT3 (mval m.1 ls) (mval m.2.1 ls) (mval m.2.2 ls) (mval m0.1 ls0) (mval m0.2.1 ls0) (mval m0.2.2 ls0) := by
  unfold lexK at h
  have k1 := cM_s (c0 := m0.1) (c := m.1) hE hx h0 h1
  have k2 := cM_s (c0 := m0.2.1) (c := m.2.1) hE hx h0 h1
  have k3 := cM_s (c0 := m0.2.2) (c := m.2.2) hE hx h0 h1
  split at h
  · rename_i e; exact Or.inl (k1.2 e)
  · rename_i e
    split at h
    · rename_i e2; exact Or.inr ⟨k1.1 e, Or.inl (k2.2 e2)⟩
    · rename_i e2; exact Or.inr ⟨k1.1 e, Or.inr ⟨k2.1 e2, k3.2 (Nat.eq_of_beq_eq_true h)⟩⟩
    · cases h
  · cases h
/-! a cut is come to -/
def cuS (cu : CU) : List SE := tS cu.2.1 ++ ovS cu.2.2.1
noncomputable def cuB (JB : SB) (cu : CU) : SB := putO cu.2.2.1 (tS cu.2.1).length JB
def CutP (JB : SB) (cu : CU) (ls : List (Option AV)) (h : AH) : Prop := ∃ ρ, n_E (cuS cu).length (cuS cu).reverse ρ ∧ n_L (cuS cu).length ρ (tL cu.2.1 0) ls ∧ n_H (cuS cu).length ρ (cuB JB cu) h ∧ k_H JB h
def isE (st : List SV) : Bool := match st with
  | [] => true
  | _ => false
noncomputable def arrK (JB : SB) (ns : List Nat) (cu : CU) (fst : Bool) (als0 : List (Option SV)) (m0 : MC × MC × MC) (n : Nat) (E : EV) (als : List (Option SV)) (st : List SV) (b : SB) : Bool := isE st && arrL n E cu.2.1 als [] fun ws1 => arrH cu.2.2.1 n E b ws1 fun n E b ws => (ubs n E ws (cuS cu) ws && okJ JB n E b ns) && (fst || lexK n E als0 als m0 cu.2.2.2)
theorem arrK_s {JB : SB} {W : AH → Prop} {md : MD} {ns : List Nat} {cu : CU} {fst : Bool} {als0 : List (Option SV)} {m0 : MC × MC × MC} {n : Nat} {E : EV} {ρ : Nat → Int} {als : List (Option SV)} {ast : List SV} {b : SB} {ls : List (Option AV)} {st : List AV} {h h0 : AH} (hh : arrK JB ns cu fst als0 m0 n E als ast b = true) (hE : n_E n E ρ) (hl : n_L n ρ als ls) (hs : n_S n ρ ast st) (hb : n_H n ρ b h) (hf : n_F W md h0 h) (hm : ∀ k i, inMd md k i → k ∈ ns) (hJ : k_H JB h0) : st = [] ∧ CutP JB cu ls h ∧ (fst = true ∨ ∀ (n0 : Nat) (ρ0 : Nat → Int) (ls0 : List (Option AV)), n_X n0 ρ0 n ρ → n_L n0 ρ0 als0 ls0 → LT3 (mval cu.2.2.2.1 ls) (mval cu.2.2.2.2.1 ls) (mval cu.2.2.2.2.2 ls) (mval m0.1 ls0) (mval m0.2.1 ls0) (mval m0.2.2 ls0)) := by
  unfold arrK at hh
  rw [Bool.and_eq_true] at hh
  obtain ⟨h1, hh⟩ := hh
  have hst : st = [] := by
    cases ast with
    | nil => exact hs
    | cons a t => cases h1
  obtain ⟨ws1, h2, h3, h4⟩ := arrL_s hE hh hl
  rw [List.nil_append] at h2
  obtain ⟨n', ρ', E', b', ws2, g1, g2, g3, g4, g5, g6⟩ := arrH_s h2 hE hb
  rw [Bool.and_eq_true, Bool.and_eq_true] at g1
  obtain ⟨⟨u1, u2⟩, u3⟩ := g1
  have hB : n_B n' ρ' (cuS cu) (ws1 ++ ws2) := n_B_app (n_B_x g2 h3) g5
  have hk : k_H JB h := okJ_s u2 g3 g4 hf hm hJ
  have hlen : (cuS cu).length = ws1.length + ws2.length := by rw [hB.1, List.length_append]
  have hg : ∀ (j : Nat) (w : SV), (ws1 ++ ws2)[j]? = some w → (ws1 ++ ws2).getD j (yI 0) = w := fun j w hj => by rw [List.getD_eq_getElem?_getD, hj]; rfl
  have hsc : ∀ (j : Nat) (w : SV), ws1[j]? = some w → scp n w := fun j w hj => by
    have hj1 : j < (tS cu.2.1).length := by
      rw [h3.1]
      rcases Nat.lt_or_ge j ws1.length with z | z
      · exact z
      · rw [List.getElem?_eq_none z] at hj; cases hj
    obtain ⟨w', f1, f2, -⟩ := h3.2 j _ (List.getElem?_eq_getElem hj1)
    rw [hj] at f1
    cases f1
    exact f2
  refine ⟨hst, ⟨fun j => nmb (svl ρ' ((ws1 ++ ws2).getD j (yI 0))), n_E_B hB u1 g3, ?_, ?_, hk⟩, ?_⟩
  · refine h4 _ _ (by rw [hlen]; show 0 + ws1.length ≤ _; omega) (fun j w hj => ?_)
    show nmb (svl ρ' ((ws1 ++ ws2).getD (0 + j) (yI 0))) = _
    have hj1 : j < ws1.length := by
      rcases Nat.lt_or_ge j ws1.length with z | z
      · exact z
      · rw [List.getElem?_eq_none z] at hj; cases hj
    rw [Nat.zero_add, hg j w (by rw [List.getElem?_append_left hj1]; exact hj), svl_x g2 (hsc j w hj)]
  · unfold cuB
    rw [h3.1]
    refine g6 _ _ JB (n_H_x z0_x hk) (by rw [hlen]; exact Nat.le_refl _) (fun j w hj => ?_)
    show nmb (svl ρ' ((ws1 ++ ws2).getD j (yI 0))) = _
    rw [hg j w hj]
  · rw [Bool.or_eq_true] at u3
    rcases u3 with z | z
    · exact Or.inl z
    · exact Or.inr (fun n0 ρ0 ls0 hx0 hl0 => lexK_s z g3 (n_X_t hx0 g2) hl0 (n_L_x g2 hl))
noncomputable def cksK (JB : SB) (ns : List Nat) (fst : Bool) (als0 : List (Option SV)) (m0 : MC × MC × MC) (cuts : List CU) : CKT := fun pc n E als st b => List.rec false (fun cu _ ih => (Nat.beq cu.1 pc && arrK JB ns cu fst als0 m0 n E als st b) || ih) cuts
theorem cksK_s {JB : SB} {ns : List Nat} {fst : Bool} {als0 : List (Option SV)} {m0 : MC × MC × MC} {cuts : List CU} {pc n : Nat} {E : EV} {als : List (Option SV)} {st : List SV} {b : SB} (h : cksK JB ns fst als0 m0 cuts pc n E als st b = true) : ∃ cu, cu ∈ cuts ∧ cu.1 = pc ∧ arrK JB ns cu fst als0 m0 n E als st b = true := by
  induction cuts with
  | nil => cases h
  | cons cu cuts ih =>
    have h : ((Nat.beq cu.1 pc && arrK JB ns cu fst als0 m0 n E als st b) || cksK JB ns fst als0 m0 cuts pc n E als st b) = true := h
    rw [Bool.or_eq_true, Bool.and_eq_true] at h
    rcases h with h | h
    · exact ⟨cu, List.mem_cons_self, Nat.eq_of_beq_eq_true h.1, h.2⟩
    · obtain ⟨cu', a, b, c⟩ := ih h
      exact ⟨cu', List.mem_cons_of_mem _ a, b, c⟩
/-! the answer -/
noncomputable def dlK (b : SB) (dl : List (Nat × Nat × Int)) : List SV → Bool := List.rec (fun _ => true) (fun q _ ih ws => match ws with
  | [] => false
  | w :: t => (fS b q.1 fun c => match nth c.2.2.1 q.2.1 with
    | some (.inl w') => (match shf w q.2.2 with
      | some w'' => eqSV w' w''
      | none => false)
    | _ => false) && ih t) dl
def n_D (n : Nat) (ρ : Nat → Int) (h : AH) : List (Nat × Nat × Int) → List SV → Prop
  | [], _ => True
  | _ :: _, [] => False
  | q :: dl, w :: ws => (∃ x, hV h q.1 q.2.1 = .inl x ∧ n_V n ρ w (.inl x)) ∧ n_D n ρ h dl ws
theorem n_D_x {n n' : Nat} {ρ ρ' : Nat → Int} {h : AH} (hx : n_X n ρ n' ρ') {dl : List (Nat × Nat × Int)} : ∀ {ws : List SV}, n_D n ρ h dl ws → n_D n' ρ' h dl ws := by
  induction dl with
  | nil => intro ws _; cases ws <;> exact trivial
  | cons q dl ih =>
    intro ws hd
    cases ws with
    | nil => exact hd
    | cons w ws => obtain ⟨⟨x, x1, x2⟩, hd⟩ := hd; exact ⟨⟨x, x1, n_V_x hx x2⟩, ih hd⟩
theorem dlK_s {n : Nat} {ρ : Nat → Int} {b : SB} {h h' : AH} {dl : List (Nat × Nat × Int)} (hb : n_H n ρ b h') : ∀ {ws : List SV}, dlK b dl ws = true → n_D n ρ h dl ws → k_D dl h h' := by
  induction dl with
  | nil => intro ws _ _ q hq; cases hq
  | cons q dl ih =>
    intro ws hh hd
    cases ws with
    | nil => cases hh
    | cons w ws =>
      have hh : ((fS b q.1 fun c => match nth c.2.2.1 q.2.1 with
        | some (.inl w') => (match shf w q.2.2 with
          | some w'' => eqSV w' w''
          | none => false)
        | _ => false) && dlK b dl ws) = true := hh
      rw [Bool.and_eq_true] at hh
      obtain ⟨⟨x, x1, x2⟩, hd⟩ := hd
      intro q' hq'
      rcases List.mem_cons.mp hq' with rfl | hq'
      · obtain ⟨c, c1, c2⟩ := fS_s hh.1
        split at c2
        · rename_i w' hw'
          rw [nth_eq] at hw'
          split at c2
          · rename_i w'' hw''
            have e := eqSV_s c2
            subst e
            have g1 := (hb.2.2 _ c c1).2.1 _ _ hw'
            have g2 := shf_s hw'' x2
            exact ⟨x, x1, by rw [g1.2, ← g2.2]⟩
          · cases c2
        · cases c2
      · exact ih hh.2 hd q' hq'
noncomputable def resK (n : Nat) (E : EV) (a : Option SAV) (r : Option SV) : Bool := match a, r with
  | none, none => true
  | some a, some w => fitA n E w a
  | _, _ => false
theorem resK_s {n : Nat} {E : EV} {ρ : Nat → Int} {a : Option SAV} {r : Option SV} {v : Option AV} (h : resK n E a r = true) (hE : n_E n E ρ) (ho : n_O n ρ r v) : sa_O a v := by
  match a, r, h, ho with
  | none, none, _, ho => exact ho
  | some a, some w, h, ho => obtain ⟨u, rfl, hu⟩ := ho; exact ⟨u, rfl, fitA_s h hE hu⟩
noncomputable def retK (JB : SB) (c : KT) (ws : List SV) : RTS := fun n E r b => (resK n E c.2.1 r && okJ JB n E b c.2.2.2.1) && (fitF n E b c.2.2.2.2.2.1 && dlK b c.2.2.2.2.2.2.1 ws)
theorem retK_s {JB : SB} {W : AH → Prop} {c : KT} {ws : List SV} {n : Nat} {ρ : Nat → Int} {h : AH} {Q : Option AV → AH → Prop} (hm : ∀ k i, inMd c.2.2.1 k i → k ∈ c.2.2.2.1) (hJ : k_H JB h) (hD : n_D n ρ h c.2.2.2.2.2.2.1 ws) (hQ : ∀ r h', sa_O c.2.1 r → k_H JB h' → k_F c.2.2.2.2.2.1 h' → k_D c.2.2.2.2.2.2.1 h h' → n_F W c.2.2.1 h h' → Q r h') : ROK W c.2.2.1 h n ρ (retK JB c ws) Q := by
  intro n' ρ' E r b v h' hh hx hE ho hb hf
  unfold retK at hh
  rw [Bool.and_eq_true, Bool.and_eq_true, Bool.and_eq_true] at hh
  obtain ⟨⟨a1, a2⟩, a3, a4⟩ := hh
  exact hQ v h' (resK_s a1 hE ho) (okJ_s a2 hE hb hf hm hJ) (fitF_s a3 hE hb) (dlK_s hb a4 (n_D_x hx hD)) hf
