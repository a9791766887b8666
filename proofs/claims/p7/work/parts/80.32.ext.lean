/-! a run over a heap without outside cells is a run over every heap that has those cells too -/
def EXT (h h' : AH) : Prop := hN h = hN h' ∧ hS h = hS h' ∧ ∀ k, (hK h k).1 ≠ 99 → hK h' k = hK h k ∧ ∀ i, hV h' k i = hV h k i
theorem EXT_set {h h' : AH} (e : EXT h h') (r i : Nat) (v : AV) : EXT (hSet h r i v) (hSet h' r i v) := by
  refine ⟨e.1, e.2.1, fun k hk => ⟨(e.2.2 k hk).1, fun j => ?_⟩⟩
  show (if k = r ∧ j = i then v else hV h' k j) = if k = r ∧ j = i then v else hV h k j
  rw [(e.2.2 k hk).2 j]
theorem EXT_new {h h' : AH} (e : EXT h h') (kd len sl : Nat) (ini : Nat → AV) : EXT (hNew h kd len sl ini) (hNew h' kd len sl ini) := by
  refine ⟨?_, ?_, fun k hk => ?_⟩
  · show hN h + 1 = hN h' + 1; rw [e.1]
  · show hS h + sl = hS h' + sl; rw [e.2.1]
  · show (if k = hN h' then (kd, len) else hK h' k) = (if k = hN h then (kd, len) else hK h k) ∧ ∀ i, (if k = hN h' then ini i else hV h' k i) = if k = hN h then ini i else hV h k i
    rw [← e.1]
    by_cases z : k = hN h
    · simp [z]
    · have hk : (if k = hN h then (kd, len) else hK h k).1 ≠ 99 := hk
      rw [if_neg z] at hk
      simp only [if_neg z]
      exact e.2.2 k hk
theorem EXT_cpy {h h' : AH} (e : EXT h h') (src sp dst dp n : Nat) (hs : (hK h src).1 ≠ 99) : EXT (hCpy h src sp dst dp n) (hCpy h' src sp dst dp n) := by
  refine ⟨e.1, e.2.1, fun k hk => ⟨(e.2.2 k hk).1, fun j => ?_⟩⟩
  show (if k = dst ∧ dp ≤ j ∧ j < dp + n then hV h' src (sp + (j - dp)) else hV h' k j) = if k = dst ∧ dp ≤ j ∧ j < dp + n then hV h src (sp + (j - dp)) else hV h k j
  rw [(e.2.2 k hk).2 j, (e.2.2 src hs).2]
def RX (x y : RT) : Prop := ∀ r h1, x = some (r, h1) → ∃ h1', y = some (r, h1') ∧ EXT h1 h1'
theorem RX_n {y : RT} : RX none y := fun _ _ h => by cases h
theorem if_ext {c c' : Prop} [Decidable c] [Decidable c'] {x x' y' : RT} (h : c → c' ∧ RX x x') : RX (if c then x else none) (if c' then x' else y') := by
  by_cases z : c
  · rw [if_pos z, if_pos (h z).1]; exact (h z).2
  · rw [if_neg z]; exact RX_n
theorem pI_ext {st : List AV} {k k' : Int → List AV → RT} (h : ∀ x st, RX (k x st) (k' x st)) : RX (pI none st k) (pI none st k') := by unfold pI; split <;> first | exact h _ _ | exact RX_n
theorem pL_ext {st : List AV} {k k' : Int → List AV → RT} (h : ∀ x st, RX (k x st) (k' x st)) : RX (pL none st k) (pL none st k') := by unfold pL; split <;> first | exact h _ _ | exact RX_n
theorem pR_ext {st : List AV} {k k' : Nat → List AV → RT} (h : ∀ x st, RX (k x st) (k' x st)) : RX (pR none st k) (pR none st k') := by unfold pR; split <;> first | exact h _ _ | exact RX_n
theorem pV_ext {st : List AV} {k k' : AV → List AV → RT} (h : ∀ x st, RX (k x st) (k' x st)) : RX (pV none st k) (pV none st k') := by unfold pV; split <;> first | exact h _ _ | exact RX_n
theorem oI_ext {o : Option Int} {k k' : Int → RT} (h : ∀ x, RX (k x) (k' x)) : RX (oI none o k) (oI none o k') := by unfold oI; split <;> first | exact h _ | exact RX_n
theorem vIo_ext {o : AV} {k k' : Int → RT} (h : ∀ x, RX (k x) (k' x)) : RX (vIo none o k) (vIo none o k') := by unfold vIo; split <;> first | exact h _ | exact RX_n
theorem vLo_ext {o : AV} {k k' : Int → RT} (h : ∀ x, RX (k x) (k' x)) : RX (vLo none o k) (vLo none o k') := by unfold vLo; split <;> first | exact h _ | exact RX_n
theorem vOo_ext {o : AV} {k k' : Option Nat → RT} (h : ∀ x, RX (k x) (k' x)) : RX (vOo none o k) (vOo none o k') := by unfold vOo; split <;> first | exact h _ | exact RX_n
theorem lI_ext {ls : List (Option AV)} {i : Nat} {k k' : Int → RT} (h : ∀ x, RX (k x) (k' x)) : RX (lI none ls i k) (lI none ls i k') := by unfold lI; split <;> first | exact h _ | exact RX_n
theorem lL_ext {ls : List (Option AV)} {i : Nat} {k k' : Int → RT} (h : ∀ x, RX (k x) (k' x)) : RX (lL none ls i k) (lL none ls i k') := by unfold lL; split <;> first | exact h _ | exact RX_n
theorem lR_ext {ls : List (Option AV)} {i : Nat} {k k' : Nat → RT} (h : ∀ x, RX (k x) (k' x)) : RX (lR none ls i k) (lR none ls i k') := by unfold lR; split <;> first | exact h _ | exact RX_n
theorem ifb_ext {c : Prop} [Decidable c] {x x' y y' : RT} (h1 : RX x x') (h2 : RX y y') : RX (if c then x else y) (if c then x' else y') := by split; exact h1; exact h2
set_option maxHeartbeats 4000000 in
theorem stepK_ext {go go' : Nat → List (Option AV) → List AV → AH → RT} {call call' : Nat → List AV → AH → (Option AV → AH → RT) → RT} {dO : Nat → Nat → AV} {nf : Nat → Nat}
    (hg : ∀ pc ls st h h', EXT h h' → RX (go pc ls st h) (go' pc ls st h')) (hc : ∀ M as h h' k k', EXT h h' → (∀ r h h', EXT h h' → RX (k r h) (k' r h')) → RX (call M as h k) (call' M as h' k'))
    (op nx a b : Nat) (k : Int) (sw : List (Int × Nat)) (ls : List (Option AV)) (st : List AV) (h h' : AH) (e : EXT h h') (h1 : op = 23 ∨ op = 24 → a ≠ 99) (h2 : op = 46 → k.toNat ≠ 99) :
    RX (stepK none go (fun r h => some (r, h)) call dO nf (op, nx, a, b, k, sw) ls st h) (stepK none go' (fun r h => some (r, h)) call' dO nf (op, nx, a, b, k, sw) ls st h') := by
  have hret : ∀ r, RX (some (r, h)) (some (r, h')) := fun r r1 h1 z => by cases z; exact ⟨h', rfl, e⟩
  unfold stepK
  dsimp only
  split
  case h_24 =>
    refine pR_ext fun r st => if_ext fun hk => ?_
    have := e.2.2 r (by rw [hk]; exact h1 (Or.inl rfl))
    rw [this.1, this.2]
    exact ⟨hk, hg _ _ _ _ _ e⟩
  case h_25 =>
    refine pV_ext fun v st => pR_ext fun r st => if_ext fun hk => ?_
    have := e.2.2 r (by rw [hk.1]; exact h1 (Or.inr rfl))
    rw [this.1]
    exact ⟨hk, hg _ _ _ _ _ (EXT_set e _ _ _)⟩
  case h_27 =>
    refine pI_ext fun i st => pR_ext fun r st => if_ext fun hk => ?_
    have := e.2.2 r (by omega)
    rw [this.1, this.2]
    exact ⟨hk, vIo_ext fun x => hg _ _ _ _ _ e⟩
  case h_28 =>
    refine pI_ext fun i st => pR_ext fun r st => if_ext fun hk => ?_
    have := e.2.2 r (by omega)
    rw [this.1, this.2]
    exact ⟨hk, vLo_ext fun x => hg _ _ _ _ _ e⟩
  case h_29 =>
    refine pI_ext fun i st => pR_ext fun r st => if_ext fun hk => ?_
    have := e.2.2 r (by omega)
    rw [this.1, this.2]
    exact ⟨hk, vIo_ext fun x => hg _ _ _ _ _ e⟩
  case h_30 =>
    refine pI_ext fun i st => pR_ext fun r st => if_ext fun hk => ?_
    have := e.2.2 r (by omega)
    rw [this.1, this.2]
    exact ⟨hk, vOo_ext fun x => hg _ _ _ _ _ e⟩
  case h_31 =>
    refine pI_ext fun x st => pI_ext fun i st => pR_ext fun r st => if_ext fun hk => ?_
    have := e.2.2 r (by omega)
    rw [this.1]
    exact ⟨hk, hg _ _ _ _ _ (EXT_set e _ _ _)⟩
  case h_32 =>
    refine pL_ext fun x st => pI_ext fun i st => pR_ext fun r st => if_ext fun hk => ?_
    have := e.2.2 r (by omega)
    rw [this.1]
    exact ⟨hk, hg _ _ _ _ _ (EXT_set e _ _ _)⟩
  case h_33 =>
    refine pI_ext fun x st => pI_ext fun i st => pR_ext fun r st => if_ext fun hk => ?_
    have := e.2.2 r (by omega)
    rw [this.1]
    exact ⟨hk, hg _ _ _ _ _ (EXT_set e _ _ _)⟩
  case h_34 =>
    refine pR_ext fun x st => pI_ext fun i st => pR_ext fun r st => if_ext fun hk => ?_
    have := e.2.2 r (by omega)
    have h6 := e.2.2 x (by omega)
    rw [this.1, h6.1]
    exact ⟨hk, hg _ _ _ _ _ (EXT_set e _ _ _)⟩
  case h_35 =>
    refine pR_ext fun r st => if_ext fun hk => ?_
    have := e.2.2 r (by omega)
    rw [this.1]
    exact ⟨hk, hg _ _ _ _ _ e⟩
  case h_36 =>
    refine pI_ext fun n st => if_ext fun hk => ?_
    rw [← e.1]
    exact ⟨hk, hg _ _ _ _ _ (EXT_new e _ _ _ _)⟩
  case h_37 =>
    refine pI_ext fun n st => if_ext fun hk => ?_
    rw [← e.1]
    exact ⟨hk, hg _ _ _ _ _ (EXT_new e _ _ _ _)⟩
  case h_38 =>
    refine if_ext fun hk => ?_
    rw [← e.1]
    exact ⟨hk, hg _ _ _ _ _ (EXT_new e _ _ _ _)⟩
  case h_45 =>
    refine pI_ext fun n st => pI_ext fun dp st => pR_ext fun q st => pI_ext fun sp st => pR_ext fun r st => if_ext fun hk => ?_
    have hr := e.2.2 r (by omega)
    have hq := e.2.2 q (by omega)
    rw [hr.1, hq.1]
    exact ⟨hk, hg _ _ _ _ _ (EXT_cpy e _ _ _ _ _ (by omega))⟩
  case h_46 =>
    refine if_ext fun hk => ⟨hk, pR_ext fun q _ => if_ext fun hq => ?_⟩
    have := e.2.2 q (by rw [hq]; exact h2 rfl)
    rw [this.1]
    exact ⟨hq, hc _ _ _ _ _ _ e (fun _ _ _ e => hg _ _ _ _ _ e)⟩
  all_goals first
    | exact RX_n
    | exact hg _ _ _ _ _ e
    | (split <;> first | exact hret _ | exact RX_n | (split <;> first | exact hret _ | exact RX_n))
    | (repeat first
        | exact RX_n
        | exact hg _ _ _ _ _ e
        | exact hc _ _ _ _ _ _ e (fun _ _ _ e => hg _ _ _ _ _ e)
        | (refine pI_ext fun _ _ => ?_)
        | (refine pL_ext fun _ _ => ?_)
        | (refine pR_ext fun _ _ => ?_)
        | (refine pV_ext fun _ _ => ?_)
        | (refine oI_ext fun _ => ?_)
        | (refine lI_ext fun _ => ?_)
        | (refine lL_ext fun _ => ?_)
        | (refine lR_ext fun _ => ?_)
        | (refine ifb_ext ?_ ?_))
theorem cd_99 {M pc : Nat} {op nx a b : Nat} {k : Int} {sw : List (Int × Nat)} (hcd : cd M pc = some (op, nx, a, b, k, sw)) : (op = 23 ∨ op = 24 → a ≠ 99) ∧ (op = 46 → k.toNat ≠ 99) := by
  have hok := cd_ok hcd
  unfold okB at hok
  rw [Bool.or_eq_true] at hok
  rcases hok with h99 | hok
  · have : op = 99 := of_decide_eq_true h99
    exact ⟨fun h => by omega, fun h => by omega⟩
  · split at hok
    · rename_i ins len hd
      rw [Bool.and_eq_true] at hok
      obtain ⟨-, h2⟩ := hok
      dsimp only at h2
      refine ⟨fun h => ?_, fun h => ?_⟩
      · rcases h with rfl | rfl
        · cases ins <;> first | (cases h2; done) | skip
          rw [okO, Bool.and_eq_true] at h2
          have := (flk_ok h2.2).2.1
          omega
        · cases ins <;> first | (cases h2; done) | skip
          rw [okO, Bool.and_eq_true] at h2
          have := (flk_ok h2.2).2.1
          omega
      · subst h
        cases ins <;> first | (cases h2; done) | skip
        rw [okO, Bool.and_eq_true, Bool.and_eq_true] at h2
        obtain ⟨-, -, -, hk, hm, -⟩ := of_decide_eq_true h2.1.1
        omega
    · cases hok
theorem xec_ext : ∀ (n d M pc : Nat) (ls : List (Option AV)) (st : List AV) (h h' : AH), EXT h h' → RX (xec n d M pc ls st h) (xec n d M pc ls st h') := by
  intro n
  induction n with
  | zero => intro d M pc ls st h h' e; rw [xec]; exact RX_n
  | succ n ih =>
    intro d M pc ls st h h' e
    cases hc : cd M pc with
    | none => rw [xec, hc]; exact RX_n
    | some ce =>
      obtain ⟨op, nx, a, b, k, sw⟩ := ce
      rw [xec_succ hc, xec_succ hc]
      refine stepK_ext (fun pc ls st h h' e => ih d M pc ls st h h' e) (fun M' as h h' k k' e hk => ?_) op nx a b k sw ls st h h' e (cd_99 hc).1 (cd_99 hc).2
      intro r h1 hv
      obtain ⟨d', r2, h2, rfl, hl, he, hk1⟩ := callX_some hv
      obtain ⟨h2', he', e2⟩ := ih d' M' 0 _ [] h h' e r2 h2 he
      rw [callX_of hl he']
      exact hk r2 h2 h2' e2 r h1 hk1
