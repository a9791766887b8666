/-! the small machine runs: fuel n, depth d -/
def entN (as : List AV) : Nat := (as.flatMap entA).length
def callX (e : Nat → Nat → Nat → List (Option AV) → List AV → AH → RT) (d : Nat) (M' : Nat) (as : List AV) (h : AH) (k : Option AV → AH → RT) : RT := match d with
  | 0 => none
  | d' + 1 => if entN as ≤ mL M' then (match e d' M' 0 (entL (mL M') as) [] h with
    | none => none
    | some (r, h') => k r h') else none
def xec : Nat → Nat → Nat → Nat → List (Option AV) → List AV → AH → RT
  | 0, _, _, _, _, _, _ => none
  | n + 1, d, M, pc, ls, st, h => match cd M pc with
    | none => none
    | some ce => stepK none (fun pc ls st h => xec n d M pc ls st h) (fun r h => some (r, h)) (fun M' as h k => callX (xec n) d M' as h k) dfO nF ce ls st h
theorem xec_succ {n d M pc : Nat} {ls : List (Option AV)} {st : List AV} {h : AH} {ce : CE} (hc : cd M pc = some ce) : xec (n + 1) d M pc ls st h = stepK none (fun pc ls st h => xec n d M pc ls st h) (fun r h => some (r, h)) (fun M' as h k => callX (xec n) d M' as h k) dfO nF ce ls st h := by
  rw [xec, hc]
theorem callX_some {e : Nat → Nat → Nat → List (Option AV) → List AV → AH → RT} {d M' : Nat} {as : List AV} {h : AH} {k : Option AV → AH → RT} {v : Option AV × AH} (hc : callX e d M' as h k = some v) : ∃ d' r h1, d = d' + 1 ∧ entN as ≤ mL M' ∧ e d' M' 0 (entL (mL M') as) [] h = some (r, h1) ∧ k r h1 = some v := by
  unfold callX at hc
  cases d with
  | zero => cases hc
  | succ d =>
    dsimp only at hc
    split at hc
    · rename_i hl
      cases he : e d M' 0 (entL (mL M') as) [] h with
      | none => rw [he] at hc; cases hc
      | some q =>
        obtain ⟨r, h1⟩ := q
        rw [he] at hc
        exact ⟨d, r, h1, rfl, hl, he, hc⟩
    · cases hc
theorem callX_of {e : Nat → Nat → Nat → List (Option AV) → List AV → AH → RT} {d M' : Nat} {as : List AV} {h h1 : AH} {r : Option AV} {k : Option AV → AH → RT} (hl : entN as ≤ mL M') (he : e d M' 0 (entL (mL M') as) [] h = some (r, h1)) : callX e (d + 1) M' as h k = k r h1 := by
  unfold callX
  dsimp only
  rw [if_pos hl, he]
theorem xec_mono1 : ∀ (n d M pc : Nat) (ls : List (Option AV)) (st : List AV) (h : AH) (v : Option AV × AH), xec n d M pc ls st h = some v → xec (n + 1) d M pc ls st h = some v := by
  intro n
  induction n with
  | zero => intro d M pc ls st h v hv; rw [xec] at hv; cases hv
  | succ n ih =>
    intro d M pc ls st h v
    cases hc : cd M pc with
    | none => intro hv; rw [xec, hc] at hv; cases hv
    | some ce =>
      rw [xec_succ hc, xec_succ hc]
      refine stepK_rel (R := fun (x y : RT) => x = some v → y = some v) (fun h => h) (fun pc ls st h => ih d M pc ls st h v) (fun _ _ h => h) (fun M' as h k k' hk hv => ?_) ce ls st h
      obtain ⟨d', r, h1, rfl, hl, he, hk1⟩ := callX_some hv
      rw [callX_of hl (ih d' M' 0 _ [] h _ he)]
      exact hk r h1 hk1
theorem xec_mono {n m d M pc : Nat} {ls : List (Option AV)} {st : List AV} {h : AH} {v : Option AV × AH} (hnm : n ≤ m) (hv : xec n d M pc ls st h = some v) : xec m d M pc ls st h = some v := by
  induction hnm with
  | refl => exact hv
  | step _ ih => exact xec_mono1 _ _ _ _ _ _ _ _ ih
def XP (d M pc : Nat) (ls : List (Option AV)) (st : List AV) (h : AH) (Q : Option AV → AH → Prop) : Prop := ∃ (n : Nat) (r : Option AV) (h' : AH), xec n d M pc ls st h = some (r, h') ∧ Q r h'
def XM (d M : Nat) (as : List AV) (h : AH) (Q : Option AV → AH → Prop) : Prop := entN as ≤ mL M ∧ XP d M 0 (entL (mL M) as) [] h Q
def XC (d M : Nat) (as : List AV) (h : AH) (Q : Option AV → AH → Prop) : Prop := match d with
  | 0 => False
  | d' + 1 => XM d' M as h Q
theorem XP_mono {d M pc : Nat} {ls : List (Option AV)} {st : List AV} {h : AH} {Q Q' : Option AV → AH → Prop} (hw : XP d M pc ls st h Q) (hq : ∀ r h, Q r h → Q' r h) : XP d M pc ls st h Q' := by
  obtain ⟨n, r, h', he, h1⟩ := hw
  exact ⟨n, r, h', he, hq r h' h1⟩
theorem XP_step {d M pc : Nat} {ls : List (Option AV)} {st : List AV} {h : AH} {Q : Option AV → AH → Prop} {ce : CE} (hc : cd M pc = some ce)
    (hk : stepK False (fun pc ls st h => XP d M pc ls st h Q) Q (fun M' as h k => XC d M' as h k) dfO nF ce ls st h) : XP d M pc ls st h Q := by
  let F : Nat → RT := stepK (fun _ => none) (fun pc ls st h n => xec n d M pc ls st h) (fun r h _ => some (r, h)) (fun M' as h k n => callX (xec n) d M' as h (fun r h => k r h n)) dfO nF ce ls st h
  have hF : ∀ n, F n = xec (n + 1) d M pc ls st h := by
    intro n
    rw [xec_succ hc]
    refine stepK_rel (R := fun (f : Nat → RT) (x : RT) => f n = x) rfl (fun _ _ _ _ => rfl) (fun _ _ => rfl) (fun M' as h k k' hkk => ?_) ce ls st h
    show callX (xec n) d M' as h (fun r h => k r h n) = callX (xec n) d M' as h k'
    have : (fun r h => k r h n) = k' := by funext r h; exact hkk r h
    rw [this]
  have hS : ∃ n0, ∀ n, n0 ≤ n → ∃ r h', F n = some (r, h') ∧ Q r h' := by
    refine stepK_rel (R := fun (P : Prop) (f : Nat → RT) => P → ∃ n0, ∀ n, n0 ≤ n → ∃ r h', f n = some (r, h') ∧ Q r h') (fun h => h.elim) ?_ (fun r h q => ⟨0, fun n _ => ⟨r, h, rfl, q⟩⟩) ?_ ce ls st h hk
    · intro pc ls st h hw
      obtain ⟨n0, r, h', he, hq⟩ := hw
      exact ⟨n0, fun n hn => ⟨r, h', xec_mono hn he, hq⟩⟩
    · intro M' as h k k' hkk hw
      unfold XC at hw
      cases d with
      | zero => exact hw.elim
      | succ d =>
        obtain ⟨hl, n1, r, h1, he, hq⟩ := hw
        obtain ⟨n2, h2⟩ := hkk r h1 hq
        refine ⟨max n1 n2, fun n hn => ?_⟩
        have e1 : xec n d M' 0 (entL (mL M') as) [] h = some (r, h1) := xec_mono (Nat.le_trans (Nat.le_max_left _ _) hn) he
        rw [callX_of hl e1]
        exact h2 n (Nat.le_trans (Nat.le_max_right _ _) hn)
  obtain ⟨n0, h0⟩ := hS
  obtain ⟨r, h', e1, hq⟩ := h0 n0 (Nat.le_refl _)
  exact ⟨n0 + 1, r, h', (hF n0).symm.trans e1, hq⟩
theorem XC_mono {d M : Nat} {as : List AV} {h : AH} {Q Q' : Option AV → AH → Prop} (hq : ∀ r h, Q r h → Q' r h) (hw : XC d M as h Q) : XC d M as h Q' := by
  unfold XC at *
  cases d with
  | zero => exact hw
  | succ d => exact ⟨hw.1, XP_mono hw.2 hq⟩
/-- a walk of at most n instructions, that stops ahead of the pcs of 'stops' -/
def xpk (stops : List Nat) : Nat → Nat → Nat → Nat → List (Option AV) → List AV → AH → (Option AV → AH → Prop) → Prop
  | 0, d, M, pc, ls, st, h, Q => XP d M pc ls st h Q
  | n + 1, d, M, pc, ls, st, h, Q => ∃ ce, cd M pc = some ce ∧ stepK False (fun pc ls st h => if pc ∈ stops then XP d M pc ls st h Q else xpk stops n d M pc ls st h Q) Q (fun M' as h k => XC d M' as h k) dfO nF ce ls st h
theorem xpk_sound {stops : List Nat} : ∀ {n d M pc : Nat} {ls : List (Option AV)} {st : List AV} {h : AH} {Q : Option AV → AH → Prop}, xpk stops n d M pc ls st h Q → XP d M pc ls st h Q := by
  intro n
  induction n with
  | zero => intro d M pc ls st h Q hw; exact hw
  | succ n ih =>
    intro d M pc ls st h Q hw
    obtain ⟨ce, hc, hk⟩ := hw
    refine XP_step hc ?_
    refine stepK_rel (R := fun (P P' : Prop) => P → P') (fun h => h) (fun pc ls st h => ?_) (fun _ _ h => h) (fun M' as h k k' hkk => (XC_mono hkk : XC d M' as h k → XC d M' as h k')) ce ls st h hk
    intro hw
    split at hw
    · exact hw
    · exact ih hw
theorem xpk_succ {stops : List Nat} {n d M pc : Nat} {ls : List (Option AV)} {st : List AV} {h : AH} {Q : Option AV → AH → Prop} {ce : CE} (hc : cd M pc = some ce) : xpk stops (n + 1) d M pc ls st h Q = stepK False (fun pc ls st h => if pc ∈ stops then XP d M pc ls st h Q else xpk stops n d M pc ls st h Q) Q (fun M' as h k => XC d M' as h k) dfO nF ce ls st h := by
  apply propext
  constructor
  · rintro ⟨ce', h1, h2⟩
    rw [hc] at h1
    cases h1
    exact h2
  · exact fun h => ⟨ce, hc, h⟩
/-! cells and slots only grow -/
abbrev GE (h h' : AH) : Prop := hN h ≤ hN h' ∧ hS h ≤ hS h'
theorem GE_new (h : AH) (kd len sl : Nat) (ini : Nat → AV) : GE h (hNew h kd len sl ini) := ⟨Nat.le_succ _, Nat.le_add_right _ _⟩
section PRED
variable {α : Type} {P : α → Prop} {bad : α}
theorem pI_pr (hb : P bad) {st : List AV} {k : Int → List AV → α} (h : ∀ x st, P (k x st)) : P (pI bad st k) := by unfold pI; split <;> first | exact h _ _ | exact hb
theorem pL_pr (hb : P bad) {st : List AV} {k : Int → List AV → α} (h : ∀ x st, P (k x st)) : P (pL bad st k) := by unfold pL; split <;> first | exact h _ _ | exact hb
theorem pR_pr (hb : P bad) {st : List AV} {k : Nat → List AV → α} (h : ∀ x st, P (k x st)) : P (pR bad st k) := by unfold pR; split <;> first | exact h _ _ | exact hb
theorem pV_pr (hb : P bad) {st : List AV} {k : AV → List AV → α} (h : ∀ x st, P (k x st)) : P (pV bad st k) := by unfold pV; split <;> first | exact h _ _ | exact hb
theorem oI_pr (hb : P bad) {o : Option Int} {k : Int → α} (h : ∀ x, P (k x)) : P (oI bad o k) := by unfold oI; split <;> first | exact h _ | exact hb
theorem vIo_pr (hb : P bad) {o : AV} {k : Int → α} (h : ∀ x, P (k x)) : P (vIo bad o k) := by unfold vIo; split <;> first | exact h _ | exact hb
theorem vLo_pr (hb : P bad) {o : AV} {k : Int → α} (h : ∀ x, P (k x)) : P (vLo bad o k) := by unfold vLo; split <;> first | exact h _ | exact hb
theorem vOo_pr (hb : P bad) {o : AV} {k : Option Nat → α} (h : ∀ x, P (k x)) : P (vOo bad o k) := by unfold vOo; split <;> first | exact h _ | exact hb
theorem lI_pr (hb : P bad) {ls : List (Option AV)} {i : Nat} {k : Int → α} (h : ∀ x, P (k x)) : P (lI bad ls i k) := by unfold lI; split <;> first | exact h _ | exact hb
theorem lL_pr (hb : P bad) {ls : List (Option AV)} {i : Nat} {k : Int → α} (h : ∀ x, P (k x)) : P (lL bad ls i k) := by unfold lL; split <;> first | exact h _ | exact hb
theorem lR_pr (hb : P bad) {ls : List (Option AV)} {i : Nat} {k : Nat → α} (h : ∀ x, P (k x)) : P (lR bad ls i k) := by unfold lR; split <;> first | exact h _ | exact hb
theorem if_pr {c : Prop} [Decidable c] {x y : α} (h1 : c → P x) (h2 : ¬ c → P y) : P (if c then x else y) := by
  split
  · exact h1 ‹_›
  · exact h2 ‹_›
set_option maxHeartbeats 4000000 in
theorem stepK_pr {go : Nat → List (Option AV) → List AV → AH → α} {ret : Option AV → AH → α} {call : Nat → List AV → AH → (Option AV → AH → α) → α} {dO : Nat → Nat → AV} {nf : Nat → Nat} (ce : CE) (ls : List (Option AV)) (st : List AV) (h : AH)
    (hb : P bad) (hg : ∀ pc ls st h', GE h h' → P (go pc ls st h')) (hr : ∀ r, P (ret r h)) (hc : ∀ M as k, (∀ r h', GE h h' → P (k r h')) → P (call M as h k)) : P (stepK bad go ret call dO nf ce ls st h) := by
  obtain ⟨op, nx, a, b, k, sw⟩ := ce
  have hg0 : ∀ pc ls st, P (go pc ls st h) := fun pc ls st => hg pc ls st h ⟨Nat.le_refl _, Nat.le_refl _⟩
  unfold stepK
  dsimp only
  split <;> first
    | exact hb
    | exact hg0 _ _ _
    | (split <;> first | exact hr _ | exact hb | (split <;> first | exact hr _ | exact hb))
    | (repeat first
        | exact hb
        | exact hg0 _ _ _
        | exact hg _ _ _ _ ⟨Nat.le_refl _, Nat.le_refl _⟩
        | exact hg _ _ _ _ (GE_new _ _ _ _ _)
        | exact hc _ _ _ (fun _ h' hge => hg _ _ _ h' hge)
        | (refine pI_pr hb fun _ _ => ?_)
        | (refine pL_pr hb fun _ _ => ?_)
        | (refine pR_pr hb fun _ _ => ?_)
        | (refine pV_pr hb fun _ _ => ?_)
        | (refine oI_pr hb fun _ => ?_)
        | (refine vIo_pr hb fun _ => ?_)
        | (refine vLo_pr hb fun _ => ?_)
        | (refine vOo_pr hb fun _ => ?_)
        | (refine lI_pr hb fun _ => ?_)
        | (refine lL_pr hb fun _ => ?_)
        | (refine lR_pr hb fun _ => ?_)
        | (refine if_pr (fun _ => ?_) (fun _ => ?_)))
end PRED
theorem xec_grow : ∀ (n d M pc : Nat) (ls : List (Option AV)) (st : List AV) (h : AH) (r : Option AV) (h1 : AH), xec n d M pc ls st h = some (r, h1) → GE h h1 := by
  intro n
  induction n with
  | zero => intro d M pc ls st h r h1 hv; rw [xec] at hv; cases hv
  | succ n ih =>
    intro d M pc ls st h r h1
    cases hc : cd M pc with
    | none => intro hv; rw [xec, hc] at hv; cases hv
    | some ce =>
      rw [xec_succ hc]
      refine stepK_pr (P := fun (x : RT) => x = some (r, h1) → GE h h1) ce ls st h (fun h => by cases h) (fun pc ls st h' hge hv => ?_) (fun r' hv => ?_) (fun M' as k hk hv => ?_)
      · have := ih _ _ _ _ _ _ _ _ hv
        exact ⟨Nat.le_trans hge.1 this.1, Nat.le_trans hge.2 this.2⟩
      · cases hv; exact ⟨Nat.le_refl _, Nat.le_refl _⟩
      · obtain ⟨d', r2, h2, rfl, hl, he, hk1⟩ := callX_some hv
        exact hk r2 h2 (ih _ _ _ _ _ _ _ _ he) hk1
