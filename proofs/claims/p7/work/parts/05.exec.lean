/-! two continuations that go alike go alike through an instruction -/
section REL
variable {α β : Type} {R : α → β → Prop} {bad : α} {bad' : β}
theorem pI_rel (hb : R bad bad') {st : List AV} {k : Int → List AV → α} {k' : Int → List AV → β} (h : ∀ x st, R (k x st) (k' x st)) : R (pI bad st k) (pI bad' st k') := by
  unfold pI; split <;> first | exact h _ _ | exact hb
theorem pL_rel (hb : R bad bad') {st : List AV} {k : Int → List AV → α} {k' : Int → List AV → β} (h : ∀ x st, R (k x st) (k' x st)) : R (pL bad st k) (pL bad' st k') := by
  unfold pL; split <;> first | exact h _ _ | exact hb
theorem pR_rel (hb : R bad bad') {st : List AV} {k : Nat → List AV → α} {k' : Nat → List AV → β} (h : ∀ x st, R (k x st) (k' x st)) : R (pR bad st k) (pR bad' st k') := by
  unfold pR; split <;> first | exact h _ _ | exact hb
theorem pV_rel (hb : R bad bad') {st : List AV} {k : AV → List AV → α} {k' : AV → List AV → β} (h : ∀ x st, R (k x st) (k' x st)) : R (pV bad st k) (pV bad' st k') := by
  unfold pV; split <;> first | exact h _ _ | exact hb
theorem oI_rel (hb : R bad bad') {o : Option Int} {k : Int → α} {k' : Int → β} (h : ∀ x, R (k x) (k' x)) : R (oI bad o k) (oI bad' o k') := by
  unfold oI; split <;> first | exact h _ | exact hb
theorem vIo_rel (hb : R bad bad') {o : AV} {k : Int → α} {k' : Int → β} (h : ∀ x, R (k x) (k' x)) : R (vIo bad o k) (vIo bad' o k') := by
  unfold vIo; split <;> first | exact h _ | exact hb
theorem vLo_rel (hb : R bad bad') {o : AV} {k : Int → α} {k' : Int → β} (h : ∀ x, R (k x) (k' x)) : R (vLo bad o k) (vLo bad' o k') := by
  unfold vLo; split <;> first | exact h _ | exact hb
theorem vOo_rel (hb : R bad bad') {o : AV} {k : Option Nat → α} {k' : Option Nat → β} (h : ∀ x, R (k x) (k' x)) : R (vOo bad o k) (vOo bad' o k') := by
  unfold vOo; split <;> first | exact h _ | exact hb
theorem lI_rel (hb : R bad bad') {ls : List (Option AV)} {i : Nat} {k : Int → α} {k' : Int → β} (h : ∀ x, R (k x) (k' x)) : R (lI bad ls i k) (lI bad' ls i k') := by
  unfold lI; split <;> first | exact h _ | exact hb
theorem lL_rel (hb : R bad bad') {ls : List (Option AV)} {i : Nat} {k : Int → α} {k' : Int → β} (h : ∀ x, R (k x) (k' x)) : R (lL bad ls i k) (lL bad' ls i k') := by
  unfold lL; split <;> first | exact h _ | exact hb
theorem lR_rel (hb : R bad bad') {ls : List (Option AV)} {i : Nat} {k : Nat → α} {k' : Nat → β} (h : ∀ x, R (k x) (k' x)) : R (lR bad ls i k) (lR bad' ls i k') := by
  unfold lR; split <;> first | exact h _ | exact hb
theorem if_rel {c : Prop} [Decidable c] {x y : α} {x' y' : β} (h1 : c → R x x') (h2 : ¬ c → R y y') : R (if c then x else y) (if c then x' else y') := by
  split
  · exact h1 ‹_›
  · exact h2 ‹_›
theorem m0_rel (hb : R bad bad') {st : List AV} {x : α} {x' : β} (h : R x x') : R (match st with | [] => x | _ => bad) (match st with | [] => x' | _ => bad') := by
  split <;> first | exact h | exact hb
set_option maxHeartbeats 4000000 in
theorem stepK_rel {go : Nat → List (Option AV) → List AV → AH → α} {go' : Nat → List (Option AV) → List AV → AH → β} {ret : Option AV → AH → α} {ret' : Option AV → AH → β} {call : Nat → List AV → AH → (Option AV → AH → α) → α} {call' : Nat → List AV → AH → (Option AV → AH → β) → β} {dO : Nat → Nat → AV} {nf : Nat → Nat}
    (hb : R bad bad') (hg : ∀ pc ls st h, R (go pc ls st h) (go' pc ls st h)) (hr : ∀ r h, R (ret r h) (ret' r h)) (hc : ∀ M as h k k', (∀ r h, R (k r h) (k' r h)) → R (call M as h k) (call' M as h k'))
    (ce : CE) (ls : List (Option AV)) (st : List AV) (h : AH) : R (stepK bad go ret call dO nf ce ls st h) (stepK bad' go' ret' call' dO nf ce ls st h) := by
  obtain ⟨op, nx, a, b, k, sw⟩ := ce
  unfold stepK
  dsimp only
  split <;> first
    | exact hb
    | exact hg _ _ _ _
    | (split <;> first | exact hr _ _ | exact hb | (split <;> first | exact hr _ _ | exact hb))
    | (repeat first
        | exact hb
        | exact hg _ _ _ _
        | exact hc _ _ _ _ _ (fun _ _ => hg _ _ _ _)
        | (refine pI_rel hb fun _ _ => ?_)
        | (refine pL_rel hb fun _ _ => ?_)
        | (refine pR_rel hb fun _ _ => ?_)
        | (refine pV_rel hb fun _ _ => ?_)
        | (refine oI_rel hb fun _ => ?_)
        | (refine vIo_rel hb fun _ => ?_)
        | (refine vLo_rel hb fun _ => ?_)
        | (refine vOo_rel hb fun _ => ?_)
        | (refine lI_rel hb fun _ => ?_)
        | (refine lL_rel hb fun _ => ?_)
        | (refine lR_rel hb fun _ => ?_)
        | (refine if_rel (fun _ => ?_) (fun _ => ?_)))
end REL
abbrev RT : Type := Option (Option AV × AH)
def callE (e : Nat → Nat → Nat → List (Option AV) → List AV → AH → RT) (d : Nat) (M' : Nat) (as : List AV) (h : AH) (k : Option AV → AH → RT) : RT := match d with
  | 0 => none
  | d' + 1 => match e d' M' 0 (entL (mL M') as) [] h with
    | none => none
    | some (r, h') => k r h'
def exec : Nat → Nat → Nat → Nat → List (Option AV) → List AV → AH → RT
  | 0, _, _, _, _, _, _ => none
  | n + 1, d, M, pc, ls, st, h => match cd M pc with
    | none => none
    | some ce => stepK none (fun pc ls st h => exec n d M pc ls st h) (fun r h => some (r, h)) (fun M' as h k => callE (exec n) d M' as h k) dfO nF ce ls st h
theorem exec_succ {n d M pc : Nat} {ls : List (Option AV)} {st : List AV} {h : AH} {ce : CE} (hc : cd M pc = some ce) : exec (n + 1) d M pc ls st h = stepK none (fun pc ls st h => exec n d M pc ls st h) (fun r h => some (r, h)) (fun M' as h k => callE (exec n) d M' as h k) dfO nF ce ls st h := by
  rw [exec, hc]
theorem exec_mono1 : ∀ (n d M pc : Nat) (ls : List (Option AV)) (st : List AV) (h : AH) (v : Option AV × AH), exec n d M pc ls st h = some v → exec (n + 1) d M pc ls st h = some v := by
  intro n
  induction n with
  | zero => intro d M pc ls st h v hv; rw [exec] at hv; cases hv
  | succ n ih =>
    intro d M pc ls st h v
    cases hc : cd M pc with
    | none => intro hv; rw [exec, hc] at hv; cases hv
    | some ce =>
      rw [exec_succ hc, exec_succ hc]
      refine stepK_rel (R := fun (x y : RT) => x = some v → y = some v) (fun h => h) (fun pc ls st h => ih d M pc ls st h v) (fun _ _ h => h) (fun M' as h k k' hk => ?_) ce ls st h
      unfold callE
      cases d with
      | zero => exact fun h => h
      | succ d =>
        dsimp only
        cases he : exec n d M' 0 (entL (mL M') as) [] h with
        | none => intro h; cases h
        | some q =>
          obtain ⟨r, h'⟩ := q
          rw [ih d M' 0 _ [] h _ he]
          exact hk r h'
theorem exec_mono {n m d M pc : Nat} {ls : List (Option AV)} {st : List AV} {h : AH} {v : Option AV × AH} (hnm : n ≤ m) (hv : exec n d M pc ls st h = some v) : exec m d M pc ls st h = some v := by
  induction hnm with
  | refl => exact hv
  | step _ ih => exact exec_mono1 _ _ _ _ _ _ _ _ ih
def Wp (d M pc : Nat) (ls : List (Option AV)) (st : List AV) (h : AH) (Q : Option AV → AH → Prop) : Prop := ∃ (n : Nat) (r : Option AV) (h' : AH), exec n d M pc ls st h = some (r, h') ∧ Q r h'
def Wm (d M : Nat) (as : List AV) (h : AH) (Q : Option AV → AH → Prop) : Prop := Wp d M 0 (entL (mL M) as) [] h Q
def Wc (d M : Nat) (as : List AV) (h : AH) (Q : Option AV → AH → Prop) : Prop := match d with
  | 0 => False
  | d' + 1 => Wm d' M as h Q
theorem Wp_mono {d M pc : Nat} {ls : List (Option AV)} {st : List AV} {h : AH} {Q Q' : Option AV → AH → Prop} (hw : Wp d M pc ls st h Q) (hq : ∀ r h, Q r h → Q' r h) : Wp d M pc ls st h Q' := by
  obtain ⟨n, r, h', he, h1⟩ := hw
  exact ⟨n, r, h', he, hq r h' h1⟩
theorem Wp_step {d M pc : Nat} {ls : List (Option AV)} {st : List AV} {h : AH} {Q : Option AV → AH → Prop} {ce : CE} (hc : cd M pc = some ce)
    (hk : stepK False (fun pc ls st h => Wp d M pc ls st h Q) Q (fun M' as h k => Wc d M' as h k) dfO nF ce ls st h) : Wp d M pc ls st h Q := by
  let F : Nat → RT := stepK (fun _ => none) (fun pc ls st h n => exec n d M pc ls st h) (fun r h _ => some (r, h)) (fun M' as h k n => callE (exec n) d M' as h (fun r h => k r h n)) dfO nF ce ls st h
  have hF : ∀ n, F n = exec (n + 1) d M pc ls st h := by
    intro n
    rw [exec_succ hc]
    refine stepK_rel (R := fun (f : Nat → RT) (x : RT) => f n = x) rfl (fun _ _ _ _ => rfl) (fun _ _ => rfl) (fun M' as h k k' hkk => ?_) ce ls st h
    unfold callE
    cases d with
    | zero => rfl
    | succ d =>
      dsimp only
      cases he : exec n d M' 0 (entL (mL M') as) [] h with
      | none => rfl
      | some q => obtain ⟨r, h'⟩ := q; exact hkk r h'
  have hS : ∃ n0, ∀ n, n0 ≤ n → ∃ r h', F n = some (r, h') ∧ Q r h' := by
    refine stepK_rel (R := fun (P : Prop) (f : Nat → RT) => P → ∃ n0, ∀ n, n0 ≤ n → ∃ r h', f n = some (r, h') ∧ Q r h') (fun h => h.elim) ?_ (fun r h q => ⟨0, fun n _ => ⟨r, h, rfl, q⟩⟩) ?_ ce ls st h hk
    · intro pc ls st h hw
      obtain ⟨n0, r, h', he, hq⟩ := hw
      exact ⟨n0, fun n hn => ⟨r, h', exec_mono hn he, hq⟩⟩
    · intro M' as h k k' hkk hw
      unfold Wc at hw
      cases d with
      | zero => exact hw.elim
      | succ d =>
        obtain ⟨n1, r, h1, he, hq⟩ := hw
        obtain ⟨n2, h2⟩ := hkk r h1 hq
        refine ⟨max n1 n2, fun n hn => ?_⟩
        have e1 : exec n d M' 0 (entL (mL M') as) [] h = some (r, h1) := exec_mono (Nat.le_trans (Nat.le_max_left _ _) hn) he
        simp only [callE, e1]
        exact h2 n (Nat.le_trans (Nat.le_max_right _ _) hn)
  obtain ⟨n0, h0⟩ := hS
  obtain ⟨r, h', e1, hq⟩ := h0 n0 (Nat.le_refl _)
  exact ⟨n0 + 1, r, h', (hF n0).symm.trans e1, hq⟩
/-- a walk of at most n instructions, that stops ahead of the pcs of 'stops' -/
def wpk (stops : List Nat) : Nat → Nat → Nat → Nat → List (Option AV) → List AV → AH → (Option AV → AH → Prop) → Prop
  | 0, d, M, pc, ls, st, h, Q => Wp d M pc ls st h Q
  | n + 1, d, M, pc, ls, st, h, Q => ∃ ce, cd M pc = some ce ∧ stepK False (fun pc ls st h => if pc ∈ stops then Wp d M pc ls st h Q else wpk stops n d M pc ls st h Q) Q (fun M' as h k => Wc d M' as h k) dfO nF ce ls st h
theorem Wc_mono {d M : Nat} {as : List AV} {h : AH} {Q Q' : Option AV → AH → Prop} (hq : ∀ r h, Q r h → Q' r h) (hw : Wc d M as h Q) : Wc d M as h Q' := by
  unfold Wc at *
  cases d with
  | zero => exact hw
  | succ d => exact Wp_mono hw hq
theorem wpk_sound {stops : List Nat} : ∀ {n d M pc : Nat} {ls : List (Option AV)} {st : List AV} {h : AH} {Q : Option AV → AH → Prop}, wpk stops n d M pc ls st h Q → Wp d M pc ls st h Q := by
  intro n
  induction n with
  | zero => intro d M pc ls st h Q hw; exact hw
  | succ n ih =>
    intro d M pc ls st h Q hw
    obtain ⟨ce, hc, hk⟩ := hw
    refine Wp_step hc ?_
    refine stepK_rel (R := fun (P P' : Prop) => P → P') (fun h => h) (fun pc ls st h => ?_) (fun _ _ h => h) (fun M' as h k k' hkk => (Wc_mono hkk : Wc d M' as h k → Wc d M' as h k')) ce ls st h hk
    intro hw
    split at hw
    · exact hw
    · exact ih hw
theorem wpk_succ {stops : List Nat} {n d M pc : Nat} {ls : List (Option AV)} {st : List AV} {h : AH} {Q : Option AV → AH → Prop} {ce : CE} (hc : cd M pc = some ce) : wpk stops (n + 1) d M pc ls st h Q = stepK False (fun pc ls st h => if pc ∈ stops then Wp d M pc ls st h Q else wpk stops n d M pc ls st h Q) Q (fun M' as h k => Wc d M' as h k) dfO nF ce ls st h := by
  apply propext
  constructor
  · rintro ⟨ce', h1, h2⟩
    rw [hc] at h1
    cases h1
    exact h2
  · exact fun h => ⟨ce, hc, h⟩
