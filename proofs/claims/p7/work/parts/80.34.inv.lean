/-! what every run keeps -/
set_option maxHeartbeats 4000000 in
theorem stepK_inv {I : AH → Prop} {P : RT → Prop} {go : Nat → List (Option AV) → List AV → AH → RT} {call : Nat → List AV → AH → (Option AV → AH → RT) → RT} {dO : Nat → Nat → AV} {nf : Nat → Nat} (op nx a b : Nat) (k : Int) (sw : List (Int × Nat)) (ls : List (Option AV)) (st : List AV) (h : AH)
    (hI : I h) (hs : ∀ r i v, (hK h r).1 < 15 → I (hSet h r i v)) (hn : ∀ kd len sl ini, hN h < 5000 → I (hNew h kd len sl ini)) (hcp : ∀ r sp q dp n, (hK h q).1 < 15 → I (hCpy h r sp q dp n)) (h24 : op = 24 → a < 15)
    (hb : P none) (hg : ∀ pc ls st h', I h' → P (go pc ls st h')) (hr : ∀ r, P (some (r, h))) (hc : ∀ M as k, (∀ r h', I h' → P (k r h')) → P (call M as h k)) : P (stepK none go (fun r h => some (r, h)) call dO nf (op, nx, a, b, k, sw) ls st h) := by
  have hg0 : ∀ pc ls st, P (go pc ls st h) := fun pc ls st => hg pc ls st h hI
  unfold stepK
  dsimp only
  split
  case h_25 =>
    refine pV_pr hb fun v st => pR_pr hb fun r st => if_pr (fun hk => ?_) (fun _ => hb)
    exact hg _ _ _ _ (hs _ _ _ (by rw [hk.1]; exact h24 rfl))
  case h_31 =>
    refine pI_pr hb fun x st => pI_pr hb fun i st => pR_pr hb fun r st => if_pr (fun hk => ?_) (fun _ => hb)
    exact hg _ _ _ _ (hs _ _ _ (by omega))
  case h_32 =>
    refine pL_pr hb fun x st => pI_pr hb fun i st => pR_pr hb fun r st => if_pr (fun hk => ?_) (fun _ => hb)
    exact hg _ _ _ _ (hs _ _ _ (by omega))
  case h_33 =>
    refine pI_pr hb fun x st => pI_pr hb fun i st => pR_pr hb fun r st => if_pr (fun hk => ?_) (fun _ => hb)
    exact hg _ _ _ _ (hs _ _ _ (by omega))
  case h_34 =>
    refine pR_pr hb fun x st => pI_pr hb fun i st => pR_pr hb fun r st => if_pr (fun hk => ?_) (fun _ => hb)
    exact hg _ _ _ _ (hs _ _ _ (by omega))
  case h_36 =>
    refine pI_pr hb fun n st => if_pr (fun hk => ?_) (fun _ => hb)
    exact hg _ _ _ _ (hn _ _ _ _ hk.2.2)
  case h_37 =>
    refine pI_pr hb fun n st => if_pr (fun hk => ?_) (fun _ => hb)
    exact hg _ _ _ _ (hn _ _ _ _ hk.2.2)
  case h_38 =>
    refine if_pr (fun hk => ?_) (fun _ => hb)
    exact hg _ _ _ _ (hn _ _ _ _ hk)
  case h_45 =>
    refine pI_pr hb fun n st => pI_pr hb fun dp st => pR_pr hb fun q st => pI_pr hb fun sp st => pR_pr hb fun r st => if_pr (fun hk => ?_) (fun _ => hb)
    exact hg _ _ _ _ (hcp _ _ _ _ _ (by omega))
  all_goals first
    | exact hb
    | exact hg0 _ _ _
    | (split <;> first | exact hr _ | exact hb | (split <;> first | exact hr _ | exact hb))
    | (repeat first
        | exact hb
        | exact hg0 _ _ _
        | exact hc _ _ _ (fun _ h' hi => hg _ _ _ h' hi)
        | (refine pI_pr hb fun _ _ => ?_)
        | (refine pL_pr hb fun _ _ => ?_)
        | (refine pR_pr hb fun _ _ => ?_)
        | (refine pV_pr hb fun _ _ => ?_)
        | (refine oI_pr hb fun _ => ?_)
        | (refine vIo_pr hb fun _ => ?_)
        | (refine vLo_pr hb fun _ => ?_)
        | (refine vOo_pr hb fun _ => ?_)
        | (refine lI_pr hb fun _ => ?_)
        | (refine lL_pr hb fun _ => ?_)
        | (refine lR_pr hb fun _ => ?_)
        | (refine if_pr (fun _ => ?_) (fun _ => ?_)))
theorem cd_24 {M pc : Nat} {op nx a b : Nat} {k : Int} {sw : List (Int × Nat)} (hcd : cd M pc = some (op, nx, a, b, k, sw)) : op = 24 → a < 15 := by
  have hok := cd_ok hcd
  unfold okB at hok
  rw [Bool.or_eq_true] at hok
  rcases hok with h99 | hok
  · have : op = 99 := of_decide_eq_true h99
    exact fun h => by omega
  · split at hok
    · rename_i ins len hd
      rw [Bool.and_eq_true] at hok
      obtain ⟨-, h2⟩ := hok
      dsimp only at h2
      rintro rfl
      cases ins <;> first | (cases h2; done) | skip
      rw [okO, Bool.and_eq_true] at h2
      have := (flk_ok h2.2).2.1
      omega
    · cases hok
theorem xec_inv {I : AH → Prop} (hs : ∀ h r i v, I h → (hK h r).1 < 15 → I (hSet h r i v)) (hn : ∀ h kd len sl ini, I h → hN h < 5000 → I (hNew h kd len sl ini)) (hcp : ∀ h r sp q dp n, I h → (hK h q).1 < 15 → I (hCpy h r sp q dp n)) :
    ∀ (n d M pc : Nat) (ls : List (Option AV)) (st : List AV) (h : AH) (r : Option AV) (h1 : AH), I h → xec n d M pc ls st h = some (r, h1) → I h1 := by
  intro n
  induction n with
  | zero => intro d M pc ls st h r h1 _ hv; rw [xec] at hv; cases hv
  | succ n ih =>
    intro d M pc ls st h r h1 hI
    cases hc : cd M pc with
    | none => intro hv; rw [xec, hc] at hv; cases hv
    | some ce =>
      obtain ⟨op, nx, a, b, k, sw⟩ := ce
      rw [xec_succ hc]
      refine stepK_inv (I := I) (P := fun (x : RT) => x = some (r, h1) → I h1) op nx a b k sw ls st h hI (fun r i v => hs h r i v hI) (fun kd len sl ini => hn h kd len sl ini hI) (fun r sp q dp n => hcp h r sp q dp n hI) (cd_24 hc) (fun h => by cases h) (fun pc ls st h' hi hv => ih _ _ _ _ _ _ _ _ hi hv) (fun r' hv => by cases hv; exact hI) (fun M' as k hk hv => ?_)
      obtain ⟨d', r2, h2, rfl, hl, he, hk1⟩ := callX_some hv
      exact hk r2 h2 (ih _ _ _ _ _ _ _ _ hI he) hk1
/-- the outside cells are as at the start -/
def OUT (L : Nat) (xs : Nat → Int) (h : AH) : Prop := hN h ≤ 5000 ∧ ∀ k, 1000000 ≤ k → hK h k = Kst L k ∧ ∀ i, hV h k i = Vst xs k i
theorem Kst_out (L k : Nat) : ¬ (Kst L k).1 < 15 := by
  unfold Kst
  split
  · exact (by decide : ¬ 20 < 15)
  · split
    · exact (by decide : ¬ 20 < 15)
    · exact (by decide : ¬ 99 < 15)
theorem OUT_run {L : Nat} {xs : Nat → Int} {n d M pc : Nat} {ls : List (Option AV)} {st : List AV} {h : AH} {r : Option AV} {h1 : AH} (ho : OUT L xs h) (he : xec n d M pc ls st h = some (r, h1)) : OUT L xs h1 := by
  refine xec_inv (I := OUT L xs) ?_ ?_ ?_ n d M pc ls st h r h1 ho he
  · intro h r i v ho hr
    refine ⟨ho.1, fun k hk => ⟨(ho.2 k hk).1, fun j => ?_⟩⟩
    have hne : k ≠ r := fun z => by
      rw [← z, (ho.2 k hk).1] at hr
      exact Kst_out L k hr
    have : hV (hSet h r i v) k j = hV h k j := if_neg (fun z => hne z.1)
    rw [this]; exact (ho.2 k hk).2 j
  · intro h kd len sl ini ho h5
    refine ⟨h5, fun k hk => ?_⟩
    have hne : k ≠ hN h := by omega
    have e1 : hK (hNew h kd len sl ini) k = hK h k := if_neg hne
    have e2 : ∀ i, hV (hNew h kd len sl ini) k i = hV h k i := fun i => if_neg hne
    exact ⟨by rw [e1]; exact (ho.2 k hk).1, fun i => by rw [e2]; exact (ho.2 k hk).2 i⟩
  · intro h r sp q dp n ho hq
    refine ⟨ho.1, fun k hk => ⟨(ho.2 k hk).1, fun j => ?_⟩⟩
    have hne : k ≠ q := fun z => by
      rw [← z, (ho.2 k hk).1] at hq
      exact Kst_out L k hq
    have : hV (hCpy h r sp q dp n) k j = hV h k j := if_neg (fun z => hne z.1)
    rw [this]; exact (ho.2 k hk).2 j
/-- the class's cells as they are fresh -/
def FrC (h : AH) : Prop := ∀ k, k < 76 → hK h k = K0 k ∧ ∀ i, i < sz0 k → hV h k i = V0 k i
theorem ckT_of {h : AH} {a b : Nat} (hc : ckT h a b = true) : ∀ k, a ≤ k → k < b → hK h k = K0 k ∧ ∀ i, i < sz0 k → hV h k i = V0 k i := by
  intro k ha hb
  have hm : k ∈ (List.range b).drop a := by
    refine List.mem_of_getElem? (i := k - a) ?_
    rw [List.getElem?_drop, show a + (k - a) = k by omega, List.getElem?_range hb]
  have h1 := List.all_eq_true.mp hc k hm
  rw [Bool.and_eq_true] at h1
  exact ⟨of_decide_eq_true h1.1, fun i hi => of_decide_eq_true (List.all_eq_true.mp h1.2 i (List.mem_range.mpr hi))⟩
