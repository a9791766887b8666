/-! what is known of a call -/
abbrev SAV : Type := AV ⊕ (Bool × Int × Int)
/-- arguments, answer, what is written, the cells of it, entries known ahead, entries known behind, entries that grow by a number, depth -/
abbrev KT : Type := List SAV × Option SAV × MD × List Nat × List (Nat × Nat × SAV) × List (Nat × Nat × SAV) × List (Nat × Nat × Int) × Nat
def sa_V (a : SAV) (v : AV) : Prop := match a with
  | .inl u => v = u
  | .inr q => inRg q v
def sa_O (a : Option SAV) (v : Option AV) : Prop := match a with
  | none => v = none
  | some a => ∃ u, v = some u ∧ sa_V a u
def sa_S : List SAV → List AV → Prop
  | [], st => st = []
  | a :: as, st => ∃ v vs, st = v :: vs ∧ sa_V a v ∧ sa_S as vs
def z0 : Nat → Int := fun _ => 0
theorem z0_x {n : Nat} {ρ : Nat → Int} : n_X 0 z0 n ρ := ⟨Nat.zero_le n, fun i hi => absurd hi (Nat.not_lt_zero i)⟩
def k_H (JB : SB) (h : AH) : Prop := n_H 0 z0 JB h
def k_F (fs : List (Nat × Nat × SAV)) (h : AH) : Prop := ∀ f, f ∈ fs → sa_V f.2.2 (hV h f.1 f.2.1)
def k_D (ds : List (Nat × Nat × Int)) (h h' : AH) : Prop := ∀ q, q ∈ ds → ∃ x, hV h q.1 q.2.1 = .inl x ∧ hV h' q.1 q.2.1 = .inl (x + q.2.2)
def KOK (JB : SB) (W : AH → Prop) (M : Nat) (c : KT) : Prop := ∀ (d : Nat) (vs : List AV) (h : AH) (Q : Option AV → AH → Prop), c.2.2.2.2.2.2.2 ≤ d → sa_S c.1 vs → k_H JB h → W h → k_F c.2.2.2.2.1 h → (∀ r h', sa_O c.2.1 r → k_H JB h' → k_F c.2.2.2.2.2.1 h' → k_D c.2.2.2.2.2.2.1 h h' → n_F W c.2.2.1 h h' → Q r h') → XC d M vs h Q
noncomputable def fitA (n : Nat) (E : EV) (w : SV) (a : SAV) : Bool := match a with
  | .inl u => (match w with
    | .inl v => eqAV v u
    | .inr _ => false)
  | .inr q => leQ n E w q
theorem fitA_s {n : Nat} {E : EV} {ρ : Nat → Int} {w : SV} {a : SAV} {v : AV} (h : fitA n E w a = true) (hE : n_E n E ρ) (hv : n_V n ρ w v) : sa_V a v := by
  match a, h with
  | .inl u, h =>
    match w, h, hv with
    | .inl v', h, hv => have h : eqAV v' u = true := h; have e := eqAV_s h; rw [← e]; exact hv.2
  | .inr q, h => exact leQ_s h hE hv
noncomputable def fitS (n : Nat) (E : EV) (ws : List SV) : List SAV → Bool := List.rec (fun as => match as with
  | [] => true
  | _ => false) (fun w _ ih as => match as with
  | [] => false
  | a :: t => fitA n E w a && ih t) ws
theorem fitS_s {n : Nat} {E : EV} {ρ : Nat → Int} {ws : List SV} (hE : n_E n E ρ) : ∀ {as : List SAV} {vs : List AV}, fitS n E ws as = true → n_S n ρ ws vs → sa_S as vs := by
  induction ws with
  | nil =>
    intro as vs h hs
    cases as with
    | nil => exact hs
    | cons a t => cases h
  | cons w ws ih =>
    intro as vs h hs
    cases as with
    | nil => cases h
    | cons a t =>
      have h : (fitA n E w a && fitS n E ws t) = true := h
      rw [Bool.and_eq_true] at h
      obtain ⟨v, vs, rfl, hv, hs⟩ := hs
      exact ⟨v, vs, rfl, fitA_s h.1 hE hv, ih h.2 hs⟩
/-! an entry, a cell says at least so much -/
def eqQ (q q' : Bool × Int × Int) : Bool := (bif q.1 then q'.1 else !q'.1) && (eqI q.2.1 q'.2.1 && eqI q.2.2 q'.2.2)
def leQQ (q q' : Bool × Int × Int) : Bool := (bif q.1 then q'.1 else !q'.1) && (!ltI q.2.1 q'.2.1 && !ltI q'.2.2 q.2.2)
theorem leQQ_s {q q' : Bool × Int × Int} {v : AV} (h : leQQ q q' = true) (hv : inRg q v) : inRg q' v := by
  unfold leQQ at h
  rw [Bool.and_eq_true, Bool.and_eq_true, ltI_eq, ltI_eq, not_d, not_d, decide_eq_true_eq, decide_eq_true_eq] at h
  refine inRg_le hv ?_ (by omega) (by omega)
  obtain ⟨l, a⟩ := q
  obtain ⟨l', a'⟩ := q'
  cases l <;> cases l' <;> first | rfl | cases h.1
noncomputable def memN (k : Nat) (l : List Nat) : Bool := List.rec false (fun a _ ih => Nat.beq a k || ih) l
theorem memN_s {k : Nat} {l : List Nat} (h : memN k l = true) : k ∈ l := by
  induction l with
  | nil => cases h
  | cons a l ih =>
    have h : (Nat.beq a k || memN k l) = true := h
    rw [Bool.or_eq_true] at h
    rcases h with h | h
    · rw [Nat.eq_of_beq_eq_true h]; exact List.mem_cons_self
    · exact List.mem_cons_of_mem _ (ih h)
noncomputable def leE (n : Nat) (E : EV) (e e' : HV) : Bool := match e' with
  | .inl (.inl v) => (match e with
    | .inl (.inl u) => eqAV u v
    | _ => false)
  | .inl (.inr _) => false
  | .inr (.inl q) => (match e with
    | .inl w => leQ n E w q
    | .inr (.inl q') => leQQ q' q
    | _ => false)
  | .inr (.inr ks) => (match e with
    | .inl (.inl (.inr (.inr (some k)))) => memN k ks
    | .inr (.inr ks') => aLL ks' fun k => memN k ks
    | _ => false)
theorem leE_s {n : Nat} {E : EV} {ρ : Nat → Int} {e e' : HV} {v : AV} (h : leE n E e e' = true) (hE : n_E n E ρ) (hv : n_W n ρ e v) : n_W 0 z0 e' v := by
  match e', h with
  | .inl (.inl u'), h =>
    match e, h, hv with
    | .inl (.inl u), h, hv => have h : eqAV u u' = true := h; have e := eqAV_s h; exact ⟨trivial, by rw [← e]; exact hv.2⟩
  | .inr (.inl q), h =>
    match e, h, hv with
    | .inl w, h, hv => exact leQ_s h hE hv
    | .inr (.inl q'), h, hv => exact leQQ_s h hv
  | .inr (.inr ks), h =>
    match e, h, hv with
    | .inl (.inl (.inr (.inr (some k)))), h, hv => exact ⟨k, memN_s h, hv.2⟩
    | .inr (.inr ks'), h, hv => obtain ⟨k, k1, k2⟩ := hv; exact ⟨k, memN_s (aLL_s h k k1), k2⟩
noncomputable def leEs (n : Nat) (E : EV) (l : List HV) : List HV → Bool := List.rec (fun l' => match l' with
  | [] => true
  | _ => false) (fun e _ ih l' => match l' with
  | [] => false
  | e' :: t => leE n E e e' && ih t) l
theorem leEs_s {n : Nat} {E : EV} {l : List HV} : ∀ {l' : List HV}, leEs n E l l' = true → l.length = l'.length ∧ ∀ (i : Nat) (e' : HV), l'[i]? = some e' → ∃ e, l[i]? = some e ∧ leE n E e e' = true := by
  induction l with
  | nil =>
    intro l' h
    cases l' with
    | nil => exact ⟨rfl, fun i w' hw => by rw [List.getElem?_nil] at hw; cases hw⟩
    | cons a t => cases h
  | cons a l ih =>
    intro l' h
    cases l' with
    | nil => cases h
    | cons a' t =>
      have h : (leE n E a a' && leEs n E l t) = true := h
      rw [Bool.and_eq_true] at h
      obtain ⟨h1, h2⟩ := ih h.2
      refine ⟨by rw [List.length_cons, List.length_cons, h1], fun i w' hw => ?_⟩
      cases i with
      | zero => rw [List.getElem?_cons_zero] at hw; cases hw; exact ⟨a, rfl, h.1⟩
      | succ i => rw [List.getElem?_cons_succ] at hw ⊢; exact h2 i w' hw
noncomputable def eqQs (l : List (Bool × Int × Int)) : List (Bool × Int × Int) → Bool := List.rec (fun l' => match l' with
  | [] => true
  | _ => false) (fun q _ ih l' => match l' with
  | [] => false
  | q' :: t => eqQ q q' && ih t) l
theorem eqQ_s {q q' : Bool × Int × Int} (h : eqQ q q' = true) : q = q' := by
  unfold eqQ at h
  rw [Bool.and_eq_true, Bool.and_eq_true, eqI_eq, eqI_eq, decide_eq_true_eq, decide_eq_true_eq] at h
  obtain ⟨l, a, b⟩ := q
  obtain ⟨l', a', b'⟩ := q'
  obtain ⟨h1, h2, h3⟩ := h
  have h2 : a = a' := h2
  have h3 : b = b' := h3
  subst h2 h3
  cases l <;> cases l' <;> first | rfl | cases h1
theorem eqQs_s {l : List (Bool × Int × Int)} : ∀ {l' : List (Bool × Int × Int)}, eqQs l l' = true → l = l' := by
  induction l with
  | nil => intro l' h; cases l' with
    | nil => rfl
    | cons a t => cases h
  | cons a l ih => intro l' h; cases l' with
    | nil => cases h
    | cons a' t =>
      have h : (eqQ a a' && eqQs l t) = true := h
      rw [Bool.and_eq_true] at h
      rw [eqQ_s h.1, ih h.2]
noncomputable def leRs (l : List RG) : List RG → Bool := List.rec (fun l' => match l' with
  | [] => true
  | _ => false) (fun r _ ih l' => match l' with
  | [] => false
  | r' :: t => ((Nat.beq r.1 r'.1 && Nat.beq r.2.1 r'.2.1) && (Nat.beq r.2.2.1 r'.2.2.1 && eqQs r.2.2.2 r'.2.2.2)) && ih t) l
theorem leRs_s {l : List RG} : ∀ {l' : List RG}, leRs l l' = true → l = l' := by
  induction l with
  | nil => intro l' h; cases l' with
    | nil => rfl
    | cons a t => cases h
  | cons r l ih => intro l' h; cases l' with
    | nil => cases h
    | cons r' t =>
      have h : (((Nat.beq r.1 r'.1 && Nat.beq r.2.1 r'.2.1) && (Nat.beq r.2.2.1 r'.2.2.1 && eqQs r.2.2.2 r'.2.2.2)) && leRs l t) = true := h
      rw [Bool.and_eq_true, Bool.and_eq_true, Bool.and_eq_true, Bool.and_eq_true] at h
      obtain ⟨⟨⟨a, b⟩, c, d⟩, e⟩ := h
      have a := Nat.eq_of_beq_eq_true a
      have b := Nat.eq_of_beq_eq_true b
      have c := Nat.eq_of_beq_eq_true c
      have d := eqQs_s d
      obtain ⟨r1, r2, r3, r4⟩ := r
      obtain ⟨s1, s2, s3, s4⟩ := r'
      have a : r1 = s1 := a
      have b : r2 = s2 := b
      have c : r3 = s3 := c
      have d : r4 = s4 := d
      subst a b c d
      rw [ih e]
noncomputable def leSC (n : Nat) (E : EV) (c c' : SC) : Bool := (Nat.beq c.1 c'.1 && Nat.beq c.2.1 c'.2.1) && (leEs n E c.2.2.1 c'.2.2.1 && leRs c.2.2.2 c'.2.2.2)
theorem leSC_s {n : Nat} {E : EV} {ρ : Nat → Int} {h : AH} {k : Nat} {c c' : SC} (hl : leSC n E c c' = true) (hE : n_E n E ρ) (hc : n_C n ρ h k c) : n_C 0 z0 h k c' := by
  unfold leSC at hl
  rw [Bool.and_eq_true, Bool.and_eq_true, Bool.and_eq_true] at hl
  obtain ⟨⟨h1, h2⟩, h3, h4⟩ := hl
  have h1 := Nat.eq_of_beq_eq_true h1
  have h2 := Nat.eq_of_beq_eq_true h2
  have h4 := leRs_s h4
  obtain ⟨hlen, hv⟩ := leEs_s h3
  refine ⟨by rw [hc.1, h1, h2], fun i e' he' => ?_, fun r hr => ?_⟩
  · obtain ⟨e, e1, e2⟩ := hv i e' he'
    exact leE_s e2 hE (hc.2.1 i e e1)
  · rw [← h4] at hr
    rw [← hlen]
    exact hc.2.2 r hr
noncomputable def okJ (JB : SB) (n : Nat) (E : EV) (b : SB) (ns : List Nat) : Bool := aLL ns fun k => fS b k fun c => fS JB k fun c' => leSC n E c c'
/-- what was not written is as it was -/
theorem okJ_s {JB : SB} {W : AH → Prop} {n : Nat} {E : EV} {ρ : Nat → Int} {b : SB} {md : MD} {ns : List Nat} {h0 h : AH} (hh : okJ JB n E b ns = true) (hE : n_E n E ρ) (hb : n_H n ρ b h) (hf : n_F W md h0 h) (hm : ∀ k i, inMd md k i → k ∈ ns) (hJ : k_H JB h0) : k_H JB h := by
  refine ⟨hb.1, hb.2.1, fun k c hc => ?_⟩
  by_cases z : k ∈ ns
  · obtain ⟨c0, h1, h2⟩ := fS_s (aLL_s hh k z)
    obtain ⟨c', h3, h4⟩ := fS_s h2
    rw [hc] at h3
    cases h3
    exact leSC_s h4 hE (hb.2.2 k c0 h1)
  · have hC := hJ.2.2 k c hc
    have hv : ∀ i, hV h k i = hV h0 k i := fun i => hf.2 k i (fun y => z (hm k i y))
    exact ⟨by rw [hf.1.1]; exact hC.1, fun i e he => by rw [hv i]; exact hC.2.1 i e he, fun r hr => ⟨(hC.2.2 r hr).1, fun i q i1 i2 hq => by rw [hv i]; exact (hC.2.2 r hr).2 i q i1 i2 hq⟩⟩
/-! entries known -/
noncomputable def fitF (n : Nat) (E : EV) (b : SB) (fs : List (Nat × Nat × SAV)) : Bool := aLL fs fun f => fS b f.1 fun c => match nth c.2.2.1 f.2.1 with
  | some (.inl w) => fitA n E w f.2.2
  | some (.inr (.inl q)) => (match f.2.2 with
    | .inr q' => leQQ q q'
    | .inl _ => false)
  | _ => false
theorem fitF_s {n : Nat} {E : EV} {ρ : Nat → Int} {b : SB} {fs : List (Nat × Nat × SAV)} {h : AH} (hh : fitF n E b fs = true) (hE : n_E n E ρ) (hb : n_H n ρ b h) : k_F fs h := by
  intro f hf
  obtain ⟨c, h1, h2⟩ := fS_s (aLL_s hh f hf)
  have hC := hb.2.2 f.1 c h1
  split at h2
  · rename_i w hw
    rw [nth_eq] at hw
    exact fitA_s h2 hE (hC.2.1 _ _ hw)
  · rename_i q hq
    rw [nth_eq] at hq
    split at h2
    · rename_i q' hq'
      rw [hq']
      exact leQQ_s h2 (hC.2.1 _ _ hq)
    · cases h2
  · cases h2
