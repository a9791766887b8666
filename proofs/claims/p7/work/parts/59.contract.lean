/-! the entry -/
def aT : List SAV → TL
  | [] => []
  | .inl (.inr (.inl x)) :: as => some (.inl (.inr (.inl x))) :: none :: aT as
  | .inl v :: as => some (.inl v) :: aT as
  | .inr (true, lo, hi) :: as => some (.inr (true, (lo, hi, 1, none))) :: none :: aT as
  | .inr (false, lo, hi) :: as => some (.inr (false, (lo, hi, 1, none))) :: aT as
def x_OK (es : List SE) (xs : List Int) : Prop := es.length = xs.length ∧ ∀ (j : Nat) (e : SE), es[j]? = some e → ∃ x, xs[j]? = some x ∧ e.1 ≤ x ∧ x ≤ e.2.1 ∧ e.2.2.1 = 1 ∧ e.2.2.2 = none
theorem x_OK_c {es : List SE} {xs : List Int} {e : SE} {x : Int} (h : x_OK es xs) (h1 : e.1 ≤ x) (h2 : x ≤ e.2.1) (h3 : e.2.2.1 = 1) (h4 : e.2.2.2 = none) : x_OK (e :: es) (x :: xs) := by
  refine ⟨by rw [List.length_cons, List.length_cons, h.1], fun j f hf => ?_⟩
  cases j with
  | zero => rw [List.getElem?_cons_zero] at hf; cases hf; exact ⟨x, rfl, h1, h2, h3, h4⟩
  | succ j => rw [List.getElem?_cons_succ] at hf ⊢; exact h.2 j f hf
theorem noL_none {N : Nat} {ρ : Nat → Int} : n_P N ρ none none := fun z hz => by cases hz
theorem aT_s {args : List SAV} : ∀ {vs : List AV}, sa_S args vs → ∃ xs : List Int, x_OK (tS (aT args)) xs ∧ (aT args).length = (vs.flatMap entA).length ∧ ∀ (N : Nat) (ρ : Nat → Int) (m : Nat) (tl : List (Option SV)) (u : List (Option AV)), m + xs.length ≤ N → (∀ (j : Nat) (x : Int), xs[j]? = some x → ρ (m + j) = x) → n_L N ρ tl u → n_L N ρ (tL (aT args) m ++ tl) (vs.flatMap entA ++ u) := by
  induction args with
  | nil =>
    intro vs h
    have h : vs = [] := h
    subst h
    exact ⟨[], ⟨rfl, fun j e he => by have he : ([] : List SE)[j]? = some e := he; rw [List.getElem?_nil] at he; cases he⟩, rfl, fun _ _ _ _ _ _ _ ht => ht⟩
  | cons a args ih =>
    intro vs h
    obtain ⟨v, vs, rfl, hv, hs⟩ := h
    obtain ⟨xs, g1, g2, g3⟩ := ih hs
    match a, hv with
    | .inl (.inr (.inl x)), hv =>
      have hv : v = .inr (.inl x) := hv
      subst hv
      refine ⟨xs, g1, ?_, fun N ρ m tl u p1 p2 ht => ?_⟩
      · rw [List.flatMap_cons, List.length_append]
        show (aT args).length + 1 + 1 = 2 + _
        omega
      · rw [List.flatMap_cons, List.append_assoc]
        exact ⟨_, _, rfl, ⟨_, rfl, trivial, rfl⟩, _, _, rfl, noL_none, g3 N ρ m tl u p1 p2 ht⟩
    | .inl (.inl x), hv =>
      have hv : v = .inl x := hv
      subst hv
      refine ⟨xs, g1, ?_, fun N ρ m tl u p1 p2 ht => ?_⟩
      · rw [List.flatMap_cons, List.length_append]
        show (aT args).length + 1 = 1 + _
        omega
      · rw [List.flatMap_cons, List.append_assoc]
        exact ⟨_, _, rfl, ⟨_, rfl, trivial, rfl⟩, g3 N ρ m tl u p1 p2 ht⟩
    | .inl (.inr (.inr x)), hv =>
      have hv : v = .inr (.inr x) := hv
      subst hv
      refine ⟨xs, g1, ?_, fun N ρ m tl u p1 p2 ht => ?_⟩
      · rw [List.flatMap_cons, List.length_append]
        show (aT args).length + 1 = 1 + _
        omega
      · rw [List.flatMap_cons, List.append_assoc]
        exact ⟨_, _, rfl, ⟨_, rfl, trivial, rfl⟩, g3 N ρ m tl u p1 p2 ht⟩
    | .inr (true, lo, hi), hv =>
      obtain ⟨x, rfl, x1, x2⟩ := hv
      refine ⟨x :: xs, x_OK_c g1 x1 x2 rfl rfl, ?_, fun N ρ m tl u p1 p2 ht => ?_⟩
      · rw [List.flatMap_cons, List.length_append]
        show (aT args).length + 1 + 1 = 2 + _
        omega
      · rw [List.flatMap_cons, List.append_assoc]
        rw [List.length_cons] at p1
        refine ⟨_, _, rfl, ⟨_, rfl, n_name (l := true) (by omega) (p2 0 x rfl)⟩, _, _, rfl, noL_none, g3 N ρ (m + 1) tl u (by omega) (fun j y hy => ?_) ht⟩
        rw [show m + 1 + j = m + (j + 1) by omega]
        exact p2 (j + 1) y (by rw [List.getElem?_cons_succ]; exact hy)
    | .inr (false, lo, hi), hv =>
      obtain ⟨x, rfl, x1, x2⟩ := hv
      refine ⟨x :: xs, x_OK_c g1 x1 x2 rfl rfl, ?_, fun N ρ m tl u p1 p2 ht => ?_⟩
      · rw [List.flatMap_cons, List.length_append]
        show (aT args).length + 1 = 1 + _
        omega
      · rw [List.flatMap_cons, List.append_assoc]
        rw [List.length_cons] at p1
        refine ⟨_, _, rfl, ⟨_, rfl, n_name (l := false) (by omega) (p2 0 x rfl)⟩, g3 N ρ (m + 1) tl u (by omega) (fun j y hy => ?_) ht⟩
        rw [show m + 1 + j = m + (j + 1) by omega]
        exact p2 (j + 1) y (by rw [List.getElem?_cons_succ]; exact hy)
noncomputable def arrD (dl : List (Nat × Nat × Int)) : Nat → EV → SB → List SV → (Nat → EV → SB → List SV → Bool) → Bool := List.rec (fun n E b acc k => k n E b acc) (fun q _ ih n E b acc k => fS b q.1 fun c => ldE n E b q.1 c q.2.1 fun n E b w => isYI w && ih n E b (acc ++ [w]) k) dl
theorem arrD_s {h : AH} {k : Nat → EV → SB → List SV → Bool} {dl : List (Nat × Nat × Int)} : ∀ {n : Nat} {E : EV} {ρ : Nat → Int} {b : SB} {acc : List SV}, arrD dl n E b acc k = true → n_E n E ρ → n_H n ρ b h → ∃ n' ρ' E' b' ws, k n' E' b' (acc ++ ws) = true ∧ n_X n ρ n' ρ' ∧ n_E n' E' ρ' ∧ n_H n' ρ' b' h ∧ n_D n' ρ' h dl ws := by
  induction dl with
  | nil => intro n E ρ b acc hh hE hb; exact ⟨n, ρ, E, b, [], by rw [List.append_nil]; exact hh, n_X_r, hE, hb, trivial⟩
  | cons q dl ih =>
    intro n E ρ b acc hh hE hb
    obtain ⟨c, hc, hh⟩ := fS_s (show fS b q.1 _ = true from hh)
    obtain ⟨n1, ρ1, E1, b1, w, g1, g2, g3, g4, g5⟩ := ldE_s hh hE hb hc
    rw [Bool.and_eq_true] at g1
    obtain ⟨x, hx⟩ := isYI_s g1.1 g5
    obtain ⟨n2, ρ2, E2, b2, ws, q1, q2, q3, q4, q5⟩ := ih g1.2 g3 g4
    refine ⟨n2, ρ2, E2, b2, w :: ws, by rw [List.append_assoc] at q1; exact q1, n_X_t g2 q2, q3, q4, ⟨x, hx, ?_⟩, q5⟩
    rw [hx] at g5
    exact n_V_x q2 g5
def cuP (cuts : List CU) : List Nat := cuts.map fun cu => cu.1
noncomputable def chkE (JB : SB) (CT : CTB) (cuts : List CU) (c : KT) (d M : Nat) : Bool := (aLL c.2.2.1 (fun q => memN q.1 c.2.2.2.1) && Nat.ble (aT c.1).length (mL M)) && arrD c.2.2.2.2.2.2.1 (tS (aT c.1)).length (tS (aT c.1)).reverse (putF c.2.2.2.2.1 JB) [] fun n E b ws => smk JB CT c.2.2.1 c.2.2.2.1 1000000 (cuP cuts) (cksK JB c.2.2.2.1 true [] (.inl 0, .inl 0, .inl 0) cuts) d M 0 n E (tL (aT c.1) 0 ++ repS (mL M - (aT c.1).length)) [] b (retK JB c ws)
noncomputable def chkU (JB : SB) (CT : CTB) (cuts : List CU) (c : KT) (d M : Nat) (cu : CU) : Bool := smk JB CT c.2.2.1 c.2.2.2.1 1000000 (cuP cuts) (cksK JB c.2.2.2.1 false (tL cu.2.1 0) cu.2.2.2 cuts) d M cu.1 (cuS cu).length (cuS cu).reverse (tL cu.2.1 0) [] (cuB JB cu) (retK JB c [])
theorem KOK_of {JB : SB} {W : AH → Prop} (hW : FrW W) {CT : CTB} {cuts : List CU} {c : KT} {d M : Nat} (hCT : ctOK JB W CT) (hE : chkE JB CT cuts c d M = true) (hU : ∀ cu, cu ∈ cuts → c.2.2.2.2.2.2.1 = [] ∧ chkU JB CT cuts c d M cu = true) (hd : c.2.2.2.2.2.2.2 = d + 1) : KOK JB W M c := by
  intro d0 vs h Q hd0 hargs hJ hWh hpre hQ
  unfold chkE at hE
  rw [Bool.and_eq_true, Bool.and_eq_true, ble_d, decide_eq_true_eq] at hE
  obtain ⟨⟨e1, e2⟩, e3⟩ := hE
  have hm : ∀ k i, inMd c.2.2.1 k i → k ∈ c.2.2.2.1 := fun k i ⟨q, q1, q2, q3, q4⟩ => by rw [← q2]; exact memN_s (aLL_s e1 q q1)
  have hcut : ∀ a b c', ∀ (cu : CU) (ls : List (Option AV)) (h1 : AH), cu ∈ cuts → mval cu.2.2.2.1 ls = a → mval cu.2.2.2.2.1 ls = b → mval cu.2.2.2.2.2 ls = c' → CutP JB cu ls h1 → n_F W c.2.2.1 h h1 → XP d M cu.1 ls [] h1 Q := by
    refine lex3 (fun a b c' ih cu ls h1 hcu ha hb hc hP hF => ?_)
    obtain ⟨ρ, p1, p2, p3, p4⟩ := hP
    obtain ⟨u1, u2⟩ := hU cu hcu
    refine smk_s hW hm hCT _ _ _ _ _ _ _ _ _ _ _ _ u2 ρ ls [] h1 h Q p1 p2 rfl p3 hF hJ (fun pc hpc n' ρ' E' als ast b' ls' st' h' hk hx hE' hl hs hb' hf => ?_) (retK_s hm hJ (by rw [u1]; exact trivial) hQ)
    obtain ⟨cu', k1, k2, k3⟩ := cksK_s hk
    obtain ⟨r1, r2, r3⟩ := arrK_s k3 hE' hl hs hb' hf hm hJ
    subst r1
    rw [← k2]
    rcases r3 with z | z
    · cases z
    · have := z _ ρ ls hx p2
      rw [ha, hb, hc] at this
      exact ih _ _ _ this cu' ls' h' k1 rfl rfl rfl r2 hf
  cases d0 with
  | zero => omega
  | succ d0 =>
    obtain ⟨xs, g1, g2, g3⟩ := aT_s hargs
    refine XC_of (by unfold entN; rw [← g2]; exact e2) (XP_d (show d ≤ d0 by omega) ?_)
    have hρ : n_E (tS (aT c.1)).length (tS (aT c.1)).reverse (fun j => xs.getD j 0) := n_E_of fun i e he => by
      obtain ⟨x, x1, x2, x3, x4, x5⟩ := g1.2 i e he
      have ex : xs.getD i 0 = x := by rw [List.getD_eq_getElem?_getD, x1]; rfl
      refine ⟨⟨?_, ?_, ?_, fun q hq => ?_⟩, fun q hq => ?_⟩
      · show e.1 ≤ xs.getD i 0; rw [ex]; exact x2
      · show xs.getD i 0 ≤ e.2.1; rw [ex]; exact x3
      · rw [x4]; exact Int.one_dvd _
      · rw [x5] at hq; cases hq
      · rw [x5] at hq; cases hq
    have hb : n_H (tS (aT c.1)).length (fun j => xs.getD j 0) (putF c.2.2.2.2.1 JB) h := putF_s hpre _ (n_H_x z0_x hJ)
    obtain ⟨n', ρ', E', b', ws, q1, q2, q3, q4, q5⟩ := arrD_s e3 hρ hb
    rw [List.nil_append] at q1
    have hl : n_L (tS (aT c.1)).length (fun j => xs.getD j 0) (tL (aT c.1) 0 ++ repS (mL M - (aT c.1).length)) (entL (mL M) vs) := by
      unfold entL
      rw [← g2]
      refine g3 _ _ 0 _ _ (by rw [g1.1]; omega) (fun j x hx => ?_) (repS_s _)
      show xs.getD (0 + j) 0 = x
      rw [Nat.zero_add, List.getD_eq_getElem?_getD, hx]
      rfl
    refine smk_s hW hm hCT _ _ _ _ _ _ _ _ _ _ _ _ q1 ρ' _ [] h h Q q3 (n_L_x q2 hl) rfl q4 (n_F_r hWh) hJ (fun pc hpc n2 ρ2 E2 als ast b2 ls' st' h' hk hx hE' hl hs hb' hf => ?_) (retK_s hm hJ q5 hQ)
    obtain ⟨cu', k1, k2, k3⟩ := cksK_s hk
    obtain ⟨r1, r2, r3⟩ := arrK_s k3 hE' hl hs hb' hf hm hJ
    subst r1
    rw [← k2]
    exact hcut _ _ _ cu' ls' h' k1 rfl rfl rfl r2 hf
