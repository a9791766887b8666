/-! behind a call -/
theorem okMd_c {md : MD} {k i : Nat} (h : okMd md k i i = false) : ¬ inMd md k i := by
  rintro ⟨q, q1, q2, q3, q4⟩
  induction md with
  | nil => cases q1
  | cons a md ih =>
    have h : ((Nat.beq a.1 k && (Nat.ble a.2.1 i && Nat.ble i a.2.2)) || okMd md k i i) = false := h
    rw [Bool.or_eq_false_iff] at h
    rcases List.mem_cons.mp q1 with rfl | q1
    · have h1 := h.1
      rw [beq_d, ble_d, ble_d, decide_eq_true q2, decide_eq_true q3, decide_eq_true q4] at h1
      cases h1
    · exact ih h.2 q1
noncomputable def mixL (md : MD) (k : Nat) (l : List HV) : List HV → Nat → List HV := List.rec (fun _ _ => []) (fun e _ ih lj i => match lj with
  | [] => []
  | ej :: tj => (bif okMd md k i i then ej else e) :: ih tj (i + 1)) l
theorem mixL_s {md : MD} {k : Nat} {l : List HV} : ∀ {lj : List HV} {i j : Nat} {e : HV}, (mixL md k l lj i)[j]? = some e → lj[j]? = some e ∨ (¬ inMd md k (i + j) ∧ l[j]? = some e) := by
  induction l with
  | nil => intro lj i j e h; have h : ([] : List HV)[j]? = some e := h; rw [List.getElem?_nil] at h; cases h
  | cons a l ih =>
    intro lj i j e h
    cases lj with
    | nil => have h : ([] : List HV)[j]? = some e := h; rw [List.getElem?_nil] at h; cases h
    | cons ej tj =>
      have h : ((bif okMd md k i i then ej else a) :: mixL md k l tj (i + 1))[j]? = some e := h
      cases j with
      | zero =>
        rw [List.getElem?_cons_zero] at h
        cases hb : okMd md k i i with
        | true => rw [hb, cnd_t] at h; left; rw [List.getElem?_cons_zero]; exact h
        | false => rw [hb, cnd_f] at h; right; rw [List.getElem?_cons_zero]; exact ⟨okMd_c hb, h⟩
      | succ j =>
        rw [List.getElem?_cons_succ] at h
        rw [List.getElem?_cons_succ, List.getElem?_cons_succ]
        rcases ih h with q | q
        · exact Or.inl q
        · exact Or.inr ⟨by rw [show i + (j + 1) = i + 1 + j by omega]; exact q.1, q.2⟩
theorem mixL_len {md : MD} {k : Nat} {l : List HV} : ∀ {lj : List HV} {i : Nat}, (mixL md k l lj i).length ≤ lj.length := by
  induction l with
  | nil => intro lj i; exact Nat.zero_le _
  | cons a l ih =>
    intro lj i
    cases lj with
    | nil => exact Nat.le_refl _
    | cons ej tj =>
      show ((bif okMd md k i i then ej else a) :: mixL md k l tj (i + 1)).length ≤ _
      rw [List.length_cons, List.length_cons]
      have := ih (lj := tj) (i := i + 1)
      omega
noncomputable def mixC (md : MD) (k : Nat) (c cj : SC) : SC := (cj.1, cj.2.1, mixL md k c.2.2.1 cj.2.2.1 0, cj.2.2.2)
theorem mixC_s {n : Nat} {ρ : Nat → Int} {h' : AH} {md : MD} {k : Nat} {c cj : SC} (hc : ∀ i e, ¬ inMd md k i → c.2.2.1[i]? = some e → n_W n ρ e (hV h' k i)) (hj : n_C 0 z0 h' k cj) : n_C n ρ h' k (mixC md k c cj) := by
  refine ⟨hj.1, fun i e he => ?_, fun r hr => ⟨Nat.le_trans mixL_len (hj.2.2 r hr).1, (hj.2.2 r hr).2⟩⟩
  rcases mixL_s he with q | ⟨q1, q2⟩
  · exact n_W_x z0_x (hj.2.1 i e q)
  · exact hc i e (by rw [Nat.zero_add] at q1; exact q1) q2
noncomputable def mix1 (JB : SB) (md : MD) (k : Nat) (b : SB) : SB := match gS b k with
  | none => b
  | some c => match gS JB k with
    | none => sS b k (c.1, c.2.1, [], [])
    | some cj => sS b k (mixC md k c cj)
noncomputable def mixB (JB : SB) (md : MD) (mc : List Nat) : SB → SB := List.rec (fun b => b) (fun k _ ih b => ih (mix1 JB md k b)) mc
theorem mixB_s {JB : SB} {W : AH → Prop} {md : MD} {n : Nat} {ρ : Nat → Int} {h h' : AH} (hf : n_F W md h h') {mc : List Nat} : (∀ k, k ∈ mc → k < 1000000) → (∀ k cj, gS JB k = some cj → n_C 0 z0 h' k cj) → ∀ (b : SB), (∀ k c, gS b k = some c → n_C n ρ h k c ∨ n_C n ρ h' k c) → (∀ k c, gS b k = some c → k ∉ mc → n_C n ρ h' k c) → ∀ k c, gS (mixB JB md mc b) k = some c → n_C n ρ h' k c := by
  induction mc with
  | nil => intro _ _ b _ h2 k c hc; exact h2 k c hc (fun z => by cases z)
  | cons k0 mc ih =>
    intro hm hJ b h1 h2 k c hc
    have hk0 := hm k0 List.mem_cons_self
    have hc : gS (mixB JB md mc (mix1 JB md k0 b)) k = some c := hc
    have key : ∀ k c, gS (mix1 JB md k0 b) k = some c → (k = k0 ∧ n_C n ρ h' k c) ∨ (k ≠ k0 ∧ gS b k = some c) := by
      intro k c hc
      unfold mix1 at hc
      split at hc
      · rename_i hn
        right
        exact ⟨fun z => (by rw [z, hn] at hc; cases hc), hc⟩
      · rename_i c0 hc0
        have hK0 : hK h' k0 = (c0.1, c0.2.1) := by
          rcases h1 k0 c0 hc0 with z | z
          · rw [hf.1.1]; exact z.1
          · exact z.1
        split at hc
        · rcases gS_sS hc with ⟨rfl, rfl⟩ | ⟨q1, q2⟩
          · left
            exact ⟨rfl, hK0, fun i e he => (by have he : ([] : List HV)[i]? = some e := he; rw [List.getElem?_nil] at he; cases he), fun r hr => (by cases hr)⟩
          · right
            refine ⟨?_, q1⟩
            rcases q2 hk0 with z | z
            · exact z
            · rw [hc0] at z; cases z
        · rename_i cj hcj
          rcases gS_sS hc with ⟨rfl, rfl⟩ | ⟨q1, q2⟩
          · left
            refine ⟨rfl, mixC_s (fun i e hn he => ?_) (hJ k cj hcj)⟩
            rcases h1 k c0 hc0 with z | z
            · rw [hf.2 k i hn]; exact z.2.1 i e he
            · exact z.2.1 i e he
          · right
            refine ⟨?_, q1⟩
            rcases q2 hk0 with z | z
            · exact z
            · rw [hc0] at z; cases z
    refine ih (fun k hk => hm k (List.mem_cons_of_mem _ hk)) hJ (mix1 JB md k0 b) (fun k c hc => ?_) (fun k c hc hn => ?_) k c hc
    · rcases key k c hc with ⟨-, z⟩ | ⟨-, z⟩
      · exact Or.inr z
      · exact h1 k c z
    · rcases key k c hc with ⟨-, z⟩ | ⟨z1, z⟩
      · exact z
      · exact h2 k c z (fun y => by
          rcases List.mem_cons.mp y with y | y
          · exact z1 y
          · exact hn y)
def toH (a : SAV) : HV := match a with
  | .inl v => .inl (.inl v)
  | .inr q => .inr (.inl q)
theorem toH_s {n : Nat} {ρ : Nat → Int} {a : SAV} {v : AV} (h : sa_V a v) : n_W n ρ (toH a) v := by
  match a, h with
  | .inl u, h => exact ⟨trivial, h⟩
  | .inr q, h => exact h
noncomputable def put1 (k i : Nat) (e : HV) (b : SB) : SB := match gS b k with
  | none => b
  | some c => sS b k (setE c i e)
theorem put1_s {n : Nat} {ρ : Nat → Int} {b : SB} {h : AH} {k i : Nat} {e : HV} (hb : n_H n ρ b h) (he : n_W n ρ e (hV h k i)) : n_H n ρ (put1 k i e b) h := by
  unfold put1
  split
  · exact hb
  · rename_i c hc; exact n_H_setE hb hc he
noncomputable def putF (fs : List (Nat × Nat × SAV)) : SB → SB := List.rec (fun b => b) (fun f _ ih b => ih (put1 f.1 f.2.1 (toH f.2.2) b)) fs
theorem putF_s {n : Nat} {ρ : Nat → Int} {h : AH} {fs : List (Nat × Nat × SAV)} : k_F fs h → ∀ (b : SB), n_H n ρ b h → n_H n ρ (putF fs b) h := by
  induction fs with
  | nil => intro _ b hb; exact hb
  | cons f fs ih => intro hf b hb; exact ih (fun g hg => hf g (List.mem_cons_of_mem _ hg)) _ (put1_s hb (toH_s (hf f List.mem_cons_self)))
def shf (w : SV) (x : Int) : Option SV := match w with
  | .inl (.inl y) => some (yI (y + x))
  | .inr (false, i, o) => some (.inr (false, i, o + x))
  | _ => none
theorem shf_s {n : Nat} {ρ : Nat → Int} {w w' : SV} {x y : Int} (h : shf w x = some w') (hw : n_V n ρ w (.inl y)) : n_V n ρ w' (.inl (y + x)) := by
  match w, h, hw with
  | .inl (.inl z), h, hw =>
    have h : some (yI (z + x)) = some w' := h
    cases h
    rw [n_c hw]
    exact n_yI _
  | .inr (false, i, o), h, hw =>
    have h : some (Sum.inr (false, i, o + x)) = some w' := h
    cases h
    obtain ⟨-, hi, e⟩ := n_i hw
    exact ⟨hi, by show (Sum.inl (y + x) : AV) = Sum.inl (ρ i + (o + x)); rw [e, Int.add_assoc]⟩
noncomputable def old1 (b0 : SB) (k i : Nat) (x : Int) : Option SV := match gS b0 k with
  | none => none
  | some c => match nth c.2.2.1 i with
    | some (.inl w) => shf w x
    | _ => none
noncomputable def putD (b0 : SB) (ds : List (Nat × Nat × Int)) : SB → SB := List.rec (fun b => b) (fun q _ ih b => ih (match old1 b0 q.1 q.2.1 q.2.2 with
  | none => b
  | some w => put1 q.1 q.2.1 (.inl w) b)) ds
theorem putD_s {n : Nat} {ρ : Nat → Int} {h h' : AH} {b0 : SB} {ds : List (Nat × Nat × Int)} (h0 : n_H n ρ b0 h) : k_D ds h h' → ∀ (b : SB), n_H n ρ b h' → n_H n ρ (putD b0 ds b) h' := by
  induction ds with
  | nil => intro _ b hb; exact hb
  | cons q ds ih =>
    intro hd b hb
    refine ih (fun g hg => hd g (List.mem_cons_of_mem _ hg)) _ ?_
    split
    · exact hb
    · rename_i w hw
      obtain ⟨x, x1, x2⟩ := hd q List.mem_cons_self
      refine put1_s hb ?_
      unfold old1 at hw
      split at hw
      · cases hw
      · rename_i c hc
        split at hw
        · rename_i w0 hw0
          rw [nth_eq] at hw0
          have := (h0.2.2 _ c hc).2.1 _ _ hw0
          rw [x1] at this
          rw [x2]
          exact shf_s hw this
        · cases hw
noncomputable def newB (JB : SB) (c : KT) (b : SB) : SB := putD b c.2.2.2.2.2.2.1 (putF c.2.2.2.2.2.1 (mixB JB c.2.2.1 c.2.2.2.1 b))
noncomputable def useC (JB : SB) (md : MD) (ns : List Nat) (d : Nat) (c : KT) (n : Nat) (E : EV) (as : List SV) (b : SB) (k : RTS) : Bool := (((Nat.ble c.2.2.2.2.2.2.2 d && fitS n E as c.1) && (okJ JB n E b ns && fitF n E b c.2.2.2.2.1)) && (aLL c.2.2.1 (fun q => okMd md q.1 q.2.1 q.2.2 && memN q.1 c.2.2.2.1) && aLL c.2.2.2.1 (fun k => Nat.ble (k + 1) 1000000))) && (match c.2.1 with
  | none => k n E none (newB JB c b)
  | some (.inl u) => k n E (some (.inl u)) (newB JB c b)
  | some (.inr q) => mkN q.1 n E q.2.1 q.2.2 1 fun n E w => k n E (some w) (newB JB c b))
theorem n_F_t {W : AH → Prop} {md md' : MD} {h0 h h' : AH} (hf : n_F W md h0 h) (hf' : n_F W md' h h') (hm : ∀ k i, inMd md' k i → inMd md k i) : n_F W md h0 h' := ⟨⟨by rw [hf'.1.1, hf.1.1], hf'.1.2⟩, fun k i hn => by rw [hf'.2 k i (fun z => hn (hm k i z)), hf.2 k i hn]⟩
theorem useC_s {JB : SB} {W : AH → Prop} {md : MD} {ns : List Nat} {d M : Nat} {c : KT} {n : Nat} {E : EV} {ρ : Nat → Int} {as : List SV} {b : SB} {k : RTS} {vs : List AV} {h h0 : AH} {k' : Option AV → AH → Prop} (hk : KOK JB W M c) (hm : ∀ k i, inMd md k i → k ∈ ns) (hJ : k_H JB h0) (hh : useC JB md ns d c n E as b k = true) (hE : n_E n E ρ) (hs : n_S n ρ as vs) (hb : n_H n ρ b h) (hf : n_F W md h0 h) (hr : ROK W md h0 n ρ k k') : XC d M vs h k' := by
  unfold useC at hh
  rw [Bool.and_eq_true, Bool.and_eq_true, Bool.and_eq_true, Bool.and_eq_true, Bool.and_eq_true, Bool.and_eq_true, ble_d, decide_eq_true_eq] at hh
  obtain ⟨⟨⟨⟨c1, c2⟩, c3, c4⟩, c5, c6⟩, hh⟩ := hh
  have hmd : ∀ k i, inMd c.2.2.1 k i → inMd md k i ∧ k ∈ c.2.2.2.1 := fun k i ⟨q, q1, q2, q3, q4⟩ => by
    have := aLL_s c5 q q1
    rw [Bool.and_eq_true] at this
    rw [← q2]
    exact ⟨okMd_s this.1 q3 q4, memN_s this.2⟩
  refine hk d vs h k' c1 (fitS_s hE c2 hs) (okJ_s c3 hE hb hf hm hJ) hf.1.2 (fitF_s c4 hE hb) (fun r h' hr1 hr2 hr3 hr4 hr5 => ?_)
  have hf' : n_F W md h0 h' := n_F_t hf hr5 (fun k i z => (hmd k i z).1)
  have hB : n_H n ρ (newB JB c b) h' := by
    refine putD_s hb hr4 _ (putF_s hr3 _ ⟨hr2.1, hr2.2.1, mixB_s hr5 (fun k hk => ?_) hr2.2.2 b (fun k c hc => Or.inl (hb.2.2 k c hc)) (fun k c0 hc hn => ?_)⟩)
    · have := aLL_s c6 k hk
      rw [ble_d, decide_eq_true_eq] at this
      omega
    · have hC := hb.2.2 k c0 hc
      have hv : ∀ i, hV h' k i = hV h k i := fun i => hr5.2 k i (fun z => hn (hmd k i z).2)
      refine ⟨by rw [hr5.1.1]; exact hC.1, fun i e he => by rw [hv i]; exact hC.2.1 i e he, fun r hr => ⟨(hC.2.2 r hr).1, fun i q i1 i2 hq => by rw [hv i]; exact (hC.2.2 r hr).2 i q i1 i2 hq⟩⟩
  split at hh
  · rename_i e
    rw [e] at hr1
    exact hr _ _ _ _ _ _ _ hh n_X_r hE hr1 hB hf'
  · rename_i u e
    rw [e] at hr1
    obtain ⟨v, rfl, hv⟩ := hr1
    have hv : v = u := hv
    exact hr _ _ _ _ _ _ _ hh n_X_r hE ⟨v, rfl, trivial, hv⟩ hB hf'
  · rename_i q e
    rw [e] at hr1
    obtain ⟨v, rfl, x, rfl, x1, x2⟩ := hr1
    obtain ⟨n', ρ', E', w, g1, g2, g3, g4⟩ := mkN_s hh hE x1 x2 (Int.one_dvd x)
    exact hr _ _ _ _ _ _ _ g1 g2 g3 ⟨_, rfl, g4⟩ (n_H_x g2 hB) hf'
/-! a run -/
noncomputable def repS (m : Nat) : List (Option SV) := Nat.rec [] (fun _ ih => none :: ih) m
def lenY : List SV → Nat
  | [] => 0
  | w :: as => (bif isYL w then 2 else 1) + lenY as
noncomputable def entY (as : List SV) (t : List (Option SV)) : List (Option SV) := List.rec t (fun w _ ih => bif isYL w then some w :: none :: ih else some w :: ih) as
theorem repS_s {n : Nat} {ρ : Nat → Int} (m : Nat) : n_L n ρ (repS m) (List.replicate m none) := by
  induction m with
  | zero => exact rfl
  | succ m ih => exact ⟨none, List.replicate m none, rfl, (fun z hz => by cases hz), ih⟩
theorem entA_y {n : Nat} {ρ : Nat → Int} {w : SV} {v : AV} (h : n_V n ρ w v) : entA v = bif isYL w then [some v, none] else [some v] := by
  obtain ⟨-, rfl⟩ := h
  match w with
  | .inl (.inl x) => rfl
  | .inl (.inr (.inl x)) => rfl
  | .inl (.inr (.inr x)) => rfl
  | .inr (true, i, o) => rfl
  | .inr (false, i, o) => rfl
theorem entY_s {n : Nat} {ρ : Nat → Int} {as : List SV} {t : List (Option SV)} {u : List (Option AV)} (ht : n_L n ρ t u) : ∀ {vs : List AV}, n_S n ρ as vs → n_L n ρ (entY as t) (vs.flatMap entA ++ u) ∧ lenY as = (vs.flatMap entA).length := by
  induction as with
  | nil => intro vs h; have h : vs = [] := h; rw [h]; exact ⟨ht, rfl⟩
  | cons w as ih =>
    intro vs h
    obtain ⟨v, vs, rfl, hv, hs⟩ := h
    obtain ⟨h1, h2⟩ := ih hs
    rw [List.flatMap_cons, entA_y hv]
    show n_L n ρ (bif isYL w then some w :: none :: entY as t else some w :: entY as t) _ ∧ (bif isYL w then 2 else 1) + lenY as = _
    cases isYL w with
    | true =>
      rw [cnd_t, cnd_t, cnd_t]
      refine ⟨⟨some v, _, rfl, ⟨v, rfl, hv⟩, none, _, rfl, (fun z hz => by cases hz), h1⟩, ?_⟩
      rw [List.length_append, h2]; rfl
    | false =>
      rw [cnd_f, cnd_f, cnd_f]
      refine ⟨⟨some v, _, rfl, ⟨v, rfl, hv⟩, h1⟩, ?_⟩
      rw [List.length_append, h2]; rfl
abbrev CTB : Type := List (Nat × List KT)
noncomputable def lkC (CT : CTB) (M : Nat) : List KT := List.rec [] (fun q _ ih => bif Nat.beq q.1 M then q.2 else ih) CT
def csOK (JB : SB) (W : AH → Prop) (M : Nat) : List KT → Prop
  | [] => True
  | c :: cs => KOK JB W M c ∧ csOK JB W M cs
def ctOK (JB : SB) (W : AH → Prop) : CTB → Prop
  | [] => True
  | q :: t => csOK JB W q.1 q.2 ∧ ctOK JB W t
theorem csOK_s {JB : SB} {W : AH → Prop} {M : Nat} {cs : List KT} (h : csOK JB W M cs) : ∀ c, c ∈ cs → KOK JB W M c := by
  induction cs with
  | nil => intro c hc; cases hc
  | cons a cs ih =>
    intro c hc
    rcases List.mem_cons.mp hc with rfl | hc
    · exact h.1
    · exact ih h.2 c hc
theorem lkC_s {JB : SB} {W : AH → Prop} {M : Nat} {CT : CTB} (h : ctOK JB W CT) : ∀ c, c ∈ lkC CT M → KOK JB W M c := by
  induction CT with
  | nil => intro c hc; cases hc
  | cons q t ih =>
    intro c hc
    have hc : c ∈ (bif Nat.beq q.1 M then q.2 else lkC t M) := hc
    cases hb : Nat.beq q.1 M with
    | true => rw [hb, cnd_t] at hc; rw [← Nat.eq_of_beq_eq_true hb]; exact csOK_s h.1 c hc
    | false => rw [hb, cnd_f] at hc; exact ih h.2 c hc
abbrev CKT : Type := Nat → Nat → EV → List (Option SV) → List SV → SB → Bool
noncomputable def anyC (l : List KT) (p : KT → Bool) : Bool := List.rec false (fun a _ ih => p a || ih) l
theorem anyC_s {l : List KT} {p : KT → Bool} (h : anyC l p = true) : ∃ a, a ∈ l ∧ p a = true := by
  induction l with
  | nil => cases h
  | cons b l ih =>
    have h : (p b || anyC l p) = true := h
    rw [Bool.or_eq_true] at h
    rcases h with h | h
    · exact ⟨b, List.mem_cons_self, h⟩
    · obtain ⟨a, a1, a2⟩ := ih h; exact ⟨a, List.mem_cons_of_mem _ a1, a2⟩
noncomputable def calS (JB : SB) (CT : CTB) (md : MD) (ns : List Nat) (e : Nat → Nat → Nat → EV → List (Option SV) → SB → RTS → Bool) (d M n : Nat) (E : EV) (as : List SV) (b : SB) (k : RTS) : Bool := match lkC CT M with
  | c :: cs => anyC (c :: cs) fun c => useC JB md ns d c n E as b k
  | [] => match d with
    | 0 => false
    | d' + 1 => Nat.ble (lenY as) (mL M) && e d' M n E (entY as (repS (mL M - lenY as))) b k
abbrev FS : Type := HS × Nat × Nat × Nat × Int × List (Int × Nat)
noncomputable def ftS2 (o : Option HS) (nx a bb : Nat) (k : Int) (sw : List (Int × Nat)) : Option FS := match o with
  | some h => some (h, nx, a, bb, k, sw)
  | none => none
noncomputable def ftS1 (o : Option CE) : Option FS := match o with
  | some (op, nx, a, bb, k, sw) => ftS2 (hsG op) nx a bb k sw
  | none => none
noncomputable def ftS (M pc : Nat) : Option FS := ftS1 (cd M pc)
def oSt2 (o : Option FS) (k : HS → Nat → Nat → Nat → Int → List (Int × Nat) → Bool) : Bool := match o with
  | some (h, nx, a, bb, kk, sw) => k h nx a bb kk sw
  | none => false
def noCK : CKT := fun _ _ _ _ _ _ => false
noncomputable def smk (JB : SB) (CT : CTB) (md : MD) (ns : List Nat) (fu : Nat) : List Nat → CKT → Nat → Nat → Nat → Nat → EV → List (Option SV) → List SV → SB → RTS → Bool := Nat.rec (fun _ _ _ _ _ _ _ _ _ _ _ => false) (fun _ ih cuts CK d M pc n E ls st b K =>
  oSt2 (ftS M pc) fun hd nx a bb kk sw => hd md (fun pc n E ls st b => bif memN pc cuts then CK pc n E ls st b else ih cuts CK d M pc n E ls st b K) K (fun M' n E as b k => calS JB CT md ns (fun d M n E ls b k => ih [] noCK d M 0 n E ls [] b k) d M' n E as b k) nx a bb kk sw n E ls st b) fu
theorem smk_s {JB : SB} {W : AH → Prop} (hW : FrW W) {CT : CTB} {md : MD} {ns : List Nat} (hm : ∀ k i, inMd md k i → k ∈ ns) (hCT : ctOK JB W CT) : ∀ (fu : Nat) (cuts : List Nat) (CK : CKT) (d M pc n : Nat) (E : EV) (als : List (Option SV)) (ast : List SV) (b : SB) (K : RTS), smk JB CT md ns fu cuts CK d M pc n E als ast b K = true → ∀ (ρ : Nat → Int) (ls : List (Option AV)) (st : List AV) (h h0 : AH) (Q : Option AV → AH → Prop), n_E n E ρ → n_L n ρ als ls → n_S n ρ ast st → n_H n ρ b h → n_F W md h0 h → k_H JB h0 →
    (∀ pc, pc ∈ cuts → ∀ n' ρ' E' als ast b ls st h, CK pc n' E' als ast b = true → n_X n ρ n' ρ' → n_E n' E' ρ' → n_L n' ρ' als ls → n_S n' ρ' ast st → n_H n' ρ' b h → n_F W md h0 h → XP d M pc ls st h Q) → ROK W md h0 n ρ K Q → XP d M pc ls st h Q := by
  intro fu
  induction fu with
  | zero => intro cuts CK d M pc n E als ast b K hh; cases hh
  | succ fu ih =>
    intro cuts CK d M pc n E als ast b K hh ρ ls st h h0 Q hE hl hs hb hf hJ hCK hK
    have hh : (oSt2 (ftS M pc) fun hd nx a bb kk sw => hd md (fun pc n E ls st b => bif memN pc cuts then CK pc n E ls st b else smk JB CT md ns fu cuts CK d M pc n E ls st b K) K (fun M' n E as b k => calS JB CT md ns (fun d M n E ls b k => smk JB CT md ns fu [] noCK d M 0 n E ls [] b k) d M' n E as b k) nx a bb kk sw n E als ast b) = true := hh
    cases hce : cd M pc with
    | none => unfold ftS at hh; rw [hce] at hh; cases hh
    | some ce =>
      obtain ⟨op, nx, a, bb, kk, sw⟩ := ce
      unfold ftS at hh
      rw [hce] at hh
      cases hop : hsG op with
      | none =>
        have hh : oSt2 (ftS2 (hsG op) nx a bb kk sw) _ = true := hh
        rw [hop] at hh; cases hh
      | some f =>
        have hh : oSt2 (ftS2 (hsG op) nx a bb kk sw) _ = true := hh
        rw [hop] at hh
        refine XP_step hce (hs_ok op f hop W hW md h0 n ρ _ K _ _ Q _ dfO nF nx a bb kk sw E als ast b ls st h hh hE hl hs hb hf ?_ hK ?_)
        · intro pc n' ρ' E' als ast b ls st h e hx hE hl hs hb hf
          cases hm : memN pc cuts with
          | true =>
            have e : (bif memN pc cuts then CK pc n' E' als ast b else smk JB CT md ns fu cuts CK d M pc n' E' als ast b K) = true := e
            rw [hm, cnd_t] at e
            exact hCK pc (memN_s hm) n' ρ' E' als ast b ls st h e hx hE hl hs hb hf
          | false =>
            have e : (bif memN pc cuts then CK pc n' E' als ast b else smk JB CT md ns fu cuts CK d M pc n' E' als ast b K) = true := e
            rw [hm, cnd_f] at e
            exact ih cuts CK d M pc n' E' als ast b K e ρ' ls st h h0 Q hE hl hs hb hf hJ (fun pc hpc n2 ρ2 E2 als ast b ls st h e2 hx2 => hCK pc hpc n2 ρ2 E2 als ast b ls st h e2 (n_X_t hx hx2)) (fun n2 ρ2 E2 r b v h e2 hx2 => hK n2 ρ2 E2 r b v h e2 (n_X_t hx hx2))
        · intro M' n' ρ' E' as b k vs h k' e hx hE hs hb hf hk
          have e : calS JB CT md ns (fun d M n E ls b k => smk JB CT md ns fu [] noCK d M 0 n E ls [] b k) d M' n' E' as b k = true := e
          unfold calS at e
          split at e
          · rename_i c cs hcs
            obtain ⟨c', c1, c2⟩ := anyC_s e
            exact useC_s (lkC_s hCT c' (by rw [hcs]; exact c1)) hm hJ c2 hE hs hb hf hk
          · split at e
            · cases e
            · rw [Bool.and_eq_true, ble_d, decide_eq_true_eq] at e
              obtain ⟨g1, g2⟩ := entY_s (repS_s (n := n') (ρ := ρ') (mL M' - lenY as)) hs
              refine XC_of (by unfold entN; rw [← g2]; exact e.1) ?_
              refine ih [] noCK _ M' 0 n' E' _ [] b k e.2 ρ' _ [] h h0 k' hE ?_ rfl hb hf hJ (fun pc hpc => by cases hpc) hk
              unfold entL
              rw [← g2]
              exact g1
