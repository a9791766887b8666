set_option maxRecDepth 20000 in
theorem ac_253 : allC[253]? = some cl253 := rfl
theorem cd_253_0 : cd 253 0 = some (4, 1, 0, 0, 0, []) := cd_row ac_253 rfl
theorem cd_253_1 : cd 253 1 = some (46, 4, 244, 1, 10, []) := cd_row ac_253 rfl
theorem cd_253_4 : cd 253 4 = some (4, 5, 0, 0, 0, []) := cd_row ac_253 rfl
theorem cd_253_5 : cd 253 5 = some (2, 6, 1, 0, 0, []) := cd_row ac_253 rfl
theorem cd_253_6 : cd 253 6 = some (46, 9, 245, 2, 10, []) := cd_row ac_253 rfl
theorem cd_253_9 : cd 253 9 = some (40, 10, 0, 0, 0, []) := cd_row ac_253 rfl
/-! a tenth as a function -/
def z0N : Nat → Int := fun _ => 0
theorem z0N_r : ∀ i, rngV (z0N i) := fun _ => (⟨by decide, by decide⟩ : rngV 0)
def vlA (e : ENV) (c : oCd) : Int := ((mRn e c ([], [])).1).headD 0
def lwA (cs : List cCl) (w : Int) : Option cCl := cs.find? (fun cl => decide (cl.1 = w))
def LWv (cs : List cCl) (w : Int) (e : ENV) (no lo hi : Int) : Int := (lwA cs w).elim no (fun cl => bdF (vlA e cl.2.1) lo hi)
def HDv (cs : List cCl) (e : ENV) (no : Int) : Int := (lwA cs 2).elim (sgF no) (fun cl => sgF (vlA e cl.2.1))
theorem lwA_n {cs : List cCl} {w : Int} (h : hasL cs w = false) : lwA cs w = none := List.find?_eq_none.mpr (fun cl hc hd => hasL_f h cl hc (of_decide_eq_true hd))
theorem lwA_s {cs : List cCl} {w : Int} (hk : CSk cs) {cl : cCl} (hm : cl ∈ cs) (he : cl.1 = w) (h5 : w < 5) : lwA cs w = some cl := by
  unfold lwA
  cases hf : cs.find? (fun cl => decide (cl.1 = w)) with
  | none => exact absurd (decide_eq_true he) (List.find?_eq_none.mp hf cl hm)
  | some c2 =>
    have p2 : c2.1 = w := of_decide_eq_true (List.find?_some (p := fun cl : cCl => decide (cl.1 = w)) hf)
    have m2 := List.mem_of_find?_eq_some hf
    rw [CSk_u hk m2 hm (by rw [p2]; exact h5) (by rw [p2, he])]
theorem mGo_2 {e : ENV} : ∀ (c : oCd) (w : List Int × List Bool), mGo e c w → ∀ q, q ∈ c → q.1 = 2 → 10 ≤ q.2 ∧ q.2 ≤ 94 ∧ q.2 % 10 ≤ 4
  | [], _, _, q, hq, _ => by cases hq
  | p :: c, w, h, q, hq, h2 => by
    rcases List.mem_cons.mp hq with rfl | hq
    · obtain ⟨⟨_, hs⟩, _⟩ := h
      unfold stM at hs
      rcases hs with ⟨z, _⟩ | ⟨z, _⟩ | ⟨_, a, b, c⟩ | ⟨z, _⟩ | ⟨z, _⟩ | ⟨z, _⟩ | ⟨z, _⟩ | ⟨z, _⟩ | ⟨z, _⟩
      · omega
      · omega
      · exact ⟨a, b, c⟩
      · omega
      · omega
      · omega
      · omega
      · omega
      · omega
    · exact mGo_2 c _ h.2 q hq h2
theorem okC_2 {c : oCd} (hk : okC c) {q : Int × Int} (hq : q ∈ c) (h2 : q.1 = 2) : 10 ≤ q.2 ∧ q.2 ≤ 94 ∧ q.2 % 10 ≤ 4 :=
  mGo_2 c _ (hk (eV z0N z0N 1 0 0) (eV_k z0N_r) [] [] (fun x hx => by cases hx)) q hq h2
/-- YARD's name doesn't count, nor rows further back -/
def eqE (e e' : ENV) : Prop := (∀ m, m < 7 → e.1 m = e'.1 m) ∧ ∀ k i, 1 ≤ k → k ≤ 9 → i ≤ 4 → e.2 k i = e'.2 k i
theorem eqE_N {e e' : ENV} (h : eqE e e') {cl : cCl} {l : Int} (hl : cl.1 = l) (h2 : l ≤ 2) (hn : CLn cl) (hok : okC cl.2.1) : eqN e e' cl.2.1 := by
  intro q hq
  have n := hn (by omega) q hq
  rw [hl] at n
  refine ⟨fun h1 => h.1 _ ?_, fun h1 => ?_⟩
  · have b := n.1 h1
    unfold isNm at b
    by_cases z : q.2 < 7
    · omega
    · rw [if_neg (by omega), if_neg z] at b
      have := of_decide_eq_true b
      omega
  · obtain ⟨a1, a2, a3⟩ := okC_2 hok hq h1
    exact h.2 _ _ (by omega) (by omega) (by omega)
theorem vlA_S {c : oCd} {f : ENV → Int} (hm : SemM c f) {e : ENV} (he : envK e) : vlA e c = f e := by
  unfold vlA
  rw [hm e he [] []]
  rfl
def CSn (cs : List cCl) : Prop := ∀ cl, cl ∈ cs → CLn cl
def CSs (cs : List cCl) : Prop := ∀ w : Nat, w < 5 → ∀ cl, cl ∈ cs → cl.1 = (w : Int) → ∃ F : ENV → Int, SemM cl.2.1 F ∧ okC cl.2.1 ∧ ∀ e, envK e → rngV (F e)
/-- what is known of a text's clauses -/
def CST (cs : List cCl) : Prop := CSk cs ∧ CSn cs ∧ CSs cs
theorem LVC_v {cs : List cCl} {w : Nat} {e e' : ENV} {no lo hi v : Int} (hc : CST cs) (hw : w ≤ 2) (he : envK e) (he' : envK e') (hq : eqE e e') (hv : LVC cs w e no lo hi v) : v = LWv cs (w : Int) e' no lo hi := by
  unfold LWv
  rcases hv with ⟨h1, rfl⟩ | ⟨cl, F, hm, h1, sm, ok, rf, rfl⟩
  · rw [lwA_n h1]
    rfl
  · rw [lwA_s hc.1 hm h1 (by omega)]
    show bdF (F e) lo hi = bdF (vlA e' cl.2.1) lo hi
    rw [vlA_S sm he', SemM_c sm he he' (eqE_N hq h1 (by omega) (hc.2.1 cl hm) ok)]
theorem hasL_t {cs : List cCl} {K : Int} (h : lwA cs K = none) : hasL cs K = false := by
  cases hb : hasL cs K with
  | false => rfl
  | true =>
    unfold hasL at hb
    obtain ⟨cl, hm, hd⟩ := List.any_eq_true.mp hb
    exact absurd hd (List.find?_eq_none.mp h cl hm)
theorem LVC_i {cs : List cCl} {w : Nat} {e : ENV} {no lo hi : Int} (hc : CST cs) (hw : w < 5) (he : envK e) : LVC cs w e no lo hi (LWv cs (w : Int) e no lo hi) := by
  unfold LWv
  cases hf : lwA cs (w : Int) with
  | none => exact Or.inl ⟨hasL_t hf, rfl⟩
  | some cl =>
    have p2 : cl.1 = (w : Int) := of_decide_eq_true (List.find?_some (p := fun cl : cCl => decide (cl.1 = (w : Int))) hf)
    have m2 : cl ∈ cs := List.mem_of_find?_eq_some hf
    obtain ⟨F, s1, s2, s3⟩ := hc.2.2 w hw cl m2 p2
    refine Or.inr ⟨cl, F, m2, p2, s1, s2, s3, ?_⟩
    show bdF (vlA e cl.2.1) lo hi = bdF (F e) lo hi
    rw [vlA_S s1 he]
theorem LVS_i {cs : List cCl} {e : ENV} {no : Int} (hc : CST cs) (he : envK e) : LVS cs e no (HDv cs e no) := by
  unfold HDv
  cases hf : lwA cs 2 with
  | none => exact Or.inl ⟨hasL_t hf, rfl⟩
  | some cl =>
    have p2 : cl.1 = ((2 : Nat) : Int) := of_decide_eq_true (List.find?_some (p := fun cl : cCl => decide (cl.1 = 2)) hf)
    have m2 : cl ∈ cs := List.mem_of_find?_eq_some hf
    obtain ⟨F, s1, s2, s3⟩ := hc.2.2 2 (by decide) cl m2 p2
    refine Or.inr ⟨cl, F, m2, p2, s1, s2, s3, ?_⟩
    show sgF (vlA e cl.2.1) = sgF (F e - 0)
    rw [vlA_S s1 he, Int.sub_zero]
theorem LWC_s {h : AH} {T : Nat} {cs : List cCl} (hk : CSk cs) (hl : LWC h T cs) : CSs cs := by
  obtain ⟨D, bg, en, kd, ag, L, dd, ht, hx, hr, hL⟩ := hl
  intro w hw cl hm he
  rcases hr.1 w hw with ⟨_, h2⟩ | ⟨a, b, cl', h1, h2, h3, h4, h5, f, g1, g2, g3⟩
  · exact absurd he (hasL_f h2 cl hm)
  · have e1 : cl' = cl := CSk_u hk h4 hm (by omega) (by rw [h5, he])
    subst e1
    exact ⟨f, g2, g3, fun e hen => (g1.2 e hen).1⟩
theorem sgF_r (v : Int) : -1 ≤ sgF v ∧ sgF v ≤ 1 := by unfold sgF; (repeat' split) <;> omega
theorem HDv_r (cs : List cCl) (e : ENV) (no : Int) : -1 ≤ HDv cs e no ∧ HDv cs e no ≤ 1 := by
  unfold HDv
  cases lwA cs 2 with
  | none => exact sgF_r _
  | some cl => exact sgF_r _
theorem LWv_r {cs : List cCl} {w : Int} {e : ENV} {no lo hi : Int} (h1 : lo ≤ no) (h2 : no ≤ hi) : lo ≤ LWv cs w e no lo hi ∧ LWv cs w e no lo hi ≤ hi := by
  unfold LWv
  cases lwA cs w with
  | none => exact ⟨h1, h2⟩
  | some cl => exact bdF_r (by omega)
/-- what the laws are asked with -/
def enT (f rw_ : Nat → Int) (sz t : Nat) : ENV := eV (lkN f z0N) rw_ sz t (elF (t : Int)).toNat
theorem enT_k {f rw_ : Nat → Int} {sz t : Nat} (hf : HKr f) : envK (enT f rw_ sz t) := eV_k (lkN_r hf (fun i _ => z0N_r i))
theorem enT_q {f nm rw_ : Nat → Int} {sz t : Nat} : eqE (eV (lkN f nm) rw_ sz t (elF (t : Int)).toNat) (enT f rw_ sz t) := ⟨fun m hm => lkN_6 hm, fun k i _ _ _ => rfl⟩
def f1T (f : Nat → Int) (c q : Int) : Nat → Int := rlF (upF f 2 (bdF (f 2 + c) (-q) q))
def rwT (f rw_ : Nat → Int) (sz t : Nat) (c : Int) : Nat → Int := upF rw_ (t % sz) (pkZ f c)
def qT (cs : List cCl) (f rw_ : Nat → Int) (sz t : Nat) (c : Int) : Int := LWv cs 0 (enT f (rwT f rw_ sz t c) sz t) 3 0 9
def noT (g : Nat → Int) : Int := bdF (Int.tdiv (g 1 - g 3) (g 5)) (-99) 99
def sT (cs : List cCl) (f rw_ : Nat → Int) (sz t : Nat) (c : Int) : Int := LWv cs 1 (enT (f1T f c (qT cs f rw_ sz t c)) (rwT f rw_ sz t c) sz t) (noT (f1T f c (qT cs f rw_ sz t c))) (-99) 99
def TNf (cs : List cCl) (f rw_ : Nat → Int) (sz t : Nat) (c : Int) : Nat → Int := tnF f (qT cs f rw_ sz t c) (sT cs f rw_ sz t c) c
def cmT (cs : List cCl) (f rw_ : Nat → Int) (sz t : Nat) : Int := HDv cs (enT f rw_ sz t) (f 8 - f 1)
theorem qT_r {cs : List cCl} {f rw_ : Nat → Int} {sz t : Nat} {c : Int} : 0 ≤ qT cs f rw_ sz t c ∧ qT cs f rw_ sz t c ≤ 9 := LWv_r (by decide) (by decide)
theorem sT_r {cs : List cCl} {f rw_ : Nat → Int} {sz t : Nat} {c : Int} : -99 ≤ sT cs f rw_ sz t c ∧ sT cs f rw_ sz t c ≤ 99 := LWv_r (bdF_r (by decide)).1 (bdF_r (by decide)).2
theorem cmT_r {cs : List cCl} {f rw_ : Nat → Int} {sz t : Nat} : -1 ≤ cmT cs f rw_ sz t ∧ cmT cs f rw_ sz t ≤ 1 := HDv_r _ _ _
/-- a tenth's numbers -/
theorem blF_v (f : Nat → Int) : ((f 14 = 0 ∧ (f 9 + 1) % 40 = 0 ∧ blF f 10 = rnX (f 10) ∧ blF f 7 = f 10 % 10) ∨ (f 14 = 0 ∧ ¬ (f 9 + 1) % 40 = 0 ∧ blF f 10 = f 10 ∧ blF f 7 = max 0 (f 7 - 1)) ∨ (¬ f 14 = 0 ∧ blF f 10 = f 10 ∧ blF f 7 = f 7)) ∧ ∀ i, i ≠ 7 → i ≠ 10 → blF f i = f i := by
  unfold blF
  by_cases z : f 14 = 0
  · rw [if_pos z]
    by_cases y : (f 9 + 1) % 40 = 0
    · rw [if_pos y]
      exact ⟨Or.inl ⟨z, y, (upF_ne (by decide)).trans upF_at, upF_at⟩, fun i h1 h2 => (upF_ne h1).trans (upF_ne h2)⟩
    · rw [if_neg y]
      exact ⟨Or.inr (Or.inl ⟨z, y, upF_ne (by decide), upF_at⟩), fun i h1 h2 => upF_ne h1⟩
  · rw [if_neg z]
    exact ⟨Or.inr (Or.inr ⟨z, rfl, rfl⟩), fun i _ _ => rfl⟩
theorem rnX_r {x : Int} (h0 : 0 ≤ x) : 0 ≤ rnX x ∧ rnX x ≤ 30252 := by unfold rnX; omega
theorem tnF_v {f : Nat → Int} (hf : HKs f) {q s c : Int} (q0 : 0 ≤ q ∧ q ≤ 9) : HKr (tnF f q s c) ∧ (0 ≤ tnF f q s c 10 ∧ tnF f q s c 10 ≤ 30252) ∧ tnF f q s c 9 = f 9 + 1 ∧ (tnF f q s c 5 = f 5 ∧ tnF f q s c 6 = f 6 ∧ tnF f q s c 8 = f 8) ∧ ∀ i, 11 ≤ i → tnF f q s c i = f i := by
  obtain ⟨h1, h2, h3⟩ := hf
  have g1 := HKr_1 (c := c) h1 q0.1 q0.2
  obtain ⟨g, hg⟩ : ∃ g, rlF (upF f 2 (bdF (f 2 + c) (-q) q)) = g := ⟨_, rfl⟩
  have go : ∀ i, i ≠ 1 → i ≠ 2 → g i = f i := fun i a b => by rw [← hg]; exact ((rlF_v _).2.2 i a b).trans (upF_ne b)
  unfold tnF
  rw [hg] at g1 ⊢
  obtain ⟨sp, hsp⟩ : ∃ sp, bdF (g 4 + s) (-99) 99 = sp := ⟨_, rfl⟩
  have bs := bdF_r (v := g 4 + s) (show (-99 : Int) ≤ 99 by decide)
  rw [hsp] at bs ⊢
  obtain ⟨lp, hlp⟩ : ∃ lp, bdF (g 3 + sp) (-9999) 9999 = lp := ⟨_, rfl⟩
  have bl := bdF_r (v := g 3 + sp) (show (-9999 : Int) ≤ 9999 by decide)
  rw [hlp] at bl ⊢
  obtain ⟨k, hk⟩ : ∃ k, upF (upF g 4 sp) 3 lp = k := ⟨_, rfl⟩
  have k3 : k 3 = lp := by rw [← hk]; exact upF_at
  have k4 : k 4 = sp := by rw [← hk]; exact (upF_ne (by decide)).trans upF_at
  have ko : ∀ i, i ≠ 3 → i ≠ 4 → k i = g i := fun i a b => by rw [← hk]; exact (upF_ne a).trans (upF_ne b)
  rw [hk]
  obtain ⟨b1, b2⟩ := blF_v k
  obtain ⟨l, hl⟩ : ∃ l, blF k = l := ⟨_, rfl⟩
  rw [hl] at b1 b2 ⊢
  have u9 : upF l 9 (f 9 + 1) 9 = f 9 + 1 := upF_at
  have uo : ∀ i, i ≠ 9 → upF l 9 (f 9 + 1) i = l i := fun i a => upF_ne a
  obtain ⟨a1, a2, a3, a4, a5, a6, a7, a8, a9⟩ := g1
  have k7 : k 7 = f 7 := (ko 7 (by decide) (by decide)).trans (go 7 (by decide) (by decide))
  have k10 : k 10 = f 10 := (ko 10 (by decide) (by decide)).trans (go 10 (by decide) (by decide))
  have l7 : 0 ≤ l 7 ∧ l 7 ≤ 9 := by
    have y := h1.2.2.2.2.2.2.1
    rcases b1 with ⟨_, _, _, e⟩ | ⟨_, _, _, e⟩ | ⟨_, _, e⟩
    · rw [e, k10]; omega
    · rw [e, k7]; omega
    · rw [e, k7]; exact y
  have l10 : 0 ≤ l 10 ∧ l 10 ≤ 30252 := by
    rcases b1 with ⟨_, _, e, _⟩ | ⟨_, _, e, _⟩ | ⟨_, e, _⟩
    · rw [e, k10]; exact rnX_r h2.1
    · rw [e, k10]; exact h2
    · rw [e, k10]; exact h2
  have g5 : g 5 = f 5 := go 5 (by decide) (by decide)
  have g6 : g 6 = f 6 := go 6 (by decide) (by decide)
  have g8 : g 8 = f 8 := go 8 (by decide) (by decide)
  have f9 := h1.2.2.2.2.2.2.2.2
  have l1 : l 1 = g 1 := (b2 1 (by decide) (by decide)).trans (ko 1 (by decide) (by decide))
  have l2 : l 2 = g 2 := (b2 2 (by decide) (by decide)).trans (ko 2 (by decide) (by decide))
  have l3 : l 3 = lp := (b2 3 (by decide) (by decide)).trans k3
  have l4 : l 4 = sp := (b2 4 (by decide) (by decide)).trans k4
  have l5 : l 5 = g 5 := (b2 5 (by decide) (by decide)).trans (ko 5 (by decide) (by decide))
  have l6 : l 6 = g 6 := (b2 6 (by decide) (by decide)).trans (ko 6 (by decide) (by decide))
  have l8 : l 8 = g 8 := (b2 8 (by decide) (by decide)).trans (ko 8 (by decide) (by decide))
  refine ⟨⟨?_, ?_, ?_, ?_, ?_, ?_, ?_, ?_, ?_⟩, ?_, u9, ⟨?_, ?_, ?_⟩, fun i hi => ?_⟩
  · rw [uo 1 (by decide), l1]; exact a1
  · rw [uo 2 (by decide), l2]; exact a2
  · rw [uo 3 (by decide), l3]; exact bl
  · rw [uo 4 (by decide), l4]; exact bs
  · rw [uo 5 (by decide), l5]; exact a5
  · rw [uo 6 (by decide), l6]; exact a6
  · rw [uo 7 (by decide)]; exact l7
  · rw [uo 8 (by decide), l8]; exact a8
  · rw [u9]; omega
  · rw [uo 10 (by decide)]; exact l10
  · rw [uo 5 (by decide), l5, g5]
  · rw [uo 6 (by decide), l6, g6]
  · rw [uo 8 (by decide), l8, g8]
  · rw [uo i (by omega), b2 i (by omega) (by omega), ko i (by omega) (by omega), go i (by omega) (by omega)]
theorem TN_v {cs : List cCl} {f rw_ : Nat → Int} {sz t : Nat} {c : Int} (hf : HKs f) : HKr (TNf cs f rw_ sz t c) ∧ (0 ≤ TNf cs f rw_ sz t c 10 ∧ TNf cs f rw_ sz t c 10 ≤ 30252) ∧ TNf cs f rw_ sz t c 9 = f 9 + 1 ∧ (TNf cs f rw_ sz t c 5 = f 5 ∧ TNf cs f rw_ sz t c 6 = f 6 ∧ TNf cs f rw_ sz t c 8 = f 8) ∧ ∀ i, 11 ≤ i → TNf cs f rw_ sz t c i = f i := tnF_v hf qT_r
theorem E_tb {d : Nat} {h : AH} {T : Nat} {cs : List cCl} {r c R sz tn0 : Nat} {f rw_ : Nat → Int} (hp : HPL r c R) (hk : LKC h) (hl : LWC h T cs) (v0 : hV h 58 0 = vR T) (k0 : hK h r = (0, 0)) (vc : hV h r 0 = vR c) (kc_ : hK h c = (1, 0) ∧ hK h R = (12, sz)) (vk : hV h c 0 = vR R ∧ hV h c 1 = vI (sz : Int)) (hz : 0 < sz) (hf : HKs f) (h9 : f 9 = (tn0 : Int)) {nm : Nat → Int} {kc : Nat} {tn el : Int} (hnm : ∀ i, 7 ≤ i → rngV (nm i)) {sf : Nat → Int} (hc : CST cs) {cm : Int} (c0 : -1 ≤ cm) (c1 : cm ≤ 1) : ∃ (nm' : Nat → Int) (kc' : Nat) (tn' el' : Int) (sf' : Nat → Int), (∀ i, 7 ≤ i → rngV (nm' i)) ∧ ∀ Q : Option AV → AH → Prop, XC (d + 7) 12 [vR r, vI cm, vR 58] (hQ (hGk h r R f rw_ sz) nm kc tn el sf) Q = Q none (hQ (hGk h r R (TNf cs f rw_ sz tn0 cm) (rwT f rw_ sz tn0 cm) sz) nm' kc' tn' el' sf') := by
  obtain ⟨q, s, nm1, nm', kc', tn', el', sf', n1, n2, L1, L2, ⟨b1, b2⟩, e⟩ := E_tby (d := d) hp hk hl v0 k0 vc kc_ vk hz hf h9 (nm := nm) (kc := kc) (tn := tn) (el := el) hnm (sf := sf) c0 c1
  rw [h9] at L1 L2
  have hf1 := HKr_1 (c := cm) hf.1 b1.1 b1.2
  have z1 : q = qT cs f rw_ sz tn0 cm := LVC_v hc (by decide) (eV_k (lkN_r hf.1 hnm)) (enT_k hf.1) enT_q L1
  have z2 : s = LWv cs 1 (enT (f1T f cm q) (rwT f rw_ sz tn0 cm) sz tn0) (noT (f1T f cm q)) (-99) 99 := LVC_v hc (by decide) (eV_k (lkN_r hf1 n1)) (enT_k hf1) enT_q L2
  rw [z1] at z2
  have z3 : s = sT cs f rw_ sz tn0 cm := z2
  rw [z1, z3] at e
  exact ⟨nm', kc', tn', el', sf', n2, e⟩
theorem E_cm {d : Nat} {h : AH} {T : Nat} {cs : List cCl} {r c R sz tn0 : Nat} {f rw_ : Nat → Int} (hp : HPL r c R) (hk : LKC h) (hl : LWC h T cs) (v0 : hV h 58 1 = vR T) (k0 : hK h r = (0, 0)) (vc : hV h r 0 = vR c) (kc_ : hK h c = (1, 0) ∧ hK h R = (12, sz)) (vk : hV h c 0 = vR R ∧ hV h c 1 = vI (sz : Int)) (hz : 0 < sz) (hf : HKs f) (h9 : f 9 = (tn0 : Int)) {nm : Nat → Int} {kc : Nat} {tn el : Int} (hnm : ∀ i, 7 ≤ i → rngV (nm i)) {sf : Nat → Int} (hc : CST cs) : ∃ (nm' : Nat → Int) (kc' : Nat) (tn' el' : Int) (sf' : Nat → Int), (∀ i, 7 ≤ i → rngV (nm' i)) ∧ ∀ Q : Option AV → AH → Prop, XC (d + 6) 35 [vR 58, vR r] (hQ (hGk h r R f rw_ sz) nm kc tn el sf) Q = Q (some (vI (cmT cs f rw_ sz tn0))) (hQ (hGk h r R f rw_ sz) nm' kc' tn' el' sf') := by
  have hp2 := hp
  obtain ⟨p1, p2, p3, p4, p5, p6, p7, p8, p9⟩ := hp2
  rcases E_cmd (d := d) (LKC_G p4 p6 hk) (LWC_G hl p1 p3) (KRC_G (f := f) (rw_ := rw_) hp hz kc_ vk) (HKC_G (f := f) (rw_ := rw_) (sz := sz) p7 k0 vc) p4 hf.1 h9 (nm := nm) (kc := kc) (tn := tn) (el := el) hnm ((hGk_n (Or.inl (by omega)) (by omega)).trans v0) (sf := sf) with ⟨h1, h2⟩ | ⟨cl, F, h1, h2, h3, h4, h5, sf', h6⟩
  · refine ⟨nm, kc, tn, el, sf, hnm, fun Q => ?_⟩
    rw [h2 Q]
    unfold cmT HDv
    rw [lwA_n h1]
    rfl
  · refine ⟨lkN f nm, c, f 9, elF (f 9), sf', (fun i _ => lkN_r hf.1 hnm i), fun Q => ?_⟩
    rw [h6 Q]
    unfold cmT HDv
    rw [lwA_s hc.1 h1 h2 (by decide)]
    show Q (some (vI (sgF (F _ - 0)))) _ = Q (some (vI (sgF (vlA _ cl.2.1)))) _
    rw [vlA_S h3 (enT_k hf.1), Int.sub_zero, h9, SemM_c h3 (eV_k (lkN_r hf.1 hnm)) (enT_k hf.1) (eqE_N (enT_q (nm := nm)) h2 (by decide) (hc.2.1 cl h1) h4)]
theorem E_ptM {d : Nat} {h : AH} {am nm : Nat → Int} {af ae : Int} {vf tf : Nat → Int} (hk : PKM h) {J : Int} {cs : List cCl} (hJ : LWM h J cs) (hcs : CST cs) (h4 : am 4 = J) {f rw_ : Nat → Int} (ha : AMf am f) (hf : HKs f) {tn0 sz : Nat} (h9 : f 9 = (tn0 : Int)) (hc : hV h 76 25 = vI (f 14)) {c : Int} (c0 : -1 ≤ c ∧ c ≤ 1) (hz : 10 ≤ sz) (hr : PRW am rw_ sz tn0 (elF (tn0 : Int)).toNat) : ∃ h' : AH, PSq h am (TNf cs f rw_ sz tn0 c) (602 + 6 * (tn0 % 1536)) (pkZ f c) none h' ∧ ∀ Q : Option AV → AH → Prop, XC (d + 6) 251 [vR 76, vI c] (hM7 h am nm af ae vf tf) Q = Q none h' := by
  have hf1 : HKr (f1T f c (qT cs f rw_ sz tn0 c)) := HKr_1 hf.1 qT_r.1 qT_r.2
  have q := E_pas (d := d) (nm := nm) (af := af) (ae := ae) (vf := vf) (tf := tf) hk hJ h4 ha hf h9 hc (c := c) (q := qT cs f rw_ sz tn0 c) (s := sT cs f rw_ sz tn0 c) c0 qT_r sT_r hz (rw_ := rw_) (nmC1 := z0N) (nmC2 := z0N) (by rw [h9]; exact hr) z0N_r z0N_r (by rw [h9]; exact LVC_i (w := 0) hcs (by decide) (enT_k hf.1)) (by rw [h9]; exact LVC_i (w := 1) hcs (by decide) (enT_k hf1))
  obtain ⟨r, h', hq, e⟩ := XC_dt q
  have hr1 := hq.1
  subst hr1
  exact ⟨h', hq, e⟩
set_option maxHeartbeats 2000000 in
theorem E_cn {d : Nat} {h : AH} {am nm : Nat → Int} {af ae : Int} {vf tf : Nat → Int} (hk : PKM h) {J : Int} {cs : List cCl} (hJ : LWM h J cs) (hcs : CST cs) {f rw_ : Nat → Int} (ha : AMf am f) (hf : HKr f) {tn0 sz : Nat} (h9 : f 9 = (tn0 : Int)) (ht : tn0 ≤ 20000) (hr : PRW am rw_ sz tn0 (elF (tn0 : Int)).toNat) : ∃ vf' tf' : Nat → Int, ∀ Q : Option AV → AH → Prop, XC (d + 6) 253 [vR 76, vI J] (hM7 h am nm af ae vf tf) Q = Q (some (vI (cmT cs f rw_ sz tn0))) (hM7 h am (lkN f nm) (f 9) (elF (f 9)) vf' tf') := by
  obtain ⟨g1, g2, g3⟩ := PKM_G hk (am := am) (nm := lkN f nm) (af := f 9) (ae := elF (f 9))
  have n4 : hV (hY (hA h am) (lkN f nm) (f 9) (elF (f 9))) 82 4 = vI (f 8 - f 1) := hY_m (by decide)
  have en := ENM_G (d := d) hk (nm0 := nm) (nm := z0N) h9 ht (by rw [h9]; exact hr) (show (2 : Int) ≤ 2 by decide)
  have hv : LVS cs (eV (lkN f z0N) rw_ sz tn0 (elF (f 9)).toNat) (f 8 - f 1) (cmT cs f rw_ sz tn0) := by rw [h9]; exact LVS_i hcs (enT_k hf)
  obtain ⟨vf', tf', e⟩ := E_cq (d := d) g1 (LWM_G hJ) n4 en (eV_k (lkN_r hf (fun i _ => z0N_r i))) hv vf tf
  have e : ∀ Q : Option AV → AH → Prop, XC (d + 5) 245 [vR 76, vI J] (hM7 h am (lkN f nm) (f 9) (elF (f 9)) vf tf) Q = Q (some (vI (cmT cs f rw_ sz tn0))) (hM7 h am (lkN f nm) (f 9) (elF (f 9)) vf' tf') := e
  refine ⟨vf', tf', fun Q => XC_eq (Nat.le_of_ble_eq_true rfl) ?_ Q⟩
  show XP (d + 5) 253 0 [some (vR 76), some (vI J)] [] (hM7 h am nm af ae vf tf) _
  have ea := fun Q => E_nnG (d := d + 3) hk ha hf (nm := nm) (af := af) (ae := ae) (vf := vf) (tf := tf) Q
  have k76 := hk.1.2.1
  refine xpk_sound (stops := []) (n := 20) ?_
  simp only [sk_0, sk_1, sk_2, sk_3, sk_4, sk_5, sk_6, sk_7, sk_8, sk_iadd, sk_isub, sk_imul, sk_iand, sk_ior, sk_ixor, sk_ishl, sk_ishr, sk_iushr, sk_idiv, sk_irem, sk_ineg, sk_ladd, sk_lsub, sk_lmul, sk_land, sk_lor, sk_ldiv, sk_lrem, sk_lneg, sk_lshl, sk_lshr, sk_i2l, sk_l2i, sk_lcmp, sk_dupI, sk_dupR, sk_dup2L, sk_dup2I, sk_popI, sk_ifeq, sk_ifne, sk_iflt, sk_ifge, sk_ifgt, sk_ifle, sk_iceq, sk_icne, sk_iclt, sk_icge, sk_icgt, sk_icle, sk_goto, sk_getf, sk_putf, sk_gets, sk_iald, sk_lald, sk_bald, sk_aald, sk_iast, sk_last, sk_bast, sk_aast, sk_alen, sk_newa, sk_newt, sk_new, sk_cs1, sk_cs2, sk_cs3, sk_cs4, sk_cs5, sk_cs6, sk_cv1, sk_cv2, sk_cv3, sk_cv4, sk_cv5, sk_cv6, sk_ci1, sk_ci2, sk_ci3, sk_ret0, sk_retI, sk_retL, sk_retR, sk_sw, sk_oin, sk_max, sk_min, sk_abs, lI_0, lI_s, lL_0, lL_s, lR_0, lR_s, vIo_e, vLo_e, vOo_e, stW_I, stW_L, stW_R, stW_0, stW_z, okSt_0, okSt_s, hV_eq, hK_eq, okF_0, okF_1, okF_3, is01_0, is01_1, is01_i, Int.toNat_natCast, Int.reduceEq, Int.reduceLE, Int.reduceLT, Int.reduceNeg, Nat.reduceLT, not_true_eq_false, not_false_eq_true, reduceIte, Option.toList, List.cons_append, List.nil_append, List.set_cons_zero, List.set_cons_succ, List.not_mem_nil, List.mem_cons, if_false, if_true, ite_true, ite_false, and_self, and_true, true_and, Nat.reduceAdd, Nat.reduceLeDiff, Nat.reduceEqDiff, Nat.zero_add, Nat.le_refl, Nat.zero_le, or_false, false_or, Int.reduceToNat, or_true, true_or, eq_self, and_false, false_and, inR_d, nc_4, nc_5, nc_6, nc_7, nc_8, nc_16, nc_18, nc_20, nc_24, nc_32, nc_40, nc_64, nc_104, nc_120, nc_160, nc_256, nc_300, nc_330, nc_390, nc_1200, nc_1260, nc_3012, nc_9834, okSt_1i, okSt_1r, okSt_1n, List.length_cons, List.length_nil, xpk_succ cd_253_0, xpk_succ cd_253_1, xpk_succ cd_253_4, xpk_succ cd_253_5, xpk_succ cd_253_6, xpk_succ cd_253_9, hM7_k, k76, ea, e]
