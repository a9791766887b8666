/-! what JB says, asked by cell and entry -/
def isR (c : Nat) (e : Option HV) : Bool := match e with
  | some (.inr (.inr [k])) => Nat.beq k c
  | _ => false
noncomputable def jF (k i c : Nat) : Bool := match gS JB k with
  | some s => isR c s.2.2.1[i]?
  | none => false
theorem jF_s {h : AH} {k i c : Nat} (hJ : k_H JB h) (h1 : jF k i c = true) : hV h k i = vR c := by
  unfold jF at h1
  split at h1
  · rename_i s hs
    have hC := hJ.2.2 k s hs
    unfold isR at h1
    split at h1
    · rename_i k0 he
      obtain ⟨q, k1, k2⟩ := hC.2.1 i _ he
      rcases List.mem_cons.mp k1 with rfl | k1
      · rw [k2, Nat.eq_of_beq_eq_true h1]
      · cases k1
    · cases h1
  · cases h1
noncomputable def jK (k a b : Nat) : Bool := match gS JB k with
  | some s => Nat.beq s.1 a && Nat.beq s.2.1 b
  | none => false
theorem jK_s {h : AH} {k a b : Nat} (hJ : k_H JB h) (h1 : jK k a b = true) : hK h k = (a, b) := by
  unfold jK at h1
  split at h1
  · rename_i s hs
    rw [Bool.and_eq_true] at h1
    have hC := hJ.2.2 k s hs
    rw [hC.1, Nat.eq_of_beq_eq_true h1.1, Nat.eq_of_beq_eq_true h1.2]
  · cases h1
noncomputable def jG (k a b p : Nat) (q : Bool × Int × Int) : Bool := match gS JB k with
  | some s => s.2.2.2.any (fun r => decide (r.1 = a ∧ r.2.1 = b ∧ r.2.2.1 = p ∧ r.2.2.2[0]? = some q))
  | none => false
theorem jG_s {h : AH} {k a b p i : Nat} {q : Bool × Int × Int} (hJ : k_H JB h) (h1 : jG k a b p q = true) (ha : a ≤ i) (hb : i < b) (hp : i % p = 0) : inRg q (hV h k i) := by
  unfold jG at h1
  split at h1
  · rename_i s hs
    rw [List.any_eq_true] at h1
    obtain ⟨r, hr, h2⟩ := h1
    obtain ⟨rfl, rfl, rfl, h6⟩ := of_decide_eq_true h2
    exact ((hJ.2.2 k s hs).2.2 r hr).2 i q ha hb (by rw [hp]; exact h6)
  · cases h1
theorem is_01 {r : Int} (h1 : 0 ≤ r) (h2 : r ≤ 1) : is01 r = true := by unfold is01; rw [decide_eq_true_eq]; omega
theorem rg_I {lo hi : Int} {v : AV} (h : inRg (false, lo, hi) v) : ∃ x, v = vI x ∧ lo ≤ x ∧ x ≤ hi := h
/-- the texts -/
def tF (h : AH) : Nat → Int := fun i => nmb (hV h 79 i)
theorem j79 : jF 76 2 79 = true ∧ jK 79 11 3012 = true ∧ jG 79 0 3012 1 (false, -2147483648, 2147483647) = true ∧ jG 79 0 3012 753 (false, 0, 24) = true := ⟨by decide +kernel, by decide +kernel, by decide +kernel, by decide +kernel⟩
theorem ad_1 {x : Nat} (h : x + 5 < 3012) : w32 ((x : Int) + 1) = ((x + 1 : Nat) : Int) := by unfold w32; omega
theorem bd_1 {x : Nat} (h : x + 5 < 3012) : (0 : Int) ≤ ((x + 1 : Nat) : Int) ∧ ((x + 1 : Nat) : Int) < 3012 := by omega
theorem ad_2 {x : Nat} (h : x + 5 < 3012) : w32 ((x : Int) + 2) = ((x + 2 : Nat) : Int) := by unfold w32; omega
theorem bd_2 {x : Nat} (h : x + 5 < 3012) : (0 : Int) ≤ ((x + 2 : Nat) : Int) ∧ ((x + 2 : Nat) : Int) < 3012 := by omega
theorem ad_3 {x : Nat} (h : x + 5 < 3012) : w32 ((x : Int) + 3) = ((x + 3 : Nat) : Int) := by unfold w32; omega
theorem bd_3 {x : Nat} (h : x + 5 < 3012) : (0 : Int) ≤ ((x + 3 : Nat) : Int) ∧ ((x + 3 : Nat) : Int) < 3012 := by omega
theorem ad_4 {x : Nat} (h : x + 5 < 3012) : w32 ((x : Int) + 4) = ((x + 4 : Nat) : Int) := by unfold w32; omega
theorem bd_4 {x : Nat} (h : x + 5 < 3012) : (0 : Int) ≤ ((x + 4 : Nat) : Int) ∧ ((x + 4 : Nat) : Int) < 3012 := by omega
theorem ad_5 {x : Nat} (h : x + 5 < 3012) : w32 ((x : Int) + 5) = ((x + 5 : Nat) : Int) := by unfold w32; omega
theorem bd_5 {x : Nat} (h : x + 5 < 3012) : (0 : Int) ≤ ((x + 5 : Nat) : Int) ∧ ((x + 5 : Nat) : Int) < 3012 := by omega

theorem j79_1 {h : AH} (hJ : k_H JB h) : hV h 76 2 = vR 79 ∧ hK h 79 = (11, 3012) := by
  exact ⟨jF_s hJ j79.1, jK_s hJ j79.2.1⟩
theorem tF_v {h : AH} (hJ : k_H JB h) {i : Nat} (hi : i < 3012) : hV h 79 i = vI (tF h i) ∧ -2147483648 ≤ tF h i ∧ tF h i ≤ 2147483647 := by
  obtain ⟨x, hx, x1, x2⟩ := jG_s hJ j79.2.2.1 (Nat.zero_le i) hi (Nat.mod_one i)
  have e : tF h i = x := by unfold tF; rw [hx]; rfl
  rw [e]
  exact ⟨hx, x1, x2⟩
theorem tF_c {h : AH} (hJ : k_H JB h) {t : Nat} (ht : t < 4) : 0 ≤ tF h (753 * t) ∧ tF h (753 * t) ≤ 24 := by
  obtain ⟨x, hx, x1, x2⟩ := jG_s (i := 753 * t) hJ j79.2.2.2 (Nat.zero_le _) (by omega) (by omega)
  have e : tF h (753 * t) = x := by unfold tF; rw [hx]; rfl
  rw [e]
  exact ⟨x1, x2⟩
/-! stores within JB -/
def nilB {α : Type} (l : List α) : Bool := match l with
  | [] => true
  | _ => false
noncomputable def jW1 (k : Nat) (q : Bool × Int × Int) : Bool := match gS JB k with
  | some s => nilB s.2.2.1 && s.2.2.2.all (fun r => r.2.2.2.all (fun q' => leQQ q q'))
  | none => false
theorem JB_s1 {h : AH} {k i : Nat} {v : AV} {q : Bool × Int × Int} (h1 : jW1 k q = true) (hv : inRg q v) (hJ : k_H JB h) : k_H JB (hSet h k i v) := by
  refine ⟨hJ.1, hJ.2.1, fun k' c hc => ?_⟩
  have hC := hJ.2.2 k' c hc
  by_cases z : k' = k
  · subst z
    unfold jW1 at h1
    rw [hc] at h1
    have h1 : (nilB c.2.2.1 && c.2.2.2.all (fun r => r.2.2.2.all (fun q' => leQQ q q'))) = true := h1
    rw [Bool.and_eq_true, List.all_eq_true] at h1
    refine ⟨hC.1, fun j e he => ?_, fun r hr => ⟨(hC.2.2 r hr).1, fun j q' j1 j2 hq => ?_⟩⟩
    · have h2 := h1.1
      unfold nilB at h2
      split at h2
      · rename_i e0; rw [e0] at he; cases j <;> cases he
      · cases h2
    · rw [hV_eq]
      by_cases y : k' = k' ∧ j = i
      · rw [if_pos y]
        have h3 := h1.2 r hr
        rw [List.all_eq_true] at h3
        exact leQQ_s (h3 q' (List.mem_of_getElem? hq)) hv
      · rw [if_neg y]; exact (hC.2.2 r hr).2 j q' j1 j2 hq
  · refine ⟨hC.1, fun j e he => ?_, fun r hr => ⟨(hC.2.2 r hr).1, fun j q' j1 j2 hq => ?_⟩⟩
    · rw [hV_eq, if_neg (fun y => z y.1)]; exact hC.2.1 j e he
    · rw [hV_eq, if_neg (fun y => z y.1)]; exact (hC.2.2 r hr).2 j q' j1 j2 hq
def rgB (q : Bool × Int × Int) (e : Option HV) : Bool := match e with
  | some (.inr (.inl q')) => leQQ q q'
  | _ => false
noncomputable def jW2 (k i : Nat) (q : Bool × Int × Int) : Bool := match gS JB k with
  | some s => rgB q s.2.2.1[i]?
  | none => false
theorem JB_s2 {h : AH} {k i : Nat} {v : AV} {q : Bool × Int × Int} (h1 : jW2 k i q = true) (hv : inRg q v) (hJ : k_H JB h) : k_H JB (hSet h k i v) := by
  refine ⟨hJ.1, hJ.2.1, fun k' c hc => ?_⟩
  have hC := hJ.2.2 k' c hc
  by_cases z : k' = k
  · subst z
    unfold jW2 at h1
    rw [hc] at h1
    have h1 : rgB q c.2.2.1[i]? = true := h1
    unfold rgB at h1
    split at h1
    · rename_i q0 e0
      refine ⟨hC.1, fun j e he => ?_, fun r hr => ⟨(hC.2.2 r hr).1, fun j q' j1 j2 hq => ?_⟩⟩
      · rw [hV_eq]
        by_cases y : k' = k' ∧ j = i
        · rw [if_pos y]
          rw [y.2, e0] at he
          cases he
          exact leQQ_s h1 hv
        · rw [if_neg y]; exact hC.2.1 j e he
      · have hl : i < c.2.2.1.length := by
          rcases Nat.lt_or_ge i c.2.2.1.length with y | y
          · exact y
          · rw [List.getElem?_eq_none y] at e0; cases e0
        have := (hC.2.2 r hr).1
        rw [hV_eq, if_neg (fun y => by omega)]
        exact (hC.2.2 r hr).2 j q' j1 j2 hq
    · cases h1
  · refine ⟨hC.1, fun j e he => ?_, fun r hr => ⟨(hC.2.2 r hr).1, fun j q' j1 j2 hq => ?_⟩⟩
    · rw [hV_eq, if_neg (fun y => z y.1)]; exact hC.2.1 j e he
    · rw [hV_eq, if_neg (fun y => z y.1)]; exact (hC.2.2 r hr).2 j q' j1 j2 hq
/-- a state behind some stores -/
def STo (β : Nat) (md : MD) (h0 h : AH) : Prop := k_H JB h ∧ n_F (W0 β) md h0 h
theorem ST_s1 {β : Nat} {md : MD} {h0 h : AH} {k i l u : Nat} {v : AV} {q : Bool × Int × Int} (hs : STo β md h0 h) (h1 : jW1 k q = true) (hv : inRg q v) (h2 : okW k l u = true) (h3 : okMd md k l u = true) (hl : l ≤ i) (hu : i ≤ u) : STo β md h0 (hSet h k i v) := ⟨JB_s1 h1 hv hs.1, n_F_set W0_f hs.2 (okMd_s h3 hl hu) (Or.inl (okW_s h2 hl hu))⟩
theorem ST_s2 {β : Nat} {md : MD} {h0 h : AH} {k i : Nat} {v : AV} {q : Bool × Int × Int} (hs : STo β md h0 h) (h1 : jW2 k i q = true) (hv : inRg q v) (h2 : okW k i i = true) (h3 : okMd md k i i = true) : STo β md h0 (hSet h k i v) := ⟨JB_s2 h1 hv hs.1, n_F_set W0_f hs.2 (okMd_s h3 (Nat.le_refl _) (Nat.le_refl _)) (Or.inl (okW_s h2 (Nat.le_refl _) (Nat.le_refl _)))⟩
noncomputable def subM (md md' : MD) : Bool := aLL md fun q => okMd md' q.1 q.2.1 q.2.2
theorem subM_s {md md' : MD} (h : subM md md' = true) {k i : Nat} (hi : inMd md k i) : inMd md' k i := by
  obtain ⟨q, q1, q2, q3, q4⟩ := hi
  rw [← q2]
  exact okMd_s (aLL_s h q q1) q3 q4
theorem ST_t {β : Nat} {md md' : MD} {h0 h1 h2 : AH} (hs : STo β md h0 h1) (hJ : k_H JB h2) (hF : n_F (W0 β) md' h1 h2) (hm : subM md' md = true) : STo β md h0 h2 := ⟨hJ, ⟨hF.1.1.trans hs.2.1.1, hF.1.2⟩, fun k i hn => by rw [hF.2 k i (fun z => hn (subM_s hm z)), hs.2.2 k i hn]⟩
theorem ST_n {β : Nat} {md : MD} {h0 h : AH} (hs : STo β md h0 h) {k i : Nat} (hk : (md.all fun q => !Nat.beq q.1 k) = true) : hV h k i = hV h0 k i := hs.2.2 k i (fun z => by
  obtain ⟨q, q1, q2, -⟩ := z
  rw [List.all_eq_true] at hk
  have := hk q q1
  rw [q2, Nat.beq_refl] at this
  cases this)
theorem ST_r {β : Nat} {md : MD} {h : AH} (hJ : k_H JB h) (hW : W0 β h) : STo β md h h := ⟨hJ, n_F_r hW⟩
