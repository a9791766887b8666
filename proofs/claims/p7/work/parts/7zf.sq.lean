set_option maxRecDepth 20000 in
theorem ac_250 : allC[250]? = some cl250 := rfl
theorem cd_250_0 : cd 250 0 = some (0, 3, 0, 0, 602, []) := cd_row ac_250 rfl
theorem cd_250_3 : cd 250 3 = some (0, 5, 0, 0, 6, []) := cd_row ac_250 rfl
theorem cd_250_5 : cd 250 5 = some (4, 6, 0, 0, 0, []) := cd_row ac_250 rfl
theorem cd_250_6 : cd 250 6 = some (23, 9, 10, 0, 0, []) := cd_row ac_250 rfl
theorem cd_250_9 : cd 250 9 = some (0, 11, 0, 0, 16, []) := cd_row ac_250 rfl
theorem cd_250_11 : cd 250 11 = some (26, 12, 0, 0, 0, []) := cd_row ac_250 rfl
theorem cd_250_12 : cd 250 12 = some (0, 15, 0, 0, 1536, []) := cd_row ac_250 rfl
theorem cd_250_15 : cd 250 15 = some (9, 16, 0, 7, 0, []) := cd_row ac_250 rfl
theorem cd_250_16 : cd 250 16 = some (9, 17, 0, 2, 0, []) := cd_row ac_250 rfl
theorem cd_250_17 : cd 250 17 = some (9, 18, 0, 0, 0, []) := cd_row ac_250 rfl
theorem cd_250_18 : cd 250 18 = some (5, 19, 2, 0, 0, []) := cd_row ac_250 rfl
theorem cd_250_19 : cd 250 19 = some (4, 20, 0, 0, 0, []) := cd_row ac_250 rfl
theorem cd_250_20 : cd 250 20 = some (23, 23, 10, 0, 0, []) := cd_row ac_250 rfl
theorem cd_250_23 : cd 250 23 = some (2, 24, 2, 0, 0, []) := cd_row ac_250 rfl
theorem cd_250_24 : cd 250 24 = some (4, 25, 0, 0, 0, []) := cd_row ac_250 rfl
theorem cd_250_25 : cd 250 25 = some (46, 28, 243, 1, 10, []) := cd_row ac_250 rfl
theorem cd_250_28 : cd 250 28 = some (30, 29, 0, 0, 0, []) := cd_row ac_250 rfl
theorem cd_250_29 : cd 250 29 = some (4, 30, 0, 0, 0, []) := cd_row ac_250 rfl
theorem cd_250_30 : cd 250 30 = some (23, 33, 10, 0, 0, []) := cd_row ac_250 rfl
theorem cd_250_33 : cd 250 33 = some (2, 34, 2, 0, 0, []) := cd_row ac_250 rfl
theorem cd_250_34 : cd 250 34 = some (0, 35, 0, 0, 1, []) := cd_row ac_250 rfl
theorem cd_250_35 : cd 250 35 = some (9, 36, 0, 0, 0, []) := cd_row ac_250 rfl
theorem cd_250_36 : cd 250 36 = some (4, 37, 0, 0, 0, []) := cd_row ac_250 rfl
theorem cd_250_37 : cd 250 37 = some (23, 40, 10, 0, 0, []) := cd_row ac_250 rfl
theorem cd_250_40 : cd 250 40 = some (0, 42, 0, 0, 11, []) := cd_row ac_250 rfl
theorem cd_250_42 : cd 250 42 = some (26, 43, 0, 0, 0, []) := cd_row ac_250 rfl
theorem cd_250_43 : cd 250 43 = some (30, 44, 0, 0, 0, []) := cd_row ac_250 rfl
theorem cd_250_44 : cd 250 44 = some (4, 45, 0, 0, 0, []) := cd_row ac_250 rfl
theorem cd_250_45 : cd 250 45 = some (23, 48, 10, 0, 0, []) := cd_row ac_250 rfl
theorem cd_250_48 : cd 250 48 = some (2, 49, 2, 0, 0, []) := cd_row ac_250 rfl
theorem cd_250_49 : cd 250 49 = some (0, 50, 0, 0, 2, []) := cd_row ac_250 rfl
theorem cd_250_50 : cd 250 50 = some (9, 51, 0, 0, 0, []) := cd_row ac_250 rfl
theorem cd_250_51 : cd 250 51 = some (4, 52, 0, 0, 0, []) := cd_row ac_250 rfl
theorem cd_250_52 : cd 250 52 = some (23, 55, 10, 0, 0, []) := cd_row ac_250 rfl
theorem cd_250_55 : cd 250 55 = some (0, 57, 0, 0, 9, []) := cd_row ac_250 rfl
theorem cd_250_57 : cd 250 57 = some (26, 58, 0, 0, 0, []) := cd_row ac_250 rfl
theorem cd_250_58 : cd 250 58 = some (30, 59, 0, 0, 0, []) := cd_row ac_250 rfl
theorem cd_250_59 : cd 250 59 = some (4, 60, 0, 0, 0, []) := cd_row ac_250 rfl
theorem cd_250_60 : cd 250 60 = some (23, 63, 10, 0, 0, []) := cd_row ac_250 rfl
theorem cd_250_63 : cd 250 63 = some (2, 64, 2, 0, 0, []) := cd_row ac_250 rfl
theorem cd_250_64 : cd 250 64 = some (0, 65, 0, 0, 3, []) := cd_row ac_250 rfl
theorem cd_250_65 : cd 250 65 = some (9, 66, 0, 0, 0, []) := cd_row ac_250 rfl
theorem cd_250_66 : cd 250 66 = some (4, 67, 0, 0, 0, []) := cd_row ac_250 rfl
theorem cd_250_67 : cd 250 67 = some (23, 70, 10, 0, 0, []) := cd_row ac_250 rfl
theorem cd_250_70 : cd 250 70 = some (0, 72, 0, 0, 14, []) := cd_row ac_250 rfl
theorem cd_250_72 : cd 250 72 = some (26, 73, 0, 0, 0, []) := cd_row ac_250 rfl
theorem cd_250_73 : cd 250 73 = some (30, 74, 0, 0, 0, []) := cd_row ac_250 rfl
theorem cd_250_74 : cd 250 74 = some (4, 75, 0, 0, 0, []) := cd_row ac_250 rfl
theorem cd_250_75 : cd 250 75 = some (23, 78, 10, 0, 0, []) := cd_row ac_250 rfl
theorem cd_250_78 : cd 250 78 = some (2, 79, 2, 0, 0, []) := cd_row ac_250 rfl
theorem cd_250_79 : cd 250 79 = some (0, 80, 0, 0, 4, []) := cd_row ac_250 rfl
theorem cd_250_80 : cd 250 80 = some (9, 81, 0, 0, 0, []) := cd_row ac_250 rfl
theorem cd_250_81 : cd 250 81 = some (4, 82, 0, 0, 0, []) := cd_row ac_250 rfl
theorem cd_250_82 : cd 250 82 = some (23, 85, 10, 0, 0, []) := cd_row ac_250 rfl
theorem cd_250_85 : cd 250 85 = some (0, 87, 0, 0, 15, []) := cd_row ac_250 rfl
theorem cd_250_87 : cd 250 87 = some (26, 88, 0, 0, 0, []) := cd_row ac_250 rfl
theorem cd_250_88 : cd 250 88 = some (4, 89, 0, 0, 0, []) := cd_row ac_250 rfl
theorem cd_250_89 : cd 250 89 = some (23, 92, 10, 0, 0, []) := cd_row ac_250 rfl
theorem cd_250_92 : cd 250 92 = some (0, 94, 0, 0, 8, []) := cd_row ac_250 rfl
theorem cd_250_94 : cd 250 94 = some (26, 95, 0, 0, 0, []) := cd_row ac_250 rfl
theorem cd_250_95 : cd 250 95 = some (9, 96, 0, 1, 0, []) := cd_row ac_250 rfl
theorem cd_250_96 : cd 250 96 = some (30, 97, 0, 0, 0, []) := cd_row ac_250 rfl
theorem cd_250_97 : cd 250 97 = some (4, 98, 0, 0, 0, []) := cd_row ac_250 rfl
theorem cd_250_98 : cd 250 98 = some (23, 101, 10, 0, 0, []) := cd_row ac_250 rfl
theorem cd_250_101 : cd 250 101 = some (2, 102, 2, 0, 0, []) := cd_row ac_250 rfl
theorem cd_250_102 : cd 250 102 = some (0, 103, 0, 0, 5, []) := cd_row ac_250 rfl
theorem cd_250_103 : cd 250 103 = some (9, 104, 0, 0, 0, []) := cd_row ac_250 rfl
theorem cd_250_104 : cd 250 104 = some (2, 105, 1, 0, 0, []) := cd_row ac_250 rfl
theorem cd_250_105 : cd 250 105 = some (30, 106, 0, 0, 0, []) := cd_row ac_250 rfl
theorem cd_250_106 : cd 250 106 = some (39, 107, 0, 0, 0, []) := cd_row ac_250 rfl
/-! the laws of both are worth the same -/
theorem CSk_u {cs : List cCl} (hk : CSk cs) {c1 c2 : cCl} (h1 : c1 ∈ cs) (h2 : c2 ∈ cs) (h5 : c1.1 < 5) (he : c1.1 = c2.1) : c1 = c2 := by
  obtain ⟨i1, g1⟩ := List.mem_iff_getElem?.mp h1
  obtain ⟨i2, g2⟩ := List.mem_iff_getElem?.mp h2
  have e := hk.2 i1 i2 c1 c2 g1 g2 h5 he
  subst e
  exact Option.some.inj (g1.symm.trans g2)
theorem LWM_k {h : AH} {J : Int} {cs : List cCl} (hJ : LWM h J cs) : CSk cs := by
  rcases hJ with ⟨_, rfl⟩ | ⟨_, _, _, _, _, _, _, _, hs, _⟩
  · exact CSk_0
  · exact hs
theorem E_sq {d : Nat} {h : AH} (hk : LKM h) {J : Int} {cs : List cCl} (hJ : LWM h J cs) (hK77 : hK h 77 = (11, 9834)) (v0 : hV h 76 0 = vR 77) (v4 : hV h 77 4 = vI J) {w : Nat} (hw : w < 5) {e : ENV} (he : ENM d h (w : Int) e) (hen : envK e) {no lo hi v : Int} (hlh : lo ≤ hi) (hv : LVC cs w e no lo hi v) (vf tf : Nat → Int) : ∃ vf' tf' : Nat → Int, ∀ Q : Option AV → AH → Prop, XC (d + 5) 242 [vR 76, vI (w : Int), vI no, vI lo, vI hi] (hU h vf tf) Q = Q (some (vI v)) (hU h vf' tf') := by
  rcases E_sy (d := d) hk hJ hK77 v0 v4 hw (wo := no) (lo := lo) (hi := hi) with ⟨h1, h2⟩ | ⟨cl, m, k, h2⟩
  · rcases hv with ⟨_, rfl⟩ | ⟨cl', F, m', k', _⟩
    · exact ⟨vf, tf, h2 vf tf⟩
    · exact absurd k' (hasL_f h1 cl' m')
  · rcases hv with ⟨g1, _⟩ | ⟨cl', F, m', k', sm, ok, rf, rfl⟩
    · exact absurd k (hasL_f g1 cl m)
    · have e1 : cl' = cl := CSk_u (LWM_k hJ) m' m (by omega) (by rw [k', k])
      subst e1
      obtain ⟨vf', tf', q⟩ := h2 e he hen F sm ok (rf e hen) vf tf
      rw [← bd_ct hlh] at q
      exact ⟨vf', tf', q⟩
/-- the hand's law in the class -/
def LVS (cs : List cCl) (e : ENV) (no v : Int) : Prop := (hasL cs 2 = false ∧ v = sgF no) ∨ ∃ (cl : cCl) (F : ENV → Int), cl ∈ cs ∧ cl.1 = 2 ∧ SemM cl.2.1 F ∧ okC cl.2.1 ∧ (∀ e, envK e → rngV (F e)) ∧ v = sgF (F e - 0)
theorem E_cq {d : Nat} {h : AH} (hk : LKM h) {J : Int} {cs : List cCl} (hJ : LWM h J cs) {n4 : Int} (hn4 : hV h 82 4 = vI n4) {e : ENV} (he : ENM d h 2 e) (hen : envK e) {v : Int} (hv : LVS cs e n4 v) (vf tf : Nat → Int) : ∃ vf' tf' : Nat → Int, ∀ Q : Option AV → AH → Prop, XC (d + 5) 245 [vR 76, vI J] (hU h vf tf) Q = Q (some (vI v)) (hU h vf' tf') := by
  rcases E_cb (d := d) hk hJ hn4 with ⟨h1, h2⟩ | ⟨cl, m, k, h2⟩
  · rcases hv with ⟨_, rfl⟩ | ⟨cl', F, m', k', _⟩
    · exact ⟨vf, tf, h2 vf tf⟩
    · exact absurd k' (hasL_f h1 cl' m')
  · rcases hv with ⟨g1, _⟩ | ⟨cl', F, m', k', sm, ok, rf, rfl⟩
    · exact absurd k (hasL_f g1 cl m)
    · have e1 : cl' = cl := CSk_u (LWM_k hJ) m' m (by omega) (by rw [k', k])
      subst e1
      obtain ⟨vf', tf', q⟩ := h2 e he hen F sm ok (rf e hen) vf tf
      rw [Int.sub_zero]
      exact ⟨vf', tf', q⟩
theorem lkN_6 {f a b : Nat → Int} {m : Nat} (h : m < 7) : lkN f a m = lkN f b m := by
  have : m = 0 ∨ m = 1 ∨ m = 2 ∨ m = 3 ∨ m = 4 ∨ m = 5 ∨ m = 6 := by omega
  rcases this with rfl | rfl | rfl | rfl | rfl | rfl | rfl <;> rfl
theorem isNm_7 {l : Int} {m : Nat} (hl : l ≤ 2) (hm : m < 8) (h : isNm l (m : Int) = true) : m < 7 := by
  rcases Nat.lt_or_ge m 7 with z | z
  · exact z
  · exfalso
    have e : m = 7 := by omega
    subst e
    have h : isNm l 7 = true := h
    unfold isNm at h
    rw [if_neg (by decide), if_neg (by decide)] at h
    have := of_decide_eq_true h
    omega
/-- the numbers of the reference: all of cell 77, its scratch -/
theorem hY_so {h : AH} {nm : Nat → Int} {af ae : Int} {k0 i : Nat} {v : AV} (h1 : k0 ≠ 82) (h2 : k0 ≠ 76) : hSet (hY h nm af ae) k0 i v = hY (hSet h k0 i v) nm af ae := by
  refine Prod.ext rfl (Prod.ext rfl (Prod.ext rfl ?_))
  funext k j
  show (if k = k0 ∧ j = i then v else if k = 82 ∧ j < 8 then vI (nm j) else if k = 76 ∧ j = 21 then vI af else if k = 76 ∧ j = 22 then vI ae else h.2.2.2 k j) = (if k = 82 ∧ j < 8 then vI (nm j) else if k = 76 ∧ j = 21 then vI af else if k = 76 ∧ j = 22 then vI ae else if k = k0 ∧ j = i then v else h.2.2.2 k j)
  by_cases z : k = k0 ∧ j = i
  · rw [if_pos z, if_neg (by omega), if_neg (by omega), if_neg (by omega), if_pos z]
  · rw [if_neg z]
    by_cases y1 : k = 82 ∧ j < 8
    · rw [if_pos y1, if_pos y1]
    rw [if_neg y1, if_neg y1]
    by_cases y2 : k = 76 ∧ j = 21
    · rw [if_pos y2, if_pos y2]
    rw [if_neg y2, if_neg y2]
    by_cases y3 : k = 76 ∧ j = 22
    · rw [if_pos y3, if_pos y3]
    rw [if_neg y3, if_neg y3, if_neg z]
def hM7 (h : AH) (am nm : Nat → Int) (af ae : Int) (vf tf : Nat → Int) : AH := hZ (hA h am) nm af ae vf tf
theorem hM7_k {h : AH} {am nm : Nat → Int} {af ae : Int} {vf tf : Nat → Int} : hK (hM7 h am nm af ae vf tf) = hK h := rfl
theorem hM7_v {h : AH} {am nm : Nat → Int} {af ae : Int} {vf tf : Nat → Int} {i : Nat} (hi : i < 9834) : hV (hM7 h am nm af ae vf tf) 77 i = vI (am i) := (hZ_n (by decide) (Or.inl (by decide)) (by decide) (by decide)).trans (hA_V hi)
theorem hM7_n {h : AH} {am nm : Nat → Int} {af ae : Int} {vf tf : Nat → Int} {k i : Nat} (h0 : k ≠ 77) (h1 : k ≠ 82) (h2 : k ≠ 76 ∨ (i ≠ 21 ∧ i ≠ 22)) (h3 : k ≠ 83) (h4 : k ≠ 84) : hV (hM7 h am nm af ae vf tf) k i = hV h k i := (hZ_n h1 h2 h3 h4).trans (hA_n h0)
theorem hM7_s {h : AH} {am nm : Nat → Int} {af ae : Int} {vf tf : Nat → Int} {i : Nat} {x : Int} (hi : i < 9834) : hSet (hM7 h am nm af ae vf tf) 77 i (vI x) = hM7 h (upF am i x) nm af ae vf tf := by
  show hSet (hU (hY (hA h am) nm af ae) vf tf) 77 i (vI x) = hU (hY (hA h (upF am i x)) nm af ae) vf tf
  rw [hU_so (by decide) (by decide), hY_so (by decide) (by decide), hA_set hi]
/-- where the reference's numbers lie -/
def PKM (h : AH) : Prop := LKM h ∧ hK h 77 = (11, 9834) ∧ hV h 76 0 = vR 77
theorem PKM_G {h : AH} (hk : PKM h) {am nm : Nat → Int} {af ae : Int} : LKM (hY (hA h am) nm af ae) ∧ hK (hY (hA h am) nm af ae) 77 = (11, 9834) ∧ hV (hY (hA h am) nm af ae) 76 0 = vR 77 := by
  have n : ∀ {i : Nat}, i ≠ 21 → i ≠ 22 → hV (hY (hA h am) nm af ae) 76 i = hV h 76 i := fun {i} h1 h2 => (hY_n (by decide) (Or.inr ⟨h1, h2⟩)).trans (hA_n (by decide))
  exact ⟨⟨⟨(n (by decide) (by decide)).trans hk.1.1.1, (n (by decide) (by decide)).trans hk.1.1.2.1, (n (by decide) (by decide)).trans hk.1.1.2.2.1, (n (by decide) (by decide)).trans hk.1.1.2.2.2⟩, hk.1.2⟩, hk.2.1, (n (by decide) (by decide)).trans hk.2.2⟩
theorem LWM_G {h : AH} {J : Int} {cs : List cCl} (hJ : LWM h J cs) {am nm : Nat → Int} {af ae : Int} : LWM (hY (hA h am) nm af ae) J cs := by
  rcases hJ with h | ⟨j, W, gm, h1, h2, h3, h4, h5⟩
  · exact Or.inl h
  · exact Or.inr ⟨j, W, gm, h1, h2, h3, fun i hi => ((hY_n (by decide) (Or.inl (by decide))).trans (hA_n (by decide))).trans (h4 i hi), h5⟩
/-- the class's numbers in the reference -/
def AMf (am f : Nat → Int) : Prop := (∀ i, 1 ≤ i → i < 10 → am (i + 7) = f i) ∧ am 2 = f 10
theorem HKM_G {h : AH} (hk : PKM h) {am f : Nat → Int} (ha : AMf am f) : HKM (hA h am) f := ⟨⟨hk.1.2.1, hk.2.1, hk.1.2.2.2.1⟩, ⟨(hA_n (by decide)).trans hk.2.2, (hA_n (by decide)).trans hk.1.1.2.1⟩, fun i h1 h2 => (hA_V (by omega)).trans (congrArg vI (ha.1 i h1 h2))⟩
theorem E_nnG {d : Nat} {h : AH} {am nm : Nat → Int} {af ae : Int} {vf tf : Nat → Int} (hk : PKM h) {f : Nat → Int} (ha : AMf am f) (hf : HKr f) (Q : Option AV → AH → Prop) : XC (d + 2) 244 [vR 76] (hM7 h am nm af ae vf tf) Q = Q none (hM7 h am (lkN f nm) (f 9) (elF (f 9)) vf tf) := E_nn (h := hA h am) (HKM_G hk ha) hf Q
theorem E_awG {d : Nat} {h : AH} {am nm : Nat → Int} {af ae : Int} {vf tf : Nat → Int} (hk : PKM h) {f : Nat → Int} (ha : AMf am f) (hf : HKr f) (Q : Option AV → AH → Prop) : XC (d + 1) 243 [vR 76] (hM7 h am nm af ae vf tf) Q = Q (some (vI (f 1 - f 3))) (hM7 h am nm af ae vf tf) := E_awM (g := hM7 h am nm af ae vf tf) ⟨⟨hk.1.2.1, hk.2.1⟩, (hM7_n (by decide) (by decide) (Or.inr ⟨by decide, by decide⟩) (by decide) (by decide)).trans hk.2.2, (hM7_v (by decide)).trans (congrArg vI (ha.1 1 (by decide) (by decide))), (hM7_v (by decide)).trans (congrArg vI (ha.1 3 (by decide) (by decide)))⟩ hf Q
/-- the rows of both: the tenths that a law may ask -/
def PRW (am rw_ : Nat → Int) (sz tn el : Nat) : Prop := ∀ k w, 1 ≤ k → k ≤ 9 → w ≤ 4 → el + k ≤ tn → am (602 + 6 * ((tn - k) % 1536) + w) = prW (rw_ ((tn - k) % sz)) w
theorem ENM_G {d : Nat} {h : AH} (hk : PKM h) {am f nm0 nm rw_ : Nat → Int} {sz tn0 : Nat} (h9 : f 9 = (tn0 : Int)) (ht : tn0 ≤ 20000) (hr : PRW am rw_ sz tn0 (elF (f 9)).toNat) {l : Int} (hl : l ≤ 2) : ENM d (hY (hA h am) (lkN f nm0) (f 9) (elF (f 9))) l (eV (lkN f nm) rw_ sz tn0 (elF (f 9)).toNat) := by
  refine ⟨fun m hm hi => ?_, fun _ k w vf tf Q k1 k9 hw => ?_⟩
  · rw [hY_m hm, lkN_6 (b := nm) (isNm_7 hl hm hi)]
    rfl
  · have e9 : elF (f 9) = ((elF (f 9)).toNat : Int) := by rw [h9]; exact elF_n
    have q := E_agM (d := d + 1) (g := hM7 h am (lkN f nm0) (f 9) (elF (f 9)) vf tf) ⟨hk.1.2.1, hk.2.1⟩ ((hM7_n (by decide) (by decide) (Or.inr ⟨by decide, by decide⟩) (by decide) (by decide)).trans hk.2.2) (f := tn0) (l := (elF (f 9)).toNat) (hZ_21.trans (congrArg vI h9)) (hZ_22.trans (congrArg vI e9)) ht (pa := fun t w => am (602 + 6 * (t % 1536) + w)) (fun w hw t => hM7_v (by omega)) k9 (show w < 6 by omega) Q
    show XC (d + 3) 239 [vR 76, vI (k : Int), vI (w : Int)] (hM7 h am (lkN f nm0) (f 9) (elF (f 9)) vf tf) Q = Q (some (vI (if (elF (f 9)).toNat + k ≤ tn0 then (if w < 6 then prW (rw_ ((tn0 - k) % sz)) w else 0) else 0))) (hM7 h am (lkN f nm0) (f 9) (elF (f 9)) vf tf)
    rw [q]
    by_cases z : (elF (f 9)).toNat + k ≤ tn0
    · rw [if_pos z, if_pos z, if_pos (show w < 6 by omega)]
      rw [hr k w k1 k9 hw z]
    · rw [if_neg z, if_neg z]
/-- a row of PAST -/
def lpF (am : Nat → Int) (x : Nat) (c : Int) : Nat → Int := upF (upF (upF (upF (upF (upF am x (am 8 - am 10)) (x + 1) (am 11)) (x + 2) (am 9)) (x + 3) (am 14)) (x + 4) (am 15 - am 8)) (x + 5) c
set_option maxHeartbeats 2000000 in
theorem lp_0 {d : Nat} {h : AH} {am nm : Nat → Int} {af ae : Int} {vf tf : Nat → Int} (hk : PKM h) {c : Int} {x : Nat} (hx : 602 ≤ x ∧ x + 6 ≤ 9834) (ea : ∀ Q : Option AV → AH → Prop, XC (d + 1) 243 [vR 76] (hM7 h am nm af ae vf tf) Q = Q (some (vI (am 8 - am 10))) (hM7 h am nm af ae vf tf)) {PQ : Option AV → AH → Prop} (y : XP (d + 1) 250 29 [some (vR 76), some (vI c), some (vI (x : Int))] [] (hM7 h (upF am (x) (am 8 - am 10)) nm af ae vf tf) PQ) : XP (d + 1) 250 19 [some (vR 76), some (vI c), some (vI (x : Int))] [] (hM7 h am nm af ae vf tf) PQ := by
  have k76 := hk.1.2.1
  have k77 := hk.2.1
  have q0 : ∀ {am : Nat → Int}, hV (hM7 h am nm af ae vf tf) 76 0 = vR 77 := (hM7_n (by decide) (by decide) (Or.inr ⟨by decide, by decide⟩) (by decide) (by decide)).trans hk.2.2
  have b0 : (0 : Int) ≤ ((x : Nat) : Int) ∧ ((x : Nat) : Int) < 9834 := by omega
  have s0 : ∀ {v : Int}, hSet (hM7 h am nm af ae vf tf) 77 (x) (vI v) = hM7 h (upF am (x) v) nm af ae vf tf := hM7_s (by omega)
  refine xpk_sound (stops := [29]) (n := 40) ?_
  simp only [sk_0, sk_1, sk_2, sk_3, sk_4, sk_5, sk_6, sk_7, sk_8, sk_iadd, sk_isub, sk_imul, sk_iand, sk_ior, sk_ixor, sk_ishl, sk_ishr, sk_iushr, sk_idiv, sk_irem, sk_ineg, sk_ladd, sk_lsub, sk_lmul, sk_land, sk_lor, sk_ldiv, sk_lrem, sk_lneg, sk_lshl, sk_lshr, sk_i2l, sk_l2i, sk_lcmp, sk_dupI, sk_dupR, sk_dup2L, sk_dup2I, sk_popI, sk_ifeq, sk_ifne, sk_iflt, sk_ifge, sk_ifgt, sk_ifle, sk_iceq, sk_icne, sk_iclt, sk_icge, sk_icgt, sk_icle, sk_goto, sk_getf, sk_putf, sk_gets, sk_iald, sk_lald, sk_bald, sk_aald, sk_iast, sk_last, sk_bast, sk_aast, sk_alen, sk_newa, sk_newt, sk_new, sk_cs1, sk_cs2, sk_cs3, sk_cs4, sk_cs5, sk_cs6, sk_cv1, sk_cv2, sk_cv3, sk_cv4, sk_cv5, sk_cv6, sk_ci1, sk_ci2, sk_ci3, sk_ret0, sk_retI, sk_retL, sk_retR, sk_sw, sk_oin, sk_max, sk_min, sk_abs, lI_0, lI_s, lL_0, lL_s, lR_0, lR_s, vIo_e, vLo_e, vOo_e, stW_I, stW_L, stW_R, stW_0, stW_z, okSt_0, okSt_s, hV_eq, hK_eq, okF_0, okF_1, okF_3, is01_0, is01_1, is01_i, Int.toNat_natCast, Int.reduceEq, Int.reduceLE, Int.reduceLT, Int.reduceNeg, Nat.reduceLT, not_true_eq_false, not_false_eq_true, reduceIte, Option.toList, List.cons_append, List.nil_append, List.set_cons_zero, List.set_cons_succ, List.not_mem_nil, List.mem_cons, if_false, if_true, ite_true, ite_false, and_self, and_true, true_and, Nat.reduceAdd, Nat.reduceLeDiff, Nat.reduceEqDiff, Nat.zero_add, Nat.le_refl, Nat.zero_le, or_false, false_or, Int.reduceToNat, or_true, true_or, eq_self, and_false, false_and, inR_d, nc_4, nc_5, nc_6, nc_7, nc_8, nc_16, nc_18, nc_20, nc_24, nc_32, nc_40, nc_64, nc_104, nc_120, nc_160, nc_256, nc_300, nc_330, nc_390, nc_1200, nc_1260, nc_3012, nc_9834, okSt_1i, okSt_1r, okSt_1n, List.length_cons, List.length_nil, xpk_succ cd_250_19, xpk_succ cd_250_20, xpk_succ cd_250_23, xpk_succ cd_250_24, xpk_succ cd_250_25, xpk_succ cd_250_28, hM7_k, k76, k77, q0, b0, s0, ea]
  exact y
set_option maxHeartbeats 2000000 in
theorem lp_1 {d : Nat} {h : AH} {am nm : Nat → Int} {af ae : Int} {vf tf : Nat → Int} (hk : PKM h) {c : Int} {x : Nat} (hx : 602 ≤ x ∧ x + 6 ≤ 9834) {PQ : Option AV → AH → Prop} (y : XP (d + 1) 250 44 [some (vR 76), some (vI c), some (vI (x : Int))] [] (hM7 h (upF am (x + 1) (am 11)) nm af ae vf tf) PQ) : XP (d + 1) 250 29 [some (vR 76), some (vI c), some (vI (x : Int))] [] (hM7 h am nm af ae vf tf) PQ := by
  have k76 := hk.1.2.1
  have k77 := hk.2.1
  have q0 : ∀ {am : Nat → Int}, hV (hM7 h am nm af ae vf tf) 76 0 = vR 77 := (hM7_n (by decide) (by decide) (Or.inr ⟨by decide, by decide⟩) (by decide) (by decide)).trans hk.2.2
  have b0 : (0 : Int) ≤ ((x + 1 : Nat) : Int) ∧ ((x + 1 : Nat) : Int) < 9834 := by omega
  have c0 : WE ((x : Int) + 1) ((x + 1 : Nat) : Int) := by unfold WE w32; omega
  have s0 : ∀ {v : Int}, hSet (hM7 h am nm af ae vf tf) 77 (x + 1) (vI v) = hM7 h (upF am (x + 1) v) nm af ae vf tf := hM7_s (by omega)
  have r11 : hV (hM7 h am nm af ae vf tf) 77 11 = vI (am 11) := hM7_v (by decide)
  refine xpk_sound (stops := [44]) (n := 40) ?_
  simp only [sk_0, sk_1, sk_2, sk_3, sk_4, sk_5, sk_6, sk_7, sk_8, sk_iadd, sk_isub, sk_imul, sk_iand, sk_ior, sk_ixor, sk_ishl, sk_ishr, sk_iushr, sk_idiv, sk_irem, sk_ineg, sk_ladd, sk_lsub, sk_lmul, sk_land, sk_lor, sk_ldiv, sk_lrem, sk_lneg, sk_lshl, sk_lshr, sk_i2l, sk_l2i, sk_lcmp, sk_dupI, sk_dupR, sk_dup2L, sk_dup2I, sk_popI, sk_ifeq, sk_ifne, sk_iflt, sk_ifge, sk_ifgt, sk_ifle, sk_iceq, sk_icne, sk_iclt, sk_icge, sk_icgt, sk_icle, sk_goto, sk_getf, sk_putf, sk_gets, sk_iald, sk_lald, sk_bald, sk_aald, sk_iast, sk_last, sk_bast, sk_aast, sk_alen, sk_newa, sk_newt, sk_new, sk_cs1, sk_cs2, sk_cs3, sk_cs4, sk_cs5, sk_cs6, sk_cv1, sk_cv2, sk_cv3, sk_cv4, sk_cv5, sk_cv6, sk_ci1, sk_ci2, sk_ci3, sk_ret0, sk_retI, sk_retL, sk_retR, sk_sw, sk_oin, sk_max, sk_min, sk_abs, lI_0, lI_s, lL_0, lL_s, lR_0, lR_s, vIo_e, vLo_e, vOo_e, stW_I, stW_L, stW_R, stW_0, stW_z, okSt_0, okSt_s, hV_eq, hK_eq, okF_0, okF_1, okF_3, is01_0, is01_1, is01_i, Int.toNat_natCast, Int.reduceEq, Int.reduceLE, Int.reduceLT, Int.reduceNeg, Nat.reduceLT, not_true_eq_false, not_false_eq_true, reduceIte, Option.toList, List.cons_append, List.nil_append, List.set_cons_zero, List.set_cons_succ, List.not_mem_nil, List.mem_cons, if_false, if_true, ite_true, ite_false, and_self, and_true, true_and, Nat.reduceAdd, Nat.reduceLeDiff, Nat.reduceEqDiff, Nat.zero_add, Nat.le_refl, Nat.zero_le, or_false, false_or, Int.reduceToNat, or_true, true_or, eq_self, and_false, false_and, inR_d, nc_4, nc_5, nc_6, nc_7, nc_8, nc_16, nc_18, nc_20, nc_24, nc_32, nc_40, nc_64, nc_104, nc_120, nc_160, nc_256, nc_300, nc_330, nc_390, nc_1200, nc_1260, nc_3012, nc_9834, okSt_1i, okSt_1r, okSt_1n, List.length_cons, List.length_nil, xpk_succ cd_250_29, xpk_succ cd_250_30, xpk_succ cd_250_33, xpk_succ cd_250_34, xpk_succ cd_250_35, xpk_succ cd_250_36, xpk_succ cd_250_37, xpk_succ cd_250_40, xpk_succ cd_250_42, xpk_succ cd_250_43, hM7_k, k76, k77, q0, b0, s0, (WE_e c0), r11]
  exact y
set_option maxHeartbeats 2000000 in
theorem lp_2 {d : Nat} {h : AH} {am nm : Nat → Int} {af ae : Int} {vf tf : Nat → Int} (hk : PKM h) {c : Int} {x : Nat} (hx : 602 ≤ x ∧ x + 6 ≤ 9834) {PQ : Option AV → AH → Prop} (y : XP (d + 1) 250 59 [some (vR 76), some (vI c), some (vI (x : Int))] [] (hM7 h (upF am (x + 2) (am 9)) nm af ae vf tf) PQ) : XP (d + 1) 250 44 [some (vR 76), some (vI c), some (vI (x : Int))] [] (hM7 h am nm af ae vf tf) PQ := by
  have k76 := hk.1.2.1
  have k77 := hk.2.1
  have q0 : ∀ {am : Nat → Int}, hV (hM7 h am nm af ae vf tf) 76 0 = vR 77 := (hM7_n (by decide) (by decide) (Or.inr ⟨by decide, by decide⟩) (by decide) (by decide)).trans hk.2.2
  have b0 : (0 : Int) ≤ ((x + 2 : Nat) : Int) ∧ ((x + 2 : Nat) : Int) < 9834 := by omega
  have c0 : WE ((x : Int) + 2) ((x + 2 : Nat) : Int) := by unfold WE w32; omega
  have s0 : ∀ {v : Int}, hSet (hM7 h am nm af ae vf tf) 77 (x + 2) (vI v) = hM7 h (upF am (x + 2) v) nm af ae vf tf := hM7_s (by omega)
  have r9 : hV (hM7 h am nm af ae vf tf) 77 9 = vI (am 9) := hM7_v (by decide)
  refine xpk_sound (stops := [59]) (n := 40) ?_
  simp only [sk_0, sk_1, sk_2, sk_3, sk_4, sk_5, sk_6, sk_7, sk_8, sk_iadd, sk_isub, sk_imul, sk_iand, sk_ior, sk_ixor, sk_ishl, sk_ishr, sk_iushr, sk_idiv, sk_irem, sk_ineg, sk_ladd, sk_lsub, sk_lmul, sk_land, sk_lor, sk_ldiv, sk_lrem, sk_lneg, sk_lshl, sk_lshr, sk_i2l, sk_l2i, sk_lcmp, sk_dupI, sk_dupR, sk_dup2L, sk_dup2I, sk_popI, sk_ifeq, sk_ifne, sk_iflt, sk_ifge, sk_ifgt, sk_ifle, sk_iceq, sk_icne, sk_iclt, sk_icge, sk_icgt, sk_icle, sk_goto, sk_getf, sk_putf, sk_gets, sk_iald, sk_lald, sk_bald, sk_aald, sk_iast, sk_last, sk_bast, sk_aast, sk_alen, sk_newa, sk_newt, sk_new, sk_cs1, sk_cs2, sk_cs3, sk_cs4, sk_cs5, sk_cs6, sk_cv1, sk_cv2, sk_cv3, sk_cv4, sk_cv5, sk_cv6, sk_ci1, sk_ci2, sk_ci3, sk_ret0, sk_retI, sk_retL, sk_retR, sk_sw, sk_oin, sk_max, sk_min, sk_abs, lI_0, lI_s, lL_0, lL_s, lR_0, lR_s, vIo_e, vLo_e, vOo_e, stW_I, stW_L, stW_R, stW_0, stW_z, okSt_0, okSt_s, hV_eq, hK_eq, okF_0, okF_1, okF_3, is01_0, is01_1, is01_i, Int.toNat_natCast, Int.reduceEq, Int.reduceLE, Int.reduceLT, Int.reduceNeg, Nat.reduceLT, not_true_eq_false, not_false_eq_true, reduceIte, Option.toList, List.cons_append, List.nil_append, List.set_cons_zero, List.set_cons_succ, List.not_mem_nil, List.mem_cons, if_false, if_true, ite_true, ite_false, and_self, and_true, true_and, Nat.reduceAdd, Nat.reduceLeDiff, Nat.reduceEqDiff, Nat.zero_add, Nat.le_refl, Nat.zero_le, or_false, false_or, Int.reduceToNat, or_true, true_or, eq_self, and_false, false_and, inR_d, nc_4, nc_5, nc_6, nc_7, nc_8, nc_16, nc_18, nc_20, nc_24, nc_32, nc_40, nc_64, nc_104, nc_120, nc_160, nc_256, nc_300, nc_330, nc_390, nc_1200, nc_1260, nc_3012, nc_9834, okSt_1i, okSt_1r, okSt_1n, List.length_cons, List.length_nil, xpk_succ cd_250_44, xpk_succ cd_250_45, xpk_succ cd_250_48, xpk_succ cd_250_49, xpk_succ cd_250_50, xpk_succ cd_250_51, xpk_succ cd_250_52, xpk_succ cd_250_55, xpk_succ cd_250_57, xpk_succ cd_250_58, hM7_k, k76, k77, q0, b0, s0, (WE_e c0), r9]
  exact y
set_option maxHeartbeats 2000000 in
theorem lp_3 {d : Nat} {h : AH} {am nm : Nat → Int} {af ae : Int} {vf tf : Nat → Int} (hk : PKM h) {c : Int} {x : Nat} (hx : 602 ≤ x ∧ x + 6 ≤ 9834) {PQ : Option AV → AH → Prop} (y : XP (d + 1) 250 74 [some (vR 76), some (vI c), some (vI (x : Int))] [] (hM7 h (upF am (x + 3) (am 14)) nm af ae vf tf) PQ) : XP (d + 1) 250 59 [some (vR 76), some (vI c), some (vI (x : Int))] [] (hM7 h am nm af ae vf tf) PQ := by
  have k76 := hk.1.2.1
  have k77 := hk.2.1
  have q0 : ∀ {am : Nat → Int}, hV (hM7 h am nm af ae vf tf) 76 0 = vR 77 := (hM7_n (by decide) (by decide) (Or.inr ⟨by decide, by decide⟩) (by decide) (by decide)).trans hk.2.2
  have b0 : (0 : Int) ≤ ((x + 3 : Nat) : Int) ∧ ((x + 3 : Nat) : Int) < 9834 := by omega
  have c0 : WE ((x : Int) + 3) ((x + 3 : Nat) : Int) := by unfold WE w32; omega
  have s0 : ∀ {v : Int}, hSet (hM7 h am nm af ae vf tf) 77 (x + 3) (vI v) = hM7 h (upF am (x + 3) v) nm af ae vf tf := hM7_s (by omega)
  have r14 : hV (hM7 h am nm af ae vf tf) 77 14 = vI (am 14) := hM7_v (by decide)
  refine xpk_sound (stops := [74]) (n := 40) ?_
  simp only [sk_0, sk_1, sk_2, sk_3, sk_4, sk_5, sk_6, sk_7, sk_8, sk_iadd, sk_isub, sk_imul, sk_iand, sk_ior, sk_ixor, sk_ishl, sk_ishr, sk_iushr, sk_idiv, sk_irem, sk_ineg, sk_ladd, sk_lsub, sk_lmul, sk_land, sk_lor, sk_ldiv, sk_lrem, sk_lneg, sk_lshl, sk_lshr, sk_i2l, sk_l2i, sk_lcmp, sk_dupI, sk_dupR, sk_dup2L, sk_dup2I, sk_popI, sk_ifeq, sk_ifne, sk_iflt, sk_ifge, sk_ifgt, sk_ifle, sk_iceq, sk_icne, sk_iclt, sk_icge, sk_icgt, sk_icle, sk_goto, sk_getf, sk_putf, sk_gets, sk_iald, sk_lald, sk_bald, sk_aald, sk_iast, sk_last, sk_bast, sk_aast, sk_alen, sk_newa, sk_newt, sk_new, sk_cs1, sk_cs2, sk_cs3, sk_cs4, sk_cs5, sk_cs6, sk_cv1, sk_cv2, sk_cv3, sk_cv4, sk_cv5, sk_cv6, sk_ci1, sk_ci2, sk_ci3, sk_ret0, sk_retI, sk_retL, sk_retR, sk_sw, sk_oin, sk_max, sk_min, sk_abs, lI_0, lI_s, lL_0, lL_s, lR_0, lR_s, vIo_e, vLo_e, vOo_e, stW_I, stW_L, stW_R, stW_0, stW_z, okSt_0, okSt_s, hV_eq, hK_eq, okF_0, okF_1, okF_3, is01_0, is01_1, is01_i, Int.toNat_natCast, Int.reduceEq, Int.reduceLE, Int.reduceLT, Int.reduceNeg, Nat.reduceLT, not_true_eq_false, not_false_eq_true, reduceIte, Option.toList, List.cons_append, List.nil_append, List.set_cons_zero, List.set_cons_succ, List.not_mem_nil, List.mem_cons, if_false, if_true, ite_true, ite_false, and_self, and_true, true_and, Nat.reduceAdd, Nat.reduceLeDiff, Nat.reduceEqDiff, Nat.zero_add, Nat.le_refl, Nat.zero_le, or_false, false_or, Int.reduceToNat, or_true, true_or, eq_self, and_false, false_and, inR_d, nc_4, nc_5, nc_6, nc_7, nc_8, nc_16, nc_18, nc_20, nc_24, nc_32, nc_40, nc_64, nc_104, nc_120, nc_160, nc_256, nc_300, nc_330, nc_390, nc_1200, nc_1260, nc_3012, nc_9834, okSt_1i, okSt_1r, okSt_1n, List.length_cons, List.length_nil, xpk_succ cd_250_59, xpk_succ cd_250_60, xpk_succ cd_250_63, xpk_succ cd_250_64, xpk_succ cd_250_65, xpk_succ cd_250_66, xpk_succ cd_250_67, xpk_succ cd_250_70, xpk_succ cd_250_72, xpk_succ cd_250_73, hM7_k, k76, k77, q0, b0, s0, (WE_e c0), r14]
  exact y
set_option maxHeartbeats 2000000 in
theorem lp_4 {d : Nat} {h : AH} {am nm : Nat → Int} {af ae : Int} {vf tf : Nat → Int} (hk : PKM h) {c : Int} {x : Nat} (hx : 602 ≤ x ∧ x + 6 ≤ 9834) (w8 : WE (am 15 - am 8) (am 15 - am 8)) {PQ : Option AV → AH → Prop} (y : XP (d + 1) 250 97 [some (vR 76), some (vI c), some (vI (x : Int))] [] (hM7 h (upF am (x + 4) (am 15 - am 8)) nm af ae vf tf) PQ) : XP (d + 1) 250 74 [some (vR 76), some (vI c), some (vI (x : Int))] [] (hM7 h am nm af ae vf tf) PQ := by
  have k76 := hk.1.2.1
  have k77 := hk.2.1
  have q0 : ∀ {am : Nat → Int}, hV (hM7 h am nm af ae vf tf) 76 0 = vR 77 := (hM7_n (by decide) (by decide) (Or.inr ⟨by decide, by decide⟩) (by decide) (by decide)).trans hk.2.2
  have b0 : (0 : Int) ≤ ((x + 4 : Nat) : Int) ∧ ((x + 4 : Nat) : Int) < 9834 := by omega
  have c0 : WE ((x : Int) + 4) ((x + 4 : Nat) : Int) := by unfold WE w32; omega
  have s0 : ∀ {v : Int}, hSet (hM7 h am nm af ae vf tf) 77 (x + 4) (vI v) = hM7 h (upF am (x + 4) v) nm af ae vf tf := hM7_s (by omega)
  have r15 : hV (hM7 h am nm af ae vf tf) 77 15 = vI (am 15) := hM7_v (by decide)
  have r8 : hV (hM7 h am nm af ae vf tf) 77 8 = vI (am 8) := hM7_v (by decide)
  refine xpk_sound (stops := [97]) (n := 40) ?_
  simp only [sk_0, sk_1, sk_2, sk_3, sk_4, sk_5, sk_6, sk_7, sk_8, sk_iadd, sk_isub, sk_imul, sk_iand, sk_ior, sk_ixor, sk_ishl, sk_ishr, sk_iushr, sk_idiv, sk_irem, sk_ineg, sk_ladd, sk_lsub, sk_lmul, sk_land, sk_lor, sk_ldiv, sk_lrem, sk_lneg, sk_lshl, sk_lshr, sk_i2l, sk_l2i, sk_lcmp, sk_dupI, sk_dupR, sk_dup2L, sk_dup2I, sk_popI, sk_ifeq, sk_ifne, sk_iflt, sk_ifge, sk_ifgt, sk_ifle, sk_iceq, sk_icne, sk_iclt, sk_icge, sk_icgt, sk_icle, sk_goto, sk_getf, sk_putf, sk_gets, sk_iald, sk_lald, sk_bald, sk_aald, sk_iast, sk_last, sk_bast, sk_aast, sk_alen, sk_newa, sk_newt, sk_new, sk_cs1, sk_cs2, sk_cs3, sk_cs4, sk_cs5, sk_cs6, sk_cv1, sk_cv2, sk_cv3, sk_cv4, sk_cv5, sk_cv6, sk_ci1, sk_ci2, sk_ci3, sk_ret0, sk_retI, sk_retL, sk_retR, sk_sw, sk_oin, sk_max, sk_min, sk_abs, lI_0, lI_s, lL_0, lL_s, lR_0, lR_s, vIo_e, vLo_e, vOo_e, stW_I, stW_L, stW_R, stW_0, stW_z, okSt_0, okSt_s, hV_eq, hK_eq, okF_0, okF_1, okF_3, is01_0, is01_1, is01_i, Int.toNat_natCast, Int.reduceEq, Int.reduceLE, Int.reduceLT, Int.reduceNeg, Nat.reduceLT, not_true_eq_false, not_false_eq_true, reduceIte, Option.toList, List.cons_append, List.nil_append, List.set_cons_zero, List.set_cons_succ, List.not_mem_nil, List.mem_cons, if_false, if_true, ite_true, ite_false, and_self, and_true, true_and, Nat.reduceAdd, Nat.reduceLeDiff, Nat.reduceEqDiff, Nat.zero_add, Nat.le_refl, Nat.zero_le, or_false, false_or, Int.reduceToNat, or_true, true_or, eq_self, and_false, false_and, inR_d, nc_4, nc_5, nc_6, nc_7, nc_8, nc_16, nc_18, nc_20, nc_24, nc_32, nc_40, nc_64, nc_104, nc_120, nc_160, nc_256, nc_300, nc_330, nc_390, nc_1200, nc_1260, nc_3012, nc_9834, okSt_1i, okSt_1r, okSt_1n, List.length_cons, List.length_nil, xpk_succ cd_250_74, xpk_succ cd_250_75, xpk_succ cd_250_78, xpk_succ cd_250_79, xpk_succ cd_250_80, xpk_succ cd_250_81, xpk_succ cd_250_82, xpk_succ cd_250_85, xpk_succ cd_250_87, xpk_succ cd_250_88, xpk_succ cd_250_89, xpk_succ cd_250_92, xpk_succ cd_250_94, xpk_succ cd_250_95, xpk_succ cd_250_96, hM7_k, k76, k77, q0, b0, s0, (WE_e c0), r15, r8, (WE_e w8)]
  exact y
set_option maxHeartbeats 2000000 in
theorem lp_5 {d : Nat} {h : AH} {am nm : Nat → Int} {af ae : Int} {vf tf : Nat → Int} (hk : PKM h) {c : Int} {x : Nat} (hx : 602 ≤ x ∧ x + 6 ≤ 9834) : XP (d + 1) 250 97 [some (vR 76), some (vI c), some (vI (x : Int))] [] (hM7 h am nm af ae vf tf) (fun r1 h1 => r1 = none ∧ h1 = hM7 h (upF am (x + 5) c) nm af ae vf tf) := by
  have k76 := hk.1.2.1
  have k77 := hk.2.1
  have q0 : ∀ {am : Nat → Int}, hV (hM7 h am nm af ae vf tf) 76 0 = vR 77 := (hM7_n (by decide) (by decide) (Or.inr ⟨by decide, by decide⟩) (by decide) (by decide)).trans hk.2.2
  have b0 : (0 : Int) ≤ ((x + 5 : Nat) : Int) ∧ ((x + 5 : Nat) : Int) < 9834 := by omega
  have c0 : WE ((x : Int) + 5) ((x + 5 : Nat) : Int) := by unfold WE w32; omega
  have s0 : ∀ {v : Int}, hSet (hM7 h am nm af ae vf tf) 77 (x + 5) (vI v) = hM7 h (upF am (x + 5) v) nm af ae vf tf := hM7_s (by omega)
  refine xpk_sound (stops := []) (n := 40) ?_
  simp only [sk_0, sk_1, sk_2, sk_3, sk_4, sk_5, sk_6, sk_7, sk_8, sk_iadd, sk_isub, sk_imul, sk_iand, sk_ior, sk_ixor, sk_ishl, sk_ishr, sk_iushr, sk_idiv, sk_irem, sk_ineg, sk_ladd, sk_lsub, sk_lmul, sk_land, sk_lor, sk_ldiv, sk_lrem, sk_lneg, sk_lshl, sk_lshr, sk_i2l, sk_l2i, sk_lcmp, sk_dupI, sk_dupR, sk_dup2L, sk_dup2I, sk_popI, sk_ifeq, sk_ifne, sk_iflt, sk_ifge, sk_ifgt, sk_ifle, sk_iceq, sk_icne, sk_iclt, sk_icge, sk_icgt, sk_icle, sk_goto, sk_getf, sk_putf, sk_gets, sk_iald, sk_lald, sk_bald, sk_aald, sk_iast, sk_last, sk_bast, sk_aast, sk_alen, sk_newa, sk_newt, sk_new, sk_cs1, sk_cs2, sk_cs3, sk_cs4, sk_cs5, sk_cs6, sk_cv1, sk_cv2, sk_cv3, sk_cv4, sk_cv5, sk_cv6, sk_ci1, sk_ci2, sk_ci3, sk_ret0, sk_retI, sk_retL, sk_retR, sk_sw, sk_oin, sk_max, sk_min, sk_abs, lI_0, lI_s, lL_0, lL_s, lR_0, lR_s, vIo_e, vLo_e, vOo_e, stW_I, stW_L, stW_R, stW_0, stW_z, okSt_0, okSt_s, hV_eq, hK_eq, okF_0, okF_1, okF_3, is01_0, is01_1, is01_i, Int.toNat_natCast, Int.reduceEq, Int.reduceLE, Int.reduceLT, Int.reduceNeg, Nat.reduceLT, not_true_eq_false, not_false_eq_true, reduceIte, Option.toList, List.cons_append, List.nil_append, List.set_cons_zero, List.set_cons_succ, List.not_mem_nil, List.mem_cons, if_false, if_true, ite_true, ite_false, and_self, and_true, true_and, Nat.reduceAdd, Nat.reduceLeDiff, Nat.reduceEqDiff, Nat.zero_add, Nat.le_refl, Nat.zero_le, or_false, false_or, Int.reduceToNat, or_true, true_or, eq_self, and_false, false_and, inR_d, nc_4, nc_5, nc_6, nc_7, nc_8, nc_16, nc_18, nc_20, nc_24, nc_32, nc_40, nc_64, nc_104, nc_120, nc_160, nc_256, nc_300, nc_330, nc_390, nc_1200, nc_1260, nc_3012, nc_9834, okSt_1i, okSt_1r, okSt_1n, List.length_cons, List.length_nil, xpk_succ cd_250_97, xpk_succ cd_250_98, xpk_succ cd_250_101, xpk_succ cd_250_102, xpk_succ cd_250_103, xpk_succ cd_250_104, xpk_succ cd_250_105, xpk_succ cd_250_106, hM7_k, k76, k77, q0, b0, s0, (WE_e c0)]
theorem lp_u {am : Nat → Int} {x i : Nat} {v : Int} (hx : 602 ≤ x) (hi : i < 602) : upF am x v i = am i := upF_ne (by omega)
set_option maxHeartbeats 2000000 in
theorem E_lp {d : Nat} {h : AH} {am nm : Nat → Int} {af ae : Int} {vf tf : Nat → Int} (hk : PKM h) {f : Nat → Int} (ha : AMf am f) (hf : HKr f) {t : Nat} (h9 : f 9 = (t : Int)) {c : Int} (Q : Option AV → AH → Prop) : XC (d + 2) 250 [vR 76, vI c] (hM7 h am nm af ae vf tf) Q = Q none (hM7 h (lpF am (602 + 6 * (t % 1536)) c) nm af ae vf tf) := by
  refine XC_eq (Nat.le_of_ble_eq_true rfl) ?_ Q
  show XP (d + 1) 250 0 [some (vR 76), some (vI c), none] [] (hM7 h am nm af ae vf tf) _
  have h16 : am 16 = (t : Int) := (ha.1 9 (by decide) (by decide)).trans h9
  obtain ⟨m, hm⟩ : ∃ m, t % 1536 = m := ⟨_, rfl⟩
  have hm2 : m < 1536 := by omega
  rw [hm]
  obtain ⟨x, hx⟩ : ∃ x, 602 + 6 * m = x := ⟨_, rfl⟩
  have hx2 : 602 ≤ x ∧ x + 6 ≤ 9834 := by omega
  have tm : Int.tmod (t : Int) 1536 = (m : Int) := by rw [Int.tmod_eq_emod_of_nonneg (by omega)]; omega
  have w1 : WE (6 * (m : Int)) ((6 * m : Nat) : Int) := by unfold WE w32; omega
  have w2 : WE (602 + ((6 * m : Nat) : Int)) (x : Int) := by unfold WE w32; omega
  have e1 : am 8 = f 1 := ha.1 1 (by decide) (by decide)
  have e3 : am 10 = f 3 := ha.1 3 (by decide) (by decide)
  have e8 : am 15 = f 8 := ha.1 8 (by decide) (by decide)
  have w8 : WE (f 8 - f 1) (f 8 - f 1) := by
    obtain ⟨a1, _, _, _, _, _, _, a8, _⟩ := hf
    unfold WE w32; omega
  rw [hx]
  have k76 := hk.1.2.1
  have k77 := hk.2.1
  have q0 : ∀ {am : Nat → Int}, hV (hM7 h am nm af ae vf tf) 76 0 = vR 77 := (hM7_n (by decide) (by decide) (Or.inr ⟨by decide, by decide⟩) (by decide) (by decide)).trans hk.2.2
  have q16 : hV (hM7 h am nm af ae vf tf) 77 16 = vI (t : Int) := (hM7_v (by decide)).trans (congrArg vI h16)
  have ea : ∀ Q : Option AV → AH → Prop, XC (d + 1) 243 [vR 76] (hM7 h am nm af ae vf tf) Q = Q (some (vI (am 8 - am 10))) (hM7 h am nm af ae vf tf) := fun Q => by
    rw [e1, e3]
    exact E_awG hk ha hf Q
  unfold lpF
  have z5 := lp_5 (d := d) (h := h) (am := upF (upF (upF (upF (upF am x (am 8 - am 10)) (x + 1) (am 11)) (x + 2) (am 9)) (x + 3) (am 14)) (x + 4) (am 15 - am 8)) (nm := nm) (af := af) (ae := ae) (vf := vf) (tf := tf) hk (c := c) hx2
  have u4 : ∀ i, i < 602 → (upF (upF (upF (upF am x (am 8 - am 10)) (x + 1) (am 11)) (x + 2) (am 9)) (x + 3) (am 14)) i = am i := fun i hi => by rw [lp_u (by omega) hi, lp_u (by omega) hi, lp_u (by omega) hi, lp_u (by omega) hi]
  have z4 := lp_4 (d := d) (h := h) (am := upF (upF (upF (upF am x (am 8 - am 10)) (x + 1) (am 11)) (x + 2) (am 9)) (x + 3) (am 14)) (nm := nm) (af := af) (ae := ae) (vf := vf) (tf := tf) hk (c := c) hx2 (by rw [u4 15 (by decide), u4 8 (by decide), e8, e1]; exact w8) (PQ := fun r1 h1 => r1 = none ∧ h1 = hM7 h (upF (upF (upF (upF (upF (upF am x (am 8 - am 10)) (x + 1) (am 11)) (x + 2) (am 9)) (x + 3) (am 14)) (x + 4) (am 15 - am 8)) (x + 5) c) nm af ae vf tf) (by rw [u4 15 (by decide), u4 8 (by decide)]; exact z5)
  have z3 := lp_3 (d := d) (h := h) (am := upF (upF (upF am x (am 8 - am 10)) (x + 1) (am 11)) (x + 2) (am 9)) (nm := nm) (af := af) (ae := ae) (vf := vf) (tf := tf) hk (c := c) hx2 (PQ := fun r1 h1 => r1 = none ∧ h1 = hM7 h (upF (upF (upF (upF (upF (upF am x (am 8 - am 10)) (x + 1) (am 11)) (x + 2) (am 9)) (x + 3) (am 14)) (x + 4) (am 15 - am 8)) (x + 5) c) nm af ae vf tf) (by rw [lp_u (show 602 ≤ x + 2 by omega) (show 14 < 602 by decide), lp_u (show 602 ≤ x + 1 by omega) (show 14 < 602 by decide), lp_u hx2.1 (show 14 < 602 by decide)]; exact z4)
  have z2 := lp_2 (d := d) (h := h) (am := upF (upF am x (am 8 - am 10)) (x + 1) (am 11)) (nm := nm) (af := af) (ae := ae) (vf := vf) (tf := tf) hk (c := c) hx2 (PQ := fun r1 h1 => r1 = none ∧ h1 = hM7 h (upF (upF (upF (upF (upF (upF am x (am 8 - am 10)) (x + 1) (am 11)) (x + 2) (am 9)) (x + 3) (am 14)) (x + 4) (am 15 - am 8)) (x + 5) c) nm af ae vf tf) (by rw [lp_u (show 602 ≤ x + 1 by omega) (show 9 < 602 by decide), lp_u hx2.1 (show 9 < 602 by decide)]; exact z3)
  have z1 := lp_1 (d := d) (h := h) (am := upF am x (am 8 - am 10)) (nm := nm) (af := af) (ae := ae) (vf := vf) (tf := tf) hk (c := c) hx2 (PQ := fun r1 h1 => r1 = none ∧ h1 = hM7 h (upF (upF (upF (upF (upF (upF am x (am 8 - am 10)) (x + 1) (am 11)) (x + 2) (am 9)) (x + 3) (am 14)) (x + 4) (am 15 - am 8)) (x + 5) c) nm af ae vf tf) (by rw [lp_u hx2.1 (show 11 < 602 by decide)]; exact z2)
  have z0 := lp_0 (d := d) (h := h) (am := am) (nm := nm) (af := af) (ae := ae) (vf := vf) (tf := tf) hk (c := c) hx2 ea z1
  refine xpk_sound (stops := [19]) (n := 30) ?_
  simp only [sk_0, sk_1, sk_2, sk_3, sk_4, sk_5, sk_6, sk_7, sk_8, sk_iadd, sk_isub, sk_imul, sk_iand, sk_ior, sk_ixor, sk_ishl, sk_ishr, sk_iushr, sk_idiv, sk_irem, sk_ineg, sk_ladd, sk_lsub, sk_lmul, sk_land, sk_lor, sk_ldiv, sk_lrem, sk_lneg, sk_lshl, sk_lshr, sk_i2l, sk_l2i, sk_lcmp, sk_dupI, sk_dupR, sk_dup2L, sk_dup2I, sk_popI, sk_ifeq, sk_ifne, sk_iflt, sk_ifge, sk_ifgt, sk_ifle, sk_iceq, sk_icne, sk_iclt, sk_icge, sk_icgt, sk_icle, sk_goto, sk_getf, sk_putf, sk_gets, sk_iald, sk_lald, sk_bald, sk_aald, sk_iast, sk_last, sk_bast, sk_aast, sk_alen, sk_newa, sk_newt, sk_new, sk_cs1, sk_cs2, sk_cs3, sk_cs4, sk_cs5, sk_cs6, sk_cv1, sk_cv2, sk_cv3, sk_cv4, sk_cv5, sk_cv6, sk_ci1, sk_ci2, sk_ci3, sk_ret0, sk_retI, sk_retL, sk_retR, sk_sw, sk_oin, sk_max, sk_min, sk_abs, lI_0, lI_s, lL_0, lL_s, lR_0, lR_s, vIo_e, vLo_e, vOo_e, stW_I, stW_L, stW_R, stW_0, stW_z, okSt_0, okSt_s, hV_eq, hK_eq, okF_0, okF_1, okF_3, is01_0, is01_1, is01_i, Int.toNat_natCast, Int.reduceEq, Int.reduceLE, Int.reduceLT, Int.reduceNeg, Nat.reduceLT, not_true_eq_false, not_false_eq_true, reduceIte, Option.toList, List.cons_append, List.nil_append, List.set_cons_zero, List.set_cons_succ, List.not_mem_nil, List.mem_cons, if_false, if_true, ite_true, ite_false, and_self, and_true, true_and, Nat.reduceAdd, Nat.reduceLeDiff, Nat.reduceEqDiff, Nat.zero_add, Nat.le_refl, Nat.zero_le, or_false, false_or, Int.reduceToNat, or_true, true_or, eq_self, and_false, false_and, inR_d, nc_4, nc_5, nc_6, nc_7, nc_8, nc_16, nc_18, nc_20, nc_24, nc_32, nc_40, nc_64, nc_104, nc_120, nc_160, nc_256, nc_300, nc_330, nc_390, nc_1200, nc_1260, nc_3012, nc_9834, okSt_1i, okSt_1r, okSt_1n, List.length_cons, List.length_nil, xpk_succ cd_250_0, xpk_succ cd_250_3, xpk_succ cd_250_5, xpk_succ cd_250_6, xpk_succ cd_250_9, xpk_succ cd_250_11, xpk_succ cd_250_12, xpk_succ cd_250_15, xpk_succ cd_250_16, xpk_succ cd_250_17, xpk_succ cd_250_18, hM7_k, k76, k77, q0, q16, tm, (WE_e w1), (WE_e w2), hx]
  exact z0
