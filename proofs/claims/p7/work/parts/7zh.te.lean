/-! a tenth of the reference, the whole -/
theorem mod_k {t k sz : Nat} (h1 : 1 ≤ k) (h2 : k < sz) (h3 : k ≤ t) : (t - k) % sz ≠ t % sz := by
  intro e
  have q := Nat.sub_mod_eq_zero_of_mod_eq e.symm
  rw [show t - (t - k) = k by omega, Nat.mod_eq_of_lt h2] at q
  omega
theorem PRW_lp {am rw_ : Nat → Int} {sz t el x : Nat} {c z : Int} (hr : PRW am rw_ sz t el) (hz : 10 ≤ sz) (hx : 602 + 6 * (t % 1536) = x) : PRW (lpF am x c) (upF rw_ (t % sz) z) sz t el := by
  intro k w k1 k9 hw hk
  have h1 : (t - k) % 1536 ≠ t % 1536 := mod_k k1 (by omega) (by omega)
  rw [upF_ne (mod_k k1 (by omega) (by omega)), ← hr k w k1 k9 hw hk]
  unfold lpF
  rw [upF_ne (by omega), upF_ne (by omega), upF_ne (by omega), upF_ne (by omega), upF_ne (by omega), upF_ne (by omega)]
theorem PRW_o {am am' rw_ : Nat → Int} {sz t el : Nat} (hr : PRW am rw_ sz t el) (ho : ∀ i, 602 ≤ i → am' i = am i) : PRW am' rw_ sz t el := fun k w k1 k9 hw hk => (ho _ (by omega)).trans (hr k w k1 k9 hw hk)
theorem lpF_v {am f : Nat → Int} (ha : AMf am f) {x : Nat} {c : Int} (hx : 602 ≤ x) : ∀ w, w < 6 → lpF am x c (x + w) = (if w = 0 then f 1 - f 3 else if w = 1 then f 4 else if w = 2 then f 2 else if w = 3 then f 7 else if w = 4 then f 8 - f 1 else c) := by
  have e1 : am 8 = f 1 := ha.1 1 (by decide) (by decide)
  have e2 : am 9 = f 2 := ha.1 2 (by decide) (by decide)
  have e3 : am 10 = f 3 := ha.1 3 (by decide) (by decide)
  have e4 : am 11 = f 4 := ha.1 4 (by decide) (by decide)
  have e7 : am 14 = f 7 := ha.1 7 (by decide) (by decide)
  have e8 : am 15 = f 8 := ha.1 8 (by decide) (by decide)
  intro w hw
  unfold lpF
  rw [e1, e2, e3, e4, e7, e8]
  have ho : w = 0 ∨ w = 1 ∨ w = 2 ∨ w = 3 ∨ w = 4 ∨ w = 5 := by omega
  rcases ho with rfl | rfl | rfl | rfl | rfl | rfl
  · rw [upF_ne (by omega), upF_ne (by omega), upF_ne (by omega), upF_ne (by omega), upF_ne (by omega)]; exact upF_at
  · rw [upF_ne (by omega), upF_ne (by omega), upF_ne (by omega), upF_ne (by omega), upF_at]; rfl
  · rw [upF_ne (by omega), upF_ne (by omega), upF_ne (by omega), upF_at]; rfl
  · rw [upF_ne (by omega), upF_ne (by omega), upF_at]; rfl
  · rw [upF_ne (by omega), upF_at]; rfl
  · rw [upF_at]; rfl
/-- behind a tenth -/
def PSq (h : AH) (am f' : Nat → Int) (x : Nat) (z : Int) (r : Option AV) (g : AH) : Prop := r = none ∧ ∃ (am' nm' : Nat → Int) (af' ae' : Int) (vf' tf' : Nat → Int), g = hM7 h am' nm' af' ae' vf' tf' ∧ AMf am' f' ∧ (∀ w, w < 6 → am' (x + w) = prW z w) ∧ ∀ i, i ≠ 2 → ¬ (8 ≤ i ∧ i ≤ 16) → ¬ (x ≤ i ∧ i < x + 6) → am' i = am i
set_option maxHeartbeats 4000000 in
theorem E_pas {d : Nat} {h : AH} {am nm : Nat → Int} {af ae : Int} {vf tf : Nat → Int} (hk : PKM h) {J : Int} {cs : List cCl} (hJ : LWM h J cs) (h4 : am 4 = J) {f rw_ nmC1 nmC2 : Nat → Int} (ha : AMf am f) (hf : HKs f) {tn0 sz : Nat} (h9 : f 9 = (tn0 : Int)) (hc : hV h 76 25 = vI (f 14)) {c q s : Int} (c0 : -1 ≤ c ∧ c ≤ 1) (q0 : 0 ≤ q ∧ q ≤ 9) (bs : -99 ≤ s ∧ s ≤ 99) (hz : 10 ≤ sz) (hr : PRW am rw_ sz tn0 (elF (f 9)).toNat) (hn1 : ∀ i, rngV (nmC1 i)) (hn2 : ∀ i, rngV (nmC2 i)) (hq : LVC cs 0 (eV (lkN f nmC1) (upF rw_ (tn0 % sz) (pkZ f c)) sz tn0 (elF (f 9)).toNat) 3 0 9 q) (hs : LVC cs 1 (eV (lkN (rlF (upF f 2 (bdF (f 2 + c) (-q) q))) nmC2) (upF rw_ (tn0 % sz) (pkZ f c)) sz tn0 (elF (f 9)).toNat) (bdF (Int.tdiv ((rlF (upF f 2 (bdF (f 2 + c) (-q) q))) 1 - (rlF (upF f 2 (bdF (f 2 + c) (-q) q))) 3) ((rlF (upF f 2 (bdF (f 2 + c) (-q) q))) 5)) (-99) 99) (-99) 99 s) : XC (d + 6) 251 [vR 76, vI c] (hM7 h am nm af ae vf tf) (PSq h am (tnF f q s c) (602 + 6 * (tn0 % 1536)) (pkZ f c)) := by
  refine XC_of (Nat.le_of_ble_eq_true rfl) ?_
  show XP (d + 5) 251 0 [some (vR 76), some (vI c), none] [] (hM7 h am nm af ae vf tf) _
  obtain ⟨g, hg⟩ : ∃ g, (rlF (upF f 2 (bdF (f 2 + c) (-q) q))) = g := ⟨_, rfl⟩
  have hf2 : HKr g := hg ▸ HKr_1 hf.1 q0.1 q0.2
  have go : ∀ i, i ≠ 1 → i ≠ 2 → g i = f i := fun i h1 h2 => by rw [← hg]; exact ((rlF_v _).2.2 i h1 h2).trans (upF_ne h2)
  have hg9 : g 9 = f 9 := go 9 (by decide) (by decide)
  have ht : tn0 ≤ 20000 := by have := hf.2.2; omega
  obtain ⟨x, hx⟩ : ∃ x, (602 + 6 * (tn0 % 1536)) = x := ⟨_, rfl⟩
  have hx2 : 602 ≤ x ∧ x + 6 ≤ 9818 := by omega
  have ha1 : AMf (lpF am x c) f := AMf_lp ha (by omega)
  have hr1 : PRW (lpF am x c) (upF rw_ (tn0 % sz) (pkZ f c)) sz tn0 (elF (f 9)).toNat := PRW_lp hr hz hx
  rw [hg] at hs
  rw [hx]
  refine E_ps1 (d := d) hk hJ h4 ha hf.1 h9 (e := eV (lkN f nmC1) (upF rw_ (tn0 % sz) (pkZ f c)) sz tn0 (elF (f 9)).toNat) (fun nm0 => by rw [hx]; exact ENM_G hk h9 ht hr1 (by decide)) (eV_k (lkN_r hf.1 (fun i _ => hn1 i))) hq (fun nm1 vf1 tf1 => ?_)
  rw [hx]
  refine E_ps2 (d := d) hk ha1 hf.1 c0 q0 (fun am2 ha2 o2 => ?_)
  rw [hg] at ha2
  have h42 : am2 4 = J := by
    rw [o2 4 (by decide) (by decide)]
    unfold lpF
    rw [upF_ne (by omega), upF_ne (by omega), upF_ne (by omega), upF_ne (by omega), upF_ne (by omega), upF_ne (by omega)]
    exact h4
  have hr2 : PRW am2 (upF rw_ (tn0 % sz) (pkZ f c)) sz tn0 (elF (g 9)).toNat := by rw [hg9]; exact PRW_o hr1 (fun i hi => o2 i (by omega) (by omega))
  refine E_ps3 (d := d) hk hJ h42 ha2 hf2 (e := eV (lkN g nmC2) (upF rw_ (tn0 % sz) (pkZ f c)) sz tn0 (elF (f 9)).toNat) (fun nm0 => by have q := ENM_G (d := d) hk (nm0 := nm0) (nm := nmC2) (hg9.trans h9) ht hr2 (show (1 : Int) ≤ 2 by decide); rw [hg9] at q ⊢; exact q) (eV_k (lkN_r hf2 (fun i _ => hn2 i))) hs bs (fun nm2 vf2 tf2 => ?_)
  obtain ⟨sp, hsp⟩ : ∃ sp, bdF (g 4 + s) (-99) 99 = sp := ⟨_, rfl⟩
  have bsp := bdF_r (v := g 4 + s) (show (-99 : Int) ≤ 99 by decide)
  rw [hsp] at bsp ⊢
  have ha3 : AMf (upF am2 11 sp) (upF g 4 sp) := AMf_u ha2 (i := 4) (by decide) (by decide)
  have u : ∀ i, i ≠ 4 → upF g 4 sp i = g i := fun i hi => upF_ne hi
  have u4 : upF g 4 sp 4 = sp := upF_at
  obtain ⟨am3, h3, o3, x3⟩ := E_ps4 (d := d) (nm := nm2) (af := g 9) (ae := elF (g 9)) (vf := vf2) (tf := tf2) (c := c) (q := q) hk ha3 (by rw [u 3 (by decide)]; exact hf2.2.2.1) (by rw [u4]; exact bsp) (by rw [u 7 (by decide)]; exact hf2.2.2.2.2.2.2.1) (by rw [u 9 (by decide), hg9]; exact ⟨hf.1.2.2.2.2.2.2.2.2.1, hf.2.2⟩) (by rw [u 10 (by decide), go 10 (by decide) (by decide)]; exact hf.2.1) (by rw [u 14 (by decide), go 14 (by decide) (by decide)]; exact hc)
  rw [u 3 (by decide), u4, u 9 (by decide), hg9] at h3
  have et : tnF f q s c = upF (blF (upF (upF g 4 sp) 3 (bdF (g 3 + sp) (-9999) 9999))) 9 (f 9 + 1) := by unfold tnF; rw [hg, hsp]
  have oo : ∀ i, i ≠ 2 → ¬ (8 ≤ i ∧ i ≤ 16) → am3 i = lpF am x c i := fun i i2 i8 => by
    rw [o3 i i2 (by omega) (by omega) (by omega), upF_ne (by omega)]
    exact o2 i (by omega) (by omega)
  have pz := pkZ_r hf.1 (c := c) c0.1 (by omega)
  refine XP_mono x3 (fun r1 g1 hq1 => ⟨hq1.1, am3, nm2, g 9, elF (g 9), vf2, tf2, hq1.2, by rw [et]; exact h3, fun w hw => ?_, fun i i2 i8 ix => ?_⟩)
  · rw [oo (x + w) (by omega) (by omega), lpF_v ha hx2.1 w hw]
    have ho : w = 0 ∨ w = 1 ∨ w = 2 ∨ w = 3 ∨ w = 4 ∨ w = 5 := by omega
    rcases ho with rfl | rfl | rfl | rfl | rfl | rfl
    · exact pz.1.symm
    · exact pz.2.1.symm
    · exact pz.2.2.1.symm
    · exact pz.2.2.2.1.symm
    · exact pz.2.2.2.2.1.symm
    · exact pz.2.2.2.2.2.symm
  · rw [oo i i2 i8]
    unfold lpF
    rw [upF_ne (by omega), upF_ne (by omega), upF_ne (by omega), upF_ne (by omega), upF_ne (by omega), upF_ne (by omega)]
