/-! the class looks around -/
def hW (h : AH) (nm : Nat → Int) (kc : Nat) (tn el : Int) : AH := (h.1, h.2.1, h.2.2.1, fun k j => if k = 59 ∧ j < 8 then vI (nm j) else if k = 58 ∧ j = 4 then vR kc else if k = 58 ∧ j = 5 then vI tn else if k = 58 ∧ j = 6 then vI el else h.2.2.2 k j)
theorem hK_W {h : AH} {nm : Nat → Int} {kc : Nat} {tn el : Int} : hK (hW h nm kc tn el) = hK h := rfl
theorem hW_m {h : AH} {nm : Nat → Int} {kc : Nat} {tn el : Int} {i : Nat} (hi : i < 8) : hV (hW h nm kc tn el) 59 i = vI (nm i) := (show ∀ k, k = 59 → hV (hW h nm kc tn el) k i = vI (nm i) from fun k hk => if_pos ⟨hk, hi⟩) 59 rfl
theorem hW_4 {h : AH} {nm : Nat → Int} {kc : Nat} {tn el : Int} : hV (hW h nm kc tn el) 58 4 = vR kc := (show ∀ k j, k = 58 → j = 4 → hV (hW h nm kc tn el) k j = vR kc from fun k j hk hj => by
  show (if k = 59 ∧ j < 8 then vI (nm j) else if k = 58 ∧ j = 4 then vR kc else _) = _
  rw [if_neg (by omega), if_pos ⟨hk, hj⟩]) 58 4 rfl rfl
theorem hW_5 {h : AH} {nm : Nat → Int} {kc : Nat} {tn el : Int} : hV (hW h nm kc tn el) 58 5 = vI tn := (show ∀ k j, k = 58 → j = 5 → hV (hW h nm kc tn el) k j = vI tn from fun k j hk hj => by
  show (if k = 59 ∧ j < 8 then vI (nm j) else if k = 58 ∧ j = 4 then vR kc else if k = 58 ∧ j = 5 then vI tn else _) = _
  rw [if_neg (by omega), if_neg (by omega), if_pos ⟨hk, hj⟩]) 58 5 rfl rfl
theorem hW_6 {h : AH} {nm : Nat → Int} {kc : Nat} {tn el : Int} : hV (hW h nm kc tn el) 58 6 = vI el := (show ∀ k j, k = 58 → j = 6 → hV (hW h nm kc tn el) k j = vI el from fun k j hk hj => by
  show (if k = 59 ∧ j < 8 then vI (nm j) else if k = 58 ∧ j = 4 then vR kc else if k = 58 ∧ j = 5 then vI tn else if k = 58 ∧ j = 6 then vI el else _) = _
  rw [if_neg (by omega), if_neg (by omega), if_neg (by omega), if_pos ⟨hk, hj⟩]) 58 6 rfl rfl
theorem hW_n {h : AH} {nm : Nat → Int} {kc : Nat} {tn el : Int} {k i : Nat} (h1 : k ≠ 59) (h2 : k ≠ 58 ∨ (i ≠ 4 ∧ i ≠ 5 ∧ i ≠ 6)) : hV (hW h nm kc tn el) k i = hV h k i := by
  show (if k = 59 ∧ i < 8 then vI (nm i) else if k = 58 ∧ i = 4 then vR kc else if k = 58 ∧ i = 5 then vI tn else if k = 58 ∧ i = 6 then vI el else h.2.2.2 k i) = _
  rw [if_neg (by omega), if_neg (by omega), if_neg (by omega), if_neg (by omega)]
  rfl
theorem hW_sm {h : AH} {nm : Nat → Int} {kc : Nat} {tn el : Int} {i : Nat} {x : Int} (hi : i < 8) : hSet (hW h nm kc tn el) 59 i (vI x) = hW h (upF nm i x) kc tn el := by
  refine Prod.ext rfl (Prod.ext rfl (Prod.ext rfl ?_))
  funext k j
  show (if k = 59 ∧ j = i then vI x else if k = 59 ∧ j < 8 then vI (nm j) else if k = 58 ∧ j = 4 then vR kc else if k = 58 ∧ j = 5 then vI tn else if k = 58 ∧ j = 6 then vI el else h.2.2.2 k j) = (if k = 59 ∧ j < 8 then vI (upF nm i x j) else if k = 58 ∧ j = 4 then vR kc else if k = 58 ∧ j = 5 then vI tn else if k = 58 ∧ j = 6 then vI el else h.2.2.2 k j)
  by_cases z : k = 59 ∧ j = i
  · rw [if_pos z, if_pos ⟨z.1, by omega⟩, z.2, upF_at]
  · rw [if_neg z]
    by_cases y : k = 59 ∧ j < 8
    · rw [if_pos y, if_pos y, upF_ne (fun q => z ⟨y.1, q⟩)]
    · rw [if_neg y, if_neg y]
theorem hW_s4 {h : AH} {nm : Nat → Int} {kc : Nat} {tn el : Int} {x : Nat} : hSet (hW h nm kc tn el) 58 4 (vR x) = hW h nm x tn el := by
  refine Prod.ext rfl (Prod.ext rfl (Prod.ext rfl ?_))
  funext k j
  show (if k = 58 ∧ j = 4 then vR x else if k = 59 ∧ j < 8 then vI (nm j) else if k = 58 ∧ j = 4 then vR kc else if k = 58 ∧ j = 5 then vI tn else if k = 58 ∧ j = 6 then vI el else h.2.2.2 k j) = (if k = 59 ∧ j < 8 then vI (nm j) else if k = 58 ∧ j = 4 then vR x else if k = 58 ∧ j = 5 then vI tn else if k = 58 ∧ j = 6 then vI el else h.2.2.2 k j)
  by_cases z : k = 58 ∧ j = 4
  · rw [if_pos z, if_neg (by omega), if_pos z]
  · rw [if_neg z]
    by_cases y1 : k = 59 ∧ j < 8
    · rw [if_pos y1, if_pos y1]
    rw [if_neg y1, if_neg y1]
    by_cases y4 : k = 58 ∧ j = 4
    · exact absurd y4 z
    rw [if_neg y4, if_neg y4]
theorem hW_s5 {h : AH} {nm : Nat → Int} {kc : Nat} {tn el : Int} {x : Int} : hSet (hW h nm kc tn el) 58 5 (vI x) = hW h nm kc x el := by
  refine Prod.ext rfl (Prod.ext rfl (Prod.ext rfl ?_))
  funext k j
  show (if k = 58 ∧ j = 5 then vI x else if k = 59 ∧ j < 8 then vI (nm j) else if k = 58 ∧ j = 4 then vR kc else if k = 58 ∧ j = 5 then vI tn else if k = 58 ∧ j = 6 then vI el else h.2.2.2 k j) = (if k = 59 ∧ j < 8 then vI (nm j) else if k = 58 ∧ j = 4 then vR kc else if k = 58 ∧ j = 5 then vI x else if k = 58 ∧ j = 6 then vI el else h.2.2.2 k j)
  by_cases z : k = 58 ∧ j = 5
  · rw [if_pos z, if_neg (by omega), if_neg (by omega), if_pos z]
  · rw [if_neg z]
    by_cases y1 : k = 59 ∧ j < 8
    · rw [if_pos y1, if_pos y1]
    rw [if_neg y1, if_neg y1]
    by_cases y4 : k = 58 ∧ j = 4
    · rw [if_pos y4, if_pos y4]
    rw [if_neg y4, if_neg y4]
    by_cases y5 : k = 58 ∧ j = 5
    · exact absurd y5 z
    rw [if_neg y5, if_neg y5]
theorem hW_s6 {h : AH} {nm : Nat → Int} {kc : Nat} {tn el : Int} {x : Int} : hSet (hW h nm kc tn el) 58 6 (vI x) = hW h nm kc tn x := by
  refine Prod.ext rfl (Prod.ext rfl (Prod.ext rfl ?_))
  funext k j
  show (if k = 58 ∧ j = 6 then vI x else if k = 59 ∧ j < 8 then vI (nm j) else if k = 58 ∧ j = 4 then vR kc else if k = 58 ∧ j = 5 then vI tn else if k = 58 ∧ j = 6 then vI el else h.2.2.2 k j) = (if k = 59 ∧ j < 8 then vI (nm j) else if k = 58 ∧ j = 4 then vR kc else if k = 58 ∧ j = 5 then vI tn else if k = 58 ∧ j = 6 then vI x else h.2.2.2 k j)
  by_cases z : k = 58 ∧ j = 6
  · rw [if_pos z, if_neg (by omega), if_neg (by omega), if_neg (by omega), if_pos z]
  · rw [if_neg z]
    by_cases y1 : k = 59 ∧ j < 8
    · rw [if_pos y1, if_pos y1]
    rw [if_neg y1, if_neg y1]
    by_cases y4 : k = 58 ∧ j = 4
    · rw [if_pos y4, if_pos y4]
    rw [if_neg y4, if_neg y4]
    by_cases y5 : k = 58 ∧ j = 5
    · rw [if_pos y5, if_pos y5]
    rw [if_neg y5, if_neg y5]
    by_cases y6 : k = 58 ∧ j = 6
    · exact absurd y6 z
    rw [if_neg y6, if_neg y6]
theorem hL_so {h : AH} {sf : Nat → Int} {k0 i : Nat} {v : AV} (hk : k0 ≠ 60) : hSet (hL h sf) k0 i v = hL (hSet h k0 i v) sf := by
  refine Prod.ext rfl (Prod.ext rfl (Prod.ext rfl ?_))
  funext k j
  show (if k = k0 ∧ j = i then v else if k = 60 ∧ j < 64 then vI (sf j) else h.2.2.2 k j) = (if k = 60 ∧ j < 64 then vI (sf j) else if k = k0 ∧ j = i then v else h.2.2.2 k j)
  by_cases z : k = k0 ∧ j = i
  · rw [if_pos z, if_neg (fun y => hk (z.1.symm.trans y.1)), if_pos z]
  · rw [if_neg z]
    by_cases y : k = 60 ∧ j < 64
    · rw [if_pos y, if_pos y]
    · rw [if_neg y, if_neg y, if_neg z]
/-- the laws' scratch: names, kept, tenth, eldest, stack -/
def hQ (h : AH) (nm : Nat → Int) (kc : Nat) (tn el : Int) (sf : Nat → Int) : AH := hL (hW h nm kc tn el) sf
theorem hK_Q {h : AH} {nm : Nat → Int} {kc : Nat} {tn el : Int} {sf : Nat → Int} : hK (hQ h nm kc tn el sf) = hK h := rfl
theorem hQ_m {h : AH} {nm : Nat → Int} {kc : Nat} {tn el : Int} {sf : Nat → Int} {i : Nat} (hi : i < 8) : hV (hQ h nm kc tn el sf) 59 i = vI (nm i) := (hL_n (by decide)).trans (hW_m hi)
theorem hQ_4 {h : AH} {nm : Nat → Int} {kc : Nat} {tn el : Int} {sf : Nat → Int} : hV (hQ h nm kc tn el sf) 58 4 = vR kc := (hL_n (by decide)).trans hW_4
theorem hQ_5 {h : AH} {nm : Nat → Int} {kc : Nat} {tn el : Int} {sf : Nat → Int} : hV (hQ h nm kc tn el sf) 58 5 = vI tn := (hL_n (by decide)).trans hW_5
theorem hQ_6 {h : AH} {nm : Nat → Int} {kc : Nat} {tn el : Int} {sf : Nat → Int} : hV (hQ h nm kc tn el sf) 58 6 = vI el := (hL_n (by decide)).trans hW_6
theorem hQ_n {h : AH} {nm : Nat → Int} {kc : Nat} {tn el : Int} {sf : Nat → Int} {k i : Nat} (h1 : k ≠ 59) (h2 : k ≠ 58 ∨ (i ≠ 4 ∧ i ≠ 5 ∧ i ≠ 6)) (h3 : k ≠ 60) : hV (hQ h nm kc tn el sf) k i = hV h k i := (hL_n h3).trans (hW_n h1 h2)
theorem hQ_sm {h : AH} {nm : Nat → Int} {kc : Nat} {tn el : Int} {sf : Nat → Int} {i : Nat} {x : Int} (hi : i < 8) : hSet (hQ h nm kc tn el sf) 59 i (vI x) = hQ h (upF nm i x) kc tn el sf := (hL_so (by decide)).trans (congrArg (fun g => hL g sf) (hW_sm hi))
theorem hQ_s4 {h : AH} {nm : Nat → Int} {kc : Nat} {tn el : Int} {sf : Nat → Int} {x : Nat} : hSet (hQ h nm kc tn el sf) 58 4 (vR x) = hQ h nm x tn el sf := (hL_so (by decide)).trans (congrArg (fun g => hL g sf) hW_s4)
theorem hQ_s5 {h : AH} {nm : Nat → Int} {kc : Nat} {tn el : Int} {sf : Nat → Int} {x : Int} : hSet (hQ h nm kc tn el sf) 58 5 (vI x) = hQ h nm kc x el sf := (hL_so (by decide)).trans (congrArg (fun g => hL g sf) hW_s5)
theorem hQ_s6 {h : AH} {nm : Nat → Int} {kc : Nat} {tn el : Int} {sf : Nat → Int} {x : Int} : hSet (hQ h nm kc tn el sf) 58 6 (vI x) = hQ h nm kc tn x sf := (hL_so (by decide)).trans (congrArg (fun g => hL g sf) hW_s6)
theorem hQ_s6z {h : AH} {nm : Nat → Int} {kc : Nat} {tn el : Int} {sf : Nat → Int} : hSet (hQ h nm kc tn el sf) 58 6 (vI 0) = hQ h nm kc tn 0 sf := hQ_s6
/-- a hook of the class -/
def HKC (h : AH) (r kc : Nat) (f : Nat → Int) : Prop := hK h r = (0, 0) ∧ hV h r 0 = vR kc ∧ ∀ i, 1 ≤ i → i < 15 → hV h r i = vI (f i)
theorem HKC_Q {h : AH} {nm : Nat → Int} {kc : Nat} {tn el : Int} {sf : Nat → Int} {r c : Nat} {f : Nat → Int} (hh : HKC h r c f) (hr : r < 58) : HKC (hQ h nm kc tn el sf) r c f := ⟨hh.1, (hQ_n (by omega) (by omega) (by omega)).trans hh.2.1, fun i h1 h2 => (hQ_n (by omega) (by omega) (by omega)).trans (hh.2.2 i h1 h2)⟩
/-- its numbers lie so -/
def HKr (f : Nat → Int) : Prop := (0 ≤ f 1 ∧ f 1 ≤ 600) ∧ (-9 ≤ f 2 ∧ f 2 ≤ 9) ∧ (-9999 ≤ f 3 ∧ f 3 ≤ 9999) ∧ (-99 ≤ f 4 ∧ f 4 ≤ 99) ∧ (1 ≤ f 5 ∧ f 5 ≤ 24) ∧ (0 ≤ f 6 ∧ f 6 ≤ 99) ∧ (0 ≤ f 7 ∧ f 7 ≤ 9) ∧ (0 ≤ f 8 ∧ f 8 ≤ 600) ∧ 0 ≤ f 9 ∧ f 9 ≤ 20000
theorem E_aw {d : Nat} {g : AH} {r kc : Nat} {f : Nat → Int} (hh : HKC g r kc f) (hf : HKr f) (Q : Option AV → AH → Prop) : XC (d + 1) 7 [vR r] g Q = Q (some (vI (f 1 - f 3))) g := by
  refine XC_eq (Nat.le_of_ble_eq_true rfl) ?_ Q
  show XP d 7 0 [some (vR r)] [] g _
  obtain ⟨k0, k1, kv⟩ := hh
  have v1 := kv 1 (by decide) (by decide)
  have v3 := kv 3 (by decide) (by decide)
  have w : WE (f 1 - f 3) (f 1 - f 3) := by
    obtain ⟨a1, _, a3, _⟩ := hf
    unfold WE w32; omega
  refine xpk_sound (stops := []) (n := 20) ?_
  simp only [sk_0, sk_1, sk_2, sk_3, sk_4, sk_5, sk_6, sk_7, sk_8, sk_iadd, sk_isub, sk_imul, sk_iand, sk_ior, sk_ixor, sk_ishl, sk_ishr, sk_iushr, sk_idiv, sk_irem, sk_ineg, sk_ladd, sk_lsub, sk_lmul, sk_land, sk_lor, sk_ldiv, sk_lrem, sk_lneg, sk_lshl, sk_lshr, sk_i2l, sk_l2i, sk_lcmp, sk_dupI, sk_dupR, sk_dup2L, sk_dup2I, sk_popI, sk_ifeq, sk_ifne, sk_iflt, sk_ifge, sk_ifgt, sk_ifle, sk_iceq, sk_icne, sk_iclt, sk_icge, sk_icgt, sk_icle, sk_goto, sk_getf, sk_putf, sk_gets, sk_iald, sk_lald, sk_bald, sk_aald, sk_iast, sk_last, sk_bast, sk_aast, sk_alen, sk_newa, sk_newt, sk_new, sk_cs1, sk_cs2, sk_cs3, sk_cs4, sk_cs5, sk_cs6, sk_cv1, sk_cv2, sk_cv3, sk_cv4, sk_cv5, sk_cv6, sk_ci1, sk_ci2, sk_ci3, sk_ret0, sk_retI, sk_retL, sk_retR, sk_sw, sk_oin, sk_max, sk_min, sk_abs, lI_0, lI_s, lL_0, lL_s, lR_0, lR_s, vIo_e, vLo_e, vOo_e, stW_I, stW_L, stW_R, stW_0, stW_z, okSt_0, okSt_s, hV_eq, hK_eq, okF_0, okF_1, okF_3, is01_0, is01_1, is01_i, Int.toNat_natCast, Int.reduceEq, Int.reduceLE, Int.reduceLT, Int.reduceNeg, Nat.reduceLT, not_true_eq_false, not_false_eq_true, reduceIte, Option.toList, List.cons_append, List.nil_append, List.set_cons_zero, List.set_cons_succ, List.not_mem_nil, List.mem_cons, if_false, if_true, ite_true, ite_false, and_self, and_true, true_and, Nat.reduceAdd, Nat.reduceLeDiff, Nat.reduceEqDiff, Nat.zero_add, Nat.le_refl, Nat.zero_le, or_false, false_or, Int.reduceToNat, or_true, true_or, eq_self, and_false, false_and, inR_d, nc_4, nc_5, nc_6, nc_7, nc_8, nc_16, nc_18, nc_20, nc_24, nc_32, nc_40, nc_64, nc_104, nc_120, nc_160, nc_256, nc_300, nc_330, nc_390, nc_1200, nc_1260, nc_3012, nc_9834, okSt_1i, okSt_1r, okSt_1n, List.length_cons, List.length_nil, xpk_succ cd_7_0, xpk_succ cd_7_1, xpk_succ cd_7_4, xpk_succ cd_7_5, xpk_succ cd_7_8, xpk_succ cd_7_9, k0, v1, v3, (WE_e w)]
def elF (t : Int) : Int := if t ≤ 60 then 0 else t - 60
theorem E_la {d : Nat} {h : AH} {nm : Nat → Int} {kc : Nat} {tn el : Int} {sf : Nat → Int} {r c : Nat} {f : Nat → Int} (hh : HKC h r c f) (hr : r < 58) (hf : HKr f) (h0 : hK h 58 = (2, 0) ∧ hK h 59 = (11, 8) ∧ hV h 58 2 = vR 59) {t : Int} (Q : Option AV → AH → Prop) : XC (d + 1) 41 [vR 58, vR r, vI t] (hQ h nm kc tn el sf) Q = Q none (hQ h (upF (upF nm 5 (f 5)) 6 (f 6)) c t (elF (f 9)) sf) := by
  refine XC_eq (Nat.le_of_ble_eq_true rfl) ?_ Q
  show XP d 41 0 [some (vR 58), some (vR r), some (vI t)] [] (hQ h nm kc tn el sf) _
  obtain ⟨k58, k59, v58⟩ := h0
  have q : ∀ {nm : Nat → Int} {kc : Nat} {tn el : Int}, HKC (hQ h nm kc tn el sf) r c f := HKC_Q hh hr
  have k0 := hh.1
  have q0 : ∀ {nm : Nat → Int} {kc : Nat} {tn el : Int}, hV (hQ h nm kc tn el sf) r 0 = vR c := q.2.1
  have q5 : ∀ {nm : Nat → Int} {kc : Nat} {tn el : Int}, hV (hQ h nm kc tn el sf) r 5 = vI (f 5) := q.2.2 5 (by decide) (by decide)
  have q6 : ∀ {nm : Nat → Int} {kc : Nat} {tn el : Int}, hV (hQ h nm kc tn el sf) r 6 = vI (f 6) := q.2.2 6 (by decide) (by decide)
  have q9 : ∀ {nm : Nat → Int} {kc : Nat} {tn el : Int}, hV (hQ h nm kc tn el sf) r 9 = vI (f 9) := q.2.2 9 (by decide) (by decide)
  have v2 : ∀ {nm : Nat → Int} {kc : Nat} {tn el : Int}, hV (hQ h nm kc tn el sf) 58 2 = vR 59 := (hQ_n (by decide) (Or.inr ⟨by decide, by decide, by decide⟩) (by decide)).trans v58
  have w : WE (f 9 - 60) (f 9 - 60) := by
    have a9 := hf.2.2.2.2.2.2.2.2
    unfold WE w32; omega
  unfold elF
  by_cases z : f 9 ≤ 60
  · rw [if_pos z]
    refine xpk_sound (stops := []) (n := 60) ?_
    simp only [sk_0, sk_1, sk_2, sk_3, sk_4, sk_5, sk_6, sk_7, sk_8, sk_iadd, sk_isub, sk_imul, sk_iand, sk_ior, sk_ixor, sk_ishl, sk_ishr, sk_iushr, sk_idiv, sk_irem, sk_ineg, sk_ladd, sk_lsub, sk_lmul, sk_land, sk_lor, sk_ldiv, sk_lrem, sk_lneg, sk_lshl, sk_lshr, sk_i2l, sk_l2i, sk_lcmp, sk_dupI, sk_dupR, sk_dup2L, sk_dup2I, sk_popI, sk_ifeq, sk_ifne, sk_iflt, sk_ifge, sk_ifgt, sk_ifle, sk_iceq, sk_icne, sk_iclt, sk_icge, sk_icgt, sk_icle, sk_goto, sk_getf, sk_putf, sk_gets, sk_iald, sk_lald, sk_bald, sk_aald, sk_iast, sk_last, sk_bast, sk_aast, sk_alen, sk_newa, sk_newt, sk_new, sk_cs1, sk_cs2, sk_cs3, sk_cs4, sk_cs5, sk_cs6, sk_cv1, sk_cv2, sk_cv3, sk_cv4, sk_cv5, sk_cv6, sk_ci1, sk_ci2, sk_ci3, sk_ret0, sk_retI, sk_retL, sk_retR, sk_sw, sk_oin, sk_max, sk_min, sk_abs, lI_0, lI_s, lL_0, lL_s, lR_0, lR_s, vIo_e, vLo_e, vOo_e, stW_I, stW_L, stW_R, stW_0, stW_z, okSt_0, okSt_s, hV_eq, hK_eq, okF_0, okF_1, okF_3, is01_0, is01_1, is01_i, Int.toNat_natCast, Int.reduceEq, Int.reduceLE, Int.reduceLT, Int.reduceNeg, Nat.reduceLT, not_true_eq_false, not_false_eq_true, reduceIte, Option.toList, List.cons_append, List.nil_append, List.set_cons_zero, List.set_cons_succ, List.not_mem_nil, List.mem_cons, if_false, if_true, ite_true, ite_false, and_self, and_true, true_and, Nat.reduceAdd, Nat.reduceLeDiff, Nat.reduceEqDiff, Nat.zero_add, Nat.le_refl, Nat.zero_le, or_false, false_or, Int.reduceToNat, or_true, true_or, eq_self, and_false, false_and, inR_d, nc_4, nc_5, nc_6, nc_7, nc_8, nc_16, nc_18, nc_20, nc_24, nc_32, nc_40, nc_64, nc_104, nc_120, nc_160, nc_256, nc_300, nc_330, nc_390, nc_1200, nc_1260, nc_3012, nc_9834, okSt_1i, okSt_1r, okSt_1n, List.length_cons, List.length_nil, xpk_succ cd_41_0, xpk_succ cd_41_1, xpk_succ cd_41_4, xpk_succ cd_41_5, xpk_succ cd_41_6, xpk_succ cd_41_9, xpk_succ cd_41_10, xpk_succ cd_41_11, xpk_succ cd_41_14, xpk_succ cd_41_16, xpk_succ cd_41_17, xpk_succ cd_41_20, xpk_succ cd_41_21, xpk_succ cd_41_22, xpk_succ cd_41_23, xpk_succ cd_41_26, xpk_succ cd_41_29, xpk_succ cd_41_30, xpk_succ cd_41_31, xpk_succ cd_41_34, xpk_succ cd_41_35, xpk_succ cd_41_36, xpk_succ cd_41_39, xpk_succ cd_41_41, xpk_succ cd_41_44, xpk_succ cd_41_45, xpk_succ cd_41_48, xpk_succ cd_41_50, xpk_succ cd_41_51, xpk_succ cd_41_54, xpk_succ cd_41_55, xpk_succ cd_41_58, hK_Q, k58, k59, k0, q0, q5, q6, q9, v2, (hQ_sm (i := 5) (by decide)), (hQ_sm (i := 6) (by decide)), hQ_s4, hQ_s5, hQ_s6, hQ_s6z, z]
  · rw [if_neg z]
    refine xpk_sound (stops := []) (n := 60) ?_
    simp only [sk_0, sk_1, sk_2, sk_3, sk_4, sk_5, sk_6, sk_7, sk_8, sk_iadd, sk_isub, sk_imul, sk_iand, sk_ior, sk_ixor, sk_ishl, sk_ishr, sk_iushr, sk_idiv, sk_irem, sk_ineg, sk_ladd, sk_lsub, sk_lmul, sk_land, sk_lor, sk_ldiv, sk_lrem, sk_lneg, sk_lshl, sk_lshr, sk_i2l, sk_l2i, sk_lcmp, sk_dupI, sk_dupR, sk_dup2L, sk_dup2I, sk_popI, sk_ifeq, sk_ifne, sk_iflt, sk_ifge, sk_ifgt, sk_ifle, sk_iceq, sk_icne, sk_iclt, sk_icge, sk_icgt, sk_icle, sk_goto, sk_getf, sk_putf, sk_gets, sk_iald, sk_lald, sk_bald, sk_aald, sk_iast, sk_last, sk_bast, sk_aast, sk_alen, sk_newa, sk_newt, sk_new, sk_cs1, sk_cs2, sk_cs3, sk_cs4, sk_cs5, sk_cs6, sk_cv1, sk_cv2, sk_cv3, sk_cv4, sk_cv5, sk_cv6, sk_ci1, sk_ci2, sk_ci3, sk_ret0, sk_retI, sk_retL, sk_retR, sk_sw, sk_oin, sk_max, sk_min, sk_abs, lI_0, lI_s, lL_0, lL_s, lR_0, lR_s, vIo_e, vLo_e, vOo_e, stW_I, stW_L, stW_R, stW_0, stW_z, okSt_0, okSt_s, hV_eq, hK_eq, okF_0, okF_1, okF_3, is01_0, is01_1, is01_i, Int.toNat_natCast, Int.reduceEq, Int.reduceLE, Int.reduceLT, Int.reduceNeg, Nat.reduceLT, not_true_eq_false, not_false_eq_true, reduceIte, Option.toList, List.cons_append, List.nil_append, List.set_cons_zero, List.set_cons_succ, List.not_mem_nil, List.mem_cons, if_false, if_true, ite_true, ite_false, and_self, and_true, true_and, Nat.reduceAdd, Nat.reduceLeDiff, Nat.reduceEqDiff, Nat.zero_add, Nat.le_refl, Nat.zero_le, or_false, false_or, Int.reduceToNat, or_true, true_or, eq_self, and_false, false_and, inR_d, nc_4, nc_5, nc_6, nc_7, nc_8, nc_16, nc_18, nc_20, nc_24, nc_32, nc_40, nc_64, nc_104, nc_120, nc_160, nc_256, nc_300, nc_330, nc_390, nc_1200, nc_1260, nc_3012, nc_9834, okSt_1i, okSt_1r, okSt_1n, List.length_cons, List.length_nil, xpk_succ cd_41_0, xpk_succ cd_41_1, xpk_succ cd_41_4, xpk_succ cd_41_5, xpk_succ cd_41_6, xpk_succ cd_41_9, xpk_succ cd_41_10, xpk_succ cd_41_11, xpk_succ cd_41_14, xpk_succ cd_41_16, xpk_succ cd_41_17, xpk_succ cd_41_20, xpk_succ cd_41_21, xpk_succ cd_41_22, xpk_succ cd_41_23, xpk_succ cd_41_26, xpk_succ cd_41_29, xpk_succ cd_41_30, xpk_succ cd_41_31, xpk_succ cd_41_34, xpk_succ cd_41_35, xpk_succ cd_41_36, xpk_succ cd_41_39, xpk_succ cd_41_41, xpk_succ cd_41_44, xpk_succ cd_41_45, xpk_succ cd_41_48, xpk_succ cd_41_50, xpk_succ cd_41_51, xpk_succ cd_41_54, xpk_succ cd_41_55, xpk_succ cd_41_58, hK_Q, k58, k59, k0, q0, q5, q6, q9, v2, (hQ_sm (i := 5) (by decide)), (hQ_sm (i := 6) (by decide)), hQ_s4, hQ_s5, hQ_s6, (WE_e w), z]
def lkN (f nm : Nat → Int) : Nat → Int := upF (upF (upF (upF (upF (upF (upF nm 0 (f 1 - f 3)) 1 (f 4)) 2 (f 2)) 3 (f 7)) 4 (f 8 - f 1)) 5 (f 5)) 6 (f 6)
theorem E_lk {d : Nat} {h : AH} {nm : Nat → Int} {kc : Nat} {tn el : Int} {sf : Nat → Int} {r c : Nat} {f : Nat → Int} (hh : HKC h r c f) (hr : r < 58) (hf : HKr f) (h0 : hK h 58 = (2, 0) ∧ hK h 59 = (11, 8) ∧ hV h 58 2 = vR 59) (Q : Option AV → AH → Prop) : XC (d + 2) 39 [vR 58, vR r] (hQ h nm kc tn el sf) Q = Q none (hQ h (lkN f nm) c (f 9) (elF (f 9)) sf) := by
  refine XC_eq (Nat.le_of_ble_eq_true rfl) ?_ Q
  show XP (d + 1) 39 0 [some (vR 58), some (vR r)] [] (hQ h nm kc tn el sf) _
  have el_ := fun {nm : Nat → Int} {kc : Nat} {tn el : Int} Q => E_la (d := d) (nm := nm) (kc := kc) (tn := tn) (el := el) (sf := sf) hh hr hf h0 (t := f 9) Q
  obtain ⟨k58, k59, v58⟩ := h0
  have q : ∀ {nm : Nat → Int} {kc : Nat} {tn el : Int}, HKC (hQ h nm kc tn el sf) r c f := HKC_Q hh hr
  have ea := fun {nm : Nat → Int} {kc : Nat} {tn el : Int} Q => E_aw (d := d) (q (nm := nm) (kc := kc) (tn := tn) (el := el)) hf Q
  have k0 := hh.1
  have q1 : ∀ {nm : Nat → Int} {kc : Nat} {tn el : Int}, hV (hQ h nm kc tn el sf) r 1 = vI (f 1) := q.2.2 1 (by decide) (by decide)
  have q2 : ∀ {nm : Nat → Int} {kc : Nat} {tn el : Int}, hV (hQ h nm kc tn el sf) r 2 = vI (f 2) := q.2.2 2 (by decide) (by decide)
  have q4 : ∀ {nm : Nat → Int} {kc : Nat} {tn el : Int}, hV (hQ h nm kc tn el sf) r 4 = vI (f 4) := q.2.2 4 (by decide) (by decide)
  have q7 : ∀ {nm : Nat → Int} {kc : Nat} {tn el : Int}, hV (hQ h nm kc tn el sf) r 7 = vI (f 7) := q.2.2 7 (by decide) (by decide)
  have q8 : ∀ {nm : Nat → Int} {kc : Nat} {tn el : Int}, hV (hQ h nm kc tn el sf) r 8 = vI (f 8) := q.2.2 8 (by decide) (by decide)
  have q9 : ∀ {nm : Nat → Int} {kc : Nat} {tn el : Int}, hV (hQ h nm kc tn el sf) r 9 = vI (f 9) := q.2.2 9 (by decide) (by decide)
  have v2 : ∀ {nm : Nat → Int} {kc : Nat} {tn el : Int}, hV (hQ h nm kc tn el sf) 58 2 = vR 59 := (hQ_n (by decide) (Or.inr ⟨by decide, by decide, by decide⟩) (by decide)).trans v58
  have w : WE (f 8 - f 1) (f 8 - f 1) := by
    obtain ⟨a1, _, _, _, _, _, _, a8, _⟩ := hf
    unfold WE w32; omega
  unfold lkN
  refine xpk_sound (stops := []) (n := 80) ?_
  simp only [sk_0, sk_1, sk_2, sk_3, sk_4, sk_5, sk_6, sk_7, sk_8, sk_iadd, sk_isub, sk_imul, sk_iand, sk_ior, sk_ixor, sk_ishl, sk_ishr, sk_iushr, sk_idiv, sk_irem, sk_ineg, sk_ladd, sk_lsub, sk_lmul, sk_land, sk_lor, sk_ldiv, sk_lrem, sk_lneg, sk_lshl, sk_lshr, sk_i2l, sk_l2i, sk_lcmp, sk_dupI, sk_dupR, sk_dup2L, sk_dup2I, sk_popI, sk_ifeq, sk_ifne, sk_iflt, sk_ifge, sk_ifgt, sk_ifle, sk_iceq, sk_icne, sk_iclt, sk_icge, sk_icgt, sk_icle, sk_goto, sk_getf, sk_putf, sk_gets, sk_iald, sk_lald, sk_bald, sk_aald, sk_iast, sk_last, sk_bast, sk_aast, sk_alen, sk_newa, sk_newt, sk_new, sk_cs1, sk_cs2, sk_cs3, sk_cs4, sk_cs5, sk_cs6, sk_cv1, sk_cv2, sk_cv3, sk_cv4, sk_cv5, sk_cv6, sk_ci1, sk_ci2, sk_ci3, sk_ret0, sk_retI, sk_retL, sk_retR, sk_sw, sk_oin, sk_max, sk_min, sk_abs, lI_0, lI_s, lL_0, lL_s, lR_0, lR_s, vIo_e, vLo_e, vOo_e, stW_I, stW_L, stW_R, stW_0, stW_z, okSt_0, okSt_s, hV_eq, hK_eq, okF_0, okF_1, okF_3, is01_0, is01_1, is01_i, Int.toNat_natCast, Int.reduceEq, Int.reduceLE, Int.reduceLT, Int.reduceNeg, Nat.reduceLT, not_true_eq_false, not_false_eq_true, reduceIte, Option.toList, List.cons_append, List.nil_append, List.set_cons_zero, List.set_cons_succ, List.not_mem_nil, List.mem_cons, if_false, if_true, ite_true, ite_false, and_self, and_true, true_and, Nat.reduceAdd, Nat.reduceLeDiff, Nat.reduceEqDiff, Nat.zero_add, Nat.le_refl, Nat.zero_le, or_false, false_or, Int.reduceToNat, or_true, true_or, eq_self, and_false, false_and, inR_d, nc_4, nc_5, nc_6, nc_7, nc_8, nc_16, nc_18, nc_20, nc_24, nc_32, nc_40, nc_64, nc_104, nc_120, nc_160, nc_256, nc_300, nc_330, nc_390, nc_1200, nc_1260, nc_3012, nc_9834, okSt_1i, okSt_1r, okSt_1n, List.length_cons, List.length_nil, xpk_succ cd_39_0, xpk_succ cd_39_1, xpk_succ cd_39_4, xpk_succ cd_39_5, xpk_succ cd_39_6, xpk_succ cd_39_9, xpk_succ cd_39_10, xpk_succ cd_39_11, xpk_succ cd_39_14, xpk_succ cd_39_15, xpk_succ cd_39_16, xpk_succ cd_39_19, xpk_succ cd_39_20, xpk_succ cd_39_21, xpk_succ cd_39_24, xpk_succ cd_39_25, xpk_succ cd_39_26, xpk_succ cd_39_29, xpk_succ cd_39_30, xpk_succ cd_39_31, xpk_succ cd_39_34, xpk_succ cd_39_35, xpk_succ cd_39_36, xpk_succ cd_39_39, xpk_succ cd_39_40, xpk_succ cd_39_41, xpk_succ cd_39_44, xpk_succ cd_39_45, xpk_succ cd_39_46, xpk_succ cd_39_49, xpk_succ cd_39_50, xpk_succ cd_39_53, xpk_succ cd_39_54, xpk_succ cd_39_55, xpk_succ cd_39_56, xpk_succ cd_39_57, xpk_succ cd_39_58, xpk_succ cd_39_61, xpk_succ cd_39_64, hK_Q, k58, k59, k0, q1, q2, q4, q7, q8, q9, v2, ea, el_, (WE_e w), (hQ_sm (i := 0) (by decide)), (hQ_sm (i := 1) (by decide)), (hQ_sm (i := 2) (by decide)), (hQ_sm (i := 3) (by decide)), (hQ_sm (i := 4) (by decide))]
