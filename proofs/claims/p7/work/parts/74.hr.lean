/-! the class's reader: a heap in normal form -/
def TD (T D : Nat) : Prop := (T = 22 ∧ D = 23) ∨ (T = 28 ∧ D = 29) ∨ (T = 34 ∧ D = 35) ∨ (T = 40 ∧ D = 41)
def hR (h : AH) (T D : Nat) (a b c l f p : Int) (L : Nat) (dd : Nat → Int) : AH := (h.1, h.2.1, h.2.2.1, fun k j => if k = 70 ∧ j = 2 then vI a else if k = 70 ∧ j = 3 then vI b else if k = 70 ∧ j = 4 then vI c else if k = 70 ∧ j = 5 then vI l else if k = 70 ∧ j = 6 then vI f else if k = 70 ∧ j = 7 then vI p else if k = T ∧ j = 5 then vI (L : Int) else if k = D ∧ j < 300 then vI (dd j) else h.2.2.2 k j)
theorem TD_n {T D : Nat} (h : TD T D) : T ≠ 70 ∧ D ≠ 70 ∧ D ≠ T ∧ T ≠ D ∧ T ≠ 71 ∧ D ≠ 71 ∧ T ≠ 72 ∧ D ≠ 72 ∧ T ≠ 73 ∧ D ≠ 73 ∧ T ≠ 74 ∧ D ≠ 74 ∧ T < 46 ∧ D < 46 := by unfold TD at h; omega
theorem hK_R {h : AH} {T D : Nat} {a b c l f p : Int} {L : Nat} {dd : Nat → Int} (k : Nat) : hK (hR h T D a b c l f p L dd) k = hK h k := rfl
theorem hR_2 {h : AH} {T D : Nat} {a b c l f p : Int} {L : Nat} {dd : Nat → Int} : hV (hR h T D a b c l f p L dd) 70 2 = vI a := rfl
theorem hR_3 {h : AH} {T D : Nat} {a b c l f p : Int} {L : Nat} {dd : Nat → Int} : hV (hR h T D a b c l f p L dd) 70 3 = vI b := rfl
theorem hR_4 {h : AH} {T D : Nat} {a b c l f p : Int} {L : Nat} {dd : Nat → Int} : hV (hR h T D a b c l f p L dd) 70 4 = vI c := rfl
theorem hR_5 {h : AH} {T D : Nat} {a b c l f p : Int} {L : Nat} {dd : Nat → Int} : hV (hR h T D a b c l f p L dd) 70 5 = vI l := rfl
theorem hR_6 {h : AH} {T D : Nat} {a b c l f p : Int} {L : Nat} {dd : Nat → Int} : hV (hR h T D a b c l f p L dd) 70 6 = vI f := rfl
theorem hR_7 {h : AH} {T D : Nat} {a b c l f p : Int} {L : Nat} {dd : Nat → Int} : hV (hR h T D a b c l f p L dd) 70 7 = vI p := rfl
theorem hR_n {h : AH} {T D : Nat} {a b c l f p : Int} {L : Nat} {dd : Nat → Int} {k j : Nat} (h1 : k ≠ 70 ∨ j < 2) (h2 : k ≠ T ∨ j ≠ 5) (h3 : k ≠ D) : hV (hR h T D a b c l f p L dd) k j = hV h k j := by
  show (if k = 70 ∧ j = 2 then vI a else _) = _
  rw [if_neg (by omega), if_neg (by omega), if_neg (by omega), if_neg (by omega), if_neg (by omega), if_neg (by omega), if_neg (by omega), if_neg (by omega)]
  rfl
theorem hR_T {h : AH} {T D : Nat} (ht : TD T D) {a b c l f p : Int} {L : Nat} {dd : Nat → Int} : hV (hR h T D a b c l f p L dd) T 5 = vI (L : Int) := by
  have z := (TD_n ht).1
  show (if T = 70 ∧ 5 = 2 then vI a else _) = _
  rw [if_neg (by omega), if_neg (by omega), if_neg (by omega), if_neg (by omega), if_neg (by omega), if_neg (by omega), if_pos ⟨rfl, rfl⟩]
theorem hR_D {h : AH} {T D : Nat} (ht : TD T D) {a b c l f p : Int} {L : Nat} {dd : Nat → Int} {i : Nat} (hi : i < 300) : hV (hR h T D a b c l f p L dd) D i = vI (dd i) := by
  have z := TD_n ht
  show (if D = 70 ∧ i = 2 then vI a else _) = _
  rw [if_neg (by omega), if_neg (by omega), if_neg (by omega), if_neg (by omega), if_neg (by omega), if_neg (by omega), if_neg (by omega), if_pos ⟨rfl, hi⟩]
theorem hR_s2 {h : AH} {T D : Nat} {a b c l f p : Int} {L : Nat} {dd : Nat → Int} {x : Int} : hSet (hR h T D a b c l f p L dd) 70 2 (vI x) = hR h T D x b c l f p L dd := by
  unfold hSet hR upV
  refine congrArg (fun V => (h.1, h.2.1, h.2.2.1, V)) ?_
  funext k j
  dsimp only
  by_cases z : k = 70 ∧ j = 2
  · obtain ⟨rfl, rfl⟩ := z
    rfl
  · simp only [if_neg z]
theorem hR_s3 {h : AH} {T D : Nat} {a b c l f p : Int} {L : Nat} {dd : Nat → Int} {x : Int} : hSet (hR h T D a b c l f p L dd) 70 3 (vI x) = hR h T D a x c l f p L dd := by
  unfold hSet hR upV
  refine congrArg (fun V => (h.1, h.2.1, h.2.2.1, V)) ?_
  funext k j
  dsimp only
  by_cases z : k = 70 ∧ j = 3
  · obtain ⟨rfl, rfl⟩ := z
    rfl
  · simp only [if_neg z]
theorem hR_s4 {h : AH} {T D : Nat} {a b c l f p : Int} {L : Nat} {dd : Nat → Int} {x : Int} : hSet (hR h T D a b c l f p L dd) 70 4 (vI x) = hR h T D a b x l f p L dd := by
  unfold hSet hR upV
  refine congrArg (fun V => (h.1, h.2.1, h.2.2.1, V)) ?_
  funext k j
  dsimp only
  by_cases z : k = 70 ∧ j = 4
  · obtain ⟨rfl, rfl⟩ := z
    rfl
  · simp only [if_neg z]
theorem hR_s5 {h : AH} {T D : Nat} {a b c l f p : Int} {L : Nat} {dd : Nat → Int} {x : Int} : hSet (hR h T D a b c l f p L dd) 70 5 (vI x) = hR h T D a b c x f p L dd := by
  unfold hSet hR upV
  refine congrArg (fun V => (h.1, h.2.1, h.2.2.1, V)) ?_
  funext k j
  dsimp only
  by_cases z : k = 70 ∧ j = 5
  · obtain ⟨rfl, rfl⟩ := z
    rfl
  · simp only [if_neg z]
theorem hR_s6 {h : AH} {T D : Nat} {a b c l f p : Int} {L : Nat} {dd : Nat → Int} {x : Int} : hSet (hR h T D a b c l f p L dd) 70 6 (vI x) = hR h T D a b c l x p L dd := by
  unfold hSet hR upV
  refine congrArg (fun V => (h.1, h.2.1, h.2.2.1, V)) ?_
  funext k j
  dsimp only
  by_cases z : k = 70 ∧ j = 6
  · obtain ⟨rfl, rfl⟩ := z
    rfl
  · simp only [if_neg z]
theorem hR_s7 {h : AH} {T D : Nat} {a b c l f p : Int} {L : Nat} {dd : Nat → Int} {x : Int} : hSet (hR h T D a b c l f p L dd) 70 7 (vI x) = hR h T D a b c l f x L dd := by
  unfold hSet hR upV
  refine congrArg (fun V => (h.1, h.2.1, h.2.2.1, V)) ?_
  funext k j
  dsimp only
  by_cases z : k = 70 ∧ j = 7
  · obtain ⟨rfl, rfl⟩ := z
    rfl
  · simp only [if_neg z]
theorem hR_sT {h : AH} {T D : Nat} (ht : TD T D) {a b c l f p : Int} {L : Nat} {dd : Nat → Int} {x : Nat} : hSet (hR h T D a b c l f p L dd) T 5 (vI (x : Int)) = hR h T D a b c l f p x dd := by
  have y := (TD_n ht).1
  unfold hSet hR upV
  refine congrArg (fun V => (h.1, h.2.1, h.2.2.1, V)) ?_
  funext k j
  dsimp only
  by_cases z : k = T ∧ j = 5
  · rw [if_pos z, if_neg (by omega), if_neg (by omega), if_neg (by omega), if_neg (by omega), if_neg (by omega), if_neg (by omega), if_pos z]
  · simp only [if_neg z]
theorem hR_sD {h : AH} {T D : Nat} (ht : TD T D) {a b c l f p : Int} {L : Nat} {dd : Nat → Int} {i : Nat} {x : Int} (hi : i < 300) : hSet (hR h T D a b c l f p L dd) D i (vI x) = hR h T D a b c l f p L (upF dd i x) := by
  have y := TD_n ht
  unfold hSet hR upV
  refine congrArg (fun V => (h.1, h.2.1, h.2.2.1, V)) ?_
  funext k j
  dsimp only
  by_cases z : k = D ∧ j = i
  · rw [if_pos z, if_neg (by omega), if_neg (by omega), if_neg (by omega), if_neg (by omega), if_neg (by omega), if_neg (by omega), if_neg (by omega), if_pos (by omega), z.2, upF_at]
  · rw [if_neg z]
    by_cases w : k = D ∧ j < 300
    · rw [if_neg (show ¬ (k = 70 ∧ j = 2) by omega), if_neg (show ¬ (k = 70 ∧ j = 3) by omega), if_neg (show ¬ (k = 70 ∧ j = 4) by omega), if_neg (show ¬ (k = 70 ∧ j = 5) by omega), if_neg (show ¬ (k = 70 ∧ j = 6) by omega), if_neg (show ¬ (k = 70 ∧ j = 7) by omega), if_neg (show ¬ (k = T ∧ j = 5) by omega), if_pos w, if_neg (show ¬ (k = 70 ∧ j = 2) by omega), if_neg (show ¬ (k = 70 ∧ j = 3) by omega), if_neg (show ¬ (k = 70 ∧ j = 4) by omega), if_neg (show ¬ (k = 70 ∧ j = 5) by omega), if_neg (show ¬ (k = 70 ∧ j = 6) by omega), if_neg (show ¬ (k = 70 ∧ j = 7) by omega), if_neg (show ¬ (k = T ∧ j = 5) by omega), if_pos w, upF_ne (by omega)]
    · simp only [if_neg w]
/-- the tokens -/
def TOK (h : AH) (cnt : Nat) (n : Int) (kn vn pn : Nat → Int) : Prop := (cnt ≤ 300 ∧ (0 ≤ n ∧ n ≤ 300)) ∧ (hK h 71 = (7, 0) ∧ hV h 71 0 = vR 72 ∧ hV h 71 1 = vR 73 ∧ hV h 71 2 = vR 74 ∧ hV h 71 3 = vI (cnt : Int) ∧ hV h 71 4 = vI n) ∧ (hK h 72 = (11, 300) ∧ hK h 73 = (11, 300) ∧ hK h 74 = (11, 300)) ∧ ∀ i, i < 300 → hV h 72 i = vI (kn i) ∧ hV h 73 i = vI (pn i) ∧ hV h 74 i = vI (vn i)
/-- the reader -/
def RDB (h : AH) (T D : Nat) : Prop := TD T D ∧ (hK h 70 = (4, 0) ∧ hV h 70 0 = vR 71 ∧ hV h 70 1 = vR T) ∧ (hK h T = (6, 0) ∧ hV h T 0 = vR D ∧ hK h D = (11, 300)) ∧ (hK h 1000003 = (20, 5) ∧ hV h 1000003 0 = vI 127 ∧ hV h 1000003 1 = vI 127 ∧ hV h 1000003 2 = vI 127 ∧ hV h 1000003 3 = vI 128 ∧ hV h 1000003 4 = vI 224)
def tkf (cnt : Nat) (kn vn : Nat → Int) (j : Nat) : Int × Int := if j < cnt then (kn j, vn j) else (62, 0)
def plf (cnt : Nat) (n : Int) (pn : Nat → Int) (j : Nat) : Int := if j < cnt then pn j else n
theorem TOK_R {h : AH} {T D : Nat} (ht : TD T D) {cnt : Nat} {n : Int} {kn vn pn : Nat → Int} (hk : TOK h cnt n kn vn pn) {a b c l f p : Int} {L : Nat} {dd : Nat → Int} : TOK (hR h T D a b c l f p L dd) cnt n kn vn pn := by
  have y := TD_n ht
  obtain ⟨k1, ⟨k2, k3, k4, k5, k6, k7⟩, k8, k9⟩ := hk
  refine ⟨k1, ⟨k2, ?_, ?_, ?_, ?_, ?_⟩, k8, fun i hi => ⟨?_, ?_, ?_⟩⟩
  · rw [hR_n (by omega) (by omega) (by omega)]; exact k3
  · rw [hR_n (by omega) (by omega) (by omega)]; exact k4
  · rw [hR_n (by omega) (by omega) (by omega)]; exact k5
  · rw [hR_n (by omega) (by omega) (by omega)]; exact k6
  · rw [hR_n (by omega) (by omega) (by omega)]; exact k7
  · rw [hR_n (by omega) (by omega) (by omega)]; exact (k9 i hi).1
  · rw [hR_n (by omega) (by omega) (by omega)]; exact (k9 i hi).2.1
  · rw [hR_n (by omega) (by omega) (by omega)]; exact (k9 i hi).2.2
theorem R_0 {h : AH} {T D : Nat} (hb : RDB h T D) {a b c l f p : Int} {L : Nat} {dd : Nat → Int} : hV (hR h T D a b c l f p L dd) 70 0 = vR 71 := by
  have y := TD_n hb.1
  rw [hR_n (by omega) (by omega) (by omega)]; exact hb.2.1.2.1
theorem R_1 {h : AH} {T D : Nat} (hb : RDB h T D) {a b c l f p : Int} {L : Nat} {dd : Nat → Int} : hV (hR h T D a b c l f p L dd) 70 1 = vR T := by
  have y := TD_n hb.1
  rw [hR_n (by omega) (by omega) (by omega)]; exact hb.2.1.2.2
theorem R_T0 {h : AH} {T D : Nat} (hb : RDB h T D) {a b c l f p : Int} {L : Nat} {dd : Nat → Int} : hV (hR h T D a b c l f p L dd) T 0 = vR D := by
  have y := TD_n hb.1
  rw [hR_n (by omega) (by omega) (by omega)]; exact hb.2.2.1.2.1
theorem R_N {h : AH} {T D : Nat} (hb : RDB h T D) {a b c l f p : Int} {L : Nat} {dd : Nat → Int} {i : Nat} : hV (hR h T D a b c l f p L dd) 1000003 i = hV h 1000003 i := by
  have y := TD_n hb.1
  exact hR_n (by omega) (by omega) (by omega)
set_option maxRecDepth 20000 in
theorem ac_60 : allC[60]? = some cl60 := rfl
theorem cd_60_0 : cd 60 0 = some (4, 1, 0, 0, 0, []) := cd_row ac_60 rfl
theorem cd_60_1 : cd 60 1 = some (23, 4, 4, 6, 0, []) := cd_row ac_60 rfl
theorem cd_60_4 : cd 60 4 = some (20, 7, 33, 1, 0, []) := cd_row ac_60 rfl
theorem cd_60_7 : cd 60 7 = some (4, 8, 0, 0, 0, []) := cd_row ac_60 rfl
theorem cd_60_8 : cd 60 8 = some (2, 9, 1, 0, 0, []) := cd_row ac_60 rfl
theorem cd_60_9 : cd 60 9 = some (24, 12, 4, 6, 0, []) := cd_row ac_60 rfl
theorem cd_60_12 : cd 60 12 = some (4, 13, 0, 0, 0, []) := cd_row ac_60 rfl
theorem cd_60_13 : cd 60 13 = some (4, 14, 0, 0, 0, []) := cd_row ac_60 rfl
theorem cd_60_14 : cd 60 14 = some (23, 17, 4, 0, 0, []) := cd_row ac_60 rfl
theorem cd_60_17 : cd 60 17 = some (4, 18, 0, 0, 0, []) := cd_row ac_60 rfl
theorem cd_60_18 : cd 60 18 = some (23, 21, 4, 2, 0, []) := cd_row ac_60 rfl
theorem cd_60_21 : cd 60 21 = some (46, 24, 100, 2, 7, []) := cd_row ac_60 rfl
theorem cd_60_24 : cd 60 24 = some (24, 27, 4, 7, 0, []) := cd_row ac_60 rfl
theorem cd_60_27 : cd 60 27 = some (4, 28, 0, 0, 0, []) := cd_row ac_60 rfl
theorem cd_60_28 : cd 60 28 = some (0, 30, 0, 0, 63, []) := cd_row ac_60 rfl
theorem cd_60_30 : cd 60 30 = some (24, 33, 4, 3, 0, []) := cd_row ac_60 rfl
theorem cd_60_33 : cd 60 33 = some (39, 34, 0, 0, 0, []) := cd_row ac_60 rfl
set_option maxRecDepth 20000 in
theorem ac_61 : allC[61]? = some cl61 := rfl
theorem cd_61_0 : cd 61 0 = some (4, 1, 0, 0, 0, []) := cd_row ac_61 rfl
theorem cd_61_1 : cd 61 1 = some (17, 2, 0, 0, 0, []) := cd_row ac_61 rfl
theorem cd_61_2 : cd 61 2 = some (23, 5, 4, 2, 0, []) := cd_row ac_61 rfl
theorem cd_61_5 : cd 61 5 = some (0, 6, 0, 0, 1, []) := cd_row ac_61 rfl
theorem cd_61_6 : cd 61 6 = some (9, 7, 0, 0, 0, []) := cd_row ac_61 rfl
theorem cd_61_7 : cd 61 7 = some (24, 10, 4, 2, 0, []) := cd_row ac_61 rfl
theorem cd_61_10 : cd 61 10 = some (4, 11, 0, 0, 0, []) := cd_row ac_61 rfl
theorem cd_61_11 : cd 61 11 = some (4, 12, 0, 0, 0, []) := cd_row ac_61 rfl
theorem cd_61_12 : cd 61 12 = some (23, 15, 4, 0, 0, []) := cd_row ac_61 rfl
theorem cd_61_15 : cd 61 15 = some (4, 16, 0, 0, 0, []) := cd_row ac_61 rfl
theorem cd_61_16 : cd 61 16 = some (23, 19, 4, 2, 0, []) := cd_row ac_61 rfl
theorem cd_61_19 : cd 61 19 = some (46, 22, 99, 2, 7, []) := cd_row ac_61 rfl
theorem cd_61_22 : cd 61 22 = some (24, 25, 4, 3, 0, []) := cd_row ac_61 rfl
theorem cd_61_25 : cd 61 25 = some (39, 26, 0, 0, 0, []) := cd_row ac_61 rfl
set_option maxRecDepth 20000 in
theorem ac_62 : allC[62]? = some cl62 := rfl
theorem cd_62_0 : cd 62 0 = some (4, 1, 0, 0, 0, []) := cd_row ac_62 rfl
theorem cd_62_1 : cd 62 1 = some (23, 4, 4, 3, 0, []) := cd_row ac_62 rfl
theorem cd_62_4 : cd 62 4 = some (2, 5, 1, 0, 0, []) := cd_row ac_62 rfl
theorem cd_62_5 : cd 62 5 = some (21, 8, 15, 1, 0, []) := cd_row ac_62 rfl
theorem cd_62_8 : cd 62 8 = some (4, 9, 0, 0, 0, []) := cd_row ac_62 rfl
theorem cd_62_9 : cd 62 9 = some (46, 12, 61, 1, 4, []) := cd_row ac_62 rfl
theorem cd_62_12 : cd 62 12 = some (22, 15, 20, 0, 0, []) := cd_row ac_62 rfl
theorem cd_62_15 : cd 62 15 = some (4, 16, 0, 0, 0, []) := cd_row ac_62 rfl
theorem cd_62_16 : cd 62 16 = some (0, 17, 0, 0, 1, []) := cd_row ac_62 rfl
theorem cd_62_17 : cd 62 17 = some (46, 20, 60, 2, 4, []) := cd_row ac_62 rfl
theorem cd_62_20 : cd 62 20 = some (39, 21, 0, 0, 0, []) := cd_row ac_62 rfl
set_option maxRecDepth 20000 in
theorem ac_63 : allC[63]? = some cl63 := rfl
theorem cd_63_0 : cd 63 0 = some (4, 1, 0, 0, 0, []) := cd_row ac_63 rfl
theorem cd_63_1 : cd 63 1 = some (23, 4, 4, 0, 0, []) := cd_row ac_63 rfl
theorem cd_63_4 : cd 63 4 = some (4, 5, 0, 0, 0, []) := cd_row ac_63 rfl
theorem cd_63_5 : cd 63 5 = some (23, 8, 4, 2, 0, []) := cd_row ac_63 rfl
theorem cd_63_8 : cd 63 8 = some (46, 11, 101, 2, 7, []) := cd_row ac_63 rfl
theorem cd_63_11 : cd 63 11 = some (5, 12, 3, 0, 0, []) := cd_row ac_63 rfl
theorem cd_63_12 : cd 63 12 = some (4, 13, 0, 0, 0, []) := cd_row ac_63 rfl
theorem cd_63_13 : cd 63 13 = some (23, 16, 4, 3, 0, []) := cd_row ac_63 rfl
theorem cd_63_16 : cd 63 16 = some (0, 18, 0, 0, 60, []) := cd_row ac_63 rfl
theorem cd_63_18 : cd 63 18 = some (21, 21, 28, 0, 0, []) := cd_row ac_63 rfl
theorem cd_63_21 : cd 63 21 = some (4, 22, 0, 0, 0, []) := cd_row ac_63 rfl
theorem cd_63_22 : cd 63 22 = some (0, 23, 0, 0, 1, []) := cd_row ac_63 rfl
theorem cd_63_23 : cd 63 23 = some (46, 26, 60, 2, 4, []) := cd_row ac_63 rfl
theorem cd_63_26 : cd 63 26 = some (2, 27, 1, 0, 0, []) := cd_row ac_63 rfl
theorem cd_63_27 : cd 63 27 = some (40, 28, 0, 0, 0, []) := cd_row ac_63 rfl
theorem cd_63_28 : cd 63 28 = some (2, 29, 3, 0, 0, []) := cd_row ac_63 rfl
theorem cd_63_29 : cd 63 29 = some (2, 30, 1, 0, 0, []) := cd_row ac_63 rfl
theorem cd_63_30 : cd 63 30 = some (21, 33, 38, 2, 0, []) := cd_row ac_63 rfl
theorem cd_63_33 : cd 63 33 = some (2, 34, 3, 0, 0, []) := cd_row ac_63 rfl
theorem cd_63_34 : cd 63 34 = some (2, 35, 2, 0, 0, []) := cd_row ac_63 rfl
theorem cd_63_35 : cd 63 35 = some (21, 38, 45, 5, 0, []) := cd_row ac_63 rfl
theorem cd_63_38 : cd 63 38 = some (4, 39, 0, 0, 0, []) := cd_row ac_63 rfl
theorem cd_63_39 : cd 63 39 = some (0, 40, 0, 0, 2, []) := cd_row ac_63 rfl
theorem cd_63_40 : cd 63 40 = some (46, 43, 60, 2, 4, []) := cd_row ac_63 rfl
theorem cd_63_43 : cd 63 43 = some (2, 44, 1, 0, 0, []) := cd_row ac_63 rfl
theorem cd_63_44 : cd 63 44 = some (40, 45, 0, 0, 0, []) := cd_row ac_63 rfl
theorem cd_63_45 : cd 63 45 = some (4, 46, 0, 0, 0, []) := cd_row ac_63 rfl
theorem cd_63_46 : cd 63 46 = some (46, 49, 61, 1, 4, []) := cd_row ac_63 rfl
theorem cd_63_49 : cd 63 49 = some (2, 50, 3, 0, 0, []) := cd_row ac_63 rfl
theorem cd_63_50 : cd 63 50 = some (40, 51, 0, 0, 0, []) := cd_row ac_63 rfl
set_option maxRecDepth 20000 in
theorem ac_71 : allC[71]? = some cl71 := rfl
theorem cd_71_0 : cd 71 0 = some (4, 1, 0, 0, 0, []) := cd_row ac_71 rfl
theorem cd_71_1 : cd 71 1 = some (23, 4, 4, 4, 0, []) := cd_row ac_71 rfl
theorem cd_71_4 : cd 71 4 = some (0, 6, 0, 0, 8, []) := cd_row ac_71 rfl
theorem cd_71_6 : cd 71 6 = some (21, 9, 16, 2, 0, []) := cd_row ac_71 rfl
theorem cd_71_9 : cd 71 9 = some (4, 10, 0, 0, 0, []) := cd_row ac_71 rfl
theorem cd_71_10 : cd 71 10 = some (0, 11, 0, 0, 3, []) := cd_row ac_71 rfl
theorem cd_71_11 : cd 71 11 = some (46, 14, 60, 2, 4, []) := cd_row ac_71 rfl
theorem cd_71_14 : cd 71 14 = some (0, 15, 0, 0, 0, []) := cd_row ac_71 rfl
theorem cd_71_15 : cd 71 15 = some (40, 16, 1, 0, 0, []) := cd_row ac_71 rfl
theorem cd_71_16 : cd 71 16 = some (4, 17, 0, 0, 0, []) := cd_row ac_71 rfl
theorem cd_71_17 : cd 71 17 = some (17, 18, 0, 0, 0, []) := cd_row ac_71 rfl
theorem cd_71_18 : cd 71 18 = some (23, 21, 4, 4, 0, []) := cd_row ac_71 rfl
theorem cd_71_21 : cd 71 21 = some (0, 22, 0, 0, 1, []) := cd_row ac_71 rfl
theorem cd_71_22 : cd 71 22 = some (9, 23, 0, 0, 0, []) := cd_row ac_71 rfl
theorem cd_71_23 : cd 71 23 = some (24, 26, 4, 4, 0, []) := cd_row ac_71 rfl
theorem cd_71_26 : cd 71 26 = some (4, 27, 0, 0, 0, []) := cd_row ac_71 rfl
theorem cd_71_27 : cd 71 27 = some (46, 30, 61, 1, 4, []) := cd_row ac_71 rfl
theorem cd_71_30 : cd 71 30 = some (0, 31, 0, 0, 1, []) := cd_row ac_71 rfl
theorem cd_71_31 : cd 71 31 = some (40, 32, 1, 0, 0, []) := cd_row ac_71 rfl
set_option maxRecDepth 20000 in
theorem ac_73 : allC[73]? = some cl73 := rfl
theorem cd_73_0 : cd 73 0 = some (4, 1, 0, 0, 0, []) := cd_row ac_73 rfl
theorem cd_73_1 : cd 73 1 = some (23, 4, 4, 3, 0, []) := cd_row ac_73 rfl
theorem cd_73_4 : cd 73 4 = some (0, 6, 0, 0, 11, []) := cd_row ac_73 rfl
theorem cd_73_6 : cd 73 6 = some (9, 7, 0, 1, 0, []) := cd_row ac_73 rfl
theorem cd_73_7 : cd 73 7 = some (5, 9, 4, 0, 0, []) := cd_row ac_73 rfl
theorem cd_73_9 : cd 73 9 = some (2, 11, 4, 0, 0, []) := cd_row ac_73 rfl
theorem cd_73_11 : cd 73 11 = some (20, 14, 23, 2, 0, []) := cd_row ac_73 rfl
theorem cd_73_14 : cd 73 14 = some (4, 15, 0, 0, 0, []) := cd_row ac_73 rfl
theorem cd_73_15 : cd 73 15 = some (23, 18, 4, 3, 0, []) := cd_row ac_73 rfl
theorem cd_73_18 : cd 73 18 = some (0, 20, 0, 0, 18, []) := cd_row ac_73 rfl
theorem cd_73_20 : cd 73 20 = some (21, 23, 31, 5, 0, []) := cd_row ac_73 rfl
theorem cd_73_23 : cd 73 23 = some (4, 24, 0, 0, 0, []) := cd_row ac_73 rfl
theorem cd_73_24 : cd 73 24 = some (0, 25, 0, 0, 1, []) := cd_row ac_73 rfl
theorem cd_73_25 : cd 73 25 = some (46, 28, 60, 2, 4, []) := cd_row ac_73 rfl
theorem cd_73_28 : cd 73 28 = some (22, 31, 88, 0, 0, []) := cd_row ac_73 rfl
theorem cd_73_31 : cd 73 31 = some (4, 32, 0, 0, 0, []) := cd_row ac_73 rfl
theorem cd_73_32 : cd 73 32 = some (23, 35, 4, 5, 0, []) := cd_row ac_73 rfl
theorem cd_73_35 : cd 73 35 = some (20, 38, 64, 2, 0, []) := cd_row ac_73 rfl
theorem cd_73_38 : cd 73 38 = some (4, 39, 0, 0, 0, []) := cd_row ac_73 rfl
theorem cd_73_39 : cd 73 39 = some (23, 42, 4, 5, 0, []) := cd_row ac_73 rfl
theorem cd_73_42 : cd 73 42 = some (0, 43, 0, 0, 5, []) := cd_row ac_73 rfl
theorem cd_73_43 : cd 73 43 = some (21, 46, 64, 3, 0, []) := cd_row ac_73 rfl
theorem cd_73_46 : cd 73 46 = some (25, 49, 3, 0, 0, []) := cd_row ac_73 rfl
theorem cd_73_49 : cd 73 49 = some (4, 50, 0, 0, 0, []) := cd_row ac_73 rfl
theorem cd_73_50 : cd 73 50 = some (23, 53, 4, 5, 0, []) := cd_row ac_73 rfl
theorem cd_73_53 : cd 73 53 = some (26, 54, 0, 0, 0, []) := cd_row ac_73 rfl
theorem cd_73_54 : cd 73 54 = some (2, 55, 3, 0, 0, []) := cd_row ac_73 rfl
theorem cd_73_55 : cd 73 55 = some (9, 56, 0, 3, 0, []) := cd_row ac_73 rfl
theorem cd_73_56 : cd 73 56 = some (0, 57, 0, 0, 1, []) := cd_row ac_73 rfl
theorem cd_73_57 : cd 73 57 = some (2, 59, 4, 0, 0, []) := cd_row ac_73 rfl
theorem cd_73_59 : cd 73 59 = some (9, 60, 0, 8, 0, []) := cd_row ac_73 rfl
theorem cd_73_60 : cd 73 60 = some (9, 61, 0, 3, 0, []) := cd_row ac_73 rfl
theorem cd_73_61 : cd 73 61 = some (20, 64, 72, 1, 0, []) := cd_row ac_73 rfl
theorem cd_73_64 : cd 73 64 = some (4, 65, 0, 0, 0, []) := cd_row ac_73 rfl
theorem cd_73_65 : cd 73 65 = some (0, 66, 0, 0, 5, []) := cd_row ac_73 rfl
theorem cd_73_66 : cd 73 66 = some (46, 69, 60, 2, 4, []) := cd_row ac_73 rfl
theorem cd_73_69 : cd 73 69 = some (22, 72, 88, 0, 0, []) := cd_row ac_73 rfl
theorem cd_73_72 : cd 73 72 = some (4, 73, 0, 0, 0, []) := cd_row ac_73 rfl
theorem cd_73_73 : cd 73 73 = some (23, 76, 4, 1, 0, []) := cd_row ac_73 rfl
theorem cd_73_76 : cd 73 76 = some (2, 77, 1, 0, 0, []) := cd_row ac_73 rfl
theorem cd_73_77 : cd 73 77 = some (2, 78, 2, 0, 0, []) := cd_row ac_73 rfl
theorem cd_73_78 : cd 73 78 = some (2, 80, 4, 0, 0, []) := cd_row ac_73 rfl
theorem cd_73_80 : cd 73 80 = some (9, 81, 0, 0, 0, []) := cd_row ac_73 rfl
theorem cd_73_81 : cd 73 81 = some (46, 84, 96, 3, 6, []) := cd_row ac_73 rfl
theorem cd_73_84 : cd 73 84 = some (4, 85, 0, 0, 0, []) := cd_row ac_73 rfl
theorem cd_73_85 : cd 73 85 = some (46, 88, 61, 1, 4, []) := cd_row ac_73 rfl
theorem cd_73_88 : cd 73 88 = some (39, 89, 0, 0, 0, []) := cd_row ac_73 rfl
set_option maxRecDepth 20000 in
theorem ac_96 : allC[96]? = some cl96 := rfl
theorem cd_96_0 : cd 96 0 = some (4, 1, 0, 0, 0, []) := cd_row ac_96 rfl
theorem cd_96_1 : cd 96 1 = some (23, 4, 6, 5, 0, []) := cd_row ac_96 rfl
theorem cd_96_4 : cd 96 4 = some (0, 7, 0, 0, 300, []) := cd_row ac_96 rfl
theorem cd_96_7 : cd 96 7 = some (21, 10, 34, 3, 0, []) := cd_row ac_96 rfl
theorem cd_96_10 : cd 96 10 = some (4, 11, 0, 0, 0, []) := cd_row ac_96 rfl
theorem cd_96_11 : cd 96 11 = some (23, 14, 6, 0, 0, []) := cd_row ac_96 rfl
theorem cd_96_14 : cd 96 14 = some (4, 15, 0, 0, 0, []) := cd_row ac_96 rfl
theorem cd_96_15 : cd 96 15 = some (23, 18, 6, 5, 0, []) := cd_row ac_96 rfl
theorem cd_96_18 : cd 96 18 = some (2, 19, 2, 0, 0, []) := cd_row ac_96 rfl
theorem cd_96_19 : cd 96 19 = some (0, 20, 0, 0, 5, []) := cd_row ac_96 rfl
theorem cd_96_20 : cd 96 20 = some (9, 21, 0, 8, 0, []) := cd_row ac_96 rfl
theorem cd_96_21 : cd 96 21 = some (2, 22, 1, 0, 0, []) := cd_row ac_96 rfl
theorem cd_96_22 : cd 96 22 = some (9, 23, 0, 4, 0, []) := cd_row ac_96 rfl
theorem cd_96_23 : cd 96 23 = some (30, 24, 0, 0, 0, []) := cd_row ac_96 rfl
theorem cd_96_24 : cd 96 24 = some (4, 25, 0, 0, 0, []) := cd_row ac_96 rfl
theorem cd_96_25 : cd 96 25 = some (17, 26, 0, 0, 0, []) := cd_row ac_96 rfl
theorem cd_96_26 : cd 96 26 = some (23, 29, 6, 5, 0, []) := cd_row ac_96 rfl
theorem cd_96_29 : cd 96 29 = some (0, 30, 0, 0, 1, []) := cd_row ac_96 rfl
theorem cd_96_30 : cd 96 30 = some (9, 31, 0, 0, 0, []) := cd_row ac_96 rfl
theorem cd_96_31 : cd 96 31 = some (24, 34, 6, 5, 0, []) := cd_row ac_96 rfl
theorem cd_96_34 : cd 96 34 = some (39, 35, 0, 0, 0, []) := cd_row ac_96 rfl
set_option maxRecDepth 20000 in
theorem ac_97 : allC[97]? = some cl97 := rfl
theorem cd_97_0 : cd 97 0 = some (2, 1, 1, 0, 0, []) := cd_row ac_97 rfl
theorem cd_97_1 : cd 97 1 = some (0, 2, 0, 0, 0, []) := cd_row ac_97 rfl
theorem cd_97_2 : cd 97 2 = some (4, 3, 0, 0, 0, []) := cd_row ac_97 rfl
theorem cd_97_3 : cd 97 3 = some (23, 6, 6, 5, 0, []) := cd_row ac_97 rfl
theorem cd_97_6 : cd 97 6 = some (0, 7, 0, 0, 1, []) := cd_row ac_97 rfl
theorem cd_97_7 : cd 97 7 = some (9, 8, 0, 1, 0, []) := cd_row ac_97 rfl
theorem cd_97_8 : cd 97 8 = some (38, 11, 177, 3, 0, []) := cd_row ac_97 rfl
theorem cd_97_11 : cd 97 11 = some (20, 14, 36, 0, 0, []) := cd_row ac_97 rfl
theorem cd_97_14 : cd 97 14 = some (4, 15, 0, 0, 0, []) := cd_row ac_97 rfl
theorem cd_97_15 : cd 97 15 = some (23, 18, 6, 0, 0, []) := cd_row ac_97 rfl
theorem cd_97_18 : cd 97 18 = some (2, 19, 1, 0, 0, []) := cd_row ac_97 rfl
theorem cd_97_19 : cd 97 19 = some (4, 20, 0, 0, 0, []) := cd_row ac_97 rfl
theorem cd_97_20 : cd 97 20 = some (23, 23, 6, 5, 0, []) := cd_row ac_97 rfl
theorem cd_97_23 : cd 97 23 = some (0, 24, 0, 0, 5, []) := cd_row ac_97 rfl
theorem cd_97_24 : cd 97 24 = some (9, 25, 0, 8, 0, []) := cd_row ac_97 rfl
theorem cd_97_25 : cd 97 25 = some (4, 26, 0, 0, 0, []) := cd_row ac_97 rfl
theorem cd_97_26 : cd 97 26 = some (23, 29, 6, 0, 0, []) := cd_row ac_97 rfl
theorem cd_97_29 : cd 97 29 = some (2, 30, 1, 0, 0, []) := cd_row ac_97 rfl
theorem cd_97_30 : cd 97 30 = some (26, 31, 0, 0, 0, []) := cd_row ac_97 rfl
theorem cd_97_31 : cd 97 31 = some (0, 33, 0, 0, 31, []) := cd_row ac_97 rfl
theorem cd_97_33 : cd 97 33 = some (9, 34, 0, 3, 0, []) := cd_row ac_97 rfl
theorem cd_97_34 : cd 97 34 = some (9, 35, 0, 4, 0, []) := cd_row ac_97 rfl
theorem cd_97_35 : cd 97 35 = some (30, 36, 0, 0, 0, []) := cd_row ac_97 rfl
theorem cd_97_36 : cd 97 36 = some (39, 37, 0, 0, 0, []) := cd_row ac_97 rfl
set_option maxRecDepth 20000 in
theorem ac_99 : allC[99]? = some cl99 := rfl
theorem cd_99_0 : cd 99 0 = some (2, 1, 1, 0, 0, []) := cd_row ac_99 rfl
theorem cd_99_1 : cd 99 1 = some (20, 4, 21, 2, 0, []) := cd_row ac_99 rfl
theorem cd_99_4 : cd 99 4 = some (2, 5, 1, 0, 0, []) := cd_row ac_99 rfl
theorem cd_99_5 : cd 99 5 = some (4, 6, 0, 0, 0, []) := cd_row ac_99 rfl
theorem cd_99_6 : cd 99 6 = some (23, 9, 7, 3, 0, []) := cd_row ac_99 rfl
theorem cd_99_9 : cd 99 9 = some (21, 12, 21, 3, 0, []) := cd_row ac_99 rfl
theorem cd_99_12 : cd 99 12 = some (4, 13, 0, 0, 0, []) := cd_row ac_99 rfl
theorem cd_99_13 : cd 99 13 = some (23, 16, 7, 0, 0, []) := cd_row ac_99 rfl
theorem cd_99_16 : cd 99 16 = some (2, 17, 1, 0, 0, []) := cd_row ac_99 rfl
theorem cd_99_17 : cd 99 17 = some (26, 18, 0, 0, 0, []) := cd_row ac_99 rfl
theorem cd_99_18 : cd 99 18 = some (22, 21, 23, 0, 0, []) := cd_row ac_99 rfl
theorem cd_99_21 : cd 99 21 = some (0, 23, 0, 0, 62, []) := cd_row ac_99 rfl
theorem cd_99_23 : cd 99 23 = some (40, 24, 0, 0, 0, []) := cd_row ac_99 rfl
set_option maxRecDepth 20000 in
theorem ac_100 : allC[100]? = some cl100 := rfl
theorem cd_100_0 : cd 100 0 = some (2, 1, 1, 0, 0, []) := cd_row ac_100 rfl
theorem cd_100_1 : cd 100 1 = some (20, 4, 21, 2, 0, []) := cd_row ac_100 rfl
theorem cd_100_4 : cd 100 4 = some (2, 5, 1, 0, 0, []) := cd_row ac_100 rfl
theorem cd_100_5 : cd 100 5 = some (4, 6, 0, 0, 0, []) := cd_row ac_100 rfl
theorem cd_100_6 : cd 100 6 = some (23, 9, 7, 3, 0, []) := cd_row ac_100 rfl
theorem cd_100_9 : cd 100 9 = some (21, 12, 21, 3, 0, []) := cd_row ac_100 rfl
theorem cd_100_12 : cd 100 12 = some (4, 13, 0, 0, 0, []) := cd_row ac_100 rfl
theorem cd_100_13 : cd 100 13 = some (23, 16, 7, 1, 0, []) := cd_row ac_100 rfl
theorem cd_100_16 : cd 100 16 = some (2, 17, 1, 0, 0, []) := cd_row ac_100 rfl
theorem cd_100_17 : cd 100 17 = some (26, 18, 0, 0, 0, []) := cd_row ac_100 rfl
theorem cd_100_18 : cd 100 18 = some (22, 21, 25, 0, 0, []) := cd_row ac_100 rfl
theorem cd_100_21 : cd 100 21 = some (4, 22, 0, 0, 0, []) := cd_row ac_100 rfl
theorem cd_100_22 : cd 100 22 = some (23, 25, 7, 4, 0, []) := cd_row ac_100 rfl
theorem cd_100_25 : cd 100 25 = some (40, 26, 0, 0, 0, []) := cd_row ac_100 rfl
set_option maxRecDepth 20000 in
theorem ac_101 : allC[101]? = some cl101 := rfl
theorem cd_101_0 : cd 101 0 = some (2, 1, 1, 0, 0, []) := cd_row ac_101 rfl
theorem cd_101_1 : cd 101 1 = some (20, 4, 21, 2, 0, []) := cd_row ac_101 rfl
theorem cd_101_4 : cd 101 4 = some (2, 5, 1, 0, 0, []) := cd_row ac_101 rfl
theorem cd_101_5 : cd 101 5 = some (4, 6, 0, 0, 0, []) := cd_row ac_101 rfl
theorem cd_101_6 : cd 101 6 = some (23, 9, 7, 3, 0, []) := cd_row ac_101 rfl
theorem cd_101_9 : cd 101 9 = some (21, 12, 21, 3, 0, []) := cd_row ac_101 rfl
theorem cd_101_12 : cd 101 12 = some (4, 13, 0, 0, 0, []) := cd_row ac_101 rfl
theorem cd_101_13 : cd 101 13 = some (23, 16, 7, 2, 0, []) := cd_row ac_101 rfl
theorem cd_101_16 : cd 101 16 = some (2, 17, 1, 0, 0, []) := cd_row ac_101 rfl
theorem cd_101_17 : cd 101 17 = some (26, 18, 0, 0, 0, []) := cd_row ac_101 rfl
theorem cd_101_18 : cd 101 18 = some (22, 21, 22, 0, 0, []) := cd_row ac_101 rfl
theorem cd_101_21 : cd 101 21 = some (0, 22, 0, 0, 0, []) := cd_row ac_101 rfl
theorem cd_101_22 : cd 101 22 = some (40, 23, 0, 0, 0, []) := cd_row ac_101 rfl
set_option maxHeartbeats 4000000 in
theorem E_kindAt {d : Nat} {g : AH} {cnt : Nat} {n : Int} {kn vn pn : Nat → Int} (hk : TOK g cnt n kn vn pn) (i : Nat) (Q : Option AV → AH → Prop) : XC (d + 1) 99 [vR 71, vI (i : Int)] g Q = Q (some (vI ((tkf cnt kn vn i).1))) g := by
  obtain ⟨⟨k0, k1⟩, ⟨k2, k3, k4, k5, k6, k7⟩, ⟨k10, k11, k12⟩, k9⟩ := hk
  have c0 : ¬ ((i : Int) < 0) := by omega
  refine XC_eq (Nat.le_of_ble_eq_true rfl) ?_ Q
  show XP d 99 0 [some (vR 71), some (vI (i : Int))] [] g _
  by_cases z : i < cnt
  · have k9 := k9 i (by omega)
    have v := k9.1
    have c1 : ¬ ((cnt : Int) ≤ (i : Int)) := by omega
    have c2 : (0 : Int) ≤ (i : Int) ∧ (i : Int) < 300 := by omega
    have e : (tkf cnt kn vn i).1 = kn i := by unfold tkf; rw [if_pos z]
    rw [e]
    refine xpk_sound (stops := []) (n := 20) ?_
    simp only [sk_0, sk_1, sk_2, sk_3, sk_4, sk_5, sk_6, sk_7, sk_8, sk_iadd, sk_isub, sk_imul, sk_iand, sk_ior, sk_ixor, sk_ishl, sk_ishr, sk_iushr, sk_idiv, sk_irem, sk_ineg, sk_ladd, sk_lsub, sk_lmul, sk_land, sk_lor, sk_ldiv, sk_lrem, sk_lneg, sk_lshl, sk_lshr, sk_i2l, sk_l2i, sk_lcmp, sk_dupI, sk_dupR, sk_dup2L, sk_dup2I, sk_popI, sk_ifeq, sk_ifne, sk_iflt, sk_ifge, sk_ifgt, sk_ifle, sk_iceq, sk_icne, sk_iclt, sk_icge, sk_icgt, sk_icle, sk_goto, sk_getf, sk_putf, sk_gets, sk_iald, sk_lald, sk_bald, sk_aald, sk_iast, sk_last, sk_bast, sk_aast, sk_alen, sk_newa, sk_newt, sk_new, sk_cs1, sk_cs2, sk_cs3, sk_cs4, sk_cs5, sk_cs6, sk_cv1, sk_cv2, sk_cv3, sk_cv4, sk_cv5, sk_cv6, sk_ci1, sk_ci2, sk_ci3, sk_ret0, sk_retI, sk_retL, sk_retR, sk_sw, sk_oin, sk_max, sk_min, sk_abs, lI_0, lI_s, lL_0, lL_s, lR_0, lR_s, vIo_e, vLo_e, vOo_e, stW_I, stW_L, stW_R, stW_0, stW_z, okSt_0, okSt_s, hV_eq, hK_eq, okF_0, okF_1, okF_3, is01_0, is01_1, is01_i, Int.toNat_natCast, Int.reduceEq, Int.reduceLE, Int.reduceLT, Int.reduceNeg, Nat.reduceLT, not_true_eq_false, not_false_eq_true, reduceIte, Option.toList, List.cons_append, List.nil_append, List.set_cons_zero, List.set_cons_succ, List.not_mem_nil, List.mem_cons, if_false, if_true, ite_true, ite_false, and_self, and_true, true_and, Nat.reduceAdd, Nat.reduceLeDiff, Nat.reduceEqDiff, Nat.zero_add, Nat.le_refl, Nat.zero_le, or_false, false_or, Int.reduceToNat, or_true, true_or, eq_self, and_false, false_and, inR_d, nc_4, nc_5, nc_6, nc_7, nc_8, nc_16, nc_18, nc_20, nc_24, nc_32, nc_40, nc_64, nc_104, nc_120, nc_160, nc_256, nc_300, nc_330, nc_390, nc_1200, nc_1260, nc_3012, nc_9834, okSt_1i, okSt_1r, okSt_1n, List.length_cons, List.length_nil, xpk_succ cd_99_0, xpk_succ cd_99_1, xpk_succ cd_99_4, xpk_succ cd_99_5, xpk_succ cd_99_6, xpk_succ cd_99_9, xpk_succ cd_99_12, xpk_succ cd_99_13, xpk_succ cd_99_16, xpk_succ cd_99_17, xpk_succ cd_99_18, xpk_succ cd_99_21, xpk_succ cd_99_23, c0, c1, c2, k2, k3, k4, k5, k6, k7, k10, k11, k12, v, nc_300]
  · have c1 : (cnt : Int) ≤ (i : Int) := by omega
    have e : (tkf cnt kn vn i).1 = 62 := by unfold tkf; rw [if_neg z]
    rw [e]
    refine xpk_sound (stops := []) (n := 20) ?_
    simp only [sk_0, sk_1, sk_2, sk_3, sk_4, sk_5, sk_6, sk_7, sk_8, sk_iadd, sk_isub, sk_imul, sk_iand, sk_ior, sk_ixor, sk_ishl, sk_ishr, sk_iushr, sk_idiv, sk_irem, sk_ineg, sk_ladd, sk_lsub, sk_lmul, sk_land, sk_lor, sk_ldiv, sk_lrem, sk_lneg, sk_lshl, sk_lshr, sk_i2l, sk_l2i, sk_lcmp, sk_dupI, sk_dupR, sk_dup2L, sk_dup2I, sk_popI, sk_ifeq, sk_ifne, sk_iflt, sk_ifge, sk_ifgt, sk_ifle, sk_iceq, sk_icne, sk_iclt, sk_icge, sk_icgt, sk_icle, sk_goto, sk_getf, sk_putf, sk_gets, sk_iald, sk_lald, sk_bald, sk_aald, sk_iast, sk_last, sk_bast, sk_aast, sk_alen, sk_newa, sk_newt, sk_new, sk_cs1, sk_cs2, sk_cs3, sk_cs4, sk_cs5, sk_cs6, sk_cv1, sk_cv2, sk_cv3, sk_cv4, sk_cv5, sk_cv6, sk_ci1, sk_ci2, sk_ci3, sk_ret0, sk_retI, sk_retL, sk_retR, sk_sw, sk_oin, sk_max, sk_min, sk_abs, lI_0, lI_s, lL_0, lL_s, lR_0, lR_s, vIo_e, vLo_e, vOo_e, stW_I, stW_L, stW_R, stW_0, stW_z, okSt_0, okSt_s, hV_eq, hK_eq, okF_0, okF_1, okF_3, is01_0, is01_1, is01_i, Int.toNat_natCast, Int.reduceEq, Int.reduceLE, Int.reduceLT, Int.reduceNeg, Nat.reduceLT, not_true_eq_false, not_false_eq_true, reduceIte, Option.toList, List.cons_append, List.nil_append, List.set_cons_zero, List.set_cons_succ, List.not_mem_nil, List.mem_cons, if_false, if_true, ite_true, ite_false, and_self, and_true, true_and, Nat.reduceAdd, Nat.reduceLeDiff, Nat.reduceEqDiff, Nat.zero_add, Nat.le_refl, Nat.zero_le, or_false, false_or, Int.reduceToNat, or_true, true_or, eq_self, and_false, false_and, inR_d, nc_4, nc_5, nc_6, nc_7, nc_8, nc_16, nc_18, nc_20, nc_24, nc_32, nc_40, nc_64, nc_104, nc_120, nc_160, nc_256, nc_300, nc_330, nc_390, nc_1200, nc_1260, nc_3012, nc_9834, okSt_1i, okSt_1r, okSt_1n, List.length_cons, List.length_nil, xpk_succ cd_99_0, xpk_succ cd_99_1, xpk_succ cd_99_4, xpk_succ cd_99_5, xpk_succ cd_99_6, xpk_succ cd_99_9, xpk_succ cd_99_12, xpk_succ cd_99_13, xpk_succ cd_99_16, xpk_succ cd_99_17, xpk_succ cd_99_18, xpk_succ cd_99_21, xpk_succ cd_99_23, c0, c1, k2, k3, k4, k5, k6, k7, k10, k11, k12]
set_option maxHeartbeats 4000000 in
theorem E_placeAt {d : Nat} {g : AH} {cnt : Nat} {n : Int} {kn vn pn : Nat → Int} (hk : TOK g cnt n kn vn pn) (i : Nat) (Q : Option AV → AH → Prop) : XC (d + 1) 100 [vR 71, vI (i : Int)] g Q = Q (some (vI (plf cnt n pn i))) g := by
  obtain ⟨⟨k0, k1⟩, ⟨k2, k3, k4, k5, k6, k7⟩, ⟨k10, k11, k12⟩, k9⟩ := hk
  have c0 : ¬ ((i : Int) < 0) := by omega
  refine XC_eq (Nat.le_of_ble_eq_true rfl) ?_ Q
  show XP d 100 0 [some (vR 71), some (vI (i : Int))] [] g _
  by_cases z : i < cnt
  · have k9 := k9 i (by omega)
    have v := k9.2.1
    have c1 : ¬ ((cnt : Int) ≤ (i : Int)) := by omega
    have c2 : (0 : Int) ≤ (i : Int) ∧ (i : Int) < 300 := by omega
    have e : plf cnt n pn i = pn i := by unfold plf; rw [if_pos z]
    rw [e]
    refine xpk_sound (stops := []) (n := 20) ?_
    simp only [sk_0, sk_1, sk_2, sk_3, sk_4, sk_5, sk_6, sk_7, sk_8, sk_iadd, sk_isub, sk_imul, sk_iand, sk_ior, sk_ixor, sk_ishl, sk_ishr, sk_iushr, sk_idiv, sk_irem, sk_ineg, sk_ladd, sk_lsub, sk_lmul, sk_land, sk_lor, sk_ldiv, sk_lrem, sk_lneg, sk_lshl, sk_lshr, sk_i2l, sk_l2i, sk_lcmp, sk_dupI, sk_dupR, sk_dup2L, sk_dup2I, sk_popI, sk_ifeq, sk_ifne, sk_iflt, sk_ifge, sk_ifgt, sk_ifle, sk_iceq, sk_icne, sk_iclt, sk_icge, sk_icgt, sk_icle, sk_goto, sk_getf, sk_putf, sk_gets, sk_iald, sk_lald, sk_bald, sk_aald, sk_iast, sk_last, sk_bast, sk_aast, sk_alen, sk_newa, sk_newt, sk_new, sk_cs1, sk_cs2, sk_cs3, sk_cs4, sk_cs5, sk_cs6, sk_cv1, sk_cv2, sk_cv3, sk_cv4, sk_cv5, sk_cv6, sk_ci1, sk_ci2, sk_ci3, sk_ret0, sk_retI, sk_retL, sk_retR, sk_sw, sk_oin, sk_max, sk_min, sk_abs, lI_0, lI_s, lL_0, lL_s, lR_0, lR_s, vIo_e, vLo_e, vOo_e, stW_I, stW_L, stW_R, stW_0, stW_z, okSt_0, okSt_s, hV_eq, hK_eq, okF_0, okF_1, okF_3, is01_0, is01_1, is01_i, Int.toNat_natCast, Int.reduceEq, Int.reduceLE, Int.reduceLT, Int.reduceNeg, Nat.reduceLT, not_true_eq_false, not_false_eq_true, reduceIte, Option.toList, List.cons_append, List.nil_append, List.set_cons_zero, List.set_cons_succ, List.not_mem_nil, List.mem_cons, if_false, if_true, ite_true, ite_false, and_self, and_true, true_and, Nat.reduceAdd, Nat.reduceLeDiff, Nat.reduceEqDiff, Nat.zero_add, Nat.le_refl, Nat.zero_le, or_false, false_or, Int.reduceToNat, or_true, true_or, eq_self, and_false, false_and, inR_d, nc_4, nc_5, nc_6, nc_7, nc_8, nc_16, nc_18, nc_20, nc_24, nc_32, nc_40, nc_64, nc_104, nc_120, nc_160, nc_256, nc_300, nc_330, nc_390, nc_1200, nc_1260, nc_3012, nc_9834, okSt_1i, okSt_1r, okSt_1n, List.length_cons, List.length_nil, xpk_succ cd_100_0, xpk_succ cd_100_1, xpk_succ cd_100_4, xpk_succ cd_100_5, xpk_succ cd_100_6, xpk_succ cd_100_9, xpk_succ cd_100_12, xpk_succ cd_100_13, xpk_succ cd_100_16, xpk_succ cd_100_17, xpk_succ cd_100_18, xpk_succ cd_100_21, xpk_succ cd_100_22, xpk_succ cd_100_25, c0, c1, c2, k2, k3, k4, k5, k6, k7, k10, k11, k12, v, nc_300]
  · have c1 : (cnt : Int) ≤ (i : Int) := by omega
    have e : plf cnt n pn i = n := by unfold plf; rw [if_neg z]
    rw [e]
    refine xpk_sound (stops := []) (n := 20) ?_
    simp only [sk_0, sk_1, sk_2, sk_3, sk_4, sk_5, sk_6, sk_7, sk_8, sk_iadd, sk_isub, sk_imul, sk_iand, sk_ior, sk_ixor, sk_ishl, sk_ishr, sk_iushr, sk_idiv, sk_irem, sk_ineg, sk_ladd, sk_lsub, sk_lmul, sk_land, sk_lor, sk_ldiv, sk_lrem, sk_lneg, sk_lshl, sk_lshr, sk_i2l, sk_l2i, sk_lcmp, sk_dupI, sk_dupR, sk_dup2L, sk_dup2I, sk_popI, sk_ifeq, sk_ifne, sk_iflt, sk_ifge, sk_ifgt, sk_ifle, sk_iceq, sk_icne, sk_iclt, sk_icge, sk_icgt, sk_icle, sk_goto, sk_getf, sk_putf, sk_gets, sk_iald, sk_lald, sk_bald, sk_aald, sk_iast, sk_last, sk_bast, sk_aast, sk_alen, sk_newa, sk_newt, sk_new, sk_cs1, sk_cs2, sk_cs3, sk_cs4, sk_cs5, sk_cs6, sk_cv1, sk_cv2, sk_cv3, sk_cv4, sk_cv5, sk_cv6, sk_ci1, sk_ci2, sk_ci3, sk_ret0, sk_retI, sk_retL, sk_retR, sk_sw, sk_oin, sk_max, sk_min, sk_abs, lI_0, lI_s, lL_0, lL_s, lR_0, lR_s, vIo_e, vLo_e, vOo_e, stW_I, stW_L, stW_R, stW_0, stW_z, okSt_0, okSt_s, hV_eq, hK_eq, okF_0, okF_1, okF_3, is01_0, is01_1, is01_i, Int.toNat_natCast, Int.reduceEq, Int.reduceLE, Int.reduceLT, Int.reduceNeg, Nat.reduceLT, not_true_eq_false, not_false_eq_true, reduceIte, Option.toList, List.cons_append, List.nil_append, List.set_cons_zero, List.set_cons_succ, List.not_mem_nil, List.mem_cons, if_false, if_true, ite_true, ite_false, and_self, and_true, true_and, Nat.reduceAdd, Nat.reduceLeDiff, Nat.reduceEqDiff, Nat.zero_add, Nat.le_refl, Nat.zero_le, or_false, false_or, Int.reduceToNat, or_true, true_or, eq_self, and_false, false_and, inR_d, nc_4, nc_5, nc_6, nc_7, nc_8, nc_16, nc_18, nc_20, nc_24, nc_32, nc_40, nc_64, nc_104, nc_120, nc_160, nc_256, nc_300, nc_330, nc_390, nc_1200, nc_1260, nc_3012, nc_9834, okSt_1i, okSt_1r, okSt_1n, List.length_cons, List.length_nil, xpk_succ cd_100_0, xpk_succ cd_100_1, xpk_succ cd_100_4, xpk_succ cd_100_5, xpk_succ cd_100_6, xpk_succ cd_100_9, xpk_succ cd_100_12, xpk_succ cd_100_13, xpk_succ cd_100_16, xpk_succ cd_100_17, xpk_succ cd_100_18, xpk_succ cd_100_21, xpk_succ cd_100_22, xpk_succ cd_100_25, c0, c1, k2, k3, k4, k5, k6, k7, k10, k11, k12]
set_option maxHeartbeats 4000000 in
theorem E_valueAt {d : Nat} {g : AH} {cnt : Nat} {n : Int} {kn vn pn : Nat → Int} (hk : TOK g cnt n kn vn pn) (i : Nat) (Q : Option AV → AH → Prop) : XC (d + 1) 101 [vR 71, vI (i : Int)] g Q = Q (some (vI ((tkf cnt kn vn i).2))) g := by
  obtain ⟨⟨k0, k1⟩, ⟨k2, k3, k4, k5, k6, k7⟩, ⟨k10, k11, k12⟩, k9⟩ := hk
  have c0 : ¬ ((i : Int) < 0) := by omega
  refine XC_eq (Nat.le_of_ble_eq_true rfl) ?_ Q
  show XP d 101 0 [some (vR 71), some (vI (i : Int))] [] g _
  by_cases z : i < cnt
  · have k9 := k9 i (by omega)
    have v := k9.2.2
    have c1 : ¬ ((cnt : Int) ≤ (i : Int)) := by omega
    have c2 : (0 : Int) ≤ (i : Int) ∧ (i : Int) < 300 := by omega
    have e : (tkf cnt kn vn i).2 = vn i := by unfold tkf; rw [if_pos z]
    rw [e]
    refine xpk_sound (stops := []) (n := 20) ?_
    simp only [sk_0, sk_1, sk_2, sk_3, sk_4, sk_5, sk_6, sk_7, sk_8, sk_iadd, sk_isub, sk_imul, sk_iand, sk_ior, sk_ixor, sk_ishl, sk_ishr, sk_iushr, sk_idiv, sk_irem, sk_ineg, sk_ladd, sk_lsub, sk_lmul, sk_land, sk_lor, sk_ldiv, sk_lrem, sk_lneg, sk_lshl, sk_lshr, sk_i2l, sk_l2i, sk_lcmp, sk_dupI, sk_dupR, sk_dup2L, sk_dup2I, sk_popI, sk_ifeq, sk_ifne, sk_iflt, sk_ifge, sk_ifgt, sk_ifle, sk_iceq, sk_icne, sk_iclt, sk_icge, sk_icgt, sk_icle, sk_goto, sk_getf, sk_putf, sk_gets, sk_iald, sk_lald, sk_bald, sk_aald, sk_iast, sk_last, sk_bast, sk_aast, sk_alen, sk_newa, sk_newt, sk_new, sk_cs1, sk_cs2, sk_cs3, sk_cs4, sk_cs5, sk_cs6, sk_cv1, sk_cv2, sk_cv3, sk_cv4, sk_cv5, sk_cv6, sk_ci1, sk_ci2, sk_ci3, sk_ret0, sk_retI, sk_retL, sk_retR, sk_sw, sk_oin, sk_max, sk_min, sk_abs, lI_0, lI_s, lL_0, lL_s, lR_0, lR_s, vIo_e, vLo_e, vOo_e, stW_I, stW_L, stW_R, stW_0, stW_z, okSt_0, okSt_s, hV_eq, hK_eq, okF_0, okF_1, okF_3, is01_0, is01_1, is01_i, Int.toNat_natCast, Int.reduceEq, Int.reduceLE, Int.reduceLT, Int.reduceNeg, Nat.reduceLT, not_true_eq_false, not_false_eq_true, reduceIte, Option.toList, List.cons_append, List.nil_append, List.set_cons_zero, List.set_cons_succ, List.not_mem_nil, List.mem_cons, if_false, if_true, ite_true, ite_false, and_self, and_true, true_and, Nat.reduceAdd, Nat.reduceLeDiff, Nat.reduceEqDiff, Nat.zero_add, Nat.le_refl, Nat.zero_le, or_false, false_or, Int.reduceToNat, or_true, true_or, eq_self, and_false, false_and, inR_d, nc_4, nc_5, nc_6, nc_7, nc_8, nc_16, nc_18, nc_20, nc_24, nc_32, nc_40, nc_64, nc_104, nc_120, nc_160, nc_256, nc_300, nc_330, nc_390, nc_1200, nc_1260, nc_3012, nc_9834, okSt_1i, okSt_1r, okSt_1n, List.length_cons, List.length_nil, xpk_succ cd_101_0, xpk_succ cd_101_1, xpk_succ cd_101_4, xpk_succ cd_101_5, xpk_succ cd_101_6, xpk_succ cd_101_9, xpk_succ cd_101_12, xpk_succ cd_101_13, xpk_succ cd_101_16, xpk_succ cd_101_17, xpk_succ cd_101_18, xpk_succ cd_101_21, xpk_succ cd_101_22, c0, c1, c2, k2, k3, k4, k5, k6, k7, k10, k11, k12, v, nc_300]
  · have c1 : (cnt : Int) ≤ (i : Int) := by omega
    have e : (tkf cnt kn vn i).2 = 0 := by unfold tkf; rw [if_neg z]
    rw [e]
    refine xpk_sound (stops := []) (n := 20) ?_
    simp only [sk_0, sk_1, sk_2, sk_3, sk_4, sk_5, sk_6, sk_7, sk_8, sk_iadd, sk_isub, sk_imul, sk_iand, sk_ior, sk_ixor, sk_ishl, sk_ishr, sk_iushr, sk_idiv, sk_irem, sk_ineg, sk_ladd, sk_lsub, sk_lmul, sk_land, sk_lor, sk_ldiv, sk_lrem, sk_lneg, sk_lshl, sk_lshr, sk_i2l, sk_l2i, sk_lcmp, sk_dupI, sk_dupR, sk_dup2L, sk_dup2I, sk_popI, sk_ifeq, sk_ifne, sk_iflt, sk_ifge, sk_ifgt, sk_ifle, sk_iceq, sk_icne, sk_iclt, sk_icge, sk_icgt, sk_icle, sk_goto, sk_getf, sk_putf, sk_gets, sk_iald, sk_lald, sk_bald, sk_aald, sk_iast, sk_last, sk_bast, sk_aast, sk_alen, sk_newa, sk_newt, sk_new, sk_cs1, sk_cs2, sk_cs3, sk_cs4, sk_cs5, sk_cs6, sk_cv1, sk_cv2, sk_cv3, sk_cv4, sk_cv5, sk_cv6, sk_ci1, sk_ci2, sk_ci3, sk_ret0, sk_retI, sk_retL, sk_retR, sk_sw, sk_oin, sk_max, sk_min, sk_abs, lI_0, lI_s, lL_0, lL_s, lR_0, lR_s, vIo_e, vLo_e, vOo_e, stW_I, stW_L, stW_R, stW_0, stW_z, okSt_0, okSt_s, hV_eq, hK_eq, okF_0, okF_1, okF_3, is01_0, is01_1, is01_i, Int.toNat_natCast, Int.reduceEq, Int.reduceLE, Int.reduceLT, Int.reduceNeg, Nat.reduceLT, not_true_eq_false, not_false_eq_true, reduceIte, Option.toList, List.cons_append, List.nil_append, List.set_cons_zero, List.set_cons_succ, List.not_mem_nil, List.mem_cons, if_false, if_true, ite_true, ite_false, and_self, and_true, true_and, Nat.reduceAdd, Nat.reduceLeDiff, Nat.reduceEqDiff, Nat.zero_add, Nat.le_refl, Nat.zero_le, or_false, false_or, Int.reduceToNat, or_true, true_or, eq_self, and_false, false_and, inR_d, nc_4, nc_5, nc_6, nc_7, nc_8, nc_16, nc_18, nc_20, nc_24, nc_32, nc_40, nc_64, nc_104, nc_120, nc_160, nc_256, nc_300, nc_330, nc_390, nc_1200, nc_1260, nc_3012, nc_9834, okSt_1i, okSt_1r, okSt_1n, List.length_cons, List.length_nil, xpk_succ cd_101_0, xpk_succ cd_101_1, xpk_succ cd_101_4, xpk_succ cd_101_5, xpk_succ cd_101_6, xpk_succ cd_101_9, xpk_succ cd_101_12, xpk_succ cd_101_13, xpk_succ cd_101_16, xpk_succ cd_101_17, xpk_succ cd_101_18, xpk_succ cd_101_21, xpk_succ cd_101_22, c0, c1, k2, k3, k4, k5, k6, k7, k10, k11, k12]
set_option maxHeartbeats 4000000 in
theorem E_step {d : Nat} {h : AH} {T D cnt : Nat} {n : Int} {kn vn pn : Nat → Int} (hb : RDB h T D) (hk : TOK h cnt n kn vn pn) {j L : Nat} {b c l f p : Int} {dd : Nat → Int} (hj : j < 1000) (Q : Option AV → AH → Prop) : XC (d + 2) 61 [vR 70] (hR h T D (j : Int) b c l f p L dd) Q = Q none (hR h T D ((j + 1 : Nat) : Int) ((tkf cnt kn vn (j + 1)).1) c l f p L dd) := by
  have w1 : w32 ((j : Int) + 1) = ((j + 1 : Nat) : Int) := by unfold w32; omega
  have hjq : ¬ (1000 ≤ j) := by omega
  refine XC_eq (Nat.le_of_ble_eq_true rfl) ?_ Q
  show XP (d + 1) 61 0 [some (vR 70)] [] (hR h T D (j : Int) b c l f p L dd) _
  refine xpk_sound (stops := []) (n := 40) ?_
  simp only [sk_0, sk_1, sk_2, sk_3, sk_4, sk_5, sk_6, sk_7, sk_8, sk_iadd, sk_isub, sk_imul, sk_iand, sk_ior, sk_ixor, sk_ishl, sk_ishr, sk_iushr, sk_idiv, sk_irem, sk_ineg, sk_ladd, sk_lsub, sk_lmul, sk_land, sk_lor, sk_ldiv, sk_lrem, sk_lneg, sk_lshl, sk_lshr, sk_i2l, sk_l2i, sk_lcmp, sk_dupI, sk_dupR, sk_dup2L, sk_dup2I, sk_popI, sk_ifeq, sk_ifne, sk_iflt, sk_ifge, sk_ifgt, sk_ifle, sk_iceq, sk_icne, sk_iclt, sk_icge, sk_icgt, sk_icle, sk_goto, sk_getf, sk_putf, sk_gets, sk_iald, sk_lald, sk_bald, sk_aald, sk_iast, sk_last, sk_bast, sk_aast, sk_alen, sk_newa, sk_newt, sk_new, sk_cs1, sk_cs2, sk_cs3, sk_cs4, sk_cs5, sk_cs6, sk_cv1, sk_cv2, sk_cv3, sk_cv4, sk_cv5, sk_cv6, sk_ci1, sk_ci2, sk_ci3, sk_ret0, sk_retI, sk_retL, sk_retR, sk_sw, sk_oin, sk_max, sk_min, sk_abs, lI_0, lI_s, lL_0, lL_s, lR_0, lR_s, vIo_e, vLo_e, vOo_e, stW_I, stW_L, stW_R, stW_0, stW_z, okSt_0, okSt_s, hV_eq, hK_eq, okF_0, okF_1, okF_3, is01_0, is01_1, is01_i, Int.toNat_natCast, Int.reduceEq, Int.reduceLE, Int.reduceLT, Int.reduceNeg, Nat.reduceLT, not_true_eq_false, not_false_eq_true, reduceIte, Option.toList, List.cons_append, List.nil_append, List.set_cons_zero, List.set_cons_succ, List.not_mem_nil, List.mem_cons, if_false, if_true, ite_true, ite_false, and_self, and_true, true_and, Nat.reduceAdd, Nat.reduceLeDiff, Nat.reduceEqDiff, Nat.zero_add, Nat.le_refl, Nat.zero_le, or_false, false_or, Int.reduceToNat, or_true, true_or, eq_self, and_false, false_and, inR_d, nc_4, nc_5, nc_6, nc_7, nc_8, nc_16, nc_18, nc_20, nc_24, nc_32, nc_40, nc_64, nc_104, nc_120, nc_160, nc_256, nc_300, nc_330, nc_390, nc_1200, nc_1260, nc_3012, nc_9834, okSt_1i, okSt_1r, okSt_1n, List.length_cons, List.length_nil, xpk_succ cd_61_0, xpk_succ cd_61_1, xpk_succ cd_61_2, xpk_succ cd_61_5, xpk_succ cd_61_6, xpk_succ cd_61_7, xpk_succ cd_61_10, xpk_succ cd_61_11, xpk_succ cd_61_12, xpk_succ cd_61_15, xpk_succ cd_61_16, xpk_succ cd_61_19, xpk_succ cd_61_22, xpk_succ cd_61_25, hR_2, hR_3, hR_4, hR_5, hR_6, hR_7, hR_s2, hR_s3, hR_s4, hR_s5, hR_s6, hR_s7, (hR_T hb.1), (hR_sT hb.1), (R_0 hb), (R_1 hb), (R_T0 hb), (R_N hb), hK_R, hb.2.1.1, hk.2.1.1, hb.2.2.1.1, hb.2.2.1.2.2, hb.2.2.2.1, (E_kindAt (TOK_R hb.1 hk)), (E_placeAt (TOK_R hb.1 hk)), (E_valueAt (TOK_R hb.1 hk)), w1, hjq, hj]
set_option maxHeartbeats 4000000 in
theorem E_fail {d : Nat} {h : AH} {T D cnt : Nat} {n : Int} {kn vn pn : Nat → Int} (hb : RDB h T D) (hk : TOK h cnt n kn vn pn) {j L : Nat} {b c l p : Int} {dd : Nat → Int} {x : Int} (Q : Option AV → AH → Prop) : XC (d + 2) 60 [vR 70, vI x] (hR h T D (j : Int) b c l 0 p L dd) Q = Q none (hR h T D (j : Int) 63 c l x (plf cnt n pn j) L dd) := by
  refine XC_eq (Nat.le_of_ble_eq_true rfl) ?_ Q
  show XP (d + 1) 60 0 [some (vR 70), some (vI x)] [] (hR h T D (j : Int) b c l 0 p L dd) _
  refine xpk_sound (stops := []) (n := 40) ?_
  simp only [sk_0, sk_1, sk_2, sk_3, sk_4, sk_5, sk_6, sk_7, sk_8, sk_iadd, sk_isub, sk_imul, sk_iand, sk_ior, sk_ixor, sk_ishl, sk_ishr, sk_iushr, sk_idiv, sk_irem, sk_ineg, sk_ladd, sk_lsub, sk_lmul, sk_land, sk_lor, sk_ldiv, sk_lrem, sk_lneg, sk_lshl, sk_lshr, sk_i2l, sk_l2i, sk_lcmp, sk_dupI, sk_dupR, sk_dup2L, sk_dup2I, sk_popI, sk_ifeq, sk_ifne, sk_iflt, sk_ifge, sk_ifgt, sk_ifle, sk_iceq, sk_icne, sk_iclt, sk_icge, sk_icgt, sk_icle, sk_goto, sk_getf, sk_putf, sk_gets, sk_iald, sk_lald, sk_bald, sk_aald, sk_iast, sk_last, sk_bast, sk_aast, sk_alen, sk_newa, sk_newt, sk_new, sk_cs1, sk_cs2, sk_cs3, sk_cs4, sk_cs5, sk_cs6, sk_cv1, sk_cv2, sk_cv3, sk_cv4, sk_cv5, sk_cv6, sk_ci1, sk_ci2, sk_ci3, sk_ret0, sk_retI, sk_retL, sk_retR, sk_sw, sk_oin, sk_max, sk_min, sk_abs, lI_0, lI_s, lL_0, lL_s, lR_0, lR_s, vIo_e, vLo_e, vOo_e, stW_I, stW_L, stW_R, stW_0, stW_z, okSt_0, okSt_s, hV_eq, hK_eq, okF_0, okF_1, okF_3, is01_0, is01_1, is01_i, Int.toNat_natCast, Int.reduceEq, Int.reduceLE, Int.reduceLT, Int.reduceNeg, Nat.reduceLT, not_true_eq_false, not_false_eq_true, reduceIte, Option.toList, List.cons_append, List.nil_append, List.set_cons_zero, List.set_cons_succ, List.not_mem_nil, List.mem_cons, if_false, if_true, ite_true, ite_false, and_self, and_true, true_and, Nat.reduceAdd, Nat.reduceLeDiff, Nat.reduceEqDiff, Nat.zero_add, Nat.le_refl, Nat.zero_le, or_false, false_or, Int.reduceToNat, or_true, true_or, eq_self, and_false, false_and, inR_d, nc_4, nc_5, nc_6, nc_7, nc_8, nc_16, nc_18, nc_20, nc_24, nc_32, nc_40, nc_64, nc_104, nc_120, nc_160, nc_256, nc_300, nc_330, nc_390, nc_1200, nc_1260, nc_3012, nc_9834, okSt_1i, okSt_1r, okSt_1n, List.length_cons, List.length_nil, xpk_succ cd_60_0, xpk_succ cd_60_1, xpk_succ cd_60_4, xpk_succ cd_60_7, xpk_succ cd_60_8, xpk_succ cd_60_9, xpk_succ cd_60_12, xpk_succ cd_60_13, xpk_succ cd_60_14, xpk_succ cd_60_17, xpk_succ cd_60_18, xpk_succ cd_60_21, xpk_succ cd_60_24, xpk_succ cd_60_27, xpk_succ cd_60_28, xpk_succ cd_60_30, xpk_succ cd_60_33, hR_2, hR_3, hR_4, hR_5, hR_6, hR_7, hR_s2, hR_s3, hR_s4, hR_s5, hR_s6, hR_s7, (hR_T hb.1), (hR_sT hb.1), (R_0 hb), (R_1 hb), (R_T0 hb), (R_N hb), hK_R, hb.2.1.1, hk.2.1.1, hb.2.2.1.1, hb.2.2.1.2.2, hb.2.2.2.1, (E_kindAt (TOK_R hb.1 hk)), (E_placeAt (TOK_R hb.1 hk)), (E_valueAt (TOK_R hb.1 hk))]
set_option maxHeartbeats 4000000 in
theorem E_failn {d : Nat} {h : AH} {T D cnt : Nat} {n : Int} {kn vn pn : Nat → Int} (hb : RDB h T D) (hk : TOK h cnt n kn vn pn) {j L : Nat} {b c l f p : Int} {dd : Nat → Int} {x : Int} (hf : f ≠ 0) (Q : Option AV → AH → Prop) : XC (d + 2) 60 [vR 70, vI x] (hR h T D (j : Int) b c l f p L dd) Q = Q none (hR h T D (j : Int) b c l f p L dd) := by
  refine XC_eq (Nat.le_of_ble_eq_true rfl) ?_ Q
  show XP (d + 1) 60 0 [some (vR 70), some (vI x)] [] (hR h T D (j : Int) b c l f p L dd) _
  refine xpk_sound (stops := []) (n := 40) ?_
  simp only [sk_0, sk_1, sk_2, sk_3, sk_4, sk_5, sk_6, sk_7, sk_8, sk_iadd, sk_isub, sk_imul, sk_iand, sk_ior, sk_ixor, sk_ishl, sk_ishr, sk_iushr, sk_idiv, sk_irem, sk_ineg, sk_ladd, sk_lsub, sk_lmul, sk_land, sk_lor, sk_ldiv, sk_lrem, sk_lneg, sk_lshl, sk_lshr, sk_i2l, sk_l2i, sk_lcmp, sk_dupI, sk_dupR, sk_dup2L, sk_dup2I, sk_popI, sk_ifeq, sk_ifne, sk_iflt, sk_ifge, sk_ifgt, sk_ifle, sk_iceq, sk_icne, sk_iclt, sk_icge, sk_icgt, sk_icle, sk_goto, sk_getf, sk_putf, sk_gets, sk_iald, sk_lald, sk_bald, sk_aald, sk_iast, sk_last, sk_bast, sk_aast, sk_alen, sk_newa, sk_newt, sk_new, sk_cs1, sk_cs2, sk_cs3, sk_cs4, sk_cs5, sk_cs6, sk_cv1, sk_cv2, sk_cv3, sk_cv4, sk_cv5, sk_cv6, sk_ci1, sk_ci2, sk_ci3, sk_ret0, sk_retI, sk_retL, sk_retR, sk_sw, sk_oin, sk_max, sk_min, sk_abs, lI_0, lI_s, lL_0, lL_s, lR_0, lR_s, vIo_e, vLo_e, vOo_e, stW_I, stW_L, stW_R, stW_0, stW_z, okSt_0, okSt_s, hV_eq, hK_eq, okF_0, okF_1, okF_3, is01_0, is01_1, is01_i, Int.toNat_natCast, Int.reduceEq, Int.reduceLE, Int.reduceLT, Int.reduceNeg, Nat.reduceLT, not_true_eq_false, not_false_eq_true, reduceIte, Option.toList, List.cons_append, List.nil_append, List.set_cons_zero, List.set_cons_succ, List.not_mem_nil, List.mem_cons, if_false, if_true, ite_true, ite_false, and_self, and_true, true_and, Nat.reduceAdd, Nat.reduceLeDiff, Nat.reduceEqDiff, Nat.zero_add, Nat.le_refl, Nat.zero_le, or_false, false_or, Int.reduceToNat, or_true, true_or, eq_self, and_false, false_and, inR_d, nc_4, nc_5, nc_6, nc_7, nc_8, nc_16, nc_18, nc_20, nc_24, nc_32, nc_40, nc_64, nc_104, nc_120, nc_160, nc_256, nc_300, nc_330, nc_390, nc_1200, nc_1260, nc_3012, nc_9834, okSt_1i, okSt_1r, okSt_1n, List.length_cons, List.length_nil, xpk_succ cd_60_0, xpk_succ cd_60_1, xpk_succ cd_60_4, xpk_succ cd_60_7, xpk_succ cd_60_8, xpk_succ cd_60_9, xpk_succ cd_60_12, xpk_succ cd_60_13, xpk_succ cd_60_14, xpk_succ cd_60_17, xpk_succ cd_60_18, xpk_succ cd_60_21, xpk_succ cd_60_24, xpk_succ cd_60_27, xpk_succ cd_60_28, xpk_succ cd_60_30, xpk_succ cd_60_33, hR_2, hR_3, hR_4, hR_5, hR_6, hR_7, hR_s2, hR_s3, hR_s4, hR_s5, hR_s6, hR_s7, (hR_T hb.1), (hR_sT hb.1), (R_0 hb), (R_1 hb), (R_T0 hb), (R_N hb), hK_R, hb.2.1.1, hk.2.1.1, hb.2.2.1.1, hb.2.2.1.2.2, hb.2.2.2.1, (E_kindAt (TOK_R hb.1 hk)), (E_placeAt (TOK_R hb.1 hk)), (E_valueAt (TOK_R hb.1 hk)), hf]
set_option maxHeartbeats 4000000 in
theorem E_take {d : Nat} {h : AH} {T D cnt : Nat} {n : Int} {kn vn pn : Nat → Int} (hb : RDB h T D) (hk : TOK h cnt n kn vn pn) {j L : Nat} {b c l f p : Int} {dd : Nat → Int} {x : Int} (hj : j < 1000) (hx : b = x) (Q : Option AV → AH → Prop) : XC (d + 3) 62 [vR 70, vI x] (hR h T D (j : Int) b c l f p L dd) Q = Q none (hR h T D ((j + 1 : Nat) : Int) ((tkf cnt kn vn (j + 1)).1) c l f p L dd) := by
  have hjq : ¬ (1000 ≤ j) := by omega
  refine XC_eq (Nat.le_of_ble_eq_true rfl) ?_ Q
  show XP (d + 2) 62 0 [some (vR 70), some (vI x)] [] (hR h T D (j : Int) b c l f p L dd) _
  refine xpk_sound (stops := []) (n := 40) ?_
  simp only [sk_0, sk_1, sk_2, sk_3, sk_4, sk_5, sk_6, sk_7, sk_8, sk_iadd, sk_isub, sk_imul, sk_iand, sk_ior, sk_ixor, sk_ishl, sk_ishr, sk_iushr, sk_idiv, sk_irem, sk_ineg, sk_ladd, sk_lsub, sk_lmul, sk_land, sk_lor, sk_ldiv, sk_lrem, sk_lneg, sk_lshl, sk_lshr, sk_i2l, sk_l2i, sk_lcmp, sk_dupI, sk_dupR, sk_dup2L, sk_dup2I, sk_popI, sk_ifeq, sk_ifne, sk_iflt, sk_ifge, sk_ifgt, sk_ifle, sk_iceq, sk_icne, sk_iclt, sk_icge, sk_icgt, sk_icle, sk_goto, sk_getf, sk_putf, sk_gets, sk_iald, sk_lald, sk_bald, sk_aald, sk_iast, sk_last, sk_bast, sk_aast, sk_alen, sk_newa, sk_newt, sk_new, sk_cs1, sk_cs2, sk_cs3, sk_cs4, sk_cs5, sk_cs6, sk_cv1, sk_cv2, sk_cv3, sk_cv4, sk_cv5, sk_cv6, sk_ci1, sk_ci2, sk_ci3, sk_ret0, sk_retI, sk_retL, sk_retR, sk_sw, sk_oin, sk_max, sk_min, sk_abs, lI_0, lI_s, lL_0, lL_s, lR_0, lR_s, vIo_e, vLo_e, vOo_e, stW_I, stW_L, stW_R, stW_0, stW_z, okSt_0, okSt_s, hV_eq, hK_eq, okF_0, okF_1, okF_3, is01_0, is01_1, is01_i, Int.toNat_natCast, Int.reduceEq, Int.reduceLE, Int.reduceLT, Int.reduceNeg, Nat.reduceLT, not_true_eq_false, not_false_eq_true, reduceIte, Option.toList, List.cons_append, List.nil_append, List.set_cons_zero, List.set_cons_succ, List.not_mem_nil, List.mem_cons, if_false, if_true, ite_true, ite_false, and_self, and_true, true_and, Nat.reduceAdd, Nat.reduceLeDiff, Nat.reduceEqDiff, Nat.zero_add, Nat.le_refl, Nat.zero_le, or_false, false_or, Int.reduceToNat, or_true, true_or, eq_self, and_false, false_and, inR_d, nc_4, nc_5, nc_6, nc_7, nc_8, nc_16, nc_18, nc_20, nc_24, nc_32, nc_40, nc_64, nc_104, nc_120, nc_160, nc_256, nc_300, nc_330, nc_390, nc_1200, nc_1260, nc_3012, nc_9834, okSt_1i, okSt_1r, okSt_1n, List.length_cons, List.length_nil, xpk_succ cd_62_0, xpk_succ cd_62_1, xpk_succ cd_62_4, xpk_succ cd_62_5, xpk_succ cd_62_8, xpk_succ cd_62_9, xpk_succ cd_62_12, xpk_succ cd_62_15, xpk_succ cd_62_16, xpk_succ cd_62_17, xpk_succ cd_62_20, hR_2, hR_3, hR_4, hR_5, hR_6, hR_7, hR_s2, hR_s3, hR_s4, hR_s5, hR_s6, hR_s7, (hR_T hb.1), (hR_sT hb.1), (R_0 hb), (R_1 hb), (R_T0 hb), (R_N hb), hK_R, hb.2.1.1, hk.2.1.1, hb.2.2.1.1, hb.2.2.1.2.2, hb.2.2.2.1, (E_kindAt (TOK_R hb.1 hk)), (E_placeAt (TOK_R hb.1 hk)), (E_valueAt (TOK_R hb.1 hk)), hx, (E_step hb hk hj), hjq, hj]
set_option maxHeartbeats 4000000 in
theorem E_takef {d : Nat} {h : AH} {T D cnt : Nat} {n : Int} {kn vn pn : Nat → Int} (hb : RDB h T D) (hk : TOK h cnt n kn vn pn) {j L : Nat} {b c l p : Int} {dd : Nat → Int} {x : Int} (hx : b ≠ x) (Q : Option AV → AH → Prop) : XC (d + 3) 62 [vR 70, vI x] (hR h T D (j : Int) b c l 0 p L dd) Q = Q none (hR h T D (j : Int) 63 c l 1 (plf cnt n pn j) L dd) := by
  refine XC_eq (Nat.le_of_ble_eq_true rfl) ?_ Q
  show XP (d + 2) 62 0 [some (vR 70), some (vI x)] [] (hR h T D (j : Int) b c l 0 p L dd) _
  refine xpk_sound (stops := []) (n := 40) ?_
  simp only [sk_0, sk_1, sk_2, sk_3, sk_4, sk_5, sk_6, sk_7, sk_8, sk_iadd, sk_isub, sk_imul, sk_iand, sk_ior, sk_ixor, sk_ishl, sk_ishr, sk_iushr, sk_idiv, sk_irem, sk_ineg, sk_ladd, sk_lsub, sk_lmul, sk_land, sk_lor, sk_ldiv, sk_lrem, sk_lneg, sk_lshl, sk_lshr, sk_i2l, sk_l2i, sk_lcmp, sk_dupI, sk_dupR, sk_dup2L, sk_dup2I, sk_popI, sk_ifeq, sk_ifne, sk_iflt, sk_ifge, sk_ifgt, sk_ifle, sk_iceq, sk_icne, sk_iclt, sk_icge, sk_icgt, sk_icle, sk_goto, sk_getf, sk_putf, sk_gets, sk_iald, sk_lald, sk_bald, sk_aald, sk_iast, sk_last, sk_bast, sk_aast, sk_alen, sk_newa, sk_newt, sk_new, sk_cs1, sk_cs2, sk_cs3, sk_cs4, sk_cs5, sk_cs6, sk_cv1, sk_cv2, sk_cv3, sk_cv4, sk_cv5, sk_cv6, sk_ci1, sk_ci2, sk_ci3, sk_ret0, sk_retI, sk_retL, sk_retR, sk_sw, sk_oin, sk_max, sk_min, sk_abs, lI_0, lI_s, lL_0, lL_s, lR_0, lR_s, vIo_e, vLo_e, vOo_e, stW_I, stW_L, stW_R, stW_0, stW_z, okSt_0, okSt_s, hV_eq, hK_eq, okF_0, okF_1, okF_3, is01_0, is01_1, is01_i, Int.toNat_natCast, Int.reduceEq, Int.reduceLE, Int.reduceLT, Int.reduceNeg, Nat.reduceLT, not_true_eq_false, not_false_eq_true, reduceIte, Option.toList, List.cons_append, List.nil_append, List.set_cons_zero, List.set_cons_succ, List.not_mem_nil, List.mem_cons, if_false, if_true, ite_true, ite_false, and_self, and_true, true_and, Nat.reduceAdd, Nat.reduceLeDiff, Nat.reduceEqDiff, Nat.zero_add, Nat.le_refl, Nat.zero_le, or_false, false_or, Int.reduceToNat, or_true, true_or, eq_self, and_false, false_and, inR_d, nc_4, nc_5, nc_6, nc_7, nc_8, nc_16, nc_18, nc_20, nc_24, nc_32, nc_40, nc_64, nc_104, nc_120, nc_160, nc_256, nc_300, nc_330, nc_390, nc_1200, nc_1260, nc_3012, nc_9834, okSt_1i, okSt_1r, okSt_1n, List.length_cons, List.length_nil, xpk_succ cd_62_0, xpk_succ cd_62_1, xpk_succ cd_62_4, xpk_succ cd_62_5, xpk_succ cd_62_8, xpk_succ cd_62_9, xpk_succ cd_62_12, xpk_succ cd_62_15, xpk_succ cd_62_16, xpk_succ cd_62_17, xpk_succ cd_62_20, hR_2, hR_3, hR_4, hR_5, hR_6, hR_7, hR_s2, hR_s3, hR_s4, hR_s5, hR_s6, hR_s7, (hR_T hb.1), (hR_sT hb.1), (R_0 hb), (R_1 hb), (R_T0 hb), (R_N hb), hK_R, hb.2.1.1, hk.2.1.1, hb.2.2.1.1, hb.2.2.1.2.2, hb.2.2.2.1, (E_kindAt (TOK_R hb.1 hk)), (E_placeAt (TOK_R hb.1 hk)), (E_valueAt (TOK_R hb.1 hk)), hx, (E_fail hb hk)]
set_option maxHeartbeats 4000000 in
theorem E_taken {d : Nat} {h : AH} {T D cnt : Nat} {n : Int} {kn vn pn : Nat → Int} (hb : RDB h T D) (hk : TOK h cnt n kn vn pn) {j L : Nat} {b c l f p : Int} {dd : Nat → Int} {x : Int} (hx : b ≠ x) (hf : f ≠ 0) (Q : Option AV → AH → Prop) : XC (d + 3) 62 [vR 70, vI x] (hR h T D (j : Int) b c l f p L dd) Q = Q none (hR h T D (j : Int) b c l f p L dd) := by
  refine XC_eq (Nat.le_of_ble_eq_true rfl) ?_ Q
  show XP (d + 2) 62 0 [some (vR 70), some (vI x)] [] (hR h T D (j : Int) b c l f p L dd) _
  refine xpk_sound (stops := []) (n := 40) ?_
  simp only [sk_0, sk_1, sk_2, sk_3, sk_4, sk_5, sk_6, sk_7, sk_8, sk_iadd, sk_isub, sk_imul, sk_iand, sk_ior, sk_ixor, sk_ishl, sk_ishr, sk_iushr, sk_idiv, sk_irem, sk_ineg, sk_ladd, sk_lsub, sk_lmul, sk_land, sk_lor, sk_ldiv, sk_lrem, sk_lneg, sk_lshl, sk_lshr, sk_i2l, sk_l2i, sk_lcmp, sk_dupI, sk_dupR, sk_dup2L, sk_dup2I, sk_popI, sk_ifeq, sk_ifne, sk_iflt, sk_ifge, sk_ifgt, sk_ifle, sk_iceq, sk_icne, sk_iclt, sk_icge, sk_icgt, sk_icle, sk_goto, sk_getf, sk_putf, sk_gets, sk_iald, sk_lald, sk_bald, sk_aald, sk_iast, sk_last, sk_bast, sk_aast, sk_alen, sk_newa, sk_newt, sk_new, sk_cs1, sk_cs2, sk_cs3, sk_cs4, sk_cs5, sk_cs6, sk_cv1, sk_cv2, sk_cv3, sk_cv4, sk_cv5, sk_cv6, sk_ci1, sk_ci2, sk_ci3, sk_ret0, sk_retI, sk_retL, sk_retR, sk_sw, sk_oin, sk_max, sk_min, sk_abs, lI_0, lI_s, lL_0, lL_s, lR_0, lR_s, vIo_e, vLo_e, vOo_e, stW_I, stW_L, stW_R, stW_0, stW_z, okSt_0, okSt_s, hV_eq, hK_eq, okF_0, okF_1, okF_3, is01_0, is01_1, is01_i, Int.toNat_natCast, Int.reduceEq, Int.reduceLE, Int.reduceLT, Int.reduceNeg, Nat.reduceLT, not_true_eq_false, not_false_eq_true, reduceIte, Option.toList, List.cons_append, List.nil_append, List.set_cons_zero, List.set_cons_succ, List.not_mem_nil, List.mem_cons, if_false, if_true, ite_true, ite_false, and_self, and_true, true_and, Nat.reduceAdd, Nat.reduceLeDiff, Nat.reduceEqDiff, Nat.zero_add, Nat.le_refl, Nat.zero_le, or_false, false_or, Int.reduceToNat, or_true, true_or, eq_self, and_false, false_and, inR_d, nc_4, nc_5, nc_6, nc_7, nc_8, nc_16, nc_18, nc_20, nc_24, nc_32, nc_40, nc_64, nc_104, nc_120, nc_160, nc_256, nc_300, nc_330, nc_390, nc_1200, nc_1260, nc_3012, nc_9834, okSt_1i, okSt_1r, okSt_1n, List.length_cons, List.length_nil, xpk_succ cd_62_0, xpk_succ cd_62_1, xpk_succ cd_62_4, xpk_succ cd_62_5, xpk_succ cd_62_8, xpk_succ cd_62_9, xpk_succ cd_62_12, xpk_succ cd_62_15, xpk_succ cd_62_16, xpk_succ cd_62_17, xpk_succ cd_62_20, hR_2, hR_3, hR_4, hR_5, hR_6, hR_7, hR_s2, hR_s3, hR_s4, hR_s5, hR_s6, hR_s7, (hR_T hb.1), (hR_sT hb.1), (R_0 hb), (R_1 hb), (R_T0 hb), (R_N hb), hK_R, hb.2.1.1, hk.2.1.1, hb.2.2.1.1, hb.2.2.1.2.2, hb.2.2.2.1, (E_kindAt (TOK_R hb.1 hk)), (E_placeAt (TOK_R hb.1 hk)), (E_valueAt (TOK_R hb.1 hk)), hx, (E_failn hb hk hf)]
set_option maxHeartbeats 4000000 in
theorem E_num {d : Nat} {h : AH} {T D cnt : Nat} {n : Int} {kn vn pn : Nat → Int} (hb : RDB h T D) (hk : TOK h cnt n kn vn pn) {j L : Nat} {b c l f p : Int} {dd : Nat → Int} {x y : Int} (hj : j < 1000) (hx : b = 60) (h1 : x ≤ (tkf cnt kn vn j).2) (h2 : (tkf cnt kn vn j).2 ≤ y) (Q : Option AV → AH → Prop) : XC (d + 3) 63 [vR 70, vI x, vI y] (hR h T D (j : Int) b c l f p L dd) Q = Q (some (vI (tkf cnt kn vn j).2)) (hR h T D ((j + 1 : Nat) : Int) ((tkf cnt kn vn (j + 1)).1) c l f p L dd) := by
  have z1 : ¬ ((tkf cnt kn vn j).2 < x) := by omega
  have z2 : ¬ (y < (tkf cnt kn vn j).2) := by omega
  have z1q : x ≤ (tkf cnt kn vn j).2 := by omega
  have z2q : (tkf cnt kn vn j).2 ≤ y := by omega
  have hjq : ¬ (1000 ≤ j) := by omega
  have h1q : ¬ ((tkf cnt kn vn j).2 < x) := by omega
  have h2q : ¬ (y < (tkf cnt kn vn j).2) := by omega
  refine XC_eq (Nat.le_of_ble_eq_true rfl) ?_ Q
  show XP (d + 2) 63 0 [some (vR 70), some (vI x), some (vI y), none] [] (hR h T D (j : Int) b c l f p L dd) _
  refine xpk_sound (stops := []) (n := 50) ?_
  simp only [sk_0, sk_1, sk_2, sk_3, sk_4, sk_5, sk_6, sk_7, sk_8, sk_iadd, sk_isub, sk_imul, sk_iand, sk_ior, sk_ixor, sk_ishl, sk_ishr, sk_iushr, sk_idiv, sk_irem, sk_ineg, sk_ladd, sk_lsub, sk_lmul, sk_land, sk_lor, sk_ldiv, sk_lrem, sk_lneg, sk_lshl, sk_lshr, sk_i2l, sk_l2i, sk_lcmp, sk_dupI, sk_dupR, sk_dup2L, sk_dup2I, sk_popI, sk_ifeq, sk_ifne, sk_iflt, sk_ifge, sk_ifgt, sk_ifle, sk_iceq, sk_icne, sk_iclt, sk_icge, sk_icgt, sk_icle, sk_goto, sk_getf, sk_putf, sk_gets, sk_iald, sk_lald, sk_bald, sk_aald, sk_iast, sk_last, sk_bast, sk_aast, sk_alen, sk_newa, sk_newt, sk_new, sk_cs1, sk_cs2, sk_cs3, sk_cs4, sk_cs5, sk_cs6, sk_cv1, sk_cv2, sk_cv3, sk_cv4, sk_cv5, sk_cv6, sk_ci1, sk_ci2, sk_ci3, sk_ret0, sk_retI, sk_retL, sk_retR, sk_sw, sk_oin, sk_max, sk_min, sk_abs, lI_0, lI_s, lL_0, lL_s, lR_0, lR_s, vIo_e, vLo_e, vOo_e, stW_I, stW_L, stW_R, stW_0, stW_z, okSt_0, okSt_s, hV_eq, hK_eq, okF_0, okF_1, okF_3, is01_0, is01_1, is01_i, Int.toNat_natCast, Int.reduceEq, Int.reduceLE, Int.reduceLT, Int.reduceNeg, Nat.reduceLT, not_true_eq_false, not_false_eq_true, reduceIte, Option.toList, List.cons_append, List.nil_append, List.set_cons_zero, List.set_cons_succ, List.not_mem_nil, List.mem_cons, if_false, if_true, ite_true, ite_false, and_self, and_true, true_and, Nat.reduceAdd, Nat.reduceLeDiff, Nat.reduceEqDiff, Nat.zero_add, Nat.le_refl, Nat.zero_le, or_false, false_or, Int.reduceToNat, or_true, true_or, eq_self, and_false, false_and, inR_d, nc_4, nc_5, nc_6, nc_7, nc_8, nc_16, nc_18, nc_20, nc_24, nc_32, nc_40, nc_64, nc_104, nc_120, nc_160, nc_256, nc_300, nc_330, nc_390, nc_1200, nc_1260, nc_3012, nc_9834, okSt_1i, okSt_1r, okSt_1n, List.length_cons, List.length_nil, xpk_succ cd_63_0, xpk_succ cd_63_1, xpk_succ cd_63_4, xpk_succ cd_63_5, xpk_succ cd_63_8, xpk_succ cd_63_11, xpk_succ cd_63_12, xpk_succ cd_63_13, xpk_succ cd_63_16, xpk_succ cd_63_18, xpk_succ cd_63_21, xpk_succ cd_63_22, xpk_succ cd_63_23, xpk_succ cd_63_26, xpk_succ cd_63_27, xpk_succ cd_63_28, xpk_succ cd_63_29, xpk_succ cd_63_30, xpk_succ cd_63_33, xpk_succ cd_63_34, xpk_succ cd_63_35, xpk_succ cd_63_38, xpk_succ cd_63_39, xpk_succ cd_63_40, xpk_succ cd_63_43, xpk_succ cd_63_44, xpk_succ cd_63_45, xpk_succ cd_63_46, xpk_succ cd_63_49, xpk_succ cd_63_50, hR_2, hR_3, hR_4, hR_5, hR_6, hR_7, hR_s2, hR_s3, hR_s4, hR_s5, hR_s6, hR_s7, (hR_T hb.1), (hR_sT hb.1), (R_0 hb), (R_1 hb), (R_T0 hb), (R_N hb), hK_R, hb.2.1.1, hk.2.1.1, hb.2.2.1.1, hb.2.2.1.2.2, hb.2.2.2.1, (E_kindAt (TOK_R hb.1 hk)), (E_placeAt (TOK_R hb.1 hk)), (E_valueAt (TOK_R hb.1 hk)), hx, z1, z2, (E_step hb hk hj), z1q, z2q, hjq, hj, h1q, h1, h2q, h2]
set_option maxHeartbeats 4000000 in
theorem E_num1 {d : Nat} {h : AH} {T D cnt : Nat} {n : Int} {kn vn pn : Nat → Int} (hb : RDB h T D) (hk : TOK h cnt n kn vn pn) {j L : Nat} {b c l p : Int} {dd : Nat → Int} {x y : Int} (hx : b ≠ 60) (Q : Option AV → AH → Prop) : XC (d + 3) 63 [vR 70, vI x, vI y] (hR h T D (j : Int) b c l 0 p L dd) Q = Q (some (vI x)) (hR h T D (j : Int) 63 c l 1 (plf cnt n pn j) L dd) := by
  refine XC_eq (Nat.le_of_ble_eq_true rfl) ?_ Q
  show XP (d + 2) 63 0 [some (vR 70), some (vI x), some (vI y), none] [] (hR h T D (j : Int) b c l 0 p L dd) _
  refine xpk_sound (stops := []) (n := 50) ?_
  simp only [sk_0, sk_1, sk_2, sk_3, sk_4, sk_5, sk_6, sk_7, sk_8, sk_iadd, sk_isub, sk_imul, sk_iand, sk_ior, sk_ixor, sk_ishl, sk_ishr, sk_iushr, sk_idiv, sk_irem, sk_ineg, sk_ladd, sk_lsub, sk_lmul, sk_land, sk_lor, sk_ldiv, sk_lrem, sk_lneg, sk_lshl, sk_lshr, sk_i2l, sk_l2i, sk_lcmp, sk_dupI, sk_dupR, sk_dup2L, sk_dup2I, sk_popI, sk_ifeq, sk_ifne, sk_iflt, sk_ifge, sk_ifgt, sk_ifle, sk_iceq, sk_icne, sk_iclt, sk_icge, sk_icgt, sk_icle, sk_goto, sk_getf, sk_putf, sk_gets, sk_iald, sk_lald, sk_bald, sk_aald, sk_iast, sk_last, sk_bast, sk_aast, sk_alen, sk_newa, sk_newt, sk_new, sk_cs1, sk_cs2, sk_cs3, sk_cs4, sk_cs5, sk_cs6, sk_cv1, sk_cv2, sk_cv3, sk_cv4, sk_cv5, sk_cv6, sk_ci1, sk_ci2, sk_ci3, sk_ret0, sk_retI, sk_retL, sk_retR, sk_sw, sk_oin, sk_max, sk_min, sk_abs, lI_0, lI_s, lL_0, lL_s, lR_0, lR_s, vIo_e, vLo_e, vOo_e, stW_I, stW_L, stW_R, stW_0, stW_z, okSt_0, okSt_s, hV_eq, hK_eq, okF_0, okF_1, okF_3, is01_0, is01_1, is01_i, Int.toNat_natCast, Int.reduceEq, Int.reduceLE, Int.reduceLT, Int.reduceNeg, Nat.reduceLT, not_true_eq_false, not_false_eq_true, reduceIte, Option.toList, List.cons_append, List.nil_append, List.set_cons_zero, List.set_cons_succ, List.not_mem_nil, List.mem_cons, if_false, if_true, ite_true, ite_false, and_self, and_true, true_and, Nat.reduceAdd, Nat.reduceLeDiff, Nat.reduceEqDiff, Nat.zero_add, Nat.le_refl, Nat.zero_le, or_false, false_or, Int.reduceToNat, or_true, true_or, eq_self, and_false, false_and, inR_d, nc_4, nc_5, nc_6, nc_7, nc_8, nc_16, nc_18, nc_20, nc_24, nc_32, nc_40, nc_64, nc_104, nc_120, nc_160, nc_256, nc_300, nc_330, nc_390, nc_1200, nc_1260, nc_3012, nc_9834, okSt_1i, okSt_1r, okSt_1n, List.length_cons, List.length_nil, xpk_succ cd_63_0, xpk_succ cd_63_1, xpk_succ cd_63_4, xpk_succ cd_63_5, xpk_succ cd_63_8, xpk_succ cd_63_11, xpk_succ cd_63_12, xpk_succ cd_63_13, xpk_succ cd_63_16, xpk_succ cd_63_18, xpk_succ cd_63_21, xpk_succ cd_63_22, xpk_succ cd_63_23, xpk_succ cd_63_26, xpk_succ cd_63_27, xpk_succ cd_63_28, xpk_succ cd_63_29, xpk_succ cd_63_30, xpk_succ cd_63_33, xpk_succ cd_63_34, xpk_succ cd_63_35, xpk_succ cd_63_38, xpk_succ cd_63_39, xpk_succ cd_63_40, xpk_succ cd_63_43, xpk_succ cd_63_44, xpk_succ cd_63_45, xpk_succ cd_63_46, xpk_succ cd_63_49, xpk_succ cd_63_50, hR_2, hR_3, hR_4, hR_5, hR_6, hR_7, hR_s2, hR_s3, hR_s4, hR_s5, hR_s6, hR_s7, (hR_T hb.1), (hR_sT hb.1), (R_0 hb), (R_1 hb), (R_T0 hb), (R_N hb), hK_R, hb.2.1.1, hk.2.1.1, hb.2.2.1.1, hb.2.2.1.2.2, hb.2.2.2.1, (E_kindAt (TOK_R hb.1 hk)), (E_placeAt (TOK_R hb.1 hk)), (E_valueAt (TOK_R hb.1 hk)), hx, (E_fail hb hk)]
set_option maxHeartbeats 4000000 in
theorem E_num2 {d : Nat} {h : AH} {T D cnt : Nat} {n : Int} {kn vn pn : Nat → Int} (hb : RDB h T D) (hk : TOK h cnt n kn vn pn) {j L : Nat} {b c l p : Int} {dd : Nat → Int} {x y : Int} (hx : b = 60) (h1 : (tkf cnt kn vn j).2 < x ∨ y < (tkf cnt kn vn j).2) (Q : Option AV → AH → Prop) : XC (d + 3) 63 [vR 70, vI x, vI y] (hR h T D (j : Int) b c l 0 p L dd) Q = Q (some (vI x)) (hR h T D (j : Int) 63 c l 2 (plf cnt n pn j) L dd) := by
  refine XC_eq (Nat.le_of_ble_eq_true rfl) ?_ Q
  show XP (d + 2) 63 0 [some (vR 70), some (vI x), some (vI y), none] [] (hR h T D (j : Int) b c l 0 p L dd) _
  by_cases z1 : (tkf cnt kn vn j).2 < x
  · have z1q : ¬ (x ≤ (tkf cnt kn vn j).2) := by omega
    refine xpk_sound (stops := []) (n := 50) ?_
    simp only [sk_0, sk_1, sk_2, sk_3, sk_4, sk_5, sk_6, sk_7, sk_8, sk_iadd, sk_isub, sk_imul, sk_iand, sk_ior, sk_ixor, sk_ishl, sk_ishr, sk_iushr, sk_idiv, sk_irem, sk_ineg, sk_ladd, sk_lsub, sk_lmul, sk_land, sk_lor, sk_ldiv, sk_lrem, sk_lneg, sk_lshl, sk_lshr, sk_i2l, sk_l2i, sk_lcmp, sk_dupI, sk_dupR, sk_dup2L, sk_dup2I, sk_popI, sk_ifeq, sk_ifne, sk_iflt, sk_ifge, sk_ifgt, sk_ifle, sk_iceq, sk_icne, sk_iclt, sk_icge, sk_icgt, sk_icle, sk_goto, sk_getf, sk_putf, sk_gets, sk_iald, sk_lald, sk_bald, sk_aald, sk_iast, sk_last, sk_bast, sk_aast, sk_alen, sk_newa, sk_newt, sk_new, sk_cs1, sk_cs2, sk_cs3, sk_cs4, sk_cs5, sk_cs6, sk_cv1, sk_cv2, sk_cv3, sk_cv4, sk_cv5, sk_cv6, sk_ci1, sk_ci2, sk_ci3, sk_ret0, sk_retI, sk_retL, sk_retR, sk_sw, sk_oin, sk_max, sk_min, sk_abs, lI_0, lI_s, lL_0, lL_s, lR_0, lR_s, vIo_e, vLo_e, vOo_e, stW_I, stW_L, stW_R, stW_0, stW_z, okSt_0, okSt_s, hV_eq, hK_eq, okF_0, okF_1, okF_3, is01_0, is01_1, is01_i, Int.toNat_natCast, Int.reduceEq, Int.reduceLE, Int.reduceLT, Int.reduceNeg, Nat.reduceLT, not_true_eq_false, not_false_eq_true, reduceIte, Option.toList, List.cons_append, List.nil_append, List.set_cons_zero, List.set_cons_succ, List.not_mem_nil, List.mem_cons, if_false, if_true, ite_true, ite_false, and_self, and_true, true_and, Nat.reduceAdd, Nat.reduceLeDiff, Nat.reduceEqDiff, Nat.zero_add, Nat.le_refl, Nat.zero_le, or_false, false_or, Int.reduceToNat, or_true, true_or, eq_self, and_false, false_and, inR_d, nc_4, nc_5, nc_6, nc_7, nc_8, nc_16, nc_18, nc_20, nc_24, nc_32, nc_40, nc_64, nc_104, nc_120, nc_160, nc_256, nc_300, nc_330, nc_390, nc_1200, nc_1260, nc_3012, nc_9834, okSt_1i, okSt_1r, okSt_1n, List.length_cons, List.length_nil, xpk_succ cd_63_0, xpk_succ cd_63_1, xpk_succ cd_63_4, xpk_succ cd_63_5, xpk_succ cd_63_8, xpk_succ cd_63_11, xpk_succ cd_63_12, xpk_succ cd_63_13, xpk_succ cd_63_16, xpk_succ cd_63_18, xpk_succ cd_63_21, xpk_succ cd_63_22, xpk_succ cd_63_23, xpk_succ cd_63_26, xpk_succ cd_63_27, xpk_succ cd_63_28, xpk_succ cd_63_29, xpk_succ cd_63_30, xpk_succ cd_63_33, xpk_succ cd_63_34, xpk_succ cd_63_35, xpk_succ cd_63_38, xpk_succ cd_63_39, xpk_succ cd_63_40, xpk_succ cd_63_43, xpk_succ cd_63_44, xpk_succ cd_63_45, xpk_succ cd_63_46, xpk_succ cd_63_49, xpk_succ cd_63_50, hR_2, hR_3, hR_4, hR_5, hR_6, hR_7, hR_s2, hR_s3, hR_s4, hR_s5, hR_s6, hR_s7, (hR_T hb.1), (hR_sT hb.1), (R_0 hb), (R_1 hb), (R_T0 hb), (R_N hb), hK_R, hb.2.1.1, hk.2.1.1, hb.2.2.1.1, hb.2.2.1.2.2, hb.2.2.2.1, (E_kindAt (TOK_R hb.1 hk)), (E_placeAt (TOK_R hb.1 hk)), (E_valueAt (TOK_R hb.1 hk)), hx, (E_fail hb hk), z1, z1q]
  · have z2 : y < (tkf cnt kn vn j).2 := by omega
    have z2q : ¬ ((tkf cnt kn vn j).2 ≤ y) := by omega
    have z1q : x ≤ (tkf cnt kn vn j).2 := by omega
    refine xpk_sound (stops := []) (n := 50) ?_
    simp only [sk_0, sk_1, sk_2, sk_3, sk_4, sk_5, sk_6, sk_7, sk_8, sk_iadd, sk_isub, sk_imul, sk_iand, sk_ior, sk_ixor, sk_ishl, sk_ishr, sk_iushr, sk_idiv, sk_irem, sk_ineg, sk_ladd, sk_lsub, sk_lmul, sk_land, sk_lor, sk_ldiv, sk_lrem, sk_lneg, sk_lshl, sk_lshr, sk_i2l, sk_l2i, sk_lcmp, sk_dupI, sk_dupR, sk_dup2L, sk_dup2I, sk_popI, sk_ifeq, sk_ifne, sk_iflt, sk_ifge, sk_ifgt, sk_ifle, sk_iceq, sk_icne, sk_iclt, sk_icge, sk_icgt, sk_icle, sk_goto, sk_getf, sk_putf, sk_gets, sk_iald, sk_lald, sk_bald, sk_aald, sk_iast, sk_last, sk_bast, sk_aast, sk_alen, sk_newa, sk_newt, sk_new, sk_cs1, sk_cs2, sk_cs3, sk_cs4, sk_cs5, sk_cs6, sk_cv1, sk_cv2, sk_cv3, sk_cv4, sk_cv5, sk_cv6, sk_ci1, sk_ci2, sk_ci3, sk_ret0, sk_retI, sk_retL, sk_retR, sk_sw, sk_oin, sk_max, sk_min, sk_abs, lI_0, lI_s, lL_0, lL_s, lR_0, lR_s, vIo_e, vLo_e, vOo_e, stW_I, stW_L, stW_R, stW_0, stW_z, okSt_0, okSt_s, hV_eq, hK_eq, okF_0, okF_1, okF_3, is01_0, is01_1, is01_i, Int.toNat_natCast, Int.reduceEq, Int.reduceLE, Int.reduceLT, Int.reduceNeg, Nat.reduceLT, not_true_eq_false, not_false_eq_true, reduceIte, Option.toList, List.cons_append, List.nil_append, List.set_cons_zero, List.set_cons_succ, List.not_mem_nil, List.mem_cons, if_false, if_true, ite_true, ite_false, and_self, and_true, true_and, Nat.reduceAdd, Nat.reduceLeDiff, Nat.reduceEqDiff, Nat.zero_add, Nat.le_refl, Nat.zero_le, or_false, false_or, Int.reduceToNat, or_true, true_or, eq_self, and_false, false_and, inR_d, nc_4, nc_5, nc_6, nc_7, nc_8, nc_16, nc_18, nc_20, nc_24, nc_32, nc_40, nc_64, nc_104, nc_120, nc_160, nc_256, nc_300, nc_330, nc_390, nc_1200, nc_1260, nc_3012, nc_9834, okSt_1i, okSt_1r, okSt_1n, List.length_cons, List.length_nil, xpk_succ cd_63_0, xpk_succ cd_63_1, xpk_succ cd_63_4, xpk_succ cd_63_5, xpk_succ cd_63_8, xpk_succ cd_63_11, xpk_succ cd_63_12, xpk_succ cd_63_13, xpk_succ cd_63_16, xpk_succ cd_63_18, xpk_succ cd_63_21, xpk_succ cd_63_22, xpk_succ cd_63_23, xpk_succ cd_63_26, xpk_succ cd_63_27, xpk_succ cd_63_28, xpk_succ cd_63_29, xpk_succ cd_63_30, xpk_succ cd_63_33, xpk_succ cd_63_34, xpk_succ cd_63_35, xpk_succ cd_63_38, xpk_succ cd_63_39, xpk_succ cd_63_40, xpk_succ cd_63_43, xpk_succ cd_63_44, xpk_succ cd_63_45, xpk_succ cd_63_46, xpk_succ cd_63_49, xpk_succ cd_63_50, hR_2, hR_3, hR_4, hR_5, hR_6, hR_7, hR_s2, hR_s3, hR_s4, hR_s5, hR_s6, hR_s7, (hR_T hb.1), (hR_sT hb.1), (R_0 hb), (R_1 hb), (R_T0 hb), (R_N hb), hK_R, hb.2.1.1, hk.2.1.1, hb.2.2.1.1, hb.2.2.1.2.2, hb.2.2.2.1, (E_kindAt (TOK_R hb.1 hk)), (E_placeAt (TOK_R hb.1 hk)), (E_valueAt (TOK_R hb.1 hk)), hx, (E_fail hb hk), z1, z2, z1q, z2q]
set_option maxHeartbeats 4000000 in
theorem E_numn {d : Nat} {h : AH} {T D cnt : Nat} {n : Int} {kn vn pn : Nat → Int} (hb : RDB h T D) (hk : TOK h cnt n kn vn pn) {j L : Nat} {b c l f p : Int} {dd : Nat → Int} {x y : Int} (hx : b = 63) (hf : f ≠ 0) (Q : Option AV → AH → Prop) : XC (d + 3) 63 [vR 70, vI x, vI y] (hR h T D (j : Int) b c l f p L dd) Q = Q (some (vI x)) (hR h T D (j : Int) b c l f p L dd) := by
  refine XC_eq (Nat.le_of_ble_eq_true rfl) ?_ Q
  show XP (d + 2) 63 0 [some (vR 70), some (vI x), some (vI y), none] [] (hR h T D (j : Int) b c l f p L dd) _
  refine xpk_sound (stops := []) (n := 50) ?_
  simp only [sk_0, sk_1, sk_2, sk_3, sk_4, sk_5, sk_6, sk_7, sk_8, sk_iadd, sk_isub, sk_imul, sk_iand, sk_ior, sk_ixor, sk_ishl, sk_ishr, sk_iushr, sk_idiv, sk_irem, sk_ineg, sk_ladd, sk_lsub, sk_lmul, sk_land, sk_lor, sk_ldiv, sk_lrem, sk_lneg, sk_lshl, sk_lshr, sk_i2l, sk_l2i, sk_lcmp, sk_dupI, sk_dupR, sk_dup2L, sk_dup2I, sk_popI, sk_ifeq, sk_ifne, sk_iflt, sk_ifge, sk_ifgt, sk_ifle, sk_iceq, sk_icne, sk_iclt, sk_icge, sk_icgt, sk_icle, sk_goto, sk_getf, sk_putf, sk_gets, sk_iald, sk_lald, sk_bald, sk_aald, sk_iast, sk_last, sk_bast, sk_aast, sk_alen, sk_newa, sk_newt, sk_new, sk_cs1, sk_cs2, sk_cs3, sk_cs4, sk_cs5, sk_cs6, sk_cv1, sk_cv2, sk_cv3, sk_cv4, sk_cv5, sk_cv6, sk_ci1, sk_ci2, sk_ci3, sk_ret0, sk_retI, sk_retL, sk_retR, sk_sw, sk_oin, sk_max, sk_min, sk_abs, lI_0, lI_s, lL_0, lL_s, lR_0, lR_s, vIo_e, vLo_e, vOo_e, stW_I, stW_L, stW_R, stW_0, stW_z, okSt_0, okSt_s, hV_eq, hK_eq, okF_0, okF_1, okF_3, is01_0, is01_1, is01_i, Int.toNat_natCast, Int.reduceEq, Int.reduceLE, Int.reduceLT, Int.reduceNeg, Nat.reduceLT, not_true_eq_false, not_false_eq_true, reduceIte, Option.toList, List.cons_append, List.nil_append, List.set_cons_zero, List.set_cons_succ, List.not_mem_nil, List.mem_cons, if_false, if_true, ite_true, ite_false, and_self, and_true, true_and, Nat.reduceAdd, Nat.reduceLeDiff, Nat.reduceEqDiff, Nat.zero_add, Nat.le_refl, Nat.zero_le, or_false, false_or, Int.reduceToNat, or_true, true_or, eq_self, and_false, false_and, inR_d, nc_4, nc_5, nc_6, nc_7, nc_8, nc_16, nc_18, nc_20, nc_24, nc_32, nc_40, nc_64, nc_104, nc_120, nc_160, nc_256, nc_300, nc_330, nc_390, nc_1200, nc_1260, nc_3012, nc_9834, okSt_1i, okSt_1r, okSt_1n, List.length_cons, List.length_nil, xpk_succ cd_63_0, xpk_succ cd_63_1, xpk_succ cd_63_4, xpk_succ cd_63_5, xpk_succ cd_63_8, xpk_succ cd_63_11, xpk_succ cd_63_12, xpk_succ cd_63_13, xpk_succ cd_63_16, xpk_succ cd_63_18, xpk_succ cd_63_21, xpk_succ cd_63_22, xpk_succ cd_63_23, xpk_succ cd_63_26, xpk_succ cd_63_27, xpk_succ cd_63_28, xpk_succ cd_63_29, xpk_succ cd_63_30, xpk_succ cd_63_33, xpk_succ cd_63_34, xpk_succ cd_63_35, xpk_succ cd_63_38, xpk_succ cd_63_39, xpk_succ cd_63_40, xpk_succ cd_63_43, xpk_succ cd_63_44, xpk_succ cd_63_45, xpk_succ cd_63_46, xpk_succ cd_63_49, xpk_succ cd_63_50, hR_2, hR_3, hR_4, hR_5, hR_6, hR_7, hR_s2, hR_s3, hR_s4, hR_s5, hR_s6, hR_s7, (hR_T hb.1), (hR_sT hb.1), (R_0 hb), (R_1 hb), (R_T0 hb), (R_N hb), hK_R, hb.2.1.1, hk.2.1.1, hb.2.2.1.1, hb.2.2.1.2.2, hb.2.2.2.1, (E_kindAt (TOK_R hb.1 hk)), (E_placeAt (TOK_R hb.1 hk)), (E_valueAt (TOK_R hb.1 hk)), hx, (E_failn hb hk hf)]
theorem deed_32 {x o : Int} (h0 : 0 ≤ x) (h1 : x ≤ 20000) (o0 : 0 ≤ o) (o1 : o < 32) : ior (ishl x 5) o = 32 * x + o := by
  have e1 : ishl x 5 = 32 * x := by unfold ishl w32; rw [show ((5 : Int) % 32).toNat = 5 by decide, show (2 : Int) ^ 5 = 32 by decide]; omega
  rw [e1]
  obtain ⟨n, rfl⟩ := Int.eq_ofNat_of_zero_le h0
  obtain ⟨m, rfl⟩ := Int.eq_ofNat_of_zero_le o0
  unfold ior
  have hn : n ≤ 20000 := by omega
  have hm : m < 32 := by omega
  have e2 : BitVec.ofInt 32 (32 * (n : Int)) = BitVec.ofNat 32 (32 * n) := by rw [show (32 * (n : Int)) = ((32 * n : Nat) : Int) by omega]; rfl
  have e3 : BitVec.ofInt 32 (m : Int) = BitVec.ofNat 32 m := rfl
  rw [e2, e3]
  have e4 : (BitVec.ofNat 32 (32 * n) ||| BitVec.ofNat 32 m).toNat = 32 * n + m := by
    rw [BitVec.toNat_or, BitVec.toNat_ofNat, BitVec.toNat_ofNat, Nat.mod_eq_of_lt (by omega), Nat.mod_eq_of_lt (by omega)]
    have := Nat.two_pow_add_eq_or_of_lt (i := 5) (b := m) (by omega) n
    rw [← this]
  rw [BitVec.toInt_eq_toNat_of_lt (by rw [e4]; omega), e4]
  omega
set_option maxHeartbeats 4000000 in
theorem E_addg {d : Nat} {h : AH} {T D cnt : Nat} {n : Int} {kn vn pn : Nat → Int} (hb : RDB h T D) (hk : TOK h cnt n kn vn pn) {L : Nat} {b c l f p : Int} {dd : Nat → Int} {a x o : Int} (hL : L < 300) (Q : Option AV → AH → Prop) : XC (d + 1) 96 [vR T, vI o, vI x] (hR h T D a b c l f p L dd) Q = Q none (hR h T D a b c l f p (L + 1) (upF dd L (ior (ishl x 5) o))) := by
  have z1 : ¬ ((300 : Int) ≤ (L : Int)) := by omega
  have z2 : (0 : Int) ≤ (L : Int) ∧ (L : Int) < 300 := by omega
  have w1 : w32 ((L : Int) + 1) = ((L + 1 : Nat) : Int) := by unfold w32; omega
  have z1q : (L : Int) < (300 : Int) := by omega
  have hLq : ¬ (300 ≤ L) := by omega
  refine XC_eq (Nat.le_of_ble_eq_true rfl) ?_ Q
  show XP (d + 0) 96 0 [some (vR T), some (vI o), some (vI x)] [] (hR h T D a b c l f p L dd) _
  refine xpk_sound (stops := []) (n := 50) ?_
  simp only [sk_0, sk_1, sk_2, sk_3, sk_4, sk_5, sk_6, sk_7, sk_8, sk_iadd, sk_isub, sk_imul, sk_iand, sk_ior, sk_ixor, sk_ishl, sk_ishr, sk_iushr, sk_idiv, sk_irem, sk_ineg, sk_ladd, sk_lsub, sk_lmul, sk_land, sk_lor, sk_ldiv, sk_lrem, sk_lneg, sk_lshl, sk_lshr, sk_i2l, sk_l2i, sk_lcmp, sk_dupI, sk_dupR, sk_dup2L, sk_dup2I, sk_popI, sk_ifeq, sk_ifne, sk_iflt, sk_ifge, sk_ifgt, sk_ifle, sk_iceq, sk_icne, sk_iclt, sk_icge, sk_icgt, sk_icle, sk_goto, sk_getf, sk_putf, sk_gets, sk_iald, sk_lald, sk_bald, sk_aald, sk_iast, sk_last, sk_bast, sk_aast, sk_alen, sk_newa, sk_newt, sk_new, sk_cs1, sk_cs2, sk_cs3, sk_cs4, sk_cs5, sk_cs6, sk_cv1, sk_cv2, sk_cv3, sk_cv4, sk_cv5, sk_cv6, sk_ci1, sk_ci2, sk_ci3, sk_ret0, sk_retI, sk_retL, sk_retR, sk_sw, sk_oin, sk_max, sk_min, sk_abs, lI_0, lI_s, lL_0, lL_s, lR_0, lR_s, vIo_e, vLo_e, vOo_e, stW_I, stW_L, stW_R, stW_0, stW_z, okSt_0, okSt_s, hV_eq, hK_eq, okF_0, okF_1, okF_3, is01_0, is01_1, is01_i, Int.toNat_natCast, Int.reduceEq, Int.reduceLE, Int.reduceLT, Int.reduceNeg, Nat.reduceLT, not_true_eq_false, not_false_eq_true, reduceIte, Option.toList, List.cons_append, List.nil_append, List.set_cons_zero, List.set_cons_succ, List.not_mem_nil, List.mem_cons, if_false, if_true, ite_true, ite_false, and_self, and_true, true_and, Nat.reduceAdd, Nat.reduceLeDiff, Nat.reduceEqDiff, Nat.zero_add, Nat.le_refl, Nat.zero_le, or_false, false_or, Int.reduceToNat, or_true, true_or, eq_self, and_false, false_and, inR_d, nc_4, nc_5, nc_6, nc_7, nc_8, nc_16, nc_18, nc_20, nc_24, nc_32, nc_40, nc_64, nc_104, nc_120, nc_160, nc_256, nc_300, nc_330, nc_390, nc_1200, nc_1260, nc_3012, nc_9834, okSt_1i, okSt_1r, okSt_1n, List.length_cons, List.length_nil, xpk_succ cd_96_0, xpk_succ cd_96_1, xpk_succ cd_96_4, xpk_succ cd_96_7, xpk_succ cd_96_10, xpk_succ cd_96_11, xpk_succ cd_96_14, xpk_succ cd_96_15, xpk_succ cd_96_18, xpk_succ cd_96_19, xpk_succ cd_96_20, xpk_succ cd_96_21, xpk_succ cd_96_22, xpk_succ cd_96_23, xpk_succ cd_96_24, xpk_succ cd_96_25, xpk_succ cd_96_26, xpk_succ cd_96_29, xpk_succ cd_96_30, xpk_succ cd_96_31, xpk_succ cd_96_34, hR_2, hR_3, hR_4, hR_5, hR_6, hR_7, hR_s2, hR_s3, hR_s4, hR_s5, hR_s6, hR_s7, (hR_T hb.1), (hR_sT hb.1), (R_0 hb), (R_1 hb), (R_T0 hb), (R_N hb), hK_R, hb.2.1.1, hk.2.1.1, hb.2.2.1.1, hb.2.2.1.2.2, hb.2.2.2.1, (E_kindAt (TOK_R hb.1 hk)), (E_placeAt (TOK_R hb.1 hk)), (E_valueAt (TOK_R hb.1 hk)), z1, z2, w1, (hR_sD hb.1 hL), z1q, hLq, hL]
set_option maxHeartbeats 4000000 in
theorem E_addn {d : Nat} {h : AH} {T D cnt : Nat} {n : Int} {kn vn pn : Nat → Int} (hb : RDB h T D) (hk : TOK h cnt n kn vn pn) {L : Nat} {b c l f p : Int} {dd : Nat → Int} {a x o : Int} (hL : 300 ≤ L) (Q : Option AV → AH → Prop) : XC (d + 1) 96 [vR T, vI o, vI x] (hR h T D a b c l f p L dd) Q = Q none (hR h T D a b c l f p L dd) := by
  have z1 : (300 : Int) ≤ (L : Int) := by omega
  have z1q : ¬ ((L : Int) < (300 : Int)) := by omega
  have hLq : ¬ (L < 300) := by omega
  refine XC_eq (Nat.le_of_ble_eq_true rfl) ?_ Q
  show XP (d + 0) 96 0 [some (vR T), some (vI o), some (vI x)] [] (hR h T D a b c l f p L dd) _
  refine xpk_sound (stops := []) (n := 50) ?_
  simp only [sk_0, sk_1, sk_2, sk_3, sk_4, sk_5, sk_6, sk_7, sk_8, sk_iadd, sk_isub, sk_imul, sk_iand, sk_ior, sk_ixor, sk_ishl, sk_ishr, sk_iushr, sk_idiv, sk_irem, sk_ineg, sk_ladd, sk_lsub, sk_lmul, sk_land, sk_lor, sk_ldiv, sk_lrem, sk_lneg, sk_lshl, sk_lshr, sk_i2l, sk_l2i, sk_lcmp, sk_dupI, sk_dupR, sk_dup2L, sk_dup2I, sk_popI, sk_ifeq, sk_ifne, sk_iflt, sk_ifge, sk_ifgt, sk_ifle, sk_iceq, sk_icne, sk_iclt, sk_icge, sk_icgt, sk_icle, sk_goto, sk_getf, sk_putf, sk_gets, sk_iald, sk_lald, sk_bald, sk_aald, sk_iast, sk_last, sk_bast, sk_aast, sk_alen, sk_newa, sk_newt, sk_new, sk_cs1, sk_cs2, sk_cs3, sk_cs4, sk_cs5, sk_cs6, sk_cv1, sk_cv2, sk_cv3, sk_cv4, sk_cv5, sk_cv6, sk_ci1, sk_ci2, sk_ci3, sk_ret0, sk_retI, sk_retL, sk_retR, sk_sw, sk_oin, sk_max, sk_min, sk_abs, lI_0, lI_s, lL_0, lL_s, lR_0, lR_s, vIo_e, vLo_e, vOo_e, stW_I, stW_L, stW_R, stW_0, stW_z, okSt_0, okSt_s, hV_eq, hK_eq, okF_0, okF_1, okF_3, is01_0, is01_1, is01_i, Int.toNat_natCast, Int.reduceEq, Int.reduceLE, Int.reduceLT, Int.reduceNeg, Nat.reduceLT, not_true_eq_false, not_false_eq_true, reduceIte, Option.toList, List.cons_append, List.nil_append, List.set_cons_zero, List.set_cons_succ, List.not_mem_nil, List.mem_cons, if_false, if_true, ite_true, ite_false, and_self, and_true, true_and, Nat.reduceAdd, Nat.reduceLeDiff, Nat.reduceEqDiff, Nat.zero_add, Nat.le_refl, Nat.zero_le, or_false, false_or, Int.reduceToNat, or_true, true_or, eq_self, and_false, false_and, inR_d, nc_4, nc_5, nc_6, nc_7, nc_8, nc_16, nc_18, nc_20, nc_24, nc_32, nc_40, nc_64, nc_104, nc_120, nc_160, nc_256, nc_300, nc_330, nc_390, nc_1200, nc_1260, nc_3012, nc_9834, okSt_1i, okSt_1r, okSt_1n, List.length_cons, List.length_nil, xpk_succ cd_96_0, xpk_succ cd_96_1, xpk_succ cd_96_4, xpk_succ cd_96_7, xpk_succ cd_96_10, xpk_succ cd_96_11, xpk_succ cd_96_14, xpk_succ cd_96_15, xpk_succ cd_96_18, xpk_succ cd_96_19, xpk_succ cd_96_20, xpk_succ cd_96_21, xpk_succ cd_96_22, xpk_succ cd_96_23, xpk_succ cd_96_24, xpk_succ cd_96_25, xpk_succ cd_96_26, xpk_succ cd_96_29, xpk_succ cd_96_30, xpk_succ cd_96_31, xpk_succ cd_96_34, hR_2, hR_3, hR_4, hR_5, hR_6, hR_7, hR_s2, hR_s3, hR_s4, hR_s5, hR_s6, hR_s7, (hR_T hb.1), (hR_sT hb.1), (R_0 hb), (R_1 hb), (R_T0 hb), (R_N hb), hK_R, hb.2.1.1, hk.2.1.1, hb.2.2.1.1, hb.2.2.1.2.2, hb.2.2.2.1, (E_kindAt (TOK_R hb.1 hk)), (E_placeAt (TOK_R hb.1 hk)), (E_valueAt (TOK_R hb.1 hk)), z1, z1q, hLq, hL]
theorem E_add {d : Nat} {h : AH} {T D cnt : Nat} {n : Int} {kn vn pn : Nat → Int} (hb : RDB h T D) (hk : TOK h cnt n kn vn pn) {L : Nat} {b c l f p : Int} {dd : Nat → Int} {a x o : Int} (hL : L < 300) (h0 : 0 ≤ x) (h1 : x ≤ 20000) (o0 : 0 ≤ o) (o1 : o < 32) (Q : Option AV → AH → Prop) : XC (d + 1) 96 [vR T, vI o, vI x] (hR h T D a b c l f p L dd) Q = Q none (hR h T D a b c l f p (L + 1) (upF dd L (32 * x + o))) := by
  rw [E_addg hb hk hL, deed_32 h0 h1 o0 o1]
set_option maxHeartbeats 4000000 in
theorem E_opens {d : Nat} {h : AH} {T D cnt : Nat} {n : Int} {kn vn pn : Nat → Int} (hb : RDB h T D) (hk : TOK h cnt n kn vn pn) {j L o : Nat} {b l f p : Int} {dd : Nat → Int} (hj : j < 1000) (ho : o < 8) (Q : Option AV → AH → Prop) : XC (d + 3) 71 [vR 70] (hR h T D (j : Int) b (o : Int) l f p L dd) Q = Q (some (vI 1)) (hR h T D ((j + 1 : Nat) : Int) ((tkf cnt kn vn (j + 1)).1) ((o + 1 : Nat) : Int) l f p L dd) := by
  have z1 : ¬ ((8 : Int) ≤ (o : Int)) := by omega
  have w1 : w32 ((o : Int) + 1) = ((o + 1 : Nat) : Int) := by unfold w32; omega
  have z1q : (o : Int) < (8 : Int) := by omega
  have hjq : ¬ (1000 ≤ j) := by omega
  have hoq : ¬ (8 ≤ o) := by omega
  refine XC_eq (Nat.le_of_ble_eq_true rfl) ?_ Q
  show XP (d + 2) 71 0 [some (vR 70)] [] (hR h T D (j : Int) b (o : Int) l f p L dd) _
  refine xpk_sound (stops := []) (n := 50) ?_
  simp only [sk_0, sk_1, sk_2, sk_3, sk_4, sk_5, sk_6, sk_7, sk_8, sk_iadd, sk_isub, sk_imul, sk_iand, sk_ior, sk_ixor, sk_ishl, sk_ishr, sk_iushr, sk_idiv, sk_irem, sk_ineg, sk_ladd, sk_lsub, sk_lmul, sk_land, sk_lor, sk_ldiv, sk_lrem, sk_lneg, sk_lshl, sk_lshr, sk_i2l, sk_l2i, sk_lcmp, sk_dupI, sk_dupR, sk_dup2L, sk_dup2I, sk_popI, sk_ifeq, sk_ifne, sk_iflt, sk_ifge, sk_ifgt, sk_ifle, sk_iceq, sk_icne, sk_iclt, sk_icge, sk_icgt, sk_icle, sk_goto, sk_getf, sk_putf, sk_gets, sk_iald, sk_lald, sk_bald, sk_aald, sk_iast, sk_last, sk_bast, sk_aast, sk_alen, sk_newa, sk_newt, sk_new, sk_cs1, sk_cs2, sk_cs3, sk_cs4, sk_cs5, sk_cs6, sk_cv1, sk_cv2, sk_cv3, sk_cv4, sk_cv5, sk_cv6, sk_ci1, sk_ci2, sk_ci3, sk_ret0, sk_retI, sk_retL, sk_retR, sk_sw, sk_oin, sk_max, sk_min, sk_abs, lI_0, lI_s, lL_0, lL_s, lR_0, lR_s, vIo_e, vLo_e, vOo_e, stW_I, stW_L, stW_R, stW_0, stW_z, okSt_0, okSt_s, hV_eq, hK_eq, okF_0, okF_1, okF_3, is01_0, is01_1, is01_i, Int.toNat_natCast, Int.reduceEq, Int.reduceLE, Int.reduceLT, Int.reduceNeg, Nat.reduceLT, not_true_eq_false, not_false_eq_true, reduceIte, Option.toList, List.cons_append, List.nil_append, List.set_cons_zero, List.set_cons_succ, List.not_mem_nil, List.mem_cons, if_false, if_true, ite_true, ite_false, and_self, and_true, true_and, Nat.reduceAdd, Nat.reduceLeDiff, Nat.reduceEqDiff, Nat.zero_add, Nat.le_refl, Nat.zero_le, or_false, false_or, Int.reduceToNat, or_true, true_or, eq_self, and_false, false_and, inR_d, nc_4, nc_5, nc_6, nc_7, nc_8, nc_16, nc_18, nc_20, nc_24, nc_32, nc_40, nc_64, nc_104, nc_120, nc_160, nc_256, nc_300, nc_330, nc_390, nc_1200, nc_1260, nc_3012, nc_9834, okSt_1i, okSt_1r, okSt_1n, List.length_cons, List.length_nil, xpk_succ cd_71_0, xpk_succ cd_71_1, xpk_succ cd_71_4, xpk_succ cd_71_6, xpk_succ cd_71_9, xpk_succ cd_71_10, xpk_succ cd_71_11, xpk_succ cd_71_14, xpk_succ cd_71_15, xpk_succ cd_71_16, xpk_succ cd_71_17, xpk_succ cd_71_18, xpk_succ cd_71_21, xpk_succ cd_71_22, xpk_succ cd_71_23, xpk_succ cd_71_26, xpk_succ cd_71_27, xpk_succ cd_71_30, xpk_succ cd_71_31, hR_2, hR_3, hR_4, hR_5, hR_6, hR_7, hR_s2, hR_s3, hR_s4, hR_s5, hR_s6, hR_s7, (hR_T hb.1), (hR_sT hb.1), (R_0 hb), (R_1 hb), (R_T0 hb), (R_N hb), hK_R, hb.2.1.1, hk.2.1.1, hb.2.2.1.1, hb.2.2.1.2.2, hb.2.2.2.1, (E_kindAt (TOK_R hb.1 hk)), (E_placeAt (TOK_R hb.1 hk)), (E_valueAt (TOK_R hb.1 hk)), z1, w1, (E_step hb hk hj), z1q, hjq, hj, hoq, ho]
set_option maxHeartbeats 4000000 in
theorem E_opensf {d : Nat} {h : AH} {T D cnt : Nat} {n : Int} {kn vn pn : Nat → Int} (hb : RDB h T D) (hk : TOK h cnt n kn vn pn) {j L : Nat} {b c l p : Int} {dd : Nat → Int} (hc : 8 ≤ c) (Q : Option AV → AH → Prop) : XC (d + 3) 71 [vR 70] (hR h T D (j : Int) b c l 0 p L dd) Q = Q (some (vI 0)) (hR h T D (j : Int) 63 c l 3 (plf cnt n pn j) L dd) := by
  have hcq : ¬ (c < 8) := by omega
  refine XC_eq (Nat.le_of_ble_eq_true rfl) ?_ Q
  show XP (d + 2) 71 0 [some (vR 70)] [] (hR h T D (j : Int) b c l 0 p L dd) _
  refine xpk_sound (stops := []) (n := 50) ?_
  simp only [sk_0, sk_1, sk_2, sk_3, sk_4, sk_5, sk_6, sk_7, sk_8, sk_iadd, sk_isub, sk_imul, sk_iand, sk_ior, sk_ixor, sk_ishl, sk_ishr, sk_iushr, sk_idiv, sk_irem, sk_ineg, sk_ladd, sk_lsub, sk_lmul, sk_land, sk_lor, sk_ldiv, sk_lrem, sk_lneg, sk_lshl, sk_lshr, sk_i2l, sk_l2i, sk_lcmp, sk_dupI, sk_dupR, sk_dup2L, sk_dup2I, sk_popI, sk_ifeq, sk_ifne, sk_iflt, sk_ifge, sk_ifgt, sk_ifle, sk_iceq, sk_icne, sk_iclt, sk_icge, sk_icgt, sk_icle, sk_goto, sk_getf, sk_putf, sk_gets, sk_iald, sk_lald, sk_bald, sk_aald, sk_iast, sk_last, sk_bast, sk_aast, sk_alen, sk_newa, sk_newt, sk_new, sk_cs1, sk_cs2, sk_cs3, sk_cs4, sk_cs5, sk_cs6, sk_cv1, sk_cv2, sk_cv3, sk_cv4, sk_cv5, sk_cv6, sk_ci1, sk_ci2, sk_ci3, sk_ret0, sk_retI, sk_retL, sk_retR, sk_sw, sk_oin, sk_max, sk_min, sk_abs, lI_0, lI_s, lL_0, lL_s, lR_0, lR_s, vIo_e, vLo_e, vOo_e, stW_I, stW_L, stW_R, stW_0, stW_z, okSt_0, okSt_s, hV_eq, hK_eq, okF_0, okF_1, okF_3, is01_0, is01_1, is01_i, Int.toNat_natCast, Int.reduceEq, Int.reduceLE, Int.reduceLT, Int.reduceNeg, Nat.reduceLT, not_true_eq_false, not_false_eq_true, reduceIte, Option.toList, List.cons_append, List.nil_append, List.set_cons_zero, List.set_cons_succ, List.not_mem_nil, List.mem_cons, if_false, if_true, ite_true, ite_false, and_self, and_true, true_and, Nat.reduceAdd, Nat.reduceLeDiff, Nat.reduceEqDiff, Nat.zero_add, Nat.le_refl, Nat.zero_le, or_false, false_or, Int.reduceToNat, or_true, true_or, eq_self, and_false, false_and, inR_d, nc_4, nc_5, nc_6, nc_7, nc_8, nc_16, nc_18, nc_20, nc_24, nc_32, nc_40, nc_64, nc_104, nc_120, nc_160, nc_256, nc_300, nc_330, nc_390, nc_1200, nc_1260, nc_3012, nc_9834, okSt_1i, okSt_1r, okSt_1n, List.length_cons, List.length_nil, xpk_succ cd_71_0, xpk_succ cd_71_1, xpk_succ cd_71_4, xpk_succ cd_71_6, xpk_succ cd_71_9, xpk_succ cd_71_10, xpk_succ cd_71_11, xpk_succ cd_71_14, xpk_succ cd_71_15, xpk_succ cd_71_16, xpk_succ cd_71_17, xpk_succ cd_71_18, xpk_succ cd_71_21, xpk_succ cd_71_22, xpk_succ cd_71_23, xpk_succ cd_71_26, xpk_succ cd_71_27, xpk_succ cd_71_30, xpk_succ cd_71_31, hR_2, hR_3, hR_4, hR_5, hR_6, hR_7, hR_s2, hR_s3, hR_s4, hR_s5, hR_s6, hR_s7, (hR_T hb.1), (hR_sT hb.1), (R_0 hb), (R_1 hb), (R_T0 hb), (R_N hb), hK_R, hb.2.1.1, hk.2.1.1, hb.2.2.1.1, hb.2.2.1.2.2, hb.2.2.2.1, (E_kindAt (TOK_R hb.1 hk)), (E_placeAt (TOK_R hb.1 hk)), (E_valueAt (TOK_R hb.1 hk)), hc, (E_fail hb hk), hcq]
def nmV (l : Int) : Int := if l < 3 then 127 else if l = 3 then 128 else 224
theorem R_nm {h : AH} {T D : Nat} (hb : RDB h T D) {l : Int} (h0 : 0 ≤ l) (h4 : l ≤ 4) : hV h 1000003 l.toNat = vI (nmV l) := by
  obtain ⟨-, -, -, -, v0, v1, v2, v3, v4⟩ := hb
  have z : l = 0 ∨ l = 1 ∨ l = 2 ∨ l = 3 ∨ l = 4 := by omega
  rcases z with rfl | rfl | rfl | rfl | rfl
  · exact v0
  · exact v1
  · exact v2
  · exact v3
  · exact v4
theorem nm_all : ∀ l : Fin 5, ∀ k : Fin 8, (iand (iand (nmV (l.val : Int)) 255) (ishl 1 (k.val : Int)) ≠ 0 ↔ isNm (l.val : Int) (k.val : Int) = true) ∧ (iand (iand (nmV (l.val : Int)) 31) (ishl 1 (k.val : Int)) ≠ 0 ↔ ((k.val : Int) ≤ 4 ∧ isNm (l.val : Int) (k.val : Int) = true)) := by decide +kernel
theorem nm_is {l k : Int} (l0 : 0 ≤ l) (l4 : l ≤ 4) (k0 : 0 ≤ k) (k7 : k ≤ 7) : (iand (iand (nmV l) 255) (ishl 1 k) ≠ 0 ↔ isNm l k = true) ∧ (iand (iand (nmV l) 31) (ishl 1 k) ≠ 0 ↔ (k ≤ 4 ∧ isNm l k = true)) := by
  have := nm_all ⟨l.toNat, by omega⟩ ⟨k.toNat, by omega⟩
  dsimp only at this
  rw [show ((l.toNat : Nat) : Int) = l by omega, show ((k.toNat : Nat) : Int) = k by omega] at this
  exact this
set_option maxHeartbeats 4000000 in
theorem E_name {d : Nat} {h : AH} {T D cnt : Nat} {n : Int} {kn vn pn : Nat → Int} (hb : RDB h T D) (hk : TOK h cnt n kn vn pn) {j L : Nat} {b c l f p : Int} {dd : Nat → Int} {x y z : Int} (hj : j < 1000) (hL : L < 300) (b1 : 11 ≤ b) (b2 : b ≤ 18) (l0 : 0 ≤ l) (l4 : l ≤ 4) (hz : iand (iand (nmV l) z) (ishl 1 (b - 11)) ≠ 0) (y0 : 0 ≤ y) (y1 : y ≤ 100) (x0 : 0 ≤ x) (x1 : x < 32) (Q : Option AV → AH → Prop) : XC (d + 3) 73 [vR 70, vI x, vI y, vI z] (hR h T D (j : Int) b c l f p L dd) Q = Q none (hR h T D ((j + 1 : Nat) : Int) ((tkf cnt kn vn (j + 1)).1) c l f p (L + 1) (upF dd L (32 * (y + (b - 11)) + x))) := by
  have w1 : w32 (b - 11) = b - 11 := by unfold w32; omega
  have z1 : ¬ (b - 11 < 0) := by omega
  have z2 : ¬ (18 < b) := by omega
  have z3 : ¬ (l < 0) := by omega
  have z4 : ¬ (5 ≤ l) := by omega
  have z5 : 0 ≤ l ∧ l < 5 := by omega
  have vn := R_nm hb l0 l4
  have w2 : w32 (y + (b - 11)) = y + (b - 11) := by unfold w32; omega
  have e0 : 0 ≤ y + (b - 11) := by omega
  have e1 : y + (b - 11) ≤ 20000 := by omega
  have z1q : 0 ≤ b - 11 := by omega
  have z2q : b ≤ 18 := by omega
  have z3q : 0 ≤ l := by omega
  have z4q : l < 5 := by omega
  have e0q : ¬ (y + (b - 11) < 0) := by omega
  have e1q : ¬ (20000 < y + (b - 11)) := by omega
  have hjq : ¬ (1000 ≤ j) := by omega
  have hLq : ¬ (300 ≤ L) := by omega
  have b1q : ¬ (b < 11) := by omega
  have b2q : ¬ (18 < b) := by omega
  have l0q : ¬ (l < 0) := by omega
  have l4q : ¬ (4 < l) := by omega
  have y0q : ¬ (y < 0) := by omega
  have y1q : ¬ (100 < y) := by omega
  have x0q : ¬ (x < 0) := by omega
  have x1q : ¬ (32 ≤ x) := by omega
  refine XC_eq (Nat.le_of_ble_eq_true rfl) ?_ Q
  show XP (d + 2) 73 0 [some (vR 70), some (vI x), some (vI y), some (vI z), none] [] (hR h T D (j : Int) b c l f p L dd) _
  refine xpk_sound (stops := []) (n := 90) ?_
  simp only [sk_0, sk_1, sk_2, sk_3, sk_4, sk_5, sk_6, sk_7, sk_8, sk_iadd, sk_isub, sk_imul, sk_iand, sk_ior, sk_ixor, sk_ishl, sk_ishr, sk_iushr, sk_idiv, sk_irem, sk_ineg, sk_ladd, sk_lsub, sk_lmul, sk_land, sk_lor, sk_ldiv, sk_lrem, sk_lneg, sk_lshl, sk_lshr, sk_i2l, sk_l2i, sk_lcmp, sk_dupI, sk_dupR, sk_dup2L, sk_dup2I, sk_popI, sk_ifeq, sk_ifne, sk_iflt, sk_ifge, sk_ifgt, sk_ifle, sk_iceq, sk_icne, sk_iclt, sk_icge, sk_icgt, sk_icle, sk_goto, sk_getf, sk_putf, sk_gets, sk_iald, sk_lald, sk_bald, sk_aald, sk_iast, sk_last, sk_bast, sk_aast, sk_alen, sk_newa, sk_newt, sk_new, sk_cs1, sk_cs2, sk_cs3, sk_cs4, sk_cs5, sk_cs6, sk_cv1, sk_cv2, sk_cv3, sk_cv4, sk_cv5, sk_cv6, sk_ci1, sk_ci2, sk_ci3, sk_ret0, sk_retI, sk_retL, sk_retR, sk_sw, sk_oin, sk_max, sk_min, sk_abs, lI_0, lI_s, lL_0, lL_s, lR_0, lR_s, vIo_e, vLo_e, vOo_e, stW_I, stW_L, stW_R, stW_0, stW_z, okSt_0, okSt_s, hV_eq, hK_eq, okF_0, okF_1, okF_3, is01_0, is01_1, is01_i, Int.toNat_natCast, Int.reduceEq, Int.reduceLE, Int.reduceLT, Int.reduceNeg, Nat.reduceLT, not_true_eq_false, not_false_eq_true, reduceIte, Option.toList, List.cons_append, List.nil_append, List.set_cons_zero, List.set_cons_succ, List.not_mem_nil, List.mem_cons, if_false, if_true, ite_true, ite_false, and_self, and_true, true_and, Nat.reduceAdd, Nat.reduceLeDiff, Nat.reduceEqDiff, Nat.zero_add, Nat.le_refl, Nat.zero_le, or_false, false_or, Int.reduceToNat, or_true, true_or, eq_self, and_false, false_and, inR_d, nc_4, nc_5, nc_6, nc_7, nc_8, nc_16, nc_18, nc_20, nc_24, nc_32, nc_40, nc_64, nc_104, nc_120, nc_160, nc_256, nc_300, nc_330, nc_390, nc_1200, nc_1260, nc_3012, nc_9834, okSt_1i, okSt_1r, okSt_1n, List.length_cons, List.length_nil, xpk_succ cd_73_0, xpk_succ cd_73_1, xpk_succ cd_73_4, xpk_succ cd_73_6, xpk_succ cd_73_7, xpk_succ cd_73_9, xpk_succ cd_73_11, xpk_succ cd_73_14, xpk_succ cd_73_15, xpk_succ cd_73_18, xpk_succ cd_73_20, xpk_succ cd_73_23, xpk_succ cd_73_24, xpk_succ cd_73_25, xpk_succ cd_73_28, xpk_succ cd_73_31, xpk_succ cd_73_32, xpk_succ cd_73_35, xpk_succ cd_73_38, xpk_succ cd_73_39, xpk_succ cd_73_42, xpk_succ cd_73_43, xpk_succ cd_73_46, xpk_succ cd_73_49, xpk_succ cd_73_50, xpk_succ cd_73_53, xpk_succ cd_73_54, xpk_succ cd_73_55, xpk_succ cd_73_56, xpk_succ cd_73_57, xpk_succ cd_73_59, xpk_succ cd_73_60, xpk_succ cd_73_61, xpk_succ cd_73_64, xpk_succ cd_73_65, xpk_succ cd_73_66, xpk_succ cd_73_69, xpk_succ cd_73_72, xpk_succ cd_73_73, xpk_succ cd_73_76, xpk_succ cd_73_77, xpk_succ cd_73_78, xpk_succ cd_73_80, xpk_succ cd_73_81, xpk_succ cd_73_84, xpk_succ cd_73_85, xpk_succ cd_73_88, hR_2, hR_3, hR_4, hR_5, hR_6, hR_7, hR_s2, hR_s3, hR_s4, hR_s5, hR_s6, hR_s7, (hR_T hb.1), (hR_sT hb.1), (R_0 hb), (R_1 hb), (R_T0 hb), (R_N hb), hK_R, hb.2.1.1, hk.2.1.1, hb.2.2.1.1, hb.2.2.1.2.2, hb.2.2.2.1, (E_kindAt (TOK_R hb.1 hk)), (E_placeAt (TOK_R hb.1 hk)), (E_valueAt (TOK_R hb.1 hk)), w1, z1, z2, z3, z4, z5, vn, hz, w2, (E_add hb hk hL e0 e1 x0 x1), (E_step hb hk hj), nc_5, z1q, z2q, z3q, z4q, e0q, e1q, hjq, hj, hLq, hL, b1q, b1, b2q, b2, l0q, l0, l4q, l4, y0q, y0, y1q, y1, x0q, x0, x1q, x1]
set_option maxHeartbeats 4000000 in
theorem E_name5 {d : Nat} {h : AH} {T D cnt : Nat} {n : Int} {kn vn pn : Nat → Int} (hb : RDB h T D) (hk : TOK h cnt n kn vn pn) {j L : Nat} {b c l p : Int} {dd : Nat → Int} {x y z : Int} (b1 : 11 ≤ b) (b2 : b ≤ 18) (l0 : 0 ≤ l) (l4 : l ≤ 4) (hz : iand (iand (nmV l) z) (ishl 1 (b - 11)) = 0) (Q : Option AV → AH → Prop) : XC (d + 3) 73 [vR 70, vI x, vI y, vI z] (hR h T D (j : Int) b c l 0 p L dd) Q = Q none (hR h T D (j : Int) 63 c l 5 (plf cnt n pn j) L dd) := by
  have w1 : w32 (b - 11) = b - 11 := by unfold w32; omega
  have z1 : ¬ (b - 11 < 0) := by omega
  have z2 : ¬ (18 < b) := by omega
  have z3 : ¬ (l < 0) := by omega
  have z4 : ¬ (5 ≤ l) := by omega
  have z5 : 0 ≤ l ∧ l < 5 := by omega
  have vn := R_nm hb l0 l4
  have z1q : 0 ≤ b - 11 := by omega
  have z2q : b ≤ 18 := by omega
  have z3q : 0 ≤ l := by omega
  have z4q : l < 5 := by omega
  have b1q : ¬ (b < 11) := by omega
  have b2q : ¬ (18 < b) := by omega
  have l0q : ¬ (l < 0) := by omega
  have l4q : ¬ (4 < l) := by omega
  refine XC_eq (Nat.le_of_ble_eq_true rfl) ?_ Q
  show XP (d + 2) 73 0 [some (vR 70), some (vI x), some (vI y), some (vI z), none] [] (hR h T D (j : Int) b c l 0 p L dd) _
  refine xpk_sound (stops := []) (n := 90) ?_
  simp only [sk_0, sk_1, sk_2, sk_3, sk_4, sk_5, sk_6, sk_7, sk_8, sk_iadd, sk_isub, sk_imul, sk_iand, sk_ior, sk_ixor, sk_ishl, sk_ishr, sk_iushr, sk_idiv, sk_irem, sk_ineg, sk_ladd, sk_lsub, sk_lmul, sk_land, sk_lor, sk_ldiv, sk_lrem, sk_lneg, sk_lshl, sk_lshr, sk_i2l, sk_l2i, sk_lcmp, sk_dupI, sk_dupR, sk_dup2L, sk_dup2I, sk_popI, sk_ifeq, sk_ifne, sk_iflt, sk_ifge, sk_ifgt, sk_ifle, sk_iceq, sk_icne, sk_iclt, sk_icge, sk_icgt, sk_icle, sk_goto, sk_getf, sk_putf, sk_gets, sk_iald, sk_lald, sk_bald, sk_aald, sk_iast, sk_last, sk_bast, sk_aast, sk_alen, sk_newa, sk_newt, sk_new, sk_cs1, sk_cs2, sk_cs3, sk_cs4, sk_cs5, sk_cs6, sk_cv1, sk_cv2, sk_cv3, sk_cv4, sk_cv5, sk_cv6, sk_ci1, sk_ci2, sk_ci3, sk_ret0, sk_retI, sk_retL, sk_retR, sk_sw, sk_oin, sk_max, sk_min, sk_abs, lI_0, lI_s, lL_0, lL_s, lR_0, lR_s, vIo_e, vLo_e, vOo_e, stW_I, stW_L, stW_R, stW_0, stW_z, okSt_0, okSt_s, hV_eq, hK_eq, okF_0, okF_1, okF_3, is01_0, is01_1, is01_i, Int.toNat_natCast, Int.reduceEq, Int.reduceLE, Int.reduceLT, Int.reduceNeg, Nat.reduceLT, not_true_eq_false, not_false_eq_true, reduceIte, Option.toList, List.cons_append, List.nil_append, List.set_cons_zero, List.set_cons_succ, List.not_mem_nil, List.mem_cons, if_false, if_true, ite_true, ite_false, and_self, and_true, true_and, Nat.reduceAdd, Nat.reduceLeDiff, Nat.reduceEqDiff, Nat.zero_add, Nat.le_refl, Nat.zero_le, or_false, false_or, Int.reduceToNat, or_true, true_or, eq_self, and_false, false_and, inR_d, nc_4, nc_5, nc_6, nc_7, nc_8, nc_16, nc_18, nc_20, nc_24, nc_32, nc_40, nc_64, nc_104, nc_120, nc_160, nc_256, nc_300, nc_330, nc_390, nc_1200, nc_1260, nc_3012, nc_9834, okSt_1i, okSt_1r, okSt_1n, List.length_cons, List.length_nil, xpk_succ cd_73_0, xpk_succ cd_73_1, xpk_succ cd_73_4, xpk_succ cd_73_6, xpk_succ cd_73_7, xpk_succ cd_73_9, xpk_succ cd_73_11, xpk_succ cd_73_14, xpk_succ cd_73_15, xpk_succ cd_73_18, xpk_succ cd_73_20, xpk_succ cd_73_23, xpk_succ cd_73_24, xpk_succ cd_73_25, xpk_succ cd_73_28, xpk_succ cd_73_31, xpk_succ cd_73_32, xpk_succ cd_73_35, xpk_succ cd_73_38, xpk_succ cd_73_39, xpk_succ cd_73_42, xpk_succ cd_73_43, xpk_succ cd_73_46, xpk_succ cd_73_49, xpk_succ cd_73_50, xpk_succ cd_73_53, xpk_succ cd_73_54, xpk_succ cd_73_55, xpk_succ cd_73_56, xpk_succ cd_73_57, xpk_succ cd_73_59, xpk_succ cd_73_60, xpk_succ cd_73_61, xpk_succ cd_73_64, xpk_succ cd_73_65, xpk_succ cd_73_66, xpk_succ cd_73_69, xpk_succ cd_73_72, xpk_succ cd_73_73, xpk_succ cd_73_76, xpk_succ cd_73_77, xpk_succ cd_73_78, xpk_succ cd_73_80, xpk_succ cd_73_81, xpk_succ cd_73_84, xpk_succ cd_73_85, xpk_succ cd_73_88, hR_2, hR_3, hR_4, hR_5, hR_6, hR_7, hR_s2, hR_s3, hR_s4, hR_s5, hR_s6, hR_s7, (hR_T hb.1), (hR_sT hb.1), (R_0 hb), (R_1 hb), (R_T0 hb), (R_N hb), hK_R, hb.2.1.1, hk.2.1.1, hb.2.2.1.1, hb.2.2.1.2.2, hb.2.2.2.1, (E_kindAt (TOK_R hb.1 hk)), (E_placeAt (TOK_R hb.1 hk)), (E_valueAt (TOK_R hb.1 hk)), w1, z1, z2, z3, z4, z5, vn, hz, (E_fail hb hk), nc_5, z1q, z2q, z3q, z4q, b1q, b1, b2q, b2, l0q, l0, l4q, l4]
set_option maxHeartbeats 4000000 in
theorem E_name1 {d : Nat} {h : AH} {T D cnt : Nat} {n : Int} {kn vn pn : Nat → Int} (hb : RDB h T D) (hk : TOK h cnt n kn vn pn) {j L : Nat} {b c l p : Int} {dd : Nat → Int} {x y z : Int} (b1 : b < 11) (b0 : 0 ≤ b) (Q : Option AV → AH → Prop) : XC (d + 3) 73 [vR 70, vI x, vI y, vI z] (hR h T D (j : Int) b c l 0 p L dd) Q = Q none (hR h T D (j : Int) 63 c l 1 (plf cnt n pn j) L dd) := by
  have w1 : w32 (b - 11) = b - 11 := by unfold w32; omega
  have z1 : b - 11 < 0 := by omega
  have z1q : ¬ (0 ≤ b - 11) := by omega
  have b1q : ¬ (11 ≤ b) := by omega
  have b0q : ¬ (b < 0) := by omega
  refine XC_eq (Nat.le_of_ble_eq_true rfl) ?_ Q
  show XP (d + 2) 73 0 [some (vR 70), some (vI x), some (vI y), some (vI z), none] [] (hR h T D (j : Int) b c l 0 p L dd) _
  refine xpk_sound (stops := []) (n := 90) ?_
  simp only [sk_0, sk_1, sk_2, sk_3, sk_4, sk_5, sk_6, sk_7, sk_8, sk_iadd, sk_isub, sk_imul, sk_iand, sk_ior, sk_ixor, sk_ishl, sk_ishr, sk_iushr, sk_idiv, sk_irem, sk_ineg, sk_ladd, sk_lsub, sk_lmul, sk_land, sk_lor, sk_ldiv, sk_lrem, sk_lneg, sk_lshl, sk_lshr, sk_i2l, sk_l2i, sk_lcmp, sk_dupI, sk_dupR, sk_dup2L, sk_dup2I, sk_popI, sk_ifeq, sk_ifne, sk_iflt, sk_ifge, sk_ifgt, sk_ifle, sk_iceq, sk_icne, sk_iclt, sk_icge, sk_icgt, sk_icle, sk_goto, sk_getf, sk_putf, sk_gets, sk_iald, sk_lald, sk_bald, sk_aald, sk_iast, sk_last, sk_bast, sk_aast, sk_alen, sk_newa, sk_newt, sk_new, sk_cs1, sk_cs2, sk_cs3, sk_cs4, sk_cs5, sk_cs6, sk_cv1, sk_cv2, sk_cv3, sk_cv4, sk_cv5, sk_cv6, sk_ci1, sk_ci2, sk_ci3, sk_ret0, sk_retI, sk_retL, sk_retR, sk_sw, sk_oin, sk_max, sk_min, sk_abs, lI_0, lI_s, lL_0, lL_s, lR_0, lR_s, vIo_e, vLo_e, vOo_e, stW_I, stW_L, stW_R, stW_0, stW_z, okSt_0, okSt_s, hV_eq, hK_eq, okF_0, okF_1, okF_3, is01_0, is01_1, is01_i, Int.toNat_natCast, Int.reduceEq, Int.reduceLE, Int.reduceLT, Int.reduceNeg, Nat.reduceLT, not_true_eq_false, not_false_eq_true, reduceIte, Option.toList, List.cons_append, List.nil_append, List.set_cons_zero, List.set_cons_succ, List.not_mem_nil, List.mem_cons, if_false, if_true, ite_true, ite_false, and_self, and_true, true_and, Nat.reduceAdd, Nat.reduceLeDiff, Nat.reduceEqDiff, Nat.zero_add, Nat.le_refl, Nat.zero_le, or_false, false_or, Int.reduceToNat, or_true, true_or, eq_self, and_false, false_and, inR_d, nc_4, nc_5, nc_6, nc_7, nc_8, nc_16, nc_18, nc_20, nc_24, nc_32, nc_40, nc_64, nc_104, nc_120, nc_160, nc_256, nc_300, nc_330, nc_390, nc_1200, nc_1260, nc_3012, nc_9834, okSt_1i, okSt_1r, okSt_1n, List.length_cons, List.length_nil, xpk_succ cd_73_0, xpk_succ cd_73_1, xpk_succ cd_73_4, xpk_succ cd_73_6, xpk_succ cd_73_7, xpk_succ cd_73_9, xpk_succ cd_73_11, xpk_succ cd_73_14, xpk_succ cd_73_15, xpk_succ cd_73_18, xpk_succ cd_73_20, xpk_succ cd_73_23, xpk_succ cd_73_24, xpk_succ cd_73_25, xpk_succ cd_73_28, xpk_succ cd_73_31, xpk_succ cd_73_32, xpk_succ cd_73_35, xpk_succ cd_73_38, xpk_succ cd_73_39, xpk_succ cd_73_42, xpk_succ cd_73_43, xpk_succ cd_73_46, xpk_succ cd_73_49, xpk_succ cd_73_50, xpk_succ cd_73_53, xpk_succ cd_73_54, xpk_succ cd_73_55, xpk_succ cd_73_56, xpk_succ cd_73_57, xpk_succ cd_73_59, xpk_succ cd_73_60, xpk_succ cd_73_61, xpk_succ cd_73_64, xpk_succ cd_73_65, xpk_succ cd_73_66, xpk_succ cd_73_69, xpk_succ cd_73_72, xpk_succ cd_73_73, xpk_succ cd_73_76, xpk_succ cd_73_77, xpk_succ cd_73_78, xpk_succ cd_73_80, xpk_succ cd_73_81, xpk_succ cd_73_84, xpk_succ cd_73_85, xpk_succ cd_73_88, hR_2, hR_3, hR_4, hR_5, hR_6, hR_7, hR_s2, hR_s3, hR_s4, hR_s5, hR_s6, hR_s7, (hR_T hb.1), (hR_sT hb.1), (R_0 hb), (R_1 hb), (R_T0 hb), (R_N hb), hK_R, hb.2.1.1, hk.2.1.1, hb.2.2.1.1, hb.2.2.1.2.2, hb.2.2.2.1, (E_kindAt (TOK_R hb.1 hk)), (E_placeAt (TOK_R hb.1 hk)), (E_valueAt (TOK_R hb.1 hk)), w1, z1, b1, (E_fail hb hk), z1q, b1q, b0q, b0]
set_option maxHeartbeats 4000000 in
theorem E_name1b {d : Nat} {h : AH} {T D cnt : Nat} {n : Int} {kn vn pn : Nat → Int} (hb : RDB h T D) (hk : TOK h cnt n kn vn pn) {j L : Nat} {b c l p : Int} {dd : Nat → Int} {x y z : Int} (b1 : 18 < b) (b0 : b ≤ 100) (Q : Option AV → AH → Prop) : XC (d + 3) 73 [vR 70, vI x, vI y, vI z] (hR h T D (j : Int) b c l 0 p L dd) Q = Q none (hR h T D (j : Int) 63 c l 1 (plf cnt n pn j) L dd) := by
  have w1 : w32 (b - 11) = b - 11 := by unfold w32; omega
  have z1 : ¬ (b - 11 < 0) := by omega
  have z1q : 0 ≤ b - 11 := by omega
  have b1q : ¬ (b ≤ 18) := by omega
  have b0q : ¬ (100 < b) := by omega
  refine XC_eq (Nat.le_of_ble_eq_true rfl) ?_ Q
  show XP (d + 2) 73 0 [some (vR 70), some (vI x), some (vI y), some (vI z), none] [] (hR h T D (j : Int) b c l 0 p L dd) _
  refine xpk_sound (stops := []) (n := 90) ?_
  simp only [sk_0, sk_1, sk_2, sk_3, sk_4, sk_5, sk_6, sk_7, sk_8, sk_iadd, sk_isub, sk_imul, sk_iand, sk_ior, sk_ixor, sk_ishl, sk_ishr, sk_iushr, sk_idiv, sk_irem, sk_ineg, sk_ladd, sk_lsub, sk_lmul, sk_land, sk_lor, sk_ldiv, sk_lrem, sk_lneg, sk_lshl, sk_lshr, sk_i2l, sk_l2i, sk_lcmp, sk_dupI, sk_dupR, sk_dup2L, sk_dup2I, sk_popI, sk_ifeq, sk_ifne, sk_iflt, sk_ifge, sk_ifgt, sk_ifle, sk_iceq, sk_icne, sk_iclt, sk_icge, sk_icgt, sk_icle, sk_goto, sk_getf, sk_putf, sk_gets, sk_iald, sk_lald, sk_bald, sk_aald, sk_iast, sk_last, sk_bast, sk_aast, sk_alen, sk_newa, sk_newt, sk_new, sk_cs1, sk_cs2, sk_cs3, sk_cs4, sk_cs5, sk_cs6, sk_cv1, sk_cv2, sk_cv3, sk_cv4, sk_cv5, sk_cv6, sk_ci1, sk_ci2, sk_ci3, sk_ret0, sk_retI, sk_retL, sk_retR, sk_sw, sk_oin, sk_max, sk_min, sk_abs, lI_0, lI_s, lL_0, lL_s, lR_0, lR_s, vIo_e, vLo_e, vOo_e, stW_I, stW_L, stW_R, stW_0, stW_z, okSt_0, okSt_s, hV_eq, hK_eq, okF_0, okF_1, okF_3, is01_0, is01_1, is01_i, Int.toNat_natCast, Int.reduceEq, Int.reduceLE, Int.reduceLT, Int.reduceNeg, Nat.reduceLT, not_true_eq_false, not_false_eq_true, reduceIte, Option.toList, List.cons_append, List.nil_append, List.set_cons_zero, List.set_cons_succ, List.not_mem_nil, List.mem_cons, if_false, if_true, ite_true, ite_false, and_self, and_true, true_and, Nat.reduceAdd, Nat.reduceLeDiff, Nat.reduceEqDiff, Nat.zero_add, Nat.le_refl, Nat.zero_le, or_false, false_or, Int.reduceToNat, or_true, true_or, eq_self, and_false, false_and, inR_d, nc_4, nc_5, nc_6, nc_7, nc_8, nc_16, nc_18, nc_20, nc_24, nc_32, nc_40, nc_64, nc_104, nc_120, nc_160, nc_256, nc_300, nc_330, nc_390, nc_1200, nc_1260, nc_3012, nc_9834, okSt_1i, okSt_1r, okSt_1n, List.length_cons, List.length_nil, xpk_succ cd_73_0, xpk_succ cd_73_1, xpk_succ cd_73_4, xpk_succ cd_73_6, xpk_succ cd_73_7, xpk_succ cd_73_9, xpk_succ cd_73_11, xpk_succ cd_73_14, xpk_succ cd_73_15, xpk_succ cd_73_18, xpk_succ cd_73_20, xpk_succ cd_73_23, xpk_succ cd_73_24, xpk_succ cd_73_25, xpk_succ cd_73_28, xpk_succ cd_73_31, xpk_succ cd_73_32, xpk_succ cd_73_35, xpk_succ cd_73_38, xpk_succ cd_73_39, xpk_succ cd_73_42, xpk_succ cd_73_43, xpk_succ cd_73_46, xpk_succ cd_73_49, xpk_succ cd_73_50, xpk_succ cd_73_53, xpk_succ cd_73_54, xpk_succ cd_73_55, xpk_succ cd_73_56, xpk_succ cd_73_57, xpk_succ cd_73_59, xpk_succ cd_73_60, xpk_succ cd_73_61, xpk_succ cd_73_64, xpk_succ cd_73_65, xpk_succ cd_73_66, xpk_succ cd_73_69, xpk_succ cd_73_72, xpk_succ cd_73_73, xpk_succ cd_73_76, xpk_succ cd_73_77, xpk_succ cd_73_78, xpk_succ cd_73_80, xpk_succ cd_73_81, xpk_succ cd_73_84, xpk_succ cd_73_85, xpk_succ cd_73_88, hR_2, hR_3, hR_4, hR_5, hR_6, hR_7, hR_s2, hR_s3, hR_s4, hR_s5, hR_s6, hR_s7, (hR_T hb.1), (hR_sT hb.1), (R_0 hb), (R_1 hb), (R_T0 hb), (R_N hb), hK_R, hb.2.1.1, hk.2.1.1, hb.2.2.1.1, hb.2.2.1.2.2, hb.2.2.2.1, (E_kindAt (TOK_R hb.1 hk)), (E_placeAt (TOK_R hb.1 hk)), (E_valueAt (TOK_R hb.1 hk)), w1, z1, b1, (E_fail hb hk), z1q, b1q, b0q, b0]
set_option maxHeartbeats 4000000 in
theorem E_failx {d : Nat} {h : AH} {T D cnt : Nat} {n : Int} {kn vn pn : Nat → Int} (hb : RDB h T D) (hk : TOK h cnt n kn vn pn) {L : Nat} {b c l f p : Int} {dd : Nat → Int} {a x : Int} (hf : f ≠ 0) (Q : Option AV → AH → Prop) : XC (d + 2) 60 [vR 70, vI x] (hR h T D a b c l f p L dd) Q = Q none (hR h T D a b c l f p L dd) := by
  refine XC_eq (Nat.le_of_ble_eq_true rfl) ?_ Q
  show XP (d + 1) 60 0 [some (vR 70), some (vI x)] [] (hR h T D a b c l f p L dd) _
  refine xpk_sound (stops := []) (n := 40) ?_
  simp only [sk_0, sk_1, sk_2, sk_3, sk_4, sk_5, sk_6, sk_7, sk_8, sk_iadd, sk_isub, sk_imul, sk_iand, sk_ior, sk_ixor, sk_ishl, sk_ishr, sk_iushr, sk_idiv, sk_irem, sk_ineg, sk_ladd, sk_lsub, sk_lmul, sk_land, sk_lor, sk_ldiv, sk_lrem, sk_lneg, sk_lshl, sk_lshr, sk_i2l, sk_l2i, sk_lcmp, sk_dupI, sk_dupR, sk_dup2L, sk_dup2I, sk_popI, sk_ifeq, sk_ifne, sk_iflt, sk_ifge, sk_ifgt, sk_ifle, sk_iceq, sk_icne, sk_iclt, sk_icge, sk_icgt, sk_icle, sk_goto, sk_getf, sk_putf, sk_gets, sk_iald, sk_lald, sk_bald, sk_aald, sk_iast, sk_last, sk_bast, sk_aast, sk_alen, sk_newa, sk_newt, sk_new, sk_cs1, sk_cs2, sk_cs3, sk_cs4, sk_cs5, sk_cs6, sk_cv1, sk_cv2, sk_cv3, sk_cv4, sk_cv5, sk_cv6, sk_ci1, sk_ci2, sk_ci3, sk_ret0, sk_retI, sk_retL, sk_retR, sk_sw, sk_oin, sk_max, sk_min, sk_abs, lI_0, lI_s, lL_0, lL_s, lR_0, lR_s, vIo_e, vLo_e, vOo_e, stW_I, stW_L, stW_R, stW_0, stW_z, okSt_0, okSt_s, hV_eq, hK_eq, okF_0, okF_1, okF_3, is01_0, is01_1, is01_i, Int.toNat_natCast, Int.reduceEq, Int.reduceLE, Int.reduceLT, Int.reduceNeg, Nat.reduceLT, not_true_eq_false, not_false_eq_true, reduceIte, Option.toList, List.cons_append, List.nil_append, List.set_cons_zero, List.set_cons_succ, List.not_mem_nil, List.mem_cons, if_false, if_true, ite_true, ite_false, and_self, and_true, true_and, Nat.reduceAdd, Nat.reduceLeDiff, Nat.reduceEqDiff, Nat.zero_add, Nat.le_refl, Nat.zero_le, or_false, false_or, Int.reduceToNat, or_true, true_or, eq_self, and_false, false_and, inR_d, nc_4, nc_5, nc_6, nc_7, nc_8, nc_16, nc_18, nc_20, nc_24, nc_32, nc_40, nc_64, nc_104, nc_120, nc_160, nc_256, nc_300, nc_330, nc_390, nc_1200, nc_1260, nc_3012, nc_9834, okSt_1i, okSt_1r, okSt_1n, List.length_cons, List.length_nil, xpk_succ cd_60_0, xpk_succ cd_60_1, xpk_succ cd_60_4, xpk_succ cd_60_7, xpk_succ cd_60_8, xpk_succ cd_60_9, xpk_succ cd_60_12, xpk_succ cd_60_13, xpk_succ cd_60_14, xpk_succ cd_60_17, xpk_succ cd_60_18, xpk_succ cd_60_21, xpk_succ cd_60_24, xpk_succ cd_60_27, xpk_succ cd_60_28, xpk_succ cd_60_30, xpk_succ cd_60_33, hR_2, hR_3, hR_4, hR_5, hR_6, hR_7, hR_s2, hR_s3, hR_s4, hR_s5, hR_s6, hR_s7, (hR_T hb.1), (hR_sT hb.1), (R_0 hb), (R_1 hb), (R_T0 hb), (R_N hb), hK_R, hb.2.1.1, hk.2.1.1, hb.2.2.1.1, hb.2.2.1.2.2, hb.2.2.2.1, (E_kindAt (TOK_R hb.1 hk)), (E_placeAt (TOK_R hb.1 hk)), (E_valueAt (TOK_R hb.1 hk)), hf]
set_option maxHeartbeats 4000000 in
theorem F_name {d : Nat} {h : AH} {T D cnt : Nat} {n : Int} {kn vn pn : Nat → Int} (hb : RDB h T D) (hk : TOK h cnt n kn vn pn) {L : Nat} {c l f p : Int} {dd : Nat → Int} {a x y z : Int} (hf : f ≠ 0) (Q : Option AV → AH → Prop) : XC (d + 3) 73 [vR 70, vI x, vI y, vI z] (hR h T D a 63 c l f p L dd) Q = Q none (hR h T D a 63 c l f p L dd) := by
  have w1 : w32 (63 - 11) = 52 := by decide
  refine XC_eq (Nat.le_of_ble_eq_true rfl) ?_ Q
  show XP (d + 2) 73 0 [some (vR 70), some (vI x), some (vI y), some (vI z), none] [] (hR h T D a 63 c l f p L dd) _
  refine xpk_sound (stops := []) (n := 90) ?_
  simp only [sk_0, sk_1, sk_2, sk_3, sk_4, sk_5, sk_6, sk_7, sk_8, sk_iadd, sk_isub, sk_imul, sk_iand, sk_ior, sk_ixor, sk_ishl, sk_ishr, sk_iushr, sk_idiv, sk_irem, sk_ineg, sk_ladd, sk_lsub, sk_lmul, sk_land, sk_lor, sk_ldiv, sk_lrem, sk_lneg, sk_lshl, sk_lshr, sk_i2l, sk_l2i, sk_lcmp, sk_dupI, sk_dupR, sk_dup2L, sk_dup2I, sk_popI, sk_ifeq, sk_ifne, sk_iflt, sk_ifge, sk_ifgt, sk_ifle, sk_iceq, sk_icne, sk_iclt, sk_icge, sk_icgt, sk_icle, sk_goto, sk_getf, sk_putf, sk_gets, sk_iald, sk_lald, sk_bald, sk_aald, sk_iast, sk_last, sk_bast, sk_aast, sk_alen, sk_newa, sk_newt, sk_new, sk_cs1, sk_cs2, sk_cs3, sk_cs4, sk_cs5, sk_cs6, sk_cv1, sk_cv2, sk_cv3, sk_cv4, sk_cv5, sk_cv6, sk_ci1, sk_ci2, sk_ci3, sk_ret0, sk_retI, sk_retL, sk_retR, sk_sw, sk_oin, sk_max, sk_min, sk_abs, lI_0, lI_s, lL_0, lL_s, lR_0, lR_s, vIo_e, vLo_e, vOo_e, stW_I, stW_L, stW_R, stW_0, stW_z, okSt_0, okSt_s, hV_eq, hK_eq, okF_0, okF_1, okF_3, is01_0, is01_1, is01_i, Int.toNat_natCast, Int.reduceEq, Int.reduceLE, Int.reduceLT, Int.reduceNeg, Nat.reduceLT, not_true_eq_false, not_false_eq_true, reduceIte, Option.toList, List.cons_append, List.nil_append, List.set_cons_zero, List.set_cons_succ, List.not_mem_nil, List.mem_cons, if_false, if_true, ite_true, ite_false, and_self, and_true, true_and, Nat.reduceAdd, Nat.reduceLeDiff, Nat.reduceEqDiff, Nat.zero_add, Nat.le_refl, Nat.zero_le, or_false, false_or, Int.reduceToNat, or_true, true_or, eq_self, and_false, false_and, inR_d, nc_4, nc_5, nc_6, nc_7, nc_8, nc_16, nc_18, nc_20, nc_24, nc_32, nc_40, nc_64, nc_104, nc_120, nc_160, nc_256, nc_300, nc_330, nc_390, nc_1200, nc_1260, nc_3012, nc_9834, okSt_1i, okSt_1r, okSt_1n, List.length_cons, List.length_nil, xpk_succ cd_73_0, xpk_succ cd_73_1, xpk_succ cd_73_4, xpk_succ cd_73_6, xpk_succ cd_73_7, xpk_succ cd_73_9, xpk_succ cd_73_11, xpk_succ cd_73_14, xpk_succ cd_73_15, xpk_succ cd_73_18, xpk_succ cd_73_20, xpk_succ cd_73_23, xpk_succ cd_73_24, xpk_succ cd_73_25, xpk_succ cd_73_28, xpk_succ cd_73_31, xpk_succ cd_73_32, xpk_succ cd_73_35, xpk_succ cd_73_38, xpk_succ cd_73_39, xpk_succ cd_73_42, xpk_succ cd_73_43, xpk_succ cd_73_46, xpk_succ cd_73_49, xpk_succ cd_73_50, xpk_succ cd_73_53, xpk_succ cd_73_54, xpk_succ cd_73_55, xpk_succ cd_73_56, xpk_succ cd_73_57, xpk_succ cd_73_59, xpk_succ cd_73_60, xpk_succ cd_73_61, xpk_succ cd_73_64, xpk_succ cd_73_65, xpk_succ cd_73_66, xpk_succ cd_73_69, xpk_succ cd_73_72, xpk_succ cd_73_73, xpk_succ cd_73_76, xpk_succ cd_73_77, xpk_succ cd_73_78, xpk_succ cd_73_80, xpk_succ cd_73_81, xpk_succ cd_73_84, xpk_succ cd_73_85, xpk_succ cd_73_88, hR_2, hR_3, hR_4, hR_5, hR_6, hR_7, hR_s2, hR_s3, hR_s4, hR_s5, hR_s6, hR_s7, (hR_T hb.1), (hR_sT hb.1), (R_0 hb), (R_1 hb), (R_T0 hb), (R_N hb), hK_R, hb.2.1.1, hk.2.1.1, hb.2.2.1.1, hb.2.2.1.2.2, hb.2.2.2.1, (E_kindAt (TOK_R hb.1 hk)), (E_placeAt (TOK_R hb.1 hk)), (E_valueAt (TOK_R hb.1 hk)), w1, (E_failx hb hk hf)]
theorem iand_31 {x o : Int} (h0 : 0 ≤ x) (h1 : x ≤ 20000) (o0 : 0 ≤ o) (o1 : o < 32) : iand (32 * x + o) 31 = o := by
  obtain ⟨n, rfl⟩ := Int.eq_ofNat_of_zero_le h0
  obtain ⟨m, rfl⟩ := Int.eq_ofNat_of_zero_le o0
  have hn : n ≤ 20000 := by omega
  have hm : m < 32 := by omega
  unfold iand
  rw [show (32 * ((n : Nat) : Int) + ((m : Nat) : Int)) = ((32 * n + m : Nat) : Int) by omega]
  have e2 : BitVec.ofInt 32 (((32 * n + m : Nat) : Int)) = BitVec.ofNat 32 (32 * n + m) := rfl
  have e3 : BitVec.ofInt 32 31 = BitVec.ofNat 32 31 := rfl
  rw [e2, e3]
  have e4 : (BitVec.ofNat 32 (32 * n + m) &&& BitVec.ofNat 32 31).toNat = m := by
    rw [BitVec.toNat_and, BitVec.toNat_ofNat, BitVec.toNat_ofNat, Nat.mod_eq_of_lt (show 32 * n + m < 2 ^ 32 by omega), show 31 % 2 ^ 32 = 2 ^ 5 - 1 by decide, Nat.and_two_pow_sub_one_eq_mod]
    omega
  rw [BitVec.toInt_eq_toNat_of_lt (by rw [e4]; omega), e4]
set_option maxHeartbeats 4000000 in
theorem E_leap {d : Nat} {h : AH} {T D cnt : Nat} {n : Int} {kn vn pn : Nat → Int} (hb : RDB h T D) (hk : TOK h cnt n kn vn pn) {L m : Nat} {b c l f p : Int} {dd : Nat → Int} {a x o : Int} (hm : m < L) (hL : L ≤ 300) (hd : dd m = 32 * x + o) (h0 : 0 ≤ x) (h1 : x ≤ 20000) (o0 : 0 ≤ o) (o1 : o < 32) (Q : Option AV → AH → Prop) : XC (d + 2) 97 [vR T, vI (m : Int)] (hR h T D a b c l f p L dd) Q = Q none (hR h T D a b c l f p L (upF dd m (32 * (L : Int) + o))) := by
  have m3 : m < 300 := by omega
  have w1 : w32 ((L : Int) - 1) = (L : Int) - 1 := by unfold w32; omega
  have z1 : (0 : Int) ≤ (m : Int) ∧ (m : Int) ≤ (L : Int) - 1 := by omega
  have z2 : (0 : Int) ≤ (m : Int) ∧ (m : Int) < 300 := by omega
  have m3q : ¬ (300 ≤ m) := by omega
  have hmq : ¬ (L ≤ m) := by omega
  have hLq : ¬ (300 < L) := by omega
  have h0q : ¬ (x < 0) := by omega
  have h1q : ¬ (20000 < x) := by omega
  have o0q : ¬ (o < 0) := by omega
  have o1q : ¬ (32 ≤ o) := by omega
  refine XC_eq (Nat.le_of_ble_eq_true rfl) ?_ Q
  show XP (d + 1) 97 0 [some (vR T), some (vI (m : Int))] [] (hR h T D a b c l f p L dd) _
  refine xpk_sound (stops := []) (n := 60) ?_
  simp only [sk_0, sk_1, sk_2, sk_3, sk_4, sk_5, sk_6, sk_7, sk_8, sk_iadd, sk_isub, sk_imul, sk_iand, sk_ior, sk_ixor, sk_ishl, sk_ishr, sk_iushr, sk_idiv, sk_irem, sk_ineg, sk_ladd, sk_lsub, sk_lmul, sk_land, sk_lor, sk_ldiv, sk_lrem, sk_lneg, sk_lshl, sk_lshr, sk_i2l, sk_l2i, sk_lcmp, sk_dupI, sk_dupR, sk_dup2L, sk_dup2I, sk_popI, sk_ifeq, sk_ifne, sk_iflt, sk_ifge, sk_ifgt, sk_ifle, sk_iceq, sk_icne, sk_iclt, sk_icge, sk_icgt, sk_icle, sk_goto, sk_getf, sk_putf, sk_gets, sk_iald, sk_lald, sk_bald, sk_aald, sk_iast, sk_last, sk_bast, sk_aast, sk_alen, sk_newa, sk_newt, sk_new, sk_cs1, sk_cs2, sk_cs3, sk_cs4, sk_cs5, sk_cs6, sk_cv1, sk_cv2, sk_cv3, sk_cv4, sk_cv5, sk_cv6, sk_ci1, sk_ci2, sk_ci3, sk_ret0, sk_retI, sk_retL, sk_retR, sk_sw, sk_oin, sk_max, sk_min, sk_abs, lI_0, lI_s, lL_0, lL_s, lR_0, lR_s, vIo_e, vLo_e, vOo_e, stW_I, stW_L, stW_R, stW_0, stW_z, okSt_0, okSt_s, hV_eq, hK_eq, okF_0, okF_1, okF_3, is01_0, is01_1, is01_i, Int.toNat_natCast, Int.reduceEq, Int.reduceLE, Int.reduceLT, Int.reduceNeg, Nat.reduceLT, not_true_eq_false, not_false_eq_true, reduceIte, Option.toList, List.cons_append, List.nil_append, List.set_cons_zero, List.set_cons_succ, List.not_mem_nil, List.mem_cons, if_false, if_true, ite_true, ite_false, and_self, and_true, true_and, Nat.reduceAdd, Nat.reduceLeDiff, Nat.reduceEqDiff, Nat.zero_add, Nat.le_refl, Nat.zero_le, or_false, false_or, Int.reduceToNat, or_true, true_or, eq_self, and_false, false_and, inR_d, nc_4, nc_5, nc_6, nc_7, nc_8, nc_16, nc_18, nc_20, nc_24, nc_32, nc_40, nc_64, nc_104, nc_120, nc_160, nc_256, nc_300, nc_330, nc_390, nc_1200, nc_1260, nc_3012, nc_9834, okSt_1i, okSt_1r, okSt_1n, List.length_cons, List.length_nil, xpk_succ cd_97_0, xpk_succ cd_97_1, xpk_succ cd_97_2, xpk_succ cd_97_3, xpk_succ cd_97_6, xpk_succ cd_97_7, xpk_succ cd_97_8, xpk_succ cd_97_11, xpk_succ cd_97_14, xpk_succ cd_97_15, xpk_succ cd_97_18, xpk_succ cd_97_19, xpk_succ cd_97_20, xpk_succ cd_97_23, xpk_succ cd_97_24, xpk_succ cd_97_25, xpk_succ cd_97_26, xpk_succ cd_97_29, xpk_succ cd_97_30, xpk_succ cd_97_31, xpk_succ cd_97_33, xpk_succ cd_97_34, xpk_succ cd_97_35, xpk_succ cd_97_36, hR_2, hR_3, hR_4, hR_5, hR_6, hR_7, hR_s2, hR_s3, hR_s4, hR_s5, hR_s6, hR_s7, (hR_T hb.1), (hR_sT hb.1), (R_0 hb), (R_1 hb), (R_T0 hb), (R_N hb), hK_R, hb.2.1.1, hk.2.1.1, hb.2.2.1.1, hb.2.2.1.2.2, hb.2.2.2.1, (E_kindAt (TOK_R hb.1 hk)), (E_placeAt (TOK_R hb.1 hk)), (E_valueAt (TOK_R hb.1 hk)), w1, z1, z2, X_wn, (hR_D hb.1 m3), (hR_sD hb.1 m3), hd, (iand_31 h0 h1 o0 o1), (deed_32 (show (0 : Int) ≤ (L : Int) by omega) (show (L : Int) ≤ 20000 by omega) o0 o1), m3q, hmq, hm, hLq, hL, h0q, h0, h1q, h1, o0q, o0, o1q, o1]
/-! behind a fault a leap changes deeds alone -/
set_option maxHeartbeats 4000000 in
theorem E_leapg {d : Nat} {h : AH} {T D cnt : Nat} {n : Int} {kn vn pn : Nat → Int} (hb : RDB h T D) (hk : TOK h cnt n kn vn pn) {L m : Nat} {a b c l f p : Int} {dd : Nat → Int} (hL : L ≤ 300) (hm : m ≤ 300) : ∃ dd', ∀ Q : Option AV → AH → Prop, XC (d + 2) 97 [vR T, vI (m : Int)] (hR h T D a b c l f p L dd) Q = Q none (hR h T D a b c l f p L dd') := by
  have w1 : w32 ((L : Int) - 1) = (L : Int) - 1 := by unfold w32; omega
  by_cases z1 : (0 : Int) ≤ (m : Int) ∧ (m : Int) ≤ (L : Int) - 1
  · have m3 : m < 300 := by omega
    have z2 : (0 : Int) ≤ (m : Int) ∧ (m : Int) < 300 := by omega
    refine ⟨upF dd m (ior (ishl (L : Int) 5) (iand (dd m) 31)), fun Q => XC_eq (Nat.le_of_ble_eq_true rfl) ?_ Q⟩
    show XP (d + 1) 97 0 [some (vR T), some (vI (m : Int))] [] (hR h T D a b c l f p L dd) _
    refine xpk_sound (stops := []) (n := 60) ?_
    simp only [sk_0, sk_1, sk_2, sk_3, sk_4, sk_5, sk_6, sk_7, sk_8, sk_iadd, sk_isub, sk_imul, sk_iand, sk_ior, sk_ixor, sk_ishl, sk_ishr, sk_iushr, sk_idiv, sk_irem, sk_ineg, sk_ladd, sk_lsub, sk_lmul, sk_land, sk_lor, sk_ldiv, sk_lrem, sk_lneg, sk_lshl, sk_lshr, sk_i2l, sk_l2i, sk_lcmp, sk_dupI, sk_dupR, sk_dup2L, sk_dup2I, sk_popI, sk_ifeq, sk_ifne, sk_iflt, sk_ifge, sk_ifgt, sk_ifle, sk_iceq, sk_icne, sk_iclt, sk_icge, sk_icgt, sk_icle, sk_goto, sk_getf, sk_putf, sk_gets, sk_iald, sk_lald, sk_bald, sk_aald, sk_iast, sk_last, sk_bast, sk_aast, sk_alen, sk_newa, sk_newt, sk_new, sk_cs1, sk_cs2, sk_cs3, sk_cs4, sk_cs5, sk_cs6, sk_cv1, sk_cv2, sk_cv3, sk_cv4, sk_cv5, sk_cv6, sk_ci1, sk_ci2, sk_ci3, sk_ret0, sk_retI, sk_retL, sk_retR, sk_sw, sk_oin, sk_max, sk_min, sk_abs, lI_0, lI_s, lL_0, lL_s, lR_0, lR_s, vIo_e, vLo_e, vOo_e, stW_I, stW_L, stW_R, stW_0, stW_z, okSt_0, okSt_s, hV_eq, hK_eq, okF_0, okF_1, okF_3, is01_0, is01_1, is01_i, Int.toNat_natCast, Int.reduceEq, Int.reduceLE, Int.reduceLT, Int.reduceNeg, Nat.reduceLT, not_true_eq_false, not_false_eq_true, reduceIte, Option.toList, List.cons_append, List.nil_append, List.set_cons_zero, List.set_cons_succ, List.not_mem_nil, List.mem_cons, if_false, if_true, ite_true, ite_false, and_self, and_true, true_and, Nat.reduceAdd, Nat.reduceLeDiff, Nat.reduceEqDiff, Nat.zero_add, Nat.le_refl, Nat.zero_le, or_false, false_or, Int.reduceToNat, or_true, true_or, eq_self, and_false, false_and, inR_d, nc_4, nc_5, nc_6, nc_7, nc_8, nc_16, nc_18, nc_20, nc_24, nc_32, nc_40, nc_64, nc_104, nc_120, nc_160, nc_256, nc_300, nc_330, nc_390, nc_1200, nc_1260, nc_3012, nc_9834, okSt_1i, okSt_1r, okSt_1n, List.length_cons, List.length_nil, xpk_succ cd_97_0, xpk_succ cd_97_1, xpk_succ cd_97_2, xpk_succ cd_97_3, xpk_succ cd_97_6, xpk_succ cd_97_7, xpk_succ cd_97_8, xpk_succ cd_97_11, xpk_succ cd_97_14, xpk_succ cd_97_15, xpk_succ cd_97_18, xpk_succ cd_97_19, xpk_succ cd_97_20, xpk_succ cd_97_23, xpk_succ cd_97_24, xpk_succ cd_97_25, xpk_succ cd_97_26, xpk_succ cd_97_29, xpk_succ cd_97_30, xpk_succ cd_97_31, xpk_succ cd_97_33, xpk_succ cd_97_34, xpk_succ cd_97_35, xpk_succ cd_97_36, hR_2, hR_3, hR_4, hR_5, hR_6, hR_7, hR_s2, hR_s3, hR_s4, hR_s5, hR_s6, hR_s7, (hR_T hb.1), (hR_sT hb.1), (R_0 hb), (R_1 hb), (R_T0 hb), (R_N hb), hK_R, hb.2.1.1, hk.2.1.1, hb.2.2.1.1, hb.2.2.1.2.2, hb.2.2.2.1, (E_kindAt (TOK_R hb.1 hk)), (E_placeAt (TOK_R hb.1 hk)), (E_valueAt (TOK_R hb.1 hk)), w1, z1, z2, X_wn, (hR_D hb.1 m3), (hR_sD hb.1 m3)]
  · refine ⟨dd, fun Q => XC_eq (Nat.le_of_ble_eq_true rfl) ?_ Q⟩
    show XP (d + 1) 97 0 [some (vR T), some (vI (m : Int))] [] (hR h T D a b c l f p L dd) _
    refine xpk_sound (stops := []) (n := 60) ?_
    simp only [sk_0, sk_1, sk_2, sk_3, sk_4, sk_5, sk_6, sk_7, sk_8, sk_iadd, sk_isub, sk_imul, sk_iand, sk_ior, sk_ixor, sk_ishl, sk_ishr, sk_iushr, sk_idiv, sk_irem, sk_ineg, sk_ladd, sk_lsub, sk_lmul, sk_land, sk_lor, sk_ldiv, sk_lrem, sk_lneg, sk_lshl, sk_lshr, sk_i2l, sk_l2i, sk_lcmp, sk_dupI, sk_dupR, sk_dup2L, sk_dup2I, sk_popI, sk_ifeq, sk_ifne, sk_iflt, sk_ifge, sk_ifgt, sk_ifle, sk_iceq, sk_icne, sk_iclt, sk_icge, sk_icgt, sk_icle, sk_goto, sk_getf, sk_putf, sk_gets, sk_iald, sk_lald, sk_bald, sk_aald, sk_iast, sk_last, sk_bast, sk_aast, sk_alen, sk_newa, sk_newt, sk_new, sk_cs1, sk_cs2, sk_cs3, sk_cs4, sk_cs5, sk_cs6, sk_cv1, sk_cv2, sk_cv3, sk_cv4, sk_cv5, sk_cv6, sk_ci1, sk_ci2, sk_ci3, sk_ret0, sk_retI, sk_retL, sk_retR, sk_sw, sk_oin, sk_max, sk_min, sk_abs, lI_0, lI_s, lL_0, lL_s, lR_0, lR_s, vIo_e, vLo_e, vOo_e, stW_I, stW_L, stW_R, stW_0, stW_z, okSt_0, okSt_s, hV_eq, hK_eq, okF_0, okF_1, okF_3, is01_0, is01_1, is01_i, Int.toNat_natCast, Int.reduceEq, Int.reduceLE, Int.reduceLT, Int.reduceNeg, Nat.reduceLT, not_true_eq_false, not_false_eq_true, reduceIte, Option.toList, List.cons_append, List.nil_append, List.set_cons_zero, List.set_cons_succ, List.not_mem_nil, List.mem_cons, if_false, if_true, ite_true, ite_false, and_self, and_true, true_and, Nat.reduceAdd, Nat.reduceLeDiff, Nat.reduceEqDiff, Nat.zero_add, Nat.le_refl, Nat.zero_le, or_false, false_or, Int.reduceToNat, or_true, true_or, eq_self, and_false, false_and, inR_d, nc_4, nc_5, nc_6, nc_7, nc_8, nc_16, nc_18, nc_20, nc_24, nc_32, nc_40, nc_64, nc_104, nc_120, nc_160, nc_256, nc_300, nc_330, nc_390, nc_1200, nc_1260, nc_3012, nc_9834, okSt_1i, okSt_1r, okSt_1n, List.length_cons, List.length_nil, xpk_succ cd_97_0, xpk_succ cd_97_1, xpk_succ cd_97_2, xpk_succ cd_97_3, xpk_succ cd_97_6, xpk_succ cd_97_7, xpk_succ cd_97_8, xpk_succ cd_97_11, xpk_succ cd_97_14, xpk_succ cd_97_15, xpk_succ cd_97_18, xpk_succ cd_97_19, xpk_succ cd_97_20, xpk_succ cd_97_23, xpk_succ cd_97_24, xpk_succ cd_97_25, xpk_succ cd_97_26, xpk_succ cd_97_29, xpk_succ cd_97_30, xpk_succ cd_97_31, xpk_succ cd_97_33, xpk_succ cd_97_34, xpk_succ cd_97_35, xpk_succ cd_97_36, hR_2, hR_3, hR_4, hR_5, hR_6, hR_7, hR_s2, hR_s3, hR_s4, hR_s5, hR_s6, hR_s7, (hR_T hb.1), (hR_sT hb.1), (R_0 hb), (R_1 hb), (R_T0 hb), (R_N hb), hK_R, hb.2.1.1, hk.2.1.1, hb.2.2.1.1, hb.2.2.1.2.2, hb.2.2.2.1, (E_kindAt (TOK_R hb.1 hk)), (E_placeAt (TOK_R hb.1 hk)), (E_valueAt (TOK_R hb.1 hk)), w1, z1, X_wn]
