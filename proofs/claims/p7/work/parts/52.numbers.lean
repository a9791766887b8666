/-! numbers -/
def in32 (l u : Int) : Bool := !ltI l (-2147483648) && !ltI 2147483647 u
def in64 (l u : Int) : Bool := !ltI l (-9223372036854775808) && !ltI 9223372036854775807 u
theorem in32_s {l u : Int} (h : in32 l u = true) : -2147483648 ≤ l ∧ u ≤ 2147483647 := by
  unfold in32 at h
  rw [Bool.and_eq_true, ltI_eq, ltI_eq, not_d, not_d, decide_eq_true_eq, decide_eq_true_eq] at h
  omega
theorem in64_s {l u : Int} (h : in64 l u = true) : -9223372036854775808 ≤ l ∧ u ≤ 9223372036854775807 := by
  unfold in64 at h
  rw [Bool.and_eq_true, ltI_eq, ltI_eq, not_d, not_d, decide_eq_true_eq, decide_eq_true_eq] at h
  omega
theorem w32_b (z : Int) : -2147483648 ≤ w32 z ∧ w32 z ≤ 2147483647 := by unfold w32; omega
theorem w64_b (z : Int) : -9223372036854775808 ≤ w64 z ∧ w64 z ≤ 9223372036854775807 := by unfold w64; omega
theorem bv32_b (v : BitVec 32) : -2147483648 ≤ v.toInt ∧ v.toInt ≤ 2147483647 := by
  have h1 := BitVec.le_toInt v
  have h2 := BitVec.toInt_lt (x := v)
  constructor
  · exact h1
  · have h3 : (2 : Int) ^ (32 - 1) = 2147483648 := by decide
    omega
theorem bv64_b (v : BitVec 64) : -9223372036854775808 ≤ v.toInt ∧ v.toInt ≤ 9223372036854775807 := by
  have h1 := BitVec.le_toInt v
  have h2 := BitVec.toInt_lt (x := v)
  constructor
  · exact h1
  · have h3 : (2 : Int) ^ (64 - 1) = 9223372036854775808 := by decide
    omega
theorem bv_nn {v : BitVec 32} {m : Nat} (h : v.toNat ≤ m) (hm : m < 2147483648) : 0 ≤ v.toInt ∧ v.toInt ≤ (m : Int) := by
  have e : v.toInt = (v.toNat : Int) := BitVec.toInt_eq_toNat_of_lt (by show 2 * v.toNat < 2 ^ 32; omega)
  omega
theorem ofInt_nn {x : Int} (h0 : 0 ≤ x) (h1 : x ≤ 2147483647) : (BitVec.ofInt 32 x).toNat = x.toNat := by
  rw [BitVec.toNat_ofInt]
  congr 1
  exact Int.emod_eq_of_lt h0 (by omega)
theorem iand_r {x y : Int} (h0 : 0 ≤ y) (h1 : y ≤ 2147483647) : 0 ≤ iand x y ∧ iand x y ≤ y := by
  have h := bv_nn (v := BitVec.ofInt 32 x &&& BitVec.ofInt 32 y) (m := y.toNat) (by rw [BitVec.toNat_and, ofInt_nn h0 h1]; exact Nat.and_le_right) (by omega)
  have e : iand x y = (BitVec.ofInt 32 x &&& BitVec.ofInt 32 y).toInt := rfl
  rw [e]
  omega
theorem iand_l {x y : Int} (h0 : 0 ≤ x) (h1 : x ≤ 2147483647) : 0 ≤ iand x y ∧ iand x y ≤ x := by
  have h := bv_nn (v := BitVec.ofInt 32 x &&& BitVec.ofInt 32 y) (m := x.toNat) (by rw [BitVec.toNat_and, ofInt_nn h0 h1]; exact Nat.and_le_left) (by omega)
  have e : iand x y = (BitVec.ofInt 32 x &&& BitVec.ofInt 32 y).toInt := rfl
  rw [e]
  omega
theorem ior_b {x y : Int} (h0 : 0 ≤ x) (h1 : x ≤ 255) (h2 : 0 ≤ y) (h3 : y ≤ 255) : 0 ≤ ior x y ∧ ior x y ≤ 255 := by
  have h := bv_nn (v := BitVec.ofInt 32 x ||| BitVec.ofInt 32 y) (m := 255) (by
    rw [BitVec.toNat_or, ofInt_nn h0 (by omega), ofInt_nn h2 (by omega)]
    have := Nat.or_lt_two_pow (n := 8) (x := x.toNat) (y := y.toNat) (by omega) (by omega)
    omega) (by omega)
  exact h
theorem tmod_b {x c : Int} (hc : 0 < c) : -(c - 1) ≤ x.tmod c ∧ x.tmod c ≤ c - 1 ∧ (0 ≤ x → 0 ≤ x.tmod c ∧ x.tmod c ≤ x) := by
  by_cases h : 0 ≤ x
  · rw [Int.tmod_eq_emod_of_nonneg h]
    have h1 := Int.emod_nonneg x (show c ≠ 0 by omega)
    have h2 := Int.emod_lt_of_pos x hc
    have h3 : x % c ≤ x := by
      have := Int.emod_add_mul_ediv x c
      have h4 : 0 ≤ c * (x / c) := Int.mul_nonneg (by omega) (Int.ediv_nonneg h (by omega))
      omega
    exact ⟨by omega, by omega, fun _ => ⟨h1, h3⟩⟩
  · have e : x.tmod c = -((-x).tmod c) := by rw [Int.neg_tmod, Int.neg_neg]
    rw [e, Int.tmod_eq_emod_of_nonneg (show 0 ≤ -x by omega)]
    have h1 := Int.emod_nonneg (-x) (show c ≠ 0 by omega)
    have h2 := Int.emod_lt_of_pos (-x) hc
    exact ⟨by omega, by omega, fun z => absurd z h⟩
theorem tmod_64 {x y : Int} (hy : y ≠ 0) (h1 : -9223372036854775808 ≤ y) (h2 : y ≤ 9223372036854775807) : -9223372036854775808 ≤ x.tmod y ∧ x.tmod y ≤ 9223372036854775807 := by
  by_cases h : 0 ≤ x
  · rw [Int.tmod_eq_emod_of_nonneg h]
    have h3 := Int.emod_nonneg x hy
    have h4 := Int.emod_lt x hy
    omega
  · have e : x.tmod y = -((-x).tmod y) := by rw [Int.neg_tmod, Int.neg_neg]
    rw [e, Int.tmod_eq_emod_of_nonneg (show 0 ≤ -x by omega)]
    have h3 := Int.emod_nonneg (-x) hy
    have h4 := Int.emod_lt (-x) hy
    omega
/-- a number of all ints -/
def full (kr : Int → Int → Int → Bool) : Bool := kr (-2147483648) 2147483647 1
def ar0 (wx wy : SV) (xl xh yl yh : Int) (kv : SV → Bool) (kr : Int → Int → Int → Bool) : Bool := match wx, wy with
  | .inr (_, i, o), .inl (.inl c) => bif in32 (xl + c) (xh + c) then kv (.inr (false, i, o + c)) else full kr
  | .inl (.inl c), .inr (_, i, o) => bif in32 (yl + c) (yh + c) then kv (.inr (false, i, o + c)) else full kr
  | _, _ => bif in32 (xl + yl) (xh + yh) then kr (xl + yl) (xh + yh) 1 else full kr
def ar1 (wx wy : SV) (xl xh yl yh : Int) (kv : SV → Bool) (kr : Int → Int → Int → Bool) : Bool := match wx, wy with
  | .inr (_, i, o), .inl (.inl c) => bif in32 (xl - c) (xh - c) then kv (.inr (false, i, o - c)) else full kr
  | .inr (_, i, o), .inr (_, j, p) => bif Nat.beq i j then kv (yI (w32F (o - p))) else bif in32 (xl - yh) (xh - yl) then kr (xl - yh) (xh - yl) 1 else full kr
  | _, _ => bif in32 (xl - yh) (xh - yl) then kr (xl - yh) (xh - yl) 1 else full kr
def ar2 (wx wy : SV) (xl xh yl yh : Int) (kv : SV → Bool) (kr : Int → Int → Int → Bool) : Bool := match wx, wy with
  | _, .inl (.inl c) => bif !ltI c 0 && in32 (xl * c) (xh * c) then kr (xl * c) (xh * c) c else full kr
  | .inl (.inl c), _ => bif !ltI c 0 && in32 (yl * c) (yh * c) then kr (yl * c) (yh * c) c else full kr
  | _, _ => full kr
def ar8 (wx wy : SV) (xl xh yl yh : Int) (kv : SV → Bool) (kr : Int → Int → Int → Bool) : Bool := match wx, wy with
  | .inl (.inl c), wy => bif eqI c 1 && (!ltI yl 0 && !ltI 30 yh) then kr 1 (2 ^ yh.toNat) 1 else full kr
  | _, .inl (.inl c) => bif in32 (xl * 2 ^ (c % 32).toNat) (xh * 2 ^ (c % 32).toNat) then kr (xl * 2 ^ (c % 32).toNat) (xh * 2 ^ (c % 32).toNat) (2 ^ (c % 32).toNat) else full kr
  | _, _ => full kr
def ar9 (wx wy : SV) (xl xh yl yh : Int) (kv : SV → Bool) (kr : Int → Int → Int → Bool) : Bool := match wy with
  | .inl (.inl c) => kr (xl / 2 ^ (c % 32).toNat) (xh / 2 ^ (c % 32).toNat) 1
  | _ => bif !ltI xl 0 then kr 0 xh 1 else in32 xl xh && full kr
def arR (b : Nat) (wx wy : SV) (xl xh yl yh : Int) (kv : SV → Bool) (kr : Int → Int → Int → Bool) : Bool := match b with
  | 0 => ar0 wx wy xl xh yl yh kv kr
  | 1 => ar1 wx wy xl xh yl yh kv kr
  | 2 => ar2 wx wy xl xh yl yh kv kr
  | 3 => bif !ltI yl 0 && in32 yl yh then kr 0 yh 1 else bif !ltI xl 0 && in32 xl xh then kr 0 xh 1 else full kr
  | 4 => bif (!ltI xl 0 && !ltI 255 xh) && (!ltI yl 0 && !ltI 255 yh) then kr 0 255 1 else full kr
  | 5 => full kr
  | 6 => (ltI 0 yl || ltI yh 0) && full kr
  | 7 => bif eqI yl yh && ltI 0 yl then (bif !ltI xl 0 then kr 0 (bif ltI xh yl then xh else yl - 1) 1 else kr (-(yl - 1)) (yl - 1) 1) else false
  | 8 => ar8 wx wy xl xh yl yh kv kr
  | 9 => ar9 wx wy xl xh yl yh kv kr
  | 10 => full kr
  | _ => false
def aOK (n : Nat) (ρ : Nat → Int) (kv : SV → Bool) (kr : Int → Int → Int → Bool) (z : Int) : Prop := (∃ w, kv w = true ∧ n_V n ρ w (.inl z)) ∨ ∃ lo hi m, kr lo hi m = true ∧ lo ≤ z ∧ z ≤ hi ∧ m ∣ z
section AR
variable {n : Nat} {ρ : Nat → Int} {kv : SV → Bool} {kr : Int → Int → Int → Bool} {x y xl xh yl yh : Int} {wx wy : SV}
theorem full_s {z : Int} (h : full kr = true) (h1 : -2147483648 ≤ z ∧ z ≤ 2147483647) : aOK n ρ kv kr z := Or.inr ⟨_, _, _, h, h1.1, h1.2, Int.one_dvd z⟩
theorem kr_s {lo hi z : Int} (h : kr lo hi 1 = true) (h1 : lo ≤ z) (h2 : z ≤ hi) : aOK n ρ kv kr z := Or.inr ⟨_, _, _, h, h1, h2, Int.one_dvd z⟩
theorem n_i {l : Bool} {i : Nat} {o : Int} (h : n_V n ρ (.inr (l, i, o)) (.inl x)) : l = false ∧ i < n ∧ x = ρ i + o := by
  obtain ⟨h1, h2⟩ := h
  cases l with
  | true => have h2 : (Sum.inl x : AV) = Sum.inr (Sum.inl (ρ i + o)) := h2; cases h2
  | false => have h2 : (Sum.inl x : AV) = Sum.inl (ρ i + o) := h2; exact ⟨rfl, h1, Sum.inl.inj h2⟩
theorem n_c {c : Int} (h : n_V n ρ (.inl (.inl c)) (.inl x)) : x = c := by
  have h2 : (Sum.inl x : AV) = Sum.inl c := h.2
  exact Sum.inl.inj h2
theorem kv_s {i : Nat} {o z : Int} (h : kv (.inr (false, i, o)) = true) (hi : i < n) (hz : z = ρ i + o) : aOK n ρ kv kr z := Or.inl ⟨_, h, hi, by rw [hz]; rfl⟩
theorem ar_0 (h : ar0 wx wy xl xh yl yh kv kr = true) (hx : n_V n ρ wx (.inl x)) (hy : n_V n ρ wy (.inl y)) (x1 : xl ≤ x) (x2 : x ≤ xh) (y1 : yl ≤ y) (y2 : y ≤ yh) : aOK n ρ kv kr (w32 (x + y)) := by
  unfold ar0 at h
  split at h
  · rename_i l i o c
    obtain ⟨rfl, hi, ex⟩ := n_i hx
    have ey := n_c hy
    cases hb : in32 (xl + c) (xh + c) with
    | true => rw [hb, cnd_t] at h; have := in32_s hb; exact kv_s h hi (by rw [w32_in (by omega) (by omega)]; omega)
    | false => rw [hb, cnd_f] at h; exact full_s h (w32_b _)
  · rename_i c l i o
    obtain ⟨rfl, hi, ey⟩ := n_i hy
    have ex := n_c hx
    cases hb : in32 (yl + c) (yh + c) with
    | true => rw [hb, cnd_t] at h; have := in32_s hb; exact kv_s h hi (by rw [w32_in (by omega) (by omega)]; omega)
    | false => rw [hb, cnd_f] at h; exact full_s h (w32_b _)
  · cases hb : in32 (xl + yl) (xh + yh) with
    | true => rw [hb, cnd_t] at h; have := in32_s hb; rw [w32_in (by omega) (by omega)]; exact kr_s h (by omega) (by omega)
    | false => rw [hb, cnd_f] at h; exact full_s h (w32_b _)
theorem ar_1 (h : ar1 wx wy xl xh yl yh kv kr = true) (hx : n_V n ρ wx (.inl x)) (hy : n_V n ρ wy (.inl y)) (x1 : xl ≤ x) (x2 : x ≤ xh) (y1 : yl ≤ y) (y2 : y ≤ yh) : aOK n ρ kv kr (w32 (x - y)) := by
  have hr : (bif in32 (xl - yh) (xh - yl) then kr (xl - yh) (xh - yl) 1 else full kr) = true → aOK n ρ kv kr (w32 (x - y)) := fun h => by
    cases hb : in32 (xl - yh) (xh - yl) with
    | true => rw [hb, cnd_t] at h; have := in32_s hb; rw [w32_in (by omega) (by omega)]; exact kr_s h (by omega) (by omega)
    | false => rw [hb, cnd_f] at h; exact full_s h (w32_b _)
  unfold ar1 at h
  split at h
  · rename_i l i o c
    obtain ⟨rfl, hi, ex⟩ := n_i hx
    have ey := n_c hy
    cases hb : in32 (xl - c) (xh - c) with
    | true => rw [hb, cnd_t] at h; have := in32_s hb; exact kv_s h hi (by rw [w32_in (by omega) (by omega)]; omega)
    | false => rw [hb, cnd_f] at h; exact full_s h (w32_b _)
  · rename_i l i o l' j p
    obtain ⟨rfl, hi, ex⟩ := n_i hx
    obtain ⟨rfl, hj, ey⟩ := n_i hy
    cases hb : Nat.beq i j with
    | true =>
      rw [hb, cnd_t, w32F_eq] at h
      have e := Nat.eq_of_beq_eq_true hb
      subst e
      exact Or.inl ⟨_, h, trivial, by rw [ex, ey]; show (Sum.inl (w32 (ρ i + o - (ρ i + p))) : AV) = Sum.inl (w32 (o - p)); rw [show ρ i + o - (ρ i + p) = o - p by omega]⟩
    | false => rw [hb, cnd_f] at h; exact hr h
  · exact hr h
theorem mul_b {c : Int} (hc : 0 ≤ c) (x1 : xl ≤ x) (x2 : x ≤ xh) : xl * c ≤ x * c ∧ x * c ≤ xh * c := ⟨Int.mul_le_mul_of_nonneg_right x1 hc, Int.mul_le_mul_of_nonneg_right x2 hc⟩
theorem ar_2 (h : ar2 wx wy xl xh yl yh kv kr = true) (hx : n_V n ρ wx (.inl x)) (hy : n_V n ρ wy (.inl y)) (x1 : xl ≤ x) (x2 : x ≤ xh) (y1 : yl ≤ y) (y2 : y ≤ yh) : aOK n ρ kv kr (w32 (x * y)) := by
  unfold ar2 at h
  split at h
  · rename_i c
    have ey := n_c hy
    subst ey
    cases hb : (!ltI y 0 && in32 (xl * y) (xh * y)) with
    | false => rw [hb, cnd_f] at h; exact full_s h (w32_b _)
    | true =>
      rw [hb, cnd_t] at h
      rw [Bool.and_eq_true, ltI_eq, not_d, decide_eq_true_eq] at hb
      have b1 := in32_s hb.2
      have b2 := mul_b (c := y) (by omega) x1 x2
      rw [w32_in (by omega) (by omega)]
      exact Or.inr ⟨_, _, _, h, b2.1, b2.2, Int.dvd_mul_left x y⟩
  · rename_i c _
    have ex := n_c hx
    subst ex
    cases hb : (!ltI x 0 && in32 (yl * x) (yh * x)) with
    | false => rw [hb, cnd_f] at h; exact full_s h (w32_b _)
    | true =>
      rw [hb, cnd_t] at h
      rw [Bool.and_eq_true, ltI_eq, not_d, decide_eq_true_eq] at hb
      have b1 := in32_s hb.2
      have b2 := mul_b (c := x) (by omega) y1 y2
      rw [Int.mul_comm x y, w32_in (by omega) (by omega)]
      exact Or.inr ⟨_, _, _, h, b2.1, b2.2, Int.dvd_mul_left y x⟩
  · exact full_s h (w32_b _)
theorem ar_3 (h : arR 3 wx wy xl xh yl yh kv kr = true) (x1 : xl ≤ x) (x2 : x ≤ xh) (y1 : yl ≤ y) (y2 : y ≤ yh) : aOK n ρ kv kr (iand x y) := by
  have h : (bif !ltI yl 0 && in32 yl yh then kr 0 yh 1 else bif !ltI xl 0 && in32 xl xh then kr 0 xh 1 else full kr) = true := h
  cases hb : (!ltI yl 0 && in32 yl yh) with
  | true =>
    rw [hb, cnd_t] at h
    rw [Bool.and_eq_true, ltI_eq, not_d, decide_eq_true_eq] at hb
    have b1 := in32_s hb.2
    have b2 := iand_r (x := x) (y := y) (by omega) (by omega)
    exact kr_s h b2.1 (by omega)
  | false =>
    rw [hb, cnd_f] at h
    cases hc : (!ltI xl 0 && in32 xl xh) with
    | true =>
      rw [hc, cnd_t] at h
      rw [Bool.and_eq_true, ltI_eq, not_d, decide_eq_true_eq] at hc
      have b1 := in32_s hc.2
      have b2 := iand_l (x := x) (y := y) (by omega) (by omega)
      exact kr_s h b2.1 (by omega)
    | false => rw [hc, cnd_f] at h; exact full_s h (bv32_b _)
theorem ar_4 (h : arR 4 wx wy xl xh yl yh kv kr = true) (x1 : xl ≤ x) (x2 : x ≤ xh) (y1 : yl ≤ y) (y2 : y ≤ yh) : aOK n ρ kv kr (ior x y) := by
  have h : (bif (!ltI xl 0 && !ltI 255 xh) && (!ltI yl 0 && !ltI 255 yh) then kr 0 255 1 else full kr) = true := h
  cases hb : ((!ltI xl 0 && !ltI 255 xh) && (!ltI yl 0 && !ltI 255 yh)) with
  | true =>
    rw [hb, cnd_t] at h
    rw [Bool.and_eq_true, Bool.and_eq_true, Bool.and_eq_true, ltI_eq, ltI_eq, ltI_eq, ltI_eq, not_d, not_d, not_d, not_d, decide_eq_true_eq, decide_eq_true_eq, decide_eq_true_eq, decide_eq_true_eq] at hb
    have b2 := ior_b (x := x) (y := y) (by omega) (by omega) (by omega) (by omega)
    exact kr_s h b2.1 b2.2
  | false => rw [hb, cnd_f] at h; exact full_s h (bv32_b _)
theorem ar_7 (h : arR 7 wx wy xl xh yl yh kv kr = true) (x1 : xl ≤ x) (x2 : x ≤ xh) (y1 : yl ≤ y) (y2 : y ≤ yh) : ∃ z, binI 7 x y = some z ∧ aOK n ρ kv kr z := by
  have h : (bif eqI yl yh && ltI 0 yl then (bif !ltI xl 0 then kr 0 (bif ltI xh yl then xh else yl - 1) 1 else kr (-(yl - 1)) (yl - 1) 1) else false) = true := h
  rw [eqI_eq, ltI_eq, ltI_eq, ltI_eq, not_d] at h
  by_cases c1 : yl = yh ∧ 0 < yl
  · rw [decide_eq_true c1.1, decide_eq_true c1.2] at h
    have hy : y = yl := by omega
    subst hy
    have b := tmod_b (x := x) c1.2
    refine ⟨x.tmod y, ?_, ?_⟩
    · show (if y = 0 then none else some (x.tmod y)) = some (x.tmod y)
      rw [if_neg (by omega)]
    · have h : (bif decide (¬ xl < 0) then kr 0 (bif decide (xh < y) then xh else y - 1) 1 else kr (-(y - 1)) (y - 1) 1) = true := h
      by_cases c2 : ¬ xl < 0
      · rw [decide_eq_true c2, cnd_t] at h
        have b3 := b.2.2 (by omega)
        by_cases c3 : xh < y
        · rw [decide_eq_true c3, cnd_t] at h; exact kr_s h b3.1 (by omega)
        · rw [decide_eq_false c3, cnd_f] at h; exact kr_s h b3.1 (by omega)
      · rw [decide_eq_false c2, cnd_f] at h
        exact kr_s h b.1 b.2.1
  · exfalso
    have e : (decide (yl = yh) && decide (0 < yl)) = false := by
      cases hq : (decide (yl = yh) && decide (0 < yl)) with
      | false => rfl
      | true => rw [Bool.and_eq_true, decide_eq_true_eq, decide_eq_true_eq] at hq; exact absurd hq c1
    rw [e] at h
    cases h
theorem pw_pos (k : Nat) : (0 : Int) < 2 ^ k := Int.pow_pos (by decide)
theorem ar_8 (h : ar8 wx wy xl xh yl yh kv kr = true) (hx : n_V n ρ wx (.inl x)) (hy : n_V n ρ wy (.inl y)) (x1 : xl ≤ x) (x2 : x ≤ xh) (y1 : yl ≤ y) (y2 : y ≤ yh) : aOK n ρ kv kr (ishl x y) := by
  unfold ar8 at h
  split at h
  · rename_i c _
    have ex := n_c hx
    subst ex
    cases hb : (eqI x 1 && (!ltI yl 0 && !ltI 30 yh)) with
    | false => rw [hb, cnd_f] at h; exact full_s h (w32_b _)
    | true =>
      rw [hb, cnd_t] at h
      rw [Bool.and_eq_true, Bool.and_eq_true, eqI_eq, ltI_eq, ltI_eq, not_d, not_d, decide_eq_true_eq, decide_eq_true_eq, decide_eq_true_eq] at hb
      have hx1 := hb.1
      subst hx1
      have e1 : (y % 32).toNat = y.toNat := by rw [Int.emod_eq_of_lt (by omega) (by omega)]
      have b1 : (2 : Int) ^ y.toNat ≤ 2 ^ yh.toNat := by
        have := Nat.pow_le_pow_right (n := 2) (by decide) (show y.toNat ≤ yh.toNat by omega)
        exact_mod_cast this
      have b2 : (2 : Int) ^ yh.toNat ≤ 1073741824 := by
        have := Nat.pow_le_pow_right (n := 2) (by decide) (show yh.toNat ≤ 30 by omega)
        have e : (2 : Nat) ^ 30 = 1073741824 := by decide
        rw [e] at this
        have h5 : ((2 ^ yh.toNat : Nat) : Int) ≤ 1073741824 := by omega
        rw [Int.natCast_pow] at h5
        exact h5
      have b3 := pw_pos y.toNat
      have e2 : ishl 1 y = 2 ^ y.toNat := by
        show w32 (1 * 2 ^ (y % 32).toNat) = _
        rw [e1, Int.one_mul, w32_in (by omega) (by omega)]
      rw [e2]
      exact kr_s h (by omega) b1
  · rename_i c _
    have ey := n_c hy
    subst ey
    cases hb : in32 (xl * 2 ^ (y % 32).toNat) (xh * 2 ^ (y % 32).toNat) with
    | false => rw [hb, cnd_f] at h; exact full_s h (w32_b _)
    | true =>
      rw [hb, cnd_t] at h
      have b1 := in32_s hb
      have b2 := mul_b (c := 2 ^ (y % 32).toNat) (Int.le_of_lt (pw_pos _)) x1 x2
      have e : ishl x y = x * 2 ^ (y % 32).toNat := w32_in (by omega) (by omega)
      rw [e]
      exact Or.inr ⟨_, _, _, h, b2.1, b2.2, Int.dvd_mul_left x _⟩
  · exact full_s h (w32_b _)
theorem ar_9 (h : ar9 wx wy xl xh yl yh kv kr = true) (hy : n_V n ρ wy (.inl y)) (x1 : xl ≤ x) (x2 : x ≤ xh) : aOK n ρ kv kr (ishr x y) := by
  have hp := pw_pos (y % 32).toNat
  unfold ar9 at h
  split at h
  · rename_i c
    have ey := n_c hy
    subst ey
    exact kr_s h (Int.ediv_le_ediv hp x1) (Int.ediv_le_ediv hp x2)
  · by_cases c1 : ¬ xl < 0
    · rw [ltI_eq, not_d, decide_eq_true c1, cnd_t] at h
      exact kr_s h (Int.ediv_nonneg (by omega) (Int.le_of_lt hp)) (Int.le_trans (Int.ediv_le_self _ (by omega)) x2)
    · rw [ltI_eq, not_d, decide_eq_false c1, cnd_f, Bool.and_eq_true] at h
      have b1 := in32_s h.1
      refine full_s h.2 ⟨?_, ?_⟩
      · refine Int.le_trans (show (-2147483648 : Int) ≤ -2147483648 from Int.le_refl _) (Int.le_ediv_of_mul_le hp ?_)
        have : (-2147483648 : Int) * 2 ^ (y % 32).toNat ≤ -2147483648 * 1 := Int.mul_le_mul_of_nonpos_left (by decide) (by omega)
        omega
      · by_cases c2 : 0 ≤ x
        · exact Int.le_trans (Int.ediv_le_self _ c2) (by omega)
        · have : x / 2 ^ (y % 32).toNat ≤ 0 / 2 ^ (y % 32).toNat := Int.ediv_le_ediv hp (by omega)
          rw [Int.zero_ediv] at this
          show x / 2 ^ (y % 32).toNat ≤ _
          omega
theorem arR_s {b : Nat} (h : arR b wx wy xl xh yl yh kv kr = true) (hx : n_V n ρ wx (.inl x)) (hy : n_V n ρ wy (.inl y)) (x1 : xl ≤ x) (x2 : x ≤ xh) (y1 : yl ≤ y) (y2 : y ≤ yh) : ∃ z, binI b x y = some z ∧ aOK n ρ kv kr z := by
  match b, h with
  | 0, h => exact ⟨_, rfl, ar_0 h hx hy x1 x2 y1 y2⟩
  | 1, h => exact ⟨_, rfl, ar_1 h hx hy x1 x2 y1 y2⟩
  | 2, h => exact ⟨_, rfl, ar_2 h hx hy x1 x2 y1 y2⟩
  | 3, h => exact ⟨_, rfl, ar_3 h x1 x2 y1 y2⟩
  | 4, h => exact ⟨_, rfl, ar_4 h x1 x2 y1 y2⟩
  | 5, h => exact ⟨_, rfl, full_s h (bv32_b _)⟩
  | 6, h =>
    have h : ((ltI 0 yl || ltI yh 0) && full kr) = true := h
    rw [Bool.and_eq_true, Bool.or_eq_true, ltI_eq, ltI_eq, decide_eq_true_eq, decide_eq_true_eq] at h
    refine ⟨w32 (x.tdiv y), ?_, full_s h.2 (w32_b _)⟩
    show (if y = 0 then none else some (w32 (x.tdiv y))) = _
    rw [if_neg (by omega)]
  | 7, h => exact ar_7 h x1 x2 y1 y2
  | 8, h => exact ⟨_, rfl, ar_8 h hx hy x1 x2 y1 y2⟩
  | 9, h => exact ⟨_, rfl, ar_9 (wx := wx) (yl := yl) (yh := yh) h hy x1 x2⟩
  | 10, h => exact ⟨_, rfl, full_s h (w32_b _)⟩
  | n' + 11, h => cases h
end AR
/-- a new name that does not pass another one by more than a number -/
def mkU (n : Nat) (E : EV) (lo hi : Int) (u : Nat × Int) (k : Nat → EV → SV → Bool) : Bool :=
  bif eqI lo hi then k n E (yI lo) else k (n + 1) ((lo, hi, 1, some u) :: E) (.inr (false, n, 0))
theorem mkU_s {n : Nat} {E : EV} {ρ : Nat → Int} {lo hi x : Int} {u : Nat × Int} {k : Nat → EV → SV → Bool} (h : mkU n E lo hi u k = true) (hE : n_E n E ρ) (h1 : lo ≤ x) (h2 : x ≤ hi) (h3 : u.1 < n) (h4 : x ≤ ρ u.1 + u.2) : ∃ n' ρ' E' w, k n' E' w = true ∧ n_X n ρ n' ρ' ∧ n_E n' E' ρ' ∧ n_V n' ρ' w (.inl x) := by
  unfold mkU at h
  rw [eqI_eq] at h
  by_cases e : lo = hi
  · rw [decide_eq_true e, cnd_t] at h
    have hx : x = lo := by omega
    subst hx
    exact ⟨n, ρ, E, _, h, n_X_r, hE, n_yI x⟩
  · rw [decide_eq_false e, cnd_f] at h
    refine ⟨n + 1, upR ρ n x, _, _, h, n_X_1, n_E_new hE ⟨h1, h2, Int.one_dvd x, fun q hq => ?_⟩, Nat.lt_succ_self n, ?_⟩
    · have hq : some u = some q := hq
      cases hq
      exact ⟨h3, h4⟩
    · show (Sum.inl x : AV) = Sum.inl (upR ρ n x n + 0); rw [upR_at, Int.add_zero]
noncomputable def ad2 (n : Nat) (E : EV) (p q : Bool × Nat × Int) (k : Nat → EV → SV → Bool) : Bool := sR n E (.inr p) fun xl xh => sR n E (.inr q) fun yl yh => bif in32 (xl + yl) (xh + yh) then mkU n E (xl + yl) (xh + yh) (p.2.1, p.2.2 + yh) k else mkN false n E (-2147483648) 2147483647 1 k
noncomputable def ubE (n : Nat) (E : EV) (p q : Bool × Nat × Int) (d : Int) : Int := match eG n E p.2.1 with
  | some e => (match e.2.2.2 with
    | some u => bif Nat.beq u.1 q.2.1 && ltI (u.2 + p.2.2 - q.2.2) d then u.2 + p.2.2 - q.2.2 else d
    | none => d)
  | none => d
noncomputable def lbE (n : Nat) (E : EV) (p q : Bool × Nat × Int) (d : Int) : Int := match eG n E q.2.1 with
  | some e => (match e.2.2.2 with
    | some u => bif Nat.beq u.1 p.2.1 && ltI d (p.2.2 - q.2.2 - u.2) then p.2.2 - q.2.2 - u.2 else d
    | none => d)
  | none => d
noncomputable def sb2 (n : Nat) (E : EV) (p q : Bool × Nat × Int) (k : Nat → EV → SV → Bool) : Bool := sR n E (.inr p) fun xl xh => sR n E (.inr q) fun yl yh => bif in32 (xl - yh) (xh - yl) then mkN false n E (lbE n E p q (xl - yh)) (ubE n E p q (xh - yl)) 1 k else mkN false n E (-2147483648) 2147483647 1 k
theorem ad2_s {n : Nat} {E : EV} {ρ : Nat → Int} {p q : Bool × Nat × Int} {x y : Int} {k : Nat → EV → SV → Bool} (h : ad2 n E p q k = true) (hE : n_E n E ρ) (hx : n_V n ρ (.inr p) (.inl x)) (hy : n_V n ρ (.inr q) (.inl y)) : ∃ n' ρ' E' w, k n' E' w = true ∧ n_X n ρ n' ρ' ∧ n_E n' E' ρ' ∧ n_V n' ρ' w (.inl (w32 (x + y))) := by
  obtain ⟨xl, xh, h, x1, x2⟩ := sR_s h hE hx
  obtain ⟨yl, yh, h, y1, y2⟩ := sR_s h hE hy
  have x1 : xl ≤ x := x1
  have x2 : x ≤ xh := x2
  have y1 : yl ≤ y := y1
  have y2 : y ≤ yh := y2
  obtain ⟨l, i, o⟩ := p
  obtain ⟨rfl, hi, ex⟩ := n_i hx
  cases hb : in32 (xl + yl) (xh + yh) with
  | true =>
    rw [hb, cnd_t] at h
    have := in32_s hb
    rw [w32_in (by omega) (by omega)]
    exact mkU_s h hE (by omega) (by omega) hi (by show x + y ≤ ρ i + (o + yh); omega)
  | false =>
    rw [hb, cnd_f] at h
    exact mkN_s h hE (w32_b _).1 (w32_b _).2 (Int.one_dvd _)
theorem sb2_s {n : Nat} {E : EV} {ρ : Nat → Int} {p q : Bool × Nat × Int} {x y : Int} {k : Nat → EV → SV → Bool} (h : sb2 n E p q k = true) (hE : n_E n E ρ) (hx : n_V n ρ (.inr p) (.inl x)) (hy : n_V n ρ (.inr q) (.inl y)) : ∃ n' ρ' E' w, k n' E' w = true ∧ n_X n ρ n' ρ' ∧ n_E n' E' ρ' ∧ n_V n' ρ' w (.inl (w32 (x - y))) := by
  obtain ⟨xl, xh, h, x1, x2⟩ := sR_s h hE hx
  obtain ⟨yl, yh, h, y1, y2⟩ := sR_s h hE hy
  have x1 : xl ≤ x := x1
  have x2 : x ≤ xh := x2
  have y1 : yl ≤ y := y1
  have y2 : y ≤ yh := y2
  obtain ⟨l, i, o⟩ := p
  obtain ⟨l', i', o'⟩ := q
  obtain ⟨rfl, hi, ex⟩ := n_i hx
  obtain ⟨rfl, hi', ey⟩ := n_i hy
  cases hb : in32 (xl - yh) (xh - yl) with
  | true =>
    rw [hb, cnd_t] at h
    have := in32_s hb
    rw [w32_in (by omega) (by omega)]
    refine mkN_s (x := x - y) h hE ?_ ?_ (Int.one_dvd _)
    · unfold lbE
      split
      · rename_i e he
        split
        · rename_i u hu
          cases hc : (Nat.beq u.1 i && ltI (xl - yh) (o - o' - u.2)) with
          | true =>
            rw [cnd_t]
            rw [Bool.and_eq_true] at hc
            have h1 := (eG_s he hE).2.1.2.2.2 u hu
            rw [Nat.eq_of_beq_eq_true hc.1] at h1
            have h1 : ρ i' ≤ ρ i + u.2 := h1
            show o - o' - u.2 ≤ x - y
            omega
          | false => rw [cnd_f]; omega
        · omega
      · omega
    unfold ubE
    split
    · rename_i e he
      split
      · rename_i u hu
        cases hc : (Nat.beq u.1 i' && ltI (u.2 + o - o') (xh - yl)) with
        | true =>
          rw [cnd_t]
          rw [Bool.and_eq_true] at hc
          have h1 := (eG_s he hE).2.1.2.2.2 u hu
          rw [Nat.eq_of_beq_eq_true hc.1] at h1
          have h1 : ρ i ≤ ρ i' + u.2 := h1
          show x - y ≤ u.2 + o - o'
          omega
        | false => rw [cnd_f]; omega
      · omega
    · omega
  | false =>
    rw [hb, cnd_f] at h
    exact mkN_s h hE (w32_b _).1 (w32_b _).2 (Int.one_dvd _)
noncomputable def arO (b n : Nat) (E : EV) (wx wy : SV) (k : Nat → EV → SV → Bool) : Bool := sR n E wx fun xl xh => sR n E wy fun yl yh => arR b wx wy xl xh yl yh (fun w => k n E w) (fun lo hi m => mkN false n E lo hi m k)
theorem arO_s {b n : Nat} {E : EV} {ρ : Nat → Int} {wx wy : SV} {x y : Int} {k : Nat → EV → SV → Bool} (h : arO b n E wx wy k = true) (hE : n_E n E ρ) (hx : n_V n ρ wx (.inl x)) (hy : n_V n ρ wy (.inl y)) : ∃ z, binI b x y = some z ∧ ∃ n' ρ' E' w, k n' E' w = true ∧ n_X n ρ n' ρ' ∧ n_E n' E' ρ' ∧ n_V n' ρ' w (.inl z) := by
  obtain ⟨xl, xh, h, x1, x2⟩ := sR_s h hE hx
  obtain ⟨yl, yh, h, y1, y2⟩ := sR_s h hE hy
  obtain ⟨z, ez, hz⟩ := arR_s h hx hy x1 x2 y1 y2
  refine ⟨z, ez, ?_⟩
  rcases hz with ⟨w, hk, hw⟩ | ⟨lo, hi, m, hk, z1, z2, z3⟩
  · exact ⟨n, ρ, E, w, hk, n_X_r, hE, hw⟩
  · exact mkN_s hk hE z1 z2 z3
noncomputable def arI (b n : Nat) (E : EV) (wx wy : SV) (k : Nat → EV → SV → Bool) : Bool := match wx, wy with
  | .inl (.inl x), .inl (.inl y) => oB (binF b x y) fun z => k n E (yI z)
  | .inr p, .inr q => bif Nat.beq b 0 then ad2 n E p q k else bif Nat.beq b 1 && !Nat.beq p.2.1 q.2.1 then sb2 n E p q k else arO b n E (.inr p) (.inr q) k
  | wx, wy => arO b n E wx wy k
theorem oB_x {o : Option Int} {k : Int → Bool} (h : oB o k = true) : ∃ z, o = some z ∧ k z = true := by
  cases o with
  | none => cases h
  | some z => exact ⟨z, rfl, h⟩
theorem arI_s {b n : Nat} {E : EV} {ρ : Nat → Int} {wx wy : SV} {x y : Int} {k : Nat → EV → SV → Bool} (h : arI b n E wx wy k = true) (hE : n_E n E ρ) (hx : n_V n ρ wx (.inl x)) (hy : n_V n ρ wy (.inl y)) : ∃ z, binI b x y = some z ∧ ∃ n' ρ' E' w, k n' E' w = true ∧ n_X n ρ n' ρ' ∧ n_E n' E' ρ' ∧ n_V n' ρ' w (.inl z) := by
  unfold arI at h
  split at h
  · rename_i x' y'
    have ex := n_c hx
    have ey := n_c hy
    subst ex ey
    obtain ⟨z, e, hk⟩ := oB_x h
    rw [binF_eq] at e
    exact ⟨z, e, n, ρ, E, yI z, hk, n_X_r, hE, n_yI z⟩
  · rename_i p q
    cases c0 : Nat.beq b 0 with
    | true =>
      rw [c0, cnd_t] at h
      rw [Nat.eq_of_beq_eq_true c0]
      exact ⟨_, rfl, ad2_s h hE hx hy⟩
    | false =>
      rw [c0, cnd_f] at h
      cases c1 : (Nat.beq b 1 && !Nat.beq p.2.1 q.2.1) with
      | true =>
        rw [c1, cnd_t] at h
        rw [Bool.and_eq_true] at c1
        rw [Nat.eq_of_beq_eq_true c1.1]
        exact ⟨_, rfl, sb2_s h hE hx hy⟩
      | false =>
        rw [c1, cnd_f] at h
        exact arO_s h hE hx hy
  · exact arO_s h hE hx hy
/-! longs: only that none is divided by 0 -/
noncomputable def arL (b n : Nat) (E : EV) (wx wy : SV) (k : Nat → EV → SV → Bool) : Bool := match wx, wy with
  | .inl (.inr (.inl x)), .inl (.inr (.inl y)) => oB (binL b x y) fun z => k n E (yL z)
  | wx, wy => (isYL wx && isYL wy) && (Nat.ble b 6 && (bif Nat.beq b 3 || Nat.beq b 4 then sR n E wy fun yl yh => (ltI 0 yl || ltI yh 0) && (in64 yl yh && mkN true n E (-9223372036854775808) 9223372036854775807 1 k) else mkN true n E (-9223372036854775808) 9223372036854775807 1 k))
theorem binL_b {b : Nat} {x y : Int} (hb : b ≤ 6) (h : b = 3 ∨ b = 4 → y ≠ 0 ∧ -9223372036854775808 ≤ y ∧ y ≤ 9223372036854775807) : ∃ z, binL b x y = some z ∧ -9223372036854775808 ≤ z ∧ z ≤ 9223372036854775807 := by
  match b, hb, h with
  | 0, _, _ => exact ⟨_, rfl, w64_b _⟩
  | 1, _, _ => exact ⟨_, rfl, w64_b _⟩
  | 2, _, _ => exact ⟨_, rfl, w64_b _⟩
  | 3, _, h => exact ⟨_, if_neg (h (Or.inl rfl)).1, w64_b _⟩
  | 4, _, h => exact ⟨_, if_neg (h (Or.inr rfl)).1, tmod_64 (h (Or.inr rfl)).1 (h (Or.inr rfl)).2.1 (h (Or.inr rfl)).2.2⟩
  | 5, _, _ => exact ⟨_, rfl, bv64_b _⟩
  | 6, _, _ => exact ⟨_, rfl, bv64_b _⟩
  | n + 7, hb, _ => omega
theorem arL_s {b n : Nat} {E : EV} {ρ : Nat → Int} {wx wy : SV} {x y : Int} {k : Nat → EV → SV → Bool} (h : arL b n E wx wy k = true) (hE : n_E n E ρ) (hx : n_V n ρ wx (.inr (.inl x))) (hy : n_V n ρ wy (.inr (.inl y))) : ∃ z, binL b x y = some z ∧ ∃ n' ρ' E' w, k n' E' w = true ∧ n_X n ρ n' ρ' ∧ n_E n' E' ρ' ∧ n_V n' ρ' w (.inr (.inl z)) := by
  unfold arL at h
  split at h
  · rename_i x' y'
    have ex : (Sum.inr (Sum.inl x) : AV) = Sum.inr (Sum.inl x') := hx.2
    have ey : (Sum.inr (Sum.inl y) : AV) = Sum.inr (Sum.inl y') := hy.2
    cases ex
    cases ey
    obtain ⟨z, e, hk⟩ := oB_x h
    exact ⟨z, e, n, ρ, E, yL z, hk, n_X_r, hE, n_yL z⟩
  · rw [Bool.and_eq_true, Bool.and_eq_true, Bool.and_eq_true, ble_d, decide_eq_true_eq] at h
    obtain ⟨-, hb, h⟩ := h
    have fin : ∀ {z : Int}, mkN true n E (-9223372036854775808) 9223372036854775807 1 k = true → -9223372036854775808 ≤ z ∧ z ≤ 9223372036854775807 → ∃ n' ρ' E' w, k n' E' w = true ∧ n_X n ρ n' ρ' ∧ n_E n' E' ρ' ∧ n_V n' ρ' w (.inr (.inl z)) := fun {z} hm hz => mkN_s hm hE hz.1 hz.2 (Int.one_dvd z)
    cases hc : (Nat.beq b 3 || Nat.beq b 4) with
    | true =>
      rw [hc, cnd_t] at h
      obtain ⟨yl, yh, h, y1, y2⟩ := sR_s h hE hy
      have y1 : yl ≤ y := y1
      have y2 : y ≤ yh := y2
      rw [Bool.and_eq_true, Bool.and_eq_true, Bool.or_eq_true, ltI_eq, ltI_eq, decide_eq_true_eq, decide_eq_true_eq] at h
      have b64 := in64_s h.2.1
      obtain ⟨z, e, hz⟩ := binL_b (b := b) (x := x) (y := y) hb (fun _ => ⟨by omega, by omega, by omega⟩)
      exact ⟨z, e, fin h.2.2 hz⟩
    | false =>
      rw [hc, cnd_f] at h
      rw [beq_d, beq_d] at hc
      obtain ⟨z, e, hz⟩ := binL_b (b := b) (x := x) (y := y) hb (fun q => by
        rcases q with rfl | rfl
        · cases hc
        · cases hc)
      exact ⟨z, e, fin h hz⟩
