theorem rk_pos {o : Int} (h : o < 40) : 1 ≤ rk o := by unfold rk; (repeat' split) <;> omega
theorem stl_1 : ∀ L : List Int, (opN L = -1 → stl 1 L = []) ∧ (40 ≤ opN L → ∃ L'', stl 1 L = opN L :: L'') ∧ (opN L = -1 ∨ 40 ≤ opN L) := by
  intro L
  induction L with
  | nil => exact ⟨fun _ => rfl, fun z => absurd z (by decide), Or.inl rfl⟩
  | cons o L ih =>
    by_cases z : 40 ≤ o
    · have e1 : opN (o :: L) = o := if_pos z
      have r := rk_op z
      have e2 : stl 1 (o :: L) = o :: L := if_neg (by omega)
      rw [e1, e2]
      exact ⟨fun q => by omega, fun _ => ⟨L, rfl⟩, Or.inr z⟩
    · have e1 : opN (o :: L) = opN L := if_neg z
      have r := rk_pos (o := o) (by omega)
      have e2 : stl 1 (o :: L) = stl 1 L := if_pos r
      rw [e1, e2]; exact ih
theorem SP_5 {least : Int} {m0 m : Nat} {tr : Bool} (h : SPc least m0 m tr) (h1 : 5 ≤ least) : tr = false := by
  rcases h with ⟨-, q⟩ | ⟨q, -⟩ | ⟨q, -⟩ | ⟨q, -⟩
  · exact q
  · omega
  · omega
  · omega
theorem SP_4 {m0 m : Nat} {tr : Bool} (h : SPc 4 m0 m tr) : tr = false ∧ (m = 1 ∨ m = 2) := by
  rcases h with ⟨q, -⟩ | ⟨-, q⟩ | ⟨q, -⟩ | ⟨q, -⟩
  · omega
  · exact q
  · omega
  · omega
theorem SP_3 {least : Int} {m : Nat} {tr : Bool} (h : SPc least 3 m tr) (h1 : least ≤ 3) : (tr = false ∧ m = 3) ∨ (tr = true ∧ m = 1) := by
  rcases h with ⟨q, -⟩ | ⟨q, -⟩ | ⟨-, q, -⟩ | ⟨-, -, q⟩
  · omega
  · omega
  · exact absurd q (by decide)
  · exact q
theorem SP_0 {least : Int} {m : Nat} {tr : Bool} (h : SPc least 0 m tr) (h1 : least ≤ 3) : tr = false ∧ m = 0 := by
  rcases h with ⟨q, -⟩ | ⟨q, -⟩ | ⟨-, -, q⟩ | ⟨-, q, -⟩
  · omega
  · omega
  · exact q
  · exact absurd q (by decide)
/-- a sign between two: where it goes -/
theorem bt_p {tk z : Int} {m m' : Nat} {tr' : Bool} {L L' : List Int} (hz : (6 ≤ z ∧ z ≤ 9) ∨ (10 ≤ z ∧ z ≤ 15 ∧ (m = 1 ∨ m = 2)) ∨ ((z = 21 ∨ z = 22) ∧ m = 3)) (h1 : mdl L' = some m') (h2 : SPc (rk z) m m' tr') (h3 : rkt L' < rk z) : ∃ m'', mdl (z :: L') = some m'' ∧ qkd L' tr' = (hvl (z :: L'), htl (z :: L')) ∧ opl (z :: L') = opl L' := by
  have ev : hvl (z :: L') = hvo z + hvl L' := rfl
  have et : htl (z :: L') = hto z + htl L' := rfl
  have eo : opl (z :: L') = opo z + opl L' := rfl
  rcases hz with ⟨a, b⟩ | ⟨a, b, c⟩ | ⟨a, b⟩
  · have := SP_5 h2 (rk_ar (by omega) b)
    subst this
    refine ⟨if m' = 1 then 2 else m', mdl_p h1 ?_, ?_, by rw [eo, opo_0 (by omega), Nat.zero_add]⟩
    · unfold mdo; rw [if_neg (by omega), if_neg (by omega), if_neg (by omega), if_neg (by omega), if_pos (by omega)]
    · rw [ev, et, hvo_1 (by omega), hto_0 (by omega), Nat.zero_add, Nat.add_comm]; rfl
  · rw [rk_cm a b] at h2 h3
    obtain ⟨rfl, q⟩ := SP_4 h2
    have m1 : m' = 1 := by
      rcases q with q | q
      · exact q
      · subst q; have := mdl_m2 h1; omega
    subst m1
    refine ⟨3, mdl_p h1 ?_, ?_, by rw [eo, opo_0 (by omega), Nat.zero_add]⟩
    · unfold mdo; rw [if_neg (by omega), if_neg (by omega), if_neg (by omega), if_pos (by omega), if_pos (by omega)]
    · rw [ev, et, hvo_1 (by omega), hto_0 (by omega), Nat.zero_add, Nat.add_comm]; rfl
  · subst b
    have r : rk z ≤ 2 := by rcases a with rfl | rfl <;> decide
    have m1 : tr' = true ∧ m' = 1 := by
      rcases SP_3 h2 (by omega) with ⟨-, q⟩ | q
      · subst q; have := mdl_m3 h1; omega
      · exact q
    obtain ⟨rfl, rfl⟩ := m1
    refine ⟨1, mdl_p h1 ?_, ?_, by rw [eo, opo_0 (by omega), Nat.zero_add]⟩
    · unfold mdo; rw [if_neg (by omega), if_neg (by omega), if_pos (by omega), if_pos (by omega)]
    · rw [ev, et, hvo_0 (by omega) (by omega), hto_1 (by omega), Nat.zero_add, Nat.add_comm 1]; rfl
theorem bt_s {z : Int} {m : Nat} (hz : (6 ≤ z ∧ z ≤ 9) ∨ (10 ≤ z ∧ z ≤ 15 ∧ (m = 1 ∨ m = 2)) ∨ ((z = 21 ∨ z = 22) ∧ m = 3)) : SPc (rk z) m m false ∧ 1 ≤ rk z := by
  rcases hz with ⟨a, b⟩ | ⟨a, b, c⟩ | ⟨a, b⟩
  · have := rk_ar (o := z) (by omega) b
    exact ⟨Or.inl ⟨this, rfl⟩, by omega⟩
  · rw [rk_cm a b]
    exact ⟨Or.inr (Or.inl ⟨rfl, rfl, c⟩), by decide⟩
  · have r : 1 ≤ rk z ∧ rk z ≤ 3 := by rcases a with rfl | rfl <;> decide
    exact ⟨Or.inr (Or.inr (Or.inr ⟨r.2, b, Or.inl ⟨rfl, b⟩⟩)), r.1⟩
theorem PS_rp {β J n c : Nat} {h0 hb h : AH} {w a : Nat} {tk : Int} {L : List Int} {op : Nat} {wh : Int} {q : Nat × Nat} {o o' : Int} (hs : PS β J n c h0 hb h w a tk (o :: L) op wh q) (hl : L.length < 160) (ho : 0 ≤ o' ∧ o' ≤ 43) : PS β J n c h0 hb (hSet h 81 L.length (vI o')) w a tk (o' :: L) op wh q := by
  obtain ⟨⟨s1, ⟨r1, r2, r3, r4, r5, r6, r7⟩, s3⟩, ⟨s4, s5⟩, s6, s7⟩ := hs
  have e : ∀ j, hV (hSet h 81 L.length (vI o')) 79 j = hV h 79 j := fun j => by rw [hV_eq, if_neg (fun y => absurd y.1 (by decide))]
  have f : ∀ j, hV (hSet h 81 L.length (vI o')) 76 j = hV h 76 j := fun j => by rw [hV_eq, if_neg (fun y => absurd y.1 (by decide))]
  refine ⟨⟨ST_p (i := L.length) s1 (by omega) ho, ⟨by rw [f]; exact r1, by rw [f]; exact r2, by rw [f]; exact r3, by rw [f]; exact r4, by rw [f]; exact r5, by rw [f]; exact r6, by rw [f]; exact r7⟩, ⟨f_at, PLs_f L (fun j hj => f_set (by omega)) s3.2⟩⟩, ⟨by rw [e]; exact s4, fun j hj => by rw [e]; exact s5 j hj⟩, ?_, ?_⟩
  · rw [gT_e e]; exact s6
  · rw [gT_e e]; exact s7
theorem l_160 {l : Nat} (h : l ≤ 71) : l < 160 := by omega
theorem s_a {w w' l l' a : Nat} (h1 : w' + l' = w + l) (h2 : w + l + 1 ≤ a) : w' + (l' + 1) ≤ a := by omega
theorem s_b {w w' l l' a : Nat} (h1 : w' + (l' + 1) = w + l) (h2 : w + l + 1 ≤ a) (h3 : a ≤ 300) : w' + (l' + 1) ≤ a ∧ w' ≤ 303 ∧ w' + l' ≤ 303 ∧ w' + 1 + l' ≤ 303 ∧ w' + l' ≤ a ∧ w' + 1 + l' ≤ a := by omega
theorem w_303 {w l a : Nat} (h2 : w + l + 1 ≤ a) (h3 : a ≤ 300) : w + l ≤ 303 := by omega
theorem bt_rg {z : Int} {m : Nat} (hz : (6 ≤ z ∧ z ≤ 9) ∨ (10 ≤ z ∧ z ≤ 15 ∧ (m = 1 ∨ m = 2)) ∨ ((z = 21 ∨ z = 22) ∧ m = 3)) : 0 ≤ z ∧ z ≤ 43 := by omega
theorem pa_rg {z op : Int} {m : Nat} (hz : (z = 42 ∧ op = 41 ∧ m = 3) ∨ (z = 43 ∧ op = 42)) : (0 ≤ z ∧ z ≤ 43) ∧ ¬ z ≤ 0 ∧ 40 ≤ op ∧ (40 ≤ z ∨ z = 4 ∨ z = 5 ∨ z = 20) ∧ (op = 42 ∨ (op = 41 ∧ m = 3)) := by omega
theorem pc_rg {op : Int} (hz : op = 40 ∨ op = 43) : 40 ≤ op ∧ op ≠ 41 := by omega
theorem op_8b {p q : Nat} (h1 : 1 + p ≤ q) (h2 : q ≤ 8) : p ≤ 8 := by omega
def BHd (β J n c : Nat) (h0 hb h : AH) (μ : Nat) (r : Option AV) (h' : AH) : Prop := (r = some (vI 0) ∧ h' = h) ∨ (r = some (vI 1) ∧ ∃ μ' wh', μ' < μ ∧ (wh' = 0 ∨ wh' = 1) ∧ SI β J n c h0 hb μ' wh' h')
theorem ln_5 {l : Nat} (h2 : l ≤ 71) : w32 ((l : Int) + 1) = ((l + 1 : Nat) : Int) ∧ ((0 : Int) ≤ (l : Int) ∧ (l : Int) < 160) ∧ w32 (((l + 1 : Nat) : Int) - 1) = (l : Int) := by unfold w32; omega
