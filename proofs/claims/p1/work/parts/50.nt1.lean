/-! the reference's copy as a known call -/
def ntC (b : BH) (p q : Nat) : Option (Option AW × BH) := match gC b p, gC b q with
  | some c1, some c2 => if (c1.1 = 11 ∧ c1.2.1 = 9834 ∧ c2.1 = 11 ∧ c2.2.1 = 9834) ∧ p ≠ q ∧ q < 1000000 ∧ c1.2.2.1.all isI = true ∧ c1.2.2.1.length ≤ 9834 ∧ c1.2.2.2 = some xT then some (none, sC b q c1) else none
  | _, _ => none
def ntC2 (as : List AW) (b : BH) : Option (Option AW × BH) := match as with
  | [.inl (.inr (.inr (some p))), .inl (.inr (.inr (some q)))] => ntC b p q
  | _ => none
def nt1 : NT := fun M as b => bif Nat.beq M 181 then ntC2 as b else none
theorem ntC2_s {as : List AW} {b : BH} {r : Option AW} {b' : BH} (hn : ntC2 as b = some (r, b')) : ∀ d vs h (Q : Option AV → AH → Prop), 20 ≤ d → ab_S as vs → ab_H b h → (∀ v h', ab_O r v → ab_H b' h' → Q v h') → XC d 181 vs h Q := by
  intro d vs h Q hd hs hb hQ
  unfold ntC2 at hn
  split at hn
  · rename_i p q
    unfold ntC at hn
    split at hn
    · rename_i c1 c2 g1 g2
      split at hn
      · rename_i hc
        obtain ⟨⟨k1, k2, k3, k4⟩, hne, hq, hall, hlen, hdf⟩ := hc
        cases hn
        obtain ⟨v1, vs1, rfl, hv1, v2, vs2, rfl, hv2, hs3⟩ := hs
        have hv1 : v1 = vR p := hv1
        have hv2 : v2 = vR q := hv2
        have hs3 : vs2 = [] := hs3
        subst hv1 hv2 hs3
        obtain ⟨d, rfl⟩ : ∃ d', d = d' + 1 := ⟨d - 1, by omega⟩
        have C1 := hb.2.2 p c1 g1
        have C2 := hb.2.2 q c2 g2
        have hint : ∀ i, i < 9834 → ∃ x, hV h p i = .inl x := fun i hi => by
          cases hw : c1.2.2.1[i]? with
          | some w => exact isI_s (List.all_eq_true.mp hall w (List.mem_of_getElem? hw)) (C1.2.1 i w hw)
          | none => exact isI_s (w := xT) rfl (C1.2.2 xT hdf i (List.getElem?_eq_none_iff.mp hw) (by omega))
        have hf : ∀ i, i < 9834 → hV h p i = vI ((match hV h p i with
          | .inl x => x
          | _ => 0 : Int)) := fun i hi => by
          obtain ⟨x, e⟩ := hint i hi
          rw [e]
        rw [X_copy d p q h (fun i => (match hV h p i with
          | .inl x => x
          | _ => 0 : Int)) (by rw [C1.1, k1, k2]) (by rw [C2.1, k3, k4]) hne hf]
        exact hQ none _ rfl (ab_H_cpy hb g1 g2 hq (by omega) k2 k4 hlen)
      · cases hn
    · cases hn
  · cases hn
theorem nt1_s : ab_N nt1 := by
  intro M as b r b' hn
  unfold nt1 at hn
  rw [beq_d] at hn
  by_cases h : M = 181
  · rw [decide_eq_true h] at hn
    subst h
    exact ntC2_s hn
  · rw [decide_eq_false h] at hn
    cases hn
