theorem RA_int {s : State} {a b : ClassId} (h1 : va_RA s a .int) (h2 : va_RA s b .int) : a = b := Option.some.inj (h1.symm.trans h2)
theorem RA_long {s : State} {a b : ClassId} (h1 : va_RA s a .long) (h2 : va_RA s b .long) : a = b := Option.some.inj (h1.symm.trans h2)
theorem RA_bool {s : State} {a b : ClassId} (h1 : va_RA s a .boolean) (h2 : va_RA s b .boolean) : a = b := Option.some.inj (h1.symm.trans h2)
theorem RA_obj {s : State} {a b : ClassId} {C : String} (h1 : va_RA s a (.object C)) (h2 : va_RA s b (.object C)) : a = b := by
  obtain ⟨_, _, -, -, -, h1⟩ := h1
  obtain ⟨_, _, -, -, -, h2⟩ := h2
  exact Option.some.inj (h1.symm.trans h2)
theorem roV_ag {n : Nat} {ad ad' : Nat → Nat} {v : AV} (ha : AG n ad ad') (hv : wfv n v) : roV ad' v = roV ad v := by
  match v, hv with
  | .inl _, _ => rfl
  | .inr (.inl _), _ => rfl
  | .inr (.inr none), _ => rfl
  | .inr (.inr (some k)), hv => exact congrArg some (ha k hv)
theorem cEl_ag {ad ad' : Nat → Nat} {cy : Nat → ClassId} {h h' : AH} {k : Nat} (ha : AG (hN h) ad ad') (hk : hK h' k = hK h k) (hv : ∀ i, hV h' k i = hV h k i) (hw : ∀ i, wfv (hN h) (hV h k i)) : cEl ad' cy h' k = cEl ad cy h k := by
  unfold cEl
  rw [hk]
  have e1 : (fun i => trV ad' (hV h' k i)) = fun i => trV ad (hV h k i) := by funext i; rw [hv, trV_ag ha (hw i)]
  have e2 : (fun i => roV ad' (hV h' k i)) = fun i => roV ad (hV h k i) := by funext i; rw [hv, roV_ag ha (hw i)]
  have e3 : (fun i => ioV (hV h' k i)) = fun i => ioV (hV h k i) := by funext i; rw [hv]
  have e4 : (fun i => loV (hV h' k i)) = fun i => loV (hV h k i) := by funext i; rw [hv]
  rw [e1, e2, e3, e4]
theorem SW_map {n : Nat} {ad ad' : Nat → Nat} (ha : AG n ad ad') : ∀ {st : List AV}, SW n st → st.map (trV ad') = st.map (trV ad)
  | [], _ => rfl
  | v :: st, h => by rw [List.map_cons, List.map_cons, trV_ag ha (SW_h h), SW_map ha (SW_t h)]
theorem LV_ag {n nL : Nat} {ad ad' : Nat → Nat} {lsA : Array Slot} {ls : List (Option AV)} (ha : AG n ad ad') (hL : LV ad lsA nL ls) (hw : LW n ls) : LV ad' lsA nL ls :=
  ⟨hL.1, hL.2.1, hL.2.2.1, fun i v hi => by rw [trV_ag ha (hw i v hi)]; exact hL.2.2.2 i v hi⟩
theorem LW_mono {n n' : Nat} {ls : List (Option AV)} (h : LW n ls) (hn : n ≤ n') : LW n' ls := fun i v hi => wfv_mono (h i v hi) hn
theorem SW_mono {n n' : Nat} {st : List AV} (h : SW n st) (hn : n ≤ n') : SW n' st := fun v hv => wfv_mono (h v hv) hn
def adN (ad : Nat → Nat) (n q : Nat) : Nat → Nat := fun k => if k = n then q else ad k
theorem AG_new {n n0 q : Nat} {ad0 ad : Nat → Nat} (ha : AG n0 ad0 ad) (hn : n0 ≤ n) (h5 : n < 5000) : AG n0 ad0 (adN ad n q) := by
  intro k hk
  have : adN ad n q k = ad k := if_neg (by omega)
  rw [this]; exact ha k hk
theorem HW_new {h : AH} {kd len sl : Nat} {ini : Nat → AV} (hw : HW h) (hkd : kd < 15) (hlen : len ≤ 20000) (h5 : hN h < 5000) (hi : ∀ i, wfv (hN h + 1) (ini i)) : HW (hNew h kd len sl ini) := by
  refine ⟨fun k hk => ?_, fun k hk => ?_, fun k i => ?_, h5, fun k => ?_⟩
  · have hk : hN h + 1 ≤ k := hk
    have e : hK (hNew h kd len sl ini) k = hK h k := if_neg (by show k ≠ hN h; omega)
    rw [e]; exact hw.1 k (by omega)
  · have hk : k < hN h + 1 := hk
    by_cases e : k = hN h
    · have e1 : hK (hNew h kd len sl ini) k = (kd, len) := if_pos e
      rw [e1]; exact hkd
    · have e1 : hK (hNew h kd len sl ini) k = hK h k := if_neg e
      rw [e1]; exact hw.2.1 k (by omega)
  · show wfv (hN h + 1) _
    by_cases e : k = hN h
    · have e1 : hV (hNew h kd len sl ini) k i = ini i := if_pos e
      rw [e1]; exact hi i
    · have e1 : hV (hNew h kd len sl ini) k i = hV h k i := if_neg e
      rw [e1]; exact wfv_mono (hw.2.2.1 k i) (Nat.le_succ _)
  · by_cases e : k = hN h
    · have e1 : hK (hNew h kd len sl ini) k = (kd, len) := if_pos e
      rw [e1]; exact hlen
    · have e1 : hK (hNew h kd len sl ini) k = hK h k := if_neg e
      rw [e1]; exact hw.2.2.2.2 k
theorem SA_new {h0 h : AH} {kd len sl : Nat} {ini : Nat → AV} (hs : SA h0 h) (h5 : hN h < 5000) : SA h0 (hNew h kd len sl ini) := by
  refine ⟨Nat.le_succ_of_le hs.1, Nat.le_trans hs.2.1 (Nat.le_add_right _ _), fun k hk => ?_⟩
  have hne : k ≠ hN h := by omega
  have e1 : hK (hNew h kd len sl ini) k = hK h k := if_neg hne
  have e2 : ∀ i, hV (hNew h kd len sl ini) k i = hV h k i := fun i => if_neg hne
  exact ⟨by rw [e1]; exact (hs.2.2 k hk).1, fun i => by rw [e2]; exact (hs.2.2 k hk).2 i⟩
theorem WO_new {D : va_G} {cy : Nat → ClassId} {A : Nat → Prop} {s : State} {ad : Nat → Nat} {h : AH} {H H1 : Heap} {locs : List Loc} {kd len sl q : Nat} {ini : Nat → AV} {e : va_E} (hW : WO D cy A s ad h H locs) (hkd : kd < 15) (hlen : len ≤ 20000) (h5 : hN h < 5000) (hi : ∀ i, wfv (hN h + 1) (ini i))
    (he : cEl (adN ad (hN h) q) cy (hNew h kd len sl ini) (hN h) = e) (hP : va_P D vwCl (wsO ad cy h ++ [(q, e)]) H1) (hD : va_D A (wsO ad cy h ++ [(q, e)])) (hS : va_S A s.heap H1 locs) : WO D cy A s (adN ad (hN h) q) (hNew h kd len sl ini) H1 locs := by
  obtain ⟨hK', -, -, -, hA, hZ, hT, hHW⟩ := hW
  have hag : AG (hN h) ad (adN ad (hN h) q) := AG_new (fun _ _ => rfl) (Nat.le_refl _) h5
  have e1 : wsO (adN ad (hN h) q) cy (hNew h kd len sl ini) = wsO ad cy h ++ [(q, e)] := by
    unfold wsO
    have e0 : hN (hNew h kd len sl ini) = hN h + 1 := rfl
    rw [e0, List.range_succ, List.map_append, List.map_cons, List.map_nil]
    congr 1
    · apply List.map_congr_left
      intro k hk
      have hk : k < hN h := List.mem_range.mp hk
      have hne : k ≠ hN h := by omega
      have e2 : adN ad (hN h) q k = ad k := if_neg hne
      rw [e2, cEl_ag (h := h) (h' := hNew h kd len sl ini) (k := k) hag (if_neg hne) (fun i => if_neg hne) (hHW.2.2.1 k)]
    · have e3 : adN ad (hN h) q (hN h) = q := if_pos rfl
      rw [e3, he]
  refine ⟨hK', by rw [e1]; exact hP, by rw [e1]; exact hD, hS, hA, ZS_eq (fun k hk => if_neg (by omega)) hZ, fun k hk => ?_, HW_new hHW hkd hlen h5 hi⟩
  · have hne : k ≠ hN h := fun z => by
      have e2 : hK (hNew h kd len sl ini) k = (kd, len) := if_pos z
      rw [e2] at hk; omega
    have e2 : hK (hNew h kd len sl ini) k = hK h k := if_neg hne
    have e3 : adN ad (hN h) q k = ad k := if_neg hne
    have e4 : (fun i => trV (adN ad (hN h) q) (hV (hNew h kd len sl ini) k i)) = fun i => trV ad (hV h k i) := by
      funext i
      have : hV (hNew h kd len sl ini) k i = hV h k i := if_neg hne
      rw [this, trV_ag hag (hHW.2.2.1 k i)]
    rw [e2] at hk ⊢
    rw [e3, e4]
    exact hT k hk
section SD5
variable {p : Program} {l : Launch} {e : Env} {R : Room} {s : State} {m : MethodId} {args : Array Value} {below : List Frame} {meth : Method} {c : Code} {Q : State → Prop} {D : va_G} {cy : Nat → ClassId} {A : Nat → Prop} {ad0 : Nat → Nat} {h0 : AH} {M d : Nat} {pc len a b : Nat} {k : Int} {sw : List (Int × Nat)} {ins : Instr} {ls : List (Option AV)} {st : List AV} {h : AH}
set_option maxHeartbeats 4000000 in
theorem sd_35 (C : FC M d p s m args meth c R) (hd : decode (mB M) pc = .ok (ins, len)) (hok : okO M pc 35 a b k sw ins len = true) (hk : stepK False (GO p l e R s m args below meth c Q D cy A ad0 h0 M) (RE p l e R s m args below meth c Q D cy A ad0 h0 M) (CA d) dfO nF (35, pc + len, a, b, k, sw) ls st h) : GO p l e R s m args below meth c Q D cy A ad0 h0 M pc ls st h := by
  obtain ⟨hx, hb, hml, hown, hts, hnw, hao, hlocks, hret, hini, hfr, hlo⟩ := C
  replace hk := pI_ex hk
  obtain ⟨n, st, rfl, hk⟩ := hk
  replace hk := if_ex hk
  obtain ⟨⟨hn0, hn2, h5⟩, hk⟩ := hk
  refine ⟨⟨Nat.le_trans (Nat.le_succ _) hk.1.1, Nat.le_trans (Nat.le_add_right _ _) hk.1.2⟩, fun ad lsA H locs hAG hSA hL hLW hSW hW => ?_⟩
  have hW0 := hW
  obtain ⟨vK, vP, vD, vS, vA, vZ, vT, hHW⟩ := hW
  have hnr : r32 n := SW_h hSW
  cases ins <;> first | (cases hok; done) | skip
  case newarray t =>
    cases t <;> first | (cases hok; done) | skip
    case int =>
      obtain ⟨rfl, rfl⟩ := of_decide_eq_true hok
      refine va_newa (atype := .int) (ty := .int) (N' := n.toNat) (a0 := (n.toNat, .inl (fun _ => 0))) hx hb (hts _ arr_int) rfl vK vP vD vS vA (fun _ => rfl) (by rw [← i32_0, l32 hnr r32_0]; omega) (cN32 hnr) (by have h7 : componentBytes .int ≤ 8 := (by decide); have h9 := Nat.mul_le_mul_left n.toNat h7; omega) (by have := hk.1.1; have h8 : hN (hNew h (11 + 0) n.toNat n.toNat (fun _ => dfA 0)) = hN h + 1 := rfl; have := hSA.1; omega) (by have := hk.1.2; have h8 : hS (hNew h (11 + 0) n.toNat n.toNat (fun _ => dfA 0)) = hS h + n.toNat := rfl; have := hSA.2.1; omega) hd (fun q cA H1 hK1 hP1 hD1 hS1 => ?_)
      obtain rfl : cA = cy 0 := RA_int (hK1.2 4 _ rfl).2 (hK1.2 0 _ rfl).2
      have hag : AG (hN h) ad (adN ad (hN h) q) := AG_new (fun _ _ => rfl) (Nat.le_refl _) h5
      have hz := hk.2 (adN ad (hN h) q) lsA H1 locs (AG_new hAG hSA.1 h5) (SA_new hSA h5) (LV_ag hag hL hLW) (LW_mono hLW (Nat.le_succ _)) (SW_c (v := .inr (.inr (some (hN h)))) (Or.inl (Nat.lt_succ_self _)) (SW_mono (SW_t hSW) (Nat.le_succ _))) (WO_new (q := q) hW0 (by decide) (by omega) h5 (fun _ => r32_0) (cEl_int (h := hNew h (11 + 0) n.toNat n.toNat (fun _ => dfA 0)) (congrArg Prod.fst (if_pos rfl : hK (hNew h (11 + 0) n.toNat n.toNat (fun _ => dfA 0)) (hN h) = (11, n.toNat))) |>.trans (by rw [show hK (hNew h (11 + 0) n.toNat n.toNat (fun _ => dfA 0)) (hN h) = (11, n.toNat) from if_pos rfl, show (fun i => ioV (hV (hNew h (11 + 0) n.toNat n.toNat (fun _ => dfA 0)) (hN h) i)) = fun _ => 0 from funext fun i => by rw [show hV (hNew h (11 + 0) n.toNat n.toNat (fun _ => dfA 0)) (hN h) i = dfA 0 from if_pos rfl]; rfl])) hP1 hD1 hS1)
      have ec : hN (hNew h (11 + 0) n.toNat n.toNat (fun _ => dfA 0)) - hN h0 = hN h - hN h0 + 1 := by have := hSA.1; show hN h + 1 - hN h0 = _; omega
      have es : hS (hNew h (11 + 0) n.toNat n.toNat (fun _ => dfA 0)) - hS h0 = hS h - hS h0 + n.toNat := by have := hSA.2.1; show hS h + n.toNat - hS h0 = _; omega
      have eq1 : trV (adN ad (hN h) q) (.inr (.inr (some (hN h)))) = .ref q := congrArg Value.ref (if_pos rfl)
      rw [ec, es, List.map_cons, eq1, SW_map hag (SW_t hSW)] at hz
      exact hz
    case long =>
      obtain ⟨rfl, rfl⟩ := of_decide_eq_true hok
      refine va_newa (atype := .long) (ty := .long) (N' := n.toNat) (a0 := (n.toNat, .inr (.inl (fun _ => 0)))) hx hb (hts _ arr_long) rfl vK vP vD vS vA (fun _ => rfl) (by rw [← i32_0, l32 hnr r32_0]; omega) (cN32 hnr) (by have h7 : componentBytes .long ≤ 8 := (by decide); have h9 := Nat.mul_le_mul_left n.toNat h7; omega) (by have := hk.1.1; have h8 : hN (hNew h (11 + 1) n.toNat n.toNat (fun _ => dfA 1)) = hN h + 1 := rfl; have := hSA.1; omega) (by have := hk.1.2; have h8 : hS (hNew h (11 + 1) n.toNat n.toNat (fun _ => dfA 1)) = hS h + n.toNat := rfl; have := hSA.2.1; omega) hd (fun q cA H1 hK1 hP1 hD1 hS1 => ?_)
      obtain rfl : cA = cy 1 := RA_long (hK1.2 4 _ rfl).2 (hK1.2 1 _ rfl).2
      have hag : AG (hN h) ad (adN ad (hN h) q) := AG_new (fun _ _ => rfl) (Nat.le_refl _) h5
      have hz := hk.2 (adN ad (hN h) q) lsA H1 locs (AG_new hAG hSA.1 h5) (SA_new hSA h5) (LV_ag hag hL hLW) (LW_mono hLW (Nat.le_succ _)) (SW_c (v := .inr (.inr (some (hN h)))) (Or.inl (Nat.lt_succ_self _)) (SW_mono (SW_t hSW) (Nat.le_succ _))) (WO_new (q := q) hW0 (by decide) (by omega) h5 (fun _ => r64_0) (cEl_long (h := hNew h (11 + 1) n.toNat n.toNat (fun _ => dfA 1)) (congrArg Prod.fst (if_pos rfl : hK (hNew h (11 + 1) n.toNat n.toNat (fun _ => dfA 1)) (hN h) = (12, n.toNat))) |>.trans (by rw [show hK (hNew h (11 + 1) n.toNat n.toNat (fun _ => dfA 1)) (hN h) = (12, n.toNat) from if_pos rfl, show (fun i => loV (hV (hNew h (11 + 1) n.toNat n.toNat (fun _ => dfA 1)) (hN h) i)) = fun _ => 0 from funext fun i => by rw [show hV (hNew h (11 + 1) n.toNat n.toNat (fun _ => dfA 1)) (hN h) i = dfA 1 from if_pos rfl]; rfl])) hP1 hD1 hS1)
      have ec : hN (hNew h (11 + 1) n.toNat n.toNat (fun _ => dfA 1)) - hN h0 = hN h - hN h0 + 1 := by have := hSA.1; show hN h + 1 - hN h0 = _; omega
      have es : hS (hNew h (11 + 1) n.toNat n.toNat (fun _ => dfA 1)) - hS h0 = hS h - hS h0 + n.toNat := by have := hSA.2.1; show hS h + n.toNat - hS h0 = _; omega
      have eq1 : trV (adN ad (hN h) q) (.inr (.inr (some (hN h)))) = .ref q := congrArg Value.ref (if_pos rfl)
      rw [ec, es, List.map_cons, eq1, SW_map hag (SW_t hSW)] at hz
      exact hz
    case boolean =>
      obtain ⟨rfl, rfl⟩ := of_decide_eq_true hok
      refine va_newa (atype := .boolean) (ty := .boolean) (N' := n.toNat) (a0 := (n.toNat, .inl (fun _ => 0))) hx hb (hts _ arr_boolean) rfl vK vP vD vS vA (fun _ => rfl) (by rw [← i32_0, l32 hnr r32_0]; omega) (cN32 hnr) (by have h7 : componentBytes .boolean ≤ 8 := (by decide); have h9 := Nat.mul_le_mul_left n.toNat h7; omega) (by have := hk.1.1; have h8 : hN (hNew h (11 + 2) n.toNat n.toNat (fun _ => dfA 2)) = hN h + 1 := rfl; have := hSA.1; omega) (by have := hk.1.2; have h8 : hS (hNew h (11 + 2) n.toNat n.toNat (fun _ => dfA 2)) = hS h + n.toNat := rfl; have := hSA.2.1; omega) hd (fun q cA H1 hK1 hP1 hD1 hS1 => ?_)
      obtain rfl : cA = cy 2 := RA_bool (hK1.2 4 _ rfl).2 (hK1.2 2 _ rfl).2
      have hag : AG (hN h) ad (adN ad (hN h) q) := AG_new (fun _ _ => rfl) (Nat.le_refl _) h5
      have hz := hk.2 (adN ad (hN h) q) lsA H1 locs (AG_new hAG hSA.1 h5) (SA_new hSA h5) (LV_ag hag hL hLW) (LW_mono hLW (Nat.le_succ _)) (SW_c (v := .inr (.inr (some (hN h)))) (Or.inl (Nat.lt_succ_self _)) (SW_mono (SW_t hSW) (Nat.le_succ _))) (WO_new (q := q) hW0 (by decide) (by omega) h5 (fun _ => r32_0) (cEl_bool (h := hNew h (11 + 2) n.toNat n.toNat (fun _ => dfA 2)) (congrArg Prod.fst (if_pos rfl : hK (hNew h (11 + 2) n.toNat n.toNat (fun _ => dfA 2)) (hN h) = (13, n.toNat))) |>.trans (by rw [show hK (hNew h (11 + 2) n.toNat n.toNat (fun _ => dfA 2)) (hN h) = (13, n.toNat) from if_pos rfl, show (fun i => ioV (hV (hNew h (11 + 2) n.toNat n.toNat (fun _ => dfA 2)) (hN h) i)) = fun _ => 0 from funext fun i => by rw [show hV (hNew h (11 + 2) n.toNat n.toNat (fun _ => dfA 2)) (hN h) i = dfA 2 from if_pos rfl]; rfl])) hP1 hD1 hS1)
      have ec : hN (hNew h (11 + 2) n.toNat n.toNat (fun _ => dfA 2)) - hN h0 = hN h - hN h0 + 1 := by have := hSA.1; show hN h + 1 - hN h0 = _; omega
      have es : hS (hNew h (11 + 2) n.toNat n.toNat (fun _ => dfA 2)) - hS h0 = hS h - hS h0 + n.toNat := by have := hSA.2.1; show hS h + n.toNat - hS h0 = _; omega
      have eq1 : trV (adN ad (hN h) q) (.inr (.inr (some (hN h)))) = .ref q := congrArg Value.ref (if_pos rfl)
      rw [ec, es, List.map_cons, eq1, SW_map hag (SW_t hSW)] at hz
      exact hz
set_option maxHeartbeats 4000000 in
theorem sd_36 (C : FC M d p s m args meth c R) (hd : decode (mB M) pc = .ok (ins, len)) (hok : okO M pc 36 a b k sw ins len = true) (hk : stepK False (GO p l e R s m args below meth c Q D cy A ad0 h0 M) (RE p l e R s m args below meth c Q D cy A ad0 h0 M) (CA d) dfO nF (36, pc + len, a, b, k, sw) ls st h) : GO p l e R s m args below meth c Q D cy A ad0 h0 M pc ls st h := by
  obtain ⟨hx, hb, hml, hown, hts, hnw, hao, hlocks, hret, hini, hfr, hlo⟩ := C
  replace hk := pI_ex hk
  obtain ⟨n, st, rfl, hk⟩ := hk
  replace hk := if_ex hk
  obtain ⟨⟨hn0, hn2, h5⟩, hk⟩ := hk
  refine ⟨⟨Nat.le_trans (Nat.le_succ _) hk.1.1, Nat.le_trans (Nat.le_add_right _ _) hk.1.2⟩, fun ad lsA H locs hAG hSA hL hLW hSW hW => ?_⟩
  have hW0 := hW
  obtain ⟨vK, vP, vD, vS, vA, vZ, vT, hHW⟩ := hW
  have hnr : r32 n := SW_h hSW
  cases ins <;> first | (cases hok; done) | skip
  rw [okO, Bool.and_eq_true] at hok
  obtain ⟨h1, h2⟩ := hok
  obtain rfl := of_decide_eq_true h1
  · refine va_newq (C := RX6) hx hb hown (hts _ (clk_ok h2).1) hao vK vP vD vS vA (by rw [← i32_0, l32 hnr r32_0]; omega) (cN32 hnr) (by omega) (by have := hk.1.1; have h8 : hN (hNew h 14 n.toNat n.toNat (fun _ => vN)) = hN h + 1 := rfl; have := hSA.1; omega) (by have := hk.1.2; have h8 : hS (hNew h 14 n.toNat n.toNat (fun _ => vN)) = hS h + n.toNat := rfl; have := hSA.2.1; omega) hd (fun q cA H1 hK1 hP1 hD1 hS1 => ?_)
    obtain rfl : cA = cy 3 := RA_obj (hK1.2 4 _ rfl).2 (hK1.2 3 _ rfl).2
    have hag : AG (hN h) ad (adN ad (hN h) q) := AG_new (fun _ _ => rfl) (Nat.le_refl _) h5
    have hz := hk.2 (adN ad (hN h) q) lsA H1 locs (AG_new hAG hSA.1 h5) (SA_new hSA h5) (LV_ag hag hL hLW) (LW_mono hLW (Nat.le_succ _)) (SW_c (v := .inr (.inr (some (hN h)))) (Or.inl (Nat.lt_succ_self _)) (SW_mono (SW_t hSW) (Nat.le_succ _))) (WO_new (q := q) hW0 (by decide) (by omega) h5 (fun _ => trivial) (cEl_ref (h := hNew h 14 n.toNat n.toNat (fun _ => vN)) (congrArg Prod.fst (if_pos rfl : hK (hNew h 14 n.toNat n.toNat (fun _ => vN)) (hN h) = (14, n.toNat))) |>.trans (by rw [show hK (hNew h 14 n.toNat n.toNat (fun _ => vN)) (hN h) = (14, n.toNat) from if_pos rfl, show (fun i => roV (adN ad (hN h) q) (hV (hNew h 14 n.toNat n.toNat (fun _ => vN)) (hN h) i)) = fun _ => none from funext fun i => by rw [show hV (hNew h 14 n.toNat n.toNat (fun _ => vN)) (hN h) i = vN from if_pos rfl]; rfl])) hP1 hD1 hS1)
    have ec : hN (hNew h 14 n.toNat n.toNat (fun _ => vN)) - hN h0 = hN h - hN h0 + 1 := by have := hSA.1; show hN h + 1 - hN h0 = _; omega
    have es : hS (hNew h 14 n.toNat n.toNat (fun _ => vN)) - hS h0 = hS h - hS h0 + n.toNat := by have := hSA.2.1; show hS h + n.toNat - hS h0 = _; omega
    have eq1 : trV (adN ad (hN h) q) (.inr (.inr (some (hN h)))) = .ref q := congrArg Value.ref (if_pos rfl)
    rw [ec, es, List.map_cons, eq1, SW_map hag (SW_t hSW)] at hz
    exact hz
theorem df_ok : (List.range 11).all (fun c => (List.range (nF c)).all (fun k => decide (defaultValue (tyO c k) = trV (fun _ => 0) (dfO c k)))) = true := by decide +kernel
theorem dfO_tr (ad ad' : Nat → Nat) (c k : Nat) : trV ad (dfO c k) = trV ad' (dfO c k) := by unfold dfO dfT; split <;> rfl
theorem dfO_wf (n c k : Nat) : wfv n (dfO c k) := by
  unfold dfO dfT; split
  · exact r64_0
  · trivial
  · exact r32_0
theorem df_at {c k : Nat} (hc : c < 11) (hk : k < nF c) (ad : Nat → Nat) : defaultValue (tyO c k) = trV ad (dfO c k) := by
  have h2 := List.all_eq_true.mp df_ok c (List.mem_range.mpr hc)
  rw [of_decide_eq_true (List.all_eq_true.mp h2 k (List.mem_range.mpr hk))]
  exact dfO_tr _ _ _ _
set_option maxHeartbeats 4000000 in
theorem sd_37 (C : FC M d p s m args meth c R) (hd : decode (mB M) pc = .ok (ins, len)) (hok : okO M pc 37 a b k sw ins len = true) (hk : stepK False (GO p l e R s m args below meth c Q D cy A ad0 h0 M) (RE p l e R s m args below meth c Q D cy A ad0 h0 M) (CA d) dfO nF (37, pc + len, a, b, k, sw) ls st h) : GO p l e R s m args below meth c Q D cy A ad0 h0 M pc ls st h := by
  obtain ⟨hx, hb, hml, hown, hts, hnw, hao, hlocks, hret, hini, hfr, hlo⟩ := C
  replace hk := if_ex hk
  obtain ⟨h5, hk⟩ := hk
  refine ⟨⟨Nat.le_trans (Nat.le_succ _) hk.1.1, Nat.le_trans (Nat.le_add_right _ _) hk.1.2⟩, fun ad lsA H locs hAG hSA hL hLW hSW hW => ?_⟩
  have hW0 := hW
  obtain ⟨vK, vP, vD, vS, vA, vZ, vT, hHW⟩ := hW
  cases ins <;> first | (cases hok; done) | skip
  rw [okO, Bool.and_eq_true] at hok
  obtain ⟨h1, h2⟩ := hok
  obtain rfl := of_decide_eq_true h1
  have ha := (clk_ok h2).2
  have ecl : (clT a).1 = cnm a := (of_decide_eq_true (List.all_eq_true.mp cl_ok a (List.mem_range.mpr ha))).2
  · refine va_new (C := (clT a).1) (T := (clT a).2.1) (N := nF a) (fs := (List.range (nF a)).map (fun i => trV ad (dfO a i))) hx hb hts (lay_in ha) (tyO a) (ty_at ha) hown (by rw [ecl]; exact hts _ (clk_ok h2).1) (by rw [ecl]; exact hts _ (ins_in ha)) (by rw [ecl]; exact hts _ (ini_in (by omega) (by omega))) vK vP vD vS vA (cl_at ha) (fun j hj => ?_) (by have := hk.1.1; have h8 : hN (hNew h a 0 (nF a) (dfO a)) = hN h + 1 := rfl; have := hSA.1; omega) (by have := hk.1.2; have h8 : hS (hNew h a 0 (nF a) (dfO a)) = hS h + nF a := rfl; have := hSA.2.1; omega) hd (fun q H1 hP1 hD1 hS1 => ?_)
    · rw [df_at ha hj ad]
      unfold vp_V
      rw [List.getD_eq_getElem?_getD, List.getElem?_map, List.getElem?_range hj]; rfl
    have hag : AG (hN h) ad (adN ad (hN h) q) := AG_new (fun _ _ => rfl) (Nat.le_refl _) h5
    have hz := hk.2 (adN ad (hN h) q) lsA H1 locs (AG_new hAG hSA.1 h5) (SA_new hSA h5) (LV_ag hag hL hLW) (LW_mono hLW (Nat.le_succ _)) (SW_c (v := .inr (.inr (some (hN h)))) (Or.inl (Nat.lt_succ_self _)) (SW_mono (hSW) (Nat.le_succ _))) (WO_new (q := q) hW0 (by omega) (by decide) h5 (fun i => dfO_wf _ _ _) (by rw [cEl_obj (h := hNew h a 0 (nF a) (dfO a)) (congrArg Prod.fst (if_pos rfl : hK (hNew h a 0 (nF a) (dfO a)) (hN h) = (a, 0))) ha, show (fun i => trV (adN ad (hN h) q) (hV (hNew h a 0 (nF a) (dfO a)) (hN h) i)) = fun i => trV ad (dfO a i) from funext fun i => by rw [show hV (hNew h a 0 (nF a) (dfO a)) (hN h) i = dfO a i from if_pos rfl]; exact dfO_tr _ _ _ _]) hP1 hD1 hS1)
    have ec : hN (hNew h a 0 (nF a) (dfO a)) - hN h0 = hN h - hN h0 + 1 := by have := hSA.1; show hN h + 1 - hN h0 = _; omega
    have es : hS (hNew h a 0 (nF a) (dfO a)) - hS h0 = hS h - hS h0 + nF a := by have := hSA.2.1; show hS h + nF a - hS h0 = _; omega
    have eq1 : trV (adN ad (hN h) q) (.inr (.inr (some (hN h)))) = .ref q := congrArg Value.ref (if_pos rfl)
    rw [ec, es, List.map_cons, eq1, SW_map hag (hSW)] at hz
    exact hz
theorem cat_sum (ad : Nat → Nat) : ∀ (st : List AV), ((st.map (trV ad)).map fun v => v.category).sum = stW st
  | [] => rfl
  | v :: st => by rw [List.map_cons, List.map_cons, List.sum_cons, cat_trA, cat_sum ad st]; rfl
theorem sd_48 (C : FC M d p s m args meth c R) (hd : decode (mB M) pc = .ok (ins, len)) (hok : okO M pc 48 a b k sw ins len = true) (hk : stepK False (GO p l e R s m args below meth c Q D cy A ad0 h0 M) (RE p l e R s m args below meth c Q D cy A ad0 h0 M) (CA d) dfO nF (48, pc + len, a, b, k, sw) ls st h) : GO p l e R s m args below meth c Q D cy A ad0 h0 M pc ls st h := by
  obtain ⟨hx, hb, hml, hown, hts, hnw, hao, hlocks, hret, hini, hfr, hlo⟩ := C
  replace hk := pR_ex hk
  obtain ⟨x, st, rfl, hk⟩ := hk
  replace hk := if_ex hk
  obtain ⟨hw8, hk⟩ := hk
  refine ⟨hk.1, fun ad lsA H locs hAG hSA hL hLW hSW hW => ?_⟩
  have hz := hk.2 ad lsA H locs hAG hSA hL hLW (SW_t hSW) hW
  cases ins <;> first | (cases hok; done) | skip
  rw [okO, Bool.and_eq_true] at hok
  obtain ⟨h1, h2⟩ := hok
  obtain rfl := of_decide_eq_true h1
  refine W.objInit hx hb hown (hts _ (mlk_ok h2).1) (hts _ (im_in (M := 0) (by decide) rfl)) (hts _ (cw_in (M := 0) (by decide))) rfl (hL.2.1.trans hml.symm) rfl hd (by omega) ?_ hz
  rw [cat_sum]
  have : 2 * (F0 m pc lsA (((.inr (.inr (some x)) : AV) :: st).map (trV ad))).monitorRoom = 0 := rfl
  omega
theorem sd_49 (C : FC M d p s m args meth c R) (hd : decode (mB M) pc = .ok (ins, len)) (hok : okO M pc 49 a b k sw ins len = true) (hk : stepK False (GO p l e R s m args below meth c Q D cy A ad0 h0 M) (RE p l e R s m args below meth c Q D cy A ad0 h0 M) (CA d) dfO nF (49, pc + len, a, b, k, sw) ls st h) : GO p l e R s m args below meth c Q D cy A ad0 h0 M pc ls st h := by
  obtain ⟨hx, hb, hml, hown, hts, hnw, hao, hlocks, hret, hini, hfr, hlo⟩ := C
  replace hk := pI_ex hk
  obtain ⟨y, st, rfl, hk⟩ := hk
  replace hk := pI_ex hk
  obtain ⟨x, st, rfl, hk⟩ := hk
  replace hk := if_ex hk
  obtain ⟨hw8, hk⟩ := hk
  refine ⟨hk.1, fun ad lsA H locs hAG hSA hL hLW hSW hW => ?_⟩
  have hyr : r32 y := SW_h hSW
  have hxr : r32 x := SW_h (SW_t hSW)
  have hz := hk.2 ad lsA H locs hAG hSA hL hLW (SW_c (v := .inl (max x y)) (by show r32 (max x y); unfold r32 at *; omega) (SW_t (SW_t hSW))) hW
  have ee : (if Int32.ofInt x < Int32.ofInt y then Int32.ofInt y else Int32.ofInt x) = Int32.ofInt (max x y) := by
    by_cases q : x < y
    · rw [if_pos ((l32 hxr hyr).mpr q), Int.max_eq_right (by omega)]
    · rw [if_neg (fun z => q ((l32 hxr hyr).mp z)), Int.max_eq_left (by omega)]
  cases ins <;> first | (cases hok; done) | skip
  rw [okO, Bool.and_eq_true] at hok
  obtain ⟨h1, h2⟩ := hok
  obtain rfl := of_decide_eq_true h1
  refine va_mmax hx hb (hml.trans hL.2.1.symm) hown (hts _ (mlk_ok h2).1) (hts _ (st_in (M := 1) (by decide) rfl)) (hts _ (ini_in (c := 12) (by decide) (by decide))) (hts _ (cw_in (M := 1) (by decide))) (by omega) (by rw [cat_sum]; omega) (by have := hk.1.1; omega) (by have := hk.1.2; omega) hd ?_
  rw [ee]
  exact hz
theorem sd_50 (C : FC M d p s m args meth c R) (hd : decode (mB M) pc = .ok (ins, len)) (hok : okO M pc 50 a b k sw ins len = true) (hk : stepK False (GO p l e R s m args below meth c Q D cy A ad0 h0 M) (RE p l e R s m args below meth c Q D cy A ad0 h0 M) (CA d) dfO nF (50, pc + len, a, b, k, sw) ls st h) : GO p l e R s m args below meth c Q D cy A ad0 h0 M pc ls st h := by
  obtain ⟨hx, hb, hml, hown, hts, hnw, hao, hlocks, hret, hini, hfr, hlo⟩ := C
  replace hk := pI_ex hk
  obtain ⟨y, st, rfl, hk⟩ := hk
  replace hk := pI_ex hk
  obtain ⟨x, st, rfl, hk⟩ := hk
  replace hk := if_ex hk
  obtain ⟨hw8, hk⟩ := hk
  refine ⟨hk.1, fun ad lsA H locs hAG hSA hL hLW hSW hW => ?_⟩
  have hyr : r32 y := SW_h hSW
  have hxr : r32 x := SW_h (SW_t hSW)
  have hz := hk.2 ad lsA H locs hAG hSA hL hLW (SW_c (v := .inl (min x y)) (by show r32 (min x y); unfold r32 at *; omega) (SW_t (SW_t hSW))) hW
  have ee : (if Int32.ofInt y < Int32.ofInt x then Int32.ofInt y else Int32.ofInt x) = Int32.ofInt (min x y) := by
    by_cases q : y < x
    · rw [if_pos ((l32 hyr hxr).mpr q), Int.min_eq_right (by omega)]
    · rw [if_neg (fun z => q ((l32 hyr hxr).mp z)), Int.min_eq_left (by omega)]
  cases ins <;> first | (cases hok; done) | skip
  rw [okO, Bool.and_eq_true] at hok
  obtain ⟨h1, h2⟩ := hok
  obtain rfl := of_decide_eq_true h1
  refine va_mmin hx hb (hml.trans hL.2.1.symm) hown (hts _ (mlk_ok h2).1) (hts _ (st_in (M := 2) (by decide) rfl)) (hts _ (ini_in (c := 12) (by decide) (by decide))) (hts _ (cw_in (M := 2) (by decide))) (by omega) (by rw [cat_sum]; omega) (by have := hk.1.1; omega) (by have := hk.1.2; omega) hd ?_
  rw [ee]
  exact hz
theorem sd_51 (C : FC M d p s m args meth c R) (hd : decode (mB M) pc = .ok (ins, len)) (hok : okO M pc 51 a b k sw ins len = true) (hk : stepK False (GO p l e R s m args below meth c Q D cy A ad0 h0 M) (RE p l e R s m args below meth c Q D cy A ad0 h0 M) (CA d) dfO nF (51, pc + len, a, b, k, sw) ls st h) : GO p l e R s m args below meth c Q D cy A ad0 h0 M pc ls st h := by
  obtain ⟨hx, hb, hml, hown, hts, hnw, hao, hlocks, hret, hini, hfr, hlo⟩ := C
  replace hk := pI_ex hk
  obtain ⟨x, st, rfl, hk⟩ := hk
  replace hk := if_ex hk
  obtain ⟨hw8, hk⟩ := hk
  refine ⟨hk.1, fun ad lsA H locs hAG hSA hL hLW hSW hW => ?_⟩
  have hxr : r32 x := SW_h hSW
  have hz := hk.2 ad lsA H locs hAG hSA hL hLW (SW_c (v := .inl (w32 (if 0 ≤ x then x else -x))) (w32_r _) (SW_t hSW)) hW
  have ee : (if 0 ≤ Int32.ofInt x then Int32.ofInt x else 0 - Int32.ofInt x) = Int32.ofInt (w32 (if 0 ≤ x then x else -x)) := by
    rw [i32_w]
    by_cases q : 0 ≤ x
    · rw [if_pos (show (0 : Int32) ≤ Int32.ofInt x from (le32 r32_0 hxr).mpr q), if_pos q]
    · rw [if_neg (show ¬ (0 : Int32) ≤ Int32.ofInt x from fun z => q ((le32 r32_0 hxr).mp z)), if_neg q, Int32.ofInt_neg]
      exact Int32.zero_sub _
  cases ins <;> first | (cases hok; done) | skip
  rw [okO, Bool.and_eq_true] at hok
  obtain ⟨h1, h2⟩ := hok
  obtain rfl := of_decide_eq_true h1
  refine va_mabs hx hb (hml.trans hL.2.1.symm) hown (hts _ (mlk_ok h2).1) (hts _ (st_in (M := 3) (by decide) rfl)) (hts _ (ini_in (c := 12) (by decide) (by decide))) (hts _ (cw_in (M := 3) (by decide))) (by omega) (by rw [cat_sum]; omega) (by have := hk.1.1; omega) (by have := hk.1.2; omega) hd ?_
  rw [ee]
  exact hz
end SD5
