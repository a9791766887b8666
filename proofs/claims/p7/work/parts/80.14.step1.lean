/-! locals -/
def prs (ad : Nat → Nat) (ls : List (Option AV)) : List (Nat × Value) := (List.range ls.length).filterMap (fun i => match ls[i]? with
  | some (some v) => some (i, trV ad v)
  | _ => none)
theorem prs_in {ad : Nat → Nat} {ls : List (Option AV)} {i : Nat} {v : AV} (h : ls[i]? = some (some v)) : (i, trV ad v) ∈ prs ad ls := by
  refine List.mem_filterMap.mpr ⟨i, List.mem_range.mpr (List.getElem?_eq_some_iff.mp h).1, ?_⟩
  rw [h]
theorem prs_of {ad : Nat → Nat} {ls : List (Option AV)} {q : Nat × Value} (h : q ∈ prs ad ls) : ∃ v, ls[q.1]? = some (some v) ∧ q.2 = trV ad v := by
  obtain ⟨i, -, hi⟩ := List.mem_filterMap.mp h
  split at hi
  · rename_i v hv
    cases hi
    exact ⟨v, hv, rfl⟩
  · cases hi
theorem LV.has {ad : Nat → Nat} {lsA : Array Slot} {n : Nat} {ls : List (Option AV)} (hL : LV ad lsA n ls) : lv_has lsA n (prs ad ls) := by
  refine ⟨hL.2.1, hL.2.2.1, fun q hq => ?_⟩
  obtain ⟨v, h1, h2⟩ := prs_of hq
  rw [h2]
  exact hL.2.2.2 _ v h1
theorem cat_tr {ad : Nat → Nat} {v : AV} (h : (trV ad v).category = 2) : ∃ z, v = .inr (.inl z) := by
  match v, h with
  | .inl _, h => cases h
  | .inr (.inl z), _ => exact ⟨z, rfl⟩
  | .inr (.inr none), h => cases h
  | .inr (.inr (some _)), h => cases h
theorem cat_trA (ad : Nat → Nat) (v : AV) : (trV ad v).category = catA v := by
  match v with
  | .inl _ => rfl
  | .inr (.inl z) => rfl
  | .inr (.inr none) => rfl
  | .inr (.inr (some _)) => rfl
theorem okSt_lt {ls : List (Option AV)} {i : Nat} (h : okSt ls i = true) : i < ls.length := by
  unfold okSt at h
  split at h
  · exact of_decide_eq_true h
  · split at h
    · cases h
    · exact of_decide_eq_true h
theorem okSt_no {ls : List (Option AV)} {j : Nat} {z : Int} (h : okSt ls (j + 1) = true) : ls[j]? ≠ some (some (.inr (.inl z))) := by
  intro hz
  unfold okSt at h
  dsimp only at h
  rw [hz] at h
  cases h
theorem LV_store {ad : Nat → Nat} {lsA ls' : Array Slot} {n i : Nat} {ls : List (Option AV)} {v : AV} (hL : LV ad lsA n ls) (ho : okSt ls i = true) (h' : lv_has ls' n ((i, trV ad v) :: (prs ad ls).filter (fun q => !(q.1 == i) && !(q.1 + 1 == i && q.2.category == 2)))) : LV ad ls' n (ls.set i (some v)) := by
  refine ⟨by rw [List.length_set]; exact hL.1, h'.1, h'.2.1, fun j w hj => ?_⟩
  rw [List.getElem?_set] at hj
  by_cases e : i = j
  · subst e
    rw [if_pos rfl, if_pos (okSt_lt ho)] at hj
    cases hj
    exact h'.2.2 _ List.mem_cons_self
  · rw [if_neg e] at hj
    refine h'.2.2 (j, trV ad w) (List.mem_cons_of_mem _ (List.mem_filter.mpr ⟨prs_in hj, ?_⟩))
    rw [Bool.and_eq_true]
    refine ⟨by simp [show ¬ j = i from fun z => e z.symm], ?_⟩
    rw [Bool.not_eq_true', Bool.and_eq_false_iff]
    by_cases e2 : j + 1 = i
    · right
      subst e2
      cases hc : ((trV ad w).category == 2)
      · rfl
      · obtain ⟨z, rfl⟩ := cat_tr (by simpa using hc)
        exact absurd hj (okSt_no ho)
    · left; simpa using e2
theorem LV_store2 {ad : Nat → Nat} {lsA ls' : Array Slot} {n i : Nat} {ls : List (Option AV)} {v : AV} (hL : LV ad lsA n ls) (ho : okSt ls i = true) (h' : lv_has ls' n ((i, trV ad v) :: (prs ad ls).filter (fun q => !(q.1 == i) && (!(q.1 == i + 1) && !(q.1 + 1 == i && q.2.category == 2))))) : LV ad ls' n ((ls.set i (some v)).set (i + 1) none) := by
  refine ⟨by rw [List.length_set, List.length_set]; exact hL.1, h'.1, h'.2.1, fun j w hj => ?_⟩
  rw [List.getElem?_set] at hj
  by_cases e1 : i + 1 = j
  · subst e1
    rw [if_pos rfl] at hj
    split at hj <;> cases hj
  rw [if_neg e1, List.getElem?_set] at hj
  by_cases e : i = j
  · subst e
    rw [if_pos rfl, if_pos (okSt_lt ho)] at hj
    cases hj
    exact h'.2.2 _ List.mem_cons_self
  · rw [if_neg e] at hj
    refine h'.2.2 (j, trV ad w) (List.mem_cons_of_mem _ (List.mem_filter.mpr ⟨prs_in hj, ?_⟩))
    rw [Bool.and_eq_true]
    refine ⟨by simp [show ¬ j = i from fun z => e z.symm], ?_⟩
    rw [Bool.and_eq_true]
    refine ⟨by simp [show ¬ j = i + 1 from fun z => e1 z.symm], ?_⟩
    rw [Bool.not_eq_true', Bool.and_eq_false_iff]
    by_cases e2 : j + 1 = i
    · right
      subst e2
      cases hc : ((trV ad w).category == 2)
      · rfl
      · obtain ⟨z, rfl⟩ := cat_tr (by simpa using hc)
        exact absurd hj (okSt_no ho)
    · left; simpa using e2
theorem LW_store {n i : Nat} {ls : List (Option AV)} {v : AV} (h : LW n ls) (hv : wfv n v) : LW n (ls.set i (some v)) := by
  intro j w hj
  rw [List.getElem?_set] at hj
  split at hj
  · split at hj
    · cases hj; exact hv
    · cases hj
  · exact h j w hj
theorem LW_none {n i : Nat} {ls : List (Option AV)} (h : LW n ls) : LW n (ls.set i none) := by
  intro j w hj
  rw [List.getElem?_set] at hj
  split at hj
  · split at hj <;> cases hj
  · exact h j w hj
theorem SW_c {n : Nat} {v : AV} {st : List AV} (hv : wfv n v) (h : SW n st) : SW n (v :: st) := by
  intro w hw
  rcases List.mem_cons.mp hw with e | e
  · subst e; exact hv
  · exact h w e
theorem SW_h {n : Nat} {v : AV} {st : List AV} (h : SW n (v :: st)) : wfv n v := h v List.mem_cons_self
theorem SW_t {n : Nat} {v : AV} {st : List AV} (h : SW n (v :: st)) : SW n st := fun w hw => h w (List.mem_cons_of_mem _ hw)
section SD1
variable {p : Program} {l : Launch} {e : Env} {R : Room} {s : State} {m : MethodId} {args : Array Value} {below : List Frame} {meth : Method} {c : Code} {Q : State → Prop} {D : va_G} {cy : Nat → ClassId} {A : Nat → Prop} {ad0 : Nat → Nat} {h0 : AH} {M d : Nat} {pc len a b : Nat} {k : Int} {sw : List (Int × Nat)} {ins : Instr} {ls : List (Option AV)} {st : List AV} {h : AH}
theorem sd_0 (C : FC M d p s m args meth c R) (hd : decode (mB M) pc = .ok (ins, len)) (hok : okO M pc 0 a b k sw ins len = true) (hk : stepK False (GO p l e R s m args below meth c Q D cy A ad0 h0 M) (RE p l e R s m args below meth c Q D cy A ad0 h0 M) (CA d) dfO nF (0, pc + len, a, b, k, sw) ls st h) : GO p l e R s m args below meth c Q D cy A ad0 h0 M pc ls st h := by
  obtain ⟨hx, hb, hml, hown, hts, hnw, hao, hlocks, hret, hini, hfr, hlo⟩ := C
  have hk : GO p l e R s m args below meth c Q D cy A ad0 h0 M (pc + len) ls (.inl k :: st) h := hk
  have hr : r32 k := by
    cases ins <;> first | (cases hok; done) | skip
    case iconst => exact (of_decide_eq_true hok).2.2
    case bipush => have := (of_decide_eq_true hok); unfold r32; omega
    case sipush => have := (of_decide_eq_true hok); unfold r32; omega
    case ldc => rw [okO, Bool.and_eq_true] at hok; exact (csk_ok hok.2).2
    case ldc_w => rw [okO, Bool.and_eq_true] at hok; exact (csk_ok hok.2).2
  refine ⟨hk.1, fun ad lsA H locs hAG hSA hL hLW hSW hW => ?_⟩
  have hz := hk.2 ad lsA H locs hAG hSA hL hLW (SW_c (v := .inl k) hr hSW) hW
  cases ins <;> first | (cases hok; done) | skip
  case iconst i =>
    obtain ⟨rfl, rfl, -⟩ := of_decide_eq_true hok
    exact lv_iconst hx hb hd rfl hz
  case bipush i =>
    obtain ⟨rfl, rfl, h1, h2⟩ := of_decide_eq_true hok
    exact lv_bipush hx hb hd (Int32.toInt_inj.mp (by rw [Int8.toInt_toInt32, Int8.toInt_ofInt_of_le h1 (by omega), t32r hr])) hz
  case sipush i =>
    obtain ⟨rfl, rfl, h1, h2⟩ := of_decide_eq_true hok
    exact lv_sipush hx hb hd (Int32.toInt_inj.mp (by rw [Int16.toInt_toInt32, Int16.toInt_ofInt_of_le h1 (by omega), t32r hr])) hz
  case ldc i =>
    rw [okO, Bool.and_eq_true] at hok
    obtain ⟨h1, h2⟩ := hok
    obtain rfl := of_decide_eq_true h1
    exact lv_ldc hx hb hown (hts _ (csk_ok h2).1) hd hz
  case ldc_w i =>
    rw [okO, Bool.and_eq_true] at hok
    obtain ⟨h1, h2⟩ := hok
    obtain rfl := of_decide_eq_true h1
    exact lv_ldcw hx hb hown (hts _ (csk_ok h2).1) hd hz
theorem sd_1 (C : FC M d p s m args meth c R) (hd : decode (mB M) pc = .ok (ins, len)) (hok : okO M pc 1 a b k sw ins len = true) (hk : stepK False (GO p l e R s m args below meth c Q D cy A ad0 h0 M) (RE p l e R s m args below meth c Q D cy A ad0 h0 M) (CA d) dfO nF (1, pc + len, a, b, k, sw) ls st h) : GO p l e R s m args below meth c Q D cy A ad0 h0 M pc ls st h := by
  obtain ⟨hx, hb, hml, hown, hts, hnw, hao, hlocks, hret, hini, hfr, hlo⟩ := C
  have hk : GO p l e R s m args below meth c Q D cy A ad0 h0 M (pc + len) ls (.inr (.inl k) :: st) h := hk
  have hr : r64 k := by
    cases ins <;> first | (cases hok; done) | skip
    case lconst => have := (of_decide_eq_true hok); unfold r64; omega
    case ldc2_w => rw [okO, Bool.and_eq_true] at hok; exact (cslk_ok hok.2).2
  refine ⟨hk.1, fun ad lsA H locs hAG hSA hL hLW hSW hW => ?_⟩
  have hz := hk.2 ad lsA H locs hAG hSA hL hLW (SW_c (v := .inr (.inl k)) hr hSW) hW
  cases ins <;> first | (cases hok; done) | skip
  · rename_i i
    obtain ⟨rfl, rfl⟩ := of_decide_eq_true hok
    exact lv_lconst hx hb hd rfl hz
  · rw [okO, Bool.and_eq_true] at hok
    obtain ⟨h1, h2⟩ := hok
    obtain rfl := of_decide_eq_true h1
    exact lv_ldc2 hx hb hown (hts _ (cslk_ok h2).1) hd hz
theorem sd_2 (C : FC M d p s m args meth c R) (hd : decode (mB M) pc = .ok (ins, len)) (hok : okO M pc 2 a b k sw ins len = true) (hk : stepK False (GO p l e R s m args below meth c Q D cy A ad0 h0 M) (RE p l e R s m args below meth c Q D cy A ad0 h0 M) (CA d) dfO nF (2, pc + len, a, b, k, sw) ls st h) : GO p l e R s m args below meth c Q D cy A ad0 h0 M pc ls st h := by
  obtain ⟨hx, hb, hml, hown, hts, hnw, hao, hlocks, hret, hini, hfr, hlo⟩ := C
  obtain ⟨x, hl, hk⟩ := lI_ex hk
  refine ⟨hk.1, fun ad lsA H locs hAG hSA hL hLW hSW hW => ?_⟩
  have hz := hk.2 ad lsA H locs hAG hSA hL hLW (SW_c (v := .inl x) (hLW a _ hl) hSW) hW
  have hla := hL.2.2.2 a _ hl
  cases ins <;> first | (cases hok; done) | skip
  · obtain ⟨rfl, rfl⟩ := of_decide_eq_true hok
    exact lv_iload hx hb hd hla hz
  · obtain ⟨rfl, rfl⟩ := of_decide_eq_true hok
    exact lv_iload_n hx hb hd rfl hla hz
theorem sd_3 (C : FC M d p s m args meth c R) (hd : decode (mB M) pc = .ok (ins, len)) (hok : okO M pc 3 a b k sw ins len = true) (hk : stepK False (GO p l e R s m args below meth c Q D cy A ad0 h0 M) (RE p l e R s m args below meth c Q D cy A ad0 h0 M) (CA d) dfO nF (3, pc + len, a, b, k, sw) ls st h) : GO p l e R s m args below meth c Q D cy A ad0 h0 M pc ls st h := by
  obtain ⟨hx, hb, hml, hown, hts, hnw, hao, hlocks, hret, hini, hfr, hlo⟩ := C
  obtain ⟨x, hl, hk⟩ := lL_ex hk
  refine ⟨hk.1, fun ad lsA H locs hAG hSA hL hLW hSW hW => ?_⟩
  have hz := hk.2 ad lsA H locs hAG hSA hL hLW (SW_c (v := .inr (.inl x)) (hLW a _ hl) hSW) hW
  have hla := hL.2.2.2 a _ hl
  cases ins <;> first | (cases hok; done) | skip
  · obtain ⟨rfl, rfl⟩ := of_decide_eq_true hok
    exact lv_lload hx hb hd hla hz
  · obtain ⟨rfl, rfl⟩ := of_decide_eq_true hok
    exact lv_lload_n hx hb hd rfl hla hz
theorem sd_4 (C : FC M d p s m args meth c R) (hd : decode (mB M) pc = .ok (ins, len)) (hok : okO M pc 4 a b k sw ins len = true) (hk : stepK False (GO p l e R s m args below meth c Q D cy A ad0 h0 M) (RE p l e R s m args below meth c Q D cy A ad0 h0 M) (CA d) dfO nF (4, pc + len, a, b, k, sw) ls st h) : GO p l e R s m args below meth c Q D cy A ad0 h0 M pc ls st h := by
  obtain ⟨hx, hb, hml, hown, hts, hnw, hao, hlocks, hret, hini, hfr, hlo⟩ := C
  obtain ⟨x, hl, hk⟩ := lR_ex hk
  refine ⟨hk.1, fun ad lsA H locs hAG hSA hL hLW hSW hW => ?_⟩
  have hz := hk.2 ad lsA H locs hAG hSA hL hLW (SW_c (v := .inr (.inr (some x))) (hLW a _ hl) hSW) hW
  have hla := hL.2.2.2 a _ hl
  cases ins <;> first | (cases hok; done) | skip
  · obtain ⟨rfl, rfl⟩ := of_decide_eq_true hok
    exact lv_aload hx hb hd hla hz
  · obtain ⟨rfl, rfl⟩ := of_decide_eq_true hok
    exact lv_aload_n hx hb hd rfl hla hz
theorem sd_5 (C : FC M d p s m args meth c R) (hd : decode (mB M) pc = .ok (ins, len)) (hok : okO M pc 5 a b k sw ins len = true) (hk : stepK False (GO p l e R s m args below meth c Q D cy A ad0 h0 M) (RE p l e R s m args below meth c Q D cy A ad0 h0 M) (CA d) dfO nF (5, pc + len, a, b, k, sw) ls st h) : GO p l e R s m args below meth c Q D cy A ad0 h0 M pc ls st h := by
  obtain ⟨hx, hb, hml, hown, hts, hnw, hao, hlocks, hret, hini, hfr, hlo⟩ := C
  obtain ⟨x, st, rfl, hk⟩ := pI_ex hk
  obtain ⟨ho, hk⟩ := if_ex hk
  refine ⟨hk.1, fun ad lsA H locs hAG hSA hL hLW hSW hW => ?_⟩
  have hz := fun (ls' : Array Slot) hL' => hk.2 ad ls' H locs hAG hSA hL' (LW_store (i := a) hLW (SW_h hSW)) (SW_t hSW) hW
  have hn : a < mL M := by rw [← hL.1]; exact okSt_lt ho
  cases ins <;> first | (cases hok; done) | skip
  · obtain ⟨rfl, rfl⟩ := of_decide_eq_true hok
    exact lv_istore hx hb hd hL.has hn rfl (fun ls' h' => hz ls' (LV_store (v := .inl x) hL ho h'))
  · obtain ⟨rfl, rfl⟩ := of_decide_eq_true hok
    exact lv_istore_n hx hb hd rfl hL.has hn rfl (fun ls' h' => hz ls' (LV_store (v := .inl x) hL ho h'))
theorem sd_7 (C : FC M d p s m args meth c R) (hd : decode (mB M) pc = .ok (ins, len)) (hok : okO M pc 7 a b k sw ins len = true) (hk : stepK False (GO p l e R s m args below meth c Q D cy A ad0 h0 M) (RE p l e R s m args below meth c Q D cy A ad0 h0 M) (CA d) dfO nF (7, pc + len, a, b, k, sw) ls st h) : GO p l e R s m args below meth c Q D cy A ad0 h0 M pc ls st h := by
  obtain ⟨hx, hb, hml, hown, hts, hnw, hao, hlocks, hret, hini, hfr, hlo⟩ := C
  obtain ⟨x, st, rfl, hk⟩ := pR_ex hk
  obtain ⟨ho, hk⟩ := if_ex hk
  refine ⟨hk.1, fun ad lsA H locs hAG hSA hL hLW hSW hW => ?_⟩
  have hz := fun (ls' : Array Slot) hL' => hk.2 ad ls' H locs hAG hSA hL' (LW_store (i := a) hLW (SW_h hSW)) (SW_t hSW) hW
  have hn : a < mL M := by rw [← hL.1]; exact okSt_lt ho
  cases ins <;> first | (cases hok; done) | skip
  · obtain ⟨rfl, rfl⟩ := of_decide_eq_true hok
    exact lv_astore hx hb hd hL.has hn rfl (fun ls' h' => hz ls' (LV_store (v := .inr (.inr (some x))) hL ho h'))
  · obtain ⟨rfl, rfl⟩ := of_decide_eq_true hok
    exact lv_astore_n hx hb hd rfl hL.has hn rfl (fun ls' h' => hz ls' (LV_store (v := .inr (.inr (some x))) hL ho h'))
theorem sd_6 (C : FC M d p s m args meth c R) (hd : decode (mB M) pc = .ok (ins, len)) (hok : okO M pc 6 a b k sw ins len = true) (hk : stepK False (GO p l e R s m args below meth c Q D cy A ad0 h0 M) (RE p l e R s m args below meth c Q D cy A ad0 h0 M) (CA d) dfO nF (6, pc + len, a, b, k, sw) ls st h) : GO p l e R s m args below meth c Q D cy A ad0 h0 M pc ls st h := by
  obtain ⟨hx, hb, hml, hown, hts, hnw, hao, hlocks, hret, hini, hfr, hlo⟩ := C
  obtain ⟨x, st, rfl, hk⟩ := pL_ex hk
  obtain ⟨⟨ho, hn1⟩, hk⟩ := if_ex hk
  refine ⟨hk.1, fun ad lsA H locs hAG hSA hL hLW hSW hW => ?_⟩
  have hz := fun (ls' : Array Slot) hL' => hk.2 ad ls' H locs hAG hSA hL' (LW_none (LW_store (i := a) hLW (SW_h hSW))) (SW_t hSW) hW
  have hn : a + 1 < mL M := by rw [← hL.1]; exact hn1
  cases ins <;> first | (cases hok; done) | skip
  · obtain ⟨rfl, rfl⟩ := of_decide_eq_true hok
    exact lv_lstore hx hb hd hL.has hn rfl (fun ls' h' => hz ls' (LV_store2 (v := .inr (.inl x)) hL ho h'))
  · obtain ⟨rfl, rfl⟩ := of_decide_eq_true hok
    exact lv_lstore_n hx hb hd rfl hL.has hn rfl (fun ls' h' => hz ls' (LV_store2 (v := .inr (.inl x)) hL ho h'))
theorem sd_8 (C : FC M d p s m args meth c R) (hd : decode (mB M) pc = .ok (ins, len)) (hok : okO M pc 8 a b k sw ins len = true) (hk : stepK False (GO p l e R s m args below meth c Q D cy A ad0 h0 M) (RE p l e R s m args below meth c Q D cy A ad0 h0 M) (CA d) dfO nF (8, pc + len, a, b, k, sw) ls st h) : GO p l e R s m args below meth c Q D cy A ad0 h0 M pc ls st h := by
  obtain ⟨hx, hb, hml, hown, hts, hnw, hao, hlocks, hret, hini, hfr, hlo⟩ := C
  obtain ⟨x, hl, hk⟩ := lI_ex hk
  obtain ⟨ho, hk⟩ := if_ex hk
  refine ⟨hk.1, fun ad lsA H locs hAG hSA hL hLW hSW hW => ?_⟩
  have hz := fun (ls' : Array Slot) hL' => hk.2 ad ls' H locs hAG hSA hL' (LW_store (i := a) hLW (v := .inl (w32 (x + k))) (w32_r _)) hSW hW
  have hn : a < mL M := by rw [← hL.1]; exact okSt_lt ho
  cases ins <;> first | (cases hok; done) | skip
  obtain ⟨rfl, rfl, rfl, hr⟩ := of_decide_eq_true hok
  obtain ⟨j, hj⟩ := List.getElem?_of_mem (prs_in (ad := ad) hl)
  exact lv_iinc hx hb hd hL.has hj (by rw [← Int32.ofInt_add, ← i32_w]) hn rfl (fun ls' h' => hz ls' (LV_store (v := .inl (w32 (x + _))) hL ho h'))
end SD1
