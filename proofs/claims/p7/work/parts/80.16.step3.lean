section SD3
variable {p : Program} {l : Launch} {e : Env} {R : Room} {s : State} {m : MethodId} {args : Array Value} {below : List Frame} {meth : Method} {c : Code} {Q : State → Prop} {D : va_G} {cy : Nat → ClassId} {A : Nat → Prop} {ad0 : Nat → Nat} {h0 : AH} {M d : Nat} {pc len a b : Nat} {k : Int} {sw : List (Int × Nat)} {ins : Instr} {ls : List (Option AV)} {st : List AV} {h : AH}
theorem sd_20 (C : FC M d p s m args meth c R) (hd : decode (mB M) pc = .ok (ins, len)) (hok : okO M pc 20 a b k sw ins len = true) (hk : stepK False (GO p l e R s m args below meth c Q D cy A ad0 h0 M) (RE p l e R s m args below meth c Q D cy A ad0 h0 M) (CA d) dfO nF (20, pc + len, a, b, k, sw) ls st h) : GO p l e R s m args below meth c Q D cy A ad0 h0 M pc ls st h := by
  obtain ⟨hx, hb, hml, hown, hts, hnw, hao, hlocks, hret, hini, hfr, hlo⟩ := C
  replace hk := pI_ex hk
  obtain ⟨x, st, rfl, hk⟩ := hk
  cases ins <;> first | (cases hok; done) | skip
  rename_i cnd off
  obtain ⟨rfl, rfl, ht⟩ := of_decide_eq_true hok
  by_cases hc : cmpB (cN cnd) x 0 = true
  · rw [if_pos hc] at hk
    refine ⟨hk.1, fun ad lsA H locs hAG hSA hL hLW hSW hW => ?_⟩
    have hxr : r32 x := SW_h hSW
    have hz := hk.2 ad lsA H locs hAG hSA hL hLW (SW_t hSW) hW
    cases cnd
    · exact lv_if_eq hx hb hd ht (fun _ => hz) (fun q => absurd ((e32 hxr r32_0).mpr (of_decide_eq_true hc)) q)
    · exact lv_if_ne hx hb hd ht (fun _ => hz) (fun q => absurd ((e32 hxr r32_0).mp q) (of_decide_eq_true hc))
    · exact lv_if_lt hx hb hd ht (fun _ => hz) (fun q => absurd ((l32 hxr r32_0).mpr (of_decide_eq_true hc)) q)
    · exact lv_if_ge hx hb hd ht (fun _ => hz) (fun q => absurd ((le32 r32_0 hxr).mpr (of_decide_eq_true hc)) q)
    · exact lv_if_gt hx hb hd ht (fun _ => hz) (fun q => absurd ((l32 r32_0 hxr).mpr (of_decide_eq_true hc)) q)
    · exact lv_if_le hx hb hd ht (fun _ => hz) (fun q => absurd ((le32 hxr r32_0).mpr (of_decide_eq_true hc)) q)
  · rw [if_neg hc] at hk
    refine ⟨hk.1, fun ad lsA H locs hAG hSA hL hLW hSW hW => ?_⟩
    have hxr : r32 x := SW_h hSW
    have hz := hk.2 ad lsA H locs hAG hSA hL hLW (SW_t hSW) hW
    cases cnd
    · exact lv_if_eq hx hb hd ht (fun q => absurd (decide_eq_true ((e32 hxr r32_0).mp q)) hc) (fun _ => hz)
    · exact lv_if_ne hx hb hd ht (fun q => absurd (decide_eq_true (p := ¬ x = 0) (fun z => q ((e32 hxr r32_0).mpr z))) hc) (fun _ => hz)
    · exact lv_if_lt hx hb hd ht (fun q => absurd (decide_eq_true ((l32 hxr r32_0).mp q)) hc) (fun _ => hz)
    · exact lv_if_ge hx hb hd ht (fun q => absurd (decide_eq_true ((le32 r32_0 hxr).mp q)) hc) (fun _ => hz)
    · exact lv_if_gt hx hb hd ht (fun q => absurd (decide_eq_true ((l32 r32_0 hxr).mp q)) hc) (fun _ => hz)
    · exact lv_if_le hx hb hd ht (fun q => absurd (decide_eq_true ((le32 hxr r32_0).mp q)) hc) (fun _ => hz)
theorem sd_21 (C : FC M d p s m args meth c R) (hd : decode (mB M) pc = .ok (ins, len)) (hok : okO M pc 21 a b k sw ins len = true) (hk : stepK False (GO p l e R s m args below meth c Q D cy A ad0 h0 M) (RE p l e R s m args below meth c Q D cy A ad0 h0 M) (CA d) dfO nF (21, pc + len, a, b, k, sw) ls st h) : GO p l e R s m args below meth c Q D cy A ad0 h0 M pc ls st h := by
  obtain ⟨hx, hb, hml, hown, hts, hnw, hao, hlocks, hret, hini, hfr, hlo⟩ := C
  replace hk := pI_ex hk
  obtain ⟨y, st, rfl, hk⟩ := hk
  replace hk := pI_ex hk
  obtain ⟨x, st, rfl, hk⟩ := hk
  cases ins <;> first | (cases hok; done) | skip
  rename_i cnd off
  obtain ⟨rfl, rfl, ht⟩ := of_decide_eq_true hok
  by_cases hc : cmpB (cN cnd) x y = true
  · rw [if_pos hc] at hk
    refine ⟨hk.1, fun ad lsA H locs hAG hSA hL hLW hSW hW => ?_⟩
    have hyr : r32 y := SW_h hSW
    have hxr : r32 x := SW_h (SW_t hSW)
    have hz := hk.2 ad lsA H locs hAG hSA hL hLW (SW_t (SW_t hSW)) hW
    cases cnd
    · exact lv_icmp_eq hx hb hd ht (fun _ => hz) (fun q => absurd ((e32 hxr hyr).mpr (of_decide_eq_true hc)) q)
    · exact lv_icmp_ne hx hb hd ht (fun _ => hz) (fun q => absurd ((e32 hxr hyr).mp q) (of_decide_eq_true hc))
    · exact lv_icmp_lt hx hb hd ht (fun _ => hz) (fun q => absurd ((l32 hxr hyr).mpr (of_decide_eq_true hc)) q)
    · exact lv_icmp_ge hx hb hd ht (fun _ => hz) (fun q => absurd ((le32 hyr hxr).mpr (of_decide_eq_true hc)) q)
    · exact lv_icmp_gt hx hb hd ht (fun _ => hz) (fun q => absurd ((l32 hyr hxr).mpr (of_decide_eq_true hc)) q)
    · exact lv_icmp_le hx hb hd ht (fun _ => hz) (fun q => absurd ((le32 hxr hyr).mpr (of_decide_eq_true hc)) q)
  · rw [if_neg hc] at hk
    refine ⟨hk.1, fun ad lsA H locs hAG hSA hL hLW hSW hW => ?_⟩
    have hyr : r32 y := SW_h hSW
    have hxr : r32 x := SW_h (SW_t hSW)
    have hz := hk.2 ad lsA H locs hAG hSA hL hLW (SW_t (SW_t hSW)) hW
    cases cnd
    · exact lv_icmp_eq hx hb hd ht (fun q => absurd (decide_eq_true ((e32 hxr hyr).mp q)) hc) (fun _ => hz)
    · exact lv_icmp_ne hx hb hd ht (fun q => absurd (decide_eq_true (p := ¬ x = y) (fun z => q ((e32 hxr hyr).mpr z))) hc) (fun _ => hz)
    · exact lv_icmp_lt hx hb hd ht (fun q => absurd (decide_eq_true ((l32 hxr hyr).mp q)) hc) (fun _ => hz)
    · exact lv_icmp_ge hx hb hd ht (fun q => absurd (decide_eq_true ((le32 hyr hxr).mp q)) hc) (fun _ => hz)
    · exact lv_icmp_gt hx hb hd ht (fun q => absurd (decide_eq_true ((l32 hyr hxr).mp q)) hc) (fun _ => hz)
    · exact lv_icmp_le hx hb hd ht (fun q => absurd (decide_eq_true ((le32 hxr hyr).mp q)) hc) (fun _ => hz)
theorem sd_22 (C : FC M d p s m args meth c R) (hd : decode (mB M) pc = .ok (ins, len)) (hok : okO M pc 22 a b k sw ins len = true) (hk : stepK False (GO p l e R s m args below meth c Q D cy A ad0 h0 M) (RE p l e R s m args below meth c Q D cy A ad0 h0 M) (CA d) dfO nF (22, pc + len, a, b, k, sw) ls st h) : GO p l e R s m args below meth c Q D cy A ad0 h0 M pc ls st h := by
  obtain ⟨hx, hb, hml, hown, hts, hnw, hao, hlocks, hret, hini, hfr, hlo⟩ := C
  have hk : GO p l e R s m args below meth c Q D cy A ad0 h0 M a ls st h := hk
  refine ⟨hk.1, fun ad lsA H locs hAG hSA hL hLW hSW hW => ?_⟩
  cases ins <;> first | (cases hok; done) | skip
  obtain ⟨rfl, ht⟩ := of_decide_eq_true hok
  exact lv_goto hx hb hd ht (hk.2 ad lsA H locs hAG hSA hL hLW hSW hW)
theorem swF_in {x : Int} {d0 : Nat} : ∀ (sw : List (Int × Nat)) (lo : Int), sw.map (fun q => q.1) = (List.range sw.length).map (fun (i : Nat) => lo + (i : Int)) → lo ≤ x → x < lo + sw.length → ∃ q, sw[(x - lo).toNat]? = some q ∧ swF x d0 sw = q.2
  | [], lo, _, h1, h2 => by simp at h2; omega
  | (k0, t0) :: sw, lo, hk, h1, h2 => by
    rw [List.length_cons, List.range_succ_eq_map, List.map_cons, List.map_cons, List.map_map] at hk
    injection hk with e1 e2
    have e1 : k0 = lo := by simpa using e1
    by_cases hx : x = k0
    · refine ⟨(k0, t0), ?_, by rw [swF, if_pos hx]⟩
      have : (x - lo).toNat = 0 := by omega
      rw [this]; rfl
    · have e3 : sw.map (fun q => q.1) = (List.range sw.length).map (fun (i : Nat) => (lo + 1) + (i : Int)) := by
        rw [e2]
        apply List.map_congr_left
        intro i _
        simp only [Function.comp]
        omega
      obtain ⟨q, h3, h4⟩ := swF_in (x := x) (d0 := d0) sw (lo + 1) e3 (by omega) (by rw [List.length_cons] at h2; omega)
      refine ⟨q, ?_, by rw [swF, if_neg hx]; exact h4⟩
      have : (x - lo).toNat = (x - (lo + 1)).toNat + 1 := by omega
      rw [this, List.getElem?_cons_succ]; exact h3
theorem swF_out {x : Int} {d0 : Nat} : ∀ (sw : List (Int × Nat)) (lo : Int), sw.map (fun q => q.1) = (List.range sw.length).map (fun (i : Nat) => lo + (i : Int)) → (x < lo ∨ lo + sw.length ≤ x) → swF x d0 sw = d0
  | [], lo, _, _ => rfl
  | (k0, t0) :: sw, lo, hk, h => by
    rw [List.length_cons, List.range_succ_eq_map, List.map_cons, List.map_cons, List.map_map] at hk
    injection hk with e1 e2
    have e1 : k0 = lo := by simpa using e1
    rw [List.length_cons] at h
    have e3 : sw.map (fun q => q.1) = (List.range sw.length).map (fun (i : Nat) => (lo + 1) + (i : Int)) := by
      rw [e2]
      apply List.map_congr_left
      intro i _
      simp only [Function.comp]
      omega
    rw [swF, if_neg (by omega)]
    exact swF_out sw (lo + 1) e3 (by omega)
theorem swF_look {x : Int} {d0 pc : Nat} {dd : Int} (hd0 : (pc : Int) + dd = d0) : ∀ (sw : List (Int × Nat)), (pc : Int) + Op.lookupswitch.offset (sw.map (fun q => (q.1, (q.2 : Int) - pc))) dd x = (swF x d0 sw : Nat)
  | [] => by
    rw [List.map_nil, Op.lookupswitch.offset_nil]; exact hd0
  | (k0, t0) :: sw => by
    rw [List.map_cons, Op.lookupswitch.offset_cons, swF]
    by_cases h : x = k0
    · rw [if_pos h.symm, if_pos h]
      omega
    · rw [if_neg (fun z => h z.symm), if_neg h]
      exact swF_look hd0 sw
theorem sd_43 (C : FC M d p s m args meth c R) (hd : decode (mB M) pc = .ok (ins, len)) (hok : okO M pc 43 a b k sw ins len = true) (hk : stepK False (GO p l e R s m args below meth c Q D cy A ad0 h0 M) (RE p l e R s m args below meth c Q D cy A ad0 h0 M) (CA d) dfO nF (43, pc + len, a, b, k, sw) ls st h) : GO p l e R s m args below meth c Q D cy A ad0 h0 M pc ls st h := by
  obtain ⟨hx, hb, hml, hown, hts, hnw, hao, hlocks, hret, hini, hfr, hlo⟩ := C
  replace hk := pI_ex hk
  obtain ⟨x, st, rfl, hk⟩ := hk
  have hk : GO p l e R s m args below meth c Q D cy A ad0 h0 M (swF x a sw) ls st h := hk
  refine ⟨hk.1, fun ad lsA H locs hAG hSA hL hLW hSW hW => ?_⟩
  have hxr : r32 x := SW_h hSW
  have hz := hk.2 ad lsA H locs hAG hSA hL hLW (SW_t hSW) hW
  cases ins <;> first | (cases hok; done) | skip
  · rename_i dd ps
    rw [okO, Bool.and_eq_true] at hok
    obtain ⟨hok, hs⟩ := hok
    obtain ⟨ht, hp⟩ := of_decide_eq_true hok
    have hl := swF_look (x := x) ht sw
    rw [← hp] at hl
    exact lv_lookup hx hb hd hs rfl (by rw [show (Int32.ofInt x).toInt = x from t32r hxr]; exact hl) hz
  · rename_i dd lo hi offs
    obtain ⟨ht, hh, ho, hks⟩ := of_decide_eq_true hok
    by_cases hin : lo ≤ x ∧ x < lo + sw.length
    · obtain ⟨q, h1, h2⟩ := swF_in (d0 := a) sw lo hks hin.1 hin.2
      have e1 : offs[(x - lo).toNat]? = some ((q.2 : Int) - pc) := by
        rw [← Array.getElem?_toList, ho, List.getElem?_map, h1]; rfl
      exact lv_tableIn (off := (q.2 : Int) - pc) hx hb hd (by rw [t32r hxr]; omega) (by rw [t32r hxr]; omega) (by rw [t32r hxr]; exact e1) (by rw [h2]; omega) hz
    · have h2 := swF_out (x := x) (d0 := a) sw lo hks (by omega)
      exact lv_tableOut hx hb hd (by rw [t32r hxr]; omega) (by rw [h2]; exact ht) hz
theorem sd_39 (C : FC M d p s m args meth c R) (hd : decode (mB M) pc = .ok (ins, len)) (hok : okO M pc 39 a b k sw ins len = true) (hk : stepK False (GO p l e R s m args below meth c Q D cy A ad0 h0 M) (RE p l e R s m args below meth c Q D cy A ad0 h0 M) (CA d) dfO nF (39, pc + len, a, b, k, sw) ls st h) : GO p l e R s m args below meth c Q D cy A ad0 h0 M pc ls st h := by
  obtain ⟨hx, hb, hml, hown, hts, hnw, hao, hlocks, hret, hini, hfr, hlo⟩ := C
  match st, hk with
  | [], hk =>
    have hk : RE p l e R s m args below meth c Q D cy A ad0 h0 M none h := hk
    refine ⟨hk.1, fun ad lsA H locs hAG hSA hL hLW hSW hW => ?_⟩
    cases ins <;> first | (cases hok; done) | skip
    obtain ⟨rfl, hr⟩ := of_decide_eq_true hok
    exact hk.2 ad lsA H locs pc hAG hSA (fun _ h => by cases h) hW (Or.inl ⟨rfl, hd, hr⟩)
  | _ :: _, hk => exact hk.elim
theorem sd_40 (C : FC M d p s m args meth c R) (hd : decode (mB M) pc = .ok (ins, len)) (hok : okO M pc 40 a b k sw ins len = true) (hk : stepK False (GO p l e R s m args below meth c Q D cy A ad0 h0 M) (RE p l e R s m args below meth c Q D cy A ad0 h0 M) (CA d) dfO nF (40, pc + len, a, b, k, sw) ls st h) : GO p l e R s m args below meth c Q D cy A ad0 h0 M pc ls st h := by
  obtain ⟨hx, hb, hml, hown, hts, hnw, hao, hlocks, hret, hini, hfr, hlo⟩ := C
  match st, hk with
  | [.inl x], hk1 =>
    have hk2 := if_ex hk1
    obtain ⟨h01, hk3⟩ := hk2
    refine ⟨hk3.1, fun ad lsA H locs hAG hSA hL hLW hSW hW => ?_⟩
    have hxr : r32 x := SW_h hSW
    cases ins <;> first | (cases hok; done) | skip
    obtain ⟨rfl, hr⟩ := of_decide_eq_true hok
    refine hk3.2 ad lsA H locs pc hAG hSA (fun v h => by cases h; exact hxr) hW (Or.inr (Or.inl ⟨x, rfl, hd, ?_⟩))
    rcases hr with ⟨-, h2⟩ | ⟨h1, h2⟩
    · exact Or.inl h2
    · exact Or.inr ⟨h2, of_decide_eq_true (h01.resolve_left (by omega))⟩
  | [], hk => exact hk.elim
  | .inr _ :: _, hk => exact hk.elim
  | .inl _ :: _ :: _, hk => exact hk.elim
theorem sd_41 (C : FC M d p s m args meth c R) (hd : decode (mB M) pc = .ok (ins, len)) (hok : okO M pc 41 a b k sw ins len = true) (hk : stepK False (GO p l e R s m args below meth c Q D cy A ad0 h0 M) (RE p l e R s m args below meth c Q D cy A ad0 h0 M) (CA d) dfO nF (41, pc + len, a, b, k, sw) ls st h) : GO p l e R s m args below meth c Q D cy A ad0 h0 M pc ls st h := by
  obtain ⟨hx, hb, hml, hown, hts, hnw, hao, hlocks, hret, hini, hfr, hlo⟩ := C
  match st, hk with
  | [.inr (.inl x)], hk =>
    have hk : RE p l e R s m args below meth c Q D cy A ad0 h0 M (some (.inr (.inl x))) h := hk
    refine ⟨hk.1, fun ad lsA H locs hAG hSA hL hLW hSW hW => ?_⟩
    have hxr : r64 x := SW_h hSW
    cases ins <;> first | (cases hok; done) | skip
    obtain ⟨rfl, hr⟩ := of_decide_eq_true hok
    exact hk.2 ad lsA H locs pc hAG hSA (fun v h => by cases h; exact hxr) hW (Or.inr (Or.inr (Or.inl ⟨x, rfl, hd, hr⟩)))
  | [], hk => exact hk.elim
  | .inl _ :: _, hk => exact hk.elim
  | .inr (.inr _) :: _, hk => exact hk.elim
  | .inr (.inl _) :: _ :: _, hk => exact hk.elim
theorem sd_42 (C : FC M d p s m args meth c R) (hd : decode (mB M) pc = .ok (ins, len)) (hok : okO M pc 42 a b k sw ins len = true) (hk : stepK False (GO p l e R s m args below meth c Q D cy A ad0 h0 M) (RE p l e R s m args below meth c Q D cy A ad0 h0 M) (CA d) dfO nF (42, pc + len, a, b, k, sw) ls st h) : GO p l e R s m args below meth c Q D cy A ad0 h0 M pc ls st h := by
  obtain ⟨hx, hb, hml, hown, hts, hnw, hao, hlocks, hret, hini, hfr, hlo⟩ := C
  match st, hk with
  | [.inr (.inr (some x))], hk =>
    have hk : RE p l e R s m args below meth c Q D cy A ad0 h0 M (some (.inr (.inr (some x)))) h := hk
    refine ⟨hk.1, fun ad lsA H locs hAG hSA hL hLW hSW hW => ?_⟩
    have hxr := SW_h hSW
    cases ins <;> first | (cases hok; done) | skip
    rw [okO, Bool.and_eq_true] at hok
    obtain ⟨h1, h2⟩ := hok
    obtain rfl := of_decide_eq_true h1
    refine hk.2 ad lsA H locs pc hAG hSA (fun v h => by cases h; exact hxr) hW (Or.inr (Or.inr (Or.inr ⟨x, rfl, hd, ?_⟩)))
    split at h2
    · rename_i n hn; exact ⟨n, hn⟩
    · cases h2
  | [], hk => exact hk.elim
  | .inl _ :: _, hk => exact hk.elim
  | .inr (.inl _) :: _, hk => exact hk.elim
  | .inr (.inr none) :: _, hk => exact hk.elim
  | .inr (.inr (some _)) :: _ :: _, hk => exact hk.elim
end SD3
