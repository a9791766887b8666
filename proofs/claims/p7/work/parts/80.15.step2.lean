section SD2
variable {p : Program} {l : Launch} {e : Env} {R : Room} {s : State} {m : MethodId} {args : Array Value} {below : List Frame} {meth : Method} {c : Code} {Q : State → Prop} {D : va_G} {cy : Nat → ClassId} {A : Nat → Prop} {ad0 : Nat → Nat} {h0 : AH} {M d : Nat} {pc len a b : Nat} {k : Int} {sw : List (Int × Nat)} {ins : Instr} {ls : List (Option AV)} {st : List AV} {h : AH}
theorem sd_9 (C : FC M d p s m args meth c R) (hd : decode (mB M) pc = .ok (ins, len)) (hok : okO M pc 9 a b k sw ins len = true) (hk : stepK False (GO p l e R s m args below meth c Q D cy A ad0 h0 M) (RE p l e R s m args below meth c Q D cy A ad0 h0 M) (CA d) dfO nF (9, pc + len, a, b, k, sw) ls st h) : GO p l e R s m args below meth c Q D cy A ad0 h0 M pc ls st h := by
  obtain ⟨hx, hb, hml, hown, hts, hnw, hao, hlocks, hret, hini, hfr, hlo⟩ := C
  replace hk := pI_ex hk
  obtain ⟨y, st, rfl, hk⟩ := hk
  replace hk := pI_ex hk
  obtain ⟨x, st, rfl, hk⟩ := hk
  replace hk := oI_ex hk
  obtain ⟨z, hz, hk⟩ := hk
  refine ⟨hk.1, fun ad lsA H locs hAG hSA hL hLW hSW hW => ?_⟩
  have hy : r32 y := SW_h hSW
  have hxr : r32 x := SW_h (SW_t hSW)
  have hg := fun (hr : r32 z) => hk.2 ad lsA H locs hAG hSA hL hLW (SW_c (v := .inl z) hr (SW_t (SW_t hSW))) hW
  cases ins <;> first | (cases hok; done) | skip
  · obtain ⟨rfl, rfl⟩ := of_decide_eq_true hok
    cases hz
    exact lv_iadd hx hb hd (by rw [← Int32.ofInt_add, ← i32_w]; exact hg (w32_r _))
  · obtain ⟨rfl, rfl⟩ := of_decide_eq_true hok
    cases hz
    exact lv_iand hx hb hd (by rw [← i32_and]; exact hg (bv32 _))
  · obtain ⟨rfl, rfl⟩ := of_decide_eq_true hok
    have hz : (if y = 0 then none else some (w32 (x.tdiv y))) = some z := hz
    by_cases h0y : y = 0
    · rw [if_pos h0y] at hz; cases hz
    · rw [if_neg h0y] at hz
      cases hz
      refine lv_idiv hx hb hd (fun q => h0y ((e32 hy r32_0).mp q)) ?_
      rw [← i32_div hxr hy]
      exact hg (w32_r _)
  · obtain ⟨rfl, rfl⟩ := of_decide_eq_true hok
    cases hz
    exact lv_imul hx hb hd (by rw [← Int32.ofInt_mul, ← i32_w]; exact hg (w32_r _))
  · obtain ⟨rfl, rfl⟩ := of_decide_eq_true hok
    cases hz
    exact lv_ior hx hb hd (by rw [← i32_or]; exact hg (bv32 _))
  · obtain ⟨rfl, rfl⟩ := of_decide_eq_true hok
    have hz : (if y = 0 then none else some (x.tmod y)) = some z := hz
    by_cases h0y : y = 0
    · rw [if_pos h0y] at hz; cases hz
    · rw [if_neg h0y] at hz
      cases hz
      refine lv_irem hx hb hd (fun q => h0y ((e32 hy r32_0).mp q)) ?_
      rw [← i32_rem hxr hy]
      exact hg (tmod_r32 hxr)
  · obtain ⟨rfl, rfl⟩ := of_decide_eq_true hok
    cases hz
    exact lv_ishl hx hb hd (by rw [← i32_shl _ _ hy]; exact hg (w32_r _))
  · obtain ⟨rfl, rfl⟩ := of_decide_eq_true hok
    cases hz
    exact lv_ishr hx hb hd (by rw [← i32_shr _ _ hxr hy]; exact hg (ishr_r hxr))
  · obtain ⟨rfl, rfl⟩ := of_decide_eq_true hok
    cases hz
    exact lv_isub hx hb hd (by rw [← Int32.ofInt_sub, ← i32_w]; exact hg (w32_r _))
  · obtain ⟨rfl, rfl⟩ := of_decide_eq_true hok
    cases hz
    exact lv_iushr hx hb hd (i32_ushr _ _ hy) (hg (w32_r _))
  · obtain ⟨rfl, rfl⟩ := of_decide_eq_true hok
    cases hz
    exact lv_ixor hx hb hd (by rw [← i32_xor]; exact hg (bv32 _))
theorem sd_10 (C : FC M d p s m args meth c R) (hd : decode (mB M) pc = .ok (ins, len)) (hok : okO M pc 10 a b k sw ins len = true) (hk : stepK False (GO p l e R s m args below meth c Q D cy A ad0 h0 M) (RE p l e R s m args below meth c Q D cy A ad0 h0 M) (CA d) dfO nF (10, pc + len, a, b, k, sw) ls st h) : GO p l e R s m args below meth c Q D cy A ad0 h0 M pc ls st h := by
  obtain ⟨hx, hb, hml, hown, hts, hnw, hao, hlocks, hret, hini, hfr, hlo⟩ := C
  replace hk := pI_ex hk
  obtain ⟨x, st, rfl, hk⟩ := hk
  refine ⟨hk.1, fun ad lsA H locs hAG hSA hL hLW hSW hW => ?_⟩
  cases ins <;> first | (cases hok; done) | skip
  obtain rfl := of_decide_eq_true hok
  exact lv_ineg hx hb hd (by rw [← Int32.ofInt_neg, ← i32_w]; exact hk.2 ad lsA H locs hAG hSA hL hLW (SW_c (v := .inl (w32 (-x))) (w32_r _) (SW_t hSW)) hW)
theorem sd_11 (C : FC M d p s m args meth c R) (hd : decode (mB M) pc = .ok (ins, len)) (hok : okO M pc 11 a b k sw ins len = true) (hk : stepK False (GO p l e R s m args below meth c Q D cy A ad0 h0 M) (RE p l e R s m args below meth c Q D cy A ad0 h0 M) (CA d) dfO nF (11, pc + len, a, b, k, sw) ls st h) : GO p l e R s m args below meth c Q D cy A ad0 h0 M pc ls st h := by
  obtain ⟨hx, hb, hml, hown, hts, hnw, hao, hlocks, hret, hini, hfr, hlo⟩ := C
  replace hk := pL_ex hk
  obtain ⟨y, st, rfl, hk⟩ := hk
  replace hk := pL_ex hk
  obtain ⟨x, st, rfl, hk⟩ := hk
  replace hk := oI_ex hk
  obtain ⟨z, hz, hk⟩ := hk
  refine ⟨hk.1, fun ad lsA H locs hAG hSA hL hLW hSW hW => ?_⟩
  have hy : r64 y := SW_h hSW
  have hxr : r64 x := SW_h (SW_t hSW)
  have hg := fun (hr : r64 z) => hk.2 ad lsA H locs hAG hSA hL hLW (SW_c (v := .inr (.inl z)) hr (SW_t (SW_t hSW))) hW
  cases ins <;> first | (cases hok; done) | skip
  · obtain ⟨rfl, rfl⟩ := of_decide_eq_true hok
    cases hz
    exact lv_ladd hx hb hd (by rw [← Int64.ofInt_add, ← i64_w]; exact hg (w64_r _))
  · obtain ⟨rfl, rfl⟩ := of_decide_eq_true hok
    cases hz
    exact lv_land hx hb hd (by rw [← i64_and]; exact hg (bv64 _))
  · obtain ⟨rfl, rfl⟩ := of_decide_eq_true hok
    have hz : (if y = 0 then none else some (w64 (x.tdiv y))) = some z := hz
    by_cases h0y : y = 0
    · rw [if_pos h0y] at hz; cases hz
    · rw [if_neg h0y] at hz
      cases hz
      refine lv_ldiv hx hb hd (fun q => h0y ((e64 hy r64_0).mp q)) ?_
      rw [← i64_div hxr hy]
      exact hg (w64_r _)
  · obtain ⟨rfl, rfl⟩ := of_decide_eq_true hok
    cases hz
    exact lv_lmul hx hb hd (by rw [← Int64.ofInt_mul, ← i64_w]; exact hg (w64_r _))
  · obtain ⟨rfl, rfl⟩ := of_decide_eq_true hok
    cases hz
    exact lv_lor hx hb hd (by rw [← i64_or]; exact hg (bv64 _))
  · obtain ⟨rfl, rfl⟩ := of_decide_eq_true hok
    have hz : (if y = 0 then none else some (x.tmod y)) = some z := hz
    by_cases h0y : y = 0
    · rw [if_pos h0y] at hz; cases hz
    · rw [if_neg h0y] at hz
      cases hz
      refine lv_lrem hx hb hd (fun q => h0y ((e64 hy r64_0).mp q)) ?_
      rw [← i64_rem hxr hy]
      exact hg (tmod_r64 hxr)
  · obtain ⟨rfl, rfl⟩ := of_decide_eq_true hok
    cases hz
    exact lv_lsub hx hb hd (by rw [← Int64.ofInt_sub, ← i64_w]; exact hg (w64_r _))
theorem sd_12 (C : FC M d p s m args meth c R) (hd : decode (mB M) pc = .ok (ins, len)) (hok : okO M pc 12 a b k sw ins len = true) (hk : stepK False (GO p l e R s m args below meth c Q D cy A ad0 h0 M) (RE p l e R s m args below meth c Q D cy A ad0 h0 M) (CA d) dfO nF (12, pc + len, a, b, k, sw) ls st h) : GO p l e R s m args below meth c Q D cy A ad0 h0 M pc ls st h := by
  obtain ⟨hx, hb, hml, hown, hts, hnw, hao, hlocks, hret, hini, hfr, hlo⟩ := C
  replace hk := pL_ex hk
  obtain ⟨x, st, rfl, hk⟩ := hk
  refine ⟨hk.1, fun ad lsA H locs hAG hSA hL hLW hSW hW => ?_⟩
  cases ins <;> first | (cases hok; done) | skip
  obtain rfl := of_decide_eq_true hok
  exact lv_lneg hx hb hd (by rw [← Int64.ofInt_neg, ← i64_w]; exact hk.2 ad lsA H locs hAG hSA hL hLW (SW_c (v := .inr (.inl (w64 (-x)))) (w64_r _) (SW_t hSW)) hW)
theorem sd_13 (C : FC M d p s m args meth c R) (hd : decode (mB M) pc = .ok (ins, len)) (hok : okO M pc 13 a b k sw ins len = true) (hk : stepK False (GO p l e R s m args below meth c Q D cy A ad0 h0 M) (RE p l e R s m args below meth c Q D cy A ad0 h0 M) (CA d) dfO nF (13, pc + len, a, b, k, sw) ls st h) : GO p l e R s m args below meth c Q D cy A ad0 h0 M pc ls st h := by
  obtain ⟨hx, hb, hml, hown, hts, hnw, hao, hlocks, hret, hini, hfr, hlo⟩ := C
  replace hk := pI_ex hk
  obtain ⟨y, st, rfl, hk⟩ := hk
  replace hk := pL_ex hk
  obtain ⟨x, st, rfl, hk⟩ := hk
  replace hk := oI_ex hk
  obtain ⟨z, hz, hk⟩ := hk
  refine ⟨hk.1, fun ad lsA H locs hAG hSA hL hLW hSW hW => ?_⟩
  have hy : r32 y := SW_h hSW
  have hxr : r64 x := SW_h (SW_t hSW)
  have hg := fun (hr : r64 z) => hk.2 ad lsA H locs hAG hSA hL hLW (SW_c (v := .inr (.inl z)) hr (SW_t (SW_t hSW))) hW
  cases ins <;> first | (cases hok; done) | skip
  · obtain ⟨rfl, rfl⟩ := of_decide_eq_true hok
    cases hz
    exact lv_lshl hx hb hd (i64_shl _ _ hy) (hg (w64_r _))
  · obtain ⟨rfl, rfl⟩ := of_decide_eq_true hok
    cases hz
    exact lv_lshr hx hb hd (i64_shr _ _ hxr hy) (hg (lshr_r hxr))
theorem sd_14 (C : FC M d p s m args meth c R) (hd : decode (mB M) pc = .ok (ins, len)) (hok : okO M pc 14 a b k sw ins len = true) (hk : stepK False (GO p l e R s m args below meth c Q D cy A ad0 h0 M) (RE p l e R s m args below meth c Q D cy A ad0 h0 M) (CA d) dfO nF (14, pc + len, a, b, k, sw) ls st h) : GO p l e R s m args below meth c Q D cy A ad0 h0 M pc ls st h := by
  obtain ⟨hx, hb, hml, hown, hts, hnw, hao, hlocks, hret, hini, hfr, hlo⟩ := C
  replace hk := pI_ex hk
  obtain ⟨x, st, rfl, hk⟩ := hk
  refine ⟨hk.1, fun ad lsA H locs hAG hSA hL hLW hSW hW => ?_⟩
  have hxr : r32 x := SW_h hSW
  cases ins <;> first | (cases hok; done) | skip
  obtain rfl := of_decide_eq_true hok
  exact lv_i2l hx hb hd (i2l32 hxr) (hk.2 ad lsA H locs hAG hSA hL hLW (SW_c (v := .inr (.inl x)) (by unfold r32 at hxr; show r64 x; unfold r64; omega) (SW_t hSW)) hW)
theorem sd_15 (C : FC M d p s m args meth c R) (hd : decode (mB M) pc = .ok (ins, len)) (hok : okO M pc 15 a b k sw ins len = true) (hk : stepK False (GO p l e R s m args below meth c Q D cy A ad0 h0 M) (RE p l e R s m args below meth c Q D cy A ad0 h0 M) (CA d) dfO nF (15, pc + len, a, b, k, sw) ls st h) : GO p l e R s m args below meth c Q D cy A ad0 h0 M pc ls st h := by
  obtain ⟨hx, hb, hml, hown, hts, hnw, hao, hlocks, hret, hini, hfr, hlo⟩ := C
  replace hk := pL_ex hk
  obtain ⟨x, st, rfl, hk⟩ := hk
  refine ⟨hk.1, fun ad lsA H locs hAG hSA hL hLW hSW hW => ?_⟩
  cases ins <;> first | (cases hok; done) | skip
  obtain rfl := of_decide_eq_true hok
  exact lv_l2i hx hb hd (by rw [Int64.toInt32_ofInt, i32_w]) (hk.2 ad lsA H locs hAG hSA hL hLW (SW_c (v := .inl (w32 x)) (w32_r _) (SW_t hSW)) hW)
theorem sd_16 (C : FC M d p s m args meth c R) (hd : decode (mB M) pc = .ok (ins, len)) (hok : okO M pc 16 a b k sw ins len = true) (hk : stepK False (GO p l e R s m args below meth c Q D cy A ad0 h0 M) (RE p l e R s m args below meth c Q D cy A ad0 h0 M) (CA d) dfO nF (16, pc + len, a, b, k, sw) ls st h) : GO p l e R s m args below meth c Q D cy A ad0 h0 M pc ls st h := by
  obtain ⟨hx, hb, hml, hown, hts, hnw, hao, hlocks, hret, hini, hfr, hlo⟩ := C
  replace hk := pL_ex hk
  obtain ⟨y, st, rfl, hk⟩ := hk
  replace hk := pL_ex hk
  obtain ⟨x, st, rfl, hk⟩ := hk
  refine ⟨hk.1, fun ad lsA H locs hAG hSA hL hLW hSW hW => ?_⟩
  have hy : r64 y := SW_h hSW
  have hxr : r64 x := SW_h (SW_t hSW)
  have e1 : lg_cmp (Int64.ofInt x) (Int64.ofInt y) = Int32.ofInt (lcmp3 x y) := by
    unfold lg_cmp lcmp3
    by_cases h1 : x > y
    · rw [if_pos h1, if_pos ((l64 hy hxr).mpr h1)]; rfl
    · rw [if_neg h1, if_neg (fun q => h1 ((l64 hy hxr).mp q))]
      by_cases h2 : x = y
      · rw [if_pos h2, if_pos ((e64 hxr hy).mpr h2)]; rfl
      · rw [if_neg h2, if_neg (fun q => h2 ((e64 hxr hy).mp q))]; rfl
  have hr : r32 (lcmp3 x y) := by unfold lcmp3 r32; split <;> first | omega | (split <;> omega)
  cases ins <;> first | (cases hok; done) | skip
  obtain rfl := of_decide_eq_true hok
  refine W.lcmp hx hb hd ?_
  rw [e1]
  exact hk.2 ad lsA H locs hAG hSA hL hLW (SW_c (v := .inl (lcmp3 x y)) hr (SW_t (SW_t hSW))) hW
theorem sd_17 (C : FC M d p s m args meth c R) (hd : decode (mB M) pc = .ok (ins, len)) (hok : okO M pc 17 a b k sw ins len = true) (hk : stepK False (GO p l e R s m args below meth c Q D cy A ad0 h0 M) (RE p l e R s m args below meth c Q D cy A ad0 h0 M) (CA d) dfO nF (17, pc + len, a, b, k, sw) ls st h) : GO p l e R s m args below meth c Q D cy A ad0 h0 M pc ls st h := by
  obtain ⟨hx, hb, hml, hown, hts, hnw, hao, hlocks, hret, hini, hfr, hlo⟩ := C
  replace hk := pV_ex hk
  obtain ⟨v, st, rfl, hk⟩ := hk
  replace hk := if_ex hk
  obtain ⟨hc, hk⟩ := hk
  refine ⟨hk.1, fun ad lsA H locs hAG hSA hL hLW hSW hW => ?_⟩
  cases ins <;> first | (cases hok; done) | skip
  obtain rfl := of_decide_eq_true hok
  exact lv_dup hx hb hd (by rw [cat_trA]; exact hc) (hk.2 ad lsA H locs hAG hSA hL hLW (SW_c (SW_h hSW) hSW) hW)
theorem sd_18 (C : FC M d p s m args meth c R) (hd : decode (mB M) pc = .ok (ins, len)) (hok : okO M pc 18 a b k sw ins len = true) (hk : stepK False (GO p l e R s m args below meth c Q D cy A ad0 h0 M) (RE p l e R s m args below meth c Q D cy A ad0 h0 M) (CA d) dfO nF (18, pc + len, a, b, k, sw) ls st h) : GO p l e R s m args below meth c Q D cy A ad0 h0 M pc ls st h := by
  obtain ⟨hx, hb, hml, hown, hts, hnw, hao, hlocks, hret, hini, hfr, hlo⟩ := C
  replace hk := pV_ex hk
  obtain ⟨v, st, rfl, hk⟩ := hk
  by_cases hc : catA v = 2
  · rw [if_pos hc] at hk
    refine ⟨hk.1, fun ad lsA H locs hAG hSA hL hLW hSW hW => ?_⟩
    cases ins <;> first | (cases hok; done) | skip
    obtain rfl := of_decide_eq_true hok
    exact lv_dup2_2 hx hb hd (by rw [cat_trA]; exact hc) (hk.2 ad lsA H locs hAG hSA hL hLW (SW_c (SW_h hSW) hSW) hW)
  · rw [if_neg hc] at hk
    replace hk := pV_ex hk
    obtain ⟨w, st, rfl, hk⟩ := hk
    replace hk := if_ex hk
    obtain ⟨hc2, hk⟩ := hk
    refine ⟨hk.1, fun ad lsA H locs hAG hSA hL hLW hSW hW => ?_⟩
    cases ins <;> first | (cases hok; done) | skip
    obtain rfl := of_decide_eq_true hok
    have hc1 : catA v = 1 := by
      have := lv_cat (trV ad v)
      rw [cat_trA] at this
      omega
    exact lv_dup2_11 hx hb hd (by rw [cat_trA]; exact hc1) (by rw [cat_trA]; exact hc2) (hk.2 ad lsA H locs hAG hSA hL hLW (SW_c (SW_h hSW) (SW_c (SW_h (SW_t hSW)) hSW)) hW)
theorem sd_19 (C : FC M d p s m args meth c R) (hd : decode (mB M) pc = .ok (ins, len)) (hok : okO M pc 19 a b k sw ins len = true) (hk : stepK False (GO p l e R s m args below meth c Q D cy A ad0 h0 M) (RE p l e R s m args below meth c Q D cy A ad0 h0 M) (CA d) dfO nF (19, pc + len, a, b, k, sw) ls st h) : GO p l e R s m args below meth c Q D cy A ad0 h0 M pc ls st h := by
  obtain ⟨hx, hb, hml, hown, hts, hnw, hao, hlocks, hret, hini, hfr, hlo⟩ := C
  replace hk := pV_ex hk
  obtain ⟨v, st, rfl, hk⟩ := hk
  replace hk := if_ex hk
  obtain ⟨hc, hk⟩ := hk
  refine ⟨hk.1, fun ad lsA H locs hAG hSA hL hLW hSW hW => ?_⟩
  cases ins <;> first | (cases hok; done) | skip
  obtain rfl := of_decide_eq_true hok
  exact lv_pop hx hb hd (by rw [cat_trA]; exact hc) (hk.2 ad lsA H locs hAG hSA hL hLW (SW_t hSW) hW)
end SD2
