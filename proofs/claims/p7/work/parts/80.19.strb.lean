section SD7
variable {p : Program} {l : Launch} {e : Env} {R : Room} {s : State} {m : MethodId} {args : Array Value} {below : List Frame} {meth : Method} {c : Code} {Q : State → Prop} {D : va_G} {cy : Nat → ClassId} {A : Nat → Prop} {ad0 : Nat → Nat} {h0 : AH} {M d : Nat} {pc len a b : Nat} {k : Int} {sw : List (Int × Nat)} {ins : Instr} {ls : List (Option AV)} {st : List AV} {h : AH}
theorem sd_52 (C : FC M d p s m args meth c R) (hd : decode (mB M) pc = .ok (ins, len)) (hok : okO M pc 52 a b k sw ins len = true) (hk : stepK False (GO p l e R s m args below meth c Q D cy A ad0 h0 M) (RE p l e R s m args below meth c Q D cy A ad0 h0 M) (CA d) dfO nF (52, pc + len, a, b, k, sw) ls st h) : GO p l e R s m args below meth c Q D cy A ad0 h0 M pc ls st h := by
  obtain ⟨hx, hb, hml, hown, hts, hnw, hao, hlocks, hret, hini, hfr, hlo⟩ := C
  have hk : GO p l e R s m args below meth c Q D cy A ad0 h0 M (pc + len) ls (.inr (.inr (some 1000004)) :: st) h := hk
  refine ⟨hk.1, fun ad lsA H locs hAG hSA hL hLW hSW hW => ?_⟩
  have hW0 := hW
  obtain ⟨vK, vP, vD, vS, vA, vZ, vT, hHW⟩ := hW
  cases ins <;> first | (cases hok; done) | skip
  rw [okO] at hok
  obtain ⟨rfl, rfl, hm⟩ := of_decide_eq_true hok
  have hown : s.vm.findClass "HookSwings$Tokens" = some m.cls := by rw [hm] at hown; exact hown
  exact va_ldcS hx hb hown vZ.2.1 hd (hk.2 ad lsA H locs hAG hSA hL hLW (SW_c (v := .inr (.inr (some 1000004))) (Or.inr (by decide)) hSW) hW0)
set_option maxRecDepth 100000 in
set_option maxHeartbeats 4000000 in
theorem sd_53 (C : FC M d p s m args meth c R) (hd : decode (mB M) pc = .ok (ins, len)) (hok : okO M pc 53 a b k sw ins len = true) (hk : stepK False (GO p l e R s m args below meth c Q D cy A ad0 h0 M) (RE p l e R s m args below meth c Q D cy A ad0 h0 M) (CA d) dfO nF (53, pc + len, a, b, k, sw) ls st h) : GO p l e R s m args below meth c Q D cy A ad0 h0 M pc ls st h := by
  obtain ⟨hx, hb, hml, hown, hts, hnw, hao, hlocks, hret, hini, hfr, hlo⟩ := C
  replace hk := pR_ex hk
  obtain ⟨q, st, rfl, hk⟩ := hk
  replace hk := if_ex hk
  obtain ⟨⟨rfl, hw8⟩, hk⟩ := hk
  refine ⟨hk.1, fun ad lsA H locs hAG hSA hL hLW hSW hW => ?_⟩
  have hW0 := hW
  obtain ⟨vK, vP, vD, vS, vA, vZ, vT, hHW⟩ := hW
  cases ins <;> first | (cases hok; done) | skip
  rw [okO] at hok
  obtain ⟨rfl, rfl, hm⟩ := of_decide_eq_true hok
  have hown : s.vm.findClass "HookSwings$Tokens" = some m.cls := by rw [hm] at hown; exact hown
  have hSr : SR (ad 1000004) (ad 1000005) (fun _ => False) s H := (vZ.2.2.kept (fun a h1 h2 => vS.2.1 a h1 h2)).narrow (fun _ h => h.elim)
  obtain ⟨cr, r1, r2, r3, -⟩ := hSr.2.2.1
  have hrm : 2 * (F0 m pc lsA ((.inr (.inr (some 1000004)) :: st).map (trV ad))).monitorRoom + ((st.map (trV ad)).map fun v => v.category).sum ≤ 8 := by
    rw [cat_sum]
    have : 2 * (F0 m pc lsA ((.inr (.inr (some 1000004)) :: st).map (trV ad))).monitorRoom = 0 := rfl
    omega
  have hcl : hN h - hN h0 + 0 ≤ R.cells ∧ hS h - hS h0 + 0 ≤ R.slots := by
    have := hk.1.1; have := hk.1.2
    omega
  refine callG (va_runV (l := l) (mc := 0) (ms := 0) (C := "java/lang/String") (b := ad 1000004) (As := []) (rest := st.map (trV ad)) ⟨hx, hb, hml, hown, hts⟩ (j_length (q := ad 1000004) (v := ad 1000005) (d := 2)) ⟨callB_of (y := jyL) 0 hts (jgood cjL_in) rfl rfl rfl (hts _ (inT_mem (j := 1) (t := 13) (by decide +kernel))) (hts _ (inT_mem (j := 2) (t := 228) (by decide +kernel))) (by decide +kernel) ⟨(by show 3 + 1 ≤ R.frames; omega), (by show 8 + (1 + 11) + 24 * 3 ≤ R.locals; omega)⟩, hts _ (inT_mem (j := 2) (t := 229) (by decide +kernel)), hts _ (inT_mem (j := 2) (t := 230) (by decide +kernel))⟩ ⟨Pj_blind, ⟨cr, r1, r2, r3⟩, fun U hU hw => ⟨rfl, (by show SR (ad 1000004) (ad 1000005) (fun _ => False) U U.heap; rw [hU]; exact hSr.moved hw.alike)⟩⟩ rfl rfl hL.2.1 rfl hrm hd hcl) ?_
  intro v0 u t L hu hvm hq hLL
  obtain ⟨hq1, hq2⟩ := hq
  injection hq1 with hq1
  subst hq1
  rw [hq2, hu, L_nil hLL, List.append_nil]
  exact hk.2 ad lsA H locs hAG hSA hL hLW (SW_c (v := .inl 160) (by show r32 160; unfold r32; omega) (SW_t hSW)) hW0
theorem wd_r : ∀ k, k < 160 → 0 ≤ wdB.getD k 0 ∧ wdB.getD k 0 < 128 := by decide +kernel
set_option maxRecDepth 100000 in
set_option maxHeartbeats 4000000 in
theorem sd_54 (C : FC M d p s m args meth c R) (hd : decode (mB M) pc = .ok (ins, len)) (hok : okO M pc 54 a b k sw ins len = true) (hk : stepK False (GO p l e R s m args below meth c Q D cy A ad0 h0 M) (RE p l e R s m args below meth c Q D cy A ad0 h0 M) (CA d) dfO nF (54, pc + len, a, b, k, sw) ls st h) : GO p l e R s m args below meth c Q D cy A ad0 h0 M pc ls st h := by
  obtain ⟨hx, hb, hml, hown, hts, hnw, hao, hlocks, hret, hini, hfr, hlo⟩ := C
  replace hk := pI_ex hk
  obtain ⟨x, st, rfl, hk⟩ := hk
  replace hk := pR_ex hk
  obtain ⟨q, st, rfl, hk⟩ := hk
  replace hk := if_ex hk
  obtain ⟨⟨rfl, hxi, hw8⟩, hk⟩ := hk
  have hxi : 0 ≤ x ∧ x < 160 := of_decide_eq_true hxi
  obtain ⟨n, rfl⟩ := Int.eq_ofNat_of_zero_le hxi.1
  have hn : n < 160 := by omega
  refine ⟨hk.1, fun ad lsA H locs hAG hSA hL hLW hSW hW => ?_⟩
  have hW0 := hW
  obtain ⟨vK, vP, vD, vS, vA, vZ, vT, hHW⟩ := hW
  cases ins <;> first | (cases hok; done) | skip
  rw [okO] at hok
  obtain ⟨rfl, rfl, hm⟩ := of_decide_eq_true hok
  have hown : s.vm.findClass "HookSwings$Tokens" = some m.cls := by rw [hm] at hown; exact hown
  have hSr : SR (ad 1000004) (ad 1000005) (fun _ => False) s H := (vZ.2.2.kept (fun a h1 h2 => vS.2.1 a h1 h2)).narrow (fun _ h => h.elim)
  obtain ⟨cr, r1, r2, r3, -⟩ := hSr.2.2.1
  have hrm : 2 * (F0 m pc lsA ((.inl (n : Int) :: .inr (.inr (some 1000004)) :: st).map (trV ad))).monitorRoom + ((st.map (trV ad)).map fun v => v.category).sum ≤ 8 := by
    rw [cat_sum]
    have : 2 * (F0 m pc lsA ((.inl (n : Int) :: .inr (.inr (some 1000004)) :: st).map (trV ad))).monitorRoom = 0 := rfl
    omega
  have hcl : hN h - hN h0 + 0 ≤ R.cells ∧ hS h - hS h0 + 0 ≤ R.slots := by
    have := hk.1.1; have := hk.1.2
    omega
  refine callG (va_runV (l := l) (mc := 0) (ms := 0) (C := "java/lang/String") (b := ad 1000004) (As := [.int (Int32.ofInt (n : Int))]) (rest := st.map (trV ad)) ⟨hx, hb, hml, hown, hts⟩ (j_charAt (q := ad 1000004) (v := ad 1000005) (d := 0) hn) ⟨callB_of (y := jyA) 1 hts (jgood cjA_in) rfl rfl rfl (hts _ (inT_mem (j := 1) (t := 13) (by decide +kernel))) (hts _ (inT_mem (j := 2) (t := 238) (by decide +kernel))) (by decide +kernel) ⟨(by show 3 + 1 ≤ R.frames; omega), (by show 8 + (2 + 11) + 24 * 3 ≤ R.locals; omega)⟩, hts _ (inT_mem (j := 2) (t := 239) (by decide +kernel)), hts _ (inT_mem (j := 3) (t := 0) (by decide +kernel))⟩ ⟨Pj_blind, ⟨cr, r1, r2, r3⟩, fun U hU hw => ⟨rfl, (by show SR (ad 1000004) (ad 1000005) (fun _ => False) U U.heap; rw [hU]; exact hSr.moved hw.alike)⟩⟩ rfl rfl hL.2.1 rfl hrm hd hcl) ?_
  intro v0 u t L hu hvm hq hLL
  obtain ⟨hq1, hq2⟩ := hq
  injection hq1 with hq1
  subst hq1
  rw [hq2, hu, L_nil hLL, List.append_nil]
  have hwr := wd_r n hn
  exact hk.2 ad lsA H locs hAG hSA hL hLW (SW_c (v := .inl (wdB.getD n 0)) (by show r32 (wdB.getD n 0); unfold r32; omega) (SW_t (SW_t hSW))) hW0
theorem sd_55 (C : FC M d p s m args meth c R) (hd : decode (mB M) pc = .ok (ins, len)) (hok : okO M pc 55 a b k sw ins len = true) (hk : stepK False (GO p l e R s m args below meth c Q D cy A ad0 h0 M) (RE p l e R s m args below meth c Q D cy A ad0 h0 M) (CA d) dfO nF (55, pc + len, a, b, k, sw) ls st h) : GO p l e R s m args below meth c Q D cy A ad0 h0 M pc ls st h := by
  obtain ⟨hx, hb, hml, hown, hts, hnw, hao, hlocks, hret, hini, hfr, hlo⟩ := C
  replace hk := pL_ex hk
  obtain ⟨x, st, rfl, hk⟩ := hk
  refine ⟨hk.1, fun ad lsA H locs hAG hSA hL hLW hSW hW => ?_⟩
  cases ins <;> first | (cases hok; done) | skip
  rw [okO] at hok
  obtain rfl := of_decide_eq_true hok
  exact lv_pop2_2 hx hb hd rfl (hk.2 ad lsA H locs hAG hSA hL hLW (SW_t hSW) hW)
end SD7
