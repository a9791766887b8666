/-! THE CLAIM OUT OF ONE WALK OF THE LAW'S BODY. Your part is whole_start (and what it stands on); all else here is the same for every law, but numbers. -/
def R_law : String := "HookSwingsLaw"
def lw_P (b : Addr) (xs : List Int32) (args : Array Value) (s : State) : Prop := args = #[.ref b] ∧ s.IntsAt b xs ∧ xs.length ≤ 3072 ∧ (Jvm.Cond.and given_1 narrow_1).before args s = true
def lw_Q (_ : Array Value) (s : State) (o : Outcome) (t : State) : Prop := o = .returned (some (.int 1)) ∧ Framed s o t [] 600000 7302249
def lw_Z (below : List Frame) (a : Array Value) (s : State) : State → Prop := fun t => ∃ o, t.status = .running ∧ Ended t below o ∧ lw_Q a s o t
/-- the law's own end, with 1 on the stack, nothing written that was there before, its room as the claim has it -/
theorem lw_ret {p : Program} {l : Launch} {e : Env} {s : State} {m : MethodId} {below : List Frame} {meth : Method} {c : Code} {b : Nat} (hx : p.tables.exec = Jvm.exec) (hb : c.code = code) (hr : meth.sig.returnType = ret) (hlocks : meth.locks = false) {pc : Nat} {H : Heap} {ls : Array Slot} (hdg : decode code pc = .ok (.ireturn, 1)) : W p l e room_1 s m #[Value.ref b] below meth c H [] 600000 7302249 (lw_Z below #[Value.ref b] s) (F0 m pc ls [.int 1]) := by
  intro T hT X
  obtain ⟨fs, hret, hrun, hended, hW, hframe⟩ := X.leave (v := some (.int 1)) (hlocks := hlocks) (fun h => by rw [hr] at h; cases h)
  have hmeth' : T.vm.method? m = some meth := X.method'
  refine ⟨T.setFrames fs, ?_, .returned (some (.int 1)), hrun, hended, rfl, ⟨_, rfl⟩, hW, hframe⟩
  jvm_step X.here [X.here.top, hx, hb, hdg, hmeth', hr, ret, narrow_b1]
  (try refine ⟨rfl, ?_⟩); (try refine ⟨rfl, ?_⟩)
  first | (intro acts; rw [hret _ acts rfl rfl rfl]) | rw [hret _ _ rfl rfl rfl]
  exact Steps.refl _
/-- what holds at the law's entry: the machine, the code, the tables' words (any of lw_tbl by 'hts w (by decide +kernel)'), the script of L ints xs at the cell b, what the Statement gives of the start (any of its parts by flat_of_before) -/
def lw_At (p : Program) (s : State) (m : MethodId) (meth : Method) (c : Code) (b L : Nat) (xs : Nat → Int32) : Prop :=
  p.tables.exec = Jvm.exec ∧ c.code = code ∧ meth.sig.returnType = ret ∧ c.maxLocals = 4 ∧ s.vm.findClass R_law = some m.cls ∧ (∀ w ∈ lw_tbl, w.before #[Value.ref b] s = true) ∧ va_X b L xs s s.heap ∧ b < s.heap.size ∧ meth.locks = false ∧ (Jvm.Cond.and given_1 narrow_1).before #[Value.ref b] s = true
def stVs : List (List Int) := [[0, 15, 23, 28, 32, 43], [32767, 255, 31, 15, 2047, 3], [-9999, -99, -9, 0, -600, -1], [127, 127, 127, 128, 224]]
def stV (j : Nat) : List Int := stVs.getD j []
def Kst (L : Nat) : Nat → Nat × Nat := fun k => if k = 1000100 then (20, L) else if 1000000 ≤ k ∧ k < 1000004 then (20, (stV (k - 1000000)).length) else (99, 0)
def Vst (xs : Nat → Int) : Nat → Nat → AV := fun k i => if k = 1000100 then vI (xs i) else if 1000000 ≤ k ∧ k < 1000004 then vI ((stV (k - 1000000)).getD i 0) else vI 0
/-- the start: no cell yet; the script, and the class's rows of numbers -/
def hSt (L : Nat) (xs : Nat → Int) : AH := (0, 0, Kst L, Vst xs)
theorem hSt_N (L : Nat) (xs : Nat → Int) : hN (hSt L xs) = 0 := rfl
theorem hSt_S (L : Nat) (xs : Nat → Int) : hS (hSt L xs) = 0 := rfl
theorem stV_r : ∀ j, j < 4 → ∀ i, r32 ((stV j).getD i 0) := by
  intro j hj i
  have h1 : ∀ j, j < 4 → ∀ z ∈ stV j, r32 z := by decide +kernel
  rw [List.getD_eq_getElem?_getD]
  cases hc : (stV j)[i]? with
  | none => exact r32_0
  | some z => exact h1 j hj z (List.mem_of_getElem? hc)
theorem stV_len : ∀ j, j < 4 → (stV j).length ≤ 6 := by decide +kernel
theorem Kst_le {L : Nat} (hL : L ≤ 20000) (k : Nat) : (Kst L k).2 ≤ 20000 := by
  unfold Kst
  split
  · exact hL
  · split
    · have h1 := stV_len (k - 1000000) (by omega)
      dsimp only
      omega
    · exact Nat.zero_le _
theorem HW_st {L : Nat} {xs : Nat → Int} (hL : L ≤ 20000) (hx : ∀ i, r32 (xs i)) : HW (hSt L xs) := by
  refine ⟨fun k _ => ?_, fun k hk => absurd hk (Nat.not_lt_zero _), fun k i => ?_, Nat.zero_le _, fun k => ?_⟩
  · show 15 ≤ (Kst L k).1 ∧ ((Kst L k).1 = 20 → 1000000 ≤ k)
    unfold Kst
    split
    · exact ⟨(by decide : 15 ≤ 20), fun _ => by omega⟩
    · split
      · exact ⟨(by decide : 15 ≤ 20), fun _ => by omega⟩
      · exact ⟨(by decide : 15 ≤ 99), fun h => by cases h⟩
  · show wfv 0 (Vst xs k i)
    unfold Vst
    split
    · exact hx i
    · split
      · exact stV_r _ (by omega) i
      · exact r32_0
  · exact Kst_le hL k
def PureLaw (L : Nat) : Prop := ∀ xs : Nat → Int, (∀ i, r32 (xs i)) → XP 1000 321 0 (entL 4 [vR 1000100]) [] (hSt L xs) (fun r h => r = some (vI 1) ∧ hN h ≤ 600000 ∧ hS h ≤ 7302249)
theorem arr_K {s : State} {args : Array Value} {ty : FieldType} (h : (Cond.arrayClass ty).before args s = true) (hty : ∀ C, ty ≠ .object C) : ∃ c : ClassId, ArrOfT s c ty ∧ va_RA s c ty := by
  obtain ⟨c, k, comp, h1, h2, h3⟩ := Cond.arrayClass_spec h
  refine ⟨c, fun n z => ⟨fun k h => (by cases h), k, h2, comp, h3⟩, ?_⟩
  cases ty with
  | object C => exact absurd rfl (hty C)
  | _ => exact h1
theorem cls_K {s : State} {args : Array Value} (hts : ∀ w ∈ gtb, w.before args s = true) : ∃ (dC : Nat → ClassId) (dI : Nat → Nat → Nat), ∀ (k : Nat) (q : vw_C), vwCl[k]? = some q → u_Kn s q.1 q.2.1 q.2.2 (dC k) (dI k) := by
  have h : ∀ k : Nat, ∃ (c : ClassId) (i : Nat → Nat), ∀ q : vw_C, vwCl[k]? = some q → u_Kn s q.1 q.2.1 q.2.2 c i := by
    intro k
    by_cases hk : k < 11
    · obtain ⟨c, i, hc⟩ := u_known (C := (clT k).1) (T := (clT k).2.1) (N := nF k) (n := nF k) hts (lay_in hk) (by
        have ecl : (clT k).1 = cnm k := (of_decide_eq_true (List.all_eq_true.mp cl_ok k (List.mem_range.mpr hk))).2
        rw [ecl]
        exact hts _ (ins_in hk))
      refine ⟨c, i, fun q hq => ?_⟩
      rw [cl_at hk] at hq
      cases hq
      exact hc
    · refine ⟨0, fun _ => 0, fun q hq => ?_⟩
      have := (List.getElem?_eq_some_iff.mp hq).1
      rw [cl_len] at this
      exact absurd this hk
  exact ⟨fun k => (h k).choose, fun k => (h k).choose_spec.choose, fun k q hq => (h k).choose_spec.choose_spec q hq⟩
theorem stat_0 {args : Array Value} {s : State} {A : Nat → Prop} (hts : ∀ w ∈ lw_tbl, w.before args s = true) (hgv : (Jvm.Cond.and given_1 narrow_1).before args s = true) (hA : ∀ a : Nat, a < s.heap.size → ¬ A a) : ∃ t : Nat, va_Z (stn 0).1 (stn 0).2.1 (stn 0).2.2 (.ref t) A s s.heap ∧ va_T .int t (stV 0).length (fun i => .int (Int32.ofInt ((stV 0).getD i 0))) A s s.heap := by
  have hf := flat_of_before _ hgv
  have hel : ∀ j : Nat, j < 6 → (Term.elem (.static "HookSwings$Kept" "SHIFTS" "[I") (.int (Int32.ofNat j))).eval args s none [] s = some (.int (Int32.ofInt ((stV 0).getD j 0))) := by
    intro j hj
    match j, hj with
    | 0, _ => exact va_eqt (z := 0) (hf (.eq (.elem (.static "HookSwings$Kept" "SHIFTS" "[I") (.int 0)) (.int 0)) (by decide +kernel))
    | 1, _ => exact va_eqt (z := 15) (hf (.eq (.elem (.static "HookSwings$Kept" "SHIFTS" "[I") (.int 1)) (.int 15)) (by decide +kernel))
    | 2, _ => exact va_eqt (z := 23) (hf (.eq (.elem (.static "HookSwings$Kept" "SHIFTS" "[I") (.int 2)) (.int 23)) (by decide +kernel))
    | 3, _ => exact va_eqt (z := 28) (hf (.eq (.elem (.static "HookSwings$Kept" "SHIFTS" "[I") (.int 3)) (.int 28)) (by decide +kernel))
    | 4, _ => exact va_eqt (z := 32) (hf (.eq (.elem (.static "HookSwings$Kept" "SHIFTS" "[I") (.int 4)) (.int 32)) (by decide +kernel))
    | 5, _ => exact va_eqt (z := 43) (hf (.eq (.elem (.static "HookSwings$Kept" "SHIFTS" "[I") (.int 5)) (.int 43)) (by decide +kernel))
    | n + 6, hj => exact absurd hj (by omega)
  obtain ⟨t, h1, h2⟩ := va_Tof (tm := .static "HookSwings$Kept" "SHIFTS" "[I") (ty := .int) (N := 6) (f := fun i => .int (Int32.ofInt ((stV 0).getD i 0))) (A := A) (by decide) (hf _ (by decide +kernel)) (va_eqt (hf (.eq (.length (.static "HookSwings$Kept" "SHIFTS" "[I")) (.int 6)) (by decide +kernel))) hel hA
  exact ⟨t, va_Zref (hts (.laysStatic "HookSwings$Kept" "SHIFTS" "[I") (by decide +kernel)) (hts (.initialized "HookSwings$Kept") (by decide +kernel)) h1 hA, h2⟩
theorem stat_1 {args : Array Value} {s : State} {A : Nat → Prop} (hts : ∀ w ∈ lw_tbl, w.before args s = true) (hgv : (Jvm.Cond.and given_1 narrow_1).before args s = true) (hA : ∀ a : Nat, a < s.heap.size → ¬ A a) : ∃ t : Nat, va_Z (stn 1).1 (stn 1).2.1 (stn 1).2.2 (.ref t) A s s.heap ∧ va_T .int t (stV 1).length (fun i => .int (Int32.ofInt ((stV 1).getD i 0))) A s s.heap := by
  have hf := flat_of_before _ hgv
  have hel : ∀ j : Nat, j < 6 → (Term.elem (.static "HookSwings$Kept" "MASKS" "[I") (.int (Int32.ofNat j))).eval args s none [] s = some (.int (Int32.ofInt ((stV 1).getD j 0))) := by
    intro j hj
    match j, hj with
    | 0, _ => exact va_eqt (z := 32767) (hf (.eq (.elem (.static "HookSwings$Kept" "MASKS" "[I") (.int 0)) (.int 32767)) (by decide +kernel))
    | 1, _ => exact va_eqt (z := 255) (hf (.eq (.elem (.static "HookSwings$Kept" "MASKS" "[I") (.int 1)) (.int 255)) (by decide +kernel))
    | 2, _ => exact va_eqt (z := 31) (hf (.eq (.elem (.static "HookSwings$Kept" "MASKS" "[I") (.int 2)) (.int 31)) (by decide +kernel))
    | 3, _ => exact va_eqt (z := 15) (hf (.eq (.elem (.static "HookSwings$Kept" "MASKS" "[I") (.int 3)) (.int 15)) (by decide +kernel))
    | 4, _ => exact va_eqt (z := 2047) (hf (.eq (.elem (.static "HookSwings$Kept" "MASKS" "[I") (.int 4)) (.int 2047)) (by decide +kernel))
    | 5, _ => exact va_eqt (z := 3) (hf (.eq (.elem (.static "HookSwings$Kept" "MASKS" "[I") (.int 5)) (.int 3)) (by decide +kernel))
    | n + 6, hj => exact absurd hj (by omega)
  obtain ⟨t, h1, h2⟩ := va_Tof (tm := .static "HookSwings$Kept" "MASKS" "[I") (ty := .int) (N := 6) (f := fun i => .int (Int32.ofInt ((stV 1).getD i 0))) (A := A) (by decide) (hf _ (by decide +kernel)) (va_eqt (hf (.eq (.length (.static "HookSwings$Kept" "MASKS" "[I")) (.int 6)) (by decide +kernel))) hel hA
  exact ⟨t, va_Zref (hts (.laysStatic "HookSwings$Kept" "MASKS" "[I") (by decide +kernel)) (hts (.initialized "HookSwings$Kept") (by decide +kernel)) h1 hA, h2⟩
theorem stat_2 {args : Array Value} {s : State} {A : Nat → Prop} (hts : ∀ w ∈ lw_tbl, w.before args s = true) (hgv : (Jvm.Cond.and given_1 narrow_1).before args s = true) (hA : ∀ a : Nat, a < s.heap.size → ¬ A a) : ∃ t : Nat, va_Z (stn 2).1 (stn 2).2.1 (stn 2).2.2 (.ref t) A s s.heap ∧ va_T .int t (stV 2).length (fun i => .int (Int32.ofInt ((stV 2).getD i 0))) A s s.heap := by
  have hf := flat_of_before _ hgv
  have hel : ∀ j : Nat, j < 6 → (Term.elem (.static "HookSwings$Kept" "LEASTS" "[I") (.int (Int32.ofNat j))).eval args s none [] s = some (.int (Int32.ofInt ((stV 2).getD j 0))) := by
    intro j hj
    match j, hj with
    | 0, _ => exact va_eqt (z := -9999) (hf (.eq (.elem (.static "HookSwings$Kept" "LEASTS" "[I") (.int 0)) (.int (-9999))) (by decide +kernel))
    | 1, _ => exact va_eqt (z := -99) (hf (.eq (.elem (.static "HookSwings$Kept" "LEASTS" "[I") (.int 1)) (.int (-99))) (by decide +kernel))
    | 2, _ => exact va_eqt (z := -9) (hf (.eq (.elem (.static "HookSwings$Kept" "LEASTS" "[I") (.int 2)) (.int (-9))) (by decide +kernel))
    | 3, _ => exact va_eqt (z := 0) (hf (.eq (.elem (.static "HookSwings$Kept" "LEASTS" "[I") (.int 3)) (.int 0)) (by decide +kernel))
    | 4, _ => exact va_eqt (z := -600) (hf (.eq (.elem (.static "HookSwings$Kept" "LEASTS" "[I") (.int 4)) (.int (-600))) (by decide +kernel))
    | 5, _ => exact va_eqt (z := -1) (hf (.eq (.elem (.static "HookSwings$Kept" "LEASTS" "[I") (.int 5)) (.int (-1))) (by decide +kernel))
    | n + 6, hj => exact absurd hj (by omega)
  obtain ⟨t, h1, h2⟩ := va_Tof (tm := .static "HookSwings$Kept" "LEASTS" "[I") (ty := .int) (N := 6) (f := fun i => .int (Int32.ofInt ((stV 2).getD i 0))) (A := A) (by decide) (hf _ (by decide +kernel)) (va_eqt (hf (.eq (.length (.static "HookSwings$Kept" "LEASTS" "[I")) (.int 6)) (by decide +kernel))) hel hA
  exact ⟨t, va_Zref (hts (.laysStatic "HookSwings$Kept" "LEASTS" "[I") (by decide +kernel)) (hts (.initialized "HookSwings$Kept") (by decide +kernel)) h1 hA, h2⟩
theorem stat_3 {args : Array Value} {s : State} {A : Nat → Prop} (hts : ∀ w ∈ lw_tbl, w.before args s = true) (hgv : (Jvm.Cond.and given_1 narrow_1).before args s = true) (hA : ∀ a : Nat, a < s.heap.size → ¬ A a) : ∃ t : Nat, va_Z (stn 3).1 (stn 3).2.1 (stn 3).2.2 (.ref t) A s s.heap ∧ va_T .int t (stV 3).length (fun i => .int (Int32.ofInt ((stV 3).getD i 0))) A s s.heap := by
  have hf := flat_of_before _ hgv
  have hel : ∀ j : Nat, j < 5 → (Term.elem (.static "HookSwings$Reader" "NAMES" "[I") (.int (Int32.ofNat j))).eval args s none [] s = some (.int (Int32.ofInt ((stV 3).getD j 0))) := by
    intro j hj
    match j, hj with
    | 0, _ => exact va_eqt (z := 127) (hf (.eq (.elem (.static "HookSwings$Reader" "NAMES" "[I") (.int 0)) (.int 127)) (by decide +kernel))
    | 1, _ => exact va_eqt (z := 127) (hf (.eq (.elem (.static "HookSwings$Reader" "NAMES" "[I") (.int 1)) (.int 127)) (by decide +kernel))
    | 2, _ => exact va_eqt (z := 127) (hf (.eq (.elem (.static "HookSwings$Reader" "NAMES" "[I") (.int 2)) (.int 127)) (by decide +kernel))
    | 3, _ => exact va_eqt (z := 128) (hf (.eq (.elem (.static "HookSwings$Reader" "NAMES" "[I") (.int 3)) (.int 128)) (by decide +kernel))
    | 4, _ => exact va_eqt (z := 224) (hf (.eq (.elem (.static "HookSwings$Reader" "NAMES" "[I") (.int 4)) (.int 224)) (by decide +kernel))
    | n + 5, hj => exact absurd hj (by omega)
  obtain ⟨t, h1, h2⟩ := va_Tof (tm := .static "HookSwings$Reader" "NAMES" "[I") (ty := .int) (N := 5) (f := fun i => .int (Int32.ofInt ((stV 3).getD i 0))) (A := A) (by decide) (hf _ (by decide +kernel)) (va_eqt (hf (.eq (.length (.static "HookSwings$Reader" "NAMES" "[I")) (.int 5)) (by decide +kernel))) hel hA
  exact ⟨t, va_Zref (hts (.laysStatic "HookSwings$Reader" "NAMES" "[I") (by decide +kernel)) (hts (.initialized "HookSwings$Reader") (by decide +kernel)) h1 hA, h2⟩
set_option maxRecDepth 100000 in
set_option maxHeartbeats 4000000 in
theorem law_start {p : Program} {e : Env} {s : State} {m : MethodId} {below : List Frame} {meth : Method} {c : Code} (l : Launch) {b L : Nat} {xs : Nat → Int32} (hL : L ≤ 20000) (C0 : lw_At p s m meth c b L xs) (hp : PureLaw L) : W p l e room_1 s m #[Value.ref b] below meth c s.heap [] 0 0 (lw_Z below #[Value.ref b] s) (entryFrame m ([Value.ref b] : List Value).toArray 4) := by
  obtain ⟨hx, hb, hr, hml, hown, hts, hX, hbl, hlocks, hgv⟩ := id C0
  have hgt : ∀ w ∈ gtb, w.before #[Value.ref b] s = true := fun w hw => hts w (List.mem_filter.mp hw).1
  have hA0 : ∀ a : Nat, a < s.heap.size → ¬ (fun q : Nat => s.heap.size ≤ q) a := fun a h => Nat.not_le.mpr h
  obtain ⟨dC, dI, hKc⟩ := cls_K hgt
  obtain ⟨c0, hc0⟩ := arr_K (hgt _ arr_int) (fun C => by intro h; cases h)
  obtain ⟨c1, hc1⟩ := arr_K (hgt _ arr_long) (fun C => by intro h; cases h)
  obtain ⟨c2, hc2⟩ := arr_K (hgt _ arr_boolean) (fun C => by intro h; cases h)
  have hao : va_AO RX6 s := va_AO.of (hts (.arrayOver (.object RX6)) (by decide +kernel))
  obtain ⟨comp, c3, k3, f1, f2, f3, f4, f5⟩ := Cond.arrayOver_spec hao
  obtain ⟨t0, z0, T0⟩ := stat_0 (A := fun q : Nat => s.heap.size ≤ q) hts hgv hA0
  obtain ⟨t1, z1, T1⟩ := stat_1 (A := fun q : Nat => s.heap.size ≤ q) hts hgv hA0
  obtain ⟨t2, z2, T2⟩ := stat_2 (A := fun q : Nat => s.heap.size ≤ q) hts hgv hA0
  obtain ⟨t3, z3, T3⟩ := stat_3 (A := fun q : Nat => s.heap.size ≤ q) hts hgv hA0
  let cy : Nat → ClassId := fun k => if k = 0 then c0 else if k = 1 then c1 else if k = 2 then c2 else c3
  let ad : Nat → Nat := fun k => if k = 1000100 then b else if k = 1000000 then t0 else if k = 1000001 then t1 else if k = 1000002 then t2 else t3
  have hxr : ∀ i, r32 ((fun i => (xs i).toInt) i) := fun i => by
    have h1 := Int32.toInt_lt (xs i)
    have h2 := Int32.le_toInt (xs i)
    show r32 (xs i).toInt
    unfold r32; omega
  obtain ⟨n, r, hf, he, rfl, hN1, hS1⟩ := hp (fun i => (xs i).toInt) hxr
  have C : FC 321 1000 p s m #[Value.ref b] meth c room_1 := ⟨hx, hb, hml, hown, hgt, fun w hw => va_Nw.of (by
    obtain ⟨q, -, rfl⟩ := List.mem_map.mp hw
    rfl) (hts w (nst_mem hw)), hao, hlocks, hr, fun h => absurd h (by decide), by decide, by decide⟩
  have hRE : RE p l e room_1 s m #[Value.ref b] below meth c (lw_Z below #[Value.ref b] s) (dC, dI) cy (fun q : Nat => s.heap.size ≤ q) ad (hSt L (fun i => (xs i).toInt)) 321 (some (vI 1)) hf := by
    refine ⟨⟨?_, ?_⟩, fun ad' lsA H locs pcr hAG hSA hwr hW hok => ?_⟩
    · rw [hSt_N, show room_1.cells = 600000 from rfl, Nat.zero_add]; exact hN1
    · rw [hSt_S, show room_1.slots = 7302249 from rfl, Nat.zero_add]; exact hS1
    · obtain ⟨vK, vP, vD, vS, vA, vZ, vT, hHW⟩ := hW
      have hd : decode code pcr = .ok (.ireturn, 1) := by
        rcases hok with ⟨z, -⟩ | ⟨z, -, hd, -⟩ | ⟨z, hz, -⟩ | ⟨z, hz, -⟩
        · cases z
        · exact hd
        · cases hz
        · cases hz
      refine va_forget (fun q hq => vS.2.2 q hq) ?_
      refine W.widen (k := 600000) (n := 7302249) (by rw [hSt_N, Nat.sub_zero]; exact hN1) (by rw [hSt_S, Nat.sub_zero]; exact hS1) ?_
      exact lw_ret hx hb hr hlocks hd
  have hT : ∀ k, (hK (hSt L (fun i => (xs i).toInt)) k).1 = 20 → va_T .int (ad k) (hK (hSt L (fun i => (xs i).toInt)) k).2 (fun i => trV ad (hV (hSt L (fun i => (xs i).toInt)) k i)) (fun q : Nat => s.heap.size ≤ q) s s.heap := by
    intro k hk
    have hcs : k = 1000100 ∨ k = 1000000 ∨ k = 1000001 ∨ k = 1000002 ∨ k = 1000003 := by
      have hk : (Kst L k).1 = 20 := hk
      unfold Kst at hk
      split at hk
      · exact Or.inl ‹_›
      · split at hk
        · omega
        · cases hk
    rcases hcs with rfl | rfl | rfl | rfl | rfl
    · obtain ⟨scr, q1, q2, q3, q4, q5⟩ := hX
      refine ⟨scr, q1, q2, q3, by rw [q4]; exact Nat.le_refl _, by rw [q4]; rfl, fun j hj => ?_, hA0 b hbl⟩
      rw [q5 j hj]
      show some (Value.int (xs j)) = some (Value.int (Int32.ofInt (xs j).toInt))
      rw [Int32.ofInt_toInt]
    · exact T0
    · exact T1
    · exact T2
    · exact T3
  have G := (sim n 1000 321 0 _ [] _ _ _ he p l e room_1 s m #[Value.ref b] below meth c (lw_Z below #[Value.ref b] s) (dC, dI) cy (fun q : Nat => s.heap.size ≤ q) ad (hSt L (fun i => (xs i).toInt)) C hRE).2 ad _ s.heap [] (fun _ _ => rfl) ⟨Nat.le_refl _, Nat.le_refl _, fun _ _ => ⟨rfl, fun _ => rfl⟩⟩ (LV_entry (ad := ad) (as := [vR 1000100]) (n := 4) (by decide)) (LW_entry (fun v hv => by rw [List.mem_singleton.mp hv]; exact Or.inr (by decide))) (fun _ h => by cases h)
    ⟨⟨hKc, fun k q hq => ?_⟩, fun k q hq => (by cases hq), ⟨fun i j p q h => (by cases h), fun k q h => (by cases h)⟩, va_S.rf, fun _ h => h, fun j hj => ?_, hT, HW_st hL hxr⟩
  · rw [Nat.sub_self, Nat.sub_self] at G
    rw [lg_entry_eq]
    exact G
  · match k, hq with
    | 0, hq => cases hq; exact hc0
    | 1, hq => cases hq; exact hc1
    | 2, hq => cases hq; exact hc2
    | 3, hq => cases hq; exact ⟨fun N z => ⟨(fun k h => by cases h), k3, f3, comp, f4⟩, k3, comp, f3, f4, f1, f5⟩
    | k + 4, hq => cases hq
  · match j, hj with
    | 0, _ => exact z0
    | 1, _ => exact z1
    | 2, _ => exact z2
    | 3, _ => exact z3
    | n + 4, hj => exact absurd hj (by omega)
