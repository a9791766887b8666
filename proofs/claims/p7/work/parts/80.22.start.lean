/-! THE CLAIM OUT OF ONE WALK OF THE LAW'S BODY. Your part is whole_start (and what it stands on); all else here is the same for every law, but numbers. -/
def R_law : String := "HookSwingsLaw"
def lw_P (b : Addr) (xs : List Int32) (args : Array Value) (s : State) : Prop := args = #[.ref b] ∧ s.IntsAt b xs ∧ xs.length ≤ 3072 ∧ (Jvm.Cond.and given_1 narrow_1).before args s = true
def lw_Q (_ : Array Value) (s : State) (o : Outcome) (t : State) : Prop := o = .returned (some (.int 1)) ∧ Framed s o t [] 600000 room_1.slots
def lw_Z (below : List Frame) (a : Array Value) (s : State) : State → Prop := fun t => ∃ o, t.status = .running ∧ Ended t below o ∧ lw_Q a s o t
/-- the law's own end, with 1 on the stack, nothing written that was there before, its room as the claim has it -/
theorem lw_ret {p : Program} {l : Launch} {e : Env} {s : State} {m : MethodId} {below : List Frame} {meth : Method} {c : Code} {b : Nat} (hx : p.tables.exec = Jvm.exec) (hb : c.code = code) (hr : meth.sig.returnType = ret) (hlocks : meth.locks = false) {pc : Nat} {H : Heap} {ls : Array Slot} (hdg : decode code pc = .ok (.ireturn, 1)) : W p l e room_1 s m #[Value.ref b] below meth c H [] 600000 room_1.slots (lw_Z below #[Value.ref b] s) (F0 m pc ls [.int 1]) := by
  intro T hT X
  obtain ⟨fs, hret, hrun, hended, hW, hframe⟩ := X.leave (v := some (.int 1)) (hlocks := hlocks) (fun h => by rw [hr] at h; cases h)
  have hmeth' : T.vm.method? m = some meth := X.method'
  refine ⟨T.setFrames fs, ?_, .returned (some (.int 1)), hrun, hended, rfl, ⟨_, rfl⟩, hW, hframe⟩
  jvm_step X.here [X.here.top, hx, hb, hdg, hmeth', hr, ret, narrow_b1]
  (try refine ⟨rfl, ?_⟩); (try refine ⟨rfl, ?_⟩)
  first | (intro acts; rw [hret _ acts rfl rfl rfl]) | rw [hret _ _ rfl rfl rfl]
  exact Steps.refl _
/-- what holds at the law's entry: the machine, the code, the tables' words (any of lw_tbl by 'hts w (by decide +kernel)'), the script of L ints xs at the cell b, what the Statement gives of the start (any of its parts by flat_of_before) -/
def lw_At (p : Program) (s : State) (m : MethodId) (meth : Method) (c : Code) (b L : Nat) (xs : Nat → Int32) : Prop :=
  p.tables.exec = Jvm.exec ∧ c.code = code ∧ meth.sig.returnType = ret ∧ c.maxLocals = 4 ∧ s.vm.findClass R_law = some m.cls ∧ (∀ w ∈ lw_tbl, w.before #[Value.ref b] s = true) ∧ va_X b L xs s s.heap ∧ b < s.heap.size ∧ meth.locks = false ∧ (Jvm.Cond.and given_1 narrow_1).before #[Value.ref b] s = true
def stVs : List (List Int) := [[0, 15, 23, 28, 32, 43], [32767, 255, 31, 15, 2047, 3], [-9999, -99, -9, 0, -600, -1], [127, 127, 127, 128, 224]]
def stV (j : Nat) : List Int := stVs.getD j []
def Kst (L : Nat) : Nat → Nat × Nat := fun k => if k = 1000100 then (20, L) else if 1000000 ≤ k ∧ k < 1000004 then (20, (stV (k - 1000000)).length) else (99, 0)
def Vst (xs : Nat → Int) : Nat → Nat → AV := fun k i => if k = 1000100 then vI (xs i) else if 1000000 ≤ k ∧ k < 1000004 then vI ((stV (k - 1000000)).getD i 0) else vI 0
/-- the start: no cell yet; the script, and the class's rows of numbers -/
def hSt (L : Nat) (xs : Nat → Int) : AH := (0, 0, Kst L, Vst xs)
theorem hSt_N (L : Nat) (xs : Nat → Int) : hN (hSt L xs) = 0 := rfl
theorem hSt_S (L : Nat) (xs : Nat → Int) : hS (hSt L xs) = 0 := rfl
theorem stV_r : ∀ j, j < 4 → ∀ i, r32 ((stV j).getD i 0) := by
  intro j hj i
  have h1 : ∀ j, j < 4 → ∀ z ∈ stV j, r32 z := by decide +kernel
  rw [List.getD_eq_getElem?_getD]
  cases hc : (stV j)[i]? with
  | none => exact r32_0
  | some z => exact h1 j hj z (List.mem_of_getElem? hc)
theorem stV_len : ∀ j, j < 4 → (stV j).length ≤ 6 := by decide +kernel
theorem Kst_le {L : Nat} (hL : L ≤ 20000) (k : Nat) : (Kst L k).2 ≤ 20000 := by
  unfold Kst
  split
  · exact hL
  · split
    · have h1 := stV_len (k - 1000000) (by omega)
      dsimp only
      omega
    · exact Nat.zero_le _
theorem HW_st {L : Nat} {xs : Nat → Int} (hL : L ≤ 20000) (hx : ∀ i, r32 (xs i)) : HW (hSt L xs) := by
  refine ⟨fun k _ => ?_, fun k hk => absurd hk (Nat.not_lt_zero _), fun k i => ?_, Nat.zero_le _, fun k => ?_⟩
  · show 15 ≤ (Kst L k).1 ∧ ((Kst L k).1 = 20 → 1000000 ≤ k)
    unfold Kst
    split
    · exact ⟨(by decide : 15 ≤ 20), fun _ => by omega⟩
    · split
      · exact ⟨(by decide : 15 ≤ 20), fun _ => by omega⟩
      · exact ⟨(by decide : 15 ≤ 99), fun h => by cases h⟩
  · show wfv 0 (Vst xs k i)
    unfold Vst
    split
    · exact hx i
    · split
      · exact stV_r _ (by omega) i
      · exact r32_0
  · exact Kst_le hL k
def PureLaw (L : Nat) : Prop := ∀ xs : Nat → Int, (∀ i, r32 (xs i)) → XP 1000 321 0 (entL 4 [vR 1000100]) [] (hSt L xs) (fun r h => r = some (vI 1) ∧ hN h ≤ 600000 ∧ hS h ≤ room_1.slots)
theorem arr_K {s : State} {args : Array Value} {ty : FieldType} (h : (Cond.arrayClass ty).before args s = true) (hty : ∀ C, ty ≠ .object C) : ∃ c : ClassId, ArrOfT s c ty ∧ va_RA s c ty := by
  obtain ⟨c, k, comp, h1, h2, h3⟩ := Cond.arrayClass_spec h
  refine ⟨c, fun n z => ⟨fun k h => (by cases h), k, h2, comp, h3⟩, ?_⟩
  cases ty with
  | object C => exact absurd rfl (hty C)
  | _ => exact h1
theorem cls_K {s : State} {args : Array Value} (hts : ∀ w ∈ gtb, w.before args s = true) : ∃ (dC : Nat → ClassId) (dI : Nat → Nat → Nat), ∀ (k : Nat) (q : vw_C), vwCl[k]? = some q → u_Kn s q.1 q.2.1 q.2.2 (dC k) (dI k) := by
  have h : ∀ k : Nat, ∃ (c : ClassId) (i : Nat → Nat), ∀ q : vw_C, vwCl[k]? = some q → u_Kn s q.1 q.2.1 q.2.2 c i := by
    intro k
    by_cases hk : k < 11
    · obtain ⟨c, i, hc⟩ := u_known (C := (clT k).1) (T := (clT k).2.1) (N := nF k) (n := nF k) hts (lay_in hk) (by
        have ecl : (clT k).1 = cnm k := (of_decide_eq_true (List.all_eq_true.mp cl_ok k (List.mem_range.mpr hk))).2
        rw [ecl]
        exact hts _ (ins_in hk))
      refine ⟨c, i, fun q hq => ?_⟩
      rw [cl_at hk] at hq
      cases hq
      exact hc
    · refine ⟨0, fun _ => 0, fun q hq => ?_⟩
      have := (List.getElem?_eq_some_iff.mp hq).1
      rw [cl_len] at this
      exact absurd this hk
  exact ⟨fun k => (h k).choose, fun k => (h k).choose_spec.choose, fun k q hq => (h k).choose_spec.choose_spec q hq⟩
theorem stat_0 {args : Array Value} {s : State} {A : Nat → Prop} (hts : ∀ w ∈ lw_tbl, w.before args s = true) (hgv : (Jvm.Cond.and given_1 narrow_1).before args s = true) (hA : ∀ a : Nat, a < s.heap.size → ¬ A a) : ∃ t : Nat, va_Z (stn 0).1 (stn 0).2.1 (stn 0).2.2 (.ref t) A s s.heap ∧ va_T .int t (stV 0).length (fun i => .int (Int32.ofInt ((stV 0).getD i 0))) A s s.heap := by
  have hf := flat_of_before _ hgv
  have hel : ∀ j : Nat, j < 6 → (Term.elem (.static "HookSwings$Kept" "SHIFTS" "[I") (.int (Int32.ofNat j))).eval args s none [] s = some (.int (Int32.ofInt ((stV 0).getD j 0))) := by
    intro j hj
    match j, hj with
    | 0, _ => exact va_eqt (z := 0) (hf (.eq (.elem (.static "HookSwings$Kept" "SHIFTS" "[I") (.int 0)) (.int 0)) (by decide +kernel))
    | 1, _ => exact va_eqt (z := 15) (hf (.eq (.elem (.static "HookSwings$Kept" "SHIFTS" "[I") (.int 1)) (.int 15)) (by decide +kernel))
    | 2, _ => exact va_eqt (z := 23) (hf (.eq (.elem (.static "HookSwings$Kept" "SHIFTS" "[I") (.int 2)) (.int 23)) (by decide +kernel))
    | 3, _ => exact va_eqt (z := 28) (hf (.eq (.elem (.static "HookSwings$Kept" "SHIFTS" "[I") (.int 3)) (.int 28)) (by decide +kernel))
    | 4, _ => exact va_eqt (z := 32) (hf (.eq (.elem (.static "HookSwings$Kept" "SHIFTS" "[I") (.int 4)) (.int 32)) (by decide +kernel))
    | 5, _ => exact va_eqt (z := 43) (hf (.eq (.elem (.static "HookSwings$Kept" "SHIFTS" "[I") (.int 5)) (.int 43)) (by decide +kernel))
    | n + 6, hj => exact absurd hj (by omega)
  obtain ⟨t, h1, h2⟩ := va_Tof (tm := .static "HookSwings$Kept" "SHIFTS" "[I") (ty := .int) (N := 6) (f := fun i => .int (Int32.ofInt ((stV 0).getD i 0))) (A := A) (by decide) (hf _ (by decide +kernel)) (va_eqt (hf (.eq (.length (.static "HookSwings$Kept" "SHIFTS" "[I")) (.int 6)) (by decide +kernel))) hel hA
  exact ⟨t, va_Zref (hts (.laysStatic "HookSwings$Kept" "SHIFTS" "[I") (by decide +kernel)) (hts (.initialized "HookSwings$Kept") (by decide +kernel)) h1 hA, h2⟩
theorem stat_1 {args : Array Value} {s : State} {A : Nat → Prop} (hts : ∀ w ∈ lw_tbl, w.before args s = true) (hgv : (Jvm.Cond.and given_1 narrow_1).before args s = true) (hA : ∀ a : Nat, a < s.heap.size → ¬ A a) : ∃ t : Nat, va_Z (stn 1).1 (stn 1).2.1 (stn 1).2.2 (.ref t) A s s.heap ∧ va_T .int t (stV 1).length (fun i => .int (Int32.ofInt ((stV 1).getD i 0))) A s s.heap := by
  have hf := flat_of_before _ hgv
  have hel : ∀ j : Nat, j < 6 → (Term.elem (.static "HookSwings$Kept" "MASKS" "[I") (.int (Int32.ofNat j))).eval args s none [] s = some (.int (Int32.ofInt ((stV 1).getD j 0))) := by
    intro j hj
    match j, hj with
    | 0, _ => exact va_eqt (z := 32767) (hf (.eq (.elem (.static "HookSwings$Kept" "MASKS" "[I") (.int 0)) (.int 32767)) (by decide +kernel))
    | 1, _ => exact va_eqt (z := 255) (hf (.eq (.elem (.static "HookSwings$Kept" "MASKS" "[I") (.int 1)) (.int 255)) (by decide +kernel))
    | 2, _ => exact va_eqt (z := 31) (hf (.eq (.elem (.static "HookSwings$Kept" "MASKS" "[I") (.int 2)) (.int 31)) (by decide +kernel))
    | 3, _ => exact va_eqt (z := 15) (hf (.eq (.elem (.static "HookSwings$Kept" "MASKS" "[I") (.int 3)) (.int 15)) (by decide +kernel))
    | 4, _ => exact va_eqt (z := 2047) (hf (.eq (.elem (.static "HookSwings$Kept" "MASKS" "[I") (.int 4)) (.int 2047)) (by decide +kernel))
    | 5, _ => exact va_eqt (z := 3) (hf (.eq (.elem (.static "HookSwings$Kept" "MASKS" "[I") (.int 5)) (.int 3)) (by decide +kernel))
    | n + 6, hj => exact absurd hj (by omega)
  obtain ⟨t, h1, h2⟩ := va_Tof (tm := .static "HookSwings$Kept" "MASKS" "[I") (ty := .int) (N := 6) (f := fun i => .int (Int32.ofInt ((stV 1).getD i 0))) (A := A) (by decide) (hf _ (by decide +kernel)) (va_eqt (hf (.eq (.length (.static "HookSwings$Kept" "MASKS" "[I")) (.int 6)) (by decide +kernel))) hel hA
  exact ⟨t, va_Zref (hts (.laysStatic "HookSwings$Kept" "MASKS" "[I") (by decide +kernel)) (hts (.initialized "HookSwings$Kept") (by decide +kernel)) h1 hA, h2⟩
theorem stat_2 {args : Array Value} {s : State} {A : Nat → Prop} (hts : ∀ w ∈ lw_tbl, w.before args s = true) (hgv : (Jvm.Cond.and given_1 narrow_1).before args s = true) (hA : ∀ a : Nat, a < s.heap.size → ¬ A a) : ∃ t : Nat, va_Z (stn 2).1 (stn 2).2.1 (stn 2).2.2 (.ref t) A s s.heap ∧ va_T .int t (stV 2).length (fun i => .int (Int32.ofInt ((stV 2).getD i 0))) A s s.heap := by
  have hf := flat_of_before _ hgv
  have hel : ∀ j : Nat, j < 6 → (Term.elem (.static "HookSwings$Kept" "LEASTS" "[I") (.int (Int32.ofNat j))).eval args s none [] s = some (.int (Int32.ofInt ((stV 2).getD j 0))) := by
    intro j hj
    match j, hj with
    | 0, _ => exact va_eqt (z := -9999) (hf (.eq (.elem (.static "HookSwings$Kept" "LEASTS" "[I") (.int 0)) (.int (-9999))) (by decide +kernel))
    | 1, _ => exact va_eqt (z := -99) (hf (.eq (.elem (.static "HookSwings$Kept" "LEASTS" "[I") (.int 1)) (.int (-99))) (by decide +kernel))
    | 2, _ => exact va_eqt (z := -9) (hf (.eq (.elem (.static "HookSwings$Kept" "LEASTS" "[I") (.int 2)) (.int (-9))) (by decide +kernel))
    | 3, _ => exact va_eqt (z := 0) (hf (.eq (.elem (.static "HookSwings$Kept" "LEASTS" "[I") (.int 3)) (.int 0)) (by decide +kernel))
    | 4, _ => exact va_eqt (z := -600) (hf (.eq (.elem (.static "HookSwings$Kept" "LEASTS" "[I") (.int 4)) (.int (-600))) (by decide +kernel))
    | 5, _ => exact va_eqt (z := -1) (hf (.eq (.elem (.static "HookSwings$Kept" "LEASTS" "[I") (.int 5)) (.int (-1))) (by decide +kernel))
    | n + 6, hj => exact absurd hj (by omega)
  obtain ⟨t, h1, h2⟩ := va_Tof (tm := .static "HookSwings$Kept" "LEASTS" "[I") (ty := .int) (N := 6) (f := fun i => .int (Int32.ofInt ((stV 2).getD i 0))) (A := A) (by decide) (hf _ (by decide +kernel)) (va_eqt (hf (.eq (.length (.static "HookSwings$Kept" "LEASTS" "[I")) (.int 6)) (by decide +kernel))) hel hA
  exact ⟨t, va_Zref (hts (.laysStatic "HookSwings$Kept" "LEASTS" "[I") (by decide +kernel)) (hts (.initialized "HookSwings$Kept") (by decide +kernel)) h1 hA, h2⟩
theorem stat_3 {args : Array Value} {s : State} {A : Nat → Prop} (hts : ∀ w ∈ lw_tbl, w.before args s = true) (hgv : (Jvm.Cond.and given_1 narrow_1).before args s = true) (hA : ∀ a : Nat, a < s.heap.size → ¬ A a) : ∃ t : Nat, va_Z (stn 3).1 (stn 3).2.1 (stn 3).2.2 (.ref t) A s s.heap ∧ va_T .int t (stV 3).length (fun i => .int (Int32.ofInt ((stV 3).getD i 0))) A s s.heap := by
  have hf := flat_of_before _ hgv
  have hel : ∀ j : Nat, j < 5 → (Term.elem (.static "HookSwings$Reader" "NAMES" "[I") (.int (Int32.ofNat j))).eval args s none [] s = some (.int (Int32.ofInt ((stV 3).getD j 0))) := by
    intro j hj
    match j, hj with
    | 0, _ => exact va_eqt (z := 127) (hf (.eq (.elem (.static "HookSwings$Reader" "NAMES" "[I") (.int 0)) (.int 127)) (by decide +kernel))
    | 1, _ => exact va_eqt (z := 127) (hf (.eq (.elem (.static "HookSwings$Reader" "NAMES" "[I") (.int 1)) (.int 127)) (by decide +kernel))
    | 2, _ => exact va_eqt (z := 127) (hf (.eq (.elem (.static "HookSwings$Reader" "NAMES" "[I") (.int 2)) (.int 127)) (by decide +kernel))
    | 3, _ => exact va_eqt (z := 128) (hf (.eq (.elem (.static "HookSwings$Reader" "NAMES" "[I") (.int 3)) (.int 128)) (by decide +kernel))
    | 4, _ => exact va_eqt (z := 224) (hf (.eq (.elem (.static "HookSwings$Reader" "NAMES" "[I") (.int 4)) (.int 224)) (by decide +kernel))
    | n + 5, hj => exact absurd hj (by omega)
  obtain ⟨t, h1, h2⟩ := va_Tof (tm := .static "HookSwings$Reader" "NAMES" "[I") (ty := .int) (N := 5) (f := fun i => .int (Int32.ofInt ((stV 3).getD i 0))) (A := A) (by decide) (hf _ (by decide +kernel)) (va_eqt (hf (.eq (.length (.static "HookSwings$Reader" "NAMES" "[I")) (.int 5)) (by decide +kernel))) hel hA
  exact ⟨t, va_Zref (hts (.laysStatic "HookSwings$Reader" "NAMES" "[I") (by decide +kernel)) (hts (.initialized "HookSwings$Reader") (by decide +kernel)) h1 hA, h2⟩
set_option maxRecDepth 100000 in
set_option maxHeartbeats 4000000 in
theorem stat_S {args : Array Value} {s : State} {A : Nat → Prop} (hts : ∀ w ∈ lw_tbl, w.before args s = true) (hgv : (Jvm.Cond.and given_1 narrow_1).before args s = true) (hA : ∀ a : Nat, a < s.heap.size → ¬ A a) : ∃ q v : Nat, vk_R "HookSwings$Tokens" 61 wdS q s ∧ SR q v A s s.heap := by
  have hf := flat_of_before _ hgv
  obtain ⟨a, c, cA, kA, q1, q2, q3, q4, q5, q6, -⟩ := Cond.exactly_spec (args := args) (first := s) (o := none) (s := s) (idx := []) (t := .string "HookSwings$Tokens" 61) (cls := "java/lang/String") (hf _ (by decide +kernel))
  have hel : ∀ j : Nat, j < 160 → (Term.elem (.field (.string "HookSwings$Tokens" 61) "java/lang/String" "value" "[B") (.int (Int32.ofNat j))).eval args s none [] s = some (.int (Int32.ofInt (wdB.getD j 0))) := by
    intro j hj
    match j, hj with
    | 0, _ => exact va_eqt (z := 112) (hf (.eq (.elem (.field (.string "HookSwings$Tokens" 61) "java/lang/String" "value" "[B") (.int 0)) (.int 112)) (by decide +kernel))
    | 1, _ => exact va_eqt (z := 97) (hf (.eq (.elem (.field (.string "HookSwings$Tokens" 61) "java/lang/String" "value" "[B") (.int 1)) (.int 97)) (by decide +kernel))
    | 2, _ => exact va_eqt (z := 99) (hf (.eq (.elem (.field (.string "HookSwings$Tokens" 61) "java/lang/String" "value" "[B") (.int 2)) (.int 99)) (by decide +kernel))
    | 3, _ => exact va_eqt (z := 101) (hf (.eq (.elem (.field (.string "HookSwings$Tokens" 61) "java/lang/String" "value" "[B") (.int 3)) (.int 101)) (by decide +kernel))
    | 4, _ => exact va_eqt (z := 115) (hf (.eq (.elem (.field (.string "HookSwings$Tokens" 61) "java/lang/String" "value" "[B") (.int 4)) (.int 115)) (by decide +kernel))
    | 5, _ => exact va_eqt (z := 32) (hf (.eq (.elem (.field (.string "HookSwings$Tokens" 61) "java/lang/String" "value" "[B") (.int 5)) (.int 32)) (by decide +kernel))
    | 6, _ => exact va_eqt (z := 115) (hf (.eq (.elem (.field (.string "HookSwings$Tokens" 61) "java/lang/String" "value" "[B") (.int 6)) (.int 115)) (by decide +kernel))
    | 7, _ => exact va_eqt (z := 119) (hf (.eq (.elem (.field (.string "HookSwings$Tokens" 61) "java/lang/String" "value" "[B") (.int 7)) (.int 119)) (by decide +kernel))
    | 8, _ => exact va_eqt (z := 105) (hf (.eq (.elem (.field (.string "HookSwings$Tokens" 61) "java/lang/String" "value" "[B") (.int 8)) (.int 105)) (by decide +kernel))
    | 9, _ => exact va_eqt (z := 110) (hf (.eq (.elem (.field (.string "HookSwings$Tokens" 61) "java/lang/String" "value" "[B") (.int 9)) (.int 110)) (by decide +kernel))
    | 10, _ => exact va_eqt (z := 103) (hf (.eq (.elem (.field (.string "HookSwings$Tokens" 61) "java/lang/String" "value" "[B") (.int 10)) (.int 103)) (by decide +kernel))
    | 11, _ => exact va_eqt (z := 115) (hf (.eq (.elem (.field (.string "HookSwings$Tokens" 61) "java/lang/String" "value" "[B") (.int 11)) (.int 115)) (by decide +kernel))
    | 12, _ => exact va_eqt (z := 32) (hf (.eq (.elem (.field (.string "HookSwings$Tokens" 61) "java/lang/String" "value" "[B") (.int 12)) (.int 32)) (by decide +kernel))
    | 13, _ => exact va_eqt (z := 104) (hf (.eq (.elem (.field (.string "HookSwings$Tokens" 61) "java/lang/String" "value" "[B") (.int 13)) (.int 104)) (by decide +kernel))
    | 14, _ => exact va_eqt (z := 97) (hf (.eq (.elem (.field (.string "HookSwings$Tokens" 61) "java/lang/String" "value" "[B") (.int 14)) (.int 97)) (by decide +kernel))
    | 15, _ => exact va_eqt (z := 110) (hf (.eq (.elem (.field (.string "HookSwings$Tokens" 61) "java/lang/String" "value" "[B") (.int 15)) (.int 110)) (by decide +kernel))
    | 16, _ => exact va_eqt (z := 100) (hf (.eq (.elem (.field (.string "HookSwings$Tokens" 61) "java/lang/String" "value" "[B") (.int 16)) (.int 100)) (by decide +kernel))
    | 17, _ => exact va_eqt (z := 32) (hf (.eq (.elem (.field (.string "HookSwings$Tokens" 61) "java/lang/String" "value" "[B") (.int 17)) (.int 32)) (by decide +kernel))
    | 18, _ => exact va_eqt (z := 104) (hf (.eq (.elem (.field (.string "HookSwings$Tokens" 61) "java/lang/String" "value" "[B") (.int 18)) (.int 104)) (by decide +kernel))
    | 19, _ => exact va_eqt (z := 111) (hf (.eq (.elem (.field (.string "HookSwings$Tokens" 61) "java/lang/String" "value" "[B") (.int 19)) (.int 111)) (by decide +kernel))
    | 20, _ => exact va_eqt (z := 108) (hf (.eq (.elem (.field (.string "HookSwings$Tokens" 61) "java/lang/String" "value" "[B") (.int 20)) (.int 108)) (by decide +kernel))
    | 21, _ => exact va_eqt (z := 100) (hf (.eq (.elem (.field (.string "HookSwings$Tokens" 61) "java/lang/String" "value" "[B") (.int 21)) (.int 100)) (by decide +kernel))
    | 22, _ => exact va_eqt (z := 115) (hf (.eq (.elem (.field (.string "HookSwings$Tokens" 61) "java/lang/String" "value" "[B") (.int 22)) (.int 115)) (by decide +kernel))
    | 23, _ => exact va_eqt (z := 32) (hf (.eq (.elem (.field (.string "HookSwings$Tokens" 61) "java/lang/String" "value" "[B") (.int 23)) (.int 32)) (by decide +kernel))
    | 24, _ => exact va_eqt (z := 108) (hf (.eq (.elem (.field (.string "HookSwings$Tokens" 61) "java/lang/String" "value" "[B") (.int 24)) (.int 108)) (by decide +kernel))
    | 25, _ => exact va_eqt (z := 97) (hf (.eq (.elem (.field (.string "HookSwings$Tokens" 61) "java/lang/String" "value" "[B") (.int 25)) (.int 97)) (by decide +kernel))
    | 26, _ => exact va_eqt (z := 115) (hf (.eq (.elem (.field (.string "HookSwings$Tokens" 61) "java/lang/String" "value" "[B") (.int 26)) (.int 115)) (by decide +kernel))
    | 27, _ => exact va_eqt (z := 116) (hf (.eq (.elem (.field (.string "HookSwings$Tokens" 61) "java/lang/String" "value" "[B") (.int 27)) (.int 116)) (by decide +kernel))
    | 28, _ => exact va_eqt (z := 115) (hf (.eq (.elem (.field (.string "HookSwings$Tokens" 61) "java/lang/String" "value" "[B") (.int 28)) (.int 115)) (by decide +kernel))
    | 29, _ => exact va_eqt (z := 32) (hf (.eq (.elem (.field (.string "HookSwings$Tokens" 61) "java/lang/String" "value" "[B") (.int 29)) (.int 32)) (by decide +kernel))
    | 30, _ => exact va_eqt (z := 111) (hf (.eq (.elem (.field (.string "HookSwings$Tokens" 61) "java/lang/String" "value" "[B") (.int 30)) (.int 111)) (by decide +kernel))
    | 31, _ => exact va_eqt (z := 114) (hf (.eq (.elem (.field (.string "HookSwings$Tokens" 61) "java/lang/String" "value" "[B") (.int 31)) (.int 114)) (by decide +kernel))
    | 32, _ => exact va_eqt (z := 100) (hf (.eq (.elem (.field (.string "HookSwings$Tokens" 61) "java/lang/String" "value" "[B") (.int 32)) (.int 100)) (by decide +kernel))
    | 33, _ => exact va_eqt (z := 101) (hf (.eq (.elem (.field (.string "HookSwings$Tokens" 61) "java/lang/String" "value" "[B") (.int 33)) (.int 101)) (by decide +kernel))
    | 34, _ => exact va_eqt (z := 114) (hf (.eq (.elem (.field (.string "HookSwings$Tokens" 61) "java/lang/String" "value" "[B") (.int 34)) (.int 114)) (by decide +kernel))
    | 35, _ => exact va_eqt (z := 32) (hf (.eq (.elem (.field (.string "HookSwings$Tokens" 61) "java/lang/String" "value" "[B") (.int 35)) (.int 32)) (by decide +kernel))
    | 36, _ => exact va_eqt (z := 109) (hf (.eq (.elem (.field (.string "HookSwings$Tokens" 61) "java/lang/String" "value" "[B") (.int 36)) (.int 109)) (by decide +kernel))
    | 37, _ => exact va_eqt (z := 111) (hf (.eq (.elem (.field (.string "HookSwings$Tokens" 61) "java/lang/String" "value" "[B") (.int 37)) (.int 111)) (by decide +kernel))
    | 38, _ => exact va_eqt (z := 118) (hf (.eq (.elem (.field (.string "HookSwings$Tokens" 61) "java/lang/String" "value" "[B") (.int 38)) (.int 118)) (by decide +kernel))
    | 39, _ => exact va_eqt (z := 101) (hf (.eq (.elem (.field (.string "HookSwings$Tokens" 61) "java/lang/String" "value" "[B") (.int 39)) (.int 101)) (by decide +kernel))
    | 40, _ => exact va_eqt (z := 32) (hf (.eq (.elem (.field (.string "HookSwings$Tokens" 61) "java/lang/String" "value" "[B") (.int 40)) (.int 32)) (by decide +kernel))
    | 41, _ => exact va_eqt (z := 114) (hf (.eq (.elem (.field (.string "HookSwings$Tokens" 61) "java/lang/String" "value" "[B") (.int 41)) (.int 114)) (by decide +kernel))
    | 42, _ => exact va_eqt (z := 117) (hf (.eq (.elem (.field (.string "HookSwings$Tokens" 61) "java/lang/String" "value" "[B") (.int 42)) (.int 117)) (by decide +kernel))
    | 43, _ => exact va_eqt (z := 110) (hf (.eq (.elem (.field (.string "HookSwings$Tokens" 61) "java/lang/String" "value" "[B") (.int 43)) (.int 110)) (by decide +kernel))
    | 44, _ => exact va_eqt (z := 32) (hf (.eq (.elem (.field (.string "HookSwings$Tokens" 61) "java/lang/String" "value" "[B") (.int 44)) (.int 32)) (by decide +kernel))
    | 45, _ => exact va_eqt (z := 97) (hf (.eq (.elem (.field (.string "HookSwings$Tokens" 61) "java/lang/String" "value" "[B") (.int 45)) (.int 97)) (by decide +kernel))
    | 46, _ => exact va_eqt (z := 105) (hf (.eq (.elem (.field (.string "HookSwings$Tokens" 61) "java/lang/String" "value" "[B") (.int 46)) (.int 105)) (by decide +kernel))
    | 47, _ => exact va_eqt (z := 109) (hf (.eq (.elem (.field (.string "HookSwings$Tokens" 61) "java/lang/String" "value" "[B") (.int 47)) (.int 109)) (by decide +kernel))
    | 48, _ => exact va_eqt (z := 32) (hf (.eq (.elem (.field (.string "HookSwings$Tokens" 61) "java/lang/String" "value" "[B") (.int 48)) (.int 32)) (by decide +kernel))
    | 49, _ => exact va_eqt (z := 104) (hf (.eq (.elem (.field (.string "HookSwings$Tokens" 61) "java/lang/String" "value" "[B") (.int 49)) (.int 104)) (by decide +kernel))
    | 50, _ => exact va_eqt (z := 111) (hf (.eq (.elem (.field (.string "HookSwings$Tokens" 61) "java/lang/String" "value" "[B") (.int 50)) (.int 111)) (by decide +kernel))
    | 51, _ => exact va_eqt (z := 111) (hf (.eq (.elem (.field (.string "HookSwings$Tokens" 61) "java/lang/String" "value" "[B") (.int 51)) (.int 111)) (by decide +kernel))
    | 52, _ => exact va_eqt (z := 107) (hf (.eq (.elem (.field (.string "HookSwings$Tokens" 61) "java/lang/String" "value" "[B") (.int 52)) (.int 107)) (by decide +kernel))
    | 53, _ => exact va_eqt (z := 32) (hf (.eq (.elem (.field (.string "HookSwings$Tokens" 61) "java/lang/String" "value" "[B") (.int 53)) (.int 32)) (by decide +kernel))
    | 54, _ => exact va_eqt (z := 108) (hf (.eq (.elem (.field (.string "HookSwings$Tokens" 61) "java/lang/String" "value" "[B") (.int 54)) (.int 108)) (by decide +kernel))
    | 55, _ => exact va_eqt (z := 97) (hf (.eq (.elem (.field (.string "HookSwings$Tokens" 61) "java/lang/String" "value" "[B") (.int 55)) (.int 97)) (by decide +kernel))
    | 56, _ => exact va_eqt (z := 110) (hf (.eq (.elem (.field (.string "HookSwings$Tokens" 61) "java/lang/String" "value" "[B") (.int 56)) (.int 110)) (by decide +kernel))
    | 57, _ => exact va_eqt (z := 100) (hf (.eq (.elem (.field (.string "HookSwings$Tokens" 61) "java/lang/String" "value" "[B") (.int 57)) (.int 100)) (by decide +kernel))
    | 58, _ => exact va_eqt (z := 32) (hf (.eq (.elem (.field (.string "HookSwings$Tokens" 61) "java/lang/String" "value" "[B") (.int 58)) (.int 32)) (by decide +kernel))
    | 59, _ => exact va_eqt (z := 97) (hf (.eq (.elem (.field (.string "HookSwings$Tokens" 61) "java/lang/String" "value" "[B") (.int 59)) (.int 97)) (by decide +kernel))
    | 60, _ => exact va_eqt (z := 119) (hf (.eq (.elem (.field (.string "HookSwings$Tokens" 61) "java/lang/String" "value" "[B") (.int 60)) (.int 119)) (by decide +kernel))
    | 61, _ => exact va_eqt (z := 97) (hf (.eq (.elem (.field (.string "HookSwings$Tokens" 61) "java/lang/String" "value" "[B") (.int 61)) (.int 97)) (by decide +kernel))
    | 62, _ => exact va_eqt (z := 121) (hf (.eq (.elem (.field (.string "HookSwings$Tokens" 61) "java/lang/String" "value" "[B") (.int 62)) (.int 121)) (by decide +kernel))
    | 63, _ => exact va_eqt (z := 32) (hf (.eq (.elem (.field (.string "HookSwings$Tokens" 61) "java/lang/String" "value" "[B") (.int 63)) (.int 32)) (by decide +kernel))
    | 64, _ => exact va_eqt (z := 115) (hf (.eq (.elem (.field (.string "HookSwings$Tokens" 61) "java/lang/String" "value" "[B") (.int 64)) (.int 115)) (by decide +kernel))
    | 65, _ => exact va_eqt (z := 112) (hf (.eq (.elem (.field (.string "HookSwings$Tokens" 61) "java/lang/String" "value" "[B") (.int 65)) (.int 112)) (by decide +kernel))
    | 66, _ => exact va_eqt (z := 101) (hf (.eq (.elem (.field (.string "HookSwings$Tokens" 61) "java/lang/String" "value" "[B") (.int 66)) (.int 101)) (by decide +kernel))
    | 67, _ => exact va_eqt (z := 101) (hf (.eq (.elem (.field (.string "HookSwings$Tokens" 61) "java/lang/String" "value" "[B") (.int 67)) (.int 101)) (by decide +kernel))
    | 68, _ => exact va_eqt (z := 100) (hf (.eq (.elem (.field (.string "HookSwings$Tokens" 61) "java/lang/String" "value" "[B") (.int 68)) (.int 100)) (by decide +kernel))
    | 69, _ => exact va_eqt (z := 32) (hf (.eq (.elem (.field (.string "HookSwings$Tokens" 61) "java/lang/String" "value" "[B") (.int 69)) (.int 32)) (by decide +kernel))
    | 70, _ => exact va_eqt (z := 112) (hf (.eq (.elem (.field (.string "HookSwings$Tokens" 61) "java/lang/String" "value" "[B") (.int 70)) (.int 112)) (by decide +kernel))
    | 71, _ => exact va_eqt (z := 97) (hf (.eq (.elem (.field (.string "HookSwings$Tokens" 61) "java/lang/String" "value" "[B") (.int 71)) (.int 97)) (by decide +kernel))
    | 72, _ => exact va_eqt (z := 99) (hf (.eq (.elem (.field (.string "HookSwings$Tokens" 61) "java/lang/String" "value" "[B") (.int 72)) (.int 99)) (by decide +kernel))
    | 73, _ => exact va_eqt (z := 101) (hf (.eq (.elem (.field (.string "HookSwings$Tokens" 61) "java/lang/String" "value" "[B") (.int 73)) (.int 101)) (by decide +kernel))
    | 74, _ => exact va_eqt (z := 32) (hf (.eq (.elem (.field (.string "HookSwings$Tokens" 61) "java/lang/String" "value" "[B") (.int 74)) (.int 32)) (by decide +kernel))
    | 75, _ => exact va_eqt (z := 119) (hf (.eq (.elem (.field (.string "HookSwings$Tokens" 61) "java/lang/String" "value" "[B") (.int 75)) (.int 119)) (by decide +kernel))
    | 76, _ => exact va_eqt (z := 105) (hf (.eq (.elem (.field (.string "HookSwings$Tokens" 61) "java/lang/String" "value" "[B") (.int 76)) (.int 105)) (by decide +kernel))
    | 77, _ => exact va_eqt (z := 110) (hf (.eq (.elem (.field (.string "HookSwings$Tokens" 61) "java/lang/String" "value" "[B") (.int 77)) (.int 110)) (by decide +kernel))
    | 78, _ => exact va_eqt (z := 100) (hf (.eq (.elem (.field (.string "HookSwings$Tokens" 61) "java/lang/String" "value" "[B") (.int 78)) (.int 100)) (by decide +kernel))
    | 79, _ => exact va_eqt (z := 32) (hf (.eq (.elem (.field (.string "HookSwings$Tokens" 61) "java/lang/String" "value" "[B") (.int 79)) (.int 32)) (by decide +kernel))
    | 80, _ => exact va_eqt (z := 103) (hf (.eq (.elem (.field (.string "HookSwings$Tokens" 61) "java/lang/String" "value" "[B") (.int 80)) (.int 103)) (by decide +kernel))
    | 81, _ => exact va_eqt (z := 111) (hf (.eq (.elem (.field (.string "HookSwings$Tokens" 61) "java/lang/String" "value" "[B") (.int 81)) (.int 111)) (by decide +kernel))
    | 82, _ => exact va_eqt (z := 97) (hf (.eq (.elem (.field (.string "HookSwings$Tokens" 61) "java/lang/String" "value" "[B") (.int 82)) (.int 97)) (by decide +kernel))
    | 83, _ => exact va_eqt (z := 108) (hf (.eq (.elem (.field (.string "HookSwings$Tokens" 61) "java/lang/String" "value" "[B") (.int 83)) (.int 108)) (by decide +kernel))
    | 84, _ => exact va_eqt (z := 32) (hf (.eq (.elem (.field (.string "HookSwings$Tokens" 61) "java/lang/String" "value" "[B") (.int 84)) (.int 32)) (by decide +kernel))
    | 85, _ => exact va_eqt (z := 114) (hf (.eq (.elem (.field (.string "HookSwings$Tokens" 61) "java/lang/String" "value" "[B") (.int 85)) (.int 114)) (by decide +kernel))
    | 86, _ => exact va_eqt (z := 111) (hf (.eq (.elem (.field (.string "HookSwings$Tokens" 61) "java/lang/String" "value" "[B") (.int 86)) (.int 111)) (by decide +kernel))
    | 87, _ => exact va_eqt (z := 112) (hf (.eq (.elem (.field (.string "HookSwings$Tokens" 61) "java/lang/String" "value" "[B") (.int 87)) (.int 112)) (by decide +kernel))
    | 88, _ => exact va_eqt (z := 101) (hf (.eq (.elem (.field (.string "HookSwings$Tokens" 61) "java/lang/String" "value" "[B") (.int 88)) (.int 101)) (by decide +kernel))
    | 89, _ => exact va_eqt (z := 32) (hf (.eq (.elem (.field (.string "HookSwings$Tokens" 61) "java/lang/String" "value" "[B") (.int 89)) (.int 32)) (by decide +kernel))
    | 90, _ => exact va_eqt (z := 119) (hf (.eq (.elem (.field (.string "HookSwings$Tokens" 61) "java/lang/String" "value" "[B") (.int 90)) (.int 119)) (by decide +kernel))
    | 91, _ => exact va_eqt (z := 101) (hf (.eq (.elem (.field (.string "HookSwings$Tokens" 61) "java/lang/String" "value" "[B") (.int 91)) (.int 101)) (by decide +kernel))
    | 92, _ => exact va_eqt (z := 105) (hf (.eq (.elem (.field (.string "HookSwings$Tokens" 61) "java/lang/String" "value" "[B") (.int 92)) (.int 105)) (by decide +kernel))
    | 93, _ => exact va_eqt (z := 103) (hf (.eq (.elem (.field (.string "HookSwings$Tokens" 61) "java/lang/String" "value" "[B") (.int 93)) (.int 103)) (by decide +kernel))
    | 94, _ => exact va_eqt (z := 104) (hf (.eq (.elem (.field (.string "HookSwings$Tokens" 61) "java/lang/String" "value" "[B") (.int 94)) (.int 104)) (by decide +kernel))
    | 95, _ => exact va_eqt (z := 116) (hf (.eq (.elem (.field (.string "HookSwings$Tokens" 61) "java/lang/String" "value" "[B") (.int 95)) (.int 116)) (by decide +kernel))
    | 96, _ => exact va_eqt (z := 32) (hf (.eq (.elem (.field (.string "HookSwings$Tokens" 61) "java/lang/String" "value" "[B") (.int 96)) (.int 32)) (by decide +kernel))
    | 97, _ => exact va_eqt (z := 121) (hf (.eq (.elem (.field (.string "HookSwings$Tokens" 61) "java/lang/String" "value" "[B") (.int 97)) (.int 121)) (by decide +kernel))
    | 98, _ => exact va_eqt (z := 97) (hf (.eq (.elem (.field (.string "HookSwings$Tokens" 61) "java/lang/String" "value" "[B") (.int 98)) (.int 97)) (by decide +kernel))
    | 99, _ => exact va_eqt (z := 114) (hf (.eq (.elem (.field (.string "HookSwings$Tokens" 61) "java/lang/String" "value" "[B") (.int 99)) (.int 114)) (by decide +kernel))
    | 100, _ => exact va_eqt (z := 100) (hf (.eq (.elem (.field (.string "HookSwings$Tokens" 61) "java/lang/String" "value" "[B") (.int 100)) (.int 100)) (by decide +kernel))
    | 101, _ => exact va_eqt (z := 32) (hf (.eq (.elem (.field (.string "HookSwings$Tokens" 61) "java/lang/String" "value" "[B") (.int 101)) (.int 32)) (by decide +kernel))
    | 102, _ => exact va_eqt (z := 97) (hf (.eq (.elem (.field (.string "HookSwings$Tokens" 61) "java/lang/String" "value" "[B") (.int 102)) (.int 97)) (by decide +kernel))
    | 103, _ => exact va_eqt (z := 116) (hf (.eq (.elem (.field (.string "HookSwings$Tokens" 61) "java/lang/String" "value" "[B") (.int 103)) (.int 116)) (by decide +kernel))
    | 104, _ => exact va_eqt (z := 32) (hf (.eq (.elem (.field (.string "HookSwings$Tokens" 61) "java/lang/String" "value" "[B") (.int 104)) (.int 32)) (by decide +kernel))
    | 105, _ => exact va_eqt (z := 100) (hf (.eq (.elem (.field (.string "HookSwings$Tokens" 61) "java/lang/String" "value" "[B") (.int 105)) (.int 100)) (by decide +kernel))
    | 106, _ => exact va_eqt (z := 117) (hf (.eq (.elem (.field (.string "HookSwings$Tokens" 61) "java/lang/String" "value" "[B") (.int 106)) (.int 117)) (by decide +kernel))
    | 107, _ => exact va_eqt (z := 101) (hf (.eq (.elem (.field (.string "HookSwings$Tokens" 61) "java/lang/String" "value" "[B") (.int 107)) (.int 101)) (by decide +kernel))
    | 108, _ => exact va_eqt (z := 32) (hf (.eq (.elem (.field (.string "HookSwings$Tokens" 61) "java/lang/String" "value" "[B") (.int 108)) (.int 32)) (by decide +kernel))
    | 109, _ => exact va_eqt (z := 109) (hf (.eq (.elem (.field (.string "HookSwings$Tokens" 61) "java/lang/String" "value" "[B") (.int 109)) (.int 109)) (by decide +kernel))
    | 110, _ => exact va_eqt (z := 101) (hf (.eq (.elem (.field (.string "HookSwings$Tokens" 61) "java/lang/String" "value" "[B") (.int 110)) (.int 101)) (by decide +kernel))
    | 111, _ => exact va_eqt (z := 110) (hf (.eq (.elem (.field (.string "HookSwings$Tokens" 61) "java/lang/String" "value" "[B") (.int 111)) (.int 110)) (by decide +kernel))
    | 112, _ => exact va_eqt (z := 32) (hf (.eq (.elem (.field (.string "HookSwings$Tokens" 61) "java/lang/String" "value" "[B") (.int 112)) (.int 32)) (by decide +kernel))
    | 113, _ => exact va_eqt (z := 105) (hf (.eq (.elem (.field (.string "HookSwings$Tokens" 61) "java/lang/String" "value" "[B") (.int 113)) (.int 105)) (by decide +kernel))
    | 114, _ => exact va_eqt (z := 110) (hf (.eq (.elem (.field (.string "HookSwings$Tokens" 61) "java/lang/String" "value" "[B") (.int 114)) (.int 110)) (by decide +kernel))
    | 115, _ => exact va_eqt (z := 32) (hf (.eq (.elem (.field (.string "HookSwings$Tokens" 61) "java/lang/String" "value" "[B") (.int 115)) (.int 32)) (by decide +kernel))
    | 116, _ => exact va_eqt (z := 111) (hf (.eq (.elem (.field (.string "HookSwings$Tokens" 61) "java/lang/String" "value" "[B") (.int 116)) (.int 111)) (by decide +kernel))
    | 117, _ => exact va_eqt (z := 110) (hf (.eq (.elem (.field (.string "HookSwings$Tokens" 61) "java/lang/String" "value" "[B") (.int 117)) (.int 110)) (by decide +kernel))
    | 118, _ => exact va_eqt (z := 32) (hf (.eq (.elem (.field (.string "HookSwings$Tokens" 61) "java/lang/String" "value" "[B") (.int 118)) (.int 32)) (by decide +kernel))
    | 119, _ => exact va_eqt (z := 111) (hf (.eq (.elem (.field (.string "HookSwings$Tokens" 61) "java/lang/String" "value" "[B") (.int 119)) (.int 111)) (by decide +kernel))
    | 120, _ => exact va_eqt (z := 117) (hf (.eq (.elem (.field (.string "HookSwings$Tokens" 61) "java/lang/String" "value" "[B") (.int 120)) (.int 117)) (by decide +kernel))
    | 121, _ => exact va_eqt (z := 116) (hf (.eq (.elem (.field (.string "HookSwings$Tokens" 61) "java/lang/String" "value" "[B") (.int 121)) (.int 116)) (by decide +kernel))
    | 122, _ => exact va_eqt (z := 32) (hf (.eq (.elem (.field (.string "HookSwings$Tokens" 61) "java/lang/String" "value" "[B") (.int 122)) (.int 32)) (by decide +kernel))
    | 123, _ => exact va_eqt (z := 105) (hf (.eq (.elem (.field (.string "HookSwings$Tokens" 61) "java/lang/String" "value" "[B") (.int 123)) (.int 105)) (by decide +kernel))
    | 124, _ => exact va_eqt (z := 102) (hf (.eq (.elem (.field (.string "HookSwings$Tokens" 61) "java/lang/String" "value" "[B") (.int 124)) (.int 102)) (by decide +kernel))
    | 125, _ => exact va_eqt (z := 32) (hf (.eq (.elem (.field (.string "HookSwings$Tokens" 61) "java/lang/String" "value" "[B") (.int 125)) (.int 32)) (by decide +kernel))
    | 126, _ => exact va_eqt (z := 116) (hf (.eq (.elem (.field (.string "HookSwings$Tokens" 61) "java/lang/String" "value" "[B") (.int 126)) (.int 116)) (by decide +kernel))
    | 127, _ => exact va_eqt (z := 104) (hf (.eq (.elem (.field (.string "HookSwings$Tokens" 61) "java/lang/String" "value" "[B") (.int 127)) (.int 104)) (by decide +kernel))
    | 128, _ => exact va_eqt (z := 101) (hf (.eq (.elem (.field (.string "HookSwings$Tokens" 61) "java/lang/String" "value" "[B") (.int 128)) (.int 101)) (by decide +kernel))
    | 129, _ => exact va_eqt (z := 110) (hf (.eq (.elem (.field (.string "HookSwings$Tokens" 61) "java/lang/String" "value" "[B") (.int 129)) (.int 110)) (by decide +kernel))
    | 130, _ => exact va_eqt (z := 32) (hf (.eq (.elem (.field (.string "HookSwings$Tokens" 61) "java/lang/String" "value" "[B") (.int 130)) (.int 32)) (by decide +kernel))
    | 131, _ => exact va_eqt (z := 101) (hf (.eq (.elem (.field (.string "HookSwings$Tokens" 61) "java/lang/String" "value" "[B") (.int 131)) (.int 101)) (by decide +kernel))
    | 132, _ => exact va_eqt (z := 108) (hf (.eq (.elem (.field (.string "HookSwings$Tokens" 61) "java/lang/String" "value" "[B") (.int 132)) (.int 108)) (by decide +kernel))
    | 133, _ => exact va_eqt (z := 115) (hf (.eq (.elem (.field (.string "HookSwings$Tokens" 61) "java/lang/String" "value" "[B") (.int 133)) (.int 115)) (by decide +kernel))
    | 134, _ => exact va_eqt (z := 101) (hf (.eq (.elem (.field (.string "HookSwings$Tokens" 61) "java/lang/String" "value" "[B") (.int 134)) (.int 101)) (by decide +kernel))
    | 135, _ => exact va_eqt (z := 32) (hf (.eq (.elem (.field (.string "HookSwings$Tokens" 61) "java/lang/String" "value" "[B") (.int 135)) (.int 32)) (by decide +kernel))
    | 136, _ => exact va_eqt (z := 101) (hf (.eq (.elem (.field (.string "HookSwings$Tokens" 61) "java/lang/String" "value" "[B") (.int 136)) (.int 101)) (by decide +kernel))
    | 137, _ => exact va_eqt (z := 110) (hf (.eq (.elem (.field (.string "HookSwings$Tokens" 61) "java/lang/String" "value" "[B") (.int 137)) (.int 110)) (by decide +kernel))
    | 138, _ => exact va_eqt (z := 100) (hf (.eq (.elem (.field (.string "HookSwings$Tokens" 61) "java/lang/String" "value" "[B") (.int 138)) (.int 100)) (by decide +kernel))
    | 139, _ => exact va_eqt (z := 32) (hf (.eq (.elem (.field (.string "HookSwings$Tokens" 61) "java/lang/String" "value" "[B") (.int 139)) (.int 32)) (by decide +kernel))
    | 140, _ => exact va_eqt (z := 111) (hf (.eq (.elem (.field (.string "HookSwings$Tokens" 61) "java/lang/String" "value" "[B") (.int 140)) (.int 111)) (by decide +kernel))
    | 141, _ => exact va_eqt (z := 114) (hf (.eq (.elem (.field (.string "HookSwings$Tokens" 61) "java/lang/String" "value" "[B") (.int 141)) (.int 114)) (by decide +kernel))
    | 142, _ => exact va_eqt (z := 32) (hf (.eq (.elem (.field (.string "HookSwings$Tokens" 61) "java/lang/String" "value" "[B") (.int 142)) (.int 32)) (by decide +kernel))
    | 143, _ => exact va_eqt (z := 97) (hf (.eq (.elem (.field (.string "HookSwings$Tokens" 61) "java/lang/String" "value" "[B") (.int 143)) (.int 97)) (by decide +kernel))
    | 144, _ => exact va_eqt (z := 110) (hf (.eq (.elem (.field (.string "HookSwings$Tokens" 61) "java/lang/String" "value" "[B") (.int 144)) (.int 110)) (by decide +kernel))
    | 145, _ => exact va_eqt (z := 100) (hf (.eq (.elem (.field (.string "HookSwings$Tokens" 61) "java/lang/String" "value" "[B") (.int 145)) (.int 100)) (by decide +kernel))
    | 146, _ => exact va_eqt (z := 32) (hf (.eq (.elem (.field (.string "HookSwings$Tokens" 61) "java/lang/String" "value" "[B") (.int 146)) (.int 32)) (by decide +kernel))
    | 147, _ => exact va_eqt (z := 110) (hf (.eq (.elem (.field (.string "HookSwings$Tokens" 61) "java/lang/String" "value" "[B") (.int 147)) (.int 110)) (by decide +kernel))
    | 148, _ => exact va_eqt (z := 111) (hf (.eq (.elem (.field (.string "HookSwings$Tokens" 61) "java/lang/String" "value" "[B") (.int 148)) (.int 111)) (by decide +kernel))
    | 149, _ => exact va_eqt (z := 116) (hf (.eq (.elem (.field (.string "HookSwings$Tokens" 61) "java/lang/String" "value" "[B") (.int 149)) (.int 116)) (by decide +kernel))
    | 150, _ => exact va_eqt (z := 32) (hf (.eq (.elem (.field (.string "HookSwings$Tokens" 61) "java/lang/String" "value" "[B") (.int 150)) (.int 32)) (by decide +kernel))
    | 151, _ => exact va_eqt (z := 115) (hf (.eq (.elem (.field (.string "HookSwings$Tokens" 61) "java/lang/String" "value" "[B") (.int 151)) (.int 115)) (by decide +kernel))
    | 152, _ => exact va_eqt (z := 105) (hf (.eq (.elem (.field (.string "HookSwings$Tokens" 61) "java/lang/String" "value" "[B") (.int 152)) (.int 105)) (by decide +kernel))
    | 153, _ => exact va_eqt (z := 122) (hf (.eq (.elem (.field (.string "HookSwings$Tokens" 61) "java/lang/String" "value" "[B") (.int 153)) (.int 122)) (by decide +kernel))
    | 154, _ => exact va_eqt (z := 101) (hf (.eq (.elem (.field (.string "HookSwings$Tokens" 61) "java/lang/String" "value" "[B") (.int 154)) (.int 101)) (by decide +kernel))
    | 155, _ => exact va_eqt (z := 32) (hf (.eq (.elem (.field (.string "HookSwings$Tokens" 61) "java/lang/String" "value" "[B") (.int 155)) (.int 32)) (by decide +kernel))
    | 156, _ => exact va_eqt (z := 97) (hf (.eq (.elem (.field (.string "HookSwings$Tokens" 61) "java/lang/String" "value" "[B") (.int 156)) (.int 97)) (by decide +kernel))
    | 157, _ => exact va_eqt (z := 103) (hf (.eq (.elem (.field (.string "HookSwings$Tokens" 61) "java/lang/String" "value" "[B") (.int 157)) (.int 103)) (by decide +kernel))
    | 158, _ => exact va_eqt (z := 111) (hf (.eq (.elem (.field (.string "HookSwings$Tokens" 61) "java/lang/String" "value" "[B") (.int 158)) (.int 111)) (by decide +kernel))
    | 159, _ => exact va_eqt (z := 32) (hf (.eq (.elem (.field (.string "HookSwings$Tokens" 61) "java/lang/String" "value" "[B") (.int 159)) (.int 32)) (by decide +kernel))
    | n + 160, hj => exact absurd hj (by omega)
  obtain ⟨t, h1, h2⟩ := va_Tof (tm := .field (.string "HookSwings$Tokens" 61) "java/lang/String" "value" "[B") (ty := .byte) (N := 160) (f := fun i => .int (Int32.ofInt (wdB.getD i 0))) (A := A) (by decide) (hf _ (by decide +kernel)) (va_eqt (hf (.eq (.length (.field (.string "HookSwings$Tokens" 61) "java/lang/String" "value" "[B")) (.int 160)) (by decide +kernel))) hel hA
  obtain ⟨f, g1, g2⟩ := Cond.isRef_spec (hf (.isRef (.static "jdk/internal/util/Preconditions" "SIOOBE_FORMATTER" "Ljava/util/function/BiFunction;")) (by decide +kernel))
  exact ⟨a, t, vk_R.of (hts (.stringRef "HookSwings$Tokens" 61 wdS) (by decide +kernel)) q1, va_Zof (hts (.laysStatic "java/lang/String" "COMPACT_STRINGS" "Z") (by decide +kernel)) (hts (.initialized "java/lang/String") (by decide +kernel)) (va_eqt (hf (.eq (.static "java/lang/String" "COMPACT_STRINGS" "Z") (.int 1)) (by decide +kernel))) hA,
    ⟨f, g2, va_Zof (hts (.laysStatic "jdk/internal/util/Preconditions" "SIOOBE_FORMATTER" "Ljava/util/function/BiFunction;") (by decide +kernel)) (hts (.initialized "jdk/internal/util/Preconditions") (by decide +kernel)) g1 hA⟩,
    ⟨cA, q3, q5, by rw [q6]; exact q2, hA a (Array.getElem?_eq_some_iff.mp q3).1⟩, vk_OFof q1 (va_eqt (hf (.eq (.field (.string "HookSwings$Tokens" 61) "java/lang/String" "coder" "B") (.int 0)) (by decide +kernel))) hA, vk_OFof q1 h1 hA, h2⟩
set_option maxRecDepth 100000 in
set_option maxHeartbeats 4000000 in
theorem law_start {p : Program} {e : Env} {s : State} {m : MethodId} {below : List Frame} {meth : Method} {c : Code} (l : Launch) {b L : Nat} {xs : Nat → Int32} (hL : L ≤ 20000) (C0 : lw_At p s m meth c b L xs) (hp : PureLaw L) : W p l e room_1 s m #[Value.ref b] below meth c s.heap [] 0 0 (lw_Z below #[Value.ref b] s) (entryFrame m ([Value.ref b] : List Value).toArray 4) := by
  obtain ⟨hx, hb, hr, hml, hown, hts, hX, hbl, hlocks, hgv⟩ := id C0
  have hgt : ∀ w ∈ gtb, w.before #[Value.ref b] s = true := fun w hw => hts w (List.mem_filter.mp hw).1
  have hA0 : ∀ a : Nat, a < s.heap.size → ¬ (fun q : Nat => s.heap.size ≤ q) a := fun a h => Nat.not_le.mpr h
  obtain ⟨dC, dI, hKc⟩ := cls_K hgt
  obtain ⟨c0, hc0⟩ := arr_K (hgt _ arr_int) (fun C => by intro h; cases h)
  obtain ⟨c1, hc1⟩ := arr_K (hgt _ arr_long) (fun C => by intro h; cases h)
  obtain ⟨c2, hc2⟩ := arr_K (hgt _ arr_boolean) (fun C => by intro h; cases h)
  have hao : va_AO RX6 s := va_AO.of (hts (.arrayOver (.object RX6)) (by decide +kernel))
  obtain ⟨comp, c3, k3, f1, f2, f3, f4, f5⟩ := Cond.arrayOver_spec hao
  obtain ⟨t0, z0, T0⟩ := stat_0 (A := fun q : Nat => s.heap.size ≤ q) hts hgv hA0
  obtain ⟨t1, z1, T1⟩ := stat_1 (A := fun q : Nat => s.heap.size ≤ q) hts hgv hA0
  obtain ⟨t2, z2, T2⟩ := stat_2 (A := fun q : Nat => s.heap.size ≤ q) hts hgv hA0
  obtain ⟨t3, z3, T3⟩ := stat_3 (A := fun q : Nat => s.heap.size ≤ q) hts hgv hA0
  obtain ⟨t4, t5, z4, z5⟩ := stat_S (A := fun q : Nat => s.heap.size ≤ q) hts hgv hA0
  let cy : Nat → ClassId := fun k => if k = 0 then c0 else if k = 1 then c1 else if k = 2 then c2 else c3
  let ad : Nat → Nat := fun k => if k = 1000100 then b else if k = 1000000 then t0 else if k = 1000001 then t1 else if k = 1000002 then t2 else if k = 1000004 then t4 else if k = 1000005 then t5 else t3
  have hxr : ∀ i, r32 ((fun i => (xs i).toInt) i) := fun i => by
    have h1 := Int32.toInt_lt (xs i)
    have h2 := Int32.le_toInt (xs i)
    show r32 (xs i).toInt
    unfold r32; omega
  obtain ⟨n, r, hf, he, rfl, hN1, hS1⟩ := hp (fun i => (xs i).toInt) hxr
  have C : FC 321 1000 p s m #[Value.ref b] meth c room_1 := ⟨hx, hb, hml, hown, hgt, fun w hw => va_Nw.of (by
    obtain ⟨q, -, rfl⟩ := List.mem_map.mp hw
    rfl) (hts w (nst_mem hw)), hao, hlocks, hr, fun h => absurd h (by decide), by decide, by decide⟩
  have hRE : RE p l e room_1 s m #[Value.ref b] below meth c (lw_Z below #[Value.ref b] s) (dC, dI) cy (fun q : Nat => s.heap.size ≤ q) ad (hSt L (fun i => (xs i).toInt)) 321 (some (vI 1)) hf := by
    refine ⟨⟨?_, ?_⟩, fun ad' lsA H locs pcr hAG hSA hwr hW hok => ?_⟩
    · rw [hSt_N, show room_1.cells = 600000 from rfl, Nat.zero_add]; exact hN1
    · rw [hSt_S, Nat.zero_add]; exact hS1
    · obtain ⟨vK, vP, vD, vS, vA, vZ, vT, hHW⟩ := hW
      have hd : decode code pcr = .ok (.ireturn, 1) := by
        rcases hok with ⟨z, -⟩ | ⟨z, -, hd, -⟩ | ⟨z, hz, -⟩ | ⟨z, hz, -⟩
        · cases z
        · exact hd
        · cases hz
        · cases hz
      refine va_forget (fun q hq => vS.2.2 q hq) ?_
      refine W.widen (k := 600000) (n := room_1.slots) (by rw [hSt_N, Nat.sub_zero]; exact hN1) (by rw [hSt_S, Nat.sub_zero]; exact hS1) ?_
      exact lw_ret hx hb hr hlocks hd
  have hT : ∀ k, (hK (hSt L (fun i => (xs i).toInt)) k).1 = 20 → va_T .int (ad k) (hK (hSt L (fun i => (xs i).toInt)) k).2 (fun i => trV ad (hV (hSt L (fun i => (xs i).toInt)) k i)) (fun q : Nat => s.heap.size ≤ q) s s.heap := by
    intro k hk
    have hcs : k = 1000100 ∨ k = 1000000 ∨ k = 1000001 ∨ k = 1000002 ∨ k = 1000003 := by
      have hk : (Kst L k).1 = 20 := hk
      unfold Kst at hk
      split at hk
      · exact Or.inl ‹_›
      · split at hk
        · omega
        · cases hk
    rcases hcs with rfl | rfl | rfl | rfl | rfl
    · obtain ⟨scr, q1, q2, q3, q4, q5⟩ := hX
      refine ⟨scr, q1, q2, q3, by rw [q4]; exact Nat.le_refl _, by rw [q4]; rfl, fun j hj => ?_, hA0 b hbl⟩
      rw [q5 j hj]
      show some (Value.int (xs j)) = some (Value.int (Int32.ofInt (xs j).toInt))
      rw [Int32.ofInt_toInt]
    · exact T0
    · exact T1
    · exact T2
    · exact T3
  have G := (sim n 1000 321 0 _ [] _ _ _ he p l e room_1 s m #[Value.ref b] below meth c (lw_Z below #[Value.ref b] s) (dC, dI) cy (fun q : Nat => s.heap.size ≤ q) ad (hSt L (fun i => (xs i).toInt)) C hRE).2 ad _ s.heap [] (fun _ _ => rfl) ⟨Nat.le_refl _, Nat.le_refl _, fun _ _ => ⟨rfl, fun _ => rfl⟩⟩ (LV_entry (ad := ad) (as := [vR 1000100]) (n := 4) (by decide)) (LW_entry (fun v hv => by rw [List.mem_singleton.mp hv]; exact Or.inr (by decide))) (fun _ h => by cases h)
    ⟨⟨hKc, fun k q hq => ?_⟩, fun k q hq => (by cases hq), ⟨fun i j p q h => (by cases h), fun k q h => (by cases h)⟩, va_S.rf, fun _ h => h, ⟨fun j hj => ?_, z4, z5⟩, hT, HW_st hL hxr⟩
  · rw [Nat.sub_self, Nat.sub_self] at G
    rw [lg_entry_eq]
    exact G
  · match k, hq with
    | 0, hq => cases hq; exact hc0
    | 1, hq => cases hq; exact hc1
    | 2, hq => cases hq; exact hc2
    | 3, hq => cases hq; exact ⟨fun N z => ⟨(fun k h => by cases h), k3, f3, comp, f4⟩, k3, comp, f3, f4, f1, f5⟩
    | k + 4, hq => cases hq
  · match j, hj with
    | 0, _ => exact z0
    | 1, _ => exact z1
    | 2, _ => exact z2
    | 3, _ => exact z3
    | n + 4, hj => exact absurd hj (by omega)
