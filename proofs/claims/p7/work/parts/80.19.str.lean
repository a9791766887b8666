/-! the JDK's own rows of a String constant -/
abbrev jyL : MethodName := ⟨"java/lang/String", "length", "()I"⟩
abbrev jyC : MethodName := ⟨"java/lang/String", "coder", "()B"⟩
abbrev jyA : MethodName := ⟨"java/lang/String", "charAt", "(I)C"⟩
abbrev jyI : MethodName := ⟨"java/lang/String", "isLatin1", "()Z"⟩
abbrev jyT : MethodName := ⟨"java/lang/StringLatin1", "charAt", "([BI)C"⟩
abbrev jyX : MethodName := ⟨"java/lang/String", "checkIndex", "(II)V"⟩
abbrev jyP : MethodName := ⟨"jdk/internal/util/Preconditions", "checkIndex", "(IILjava/util/function/BiFunction;)I"⟩
abbrev cjL : Cond := .code jyL prog_15_method_54_code 1 (some .int)
abbrev cjC : Cond := .code jyC prog_15_method_152_code 1 (some .byte)
abbrev cjA : Cond := .code jyA prog_15_method_56_code 2 (some .char)
abbrev cjI : Cond := .code jyI prog_15_method_154_code 1 (some .boolean)
abbrev cjT : Cond := .code jyT prog_16_method_2_code 2 (some .char)
abbrev cjX : Cond := .code jyX prog_15_method_155_code 2 none
abbrev cjP : Cond := .code jyP prog_19_method_11_code 3 (some .int)
theorem cjL_in : cjL ∈ gtb := List.mem_filter.mpr ⟨tb_mem (j := 2) (t := 231) rfl, rfl⟩
theorem cjC_in : cjC ∈ gtb := List.mem_filter.mpr ⟨tb_mem (j := 2) (t := 235) rfl, rfl⟩
theorem cjA_in : cjA ∈ gtb := List.mem_filter.mpr ⟨tb_mem (j := 3) (t := 1) rfl, rfl⟩
theorem cjI_in : cjI ∈ gtb := List.mem_filter.mpr ⟨tb_mem (j := 3) (t := 5) rfl, rfl⟩
theorem cjT_in : cjT ∈ gtb := List.mem_filter.mpr ⟨tb_mem (j := 3) (t := 8) rfl, rfl⟩
theorem cjX_in : cjX ∈ gtb := List.mem_filter.mpr ⟨tb_mem (j := 3) (t := 11) rfl, rfl⟩
theorem cjP_in : cjP ∈ gtb := List.mem_filter.mpr ⟨tb_mem (j := 3) (t := 16) rfl, rfl⟩
theorem jgood {w : Cond} (h : w ∈ gtb) : GoodIn gtb (w :: gtb) := fun x hx => (List.mem_cons.mp hx).elim (fun e => by rw [e]; exact gtb_good _ h) (gtb_good x)
def rmJ (k : Nat) : Room := { frames := k, cells := 0, slots := 0, locals := 24 * k }
def Pj (As : List Value) (q v : Nat) : Array Value → State → Prop := va_Pc As (fun U => SR q v (fun _ => False) U U.heap)
def Qj (r : Option Value) : Array Value → State → Outcome → State → Prop := fun _ st oc t => oc = .returned r ∧ t.heap = st.heap
theorem Pj_blind {As : List Value} {q v : Nat} : FrameBlind (Pj As q v) := by
  intro a U g mk hp
  exact ⟨hp.1, SR.moved (u := U) (Vm.Alike.refl U.vm) hp.2⟩
theorem Pj_of {As : List Value} {q v : Nat} {s : State} (hS : SR q v (fun _ => False) s s.heap) : ∀ U : State, U.heap = s.heap → s.WarmedH U.vm → Pj As q v As.toArray U := by
  intro U hU hw
  refine ⟨rfl, ?_⟩
  show SR q v (fun _ => False) U U.heap
  rw [hU]
  exact hS.moved hw.alike
theorem L_nil {L : List Loc} (h : ∀ q ∈ L, (fun _ : Addr => False) q.base) : L = [] := by
  cases L with
  | nil => rfl
  | cons a L => exact (h a List.mem_cons_self).elim
section JS
variable {l : Launch} {q v : Nat}
set_option maxRecDepth 100000 in
set_option maxHeartbeats 4000000 in
theorem j_coder {k : Nat} : Met l jyC (cjC :: gtb) (rmJ k) (Pj [.ref q] q v) (Qj (some (.int 0))) 0 0 (fun _ => False) := by
  refine va_MetF (cc := prog_15_method_152_code) (maxL := 1) (ret := some .byte) (by decide +kernel) rfl ?_
  intro p e s m args below meth c s₁ B hml hv
  obtain ⟨rfl, hS⟩ := hv
  have hts := atoms_spec (ws := cjC :: gtb) B.pre
  have hown : s.vm.findClass "java/lang/String" = some m.cls := findClass_of_methodNamed B.named
  obtain ⟨h1, ⟨f, hf, h2⟩, h3, h4, h5, h6⟩ := hS
  have d0 : decode prog_15_method_152_code 0 = .ok (.getstatic 38, 3) := by decide +kernel
  have d3 : decode prog_15_method_152_code 3 = .ok (.ifCond .eq 10, 3) := by decide +kernel
  have d6 : decode prog_15_method_152_code 6 = .ok (.aload_n 0, 1) := by decide +kernel
  have d7 : decode prog_15_method_152_code 7 = .ok (.getfield 15, 3) := by decide +kernel
  have d10 : decode prog_15_method_152_code 10 = .ok (.goto 4, 3) := by decide +kernel
  have d14 : decode prog_15_method_152_code 14 = .ok (.ireturn, 1) := by decide +kernel
  rw [lg_entry_eq]
  refine va_gets B.exec B.bytes h1 va_S.rf hown (hts _ (List.mem_cons_of_mem _ (inT_mem (j := 2) (t := 236) (by decide +kernel)))) (fun _ h9 => h9) d0 ?_
  refine lv_if_eq B.exec B.bytes (tgt := 13) d3 (by decide) (fun z => absurd z (by decide)) (fun _ => ?_)
  refine lv_aload_n B.exec B.bytes (i := 0) (x := q) d6 rfl rfl ?_
  refine vk_getf B.exec B.bytes h4 va_S.rf hown (hts _ (List.mem_cons_of_mem _ (inT_mem (j := 8) (t := 180) (by decide +kernel)))) (fun _ h9 => h9) d7 ?_
  refine lv_goto B.exec B.bytes (tgt := 14) d10 (by decide) ?_
  exact W.zret B.exec B.bytes B.returns (by decide) (fun t ht hw => ⟨rfl, ht⟩) (fun q h => by cases h) d14 B.notSynchronized
set_option maxRecDepth 100000 in
set_option maxHeartbeats 4000000 in
theorem j_latin {k : Nat} : Met l jyI (cjI :: gtb) (rmJ k) (Pj [.ref q] q v) (Qj (some (.int 1))) 0 0 (fun _ => False) := by
  refine va_MetF (cc := prog_15_method_154_code) (maxL := 1) (ret := some .boolean) (by decide +kernel) rfl ?_
  intro p e s m args below meth c s₁ B hml hv
  obtain ⟨rfl, hS⟩ := hv
  have hts := atoms_spec (ws := cjI :: gtb) B.pre
  have hown : s.vm.findClass "java/lang/String" = some m.cls := findClass_of_methodNamed B.named
  obtain ⟨h1, ⟨f, hf, h2⟩, h3, h4, h5, h6⟩ := hS
  have d0 : decode prog_15_method_154_code 0 = .ok (.getstatic 38, 3) := by decide +kernel
  have d3 : decode prog_15_method_154_code 3 = .ok (.ifCond .eq 14, 3) := by decide +kernel
  have d6 : decode prog_15_method_154_code 6 = .ok (.aload_n 0, 1) := by decide +kernel
  have d7 : decode prog_15_method_154_code 7 = .ok (.getfield 15, 3) := by decide +kernel
  have d10 : decode prog_15_method_154_code 10 = .ok (.ifCond .ne 7, 3) := by decide +kernel
  have d13 : decode prog_15_method_154_code 13 = .ok (.iconst 1, 1) := by decide +kernel
  have d14 : decode prog_15_method_154_code 14 = .ok (.goto 4, 3) := by decide +kernel
  have d18 : decode prog_15_method_154_code 18 = .ok (.ireturn, 1) := by decide +kernel
  rw [lg_entry_eq]
  refine va_gets B.exec B.bytes h1 va_S.rf hown (hts _ (List.mem_cons_of_mem _ (inT_mem (j := 2) (t := 236) (by decide +kernel)))) (fun _ h9 => h9) d0 ?_
  refine lv_if_eq B.exec B.bytes (tgt := 17) d3 (by decide) (fun z => absurd z (by decide)) (fun _ => ?_)
  refine lv_aload_n B.exec B.bytes (i := 0) (x := q) d6 rfl rfl ?_
  refine vk_getf B.exec B.bytes h4 va_S.rf hown (hts _ (List.mem_cons_of_mem _ (inT_mem (j := 8) (t := 180) (by decide +kernel)))) (fun _ h9 => h9) d7 ?_
  refine lv_if_ne B.exec B.bytes (tgt := 17) d10 (by decide) (fun z => absurd rfl z) (fun _ => ?_)
  refine lv_iconst B.exec B.bytes d13 (v := 1) (by decide) ?_
  refine lv_goto B.exec B.bytes (tgt := 18) d14 (by decide) ?_
  exact W.zret B.exec B.bytes B.returns (by decide) (fun t ht hw => ⟨rfl, ht⟩) (fun q h => by cases h) d18 B.notSynchronized
theorem j_ix {k : Nat} (hk : k < 160) : ¬ Int32.ofInt (k : Int) < 0 ∧ Int32.ofInt (k : Int) < Int32.ofNat 160 ∧ (Int32.ofInt (k : Int)).toNatClampNeg = k := by
  have hr : r32 (k : Int) := by unfold r32; omega
  have h0 : r32 0 := by unfold r32; omega
  have h1 : r32 160 := by unfold r32; omega
  refine ⟨fun z => ?_, ?_, ?_⟩
  · have := (l32 hr h0).mp z
    omega
  · exact (l32 hr h1).mpr (by omega)
  · show (Int32.ofInt (k : Int)).toInt.toNat = k
    rw [t32r hr]
    rfl
set_option maxRecDepth 100000 in
set_option maxHeartbeats 4000000 in
theorem j_pre {d k : Nat} (hk : k < 160) (f : Value) (hf : f.isRef = true) : Met l jyP (cjP :: gtb) (rmJ d) (Pj [.int (Int32.ofInt (k : Int)), .int (Int32.ofNat 160), f] q v) (Qj (some (.int (Int32.ofInt (k : Int))))) 0 0 (fun _ => False) := by
  obtain ⟨i1, i2, i3⟩ := j_ix hk
  refine va_MetF (cc := prog_19_method_11_code) (maxL := 3) (ret := some .int) (by decide +kernel) rfl ?_
  intro p e s m args below meth c s₁ B hml hv
  obtain ⟨rfl, hS⟩ := hv
  have d0 : decode prog_19_method_11_code 0 = .ok (.iload_n 0, 1) := by decide +kernel
  have d1 : decode prog_19_method_11_code 1 = .ok (.ifCond .lt 8, 3) := by decide +kernel
  have d4 : decode prog_19_method_11_code 4 = .ok (.iload_n 0, 1) := by decide +kernel
  have d5 : decode prog_19_method_11_code 5 = .ok (.iload_n 1, 1) := by decide +kernel
  have d6 : decode prog_19_method_11_code 6 = .ok (.if_icmp .lt 10, 3) := by decide +kernel
  have d16 : decode prog_19_method_11_code 16 = .ok (.iload_n 0, 1) := by decide +kernel
  have d17 : decode prog_19_method_11_code 17 = .ok (.ireturn, 1) := by decide +kernel
  rw [lg_entry_eq]
  have l0 : ∀ n, ((lg_sl [.int (Int32.ofInt (k : Int)), .int (Int32.ofNat 160), f] ++ List.replicate n Slot.unset).toArray)[0]? = some (.val (.int (Int32.ofInt (k : Int)))) := fun _ => rfl
  have l1 : ∀ n, ((lg_sl [.int (Int32.ofInt (k : Int)), .int (Int32.ofNat 160), f] ++ List.replicate n Slot.unset).toArray)[1]? = some (.val (.int (Int32.ofNat 160))) := fun _ => rfl
  refine lv_iload_n B.exec B.bytes (i := 0) d0 rfl (l0 _) ?_
  refine lv_if_lt B.exec B.bytes (tgt := 9) d1 (by decide) (fun z => absurd z i1) (fun _ => ?_)
  refine lv_iload_n B.exec B.bytes (i := 0) d4 rfl (l0 _) ?_
  refine lv_iload_n B.exec B.bytes (i := 1) d5 rfl (l1 _) ?_
  refine lv_icmp_lt B.exec B.bytes (tgt := 16) d6 (by decide) (fun _ => ?_) (fun z => absurd i2 z)
  refine lv_iload_n B.exec B.bytes (i := 0) d16 rfl (l0 _) ?_
  exact W.iret B.exec B.bytes B.returns (fun t ht hw => ⟨rfl, ht⟩) (fun q h => by cases h) d17 B.notSynchronized
set_option maxRecDepth 100000 in
set_option maxHeartbeats 4000000 in
theorem j_check {d k : Nat} (hk : k < 160) : Met l jyX (cjX :: gtb) (rmJ (d + 1)) (Pj [.int (Int32.ofInt (k : Int)), .int (Int32.ofNat 160)] q v) (Qj none) 0 0 (fun _ => False) := by
  refine va_MetF (cc := prog_15_method_155_code) (maxL := 2) (ret := none) (by decide +kernel) rfl ?_
  intro p e s m args below meth c s₁ B hml hv
  obtain ⟨rfl, hS⟩ := hv
  have hts := atoms_spec (ws := cjX :: gtb) B.pre
  have hgt : ∀ w ∈ gtb, w.before ([.int (Int32.ofInt (k : Int)), .int (Int32.ofNat 160)] : List Value).toArray s = true := fun w hw => hts w (List.mem_cons_of_mem _ hw)
  have hown : s.vm.findClass "java/lang/String" = some m.cls := findClass_of_methodNamed B.named
  have hS0 := hS
  obtain ⟨h1, ⟨f, hf, h2⟩, h3, h4, h5, h6⟩ := hS
  have d0 : decode prog_15_method_155_code 0 = .ok (.iload_n 0, 1) := by decide +kernel
  have d1 : decode prog_15_method_155_code 1 = .ok (.iload_n 1, 1) := by decide +kernel
  have d2 : decode prog_15_method_155_code 2 = .ok (.getstatic 1053, 3) := by decide +kernel
  have d5 : decode prog_15_method_155_code 5 = .ok (.invokestatic 1059, 3) := by decide +kernel
  have d8 : decode prog_15_method_155_code 8 = .ok (.pop, 1) := by decide +kernel
  have d9 : decode prog_15_method_155_code 9 = .ok (.return_, 1) := by decide +kernel
  rw [lg_entry_eq]
  refine lv_iload_n B.exec B.bytes (i := 0) (x := Int32.ofInt (k : Int)) d0 rfl rfl ?_
  refine lv_iload_n B.exec B.bytes (i := 1) (x := Int32.ofNat 160) d1 rfl rfl ?_
  refine va_gets B.exec B.bytes h2 va_S.rf hown (hgt _ (inT_mem (j := 3) (t := 12) (by decide +kernel))) (fun _ h9 => h9) d2 ?_
  refine callG (va_runS (l := l) (mc := 0) (ms := 0) (As := [.int (Int32.ofInt (k : Int)), .int (Int32.ofNat 160), f]) (rest := []) ⟨B.exec, B.bytes, hml, hown, hgt⟩ (j_pre (q := q) (v := v) (d := d) hk f hf) ⟨callB_of (y := jyP) 3 hgt (jgood cjP_in) rfl rfl rfl (hgt _ (inT_mem (j := 1) (t := 15) (by decide +kernel))) (hgt _ (inT_mem (j := 3) (t := 14) (by decide +kernel))) (by decide +kernel) ⟨Nat.le_refl _, (by show 8 + (3 + 11) + 24 * d ≤ 24 * (d + 1); omega)⟩, hgt _ (inT_mem (j := 3) (t := 15) (by decide +kernel))⟩ ⟨Pj_blind, Pj_of hS0⟩ rfl rfl rfl rfl (Nat.le_of_ble_eq_true rfl) d5 ⟨Nat.le_refl _, Nat.le_refl _⟩) ?_
  intro v0 u t L hu hvm hq hL
  obtain ⟨hq1, hq2⟩ := hq
  injection hq1 with hq1
  subst hq1
  refine lv_pop B.exec B.bytes d8 rfl ?_
  exact W.vret B.exec B.bytes B.returns (fun t' ht hw => ⟨rfl, by rw [ht, hq2, hu]⟩) (fun q h => by rw [L_nil hL] at h; cases h) d9 B.notSynchronized
theorem wd_all : ∀ k, k < 160 → ((Int32.ofInt (wdB.getD k 0) &&& 255).toUInt32 % 65536).toInt32 = Int32.ofInt (wdB.getD k 0) ∧ narrow .char (.int (Int32.ofInt (wdB.getD k 0))) = .int (Int32.ofInt (wdB.getD k 0)) := by decide +kernel
set_option maxRecDepth 100000 in
set_option maxHeartbeats 4000000 in
theorem j_latAt {d k : Nat} (hk : k < 160) : Met l jyT (cjT :: gtb) (rmJ (d + 2)) (Pj [.ref v, .int (Int32.ofInt (k : Int))] q v) (Qj (some (.int (Int32.ofInt (wdB.getD k 0))))) 0 0 (fun _ => False) := by
  obtain ⟨i1, i2, i3⟩ := j_ix hk
  refine va_MetF (cc := prog_16_method_2_code) (maxL := 2) (ret := some .char) (by decide +kernel) rfl ?_
  intro p e s m args below meth c s₁ B hml hv
  obtain ⟨rfl, hS⟩ := hv
  have hts := atoms_spec (ws := cjT :: gtb) B.pre
  have hgt : ∀ w ∈ gtb, w.before ([.ref v, .int (Int32.ofInt (k : Int))] : List Value).toArray s = true := fun w hw => hts w (List.mem_cons_of_mem _ hw)
  have hown : s.vm.findClass "java/lang/StringLatin1" = some m.cls := findClass_of_methodNamed B.named
  have hS0 := hS
  obtain ⟨h1, h2, h3, h4, h5, ⟨cell, c1, c2, c3, c4, c5, c6, c7⟩⟩ := hS
  have d0 : decode prog_16_method_2_code 0 = .ok (.iload_n 1, 1) := by decide +kernel
  have d1 : decode prog_16_method_2_code 1 = .ok (.aload_n 0, 1) := by decide +kernel
  have d2 : decode prog_16_method_2_code 2 = .ok (.arraylength, 1) := by decide +kernel
  have d3 : decode prog_16_method_2_code 3 = .ok (.invokestatic 9, 3) := by decide +kernel
  have d6 : decode prog_16_method_2_code 6 = .ok (.aload_n 0, 1) := by decide +kernel
  have d7 : decode prog_16_method_2_code 7 = .ok (.iload_n 1, 1) := by decide +kernel
  have d8 : decode prog_16_method_2_code 8 = .ok (.baload, 1) := by decide +kernel
  have d9 : decode prog_16_method_2_code 9 = .ok (.sipush 255, 3) := by decide +kernel
  have d12 : decode prog_16_method_2_code 12 = .ok (.iand, 1) := by decide +kernel
  have d13 : decode prog_16_method_2_code 13 = .ok (.i2c, 1) := by decide +kernel
  have d14 : decode prog_16_method_2_code 14 = .ok (.ireturn, 1) := by decide +kernel
  rw [lg_entry_eq]
  refine lv_iload_n B.exec B.bytes (i := 1) (x := Int32.ofInt (k : Int)) d0 rfl rfl ?_
  refine lv_aload_n B.exec B.bytes (i := 0) (x := v) d1 rfl rfl ?_
  refine W.alen B.exec B.bytes c1 c2 c5 rfl rfl d2 ?_
  refine callG (va_runS (l := l) (mc := 0) (ms := 0) (As := [.int (Int32.ofInt (k : Int)), .int (Int32.ofNat 160)]) (rest := []) ⟨B.exec, B.bytes, hml, hown, hgt⟩ (j_check (q := q) (v := v) (d := d) hk) ⟨callB_of (y := jyX) 2 hgt (jgood cjX_in) rfl rfl rfl (hgt _ (inT_mem (j := 1) (t := 13) (by decide +kernel))) (hgt _ (inT_mem (j := 3) (t := 9) (by decide +kernel))) (by decide +kernel) ⟨Nat.le_refl _, (by show 8 + (2 + 11) + 24 * (d + 1) ≤ 24 * (d + 2); omega)⟩, hgt _ (inT_mem (j := 3) (t := 10) (by decide +kernel))⟩ ⟨Pj_blind, Pj_of hS0⟩ rfl rfl rfl rfl (Nat.le_of_ble_eq_true rfl) d3 ⟨Nat.le_refl _, Nat.le_refl _⟩) ?_
  intro v0 u t L hu hvm hq hL
  obtain ⟨hq1, hq2⟩ := hq
  injection hq1 with hq1
  subst hq1
  have hH : t.heap = s.heap := by rw [hq2, hu]
  rw [hH]
  refine lv_aload_n B.exec B.bytes (i := 0) (x := v) d6 rfl rfl ?_
  refine lv_iload_n B.exec B.bytes (i := 1) (x := Int32.ofInt (k : Int)) d7 rfl rfl ?_
  refine W.bald B.exec B.bytes (j := Int32.ofInt (k : Int)) (v := .int (Int32.ofInt (wdB.getD k 0))) c1 c2 c3 (by rw [i3]; rintro (z | z); exact i1 z; omega) (by rw [i3]; exact c6 k hk) rfl rfl d8 ?_
  refine lv_sipush B.exec B.bytes (v := 255) d9 (by decide) ?_
  refine lv_iand B.exec B.bytes d12 ?_
  refine lv_i2c B.exec B.bytes d13 (wd_all k hk).1 ?_
  exact W.zret B.exec B.bytes B.returns (wd_all k hk).2 (fun t' ht hw => ⟨rfl, ht⟩) (fun q h => by rw [L_nil hL] at h; cases h) d14 B.notSynchronized
set_option maxRecDepth 100000 in
set_option maxHeartbeats 4000000 in
theorem j_length {d : Nat} : Met l jyL (cjL :: gtb) (rmJ (d + 1)) (Pj [.ref q] q v) (Qj (some (.int 160))) 0 0 (fun _ => False) := by
  refine va_MetF (cc := prog_15_method_54_code) (maxL := 1) (ret := some .int) (by decide +kernel) rfl ?_
  intro p e s m args below meth c s₁ B hml hv
  obtain ⟨rfl, hS⟩ := hv
  have hts := atoms_spec (ws := cjL :: gtb) B.pre
  have hgt : ∀ w ∈ gtb, w.before ([.ref q] : List Value).toArray s = true := fun w hw => hts w (List.mem_cons_of_mem _ hw)
  have hown : s.vm.findClass "java/lang/String" = some m.cls := findClass_of_methodNamed B.named
  have hS0 := hS
  obtain ⟨h1, h2, ⟨cr, r1, r2, r3, -⟩, h4, h5, ⟨cell, c1, c2, c3, c4, c5, c6, c7⟩⟩ := hS
  have d0 : decode prog_15_method_54_code 0 = .ok (.aload_n 0, 1) := by decide +kernel
  have d1 : decode prog_15_method_54_code 1 = .ok (.getfield 9, 3) := by decide +kernel
  have d4 : decode prog_15_method_54_code 4 = .ok (.arraylength, 1) := by decide +kernel
  have d5 : decode prog_15_method_54_code 5 = .ok (.aload_n 0, 1) := by decide +kernel
  have d6 : decode prog_15_method_54_code 6 = .ok (.invokevirtual 335, 3) := by decide +kernel
  have d9 : decode prog_15_method_54_code 9 = .ok (.ishr, 1) := by decide +kernel
  have d10 : decode prog_15_method_54_code 10 = .ok (.ireturn, 1) := by decide +kernel
  rw [lg_entry_eq]
  refine lv_aload_n B.exec B.bytes (i := 0) (x := q) d0 rfl rfl ?_
  refine vk_getf B.exec B.bytes h5 va_S.rf hown (hgt _ (inT_mem (j := 8) (t := 179) (by decide +kernel))) (fun _ h9 => h9) d1 ?_
  refine W.alen B.exec B.bytes c1 c2 c5 rfl rfl d4 ?_
  refine lv_aload_n B.exec B.bytes (i := 0) (x := q) d5 rfl rfl ?_
  refine callG (va_runV (l := l) (mc := 0) (ms := 0) (C := "java/lang/String") (b := q) (As := []) (rest := [.int (Int32.ofNat 160)]) ⟨B.exec, B.bytes, hml, hown, hgt⟩ (j_coder (q := q) (v := v) (k := d)) ⟨callB_of (y := jyC) 0 hgt (jgood cjC_in) rfl rfl rfl (hgt _ (inT_mem (j := 1) (t := 13) (by decide +kernel))) (hgt _ (inT_mem (j := 2) (t := 232) (by decide +kernel))) (by decide +kernel) ⟨Nat.le_refl _, (by show 8 + (1 + 11) + 24 * d ≤ 24 * (d + 1); omega)⟩, hgt _ (inT_mem (j := 2) (t := 233) (by decide +kernel)), hgt _ (inT_mem (j := 2) (t := 234) (by decide +kernel))⟩ ⟨Pj_blind, ⟨cr, r1, r2, r3⟩, Pj_of hS0⟩ rfl rfl rfl rfl (Nat.le_of_ble_eq_true rfl) d6 ⟨Nat.le_refl _, Nat.le_refl _⟩) ?_
  intro v0 u t L hu hvm hq hL
  obtain ⟨hq1, hq2⟩ := hq
  injection hq1 with hq1
  subst hq1
  refine lv_ishr B.exec B.bytes d9 ?_
  exact W.iret B.exec B.bytes B.returns (fun t' ht hw => ⟨by decide, by rw [ht, hq2, hu]⟩) (fun q h => by rw [L_nil hL] at h; cases h) d10 B.notSynchronized
set_option maxRecDepth 100000 in
set_option maxHeartbeats 4000000 in
theorem j_charAt {d k : Nat} (hk : k < 160) : Met l jyA (cjA :: gtb) (rmJ (d + 3)) (Pj [.ref q, .int (Int32.ofInt (k : Int))] q v) (Qj (some (.int (Int32.ofInt (wdB.getD k 0))))) 0 0 (fun _ => False) := by
  refine va_MetF (cc := prog_15_method_56_code) (maxL := 2) (ret := some .char) (by decide +kernel) rfl ?_
  intro p e s m args below meth c s₁ B hml hv
  obtain ⟨rfl, hS⟩ := hv
  have hts := atoms_spec (ws := cjA :: gtb) B.pre
  have hgt : ∀ w ∈ gtb, w.before ([.ref q, .int (Int32.ofInt (k : Int))] : List Value).toArray s = true := fun w hw => hts w (List.mem_cons_of_mem _ hw)
  have hown : s.vm.findClass "java/lang/String" = some m.cls := findClass_of_methodNamed B.named
  have hS0 := hS
  obtain ⟨h1, h2, ⟨cr, r1, r2, r3, -⟩, h4, h5, h6⟩ := hS
  have d0 : decode prog_15_method_56_code 0 = .ok (.aload_n 0, 1) := by decide +kernel
  have d1 : decode prog_15_method_56_code 1 = .ok (.invokevirtual 492, 3) := by decide +kernel
  have d4 : decode prog_15_method_56_code 4 = .ok (.ifCond .eq 12, 3) := by decide +kernel
  have d7 : decode prog_15_method_56_code 7 = .ok (.aload_n 0, 1) := by decide +kernel
  have d8 : decode prog_15_method_56_code 8 = .ok (.getfield 9, 3) := by decide +kernel
  have d11 : decode prog_15_method_56_code 11 = .ok (.iload_n 1, 1) := by decide +kernel
  have d12 : decode prog_15_method_56_code 12 = .ok (.invokestatic 495, 3) := by decide +kernel
  have d15 : decode prog_15_method_56_code 15 = .ok (.ireturn, 1) := by decide +kernel
  rw [lg_entry_eq]
  refine lv_aload_n B.exec B.bytes (i := 0) (x := q) d0 rfl rfl ?_
  refine callG (va_runV (l := l) (mc := 0) (ms := 0) (C := "java/lang/String") (b := q) (As := []) (rest := []) ⟨B.exec, B.bytes, hml, hown, hgt⟩ (j_latin (q := q) (v := v) (k := d + 2)) ⟨callB_of (y := jyI) 0 hgt (jgood cjI_in) rfl rfl rfl (hgt _ (inT_mem (j := 1) (t := 13) (by decide +kernel))) (hgt _ (inT_mem (j := 3) (t := 2) (by decide +kernel))) (by decide +kernel) ⟨Nat.le_refl _, (by show 8 + (1 + 11) + 24 * (d + 2) ≤ 24 * (d + 3); omega)⟩, hgt _ (inT_mem (j := 3) (t := 3) (by decide +kernel)), hgt _ (inT_mem (j := 3) (t := 4) (by decide +kernel))⟩ ⟨Pj_blind, ⟨cr, r1, r2, r3⟩, Pj_of hS0⟩ rfl rfl rfl rfl (Nat.le_of_ble_eq_true rfl) d1 ⟨Nat.le_refl _, Nat.le_refl _⟩) ?_
  intro v0 u t L hu hvm hq hL
  obtain ⟨hq1, hq2⟩ := hq
  injection hq1 with hq1
  subst hq1
  have hH : t.heap = s.heap := by rw [hq2, hu]
  rw [hH]
  have hLn := L_nil hL
  subst hLn
  refine lv_if_eq B.exec B.bytes (tgt := 16) d4 (by decide) (fun z => absurd z (by decide)) (fun _ => ?_)
  refine lv_aload_n B.exec B.bytes (i := 0) (x := q) d7 rfl rfl ?_
  refine vk_getf B.exec B.bytes h5 va_S.rf hown (hgt _ (inT_mem (j := 8) (t := 179) (by decide +kernel))) (fun _ h9 => h9) d8 ?_
  refine lv_iload_n B.exec B.bytes (i := 1) (x := Int32.ofInt (k : Int)) d11 rfl rfl ?_
  refine callG (va_runS (l := l) (mc := 0) (ms := 0) (As := [.ref v, .int (Int32.ofInt (k : Int))]) (rest := []) ⟨B.exec, B.bytes, hml, hown, hgt⟩ (j_latAt (q := q) (v := v) (d := d) hk) ⟨callB_of (y := jyT) 2 hgt (jgood cjT_in) rfl rfl rfl (hgt _ (inT_mem (j := 1) (t := 14) (by decide +kernel))) (hgt _ (inT_mem (j := 3) (t := 6) (by decide +kernel))) (by decide +kernel) ⟨Nat.le_refl _, (by show 8 + (2 + 11) + 24 * (d + 2) ≤ 24 * (d + 3); omega)⟩, hgt _ (inT_mem (j := 3) (t := 7) (by decide +kernel))⟩ ⟨Pj_blind, Pj_of hS0⟩ rfl rfl rfl rfl (Nat.le_of_ble_eq_true rfl) d12 ⟨Nat.le_refl _, Nat.le_refl _⟩) ?_
  intro v0 u2 t2 L hu2 hvm2 hq hL
  obtain ⟨hq1, hq3⟩ := hq
  injection hq1 with hq1
  subst hq1
  exact W.zret B.exec B.bytes B.returns (wd_all k hk).2 (fun t' ht hw => ⟨rfl, by rw [ht, hq3, hu2]⟩) (fun q h => by rw [L_nil hL] at h; cases h) d15 B.notSynchronized
end JS
