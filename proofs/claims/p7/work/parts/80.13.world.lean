/-! the small machine's state, in the kit's words -/
section EX
theorem pI_ex {st : List AV} {k : Int → List AV → Prop} (h : pI False st k) : ∃ x st', st = .inl x :: st' ∧ k x st' := by
  unfold pI at h; split at h
  · exact ⟨_, _, rfl, h⟩
  · exact h.elim
theorem pL_ex {st : List AV} {k : Int → List AV → Prop} (h : pL False st k) : ∃ x st', st = .inr (.inl x) :: st' ∧ k x st' := by
  unfold pL at h; split at h
  · exact ⟨_, _, rfl, h⟩
  · exact h.elim
theorem pR_ex {st : List AV} {k : Nat → List AV → Prop} (h : pR False st k) : ∃ x st', st = .inr (.inr (some x)) :: st' ∧ k x st' := by
  unfold pR at h; split at h
  · exact ⟨_, _, rfl, h⟩
  · exact h.elim
theorem pV_ex {st : List AV} {k : AV → List AV → Prop} (h : pV False st k) : ∃ x st', st = x :: st' ∧ k x st' := by
  unfold pV at h; split at h
  · exact ⟨_, _, rfl, h⟩
  · exact h.elim
theorem oI_ex {o : Option Int} {k : Int → Prop} (h : oI False o k) : ∃ x, o = some x ∧ k x := by
  unfold oI at h; split at h
  · exact ⟨_, rfl, h⟩
  · exact h.elim
theorem vIo_ex {v : AV} {k : Int → Prop} (h : vIo False v k) : ∃ x, v = .inl x ∧ k x := by
  unfold vIo at h; split at h
  · exact ⟨_, rfl, h⟩
  · exact h.elim
theorem vLo_ex {v : AV} {k : Int → Prop} (h : vLo False v k) : ∃ x, v = .inr (.inl x) ∧ k x := by
  unfold vLo at h; split at h
  · exact ⟨_, rfl, h⟩
  · exact h.elim
theorem vOo_ex {v : AV} {k : Option Nat → Prop} (h : vOo False v k) : ∃ x, v = .inr (.inr x) ∧ k x := by
  unfold vOo at h; split at h
  · exact ⟨_, rfl, h⟩
  · exact h.elim
theorem lI_ex {ls : List (Option AV)} {i : Nat} {k : Int → Prop} (h : lI False ls i k) : ∃ x, ls[i]? = some (some (.inl x)) ∧ k x := by
  unfold lI at h; split at h
  · rename_i he; exact ⟨_, he, h⟩
  · exact h.elim
theorem lL_ex {ls : List (Option AV)} {i : Nat} {k : Int → Prop} (h : lL False ls i k) : ∃ x, ls[i]? = some (some (.inr (.inl x))) ∧ k x := by
  unfold lL at h; split at h
  · rename_i he; exact ⟨_, he, h⟩
  · exact h.elim
theorem lR_ex {ls : List (Option AV)} {i : Nat} {k : Nat → Prop} (h : lR False ls i k) : ∃ x, ls[i]? = some (some (.inr (.inr (some x)))) ∧ k x := by
  unfold lR at h; split at h
  · rename_i he; exact ⟨_, he, h⟩
  · exact h.elim
theorem if_ex {c P : Prop} [Decidable c] (h : if c then P else False) : c ∧ P := by
  split at h
  · exact ⟨‹_›, h⟩
  · exact h.elim
end EX
def trV (ad : Nat → Nat) (v : AV) : Value := match v with
  | .inl z => .int (Int32.ofInt z)
  | .inr (.inl z) => .long (Int64.ofInt z)
  | .inr (.inr none) => .null
  | .inr (.inr (some k)) => .ref (ad k)
def ioV (v : AV) : Int32 := match v with
  | .inl z => Int32.ofInt z
  | _ => 0
def loV (v : AV) : Int64 := match v with
  | .inr (.inl z) => Int64.ofInt z
  | _ => 0
def roV (ad : Nat → Nat) (v : AV) : Option Nat := match v with
  | .inr (.inr (some k)) => some (ad k)
  | _ => none
def cyT (cy : Nat → ClassId) : List (ClassId × FieldType) := [(cy 0, .int), (cy 1, .long), (cy 2, .boolean), (cy 3, .object RX6)]
def cEl (ad : Nat → Nat) (cy : Nat → ClassId) (h : AH) (k : Nat) : va_E :=
  if (hK h k).1 < 11 then .inr ((hK h k).1, (List.range (nF (hK h k).1)).map (fun i => trV ad (hV h k i)))
  else if (hK h k).1 = 12 then .inl (cy 1, (hK h k).2, .inr (.inl (fun i => loV (hV h k i))))
  else if (hK h k).1 = 13 then .inl (cy 2, (hK h k).2, .inl (fun i => ioV (hV h k i)))
  else if (hK h k).1 = 14 then .inl (cy 3, (hK h k).2, .inr (.inr (.inr (.inr (fun i => roV ad (hV h k i))))))
  else .inl (cy 0, (hK h k).2, .inl (fun i => ioV (hV h k i)))
def wsO (ad : Nat → Nat) (cy : Nat → ClassId) (h : AH) : va_W := (List.range (hN h)).map (fun k => (ad k, cEl ad cy h k))
def wfv (n : Nat) (v : AV) : Prop := match v with
  | .inl z => r32 z
  | .inr (.inl z) => r64 z
  | .inr (.inr none) => True
  | .inr (.inr (some k)) => k < n ∨ 1000000 ≤ k
def HW (h : AH) : Prop := (∀ k, hN h ≤ k → 15 ≤ (hK h k).1 ∧ ((hK h k).1 = 20 → 1000000 ≤ k)) ∧ (∀ k, k < hN h → (hK h k).1 < 15) ∧ (∀ k i, wfv (hN h) (hV h k i)) ∧ hN h ≤ 5000 ∧ ∀ k, (hK h k).2 ≤ 20000
def SA (h h1 : AH) : Prop := hN h ≤ hN h1 ∧ hS h ≤ hS h1 ∧ ∀ k, 1000000 ≤ k → hK h1 k = hK h k ∧ ∀ i, hV h1 k i = hV h k i
def LV (ad : Nat → Nat) (lsA : Array Slot) (n : Nat) (ls : List (Option AV)) : Prop := ls.length = n ∧ lsA.size = n ∧ lv_wf lsA ∧ ∀ (i : Nat) (v : AV), ls[i]? = some (some v) → lsA[i]? = some (.val (trV ad v))
def AG (n : Nat) (ad ad' : Nat → Nat) : Prop := ∀ k, k < n ∨ 1000000 ≤ k → ad' k = ad k
def FC (M d : Nat) (p : Program) (s : State) (m : MethodId) (args : Array Value) (meth : Method) (c : Code) (R : Room) : Prop :=
  p.tables.exec = Jvm.exec ∧ c.code = mB M ∧ c.maxLocals = mL M ∧ s.vm.findClass (cnm (mO M)) = some m.cls ∧ (∀ w ∈ gtb, w.before args s = true) ∧ (∀ w ∈ nst, va_Nw w s) ∧ va_AO RX6 s ∧ meth.locks = false ∧ meth.sig.returnType = mR M ∧ ((mY M).name = "<init>" → meth.name = "<init>") ∧ d + 5 ≤ R.frames ∧ 48 * (d + 5) ≤ R.locals
def wdS : String := "paces swings hand holds lasts order move run aim hook land away speed pace wind goal rope weight yard at due men in on out if then else end or and not size ago "
/-- what the JDK's own rows of a String read -/
def SR (q v : Nat) (A : Nat → Prop) (s : State) (H : Heap) : Prop :=
  va_Z "java/lang/String" "COMPACT_STRINGS" "Z" (.int 1) A s H ∧ (∃ f : Value, f.isRef = true ∧ va_Z "jdk/internal/util/Preconditions" "SIOOBE_FORMATTER" "Ljava/util/function/BiFunction;" f A s H) ∧ va_O "java/lang/String" q A s H ∧ va_OF "java/lang/String" "coder" "B" (.int 0) q A s H ∧ va_OF "java/lang/String" "value" "[B" (.ref v) q A s H ∧ va_T .byte v 160 (fun j => .int (Int32.ofInt (wdB.getD j 0))) A s H
theorem SR.moved {q v : Nat} {A : Nat → Prop} {u U : State} {H : Heap} (hvm : u.vm.Alike U.vm) (h : SR q v A u H) : SR q v A U H := by
  obtain ⟨h1, ⟨f, hf, h2⟩, h3, h4, h5, h6⟩ := h
  exact ⟨va_Z.moved hvm h1, ⟨f, hf, va_Z.moved hvm h2⟩, va_O.moved hvm h3, va_OF.moved hvm h4, va_OF.moved hvm h5, va_T.moved hvm h6⟩
theorem SR.kept {q v : Nat} {A : Nat → Prop} {U : State} {H H1 : Heap} (h : SR q v A U H) (hq : ∀ a : Nat, a < H.size → ¬ A a → H1[a]? = H[a]?) : SR q v A U H1 := by
  obtain ⟨h1, ⟨f, hf, h2⟩, h3, h4, h5, h6⟩ := h
  exact ⟨h1.kept hq, ⟨f, hf, h2.kept hq⟩, h3.kept hq, h4.kept hq, h5.kept hq, h6.kept hq⟩
theorem SR.narrow {q v : Nat} {A B : Nat → Prop} {U : State} {H : Heap} (h : SR q v A U H) (hAB : ∀ q, B q → A q) : SR q v B U H := by
  obtain ⟨h1, ⟨f, hf, h2⟩, h3, h4, h5, h6⟩ := h
  exact ⟨h1.narrow hAB, ⟨f, hf, h2.narrow hAB⟩, h3.narrow hAB, h4.narrow hAB, h5.narrow hAB, h6.narrow hAB⟩
def ZS (ad : Nat → Nat) (A : Nat → Prop) (s : State) (H : Heap) : Prop := (∀ j, j < 4 → va_Z (stn j).1 (stn j).2.1 (stn j).2.2 (.ref (ad (1000000 + j))) A s H) ∧ vk_R "HookSwings$Tokens" 61 wdS (ad 1000004) s ∧ SR (ad 1000004) (ad 1000005) A s H
theorem ZS_eq {ad ad' : Nat → Nat} {A : Nat → Prop} {s : State} {H : Heap} (ha : ∀ k, 1000000 ≤ k → ad' k = ad k) (h : ZS ad A s H) : ZS ad' A s H := by
  refine ⟨fun j hj => ?_, ?_, ?_⟩
  · rw [ha _ (Nat.le_add_right _ _)]; exact h.1 j hj
  · rw [ha 1000004 (by decide)]; exact h.2.1
  · rw [ha 1000004 (by decide), ha 1000005 (by decide)]; exact h.2.2
def WO (D : va_G) (cy : Nat → ClassId) (A : Nat → Prop) (s : State) (ad : Nat → Nat) (h : AH) (H : Heap) (locs : List Loc) : Prop :=
  va_K D vwCl (cyT cy) s ∧ va_P D vwCl (wsO ad cy h) H ∧ va_D A (wsO ad cy h) ∧ va_S A s.heap H locs ∧ (∀ q, s.heap.size ≤ q → A q) ∧ ZS ad A s s.heap ∧ (∀ k, (hK h k).1 = 20 → va_T .int (ad k) (hK h k).2 (fun i => trV ad (hV h k i)) A s s.heap) ∧ HW h
/-- the bounds of the room -/
def BD (h0 h : AH) (R : Room) : Prop := hN h ≤ hN h0 + R.cells ∧ hS h ≤ hS h0 + R.slots
def LW (n : Nat) (ls : List (Option AV)) : Prop := ∀ (i : Nat) (v : AV), ls[i]? = some (some v) → wfv n v
def SW (n : Nat) (st : List AV) : Prop := ∀ v ∈ st, wfv n v
def GO (p : Program) (l : Launch) (e : Env) (R : Room) (s : State) (m : MethodId) (args : Array Value) (below : List Frame) (meth : Method) (c : Code) (Q : State → Prop) (D : va_G) (cy : Nat → ClassId) (A : Nat → Prop) (ad0 : Nat → Nat) (h0 : AH) (M : Nat) (pc : Nat) (ls : List (Option AV)) (st : List AV) (h : AH) : Prop :=
  BD h0 h R ∧ ∀ (ad : Nat → Nat) (lsA : Array Slot) (H : Heap) (locs : List Loc), AG (hN h0) ad0 ad → SA h0 h → LV ad lsA (mL M) ls → LW (hN h) ls → SW (hN h) st → WO D cy A s ad h H locs → W p l e R s m args below meth c H locs (hN h - hN h0) (hS h - hS h0) Q (F0 m pc lsA (st.map (trV ad)))
def retOK (M pcr : Nat) (r : Option AV) : Prop :=
  (r = none ∧ decode (mB M) pcr = .ok (.return_, 1) ∧ mR M = none) ∨ (∃ z, r = some (.inl z) ∧ decode (mB M) pcr = .ok (.ireturn, 1) ∧ (mR M = some .int ∨ (mR M = some .boolean ∧ (z = 0 ∨ z = 1)))) ∨ (∃ z, r = some (.inr (.inl z)) ∧ decode (mB M) pcr = .ok (.lreturn, 1) ∧ mR M = some .long) ∨ (∃ x, r = some (.inr (.inr (some x))) ∧ decode (mB M) pcr = .ok (.areturn, 1) ∧ ∃ n, mR M = some (.object n))
def RE (p : Program) (l : Launch) (e : Env) (R : Room) (s : State) (m : MethodId) (args : Array Value) (below : List Frame) (meth : Method) (c : Code) (Q : State → Prop) (D : va_G) (cy : Nat → ClassId) (A : Nat → Prop) (ad0 : Nat → Nat) (h0 : AH) (M : Nat) (r : Option AV) (h : AH) : Prop :=
  BD h0 h R ∧ ∀ (ad : Nat → Nat) (lsA : Array Slot) (H : Heap) (locs : List Loc) (pcr : Nat), AG (hN h0) ad0 ad → SA h0 h → (∀ v, r = some v → wfv (hN h) v) → WO D cy A s ad h H locs → retOK M pcr r → W p l e R s m args below meth c H locs (hN h - hN h0) (hS h - hS h0) Q (F0 m pcr lsA (r.toList.map (trV ad)))
def wsM (M : Nat) : List Cond := cwW M :: gtb
def rmD (d c s : Nat) : Room := { frames := d + 5, cells := c, slots := s, locals := 48 * (d + 5) }
def PcM (D : va_G) (cy : Nat → ClassId) (ad : Nat → Nat) (as : List AV) (h : AH) (sz : Nat) : Array Value → State → Prop :=
  va_Pc (as.map (trV ad)) (fun U => U.heap.size = sz ∧ va_K D vwCl (cyT cy) U ∧ va_P D vwCl (wsO ad cy h) U.heap ∧ va_D (fun _ => True) (wsO ad cy h) ∧ (∀ w ∈ nst, va_Nw w U) ∧ va_AO RX6 U ∧ ZS ad (va_A (wsO ad cy h) sz) U U.heap ∧ (∀ k, (hK h k).1 = 20 → va_T .int (ad k) (hK h k).2 (fun i => trV ad (hV h k i)) (va_A (wsO ad cy h) sz) U U.heap) ∧ HW h ∧ SW (hN h) as)
def QcM (D : va_G) (cy : Nat → ClassId) (ad : Nat → Nat) (h : AH) (r : Option AV) (h1 : AH) (sz : Nat) : Array Value → State → Outcome → State → Prop :=
  fun _ st oc t => (∃ ad' : Nat → Nat, oc = .returned (r.map (trV ad')) ∧ AG (hN h) ad ad' ∧ SA h h1 ∧ HW h1 ∧ (∀ v, r = some v → wfv (hN h1) v) ∧ va_P D vwCl (wsO ad' cy h1) t.heap ∧ va_D (va_A (wsO ad cy h) sz) (wsO ad' cy h1)) ∧ va_F (va_A (wsO ad cy h) sz) st t
def MT (d M : Nat) (as : List AV) (h : AH) (r : Option AV) (h1 : AH) : Prop :=
  hN h ≤ hN h1 ∧ hS h ≤ hS h1 ∧ ∀ (l : Launch) (D : va_G) (cy : Nat → ClassId) (ad : Nat → Nat) (sz : Nat), Met l (mY M) (wsM M) (rmD d (hN h1 - hN h) (hS h1 - hS h)) (PcM D cy ad as h sz) (QcM D cy ad h r h1 sz) (hN h1 - hN h) (hS h1 - hS h) (va_A (wsO ad cy h) sz)
def CA (d M : Nat) (as : List AV) (h : AH) (k : Option AV → AH → Prop) : Prop := ∃ (d' : Nat) (r : Option AV) (h1 : AH), d = d' + 1 ∧ (hN h ≤ hN h1 ∧ hS h ≤ hS h1) ∧ (4 ≤ M → M < 321 → MT d' M as h r h1) ∧ k r h1
/-! cells by their numbers -/
theorem wsO_get {ad : Nat → Nat} {cy : Nat → ClassId} {h : AH} {k : Nat} (hk : k < hN h) : (wsO ad cy h)[k]? = some (ad k, cEl ad cy h k) := by
  unfold wsO
  rw [List.getElem?_map, List.getElem?_range hk]; rfl
theorem wsO_len {ad : Nat → Nat} {cy : Nat → ClassId} {h : AH} : (wsO ad cy h).length = hN h := by unfold wsO; simp
theorem HW.lt {h : AH} (hw : HW h) {k : Nat} (hk : (hK h k).1 < 15) : k < hN h := by
  rcases Nat.lt_or_ge k (hN h) with q | q
  · exact q
  · have := (hw.1 k q).1; omega
theorem trV_ag {n : Nat} {ad ad' : Nat → Nat} {v : AV} (ha : AG n ad ad') (hv : wfv n v) : trV ad' v = trV ad v := by
  match v, hv with
  | .inl _, _ => rfl
  | .inr (.inl _), _ => rfl
  | .inr (.inr none), _ => rfl
  | .inr (.inr (some k)), hv => exact congrArg Value.ref (ha k hv)
theorem wsO_upd {ad : Nat → Nat} {cy : Nat → ClassId} {h h' : AH} {r : Nat} (hn : hN h' = hN h) (hr : r < hN h) (hk : ∀ k, k ≠ r → cEl ad cy h' k = cEl ad cy h k) : wsO ad cy h' = (wsO ad cy h).set r (ad r, cEl ad cy h' r) := by
  apply List.ext_getElem?
  intro k
  rw [List.getElem?_set, wsO_len]
  rcases Nat.lt_or_ge k (hN h) with q | q
  · rw [wsO_get (h := h') (by omega)]
    by_cases e : r = k
    · subst e; rw [if_pos rfl, if_pos q]
    · rw [if_neg e, wsO_get q, hk k (fun z => e z.symm)]
  · have e1 : (wsO ad cy h')[k]? = none := List.getElem?_eq_none (by rw [wsO_len]; omega)
    have e2 : (wsO ad cy h)[k]? = none := List.getElem?_eq_none (by rw [wsO_len]; omega)
    rw [e1, if_neg (by omega), e2]
theorem cEl_hSet_ne {ad : Nat → Nat} {cy : Nat → ClassId} {h : AH} {r i k : Nat} {v : AV} (hk : k ≠ r) : cEl ad cy (hSet h r i v) k = cEl ad cy h k := by
  have e : ∀ j, hV (hSet h r i v) k j = hV h k j := fun j => if_neg (fun z => hk z.1)
  have e2 : hK (hSet h r i v) k = hK h k := rfl
  unfold cEl
  simp only [e, e2]
theorem cEl_obj {ad : Nat → Nat} {cy : Nat → ClassId} {h : AH} {r a : Nat} (hr : (hK h r).1 = a) (ha : a < 11) : cEl ad cy h r = .inr (a, (List.range (nF a)).map (fun i => trV ad (hV h r i))) := by
  unfold cEl; rw [hr, if_pos ha]
theorem cEl_int {ad : Nat → Nat} {cy : Nat → ClassId} {h : AH} {r : Nat} (hr : (hK h r).1 = 11) : cEl ad cy h r = .inl (cy 0, (hK h r).2, .inl (fun i => ioV (hV h r i))) := by
  unfold cEl; rw [hr, if_neg (by decide), if_neg (by decide), if_neg (by decide), if_neg (by decide)]
theorem cEl_long {ad : Nat → Nat} {cy : Nat → ClassId} {h : AH} {r : Nat} (hr : (hK h r).1 = 12) : cEl ad cy h r = .inl (cy 1, (hK h r).2, .inr (.inl (fun i => loV (hV h r i)))) := by
  unfold cEl; rw [hr, if_neg (by decide), if_pos rfl]
theorem cEl_bool {ad : Nat → Nat} {cy : Nat → ClassId} {h : AH} {r : Nat} (hr : (hK h r).1 = 13) : cEl ad cy h r = .inl (cy 2, (hK h r).2, .inl (fun i => ioV (hV h r i))) := by
  unfold cEl; rw [hr, if_neg (by decide), if_neg (by decide), if_pos rfl]
theorem cEl_ref {ad : Nat → Nat} {cy : Nat → ClassId} {h : AH} {r : Nat} (hr : (hK h r).1 = 14) : cEl ad cy h r = .inl (cy 3, (hK h r).2, .inr (.inr (.inr (.inr (fun i => roV ad (hV h r i)))))) := by
  unfold cEl; rw [hr, if_neg (by decide), if_neg (by decide), if_neg (by decide), if_pos rfl]
theorem map_set_range {β : Type} (n i : Nat) (f g : Nat → β) (v : β) (hg : ∀ j, g j = if j = i then v else f j) : (List.range n).map g = ((List.range n).map f).set i v := by
  apply List.ext_getElem?
  intro k
  rw [List.getElem?_set, List.getElem?_map, List.getElem?_map, List.length_map, List.length_range]
  rcases Nat.lt_or_ge k n with q | q
  · rw [List.getElem?_range q]
    by_cases e : i = k
    · subst e; rw [if_pos rfl, if_pos q]; simp [hg]
    · rw [if_neg e]; simp [hg, show ¬ k = i from fun z => e z.symm]
  · rw [List.getElem?_eq_none (by simp; omega)]
    by_cases e : i = k
    · subst e; rw [if_pos rfl, if_neg (by omega)]; rfl
    · rw [if_neg e]; rfl
theorem wfv_mono {n m : Nat} {v : AV} (h : wfv n v) (hnm : n ≤ m) : wfv m v := by
  match v, h with
  | .inl _, h => exact h
  | .inr (.inl _), h => exact h
  | .inr (.inr none), _ => trivial
  | .inr (.inr (some k)), h => exact h.imp (fun q => Nat.lt_of_lt_of_le q hnm) id
theorem HW_set {h : AH} {r i : Nat} {v : AV} (hw : HW h) (hv : wfv (hN h) v) : HW (hSet h r i v) := by
  refine ⟨hw.1, hw.2.1, fun k j => ?_, hw.2.2.2⟩
  show wfv (hN h) (if k = r ∧ j = i then v else hV h k j)
  split
  · exact hv
  · exact hw.2.2.1 k j
theorem SA_set {h0 h : AH} {r i : Nat} {v : AV} (hs : SA h0 h) (hw : HW h) (hr : r < hN h) : SA h0 (hSet h r i v) := by
  refine ⟨hs.1, hs.2.1, fun k hk => ⟨(hs.2.2 k hk).1, fun j => ?_⟩⟩
  have h5 := hw.2.2.2.1
  have : hV (hSet h r i v) k j = hV h k j := if_neg (fun z => by omega)
  rw [this]
  exact (hs.2.2 k hk).2 j
