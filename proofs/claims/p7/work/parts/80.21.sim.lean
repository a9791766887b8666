section SIM
variable {p : Program} {l : Launch} {e : Env} {R : Room} {s : State} {m : MethodId} {args : Array Value} {below : List Frame} {meth : Method} {c : Code} {Q : State → Prop} {D : va_G} {cy : Nat → ClassId} {A : Nat → Prop} {ad0 : Nat → Nat} {h0 : AH} {M d : Nat} {pc len a b : Nat} {k : Int} {sw : List (Int × Nat)} {ins : Instr} {ls : List (Option AV)} {st : List AV} {h : AH}
theorem step_big {op nx : Nat} (h52 : 56 ≤ op) (hk : stepK False (GO p l e R s m args below meth c Q D cy A ad0 h0 M) (RE p l e R s m args below meth c Q D cy A ad0 h0 M) (CA d) dfO nF (op, nx, a, b, k, sw) ls st h) : False := by
  unfold stepK at hk
  dsimp only at hk
  split at hk <;> first | omega | exact hk
set_option maxHeartbeats 4000000 in
theorem step_sound {ce : CE} (C : FC M d p s m args meth c R) (hcd : cd M pc = some ce) (hk : stepK False (GO p l e R s m args below meth c Q D cy A ad0 h0 M) (RE p l e R s m args below meth c Q D cy A ad0 h0 M) (CA d) dfO nF ce ls st h) : GO p l e R s m args below meth c Q D cy A ad0 h0 M pc ls st h := by
  have hok := cd_ok hcd
  obtain ⟨op, nx, a, b, k, sw⟩ := ce
  unfold okB at hok
  rw [Bool.or_eq_true] at hok
  rcases Nat.lt_or_ge op 56 with h52 | h52
  · rcases hok with h99 | hok
    · have : op = 99 := of_decide_eq_true h99
      omega
    · split at hok
      · rename_i ins len hd
        rw [Bool.and_eq_true] at hok
        obtain ⟨h1, h2⟩ := hok
        obtain rfl : nx = pc + len := of_decide_eq_true h1
        dsimp only at h2
        match op, h52, h2, hk with
        | 0, _, h2, hk => exact sd_0 C hd h2 hk
        | 1, _, h2, hk => exact sd_1 C hd h2 hk
        | 2, _, h2, hk => exact sd_2 C hd h2 hk
        | 3, _, h2, hk => exact sd_3 C hd h2 hk
        | 4, _, h2, hk => exact sd_4 C hd h2 hk
        | 5, _, h2, hk => exact sd_5 C hd h2 hk
        | 6, _, h2, hk => exact sd_6 C hd h2 hk
        | 7, _, h2, hk => exact sd_7 C hd h2 hk
        | 8, _, h2, hk => exact sd_8 C hd h2 hk
        | 9, _, h2, hk => exact sd_9 C hd h2 hk
        | 10, _, h2, hk => exact sd_10 C hd h2 hk
        | 11, _, h2, hk => exact sd_11 C hd h2 hk
        | 12, _, h2, hk => exact sd_12 C hd h2 hk
        | 13, _, h2, hk => exact sd_13 C hd h2 hk
        | 14, _, h2, hk => exact sd_14 C hd h2 hk
        | 15, _, h2, hk => exact sd_15 C hd h2 hk
        | 16, _, h2, hk => exact sd_16 C hd h2 hk
        | 17, _, h2, hk => exact sd_17 C hd h2 hk
        | 18, _, h2, hk => exact sd_18 C hd h2 hk
        | 19, _, h2, hk => exact sd_19 C hd h2 hk
        | 20, _, h2, hk => exact sd_20 C hd h2 hk
        | 21, _, h2, hk => exact sd_21 C hd h2 hk
        | 22, _, h2, hk => exact sd_22 C hd h2 hk
        | 23, _, h2, hk => exact sd_23 C hd h2 hk
        | 24, _, h2, hk => exact sd_24 C hd h2 hk
        | 25, _, h2, hk => exact sd_25 C hd h2 hk
        | 26, _, h2, hk => exact sd_26 C hd h2 hk
        | 27, _, h2, hk => exact sd_27 C hd h2 hk
        | 28, _, h2, hk => exact sd_28 C hd h2 hk
        | 29, _, h2, hk => exact sd_29 C hd h2 hk
        | 30, _, h2, hk => exact sd_30 C hd h2 hk
        | 31, _, h2, hk => exact sd_31 C hd h2 hk
        | 32, _, h2, hk => exact sd_32 C hd h2 hk
        | 33, _, h2, hk => exact sd_33 C hd h2 hk
        | 34, _, h2, hk => exact sd_34 C hd h2 hk
        | 35, _, h2, hk => exact sd_35 C hd h2 hk
        | 36, _, h2, hk => exact sd_36 C hd h2 hk
        | 37, _, h2, hk => exact sd_37 C hd h2 hk
        | 38, _, h2, hk => exact sd_38 C hd h2 hk
        | 39, _, h2, hk => exact sd_39 C hd h2 hk
        | 40, _, h2, hk => exact sd_40 C hd h2 hk
        | 41, _, h2, hk => exact sd_41 C hd h2 hk
        | 42, _, h2, hk => exact sd_42 C hd h2 hk
        | 43, _, h2, hk => exact sd_43 C hd h2 hk
        | 45, _, h2, hk => exact sd_45 C hd h2 hk
        | 46, _, h2, hk => exact sd_46 C hd h2 hk
        | 47, _, h2, hk => exact sd_47 C hd h2 hk
        | 48, _, h2, hk => exact sd_48 C hd h2 hk
        | 49, _, h2, hk => exact sd_49 C hd h2 hk
        | 50, _, h2, hk => exact sd_50 C hd h2 hk
        | 51, _, h2, hk => exact sd_51 C hd h2 hk
        | 44, _, _, hk => exact hk.elim
        | 52, _, h2, hk => exact sd_52 C hd h2 hk
        | 53, _, h2, hk => exact sd_53 C hd h2 hk
        | 54, _, h2, hk => exact sd_54 C hd h2 hk
        | 55, _, h2, hk => exact sd_55 C hd h2 hk
        | n + 56, h52, _, _ => exact absurd h52 (by omega)
      · cases hok
  · exact (step_big h52 hk).elim
end SIM
def slo (ad : Nat → Nat) (o : Option AV) : Slot := match o with
  | some v => .val (trV ad v)
  | none => .second
theorem sl_ent (ad : Nat → Nat) : ∀ (as : List AV), lg_sl (as.map (trV ad)) = (as.flatMap entA).map (slo ad)
  | [] => rfl
  | v :: as => by
    have ih := sl_ent ad as
    unfold lg_sl at ih ⊢
    rw [List.map_cons, List.flatMap_cons, List.flatMap_cons, List.map_append, ih]
    congr 1
    match v with
    | .inl _ => rfl
    | .inr (.inl _) => rfl
    | .inr (.inr none) => rfl
    | .inr (.inr (some _)) => rfl
theorem LV_entry {ad : Nat → Nat} {as : List AV} {n : Nat} (hl : entN as ≤ n) : LV ad ((lg_sl (as.map (trV ad)) ++ List.replicate (n - (lg_sl (as.map (trV ad))).length) Slot.unset).toArray) n (entL n as) := by
  have e1 : (lg_sl (as.map (trV ad))).length = entN as := by rw [sl_ent, List.length_map]; rfl
  have h1 := lv_entry (as.map (trV ad)) (n := n) (by rw [e1]; exact hl)
  refine ⟨?_, h1.1, h1.2.1, fun i v hi => ?_⟩
  · unfold entL
    rw [List.length_append, List.length_replicate]
    show entN as + (n - entN as) = n
    omega
  · unfold entL at hi
    rw [List.getElem?_append] at hi
    split at hi
    · rename_i hlt
      rw [List.getElem?_toArray, List.getElem?_append, if_pos (by rw [e1]; exact hlt), sl_ent, List.getElem?_map, hi]; rfl
    · rw [List.getElem?_replicate] at hi
      split at hi <;> cases hi
theorem LW_entry {n m : Nat} {as : List AV} (h : SW m as) : LW m (entL n as) := by
  intro i v hi
  unfold entL at hi
  rw [List.getElem?_append] at hi
  split at hi
  · have hm := List.mem_of_getElem? hi
    obtain ⟨w, hw, hv⟩ := List.mem_flatMap.mp hm
    have : v = w := by
      unfold entA at hv
      split at hv
      · rcases List.mem_cons.mp hv with z | z
        · exact Option.some.inj z
        · cases List.mem_singleton.mp z
      · exact Option.some.inj (List.mem_singleton.mp hv)
    rw [this]; exact h w hw
  · rw [List.getElem?_replicate] at hi
    split at hi <;> cases hi
def SimAt (n : Nat) : Prop := ∀ (d M pc : Nat) (ls : List (Option AV)) (st : List AV) (h : AH) (r : Option AV) (hf : AH), xec n d M pc ls st h = some (r, hf) → ∀ (p : Program) (l : Launch) (e : Env) (R : Room) (s : State) (m : MethodId) (args : Array Value) (below : List Frame) (meth : Method) (c : Code) (Q : State → Prop) (D : va_G) (cy : Nat → ClassId) (A : Nat → Prop) (ad0 : Nat → Nat) (h0 : AH), FC M d p s m args meth c R → RE p l e R s m args below meth c Q D cy A ad0 h0 M r hf → GO p l e R s m args below meth c Q D cy A ad0 h0 M pc ls st h
theorem re_met {M : Nat} {h : AH} {r : Option AV} {h1 : AH} {p : Program} {l : Launch} {e : Env} {R : Room} {s : State} {m : MethodId} {args : Array Value} {below : List Frame} {meth : Method} {c : Code} {D : va_G} {cy : Nat → ClassId} {ad : Nat → Nat} (hx : p.tables.exec = Jvm.exec) (hb : c.code = mB M) (hlocks : meth.locks = false) (hret : meth.sig.returnType = mR M) (hg : GE h h1) (hR : R.cells = hN h1 - hN h ∧ R.slots = hS h1 - hS h) :
    RE p l e R s m args below meth c (MQ below (QcM D cy ad h r h1 s.heap.size) args s (hN h1 - hN h) (hS h1 - hS h) (va_A (wsO ad cy h) s.heap.size)) D cy (va_A (wsO ad cy h) s.heap.size) ad h M r h1 := by
  refine ⟨⟨by have := hg.1; omega, by have := hg.2; omega⟩, fun ad' lsA H locs pcr hAG hSA hwr hW hok => ?_⟩
  obtain ⟨vK, vP, vD, vS, vA, vZ, vT, hHW⟩ := hW
  have hq : ∀ t : State, t.heap = H → s.WarmedH t.vm → QcM D cy ad h r h1 s.heap.size args s (.returned (r.map (trV ad'))) t := fun t ht hw => ⟨⟨ad', rfl, hAG, hSA, hHW, hwr, by rw [ht]; exact vP, vD⟩, vS.F ht⟩
  rcases hok with ⟨rfl, hd, hr⟩ | ⟨z, rfl, hd, hr⟩ | ⟨z, rfl, hd, hr⟩ | ⟨x, rfl, hd, n, hr⟩
  · exact W.vret hx hb (hret.trans hr) hq vS.2.2 hd hlocks
  · rcases hr with hr | ⟨hr, h01⟩
    · exact W.iret hx hb (hret.trans hr) hq vS.2.2 hd hlocks
    · refine W.zret hx hb (hret.trans hr) ?_ hq vS.2.2 hd hlocks
      rcases h01 with rfl | rfl
      · exact (by decide : narrow .boolean (.int 0) = .int 0)
      · exact (by decide : narrow .boolean (.int 1) = .int 1)
  · exact W.lret hx hb (hret.trans hr) hq vS.2.2 hd hlocks
  · exact W.aret hx hb (hret.trans hr) (Or.inl ⟨n, rfl⟩) (Or.inr ⟨ad' x, rfl⟩) hq vS.2.2 hd hlocks
set_option maxHeartbeats 4000000 in
theorem met_of {n d M : Nat} {as : List AV} {h : AH} {r : Option AV} {h1 : AH} (ih : SimAt n) (hl : entN as ≤ mL M) (he : xec n d M 0 (entL (mL M) as) [] h = some (r, h1)) (h4 : 4 ≤ M) (hM : M < 321) : MT d M as h r h1 := by
  have hg := xec_grow _ _ _ _ _ _ _ _ _ he
  obtain ⟨m1, m2, m3, m4, m5, m6, m7⟩ := my_at hM h4
  refine ⟨hg.1, hg.2, fun l D cy ad sz => ?_⟩
  refine Met.ofW (cc := mB M) (maxL := mL M) (ret := mR M) m2 rfl ?_
  intro p e s m args below meth c s₁ B hml hv
  obtain ⟨rfl, hsz, vK, vP, vD0, vN, vO, vZ, vT, hHW, hSW⟩ := hv
  have hts := atoms_spec (ws := wsM M) B.pre
  have hown : s.vm.findClass (cnm (mO M)) = some m.cls := by rw [← m1]; exact findClass_of_methodNamed B.named
  have hnm : meth.name = (mY M).name := (name_of_methodNamed B.named B.method).1
  subst hsz
  have C : FC M d p s m (as.map (trV ad)).toArray meth c (headSpec (wsM M) (rmD d (hN h1 - hN h) (hS h1 - hS h))).room := ⟨B.exec, B.bytes, hml, hown, fun w hw => hts w (List.mem_cons_of_mem _ hw), vN, vO, B.notSynchronized, B.returns, fun z => hnm.trans z, Nat.le_refl _, Nat.le_refl _⟩
  have G := (ih d M 0 _ [] h r h1 he p l e _ s m (as.map (trV ad)).toArray below meth c _ D cy _ ad h C (re_met (l := l) (e := e) (below := below) (D := D) (cy := cy) (ad := ad) B.exec B.bytes B.notSynchronized B.returns hg ⟨rfl, rfl⟩)).2 ad _ s.heap [] (fun _ _ => rfl) ⟨Nat.le_refl _, Nat.le_refl _, fun _ _ => ⟨rfl, fun _ => rfl⟩⟩ (LV_entry hl) (LW_entry hSW) (fun _ h => by cases h) ⟨vK, vP, vD0.self, va_S.rf, fun q h => Or.inr h, vZ, vT, hHW⟩
  rw [Nat.sub_self, Nat.sub_self] at G
  rw [lg_entry_eq]
  exact G
theorem sim : ∀ n, SimAt n := by
  intro n
  induction n with
  | zero => intro d M pc ls st h r hf he; rw [xec] at he; cases he
  | succ n ih =>
    intro d M pc ls st h r hf he p l e R s m args below meth c Q D cy A ad0 h0 C hRE
    cases hc : cd M pc with
    | none => rw [xec, hc] at he; cases he
    | some ce =>
      rw [xec_succ hc] at he
      refine step_sound C hc ?_
      refine stepK_rel (R := fun (o : RT) (P : Prop) => o = some (r, hf) → P) (fun h => by cases h) (fun pc ls st h he => ih d M pc ls st h r hf he p l e R s m args below meth c Q D cy A ad0 h0 C hRE) (fun r' h' he => by cases he; exact hRE) (fun M' as h k k' hk hv => ?_) ce ls st h he
      obtain ⟨d', r2, h2, rfl, hl, he2, hk1⟩ := callX_some hv
      exact ⟨d', r2, h2, rfl, xec_grow _ _ _ _ _ _ _ _ _ he2, fun h4 hM => met_of ih hl he2 h4 hM, hk r2 h2 hk1⟩
