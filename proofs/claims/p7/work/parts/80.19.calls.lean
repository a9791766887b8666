/-! calls -/
theorem callG {p : Program} {l : Launch} {e : Env} {R : Room} {s : State} {m : MethodId} {args : Array Value} {below : List Frame} {meth : Method} {c : Code} {H : Heap} {locs : List Loc} {cells slots : Nat} {Q : State → Prop} {pc : Nat} {lsA : Array Slot} {st0 rest : List Value} {mc ms : Nat} {Qa : State → Outcome → State → Prop} {free : Addr → Prop}
    (hr : va_Run p l e R s m args below meth c H locs cells slots mc ms (F0 m pc lsA st0) rest Qa free)
    (kk : ∀ (v : Option Value) (u t : State) (L : List Loc), u.heap = H → s.vm.Alike t.vm → Qa u (.returned v) t → (∀ q ∈ L, free q.base) → W p l e R s m args below meth c t.heap (locs ++ L) (cells + mc) (slots + ms) Q (F0 m (pc + 3) lsA (v.toList ++ rest))) : W p l e R s m args below meth c H locs cells slots Q (F0 m pc lsA st0) := by
  intro T hT X
  obtain ⟨v, u, t, T', L, h0, X', hL, e1, e2, hq, st⟩ := hr T hT X
  obtain ⟨t2, a1, b1⟩ := kk v u t L h0 (by rw [← e2]; exact X'.warmed.alike) hq hL T' e1 X'
  exact ⟨t2, st t2 a1, b1⟩
theorem gtb_good : GoodIn gtb gtb := fun w hw => ⟨hw, good_of_word (List.mem_filter.mp hw).2⟩
theorem wsM_good {M : Nat} (h : M < 321) : GoodIn gtb (wsM M) := fun w hw => (List.mem_cons.mp hw).elim (fun e => by rw [e]; exact gtb_good _ (cw_in h)) (gtb_good w)
theorem AG_tr {n n1 : Nat} {a b c : Nat → Nat} (h1 : AG n a b) (h2 : AG n1 b c) (hn : n ≤ n1) : AG n a c := fun k hk => by rw [h2 k (hk.imp (fun q => Nat.lt_of_lt_of_le q hn) id)]; exact h1 k hk
theorem SA_tr {a b c : AH} (h1 : SA a b) (h2 : SA b c) : SA a c := ⟨Nat.le_trans h1.1 h2.1, Nat.le_trans h1.2.1 h2.2.1, fun k hk => ⟨(h2.2.2 k hk).1.trans (h1.2.2 k hk).1, fun i => ((h2.2.2 k hk).2 i).trans ((h1.2.2 k hk).2 i)⟩⟩
theorem PcM_blind {D : va_G} {cy : Nat → ClassId} {ad : Nat → Nat} {as : List AV} {h : AH} {sz : Nat} : FrameBlind (PcM D cy ad as h sz) := by
  intro a U g mk hp
  obtain ⟨e1, e2, vK, vP, vD, vN, vO, vZ, vT, hw, hs⟩ := hp
  have al : U.vm.Alike (U.calling g mk a).vm := Vm.Alike.refl U.vm
  exact ⟨e1, e2, va_K.moved al vK, vP, vD, fun w hw => va_Nw.same (u := U) (U := U.calling g mk a) (by
    obtain ⟨q, -, rfl⟩ := List.mem_map.mp hw
    rfl) rfl (vN w hw), va_AO.moved al vO, ⟨fun j hj => va_Z.moved al (vZ.1 j hj), vk_R.same rfl vZ.2.1, vZ.2.2.moved al⟩, fun k hk => va_T.moved al (vT k hk), hw, hs⟩
theorem wo_free {D : va_G} {cy : Nat → ClassId} {A : Nat → Prop} {s : State} {ad : Nat → Nat} {h : AH} {H : Heap} {locs : List Loc} (hW : WO D cy A s ad h H locs) : ∀ q, va_A (wsO ad cy h) H.size q → A q := by
  intro q hq
  rcases hq with ⟨k, e, hk⟩ | hq
  · exact hW.2.2.1.2 k _ hk
  · exact hW.2.2.2.2.1 q (Nat.le_trans hW.2.2.2.1.1 hq)
theorem pre_ok {D : va_G} {cy : Nat → ClassId} {A : Nat → Prop} {s : State} {ad : Nat → Nat} {h : AH} {H : Heap} {locs : List Loc} {as : List AV} (hW : WO D cy A s ad h H locs) (hnw : ∀ w ∈ nst, va_Nw w s) (hao : va_AO RX6 s) (has : SW (hN h) as) :
    ∀ U : State, U.heap = H → s.WarmedH U.vm → PcM D cy ad as h H.size (as.map (trV ad)).toArray U := by
  intro U hU hw
  have hf := wo_free hW
  obtain ⟨vK, vP, vD, vS, vA, vZ, vT, hHW⟩ := hW
  refine ⟨rfl, by rw [hU], va_K.moved hw.alike vK, by rw [hU]; exact vP, vD.weaken (fun _ _ _ _ => trivial), fun w h => ?_, va_AO.moved hw.alike hao, ⟨fun j hj => ?_, vk_R.warm hw vZ.2.1, ?_⟩, fun k hk => ?_, hHW, has⟩
  · obtain ⟨q, hq, rfl⟩ := List.mem_map.mp h
    exact va_Nw.warmM hw (hnw _ h)
  · rw [hU]
    exact va_Z.moved hw.alike (((vZ.1 j hj).kept (fun a h1 h2 => vS.2.1 a h1 h2)).narrow hf)
  · rw [hU]
    exact ((vZ.2.2.kept (fun a h1 h2 => vS.2.1 a h1 h2)).narrow hf).moved hw.alike
  · rw [hU]
    exact va_T.moved hw.alike (((vT k hk).kept (fun a h1 h2 => vS.2.1 a h1 h2)).narrow hf)
theorem mo_ok : (List.range 321).all (fun M => decide (M < 4) || decide (mO M ≠ 11)) = true := by decide +kernel
theorem mO11 {M : Nat} (h : M < 321) (h4 : 4 ≤ M) : mO M ≠ 11 := by
  have h2 := List.all_eq_true.mp mo_ok M (List.mem_range.mpr h)
  rw [Bool.or_eq_true] at h2
  exact of_decide_eq_true (h2.resolve_left fun h => absurd (of_decide_eq_true h) (by omega))
section SD6
variable {p : Program} {l : Launch} {e : Env} {R : Room} {s : State} {m : MethodId} {args : Array Value} {below : List Frame} {meth : Method} {c : Code} {Q : State → Prop} {D : va_G} {cy : Nat → ClassId} {A : Nat → Prop} {ad0 : Nat → Nat} {h0 : AH} {M d : Nat} {pc len a b : Nat} {k : Int} {sw : List (Int × Nat)} {ins : Instr} {ls : List (Option AV)} {st : List AV} {h : AH}
theorem call_end {r : Option AV} {h1 : AH} {rest : List AV} {ad : Nat → Nat} {lsA : Array Slot} {H : Heap} {locs : List Loc} {st0 : List Value} {aa : Array Value} (hk : GO p l e R s m args below meth c Q D cy A ad0 h0 M (pc + 3) ls (r.toList ++ rest) h1)
    (hAG : AG (hN h0) ad0 ad) (hSA : SA h0 h) (hL : LV ad lsA (mL M) ls) (hLW : LW (hN h) ls) (hSW : SW (hN h) rest) (hW : WO D cy A s ad h H locs)
    (hr : va_Run p l e R s m args below meth c H locs (hN h - hN h0) (hS h - hS h0) (hN h1 - hN h) (hS h1 - hS h) (F0 m pc lsA st0) (rest.map (trV ad)) (QcM D cy ad h r h1 H.size aa) (va_A (wsO ad cy h) H.size)) :
    W p l e R s m args below meth c H locs (hN h - hN h0) (hS h - hS h0) Q (F0 m pc lsA st0) := by
  have hf := wo_free hW
  refine callG hr (fun v u t L hu hvm hq hLf => ?_)
  obtain ⟨⟨ad', hv, hAG', hSA', hHW', hwr, hP', hD'⟩, hF⟩ := hq
  injection hv with hv
  subst hv
  subst hu
  have ec : hN h - hN h0 + (hN h1 - hN h) = hN h1 - hN h0 := by have := hSA.1; have := hSA'.1; omega
  have es : hS h - hS h0 + (hS h1 - hS h) = hS h1 - hS h0 := by have := hSA.2.1; have := hSA'.2.1; omega
  have em : (r.map (trV ad')).toList ++ rest.map (trV ad) = (r.toList ++ rest).map (trV ad') := by
    rw [List.map_append, SW_map hAG' hSW]
    cases r <;> rfl
  rw [ec, es, em]
  obtain ⟨vK, vP, vD, vS, vA, vZ, vT, hHW⟩ := hW
  have hS' : va_S A s.heap t.heap (locs ++ L) := by
    refine ⟨Nat.le_trans vS.1 hF.1, fun q h1 h2 => ?_, fun q hq => ?_⟩
    · rw [hF.2 q (Nat.lt_of_lt_of_le h1 vS.1) (fun z => h2 (hf q z))]
      exact vS.2.1 q h1 h2
    · rcases List.mem_append.mp hq with z | z
      · exact vS.2.2 q z
      · exact hf _ (hLf q z)
  refine hk.2 ad' lsA t.heap (locs ++ L) (AG_tr hAG hAG' hSA.1) (SA_tr hSA hSA') (LV_ag hAG' hL hLW) (LW_mono hLW hSA'.1) ?_ ⟨vK, hP', hD'.weaken (fun _ _ _ z => hf _ z), hS', vA, ZS_eq (fun k hk => hAG' k (Or.inr hk)) vZ, fun k hk => ?_, hHW'⟩
  · intro w hw
    rcases List.mem_append.mp hw with z | z
    · cases r with
      | none => cases z
      | some r => rw [List.mem_singleton.mp z]; exact hwr r rfl
    · exact wfv_mono (hSW w z) hSA'.1
  · have hk6 : 1000000 ≤ k := by
      rcases Nat.lt_or_ge k (hN h1) with q | q
      · have := hHW'.2.1 k q; omega
      · exact (hHW'.1 k q).2 hk
    obtain ⟨e1, e2⟩ := hSA'.2.2 k hk6
    have e3 : (fun i => trV ad' (hV h1 k i)) = fun i => trV ad (hV h k i) := by
      funext i
      rw [e2, trV_ag hAG' (hHW.2.2.1 k i)]
    rw [e1] at hk ⊢
    rw [e3, hAG' k (Or.inr hk6)]
    exact vT k hk
theorem rm_ok {d' M' : Nat} (hM : M' < 321) (h4 : 4 ≤ M') (hfr : d' + 1 + 5 ≤ R.frames) (hlo : 48 * (d' + 1 + 5) ≤ R.locals) (x y : Nat) : (rmD d' x y).frames + 1 ≤ R.frames ∧ 8 + (mL M' + 11) + (rmD d' x y).locals ≤ R.locals := by
  have := (my_at hM h4).2.2.2.2.2.2
  refine ⟨(by show d' + 5 + 1 ≤ R.frames; omega), ?_⟩
  show 8 + (mL M' + 11) + 48 * (d' + 5) ≤ R.locals
  omega
theorem callB_mk {d' M' i : Nat} {x y : Nat} (hM : M' < 321) (h4 : 4 ≤ M') (hts : ∀ w ∈ gtb, w.before args s = true) (hfr : d' + 1 + 5 ≤ R.frames) (hlo : 48 * (d' + 1 + 5) ≤ R.locals) (hl : mlk (mO M) i M' = true) : CallB R s args (cnm (mO M)) i (mY M') (mB M') (mL M') (mR M') (wsM M') (rmD d' x y) x y (pN M') := by
  obtain ⟨m1, m2, m3, m4, m5, m6, m7⟩ := my_at hM h4
  obtain ⟨r1, r2⟩ := rm_ok (R := R) hM h4 hfr hlo x y
  refine ⟨rfl, rfl, r1, r2, pay_in hts (wsM_good hM), List.mem_cons_self, hts _ (cw_in hM), ?_, ⟨m3, m4⟩, fun sig h => ?_, hts _ (mlk_ok hl).1⟩
  · rw [m1]
    refine hts _ (ini_in m5 ?_)
    intro z
    have := mO11 hM h4
    exact this z
  · rw [h] at m6
    exact (Option.some.inj m6).symm
theorem callN_mk {d' M' i : Nat} {x y : Nat} (hM : M' < 321) (h4 : 4 ≤ M') (hts : ∀ w ∈ gtb, w.before args s = true) (hnw : ∀ w ∈ nst, va_Nw w s) (hfr : d' + 1 + 5 ≤ R.frames) (hlo : 48 * (d' + 1 + 5) ≤ R.locals) (hl : mnk (mO M) i M' = true) : va_CN R s args (cnm (mO M)) i (mY M') "HookSwings" (mB M') (mL M') (mR M') (wsM M') (rmD d' x y) x y (pN M') := by
  obtain ⟨m1, m2, m3, m4, m5, m6, m7⟩ := my_at hM h4
  refine va_cnB (pN M') hts (wsM_good hM) rfl rfl rfl (hnw _ (mnk_ok hl).1) ?_ ⟨m3, m4, m6⟩ (rm_ok (R := R) hM h4 hfr hlo x y)
  rw [m1]
  exact hts _ (ini_in m5 (mO11 hM h4))
set_option maxHeartbeats 4000000 in
theorem sd_38 (C : FC M d p s m args meth c R) (hd : decode (mB M) pc = .ok (ins, len)) (hok : okO M pc 38 a b k sw ins len = true) (hk : stepK False (GO p l e R s m args below meth c Q D cy A ad0 h0 M) (RE p l e R s m args below meth c Q D cy A ad0 h0 M) (CA d) dfO nF (38, pc + len, a, b, k, sw) ls st h) : GO p l e R s m args below meth c Q D cy A ad0 h0 M pc ls st h := by
  obtain ⟨hx, hb, hml, hown, hts, hnw, hao, hlocks, hret, hini, hfr, hlo⟩ := C
  replace hk := if_ex hk
  obtain ⟨⟨hbl, hw8⟩, hk⟩ := hk
  obtain ⟨d', r, h1, rfl, hgr, hMT, hk⟩ := hk
  refine ⟨⟨Nat.le_trans hgr.1 hk.1.1, Nat.le_trans hgr.2 hk.1.2⟩, fun ad lsA H locs hAG hSA hL hLW hSW hW => ?_⟩
  have hst : st.map (trV ad) = ((st.take b).reverse.map (trV ad)).reverse ++ (st.drop b).map (trV ad) := by
    rw [List.map_reverse, List.reverse_reverse, ← List.map_append, List.take_append_drop]
  have hSd : SW (hN h) (st.drop b) := fun v hv => hSW v (List.mem_of_mem_drop hv)
  have hSt : SW (hN h) (st.take b).reverse := fun v hv => hSW v (List.mem_of_mem_take (List.mem_reverse.mp hv))
  have hrm : 2 * (F0 m pc lsA (st.map (trV ad))).monitorRoom + (((st.drop b).map (trV ad)).map fun v => v.category).sum ≤ 8 := by
    rw [cat_sum]
    have : 2 * (F0 m pc lsA (st.map (trV ad))).monitorRoom = 0 := rfl
    omega
  have hcl : hN h - hN h0 + (hN h1 - hN h) ≤ R.cells ∧ hS h - hS h0 + (hS h1 - hS h) ≤ R.slots := by
    have := hk.1.1; have := hk.1.2; have := hgr.1; have := hgr.2; have := hSA.1; have := hSA.2.1
    omega
  cases ins <;> first | (cases hok; done) | skip
  rename_i i
  rw [okO, Bool.and_eq_true] at hok
  obtain ⟨hx1, hx2⟩ := hok
  obtain ⟨rfl, hk0, hpn, h4⟩ := of_decide_eq_true hx1
  have hn : ((st.take b).reverse.map (trV ad)).length = pN a := by
    rw [List.length_map, List.length_reverse, List.length_take, hpn]; omega
  have hM : a < 321 := by
    rw [Bool.or_eq_true] at hx2
    rcases hx2 with z | z
    · exact (mlk_ok z).2
    · exact (mnk_ok z).2
  replace hMT := hMT h4 hM
  refine call_end hk hAG hSA hL hLW hSd hW (aa := ((st.take b).reverse.map (trV ad)).toArray) ?_
  rw [Bool.or_eq_true] at hx2
  rcases hx2 with z | z
  · exact va_runS (As := (st.take b).reverse.map (trV ad)) ⟨hx, hb, hml, hown, hts⟩ (hMT.2.2 l D cy ad H.size) ⟨callB_mk hM h4 hts hfr hlo z, hts _ (st_in hM hk0)⟩ ⟨PcM_blind, pre_ok hW hnw hao hSt⟩ rfl hn hL.2.1 hst hrm hd hcl
  · exact va_runSN (As := (st.take b).reverse.map (trV ad)) ⟨hx, hb, hml, hown, hts⟩ (hMT.2.2 l D cy ad H.size) ⟨callN_mk hM h4 hts hnw hfr hlo z, hts _ (st_in hM hk0), trivial⟩ ⟨PcM_blind, pre_ok hW hnw hao hSt⟩ rfl hn hL.2.1 hst hrm hd hcl
set_option maxHeartbeats 4000000 in
theorem sd_46 (C : FC M d p s m args meth c R) (hd : decode (mB M) pc = .ok (ins, len)) (hok : okO M pc 46 a b k sw ins len = true) (hk : stepK False (GO p l e R s m args below meth c Q D cy A ad0 h0 M) (RE p l e R s m args below meth c Q D cy A ad0 h0 M) (CA d) dfO nF (46, pc + len, a, b, k, sw) ls st h) : GO p l e R s m args below meth c Q D cy A ad0 h0 M pc ls st h := by
  obtain ⟨hx, hb, hml, hown, hts, hnw, hao, hlocks, hret, hini, hfr, hlo⟩ := C
  replace hk := if_ex hk
  obtain ⟨⟨hbl, hw8⟩, hk⟩ := hk
  replace hk := pR_ex hk
  obtain ⟨q, ra, hra, hk⟩ := hk
  replace hk := if_ex hk
  obtain ⟨hkq, hk⟩ := hk
  obtain ⟨d', r, h1, rfl, hgr, hMT, hk⟩ := hk
  refine ⟨⟨Nat.le_trans hgr.1 hk.1.1, Nat.le_trans hgr.2 hk.1.2⟩, fun ad lsA H locs hAG hSA hL hLW hSW hW => ?_⟩
  have hst : st.map (trV ad) = ((st.take b).reverse.map (trV ad)).reverse ++ (st.drop b).map (trV ad) := by
    rw [List.map_reverse, List.reverse_reverse, ← List.map_append, List.take_append_drop]
  have hSd : SW (hN h) (st.drop b) := fun v hv => hSW v (List.mem_of_mem_drop hv)
  have hSt : SW (hN h) (st.take b).reverse := fun v hv => hSW v (List.mem_of_mem_take (List.mem_reverse.mp hv))
  have hrm : 2 * (F0 m pc lsA (st.map (trV ad))).monitorRoom + (((st.drop b).map (trV ad)).map fun v => v.category).sum ≤ 8 := by
    rw [cat_sum]
    have : 2 * (F0 m pc lsA (st.map (trV ad))).monitorRoom = 0 := rfl
    omega
  have hcl : hN h - hN h0 + (hN h1 - hN h) ≤ R.cells ∧ hS h - hS h0 + (hS h1 - hS h) ≤ R.slots := by
    have := hk.1.1; have := hk.1.2; have := hgr.1; have := hgr.2; have := hSA.1; have := hSA.2.1
    omega
  cases ins <;> first | (cases hok; done) | skip
  rename_i i
  rw [okO, Bool.and_eq_true, Bool.and_eq_true] at hok
  obtain ⟨⟨hx1, hx2⟩, hx3⟩ := hok
  obtain ⟨rfl, hk1, hpn, rfl, hmo, h4⟩ := of_decide_eq_true hx1
  have hM : a < 321 := (mlk_ok hx2).2
  have hst2 : st.map (trV ad) = (ra.map (trV ad)).reverse ++ .ref (ad q) :: (st.drop b).map (trV ad) := by
    rw [hst, hra, List.map_cons, List.reverse_cons, List.append_assoc]; rfl
  have hn : (ra.map (trV ad)).length = pN a := by
    have h9 : (st.take b).reverse.length = b := by rw [List.length_reverse, List.length_take]; omega
    rw [hra, List.length_cons] at h9
    rw [List.length_map]; omega
  have hpr := pre_ok hW hnw hao hSt
  replace hMT := hMT h4 hM
  rw [hra] at hpr hMT hSt
  refine call_end hk hAG hSA hL hLW hSd hW (aa := (Value.ref (ad q) :: ra.map (trV ad)).toArray) ?_
  have hkq : (hK h q).1 = mO a := hkq
  have hW0 := hW
  obtain ⟨vK, vP, vD, vS, vA, vZ, vT, hHW⟩ := hW
  have hql := hHW.lt (k := q) (by omega)
  have he := wsO_get (ad := ad) (cy := cy) hql
  rw [cEl_obj hkq hmo] at he
  have ecl : (clT (mO a)).1 = cnm (mO a) := (of_decide_eq_true (List.all_eq_true.mp cl_ok (mO a) (List.mem_range.mpr hmo))).2
  have hrc := va_recv vK vP (cl_at hmo) he
  rw [show ((clT (mO a)).1, (clT (mO a)).2.1, nF (mO a)).1 = cnm (mO a) from ecl] at hrc
  exact va_runV (C := cnm (mO a)) (b := ad q) (As := ra.map (trV ad)) ⟨hx, hb, hml, hown, hts⟩ (hMT.2.2 l D cy ad H.size) ⟨callB_mk hM h4 hts hfr hlo hx2, hts _ (im_in hM hk1), hts _ (inT_mem hx3)⟩ ⟨PcM_blind, hrc, hpr⟩ rfl hn hL.2.1 hst2 hrm hd hcl
set_option maxHeartbeats 4000000 in
theorem sd_47 (C : FC M d p s m args meth c R) (hd : decode (mB M) pc = .ok (ins, len)) (hok : okO M pc 47 a b k sw ins len = true) (hk : stepK False (GO p l e R s m args below meth c Q D cy A ad0 h0 M) (RE p l e R s m args below meth c Q D cy A ad0 h0 M) (CA d) dfO nF (47, pc + len, a, b, k, sw) ls st h) : GO p l e R s m args below meth c Q D cy A ad0 h0 M pc ls st h := by
  obtain ⟨hx, hb, hml, hown, hts, hnw, hao, hlocks, hret, hini, hfr, hlo⟩ := C
  replace hk := if_ex hk
  obtain ⟨⟨hbl, hw8⟩, hk⟩ := hk
  replace hk := pR_ex hk
  obtain ⟨q, ra, hra, hk⟩ := hk
  obtain ⟨d', r, h1, rfl, hgr, hMT, hk⟩ := hk
  refine ⟨⟨Nat.le_trans hgr.1 hk.1.1, Nat.le_trans hgr.2 hk.1.2⟩, fun ad lsA H locs hAG hSA hL hLW hSW hW => ?_⟩
  have hst : st.map (trV ad) = ((st.take b).reverse.map (trV ad)).reverse ++ (st.drop b).map (trV ad) := by
    rw [List.map_reverse, List.reverse_reverse, ← List.map_append, List.take_append_drop]
  have hSd : SW (hN h) (st.drop b) := fun v hv => hSW v (List.mem_of_mem_drop hv)
  have hSt : SW (hN h) (st.take b).reverse := fun v hv => hSW v (List.mem_of_mem_take (List.mem_reverse.mp hv))
  have hrm : 2 * (F0 m pc lsA (st.map (trV ad))).monitorRoom + (((st.drop b).map (trV ad)).map fun v => v.category).sum ≤ 8 := by
    rw [cat_sum]
    have : 2 * (F0 m pc lsA (st.map (trV ad))).monitorRoom = 0 := rfl
    omega
  have hcl : hN h - hN h0 + (hN h1 - hN h) ≤ R.cells ∧ hS h - hS h0 + (hS h1 - hS h) ≤ R.slots := by
    have := hk.1.1; have := hk.1.2; have := hgr.1; have := hgr.2; have := hSA.1; have := hSA.2.1
    omega
  cases ins <;> first | (cases hok; done) | skip
  rename_i i
  rw [okO, Bool.and_eq_true] at hok
  obtain ⟨hx1, hx2⟩ := hok
  obtain ⟨rfl, hk1, hpn, hnm, hmr, h4⟩ := of_decide_eq_true hx1
  have hM : a < 321 := by
    rw [Bool.or_eq_true] at hx2
    rcases hx2 with z | z
    · exact (mlk_ok z).2
    · exact (mnk_ok z).2
  have hst2 : st.map (trV ad) = (ra.map (trV ad)).reverse ++ .ref (ad q) :: (st.drop b).map (trV ad) := by
    rw [hst, hra, List.map_cons, List.reverse_cons, List.append_assoc]; rfl
  have hn : (ra.map (trV ad)).length = pN a := by
    have h9 : (st.take b).reverse.length = b := by rw [List.length_reverse, List.length_take]; omega
    rw [hra, List.length_cons] at h9
    rw [List.length_map]; omega
  have hpr := pre_ok hW hnw hao hSt
  replace hMT := hMT h4 hM
  rw [hra] at hpr hMT hSt
  refine call_end hk hAG hSA hL hLW hSd hW (aa := (Value.ref (ad q) :: ra.map (trV ad)).toArray) ?_
  rw [Bool.or_eq_true] at hx2
  rcases hx2 with z | z
  · have hcb := callB_mk (x := hN h1 - hN h) (y := hS h1 - hS h) hM h4 hts hfr hlo z
    rw [hmr] at hcb
    exact va_runI (b := ad q) (As := ra.map (trV ad)) ⟨hx, hb, hml, hown, hts⟩ (hMT.2.2 l D cy ad H.size) ⟨hcb, hnm, hts _ (im_in hM hk1)⟩ ⟨PcM_blind, hpr⟩ rfl hn hL.2.1 hst2 hrm hd hcl
  · have hcb := callN_mk (x := hN h1 - hN h) (y := hS h1 - hS h) hM h4 hts hnw hfr hlo z
    rw [hmr] at hcb
    exact va_runIN (b := ad q) (As := ra.map (trV ad)) ⟨hx, hb, hml, hown, hts⟩ (hMT.2.2 l D cy ad H.size) ⟨hcb, hnm, hts _ (im_in hM hk1)⟩ ⟨PcM_blind, hpr⟩ rfl hn hL.2.1 hst2 hrm hd hcl
theorem WO_upd {h' : AH} {ad : Nat → Nat} {H H1 : Heap} {locs locs1 : List Loc} {r : Nat} (hW : WO D cy A s ad h H locs) (hr : (hK h r).1 < 15) (hn : hN h' = hN h) (hkk : hK h' = hK h) (hv : ∀ k, k ≠ r → ∀ j, hV h' k j = hV h k j) (hw : HW h') {e : va_E} (he : cEl ad cy h' r = e)
    (hP : va_P D vwCl ((wsO ad cy h).set r (ad r, e)) H1) (hD : va_D A ((wsO ad cy h).set r (ad r, e))) (hS1 : va_S A s.heap H1 locs1) : WO D cy A s ad h' H1 locs1 := by
  obtain ⟨vK, -, -, -, vA, vZ, vT, hHW⟩ := hW
  have e1 : wsO ad cy h' = (wsO ad cy h).set r (ad r, e) := by
    rw [wsO_upd (h := h) (h' := h') hn (hHW.lt hr) (fun k hk => cEl_ag (h := h) (fun _ _ => rfl) (by rw [hkk]) (hv k hk) (hHW.2.2.1 k)), he]
  refine ⟨vK, by rw [e1]; exact hP, by rw [e1]; exact hD, hS1, vA, vZ, fun k hk => ?_, hw⟩
  rw [hkk] at hk ⊢
  have hne : k ≠ r := fun z => by rw [z] at hk; omega
  have e2 : (fun j => trV ad (hV h' k j)) = fun j => trV ad (hV h k j) := by
    funext j; rw [hv k hne]
  rw [e2]
  exact vT k hk
set_option maxHeartbeats 4000000 in
theorem sd_45 (C : FC M d p s m args meth c R) (hd : decode (mB M) pc = .ok (ins, len)) (hok : okO M pc 45 a b k sw ins len = true) (hk : stepK False (GO p l e R s m args below meth c Q D cy A ad0 h0 M) (RE p l e R s m args below meth c Q D cy A ad0 h0 M) (CA d) dfO nF (45, pc + len, a, b, k, sw) ls st h) : GO p l e R s m args below meth c Q D cy A ad0 h0 M pc ls st h := by
  obtain ⟨hx, hb, hml, hown, hts, hnw, hao, hlocks, hret, hini, hfr, hlo⟩ := C
  replace hk := pI_ex hk
  obtain ⟨n, st, rfl, hk⟩ := hk
  replace hk := pI_ex hk
  obtain ⟨dp, st, rfl, hk⟩ := hk
  replace hk := pR_ex hk
  obtain ⟨q, st, rfl, hk⟩ := hk
  replace hk := pI_ex hk
  obtain ⟨sp, st, rfl, hk⟩ := hk
  replace hk := pR_ex hk
  obtain ⟨r, st, rfl, hk⟩ := hk
  replace hk := if_ex hk
  obtain ⟨⟨hkd, hkq, hn0, hdp0, hsp0, hsn, hdn, hw8⟩, hk⟩ := hk
  refine ⟨hk.1, fun ad lsA H locs hAG hSA hL hLW hSW hW => ?_⟩
  have hW0 := hW
  obtain ⟨vK, vP, vD, vS, vA, vZ, vT, hHW⟩ := hW
  have hnr : r32 n := SW_h hSW
  have hdpr : r32 dp := SW_h (SW_t hSW)
  have hspr : r32 sp := SW_h (SW_t (SW_t (SW_t hSW)))
  have hvv : ∀ k, k ≠ q → ∀ j, hV (hCpy h r sp.toNat q dp.toNat n.toNat) k j = hV h k j := fun k hk j => if_neg (fun z => hk z.1)
  have hHW1 : HW (hCpy h r sp.toNat q dp.toNat n.toNat) := by
    refine ⟨hHW.1, hHW.2.1, fun k j => ?_, hHW.2.2.2⟩
    show wfv (hN h) (if k = q ∧ dp.toNat ≤ j ∧ j < dp.toNat + n.toNat then hV h r (sp.toNat + (j - dp.toNat)) else hV h k j)
    split
    · exact hHW.2.2.1 _ _
    · exact hHW.2.2.1 _ _
  have hq5 := hHW.lt (k := q) (by omega)
  have hSA1 : SA h0 (hCpy h r sp.toNat q dp.toNat n.toNat) := by
    refine ⟨hSA.1, hSA.2.1, fun k hk => ⟨(hSA.2.2 k hk).1, fun j => ?_⟩⟩
    have := hHW.2.2.2.1
    rw [hvv k (by omega)]
    exact (hSA.2.2 k hk).2 j
  cases ins <;> first | (cases hok; done) | skip
  rw [okO, Bool.and_eq_true] at hok
  obtain ⟨hx1, hx2⟩ := hok
  obtain rfl := of_decide_eq_true hx1
  rcases hkd with hkd | hkd
  · have hkq : (hK h q).1 = 11 := by rw [hkq, hkd]
    have hr := hHW.lt (k := r) (by omega)
    have hq := hHW.lt (k := q) (by omega)
    have he := wsO_get (ad := ad) (cy := cy) hr
    have heq := wsO_get (ad := ad) (cy := cy) hq
    rw [cEl_int hkd] at he
    rw [cEl_int hkq] at heq
    have hce : cEl ad cy (hCpy h r sp.toNat q dp.toNat n.toNat) q = .inl (cy 0, (hK h q).2, .inl (va_cpy (fun j => ioV (hV h r j)) (fun j => ioV (hV h q j)) (Int32.ofInt sp).toNatClampNeg (Int32.ofInt dp).toNatClampNeg (Int32.ofInt n).toNatClampNeg)) := by
      rw [cEl_int (h := hCpy h r sp.toNat q dp.toNat n.toNat) hkq, cN32 hspr, cN32 hdpr, cN32 hnr]
      have e0 : hK (hCpy h r sp.toNat q dp.toNat n.toNat) q = hK h q := rfl
      rw [e0]
      congr 4
      funext j
      unfold va_cpy
      show ioV (if q = q ∧ dp.toNat ≤ j ∧ j < dp.toNat + n.toNat then hV h r (sp.toNat + (j - dp.toNat)) else hV h q j) = _
      by_cases z : dp.toNat ≤ j ∧ j < dp.toNat + n.toNat
      · rw [if_pos ⟨rfl, z⟩, if_pos z]
      · rw [if_neg (fun w => z w.2), if_neg z]
    exact va_copyi hx hb (hml.trans hL.2.1.symm) hown (hts _ (ack_ok hx2)) (hts _ ac_nat) (hts _ ac_st) (hts _ ac_ini) vK vP vD vS r q 0 0 he heq rfl rfl (by decide) (by rw [← i32_0, l32 hspr r32_0]; omega) (by rw [← i32_0, l32 hdpr r32_0]; omega) (by rw [← i32_0, l32 hnr r32_0]; omega) (by rw [cN32 hspr, cN32 hnr]; omega) (by rw [cN32 hdpr, cN32 hnr]; omega) (fun _ _ => rfl) (by omega) (by rw [cat_sum]; have h77 : nativeFrameWords "java/lang/System" "arraycopy" 5 ≤ 7 := (by decide); omega) hd (fun H1 locs1 hP1 hD1 hS1 => hk.2 ad lsA H1 locs1 hAG hSA1 hL hLW (SW_t (SW_t (SW_t (SW_t (SW_t hSW))))) (WO_upd hW0 (by omega) rfl rfl hvv hHW1 hce hP1 hD1 hS1))
  · have hkq : (hK h q).1 = 12 := by rw [hkq, hkd]
    have hr := hHW.lt (k := r) (by omega)
    have hq := hHW.lt (k := q) (by omega)
    have he := wsO_get (ad := ad) (cy := cy) hr
    have heq := wsO_get (ad := ad) (cy := cy) hq
    rw [cEl_long hkd] at he
    rw [cEl_long hkq] at heq
    have hce : cEl ad cy (hCpy h r sp.toNat q dp.toNat n.toNat) q = .inl (cy 1, (hK h q).2, .inr (.inl (va_cpy (fun j => loV (hV h r j)) (fun j => loV (hV h q j)) (Int32.ofInt sp).toNatClampNeg (Int32.ofInt dp).toNatClampNeg (Int32.ofInt n).toNatClampNeg))) := by
      rw [cEl_long (h := hCpy h r sp.toNat q dp.toNat n.toNat) hkq, cN32 hspr, cN32 hdpr, cN32 hnr]
      have e0 : hK (hCpy h r sp.toNat q dp.toNat n.toNat) q = hK h q := rfl
      rw [e0]
      congr 5
      funext j
      unfold va_cpy
      show loV (if q = q ∧ dp.toNat ≤ j ∧ j < dp.toNat + n.toNat then hV h r (sp.toNat + (j - dp.toNat)) else hV h q j) = _
      by_cases z : dp.toNat ≤ j ∧ j < dp.toNat + n.toNat
      · rw [if_pos ⟨rfl, z⟩, if_pos z]
      · rw [if_neg (fun w => z w.2), if_neg z]
    exact va_copyl hx hb (hml.trans hL.2.1.symm) hown (hts _ (ack_ok hx2)) (hts _ ac_nat) (hts _ ac_st) (hts _ ac_ini) vK vP vD vS r q 1 1 he heq rfl rfl (by decide) (by rw [← i32_0, l32 hspr r32_0]; omega) (by rw [← i32_0, l32 hdpr r32_0]; omega) (by rw [← i32_0, l32 hnr r32_0]; omega) (by rw [cN32 hspr, cN32 hnr]; omega) (by rw [cN32 hdpr, cN32 hnr]; omega) (fun _ _ => rfl) (by omega) (by rw [cat_sum]; have h77 : nativeFrameWords "java/lang/System" "arraycopy" 5 ≤ 7 := (by decide); omega) hd (fun H1 locs1 hP1 hD1 hS1 => hk.2 ad lsA H1 locs1 hAG hSA1 hL hLW (SW_t (SW_t (SW_t (SW_t (SW_t hSW))))) (WO_upd hW0 (by omega) rfl rfl hvv hHW1 hce hP1 hD1 hS1))
end SD6
