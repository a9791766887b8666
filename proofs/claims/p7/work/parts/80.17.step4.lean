theorem WO_set {D : va_G} {cy : Nat → ClassId} {A : Nat → Prop} {s : State} {ad : Nat → Nat} {h : AH} {H H1 : Heap} {locs locs1 : List Loc} {r i : Nat} {v : AV} (hW : WO D cy A s ad h H locs) (hr : (hK h r).1 < 15) (hv : wfv (hN h) v) {e : va_E} (he : cEl ad cy (hSet h r i v) r = e)
    (hP : va_P D vwCl ((wsO ad cy h).set r (ad r, e)) H1) (hD : va_D A ((wsO ad cy h).set r (ad r, e))) (hS : va_S A s.heap H1 locs1) : WO D cy A s ad (hSet h r i v) H1 locs1 := by
  obtain ⟨hK', -, -, -, hA, hZ, hT, hHW⟩ := hW
  have e1 : wsO ad cy (hSet h r i v) = (wsO ad cy h).set r (ad r, e) := by rw [wsO_upd (h := h) (h' := hSet h r i v) rfl (hHW.lt hr) (fun k hk => cEl_hSet_ne hk), he]
  refine ⟨hK', by rw [e1]; exact hP, by rw [e1]; exact hD, hS, hA, hZ, fun k hk => ?_, HW_set hHW hv⟩
  have hk' : (hK h k).1 = 20 := hk
  have hne : k ≠ r := fun z => by rw [z] at hk'; omega
  have e2 : (fun j => trV ad (hV (hSet h r i v) k j)) = fun j => trV ad (hV h k j) := by
    funext j
    have : hV (hSet h r i v) k j = hV h k j := if_neg (fun z => hne z.1)
    rw [this]
  rw [e2]
  exact hT k hk'
theorem hV_set (h : AH) (r i : Nat) (v : AV) (j : Nat) : hV (hSet h r i v) r j = if j = i then v else hV h r j := by
  show (if r = r ∧ j = i then v else hV h r j) = _
  by_cases e : j = i
  · rw [if_pos ⟨rfl, e⟩, if_pos e]
  · rw [if_neg (fun z => e z.2), if_neg e]
theorem cEl_setO {ad : Nat → Nat} {cy : Nat → ClassId} {h : AH} {r a b : Nat} {v : AV} (hr : (hK h r).1 = a) (ha : a < 11) : cEl ad cy (hSet h r b v) r = .inr (a, ((List.range (nF a)).map (fun i => trV ad (hV h r i))).set b (trV ad v)) := by
  rw [cEl_obj (h := hSet h r b v) hr ha, map_set_range (nF a) b (fun i => trV ad (hV h r i)) (fun i => trV ad (hV (hSet h r b v) r i)) (trV ad v)]
  intro j
  rw [hV_set]
  split <;> rfl
theorem okF_fit {a b : Nat} {k : Int} {v : AV} {ad : Nat → Nat} (ha : a < 11) (hb : b < nF a) (hk : (fT a b : Int) = k) (ho : okF k v = true) : narrow (tyO a b) (trV ad v) = trV ad v ∧ fits (tyO a b) (trV ad v) = true := by
  have hf := ft_at ha hb
  match v, ho with
  | .inl x, ho =>
    simp only [okF, Bool.or_eq_true, Bool.and_eq_true, decide_eq_true_eq] at ho
    split at hf <;> rename_i ht <;> (try simp only [beq_iff_eq] at hf) <;> try (exfalso; omega)
    · rw [ht]; exact ⟨rfl, rfl⟩
    · rw [ht]
      rcases ho with h0 | ⟨-, h1⟩
      · omega
      · rcases of_decide_eq_true h1 with rfl | rfl
        · exact ⟨(by decide : narrow .boolean (.int 0) = .int 0), (by decide : fits .boolean (.int 0) = true)⟩
        · exact ⟨(by decide : narrow .boolean (.int 1) = .int 1), (by decide : fits .boolean (.int 1) = true)⟩
    · cases hf
  | .inr (.inl x), ho =>
    simp only [okF, decide_eq_true_eq] at ho
    split at hf <;> rename_i ht <;> (try simp only [beq_iff_eq] at hf) <;> try (exfalso; omega)
    · rw [ht]; exact ⟨rfl, rfl⟩
    · cases hf
  | .inr (.inr o), ho =>
    simp only [okF, decide_eq_true_eq] at ho
    split at hf <;> rename_i ht <;> (try simp only [beq_iff_eq] at hf) <;> try (exfalso; omega)
    · rw [ht]; cases o <;> exact ⟨rfl, rfl⟩
    · rw [ht]; cases o <;> exact ⟨rfl, rfl⟩
    · cases hf
section SD4
variable {p : Program} {l : Launch} {e : Env} {R : Room} {s : State} {m : MethodId} {args : Array Value} {below : List Frame} {meth : Method} {c : Code} {Q : State → Prop} {D : va_G} {cy : Nat → ClassId} {A : Nat → Prop} {ad0 : Nat → Nat} {h0 : AH} {M d : Nat} {pc len a b : Nat} {k : Int} {sw : List (Int × Nat)} {ins : Instr} {ls : List (Option AV)} {st : List AV} {h : AH}
theorem sd_23 (C : FC M d p s m args meth c R) (hd : decode (mB M) pc = .ok (ins, len)) (hok : okO M pc 23 a b k sw ins len = true) (hk : stepK False (GO p l e R s m args below meth c Q D cy A ad0 h0 M) (RE p l e R s m args below meth c Q D cy A ad0 h0 M) (CA d) dfO nF (23, pc + len, a, b, k, sw) ls st h) : GO p l e R s m args below meth c Q D cy A ad0 h0 M pc ls st h := by
  obtain ⟨hx, hb, hml, hown, hts, hnw, hao, hlocks, hret, hini, hfr, hlo⟩ := C
  replace hk := pR_ex hk
  obtain ⟨r, st, rfl, hk⟩ := hk
  replace hk := if_ex hk
  obtain ⟨hkd, hk⟩ := hk
  refine ⟨hk.1, fun ad lsA H locs hAG hSA hL hLW hSW hW => ?_⟩
  have hW0 := hW
  obtain ⟨vK, vP, vD, vS, vA, vZ, vT, hHW⟩ := hW
  cases ins <;> first | (cases hok; done) | skip
  rw [okO, Bool.and_eq_true] at hok
  obtain ⟨h1, h2⟩ := hok
  obtain rfl := of_decide_eq_true h1
  obtain ⟨hw, ha, hbk⟩ := flk_ok h2
  have hr := hHW.lt (k := r) (by rw [hkd]; omega)
  have he := wsO_get (ad := ad) (cy := cy) hr
  rw [cEl_obj hkd ha] at he
  refine va_get (C := (clT a).1) (T := (clT a).2.1) (N := nF a) hx hb hts (lay_in ha) hown vK vP r he (cl_at ha) b hbk (hts _ hw) (fun _ h9 => h9) (v := trV ad (hV h r b)) ?_ hd ?_
  · rw [List.getElem?_map, List.getElem?_range hbk]; rfl
  · exact hk.2 ad lsA H locs hAG hSA hL hLW (SW_c (hHW.2.2.1 r b) (SW_t hSW)) hW0
theorem sd_24 (C : FC M d p s m args meth c R) (hd : decode (mB M) pc = .ok (ins, len)) (hok : okO M pc 24 a b k sw ins len = true) (hk : stepK False (GO p l e R s m args below meth c Q D cy A ad0 h0 M) (RE p l e R s m args below meth c Q D cy A ad0 h0 M) (CA d) dfO nF (24, pc + len, a, b, k, sw) ls st h) : GO p l e R s m args below meth c Q D cy A ad0 h0 M pc ls st h := by
  obtain ⟨hx, hb, hml, hown, hts, hnw, hao, hlocks, hret, hini, hfr, hlo⟩ := C
  replace hk := pV_ex hk
  obtain ⟨v, st, rfl, hk⟩ := hk
  replace hk := pR_ex hk
  obtain ⟨r, st, rfl, hk⟩ := hk
  replace hk := if_ex hk
  obtain ⟨⟨hkd, hof⟩, hk⟩ := hk
  refine ⟨hk.1, fun ad lsA H locs hAG hSA hL hLW hSW hW => ?_⟩
  have hW0 := hW
  obtain ⟨vK, vP, vD, vS, vA, vZ, vT, hHW⟩ := hW
  cases ins <;> first | (cases hok; done) | skip
  rw [okO, Bool.and_eq_true] at hok
  obtain ⟨h1, h2⟩ := hok
  obtain ⟨rfl, hft, hfin⟩ := of_decide_eq_true h1
  obtain ⟨hw, ha, hbk⟩ := flk_ok h2
  have hr15 : (hK h r).1 < 15 := by rw [hkd]; omega
  have hr := hHW.lt hr15
  have he := wsO_get (ad := ad) (cy := cy) hr
  rw [cEl_obj hkd ha] at he
  obtain ⟨hn, hfi⟩ := okF_fit (ad := ad) ha hbk hft hof
  have hl : b < ((List.range (nF a)).map (fun i => trV ad (hV h r i))).length := by rw [List.length_map, List.length_range]; exact hbk
  have hz := fun (H1 : Heap) (locs1 : List Loc) hP1 hD1 hS1 => hk.2 ad lsA H1 locs1 hAG (SA_set (r := r) (i := b) (v := v) hSA hHW hr) hL hLW (SW_t (SW_t hSW)) (WO_set (i := b) hW0 hr15 (SW_h hSW) (cEl_setO hkd ha) hP1 hD1 hS1)
  cases hf : ((clT a).2.1 b).2.2.2
  · exact va_put (C := (clT a).1) (T := (clT a).2.1) (N := nF a) (v := trV ad v) hx hb hts (lay_in ha) (tyO a) (ty_at ha) (nm_at ha) hown vK vP vD vS r he (cl_at ha) b hbk (hts _ hw) (fun _ h9 => h9) hf (ty_at ha b hbk) hn hfi hl hd hz
  · obtain ⟨hin, hdc⟩ := hfin hf
    exact va_putF (C := (clT a).1) (T := (clT a).2.1) (N := nF a) (v := trV ad v) hx hb hts (lay_in ha) (tyO a) (ty_at ha) (nm_at ha) hown vK vP vD vS r he (cl_at ha) b hbk (hts _ hw) (fun _ h9 => h9) hf (hini hin) hdc (ty_at ha b hbk) hn hfi hl hd hz
theorem sd_25 (C : FC M d p s m args meth c R) (hd : decode (mB M) pc = .ok (ins, len)) (hok : okO M pc 25 a b k sw ins len = true) (hk : stepK False (GO p l e R s m args below meth c Q D cy A ad0 h0 M) (RE p l e R s m args below meth c Q D cy A ad0 h0 M) (CA d) dfO nF (25, pc + len, a, b, k, sw) ls st h) : GO p l e R s m args below meth c Q D cy A ad0 h0 M pc ls st h := by
  obtain ⟨hx, hb, hml, hown, hts, hnw, hao, hlocks, hret, hini, hfr, hlo⟩ := C
  have hk : GO p l e R s m args below meth c Q D cy A ad0 h0 M (pc + len) ls (.inr (.inr (some (1000000 + a))) :: st) h := hk
  refine ⟨hk.1, fun ad lsA H locs hAG hSA hL hLW hSW hW => ?_⟩
  have hW0 := hW
  obtain ⟨vK, vP, vD, vS, vA, vZ, vT, hHW⟩ := hW
  cases ins <;> first | (cases hok; done) | skip
  rw [okO, Bool.and_eq_true] at hok
  obtain ⟨h1, h2⟩ := hok
  obtain rfl := of_decide_eq_true h1
  obtain ⟨hw, ha⟩ := slk_ok h2
  exact va_gets hx hb (vZ.1 a ha) vS hown (hts _ hw) (fun _ h9 => h9) hd (hk.2 ad lsA H locs hAG hSA hL hLW (SW_c (v := .inr (.inr (some (1000000 + a)))) (Or.inr (Nat.le_add_right _ _)) hSW) hW0)
theorem sd_26 (C : FC M d p s m args meth c R) (hd : decode (mB M) pc = .ok (ins, len)) (hok : okO M pc 26 a b k sw ins len = true) (hk : stepK False (GO p l e R s m args below meth c Q D cy A ad0 h0 M) (RE p l e R s m args below meth c Q D cy A ad0 h0 M) (CA d) dfO nF (26, pc + len, a, b, k, sw) ls st h) : GO p l e R s m args below meth c Q D cy A ad0 h0 M pc ls st h := by
  obtain ⟨hx, hb, hml, hown, hts, hnw, hao, hlocks, hret, hini, hfr, hlo⟩ := C
  replace hk := pI_ex hk
  obtain ⟨i, st, rfl, hk⟩ := hk
  replace hk := pR_ex hk
  obtain ⟨r, st, rfl, hk⟩ := hk
  replace hk := if_ex hk
  obtain ⟨⟨hkd, hin⟩, hk⟩ := hk
  replace hk := vIo_ex hk
  obtain ⟨x, hv, hk⟩ := hk
  refine ⟨hk.1, fun ad lsA H locs hAG hSA hL hLW hSW hW => ?_⟩
  have hW0 := hW
  obtain ⟨vK, vP, vD, vS, vA, vZ, vT, hHW⟩ := hW
  have hir : r32 i := SW_h hSW
  have hvw := hHW.2.2.1 r i.toNat
  rw [hv] at hvw
  have hz := hk.2 ad lsA H locs hAG hSA hL hLW (SW_c (v := .inl x) hvw (SW_t (SW_t hSW))) hW0
  cases ins <;> first | (cases hok; done) | skip
  obtain rfl := of_decide_eq_true hok
  rcases hkd with hkd | hkd
  · have hr := hHW.lt (k := r) (by rw [hkd]; omega)
    have he := wsO_get (ad := ad) (cy := cy) hr
    rw [cEl_int hkd] at he
    refine va_iald hx hb vK vP r 0 he rfl (vin32 hir hin) hd ?_
    rw [cN32 hir, hv]
    exact hz
  · exact va_ti hx hb (vT r hkd) vS (vin32 hir hin) (v := trV ad (.inl x)) (by rw [cN32 hir, hv]) hd hz
theorem sd_27 (C : FC M d p s m args meth c R) (hd : decode (mB M) pc = .ok (ins, len)) (hok : okO M pc 27 a b k sw ins len = true) (hk : stepK False (GO p l e R s m args below meth c Q D cy A ad0 h0 M) (RE p l e R s m args below meth c Q D cy A ad0 h0 M) (CA d) dfO nF (27, pc + len, a, b, k, sw) ls st h) : GO p l e R s m args below meth c Q D cy A ad0 h0 M pc ls st h := by
  obtain ⟨hx, hb, hml, hown, hts, hnw, hao, hlocks, hret, hini, hfr, hlo⟩ := C
  replace hk := pI_ex hk
  obtain ⟨i, st, rfl, hk⟩ := hk
  replace hk := pR_ex hk
  obtain ⟨r, st, rfl, hk⟩ := hk
  replace hk := if_ex hk
  obtain ⟨⟨hkd, hin⟩, hk⟩ := hk
  replace hk := vLo_ex hk
  obtain ⟨x, hv, hk⟩ := hk
  refine ⟨hk.1, fun ad lsA H locs hAG hSA hL hLW hSW hW => ?_⟩
  have hW0 := hW
  obtain ⟨vK, vP, vD, vS, vA, vZ, vT, hHW⟩ := hW
  have hir : r32 i := SW_h hSW
  have hvw := hHW.2.2.1 r i.toNat
  rw [hv] at hvw
  have hz := hk.2 ad lsA H locs hAG hSA hL hLW (SW_c (v := .inr (.inl x)) hvw (SW_t (SW_t hSW))) hW0
  cases ins <;> first | (cases hok; done) | skip
  obtain rfl := of_decide_eq_true hok
  have hr := hHW.lt (k := r) (by rw [hkd]; omega)
  have he := wsO_get (ad := ad) (cy := cy) hr
  rw [cEl_long hkd] at he
  refine va_lald hx hb vK vP r 1 he rfl (vin32 hir hin) hd ?_
  rw [cN32 hir, hv]
  exact hz
theorem sd_28 (C : FC M d p s m args meth c R) (hd : decode (mB M) pc = .ok (ins, len)) (hok : okO M pc 28 a b k sw ins len = true) (hk : stepK False (GO p l e R s m args below meth c Q D cy A ad0 h0 M) (RE p l e R s m args below meth c Q D cy A ad0 h0 M) (CA d) dfO nF (28, pc + len, a, b, k, sw) ls st h) : GO p l e R s m args below meth c Q D cy A ad0 h0 M pc ls st h := by
  obtain ⟨hx, hb, hml, hown, hts, hnw, hao, hlocks, hret, hini, hfr, hlo⟩ := C
  replace hk := pI_ex hk
  obtain ⟨i, st, rfl, hk⟩ := hk
  replace hk := pR_ex hk
  obtain ⟨r, st, rfl, hk⟩ := hk
  replace hk := if_ex hk
  obtain ⟨⟨hkd, hin⟩, hk⟩ := hk
  replace hk := vIo_ex hk
  obtain ⟨x, hv, hk⟩ := hk
  refine ⟨hk.1, fun ad lsA H locs hAG hSA hL hLW hSW hW => ?_⟩
  have hW0 := hW
  obtain ⟨vK, vP, vD, vS, vA, vZ, vT, hHW⟩ := hW
  have hir : r32 i := SW_h hSW
  have hvw := hHW.2.2.1 r i.toNat
  rw [hv] at hvw
  have hz := hk.2 ad lsA H locs hAG hSA hL hLW (SW_c (v := .inl x) hvw (SW_t (SW_t hSW))) hW0
  cases ins <;> first | (cases hok; done) | skip
  obtain rfl := of_decide_eq_true hok
  have hr := hHW.lt (k := r) (by rw [hkd]; omega)
  have he := wsO_get (ad := ad) (cy := cy) hr
  rw [cEl_bool hkd] at he
  refine va_zald hx hb vK vP r 2 he rfl (vin32 hir hin) hd ?_
  rw [cN32 hir, hv]
  exact hz
theorem sd_29 (C : FC M d p s m args meth c R) (hd : decode (mB M) pc = .ok (ins, len)) (hok : okO M pc 29 a b k sw ins len = true) (hk : stepK False (GO p l e R s m args below meth c Q D cy A ad0 h0 M) (RE p l e R s m args below meth c Q D cy A ad0 h0 M) (CA d) dfO nF (29, pc + len, a, b, k, sw) ls st h) : GO p l e R s m args below meth c Q D cy A ad0 h0 M pc ls st h := by
  obtain ⟨hx, hb, hml, hown, hts, hnw, hao, hlocks, hret, hini, hfr, hlo⟩ := C
  replace hk := pI_ex hk
  obtain ⟨i, st, rfl, hk⟩ := hk
  replace hk := pR_ex hk
  obtain ⟨r, st, rfl, hk⟩ := hk
  replace hk := if_ex hk
  obtain ⟨⟨hkd, hin⟩, hk⟩ := hk
  replace hk := vOo_ex hk
  obtain ⟨x, hv, hk⟩ := hk
  refine ⟨hk.1, fun ad lsA H locs hAG hSA hL hLW hSW hW => ?_⟩
  have hW0 := hW
  obtain ⟨vK, vP, vD, vS, vA, vZ, vT, hHW⟩ := hW
  have hir : r32 i := SW_h hSW
  have hvw := hHW.2.2.1 r i.toNat
  rw [hv] at hvw
  have hz := hk.2 ad lsA H locs hAG hSA hL hLW (SW_c (v := .inr (.inr x)) hvw (SW_t (SW_t hSW))) hW0
  cases ins <;> first | (cases hok; done) | skip
  obtain rfl := of_decide_eq_true hok
  have hr := hHW.lt (k := r) (by rw [hkd]; omega)
  have he := wsO_get (ad := ad) (cy := cy) hr
  rw [cEl_ref hkd] at he
  refine va_aldq hx hb vK vP r 3 he rfl (vin32 hir hin) hd ?_
  rw [cN32 hir, hv]
  cases x <;> exact hz
theorem sd_30 (C : FC M d p s m args meth c R) (hd : decode (mB M) pc = .ok (ins, len)) (hok : okO M pc 30 a b k sw ins len = true) (hk : stepK False (GO p l e R s m args below meth c Q D cy A ad0 h0 M) (RE p l e R s m args below meth c Q D cy A ad0 h0 M) (CA d) dfO nF (30, pc + len, a, b, k, sw) ls st h) : GO p l e R s m args below meth c Q D cy A ad0 h0 M pc ls st h := by
  obtain ⟨hx, hb, hml, hown, hts, hnw, hao, hlocks, hret, hini, hfr, hlo⟩ := C
  replace hk := pI_ex hk
  obtain ⟨x, st, rfl, hk⟩ := hk
  replace hk := pI_ex hk
  obtain ⟨i, st, rfl, hk⟩ := hk
  replace hk := pR_ex hk
  obtain ⟨r, st, rfl, hk⟩ := hk
  replace hk := if_ex hk
  obtain ⟨⟨hkd, hin⟩, hk⟩ := hk
  refine ⟨hk.1, fun ad lsA H locs hAG hSA hL hLW hSW hW => ?_⟩
  have hW0 := hW
  obtain ⟨vK, vP, vD, vS, vA, vZ, vT, hHW⟩ := hW
  have hir : r32 i := SW_h (SW_t hSW)
  have hr15 : (hK h r).1 < 15 := by rw [hkd]; omega
  have hr := hHW.lt hr15
  have hce : cEl ad cy (hSet h r i.toNat (.inl x)) r = .inl (cy 0, (hK h r).2, .inl (upd (fun j => ioV (hV h r j)) (Int32.ofInt i).toNatClampNeg (Int32.ofInt x))) := by
    rw [cEl_int (h := hSet h r i.toNat (.inl x)) hkd]
    have e0 : hK (hSet h r i.toNat (.inl x)) r = hK h r := rfl
    rw [e0, cN32 hir]
    congr 4
    funext j
    rw [hV_set]
    unfold upd
    split
    · rfl
    · rfl
  have hz := fun (H1 : Heap) (locs1 : List Loc) hP1 hD1 hS1 => hk.2 ad lsA H1 locs1 hAG (SA_set (r := r) (i := i.toNat) (v := .inl x) hSA hHW hr) hL hLW (SW_t (SW_t (SW_t hSW))) (WO_set hW0 hr15 (SW_h hSW) hce hP1 hD1 hS1)
  cases ins <;> first | (cases hok; done) | skip
  obtain rfl := of_decide_eq_true hok
  have he := wsO_get (ad := ad) (cy := cy) hr
  rw [cEl_int hkd] at he
  exact va_iast hx hb vK vP vD vS r 0 he rfl (vin32 hir hin) hd hz
theorem sd_31 (C : FC M d p s m args meth c R) (hd : decode (mB M) pc = .ok (ins, len)) (hok : okO M pc 31 a b k sw ins len = true) (hk : stepK False (GO p l e R s m args below meth c Q D cy A ad0 h0 M) (RE p l e R s m args below meth c Q D cy A ad0 h0 M) (CA d) dfO nF (31, pc + len, a, b, k, sw) ls st h) : GO p l e R s m args below meth c Q D cy A ad0 h0 M pc ls st h := by
  obtain ⟨hx, hb, hml, hown, hts, hnw, hao, hlocks, hret, hini, hfr, hlo⟩ := C
  replace hk := pL_ex hk
  obtain ⟨x, st, rfl, hk⟩ := hk
  replace hk := pI_ex hk
  obtain ⟨i, st, rfl, hk⟩ := hk
  replace hk := pR_ex hk
  obtain ⟨r, st, rfl, hk⟩ := hk
  replace hk := if_ex hk
  obtain ⟨⟨hkd, hin⟩, hk⟩ := hk
  refine ⟨hk.1, fun ad lsA H locs hAG hSA hL hLW hSW hW => ?_⟩
  have hW0 := hW
  obtain ⟨vK, vP, vD, vS, vA, vZ, vT, hHW⟩ := hW
  have hir : r32 i := SW_h (SW_t hSW)
  have hr15 : (hK h r).1 < 15 := by rw [hkd]; omega
  have hr := hHW.lt hr15
  have hce : cEl ad cy (hSet h r i.toNat (.inr (.inl x))) r = .inl (cy 1, (hK h r).2, .inr (.inl (vp_updL (fun j => loV (hV h r j)) (Int32.ofInt i).toNatClampNeg (Int64.ofInt x)))) := by
    rw [cEl_long (h := hSet h r i.toNat (.inr (.inl x))) hkd]
    have e0 : hK (hSet h r i.toNat (.inr (.inl x))) r = hK h r := rfl
    rw [e0, cN32 hir]
    congr 5
    funext j
    rw [hV_set]
    unfold vp_updL
    split
    · rfl
    · rfl
  have hz := fun (H1 : Heap) (locs1 : List Loc) hP1 hD1 hS1 => hk.2 ad lsA H1 locs1 hAG (SA_set (r := r) (i := i.toNat) (v := .inr (.inl x)) hSA hHW hr) hL hLW (SW_t (SW_t (SW_t hSW))) (WO_set hW0 hr15 (SW_h hSW) hce hP1 hD1 hS1)
  cases ins <;> first | (cases hok; done) | skip
  obtain rfl := of_decide_eq_true hok
  have he := wsO_get (ad := ad) (cy := cy) hr
  rw [cEl_long hkd] at he
  exact va_last hx hb vK vP vD vS r 1 he rfl (vin32 hir hin) hd hz
theorem sd_32 (C : FC M d p s m args meth c R) (hd : decode (mB M) pc = .ok (ins, len)) (hok : okO M pc 32 a b k sw ins len = true) (hk : stepK False (GO p l e R s m args below meth c Q D cy A ad0 h0 M) (RE p l e R s m args below meth c Q D cy A ad0 h0 M) (CA d) dfO nF (32, pc + len, a, b, k, sw) ls st h) : GO p l e R s m args below meth c Q D cy A ad0 h0 M pc ls st h := by
  obtain ⟨hx, hb, hml, hown, hts, hnw, hao, hlocks, hret, hini, hfr, hlo⟩ := C
  replace hk := pI_ex hk
  obtain ⟨x, st, rfl, hk⟩ := hk
  replace hk := pI_ex hk
  obtain ⟨i, st, rfl, hk⟩ := hk
  replace hk := pR_ex hk
  obtain ⟨r, st, rfl, hk⟩ := hk
  replace hk := if_ex hk
  obtain ⟨⟨hkd, hin, h01⟩, hk⟩ := hk
  refine ⟨hk.1, fun ad lsA H locs hAG hSA hL hLW hSW hW => ?_⟩
  have hW0 := hW
  obtain ⟨vK, vP, vD, vS, vA, vZ, vT, hHW⟩ := hW
  have hir : r32 i := SW_h (SW_t hSW)
  have hr15 : (hK h r).1 < 15 := by rw [hkd]; omega
  have hr := hHW.lt hr15
  have hce : cEl ad cy (hSet h r i.toNat (.inl x)) r = .inl (cy 2, (hK h r).2, .inl (upd (fun j => ioV (hV h r j)) (Int32.ofInt i).toNatClampNeg (vp_nar .boolean (Int32.ofInt x)))) := by
    rw [cEl_bool (h := hSet h r i.toNat (.inl x)) hkd]
    have e0 : hK (hSet h r i.toNat (.inl x)) r = hK h r := rfl
    rw [e0, cN32 hir]
    congr 4
    funext j
    rw [hV_set]
    unfold upd
    split
    · rcases of_decide_eq_true h01 with rfl | rfl <;> decide
    · rfl
  have hz := fun (H1 : Heap) (locs1 : List Loc) hP1 hD1 hS1 => hk.2 ad lsA H1 locs1 hAG (SA_set (r := r) (i := i.toNat) (v := .inl x) hSA hHW hr) hL hLW (SW_t (SW_t (SW_t hSW))) (WO_set hW0 hr15 (SW_h hSW) hce hP1 hD1 hS1)
  cases ins <;> first | (cases hok; done) | skip
  obtain rfl := of_decide_eq_true hok
  have he := wsO_get (ad := ad) (cy := cy) hr
  rw [cEl_bool hkd] at he
  exact va_zast hx hb vK vP vD vS r 2 he rfl (vin32 hir hin) hd hz
theorem sd_33 (C : FC M d p s m args meth c R) (hd : decode (mB M) pc = .ok (ins, len)) (hok : okO M pc 33 a b k sw ins len = true) (hk : stepK False (GO p l e R s m args below meth c Q D cy A ad0 h0 M) (RE p l e R s m args below meth c Q D cy A ad0 h0 M) (CA d) dfO nF (33, pc + len, a, b, k, sw) ls st h) : GO p l e R s m args below meth c Q D cy A ad0 h0 M pc ls st h := by
  obtain ⟨hx, hb, hml, hown, hts, hnw, hao, hlocks, hret, hini, hfr, hlo⟩ := C
  replace hk := pR_ex hk
  obtain ⟨x, st, rfl, hk⟩ := hk
  replace hk := pI_ex hk
  obtain ⟨i, st, rfl, hk⟩ := hk
  replace hk := pR_ex hk
  obtain ⟨r, st, rfl, hk⟩ := hk
  replace hk := if_ex hk
  obtain ⟨⟨hkd, hin, hx6⟩, hk⟩ := hk
  refine ⟨hk.1, fun ad lsA H locs hAG hSA hL hLW hSW hW => ?_⟩
  have hW0 := hW
  obtain ⟨vK, vP, vD, vS, vA, vZ, vT, hHW⟩ := hW
  have hir : r32 i := SW_h (SW_t hSW)
  have hr15 : (hK h r).1 < 15 := by rw [hkd]; omega
  have hr := hHW.lt hr15
  have hxl := hHW.lt (k := x) (by rw [hx6]; omega)
  have hce : cEl ad cy (hSet h r i.toNat (.inr (.inr (some x)))) r = .inl (cy 3, (hK h r).2, .inr (.inr (.inr (.inr (va_up (fun j => roV ad (hV h r j)) (Int32.ofInt i).toNatClampNeg (some (ad x))))))) := by
    rw [cEl_ref (h := hSet h r i.toNat (.inr (.inr (some x)))) hkd]
    have e0 : hK (hSet h r i.toNat (.inr (.inr (some x)))) r = hK h r := rfl
    rw [e0, cN32 hir]
    congr 8
    funext j
    rw [hV_set]
    unfold va_up
    split <;> rfl
  have hz := fun (H1 : Heap) (locs1 : List Loc) hP1 hD1 hS1 => hk.2 ad lsA H1 locs1 hAG (SA_set (r := r) (i := i.toNat) (v := .inr (.inr (some x))) hSA hHW hr) hL hLW (SW_t (SW_t (SW_t hSW))) (WO_set hW0 hr15 (SW_h hSW) hce hP1 hD1 hS1)
  cases ins <;> first | (cases hok; done) | skip
  obtain rfl := of_decide_eq_true hok
  have he := wsO_get (ad := ad) (cy := cy) hr
  rw [cEl_ref hkd] at he
  have hex := wsO_get (ad := ad) (cy := cy) hxl
  rw [cEl_obj hx6 (by decide)] at hex
  exact va_astq hx hb vK vP vD vS r 3 x 6 he rfl hex (cl_at (by decide)) (vin32 hir hin) hd hz
theorem sd_34 (C : FC M d p s m args meth c R) (hd : decode (mB M) pc = .ok (ins, len)) (hok : okO M pc 34 a b k sw ins len = true) (hk : stepK False (GO p l e R s m args below meth c Q D cy A ad0 h0 M) (RE p l e R s m args below meth c Q D cy A ad0 h0 M) (CA d) dfO nF (34, pc + len, a, b, k, sw) ls st h) : GO p l e R s m args below meth c Q D cy A ad0 h0 M pc ls st h := by
  obtain ⟨hx, hb, hml, hown, hts, hnw, hao, hlocks, hret, hini, hfr, hlo⟩ := C
  replace hk := pR_ex hk
  obtain ⟨r, st, rfl, hk⟩ := hk
  replace hk := if_ex hk
  obtain ⟨hkd, hk⟩ := hk
  refine ⟨hk.1, fun ad lsA H locs hAG hSA hL hLW hSW hW => ?_⟩
  have hW0 := hW
  obtain ⟨vK, vP, vD, vS, vA, vZ, vT, hHW⟩ := hW
  have hz := hk.2 ad lsA H locs hAG hSA hL hLW (SW_c (v := .inl ((hK h r).2 : Nat)) (by have := hHW.2.2.2.2 r; show r32 _; unfold r32; omega) (SW_t hSW)) hW0
  have en : Int32.ofNat (hK h r).2 = Int32.ofInt ((hK h r).2 : Nat) := rfl
  cases ins <;> first | (cases hok; done) | skip
  obtain rfl := of_decide_eq_true hok
  rcases hkd with hkd | hkd
  · have hr := hHW.lt (k := r) (by rw [hkd]; omega)
    have he := wsO_get (ad := ad) (cy := cy) hr
    rw [cEl_int hkd] at he
    exact va_alen hx hb vK vP r 0 he rfl en hd hz
  · exact va_tlen hx hb (vT r hkd) vS en hd hz
end SD4
