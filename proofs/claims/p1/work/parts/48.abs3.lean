def stepA (go : Nat → List (Option AW) → List AW → BH → Bool) (ret : Option AW → BH → Bool) (call : Nat → List AW → BH → (Option AW → BH → Bool) → Bool) (ce : CE) (ls : List (Option AW)) (st : List AW) (b : BH) : Bool :=
  match ce with
  | (op, nx, a, bb, k, sw) => match op with
    | 0 => go nx ls (xI k :: st) b
    | 1 => go nx ls (xL k :: st) b
    | 2 => alI ls a fun w => go nx ls (w :: st) b
    | 3 => alL ls a fun x => go nx ls (xL x :: st) b
    | 4 => alR ls a fun x => go nx ls (xR x :: st) b
    | 5 => aI st fun w st => okA ls a && go nx (ls.set a (some w)) st b
    | 6 => aL st fun x st => (okA ls a && decide (a + 1 < ls.length)) && go nx ((ls.set a (some (xL x))).set (a + 1) none) st b
    | 7 => aR st fun x st => okA ls a && go nx (ls.set a (some (xR x))) st b
    | 8 => alX ls a fun x => okA ls a && go nx (ls.set a (some (xI (w32 (x + k))))) st b
    | 9 => aI st fun wy st => aI st fun wx st => oA (bA bb wx wy) fun w => go nx ls (w :: st) b
    | 10 => aX st fun x st => go nx ls (xI (w32 (-x)) :: st) b
    | 11 => aL st fun y st => aL st fun x st => oB (binL bb x y) fun z => go nx ls (xL z :: st) b
    | 13 => aX st fun y st => aL st fun x st => oB (shfL bb x y) fun z => go nx ls (xL z :: st) b
    | 14 => aX st fun x st => go nx ls (xL x :: st) b
    | 15 => aL st fun x st => go nx ls (xI (w32 x) :: st) b
    | 16 => aL st fun y st => aL st fun x st => go nx ls (xI (lcmp3 x y) :: st) b
    | 17 => aV st fun w st => decide (catW w = 1) && go nx ls (w :: w :: st) b
    | 18 => aV st fun v st => if catW v = 2 then go nx ls (v :: v :: st) b else aV st fun w st => decide (catW w = 1) && go nx ls (v :: w :: v :: w :: st) b
    | 19 => aV st fun w st => decide (catW w = 1) && go nx ls st b
    | 20 => aI st fun w st => cT (cA bb w (xI 0)) (go a ls st b) (go nx ls st b)
    | 21 => aI st fun wy st => aI st fun wx st => cT (cA bb wx wy) (go a ls st b) (go nx ls st b)
    | 22 => go a ls st b
    | 23 => aR st fun r st => aC b r fun c => decide (c.1 = a) && oA c.2.2.1[bb]? fun w => go nx ls (w :: st) b
    | 24 => aV st fun w st => aR st fun r st => aC b r fun c => (decide (c.1 = a ∧ r < 1000000 ∧ bb < c.2.2.1.length) && okFA k w) && go nx ls st (sC b r (c.1, c.2.1, c.2.2.1.set bb w, c.2.2.2))
    | 25 => go nx ls (xR (1000000 + a) :: st) b
    | 26 => aI st fun wi st => aR st fun r st => aC b r fun c => decide (c.1 = 11 ∨ c.1 = 20) && oA (aLd c wi) fun w => isI w && go nx ls (w :: st) b
    | 29 => aI st fun wi st => aR st fun r st => aC b r fun c => decide (c.1 = 14) && oA (aLd c wi) fun w => isR w && go nx ls (w :: st) b
    | 30 => aI st fun w st => aI st fun wi st => aR st fun r st => aC b r fun c => decide (c.1 = 11 ∧ r < 1000000) && aSt b r c wi w fun b => go nx ls st b
    | 31 => aL st fun x st => aI st fun wi st => aR st fun r st => aC b r fun c => decide (c.1 = 12 ∧ r < 1000000) && aSt b r c wi (xL x) fun b => go nx ls st b
    | 34 => aR st fun r st => aC b r fun c => decide (c.1 = 11 ∨ c.1 = 20) && go nx ls (xI c.2.1 :: st) b
    | 38 => decide (bb ≤ st.length ∧ stWA (st.drop bb) ≤ 8) && call a (st.take bb).reverse b (fun r b => go nx ls (r.toList ++ st.drop bb) b)
    | 39 => (match st with
      | [] => ret none b
      | _ => false)
    | 40 => (match st with
      | [w] => (isI w && (decide (a = 0) || is01A w)) && ret (some w) b
      | _ => false)
    | 41 => (match st with
      | [.inl (.inr (.inl x))] => ret (some (xL x)) b
      | _ => false)
    | 42 => (match st with
      | [.inl (.inr (.inr (some x)))] => ret (some (xR x)) b
      | _ => false)
    | 43 => aI st fun w st => oP (swA w a sw) fun pc => go pc ls st b
    | 45 => aX st fun n st => aX st fun dp st => aR st fun q st => aX st fun sp st => aR st fun r st => aC b r fun c1 => aC b q fun c2 => decide ((c1.1 = 11 ∨ c1.1 = 12) ∧ c2.1 = c1.1 ∧ n = (c1.2.1 : Int) ∧ dp = 0 ∧ sp = 0 ∧ c2.2.1 = c1.2.1 ∧ c1.2.2.1.length ≤ c1.2.1 ∧ q < 1000000 ∧ stWA st ≤ 8) && go nx ls st (sC b q c1)
    | 46 => decide (bb ≤ st.length ∧ stWA (st.drop bb) ≤ 8) && aR (st.take bb).reverse fun q _ => aC b q fun c => decide (c.1 = k.toNat) && call a (st.take bb).reverse b (fun r b => go nx ls (r.toList ++ st.drop bb) b)
    | 47 => decide (bb ≤ st.length ∧ stWA (st.drop bb) ≤ 8) && aR (st.take bb).reverse fun _ _ => call a (st.take bb).reverse b (fun r b => go nx ls (r.toList ++ st.drop bb) b)
    | 48 => aR st fun _ st => decide (stWA st ≤ 8) && go nx ls st b
    | 49 => aI st fun wy st => aI st fun wx st => decide (stWA st ≤ 8) && go nx ls (mxA wx wy :: st) b
    | 50 => aI st fun wy st => aI st fun wx st => decide (stWA st ≤ 8) && go nx ls (mnA wx wy :: st) b
    | 51 => aX st fun x st => decide (stWA st ≤ 8) && go nx ls (xI (w32 (if 0 ≤ x then x else -x)) :: st) b
    | _ => false
set_option maxHeartbeats 4000000 in
theorem stepA_s {go : Nat → List (Option AW) → List AW → BH → Bool} {ret : Option AW → BH → Bool} {call : Nat → List AW → BH → (Option AW → BH → Bool) → Bool} {go' : Nat → List (Option AV) → List AV → AH → Prop} {ret' : Option AV → AH → Prop} {call' : Nat → List AV → AH → (Option AV → AH → Prop) → Prop} {dO : Nat → Nat → AV} {nf : Nat → Nat}
    {op nx a bb : Nat} {k : Int} {sw : List (Int × Nat)} {als : List (Option AW)} {ast : List AW} {b : BH} {ls : List (Option AV)} {st : List AV} {h : AH}
    (hh : stepA go ret call (op, nx, a, bb, k, sw) als ast b = true) (hl : ab_L als ls) (hs : ab_S ast st) (hb : ab_H b h)
    (hg : ∀ pc als ast b ls st h, go pc als ast b = true → ab_L als ls → ab_S ast st → ab_H b h → go' pc ls st h)
    (hr : ∀ r b v h, ret r b = true → ab_O r v → ab_H b h → ret' v h)
    (hc : ∀ M as b k vs h k', call M as b k = true → ab_S as vs → ab_H b h → (∀ r b v h, k r b = true → ab_O r v → ab_H b h → k' v h) → call' M vs h k') :
    stepK False go' ret' call' dO nf (op, nx, a, bb, k, sw) ls st h := by
  have hcall : ∀ {M : Nat}, call M (ast.take bb).reverse b (fun r b => go nx als (r.toList ++ ast.drop bb) b) = true → call' M (st.take bb).reverse h (fun r h => go' nx ls (r.toList ++ st.drop bb) h) := fun {M} e =>
    hc _ _ _ _ _ _ _ e (ab_S_rev (ab_S_take bb hs)) hb (fun r b v h e ho hb => hg _ _ _ _ _ _ _ e hl (ab_S_opt ho (ab_S_drop bb hs)) hb)
  have hwt : ∀ {n : Nat}, (bb ≤ ast.length ∧ stWA (ast.drop bb) ≤ n) → (bb ≤ st.length ∧ stW (st.drop bb) ≤ n) := fun {n} e => by
    rw [stWA_s (ab_S_drop bb hs), ← ab_S_len hs]; exact e
  unfold stepA at hh
  dsimp only at hh
  split at hh
  · exact hg _ _ _ _ _ _ _ hh hl ⟨_, _, rfl, rfl, hs⟩ hb
  · exact hg _ _ _ _ _ _ _ hh hl ⟨_, _, rfl, rfl, hs⟩ hb
  · exact alI_s hh hl fun w x hw e => hg _ _ _ _ _ _ _ e hl ⟨_, _, rfl, hw, hs⟩ hb
  · exact alL_s hh hl fun x e => hg _ _ _ _ _ _ _ e hl ⟨_, _, rfl, rfl, hs⟩ hb
  · exact alR_s hh hl fun x e => hg _ _ _ _ _ _ _ e hl ⟨_, _, rfl, rfl, hs⟩ hb
  · refine aI_s hh hs fun w x ast st hw hs e => ?_
    rw [Bool.and_eq_true] at e
    show if okSt ls a = true then _ else False
    rw [if_pos (okA_s e.1 hl)]
    exact hg _ _ _ _ _ _ _ e.2 (ab_L_set hl ⟨_, rfl, hw⟩) hs hb
  · refine aL_s hh hs fun x ast st hs e => ?_
    rw [Bool.and_eq_true, Bool.and_eq_true, decide_eq_true_eq] at e
    show if okSt ls a = true ∧ a + 1 < ls.length then _ else False
    rw [if_pos ⟨okA_s e.1.1 hl, by rw [← ab_L_len hl]; exact e.1.2⟩]
    exact hg _ _ _ _ _ _ _ e.2 (ab_L_set (ab_L_set hl ⟨_, rfl, rfl⟩) rfl) hs hb
  · refine aR_s hh hs fun x ast st hs e => ?_
    rw [Bool.and_eq_true] at e
    show if okSt ls a = true then _ else False
    rw [if_pos (okA_s e.1 hl)]
    exact hg _ _ _ _ _ _ _ e.2 (ab_L_set hl ⟨_, rfl, rfl⟩) hs hb
  · refine alX_s hh hl fun x e => ?_
    rw [Bool.and_eq_true] at e
    show if okSt ls a = true then _ else False
    rw [if_pos (okA_s e.1 hl)]
    exact hg _ _ _ _ _ _ _ e.2 (ab_L_set hl ⟨_, rfl, rfl⟩) hs hb
  · refine aI_s hh hs fun wy y ast st hy hs e => aI_s e hs fun wx x ast st hx hs e => ?_
    obtain ⟨w, e1, e2⟩ := oA_s e
    obtain ⟨z, e3, hz⟩ := bA_s e1 hx hy
    show oI False (binI bb x y) _
    rw [e3]
    exact hg _ _ _ _ _ _ _ e2 hl ⟨_, _, rfl, hz, hs⟩ hb
  · exact aX_s hh hs fun x ast st hs e => hg _ _ _ _ _ _ _ e hl ⟨_, _, rfl, rfl, hs⟩ hb
  · exact aL_s hh hs fun y ast st hs e => aL_s e hs fun x ast st hs e => oB_s e fun z e => hg _ _ _ _ _ _ _ e hl ⟨_, _, rfl, rfl, hs⟩ hb
  · exact aX_s hh hs fun y ast st hs e => aL_s e hs fun x ast st hs e => oB_s e fun z e => hg _ _ _ _ _ _ _ e hl ⟨_, _, rfl, rfl, hs⟩ hb
  · exact aX_s hh hs fun x ast st hs e => hg _ _ _ _ _ _ _ e hl ⟨_, _, rfl, rfl, hs⟩ hb
  · exact aL_s hh hs fun x ast st hs e => hg _ _ _ _ _ _ _ e hl ⟨_, _, rfl, rfl, hs⟩ hb
  · exact aL_s hh hs fun y ast st hs e => aL_s e hs fun x ast st hs e => hg _ _ _ _ _ _ _ e hl ⟨_, _, rfl, rfl, hs⟩ hb
  · refine aV_s hh hs fun w v ast st hw hs e => ?_
    rw [Bool.and_eq_true, decide_eq_true_eq] at e
    show if catA v = 1 then _ else False
    rw [if_pos (by rw [catW_s hw]; exact e.1)]
    exact hg _ _ _ _ _ _ _ e.2 hl ⟨_, _, rfl, hw, _, _, rfl, hw, hs⟩ hb
  · refine aV_s hh hs fun v v' ast st hv hs e => ?_
    show if catA v' = 2 then _ else _
    rw [catW_s hv]
    split at e
    · rename_i h2
      rw [if_pos h2]
      exact hg _ _ _ _ _ _ _ e hl ⟨_, _, rfl, hv, _, _, rfl, hv, hs⟩ hb
    · rename_i h2
      rw [if_neg h2]
      refine aV_s e hs fun w w' ast st hw hs e => ?_
      rw [Bool.and_eq_true, decide_eq_true_eq] at e
      show if catA w' = 1 then _ else False
      rw [if_pos (by rw [catW_s hw]; exact e.1)]
      exact hg _ _ _ _ _ _ _ e.2 hl ⟨_, _, rfl, hv, _, _, rfl, hw, _, _, rfl, hv, _, _, rfl, hw, hs⟩ hb
  · refine aV_s hh hs fun w v ast st hw hs e => ?_
    rw [Bool.and_eq_true, decide_eq_true_eq] at e
    show if catA v = 1 then _ else False
    rw [if_pos (by rw [catW_s hw]; exact e.1)]
    exact hg _ _ _ _ _ _ _ e.2 hl hs hb
  · refine aI_s hh hs fun w x ast st hw hs e => ?_
    exact cT_s e (fun u eu => cA_s eu hw (ab_xI 0)) (fun e => hg _ _ _ _ _ _ _ e hl hs hb) (fun e => hg _ _ _ _ _ _ _ e hl hs hb)
  · refine aI_s hh hs fun wy y ast st hy hs e => aI_s e hs fun wx x ast st hx hs e => ?_
    exact cT_s e (fun u eu => cA_s eu hx hy) (fun e => hg _ _ _ _ _ _ _ e hl hs hb) (fun e => hg _ _ _ _ _ _ _ e hl hs hb)
  · exact hg _ _ _ _ _ _ _ hh hl hs hb
  · refine aR_s hh hs fun r ast st hs e => ?_
    obtain ⟨c, hc1, e⟩ := aC_s e
    rw [Bool.and_eq_true, decide_eq_true_eq] at e
    obtain ⟨w, e1, e2⟩ := oA_s e.2
    have hC := hb.2.2 r c hc1
    show if (hK h r).1 = a then _ else False
    rw [if_pos (by rw [hC.1]; exact e.1)]
    exact hg _ _ _ _ _ _ _ e2 hl ⟨_, _, rfl, hC.2.1 _ _ e1, hs⟩ hb
  · refine aV_s hh hs fun w v ast st hw hs e => aR_s e hs fun r ast st hs e => ?_
    obtain ⟨c, hc1, e⟩ := aC_s e
    rw [Bool.and_eq_true, Bool.and_eq_true, decide_eq_true_eq] at e
    have hC := hb.2.2 r c hc1
    show if (hK h r).1 = a ∧ okF k v = true then _ else False
    rw [if_pos ⟨by rw [hC.1]; exact e.1.1.1, okFA_s e.1.2 hw⟩]
    exact hg _ _ _ _ _ _ _ e.2 hl hs (ab_H_set hb e.1.1.2.1 hc1 hw e.1.1.2.2)
  · exact hg _ _ _ _ _ _ _ hh hl ⟨_, _, rfl, rfl, hs⟩ hb
  · refine aI_s hh hs fun wi i ast st hi hs e => aR_s e hs fun r ast st hs e => ?_
    obtain ⟨c, hc1, e⟩ := aC_s e
    rw [Bool.and_eq_true, decide_eq_true_eq] at e
    obtain ⟨w, e1, e2⟩ := oA_s e.2
    rw [Bool.and_eq_true] at e2
    have hC := hb.2.2 r c hc1
    obtain ⟨q1, q2⟩ := aLd_s e1 hC hi
    obtain ⟨x, ex⟩ := isI_s e2.1 q2
    show if ((hK h r).1 = 11 ∨ (hK h r).1 = 20) ∧ inR i (hK h r).2 = true then vIo False (hV h r i.toNat) _ else False
    rw [hC.1, if_pos ⟨e.1, q1⟩, ex]
    rw [ex] at q2
    exact hg _ _ _ _ _ _ _ e2.2 hl ⟨_, _, rfl, q2, hs⟩ hb
  · refine aI_s hh hs fun wi i ast st hi hs e => aR_s e hs fun r ast st hs e => ?_
    obtain ⟨c, hc1, e⟩ := aC_s e
    rw [Bool.and_eq_true, decide_eq_true_eq] at e
    obtain ⟨w, e1, e2⟩ := oA_s e.2
    rw [Bool.and_eq_true] at e2
    have hC := hb.2.2 r c hc1
    obtain ⟨q1, q2⟩ := aLd_s e1 hC hi
    obtain ⟨x, ex⟩ := isR_s e2.1 q2
    show if (hK h r).1 = 14 ∧ inR i (hK h r).2 = true then vOo False (hV h r i.toNat) _ else False
    rw [hC.1, if_pos ⟨e.1, q1⟩, ex]
    rw [ex] at q2
    exact hg _ _ _ _ _ _ _ e2.2 hl ⟨_, _, rfl, q2, hs⟩ hb
  · refine aI_s hh hs fun w x ast st hw hs e => aI_s e hs fun wi i ast st hi hs e => aR_s e hs fun r ast st hs e => ?_
    obtain ⟨c, hc1, e⟩ := aC_s e
    rw [Bool.and_eq_true, decide_eq_true_eq] at e
    have hC := hb.2.2 r c hc1
    obtain ⟨q1, b', q2, q3⟩ := aSt_s e.2 hb hc1 e.1.2 hi hw
    show if (hK h r).1 = 11 ∧ inR i (hK h r).2 = true then _ else False
    rw [hC.1, if_pos ⟨e.1.1, q1⟩]
    exact hg _ _ _ _ _ _ _ q2 hl hs q3
  · refine aL_s hh hs fun x ast st hs e => aI_s e hs fun wi i ast st hi hs e => aR_s e hs fun r ast st hs e => ?_
    obtain ⟨c, hc1, e⟩ := aC_s e
    rw [Bool.and_eq_true, decide_eq_true_eq] at e
    have hC := hb.2.2 r c hc1
    obtain ⟨q1, b', q2, q3⟩ := aSt_s e.2 hb hc1 e.1.2 hi (ab_xL x)
    show if (hK h r).1 = 12 ∧ inR i (hK h r).2 = true then _ else False
    rw [hC.1, if_pos ⟨e.1.1, q1⟩]
    exact hg _ _ _ _ _ _ _ q2 hl hs q3
  · refine aR_s hh hs fun r ast st hs e => ?_
    obtain ⟨c, hc1, e⟩ := aC_s e
    rw [Bool.and_eq_true, decide_eq_true_eq] at e
    have hC := hb.2.2 r c hc1
    show if (hK h r).1 = 11 ∨ (hK h r).1 = 20 then _ else False
    rw [hC.1, if_pos e.1]
    exact hg _ _ _ _ _ _ _ e.2 hl ⟨_, _, rfl, rfl, hs⟩ hb
  · rw [Bool.and_eq_true, decide_eq_true_eq] at hh
    show if bb ≤ st.length ∧ stW (st.drop bb) ≤ 8 then _ else False
    rw [if_pos (hwt hh.1)]
    exact hcall hh.2
  · split at hh
    · have hs : st = [] := hs
      subst hs
      exact hr _ _ _ _ hh rfl hb
    · cases hh
  · split at hh
    · obtain ⟨v, vs, rfl, hv, hs⟩ := hs
      have hs : vs = [] := hs
      subst hs
      rw [Bool.and_eq_true, Bool.and_eq_true, Bool.or_eq_true, decide_eq_true_eq] at hh
      obtain ⟨x, rfl⟩ := isI_s hh.1.1 hv
      show if a = 0 ∨ is01 x = true then _ else False
      rw [if_pos (hh.1.2.imp (fun z => z) (fun z => is01A_s z hv))]
      exact hr _ _ _ _ hh.2 ⟨_, rfl, hv⟩ hb
    · cases hh
  · split at hh
    · obtain ⟨v, vs, rfl, hv, hs⟩ := hs
      have hs : vs = [] := hs
      have hv : v = _ := hv
      subst hs hv
      exact hr _ _ _ _ hh ⟨_, rfl, rfl⟩ hb
    · cases hh
  · split at hh
    · obtain ⟨v, vs, rfl, hv, hs⟩ := hs
      have hs : vs = [] := hs
      have hv : v = _ := hv
      subst hs hv
      exact hr _ _ _ _ hh ⟨_, rfl, rfl⟩ hb
    · cases hh
  · refine aI_s hh hs fun w x ast st hw hs e => ?_
    obtain ⟨pc, e1, e2⟩ := oP_s e
    show go' (swF x a sw) ls st h
    rw [swA_s e1 hw]
    exact hg _ _ _ _ _ _ _ e2 hl hs hb
  · refine aX_s hh hs fun n ast st hs e => aX_s e hs fun dp ast st hs e => aR_s e hs fun q ast st hs e => aX_s e hs fun sp ast st hs e => aR_s e hs fun r ast st hs e => ?_
    obtain ⟨c1, hc1, e⟩ := aC_s e
    obtain ⟨c2, hc2, e⟩ := aC_s e
    rw [Bool.and_eq_true, decide_eq_true_eq] at e
    obtain ⟨⟨f1, f2, rfl, rfl, rfl, f3, f4, f5, f6⟩, e9⟩ := e
    have hC1 := hb.2.2 r c1 hc1
    have hC2 := hb.2.2 q c2 hc2
    show if ((hK h r).1 = 11 ∨ (hK h r).1 = 12) ∧ (hK h q).1 = (hK h r).1 ∧ (0 : Int) ≤ c1.2.1 ∧ (0 : Int) ≤ 0 ∧ (0 : Int) ≤ 0 ∧ (0 : Int) + c1.2.1 ≤ (hK h r).2 ∧ (0 : Int) + c1.2.1 ≤ (hK h q).2 ∧ stW st ≤ 8 then _ else False
    rw [hC1.1, hC2.1, if_pos ⟨f1, f2, by omega, by omega, by omega, by show (0 : Int) + c1.2.1 ≤ c1.2.1; omega, by show (0 : Int) + c1.2.1 ≤ c2.2.1; omega, by rw [stWA_s hs]; exact f6⟩]
    exact hg _ _ _ _ _ _ _ e9 hl hs (ab_H_cpy hb hc1 hc2 f5 f2 rfl f3 f4)
  · rw [Bool.and_eq_true, decide_eq_true_eq] at hh
    show if bb ≤ st.length ∧ stW (st.drop bb) ≤ 8 then _ else False
    rw [if_pos (hwt hh.1)]
    refine aR_s hh.2 (ab_S_rev (ab_S_take bb hs)) fun q _ _ _ e => ?_
    obtain ⟨c, hc1, e⟩ := aC_s e
    rw [Bool.and_eq_true, decide_eq_true_eq] at e
    have hC := hb.2.2 q c hc1
    show if (hK h q).1 = k.toNat then _ else False
    rw [hC.1, if_pos e.1]
    exact hcall e.2
  · rw [Bool.and_eq_true, decide_eq_true_eq] at hh
    show if bb ≤ st.length ∧ stW (st.drop bb) ≤ 8 then _ else False
    rw [if_pos (hwt hh.1)]
    exact aR_s hh.2 (ab_S_rev (ab_S_take bb hs)) fun q _ _ _ e => hcall e
  · refine aR_s hh hs fun r ast st hs e => ?_
    rw [Bool.and_eq_true, decide_eq_true_eq] at e
    show if stW st ≤ 8 then _ else False
    rw [if_pos (by rw [stWA_s hs]; exact e.1)]
    exact hg _ _ _ _ _ _ _ e.2 hl hs hb
  · refine aI_s hh hs fun wy y ast st hy hs e => aI_s e hs fun wx x ast st hx hs e => ?_
    rw [Bool.and_eq_true, decide_eq_true_eq] at e
    show if stW st ≤ 8 then _ else False
    rw [if_pos (by rw [stWA_s hs]; exact e.1)]
    exact hg _ _ _ _ _ _ _ e.2 hl ⟨_, _, rfl, mxA_s hx hy, hs⟩ hb
  · refine aI_s hh hs fun wy y ast st hy hs e => aI_s e hs fun wx x ast st hx hs e => ?_
    rw [Bool.and_eq_true, decide_eq_true_eq] at e
    show if stW st ≤ 8 then _ else False
    rw [if_pos (by rw [stWA_s hs]; exact e.1)]
    exact hg _ _ _ _ _ _ _ e.2 hl ⟨_, _, rfl, mnA_s hx hy, hs⟩ hb
  · refine aX_s hh hs fun x ast st hs e => ?_
    rw [Bool.and_eq_true, decide_eq_true_eq] at e
    show if stW st ≤ 8 then _ else False
    rw [if_pos (by rw [stWA_s hs]; exact e.1)]
    exact hg _ _ _ _ _ _ _ e.2 hl ⟨_, _, rfl, rfl, hs⟩ hb
  · cases hh
/-! a run of it; nt: what is known of some calls -/
abbrev NT : Type := Nat → List AW → BH → Option (Option AW × BH)
def ab_N (nt : NT) : Prop := ∀ M as b r b', nt M as b = some (r, b') → ∀ d vs h (Q : Option AV → AH → Prop), 20 ≤ d → ab_S as vs → ab_H b h → (∀ v h', ab_O r v → ab_H b' h' → Q v h') → XC d M vs h Q
def entW (v : AW) : List (Option AW) := match v with
  | .inl (.inr (.inl x)) => [some (xL x), none]
  | _ => [some v]
theorem entW_s {w : AW} {v : AV} (h : ab_V w v) : ab_L (entW w) (entA v) := by
  match w, h with
  | .inl (.inl x), h => have h : v = .inl x := h; subst h; exact ⟨_, _, rfl, ⟨_, rfl, rfl⟩, rfl⟩
  | .inl (.inr (.inl x)), h => have h : v = .inr (.inl x) := h; subst h; exact ⟨_, _, rfl, ⟨_, rfl, rfl⟩, _, _, rfl, rfl, rfl⟩
  | .inl (.inr (.inr x)), h => have h : v = .inr (.inr x) := h; subst h; exact ⟨_, _, rfl, ⟨_, rfl, rfl⟩, rfl⟩
  | .inr q, h =>
    have h' := h
    obtain ⟨x, rfl, -, -⟩ := h
    exact ⟨_, _, rfl, ⟨_, rfl, h'⟩, rfl⟩
theorem ab_L_app {al : List (Option AW)} : ∀ {cl : List (Option AV)} {bl : List (Option AW)} {dl : List (Option AV)}, ab_L al cl → ab_L bl dl → ab_L (al ++ bl) (cl ++ dl) := by
  induction al with
  | nil => intro cl bl dl h h2; have h : cl = [] := h; rw [h]; exact h2
  | cons w al ih =>
    intro cl bl dl h h2
    obtain ⟨v, vs, rfl, hv, hs⟩ := h
    exact ⟨v, vs ++ dl, rfl, hv, ih hs h2⟩
theorem ab_L_rep (n : Nat) : ab_L (List.replicate n none) (List.replicate n none) := by
  induction n with
  | zero => exact rfl
  | succ n ih => exact ⟨none, List.replicate n none, rfl, rfl, ih⟩
theorem ent_s {as : List AW} : ∀ {vs : List AV}, ab_S as vs → ab_L (as.flatMap entW) (vs.flatMap entA) := by
  induction as with
  | nil => intro vs h; have h : vs = [] := h; rw [h]; exact rfl
  | cons w as ih =>
    intro vs h
    obtain ⟨v, vs, rfl, hv, hs⟩ := h
    rw [List.flatMap_cons, List.flatMap_cons]
    exact ab_L_app (entW_s hv) (ih hs)
def entLA (n : Nat) (as : List AW) : List (Option AW) := as.flatMap entW ++ List.replicate (n - (as.flatMap entW).length) none
def callA (nt : NT) (e : Nat → Nat → List (Option AW) → BH → (Option AW → BH → Bool) → Bool) (d : Nat) (M : Nat) (as : List AW) (b : BH) (k : Option AW → BH → Bool) : Bool := match d with
  | 0 => false
  | d' + 1 => match nt M as b with
    | some q => decide (20 ≤ d) && k q.1 q.2
    | none => decide ((as.flatMap entW).length ≤ mL M) && e d' M (entLA (mL M) as) b k
def achk (nt : NT) : Nat → Nat → (List (Option AW) → List AW → BH → Bool) → Nat → Nat → Nat → List (Option AW) → List AW → BH → (Option AW → BH → Bool) → Bool
  | 0, _, _, _, _, _, _, _, _, _ => false
  | n + 1, sp, KS, d, M, pc, ls, st, b, K => match cd M pc with
    | none => false
    | some ce => stepA (fun pc ls st b => if pc = sp then KS ls st b else achk nt n sp KS d M pc ls st b K) K (fun M' as b k => callA nt (fun d M ls b k => achk nt n 1000000 (fun _ _ _ => false) d M 0 ls [] b k) d M' as b k) ce ls st b
theorem achk_s {nt : NT} (hn : ab_N nt) : ∀ (n sp : Nat) (KS : List (Option AW) → List AW → BH → Bool) (d M pc : Nat) (als : List (Option AW)) (ast : List AW) (b : BH) (K : Option AW → BH → Bool), achk nt n sp KS d M pc als ast b K = true →
    ∀ (ls : List (Option AV)) (st : List AV) (h : AH) (Q : Option AV → AH → Prop), ab_L als ls → ab_S ast st → ab_H b h →
    (∀ als ast b ls st h, KS als ast b = true → ab_L als ls → ab_S ast st → ab_H b h → XP d M sp ls st h Q) →
    (∀ r b v h, K r b = true → ab_O r v → ab_H b h → Q v h) → XP d M pc ls st h Q := by
  intro n
  induction n with
  | zero => intro sp KS d M pc als ast b K hh; cases hh
  | succ n ih =>
    intro sp KS d M pc als ast b K hh ls st h Q hl hs hb hKS hK
    unfold achk at hh
    split at hh
    · cases hh
    · rename_i ce hce
      obtain ⟨op, nx, a, bb, k, sw⟩ := ce
      refine XP_step hce (stepA_s hh hl hs hb (fun pc als ast b ls st h e hl hs hb => ?_) (fun r b v h e ho hb => hK r b v h e ho hb) (fun M' as b k vs h k' e hs hb hk => ?_))
      · split at e
        · rename_i hsp
          subst hsp
          exact hKS als ast b ls st h e hl hs hb
        · exact ih sp KS d M pc als ast b K e ls st h Q hl hs hb hKS hK
      · unfold callA at e
        split at e
        · cases e
        · rename_i d'
          split at e
          · rename_i q hq
            rw [Bool.and_eq_true, decide_eq_true_eq] at e
            exact hn M' as b q.1 q.2 hq _ vs h k' e.1 hs hb (fun v h' ho hb => hk q.1 q.2 v h' e.2 ho hb)
          · rw [Bool.and_eq_true, decide_eq_true_eq] at e
            have hE := ent_s hs
            refine XC_of (by unfold entN; rw [← ab_L_len hE]; exact e.1) ?_
            refine ih 1000000 (fun _ _ _ => false) d' M' 0 _ [] b k e.2 _ [] h k' ?_ rfl hb (fun _ _ _ _ _ _ z => by cases z) hk
            unfold entLA entL
            rw [ab_L_len hE]
            exact ab_L_app hE (ab_L_rep _)
def nt0 : NT := fun _ _ _ => none
theorem nt0_s : ab_N nt0 := fun M as b r b' h => by cases h
