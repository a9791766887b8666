/-! a call that is known is its answer -/
theorem XC_eq {d M : Nat} {as : List AV} {h h' : AH} {r : Option AV} (hl : entN as ≤ mL M) (hw : XP d M 0 (entL (mL M) as) [] h (fun r1 h1 => r1 = r ∧ h1 = h')) (Q : Option AV → AH → Prop) : XC (d + 1) M as h Q = Q r h' := by
  obtain ⟨n, r1, h1, he, rfl, rfl⟩ := hw
  apply propext
  constructor
  · rintro ⟨-, n2, r2, h2, he2, hq⟩
    have e1 := xec_mono (Nat.le_max_left n n2) he
    have e2 := xec_mono (Nat.le_max_right n n2) he2
    rw [e1] at e2
    cases e2
    exact hq
  · exact fun hq => ⟨hl, n, _, _, he, hq⟩
theorem XC_of {d M : Nat} {as : List AV} {h : AH} {Q : Option AV → AH → Prop} (hl : entN as ≤ mL M) (hw : XP d M 0 (entL (mL M) as) [] h Q) : XC (d + 1) M as h Q := ⟨hl, hw⟩
section SK
variable {α : Type} {bad : α} {go : Nat → List (Option AV) → List AV → AH → α} {ret : Option AV → AH → α} {call : Nat → List AV → AH → (Option AV → AH → α) → α} {dO : Nat → Nat → AV} {nf : Nat → Nat} {nx a b : Nat} {k : Int} {sw : List (Int × Nat)} {ls : List (Option AV)} {st : List AV} {h : AH} {x y : Int} {r q : Nat} {v w : AV}
theorem sk_0 : stepK bad go ret call dO nf (0, nx, a, b, k, sw) ls st h = go nx ls (.inl k :: st) h := rfl
theorem sk_1 : stepK bad go ret call dO nf (1, nx, a, b, k, sw) ls st h = go nx ls (.inr (.inl k) :: st) h := rfl
theorem sk_2 : stepK bad go ret call dO nf (2, nx, a, b, k, sw) ls st h = lI bad ls a fun x => go nx ls (.inl x :: st) h := rfl
theorem sk_3 : stepK bad go ret call dO nf (3, nx, a, b, k, sw) ls st h = lL bad ls a fun x => go nx ls (.inr (.inl x) :: st) h := rfl
theorem sk_4 : stepK bad go ret call dO nf (4, nx, a, b, k, sw) ls st h = lR bad ls a fun x => go nx ls (.inr (.inr (some x)) :: st) h := rfl
theorem sk_5 : stepK bad go ret call dO nf (5, nx, a, b, k, sw) ls (.inl x :: st) h = if okSt ls a = true then go nx (ls.set a (some (.inl x))) st h else bad := rfl
theorem sk_6 : stepK bad go ret call dO nf (6, nx, a, b, k, sw) ls (.inr (.inl x) :: st) h = if okSt ls a = true ∧ a + 1 < ls.length then go nx ((ls.set a (some (.inr (.inl x)))).set (a + 1) none) st h else bad := rfl
theorem sk_7 : stepK bad go ret call dO nf (7, nx, a, b, k, sw) ls (.inr (.inr (some r)) :: st) h = if okSt ls a = true then go nx (ls.set a (some (.inr (.inr (some r))))) st h else bad := rfl
theorem sk_8 : stepK bad go ret call dO nf (8, nx, a, b, k, sw) ls st h = lI bad ls a fun x => if okSt ls a = true then go nx (ls.set a (some (.inl (w32 (x + k))))) st h else bad := rfl
theorem sk_iadd : stepK bad go ret call dO nf (9, nx, a, 0, k, sw) ls (.inl y :: .inl x :: st) h = go nx ls (.inl (w32 (x + y)) :: st) h := rfl
theorem sk_isub : stepK bad go ret call dO nf (9, nx, a, 1, k, sw) ls (.inl y :: .inl x :: st) h = go nx ls (.inl (w32 (x - y)) :: st) h := rfl
theorem sk_imul : stepK bad go ret call dO nf (9, nx, a, 2, k, sw) ls (.inl y :: .inl x :: st) h = go nx ls (.inl (w32 (x * y)) :: st) h := rfl
theorem sk_iand : stepK bad go ret call dO nf (9, nx, a, 3, k, sw) ls (.inl y :: .inl x :: st) h = go nx ls (.inl (iand x y) :: st) h := rfl
theorem sk_ior : stepK bad go ret call dO nf (9, nx, a, 4, k, sw) ls (.inl y :: .inl x :: st) h = go nx ls (.inl (ior x y) :: st) h := rfl
theorem sk_ixor : stepK bad go ret call dO nf (9, nx, a, 5, k, sw) ls (.inl y :: .inl x :: st) h = go nx ls (.inl (ixor x y) :: st) h := rfl
theorem sk_ishl : stepK bad go ret call dO nf (9, nx, a, 8, k, sw) ls (.inl y :: .inl x :: st) h = go nx ls (.inl (ishl x y) :: st) h := rfl
theorem sk_ishr : stepK bad go ret call dO nf (9, nx, a, 9, k, sw) ls (.inl y :: .inl x :: st) h = go nx ls (.inl (ishr x y) :: st) h := rfl
theorem sk_iushr : stepK bad go ret call dO nf (9, nx, a, 10, k, sw) ls (.inl y :: .inl x :: st) h = go nx ls (.inl (iushr x y) :: st) h := rfl
theorem sk_idiv : stepK bad go ret call dO nf (9, nx, a, 6, k, sw) ls (.inl y :: .inl x :: st) h = if y = 0 then bad else go nx ls (.inl (w32 (x.tdiv y)) :: st) h := by
  by_cases hy : y = 0 <;> simp [stepK, pI, binI, hy, oI]
theorem sk_irem : stepK bad go ret call dO nf (9, nx, a, 7, k, sw) ls (.inl y :: .inl x :: st) h = if y = 0 then bad else go nx ls (.inl (x.tmod y) :: st) h := by
  by_cases hy : y = 0 <;> simp [stepK, pI, binI, hy, oI]
theorem sk_ineg : stepK bad go ret call dO nf (10, nx, a, b, k, sw) ls (.inl x :: st) h = go nx ls (.inl (w32 (-x)) :: st) h := rfl
theorem sk_ladd : stepK bad go ret call dO nf (11, nx, a, 0, k, sw) ls (.inr (.inl y) :: .inr (.inl x) :: st) h = go nx ls (.inr (.inl (w64 (x + y))) :: st) h := rfl
theorem sk_lsub : stepK bad go ret call dO nf (11, nx, a, 1, k, sw) ls (.inr (.inl y) :: .inr (.inl x) :: st) h = go nx ls (.inr (.inl (w64 (x - y))) :: st) h := rfl
theorem sk_lmul : stepK bad go ret call dO nf (11, nx, a, 2, k, sw) ls (.inr (.inl y) :: .inr (.inl x) :: st) h = go nx ls (.inr (.inl (w64 (x * y))) :: st) h := rfl
theorem sk_land : stepK bad go ret call dO nf (11, nx, a, 5, k, sw) ls (.inr (.inl y) :: .inr (.inl x) :: st) h = go nx ls (.inr (.inl (land x y)) :: st) h := rfl
theorem sk_lor : stepK bad go ret call dO nf (11, nx, a, 6, k, sw) ls (.inr (.inl y) :: .inr (.inl x) :: st) h = go nx ls (.inr (.inl (lor x y)) :: st) h := rfl
theorem sk_ldiv : stepK bad go ret call dO nf (11, nx, a, 3, k, sw) ls (.inr (.inl y) :: .inr (.inl x) :: st) h = if y = 0 then bad else go nx ls (.inr (.inl (w64 (x.tdiv y))) :: st) h := by
  by_cases hy : y = 0 <;> simp [stepK, pL, binL, hy, oI]
theorem sk_lrem : stepK bad go ret call dO nf (11, nx, a, 4, k, sw) ls (.inr (.inl y) :: .inr (.inl x) :: st) h = if y = 0 then bad else go nx ls (.inr (.inl (x.tmod y)) :: st) h := by
  by_cases hy : y = 0 <;> simp [stepK, pL, binL, hy, oI]
theorem sk_lneg : stepK bad go ret call dO nf (12, nx, a, b, k, sw) ls (.inr (.inl x) :: st) h = go nx ls (.inr (.inl (w64 (-x))) :: st) h := rfl
theorem sk_lshl : stepK bad go ret call dO nf (13, nx, a, 0, k, sw) ls (.inl y :: .inr (.inl x) :: st) h = go nx ls (.inr (.inl (lshl x y)) :: st) h := rfl
theorem sk_lshr : stepK bad go ret call dO nf (13, nx, a, 1, k, sw) ls (.inl y :: .inr (.inl x) :: st) h = go nx ls (.inr (.inl (lshr x y)) :: st) h := rfl
theorem sk_i2l : stepK bad go ret call dO nf (14, nx, a, b, k, sw) ls (.inl x :: st) h = go nx ls (.inr (.inl x) :: st) h := rfl
theorem sk_l2i : stepK bad go ret call dO nf (15, nx, a, b, k, sw) ls (.inr (.inl x) :: st) h = go nx ls (.inl (w32 x) :: st) h := rfl
theorem sk_lcmp : stepK bad go ret call dO nf (16, nx, a, b, k, sw) ls (.inr (.inl y) :: .inr (.inl x) :: st) h = go nx ls (.inl (lcmp3 x y) :: st) h := rfl
theorem sk_dupI : stepK bad go ret call dO nf (17, nx, a, b, k, sw) ls (.inl x :: st) h = go nx ls (.inl x :: .inl x :: st) h := rfl
theorem sk_dupR : stepK bad go ret call dO nf (17, nx, a, b, k, sw) ls (.inr (.inr (some r)) :: st) h = go nx ls (.inr (.inr (some r)) :: .inr (.inr (some r)) :: st) h := rfl
theorem sk_dup2L : stepK bad go ret call dO nf (18, nx, a, b, k, sw) ls (.inr (.inl x) :: st) h = go nx ls (.inr (.inl x) :: .inr (.inl x) :: st) h := rfl
theorem sk_dup2I : stepK bad go ret call dO nf (18, nx, a, b, k, sw) ls (.inl x :: .inr (.inr (some r)) :: st) h = go nx ls (.inl x :: .inr (.inr (some r)) :: .inl x :: .inr (.inr (some r)) :: st) h := rfl
theorem sk_popI : stepK bad go ret call dO nf (19, nx, a, b, k, sw) ls (.inl x :: st) h = go nx ls st h := rfl
theorem sk_ifeq : stepK bad go ret call dO nf (20, nx, a, 0, k, sw) ls (.inl x :: st) h = if x = 0 then go a ls st h else go nx ls st h := by simp only [stepK, pI, cmpB, decide_eq_true_eq]
theorem sk_iceq : stepK bad go ret call dO nf (21, nx, a, 0, k, sw) ls (.inl y :: .inl x :: st) h = if x = y then go a ls st h else go nx ls st h := by simp only [stepK, pI, cmpB, decide_eq_true_eq]
theorem sk_ifne : stepK bad go ret call dO nf (20, nx, a, 1, k, sw) ls (.inl x :: st) h = if ¬ x = 0 then go a ls st h else go nx ls st h := by simp only [stepK, pI, cmpB, decide_eq_true_eq]
theorem sk_icne : stepK bad go ret call dO nf (21, nx, a, 1, k, sw) ls (.inl y :: .inl x :: st) h = if ¬ x = y then go a ls st h else go nx ls st h := by simp only [stepK, pI, cmpB, decide_eq_true_eq]
theorem sk_iflt : stepK bad go ret call dO nf (20, nx, a, 2, k, sw) ls (.inl x :: st) h = if x < 0 then go a ls st h else go nx ls st h := by simp only [stepK, pI, cmpB, decide_eq_true_eq]
theorem sk_iclt : stepK bad go ret call dO nf (21, nx, a, 2, k, sw) ls (.inl y :: .inl x :: st) h = if x < y then go a ls st h else go nx ls st h := by simp only [stepK, pI, cmpB, decide_eq_true_eq]
theorem sk_ifge : stepK bad go ret call dO nf (20, nx, a, 3, k, sw) ls (.inl x :: st) h = if 0 ≤ x then go a ls st h else go nx ls st h := by simp only [stepK, pI, cmpB, decide_eq_true_eq]
theorem sk_icge : stepK bad go ret call dO nf (21, nx, a, 3, k, sw) ls (.inl y :: .inl x :: st) h = if y ≤ x then go a ls st h else go nx ls st h := by simp only [stepK, pI, cmpB, decide_eq_true_eq]
theorem sk_ifgt : stepK bad go ret call dO nf (20, nx, a, 4, k, sw) ls (.inl x :: st) h = if 0 < x then go a ls st h else go nx ls st h := by simp only [stepK, pI, cmpB, decide_eq_true_eq]
theorem sk_icgt : stepK bad go ret call dO nf (21, nx, a, 4, k, sw) ls (.inl y :: .inl x :: st) h = if y < x then go a ls st h else go nx ls st h := by simp only [stepK, pI, cmpB, decide_eq_true_eq]
theorem sk_ifle : stepK bad go ret call dO nf (20, nx, a, 5, k, sw) ls (.inl x :: st) h = if x ≤ 0 then go a ls st h else go nx ls st h := by simp only [stepK, pI, cmpB, decide_eq_true_eq]
theorem sk_icle : stepK bad go ret call dO nf (21, nx, a, 5, k, sw) ls (.inl y :: .inl x :: st) h = if x ≤ y then go a ls st h else go nx ls st h := by simp only [stepK, pI, cmpB, decide_eq_true_eq]
theorem sk_goto : stepK bad go ret call dO nf (22, nx, a, b, k, sw) ls st h = go a ls st h := rfl
theorem sk_getf : stepK bad go ret call dO nf (23, nx, a, b, k, sw) ls (.inr (.inr (some r)) :: st) h = if (hK h r).1 = a then go nx ls (hV h r b :: st) h else bad := rfl
theorem sk_putf : stepK bad go ret call dO nf (24, nx, a, b, k, sw) ls (v :: .inr (.inr (some r)) :: st) h = if (hK h r).1 = a ∧ okF k v = true then go nx ls st (hSet h r b v) else bad := rfl
theorem sk_gets : stepK bad go ret call dO nf (25, nx, a, b, k, sw) ls st h = go nx ls (.inr (.inr (some (1000000 + a))) :: st) h := rfl
theorem sk_iald : stepK bad go ret call dO nf (26, nx, a, b, k, sw) ls (.inl x :: .inr (.inr (some r)) :: st) h = if ((hK h r).1 = 11 ∨ (hK h r).1 = 20) ∧ inR x (hK h r).2 = true then vIo bad (hV h r x.toNat) fun x => go nx ls (.inl x :: st) h else bad := rfl
theorem sk_lald : stepK bad go ret call dO nf (27, nx, a, b, k, sw) ls (.inl x :: .inr (.inr (some r)) :: st) h = if (hK h r).1 = 12 ∧ inR x (hK h r).2 = true then vLo bad (hV h r x.toNat) fun x => go nx ls (.inr (.inl x) :: st) h else bad := rfl
theorem sk_bald : stepK bad go ret call dO nf (28, nx, a, b, k, sw) ls (.inl x :: .inr (.inr (some r)) :: st) h = if (hK h r).1 = 13 ∧ inR x (hK h r).2 = true then vIo bad (hV h r x.toNat) fun x => go nx ls (.inl x :: st) h else bad := rfl
theorem sk_aald : stepK bad go ret call dO nf (29, nx, a, b, k, sw) ls (.inl x :: .inr (.inr (some r)) :: st) h = if (hK h r).1 = 14 ∧ inR x (hK h r).2 = true then vOo bad (hV h r x.toNat) fun x => go nx ls (.inr (.inr x) :: st) h else bad := rfl
theorem sk_iast : stepK bad go ret call dO nf (30, nx, a, b, k, sw) ls (.inl y :: .inl x :: .inr (.inr (some r)) :: st) h = if (hK h r).1 = 11 ∧ inR x (hK h r).2 = true then go nx ls st (hSet h r x.toNat (.inl y)) else bad := rfl
theorem sk_last : stepK bad go ret call dO nf (31, nx, a, b, k, sw) ls (.inr (.inl y) :: .inl x :: .inr (.inr (some r)) :: st) h = if (hK h r).1 = 12 ∧ inR x (hK h r).2 = true then go nx ls st (hSet h r x.toNat (.inr (.inl y))) else bad := rfl
theorem sk_bast : stepK bad go ret call dO nf (32, nx, a, b, k, sw) ls (.inl y :: .inl x :: .inr (.inr (some r)) :: st) h = if (hK h r).1 = 13 ∧ inR x (hK h r).2 = true ∧ is01 y = true then go nx ls st (hSet h r x.toNat (.inl y)) else bad := rfl
theorem sk_aast : stepK bad go ret call dO nf (33, nx, a, b, k, sw) ls (.inr (.inr (some q)) :: .inl x :: .inr (.inr (some r)) :: st) h = if (hK h r).1 = 14 ∧ inR x (hK h r).2 = true ∧ (hK h q).1 = 6 then go nx ls st (hSet h r x.toNat (.inr (.inr (some q)))) else bad := rfl
theorem sk_alen : stepK bad go ret call dO nf (34, nx, a, b, k, sw) ls (.inr (.inr (some r)) :: st) h = if (hK h r).1 = 11 ∨ (hK h r).1 = 20 then go nx ls (.inl (hK h r).2 :: st) h else bad := rfl
theorem sk_newa : stepK bad go ret call dO nf (35, nx, a, b, k, sw) ls (.inl x :: st) h = if 0 ≤ x ∧ x ≤ 20000 ∧ hN h < 5000 then go nx ls (.inr (.inr (some (hN h))) :: st) (hNew h (11 + b) x.toNat x.toNat (fun _ => dfA b)) else bad := rfl
theorem sk_newt : stepK bad go ret call dO nf (36, nx, a, b, k, sw) ls (.inl x :: st) h = if 0 ≤ x ∧ x ≤ 20000 ∧ hN h < 5000 then go nx ls (.inr (.inr (some (hN h))) :: st) (hNew h 14 x.toNat x.toNat (fun _ => vN)) else bad := rfl
theorem sk_new : stepK bad go ret call dO nf (37, nx, a, b, k, sw) ls st h = if hN h < 5000 then go nx ls (.inr (.inr (some (hN h))) :: st) (hNew h a 0 (nf a) (dO a)) else bad := rfl
theorem sk_cs1 {x0 : AV} : stepK bad go ret call dO nf (38, nx, a, 1, k, sw) ls (x0 :: st) h = if stW st ≤ 8 then call a [x0] h (fun r h => go nx ls (r.toList ++ st) h) else bad := by
  by_cases hw : stW st ≤ 8
  · rw [if_pos hw]; exact if_pos ⟨Nat.le_add_left 1 st.length, hw⟩
  · rw [if_neg hw]; exact if_neg (fun z => hw z.2)
theorem sk_cv1 : stepK bad go ret call dO nf (46, nx, a, 1, k, sw) ls ((.inr (.inr (some q))) :: st) h = if stW st ≤ 8 then (if (hK h q).1 = k.toNat then call a [.inr (.inr (some q))] h (fun r h => go nx ls (r.toList ++ st) h) else bad) else bad := by
  by_cases hw : stW st ≤ 8
  · rw [if_pos hw]; exact if_pos ⟨Nat.le_add_left 1 st.length, hw⟩
  · rw [if_neg hw]; exact if_neg (fun z => hw z.2)
theorem sk_ci1 : stepK bad go ret call dO nf (47, nx, a, 1, k, sw) ls ((.inr (.inr (some q))) :: st) h = if stW st ≤ 8 then call a [.inr (.inr (some q))] h (fun r h => go nx ls (r.toList ++ st) h) else bad := by
  by_cases hw : stW st ≤ 8
  · rw [if_pos hw]; exact if_pos ⟨Nat.le_add_left 1 st.length, hw⟩
  · rw [if_neg hw]; exact if_neg (fun z => hw z.2)
theorem sk_cs2 {x0 x1 : AV} : stepK bad go ret call dO nf (38, nx, a, 2, k, sw) ls (x1 :: x0 :: st) h = if stW st ≤ 8 then call a [x0, x1] h (fun r h => go nx ls (r.toList ++ st) h) else bad := by
  by_cases hw : stW st ≤ 8
  · rw [if_pos hw]; exact if_pos ⟨Nat.le_add_left 2 st.length, hw⟩
  · rw [if_neg hw]; exact if_neg (fun z => hw z.2)
theorem sk_cv2 {x0 : AV} : stepK bad go ret call dO nf (46, nx, a, 2, k, sw) ls (x0 :: (.inr (.inr (some q))) :: st) h = if stW st ≤ 8 then (if (hK h q).1 = k.toNat then call a [.inr (.inr (some q)), x0] h (fun r h => go nx ls (r.toList ++ st) h) else bad) else bad := by
  by_cases hw : stW st ≤ 8
  · rw [if_pos hw]; exact if_pos ⟨Nat.le_add_left 2 st.length, hw⟩
  · rw [if_neg hw]; exact if_neg (fun z => hw z.2)
theorem sk_ci2 {x0 : AV} : stepK bad go ret call dO nf (47, nx, a, 2, k, sw) ls (x0 :: (.inr (.inr (some q))) :: st) h = if stW st ≤ 8 then call a [.inr (.inr (some q)), x0] h (fun r h => go nx ls (r.toList ++ st) h) else bad := by
  by_cases hw : stW st ≤ 8
  · rw [if_pos hw]; exact if_pos ⟨Nat.le_add_left 2 st.length, hw⟩
  · rw [if_neg hw]; exact if_neg (fun z => hw z.2)
theorem sk_cs3 {x0 x1 x2 : AV} : stepK bad go ret call dO nf (38, nx, a, 3, k, sw) ls (x2 :: x1 :: x0 :: st) h = if stW st ≤ 8 then call a [x0, x1, x2] h (fun r h => go nx ls (r.toList ++ st) h) else bad := by
  by_cases hw : stW st ≤ 8
  · rw [if_pos hw]; exact if_pos ⟨Nat.le_add_left 3 st.length, hw⟩
  · rw [if_neg hw]; exact if_neg (fun z => hw z.2)
theorem sk_cv3 {x0 x1 : AV} : stepK bad go ret call dO nf (46, nx, a, 3, k, sw) ls (x1 :: x0 :: (.inr (.inr (some q))) :: st) h = if stW st ≤ 8 then (if (hK h q).1 = k.toNat then call a [.inr (.inr (some q)), x0, x1] h (fun r h => go nx ls (r.toList ++ st) h) else bad) else bad := by
  by_cases hw : stW st ≤ 8
  · rw [if_pos hw]; exact if_pos ⟨Nat.le_add_left 3 st.length, hw⟩
  · rw [if_neg hw]; exact if_neg (fun z => hw z.2)
theorem sk_ci3 {x0 x1 : AV} : stepK bad go ret call dO nf (47, nx, a, 3, k, sw) ls (x1 :: x0 :: (.inr (.inr (some q))) :: st) h = if stW st ≤ 8 then call a [.inr (.inr (some q)), x0, x1] h (fun r h => go nx ls (r.toList ++ st) h) else bad := by
  by_cases hw : stW st ≤ 8
  · rw [if_pos hw]; exact if_pos ⟨Nat.le_add_left 3 st.length, hw⟩
  · rw [if_neg hw]; exact if_neg (fun z => hw z.2)
theorem sk_cs4 {x0 x1 x2 x3 : AV} : stepK bad go ret call dO nf (38, nx, a, 4, k, sw) ls (x3 :: x2 :: x1 :: x0 :: st) h = if stW st ≤ 8 then call a [x0, x1, x2, x3] h (fun r h => go nx ls (r.toList ++ st) h) else bad := by
  by_cases hw : stW st ≤ 8
  · rw [if_pos hw]; exact if_pos ⟨Nat.le_add_left 4 st.length, hw⟩
  · rw [if_neg hw]; exact if_neg (fun z => hw z.2)
theorem sk_cv4 {x0 x1 x2 : AV} : stepK bad go ret call dO nf (46, nx, a, 4, k, sw) ls (x2 :: x1 :: x0 :: (.inr (.inr (some q))) :: st) h = if stW st ≤ 8 then (if (hK h q).1 = k.toNat then call a [.inr (.inr (some q)), x0, x1, x2] h (fun r h => go nx ls (r.toList ++ st) h) else bad) else bad := by
  by_cases hw : stW st ≤ 8
  · rw [if_pos hw]; exact if_pos ⟨Nat.le_add_left 4 st.length, hw⟩
  · rw [if_neg hw]; exact if_neg (fun z => hw z.2)
theorem sk_cs5 {x0 x1 x2 x3 x4 : AV} : stepK bad go ret call dO nf (38, nx, a, 5, k, sw) ls (x4 :: x3 :: x2 :: x1 :: x0 :: st) h = if stW st ≤ 8 then call a [x0, x1, x2, x3, x4] h (fun r h => go nx ls (r.toList ++ st) h) else bad := by
  by_cases hw : stW st ≤ 8
  · rw [if_pos hw]; exact if_pos ⟨Nat.le_add_left 5 st.length, hw⟩
  · rw [if_neg hw]; exact if_neg (fun z => hw z.2)
theorem sk_cv5 {x0 x1 x2 x3 : AV} : stepK bad go ret call dO nf (46, nx, a, 5, k, sw) ls (x3 :: x2 :: x1 :: x0 :: (.inr (.inr (some q))) :: st) h = if stW st ≤ 8 then (if (hK h q).1 = k.toNat then call a [.inr (.inr (some q)), x0, x1, x2, x3] h (fun r h => go nx ls (r.toList ++ st) h) else bad) else bad := by
  by_cases hw : stW st ≤ 8
  · rw [if_pos hw]; exact if_pos ⟨Nat.le_add_left 5 st.length, hw⟩
  · rw [if_neg hw]; exact if_neg (fun z => hw z.2)
theorem sk_cs6 {x0 x1 x2 x3 x4 x5 : AV} : stepK bad go ret call dO nf (38, nx, a, 6, k, sw) ls (x5 :: x4 :: x3 :: x2 :: x1 :: x0 :: st) h = if stW st ≤ 8 then call a [x0, x1, x2, x3, x4, x5] h (fun r h => go nx ls (r.toList ++ st) h) else bad := by
  by_cases hw : stW st ≤ 8
  · rw [if_pos hw]; exact if_pos ⟨Nat.le_add_left 6 st.length, hw⟩
  · rw [if_neg hw]; exact if_neg (fun z => hw z.2)
theorem sk_cv6 {x0 x1 x2 x3 x4 : AV} : stepK bad go ret call dO nf (46, nx, a, 6, k, sw) ls (x4 :: x3 :: x2 :: x1 :: x0 :: (.inr (.inr (some q))) :: st) h = if stW st ≤ 8 then (if (hK h q).1 = k.toNat then call a [.inr (.inr (some q)), x0, x1, x2, x3, x4] h (fun r h => go nx ls (r.toList ++ st) h) else bad) else bad := by
  by_cases hw : stW st ≤ 8
  · rw [if_pos hw]; exact if_pos ⟨Nat.le_add_left 6 st.length, hw⟩
  · rw [if_neg hw]; exact if_neg (fun z => hw z.2)
theorem sk_ret0 : stepK bad go ret call dO nf (39, nx, a, b, k, sw) ls [] h = ret none h := rfl
theorem sk_retI : stepK bad go ret call dO nf (40, nx, a, b, k, sw) ls [.inl x] h = if a = 0 ∨ is01 x = true then ret (some (.inl x)) h else bad := rfl
theorem sk_retL : stepK bad go ret call dO nf (41, nx, a, b, k, sw) ls [.inr (.inl x)] h = ret (some (.inr (.inl x))) h := rfl
theorem sk_retR : stepK bad go ret call dO nf (42, nx, a, b, k, sw) ls [.inr (.inr (some r))] h = ret (some (.inr (.inr (some r)))) h := rfl
theorem sk_sw : stepK bad go ret call dO nf (43, nx, a, b, k, sw) ls (.inl x :: st) h = go (swF x a sw) ls st h := rfl
theorem sk_oin : stepK bad go ret call dO nf (48, nx, a, b, k, sw) ls (.inr (.inr (some r)) :: st) h = if stW st ≤ 8 then go nx ls st h else bad := rfl
theorem sk_max : stepK bad go ret call dO nf (49, nx, a, b, k, sw) ls (.inl y :: .inl x :: st) h = if stW st ≤ 8 then go nx ls (.inl (max x y) :: st) h else bad := rfl
theorem sk_min : stepK bad go ret call dO nf (50, nx, a, b, k, sw) ls (.inl y :: .inl x :: st) h = if stW st ≤ 8 then go nx ls (.inl (min x y) :: st) h else bad := rfl
theorem sk_abs : stepK bad go ret call dO nf (51, nx, a, b, k, sw) ls (.inl x :: st) h = if stW st ≤ 8 then go nx ls (.inl (w32 (if 0 ≤ x then x else -x)) :: st) h else bad := rfl
theorem sk_52 : stepK bad go ret call dO nf (52, nx, a, b, k, sw) ls st h = go nx ls (.inr (.inr (some 1000004)) :: st) h := rfl
theorem sk_53 : stepK bad go ret call dO nf (53, nx, a, b, k, sw) ls (.inr (.inr (some r)) :: st) h = if r = 1000004 ∧ stW st ≤ 8 then go nx ls (.inl 160 :: st) h else bad := rfl
theorem sk_54 : stepK bad go ret call dO nf (54, nx, a, b, k, sw) ls (.inl x :: .inr (.inr (some r)) :: st) h = if r = 1000004 ∧ inR x 160 = true ∧ stW st ≤ 8 then go nx ls (.inl (wdB.getD x.toNat 0) :: st) h else bad := rfl
theorem sk_55 : stepK bad go ret call dO nf (55, nx, a, b, k, sw) ls (.inr (.inl x) :: st) h = go nx ls st h := rfl
theorem lI_0 {l : List (Option AV)} {k : Int → α} : lI bad (some (.inl x) :: l) 0 k = k x := rfl
theorem lI_s {o : Option AV} {l : List (Option AV)} {i : Nat} {k : Int → α} : lI bad (o :: l) (i + 1) k = lI bad l i k := rfl
theorem lL_0 {l : List (Option AV)} {k : Int → α} : lL bad (some (.inr (.inl x)) :: l) 0 k = k x := rfl
theorem lL_s {o : Option AV} {l : List (Option AV)} {i : Nat} {k : Int → α} : lL bad (o :: l) (i + 1) k = lL bad l i k := rfl
theorem lR_0 {l : List (Option AV)} {k : Nat → α} : lR bad (some (.inr (.inr (some r))) :: l) 0 k = k r := rfl
theorem lR_s {o : Option AV} {l : List (Option AV)} {i : Nat} {k : Nat → α} : lR bad (o :: l) (i + 1) k = lR bad l i k := rfl
theorem vIo_e {k : Int → α} : vIo bad (.inl x) k = k x := rfl
theorem vLo_e {k : Int → α} : vLo bad (.inr (.inl x)) k = k x := rfl
theorem vOo_e {o : Option Nat} {k : Option Nat → α} : vOo bad (.inr (.inr o)) k = k o := rfl
end SK
theorem stW_I {x : Int} {st : List AV} : stW (.inl x :: st) = stW st + 1 := Nat.add_comm _ _
theorem stW_L {x : Int} {st : List AV} : stW (.inr (.inl x) :: st) = stW st + 2 := Nat.add_comm _ _
theorem stW_R {x : Option Nat} {st : List AV} : stW (.inr (.inr x) :: st) = stW st + 1 := Nat.add_comm _ _
theorem stW_0 : stW [] = 0 := rfl
theorem stW_z : (stW [] ≤ 8) = True := eq_true (Nat.zero_le 8)
theorem okSt_0 {o : Option AV} {l : List (Option AV)} : okSt (o :: l) 0 = true := by unfold okSt; simp
theorem okSt_1 {o : Option AV} {l : List (Option AV)} (h : ∀ z, o ≠ some (.inr (.inl z))) (hl : 0 < l.length) : okSt (o :: l) 1 = true := by
  unfold okSt
  dsimp only
  rw [List.getElem?_cons_zero]
  split
  · rename_i z hz; exact absurd (Option.some.inj hz) (h z)
  · exact decide_eq_true (by rw [List.length_cons]; omega)
theorem okSt_s {o : Option AV} {l : List (Option AV)} {i : Nat} : okSt (o :: l) (i + 2) = okSt l (i + 1) := by
  unfold okSt
  dsimp only
  rw [List.getElem?_cons_succ]
  split <;> simp [List.length_cons]
theorem is01_0 : is01 0 = true := rfl
theorem is01_1 : is01 1 = true := rfl
theorem is01_i {c : Prop} [Decidable c] : is01 (if c then 1 else 0) = true := by split <;> rfl
theorem hV_eq (h : AH) (r i : Nat) (v : AV) (a j : Nat) : hV (hSet h r i v) a j = if a = r ∧ j = i then v else hV h a j := rfl
theorem hK_eq (h : AH) (r i : Nat) (v : AV) : hK (hSet h r i v) = hK h := rfl
theorem okF_0 {x : Int} : okF 0 (.inl x) = true := rfl
theorem okF_1 {x : Int} : okF 1 (.inr (.inl x)) = true := rfl
theorem okF_3 {x : Option Nat} : okF 3 (.inr (.inr x)) = true := rfl
theorem okF_2 {x : Int} (h : x = 0 ∨ x = 1) : okF 2 (.inl x) = true := by
  unfold okF; simp [is01, h]
