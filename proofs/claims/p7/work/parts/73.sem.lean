/-! what a law's code is worth: the class's deeds and the reference's code -/
abbrev ENV : Type := (Nat → Int) × (Nat → Nat → Int)
def rngV (x : Int) : Prop := -1000000 ≤ x ∧ x ≤ 1000000
def envK (e : ENV) : Prop := (∀ i, rngV (e.1 i)) ∧ ∀ k i, rngV (e.2 k i)
def clp (v : Int) : Int := if 1000000 < v then 1000000 else if v < -1000000 then -1000000 else v
def arF (i x y : Int) : Int := if i = 0 then clp (x + y) else if i = 1 then clp (x - y) else if i = 2 then clp (x * y) else if y = 0 then 0 else x.tdiv y
def cqF (i x y : Int) : Bool := if i = 0 then decide (x < y) else if i = 1 then decide (x ≤ y) else if i = 2 then decide (y < x) else if i = 3 then decide (y ≤ x) else if i = 4 then decide (x = y) else decide (x ≠ y)
def b01 (t : Bool) : Int := if t = true then 1 else 0
def joF (op x y : Int) : Int := if op < 12 then arF (op - 8) x y else if op < 18 then b01 (cqF (op - 12) x y) else if op = 18 then ior x y else if op = 19 then iand x y else 0
def chF (op x : Int) : Int := if op = 7 then (if x = 0 then 1 else 0) else if op = 5 then -x else if 0 ≤ x then x else -x
def feF (op arg : Int) (e : ENV) : Int := if op = 2 then arg else if op = 3 then e.1 (arg % 8).toNat else e.2 (arg / 8).toNat (arg % 8).toNat
def jo2 (op : Int) (s : List Int) : List Int := match s with
  | y :: x :: r => joF op x y :: r
  | r => r
def ch1 (op : Int) (s : List Int) : List Int := match s with
  | x :: r => chF op x :: r
  | r => r
def lpW (n to : Nat) (s : List Int) : Nat × List Int := match s with
  | x :: r => (if x = 0 then to else n, r)
  | r => (n, r)
def ckS (dd : Nat → Int) (e : ENV) (q : Nat × List Int) : Nat × List Int :=
  if 8 ≤ dd q.1 % 32 then (q.1 + 1, jo2 (dd q.1 % 32) q.2)
  else if 5 ≤ dd q.1 % 32 then (q.1 + 1, ch1 (dd q.1 % 32) q.2)
  else if dd q.1 % 32 = 0 then ((dd q.1 / 32).toNat, q.2)
  else if dd q.1 % 32 = 1 then lpW (q.1 + 1) (dd q.1 / 32).toNat q.2
  else (q.1 + 1, feF (dd q.1 % 32) (dd q.1 / 32) e :: q.2)
def okS (s : List Int) : Prop := s.length ≤ 64 ∧ ∀ x, x ∈ s → rngV x
def cRu (dd : Nat → Int) (e : ENV) (a b : Nat) : Nat → Nat × List Int → Nat × List Int → Prop
  | 0, q, q' => q = q'
  | n + 1, q, q' => (a ≤ q.1 ∧ q.1 < b ∧ 0 ≤ dd q.1) ∧ okS q.2 ∧ okS (ckS dd e q).2 ∧ cRu dd e a b n (ckS dd e q) q'
theorem cRu_a {dd : Nat → Int} {e : ENV} {a b : Nat} : ∀ (n m : Nat) (q q1 q2 : Nat × List Int), cRu dd e a b n q q1 → cRu dd e a b m q1 q2 → cRu dd e a b (n + m) q q2 := by
  intro n
  induction n with
  | zero => intro m q q1 q2 h h2; have h : q = q1 := h; rw [h, Nat.zero_add]; exact h2
  | succ n ih =>
    intro m q q1 q2 h h2
    rw [Nat.succ_add]
    obtain ⟨x1, x2, x3, x4⟩ := h
    exact ⟨x1, x2, x3, ih m _ q1 q2 x4 h2⟩
theorem cRu_w {dd dd' : Nat → Int} {e : ENV} {a b a' b' : Nat} (ha : a' ≤ a) (hb : b ≤ b') (hd : ∀ i, a ≤ i → i < b → dd' i = dd i) : ∀ (n : Nat) (q q1 : Nat × List Int), cRu dd e a b n q q1 → cRu dd' e a' b' n q q1 := by
  intro n
  induction n with
  | zero => intro q q1 h; exact h
  | succ n ih =>
    intro q q1 h
    obtain ⟨x1, x2, x3, x4⟩ := h
    have e1 : ckS dd' e q = ckS dd e q := by unfold ckS; rw [hd q.1 x1.1 x1.2.1]
    exact ⟨⟨by omega, by omega, by rw [hd q.1 x1.1 x1.2.1]; exact x1.2.2⟩, x2, by rw [e1]; exact x3, by rw [e1]; exact ih _ _ x4⟩
theorem cRu_1 {dd : Nat → Int} {e : ENV} {a b : Nat} {q q1 : Nat × List Int} (h1 : a ≤ q.1) (h2 : q.1 < b) (h3 : okS q.2) (h4 : okS q1.2) (h6 : 0 ≤ dd q.1) (h5 : ckS dd e q = q1) : cRu dd e a b 1 q q1 := ⟨⟨h1, h2, h6⟩, h3, by rw [h5]; exact h4, h5⟩
def SemC (dd : Nat → Int) (a b : Nat) (f : ENV → Int) (k : Nat) : Prop := (a ≤ b ∧ 1 ≤ k) ∧ ∀ e, envK e → rngV (f e) ∧ ∀ s : List Int, (∀ x, x ∈ s → rngV x) → s.length + k ≤ 64 → ∃ n, n ≤ b - a ∧ cRu dd e a b n (a, s) (b, f e :: s)
theorem SemC_w {dd dd' : Nat → Int} {a b k k' : Nat} {f : ENV → Int} (hd : ∀ i, a ≤ i → i < b → dd' i = dd i) (hk : k ≤ k') (h : SemC dd a b f k) : SemC dd' a b f k' := by
  refine ⟨⟨h.1.1, by have := h.1.2; omega⟩, fun e he => ⟨(h.2 e he).1, fun s hs hl => ?_⟩⟩
  obtain ⟨n, h1, h2⟩ := (h.2 e he).2 s hs (by omega)
  exact ⟨n, h1, cRu_w (Nat.le_refl _) (Nat.le_refl _) hd n _ _ h2⟩
theorem okS_c {x : Int} {s : List Int} (hx : rngV x) (hs : ∀ y, y ∈ s → rngV y) (hl : s.length + 1 ≤ 64) : okS (x :: s) := ⟨by rw [List.length_cons]; exact hl, fun y hy => by
  rcases List.mem_cons.mp hy with rfl | hy
  · exact hx
  · exact hs y hy⟩
theorem rng_c {x : Int} {s : List Int} (hx : rngV x) (hs : ∀ y, y ∈ s → rngV y) : ∀ y, y ∈ x :: s → rngV y := fun y hy => by
  rcases List.mem_cons.mp hy with rfl | hy
  · exact hx
  · exact hs y hy
theorem clp_r (v : Int) : rngV (clp v) := by unfold clp rngV; (repeat' split) <;> omega
theorem td_r {x y : Int} (hx : rngV x) : rngV (x.tdiv y) := by
  have h : (x.tdiv y).natAbs ≤ x.natAbs := by rw [Int.natAbs_tdiv]; exact Nat.div_le_self _ _
  unfold rngV at *
  omega
theorem arF_r {i x y : Int} (hx : rngV x) : rngV (arF i x y) := by
  unfold arF
  (repeat' split) <;> first | exact clp_r _ | exact td_r hx | exact ⟨by decide, by decide⟩
theorem b01_r (t : Bool) : rngV (b01 t) := by unfold b01; split <;> exact ⟨by decide, by decide⟩
theorem chF_r {op x : Int} (hx : rngV x) : rngV (chF op x) := by
  unfold chF
  unfold rngV at *
  (repeat' split) <;> omega
theorem SemC_push {dd : Nat → Int} {a : Nat} {op arg : Int} (ha : 0 ≤ arg) (h2 : 2 ≤ op) (h4 : op ≤ 4) (hd : dd a = 32 * arg + op) (hr : ∀ e, envK e → rngV (feF op arg e)) : SemC dd a (a + 1) (feF op arg) 1 := by
  refine ⟨⟨by omega, Nat.le_refl _⟩, fun e he => ⟨hr e he, fun s hs hl => ⟨1, by omega, ?_⟩⟩⟩
  refine cRu_1 (Nat.le_refl _) (Nat.lt_succ_self _) ⟨by show s.length ≤ 64; omega, hs⟩ (okS_c (hr e he) hs hl) (by show 0 ≤ dd a; omega) ?_
  have e1 : dd a % 32 = op := by omega
  have e2 : dd a / 32 = arg := by omega
  unfold ckS
  dsimp only
  rw [e1, e2, if_neg (by omega), if_neg (by omega), if_neg (by omega), if_neg (by omega)]
theorem SemC_one {dd : Nat → Int} {a b k : Nat} {f : ENV → Int} {op : Int} (h : SemC dd a b f k) (h5 : 5 ≤ op) (h7 : op ≤ 7) (hd : dd b = op) : SemC dd a (b + 1) (fun e => chF op (f e)) k := by
  refine ⟨⟨by have := h.1.1; omega, h.1.2⟩, fun e he => ⟨chF_r (h.2 e he).1, fun s hs hl => ?_⟩⟩
  obtain ⟨n, h1, h2⟩ := (h.2 e he).2 s hs hl
  have hab := h.1.1
  have hk := h.1.2
  refine ⟨n + 1, by omega, cRu_a n 1 _ _ _ (cRu_w (Nat.le_refl _) (Nat.le_succ _) (fun _ _ _ => rfl) n _ _ h2) ?_⟩
  refine cRu_1 hab (Nat.lt_succ_self _) (okS_c (h.2 e he).1 hs (by omega)) (okS_c (chF_r (h.2 e he).1) hs (by omega)) (by show 0 ≤ dd b; omega) ?_
  have e1 : dd b % 32 = op := by omega
  unfold ckS
  dsimp only
  rw [e1, if_neg (by omega), if_pos h5]
  rfl
theorem SemC_two {dd : Nat → Int} {a m b k1 k2 : Nat} {f1 f2 : ENV → Int} {op : Int} (h1 : SemC dd a m f1 k1) (h2 : SemC dd m b f2 k2) (h8 : 8 ≤ op) (h20 : op < 32) (hd : dd b = op) (hr : ∀ e, envK e → rngV (joF op (f1 e) (f2 e))) : SemC dd a (b + 1) (fun e => joF op (f1 e) (f2 e)) (max k1 (k2 + 1)) := by
  have a1 := h1.1.1
  have a2 := h2.1.1
  have b1 := h1.1.2
  have b2 := h2.1.2
  refine ⟨⟨by omega, by omega⟩, fun e he => ⟨hr e he, fun s hs hl => ?_⟩⟩
  obtain ⟨n, p1, p2⟩ := (h1.2 e he).2 s hs (by omega)
  obtain ⟨n', q1, q2⟩ := (h2.2 e he).2 (f1 e :: s) (rng_c (h1.2 e he).1 hs) (by rw [List.length_cons]; omega)
  refine ⟨n + (n' + 1), by omega, cRu_a n _ _ _ _ (cRu_w (Nat.le_refl _) (by omega) (fun _ _ _ => rfl) n _ _ p2) (cRu_a n' 1 _ _ _ (cRu_w a1 (Nat.le_succ _) (fun _ _ _ => rfl) n' _ _ q2) ?_)⟩
  refine cRu_1 (by show a ≤ b; omega) (Nat.lt_succ_self _) (okS_c (h2.2 e he).1 (rng_c (h1.2 e he).1 hs) (by rw [List.length_cons]; omega)) (okS_c (hr e he) hs (by omega)) (by show 0 ≤ dd b; omega) ?_
  have e1 : dd b % 32 = op := by omega
  unfold ckS
  dsimp only
  rw [e1, if_pos h8]
  rfl
theorem SemC_if {dd : Nat → Int} {a m x b kb k1 k2 : Nat} {p : ENV → Bool} {f1 f2 : ENV → Int} (hb : SemC dd a m (fun e => b01 (p e)) kb) (h1 : SemC dd (m + 1) x f1 k1) (h2 : SemC dd (x + 1) b f2 k2) (hm : dd m = 32 * ((x + 1 : Nat) : Int) + 1) (hx : dd x = 32 * (b : Int)) : SemC dd a b (fun e => if p e = true then f1 e else f2 e) (max kb (max k1 k2)) := by
  have a0 := hb.1.1
  have a1 := h1.1.1
  have a2 := h2.1.1
  have b0 := hb.1.2
  have b1 := h1.1.2
  have b2 := h2.1.2
  refine ⟨⟨by omega, by omega⟩, fun e he => ⟨?_, fun s hs hl => ?_⟩⟩
  · show rngV (if p e = true then f1 e else f2 e)
    split
    · exact (h1.2 e he).1
    · exact (h2.2 e he).1
  obtain ⟨n, p1, p2⟩ := (hb.2 e he).2 s hs (by omega)
  have ok0 : okS (b01 (p e) :: s) := okS_c (b01_r _) hs (by omega)
  have oks : okS s := ⟨by omega, hs⟩
  have em1 : dd m % 32 = 1 := by omega
  have em2 : (dd m / 32).toNat = x + 1 := by omega
  have ex1 : dd x % 32 = 0 := by omega
  have ex2 : (dd x / 32).toNat = b := by omega
  have st : ckS dd e (m, b01 (p e) :: s) = (if p e = true then m + 1 else x + 1, s) := by
    unfold ckS
    dsimp only
    rw [em1, em2, if_neg (by decide), if_neg (by decide), if_neg (by decide), if_pos rfl]
    show ((if b01 (p e) = 0 then x + 1 else m + 1), s) = _
    unfold b01
    by_cases z : p e = true
    · rw [if_pos z, if_pos z]; rfl
    · rw [if_neg z, if_neg z]; rfl
  by_cases z : p e = true
  · rw [if_pos z] at st
    obtain ⟨n1, q1, q2⟩ := (h1.2 e he).2 s hs (by omega)
    have s2 : ckS dd e (x, f1 e :: s) = (b, f1 e :: s) := by
      unfold ckS
      dsimp only
      rw [ex1, ex2, if_neg (by decide), if_neg (by decide), if_pos rfl]
    have ok1 : okS (f1 e :: s) := okS_c (h1.2 e he).1 hs (by omega)
    refine ⟨n + (1 + (n1 + 1)), by omega, ?_⟩
    show cRu dd e a b _ (a, s) (b, (if p e = true then f1 e else f2 e) :: s)
    rw [if_pos z]
    exact cRu_a n _ _ _ _ (cRu_w (Nat.le_refl _) (by omega) (fun _ _ _ => rfl) n _ _ p2) (cRu_a 1 _ _ _ _ (cRu_1 a0 (by show m < b; omega) ok0 oks (by show 0 ≤ dd m; omega) st) (cRu_a n1 1 _ _ _ (cRu_w (by omega) (by omega) (fun _ _ _ => rfl) n1 _ _ q2) (cRu_1 (by show a ≤ x; omega) (by show x < b; omega) ok1 ok1 (by show 0 ≤ dd x; omega) s2)))
  · rw [if_neg z] at st
    obtain ⟨n1, q1, q2⟩ := (h2.2 e he).2 s hs (by omega)
    refine ⟨n + (1 + n1), by omega, ?_⟩
    show cRu dd e a b _ (a, s) (b, (if p e = true then f1 e else f2 e) :: s)
    rw [if_neg z]
    exact cRu_a n _ _ _ _ (cRu_w (Nat.le_refl _) (by omega) (fun _ _ _ => rfl) n _ _ p2) (cRu_a 1 _ _ _ _ (cRu_1 a0 (by show m < b; omega) ok0 oks (by show 0 ≤ dd m; omega) st) (cRu_w (by omega) (Nat.le_refl _) (fun _ _ _ => rfl) n1 _ _ q2))
/-! the reference's code -/
def mSel (w : List Int × List Bool) : List Int × List Bool := match w with
  | (y :: x :: s, t :: ts) => ((if t = true then x else y) :: s, ts)
  | w => w
def mNeg (o : Int) (w : List Int × List Bool) : List Int × List Bool := match w with
  | (x :: s, ts) => ((if o = 4 then -x else if x < 0 then -x else x) :: s, ts)
  | w => w
def mAr (o : Int) (w : List Int × List Bool) : List Int × List Bool := match w with
  | (y :: x :: s, ts) => (arF (o - 6) x y :: s, ts)
  | w => w
def mCp (o : Int) (w : List Int × List Bool) : List Int × List Bool := match w with
  | (y :: x :: s, ts) => (s, cqF (o - 10) x y :: ts)
  | w => w
def mNot (w : List Int × List Bool) : List Int × List Bool := match w with
  | (s, t :: ts) => (s, (!t) :: ts)
  | w => w
def mLo (o : Int) (w : List Int × List Bool) : List Int × List Bool := match w with
  | (s, u :: t :: ts) => (s, (if o = 21 then t && u else t || u) :: ts)
  | w => w
def mS (e : ENV) (w : List Int × List Bool) (q : Int × Int) : List Int × List Bool :=
  if q.1 = 0 then (q.2 :: w.1, w.2) else if q.1 = 1 then (e.1 q.2.toNat :: w.1, w.2) else if q.1 = 2 then (e.2 (q.2 / 10).toNat (q.2 % 10).toNat :: w.1, w.2)
  else if q.1 = 3 then mSel w else if q.1 < 6 then mNeg q.1 w else if q.1 < 10 then mAr q.1 w else if q.1 < 20 then mCp q.1 w else if q.1 = 20 then mNot w else mLo q.1 w
def mRn (e : ENV) (c : oCd) (w : List Int × List Bool) : List Int × List Bool := c.foldl (mS e) w
theorem mRn_a (e : ENV) (c c' : oCd) (w : List Int × List Bool) : mRn e (c ++ c') w = mRn e c' (mRn e c w) := List.foldl_append
def SemM (c : oCd) (f : ENV → Int) : Prop := ∀ e, envK e → ∀ vs ts, mRn e c (vs, ts) = (f e :: vs, ts)
def SemB (c : oCd) (p : ENV → Bool) : Prop := ∀ e, envK e → ∀ vs ts, mRn e c (vs, ts) = (vs, p e :: ts)
/-! both are worth the same -/
/-- the code runs: operands are there, values in range -/
def stM (w : List Int × List Bool) (q : Int × Int) : Prop := (q.1 = 0 ∧ rngV q.2) ∨ (q.1 = 1 ∧ 0 ≤ q.2 ∧ q.2 ≤ 7) ∨ (q.1 = 2 ∧ 10 ≤ q.2 ∧ q.2 ≤ 94 ∧ q.2 % 10 ≤ 4) ∨ (q.1 = 3 ∧ 2 ≤ w.1.length ∧ 1 ≤ w.2.length) ∨ ((q.1 = 4 ∨ q.1 = 5) ∧ 1 ≤ w.1.length) ∨ ((6 ≤ q.1 ∧ q.1 ≤ 9) ∧ 2 ≤ w.1.length) ∨ ((10 ≤ q.1 ∧ q.1 ≤ 15) ∧ 2 ≤ w.1.length) ∨ (q.1 = 20 ∧ 1 ≤ w.2.length) ∨ ((q.1 = 21 ∨ q.1 = 22) ∧ 2 ≤ w.2.length)
def mGo (e : ENV) : oCd → List Int × List Bool → Prop
  | [], _ => True
  | q :: c, w => ((∀ x, x ∈ w.1 → rngV x) ∧ stM w q) ∧ mGo e c (mS e w q)
theorem mGo_a {e : ENV} {c' : oCd} : ∀ (c : oCd) (w : List Int × List Bool), mGo e c w → mGo e c' (mRn e c w) → mGo e (c ++ c') w := by
  intro c
  induction c with
  | nil => intro w _ h; exact h
  | cons q c ih => intro w h1 h2; exact ⟨h1.1, ih _ h1.2 h2⟩
def okC (c : oCd) : Prop := ∀ e, envK e → ∀ vs ts, (∀ x, x ∈ vs → rngV x) → mGo e c (vs, ts)
def Ex (dd : Nat → Int) (a b : Nat) (c : oCd) (k : Nat) : Prop := ∃ f, SemC dd a b f k ∧ SemM c f ∧ okC c
def Bx (dd : Nat → Int) (a b : Nat) (c : oCd) (k : Nat) : Prop := ∃ p : ENV → Bool, SemC dd a b (fun e => b01 (p e)) k ∧ SemB c p ∧ okC c
theorem Ex_w {dd dd' : Nat → Int} {a b k k' : Nat} {c : oCd} (hd : ∀ i, a ≤ i → i < b → dd' i = dd i) (hk : k ≤ k') (h : Ex dd a b c k) : Ex dd' a b c k' := by
  obtain ⟨f, h1, h2⟩ := h; exact ⟨f, SemC_w hd hk h1, h2⟩
theorem Bx_w {dd dd' : Nat → Int} {a b k k' : Nat} {c : oCd} (hd : ∀ i, a ≤ i → i < b → dd' i = dd i) (hk : k ≤ k') (h : Bx dd a b c k) : Bx dd' a b c k' := by
  obtain ⟨f, h1, h2⟩ := h; exact ⟨f, SemC_w hd hk h1, h2⟩
theorem Ex_ab {dd : Nat → Int} {a b k : Nat} {c : oCd} (h : Ex dd a b c k) : a ≤ b := by obtain ⟨f, h1, h2⟩ := h; exact h1.1.1
theorem Bx_ab {dd : Nat → Int} {a b k : Nat} {c : oCd} (h : Bx dd a b c k) : a ≤ b := by obtain ⟨f, h1, h2⟩ := h; exact h1.1.1
theorem Ex_num {dd : Nat → Int} {a : Nat} {n : Int} (h0 : 0 ≤ n) (h9 : n ≤ 9999) (hd : dd a = 32 * n + 2) : Ex dd a (a + 1) [(0, n)] 1 :=
  ⟨feF 2 n, SemC_push h0 (by decide) (by decide) hd (fun e _ => by show rngV n; unfold rngV; omega), fun e _ vs ts => rfl, fun e _ vs ts hv => ⟨⟨hv, Or.inl ⟨rfl, by show rngV n; unfold rngV; omega⟩⟩, trivial⟩⟩
theorem Ex_nam {dd : Nat → Int} {a : Nat} {n : Int} (h0 : 0 ≤ n) (h9 : n ≤ 7) (hd : dd a = 32 * n + 3) : Ex dd a (a + 1) [(1, n)] 1 :=
  ⟨feF 3 n, SemC_push h0 (by decide) (by decide) hd (fun e he => he.1 _), fun e _ vs ts => by
    show (e.1 n.toNat :: vs, ts) = (e.1 (n % 8).toNat :: vs, ts)
    rw [show n % 8 = n by omega], fun e _ vs ts hv => ⟨⟨hv, Or.inr (Or.inl ⟨rfl, h0, h9⟩)⟩, trivial⟩⟩
theorem Ex_ago {dd : Nat → Int} {a : Nat} {k n : Int} (k1 : 1 ≤ k) (k9 : k ≤ 9) (h0 : 0 ≤ n) (h9 : n ≤ 4) (hd : dd a = 32 * (8 * k + n) + 4) : Ex dd a (a + 1) [(2, 10 * k + n)] 1 :=
  ⟨feF 4 (8 * k + n), SemC_push (by omega) (by decide) (by decide) hd (fun e he => he.2 _ _), fun e _ vs ts => by
    show (e.2 ((10 * k + n) / 10).toNat ((10 * k + n) % 10).toNat :: vs, ts) = (e.2 ((8 * k + n) / 8).toNat ((8 * k + n) % 8).toNat :: vs, ts)
    rw [show (10 * k + n) / 10 = k by omega, show (10 * k + n) % 10 = n by omega, show (8 * k + n) / 8 = k by omega, show (8 * k + n) % 8 = n by omega], fun e _ vs ts hv => ⟨⟨hv, Or.inr (Or.inr (Or.inl ⟨rfl, by show 10 ≤ 10 * k + n; omega, by show 10 * k + n ≤ 94; omega, by show (10 * k + n) % 10 ≤ 4; omega⟩))⟩, trivial⟩⟩
theorem Ex_un {dd : Nat → Int} {a b k : Nat} {c : oCd} {o : Int} (h : Ex dd a b c k) (ho : o = 4 ∨ o = 5) (hd : dd b = o + 1) : Ex dd a (b + 1) (c ++ [(o, 0)]) k := by
  obtain ⟨f, h1, h2⟩ := h
  obtain ⟨h2, h3⟩ := h2
  refine ⟨_, SemC_one h1 (op := o + 1) (by omega) (by omega) hd, fun e he vs ts => ?_, fun e he vs ts hv => mGo_a _ _ (h3 e he vs ts hv) (by
    rw [h2 e he]
    exact ⟨⟨rng_c (h1.2 e he).1 hv, Or.inr (Or.inr (Or.inr (Or.inr (Or.inl ⟨ho, by show 1 ≤ vs.length + 1; omega⟩))))⟩, trivial⟩)⟩
  rw [mRn_a, h2 e he]
  rcases ho with rfl | rfl
  · rfl
  · show ((if (5 : Int) = 4 then -f e else if f e < 0 then -f e else f e) :: vs, ts) = (chF (5 + 1) (f e) :: vs, ts)
    unfold chF
    rw [if_neg (show ¬ ((5 : Int) = 4) by decide), if_neg (show ¬ ((5 + 1 : Int) = 5) by decide), if_neg (show ¬ ((5 + 1 : Int) = 7) by decide)]
    by_cases z : f e < 0
    · rw [if_pos z, if_neg (show ¬ (0 ≤ f e) by omega)]
    · rw [if_neg z, if_pos (show 0 ≤ f e by omega)]
theorem Ex_bin {dd : Nat → Int} {a m b k1 k2 : Nat} {c1 c2 : oCd} {o : Int} (h1 : Ex dd a m c1 k1) (h2 : Ex dd m b c2 k2) (h6 : 6 ≤ o) (h9 : o ≤ 9) (hd : dd b = o + 2) : Ex dd a (b + 1) (c1 ++ (c2 ++ [(o, 0)])) (max k1 (k2 + 1)) := by
  obtain ⟨f1, p1, p2, p3⟩ := h1
  obtain ⟨f2, q1, q2, q3⟩ := h2
  have ej : ∀ x y, joF (o + 2) x y = arF (o - 6) x y := fun x y => by unfold joF; rw [if_pos (by omega), show o + 2 - 8 = o - 6 by omega]
  refine ⟨_, SemC_two p1 q1 (op := o + 2) (by omega) (by omega) hd (fun e he => by rw [ej]; exact arF_r (p1.2 e he).1), fun e he vs ts => ?_, fun e he vs ts hv => mGo_a _ _ (p3 e he vs ts hv) (by
    rw [p2 e he]
    exact mGo_a _ _ (q3 e he _ _ (rng_c (p1.2 e he).1 hv)) (by
      rw [q2 e he]
      exact ⟨⟨rng_c (q1.2 e he).1 (rng_c (p1.2 e he).1 hv), Or.inr (Or.inr (Or.inr (Or.inr (Or.inr (Or.inl ⟨⟨h6, h9⟩, by show 2 ≤ vs.length + 1 + 1; omega⟩)))))⟩, trivial⟩))⟩
  rw [mRn_a, mRn_a, p2 e he, q2 e he]
  show mS e (f2 e :: f1 e :: vs, ts) (o, 0) = _
  unfold mS
  dsimp only
  rw [if_neg (by omega), if_neg (by omega), if_neg (by omega), if_neg (by omega), if_neg (by omega), if_pos (by omega), ej]
  rfl
theorem Bx_cmp {dd : Nat → Int} {a m b k1 k2 : Nat} {c1 c2 : oCd} {o : Int} (h1 : Ex dd a m c1 k1) (h2 : Ex dd m b c2 k2) (h6 : 10 ≤ o) (h9 : o ≤ 15) (hd : dd b = o + 2) : Bx dd a (b + 1) (c1 ++ (c2 ++ [(o, 0)])) (max k1 (k2 + 1)) := by
  obtain ⟨f1, p1, p2, p3⟩ := h1
  obtain ⟨f2, q1, q2, q3⟩ := h2
  have ej : ∀ x y, joF (o + 2) x y = b01 (cqF (o - 10) x y) := fun x y => by unfold joF; rw [if_neg (by omega), if_pos (by omega), show o + 2 - 12 = o - 10 by omega]
  have hs := SemC_two p1 q1 (op := o + 2) (by omega) (by omega) hd (fun e he => by rw [ej]; exact b01_r _)
  refine ⟨fun e => cqF (o - 10) (f1 e) (f2 e), ?_, fun e he vs ts => ?_, fun e he vs ts hv => mGo_a _ _ (p3 e he vs ts hv) (by
    rw [p2 e he]
    exact mGo_a _ _ (q3 e he _ _ (rng_c (p1.2 e he).1 hv)) (by
      rw [q2 e he]
      exact ⟨⟨rng_c (q1.2 e he).1 (rng_c (p1.2 e he).1 hv), Or.inr (Or.inr (Or.inr (Or.inr (Or.inr (Or.inr (Or.inl ⟨⟨h6, h9⟩, by show 2 ≤ vs.length + 1 + 1; omega⟩))))))⟩, trivial⟩))⟩
  · have e0 : (fun e => joF (o + 2) (f1 e) (f2 e)) = (fun e => b01 (cqF (o - 10) (f1 e) (f2 e))) := by funext e; exact ej _ _
    rw [e0] at hs; exact hs
  rw [mRn_a, mRn_a, p2 e he, q2 e he]
  show mS e (f2 e :: f1 e :: vs, ts) (o, 0) = _
  unfold mS
  dsimp only
  rw [if_neg (by omega), if_neg (by omega), if_neg (by omega), if_neg (by omega), if_neg (by omega), if_neg (by omega), if_pos (by omega)]
  rfl
theorem Bx_not {dd : Nat → Int} {a b k : Nat} {c : oCd} (h : Bx dd a b c k) (hd : dd b = 7) : Bx dd a (b + 1) (c ++ [(20, 0)]) k := by
  obtain ⟨p, h1, h2, h3⟩ := h
  have hs := SemC_one h1 (op := 7) (by decide) (by decide) hd
  refine ⟨fun e => !(p e), ?_, fun e he vs ts => ?_, fun e he vs ts hv => mGo_a _ _ (h3 e he vs ts hv) (by
    rw [h2 e he]
    exact ⟨⟨hv, Or.inr (Or.inr (Or.inr (Or.inr (Or.inr (Or.inr (Or.inr (Or.inl ⟨rfl, by show 1 ≤ ts.length + 1; omega⟩)))))))⟩, trivial⟩)⟩
  · have e0 : (fun e => chF 7 (b01 (p e))) = (fun e => b01 (!(p e))) := by funext e; cases p e <;> rfl
    rw [e0] at hs; exact hs
  · rw [mRn_a, h2 e he]; rfl
theorem Bx_lo {dd : Nat → Int} {a m b k1 k2 : Nat} {c1 c2 : oCd} {o : Int} (h1 : Bx dd a m c1 k1) (h2 : Bx dd m b c2 k2) (ho : o = 21 ∨ o = 22) (hd : dd b = 40 - o) : Bx dd a (b + 1) (c1 ++ (c2 ++ [(o, 0)])) (max k1 (k2 + 1)) := by
  obtain ⟨p1, s1, t1, u1⟩ := h1
  obtain ⟨p2, s2, t2, u2⟩ := h2
  have ej : ∀ x y : Bool, joF (40 - o) (b01 x) (b01 y) = b01 (if o = 21 then x && y else x || y) := by
    rcases ho with rfl | rfl <;> decide
  have hs := SemC_two s1 s2 (op := 40 - o) (by omega) (by omega) hd (fun e he => by rw [ej]; exact b01_r _)
  refine ⟨fun e => if o = 21 then p1 e && p2 e else p1 e || p2 e, ?_, fun e he vs ts => ?_, fun e he vs ts hv => mGo_a _ _ (u1 e he vs ts hv) (by
    rw [t1 e he]
    exact mGo_a _ _ (u2 e he _ _ hv) (by
      rw [t2 e he]
      exact ⟨⟨hv, Or.inr (Or.inr (Or.inr (Or.inr (Or.inr (Or.inr (Or.inr (Or.inr ⟨ho, by show 2 ≤ ts.length + 1 + 1; omega⟩)))))))⟩, trivial⟩))⟩
  · have e0 : (fun e => joF (40 - o) (b01 (p1 e)) (b01 (p2 e))) = (fun e => b01 (if o = 21 then p1 e && p2 e else p1 e || p2 e)) := by funext e; exact ej _ _
    rw [e0] at hs; exact hs
  · rw [mRn_a, mRn_a, t1 e he, t2 e he]
    rcases ho with rfl | rfl <;> rfl
theorem Ex_if {dd : Nat → Int} {a m x b kb k1 k2 : Nat} {cb c1 c2 : oCd} (hb : Bx dd a m cb kb) (h1 : Ex dd (m + 1) x c1 k1) (h2 : Ex dd (x + 1) b c2 k2) (hm : dd m = 32 * ((x + 1 : Nat) : Int) + 1) (hx : dd x = 32 * (b : Int)) : Ex dd a b (cb ++ (c1 ++ (c2 ++ [(3, 0)]))) (max kb (max k1 k2)) := by
  obtain ⟨p, s0, t0, u0⟩ := hb
  obtain ⟨f1, s1, t1, u1⟩ := h1
  obtain ⟨f2, s2, t2, u2⟩ := h2
  refine ⟨_, SemC_if s0 s1 s2 hm hx, fun e he vs ts => ?_, fun e he vs ts hv => mGo_a _ _ (u0 e he vs ts hv) (by
    rw [t0 e he]
    exact mGo_a _ _ (u1 e he _ _ hv) (by
      rw [t1 e he]
      exact mGo_a _ _ (u2 e he _ _ (rng_c (s1.2 e he).1 hv)) (by
        rw [t2 e he]
        exact ⟨⟨rng_c (s2.2 e he).1 (rng_c (s1.2 e he).1 hv), Or.inr (Or.inr (Or.inr (Or.inl ⟨rfl, by show 2 ≤ vs.length + 1 + 1; omega, by show 1 ≤ ts.length + 1; omega⟩)))⟩, trivial⟩)))⟩
  rw [mRn_a, mRn_a, mRn_a, t0 e he, t1 e he, t2 e he]
  rfl
