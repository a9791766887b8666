/-! the small machine: ints and longs are whole numbers, a reference is a cell's number -/
abbrev AV : Type := Int ⊕ (Int ⊕ Option Nat)
abbrev AH : Type := Nat × Nat × (Nat → Nat × Nat) × (Nat → Nat → AV)
abbrev CE : Type := Nat × Nat × Nat × Nat × Int × List (Int × Nat)
def w32 (z : Int) : Int := (z + 2147483648) % 4294967296 - 2147483648
def w64 (z : Int) : Int := (z + 9223372036854775808) % 18446744073709551616 - 9223372036854775808
abbrev vI (z : Int) : AV := .inl z
abbrev vL (z : Int) : AV := .inr (.inl z)
abbrev vR (k : Nat) : AV := .inr (.inr (some k))
abbrev vN : AV := .inr (.inr none)
def hN (h : AH) : Nat := h.1
def hS (h : AH) : Nat := h.2.1
def hK (h : AH) : Nat → Nat × Nat := h.2.2.1
def hV (h : AH) : Nat → Nat → AV := h.2.2.2
def upV (V : Nat → Nat → AV) (r i : Nat) (v : AV) : Nat → Nat → AV := fun a j => if a = r ∧ j = i then v else V a j
def hSet (h : AH) (r i : Nat) (v : AV) : AH := (h.1, h.2.1, h.2.2.1, upV h.2.2.2 r i v)
def hNew (h : AH) (kd len sl : Nat) (ini : Nat → AV) : AH := (h.1 + 1, h.2.1 + sl, fun a => if a = h.1 then (kd, len) else h.2.2.1 a, fun a j => if a = h.1 then ini j else h.2.2.2 a j)
def hCpy (h : AH) (src sp dst dp n : Nat) : AH := (h.1, h.2.1, h.2.2.1, fun a j => if a = dst ∧ dp ≤ j ∧ j < dp + n then h.2.2.2 src (sp + (j - dp)) else h.2.2.2 a j)
def iand (x y : Int) : Int := (BitVec.ofInt 32 x &&& BitVec.ofInt 32 y).toInt
def ior (x y : Int) : Int := (BitVec.ofInt 32 x ||| BitVec.ofInt 32 y).toInt
def ixor (x y : Int) : Int := (BitVec.ofInt 32 x ^^^ BitVec.ofInt 32 y).toInt
def land (x y : Int) : Int := (BitVec.ofInt 64 x &&& BitVec.ofInt 64 y).toInt
def lor (x y : Int) : Int := (BitVec.ofInt 64 x ||| BitVec.ofInt 64 y).toInt
def ishl (x y : Int) : Int := w32 (x * 2 ^ (y % 32).toNat)
def ishr (x y : Int) : Int := x / 2 ^ (y % 32).toNat
def iushr (x y : Int) : Int := w32 ((x % 4294967296) / 2 ^ (y % 32).toNat)
def lshl (x y : Int) : Int := w64 (x * 2 ^ (y % 64).toNat)
def lshr (x y : Int) : Int := x / 2 ^ (y % 64).toNat
def binI (b : Nat) (x y : Int) : Option Int := match b with
  | 0 => some (w32 (x + y))
  | 1 => some (w32 (x - y))
  | 2 => some (w32 (x * y))
  | 3 => some (iand x y)
  | 4 => some (ior x y)
  | 5 => some (ixor x y)
  | 6 => if y = 0 then none else some (w32 (x.tdiv y))
  | 7 => if y = 0 then none else some (x.tmod y)
  | 8 => some (ishl x y)
  | 9 => some (ishr x y)
  | 10 => some (iushr x y)
  | _ => none
def binL (b : Nat) (x y : Int) : Option Int := match b with
  | 0 => some (w64 (x + y))
  | 1 => some (w64 (x - y))
  | 2 => some (w64 (x * y))
  | 3 => if y = 0 then none else some (w64 (x.tdiv y))
  | 4 => if y = 0 then none else some (x.tmod y)
  | 5 => some (land x y)
  | 6 => some (lor x y)
  | _ => none
def shfL (b : Nat) (x y : Int) : Option Int := match b with
  | 0 => some (lshl x y)
  | 1 => some (lshr x y)
  | _ => none
def lcmp3 (x y : Int) : Int := if x > y then 1 else if x = y then 0 else -1
def cmpB (b : Nat) (x y : Int) : Bool := match b with
  | 0 => decide (x = y)
  | 1 => decide (¬ x = y)
  | 2 => decide (x < y)
  | 3 => decide (y ≤ x)
  | 4 => decide (y < x)
  | _ => decide (x ≤ y)
section MACH
variable {α : Type}
def pI (bad : α) (st : List AV) (k : Int → List AV → α) : α := match st with
  | .inl x :: st => k x st
  | _ => bad
def pL (bad : α) (st : List AV) (k : Int → List AV → α) : α := match st with
  | .inr (.inl x) :: st => k x st
  | _ => bad
def pR (bad : α) (st : List AV) (k : Nat → List AV → α) : α := match st with
  | .inr (.inr (some x)) :: st => k x st
  | _ => bad
def pV (bad : α) (st : List AV) (k : AV → List AV → α) : α := match st with
  | x :: st => k x st
  | _ => bad
def oI (bad : α) (o : Option Int) (k : Int → α) : α := match o with
  | some x => k x
  | none => bad
def vIo (bad : α) (v : AV) (k : Int → α) : α := match v with
  | .inl x => k x
  | _ => bad
def vLo (bad : α) (v : AV) (k : Int → α) : α := match v with
  | .inr (.inl x) => k x
  | _ => bad
def vOo (bad : α) (v : AV) (k : Option Nat → α) : α := match v with
  | .inr (.inr x) => k x
  | _ => bad
def lI (bad : α) (ls : List (Option AV)) (i : Nat) (k : Int → α) : α := match ls[i]? with
  | some (some (.inl x)) => k x
  | _ => bad
def lL (bad : α) (ls : List (Option AV)) (i : Nat) (k : Int → α) : α := match ls[i]? with
  | some (some (.inr (.inl x))) => k x
  | _ => bad
def lR (bad : α) (ls : List (Option AV)) (i : Nat) (k : Nat → α) : α := match ls[i]? with
  | some (some (.inr (.inr (some x)))) => k x
  | _ => bad
end MACH
/-- the place ahead of i holds no long: then a store at i kills nothing -/
def okSt (ls : List (Option AV)) (i : Nat) : Bool := match i with
  | 0 => decide (0 < ls.length)
  | j + 1 => match ls[j]? with
    | some (some (.inr (.inl _))) => false
    | _ => decide (j + 1 < ls.length)
def catA (v : AV) : Nat := match v with
  | .inr (.inl _) => 2
  | _ => 1
def stW : List AV → Nat
  | [] => 0
  | v :: st => catA v + stW st
def swF (x : Int) (d : Nat) : List (Int × Nat) → Nat
  | [] => d
  | (k, t) :: r => if x = k then t else swF x d r
/-- what a new array holds -/
def dfA (b : Nat) : AV := if b = 1 then vL 0 else vI 0
def inR (i : Int) (n : Nat) : Bool := decide (0 ≤ i ∧ i < n)
def is01 (x : Int) : Bool := decide (x = 0 ∨ x = 1)
def okF (ty : Int) (v : AV) : Bool := match v with
  | .inl x => decide (ty = 0) || (decide (ty = 2) && is01 x)
  | .inr (.inl _) => decide (ty = 1)
  | .inr (.inr _) => decide (ty = 3)
/-- the letters of the words -/
def wdB : List Int := [112, 97, 99, 101, 115, 32, 115, 119, 105, 110, 103, 115, 32, 104, 97, 110, 100, 32, 104, 111, 108, 100, 115, 32, 108, 97, 115, 116, 115, 32, 111, 114, 100, 101, 114, 32, 109, 111, 118, 101, 32, 114, 117, 110, 32, 97, 105, 109, 32, 104, 111, 111, 107, 32, 108, 97, 110, 100, 32, 97, 119, 97, 121, 32, 115, 112, 101, 101, 100, 32, 112, 97, 99, 101, 32, 119, 105, 110, 100, 32, 103, 111, 97, 108, 32, 114, 111, 112, 101, 32, 119, 101, 105, 103, 104, 116, 32, 121, 97, 114, 100, 32, 97, 116, 32, 100, 117, 101, 32, 109, 101, 110, 32, 105, 110, 32, 111, 110, 32, 111, 117, 116, 32, 105, 102, 32, 116, 104, 101, 110, 32, 101, 108, 115, 101, 32, 101, 110, 100, 32, 111, 114, 32, 97, 110, 100, 32, 110, 111, 116, 32, 115, 105, 122, 101, 32, 97, 103, 111, 32]
section MACH2
variable {α : Type}
def stepK (bad : α) (go : Nat → List (Option AV) → List AV → AH → α) (ret : Option AV → AH → α) (call : Nat → List AV → AH → (Option AV → AH → α) → α) (dfO : Nat → Nat → AV) (nF : Nat → Nat) (ce : CE) (ls : List (Option AV)) (st : List AV) (h : AH) : α :=
  match ce with
  | (op, nx, a, b, k, sw) => match op with
    | 0 => go nx ls (.inl k :: st) h
    | 1 => go nx ls (.inr (.inl k) :: st) h
    | 2 => lI bad ls a fun x => go nx ls (.inl x :: st) h
    | 3 => lL bad ls a fun x => go nx ls (.inr (.inl x) :: st) h
    | 4 => lR bad ls a fun x => go nx ls (.inr (.inr (some x)) :: st) h
    | 5 => pI bad st fun x st => if okSt ls a = true then go nx (ls.set a (some (.inl x))) st h else bad
    | 6 => pL bad st fun x st => if okSt ls a = true ∧ a + 1 < ls.length then go nx ((ls.set a (some (.inr (.inl x)))).set (a + 1) none) st h else bad
    | 7 => pR bad st fun x st => if okSt ls a = true then go nx (ls.set a (some (.inr (.inr (some x))))) st h else bad
    | 8 => lI bad ls a fun x => if okSt ls a = true then go nx (ls.set a (some (.inl (w32 (x + k))))) st h else bad
    | 9 => pI bad st fun y st => pI bad st fun x st => oI bad (binI b x y) fun z => go nx ls (.inl z :: st) h
    | 10 => pI bad st fun x st => go nx ls (.inl (w32 (-x)) :: st) h
    | 11 => pL bad st fun y st => pL bad st fun x st => oI bad (binL b x y) fun z => go nx ls (.inr (.inl z) :: st) h
    | 12 => pL bad st fun x st => go nx ls (.inr (.inl (w64 (-x))) :: st) h
    | 13 => pI bad st fun y st => pL bad st fun x st => oI bad (shfL b x y) fun z => go nx ls (.inr (.inl z) :: st) h
    | 14 => pI bad st fun x st => go nx ls (.inr (.inl x) :: st) h
    | 15 => pL bad st fun x st => go nx ls (.inl (w32 x) :: st) h
    | 16 => pL bad st fun y st => pL bad st fun x st => go nx ls (.inl (lcmp3 x y) :: st) h
    | 17 => pV bad st fun v st => if catA v = 1 then go nx ls (v :: v :: st) h else bad
    | 18 => pV bad st fun v st => if catA v = 2 then go nx ls (v :: v :: st) h else pV bad st fun w st => if catA w = 1 then go nx ls (v :: w :: v :: w :: st) h else bad
    | 19 => pV bad st fun v st => if catA v = 1 then go nx ls st h else bad
    | 20 => pI bad st fun x st => if cmpB b x 0 = true then go a ls st h else go nx ls st h
    | 21 => pI bad st fun y st => pI bad st fun x st => if cmpB b x y = true then go a ls st h else go nx ls st h
    | 22 => go a ls st h
    | 23 => pR bad st fun r st => if (hK h r).1 = a then go nx ls (hV h r b :: st) h else bad
    | 24 => pV bad st fun v st => pR bad st fun r st => if (hK h r).1 = a ∧ okF k v = true then go nx ls st (hSet h r b v) else bad
    | 25 => go nx ls (.inr (.inr (some (1000000 + a))) :: st) h
    | 26 => pI bad st fun i st => pR bad st fun r st => if ((hK h r).1 = 11 ∨ (hK h r).1 = 20) ∧ inR i (hK h r).2 = true then vIo bad (hV h r i.toNat) fun x => go nx ls (.inl x :: st) h else bad
    | 27 => pI bad st fun i st => pR bad st fun r st => if (hK h r).1 = 12 ∧ inR i (hK h r).2 = true then vLo bad (hV h r i.toNat) fun x => go nx ls (.inr (.inl x) :: st) h else bad
    | 28 => pI bad st fun i st => pR bad st fun r st => if (hK h r).1 = 13 ∧ inR i (hK h r).2 = true then vIo bad (hV h r i.toNat) fun x => go nx ls (.inl x :: st) h else bad
    | 29 => pI bad st fun i st => pR bad st fun r st => if (hK h r).1 = 14 ∧ inR i (hK h r).2 = true then vOo bad (hV h r i.toNat) fun x => go nx ls (.inr (.inr x) :: st) h else bad
    | 30 => pI bad st fun x st => pI bad st fun i st => pR bad st fun r st => if (hK h r).1 = 11 ∧ inR i (hK h r).2 = true then go nx ls st (hSet h r i.toNat (.inl x)) else bad
    | 31 => pL bad st fun x st => pI bad st fun i st => pR bad st fun r st => if (hK h r).1 = 12 ∧ inR i (hK h r).2 = true then go nx ls st (hSet h r i.toNat (.inr (.inl x))) else bad
    | 32 => pI bad st fun x st => pI bad st fun i st => pR bad st fun r st => if (hK h r).1 = 13 ∧ inR i (hK h r).2 = true ∧ is01 x = true then go nx ls st (hSet h r i.toNat (.inl x)) else bad
    | 33 => pR bad st fun x st => pI bad st fun i st => pR bad st fun r st => if (hK h r).1 = 14 ∧ inR i (hK h r).2 = true ∧ (hK h x).1 = 6 then go nx ls st (hSet h r i.toNat (.inr (.inr (some x)))) else bad
    | 34 => pR bad st fun r st => if (hK h r).1 = 11 ∨ (hK h r).1 = 20 then go nx ls (.inl (hK h r).2 :: st) h else bad
    | 35 => pI bad st fun n st => if 0 ≤ n ∧ n ≤ 20000 ∧ hN h < 5000 then go nx ls (.inr (.inr (some (hN h))) :: st) (hNew h (11 + b) n.toNat n.toNat (fun _ => dfA b)) else bad
    | 36 => pI bad st fun n st => if 0 ≤ n ∧ n ≤ 20000 ∧ hN h < 5000 then go nx ls (.inr (.inr (some (hN h))) :: st) (hNew h 14 n.toNat n.toNat (fun _ => vN)) else bad
    | 37 => if hN h < 5000 then go nx ls (.inr (.inr (some (hN h))) :: st) (hNew h a 0 (nF a) (dfO a)) else bad
    | 38 => if b ≤ st.length ∧ stW (st.drop b) ≤ 8 then call a (st.take b).reverse h (fun r h => go nx ls (r.toList ++ st.drop b) h) else bad
    | 39 => match st with
      | [] => ret none h
      | _ => bad
    | 40 => match st with
      | [.inl x] => if a = 0 ∨ is01 x = true then ret (some (.inl x)) h else bad
      | _ => bad
    | 41 => match st with
      | [.inr (.inl x)] => ret (some (.inr (.inl x))) h
      | _ => bad
    | 42 => match st with
      | [.inr (.inr (some x))] => ret (some (.inr (.inr (some x)))) h
      | _ => bad
    | 43 => pI bad st fun x st => go (swF x a sw) ls st h
    | 45 => pI bad st fun n st => pI bad st fun dp st => pR bad st fun q st => pI bad st fun sp st => pR bad st fun r st =>
        if ((hK h r).1 = 11 ∨ (hK h r).1 = 12) ∧ (hK h q).1 = (hK h r).1 ∧ 0 ≤ n ∧ 0 ≤ dp ∧ 0 ≤ sp ∧ sp + n ≤ (hK h r).2 ∧ dp + n ≤ (hK h q).2 ∧ stW st ≤ 8 then go nx ls st (hCpy h r sp.toNat q dp.toNat n.toNat) else bad
    | 46 => if b ≤ st.length ∧ stW (st.drop b) ≤ 8 then pR bad (st.take b).reverse fun q _ => if (hK h q).1 = k.toNat then call a (st.take b).reverse h (fun r h => go nx ls (r.toList ++ st.drop b) h) else bad else bad
    | 47 => if b ≤ st.length ∧ stW (st.drop b) ≤ 8 then pR bad (st.take b).reverse fun _ _ => call a (st.take b).reverse h (fun r h => go nx ls (r.toList ++ st.drop b) h) else bad
    | 48 => pR bad st fun _ st => if stW st ≤ 8 then go nx ls st h else bad
    | 49 => pI bad st fun y st => pI bad st fun x st => if stW st ≤ 8 then go nx ls (.inl (max x y) :: st) h else bad
    | 50 => pI bad st fun y st => pI bad st fun x st => if stW st ≤ 8 then go nx ls (.inl (min x y) :: st) h else bad
    | 51 => pI bad st fun x st => if stW st ≤ 8 then go nx ls (.inl (w32 (if 0 ≤ x then x else -x)) :: st) h else bad
    | 52 => go nx ls (.inr (.inr (some 1000004)) :: st) h
    | 53 => pR bad st fun q st => if q = 1000004 ∧ stW st ≤ 8 then go nx ls (.inl 160 :: st) h else bad
    | 54 => pI bad st fun i st => pR bad st fun q st => if q = 1000004 ∧ inR i 160 = true ∧ stW st ≤ 8 then go nx ls (.inl (wdB.getD i.toNat 0) :: st) h else bad
    | 55 => pL bad st fun _ st => go nx ls st h
    | _ => bad
end MACH2
/-- the locals of a method at its entry -/
def entA (v : AV) : List (Option AV) := match v with
  | .inr (.inl _) => [some v, none]
  | _ => [some v]
def entL (n : Nat) (as : List AV) : List (Option AV) := as.flatMap entA ++ List.replicate (n - (as.flatMap entA).length) none
