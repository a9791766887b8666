/-! the fresh object -/
def hC0 : AH := (0, 0, fun _ => (99, 0), fun _ _ => vI 0)
def hC1 : AH := hNew hC0 9 0 (nF 9) (dfO 9)
abbrev CT : Type := Nat × Nat × List AV × AV
def T0 : List CT := [(9, 0, [vR 1, vR 11, vR 21, vR 46, vR 58, vR 52, vR 55, vR 61, vR 65, vR 70, vR 75, vI 0, vI 0], vI 0),
  (8, 0, [vR 2, vI 2, vI 0, vI (-1), vR 5, vI 0, vR 6, vI 0, vI 0, vR 7, vI 0, vR 8, vI 0, vR 9, vR 10], vI 0),
  (0, 0, [vR 3, vI 0, vI 0, vI 0, vI 0, vI 5, vI 0, vI 0, vI 0, vI 0, vI 59, vI (-1), vI 0, vI 0, vI 0], vI 0),
  (1, 0, [vR 4, vI 1260], vI 0),
  (12, 1260, [], vL 0),
  (11, 40, [], vI 0),
  (11, 390, [], vI 0),
  (11, 8, [], vI 0),
  (11, 16, [], vI 0),
  (11, 20, [], vI 0),
  (11, 20, [], vI 0),
  (8, 0, [vR 12, vI 2, vI 0, vI (-1), vR 15, vI 0, vR 16, vI 0, vI 0, vR 17, vI 0, vR 18, vI 0, vR 19, vR 20], vI 0),
  (0, 0, [vR 13, vI 0, vI 0, vI 0, vI 0, vI 5, vI 0, vI 0, vI 0, vI 0, vI 59, vI (-1), vI 0, vI 0, vI 0], vI 0),
  (1, 0, [vR 14, vI 1260], vI 0),
  (12, 1260, [], vL 0),
  (11, 40, [], vI 0),
  (11, 390, [], vI 0),
  (11, 8, [], vI 0),
  (11, 16, [], vI 0),
  (11, 20, [], vI 0),
  (11, 20, [], vI 0),
  (14, 4, [vR 22, vR 28, vR 34, vR 40], vN),
  (6, 0, [vR 23, vR 24, vR 25, vR 26, vR 27, vI 0, vI 0], vI 0),
  (11, 300, [], vI 0),
  (11, 5, [vI (-1), vI (-1), vI (-1), vI (-1), vI (-1)], vI 0),
  (11, 5, [vI (-1), vI (-1), vI (-1), vI (-1), vI (-1)], vI 0),
  (11, 24, [], vI 0),
  (11, 120, [], vI 0),
  (6, 0, [vR 29, vR 30, vR 31, vR 32, vR 33, vI 0, vI 0], vI 0),
  (11, 300, [], vI 0),
  (11, 5, [vI (-1), vI (-1), vI (-1), vI (-1), vI (-1)], vI 0),
  (11, 5, [vI (-1), vI (-1), vI (-1), vI (-1), vI (-1)], vI 0),
  (11, 24, [], vI 0),
  (11, 120, [], vI 0),
  (6, 0, [vR 35, vR 36, vR 37, vR 38, vR 39, vI 0, vI 0], vI 0),
  (11, 300, [], vI 0),
  (11, 5, [vI (-1), vI (-1), vI (-1), vI (-1), vI (-1)], vI 0),
  (11, 5, [vI (-1), vI (-1), vI (-1), vI (-1), vI (-1)], vI 0),
  (11, 24, [], vI 0),
  (11, 120, [], vI 0),
  (6, 0, [vR 41, vR 42, vR 43, vR 44, vR 45, vI 0, vI 0], vI 0),
  (11, 300, [], vI 0),
  (11, 5, [vI (-1), vI (-1), vI (-1), vI (-1), vI (-1)], vI 0),
  (11, 5, [vI (-1), vI (-1), vI (-1), vI (-1), vI (-1)], vI 0),
  (11, 24, [], vI 0),
  (11, 120, [], vI 0),
  (6, 0, [vR 47, vR 48, vR 49, vR 50, vR 51, vI 0, vI 0], vI 0),
  (11, 300, [], vI 0),
  (11, 5, [vI (-1), vI (-1), vI (-1), vI (-1), vI (-1)], vI 0),
  (11, 5, [vI (-1), vI (-1), vI (-1), vI (-1), vI (-1)], vI 0),
  (11, 24, [], vI 0),
  (11, 120, [], vI 0),
  (0, 0, [vR 53, vI 0, vI 0, vI 0, vI 0, vI 5, vI 0, vI 0, vI 0, vI 0, vI 59, vI (-1), vI 0, vI 0, vI 0], vI 0),
  (1, 0, [vR 54, vI 32], vI 0),
  (12, 32, [], vL 0),
  (0, 0, [vR 56, vI 0, vI 0, vI 0, vI 0, vI 5, vI 0, vI 0, vI 0, vI 0, vI 59, vI (-1), vI 0, vI 0, vI 0], vI 0),
  (1, 0, [vR 57, vI 32], vI 0),
  (12, 32, [], vL 0),
  (2, 0, [vR 46, vR 46, vR 59, vR 60, vR 53, vI 0, vI 0], vI 0),
  (11, 8, [], vI 0),
  (11, 64, [], vI 0),
  (5, 0, [vR 62, vR 63, vR 64, vI 0, vI 0, vI 0, vI 0], vI 0),
  (11, 104, [], vI 0),
  (11, 7, [], vI 0),
  (11, 7, [], vI 0),
  (3, 0, [vR 66, vR 67, vI 0, vR 68, vR 69], vI 0),
  (11, 8, [], vI 0),
  (11, 8, [], vI 0),
  (11, 256, [], vI 0),
  (11, 8, [], vI 0),
  (4, 0, [vR 71, vR 46, vI 0, vI 0, vI 0, vI 0, vI 0, vI (-1)], vI 0),
  (7, 0, [vR 72, vR 73, vR 74, vI 0, vI 0], vI 0),
  (11, 300, [], vI 0),
  (11, 300, [], vI 0),
  (11, 300, [], vI 0),
  (11, 300, [], vI 0),
  (10, 0, [vR 77, vR 78, vR 79, vR 80, vI 0, vI (-1), vI (-1), vI 0, vI 0, vI 0, vI 0, vL 0, vI 0, vI 0, vI 0, vR 81, vI 0, vI 0, vI 0, vI 0, vR 82, vI 0, vI 0, vR 83, vR 84, vI 0, vR 85, vI 0, vI 0, vR 86, vR 87, vR 88, vR 89, vR 90, vI 0, vR 91, vR 92], vI 0),
  (11, 9834, [vI 0, vI 2, vI 59, vI 0, vI (-1), vI 0, vI 0, vI 0, vI 0, vI 0, vI 0, vI 0, vI 5, vI 0, vI 0, vI 0, vI 0, vI (-1)], vI 0),
  (11, 9834, [vI 0, vI 2, vI 59, vI 0, vI (-1), vI 0, vI 0, vI 0, vI 0, vI 0, vI 0, vI 0, vI 5, vI 0, vI 0, vI 0, vI 0, vI (-1)], vI 0),
  (11, 3012, [], vI 0),
  (11, 300, [], vI 0),
  (11, 160, [], vI 0),
  (11, 8, [], vI 0),
  (12, 330, [], vL 0),
  (13, 330, [], vI 0),
  (11, 18, [], vI 0),
  (11, 1200, [], vI 0),
  (11, 8, [], vI 0),
  (11, 8, [], vI 0),
  (11, 8, [], vI 0),
  (11, 8, [], vI 0),
  (11, 8, [], vI 0),
  (11, 8, [], vI 0)]
def K0 (k : Nat) : Nat × Nat := match T0[k]? with
  | some c => (c.1, c.2.1)
  | none => (99, 0)
def V0 (k i : Nat) : AV := match T0[k]? with
  | some c => c.2.2.1.getD i c.2.2.2
  | none => vI 0
def sz0 (k : Nat) : Nat := if (K0 k).1 < 11 then nF (K0 k).1 else (K0 k).2
def ckT (h : AH) (a b : Nat) : Bool := ((List.range b).drop a).all (fun k => decide (hK h k = K0 k) && (List.range (sz0 k)).all (fun i => decide (hV h k i = V0 k i)))
def runC : RT := xec 1000 20 117 0 (entL (mL 117) [vR 0]) [] hC1
theorem ctor_n : (match runC with
  | some (none, h1) => decide (hN h1 = 76 ∧ hS h1 = 7694)
  | _ => false) = true := by decide +kernel
theorem ctor_0 : (match runC with
  | some (none, h1) => ckT h1 0 4
  | _ => false) = true := by decide +kernel
theorem ctor_1 : (match runC with
  | some (none, h1) => ckT h1 4 5
  | _ => false) = true := by decide +kernel
theorem ctor_2 : (match runC with
  | some (none, h1) => ckT h1 5 14
  | _ => false) = true := by decide +kernel
theorem ctor_3 : (match runC with
  | some (none, h1) => ckT h1 14 15
  | _ => false) = true := by decide +kernel
theorem ctor_4 : (match runC with
  | some (none, h1) => ckT h1 15 23
  | _ => false) = true := by decide +kernel
theorem ctor_5 : (match runC with
  | some (none, h1) => ckT h1 23 30
  | _ => false) = true := by decide +kernel
theorem ctor_6 : (match runC with
  | some (none, h1) => ckT h1 30 36
  | _ => false) = true := by decide +kernel
theorem ctor_7 : (match runC with
  | some (none, h1) => ckT h1 36 42
  | _ => false) = true := by decide +kernel
theorem ctor_8 : (match runC with
  | some (none, h1) => ckT h1 42 48
  | _ => false) = true := by decide +kernel
theorem ctor_9 : (match runC with
  | some (none, h1) => ckT h1 48 60
  | _ => false) = true := by decide +kernel
theorem ctor_10 : (match runC with
  | some (none, h1) => ckT h1 60 72
  | _ => false) = true := by decide +kernel
theorem ctor_11 : (match runC with
  | some (none, h1) => ckT h1 72 74
  | _ => false) = true := by decide +kernel
theorem ctor_12 : (match runC with
  | some (none, h1) => ckT h1 74 76
  | _ => false) = true := by decide +kernel
