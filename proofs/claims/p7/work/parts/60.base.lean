/-! what is known of the heap between calls -/
def jp77 : List HV := [.inr (.inl (false, 0, 8)), .inr (.inl (false, 0, 99)), .inr (.inl (false, (-2147483648), 2147483647)), .inr (.inl (false, 0, 4)), .inr (.inl (false, (-1), 3)), .inr (.inl (false, 0, 30)), .inr (.inl (false, 0, 8)), .inr (.inl (false, 0, 20000)), .inr (.inl (false, (-2147483648), 2147483647)), .inr (.inl (false, (-2147483648), 2147483647)), .inr (.inl (false, (-2147483648), 2147483647)), .inr (.inl (false, (-2147483648), 2147483647)), .inr (.inl (false, 1, 24)), .inr (.inl (false, 0, 999)), .inr (.inl (false, (-9), 9)), .inr (.inl (false, 0, 9990)), .inr (.inl (false, 0, 10300)), .inr (.inl (false, (-1), 7)), .inr (.inl (false, 0, 4)), .inr (.inl (false, 0, 0))]
def jp78 : List HV := [.inr (.inl (false, 0, 8)), .inr (.inl (false, 0, 99)), .inr (.inl (false, (-2147483648), 2147483647)), .inr (.inl (false, 0, 4)), .inr (.inl (false, (-1), 3)), .inr (.inl (false, 0, 30)), .inr (.inl (false, 0, 8)), .inr (.inl (false, 0, 20000)), .inr (.inl (false, (-2147483648), 2147483647)), .inr (.inl (false, (-2147483648), 2147483647)), .inr (.inl (false, (-2147483648), 2147483647)), .inr (.inl (false, (-2147483648), 2147483647)), .inr (.inl (false, 1, 24)), .inr (.inl (false, 0, 999)), .inr (.inl (false, (-9), 9)), .inr (.inl (false, 0, 9990)), .inr (.inl (false, 0, 9999)), .inr (.inl (false, (-1), 7)), .inr (.inl (false, 0, 4)), .inr (.inl (false, 0, 0))]
def jrA : List RG := [(20, 68, 1, [(false, 0, 999)]), (68, 84, 1, [(false, 0, 10)]), (84, 474, 13, [(false, 0, 9990), (false, 0, 9999), (false, (-1), 7), (false, (-2147483648), 2147483647), (false, 0, 20000), (false, (-2147483648), 2147483647), (false, (-2147483648), 2147483647), (false, (-2147483648), 2147483647), (false, (-2147483648), 2147483647), (false, (-2147483648), 2147483647), (false, 0, 24), (false, 0, 999), (false, (-9), 9)]), (474, 602, 1, [(false, 0, 9999)]), (602, 9818, 1, [(false, (-2147483648), 2147483647)]), (9818, 9834, 1, [(false, 0, 9999)])]
def jb0 : List (Option SC) := [some (9, 0, [.inr (.inr [1]), .inr (.inr [11]), .inr (.inr [21]), .inr (.inr [46]), .inr (.inr [58]), .inr (.inr [52]), .inr (.inr [55]), .inr (.inr [61]), .inr (.inr [65]), .inr (.inr [70]), .inr (.inr [75]), .inr (.inl (false, 0, 300)), .inr (.inl (false, 0, 1))], []),
  some (8, 0, [.inr (.inr [2]), .inr (.inl (false, 0, 99)), .inr (.inl (false, 0, 4)), .inr (.inl (false, (-1), 3)), .inr (.inr [5]), .inr (.inl (false, 0, 8)), .inr (.inr [6]), .inr (.inl (false, 0, 29)), .inr (.inl (false, 0, 30)), .inr (.inr [7]), .inr (.inl (false, 0, 8)), .inr (.inr [8]), .inr (.inl (false, 0, 4)), .inr (.inr [9]), .inr (.inr [10])], []),
  some (0, 0, [.inr (.inr [3]), .inr (.inl (false, 0, 600)), .inr (.inl (false, (-9), 9)), .inr (.inl (false, (-9999), 9999)), .inr (.inl (false, (-99), 99)), .inr (.inl (false, 0, 24)), .inr (.inl (false, 0, 999)), .inr (.inl (false, 0, 9)), .inr (.inl (false, 0, 9990)), .inr (.inl (false, (-2147483648), 2147483647)), .inr (.inl (false, 0, 30252)), .inr (.inl (false, (-1), 7)), .inr (.inl (false, 0, 255)), .inr (.inl (false, 0, 20)), .inr (.inl (false, 0, 0))], []),
  some (1, 0, [.inr (.inr [4]), .inr (.inl (false, 1260, 1260))], []),
  some (12, 1260, [], [(0, 1260, 1, [(true, (-9223372036854775808), 9223372036854775807)])]),
  some (11, 40, [], [(0, 40, 1, [(false, 0, 999)])]),
  some (11, 390, [], [(0, 390, 13, [(false, 0, 600), (false, (-9), 9), (false, (-9999), 9999), (false, (-99), 99), (false, 0, 24), (false, 0, 999), (false, 0, 9), (false, 0, 9990), (false, (-2147483648), 2147483647), (false, 0, 30252), (false, (-1), 7), (false, 0, 255), (false, 0, 20)])]),
  some (11, 8, [], [(0, 8, 1, [(false, 0, 10)])]),
  some (11, 16, [], [(0, 16, 1, [(false, 0, 9999)])]),
  some (11, 20, [], [(0, 20, 1, [(false, 0, 7)])]),
  some (11, 20, [], [(0, 20, 1, [(false, (-2147483648), 2147483647)])]),
  some (8, 0, [.inr (.inr [12]), .inr (.inl (false, 0, 99)), .inr (.inl (false, 0, 4)), .inr (.inl (false, (-1), 3)), .inr (.inr [15]), .inr (.inl (false, 0, 8)), .inr (.inr [16]), .inr (.inl (false, 0, 29)), .inr (.inl (false, 0, 30)), .inr (.inr [17]), .inr (.inl (false, 0, 8)), .inr (.inr [18]), .inr (.inl (false, 0, 4)), .inr (.inr [19]), .inr (.inr [20])], []),
  some (0, 0, [.inr (.inr [13]), .inr (.inl (false, 0, 600)), .inr (.inl (false, (-9), 9)), .inr (.inl (false, (-9999), 9999)), .inr (.inl (false, (-99), 99)), .inr (.inl (false, 0, 24)), .inr (.inl (false, 0, 999)), .inr (.inl (false, 0, 9)), .inr (.inl (false, 0, 9990)), .inr (.inl (false, (-2147483648), 2147483647)), .inr (.inl (false, 0, 30252)), .inr (.inl (false, (-1), 7)), .inr (.inl (false, 0, 255)), .inr (.inl (false, 0, 20)), .inr (.inl (false, 0, 0))], []),
  some (1, 0, [.inr (.inr [14]), .inr (.inl (false, 1260, 1260))], []),
  some (12, 1260, [], [(0, 1260, 1, [(true, (-9223372036854775808), 9223372036854775807)])]),
  some (11, 40, [], [(0, 40, 1, [(false, 0, 999)])]),
  some (11, 390, [], [(0, 390, 13, [(false, 0, 600), (false, (-9), 9), (false, (-9999), 9999), (false, (-99), 99), (false, 0, 24), (false, 0, 999), (false, 0, 9), (false, 0, 9990), (false, (-2147483648), 2147483647), (false, 0, 30252), (false, (-1), 7), (false, 0, 255), (false, 0, 20)])]),
  some (11, 8, [], [(0, 8, 1, [(false, 0, 10)])]),
  some (11, 16, [], [(0, 16, 1, [(false, 0, 9999)])])]
def jb1 : List (Option SC) := [some (11, 20, [], [(0, 20, 1, [(false, 0, 7)])]),
  some (11, 20, [], [(0, 20, 1, [(false, (-2147483648), 2147483647)])]),
  some (14, 4, [.inr (.inr [22]), .inr (.inr [28]), .inr (.inr [34]), .inr (.inr [40])], []),
  some (6, 0, [.inr (.inr [23]), .inr (.inr [24]), .inr (.inr [25]), .inr (.inr [26]), .inr (.inr [27]), .inr (.inl (false, 0, 300)), .inr (.inl (false, 0, 24))], []),
  some (11, 300, [], [(0, 300, 1, [(false, (-2147483648), 2147483647)])]),
  some (11, 5, [], [(0, 5, 1, [(false, (-1), 300)])]),
  some (11, 5, [], [(0, 5, 1, [(false, (-1), 300)])]),
  some (11, 24, [], [(0, 24, 1, [(false, 0, 16)])]),
  some (11, 120, [], [(0, 120, 1, [(false, (-1), 9999)])]),
  some (6, 0, [.inr (.inr [29]), .inr (.inr [30]), .inr (.inr [31]), .inr (.inr [32]), .inr (.inr [33]), .inr (.inl (false, 0, 300)), .inr (.inl (false, 0, 24))], []),
  some (11, 300, [], [(0, 300, 1, [(false, (-2147483648), 2147483647)])]),
  some (11, 5, [], [(0, 5, 1, [(false, (-1), 300)])]),
  some (11, 5, [], [(0, 5, 1, [(false, (-1), 300)])]),
  some (11, 24, [], [(0, 24, 1, [(false, 0, 16)])]),
  some (11, 120, [], [(0, 120, 1, [(false, (-1), 9999)])]),
  some (6, 0, [.inr (.inr [35]), .inr (.inr [36]), .inr (.inr [37]), .inr (.inr [38]), .inr (.inr [39]), .inr (.inl (false, 0, 300)), .inr (.inl (false, 0, 24))], []),
  some (11, 300, [], [(0, 300, 1, [(false, (-2147483648), 2147483647)])]),
  some (11, 5, [], [(0, 5, 1, [(false, (-1), 300)])]),
  some (11, 5, [], [(0, 5, 1, [(false, (-1), 300)])])]
def jb2 : List (Option SC) := [some (11, 24, [], [(0, 24, 1, [(false, 0, 16)])]),
  some (11, 120, [], [(0, 120, 1, [(false, (-1), 9999)])]),
  some (6, 0, [.inr (.inr [41]), .inr (.inr [42]), .inr (.inr [43]), .inr (.inr [44]), .inr (.inr [45]), .inr (.inl (false, 0, 300)), .inr (.inl (false, 0, 24))], []),
  some (11, 300, [], [(0, 300, 1, [(false, (-2147483648), 2147483647)])]),
  some (11, 5, [], [(0, 5, 1, [(false, (-1), 300)])]),
  some (11, 5, [], [(0, 5, 1, [(false, (-1), 300)])]),
  some (11, 24, [], [(0, 24, 1, [(false, 0, 16)])]),
  some (11, 120, [], [(0, 120, 1, [(false, (-1), 9999)])]),
  some (6, 0, [.inr (.inr [47]), .inr (.inr [48]), .inr (.inr [49]), .inr (.inr [50]), .inr (.inr [51]), .inr (.inl (false, 0, 300)), .inr (.inl (false, 0, 24))], []),
  some (11, 300, [], [(0, 300, 1, [(false, (-2147483648), 2147483647)])]),
  some (11, 5, [], [(0, 5, 1, [(false, (-1), 300)])]),
  some (11, 5, [], [(0, 5, 1, [(false, (-1), 300)])]),
  some (11, 24, [], [(0, 24, 1, [(false, 0, 16)])]),
  some (11, 120, [], [(0, 120, 1, [(false, (-1), 9999)])]),
  some (0, 0, [.inr (.inr [53]), .inr (.inl (false, 0, 600)), .inr (.inl (false, (-9), 9)), .inr (.inl (false, (-9999), 9999)), .inr (.inl (false, (-99), 99)), .inr (.inl (false, 0, 24)), .inr (.inl (false, 0, 999)), .inr (.inl (false, 0, 9)), .inr (.inl (false, 0, 9990)), .inr (.inl (false, (-2147483648), 2147483647)), .inr (.inl (false, 0, 30252)), .inr (.inl (false, (-1), 7)), .inr (.inl (false, 0, 255)), .inr (.inl (false, 0, 20)), .inr (.inl (false, 0, 1))], []),
  some (1, 0, [.inr (.inr [54]), .inr (.inl (false, 32, 32))], []),
  some (12, 32, [], [(0, 32, 1, [(true, (-9223372036854775808), 9223372036854775807)])]),
  some (0, 0, [.inr (.inr [56]), .inr (.inl (false, 0, 600)), .inr (.inl (false, (-9), 9)), .inr (.inl (false, (-9999), 9999)), .inr (.inl (false, (-99), 99)), .inr (.inl (false, 0, 24)), .inr (.inl (false, 0, 999)), .inr (.inl (false, 0, 9)), .inr (.inl (false, 0, 9990)), .inr (.inl (false, (-2147483648), 2147483647)), .inr (.inl (false, 0, 30252)), .inr (.inl (false, (-1), 7)), .inr (.inl (false, 0, 255)), .inr (.inl (false, 0, 20)), .inr (.inl (false, 0, 1))], []),
  some (1, 0, [.inr (.inr [57]), .inr (.inl (false, 32, 32))], [])]
def jb3 : List (Option SC) := [some (12, 32, [], [(0, 32, 1, [(true, (-9223372036854775808), 9223372036854775807)])]),
  some (2, 0, [.inr (.inr [22, 28, 34, 40, 46]), .inr (.inr [22, 28, 34, 40, 46]), .inr (.inr [59]), .inr (.inr [60]), .inr (.inr [3, 53, 56]), .inr (.inl (false, (-2147483648), 2147483647)), .inr (.inl (false, 0, 2147483647))], []),
  some (11, 8, [], [(0, 8, 1, [(false, (-2147483648), 2147483647)])]),
  some (11, 64, [], [(0, 64, 1, [(false, (-2147483648), 2147483647)])]),
  some (5, 0, [.inr (.inr [62]), .inr (.inr [63]), .inr (.inr [64]), .inr (.inl (false, 0, 99)), .inr (.inl (false, 0, 1)), .inr (.inl (false, 0, 8)), .inr (.inl (false, 0, 8))], []),
  some (11, 104, [], [(0, 104, 13, [(false, 0, 600), (false, (-9), 9), (false, (-9999), 9999), (false, (-99), 99), (false, 0, 24), (false, 0, 999), (false, 0, 9), (false, 0, 9990), (false, (-2147483648), 2147483647), (false, 0, 30252), (false, (-1), 7), (false, 0, 255), (false, 0, 20)])]),
  some (11, 7, [], [(0, 7, 1, [(false, (-1), 1)])]),
  some (11, 7, [], [(0, 7, 1, [(false, (-1), 1)])]),
  some (3, 0, [.inr (.inr [66]), .inr (.inr [67]), .inr (.inl (false, 0, 1000000000)), .inr (.inr [68]), .inr (.inr [69])], []),
  some (11, 8, [], [(0, 8, 1, [(false, (-2147483648), 2147483647)])]),
  some (11, 8, [], [(0, 8, 1, [(false, 0, 2147483647)])]),
  some (11, 256, [], [(0, 256, 1, [(false, (-2147483648), 1000000000)])]),
  some (11, 8, [], [(0, 8, 1, [(false, 0, 2147483647)])]),
  some (4, 0, [.inr (.inr [71]), .inr (.inr [22, 28, 34, 40, 46]), .inr (.inl (false, (-2147483648), 2147483647)), .inr (.inl (false, 0, 63)), .inr (.inl (false, 0, 8)), .inr (.inl (false, 0, 4)), .inr (.inl (false, 0, 7)), .inr (.inl (false, (-1), 300))], []),
  some (7, 0, [.inr (.inr [72]), .inr (.inr [73]), .inr (.inr [74]), .inr (.inl (false, 0, 300)), .inr (.inl (false, 0, 300))], []),
  some (11, 300, [], [(0, 300, 1, [(false, 0, 61)])]),
  some (11, 300, [], [(0, 300, 1, [(false, 0, 299)])]),
  some (11, 300, [], [(0, 300, 1, [(false, (-2147483648), 10000)])]),
  some (11, 300, [], [(0, 300, 1, [(false, 0, 255)])])]
def jb4 : List (Option SC) := [some (10, 0, [.inr (.inr [77]), .inr (.inr [78]), .inr (.inr [79]), .inr (.inr [80]), .inr (.inl (false, 0, 300)), .inr (.inl (false, (-1), 6)), .inr (.inl (false, (-1), 300)), .inr (.inl (false, 0, 300)), .inr (.inl (false, 0, 300)), .inr (.inl (false, 0, 255)), .inr (.inl (false, 0, 999999)), .inr (.inl (true, (-9223372036854775808), 9223372036854775807)), .inr (.inl (false, 0, 2259)), .inr (.inl (false, 0, 304)), .inr (.inl (false, (-1), 11)), .inr (.inr [81]), .inr (.inl (false, 0, 160)), .inr (.inl (false, 0, 8)), .inr (.inl (false, 0, 1)), .inr (.inl (false, 0, 31)), .inr (.inr [82]), .inr (.inl (false, 0, 10300)), .inr (.inl (false, 0, 10240)), .inr (.inr [83]), .inr (.inr [84]), .inr (.inl (false, 0, 1)), .inr (.inr [85]), .inr (.inl (false, 0, 2147483647)), .inr (.inl (false, 0, 2147483647)), .inr (.inr [86]), .inr (.inr [87]), .inr (.inr [88]), .inr (.inr [89]), .inr (.inr [90]), .inr (.inl (false, 0, 8)), .inr (.inr [91]), .inr (.inr [92])], []),
  some (11, 9834, jp77, jrA),
  some (11, 9834, jp78, jrA),
  some (11, 3012, [], [(0, 3012, 753, [(false, 0, 24)]), (0, 3012, 1, [(false, (-2147483648), 2147483647)])]),
  some (11, 300, [], [(0, 300, 1, [(false, 0, 255)])]),
  some (11, 160, [], [(0, 160, 1, [(false, 0, 43)])]),
  some (11, 8, [], [(0, 8, 1, [(false, (-2147483648), 2147483647)])]),
  some (12, 330, [], [(0, 330, 1, [(true, (-9223372036854775808), 9223372036854775807)])]),
  some (13, 330, [], [(0, 330, 1, [(false, 0, 1)])]),
  some (11, 18, [.inr (.inl (false, 0, 8)), .inr (.inl (false, 0, 99)), .inr (.inl (false, (-2147483648), 2147483647)), .inr (.inl (false, 0, 4)), .inr (.inl (false, (-1), 3)), .inr (.inl (false, 0, 30)), .inr (.inl (false, 0, 8)), .inr (.inl (false, 0, 20000)), .inr (.inl (false, (-2147483648), 2147483647)), .inr (.inl (false, (-2147483648), 2147483647)), .inr (.inl (false, (-2147483648), 2147483647)), .inr (.inl (false, (-2147483648), 2147483647)), .inr (.inl (false, 0, 24)), .inr (.inl (false, 0, 999)), .inr (.inl (false, (-9), 9)), .inr (.inl (false, 0, 9990)), .inr (.inl (false, 0, 9999)), .inr (.inl (false, (-1), 7))], []),
  some (11, 1200, [], [(0, 1200, 1, [(false, (-2147483648), 2147483647)])]),
  some (11, 8, [], [(0, 8, 1, [(false, 0, 7)])]),
  some (11, 8, [], [(0, 8, 1, [(false, (-2147483648), 2147483647)])]),
  some (11, 8, [], [(0, 8, 1, [(false, 0, 7)])]),
  some (11, 8, [], [(0, 8, 1, [(false, 0, 7)])]),
  some (11, 8, [], [(0, 8, 1, [(false, (-2147483648), 2147483647)])]),
  some (11, 8, [], [(0, 8, 1, [(false, (-2147483648), 2147483647)])])]
def JBx : List (Nat × SC) := [(1000000, (20, 6, [.inl (.inl (.inl 0)), .inl (.inl (.inl 15)), .inl (.inl (.inl 23)), .inl (.inl (.inl 28)), .inl (.inl (.inl 32)), .inl (.inl (.inl 43))], [])), (1000001, (20, 6, [.inl (.inl (.inl 32767)), .inl (.inl (.inl 255)), .inl (.inl (.inl 31)), .inl (.inl (.inl 15)), .inl (.inl (.inl 2047)), .inl (.inl (.inl 3))], [])), (1000002, (20, 6, [.inl (.inl (.inl (-9999))), .inl (.inl (.inl (-99))), .inl (.inl (.inl (-9))), .inl (.inl (.inl 0)), .inl (.inl (.inl (-600))), .inl (.inl (.inl (-1)))], [])), (1000003, (20, 5, [.inl (.inl (.inl 127)), .inl (.inl (.inl 127)), .inl (.inl (.inl 127)), .inl (.inl (.inl 128)), .inl (.inl (.inl 224))], []))]
def JB : SB := ([jb0, jb1, jb2, jb3, jb4], JBx)
/-! what is known beyond numbers: ropes of the steps that can be taken back, how much is written down, the texts -/
def wA (k : Nat) (h : AH) : Prop := ∀ r : Nat, r < 30 → (∃ s, hV h k 5 = vI s ∧ (r : Int) < s) → ∃ x, hV h k (84 + 13 * r + 4) = vI x ∧ 1 ≤ x ∧ x ≤ 24
def wB (β k : Nat) (h : AH) : Prop := (∃ x, hV h k 7 = vI x ∧ 0 ≤ x ∧ x ≤ (β : Int)) ∧ ∀ r : Nat, r < 30 → ∃ x, hV h k (84 + 13 * r + 11) = vI x ∧ 0 ≤ x ∧ x ≤ (β : Int)
def ofI (v : AV) : Int := match v with
  | .inl z => z
  | _ => 0
/-- how many values and truths lie there behind an operation -/
def dst (o : Int) (q : Nat × Nat) : Option (Nat × Nat) :=
  if o < 0 then none else if o ≤ 2 then some (q.1 + 1, q.2) else if o = 3 then (if 2 ≤ q.1 ∧ 1 ≤ q.2 then some (q.1 - 1, q.2 - 1) else none) else if o ≤ 5 then (if 1 ≤ q.1 then some q else none) else if o < 10 then (if 2 ≤ q.1 then some (q.1 - 1, q.2) else none) else if o < 20 then (if 2 ≤ q.1 then some (q.1 - 2, q.2 + 1) else none) else if o = 20 then (if 1 ≤ q.2 then some q else none) else (if 2 ≤ q.2 then some (q.1, q.2 - 1) else none)
def dpt (g : Nat → AV) (p a : Nat) : Nat → Option (Nat × Nat)
  | 0 => some (0, 0)
  | n + 1 => (dpt g p a n).bind (dst (ofI (g (p + 2 * (a + n)))))
def argK (o v : Int) : Prop := (o = 1 → 0 ≤ v ∧ v ≤ 7) ∧ (o = 2 → 0 ≤ v ∧ v ≤ 99)
/-- the code from a to b works out to one value -/
def CDK (g : Nat → AV) (p a b : Nat) : Prop := a ≤ b ∧ b ≤ 303 ∧ dpt g p a (b - a) = some (1, 0) ∧ ∀ i : Nat, a ≤ i → i < b → argK (ofI (g (p + 2 * i))) (ofI (g (p + 2 * i + 1)))
def TXT (g : Nat → AV) : Prop := ∀ j : Nat, j < 4 → ∀ k : Nat, (k : Int) < ofI (g (753 * j)) → k < 24 → 0 ≤ ofI (g (753 * j + 1 + 6 * k)) → ofI (g (753 * j + 1 + 6 * k)) ≤ 4 → ∃ a b : Nat, g (753 * j + 1 + 6 * k + 1) = vI a ∧ g (753 * j + 1 + 6 * k + 2) = vI b ∧ CDK g (753 * j + 145) a b
def W0 (β : Nat) (h : AH) : Prop := ((wA 77 h ∧ wA 78 h) ∧ (wB β 77 h ∧ wB β 78 h)) ∧ TXT (fun i => if i ≤ 3012 then hV h 79 i else vN)
theorem in_w {k l u i : Nat} (hm : (k, l, u) ∈ wS0) (h1 : l ≤ i) (h2 : i ≤ u) : inMd wS0 k i := ⟨(k, l, u), hm, rfl, h1, h2⟩
theorem W0_f {β : Nat} : FrW (W0 β) := by
  intro h h' hv hw
  have a5 := hv 77 5 (in_w (l := 5) (u := 5) (by decide) (by decide) (by decide))
  have a7 := hv 77 7 (in_w (l := 7) (u := 7) (by decide) (by decide) (by decide))
  have ar : ∀ r j : Nat, r < 30 → j < 13 → hV h' 77 (84 + 13 * r + j) = hV h 77 (84 + 13 * r + j) := fun r j hr hj => hv 77 _ (in_w (l := 84) (u := 473) (by decide) (by omega) (by omega))
  have b5 := hv 78 5 (in_w (l := 0) (u := 9834) (by decide) (by decide) (by decide))
  have b7 := hv 78 7 (in_w (l := 0) (u := 9834) (by decide) (by decide) (by decide))
  have br : ∀ r j : Nat, r < 30 → j < 13 → hV h' 78 (84 + 13 * r + j) = hV h 78 (84 + 13 * r + j) := fun r j hr hj => hv 78 _ (in_w (l := 0) (u := 9834) (by decide) (by omega) (by omega))
  have ct : (fun i => if i ≤ 3012 then hV h' 79 i else vN) = (fun i => if i ≤ 3012 then hV h 79 i else vN) := by
    funext i
    by_cases z : i ≤ 3012
    · rw [if_pos z, if_pos z]; exact hv 79 i (in_w (l := 0) (u := 3012) (by decide) (by omega) z)
    · rw [if_neg z, if_neg z]
  obtain ⟨⟨⟨w1, w2⟩, w3, w4⟩, w5⟩ := hw
  refine ⟨⟨⟨fun r hr hs => ?_, fun r hr hs => ?_⟩, ⟨?_, fun r hr => ?_⟩, ⟨?_, fun r hr => ?_⟩⟩, by rw [ct]; exact w5⟩
  · rw [a5] at hs; rw [ar r 4 hr (by decide)]; exact w1 r hr hs
  · rw [b5] at hs; rw [br r 4 hr (by decide)]; exact w2 r hr hs
  · rw [a7]; exact w3.1
  · rw [ar r 11 hr (by decide)]; exact w3.2 r hr
  · rw [b7]; exact w4.1
  · rw [br r 11 hr (by decide)]; exact w4.2 r hr
/-! known calls, by hand -/
def hk107_0 : KT := ([.inl (.inr (.inr (some 75))), .inr (false, 0, 299), .inr (false, 1, 300)], some (.inr (false, 0, 61)), [], [], [], [], [], 3)
def hk231_0 : KT := ([.inl (.inr (.inr (some 76)))], some (.inr (false, 0, 6)), [(76, 5, 19), (79, 0, 3012), (81, 0, 160)], [76, 79, 81], [], [], [], 20)
def hk255_0 : KT := ([.inl (.inr (.inr (some 76)))], some (.inr (false, (-1), 29)), [(77, 2, 2), (77, 5, 5), (77, 7, 17), (77, 20, 67)], [77], [(77, 16, .inr (false, 0, 9999))], [(77, 16, .inr (false, 0, 9999))], [], 4)
def hk242_0 : KT := ([.inl (.inr (.inr (some 76))), .inr (false, 0, 4), .inr (false, (-2147483648), 2147483647), .inr (false, (-99), 1), .inr (false, 9, 99)], some (.inr (false, (-2147483648), 2147483647)), [(83, 0, 330), (84, 0, 330)], [83, 84], [], [], [], 8)
def hk254_0 : KT := ([.inl (.inr (.inr (some 76)))], none, [(77, 5, 5), (77, 84, 473)], [77], [(77, 16, .inr (false, 0, 9999))], [], [], 4)
def hk245_0 : KT := ([.inl (.inr (.inr (some 76))), .inr (false, (-1), 3)], some (.inr (false, (-1), 1)), [(83, 0, 330), (84, 0, 330)], [83, 84], [], [], [], 8)
def hk263_0 : KT := ([.inl (.inr (.inr (some 76)))], some (.inr (false, (-1), 7)), [(77, 5, 5), (77, 7, 7), (77, 13, 13), (77, 17, 17), (77, 20, 67), (77, 84, 601)], [77], [(77, 16, .inr (false, 0, 9999))], [(77, 16, .inr (false, 0, 9999))], [], 6)
def hk265_0 : KT := ([.inl (.inr (.inr (some 76))), .inr (false, (-2147483648), 2147483647)], some (.inr (false, (-2), 24)), [], [], [(77, 16, .inr (false, 0, 9999))], [(77, 16, .inr (false, 0, 9999))], [], 40)
def hk305_0 : KT := ([.inl (.inr (.inr (some 76))), .inr (false, (-2147483648), 2147483647), .inr (false, (-2147483648), 2147483647)], some (.inr (false, (-2147483648), 2147483647)), [(76, 34, 34), (82, 0, 8), (83, 0, 330), (84, 0, 330), (87, 0, 8), (88, 0, 8), (89, 0, 8), (90, 0, 8), (91, 0, 8), (92, 0, 8)], [76, 82, 83, 84, 87, 88, 89, 90, 91, 92], [(77, 16, .inr (false, 0, 9999))], [(77, 16, .inr (false, 0, 9999))], [], 20)
def hk309_0 : KT := ([.inl (.inr (.inr (some 76))), .inr (false, (-2147483648), 2147483647), .inr (false, (-2147483648), 2147483647)], some (.inr (false, (-2147483648), 2147483647)), [(76, 34, 34), (82, 0, 8), (83, 0, 330), (84, 0, 330), (87, 0, 8), (88, 0, 8), (89, 0, 8), (90, 0, 8), (91, 0, 8), (92, 0, 8)], [76, 82, 83, 84, 87, 88, 89, 90, 91, 92], [(77, 16, .inr (false, 0, 9999))], [(77, 16, .inr (false, 0, 9999))], [], 20)
def hk312_0 : KT := ([.inl (.inr (.inr (some 76))), .inr (false, 0, 1)], some (.inr (true, (-9223372036854775808), 9223372036854775807)), [], [], [(77, 16, .inr (false, 0, 9999))], [(77, 16, .inr (false, 0, 9999))], [], 6)
def hk317_0 : KT := ([.inl (.inr (.inr (some 76))), .inr (false, 0, 1)], some (.inr (false, (-2147483648), 2147483647)), [], [], [(77, 16, .inr (false, 0, 9999))], [(77, 16, .inr (false, 0, 9999))], [], 6)
def hk181_0 : KT := ([.inl (.inr (.inr (some 77))), .inl (.inr (.inr (some 78)))], none, [(78, 0, 9834)], [78], [(77, 16, .inr (false, 0, 9999))], [], [], 3)
def hk181_1 : KT := ([.inl (.inr (.inr (some 78))), .inl (.inr (.inr (some 77)))], none, [(77, 0, 9834)], [77], [], [(77, 16, .inr (false, 0, 9999))], [], 3)
