/-! HookSwings.order(IIIII)I -/
def kt0 : KT := ([.inl (.inr (.inr (some 0))), .inr (false, (-2147483648), 2147483647), .inr (false, (-2147483648), 2147483647), .inr (false, (-2147483648), 2147483647), .inr (false, (-2147483648), 2147483647), .inr (false, (-2147483648), 2147483647)], some (.inr (false, (-1), 7)), [(1, 5, 5), (5, 0, 40)], [1, 5], [], [], [], 2)
def ct0 : CTB := []
def cu0 : List CU := []
theorem ke0 : chkE JB ct0 cu0 kt0 1 118 = true := by decide +kernel
theorem ok0 {β : Nat} : KOK JB (W0 β) 118 kt0 := KOK_of W0_f (CT := ct0) (cuts := cu0) trivial ke0 (fun cu h => by cases h) rfl
/-! HookSwings.near(I)Z -/
def kt1 : KT := ([.inl (.inr (.inr (some 0))), .inr (false, (-2147483648), 2147483647)], some (.inr (false, 0, 1)), [(1, 1, 1)], [1], [], [], [], 2)
def ct1 : CTB := []
def cu1 : List CU := []
theorem ke1 : chkE JB ct1 cu1 kt1 1 119 = true := by decide +kernel
theorem ok1 {β : Nat} : KOK JB (W0 β) 119 kt1 := KOK_of W0_f (CT := ct1) (cuts := cu1) trivial ke1 (fun cu h => by cases h) rfl
/-! HookSwings.feedFour(I)V -/
def kt2 : KT := ([.inl (.inr (.inr (some 0))), .inr (false, (-2147483648), 2147483647)], none, [(0, 11, 11), (75, 0, 300)], [0, 75], [], [], [], 1)
def ct2 : CTB := []
def cu2 : List CU := [(3, [some (.inl (.inr (.inr (some 0)))), some (.inr (false, ((-2147483648), 2147483647, 1, none))), some (.inr (false, ((-9), 24, 1, none)))], [], .inr (2, false, (-8)), .inl 0, .inl 0)]
theorem ke2 : chkE JB ct2 cu2 kt2 0 121 = true := by decide +kernel
theorem ku2 : aLL cu2 (chkU JB ct2 cu2 kt2 0 121) = true := by decide +kernel
theorem ok2 {β : Nat} : KOK JB (W0 β) 121 kt2 := KOK_of W0_f (CT := ct2) (cuts := cu2) trivial ke2 (fun cu h => ⟨rfl, aLL_s ku2 cu h⟩) rfl
/-! HookSwings.feed(IIIII)I -/
def kt3 : KT := ([.inl (.inr (.inr (some 0))), .inr (false, (-2147483648), 2147483647), .inr (false, (-2147483648), 2147483647), .inr (false, (-2147483648), 2147483647), .inr (false, (-2147483648), 2147483647), .inr (false, (-2147483648), 2147483647)], some (.inr (false, (-1), 300)), [(0, 11, 11), (75, 0, 300)], [0, 75], [], [], [], 2)
def ct3 : CTB := [(121, [kt2])]
def cu3 : List CU := []
theorem ke3 : chkE JB ct3 cu3 kt3 1 120 = true := by decide +kernel
theorem ok3 {β : Nat} : KOK JB (W0 β) 120 kt3 := KOK_of W0_f (CT := ct3) (cuts := cu3) ⟨⟨ok2, trivial⟩, trivial⟩ ke3 (fun cu h => by cases h) rfl
/-! HookSwings.end(I)I -/
def kt4 : KT := ([.inl (.inr (.inr (some 0))), .inr (false, (-2147483648), 2147483647)], some (.inr (false, (-1), 300)), [(0, 11, 11)], [0], [], [], [], 2)
def ct4 : CTB := []
def cu4 : List CU := []
theorem ke4 : chkE JB ct4 cu4 kt4 1 122 = true := by decide +kernel
theorem ok4 {β : Nat} : KOK JB (W0 β) 122 kt4 := KOK_of W0_f (CT := ct4) (cuts := cu4) trivial ke4 (fun cu h => by cases h) rfl
/-! HookSwings.Tokens.add(IIII)I -/
def kt5 : KT := ([.inl (.inr (.inr (some 71))), .inr (false, 0, 61), .inr (false, 0, 299), .inr (false, 1, 300), .inr (false, (-2147483648), 10000)], some (.inr (false, 1, 300)), [(71, 3, 3), (72, 0, 300), (73, 0, 300), (74, 0, 300)], [71, 72, 73, 74], [], [], [], 1)
def ct5 : CTB := []
def cu5 : List CU := []
theorem ke5 : chkE JB ct5 cu5 kt5 0 104 = true := by decide +kernel
theorem ok5 {β : Nat} : KOK JB (W0 β) 104 kt5 := KOK_of W0_f (CT := ct5) (cuts := cu5) trivial ke5 (fun cu h => by cases h) rfl
/-! HookSwings.Tokens.single(I)I -/
def kt7 : KT := ([.inr (false, 0, 255)], some (.inr (false, 40, 61)), [], [], [], [], [], 1)
def ct7 : CTB := []
def cu7 : List CU := []
theorem ke7 : chkE JB ct7 cu7 kt7 0 108 = true := by decide +kernel
theorem ok7 {β : Nat} : KOK JB (W0 β) 108 kt7 := KOK_of W0_f (CT := ct7) (cuts := cu7) trivial ke7 (fun cu h => by cases h) rfl
/-! HookSwings.Tokens.scanOne([II)I -/
def kt8 : KT := ([.inl (.inr (.inr (some 71))), .inl (.inr (.inr (some 75))), .inr (false, 0, 299)], some (.inr (false, 1, 300)), [(71, 3, 3), (72, 0, 300), (73, 0, 300), (74, 0, 300)], [71, 72, 73, 74], [], [], [], 4)
def ct8 : CTB := [(104, [kt5]), (107, [hk107_0]), (108, [kt7])]
def cu8 : List CU := [(32, [some (.inl (.inr (.inr (some 71)))), some (.inl (.inr (.inr (some 75)))), some (.inr (false, (0, 299, 1, none))), some (.inr (false, (65, 122, 1, none))), some (.inr (false, (1, 300, 1, none))), none], [], .inl 0, .inr (4, true, 300), .inl 0),
  (91, [some (.inl (.inr (.inr (some 71)))), some (.inl (.inr (.inr (some 75)))), some (.inr (false, (0, 299, 1, none))), some (.inr (false, (48, 57, 1, none))), some (.inr (false, ((-2147483648), 10000, 1, none))), some (.inr (false, (1, 300, 1, none)))], [], .inl 1, .inr (5, true, 300), .inl 0)]
theorem ke8 : chkE JB ct8 cu8 kt8 3 103 = true := by decide +kernel
theorem ku8 : aLL cu8 (chkU JB ct8 cu8 kt8 3 103) = true := by decide +kernel
theorem ok8 {β : Nat} : KOK JB (W0 β) 103 kt8 := KOK_of W0_f (CT := ct8) (cuts := cu8) ⟨⟨ok5, trivial⟩, ⟨hok107_0, trivial⟩, ⟨ok7, trivial⟩, trivial⟩ ke8 (fun cu h => ⟨rfl, aLL_s ku8 cu h⟩) rfl
/-! HookSwings.Tokens.scan([II)V -/
def kt9 : KT := ([.inl (.inr (.inr (some 71))), .inl (.inr (.inr (some 75))), .inr (false, 0, 300)], none, [(71, 3, 4), (72, 0, 300), (73, 0, 300), (74, 0, 300)], [71, 72, 73, 74], [], [], [], 5)
def ct9 : CTB := [(103, [kt8])]
def cu9 : List CU := [(26, [some (.inl (.inr (.inr (some 71)))), some (.inl (.inr (.inr (some 75)))), some (.inr (false, (0, 300, 1, none))), some (.inr (false, (0, 300, 1, none))), some (.inr (false, (0, 300, 1, none)))], [], .inr (4, true, 300), .inl 0, .inl 0)]
theorem ke9 : chkE JB ct9 cu9 kt9 4 102 = true := by decide +kernel
theorem ku9 : aLL cu9 (chkU JB ct9 cu9 kt9 4 102) = true := by decide +kernel
theorem ok9 {β : Nat} : KOK JB (W0 β) 102 kt9 := KOK_of W0_f (CT := ct9) (cuts := cu9) ⟨⟨ok8, trivial⟩, trivial⟩ ke9 (fun cu h => ⟨rfl, aLL_s ku9 cu h⟩) rfl
/-! HookSwings.Reader.fail(I)V -/
def kt10 : KT := ([.inl (.inr (.inr (some 70))), .inr (false, 1, 7)], none, [(70, 3, 3), (70, 6, 7)], [70], [], [], [], 2)
def ct10 : CTB := []
def cu10 : List CU := []
theorem ke10 : chkE JB ct10 cu10 kt10 1 60 = true := by decide +kernel
theorem ok10 {β : Nat} : KOK JB (W0 β) 60 kt10 := KOK_of W0_f (CT := ct10) (cuts := cu10) trivial ke10 (fun cu h => by cases h) rfl
/-! HookSwings.Reader.step()V -/
def kt11 : KT := ([.inl (.inr (.inr (some 70)))], none, [(70, 2, 3)], [70], [], [], [], 2)
def ct11 : CTB := []
def cu11 : List CU := []
theorem ke11 : chkE JB ct11 cu11 kt11 1 61 = true := by decide +kernel
theorem ok11 {β : Nat} : KOK JB (W0 β) 61 kt11 := KOK_of W0_f (CT := ct11) (cuts := cu11) trivial ke11 (fun cu h => by cases h) rfl
/-! HookSwings.Reader.take(I)V -/
def kt12 : KT := ([.inl (.inr (.inr (some 70))), .inr (false, 19, 52)], none, [(70, 2, 3), (70, 6, 7)], [70], [], [], [], 3)
def ct12 : CTB := [(60, [kt10]), (61, [kt11])]
def cu12 : List CU := []
theorem ke12 : chkE JB ct12 cu12 kt12 2 62 = true := by decide +kernel
theorem ok12 {β : Nat} : KOK JB (W0 β) 62 kt12 := KOK_of W0_f (CT := ct12) (cuts := cu12) ⟨⟨ok10, trivial⟩, ⟨ok11, trivial⟩, trivial⟩ ke12 (fun cu h => by cases h) rfl
/-! HookSwings.Reader.number(II)I -/
def kt13 : KT := ([.inl (.inr (.inr (some 70))), .inr (false, 0, 1), .inr (false, 1, 9999)], some (.inr (false, 0, 9999)), [(70, 2, 3), (70, 6, 7)], [70], [], [], [], 3)
def ct13 : CTB := [(60, [kt10]), (61, [kt11])]
def cu13 : List CU := []
theorem ke13 : chkE JB ct13 cu13 kt13 2 63 = true := by decide +kernel
theorem ok13 {β : Nat} : KOK JB (W0 β) 63 kt13 := KOK_of W0_f (CT := ct13) (cuts := cu13) ⟨⟨ok10, trivial⟩, ⟨ok11, trivial⟩, trivial⟩ ke13 (fun cu h => by cases h) rfl
/-! HookSwings.Text.setArg(II)V -/
def kt14 : KT := ([.inl (.inr (.inr (some 22))), .inr (false, 0, 4), .inr (false, (-1), 9999)], none, [(27, 0, 120)], [27], [], [], [], 2)
def ct14 : CTB := []
def cu14 : List CU := []
theorem ke14 : chkE JB ct14 cu14 kt14 1 94 = true := by decide +kernel
theorem ok14 {β : Nat} : KOK JB (W0 β) 94 kt14 := KOK_of W0_f (CT := ct14) (cuts := cu14) trivial ke14 (fun cu h => by cases h) rfl
/-! HookSwings.Text.setArg(II)V -/
def kt15 : KT := ([.inl (.inr (.inr (some 28))), .inr (false, 0, 4), .inr (false, (-1), 9999)], none, [(33, 0, 120)], [33], [], [], [], 2)
def ct15 : CTB := []
def cu15 : List CU := []
theorem ke15 : chkE JB ct15 cu15 kt15 1 94 = true := by decide +kernel
theorem ok15 {β : Nat} : KOK JB (W0 β) 94 kt15 := KOK_of W0_f (CT := ct15) (cuts := cu15) trivial ke15 (fun cu h => by cases h) rfl
/-! HookSwings.Text.setArg(II)V -/
def kt16 : KT := ([.inl (.inr (.inr (some 34))), .inr (false, 0, 4), .inr (false, (-1), 9999)], none, [(39, 0, 120)], [39], [], [], [], 2)
def ct16 : CTB := []
def cu16 : List CU := []
theorem ke16 : chkE JB ct16 cu16 kt16 1 94 = true := by decide +kernel
theorem ok16 {β : Nat} : KOK JB (W0 β) 94 kt16 := KOK_of W0_f (CT := ct16) (cuts := cu16) trivial ke16 (fun cu h => by cases h) rfl
/-! HookSwings.Text.setArg(II)V -/
def kt17 : KT := ([.inl (.inr (.inr (some 40))), .inr (false, 0, 4), .inr (false, (-1), 9999)], none, [(45, 0, 120)], [45], [], [], [], 2)
def ct17 : CTB := []
def cu17 : List CU := []
theorem ke17 : chkE JB ct17 cu17 kt17 1 94 = true := by decide +kernel
theorem ok17 {β : Nat} : KOK JB (W0 β) 94 kt17 := KOK_of W0_f (CT := ct17) (cuts := cu17) trivial ke17 (fun cu h => by cases h) rfl
/-! HookSwings.Text.setArg(II)V -/
def kt18 : KT := ([.inl (.inr (.inr (some 46))), .inr (false, 0, 4), .inr (false, (-1), 9999)], none, [(51, 0, 120)], [51], [], [], [], 2)
def ct18 : CTB := []
def cu18 : List CU := []
theorem ke18 : chkE JB ct18 cu18 kt18 1 94 = true := by decide +kernel
theorem ok18 {β : Nat} : KOK JB (W0 β) 94 kt18 := KOK_of W0_f (CT := ct18) (cuts := cu18) trivial ke18 (fun cu h => by cases h) rfl
/-! HookSwings.Reader.orderParts()V -/
def kt19 : KT := ([.inl (.inr (.inr (some 70)))], none, [(27, 0, 120), (33, 0, 120), (39, 0, 120), (45, 0, 120), (51, 0, 120), (70, 2, 3), (70, 6, 7)], [27, 33, 39, 45, 51, 70], [], [], [], 4)
def ct19 : CTB := [(62, [kt12]), (63, [kt13]), (94, [kt14, kt15, kt16, kt17, kt18])]
def cu19 : List CU := []
theorem ke19 : chkE JB ct19 cu19 kt19 3 66 = true := by decide +kernel
theorem ok19 {β : Nat} : KOK JB (W0 β) 66 kt19 := KOK_of W0_f (CT := ct19) (cuts := cu19) ⟨⟨ok12, trivial⟩, ⟨ok13, trivial⟩, ⟨ok14, ok15, ok16, ok17, ok18, trivial⟩, trivial⟩ ke19 (fun cu h => by cases h) rfl
/-! HookSwings.Reader.side()V -/
def kt20 : KT := ([.inl (.inr (.inr (some 70)))], none, [(27, 0, 120), (33, 0, 120), (39, 0, 120), (45, 0, 120), (51, 0, 120), (70, 2, 3), (70, 6, 7)], [27, 33, 39, 45, 51, 70], [], [], [], 3)
def ct20 : CTB := [(60, [kt10]), (61, [kt11]), (94, [kt14, kt15, kt16, kt17, kt18])]
def cu20 : List CU := []
theorem ke20 : chkE JB ct20 cu20 kt20 2 67 = true := by decide +kernel
theorem ok20 {β : Nat} : KOK JB (W0 β) 67 kt20 := KOK_of W0_f (CT := ct20) (cuts := cu20) ⟨⟨ok10, trivial⟩, ⟨ok11, trivial⟩, ⟨ok14, ok15, ok16, ok17, ok18, trivial⟩, trivial⟩ ke20 (fun cu h => by cases h) rfl
/-! HookSwings.Reader.deedParts(I)V -/
def kt21 : KT := ([.inl (.inr (.inr (some 70))), .inr (false, 5, 16)], none, [(27, 0, 120), (33, 0, 120), (39, 0, 120), (45, 0, 120), (51, 0, 120), (70, 2, 3), (70, 6, 7)], [27, 33, 39, 45, 51, 70], [], [], [], 5)
def ct21 : CTB := [(63, [kt13]), (66, [kt19]), (67, [kt20]), (94, [kt14, kt15, kt16, kt17, kt18])]
def cu21 : List CU := []
theorem ke21 : chkE JB ct21 cu21 kt21 4 65 = true := by decide +kernel
theorem ok21 {β : Nat} : KOK JB (W0 β) 65 kt21 := KOK_of W0_f (CT := ct21) (cuts := cu21) ⟨⟨ok13, trivial⟩, ⟨ok19, trivial⟩, ⟨ok20, trivial⟩, ⟨ok14, ok15, ok16, ok17, ok18, trivial⟩, trivial⟩ ke21 (fun cu h => by cases h) rfl
/-! HookSwings.Reader.changedOne(I)V -/
def kt22 : KT := ([.inl (.inr (.inr (some 70))), .inr (false, 5, 6)], none, [(70, 3, 3), (70, 6, 7)], [70], [(70, 4, .inr (false, 8, 8))], [(70, 4, .inr (false, 8, 8))], [], 4)
def ct22 : CTB := [(60, [kt10])]
def cu22 : List CU := []
theorem ke22 : chkE JB ct22 cu22 kt22 3 72 = true := by decide +kernel
theorem ok22 {β : Nat} : KOK JB (W0 β) 72 kt22 := KOK_of W0_f (CT := ct22) (cuts := cu22) ⟨⟨ok10, trivial⟩, trivial⟩ ke22 (fun cu h => by cases h) rfl
/-! HookSwings.Text.addDeed(II)V -/
def kt23 : KT := ([.inl (.inr (.inr (some 22))), .inr (false, 0, 19), .inr (false, 0, 79999)], none, [(22, 5, 5), (23, 0, 300)], [22, 23], [], [], [], 1)
def ct23 : CTB := []
def cu23 : List CU := []
theorem ke23 : chkE JB ct23 cu23 kt23 0 96 = true := by decide +kernel
theorem ok23 {β : Nat} : KOK JB (W0 β) 96 kt23 := KOK_of W0_f (CT := ct23) (cuts := cu23) trivial ke23 (fun cu h => by cases h) rfl
/-! HookSwings.Text.addDeed(II)V -/
def kt24 : KT := ([.inl (.inr (.inr (some 28))), .inr (false, 0, 19), .inr (false, 0, 79999)], none, [(28, 5, 5), (29, 0, 300)], [28, 29], [], [], [], 1)
def ct24 : CTB := []
def cu24 : List CU := []
theorem ke24 : chkE JB ct24 cu24 kt24 0 96 = true := by decide +kernel
theorem ok24 {β : Nat} : KOK JB (W0 β) 96 kt24 := KOK_of W0_f (CT := ct24) (cuts := cu24) trivial ke24 (fun cu h => by cases h) rfl
/-! HookSwings.Text.addDeed(II)V -/
def kt25 : KT := ([.inl (.inr (.inr (some 34))), .inr (false, 0, 19), .inr (false, 0, 79999)], none, [(34, 5, 5), (35, 0, 300)], [34, 35], [], [], [], 1)
def ct25 : CTB := []
def cu25 : List CU := []
theorem ke25 : chkE JB ct25 cu25 kt25 0 96 = true := by decide +kernel
theorem ok25 {β : Nat} : KOK JB (W0 β) 96 kt25 := KOK_of W0_f (CT := ct25) (cuts := cu25) trivial ke25 (fun cu h => by cases h) rfl
/-! HookSwings.Text.addDeed(II)V -/
def kt26 : KT := ([.inl (.inr (.inr (some 40))), .inr (false, 0, 19), .inr (false, 0, 79999)], none, [(40, 5, 5), (41, 0, 300)], [40, 41], [], [], [], 1)
def ct26 : CTB := []
def cu26 : List CU := []
theorem ke26 : chkE JB ct26 cu26 kt26 0 96 = true := by decide +kernel
theorem ok26 {β : Nat} : KOK JB (W0 β) 96 kt26 := KOK_of W0_f (CT := ct26) (cuts := cu26) trivial ke26 (fun cu h => by cases h) rfl
/-! HookSwings.Text.addDeed(II)V -/
def kt27 : KT := ([.inl (.inr (.inr (some 46))), .inr (false, 0, 19), .inr (false, 0, 79999)], none, [(46, 5, 5), (47, 0, 300)], [46, 47], [], [], [], 1)
def ct27 : CTB := []
def cu27 : List CU := []
theorem ke27 : chkE JB ct27 cu27 kt27 0 96 = true := by decide +kernel
theorem ok27 {β : Nat} : KOK JB (W0 β) 96 kt27 := KOK_of W0_f (CT := ct27) (cuts := cu27) trivial ke27 (fun cu h => by cases h) rfl
/-! HookSwings.Reader.name(III)V -/
def kt28 : KT := ([.inl (.inr (.inr (some 70))), .inr (false, 3, 4), .inr (false, 0, 79992), .inr (false, 31, 255)], none, [(22, 5, 5), (23, 0, 300), (28, 5, 5), (29, 0, 300), (34, 5, 5), (35, 0, 300), (40, 5, 5), (41, 0, 300), (46, 5, 5), (47, 0, 300), (70, 2, 3), (70, 6, 7)], [22, 23, 28, 29, 34, 35, 40, 41, 46, 47, 70], [], [], [], 3)
def ct28 : CTB := [(60, [kt10]), (61, [kt11]), (96, [kt23, kt24, kt25, kt26, kt27])]
def cu28 : List CU := []
theorem ke28 : chkE JB ct28 cu28 kt28 2 73 = true := by decide +kernel
theorem ok28 {β : Nat} : KOK JB (W0 β) 73 kt28 := KOK_of W0_f (CT := ct28) (cuts := cu28) ⟨⟨ok10, trivial⟩, ⟨ok11, trivial⟩, ⟨ok23, ok24, ok25, ok26, ok27, trivial⟩, trivial⟩ ke28 (fun cu h => by cases h) rfl
/-! HookSwings.Reader.choice()V -/
def kt29 : KT := ([.inl (.inr (.inr (some 70)))], none, [(70, 3, 3), (70, 6, 7)], [70], [(70, 4, .inr (false, 8, 8))], [(70, 4, .inr (false, 8, 8))], [], 4)
def ct29 : CTB := [(60, [kt10])]
def cu29 : List CU := []
theorem ke29 : chkE JB ct29 cu29 kt29 3 74 = true := by decide +kernel
theorem ok29 {β : Nat} : KOK JB (W0 β) 74 kt29 := KOK_of W0_f (CT := ct29) (cuts := cu29) ⟨⟨ok10, trivial⟩, trivial⟩ ke29 (fun cu h => by cases h) rfl
/-! HookSwings.Reader.one()V -/
def kt30 : KT := ([.inl (.inr (.inr (some 70)))], none, [(22, 5, 5), (23, 0, 300), (28, 5, 5), (29, 0, 300), (34, 5, 5), (35, 0, 300), (40, 5, 5), (41, 0, 300), (46, 5, 5), (47, 0, 300), (70, 2, 3), (70, 6, 7)], [22, 23, 28, 29, 34, 35, 40, 41, 46, 47, 70], [(70, 4, .inr (false, 8, 8))], [(70, 4, .inr (false, 8, 8))], [], 5)
def ct30 : CTB := [(60, [kt10]), (61, [kt11]), (63, [kt13]), (72, [kt22]), (73, [kt28]), (74, [kt29]), (96, [kt23, kt24, kt25, kt26, kt27])]
def cu30 : List CU := []
theorem ke30 : chkE JB ct30 cu30 kt30 4 70 = true := by decide +kernel
theorem ok30 {β : Nat} : KOK JB (W0 β) 70 kt30 := KOK_of W0_f (CT := ct30) (cuts := cu30) ⟨⟨ok10, trivial⟩, ⟨ok11, trivial⟩, ⟨ok13, trivial⟩, ⟨ok22, trivial⟩, ⟨ok28, trivial⟩, ⟨ok29, trivial⟩, ⟨ok23, ok24, ok25, ok26, ok27, trivial⟩, trivial⟩ ke30 (fun cu h => by cases h) rfl
/-! HookSwings.Reader.product()V -/
def kt31 : KT := ([.inl (.inr (.inr (some 70)))], none, [(22, 5, 5), (23, 0, 300), (28, 5, 5), (29, 0, 300), (34, 5, 5), (35, 0, 300), (40, 5, 5), (41, 0, 300), (46, 5, 5), (47, 0, 300), (70, 2, 3), (70, 6, 7)], [22, 23, 28, 29, 34, 35, 40, 41, 46, 47, 70], [(70, 4, .inr (false, 8, 8))], [(70, 4, .inr (false, 8, 8))], [], 6)
def ct31 : CTB := [(61, [kt11]), (70, [kt30]), (96, [kt23, kt24, kt25, kt26, kt27])]
def cu31 : List CU := [(6, [some (.inl (.inr (.inr (some 70)))), some (.inr (false, (0, 300, 1, none))), none], [(70, 4, .inl (8, 8, 1, none))], .inr (1, true, 300), .inl 0, .inl 0)]
theorem ke31 : chkE JB ct31 cu31 kt31 5 69 = true := by decide +kernel
theorem ku31 : aLL cu31 (chkU JB ct31 cu31 kt31 5 69) = true := by decide +kernel
theorem ok31 {β : Nat} : KOK JB (W0 β) 69 kt31 := KOK_of W0_f (CT := ct31) (cuts := cu31) ⟨⟨ok11, trivial⟩, ⟨ok30, trivial⟩, ⟨ok23, ok24, ok25, ok26, ok27, trivial⟩, trivial⟩ ke31 (fun cu h => ⟨rfl, aLL_s ku31 cu h⟩) rfl
/-! HookSwings.Reader.sum()V -/
def kt32 : KT := ([.inl (.inr (.inr (some 70)))], none, [(22, 5, 5), (23, 0, 300), (28, 5, 5), (29, 0, 300), (34, 5, 5), (35, 0, 300), (40, 5, 5), (41, 0, 300), (46, 5, 5), (47, 0, 300), (70, 2, 3), (70, 6, 7)], [22, 23, 28, 29, 34, 35, 40, 41, 46, 47, 70], [(70, 4, .inr (false, 8, 8))], [(70, 4, .inr (false, 8, 8))], [], 7)
def ct32 : CTB := [(61, [kt11]), (69, [kt31]), (96, [kt23, kt24, kt25, kt26, kt27])]
def cu32 : List CU := [(6, [some (.inl (.inr (.inr (some 70)))), some (.inr (false, (0, 300, 1, none))), none], [(70, 4, .inl (8, 8, 1, none))], .inr (1, true, 300), .inl 0, .inl 0)]
theorem ke32 : chkE JB ct32 cu32 kt32 6 68 = true := by decide +kernel
theorem ku32 : aLL cu32 (chkU JB ct32 cu32 kt32 6 68) = true := by decide +kernel
theorem ok32 {β : Nat} : KOK JB (W0 β) 68 kt32 := KOK_of W0_f (CT := ct32) (cuts := cu32) ⟨⟨ok11, trivial⟩, ⟨ok31, trivial⟩, ⟨ok23, ok24, ok25, ok26, ok27, trivial⟩, trivial⟩ ke32 (fun cu h => ⟨rfl, aLL_s ku32 cu h⟩) rfl
/-! HookSwings.Reader.changedOne(I)V -/
def kt33 : KT := ([.inl (.inr (.inr (some 70))), .inr (false, 5, 6)], none, [(22, 5, 5), (23, 0, 300), (28, 5, 5), (29, 0, 300), (34, 5, 5), (35, 0, 300), (40, 5, 5), (41, 0, 300), (46, 5, 5), (47, 0, 300), (70, 2, 4), (70, 6, 7)], [22, 23, 28, 29, 34, 35, 40, 41, 46, 47, 70], [(70, 4, .inr (false, 7, 7))], [(70, 4, .inr (false, 7, 7))], [], 6)
def ct33 : CTB := [(61, [kt11]), (70, [kt30]), (96, [kt23, kt24, kt25, kt26, kt27])]
def cu33 : List CU := []
theorem ke33 : chkE JB ct33 cu33 kt33 5 72 = true := by decide +kernel
theorem ok33 {β : Nat} : KOK JB (W0 β) 72 kt33 := KOK_of W0_f (CT := ct33) (cuts := cu33) ⟨⟨ok11, trivial⟩, ⟨ok30, trivial⟩, ⟨ok23, ok24, ok25, ok26, ok27, trivial⟩, trivial⟩ ke33 (fun cu h => by cases h) rfl
/-! HookSwings.Reader.ask()V -/
def kt34 : KT := ([.inl (.inr (.inr (some 70)))], none, [(22, 5, 5), (23, 0, 300), (28, 5, 5), (29, 0, 300), (34, 5, 5), (35, 0, 300), (40, 5, 5), (41, 0, 300), (46, 5, 5), (47, 0, 300), (70, 2, 3), (70, 6, 7)], [22, 23, 28, 29, 34, 35, 40, 41, 46, 47, 70], [(70, 4, .inr (false, 8, 8))], [(70, 4, .inr (false, 8, 8))], [], 8)
def ct34 : CTB := [(60, [kt10]), (61, [kt11]), (68, [kt32]), (96, [kt23, kt24, kt25, kt26, kt27])]
def cu34 : List CU := []
theorem ke34 : chkE JB ct34 cu34 kt34 7 77 = true := by decide +kernel
theorem ok34 {β : Nat} : KOK JB (W0 β) 77 kt34 := KOK_of W0_f (CT := ct34) (cuts := cu34) ⟨⟨ok10, trivial⟩, ⟨ok11, trivial⟩, ⟨ok32, trivial⟩, ⟨ok23, ok24, ok25, ok26, ok27, trivial⟩, trivial⟩ ke34 (fun cu h => by cases h) rfl
/-! HookSwings.Reader.both()V -/
def kt35 : KT := ([.inl (.inr (.inr (some 70)))], none, [(22, 5, 5), (23, 0, 300), (28, 5, 5), (29, 0, 300), (34, 5, 5), (35, 0, 300), (40, 5, 5), (41, 0, 300), (46, 5, 5), (47, 0, 300), (70, 2, 3), (70, 6, 7)], [22, 23, 28, 29, 34, 35, 40, 41, 46, 47, 70], [(70, 4, .inr (false, 8, 8))], [(70, 4, .inr (false, 8, 8))], [], 9)
def ct35 : CTB := [(61, [kt11]), (77, [kt34]), (96, [kt23, kt24, kt25, kt26, kt27])]
def cu35 : List CU := [(6, [some (.inl (.inr (.inr (some 70)))), some (.inr (false, (0, 300, 1, none)))], [(70, 4, .inl (8, 8, 1, none))], .inr (1, true, 300), .inl 0, .inl 0)]
theorem ke35 : chkE JB ct35 cu35 kt35 8 76 = true := by decide +kernel
theorem ku35 : aLL cu35 (chkU JB ct35 cu35 kt35 8 76) = true := by decide +kernel
theorem ok35 {β : Nat} : KOK JB (W0 β) 76 kt35 := KOK_of W0_f (CT := ct35) (cuts := cu35) ⟨⟨ok11, trivial⟩, ⟨ok34, trivial⟩, ⟨ok23, ok24, ok25, ok26, ok27, trivial⟩, trivial⟩ ke35 (fun cu h => ⟨rfl, aLL_s ku35 cu h⟩) rfl
/-! HookSwings.Reader.either()V -/
def kt36 : KT := ([.inl (.inr (.inr (some 70)))], none, [(22, 5, 5), (23, 0, 300), (28, 5, 5), (29, 0, 300), (34, 5, 5), (35, 0, 300), (40, 5, 5), (41, 0, 300), (46, 5, 5), (47, 0, 300), (70, 2, 3), (70, 6, 7)], [22, 23, 28, 29, 34, 35, 40, 41, 46, 47, 70], [(70, 4, .inr (false, 8, 8))], [(70, 4, .inr (false, 8, 8))], [], 10)
def ct36 : CTB := [(61, [kt11]), (76, [kt35]), (96, [kt23, kt24, kt25, kt26, kt27])]
def cu36 : List CU := [(6, [some (.inl (.inr (.inr (some 70)))), some (.inr (false, (0, 300, 1, none)))], [(70, 4, .inl (8, 8, 1, none))], .inr (1, true, 300), .inl 0, .inl 0)]
theorem ke36 : chkE JB ct36 cu36 kt36 9 75 = true := by decide +kernel
theorem ku36 : aLL cu36 (chkU JB ct36 cu36 kt36 9 75) = true := by decide +kernel
theorem ok36 {β : Nat} : KOK JB (W0 β) 75 kt36 := KOK_of W0_f (CT := ct36) (cuts := cu36) ⟨⟨ok11, trivial⟩, ⟨ok35, trivial⟩, ⟨ok23, ok24, ok25, ok26, ok27, trivial⟩, trivial⟩ ke36 (fun cu h => ⟨rfl, aLL_s ku36 cu h⟩) rfl
/-! HookSwings.Text.leapHere(I)V -/
def kt37 : KT := ([.inl (.inr (.inr (some 22))), .inr (false, 0, 300)], none, [(23, 0, 300)], [23], [], [], [], 2)
def ct37 : CTB := []
def cu37 : List CU := []
theorem ke37 : chkE JB ct37 cu37 kt37 1 97 = true := by decide +kernel
theorem ok37 {β : Nat} : KOK JB (W0 β) 97 kt37 := KOK_of W0_f (CT := ct37) (cuts := cu37) trivial ke37 (fun cu h => by cases h) rfl
/-! HookSwings.Text.leapHere(I)V -/
def kt38 : KT := ([.inl (.inr (.inr (some 28))), .inr (false, 0, 300)], none, [(29, 0, 300)], [29], [], [], [], 2)
def ct38 : CTB := []
def cu38 : List CU := []
theorem ke38 : chkE JB ct38 cu38 kt38 1 97 = true := by decide +kernel
theorem ok38 {β : Nat} : KOK JB (W0 β) 97 kt38 := KOK_of W0_f (CT := ct38) (cuts := cu38) trivial ke38 (fun cu h => by cases h) rfl
/-! HookSwings.Text.leapHere(I)V -/
def kt39 : KT := ([.inl (.inr (.inr (some 34))), .inr (false, 0, 300)], none, [(35, 0, 300)], [35], [], [], [], 2)
def ct39 : CTB := []
def cu39 : List CU := []
theorem ke39 : chkE JB ct39 cu39 kt39 1 97 = true := by decide +kernel
theorem ok39 {β : Nat} : KOK JB (W0 β) 97 kt39 := KOK_of W0_f (CT := ct39) (cuts := cu39) trivial ke39 (fun cu h => by cases h) rfl
/-! HookSwings.Text.leapHere(I)V -/
def kt40 : KT := ([.inl (.inr (.inr (some 40))), .inr (false, 0, 300)], none, [(41, 0, 300)], [41], [], [], [], 2)
def ct40 : CTB := []
def cu40 : List CU := []
theorem ke40 : chkE JB ct40 cu40 kt40 1 97 = true := by decide +kernel
theorem ok40 {β : Nat} : KOK JB (W0 β) 97 kt40 := KOK_of W0_f (CT := ct40) (cuts := cu40) trivial ke40 (fun cu h => by cases h) rfl
/-! HookSwings.Text.leapHere(I)V -/
def kt41 : KT := ([.inl (.inr (.inr (some 46))), .inr (false, 0, 300)], none, [(47, 0, 300)], [47], [], [], [], 2)
def ct41 : CTB := []
def cu41 : List CU := []
theorem ke41 : chkE JB ct41 cu41 kt41 1 97 = true := by decide +kernel
theorem ok41 {β : Nat} : KOK JB (W0 β) 97 kt41 := KOK_of W0_f (CT := ct41) (cuts := cu41) trivial ke41 (fun cu h => by cases h) rfl
/-! HookSwings.Reader.choice()V -/
def kt42 : KT := ([.inl (.inr (.inr (some 70)))], none, [(22, 5, 5), (23, 0, 300), (28, 5, 5), (29, 0, 300), (34, 5, 5), (35, 0, 300), (40, 5, 5), (41, 0, 300), (46, 5, 5), (47, 0, 300), (70, 2, 4), (70, 6, 7)], [22, 23, 28, 29, 34, 35, 40, 41, 46, 47, 70], [(70, 4, .inr (false, 7, 7))], [(70, 4, .inr (false, 7, 7))], [], 11)
def ct42 : CTB := [(61, [kt11]), (62, [kt12]), (68, [kt32]), (75, [kt36]), (96, [kt23, kt24, kt25, kt26, kt27]), (97, [kt37, kt38, kt39, kt40, kt41])]
def cu42 : List CU := []
theorem ke42 : chkE JB ct42 cu42 kt42 10 74 = true := by decide +kernel
theorem ok42 {β : Nat} : KOK JB (W0 β) 74 kt42 := KOK_of W0_f (CT := ct42) (cuts := cu42) ⟨⟨ok11, trivial⟩, ⟨ok12, trivial⟩, ⟨ok32, trivial⟩, ⟨ok36, trivial⟩, ⟨ok23, ok24, ok25, ok26, ok27, trivial⟩, ⟨ok37, ok38, ok39, ok40, ok41, trivial⟩, trivial⟩ ke42 (fun cu h => by cases h) rfl
/-! HookSwings.Reader.one()V -/
def kt43 : KT := ([.inl (.inr (.inr (some 70)))], none, [(22, 5, 5), (23, 0, 300), (28, 5, 5), (29, 0, 300), (34, 5, 5), (35, 0, 300), (40, 5, 5), (41, 0, 300), (46, 5, 5), (47, 0, 300), (70, 2, 4), (70, 6, 7)], [22, 23, 28, 29, 34, 35, 40, 41, 46, 47, 70], [(70, 4, .inr (false, 7, 7))], [(70, 4, .inr (false, 7, 7))], [], 12)
def ct43 : CTB := [(61, [kt11]), (62, [kt12]), (63, [kt13]), (68, [kt32]), (72, [kt33]), (73, [kt28]), (74, [kt42]), (96, [kt23, kt24, kt25, kt26, kt27])]
def cu43 : List CU := []
theorem ke43 : chkE JB ct43 cu43 kt43 11 70 = true := by decide +kernel
theorem ok43 {β : Nat} : KOK JB (W0 β) 70 kt43 := KOK_of W0_f (CT := ct43) (cuts := cu43) ⟨⟨ok11, trivial⟩, ⟨ok12, trivial⟩, ⟨ok13, trivial⟩, ⟨ok32, trivial⟩, ⟨ok33, trivial⟩, ⟨ok28, trivial⟩, ⟨ok42, trivial⟩, ⟨ok23, ok24, ok25, ok26, ok27, trivial⟩, trivial⟩ ke43 (fun cu h => by cases h) rfl
/-! HookSwings.Reader.product()V -/
def kt44 : KT := ([.inl (.inr (.inr (some 70)))], none, [(22, 5, 5), (23, 0, 300), (28, 5, 5), (29, 0, 300), (34, 5, 5), (35, 0, 300), (40, 5, 5), (41, 0, 300), (46, 5, 5), (47, 0, 300), (70, 2, 4), (70, 6, 7)], [22, 23, 28, 29, 34, 35, 40, 41, 46, 47, 70], [(70, 4, .inr (false, 7, 7))], [(70, 4, .inr (false, 7, 7))], [], 13)
def ct44 : CTB := [(61, [kt11]), (70, [kt43]), (96, [kt23, kt24, kt25, kt26, kt27])]
def cu44 : List CU := [(6, [some (.inl (.inr (.inr (some 70)))), some (.inr (false, (0, 300, 1, none))), none], [(70, 4, .inl (7, 7, 1, none))], .inr (1, true, 300), .inl 0, .inl 0)]
theorem ke44 : chkE JB ct44 cu44 kt44 12 69 = true := by decide +kernel
theorem ku44 : aLL cu44 (chkU JB ct44 cu44 kt44 12 69) = true := by decide +kernel
theorem ok44 {β : Nat} : KOK JB (W0 β) 69 kt44 := KOK_of W0_f (CT := ct44) (cuts := cu44) ⟨⟨ok11, trivial⟩, ⟨ok43, trivial⟩, ⟨ok23, ok24, ok25, ok26, ok27, trivial⟩, trivial⟩ ke44 (fun cu h => ⟨rfl, aLL_s ku44 cu h⟩) rfl
/-! HookSwings.Reader.sum()V -/
def kt45 : KT := ([.inl (.inr (.inr (some 70)))], none, [(22, 5, 5), (23, 0, 300), (28, 5, 5), (29, 0, 300), (34, 5, 5), (35, 0, 300), (40, 5, 5), (41, 0, 300), (46, 5, 5), (47, 0, 300), (70, 2, 4), (70, 6, 7)], [22, 23, 28, 29, 34, 35, 40, 41, 46, 47, 70], [(70, 4, .inr (false, 7, 7))], [(70, 4, .inr (false, 7, 7))], [], 14)
def ct45 : CTB := [(61, [kt11]), (69, [kt44]), (96, [kt23, kt24, kt25, kt26, kt27])]
def cu45 : List CU := [(6, [some (.inl (.inr (.inr (some 70)))), some (.inr (false, (0, 300, 1, none))), none], [(70, 4, .inl (7, 7, 1, none))], .inr (1, true, 300), .inl 0, .inl 0)]
theorem ke45 : chkE JB ct45 cu45 kt45 13 68 = true := by decide +kernel
theorem ku45 : aLL cu45 (chkU JB ct45 cu45 kt45 13 68) = true := by decide +kernel
theorem ok45 {β : Nat} : KOK JB (W0 β) 68 kt45 := KOK_of W0_f (CT := ct45) (cuts := cu45) ⟨⟨ok11, trivial⟩, ⟨ok44, trivial⟩, ⟨ok23, ok24, ok25, ok26, ok27, trivial⟩, trivial⟩ ke45 (fun cu h => ⟨rfl, aLL_s ku45 cu h⟩) rfl
/-! HookSwings.Reader.changedOne(I)V -/
def kt46 : KT := ([.inl (.inr (.inr (some 70))), .inr (false, 5, 6)], none, [(22, 5, 5), (23, 0, 300), (28, 5, 5), (29, 0, 300), (34, 5, 5), (35, 0, 300), (40, 5, 5), (41, 0, 300), (46, 5, 5), (47, 0, 300), (70, 2, 4), (70, 6, 7)], [22, 23, 28, 29, 34, 35, 40, 41, 46, 47, 70], [(70, 4, .inr (false, 6, 6))], [(70, 4, .inr (false, 6, 6))], [], 13)
def ct46 : CTB := [(61, [kt11]), (70, [kt43]), (96, [kt23, kt24, kt25, kt26, kt27])]
def cu46 : List CU := []
theorem ke46 : chkE JB ct46 cu46 kt46 12 72 = true := by decide +kernel
theorem ok46 {β : Nat} : KOK JB (W0 β) 72 kt46 := KOK_of W0_f (CT := ct46) (cuts := cu46) ⟨⟨ok11, trivial⟩, ⟨ok43, trivial⟩, ⟨ok23, ok24, ok25, ok26, ok27, trivial⟩, trivial⟩ ke46 (fun cu h => by cases h) rfl
/-! HookSwings.Reader.ask()V -/
def kt47 : KT := ([.inl (.inr (.inr (some 70)))], none, [(22, 5, 5), (23, 0, 300), (28, 5, 5), (29, 0, 300), (34, 5, 5), (35, 0, 300), (40, 5, 5), (41, 0, 300), (46, 5, 5), (47, 0, 300), (70, 2, 4), (70, 6, 7)], [22, 23, 28, 29, 34, 35, 40, 41, 46, 47, 70], [(70, 4, .inr (false, 7, 7))], [(70, 4, .inr (false, 7, 7))], [], 15)
def ct47 : CTB := [(60, [kt10]), (61, [kt11]), (68, [kt45]), (77, [kt34]), (96, [kt23, kt24, kt25, kt26, kt27])]
def cu47 : List CU := []
theorem ke47 : chkE JB ct47 cu47 kt47 14 77 = true := by decide +kernel
theorem ok47 {β : Nat} : KOK JB (W0 β) 77 kt47 := KOK_of W0_f (CT := ct47) (cuts := cu47) ⟨⟨ok10, trivial⟩, ⟨ok11, trivial⟩, ⟨ok45, trivial⟩, ⟨ok34, trivial⟩, ⟨ok23, ok24, ok25, ok26, ok27, trivial⟩, trivial⟩ ke47 (fun cu h => by cases h) rfl
/-! HookSwings.Reader.both()V -/
def kt48 : KT := ([.inl (.inr (.inr (some 70)))], none, [(22, 5, 5), (23, 0, 300), (28, 5, 5), (29, 0, 300), (34, 5, 5), (35, 0, 300), (40, 5, 5), (41, 0, 300), (46, 5, 5), (47, 0, 300), (70, 2, 4), (70, 6, 7)], [22, 23, 28, 29, 34, 35, 40, 41, 46, 47, 70], [(70, 4, .inr (false, 7, 7))], [(70, 4, .inr (false, 7, 7))], [], 16)
def ct48 : CTB := [(61, [kt11]), (77, [kt47]), (96, [kt23, kt24, kt25, kt26, kt27])]
def cu48 : List CU := [(6, [some (.inl (.inr (.inr (some 70)))), some (.inr (false, (0, 300, 1, none)))], [(70, 4, .inl (7, 7, 1, none))], .inr (1, true, 300), .inl 0, .inl 0)]
theorem ke48 : chkE JB ct48 cu48 kt48 15 76 = true := by decide +kernel
theorem ku48 : aLL cu48 (chkU JB ct48 cu48 kt48 15 76) = true := by decide +kernel
theorem ok48 {β : Nat} : KOK JB (W0 β) 76 kt48 := KOK_of W0_f (CT := ct48) (cuts := cu48) ⟨⟨ok11, trivial⟩, ⟨ok47, trivial⟩, ⟨ok23, ok24, ok25, ok26, ok27, trivial⟩, trivial⟩ ke48 (fun cu h => ⟨rfl, aLL_s ku48 cu h⟩) rfl
/-! HookSwings.Reader.either()V -/
def kt49 : KT := ([.inl (.inr (.inr (some 70)))], none, [(22, 5, 5), (23, 0, 300), (28, 5, 5), (29, 0, 300), (34, 5, 5), (35, 0, 300), (40, 5, 5), (41, 0, 300), (46, 5, 5), (47, 0, 300), (70, 2, 4), (70, 6, 7)], [22, 23, 28, 29, 34, 35, 40, 41, 46, 47, 70], [(70, 4, .inr (false, 7, 7))], [(70, 4, .inr (false, 7, 7))], [], 17)
def ct49 : CTB := [(61, [kt11]), (76, [kt48]), (96, [kt23, kt24, kt25, kt26, kt27])]
def cu49 : List CU := [(6, [some (.inl (.inr (.inr (some 70)))), some (.inr (false, (0, 300, 1, none)))], [(70, 4, .inl (7, 7, 1, none))], .inr (1, true, 300), .inl 0, .inl 0)]
theorem ke49 : chkE JB ct49 cu49 kt49 16 75 = true := by decide +kernel
theorem ku49 : aLL cu49 (chkU JB ct49 cu49 kt49 16 75) = true := by decide +kernel
theorem ok49 {β : Nat} : KOK JB (W0 β) 75 kt49 := KOK_of W0_f (CT := ct49) (cuts := cu49) ⟨⟨ok11, trivial⟩, ⟨ok48, trivial⟩, ⟨ok23, ok24, ok25, ok26, ok27, trivial⟩, trivial⟩ ke49 (fun cu h => ⟨rfl, aLL_s ku49 cu h⟩) rfl
/-! HookSwings.Reader.choice()V -/
def kt50 : KT := ([.inl (.inr (.inr (some 70)))], none, [(22, 5, 5), (23, 0, 300), (28, 5, 5), (29, 0, 300), (34, 5, 5), (35, 0, 300), (40, 5, 5), (41, 0, 300), (46, 5, 5), (47, 0, 300), (70, 2, 4), (70, 6, 7)], [22, 23, 28, 29, 34, 35, 40, 41, 46, 47, 70], [(70, 4, .inr (false, 6, 6))], [(70, 4, .inr (false, 6, 6))], [], 18)
def ct50 : CTB := [(61, [kt11]), (62, [kt12]), (68, [kt45]), (75, [kt49]), (96, [kt23, kt24, kt25, kt26, kt27]), (97, [kt37, kt38, kt39, kt40, kt41])]
def cu50 : List CU := []
theorem ke50 : chkE JB ct50 cu50 kt50 17 74 = true := by decide +kernel
theorem ok50 {β : Nat} : KOK JB (W0 β) 74 kt50 := KOK_of W0_f (CT := ct50) (cuts := cu50) ⟨⟨ok11, trivial⟩, ⟨ok12, trivial⟩, ⟨ok45, trivial⟩, ⟨ok49, trivial⟩, ⟨ok23, ok24, ok25, ok26, ok27, trivial⟩, ⟨ok37, ok38, ok39, ok40, ok41, trivial⟩, trivial⟩ ke50 (fun cu h => by cases h) rfl
/-! HookSwings.Reader.one()V -/
def kt51 : KT := ([.inl (.inr (.inr (some 70)))], none, [(22, 5, 5), (23, 0, 300), (28, 5, 5), (29, 0, 300), (34, 5, 5), (35, 0, 300), (40, 5, 5), (41, 0, 300), (46, 5, 5), (47, 0, 300), (70, 2, 4), (70, 6, 7)], [22, 23, 28, 29, 34, 35, 40, 41, 46, 47, 70], [(70, 4, .inr (false, 6, 6))], [(70, 4, .inr (false, 6, 6))], [], 19)
def ct51 : CTB := [(61, [kt11]), (62, [kt12]), (63, [kt13]), (68, [kt45]), (72, [kt46]), (73, [kt28]), (74, [kt50]), (96, [kt23, kt24, kt25, kt26, kt27])]
def cu51 : List CU := []
theorem ke51 : chkE JB ct51 cu51 kt51 18 70 = true := by decide +kernel
theorem ok51 {β : Nat} : KOK JB (W0 β) 70 kt51 := KOK_of W0_f (CT := ct51) (cuts := cu51) ⟨⟨ok11, trivial⟩, ⟨ok12, trivial⟩, ⟨ok13, trivial⟩, ⟨ok45, trivial⟩, ⟨ok46, trivial⟩, ⟨ok28, trivial⟩, ⟨ok50, trivial⟩, ⟨ok23, ok24, ok25, ok26, ok27, trivial⟩, trivial⟩ ke51 (fun cu h => by cases h) rfl
/-! HookSwings.Reader.product()V -/
def kt52 : KT := ([.inl (.inr (.inr (some 70)))], none, [(22, 5, 5), (23, 0, 300), (28, 5, 5), (29, 0, 300), (34, 5, 5), (35, 0, 300), (40, 5, 5), (41, 0, 300), (46, 5, 5), (47, 0, 300), (70, 2, 4), (70, 6, 7)], [22, 23, 28, 29, 34, 35, 40, 41, 46, 47, 70], [(70, 4, .inr (false, 6, 6))], [(70, 4, .inr (false, 6, 6))], [], 20)
def ct52 : CTB := [(61, [kt11]), (70, [kt51]), (96, [kt23, kt24, kt25, kt26, kt27])]
def cu52 : List CU := [(6, [some (.inl (.inr (.inr (some 70)))), some (.inr (false, (0, 300, 1, none))), none], [(70, 4, .inl (6, 6, 1, none))], .inr (1, true, 300), .inl 0, .inl 0)]
theorem ke52 : chkE JB ct52 cu52 kt52 19 69 = true := by decide +kernel
theorem ku52 : aLL cu52 (chkU JB ct52 cu52 kt52 19 69) = true := by decide +kernel
theorem ok52 {β : Nat} : KOK JB (W0 β) 69 kt52 := KOK_of W0_f (CT := ct52) (cuts := cu52) ⟨⟨ok11, trivial⟩, ⟨ok51, trivial⟩, ⟨ok23, ok24, ok25, ok26, ok27, trivial⟩, trivial⟩ ke52 (fun cu h => ⟨rfl, aLL_s ku52 cu h⟩) rfl
/-! HookSwings.Reader.sum()V -/
def kt53 : KT := ([.inl (.inr (.inr (some 70)))], none, [(22, 5, 5), (23, 0, 300), (28, 5, 5), (29, 0, 300), (34, 5, 5), (35, 0, 300), (40, 5, 5), (41, 0, 300), (46, 5, 5), (47, 0, 300), (70, 2, 4), (70, 6, 7)], [22, 23, 28, 29, 34, 35, 40, 41, 46, 47, 70], [(70, 4, .inr (false, 6, 6))], [(70, 4, .inr (false, 6, 6))], [], 21)
def ct53 : CTB := [(61, [kt11]), (69, [kt52]), (96, [kt23, kt24, kt25, kt26, kt27])]
def cu53 : List CU := [(6, [some (.inl (.inr (.inr (some 70)))), some (.inr (false, (0, 300, 1, none))), none], [(70, 4, .inl (6, 6, 1, none))], .inr (1, true, 300), .inl 0, .inl 0)]
theorem ke53 : chkE JB ct53 cu53 kt53 20 68 = true := by decide +kernel
theorem ku53 : aLL cu53 (chkU JB ct53 cu53 kt53 20 68) = true := by decide +kernel
theorem ok53 {β : Nat} : KOK JB (W0 β) 68 kt53 := KOK_of W0_f (CT := ct53) (cuts := cu53) ⟨⟨ok11, trivial⟩, ⟨ok52, trivial⟩, ⟨ok23, ok24, ok25, ok26, ok27, trivial⟩, trivial⟩ ke53 (fun cu h => ⟨rfl, aLL_s ku53 cu h⟩) rfl
/-! HookSwings.Reader.changedOne(I)V -/
def kt54 : KT := ([.inl (.inr (.inr (some 70))), .inr (false, 5, 6)], none, [(22, 5, 5), (23, 0, 300), (28, 5, 5), (29, 0, 300), (34, 5, 5), (35, 0, 300), (40, 5, 5), (41, 0, 300), (46, 5, 5), (47, 0, 300), (70, 2, 4), (70, 6, 7)], [22, 23, 28, 29, 34, 35, 40, 41, 46, 47, 70], [(70, 4, .inr (false, 5, 5))], [(70, 4, .inr (false, 5, 5))], [], 20)
def ct54 : CTB := [(61, [kt11]), (70, [kt51]), (96, [kt23, kt24, kt25, kt26, kt27])]
def cu54 : List CU := []
theorem ke54 : chkE JB ct54 cu54 kt54 19 72 = true := by decide +kernel
theorem ok54 {β : Nat} : KOK JB (W0 β) 72 kt54 := KOK_of W0_f (CT := ct54) (cuts := cu54) ⟨⟨ok11, trivial⟩, ⟨ok51, trivial⟩, ⟨ok23, ok24, ok25, ok26, ok27, trivial⟩, trivial⟩ ke54 (fun cu h => by cases h) rfl
/-! HookSwings.Reader.ask()V -/
def kt55 : KT := ([.inl (.inr (.inr (some 70)))], none, [(22, 5, 5), (23, 0, 300), (28, 5, 5), (29, 0, 300), (34, 5, 5), (35, 0, 300), (40, 5, 5), (41, 0, 300), (46, 5, 5), (47, 0, 300), (70, 2, 4), (70, 6, 7)], [22, 23, 28, 29, 34, 35, 40, 41, 46, 47, 70], [(70, 4, .inr (false, 6, 6))], [(70, 4, .inr (false, 6, 6))], [], 22)
def ct55 : CTB := [(60, [kt10]), (61, [kt11]), (68, [kt53]), (77, [kt47]), (96, [kt23, kt24, kt25, kt26, kt27])]
def cu55 : List CU := []
theorem ke55 : chkE JB ct55 cu55 kt55 21 77 = true := by decide +kernel
theorem ok55 {β : Nat} : KOK JB (W0 β) 77 kt55 := KOK_of W0_f (CT := ct55) (cuts := cu55) ⟨⟨ok10, trivial⟩, ⟨ok11, trivial⟩, ⟨ok53, trivial⟩, ⟨ok47, trivial⟩, ⟨ok23, ok24, ok25, ok26, ok27, trivial⟩, trivial⟩ ke55 (fun cu h => by cases h) rfl
/-! HookSwings.Reader.both()V -/
def kt56 : KT := ([.inl (.inr (.inr (some 70)))], none, [(22, 5, 5), (23, 0, 300), (28, 5, 5), (29, 0, 300), (34, 5, 5), (35, 0, 300), (40, 5, 5), (41, 0, 300), (46, 5, 5), (47, 0, 300), (70, 2, 4), (70, 6, 7)], [22, 23, 28, 29, 34, 35, 40, 41, 46, 47, 70], [(70, 4, .inr (false, 6, 6))], [(70, 4, .inr (false, 6, 6))], [], 23)
def ct56 : CTB := [(61, [kt11]), (77, [kt55]), (96, [kt23, kt24, kt25, kt26, kt27])]
def cu56 : List CU := [(6, [some (.inl (.inr (.inr (some 70)))), some (.inr (false, (0, 300, 1, none)))], [(70, 4, .inl (6, 6, 1, none))], .inr (1, true, 300), .inl 0, .inl 0)]
theorem ke56 : chkE JB ct56 cu56 kt56 22 76 = true := by decide +kernel
theorem ku56 : aLL cu56 (chkU JB ct56 cu56 kt56 22 76) = true := by decide +kernel
theorem ok56 {β : Nat} : KOK JB (W0 β) 76 kt56 := KOK_of W0_f (CT := ct56) (cuts := cu56) ⟨⟨ok11, trivial⟩, ⟨ok55, trivial⟩, ⟨ok23, ok24, ok25, ok26, ok27, trivial⟩, trivial⟩ ke56 (fun cu h => ⟨rfl, aLL_s ku56 cu h⟩) rfl
/-! HookSwings.Reader.either()V -/
def kt57 : KT := ([.inl (.inr (.inr (some 70)))], none, [(22, 5, 5), (23, 0, 300), (28, 5, 5), (29, 0, 300), (34, 5, 5), (35, 0, 300), (40, 5, 5), (41, 0, 300), (46, 5, 5), (47, 0, 300), (70, 2, 4), (70, 6, 7)], [22, 23, 28, 29, 34, 35, 40, 41, 46, 47, 70], [(70, 4, .inr (false, 6, 6))], [(70, 4, .inr (false, 6, 6))], [], 24)
def ct57 : CTB := [(61, [kt11]), (76, [kt56]), (96, [kt23, kt24, kt25, kt26, kt27])]
def cu57 : List CU := [(6, [some (.inl (.inr (.inr (some 70)))), some (.inr (false, (0, 300, 1, none)))], [(70, 4, .inl (6, 6, 1, none))], .inr (1, true, 300), .inl 0, .inl 0)]
theorem ke57 : chkE JB ct57 cu57 kt57 23 75 = true := by decide +kernel
theorem ku57 : aLL cu57 (chkU JB ct57 cu57 kt57 23 75) = true := by decide +kernel
theorem ok57 {β : Nat} : KOK JB (W0 β) 75 kt57 := KOK_of W0_f (CT := ct57) (cuts := cu57) ⟨⟨ok11, trivial⟩, ⟨ok56, trivial⟩, ⟨ok23, ok24, ok25, ok26, ok27, trivial⟩, trivial⟩ ke57 (fun cu h => ⟨rfl, aLL_s ku57 cu h⟩) rfl
/-! HookSwings.Reader.choice()V -/
def kt58 : KT := ([.inl (.inr (.inr (some 70)))], none, [(22, 5, 5), (23, 0, 300), (28, 5, 5), (29, 0, 300), (34, 5, 5), (35, 0, 300), (40, 5, 5), (41, 0, 300), (46, 5, 5), (47, 0, 300), (70, 2, 4), (70, 6, 7)], [22, 23, 28, 29, 34, 35, 40, 41, 46, 47, 70], [(70, 4, .inr (false, 5, 5))], [(70, 4, .inr (false, 5, 5))], [], 25)
def ct58 : CTB := [(61, [kt11]), (62, [kt12]), (68, [kt53]), (75, [kt57]), (96, [kt23, kt24, kt25, kt26, kt27]), (97, [kt37, kt38, kt39, kt40, kt41])]
def cu58 : List CU := []
theorem ke58 : chkE JB ct58 cu58 kt58 24 74 = true := by decide +kernel
theorem ok58 {β : Nat} : KOK JB (W0 β) 74 kt58 := KOK_of W0_f (CT := ct58) (cuts := cu58) ⟨⟨ok11, trivial⟩, ⟨ok12, trivial⟩, ⟨ok53, trivial⟩, ⟨ok57, trivial⟩, ⟨ok23, ok24, ok25, ok26, ok27, trivial⟩, ⟨ok37, ok38, ok39, ok40, ok41, trivial⟩, trivial⟩ ke58 (fun cu h => by cases h) rfl
/-! HookSwings.Reader.one()V -/
def kt59 : KT := ([.inl (.inr (.inr (some 70)))], none, [(22, 5, 5), (23, 0, 300), (28, 5, 5), (29, 0, 300), (34, 5, 5), (35, 0, 300), (40, 5, 5), (41, 0, 300), (46, 5, 5), (47, 0, 300), (70, 2, 4), (70, 6, 7)], [22, 23, 28, 29, 34, 35, 40, 41, 46, 47, 70], [(70, 4, .inr (false, 5, 5))], [(70, 4, .inr (false, 5, 5))], [], 26)
def ct59 : CTB := [(61, [kt11]), (62, [kt12]), (63, [kt13]), (68, [kt53]), (72, [kt54]), (73, [kt28]), (74, [kt58]), (96, [kt23, kt24, kt25, kt26, kt27])]
def cu59 : List CU := []
theorem ke59 : chkE JB ct59 cu59 kt59 25 70 = true := by decide +kernel
theorem ok59 {β : Nat} : KOK JB (W0 β) 70 kt59 := KOK_of W0_f (CT := ct59) (cuts := cu59) ⟨⟨ok11, trivial⟩, ⟨ok12, trivial⟩, ⟨ok13, trivial⟩, ⟨ok53, trivial⟩, ⟨ok54, trivial⟩, ⟨ok28, trivial⟩, ⟨ok58, trivial⟩, ⟨ok23, ok24, ok25, ok26, ok27, trivial⟩, trivial⟩ ke59 (fun cu h => by cases h) rfl
/-! HookSwings.Reader.product()V -/
def kt60 : KT := ([.inl (.inr (.inr (some 70)))], none, [(22, 5, 5), (23, 0, 300), (28, 5, 5), (29, 0, 300), (34, 5, 5), (35, 0, 300), (40, 5, 5), (41, 0, 300), (46, 5, 5), (47, 0, 300), (70, 2, 4), (70, 6, 7)], [22, 23, 28, 29, 34, 35, 40, 41, 46, 47, 70], [(70, 4, .inr (false, 5, 5))], [(70, 4, .inr (false, 5, 5))], [], 27)
def ct60 : CTB := [(61, [kt11]), (70, [kt59]), (96, [kt23, kt24, kt25, kt26, kt27])]
def cu60 : List CU := [(6, [some (.inl (.inr (.inr (some 70)))), some (.inr (false, (0, 300, 1, none))), none], [(70, 4, .inl (5, 5, 1, none))], .inr (1, true, 300), .inl 0, .inl 0)]
theorem ke60 : chkE JB ct60 cu60 kt60 26 69 = true := by decide +kernel
theorem ku60 : aLL cu60 (chkU JB ct60 cu60 kt60 26 69) = true := by decide +kernel
theorem ok60 {β : Nat} : KOK JB (W0 β) 69 kt60 := KOK_of W0_f (CT := ct60) (cuts := cu60) ⟨⟨ok11, trivial⟩, ⟨ok59, trivial⟩, ⟨ok23, ok24, ok25, ok26, ok27, trivial⟩, trivial⟩ ke60 (fun cu h => ⟨rfl, aLL_s ku60 cu h⟩) rfl
/-! HookSwings.Reader.sum()V -/
def kt61 : KT := ([.inl (.inr (.inr (some 70)))], none, [(22, 5, 5), (23, 0, 300), (28, 5, 5), (29, 0, 300), (34, 5, 5), (35, 0, 300), (40, 5, 5), (41, 0, 300), (46, 5, 5), (47, 0, 300), (70, 2, 4), (70, 6, 7)], [22, 23, 28, 29, 34, 35, 40, 41, 46, 47, 70], [(70, 4, .inr (false, 5, 5))], [(70, 4, .inr (false, 5, 5))], [], 28)
def ct61 : CTB := [(61, [kt11]), (69, [kt60]), (96, [kt23, kt24, kt25, kt26, kt27])]
def cu61 : List CU := [(6, [some (.inl (.inr (.inr (some 70)))), some (.inr (false, (0, 300, 1, none))), none], [(70, 4, .inl (5, 5, 1, none))], .inr (1, true, 300), .inl 0, .inl 0)]
theorem ke61 : chkE JB ct61 cu61 kt61 27 68 = true := by decide +kernel
theorem ku61 : aLL cu61 (chkU JB ct61 cu61 kt61 27 68) = true := by decide +kernel
theorem ok61 {β : Nat} : KOK JB (W0 β) 68 kt61 := KOK_of W0_f (CT := ct61) (cuts := cu61) ⟨⟨ok11, trivial⟩, ⟨ok60, trivial⟩, ⟨ok23, ok24, ok25, ok26, ok27, trivial⟩, trivial⟩ ke61 (fun cu h => ⟨rfl, aLL_s ku61 cu h⟩) rfl
/-! HookSwings.Reader.changedOne(I)V -/
def kt62 : KT := ([.inl (.inr (.inr (some 70))), .inr (false, 5, 6)], none, [(22, 5, 5), (23, 0, 300), (28, 5, 5), (29, 0, 300), (34, 5, 5), (35, 0, 300), (40, 5, 5), (41, 0, 300), (46, 5, 5), (47, 0, 300), (70, 2, 4), (70, 6, 7)], [22, 23, 28, 29, 34, 35, 40, 41, 46, 47, 70], [(70, 4, .inr (false, 4, 4))], [(70, 4, .inr (false, 4, 4))], [], 27)
def ct62 : CTB := [(61, [kt11]), (70, [kt59]), (96, [kt23, kt24, kt25, kt26, kt27])]
def cu62 : List CU := []
theorem ke62 : chkE JB ct62 cu62 kt62 26 72 = true := by decide +kernel
theorem ok62 {β : Nat} : KOK JB (W0 β) 72 kt62 := KOK_of W0_f (CT := ct62) (cuts := cu62) ⟨⟨ok11, trivial⟩, ⟨ok59, trivial⟩, ⟨ok23, ok24, ok25, ok26, ok27, trivial⟩, trivial⟩ ke62 (fun cu h => by cases h) rfl
/-! HookSwings.Reader.ask()V -/
def kt63 : KT := ([.inl (.inr (.inr (some 70)))], none, [(22, 5, 5), (23, 0, 300), (28, 5, 5), (29, 0, 300), (34, 5, 5), (35, 0, 300), (40, 5, 5), (41, 0, 300), (46, 5, 5), (47, 0, 300), (70, 2, 4), (70, 6, 7)], [22, 23, 28, 29, 34, 35, 40, 41, 46, 47, 70], [(70, 4, .inr (false, 5, 5))], [(70, 4, .inr (false, 5, 5))], [], 29)
def ct63 : CTB := [(60, [kt10]), (61, [kt11]), (68, [kt61]), (77, [kt55]), (96, [kt23, kt24, kt25, kt26, kt27])]
def cu63 : List CU := []
theorem ke63 : chkE JB ct63 cu63 kt63 28 77 = true := by decide +kernel
theorem ok63 {β : Nat} : KOK JB (W0 β) 77 kt63 := KOK_of W0_f (CT := ct63) (cuts := cu63) ⟨⟨ok10, trivial⟩, ⟨ok11, trivial⟩, ⟨ok61, trivial⟩, ⟨ok55, trivial⟩, ⟨ok23, ok24, ok25, ok26, ok27, trivial⟩, trivial⟩ ke63 (fun cu h => by cases h) rfl
/-! HookSwings.Reader.both()V -/
def kt64 : KT := ([.inl (.inr (.inr (some 70)))], none, [(22, 5, 5), (23, 0, 300), (28, 5, 5), (29, 0, 300), (34, 5, 5), (35, 0, 300), (40, 5, 5), (41, 0, 300), (46, 5, 5), (47, 0, 300), (70, 2, 4), (70, 6, 7)], [22, 23, 28, 29, 34, 35, 40, 41, 46, 47, 70], [(70, 4, .inr (false, 5, 5))], [(70, 4, .inr (false, 5, 5))], [], 30)
def ct64 : CTB := [(61, [kt11]), (77, [kt63]), (96, [kt23, kt24, kt25, kt26, kt27])]
def cu64 : List CU := [(6, [some (.inl (.inr (.inr (some 70)))), some (.inr (false, (0, 300, 1, none)))], [(70, 4, .inl (5, 5, 1, none))], .inr (1, true, 300), .inl 0, .inl 0)]
theorem ke64 : chkE JB ct64 cu64 kt64 29 76 = true := by decide +kernel
theorem ku64 : aLL cu64 (chkU JB ct64 cu64 kt64 29 76) = true := by decide +kernel
theorem ok64 {β : Nat} : KOK JB (W0 β) 76 kt64 := KOK_of W0_f (CT := ct64) (cuts := cu64) ⟨⟨ok11, trivial⟩, ⟨ok63, trivial⟩, ⟨ok23, ok24, ok25, ok26, ok27, trivial⟩, trivial⟩ ke64 (fun cu h => ⟨rfl, aLL_s ku64 cu h⟩) rfl
/-! HookSwings.Reader.either()V -/
def kt65 : KT := ([.inl (.inr (.inr (some 70)))], none, [(22, 5, 5), (23, 0, 300), (28, 5, 5), (29, 0, 300), (34, 5, 5), (35, 0, 300), (40, 5, 5), (41, 0, 300), (46, 5, 5), (47, 0, 300), (70, 2, 4), (70, 6, 7)], [22, 23, 28, 29, 34, 35, 40, 41, 46, 47, 70], [(70, 4, .inr (false, 5, 5))], [(70, 4, .inr (false, 5, 5))], [], 31)
def ct65 : CTB := [(61, [kt11]), (76, [kt64]), (96, [kt23, kt24, kt25, kt26, kt27])]
def cu65 : List CU := [(6, [some (.inl (.inr (.inr (some 70)))), some (.inr (false, (0, 300, 1, none)))], [(70, 4, .inl (5, 5, 1, none))], .inr (1, true, 300), .inl 0, .inl 0)]
theorem ke65 : chkE JB ct65 cu65 kt65 30 75 = true := by decide +kernel
theorem ku65 : aLL cu65 (chkU JB ct65 cu65 kt65 30 75) = true := by decide +kernel
theorem ok65 {β : Nat} : KOK JB (W0 β) 75 kt65 := KOK_of W0_f (CT := ct65) (cuts := cu65) ⟨⟨ok11, trivial⟩, ⟨ok64, trivial⟩, ⟨ok23, ok24, ok25, ok26, ok27, trivial⟩, trivial⟩ ke65 (fun cu h => ⟨rfl, aLL_s ku65 cu h⟩) rfl
/-! HookSwings.Reader.choice()V -/
def kt66 : KT := ([.inl (.inr (.inr (some 70)))], none, [(22, 5, 5), (23, 0, 300), (28, 5, 5), (29, 0, 300), (34, 5, 5), (35, 0, 300), (40, 5, 5), (41, 0, 300), (46, 5, 5), (47, 0, 300), (70, 2, 4), (70, 6, 7)], [22, 23, 28, 29, 34, 35, 40, 41, 46, 47, 70], [(70, 4, .inr (false, 4, 4))], [(70, 4, .inr (false, 4, 4))], [], 32)
def ct66 : CTB := [(61, [kt11]), (62, [kt12]), (68, [kt61]), (75, [kt65]), (96, [kt23, kt24, kt25, kt26, kt27]), (97, [kt37, kt38, kt39, kt40, kt41])]
def cu66 : List CU := []
theorem ke66 : chkE JB ct66 cu66 kt66 31 74 = true := by decide +kernel
theorem ok66 {β : Nat} : KOK JB (W0 β) 74 kt66 := KOK_of W0_f (CT := ct66) (cuts := cu66) ⟨⟨ok11, trivial⟩, ⟨ok12, trivial⟩, ⟨ok61, trivial⟩, ⟨ok65, trivial⟩, ⟨ok23, ok24, ok25, ok26, ok27, trivial⟩, ⟨ok37, ok38, ok39, ok40, ok41, trivial⟩, trivial⟩ ke66 (fun cu h => by cases h) rfl
/-! HookSwings.Reader.one()V -/
def kt67 : KT := ([.inl (.inr (.inr (some 70)))], none, [(22, 5, 5), (23, 0, 300), (28, 5, 5), (29, 0, 300), (34, 5, 5), (35, 0, 300), (40, 5, 5), (41, 0, 300), (46, 5, 5), (47, 0, 300), (70, 2, 4), (70, 6, 7)], [22, 23, 28, 29, 34, 35, 40, 41, 46, 47, 70], [(70, 4, .inr (false, 4, 4))], [(70, 4, .inr (false, 4, 4))], [], 33)
def ct67 : CTB := [(61, [kt11]), (62, [kt12]), (63, [kt13]), (68, [kt61]), (72, [kt62]), (73, [kt28]), (74, [kt66]), (96, [kt23, kt24, kt25, kt26, kt27])]
def cu67 : List CU := []
theorem ke67 : chkE JB ct67 cu67 kt67 32 70 = true := by decide +kernel
theorem ok67 {β : Nat} : KOK JB (W0 β) 70 kt67 := KOK_of W0_f (CT := ct67) (cuts := cu67) ⟨⟨ok11, trivial⟩, ⟨ok12, trivial⟩, ⟨ok13, trivial⟩, ⟨ok61, trivial⟩, ⟨ok62, trivial⟩, ⟨ok28, trivial⟩, ⟨ok66, trivial⟩, ⟨ok23, ok24, ok25, ok26, ok27, trivial⟩, trivial⟩ ke67 (fun cu h => by cases h) rfl
/-! HookSwings.Reader.product()V -/
def kt68 : KT := ([.inl (.inr (.inr (some 70)))], none, [(22, 5, 5), (23, 0, 300), (28, 5, 5), (29, 0, 300), (34, 5, 5), (35, 0, 300), (40, 5, 5), (41, 0, 300), (46, 5, 5), (47, 0, 300), (70, 2, 4), (70, 6, 7)], [22, 23, 28, 29, 34, 35, 40, 41, 46, 47, 70], [(70, 4, .inr (false, 4, 4))], [(70, 4, .inr (false, 4, 4))], [], 34)
def ct68 : CTB := [(61, [kt11]), (70, [kt67]), (96, [kt23, kt24, kt25, kt26, kt27])]
def cu68 : List CU := [(6, [some (.inl (.inr (.inr (some 70)))), some (.inr (false, (0, 300, 1, none))), none], [(70, 4, .inl (4, 4, 1, none))], .inr (1, true, 300), .inl 0, .inl 0)]
theorem ke68 : chkE JB ct68 cu68 kt68 33 69 = true := by decide +kernel
theorem ku68 : aLL cu68 (chkU JB ct68 cu68 kt68 33 69) = true := by decide +kernel
theorem ok68 {β : Nat} : KOK JB (W0 β) 69 kt68 := KOK_of W0_f (CT := ct68) (cuts := cu68) ⟨⟨ok11, trivial⟩, ⟨ok67, trivial⟩, ⟨ok23, ok24, ok25, ok26, ok27, trivial⟩, trivial⟩ ke68 (fun cu h => ⟨rfl, aLL_s ku68 cu h⟩) rfl
/-! HookSwings.Reader.sum()V -/
def kt69 : KT := ([.inl (.inr (.inr (some 70)))], none, [(22, 5, 5), (23, 0, 300), (28, 5, 5), (29, 0, 300), (34, 5, 5), (35, 0, 300), (40, 5, 5), (41, 0, 300), (46, 5, 5), (47, 0, 300), (70, 2, 4), (70, 6, 7)], [22, 23, 28, 29, 34, 35, 40, 41, 46, 47, 70], [(70, 4, .inr (false, 4, 4))], [(70, 4, .inr (false, 4, 4))], [], 35)
def ct69 : CTB := [(61, [kt11]), (69, [kt68]), (96, [kt23, kt24, kt25, kt26, kt27])]
def cu69 : List CU := [(6, [some (.inl (.inr (.inr (some 70)))), some (.inr (false, (0, 300, 1, none))), none], [(70, 4, .inl (4, 4, 1, none))], .inr (1, true, 300), .inl 0, .inl 0)]
theorem ke69 : chkE JB ct69 cu69 kt69 34 68 = true := by decide +kernel
theorem ku69 : aLL cu69 (chkU JB ct69 cu69 kt69 34 68) = true := by decide +kernel
theorem ok69 {β : Nat} : KOK JB (W0 β) 68 kt69 := KOK_of W0_f (CT := ct69) (cuts := cu69) ⟨⟨ok11, trivial⟩, ⟨ok68, trivial⟩, ⟨ok23, ok24, ok25, ok26, ok27, trivial⟩, trivial⟩ ke69 (fun cu h => ⟨rfl, aLL_s ku69 cu h⟩) rfl
/-! HookSwings.Reader.changedOne(I)V -/
def kt70 : KT := ([.inl (.inr (.inr (some 70))), .inr (false, 5, 6)], none, [(22, 5, 5), (23, 0, 300), (28, 5, 5), (29, 0, 300), (34, 5, 5), (35, 0, 300), (40, 5, 5), (41, 0, 300), (46, 5, 5), (47, 0, 300), (70, 2, 4), (70, 6, 7)], [22, 23, 28, 29, 34, 35, 40, 41, 46, 47, 70], [(70, 4, .inr (false, 3, 3))], [(70, 4, .inr (false, 3, 3))], [], 34)
def ct70 : CTB := [(61, [kt11]), (70, [kt67]), (96, [kt23, kt24, kt25, kt26, kt27])]
def cu70 : List CU := []
theorem ke70 : chkE JB ct70 cu70 kt70 33 72 = true := by decide +kernel
theorem ok70 {β : Nat} : KOK JB (W0 β) 72 kt70 := KOK_of W0_f (CT := ct70) (cuts := cu70) ⟨⟨ok11, trivial⟩, ⟨ok67, trivial⟩, ⟨ok23, ok24, ok25, ok26, ok27, trivial⟩, trivial⟩ ke70 (fun cu h => by cases h) rfl
/-! HookSwings.Reader.ask()V -/
def kt71 : KT := ([.inl (.inr (.inr (some 70)))], none, [(22, 5, 5), (23, 0, 300), (28, 5, 5), (29, 0, 300), (34, 5, 5), (35, 0, 300), (40, 5, 5), (41, 0, 300), (46, 5, 5), (47, 0, 300), (70, 2, 4), (70, 6, 7)], [22, 23, 28, 29, 34, 35, 40, 41, 46, 47, 70], [(70, 4, .inr (false, 4, 4))], [(70, 4, .inr (false, 4, 4))], [], 36)
def ct71 : CTB := [(60, [kt10]), (61, [kt11]), (68, [kt69]), (77, [kt63]), (96, [kt23, kt24, kt25, kt26, kt27])]
def cu71 : List CU := []
theorem ke71 : chkE JB ct71 cu71 kt71 35 77 = true := by decide +kernel
theorem ok71 {β : Nat} : KOK JB (W0 β) 77 kt71 := KOK_of W0_f (CT := ct71) (cuts := cu71) ⟨⟨ok10, trivial⟩, ⟨ok11, trivial⟩, ⟨ok69, trivial⟩, ⟨ok63, trivial⟩, ⟨ok23, ok24, ok25, ok26, ok27, trivial⟩, trivial⟩ ke71 (fun cu h => by cases h) rfl
/-! HookSwings.Reader.both()V -/
def kt72 : KT := ([.inl (.inr (.inr (some 70)))], none, [(22, 5, 5), (23, 0, 300), (28, 5, 5), (29, 0, 300), (34, 5, 5), (35, 0, 300), (40, 5, 5), (41, 0, 300), (46, 5, 5), (47, 0, 300), (70, 2, 4), (70, 6, 7)], [22, 23, 28, 29, 34, 35, 40, 41, 46, 47, 70], [(70, 4, .inr (false, 4, 4))], [(70, 4, .inr (false, 4, 4))], [], 37)
def ct72 : CTB := [(61, [kt11]), (77, [kt71]), (96, [kt23, kt24, kt25, kt26, kt27])]
def cu72 : List CU := [(6, [some (.inl (.inr (.inr (some 70)))), some (.inr (false, (0, 300, 1, none)))], [(70, 4, .inl (4, 4, 1, none))], .inr (1, true, 300), .inl 0, .inl 0)]
theorem ke72 : chkE JB ct72 cu72 kt72 36 76 = true := by decide +kernel
theorem ku72 : aLL cu72 (chkU JB ct72 cu72 kt72 36 76) = true := by decide +kernel
theorem ok72 {β : Nat} : KOK JB (W0 β) 76 kt72 := KOK_of W0_f (CT := ct72) (cuts := cu72) ⟨⟨ok11, trivial⟩, ⟨ok71, trivial⟩, ⟨ok23, ok24, ok25, ok26, ok27, trivial⟩, trivial⟩ ke72 (fun cu h => ⟨rfl, aLL_s ku72 cu h⟩) rfl
/-! HookSwings.Reader.either()V -/
def kt73 : KT := ([.inl (.inr (.inr (some 70)))], none, [(22, 5, 5), (23, 0, 300), (28, 5, 5), (29, 0, 300), (34, 5, 5), (35, 0, 300), (40, 5, 5), (41, 0, 300), (46, 5, 5), (47, 0, 300), (70, 2, 4), (70, 6, 7)], [22, 23, 28, 29, 34, 35, 40, 41, 46, 47, 70], [(70, 4, .inr (false, 4, 4))], [(70, 4, .inr (false, 4, 4))], [], 38)
def ct73 : CTB := [(61, [kt11]), (76, [kt72]), (96, [kt23, kt24, kt25, kt26, kt27])]
def cu73 : List CU := [(6, [some (.inl (.inr (.inr (some 70)))), some (.inr (false, (0, 300, 1, none)))], [(70, 4, .inl (4, 4, 1, none))], .inr (1, true, 300), .inl 0, .inl 0)]
theorem ke73 : chkE JB ct73 cu73 kt73 37 75 = true := by decide +kernel
theorem ku73 : aLL cu73 (chkU JB ct73 cu73 kt73 37 75) = true := by decide +kernel
theorem ok73 {β : Nat} : KOK JB (W0 β) 75 kt73 := KOK_of W0_f (CT := ct73) (cuts := cu73) ⟨⟨ok11, trivial⟩, ⟨ok72, trivial⟩, ⟨ok23, ok24, ok25, ok26, ok27, trivial⟩, trivial⟩ ke73 (fun cu h => ⟨rfl, aLL_s ku73 cu h⟩) rfl
/-! HookSwings.Reader.choice()V -/
def kt74 : KT := ([.inl (.inr (.inr (some 70)))], none, [(22, 5, 5), (23, 0, 300), (28, 5, 5), (29, 0, 300), (34, 5, 5), (35, 0, 300), (40, 5, 5), (41, 0, 300), (46, 5, 5), (47, 0, 300), (70, 2, 4), (70, 6, 7)], [22, 23, 28, 29, 34, 35, 40, 41, 46, 47, 70], [(70, 4, .inr (false, 3, 3))], [(70, 4, .inr (false, 3, 3))], [], 39)
def ct74 : CTB := [(61, [kt11]), (62, [kt12]), (68, [kt69]), (75, [kt73]), (96, [kt23, kt24, kt25, kt26, kt27]), (97, [kt37, kt38, kt39, kt40, kt41])]
def cu74 : List CU := []
theorem ke74 : chkE JB ct74 cu74 kt74 38 74 = true := by decide +kernel
theorem ok74 {β : Nat} : KOK JB (W0 β) 74 kt74 := KOK_of W0_f (CT := ct74) (cuts := cu74) ⟨⟨ok11, trivial⟩, ⟨ok12, trivial⟩, ⟨ok69, trivial⟩, ⟨ok73, trivial⟩, ⟨ok23, ok24, ok25, ok26, ok27, trivial⟩, ⟨ok37, ok38, ok39, ok40, ok41, trivial⟩, trivial⟩ ke74 (fun cu h => by cases h) rfl
/-! HookSwings.Reader.one()V -/
def kt75 : KT := ([.inl (.inr (.inr (some 70)))], none, [(22, 5, 5), (23, 0, 300), (28, 5, 5), (29, 0, 300), (34, 5, 5), (35, 0, 300), (40, 5, 5), (41, 0, 300), (46, 5, 5), (47, 0, 300), (70, 2, 4), (70, 6, 7)], [22, 23, 28, 29, 34, 35, 40, 41, 46, 47, 70], [(70, 4, .inr (false, 3, 3))], [(70, 4, .inr (false, 3, 3))], [], 40)
def ct75 : CTB := [(61, [kt11]), (62, [kt12]), (63, [kt13]), (68, [kt69]), (72, [kt70]), (73, [kt28]), (74, [kt74]), (96, [kt23, kt24, kt25, kt26, kt27])]
def cu75 : List CU := []
theorem ke75 : chkE JB ct75 cu75 kt75 39 70 = true := by decide +kernel
theorem ok75 {β : Nat} : KOK JB (W0 β) 70 kt75 := KOK_of W0_f (CT := ct75) (cuts := cu75) ⟨⟨ok11, trivial⟩, ⟨ok12, trivial⟩, ⟨ok13, trivial⟩, ⟨ok69, trivial⟩, ⟨ok70, trivial⟩, ⟨ok28, trivial⟩, ⟨ok74, trivial⟩, ⟨ok23, ok24, ok25, ok26, ok27, trivial⟩, trivial⟩ ke75 (fun cu h => by cases h) rfl
/-! HookSwings.Reader.product()V -/
def kt76 : KT := ([.inl (.inr (.inr (some 70)))], none, [(22, 5, 5), (23, 0, 300), (28, 5, 5), (29, 0, 300), (34, 5, 5), (35, 0, 300), (40, 5, 5), (41, 0, 300), (46, 5, 5), (47, 0, 300), (70, 2, 4), (70, 6, 7)], [22, 23, 28, 29, 34, 35, 40, 41, 46, 47, 70], [(70, 4, .inr (false, 3, 3))], [(70, 4, .inr (false, 3, 3))], [], 41)
def ct76 : CTB := [(61, [kt11]), (70, [kt75]), (96, [kt23, kt24, kt25, kt26, kt27])]
def cu76 : List CU := [(6, [some (.inl (.inr (.inr (some 70)))), some (.inr (false, (0, 300, 1, none))), none], [(70, 4, .inl (3, 3, 1, none))], .inr (1, true, 300), .inl 0, .inl 0)]
theorem ke76 : chkE JB ct76 cu76 kt76 40 69 = true := by decide +kernel
theorem ku76 : aLL cu76 (chkU JB ct76 cu76 kt76 40 69) = true := by decide +kernel
theorem ok76 {β : Nat} : KOK JB (W0 β) 69 kt76 := KOK_of W0_f (CT := ct76) (cuts := cu76) ⟨⟨ok11, trivial⟩, ⟨ok75, trivial⟩, ⟨ok23, ok24, ok25, ok26, ok27, trivial⟩, trivial⟩ ke76 (fun cu h => ⟨rfl, aLL_s ku76 cu h⟩) rfl
/-! HookSwings.Reader.sum()V -/
def kt77 : KT := ([.inl (.inr (.inr (some 70)))], none, [(22, 5, 5), (23, 0, 300), (28, 5, 5), (29, 0, 300), (34, 5, 5), (35, 0, 300), (40, 5, 5), (41, 0, 300), (46, 5, 5), (47, 0, 300), (70, 2, 4), (70, 6, 7)], [22, 23, 28, 29, 34, 35, 40, 41, 46, 47, 70], [(70, 4, .inr (false, 3, 3))], [(70, 4, .inr (false, 3, 3))], [], 42)
def ct77 : CTB := [(61, [kt11]), (69, [kt76]), (96, [kt23, kt24, kt25, kt26, kt27])]
def cu77 : List CU := [(6, [some (.inl (.inr (.inr (some 70)))), some (.inr (false, (0, 300, 1, none))), none], [(70, 4, .inl (3, 3, 1, none))], .inr (1, true, 300), .inl 0, .inl 0)]
theorem ke77 : chkE JB ct77 cu77 kt77 41 68 = true := by decide +kernel
theorem ku77 : aLL cu77 (chkU JB ct77 cu77 kt77 41 68) = true := by decide +kernel
theorem ok77 {β : Nat} : KOK JB (W0 β) 68 kt77 := KOK_of W0_f (CT := ct77) (cuts := cu77) ⟨⟨ok11, trivial⟩, ⟨ok76, trivial⟩, ⟨ok23, ok24, ok25, ok26, ok27, trivial⟩, trivial⟩ ke77 (fun cu h => ⟨rfl, aLL_s ku77 cu h⟩) rfl
/-! HookSwings.Reader.changedOne(I)V -/
def kt78 : KT := ([.inl (.inr (.inr (some 70))), .inr (false, 5, 6)], none, [(22, 5, 5), (23, 0, 300), (28, 5, 5), (29, 0, 300), (34, 5, 5), (35, 0, 300), (40, 5, 5), (41, 0, 300), (46, 5, 5), (47, 0, 300), (70, 2, 4), (70, 6, 7)], [22, 23, 28, 29, 34, 35, 40, 41, 46, 47, 70], [(70, 4, .inr (false, 2, 2))], [(70, 4, .inr (false, 2, 2))], [], 41)
def ct78 : CTB := [(61, [kt11]), (70, [kt75]), (96, [kt23, kt24, kt25, kt26, kt27])]
def cu78 : List CU := []
theorem ke78 : chkE JB ct78 cu78 kt78 40 72 = true := by decide +kernel
theorem ok78 {β : Nat} : KOK JB (W0 β) 72 kt78 := KOK_of W0_f (CT := ct78) (cuts := cu78) ⟨⟨ok11, trivial⟩, ⟨ok75, trivial⟩, ⟨ok23, ok24, ok25, ok26, ok27, trivial⟩, trivial⟩ ke78 (fun cu h => by cases h) rfl
/-! HookSwings.Reader.ask()V -/
def kt79 : KT := ([.inl (.inr (.inr (some 70)))], none, [(22, 5, 5), (23, 0, 300), (28, 5, 5), (29, 0, 300), (34, 5, 5), (35, 0, 300), (40, 5, 5), (41, 0, 300), (46, 5, 5), (47, 0, 300), (70, 2, 4), (70, 6, 7)], [22, 23, 28, 29, 34, 35, 40, 41, 46, 47, 70], [(70, 4, .inr (false, 3, 3))], [(70, 4, .inr (false, 3, 3))], [], 43)
def ct79 : CTB := [(60, [kt10]), (61, [kt11]), (68, [kt77]), (77, [kt71]), (96, [kt23, kt24, kt25, kt26, kt27])]
def cu79 : List CU := []
theorem ke79 : chkE JB ct79 cu79 kt79 42 77 = true := by decide +kernel
theorem ok79 {β : Nat} : KOK JB (W0 β) 77 kt79 := KOK_of W0_f (CT := ct79) (cuts := cu79) ⟨⟨ok10, trivial⟩, ⟨ok11, trivial⟩, ⟨ok77, trivial⟩, ⟨ok71, trivial⟩, ⟨ok23, ok24, ok25, ok26, ok27, trivial⟩, trivial⟩ ke79 (fun cu h => by cases h) rfl
/-! HookSwings.Reader.both()V -/
def kt80 : KT := ([.inl (.inr (.inr (some 70)))], none, [(22, 5, 5), (23, 0, 300), (28, 5, 5), (29, 0, 300), (34, 5, 5), (35, 0, 300), (40, 5, 5), (41, 0, 300), (46, 5, 5), (47, 0, 300), (70, 2, 4), (70, 6, 7)], [22, 23, 28, 29, 34, 35, 40, 41, 46, 47, 70], [(70, 4, .inr (false, 3, 3))], [(70, 4, .inr (false, 3, 3))], [], 44)
def ct80 : CTB := [(61, [kt11]), (77, [kt79]), (96, [kt23, kt24, kt25, kt26, kt27])]
def cu80 : List CU := [(6, [some (.inl (.inr (.inr (some 70)))), some (.inr (false, (0, 300, 1, none)))], [(70, 4, .inl (3, 3, 1, none))], .inr (1, true, 300), .inl 0, .inl 0)]
theorem ke80 : chkE JB ct80 cu80 kt80 43 76 = true := by decide +kernel
theorem ku80 : aLL cu80 (chkU JB ct80 cu80 kt80 43 76) = true := by decide +kernel
theorem ok80 {β : Nat} : KOK JB (W0 β) 76 kt80 := KOK_of W0_f (CT := ct80) (cuts := cu80) ⟨⟨ok11, trivial⟩, ⟨ok79, trivial⟩, ⟨ok23, ok24, ok25, ok26, ok27, trivial⟩, trivial⟩ ke80 (fun cu h => ⟨rfl, aLL_s ku80 cu h⟩) rfl
/-! HookSwings.Reader.either()V -/
def kt81 : KT := ([.inl (.inr (.inr (some 70)))], none, [(22, 5, 5), (23, 0, 300), (28, 5, 5), (29, 0, 300), (34, 5, 5), (35, 0, 300), (40, 5, 5), (41, 0, 300), (46, 5, 5), (47, 0, 300), (70, 2, 4), (70, 6, 7)], [22, 23, 28, 29, 34, 35, 40, 41, 46, 47, 70], [(70, 4, .inr (false, 3, 3))], [(70, 4, .inr (false, 3, 3))], [], 45)
def ct81 : CTB := [(61, [kt11]), (76, [kt80]), (96, [kt23, kt24, kt25, kt26, kt27])]
def cu81 : List CU := [(6, [some (.inl (.inr (.inr (some 70)))), some (.inr (false, (0, 300, 1, none)))], [(70, 4, .inl (3, 3, 1, none))], .inr (1, true, 300), .inl 0, .inl 0)]
theorem ke81 : chkE JB ct81 cu81 kt81 44 75 = true := by decide +kernel
theorem ku81 : aLL cu81 (chkU JB ct81 cu81 kt81 44 75) = true := by decide +kernel
theorem ok81 {β : Nat} : KOK JB (W0 β) 75 kt81 := KOK_of W0_f (CT := ct81) (cuts := cu81) ⟨⟨ok11, trivial⟩, ⟨ok80, trivial⟩, ⟨ok23, ok24, ok25, ok26, ok27, trivial⟩, trivial⟩ ke81 (fun cu h => ⟨rfl, aLL_s ku81 cu h⟩) rfl
/-! HookSwings.Reader.choice()V -/
def kt82 : KT := ([.inl (.inr (.inr (some 70)))], none, [(22, 5, 5), (23, 0, 300), (28, 5, 5), (29, 0, 300), (34, 5, 5), (35, 0, 300), (40, 5, 5), (41, 0, 300), (46, 5, 5), (47, 0, 300), (70, 2, 4), (70, 6, 7)], [22, 23, 28, 29, 34, 35, 40, 41, 46, 47, 70], [(70, 4, .inr (false, 2, 2))], [(70, 4, .inr (false, 2, 2))], [], 46)
def ct82 : CTB := [(61, [kt11]), (62, [kt12]), (68, [kt77]), (75, [kt81]), (96, [kt23, kt24, kt25, kt26, kt27]), (97, [kt37, kt38, kt39, kt40, kt41])]
def cu82 : List CU := []
theorem ke82 : chkE JB ct82 cu82 kt82 45 74 = true := by decide +kernel
theorem ok82 {β : Nat} : KOK JB (W0 β) 74 kt82 := KOK_of W0_f (CT := ct82) (cuts := cu82) ⟨⟨ok11, trivial⟩, ⟨ok12, trivial⟩, ⟨ok77, trivial⟩, ⟨ok81, trivial⟩, ⟨ok23, ok24, ok25, ok26, ok27, trivial⟩, ⟨ok37, ok38, ok39, ok40, ok41, trivial⟩, trivial⟩ ke82 (fun cu h => by cases h) rfl
/-! HookSwings.Reader.one()V -/
def kt83 : KT := ([.inl (.inr (.inr (some 70)))], none, [(22, 5, 5), (23, 0, 300), (28, 5, 5), (29, 0, 300), (34, 5, 5), (35, 0, 300), (40, 5, 5), (41, 0, 300), (46, 5, 5), (47, 0, 300), (70, 2, 4), (70, 6, 7)], [22, 23, 28, 29, 34, 35, 40, 41, 46, 47, 70], [(70, 4, .inr (false, 2, 2))], [(70, 4, .inr (false, 2, 2))], [], 47)
def ct83 : CTB := [(61, [kt11]), (62, [kt12]), (63, [kt13]), (68, [kt77]), (72, [kt78]), (73, [kt28]), (74, [kt82]), (96, [kt23, kt24, kt25, kt26, kt27])]
def cu83 : List CU := []
theorem ke83 : chkE JB ct83 cu83 kt83 46 70 = true := by decide +kernel
theorem ok83 {β : Nat} : KOK JB (W0 β) 70 kt83 := KOK_of W0_f (CT := ct83) (cuts := cu83) ⟨⟨ok11, trivial⟩, ⟨ok12, trivial⟩, ⟨ok13, trivial⟩, ⟨ok77, trivial⟩, ⟨ok78, trivial⟩, ⟨ok28, trivial⟩, ⟨ok82, trivial⟩, ⟨ok23, ok24, ok25, ok26, ok27, trivial⟩, trivial⟩ ke83 (fun cu h => by cases h) rfl
/-! HookSwings.Reader.product()V -/
def kt84 : KT := ([.inl (.inr (.inr (some 70)))], none, [(22, 5, 5), (23, 0, 300), (28, 5, 5), (29, 0, 300), (34, 5, 5), (35, 0, 300), (40, 5, 5), (41, 0, 300), (46, 5, 5), (47, 0, 300), (70, 2, 4), (70, 6, 7)], [22, 23, 28, 29, 34, 35, 40, 41, 46, 47, 70], [(70, 4, .inr (false, 2, 2))], [(70, 4, .inr (false, 2, 2))], [], 48)
def ct84 : CTB := [(61, [kt11]), (70, [kt83]), (96, [kt23, kt24, kt25, kt26, kt27])]
def cu84 : List CU := [(6, [some (.inl (.inr (.inr (some 70)))), some (.inr (false, (0, 300, 1, none))), none], [(70, 4, .inl (2, 2, 1, none))], .inr (1, true, 300), .inl 0, .inl 0)]
theorem ke84 : chkE JB ct84 cu84 kt84 47 69 = true := by decide +kernel
theorem ku84 : aLL cu84 (chkU JB ct84 cu84 kt84 47 69) = true := by decide +kernel
theorem ok84 {β : Nat} : KOK JB (W0 β) 69 kt84 := KOK_of W0_f (CT := ct84) (cuts := cu84) ⟨⟨ok11, trivial⟩, ⟨ok83, trivial⟩, ⟨ok23, ok24, ok25, ok26, ok27, trivial⟩, trivial⟩ ke84 (fun cu h => ⟨rfl, aLL_s ku84 cu h⟩) rfl
/-! HookSwings.Reader.sum()V -/
def kt85 : KT := ([.inl (.inr (.inr (some 70)))], none, [(22, 5, 5), (23, 0, 300), (28, 5, 5), (29, 0, 300), (34, 5, 5), (35, 0, 300), (40, 5, 5), (41, 0, 300), (46, 5, 5), (47, 0, 300), (70, 2, 4), (70, 6, 7)], [22, 23, 28, 29, 34, 35, 40, 41, 46, 47, 70], [(70, 4, .inr (false, 2, 2))], [(70, 4, .inr (false, 2, 2))], [], 49)
def ct85 : CTB := [(61, [kt11]), (69, [kt84]), (96, [kt23, kt24, kt25, kt26, kt27])]
def cu85 : List CU := [(6, [some (.inl (.inr (.inr (some 70)))), some (.inr (false, (0, 300, 1, none))), none], [(70, 4, .inl (2, 2, 1, none))], .inr (1, true, 300), .inl 0, .inl 0)]
theorem ke85 : chkE JB ct85 cu85 kt85 48 68 = true := by decide +kernel
theorem ku85 : aLL cu85 (chkU JB ct85 cu85 kt85 48 68) = true := by decide +kernel
theorem ok85 {β : Nat} : KOK JB (W0 β) 68 kt85 := KOK_of W0_f (CT := ct85) (cuts := cu85) ⟨⟨ok11, trivial⟩, ⟨ok84, trivial⟩, ⟨ok23, ok24, ok25, ok26, ok27, trivial⟩, trivial⟩ ke85 (fun cu h => ⟨rfl, aLL_s ku85 cu h⟩) rfl
/-! HookSwings.Reader.changedOne(I)V -/
def kt86 : KT := ([.inl (.inr (.inr (some 70))), .inr (false, 5, 6)], none, [(22, 5, 5), (23, 0, 300), (28, 5, 5), (29, 0, 300), (34, 5, 5), (35, 0, 300), (40, 5, 5), (41, 0, 300), (46, 5, 5), (47, 0, 300), (70, 2, 4), (70, 6, 7)], [22, 23, 28, 29, 34, 35, 40, 41, 46, 47, 70], [(70, 4, .inr (false, 1, 1))], [(70, 4, .inr (false, 1, 1))], [], 48)
def ct86 : CTB := [(61, [kt11]), (70, [kt83]), (96, [kt23, kt24, kt25, kt26, kt27])]
def cu86 : List CU := []
theorem ke86 : chkE JB ct86 cu86 kt86 47 72 = true := by decide +kernel
theorem ok86 {β : Nat} : KOK JB (W0 β) 72 kt86 := KOK_of W0_f (CT := ct86) (cuts := cu86) ⟨⟨ok11, trivial⟩, ⟨ok83, trivial⟩, ⟨ok23, ok24, ok25, ok26, ok27, trivial⟩, trivial⟩ ke86 (fun cu h => by cases h) rfl
/-! HookSwings.Reader.ask()V -/
def kt87 : KT := ([.inl (.inr (.inr (some 70)))], none, [(22, 5, 5), (23, 0, 300), (28, 5, 5), (29, 0, 300), (34, 5, 5), (35, 0, 300), (40, 5, 5), (41, 0, 300), (46, 5, 5), (47, 0, 300), (70, 2, 4), (70, 6, 7)], [22, 23, 28, 29, 34, 35, 40, 41, 46, 47, 70], [(70, 4, .inr (false, 2, 2))], [(70, 4, .inr (false, 2, 2))], [], 50)
def ct87 : CTB := [(60, [kt10]), (61, [kt11]), (68, [kt85]), (77, [kt79]), (96, [kt23, kt24, kt25, kt26, kt27])]
def cu87 : List CU := []
theorem ke87 : chkE JB ct87 cu87 kt87 49 77 = true := by decide +kernel
theorem ok87 {β : Nat} : KOK JB (W0 β) 77 kt87 := KOK_of W0_f (CT := ct87) (cuts := cu87) ⟨⟨ok10, trivial⟩, ⟨ok11, trivial⟩, ⟨ok85, trivial⟩, ⟨ok79, trivial⟩, ⟨ok23, ok24, ok25, ok26, ok27, trivial⟩, trivial⟩ ke87 (fun cu h => by cases h) rfl
/-! HookSwings.Reader.both()V -/
def kt88 : KT := ([.inl (.inr (.inr (some 70)))], none, [(22, 5, 5), (23, 0, 300), (28, 5, 5), (29, 0, 300), (34, 5, 5), (35, 0, 300), (40, 5, 5), (41, 0, 300), (46, 5, 5), (47, 0, 300), (70, 2, 4), (70, 6, 7)], [22, 23, 28, 29, 34, 35, 40, 41, 46, 47, 70], [(70, 4, .inr (false, 2, 2))], [(70, 4, .inr (false, 2, 2))], [], 51)
def ct88 : CTB := [(61, [kt11]), (77, [kt87]), (96, [kt23, kt24, kt25, kt26, kt27])]
def cu88 : List CU := [(6, [some (.inl (.inr (.inr (some 70)))), some (.inr (false, (0, 300, 1, none)))], [(70, 4, .inl (2, 2, 1, none))], .inr (1, true, 300), .inl 0, .inl 0)]
theorem ke88 : chkE JB ct88 cu88 kt88 50 76 = true := by decide +kernel
theorem ku88 : aLL cu88 (chkU JB ct88 cu88 kt88 50 76) = true := by decide +kernel
theorem ok88 {β : Nat} : KOK JB (W0 β) 76 kt88 := KOK_of W0_f (CT := ct88) (cuts := cu88) ⟨⟨ok11, trivial⟩, ⟨ok87, trivial⟩, ⟨ok23, ok24, ok25, ok26, ok27, trivial⟩, trivial⟩ ke88 (fun cu h => ⟨rfl, aLL_s ku88 cu h⟩) rfl
/-! HookSwings.Reader.either()V -/
def kt89 : KT := ([.inl (.inr (.inr (some 70)))], none, [(22, 5, 5), (23, 0, 300), (28, 5, 5), (29, 0, 300), (34, 5, 5), (35, 0, 300), (40, 5, 5), (41, 0, 300), (46, 5, 5), (47, 0, 300), (70, 2, 4), (70, 6, 7)], [22, 23, 28, 29, 34, 35, 40, 41, 46, 47, 70], [(70, 4, .inr (false, 2, 2))], [(70, 4, .inr (false, 2, 2))], [], 52)
def ct89 : CTB := [(61, [kt11]), (76, [kt88]), (96, [kt23, kt24, kt25, kt26, kt27])]
def cu89 : List CU := [(6, [some (.inl (.inr (.inr (some 70)))), some (.inr (false, (0, 300, 1, none)))], [(70, 4, .inl (2, 2, 1, none))], .inr (1, true, 300), .inl 0, .inl 0)]
theorem ke89 : chkE JB ct89 cu89 kt89 51 75 = true := by decide +kernel
theorem ku89 : aLL cu89 (chkU JB ct89 cu89 kt89 51 75) = true := by decide +kernel
theorem ok89 {β : Nat} : KOK JB (W0 β) 75 kt89 := KOK_of W0_f (CT := ct89) (cuts := cu89) ⟨⟨ok11, trivial⟩, ⟨ok88, trivial⟩, ⟨ok23, ok24, ok25, ok26, ok27, trivial⟩, trivial⟩ ke89 (fun cu h => ⟨rfl, aLL_s ku89 cu h⟩) rfl
/-! HookSwings.Reader.choice()V -/
def kt90 : KT := ([.inl (.inr (.inr (some 70)))], none, [(22, 5, 5), (23, 0, 300), (28, 5, 5), (29, 0, 300), (34, 5, 5), (35, 0, 300), (40, 5, 5), (41, 0, 300), (46, 5, 5), (47, 0, 300), (70, 2, 4), (70, 6, 7)], [22, 23, 28, 29, 34, 35, 40, 41, 46, 47, 70], [(70, 4, .inr (false, 1, 1))], [(70, 4, .inr (false, 1, 1))], [], 53)
def ct90 : CTB := [(61, [kt11]), (62, [kt12]), (68, [kt85]), (75, [kt89]), (96, [kt23, kt24, kt25, kt26, kt27]), (97, [kt37, kt38, kt39, kt40, kt41])]
def cu90 : List CU := []
theorem ke90 : chkE JB ct90 cu90 kt90 52 74 = true := by decide +kernel
theorem ok90 {β : Nat} : KOK JB (W0 β) 74 kt90 := KOK_of W0_f (CT := ct90) (cuts := cu90) ⟨⟨ok11, trivial⟩, ⟨ok12, trivial⟩, ⟨ok85, trivial⟩, ⟨ok89, trivial⟩, ⟨ok23, ok24, ok25, ok26, ok27, trivial⟩, ⟨ok37, ok38, ok39, ok40, ok41, trivial⟩, trivial⟩ ke90 (fun cu h => by cases h) rfl
/-! HookSwings.Reader.one()V -/
def kt91 : KT := ([.inl (.inr (.inr (some 70)))], none, [(22, 5, 5), (23, 0, 300), (28, 5, 5), (29, 0, 300), (34, 5, 5), (35, 0, 300), (40, 5, 5), (41, 0, 300), (46, 5, 5), (47, 0, 300), (70, 2, 4), (70, 6, 7)], [22, 23, 28, 29, 34, 35, 40, 41, 46, 47, 70], [(70, 4, .inr (false, 1, 1))], [(70, 4, .inr (false, 1, 1))], [], 54)
def ct91 : CTB := [(61, [kt11]), (62, [kt12]), (63, [kt13]), (68, [kt85]), (72, [kt86]), (73, [kt28]), (74, [kt90]), (96, [kt23, kt24, kt25, kt26, kt27])]
def cu91 : List CU := []
theorem ke91 : chkE JB ct91 cu91 kt91 53 70 = true := by decide +kernel
theorem ok91 {β : Nat} : KOK JB (W0 β) 70 kt91 := KOK_of W0_f (CT := ct91) (cuts := cu91) ⟨⟨ok11, trivial⟩, ⟨ok12, trivial⟩, ⟨ok13, trivial⟩, ⟨ok85, trivial⟩, ⟨ok86, trivial⟩, ⟨ok28, trivial⟩, ⟨ok90, trivial⟩, ⟨ok23, ok24, ok25, ok26, ok27, trivial⟩, trivial⟩ ke91 (fun cu h => by cases h) rfl
/-! HookSwings.Reader.product()V -/
def kt92 : KT := ([.inl (.inr (.inr (some 70)))], none, [(22, 5, 5), (23, 0, 300), (28, 5, 5), (29, 0, 300), (34, 5, 5), (35, 0, 300), (40, 5, 5), (41, 0, 300), (46, 5, 5), (47, 0, 300), (70, 2, 4), (70, 6, 7)], [22, 23, 28, 29, 34, 35, 40, 41, 46, 47, 70], [(70, 4, .inr (false, 1, 1))], [(70, 4, .inr (false, 1, 1))], [], 55)
def ct92 : CTB := [(61, [kt11]), (70, [kt91]), (96, [kt23, kt24, kt25, kt26, kt27])]
def cu92 : List CU := [(6, [some (.inl (.inr (.inr (some 70)))), some (.inr (false, (0, 300, 1, none))), none], [(70, 4, .inl (1, 1, 1, none))], .inr (1, true, 300), .inl 0, .inl 0)]
theorem ke92 : chkE JB ct92 cu92 kt92 54 69 = true := by decide +kernel
theorem ku92 : aLL cu92 (chkU JB ct92 cu92 kt92 54 69) = true := by decide +kernel
theorem ok92 {β : Nat} : KOK JB (W0 β) 69 kt92 := KOK_of W0_f (CT := ct92) (cuts := cu92) ⟨⟨ok11, trivial⟩, ⟨ok91, trivial⟩, ⟨ok23, ok24, ok25, ok26, ok27, trivial⟩, trivial⟩ ke92 (fun cu h => ⟨rfl, aLL_s ku92 cu h⟩) rfl
/-! HookSwings.Reader.sum()V -/
def kt93 : KT := ([.inl (.inr (.inr (some 70)))], none, [(22, 5, 5), (23, 0, 300), (28, 5, 5), (29, 0, 300), (34, 5, 5), (35, 0, 300), (40, 5, 5), (41, 0, 300), (46, 5, 5), (47, 0, 300), (70, 2, 4), (70, 6, 7)], [22, 23, 28, 29, 34, 35, 40, 41, 46, 47, 70], [(70, 4, .inr (false, 1, 1))], [(70, 4, .inr (false, 1, 1))], [], 56)
def ct93 : CTB := [(61, [kt11]), (69, [kt92]), (96, [kt23, kt24, kt25, kt26, kt27])]
def cu93 : List CU := [(6, [some (.inl (.inr (.inr (some 70)))), some (.inr (false, (0, 300, 1, none))), none], [(70, 4, .inl (1, 1, 1, none))], .inr (1, true, 300), .inl 0, .inl 0)]
theorem ke93 : chkE JB ct93 cu93 kt93 55 68 = true := by decide +kernel
theorem ku93 : aLL cu93 (chkU JB ct93 cu93 kt93 55 68) = true := by decide +kernel
theorem ok93 {β : Nat} : KOK JB (W0 β) 68 kt93 := KOK_of W0_f (CT := ct93) (cuts := cu93) ⟨⟨ok11, trivial⟩, ⟨ok92, trivial⟩, ⟨ok23, ok24, ok25, ok26, ok27, trivial⟩, trivial⟩ ke93 (fun cu h => ⟨rfl, aLL_s ku93 cu h⟩) rfl
/-! HookSwings.Reader.changedOne(I)V -/
def kt94 : KT := ([.inl (.inr (.inr (some 70))), .inr (false, 5, 6)], none, [(22, 5, 5), (23, 0, 300), (28, 5, 5), (29, 0, 300), (34, 5, 5), (35, 0, 300), (40, 5, 5), (41, 0, 300), (46, 5, 5), (47, 0, 300), (70, 2, 4), (70, 6, 7)], [22, 23, 28, 29, 34, 35, 40, 41, 46, 47, 70], [(70, 4, .inr (false, 0, 0))], [(70, 4, .inr (false, 0, 0))], [], 55)
def ct94 : CTB := [(61, [kt11]), (70, [kt91]), (96, [kt23, kt24, kt25, kt26, kt27])]
def cu94 : List CU := []
theorem ke94 : chkE JB ct94 cu94 kt94 54 72 = true := by decide +kernel
theorem ok94 {β : Nat} : KOK JB (W0 β) 72 kt94 := KOK_of W0_f (CT := ct94) (cuts := cu94) ⟨⟨ok11, trivial⟩, ⟨ok91, trivial⟩, ⟨ok23, ok24, ok25, ok26, ok27, trivial⟩, trivial⟩ ke94 (fun cu h => by cases h) rfl
/-! HookSwings.Reader.ask()V -/
def kt95 : KT := ([.inl (.inr (.inr (some 70)))], none, [(22, 5, 5), (23, 0, 300), (28, 5, 5), (29, 0, 300), (34, 5, 5), (35, 0, 300), (40, 5, 5), (41, 0, 300), (46, 5, 5), (47, 0, 300), (70, 2, 4), (70, 6, 7)], [22, 23, 28, 29, 34, 35, 40, 41, 46, 47, 70], [(70, 4, .inr (false, 1, 1))], [(70, 4, .inr (false, 1, 1))], [], 57)
def ct95 : CTB := [(60, [kt10]), (61, [kt11]), (68, [kt93]), (77, [kt87]), (96, [kt23, kt24, kt25, kt26, kt27])]
def cu95 : List CU := []
theorem ke95 : chkE JB ct95 cu95 kt95 56 77 = true := by decide +kernel
theorem ok95 {β : Nat} : KOK JB (W0 β) 77 kt95 := KOK_of W0_f (CT := ct95) (cuts := cu95) ⟨⟨ok10, trivial⟩, ⟨ok11, trivial⟩, ⟨ok93, trivial⟩, ⟨ok87, trivial⟩, ⟨ok23, ok24, ok25, ok26, ok27, trivial⟩, trivial⟩ ke95 (fun cu h => by cases h) rfl
/-! HookSwings.Reader.both()V -/
def kt96 : KT := ([.inl (.inr (.inr (some 70)))], none, [(22, 5, 5), (23, 0, 300), (28, 5, 5), (29, 0, 300), (34, 5, 5), (35, 0, 300), (40, 5, 5), (41, 0, 300), (46, 5, 5), (47, 0, 300), (70, 2, 4), (70, 6, 7)], [22, 23, 28, 29, 34, 35, 40, 41, 46, 47, 70], [(70, 4, .inr (false, 1, 1))], [(70, 4, .inr (false, 1, 1))], [], 58)
def ct96 : CTB := [(61, [kt11]), (77, [kt95]), (96, [kt23, kt24, kt25, kt26, kt27])]
def cu96 : List CU := [(6, [some (.inl (.inr (.inr (some 70)))), some (.inr (false, (0, 300, 1, none)))], [(70, 4, .inl (1, 1, 1, none))], .inr (1, true, 300), .inl 0, .inl 0)]
theorem ke96 : chkE JB ct96 cu96 kt96 57 76 = true := by decide +kernel
theorem ku96 : aLL cu96 (chkU JB ct96 cu96 kt96 57 76) = true := by decide +kernel
theorem ok96 {β : Nat} : KOK JB (W0 β) 76 kt96 := KOK_of W0_f (CT := ct96) (cuts := cu96) ⟨⟨ok11, trivial⟩, ⟨ok95, trivial⟩, ⟨ok23, ok24, ok25, ok26, ok27, trivial⟩, trivial⟩ ke96 (fun cu h => ⟨rfl, aLL_s ku96 cu h⟩) rfl
/-! HookSwings.Reader.either()V -/
def kt97 : KT := ([.inl (.inr (.inr (some 70)))], none, [(22, 5, 5), (23, 0, 300), (28, 5, 5), (29, 0, 300), (34, 5, 5), (35, 0, 300), (40, 5, 5), (41, 0, 300), (46, 5, 5), (47, 0, 300), (70, 2, 4), (70, 6, 7)], [22, 23, 28, 29, 34, 35, 40, 41, 46, 47, 70], [(70, 4, .inr (false, 1, 1))], [(70, 4, .inr (false, 1, 1))], [], 59)
def ct97 : CTB := [(61, [kt11]), (76, [kt96]), (96, [kt23, kt24, kt25, kt26, kt27])]
def cu97 : List CU := [(6, [some (.inl (.inr (.inr (some 70)))), some (.inr (false, (0, 300, 1, none)))], [(70, 4, .inl (1, 1, 1, none))], .inr (1, true, 300), .inl 0, .inl 0)]
theorem ke97 : chkE JB ct97 cu97 kt97 58 75 = true := by decide +kernel
theorem ku97 : aLL cu97 (chkU JB ct97 cu97 kt97 58 75) = true := by decide +kernel
theorem ok97 {β : Nat} : KOK JB (W0 β) 75 kt97 := KOK_of W0_f (CT := ct97) (cuts := cu97) ⟨⟨ok11, trivial⟩, ⟨ok96, trivial⟩, ⟨ok23, ok24, ok25, ok26, ok27, trivial⟩, trivial⟩ ke97 (fun cu h => ⟨rfl, aLL_s ku97 cu h⟩) rfl
/-! HookSwings.Reader.choice()V -/
def kt98 : KT := ([.inl (.inr (.inr (some 70)))], none, [(22, 5, 5), (23, 0, 300), (28, 5, 5), (29, 0, 300), (34, 5, 5), (35, 0, 300), (40, 5, 5), (41, 0, 300), (46, 5, 5), (47, 0, 300), (70, 2, 4), (70, 6, 7)], [22, 23, 28, 29, 34, 35, 40, 41, 46, 47, 70], [(70, 4, .inr (false, 0, 0))], [(70, 4, .inr (false, 0, 0))], [], 60)
def ct98 : CTB := [(61, [kt11]), (62, [kt12]), (68, [kt93]), (75, [kt97]), (96, [kt23, kt24, kt25, kt26, kt27]), (97, [kt37, kt38, kt39, kt40, kt41])]
def cu98 : List CU := []
theorem ke98 : chkE JB ct98 cu98 kt98 59 74 = true := by decide +kernel
theorem ok98 {β : Nat} : KOK JB (W0 β) 74 kt98 := KOK_of W0_f (CT := ct98) (cuts := cu98) ⟨⟨ok11, trivial⟩, ⟨ok12, trivial⟩, ⟨ok93, trivial⟩, ⟨ok97, trivial⟩, ⟨ok23, ok24, ok25, ok26, ok27, trivial⟩, ⟨ok37, ok38, ok39, ok40, ok41, trivial⟩, trivial⟩ ke98 (fun cu h => by cases h) rfl
/-! HookSwings.Reader.one()V -/
def kt99 : KT := ([.inl (.inr (.inr (some 70)))], none, [(22, 5, 5), (23, 0, 300), (28, 5, 5), (29, 0, 300), (34, 5, 5), (35, 0, 300), (40, 5, 5), (41, 0, 300), (46, 5, 5), (47, 0, 300), (70, 2, 4), (70, 6, 7)], [22, 23, 28, 29, 34, 35, 40, 41, 46, 47, 70], [(70, 4, .inr (false, 0, 0))], [(70, 4, .inr (false, 0, 0))], [], 61)
def ct99 : CTB := [(61, [kt11]), (62, [kt12]), (63, [kt13]), (68, [kt93]), (72, [kt94]), (73, [kt28]), (74, [kt98]), (96, [kt23, kt24, kt25, kt26, kt27])]
def cu99 : List CU := []
theorem ke99 : chkE JB ct99 cu99 kt99 60 70 = true := by decide +kernel
theorem ok99 {β : Nat} : KOK JB (W0 β) 70 kt99 := KOK_of W0_f (CT := ct99) (cuts := cu99) ⟨⟨ok11, trivial⟩, ⟨ok12, trivial⟩, ⟨ok13, trivial⟩, ⟨ok93, trivial⟩, ⟨ok94, trivial⟩, ⟨ok28, trivial⟩, ⟨ok98, trivial⟩, ⟨ok23, ok24, ok25, ok26, ok27, trivial⟩, trivial⟩ ke99 (fun cu h => by cases h) rfl
/-! HookSwings.Reader.product()V -/
def kt100 : KT := ([.inl (.inr (.inr (some 70)))], none, [(22, 5, 5), (23, 0, 300), (28, 5, 5), (29, 0, 300), (34, 5, 5), (35, 0, 300), (40, 5, 5), (41, 0, 300), (46, 5, 5), (47, 0, 300), (70, 2, 4), (70, 6, 7)], [22, 23, 28, 29, 34, 35, 40, 41, 46, 47, 70], [(70, 4, .inr (false, 0, 0))], [(70, 4, .inr (false, 0, 0))], [], 62)
def ct100 : CTB := [(61, [kt11]), (70, [kt99]), (96, [kt23, kt24, kt25, kt26, kt27])]
def cu100 : List CU := [(6, [some (.inl (.inr (.inr (some 70)))), some (.inr (false, (0, 300, 1, none))), none], [(70, 4, .inl (0, 0, 1, none))], .inr (1, true, 300), .inl 0, .inl 0)]
theorem ke100 : chkE JB ct100 cu100 kt100 61 69 = true := by decide +kernel
theorem ku100 : aLL cu100 (chkU JB ct100 cu100 kt100 61 69) = true := by decide +kernel
theorem ok100 {β : Nat} : KOK JB (W0 β) 69 kt100 := KOK_of W0_f (CT := ct100) (cuts := cu100) ⟨⟨ok11, trivial⟩, ⟨ok99, trivial⟩, ⟨ok23, ok24, ok25, ok26, ok27, trivial⟩, trivial⟩ ke100 (fun cu h => ⟨rfl, aLL_s ku100 cu h⟩) rfl
/-! HookSwings.Reader.sum()V -/
def kt101 : KT := ([.inl (.inr (.inr (some 70)))], none, [(22, 5, 5), (23, 0, 300), (28, 5, 5), (29, 0, 300), (34, 5, 5), (35, 0, 300), (40, 5, 5), (41, 0, 300), (46, 5, 5), (47, 0, 300), (70, 2, 4), (70, 6, 7)], [22, 23, 28, 29, 34, 35, 40, 41, 46, 47, 70], [(70, 4, .inr (false, 0, 0))], [(70, 4, .inr (false, 0, 0))], [], 63)
def ct101 : CTB := [(61, [kt11]), (69, [kt100]), (96, [kt23, kt24, kt25, kt26, kt27])]
def cu101 : List CU := [(6, [some (.inl (.inr (.inr (some 70)))), some (.inr (false, (0, 300, 1, none))), none], [(70, 4, .inl (0, 0, 1, none))], .inr (1, true, 300), .inl 0, .inl 0)]
theorem ke101 : chkE JB ct101 cu101 kt101 62 68 = true := by decide +kernel
theorem ku101 : aLL cu101 (chkU JB ct101 cu101 kt101 62 68) = true := by decide +kernel
theorem ok101 {β : Nat} : KOK JB (W0 β) 68 kt101 := KOK_of W0_f (CT := ct101) (cuts := cu101) ⟨⟨ok11, trivial⟩, ⟨ok100, trivial⟩, ⟨ok23, ok24, ok25, ok26, ok27, trivial⟩, trivial⟩ ke101 (fun cu h => ⟨rfl, aLL_s ku101 cu h⟩) rfl
/-! HookSwings.Text.setLaw(II)V -/
def kt102 : KT := ([.inl (.inr (.inr (some 22))), .inr (false, 0, 4), .inr (false, 0, 300)], none, [(24, 0, 5), (25, 0, 5)], [24, 25], [], [], [], 2)
def ct102 : CTB := []
def cu102 : List CU := []
theorem ke102 : chkE JB ct102 cu102 kt102 1 93 = true := by decide +kernel
theorem ok102 {β : Nat} : KOK JB (W0 β) 93 kt102 := KOK_of W0_f (CT := ct102) (cuts := cu102) trivial ke102 (fun cu h => by cases h) rfl
/-! HookSwings.Text.setLaw(II)V -/
def kt103 : KT := ([.inl (.inr (.inr (some 28))), .inr (false, 0, 4), .inr (false, 0, 300)], none, [(30, 0, 5), (31, 0, 5)], [30, 31], [], [], [], 2)
def ct103 : CTB := []
def cu103 : List CU := []
theorem ke103 : chkE JB ct103 cu103 kt103 1 93 = true := by decide +kernel
theorem ok103 {β : Nat} : KOK JB (W0 β) 93 kt103 := KOK_of W0_f (CT := ct103) (cuts := cu103) trivial ke103 (fun cu h => by cases h) rfl
/-! HookSwings.Text.setLaw(II)V -/
def kt104 : KT := ([.inl (.inr (.inr (some 34))), .inr (false, 0, 4), .inr (false, 0, 300)], none, [(36, 0, 5), (37, 0, 5)], [36, 37], [], [], [], 2)
def ct104 : CTB := []
def cu104 : List CU := []
theorem ke104 : chkE JB ct104 cu104 kt104 1 93 = true := by decide +kernel
theorem ok104 {β : Nat} : KOK JB (W0 β) 93 kt104 := KOK_of W0_f (CT := ct104) (cuts := cu104) trivial ke104 (fun cu h => by cases h) rfl
/-! HookSwings.Text.setLaw(II)V -/
def kt105 : KT := ([.inl (.inr (.inr (some 40))), .inr (false, 0, 4), .inr (false, 0, 300)], none, [(42, 0, 5), (43, 0, 5)], [42, 43], [], [], [], 2)
def ct105 : CTB := []
def cu105 : List CU := []
theorem ke105 : chkE JB ct105 cu105 kt105 1 93 = true := by decide +kernel
theorem ok105 {β : Nat} : KOK JB (W0 β) 93 kt105 := KOK_of W0_f (CT := ct105) (cuts := cu105) trivial ke105 (fun cu h => by cases h) rfl
/-! HookSwings.Text.setLaw(II)V -/
def kt106 : KT := ([.inl (.inr (.inr (some 46))), .inr (false, 0, 4), .inr (false, 0, 300)], none, [(48, 0, 5), (49, 0, 5)], [48, 49], [], [], [], 2)
def ct106 : CTB := []
def cu106 : List CU := []
theorem ke106 : chkE JB ct106 cu106 kt106 1 93 = true := by decide +kernel
theorem ok106 {β : Nat} : KOK JB (W0 β) 93 kt106 := KOK_of W0_f (CT := ct106) (cuts := cu106) trivial ke106 (fun cu h => by cases h) rfl
/-! HookSwings.Text.closeClause(I)V -/
def kt107 : KT := ([.inl (.inr (.inr (some 22))), .inr (false, 0, 16)], none, [(22, 6, 6), (26, 0, 24)], [22, 26], [], [], [], 1)
def ct107 : CTB := []
def cu107 : List CU := []
theorem ke107 : chkE JB ct107 cu107 kt107 0 95 = true := by decide +kernel
theorem ok107 {β : Nat} : KOK JB (W0 β) 95 kt107 := KOK_of W0_f (CT := ct107) (cuts := cu107) trivial ke107 (fun cu h => by cases h) rfl
/-! HookSwings.Text.closeClause(I)V -/
def kt108 : KT := ([.inl (.inr (.inr (some 28))), .inr (false, 0, 16)], none, [(28, 6, 6), (32, 0, 24)], [28, 32], [], [], [], 1)
def ct108 : CTB := []
def cu108 : List CU := []
theorem ke108 : chkE JB ct108 cu108 kt108 0 95 = true := by decide +kernel
theorem ok108 {β : Nat} : KOK JB (W0 β) 95 kt108 := KOK_of W0_f (CT := ct108) (cuts := cu108) trivial ke108 (fun cu h => by cases h) rfl
/-! HookSwings.Text.closeClause(I)V -/
def kt109 : KT := ([.inl (.inr (.inr (some 34))), .inr (false, 0, 16)], none, [(34, 6, 6), (38, 0, 24)], [34, 38], [], [], [], 1)
def ct109 : CTB := []
def cu109 : List CU := []
theorem ke109 : chkE JB ct109 cu109 kt109 0 95 = true := by decide +kernel
theorem ok109 {β : Nat} : KOK JB (W0 β) 95 kt109 := KOK_of W0_f (CT := ct109) (cuts := cu109) trivial ke109 (fun cu h => by cases h) rfl
/-! HookSwings.Text.closeClause(I)V -/
def kt110 : KT := ([.inl (.inr (.inr (some 40))), .inr (false, 0, 16)], none, [(40, 6, 6), (44, 0, 24)], [40, 44], [], [], [], 1)
def ct110 : CTB := []
def cu110 : List CU := []
theorem ke110 : chkE JB ct110 cu110 kt110 0 95 = true := by decide +kernel
theorem ok110 {β : Nat} : KOK JB (W0 β) 95 kt110 := KOK_of W0_f (CT := ct110) (cuts := cu110) trivial ke110 (fun cu h => by cases h) rfl
/-! HookSwings.Text.closeClause(I)V -/
def kt111 : KT := ([.inl (.inr (.inr (some 46))), .inr (false, 0, 16)], none, [(46, 6, 6), (50, 0, 24)], [46, 50], [], [], [], 1)
def ct111 : CTB := []
def cu111 : List CU := []
theorem ke111 : chkE JB ct111 cu111 kt111 0 95 = true := by decide +kernel
theorem ok111 {β : Nat} : KOK JB (W0 β) 95 kt111 := KOK_of W0_f (CT := ct111) (cuts := cu111) trivial ke111 (fun cu h => by cases h) rfl
/-! HookSwings.Reader.clause()V -/
def kt112 : KT := ([.inl (.inr (.inr (some 70)))], none, [(22, 5, 6), (23, 0, 300), (24, 0, 5), (25, 0, 5), (26, 0, 24), (27, 0, 120), (28, 5, 6), (29, 0, 300), (30, 0, 5), (31, 0, 5), (32, 0, 24), (33, 0, 120), (34, 5, 6), (35, 0, 300), (36, 0, 5), (37, 0, 5), (38, 0, 24), (39, 0, 120), (40, 5, 6), (41, 0, 300), (42, 0, 5), (43, 0, 5), (44, 0, 24), (45, 0, 120), (46, 5, 6), (47, 0, 300), (48, 0, 5), (49, 0, 5), (50, 0, 24), (51, 0, 120), (70, 2, 7)], [22, 23, 24, 25, 26, 27, 28, 29, 30, 31, 32, 33, 34, 35, 36, 37, 38, 39, 40, 41, 42, 43, 44, 45, 46, 47, 48, 49, 50, 51, 70], [(70, 4, .inr (false, 0, 0))], [(70, 4, .inr (false, 0, 0))], [], 64)
def ct112 : CTB := [(60, [kt10]), (61, [kt11]), (62, [kt12]), (65, [kt21]), (68, [kt101]), (93, [kt102, kt103, kt104, kt105, kt106]), (95, [kt107, kt108, kt109, kt110, kt111])]
def cu112 : List CU := []
theorem ke112 : chkE JB ct112 cu112 kt112 63 64 = true := by decide +kernel
theorem ok112 {β : Nat} : KOK JB (W0 β) 64 kt112 := KOK_of W0_f (CT := ct112) (cuts := cu112) ⟨⟨ok10, trivial⟩, ⟨ok11, trivial⟩, ⟨ok12, trivial⟩, ⟨ok21, trivial⟩, ⟨ok101, trivial⟩, ⟨ok102, ok103, ok104, ok105, ok106, trivial⟩, ⟨ok107, ok108, ok109, ok110, ok111, trivial⟩, trivial⟩ ke112 (fun cu h => by cases h) rfl
/-! HookSwings.Text.clear()V -/
def kt113 : KT := ([.inl (.inr (.inr (some 22)))], none, [(22, 5, 6), (24, 0, 5), (25, 0, 5)], [22, 24, 25], [], [], [], 1)
def ct113 : CTB := []
def cu113 : List CU := [(12, [some (.inl (.inr (.inr (some 22)))), some (.inr (false, (0, 7, 1, none)))], [], .inr (1, true, 5), .inl 0, .inl 0)]
theorem ke113 : chkE JB ct113 cu113 kt113 0 87 = true := by decide +kernel
theorem ku113 : aLL cu113 (chkU JB ct113 cu113 kt113 0 87) = true := by decide +kernel
theorem ok113 {β : Nat} : KOK JB (W0 β) 87 kt113 := KOK_of W0_f (CT := ct113) (cuts := cu113) trivial ke113 (fun cu h => ⟨rfl, aLL_s ku113 cu h⟩) rfl
/-! HookSwings.Reader.read([IILHookSwings.Text;)Z -/
def kt114 : KT := ([.inl (.inr (.inr (some 70))), .inl (.inr (.inr (some 75))), .inr (false, 0, 300), .inl (.inr (.inr (some 22)))], some (.inr (false, 0, 1)), [(22, 5, 6), (23, 0, 300), (24, 0, 5), (25, 0, 5), (26, 0, 24), (27, 0, 120), (28, 5, 6), (29, 0, 300), (30, 0, 5), (31, 0, 5), (32, 0, 24), (33, 0, 120), (34, 5, 6), (35, 0, 300), (36, 0, 5), (37, 0, 5), (38, 0, 24), (39, 0, 120), (40, 5, 6), (41, 0, 300), (42, 0, 5), (43, 0, 5), (44, 0, 24), (45, 0, 120), (46, 5, 6), (47, 0, 300), (48, 0, 5), (49, 0, 5), (50, 0, 24), (51, 0, 120), (70, 1, 7), (71, 3, 4), (72, 0, 300), (73, 0, 300), (74, 0, 300)], [22, 23, 24, 25, 26, 27, 28, 29, 30, 31, 32, 33, 34, 35, 36, 37, 38, 39, 40, 41, 42, 43, 44, 45, 46, 47, 48, 49, 50, 51, 70, 71, 72, 73, 74], [], [], [], 65)
def ct114 : CTB := [(64, [kt112]), (87, [kt113]), (102, [kt9])]
def cu114 : List CU := [(56, [some (.inl (.inr (.inr (some 70)))), some (.inl (.inr (.inr (some 75)))), some (.inr (false, (0, 300, 1, none))), some (.inl (.inr (.inr (some 22)))), some (.inr (false, (0, 25, 1, none)))], [(70, 4, .inl (0, 0, 1, none))], .inr (4, true, 25), .inl 0, .inl 0)]
theorem ke114 : chkE JB ct114 cu114 kt114 64 59 = true := by decide +kernel
theorem ku114 : aLL cu114 (chkU JB ct114 cu114 kt114 64 59) = true := by decide +kernel
theorem ok114 {β : Nat} : KOK JB (W0 β) 59 kt114 := KOK_of W0_f (CT := ct114) (cuts := cu114) ⟨⟨ok112, trivial⟩, ⟨ok113, trivial⟩, ⟨ok9, trivial⟩, trivial⟩ ke114 (fun cu h => ⟨rfl, aLL_s ku114 cu h⟩) rfl
/-! HookSwings.Text.clear()V -/
def kt115 : KT := ([.inl (.inr (.inr (some 28)))], none, [(28, 5, 6), (30, 0, 5), (31, 0, 5)], [28, 30, 31], [], [], [], 1)
def ct115 : CTB := []
def cu115 : List CU := [(12, [some (.inl (.inr (.inr (some 28)))), some (.inr (false, (0, 7, 1, none)))], [], .inr (1, true, 5), .inl 0, .inl 0)]
theorem ke115 : chkE JB ct115 cu115 kt115 0 87 = true := by decide +kernel
theorem ku115 : aLL cu115 (chkU JB ct115 cu115 kt115 0 87) = true := by decide +kernel
theorem ok115 {β : Nat} : KOK JB (W0 β) 87 kt115 := KOK_of W0_f (CT := ct115) (cuts := cu115) trivial ke115 (fun cu h => ⟨rfl, aLL_s ku115 cu h⟩) rfl
/-! HookSwings.Reader.read([IILHookSwings.Text;)Z -/
def kt116 : KT := ([.inl (.inr (.inr (some 70))), .inl (.inr (.inr (some 75))), .inr (false, 0, 300), .inl (.inr (.inr (some 28)))], some (.inr (false, 0, 1)), [(22, 5, 6), (23, 0, 300), (24, 0, 5), (25, 0, 5), (26, 0, 24), (27, 0, 120), (28, 5, 6), (29, 0, 300), (30, 0, 5), (31, 0, 5), (32, 0, 24), (33, 0, 120), (34, 5, 6), (35, 0, 300), (36, 0, 5), (37, 0, 5), (38, 0, 24), (39, 0, 120), (40, 5, 6), (41, 0, 300), (42, 0, 5), (43, 0, 5), (44, 0, 24), (45, 0, 120), (46, 5, 6), (47, 0, 300), (48, 0, 5), (49, 0, 5), (50, 0, 24), (51, 0, 120), (70, 1, 7), (71, 3, 4), (72, 0, 300), (73, 0, 300), (74, 0, 300)], [22, 23, 24, 25, 26, 27, 28, 29, 30, 31, 32, 33, 34, 35, 36, 37, 38, 39, 40, 41, 42, 43, 44, 45, 46, 47, 48, 49, 50, 51, 70, 71, 72, 73, 74], [], [], [], 65)
def ct116 : CTB := [(64, [kt112]), (87, [kt115]), (102, [kt9])]
def cu116 : List CU := [(56, [some (.inl (.inr (.inr (some 70)))), some (.inl (.inr (.inr (some 75)))), some (.inr (false, (0, 300, 1, none))), some (.inl (.inr (.inr (some 28)))), some (.inr (false, (0, 25, 1, none)))], [(70, 4, .inl (0, 0, 1, none))], .inr (4, true, 25), .inl 0, .inl 0)]
theorem ke116 : chkE JB ct116 cu116 kt116 64 59 = true := by decide +kernel
theorem ku116 : aLL cu116 (chkU JB ct116 cu116 kt116 64 59) = true := by decide +kernel
theorem ok116 {β : Nat} : KOK JB (W0 β) 59 kt116 := KOK_of W0_f (CT := ct116) (cuts := cu116) ⟨⟨ok112, trivial⟩, ⟨ok115, trivial⟩, ⟨ok9, trivial⟩, trivial⟩ ke116 (fun cu h => ⟨rfl, aLL_s ku116 cu h⟩) rfl
/-! HookSwings.Text.clear()V -/
def kt117 : KT := ([.inl (.inr (.inr (some 34)))], none, [(34, 5, 6), (36, 0, 5), (37, 0, 5)], [34, 36, 37], [], [], [], 1)
def ct117 : CTB := []
def cu117 : List CU := [(12, [some (.inl (.inr (.inr (some 34)))), some (.inr (false, (0, 7, 1, none)))], [], .inr (1, true, 5), .inl 0, .inl 0)]
theorem ke117 : chkE JB ct117 cu117 kt117 0 87 = true := by decide +kernel
theorem ku117 : aLL cu117 (chkU JB ct117 cu117 kt117 0 87) = true := by decide +kernel
theorem ok117 {β : Nat} : KOK JB (W0 β) 87 kt117 := KOK_of W0_f (CT := ct117) (cuts := cu117) trivial ke117 (fun cu h => ⟨rfl, aLL_s ku117 cu h⟩) rfl
/-! HookSwings.Reader.read([IILHookSwings.Text;)Z -/
def kt118 : KT := ([.inl (.inr (.inr (some 70))), .inl (.inr (.inr (some 75))), .inr (false, 0, 300), .inl (.inr (.inr (some 34)))], some (.inr (false, 0, 1)), [(22, 5, 6), (23, 0, 300), (24, 0, 5), (25, 0, 5), (26, 0, 24), (27, 0, 120), (28, 5, 6), (29, 0, 300), (30, 0, 5), (31, 0, 5), (32, 0, 24), (33, 0, 120), (34, 5, 6), (35, 0, 300), (36, 0, 5), (37, 0, 5), (38, 0, 24), (39, 0, 120), (40, 5, 6), (41, 0, 300), (42, 0, 5), (43, 0, 5), (44, 0, 24), (45, 0, 120), (46, 5, 6), (47, 0, 300), (48, 0, 5), (49, 0, 5), (50, 0, 24), (51, 0, 120), (70, 1, 7), (71, 3, 4), (72, 0, 300), (73, 0, 300), (74, 0, 300)], [22, 23, 24, 25, 26, 27, 28, 29, 30, 31, 32, 33, 34, 35, 36, 37, 38, 39, 40, 41, 42, 43, 44, 45, 46, 47, 48, 49, 50, 51, 70, 71, 72, 73, 74], [], [], [], 65)
def ct118 : CTB := [(64, [kt112]), (87, [kt117]), (102, [kt9])]
def cu118 : List CU := [(56, [some (.inl (.inr (.inr (some 70)))), some (.inl (.inr (.inr (some 75)))), some (.inr (false, (0, 300, 1, none))), some (.inl (.inr (.inr (some 34)))), some (.inr (false, (0, 25, 1, none)))], [(70, 4, .inl (0, 0, 1, none))], .inr (4, true, 25), .inl 0, .inl 0)]
theorem ke118 : chkE JB ct118 cu118 kt118 64 59 = true := by decide +kernel
theorem ku118 : aLL cu118 (chkU JB ct118 cu118 kt118 64 59) = true := by decide +kernel
theorem ok118 {β : Nat} : KOK JB (W0 β) 59 kt118 := KOK_of W0_f (CT := ct118) (cuts := cu118) ⟨⟨ok112, trivial⟩, ⟨ok117, trivial⟩, ⟨ok9, trivial⟩, trivial⟩ ke118 (fun cu h => ⟨rfl, aLL_s ku118 cu h⟩) rfl
/-! HookSwings.Text.clear()V -/
def kt119 : KT := ([.inl (.inr (.inr (some 40)))], none, [(40, 5, 6), (42, 0, 5), (43, 0, 5)], [40, 42, 43], [], [], [], 1)
def ct119 : CTB := []
def cu119 : List CU := [(12, [some (.inl (.inr (.inr (some 40)))), some (.inr (false, (0, 7, 1, none)))], [], .inr (1, true, 5), .inl 0, .inl 0)]
theorem ke119 : chkE JB ct119 cu119 kt119 0 87 = true := by decide +kernel
theorem ku119 : aLL cu119 (chkU JB ct119 cu119 kt119 0 87) = true := by decide +kernel
theorem ok119 {β : Nat} : KOK JB (W0 β) 87 kt119 := KOK_of W0_f (CT := ct119) (cuts := cu119) trivial ke119 (fun cu h => ⟨rfl, aLL_s ku119 cu h⟩) rfl
/-! HookSwings.Reader.read([IILHookSwings.Text;)Z -/
def kt120 : KT := ([.inl (.inr (.inr (some 70))), .inl (.inr (.inr (some 75))), .inr (false, 0, 300), .inl (.inr (.inr (some 40)))], some (.inr (false, 0, 1)), [(22, 5, 6), (23, 0, 300), (24, 0, 5), (25, 0, 5), (26, 0, 24), (27, 0, 120), (28, 5, 6), (29, 0, 300), (30, 0, 5), (31, 0, 5), (32, 0, 24), (33, 0, 120), (34, 5, 6), (35, 0, 300), (36, 0, 5), (37, 0, 5), (38, 0, 24), (39, 0, 120), (40, 5, 6), (41, 0, 300), (42, 0, 5), (43, 0, 5), (44, 0, 24), (45, 0, 120), (46, 5, 6), (47, 0, 300), (48, 0, 5), (49, 0, 5), (50, 0, 24), (51, 0, 120), (70, 1, 7), (71, 3, 4), (72, 0, 300), (73, 0, 300), (74, 0, 300)], [22, 23, 24, 25, 26, 27, 28, 29, 30, 31, 32, 33, 34, 35, 36, 37, 38, 39, 40, 41, 42, 43, 44, 45, 46, 47, 48, 49, 50, 51, 70, 71, 72, 73, 74], [], [], [], 65)
def ct120 : CTB := [(64, [kt112]), (87, [kt119]), (102, [kt9])]
def cu120 : List CU := [(56, [some (.inl (.inr (.inr (some 70)))), some (.inl (.inr (.inr (some 75)))), some (.inr (false, (0, 300, 1, none))), some (.inl (.inr (.inr (some 40)))), some (.inr (false, (0, 25, 1, none)))], [(70, 4, .inl (0, 0, 1, none))], .inr (4, true, 25), .inl 0, .inl 0)]
theorem ke120 : chkE JB ct120 cu120 kt120 64 59 = true := by decide +kernel
theorem ku120 : aLL cu120 (chkU JB ct120 cu120 kt120 64 59) = true := by decide +kernel
theorem ok120 {β : Nat} : KOK JB (W0 β) 59 kt120 := KOK_of W0_f (CT := ct120) (cuts := cu120) ⟨⟨ok112, trivial⟩, ⟨ok119, trivial⟩, ⟨ok9, trivial⟩, trivial⟩ ke120 (fun cu h => ⟨rfl, aLL_s ku120 cu h⟩) rfl
/-! HookSwings.text()I -/
def kt121 : KT := ([.inl (.inr (.inr (some 0)))], some (.inr (false, (-1), 3)), [(0, 11, 12), (1, 2, 2), (22, 5, 6), (23, 0, 300), (24, 0, 5), (25, 0, 5), (26, 0, 24), (27, 0, 120), (28, 5, 6), (29, 0, 300), (30, 0, 5), (31, 0, 5), (32, 0, 24), (33, 0, 120), (34, 5, 6), (35, 0, 300), (36, 0, 5), (37, 0, 5), (38, 0, 24), (39, 0, 120), (40, 5, 6), (41, 0, 300), (42, 0, 5), (43, 0, 5), (44, 0, 24), (45, 0, 120), (46, 5, 6), (47, 0, 300), (48, 0, 5), (49, 0, 5), (50, 0, 24), (51, 0, 120), (70, 1, 7), (71, 3, 4), (72, 0, 300), (73, 0, 300), (74, 0, 300)], [0, 1, 22, 23, 24, 25, 26, 27, 28, 29, 30, 31, 32, 33, 34, 35, 36, 37, 38, 39, 40, 41, 42, 43, 44, 45, 46, 47, 48, 49, 50, 51, 70, 71, 72, 73, 74], [], [], [], 66)
def ct121 : CTB := [(59, [kt114, kt116, kt118, kt120])]
def cu121 : List CU := []
theorem ke121 : chkE JB ct121 cu121 kt121 65 123 = true := by decide +kernel
theorem ok121 {β : Nat} : KOK JB (W0 β) 123 kt121 := KOK_of W0_f (CT := ct121) (cuts := cu121) ⟨⟨ok114, ok116, ok118, ok120, trivial⟩, trivial⟩ ke121 (fun cu h => by cases h) rfl
/-! HookSwings.fault(I)I -/
def kt122 : KT := ([.inl (.inr (.inr (some 0))), .inr (false, (-2147483648), 2147483647)], some (.inr (false, (-1), 300)), [], [], [], [], [], 1)
def ct122 : CTB := []
def cu122 : List CU := []
theorem ke122 : chkE JB ct122 cu122 kt122 0 124 = true := by decide +kernel
theorem ok122 {β : Nat} : KOK JB (W0 β) 124 kt122 := KOK_of W0_f (CT := ct122) (cuts := cu122) trivial ke122 (fun cu h => by cases h) rfl
/-! HookSwings.by(I)Z -/
def kt123 : KT := ([.inl (.inr (.inr (some 0))), .inr (false, (-2147483648), 2147483647)], some (.inr (false, 0, 1)), [(1, 3, 3)], [1], [], [], [], 2)
def ct123 : CTB := []
def cu123 : List CU := []
theorem ke123 : chkE JB ct123 cu123 kt123 1 125 = true := by decide +kernel
theorem ok123 {β : Nat} : KOK JB (W0 β) 125 kt123 := KOK_of W0_f (CT := ct123) (cuts := cu123) trivial ke123 (fun cu h => by cases h) rfl
/-! HookSwings.Hook.save([II)V -/
def kt124 : KT := ([.inl (.inr (.inr (some 2))), .inl (.inr (.inr (some 6))), .inr (false, 0, 29)], none, [(6, 0, 390)], [6], [], [], [], 1)
def ct124 : CTB := []
def cu124 : List CU := []
theorem ke124 : chkE JB ct124 cu124 kt124 0 24 = true := by decide +kernel
theorem ok124 {β : Nat} : KOK JB (W0 β) 24 kt124 := KOK_of W0_f (CT := ct124) (cuts := cu124) trivial ke124 (fun cu h => by cases h) rfl
/-! HookSwings.World.keepStep()V -/
def kt125 : KT := ([.inl (.inr (.inr (some 1)))], none, [(1, 7, 8), (6, 0, 390)], [1, 6], [], [], [], 2)
def ct125 : CTB := [(24, [kt124])]
def cu125 : List CU := []
theorem ke125 : chkE JB ct125 cu125 kt125 1 111 = true := by decide +kernel
theorem ok125 {β : Nat} : KOK JB (W0 β) 111 kt125 := KOK_of W0_f (CT := ct125) (cuts := cu125) ⟨⟨ok124, trivial⟩, trivial⟩ ke125 (fun cu h => by cases h) rfl
/-! HookSwings.Kept.keep(LHookSwings.Hook;I)V -/
def kt126 : KT := ([.inl (.inr (.inr (some 3))), .inl (.inr (.inr (some 2))), .inr (false, (-1), 1)], none, [(4, 0, 1260)], [4], [], [], [], 2)
def ct126 : CTB := []
def cu126 : List CU := []
theorem ke126 : chkE JB ct126 cu126 kt126 1 27 = true := by decide +kernel
theorem ok126 {β : Nat} : KOK JB (W0 β) 27 kt126 := KOK_of W0_f (CT := ct126) (cuts := cu126) trivial ke126 (fun cu h => by cases h) rfl
/-! HookSwings.Kept.part(II)I -/
def kt127 : KT := ([.inl (.inr (.inr (some 3))), .inr (false, (-2147483648), 2147483647), .inr (false, 0, 7)], some (.inr (false, (-2147483648), 2147483647)), [], [], [], [], [], 1)
def ct127 : CTB := []
def cu127 : List CU := []
theorem ke127 : chkE JB ct127 cu127 kt127 0 29 = true := by decide +kernel
theorem ok127 {β : Nat} : KOK JB (W0 β) 29 kt127 := KOK_of W0_f (CT := ct127) (cuts := cu127) trivial ke127 (fun cu h => by cases h) rfl
/-! HookSwings.Kept.part(II)I -/
def kt128 : KT := ([.inl (.inr (.inr (some 53))), .inr (false, 0, 2147483647), .inr (false, 0, 7)], some (.inr (false, (-2147483648), 2147483647)), [], [], [], [], [], 1)
def ct128 : CTB := []
def cu128 : List CU := []
theorem ke128 : chkE JB ct128 cu128 kt128 0 29 = true := by decide +kernel
theorem ok128 {β : Nat} : KOK JB (W0 β) 29 kt128 := KOK_of W0_f (CT := ct128) (cuts := cu128) trivial ke128 (fun cu h => by cases h) rfl
/-! HookSwings.Kept.part(II)I -/
def kt129 : KT := ([.inl (.inr (.inr (some 56))), .inr (false, 0, 2147483647), .inr (false, 0, 7)], some (.inr (false, (-2147483648), 2147483647)), [], [], [], [], [], 1)
def ct129 : CTB := []
def cu129 : List CU := []
theorem ke129 : chkE JB ct129 cu129 kt129 0 29 = true := by decide +kernel
theorem ok129 {β : Nat} : KOK JB (W0 β) 29 kt129 := KOK_of W0_f (CT := ct129) (cuts := cu129) trivial ke129 (fun cu h => by cases h) rfl
/-! HookSwings.Laws.joined(III)I -/
def kt130 : KT := ([.inr (false, 8, 31), .inr (false, (-2147483648), 2147483647), .inr (false, (-2147483648), 2147483647)], some (.inr (false, (-2147483648), 2147483647)), [], [], [], [], [], 2)
def ct130 : CTB := []
def cu130 : List CU := []
theorem ke130 : chkE JB ct130 cu130 kt130 1 45 = true := by decide +kernel
theorem ok130 {β : Nat} : KOK JB (W0 β) 45 kt130 := KOK_of W0_f (CT := ct130) (cuts := cu130) trivial ke130 (fun cu h => by cases h) rfl
/-! HookSwings.Laws.reckon(LHookSwings.Text;I)I -/
def kt131 : KT := ([.inl (.inr (.inr (some 58))), .inl (.inr (.inr (some 22))), .inr (false, 0, 4)], some (.inr (false, (-2147483648), 2147483647)), [(60, 0, 64)], [60], [], [], [], 3)
def ct131 : CTB := [(29, [kt127, kt128, kt129]), (45, [kt130])]
def cu131 : List CU := [(30, [some (.inl (.inr (.inr (some 58)))), some (.inl (.inr (.inr (some 22)))), some (.inr (false, (0, 4, 1, none))), some (.inl (.inr (.inr (some 23)))), some (.inr (false, ((-67108864), 67108863, 1, none))), some (.inr (false, ((-1), 300, 1, none))), some (.inr (false, (0, 64, 1, none))), some (.inr (false, (0, 300, 1, none))), none, none], [], .inr (7, true, 300), .inl 0, .inl 0)]
theorem ke131 : chkE JB ct131 cu131 kt131 2 42 = true := by decide +kernel
theorem ku131 : aLL cu131 (chkU JB ct131 cu131 kt131 2 42) = true := by decide +kernel
theorem ok131 {β : Nat} : KOK JB (W0 β) 42 kt131 := KOK_of W0_f (CT := ct131) (cuts := cu131) ⟨⟨ok127, ok128, ok129, trivial⟩, ⟨ok130, trivial⟩, trivial⟩ ke131 (fun cu h => ⟨rfl, aLL_s ku131 cu h⟩) rfl
/-! HookSwings.Laws.reckon(LHookSwings.Text;I)I -/
def kt132 : KT := ([.inl (.inr (.inr (some 58))), .inl (.inr (.inr (some 28))), .inr (false, 0, 4)], some (.inr (false, (-2147483648), 2147483647)), [(60, 0, 64)], [60], [], [], [], 3)
def ct132 : CTB := [(29, [kt127, kt128, kt129]), (45, [kt130])]
def cu132 : List CU := [(30, [some (.inl (.inr (.inr (some 58)))), some (.inl (.inr (.inr (some 28)))), some (.inr (false, (0, 4, 1, none))), some (.inl (.inr (.inr (some 29)))), some (.inr (false, ((-67108864), 67108863, 1, none))), some (.inr (false, ((-1), 300, 1, none))), some (.inr (false, (0, 64, 1, none))), some (.inr (false, (0, 300, 1, none))), none, none], [], .inr (7, true, 300), .inl 0, .inl 0)]
theorem ke132 : chkE JB ct132 cu132 kt132 2 42 = true := by decide +kernel
theorem ku132 : aLL cu132 (chkU JB ct132 cu132 kt132 2 42) = true := by decide +kernel
theorem ok132 {β : Nat} : KOK JB (W0 β) 42 kt132 := KOK_of W0_f (CT := ct132) (cuts := cu132) ⟨⟨ok127, ok128, ok129, trivial⟩, ⟨ok130, trivial⟩, trivial⟩ ke132 (fun cu h => ⟨rfl, aLL_s ku132 cu h⟩) rfl
/-! HookSwings.Laws.reckon(LHookSwings.Text;I)I -/
def kt133 : KT := ([.inl (.inr (.inr (some 58))), .inl (.inr (.inr (some 34))), .inr (false, 0, 4)], some (.inr (false, (-2147483648), 2147483647)), [(60, 0, 64)], [60], [], [], [], 3)
def ct133 : CTB := [(29, [kt127, kt128, kt129]), (45, [kt130])]
def cu133 : List CU := [(30, [some (.inl (.inr (.inr (some 58)))), some (.inl (.inr (.inr (some 34)))), some (.inr (false, (0, 4, 1, none))), some (.inl (.inr (.inr (some 35)))), some (.inr (false, ((-67108864), 67108863, 1, none))), some (.inr (false, ((-1), 300, 1, none))), some (.inr (false, (0, 64, 1, none))), some (.inr (false, (0, 300, 1, none))), none, none], [], .inr (7, true, 300), .inl 0, .inl 0)]
theorem ke133 : chkE JB ct133 cu133 kt133 2 42 = true := by decide +kernel
theorem ku133 : aLL cu133 (chkU JB ct133 cu133 kt133 2 42) = true := by decide +kernel
theorem ok133 {β : Nat} : KOK JB (W0 β) 42 kt133 := KOK_of W0_f (CT := ct133) (cuts := cu133) ⟨⟨ok127, ok128, ok129, trivial⟩, ⟨ok130, trivial⟩, trivial⟩ ke133 (fun cu h => ⟨rfl, aLL_s ku133 cu h⟩) rfl
/-! HookSwings.Laws.reckon(LHookSwings.Text;I)I -/
def kt134 : KT := ([.inl (.inr (.inr (some 58))), .inl (.inr (.inr (some 40))), .inr (false, 0, 4)], some (.inr (false, (-2147483648), 2147483647)), [(60, 0, 64)], [60], [], [], [], 3)
def ct134 : CTB := [(29, [kt127, kt128, kt129]), (45, [kt130])]
def cu134 : List CU := [(30, [some (.inl (.inr (.inr (some 58)))), some (.inl (.inr (.inr (some 40)))), some (.inr (false, (0, 4, 1, none))), some (.inl (.inr (.inr (some 41)))), some (.inr (false, ((-67108864), 67108863, 1, none))), some (.inr (false, ((-1), 300, 1, none))), some (.inr (false, (0, 64, 1, none))), some (.inr (false, (0, 300, 1, none))), none, none], [], .inr (7, true, 300), .inl 0, .inl 0)]
theorem ke134 : chkE JB ct134 cu134 kt134 2 42 = true := by decide +kernel
theorem ku134 : aLL cu134 (chkU JB ct134 cu134 kt134 2 42) = true := by decide +kernel
theorem ok134 {β : Nat} : KOK JB (W0 β) 42 kt134 := KOK_of W0_f (CT := ct134) (cuts := cu134) ⟨⟨ok127, ok128, ok129, trivial⟩, ⟨ok130, trivial⟩, trivial⟩ ke134 (fun cu h => ⟨rfl, aLL_s ku134 cu h⟩) rfl
/-! HookSwings.Laws.reckon(LHookSwings.Text;I)I -/
def kt135 : KT := ([.inl (.inr (.inr (some 58))), .inl (.inr (.inr (some 46))), .inr (false, 0, 4)], some (.inr (false, (-2147483648), 2147483647)), [(60, 0, 64)], [60], [], [], [], 3)
def ct135 : CTB := [(29, [kt127, kt128, kt129]), (45, [kt130])]
def cu135 : List CU := [(30, [some (.inl (.inr (.inr (some 58)))), some (.inl (.inr (.inr (some 46)))), some (.inr (false, (0, 4, 1, none))), some (.inl (.inr (.inr (some 47)))), some (.inr (false, ((-67108864), 67108863, 1, none))), some (.inr (false, ((-1), 300, 1, none))), some (.inr (false, (0, 64, 1, none))), some (.inr (false, (0, 300, 1, none))), none, none], [], .inr (7, true, 300), .inl 0, .inl 0)]
theorem ke135 : chkE JB ct135 cu135 kt135 2 42 = true := by decide +kernel
theorem ku135 : aLL cu135 (chkU JB ct135 cu135 kt135 2 42) = true := by decide +kernel
theorem ok135 {β : Nat} : KOK JB (W0 β) 42 kt135 := KOK_of W0_f (CT := ct135) (cuts := cu135) ⟨⟨ok127, ok128, ok129, trivial⟩, ⟨ok130, trivial⟩, trivial⟩ ke135 (fun cu h => ⟨rfl, aLL_s ku135 cu h⟩) rfl
/-! HookSwings.Laws.paces(LHookSwings.Hook;)I -/
def kt136 : KT := ([.inl (.inr (.inr (some 58))), .inl (.inr (.inr (some 2)))], some (.inr (false, 0, 9)), [(58, 4, 6), (59, 0, 8), (60, 0, 64)], [58, 59, 60], [], [], [], 4)
def ct136 : CTB := [(42, [kt131, kt132, kt133, kt134, kt135])]
def cu136 : List CU := []
theorem ke136 : chkE JB ct136 cu136 kt136 3 33 = true := by decide +kernel
theorem ok136 {β : Nat} : KOK JB (W0 β) 33 kt136 := KOK_of W0_f (CT := ct136) (cuts := cu136) ⟨⟨ok131, ok132, ok133, ok134, ok135, trivial⟩, trivial⟩ ke136 (fun cu h => by cases h) rfl
/-! HookSwings.Laws.swings(LHookSwings.Hook;)I -/
def kt137 : KT := ([.inl (.inr (.inr (some 58))), .inl (.inr (.inr (some 2)))], some (.inr (false, (-99), 99)), [(58, 4, 6), (59, 0, 8), (60, 0, 64)], [58, 59, 60], [], [], [], 4)
def ct137 : CTB := [(42, [kt131, kt132, kt133, kt134, kt135])]
def cu137 : List CU := []
theorem ke137 : chkE JB ct137 cu137 kt137 3 34 = true := by decide +kernel
theorem ok137 {β : Nat} : KOK JB (W0 β) 34 kt137 := KOK_of W0_f (CT := ct137) (cuts := cu137) ⟨⟨ok131, ok132, ok133, ok134, ok135, trivial⟩, trivial⟩ ke137 (fun cu h => by cases h) rfl
/-! HookSwings.Hook.tenthBy(ILHookSwings.Laws;)V -/
def kt138 : KT := ([.inl (.inr (.inr (some 2))), .inr (false, (-1), 1), .inl (.inr (.inr (some 58)))], none, [(2, 1, 4), (2, 7, 7), (2, 9, 10), (4, 0, 1260), (58, 4, 6), (59, 0, 8), (60, 0, 64)], [2, 4, 58, 59, 60], [], [], [], 5)
def ct138 : CTB := [(27, [kt126]), (33, [kt136]), (34, [kt137])]
def cu138 : List CU := []
theorem ke138 : chkE JB ct138 cu138 kt138 4 12 = true := by decide +kernel
theorem ok138 {β : Nat} : KOK JB (W0 β) 12 kt138 := KOK_of W0_f (CT := ct138) (cuts := cu138) ⟨⟨ok126, trivial⟩, ⟨ok136, trivial⟩, ⟨ok137, trivial⟩, trivial⟩ ke138 (fun cu h => by cases h) rfl
/-! HookSwings.ruled()LHookSwings.Laws; -/
def kt139 : KT := ([.inl (.inr (.inr (some 0)))], some (.inl (.inr (.inr (some 58)))), [(58, 0, 1)], [58], [], [], [], 3)
def ct139 : CTB := []
def cu139 : List CU := []
theorem ke139 : chkE JB ct139 cu139 kt139 2 175 = true := by decide +kernel
theorem ok139 {β : Nat} : KOK JB (W0 β) 175 kt139 := KOK_of W0_f (CT := ct139) (cuts := cu139) trivial ke139 (fun cu h => by cases h) rfl
/-! HookSwings.move(I)I -/
def kt140 : KT := ([.inl (.inr (.inr (some 0))), .inr (false, (-2147483648), 2147483647)], some (.inr (false, (-1), 600)), [(1, 7, 8), (2, 1, 4), (2, 7, 7), (2, 9, 10), (4, 0, 1260), (6, 0, 390), (58, 0, 1), (58, 4, 6), (59, 0, 8), (60, 0, 64)], [1, 2, 4, 6, 58, 59, 60], [], [], [], 6)
def ct140 : CTB := [(12, [kt138]), (111, [kt125]), (175, [kt139])]
def cu140 : List CU := []
theorem ke140 : chkE JB ct140 cu140 kt140 5 126 = true := by decide +kernel
theorem ok140 {β : Nat} : KOK JB (W0 β) 126 kt140 := KOK_of W0_f (CT := ct140) (cuts := cu140) ⟨⟨ok138, trivial⟩, ⟨ok125, trivial⟩, ⟨ok139, trivial⟩, trivial⟩ ke140 (fun cu h => by cases h) rfl
/-! HookSwings.Laws.command(LHookSwings.Hook;)I -/
def kt141 : KT := ([.inl (.inr (.inr (some 58))), .inl (.inr (.inr (some 2)))], some (.inr (false, (-1), 1)), [(58, 4, 6), (59, 0, 8), (60, 0, 64)], [58, 59, 60], [], [], [], 4)
def ct141 : CTB := [(42, [kt131, kt132, kt133, kt134, kt135])]
def cu141 : List CU := []
theorem ke141 : chkE JB ct141 cu141 kt141 3 35 = true := by decide +kernel
theorem ok141 {β : Nat} : KOK JB (W0 β) 35 kt141 := KOK_of W0_f (CT := ct141) (cuts := cu141) ⟨⟨ok131, ok132, ok133, ok134, ok135, trivial⟩, trivial⟩ ke141 (fun cu h => by cases h) rfl
/-! HookSwings.runTenths(I)I -/
def kt142 : KT := ([.inl (.inr (.inr (some 0))), .inr (false, (-1), 9999)], some (.inr (false, (-2147483648), 9999)), [(1, 7, 8), (2, 1, 4), (2, 7, 7), (2, 9, 10), (4, 0, 1260), (6, 0, 390), (58, 0, 1), (58, 4, 6), (59, 0, 8), (60, 0, 64)], [1, 2, 4, 6, 58, 59, 60], [], [], [], 6)
def ct142 : CTB := [(12, [kt138]), (35, [kt141]), (111, [kt125]), (175, [kt139])]
def cu142 : List CU := [(27, [some (.inl (.inr (.inr (some 0)))), some (.inr (false, ((-1), 9999, 1, none))), some (.inl (.inr (.inr (some 58)))), some (.inr (false, ((-2147483648), 9999, 1, none))), some (.inr (false, (0, 9999, 1, none)))], [], .inr (4, true, 9999), .inl 0, .inl 0)]
theorem ke142 : chkE JB ct142 cu142 kt142 5 128 = true := by decide +kernel
theorem ku142 : aLL cu142 (chkU JB ct142 cu142 kt142 5 128) = true := by decide +kernel
theorem ok142 {β : Nat} : KOK JB (W0 β) 128 kt142 := KOK_of W0_f (CT := ct142) (cuts := cu142) ⟨⟨ok138, trivial⟩, ⟨ok141, trivial⟩, ⟨ok125, trivial⟩, ⟨ok139, trivial⟩, trivial⟩ ke142 (fun cu h => ⟨rfl, aLL_s ku142 cu h⟩) rfl
/-! HookSwings.run(I)I -/
def kt143 : KT := ([.inl (.inr (.inr (some 0))), .inr (false, (-2147483648), 2147483647)], some (.inr (false, (-1), 600)), [(1, 7, 8), (2, 1, 4), (2, 7, 7), (2, 9, 10), (4, 0, 1260), (6, 0, 390), (58, 0, 1), (58, 4, 6), (59, 0, 8), (60, 0, 64)], [1, 2, 4, 6, 58, 59, 60], [], [], [], 7)
def ct143 : CTB := [(128, [kt142])]
def cu143 : List CU := []
theorem ke143 : chkE JB ct143 cu143 kt143 6 127 = true := by decide +kernel
theorem ok143 {β : Nat} : KOK JB (W0 β) 127 kt143 := KOK_of W0_f (CT := ct143) (cuts := cu143) ⟨⟨ok142, trivial⟩, trivial⟩ ke143 (fun cu h => by cases h) rfl
/-! HookSwings.hoist(I)Z -/
def kt144 : KT := ([.inl (.inr (.inr (some 0))), .inr (false, (-2147483648), 2147483647)], some (.inr (false, 0, 1)), [(1, 7, 8), (2, 5, 5), (6, 0, 390)], [1, 2, 6], [], [], [], 3)
def ct144 : CTB := [(111, [kt125])]
def cu144 : List CU := []
theorem ke144 : chkE JB ct144 cu144 kt144 2 130 = true := by decide +kernel
theorem ok144 {β : Nat} : KOK JB (W0 β) 130 kt144 := KOK_of W0_f (CT := ct144) (cuts := cu144) ⟨⟨ok125, trivial⟩, trivial⟩ ke144 (fun cu h => by cases h) rfl
/-! HookSwings.aim(I)Z -/
def kt145 : KT := ([.inl (.inr (.inr (some 0))), .inr (false, (-2147483648), 2147483647)], some (.inr (false, 0, 1)), [(1, 7, 8), (2, 8, 8), (6, 0, 390)], [1, 2, 6], [], [], [], 3)
def ct145 : CTB := [(111, [kt125])]
def cu145 : List CU := []
theorem ke145 : chkE JB ct145 cu145 kt145 2 131 = true := by decide +kernel
theorem ok145 {β : Nat} : KOK JB (W0 β) 131 kt145 := KOK_of W0_f (CT := ct145) (cuts := cu145) ⟨⟨ok125, trivial⟩, trivial⟩ ke145 (fun cu h => by cases h) rfl
/-! HookSwings.World.told(II)I -/
def kt146 : KT := ([.inl (.inr (.inr (some 1))), .inr (false, 0, 7), .inr (false, 0, 7)], some (.inr (false, 0, 999)), [], [], [], [], [], 2)
def ct146 : CTB := []
def cu146 : List CU := []
theorem ke146 : chkE JB ct146 cu146 kt146 1 110 = true := by decide +kernel
theorem ok146 {β : Nat} : KOK JB (W0 β) 110 kt146 := KOK_of W0_f (CT := ct146) (cuts := cu146) trivial ke146 (fun cu h => by cases h) rfl
/-! HookSwings.hook(I)Z -/
def kt147 : KT := ([.inl (.inr (.inr (some 0))), .inr (false, (-2147483648), 2147483647)], some (.inr (false, 0, 1)), [(1, 7, 8), (2, 6, 6), (2, 8, 8), (2, 11, 11), (6, 0, 390)], [1, 2, 6], [], [], [], 3)
def ct147 : CTB := [(110, [kt146]), (111, [kt125])]
def cu147 : List CU := []
theorem ke147 : chkE JB ct147 cu147 kt147 2 132 = true := by decide +kernel
theorem ok147 {β : Nat} : KOK JB (W0 β) 132 kt147 := KOK_of W0_f (CT := ct147) (cuts := cu147) ⟨⟨ok146, trivial⟩, ⟨ok125, trivial⟩, trivial⟩ ke147 (fun cu h => by cases h) rfl
/-! HookSwings.Hook.hangsStill(I)Z -/
def kt148 : KT := ([.inl (.inr (.inr (some 2))), .inr (false, 0, 99)], some (.inr (false, 0, 1)), [], [], [], [], [], 3)
def ct148 : CTB := []
def cu148 : List CU := []
theorem ke148 : chkE JB ct148 cu148 kt148 2 11 = true := by decide +kernel
theorem ok148 {β : Nat} : KOK JB (W0 β) 11 kt148 := KOK_of W0_f (CT := ct148) (cuts := cu148) trivial ke148 (fun cu h => by cases h) rfl
/-! HookSwings.land()I -/
def kt149 : KT := ([.inl (.inr (.inr (some 0)))], some (.inr (false, (-1), 7)), [(1, 7, 8), (2, 6, 6), (2, 11, 13), (6, 0, 390), (9, 0, 20), (10, 0, 20)], [1, 2, 6, 9, 10], [], [], [], 4)
def ct149 : CTB := [(11, [kt148]), (111, [kt125])]
def cu149 : List CU := []
theorem ke149 : chkE JB ct149 cu149 kt149 3 133 = true := by decide +kernel
theorem ok149 {β : Nat} : KOK JB (W0 β) 133 kt149 := KOK_of W0_f (CT := ct149) (cuts := cu149) ⟨⟨ok148, trivial⟩, ⟨ok125, trivial⟩, trivial⟩ ke149 (fun cu h => by cases h) rfl
/-! HookSwings.playClause(LHookSwings.Text;I)Z -/
def kt150 : KT := ([.inl (.inr (.inr (some 0))), .inl (.inr (.inr (some 22))), .inr (false, 0, 24)], some (.inr (false, 0, 1)), [(1, 5, 5), (1, 7, 8), (2, 1, 13), (4, 0, 1260), (5, 0, 40), (6, 0, 390), (9, 0, 20), (10, 0, 20), (58, 0, 1), (58, 4, 6), (59, 0, 8), (60, 0, 64)], [1, 2, 4, 5, 6, 9, 10, 58, 59, 60], [], [], [], 7)
def ct150 : CTB := [(118, [kt0]), (126, [kt140]), (128, [kt142]), (130, [kt144]), (131, [kt145]), (132, [kt147]), (133, [kt149])]
def cu150 : List CU := []
theorem ke150 : chkE JB ct150 cu150 kt150 6 135 = true := by decide +kernel
theorem ok150 {β : Nat} : KOK JB (W0 β) 135 kt150 := KOK_of W0_f (CT := ct150) (cuts := cu150) ⟨⟨ok0, trivial⟩, ⟨ok140, trivial⟩, ⟨ok142, trivial⟩, ⟨ok144, trivial⟩, ⟨ok145, trivial⟩, ⟨ok147, trivial⟩, ⟨ok149, trivial⟩, trivial⟩ ke150 (fun cu h => by cases h) rfl
/-! HookSwings.playClause(LHookSwings.Text;I)Z -/
def kt151 : KT := ([.inl (.inr (.inr (some 0))), .inl (.inr (.inr (some 28))), .inr (false, 0, 24)], some (.inr (false, 0, 1)), [(1, 5, 5), (1, 7, 8), (2, 1, 13), (4, 0, 1260), (5, 0, 40), (6, 0, 390), (9, 0, 20), (10, 0, 20), (58, 0, 1), (58, 4, 6), (59, 0, 8), (60, 0, 64)], [1, 2, 4, 5, 6, 9, 10, 58, 59, 60], [], [], [], 7)
def ct151 : CTB := [(118, [kt0]), (126, [kt140]), (128, [kt142]), (130, [kt144]), (131, [kt145]), (132, [kt147]), (133, [kt149])]
def cu151 : List CU := []
theorem ke151 : chkE JB ct151 cu151 kt151 6 135 = true := by decide +kernel
theorem ok151 {β : Nat} : KOK JB (W0 β) 135 kt151 := KOK_of W0_f (CT := ct151) (cuts := cu151) ⟨⟨ok0, trivial⟩, ⟨ok140, trivial⟩, ⟨ok142, trivial⟩, ⟨ok144, trivial⟩, ⟨ok145, trivial⟩, ⟨ok147, trivial⟩, ⟨ok149, trivial⟩, trivial⟩ ke151 (fun cu h => by cases h) rfl
/-! HookSwings.playClause(LHookSwings.Text;I)Z -/
def kt152 : KT := ([.inl (.inr (.inr (some 0))), .inl (.inr (.inr (some 34))), .inr (false, 0, 24)], some (.inr (false, 0, 1)), [(1, 5, 5), (1, 7, 8), (2, 1, 13), (4, 0, 1260), (5, 0, 40), (6, 0, 390), (9, 0, 20), (10, 0, 20), (58, 0, 1), (58, 4, 6), (59, 0, 8), (60, 0, 64)], [1, 2, 4, 5, 6, 9, 10, 58, 59, 60], [], [], [], 7)
def ct152 : CTB := [(118, [kt0]), (126, [kt140]), (128, [kt142]), (130, [kt144]), (131, [kt145]), (132, [kt147]), (133, [kt149])]
def cu152 : List CU := []
theorem ke152 : chkE JB ct152 cu152 kt152 6 135 = true := by decide +kernel
theorem ok152 {β : Nat} : KOK JB (W0 β) 135 kt152 := KOK_of W0_f (CT := ct152) (cuts := cu152) ⟨⟨ok0, trivial⟩, ⟨ok140, trivial⟩, ⟨ok142, trivial⟩, ⟨ok144, trivial⟩, ⟨ok145, trivial⟩, ⟨ok147, trivial⟩, ⟨ok149, trivial⟩, trivial⟩ ke152 (fun cu h => by cases h) rfl
/-! HookSwings.playClause(LHookSwings.Text;I)Z -/
def kt153 : KT := ([.inl (.inr (.inr (some 0))), .inl (.inr (.inr (some 40))), .inr (false, 0, 24)], some (.inr (false, 0, 1)), [(1, 5, 5), (1, 7, 8), (2, 1, 13), (4, 0, 1260), (5, 0, 40), (6, 0, 390), (9, 0, 20), (10, 0, 20), (58, 0, 1), (58, 4, 6), (59, 0, 8), (60, 0, 64)], [1, 2, 4, 5, 6, 9, 10, 58, 59, 60], [], [], [], 7)
def ct153 : CTB := [(118, [kt0]), (126, [kt140]), (128, [kt142]), (130, [kt144]), (131, [kt145]), (132, [kt147]), (133, [kt149])]
def cu153 : List CU := []
theorem ke153 : chkE JB ct153 cu153 kt153 6 135 = true := by decide +kernel
theorem ok153 {β : Nat} : KOK JB (W0 β) 135 kt153 := KOK_of W0_f (CT := ct153) (cuts := cu153) ⟨⟨ok0, trivial⟩, ⟨ok140, trivial⟩, ⟨ok142, trivial⟩, ⟨ok144, trivial⟩, ⟨ok145, trivial⟩, ⟨ok147, trivial⟩, ⟨ok149, trivial⟩, trivial⟩ ke153 (fun cu h => by cases h) rfl
/-! HookSwings.played(I)I -/
def kt154 : KT := ([.inl (.inr (.inr (some 0))), .inr (false, (-2147483648), 2147483647)], some (.inr (false, (-2), 24)), [(1, 5, 5), (1, 7, 8), (2, 1, 13), (4, 0, 1260), (5, 0, 40), (6, 0, 390), (9, 0, 20), (10, 0, 20), (58, 0, 1), (58, 4, 6), (59, 0, 8), (60, 0, 64)], [1, 2, 4, 5, 6, 9, 10, 58, 59, 60], [], [], [], 8)
def ct154 : CTB := [(135, [kt150, kt151, kt152, kt153])]
def cu154 : List CU := [(20, [some (.inl (.inr (.inr (some 0)))), some (.inr (false, (0, 0, 1, none))), some (.inl (.inr (.inr (some 22)))), some (.inr (false, (0, 24, 1, none)))], [], .inl 0, .inr (3, true, 24), .inl 0),
  (20, [some (.inl (.inr (.inr (some 0)))), some (.inr (false, (1, 1, 1, none))), some (.inl (.inr (.inr (some 28)))), some (.inr (false, (0, 24, 1, none)))], [], .inl 1, .inr (3, true, 24), .inl 0),
  (20, [some (.inl (.inr (.inr (some 0)))), some (.inr (false, (2, 2, 1, none))), some (.inl (.inr (.inr (some 34)))), some (.inr (false, (0, 24, 1, none)))], [], .inl 2, .inr (3, true, 24), .inl 0),
  (20, [some (.inl (.inr (.inr (some 0)))), some (.inr (false, (3, 3, 1, none))), some (.inl (.inr (.inr (some 40)))), some (.inr (false, (0, 24, 1, none)))], [], .inl 3, .inr (3, true, 24), .inl 0)]
theorem ke154 : chkE JB ct154 cu154 kt154 7 134 = true := by decide +kernel
theorem ku154 : aLL cu154 (chkU JB ct154 cu154 kt154 7 134) = true := by decide +kernel
theorem ok154 {β : Nat} : KOK JB (W0 β) 134 kt154 := KOK_of W0_f (CT := ct154) (cuts := cu154) ⟨⟨ok150, ok151, ok152, ok153, trivial⟩, trivial⟩ ke154 (fun cu h => ⟨rfl, aLL_s ku154 cu h⟩) rfl
/-! HookSwings.storm(II)I -/
def kt155 : KT := ([.inl (.inr (.inr (some 0))), .inr (false, (-2147483648), 2147483647), .inr (false, (-2147483648), 2147483647)], some (.inr (false, (-1), 600)), [(1, 7, 8), (2, 1, 4), (2, 7, 7), (2, 9, 10), (4, 0, 1260), (6, 0, 390), (58, 0, 1), (58, 4, 6), (59, 0, 8), (60, 0, 64)], [1, 2, 4, 6, 58, 59, 60], [], [], [], 6)
def ct155 : CTB := [(12, [kt138]), (111, [kt125]), (175, [kt139])]
def cu155 : List CU := [(65, [some (.inl (.inr (.inr (some 0)))), some (.inr (false, (0, 9999, 1, none))), some (.inr (false, (1, 40, 1, none))), some (.inl (.inr (.inr (some 2)))), some (.inl (.inr (.inr (some 58)))), some (.inr (false, (0, 59, 1, none)))], [], .inr (5, true, 40), .inl 0, .inl 0)]
theorem ke155 : chkE JB ct155 cu155 kt155 5 136 = true := by decide +kernel
theorem ku155 : aLL cu155 (chkU JB ct155 cu155 kt155 5 136) = true := by decide +kernel
theorem ok155 {β : Nat} : KOK JB (W0 β) 136 kt155 := KOK_of W0_f (CT := ct155) (cuts := cu155) ⟨⟨ok138, trivial⟩, ⟨ok125, trivial⟩, ⟨ok139, trivial⟩, trivial⟩ ke155 (fun cu h => ⟨rfl, aLL_s ku155 cu h⟩) rfl
/-! HookSwings.Hook.restore([II)V -/
def kt156 : KT := ([.inl (.inr (.inr (some 2))), .inl (.inr (.inr (some 6))), .inr (false, 0, 29)], none, [(2, 1, 13)], [2], [], [], [], 1)
def ct156 : CTB := []
def cu156 : List CU := []
theorem ke156 : chkE JB ct156 cu156 kt156 0 25 = true := by decide +kernel
theorem ok156 {β : Nat} : KOK JB (W0 β) 25 kt156 := KOK_of W0_f (CT := ct156) (cuts := cu156) trivial ke156 (fun cu h => by cases h) rfl
/-! HookSwings.undo()I -/
def kt157 : KT := ([.inl (.inr (.inr (some 0)))], some (.inr (false, (-1), 29)), [(1, 7, 8), (2, 1, 13)], [1, 2], [], [], [], 3)
def ct157 : CTB := [(25, [kt156])]
def cu157 : List CU := []
theorem ke157 : chkE JB ct157 cu157 kt157 2 137 = true := by decide +kernel
theorem ok157 {β : Nat} : KOK JB (W0 β) 137 kt157 := KOK_of W0_f (CT := ct157) (cuts := cu157) ⟨⟨ok156, trivial⟩, trivial⟩ ke157 (fun cu h => by cases h) rfl
/-! HookSwings.jib(I)I -/
def kt158 : KT := ([.inl (.inr (.inr (some 0))), .inr (false, (-2147483648), 2147483647)], some (.inr (false, (-2147483648), 2147483647)), [(58, 0, 1), (58, 4, 6), (59, 0, 8), (60, 0, 64)], [58, 59, 60], [], [], [], 5)
def ct158 : CTB := [(11, [kt148]), (35, [kt141]), (175, [kt139])]
def cu158 : List CU := []
theorem ke158 : chkE JB ct158 cu158 kt158 4 138 = true := by decide +kernel
theorem ok158 {β : Nat} : KOK JB (W0 β) 138 kt158 := KOK_of W0_f (CT := ct158) (cuts := cu158) ⟨⟨ok148, trivial⟩, ⟨ok141, trivial⟩, ⟨ok139, trivial⟩, trivial⟩ ke158 (fun cu h => by cases h) rfl
/-! HookSwings.Laws.holds(I)I -/
def kt159 : KT := ([.inl (.inr (.inr (some 58))), .inr (false, 0, 999)], some (.inr (false, (-939), 99)), [(59, 0, 8), (60, 0, 64)], [59, 60], [], [], [], 4)
def ct159 : CTB := [(42, [kt131, kt132, kt133, kt134, kt135])]
def cu159 : List CU := []
theorem ke159 : chkE JB ct159 cu159 kt159 3 37 = true := by decide +kernel
theorem ok159 {β : Nat} : KOK JB (W0 β) 37 kt159 := KOK_of W0_f (CT := ct159) (cuts := cu159) ⟨⟨ok131, ok132, ok133, ok134, ok135, trivial⟩, trivial⟩ ke159 (fun cu h => by cases h) rfl
/-! HookSwings.Laws.lasts(III)I -/
def kt160 : KT := ([.inl (.inr (.inr (some 58))), .inr (false, 0, 24), .inr (false, 0, 999), .inr (false, 0, 999)], some (.inr (false, (-2147483648), 2147483647)), [(59, 0, 8), (60, 0, 64)], [59, 60], [], [], [], 4)
def ct160 : CTB := [(42, [kt131, kt132, kt133, kt134, kt135])]
def cu160 : List CU := []
theorem ke160 : chkE JB ct160 cu160 kt160 3 38 = true := by decide +kernel
theorem ok160 {β : Nat} : KOK JB (W0 β) 38 kt160 := KOK_of W0_f (CT := ct160) (cuts := cu160) ⟨⟨ok131, ok132, ok133, ok134, ok135, trivial⟩, trivial⟩ ke160 (fun cu h => by cases h) rfl
/-! HookSwings.ofOrder(II)I -/
def kt161 : KT := ([.inl (.inr (.inr (some 0))), .inr (false, (-2147483648), 2147483647), .inr (false, (-2147483648), 2147483647)], some (.inr (false, (-2147483648), 2147483647)), [(58, 0, 1), (59, 0, 8), (60, 0, 64)], [58, 59, 60], [], [], [], 6)
def ct161 : CTB := [(37, [kt159]), (38, [kt160]), (110, [kt146]), (175, [kt139])]
def cu161 : List CU := []
theorem ke161 : chkE JB ct161 cu161 kt161 5 139 = true := by decide +kernel
theorem ok161 {β : Nat} : KOK JB (W0 β) 139 kt161 := KOK_of W0_f (CT := ct161) (cuts := cu161) ⟨⟨ok159, trivial⟩, ⟨ok160, trivial⟩, ⟨ok146, trivial⟩, ⟨ok139, trivial⟩, trivial⟩ ke161 (fun cu h => by cases h) rfl
/-! HookSwings.ago(II)I -/
def kt162 : KT := ([.inl (.inr (.inr (some 0))), .inr (false, (-2147483648), 2147483647), .inr (false, (-2147483648), 2147483647)], some (.inr (false, (-2147483648), 2147483647)), [], [], [], [], [], 2)
def ct162 : CTB := [(29, [kt127])]
def cu162 : List CU := []
theorem ke162 : chkE JB ct162 cu162 kt162 1 141 = true := by decide +kernel
theorem ok162 {β : Nat} : KOK JB (W0 β) 141 kt162 := KOK_of W0_f (CT := ct162) (cuts := cu162) ⟨⟨ok127, trivial⟩, trivial⟩ ke162 (fun cu h => by cases h) rfl
/-! HookSwings.Hook.hangsStill(I)Z -/
def kt163 : KT := ([.inl (.inr (.inr (some 52))), .inr (false, 0, 99)], some (.inr (false, 0, 1)), [], [], [], [], [], 3)
def ct163 : CTB := []
def cu163 : List CU := []
theorem ke163 : chkE JB ct163 cu163 kt163 2 11 = true := by decide +kernel
theorem ok163 {β : Nat} : KOK JB (W0 β) 11 kt163 := KOK_of W0_f (CT := ct163) (cuts := cu163) trivial ke163 (fun cu h => by cases h) rfl
/-! HookSwings.Kept.keep(LHookSwings.Hook;I)V -/
def kt164 : KT := ([.inl (.inr (.inr (some 53))), .inl (.inr (.inr (some 52))), .inr (false, (-1), 1)], none, [(54, 0, 32)], [54], [], [], [], 2)
def ct164 : CTB := []
def cu164 : List CU := []
theorem ke164 : chkE JB ct164 cu164 kt164 1 27 = true := by decide +kernel
theorem ok164 {β : Nat} : KOK JB (W0 β) 27 kt164 := KOK_of W0_f (CT := ct164) (cuts := cu164) trivial ke164 (fun cu h => by cases h) rfl
/-! HookSwings.Laws.paces(LHookSwings.Hook;)I -/
def kt165 : KT := ([.inl (.inr (.inr (some 58))), .inl (.inr (.inr (some 52)))], some (.inr (false, 0, 9)), [(58, 4, 6), (59, 0, 8), (60, 0, 64)], [58, 59, 60], [], [], [], 4)
def ct165 : CTB := [(42, [kt131, kt132, kt133, kt134, kt135])]
def cu165 : List CU := []
theorem ke165 : chkE JB ct165 cu165 kt165 3 33 = true := by decide +kernel
theorem ok165 {β : Nat} : KOK JB (W0 β) 33 kt165 := KOK_of W0_f (CT := ct165) (cuts := cu165) ⟨⟨ok131, ok132, ok133, ok134, ok135, trivial⟩, trivial⟩ ke165 (fun cu h => by cases h) rfl
/-! HookSwings.Laws.swings(LHookSwings.Hook;)I -/
def kt166 : KT := ([.inl (.inr (.inr (some 58))), .inl (.inr (.inr (some 52)))], some (.inr (false, (-99), 99)), [(58, 4, 6), (59, 0, 8), (60, 0, 64)], [58, 59, 60], [], [], [], 4)
def ct166 : CTB := [(42, [kt131, kt132, kt133, kt134, kt135])]
def cu166 : List CU := []
theorem ke166 : chkE JB ct166 cu166 kt166 3 34 = true := by decide +kernel
theorem ok166 {β : Nat} : KOK JB (W0 β) 34 kt166 := KOK_of W0_f (CT := ct166) (cuts := cu166) ⟨⟨ok131, ok132, ok133, ok134, ok135, trivial⟩, trivial⟩ ke166 (fun cu h => by cases h) rfl
/-! HookSwings.Hook.tenthBy(ILHookSwings.Laws;)V -/
def kt167 : KT := ([.inl (.inr (.inr (some 52))), .inr (false, (-1), 1), .inl (.inr (.inr (some 58)))], none, [(52, 1, 4), (52, 7, 7), (52, 9, 10), (54, 0, 32), (58, 4, 6), (59, 0, 8), (60, 0, 64)], [52, 54, 58, 59, 60], [], [], [], 5)
def ct167 : CTB := [(27, [kt164]), (33, [kt165]), (34, [kt166])]
def cu167 : List CU := []
theorem ke167 : chkE JB ct167 cu167 kt167 4 12 = true := by decide +kernel
theorem ok167 {β : Nat} : KOK JB (W0 β) 12 kt167 := KOK_of W0_f (CT := ct167) (cuts := cu167) ⟨⟨ok164, trivial⟩, ⟨ok165, trivial⟩, ⟨ok166, trivial⟩, trivial⟩ ke167 (fun cu h => by cases h) rfl
/-! HookSwings.Hook.copyParts(LHookSwings.Hook;)V -/
def kt168 : KT := ([.inl (.inr (.inr (some 52))), .inl (.inr (.inr (some 2)))], none, [(52, 1, 14)], [52], [], [], [], 1)
def ct168 : CTB := []
def cu168 : List CU := []
theorem ke168 : chkE JB ct168 cu168 kt168 0 23 = true := by decide +kernel
theorem ok168 {β : Nat} : KOK JB (W0 β) 23 kt168 := KOK_of W0_f (CT := ct168) (cuts := cu168) trivial ke168 (fun cu h => by cases h) rfl
/-! HookSwings.Kept.copyLatest(LHookSwings.Kept;I)V -/
def kt169 : KT := ([.inl (.inr (.inr (some 53))), .inl (.inr (.inr (some 3))), .inr (false, (-2147483648), 2147483647)], none, [(54, 0, 32)], [54], [], [], [], 1)
def ct169 : CTB := []
def cu169 : List CU := [(9, [some (.inl (.inr (.inr (some 53)))), some (.inl (.inr (.inr (some 3)))), some (.inr (false, ((-2147483648), 2147483647, 1, none))), some (.inr (false, (0, 2147483647, 1, none)))], [], .inr (3, true, 2147483647), .inl 0, .inl 0)]
theorem ke169 : chkE JB ct169 cu169 kt169 0 30 = true := by decide +kernel
theorem ku169 : aLL cu169 (chkU JB ct169 cu169 kt169 0 30) = true := by decide +kernel
theorem ok169 {β : Nat} : KOK JB (W0 β) 30 kt169 := KOK_of W0_f (CT := ct169) (cuts := cu169) trivial ke169 (fun cu h => ⟨rfl, aLL_s ku169 cu h⟩) rfl
/-! HookSwings.Hook.startAs(LHookSwings.Hook;)V -/
def kt170 : KT := ([.inl (.inr (.inr (some 52))), .inl (.inr (.inr (some 2)))], none, [(52, 1, 14), (54, 0, 32)], [52, 54], [], [], [], 2)
def ct170 : CTB := [(23, [kt168]), (30, [kt169])]
def cu170 : List CU := []
theorem ke170 : chkE JB ct170 cu170 kt170 1 21 = true := by decide +kernel
theorem ok170 {β : Nat} : KOK JB (W0 β) 21 kt170 := KOK_of W0_f (CT := ct170) (cuts := cu170) ⟨⟨ok168, trivial⟩, ⟨ok169, trivial⟩, trivial⟩ ke170 (fun cu h => by cases h) rfl
/-! HookSwings.Laws.command(LHookSwings.Hook;)I -/
def kt171 : KT := ([.inl (.inr (.inr (some 58))), .inl (.inr (.inr (some 52)))], some (.inr (false, (-1), 1)), [(58, 4, 6), (59, 0, 8), (60, 0, 64)], [58, 59, 60], [], [], [], 4)
def ct171 : CTB := [(42, [kt131, kt132, kt133, kt134, kt135])]
def cu171 : List CU := []
theorem ke171 : chkE JB ct171 cu171 kt171 3 35 = true := by decide +kernel
theorem ok171 {β : Nat} : KOK JB (W0 β) 35 kt171 := KOK_of W0_f (CT := ct171) (cuts := cu171) ⟨⟨ok131, ok132, ok133, ok134, ok135, trivial⟩, trivial⟩ ke171 (fun cu h => by cases h) rfl
/-! HookSwings.foretold(IZI)I -/
def kt172 : KT := ([.inl (.inr (.inr (some 0))), .inr (false, (-2147483648), 2147483647), .inr (false, 0, 1), .inr (false, (-2147483648), 2147483647)], some (.inr (false, (-100000), 20000)), [(52, 1, 14), (54, 0, 32), (58, 0, 1), (58, 4, 6), (59, 0, 8), (60, 0, 64)], [52, 54, 58, 59, 60], [], [], [], 7)
def ct172 : CTB := [(11, [kt163]), (12, [kt167]), (21, [kt170]), (35, [kt171]), (175, [kt139])]
def cu172 : List CU := [(52, [some (.inl (.inr (.inr (some 0)))), some (.inr (false, (1, 200, 1, none))), some (.inr (false, (0, 1, 1, none))), some (.inr (false, (0, 3, 1, none))), some (.inl (.inr (.inr (some 58)))), some (.inr (false, (0, 20000, 1, none))), some (.inr (false, ((-1), 200, 1, none))), some (.inr (false, (1, 201, 1, none)))], [], .inr (7, true, 201), .inl 0, .inl 0)]
theorem ke172 : chkE JB ct172 cu172 kt172 6 142 = true := by decide +kernel
theorem ku172 : aLL cu172 (chkU JB ct172 cu172 kt172 6 142) = true := by decide +kernel
theorem ok172 {β : Nat} : KOK JB (W0 β) 142 kt172 := KOK_of W0_f (CT := ct172) (cuts := cu172) ⟨⟨ok163, trivial⟩, ⟨ok167, trivial⟩, ⟨ok170, trivial⟩, ⟨ok171, trivial⟩, ⟨ok139, trivial⟩, trivial⟩ ke172 (fun cu h => ⟨rfl, aLL_s ku172 cu h⟩) rfl
/-! HookSwings.Hook.save([II)V -/
def kt173 : KT := ([.inl (.inr (.inr (some 52))), .inl (.inr (.inr (some 62))), .inr (false, 0, 7)], none, [(62, 0, 104)], [62], [], [], [], 1)
def ct173 : CTB := []
def cu173 : List CU := []
theorem ke173 : chkE JB ct173 cu173 kt173 0 24 = true := by decide +kernel
theorem ok173 {β : Nat} : KOK JB (W0 β) 24 kt173 := KOK_of W0_f (CT := ct173) (cuts := cu173) trivial ke173 (fun cu h => by cases h) rfl
/-! HookSwings.Hook.restore([II)V -/
def kt174 : KT := ([.inl (.inr (.inr (some 52))), .inl (.inr (.inr (some 62))), .inr (false, 0, 7)], none, [(52, 1, 13)], [52], [], [], [], 1)
def ct174 : CTB := []
def cu174 : List CU := []
theorem ke174 : chkE JB ct174 cu174 kt174 0 25 = true := by decide +kernel
theorem ok174 {β : Nat} : KOK JB (W0 β) 25 kt174 := KOK_of W0_f (CT := ct174) (cuts := cu174) trivial ke174 (fun cu h => by cases h) rfl
/-! HookSwings.Search.search(LHookSwings.Hook;LHookSwings.Laws;II)V -/
def kt175 : KT := ([.inl (.inr (.inr (some 61))), .inl (.inr (.inr (some 52))), .inl (.inr (.inr (some 58))), .inl (.inl 7), .inr (false, 0, 7)], none, [(61, 5, 6), (64, 0, 7)], [61, 64], [], [], [], 4)
def ct175 : CTB := [(11, [kt163])]
def cu175 : List CU := []
theorem ke175 : chkE JB ct175 cu175 kt175 3 82 = true := by decide +kernel
theorem ok175 {β : Nat} : KOK JB (W0 β) 82 kt175 := KOK_of W0_f (CT := ct175) (cuts := cu175) ⟨⟨ok163, trivial⟩, trivial⟩ ke175 (fun cu h => by cases h) rfl
/-! HookSwings.Search.search(LHookSwings.Hook;LHookSwings.Laws;II)V -/
def kt176 : KT := ([.inl (.inr (.inr (some 61))), .inl (.inr (.inr (some 52))), .inl (.inr (.inr (some 58))), .inl (.inl 6), .inr (false, 0, 6)], none, [(52, 1, 13), (54, 0, 32), (58, 4, 6), (59, 0, 8), (60, 0, 64), (61, 5, 6), (62, 0, 104), (63, 0, 7), (64, 0, 7)], [52, 54, 58, 59, 60, 61, 62, 63, 64], [], [], [], 6)
def ct176 : CTB := [(11, [kt163]), (12, [kt167]), (24, [kt173]), (25, [kt174]), (82, [kt175])]
def cu176 : List CU := [(61, [some (.inl (.inr (.inr (some 61)))), some (.inl (.inr (.inr (some 52)))), some (.inl (.inr (.inr (some 58)))), some (.inl (.inl 6)), some (.inr (false, (0, 6, 1, none))), some (.inr (false, ((-1), 2, 1, none)))], [], .inr (5, true, 2), .inl 0, .inl 0)]
theorem ke176 : chkE JB ct176 cu176 kt176 5 82 = true := by decide +kernel
theorem ku176 : aLL cu176 (chkU JB ct176 cu176 kt176 5 82) = true := by decide +kernel
theorem ok176 {β : Nat} : KOK JB (W0 β) 82 kt176 := KOK_of W0_f (CT := ct176) (cuts := cu176) ⟨⟨ok163, trivial⟩, ⟨ok167, trivial⟩, ⟨ok173, trivial⟩, ⟨ok174, trivial⟩, ⟨ok175, trivial⟩, trivial⟩ ke176 (fun cu h => ⟨rfl, aLL_s ku176 cu h⟩) rfl
/-! HookSwings.Search.search(LHookSwings.Hook;LHookSwings.Laws;II)V -/
def kt177 : KT := ([.inl (.inr (.inr (some 61))), .inl (.inr (.inr (some 52))), .inl (.inr (.inr (some 58))), .inl (.inl 5), .inr (false, 0, 5)], none, [(52, 1, 13), (54, 0, 32), (58, 4, 6), (59, 0, 8), (60, 0, 64), (61, 5, 6), (62, 0, 104), (63, 0, 7), (64, 0, 7)], [52, 54, 58, 59, 60, 61, 62, 63, 64], [], [], [], 7)
def ct177 : CTB := [(11, [kt163]), (12, [kt167]), (24, [kt173]), (25, [kt174]), (82, [kt176])]
def cu177 : List CU := [(61, [some (.inl (.inr (.inr (some 61)))), some (.inl (.inr (.inr (some 52)))), some (.inl (.inr (.inr (some 58)))), some (.inl (.inl 5)), some (.inr (false, (0, 5, 1, none))), some (.inr (false, ((-1), 2, 1, none)))], [], .inr (5, true, 2), .inl 0, .inl 0)]
theorem ke177 : chkE JB ct177 cu177 kt177 6 82 = true := by decide +kernel
theorem ku177 : aLL cu177 (chkU JB ct177 cu177 kt177 6 82) = true := by decide +kernel
theorem ok177 {β : Nat} : KOK JB (W0 β) 82 kt177 := KOK_of W0_f (CT := ct177) (cuts := cu177) ⟨⟨ok163, trivial⟩, ⟨ok167, trivial⟩, ⟨ok173, trivial⟩, ⟨ok174, trivial⟩, ⟨ok176, trivial⟩, trivial⟩ ke177 (fun cu h => ⟨rfl, aLL_s ku177 cu h⟩) rfl
/-! HookSwings.Search.search(LHookSwings.Hook;LHookSwings.Laws;II)V -/
def kt178 : KT := ([.inl (.inr (.inr (some 61))), .inl (.inr (.inr (some 52))), .inl (.inr (.inr (some 58))), .inl (.inl 4), .inr (false, 0, 4)], none, [(52, 1, 13), (54, 0, 32), (58, 4, 6), (59, 0, 8), (60, 0, 64), (61, 5, 6), (62, 0, 104), (63, 0, 7), (64, 0, 7)], [52, 54, 58, 59, 60, 61, 62, 63, 64], [], [], [], 8)
def ct178 : CTB := [(11, [kt163]), (12, [kt167]), (24, [kt173]), (25, [kt174]), (82, [kt177])]
def cu178 : List CU := [(61, [some (.inl (.inr (.inr (some 61)))), some (.inl (.inr (.inr (some 52)))), some (.inl (.inr (.inr (some 58)))), some (.inl (.inl 4)), some (.inr (false, (0, 4, 1, none))), some (.inr (false, ((-1), 2, 1, none)))], [], .inr (5, true, 2), .inl 0, .inl 0)]
theorem ke178 : chkE JB ct178 cu178 kt178 7 82 = true := by decide +kernel
theorem ku178 : aLL cu178 (chkU JB ct178 cu178 kt178 7 82) = true := by decide +kernel
theorem ok178 {β : Nat} : KOK JB (W0 β) 82 kt178 := KOK_of W0_f (CT := ct178) (cuts := cu178) ⟨⟨ok163, trivial⟩, ⟨ok167, trivial⟩, ⟨ok173, trivial⟩, ⟨ok174, trivial⟩, ⟨ok177, trivial⟩, trivial⟩ ke178 (fun cu h => ⟨rfl, aLL_s ku178 cu h⟩) rfl
/-! HookSwings.Search.search(LHookSwings.Hook;LHookSwings.Laws;II)V -/
def kt179 : KT := ([.inl (.inr (.inr (some 61))), .inl (.inr (.inr (some 52))), .inl (.inr (.inr (some 58))), .inl (.inl 3), .inr (false, 0, 3)], none, [(52, 1, 13), (54, 0, 32), (58, 4, 6), (59, 0, 8), (60, 0, 64), (61, 5, 6), (62, 0, 104), (63, 0, 7), (64, 0, 7)], [52, 54, 58, 59, 60, 61, 62, 63, 64], [], [], [], 9)
def ct179 : CTB := [(11, [kt163]), (12, [kt167]), (24, [kt173]), (25, [kt174]), (82, [kt178])]
def cu179 : List CU := [(61, [some (.inl (.inr (.inr (some 61)))), some (.inl (.inr (.inr (some 52)))), some (.inl (.inr (.inr (some 58)))), some (.inl (.inl 3)), some (.inr (false, (0, 3, 1, none))), some (.inr (false, ((-1), 2, 1, none)))], [], .inr (5, true, 2), .inl 0, .inl 0)]
theorem ke179 : chkE JB ct179 cu179 kt179 8 82 = true := by decide +kernel
theorem ku179 : aLL cu179 (chkU JB ct179 cu179 kt179 8 82) = true := by decide +kernel
theorem ok179 {β : Nat} : KOK JB (W0 β) 82 kt179 := KOK_of W0_f (CT := ct179) (cuts := cu179) ⟨⟨ok163, trivial⟩, ⟨ok167, trivial⟩, ⟨ok173, trivial⟩, ⟨ok174, trivial⟩, ⟨ok178, trivial⟩, trivial⟩ ke179 (fun cu h => ⟨rfl, aLL_s ku179 cu h⟩) rfl
/-! HookSwings.Search.search(LHookSwings.Hook;LHookSwings.Laws;II)V -/
def kt180 : KT := ([.inl (.inr (.inr (some 61))), .inl (.inr (.inr (some 52))), .inl (.inr (.inr (some 58))), .inl (.inl 2), .inr (false, 0, 2)], none, [(52, 1, 13), (54, 0, 32), (58, 4, 6), (59, 0, 8), (60, 0, 64), (61, 5, 6), (62, 0, 104), (63, 0, 7), (64, 0, 7)], [52, 54, 58, 59, 60, 61, 62, 63, 64], [], [], [], 10)
def ct180 : CTB := [(11, [kt163]), (12, [kt167]), (24, [kt173]), (25, [kt174]), (82, [kt179])]
def cu180 : List CU := [(61, [some (.inl (.inr (.inr (some 61)))), some (.inl (.inr (.inr (some 52)))), some (.inl (.inr (.inr (some 58)))), some (.inl (.inl 2)), some (.inr (false, (0, 2, 1, none))), some (.inr (false, ((-1), 2, 1, none)))], [], .inr (5, true, 2), .inl 0, .inl 0)]
theorem ke180 : chkE JB ct180 cu180 kt180 9 82 = true := by decide +kernel
theorem ku180 : aLL cu180 (chkU JB ct180 cu180 kt180 9 82) = true := by decide +kernel
theorem ok180 {β : Nat} : KOK JB (W0 β) 82 kt180 := KOK_of W0_f (CT := ct180) (cuts := cu180) ⟨⟨ok163, trivial⟩, ⟨ok167, trivial⟩, ⟨ok173, trivial⟩, ⟨ok174, trivial⟩, ⟨ok179, trivial⟩, trivial⟩ ke180 (fun cu h => ⟨rfl, aLL_s ku180 cu h⟩) rfl
/-! HookSwings.Search.search(LHookSwings.Hook;LHookSwings.Laws;II)V -/
def kt181 : KT := ([.inl (.inr (.inr (some 61))), .inl (.inr (.inr (some 52))), .inl (.inr (.inr (some 58))), .inl (.inl 1), .inr (false, 0, 1)], none, [(52, 1, 13), (54, 0, 32), (58, 4, 6), (59, 0, 8), (60, 0, 64), (61, 5, 6), (62, 0, 104), (63, 0, 7), (64, 0, 7)], [52, 54, 58, 59, 60, 61, 62, 63, 64], [], [], [], 11)
def ct181 : CTB := [(11, [kt163]), (12, [kt167]), (24, [kt173]), (25, [kt174]), (82, [kt180])]
def cu181 : List CU := [(61, [some (.inl (.inr (.inr (some 61)))), some (.inl (.inr (.inr (some 52)))), some (.inl (.inr (.inr (some 58)))), some (.inl (.inl 1)), some (.inr (false, (0, 1, 1, none))), some (.inr (false, ((-1), 2, 1, none)))], [], .inr (5, true, 2), .inl 0, .inl 0)]
theorem ke181 : chkE JB ct181 cu181 kt181 10 82 = true := by decide +kernel
theorem ku181 : aLL cu181 (chkU JB ct181 cu181 kt181 10 82) = true := by decide +kernel
theorem ok181 {β : Nat} : KOK JB (W0 β) 82 kt181 := KOK_of W0_f (CT := ct181) (cuts := cu181) ⟨⟨ok163, trivial⟩, ⟨ok167, trivial⟩, ⟨ok173, trivial⟩, ⟨ok174, trivial⟩, ⟨ok180, trivial⟩, trivial⟩ ke181 (fun cu h => ⟨rfl, aLL_s ku181 cu h⟩) rfl
/-! HookSwings.Search.search(LHookSwings.Hook;LHookSwings.Laws;II)V -/
def kt182 : KT := ([.inl (.inr (.inr (some 61))), .inl (.inr (.inr (some 52))), .inl (.inr (.inr (some 58))), .inl (.inl 0), .inr (false, 0, 0)], none, [(52, 1, 13), (54, 0, 32), (58, 4, 6), (59, 0, 8), (60, 0, 64), (61, 5, 6), (62, 0, 104), (63, 0, 7), (64, 0, 7)], [52, 54, 58, 59, 60, 61, 62, 63, 64], [], [], [], 12)
def ct182 : CTB := [(11, [kt163]), (12, [kt167]), (24, [kt173]), (25, [kt174]), (82, [kt181])]
def cu182 : List CU := [(61, [some (.inl (.inr (.inr (some 61)))), some (.inl (.inr (.inr (some 52)))), some (.inl (.inr (.inr (some 58)))), some (.inl (.inl 0)), some (.inr (false, (0, 0, 1, none))), some (.inr (false, ((-1), 2, 1, none)))], [], .inr (5, true, 2), .inl 0, .inl 0)]
theorem ke182 : chkE JB ct182 cu182 kt182 11 82 = true := by decide +kernel
theorem ku182 : aLL cu182 (chkU JB ct182 cu182 kt182 11 82) = true := by decide +kernel
theorem ok182 {β : Nat} : KOK JB (W0 β) 82 kt182 := KOK_of W0_f (CT := ct182) (cuts := cu182) ⟨⟨ok163, trivial⟩, ⟨ok167, trivial⟩, ⟨ok173, trivial⟩, ⟨ok174, trivial⟩, ⟨ok181, trivial⟩, trivial⟩ ke182 (fun cu h => ⟨rfl, aLL_s ku182 cu h⟩) rfl
/-! HookSwings.Search.begin(LHookSwings.Hook;LHookSwings.Laws;IZ)V -/
def kt183 : KT := ([.inl (.inr (.inr (some 61))), .inl (.inr (.inr (some 52))), .inl (.inr (.inr (some 58))), .inr (false, 0, 99), .inr (false, 0, 1)], none, [(52, 1, 13), (54, 0, 32), (58, 4, 6), (59, 0, 8), (60, 0, 64), (61, 3, 6), (62, 0, 104), (63, 0, 7), (64, 0, 7)], [52, 54, 58, 59, 60, 61, 62, 63, 64], [], [], [], 13)
def ct183 : CTB := [(82, [kt182])]
def cu183 : List CU := []
theorem ke183 : chkE JB ct183 cu183 kt183 12 79 = true := by decide +kernel
theorem ok183 {β : Nat} : KOK JB (W0 β) 79 kt183 := KOK_of W0_f (CT := ct183) (cuts := cu183) ⟨⟨ok182, trivial⟩, trivial⟩ ke183 (fun cu h => by cases h) rfl
/-! HookSwings.soonest(I)I -/
def kt184 : KT := ([.inl (.inr (.inr (some 0))), .inr (false, (-2147483648), 2147483647)], some (.inr (false, (-2), 7)), [(52, 1, 14), (54, 0, 32), (58, 0, 1), (58, 4, 6), (59, 0, 8), (60, 0, 64), (61, 3, 6), (62, 0, 104), (63, 0, 7), (64, 0, 7)], [52, 54, 58, 59, 60, 61, 62, 63, 64], [], [], [], 14)
def ct184 : CTB := [(21, [kt170]), (79, [kt183]), (175, [kt139])]
def cu184 : List CU := []
theorem ke184 : chkE JB ct184 cu184 kt184 13 143 = true := by decide +kernel
theorem ok184 {β : Nat} : KOK JB (W0 β) 143 kt184 := KOK_of W0_f (CT := ct184) (cuts := cu184) ⟨⟨ok170, trivial⟩, ⟨ok183, trivial⟩, ⟨ok139, trivial⟩, trivial⟩ ke184 (fun cu h => by cases h) rfl
/-! HookSwings.fewest(I)I -/
def kt185 : KT := ([.inl (.inr (.inr (some 0))), .inr (false, (-2147483648), 2147483647)], some (.inr (false, (-2), 8)), [(52, 1, 14), (54, 0, 32), (58, 0, 1), (58, 4, 6), (59, 0, 8), (60, 0, 64), (61, 3, 6), (62, 0, 104), (63, 0, 7), (64, 0, 7)], [52, 54, 58, 59, 60, 61, 62, 63, 64], [], [], [], 14)
def ct185 : CTB := [(21, [kt170]), (79, [kt183]), (175, [kt139])]
def cu185 : List CU := []
theorem ke185 : chkE JB ct185 cu185 kt185 13 144 = true := by decide +kernel
theorem ok185 {β : Nat} : KOK JB (W0 β) 144 kt185 := KOK_of W0_f (CT := ct185) (cuts := cu185) ⟨⟨ok170, trivial⟩, ⟨ok183, trivial⟩, ⟨ok139, trivial⟩, trivial⟩ ke185 (fun cu h => by cases h) rfl
/-! HookSwings.toAndFro(I)I -/
def kt186 : KT := ([.inl (.inr (.inr (some 0))), .inr (false, (-2147483648), 2147483647)], some (.inr (false, (-600), 200)), [(52, 1, 14), (54, 0, 32), (58, 0, 1), (58, 4, 6), (59, 0, 8), (60, 0, 64)], [52, 54, 58, 59, 60], [], [], [], 6)
def ct186 : CTB := [(12, [kt167]), (21, [kt170]), (175, [kt139])]
def cu186 : List CU := [(37, [some (.inl (.inr (.inr (some 0)))), some (.inr (false, (2, 200, 1, none))), some (.inl (.inr (.inr (some 58)))), some (.inr (false, ((-1), 200, 1, none))), some (.inr (false, (1, 201, 1, none))), none], [], .inr (4, true, 201), .inl 0, .inl 0)]
theorem ke186 : chkE JB ct186 cu186 kt186 5 145 = true := by decide +kernel
theorem ku186 : aLL cu186 (chkU JB ct186 cu186 kt186 5 145) = true := by decide +kernel
theorem ok186 {β : Nat} : KOK JB (W0 β) 145 kt186 := KOK_of W0_f (CT := ct186) (cuts := cu186) ⟨⟨ok167, trivial⟩, ⟨ok170, trivial⟩, ⟨ok139, trivial⟩, trivial⟩ ke186 (fun cu h => ⟨rfl, aLL_s ku186 cu h⟩) rfl
/-! HookSwings.inLowestTerms(JJZ)J -/
def kt187 : KT := ([.inr (true, (-9223372036854775808), 9223372036854775807), .inr (true, (-9223372036854775808), 9223372036854775807), .inr (false, 0, 1)], some (.inr (true, (-9223372036854775808), 9223372036854775807)), [], [], [], [], [], 1)
def ct187 : CTB := []
def cu187 : List CU := [(39, [some (.inr (true, ((-9223372036854775808), 9223372036854775807, 1, none))), none, some (.inr (true, ((-9223372036854775808), 9223372036854775807, 1, none))), none, some (.inr (false, (0, 1, 1, none))), some (.inr (true, ((-9223372036854775808), 9223372036854775807, 1, none))), none, some (.inr (true, ((-9223372036854775808), 9223372036854775807, 1, none))), none, some (.inr (false, (0, 200, 1, none))), some (.inr (true, ((-9223372036854775808), 9223372036854775807, 1, none))), none], [], .inr (9, true, 199), .inl 0, .inl 0)]
theorem ke187 : chkE JB ct187 cu187 kt187 0 179 = true := by decide +kernel
theorem ku187 : aLL cu187 (chkU JB ct187 cu187 kt187 0 179) = true := by decide +kernel
theorem ok187 {β : Nat} : KOK JB (W0 β) 179 kt187 := KOK_of W0_f (CT := ct187) (cuts := cu187) trivial ke187 (fun cu h => ⟨rfl, aLL_s ku187 cu h⟩) rfl
/-! HookSwings.calm(IIZ)J -/
def kt188 : KT := ([.inl (.inr (.inr (some 0))), .inr (false, (-2147483648), 2147483647), .inr (false, (-2147483648), 2147483647), .inr (false, 0, 1)], some (.inr (true, (-9223372036854775808), 9223372036854775807)), [], [], [], [], [], 2)
def ct188 : CTB := [(179, [kt187])]
def cu188 : List CU := [(33, [some (.inl (.inr (.inr (some 0)))), some (.inr (false, (1, 9, 1, none))), some (.inr (false, (0, 9, 1, none))), some (.inr (false, (0, 1, 1, none))), some (.inr (true, ((-9223372036854775808), 9223372036854775807, 1, none))), none, some (.inr (true, ((-9223372036854775808), 9223372036854775807, 1, none))), none, some (.inr (false, (0, 9, 1, none)))], [], .inr (8, true, 9), .inl 0, .inl 0)]
theorem ke188 : chkE JB ct188 cu188 kt188 1 146 = true := by decide +kernel
theorem ku188 : aLL cu188 (chkU JB ct188 cu188 kt188 1 146) = true := by decide +kernel
theorem ok188 {β : Nat} : KOK JB (W0 β) 146 kt188 := KOK_of W0_f (CT := ct188) (cuts := cu188) ⟨⟨ok187, trivial⟩, trivial⟩ ke188 (fun cu h => ⟨rfl, aLL_s ku188 cu h⟩) rfl
/-! HookSwings.ruledWithHand(I)LHookSwings.Laws; -/
def kt189 : KT := ([.inl (.inr (.inr (some 0))), .inr (false, 0, 3)], some (.inl (.inr (.inr (some 58)))), [(58, 0, 1)], [58], [], [], [], 4)
def ct189 : CTB := [(175, [kt139])]
def cu189 : List CU := []
theorem ke189 : chkE JB ct189 cu189 kt189 3 176 = true := by decide +kernel
theorem ok189 {β : Nat} : KOK JB (W0 β) 176 kt189 := KOK_of W0_f (CT := ct189) (cuts := cu189) ⟨⟨ok139, trivial⟩, trivial⟩ ke189 (fun cu h => by cases h) rfl
/-! HookSwings.Hook.farthest(ILHookSwings.Laws;)I -/
def kt190 : KT := ([.inl (.inr (.inr (some 52))), .inr (false, (-2147483648), 2147483647), .inl (.inr (.inr (some 58)))], some (.inr (false, 0, 20000)), [(52, 1, 4), (52, 7, 7), (52, 9, 10), (54, 0, 32), (58, 4, 6), (59, 0, 8), (60, 0, 64)], [52, 54, 58, 59, 60], [], [], [], 6)
def ct190 : CTB := [(12, [kt167]), (35, [kt171])]
def cu190 : List CU := [(5, [some (.inl (.inr (.inr (some 52)))), some (.inr (false, ((-2147483648), 2147483647, 1, none))), some (.inl (.inr (.inr (some 58)))), some (.inr (false, (0, 20000, 1, none))), some (.inr (false, (0, 2147483647, 1, none)))], [], .inr (4, true, 2147483647), .inl 0, .inl 0)]
theorem ke190 : chkE JB ct190 cu190 kt190 5 19 = true := by decide +kernel
theorem ku190 : aLL cu190 (chkU JB ct190 cu190 kt190 5 19) = true := by decide +kernel
theorem ok190 {β : Nat} : KOK JB (W0 β) 19 kt190 := KOK_of W0_f (CT := ct190) (cuts := cu190) ⟨⟨ok167, trivial⟩, ⟨ok171, trivial⟩, trivial⟩ ke190 (fun cu h => ⟨rfl, aLL_s ku190 cu h⟩) rfl
/-! HookSwings.dies(II)I -/
def kt191 : KT := ([.inl (.inr (.inr (some 0))), .inr (false, (-2147483648), 2147483647), .inr (false, (-2147483648), 2147483647)], some (.inr (false, (-2), 1)), [(52, 1, 14), (54, 0, 32), (58, 0, 1), (58, 4, 6), (59, 0, 8), (60, 0, 64)], [52, 54, 58, 59, 60], [], [], [], 7)
def ct191 : CTB := [(19, [kt190]), (21, [kt170]), (176, [kt189])]
def cu191 : List CU := []
theorem ke191 : chkE JB ct191 cu191 kt191 6 147 = true := by decide +kernel
theorem ok191 {β : Nat} : KOK JB (W0 β) 147 kt191 := KOK_of W0_f (CT := ct191) (cuts := cu191) ⟨⟨ok190, trivial⟩, ⟨ok170, trivial⟩, ⟨ok189, trivial⟩, trivial⟩ ke191 (fun cu h => by cases h) rfl
/-! HookSwings.calmest(I)I -/
def kt192 : KT := ([.inl (.inr (.inr (some 0))), .inr (false, (-2147483648), 2147483647)], some (.inr (false, (-1), 3)), [(52, 1, 14), (54, 0, 32), (58, 0, 1), (58, 4, 6), (59, 0, 8), (60, 0, 64)], [52, 54, 58, 59, 60], [], [], [], 7)
def ct192 : CTB := [(19, [kt190]), (21, [kt170]), (176, [kt189])]
def cu192 : List CU := [(16, [some (.inl (.inr (.inr (some 0)))), some (.inr (false, (2, 200, 1, none))), some (.inr (false, ((-1), 3, 1, none))), some (.inr (false, (0, 20000, 1, none))), some (.inr (false, (0, 4, 1, none))), none], [], .inr (4, true, 4), .inl 0, .inl 0)]
theorem ke192 : chkE JB ct192 cu192 kt192 6 148 = true := by decide +kernel
theorem ku192 : aLL cu192 (chkU JB ct192 cu192 kt192 6 148) = true := by decide +kernel
theorem ok192 {β : Nat} : KOK JB (W0 β) 148 kt192 := KOK_of W0_f (CT := ct192) (cuts := cu192) ⟨⟨ok190, trivial⟩, ⟨ok170, trivial⟩, ⟨ok189, trivial⟩, trivial⟩ ke192 (fun cu h => ⟨rfl, aLL_s ku192 cu h⟩) rfl
/-! HookSwings.Laws.lookBack(LHookSwings.Hook;I)V -/
def kt193 : KT := ([.inl (.inr (.inr (some 58))), .inl (.inr (.inr (some 2))), .inr (false, (-2147483648), 2147483647)], none, [(58, 4, 6), (59, 0, 8)], [58, 59], [], [], [], 2)
def ct193 : CTB := [(29, [kt127])]
def cu193 : List CU := [(2, [some (.inl (.inr (.inr (some 58)))), some (.inl (.inr (.inr (some 2)))), some (.inr (false, ((-2147483648), 2147483647, 1, none))), some (.inr (false, (0, 7, 1, none)))], [], .inr (3, true, 5), .inl 0, .inl 0)]
theorem ke193 : chkE JB ct193 cu193 kt193 1 40 = true := by decide +kernel
theorem ku193 : aLL cu193 (chkU JB ct193 cu193 kt193 1 40) = true := by decide +kernel
theorem ok193 {β : Nat} : KOK JB (W0 β) 40 kt193 := KOK_of W0_f (CT := ct193) (cuts := cu193) ⟨⟨ok127, trivial⟩, trivial⟩ ke193 (fun cu h => ⟨rfl, aLL_s ku193 cu h⟩) rfl
/-! HookSwings.Laws.commandThen(LHookSwings.Hook;I)I -/
def kt194 : KT := ([.inl (.inr (.inr (some 58))), .inl (.inr (.inr (some 2))), .inr (false, (-2147483648), 2147483647)], some (.inr (false, (-1), 1)), [(58, 4, 6), (59, 0, 8), (60, 0, 64)], [58, 59, 60], [], [], [], 4)
def ct194 : CTB := [(40, [kt193]), (42, [kt131, kt132, kt133, kt134, kt135])]
def cu194 : List CU := []
theorem ke194 : chkE JB ct194 cu194 kt194 3 36 = true := by decide +kernel
theorem ok194 {β : Nat} : KOK JB (W0 β) 36 kt194 := KOK_of W0_f (CT := ct194) (cuts := cu194) ⟨⟨ok193, trivial⟩, ⟨ok131, ok132, ok133, ok134, ok135, trivial⟩, trivial⟩ ke194 (fun cu h => by cases h) rfl
/-! HookSwings.gaveAll(LHookSwings.Laws;)Z -/
def kt195 : KT := ([.inl (.inr (.inr (some 0))), .inl (.inr (.inr (some 58)))], some (.inr (false, 0, 1)), [(58, 4, 6), (59, 0, 8), (60, 0, 64)], [58, 59, 60], [], [], [], 5)
def ct195 : CTB := [(29, [kt127]), (36, [kt194])]
def cu195 : List CU := [(10, [some (.inl (.inr (.inr (some 0)))), some (.inl (.inr (.inr (some 58)))), some (.inl (.inr (.inr (some 2)))), some (.inr (false, (1, 61, 1, none))), none], [], .inr (3, true, 61), .inl 0, .inl 0)]
theorem ke195 : chkE JB ct195 cu195 kt195 4 151 = true := by decide +kernel
theorem ku195 : aLL cu195 (chkU JB ct195 cu195 kt195 4 151) = true := by decide +kernel
theorem ok195 {β : Nat} : KOK JB (W0 β) 151 kt195 := KOK_of W0_f (CT := ct195) (cuts := cu195) ⟨⟨ok127, trivial⟩, ⟨ok194, trivial⟩, trivial⟩ ke195 (fun cu h => ⟨rfl, aLL_s ku195 cu h⟩) rfl
/-! HookSwings.whoseHand()I -/
def kt196 : KT := ([.inl (.inr (.inr (some 0)))], some (.inr (false, 0, 255)), [(58, 0, 1), (58, 4, 6), (59, 0, 8), (60, 0, 64)], [58, 59, 60], [], [], [], 6)
def ct196 : CTB := [(151, [kt195]), (176, [kt189])]
def cu196 : List CU := [(4, [some (.inl (.inr (.inr (some 0)))), some (.inr (false, (0, 255, 1, none))), some (.inr (false, (0, 4, 1, none)))], [], .inr (2, true, 4), .inl 0, .inl 0)]
theorem ke196 : chkE JB ct196 cu196 kt196 5 150 = true := by decide +kernel
theorem ku196 : aLL cu196 (chkU JB ct196 cu196 kt196 5 150) = true := by decide +kernel
theorem ok196 {β : Nat} : KOK JB (W0 β) 150 kt196 := KOK_of W0_f (CT := ct196) (cuts := cu196) ⟨⟨ok195, trivial⟩, ⟨ok189, trivial⟩, trivial⟩ ke196 (fun cu h => ⟨rfl, aLL_s ku196 cu h⟩) rfl
/-! HookSwings.dayEnds(II)I -/
def kt197 : KT := ([.inl (.inr (.inr (some 0))), .inr (false, (-2147483648), 2147483647), .inr (false, (-2147483648), 2147483647)], some (.inr (false, (-1), 9)), [(52, 1, 14), (54, 0, 32), (58, 0, 1), (58, 4, 6), (59, 0, 8), (60, 0, 64)], [52, 54, 58, 59, 60], [], [], [], 6)
def ct197 : CTB := [(12, [kt167]), (21, [kt170]), (175, [kt139])]
def cu197 : List CU := [(32, [some (.inl (.inr (.inr (some 0)))), some (.inr (false, (1, 200, 1, none))), some (.inr (false, (0, 9999, 1, none))), some (.inl (.inr (.inr (some 58)))), some (.inr (false, (1, 10, 1, none))), none], [], .inr (4, true, 10), .inl 1, .inl 0),
  (73, [some (.inl (.inr (.inr (some 0)))), some (.inr (false, (1, 200, 1, none))), some (.inr (false, (0, 9999, 1, none))), some (.inl (.inr (.inr (some 58)))), some (.inr (false, (1, 9, 1, none))), some (.inr (false, (0, 200, 1, none)))], [], .inr (4, true, 10), .inl 0, .inr (5, true, 200))]
theorem ke197 : chkE JB ct197 cu197 kt197 5 152 = true := by decide +kernel
theorem ku197 : aLL cu197 (chkU JB ct197 cu197 kt197 5 152) = true := by decide +kernel
theorem ok197 {β : Nat} : KOK JB (W0 β) 152 kt197 := KOK_of W0_f (CT := ct197) (cuts := cu197) ⟨⟨ok167, trivial⟩, ⟨ok170, trivial⟩, ⟨ok139, trivial⟩, trivial⟩ ke197 (fun cu h => ⟨rfl, aLL_s ku197 cu h⟩) rfl
/-! HookSwings.Hook.stillIn(IILHookSwings.Laws;)I -/
def kt198 : KT := ([.inl (.inr (.inr (some 52))), .inr (false, (-1), 200), .inr (false, 0, 99), .inl (.inr (.inr (some 58)))], some (.inr (false, (-1), 200)), [(52, 1, 4), (52, 7, 7), (52, 9, 10), (54, 0, 32), (58, 4, 6), (59, 0, 8), (60, 0, 64)], [52, 54, 58, 59, 60], [], [], [], 6)
def ct198 : CTB := [(11, [kt163]), (12, [kt167]), (35, [kt171])]
def cu198 : List CU := [(3, [some (.inl (.inr (.inr (some 52)))), some (.inr (false, ((-1), 200, 1, none))), some (.inr (false, (0, 99, 1, none))), some (.inl (.inr (.inr (some 58)))), some (.inr (false, (1, 201, 1, none)))], [], .inr (4, true, 201), .inl 0, .inl 0)]
theorem ke198 : chkE JB ct198 cu198 kt198 5 18 = true := by decide +kernel
theorem ku198 : aLL cu198 (chkU JB ct198 cu198 kt198 5 18) = true := by decide +kernel
theorem ok198 {β : Nat} : KOK JB (W0 β) 18 kt198 := KOK_of W0_f (CT := ct198) (cuts := cu198) ⟨⟨ok163, trivial⟩, ⟨ok167, trivial⟩, ⟨ok171, trivial⟩, trivial⟩ ke198 (fun cu h => ⟨rfl, aLL_s ku198 cu h⟩) rfl
/-! HookSwings.Hook.rest(III)V -/
def kt199 : KT := ([.inl (.inr (.inr (some 52))), .inr (false, 0, 24), .inr (false, 0, 999), .inr (false, 0, 9990)], none, [(52, 1, 9), (52, 14, 14)], [52], [], [], [], 1)
def ct199 : CTB := []
def cu199 : List CU := []
theorem ke199 : chkE JB ct199 cu199 kt199 0 20 = true := by decide +kernel
theorem ok199 {β : Nat} : KOK JB (W0 β) 20 kt199 := KOK_of W0_f (CT := ct199) (cuts := cu199) trivial ke199 (fun cu h => by cases h) rfl
/-! HookSwings.tenthsOfHand(II)I -/
def kt200 : KT := ([.inl (.inr (.inr (some 0))), .inr (false, 0, 3), .inr (false, 1, 255)], some (.inr (false, (-2147483648), 2147483647)), [(52, 1, 10), (52, 14, 14), (54, 0, 32), (58, 0, 1), (58, 4, 6), (59, 0, 8), (60, 0, 64)], [52, 54, 58, 59, 60], [], [], [], 7)
def ct200 : CTB := [(18, [kt198]), (20, [kt199]), (110, [kt146]), (176, [kt189])]
def cu200 : List CU := [(12, [some (.inl (.inr (.inr (some 0)))), some (.inr (false, (0, 3, 1, none))), some (.inr (false, (1, 255, 1, none))), some (.inl (.inr (.inr (some 58)))), some (.inr (false, ((-2147483648), 2147483647, 1, none))), some (.inr (false, (0, 8, 1, none))), none], [], .inr (5, true, 8), .inl 0, .inl 0)]
theorem ke200 : chkE JB ct200 cu200 kt200 6 154 = true := by decide +kernel
theorem ku200 : aLL cu200 (chkU JB ct200 cu200 kt200 6 154) = true := by decide +kernel
theorem ok200 {β : Nat} : KOK JB (W0 β) 154 kt200 := KOK_of W0_f (CT := ct200) (cuts := cu200) ⟨⟨ok198, trivial⟩, ⟨ok199, trivial⟩, ⟨ok146, trivial⟩, ⟨ok189, trivial⟩, trivial⟩ ke200 (fun cu h => ⟨rfl, aLL_s ku200 cu h⟩) rfl
/-! HookSwings.saves(III)I -/
def kt201 : KT := ([.inl (.inr (.inr (some 0))), .inr (false, (-2147483648), 2147483647), .inr (false, (-2147483648), 2147483647), .inr (false, (-2147483648), 2147483647)], some (.inr (false, (-2147483648), 2147483647)), [(52, 1, 10), (52, 14, 14), (54, 0, 32), (58, 0, 1), (58, 4, 6), (59, 0, 8), (60, 0, 64)], [52, 54, 58, 59, 60], [], [], [], 8)
def ct201 : CTB := [(154, [kt200])]
def cu201 : List CU := []
theorem ke201 : chkE JB ct201 cu201 kt201 7 153 = true := by decide +kernel
theorem ok201 {β : Nat} : KOK JB (W0 β) 153 kt201 := KOK_of W0_f (CT := ct201) (cuts := cu201) ⟨⟨ok200, trivial⟩, trivial⟩ ke201 (fun cu h => by cases h) rfl
/-! HookSwings.Hook.hangsStill(I)Z -/
def kt202 : KT := ([.inl (.inr (.inr (some 55))), .inr (false, 0, 99)], some (.inr (false, 0, 1)), [], [], [], [], [], 3)
def ct202 : CTB := []
def cu202 : List CU := []
theorem ke202 : chkE JB ct202 cu202 kt202 2 11 = true := by decide +kernel
theorem ok202 {β : Nat} : KOK JB (W0 β) 11 kt202 := KOK_of W0_f (CT := ct202) (cuts := cu202) trivial ke202 (fun cu h => by cases h) rfl
/-! HookSwings.Kept.keep(LHookSwings.Hook;I)V -/
def kt203 : KT := ([.inl (.inr (.inr (some 56))), .inl (.inr (.inr (some 55))), .inr (false, (-1), 1)], none, [(57, 0, 32)], [57], [], [], [], 2)
def ct203 : CTB := []
def cu203 : List CU := []
theorem ke203 : chkE JB ct203 cu203 kt203 1 27 = true := by decide +kernel
theorem ok203 {β : Nat} : KOK JB (W0 β) 27 kt203 := KOK_of W0_f (CT := ct203) (cuts := cu203) trivial ke203 (fun cu h => by cases h) rfl
/-! HookSwings.Laws.paces(LHookSwings.Hook;)I -/
def kt204 : KT := ([.inl (.inr (.inr (some 58))), .inl (.inr (.inr (some 55)))], some (.inr (false, 0, 9)), [(58, 4, 6), (59, 0, 8), (60, 0, 64)], [58, 59, 60], [], [], [], 4)
def ct204 : CTB := [(42, [kt131, kt132, kt133, kt134, kt135])]
def cu204 : List CU := []
theorem ke204 : chkE JB ct204 cu204 kt204 3 33 = true := by decide +kernel
theorem ok204 {β : Nat} : KOK JB (W0 β) 33 kt204 := KOK_of W0_f (CT := ct204) (cuts := cu204) ⟨⟨ok131, ok132, ok133, ok134, ok135, trivial⟩, trivial⟩ ke204 (fun cu h => by cases h) rfl
/-! HookSwings.Laws.swings(LHookSwings.Hook;)I -/
def kt205 : KT := ([.inl (.inr (.inr (some 58))), .inl (.inr (.inr (some 55)))], some (.inr (false, (-99), 99)), [(58, 4, 6), (59, 0, 8), (60, 0, 64)], [58, 59, 60], [], [], [], 4)
def ct205 : CTB := [(42, [kt131, kt132, kt133, kt134, kt135])]
def cu205 : List CU := []
theorem ke205 : chkE JB ct205 cu205 kt205 3 34 = true := by decide +kernel
theorem ok205 {β : Nat} : KOK JB (W0 β) 34 kt205 := KOK_of W0_f (CT := ct205) (cuts := cu205) ⟨⟨ok131, ok132, ok133, ok134, ok135, trivial⟩, trivial⟩ ke205 (fun cu h => by cases h) rfl
/-! HookSwings.Hook.tenthBy(ILHookSwings.Laws;)V -/
def kt206 : KT := ([.inl (.inr (.inr (some 55))), .inr (false, (-1), 1), .inl (.inr (.inr (some 58)))], none, [(55, 1, 4), (55, 7, 7), (55, 9, 10), (57, 0, 32), (58, 4, 6), (59, 0, 8), (60, 0, 64)], [55, 57, 58, 59, 60], [], [], [], 5)
def ct206 : CTB := [(27, [kt203]), (33, [kt204]), (34, [kt205])]
def cu206 : List CU := []
theorem ke206 : chkE JB ct206 cu206 kt206 4 12 = true := by decide +kernel
theorem ok206 {β : Nat} : KOK JB (W0 β) 12 kt206 := KOK_of W0_f (CT := ct206) (cuts := cu206) ⟨⟨ok203, trivial⟩, ⟨ok204, trivial⟩, ⟨ok205, trivial⟩, trivial⟩ ke206 (fun cu h => by cases h) rfl
/-! HookSwings.Laws.command(LHookSwings.Hook;)I -/
def kt207 : KT := ([.inl (.inr (.inr (some 58))), .inl (.inr (.inr (some 55)))], some (.inr (false, (-1), 1)), [(58, 4, 6), (59, 0, 8), (60, 0, 64)], [58, 59, 60], [], [], [], 4)
def ct207 : CTB := [(42, [kt131, kt132, kt133, kt134, kt135])]
def cu207 : List CU := []
theorem ke207 : chkE JB ct207 cu207 kt207 3 35 = true := by decide +kernel
theorem ok207 {β : Nat} : KOK JB (W0 β) 35 kt207 := KOK_of W0_f (CT := ct207) (cuts := cu207) ⟨⟨ok131, ok132, ok133, ok134, ok135, trivial⟩, trivial⟩ ke207 (fun cu h => by cases h) rfl
/-! HookSwings.Hook.stillIn(IILHookSwings.Laws;)I -/
def kt208 : KT := ([.inl (.inr (.inr (some 55))), .inr (false, (-99), 200), .inr (false, 0, 99), .inl (.inr (.inr (some 58)))], some (.inr (false, (-1), 200)), [(55, 1, 4), (55, 7, 7), (55, 9, 10), (57, 0, 32), (58, 4, 6), (59, 0, 8), (60, 0, 64)], [55, 57, 58, 59, 60], [], [], [], 6)
def ct208 : CTB := [(11, [kt202]), (12, [kt206]), (35, [kt207])]
def cu208 : List CU := [(3, [some (.inl (.inr (.inr (some 55)))), some (.inr (false, ((-99), 200, 1, none))), some (.inr (false, (0, 99, 1, none))), some (.inl (.inr (.inr (some 58)))), some (.inr (false, (1, 201, 1, none)))], [], .inr (4, true, 201), .inl 0, .inl 0)]
theorem ke208 : chkE JB ct208 cu208 kt208 5 18 = true := by decide +kernel
theorem ku208 : aLL cu208 (chkU JB ct208 cu208 kt208 5 18) = true := by decide +kernel
theorem ok208 {β : Nat} : KOK JB (W0 β) 18 kt208 := KOK_of W0_f (CT := ct208) (cuts := cu208) ⟨⟨ok202, trivial⟩, ⟨ok206, trivial⟩, ⟨ok207, trivial⟩, trivial⟩ ke208 (fun cu h => ⟨rfl, aLL_s ku208 cu h⟩) rfl
/-! HookSwings.Hook.copyParts(LHookSwings.Hook;)V -/
def kt209 : KT := ([.inl (.inr (.inr (some 55))), .inl (.inr (.inr (some 52)))], none, [(55, 1, 14)], [55], [], [], [], 1)
def ct209 : CTB := []
def cu209 : List CU := []
theorem ke209 : chkE JB ct209 cu209 kt209 0 23 = true := by decide +kernel
theorem ok209 {β : Nat} : KOK JB (W0 β) 23 kt209 := KOK_of W0_f (CT := ct209) (cuts := cu209) trivial ke209 (fun cu h => by cases h) rfl
/-! HookSwings.Kept.copyLatest(LHookSwings.Kept;I)V -/
def kt210 : KT := ([.inl (.inr (.inr (some 56))), .inl (.inr (.inr (some 53))), .inr (false, (-2147483648), 2147483647)], none, [(57, 0, 32)], [57], [], [], [], 1)
def ct210 : CTB := []
def cu210 : List CU := [(9, [some (.inl (.inr (.inr (some 56)))), some (.inl (.inr (.inr (some 53)))), some (.inr (false, ((-2147483648), 2147483647, 1, none))), some (.inr (false, (0, 2147483647, 1, none)))], [], .inr (3, true, 2147483647), .inl 0, .inl 0)]
theorem ke210 : chkE JB ct210 cu210 kt210 0 30 = true := by decide +kernel
theorem ku210 : aLL cu210 (chkU JB ct210 cu210 kt210 0 30) = true := by decide +kernel
theorem ok210 {β : Nat} : KOK JB (W0 β) 30 kt210 := KOK_of W0_f (CT := ct210) (cuts := cu210) trivial ke210 (fun cu h => ⟨rfl, aLL_s ku210 cu h⟩) rfl
/-! HookSwings.Hook.startAs(LHookSwings.Hook;)V -/
def kt211 : KT := ([.inl (.inr (.inr (some 55))), .inl (.inr (.inr (some 52)))], none, [(55, 1, 14), (57, 0, 32)], [55, 57], [], [], [], 2)
def ct211 : CTB := [(23, [kt209]), (30, [kt210])]
def cu211 : List CU := []
theorem ke211 : chkE JB ct211 cu211 kt211 1 21 = true := by decide +kernel
theorem ok211 {β : Nat} : KOK JB (W0 β) 21 kt211 := KOK_of W0_f (CT := ct211) (cuts := cu211) ⟨⟨ok209, trivial⟩, ⟨ok210, trivial⟩, trivial⟩ ke211 (fun cu h => by cases h) rfl
/-! HookSwings.whenToGo()I -/
def kt212 : KT := ([.inl (.inr (.inr (some 0)))], some (.inr (false, (-1), 60)), [(52, 1, 14), (54, 0, 32), (55, 1, 14), (57, 0, 32), (58, 0, 1), (58, 4, 6), (59, 0, 8), (60, 0, 64)], [52, 54, 55, 57, 58, 59, 60], [], [], [], 7)
def ct212 : CTB := [(12, [kt167]), (18, [kt208]), (21, [kt170, kt211]), (175, [kt139])]
def cu212 : List CU := [(28, [some (.inl (.inr (.inr (some 0)))), some (.inl (.inr (.inr (some 58)))), some (.inr (false, ((-1), 60, 1, none))), some (.inr (false, (0, 299, 1, some (2, 201)))), some (.inr (false, (0, 61, 1, none))), none], [], .inr (4, true, 61), .inl 0, .inl 0)]
theorem ke212 : chkE JB ct212 cu212 kt212 6 155 = true := by decide +kernel
theorem ku212 : aLL cu212 (chkU JB ct212 cu212 kt212 6 155) = true := by decide +kernel
theorem ok212 {β : Nat} : KOK JB (W0 β) 155 kt212 := KOK_of W0_f (CT := ct212) (cuts := cu212) ⟨⟨ok167, trivial⟩, ⟨ok208, trivial⟩, ⟨ok170, ok211, trivial⟩, ⟨ok139, trivial⟩, trivial⟩ ke212 (fun cu h => ⟨rfl, aLL_s ku212 cu h⟩) rfl
/-! HookSwings.whichRope()I -/
def kt213 : KT := ([.inl (.inr (.inr (some 0)))], some (.inr (false, (-1), 24)), [(52, 1, 14), (54, 0, 32), (58, 0, 1), (58, 4, 6), (59, 0, 8), (60, 0, 64)], [52, 54, 58, 59, 60], [], [], [], 7)
def ct213 : CTB := [(18, [kt198]), (21, [kt170]), (175, [kt139])]
def cu213 : List CU := [(14, [some (.inl (.inr (.inr (some 0)))), some (.inl (.inr (.inr (some 58)))), some (.inr (false, ((-1), 24, 1, none))), some (.inr (false, (0, 201, 1, none))), some (.inr (false, (1, 25, 1, none))), none], [], .inr (4, true, 25), .inl 0, .inl 0)]
theorem ke213 : chkE JB ct213 cu213 kt213 6 156 = true := by decide +kernel
theorem ku213 : aLL cu213 (chkU JB ct213 cu213 kt213 6 156) = true := by decide +kernel
theorem ok213 {β : Nat} : KOK JB (W0 β) 156 kt213 := KOK_of W0_f (CT := ct213) (cuts := cu213) ⟨⟨ok198, trivial⟩, ⟨ok170, trivial⟩, ⟨ok139, trivial⟩, trivial⟩ ke213 (fun cu h => ⟨rfl, aLL_s ku213 cu h⟩) rfl
/-! HookSwings.bar(IIII)I -/
def kt214 : KT := ([.inl (.inr (.inr (some 0))), .inr (false, (-2147483648), 2147483647), .inr (false, (-2147483648), 2147483647), .inr (false, (-2147483648), 2147483647), .inr (false, (-2147483648), 2147483647)], some (.inr (false, (-2), 4)), [(1, 12, 12), (8, 0, 16)], [1, 8], [], [], [], 2)
def ct214 : CTB := []
def cu214 : List CU := []
theorem ke214 : chkE JB ct214 cu214 kt214 1 157 = true := by decide +kernel
theorem ok214 {β : Nat} : KOK JB (W0 β) 157 kt214 := KOK_of W0_f (CT := ct214) (cuts := cu214) trivial ke214 (fun cu h => by cases h) rfl
/-! HookSwings.World.bans(II)Z -/
def kt215 : KT := ([.inl (.inr (.inr (some 1))), .inr (false, 0, 600), .inr (false, (-2147483648), 2147483647)], some (.inr (false, 0, 1)), [], [], [], [], [], 2)
def ct215 : CTB := []
def cu215 : List CU := [(2, [some (.inl (.inr (.inr (some 1)))), some (.inr (false, (0, 600, 1, none))), some (.inr (false, ((-2147483648), 2147483647, 1, none))), some (.inr (false, (0, 4, 1, none))), none], [], .inr (3, true, 4), .inl 0, .inl 0)]
theorem ke215 : chkE JB ct215 cu215 kt215 1 114 = true := by decide +kernel
theorem ku215 : aLL cu215 (chkU JB ct215 cu215 kt215 1 114) = true := by decide +kernel
theorem ok215 {β : Nat} : KOK JB (W0 β) 114 kt215 := KOK_of W0_f (CT := ct215) (cuts := cu215) trivial ke215 (fun cu h => ⟨rfl, aLL_s ku215 cu h⟩) rfl
/-! HookSwings.barred(IZ)I -/
def kt216 : KT := ([.inl (.inr (.inr (some 0))), .inr (false, (-2147483648), 2147483647), .inr (false, 0, 1)], some (.inr (false, (-1), 200)), [(52, 1, 14), (54, 0, 32), (58, 0, 1), (58, 4, 6), (59, 0, 8), (60, 0, 64)], [52, 54, 58, 59, 60], [], [], [], 7)
def ct216 : CTB := [(12, [kt167]), (21, [kt170]), (35, [kt171]), (114, [kt215]), (175, [kt139])]
def cu216 : List CU := [(35, [some (.inl (.inr (.inr (some 0)))), some (.inr (false, (1, 200, 1, none))), some (.inr (false, (0, 1, 1, none))), some (.inl (.inr (.inr (some 58)))), some (.inr (false, (1, 201, 1, none)))], [], .inr (4, true, 201), .inl 0, .inl 0)]
theorem ke216 : chkE JB ct216 cu216 kt216 6 158 = true := by decide +kernel
theorem ku216 : aLL cu216 (chkU JB ct216 cu216 kt216 6 158) = true := by decide +kernel
theorem ok216 {β : Nat} : KOK JB (W0 β) 158 kt216 := KOK_of W0_f (CT := ct216) (cuts := cu216) ⟨⟨ok167, trivial⟩, ⟨ok170, trivial⟩, ⟨ok171, trivial⟩, ⟨ok215, trivial⟩, ⟨ok139, trivial⟩, trivial⟩ ke216 (fun cu h => ⟨rfl, aLL_s ku216 cu h⟩) rfl
/-! HookSwings.howFar(I)I -/
def kt217 : KT := ([.inl (.inr (.inr (some 0))), .inr (false, (-2147483648), 2147483647)], some (.inr (false, (-1), 60)), [(58, 0, 1), (59, 0, 8), (60, 0, 64)], [58, 59, 60], [], [], [], 5)
def ct217 : CTB := [(37, [kt159]), (175, [kt139])]
def cu217 : List CU := [(22, [some (.inl (.inr (.inr (some 0)))), some (.inr (false, (1, 99, 1, none))), some (.inl (.inr (.inr (some 58)))), some (.inr (false, ((-1), 60, 1, none))), some (.inr (false, (0, 61, 1, none)))], [], .inr (4, true, 61), .inl 0, .inl 0)]
theorem ke217 : chkE JB ct217 cu217 kt217 4 159 = true := by decide +kernel
theorem ku217 : aLL cu217 (chkU JB ct217 cu217 kt217 4 159) = true := by decide +kernel
theorem ok217 {β : Nat} : KOK JB (W0 β) 159 kt217 := KOK_of W0_f (CT := ct217) (cuts := cu217) ⟨⟨ok159, trivial⟩, ⟨ok139, trivial⟩, trivial⟩ ke217 (fun cu h => ⟨rfl, aLL_s ku217 cu h⟩) rfl
/-! HookSwings.over()I -/
def kt218 : KT := ([.inl (.inr (.inr (some 0)))], some (.inr (false, 0, 255)), [(58, 0, 1), (59, 0, 8), (60, 0, 64)], [58, 59, 60], [], [], [], 5)
def ct218 : CTB := [(37, [kt159]), (110, [kt146]), (175, [kt139])]
def cu218 : List CU := [(9, [some (.inl (.inr (.inr (some 0)))), some (.inl (.inr (.inr (some 58)))), some (.inr (false, (0, 255, 1, none))), some (.inr (false, (0, 8, 1, none)))], [], .inr (3, true, 8), .inl 0, .inl 0)]
theorem ke218 : chkE JB ct218 cu218 kt218 4 160 = true := by decide +kernel
theorem ku218 : aLL cu218 (chkU JB ct218 cu218 kt218 4 160) = true := by decide +kernel
theorem ok218 {β : Nat} : KOK JB (W0 β) 160 kt218 := KOK_of W0_f (CT := ct218) (cuts := cu218) ⟨⟨ok159, trivial⟩, ⟨ok146, trivial⟩, ⟨ok139, trivial⟩, trivial⟩ ke218 (fun cu h => ⟨rfl, aLL_s ku218 cu h⟩) rfl
/-! HookSwings.fillLasting()V -/
def kt219 : KT := ([.inl (.inr (.inr (some 0)))], none, [(58, 0, 1), (59, 0, 8), (60, 0, 64), (66, 0, 8)], [58, 59, 60, 66], [], [], [], 6)
def ct219 : CTB := [(38, [kt160]), (110, [kt146]), (175, [kt139])]
def cu219 : List CU := [(2, [some (.inl (.inr (.inr (some 0)))), some (.inr (false, (0, 8, 1, none)))], [], .inr (1, true, 8), .inl 0, .inl 0)]
theorem ke219 : chkE JB ct219 cu219 kt219 5 163 = true := by decide +kernel
theorem ku219 : aLL cu219 (chkU JB ct219 cu219 kt219 5 163) = true := by decide +kernel
theorem ok219 {β : Nat} : KOK JB (W0 β) 163 kt219 := KOK_of W0_f (CT := ct219) (cuts := cu219) ⟨⟨ok160, trivial⟩, ⟨ok146, trivial⟩, ⟨ok139, trivial⟩, trivial⟩ ke219 (fun cu h => ⟨rfl, aLL_s ku219 cu h⟩) rfl
/-! HookSwings.Plan.cost(LHookSwings.World;II)I -/
def kt220 : KT := ([.inl (.inr (.inr (some 65))), .inl (.inr (.inr (some 1))), .inr (false, 0, 255), .inr (false, 0, 7)], some (.inr (false, (-2147483648), 2147483647)), [], [], [], [], [], 3)
def ct220 : CTB := [(110, [kt146])]
def cu220 : List CU := [(11, [some (.inl (.inr (.inr (some 65)))), some (.inl (.inr (.inr (some 1)))), some (.inr (false, (0, 255, 1, none))), some (.inr (false, (0, 7, 1, none))), some (.inr (false, ((-2147483648), 2147483647, 1, none))), some (.inr (false, (0, 8, 1, none)))], [], .inr (5, true, 8), .inl 0, .inl 0)]
theorem ke220 : chkE JB ct220 cu220 kt220 2 50 = true := by decide +kernel
theorem ku220 : aLL cu220 (chkU JB ct220 cu220 kt220 2 50) = true := by decide +kernel
theorem ok220 {β : Nat} : KOK JB (W0 β) 50 kt220 := KOK_of W0_f (CT := ct220) (cuts := cu220) ⟨⟨ok146, trivial⟩, trivial⟩ ke220 (fun cu h => ⟨rfl, aLL_s ku220 cu h⟩) rfl
/-! HookSwings.Plan.cheapest(LHookSwings.World;II)I -/
def kt221 : KT := ([.inl (.inr (.inr (some 65))), .inl (.inr (.inr (some 1))), .inr (false, 1, 255), .inr (false, 0, 255)], some (.inr (false, (-2147483648), 1000000000)), [], [], [], [], [], 4)
def ct221 : CTB := [(50, [kt220])]
def cu221 : List CU := [(7, [some (.inl (.inr (.inr (some 65)))), some (.inl (.inr (.inr (some 1)))), some (.inr (false, (1, 255, 1, none))), some (.inr (false, (0, 255, 1, none))), some (.inr (false, ((-2147483648), 1000000000, 1, none))), some (.inr (false, (0, 8, 1, none)))], [], .inr (5, true, 8), .inl 0, .inl 0)]
theorem ke221 : chkE JB ct221 cu221 kt221 3 49 = true := by decide +kernel
theorem ku221 : aLL cu221 (chkU JB ct221 cu221 kt221 3 49) = true := by decide +kernel
theorem ok221 {β : Nat} : KOK JB (W0 β) 49 kt221 := KOK_of W0_f (CT := ct221) (cuts := cu221) ⟨⟨ok220, trivial⟩, trivial⟩ ke221 (fun cu h => ⟨rfl, aLL_s ku221 cu h⟩) rfl
/-! HookSwings.Plan.weigh(LHookSwings.World;I)V -/
def kt222 : KT := ([.inl (.inr (.inr (some 65))), .inl (.inr (.inr (some 1))), .inr (false, 1, 255)], none, [(68, 0, 256)], [68], [], [], [], 5)
def ct222 : CTB := [(49, [kt221])]
def cu222 : List CU := [(12, [some (.inl (.inr (.inr (some 65)))), some (.inl (.inr (.inr (some 1)))), some (.inr (false, (1, 255, 1, none))), some (.inr (false, ((-1), 255, 1, none)))], [], .inr (3, false, (-1)), .inl 0, .inl 0)]
theorem ke222 : chkE JB ct222 cu222 kt222 4 48 = true := by decide +kernel
theorem ku222 : aLL cu222 (chkU JB ct222 cu222 kt222 4 48) = true := by decide +kernel
theorem ok222 {β : Nat} : KOK JB (W0 β) 48 kt222 := KOK_of W0_f (CT := ct222) (cuts := cu222) ⟨⟨ok221, trivial⟩, trivial⟩ ke222 (fun cu h => ⟨rfl, aLL_s ku222 cu h⟩) rfl
/-! HookSwings.Plan.lowest(LHookSwings.World;II)I -/
def kt223 : KT := ([.inl (.inr (.inr (some 65))), .inl (.inr (.inr (some 1))), .inr (false, 1, 255), .inr (false, 0, 255)], some (.inr (false, (-1), 7)), [], [], [], [], [], 4)
def ct223 : CTB := [(50, [kt220])]
def cu223 : List CU := [(3, [some (.inl (.inr (.inr (some 65)))), some (.inl (.inr (.inr (some 1)))), some (.inr (false, (1, 255, 1, none))), some (.inr (false, (0, 255, 1, none))), some (.inr (false, (0, 8, 1, none)))], [], .inr (4, true, 8), .inl 0, .inl 0)]
theorem ke223 : chkE JB ct223 cu223 kt223 3 53 = true := by decide +kernel
theorem ku223 : aLL cu223 (chkU JB ct223 cu223 kt223 3 53) = true := by decide +kernel
theorem ok223 {β : Nat} : KOK JB (W0 β) 53 kt223 := KOK_of W0_f (CT := ct223) (cuts := cu223) ⟨⟨ok220, trivial⟩, trivial⟩ ke223 (fun cu h => ⟨rfl, aLL_s ku223 cu h⟩) rfl
/-! HookSwings.Plan.orderAt(LHookSwings.World;II)I -/
def kt224 : KT := ([.inl (.inr (.inr (some 65))), .inl (.inr (.inr (some 1))), .inr (false, 1, 255), .inr (false, 0, 62)], some (.inr (false, (-1), 7)), [], [], [], [], [], 5)
def ct224 : CTB := [(53, [kt223])]
def cu224 : List CU := [(9, [some (.inl (.inr (.inr (some 65)))), some (.inl (.inr (.inr (some 1)))), some (.inr (false, (1, 255, 1, none))), some (.inr (false, (0, 62, 1, none))), some (.inr (false, (0, 255, 1, none))), some (.inr (false, ((-1), 7, 1, none))), some (.inr (false, (0, 63, 1, none)))], [], .inr (6, true, 63), .inl 0, .inl 0)]
theorem ke224 : chkE JB ct224 cu224 kt224 4 52 = true := by decide +kernel
theorem ku224 : aLL cu224 (chkU JB ct224 cu224 kt224 4 52) = true := by decide +kernel
theorem ok224 {β : Nat} : KOK JB (W0 β) 52 kt224 := KOK_of W0_f (CT := ct224) (cuts := cu224) ⟨⟨ok223, trivial⟩, trivial⟩ ke224 (fun cu h => ⟨rfl, aLL_s ku224 cu h⟩) rfl
/-! HookSwings.first(II)I -/
def kt225 : KT := ([.inl (.inr (.inr (some 0))), .inr (false, (-2147483648), 2147483647), .inr (false, (-2147483648), 2147483647)], some (.inr (false, (-2147483648), 1000000000)), [(58, 0, 1), (59, 0, 8), (60, 0, 64), (66, 0, 8), (68, 0, 256)], [58, 59, 60, 66, 68], [], [], [], 7)
def ct225 : CTB := [(48, [kt222]), (52, [kt224]), (163, [kt219])]
def cu225 : List CU := []
theorem ke225 : chkE JB ct225 cu225 kt225 6 161 = true := by decide +kernel
theorem ok225 {β : Nat} : KOK JB (W0 β) 161 kt225 := KOK_of W0_f (CT := ct225) (cuts := cu225) ⟨⟨ok222, trivial⟩, ⟨ok224, trivial⟩, ⟨ok219, trivial⟩, trivial⟩ ke225 (fun cu h => by cases h) rfl
/-! HookSwings.Plan.place(LHookSwings.World;IIII)V -/
def kt226 : KT := ([.inl (.inr (.inr (some 65))), .inl (.inr (.inr (some 1))), .inr (false, 1, 255), .inr (false, 0, 255), .inr (false, 0, 2147483647), .inl (.inl 8)], none, [(65, 2, 2), (67, 0, 8)], [65, 67], [], [], [], 1)
def ct226 : CTB := []
def cu226 : List CU := []
theorem ke226 : chkE JB ct226 cu226 kt226 0 55 = true := by decide +kernel
theorem ok226 {β : Nat} : KOK JB (W0 β) 55 kt226 := KOK_of W0_f (CT := ct226) (cuts := cu226) trivial ke226 (fun cu h => by cases h) rfl
/-! HookSwings.Plan.earliest(LHookSwings.World;II)I -/
def kt227 : KT := ([.inl (.inr (.inr (some 65))), .inl (.inr (.inr (some 1))), .inr (false, 0, 255), .inr (false, 0, 7)], some (.inr (false, 0, 2147483647)), [], [], [], [], [], 4)
def ct227 : CTB := [(110, [kt146])]
def cu227 : List CU := [(6, [some (.inl (.inr (.inr (some 65)))), some (.inl (.inr (.inr (some 1)))), some (.inr (false, (0, 255, 1, none))), some (.inr (false, (0, 7, 1, none))), some (.inr (false, (0, 2147483647, 1, none))), some (.inr (false, (0, 8, 1, none)))], [], .inr (5, true, 8), .inl 0, .inl 0)]
theorem ke227 : chkE JB ct227 cu227 kt227 3 56 = true := by decide +kernel
theorem ku227 : aLL cu227 (chkU JB ct227 cu227 kt227 3 56) = true := by decide +kernel
theorem ok227 {β : Nat} : KOK JB (W0 β) 56 kt227 := KOK_of W0_f (CT := ct227) (cuts := cu227) ⟨⟨ok146, trivial⟩, trivial⟩ ke227 (fun cu h => ⟨rfl, aLL_s ku227 cu h⟩) rfl
/-! HookSwings.Plan.place(LHookSwings.World;IIII)V -/
def kt228 : KT := ([.inl (.inr (.inr (some 65))), .inl (.inr (.inr (some 1))), .inr (false, 1, 255), .inr (false, 0, 255), .inr (false, 0, 2147483647), .inl (.inl 7)], none, [(65, 2, 2), (67, 0, 8), (69, 0, 8)], [65, 67, 69], [], [], [], 5)
def ct228 : CTB := [(55, [kt226]), (56, [kt227]), (110, [kt146])]
def cu228 : List CU := [(50, [some (.inl (.inr (.inr (some 65)))), some (.inl (.inr (.inr (some 1)))), some (.inr (false, (1, 255, 1, none))), some (.inr (false, (0, 255, 1, none))), some (.inr (false, (0, 2147483647, 1, none))), some (.inl (.inl 7)), some (.inr (false, ((-2147483648), 2147483647, 1, none))), some (.inr (false, (0, 8, 1, none))), none], [], .inr (7, true, 8), .inl 0, .inl 0)]
theorem ke228 : chkE JB ct228 cu228 kt228 4 55 = true := by decide +kernel
theorem ku228 : aLL cu228 (chkU JB ct228 cu228 kt228 4 55) = true := by decide +kernel
theorem ok228 {β : Nat} : KOK JB (W0 β) 55 kt228 := KOK_of W0_f (CT := ct228) (cuts := cu228) ⟨⟨ok226, trivial⟩, ⟨ok227, trivial⟩, ⟨ok146, trivial⟩, trivial⟩ ke228 (fun cu h => ⟨rfl, aLL_s ku228 cu h⟩) rfl
/-! HookSwings.Plan.place(LHookSwings.World;IIII)V -/
def kt229 : KT := ([.inl (.inr (.inr (some 65))), .inl (.inr (.inr (some 1))), .inr (false, 1, 255), .inr (false, 0, 255), .inr (false, 0, 2147483647), .inl (.inl 6)], none, [(65, 2, 2), (67, 0, 8), (69, 0, 8)], [65, 67, 69], [], [], [], 6)
def ct229 : CTB := [(55, [kt228]), (56, [kt227]), (110, [kt146])]
def cu229 : List CU := [(50, [some (.inl (.inr (.inr (some 65)))), some (.inl (.inr (.inr (some 1)))), some (.inr (false, (1, 255, 1, none))), some (.inr (false, (0, 255, 1, none))), some (.inr (false, (0, 2147483647, 1, none))), some (.inl (.inl 6)), some (.inr (false, ((-2147483648), 2147483647, 1, none))), some (.inr (false, (0, 8, 1, none))), none], [], .inr (7, true, 8), .inl 0, .inl 0)]
theorem ke229 : chkE JB ct229 cu229 kt229 5 55 = true := by decide +kernel
theorem ku229 : aLL cu229 (chkU JB ct229 cu229 kt229 5 55) = true := by decide +kernel
theorem ok229 {β : Nat} : KOK JB (W0 β) 55 kt229 := KOK_of W0_f (CT := ct229) (cuts := cu229) ⟨⟨ok228, trivial⟩, ⟨ok227, trivial⟩, ⟨ok146, trivial⟩, trivial⟩ ke229 (fun cu h => ⟨rfl, aLL_s ku229 cu h⟩) rfl
/-! HookSwings.Plan.place(LHookSwings.World;IIII)V -/
def kt230 : KT := ([.inl (.inr (.inr (some 65))), .inl (.inr (.inr (some 1))), .inr (false, 1, 255), .inr (false, 0, 255), .inr (false, 0, 2147483647), .inl (.inl 5)], none, [(65, 2, 2), (67, 0, 8), (69, 0, 8)], [65, 67, 69], [], [], [], 7)
def ct230 : CTB := [(55, [kt229]), (56, [kt227]), (110, [kt146])]
def cu230 : List CU := [(50, [some (.inl (.inr (.inr (some 65)))), some (.inl (.inr (.inr (some 1)))), some (.inr (false, (1, 255, 1, none))), some (.inr (false, (0, 255, 1, none))), some (.inr (false, (0, 2147483647, 1, none))), some (.inl (.inl 5)), some (.inr (false, ((-2147483648), 2147483647, 1, none))), some (.inr (false, (0, 8, 1, none))), none], [], .inr (7, true, 8), .inl 0, .inl 0)]
theorem ke230 : chkE JB ct230 cu230 kt230 6 55 = true := by decide +kernel
theorem ku230 : aLL cu230 (chkU JB ct230 cu230 kt230 6 55) = true := by decide +kernel
theorem ok230 {β : Nat} : KOK JB (W0 β) 55 kt230 := KOK_of W0_f (CT := ct230) (cuts := cu230) ⟨⟨ok229, trivial⟩, ⟨ok227, trivial⟩, ⟨ok146, trivial⟩, trivial⟩ ke230 (fun cu h => ⟨rfl, aLL_s ku230 cu h⟩) rfl
/-! HookSwings.Plan.place(LHookSwings.World;IIII)V -/
def kt231 : KT := ([.inl (.inr (.inr (some 65))), .inl (.inr (.inr (some 1))), .inr (false, 1, 255), .inr (false, 0, 255), .inr (false, 0, 2147483647), .inl (.inl 4)], none, [(65, 2, 2), (67, 0, 8), (69, 0, 8)], [65, 67, 69], [], [], [], 8)
def ct231 : CTB := [(55, [kt230]), (56, [kt227]), (110, [kt146])]
def cu231 : List CU := [(50, [some (.inl (.inr (.inr (some 65)))), some (.inl (.inr (.inr (some 1)))), some (.inr (false, (1, 255, 1, none))), some (.inr (false, (0, 255, 1, none))), some (.inr (false, (0, 2147483647, 1, none))), some (.inl (.inl 4)), some (.inr (false, ((-2147483648), 2147483647, 1, none))), some (.inr (false, (0, 8, 1, none))), none], [], .inr (7, true, 8), .inl 0, .inl 0)]
theorem ke231 : chkE JB ct231 cu231 kt231 7 55 = true := by decide +kernel
theorem ku231 : aLL cu231 (chkU JB ct231 cu231 kt231 7 55) = true := by decide +kernel
theorem ok231 {β : Nat} : KOK JB (W0 β) 55 kt231 := KOK_of W0_f (CT := ct231) (cuts := cu231) ⟨⟨ok230, trivial⟩, ⟨ok227, trivial⟩, ⟨ok146, trivial⟩, trivial⟩ ke231 (fun cu h => ⟨rfl, aLL_s ku231 cu h⟩) rfl
/-! HookSwings.Plan.place(LHookSwings.World;IIII)V -/
def kt232 : KT := ([.inl (.inr (.inr (some 65))), .inl (.inr (.inr (some 1))), .inr (false, 1, 255), .inr (false, 0, 255), .inr (false, 0, 2147483647), .inl (.inl 3)], none, [(65, 2, 2), (67, 0, 8), (69, 0, 8)], [65, 67, 69], [], [], [], 9)
def ct232 : CTB := [(55, [kt231]), (56, [kt227]), (110, [kt146])]
def cu232 : List CU := [(50, [some (.inl (.inr (.inr (some 65)))), some (.inl (.inr (.inr (some 1)))), some (.inr (false, (1, 255, 1, none))), some (.inr (false, (0, 255, 1, none))), some (.inr (false, (0, 2147483647, 1, none))), some (.inl (.inl 3)), some (.inr (false, ((-2147483648), 2147483647, 1, none))), some (.inr (false, (0, 8, 1, none))), none], [], .inr (7, true, 8), .inl 0, .inl 0)]
theorem ke232 : chkE JB ct232 cu232 kt232 8 55 = true := by decide +kernel
theorem ku232 : aLL cu232 (chkU JB ct232 cu232 kt232 8 55) = true := by decide +kernel
theorem ok232 {β : Nat} : KOK JB (W0 β) 55 kt232 := KOK_of W0_f (CT := ct232) (cuts := cu232) ⟨⟨ok231, trivial⟩, ⟨ok227, trivial⟩, ⟨ok146, trivial⟩, trivial⟩ ke232 (fun cu h => ⟨rfl, aLL_s ku232 cu h⟩) rfl
/-! HookSwings.Plan.place(LHookSwings.World;IIII)V -/
def kt233 : KT := ([.inl (.inr (.inr (some 65))), .inl (.inr (.inr (some 1))), .inr (false, 1, 255), .inr (false, 0, 255), .inr (false, 0, 2147483647), .inl (.inl 2)], none, [(65, 2, 2), (67, 0, 8), (69, 0, 8)], [65, 67, 69], [], [], [], 10)
def ct233 : CTB := [(55, [kt232]), (56, [kt227]), (110, [kt146])]
def cu233 : List CU := [(50, [some (.inl (.inr (.inr (some 65)))), some (.inl (.inr (.inr (some 1)))), some (.inr (false, (1, 255, 1, none))), some (.inr (false, (0, 255, 1, none))), some (.inr (false, (0, 2147483647, 1, none))), some (.inl (.inl 2)), some (.inr (false, ((-2147483648), 2147483647, 1, none))), some (.inr (false, (0, 8, 1, none))), none], [], .inr (7, true, 8), .inl 0, .inl 0)]
theorem ke233 : chkE JB ct233 cu233 kt233 9 55 = true := by decide +kernel
theorem ku233 : aLL cu233 (chkU JB ct233 cu233 kt233 9 55) = true := by decide +kernel
theorem ok233 {β : Nat} : KOK JB (W0 β) 55 kt233 := KOK_of W0_f (CT := ct233) (cuts := cu233) ⟨⟨ok232, trivial⟩, ⟨ok227, trivial⟩, ⟨ok146, trivial⟩, trivial⟩ ke233 (fun cu h => ⟨rfl, aLL_s ku233 cu h⟩) rfl
/-! HookSwings.Plan.place(LHookSwings.World;IIII)V -/
def kt234 : KT := ([.inl (.inr (.inr (some 65))), .inl (.inr (.inr (some 1))), .inr (false, 1, 255), .inr (false, 0, 255), .inr (false, 0, 2147483647), .inl (.inl 1)], none, [(65, 2, 2), (67, 0, 8), (69, 0, 8)], [65, 67, 69], [], [], [], 11)
def ct234 : CTB := [(55, [kt233]), (56, [kt227]), (110, [kt146])]
def cu234 : List CU := [(50, [some (.inl (.inr (.inr (some 65)))), some (.inl (.inr (.inr (some 1)))), some (.inr (false, (1, 255, 1, none))), some (.inr (false, (0, 255, 1, none))), some (.inr (false, (0, 2147483647, 1, none))), some (.inl (.inl 1)), some (.inr (false, ((-2147483648), 2147483647, 1, none))), some (.inr (false, (0, 8, 1, none))), none], [], .inr (7, true, 8), .inl 0, .inl 0)]
theorem ke234 : chkE JB ct234 cu234 kt234 10 55 = true := by decide +kernel
theorem ku234 : aLL cu234 (chkU JB ct234 cu234 kt234 10 55) = true := by decide +kernel
theorem ok234 {β : Nat} : KOK JB (W0 β) 55 kt234 := KOK_of W0_f (CT := ct234) (cuts := cu234) ⟨⟨ok233, trivial⟩, ⟨ok227, trivial⟩, ⟨ok146, trivial⟩, trivial⟩ ke234 (fun cu h => ⟨rfl, aLL_s ku234 cu h⟩) rfl
/-! HookSwings.Plan.place(LHookSwings.World;IIII)V -/
def kt235 : KT := ([.inl (.inr (.inr (some 65))), .inl (.inr (.inr (some 1))), .inr (false, 1, 255), .inr (false, 0, 0), .inr (false, 0, 0), .inl (.inl 0)], none, [(65, 2, 2), (67, 0, 8), (69, 0, 8)], [65, 67, 69], [], [], [], 12)
def ct235 : CTB := [(55, [kt234]), (56, [kt227]), (110, [kt146])]
def cu235 : List CU := [(50, [some (.inl (.inr (.inr (some 65)))), some (.inl (.inr (.inr (some 1)))), some (.inr (false, (1, 255, 1, none))), some (.inr (false, (0, 0, 1, none))), some (.inr (false, (0, 0, 1, none))), some (.inl (.inl 0)), some (.inr (false, ((-2147483648), 2147483647, 1, none))), some (.inr (false, (0, 8, 1, none))), none], [], .inr (7, true, 8), .inl 0, .inl 0)]
theorem ke235 : chkE JB ct235 cu235 kt235 11 55 = true := by decide +kernel
theorem ku235 : aLL cu235 (chkU JB ct235 cu235 kt235 11 55) = true := by decide +kernel
theorem ok235 {β : Nat} : KOK JB (W0 β) 55 kt235 := KOK_of W0_f (CT := ct235) (cuts := cu235) ⟨⟨ok234, trivial⟩, ⟨ok227, trivial⟩, ⟨ok146, trivial⟩, trivial⟩ ke235 (fun cu h => ⟨rfl, aLL_s ku235 cu h⟩) rfl
/-! HookSwings.Plan.placeAll(LHookSwings.World;I)V -/
def kt236 : KT := ([.inl (.inr (.inr (some 65))), .inl (.inr (.inr (some 1))), .inr (false, 1, 255)], none, [(65, 2, 2), (67, 0, 8), (69, 0, 8)], [65, 67, 69], [], [], [], 13)
def ct236 : CTB := [(55, [kt235])]
def cu236 : List CU := []
theorem ke236 : chkE JB ct236 cu236 kt236 12 54 = true := by decide +kernel
theorem ok236 {β : Nat} : KOK JB (W0 β) 54 kt236 := KOK_of W0_f (CT := ct236) (cuts := cu236) ⟨⟨ok235, trivial⟩, trivial⟩ ke236 (fun cu h => by cases h) rfl
/-! HookSwings.twoJibs(II)I -/
def kt237 : KT := ([.inl (.inr (.inr (some 0))), .inr (false, (-2147483648), 2147483647), .inr (false, (-2147483648), 2147483647)], some (.inr (false, (-1), 2147483647)), [(58, 0, 1), (59, 0, 8), (60, 0, 64), (65, 2, 2), (66, 0, 8), (67, 0, 8), (69, 0, 8)], [58, 59, 60, 65, 66, 67, 69], [], [], [], 14)
def ct237 : CTB := [(54, [kt236]), (163, [kt219])]
def cu237 : List CU := []
theorem ke237 : chkE JB ct237 cu237 kt237 13 162 = true := by decide +kernel
theorem ok237 {β : Nat} : KOK JB (W0 β) 162 kt237 := KOK_of W0_f (CT := ct237) (cuts := cu237) ⟨⟨ok236, trivial⟩, ⟨ok219, trivial⟩, trivial⟩ ke237 (fun cu h => by cases h) rfl
/-! HookSwings.said(IZ)I -/
def kt238 : KT := ([.inl (.inr (.inr (some 0))), .inr (false, (-2147483648), 2147483647), .inr (false, 0, 1)], some (.inr (false, (-2), 8)), [(1, 10, 10), (7, 0, 8)], [1, 7], [], [], [], 2)
def ct238 : CTB := []
def cu238 : List CU := []
theorem ke238 : chkE JB ct238 cu238 kt238 1 164 = true := by decide +kernel
theorem ok238 {β : Nat} : KOK JB (W0 β) 164 kt238 := KOK_of W0_f (CT := ct238) (cuts := cu238) trivial ke238 (fun cu h => by cases h) rfl
/-! HookSwings.left(Z)J -/
def kt239 : KT := ([.inl (.inr (.inr (some 0))), .inr (false, 0, 1)], some (.inr (true, (-9223372036854775808), 9223372036854775807)), [], [], [], [], [], 2)
def ct239 : CTB := [(179, [kt187])]
def cu239 : List CU := [(8, [some (.inl (.inr (.inr (some 0)))), some (.inr (false, (0, 1, 1, none))), some (.inr (true, ((-9223372036854775808), 9223372036854775807, 1, none))), none, some (.inr (true, ((-9223372036854775808), 9223372036854775807, 1, none))), none, some (.inr (false, (0, 8, 1, none)))], [], .inr (6, true, 8), .inl 0, .inl 0)]
theorem ke239 : chkE JB ct239 cu239 kt239 1 165 = true := by decide +kernel
theorem ku239 : aLL cu239 (chkU JB ct239 cu239 kt239 1 165) = true := by decide +kernel
theorem ok239 {β : Nat} : KOK JB (W0 β) 165 kt239 := KOK_of W0_f (CT := ct239) (cuts := cu239) ⟨⟨ok187, trivial⟩, trivial⟩ ke239 (fun cu h => ⟨rfl, aLL_s ku239 cu h⟩) rfl
/-! HookSwings.landed(II)I -/
def kt240 : KT := ([.inl (.inr (.inr (some 0))), .inr (false, (-2147483648), 2147483647), .inr (false, (-2147483648), 2147483647)], some (.inr (false, (-2147483648), 2147483647)), [], [], [], [], [], 2)
def ct240 : CTB := []
def cu240 : List CU := []
theorem ke240 : chkE JB ct240 cu240 kt240 1 166 = true := by decide +kernel
theorem ok240 {β : Nat} : KOK JB (W0 β) 166 kt240 := KOK_of W0_f (CT := ct240) (cuts := cu240) trivial ke240 (fun cu h => by cases h) rfl
/-! HookSwings.hour(I)I -/
def kt241 : KT := ([.inl (.inr (.inr (some 0))), .inr (false, (-2147483648), 2147483647)], some (.inr (false, (-2147483648), 2147483647)), [], [], [], [], [], 2)
def ct241 : CTB := []
def cu241 : List CU := [(17, [some (.inl (.inr (.inr (some 0)))), some (.inr (false, (1, 9999, 1, none))), some (.inr (false, ((-2147483648), 2147483647, 1, none))), some (.inr (false, (0, 20, 1, none)))], [], .inr (3, true, 20), .inl 0, .inl 0)]
theorem ke241 : chkE JB ct241 cu241 kt241 1 167 = true := by decide +kernel
theorem ku241 : aLL cu241 (chkU JB ct241 cu241 kt241 1 167) = true := by decide +kernel
theorem ok241 {β : Nat} : KOK JB (W0 β) 167 kt241 := KOK_of W0_f (CT := ct241) (cuts := cu241) trivial ke241 (fun cu h => ⟨rfl, aLL_s ku241 cu h⟩) rfl
/-! HookSwings.mean(Z)I -/
def kt242 : KT := ([.inl (.inr (.inr (some 0))), .inr (false, 0, 1)], some (.inr (false, (-2147483648), 2147483647)), [], [], [], [], [], 2)
def ct242 : CTB := [(179, [kt187])]
def cu242 : List CU := []
theorem ke242 : chkE JB ct242 cu242 kt242 1 168 = true := by decide +kernel
theorem ok242 {β : Nat} : KOK JB (W0 β) 168 kt242 := KOK_of W0_f (CT := ct242) (cuts := cu242) ⟨⟨ok187, trivial⟩, trivial⟩ ke242 (fun cu h => by cases h) rfl
/-! HookSwings.Hook.copyParts(LHookSwings.Hook;)V -/
def kt243 : KT := ([.inl (.inr (.inr (some 12))), .inl (.inr (.inr (some 2)))], none, [(12, 1, 14)], [12], [], [], [], 1)
def ct243 : CTB := []
def cu243 : List CU := []
theorem ke243 : chkE JB ct243 cu243 kt243 0 23 = true := by decide +kernel
theorem ok243 {β : Nat} : KOK JB (W0 β) 23 kt243 := KOK_of W0_f (CT := ct243) (cuts := cu243) trivial ke243 (fun cu h => by cases h) rfl
/-! HookSwings.Hook.copyWhole(LHookSwings.Hook;)V -/
def kt244 : KT := ([.inl (.inr (.inr (some 12))), .inl (.inr (.inr (some 2)))], none, [(12, 1, 14), (14, 0, 1260)], [12, 14], [], [], [], 2)
def ct244 : CTB := [(23, [kt243])]
def cu244 : List CU := []
theorem ke244 : chkE JB ct244 cu244 kt244 1 22 = true := by decide +kernel
theorem ok244 {β : Nat} : KOK JB (W0 β) 22 kt244 := KOK_of W0_f (CT := ct244) (cuts := cu244) ⟨⟨ok243, trivial⟩, trivial⟩ ke244 (fun cu h => by cases h) rfl
/-! HookSwings.image()I -/
def kt245 : KT := ([.inl (.inr (.inr (some 0)))], some (.inr (false, (-2147483648), 2147483647)), [(11, 1, 3), (11, 5, 5), (11, 7, 8), (11, 10, 10), (11, 12, 12), (12, 1, 14), (14, 0, 1260), (15, 0, 40), (16, 0, 390), (17, 0, 8), (18, 0, 16), (19, 0, 20), (20, 0, 20)], [11, 12, 14, 15, 16, 17, 18, 19, 20], [], [], [], 4)
def ct245 : CTB := [(22, [kt244])]
def cu245 : List CU := []
theorem ke245 : chkE JB ct245 cu245 kt245 3 169 = true := by decide +kernel
theorem ok245 {β : Nat} : KOK JB (W0 β) 169 kt245 := KOK_of W0_f (CT := ct245) (cuts := cu245) ⟨⟨ok244, trivial⟩, trivial⟩ ke245 (fun cu h => by cases h) rfl
/-! HookSwings.Hook.copyParts(LHookSwings.Hook;)V -/
def kt246 : KT := ([.inl (.inr (.inr (some 2))), .inl (.inr (.inr (some 12)))], none, [(2, 1, 14)], [2], [], [], [], 1)
def ct246 : CTB := []
def cu246 : List CU := []
theorem ke246 : chkE JB ct246 cu246 kt246 0 23 = true := by decide +kernel
theorem ok246 {β : Nat} : KOK JB (W0 β) 23 kt246 := KOK_of W0_f (CT := ct246) (cuts := cu246) trivial ke246 (fun cu h => by cases h) rfl
/-! HookSwings.Hook.copyWhole(LHookSwings.Hook;)V -/
def kt247 : KT := ([.inl (.inr (.inr (some 2))), .inl (.inr (.inr (some 12)))], none, [(2, 1, 14), (4, 0, 1260)], [2, 4], [], [], [], 2)
def ct247 : CTB := [(23, [kt246])]
def cu247 : List CU := []
theorem ke247 : chkE JB ct247 cu247 kt247 1 22 = true := by decide +kernel
theorem ok247 {β : Nat} : KOK JB (W0 β) 22 kt247 := KOK_of W0_f (CT := ct247) (cuts := cu247) ⟨⟨ok246, trivial⟩, trivial⟩ ke247 (fun cu h => by cases h) rfl
/-! HookSwings.back()I -/
def kt248 : KT := ([.inl (.inr (.inr (some 0)))], some (.inr (false, (-2147483648), 2147483647)), [(1, 1, 3), (1, 5, 5), (1, 7, 8), (1, 10, 10), (1, 12, 12), (2, 1, 14), (4, 0, 1260), (5, 0, 40), (6, 0, 390), (7, 0, 8), (8, 0, 16), (9, 0, 20), (10, 0, 20)], [1, 2, 4, 5, 6, 7, 8, 9, 10], [], [], [], 4)
def ct248 : CTB := [(22, [kt247])]
def cu248 : List CU := []
theorem ke248 : chkE JB ct248 cu248 kt248 3 170 = true := by decide +kernel
theorem ok248 {β : Nat} : KOK JB (W0 β) 170 kt248 := KOK_of W0_f (CT := ct248) (cuts := cu248) ⟨⟨ok247, trivial⟩, trivial⟩ ke248 (fun cu h => by cases h) rfl
/-! HookSwings.about(I)I -/
def kt249 : KT := ([.inl (.inr (.inr (some 0))), .inr (false, (-2147483648), 2147483647)], some (.inr (false, (-2147483648), 30252)), [], [], [], [], [], 2)
def ct249 : CTB := []
def cu249 : List CU := []
theorem ke249 : chkE JB ct249 cu249 kt249 1 171 = true := by decide +kernel
theorem ok249 {β : Nat} : KOK JB (W0 β) 171 kt249 := KOK_of W0_f (CT := ct249) (cuts := cu249) trivial ke249 (fun cu h => by cases h) rfl
