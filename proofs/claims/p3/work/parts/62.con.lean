/-! HookSwingsModel.order(IIIII)I -/
def kt250 : KT := ([.inl (.inr (.inr (some 76))), .inr (false, (-2147483648), 2147483647), .inr (false, (-2147483648), 2147483647), .inr (false, (-2147483648), 2147483647), .inr (false, (-2147483648), 2147483647), .inr (false, (-2147483648), 2147483647)], some (.inr (false, (-1), 7)), [(77, 0, 0), (77, 20, 67)], [77], [(77, 16, .inr (false, 0, 9999))], [(77, 16, .inr (false, 0, 9999))], [], 2)
def ct250 : CTB := []
def cu250 : List CU := []
theorem ke250 : chkE JB ct250 cu250 kt250 1 189 = true := by decide +kernel
theorem ok250 {β : Nat} : KOK JB (W0 β) 189 kt250 := KOK_of W0_f (CT := ct250) (cuts := cu250) trivial ke250 (fun cu h => by cases h) rfl
/-! HookSwingsModel.near(I)Z -/
def kt251 : KT := ([.inl (.inr (.inr (some 76))), .inr (false, (-2147483648), 2147483647)], some (.inr (false, 0, 1)), [(77, 1, 1)], [77], [(77, 16, .inr (false, 0, 9999))], [(77, 16, .inr (false, 0, 9999))], [], 2)
def ct251 : CTB := []
def cu251 : List CU := []
theorem ke251 : chkE JB ct251 cu251 kt251 1 190 = true := by decide +kernel
theorem ok251 {β : Nat} : KOK JB (W0 β) 190 kt251 := KOK_of W0_f (CT := ct251) (cuts := cu251) trivial ke251 (fun cu h => by cases h) rfl
/-! HookSwingsModel.feed(IIIII)I -/
def kt252 : KT := ([.inl (.inr (.inr (some 76))), .inr (false, (-2147483648), 2147483647), .inr (false, (-2147483648), 2147483647), .inr (false, (-2147483648), 2147483647), .inr (false, (-2147483648), 2147483647), .inr (false, (-2147483648), 2147483647)], some (.inr (false, (-1), 300)), [(76, 4, 4), (80, 0, 300)], [76, 80], [(77, 16, .inr (false, 0, 9999))], [(77, 16, .inr (false, 0, 9999))], [], 2)
def ct252 : CTB := []
def cu252 : List CU := []
theorem ke252 : chkE JB ct252 cu252 kt252 1 192 = true := by decide +kernel
theorem ok252 {β : Nat} : KOK JB (W0 β) 192 kt252 := KOK_of W0_f (CT := ct252) (cuts := cu252) trivial ke252 (fun cu h => by cases h) rfl
/-! HookSwingsModel.end(I)I -/
def kt253 : KT := ([.inl (.inr (.inr (some 76))), .inr (false, (-2147483648), 2147483647)], some (.inr (false, (-1), 300)), [(76, 4, 4)], [76], [(77, 16, .inr (false, 0, 9999))], [(77, 16, .inr (false, 0, 9999))], [], 2)
def ct253 : CTB := []
def cu253 : List CU := []
theorem ke253 : chkE JB ct253 cu253 kt253 1 193 = true := by decide +kernel
theorem ok253 {β : Nat} : KOK JB (W0 β) 193 kt253 := KOK_of W0_f (CT := ct253) (cuts := cu253) trivial ke253 (fun cu h => by cases h) rfl
/-! HookSwingsModel.readText()I -/
def kt254 : KT := ([.inl (.inr (.inr (some 76)))], some (.inr (false, 0, 6)), [(76, 5, 19), (79, 0, 3012), (81, 0, 160)], [76, 79, 81], [], [], [], 20)
theorem ok254 {β : Nat} : KOK JB (W0 β) 231 kt254 := sorry
/-! HookSwingsModel.text()I -/
def kt255 : KT := ([.inl (.inr (.inr (some 76)))], some (.inr (false, (-1), 3)), [(76, 4, 19), (77, 3, 3), (79, 0, 3012), (81, 0, 160)], [76, 77, 79, 81], [(77, 16, .inr (false, 0, 9999))], [(77, 16, .inr (false, 0, 9999))], [], 21)
def ct255 : CTB := [(231, [kt254])]
def cu255 : List CU := []
theorem ke255 : chkE JB ct255 cu255 kt255 20 232 = true := by decide +kernel
theorem ok255 {β : Nat} : KOK JB (W0 β) 232 kt255 := KOK_of W0_f (CT := ct255) (cuts := cu255) ⟨⟨ok254, trivial⟩, trivial⟩ ke255 (fun cu h => by cases h) rfl
/-! HookSwingsModel.fault(I)I -/
def kt256 : KT := ([.inl (.inr (.inr (some 76))), .inr (false, (-2147483648), 2147483647)], some (.inr (false, (-1), 6)), [], [], [(77, 16, .inr (false, 0, 9999))], [(77, 16, .inr (false, 0, 9999))], [], 1)
def ct256 : CTB := []
def cu256 : List CU := []
theorem ke256 : chkE JB ct256 cu256 kt256 0 233 = true := by decide +kernel
theorem ok256 {β : Nat} : KOK JB (W0 β) 233 kt256 := KOK_of W0_f (CT := ct256) (cuts := cu256) trivial ke256 (fun cu h => by cases h) rfl
/-! HookSwingsModel.by(I)Z -/
def kt257 : KT := ([.inl (.inr (.inr (some 76))), .inr (false, (-2147483648), 2147483647)], some (.inr (false, 0, 1)), [(77, 4, 4)], [77], [(77, 16, .inr (false, 0, 9999))], [(77, 16, .inr (false, 0, 9999))], [], 2)
def ct257 : CTB := []
def cu257 : List CU := []
theorem ke257 : chkE JB ct257 cu257 kt257 1 234 = true := by decide +kernel
theorem ok257 {β : Nat} : KOK JB (W0 β) 234 kt257 := KOK_of W0_f (CT := ct257) (cuts := cu257) trivial ke257 (fun cu h => by cases h) rfl
/-! HookSwingsModel.undo()I -/
def kt258 : KT := ([.inl (.inr (.inr (some 76)))], some (.inr (false, (-1), 29)), [(77, 2, 2), (77, 5, 5), (77, 7, 17), (77, 20, 67)], [77], [(77, 16, .inr (false, 0, 9999))], [(77, 16, .inr (false, 0, 9999))], [], 4)
theorem ok258 {β : Nat} : KOK JB (W0 β) 255 kt258 := sorry
/-! HookSwingsModel.cut(III)I -/
def kt259 : KT := ([.inr (false, (-2147483648), 2147483647), .inr (false, (-2147483648), 2147483647), .inr (false, (-2147483648), 2147483647)], some (.inr (false, (-2147483648), 2147483647)), [], [], [], [], [], 1)
def ct259 : CTB := []
def cu259 : List CU := []
theorem ke259 : chkE JB ct259 cu259 kt259 0 183 = true := by decide +kernel
theorem ok259 {β : Nat} : KOK JB (W0 β) 183 kt259 := KOK_of W0_f (CT := ct259) (cuts := cu259) trivial ke259 (fun cu h => by cases h) rfl
/-! HookSwingsModel.worked(II)I -/
def kt260 : KT := ([.inl (.inr (.inr (some 76))), .inr (false, (-1), 3), .inr (false, 0, 24)], some (.inr (false, (-2147483648), 2147483647)), [(83, 0, 330), (84, 0, 330)], [83, 84], [], [], [], 5)
theorem ok260 {β : Nat} : KOK JB (W0 β) 240 kt260 := sorry
/-! HookSwingsModel.clauseOf(II)I -/
def kt261 : KT := ([.inl (.inr (.inr (some 76))), .inr (false, (-1), 3), .inr (false, 0, 4)], some (.inr (false, (-1), 24)), [], [], [], [], [], 1)
def ct261 : CTB := []
def cu261 : List CU := [(2, [some (.inl (.inr (.inr (some 76)))), some (.inr (false, ((-1), 3, 1, none))), some (.inr (false, (0, 4, 1, none))), some (.inr (false, (0, 24, 1, none)))], [], .inr (3, true, 24), .inl 0, .inl 0)]
theorem ke261 : chkE JB ct261 cu261 kt261 0 241 = true := by decide +kernel
theorem ku261 : aLL cu261 (chkU JB ct261 cu261 kt261 0 241) = true := by decide +kernel
theorem ok261 {β : Nat} : KOK JB (W0 β) 241 kt261 := KOK_of W0_f (CT := ct261) (cuts := cu261) trivial ke261 (fun cu h => ⟨rfl, aLL_s ku261 cu h⟩) rfl
/-! HookSwingsModel.says(IIII)I -/
def kt262 : KT := ([.inl (.inr (.inr (some 76))), .inr (false, 0, 4), .inr (false, (-2147483648), 2147483647), .inr (false, (-99), 1), .inr (false, 9, 99)], some (.inr (false, (-2147483648), 2147483647)), [(83, 0, 330), (84, 0, 330)], [83, 84], [], [], [], 6)
def ct262 : CTB := [(183, [kt259]), (240, [kt260]), (241, [kt261])]
def cu262 : List CU := []
theorem ke262 : chkE JB ct262 cu262 kt262 5 242 = true := by decide +kernel
theorem ok262 {β : Nat} : KOK JB (W0 β) 242 kt262 := KOK_of W0_f (CT := ct262) (cuts := cu262) ⟨⟨ok259, trivial⟩, ⟨ok260, trivial⟩, ⟨ok261, trivial⟩, trivial⟩ ke262 (fun cu h => by cases h) rfl
/-! HookSwingsModel.away()I -/
def kt263 : KT := ([.inl (.inr (.inr (some 76)))], some (.inr (false, (-2147483648), 2147483647)), [], [], [], [], [], 1)
def ct263 : CTB := []
def cu263 : List CU := []
theorem ke263 : chkE JB ct263 cu263 kt263 0 243 = true := by decide +kernel
theorem ok263 {β : Nat} : KOK JB (W0 β) 243 kt263 := KOK_of W0_f (CT := ct263) (cuts := cu263) trivial ke263 (fun cu h => by cases h) rfl
/-! HookSwingsModel.nameNow()V -/
def kt264 : KT := ([.inl (.inr (.inr (some 76)))], none, [(76, 21, 22), (82, 0, 8)], [76, 82], [], [], [], 2)
def ct264 : CTB := [(243, [kt263])]
def cu264 : List CU := []
theorem ke264 : chkE JB ct264 cu264 kt264 1 244 = true := by decide +kernel
theorem ok264 {β : Nat} : KOK JB (W0 β) 244 kt264 := KOK_of W0_f (CT := ct264) (cuts := cu264) ⟨⟨ok263, trivial⟩, trivial⟩ ke264 (fun cu h => by cases h) rfl
/-! HookSwingsModel.layPast(I)V -/
def kt265 : KT := ([.inl (.inr (.inr (some 76))), .inr (false, (-3), 1)], none, [(77, 602, 9817)], [77], [], [], [], 2)
def ct265 : CTB := [(243, [kt263])]
def cu265 : List CU := []
theorem ke265 : chkE JB ct265 cu265 kt265 1 250 = true := by decide +kernel
theorem ok265 {β : Nat} : KOK JB (W0 β) 250 kt265 := KOK_of W0_f (CT := ct265) (cuts := cu265) ⟨⟨ok263, trivial⟩, trivial⟩ ke265 (fun cu h => by cases h) rfl
/-! HookSwingsModel.pass(I)V -/
def kt266 : KT := ([.inl (.inr (.inr (some 76))), .inr (false, (-3), 1)], none, [(76, 21, 22), (77, 2, 2), (77, 8, 11), (77, 14, 14), (77, 16, 16), (77, 602, 9817), (82, 0, 8), (83, 0, 330), (84, 0, 330)], [76, 77, 82, 83, 84], [(77, 16, .inr (false, 0, 10299))], [], [(77, 16, 1)], 7)
def ct266 : CTB := [(183, [kt259]), (242, [kt262]), (243, [kt263]), (244, [kt264]), (250, [kt265])]
def cu266 : List CU := []
theorem ke266 : chkE JB ct266 cu266 kt266 6 251 = true := by decide +kernel
theorem ok266 {β : Nat} : KOK JB (W0 β) 251 kt266 := KOK_of W0_f (CT := ct266) (cuts := cu266) ⟨⟨ok259, trivial⟩, ⟨ok262, trivial⟩, ⟨ok263, trivial⟩, ⟨ok264, trivial⟩, ⟨ok265, trivial⟩, trivial⟩ ke266 (fun cu h => by cases h) rfl
/-! HookSwingsModel.keep()V -/
def kt267 : KT := ([.inl (.inr (.inr (some 76)))], none, [(77, 5, 5), (77, 84, 473)], [77], [(77, 16, .inr (false, 0, 9999))], [], [], 4)
theorem ok267 {β : Nat} : KOK JB (W0 β) 254 kt267 := sorry
/-! HookSwingsModel.isTenth(I)Z -/
def kt268 : KT := ([.inl (.inr (.inr (some 76))), .inr (false, (-1), 1)], some (.inr (false, 0, 1)), [(76, 21, 22), (77, 2, 2), (77, 5, 5), (77, 8, 11), (77, 14, 14), (77, 16, 16), (77, 84, 473), (77, 602, 9817), (82, 0, 8), (83, 0, 330), (84, 0, 330)], [76, 77, 82, 83, 84], [(77, 16, .inr (false, 0, 9999))], [(77, 16, .inr (false, 0, 9999))], [], 8)
def ct268 : CTB := [(251, [kt266]), (254, [kt267])]
def cu268 : List CU := []
theorem ke268 : chkE JB ct268 cu268 kt268 7 256 = true := by decide +kernel
theorem ok268 {β : Nat} : KOK JB (W0 β) 256 kt268 := KOK_of W0_f (CT := ct268) (cuts := cu268) ⟨⟨ok266, trivial⟩, ⟨ok267, trivial⟩, trivial⟩ ke268 (fun cu h => by cases h) rfl
/-! HookSwingsModel.move(I)I -/
def kt269 : KT := ([.inl (.inr (.inr (some 76))), .inr (false, (-2147483648), 2147483647)], some (.inr (false, (-2147483648), 2147483647)), [(76, 21, 22), (77, 2, 2), (77, 5, 5), (77, 8, 11), (77, 14, 14), (77, 16, 16), (77, 84, 473), (77, 602, 9817), (82, 0, 8), (83, 0, 330), (84, 0, 330)], [76, 77, 82, 83, 84], [(77, 16, .inr (false, 0, 9999))], [(77, 16, .inr (false, 0, 9999))], [], 9)
def ct269 : CTB := [(256, [kt268])]
def cu269 : List CU := []
theorem ke269 : chkE JB ct269 cu269 kt269 8 257 = true := by decide +kernel
theorem ok269 {β : Nat} : KOK JB (W0 β) 257 kt269 := KOK_of W0_f (CT := ct269) (cuts := cu269) ⟨⟨ok268, trivial⟩, trivial⟩ ke269 (fun cu h => by cases h) rfl
/-! HookSwingsModel.commandBy(I)I -/
def kt270 : KT := ([.inl (.inr (.inr (some 76))), .inr (false, (-1), 3)], some (.inr (false, (-1), 1)), [(83, 0, 330), (84, 0, 330)], [83, 84], [], [], [], 6)
def ct270 : CTB := [(240, [kt260]), (241, [kt261])]
def cu270 : List CU := []
theorem ke270 : chkE JB ct270 cu270 kt270 5 245 = true := by decide +kernel
theorem ok270 {β : Nat} : KOK JB (W0 β) 245 kt270 := KOK_of W0_f (CT := ct270) (cuts := cu270) ⟨⟨ok260, trivial⟩, ⟨ok261, trivial⟩, trivial⟩ ke270 (fun cu h => by cases h) rfl
/-! HookSwingsModel.commandNow(I)I -/
def kt271 : KT := ([.inl (.inr (.inr (some 76))), .inr (false, (-1), 3)], some (.inr (false, (-1), 1)), [(76, 21, 22), (82, 0, 8), (83, 0, 330), (84, 0, 330)], [76, 82, 83, 84], [], [], [], 7)
def ct271 : CTB := [(244, [kt264]), (245, [kt270])]
def cu271 : List CU := []
theorem ke271 : chkE JB ct271 cu271 kt271 6 253 = true := by decide +kernel
theorem ok271 {β : Nat} : KOK JB (W0 β) 253 kt271 := KOK_of W0_f (CT := ct271) (cuts := cu271) ⟨⟨ok264, trivial⟩, ⟨ok270, trivial⟩, trivial⟩ ke271 (fun cu h => by cases h) rfl
/-! HookSwingsModel.areRun(I)Z -/
def kt272 : KT := ([.inl (.inr (.inr (some 76))), .inr (false, 1, 60)], some (.inr (false, 0, 1)), [(76, 21, 22), (77, 2, 2), (77, 5, 5), (77, 8, 11), (77, 14, 14), (77, 16, 16), (77, 84, 473), (77, 602, 9817), (82, 0, 8), (83, 0, 330), (84, 0, 330)], [76, 77, 82, 83, 84], [(77, 16, .inr (false, 0, 9999))], [(77, 16, .inr (false, 0, 9999))], [], 9)
def ct272 : CTB := [(253, [kt271]), (256, [kt268])]
def cu272 : List CU := [(2, [some (.inl (.inr (.inr (some 76)))), some (.inr (false, (1, 60, 1, none))), some (.inr (false, (0, 60, 1, none)))], [(77, 16, .inl (0, 9999, 1, none))], .inr (2, true, 60), .inl 0, .inl 0)]
theorem ke272 : chkE JB ct272 cu272 kt272 8 258 = true := by decide +kernel
theorem ku272 : aLL cu272 (chkU JB ct272 cu272 kt272 8 258) = true := by decide +kernel
theorem ok272 {β : Nat} : KOK JB (W0 β) 258 kt272 := KOK_of W0_f (CT := ct272) (cuts := cu272) ⟨⟨ok271, trivial⟩, ⟨ok268, trivial⟩, trivial⟩ ke272 (fun cu h => ⟨rfl, aLL_s ku272 cu h⟩) rfl
/-! HookSwingsModel.run(I)I -/
def kt273 : KT := ([.inl (.inr (.inr (some 76))), .inr (false, (-2147483648), 2147483647)], some (.inr (false, (-2147483648), 2147483647)), [(76, 21, 22), (77, 2, 2), (77, 5, 5), (77, 8, 11), (77, 14, 14), (77, 16, 16), (77, 84, 473), (77, 602, 9817), (82, 0, 8), (83, 0, 330), (84, 0, 330)], [76, 77, 82, 83, 84], [(77, 16, .inr (false, 0, 9999))], [(77, 16, .inr (false, 0, 9999))], [], 10)
def ct273 : CTB := [(258, [kt272])]
def cu273 : List CU := []
theorem ke273 : chkE JB ct273 cu273 kt273 9 259 = true := by decide +kernel
theorem ok273 {β : Nat} : KOK JB (W0 β) 259 kt273 := KOK_of W0_f (CT := ct273) (cuts := cu273) ⟨⟨ok272, trivial⟩, trivial⟩ ke273 (fun cu h => by cases h) rfl
/-! HookSwingsModel.hoist(I)Z -/
def kt274 : KT := ([.inl (.inr (.inr (some 76))), .inr (false, (-2147483648), 2147483647)], some (.inr (false, 0, 1)), [(77, 5, 5), (77, 12, 12), (77, 84, 473)], [77], [(77, 16, .inr (false, 0, 9999))], [(77, 16, .inr (false, 0, 9999))], [], 5)
def ct274 : CTB := [(254, [kt267])]
def cu274 : List CU := []
theorem ke274 : chkE JB ct274 cu274 kt274 4 260 = true := by decide +kernel
theorem ok274 {β : Nat} : KOK JB (W0 β) 260 kt274 := KOK_of W0_f (CT := ct274) (cuts := cu274) ⟨⟨ok267, trivial⟩, trivial⟩ ke274 (fun cu h => by cases h) rfl
/-! HookSwingsModel.aim(I)Z -/
def kt275 : KT := ([.inl (.inr (.inr (some 76))), .inr (false, (-2147483648), 2147483647)], some (.inr (false, 0, 1)), [(77, 5, 5), (77, 15, 15), (77, 84, 473)], [77], [(77, 16, .inr (false, 0, 9999))], [(77, 16, .inr (false, 0, 9999))], [], 5)
def ct275 : CTB := [(254, [kt267])]
def cu275 : List CU := []
theorem ke275 : chkE JB ct275 cu275 kt275 4 261 = true := by decide +kernel
theorem ok275 {β : Nat} : KOK JB (W0 β) 261 kt275 := KOK_of W0_f (CT := ct275) (cuts := cu275) ⟨⟨ok267, trivial⟩, trivial⟩ ke275 (fun cu h => by cases h) rfl
/-! HookSwingsModel.hook(I)Z -/
def kt276 : KT := ([.inl (.inr (.inr (some 76))), .inr (false, (-2147483648), 2147483647)], some (.inr (false, 0, 1)), [(77, 5, 5), (77, 13, 13), (77, 15, 15), (77, 17, 17), (77, 84, 473)], [77], [(77, 16, .inr (false, 0, 9999))], [(77, 16, .inr (false, 0, 9999))], [], 5)
def ct276 : CTB := [(254, [kt267])]
def cu276 : List CU := []
theorem ke276 : chkE JB ct276 cu276 kt276 4 262 = true := by decide +kernel
theorem ok276 {β : Nat} : KOK JB (W0 β) 262 kt276 := KOK_of W0_f (CT := ct276) (cuts := cu276) ⟨⟨ok267, trivial⟩, trivial⟩ ke276 (fun cu h => by cases h) rfl
/-! HookSwingsModel.land()I -/
def kt277 : KT := ([.inl (.inr (.inr (some 76)))], some (.inr (false, (-1), 7)), [(77, 5, 5), (77, 7, 7), (77, 13, 13), (77, 17, 17), (77, 20, 67), (77, 84, 601)], [77], [(77, 16, .inr (false, 0, 9999))], [(77, 16, .inr (false, 0, 9999))], [], 6)
theorem ok277 {β : Nat} : KOK JB (W0 β) 263 kt277 := sorry
/-! HookSwingsModel.played(I)I -/
def kt278 : KT := ([.inl (.inr (.inr (some 76))), .inr (false, (-2147483648), 2147483647)], some (.inr (false, (-2), 24)), [], [], [(77, 16, .inr (false, 0, 9999))], [(77, 16, .inr (false, 0, 9999))], [], 40)
theorem ok278 {β : Nat} : KOK JB (W0 β) 265 kt278 := sorry
/-! HookSwingsModel.sizeOf(I)I -/
def kt319 : KT := ([.inr (false, (-2147483648), 2147483647)], some (.inr (false, (-2147483648), 2147483647)), [], [], [], [], [], 1)
def ct319 : CTB := []
def cu319 : List CU := []
theorem ke319 : chkE JB ct319 cu319 kt319 0 184 = true := by decide +kernel
theorem ok319 {β : Nat} : KOK JB (W0 β) 184 kt319 := KOK_of W0_f (CT := ct319) (cuts := cu319) trivial ke319 (fun cu h => by cases h) rfl
/-! HookSwingsModel.hangsStill()Z -/
def kt320 : KT := ([.inl (.inr (.inr (some 76)))], some (.inr (false, 0, 1)), [], [], [], [], [], 2)
def ct320 : CTB := [(184, [kt319]), (243, [kt263])]
def cu320 : List CU := []
theorem ke320 : chkE JB ct320 cu320 kt320 1 252 = true := by decide +kernel
theorem ok320 {β : Nat} : KOK JB (W0 β) 252 kt320 := KOK_of W0_f (CT := ct320) (cuts := cu320) ⟨⟨ok319, trivial⟩, ⟨ok263, trivial⟩, trivial⟩ ke320 (fun cu h => by cases h) rfl
/-! HookSwingsModel.jib(I)I -/
def kt321 : KT := ([.inl (.inr (.inr (some 76))), .inr (false, (-2147483648), 2147483647)], some (.inr (false, (-2147483648), 2147483647)), [(76, 21, 22), (82, 0, 8), (83, 0, 330), (84, 0, 330)], [76, 82, 83, 84], [(77, 16, .inr (false, 0, 9999))], [(77, 16, .inr (false, 0, 9999))], [], 8)
def ct321 : CTB := [(243, [kt263]), (252, [kt320]), (253, [kt271])]
def cu321 : List CU := []
theorem ke321 : chkE JB ct321 cu321 kt321 7 267 = true := by decide +kernel
theorem ok321 {β : Nat} : KOK JB (W0 β) 267 kt321 := KOK_of W0_f (CT := ct321) (cuts := cu321) ⟨⟨ok263, trivial⟩, ⟨ok320, trivial⟩, ⟨ok271, trivial⟩, trivial⟩ ke321 (fun cu h => by cases h) rfl
/-! HookSwingsModel.ofOrder(II)I -/
def kt322 : KT := ([.inl (.inr (.inr (some 76))), .inr (false, (-2147483648), 2147483647), .inr (false, (-2147483648), 2147483647)], some (.inr (false, (-2147483648), 2147483647)), [(82, 0, 8), (83, 0, 330), (84, 0, 330)], [82, 83, 84], [(77, 16, .inr (false, 0, 9999))], [(77, 16, .inr (false, 0, 9999))], [], 8)
def ct322 : CTB := [(242, [kt262])]
def cu322 : List CU := []
theorem ke322 : chkE JB ct322 cu322 kt322 7 268 = true := by decide +kernel
theorem ok322 {β : Nat} : KOK JB (W0 β) 268 kt322 := KOK_of W0_f (CT := ct322) (cuts := cu322) ⟨⟨ok262, trivial⟩, trivial⟩ ke322 (fun cu h => by cases h) rfl
/-! HookSwingsModel.ago(II)I -/
def kt323 : KT := ([.inl (.inr (.inr (some 76))), .inr (false, (-2147483648), 2147483647), .inr (false, (-2147483648), 2147483647)], some (.inr (false, (-2147483648), 2147483647)), [], [], [(77, 16, .inr (false, 0, 9999))], [(77, 16, .inr (false, 0, 9999))], [], 2)
def ct323 : CTB := []
def cu323 : List CU := []
theorem ke323 : chkE JB ct323 cu323 kt323 1 270 = true := by decide +kernel
theorem ok323 {β : Nat} : KOK JB (W0 β) 270 kt323 := KOK_of W0_f (CT := ct323) (cuts := cu323) trivial ke323 (fun cu h => by cases h) rfl
/-! HookSwingsModel.foretold(IZI)I -/
def kt324 : KT := ([.inl (.inr (.inr (some 76))), .inr (false, (-2147483648), 2147483647), .inr (false, 0, 1), .inr (false, (-2147483648), 2147483647)], some (.inr (false, (-2147483648), 2147483647)), [(76, 21, 22), (76, 25, 25), (77, 0, 17), (77, 602, 9817), (82, 0, 8), (83, 0, 330), (84, 0, 330), (85, 0, 17)], [76, 77, 82, 83, 84, 85], [(77, 16, .inr (false, 0, 9999))], [(77, 16, .inr (false, 0, 9999))], [], 8)
def ct324 : CTB := [(184, [kt319]), (243, [kt263]), (251, [kt266]), (252, [kt320]), (253, [kt271])]
def cu324 : List CU := [(37, [some (.inl (.inr (.inr (some 76)))), some (.inr (false, (1, 200, 1, none))), some (.inr (false, (0, 1, 1, none))), some (.inr (false, (0, 3, 1, none))), some (.inr (false, ((-2147483648), 2147483647, 1, none))), some (.inr (false, ((-1), 200, 1, none))), some (.inr (false, (1, 201, 1, none)))], [(77, 16, .inl (0, 10299, 1, some (5, 9998))), (85, 12, .inl (1, 24, 1, none)), (77, 5, .inl (0, 30, 1, none)), (85, 5, .inr 8), (77, 7, .inl (0, 20000, 1, none)), (85, 7, .inr 9)], .inr (6, true, 201), .inl 0, .inl 0)]
theorem ke324 : chkE JB ct324 cu324 kt324 7 273 = true := by decide +kernel
theorem ku324 : aLL cu324 (chkU JB ct324 cu324 kt324 7 273) = true := by decide +kernel
theorem ok324 {β : Nat} : KOK JB (W0 β) 273 kt324 := KOK_of W0_f (CT := ct324) (cuts := cu324) ⟨⟨ok319, trivial⟩, ⟨ok263, trivial⟩, ⟨ok266, trivial⟩, ⟨ok320, trivial⟩, ⟨ok271, trivial⟩, trivial⟩ ke324 (fun cu h => ⟨rfl, aLL_s ku324 cu h⟩) rfl
/-! HookSwingsModel.digitOf(III)I -/
def kt325 : KT := ([.inr (false, 0, 2147483647), .inr (false, 1, 7), .inr (false, 0, 7)], some (.inr (false, (-3), 1)), [], [], [], [], [], 1)
def ct325 : CTB := []
def cu325 : List CU := [(7, [some (.inr (false, (0, 2147483647, 1, none))), some (.inr (false, (1, 7, 1, none))), some (.inr (false, (0, 7, 1, none))), some (.inr (false, ((-2147483648), 2147483647, 1, none))), some (.inr (false, (0, 6, 1, none)))], [], .inr (4, false, 0), .inl 0, .inl 0)]
theorem ke325 : chkE JB ct325 cu325 kt325 0 274 = true := by decide +kernel
theorem ku325 : aLL cu325 (chkU JB ct325 cu325 kt325 0 274) = true := by decide +kernel
theorem ok325 {β : Nat} : KOK JB (W0 β) 274 kt325 := KOK_of W0_f (CT := ct325) (cuts := cu325) trivial ke325 (fun cu h => ⟨rfl, aLL_s ku325 cu h⟩) rfl
/-! HookSwingsModel.comesStill(II)Z -/
def kt326 : KT := ([.inl (.inr (.inr (some 76))), .inr (false, 0, 2147483647), .inr (false, 0, 7)], some (.inr (false, 0, 1)), [(76, 21, 22), (76, 25, 25), (77, 0, 17), (77, 602, 9817), (82, 0, 8), (83, 0, 330), (84, 0, 330), (85, 0, 17)], [76, 77, 82, 83, 84, 85], [(77, 16, .inr (false, 0, 9999))], [(77, 16, .inr (false, 0, 9999))], [], 8)
def ct326 : CTB := [(251, [kt266]), (252, [kt320]), (274, [kt325])]
def cu326 : List CU := [(6, [some (.inl (.inr (.inr (some 76)))), some (.inr (false, (0, 2147483647, 1, none))), some (.inr (false, (0, 7, 1, none))), some (.inr (false, (0, 7, 1, none)))], [(77, 16, .inl (0, 10299, 1, some (2, 9999))), (85, 12, .inl (1, 24, 1, none)), (77, 5, .inl (0, 30, 1, none)), (85, 5, .inr 5), (77, 7, .inl (0, 20000, 1, none)), (85, 7, .inr 6)], .inr (3, true, 7), .inl 0, .inl 0)]
theorem ke326 : chkE JB ct326 cu326 kt326 7 275 = true := by decide +kernel
theorem ku326 : aLL cu326 (chkU JB ct326 cu326 kt326 7 275) = true := by decide +kernel
theorem ok326 {β : Nat} : KOK JB (W0 β) 275 kt326 := KOK_of W0_f (CT := ct326) (cuts := cu326) ⟨⟨ok266, trivial⟩, ⟨ok320, trivial⟩, ⟨ok325, trivial⟩, trivial⟩ ke326 (fun cu h => ⟨rfl, aLL_s ku326 cu h⟩) rfl
/-! HookSwingsModel.soonest(I)I -/
def kt327 : KT := ([.inl (.inr (.inr (some 76))), .inr (false, (-2147483648), 2147483647)], some (.inr (false, (-3), 7)), [(76, 21, 22), (76, 25, 25), (77, 0, 17), (77, 602, 9817), (82, 0, 8), (83, 0, 330), (84, 0, 330), (85, 0, 17)], [76, 77, 82, 83, 84, 85], [(77, 16, .inr (false, 0, 9999))], [(77, 16, .inr (false, 0, 9999))], [], 9)
def ct327 : CTB := [(274, [kt325]), (275, [kt326])]
def cu327 : List CU := [(12, [some (.inl (.inr (.inr (some 76)))), some (.inr (false, ((-1), 2147483647, 1, none))), some (.inr (false, ((-2147483648), 2147483647, 1, none))), some (.inr (false, (0, 8, 1, none))), none], [(77, 16, .inl (0, 9999, 1, none))], .inr (3, true, 8), .inl 1, .inl 0),
  (21, [some (.inl (.inr (.inr (some 76)))), some (.inr (false, ((-1), 2147483647, 1, none))), some (.inr (false, ((-2147483648), 2147483647, 1, none))), some (.inr (false, (0, 7, 1, none))), some (.inr (false, (0, 2147483647, 1, none)))], [(77, 16, .inl (0, 9999, 1, none))], .inr (3, true, 8), .inl 0, .inr (4, true, 2147483647))]
theorem ke327 : chkE JB ct327 cu327 kt327 8 276 = true := by decide +kernel
theorem ku327 : aLL cu327 (chkU JB ct327 cu327 kt327 8 276) = true := by decide +kernel
theorem ok327 {β : Nat} : KOK JB (W0 β) 276 kt327 := KOK_of W0_f (CT := ct327) (cuts := cu327) ⟨⟨ok325, trivial⟩, ⟨ok326, trivial⟩, trivial⟩ ke327 (fun cu h => ⟨rfl, aLL_s ku327 cu h⟩) rfl
/-! HookSwingsModel.many(II)I -/
def kt328 : KT := ([.inr (false, 0, 2147483647), .inr (false, 0, 7)], some (.inr (false, (-2147483648), 2147483647)), [], [], [], [], [], 2)
def ct328 : CTB := [(274, [kt325])]
def cu328 : List CU := [(4, [some (.inr (false, (0, 2147483647, 1, none))), some (.inr (false, (0, 7, 1, none))), some (.inr (false, ((-2147483648), 2147483647, 1, none))), some (.inr (false, (0, 7, 1, none)))], [], .inr (3, true, 7), .inl 0, .inl 0)]
theorem ke328 : chkE JB ct328 cu328 kt328 1 277 = true := by decide +kernel
theorem ku328 : aLL cu328 (chkU JB ct328 cu328 kt328 1 277) = true := by decide +kernel
theorem ok328 {β : Nat} : KOK JB (W0 β) 277 kt328 := KOK_of W0_f (CT := ct328) (cuts := cu328) ⟨⟨ok325, trivial⟩, trivial⟩ ke328 (fun cu h => ⟨rfl, aLL_s ku328 cu h⟩) rfl
/-! HookSwingsModel.fewest(I)I -/
def kt329 : KT := ([.inl (.inr (.inr (some 76))), .inr (false, (-2147483648), 2147483647)], some (.inr (false, (-2147483648), 2147483647)), [(76, 21, 22), (76, 25, 25), (77, 0, 17), (77, 602, 9817), (82, 0, 8), (83, 0, 330), (84, 0, 330), (85, 0, 17)], [76, 77, 82, 83, 84, 85], [(77, 16, .inr (false, 0, 9999))], [(77, 16, .inr (false, 0, 9999))], [], 9)
def ct329 : CTB := [(274, [kt325]), (275, [kt326]), (277, [kt328])]
def cu329 : List CU := [(23, [some (.inl (.inr (.inr (some 76)))), some (.inr (false, ((-1), 2147483647, 1, none))), some (.inr (false, ((-2147483648), 2147483647, 1, none))), some (.inr (false, (0, 2147483647, 1, none))), some (.inr (false, (0, 7, 1, none))), some (.inr (false, ((-2147483648), 2147483647, 1, none))), some (.inr (false, (0, 8, 1, none))), none], [(77, 16, .inl (0, 9999, 1, none))], .inr (6, true, 8), .inl 1, .inl 0),
  (33, [some (.inl (.inr (.inr (some 76)))), some (.inr (false, ((-1), 2147483647, 1, none))), some (.inr (false, ((-2147483648), 2147483647, 1, none))), some (.inr (false, (0, 2147483647, 1, none))), some (.inr (false, (0, 7, 1, none))), some (.inr (false, ((-2147483648), 2147483647, 1, none))), some (.inr (false, (0, 7, 1, none))), some (.inr (false, (0, 2147483647, 1, none)))], [(77, 16, .inl (0, 9999, 1, none))], .inr (6, true, 8), .inl 0, .inr (7, true, 2147483647))]
theorem ke329 : chkE JB ct329 cu329 kt329 8 278 = true := by decide +kernel
theorem ku329 : aLL cu329 (chkU JB ct329 cu329 kt329 8 278) = true := by decide +kernel
theorem ok329 {β : Nat} : KOK JB (W0 β) 278 kt329 := KOK_of W0_f (CT := ct329) (cuts := cu329) ⟨⟨ok325, trivial⟩, ⟨ok326, trivial⟩, ⟨ok328, trivial⟩, trivial⟩ ke329 (fun cu h => ⟨rfl, aLL_s ku329 cu h⟩) rfl
/-! HookSwingsModel.toAndFro(I)I -/
def kt330 : KT := ([.inl (.inr (.inr (some 76))), .inr (false, (-2147483648), 2147483647)], some (.inr (false, (-200), 201)), [(76, 21, 22), (76, 25, 25), (77, 0, 17), (77, 602, 9817), (82, 0, 8), (83, 0, 330), (84, 0, 330), (85, 0, 17)], [76, 77, 82, 83, 84, 85], [(77, 16, .inr (false, 0, 9999))], [(77, 16, .inr (false, 0, 9999))], [], 8)
def ct330 : CTB := [(243, [kt263]), (251, [kt266])]
def cu330 : List CU := [(24, [some (.inl (.inr (.inr (some 76)))), some (.inr (false, (2, 200, 1, none))), some (.inr (false, ((-1), 200, 1, none))), some (.inr (false, ((-1), 200, 1, none))), some (.inr (false, (1, 201, 1, none))), none], [(77, 16, .inl (0, 10299, 1, some (3, 9998))), (85, 12, .inl (1, 24, 1, none)), (77, 5, .inl (0, 30, 1, none)), (85, 5, .inr 6), (77, 7, .inl (0, 20000, 1, none)), (85, 7, .inr 7)], .inr (4, true, 201), .inl 0, .inl 0)]
theorem ke330 : chkE JB ct330 cu330 kt330 7 279 = true := by decide +kernel
theorem ku330 : aLL cu330 (chkU JB ct330 cu330 kt330 7 279) = true := by decide +kernel
theorem ok330 {β : Nat} : KOK JB (W0 β) 279 kt330 := KOK_of W0_f (CT := ct330) (cuts := cu330) ⟨⟨ok263, trivial⟩, ⟨ok266, trivial⟩, trivial⟩ ke330 (fun cu h => ⟨rfl, aLL_s ku330 cu h⟩) rfl
/-! HookSwingsModel.common(JJ)J -/
def kt331 : KT := ([.inr (true, (-9223372036854775808), 9223372036854775807), .inr (true, (-9223372036854775808), 9223372036854775807)], some (.inr (true, 1, 9223372036854775807)), [], [], [], [], [], 3)
theorem ok331 {β : Nat} : KOK JB (W0 β) 311 kt331 := sorry
/-! HookSwingsModel.calm(IIZ)J -/
def kt332 : KT := ([.inl (.inr (.inr (some 76))), .inr (false, (-2147483648), 2147483647), .inr (false, (-2147483648), 2147483647), .inr (false, 0, 1)], some (.inr (true, (-9223372036854775808), 9223372036854775807)), [], [], [(77, 16, .inr (false, 0, 9999))], [(77, 16, .inr (false, 0, 9999))], [], 4)
def ct332 : CTB := [(311, [kt331])]
def cu332 : List CU := [(33, [some (.inl (.inr (.inr (some 76)))), some (.inr (false, (1, 9, 1, none))), some (.inr (false, (0, 9, 1, none))), some (.inr (false, (0, 1, 1, none))), some (.inr (true, ((-9223372036854775808), 9223372036854775807, 1, none))), none, some (.inr (true, ((-9223372036854775808), 9223372036854775807, 1, none))), none, some (.inr (false, (0, 9, 1, none)))], [(77, 16, .inl (0, 9999, 1, none))], .inr (8, true, 9), .inl 0, .inl 0)]
theorem ke332 : chkE JB ct332 cu332 kt332 3 280 = true := by decide +kernel
theorem ku332 : aLL cu332 (chkU JB ct332 cu332 kt332 3 280) = true := by decide +kernel
theorem ok332 {β : Nat} : KOK JB (W0 β) 280 kt332 := KOK_of W0_f (CT := ct332) (cuts := cu332) ⟨⟨ok331, trivial⟩, trivial⟩ ke332 (fun cu h => ⟨rfl, aLL_s ku332 cu h⟩) rfl
/-! HookSwingsModel.halves(II)V -/
def kt333 : KT := ([.inl (.inr (.inr (some 76))), .inr (false, 0, 3), .inr (false, 1, 200)], none, [(76, 21, 22), (76, 25, 25), (76, 27, 28), (77, 0, 17), (77, 602, 9817), (82, 0, 8), (83, 0, 330), (84, 0, 330), (85, 0, 17)], [76, 77, 82, 83, 84, 85], [(77, 16, .inr (false, 0, 9999))], [(77, 16, .inr (false, 0, 9999))], [], 8)
def ct333 : CTB := [(184, [kt319]), (243, [kt263]), (251, [kt266]), (253, [kt271])]
def cu333 : List CU := [(16, [some (.inl (.inr (.inr (some 76)))), some (.inr (false, (0, 3, 1, none))), some (.inr (false, (1, 200, 1, none))), some (.inr (false, (1, 201, 1, none))), none], [(77, 16, .inl (0, 10299, 1, some (2, 9998))), (85, 12, .inl (1, 24, 1, none)), (77, 5, .inl (0, 30, 1, none)), (85, 5, .inr 5), (77, 7, .inl (0, 20000, 1, none)), (85, 7, .inr 6)], .inr (3, true, 201), .inl 0, .inl 0)]
theorem ke333 : chkE JB ct333 cu333 kt333 7 281 = true := by decide +kernel
theorem ku333 : aLL cu333 (chkU JB ct333 cu333 kt333 7 281) = true := by decide +kernel
theorem ok333 {β : Nat} : KOK JB (W0 β) 281 kt333 := KOK_of W0_f (CT := ct333) (cuts := cu333) ⟨⟨ok319, trivial⟩, ⟨ok263, trivial⟩, ⟨ok266, trivial⟩, ⟨ok271, trivial⟩, trivial⟩ ke333 (fun cu h => ⟨rfl, aLL_s ku333 cu h⟩) rfl
/-! HookSwingsModel.dies(II)I -/
def kt334 : KT := ([.inl (.inr (.inr (some 76))), .inr (false, (-2147483648), 2147483647), .inr (false, (-2147483648), 2147483647)], some (.inr (false, (-2), 1)), [(76, 21, 22), (76, 25, 25), (76, 27, 28), (77, 0, 17), (77, 602, 9817), (82, 0, 8), (83, 0, 330), (84, 0, 330), (85, 0, 17)], [76, 77, 82, 83, 84, 85], [(77, 16, .inr (false, 0, 9999))], [(77, 16, .inr (false, 0, 9999))], [], 9)
def ct334 : CTB := [(281, [kt333])]
def cu334 : List CU := []
theorem ke334 : chkE JB ct334 cu334 kt334 8 283 = true := by decide +kernel
theorem ok334 {β : Nat} : KOK JB (W0 β) 283 kt334 := KOK_of W0_f (CT := ct334) (cuts := cu334) ⟨⟨ok333, trivial⟩, trivial⟩ ke334 (fun cu h => by cases h) rfl
/-! HookSwingsModel.calmest(I)I -/
def kt335 : KT := ([.inl (.inr (.inr (some 76))), .inr (false, (-2147483648), 2147483647)], some (.inr (false, (-1), 3)), [(76, 21, 22), (76, 25, 25), (76, 27, 28), (77, 0, 17), (77, 602, 9817), (82, 0, 8), (83, 0, 330), (84, 0, 330), (85, 0, 17)], [76, 77, 82, 83, 84, 85], [(77, 16, .inr (false, 0, 9999))], [(77, 16, .inr (false, 0, 9999))], [], 9)
def ct335 : CTB := [(281, [kt333])]
def cu335 : List CU := [(20, [some (.inl (.inr (.inr (some 76)))), some (.inr (false, (1, 200, 1, none))), some (.inr (false, ((-1), 3, 1, none))), some (.inr (false, (0, 2147483647, 1, none))), some (.inr (false, (0, 4, 1, none))), none], [(77, 16, .inl (0, 9999, 1, none))], .inr (4, true, 4), .inl 0, .inl 0)]
theorem ke335 : chkE JB ct335 cu335 kt335 8 284 = true := by decide +kernel
theorem ku335 : aLL cu335 (chkU JB ct335 cu335 kt335 8 284) = true := by decide +kernel
theorem ok335 {β : Nat} : KOK JB (W0 β) 284 kt335 := KOK_of W0_f (CT := ct335) (cuts := cu335) ⟨⟨ok333, trivial⟩, trivial⟩ ke335 (fun cu h => ⟨rfl, aLL_s ku335 cu h⟩) rfl
/-! HookSwingsModel.isHandOf(I)Z -/
def kt336 : KT := ([.inl (.inr (.inr (some 76))), .inr (false, 0, 3)], some (.inr (false, 0, 1)), [(76, 21, 22), (82, 0, 8), (83, 0, 330), (84, 0, 330)], [76, 82, 83, 84], [(77, 16, .inr (false, 0, 9999))], [(77, 16, .inr (false, 0, 9999))], [], 7)
def ct336 : CTB := [(245, [kt270])]
def cu336 : List CU := [(48, [some (.inl (.inr (.inr (some 76)))), some (.inr (false, (0, 3, 1, none))), some (.inr (false, (0, 10000, 1, none))), none], [(77, 16, .inl (0, 9999, 1, none))], .inr (2, true, 10000), .inl 1, .inl 0),
  (61, [some (.inl (.inr (.inr (some 76)))), some (.inr (false, (0, 3, 1, none))), some (.inr (false, (0, 9999, 1, none))), some (.inr (false, (0, 7, 1, none)))], [(77, 16, .inl (0, 9999, 1, none))], .inr (2, true, 10000), .inl 0, .inr (3, true, 5))]
theorem ke336 : chkE JB ct336 cu336 kt336 6 285 = true := by decide +kernel
theorem ku336 : aLL cu336 (chkU JB ct336 cu336 kt336 6 285) = true := by decide +kernel
theorem ok336 {β : Nat} : KOK JB (W0 β) 285 kt336 := KOK_of W0_f (CT := ct336) (cuts := cu336) ⟨⟨ok270, trivial⟩, trivial⟩ ke336 (fun cu h => ⟨rfl, aLL_s ku336 cu h⟩) rfl
/-! HookSwingsModel.whoseHand()I -/
def kt337 : KT := ([.inl (.inr (.inr (some 76)))], some (.inr (false, 0, 255)), [(76, 21, 22), (82, 0, 8), (83, 0, 330), (84, 0, 330)], [76, 82, 83, 84], [(77, 16, .inr (false, 0, 9999))], [(77, 16, .inr (false, 0, 9999))], [], 8)
def ct337 : CTB := [(285, [kt336])]
def cu337 : List CU := [(4, [some (.inl (.inr (.inr (some 76)))), some (.inr (false, (0, 255, 1, none))), some (.inr (false, (0, 4, 1, none)))], [(77, 16, .inl (0, 9999, 1, none))], .inr (2, true, 4), .inl 0, .inl 0)]
theorem ke337 : chkE JB ct337 cu337 kt337 7 286 = true := by decide +kernel
theorem ku337 : aLL cu337 (chkU JB ct337 cu337 kt337 7 286) = true := by decide +kernel
theorem ok337 {β : Nat} : KOK JB (W0 β) 286 kt337 := KOK_of W0_f (CT := ct337) (cuts := cu337) ⟨⟨ok336, trivial⟩, trivial⟩ ke337 (fun cu h => ⟨rfl, aLL_s ku337 cu h⟩) rfl
/-! HookSwingsModel.stillBy(II)I -/
def kt338 : KT := ([.inl (.inr (.inr (some 76))), .inr (false, (-1), 3), .inr (false, 0, 60)], some (.inr (false, 1, 200)), [(76, 21, 22), (77, 2, 2), (77, 8, 11), (77, 14, 14), (77, 16, 16), (77, 602, 9817), (82, 0, 8), (83, 0, 330), (84, 0, 330)], [76, 77, 82, 83, 84], [(77, 16, .inr (false, 0, 9999))], [], [], 8)
def ct338 : CTB := [(251, [kt266]), (252, [kt320]), (253, [kt271])]
def cu338 : List CU := [(2, [some (.inl (.inr (.inr (some 76)))), some (.inr (false, ((-1), 3, 1, none))), some (.inr (false, (0, 60, 1, none))), some (.inr (false, (1, 201, 1, none)))], [(77, 16, .inl (0, 10299, 1, some (2, 9998)))], .inr (3, true, 201), .inl 0, .inl 0)]
theorem ke338 : chkE JB ct338 cu338 kt338 7 288 = true := by decide +kernel
theorem ku338 : aLL cu338 (chkU JB ct338 cu338 kt338 7 288) = true := by decide +kernel
theorem ok338 {β : Nat} : KOK JB (W0 β) 288 kt338 := KOK_of W0_f (CT := ct338) (cuts := cu338) ⟨⟨ok266, trivial⟩, ⟨ok320, trivial⟩, ⟨ok271, trivial⟩, trivial⟩ ke338 (fun cu h => ⟨rfl, aLL_s ku338 cu h⟩) rfl
/-! HookSwingsModel.keepPast()V -/
def kt339 : KT := ([.inl (.inr (.inr (some 76)))], none, [(86, 0, 1200)], [86], [], [], [], 1)
def ct339 : CTB := []
def cu339 : List CU := [(2, [some (.inl (.inr (.inr (some 76)))), some (.inr (false, (0, 1200, 1, none)))], [], .inr (1, true, 1200), .inl 0, .inl 0)]
theorem ke339 : chkE JB ct339 cu339 kt339 0 290 = true := by decide +kernel
theorem ku339 : aLL cu339 (chkU JB ct339 cu339 kt339 0 290) = true := by decide +kernel
theorem ok339 {β : Nat} : KOK JB (W0 β) 290 kt339 := KOK_of W0_f (CT := ct339) (cuts := cu339) trivial ke339 (fun cu h => ⟨rfl, aLL_s ku339 cu h⟩) rfl
/-! HookSwingsModel.putBackPast()V -/
def kt340 : KT := ([.inl (.inr (.inr (some 76)))], none, [(77, 602, 1801)], [77], [], [], [], 1)
def ct340 : CTB := []
def cu340 : List CU := [(2, [some (.inl (.inr (.inr (some 76)))), some (.inr (false, (0, 1200, 1, none)))], [], .inr (1, true, 1200), .inl 0, .inl 0)]
theorem ke340 : chkE JB ct340 cu340 kt340 0 291 = true := by decide +kernel
theorem ku340 : aLL cu340 (chkU JB ct340 cu340 kt340 0 291) = true := by decide +kernel
theorem ok340 {β : Nat} : KOK JB (W0 β) 291 kt340 := KOK_of W0_f (CT := ct340) (cuts := cu340) trivial ke340 (fun cu h => ⟨rfl, aLL_s ku340 cu h⟩) rfl
/-! HookSwingsModel.fromRest(II)I -/
def kt341 : KT := ([.inl (.inr (.inr (some 76))), .inr (false, 0, 3), .inr (false, 0, 7)], some (.inr (false, 1, 200)), [(76, 21, 22), (76, 25, 25), (77, 0, 17), (77, 602, 9817), (82, 0, 8), (83, 0, 330), (84, 0, 330), (85, 0, 17), (86, 0, 1200)], [76, 77, 82, 83, 84, 85, 86], [(77, 16, .inr (false, 0, 9999))], [(77, 16, .inr (false, 0, 9999))], [], 9)
def ct341 : CTB := [(288, [kt338]), (290, [kt339]), (291, [kt340])]
def cu341 : List CU := []
theorem ke341 : chkE JB ct341 cu341 kt341 8 289 = true := by decide +kernel
theorem ok341 {β : Nat} : KOK JB (W0 β) 289 kt341 := KOK_of W0_f (CT := ct341) (cuts := cu341) ⟨⟨ok338, trivial⟩, ⟨ok339, trivial⟩, ⟨ok340, trivial⟩, trivial⟩ ke341 (fun cu h => by cases h) rfl
/-! HookSwingsModel.saves(III)I -/
def kt342 : KT := ([.inl (.inr (.inr (some 76))), .inr (false, (-2147483648), 2147483647), .inr (false, (-2147483648), 2147483647), .inr (false, (-2147483648), 2147483647)], some (.inr (false, (-2147483648), 2147483647)), [(76, 21, 22), (76, 25, 25), (77, 0, 17), (77, 602, 9817), (82, 0, 8), (83, 0, 330), (84, 0, 330), (85, 0, 17), (86, 0, 1200)], [76, 77, 82, 83, 84, 85, 86], [(77, 16, .inr (false, 0, 9999))], [(77, 16, .inr (false, 0, 9999))], [], 10)
def ct342 : CTB := [(289, [kt341])]
def cu342 : List CU := [(49, [some (.inl (.inr (.inr (some 76)))), some (.inr (false, (0, 3, 1, none))), some (.inr (false, (0, 3, 1, none))), some (.inr (false, (1, 255, 1, none))), some (.inr (false, ((-2147483648), 2147483647, 1, none))), some (.inr (false, (0, 8, 1, none)))], [(77, 16, .inl (0, 9999, 1, none))], .inr (5, true, 8), .inl 0, .inl 0)]
theorem ke342 : chkE JB ct342 cu342 kt342 9 292 = true := by decide +kernel
theorem ku342 : aLL cu342 (chkU JB ct342 cu342 kt342 9 292) = true := by decide +kernel
theorem ok342 {β : Nat} : KOK JB (W0 β) 292 kt342 := KOK_of W0_f (CT := ct342) (cuts := cu342) ⟨⟨ok341, trivial⟩, trivial⟩ ke342 (fun cu h => ⟨rfl, aLL_s ku342 cu h⟩) rfl
/-! HookSwingsModel.goneBy(I)I -/
def kt343 : KT := ([.inl (.inr (.inr (some 76))), .inr (false, 0, 60)], some (.inr (false, 1, 100000000)), [(76, 21, 22), (77, 2, 2), (77, 8, 11), (77, 14, 14), (77, 16, 16), (77, 602, 9817), (82, 0, 8), (83, 0, 330), (84, 0, 330)], [76, 77, 82, 83, 84], [(77, 16, .inr (false, 0, 9999))], [], [], 9)
def ct343 : CTB := [(252, [kt320]), (288, [kt338])]
def cu343 : List CU := []
theorem ke343 : chkE JB ct343 cu343 kt343 8 293 = true := by decide +kernel
theorem ok343 {β : Nat} : KOK JB (W0 β) 293 kt343 := KOK_of W0_f (CT := ct343) (cuts := cu343) ⟨⟨ok320, trivial⟩, ⟨ok338, trivial⟩, trivial⟩ ke343 (fun cu h => by cases h) rfl
/-! HookSwingsModel.whenToGo()I -/
def kt344 : KT := ([.inl (.inr (.inr (some 76)))], some (.inr (false, (-1), 60)), [(76, 21, 22), (76, 25, 25), (77, 0, 17), (77, 602, 9817), (82, 0, 8), (83, 0, 330), (84, 0, 330), (85, 0, 17)], [76, 77, 82, 83, 84, 85], [(77, 16, .inr (false, 0, 9999))], [(77, 16, .inr (false, 0, 9999))], [], 10)
def ct344 : CTB := [(293, [kt343])]
def cu344 : List CU := [(8, [some (.inl (.inr (.inr (some 76)))), some (.inr (false, ((-1), 60, 1, none))), some (.inr (false, (1, 100000000, 1, none))), some (.inr (false, (0, 61, 1, none))), none], [(77, 16, .inl (0, 9999, 1, none))], .inr (3, true, 61), .inl 0, .inl 0)]
theorem ke344 : chkE JB ct344 cu344 kt344 9 294 = true := by decide +kernel
theorem ku344 : aLL cu344 (chkU JB ct344 cu344 kt344 9 294) = true := by decide +kernel
theorem ok344 {β : Nat} : KOK JB (W0 β) 294 kt344 := KOK_of W0_f (CT := ct344) (cuts := cu344) ⟨⟨ok343, trivial⟩, trivial⟩ ke344 (fun cu h => ⟨rfl, aLL_s ku344 cu h⟩) rfl
/-! HookSwingsModel.whichRope()I -/
def kt345 : KT := ([.inl (.inr (.inr (some 76)))], some (.inr (false, (-1), 24)), [(76, 21, 22), (76, 25, 25), (77, 0, 17), (77, 602, 9817), (82, 0, 8), (83, 0, 330), (84, 0, 330), (85, 0, 17)], [76, 77, 82, 83, 84, 85], [(77, 16, .inr (false, 0, 9999))], [(77, 16, .inr (false, 0, 9999))], [], 10)
def ct345 : CTB := [(293, [kt343])]
def cu345 : List CU := [(8, [some (.inl (.inr (.inr (some 76)))), some (.inr (false, ((-1), 24, 1, none))), some (.inr (false, (1, 100000000, 1, none))), some (.inr (false, (1, 25, 1, none))), none], [(77, 16, .inl (0, 9999, 1, none))], .inr (3, true, 25), .inl 0, .inl 0)]
theorem ke345 : chkE JB ct345 cu345 kt345 9 295 = true := by decide +kernel
theorem ku345 : aLL cu345 (chkU JB ct345 cu345 kt345 9 295) = true := by decide +kernel
theorem ok345 {β : Nat} : KOK JB (W0 β) 295 kt345 := KOK_of W0_f (CT := ct345) (cuts := cu345) ⟨⟨ok343, trivial⟩, trivial⟩ ke345 (fun cu h => ⟨rfl, aLL_s ku345 cu h⟩) rfl
/-! HookSwingsModel.bar(IIII)I -/
def kt346 : KT := ([.inl (.inr (.inr (some 76))), .inr (false, (-2147483648), 2147483647), .inr (false, (-2147483648), 2147483647), .inr (false, (-2147483648), 2147483647), .inr (false, (-2147483648), 2147483647)], some (.inr (false, (-2), 4)), [(77, 18, 18), (77, 9818, 9833)], [77], [(77, 16, .inr (false, 0, 9999))], [(77, 16, .inr (false, 0, 9999))], [], 2)
def ct346 : CTB := []
def cu346 : List CU := []
theorem ke346 : chkE JB ct346 cu346 kt346 1 296 = true := by decide +kernel
theorem ok346 {β : Nat} : KOK JB (W0 β) 296 kt346 := KOK_of W0_f (CT := ct346) (cuts := cu346) trivial ke346 (fun cu h => by cases h) rfl
/-! HookSwingsModel.isBarred()Z -/
def kt347 : KT := ([.inl (.inr (.inr (some 76)))], some (.inr (false, 0, 1)), [], [], [], [], [], 2)
def ct347 : CTB := []
def cu347 : List CU := [(2, [some (.inl (.inr (.inr (some 76)))), some (.inr (false, (0, 4, 1, none))), none], [], .inr (1, true, 4), .inl 0, .inl 0)]
theorem ke347 : chkE JB ct347 cu347 kt347 1 297 = true := by decide +kernel
theorem ku347 : aLL cu347 (chkU JB ct347 cu347 kt347 1 297) = true := by decide +kernel
theorem ok347 {β : Nat} : KOK JB (W0 β) 297 kt347 := KOK_of W0_f (CT := ct347) (cuts := cu347) trivial ke347 (fun cu h => ⟨rfl, aLL_s ku347 cu h⟩) rfl
/-! HookSwingsModel.barred(IZ)I -/
def kt348 : KT := ([.inl (.inr (.inr (some 76))), .inr (false, (-2147483648), 2147483647), .inr (false, 0, 1)], some (.inr (false, (-1), 200)), [(76, 21, 22), (76, 25, 25), (77, 0, 17), (77, 602, 9817), (82, 0, 8), (83, 0, 330), (84, 0, 330), (85, 0, 17)], [76, 77, 82, 83, 84, 85], [(77, 16, .inr (false, 0, 9999))], [(77, 16, .inr (false, 0, 9999))], [], 8)
def ct348 : CTB := [(251, [kt266]), (253, [kt271]), (297, [kt347])]
def cu348 : List CU := [(22, [some (.inl (.inr (.inr (some 76)))), some (.inr (false, (1, 200, 1, none))), some (.inr (false, (0, 1, 1, none))), some (.inr (false, ((-1), 200, 1, none))), some (.inr (false, (1, 201, 1, none)))], [(77, 16, .inl (0, 10299, 1, some (3, 9998))), (85, 12, .inl (1, 24, 1, none)), (77, 5, .inl (0, 30, 1, none)), (85, 5, .inr 6), (77, 7, .inl (0, 20000, 1, none)), (85, 7, .inr 7)], .inr (4, true, 201), .inl 0, .inl 0)]
theorem ke348 : chkE JB ct348 cu348 kt348 7 298 = true := by decide +kernel
theorem ku348 : aLL cu348 (chkU JB ct348 cu348 kt348 7 298) = true := by decide +kernel
theorem ok348 {β : Nat} : KOK JB (W0 β) 298 kt348 := KOK_of W0_f (CT := ct348) (cuts := cu348) ⟨⟨ok266, trivial⟩, ⟨ok271, trivial⟩, ⟨ok347, trivial⟩, trivial⟩ ke348 (fun cu h => ⟨rfl, aLL_s ku348 cu h⟩) rfl
/-! HookSwingsModel.isTooMuch(III)Z -/
def kt349 : KT := ([.inl (.inr (.inr (some 76))), .inr (false, 1, 9), .inr (false, 1, 200), .inr (false, 0, 9999)], some (.inr (false, 0, 1)), [(76, 21, 22), (76, 25, 25), (77, 0, 17), (77, 602, 9817), (82, 0, 8), (83, 0, 330), (84, 0, 330), (85, 0, 17)], [76, 77, 82, 83, 84, 85], [(77, 16, .inr (false, 0, 9999))], [(77, 16, .inr (false, 0, 9999))], [], 8)
def ct349 : CTB := [(184, [kt319]), (243, [kt263]), (251, [kt266])]
def cu349 : List CU := [(23, [some (.inl (.inr (.inr (some 76)))), some (.inr (false, (1, 9, 1, none))), some (.inr (false, (1, 200, 1, none))), some (.inr (false, (0, 9999, 1, none))), some (.inr (false, (0, 1, 1, none))), some (.inr (false, (0, 200, 1, none)))], [(77, 16, .inl (0, 10299, 1, some (4, 9999))), (85, 12, .inl (1, 24, 1, none)), (77, 5, .inl (0, 30, 1, none)), (85, 5, .inr 7), (77, 7, .inl (0, 20000, 1, none)), (85, 7, .inr 8)], .inr (5, true, 200), .inl 0, .inl 0)]
theorem ke349 : chkE JB ct349 cu349 kt349 7 287 = true := by decide +kernel
theorem ku349 : aLL cu349 (chkU JB ct349 cu349 kt349 7 287) = true := by decide +kernel
theorem ok349 {β : Nat} : KOK JB (W0 β) 287 kt349 := KOK_of W0_f (CT := ct349) (cuts := cu349) ⟨⟨ok319, trivial⟩, ⟨ok263, trivial⟩, ⟨ok266, trivial⟩, trivial⟩ ke349 (fun cu h => ⟨rfl, aLL_s ku349 cu h⟩) rfl
/-! HookSwingsModel.dayEnds(II)I -/
def kt350 : KT := ([.inl (.inr (.inr (some 76))), .inr (false, (-2147483648), 2147483647), .inr (false, (-2147483648), 2147483647)], some (.inr (false, (-1), 9)), [(76, 21, 22), (76, 25, 25), (77, 0, 17), (77, 602, 9817), (82, 0, 8), (83, 0, 330), (84, 0, 330), (85, 0, 17)], [76, 77, 82, 83, 84, 85], [(77, 16, .inr (false, 0, 9999))], [(77, 16, .inr (false, 0, 9999))], [], 9)
def ct350 : CTB := [(287, [kt349])]
def cu350 : List CU := [(26, [some (.inl (.inr (.inr (some 76)))), some (.inr (false, (1, 200, 1, none))), some (.inr (false, (0, 9999, 1, none))), some (.inr (false, (1, 10, 1, none)))], [(77, 16, .inl (0, 9999, 1, none))], .inr (3, true, 10), .inl 0, .inl 0)]
theorem ke350 : chkE JB ct350 cu350 kt350 8 299 = true := by decide +kernel
theorem ku350 : aLL cu350 (chkU JB ct350 cu350 kt350 8 299) = true := by decide +kernel
theorem ok350 {β : Nat} : KOK JB (W0 β) 299 kt350 := KOK_of W0_f (CT := ct350) (cuts := cu350) ⟨⟨ok349, trivial⟩, trivial⟩ ke350 (fun cu h => ⟨rfl, aLL_s ku350 cu h⟩) rfl
/-! HookSwingsModel.howFar(I)I -/
def kt351 : KT := ([.inl (.inr (.inr (some 76))), .inr (false, (-2147483648), 2147483647)], some (.inr (false, (-1), 60)), [(82, 0, 8), (83, 0, 330), (84, 0, 330)], [82, 83, 84], [(77, 16, .inr (false, 0, 9999))], [(77, 16, .inr (false, 0, 9999))], [], 8)
def ct351 : CTB := [(242, [kt262])]
def cu351 : List CU := [(14, [some (.inl (.inr (.inr (some 76)))), some (.inr (false, (1, 99, 1, none))), some (.inr (false, (0, 61, 1, none)))], [(77, 16, .inl (0, 9999, 1, none))], .inr (2, true, 61), .inl 0, .inl 0)]
theorem ke351 : chkE JB ct351 cu351 kt351 7 300 = true := by decide +kernel
theorem ku351 : aLL cu351 (chkU JB ct351 cu351 kt351 7 300) = true := by decide +kernel
theorem ok351 {β : Nat} : KOK JB (W0 β) 300 kt351 := KOK_of W0_f (CT := ct351) (cuts := cu351) ⟨⟨ok262, trivial⟩, trivial⟩ ke351 (fun cu h => ⟨rfl, aLL_s ku351 cu h⟩) rfl
/-! HookSwingsModel.over()I -/
def kt352 : KT := ([.inl (.inr (.inr (some 76)))], some (.inr (false, 0, 255)), [(82, 0, 8), (83, 0, 330), (84, 0, 330)], [82, 83, 84], [(77, 16, .inr (false, 0, 9999))], [(77, 16, .inr (false, 0, 9999))], [], 8)
def ct352 : CTB := [(242, [kt262])]
def cu352 : List CU := [(4, [some (.inl (.inr (.inr (some 76)))), some (.inr (false, (0, 255, 1, none))), some (.inr (false, (0, 8, 1, none)))], [(77, 16, .inl (0, 9999, 1, none))], .inr (2, true, 8), .inl 0, .inl 0)]
theorem ke352 : chkE JB ct352 cu352 kt352 7 301 = true := by decide +kernel
theorem ku352 : aLL cu352 (chkU JB ct352 cu352 kt352 7 301) = true := by decide +kernel
theorem ok352 {β : Nat} : KOK JB (W0 β) 301 kt352 := KOK_of W0_f (CT := ct352) (cuts := cu352) ⟨⟨ok262, trivial⟩, trivial⟩ ke352 (fun cu h => ⟨rfl, aLL_s ku352 cu h⟩) rfl
/-! HookSwingsModel.first(II)I -/
def kt353 : KT := ([.inl (.inr (.inr (some 76))), .inr (false, (-2147483648), 2147483647), .inr (false, (-2147483648), 2147483647)], some (.inr (false, (-2147483648), 2147483647)), [(76, 34, 34), (82, 0, 8), (83, 0, 330), (84, 0, 330), (87, 0, 8), (88, 0, 8), (89, 0, 8), (90, 0, 8), (91, 0, 8), (92, 0, 8)], [76, 82, 83, 84, 87, 88, 89, 90, 91, 92], [(77, 16, .inr (false, 0, 9999))], [(77, 16, .inr (false, 0, 9999))], [], 20)
theorem ok353 {β : Nat} : KOK JB (W0 β) 305 kt353 := sorry
/-! HookSwingsModel.twoJibs(II)I -/
def kt354 : KT := ([.inl (.inr (.inr (some 76))), .inr (false, (-2147483648), 2147483647), .inr (false, (-2147483648), 2147483647)], some (.inr (false, (-2147483648), 2147483647)), [(76, 34, 34), (82, 0, 8), (83, 0, 330), (84, 0, 330), (87, 0, 8), (88, 0, 8), (89, 0, 8), (90, 0, 8), (91, 0, 8), (92, 0, 8)], [76, 82, 83, 84, 87, 88, 89, 90, 91, 92], [(77, 16, .inr (false, 0, 9999))], [(77, 16, .inr (false, 0, 9999))], [], 20)
theorem ok354 {β : Nat} : KOK JB (W0 β) 309 kt354 := sorry
/-! HookSwingsModel.said(IZ)I -/
def kt355 : KT := ([.inl (.inr (.inr (some 76))), .inr (false, (-2147483648), 2147483647), .inr (false, 0, 1)], some (.inr (false, (-2), 8)), [(77, 6, 6), (77, 68, 83)], [77], [(77, 16, .inr (false, 0, 9999))], [(77, 16, .inr (false, 0, 9999))], [], 2)
def ct355 : CTB := []
def cu355 : List CU := []
theorem ke355 : chkE JB ct355 cu355 kt355 1 310 = true := by decide +kernel
theorem ok355 {β : Nat} : KOK JB (W0 β) 310 kt355 := KOK_of W0_f (CT := ct355) (cuts := cu355) trivial ke355 (fun cu h => by cases h) rfl
/-! HookSwingsModel.left(Z)J -/
def kt356 : KT := ([.inl (.inr (.inr (some 76))), .inr (false, 0, 1)], some (.inr (true, (-9223372036854775808), 9223372036854775807)), [], [], [(77, 16, .inr (false, 0, 9999))], [(77, 16, .inr (false, 0, 9999))], [], 4)
def ct356 : CTB := [(311, [kt331])]
def cu356 : List CU := [(8, [some (.inl (.inr (.inr (some 76)))), some (.inr (false, (0, 1, 1, none))), some (.inr (true, ((-9223372036854775808), 9223372036854775807, 1, none))), none, some (.inr (true, ((-9223372036854775808), 9223372036854775807, 1, none))), none, some (.inr (false, (0, 8, 1, none))), none, none], [(77, 16, .inl (0, 9999, 1, none))], .inr (6, true, 8), .inl 0, .inl 0)]
theorem ke356 : chkE JB ct356 cu356 kt356 3 312 = true := by decide +kernel
theorem ku356 : aLL cu356 (chkU JB ct356 cu356 kt356 3 312) = true := by decide +kernel
theorem ok356 {β : Nat} : KOK JB (W0 β) 312 kt356 := KOK_of W0_f (CT := ct356) (cuts := cu356) ⟨⟨ok331, trivial⟩, trivial⟩ ke356 (fun cu h => ⟨rfl, aLL_s ku356 cu h⟩) rfl
/-! HookSwingsModel.landed(II)I -/
def kt357 : KT := ([.inl (.inr (.inr (some 76))), .inr (false, (-2147483648), 2147483647), .inr (false, (-2147483648), 2147483647)], some (.inr (false, (-2), 9999)), [], [], [(77, 16, .inr (false, 0, 9999))], [(77, 16, .inr (false, 0, 9999))], [], 3)
def ct357 : CTB := []
def cu357 : List CU := []
theorem ke357 : chkE JB ct357 cu357 kt357 2 315 = true := by decide +kernel
theorem ok357 {β : Nat} : KOK JB (W0 β) 315 kt357 := KOK_of W0_f (CT := ct357) (cuts := cu357) trivial ke357 (fun cu h => by cases h) rfl
/-! HookSwingsModel.hour(I)I -/
def kt358 : KT := ([.inl (.inr (.inr (some 76))), .inr (false, (-2147483648), 2147483647)], some (.inr (false, (-2147483648), 2147483647)), [], [], [(77, 16, .inr (false, 0, 9999))], [(77, 16, .inr (false, 0, 9999))], [], 3)
def ct358 : CTB := []
def cu358 : List CU := [(17, [some (.inl (.inr (.inr (some 76)))), some (.inr (false, (1, 9999, 1, none))), some (.inr (false, ((-2147483648), 2147483647, 1, none))), some (.inr (false, (0, 20, 1, none)))], [(77, 16, .inl (0, 9999, 1, none))], .inr (3, true, 20), .inl 0, .inl 0)]
theorem ke358 : chkE JB ct358 cu358 kt358 2 316 = true := by decide +kernel
theorem ku358 : aLL cu358 (chkU JB ct358 cu358 kt358 2 316) = true := by decide +kernel
theorem ok358 {β : Nat} : KOK JB (W0 β) 316 kt358 := KOK_of W0_f (CT := ct358) (cuts := cu358) trivial ke358 (fun cu h => ⟨rfl, aLL_s ku358 cu h⟩) rfl
/-! HookSwingsModel.mean(Z)I -/
def kt359 : KT := ([.inl (.inr (.inr (some 76))), .inr (false, 0, 1)], some (.inr (false, (-2147483648), 2147483647)), [], [], [(77, 16, .inr (false, 0, 9999))], [(77, 16, .inr (false, 0, 9999))], [], 4)
def ct359 : CTB := [(311, [kt331])]
def cu359 : List CU := []
theorem ke359 : chkE JB ct359 cu359 kt359 3 317 = true := by decide +kernel
theorem ok359 {β : Nat} : KOK JB (W0 β) 317 kt359 := KOK_of W0_f (CT := ct359) (cuts := cu359) ⟨⟨ok331, trivial⟩, trivial⟩ ke359 (fun cu h => by cases h) rfl
/-! HookSwingsModel.copy([I[I)V -/
def kt360 : KT := ([.inl (.inr (.inr (some 77))), .inl (.inr (.inr (some 78)))], none, [(78, 0, 9834)], [78], [(77, 16, .inr (false, 0, 9999))], [], [], 3)
theorem ok360 {β : Nat} : KOK JB (W0 β) 181 kt360 := sorry
/-! HookSwingsModel.image()I -/
def kt361 : KT := ([.inl (.inr (.inr (some 76)))], some (.inr (false, 0, 9999)), [(78, 0, 9834)], [78], [(77, 16, .inr (false, 0, 9999))], [(77, 16, .inr (false, 0, 9999))], [], 4)
def ct361 : CTB := [(181, [kt360])]
def cu361 : List CU := []
theorem ke361 : chkE JB ct361 cu361 kt361 3 318 = true := by decide +kernel
theorem ok361 {β : Nat} : KOK JB (W0 β) 318 kt361 := KOK_of W0_f (CT := ct361) (cuts := cu361) ⟨⟨ok360, trivial⟩, trivial⟩ ke361 (fun cu h => by cases h) rfl
/-! HookSwingsModel.copy([I[I)V -/
def kt362 : KT := ([.inl (.inr (.inr (some 78))), .inl (.inr (.inr (some 77)))], none, [(77, 0, 9834)], [77], [], [(77, 16, .inr (false, 0, 9999))], [], 3)
theorem ok362 {β : Nat} : KOK JB (W0 β) 181 kt362 := sorry
/-! HookSwingsModel.back()I -/
def kt363 : KT := ([.inl (.inr (.inr (some 76)))], some (.inr (false, 0, 9999)), [(77, 0, 9834)], [77], [(77, 16, .inr (false, 0, 9999))], [(77, 16, .inr (false, 0, 9999))], [], 4)
def ct363 : CTB := [(181, [kt362])]
def cu363 : List CU := []
theorem ke363 : chkE JB ct363 cu363 kt363 3 319 = true := by decide +kernel
theorem ok363 {β : Nat} : KOK JB (W0 β) 319 kt363 := KOK_of W0_f (CT := ct363) (cuts := cu363) ⟨⟨ok362, trivial⟩, trivial⟩ ke363 (fun cu h => by cases h) rfl
/-! HookSwingsModel.about(I)I -/
def kt364 : KT := ([.inl (.inr (.inr (some 76))), .inr (false, (-2147483648), 2147483647)], some (.inr (false, (-2147483648), 2147483647)), [], [], [(77, 16, .inr (false, 0, 9999))], [(77, 16, .inr (false, 0, 9999))], [], 2)
def ct364 : CTB := []
def cu364 : List CU := []
theorem ke364 : chkE JB ct364 cu364 kt364 1 320 = true := by decide +kernel
theorem ok364 {β : Nat} : KOK JB (W0 β) 320 kt364 := KOK_of W0_f (CT := ct364) (cuts := cu364) trivial ke364 (fun cu h => by cases h) rfl
