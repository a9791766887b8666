/-! HookSwingsModel.order(IIIII)I -/
def kt250 : KT := ([.inl (.inr (.inr (some 76))), .inr (false, (-2147483648), 2147483647), .inr (false, (-2147483648), 2147483647), .inr (false, (-2147483648), 2147483647), .inr (false, (-2147483648), 2147483647), .inr (false, (-2147483648), 2147483647)], some (.inr (false, (-1), 7)), [(77, 0, 0), (77, 20, 67)], [77], [(77, 16, .inr (false, 0, 9999))], [(77, 16, .inr (false, 0, 9999))], [], 2)
def ct250 : CTB := []
def cu250 : List CU := []
theorem ke250 : chkE JB ct250 cu250 kt250 1 189 = true := by decide +kernel
theorem ok250 : KOK JB 189 kt250 := KOK_of (CT := ct250) (cuts := cu250) trivial ke250 (fun cu h => by cases h) rfl
/-! HookSwingsModel.near(I)Z -/
def kt251 : KT := ([.inl (.inr (.inr (some 76))), .inr (false, (-2147483648), 2147483647)], some (.inr (false, 0, 1)), [(77, 1, 1)], [77], [(77, 16, .inr (false, 0, 9999))], [(77, 16, .inr (false, 0, 9999))], [], 2)
def ct251 : CTB := []
def cu251 : List CU := []
theorem ke251 : chkE JB ct251 cu251 kt251 1 190 = true := by decide +kernel
theorem ok251 : KOK JB 190 kt251 := KOK_of (CT := ct251) (cuts := cu251) trivial ke251 (fun cu h => by cases h) rfl
/-! HookSwingsModel.feed(IIIII)I -/
def kt252 : KT := ([.inl (.inr (.inr (some 76))), .inr (false, (-2147483648), 2147483647), .inr (false, (-2147483648), 2147483647), .inr (false, (-2147483648), 2147483647), .inr (false, (-2147483648), 2147483647), .inr (false, (-2147483648), 2147483647)], some (.inr (false, (-1), 300)), [(76, 4, 4), (80, 0, 300)], [76, 80], [(77, 16, .inr (false, 0, 9999))], [(77, 16, .inr (false, 0, 9999))], [], 2)
def ct252 : CTB := []
def cu252 : List CU := []
theorem ke252 : chkE JB ct252 cu252 kt252 1 192 = true := by decide +kernel
theorem ok252 : KOK JB 192 kt252 := KOK_of (CT := ct252) (cuts := cu252) trivial ke252 (fun cu h => by cases h) rfl
/-! HookSwingsModel.end(I)I -/
def kt253 : KT := ([.inl (.inr (.inr (some 76))), .inr (false, (-2147483648), 2147483647)], some (.inr (false, (-1), 300)), [(76, 4, 4)], [76], [(77, 16, .inr (false, 0, 9999))], [(77, 16, .inr (false, 0, 9999))], [], 2)
def ct253 : CTB := []
def cu253 : List CU := []
theorem ke253 : chkE JB ct253 cu253 kt253 1 193 = true := by decide +kernel
theorem ok253 : KOK JB 193 kt253 := KOK_of (CT := ct253) (cuts := cu253) trivial ke253 (fun cu h => by cases h) rfl
/-! HookSwingsModel.readText()I -/
def kt254 : KT := ([.inl (.inr (.inr (some 76)))], some (.inr (false, 0, 6)), [(76, 5, 19), (79, 0, 3012), (81, 0, 160)], [76, 79, 81], [], [], [], 20)
theorem ok254 : KOK JB 231 kt254 := sorry
/-! HookSwingsModel.text()I -/
def kt255 : KT := ([.inl (.inr (.inr (some 76)))], some (.inr (false, (-1), 3)), [(76, 4, 19), (77, 3, 3), (79, 0, 3012), (81, 0, 160)], [76, 77, 79, 81], [(77, 16, .inr (false, 0, 9999))], [(77, 16, .inr (false, 0, 9999))], [], 21)
def ct255 : CTB := [(231, [kt254])]
def cu255 : List CU := []
theorem ke255 : chkE JB ct255 cu255 kt255 20 232 = true := by decide +kernel
theorem ok255 : KOK JB 232 kt255 := KOK_of (CT := ct255) (cuts := cu255) ⟨⟨ok254, trivial⟩, trivial⟩ ke255 (fun cu h => by cases h) rfl
/-! HookSwingsModel.fault(I)I -/
def kt256 : KT := ([.inl (.inr (.inr (some 76))), .inr (false, (-2147483648), 2147483647)], some (.inr (false, (-1), 6)), [], [], [(77, 16, .inr (false, 0, 9999))], [(77, 16, .inr (false, 0, 9999))], [], 1)
def ct256 : CTB := []
def cu256 : List CU := []
theorem ke256 : chkE JB ct256 cu256 kt256 0 233 = true := by decide +kernel
theorem ok256 : KOK JB 233 kt256 := KOK_of (CT := ct256) (cuts := cu256) trivial ke256 (fun cu h => by cases h) rfl
/-! HookSwingsModel.by(I)Z -/
def kt257 : KT := ([.inl (.inr (.inr (some 76))), .inr (false, (-2147483648), 2147483647)], some (.inr (false, 0, 1)), [(77, 4, 4)], [77], [(77, 16, .inr (false, 0, 9999))], [(77, 16, .inr (false, 0, 9999))], [], 2)
def ct257 : CTB := []
def cu257 : List CU := []
theorem ke257 : chkE JB ct257 cu257 kt257 1 234 = true := by decide +kernel
theorem ok257 : KOK JB 234 kt257 := KOK_of (CT := ct257) (cuts := cu257) trivial ke257 (fun cu h => by cases h) rfl
/-! HookSwingsModel.undo()I -/
def kt258 : KT := ([.inl (.inr (.inr (some 76)))], some (.inr (false, (-1), 29)), [(77, 2, 2), (77, 5, 5), (77, 7, 17), (77, 20, 67)], [77], [(77, 16, .inr (false, 0, 9999))], [(77, 16, .inr (false, 0, 9999))], [], 4)
theorem ok258 : KOK JB 255 kt258 := sorry
/-! HookSwingsModel.cut(III)I -/
def kt259 : KT := ([.inr (false, (-2147483648), 2147483647), .inr (false, (-2147483648), 2147483647), .inr (false, (-2147483648), 2147483647)], some (.inr (false, (-2147483648), 2147483647)), [], [], [], [], [], 1)
def ct259 : CTB := []
def cu259 : List CU := []
theorem ke259 : chkE JB ct259 cu259 kt259 0 183 = true := by decide +kernel
theorem ok259 : KOK JB 183 kt259 := KOK_of (CT := ct259) (cuts := cu259) trivial ke259 (fun cu h => by cases h) rfl
/-! HookSwingsModel.clauseOf(II)I -/
def kt260 : KT := ([.inl (.inr (.inr (some 76))), .inr (false, (-1), 3), .inr (false, 0, 4)], some (.inr (false, (-1), (-1))), [], [], [], [], [], 1)
def ct260 : CTB := []
def cu260 : List CU := [(2, [some (.inl (.inr (.inr (some 76)))), some (.inr (false, ((-1), 3, 1, none))), some (.inr (false, (0, 4, 1, none))), some (.inl (.inl 0))], [], .inl 0, .inl 0, .inl 0)]
theorem ke260 : chkE JB ct260 cu260 kt260 0 241 = true := by decide +kernel
theorem ku260 : aLL cu260 (chkU JB ct260 cu260 kt260 0 241) = true := by decide +kernel
theorem ok260 : KOK JB 241 kt260 := KOK_of (CT := ct260) (cuts := cu260) trivial ke260 (fun cu h => ⟨rfl, aLL_s ku260 cu h⟩) rfl
/-! HookSwingsModel.says(IIII)I -/
def kt261 : KT := ([.inl (.inr (.inr (some 76))), .inr (false, 0, 4), .inr (false, (-2147483648), 2147483647), .inr (false, (-99), 1), .inr (false, 9, 99)], some (.inr (false, (-2147483648), 2147483647)), [], [], [], [], [], 2)
def ct261 : CTB := [(241, [kt260])]
def cu261 : List CU := []
theorem ke261 : chkE JB ct261 cu261 kt261 1 242 = true := by decide +kernel
theorem ok261 : KOK JB 242 kt261 := KOK_of (CT := ct261) (cuts := cu261) ⟨⟨ok260, trivial⟩, trivial⟩ ke261 (fun cu h => by cases h) rfl
/-! HookSwingsModel.away()I -/
def kt262 : KT := ([.inl (.inr (.inr (some 76)))], some (.inr (false, (-2147483648), 2147483647)), [], [], [], [], [], 1)
def ct262 : CTB := []
def cu262 : List CU := []
theorem ke262 : chkE JB ct262 cu262 kt262 0 243 = true := by decide +kernel
theorem ok262 : KOK JB 243 kt262 := KOK_of (CT := ct262) (cuts := cu262) trivial ke262 (fun cu h => by cases h) rfl
/-! HookSwingsModel.nameNow()V -/
def kt263 : KT := ([.inl (.inr (.inr (some 76)))], none, [(76, 21, 22), (82, 0, 8)], [76, 82], [], [], [], 2)
def ct263 : CTB := [(243, [kt262])]
def cu263 : List CU := []
theorem ke263 : chkE JB ct263 cu263 kt263 1 244 = true := by decide +kernel
theorem ok263 : KOK JB 244 kt263 := KOK_of (CT := ct263) (cuts := cu263) ⟨⟨ok262, trivial⟩, trivial⟩ ke263 (fun cu h => by cases h) rfl
/-! HookSwingsModel.layPast(I)V -/
def kt264 : KT := ([.inl (.inr (.inr (some 76))), .inr (false, (-3), 1)], none, [(77, 602, 9817)], [77], [], [], [], 2)
def ct264 : CTB := [(243, [kt262])]
def cu264 : List CU := []
theorem ke264 : chkE JB ct264 cu264 kt264 1 250 = true := by decide +kernel
theorem ok264 : KOK JB 250 kt264 := KOK_of (CT := ct264) (cuts := cu264) ⟨⟨ok262, trivial⟩, trivial⟩ ke264 (fun cu h => by cases h) rfl
/-! HookSwingsModel.pass(I)V -/
def kt265 : KT := ([.inl (.inr (.inr (some 76))), .inr (false, (-3), 1)], none, [(76, 21, 22), (77, 2, 2), (77, 8, 11), (77, 14, 14), (77, 16, 16), (77, 602, 9817), (82, 0, 8)], [76, 77, 82], [(77, 16, .inr (false, 0, 10299))], [], [(77, 16, 1)], 3)
def ct265 : CTB := [(183, [kt259]), (242, [kt261]), (243, [kt262]), (244, [kt263]), (250, [kt264])]
def cu265 : List CU := []
theorem ke265 : chkE JB ct265 cu265 kt265 2 251 = true := by decide +kernel
theorem ok265 : KOK JB 251 kt265 := KOK_of (CT := ct265) (cuts := cu265) ⟨⟨ok259, trivial⟩, ⟨ok261, trivial⟩, ⟨ok262, trivial⟩, ⟨ok263, trivial⟩, ⟨ok264, trivial⟩, trivial⟩ ke265 (fun cu h => by cases h) rfl
/-! HookSwingsModel.keep()V -/
def kt266 : KT := ([.inl (.inr (.inr (some 76)))], none, [(77, 5, 5), (77, 84, 473)], [77], [], [], [], 4)
theorem ok266 : KOK JB 254 kt266 := sorry
/-! HookSwingsModel.isTenth(I)Z -/
def kt267 : KT := ([.inl (.inr (.inr (some 76))), .inr (false, (-1), 1)], some (.inr (false, 0, 1)), [(76, 21, 22), (77, 2, 2), (77, 5, 5), (77, 8, 11), (77, 14, 14), (77, 16, 16), (77, 84, 473), (77, 602, 9817), (82, 0, 8)], [76, 77, 82], [(77, 16, .inr (false, 0, 9999))], [(77, 16, .inr (false, 0, 9999))], [], 5)
def ct267 : CTB := [(251, [kt265]), (254, [kt266])]
def cu267 : List CU := []
theorem ke267 : chkE JB ct267 cu267 kt267 4 256 = true := by decide +kernel
theorem ok267 : KOK JB 256 kt267 := KOK_of (CT := ct267) (cuts := cu267) ⟨⟨ok265, trivial⟩, ⟨ok266, trivial⟩, trivial⟩ ke267 (fun cu h => by cases h) rfl
/-! HookSwingsModel.move(I)I -/
def kt268 : KT := ([.inl (.inr (.inr (some 76))), .inr (false, (-2147483648), 2147483647)], some (.inr (false, (-2147483648), 2147483647)), [(76, 21, 22), (77, 2, 2), (77, 5, 5), (77, 8, 11), (77, 14, 14), (77, 16, 16), (77, 84, 473), (77, 602, 9817), (82, 0, 8)], [76, 77, 82], [(77, 16, .inr (false, 0, 9999))], [(77, 16, .inr (false, 0, 9999))], [], 6)
def ct268 : CTB := [(256, [kt267])]
def cu268 : List CU := []
theorem ke268 : chkE JB ct268 cu268 kt268 5 257 = true := by decide +kernel
theorem ok268 : KOK JB 257 kt268 := KOK_of (CT := ct268) (cuts := cu268) ⟨⟨ok267, trivial⟩, trivial⟩ ke268 (fun cu h => by cases h) rfl
/-! HookSwingsModel.commandBy(I)I -/
def kt269 : KT := ([.inl (.inr (.inr (some 76))), .inr (false, (-1), 3)], some (.inr (false, (-1), 1)), [], [], [], [], [], 2)
def ct269 : CTB := [(241, [kt260])]
def cu269 : List CU := []
theorem ke269 : chkE JB ct269 cu269 kt269 1 245 = true := by decide +kernel
theorem ok269 : KOK JB 245 kt269 := KOK_of (CT := ct269) (cuts := cu269) ⟨⟨ok260, trivial⟩, trivial⟩ ke269 (fun cu h => by cases h) rfl
/-! HookSwingsModel.commandNow(I)I -/
def kt270 : KT := ([.inl (.inr (.inr (some 76))), .inr (false, (-1), 3)], some (.inr (false, (-1), 1)), [(76, 21, 22), (82, 0, 8)], [76, 82], [], [], [], 3)
def ct270 : CTB := [(244, [kt263]), (245, [kt269])]
def cu270 : List CU := []
theorem ke270 : chkE JB ct270 cu270 kt270 2 253 = true := by decide +kernel
theorem ok270 : KOK JB 253 kt270 := KOK_of (CT := ct270) (cuts := cu270) ⟨⟨ok263, trivial⟩, ⟨ok269, trivial⟩, trivial⟩ ke270 (fun cu h => by cases h) rfl
/-! HookSwingsModel.areRun(I)Z -/
def kt271 : KT := ([.inl (.inr (.inr (some 76))), .inr (false, 1, 60)], some (.inr (false, 0, 1)), [(76, 21, 22), (77, 2, 2), (77, 5, 5), (77, 8, 11), (77, 14, 14), (77, 16, 16), (77, 84, 473), (77, 602, 9817), (82, 0, 8)], [76, 77, 82], [(77, 16, .inr (false, 0, 9999))], [(77, 16, .inr (false, 0, 9999))], [], 6)
def ct271 : CTB := [(253, [kt270]), (256, [kt267])]
def cu271 : List CU := [(2, [some (.inl (.inr (.inr (some 76)))), some (.inr (false, (1, 60, 1, none))), some (.inr (false, (0, 60, 1, none)))], [(77, 16, (0, 9999, 1, none))], .inr (2, true, 60), .inl 0, .inl 0)]
theorem ke271 : chkE JB ct271 cu271 kt271 5 258 = true := by decide +kernel
theorem ku271 : aLL cu271 (chkU JB ct271 cu271 kt271 5 258) = true := by decide +kernel
theorem ok271 : KOK JB 258 kt271 := KOK_of (CT := ct271) (cuts := cu271) ⟨⟨ok270, trivial⟩, ⟨ok267, trivial⟩, trivial⟩ ke271 (fun cu h => ⟨rfl, aLL_s ku271 cu h⟩) rfl
/-! HookSwingsModel.run(I)I -/
def kt272 : KT := ([.inl (.inr (.inr (some 76))), .inr (false, (-2147483648), 2147483647)], some (.inr (false, (-2147483648), 2147483647)), [(76, 21, 22), (77, 2, 2), (77, 5, 5), (77, 8, 11), (77, 14, 14), (77, 16, 16), (77, 84, 473), (77, 602, 9817), (82, 0, 8)], [76, 77, 82], [(77, 16, .inr (false, 0, 9999))], [(77, 16, .inr (false, 0, 9999))], [], 7)
def ct272 : CTB := [(258, [kt271])]
def cu272 : List CU := []
theorem ke272 : chkE JB ct272 cu272 kt272 6 259 = true := by decide +kernel
theorem ok272 : KOK JB 259 kt272 := KOK_of (CT := ct272) (cuts := cu272) ⟨⟨ok271, trivial⟩, trivial⟩ ke272 (fun cu h => by cases h) rfl
/-! HookSwingsModel.hoist(I)Z -/
def kt273 : KT := ([.inl (.inr (.inr (some 76))), .inr (false, (-2147483648), 2147483647)], some (.inr (false, 0, 1)), [(77, 5, 5), (77, 12, 12), (77, 84, 473)], [77], [(77, 16, .inr (false, 0, 9999))], [(77, 16, .inr (false, 0, 9999))], [], 5)
def ct273 : CTB := [(254, [kt266])]
def cu273 : List CU := []
theorem ke273 : chkE JB ct273 cu273 kt273 4 260 = true := by decide +kernel
theorem ok273 : KOK JB 260 kt273 := KOK_of (CT := ct273) (cuts := cu273) ⟨⟨ok266, trivial⟩, trivial⟩ ke273 (fun cu h => by cases h) rfl
/-! HookSwingsModel.aim(I)Z -/
def kt274 : KT := ([.inl (.inr (.inr (some 76))), .inr (false, (-2147483648), 2147483647)], some (.inr (false, 0, 1)), [(77, 5, 5), (77, 15, 15), (77, 84, 473)], [77], [(77, 16, .inr (false, 0, 9999))], [(77, 16, .inr (false, 0, 9999))], [], 5)
def ct274 : CTB := [(254, [kt266])]
def cu274 : List CU := []
theorem ke274 : chkE JB ct274 cu274 kt274 4 261 = true := by decide +kernel
theorem ok274 : KOK JB 261 kt274 := KOK_of (CT := ct274) (cuts := cu274) ⟨⟨ok266, trivial⟩, trivial⟩ ke274 (fun cu h => by cases h) rfl
/-! HookSwingsModel.hook(I)Z -/
def kt275 : KT := ([.inl (.inr (.inr (some 76))), .inr (false, (-2147483648), 2147483647)], some (.inr (false, 0, 1)), [(77, 5, 5), (77, 13, 13), (77, 15, 15), (77, 17, 17), (77, 84, 473)], [77], [(77, 16, .inr (false, 0, 9999))], [(77, 16, .inr (false, 0, 9999))], [], 5)
def ct275 : CTB := [(254, [kt266])]
def cu275 : List CU := []
theorem ke275 : chkE JB ct275 cu275 kt275 4 262 = true := by decide +kernel
theorem ok275 : KOK JB 262 kt275 := KOK_of (CT := ct275) (cuts := cu275) ⟨⟨ok266, trivial⟩, trivial⟩ ke275 (fun cu h => by cases h) rfl
/-! HookSwingsModel.land()I -/
def kt276 : KT := ([.inl (.inr (.inr (some 76)))], some (.inr (false, (-1), 7)), [(77, 5, 5), (77, 7, 7), (77, 13, 13), (77, 17, 17), (77, 20, 67), (77, 84, 601)], [77], [(77, 16, .inr (false, 0, 9999))], [(77, 16, .inr (false, 0, 9999))], [], 6)
theorem ok276 : KOK JB 263 kt276 := sorry
/-! HookSwingsModel.played(I)I -/
def kt277 : KT := ([.inl (.inr (.inr (some 76))), .inr (false, (-2147483648), 2147483647)], some (.inr (false, (-2), (-1))), [], [], [(77, 16, .inr (false, 0, 9999))], [(77, 16, .inr (false, 0, 9999))], [], 2)
def ct277 : CTB := []
def cu277 : List CU := [(21, [some (.inl (.inr (.inr (some 76)))), some (.inr (false, (0, 3, 1, none))), some (.inl (.inl 0))], [(77, 16, (0, 9999, 1, none))], .inl 0, .inl 0, .inl 0)]
theorem ke277 : chkE JB ct277 cu277 kt277 1 265 = true := by decide +kernel
theorem ku277 : aLL cu277 (chkU JB ct277 cu277 kt277 1 265) = true := by decide +kernel
theorem ok277 : KOK JB 265 kt277 := KOK_of (CT := ct277) (cuts := cu277) trivial ke277 (fun cu h => ⟨rfl, aLL_s ku277 cu h⟩) rfl
/-! HookSwingsModel.sizeOf(I)I -/
def kt318 : KT := ([.inr (false, (-2147483648), 2147483647)], some (.inr (false, (-2147483648), 2147483647)), [], [], [], [], [], 1)
def ct318 : CTB := []
def cu318 : List CU := []
theorem ke318 : chkE JB ct318 cu318 kt318 0 184 = true := by decide +kernel
theorem ok318 : KOK JB 184 kt318 := KOK_of (CT := ct318) (cuts := cu318) trivial ke318 (fun cu h => by cases h) rfl
/-! HookSwingsModel.hangsStill()Z -/
def kt319 : KT := ([.inl (.inr (.inr (some 76)))], some (.inr (false, 0, 1)), [], [], [], [], [], 2)
def ct319 : CTB := [(184, [kt318]), (243, [kt262])]
def cu319 : List CU := []
theorem ke319 : chkE JB ct319 cu319 kt319 1 252 = true := by decide +kernel
theorem ok319 : KOK JB 252 kt319 := KOK_of (CT := ct319) (cuts := cu319) ⟨⟨ok318, trivial⟩, ⟨ok262, trivial⟩, trivial⟩ ke319 (fun cu h => by cases h) rfl
/-! HookSwingsModel.jib(I)I -/
def kt320 : KT := ([.inl (.inr (.inr (some 76))), .inr (false, (-2147483648), 2147483647)], some (.inr (false, (-2147483648), 2147483647)), [(76, 21, 22), (82, 0, 8)], [76, 82], [(77, 16, .inr (false, 0, 9999))], [(77, 16, .inr (false, 0, 9999))], [], 4)
def ct320 : CTB := [(243, [kt262]), (252, [kt319]), (253, [kt270])]
def cu320 : List CU := []
theorem ke320 : chkE JB ct320 cu320 kt320 3 267 = true := by decide +kernel
theorem ok320 : KOK JB 267 kt320 := KOK_of (CT := ct320) (cuts := cu320) ⟨⟨ok262, trivial⟩, ⟨ok319, trivial⟩, ⟨ok270, trivial⟩, trivial⟩ ke320 (fun cu h => by cases h) rfl
/-! HookSwingsModel.ofOrder(II)I -/
def kt321 : KT := ([.inl (.inr (.inr (some 76))), .inr (false, (-2147483648), 2147483647), .inr (false, (-2147483648), 2147483647)], some (.inr (false, (-2147483648), 2147483647)), [(82, 0, 8)], [82], [(77, 16, .inr (false, 0, 9999))], [(77, 16, .inr (false, 0, 9999))], [], 4)
def ct321 : CTB := [(242, [kt261])]
def cu321 : List CU := []
theorem ke321 : chkE JB ct321 cu321 kt321 3 268 = true := by decide +kernel
theorem ok321 : KOK JB 268 kt321 := KOK_of (CT := ct321) (cuts := cu321) ⟨⟨ok261, trivial⟩, trivial⟩ ke321 (fun cu h => by cases h) rfl
/-! HookSwingsModel.ago(II)I -/
def kt322 : KT := ([.inl (.inr (.inr (some 76))), .inr (false, (-2147483648), 2147483647), .inr (false, (-2147483648), 2147483647)], some (.inr (false, (-2147483648), 2147483647)), [], [], [(77, 16, .inr (false, 0, 9999))], [(77, 16, .inr (false, 0, 9999))], [], 2)
def ct322 : CTB := []
def cu322 : List CU := []
theorem ke322 : chkE JB ct322 cu322 kt322 1 270 = true := by decide +kernel
theorem ok322 : KOK JB 270 kt322 := KOK_of (CT := ct322) (cuts := cu322) trivial ke322 (fun cu h => by cases h) rfl
/-! HookSwingsModel.foretold(IZI)I -/
def kt323 : KT := ([.inl (.inr (.inr (some 76))), .inr (false, (-2147483648), 2147483647), .inr (false, 0, 1), .inr (false, (-2147483648), 2147483647)], some (.inr (false, (-2147483648), 2147483647)), [(76, 21, 22), (76, 25, 25), (77, 0, 17), (77, 602, 9817), (82, 0, 8), (85, 0, 17)], [76, 77, 82, 85], [(77, 16, .inr (false, 0, 9999))], [(77, 16, .inr (false, 0, 9999))], [], 4)
def ct323 : CTB := [(184, [kt318]), (243, [kt262]), (251, [kt265]), (252, [kt319]), (253, [kt270])]
def cu323 : List CU := [(37, [some (.inl (.inr (.inr (some 76)))), some (.inr (false, (1, 200, 1, none))), some (.inr (false, (0, 1, 1, none))), some (.inr (false, (0, 3, 1, none))), some (.inr (false, ((-2147483648), 2147483647, 1, none))), some (.inr (false, ((-1), 200, 1, none))), some (.inr (false, (1, 201, 1, none)))], [(77, 16, (0, 10299, 1, some (5, 9998))), (85, 12, (1, 24, 1, none))], .inr (6, true, 201), .inl 0, .inl 0)]
theorem ke323 : chkE JB ct323 cu323 kt323 3 273 = true := by decide +kernel
theorem ku323 : aLL cu323 (chkU JB ct323 cu323 kt323 3 273) = true := by decide +kernel
theorem ok323 : KOK JB 273 kt323 := KOK_of (CT := ct323) (cuts := cu323) ⟨⟨ok318, trivial⟩, ⟨ok262, trivial⟩, ⟨ok265, trivial⟩, ⟨ok319, trivial⟩, ⟨ok270, trivial⟩, trivial⟩ ke323 (fun cu h => ⟨rfl, aLL_s ku323 cu h⟩) rfl
/-! HookSwingsModel.digitOf(III)I -/
def kt324 : KT := ([.inr (false, 0, 2147483647), .inr (false, 1, 7), .inr (false, 0, 7)], some (.inr (false, (-3), 1)), [], [], [], [], [], 1)
def ct324 : CTB := []
def cu324 : List CU := [(7, [some (.inr (false, (0, 2147483647, 1, none))), some (.inr (false, (1, 7, 1, none))), some (.inr (false, (0, 7, 1, none))), some (.inr (false, ((-2147483648), 2147483647, 1, none))), some (.inr (false, (0, 6, 1, none)))], [], .inr (4, false, 0), .inl 0, .inl 0)]
theorem ke324 : chkE JB ct324 cu324 kt324 0 274 = true := by decide +kernel
theorem ku324 : aLL cu324 (chkU JB ct324 cu324 kt324 0 274) = true := by decide +kernel
theorem ok324 : KOK JB 274 kt324 := KOK_of (CT := ct324) (cuts := cu324) trivial ke324 (fun cu h => ⟨rfl, aLL_s ku324 cu h⟩) rfl
/-! HookSwingsModel.comesStill(II)Z -/
def kt325 : KT := ([.inl (.inr (.inr (some 76))), .inr (false, 0, 2147483647), .inr (false, 0, 7)], some (.inr (false, 0, 1)), [(76, 21, 22), (76, 25, 25), (77, 0, 17), (77, 602, 9817), (82, 0, 8), (85, 0, 17)], [76, 77, 82, 85], [(77, 16, .inr (false, 0, 9999))], [(77, 16, .inr (false, 0, 9999))], [], 4)
def ct325 : CTB := [(251, [kt265]), (252, [kt319]), (274, [kt324])]
def cu325 : List CU := [(6, [some (.inl (.inr (.inr (some 76)))), some (.inr (false, (0, 2147483647, 1, none))), some (.inr (false, (0, 7, 1, none))), some (.inr (false, (0, 7, 1, none)))], [(77, 16, (0, 10299, 1, some (2, 9999))), (85, 12, (1, 24, 1, none))], .inr (3, true, 7), .inl 0, .inl 0)]
theorem ke325 : chkE JB ct325 cu325 kt325 3 275 = true := by decide +kernel
theorem ku325 : aLL cu325 (chkU JB ct325 cu325 kt325 3 275) = true := by decide +kernel
theorem ok325 : KOK JB 275 kt325 := KOK_of (CT := ct325) (cuts := cu325) ⟨⟨ok265, trivial⟩, ⟨ok319, trivial⟩, ⟨ok324, trivial⟩, trivial⟩ ke325 (fun cu h => ⟨rfl, aLL_s ku325 cu h⟩) rfl
/-! HookSwingsModel.soonest(I)I -/
def kt326 : KT := ([.inl (.inr (.inr (some 76))), .inr (false, (-2147483648), 2147483647)], some (.inr (false, (-3), 7)), [(76, 21, 22), (76, 25, 25), (77, 0, 17), (77, 602, 9817), (82, 0, 8), (85, 0, 17)], [76, 77, 82, 85], [(77, 16, .inr (false, 0, 9999))], [(77, 16, .inr (false, 0, 9999))], [], 5)
def ct326 : CTB := [(274, [kt324]), (275, [kt325])]
def cu326 : List CU := [(12, [some (.inl (.inr (.inr (some 76)))), some (.inr (false, ((-1), 2147483647, 1, none))), some (.inr (false, ((-2147483648), 2147483647, 1, none))), some (.inr (false, (0, 8, 1, none))), none], [(77, 16, (0, 9999, 1, none))], .inr (3, true, 8), .inl 1, .inl 0),
  (21, [some (.inl (.inr (.inr (some 76)))), some (.inr (false, ((-1), 2147483647, 1, none))), some (.inr (false, ((-2147483648), 2147483647, 1, none))), some (.inr (false, (0, 7, 1, none))), some (.inr (false, (0, 2147483647, 1, none)))], [(77, 16, (0, 9999, 1, none))], .inr (3, true, 8), .inl 0, .inr (4, true, 2147483647))]
theorem ke326 : chkE JB ct326 cu326 kt326 4 276 = true := by decide +kernel
theorem ku326 : aLL cu326 (chkU JB ct326 cu326 kt326 4 276) = true := by decide +kernel
theorem ok326 : KOK JB 276 kt326 := KOK_of (CT := ct326) (cuts := cu326) ⟨⟨ok324, trivial⟩, ⟨ok325, trivial⟩, trivial⟩ ke326 (fun cu h => ⟨rfl, aLL_s ku326 cu h⟩) rfl
/-! HookSwingsModel.many(II)I -/
def kt327 : KT := ([.inr (false, 0, 2147483647), .inr (false, 0, 7)], some (.inr (false, (-2147483648), 2147483647)), [], [], [], [], [], 2)
def ct327 : CTB := [(274, [kt324])]
def cu327 : List CU := [(4, [some (.inr (false, (0, 2147483647, 1, none))), some (.inr (false, (0, 7, 1, none))), some (.inr (false, ((-2147483648), 2147483647, 1, none))), some (.inr (false, (0, 7, 1, none)))], [], .inr (3, true, 7), .inl 0, .inl 0)]
theorem ke327 : chkE JB ct327 cu327 kt327 1 277 = true := by decide +kernel
theorem ku327 : aLL cu327 (chkU JB ct327 cu327 kt327 1 277) = true := by decide +kernel
theorem ok327 : KOK JB 277 kt327 := KOK_of (CT := ct327) (cuts := cu327) ⟨⟨ok324, trivial⟩, trivial⟩ ke327 (fun cu h => ⟨rfl, aLL_s ku327 cu h⟩) rfl
/-! HookSwingsModel.fewest(I)I -/
def kt328 : KT := ([.inl (.inr (.inr (some 76))), .inr (false, (-2147483648), 2147483647)], some (.inr (false, (-2147483648), 2147483647)), [(76, 21, 22), (76, 25, 25), (77, 0, 17), (77, 602, 9817), (82, 0, 8), (85, 0, 17)], [76, 77, 82, 85], [(77, 16, .inr (false, 0, 9999))], [(77, 16, .inr (false, 0, 9999))], [], 5)
def ct328 : CTB := [(274, [kt324]), (275, [kt325]), (277, [kt327])]
def cu328 : List CU := [(23, [some (.inl (.inr (.inr (some 76)))), some (.inr (false, ((-1), 2147483647, 1, none))), some (.inr (false, ((-2147483648), 2147483647, 1, none))), some (.inr (false, (0, 2147483647, 1, none))), some (.inr (false, (0, 7, 1, none))), some (.inr (false, ((-2147483648), 2147483647, 1, none))), some (.inr (false, (0, 8, 1, none))), none], [(77, 16, (0, 9999, 1, none))], .inr (6, true, 8), .inl 1, .inl 0),
  (33, [some (.inl (.inr (.inr (some 76)))), some (.inr (false, ((-1), 2147483647, 1, none))), some (.inr (false, ((-2147483648), 2147483647, 1, none))), some (.inr (false, (0, 2147483647, 1, none))), some (.inr (false, (0, 7, 1, none))), some (.inr (false, ((-2147483648), 2147483647, 1, none))), some (.inr (false, (0, 7, 1, none))), some (.inr (false, (0, 2147483647, 1, none)))], [(77, 16, (0, 9999, 1, none))], .inr (6, true, 8), .inl 0, .inr (7, true, 2147483647))]
theorem ke328 : chkE JB ct328 cu328 kt328 4 278 = true := by decide +kernel
theorem ku328 : aLL cu328 (chkU JB ct328 cu328 kt328 4 278) = true := by decide +kernel
theorem ok328 : KOK JB 278 kt328 := KOK_of (CT := ct328) (cuts := cu328) ⟨⟨ok324, trivial⟩, ⟨ok325, trivial⟩, ⟨ok327, trivial⟩, trivial⟩ ke328 (fun cu h => ⟨rfl, aLL_s ku328 cu h⟩) rfl
/-! HookSwingsModel.toAndFro(I)I -/
def kt329 : KT := ([.inl (.inr (.inr (some 76))), .inr (false, (-2147483648), 2147483647)], some (.inr (false, (-200), 201)), [(76, 21, 22), (76, 25, 25), (77, 0, 17), (77, 602, 9817), (82, 0, 8), (85, 0, 17)], [76, 77, 82, 85], [(77, 16, .inr (false, 0, 9999))], [(77, 16, .inr (false, 0, 9999))], [], 4)
def ct329 : CTB := [(243, [kt262]), (251, [kt265])]
def cu329 : List CU := [(24, [some (.inl (.inr (.inr (some 76)))), some (.inr (false, (2, 200, 1, none))), some (.inr (false, ((-1), 200, 1, none))), some (.inr (false, ((-1), 200, 1, none))), some (.inr (false, (1, 201, 1, none))), none], [(77, 16, (0, 10299, 1, some (3, 9998))), (85, 12, (1, 24, 1, none))], .inr (4, true, 201), .inl 0, .inl 0)]
theorem ke329 : chkE JB ct329 cu329 kt329 3 279 = true := by decide +kernel
theorem ku329 : aLL cu329 (chkU JB ct329 cu329 kt329 3 279) = true := by decide +kernel
theorem ok329 : KOK JB 279 kt329 := KOK_of (CT := ct329) (cuts := cu329) ⟨⟨ok262, trivial⟩, ⟨ok265, trivial⟩, trivial⟩ ke329 (fun cu h => ⟨rfl, aLL_s ku329 cu h⟩) rfl
/-! HookSwingsModel.common(JJ)J -/
def kt330 : KT := ([.inr (true, (-9223372036854775808), 9223372036854775807), .inr (true, (-9223372036854775808), 9223372036854775807)], some (.inr (true, 1, 9223372036854775807)), [], [], [], [], [], 3)
theorem ok330 : KOK JB 311 kt330 := sorry
/-! HookSwingsModel.calm(IIZ)J -/
def kt331 : KT := ([.inl (.inr (.inr (some 76))), .inr (false, (-2147483648), 2147483647), .inr (false, (-2147483648), 2147483647), .inr (false, 0, 1)], some (.inr (true, (-9223372036854775808), 9223372036854775807)), [], [], [(77, 16, .inr (false, 0, 9999))], [(77, 16, .inr (false, 0, 9999))], [], 4)
def ct331 : CTB := [(311, [kt330])]
def cu331 : List CU := [(33, [some (.inl (.inr (.inr (some 76)))), some (.inr (false, (1, 9, 1, none))), some (.inr (false, (0, 9, 1, none))), some (.inr (false, (0, 1, 1, none))), some (.inr (true, ((-9223372036854775808), 9223372036854775807, 1, none))), none, some (.inr (true, ((-9223372036854775808), 9223372036854775807, 1, none))), none, some (.inr (false, (0, 9, 1, none)))], [(77, 16, (0, 9999, 1, none))], .inr (8, true, 9), .inl 0, .inl 0)]
theorem ke331 : chkE JB ct331 cu331 kt331 3 280 = true := by decide +kernel
theorem ku331 : aLL cu331 (chkU JB ct331 cu331 kt331 3 280) = true := by decide +kernel
theorem ok331 : KOK JB 280 kt331 := KOK_of (CT := ct331) (cuts := cu331) ⟨⟨ok330, trivial⟩, trivial⟩ ke331 (fun cu h => ⟨rfl, aLL_s ku331 cu h⟩) rfl
/-! HookSwingsModel.halves(II)V -/
def kt332 : KT := ([.inl (.inr (.inr (some 76))), .inr (false, 0, 3), .inr (false, 1, 200)], none, [(76, 21, 22), (76, 25, 25), (76, 27, 28), (77, 0, 17), (77, 602, 9817), (82, 0, 8), (85, 0, 17)], [76, 77, 82, 85], [(77, 16, .inr (false, 0, 9999))], [(77, 16, .inr (false, 0, 9999))], [], 4)
def ct332 : CTB := [(184, [kt318]), (243, [kt262]), (251, [kt265]), (253, [kt270])]
def cu332 : List CU := [(16, [some (.inl (.inr (.inr (some 76)))), some (.inr (false, (0, 3, 1, none))), some (.inr (false, (1, 200, 1, none))), some (.inr (false, (1, 201, 1, none))), none], [(77, 16, (0, 10299, 1, some (2, 9998))), (85, 12, (1, 24, 1, none))], .inr (3, true, 201), .inl 0, .inl 0)]
theorem ke332 : chkE JB ct332 cu332 kt332 3 281 = true := by decide +kernel
theorem ku332 : aLL cu332 (chkU JB ct332 cu332 kt332 3 281) = true := by decide +kernel
theorem ok332 : KOK JB 281 kt332 := KOK_of (CT := ct332) (cuts := cu332) ⟨⟨ok318, trivial⟩, ⟨ok262, trivial⟩, ⟨ok265, trivial⟩, ⟨ok270, trivial⟩, trivial⟩ ke332 (fun cu h => ⟨rfl, aLL_s ku332 cu h⟩) rfl
/-! HookSwingsModel.dies(II)I -/
def kt333 : KT := ([.inl (.inr (.inr (some 76))), .inr (false, (-2147483648), 2147483647), .inr (false, (-2147483648), 2147483647)], some (.inr (false, (-2), 1)), [(76, 21, 22), (76, 25, 25), (76, 27, 28), (77, 0, 17), (77, 602, 9817), (82, 0, 8), (85, 0, 17)], [76, 77, 82, 85], [(77, 16, .inr (false, 0, 9999))], [(77, 16, .inr (false, 0, 9999))], [], 5)
def ct333 : CTB := [(281, [kt332])]
def cu333 : List CU := []
theorem ke333 : chkE JB ct333 cu333 kt333 4 283 = true := by decide +kernel
theorem ok333 : KOK JB 283 kt333 := KOK_of (CT := ct333) (cuts := cu333) ⟨⟨ok332, trivial⟩, trivial⟩ ke333 (fun cu h => by cases h) rfl
/-! HookSwingsModel.calmest(I)I -/
def kt334 : KT := ([.inl (.inr (.inr (some 76))), .inr (false, (-2147483648), 2147483647)], some (.inr (false, (-1), 3)), [(76, 21, 22), (76, 25, 25), (76, 27, 28), (77, 0, 17), (77, 602, 9817), (82, 0, 8), (85, 0, 17)], [76, 77, 82, 85], [(77, 16, .inr (false, 0, 9999))], [(77, 16, .inr (false, 0, 9999))], [], 5)
def ct334 : CTB := [(281, [kt332])]
def cu334 : List CU := [(20, [some (.inl (.inr (.inr (some 76)))), some (.inr (false, (1, 200, 1, none))), some (.inr (false, ((-1), 3, 1, none))), some (.inr (false, (0, 2147483647, 1, none))), some (.inr (false, (0, 4, 1, none))), none], [(77, 16, (0, 9999, 1, none))], .inr (4, true, 4), .inl 0, .inl 0)]
theorem ke334 : chkE JB ct334 cu334 kt334 4 284 = true := by decide +kernel
theorem ku334 : aLL cu334 (chkU JB ct334 cu334 kt334 4 284) = true := by decide +kernel
theorem ok334 : KOK JB 284 kt334 := KOK_of (CT := ct334) (cuts := cu334) ⟨⟨ok332, trivial⟩, trivial⟩ ke334 (fun cu h => ⟨rfl, aLL_s ku334 cu h⟩) rfl
/-! HookSwingsModel.isHandOf(I)Z -/
def kt335 : KT := ([.inl (.inr (.inr (some 76))), .inr (false, 0, 3)], some (.inr (false, 0, 1)), [(76, 21, 22), (82, 0, 8)], [76, 82], [(77, 16, .inr (false, 0, 9999))], [(77, 16, .inr (false, 0, 9999))], [], 3)
def ct335 : CTB := [(245, [kt269])]
def cu335 : List CU := [(48, [some (.inl (.inr (.inr (some 76)))), some (.inr (false, (0, 3, 1, none))), some (.inr (false, (0, 10000, 1, none))), none], [(77, 16, (0, 9999, 1, none))], .inr (2, true, 10000), .inl 1, .inl 0),
  (61, [some (.inl (.inr (.inr (some 76)))), some (.inr (false, (0, 3, 1, none))), some (.inr (false, (0, 9999, 1, none))), some (.inr (false, (0, 7, 1, none)))], [(77, 16, (0, 9999, 1, none))], .inr (2, true, 10000), .inl 0, .inr (3, true, 5))]
theorem ke335 : chkE JB ct335 cu335 kt335 2 285 = true := by decide +kernel
theorem ku335 : aLL cu335 (chkU JB ct335 cu335 kt335 2 285) = true := by decide +kernel
theorem ok335 : KOK JB 285 kt335 := KOK_of (CT := ct335) (cuts := cu335) ⟨⟨ok269, trivial⟩, trivial⟩ ke335 (fun cu h => ⟨rfl, aLL_s ku335 cu h⟩) rfl
/-! HookSwingsModel.whoseHand()I -/
def kt336 : KT := ([.inl (.inr (.inr (some 76)))], some (.inr (false, 0, 255)), [(76, 21, 22), (82, 0, 8)], [76, 82], [(77, 16, .inr (false, 0, 9999))], [(77, 16, .inr (false, 0, 9999))], [], 4)
def ct336 : CTB := [(285, [kt335])]
def cu336 : List CU := [(4, [some (.inl (.inr (.inr (some 76)))), some (.inr (false, (0, 255, 1, none))), some (.inr (false, (0, 4, 1, none)))], [(77, 16, (0, 9999, 1, none))], .inr (2, true, 4), .inl 0, .inl 0)]
theorem ke336 : chkE JB ct336 cu336 kt336 3 286 = true := by decide +kernel
theorem ku336 : aLL cu336 (chkU JB ct336 cu336 kt336 3 286) = true := by decide +kernel
theorem ok336 : KOK JB 286 kt336 := KOK_of (CT := ct336) (cuts := cu336) ⟨⟨ok335, trivial⟩, trivial⟩ ke336 (fun cu h => ⟨rfl, aLL_s ku336 cu h⟩) rfl
/-! HookSwingsModel.stillBy(II)I -/
def kt337 : KT := ([.inl (.inr (.inr (some 76))), .inr (false, (-1), 3), .inr (false, 0, 60)], some (.inr (false, 1, 200)), [(76, 21, 22), (77, 2, 2), (77, 8, 11), (77, 14, 14), (77, 16, 16), (77, 602, 9817), (82, 0, 8)], [76, 77, 82], [(77, 16, .inr (false, 0, 9999))], [], [], 4)
def ct337 : CTB := [(251, [kt265]), (252, [kt319]), (253, [kt270])]
def cu337 : List CU := [(2, [some (.inl (.inr (.inr (some 76)))), some (.inr (false, ((-1), 3, 1, none))), some (.inr (false, (0, 60, 1, none))), some (.inr (false, (1, 201, 1, none)))], [(77, 16, (0, 10299, 1, some (2, 9998)))], .inr (3, true, 201), .inl 0, .inl 0)]
theorem ke337 : chkE JB ct337 cu337 kt337 3 288 = true := by decide +kernel
theorem ku337 : aLL cu337 (chkU JB ct337 cu337 kt337 3 288) = true := by decide +kernel
theorem ok337 : KOK JB 288 kt337 := KOK_of (CT := ct337) (cuts := cu337) ⟨⟨ok265, trivial⟩, ⟨ok319, trivial⟩, ⟨ok270, trivial⟩, trivial⟩ ke337 (fun cu h => ⟨rfl, aLL_s ku337 cu h⟩) rfl
/-! HookSwingsModel.keepPast()V -/
def kt338 : KT := ([.inl (.inr (.inr (some 76)))], none, [(86, 0, 1200)], [86], [], [], [], 1)
def ct338 : CTB := []
def cu338 : List CU := [(2, [some (.inl (.inr (.inr (some 76)))), some (.inr (false, (0, 1200, 1, none)))], [], .inr (1, true, 1200), .inl 0, .inl 0)]
theorem ke338 : chkE JB ct338 cu338 kt338 0 290 = true := by decide +kernel
theorem ku338 : aLL cu338 (chkU JB ct338 cu338 kt338 0 290) = true := by decide +kernel
theorem ok338 : KOK JB 290 kt338 := KOK_of (CT := ct338) (cuts := cu338) trivial ke338 (fun cu h => ⟨rfl, aLL_s ku338 cu h⟩) rfl
/-! HookSwingsModel.putBackPast()V -/
def kt339 : KT := ([.inl (.inr (.inr (some 76)))], none, [(77, 602, 1801)], [77], [], [], [], 1)
def ct339 : CTB := []
def cu339 : List CU := [(2, [some (.inl (.inr (.inr (some 76)))), some (.inr (false, (0, 1200, 1, none)))], [], .inr (1, true, 1200), .inl 0, .inl 0)]
theorem ke339 : chkE JB ct339 cu339 kt339 0 291 = true := by decide +kernel
theorem ku339 : aLL cu339 (chkU JB ct339 cu339 kt339 0 291) = true := by decide +kernel
theorem ok339 : KOK JB 291 kt339 := KOK_of (CT := ct339) (cuts := cu339) trivial ke339 (fun cu h => ⟨rfl, aLL_s ku339 cu h⟩) rfl
/-! HookSwingsModel.fromRest(II)I -/
def kt340 : KT := ([.inl (.inr (.inr (some 76))), .inr (false, 0, 3), .inr (false, 0, 7)], some (.inr (false, 1, 200)), [(76, 21, 22), (76, 25, 25), (77, 0, 17), (77, 602, 9817), (82, 0, 8), (85, 0, 17), (86, 0, 1200)], [76, 77, 82, 85, 86], [(77, 16, .inr (false, 0, 9999))], [(77, 16, .inr (false, 0, 9999))], [], 5)
def ct340 : CTB := [(288, [kt337]), (290, [kt338]), (291, [kt339])]
def cu340 : List CU := []
theorem ke340 : chkE JB ct340 cu340 kt340 4 289 = true := by decide +kernel
theorem ok340 : KOK JB 289 kt340 := KOK_of (CT := ct340) (cuts := cu340) ⟨⟨ok337, trivial⟩, ⟨ok338, trivial⟩, ⟨ok339, trivial⟩, trivial⟩ ke340 (fun cu h => by cases h) rfl
/-! HookSwingsModel.saves(III)I -/
def kt341 : KT := ([.inl (.inr (.inr (some 76))), .inr (false, (-2147483648), 2147483647), .inr (false, (-2147483648), 2147483647), .inr (false, (-2147483648), 2147483647)], some (.inr (false, (-2147483648), 2147483647)), [(76, 21, 22), (76, 25, 25), (77, 0, 17), (77, 602, 9817), (82, 0, 8), (85, 0, 17), (86, 0, 1200)], [76, 77, 82, 85, 86], [(77, 16, .inr (false, 0, 9999))], [(77, 16, .inr (false, 0, 9999))], [], 6)
def ct341 : CTB := [(289, [kt340])]
def cu341 : List CU := [(49, [some (.inl (.inr (.inr (some 76)))), some (.inr (false, (0, 3, 1, none))), some (.inr (false, (0, 3, 1, none))), some (.inr (false, (1, 255, 1, none))), some (.inr (false, ((-2147483648), 2147483647, 1, none))), some (.inr (false, (0, 8, 1, none)))], [(77, 16, (0, 9999, 1, none))], .inr (5, true, 8), .inl 0, .inl 0)]
theorem ke341 : chkE JB ct341 cu341 kt341 5 292 = true := by decide +kernel
theorem ku341 : aLL cu341 (chkU JB ct341 cu341 kt341 5 292) = true := by decide +kernel
theorem ok341 : KOK JB 292 kt341 := KOK_of (CT := ct341) (cuts := cu341) ⟨⟨ok340, trivial⟩, trivial⟩ ke341 (fun cu h => ⟨rfl, aLL_s ku341 cu h⟩) rfl
/-! HookSwingsModel.goneBy(I)I -/
def kt342 : KT := ([.inl (.inr (.inr (some 76))), .inr (false, 0, 60)], some (.inr (false, 1, 100000000)), [(76, 21, 22), (77, 2, 2), (77, 8, 11), (77, 14, 14), (77, 16, 16), (77, 602, 9817), (82, 0, 8)], [76, 77, 82], [(77, 16, .inr (false, 0, 9999))], [], [], 5)
def ct342 : CTB := [(252, [kt319]), (288, [kt337])]
def cu342 : List CU := []
theorem ke342 : chkE JB ct342 cu342 kt342 4 293 = true := by decide +kernel
theorem ok342 : KOK JB 293 kt342 := KOK_of (CT := ct342) (cuts := cu342) ⟨⟨ok319, trivial⟩, ⟨ok337, trivial⟩, trivial⟩ ke342 (fun cu h => by cases h) rfl
/-! HookSwingsModel.whenToGo()I -/
def kt343 : KT := ([.inl (.inr (.inr (some 76)))], some (.inr (false, (-1), 60)), [(76, 21, 22), (76, 25, 25), (77, 0, 17), (77, 602, 9817), (82, 0, 8), (85, 0, 17)], [76, 77, 82, 85], [(77, 16, .inr (false, 0, 9999))], [(77, 16, .inr (false, 0, 9999))], [], 6)
def ct343 : CTB := [(293, [kt342])]
def cu343 : List CU := [(8, [some (.inl (.inr (.inr (some 76)))), some (.inr (false, ((-1), 60, 1, none))), some (.inr (false, (1, 100000000, 1, none))), some (.inr (false, (0, 61, 1, none))), none], [(77, 16, (0, 9999, 1, none))], .inr (3, true, 61), .inl 0, .inl 0)]
theorem ke343 : chkE JB ct343 cu343 kt343 5 294 = true := by decide +kernel
theorem ku343 : aLL cu343 (chkU JB ct343 cu343 kt343 5 294) = true := by decide +kernel
theorem ok343 : KOK JB 294 kt343 := KOK_of (CT := ct343) (cuts := cu343) ⟨⟨ok342, trivial⟩, trivial⟩ ke343 (fun cu h => ⟨rfl, aLL_s ku343 cu h⟩) rfl
/-! HookSwingsModel.whichRope()I -/
def kt344 : KT := ([.inl (.inr (.inr (some 76)))], some (.inr (false, (-1), 24)), [(76, 21, 22), (76, 25, 25), (77, 0, 17), (77, 602, 9817), (82, 0, 8), (85, 0, 17)], [76, 77, 82, 85], [(77, 16, .inr (false, 0, 9999))], [(77, 16, .inr (false, 0, 9999))], [], 6)
def ct344 : CTB := [(293, [kt342])]
def cu344 : List CU := [(8, [some (.inl (.inr (.inr (some 76)))), some (.inr (false, ((-1), 24, 1, none))), some (.inr (false, (1, 100000000, 1, none))), some (.inr (false, (1, 25, 1, none))), none], [(77, 16, (0, 9999, 1, none))], .inr (3, true, 25), .inl 0, .inl 0)]
theorem ke344 : chkE JB ct344 cu344 kt344 5 295 = true := by decide +kernel
theorem ku344 : aLL cu344 (chkU JB ct344 cu344 kt344 5 295) = true := by decide +kernel
theorem ok344 : KOK JB 295 kt344 := KOK_of (CT := ct344) (cuts := cu344) ⟨⟨ok342, trivial⟩, trivial⟩ ke344 (fun cu h => ⟨rfl, aLL_s ku344 cu h⟩) rfl
/-! HookSwingsModel.bar(IIII)I -/
def kt345 : KT := ([.inl (.inr (.inr (some 76))), .inr (false, (-2147483648), 2147483647), .inr (false, (-2147483648), 2147483647), .inr (false, (-2147483648), 2147483647), .inr (false, (-2147483648), 2147483647)], some (.inr (false, (-2), 4)), [(77, 18, 18), (77, 9818, 9833)], [77], [(77, 16, .inr (false, 0, 9999))], [(77, 16, .inr (false, 0, 9999))], [], 2)
def ct345 : CTB := []
def cu345 : List CU := []
theorem ke345 : chkE JB ct345 cu345 kt345 1 296 = true := by decide +kernel
theorem ok345 : KOK JB 296 kt345 := KOK_of (CT := ct345) (cuts := cu345) trivial ke345 (fun cu h => by cases h) rfl
/-! HookSwingsModel.isBarred()Z -/
def kt346 : KT := ([.inl (.inr (.inr (some 76)))], some (.inr (false, 0, 1)), [], [], [], [], [], 2)
def ct346 : CTB := []
def cu346 : List CU := [(2, [some (.inl (.inr (.inr (some 76)))), some (.inr (false, (0, 4, 1, none))), none], [], .inr (1, true, 4), .inl 0, .inl 0)]
theorem ke346 : chkE JB ct346 cu346 kt346 1 297 = true := by decide +kernel
theorem ku346 : aLL cu346 (chkU JB ct346 cu346 kt346 1 297) = true := by decide +kernel
theorem ok346 : KOK JB 297 kt346 := KOK_of (CT := ct346) (cuts := cu346) trivial ke346 (fun cu h => ⟨rfl, aLL_s ku346 cu h⟩) rfl
/-! HookSwingsModel.barred(IZ)I -/
def kt347 : KT := ([.inl (.inr (.inr (some 76))), .inr (false, (-2147483648), 2147483647), .inr (false, 0, 1)], some (.inr (false, (-1), 200)), [(76, 21, 22), (76, 25, 25), (77, 0, 17), (77, 602, 9817), (82, 0, 8), (85, 0, 17)], [76, 77, 82, 85], [(77, 16, .inr (false, 0, 9999))], [(77, 16, .inr (false, 0, 9999))], [], 4)
def ct347 : CTB := [(251, [kt265]), (253, [kt270]), (297, [kt346])]
def cu347 : List CU := [(22, [some (.inl (.inr (.inr (some 76)))), some (.inr (false, (1, 200, 1, none))), some (.inr (false, (0, 1, 1, none))), some (.inr (false, ((-1), 200, 1, none))), some (.inr (false, (1, 201, 1, none)))], [(77, 16, (0, 10299, 1, some (3, 9998))), (85, 12, (1, 24, 1, none))], .inr (4, true, 201), .inl 0, .inl 0)]
theorem ke347 : chkE JB ct347 cu347 kt347 3 298 = true := by decide +kernel
theorem ku347 : aLL cu347 (chkU JB ct347 cu347 kt347 3 298) = true := by decide +kernel
theorem ok347 : KOK JB 298 kt347 := KOK_of (CT := ct347) (cuts := cu347) ⟨⟨ok265, trivial⟩, ⟨ok270, trivial⟩, ⟨ok346, trivial⟩, trivial⟩ ke347 (fun cu h => ⟨rfl, aLL_s ku347 cu h⟩) rfl
/-! HookSwingsModel.isTooMuch(III)Z -/
def kt348 : KT := ([.inl (.inr (.inr (some 76))), .inr (false, 1, 9), .inr (false, 1, 200), .inr (false, 0, 9999)], some (.inr (false, 0, 1)), [(76, 21, 22), (76, 25, 25), (77, 0, 17), (77, 602, 9817), (82, 0, 8), (85, 0, 17)], [76, 77, 82, 85], [(77, 16, .inr (false, 0, 9999))], [(77, 16, .inr (false, 0, 9999))], [], 4)
def ct348 : CTB := [(184, [kt318]), (243, [kt262]), (251, [kt265])]
def cu348 : List CU := [(23, [some (.inl (.inr (.inr (some 76)))), some (.inr (false, (1, 9, 1, none))), some (.inr (false, (1, 200, 1, none))), some (.inr (false, (0, 9999, 1, none))), some (.inr (false, (0, 1, 1, none))), some (.inr (false, (0, 200, 1, none)))], [(77, 16, (0, 10299, 1, some (4, 9999))), (85, 12, (1, 24, 1, none))], .inr (5, true, 200), .inl 0, .inl 0)]
theorem ke348 : chkE JB ct348 cu348 kt348 3 287 = true := by decide +kernel
theorem ku348 : aLL cu348 (chkU JB ct348 cu348 kt348 3 287) = true := by decide +kernel
theorem ok348 : KOK JB 287 kt348 := KOK_of (CT := ct348) (cuts := cu348) ⟨⟨ok318, trivial⟩, ⟨ok262, trivial⟩, ⟨ok265, trivial⟩, trivial⟩ ke348 (fun cu h => ⟨rfl, aLL_s ku348 cu h⟩) rfl
/-! HookSwingsModel.dayEnds(II)I -/
def kt349 : KT := ([.inl (.inr (.inr (some 76))), .inr (false, (-2147483648), 2147483647), .inr (false, (-2147483648), 2147483647)], some (.inr (false, (-1), 9)), [(76, 21, 22), (76, 25, 25), (77, 0, 17), (77, 602, 9817), (82, 0, 8), (85, 0, 17)], [76, 77, 82, 85], [(77, 16, .inr (false, 0, 9999))], [(77, 16, .inr (false, 0, 9999))], [], 5)
def ct349 : CTB := [(287, [kt348])]
def cu349 : List CU := [(26, [some (.inl (.inr (.inr (some 76)))), some (.inr (false, (1, 200, 1, none))), some (.inr (false, (0, 9999, 1, none))), some (.inr (false, (1, 10, 1, none)))], [(77, 16, (0, 9999, 1, none))], .inr (3, true, 10), .inl 0, .inl 0)]
theorem ke349 : chkE JB ct349 cu349 kt349 4 299 = true := by decide +kernel
theorem ku349 : aLL cu349 (chkU JB ct349 cu349 kt349 4 299) = true := by decide +kernel
theorem ok349 : KOK JB 299 kt349 := KOK_of (CT := ct349) (cuts := cu349) ⟨⟨ok348, trivial⟩, trivial⟩ ke349 (fun cu h => ⟨rfl, aLL_s ku349 cu h⟩) rfl
/-! HookSwingsModel.howFar(I)I -/
def kt350 : KT := ([.inl (.inr (.inr (some 76))), .inr (false, (-2147483648), 2147483647)], some (.inr (false, (-1), 60)), [(82, 0, 8)], [82], [(77, 16, .inr (false, 0, 9999))], [(77, 16, .inr (false, 0, 9999))], [], 4)
def ct350 : CTB := [(242, [kt261])]
def cu350 : List CU := [(14, [some (.inl (.inr (.inr (some 76)))), some (.inr (false, (1, 99, 1, none))), some (.inr (false, (0, 61, 1, none)))], [(77, 16, (0, 9999, 1, none))], .inr (2, true, 61), .inl 0, .inl 0)]
theorem ke350 : chkE JB ct350 cu350 kt350 3 300 = true := by decide +kernel
theorem ku350 : aLL cu350 (chkU JB ct350 cu350 kt350 3 300) = true := by decide +kernel
theorem ok350 : KOK JB 300 kt350 := KOK_of (CT := ct350) (cuts := cu350) ⟨⟨ok261, trivial⟩, trivial⟩ ke350 (fun cu h => ⟨rfl, aLL_s ku350 cu h⟩) rfl
/-! HookSwingsModel.over()I -/
def kt351 : KT := ([.inl (.inr (.inr (some 76)))], some (.inr (false, 0, 255)), [(82, 0, 8)], [82], [(77, 16, .inr (false, 0, 9999))], [(77, 16, .inr (false, 0, 9999))], [], 4)
def ct351 : CTB := [(242, [kt261])]
def cu351 : List CU := [(4, [some (.inl (.inr (.inr (some 76)))), some (.inr (false, (0, 255, 1, none))), some (.inr (false, (0, 8, 1, none)))], [(77, 16, (0, 9999, 1, none))], .inr (2, true, 8), .inl 0, .inl 0)]
theorem ke351 : chkE JB ct351 cu351 kt351 3 301 = true := by decide +kernel
theorem ku351 : aLL cu351 (chkU JB ct351 cu351 kt351 3 301) = true := by decide +kernel
theorem ok351 : KOK JB 301 kt351 := KOK_of (CT := ct351) (cuts := cu351) ⟨⟨ok261, trivial⟩, trivial⟩ ke351 (fun cu h => ⟨rfl, aLL_s ku351 cu h⟩) rfl
/-! HookSwingsModel.first(II)I -/
def kt352 : KT := ([.inl (.inr (.inr (some 76))), .inr (false, (-2147483648), 2147483647), .inr (false, (-2147483648), 2147483647)], some (.inr (false, (-2147483648), 2147483647)), [(76, 34, 34), (82, 0, 8), (83, 0, 330), (84, 0, 330), (87, 0, 8), (88, 0, 8), (89, 0, 8), (90, 0, 8), (91, 0, 8), (92, 0, 8)], [76, 82, 83, 84, 87, 88, 89, 90, 91, 92], [(77, 16, .inr (false, 0, 9999))], [(77, 16, .inr (false, 0, 9999))], [], 20)
theorem ok352 : KOK JB 305 kt352 := sorry
/-! HookSwingsModel.twoJibs(II)I -/
def kt353 : KT := ([.inl (.inr (.inr (some 76))), .inr (false, (-2147483648), 2147483647), .inr (false, (-2147483648), 2147483647)], some (.inr (false, (-2147483648), 2147483647)), [(76, 34, 34), (82, 0, 8), (83, 0, 330), (84, 0, 330), (87, 0, 8), (88, 0, 8), (89, 0, 8), (90, 0, 8), (91, 0, 8), (92, 0, 8)], [76, 82, 83, 84, 87, 88, 89, 90, 91, 92], [(77, 16, .inr (false, 0, 9999))], [(77, 16, .inr (false, 0, 9999))], [], 20)
theorem ok353 : KOK JB 309 kt353 := sorry
/-! HookSwingsModel.said(IZ)I -/
def kt354 : KT := ([.inl (.inr (.inr (some 76))), .inr (false, (-2147483648), 2147483647), .inr (false, 0, 1)], some (.inr (false, (-2), 8)), [(77, 6, 6), (77, 68, 83)], [77], [(77, 16, .inr (false, 0, 9999))], [(77, 16, .inr (false, 0, 9999))], [], 2)
def ct354 : CTB := []
def cu354 : List CU := []
theorem ke354 : chkE JB ct354 cu354 kt354 1 310 = true := by decide +kernel
theorem ok354 : KOK JB 310 kt354 := KOK_of (CT := ct354) (cuts := cu354) trivial ke354 (fun cu h => by cases h) rfl
/-! HookSwingsModel.left(Z)J -/
def kt355 : KT := ([.inl (.inr (.inr (some 76))), .inr (false, 0, 1)], some (.inr (true, (-9223372036854775808), 9223372036854775807)), [], [], [(77, 16, .inr (false, 0, 9999))], [(77, 16, .inr (false, 0, 9999))], [], 4)
def ct355 : CTB := [(311, [kt330])]
def cu355 : List CU := [(8, [some (.inl (.inr (.inr (some 76)))), some (.inr (false, (0, 1, 1, none))), some (.inr (true, ((-9223372036854775808), 9223372036854775807, 1, none))), none, some (.inr (true, ((-9223372036854775808), 9223372036854775807, 1, none))), none, some (.inr (false, (0, 8, 1, none))), none, none], [(77, 16, (0, 9999, 1, none))], .inr (6, true, 8), .inl 0, .inl 0)]
theorem ke355 : chkE JB ct355 cu355 kt355 3 312 = true := by decide +kernel
theorem ku355 : aLL cu355 (chkU JB ct355 cu355 kt355 3 312) = true := by decide +kernel
theorem ok355 : KOK JB 312 kt355 := KOK_of (CT := ct355) (cuts := cu355) ⟨⟨ok330, trivial⟩, trivial⟩ ke355 (fun cu h => ⟨rfl, aLL_s ku355 cu h⟩) rfl
/-! HookSwingsModel.landed(II)I -/
def kt356 : KT := ([.inl (.inr (.inr (some 76))), .inr (false, (-2147483648), 2147483647), .inr (false, (-2147483648), 2147483647)], some (.inr (false, (-2), 8)), [], [], [(77, 16, .inr (false, 0, 9999))], [(77, 16, .inr (false, 0, 9999))], [], 3)
def ct356 : CTB := []
def cu356 : List CU := []
theorem ke356 : chkE JB ct356 cu356 kt356 2 315 = true := by decide +kernel
theorem ok356 : KOK JB 315 kt356 := KOK_of (CT := ct356) (cuts := cu356) trivial ke356 (fun cu h => by cases h) rfl
/-! HookSwingsModel.hour(I)I -/
def kt357 : KT := ([.inl (.inr (.inr (some 76))), .inr (false, (-2147483648), 2147483647)], some (.inr (false, (-2147483648), 2147483647)), [], [], [(77, 16, .inr (false, 0, 9999))], [(77, 16, .inr (false, 0, 9999))], [], 3)
def ct357 : CTB := []
def cu357 : List CU := [(17, [some (.inl (.inr (.inr (some 76)))), some (.inr (false, (1, 9999, 1, none))), some (.inr (false, ((-2147483648), 2147483647, 1, none))), some (.inr (false, (0, 8, 1, none)))], [(77, 16, (0, 9999, 1, none))], .inr (3, true, 8), .inl 0, .inl 0)]
theorem ke357 : chkE JB ct357 cu357 kt357 2 316 = true := by decide +kernel
theorem ku357 : aLL cu357 (chkU JB ct357 cu357 kt357 2 316) = true := by decide +kernel
theorem ok357 : KOK JB 316 kt357 := KOK_of (CT := ct357) (cuts := cu357) trivial ke357 (fun cu h => ⟨rfl, aLL_s ku357 cu h⟩) rfl
/-! HookSwingsModel.mean(Z)I -/
def kt358 : KT := ([.inl (.inr (.inr (some 76))), .inr (false, 0, 1)], some (.inr (false, (-2147483648), 2147483647)), [], [], [(77, 16, .inr (false, 0, 9999))], [(77, 16, .inr (false, 0, 9999))], [], 4)
def ct358 : CTB := [(311, [kt330])]
def cu358 : List CU := []
theorem ke358 : chkE JB ct358 cu358 kt358 3 317 = true := by decide +kernel
theorem ok358 : KOK JB 317 kt358 := KOK_of (CT := ct358) (cuts := cu358) ⟨⟨ok330, trivial⟩, trivial⟩ ke358 (fun cu h => by cases h) rfl
/-! HookSwingsModel.copy([I[I)V -/
def kt359 : KT := ([.inl (.inr (.inr (some 77))), .inl (.inr (.inr (some 78)))], none, [(78, 0, 9834)], [78], [(77, 16, .inr (false, 0, 9999))], [], [], 3)
theorem ok359 : KOK JB 181 kt359 := sorry
/-! HookSwingsModel.image()I -/
def kt360 : KT := ([.inl (.inr (.inr (some 76)))], some (.inr (false, 0, 9999)), [(78, 0, 9834)], [78], [(77, 16, .inr (false, 0, 9999))], [(77, 16, .inr (false, 0, 9999))], [], 4)
def ct360 : CTB := [(181, [kt359])]
def cu360 : List CU := []
theorem ke360 : chkE JB ct360 cu360 kt360 3 318 = true := by decide +kernel
theorem ok360 : KOK JB 318 kt360 := KOK_of (CT := ct360) (cuts := cu360) ⟨⟨ok359, trivial⟩, trivial⟩ ke360 (fun cu h => by cases h) rfl
/-! HookSwingsModel.copy([I[I)V -/
def kt361 : KT := ([.inl (.inr (.inr (some 78))), .inl (.inr (.inr (some 77)))], none, [(77, 0, 9834)], [77], [], [(77, 16, .inr (false, 0, 9999))], [], 3)
theorem ok361 : KOK JB 181 kt361 := sorry
/-! HookSwingsModel.back()I -/
def kt362 : KT := ([.inl (.inr (.inr (some 76)))], some (.inr (false, 0, 9999)), [(77, 0, 9834)], [77], [(77, 16, .inr (false, 0, 9999))], [(77, 16, .inr (false, 0, 9999))], [], 4)
def ct362 : CTB := [(181, [kt361])]
def cu362 : List CU := []
theorem ke362 : chkE JB ct362 cu362 kt362 3 319 = true := by decide +kernel
theorem ok362 : KOK JB 319 kt362 := KOK_of (CT := ct362) (cuts := cu362) ⟨⟨ok361, trivial⟩, trivial⟩ ke362 (fun cu h => by cases h) rfl
/-! HookSwingsModel.about(I)I -/
def kt363 : KT := ([.inl (.inr (.inr (some 76))), .inr (false, (-2147483648), 2147483647)], some (.inr (false, (-2147483648), 2147483647)), [], [], [(77, 16, .inr (false, 0, 9999))], [(77, 16, .inr (false, 0, 9999))], [], 2)
def ct363 : CTB := []
def cu363 : List CU := []
theorem ke363 : chkE JB ct363 cu363 kt363 1 320 = true := by decide +kernel
theorem ok363 : KOK JB 320 kt363 := KOK_of (CT := ct363) (cuts := cu363) trivial ke363 (fun cu h => by cases h) rfl
