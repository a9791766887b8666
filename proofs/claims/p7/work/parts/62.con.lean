/-! HookSwingsModel.order(IIIII)I -/
def kt250 : KT := ([.inl (.inr (.inr (some 76))), .inr (false, (-2147483648), 2147483647), .inr (false, (-2147483648), 2147483647), .inr (false, (-2147483648), 2147483647), .inr (false, (-2147483648), 2147483647), .inr (false, (-2147483648), 2147483647)], some (.inr (false, (-1), 7)), [(77, 0, 0), (77, 20, 67)], [77], [(77, 16, .inr (false, 0, 9999))], [(77, 16, .inr (false, 0, 9999))], [], 2)
def ct250 : CTB := []
def cu250 : List CU := []
theorem ke250 : chkE JB ct250 cu250 kt250 1 189 = true := by decide +kernel
theorem ok250 {β : Nat} : KOK JB (W0 β) 189 kt250 := KOK_of W0_f (CT := ct250) (cuts := cu250) trivial ke250 (fun cu h => by cases h) rfl
/-! HookSwingsModel.near(I)Z -/
def kt251 : KT := ([.inl (.inr (.inr (some 76))), .inr (false, (-2147483648), 2147483647)], some (.inr (false, 0, 1)), [(77, 1, 1)], [77], [(77, 16, .inr (false, 0, 9999))], [(77, 16, .inr (false, 0, 9999))], [], 2)
def ct251 : CTB := []
def cu251 : List CU := []
theorem ke251 : chkE JB ct251 cu251 kt251 1 190 = true := by decide +kernel
theorem ok251 {β : Nat} : KOK JB (W0 β) 190 kt251 := KOK_of W0_f (CT := ct251) (cuts := cu251) trivial ke251 (fun cu h => by cases h) rfl
/-! HookSwingsModel.feed(IIIII)I -/
def kt252 : KT := ([.inl (.inr (.inr (some 76))), .inr (false, (-2147483648), 2147483647), .inr (false, (-2147483648), 2147483647), .inr (false, (-2147483648), 2147483647), .inr (false, (-2147483648), 2147483647), .inr (false, (-2147483648), 2147483647)], some (.inr (false, (-1), 300)), [(76, 4, 4), (80, 0, 300)], [76, 80], [(77, 16, .inr (false, 0, 9999))], [(77, 16, .inr (false, 0, 9999))], [], 2)
def ct252 : CTB := []
def cu252 : List CU := []
theorem ke252 : chkE JB ct252 cu252 kt252 1 192 = true := by decide +kernel
theorem ok252 {β : Nat} : KOK JB (W0 β) 192 kt252 := KOK_of W0_f (CT := ct252) (cuts := cu252) trivial ke252 (fun cu h => by cases h) rfl
/-! HookSwingsModel.end(I)I -/
def kt253 : KT := ([.inl (.inr (.inr (some 76))), .inr (false, (-2147483648), 2147483647)], some (.inr (false, (-1), 300)), [(76, 4, 4)], [76], [(77, 16, .inr (false, 0, 9999))], [(77, 16, .inr (false, 0, 9999))], [], 2)
def ct253 : CTB := []
def cu253 : List CU := []
theorem ke253 : chkE JB ct253 cu253 kt253 1 193 = true := by decide +kernel
theorem ok253 {β : Nat} : KOK JB (W0 β) 193 kt253 := KOK_of W0_f (CT := ct253) (cuts := cu253) trivial ke253 (fun cu h => by cases h) rfl
/-! HookSwingsModel.text()I -/
def kt255 : KT := ([.inl (.inr (.inr (some 76)))], some (.inr (false, (-1), 3)), [(76, 4, 19), (77, 3, 3), (79, 0, 3012), (81, 0, 160)], [76, 77, 79, 81], [(77, 16, .inr (false, 0, 9999))], [(77, 16, .inr (false, 0, 9999))], [], 21)
def ct255 : CTB := [(231, [hk231_n])]
def cu255 : List CU := []
theorem ke255 : chkE JB ct255 cu255 kt255 20 232 = true := by decide +kernel
theorem ok255 {β : Nat} : KOK JB (W0 β) 232 kt255 := KOK_of W0_f (CT := ct255) (cuts := cu255) ⟨⟨hok231_n, trivial⟩, trivial⟩ ke255 (fun cu h => by cases h) rfl
/-! HookSwingsModel.fault(I)I -/
def kt256 : KT := ([.inl (.inr (.inr (some 76))), .inr (false, (-2147483648), 2147483647)], some (.inr (false, (-1), 300)), [], [], [(77, 16, .inr (false, 0, 9999))], [(77, 16, .inr (false, 0, 9999))], [], 1)
def ct256 : CTB := []
def cu256 : List CU := []
theorem ke256 : chkE JB ct256 cu256 kt256 0 233 = true := by decide +kernel
theorem ok256 {β : Nat} : KOK JB (W0 β) 233 kt256 := KOK_of W0_f (CT := ct256) (cuts := cu256) trivial ke256 (fun cu h => by cases h) rfl
/-! HookSwingsModel.by(I)Z -/
def kt257 : KT := ([.inl (.inr (.inr (some 76))), .inr (false, (-2147483648), 2147483647)], some (.inr (false, 0, 1)), [(77, 4, 4)], [77], [(77, 16, .inr (false, 0, 9999))], [(77, 16, .inr (false, 0, 9999))], [], 2)
def ct257 : CTB := []
def cu257 : List CU := []
theorem ke257 : chkE JB ct257 cu257 kt257 1 234 = true := by decide +kernel
theorem ok257 {β : Nat} : KOK JB (W0 β) 234 kt257 := KOK_of W0_f (CT := ct257) (cuts := cu257) trivial ke257 (fun cu h => by cases h) rfl
/-! HookSwingsModel.cut(III)I -/
def kt259 : KT := ([.inr (false, (-2147483648), 2147483647), .inr (false, (-2147483648), 2147483647), .inr (false, (-2147483648), 2147483647)], some (.inr (false, (-2147483648), 2147483647)), [], [], [], [], [], 1)
def ct259 : CTB := []
def cu259 : List CU := []
theorem ke259 : chkE JB ct259 cu259 kt259 0 183 = true := by decide +kernel
theorem ok259 {β : Nat} : KOK JB (W0 β) 183 kt259 := KOK_of W0_f (CT := ct259) (cuts := cu259) trivial ke259 (fun cu h => by cases h) rfl
/-! HookSwingsModel.away()I -/
def kt261 : KT := ([.inl (.inr (.inr (some 76)))], some (.inr (false, (-2147483648), 2147483647)), [], [], [], [], [], 1)
def ct261 : CTB := []
def cu261 : List CU := []
theorem ke261 : chkE JB ct261 cu261 kt261 0 243 = true := by decide +kernel
theorem ok261 {β : Nat} : KOK JB (W0 β) 243 kt261 := KOK_of W0_f (CT := ct261) (cuts := cu261) trivial ke261 (fun cu h => by cases h) rfl
/-! HookSwingsModel.nameNow()V -/
def kt262 : KT := ([.inl (.inr (.inr (some 76)))], none, [(76, 21, 22), (82, 0, 8)], [76, 82], [], [], [], 2)
def ct262 : CTB := [(243, [kt261])]
def cu262 : List CU := []
theorem ke262 : chkE JB ct262 cu262 kt262 1 244 = true := by decide +kernel
theorem ok262 {β : Nat} : KOK JB (W0 β) 244 kt262 := KOK_of W0_f (CT := ct262) (cuts := cu262) ⟨⟨ok261, trivial⟩, trivial⟩ ke262 (fun cu h => by cases h) rfl
/-! HookSwingsModel.layPast(I)V -/
def kt263 : KT := ([.inl (.inr (.inr (some 76))), .inr (false, (-2147483648), 2147483647)], none, [(77, 602, 9817)], [77], [], [], [], 2)
def ct263 : CTB := [(243, [kt261])]
def cu263 : List CU := []
theorem ke263 : chkE JB ct263 cu263 kt263 1 250 = true := by decide +kernel
theorem ok263 {β : Nat} : KOK JB (W0 β) 250 kt263 := KOK_of W0_f (CT := ct263) (cuts := cu263) ⟨⟨ok261, trivial⟩, trivial⟩ ke263 (fun cu h => by cases h) rfl
/-! HookSwingsModel.pass(I)V -/
def kt264 : KT := ([.inl (.inr (.inr (some 76))), .inr (false, (-2147483648), 2147483647)], none, [(76, 21, 22), (77, 2, 2), (77, 8, 11), (77, 14, 14), (77, 16, 16), (77, 602, 9817), (82, 0, 8), (83, 0, 330), (84, 0, 330)], [76, 77, 82, 83, 84], [(77, 16, .inr (false, 0, 10299))], [], [(77, 16, 1)], 9)
def ct264 : CTB := [(183, [kt259]), (242, [hk242_0]), (243, [kt261]), (244, [kt262]), (250, [kt263])]
def cu264 : List CU := []
theorem ke264 : chkE JB ct264 cu264 kt264 8 251 = true := by decide +kernel
theorem ok264 {β : Nat} : KOK JB (W0 β) 251 kt264 := KOK_of W0_f (CT := ct264) (cuts := cu264) ⟨⟨ok259, trivial⟩, ⟨hok242_0, trivial⟩, ⟨ok261, trivial⟩, ⟨ok262, trivial⟩, ⟨ok263, trivial⟩, trivial⟩ ke264 (fun cu h => by cases h) rfl
/-! HookSwingsModel.isTenth(I)Z -/
def kt266 : KT := ([.inl (.inr (.inr (some 76))), .inr (false, (-2147483648), 2147483647)], some (.inr (false, 0, 1)), [(76, 21, 22), (77, 2, 2), (77, 5, 5), (77, 8, 11), (77, 14, 14), (77, 16, 16), (77, 84, 473), (77, 602, 9817), (82, 0, 8), (83, 0, 330), (84, 0, 330)], [76, 77, 82, 83, 84], [(77, 16, .inr (false, 0, 9999))], [(77, 16, .inr (false, 0, 9999))], [], 10)
def ct266 : CTB := [(251, [kt264]), (254, [hk254_0])]
def cu266 : List CU := []
theorem ke266 : chkE JB ct266 cu266 kt266 9 256 = true := by decide +kernel
theorem ok266 {β : Nat} : KOK JB (W0 β) 256 kt266 := KOK_of W0_f (CT := ct266) (cuts := cu266) ⟨⟨ok264, trivial⟩, ⟨hok254_0, trivial⟩, trivial⟩ ke266 (fun cu h => by cases h) rfl
/-! HookSwingsModel.move(I)I -/
def kt267 : KT := ([.inl (.inr (.inr (some 76))), .inr (false, (-2147483648), 2147483647)], some (.inr (false, (-2147483648), 2147483647)), [(76, 21, 22), (77, 2, 2), (77, 5, 5), (77, 8, 11), (77, 14, 14), (77, 16, 16), (77, 84, 473), (77, 602, 9817), (82, 0, 8), (83, 0, 330), (84, 0, 330)], [76, 77, 82, 83, 84], [(77, 16, .inr (false, 0, 9999))], [(77, 16, .inr (false, 0, 9999))], [], 11)
def ct267 : CTB := [(256, [kt266])]
def cu267 : List CU := []
theorem ke267 : chkE JB ct267 cu267 kt267 10 257 = true := by decide +kernel
theorem ok267 {β : Nat} : KOK JB (W0 β) 257 kt267 := KOK_of W0_f (CT := ct267) (cuts := cu267) ⟨⟨ok266, trivial⟩, trivial⟩ ke267 (fun cu h => by cases h) rfl
/-! HookSwingsModel.commandNow(I)I -/
def kt269 : KT := ([.inl (.inr (.inr (some 76))), .inr (false, (-1), 3)], some (.inr (false, (-1), 1)), [(76, 21, 22), (82, 0, 8), (83, 0, 330), (84, 0, 330)], [76, 82, 83, 84], [], [], [], 9)
def ct269 : CTB := [(244, [kt262]), (245, [hk245_0])]
def cu269 : List CU := []
theorem ke269 : chkE JB ct269 cu269 kt269 8 253 = true := by decide +kernel
theorem ok269 {β : Nat} : KOK JB (W0 β) 253 kt269 := KOK_of W0_f (CT := ct269) (cuts := cu269) ⟨⟨ok262, trivial⟩, ⟨hok245_0, trivial⟩, trivial⟩ ke269 (fun cu h => by cases h) rfl
/-! HookSwingsModel.areRun(I)Z -/
def kt270 : KT := ([.inl (.inr (.inr (some 76))), .inr (false, (-2147483648), 2147483647)], some (.inr (false, 0, 1)), [(76, 21, 22), (77, 2, 2), (77, 5, 5), (77, 8, 11), (77, 14, 14), (77, 16, 16), (77, 84, 473), (77, 602, 9817), (82, 0, 8), (83, 0, 330), (84, 0, 330)], [76, 77, 82, 83, 84], [(77, 16, .inr (false, 0, 9999))], [(77, 16, .inr (false, 0, 9999))], [], 11)
def ct270 : CTB := [(253, [kt269]), (256, [kt266])]
def cu270 : List CU := [(2, [some (.inl (.inr (.inr (some 76)))), some (.inr (false, ((-2147483648), 2147483647, 1, none))), some (.inr (false, (0, 2147483647, 1, none)))], [(77, 16, .inl (0, 9999, 1, none))], .inr (2, true, 2147483647), .inl 0, .inl 0)]
theorem ke270 : chkE JB ct270 cu270 kt270 10 258 = true := by decide +kernel
theorem ku270 : aLL cu270 (chkU JB ct270 cu270 kt270 10 258) = true := by decide +kernel
theorem ok270 {β : Nat} : KOK JB (W0 β) 258 kt270 := KOK_of W0_f (CT := ct270) (cuts := cu270) ⟨⟨ok269, trivial⟩, ⟨ok266, trivial⟩, trivial⟩ ke270 (fun cu h => ⟨rfl, aLL_s ku270 cu h⟩) rfl
/-! HookSwingsModel.run(I)I -/
def kt271 : KT := ([.inl (.inr (.inr (some 76))), .inr (false, (-2147483648), 2147483647)], some (.inr (false, (-2147483648), 2147483647)), [(76, 21, 22), (77, 2, 2), (77, 5, 5), (77, 8, 11), (77, 14, 14), (77, 16, 16), (77, 84, 473), (77, 602, 9817), (82, 0, 8), (83, 0, 330), (84, 0, 330)], [76, 77, 82, 83, 84], [(77, 16, .inr (false, 0, 9999))], [(77, 16, .inr (false, 0, 9999))], [], 12)
def ct271 : CTB := [(258, [kt270])]
def cu271 : List CU := []
theorem ke271 : chkE JB ct271 cu271 kt271 11 259 = true := by decide +kernel
theorem ok271 {β : Nat} : KOK JB (W0 β) 259 kt271 := KOK_of W0_f (CT := ct271) (cuts := cu271) ⟨⟨ok270, trivial⟩, trivial⟩ ke271 (fun cu h => by cases h) rfl
/-! HookSwingsModel.hoist(I)Z -/
def kt272 : KT := ([.inl (.inr (.inr (some 76))), .inr (false, (-2147483648), 2147483647)], some (.inr (false, 0, 1)), [(77, 5, 5), (77, 12, 12), (77, 84, 473)], [77], [(77, 16, .inr (false, 0, 9999))], [(77, 16, .inr (false, 0, 9999))], [], 5)
def ct272 : CTB := [(254, [hk254_0])]
def cu272 : List CU := []
theorem ke272 : chkE JB ct272 cu272 kt272 4 260 = true := by decide +kernel
theorem ok272 {β : Nat} : KOK JB (W0 β) 260 kt272 := KOK_of W0_f (CT := ct272) (cuts := cu272) ⟨⟨hok254_0, trivial⟩, trivial⟩ ke272 (fun cu h => by cases h) rfl
/-! HookSwingsModel.aim(I)Z -/
def kt273 : KT := ([.inl (.inr (.inr (some 76))), .inr (false, (-2147483648), 2147483647)], some (.inr (false, 0, 1)), [(77, 5, 5), (77, 15, 15), (77, 84, 473)], [77], [(77, 16, .inr (false, 0, 9999))], [(77, 16, .inr (false, 0, 9999))], [], 5)
def ct273 : CTB := [(254, [hk254_0])]
def cu273 : List CU := []
theorem ke273 : chkE JB ct273 cu273 kt273 4 261 = true := by decide +kernel
theorem ok273 {β : Nat} : KOK JB (W0 β) 261 kt273 := KOK_of W0_f (CT := ct273) (cuts := cu273) ⟨⟨hok254_0, trivial⟩, trivial⟩ ke273 (fun cu h => by cases h) rfl
/-! HookSwingsModel.hook(I)Z -/
def kt274 : KT := ([.inl (.inr (.inr (some 76))), .inr (false, (-2147483648), 2147483647)], some (.inr (false, 0, 1)), [(77, 5, 5), (77, 13, 13), (77, 15, 15), (77, 17, 17), (77, 84, 473)], [77], [(77, 16, .inr (false, 0, 9999))], [(77, 16, .inr (false, 0, 9999))], [], 5)
def ct274 : CTB := [(254, [hk254_0])]
def cu274 : List CU := []
theorem ke274 : chkE JB ct274 cu274 kt274 4 262 = true := by decide +kernel
theorem ok274 {β : Nat} : KOK JB (W0 β) 262 kt274 := KOK_of W0_f (CT := ct274) (cuts := cu274) ⟨⟨hok254_0, trivial⟩, trivial⟩ ke274 (fun cu h => by cases h) rfl
/-! HookSwingsModel.sizeOf(I)I -/
def kt319 : KT := ([.inr (false, (-2147483648), 2147483647)], some (.inr (false, (-2147483648), 2147483647)), [], [], [], [], [], 1)
def ct319 : CTB := []
def cu319 : List CU := []
theorem ke319 : chkE JB ct319 cu319 kt319 0 184 = true := by decide +kernel
theorem ok319 {β : Nat} : KOK JB (W0 β) 184 kt319 := KOK_of W0_f (CT := ct319) (cuts := cu319) trivial ke319 (fun cu h => by cases h) rfl
/-! HookSwingsModel.hangsStill()Z -/
def kt320 : KT := ([.inl (.inr (.inr (some 76)))], some (.inr (false, 0, 1)), [], [], [], [], [], 2)
def ct320 : CTB := [(184, [kt319]), (243, [kt261])]
def cu320 : List CU := []
theorem ke320 : chkE JB ct320 cu320 kt320 1 252 = true := by decide +kernel
theorem ok320 {β : Nat} : KOK JB (W0 β) 252 kt320 := KOK_of W0_f (CT := ct320) (cuts := cu320) ⟨⟨ok319, trivial⟩, ⟨ok261, trivial⟩, trivial⟩ ke320 (fun cu h => by cases h) rfl
/-! HookSwingsModel.jib(I)I -/
def kt321 : KT := ([.inl (.inr (.inr (some 76))), .inr (false, (-2147483648), 2147483647)], some (.inr (false, (-2147483648), 2147483647)), [(76, 21, 22), (82, 0, 8), (83, 0, 330), (84, 0, 330)], [76, 82, 83, 84], [(77, 16, .inr (false, 0, 9999))], [(77, 16, .inr (false, 0, 9999))], [], 10)
def ct321 : CTB := [(243, [kt261]), (252, [kt320]), (253, [kt269])]
def cu321 : List CU := []
theorem ke321 : chkE JB ct321 cu321 kt321 9 267 = true := by decide +kernel
theorem ok321 {β : Nat} : KOK JB (W0 β) 267 kt321 := KOK_of W0_f (CT := ct321) (cuts := cu321) ⟨⟨ok261, trivial⟩, ⟨ok320, trivial⟩, ⟨ok269, trivial⟩, trivial⟩ ke321 (fun cu h => by cases h) rfl
/-! HookSwingsModel.ofOrder(II)I -/
def kt322 : KT := ([.inl (.inr (.inr (some 76))), .inr (false, (-2147483648), 2147483647), .inr (false, (-2147483648), 2147483647)], some (.inr (false, (-2147483648), 2147483647)), [(82, 0, 8), (83, 0, 330), (84, 0, 330)], [82, 83, 84], [(77, 16, .inr (false, 0, 9999))], [(77, 16, .inr (false, 0, 9999))], [], 10)
def ct322 : CTB := [(242, [hk242_0])]
def cu322 : List CU := []
theorem ke322 : chkE JB ct322 cu322 kt322 9 268 = true := by decide +kernel
theorem ok322 {β : Nat} : KOK JB (W0 β) 268 kt322 := KOK_of W0_f (CT := ct322) (cuts := cu322) ⟨⟨hok242_0, trivial⟩, trivial⟩ ke322 (fun cu h => by cases h) rfl
/-! HookSwingsModel.ago(II)I -/
def kt323 : KT := ([.inl (.inr (.inr (some 76))), .inr (false, (-2147483648), 2147483647), .inr (false, (-2147483648), 2147483647)], some (.inr (false, (-2147483648), 2147483647)), [], [], [(77, 16, .inr (false, 0, 9999))], [(77, 16, .inr (false, 0, 9999))], [], 2)
def ct323 : CTB := []
def cu323 : List CU := []
theorem ke323 : chkE JB ct323 cu323 kt323 1 270 = true := by decide +kernel
theorem ok323 {β : Nat} : KOK JB (W0 β) 270 kt323 := KOK_of W0_f (CT := ct323) (cuts := cu323) trivial ke323 (fun cu h => by cases h) rfl
/-! HookSwingsModel.foretold(IZI)I -/
def kt324 : KT := ([.inl (.inr (.inr (some 76))), .inr (false, (-2147483648), 2147483647), .inr (false, 0, 1), .inr (false, (-2147483648), 2147483647)], some (.inr (false, (-2147483648), 2147483647)), [(76, 21, 22), (76, 25, 25), (77, 0, 17), (77, 602, 9817), (82, 0, 8), (83, 0, 330), (84, 0, 330), (85, 0, 17)], [76, 77, 82, 83, 84, 85], [(77, 16, .inr (false, 0, 9999))], [(77, 16, .inr (false, 0, 9999))], [], 10)
def ct324 : CTB := [(184, [kt319]), (243, [kt261]), (251, [kt264]), (252, [kt320]), (253, [kt269])]
def cu324 : List CU := [(37, [some (.inl (.inr (.inr (some 76)))), some (.inr (false, (1, 200, 1, none))), some (.inr (false, (0, 1, 1, none))), some (.inr (false, (0, 3, 1, none))), some (.inr (false, ((-2147483648), 2147483647, 1, none))), some (.inr (false, ((-1), 200, 1, none))), some (.inr (false, (1, 201, 1, none)))], [(77, 16, .inl (0, 10299, 1, some (5, 9998))), (85, 12, .inl (1, 24, 1, none)), (77, 5, .inl (0, 30, 1, none)), (85, 5, .inr 8), (77, 7, .inl (0, 20000, 1, none)), (85, 7, .inr 9)], .inr (6, true, 201), .inl 0, .inl 0)]
theorem ke324 : chkE JB ct324 cu324 kt324 9 273 = true := by decide +kernel
theorem ku324 : aLL cu324 (chkU JB ct324 cu324 kt324 9 273) = true := by decide +kernel
theorem ok324 {β : Nat} : KOK JB (W0 β) 273 kt324 := KOK_of W0_f (CT := ct324) (cuts := cu324) ⟨⟨ok319, trivial⟩, ⟨ok261, trivial⟩, ⟨ok264, trivial⟩, ⟨ok320, trivial⟩, ⟨ok269, trivial⟩, trivial⟩ ke324 (fun cu h => ⟨rfl, aLL_s ku324 cu h⟩) rfl
/-! HookSwingsModel.digitOf(III)I -/
def kt325 : KT := ([.inr (false, 0, 2147483647), .inr (false, 1, 7), .inr (false, 0, 7)], some (.inr (false, (-3), 1)), [], [], [], [], [], 1)
def ct325 : CTB := []
def cu325 : List CU := [(7, [some (.inr (false, (0, 2147483647, 1, none))), some (.inr (false, (1, 7, 1, none))), some (.inr (false, (0, 7, 1, none))), some (.inr (false, ((-2147483648), 2147483647, 1, none))), some (.inr (false, (0, 6, 1, none)))], [], .inr (4, false, 0), .inl 0, .inl 0)]
theorem ke325 : chkE JB ct325 cu325 kt325 0 274 = true := by decide +kernel
theorem ku325 : aLL cu325 (chkU JB ct325 cu325 kt325 0 274) = true := by decide +kernel
theorem ok325 {β : Nat} : KOK JB (W0 β) 274 kt325 := KOK_of W0_f (CT := ct325) (cuts := cu325) trivial ke325 (fun cu h => ⟨rfl, aLL_s ku325 cu h⟩) rfl
/-! HookSwingsModel.comesStill(II)Z -/
def kt326 : KT := ([.inl (.inr (.inr (some 76))), .inr (false, 0, 2147483647), .inr (false, 0, 7)], some (.inr (false, 0, 1)), [(76, 21, 22), (76, 25, 25), (77, 0, 17), (77, 602, 9817), (82, 0, 8), (83, 0, 330), (84, 0, 330), (85, 0, 17)], [76, 77, 82, 83, 84, 85], [(77, 16, .inr (false, 0, 9999))], [(77, 16, .inr (false, 0, 9999))], [], 10)
def ct326 : CTB := [(251, [kt264]), (252, [kt320]), (274, [kt325])]
def cu326 : List CU := [(6, [some (.inl (.inr (.inr (some 76)))), some (.inr (false, (0, 2147483647, 1, none))), some (.inr (false, (0, 7, 1, none))), some (.inr (false, (0, 7, 1, none)))], [(77, 16, .inl (0, 10299, 1, some (2, 9999))), (85, 12, .inl (1, 24, 1, none)), (77, 5, .inl (0, 30, 1, none)), (85, 5, .inr 5), (77, 7, .inl (0, 20000, 1, none)), (85, 7, .inr 6)], .inr (3, true, 7), .inl 0, .inl 0)]
theorem ke326 : chkE JB ct326 cu326 kt326 9 275 = true := by decide +kernel
theorem ku326 : aLL cu326 (chkU JB ct326 cu326 kt326 9 275) = true := by decide +kernel
theorem ok326 {β : Nat} : KOK JB (W0 β) 275 kt326 := KOK_of W0_f (CT := ct326) (cuts := cu326) ⟨⟨ok264, trivial⟩, ⟨ok320, trivial⟩, ⟨ok325, trivial⟩, trivial⟩ ke326 (fun cu h => ⟨rfl, aLL_s ku326 cu h⟩) rfl
/-! HookSwingsModel.soonest(I)I -/
def kt327 : KT := ([.inl (.inr (.inr (some 76))), .inr (false, (-2147483648), 2147483647)], some (.inr (false, (-3), 7)), [(76, 21, 22), (76, 25, 25), (77, 0, 17), (77, 602, 9817), (82, 0, 8), (83, 0, 330), (84, 0, 330), (85, 0, 17)], [76, 77, 82, 83, 84, 85], [(77, 16, .inr (false, 0, 9999))], [(77, 16, .inr (false, 0, 9999))], [], 11)
def ct327 : CTB := [(274, [kt325]), (275, [kt326])]
def cu327 : List CU := [(12, [some (.inl (.inr (.inr (some 76)))), some (.inr (false, ((-1), 2147483647, 1, none))), some (.inr (false, ((-2147483648), 2147483647, 1, none))), some (.inr (false, (0, 8, 1, none))), none], [(77, 16, .inl (0, 9999, 1, none))], .inr (3, true, 8), .inl 1, .inl 0),
  (21, [some (.inl (.inr (.inr (some 76)))), some (.inr (false, ((-1), 2147483647, 1, none))), some (.inr (false, ((-2147483648), 2147483647, 1, none))), some (.inr (false, (0, 7, 1, none))), some (.inr (false, (0, 2147483647, 1, none)))], [(77, 16, .inl (0, 9999, 1, none))], .inr (3, true, 8), .inl 0, .inr (4, true, 2147483647))]
theorem ke327 : chkE JB ct327 cu327 kt327 10 276 = true := by decide +kernel
theorem ku327 : aLL cu327 (chkU JB ct327 cu327 kt327 10 276) = true := by decide +kernel
theorem ok327 {β : Nat} : KOK JB (W0 β) 276 kt327 := KOK_of W0_f (CT := ct327) (cuts := cu327) ⟨⟨ok325, trivial⟩, ⟨ok326, trivial⟩, trivial⟩ ke327 (fun cu h => ⟨rfl, aLL_s ku327 cu h⟩) rfl
/-! HookSwingsModel.many(II)I -/
def kt328 : KT := ([.inr (false, 0, 2147483647), .inr (false, 0, 7)], some (.inr (false, (-2147483648), 2147483647)), [], [], [], [], [], 2)
def ct328 : CTB := [(274, [kt325])]
def cu328 : List CU := [(4, [some (.inr (false, (0, 2147483647, 1, none))), some (.inr (false, (0, 7, 1, none))), some (.inr (false, ((-2147483648), 2147483647, 1, none))), some (.inr (false, (0, 7, 1, none)))], [], .inr (3, true, 7), .inl 0, .inl 0)]
theorem ke328 : chkE JB ct328 cu328 kt328 1 277 = true := by decide +kernel
theorem ku328 : aLL cu328 (chkU JB ct328 cu328 kt328 1 277) = true := by decide +kernel
theorem ok328 {β : Nat} : KOK JB (W0 β) 277 kt328 := KOK_of W0_f (CT := ct328) (cuts := cu328) ⟨⟨ok325, trivial⟩, trivial⟩ ke328 (fun cu h => ⟨rfl, aLL_s ku328 cu h⟩) rfl
/-! HookSwingsModel.fewest(I)I -/
def kt329 : KT := ([.inl (.inr (.inr (some 76))), .inr (false, (-2147483648), 2147483647)], some (.inr (false, (-2147483648), 2147483647)), [(76, 21, 22), (76, 25, 25), (77, 0, 17), (77, 602, 9817), (82, 0, 8), (83, 0, 330), (84, 0, 330), (85, 0, 17)], [76, 77, 82, 83, 84, 85], [(77, 16, .inr (false, 0, 9999))], [(77, 16, .inr (false, 0, 9999))], [], 11)
def ct329 : CTB := [(274, [kt325]), (275, [kt326]), (277, [kt328])]
def cu329 : List CU := [(23, [some (.inl (.inr (.inr (some 76)))), some (.inr (false, ((-1), 2147483647, 1, none))), some (.inr (false, ((-2147483648), 2147483647, 1, none))), some (.inr (false, (0, 2147483647, 1, none))), some (.inr (false, (0, 7, 1, none))), some (.inr (false, ((-2147483648), 2147483647, 1, none))), some (.inr (false, (0, 8, 1, none))), none], [(77, 16, .inl (0, 9999, 1, none))], .inr (6, true, 8), .inl 1, .inl 0),
  (33, [some (.inl (.inr (.inr (some 76)))), some (.inr (false, ((-1), 2147483647, 1, none))), some (.inr (false, ((-2147483648), 2147483647, 1, none))), some (.inr (false, (0, 2147483647, 1, none))), some (.inr (false, (0, 7, 1, none))), some (.inr (false, ((-2147483648), 2147483647, 1, none))), some (.inr (false, (0, 7, 1, none))), some (.inr (false, (0, 2147483647, 1, none)))], [(77, 16, .inl (0, 9999, 1, none))], .inr (6, true, 8), .inl 0, .inr (7, true, 2147483647))]
theorem ke329 : chkE JB ct329 cu329 kt329 10 278 = true := by decide +kernel
theorem ku329 : aLL cu329 (chkU JB ct329 cu329 kt329 10 278) = true := by decide +kernel
theorem ok329 {β : Nat} : KOK JB (W0 β) 278 kt329 := KOK_of W0_f (CT := ct329) (cuts := cu329) ⟨⟨ok325, trivial⟩, ⟨ok326, trivial⟩, ⟨ok328, trivial⟩, trivial⟩ ke329 (fun cu h => ⟨rfl, aLL_s ku329 cu h⟩) rfl
/-! HookSwingsModel.toAndFro(I)I -/
def kt330 : KT := ([.inl (.inr (.inr (some 76))), .inr (false, (-2147483648), 2147483647)], some (.inr (false, (-200), 201)), [(76, 21, 22), (76, 25, 25), (77, 0, 17), (77, 602, 9817), (82, 0, 8), (83, 0, 330), (84, 0, 330), (85, 0, 17)], [76, 77, 82, 83, 84, 85], [(77, 16, .inr (false, 0, 9999))], [(77, 16, .inr (false, 0, 9999))], [], 10)
def ct330 : CTB := [(243, [kt261]), (251, [kt264])]
def cu330 : List CU := [(24, [some (.inl (.inr (.inr (some 76)))), some (.inr (false, (2, 200, 1, none))), some (.inr (false, ((-1), 200, 1, none))), some (.inr (false, ((-1), 200, 1, none))), some (.inr (false, (1, 201, 1, none))), none], [(77, 16, .inl (0, 10299, 1, some (3, 9998))), (85, 12, .inl (1, 24, 1, none)), (77, 5, .inl (0, 30, 1, none)), (85, 5, .inr 6), (77, 7, .inl (0, 20000, 1, none)), (85, 7, .inr 7)], .inr (4, true, 201), .inl 0, .inl 0)]
theorem ke330 : chkE JB ct330 cu330 kt330 9 279 = true := by decide +kernel
theorem ku330 : aLL cu330 (chkU JB ct330 cu330 kt330 9 279) = true := by decide +kernel
theorem ok330 {β : Nat} : KOK JB (W0 β) 279 kt330 := KOK_of W0_f (CT := ct330) (cuts := cu330) ⟨⟨ok261, trivial⟩, ⟨ok264, trivial⟩, trivial⟩ ke330 (fun cu h => ⟨rfl, aLL_s ku330 cu h⟩) rfl
/-! HookSwingsModel.calm(IIZ)J -/
def kt331 : KT := ([.inl (.inr (.inr (some 76))), .inl (.inl 1), .inl (.inl 0), .inr (false, 0, 1)], some (.inr (true, 1, 10)), [], [], [(77, 16, .inr (false, 0, 9999))], [(77, 16, .inr (false, 0, 9999))], [], 2)
def ct331 : CTB := []
def cu331 : List CU := []
theorem ke331 : chkE JB ct331 cu331 kt331 1 280 = true := by decide +kernel
theorem ok331 {β : Nat} : KOK JB (W0 β) 280 kt331 := KOK_of W0_f (CT := ct331) (cuts := cu331) trivial ke331 (fun cu h => by cases h) rfl
/-! HookSwingsModel.calm(IIZ)J -/
def kt332 : KT := ([.inl (.inr (.inr (some 76))), .inl (.inl 1), .inl (.inl 1), .inr (false, 0, 1)], some (.inr (true, 1, 5)), [], [], [(77, 16, .inr (false, 0, 9999))], [(77, 16, .inr (false, 0, 9999))], [], 2)
def ct332 : CTB := []
def cu332 : List CU := []
theorem ke332 : chkE JB ct332 cu332 kt332 1 280 = true := by decide +kernel
theorem ok332 {β : Nat} : KOK JB (W0 β) 280 kt332 := KOK_of W0_f (CT := ct332) (cuts := cu332) trivial ke332 (fun cu h => by cases h) rfl
/-! HookSwingsModel.calm(IIZ)J -/
def kt333 : KT := ([.inl (.inr (.inr (some 76))), .inl (.inl 1), .inl (.inl 2), .inr (false, 0, 1)], some (.inr (true, 3, 10)), [], [], [(77, 16, .inr (false, 0, 9999))], [(77, 16, .inr (false, 0, 9999))], [], 2)
def ct333 : CTB := []
def cu333 : List CU := []
theorem ke333 : chkE JB ct333 cu333 kt333 1 280 = true := by decide +kernel
theorem ok333 {β : Nat} : KOK JB (W0 β) 280 kt333 := KOK_of W0_f (CT := ct333) (cuts := cu333) trivial ke333 (fun cu h => by cases h) rfl
/-! HookSwingsModel.calm(IIZ)J -/
def kt334 : KT := ([.inl (.inr (.inr (some 76))), .inl (.inl 1), .inl (.inl 3), .inr (false, 0, 1)], some (.inr (true, 2, 5)), [], [], [(77, 16, .inr (false, 0, 9999))], [(77, 16, .inr (false, 0, 9999))], [], 2)
def ct334 : CTB := []
def cu334 : List CU := []
theorem ke334 : chkE JB ct334 cu334 kt334 1 280 = true := by decide +kernel
theorem ok334 {β : Nat} : KOK JB (W0 β) 280 kt334 := KOK_of W0_f (CT := ct334) (cuts := cu334) trivial ke334 (fun cu h => by cases h) rfl
/-! HookSwingsModel.calm(IIZ)J -/
def kt335 : KT := ([.inl (.inr (.inr (some 76))), .inl (.inl 1), .inl (.inl 4), .inr (false, 0, 1)], some (.inr (true, 1, 2)), [], [], [(77, 16, .inr (false, 0, 9999))], [(77, 16, .inr (false, 0, 9999))], [], 2)
def ct335 : CTB := []
def cu335 : List CU := []
theorem ke335 : chkE JB ct335 cu335 kt335 1 280 = true := by decide +kernel
theorem ok335 {β : Nat} : KOK JB (W0 β) 280 kt335 := KOK_of W0_f (CT := ct335) (cuts := cu335) trivial ke335 (fun cu h => by cases h) rfl
/-! HookSwingsModel.calm(IIZ)J -/
def kt336 : KT := ([.inl (.inr (.inr (some 76))), .inl (.inl 1), .inl (.inl 5), .inr (false, 0, 1)], some (.inr (true, 3, 5)), [], [], [(77, 16, .inr (false, 0, 9999))], [(77, 16, .inr (false, 0, 9999))], [], 2)
def ct336 : CTB := []
def cu336 : List CU := []
theorem ke336 : chkE JB ct336 cu336 kt336 1 280 = true := by decide +kernel
theorem ok336 {β : Nat} : KOK JB (W0 β) 280 kt336 := KOK_of W0_f (CT := ct336) (cuts := cu336) trivial ke336 (fun cu h => by cases h) rfl
/-! HookSwingsModel.calm(IIZ)J -/
def kt337 : KT := ([.inl (.inr (.inr (some 76))), .inl (.inl 1), .inl (.inl 6), .inr (false, 0, 1)], some (.inr (true, 7, 10)), [], [], [(77, 16, .inr (false, 0, 9999))], [(77, 16, .inr (false, 0, 9999))], [], 2)
def ct337 : CTB := []
def cu337 : List CU := []
theorem ke337 : chkE JB ct337 cu337 kt337 1 280 = true := by decide +kernel
theorem ok337 {β : Nat} : KOK JB (W0 β) 280 kt337 := KOK_of W0_f (CT := ct337) (cuts := cu337) trivial ke337 (fun cu h => by cases h) rfl
/-! HookSwingsModel.calm(IIZ)J -/
def kt338 : KT := ([.inl (.inr (.inr (some 76))), .inl (.inl 1), .inl (.inl 7), .inr (false, 0, 1)], some (.inr (true, 4, 5)), [], [], [(77, 16, .inr (false, 0, 9999))], [(77, 16, .inr (false, 0, 9999))], [], 2)
def ct338 : CTB := []
def cu338 : List CU := []
theorem ke338 : chkE JB ct338 cu338 kt338 1 280 = true := by decide +kernel
theorem ok338 {β : Nat} : KOK JB (W0 β) 280 kt338 := KOK_of W0_f (CT := ct338) (cuts := cu338) trivial ke338 (fun cu h => by cases h) rfl
/-! HookSwingsModel.calm(IIZ)J -/
def kt339 : KT := ([.inl (.inr (.inr (some 76))), .inl (.inl 1), .inl (.inl 8), .inr (false, 0, 1)], some (.inr (true, 9, 10)), [], [], [(77, 16, .inr (false, 0, 9999))], [(77, 16, .inr (false, 0, 9999))], [], 2)
def ct339 : CTB := []
def cu339 : List CU := []
theorem ke339 : chkE JB ct339 cu339 kt339 1 280 = true := by decide +kernel
theorem ok339 {β : Nat} : KOK JB (W0 β) 280 kt339 := KOK_of W0_f (CT := ct339) (cuts := cu339) trivial ke339 (fun cu h => by cases h) rfl
/-! HookSwingsModel.calm(IIZ)J -/
def kt340 : KT := ([.inl (.inr (.inr (some 76))), .inl (.inl 1), .inl (.inl 9), .inr (false, 0, 1)], some (.inr (true, 1, 1)), [], [], [(77, 16, .inr (false, 0, 9999))], [(77, 16, .inr (false, 0, 9999))], [], 2)
def ct340 : CTB := []
def cu340 : List CU := []
theorem ke340 : chkE JB ct340 cu340 kt340 1 280 = true := by decide +kernel
theorem ok340 {β : Nat} : KOK JB (W0 β) 280 kt340 := KOK_of W0_f (CT := ct340) (cuts := cu340) trivial ke340 (fun cu h => by cases h) rfl
/-! HookSwingsModel.calm(IIZ)J -/
def kt341 : KT := ([.inl (.inr (.inr (some 76))), .inl (.inl 1), .inr (false, (-2147483648), (-1)), .inr (false, 0, 1)], some (.inr (true, (-1), (-1))), [], [], [(77, 16, .inr (false, 0, 9999))], [(77, 16, .inr (false, 0, 9999))], [], 2)
def ct341 : CTB := []
def cu341 : List CU := []
theorem ke341 : chkE JB ct341 cu341 kt341 1 280 = true := by decide +kernel
theorem ok341 {β : Nat} : KOK JB (W0 β) 280 kt341 := KOK_of W0_f (CT := ct341) (cuts := cu341) trivial ke341 (fun cu h => by cases h) rfl
/-! HookSwingsModel.calm(IIZ)J -/
def kt342 : KT := ([.inl (.inr (.inr (some 76))), .inl (.inl 1), .inr (false, 10, 2147483647), .inr (false, 0, 1)], some (.inr (true, (-1), (-1))), [], [], [(77, 16, .inr (false, 0, 9999))], [(77, 16, .inr (false, 0, 9999))], [], 2)
def ct342 : CTB := []
def cu342 : List CU := []
theorem ke342 : chkE JB ct342 cu342 kt342 1 280 = true := by decide +kernel
theorem ok342 {β : Nat} : KOK JB (W0 β) 280 kt342 := KOK_of W0_f (CT := ct342) (cuts := cu342) trivial ke342 (fun cu h => by cases h) rfl
/-! HookSwingsModel.calm(IIZ)J -/
def kt343 : KT := ([.inl (.inr (.inr (some 76))), .inl (.inl 2), .inl (.inl 0), .inr (false, 0, 1)], some (.inr (true, 1, 100)), [], [], [(77, 16, .inr (false, 0, 9999))], [(77, 16, .inr (false, 0, 9999))], [], 2)
def ct343 : CTB := []
def cu343 : List CU := []
theorem ke343 : chkE JB ct343 cu343 kt343 1 280 = true := by decide +kernel
theorem ok343 {β : Nat} : KOK JB (W0 β) 280 kt343 := KOK_of W0_f (CT := ct343) (cuts := cu343) trivial ke343 (fun cu h => by cases h) rfl
/-! HookSwingsModel.calm(IIZ)J -/
def kt344 : KT := ([.inl (.inr (.inr (some 76))), .inl (.inl 2), .inl (.inl 1), .inr (false, 0, 1)], some (.inr (true, 1, 25)), [], [], [(77, 16, .inr (false, 0, 9999))], [(77, 16, .inr (false, 0, 9999))], [], 2)
def ct344 : CTB := []
def cu344 : List CU := []
theorem ke344 : chkE JB ct344 cu344 kt344 1 280 = true := by decide +kernel
theorem ok344 {β : Nat} : KOK JB (W0 β) 280 kt344 := KOK_of W0_f (CT := ct344) (cuts := cu344) trivial ke344 (fun cu h => by cases h) rfl
/-! HookSwingsModel.calm(IIZ)J -/
def kt345 : KT := ([.inl (.inr (.inr (some 76))), .inl (.inl 2), .inl (.inl 2), .inr (false, 0, 1)], some (.inr (true, 9, 100)), [], [], [(77, 16, .inr (false, 0, 9999))], [(77, 16, .inr (false, 0, 9999))], [], 2)
def ct345 : CTB := []
def cu345 : List CU := []
theorem ke345 : chkE JB ct345 cu345 kt345 1 280 = true := by decide +kernel
theorem ok345 {β : Nat} : KOK JB (W0 β) 280 kt345 := KOK_of W0_f (CT := ct345) (cuts := cu345) trivial ke345 (fun cu h => by cases h) rfl
/-! HookSwingsModel.calm(IIZ)J -/
def kt346 : KT := ([.inl (.inr (.inr (some 76))), .inl (.inl 2), .inl (.inl 3), .inr (false, 0, 1)], some (.inr (true, 4, 25)), [], [], [(77, 16, .inr (false, 0, 9999))], [(77, 16, .inr (false, 0, 9999))], [], 2)
def ct346 : CTB := []
def cu346 : List CU := []
theorem ke346 : chkE JB ct346 cu346 kt346 1 280 = true := by decide +kernel
theorem ok346 {β : Nat} : KOK JB (W0 β) 280 kt346 := KOK_of W0_f (CT := ct346) (cuts := cu346) trivial ke346 (fun cu h => by cases h) rfl
/-! HookSwingsModel.calm(IIZ)J -/
def kt347 : KT := ([.inl (.inr (.inr (some 76))), .inl (.inl 2), .inl (.inl 4), .inr (false, 0, 1)], some (.inr (true, 1, 4)), [], [], [(77, 16, .inr (false, 0, 9999))], [(77, 16, .inr (false, 0, 9999))], [], 2)
def ct347 : CTB := []
def cu347 : List CU := []
theorem ke347 : chkE JB ct347 cu347 kt347 1 280 = true := by decide +kernel
theorem ok347 {β : Nat} : KOK JB (W0 β) 280 kt347 := KOK_of W0_f (CT := ct347) (cuts := cu347) trivial ke347 (fun cu h => by cases h) rfl
/-! HookSwingsModel.calm(IIZ)J -/
def kt348 : KT := ([.inl (.inr (.inr (some 76))), .inl (.inl 2), .inl (.inl 5), .inr (false, 0, 1)], some (.inr (true, 9, 25)), [], [], [(77, 16, .inr (false, 0, 9999))], [(77, 16, .inr (false, 0, 9999))], [], 2)
def ct348 : CTB := []
def cu348 : List CU := []
theorem ke348 : chkE JB ct348 cu348 kt348 1 280 = true := by decide +kernel
theorem ok348 {β : Nat} : KOK JB (W0 β) 280 kt348 := KOK_of W0_f (CT := ct348) (cuts := cu348) trivial ke348 (fun cu h => by cases h) rfl
/-! HookSwingsModel.calm(IIZ)J -/
def kt349 : KT := ([.inl (.inr (.inr (some 76))), .inl (.inl 2), .inl (.inl 6), .inr (false, 0, 1)], some (.inr (true, 49, 100)), [], [], [(77, 16, .inr (false, 0, 9999))], [(77, 16, .inr (false, 0, 9999))], [], 2)
def ct349 : CTB := []
def cu349 : List CU := []
theorem ke349 : chkE JB ct349 cu349 kt349 1 280 = true := by decide +kernel
theorem ok349 {β : Nat} : KOK JB (W0 β) 280 kt349 := KOK_of W0_f (CT := ct349) (cuts := cu349) trivial ke349 (fun cu h => by cases h) rfl
/-! HookSwingsModel.calm(IIZ)J -/
def kt350 : KT := ([.inl (.inr (.inr (some 76))), .inl (.inl 2), .inl (.inl 7), .inr (false, 0, 1)], some (.inr (true, 16, 25)), [], [], [(77, 16, .inr (false, 0, 9999))], [(77, 16, .inr (false, 0, 9999))], [], 2)
def ct350 : CTB := []
def cu350 : List CU := []
theorem ke350 : chkE JB ct350 cu350 kt350 1 280 = true := by decide +kernel
theorem ok350 {β : Nat} : KOK JB (W0 β) 280 kt350 := KOK_of W0_f (CT := ct350) (cuts := cu350) trivial ke350 (fun cu h => by cases h) rfl
/-! HookSwingsModel.calm(IIZ)J -/
def kt351 : KT := ([.inl (.inr (.inr (some 76))), .inl (.inl 2), .inl (.inl 8), .inr (false, 0, 1)], some (.inr (true, 81, 100)), [], [], [(77, 16, .inr (false, 0, 9999))], [(77, 16, .inr (false, 0, 9999))], [], 2)
def ct351 : CTB := []
def cu351 : List CU := []
theorem ke351 : chkE JB ct351 cu351 kt351 1 280 = true := by decide +kernel
theorem ok351 {β : Nat} : KOK JB (W0 β) 280 kt351 := KOK_of W0_f (CT := ct351) (cuts := cu351) trivial ke351 (fun cu h => by cases h) rfl
/-! HookSwingsModel.calm(IIZ)J -/
def kt352 : KT := ([.inl (.inr (.inr (some 76))), .inl (.inl 2), .inl (.inl 9), .inr (false, 0, 1)], some (.inr (true, 1, 1)), [], [], [(77, 16, .inr (false, 0, 9999))], [(77, 16, .inr (false, 0, 9999))], [], 2)
def ct352 : CTB := []
def cu352 : List CU := []
theorem ke352 : chkE JB ct352 cu352 kt352 1 280 = true := by decide +kernel
theorem ok352 {β : Nat} : KOK JB (W0 β) 280 kt352 := KOK_of W0_f (CT := ct352) (cuts := cu352) trivial ke352 (fun cu h => by cases h) rfl
/-! HookSwingsModel.calm(IIZ)J -/
def kt353 : KT := ([.inl (.inr (.inr (some 76))), .inl (.inl 2), .inr (false, (-2147483648), (-1)), .inr (false, 0, 1)], some (.inr (true, (-1), (-1))), [], [], [(77, 16, .inr (false, 0, 9999))], [(77, 16, .inr (false, 0, 9999))], [], 2)
def ct353 : CTB := []
def cu353 : List CU := []
theorem ke353 : chkE JB ct353 cu353 kt353 1 280 = true := by decide +kernel
theorem ok353 {β : Nat} : KOK JB (W0 β) 280 kt353 := KOK_of W0_f (CT := ct353) (cuts := cu353) trivial ke353 (fun cu h => by cases h) rfl
/-! HookSwingsModel.calm(IIZ)J -/
def kt354 : KT := ([.inl (.inr (.inr (some 76))), .inl (.inl 2), .inr (false, 10, 2147483647), .inr (false, 0, 1)], some (.inr (true, (-1), (-1))), [], [], [(77, 16, .inr (false, 0, 9999))], [(77, 16, .inr (false, 0, 9999))], [], 2)
def ct354 : CTB := []
def cu354 : List CU := []
theorem ke354 : chkE JB ct354 cu354 kt354 1 280 = true := by decide +kernel
theorem ok354 {β : Nat} : KOK JB (W0 β) 280 kt354 := KOK_of W0_f (CT := ct354) (cuts := cu354) trivial ke354 (fun cu h => by cases h) rfl
/-! HookSwingsModel.calm(IIZ)J -/
def kt355 : KT := ([.inl (.inr (.inr (some 76))), .inl (.inl 3), .inl (.inl 0), .inr (false, 0, 1)], some (.inr (true, 1, 1000)), [], [], [(77, 16, .inr (false, 0, 9999))], [(77, 16, .inr (false, 0, 9999))], [], 2)
def ct355 : CTB := []
def cu355 : List CU := []
theorem ke355 : chkE JB ct355 cu355 kt355 1 280 = true := by decide +kernel
theorem ok355 {β : Nat} : KOK JB (W0 β) 280 kt355 := KOK_of W0_f (CT := ct355) (cuts := cu355) trivial ke355 (fun cu h => by cases h) rfl
/-! HookSwingsModel.calm(IIZ)J -/
def kt356 : KT := ([.inl (.inr (.inr (some 76))), .inl (.inl 3), .inl (.inl 1), .inr (false, 0, 1)], some (.inr (true, 1, 125)), [], [], [(77, 16, .inr (false, 0, 9999))], [(77, 16, .inr (false, 0, 9999))], [], 2)
def ct356 : CTB := []
def cu356 : List CU := []
theorem ke356 : chkE JB ct356 cu356 kt356 1 280 = true := by decide +kernel
theorem ok356 {β : Nat} : KOK JB (W0 β) 280 kt356 := KOK_of W0_f (CT := ct356) (cuts := cu356) trivial ke356 (fun cu h => by cases h) rfl
/-! HookSwingsModel.calm(IIZ)J -/
def kt357 : KT := ([.inl (.inr (.inr (some 76))), .inl (.inl 3), .inl (.inl 2), .inr (false, 0, 1)], some (.inr (true, 27, 1000)), [], [], [(77, 16, .inr (false, 0, 9999))], [(77, 16, .inr (false, 0, 9999))], [], 2)
def ct357 : CTB := []
def cu357 : List CU := []
theorem ke357 : chkE JB ct357 cu357 kt357 1 280 = true := by decide +kernel
theorem ok357 {β : Nat} : KOK JB (W0 β) 280 kt357 := KOK_of W0_f (CT := ct357) (cuts := cu357) trivial ke357 (fun cu h => by cases h) rfl
/-! HookSwingsModel.calm(IIZ)J -/
def kt358 : KT := ([.inl (.inr (.inr (some 76))), .inl (.inl 3), .inl (.inl 3), .inr (false, 0, 1)], some (.inr (true, 8, 125)), [], [], [(77, 16, .inr (false, 0, 9999))], [(77, 16, .inr (false, 0, 9999))], [], 2)
def ct358 : CTB := []
def cu358 : List CU := []
theorem ke358 : chkE JB ct358 cu358 kt358 1 280 = true := by decide +kernel
theorem ok358 {β : Nat} : KOK JB (W0 β) 280 kt358 := KOK_of W0_f (CT := ct358) (cuts := cu358) trivial ke358 (fun cu h => by cases h) rfl
/-! HookSwingsModel.calm(IIZ)J -/
def kt359 : KT := ([.inl (.inr (.inr (some 76))), .inl (.inl 3), .inl (.inl 4), .inr (false, 0, 1)], some (.inr (true, 1, 8)), [], [], [(77, 16, .inr (false, 0, 9999))], [(77, 16, .inr (false, 0, 9999))], [], 2)
def ct359 : CTB := []
def cu359 : List CU := []
theorem ke359 : chkE JB ct359 cu359 kt359 1 280 = true := by decide +kernel
theorem ok359 {β : Nat} : KOK JB (W0 β) 280 kt359 := KOK_of W0_f (CT := ct359) (cuts := cu359) trivial ke359 (fun cu h => by cases h) rfl
/-! HookSwingsModel.calm(IIZ)J -/
def kt360 : KT := ([.inl (.inr (.inr (some 76))), .inl (.inl 3), .inl (.inl 5), .inr (false, 0, 1)], some (.inr (true, 27, 125)), [], [], [(77, 16, .inr (false, 0, 9999))], [(77, 16, .inr (false, 0, 9999))], [], 2)
def ct360 : CTB := []
def cu360 : List CU := []
theorem ke360 : chkE JB ct360 cu360 kt360 1 280 = true := by decide +kernel
theorem ok360 {β : Nat} : KOK JB (W0 β) 280 kt360 := KOK_of W0_f (CT := ct360) (cuts := cu360) trivial ke360 (fun cu h => by cases h) rfl
/-! HookSwingsModel.calm(IIZ)J -/
def kt361 : KT := ([.inl (.inr (.inr (some 76))), .inl (.inl 3), .inl (.inl 6), .inr (false, 0, 1)], some (.inr (true, 343, 1000)), [], [], [(77, 16, .inr (false, 0, 9999))], [(77, 16, .inr (false, 0, 9999))], [], 2)
def ct361 : CTB := []
def cu361 : List CU := []
theorem ke361 : chkE JB ct361 cu361 kt361 1 280 = true := by decide +kernel
theorem ok361 {β : Nat} : KOK JB (W0 β) 280 kt361 := KOK_of W0_f (CT := ct361) (cuts := cu361) trivial ke361 (fun cu h => by cases h) rfl
/-! HookSwingsModel.calm(IIZ)J -/
def kt362 : KT := ([.inl (.inr (.inr (some 76))), .inl (.inl 3), .inl (.inl 7), .inr (false, 0, 1)], some (.inr (true, 64, 125)), [], [], [(77, 16, .inr (false, 0, 9999))], [(77, 16, .inr (false, 0, 9999))], [], 2)
def ct362 : CTB := []
def cu362 : List CU := []
theorem ke362 : chkE JB ct362 cu362 kt362 1 280 = true := by decide +kernel
theorem ok362 {β : Nat} : KOK JB (W0 β) 280 kt362 := KOK_of W0_f (CT := ct362) (cuts := cu362) trivial ke362 (fun cu h => by cases h) rfl
/-! HookSwingsModel.calm(IIZ)J -/
def kt363 : KT := ([.inl (.inr (.inr (some 76))), .inl (.inl 3), .inl (.inl 8), .inr (false, 0, 1)], some (.inr (true, 729, 1000)), [], [], [(77, 16, .inr (false, 0, 9999))], [(77, 16, .inr (false, 0, 9999))], [], 2)
def ct363 : CTB := []
def cu363 : List CU := []
theorem ke363 : chkE JB ct363 cu363 kt363 1 280 = true := by decide +kernel
theorem ok363 {β : Nat} : KOK JB (W0 β) 280 kt363 := KOK_of W0_f (CT := ct363) (cuts := cu363) trivial ke363 (fun cu h => by cases h) rfl
/-! HookSwingsModel.calm(IIZ)J -/
def kt364 : KT := ([.inl (.inr (.inr (some 76))), .inl (.inl 3), .inl (.inl 9), .inr (false, 0, 1)], some (.inr (true, 1, 1)), [], [], [(77, 16, .inr (false, 0, 9999))], [(77, 16, .inr (false, 0, 9999))], [], 2)
def ct364 : CTB := []
def cu364 : List CU := []
theorem ke364 : chkE JB ct364 cu364 kt364 1 280 = true := by decide +kernel
theorem ok364 {β : Nat} : KOK JB (W0 β) 280 kt364 := KOK_of W0_f (CT := ct364) (cuts := cu364) trivial ke364 (fun cu h => by cases h) rfl
/-! HookSwingsModel.calm(IIZ)J -/
def kt365 : KT := ([.inl (.inr (.inr (some 76))), .inl (.inl 3), .inr (false, (-2147483648), (-1)), .inr (false, 0, 1)], some (.inr (true, (-1), (-1))), [], [], [(77, 16, .inr (false, 0, 9999))], [(77, 16, .inr (false, 0, 9999))], [], 2)
def ct365 : CTB := []
def cu365 : List CU := []
theorem ke365 : chkE JB ct365 cu365 kt365 1 280 = true := by decide +kernel
theorem ok365 {β : Nat} : KOK JB (W0 β) 280 kt365 := KOK_of W0_f (CT := ct365) (cuts := cu365) trivial ke365 (fun cu h => by cases h) rfl
/-! HookSwingsModel.calm(IIZ)J -/
def kt366 : KT := ([.inl (.inr (.inr (some 76))), .inl (.inl 3), .inr (false, 10, 2147483647), .inr (false, 0, 1)], some (.inr (true, (-1), (-1))), [], [], [(77, 16, .inr (false, 0, 9999))], [(77, 16, .inr (false, 0, 9999))], [], 2)
def ct366 : CTB := []
def cu366 : List CU := []
theorem ke366 : chkE JB ct366 cu366 kt366 1 280 = true := by decide +kernel
theorem ok366 {β : Nat} : KOK JB (W0 β) 280 kt366 := KOK_of W0_f (CT := ct366) (cuts := cu366) trivial ke366 (fun cu h => by cases h) rfl
/-! HookSwingsModel.calm(IIZ)J -/
def kt367 : KT := ([.inl (.inr (.inr (some 76))), .inl (.inl 4), .inl (.inl 0), .inr (false, 0, 1)], some (.inr (true, 1, 10000)), [], [], [(77, 16, .inr (false, 0, 9999))], [(77, 16, .inr (false, 0, 9999))], [], 2)
def ct367 : CTB := []
def cu367 : List CU := []
theorem ke367 : chkE JB ct367 cu367 kt367 1 280 = true := by decide +kernel
theorem ok367 {β : Nat} : KOK JB (W0 β) 280 kt367 := KOK_of W0_f (CT := ct367) (cuts := cu367) trivial ke367 (fun cu h => by cases h) rfl
/-! HookSwingsModel.calm(IIZ)J -/
def kt368 : KT := ([.inl (.inr (.inr (some 76))), .inl (.inl 4), .inl (.inl 1), .inr (false, 0, 1)], some (.inr (true, 1, 625)), [], [], [(77, 16, .inr (false, 0, 9999))], [(77, 16, .inr (false, 0, 9999))], [], 2)
def ct368 : CTB := []
def cu368 : List CU := []
theorem ke368 : chkE JB ct368 cu368 kt368 1 280 = true := by decide +kernel
theorem ok368 {β : Nat} : KOK JB (W0 β) 280 kt368 := KOK_of W0_f (CT := ct368) (cuts := cu368) trivial ke368 (fun cu h => by cases h) rfl
/-! HookSwingsModel.calm(IIZ)J -/
def kt369 : KT := ([.inl (.inr (.inr (some 76))), .inl (.inl 4), .inl (.inl 2), .inr (false, 0, 1)], some (.inr (true, 81, 10000)), [], [], [(77, 16, .inr (false, 0, 9999))], [(77, 16, .inr (false, 0, 9999))], [], 2)
def ct369 : CTB := []
def cu369 : List CU := []
theorem ke369 : chkE JB ct369 cu369 kt369 1 280 = true := by decide +kernel
theorem ok369 {β : Nat} : KOK JB (W0 β) 280 kt369 := KOK_of W0_f (CT := ct369) (cuts := cu369) trivial ke369 (fun cu h => by cases h) rfl
/-! HookSwingsModel.calm(IIZ)J -/
def kt370 : KT := ([.inl (.inr (.inr (some 76))), .inl (.inl 4), .inl (.inl 3), .inr (false, 0, 1)], some (.inr (true, 16, 625)), [], [], [(77, 16, .inr (false, 0, 9999))], [(77, 16, .inr (false, 0, 9999))], [], 2)
def ct370 : CTB := []
def cu370 : List CU := []
theorem ke370 : chkE JB ct370 cu370 kt370 1 280 = true := by decide +kernel
theorem ok370 {β : Nat} : KOK JB (W0 β) 280 kt370 := KOK_of W0_f (CT := ct370) (cuts := cu370) trivial ke370 (fun cu h => by cases h) rfl
/-! HookSwingsModel.calm(IIZ)J -/
def kt371 : KT := ([.inl (.inr (.inr (some 76))), .inl (.inl 4), .inl (.inl 4), .inr (false, 0, 1)], some (.inr (true, 1, 16)), [], [], [(77, 16, .inr (false, 0, 9999))], [(77, 16, .inr (false, 0, 9999))], [], 2)
def ct371 : CTB := []
def cu371 : List CU := []
theorem ke371 : chkE JB ct371 cu371 kt371 1 280 = true := by decide +kernel
theorem ok371 {β : Nat} : KOK JB (W0 β) 280 kt371 := KOK_of W0_f (CT := ct371) (cuts := cu371) trivial ke371 (fun cu h => by cases h) rfl
/-! HookSwingsModel.calm(IIZ)J -/
def kt372 : KT := ([.inl (.inr (.inr (some 76))), .inl (.inl 4), .inl (.inl 5), .inr (false, 0, 1)], some (.inr (true, 81, 625)), [], [], [(77, 16, .inr (false, 0, 9999))], [(77, 16, .inr (false, 0, 9999))], [], 2)
def ct372 : CTB := []
def cu372 : List CU := []
theorem ke372 : chkE JB ct372 cu372 kt372 1 280 = true := by decide +kernel
theorem ok372 {β : Nat} : KOK JB (W0 β) 280 kt372 := KOK_of W0_f (CT := ct372) (cuts := cu372) trivial ke372 (fun cu h => by cases h) rfl
/-! HookSwingsModel.calm(IIZ)J -/
def kt373 : KT := ([.inl (.inr (.inr (some 76))), .inl (.inl 4), .inl (.inl 6), .inr (false, 0, 1)], some (.inr (true, 2401, 10000)), [], [], [(77, 16, .inr (false, 0, 9999))], [(77, 16, .inr (false, 0, 9999))], [], 2)
def ct373 : CTB := []
def cu373 : List CU := []
theorem ke373 : chkE JB ct373 cu373 kt373 1 280 = true := by decide +kernel
theorem ok373 {β : Nat} : KOK JB (W0 β) 280 kt373 := KOK_of W0_f (CT := ct373) (cuts := cu373) trivial ke373 (fun cu h => by cases h) rfl
/-! HookSwingsModel.calm(IIZ)J -/
def kt374 : KT := ([.inl (.inr (.inr (some 76))), .inl (.inl 4), .inl (.inl 7), .inr (false, 0, 1)], some (.inr (true, 256, 625)), [], [], [(77, 16, .inr (false, 0, 9999))], [(77, 16, .inr (false, 0, 9999))], [], 2)
def ct374 : CTB := []
def cu374 : List CU := []
theorem ke374 : chkE JB ct374 cu374 kt374 1 280 = true := by decide +kernel
theorem ok374 {β : Nat} : KOK JB (W0 β) 280 kt374 := KOK_of W0_f (CT := ct374) (cuts := cu374) trivial ke374 (fun cu h => by cases h) rfl
/-! HookSwingsModel.calm(IIZ)J -/
def kt375 : KT := ([.inl (.inr (.inr (some 76))), .inl (.inl 4), .inl (.inl 8), .inr (false, 0, 1)], some (.inr (true, 6561, 10000)), [], [], [(77, 16, .inr (false, 0, 9999))], [(77, 16, .inr (false, 0, 9999))], [], 2)
def ct375 : CTB := []
def cu375 : List CU := []
theorem ke375 : chkE JB ct375 cu375 kt375 1 280 = true := by decide +kernel
theorem ok375 {β : Nat} : KOK JB (W0 β) 280 kt375 := KOK_of W0_f (CT := ct375) (cuts := cu375) trivial ke375 (fun cu h => by cases h) rfl
/-! HookSwingsModel.calm(IIZ)J -/
def kt376 : KT := ([.inl (.inr (.inr (some 76))), .inl (.inl 4), .inl (.inl 9), .inr (false, 0, 1)], some (.inr (true, 1, 1)), [], [], [(77, 16, .inr (false, 0, 9999))], [(77, 16, .inr (false, 0, 9999))], [], 2)
def ct376 : CTB := []
def cu376 : List CU := []
theorem ke376 : chkE JB ct376 cu376 kt376 1 280 = true := by decide +kernel
theorem ok376 {β : Nat} : KOK JB (W0 β) 280 kt376 := KOK_of W0_f (CT := ct376) (cuts := cu376) trivial ke376 (fun cu h => by cases h) rfl
/-! HookSwingsModel.calm(IIZ)J -/
def kt377 : KT := ([.inl (.inr (.inr (some 76))), .inl (.inl 4), .inr (false, (-2147483648), (-1)), .inr (false, 0, 1)], some (.inr (true, (-1), (-1))), [], [], [(77, 16, .inr (false, 0, 9999))], [(77, 16, .inr (false, 0, 9999))], [], 2)
def ct377 : CTB := []
def cu377 : List CU := []
theorem ke377 : chkE JB ct377 cu377 kt377 1 280 = true := by decide +kernel
theorem ok377 {β : Nat} : KOK JB (W0 β) 280 kt377 := KOK_of W0_f (CT := ct377) (cuts := cu377) trivial ke377 (fun cu h => by cases h) rfl
/-! HookSwingsModel.calm(IIZ)J -/
def kt378 : KT := ([.inl (.inr (.inr (some 76))), .inl (.inl 4), .inr (false, 10, 2147483647), .inr (false, 0, 1)], some (.inr (true, (-1), (-1))), [], [], [(77, 16, .inr (false, 0, 9999))], [(77, 16, .inr (false, 0, 9999))], [], 2)
def ct378 : CTB := []
def cu378 : List CU := []
theorem ke378 : chkE JB ct378 cu378 kt378 1 280 = true := by decide +kernel
theorem ok378 {β : Nat} : KOK JB (W0 β) 280 kt378 := KOK_of W0_f (CT := ct378) (cuts := cu378) trivial ke378 (fun cu h => by cases h) rfl
/-! HookSwingsModel.calm(IIZ)J -/
def kt379 : KT := ([.inl (.inr (.inr (some 76))), .inl (.inl 5), .inl (.inl 0), .inr (false, 0, 1)], some (.inr (true, 1, 100000)), [], [], [(77, 16, .inr (false, 0, 9999))], [(77, 16, .inr (false, 0, 9999))], [], 2)
def ct379 : CTB := []
def cu379 : List CU := []
theorem ke379 : chkE JB ct379 cu379 kt379 1 280 = true := by decide +kernel
theorem ok379 {β : Nat} : KOK JB (W0 β) 280 kt379 := KOK_of W0_f (CT := ct379) (cuts := cu379) trivial ke379 (fun cu h => by cases h) rfl
/-! HookSwingsModel.calm(IIZ)J -/
def kt380 : KT := ([.inl (.inr (.inr (some 76))), .inl (.inl 5), .inl (.inl 1), .inr (false, 0, 1)], some (.inr (true, 1, 3125)), [], [], [(77, 16, .inr (false, 0, 9999))], [(77, 16, .inr (false, 0, 9999))], [], 2)
def ct380 : CTB := []
def cu380 : List CU := []
theorem ke380 : chkE JB ct380 cu380 kt380 1 280 = true := by decide +kernel
theorem ok380 {β : Nat} : KOK JB (W0 β) 280 kt380 := KOK_of W0_f (CT := ct380) (cuts := cu380) trivial ke380 (fun cu h => by cases h) rfl
/-! HookSwingsModel.calm(IIZ)J -/
def kt381 : KT := ([.inl (.inr (.inr (some 76))), .inl (.inl 5), .inl (.inl 2), .inr (false, 0, 1)], some (.inr (true, 243, 100000)), [], [], [(77, 16, .inr (false, 0, 9999))], [(77, 16, .inr (false, 0, 9999))], [], 2)
def ct381 : CTB := []
def cu381 : List CU := []
theorem ke381 : chkE JB ct381 cu381 kt381 1 280 = true := by decide +kernel
theorem ok381 {β : Nat} : KOK JB (W0 β) 280 kt381 := KOK_of W0_f (CT := ct381) (cuts := cu381) trivial ke381 (fun cu h => by cases h) rfl
/-! HookSwingsModel.calm(IIZ)J -/
def kt382 : KT := ([.inl (.inr (.inr (some 76))), .inl (.inl 5), .inl (.inl 3), .inr (false, 0, 1)], some (.inr (true, 32, 3125)), [], [], [(77, 16, .inr (false, 0, 9999))], [(77, 16, .inr (false, 0, 9999))], [], 2)
def ct382 : CTB := []
def cu382 : List CU := []
theorem ke382 : chkE JB ct382 cu382 kt382 1 280 = true := by decide +kernel
theorem ok382 {β : Nat} : KOK JB (W0 β) 280 kt382 := KOK_of W0_f (CT := ct382) (cuts := cu382) trivial ke382 (fun cu h => by cases h) rfl
/-! HookSwingsModel.calm(IIZ)J -/
def kt383 : KT := ([.inl (.inr (.inr (some 76))), .inl (.inl 5), .inl (.inl 4), .inr (false, 0, 1)], some (.inr (true, 1, 32)), [], [], [(77, 16, .inr (false, 0, 9999))], [(77, 16, .inr (false, 0, 9999))], [], 2)
def ct383 : CTB := []
def cu383 : List CU := []
theorem ke383 : chkE JB ct383 cu383 kt383 1 280 = true := by decide +kernel
theorem ok383 {β : Nat} : KOK JB (W0 β) 280 kt383 := KOK_of W0_f (CT := ct383) (cuts := cu383) trivial ke383 (fun cu h => by cases h) rfl
/-! HookSwingsModel.calm(IIZ)J -/
def kt384 : KT := ([.inl (.inr (.inr (some 76))), .inl (.inl 5), .inl (.inl 5), .inr (false, 0, 1)], some (.inr (true, 243, 3125)), [], [], [(77, 16, .inr (false, 0, 9999))], [(77, 16, .inr (false, 0, 9999))], [], 2)
def ct384 : CTB := []
def cu384 : List CU := []
theorem ke384 : chkE JB ct384 cu384 kt384 1 280 = true := by decide +kernel
theorem ok384 {β : Nat} : KOK JB (W0 β) 280 kt384 := KOK_of W0_f (CT := ct384) (cuts := cu384) trivial ke384 (fun cu h => by cases h) rfl
/-! HookSwingsModel.calm(IIZ)J -/
def kt385 : KT := ([.inl (.inr (.inr (some 76))), .inl (.inl 5), .inl (.inl 6), .inr (false, 0, 1)], some (.inr (true, 16807, 100000)), [], [], [(77, 16, .inr (false, 0, 9999))], [(77, 16, .inr (false, 0, 9999))], [], 2)
def ct385 : CTB := []
def cu385 : List CU := []
theorem ke385 : chkE JB ct385 cu385 kt385 1 280 = true := by decide +kernel
theorem ok385 {β : Nat} : KOK JB (W0 β) 280 kt385 := KOK_of W0_f (CT := ct385) (cuts := cu385) trivial ke385 (fun cu h => by cases h) rfl
/-! HookSwingsModel.calm(IIZ)J -/
def kt386 : KT := ([.inl (.inr (.inr (some 76))), .inl (.inl 5), .inl (.inl 7), .inr (false, 0, 1)], some (.inr (true, 1024, 3125)), [], [], [(77, 16, .inr (false, 0, 9999))], [(77, 16, .inr (false, 0, 9999))], [], 2)
def ct386 : CTB := []
def cu386 : List CU := []
theorem ke386 : chkE JB ct386 cu386 kt386 1 280 = true := by decide +kernel
theorem ok386 {β : Nat} : KOK JB (W0 β) 280 kt386 := KOK_of W0_f (CT := ct386) (cuts := cu386) trivial ke386 (fun cu h => by cases h) rfl
/-! HookSwingsModel.calm(IIZ)J -/
def kt387 : KT := ([.inl (.inr (.inr (some 76))), .inl (.inl 5), .inl (.inl 8), .inr (false, 0, 1)], some (.inr (true, 59049, 100000)), [], [], [(77, 16, .inr (false, 0, 9999))], [(77, 16, .inr (false, 0, 9999))], [], 2)
def ct387 : CTB := []
def cu387 : List CU := []
theorem ke387 : chkE JB ct387 cu387 kt387 1 280 = true := by decide +kernel
theorem ok387 {β : Nat} : KOK JB (W0 β) 280 kt387 := KOK_of W0_f (CT := ct387) (cuts := cu387) trivial ke387 (fun cu h => by cases h) rfl
/-! HookSwingsModel.calm(IIZ)J -/
def kt388 : KT := ([.inl (.inr (.inr (some 76))), .inl (.inl 5), .inl (.inl 9), .inr (false, 0, 1)], some (.inr (true, 1, 1)), [], [], [(77, 16, .inr (false, 0, 9999))], [(77, 16, .inr (false, 0, 9999))], [], 2)
def ct388 : CTB := []
def cu388 : List CU := []
theorem ke388 : chkE JB ct388 cu388 kt388 1 280 = true := by decide +kernel
theorem ok388 {β : Nat} : KOK JB (W0 β) 280 kt388 := KOK_of W0_f (CT := ct388) (cuts := cu388) trivial ke388 (fun cu h => by cases h) rfl
/-! HookSwingsModel.calm(IIZ)J -/
def kt389 : KT := ([.inl (.inr (.inr (some 76))), .inl (.inl 5), .inr (false, (-2147483648), (-1)), .inr (false, 0, 1)], some (.inr (true, (-1), (-1))), [], [], [(77, 16, .inr (false, 0, 9999))], [(77, 16, .inr (false, 0, 9999))], [], 2)
def ct389 : CTB := []
def cu389 : List CU := []
theorem ke389 : chkE JB ct389 cu389 kt389 1 280 = true := by decide +kernel
theorem ok389 {β : Nat} : KOK JB (W0 β) 280 kt389 := KOK_of W0_f (CT := ct389) (cuts := cu389) trivial ke389 (fun cu h => by cases h) rfl
/-! HookSwingsModel.calm(IIZ)J -/
def kt390 : KT := ([.inl (.inr (.inr (some 76))), .inl (.inl 5), .inr (false, 10, 2147483647), .inr (false, 0, 1)], some (.inr (true, (-1), (-1))), [], [], [(77, 16, .inr (false, 0, 9999))], [(77, 16, .inr (false, 0, 9999))], [], 2)
def ct390 : CTB := []
def cu390 : List CU := []
theorem ke390 : chkE JB ct390 cu390 kt390 1 280 = true := by decide +kernel
theorem ok390 {β : Nat} : KOK JB (W0 β) 280 kt390 := KOK_of W0_f (CT := ct390) (cuts := cu390) trivial ke390 (fun cu h => by cases h) rfl
/-! HookSwingsModel.calm(IIZ)J -/
def kt391 : KT := ([.inl (.inr (.inr (some 76))), .inl (.inl 6), .inl (.inl 0), .inr (false, 0, 1)], some (.inr (true, 1, 1000000)), [], [], [(77, 16, .inr (false, 0, 9999))], [(77, 16, .inr (false, 0, 9999))], [], 2)
def ct391 : CTB := []
def cu391 : List CU := []
theorem ke391 : chkE JB ct391 cu391 kt391 1 280 = true := by decide +kernel
theorem ok391 {β : Nat} : KOK JB (W0 β) 280 kt391 := KOK_of W0_f (CT := ct391) (cuts := cu391) trivial ke391 (fun cu h => by cases h) rfl
/-! HookSwingsModel.calm(IIZ)J -/
def kt392 : KT := ([.inl (.inr (.inr (some 76))), .inl (.inl 6), .inl (.inl 1), .inr (false, 0, 1)], some (.inr (true, 1, 15625)), [], [], [(77, 16, .inr (false, 0, 9999))], [(77, 16, .inr (false, 0, 9999))], [], 2)
def ct392 : CTB := []
def cu392 : List CU := []
theorem ke392 : chkE JB ct392 cu392 kt392 1 280 = true := by decide +kernel
theorem ok392 {β : Nat} : KOK JB (W0 β) 280 kt392 := KOK_of W0_f (CT := ct392) (cuts := cu392) trivial ke392 (fun cu h => by cases h) rfl
/-! HookSwingsModel.calm(IIZ)J -/
def kt393 : KT := ([.inl (.inr (.inr (some 76))), .inl (.inl 6), .inl (.inl 2), .inr (false, 0, 1)], some (.inr (true, 729, 1000000)), [], [], [(77, 16, .inr (false, 0, 9999))], [(77, 16, .inr (false, 0, 9999))], [], 2)
def ct393 : CTB := []
def cu393 : List CU := []
theorem ke393 : chkE JB ct393 cu393 kt393 1 280 = true := by decide +kernel
theorem ok393 {β : Nat} : KOK JB (W0 β) 280 kt393 := KOK_of W0_f (CT := ct393) (cuts := cu393) trivial ke393 (fun cu h => by cases h) rfl
/-! HookSwingsModel.calm(IIZ)J -/
def kt394 : KT := ([.inl (.inr (.inr (some 76))), .inl (.inl 6), .inl (.inl 3), .inr (false, 0, 1)], some (.inr (true, 64, 15625)), [], [], [(77, 16, .inr (false, 0, 9999))], [(77, 16, .inr (false, 0, 9999))], [], 2)
def ct394 : CTB := []
def cu394 : List CU := []
theorem ke394 : chkE JB ct394 cu394 kt394 1 280 = true := by decide +kernel
theorem ok394 {β : Nat} : KOK JB (W0 β) 280 kt394 := KOK_of W0_f (CT := ct394) (cuts := cu394) trivial ke394 (fun cu h => by cases h) rfl
/-! HookSwingsModel.calm(IIZ)J -/
def kt395 : KT := ([.inl (.inr (.inr (some 76))), .inl (.inl 6), .inl (.inl 4), .inr (false, 0, 1)], some (.inr (true, 1, 64)), [], [], [(77, 16, .inr (false, 0, 9999))], [(77, 16, .inr (false, 0, 9999))], [], 2)
def ct395 : CTB := []
def cu395 : List CU := []
theorem ke395 : chkE JB ct395 cu395 kt395 1 280 = true := by decide +kernel
theorem ok395 {β : Nat} : KOK JB (W0 β) 280 kt395 := KOK_of W0_f (CT := ct395) (cuts := cu395) trivial ke395 (fun cu h => by cases h) rfl
/-! HookSwingsModel.calm(IIZ)J -/
def kt396 : KT := ([.inl (.inr (.inr (some 76))), .inl (.inl 6), .inl (.inl 5), .inr (false, 0, 1)], some (.inr (true, 729, 15625)), [], [], [(77, 16, .inr (false, 0, 9999))], [(77, 16, .inr (false, 0, 9999))], [], 2)
def ct396 : CTB := []
def cu396 : List CU := []
theorem ke396 : chkE JB ct396 cu396 kt396 1 280 = true := by decide +kernel
theorem ok396 {β : Nat} : KOK JB (W0 β) 280 kt396 := KOK_of W0_f (CT := ct396) (cuts := cu396) trivial ke396 (fun cu h => by cases h) rfl
/-! HookSwingsModel.calm(IIZ)J -/
def kt397 : KT := ([.inl (.inr (.inr (some 76))), .inl (.inl 6), .inl (.inl 6), .inr (false, 0, 1)], some (.inr (true, 117649, 1000000)), [], [], [(77, 16, .inr (false, 0, 9999))], [(77, 16, .inr (false, 0, 9999))], [], 2)
def ct397 : CTB := []
def cu397 : List CU := []
theorem ke397 : chkE JB ct397 cu397 kt397 1 280 = true := by decide +kernel
theorem ok397 {β : Nat} : KOK JB (W0 β) 280 kt397 := KOK_of W0_f (CT := ct397) (cuts := cu397) trivial ke397 (fun cu h => by cases h) rfl
/-! HookSwingsModel.calm(IIZ)J -/
def kt398 : KT := ([.inl (.inr (.inr (some 76))), .inl (.inl 6), .inl (.inl 7), .inr (false, 0, 1)], some (.inr (true, 4096, 15625)), [], [], [(77, 16, .inr (false, 0, 9999))], [(77, 16, .inr (false, 0, 9999))], [], 2)
def ct398 : CTB := []
def cu398 : List CU := []
theorem ke398 : chkE JB ct398 cu398 kt398 1 280 = true := by decide +kernel
theorem ok398 {β : Nat} : KOK JB (W0 β) 280 kt398 := KOK_of W0_f (CT := ct398) (cuts := cu398) trivial ke398 (fun cu h => by cases h) rfl
/-! HookSwingsModel.calm(IIZ)J -/
def kt399 : KT := ([.inl (.inr (.inr (some 76))), .inl (.inl 6), .inl (.inl 8), .inr (false, 0, 1)], some (.inr (true, 531441, 1000000)), [], [], [(77, 16, .inr (false, 0, 9999))], [(77, 16, .inr (false, 0, 9999))], [], 2)
def ct399 : CTB := []
def cu399 : List CU := []
theorem ke399 : chkE JB ct399 cu399 kt399 1 280 = true := by decide +kernel
theorem ok399 {β : Nat} : KOK JB (W0 β) 280 kt399 := KOK_of W0_f (CT := ct399) (cuts := cu399) trivial ke399 (fun cu h => by cases h) rfl
/-! HookSwingsModel.calm(IIZ)J -/
def kt400 : KT := ([.inl (.inr (.inr (some 76))), .inl (.inl 6), .inl (.inl 9), .inr (false, 0, 1)], some (.inr (true, 1, 1)), [], [], [(77, 16, .inr (false, 0, 9999))], [(77, 16, .inr (false, 0, 9999))], [], 2)
def ct400 : CTB := []
def cu400 : List CU := []
theorem ke400 : chkE JB ct400 cu400 kt400 1 280 = true := by decide +kernel
theorem ok400 {β : Nat} : KOK JB (W0 β) 280 kt400 := KOK_of W0_f (CT := ct400) (cuts := cu400) trivial ke400 (fun cu h => by cases h) rfl
/-! HookSwingsModel.calm(IIZ)J -/
def kt401 : KT := ([.inl (.inr (.inr (some 76))), .inl (.inl 6), .inr (false, (-2147483648), (-1)), .inr (false, 0, 1)], some (.inr (true, (-1), (-1))), [], [], [(77, 16, .inr (false, 0, 9999))], [(77, 16, .inr (false, 0, 9999))], [], 2)
def ct401 : CTB := []
def cu401 : List CU := []
theorem ke401 : chkE JB ct401 cu401 kt401 1 280 = true := by decide +kernel
theorem ok401 {β : Nat} : KOK JB (W0 β) 280 kt401 := KOK_of W0_f (CT := ct401) (cuts := cu401) trivial ke401 (fun cu h => by cases h) rfl
/-! HookSwingsModel.calm(IIZ)J -/
def kt402 : KT := ([.inl (.inr (.inr (some 76))), .inl (.inl 6), .inr (false, 10, 2147483647), .inr (false, 0, 1)], some (.inr (true, (-1), (-1))), [], [], [(77, 16, .inr (false, 0, 9999))], [(77, 16, .inr (false, 0, 9999))], [], 2)
def ct402 : CTB := []
def cu402 : List CU := []
theorem ke402 : chkE JB ct402 cu402 kt402 1 280 = true := by decide +kernel
theorem ok402 {β : Nat} : KOK JB (W0 β) 280 kt402 := KOK_of W0_f (CT := ct402) (cuts := cu402) trivial ke402 (fun cu h => by cases h) rfl
/-! HookSwingsModel.calm(IIZ)J -/
def kt403 : KT := ([.inl (.inr (.inr (some 76))), .inl (.inl 7), .inl (.inl 0), .inr (false, 0, 1)], some (.inr (true, 1, 10000000)), [], [], [(77, 16, .inr (false, 0, 9999))], [(77, 16, .inr (false, 0, 9999))], [], 2)
def ct403 : CTB := []
def cu403 : List CU := []
theorem ke403 : chkE JB ct403 cu403 kt403 1 280 = true := by decide +kernel
theorem ok403 {β : Nat} : KOK JB (W0 β) 280 kt403 := KOK_of W0_f (CT := ct403) (cuts := cu403) trivial ke403 (fun cu h => by cases h) rfl
/-! HookSwingsModel.calm(IIZ)J -/
def kt404 : KT := ([.inl (.inr (.inr (some 76))), .inl (.inl 7), .inl (.inl 1), .inr (false, 0, 1)], some (.inr (true, 1, 78125)), [], [], [(77, 16, .inr (false, 0, 9999))], [(77, 16, .inr (false, 0, 9999))], [], 2)
def ct404 : CTB := []
def cu404 : List CU := []
theorem ke404 : chkE JB ct404 cu404 kt404 1 280 = true := by decide +kernel
theorem ok404 {β : Nat} : KOK JB (W0 β) 280 kt404 := KOK_of W0_f (CT := ct404) (cuts := cu404) trivial ke404 (fun cu h => by cases h) rfl
/-! HookSwingsModel.calm(IIZ)J -/
def kt405 : KT := ([.inl (.inr (.inr (some 76))), .inl (.inl 7), .inl (.inl 2), .inr (false, 0, 1)], some (.inr (true, 2187, 10000000)), [], [], [(77, 16, .inr (false, 0, 9999))], [(77, 16, .inr (false, 0, 9999))], [], 2)
def ct405 : CTB := []
def cu405 : List CU := []
theorem ke405 : chkE JB ct405 cu405 kt405 1 280 = true := by decide +kernel
theorem ok405 {β : Nat} : KOK JB (W0 β) 280 kt405 := KOK_of W0_f (CT := ct405) (cuts := cu405) trivial ke405 (fun cu h => by cases h) rfl
/-! HookSwingsModel.calm(IIZ)J -/
def kt406 : KT := ([.inl (.inr (.inr (some 76))), .inl (.inl 7), .inl (.inl 3), .inr (false, 0, 1)], some (.inr (true, 128, 78125)), [], [], [(77, 16, .inr (false, 0, 9999))], [(77, 16, .inr (false, 0, 9999))], [], 2)
def ct406 : CTB := []
def cu406 : List CU := []
theorem ke406 : chkE JB ct406 cu406 kt406 1 280 = true := by decide +kernel
theorem ok406 {β : Nat} : KOK JB (W0 β) 280 kt406 := KOK_of W0_f (CT := ct406) (cuts := cu406) trivial ke406 (fun cu h => by cases h) rfl
/-! HookSwingsModel.calm(IIZ)J -/
def kt407 : KT := ([.inl (.inr (.inr (some 76))), .inl (.inl 7), .inl (.inl 4), .inr (false, 0, 1)], some (.inr (true, 1, 128)), [], [], [(77, 16, .inr (false, 0, 9999))], [(77, 16, .inr (false, 0, 9999))], [], 2)
def ct407 : CTB := []
def cu407 : List CU := []
theorem ke407 : chkE JB ct407 cu407 kt407 1 280 = true := by decide +kernel
theorem ok407 {β : Nat} : KOK JB (W0 β) 280 kt407 := KOK_of W0_f (CT := ct407) (cuts := cu407) trivial ke407 (fun cu h => by cases h) rfl
/-! HookSwingsModel.calm(IIZ)J -/
def kt408 : KT := ([.inl (.inr (.inr (some 76))), .inl (.inl 7), .inl (.inl 5), .inr (false, 0, 1)], some (.inr (true, 2187, 78125)), [], [], [(77, 16, .inr (false, 0, 9999))], [(77, 16, .inr (false, 0, 9999))], [], 2)
def ct408 : CTB := []
def cu408 : List CU := []
theorem ke408 : chkE JB ct408 cu408 kt408 1 280 = true := by decide +kernel
theorem ok408 {β : Nat} : KOK JB (W0 β) 280 kt408 := KOK_of W0_f (CT := ct408) (cuts := cu408) trivial ke408 (fun cu h => by cases h) rfl
/-! HookSwingsModel.calm(IIZ)J -/
def kt409 : KT := ([.inl (.inr (.inr (some 76))), .inl (.inl 7), .inl (.inl 6), .inr (false, 0, 1)], some (.inr (true, 823543, 10000000)), [], [], [(77, 16, .inr (false, 0, 9999))], [(77, 16, .inr (false, 0, 9999))], [], 2)
def ct409 : CTB := []
def cu409 : List CU := []
theorem ke409 : chkE JB ct409 cu409 kt409 1 280 = true := by decide +kernel
theorem ok409 {β : Nat} : KOK JB (W0 β) 280 kt409 := KOK_of W0_f (CT := ct409) (cuts := cu409) trivial ke409 (fun cu h => by cases h) rfl
/-! HookSwingsModel.calm(IIZ)J -/
def kt410 : KT := ([.inl (.inr (.inr (some 76))), .inl (.inl 7), .inl (.inl 7), .inr (false, 0, 1)], some (.inr (true, 16384, 78125)), [], [], [(77, 16, .inr (false, 0, 9999))], [(77, 16, .inr (false, 0, 9999))], [], 2)
def ct410 : CTB := []
def cu410 : List CU := []
theorem ke410 : chkE JB ct410 cu410 kt410 1 280 = true := by decide +kernel
theorem ok410 {β : Nat} : KOK JB (W0 β) 280 kt410 := KOK_of W0_f (CT := ct410) (cuts := cu410) trivial ke410 (fun cu h => by cases h) rfl
/-! HookSwingsModel.calm(IIZ)J -/
def kt411 : KT := ([.inl (.inr (.inr (some 76))), .inl (.inl 7), .inl (.inl 8), .inr (false, 0, 1)], some (.inr (true, 4782969, 10000000)), [], [], [(77, 16, .inr (false, 0, 9999))], [(77, 16, .inr (false, 0, 9999))], [], 2)
def ct411 : CTB := []
def cu411 : List CU := []
theorem ke411 : chkE JB ct411 cu411 kt411 1 280 = true := by decide +kernel
theorem ok411 {β : Nat} : KOK JB (W0 β) 280 kt411 := KOK_of W0_f (CT := ct411) (cuts := cu411) trivial ke411 (fun cu h => by cases h) rfl
/-! HookSwingsModel.calm(IIZ)J -/
def kt412 : KT := ([.inl (.inr (.inr (some 76))), .inl (.inl 7), .inl (.inl 9), .inr (false, 0, 1)], some (.inr (true, 1, 1)), [], [], [(77, 16, .inr (false, 0, 9999))], [(77, 16, .inr (false, 0, 9999))], [], 2)
def ct412 : CTB := []
def cu412 : List CU := []
theorem ke412 : chkE JB ct412 cu412 kt412 1 280 = true := by decide +kernel
theorem ok412 {β : Nat} : KOK JB (W0 β) 280 kt412 := KOK_of W0_f (CT := ct412) (cuts := cu412) trivial ke412 (fun cu h => by cases h) rfl
/-! HookSwingsModel.calm(IIZ)J -/
def kt413 : KT := ([.inl (.inr (.inr (some 76))), .inl (.inl 7), .inr (false, (-2147483648), (-1)), .inr (false, 0, 1)], some (.inr (true, (-1), (-1))), [], [], [(77, 16, .inr (false, 0, 9999))], [(77, 16, .inr (false, 0, 9999))], [], 2)
def ct413 : CTB := []
def cu413 : List CU := []
theorem ke413 : chkE JB ct413 cu413 kt413 1 280 = true := by decide +kernel
theorem ok413 {β : Nat} : KOK JB (W0 β) 280 kt413 := KOK_of W0_f (CT := ct413) (cuts := cu413) trivial ke413 (fun cu h => by cases h) rfl
/-! HookSwingsModel.calm(IIZ)J -/
def kt414 : KT := ([.inl (.inr (.inr (some 76))), .inl (.inl 7), .inr (false, 10, 2147483647), .inr (false, 0, 1)], some (.inr (true, (-1), (-1))), [], [], [(77, 16, .inr (false, 0, 9999))], [(77, 16, .inr (false, 0, 9999))], [], 2)
def ct414 : CTB := []
def cu414 : List CU := []
theorem ke414 : chkE JB ct414 cu414 kt414 1 280 = true := by decide +kernel
theorem ok414 {β : Nat} : KOK JB (W0 β) 280 kt414 := KOK_of W0_f (CT := ct414) (cuts := cu414) trivial ke414 (fun cu h => by cases h) rfl
/-! HookSwingsModel.calm(IIZ)J -/
def kt415 : KT := ([.inl (.inr (.inr (some 76))), .inl (.inl 8), .inl (.inl 0), .inr (false, 0, 1)], some (.inr (true, 1, 100000000)), [], [], [(77, 16, .inr (false, 0, 9999))], [(77, 16, .inr (false, 0, 9999))], [], 2)
def ct415 : CTB := []
def cu415 : List CU := []
theorem ke415 : chkE JB ct415 cu415 kt415 1 280 = true := by decide +kernel
theorem ok415 {β : Nat} : KOK JB (W0 β) 280 kt415 := KOK_of W0_f (CT := ct415) (cuts := cu415) trivial ke415 (fun cu h => by cases h) rfl
/-! HookSwingsModel.calm(IIZ)J -/
def kt416 : KT := ([.inl (.inr (.inr (some 76))), .inl (.inl 8), .inl (.inl 1), .inr (false, 0, 1)], some (.inr (true, 1, 390625)), [], [], [(77, 16, .inr (false, 0, 9999))], [(77, 16, .inr (false, 0, 9999))], [], 2)
def ct416 : CTB := []
def cu416 : List CU := []
theorem ke416 : chkE JB ct416 cu416 kt416 1 280 = true := by decide +kernel
theorem ok416 {β : Nat} : KOK JB (W0 β) 280 kt416 := KOK_of W0_f (CT := ct416) (cuts := cu416) trivial ke416 (fun cu h => by cases h) rfl
/-! HookSwingsModel.calm(IIZ)J -/
def kt417 : KT := ([.inl (.inr (.inr (some 76))), .inl (.inl 8), .inl (.inl 2), .inr (false, 0, 1)], some (.inr (true, 6561, 100000000)), [], [], [(77, 16, .inr (false, 0, 9999))], [(77, 16, .inr (false, 0, 9999))], [], 2)
def ct417 : CTB := []
def cu417 : List CU := []
theorem ke417 : chkE JB ct417 cu417 kt417 1 280 = true := by decide +kernel
theorem ok417 {β : Nat} : KOK JB (W0 β) 280 kt417 := KOK_of W0_f (CT := ct417) (cuts := cu417) trivial ke417 (fun cu h => by cases h) rfl
/-! HookSwingsModel.calm(IIZ)J -/
def kt418 : KT := ([.inl (.inr (.inr (some 76))), .inl (.inl 8), .inl (.inl 3), .inr (false, 0, 1)], some (.inr (true, 256, 390625)), [], [], [(77, 16, .inr (false, 0, 9999))], [(77, 16, .inr (false, 0, 9999))], [], 2)
def ct418 : CTB := []
def cu418 : List CU := []
theorem ke418 : chkE JB ct418 cu418 kt418 1 280 = true := by decide +kernel
theorem ok418 {β : Nat} : KOK JB (W0 β) 280 kt418 := KOK_of W0_f (CT := ct418) (cuts := cu418) trivial ke418 (fun cu h => by cases h) rfl
/-! HookSwingsModel.calm(IIZ)J -/
def kt419 : KT := ([.inl (.inr (.inr (some 76))), .inl (.inl 8), .inl (.inl 4), .inr (false, 0, 1)], some (.inr (true, 1, 256)), [], [], [(77, 16, .inr (false, 0, 9999))], [(77, 16, .inr (false, 0, 9999))], [], 2)
def ct419 : CTB := []
def cu419 : List CU := []
theorem ke419 : chkE JB ct419 cu419 kt419 1 280 = true := by decide +kernel
theorem ok419 {β : Nat} : KOK JB (W0 β) 280 kt419 := KOK_of W0_f (CT := ct419) (cuts := cu419) trivial ke419 (fun cu h => by cases h) rfl
/-! HookSwingsModel.calm(IIZ)J -/
def kt420 : KT := ([.inl (.inr (.inr (some 76))), .inl (.inl 8), .inl (.inl 5), .inr (false, 0, 1)], some (.inr (true, 6561, 390625)), [], [], [(77, 16, .inr (false, 0, 9999))], [(77, 16, .inr (false, 0, 9999))], [], 2)
def ct420 : CTB := []
def cu420 : List CU := []
theorem ke420 : chkE JB ct420 cu420 kt420 1 280 = true := by decide +kernel
theorem ok420 {β : Nat} : KOK JB (W0 β) 280 kt420 := KOK_of W0_f (CT := ct420) (cuts := cu420) trivial ke420 (fun cu h => by cases h) rfl
/-! HookSwingsModel.calm(IIZ)J -/
def kt421 : KT := ([.inl (.inr (.inr (some 76))), .inl (.inl 8), .inl (.inl 6), .inr (false, 0, 1)], some (.inr (true, 5764801, 100000000)), [], [], [(77, 16, .inr (false, 0, 9999))], [(77, 16, .inr (false, 0, 9999))], [], 2)
def ct421 : CTB := []
def cu421 : List CU := []
theorem ke421 : chkE JB ct421 cu421 kt421 1 280 = true := by decide +kernel
theorem ok421 {β : Nat} : KOK JB (W0 β) 280 kt421 := KOK_of W0_f (CT := ct421) (cuts := cu421) trivial ke421 (fun cu h => by cases h) rfl
/-! HookSwingsModel.calm(IIZ)J -/
def kt422 : KT := ([.inl (.inr (.inr (some 76))), .inl (.inl 8), .inl (.inl 7), .inr (false, 0, 1)], some (.inr (true, 65536, 390625)), [], [], [(77, 16, .inr (false, 0, 9999))], [(77, 16, .inr (false, 0, 9999))], [], 2)
def ct422 : CTB := []
def cu422 : List CU := []
theorem ke422 : chkE JB ct422 cu422 kt422 1 280 = true := by decide +kernel
theorem ok422 {β : Nat} : KOK JB (W0 β) 280 kt422 := KOK_of W0_f (CT := ct422) (cuts := cu422) trivial ke422 (fun cu h => by cases h) rfl
/-! HookSwingsModel.calm(IIZ)J -/
def kt423 : KT := ([.inl (.inr (.inr (some 76))), .inl (.inl 8), .inl (.inl 8), .inr (false, 0, 1)], some (.inr (true, 43046721, 100000000)), [], [], [(77, 16, .inr (false, 0, 9999))], [(77, 16, .inr (false, 0, 9999))], [], 2)
def ct423 : CTB := []
def cu423 : List CU := []
theorem ke423 : chkE JB ct423 cu423 kt423 1 280 = true := by decide +kernel
theorem ok423 {β : Nat} : KOK JB (W0 β) 280 kt423 := KOK_of W0_f (CT := ct423) (cuts := cu423) trivial ke423 (fun cu h => by cases h) rfl
/-! HookSwingsModel.calm(IIZ)J -/
def kt424 : KT := ([.inl (.inr (.inr (some 76))), .inl (.inl 8), .inl (.inl 9), .inr (false, 0, 1)], some (.inr (true, 1, 1)), [], [], [(77, 16, .inr (false, 0, 9999))], [(77, 16, .inr (false, 0, 9999))], [], 2)
def ct424 : CTB := []
def cu424 : List CU := []
theorem ke424 : chkE JB ct424 cu424 kt424 1 280 = true := by decide +kernel
theorem ok424 {β : Nat} : KOK JB (W0 β) 280 kt424 := KOK_of W0_f (CT := ct424) (cuts := cu424) trivial ke424 (fun cu h => by cases h) rfl
/-! HookSwingsModel.calm(IIZ)J -/
def kt425 : KT := ([.inl (.inr (.inr (some 76))), .inl (.inl 8), .inr (false, (-2147483648), (-1)), .inr (false, 0, 1)], some (.inr (true, (-1), (-1))), [], [], [(77, 16, .inr (false, 0, 9999))], [(77, 16, .inr (false, 0, 9999))], [], 2)
def ct425 : CTB := []
def cu425 : List CU := []
theorem ke425 : chkE JB ct425 cu425 kt425 1 280 = true := by decide +kernel
theorem ok425 {β : Nat} : KOK JB (W0 β) 280 kt425 := KOK_of W0_f (CT := ct425) (cuts := cu425) trivial ke425 (fun cu h => by cases h) rfl
/-! HookSwingsModel.calm(IIZ)J -/
def kt426 : KT := ([.inl (.inr (.inr (some 76))), .inl (.inl 8), .inr (false, 10, 2147483647), .inr (false, 0, 1)], some (.inr (true, (-1), (-1))), [], [], [(77, 16, .inr (false, 0, 9999))], [(77, 16, .inr (false, 0, 9999))], [], 2)
def ct426 : CTB := []
def cu426 : List CU := []
theorem ke426 : chkE JB ct426 cu426 kt426 1 280 = true := by decide +kernel
theorem ok426 {β : Nat} : KOK JB (W0 β) 280 kt426 := KOK_of W0_f (CT := ct426) (cuts := cu426) trivial ke426 (fun cu h => by cases h) rfl
/-! HookSwingsModel.calm(IIZ)J -/
def kt427 : KT := ([.inl (.inr (.inr (some 76))), .inl (.inl 9), .inl (.inl 0), .inr (false, 0, 1)], some (.inr (true, 1, 1000000000)), [], [], [(77, 16, .inr (false, 0, 9999))], [(77, 16, .inr (false, 0, 9999))], [], 2)
def ct427 : CTB := []
def cu427 : List CU := []
theorem ke427 : chkE JB ct427 cu427 kt427 1 280 = true := by decide +kernel
theorem ok427 {β : Nat} : KOK JB (W0 β) 280 kt427 := KOK_of W0_f (CT := ct427) (cuts := cu427) trivial ke427 (fun cu h => by cases h) rfl
/-! HookSwingsModel.calm(IIZ)J -/
def kt428 : KT := ([.inl (.inr (.inr (some 76))), .inl (.inl 9), .inl (.inl 1), .inr (false, 0, 1)], some (.inr (true, 1, 1953125)), [], [], [(77, 16, .inr (false, 0, 9999))], [(77, 16, .inr (false, 0, 9999))], [], 2)
def ct428 : CTB := []
def cu428 : List CU := []
theorem ke428 : chkE JB ct428 cu428 kt428 1 280 = true := by decide +kernel
theorem ok428 {β : Nat} : KOK JB (W0 β) 280 kt428 := KOK_of W0_f (CT := ct428) (cuts := cu428) trivial ke428 (fun cu h => by cases h) rfl
/-! HookSwingsModel.calm(IIZ)J -/
def kt429 : KT := ([.inl (.inr (.inr (some 76))), .inl (.inl 9), .inl (.inl 2), .inr (false, 0, 1)], some (.inr (true, 19683, 1000000000)), [], [], [(77, 16, .inr (false, 0, 9999))], [(77, 16, .inr (false, 0, 9999))], [], 2)
def ct429 : CTB := []
def cu429 : List CU := []
theorem ke429 : chkE JB ct429 cu429 kt429 1 280 = true := by decide +kernel
theorem ok429 {β : Nat} : KOK JB (W0 β) 280 kt429 := KOK_of W0_f (CT := ct429) (cuts := cu429) trivial ke429 (fun cu h => by cases h) rfl
/-! HookSwingsModel.calm(IIZ)J -/
def kt430 : KT := ([.inl (.inr (.inr (some 76))), .inl (.inl 9), .inl (.inl 3), .inr (false, 0, 1)], some (.inr (true, 512, 1953125)), [], [], [(77, 16, .inr (false, 0, 9999))], [(77, 16, .inr (false, 0, 9999))], [], 2)
def ct430 : CTB := []
def cu430 : List CU := []
theorem ke430 : chkE JB ct430 cu430 kt430 1 280 = true := by decide +kernel
theorem ok430 {β : Nat} : KOK JB (W0 β) 280 kt430 := KOK_of W0_f (CT := ct430) (cuts := cu430) trivial ke430 (fun cu h => by cases h) rfl
/-! HookSwingsModel.calm(IIZ)J -/
def kt431 : KT := ([.inl (.inr (.inr (some 76))), .inl (.inl 9), .inl (.inl 4), .inr (false, 0, 1)], some (.inr (true, 1, 512)), [], [], [(77, 16, .inr (false, 0, 9999))], [(77, 16, .inr (false, 0, 9999))], [], 2)
def ct431 : CTB := []
def cu431 : List CU := []
theorem ke431 : chkE JB ct431 cu431 kt431 1 280 = true := by decide +kernel
theorem ok431 {β : Nat} : KOK JB (W0 β) 280 kt431 := KOK_of W0_f (CT := ct431) (cuts := cu431) trivial ke431 (fun cu h => by cases h) rfl
/-! HookSwingsModel.calm(IIZ)J -/
def kt432 : KT := ([.inl (.inr (.inr (some 76))), .inl (.inl 9), .inl (.inl 5), .inr (false, 0, 1)], some (.inr (true, 19683, 1953125)), [], [], [(77, 16, .inr (false, 0, 9999))], [(77, 16, .inr (false, 0, 9999))], [], 2)
def ct432 : CTB := []
def cu432 : List CU := []
theorem ke432 : chkE JB ct432 cu432 kt432 1 280 = true := by decide +kernel
theorem ok432 {β : Nat} : KOK JB (W0 β) 280 kt432 := KOK_of W0_f (CT := ct432) (cuts := cu432) trivial ke432 (fun cu h => by cases h) rfl
/-! HookSwingsModel.calm(IIZ)J -/
def kt433 : KT := ([.inl (.inr (.inr (some 76))), .inl (.inl 9), .inl (.inl 6), .inr (false, 0, 1)], some (.inr (true, 40353607, 1000000000)), [], [], [(77, 16, .inr (false, 0, 9999))], [(77, 16, .inr (false, 0, 9999))], [], 2)
def ct433 : CTB := []
def cu433 : List CU := []
theorem ke433 : chkE JB ct433 cu433 kt433 1 280 = true := by decide +kernel
theorem ok433 {β : Nat} : KOK JB (W0 β) 280 kt433 := KOK_of W0_f (CT := ct433) (cuts := cu433) trivial ke433 (fun cu h => by cases h) rfl
/-! HookSwingsModel.calm(IIZ)J -/
def kt434 : KT := ([.inl (.inr (.inr (some 76))), .inl (.inl 9), .inl (.inl 7), .inr (false, 0, 1)], some (.inr (true, 262144, 1953125)), [], [], [(77, 16, .inr (false, 0, 9999))], [(77, 16, .inr (false, 0, 9999))], [], 2)
def ct434 : CTB := []
def cu434 : List CU := []
theorem ke434 : chkE JB ct434 cu434 kt434 1 280 = true := by decide +kernel
theorem ok434 {β : Nat} : KOK JB (W0 β) 280 kt434 := KOK_of W0_f (CT := ct434) (cuts := cu434) trivial ke434 (fun cu h => by cases h) rfl
/-! HookSwingsModel.calm(IIZ)J -/
def kt435 : KT := ([.inl (.inr (.inr (some 76))), .inl (.inl 9), .inl (.inl 8), .inr (false, 0, 1)], some (.inr (true, 387420489, 1000000000)), [], [], [(77, 16, .inr (false, 0, 9999))], [(77, 16, .inr (false, 0, 9999))], [], 2)
def ct435 : CTB := []
def cu435 : List CU := []
theorem ke435 : chkE JB ct435 cu435 kt435 1 280 = true := by decide +kernel
theorem ok435 {β : Nat} : KOK JB (W0 β) 280 kt435 := KOK_of W0_f (CT := ct435) (cuts := cu435) trivial ke435 (fun cu h => by cases h) rfl
/-! HookSwingsModel.calm(IIZ)J -/
def kt436 : KT := ([.inl (.inr (.inr (some 76))), .inl (.inl 9), .inl (.inl 9), .inr (false, 0, 1)], some (.inr (true, 1, 1)), [], [], [(77, 16, .inr (false, 0, 9999))], [(77, 16, .inr (false, 0, 9999))], [], 2)
def ct436 : CTB := []
def cu436 : List CU := []
theorem ke436 : chkE JB ct436 cu436 kt436 1 280 = true := by decide +kernel
theorem ok436 {β : Nat} : KOK JB (W0 β) 280 kt436 := KOK_of W0_f (CT := ct436) (cuts := cu436) trivial ke436 (fun cu h => by cases h) rfl
/-! HookSwingsModel.calm(IIZ)J -/
def kt437 : KT := ([.inl (.inr (.inr (some 76))), .inl (.inl 9), .inr (false, (-2147483648), (-1)), .inr (false, 0, 1)], some (.inr (true, (-1), (-1))), [], [], [(77, 16, .inr (false, 0, 9999))], [(77, 16, .inr (false, 0, 9999))], [], 2)
def ct437 : CTB := []
def cu437 : List CU := []
theorem ke437 : chkE JB ct437 cu437 kt437 1 280 = true := by decide +kernel
theorem ok437 {β : Nat} : KOK JB (W0 β) 280 kt437 := KOK_of W0_f (CT := ct437) (cuts := cu437) trivial ke437 (fun cu h => by cases h) rfl
/-! HookSwingsModel.calm(IIZ)J -/
def kt438 : KT := ([.inl (.inr (.inr (some 76))), .inl (.inl 9), .inr (false, 10, 2147483647), .inr (false, 0, 1)], some (.inr (true, (-1), (-1))), [], [], [(77, 16, .inr (false, 0, 9999))], [(77, 16, .inr (false, 0, 9999))], [], 2)
def ct438 : CTB := []
def cu438 : List CU := []
theorem ke438 : chkE JB ct438 cu438 kt438 1 280 = true := by decide +kernel
theorem ok438 {β : Nat} : KOK JB (W0 β) 280 kt438 := KOK_of W0_f (CT := ct438) (cuts := cu438) trivial ke438 (fun cu h => by cases h) rfl
/-! HookSwingsModel.calm(IIZ)J -/
def kt439 : KT := ([.inl (.inr (.inr (some 76))), .inr (false, (-2147483648), 0), .inr (false, (-2147483648), 2147483647), .inr (false, 0, 1)], some (.inr (true, (-1), (-1))), [], [], [(77, 16, .inr (false, 0, 9999))], [(77, 16, .inr (false, 0, 9999))], [], 2)
def ct439 : CTB := []
def cu439 : List CU := []
theorem ke439 : chkE JB ct439 cu439 kt439 1 280 = true := by decide +kernel
theorem ok439 {β : Nat} : KOK JB (W0 β) 280 kt439 := KOK_of W0_f (CT := ct439) (cuts := cu439) trivial ke439 (fun cu h => by cases h) rfl
/-! HookSwingsModel.calm(IIZ)J -/
def kt440 : KT := ([.inl (.inr (.inr (some 76))), .inr (false, 10, 2147483647), .inr (false, (-2147483648), 2147483647), .inr (false, 0, 1)], some (.inr (true, (-1), (-1))), [], [], [(77, 16, .inr (false, 0, 9999))], [(77, 16, .inr (false, 0, 9999))], [], 2)
def ct440 : CTB := []
def cu440 : List CU := []
theorem ke440 : chkE JB ct440 cu440 kt440 1 280 = true := by decide +kernel
theorem ok440 {β : Nat} : KOK JB (W0 β) 280 kt440 := KOK_of W0_f (CT := ct440) (cuts := cu440) trivial ke440 (fun cu h => by cases h) rfl
/-! HookSwingsModel.halves(II)V -/
def kt441 : KT := ([.inl (.inr (.inr (some 76))), .inr (false, 0, 3), .inr (false, 1, 200)], none, [(76, 21, 22), (76, 25, 25), (76, 27, 28), (77, 0, 17), (77, 602, 9817), (82, 0, 8), (83, 0, 330), (84, 0, 330), (85, 0, 17)], [76, 77, 82, 83, 84, 85], [(77, 16, .inr (false, 0, 9999))], [(77, 16, .inr (false, 0, 9999))], [], 10)
def ct441 : CTB := [(184, [kt319]), (243, [kt261]), (251, [kt264]), (253, [kt269])]
def cu441 : List CU := [(16, [some (.inl (.inr (.inr (some 76)))), some (.inr (false, (0, 3, 1, none))), some (.inr (false, (1, 200, 1, none))), some (.inr (false, (1, 201, 1, none))), none], [(77, 16, .inl (0, 10299, 1, some (2, 9998))), (85, 12, .inl (1, 24, 1, none)), (77, 5, .inl (0, 30, 1, none)), (85, 5, .inr 5), (77, 7, .inl (0, 20000, 1, none)), (85, 7, .inr 6)], .inr (3, true, 201), .inl 0, .inl 0)]
theorem ke441 : chkE JB ct441 cu441 kt441 9 281 = true := by decide +kernel
theorem ku441 : aLL cu441 (chkU JB ct441 cu441 kt441 9 281) = true := by decide +kernel
theorem ok441 {β : Nat} : KOK JB (W0 β) 281 kt441 := KOK_of W0_f (CT := ct441) (cuts := cu441) ⟨⟨ok319, trivial⟩, ⟨ok261, trivial⟩, ⟨ok264, trivial⟩, ⟨ok269, trivial⟩, trivial⟩ ke441 (fun cu h => ⟨rfl, aLL_s ku441 cu h⟩) rfl
/-! HookSwingsModel.dies(II)I -/
def kt442 : KT := ([.inl (.inr (.inr (some 76))), .inr (false, (-2147483648), 2147483647), .inr (false, (-2147483648), 2147483647)], some (.inr (false, (-2), 1)), [(76, 21, 22), (76, 25, 25), (76, 27, 28), (77, 0, 17), (77, 602, 9817), (82, 0, 8), (83, 0, 330), (84, 0, 330), (85, 0, 17)], [76, 77, 82, 83, 84, 85], [(77, 16, .inr (false, 0, 9999))], [(77, 16, .inr (false, 0, 9999))], [], 11)
def ct442 : CTB := [(281, [kt441])]
def cu442 : List CU := []
theorem ke442 : chkE JB ct442 cu442 kt442 10 283 = true := by decide +kernel
theorem ok442 {β : Nat} : KOK JB (W0 β) 283 kt442 := KOK_of W0_f (CT := ct442) (cuts := cu442) ⟨⟨ok441, trivial⟩, trivial⟩ ke442 (fun cu h => by cases h) rfl
/-! HookSwingsModel.calmest(I)I -/
def kt443 : KT := ([.inl (.inr (.inr (some 76))), .inr (false, (-2147483648), 2147483647)], some (.inr (false, (-1), 3)), [(76, 21, 22), (76, 25, 25), (76, 27, 28), (77, 0, 17), (77, 602, 9817), (82, 0, 8), (83, 0, 330), (84, 0, 330), (85, 0, 17)], [76, 77, 82, 83, 84, 85], [(77, 16, .inr (false, 0, 9999))], [(77, 16, .inr (false, 0, 9999))], [], 11)
def ct443 : CTB := [(281, [kt441])]
def cu443 : List CU := [(20, [some (.inl (.inr (.inr (some 76)))), some (.inr (false, (1, 200, 1, none))), some (.inr (false, ((-1), 3, 1, none))), some (.inr (false, (0, 2147483647, 1, none))), some (.inr (false, (0, 4, 1, none))), none], [(77, 16, .inl (0, 9999, 1, none))], .inr (4, true, 4), .inl 0, .inl 0)]
theorem ke443 : chkE JB ct443 cu443 kt443 10 284 = true := by decide +kernel
theorem ku443 : aLL cu443 (chkU JB ct443 cu443 kt443 10 284) = true := by decide +kernel
theorem ok443 {β : Nat} : KOK JB (W0 β) 284 kt443 := KOK_of W0_f (CT := ct443) (cuts := cu443) ⟨⟨ok441, trivial⟩, trivial⟩ ke443 (fun cu h => ⟨rfl, aLL_s ku443 cu h⟩) rfl
/-! HookSwingsModel.isHandOf(I)Z -/
def kt444 : KT := ([.inl (.inr (.inr (some 76))), .inr (false, 0, 3)], some (.inr (false, 0, 1)), [(76, 21, 22), (82, 0, 8), (83, 0, 330), (84, 0, 330)], [76, 82, 83, 84], [(77, 16, .inr (false, 0, 9999))], [(77, 16, .inr (false, 0, 9999))], [], 9)
def ct444 : CTB := [(245, [hk245_0])]
def cu444 : List CU := [(48, [some (.inl (.inr (.inr (some 76)))), some (.inr (false, (0, 3, 1, none))), some (.inr (false, (0, 10000, 1, none))), none], [(77, 16, .inl (0, 9999, 1, none))], .inr (2, true, 10000), .inl 1, .inl 0),
  (61, [some (.inl (.inr (.inr (some 76)))), some (.inr (false, (0, 3, 1, none))), some (.inr (false, (0, 9999, 1, none))), some (.inr (false, (0, 7, 1, none)))], [(77, 16, .inl (0, 9999, 1, none))], .inr (2, true, 10000), .inl 0, .inr (3, true, 5))]
theorem ke444 : chkE JB ct444 cu444 kt444 8 285 = true := by decide +kernel
theorem ku444 : aLL cu444 (chkU JB ct444 cu444 kt444 8 285) = true := by decide +kernel
theorem ok444 {β : Nat} : KOK JB (W0 β) 285 kt444 := KOK_of W0_f (CT := ct444) (cuts := cu444) ⟨⟨hok245_0, trivial⟩, trivial⟩ ke444 (fun cu h => ⟨rfl, aLL_s ku444 cu h⟩) rfl
/-! HookSwingsModel.whoseHand()I -/
def kt445 : KT := ([.inl (.inr (.inr (some 76)))], some (.inr (false, 0, 255)), [(76, 21, 22), (82, 0, 8), (83, 0, 330), (84, 0, 330)], [76, 82, 83, 84], [(77, 16, .inr (false, 0, 9999))], [(77, 16, .inr (false, 0, 9999))], [], 10)
def ct445 : CTB := [(285, [kt444])]
def cu445 : List CU := [(4, [some (.inl (.inr (.inr (some 76)))), some (.inr (false, (0, 255, 1, none))), some (.inr (false, (0, 4, 1, none)))], [(77, 16, .inl (0, 9999, 1, none))], .inr (2, true, 4), .inl 0, .inl 0)]
theorem ke445 : chkE JB ct445 cu445 kt445 9 286 = true := by decide +kernel
theorem ku445 : aLL cu445 (chkU JB ct445 cu445 kt445 9 286) = true := by decide +kernel
theorem ok445 {β : Nat} : KOK JB (W0 β) 286 kt445 := KOK_of W0_f (CT := ct445) (cuts := cu445) ⟨⟨ok444, trivial⟩, trivial⟩ ke445 (fun cu h => ⟨rfl, aLL_s ku445 cu h⟩) rfl
/-! HookSwingsModel.stillBy(II)I -/
def kt446 : KT := ([.inl (.inr (.inr (some 76))), .inr (false, (-1), 3), .inr (false, 0, 60)], some (.inr (false, 1, 200)), [(76, 21, 22), (77, 2, 2), (77, 8, 11), (77, 14, 14), (77, 16, 16), (77, 602, 9817), (82, 0, 8), (83, 0, 330), (84, 0, 330)], [76, 77, 82, 83, 84], [(77, 16, .inr (false, 0, 9999))], [], [], 10)
def ct446 : CTB := [(251, [kt264]), (252, [kt320]), (253, [kt269])]
def cu446 : List CU := [(2, [some (.inl (.inr (.inr (some 76)))), some (.inr (false, ((-1), 3, 1, none))), some (.inr (false, (0, 60, 1, none))), some (.inr (false, (1, 201, 1, none)))], [(77, 16, .inl (0, 10299, 1, some (2, 9998)))], .inr (3, true, 201), .inl 0, .inl 0)]
theorem ke446 : chkE JB ct446 cu446 kt446 9 288 = true := by decide +kernel
theorem ku446 : aLL cu446 (chkU JB ct446 cu446 kt446 9 288) = true := by decide +kernel
theorem ok446 {β : Nat} : KOK JB (W0 β) 288 kt446 := KOK_of W0_f (CT := ct446) (cuts := cu446) ⟨⟨ok264, trivial⟩, ⟨ok320, trivial⟩, ⟨ok269, trivial⟩, trivial⟩ ke446 (fun cu h => ⟨rfl, aLL_s ku446 cu h⟩) rfl
/-! HookSwingsModel.keepPast()V -/
def kt447 : KT := ([.inl (.inr (.inr (some 76)))], none, [(86, 0, 1200)], [86], [], [], [], 1)
def ct447 : CTB := []
def cu447 : List CU := [(2, [some (.inl (.inr (.inr (some 76)))), some (.inr (false, (0, 1200, 1, none)))], [], .inr (1, true, 1200), .inl 0, .inl 0)]
theorem ke447 : chkE JB ct447 cu447 kt447 0 290 = true := by decide +kernel
theorem ku447 : aLL cu447 (chkU JB ct447 cu447 kt447 0 290) = true := by decide +kernel
theorem ok447 {β : Nat} : KOK JB (W0 β) 290 kt447 := KOK_of W0_f (CT := ct447) (cuts := cu447) trivial ke447 (fun cu h => ⟨rfl, aLL_s ku447 cu h⟩) rfl
/-! HookSwingsModel.putBackPast()V -/
def kt448 : KT := ([.inl (.inr (.inr (some 76)))], none, [(77, 602, 1801)], [77], [], [], [], 1)
def ct448 : CTB := []
def cu448 : List CU := [(2, [some (.inl (.inr (.inr (some 76)))), some (.inr (false, (0, 1200, 1, none)))], [], .inr (1, true, 1200), .inl 0, .inl 0)]
theorem ke448 : chkE JB ct448 cu448 kt448 0 291 = true := by decide +kernel
theorem ku448 : aLL cu448 (chkU JB ct448 cu448 kt448 0 291) = true := by decide +kernel
theorem ok448 {β : Nat} : KOK JB (W0 β) 291 kt448 := KOK_of W0_f (CT := ct448) (cuts := cu448) trivial ke448 (fun cu h => ⟨rfl, aLL_s ku448 cu h⟩) rfl
/-! HookSwingsModel.fromRest(II)I -/
def kt449 : KT := ([.inl (.inr (.inr (some 76))), .inr (false, 0, 3), .inr (false, 0, 7)], some (.inr (false, 1, 200)), [(76, 21, 22), (76, 25, 25), (77, 0, 17), (77, 602, 9817), (82, 0, 8), (83, 0, 330), (84, 0, 330), (85, 0, 17), (86, 0, 1200)], [76, 77, 82, 83, 84, 85, 86], [(77, 16, .inr (false, 0, 9999))], [(77, 16, .inr (false, 0, 9999))], [], 11)
def ct449 : CTB := [(288, [kt446]), (290, [kt447]), (291, [kt448])]
def cu449 : List CU := []
theorem ke449 : chkE JB ct449 cu449 kt449 10 289 = true := by decide +kernel
theorem ok449 {β : Nat} : KOK JB (W0 β) 289 kt449 := KOK_of W0_f (CT := ct449) (cuts := cu449) ⟨⟨ok446, trivial⟩, ⟨ok447, trivial⟩, ⟨ok448, trivial⟩, trivial⟩ ke449 (fun cu h => by cases h) rfl
/-! HookSwingsModel.saves(III)I -/
def kt450 : KT := ([.inl (.inr (.inr (some 76))), .inr (false, (-2147483648), 2147483647), .inr (false, (-2147483648), 2147483647), .inr (false, (-2147483648), 2147483647)], some (.inr (false, (-2147483648), 2147483647)), [(76, 21, 22), (76, 25, 25), (77, 0, 17), (77, 602, 9817), (82, 0, 8), (83, 0, 330), (84, 0, 330), (85, 0, 17), (86, 0, 1200)], [76, 77, 82, 83, 84, 85, 86], [(77, 16, .inr (false, 0, 9999))], [(77, 16, .inr (false, 0, 9999))], [], 12)
def ct450 : CTB := [(289, [kt449])]
def cu450 : List CU := [(49, [some (.inl (.inr (.inr (some 76)))), some (.inr (false, (0, 3, 1, none))), some (.inr (false, (0, 3, 1, none))), some (.inr (false, (1, 255, 1, none))), some (.inr (false, ((-2147483648), 2147483647, 1, none))), some (.inr (false, (0, 8, 1, none)))], [(77, 16, .inl (0, 9999, 1, none))], .inr (5, true, 8), .inl 0, .inl 0)]
theorem ke450 : chkE JB ct450 cu450 kt450 11 292 = true := by decide +kernel
theorem ku450 : aLL cu450 (chkU JB ct450 cu450 kt450 11 292) = true := by decide +kernel
theorem ok450 {β : Nat} : KOK JB (W0 β) 292 kt450 := KOK_of W0_f (CT := ct450) (cuts := cu450) ⟨⟨ok449, trivial⟩, trivial⟩ ke450 (fun cu h => ⟨rfl, aLL_s ku450 cu h⟩) rfl
/-! HookSwingsModel.goneBy(I)I -/
def kt451 : KT := ([.inl (.inr (.inr (some 76))), .inr (false, 0, 60)], some (.inr (false, 1, 100000000)), [(76, 21, 22), (77, 2, 2), (77, 8, 11), (77, 14, 14), (77, 16, 16), (77, 602, 9817), (82, 0, 8), (83, 0, 330), (84, 0, 330)], [76, 77, 82, 83, 84], [(77, 16, .inr (false, 0, 9999))], [], [], 11)
def ct451 : CTB := [(252, [kt320]), (288, [kt446])]
def cu451 : List CU := []
theorem ke451 : chkE JB ct451 cu451 kt451 10 293 = true := by decide +kernel
theorem ok451 {β : Nat} : KOK JB (W0 β) 293 kt451 := KOK_of W0_f (CT := ct451) (cuts := cu451) ⟨⟨ok320, trivial⟩, ⟨ok446, trivial⟩, trivial⟩ ke451 (fun cu h => by cases h) rfl
/-! HookSwingsModel.whenToGo()I -/
def kt452 : KT := ([.inl (.inr (.inr (some 76)))], some (.inr (false, (-1), 60)), [(76, 21, 22), (76, 25, 25), (77, 0, 17), (77, 602, 9817), (82, 0, 8), (83, 0, 330), (84, 0, 330), (85, 0, 17)], [76, 77, 82, 83, 84, 85], [(77, 16, .inr (false, 0, 9999))], [(77, 16, .inr (false, 0, 9999))], [], 12)
def ct452 : CTB := [(293, [kt451])]
def cu452 : List CU := [(8, [some (.inl (.inr (.inr (some 76)))), some (.inr (false, ((-1), 60, 1, none))), some (.inr (false, (1, 100000000, 1, none))), some (.inr (false, (0, 61, 1, none))), none], [(77, 16, .inl (0, 9999, 1, none))], .inr (3, true, 61), .inl 0, .inl 0)]
theorem ke452 : chkE JB ct452 cu452 kt452 11 294 = true := by decide +kernel
theorem ku452 : aLL cu452 (chkU JB ct452 cu452 kt452 11 294) = true := by decide +kernel
theorem ok452 {β : Nat} : KOK JB (W0 β) 294 kt452 := KOK_of W0_f (CT := ct452) (cuts := cu452) ⟨⟨ok451, trivial⟩, trivial⟩ ke452 (fun cu h => ⟨rfl, aLL_s ku452 cu h⟩) rfl
/-! HookSwingsModel.whichRope()I -/
def kt453 : KT := ([.inl (.inr (.inr (some 76)))], some (.inr (false, (-1), 24)), [(76, 21, 22), (76, 25, 25), (77, 0, 17), (77, 602, 9817), (82, 0, 8), (83, 0, 330), (84, 0, 330), (85, 0, 17)], [76, 77, 82, 83, 84, 85], [(77, 16, .inr (false, 0, 9999))], [(77, 16, .inr (false, 0, 9999))], [], 12)
def ct453 : CTB := [(293, [kt451])]
def cu453 : List CU := [(8, [some (.inl (.inr (.inr (some 76)))), some (.inr (false, ((-1), 24, 1, none))), some (.inr (false, (1, 100000000, 1, none))), some (.inr (false, (1, 25, 1, none))), none], [(77, 16, .inl (0, 9999, 1, none))], .inr (3, true, 25), .inl 0, .inl 0)]
theorem ke453 : chkE JB ct453 cu453 kt453 11 295 = true := by decide +kernel
theorem ku453 : aLL cu453 (chkU JB ct453 cu453 kt453 11 295) = true := by decide +kernel
theorem ok453 {β : Nat} : KOK JB (W0 β) 295 kt453 := KOK_of W0_f (CT := ct453) (cuts := cu453) ⟨⟨ok451, trivial⟩, trivial⟩ ke453 (fun cu h => ⟨rfl, aLL_s ku453 cu h⟩) rfl
/-! HookSwingsModel.bar(IIII)I -/
def kt454 : KT := ([.inl (.inr (.inr (some 76))), .inr (false, (-2147483648), 2147483647), .inr (false, (-2147483648), 2147483647), .inr (false, (-2147483648), 2147483647), .inr (false, (-2147483648), 2147483647)], some (.inr (false, (-2), 4)), [(77, 18, 18), (77, 9818, 9833)], [77], [(77, 16, .inr (false, 0, 9999))], [(77, 16, .inr (false, 0, 9999))], [], 2)
def ct454 : CTB := []
def cu454 : List CU := []
theorem ke454 : chkE JB ct454 cu454 kt454 1 296 = true := by decide +kernel
theorem ok454 {β : Nat} : KOK JB (W0 β) 296 kt454 := KOK_of W0_f (CT := ct454) (cuts := cu454) trivial ke454 (fun cu h => by cases h) rfl
/-! HookSwingsModel.isBarred()Z -/
def kt455 : KT := ([.inl (.inr (.inr (some 76)))], some (.inr (false, 0, 1)), [], [], [], [], [], 2)
def ct455 : CTB := []
def cu455 : List CU := [(2, [some (.inl (.inr (.inr (some 76)))), some (.inr (false, (0, 4, 1, none))), none], [], .inr (1, true, 4), .inl 0, .inl 0)]
theorem ke455 : chkE JB ct455 cu455 kt455 1 297 = true := by decide +kernel
theorem ku455 : aLL cu455 (chkU JB ct455 cu455 kt455 1 297) = true := by decide +kernel
theorem ok455 {β : Nat} : KOK JB (W0 β) 297 kt455 := KOK_of W0_f (CT := ct455) (cuts := cu455) trivial ke455 (fun cu h => ⟨rfl, aLL_s ku455 cu h⟩) rfl
/-! HookSwingsModel.barred(IZ)I -/
def kt456 : KT := ([.inl (.inr (.inr (some 76))), .inr (false, (-2147483648), 2147483647), .inr (false, 0, 1)], some (.inr (false, (-1), 200)), [(76, 21, 22), (76, 25, 25), (77, 0, 17), (77, 602, 9817), (82, 0, 8), (83, 0, 330), (84, 0, 330), (85, 0, 17)], [76, 77, 82, 83, 84, 85], [(77, 16, .inr (false, 0, 9999))], [(77, 16, .inr (false, 0, 9999))], [], 10)
def ct456 : CTB := [(251, [kt264]), (253, [kt269]), (297, [kt455])]
def cu456 : List CU := [(22, [some (.inl (.inr (.inr (some 76)))), some (.inr (false, (1, 200, 1, none))), some (.inr (false, (0, 1, 1, none))), some (.inr (false, ((-1), 200, 1, none))), some (.inr (false, (1, 201, 1, none)))], [(77, 16, .inl (0, 10299, 1, some (3, 9998))), (85, 12, .inl (1, 24, 1, none)), (77, 5, .inl (0, 30, 1, none)), (85, 5, .inr 6), (77, 7, .inl (0, 20000, 1, none)), (85, 7, .inr 7)], .inr (4, true, 201), .inl 0, .inl 0)]
theorem ke456 : chkE JB ct456 cu456 kt456 9 298 = true := by decide +kernel
theorem ku456 : aLL cu456 (chkU JB ct456 cu456 kt456 9 298) = true := by decide +kernel
theorem ok456 {β : Nat} : KOK JB (W0 β) 298 kt456 := KOK_of W0_f (CT := ct456) (cuts := cu456) ⟨⟨ok264, trivial⟩, ⟨ok269, trivial⟩, ⟨ok455, trivial⟩, trivial⟩ ke456 (fun cu h => ⟨rfl, aLL_s ku456 cu h⟩) rfl
/-! HookSwingsModel.isTooMuch(III)Z -/
def kt457 : KT := ([.inl (.inr (.inr (some 76))), .inr (false, 1, 9), .inr (false, 1, 200), .inr (false, 0, 9999)], some (.inr (false, 0, 1)), [(76, 21, 22), (76, 25, 25), (77, 0, 17), (77, 602, 9817), (82, 0, 8), (83, 0, 330), (84, 0, 330), (85, 0, 17)], [76, 77, 82, 83, 84, 85], [(77, 16, .inr (false, 0, 9999))], [(77, 16, .inr (false, 0, 9999))], [], 10)
def ct457 : CTB := [(184, [kt319]), (243, [kt261]), (251, [kt264])]
def cu457 : List CU := [(23, [some (.inl (.inr (.inr (some 76)))), some (.inr (false, (1, 9, 1, none))), some (.inr (false, (1, 200, 1, none))), some (.inr (false, (0, 9999, 1, none))), some (.inr (false, (0, 1, 1, none))), some (.inr (false, (0, 200, 1, none)))], [(77, 16, .inl (0, 10299, 1, some (4, 9999))), (85, 12, .inl (1, 24, 1, none)), (77, 5, .inl (0, 30, 1, none)), (85, 5, .inr 7), (77, 7, .inl (0, 20000, 1, none)), (85, 7, .inr 8)], .inr (5, true, 200), .inl 0, .inl 0)]
theorem ke457 : chkE JB ct457 cu457 kt457 9 287 = true := by decide +kernel
theorem ku457 : aLL cu457 (chkU JB ct457 cu457 kt457 9 287) = true := by decide +kernel
theorem ok457 {β : Nat} : KOK JB (W0 β) 287 kt457 := KOK_of W0_f (CT := ct457) (cuts := cu457) ⟨⟨ok319, trivial⟩, ⟨ok261, trivial⟩, ⟨ok264, trivial⟩, trivial⟩ ke457 (fun cu h => ⟨rfl, aLL_s ku457 cu h⟩) rfl
/-! HookSwingsModel.dayEnds(II)I -/
def kt458 : KT := ([.inl (.inr (.inr (some 76))), .inr (false, (-2147483648), 2147483647), .inr (false, (-2147483648), 2147483647)], some (.inr (false, (-1), 9)), [(76, 21, 22), (76, 25, 25), (77, 0, 17), (77, 602, 9817), (82, 0, 8), (83, 0, 330), (84, 0, 330), (85, 0, 17)], [76, 77, 82, 83, 84, 85], [(77, 16, .inr (false, 0, 9999))], [(77, 16, .inr (false, 0, 9999))], [], 11)
def ct458 : CTB := [(287, [kt457])]
def cu458 : List CU := [(26, [some (.inl (.inr (.inr (some 76)))), some (.inr (false, (1, 200, 1, none))), some (.inr (false, (0, 9999, 1, none))), some (.inr (false, (1, 10, 1, none)))], [(77, 16, .inl (0, 9999, 1, none))], .inr (3, true, 10), .inl 0, .inl 0)]
theorem ke458 : chkE JB ct458 cu458 kt458 10 299 = true := by decide +kernel
theorem ku458 : aLL cu458 (chkU JB ct458 cu458 kt458 10 299) = true := by decide +kernel
theorem ok458 {β : Nat} : KOK JB (W0 β) 299 kt458 := KOK_of W0_f (CT := ct458) (cuts := cu458) ⟨⟨ok457, trivial⟩, trivial⟩ ke458 (fun cu h => ⟨rfl, aLL_s ku458 cu h⟩) rfl
/-! HookSwingsModel.howFar(I)I -/
def kt459 : KT := ([.inl (.inr (.inr (some 76))), .inr (false, (-2147483648), 2147483647)], some (.inr (false, (-1), 60)), [(82, 0, 8), (83, 0, 330), (84, 0, 330)], [82, 83, 84], [(77, 16, .inr (false, 0, 9999))], [(77, 16, .inr (false, 0, 9999))], [], 10)
def ct459 : CTB := [(242, [hk242_0])]
def cu459 : List CU := [(14, [some (.inl (.inr (.inr (some 76)))), some (.inr (false, (1, 99, 1, none))), some (.inr (false, (0, 61, 1, none)))], [(77, 16, .inl (0, 9999, 1, none))], .inr (2, true, 61), .inl 0, .inl 0)]
theorem ke459 : chkE JB ct459 cu459 kt459 9 300 = true := by decide +kernel
theorem ku459 : aLL cu459 (chkU JB ct459 cu459 kt459 9 300) = true := by decide +kernel
theorem ok459 {β : Nat} : KOK JB (W0 β) 300 kt459 := KOK_of W0_f (CT := ct459) (cuts := cu459) ⟨⟨hok242_0, trivial⟩, trivial⟩ ke459 (fun cu h => ⟨rfl, aLL_s ku459 cu h⟩) rfl
/-! HookSwingsModel.over()I -/
def kt460 : KT := ([.inl (.inr (.inr (some 76)))], some (.inr (false, 0, 255)), [(82, 0, 8), (83, 0, 330), (84, 0, 330)], [82, 83, 84], [(77, 16, .inr (false, 0, 9999))], [(77, 16, .inr (false, 0, 9999))], [], 10)
def ct460 : CTB := [(242, [hk242_0])]
def cu460 : List CU := [(4, [some (.inl (.inr (.inr (some 76)))), some (.inr (false, (0, 255, 1, none))), some (.inr (false, (0, 8, 1, none)))], [(77, 16, .inl (0, 9999, 1, none))], .inr (2, true, 8), .inl 0, .inl 0)]
theorem ke460 : chkE JB ct460 cu460 kt460 9 301 = true := by decide +kernel
theorem ku460 : aLL cu460 (chkU JB ct460 cu460 kt460 9 301) = true := by decide +kernel
theorem ok460 {β : Nat} : KOK JB (W0 β) 301 kt460 := KOK_of W0_f (CT := ct460) (cuts := cu460) ⟨⟨hok242_0, trivial⟩, trivial⟩ ke460 (fun cu h => ⟨rfl, aLL_s ku460 cu h⟩) rfl
/-! HookSwingsModel.said(IZ)I -/
def kt463 : KT := ([.inl (.inr (.inr (some 76))), .inr (false, (-2147483648), 2147483647), .inr (false, 0, 1)], some (.inr (false, (-2), 8)), [(77, 6, 6), (77, 68, 83)], [77], [(77, 16, .inr (false, 0, 9999))], [(77, 16, .inr (false, 0, 9999))], [], 2)
def ct463 : CTB := []
def cu463 : List CU := []
theorem ke463 : chkE JB ct463 cu463 kt463 1 310 = true := by decide +kernel
theorem ok463 {β : Nat} : KOK JB (W0 β) 310 kt463 := KOK_of W0_f (CT := ct463) (cuts := cu463) trivial ke463 (fun cu h => by cases h) rfl
/-! HookSwingsModel.landed(II)I -/
def kt465 : KT := ([.inl (.inr (.inr (some 76))), .inr (false, (-2147483648), 2147483647), .inr (false, (-2147483648), 2147483647)], some (.inr (false, (-2), 9999)), [], [], [(77, 16, .inr (false, 0, 9999))], [(77, 16, .inr (false, 0, 9999))], [], 3)
def ct465 : CTB := []
def cu465 : List CU := []
theorem ke465 : chkE JB ct465 cu465 kt465 2 315 = true := by decide +kernel
theorem ok465 {β : Nat} : KOK JB (W0 β) 315 kt465 := KOK_of W0_f (CT := ct465) (cuts := cu465) trivial ke465 (fun cu h => by cases h) rfl
/-! HookSwingsModel.hour(I)I -/
def kt466 : KT := ([.inl (.inr (.inr (some 76))), .inr (false, (-2147483648), 2147483647)], some (.inr (false, (-2147483648), 2147483647)), [], [], [(77, 16, .inr (false, 0, 9999))], [(77, 16, .inr (false, 0, 9999))], [], 3)
def ct466 : CTB := []
def cu466 : List CU := [(17, [some (.inl (.inr (.inr (some 76)))), some (.inr (false, (1, 9999, 1, none))), some (.inr (false, ((-2147483648), 2147483647, 1, none))), some (.inr (false, (0, 20, 1, none)))], [(77, 16, .inl (0, 9999, 1, none))], .inr (3, true, 20), .inl 0, .inl 0)]
theorem ke466 : chkE JB ct466 cu466 kt466 2 316 = true := by decide +kernel
theorem ku466 : aLL cu466 (chkU JB ct466 cu466 kt466 2 316) = true := by decide +kernel
theorem ok466 {β : Nat} : KOK JB (W0 β) 316 kt466 := KOK_of W0_f (CT := ct466) (cuts := cu466) trivial ke466 (fun cu h => ⟨rfl, aLL_s ku466 cu h⟩) rfl
/-! HookSwingsModel.image()I -/
def kt469 : KT := ([.inl (.inr (.inr (some 76)))], some (.inr (false, 0, 9999)), [(78, 0, 9834)], [78], [(77, 16, .inr (false, 0, 9999))], [(77, 16, .inr (false, 0, 9999))], [], 4)
def ct469 : CTB := [(181, [hk181_0])]
def cu469 : List CU := []
theorem ke469 : chkE JB ct469 cu469 kt469 3 318 = true := by decide +kernel
theorem ok469 {β : Nat} : KOK JB (W0 β) 318 kt469 := KOK_of W0_f (CT := ct469) (cuts := cu469) ⟨⟨hok181_0, trivial⟩, trivial⟩ ke469 (fun cu h => by cases h) rfl
/-! HookSwingsModel.back()I -/
def kt471 : KT := ([.inl (.inr (.inr (some 76)))], some (.inr (false, 0, 9999)), [(77, 0, 9834)], [77], [(77, 16, .inr (false, 0, 9999))], [(77, 16, .inr (false, 0, 9999))], [], 4)
def ct471 : CTB := [(181, [hk181_1])]
def cu471 : List CU := []
theorem ke471 : chkE JB ct471 cu471 kt471 3 319 = true := by decide +kernel
theorem ok471 {β : Nat} : KOK JB (W0 β) 319 kt471 := KOK_of W0_f (CT := ct471) (cuts := cu471) ⟨⟨hok181_1, trivial⟩, trivial⟩ ke471 (fun cu h => by cases h) rfl
/-! HookSwingsModel.about(I)I -/
def kt472 : KT := ([.inl (.inr (.inr (some 76))), .inr (false, (-2147483648), 2147483647)], some (.inr (false, (-2147483648), 2147483647)), [], [], [(77, 16, .inr (false, 0, 9999))], [(77, 16, .inr (false, 0, 9999))], [], 2)
def ct472 : CTB := []
def cu472 : List CU := []
theorem ke472 : chkE JB ct472 cu472 kt472 1 320 = true := by decide +kernel
theorem ok472 {β : Nat} : KOK JB (W0 β) 320 kt472 := KOK_of W0_f (CT := ct472) (cuts := cu472) trivial ke472 (fun cu h => by cases h) rfl
/-! HookSwingsModel.lastsOf(I)I -/
def kt473 : KT := ([.inl (.inr (.inr (some 76))), .inr (false, 0, 7)], some (.inr (false, (-2147483648), 2147483647)), [(82, 0, 8), (83, 0, 330), (84, 0, 330)], [82, 83, 84], [], [], [], 9)
def ct473 : CTB := [(242, [hk242_0])]
def cu473 : List CU := []
theorem ke473 : chkE JB ct473 cu473 kt473 8 246 = true := by decide +kernel
theorem ok473 {β : Nat} : KOK JB (W0 β) 246 kt473 := KOK_of W0_f (CT := ct473) (cuts := cu473) ⟨⟨hok242_0, trivial⟩, trivial⟩ ke473 (fun cu h => by cases h) rfl
/-! HookSwingsModel.layJibs(I)Z -/
def kt474 : KT := ([.inl (.inr (.inr (some 76))), .inr (false, 0, 255)], some (.inr (false, 0, 1)), [(89, 0, 8)], [89], [], [], [], 2)
def ct474 : CTB := []
def cu474 : List CU := [(7, [some (.inl (.inr (.inr (some 76)))), some (.inr (false, (0, 255, 1, none))), some (.inr (false, (0, 8, 1, some (4, 0)))), some (.inr (false, (0, 8, 1, some (4, 0)))), some (.inr (false, (0, 8, 1, none))), none, none], [(76, 34, .inl (0, 8, 1, none))], .inr (4, true, 8), .inl 1, .inl 0),
  (36, [some (.inl (.inr (.inr (some 76)))), some (.inr (false, (0, 255, 1, none))), some (.inr (false, (0, 8, 1, some (6, 0)))), some (.inr (false, (0, 8, 1, some (6, 0)))), some (.inr (false, (0, 7, 1, none))), some (.inr (false, (0, 1, 1, none))), some (.inr (false, (0, 8, 1, some (6, 0))))], [(76, 34, .inl (0, 8, 1, none))], .inr (4, true, 8), .inl 0, .inr (6, true, 8))]
theorem ke474 : chkE JB ct474 cu474 kt474 1 306 = true := by decide +kernel
theorem ku474 : aLL cu474 (chkU JB ct474 cu474 kt474 1 306) = true := by decide +kernel
theorem ok474 {β : Nat} : KOK JB (W0 β) 306 kt474 := KOK_of W0_f (CT := ct474) (cuts := cu474) trivial ke474 (fun cu h => ⟨rfl, aLL_s ku474 cu h⟩) rfl
/-! HookSwingsModel.waited()I -/
def kt477 : KT := ([.inl (.inr (.inr (some 76)))], some (.inr (false, (-2147483648), 2147483647)), [], [], [], [], [], 2)
def ct477 : CTB := []
def cu477 : List CU := [(6, [some (.inl (.inr (.inr (some 76)))), some (.inr (false, ((-2147483648), 999, 1, none))), some (.inr (false, ((-2147483648), 2147483647, 1, none))), some (.inr (false, (0, 8, 1, none))), none], [], .inr (3, true, 8), .inl 0, .inl 0)]
theorem ke477 : chkE JB ct477 cu477 kt477 1 304 = true := by decide +kernel
theorem ku477 : aLL cu477 (chkU JB ct477 cu477 kt477 1 304) = true := by decide +kernel
theorem ok477 {β : Nat} : KOK JB (W0 β) 304 kt477 := KOK_of W0_f (CT := ct477) (cuts := cu477) trivial ke477 (fun cu h => ⟨rfl, aLL_s ku477 cu h⟩) rfl
/-! HookSwingsModel.doneBy()I -/
def kt478 : KT := ([.inl (.inr (.inr (some 76)))], some (.inr (false, (-2147483648), 2147483647)), [(91, 0, 8)], [91], [], [], [], 2)
def ct478 : CTB := [(184, [kt319])]
def cu478 : List CU := [(4, [some (.inl (.inr (.inr (some 76)))), some (.inr (false, ((-2147483648), 2147483647, 1, none))), some (.inr (false, (0, 8, 1, none))), none, none, none, none], [], .inr (2, true, 8), .inl 1, .inl 0),
  (29, [some (.inl (.inr (.inr (some 76)))), some (.inr (false, ((-2147483648), 2147483647, 1, none))), some (.inr (false, (0, 7, 1, none))), some (.inr (false, (0, 7, 1, none))), some (.inr (false, (0, 7, 1, none))), none, none], [], .inr (2, true, 8), .inl 0, .inr (4, true, 7))]
theorem ke478 : chkE JB ct478 cu478 kt478 1 307 = true := by decide +kernel
theorem ku478 : aLL cu478 (chkU JB ct478 cu478 kt478 1 307) = true := by decide +kernel
theorem ok478 {β : Nat} : KOK JB (W0 β) 307 kt478 := KOK_of W0_f (CT := ct478) (cuts := cu478) ⟨⟨ok319, trivial⟩, trivial⟩ ke478 (fun cu h => ⟨rfl, aLL_s ku478 cu h⟩) rfl
/-! HookSwingsModel.isAhead()Z -/
def kt479 : KT := ([.inl (.inr (.inr (some 76)))], some (.inr (false, 0, 1)), [], [], [], [], [], 1)
def ct479 : CTB := []
def cu479 : List CU := [(2, [some (.inl (.inr (.inr (some 76)))), some (.inr (false, (0, 8, 1, none)))], [], .inr (1, true, 8), .inl 0, .inl 0)]
theorem ke479 : chkE JB ct479 cu479 kt479 0 308 = true := by decide +kernel
theorem ku479 : aLL cu479 (chkU JB ct479 cu479 kt479 0 308) = true := by decide +kernel
theorem ok479 {β : Nat} : KOK JB (W0 β) 308 kt479 := KOK_of W0_f (CT := ct479) (cuts := cu479) trivial ke479 (fun cu h => ⟨rfl, aLL_s ku479 cu h⟩) rfl
