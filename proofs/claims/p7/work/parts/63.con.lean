/-! HookSwingsModel.storm(II)I -/
def kt277 : KT := ([.inl (.inr (.inr (some 76))), .inr (false, (-2147483648), 2147483647), .inl (.inl 1)], some (.inr (false, (-2147483648), 2147483647)), [(76, 21, 22), (77, 2, 2), (77, 5, 5), (77, 8, 11), (77, 14, 14), (77, 16, 16), (77, 84, 473), (77, 602, 9817), (82, 0, 8), (83, 0, 330), (84, 0, 330)], [76, 77, 82, 83, 84], [(77, 16, .inr (false, 0, 9999))], [(77, 16, .inr (false, 0, 9999))], [], 10)
def ct277 : CTB := [(251, [kt264]), (254, [hk254_0])]
def cu277 : List CU := []
theorem ke277 : chkE JB ct277 cu277 kt277 9 266 = true := by decide +kernel
theorem ok277 {β : Nat} : KOK JB (W0 β) 266 kt277 := KOK_of W0_f (CT := ct277) (cuts := cu277) ⟨⟨ok264, trivial⟩, ⟨hok254_0, trivial⟩, trivial⟩ ke277 (fun cu h => by cases h) rfl
/-! HookSwingsModel.storm(II)I -/
def kt278 : KT := ([.inl (.inr (.inr (some 76))), .inr (false, (-2147483648), 2147483647), .inl (.inl 2)], some (.inr (false, (-2147483648), 2147483647)), [(76, 21, 22), (77, 2, 2), (77, 5, 5), (77, 8, 11), (77, 14, 14), (77, 16, 16), (77, 84, 473), (77, 602, 9817), (82, 0, 8), (83, 0, 330), (84, 0, 330)], [76, 77, 82, 83, 84], [(77, 16, .inr (false, 0, 9999))], [(77, 16, .inr (false, 0, 9999))], [], 10)
def ct278 : CTB := [(251, [kt264]), (254, [hk254_0])]
def cu278 : List CU := []
theorem ke278 : chkE JB ct278 cu278 kt278 9 266 = true := by decide +kernel
theorem ok278 {β : Nat} : KOK JB (W0 β) 266 kt278 := KOK_of W0_f (CT := ct278) (cuts := cu278) ⟨⟨ok264, trivial⟩, ⟨hok254_0, trivial⟩, trivial⟩ ke278 (fun cu h => by cases h) rfl
/-! HookSwingsModel.storm(II)I -/
def kt279 : KT := ([.inl (.inr (.inr (some 76))), .inr (false, (-2147483648), 2147483647), .inl (.inl 3)], some (.inr (false, (-2147483648), 2147483647)), [(76, 21, 22), (77, 2, 2), (77, 5, 5), (77, 8, 11), (77, 14, 14), (77, 16, 16), (77, 84, 473), (77, 602, 9817), (82, 0, 8), (83, 0, 330), (84, 0, 330)], [76, 77, 82, 83, 84], [(77, 16, .inr (false, 0, 9999))], [(77, 16, .inr (false, 0, 9999))], [], 10)
def ct279 : CTB := [(251, [kt264]), (254, [hk254_0])]
def cu279 : List CU := []
theorem ke279 : chkE JB ct279 cu279 kt279 9 266 = true := by decide +kernel
theorem ok279 {β : Nat} : KOK JB (W0 β) 266 kt279 := KOK_of W0_f (CT := ct279) (cuts := cu279) ⟨⟨ok264, trivial⟩, ⟨hok254_0, trivial⟩, trivial⟩ ke279 (fun cu h => by cases h) rfl
/-! HookSwingsModel.storm(II)I -/
def kt280 : KT := ([.inl (.inr (.inr (some 76))), .inr (false, (-2147483648), 2147483647), .inl (.inl 4)], some (.inr (false, (-2147483648), 2147483647)), [(76, 21, 22), (77, 2, 2), (77, 5, 5), (77, 8, 11), (77, 14, 14), (77, 16, 16), (77, 84, 473), (77, 602, 9817), (82, 0, 8), (83, 0, 330), (84, 0, 330)], [76, 77, 82, 83, 84], [(77, 16, .inr (false, 0, 9999))], [(77, 16, .inr (false, 0, 9999))], [], 10)
def ct280 : CTB := [(251, [kt264]), (254, [hk254_0])]
def cu280 : List CU := []
theorem ke280 : chkE JB ct280 cu280 kt280 9 266 = true := by decide +kernel
theorem ok280 {β : Nat} : KOK JB (W0 β) 266 kt280 := KOK_of W0_f (CT := ct280) (cuts := cu280) ⟨⟨ok264, trivial⟩, ⟨hok254_0, trivial⟩, trivial⟩ ke280 (fun cu h => by cases h) rfl
/-! HookSwingsModel.storm(II)I -/
def kt281 : KT := ([.inl (.inr (.inr (some 76))), .inr (false, (-2147483648), 2147483647), .inl (.inl 5)], some (.inr (false, (-2147483648), 2147483647)), [(76, 21, 22), (77, 2, 2), (77, 5, 5), (77, 8, 11), (77, 14, 14), (77, 16, 16), (77, 84, 473), (77, 602, 9817), (82, 0, 8), (83, 0, 330), (84, 0, 330)], [76, 77, 82, 83, 84], [(77, 16, .inr (false, 0, 9999))], [(77, 16, .inr (false, 0, 9999))], [], 10)
def ct281 : CTB := [(251, [kt264]), (254, [hk254_0])]
def cu281 : List CU := []
theorem ke281 : chkE JB ct281 cu281 kt281 9 266 = true := by decide +kernel
theorem ok281 {β : Nat} : KOK JB (W0 β) 266 kt281 := KOK_of W0_f (CT := ct281) (cuts := cu281) ⟨⟨ok264, trivial⟩, ⟨hok254_0, trivial⟩, trivial⟩ ke281 (fun cu h => by cases h) rfl
/-! HookSwingsModel.storm(II)I -/
def kt282 : KT := ([.inl (.inr (.inr (some 76))), .inr (false, (-2147483648), 2147483647), .inl (.inl 6)], some (.inr (false, (-2147483648), 2147483647)), [(76, 21, 22), (77, 2, 2), (77, 5, 5), (77, 8, 11), (77, 14, 14), (77, 16, 16), (77, 84, 473), (77, 602, 9817), (82, 0, 8), (83, 0, 330), (84, 0, 330)], [76, 77, 82, 83, 84], [(77, 16, .inr (false, 0, 9999))], [(77, 16, .inr (false, 0, 9999))], [], 10)
def ct282 : CTB := [(251, [kt264]), (254, [hk254_0])]
def cu282 : List CU := []
theorem ke282 : chkE JB ct282 cu282 kt282 9 266 = true := by decide +kernel
theorem ok282 {β : Nat} : KOK JB (W0 β) 266 kt282 := KOK_of W0_f (CT := ct282) (cuts := cu282) ⟨⟨ok264, trivial⟩, ⟨hok254_0, trivial⟩, trivial⟩ ke282 (fun cu h => by cases h) rfl
/-! HookSwingsModel.storm(II)I -/
def kt283 : KT := ([.inl (.inr (.inr (some 76))), .inr (false, (-2147483648), 2147483647), .inl (.inl 7)], some (.inr (false, (-2147483648), 2147483647)), [(76, 21, 22), (77, 2, 2), (77, 5, 5), (77, 8, 11), (77, 14, 14), (77, 16, 16), (77, 84, 473), (77, 602, 9817), (82, 0, 8), (83, 0, 330), (84, 0, 330)], [76, 77, 82, 83, 84], [(77, 16, .inr (false, 0, 9999))], [(77, 16, .inr (false, 0, 9999))], [], 10)
def ct283 : CTB := [(251, [kt264]), (254, [hk254_0])]
def cu283 : List CU := []
theorem ke283 : chkE JB ct283 cu283 kt283 9 266 = true := by decide +kernel
theorem ok283 {β : Nat} : KOK JB (W0 β) 266 kt283 := KOK_of W0_f (CT := ct283) (cuts := cu283) ⟨⟨ok264, trivial⟩, ⟨hok254_0, trivial⟩, trivial⟩ ke283 (fun cu h => by cases h) rfl
/-! HookSwingsModel.storm(II)I -/
def kt284 : KT := ([.inl (.inr (.inr (some 76))), .inr (false, (-2147483648), 2147483647), .inl (.inl 8)], some (.inr (false, (-2147483648), 2147483647)), [(76, 21, 22), (77, 2, 2), (77, 5, 5), (77, 8, 11), (77, 14, 14), (77, 16, 16), (77, 84, 473), (77, 602, 9817), (82, 0, 8), (83, 0, 330), (84, 0, 330)], [76, 77, 82, 83, 84], [(77, 16, .inr (false, 0, 9999))], [(77, 16, .inr (false, 0, 9999))], [], 10)
def ct284 : CTB := [(251, [kt264]), (254, [hk254_0])]
def cu284 : List CU := []
theorem ke284 : chkE JB ct284 cu284 kt284 9 266 = true := by decide +kernel
theorem ok284 {β : Nat} : KOK JB (W0 β) 266 kt284 := KOK_of W0_f (CT := ct284) (cuts := cu284) ⟨⟨ok264, trivial⟩, ⟨hok254_0, trivial⟩, trivial⟩ ke284 (fun cu h => by cases h) rfl
/-! HookSwingsModel.storm(II)I -/
def kt285 : KT := ([.inl (.inr (.inr (some 76))), .inr (false, (-2147483648), 2147483647), .inl (.inl 9)], some (.inr (false, (-2147483648), 2147483647)), [(76, 21, 22), (77, 2, 2), (77, 5, 5), (77, 8, 11), (77, 14, 14), (77, 16, 16), (77, 84, 473), (77, 602, 9817), (82, 0, 8), (83, 0, 330), (84, 0, 330)], [76, 77, 82, 83, 84], [(77, 16, .inr (false, 0, 9999))], [(77, 16, .inr (false, 0, 9999))], [], 10)
def ct285 : CTB := [(251, [kt264]), (254, [hk254_0])]
def cu285 : List CU := []
theorem ke285 : chkE JB ct285 cu285 kt285 9 266 = true := by decide +kernel
theorem ok285 {β : Nat} : KOK JB (W0 β) 266 kt285 := KOK_of W0_f (CT := ct285) (cuts := cu285) ⟨⟨ok264, trivial⟩, ⟨hok254_0, trivial⟩, trivial⟩ ke285 (fun cu h => by cases h) rfl
/-! HookSwingsModel.storm(II)I -/
def kt286 : KT := ([.inl (.inr (.inr (some 76))), .inr (false, (-2147483648), 2147483647), .inl (.inl 10)], some (.inr (false, (-2147483648), 2147483647)), [(76, 21, 22), (77, 2, 2), (77, 5, 5), (77, 8, 11), (77, 14, 14), (77, 16, 16), (77, 84, 473), (77, 602, 9817), (82, 0, 8), (83, 0, 330), (84, 0, 330)], [76, 77, 82, 83, 84], [(77, 16, .inr (false, 0, 9999))], [(77, 16, .inr (false, 0, 9999))], [], 10)
def ct286 : CTB := [(251, [kt264]), (254, [hk254_0])]
def cu286 : List CU := []
theorem ke286 : chkE JB ct286 cu286 kt286 9 266 = true := by decide +kernel
theorem ok286 {β : Nat} : KOK JB (W0 β) 266 kt286 := KOK_of W0_f (CT := ct286) (cuts := cu286) ⟨⟨ok264, trivial⟩, ⟨hok254_0, trivial⟩, trivial⟩ ke286 (fun cu h => by cases h) rfl
/-! HookSwingsModel.storm(II)I -/
def kt287 : KT := ([.inl (.inr (.inr (some 76))), .inr (false, (-2147483648), 2147483647), .inl (.inl 11)], some (.inr (false, (-2147483648), 2147483647)), [(76, 21, 22), (77, 2, 2), (77, 5, 5), (77, 8, 11), (77, 14, 14), (77, 16, 16), (77, 84, 473), (77, 602, 9817), (82, 0, 8), (83, 0, 330), (84, 0, 330)], [76, 77, 82, 83, 84], [(77, 16, .inr (false, 0, 9999))], [(77, 16, .inr (false, 0, 9999))], [], 10)
def ct287 : CTB := [(251, [kt264]), (254, [hk254_0])]
def cu287 : List CU := []
theorem ke287 : chkE JB ct287 cu287 kt287 9 266 = true := by decide +kernel
theorem ok287 {β : Nat} : KOK JB (W0 β) 266 kt287 := KOK_of W0_f (CT := ct287) (cuts := cu287) ⟨⟨ok264, trivial⟩, ⟨hok254_0, trivial⟩, trivial⟩ ke287 (fun cu h => by cases h) rfl
/-! HookSwingsModel.storm(II)I -/
def kt288 : KT := ([.inl (.inr (.inr (some 76))), .inr (false, (-2147483648), 2147483647), .inl (.inl 12)], some (.inr (false, (-2147483648), 2147483647)), [(76, 21, 22), (77, 2, 2), (77, 5, 5), (77, 8, 11), (77, 14, 14), (77, 16, 16), (77, 84, 473), (77, 602, 9817), (82, 0, 8), (83, 0, 330), (84, 0, 330)], [76, 77, 82, 83, 84], [(77, 16, .inr (false, 0, 9999))], [(77, 16, .inr (false, 0, 9999))], [], 10)
def ct288 : CTB := [(251, [kt264]), (254, [hk254_0])]
def cu288 : List CU := []
theorem ke288 : chkE JB ct288 cu288 kt288 9 266 = true := by decide +kernel
theorem ok288 {β : Nat} : KOK JB (W0 β) 266 kt288 := KOK_of W0_f (CT := ct288) (cuts := cu288) ⟨⟨ok264, trivial⟩, ⟨hok254_0, trivial⟩, trivial⟩ ke288 (fun cu h => by cases h) rfl
/-! HookSwingsModel.storm(II)I -/
def kt289 : KT := ([.inl (.inr (.inr (some 76))), .inr (false, (-2147483648), 2147483647), .inl (.inl 13)], some (.inr (false, (-2147483648), 2147483647)), [(76, 21, 22), (77, 2, 2), (77, 5, 5), (77, 8, 11), (77, 14, 14), (77, 16, 16), (77, 84, 473), (77, 602, 9817), (82, 0, 8), (83, 0, 330), (84, 0, 330)], [76, 77, 82, 83, 84], [(77, 16, .inr (false, 0, 9999))], [(77, 16, .inr (false, 0, 9999))], [], 10)
def ct289 : CTB := [(251, [kt264]), (254, [hk254_0])]
def cu289 : List CU := []
theorem ke289 : chkE JB ct289 cu289 kt289 9 266 = true := by decide +kernel
theorem ok289 {β : Nat} : KOK JB (W0 β) 266 kt289 := KOK_of W0_f (CT := ct289) (cuts := cu289) ⟨⟨ok264, trivial⟩, ⟨hok254_0, trivial⟩, trivial⟩ ke289 (fun cu h => by cases h) rfl
/-! HookSwingsModel.storm(II)I -/
def kt290 : KT := ([.inl (.inr (.inr (some 76))), .inr (false, (-2147483648), 2147483647), .inl (.inl 14)], some (.inr (false, (-2147483648), 2147483647)), [(76, 21, 22), (77, 2, 2), (77, 5, 5), (77, 8, 11), (77, 14, 14), (77, 16, 16), (77, 84, 473), (77, 602, 9817), (82, 0, 8), (83, 0, 330), (84, 0, 330)], [76, 77, 82, 83, 84], [(77, 16, .inr (false, 0, 9999))], [(77, 16, .inr (false, 0, 9999))], [], 10)
def ct290 : CTB := [(251, [kt264]), (254, [hk254_0])]
def cu290 : List CU := []
theorem ke290 : chkE JB ct290 cu290 kt290 9 266 = true := by decide +kernel
theorem ok290 {β : Nat} : KOK JB (W0 β) 266 kt290 := KOK_of W0_f (CT := ct290) (cuts := cu290) ⟨⟨ok264, trivial⟩, ⟨hok254_0, trivial⟩, trivial⟩ ke290 (fun cu h => by cases h) rfl
/-! HookSwingsModel.storm(II)I -/
def kt291 : KT := ([.inl (.inr (.inr (some 76))), .inr (false, (-2147483648), 2147483647), .inl (.inl 15)], some (.inr (false, (-2147483648), 2147483647)), [(76, 21, 22), (77, 2, 2), (77, 5, 5), (77, 8, 11), (77, 14, 14), (77, 16, 16), (77, 84, 473), (77, 602, 9817), (82, 0, 8), (83, 0, 330), (84, 0, 330)], [76, 77, 82, 83, 84], [(77, 16, .inr (false, 0, 9999))], [(77, 16, .inr (false, 0, 9999))], [], 10)
def ct291 : CTB := [(251, [kt264]), (254, [hk254_0])]
def cu291 : List CU := []
theorem ke291 : chkE JB ct291 cu291 kt291 9 266 = true := by decide +kernel
theorem ok291 {β : Nat} : KOK JB (W0 β) 266 kt291 := KOK_of W0_f (CT := ct291) (cuts := cu291) ⟨⟨ok264, trivial⟩, ⟨hok254_0, trivial⟩, trivial⟩ ke291 (fun cu h => by cases h) rfl
/-! HookSwingsModel.storm(II)I -/
def kt292 : KT := ([.inl (.inr (.inr (some 76))), .inr (false, (-2147483648), 2147483647), .inl (.inl 16)], some (.inr (false, (-2147483648), 2147483647)), [(76, 21, 22), (77, 2, 2), (77, 5, 5), (77, 8, 11), (77, 14, 14), (77, 16, 16), (77, 84, 473), (77, 602, 9817), (82, 0, 8), (83, 0, 330), (84, 0, 330)], [76, 77, 82, 83, 84], [(77, 16, .inr (false, 0, 9999))], [(77, 16, .inr (false, 0, 9999))], [], 10)
def ct292 : CTB := [(251, [kt264]), (254, [hk254_0])]
def cu292 : List CU := []
theorem ke292 : chkE JB ct292 cu292 kt292 9 266 = true := by decide +kernel
theorem ok292 {β : Nat} : KOK JB (W0 β) 266 kt292 := KOK_of W0_f (CT := ct292) (cuts := cu292) ⟨⟨ok264, trivial⟩, ⟨hok254_0, trivial⟩, trivial⟩ ke292 (fun cu h => by cases h) rfl
/-! HookSwingsModel.storm(II)I -/
def kt293 : KT := ([.inl (.inr (.inr (some 76))), .inr (false, (-2147483648), 2147483647), .inl (.inl 17)], some (.inr (false, (-2147483648), 2147483647)), [(76, 21, 22), (77, 2, 2), (77, 5, 5), (77, 8, 11), (77, 14, 14), (77, 16, 16), (77, 84, 473), (77, 602, 9817), (82, 0, 8), (83, 0, 330), (84, 0, 330)], [76, 77, 82, 83, 84], [(77, 16, .inr (false, 0, 9999))], [(77, 16, .inr (false, 0, 9999))], [], 10)
def ct293 : CTB := [(251, [kt264]), (254, [hk254_0])]
def cu293 : List CU := []
theorem ke293 : chkE JB ct293 cu293 kt293 9 266 = true := by decide +kernel
theorem ok293 {β : Nat} : KOK JB (W0 β) 266 kt293 := KOK_of W0_f (CT := ct293) (cuts := cu293) ⟨⟨ok264, trivial⟩, ⟨hok254_0, trivial⟩, trivial⟩ ke293 (fun cu h => by cases h) rfl
/-! HookSwingsModel.storm(II)I -/
def kt294 : KT := ([.inl (.inr (.inr (some 76))), .inr (false, (-2147483648), 2147483647), .inl (.inl 18)], some (.inr (false, (-2147483648), 2147483647)), [(76, 21, 22), (77, 2, 2), (77, 5, 5), (77, 8, 11), (77, 14, 14), (77, 16, 16), (77, 84, 473), (77, 602, 9817), (82, 0, 8), (83, 0, 330), (84, 0, 330)], [76, 77, 82, 83, 84], [(77, 16, .inr (false, 0, 9999))], [(77, 16, .inr (false, 0, 9999))], [], 10)
def ct294 : CTB := [(251, [kt264]), (254, [hk254_0])]
def cu294 : List CU := []
theorem ke294 : chkE JB ct294 cu294 kt294 9 266 = true := by decide +kernel
theorem ok294 {β : Nat} : KOK JB (W0 β) 266 kt294 := KOK_of W0_f (CT := ct294) (cuts := cu294) ⟨⟨ok264, trivial⟩, ⟨hok254_0, trivial⟩, trivial⟩ ke294 (fun cu h => by cases h) rfl
/-! HookSwingsModel.storm(II)I -/
def kt295 : KT := ([.inl (.inr (.inr (some 76))), .inr (false, (-2147483648), 2147483647), .inl (.inl 19)], some (.inr (false, (-2147483648), 2147483647)), [(76, 21, 22), (77, 2, 2), (77, 5, 5), (77, 8, 11), (77, 14, 14), (77, 16, 16), (77, 84, 473), (77, 602, 9817), (82, 0, 8), (83, 0, 330), (84, 0, 330)], [76, 77, 82, 83, 84], [(77, 16, .inr (false, 0, 9999))], [(77, 16, .inr (false, 0, 9999))], [], 10)
def ct295 : CTB := [(251, [kt264]), (254, [hk254_0])]
def cu295 : List CU := []
theorem ke295 : chkE JB ct295 cu295 kt295 9 266 = true := by decide +kernel
theorem ok295 {β : Nat} : KOK JB (W0 β) 266 kt295 := KOK_of W0_f (CT := ct295) (cuts := cu295) ⟨⟨ok264, trivial⟩, ⟨hok254_0, trivial⟩, trivial⟩ ke295 (fun cu h => by cases h) rfl
/-! HookSwingsModel.storm(II)I -/
def kt296 : KT := ([.inl (.inr (.inr (some 76))), .inr (false, (-2147483648), 2147483647), .inl (.inl 20)], some (.inr (false, (-2147483648), 2147483647)), [(76, 21, 22), (77, 2, 2), (77, 5, 5), (77, 8, 11), (77, 14, 14), (77, 16, 16), (77, 84, 473), (77, 602, 9817), (82, 0, 8), (83, 0, 330), (84, 0, 330)], [76, 77, 82, 83, 84], [(77, 16, .inr (false, 0, 9999))], [(77, 16, .inr (false, 0, 9999))], [], 10)
def ct296 : CTB := [(251, [kt264]), (254, [hk254_0])]
def cu296 : List CU := []
theorem ke296 : chkE JB ct296 cu296 kt296 9 266 = true := by decide +kernel
theorem ok296 {β : Nat} : KOK JB (W0 β) 266 kt296 := KOK_of W0_f (CT := ct296) (cuts := cu296) ⟨⟨ok264, trivial⟩, ⟨hok254_0, trivial⟩, trivial⟩ ke296 (fun cu h => by cases h) rfl
/-! HookSwingsModel.storm(II)I -/
def kt297 : KT := ([.inl (.inr (.inr (some 76))), .inr (false, (-2147483648), 2147483647), .inl (.inl 21)], some (.inr (false, (-2147483648), 2147483647)), [(76, 21, 22), (77, 2, 2), (77, 5, 5), (77, 8, 11), (77, 14, 14), (77, 16, 16), (77, 84, 473), (77, 602, 9817), (82, 0, 8), (83, 0, 330), (84, 0, 330)], [76, 77, 82, 83, 84], [(77, 16, .inr (false, 0, 9999))], [(77, 16, .inr (false, 0, 9999))], [], 10)
def ct297 : CTB := [(251, [kt264]), (254, [hk254_0])]
def cu297 : List CU := []
theorem ke297 : chkE JB ct297 cu297 kt297 9 266 = true := by decide +kernel
theorem ok297 {β : Nat} : KOK JB (W0 β) 266 kt297 := KOK_of W0_f (CT := ct297) (cuts := cu297) ⟨⟨ok264, trivial⟩, ⟨hok254_0, trivial⟩, trivial⟩ ke297 (fun cu h => by cases h) rfl
/-! HookSwingsModel.storm(II)I -/
def kt298 : KT := ([.inl (.inr (.inr (some 76))), .inr (false, (-2147483648), 2147483647), .inl (.inl 22)], some (.inr (false, (-2147483648), 2147483647)), [(76, 21, 22), (77, 2, 2), (77, 5, 5), (77, 8, 11), (77, 14, 14), (77, 16, 16), (77, 84, 473), (77, 602, 9817), (82, 0, 8), (83, 0, 330), (84, 0, 330)], [76, 77, 82, 83, 84], [(77, 16, .inr (false, 0, 9999))], [(77, 16, .inr (false, 0, 9999))], [], 10)
def ct298 : CTB := [(251, [kt264]), (254, [hk254_0])]
def cu298 : List CU := []
theorem ke298 : chkE JB ct298 cu298 kt298 9 266 = true := by decide +kernel
theorem ok298 {β : Nat} : KOK JB (W0 β) 266 kt298 := KOK_of W0_f (CT := ct298) (cuts := cu298) ⟨⟨ok264, trivial⟩, ⟨hok254_0, trivial⟩, trivial⟩ ke298 (fun cu h => by cases h) rfl
/-! HookSwingsModel.storm(II)I -/
def kt299 : KT := ([.inl (.inr (.inr (some 76))), .inr (false, (-2147483648), 2147483647), .inl (.inl 23)], some (.inr (false, (-2147483648), 2147483647)), [(76, 21, 22), (77, 2, 2), (77, 5, 5), (77, 8, 11), (77, 14, 14), (77, 16, 16), (77, 84, 473), (77, 602, 9817), (82, 0, 8), (83, 0, 330), (84, 0, 330)], [76, 77, 82, 83, 84], [(77, 16, .inr (false, 0, 9999))], [(77, 16, .inr (false, 0, 9999))], [], 10)
def ct299 : CTB := [(251, [kt264]), (254, [hk254_0])]
def cu299 : List CU := []
theorem ke299 : chkE JB ct299 cu299 kt299 9 266 = true := by decide +kernel
theorem ok299 {β : Nat} : KOK JB (W0 β) 266 kt299 := KOK_of W0_f (CT := ct299) (cuts := cu299) ⟨⟨ok264, trivial⟩, ⟨hok254_0, trivial⟩, trivial⟩ ke299 (fun cu h => by cases h) rfl
/-! HookSwingsModel.storm(II)I -/
def kt300 : KT := ([.inl (.inr (.inr (some 76))), .inr (false, (-2147483648), 2147483647), .inl (.inl 24)], some (.inr (false, (-2147483648), 2147483647)), [(76, 21, 22), (77, 2, 2), (77, 5, 5), (77, 8, 11), (77, 14, 14), (77, 16, 16), (77, 84, 473), (77, 602, 9817), (82, 0, 8), (83, 0, 330), (84, 0, 330)], [76, 77, 82, 83, 84], [(77, 16, .inr (false, 0, 9999))], [(77, 16, .inr (false, 0, 9999))], [], 10)
def ct300 : CTB := [(251, [kt264]), (254, [hk254_0])]
def cu300 : List CU := []
theorem ke300 : chkE JB ct300 cu300 kt300 9 266 = true := by decide +kernel
theorem ok300 {β : Nat} : KOK JB (W0 β) 266 kt300 := KOK_of W0_f (CT := ct300) (cuts := cu300) ⟨⟨ok264, trivial⟩, ⟨hok254_0, trivial⟩, trivial⟩ ke300 (fun cu h => by cases h) rfl
/-! HookSwingsModel.storm(II)I -/
def kt301 : KT := ([.inl (.inr (.inr (some 76))), .inr (false, (-2147483648), 2147483647), .inl (.inl 25)], some (.inr (false, (-2147483648), 2147483647)), [(76, 21, 22), (77, 2, 2), (77, 5, 5), (77, 8, 11), (77, 14, 14), (77, 16, 16), (77, 84, 473), (77, 602, 9817), (82, 0, 8), (83, 0, 330), (84, 0, 330)], [76, 77, 82, 83, 84], [(77, 16, .inr (false, 0, 9999))], [(77, 16, .inr (false, 0, 9999))], [], 10)
def ct301 : CTB := [(251, [kt264]), (254, [hk254_0])]
def cu301 : List CU := []
theorem ke301 : chkE JB ct301 cu301 kt301 9 266 = true := by decide +kernel
theorem ok301 {β : Nat} : KOK JB (W0 β) 266 kt301 := KOK_of W0_f (CT := ct301) (cuts := cu301) ⟨⟨ok264, trivial⟩, ⟨hok254_0, trivial⟩, trivial⟩ ke301 (fun cu h => by cases h) rfl
/-! HookSwingsModel.storm(II)I -/
def kt302 : KT := ([.inl (.inr (.inr (some 76))), .inr (false, (-2147483648), 2147483647), .inl (.inl 26)], some (.inr (false, (-2147483648), 2147483647)), [(76, 21, 22), (77, 2, 2), (77, 5, 5), (77, 8, 11), (77, 14, 14), (77, 16, 16), (77, 84, 473), (77, 602, 9817), (82, 0, 8), (83, 0, 330), (84, 0, 330)], [76, 77, 82, 83, 84], [(77, 16, .inr (false, 0, 9999))], [(77, 16, .inr (false, 0, 9999))], [], 10)
def ct302 : CTB := [(251, [kt264]), (254, [hk254_0])]
def cu302 : List CU := []
theorem ke302 : chkE JB ct302 cu302 kt302 9 266 = true := by decide +kernel
theorem ok302 {β : Nat} : KOK JB (W0 β) 266 kt302 := KOK_of W0_f (CT := ct302) (cuts := cu302) ⟨⟨ok264, trivial⟩, ⟨hok254_0, trivial⟩, trivial⟩ ke302 (fun cu h => by cases h) rfl
/-! HookSwingsModel.storm(II)I -/
def kt303 : KT := ([.inl (.inr (.inr (some 76))), .inr (false, (-2147483648), 2147483647), .inl (.inl 27)], some (.inr (false, (-2147483648), 2147483647)), [(76, 21, 22), (77, 2, 2), (77, 5, 5), (77, 8, 11), (77, 14, 14), (77, 16, 16), (77, 84, 473), (77, 602, 9817), (82, 0, 8), (83, 0, 330), (84, 0, 330)], [76, 77, 82, 83, 84], [(77, 16, .inr (false, 0, 9999))], [(77, 16, .inr (false, 0, 9999))], [], 10)
def ct303 : CTB := [(251, [kt264]), (254, [hk254_0])]
def cu303 : List CU := []
theorem ke303 : chkE JB ct303 cu303 kt303 9 266 = true := by decide +kernel
theorem ok303 {β : Nat} : KOK JB (W0 β) 266 kt303 := KOK_of W0_f (CT := ct303) (cuts := cu303) ⟨⟨ok264, trivial⟩, ⟨hok254_0, trivial⟩, trivial⟩ ke303 (fun cu h => by cases h) rfl
/-! HookSwingsModel.storm(II)I -/
def kt304 : KT := ([.inl (.inr (.inr (some 76))), .inr (false, (-2147483648), 2147483647), .inl (.inl 28)], some (.inr (false, (-2147483648), 2147483647)), [(76, 21, 22), (77, 2, 2), (77, 5, 5), (77, 8, 11), (77, 14, 14), (77, 16, 16), (77, 84, 473), (77, 602, 9817), (82, 0, 8), (83, 0, 330), (84, 0, 330)], [76, 77, 82, 83, 84], [(77, 16, .inr (false, 0, 9999))], [(77, 16, .inr (false, 0, 9999))], [], 10)
def ct304 : CTB := [(251, [kt264]), (254, [hk254_0])]
def cu304 : List CU := []
theorem ke304 : chkE JB ct304 cu304 kt304 9 266 = true := by decide +kernel
theorem ok304 {β : Nat} : KOK JB (W0 β) 266 kt304 := KOK_of W0_f (CT := ct304) (cuts := cu304) ⟨⟨ok264, trivial⟩, ⟨hok254_0, trivial⟩, trivial⟩ ke304 (fun cu h => by cases h) rfl
/-! HookSwingsModel.storm(II)I -/
def kt305 : KT := ([.inl (.inr (.inr (some 76))), .inr (false, (-2147483648), 2147483647), .inl (.inl 29)], some (.inr (false, (-2147483648), 2147483647)), [(76, 21, 22), (77, 2, 2), (77, 5, 5), (77, 8, 11), (77, 14, 14), (77, 16, 16), (77, 84, 473), (77, 602, 9817), (82, 0, 8), (83, 0, 330), (84, 0, 330)], [76, 77, 82, 83, 84], [(77, 16, .inr (false, 0, 9999))], [(77, 16, .inr (false, 0, 9999))], [], 10)
def ct305 : CTB := [(251, [kt264]), (254, [hk254_0])]
def cu305 : List CU := []
theorem ke305 : chkE JB ct305 cu305 kt305 9 266 = true := by decide +kernel
theorem ok305 {β : Nat} : KOK JB (W0 β) 266 kt305 := KOK_of W0_f (CT := ct305) (cuts := cu305) ⟨⟨ok264, trivial⟩, ⟨hok254_0, trivial⟩, trivial⟩ ke305 (fun cu h => by cases h) rfl
/-! HookSwingsModel.storm(II)I -/
def kt306 : KT := ([.inl (.inr (.inr (some 76))), .inr (false, (-2147483648), 2147483647), .inl (.inl 30)], some (.inr (false, (-2147483648), 2147483647)), [(76, 21, 22), (77, 2, 2), (77, 5, 5), (77, 8, 11), (77, 14, 14), (77, 16, 16), (77, 84, 473), (77, 602, 9817), (82, 0, 8), (83, 0, 330), (84, 0, 330)], [76, 77, 82, 83, 84], [(77, 16, .inr (false, 0, 9999))], [(77, 16, .inr (false, 0, 9999))], [], 10)
def ct306 : CTB := [(251, [kt264]), (254, [hk254_0])]
def cu306 : List CU := []
theorem ke306 : chkE JB ct306 cu306 kt306 9 266 = true := by decide +kernel
theorem ok306 {β : Nat} : KOK JB (W0 β) 266 kt306 := KOK_of W0_f (CT := ct306) (cuts := cu306) ⟨⟨ok264, trivial⟩, ⟨hok254_0, trivial⟩, trivial⟩ ke306 (fun cu h => by cases h) rfl
/-! HookSwingsModel.storm(II)I -/
def kt307 : KT := ([.inl (.inr (.inr (some 76))), .inr (false, (-2147483648), 2147483647), .inl (.inl 31)], some (.inr (false, (-2147483648), 2147483647)), [(76, 21, 22), (77, 2, 2), (77, 5, 5), (77, 8, 11), (77, 14, 14), (77, 16, 16), (77, 84, 473), (77, 602, 9817), (82, 0, 8), (83, 0, 330), (84, 0, 330)], [76, 77, 82, 83, 84], [(77, 16, .inr (false, 0, 9999))], [(77, 16, .inr (false, 0, 9999))], [], 10)
def ct307 : CTB := [(251, [kt264]), (254, [hk254_0])]
def cu307 : List CU := []
theorem ke307 : chkE JB ct307 cu307 kt307 9 266 = true := by decide +kernel
theorem ok307 {β : Nat} : KOK JB (W0 β) 266 kt307 := KOK_of W0_f (CT := ct307) (cuts := cu307) ⟨⟨ok264, trivial⟩, ⟨hok254_0, trivial⟩, trivial⟩ ke307 (fun cu h => by cases h) rfl
/-! HookSwingsModel.storm(II)I -/
def kt308 : KT := ([.inl (.inr (.inr (some 76))), .inr (false, (-2147483648), 2147483647), .inl (.inl 32)], some (.inr (false, (-2147483648), 2147483647)), [(76, 21, 22), (77, 2, 2), (77, 5, 5), (77, 8, 11), (77, 14, 14), (77, 16, 16), (77, 84, 473), (77, 602, 9817), (82, 0, 8), (83, 0, 330), (84, 0, 330)], [76, 77, 82, 83, 84], [(77, 16, .inr (false, 0, 9999))], [(77, 16, .inr (false, 0, 9999))], [], 10)
def ct308 : CTB := [(251, [kt264]), (254, [hk254_0])]
def cu308 : List CU := []
theorem ke308 : chkE JB ct308 cu308 kt308 9 266 = true := by decide +kernel
theorem ok308 {β : Nat} : KOK JB (W0 β) 266 kt308 := KOK_of W0_f (CT := ct308) (cuts := cu308) ⟨⟨ok264, trivial⟩, ⟨hok254_0, trivial⟩, trivial⟩ ke308 (fun cu h => by cases h) rfl
/-! HookSwingsModel.storm(II)I -/
def kt309 : KT := ([.inl (.inr (.inr (some 76))), .inr (false, (-2147483648), 2147483647), .inl (.inl 33)], some (.inr (false, (-2147483648), 2147483647)), [(76, 21, 22), (77, 2, 2), (77, 5, 5), (77, 8, 11), (77, 14, 14), (77, 16, 16), (77, 84, 473), (77, 602, 9817), (82, 0, 8), (83, 0, 330), (84, 0, 330)], [76, 77, 82, 83, 84], [(77, 16, .inr (false, 0, 9999))], [(77, 16, .inr (false, 0, 9999))], [], 10)
def ct309 : CTB := [(251, [kt264]), (254, [hk254_0])]
def cu309 : List CU := []
theorem ke309 : chkE JB ct309 cu309 kt309 9 266 = true := by decide +kernel
theorem ok309 {β : Nat} : KOK JB (W0 β) 266 kt309 := KOK_of W0_f (CT := ct309) (cuts := cu309) ⟨⟨ok264, trivial⟩, ⟨hok254_0, trivial⟩, trivial⟩ ke309 (fun cu h => by cases h) rfl
/-! HookSwingsModel.storm(II)I -/
def kt310 : KT := ([.inl (.inr (.inr (some 76))), .inr (false, (-2147483648), 2147483647), .inl (.inl 34)], some (.inr (false, (-2147483648), 2147483647)), [(76, 21, 22), (77, 2, 2), (77, 5, 5), (77, 8, 11), (77, 14, 14), (77, 16, 16), (77, 84, 473), (77, 602, 9817), (82, 0, 8), (83, 0, 330), (84, 0, 330)], [76, 77, 82, 83, 84], [(77, 16, .inr (false, 0, 9999))], [(77, 16, .inr (false, 0, 9999))], [], 10)
def ct310 : CTB := [(251, [kt264]), (254, [hk254_0])]
def cu310 : List CU := []
theorem ke310 : chkE JB ct310 cu310 kt310 9 266 = true := by decide +kernel
theorem ok310 {β : Nat} : KOK JB (W0 β) 266 kt310 := KOK_of W0_f (CT := ct310) (cuts := cu310) ⟨⟨ok264, trivial⟩, ⟨hok254_0, trivial⟩, trivial⟩ ke310 (fun cu h => by cases h) rfl
/-! HookSwingsModel.storm(II)I -/
def kt311 : KT := ([.inl (.inr (.inr (some 76))), .inr (false, (-2147483648), 2147483647), .inl (.inl 35)], some (.inr (false, (-2147483648), 2147483647)), [(76, 21, 22), (77, 2, 2), (77, 5, 5), (77, 8, 11), (77, 14, 14), (77, 16, 16), (77, 84, 473), (77, 602, 9817), (82, 0, 8), (83, 0, 330), (84, 0, 330)], [76, 77, 82, 83, 84], [(77, 16, .inr (false, 0, 9999))], [(77, 16, .inr (false, 0, 9999))], [], 10)
def ct311 : CTB := [(251, [kt264]), (254, [hk254_0])]
def cu311 : List CU := []
theorem ke311 : chkE JB ct311 cu311 kt311 9 266 = true := by decide +kernel
theorem ok311 {β : Nat} : KOK JB (W0 β) 266 kt311 := KOK_of W0_f (CT := ct311) (cuts := cu311) ⟨⟨ok264, trivial⟩, ⟨hok254_0, trivial⟩, trivial⟩ ke311 (fun cu h => by cases h) rfl
/-! HookSwingsModel.storm(II)I -/
def kt312 : KT := ([.inl (.inr (.inr (some 76))), .inr (false, (-2147483648), 2147483647), .inl (.inl 36)], some (.inr (false, (-2147483648), 2147483647)), [(76, 21, 22), (77, 2, 2), (77, 5, 5), (77, 8, 11), (77, 14, 14), (77, 16, 16), (77, 84, 473), (77, 602, 9817), (82, 0, 8), (83, 0, 330), (84, 0, 330)], [76, 77, 82, 83, 84], [(77, 16, .inr (false, 0, 9999))], [(77, 16, .inr (false, 0, 9999))], [], 10)
def ct312 : CTB := [(251, [kt264]), (254, [hk254_0])]
def cu312 : List CU := []
theorem ke312 : chkE JB ct312 cu312 kt312 9 266 = true := by decide +kernel
theorem ok312 {β : Nat} : KOK JB (W0 β) 266 kt312 := KOK_of W0_f (CT := ct312) (cuts := cu312) ⟨⟨ok264, trivial⟩, ⟨hok254_0, trivial⟩, trivial⟩ ke312 (fun cu h => by cases h) rfl
/-! HookSwingsModel.storm(II)I -/
def kt313 : KT := ([.inl (.inr (.inr (some 76))), .inr (false, (-2147483648), 2147483647), .inl (.inl 37)], some (.inr (false, (-2147483648), 2147483647)), [(76, 21, 22), (77, 2, 2), (77, 5, 5), (77, 8, 11), (77, 14, 14), (77, 16, 16), (77, 84, 473), (77, 602, 9817), (82, 0, 8), (83, 0, 330), (84, 0, 330)], [76, 77, 82, 83, 84], [(77, 16, .inr (false, 0, 9999))], [(77, 16, .inr (false, 0, 9999))], [], 10)
def ct313 : CTB := [(251, [kt264]), (254, [hk254_0])]
def cu313 : List CU := []
theorem ke313 : chkE JB ct313 cu313 kt313 9 266 = true := by decide +kernel
theorem ok313 {β : Nat} : KOK JB (W0 β) 266 kt313 := KOK_of W0_f (CT := ct313) (cuts := cu313) ⟨⟨ok264, trivial⟩, ⟨hok254_0, trivial⟩, trivial⟩ ke313 (fun cu h => by cases h) rfl
/-! HookSwingsModel.storm(II)I -/
def kt314 : KT := ([.inl (.inr (.inr (some 76))), .inr (false, (-2147483648), 2147483647), .inl (.inl 38)], some (.inr (false, (-2147483648), 2147483647)), [(76, 21, 22), (77, 2, 2), (77, 5, 5), (77, 8, 11), (77, 14, 14), (77, 16, 16), (77, 84, 473), (77, 602, 9817), (82, 0, 8), (83, 0, 330), (84, 0, 330)], [76, 77, 82, 83, 84], [(77, 16, .inr (false, 0, 9999))], [(77, 16, .inr (false, 0, 9999))], [], 10)
def ct314 : CTB := [(251, [kt264]), (254, [hk254_0])]
def cu314 : List CU := []
theorem ke314 : chkE JB ct314 cu314 kt314 9 266 = true := by decide +kernel
theorem ok314 {β : Nat} : KOK JB (W0 β) 266 kt314 := KOK_of W0_f (CT := ct314) (cuts := cu314) ⟨⟨ok264, trivial⟩, ⟨hok254_0, trivial⟩, trivial⟩ ke314 (fun cu h => by cases h) rfl
/-! HookSwingsModel.storm(II)I -/
def kt315 : KT := ([.inl (.inr (.inr (some 76))), .inr (false, (-2147483648), 2147483647), .inl (.inl 39)], some (.inr (false, (-2147483648), 2147483647)), [(76, 21, 22), (77, 2, 2), (77, 5, 5), (77, 8, 11), (77, 14, 14), (77, 16, 16), (77, 84, 473), (77, 602, 9817), (82, 0, 8), (83, 0, 330), (84, 0, 330)], [76, 77, 82, 83, 84], [(77, 16, .inr (false, 0, 9999))], [(77, 16, .inr (false, 0, 9999))], [], 10)
def ct315 : CTB := [(251, [kt264]), (254, [hk254_0])]
def cu315 : List CU := []
theorem ke315 : chkE JB ct315 cu315 kt315 9 266 = true := by decide +kernel
theorem ok315 {β : Nat} : KOK JB (W0 β) 266 kt315 := KOK_of W0_f (CT := ct315) (cuts := cu315) ⟨⟨ok264, trivial⟩, ⟨hok254_0, trivial⟩, trivial⟩ ke315 (fun cu h => by cases h) rfl
/-! HookSwingsModel.storm(II)I -/
def kt316 : KT := ([.inl (.inr (.inr (some 76))), .inr (false, (-2147483648), 2147483647), .inl (.inl 40)], some (.inr (false, (-2147483648), 2147483647)), [(76, 21, 22), (77, 2, 2), (77, 5, 5), (77, 8, 11), (77, 14, 14), (77, 16, 16), (77, 84, 473), (77, 602, 9817), (82, 0, 8), (83, 0, 330), (84, 0, 330)], [76, 77, 82, 83, 84], [(77, 16, .inr (false, 0, 9999))], [(77, 16, .inr (false, 0, 9999))], [], 10)
def ct316 : CTB := [(251, [kt264]), (254, [hk254_0])]
def cu316 : List CU := []
theorem ke316 : chkE JB ct316 cu316 kt316 9 266 = true := by decide +kernel
theorem ok316 {β : Nat} : KOK JB (W0 β) 266 kt316 := KOK_of W0_f (CT := ct316) (cuts := cu316) ⟨⟨ok264, trivial⟩, ⟨hok254_0, trivial⟩, trivial⟩ ke316 (fun cu h => by cases h) rfl
/-! HookSwingsModel.storm(II)I -/
def kt317 : KT := ([.inl (.inr (.inr (some 76))), .inr (false, (-2147483648), 2147483647), .inr (false, (-2147483648), 0)], some (.inr (false, (-1), (-1))), [], [], [(77, 16, .inr (false, 0, 9999))], [(77, 16, .inr (false, 0, 9999))], [], 2)
def ct317 : CTB := []
def cu317 : List CU := []
theorem ke317 : chkE JB ct317 cu317 kt317 1 266 = true := by decide +kernel
theorem ok317 {β : Nat} : KOK JB (W0 β) 266 kt317 := KOK_of W0_f (CT := ct317) (cuts := cu317) trivial ke317 (fun cu h => by cases h) rfl
/-! HookSwingsModel.storm(II)I -/
def kt318 : KT := ([.inl (.inr (.inr (some 76))), .inr (false, (-2147483648), 2147483647), .inr (false, 41, 2147483647)], some (.inr (false, (-1), (-1))), [], [], [(77, 16, .inr (false, 0, 9999))], [(77, 16, .inr (false, 0, 9999))], [], 2)
def ct318 : CTB := []
def cu318 : List CU := []
theorem ke318 : chkE JB ct318 cu318 kt318 1 266 = true := by decide +kernel
theorem ok318 {β : Nat} : KOK JB (W0 β) 266 kt318 := KOK_of W0_f (CT := ct318) (cuts := cu318) trivial ke318 (fun cu h => by cases h) rfl
