/-! HookSwingsModel.two(IJJ)J -/
def kt475 : KT := ([.inr (false, (-2147483648), 2147483647), .inr (true, (-9223372036854775808), 9223372036854775807), .inr (true, (-9223372036854775808), 9223372036854775807)], some (.inr (true, (-1000000), 1000000)), [], [], [], [], [], 2)
def ct475 : CTB := []
def cu475 : List CU := []
theorem ke475 : chkE JB ct475 cu475 kt475 1 236 = true := by decide +kernel
theorem ok475 {β : Nat} : KOK JB (W0 β) 236 kt475 := KOK_of W0_f (CT := ct475) (cuts := cu475) trivial ke475 (fun cu h => by cases h) rfl
/-! HookSwingsModel.isAsked(IJJ)Z -/
def kt476 : KT := ([.inr (false, (-2147483648), 2147483647), .inr (true, (-9223372036854775808), 9223372036854775807), .inr (true, (-9223372036854775808), 9223372036854775807)], some (.inr (false, 0, 1)), [], [], [], [], [], 1)
def ct476 : CTB := []
def cu476 : List CU := []
theorem ke476 : chkE JB ct476 cu476 kt476 0 237 = true := by decide +kernel
theorem ok476 {β : Nat} : KOK JB (W0 β) 237 kt476 := KOK_of W0_f (CT := ct476) (cuts := cu476) trivial ke476 (fun cu h => by cases h) rfl
abbrev cM236 : KT := kt475
theorem okM236 {β : Nat} : KOK JB (W0 β) 236 cM236 := ok475
abbrev cM237 : KT := kt476
theorem okM237 {β : Nat} : KOK JB (W0 β) 237 cM237 := ok476
