theorem hok231_0 {β : Nat} : KOK JB (W0 β) 231 hk231_0 := sorry
theorem hok242_0 {β : Nat} : KOK JB (W0 β) 242 hk242_0 := sorry
theorem hok245_0 {β : Nat} : KOK JB (W0 β) 245 hk245_0 := sorry
