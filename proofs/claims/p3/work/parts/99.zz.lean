theorem zz_a : 1 + 1 = 2 := rfl
