theorem zz_look : 1 = 1 := rfl
