theorem n10 : ¬ (1 : Int32) = 0 := by decide
