-- the passes of a sort
theorem nI_nn {n : Nat} (h : n ≤ 500) : ¬ nI n < 0 := by
  rw [Int32.lt_iff_toInt_lt, nI_toInt (by omega)]
  have : (0 : Int32).toInt = 0 := by decide
  omega
