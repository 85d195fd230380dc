theorem mant_ne {k : Nat} (hk : k < 2) {b : Int64} (hz : 0 < (f_X7_unsigned k b).toInt ∧ f_X7_unsigned k b ≤ kinf k) : ¬ f_X7_mantissa k b = 0 := by
  sorry
