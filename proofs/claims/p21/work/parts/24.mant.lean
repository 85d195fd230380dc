theorem mant_ne {k : Nat} (hk : k < 2) {b : Int64} (hz : 0 < (f_X7_unsigned k b).toInt ∧ f_X7_unsigned k b ≤ kinf k) : ¬ f_X7_mantissa k b = 0 := by
  obtain ⟨h1, h2⟩ := hz
  have h3 := Int64.le_iff_toInt_le.mp h2
  have hI := @kinfN_lt k
  rw [kinf_lN hk, pf_lI hI] at h3
  have hb : f_X7_unsigned k b = lN (f_X7_unsigned k b).toInt.toNat := Int64.toInt_inj.mp (by rw [pf_lI (by omega)]; omega)
  obtain ⟨j, -, -, hj1, hj2, e, -⟩ := mp_of hk hb (by omega) (by omega)
  have hp : 2 ^ (kfbN k + 1) < 2 ^ 63 := wb_lt2 (by have := k_bounds hk; omega)
  have := Nat.two_pow_pos (kfbN k)
  rw [e]
  intro h
  have := (lN0 (by omega)).mp h
  omega

