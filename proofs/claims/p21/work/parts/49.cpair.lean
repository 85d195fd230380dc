theorem hasPair_def (k n : Nat) (f : Nat → Int64) (x : Int32) : f_X3_hasPair k n f x = if x < 0 then (0 : Int32) else if (nI n) / (2 : Int32) ≤ x then (0 : Int32) else (1 : Int32) := rfl
theorem pr_in {k n : Nat} {f : Nat → Int64} {x : Int32} (hn : n ≤ 500) (h : ¬ f_X3_hasPair k n f x = 0) : vp_in ((2 : Int32) * x) n ∧ vp_in (((2 : Int32) * x) + (1 : Int32)) n := by
  rw [hasPair_def] at h
  by_cases h1 : x < 0
  · rw [if_pos h1] at h; exact absurd rfl h
  · rw [if_neg h1] at h
    by_cases h2 : (nI n) / (2 : Int32) ≤ x
    · rw [if_pos h2] at h; exact absurd rfl h
    · obtain ⟨q, hq, rfl⟩ := nI_of h1
      have h3 : (nI n / (2 : Int32)).toInt = ((n / 2 : Nat) : Int) := by
        have := Int32.toInt_div_of_ne_left (nI n) 2 (by intro h; have := congrArg Int32.toInt h; rw [nI_toInt (by omega)] at this; have h5 : (Int32.minValue).toInt = -2147483648 := (by decide); omega)
        rw [this, nI_toInt (by omega), show (2 : Int32).toInt = 2 by decide, Int.tdiv_eq_ediv_of_nonneg (by omega)]
        omega
      rw [Int32.le_iff_toInt_le, h3, nI_toInt hq] at h2
      have h4 : ((2 : Int32) * nI q).toInt = ((2 * q : Nat) : Int) := by
        rw [Kit.i32_mul (by rw [nI_toInt hq, show (2 : Int32).toInt = 2 by decide]; omega) (by rw [nI_toInt hq, show (2 : Int32).toInt = 2 by decide]; omega), nI_toInt hq, show (2 : Int32).toInt = 2 by decide]
        omega
      refine ⟨vp_in_iff.mpr (by rw [h4]; omega), vp_in_iff.mpr ?_⟩
      rw [inc_val (by rw [h4]; omega), h4]
      omega
theorem iv_not {H0 H : Heap} {ad : Nat → Nat} {v w w_k w_na w_n : Nat} {cJ : ClassId} {f : Nat → Int64} (h1 : H0.size ≤ v) (hl : v < H.size) (h2 : w < H0.size ∧ w_na < H0.size) : ¬ va_A (rWs ad w w_k w_na w_n cJ f) H.size v := by
  intro h
  rcases h with ⟨k, e, h⟩ | h
  · match k, h with
    | 0, h => have := congrArg Prod.fst (Option.some.inj h); have h3 : w = v := this; omega
    | 1, h => have := congrArg Prod.fst (Option.some.inj h); have h3 : w_na = v := this; omega
    | k + 2, h => cases h
  · omega

