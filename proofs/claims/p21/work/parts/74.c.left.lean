-- what a division leaves: class and reference by numbers
theorem mod_go (a b d : Nat) : a % d * b % d = a * b % d := by
  rw [Nat.mul_mod, Nat.mod_mod, ← Nat.mul_mod]
section LEFT
variable {k : Nat} {s t : Bool} {u v : Nat} {x y : Int64}
theorem remL {k : Nat} {x1 x2 : Int64} {d : Nat} (h0 : 0 < d) (h2 : d < 2 ^ 53) : ∀ (n r : Nat) (q : Int32), r < d → q.toInt < (n : Int) + 1 → -2000 ≤ q.toInt → f_X2_remainder_L78 k x1 x2 (lN d) (n + 1) (lN r) q = f_X1_rounded k (f_X1_isNegative k x1) (lN (r * 2 ^ q.toInt.toNat % d)) (f_X1_exponent k x2) := by
  have p53 : (2 : Nat) ^ 53 = 9007199254740992 := rfl
  have hz : (0 : Int32).toInt = 0 := by decide
  have h10 : (10 : Int32).toInt = 10 := by decide
  have hm10 : (-10 : Int32).toInt = -10 := by decide
  intro n
  induction n with
  | zero =>
    intro r q hr hq hq2
    show f_X2_remainder_1 _ _ _ _ _ _ _ = _
    unfold f_X2_remainder_1
    rw [if_pos (by rw [Int32.le_iff_toInt_le, hz]; omega), show q.toInt.toNat = 0 by omega, Nat.pow_zero, Nat.mul_one, Nat.mod_eq_of_lt hr]
  | succ n ih =>
    intro r q hr hq hq2
    show f_X2_remainder_1 _ _ _ _ _ _ _ = _
    unfold f_X2_remainder_1
    by_cases h : q.toInt ≤ 0
    · rw [if_pos (by rw [Int32.le_iff_toInt_le, hz]; omega), show q.toInt.toNat = 0 by omega, Nat.pow_zero, Nat.mul_one, Nat.mod_eq_of_lt hr]
    · rw [if_neg (by rw [Int32.le_iff_toInt_le, hz]; omega)]
      have e := jminI_val q 10
      rw [h10] at e
      have e2 : jminI q 10 = nI (min q.toInt 10).toNat := by rw [nI_ofInt (x := jminI q 10) (by omega), e]
      have e3 : (q + (-10 : Int32)).toInt = q.toInt - 10 := by rw [Kit.i32_add (by rw [hm10]; have := q.toInt_lt; omega) (by rw [hm10]; have := q.toInt_lt; omega), hm10]; omega
      have hm : (min q.toInt 10).toNat ≤ 10 := by omega
      have hlt : r * 2 ^ (min q.toInt 10).toNat < 2 ^ 63 := by
        have h1 : 2 ^ (min q.toInt 10).toNat ≤ 2 ^ 10 := Nat.pow_le_pow_right (by decide) hm
        have h3 := Nat.mul_le_mul (show r ≤ 9007199254740991 by omega) h1
        exact Nat.lt_of_le_of_lt h3 (by decide)
      rw [e2, shlN _ (by omega), lN_rem hlt (by omega), ih _ _ (Nat.mod_lt _ h0) (by omega) (by omega), e3, mod_go, Nat.mul_assoc, ← Nat.pow_add, show (min q.toInt 10).toNat + (q.toInt - 10).toNat = q.toInt.toNat by omega]
theorem leftL {k : Nat} {x1 x2 : Int64} {d : Nat} (h0 : 0 < d) (h2 : d < 2 ^ 53) : ∀ (n r : Nat) (q : Int32), r < d → q.toInt < (n : Int) + 1 → -2000 ≤ q.toInt → f_X7_left_L100 k x1 x2 (lN d) (n + 1) (lN r) q = f_X7_left_2 k x1 x2 (lN (r * 2 ^ q.toInt.toNat % d)) := by
  have p53 : (2 : Nat) ^ 53 = 9007199254740992 := rfl
  have hz : (0 : Int32).toInt = 0 := by decide
  have hm1 : (-1 : Int32).toInt = -1 := by decide
  intro n
  induction n with
  | zero =>
    intro r q hr hq hq2
    show f_X7_left_3 _ _ _ _ _ _ _ = _
    unfold f_X7_left_3
    rw [if_pos (by rw [Int32.le_iff_toInt_le, hz]; omega), show q.toInt.toNat = 0 by omega, Nat.pow_zero, Nat.mul_one, Nat.mod_eq_of_lt hr]
  | succ n ih =>
    intro r q hr hq hq2
    show f_X7_left_3 _ _ _ _ _ _ _ = _
    unfold f_X7_left_3
    by_cases h : q.toInt ≤ 0
    · rw [if_pos (by rw [Int32.le_iff_toInt_le, hz]; omega), show q.toInt.toNat = 0 by omega, Nat.pow_zero, Nat.mul_one, Nat.mod_eq_of_lt hr]
    · rw [if_neg (by rw [Int32.le_iff_toInt_le, hz]; omega)]
      have e3 : (q + (-1 : Int32)).toInt = q.toInt - 1 := by rw [Kit.i32_add (by rw [hm1]; have := q.toInt_lt; omega) (by rw [hm1]; have := q.toInt_lt; omega), hm1]; omega
      rw [show jlshl (lN r) (1 : Int32) = lN (r * 2 ^ 1) from shlN r (k := 1) (by decide), lN_rem (by omega) (by omega), ih _ _ (Nat.mod_lt _ h0) (by omega) (by omega), e3, mod_go, Nat.mul_assoc, ← Nat.pow_add, show 1 + (q.toInt - 1).toNat = q.toInt.toNat by omega]
theorem rounded_0 (hk : k < 2) {b : Bool} {e : Int32} : f_X1_rounded k (bI b) (lN 0) e = enc k b 0 := by
  unfold f_X1_rounded f_X1_rounded_3
  rw [if_pos (show lN 0 = (0 : Int64) from rfl), sg1_0 hk]
theorem left_fin (hk : k < 2) (hv0 : 0 < v) (hvu : v ≤ u) (hu : u < kinfN k) : f_X2_remainder_3 k (enc k s u) (enc k t v) (lN (sigN k v)) (jlrem (lN (sigN k u)) (lN (sigN k v))) (f_X1_exponent k (enc k s u) - f_X1_exponent k (enc k t v)) = f_X7_left_6 k (enc k s u) (enc k t v) (f_X7_mantissa k (enc k t v)) ∧ kcn k (f_X7_left_6 k (enc k s u) (enc k t v) (f_X7_mantissa k (enc k t v))) := by
  have hwu := kw hk (show u ≤ kinfN k by omega)
  have hwv := kw hk (show v ≤ kinfN k by omega)
  have hru := exp_rng hk (show u ≤ kinfN k by omega)
  have hrv := exp_rng hk (show v ≤ kinfN k by omega)
  have hmo := exp_mono (k := k) hvu
  obtain ⟨i, hi0, hi1, hi2, hi3, hmu, hpu⟩ := mp_val (s := s) hk (show 0 < u by omega) (show u ≤ kinfN k by omega)
  obtain ⟨j, hj0, hj1, hj2, hj3, hmv, hpv⟩ := mp_val (s := t) hk hv0 (show v ≤ kinfN k by omega)
  obtain ⟨b1, b2, b3, b4, b5, b6⟩ := k_bounds hk
  have hsu := sig_pos (k := k) (show 0 < u by omega)
  have hsv := sig_pos (k := k) hv0
  have hlu := sig_lt (u := u) hk
  have hlv := sig_lt (u := v) hk
  have hfp : 2 ^ (kfbN k + 1) ≤ 2 ^ 53 := Nat.pow_le_pow_right (by decide) (by omega)
  have p53 : (2 : Nat) ^ 53 = 9007199254740992 := rfl
  have hp1 : 2 ^ (kfbN k + 1) = 2 * 2 ^ kfbN k := by rw [Nat.pow_succ]; omega
  have hp0 := Nat.two_pow_pos (kfbN k)
  have e1 := exp_enc (s := s) hk hwu
  have e2 := exp_enc (s := t) hk hwv
  have hPP : expZ k v - (j : Int) ≤ expZ k u - (i : Int) := by
    rcases hi0 with hi0 | hi0
    · omega
    · have he : expZ k v = expZ k u := by
        have := hrv.1; omega
      have := pow_mono (sig_mono hk hvu he).1 (j := i) (i := j) (by omega)
      omega
  have hap : apN k u v = (expZ k u - expZ k v).toNat := rfl
  have d1 : (f_X1_exponent k (enc k s u) - f_X1_exponent k (enc k t v)).toInt = expZ k u - expZ k v := by rw [Kit.i32_sub (by omega) (by omega), e1, e2]
  have d2 : (f_X7_power k (enc k s u) - f_X7_power k (enc k t v)).toInt = expZ k u - i - (expZ k v - j) := by rw [Kit.i32_sub (by omega) (by omega), hpu, hpv]
  obtain ⟨R, hR⟩ : ∃ R, R = sigN k u * 2 ^ apN k u v % sigN k v := ⟨_, rfl⟩
  have hRl : R < sigN k v := by rw [hR]; exact Nat.mod_lt _ hsv
  have kec : f_X2_remainder_3 k (enc k s u) (enc k t v) (lN (sigN k v)) (jlrem (lN (sigN k u)) (lN (sigN k v))) (f_X1_exponent k (enc k s u) - f_X1_exponent k (enc k t v)) = f_X1_rounded k (bI s) (lN R) (f_X1_exponent k (enc k t v)) := by
    unfold f_X2_remainder_3
    rw [lN_rem (by omega) (by omega), remL hsv (by omega) _ _ _ (Nat.mod_lt _ hsv) (by rw [d1]; omega) (by omega), d1, mod_go, neg_enc hk hwu, ← hap, hR]
  have kem : f_X7_left_6 k (enc k s u) (enc k t v) (f_X7_mantissa k (enc k t v)) = f_X7_left_2 k (enc k s u) (enc k t v) (lN (R * 2 ^ j)) := by
    unfold f_X7_left_6 f_X7_left_5
    rw [hmu, hmv, lN_rem (by omega) (by omega), leftL (by omega) (by omega) _ _ _ (Nat.mod_lt _ (by omega)) (by rw [d2]; omega) (by omega), d2, mod_go]
    congr 2
    have e : sigN k u * 2 ^ i * 2 ^ (expZ k u - i - (expZ k v - j)).toNat = sigN k u * 2 ^ apN k u v * 2 ^ j := by
      rw [Nat.mul_assoc, Nat.mul_assoc, ← Nat.pow_add, ← Nat.pow_add]
      congr 2
      omega
    rw [e, Nat.mul_mod_mul_right, hR]
  rw [kec, kem]
  unfold f_X7_left_2
  rw [min_enc hk hwu]
  by_cases h : R = 0
  · rw [h, Nat.zero_mul, if_pos (show lN 0 = (0 : Int64) from rfl), rounded_0 hk, sg7_0 hk]
    exact ⟨rfl, kcn_enc hk (Nat.zero_le _)⟩
  · have hRj : R * 2 ^ j < sigN k v * 2 ^ j := Nat.mul_lt_mul_of_pos_right hRl (Nat.two_pow_pos j)
    have hRp : 0 < R * 2 ^ j := Nat.mul_pos (by omega) (Nat.two_pow_pos j)
    rw [if_neg (fun h2 => by have := (lN0 (by omega)).mp h2; omega), cls_round hk (by omega) (by omega) e2 (by omega), mod_round hk hRp (by omega) hpv (by omega) (fun h2 => absurd rfl h2)]
    have hsc := rnd_scale (k := k) (m := R) (s := j) (e := expZ k v - j) (by omega)
    rw [show expZ k v - (j : Int) + j = expZ k v by omega] at hsc
    rw [show decide (¬ (0 : Int32) = 0) = false from rfl, hsc]
    exact ⟨rfl, kcn_enc hk (rnd_le hk (by omega))⟩
theorem left_enc (hk : k < 2) (hu : u ≤ kinfN k) (hv : v ≤ kinfN k) : f_X2_remainder k (enc k s u) (enc k t v) = f_X7_left k (enc k s u) (enc k t v) ∧ kcn k (f_X7_left k (enc k s u) (enc k t v)) := by
  have hwu := kw hk hu
  have hwv := kw hk hv
  have h6u := lt63 hk hwu
  have h6v := lt63 hk hwv
  have n1 : ¬ (1 : Int32) = 0 := by decide
  have hfp : 2 ^ (kfbN k + 1) ≤ 2 ^ 53 := Nat.pow_le_pow_right (by decide) (by have := k_bounds hk; omega)
  have h6 : sigN k v < 2 ^ 64 := by have := sig_lt (u := v) hk; omega
  unfold f_X2_remainder f_X2_remainder_7 f_X2_remainder_6 f_X2_remainder_5 f_X2_remainder_4 f_X7_left f_X7_left_11 f_X7_left_10 f_X7_left_9 f_X7_left_8 f_X7_left_7 f_X7_left_1
  rw [none0 hk hu, none0 hk hv, if_pos (Eq.refl (0 : Int32)), if_pos (Eq.refl (0 : Int32)), inf_enc hk hwu, inf_enc hk hwv, inf7_enc hk hwu, zero_enc hk hwv, mag_enc hk hwu, mag_enc hk hwv, uns_enc hk hwu, uns_enc hk hwv, sig_enc hk hwu, sig_enc hk hwv]
  by_cases hui : u = kinfN k
  · rw [decide_eq_true hui, bI_t, if_neg n1, if_neg n1]
    exact ⟨rfl, kcn_nan hk⟩
  · rw [decide_eq_false hui, bI_f, if_pos rfl, if_pos rfl]
    by_cases hv0 : v = 0
    · subst hv0
      rw [sig_zero, if_pos (show lN 0 = (0 : Int64) from rfl), decide_eq_true (show (0 : Nat) = 0 from rfl), bI_t, if_neg n1]
      exact ⟨rfl, kcn_nan hk⟩
    · rw [if_neg (fun h => by have := (lN0 h6).mp h; have := sig_pos (k := k) (show 0 < v by omega); omega), decide_eq_false hv0, bI_f, if_pos (Eq.refl (0 : Int32))]
      by_cases hvu : v ≤ u
      · rw [decide_eq_false (show ¬ v = kinfN k by omega), bI_f, if_pos rfl, if_pos ((lN_le63 h6v h6u).mpr hvu), if_pos ((lN_le63 h6v h6u).mpr hvu)]
        exact left_fin hk (by omega) hvu (by omega)
      · have hne : ¬ lN v ≤ lN u := fun h => hvu ((lN_le63 h6v h6u).mp h)
        rw [if_neg hne, if_neg hne]
        refine ⟨?_, kcn_enc hk hu⟩
        split <;> rfl
end LEFT

