-- quotients: class and reference by numbers
theorem lN_div {a b : Nat} (ha : a < 2 ^ 63) (hb : b < 2 ^ 63) : lN a / lN b = lN (a / b) := by
  have hq : a / b ≤ a := Nat.div_le_self _ _
  have hne : ¬ lN b = -1 := fun h => by
    have h2 := congrArg Int64.toInt h
    have h3 : (-1 : Int64).toInt = -1 := by decide
    rw [pf_lI hb, h3] at h2
    omega
  apply Int64.toInt_inj.mp
  rw [Int64.toInt_div_of_ne_right _ _ hne, pf_lI ha, pf_lI hb, Int.tdiv_eq_ediv_of_nonneg (by omega), pf_lI (Nat.lt_of_le_of_lt hq ha)]
  exact (Int.natCast_ediv a b).symm
theorem lN_rem {a b : Nat} (ha : a < 2 ^ 63) (hb : b < 2 ^ 63) : jlrem (lN a) (lN b) = lN (a % b) := by
  unfold jlrem
  rw [lN_div ha hb, lN_mul, lN_sub (Nat.div_mul_le_self a b)]
  congr 1
  have := Nat.div_add_mod' a b
  omega
theorem quotL {f2 : Nat} (h0 : 0 < f2) (h2 : f2 < 2 ^ 53) : ∀ (c i q r : Nat), r < f2 → i + c = 6 → f_X2_quotientOf_L21 (lN f2) (c + 1) (lN q) (lN r) (nI i) = f_X2_quotientOf_1 (lN ((q * f2 + r) * 2 ^ (10 * c) / f2)) (lN ((q * f2 + r) * 2 ^ (10 * c) % f2)) := by
  have p53 : (2 : Nat) ^ 53 = 9007199254740992 := rfl
  have p10 : (2 : Nat) ^ 10 = 1024 := rfl
  intro c
  induction c with
  | zero =>
    intro i q r hr hi
    show f_X2_quotientOf_3 _ _ _ _ _ = _
    unfold f_X2_quotientOf_3
    rw [if_pos (show (6 : Int32) ≤ nI i from nI_le (a := 6) (by omega) (by omega)), Nat.mul_zero, Nat.pow_zero, Nat.mul_one, Nat.mul_comm q f2, Nat.mul_add_div h0, Nat.mul_add_mod, Nat.div_eq_of_lt hr, Nat.mod_eq_of_lt hr, Nat.add_zero]
  | succ c ih =>
    intro i q r hr hi
    show f_X2_quotientOf_3 _ _ _ _ _ = _
    unfold f_X2_quotientOf_3
    rw [if_neg (show ¬ (6 : Int32) ≤ nI i from nI_ge (b := 6) (by omega) (by decide))]
    unfold f_X2_quotientOf_2
    have hlt : r * 2 ^ 10 < 2 ^ 63 := by rw [p10]; omega
    rw [show (10 : Int32) = nI 10 from rfl, shlN _ (by decide), shlN _ (by decide), lN_div hlt (by omega), lN_rem hlt (by omega), lN_add, nI_1, ih (i + 1) _ _ (Nat.mod_lt _ h0) (by omega)]
    have hm := Nat.div_add_mod' (r * 2 ^ 10) f2
    have e : (q * 2 ^ 10 + r * 2 ^ 10 / f2) * f2 + r * 2 ^ 10 % f2 = (q * f2 + r) * 2 ^ 10 := by
      rw [Nat.add_mul, Nat.add_assoc, hm, Nat.add_mul, Nat.mul_right_comm]
    rw [e, Nat.mul_assoc, ← Nat.pow_add, show 10 + 10 * c = 10 * (c + 1) by omega]
theorem quotientOf_val {f1 f2 : Nat} (h1 : f1 < 2 ^ 53) (h0 : 0 < f2) (h2 : f2 < 2 ^ 53) : f_X2_quotientOf (lN f1) (lN f2) = f_X2_quotientOf_1 (lN (f1 * 2 ^ 60 / f2)) (lN (f1 * 2 ^ 60 % f2)) := by
  have p53 : (2 : Nat) ^ 53 = 9007199254740992 := rfl
  unfold f_X2_quotientOf f_X2_quotientOf_5
  rw [if_neg (fun h => by have := (lN0 (by omega)).mp h; omega), lN_div (by omega) (by omega), lN_rem (by omega) (by omega)]
  have := quotL h0 h2 6 0 (f1 / f2) (f1 % f2) (Nat.mod_lt _ h0) rfl
  rw [Nat.div_add_mod'] at this
  exact this
theorem overL {k : Nat} {x1 x2 : Int64} {w : Int32} {y : Nat} (h0 : 0 < y) (h2 : y < 2 ^ 53) : ∀ (c i q l : Nat), l < 2 * y → i + c = 58 → f_X7_over_L193 k x1 x2 w (lN y) (c + 1) (lN l) (lN q) (nI i) = f_X7_over_3 k x1 x2 w (lN ((2 * q * y + l) * 2 ^ c % (2 * y))) (lN ((2 * q * y + l) * 2 ^ c / (2 * y))) := by
  have p53 : (2 : Nat) ^ 53 = 9007199254740992 := rfl
  intro c
  induction c with
  | zero =>
    intro i q l hl hi
    show f_X7_over_6 _ _ _ _ _ _ _ _ _ = _
    unfold f_X7_over_6
    have e : 2 * q * y = 2 * y * q := by rw [Nat.mul_right_comm]
    rw [if_pos (show (58 : Int32) ≤ nI i from nI_le (a := 58) (by omega) (by omega)), Nat.pow_zero, Nat.mul_one, e, Nat.mul_add_div (by omega), Nat.mul_add_mod, Nat.div_eq_of_lt hl, Nat.mod_eq_of_lt hl, Nat.add_zero]
  | succ c ih =>
    intro i q l hl hi
    show f_X7_over_6 _ _ _ _ _ _ _ _ _ = _
    unfold f_X7_over_6
    rw [if_neg (show ¬ (58 : Int32) ≤ nI i from nI_ge (b := 58) (by omega) (by decide))]
    unfold f_X7_over_5 f_X7_over_4
    have s1 : ∀ z : Nat, jlshl (lN z) (1 : Int32) = lN (2 * z) := fun z => by
      have := shlN z (k := 1) (by decide)
      rw [Nat.pow_one, Nat.mul_comm] at this
      exact this
    rw [s1 q]
    by_cases h : l < y
    · rw [if_pos ((lN_lt63 (by omega) (by omega)).mpr h), s1 l, nI_1, ih (i + 1) (2 * q) (2 * l) (by omega) (by omega)]
      have e : 2 * (2 * q) * y + 2 * l = (2 * q * y + l) * 2 := by
        rw [Nat.mul_assoc 2 (2 * q) y]; omega
      rw [e, Nat.mul_assoc (2 * q * y + l) 2 (2 ^ c), ← Nat.pow_succ']
    · rw [if_neg (fun h3 => h ((lN_lt63 (by omega) (by omega)).mp h3)), lN_sub (by omega), s1, lN_1, nI_1, ih (i + 1) (2 * q + 1) (2 * (l - y)) (by omega) (by omega)]
      have e : 2 * (2 * q + 1) * y + 2 * (l - y) = (2 * q * y + l) * 2 := by
        rw [Nat.mul_assoc 2 (2 * q + 1) y, Nat.add_mul, Nat.one_mul]; omega
      rw [e, Nat.mul_assoc (2 * q * y + l) 2 (2 ^ c), ← Nat.pow_succ']
section OVER
variable {k : Nat} {s t : Bool} {u v : Nat} {x y : Int64}
/-- the quotient cut at 2^-60 and at 2^-57, with marks of what lies below, rounds the same -/
theorem rQuot' {k z b : Nat} {e : Int} (hb : 0 < b) (hbig : 2 ^ (kfbN k + 4) ≤ z * 8 / b) : rnd k (if z * 8 % b = 0 then z * 8 / b else z * 8 / b / 2 * 2 + 1) (e - 60) false = rnd k (z / b) (e - 57) (decide (¬ z % b = 0)) := by
  have hq8 : z * 8 / b / 8 = z / b := by
    rw [Nat.div_div_eq_div_mul]
    exact Nat.mul_div_mul_right _ _ (by decide)
  have d1 := Nat.div_add_mod (z * 8) b
  have d2 := Nat.div_add_mod z b
  have p3 : (2 : Nat) ^ 3 = 8 := rfl
  generalize hQ : z * 8 / b = Q at *
  generalize hR : z * 8 % b = R at *
  generalize z / b = q at *
  generalize z % b = r at *
  have hm : b * (Q % 8) + R = 8 * r := by
    have h1 : Q = 8 * q + Q % 8 := by omega
    have h2 : b * Q = b * (8 * q) + b * (Q % 8) := by rw [← Nat.mul_add, ← h1]
    have h3 : b * (8 * q) = 8 * (b * q) := by rw [Nat.mul_left_comm]
    omega
  have p4 : 2 ^ (kfbN k + 4) = 16 * 2 ^ kfbN k := by rw [Nat.pow_add, Nat.mul_comm]
  have p0 := Nat.two_pow_pos (kfbN k)
  have hb4 := rQ_big (k := k) (c := 4) (m := Q) (e := e - 60) hbig
  have h1 : rnd k (if R = 0 then Q else Q / 2 * 2 + 1) (e - 60) false = rnd k Q (e - 60) (decide (¬ R = 0)) := by
    by_cases h : R = 0
    · rw [if_pos h, h]; rfl
    · rw [if_neg h, decide_eq_true h, rnd_sticky (by omega) (by omega)]
  rw [h1, rnd_coarse (s := 3) (by rw [p3, hq8]; omega) (Or.inl (by omega)), p3, hq8, show e - 60 + ((3 : Nat) : Int) = e - 57 by omega]
  congr 1
  have hz : Q % 8 = 0 → b * (Q % 8) = 0 := fun h => by rw [h, Nat.mul_zero]
  by_cases hr : r = 0
  · have h3 : R = 0 := by omega
    have h4 : b * (Q % 8) = 0 := by omega
    have h5 : Q % 8 = 0 := by
      rcases Nat.mul_eq_zero.mp h4 with h | h
      · omega
      · exact h
    rw [h3, h5, hr]; rfl
  · rw [decide_eq_true hr]
    by_cases h3 : R = 0
    · have h5 : ¬ Q % 8 = 0 := fun h => by have := hz h; omega
      rw [decide_eq_true h5, Bool.or_true]
    · rw [decide_eq_true h3, Bool.true_or]
theorem rQuot {k a b : Nat} {e : Int} (hb : 0 < b) (hbig : 2 ^ (kfbN k + 4) ≤ a * 2 ^ 60 / b) : rnd k (if a * 2 ^ 60 % b = 0 then a * 2 ^ 60 / b else a * 2 ^ 60 / b / 2 * 2 + 1) (e - 60) false = rnd k (a * 2 ^ 57 / b) (e - 57) (decide (¬ a * 2 ^ 57 % b = 0)) := by
  have e60 : a * 2 ^ 60 = a * 2 ^ 57 * 8 := by rw [Nat.mul_assoc]
  rw [e60] at hbig ⊢
  exact rQuot' hb hbig
theorem up_is (hk : k < 2) (h0 : 0 < u) {i : Nat} (h2 : 2 ^ kfbN k ≤ sigN k u * 2 ^ i) (h3 : sigN k u * 2 ^ i < 2 ^ (kfbN k + 1)) : (sigN k u).log2 + i = kfbN k := by
  have hl := log2_is h2 h3
  have hd : sigN k u * 2 ^ i / 2 ^ i = sigN k u := Nat.mul_div_cancel _ (Nat.two_pow_pos i)
  have := log2_div (m := sigN k u * 2 ^ i) (s := i) (by rw [hd]; exact sig_pos h0)
  rw [hd] at this
  omega
theorem over_fin (hk : k < 2) (hu0 : 0 < u) (hu : u < kinfN k) (hv0 : 0 < v) (hv : v < kinfN k) (b : Bool) : f_X2_over_2 k (enc k s u) (enc k t v) (bI b) (lN (sigN k u)) (lN (sigN k v)) = f_X7_over_8 k (enc k s u) (enc k t v) (bI b) ∧ kcn k (f_X7_over_8 k (enc k s u) (enc k t v) (bI b)) := by
  have hwu := kw hk (show u ≤ kinfN k by omega)
  have hwv := kw hk (show v ≤ kinfN k by omega)
  have hru := exp_rng hk (show u ≤ kinfN k by omega)
  have hrv := exp_rng hk (show v ≤ kinfN k by omega)
  obtain ⟨la, a1, a2, a3⟩ := up53 hk hu0
  obtain ⟨lb, c1, c2, c3⟩ := up53 hk hv0
  obtain ⟨i, hi0, hi1, hi2, hi3, hmu, hpu⟩ := mp_val (s := s) hk hu0 (show u ≤ kinfN k by omega)
  obtain ⟨j, hj0, hj1, hj2, hj3, hmv, hpv⟩ := mp_val (s := t) hk hv0 (show v ≤ kinfN k by omega)
  obtain ⟨b1, b2, b3, b4, b5, b6⟩ := k_bounds hk
  have hsu := sig_pos (k := k) hu0
  have hsv := sig_pos (k := k) hv0
  have h6u : sigN k u < 2 ^ 64 := by have := sig_lt (u := u) hk; have := Nat.pow_le_pow_right (show 0 < 2 by decide) (show kfbN k + 1 ≤ 53 by omega); omega
  have hlu := up_is hk hu0 hi2 hi3
  have hlv := up_is hk hv0 hj2 hj3
  have e1 := exp_enc (s := s) hk hwu
  have e2 := exp_enc (s := t) hk hwv
  have h60 : (60 : Int32).toInt = 60 := by decide
  have h57 : (57 : Int32).toInt = 57 := by decide
  have hfp : 2 ^ (kfbN k + 1) ≤ 2 ^ 53 := Nat.pow_le_pow_right (by decide) (by omega)
  have p53 : (2 : Nat) ^ 53 = 9007199254740992 := rfl
  -- class
  have key : f_X2_over_2 k (enc k s u) (enc k t v) (bI b) (lN (sigN k u)) (lN (sigN k v)) = enc k b (rnd k (sigN k u * 2 ^ i * 2 ^ 57 / (sigN k v * 2 ^ j)) (expZ k u - i - (expZ k v - j) - 57) (decide (¬ sigN k u * 2 ^ i * 2 ^ 57 % (sigN k v * 2 ^ j) = 0))) := by
    unfold f_X2_over_2
    rw [if_neg (fun h => by have := (lN0 h6u).mp h; omega)]
    unfold f_X2_over_1
    rw [a3, c3, shlN _ (by omega), shlN _ (by omega)]
    obtain ⟨D, hD⟩ : ∃ D, D = 52 - kfbN k := ⟨_, rfl⟩
    have hA : 52 - (sigN k u).log2 = i + D := by omega
    have hB : 52 - (sigN k v).log2 = j + D := by omega
    rw [hA] at a1 a2 ⊢
    rw [hB] at c1 c2 ⊢
    have d1 : (f_X1_exponent k (enc k s u) - nI (i + D)).toInt = expZ k u - i - D := by rw [Kit.i32_sub (by rw [nI_toInt (by omega)]; omega) (by rw [nI_toInt (by omega)]; omega), nI_toInt (by omega), e1]; omega
    have d2 : (f_X1_exponent k (enc k t v) - nI (j + D)).toInt = expZ k v - j - D := by rw [Kit.i32_sub (by rw [nI_toInt (by omega)]; omega) (by rw [nI_toInt (by omega)]; omega), nI_toInt (by omega), e2]; omega
    have d3 : (f_X1_exponent k (enc k s u) - nI (i + D) - (f_X1_exponent k (enc k t v) - nI (j + D))).toInt = expZ k u - i - (expZ k v - j) := by rw [Kit.i32_sub (by omega) (by omega), d1, d2]; omega
    have d4 : (f_X1_exponent k (enc k s u) - nI (i + D) - (f_X1_exponent k (enc k t v) - nI (j + D)) - (60 : Int32)).toInt = (expZ k u - i - (expZ k v - j)) - 60 := by rw [Kit.i32_sub (by rw [h60]; omega) (by rw [h60]; omega), h60, d3]
    have q1 : sigN k u * 2 ^ (i + D) = sigN k u * 2 ^ i * 2 ^ D := by rw [Nat.pow_add, ← Nat.mul_assoc]
    have q2 : sigN k v * 2 ^ (j + D) = sigN k v * 2 ^ j * 2 ^ D := by rw [Nat.pow_add, ← Nat.mul_assoc]
    rw [quotientOf_val a2 (by omega) c2]
    have hpD := Nat.two_pow_pos D
    have q3 : sigN k u * 2 ^ (i + D) * 2 ^ 60 / (sigN k v * 2 ^ (j + D)) = sigN k u * 2 ^ i * 2 ^ 60 / (sigN k v * 2 ^ j) := by
      rw [q1, q2, Nat.mul_right_comm, Nat.mul_div_mul_right _ _ hpD]
    have q4 : sigN k u * 2 ^ (i + D) * 2 ^ 60 % (sigN k v * 2 ^ (j + D)) = (sigN k u * 2 ^ i * 2 ^ 60 % (sigN k v * 2 ^ j)) * 2 ^ D := by
      rw [q1, q2, Nat.mul_right_comm, Nat.mul_mod_mul_right]
    -- how large the quotient is
    have hlo : 2 ^ 59 ≤ sigN k u * 2 ^ (i + D) * 2 ^ 60 / (sigN k v * 2 ^ (j + D)) := by
      rw [Nat.le_div_iff_mul_le (by omega)]
      have h1 : 2 ^ 59 * (sigN k v * 2 ^ (j + D)) ≤ 2 ^ 59 * 2 ^ 53 := Nat.mul_le_mul_left _ (by omega)
      have h2 : 2 ^ 52 * 2 ^ 60 ≤ sigN k u * 2 ^ (i + D) * 2 ^ 60 := Nat.mul_le_mul_right _ a1
      have h3 : (2 : Nat) ^ 59 * 2 ^ 53 = 2 ^ 52 * 2 ^ 60 := by decide
      exact Nat.le_trans h1 (Nat.le_trans (Nat.le_of_eq h3) h2)
    have hhi : sigN k u * 2 ^ (i + D) * 2 ^ 60 / (sigN k v * 2 ^ (j + D)) < 2 ^ 62 := by
      rw [Nat.div_lt_iff_lt_mul (by omega)]
      have h1 : 2 ^ 62 * 2 ^ 52 ≤ 2 ^ 62 * (sigN k v * 2 ^ (j + D)) := Nat.mul_le_mul_left _ c1
      have h2 : sigN k u * 2 ^ (i + D) * 2 ^ 60 < 2 ^ 53 * 2 ^ 60 := Nat.mul_lt_mul_of_pos_right a2 (by decide)
      have h3 : (2 : Nat) ^ 53 * 2 ^ 60 < 2 ^ 62 * 2 ^ 52 := by decide
      exact Nat.lt_of_lt_of_le (Nat.lt_trans h2 h3) h1
    have hrl : sigN k u * 2 ^ (i + D) * 2 ^ 60 % (sigN k v * 2 ^ (j + D)) < 2 ^ 53 := Nat.lt_trans (Nat.mod_lt _ (by omega)) c2
    have hq : f_X2_quotientOf_1 (lN (sigN k u * 2 ^ (i + D) * 2 ^ 60 / (sigN k v * 2 ^ (j + D)))) (lN (sigN k u * 2 ^ (i + D) * 2 ^ 60 % (sigN k v * 2 ^ (j + D)))) = lN (if sigN k u * 2 ^ i * 2 ^ 60 % (sigN k v * 2 ^ j) = 0 then sigN k u * 2 ^ i * 2 ^ 60 / (sigN k v * 2 ^ j) else sigN k u * 2 ^ i * 2 ^ 60 / (sigN k v * 2 ^ j) / 2 * 2 + 1) := by
      unfold f_X2_quotientOf_1
      by_cases h : sigN k u * 2 ^ i * 2 ^ 60 % (sigN k v * 2 ^ j) = 0
      · rw [if_pos h, q4, h, Nat.zero_mul, if_pos (show lN 0 = (0 : Int64) from rfl), q3]
      · rw [if_neg h, if_neg (fun h2 => h (by
          have h3 := (lN0 (by omega)).mp h2
          rw [q4] at h3
          rcases Nat.mul_eq_zero.mp h3 with h4 | h4
          · exact h4
          · exact absurd h4 (Nat.ne_of_gt hpD))), or1 (by omega), q3]
    rw [hq]
    rw [q3] at hlo hhi
    have h56 : 2 ^ (kfbN k + 4) ≤ 2 ^ 59 := Nat.pow_le_pow_right (by decide) (by omega)
    have hm1 : 0 < sigN k v * 2 ^ j := by have := Nat.two_pow_pos (kfbN k); omega
    generalize hG : (if sigN k u * 2 ^ i * 2 ^ 60 % (sigN k v * 2 ^ j) = 0 then sigN k u * 2 ^ i * 2 ^ 60 / (sigN k v * 2 ^ j) else sigN k u * 2 ^ i * 2 ^ 60 / (sigN k v * 2 ^ j) / 2 * 2 + 1) = G
    have hGb : 0 < G ∧ G < 2 ^ 63 := by
      rw [← hG]
      split <;> omega
    rw [cls_round hk hGb.1 hGb.2 d4 (by omega), ← hG, rQuot hm1 (Nat.le_trans h56 hlo)]
  have kem : f_X7_over_8 k (enc k s u) (enc k t v) (bI b) = enc k b (rnd k (sigN k u * 2 ^ i * 2 ^ 57 / (sigN k v * 2 ^ j)) (expZ k u - i - (expZ k v - j) - 57) (decide (¬ sigN k u * 2 ^ i * 2 ^ 57 % (sigN k v * 2 ^ j) = 0))) ∧ 0 < sigN k u * 2 ^ i * 2 ^ 57 / (sigN k v * 2 ^ j) := by
    unfold f_X7_over_8
    rw [zero_enc hk hwu, decide_eq_false (show ¬ u = 0 by omega), bI_f, if_pos rfl, hmu, hmv]
    generalize sigN k u * 2 ^ i = f at *
    generalize sigN k v * 2 ^ j = g at *
    have hp0 := Nat.two_pow_pos (kfbN k)
    have hp1 : 2 ^ (kfbN k + 1) = 2 * 2 ^ kfbN k := by rw [Nat.pow_succ]; omega
    have hL := overL (k := k) (x1 := enc k s u) (x2 := enc k t v) (w := bI b) (y := g) (by omega) (by omega) 58 0 0 f (by omega) rfl
    have hs : (2 * 0 * g + f) * 2 ^ 58 = f * 2 ^ 57 * 2 := by rw [Nat.mul_zero, Nat.zero_mul, Nat.zero_add, Nat.mul_assoc]
    have hd : f * 2 ^ 57 * 2 / (2 * g) = f * 2 ^ 57 / g := by rw [Nat.mul_comm 2 g]; exact Nat.mul_div_mul_right _ _ (by decide)
    have hmm : f * 2 ^ 57 * 2 % (2 * g) = f * 2 ^ 57 % g * 2 := by rw [Nat.mul_comm 2 g]; exact Nat.mul_mod_mul_right ..
    rw [hs, hd, hmm] at hL
    have hlo : 2 ^ 56 ≤ f * 2 ^ 57 / g := by
      rw [Nat.le_div_iff_mul_le (by omega)]
      have h1 : 2 ^ 56 * g ≤ 2 ^ 56 * (2 * f) := Nat.mul_le_mul_left _ (by omega)
      omega
    have hhi : f * 2 ^ 57 / g < 2 ^ 58 := by
      rw [Nat.div_lt_iff_lt_mul (by omega)]
      have h1 : f * 2 ^ 57 < 2 * g * 2 ^ 57 := Nat.mul_lt_mul_of_pos_right (by omega) (by decide)
      omega
    have hrl : f * 2 ^ 57 % g < g := Nat.mod_lt _ (by omega)
    have hpos : 0 < f * 2 ^ 57 / g := by omega
    refine ⟨?_, hpos⟩
    have hL2 : f_X7_over_L193 k (enc k s u) (enc k t v) (bI b) (lN g) 59 (lN f) (0 : Int64) (0 : Int32) = _ := hL
    rw [hL2]
    have d3 : (f_X7_power k (enc k s u) - f_X7_power k (enc k t v)).toInt = expZ k u - i - (expZ k v - j) := by rw [Kit.i32_sub (by omega) (by omega), hpu, hpv]
    have d4 : (f_X7_power k (enc k s u) - f_X7_power k (enc k t v) - (57 : Int32)).toInt = expZ k u - i - (expZ k v - j) - 57 := by rw [Kit.i32_sub (by rw [h57]; omega) (by rw [h57]; omega), h57, d3]
    have h56 : 2 ^ (kfbN k + 4) ≤ 2 ^ 56 := Nat.pow_le_pow_right (by decide) (by omega)
    have hb2 := rQ_big (k := k) (c := 4) (m := f * 2 ^ 57 / g) (e := expZ k u - i - (expZ k v - j) - 57) (Nat.le_trans h56 hlo)
    generalize f * 2 ^ 57 / g = Q at *
    generalize f * 2 ^ 57 % g = R at *
    have fin : ∀ c : Int32, (¬ c = 0 ↔ ¬ R = 0) → f_X7_over_2 k (enc k s u) (enc k t v) (bI b) (lN Q) c = enc k b (rnd k Q (expZ k u - i - (expZ k v - j) - 57) (decide (¬ R = 0))) := by
      intro c hc
      unfold f_X7_over_2
      rw [mod_round hk hpos (by omega) d4 (by omega) (fun _ => by omega), bdec hc]
    unfold f_X7_over_3
    by_cases h : R = 0
    · rw [if_pos (by rw [h]; exact (lN_le63 (a := 0) (b := 0) (by decide) (by decide)).mpr (Nat.le_refl 0))]
      exact fin 0 ⟨fun h2 => absurd rfl h2, fun h2 => absurd h h2⟩
    · rw [if_neg (fun h2 => h (by have := (lN_le63 (b := 0) (by omega) (by decide)).mp h2; omega))]
      exact fin 1 ⟨fun _ => h, fun _ => by decide⟩
  refine ⟨key.trans kem.1.symm, ?_⟩
  rw [kem.1]
  exact kcn_enc hk (rnd_le hk kem.2)
theorem over_enc (hk : k < 2) (hu : u ≤ kinfN k) (hv : v ≤ kinfN k) : f_X2_over k (enc k s u) (enc k t v) = f_X7_over k (enc k s u) (enc k t v) ∧ kcn k (f_X7_over k (enc k s u) (enc k t v)) := by
  have hwu := kw hk hu
  have hwv := kw hk hv
  have n1 : ¬ (1 : Int32) = 0 := by decide
  have hi0 := (kinfN_w hk).2.2.1
  have hfp : 2 ^ (kfbN k + 1) ≤ 2 ^ 53 := Nat.pow_le_pow_right (by decide) (by have := k_bounds hk; omega)
  have h6u : sigN k u < 2 ^ 64 := by have := sig_lt (u := u) hk; omega
  have h6v : sigN k v < 2 ^ 64 := by have := sig_lt (u := v) hk; omega
  unfold f_X2_over f_X2_over_8 f_X7_over f_X7_over_16 f_X7_over_15
  rw [none0 hk hu, none0 hk hv, if_pos rfl, if_pos rfl]
  unfold f_X7_over_14
  rw [neg_enc hk hwu, neg_enc hk hwv, min_enc hk hwu, min_enc hk hwv, sgnif (f_X2_over_7 k (enc k s u) (enc k t v)), sgnif (f_X7_over_13 k (enc k s u) (enc k t v))]
  generalize (s != t) = b
  unfold f_X2_over_7 f_X2_over_6 f_X2_over_5 f_X2_over_4 f_X2_over_3 f_X7_over_13 f_X7_over_12 f_X7_over_11 f_X7_over_10 f_X7_over_9
  rw [inf_enc hk hwu, inf_enc hk hwv, inf7_enc hk hwu, inf7_enc hk hwv, zero_enc hk hwu, zero_enc hk hwv, sig_enc hk hwu, sig_enc hk hwv, sg1_inf hk, sg1_0 hk, sg7_inf hk, sg7_0 hk]
  by_cases hui : u = kinfN k
  · rw [decide_eq_true hui, bI_t, if_neg n1, if_neg n1]
    refine ⟨rfl, ?_⟩
    split
    · exact kcn_enc hk (Nat.le_refl _)
    · exact kcn_nan hk
  · rw [decide_eq_false hui, bI_f, if_pos rfl, if_pos rfl]
    by_cases hvi : v = kinfN k
    · rw [decide_eq_true hvi, bI_t, if_neg n1, if_neg n1]
      exact ⟨rfl, kcn_enc hk (Nat.zero_le _)⟩
    · rw [decide_eq_false hvi, bI_f, if_pos rfl, if_pos rfl]
      by_cases hv0 : v = 0
      · subst hv0
        rw [sig_zero, if_pos (show lN 0 = (0 : Int64) from rfl), decide_eq_true (show (0 : Nat) = 0 from rfl), bI_t, if_neg n1]
        by_cases hu0 : u = 0
        · subst hu0
          rw [sig_zero, if_pos (show lN 0 = (0 : Int64) from rfl), decide_eq_true (show (0 : Nat) = 0 from rfl), bI_t, if_neg n1]
          exact ⟨rfl, kcn_nan hk⟩
        · rw [if_neg (fun h => by have := (lN0 h6u).mp h; have := sig_pos (k := k) (show 0 < u by omega); omega), decide_eq_false hu0, bI_f, if_pos rfl]
          exact ⟨rfl, kcn_enc hk (Nat.le_refl _)⟩
      · rw [if_neg (fun h => by have := (lN0 h6v).mp h; have := sig_pos (k := k) (show 0 < v by omega); omega), decide_eq_false hv0, bI_f, if_pos rfl]
        by_cases hu0 : u = 0
        · subst hu0
          unfold f_X2_over_2 f_X7_over_8
          rw [sig_zero, if_pos (show lN 0 = (0 : Int64) from rfl), zero_enc hk hwu, decide_eq_true (show (0 : Nat) = 0 from rfl), bI_t, if_neg n1, sg1_0 hk, sg7_0 hk]
          exact ⟨rfl, kcn_enc hk (Nat.zero_le _)⟩
        · exact over_fin hk (by omega) (by omega) (by omega) (by omega) b
end OVER

