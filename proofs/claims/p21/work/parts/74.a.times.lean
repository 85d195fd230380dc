-- products: class and reference by numbers
theorem sgnif {α : Type} {s t : Bool} (F : Int32 → α) : (if bI s = bI t then F 0 else F 1) = F (bI (s != t)) := by cases s <;> cases t <;> rfl
theorem rCoarse {k F d : Nat} {e : Int} (h : (F % 2 ^ d = 0 ∧ 0 < F / 2 ^ d) ∨ 2 ^ (kfbN k + 1) ≤ F / 2 ^ d) : rnd k F e false = rnd k (F / 2 ^ d) (e + d) (decide (¬ F % 2 ^ d = 0)) := by
  have h0 := Nat.two_pow_pos (kfbN k + 1)
  have hp : 0 < F / 2 ^ d := by
    rcases h with h | h
    · exact h.2
    · exact Nat.lt_of_lt_of_le h0 h
  have hc := rnd_coarse (k := k) (m := F) (s := d) (e := e) (more := false) hp (by
    rcases h with h | h
    · exact Or.inr ⟨rfl, h.1⟩
    · left
      have h2 := rQ_big (k := k) (c := 1) (m := F / 2 ^ d) (e := e + d) h
      rw [rQ_div hp] at h2
      omega)
  rw [Bool.false_or] at hc
  exact hc
theorem rStk {k F d : Nat} {e : Int} (h : 2 ^ (kfbN k + 3) ≤ F / 2 ^ d) : rnd k (stk F d) (e + d) false = rnd k F e false := by
  have h3 : 2 ^ (kfbN k + 3) = 8 * 2 ^ kfbN k := by rw [Nat.pow_add, Nat.mul_comm]
  have h1 : 2 ^ (kfbN k + 1) = 2 * 2 ^ kfbN k := by rw [Nat.pow_add, Nat.mul_comm]
  have h0 := Nat.two_pow_pos (kfbN k)
  rw [rCoarse (Or.inr (Nat.le_trans (by omega) h))]
  unfold stk
  by_cases hr : F % 2 ^ d = 0
  · rw [if_pos hr, hr]; rfl
  · have h2 := rQ_big (k := k) (c := 3) (m := F / 2 ^ d) (e := e + d) h
    have h4 : 2 ≤ F / 2 ^ d := Nat.le_trans (by omega) h
    rw [if_neg hr, decide_eq_true hr, rnd_sticky h4 (by omega)]
theorem mul_split (a b c d P : Nat) : (a * P + b) * (c * P + d) = a * c * (P * P) + (a * d + b * c) * P + b * d := by
  rw [Nat.add_mul, Nat.mul_add, Nat.mul_add, Nat.mul_mul_mul_comm a P c P, Nat.mul_right_comm a P d, ← Nat.mul_assoc b c P, Nat.add_mul (a * d) (b * c) P]
  omega
theorem hfr_aux (ac mid lo : Nat) : ac * 18014398509481984 + mid * 134217728 + lo = (ac + mid / 134217728) * 18014398509481984 + (mid % 134217728 * 134217728 + lo) := by omega
theorem hfr_bd {ac mid lo : Nat} (h1 : ac ≤ 4503599627370496) (h2 : mid ≤ 20000000000000000) (h3 : lo < 134217728) : mid % 134217728 * 134217728 + lo < 18014398509481984 ∧ ac + mid / 134217728 ≤ 4503599800000000 := by omega
theorem hfr_q {hi rest : Nat} : hi * 512 + rest / 35184372088832 = (hi * 18014398509481984 + rest) / 35184372088832 := by omega
theorem hfr_b2 {hi rest : Nat} (h : rest < 18014398509481984) (h2 : hi ≤ 4503599800000000) : rest / 35184372088832 < 512 ∧ hi * 512 + rest / 35184372088832 < 2 ^ 62 := by
  have : (2 : Nat) ^ 62 = 4611686018427387904 := by decide
  omega
theorem q27 : (2 : Nat) ^ 27 = 134217728 := by decide
theorem q45 : (2 : Nat) ^ 45 = 35184372088832 := by decide
theorem m27 : (134217727 : Int64) = lN (2 ^ 27 - 1) := by decide +kernel
theorem m17 : (131071 : Int64) = lN (2 ^ 17 - 1) := by decide +kernel
theorem m45 : (35184372088831 : Int64) = lN (2 ^ 45 - 1) := by decide +kernel
theorem mul_lt2 {a b A B C : Nat} (h1 : a ≤ A) (h2 : b ≤ B) (h3 : A * B ≤ C) : a * b ≤ C := Nat.le_trans (Nat.mul_le_mul h1 h2) h3
/-- two of 53 bits in parts of 27 -/
theorem parts27 {f g : Nat} (hf : f < 2 ^ 53) (hg : g < 2 ^ 53) : f * g = (f / 2 ^ 27) * (g / 2 ^ 27) * 18014398509481984 + ((f / 2 ^ 27) * (g % 2 ^ 27) + (f % 2 ^ 27) * (g / 2 ^ 27)) * 134217728 + (f % 2 ^ 27) * (g % 2 ^ 27) ∧ (f / 2 ^ 27) * (g / 2 ^ 27) ≤ 4503599627370496 ∧ (f / 2 ^ 27) * (g % 2 ^ 27) ≤ 9007199254740992 ∧ (f % 2 ^ 27) * (g / 2 ^ 27) ≤ 9007199254740992 ∧ (f % 2 ^ 27) * (g % 2 ^ 27) ≤ 18014398509481984 := by
  have p27 : (2 : Nat) ^ 27 = 134217728 := rfl
  have p53 : (2 : Nat) ^ 53 = 9007199254740992 := rfl
  rw [p53] at hf hg
  rw [p27]
  have h1 : f / 134217728 ≤ 67108864 := by omega
  have h2 : g / 134217728 ≤ 67108864 := by omega
  have h3 : f % 134217728 ≤ 134217728 := by omega
  have h4 : g % 134217728 ≤ 134217728 := by omega
  refine ⟨?_, mul_lt2 h1 h2 (by decide), mul_lt2 h1 h4 (by decide), mul_lt2 h3 h2 (by decide), mul_lt2 h3 h4 (by decide)⟩
  have e := mul_split (f / 134217728) (f % 134217728) (g / 134217728) (g % 134217728) 134217728
  rw [Nat.div_add_mod', Nat.div_add_mod'] at e
  exact e
theorem productTop_val {f g : Nat} (hf : f < 2 ^ 53) (hg : g < 2 ^ 53) : f_X2_productTop (lN f) (lN g) = lN (stk (f * g) 44) := by
  have p53 : (2 : Nat) ^ 53 = 9007199254740992 := rfl
  obtain ⟨e, h1, h2, h3, h4⟩ := parts27 hf hg
  unfold f_X2_productTop f_X2_productTop_7 f_X2_productTop_6 f_X2_productTop_5
  rw [m27, wb_mask (by omega) (by decide), wb_mask (by omega) (by decide), show (27 : Int32) = nI 27 from rfl, ushrN (by omega) (by decide), ushrN (by omega) (by decide), lN_mul, lN_mul, lN_mul, lN_mul, lN_add]
  unfold stk
  rw [e]
  generalize f / 2 ^ 27 * (g / 2 ^ 27) = ac at *
  generalize f / 2 ^ 27 * (g % 2 ^ 27) = ad at *
  generalize f % 2 ^ 27 * (g / 2 ^ 27) = bc at *
  generalize f % 2 ^ 27 * (g % 2 ^ 27) = bd at *
  have p27 : (2 : Nat) ^ 27 = 134217728 := rfl
  have p17 : (2 : Nat) ^ 17 = 131072 := rfl
  have p44 : (2 : Nat) ^ 44 = 17592186044416 := rfl
  have p10 : (2 : Nat) ^ 10 = 1024 := rfl
  rw [ushrN (by omega) (by decide), lN_add]
  unfold f_X2_productTop_4
  rw [m27, wb_mask (by omega) (by decide), show (10 : Int32) = nI 10 from rfl, show (17 : Int32) = nI 17 from rfl, shlN _ (by decide), ushrN (by rw [p27]; omega) (by decide), lN_add]
  unfold f_X2_productTop_3 f_X2_productTop_2 f_X2_productTop_1
  rw [m17, wb_mask (by rw [p27]; omega) (by decide), p27, p17, p44, p10]
  generalize hmid : ad + bc + bd / 134217728 = mid
  have hF : ac * 18014398509481984 + (ad + bc) * 134217728 + bd = ac * 18014398509481984 + mid * 134217728 + bd % 134217728 := by omega
  rw [hF]
  have hml : bd % 134217728 < 134217728 := Nat.mod_lt _ (by decide)
  have hmb : mid ≤ 20000000000000000 := by omega
  generalize bd % 134217728 = lo at hml ⊢
  have eq1 : (ac * 18014398509481984 + mid * 134217728 + lo) / 17592186044416 = ac * 1024 + mid / 131072 := by omega
  have eq2 : (ac * 18014398509481984 + mid * 134217728 + lo) % 17592186044416 = (mid % 131072) * 134217728 + lo := by omega
  rw [eq1, eq2]
  have n1 : ¬ (1 : Int32) = 0 := by decide
  by_cases c1 : lo = 0
  · subst c1
    rw [if_pos (show lN 0 = (0 : Int64) from rfl)]
    by_cases c2 : mid % 131072 = 0
    · rw [c2, if_pos (show lN 0 = (0 : Int64) from rfl), if_neg n1, if_pos (by rfl)]
    · rw [if_neg (fun h => c2 ((lN0 (by omega)).mp h)), if_pos (Eq.refl (0 : Int32)), if_neg (show ¬ mid % 131072 * 134217728 + 0 = 0 by omega), or1 (by omega)]
  · rw [if_neg (fun h => c1 ((lN0 (by omega)).mp h)), if_pos (Eq.refl (0 : Int32)), if_neg (show ¬ mid % 131072 * 134217728 + lo = 0 by omega), or1 (by omega)]
section TIMES
variable {k : Nat} {s t : Bool} {u v : Nat} {x y : Int64}
/-- a number shifted up to 53 bits -/
theorem up53 (hk : k < 2) (h0 : 0 < u) : (sigN k u).log2 ≤ 52 ∧ 2 ^ 52 ≤ sigN k u * 2 ^ (52 - (sigN k u).log2) ∧ sigN k u * 2 ^ (52 - (sigN k u).log2) < 2 ^ 53 ∧ f_J13_numberOfLeadingZeros_95d88 (lN (sigN k u)) - (11 : Int32) = nI (52 - (sigN k u).log2) := by
  have hs := sig_pos (k := k) h0
  have hl := sig_lt (u := u) hk
  have hfp : 2 ^ (kfbN k + 1) ≤ 2 ^ 53 := Nat.pow_le_pow_right (by decide) (by have := k_bounds hk; omega)
  have h53 : (2 : Nat) ^ 53 = 9007199254740992 := rfl
  have hL := log2_lt hs (show sigN k u < 2 ^ 53 by omega)
  have h1 := Nat.mul_le_mul_right (2 ^ (52 - (sigN k u).log2)) (log2_lo hs)
  have h2 := Nat.mul_lt_mul_of_pos_right (log2_hi hs) (Nat.two_pow_pos (52 - (sigN k u).log2))
  rw [← Nat.pow_add, show (sigN k u).log2 + (52 - (sigN k u).log2) = 52 by omega] at h1
  rw [← Nat.pow_add, show (sigN k u).log2 + 1 + (52 - (sigN k u).log2) = 53 by omega] at h2
  refine ⟨by omega, h1, h2, ?_⟩
  rw [j13_val hs (by omega), show (11 : Int32) = nI 11 from rfl, nI_subN (by omega) (by omega)]
  congr 1
  omega
theorem times3_val (hk : k < 2) (hu0 : 0 < u) (hu : u < kinfN k) (hv0 : 0 < v) (hv : v < kinfN k) (b : Bool) : f_X2_times_3 k (enc k s u) (enc k t v) (bI b) (lN (sigN k u)) (lN (sigN k v)) = enc k b (rnd k (sigN k u * sigN k v) (expZ k u + expZ k v) false) := by
  have hwu := kw hk (show u ≤ kinfN k by omega)
  have hwv := kw hk (show v ≤ kinfN k by omega)
  have hru := exp_rng hk (show u ≤ kinfN k by omega)
  have hrv := exp_rng hk (show v ≤ kinfN k by omega)
  obtain ⟨la, a1, a2, a3⟩ := up53 hk hu0
  obtain ⟨lb, c1, c2, c3⟩ := up53 hk hv0
  obtain ⟨b1, b2, b3, b4, b5, b6⟩ := k_bounds hk
  have e1 := exp_enc (s := s) hk hwu
  have e2 := exp_enc (s := t) hk hwv
  have h44 : (44 : Int32).toInt = 44 := by decide
  unfold f_X2_times_3 f_X2_times_2
  rw [a3, c3, shlN _ (by omega), shlN _ (by omega)]
  generalize hA : 52 - (sigN k u).log2 = A at a1 a2 ⊢
  generalize hB : 52 - (sigN k v).log2 = B at c1 c2 ⊢
  have d1 : (f_X1_exponent k (enc k s u) - nI A).toInt = expZ k u - A := by rw [Kit.i32_sub (by rw [nI_toInt (by omega)]; omega) (by rw [nI_toInt (by omega)]; omega), nI_toInt (by omega), e1]
  have d2 : (f_X1_exponent k (enc k s u) - nI A + f_X1_exponent k (enc k t v)).toInt = expZ k u - A + expZ k v := by rw [Kit.i32_add (by omega) (by omega), d1, e2]
  have d3 : (f_X1_exponent k (enc k s u) - nI A + f_X1_exponent k (enc k t v) - nI B).toInt = expZ k u - A + expZ k v - B := by rw [Kit.i32_sub (by rw [nI_toInt (by omega)]; omega) (by rw [nI_toInt (by omega)]; omega), nI_toInt (by omega), d2]
  have d4 : (f_X1_exponent k (enc k s u) - nI A + f_X1_exponent k (enc k t v) - nI B + (44 : Int32)).toInt = (expZ k u - A + expZ k v - B) + ((44 : Nat) : Int) := by rw [Kit.i32_add (by rw [h44]; omega) (by rw [h44]; omega), h44, d3]; omega
  rw [productTop_val a2 c2]
  have hF : 2 ^ 60 ≤ (sigN k u * 2 ^ A * (sigN k v * 2 ^ B)) / 2 ^ 44 := by
    rw [Nat.le_div_iff_mul_le (by decide)]
    exact Nat.le_trans (by decide) (Nat.mul_le_mul a1 c1)
  have hF2 : (sigN k u * 2 ^ A * (sigN k v * 2 ^ B)) / 2 ^ 44 < 2 ^ 62 := by
    rw [Nat.div_lt_iff_lt_mul (by decide)]
    exact Nat.lt_of_lt_of_le (Nat.mul_lt_mul'' a2 c2) (by decide)
  have hE : sigN k u * 2 ^ A * (sigN k v * 2 ^ B) = sigN k u * sigN k v * 2 ^ (A + B) := by rw [Nat.mul_mul_mul_comm, ← Nat.pow_add]
  have hs1 : 0 < stk (sigN k u * 2 ^ A * (sigN k v * 2 ^ B)) 44 ∧ stk (sigN k u * 2 ^ A * (sigN k v * 2 ^ B)) 44 < 2 ^ 63 := by
    unfold stk
    split <;> omega
  have h55 : 2 ^ (kfbN k + 3) ≤ 2 ^ 60 := Nat.pow_le_pow_right (by decide) (by omega)
  rw [cls_round hk hs1.1 hs1.2 d4 (by omega), rStk (Nat.le_trans h55 hF), hE, rnd_scale (Nat.mul_pos (sig_pos hu0) (sig_pos hv0))]
  congr 2
  omega
theorem times11_val (hk : k < 2) (hu0 : 0 < u) (hu : u < kinfN k) (hv0 : 0 < v) (hv : v < kinfN k) (b : Bool) : f_X7_times_12 k (enc k s u) (enc k t v) (bI b) = enc k b (rnd k (sigN k u * sigN k v) (expZ k u + expZ k v) false) := by
  have hwu := kw hk (show u ≤ kinfN k by omega)
  have hwv := kw hk (show v ≤ kinfN k by omega)
  have hru := exp_rng hk (show u ≤ kinfN k by omega)
  have hrv := exp_rng hk (show v ≤ kinfN k by omega)
  obtain ⟨i, hi0, hi1, hi2, hi3, hmu, hpu⟩ := mp_val (s := s) hk hu0 (show u ≤ kinfN k by omega)
  obtain ⟨j, hj0, hj1, hj2, hj3, hmv, hpv⟩ := mp_val (s := t) hk hv0 (show v ≤ kinfN k by omega)
  obtain ⟨b1, b2, b3, b4, b5, b6⟩ := k_bounds hk
  have hfp : 2 ^ (kfbN k + 1) ≤ 2 ^ 53 := Nat.pow_le_pow_right (by decide) (by omega)
  have h45 : (45 : Int32).toInt = 45 := by decide
  unfold f_X7_times_12
  rw [zero_enc hk hwv, decide_eq_false (show ¬ v = 0 by omega), bI_f, if_pos rfl]
  unfold f_X7_times_11 f_X7_times_10 f_X7_times_9
  rw [hmu, hmv]
  have dE : (f_X7_power k (enc k s u) + f_X7_power k (enc k t v)).toInt = expZ k u + expZ k v - i - j := by rw [Kit.i32_add (by omega) (by omega), hpu, hpv]; omega
  generalize f_X7_power k (enc k s u) + f_X7_power k (enc k t v) = E at dE ⊢
  have hE : sigN k u * 2 ^ i * (sigN k v * 2 ^ j) = sigN k u * sigN k v * 2 ^ (i + j) := by rw [Nat.mul_mul_mul_comm, ← Nat.pow_add]
  have hfin : ∀ F, F = sigN k u * 2 ^ i * (sigN k v * 2 ^ j) → rnd k F (expZ k u + expZ k v - i - j) false = rnd k (sigN k u * sigN k v) (expZ k u + expZ k v) false := by
    intro F hF
    rw [hF, hE, rnd_scale (Nat.mul_pos (sig_pos hu0) (sig_pos hv0))]
    congr 1
    omega
  have hFlo : 2 ^ kfbN k * 2 ^ kfbN k ≤ sigN k u * 2 ^ i * (sigN k v * 2 ^ j) := Nat.mul_le_mul hi2 hj2
  have hFhi : sigN k u * 2 ^ i * (sigN k v * 2 ^ j) < 2 ^ (kfbN k + 1) * 2 ^ (kfbN k + 1) := Nat.mul_lt_mul'' hi3 hj3
  have hMu : sigN k u * 2 ^ i < 2 ^ 53 := Nat.lt_of_lt_of_le hi3 hfp
  have hMv : sigN k v * 2 ^ j < 2 ^ 53 := Nat.lt_of_lt_of_le hj3 hfp
  generalize sigN k u * 2 ^ i = f at *
  generalize sigN k v * 2 ^ j = g at *
  have p53 : (2 : Nat) ^ 53 = 9007199254740992 := rfl
  obtain ⟨e, h1, h2, h3, h4⟩ := parts27 hMu hMv
  rw [m27, wb_mask (by omega) (by decide), wb_mask (by omega) (by decide), show (27 : Int32) = nI 27 from rfl, shrN (by omega) (by decide), shrN (by omega) (by decide), lN_mul, lN_mul, lN_mul, lN_mul, lN_add]
  rw [e] at hFlo hFhi
  have hfin2 := hfin _ e.symm
  clear hfin e hE hi2 hj2 hi3 hj3 hmu hmv
  generalize f / 2 ^ 27 * (g / 2 ^ 27) = ac at *
  generalize f / 2 ^ 27 * (g % 2 ^ 27) = ad at *
  generalize f % 2 ^ 27 * (g / 2 ^ 27) = bc at *
  generalize f % 2 ^ 27 * (g % 2 ^ 27) = bd at *
  have p27 : (2 : Nat) ^ 27 = 134217728 := rfl
  rw [shrN (by omega) (by decide), lN_add, wb_mask (n := bd) (by omega) (by decide), wb_mask (by rw [p27]; omega) (by decide), shrN (by rw [p27]; omega) (by decide), shlN _ (by decide), lN_add, p27]
  generalize hmid : ad + bc + bd / 134217728 = mid
  have hF : ac * 18014398509481984 + (ad + bc) * 134217728 + bd = ac * 18014398509481984 + mid * 134217728 + bd % 134217728 := by omega
  rw [hF] at hFlo hFhi hfin2
  have hml : bd % 134217728 < 134217728 := Nat.mod_lt _ (by decide)
  have hmb : mid ≤ 20000000000000000 := by omega
  generalize bd % 134217728 = lo at hml hFlo hFhi hfin2 ⊢
  have hbd := hfr_bd h1 hmb hml
  rw [g_or (k := 27) (p := 134217728) (b := mid % 134217728) (a := lo) q27 hml (Nat.lt_trans hbd.1 (by decide))]
  rw [hfr_aux] at hFlo hFhi hfin2
  generalize hhi : ac + mid / 134217728 = hi
  generalize hrest : mid % 134217728 * 134217728 + lo = rest
  have hrl : rest < 18014398509481984 := by rw [← hrest]; exact hbd.1
  have hhl : hi ≤ 4503599800000000 := by rw [← hhi]; exact hbd.2
  rw [hhi, hrest] at hFlo hFhi hfin2
  clear hrest hhi hF hmid hbd
  unfold f_X7_times_8
  by_cases hz : hi = 0
  · subst hz
    rw [if_pos (show lN 0 = (0 : Int64) from rfl)]
    have hpos : 0 < rest := by
      have := Nat.mul_pos (Nat.two_pow_pos (kfbN k)) (Nat.two_pow_pos (kfbN k))
      omega
    rw [mod_round hk hpos (by omega) dE (by omega) (fun h => absurd rfl h)]
    rw [Nat.zero_mul, Nat.zero_add] at hfin2
    rw [← hfin2]
    rfl
  · rw [if_neg (fun h => hz ((lN0 (by omega)).mp h))]
    have hk0 : k = 0 := by
      rcases two_of hk with h | h
      · exact h
      · exfalso
        subst h
        rw [pg1] at hFhi
        omega
    have hbig : 2 ^ (kfbN k + 7) ≤ (hi * 18014398509481984 + rest) / 2 ^ 45 := by
      subst hk0
      rw [pf0] at hFlo
      rw [show 2 ^ (kfbN 0 + 7) = 576460752303423488 by decide, q45]
      omega
    have h1 : 2 ^ (kfbN k + 7) = 2 ^ kfbN k * 128 := by rw [Nat.pow_add]
    have h2 : 2 ^ (kfbN k + 1) = 2 ^ kfbN k * 2 := by rw [Nat.pow_add]
    have key : ∀ c : Int32, (¬ c = 0 ↔ ¬ (hi * 18014398509481984 + rest) % 2 ^ 45 = 0) → f_X7_times_6 k (bI b) E (lN hi) (lN rest) c = enc k b (rnd k (sigN k u * sigN k v) (expZ k u + expZ k v) false) := by
      intro c hc
      unfold f_X7_times_6
      have hb9 := hfr_b2 hrl hhl
      rw [show (9 : Int32) = nI 9 from rfl, show jlshr (lN rest) (45 : Int32) = lN (rest / 2 ^ 45) from shrN (k := 45) (by omega) (by decide), shlN _ (by decide), p9, q45, g_or (k := 9) (p := 512) p9 hb9.1 (Nat.lt_trans hb9.2 (by decide))]
      rw [q45] at hbig hc
      rw [hfr_q] at hb9 ⊢
      have hb2 := rQ_big (k := k) (c := 7) (m := (hi * 18014398509481984 + rest) / 35184372088832) (e := expZ k u + expZ k v - i - j + ((45 : Nat) : Int)) hbig
      have d4 : (E + (45 : Int32)).toInt = expZ k u + expZ k v - i - j + ((45 : Nat) : Int) := by rw [Kit.i32_add (by rw [h45]; omega) (by rw [h45]; omega), h45, dE]; omega
      have hz2 := Nat.two_pow_pos (kfbN k)
      rw [mod_round hk (by omega) (Nat.lt_trans hb9.2 (by decide)) d4 (by omega) (fun _ => by omega), bdec hc, ← hfin2]
      have := rCoarse (k := k) (F := hi * 18014398509481984 + rest) (d := 45) (e := expZ k u + expZ k v - i - j) (Or.inr (by rw [q45]; omega))
      rw [this, q45]
    unfold f_X7_times_7
    rw [m45, wb_mask (by omega) (by decide)]
    have hm : (hi * 18014398509481984 + rest) % 2 ^ 45 = rest % 2 ^ 45 := by
      rw [q45]; omega
    by_cases hr : rest % 2 ^ 45 = 0
    · rw [hr, if_pos (show lN 0 = (0 : Int64) from rfl)]
      exact key 0 (by rw [hm, hr]; exact ⟨fun h => absurd rfl h, fun h => absurd rfl h⟩)
    · rw [if_neg (fun h => hr ((lN0 (by have := Nat.mod_lt rest (show 0 < 2 ^ 45 by decide); omega)).mp h))]
      exact key 1 (by rw [hm]; exact ⟨fun _ => hr, fun _ => by decide⟩)
theorem sg1_0 (hk : k < 2) {b : Bool} : f_X1_signed k (bI b) (0 : Int64) = enc k b 0 := by
  rw [show (0 : Int64) = lN 0 from rfl, sgn1_enc hk (Nat.two_pow_pos _), iB_bI]
theorem sg7_0 (hk : k < 2) {b : Bool} : f_X7_signed k (0 : Int64) (bI b) = enc k b 0 := by
  rw [show (0 : Int64) = lN 0 from rfl, sgn7_lN hk (Nat.two_pow_pos _), iB_bI]
theorem sg1_inf (hk : k < 2) {b : Bool} : f_X1_signed k (bI b) (kinf k) = enc k b (kinfN k) := by
  rw [kinf_lN hk, sgn1_enc hk (kw hk (Nat.le_refl _)), iB_bI]
theorem sg7_inf (hk : k < 2) {b : Bool} : f_X7_signed k (kinf k) (bI b) = enc k b (kinfN k) := by
  rw [kinf_lN hk, sgn7_lN hk (kw hk (Nat.le_refl _)), iB_bI]
theorem times_enc (hk : k < 2) (hu : u ≤ kinfN k) (hv : v ≤ kinfN k) : f_X2_times k (enc k s u) (enc k t v) = f_X7_times k (enc k s u) (enc k t v) ∧ kcn k (f_X7_times k (enc k s u) (enc k t v)) := by
  have hwu := kw hk hu
  have hwv := kw hk hv
  have h6u := lt63 hk hwu
  have h6v := lt63 hk hwv
  have n1 : ¬ (1 : Int32) = 0 := by decide
  have hi0 := (kinfN_w hk).2.2.1
  unfold f_X2_times f_X2_times_10 f_X7_times f_X7_times_18 f_X7_times_17
  rw [none0 hk hu, none0 hk hv, if_pos rfl, if_pos rfl]
  unfold f_X7_times_16
  rw [neg_enc hk hwu, neg_enc hk hwv, min_enc hk hwu, min_enc hk hwv, sgnif (f_X2_times_9 k (enc k s u) (enc k t v)), sgnif (f_X7_times_15 k (enc k s u) (enc k t v))]
  generalize (s != t) = b
  unfold f_X2_times_9 f_X2_times_8 f_X2_times_7 f_X2_times_6 f_X2_times_5 f_X2_times_4 f_X2_times_1 f_X7_times_15 f_X7_times_14 f_X7_times_13 f_X7_times_5 f_X7_times_4 f_X7_times_3 f_X7_times_2
  rw [mag_enc hk hwu, mag_enc hk hwv, inf_enc hk hwu, inf_enc hk hwv, inf7_enc hk hwu, inf7_enc hk hwv, zero_enc hk hwu, zero_enc hk hwv, sig_enc hk hwu, sig_enc hk hwv, sg1_inf hk, sg1_0 hk, sg7_inf hk, sg7_0 hk]
  by_cases hu0 : u = 0
  · subst hu0
    rw [if_pos (show lN 0 = (0 : Int64) from rfl), decide_eq_false (show ¬ 0 = kinfN k by omega), decide_eq_true (show (0 : Nat) = 0 from rfl), bI_f, bI_t]
    simp only [if_neg n1, if_pos (Eq.refl (0 : Int32))]
    by_cases hvi : v = kinfN k
    · rw [decide_eq_true hvi, bI_t]
      simp only [if_neg n1]
      exact ⟨by simp, kcn_nan hk⟩
    · rw [decide_eq_false hvi, bI_f]
      simp only [if_pos (Eq.refl (0 : Int32))]
      exact ⟨by simp, kcn_enc hk (Nat.zero_le _)⟩
  · rw [if_neg (fun h => hu0 ((lN0 (by omega)).mp h)), decide_eq_false hu0, bI_f]
    by_cases hv0 : v = 0
    · subst hv0
      rw [if_pos (show lN 0 = (0 : Int64) from rfl), decide_eq_false (show ¬ 0 = kinfN k by omega), decide_eq_true (show (0 : Nat) = 0 from rfl), bI_f, bI_t]
      simp only [if_neg n1, if_pos (Eq.refl (0 : Int32))]
      by_cases hui : u = kinfN k
      · rw [decide_eq_true hui, bI_t]
        simp only [if_neg n1]
        exact ⟨by simp, kcn_nan hk⟩
      · rw [decide_eq_false hui, bI_f]
        simp only [if_pos (Eq.refl (0 : Int32))]
        unfold f_X7_times_12
        rw [zero_enc hk hwv, decide_eq_true (show (0 : Nat) = 0 from rfl), bI_t, if_neg n1]
        unfold f_X7_times_5
        rw [sg7_0 hk]
        exact ⟨rfl, kcn_enc hk (Nat.zero_le _)⟩
    · rw [if_neg (fun h => hv0 ((lN0 (by omega)).mp h)), decide_eq_false hv0, bI_f]
      simp only [if_pos (Eq.refl (0 : Int32))]
      by_cases hui : u = kinfN k
      · rw [decide_eq_true hui, bI_t]
        simp only [if_neg n1]
        exact ⟨by simp, kcn_enc hk (Nat.le_refl _)⟩
      · rw [decide_eq_false hui, bI_f]
        simp only [if_pos (Eq.refl (0 : Int32))]
        by_cases hvi : v = kinfN k
        · rw [decide_eq_true hvi, bI_t]
          simp only [if_neg n1]
          exact ⟨by simp, kcn_enc hk (Nat.le_refl _)⟩
        · rw [decide_eq_false hvi, bI_f]
          simp only [if_pos (Eq.refl (0 : Int32))]
          rw [times3_val hk (by omega) (by omega) (by omega) (by omega), times11_val hk (by omega) (by omega) (by omega) (by omega)]
          exact ⟨rfl, kcn_enc hk (rnd_le hk (Nat.mul_pos (sig_pos (by omega)) (sig_pos (by omega))))⟩
end TIMES

