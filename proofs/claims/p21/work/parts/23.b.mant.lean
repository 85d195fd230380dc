-- significand and exponent by numbers; the reference's mantissa and power
def sigN (k u : Nat) : Nat := if u < 2 ^ kfbN k then u else u % 2 ^ kfbN k + 2 ^ kfbN k
def expZ (k u : Nat) : Int := klowZ k + ((u / 2 ^ kfbN k - 1 : Nat) : Int)
theorem pf0 : 2 ^ kfbN 0 = 4503599627370496 := by decide
theorem pf1 : 2 ^ kfbN 1 = 8388608 := by decide
theorem pg0 : 2 ^ (kfbN 0 + 1) = 9007199254740992 := by decide
theorem pg1 : 2 ^ (kfbN 1 + 1) = 16777216 := by decide
theorem pw0 : 2 ^ wN 0 = 9223372036854775808 := by decide
theorem pw1 : 2 ^ wN 1 = 2147483648 := by decide
theorem kl0 : klowZ 0 = -1074 := by decide
theorem kl1 : klowZ 1 = -149 := by decide
theorem kt0 : ktopZ 0 = 2047 := by decide
theorem kt1 : ktopZ 1 = 255 := by decide
theorem ki0 : kinfN 0 = 9218868437227405312 := by decide
theorem ki1 : kinfN 1 = 2139095040 := by decide
theorem sgt0 : sgnB 0 true = 9223372036854775808 := by decide
theorem sgt1 : sgnB 1 true = 2147483648 := by decide
theorem sgf {k : Nat} : sgnB k false = 0 := by unfold sgnB; simp
theorem nI_mask {a e : Nat} (he : e < 32) : nI a &&& nI (2 ^ e - 1) = nI (a % 2 ^ e) := by
  apply Int32.toBitVec_inj.mp
  rw [Int32.toBitVec_and]
  show BitVec.ofNat 32 a &&& BitVec.ofNat 32 (2 ^ e - 1) = BitVec.ofNat 32 (a % 2 ^ e)
  apply BitVec.eq_of_toNat_eq
  have h1 : 2 ^ e < 2 ^ 32 := Nat.pow_lt_pow_right (by decide) he
  have h2 := Nat.mod_lt a (Nat.two_pow_pos e)
  rw [BitVec.toNat_and, BitVec.toNat_ofNat, BitVec.toNat_ofNat, BitVec.toNat_ofNat, Nat.mod_eq_of_lt (show 2 ^ e - 1 < 2 ^ 32 by omega), Nat.and_two_pow_sub_one_eq_mod, Nat.mod_eq_of_lt (show a % 2 ^ e < 2 ^ 32 by omega)]
  exact Nat.mod_mod_of_dvd a (Nat.pow_dvd_pow 2 (by omega))
section MANT
variable {k : Nat} {s : Bool} {u v : Nat}
theorem field_enc (hk : k < 2) (hu : u < 2 ^ wN k) : f_X1_exponentField k (enc k s u) = nI (u / 2 ^ kfbN k) := by
  unfold f_X1_exponentField
  have hl := enc_lt64 (s := s) hk hu
  unfold enc
  rw [kfb_nI hk, ushrN hl kfbN_lt, lN_i]
  rcases two_of hk with rfl | rfl
  · rw [show ktop 0 = nI (2 ^ 11 - 1) by decide +kernel, nI_mask (by decide)]
    congr 1
    rw [pw0] at hu
    rw [pf0, show (2 : Nat) ^ 11 = 2048 from rfl]
    cases s
    · rw [sgf]; omega
    · rw [sgt0]; omega
  · rw [show ktop 1 = nI (2 ^ 8 - 1) by decide +kernel, nI_mask (by decide)]
    congr 1
    rw [pw1] at hu
    rw [pf1, show (2 : Nat) ^ 8 = 256 from rfl]
    cases s
    · rw [sgf]; omega
    · rw [sgt1]; omega
theorem field_lt (hk : k < 2) (hu : u < 2 ^ wN k) : u / 2 ^ kfbN k < 2048 ∧ (u / 2 ^ kfbN k = 0 ↔ u < 2 ^ kfbN k) := by
  rcases two_of hk with rfl | rfl
  · rw [pw0] at hu; rw [pf0]; omega
  · rw [pw1] at hu; rw [pf1]; omega
theorem nI_0iff {a : Nat} (h : a < 2 ^ 31) : nI a = 0 ↔ a = 0 := ⟨fun e => by
  have := congrArg Int32.toInt e
  rw [nI_toInt h] at this
  have h0 : (0 : Int32).toInt = 0 := by decide
  omega, fun e => by rw [e]; exact nI_0⟩
theorem sig_enc (hk : k < 2) (hu : u < 2 ^ wN k) : f_X1_significand k (enc k s u) = lN (sigN k u) := by
  have hf := field_lt hk hu
  have hl := enc_lt64 (s := s) hk hu
  have hm : (sgnB k s + u) % 2 ^ kfbN k = u % 2 ^ kfbN k := by
    rcases two_of hk with rfl | rfl
    · rw [pw0] at hu; rw [pf0]
      cases s
      · rw [sgf]; omega
      · rw [sgt0]; omega
    · rw [pw1] at hu; rw [pf1]
      cases s
      · rw [sgf]; omega
      · rw [sgt1]; omega
  unfold f_X1_significand f_X1_significand_2 f_X1_significand_1
  rw [field_enc hk hu]
  have e1 : enc k s u &&& (jlshl (1 : Int64) (kfb k) - (1 : Int64)) = lN (u % 2 ^ kfbN k) := by
    rw [kfb_nI hk, maskN _ kfbN_lt]
    unfold enc
    rw [wb_mask hl kfbN_lt, hm]
  rw [e1]
  have hp := Nat.mod_lt u (Nat.two_pow_pos (kfbN k))
  have hp2 : 2 ^ kfbN k < 2 ^ 64 := wb_lt2 kfbN_lt
  unfold sigN
  by_cases h : u < 2 ^ kfbN k
  · rw [if_pos ((nI_0iff (by omega)).mpr (hf.2.mpr h)), if_pos h, Nat.mod_eq_of_lt h]
  · rw [if_neg (fun e => h (hf.2.mp ((nI_0iff (by omega)).mp e))), if_neg h, kfb_nI hk, bitN _ kfbN_lt, wb_or (by omega) hp2, or_p2 hp, Nat.add_comm]
theorem exp_enc (hk : k < 2) (hu : u < 2 ^ wN k) : (f_X1_exponent k (enc k s u)).toInt = expZ k u := by
  have hf := field_lt hk hu
  obtain ⟨b1, b2, b3, b4, b5, b6⟩ := k_bounds hk
  have h1 : (1 : Int32).toInt = 1 := by decide
  unfold f_X1_exponent expZ
  rw [field_enc hk hu]
  have e := jmaxI_val (nI (u / 2 ^ kfbN k)) 1
  rw [nI_toInt (by omega), h1] at e
  have e2 : (jmaxI (nI (u / 2 ^ kfbN k)) 1 - 1).toInt = ((u / 2 ^ kfbN k - 1 : Nat) : Int) := by
    rw [Kit.i32_sub (by rw [e, h1]; omega) (by rw [e, h1]; omega), e, h1]; omega
  rw [Kit.i32_add (by rw [e2, klow_val hk]; omega) (by rw [e2, klow_val hk]; omega), e2, klow_val hk]
  omega
theorem sig_lt (hk : k < 2) : sigN k u < 2 ^ (kfbN k + 1) := by
  unfold sigN
  rcases two_of hk with rfl | rfl
  · rw [pf0, pg0]; split <;> omega
  · rw [pf1, pg1]; split <;> omega
theorem sig_ge (h : 2 ^ kfbN k ≤ u) : 2 ^ kfbN k ≤ sigN k u := by
  unfold sigN
  rw [if_neg (by omega)]
  omega
theorem sig_pos (h : 0 < u) : 0 < sigN k u := by
  unfold sigN
  have := Nat.two_pow_pos (kfbN k)
  split <;> omega
theorem sig_zero : sigN k 0 = 0 := by
  unfold sigN
  rw [if_pos (Nat.two_pow_pos _)]
theorem exp_rng (hk : k < 2) (hu : u ≤ kinfN k) : klowZ k ≤ expZ k u ∧ expZ k u ≤ klowZ k + ktopZ k - 1 ∧ -1074 ≤ expZ k u ∧ expZ k u ≤ 972 := by
  unfold expZ
  rcases two_of hk with rfl | rfl
  · rw [ki0] at hu; rw [pf0, kl0, kt0]; omega
  · rw [ki1] at hu; rw [pf1, kl1, kt1]; omega
theorem exp_low (hk : k < 2) (h : klowZ k < expZ k u) : 2 ^ (kfbN k + 1) ≤ u := by
  unfold expZ at h
  rcases two_of hk with rfl | rfl
  · rw [pf0, kl0] at h; rw [pg0]; omega
  · rw [pf1, kl1] at h; rw [pg1]; omega
theorem exp_mono (h : v ≤ u) : expZ k v ≤ expZ k u := by
  unfold expZ
  have := Nat.div_le_div_right (c := 2 ^ kfbN k) h
  omega
theorem sig_mono (hk : k < 2) (h : v ≤ u) (e : expZ k v = expZ k u) : sigN k v ≤ sigN k u ∧ (sigN k v = sigN k u → v = u) := by
  unfold expZ at e
  unfold sigN
  rcases two_of hk with rfl | rfl
  · rw [pf0] at e; rw [pf0]; split <;> split <;> omega
  · rw [pf1] at e; rw [pf1]; split <;> split <;> omega
theorem val_mono (hk : k < 2) (h : v ≤ u) : sigN k v ≤ sigN k u * 2 ^ (expZ k u - expZ k v).toNat ∧ (sigN k v = sigN k u * 2 ^ (expZ k u - expZ k v).toNat → v = u) := by
  have hm := exp_mono (k := k) h
  by_cases e : expZ k v = expZ k u
  · rw [show (expZ k u - expZ k v).toNat = 0 by omega, Nat.pow_zero, Nat.mul_one]
    exact sig_mono hk h e
  · have h2 : 2 ^ (kfbN k + 1) ≤ u := exp_low hk (by have : klowZ k ≤ expZ k v := by unfold expZ; omega
                                                     omega)
    have h3 : 2 ^ kfbN k ≤ sigN k u := sig_ge (by rw [Nat.pow_succ] at h2; omega)
    have h4 : 2 ^ 1 ≤ 2 ^ (expZ k u - expZ k v).toNat := Nat.pow_le_pow_right (by decide) (by omega)
    have h5 := Nat.mul_le_mul h3 h4
    have h6 := sig_lt (u := v) hk
    rw [Nat.pow_succ] at h6
    omega
theorem rnd_self (hk : k < 2) (h0 : 0 < u) (hu : u < kinfN k) : rnd k (sigN k u) (expZ k u) false = u := by
  unfold rnd rQ
  by_cases h : u < 2 ^ kfbN k
  · have hs : sigN k u = u := if_pos h
    have he : expZ k u = klowZ k := by unfold expZ; rw [Nat.div_eq_of_lt h]; omega
    have hl := log2_lt h0 h
    obtain ⟨b1, b2, b3, b4, b5, b6⟩ := k_bounds hk
    rw [hs, he, show max (klowZ k + (u.log2 : Int) - (kfbN k : Int)) (klowZ k) = klowZ k by omega, if_neg (by omega), if_pos (Int.le_refl _)]
    simp
  · have hs := sig_ge (k := k) (u := u) (by omega)
    have hl := log2_is hs (sig_lt hk)
    have hr : klowZ k ≤ expZ k u := by unfold expZ; omega
    rw [hl, show max (expZ k u + (kfbN k : Int) - (kfbN k : Int)) (klowZ k) = expZ k u by omega]
    have hs2 : sigN k u = u % 2 ^ kfbN k + 2 ^ kfbN k := if_neg h
    have hq : ¬ ktopZ k - 1 ≤ expZ k u - klowZ k := by
      unfold expZ
      rcases two_of hk with rfl | rfl
      · rw [ki0] at hu; rw [pf0, kt0, kl0]; omega
      · rw [ki1] at hu; rw [pf1, kt1, kl1]; omega
    rw [if_neg hq, if_pos (Int.le_refl _), Int.sub_self, show (0 : Int).toNat = 0 from rfl, Nat.pow_zero, Nat.mul_one, hs2, show (expZ k u - klowZ k).toNat = u / 2 ^ kfbN k - 1 by unfold expZ; omega]
    rcases two_of hk with rfl | rfl
    · rw [pf0] at h ⊢; omega
    · rw [pf1] at h ⊢; omega
/-- the reference's loops: a number shifted up to the highest bit of its kind -/
theorem mantL (hk : k < 2) : ∀ (j n m : Nat), j < n → 2 ^ kfbN k ≤ m * 2 ^ j → m * 2 ^ j < 2 ^ (kfbN k + 1) → f_X7_mantissa_L41 (lN (2 ^ kfbN k)) n (lN m) = lN (m * 2 ^ j) := by
  have hp : 2 ^ (kfbN k + 1) < 2 ^ 63 := wb_lt2 (by have := k_bounds hk; omega)
  have hp1 : 2 ^ (kfbN k + 1) = 2 * 2 ^ kfbN k := by rw [Nat.pow_succ]; omega
  intro j
  induction j with
  | zero =>
    intro n m hn h1 h2
    obtain ⟨n, rfl⟩ : ∃ a, n = a + 1 := ⟨n - 1, by omega⟩
    rw [Nat.pow_zero, Nat.mul_one] at h1 h2 ⊢
    show f_X7_mantissa_1 _ _ _ = _
    unfold f_X7_mantissa_1
    rw [if_pos ((lN_le63 (by omega) (by omega)).mpr h1)]
  | succ j ih =>
    intro n m hn h1 h2
    obtain ⟨n, rfl⟩ : ∃ a, n = a + 1 := ⟨n - 1, by omega⟩
    show f_X7_mantissa_1 _ _ _ = _
    unfold f_X7_mantissa_1
    have e : m * 2 ^ (j + 1) = m * 2 ^ 1 * 2 ^ j := by rw [Nat.mul_assoc, ← Nat.pow_add, Nat.add_comm 1 j]
    have h3 : m * 2 ^ 1 ≤ m * 2 ^ 1 * 2 ^ j := Nat.le_mul_of_pos_right _ (Nat.two_pow_pos j)
    rw [e] at h1 h2
    rw [if_neg (fun h => by have := (lN_le63 (by omega) (by omega)).mp h; omega), show jlshl (lN m) (1 : Int32) = lN (m * 2 ^ 1) from shlN m (k := 1) (by decide), ih n (m * 2 ^ 1) (by omega) h1 h2, e]
theorem powL (hk : k < 2) : ∀ (j n m : Nat) (q : Int32), j < n → -2000 + (j : Int) ≤ q.toInt → q.toInt ≤ 0 → 2 ^ kfbN k ≤ m * 2 ^ j → m * 2 ^ j < 2 ^ (kfbN k + 1) → (f_X7_power_L49 k n q (lN m)).toInt = q.toInt - j := by
  have hp : 2 ^ (kfbN k + 1) < 2 ^ 63 := wb_lt2 (by have := k_bounds hk; omega)
  have hp1 : 2 ^ (kfbN k + 1) = 2 * 2 ^ kfbN k := by rw [Nat.pow_succ]; omega
  have hp0 := Nat.two_pow_pos (kfbN k)
  have hm1 : (-1 : Int32).toInt = -1 := by decide
  intro j
  induction j with
  | zero =>
    intro n m q hn hq hq2 h1 h2
    obtain ⟨n, rfl⟩ : ∃ a, n = a + 1 := ⟨n - 1, by omega⟩
    rw [Nat.pow_zero, Nat.mul_one] at h1 h2
    show (f_X7_power_1 _ _ _ _).toInt = _
    unfold f_X7_power_1
    have h3 : 0 < m / 2 ^ kfbN k := Nat.div_pos h1 hp0
    have h4 : m / 2 ^ kfbN k ≤ m := Nat.div_le_self _ _
    rw [kfb_nI hk, shrN (by omega) kfbN_lt, if_neg (fun h => by have := (lN0 (by omega)).mp h; omega)]
    omega
  | succ j ih =>
    intro n m q hn hq hq2 h1 h2
    obtain ⟨n, rfl⟩ : ∃ a, n = a + 1 := ⟨n - 1, by omega⟩
    show (f_X7_power_1 _ _ _ _).toInt = _
    unfold f_X7_power_1
    have e : m * 2 ^ (j + 1) = m * 2 ^ 1 * 2 ^ j := by rw [Nat.mul_assoc, ← Nat.pow_add, Nat.add_comm 1 j]
    have h3 : m * 2 ^ 1 ≤ m * 2 ^ 1 * 2 ^ j := Nat.le_mul_of_pos_right _ (Nat.two_pow_pos j)
    rw [e] at h1 h2
    have e1 : jlshr (lN m) (kfb k) = 0 := by
      rw [kfb_nI hk, shrN (by omega) kfbN_lt, Nat.div_eq_of_lt (by omega)]
      rfl
    have e2 : (q + (-1 : Int32)).toInt = q.toInt - 1 := by rw [Kit.i32_add (by rw [hm1]; omega) (by rw [hm1]; omega), hm1]; omega
    rw [if_pos e1, show jlshl (lN m) (1 : Int32) = lN (m * 2 ^ 1) from shlN m (k := 1) (by decide), ih n (m * 2 ^ 1) _ (by omega) (by omega) (by omega) h1 h2, e2]
    omega
theorem mp_of (hk : k < 2) {b : Int64} (hb : f_X7_unsigned k b = lN u) (h0 : 0 < u) (hu : u ≤ kinfN k) : ∃ j, (j = 0 ∨ expZ k u = klowZ k) ∧ j ≤ kfbN k ∧ 2 ^ kfbN k ≤ sigN k u * 2 ^ j ∧ sigN k u * 2 ^ j < 2 ^ (kfbN k + 1) ∧ f_X7_mantissa k b = lN (sigN k u * 2 ^ j) ∧ (f_X7_power k b).toInt = expZ k u - j := by
  have hw := kw hk hu
  have hf := field_lt hk hw
  have h63 := lt63 hk hw
  obtain ⟨b1, b2, b3, b4, b5, b6⟩ := k_bounds hk
  have hp0 := Nat.two_pow_pos (kfbN k)
  have hp : 2 ^ (kfbN k + 1) < 2 ^ 63 := wb_lt2 (by omega)
  have hp1 : 2 ^ (kfbN k + 1) = 2 * 2 ^ kfbN k := by rw [Nat.pow_succ]; omega
  have hz : (0 : Int32).toInt = 0 := by decide
  have hone : (1 : Int32).toInt = 1 := by decide
  have ef : (jlshr (lN u) (kfb k)).toInt32 = nI (u / 2 ^ kfbN k) := by rw [kfb_nI hk, shrN h63 kfbN_lt, lN_i]
  have et : jlshl (1 : Int64) (kfb k) = lN (2 ^ kfbN k) := by rw [kfb_nI hk]; exact bitN _ kfbN_lt
  unfold f_X7_mantissa f_X7_power f_X7_power_4 f_X7_power_3 f_X7_mantissa_3
  rw [hb, ef, et]
  by_cases h : u < 2 ^ kfbN k
  · have hs : sigN k u = u := if_pos h
    have he : expZ k u = klowZ k := by unfold expZ; rw [Nat.div_eq_of_lt h]; omega
    have hl := log2_lt h0 h
    have hj1 : 2 ^ kfbN k ≤ u * 2 ^ (kfbN k - u.log2) := by
      have := Nat.mul_le_mul_right (2 ^ (kfbN k - u.log2)) (log2_lo h0)
      rw [← Nat.pow_add, show u.log2 + (kfbN k - u.log2) = kfbN k by omega] at this
      exact this
    have hj2 : u * 2 ^ (kfbN k - u.log2) < 2 ^ (kfbN k + 1) := by
      have := Nat.mul_lt_mul_of_pos_right (log2_hi h0) (Nat.two_pow_pos (kfbN k - u.log2))
      rw [← Nat.pow_add, show u.log2 + 1 + (kfbN k - u.log2) = kfbN k + 1 by omega] at this
      exact this
    refine ⟨kfbN k - u.log2, Or.inr he, by omega, by rw [hs]; exact hj1, by rw [hs]; exact hj2, ?_, ?_⟩
    · rw [if_pos ((lN_lt63 h63 (by omega)).mpr h), hs]
      exact mantL hk _ 64 u (by omega) hj1 hj2
    · rw [(hf.2.mpr h), if_pos (by rw [Int32.le_iff_toInt_le]; decide), he]
      rw [powL hk _ 64 u (klow k) (by omega) (by rw [klow_val hk]; omega) (by rw [klow_val hk]; omega) hj1 hj2, klow_val hk]
  · have hs : sigN k u = u % 2 ^ kfbN k + 2 ^ kfbN k := if_neg h
    have hg := sig_ge (k := k) (u := u) (by omega)
    have hl := sig_lt (u := u) hk
    have hm := Nat.mod_lt u hp0
    have hne : u / 2 ^ kfbN k ≠ 0 := fun e => h (hf.2.mp e)
    refine ⟨0, Or.inl rfl, by omega, by rw [Nat.pow_zero, Nat.mul_one]; exact hg, by rw [Nat.pow_zero, Nat.mul_one]; exact hl, ?_, ?_⟩
    · rw [if_neg (fun e => h ((lN_lt63 h63 (by omega)).mp e)), Nat.pow_zero, Nat.mul_one]
      have em : lN (2 ^ kfbN k) - (1 : Int64) = lN (2 ^ kfbN k - 1) := lN_sub (b := 1) hp0
      rw [em, wb_mask (by omega) kfbN_lt, wb_or (by omega) (by omega), or_p2 hm, hs, Nat.add_comm]
    · unfold expZ
      have hf1 := hf.1
      generalize u / 2 ^ kfbN k = F at hf1 hne ⊢
      rw [if_neg (by rw [Int32.le_iff_toInt_le, hz, nI_toInt (by omega)]; omega)]
      have e1 : (klow k + nI F).toInt = klowZ k + (F : Int) := by
        rw [Kit.i32_add (by rw [klow_val hk, nI_toInt (by omega)]; omega) (by rw [klow_val hk, nI_toInt (by omega)]; omega), klow_val hk, nI_toInt (by omega)]
      rw [Kit.i32_sub (by rw [e1, hone]; omega) (by rw [e1, hone]; omega), e1, hone]
      omega
theorem mp_val (hk : k < 2) (h0 : 0 < u) (hu : u ≤ kinfN k) : ∃ j, (j = 0 ∨ expZ k u = klowZ k) ∧ j ≤ kfbN k ∧ 2 ^ kfbN k ≤ sigN k u * 2 ^ j ∧ sigN k u * 2 ^ j < 2 ^ (kfbN k + 1) ∧ f_X7_mantissa k (enc k s u) = lN (sigN k u * 2 ^ j) ∧ (f_X7_power k (enc k s u)).toInt = expZ k u - j := mp_of hk (uns_enc hk (kw hk hu)) h0 hu
end MANT

