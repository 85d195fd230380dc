-- magnitudes by their values, in units of the least one
def nv (k u : Nat) : Nat := sigN k u * 2 ^ (expZ k u - klowZ k).toNat
def nP (k : Nat) : Nat := 2 ^ (-(klowZ k)).toNat
section NV
variable {k : Nat} {s t : Bool} {u v w : Nat}
theorem exp_ge : klowZ k ≤ expZ k u := by unfold expZ; omega
theorem nv_mono (hk : k < 2) (h : v ≤ u) : nv k v ≤ nv k u ∧ (nv k v = nv k u → v = u) := by
  obtain ⟨h1, h2⟩ := val_mono hk h
  have hm := exp_mono (k := k) h
  have hg := exp_ge (k := k) (u := v)
  have e : (expZ k u - klowZ k).toNat = (expZ k u - expZ k v).toNat + (expZ k v - klowZ k).toNat := by omega
  unfold nv
  rw [e, Nat.pow_add, ← Nat.mul_assoc]
  refine ⟨Nat.mul_le_mul_right _ h1, fun h3 => h2 ?_⟩
  exact Nat.eq_of_mul_eq_mul_right (Nat.two_pow_pos _) h3
theorem nv_le (hk : k < 2) : nv k v ≤ nv k u ↔ v ≤ u := by
  refine ⟨fun h => ?_, fun h => (nv_mono hk h).1⟩
  rcases Nat.le_total v u with h1 | h1
  · exact h1
  · have h2 := nv_mono hk h1
    have := h2.2 (by omega)
    omega
theorem nv_lt (hk : k < 2) : nv k v < nv k u ↔ v < u := by
  have := nv_le (v := u) (u := v) hk
  omega
theorem nv_eq (hk : k < 2) : nv k v = nv k u ↔ v = u := by
  have h1 := nv_le (v := u) (u := v) hk
  have h2 := nv_le (v := v) (u := u) hk
  omega
theorem nv_zero : nv k 0 = 0 := by unfold nv; rw [sig_zero, Nat.zero_mul]
/-- a number that needs no rounding -/
theorem rnd_nv (hk : k < 2) {m : Nat} (h0 : 0 < m) {e : Int} (he : klowZ k ≤ e) (hm : m < 2 ^ (kfbN k + 1)) (hb : e + (m.log2 : Int) - (kfbN k : Int) - klowZ k < ktopZ k - 1) : nv k (rnd k m e false) = m * 2 ^ (e - klowZ k).toNat := by
  obtain ⟨b1, b2, b3, b4, b5, b6⟩ := k_bounds hk
  have hL := log2_lt h0 hm
  have hlo := log2_lo h0
  have hhi := log2_hi h0
  have hp0 := Nat.two_pow_pos (kfbN k)
  unfold rnd
  by_cases hc : klowZ k ≤ e + (m.log2 : Int) - (kfbN k : Int)
  · have hQ : rQ k m e = e + (m.log2 : Int) - (kfbN k : Int) := by unfold rQ; omega
    rw [hQ, if_neg (by omega), if_pos (by omega), show (e - (e + (m.log2 : Int) - (kfbN k : Int))).toNat = kfbN k - m.log2 by omega]
    obtain ⟨A, hA⟩ : ∃ A, A = (e + (m.log2 : Int) - (kfbN k : Int) - klowZ k).toNat := ⟨_, rfl⟩
    obtain ⟨M, hM⟩ : ∃ M, M = m * 2 ^ (kfbN k - m.log2) := ⟨_, rfl⟩
    have hM1 : 2 ^ kfbN k ≤ M := by
      have h1 := Nat.mul_le_mul_right (2 ^ (kfbN k - m.log2)) hlo
      rw [← Nat.pow_add, show m.log2 + (kfbN k - m.log2) = kfbN k by omega] at h1
      omega
    have hM2 : M < 2 * 2 ^ kfbN k := by
      have h1 := Nat.mul_lt_mul_of_pos_right hhi (Nat.two_pow_pos (kfbN k - m.log2))
      rw [← Nat.pow_add, show m.log2 + 1 + (kfbN k - m.log2) = kfbN k + 1 by omega, Nat.pow_succ] at h1
      omega
    rw [← hA, ← hM]
    have hd : (A * 2 ^ kfbN k + M) / 2 ^ kfbN k = A + 1 := by
      rw [Nat.mul_comm A, Nat.mul_add_div hp0, Nat.div_eq_of_lt_le (k := 1) (by omega) (by omega)]
    have hr : (A * 2 ^ kfbN k + M) % 2 ^ kfbN k + 2 ^ kfbN k = M := by
      rw [Nat.mul_comm A, Nat.mul_add_mod, Nat.mod_eq_sub_mod (by omega), Nat.mod_eq_of_lt (by omega)]
      omega
    have hge : ¬ A * 2 ^ kfbN k + M < 2 ^ kfbN k := by
      have := Nat.zero_le (A * 2 ^ kfbN k)
      omega
    have hs : sigN k (A * 2 ^ kfbN k + M) = M := by
      unfold sigN
      rw [if_neg hge, hr]
    have hE : (expZ k (A * 2 ^ kfbN k + M) - klowZ k).toNat = A := by
      unfold expZ
      rw [hd]
      omega
    unfold nv
    rw [hs, hE, hM, Nat.mul_assoc, ← Nat.pow_add]
    congr 2
    omega
  · have hQ : rQ k m e = klowZ k := by unfold rQ; omega
    rw [hQ, if_neg (by omega), if_pos he, Int.sub_self, show (0 : Int).toNat = 0 from rfl, Nat.zero_mul, Nat.zero_add]
    have hM2 : m * 2 ^ (e - klowZ k).toNat < 2 ^ kfbN k := by
      have h1 := Nat.mul_lt_mul_of_pos_right hhi (Nat.two_pow_pos (e - klowZ k).toNat)
      rw [← Nat.pow_add] at h1
      have h2 : 2 ^ (m.log2 + 1 + (e - klowZ k).toNat) ≤ 2 ^ kfbN k := Nat.pow_le_pow_right (by decide) (by omega)
      omega
    unfold nv sigN expZ
    rw [if_pos hM2, Nat.div_eq_of_lt hM2, show (klowZ k + ((0 - 1 : Nat) : Int) - klowZ k).toNat = 0 by omega, Nat.pow_zero, Nat.mul_one]
-- whole numbers
def wF (k q : Nat) : Nat := if q = 0 then 0 else rnd k q 0 false
theorem wF_nv (hk : k < 2) {q : Nat} (hq : q ≤ 2 ^ kfbN k) : nv k (wF k q) = q * nP k := by
  unfold wF
  by_cases h : q = 0
  · rw [if_pos h, nv_zero, h, Nat.zero_mul]
  · rw [if_neg h]
    obtain ⟨b1, b2, b3, b4, b5, b6⟩ := k_bounds hk
    have hp0 := Nat.two_pow_pos (kfbN k)
    have hlt : q < 2 ^ (kfbN k + 1) := by rw [Nat.pow_succ]; omega
    have hL := log2_lt (by omega) hlt
    rw [rnd_nv hk (by omega) (by omega) hlt (by rcases two_of hk with rfl | rfl <;> simp only [kl0, kl1, kt0, kt1] <;> omega)]
    unfold nP
    rw [Int.zero_sub]
theorem wF_le (hk : k < 2) {q : Nat} : wF k q ≤ kinfN k := by
  unfold wF
  split
  · exact Nat.zero_le _
  · exact rnd_le hk (by omega)
theorem wF_is (hk : k < 2) {q : Nat} (hq : q < 2 ^ 63) : f_X2_toWhole_1 k (bI s) (lN q) = enc k s (wF k q) := by
  have hz : (0 : Int32).toInt = 0 := by decide
  unfold f_X2_toWhole_1 wF
  by_cases h : q = 0
  · rw [if_pos h, h, rounded_0 hk]
  · rw [if_neg h, cls_round hk (by omega) hq hz (by omega)]
/-- what a number is cut to, by the number below and the remainder -/
theorem whole_cut (hk : k < 2) (hn : expZ k u < 0) : ∃ d q r : Nat, sigN k u = q * 2 ^ (d + 1) + r ∧ r < 2 ^ (d + 1) ∧ q < 2 ^ kfbN k ∧ q * nP k ≤ nv k u ∧ nv k u < (q + 1) * nP k ∧ (r = 0 ↔ nv k u = q * nP k) ∧ ∀ (s : Bool) (w : Int32), w = 3 ∨ w = 4 ∨ w = 5 → u < kinfN k → f_X2_toWhole k (enc k s u) w = enc k s (wF k (if wUp w s q r (d + 1) = true then q + 1 else q)) := by
  obtain ⟨b1, b2, b3, b4, b5, b6⟩ := k_bounds hk
  have hg := exp_ge (k := k) (u := u)
  have hlu := sig_lt (u := u) hk
  have hp1 : 2 ^ (kfbN k + 1) = 2 * 2 ^ kfbN k := by rw [Nat.pow_succ]; omega
  have hfp : 2 ^ (kfbN k + 1) ≤ 2 ^ 53 := Nat.pow_le_pow_right (by decide) (by omega)
  have p53 : (2 : Nat) ^ 53 = 9007199254740992 := rfl
  have p62 : (2 : Nat) ^ 62 = 4611686018427387904 := rfl
  obtain ⟨d, hd⟩ : ∃ d : Nat, ((d + 1 : Nat) : Int) = min (-(expZ k u)) 62 := ⟨(min (-(expZ k u)) 62).toNat - 1, by omega⟩
  obtain ⟨q, hq⟩ : ∃ q, q = sigN k u / 2 ^ (d + 1) := ⟨_, rfl⟩
  obtain ⟨r, hr⟩ : ∃ r, r = sigN k u % 2 ^ (d + 1) := ⟨_, rfl⟩
  have hp := Nat.two_pow_pos (d + 1)
  have hdm := Nat.div_add_mod' (sigN k u) (2 ^ (d + 1))
  rw [← hq, ← hr] at hdm
  have hrl : r < 2 ^ (d + 1) := by rw [hr]; exact Nat.mod_lt _ hp
  have hql : q < 2 ^ kfbN k := by
    rw [hq]
    refine Nat.div_lt_of_lt_mul ?_
    have : 2 ^ 1 ≤ 2 ^ (d + 1) := Nat.pow_le_pow_right (by decide) (by omega)
    have h2 := Nat.mul_le_mul_right (2 ^ kfbN k) this
    omega
  have hv : q * nP k ≤ nv k u ∧ nv k u < (q + 1) * nP k ∧ (r = 0 ↔ nv k u = q * nP k) := by
    by_cases h : -(expZ k u) ≤ 62
    · have eP : nP k = 2 ^ (d + 1) * 2 ^ (expZ k u - klowZ k).toNat := by
        unfold nP
        rw [← Nat.pow_add]
        congr 1
        omega
      have hx := Nat.two_pow_pos (expZ k u - klowZ k).toNat
      unfold nv
      rw [eP, ← Nat.mul_assoc, ← Nat.mul_assoc]
      refine ⟨Nat.mul_le_mul_right _ (by omega), Nat.mul_lt_mul_of_pos_right ?_ hx, fun h0 => ?_, fun h0 => ?_⟩
      · rw [Nat.add_mul]; omega
      · congr 1; omega
      · have := Nat.eq_of_mul_eq_mul_right hx h0
        omega
    · have hd62 : d + 1 = 62 := by omega
      rw [hd62] at hq hr
      have hq0 : q = 0 := by rw [hq]; exact Nat.div_eq_of_lt (by omega)
      have hr0 : r = sigN k u := by rw [hr]; exact Nat.mod_eq_of_lt (by omega)
      have hx := Nat.two_pow_pos (expZ k u - klowZ k).toNat
      refine ⟨by rw [hq0, Nat.zero_mul]; exact Nat.zero_le _, ?_, fun h0 => ?_, fun h0 => ?_⟩
      · rw [hq0, Nat.zero_add, Nat.one_mul]
        unfold nv nP
        have h1 := Nat.mul_lt_mul_of_pos_right (show sigN k u < 2 ^ 62 by omega) hx
        rw [← Nat.pow_add] at h1
        exact Nat.lt_of_lt_of_le h1 (Nat.pow_le_pow_right (by decide) (by omega))
      · unfold nv
        rw [← hr0, h0, hq0, Nat.zero_mul, Nat.zero_mul]
      · unfold nv at h0
        rw [hq0, Nat.zero_mul] at h0
        rcases Nat.mul_eq_zero.mp h0 with h2 | h2
        · omega
        · omega
  refine ⟨d, q, r, by omega, hrl, hql, hv.1, hv.2.1, hv.2.2, fun s w hw hu => ?_⟩
  have hwu := kw hk (show u ≤ kinfN k by omega)
  have hz : (0 : Int32).toInt = 0 := by decide
  have h62 : (62 : Int32).toInt = 62 := by decide
  have e1 := exp_enc (s := s) hk hwu
  unfold f_X2_toWhole f_X2_toWhole_16
  rw [inf_enc hk hwu, decide_eq_false (show ¬ u = kinfN k by omega), bI_f, if_pos (Eq.refl (0 : Int32))]
  unfold f_X2_toWhole_15
  rw [if_pos (by rw [Int32.lt_iff_toInt_lt, hz, e1]; exact hn)]
  have en : (-(f_X1_exponent k (enc k s u))).toInt = -(expZ k u) := by rw [Kit.i32_neg (by omega), e1]
  have em := jminI_val (-(f_X1_exponent k (enc k s u))) 62
  rw [en, h62, ← hd] at em
  have em2 : jminI (-(f_X1_exponent k (enc k s u))) 62 = nI (d + 1) := Int32.toInt_inj.mp (by rw [em, nI_toInt (by omega)])
  unfold f_X2_toWhole_14 f_X2_toWhole_13
  have hq2 : q ≤ sigN k u := by rw [hq]; exact Nat.div_le_self _ _
  rw [em2, neg_enc hk hwu, sig_enc hk hwu, ushrN (by omega) (by omega), shlN _ (by omega), ← hq, lN_sub (by omega), show sigN k u - q * 2 ^ (d + 1) = r by omega, toWhole_12_val hw (by omega) (by omega) (by omega)]
  unfold wFin
  exact wF_is hk (by split <;> omega)
/-- a number that is whole already -/
theorem whole_big (hk : k < 2) (hu : u ≤ kinfN k) (h : u = kinfN k ∨ 0 ≤ expZ k u) {w : Int32} : f_X2_toWhole k (enc k s u) w = enc k s u := by
  have hwu := kw hk hu
  have hz : (0 : Int32).toInt = 0 := by decide
  unfold f_X2_toWhole f_X2_toWhole_16
  rw [inf_enc hk hwu]
  by_cases hi : u = kinfN k
  · rw [decide_eq_true hi, bI_t, if_neg (by decide)]
  · rw [decide_eq_false hi, bI_f, if_pos (Eq.refl (0 : Int32))]
    unfold f_X2_toWhole_15
    rw [if_neg (by rw [Int32.lt_iff_toInt_lt, hz, exp_enc (s := s) hk hwu]; omega)]
theorem whole_self (hk : k < 2) (hu : u ≤ kinfN k) {w : Int32} (hw : w = 3 ∨ w = 4 ∨ w = 5) (h : u = kinfN k ∨ nv k u % nP k = 0) : f_X2_toWhole k (enc k s u) w = enc k s u := by
  by_cases hb : u = kinfN k ∨ 0 ≤ expZ k u
  · exact whole_big hk hu hb
  · obtain ⟨d, q, r, h1, h2, h3, h4, h5, h6, h7⟩ := whole_cut (u := u) hk (by omega)
    have hm : nv k u % nP k = 0 := by omega
    have hP : 0 < nP k := Nat.two_pow_pos _
    have hq : nv k u = q * nP k := by
      have h8 := Nat.div_add_mod' (nv k u) (nP k)
      rw [hm, Nat.add_zero] at h8
      have h9 : nv k u / nP k = q := Nat.div_eq_of_lt_le h4 h5
      rw [← h8, h9]
    have hr : r = 0 := h6.mpr hq
    have hup : wUp w s q r (d + 1) = false := by
      unfold wUp
      rw [hr]
      have hp := Nat.two_pow_pos (d + 1 - 1)
      by_cases h5 : w = 5
      · rw [if_pos h5, decide_eq_false (show ¬ 2 ^ (d + 1 - 1) < 0 by omega), decide_eq_false (show ¬ 0 = 2 ^ (d + 1 - 1) by omega)]
        rfl
      · rw [if_neg h5]
        rfl
    rw [h7 s w hw (by omega), hup, if_neg (by decide)]
    congr 1
    exact (nv_eq hk).mp (by rw [wF_nv hk (by omega), hq])
/-- below, above and nearest: three whole numbers of one sign about a number -/
theorem whole_about (hk : k < 2) (hu : u ≤ kinfN k) : ∃ a b c : Nat, a ≤ kinfN k ∧ b ≤ kinfN k ∧ c ≤ kinfN k ∧ f_X2_toWhole k (enc k s u) 3 = enc k s a ∧ f_X2_toWhole k (enc k s u) 4 = enc k s b ∧ f_X2_toWhole k (enc k s u) 5 = enc k s c ∧ ri s a ≤ ri s u ∧ ri s u ≤ ri s b ∧ (c = a ∨ c = b) ∧ f_X2_toWhole k (enc k s c) 3 = enc k s c ∧ f_X2_toWhole k (enc k s c) 4 = enc k s c := by
  by_cases hb : u = kinfN k ∨ 0 ≤ expZ k u
  · exact ⟨u, u, u, hu, hu, hu, whole_big hk hu hb, whole_big hk hu hb, whole_big hk hu hb, Int.le_refl _, Int.le_refl _, Or.inl rfl, whole_big hk hu hb, whole_big hk hu hb⟩
  · obtain ⟨d, q, r, h1, h2, h3, h4, h5, h6, h7⟩ := whole_cut (u := u) hk (by omega)
    have e3 := h7 s 3 (Or.inl rfl) (by omega)
    have e4 := h7 s 4 (Or.inr (Or.inl rfl)) (by omega)
    have e5 := h7 s 5 (Or.inr (Or.inr rfl)) (by omega)
    have l0 : wF k q ≤ u := (nv_le hk).mp (by rw [wF_nv hk (by omega)]; exact h4)
    have l1 : u ≤ wF k (q + 1) := (nv_le hk).mp (by rw [wF_nv hk (by omega)]; omega)
    have self : ∀ z, z = q ∨ z = q + 1 → ∀ w : Int32, w = 3 ∨ w = 4 ∨ w = 5 → f_X2_toWhole k (enc k s (wF k z)) w = enc k s (wF k z) := fun z hz w hw => whole_self hk (wF_le hk) hw (Or.inr (by rw [wF_nv hk (by omega), Nat.mul_mod_left]))
    have hc : ∀ b : Bool, (if b = true then q + 1 else q) = q ∨ (if b = true then q + 1 else q) = q + 1 := fun b => by cases b <;> simp
    by_cases hr : r = 0
    · have hq := h6.mp hr
      have hself : f_X2_toWhole k (enc k s u) 3 = enc k s u := whole_self hk hu (Or.inl rfl) (Or.inr (by rw [hq, Nat.mul_mod_left]))
      have hself4 : f_X2_toWhole k (enc k s u) 4 = enc k s u := whole_self hk hu (Or.inr (Or.inl rfl)) (Or.inr (by rw [hq, Nat.mul_mod_left]))
      have hself5 : f_X2_toWhole k (enc k s u) 5 = enc k s u := whole_self hk hu (Or.inr (Or.inr rfl)) (Or.inr (by rw [hq, Nat.mul_mod_left]))
      exact ⟨u, u, u, hu, hu, hu, hself, hself4, hself5, Int.le_refl _, Int.le_refl _, Or.inl rfl, hself, hself4⟩
    · have u3 : wUp 3 s q r (d + 1) = s := by
        unfold wUp
        rw [if_neg (by decide), if_pos rfl, decide_eq_true hr, Bool.true_and]
      have u4 : wUp 4 s q r (d + 1) = !s := by
        unfold wUp
        rw [if_neg (by decide), if_neg (by decide), decide_eq_true hr, Bool.true_and]
      rw [u3] at e3
      rw [u4] at e4
      refine ⟨_, _, _, wF_le hk, wF_le hk, wF_le hk, e3, e4, e5, ?_, ?_, ?_, self _ (hc _) 3 (Or.inl rfl), self _ (hc _) 4 (Or.inr (Or.inl rfl))⟩
      · unfold ri
        cases s
        · simp; omega
        · simp; omega
      · unfold ri
        cases s
        · simp; omega
        · simp; omega
      · generalize wUp 5 s q r (d + 1) = b
        cases s <;> cases b <;> simp
end NV
