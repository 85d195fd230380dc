-- numbers of a kind by sign and magnitude
def wN (k : Nat) : Nat := if k = 0 then 63 else 31
def knanN (k : Nat) : Nat := if k = 0 then 9221120237041090560 else 2143289344
def sgnB (k : Nat) (s : Bool) : Nat := if s = true then 2 ^ wN k else 0
def enc (k : Nat) (s : Bool) (u : Nat) : Int64 := lN (sgnB k s + u)
def bI (b : Bool) : Int32 := if b = true then 1 else 0
def iB (t : Int32) : Bool := decide (¬ t = 0)
theorem bI_t : bI true = 1 := rfl
theorem bI_f : bI false = 0 := rfl
theorem iB_bI (b : Bool) : iB (bI b) = b := by cases b <;> rfl
theorem bI_0 {b : Bool} : bI b = 0 ↔ b = false := by cases b <;> decide
theorem wN_lt {k : Nat} : wN k < 64 := by unfold wN; split <;> omega
theorem wN_p {k : Nat} (hk : k < 2) : 2 ^ wN k = if k = 0 then 9223372036854775808 else 2147483648 := by
  rcases two_of hk with rfl | rfl <;> decide
theorem kinfN_w {k : Nat} (hk : k < 2) : kinfN k < knanN k ∧ knanN k < 2 ^ wN k ∧ 0 < kinfN k ∧ 2 ^ wN k ≤ 2 ^ 63 := by
  rcases two_of hk with rfl | rfl <;> decide
theorem sgnB_le {k : Nat} {s : Bool} : sgnB k s ≤ 2 ^ wN k := by
  unfold sgnB
  split
  · exact Nat.le_refl _
  · exact Nat.zero_le _
section ENC
variable {k : Nat} {s t : Bool} {u v : Nat}
theorem enc_lt64 (hk : k < 2) (hu : u < 2 ^ wN k) : sgnB k s + u < 2 ^ 64 := by
  have h1 := (kinfN_w hk).2.2.2
  have h2 := @sgnB_le k s
  omega
theorem sgn_mod (hu : u < 2 ^ wN k) : (sgnB k s + u) % 2 ^ wN k = u := by
  unfold sgnB
  split
  · rw [Nat.add_mod_left, Nat.mod_eq_of_lt hu]
  · rw [Nat.zero_add, Nat.mod_eq_of_lt hu]
theorem ksgn_lN (hk : k < 2) : ksgn k = lN (2 ^ wN k) := by rcases two_of hk with rfl | rfl <;> decide +kernel
theorem kmask_lN (hk : k < 2) : ksgn k - 1 = lN (2 ^ wN k - 1) := by rcases two_of hk with rfl | rfl <;> decide +kernel
theorem knan_lN (hk : k < 2) : knan k = lN (knanN k) := by rcases two_of hk with rfl | rfl <;> decide +kernel
theorem knan_enc (hk : k < 2) : knan k = enc k false (knanN k) := by
  rw [knan_lN hk]; unfold enc sgnB; simp
theorem kinf_enc (hk : k < 2) : kinf k = enc k false (kinfN k) := by
  rw [kinf_lN hk]; unfold enc sgnB; simp
theorem enc_f : enc k false u = lN u := by unfold enc sgnB; simp
theorem zero_encf : (0 : Int64) = enc k false 0 := by rw [enc_f]; rfl
theorem mag_enc (hk : k < 2) (hu : u < 2 ^ wN k) : f_X1_magnitude k (enc k s u) = lN u := by
  unfold f_X1_magnitude enc
  rw [kmask_lN hk, wb_mask (enc_lt64 hk hu) wN_lt, sgn_mod hu]
theorem and_p2 {w : Nat} (hu : u < 2 ^ w) : (2 ^ w + u) &&& 2 ^ w = 2 ^ w := by
  apply Nat.eq_of_testBit_eq
  intro i
  rw [Nat.testBit_and, Nat.testBit_two_pow]
  by_cases h : w = i
  · subst h
    rw [Nat.testBit_two_pow_add_eq, Nat.testBit_lt_two_pow hu]
    simp
  · simp [h]
theorem and_p0 {w : Nat} (hu : u < 2 ^ w) : u &&& 2 ^ w = 0 := by
  apply Nat.eq_of_testBit_eq
  intro i
  rw [Nat.testBit_and, Nat.testBit_two_pow, Nat.zero_testBit]
  by_cases h : w = i
  · subst h
    rw [Nat.testBit_lt_two_pow hu]
    simp
  · simp [h]
theorem xor_p2 {w : Nat} (hu : u < 2 ^ w) : u ^^^ 2 ^ w = 2 ^ w + u := by
  apply Nat.eq_of_testBit_eq
  intro i
  rw [Nat.testBit_xor, Nat.testBit_two_pow]
  rcases Nat.lt_trichotomy i w with h | h | h
  · rw [Nat.testBit_two_pow_add_gt h]
    simp [show ¬ w = i by omega]
  · subst h
    rw [Nat.testBit_two_pow_add_eq, Nat.testBit_lt_two_pow hu]
    simp
  · have a1 : 2 ^ (w + 1) ≤ 2 ^ i := Nat.pow_le_pow_right (by decide) h
    rw [Nat.pow_succ] at a1
    rw [Nat.testBit_lt_two_pow (show 2 ^ w + u < 2 ^ i by omega), Nat.testBit_lt_two_pow (show u < 2 ^ i by omega)]
    simp [show ¬ w = i by omega]
theorem xor_p2' {w : Nat} (hu : u < 2 ^ w) : (2 ^ w + u) ^^^ 2 ^ w = u := by
  rw [← xor_p2 hu, Nat.xor_assoc, Nat.xor_self, Nat.xor_zero]
theorem or_p2 {w : Nat} (hu : u < 2 ^ w) : u ||| 2 ^ w = 2 ^ w + u := by
  apply Nat.eq_of_testBit_eq
  intro i
  rw [Nat.testBit_or, Nat.testBit_two_pow]
  rcases Nat.lt_trichotomy i w with h | h | h
  · rw [Nat.testBit_two_pow_add_gt h]
    simp [show ¬ w = i by omega]
  · subst h
    rw [Nat.testBit_two_pow_add_eq, Nat.testBit_lt_two_pow hu]
    simp
  · have a1 : 2 ^ (w + 1) ≤ 2 ^ i := Nat.pow_le_pow_right (by decide) h
    rw [Nat.pow_succ] at a1
    rw [Nat.testBit_lt_two_pow (show 2 ^ w + u < 2 ^ i by omega), Nat.testBit_lt_two_pow (show u < 2 ^ i by omega)]
    simp [show ¬ w = i by omega]
theorem or_p2' {w : Nat} (hu : u < 2 ^ w) : (2 ^ w + u) ||| 2 ^ w = 2 ^ w + u := by
  rw [← or_p2 hu, Nat.or_assoc, Nat.or_self]
theorem wb_xorN {a b : Nat} (ha : a < 2 ^ 64) (hb : b < 2 ^ 64) : lN a ^^^ lN b = lN (a ^^^ b) := by
  apply wb_inj
  rw [Int64.toBitVec_xor, wb_tb, wb_tb, wb_tb]
  apply BitVec.eq_of_toNat_eq
  rw [BitVec.toNat_xor, BitVec.toNat_ofNat, BitVec.toNat_ofNat, BitVec.toNat_ofNat, Nat.mod_eq_of_lt ha, Nat.mod_eq_of_lt hb, Nat.mod_eq_of_lt (Nat.xor_lt_two_pow ha hb)]
theorem p2_64 (hk : k < 2) : 2 ^ wN k < 2 ^ 64 := by have := (kinfN_w hk).2.2.2; omega
theorem and_sgn (hk : k < 2) (hu : u < 2 ^ wN k) : enc k s u &&& ksgn k = lN (sgnB k s) := by
  unfold enc
  rw [ksgn_lN hk, wb_and (enc_lt64 hk hu) (p2_64 hk)]
  congr 1
  unfold sgnB
  cases s
  · rw [if_neg (by decide), Nat.zero_add, and_p0 hu]
  · rw [if_pos rfl, and_p2 hu]
theorem sgnB_0 (hk : k < 2) : lN (sgnB k s) = (0 : Int64) ↔ s = false := by
  have h := p2_64 hk
  have h2 := Nat.two_pow_pos (wN k)
  cases s
  · exact ⟨fun _ => rfl, fun _ => rfl⟩
  · refine ⟨fun h3 => ?_, fun h3 => by cases h3⟩
    have := (lN_eq64 (a := sgnB k true) (b := 0) (by unfold sgnB; simp; omega) (by decide)).mp h3
    unfold sgnB at this
    simp at this
theorem neg_enc (hk : k < 2) (hu : u < 2 ^ wN k) : f_X1_isNegative k (enc k s u) = bI s := by
  unfold f_X1_isNegative f_X1_isNegative_1
  rw [and_sgn hk hu]
  by_cases h : s = false
  · rw [if_pos ((sgnB_0 hk).mpr h), h]; rfl
  · rw [if_neg (fun h2 => h ((sgnB_0 hk).mp h2))]
    cases s
    · exact absurd rfl h
    · rfl
theorem min_enc (hk : k < 2) (hu : u < 2 ^ wN k) : f_X7_minus k (enc k s u) = bI s := neg_enc hk hu
theorem not_lN (hk : k < 2) (hu : u < 2 ^ wN k) : enc k s u &&& (ksgn k ^^^ (-1 : Int64)) = lN u := by
  rcases two_of hk with rfl | rfl
  · have e : ksgn 0 ^^^ (-1 : Int64) = ksgn 0 - 1 := by decide +kernel
    rw [e]
    exact mag_enc (by decide) hu
  · have hl : enc 1 s u = enc 1 s u &&& (4294967295 : Int64) := by
      unfold enc
      have h1 := enc_lt64 (s := s) (by decide : 1 < 2) hu
      have h2 : sgnB 1 s + u < 4294967296 := by
        have := @sgnB_le 1 s
        have h3 : 2 ^ wN 1 = 2147483648 := by decide
        omega
      rw [show (4294967295 : Int64) = lN (2 ^ 32 - 1) by decide +kernel, wb_mask h1 (by decide), Nat.mod_eq_of_lt (by omega)]
    rw [hl, Int64.and_assoc, (by decide +kernel : (4294967295 : Int64) &&& (ksgn 1 ^^^ (-1 : Int64)) = ksgn 1 - 1)]
    exact mag_enc (by decide) hu
theorem uns_enc (hk : k < 2) (hu : u < 2 ^ wN k) : f_X7_unsigned k (enc k s u) = lN u := not_lN hk hu
theorem lt63 (hk : k < 2) (hu : u < 2 ^ wN k) : u < 2 ^ 63 := by have := (kinfN_w hk).2.2.2; omega
theorem nan0 (hk : k < 2) (hu : u ≤ kinfN k) : f_X1_isNan k (enc k s u) = 0 := by
  have h := kinfN_w hk
  unfold f_X1_isNan f_X1_isNan_1
  rw [mag_enc hk (by omega), kinf_lN hk]
  exact if_pos ((lN_le63 (by omega) kinfN_lt).mpr hu)
theorem nan1 (hk : k < 2) : f_X1_isNan k (knan k) = 1 := by
  have h := kinfN_w hk
  unfold f_X1_isNan f_X1_isNan_1
  rw [knan_enc hk, mag_enc hk h.2.1, kinf_lN hk]
  exact if_neg (fun h2 => by have := (lN_le63 (by omega) kinfN_lt).mp h2; omega)
theorem enc_inj (hk : k < 2) (hu : u < 2 ^ wN k) (hv : v < 2 ^ wN k) : enc k s u = enc k t v ↔ s = t ∧ u = v := by
  constructor
  · intro h
    have h1 := (lN_eq64 (enc_lt64 (s := s) hk hu) (enc_lt64 (s := t) hk hv)).mp h
    have h2 := Nat.two_pow_pos (wN k)
    unfold sgnB at h1
    cases s <;> cases t <;> simp at h1 ⊢ <;> omega
  · rintro ⟨rfl, rfl⟩; rfl
theorem none0 (hk : k < 2) (hu : u ≤ kinfN k) : f_X7_none k (enc k s u) = 0 := by
  have h := kinfN_w hk
  unfold f_X7_none f_X7_none_1
  rw [knan_enc hk]
  exact if_neg (fun h2 => by have := ((enc_inj hk (by omega) (by omega)).mp h2).2; omega)
theorem none1 : f_X7_none k (knan k) = 1 := if_pos rfl
theorem inf_enc (hk : k < 2) (hu : u < 2 ^ wN k) : f_X1_isInfinite k (enc k s u) = bI (decide (u = kinfN k)) := by
  have h := kinfN_w hk
  unfold f_X1_isInfinite f_X1_isInfinite_1 bI
  rw [mag_enc hk hu, kinf_lN hk]
  have h2 := lt63 hk hu
  have h3 := @kinfN_lt k
  by_cases h1 : u = kinfN k
  · rw [if_pos (by rw [h1]), if_pos (decide_eq_true h1)]
  · rw [if_neg (fun h4 => h1 ((lN_eq64 (by omega) (by omega)).mp h4)), if_neg (by simpa using h1)]
theorem inf7_enc (hk : k < 2) (hu : u < 2 ^ wN k) : f_X7_infinite k (enc k s u) = bI (decide (u = kinfN k)) := by
  rw [← inf_enc (s := s) hk hu]
  unfold f_X7_infinite f_X7_infinite_1 f_X1_isInfinite f_X1_isInfinite_1
  rw [uns_enc hk hu, mag_enc hk hu]
theorem lN0 (hu : u < 2 ^ 64) : lN u = (0 : Int64) ↔ u = 0 := lN_eq64 (b := 0) hu (by decide)
theorem zero_enc (hk : k < 2) (hu : u < 2 ^ wN k) : f_X7_zero k (enc k s u) = bI (decide (u = 0)) := by
  have h2 := lt63 hk hu
  unfold f_X7_zero f_X7_zero_1 bI
  rw [uns_enc hk hu]
  by_cases h1 : u = 0
  · rw [if_pos ((lN0 (by omega)).mpr h1), if_pos (decide_eq_true h1)]
  · rw [if_neg (fun h4 => h1 ((lN0 (by omega)).mp h4)), if_neg (by simpa using h1)]
theorem sgn1_enc (hk : k < 2) (hu : u < 2 ^ wN k) (q : Int32) : f_X1_signed k q (lN u) = enc k (iB q) u := by
  unfold f_X1_signed f_X1_signed_1 iB enc
  by_cases h : q = 0
  · rw [if_pos h, decide_eq_false (by simpa using h)]; unfold sgnB; simp
  · have h2 := lt63 hk hu
    rw [if_neg h, decide_eq_true h, ksgn_lN hk, wb_or (p2_64 hk) (by omega), Nat.or_comm, or_p2 hu]
    unfold sgnB
    simp
theorem sgn7_enc (hk : k < 2) (hu : u < 2 ^ wN k) (q : Int32) : f_X7_signed k (enc k s u) q = enc k (iB q) u := by
  unfold f_X7_signed f_X7_signed_1 iB
  by_cases h : q = 0
  · rw [if_pos h, decide_eq_false (by simpa using h), not_lN hk hu, enc_f]
  · have h2 := lt63 hk hu
    rw [if_neg h, decide_eq_true h, ksgn_lN hk]
    unfold enc
    rw [wb_or (enc_lt64 hk hu) (p2_64 hk)]
    congr 1
    unfold sgnB
    cases s
    · rw [if_neg (by decide), Nat.zero_add, or_p2 hu, if_pos rfl]
    · rw [if_pos rfl, or_p2' hu]
theorem sgn7_lN (hk : k < 2) (hu : u < 2 ^ wN k) (q : Int32) : f_X7_signed k (lN u) q = enc k (iB q) u := by
  rw [← enc_f (k := k)]; exact sgn7_enc hk hu q
theorem flip_enc (hk : k < 2) (hu : u < 2 ^ wN k) : enc k s u ^^^ ksgn k = enc k (!s) u := by
  rw [ksgn_lN hk]
  unfold enc
  rw [wb_xorN (enc_lt64 hk hu) (p2_64 hk)]
  congr 1
  unfold sgnB
  cases s
  · rw [if_neg (by decide), Nat.zero_add, xor_p2 hu]; simp
  · rw [if_pos rfl, xor_p2' hu]; simp
theorem lN_neg_toInt (hu : u < 2 ^ 63) : (-(lN u)).toInt = -(u : Int) := by
  rw [Kit.i64_neg (by rw [pf_lI hu]; omega), pf_lI hu]
theorem rank_enc (hk : k < 2) (hu : u < 2 ^ wN k) : (f_X7_rank k (enc k s u)).toInt = if s = true then -(u : Int) else u := by
  have h2 := lt63 hk hu
  unfold f_X7_rank f_X7_rank_1
  rw [min_enc hk hu, uns_enc hk hu]
  cases s
  · rw [bI_f, if_pos rfl, pf_lI h2, if_neg (by decide)]
  · rw [if_neg (by decide), lN_neg_toInt h2, if_pos rfl]
theorem vrank_eq (hk : k < 2) (hu : u < 2 ^ wN k) : f_X1_valueRank k (enc k s u) = f_X7_rank k (enc k s u) := by
  unfold f_X7_rank f_X7_rank_1 f_X1_valueRank f_X1_valueRank_1
  rw [min_enc hk hu, uns_enc hk hu, neg_enc hk hu, mag_enc hk hu]
theorem trank_enc (hk : k < 2) (hu : u < 2 ^ wN k) : (f_X1_totalRank k (enc k s u)).toInt = if s = true then -1 - (u : Int) else u := by
  have h2 := lt63 hk hu
  have h1 : (-1 : Int64).toInt = -1 := by decide
  unfold f_X1_totalRank f_X1_totalRank_1
  rw [neg_enc hk hu, mag_enc hk hu]
  cases s
  · rw [bI_f, if_pos rfl, pf_lI h2, if_neg (by decide)]
  · rw [if_neg (by decide), if_pos rfl, Kit.i64_sub (by rw [h1, pf_lI h2]; omega) (by rw [h1, pf_lI h2]; omega), h1, pf_lI h2]
theorem enc_of (hk : k < 2) {b : Int64} (h : k = 1 → 0 ≤ b.toInt ∧ b.toInt < 4294967296) : ∃ s u, u < 2 ^ wN k ∧ b = enc k s u := by
  obtain ⟨n, hn, rfl⟩ := wb_of b
  have hw : n < 2 * 2 ^ wN k := by
    rcases two_of hk with rfl | rfl
    · have : 2 ^ wN 0 = 2 ^ 63 := rfl
      omega
    · obtain ⟨h1, h2⟩ := h rfl
      have h3 : 2 ^ wN 1 = 2147483648 := by decide
      rcases Nat.lt_or_ge n (2 ^ 63) with h4 | h4
      · rw [pf_lI h4] at h2; omega
      · have : (lN n).toInt < 0 := by
          show (BitVec.ofNat 64 n).toInt < 0
          rw [BitVec.toInt_eq_toNat_cond, BitVec.toNat_ofNat, Nat.mod_eq_of_lt hn]
          split <;> omega
        omega
  have h0 := Nat.two_pow_pos (wN k)
  rcases Nat.lt_or_ge n (2 ^ wN k) with h1 | h1
  · exact ⟨false, n, h1, by rw [enc_f]⟩
  · refine ⟨true, n - 2 ^ wN k, by omega, ?_⟩
    unfold enc sgnB
    rw [if_pos rfl, show 2 ^ wN k + (n - 2 ^ wN k) = n by omega]
/-- a clean number: NaN's one form, or a sign and a magnitude -/
theorem kcn_cases (hk : k < 2) {b : Int64} (h : kcn k b) : b = knan k ∨ ∃ s u, u ≤ kinfN k ∧ b = enc k s u := by
  obtain ⟨s, u, hu, rfl⟩ := enc_of hk h.1
  rcases h.2 with h2 | h2
  · right
    rw [uns_enc hk hu, kinf_lN hk] at h2
    exact ⟨s, u, (lN_le63 (lt63 hk hu) kinfN_lt).mp h2, rfl⟩
  · exact Or.inl h2
theorem enc_rng (hk : k < 2) (hu : u < 2 ^ wN k) : k = 1 → 0 ≤ (enc k s u).toInt ∧ (enc k s u).toInt < 4294967296 := by
  rintro rfl
  have h3 : 2 ^ wN 1 = 2147483648 := by decide
  have := @sgnB_le 1 s
  unfold enc
  rw [pf_lI (by omega)]
  omega
theorem kcn_enc (hk : k < 2) (hu : u ≤ kinfN k) : kcn k (enc k s u) := by
  have h := kinfN_w hk
  refine ⟨enc_rng hk (by omega), Or.inl ?_⟩
  rw [uns_enc hk (by omega), kinf_lN hk]
  exact (lN_le63 (by omega) kinfN_lt).mpr hu
theorem kcn_nan (hk : k < 2) : kcn k (knan k) := by
  have h := kinfN_w hk
  refine ⟨?_, Or.inr rfl⟩
  rw [knan_enc hk]
  exact enc_rng hk h.2.1
theorem kw (hk : k < 2) (hu : u ≤ kinfN k) : u < 2 ^ wN k := by have := kinfN_w hk; omega
end ENC

