-- the parts of a halved sum: what stands in the frames below
def remZ (z c : Nat) : Nat := if c = 0 then 4 * z - 3 else if c = 1 then 4 * (z - z / 2) - 1 else 1
def hvT (S : MSt) : Nat → Nat
  | 0 => 0
  | m + 1 => hvT S m + remZ (mpz S m).toNatClampNeg (mpd S m).toNatClampNeg
def hvOK (k N : Nat) (S : MSt) (i : Nat) : Prop := ∃ f z c : Nat, mpf S i = nI f ∧ mpz S i = nI z ∧ mpd S i = nI c ∧ 1 ≤ z ∧ f + z ≤ N ∧ c ≤ 2 ∧ (z - 1) * 2 ^ i ≤ 499 ∧ (1 ≤ c → kcn k (mpu S i))
def hvI (k N : Nat) (S : MSt) (q2 : Int32) (q3 : Int64) (n : Nat) : Prop := N ≤ 500 ∧ (∃ m : Nat, q2.toInt = (m : Int) - 1 ∧ m ≤ 10 ∧ (∀ i, i < m → hvOK k N S i) ∧ hvT S m + 1 ≤ n) ∧ kcn k q3
theorem remZ_pos {z c : Nat} (h : 1 ≤ z) : 1 ≤ remZ z c := by
  unfold remZ
  split
  · omega
  · split <;> omega
section HV
variable {k N n : Nat} {S S' : MSt} {q2 : Int32} {q3 r : Int64}
theorem hvI.zero (h : hvI k N S q2 q3 0) : False := by
  obtain ⟨-, ⟨m, h1, h2, h3, h4⟩, -⟩ := h
  omega
theorem hvI.d (h : hvI k N S q2 q3 n) (hc : ¬ q2 < 0) : ∃ d : Nat, q2 = nI d ∧ d < 10 ∧ (∀ i, i < d + 1 → hvOK k N S i) ∧ hvT S (d + 1) + 1 ≤ n := by
  obtain ⟨-, ⟨m, h1, h2, h3, h4⟩, -⟩ := h
  obtain ⟨d, hd, rfl⟩ := nI_of hc
  rw [nI_toInt hd] at h1
  obtain rfl : m = d + 1 := by omega
  exact ⟨d, rfl, by omega, h3, h4⟩
theorem hvI.in (h : hvI k N S q2 q3 n) (hc : ¬ q2 < 0) : vp_in q2 12 := by
  obtain ⟨d, rfl, hd, -⟩ := h.d hc
  exact vp_in_nI (by omega) (by decide)
theorem half_nI {z : Nat} (h : z ≤ 500) : nI z / (2 : Int32) = nI (z / 2) := by
  apply Int32.toInt_inj.mp
  have h2 : (2 : Int32).toInt = 2 := by decide
  rw [Kit.i32_div (by rw [h2]; omega), nI_toInt (by omega), nI_toInt (by omega), h2, Int.tdiv_eq_ediv_of_nonneg (by omega)]
  omega
theorem hv_dlt {z d : Nat} (h : 2 ≤ z) (hb : (z - 1) * 2 ^ d ≤ 499) : d ≤ 8 := by
  rcases Nat.lt_or_ge d 9 with h1 | h1
  · omega
  · have h2 : 2 ^ 9 ≤ 2 ^ d := Nat.pow_le_pow_right (by decide) h1
    have h3 : 1 * 2 ^ d ≤ (z - 1) * 2 ^ d := Nat.mul_le_mul_right _ (by omega)
    omega
theorem hvI.in1 (h : hvI k N S q2 q3 n) (hc : ¬ q2 < 0) (hz : ¬ mpz S q2.toNatClampNeg / (2 : Int32) = 0) : vp_in (q2 + (1 : Int32)) 12 := by
  have hN := h.1
  obtain ⟨d, rfl, hd, hf, -⟩ := h.d hc
  obtain ⟨f, z, c, e1, e2, e3, g1, g2, g3, g4, g5⟩ := hf d (by omega)
  rw [nI_clamp (by omega), e2, half_nI (by omega)] at hz
  have h2 : 2 ≤ z := by
    rcases Nat.lt_or_ge z 2 with h3 | h3
    · exact absurd (show nI (z / 2) = 0 by rw [show z / 2 = 0 by omega]; rfl) hz
    · exact h3
  have := hv_dlt h2 g4
  rw [nI_1]
  exact vp_in_nI (by omega) (by decide)
theorem hvI.sum (h : hvI k N S q2 q3 n) (hc : ¬ q2 < 0) (h2 : mpd S q2.toNatClampNeg = 2) : kcn k (mpu S q2.toNatClampNeg) := by
  obtain ⟨d, rfl, hd, hf, -⟩ := h.d hc
  obtain ⟨f, z, c, e1, e2, e3, g1, g2, g3, g4, g5⟩ := hf d (by omega)
  rw [nI_clamp (by omega)] at h2 ⊢
  rw [e3] at h2
  refine g5 ?_
  rcases Nat.eq_zero_or_pos c with h5 | h5
  · rw [h5] at h2; exact absurd h2 (by decide)
  · exact h5
theorem hvI.pl (hI : mInv S) {x : Int32} (hR : mRow S x) (h : hvI k (f_X7_size S x).toNatClampNeg S q2 q3 n) (hc : ¬ q2 < 0) : mPl S x (mpf S q2.toNatClampNeg) := by
  obtain ⟨d, rfl, hd, hf, -⟩ := h.d hc
  obtain ⟨f, z, c, e1, e2, e3, g1, g2, g3, g4, g5⟩ := hf d (by omega)
  obtain ⟨j, hj, rfl⟩ := hR
  have h5 := (hI.2.2.1 j hj).2
  rw [size_val hI hj, nI_clamp (by omega)] at g2
  rw [nI_clamp (by omega), e1]
  exact ⟨j, f, hj, rfl, by omega, rfl⟩
theorem hvI.pop (h : hvI k N S q2 q3 (Nat.succ n)) (hc : ¬ q2 < 0) (hr : kcn k r) : hvI k N S (q2 + (-1 : Int32)) r n := by
  obtain ⟨d, rfl, hd, hf, ht⟩ := h.d hc
  refine ⟨h.1, ⟨d, ?_, by omega, fun i hi => hf i (by omega), ?_⟩, hr⟩
  · have h1 : (-1 : Int32).toInt = -1 := by decide
    rw [Kit.i32_add (by rw [nI_toInt (by omega)]; omega) (by rw [nI_toInt (by omega)]; omega), nI_toInt (by omega), h1]
    omega
  · obtain ⟨f, z, c, e1, e2, e3, g1, g2, g3, g4, g5⟩ := hf d (by omega)
    have h2 : hvT S (d + 1) = hvT S d + remZ z c := by
      have := h.1
      show hvT S d + remZ (mpz S d).toNatClampNeg (mpd S d).toNatClampNeg = _
      rw [e2, e3, nI_clamp (by omega), nI_clamp (by omega)]
    have := remZ_pos (z := z) (c := c) g1
    omega
theorem hvT_same (m : Nat) (h1 : ∀ i, i < m → mpz S' i = mpz S i) (h2 : ∀ i, i < m → mpd S' i = mpd S i) : hvT S' m = hvT S m := by
  induction m with
  | zero => rfl
  | succ m ih =>
    show hvT S' m + _ = hvT S m + _
    rw [ih (fun i hi => h1 i (by omega)) (fun i hi => h2 i (by omega)), h1 m (by omega), h2 m (by omega)]
/-- one part goes on to its first (c = 0), or its second half (c = 1) -/
theorem hvI.push (h : hvI k N S q2 q3 (Nat.succ n)) (hc : ¬ q2 < 0) (hz : ¬ mpz S q2.toNatClampNeg / (2 : Int32) = 0) (h2 : ¬ mpd S q2.toNatClampNeg = 2) {f' z' : Int32}
    (hs : (mpd S q2.toNatClampNeg = 1 ∧ f' = mpf S q2.toNatClampNeg + mpz S q2.toNatClampNeg / (2 : Int32) ∧ z' = mpz S q2.toNatClampNeg - mpz S q2.toNatClampNeg / (2 : Int32)) ∨ (¬ mpd S q2.toNatClampNeg = 1 ∧ f' = mpf S q2.toNatClampNeg ∧ z' = mpz S q2.toNatClampNeg / (2 : Int32)))
    (e1 : mpf S' = upd (mpf S) (q2 + (1 : Int32)).toNatClampNeg f') (e2 : mpz S' = upd (mpz S) (q2 + (1 : Int32)).toNatClampNeg z') (e3 : mpd S' = upd (upd (mpd S) q2.toNatClampNeg (mpd S q2.toNatClampNeg + (1 : Int32))) (q2 + (1 : Int32)).toNatClampNeg 0) (e4 : mpu S' = vp_updL (mpu S) q2.toNatClampNeg q3) : hvI k N S' (q2 + (1 : Int32)) q3 n := by
  have hN := h.1
  have hq := h.2.2
  obtain ⟨d, rfl, hd, hf, ht⟩ := h.d hc
  obtain ⟨f, z, c, a1, a2, a3, g1, g2, g3, g4, g5⟩ := hf d (by omega)
  have hcl : (nI d).toNatClampNeg = d := nI_clamp (by omega)
  have hcl1 : (nI d + (1 : Int32)).toNatClampNeg = d + 1 := by rw [nI_1, nI_clamp (by omega)]
  rw [hcl1] at e1 e2 e3
  rw [hcl] at hz h2 hs e3 e4
  rw [a2, half_nI (by omega)] at hz
  have hz2 : 2 ≤ z := by
    rcases Nat.lt_or_ge z 2 with h3 | h3
    · exact absurd (show nI (z / 2) = 0 by rw [show z / 2 = 0 by omega]; rfl) hz
    · exact h3
  have hd8 := hv_dlt hz2 g4
  rw [a3] at h2 hs e3
  rw [a1, a2, half_nI (by omega)] at hs
  have hc2 : c ≤ 1 := by
    rcases Nat.lt_or_ge c 2 with h3 | h3
    · omega
    · exact absurd (show nI c = 2 by rw [show c = 2 by omega]; rfl) h2
  have o3 : ∀ i, i < d → mpd S' i = mpd S i := fun i hi => by
    rw [e3]; unfold upd; rw [if_neg (by omega), if_neg (by omega)]
  have o2 : ∀ i, i < d → mpz S' i = mpz S i := fun i hi => by
    rw [e2]; unfold upd; rw [if_neg (by omega)]
  have b2 : mpz S' d = nI z := by rw [e2, ← a2]; unfold upd; rw [if_neg (by omega)]
  have b3 : mpd S' d = nI (c + 1) := by rw [e3]; unfold upd; rw [if_neg (by omega), if_pos rfl, nI_1]
  have b4 : mpu S' d = q3 := by rw [e4]; unfold vp_updL; rw [if_pos rfl]
  have c3 : mpd S' (d + 1) = nI 0 := by rw [e3]; unfold upd; rw [if_pos rfl]; rfl
  obtain ⟨F, Z, hF, hZ, hFZ, hZ1, hZb, hrem⟩ : ∃ F Z : Nat, f' = nI F ∧ z' = nI Z ∧ F + Z ≤ N ∧ 1 ≤ Z ∧ (Z - 1) * 2 ≤ z - 1 ∧ remZ z (c + 1) + remZ Z 0 + 1 ≤ remZ z c := by
    rcases hs with ⟨h5, h6, h7⟩ | ⟨h5, h6, h7⟩
    · have hc1 : c = 1 := by
        rcases Nat.eq_zero_or_pos c with h8 | h8
        · rw [h8] at h5; exact absurd h5 (by decide)
        · omega
      subst hc1
      refine ⟨f + z / 2, z - z / 2, by rw [h6, nI_add], by rw [h7, nI_subN (by omega) (by omega)], by omega, by omega, by omega, ?_⟩
      show remZ z 2 + remZ (z - z / 2) 0 + 1 ≤ remZ z 1
      unfold remZ
      simp
      omega
    · have hc0 : c = 0 := by
        rcases Nat.eq_zero_or_pos c with h8 | h8
        · exact h8
        · exact absurd (show nI c = 1 by rw [show c = 1 by omega]; rfl) h5
      subst hc0
      refine ⟨f, z / 2, h6, h7, by omega, by omega, by omega, ?_⟩
      show remZ z 1 + remZ (z / 2) 0 + 1 ≤ remZ z 0
      unfold remZ
      simp
      omega
  refine ⟨hN, ⟨d + 2, ?_, by omega, fun i hi => ?_, ?_⟩, hq⟩
  · rw [nI_1, nI_toInt (by omega)]; omega
  · rcases Nat.lt_or_ge i d with h9 | h9
    · obtain ⟨f9, z9, c9, w1, w2, w3, w4, w5, w6, w7, w8⟩ := hf i (by omega)
      refine ⟨f9, z9, c9, ?_, by rw [o2 i h9]; exact w2, by rw [o3 i h9]; exact w3, w4, w5, w6, w7, fun hh => ?_⟩
      · rw [e1]; unfold upd; rw [if_neg (by omega)]; exact w1
      · rw [e4]; unfold vp_updL; rw [if_neg (by omega)]; exact w8 hh
    · rcases Nat.eq_or_lt_of_le h9 with h10 | h10
      · subst h10
        refine ⟨f, z, c + 1, ?_, b2, b3, g1, g2, by omega, g4, fun _ => by rw [b4]; exact hq⟩
        rw [e1]; unfold upd; rw [if_neg (by omega)]; exact a1
      · obtain rfl : i = d + 1 := by omega
        refine ⟨F, Z, 0, ?_, ?_, c3, hZ1, hFZ, by omega, ?_, fun hh => absurd hh (by omega)⟩
        · rw [e1]; unfold upd; rw [if_pos rfl]; exact hF
        · rw [e2]; unfold upd; rw [if_pos rfl]; exact hZ
        · rw [Nat.pow_succ, Nat.mul_comm (2 ^ d) 2, ← Nat.mul_assoc]
          exact Nat.le_trans (Nat.mul_le_mul_right _ hZb) g4
  · have t1 : hvT S' (d + 2) = hvT S' d + remZ z (c + 1) + remZ Z 0 := by
      show hvT S' d + remZ (mpz S' d).toNatClampNeg (mpd S' d).toNatClampNeg + remZ (mpz S' (d + 1)).toNatClampNeg (mpd S' (d + 1)).toNatClampNeg = _
      have e5 : mpz S' (d + 1) = nI Z := by rw [e2]; unfold upd; rw [if_pos rfl]; exact hZ
      rw [b2, b3, c3, e5, nI_clamp (by omega), nI_clamp (by omega), nI_clamp (by omega), nI_clamp (by omega)]
    have t2 : hvT S (d + 1) = hvT S d + remZ z c := by
      show hvT S d + remZ (mpz S d).toNatClampNeg (mpd S d).toNatClampNeg = _
      rw [a2, a3, nI_clamp (by omega), nI_clamp (by omega)]
    rw [t1, hvT_same d o2 o3]
    omega
theorem hvI.init (hI : mInv S) {x : Int32} (hR : mRow S x) (hk : k < 2) (e1 : mpf S' = upd (mpf S) 0 0) (e2 : mpz S' = upd (mpz S) 0 (f_X7_size S x)) (e3 : mpd S' = upd (mpd S) 0 0) : hvI k (f_X7_size S x).toNatClampNeg S' 0 0 2000 := by
  obtain ⟨j, hj, rfl⟩ := hR
  have h5 := hI.2.2.1 j hj
  rw [size_val hI hj, nI_clamp (by omega)]
  rw [size_val hI hj] at e2
  have a1 : mpf S' 0 = nI 0 := by rw [e1]; rfl
  have a2 : mpz S' 0 = nI (mf S (j + 1) - mf S j) := by rw [e2]; rfl
  have a3 : mpd S' 0 = nI 0 := by rw [e3]; rfl
  refine ⟨by omega, ⟨1, by decide, by omega, fun i hi => ?_, ?_⟩, kcn_0 hk⟩
  · obtain rfl : i = 0 := by omega
    exact ⟨0, _, 0, a1, a2, a3, by omega, by omega, by omega, by omega, fun hh => absurd hh (by omega)⟩
  · show 0 + remZ (mpz S' 0).toNatClampNeg (mpd S' 0).toNatClampNeg + 1 ≤ 2000
    rw [a2, a3, nI_clamp (by omega), nI_clamp (by omega)]
    unfold remZ
    simp
    omega
end HV
