-- the reference's rounding, by numbers
theorem kinf_fb {k : Nat} (hk : k < 2) : (ktopZ k).toNat * 2 ^ kfbN k = kinfN k := by
  rcases two_of hk with rfl | rfl <;> decide +kernel
theorem kinfN_lt {k : Nat} : kinfN k < 2 ^ 63 := by
  unfold kinfN; split <;> omega
theorem rnd_le {k m : Nat} (hk : k < 2) (hm : 0 < m) {e : Int} {more : Bool} : rnd k m e more ≤ kinfN k := by
  obtain ⟨b1, b2, b3, b4, b5, b6⟩ := k_bounds hk
  have hq0 : klowZ k ≤ rQ k m e := by unfold rQ; omega
  have hq1 : e + (m.log2 : Int) - (kfbN k : Int) ≤ rQ k m e := by unfold rQ; omega
  have h2 := log2_hi hm
  unfold rnd
  generalize rQ k m e = Q at hq0 hq1 ⊢
  split
  · exact Nat.le_refl _
  · rename_i hc
    have hN : (if Q ≤ e then m * 2 ^ (e - Q).toNat else rneN m (Q - e).toNat more) ≤ 2 ^ (kfbN k + 1) := by
      split
      · rename_i h
        have h3 : m * 2 ^ (e - Q).toNat < 2 ^ (m.log2 + 1) * 2 ^ (e - Q).toNat := Nat.mul_lt_mul_of_pos_right h2 (Nat.two_pow_pos _)
        rw [← Nat.pow_add] at h3
        have h4 : 2 ^ (m.log2 + 1 + (e - Q).toNat) ≤ 2 ^ (kfbN k + 1) := Nat.pow_le_pow_right (by decide) (by omega)
        omega
      · rename_i h
        exact rneN_le (Nat.lt_of_lt_of_le h2 (Nat.pow_le_pow_right (by decide) (by omega)))
    generalize (if Q ≤ e then m * 2 ^ (e - Q).toNat else rneN m (Q - e).toNat more) = N at hN ⊢
    have h5 : (Q - klowZ k).toNat + 2 ≤ (ktopZ k).toNat := by omega
    have h6 := Nat.mul_le_mul_right (2 ^ kfbN k) h5
    rw [kinf_fb hk, Nat.add_mul] at h6
    rw [Nat.pow_succ] at hN
    omega

