-- the reference's rounding, by numbers (its loop)
theorem roundL {k : Nat} {s : Int32} {m : Nat} {e t : Int32} (h1 : 0 < m) (h2 : m < 2 ^ 63) : ∀ d j, j + d = m.log2 + 1 → f_X7_round_L3 k s (lN m) e t (64 - j) (nI j) = f_X7_round_15 k s (lN m) e t (nI (m.log2 + 1)) := by
  have hL := log2_lt h1 h2
  intro d
  induction d with
  | zero =>
    intro j hj
    rw [show 64 - j = (63 - j) + 1 by omega]
    show f_X7_round_17 k s (lN m) e t (nI j) (f_X7_round_L3 k s (lN m) e t (63 - j)) = _
    unfold f_X7_round_17
    have hj2 : j = m.log2 + 1 := by omega
    by_cases h : 63 ≤ j
    · rw [if_pos (show (63 : Int32) ≤ nI j from nI_le (a := 63) h (by omega)), hj2]
    · rw [if_neg (show ¬ (63 : Int32) ≤ nI j from nI_ge (b := 63) (by omega) (by decide))]
      unfold f_X7_round_16
      rw [shrN h2 (by omega), hj2, Nat.div_eq_of_lt (log2_hi h1)]
      rfl
  | succ d ih =>
    intro j hj
    rw [show 64 - j = (63 - j) + 1 by omega]
    show f_X7_round_17 k s (lN m) e t (nI j) (f_X7_round_L3 k s (lN m) e t (63 - j)) = _
    unfold f_X7_round_17
    rw [if_neg (show ¬ (63 : Int32) ≤ nI j from nI_ge (b := 63) (by omega) (by decide))]
    unfold f_X7_round_16
    have hp : 0 < m / 2 ^ j := Nat.div_pos (Nat.le_trans (Nat.pow_le_pow_right (by decide) (by omega)) (log2_lo h1)) (Nat.two_pow_pos j)
    have hd : m / 2 ^ j ≤ m := Nat.div_le_self _ _
    rw [shrN h2 (by omega), if_neg (show ¬ lN (m / 2 ^ j) ≤ (0 : Int64) from fun h => by have := (lN_le63 (b := 0) (by omega) (by decide)).mp h; omega), nI_1]
    have := ih (j + 1) (by omega)
    rw [show 64 - (j + 1) = 63 - j by omega] at this
    exact this
theorem round_fin {k : Nat} (hk : k < 2) (s : Int32) {V : Int32} {Q : Int} {N : Nat} (hV : V.toInt = Q) (h0 : klowZ k ≤ Q) (hQ : Q ≤ 6000) (hN : (Q - klowZ k).toNat * 2 ^ kfbN k + N ≤ kinfN k) : f_X7_round_2 k s V (lN N) = f_X7_signed k (lN ((Q - klowZ k).toNat * 2 ^ kfbN k + N)) s := by
  obtain ⟨b1, b2, b3, b4, b5, b6⟩ := k_bounds hk
  have hI := @kinfN_lt k
  have f2 : (V - klow k).toInt = Q - klowZ k := by rw [Kit.i32_sub (by rw [klow_val hk, hV]; omega) (by rw [klow_val hk, hV]; omega), klow_val hk, hV]
  unfold f_X7_round_2
  rw [i64_ofI (by rw [f2]; omega), f2, kfb_nI hk, shlN _ (by omega), lN_add]
  unfold f_X7_round_1
  rw [if_pos (by rw [kinf_lN hk]; exact (lN_le63 (by omega) hI).mpr hN)]
theorem round_12 {k : Nat} (s : Int32) {m : Nat} (h2 : m < 2 ^ 63) {e t V : Int32} {Q : Int} (hV : V.toInt = Q) (he : -6000 ≤ e.toInt ∧ e.toInt ≤ 6000) (hQ : -1100 ≤ Q ∧ Q ≤ 12000) (hQe : e.toInt - Q ≤ 60) (ht : ¬ t = 0 → e.toInt < Q) : f_X7_round_12 k s (lN m) t V (V - e) = f_X7_round_2 k s V (lN (if Q ≤ e.toInt then m * 2 ^ (e.toInt - Q).toNat else rneN m (Q - e.toInt).toNat (decide (¬ t = 0)))) := by
  have h0 : (0 : Int32).toInt = 0 := by decide
  have h63 : (63 : Int32).toInt = 63 := by decide
  have hd : (V - e).toInt = Q - e.toInt := by rw [Kit.i32_sub (by omega) (by omega), hV]
  generalize V - e = d at hd ⊢
  unfold f_X7_round_12
  by_cases hp : Q ≤ e.toInt
  · rw [if_neg (by rw [Int32.lt_iff_toInt_lt, h0]; omega), if_pos hp]
    have e1 : -d = nI (e.toInt - Q).toNat := by
      apply Int32.toInt_inj.mp
      rw [Kit.i32_neg (by omega), nI_toInt (by omega)]
      omega
    rw [e1, shlN m (by omega)]
  · rw [if_pos (by rw [Int32.lt_iff_toInt_lt, h0]; omega), if_neg hp]
    obtain ⟨D, hD⟩ : ∃ D, (Q - e.toInt).toNat = D + 1 := ⟨(Q - e.toInt).toNat - 1, by omega⟩
    have e1 : d = nI (D + 1) := by rw [nI_ofInt (x := d) (by omega), show d.toInt.toNat = D + 1 by omega]
    unfold f_X7_round_11
    rw [hD]
    by_cases h6 : D + 1 ≤ 63
    · rw [if_neg (by rw [Int32.lt_iff_toInt_lt, h63]; omega)]
      have hr : m % 2 ^ (D + 1) ≤ m := Nat.mod_le _ _
      have hq : m / 2 ^ (D + 1) ≤ m := Nat.div_le_self _ _
      have key : f_X7_round_10 k s (lN m) t V d = f_X7_round_8 k s t V (nI (D + 1)) (lN (m / 2 ^ (D + 1))) (lN (m % 2 ^ (D + 1))) := by
        unfold f_X7_round_10 f_X7_round_9
        by_cases h7 : D + 1 = 63
        · have hd63 : d = (63 : Int32) := by rw [e1, h7]; rfl
          rw [if_pos hd63, if_pos hd63, e1, h7, Nat.div_eq_of_lt h2, Nat.mod_eq_of_lt h2]
          rfl
        · have hne : ¬ d = (63 : Int32) := fun h => by rw [h, h63] at hd; omega
          rw [if_neg hne, if_neg hne, e1, shrN h2 (by omega), shlN _ (by omega), lN_sub (Nat.div_mul_le_self _ _)]
          congr 2
          have := Nat.div_add_mod m (2 ^ (D + 1))
          rw [Nat.mul_comm] at this
          omega
      rw [key]
      unfold f_X7_round_8
      rw [nI_pred, bitN _ (by omega)]
      have hP : 2 ^ (D + 1) = 2 * 2 ^ D := by rw [Nat.pow_succ]; omega
      have hD2 : 2 ^ D < 2 ^ 63 := wb_lt2 (by omega)
      unfold rneN rneUp
      rw [hP] at hr hq ⊢
      generalize m % (2 * 2 ^ D) = r at hr ⊢
      generalize m / (2 * 2 ^ D) = q at hq ⊢
      unfold f_X7_round_7
      by_cases c1 : 2 ^ D < r
      · rw [if_pos ((lN_lt63 hD2 (by omega)).mpr c1), decide_eq_true (by omega : 2 * 2 ^ D < 2 * r)]
        unfold f_X7_round_3
        rw [lN_1]
        simp
      · rw [if_neg (fun h => c1 ((lN_lt63 hD2 (by omega)).mp h)), decide_eq_false (by omega : ¬ 2 * 2 ^ D < 2 * r)]
        unfold f_X7_round_6
        by_cases c2 : r = 2 ^ D
        · rw [if_pos ((lN_eq64 (by omega) (by omega)).mpr c2), decide_eq_true (by omega : 2 * r = 2 * 2 ^ D)]
          unfold f_X7_round_5
          by_cases c4 : t = 0
          · rw [if_pos c4, decide_eq_false (by simp [c4])]
            unfold f_X7_round_4
            by_cases c3 : q % 2 = 1
            · rw [if_pos ((odd_iff (by omega)).mpr c3), decide_eq_true c3]
              unfold f_X7_round_3
              rw [lN_1]
              simp
            · rw [if_neg (fun h => c3 ((odd_iff (by omega)).mp h)), decide_eq_false c3]
              simp
          · rw [if_neg c4, decide_eq_true c4]
            unfold f_X7_round_3
            rw [lN_1]
            simp
        · rw [if_neg (fun h => c2 ((lN_eq64 (by omega) (by omega)).mp h)), decide_eq_false (by omega : ¬ 2 * r = 2 * 2 ^ D)]
          simp
    · rw [if_pos (by rw [Int32.lt_iff_toInt_lt, h63]; omega)]
      have h7 : 2 ^ 64 ≤ 2 ^ (D + 1) := Nat.pow_le_pow_right (by decide) (by omega)
      rw [rneN_small (by omega) (by omega)]
      rfl
theorem round_val {k : Nat} (hk : k < 2) (s : Int32) {m : Nat} (h1 : 0 < m) (h2 : m < 2 ^ 63) {e t : Int32} (he : -6000 ≤ e.toInt ∧ e.toInt ≤ 6000) (ht : ¬ t = 0 → e.toInt < rQ k m e.toInt) : f_X7_round k s (lN m) e t = f_X7_signed k (lN (rnd k m e.toInt (decide (¬ t = 0)))) s := by
  have hL := log2_lt h1 h2
  obtain ⟨b1, b2, b3, b4, b5, b6⟩ := k_bounds hk
  have hone : (1 : Int32).toInt = 1 := by decide
  have hle := rnd_le (more := decide (¬ t = 0)) (e := e.toInt) hk h1
  have h3 := roundL (k := k) (s := s) (e := e) (t := t) h1 h2 (m.log2 + 1) 0 (by omega)
  show f_X7_round_L3 k s (lN m) e t (64 - 0) (nI 0) = _
  rw [h3]
  unfold f_X7_round_15
  have a1 : (e + nI (m.log2 + 1)).toInt = e.toInt + ((m.log2 + 1 : Nat) : Int) := by rw [Kit.i32_add (by rw [nI_toInt (by omega)]; omega) (by rw [nI_toInt (by omega)]; omega), nI_toInt (by omega)]
  have a2 : ((e + nI (m.log2 + 1)) - kfb k).toInt = e.toInt + ((m.log2 + 1 : Nat) : Int) - (kfbN k : Int) := by rw [Kit.i32_sub (by rw [a1, kfb_val hk]; omega) (by rw [a1, kfb_val hk]; omega), a1, kfb_val hk]
  have a3 : (((e + nI (m.log2 + 1)) - kfb k) - (1 : Int32)).toInt = e.toInt + (m.log2 : Int) - (kfbN k : Int) := by rw [Kit.i32_sub (by rw [a2, hone]; omega) (by rw [a2, hone]; omega), a2, hone]; omega
  generalize ((e + nI (m.log2 + 1)) - kfb k) - (1 : Int32) = v at a3 ⊢
  obtain ⟨V, hV, hV2⟩ : ∃ V : Int32, V.toInt = rQ k m e.toInt ∧ f_X7_round_14 k s (lN m) e t v = f_X7_round_13 k s (lN m) e t V := by
    unfold f_X7_round_14 rQ
    by_cases c : klow k ≤ v
    · rw [if_pos c]
      rw [Int32.le_iff_toInt_le, klow_val hk] at c
      exact ⟨v, by omega, rfl⟩
    · rw [if_neg c]
      rw [Int32.le_iff_toInt_le, klow_val hk] at c
      exact ⟨klow k, by rw [klow_val hk]; omega, rfl⟩
  rw [hV2]
  have hq0 : klowZ k ≤ rQ k m e.toInt := by unfold rQ; omega
  have hq1 : e.toInt + (m.log2 : Int) - (kfbN k : Int) ≤ rQ k m e.toInt := by unfold rQ; omega
  have hq2 : rQ k m e.toInt ≤ 6100 := by unfold rQ; omega
  unfold f_X7_round_13
  have f2 : (V - klow k).toInt = rQ k m e.toInt - klowZ k := by rw [Kit.i32_sub (by rw [klow_val hk, hV]; omega) (by rw [klow_val hk, hV]; omega), klow_val hk, hV]
  have f3 : (ktop k - (1 : Int32)).toInt = ktopZ k - 1 := by rw [Kit.i32_sub (by rw [ktop_val hk, hone]; omega) (by rw [ktop_val hk, hone]; omega), ktop_val hk, hone]
  by_cases hc : ktopZ k - 1 ≤ rQ k m e.toInt - klowZ k
  · rw [if_neg (by rw [Int32.lt_iff_toInt_lt, f2, f3]; omega)]
    unfold rnd
    rw [if_pos hc, kinf_lN hk]
  · rw [if_pos (by rw [Int32.lt_iff_toInt_lt, f2, f3]; omega), round_12 s h2 hV he (by omega) (by omega) ht]
    unfold rnd at hle ⊢
    rw [if_neg hc] at hle ⊢
    exact round_fin hk s hV hq0 (by omega) hle

