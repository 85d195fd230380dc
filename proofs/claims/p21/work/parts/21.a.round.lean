-- the two roundings, by numbers
theorem nI_subN {a b : Nat} (h : b ≤ a) (ha : a < 2 ^ 31) : nI a - nI b = nI (a - b) := by
  apply Int32.toInt_inj.mp
  rw [Kit.i32_sub (by rw [nI_toInt ha, nI_toInt (by omega)]; omega) (by rw [nI_toInt ha, nI_toInt (by omega)]; omega), nI_toInt ha, nI_toInt (by omega), nI_toInt (by omega)]
  omega
theorem nI_addneg {a b : Nat} (h : b ≤ a) (ha : a < 2 ^ 31) : nI a + -(nI b) = nI (a - b) := by rw [← Int32.sub_eq_add_neg, nI_subN h ha]
theorem ius_amt : ∀ s, s < 32 → ((nI s).toUInt32 &&& Int32.toUInt32 31).toNat = s := by decide +kernel
theorem cast_div (a s : Nat) : ((a : Int) / 2 ^ s) = ((a / 2 ^ s : Nat) : Int) := by
  rw [Int.natCast_ediv]
  simp
theorem ius_val {v s : Nat} (hv : v < 2 ^ 31) (hs : s < 32) : jiushr (nI v) (nI s) = nI (v / 2 ^ s) := by
  apply Int32.toInt_inj.mp
  have hd : v / 2 ^ s < 2 ^ 31 := Nat.lt_of_le_of_lt (Nat.div_le_self _ _) hv
  rw [nI_toInt hd]
  refine (Kit.i32_iushr (nI_pos' hv) (ius_amt s hs) hs).trans ?_
  rw [nI_toInt hv, cast_div]
theorem j6_1 {v c : Nat} (h1 : 1 ≤ v) (h2 : v < 4) (hc : 1 ≤ c) (hc2 : c < 100) : f_J6_numberOfLeadingZeros_0f7a4_1 (nI v) (nI c) = nI (c - v.log2) := by
  show nI c - jiushr (nI v) (nI 1) = _
  rw [ius_val (by omega) (by decide)]
  have hl : v / 2 ^ 1 = v.log2 := by
    rcases (by omega : v = 1 ∨ v = 2 ∨ v = 3) with rfl | rfl | rfl <;> decide
  rw [hl, nI_subN (by omega) (by omega)]
theorem j6_2 {v c : Nat} (h1 : 1 ≤ v) (h2 : v < 16) (hc : 3 ≤ c) (hc2 : c < 100) : f_J6_numberOfLeadingZeros_0f7a4_2 (nI v) (nI c) = nI (c - v.log2) := by
  unfold f_J6_numberOfLeadingZeros_0f7a4_2
  by_cases h : v < 4
  · rw [if_pos (show nI v < (4 : Int32) from nI_lt (b := 4) h (by decide))]; exact j6_1 h1 h (by omega) hc2
  · rw [if_neg (show ¬ nI v < (4 : Int32) from nI_nlt (b := 4) (by omega) (by omega))]
    show f_J6_numberOfLeadingZeros_0f7a4_1 (jiushr (nI v) (nI 2)) (nI c + -(nI 2)) = _
    rw [ius_val (by omega) (by decide), nI_addneg (by omega) (by omega), j6_1 (by omega) (by omega) (by omega) (by omega), log2_div (m := v) (s := 2) (by omega)]
    congr 1; omega
theorem j6_3 {v c : Nat} (h1 : 1 ≤ v) (h2 : v < 256) (hc : 7 ≤ c) (hc2 : c < 100) : f_J6_numberOfLeadingZeros_0f7a4_3 (nI v) (nI c) = nI (c - v.log2) := by
  unfold f_J6_numberOfLeadingZeros_0f7a4_3
  by_cases h : v < 16
  · rw [if_pos (show nI v < (16 : Int32) from nI_lt (b := 16) h (by decide))]; exact j6_2 h1 h (by omega) hc2
  · rw [if_neg (show ¬ nI v < (16 : Int32) from nI_nlt (b := 16) (by omega) (by omega))]
    show f_J6_numberOfLeadingZeros_0f7a4_2 (jiushr (nI v) (nI 4)) (nI c + -(nI 4)) = _
    rw [ius_val (by omega) (by decide), nI_addneg (by omega) (by omega), j6_2 (by omega) (by omega) (by omega) (by omega), log2_div (m := v) (s := 4) (by omega)]
    congr 1; omega
theorem j6_4 {v c : Nat} (h1 : 1 ≤ v) (h2 : v < 65536) (hc : 15 ≤ c) (hc2 : c < 100) : f_J6_numberOfLeadingZeros_0f7a4_4 (nI v) (nI c) = nI (c - v.log2) := by
  unfold f_J6_numberOfLeadingZeros_0f7a4_4
  by_cases h : v < 256
  · rw [if_pos (show nI v < (256 : Int32) from nI_lt (b := 256) h (by decide))]; exact j6_3 h1 h (by omega) hc2
  · rw [if_neg (show ¬ nI v < (256 : Int32) from nI_nlt (b := 256) (by omega) (by omega))]
    show f_J6_numberOfLeadingZeros_0f7a4_3 (jiushr (nI v) (nI 8)) (nI c + -(nI 8)) = _
    rw [ius_val (by omega) (by decide), nI_addneg (by omega) (by omega), j6_3 (by omega) (by omega) (by omega) (by omega), log2_div (m := v) (s := 8) (by omega)]
    congr 1; omega
theorem j6_val {v : Nat} (h1 : 1 ≤ v) (h2 : v < 2 ^ 31) : f_J6_numberOfLeadingZeros_0f7a4 (nI v) = nI (31 - v.log2) := by
  unfold f_J6_numberOfLeadingZeros_0f7a4 f_J6_numberOfLeadingZeros_0f7a4_7
  rw [if_pos (show (0 : Int32) < nI v from nI_lt (a := 0) (by omega) h2)]
  unfold f_J6_numberOfLeadingZeros_0f7a4_5
  by_cases h : v < 65536
  · rw [if_pos (show nI v < (65536 : Int32) from nI_lt (b := 65536) h (by decide))]; exact j6_4 (c := 31) h1 h (by omega) (by omega)
  · rw [if_neg (show ¬ nI v < (65536 : Int32) from nI_nlt (b := 65536) (by omega) (by omega))]
    show f_J6_numberOfLeadingZeros_0f7a4_4 (jiushr (nI v) (nI 16)) (nI 31 + -(nI 16)) = _
    rw [ius_val (by omega) (by decide), nI_addneg (by omega) (by omega), j6_4 (by omega) (by omega) (by omega) (by omega), log2_div (m := v) (s := 16) (by omega)]
    congr 1; omega
theorem log2_lt {m n : Nat} (h : 0 < m) (h2 : m < 2 ^ n) : m.log2 < n := by
  rcases Nat.lt_or_ge m.log2 n with h3 | h3
  · exact h3
  · have h4 := log2_lo h
    have h5 := Nat.pow_le_pow_right (show 0 < 2 by decide) h3
    omega
theorem j13_val {m : Nat} (h1 : 0 < m) (h2 : m < 2 ^ 63) : f_J13_numberOfLeadingZeros_95d88 (lN m) = nI (63 - m.log2) := by
  unfold f_J13_numberOfLeadingZeros_95d88 f_J13_numberOfLeadingZeros_95d88_1
  have e : (jlushr (lN m) (32 : Int32)).toInt32 = nI (m / 2 ^ 32) := by
    rw [show jlushr (lN m) (32 : Int32) = lN (m / 2 ^ 32) from wb_shr (k := 32) (by omega) (by decide), lN_i]
  rw [e]
  by_cases h : m < 2 ^ 32
  · rw [show m / 2 ^ 32 = 0 from Nat.div_eq_of_lt h, if_pos (show nI 0 = 0 from nI_0), lN_i]
    by_cases h3 : m < 2 ^ 31
    · have h4 := log2_lt h1 h3
      rw [j6_val h1 h3]
      show nI 32 + nI _ = _
      rw [nI_add]
      congr 1; omega
    · have hL : m.log2 = 31 := log2_is (by omega) (by omega)
      have ht : (nI m).toInt < 0 := by
        show (BitVec.ofNat 32 m).toInt < 0
        rw [BitVec.toInt_eq_toNat_cond, BitVec.toNat_ofNat, Nat.mod_eq_of_lt h]
        split <;> omega
      have h0 : (0 : Int32).toInt = 0 := by decide
      unfold f_J6_numberOfLeadingZeros_0f7a4 f_J6_numberOfLeadingZeros_0f7a4_7 f_J6_numberOfLeadingZeros_0f7a4_6
      rw [if_neg (by rw [Int32.lt_iff_toInt_lt, h0]; omega), if_neg (fun hz => by rw [hz, h0] at ht; omega), hL]
      rfl
  · have h5 : m / 2 ^ 32 < 2 ^ 31 := by omega
    have h6 : 0 < m / 2 ^ 32 := by omega
    rw [if_neg (nI_ne0 h6 h5), j6_val h6 h5, log2_div (m := m) (s := 32) h6]
    congr 1; omega
theorem lN_lt63 {a b : Nat} (ha : a < 2 ^ 63) (hb : b < 2 ^ 63) : lN a < lN b ↔ a < b := by
  rw [Int64.lt_iff_toInt_lt, pf_lI ha, pf_lI hb]; omega
theorem lN_le63 {a b : Nat} (ha : a < 2 ^ 63) (hb : b < 2 ^ 63) : lN a ≤ lN b ↔ a ≤ b := by
  rw [Int64.le_iff_toInt_le, pf_lI ha, pf_lI hb]; omega
theorem lN_eq64 {a b : Nat} (ha : a < 2 ^ 64) (hb : b < 2 ^ 64) : lN a = lN b ↔ a = b := by
  constructor
  · intro h
    have := congrArg (fun z : Int64 => z.toBitVec.toNat) h
    simpa [wb_tn ha, wb_tn hb] using this
  · intro h; rw [h]
theorem shlN (n : Nat) {k : Nat} (hk : k < 64) : jlshl (lN n) (nI k) = lN (n * 2 ^ k) := wb_shl n hk
theorem ushrN {n k : Nat} (hn : n < 2 ^ 64) (hk : k < 64) : jlushr (lN n) (nI k) = lN (n / 2 ^ k) := wb_shr hn hk
theorem shrN {n k : Nat} (hn : n < 2 ^ 63) (hk : k < 64) : jlshr (lN n) (nI k) = lN (n / 2 ^ k) := by
  apply Int64.toInt_inj.mp
  have hd : n / 2 ^ k < 2 ^ 63 := Nat.lt_of_le_of_lt (Nat.div_le_self _ _) hn
  rw [shr_val _ (nI_toInt (by omega)) hk, pf_lI hn, pf_lI hd, cast_div]
theorem bitN : ∀ d, d < 64 → jlshl (1 : Int64) (nI d) = lN (2 ^ d) := by decide +kernel
theorem maskN : ∀ d, d < 64 → jlshl (1 : Int64) (nI d) - 1 = lN (2 ^ d - 1) := by decide +kernel
theorem odd_iff {n : Nat} (hn : n < 2 ^ 64) : (lN n &&& (1 : Int64)) = (1 : Int64) ↔ n % 2 = 1 := by
  rw [wb_a1 hn]
  exact lN_eq64 (a := n % 2) (b := 1) (by omega) (by decide)
theorem withoutLast_def (a : Int64) (b : Int32) : f_X1_withoutLast a b = if 0 < b then (if b ≤ (63 : Int32) then (if jlshl (1 : Int64) (b - (1 : Int32)) < a &&& (jlshl (1 : Int64) b - (1 : Int64)) then jlushr a b + (1 : Int64) else if a &&& (jlshl (1 : Int64) b - (1 : Int64)) = jlshl (1 : Int64) (b - (1 : Int32)) then (if jlushr a b &&& (1 : Int64) = (1 : Int64) then jlushr a b + (1 : Int64) else jlushr a b) else jlushr a b) else (0 : Int64)) else jlshl a (-b) := rfl
theorem nI_ofInt {x : Int32} (h : 0 ≤ x.toInt) : x = nI x.toInt.toNat := by
  have := x.toInt_lt
  exact Int32.toInt_inj.mp (by rw [nI_toInt (by omega)]; omega)
theorem withoutLast_val {m : Nat} (hm : m < 2 ^ 63) {d : Int32} (hd : -63 ≤ d.toInt) : f_X1_withoutLast (lN m) d = lN (if d.toInt ≤ 0 then m * 2 ^ (-d.toInt).toNat else rneN m d.toInt.toNat false) := by
  have h0 : (0 : Int32).toInt = 0 := by decide
  have h63 : (63 : Int32).toInt = 63 := by decide
  rw [withoutLast_def]
  by_cases hp : d.toInt ≤ 0
  · rw [if_neg (by rw [Int32.lt_iff_toInt_lt, h0]; omega), if_pos hp]
    have e : -d = nI (-d.toInt).toNat := by
      apply Int32.toInt_inj.mp
      rw [Kit.i32_neg (by omega), nI_toInt (by omega)]
      omega
    rw [e]
    exact shlN m (by omega)
  · rw [if_pos (by rw [Int32.lt_iff_toInt_lt, h0]; omega), if_neg hp]
    obtain ⟨D, hD⟩ : ∃ D, d.toInt.toNat = D + 1 := ⟨d.toInt.toNat - 1, by omega⟩
    have e : d = nI (D + 1) := by rw [nI_ofInt (x := d) (by omega), hD]
    have hlt : d.toInt < 2147483648 := d.toInt_lt
    by_cases h6 : d.toInt ≤ 63
    · rw [if_pos (by rw [Int32.le_iff_toInt_le, h63]; omega), hD, e, nI_pred]
      have hD63 : D + 1 < 64 := by omega
      rw [maskN _ hD63, bitN _ (by omega), ushrN (by omega) hD63, wb_mask (by omega) hD63]
      have hP : 2 ^ (D + 1) = 2 * 2 ^ D := by rw [Nat.pow_succ]; omega
      have hr : m % 2 ^ (D + 1) ≤ m := Nat.mod_le _ _
      have hq : m / 2 ^ (D + 1) ≤ m := Nat.div_le_self _ _
      have hD2 : 2 ^ D < 2 ^ 63 := wb_lt2 (by omega)
      unfold rneN rneUp
      rw [hP] at hr hq ⊢
      generalize m % (2 * 2 ^ D) = r at hr ⊢
      generalize m / (2 * 2 ^ D) = q at hq ⊢
      by_cases c1 : 2 ^ D < r
      · rw [if_pos ((lN_lt63 hD2 (by omega)).mpr c1), decide_eq_true (by omega : 2 * 2 ^ D < 2 * r), lN_1]
        simp
      · rw [if_neg (fun h => c1 ((lN_lt63 hD2 (by omega)).mp h)), decide_eq_false (by omega : ¬ 2 * 2 ^ D < 2 * r)]
        by_cases c2 : r = 2 ^ D
        · rw [if_pos ((lN_eq64 (by omega) (by omega)).mpr c2), decide_eq_true (by omega : 2 * r = 2 * 2 ^ D)]
          by_cases c3 : q % 2 = 1
          · rw [if_pos ((odd_iff (by omega)).mpr c3), decide_eq_true c3, lN_1]
            simp
          · rw [if_neg (fun h => c3 ((odd_iff (by omega)).mp h)), decide_eq_false c3]
            simp
        · rw [if_neg (fun h => c2 ((lN_eq64 (by omega) (by omega)).mp h)), decide_eq_false (by omega : ¬ 2 * r = 2 * 2 ^ D)]
          simp
    · rw [if_neg (by rw [Int32.le_iff_toInt_le, h63]; omega), hD]
      have h7 : 2 ^ 64 ≤ 2 ^ (D + 1) := Nat.pow_le_pow_right (by decide) (by omega)
      rw [rneN_small (by omega) (by omega)]
      rfl
theorem jmaxI_val (x y : Int32) : (jmaxI x y).toInt = max x.toInt y.toInt := by
  unfold jmaxI
  split <;> rename_i h <;> rw [Int32.lt_iff_toInt_lt] at h <;> omega
theorem klow_val {k : Nat} (hk : k < 2) : (klow k).toInt = klowZ k := by
  rcases two_of hk with rfl | rfl <;> decide +kernel
theorem ktop_val {k : Nat} (hk : k < 2) : (ktop k).toInt = ktopZ k := by
  rcases two_of hk with rfl | rfl <;> decide +kernel
theorem kinf_lN {k : Nat} (hk : k < 2) : kinf k = lN (kinfN k) := by
  rcases two_of hk with rfl | rfl <;> decide +kernel
theorem kfb_nI {k : Nat} (hk : k < 2) : kfb k = nI (kfbN k) := by
  rcases two_of hk with rfl | rfl <;> decide +kernel
theorem k_bounds {k : Nat} (hk : k < 2) : -1074 ≤ klowZ k ∧ klowZ k ≤ -149 ∧ 255 ≤ ktopZ k ∧ ktopZ k ≤ 2047 ∧ 23 ≤ kfbN k ∧ kfbN k ≤ 52 := by
  rcases two_of hk with rfl | rfl <;> decide
theorem i64_ofI {x : Int32} (h : 0 ≤ x.toInt) : x.toInt64 = lN x.toInt.toNat := by
  have := x.toInt_lt
  apply Int64.toInt_inj.mp
  rw [Int32.toInt_toInt64, pf_lI (by omega)]
  omega
theorem rounded_def (i : Nat) (x0 : Int32) (x1 : Int64) (x2 : Int32) : f_X1_rounded i x0 x1 x2 = if x1 = (0 : Int64) then f_X1_signed i x0 (0 : Int64) else (fun d : Int32 => if (x2 + d) - klow i < ktop i - (1 : Int32) then f_X1_signed i x0 (jlshl (((x2 + d) - klow i).toInt64) (kfb i) + f_X1_withoutLast x1 d) else f_X1_signed i x0 (kinf i)) (jmaxI ((((64 : Int32) - (f_J13_numberOfLeadingZeros_95d88 x1)) - (1 : Int32)) - (kfb i)) ((klow i) - x2)) := rfl
theorem rounded_val {i : Nat} (hi : i < 2) (s : Int32) {m : Nat} (h1 : 0 < m) (h2 : m < 2 ^ 63) {e : Int32} (he : -6000 ≤ e.toInt ∧ e.toInt ≤ 6000) : f_X1_rounded i s (lN m) e = f_X1_signed i s (lN (rnd i m e.toInt false)) := by
  have hL := log2_lt h1 h2
  obtain ⟨b1, b2, b3, b4, b5, b6⟩ := k_bounds hi
  have hone : (1 : Int32).toInt = 1 := by decide
  rw [rounded_def, if_neg (fun h => by have := (lN_eq64 (a := m) (b := 0) (by omega) (by decide)).mp h; omega)]
  have t1 : ((((64 : Int32) - (f_J13_numberOfLeadingZeros_95d88 (lN m))) - (1 : Int32)) - (kfb i)).toInt = (m.log2 : Int) - (kfbN i : Int) := by
    rw [j13_val h1 h2, show (64 : Int32) - nI (63 - m.log2) = nI (m.log2 + 1) from by
      rw [show (64 : Int32) = nI 64 from rfl, nI_subN (by omega) (by decide)]; congr 1; omega, nI_pred]
    rw [Kit.i32_sub (by rw [nI_toInt (by omega), kfb_val hi]; omega) (by rw [nI_toInt (by omega), kfb_val hi]; omega), nI_toInt (by omega), kfb_val hi]
  have t2 : (klow i - e).toInt = klowZ i - e.toInt := by rw [Kit.i32_sub (by rw [klow_val hi]; omega) (by rw [klow_val hi]; omega), klow_val hi]
  have hd := jmaxI_val ((((64 : Int32) - (f_J13_numberOfLeadingZeros_95d88 (lN m))) - (1 : Int32)) - (kfb i)) (klow i - e)
  rw [t1, t2] at hd
  generalize jmaxI ((((64 : Int32) - (f_J13_numberOfLeadingZeros_95d88 (lN m))) - (1 : Int32)) - (kfb i)) (klow i - e) = d at hd ⊢
  have hq : rQ i m e.toInt = e.toInt + d.toInt := by unfold rQ; omega
  show (if (e + d) - klow i < ktop i - (1 : Int32) then _ else _) = _
  have f1 : (e + d).toInt = e.toInt + d.toInt := Kit.i32_add (by omega) (by omega)
  have f2 : ((e + d) - klow i).toInt = e.toInt + d.toInt - klowZ i := by rw [Kit.i32_sub (by rw [klow_val hi, f1]; omega) (by rw [klow_val hi, f1]; omega), klow_val hi, f1]
  have f3 : (ktop i - (1 : Int32)).toInt = ktopZ i - 1 := by rw [Kit.i32_sub (by rw [ktop_val hi, hone]; omega) (by rw [ktop_val hi, hone]; omega), ktop_val hi, hone]
  unfold rnd
  rw [hq]
  by_cases hc : ktopZ i - 1 ≤ e.toInt + d.toInt - klowZ i
  · rw [if_neg (by rw [Int32.lt_iff_toInt_lt, f2, f3]; omega), if_pos hc, kinf_lN hi]
  · rw [if_pos (by rw [Int32.lt_iff_toInt_lt, f2, f3]; omega), if_neg hc, i64_ofI (by rw [f2]; omega), f2, kfb_nI hi, shlN _ (by omega), withoutLast_val h2 (by omega), lN_add]
    congr 3
    by_cases hp : d.toInt ≤ 0
    · rw [if_pos hp, if_pos (by omega)]
      congr 2; omega
    · rw [if_neg hp, if_neg (by omega)]
      congr 1; omega

