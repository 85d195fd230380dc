-- whole numbers: class and reference by numbers
section WHOLE
variable {k : Nat} {s t : Bool} {u v : Nat} {x y : Int64} {w : Int32}
/-- a whole number rounded, of the reference: 0 has the sign told -/
theorem wholeOf_1_val (hk : k < 2) {m : Nat} (hm : m < 2 ^ 63) : f_X7_wholeOf_1 k (bI s) (lN m) = f_X2_toWhole_1 k (bI s) (lN m) ∧ kcn k (f_X7_wholeOf_1 k (bI s) (lN m)) := by
  have hz : (0 : Int32).toInt = 0 := by decide
  unfold f_X7_wholeOf_1 f_X2_toWhole_1
  by_cases h : m = 0
  · rw [h, if_pos (show lN 0 = (0 : Int64) from rfl), sg7_0 hk, rounded_0 hk]
    exact ⟨rfl, kcn_enc hk (Nat.zero_le _)⟩
  · rw [if_neg (fun h2 => h ((lN0 (by omega)).mp h2)), mod_round hk (by omega) hm hz (by omega) (fun h2 => absurd rfl h2), cls_round hk (by omega) hm hz (by omega)]
    exact ⟨rfl, kcn_enc hk (rnd_le hk (by omega))⟩
def wUp (w : Int32) (s : Bool) (q r d : Nat) : Bool := if w = 5 then decide (2 ^ (d - 1) < r) || (decide (r = 2 ^ (d - 1)) && decide (q % 2 = 1)) else decide (¬ r = 0) && (if w = 3 then s else !s)
def wFin (k : Nat) (w : Int32) (s : Bool) (q r d : Nat) : Int64 := f_X2_toWhole_1 k (bI s) (lN (if wUp w s q r d = true then q + 1 else q))
theorem toWhole_12_val (hw : w = 3 ∨ w = 4 ∨ w = 5) {q r d : Nat} (hq : q < 2 ^ 63) (hr : r < 2 ^ 63) (hd : d < 63) : f_X2_toWhole_12 k w (bI s) (nI (d + 1)) (lN q) (lN r) = wFin k w s q r (d + 1) := by
  unfold f_X2_toWhole_12 wFin wUp
  have n1 : ¬ (1 : Int32) = 0 := by decide
  by_cases h5 : w = 5
  · rw [if_pos h5, if_pos h5]
    unfold f_X2_toWhole_11 f_X2_toWhole_10 f_X2_toWhole_9 f_X2_toWhole_8 f_X2_toWhole_7 f_X2_toWhole_2
    rw [nI_pred, bitN _ (by omega), Nat.add_sub_cancel]
    have hp2 : 2 ^ d < 2 ^ 63 := wb_lt2 hd
    by_cases c1 : 2 ^ d < r
    · rw [if_pos ((lN_lt63 hp2 hr).mpr c1), if_neg n1, decide_eq_true c1, Bool.true_or, if_pos rfl, lN_1]
    · rw [if_neg (fun h => c1 ((lN_lt63 hp2 hr).mp h)), decide_eq_false c1, Bool.false_or]
      by_cases c2 : r = 2 ^ d
      · rw [if_pos (by rw [c2]), decide_eq_true c2, Bool.true_and]
        by_cases c3 : q % 2 = 1
        · rw [if_pos ((odd_iff (by omega)).mpr c3), if_neg n1, decide_eq_true c3, if_pos rfl, lN_1]
        · rw [if_neg (fun h => c3 ((odd_iff (by omega)).mp h)), if_pos rfl, decide_eq_false c3, if_neg (by decide)]
      · rw [if_neg (fun h => c2 ((lN_eq64 (by omega) (by omega)).mp h)), if_pos rfl, decide_eq_false c2, Bool.false_and, if_neg (by decide)]
  · rw [if_neg h5, if_neg h5]
    unfold f_X2_toWhole_6 f_X2_toWhole_5 f_X2_toWhole_4 f_X2_toWhole_3 f_X2_toWhole_2
    by_cases hr0 : r = 0
    · rw [if_pos (show lN r = (0 : Int64) by rw [hr0]; rfl), if_pos rfl, decide_eq_false (show ¬ ¬ r = 0 by simp [hr0]), Bool.false_and, if_neg (by decide)]
    · rw [if_neg (fun h => hr0 ((lN0 (by omega)).mp h)), decide_eq_true hr0, Bool.true_and]
      by_cases h3 : w = 3
      · rw [if_pos h3, if_pos h3]
        cases s
        · rw [if_neg (show ¬ bI false = 1 by decide), if_pos rfl, if_neg (by decide)]
        · rw [if_pos (show bI true = 1 from rfl), if_neg n1, if_pos rfl, lN_1]
      · rw [if_neg h3, if_neg h3]
        cases s
        · rw [if_pos (show bI false = 0 from rfl), if_neg n1, if_pos (show (!false) = true from rfl), lN_1]
        · rw [if_neg (show ¬ bI true = 0 by decide), if_pos rfl, if_neg (by decide)]
theorem w16_val (hw : w = 3 ∨ w = 4 ∨ w = 5) (V6 : Int64) (V8 : Int32) (W4 : Int64) (c : Int32) : f_X7_wholeOf_16 k w (bI s) V6 V8 W4 c = f_X7_wholeOf_9 k w (bI s) V6 V8 W4 (if c = 0 then 0 else bI (if w = 5 then false else if w = 3 then s else !s)) := by
  unfold f_X7_wholeOf_16 f_X7_wholeOf_15 f_X7_wholeOf_14 f_X7_wholeOf_13 f_X7_wholeOf_12 f_X7_wholeOf_11 f_X7_wholeOf_10
  by_cases hc : c = 0
  · rw [if_pos hc, if_pos hc]
  · rw [if_neg hc, if_neg hc]
    have a34 : ¬ (3 : Int32) = 4 := by decide
    have a35 : ¬ (3 : Int32) = 5 := by decide
    have a43 : ¬ (4 : Int32) = 3 := by decide
    have a45 : ¬ (4 : Int32) = 5 := by decide
    have a53 : ¬ (5 : Int32) = 3 := by decide
    have a54 : ¬ (5 : Int32) = 4 := by decide
    have t0 : ¬ bI true = 0 := by decide
    rcases hw with rfl | rfl | rfl
    · rw [if_pos (Eq.refl (3 : Int32)), if_neg a34, if_neg a35, if_pos (Eq.refl (3 : Int32))]
      cases s
      · rw [if_pos (show bI false = 0 from rfl), bI_f]
      · rw [if_neg t0, bI_t]
    · rw [if_neg a43, if_pos (Eq.refl (4 : Int32)), if_neg a45, if_neg a43]
      cases s
      · rw [if_pos (show bI false = 0 from rfl), Bool.not_false, bI_t]
      · rw [if_neg t0, Bool.not_true, bI_f]
    · rw [if_neg a53, if_neg a54, if_pos (Eq.refl (5 : Int32)), bI_f]
theorem w2_val (b : Bool) {q : Nat} : f_X7_wholeOf_2 k (bI s) (lN q) (bI b) = f_X7_wholeOf_1 k (bI s) (lN (if b = true then q + 1 else q)) := by
  unfold f_X7_wholeOf_2
  cases b
  · rw [if_pos (show bI false = 0 from rfl), if_neg (by decide)]
  · rw [if_neg (show ¬ bI true = 0 by decide), if_pos rfl, lN_1]
theorem whole_fin (hk : k < 2) (hw : w = 3 ∨ w = 4 ∨ w = 5) (hu0 : 0 < u) (hu : u < kinfN k) (hn : expZ k u < 0) : f_X2_toWhole_15 k (enc k s u) w (f_X1_exponent k (enc k s u)) = f_X7_wholeOf_21 k (enc k s u) w ∧ kcn k (f_X7_wholeOf_21 k (enc k s u) w) := by
  have hwu := kw hk (show u ≤ kinfN k by omega)
  have hru := exp_rng hk (show u ≤ kinfN k by omega)
  obtain ⟨i, hi0, hi1, hi2, hi3, hmu, hpu⟩ := mp_val (s := s) hk hu0 (show u ≤ kinfN k by omega)
  obtain ⟨b1, b2, b3, b4, b5, b6⟩ := k_bounds hk
  have hsu := sig_pos (k := k) hu0
  have hlu := sig_lt (u := u) hk
  have hfp : 2 ^ (kfbN k + 1) ≤ 2 ^ 53 := Nat.pow_le_pow_right (by decide) (by omega)
  have p53 : (2 : Nat) ^ 53 = 9007199254740992 := rfl
  have p62 : (2 : Nat) ^ 62 = 4611686018427387904 := rfl
  have p61 : (2 : Nat) ^ 61 = 2305843009213693952 := rfl
  have hz : (0 : Int32).toInt = 0 := by decide
  have h62 : (62 : Int32).toInt = 62 := by decide
  have e1 := exp_enc (s := s) hk hwu
  -- class
  obtain ⟨d, hd⟩ : ∃ d : Nat, ((d + 1 : Nat) : Int) = min (-(expZ k u)) 62 := ⟨(min (-(expZ k u)) 62).toNat - 1, by omega⟩
  have kec : f_X2_toWhole_15 k (enc k s u) w (f_X1_exponent k (enc k s u)) = wFin k w s (sigN k u / 2 ^ (d + 1)) (sigN k u % 2 ^ (d + 1)) (d + 1) := by
    unfold f_X2_toWhole_15
    rw [if_pos (by rw [Int32.lt_iff_toInt_lt, hz, e1]; exact hn)]
    have en : (-(f_X1_exponent k (enc k s u))).toInt = -(expZ k u) := by rw [Kit.i32_neg (by omega), e1]
    have em := jminI_val (-(f_X1_exponent k (enc k s u))) 62
    rw [en, h62, ← hd] at em
    have em2 : jminI (-(f_X1_exponent k (enc k s u))) 62 = nI (d + 1) := Int32.toInt_inj.mp (by rw [em, nI_toInt (by omega)])
    unfold f_X2_toWhole_14 f_X2_toWhole_13
    have hq : sigN k u / 2 ^ (d + 1) ≤ sigN k u := Nat.div_le_self _ _
    have hr : sigN k u % 2 ^ (d + 1) ≤ sigN k u := Nat.mod_le _ _
    have hdm := Nat.div_add_mod' (sigN k u) (2 ^ (d + 1))
    rw [em2, neg_enc hk hwu, sig_enc hk hwu, ushrN (by omega) (by omega), shlN _ (by omega), lN_sub (by omega), show sigN k u - sigN k u / 2 ^ (d + 1) * 2 ^ (d + 1) = sigN k u % 2 ^ (d + 1) by omega]
    exact toWhole_12_val hw (by omega) (by omega) (by omega)
  -- reference
  obtain ⟨S, hS⟩ : ∃ S : Nat, (S : Int) = -(expZ k u) + (i : Int) := ⟨(-(expZ k u) + (i : Int)).toNat, by omega⟩
  have eS : -(f_X7_power k (enc k s u)) = nI S := Int32.toInt_inj.mp (by rw [Kit.i32_neg (by omega), hpu, nI_toInt (by omega)]; omega)
  have kem : f_X7_wholeOf_21 k (enc k s u) w = f_X7_wholeOf_1 k (bI s) (lN (if wUp w s (sigN k u / 2 ^ (d + 1)) (sigN k u % 2 ^ (d + 1)) (d + 1) = true then sigN k u / 2 ^ (d + 1) + 1 else sigN k u / 2 ^ (d + 1))) := by
    unfold f_X7_wholeOf_21
    rw [if_pos (by rw [Int32.lt_iff_toInt_lt, hz, hpu]; omega), eS, hmu, min_enc hk hwu]
    unfold f_X7_wholeOf_20
    by_cases h : -(expZ k u) ≤ 62
    · have hi : i = 0 := by
        rcases hi0 with h2 | h2
        · exact h2
        · omega
      have hSd : S = d + 1 := by omega
      rw [hi, hSd, Nat.pow_zero, Nat.mul_one]
      generalize hQ : sigN k u / 2 ^ (d + 1) = Q
      generalize hR : sigN k u % 2 ^ (d + 1) = R
      have hq : Q ≤ sigN k u := by rw [← hQ]; exact Nat.div_le_self _ _
      have hr : R ≤ sigN k u := by rw [← hR]; exact Nat.mod_le _ _
      have hdm := Nat.div_add_mod' (sigN k u) (2 ^ (d + 1))
      rw [hQ, hR] at hdm
      rw [if_pos (show nI (d + 1) ≤ (62 : Int32) from nI_le (b := 62) (by omega) (by decide)), shrN (by omega) (by omega), hQ]
      unfold f_X7_wholeOf_19
      rw [if_neg (show ¬ (62 : Int32) < nI (d + 1) from nI_nlt (a := 62) (by omega) (by decide))]
      unfold f_X7_wholeOf_18 f_X7_wholeOf_17
      rw [shlN _ (by omega), w16_val hw, w16_val hw]
      have hrest : lN (sigN k u) - lN (Q * 2 ^ (d + 1)) = lN R := by rw [lN_sub (by omega)]; congr 1; omega
      have h9 : ∀ b : Bool, f_X7_wholeOf_9 k w (bI s) (lN (sigN k u)) (nI (d + 1)) (lN Q) (bI b) = f_X7_wholeOf_1 k (bI s) (lN (if (if w = 5 then decide (2 ^ d < R) || (decide (R = 2 ^ d) && decide (Q % 2 = 1)) else b) = true then Q + 1 else Q)) := by
        intro b
        unfold f_X7_wholeOf_9
        by_cases h5 : w = 5
        · rw [if_pos h5, if_pos h5]
          unfold f_X7_wholeOf_8
          rw [if_neg (show ¬ (62 : Int32) < nI (d + 1) from nI_nlt (a := 62) (by omega) (by decide)), nI_pred, bitN _ (by omega), shlN _ (by omega), hrest]
          have hp2 : 2 ^ d < 2 ^ 63 := wb_lt2 (by omega)
          unfold f_X7_wholeOf_7 f_X7_wholeOf_6 f_X7_wholeOf_5 f_X7_wholeOf_4 f_X7_wholeOf_3
          have w0 := w2_val (k := k) (s := s) false (q := Q)
          have w1 := w2_val (k := k) (s := s) true (q := Q)
          rw [if_neg (by decide)] at w0
          rw [if_pos rfl] at w1
          have w0' : f_X7_wholeOf_2 k (bI s) (lN Q) (0 : Int32) = f_X7_wholeOf_1 k (bI s) (lN Q) := w0
          have w1' : f_X7_wholeOf_2 k (bI s) (lN Q) (1 : Int32) = f_X7_wholeOf_1 k (bI s) (lN (Q + 1)) := w1
          rw [w0', w1']
          by_cases c1 : 2 ^ d < R
          · rw [if_pos ((lN_lt63 hp2 (by omega)).mpr c1), decide_eq_true c1, Bool.true_or, if_pos rfl]
          · rw [if_neg (fun h => c1 ((lN_lt63 hp2 (by omega)).mp h)), decide_eq_false c1, Bool.false_or]
            by_cases c2 : R = 2 ^ d
            · rw [if_pos (by rw [c2]), decide_eq_true c2, Bool.true_and]
              by_cases c3 : Q % 2 = 1
              · rw [if_pos ((odd_iff (by omega)).mpr c3), decide_eq_true c3, if_pos rfl]
              · rw [if_neg (fun h => c3 ((odd_iff (by omega)).mp h)), decide_eq_false c3, if_neg (by decide)]
            · rw [if_neg (fun h => c2 ((lN_eq64 (by omega) (by omega)).mp h)), decide_eq_false c2, Bool.false_and, if_neg (by decide)]
        · rw [if_neg h5, if_neg h5]
          exact w2_val b
      have hB : ∀ b : Bool, (if w = 5 then decide (2 ^ d < R) || (decide (R = 2 ^ d) && decide (Q % 2 = 1)) else b) = wUp w s Q R (d + 1) → f_X7_wholeOf_9 k w (bI s) (lN (sigN k u)) (nI (d + 1)) (lN Q) (bI b) = f_X7_wholeOf_1 k (bI s) (lN (if wUp w s Q R (d + 1) = true then Q + 1 else Q)) := fun b hb => by rw [h9, hb]
      by_cases hr0 : R = 0
      · rw [if_pos (by congr 1; omega), if_pos rfl]
        refine hB false ?_
        unfold wUp
        by_cases h5 : w = 5
        · rw [if_pos h5, if_pos h5]; rfl
        · rw [if_neg h5, if_neg h5, decide_eq_false (show ¬ ¬ R = 0 by simp [hr0]), Bool.false_and]
      · rw [if_neg (fun h => hr0 (by have := (lN_eq64 (by omega) (by omega)).mp h; omega)), if_neg (by decide)]
        refine hB _ ?_
        unfold wUp
        by_cases h5 : w = 5
        · rw [if_pos h5, if_pos h5]; rfl
        · rw [if_neg h5, if_neg h5, if_neg h5, decide_eq_true hr0, Bool.true_and]
    · have hd62 : d + 1 = 62 := by omega
      have hS62 : 62 < S := by omega
      rw [hd62, Nat.div_eq_of_lt (show sigN k u < 2 ^ 62 by omega), Nat.mod_eq_of_lt (show sigN k u < 2 ^ 62 by omega)]
      rw [if_neg (show ¬ nI S ≤ (62 : Int32) from nI_ge (b := S) (a := 62) (by omega) (by omega))]
      unfold f_X7_wholeOf_19
      rw [if_pos (show (62 : Int32) < nI S from nI_lt (a := 62) (by omega) (by omega))]
      unfold f_X7_wholeOf_17
      rw [w16_val hw, if_neg (by decide)]
      unfold f_X7_wholeOf_9 f_X7_wholeOf_8
      rw [if_pos (show (62 : Int32) < nI S from nI_lt (a := 62) (by omega) (by omega))]
      have e0 : (0 : Int64) = lN 0 := rfl
      rw [e0, w2_val]
      unfold wUp
      by_cases h5 : w = 5
      · rw [if_pos h5, if_pos h5, if_pos h5, decide_eq_false (show ¬ 2 ^ (62 - 1) < sigN k u by rw [show 62 - 1 = 61 from rfl, p61]; omega), decide_eq_false (show ¬ sigN k u = 2 ^ (62 - 1) by rw [show 62 - 1 = 61 from rfl, p61]; omega)]
        rfl
      · rw [if_neg h5, if_neg h5, if_neg h5, decide_eq_true (show ¬ sigN k u = 0 by omega), Bool.true_and]
  rw [kec, kem]
  unfold wFin
  have hq : sigN k u / 2 ^ (d + 1) ≤ sigN k u := Nat.div_le_self _ _
  have := wholeOf_1_val (k := k) (s := s) hk (m := if wUp w s (sigN k u / 2 ^ (d + 1)) (sigN k u % 2 ^ (d + 1)) (d + 1) = true then sigN k u / 2 ^ (d + 1) + 1 else sigN k u / 2 ^ (d + 1)) (by split <;> omega)
  exact ⟨this.1.symm, this.2⟩
theorem whole_enc (hk : k < 2) (hw : w = 3 ∨ w = 4 ∨ w = 5) (hu : u ≤ kinfN k) : f_X2_toWhole k (enc k s u) w = f_X7_wholeOf k (enc k s u) w ∧ kcn k (f_X7_wholeOf k (enc k s u) w) := by
  have hwu := kw hk hu
  have n1 : ¬ (1 : Int32) = 0 := by decide
  have hz : (0 : Int32).toInt = 0 := by decide
  have h62 : (62 : Int32).toInt = 62 := by decide
  have hru := exp_rng hk hu
  obtain ⟨b1, b2, b3, b4, b5, b6⟩ := k_bounds hk
  have e1 := exp_enc (s := s) hk hwu
  unfold f_X2_toWhole f_X2_toWhole_16 f_X7_wholeOf f_X7_wholeOf_24 f_X7_wholeOf_23 f_X7_wholeOf_22
  rw [none0 hk hu, if_pos (Eq.refl (0 : Int32)), inf_enc hk hwu, inf7_enc hk hwu, zero_enc hk hwu]
  by_cases hui : u = kinfN k
  · rw [decide_eq_true hui, bI_t, if_neg n1, if_neg n1]
    exact ⟨rfl, kcn_enc hk hu⟩
  · rw [decide_eq_false hui, bI_f, if_pos rfl, if_pos rfl]
    by_cases hu0 : u = 0
    · subst hu0
      rw [decide_eq_true (show (0 : Nat) = 0 from rfl), bI_t, if_neg n1]
      refine ⟨?_, kcn_enc hk hu⟩
      have hlow : expZ k 0 = klowZ k := by unfold expZ; rw [Nat.zero_div]; omega
      have en : (-(f_X1_exponent k (enc k s 0))).toInt = -(expZ k 0) := by rw [Kit.i32_neg (by omega), e1]
      have em := jminI_val (-(f_X1_exponent k (enc k s 0))) 62
      rw [en, h62, hlow] at em
      have em2 : jminI (-(f_X1_exponent k (enc k s 0))) 62 = nI (61 + 1) := Int32.toInt_inj.mp (by rw [em, nI_toInt (by omega)]; omega)
      unfold f_X2_toWhole_15 f_X2_toWhole_14 f_X2_toWhole_13
      rw [if_pos (by rw [Int32.lt_iff_toInt_lt, hz, e1]; omega), em2, neg_enc hk hwu, sig_enc hk hwu, sig_zero, ushrN (by decide) (by decide), shlN _ (by decide), Nat.zero_div, Nat.zero_mul, lN_sub (Nat.le_refl 0), toWhole_12_val hw (by decide) (by decide) (by decide)]
      unfold wFin wUp f_X2_toWhole_1
      rw [decide_eq_false (show ¬ 2 ^ (61 + 1 - 1) < 0 - 0 by omega), decide_eq_false (show ¬ 0 - 0 = 2 ^ (61 + 1 - 1) by decide), decide_eq_false (show ¬ ¬ 0 - 0 = 0 by decide)]
      simp only [Bool.false_and, Bool.false_or]
      rw [if_neg (by split <;> decide), rounded_0 hk]
    · rw [decide_eq_false hu0, bI_f, if_pos rfl]
      by_cases hn : expZ k u < 0
      · exact whole_fin hk hw (by omega) (by omega) hn
      · obtain ⟨i, hi0, hi1, hi2, hi3, hmu, hpu⟩ := mp_val (s := s) hk (show 0 < u by omega) hu
        have hi : i = 0 := by
          rcases hi0 with h2 | h2
          · exact h2
          · omega
        unfold f_X2_toWhole_15 f_X7_wholeOf_21
        rw [if_neg (by rw [Int32.lt_iff_toInt_lt, hz, e1]; exact hn), if_neg (by rw [Int32.lt_iff_toInt_lt, hz, hpu]; omega)]
        exact ⟨rfl, kcn_enc hk hu⟩
end WHOLE

