-- turned into the other kind, whole numbers put in, cut off, stepped
section MISC
variable {k k2 : Nat} {s t : Bool} {u v : Nat} {x y : Int64}
theorem nI_k {a b : Nat} (ha : a < 2) (hb : b < 2) : nI a = nI b ↔ a = b := by
  constructor
  · intro h
    have := congrArg Int32.toInt h
    rw [nI_toInt (by omega), nI_toInt (by omega)] at this
    omega
  · intro h; rw [h]
theorem turned_both (hk : k < 2) (hk2 : k2 < 2) (h : kcn k x) : f_X2_turned k x k2 = f_X7_turnedTo k k2 x ∧ kcn k2 (f_X7_turnedTo k k2 x) := by
  have n1 : ¬ (1 : Int32) = 0 := by decide
  unfold f_X2_turned f_X2_turned_2 f_X2_turned_1 f_X7_turnedTo f_X7_turnedTo_4 f_X7_turnedTo_3 f_X7_turnedTo_2 f_X7_turnedTo_1
  rw [nan_none hk h]
  rcases kcn_cases hk h with rfl | ⟨s, u, hu, rfl⟩
  · rw [none1, if_neg n1, if_neg n1]
    by_cases e : k = k2
    · subst e
      rw [if_pos rfl]; exact ⟨rfl, kcn_nan hk⟩
    · rw [if_neg (fun h => e ((nI_k hk hk2).mp h))]; exact ⟨rfl, kcn_nan hk2⟩
  · have hw := kw hk hu
    have hru := exp_rng hk hu
    obtain ⟨b1, b2, b3, b4, b5, b6⟩ := k_bounds hk
    have hlu := sig_lt (u := u) hk
    have hfp : 2 ^ (kfbN k + 1) ≤ 2 ^ 53 := Nat.pow_le_pow_right (by decide) (by omega)
    have e1 := exp_enc (s := s) hk hw
    rw [none0 hk hu, if_pos rfl, if_pos rfl, inf_enc hk hw, inf7_enc hk hw, zero_enc hk hw, neg_enc hk hw, min_enc hk hw, sig_enc hk hw, sg1_inf hk2, sg7_inf hk2, sg7_0 hk2]
    have hi0 := (kinfN_w hk).2.2.1
    by_cases hui : u = kinfN k
    · rw [decide_eq_true hui, bI_t, if_neg n1, if_neg n1, decide_eq_false (show ¬ u = 0 by omega), bI_f, if_pos rfl]
      by_cases e : k = k2
      · subst e
        rw [if_pos rfl, hui]; exact ⟨rfl, kcn_enc hk (Nat.le_refl _)⟩
      · rw [if_neg (fun h => e ((nI_k hk hk2).mp h))]; exact ⟨rfl, kcn_enc hk2 (Nat.le_refl _)⟩
    · rw [decide_eq_false hui, bI_f, if_pos rfl, if_pos rfl]
      by_cases hu0 : u = 0
      · subst hu0
        rw [sig_zero, rounded_0 hk2, decide_eq_true (show (0 : Nat) = 0 from rfl), bI_t, if_neg n1]
        by_cases e : k = k2
        · subst e
          rw [if_pos rfl]; exact ⟨rfl, kcn_enc hk hu⟩
        · rw [if_neg (fun h => e ((nI_k hk hk2).mp h))]; exact ⟨rfl, kcn_enc hk2 (Nat.zero_le _)⟩
      · have hs0 := sig_pos (k := k) (show 0 < u by omega)
        rw [decide_eq_false hu0, bI_f, if_pos rfl, cls_round hk2 hs0 (by omega) e1 (by omega)]
        by_cases e : k = k2
        · subst e
          rw [if_pos rfl, rnd_self hk (by omega) (by omega)]; exact ⟨rfl, kcn_enc hk hu⟩
        · rw [if_neg (fun h => e ((nI_k hk hk2).mp h))]
          obtain ⟨i, hi0, hi1, hi2, hi3, hmu, hpu⟩ := mp_val (s := s) hk (show 0 < u by omega) hu
          have hp0 := Nat.two_pow_pos (kfbN k)
          rw [hmu, mod_round hk2 (by omega) (by omega) hpu (by omega) (fun h2 => absurd rfl h2), show decide (¬ (0 : Int32) = 0) = false from rfl, rnd_scale hs0, show expZ k u - (i : Int) + i = expZ k u by omega]
          exact ⟨rfl, kcn_enc hk2 (rnd_le hk2 hs0)⟩
/-- a long rounded -/
theorem ofWhole_0 (hk : k < 2) : f_X2_ofWhole k 0 = 0 := by
  rcases two_of hk with rfl | rfl <;> decide +kernel
theorem ofWhole_min (hk : k < 2) : f_X2_ofWhole k (-9223372036854775808) = f_X7_round k (1 : Int32) (4611686018427387904 : Int64) (1 : Int32) (0 : Int32) ∧ kcn k (f_X7_round k (1 : Int32) (4611686018427387904 : Int64) (1 : Int32) (0 : Int32)) := by
  constructor
  · rcases two_of hk with rfl | rfl <;> decide +kernel
  · have h1 : (1 : Int32).toInt = 1 := by decide
    have e := mod_round (s := true) hk (m := 4611686018427387904) (by decide) (by decide) (e := 1) (w := 0) h1 (by omega) (fun h2 => absurd rfl h2)
    have e2 : f_X7_round k (1 : Int32) (4611686018427387904 : Int64) (1 : Int32) (0 : Int32) = f_X7_round k (bI true) (lN 4611686018427387904) (1 : Int32) (0 : Int32) := rfl
    rw [e2, e]
    exact kcn_enc hk (rnd_le hk (by decide))
theorem ofWhole_val (hk : k < 2) {b : Bool} {m : Nat} (h0 : 0 < m) (hm : m < 2 ^ 63) : f_X2_ofWhole_1 k (bI b) (lN m) = f_X7_round k (bI b) (lN m) (0 : Int32) (0 : Int32) ∧ kcn k (f_X7_round k (bI b) (lN m) (0 : Int32) (0 : Int32)) := by
  have hz : (0 : Int32).toInt = 0 := by decide
  unfold f_X2_ofWhole_1
  rw [cls_round hk h0 hm hz (by omega), mod_round hk h0 hm hz (by omega) (fun h2 => absurd rfl h2)]
  exact ⟨rfl, kcn_enc hk (rnd_le hk h0)⟩
/-- longs cut into ints -/
theorem jmaxL_val (x y : Int64) : (jmaxL x y).toInt = max x.toInt y.toInt := by
  unfold jmaxL
  split <;> rename_i h <;> rw [Int64.lt_iff_toInt_lt] at h <;> omega
theorem jminL_val (x y : Int64) : (jminL x y).toInt = min x.toInt y.toInt := by
  unfold jminL
  split <;> rename_i h <;> rw [Int64.lt_iff_toInt_lt] at h <;> omega
def cutN (s : Bool) (w : Nat) : Int64 := if s = true then -(lN w) else lN w
def cutX (s : Bool) : Int64 := if s = true then (-9223372036854775808 : Int64) else (9223372036854775807 : Int64)
def cutC (x3 : Int32) (c : Int64) : Int64 := if x3 = 0 then c else jmaxL (-2147483648 : Int64) (jminL (2147483647 : Int64) c)
def cutM (x3 : Int32) : Int64 := if x3 = 0 then (9223372036854775807 : Int64) else (2147483647 : Int64)
theorem cutN_val (hw : v < 2 ^ 63) : (cutN s v).toInt = if s = true then -(v : Int) else v := by
  unfold cutN
  split
  · rw [lN_neg_toInt hw]
  · rw [pf_lI hw]
theorem cut_3_val (S : MSt) (x3 : Int32) (hw : v < 2 ^ 63) : f_X7_cut_3 (lN v) (cutM x3) (bI s) S = (cutC x3 (cutN s v), S) := by
  unfold f_X7_cut_3 f_X7_cut_2 f_X7_cut_1 cutC cutM
  have a1 : (9223372036854775807 : Int64).toInt = 9223372036854775807 := by decide
  have a2 : (2147483647 : Int64).toInt = 2147483647 := by decide
  have a3 : (-2147483648 : Int64).toInt = -2147483648 := by decide
  have hv := cutN_val (s := s) hw
  by_cases h : x3 = 0
  · rw [if_pos h, if_pos h, if_pos (by rw [Int64.le_iff_toInt_le, a1, pf_lI hw]; omega)]
    unfold cutN
    cases s
    · rw [if_pos (show bI false = 0 from rfl), if_neg (by decide)]
    · rw [if_neg (show ¬ bI true = 0 by decide), if_pos rfl]
  · rw [if_neg h, if_neg h]
    have hc : (jmaxL (-2147483648 : Int64) (jminL (2147483647 : Int64) (cutN s v))).toInt = max (-2147483648) (min 2147483647 (cutN s v).toInt) := by
      rw [jmaxL_val, jminL_val, a2, a3]
    rw [hv] at hc
    by_cases h2 : v ≤ 2147483647
    · rw [if_pos (by rw [Int64.le_iff_toInt_le, a2, pf_lI hw]; omega)]
      cases s
      · rw [if_pos (show bI false = 0 from rfl)]
        congr 1
        apply Int64.toInt_inj.mp
        rw [hc, pf_lI hw, if_neg (by decide)]; omega
      · rw [if_neg (show ¬ bI true = 0 by decide)]
        congr 1
        apply Int64.toInt_inj.mp
        rw [hc, lN_neg_toInt hw, if_pos rfl]; omega
    · rw [if_neg (by rw [Int64.le_iff_toInt_le, a2, pf_lI hw]; omega)]
      cases s
      · rw [if_pos (show bI false = 0 from rfl)]
        congr 1
        apply Int64.toInt_inj.mp
        rw [hc, a2, if_neg (by decide)]; omega
      · rw [if_neg (show ¬ bI true = 0 by decide)]
        congr 1
        apply Int64.toInt_inj.mp
        rw [hc, if_pos rfl, show (-(2147483647 : Int64) - 1).toInt = -2147483648 by decide]; omega
theorem cut_2_val (S : MSt) (x3 : Int32) : f_X7_cut_2 (bI s) (cutM x3) S = (cutC x3 (cutX s), S) := by
  unfold f_X7_cut_2 cutC cutM cutX
  by_cases h : x3 = 0
  · rw [if_pos h, if_pos h]
    cases s
    · rw [if_pos (show bI false = 0 from rfl), if_neg (by decide)]
    · rw [if_neg (show ¬ bI true = 0 by decide), if_pos rfl]; rfl
  · rw [if_neg h, if_neg h]
    cases s
    · rw [if_pos (show bI false = 0 from rfl), if_neg (by decide)]
      congr 1
    · rw [if_neg (show ¬ bI true = 0 by decide), if_pos rfl]; rfl
theorem cut_val (S : MSt) (x1 x3 : Int32) (hk : mk S x1.toNatClampNeg < 2) (h : kcn (mk S x1.toNatClampNeg) x) : f_X7_cut_10 S x1 x x3 = (cutC x3 (f_X2_cutOff (mk S x1.toNatClampNeg) x), S) := by
  have n1 : ¬ (1 : Int32) = 0 := by decide
  have hz : (0 : Int32).toInt = 0 := by decide
  have h63 : (63 : Int32).toInt = 63 := by decide
  have h62 : (62 : Int32).toInt = 62 := by decide
  have h99 : (99 : Int32).toInt = 99 := by decide
  have hm62 : (-62 : Int32).toInt = -62 := by decide
  unfold f_X7_cut_10 f_X7_cut_9 f_X7_cut_8 f_X2_cutOff f_X2_cutOff_6
  generalize hK : mk S x1.toNatClampNeg = K at hk h
  rw [nan_none hk h]
  have c0 : cutC x3 (lN 0) = lN 0 := by
    unfold cutC
    split
    · rfl
    · decide +kernel
  rcases kcn_cases hk h with rfl | ⟨s, u, hu, rfl⟩
  · rw [none1, if_neg n1, if_neg n1]
    exact congrArg (fun z => (z, S)) c0.symm
  · have hw := kw hk hu
    have hru := exp_rng hk hu
    obtain ⟨b1, b2, b3, b4, b5, b6⟩ := k_bounds hk
    have hlu := sig_lt (u := u) hk
    have hfp : 2 ^ (kfbN K + 1) ≤ 2 ^ 53 := Nat.pow_le_pow_right (by decide) (by omega)
    have p53 : (2 : Nat) ^ 53 = 9007199254740992 := rfl
    have hp1 : 2 ^ (kfbN K + 1) = 2 * 2 ^ kfbN K := by rw [Nat.pow_succ]; omega
    have e1 := exp_enc (s := s) hk hw
    have hi0 := (kinfN_w hk).2.2.1
    rw [none0 hk hu, if_pos (Eq.refl (0 : Int32)), if_pos (Eq.refl (0 : Int32)), zero_enc hk hw, min_enc hk hw, neg_enc hk hw, sig_enc hk hw]
    unfold f_X2_cutOff_5 f_X2_cutOff_4 f_X2_cutOff_3 f_X2_cutOff_2 f_X2_cutOff_1
    have hsn : ∀ w : Nat, (if bI s = 0 then lN w else -(lN w)) = cutN s w := by
      intro w
      unfold cutN
      cases s
      · rfl
      · rfl
    have hsx : (if bI s = 0 then (9223372036854775807 : Int64) else (-9223372036854775808 : Int64)) = cutX s := by
      unfold cutX
      cases s
      · rfl
      · rfl
    have hmost : (if x3 = 0 then f_X7_cut_7 S x1 (enc K s u) (9223372036854775807 : Int64) (bI s) else f_X7_cut_7 S x1 (enc K s u) (2147483647 : Int64) (bI s)) = f_X7_cut_7 S x1 (enc K s u) (cutM x3) (bI s) := by
      unfold cutM
      split <;> rfl
    rw [hmost, hsx]
    generalize hE : f_X1_exponent K (enc K s u) = E at e1
    by_cases hu0 : u = 0
    · subst hu0
      have hlow : expZ K 0 = klowZ K := by unfold expZ; rw [Nat.zero_div]; omega
      have em := jminI_val (-E) 63
      rw [Kit.i32_neg (by omega), e1, hlow, h63] at em
      have em2 : jminI (-E) 63 = nI 63 := Int32.toInt_inj.mp (by rw [em, nI_toInt (by omega)]; omega)
      rw [decide_eq_true (show (0 : Nat) = 0 from rfl), bI_t, if_neg n1, if_neg (show ¬ (0 : Int32) ≤ E by rw [Int32.le_iff_toInt_le, hz]; omega), sig_zero, em2, ushrN (by decide) (by decide), Nat.zero_div, hsn]
      have : cutN s 0 = lN 0 := by cases s <;> rfl
      rw [this, c0]; rfl
    · rw [decide_eq_false hu0, bI_f, if_pos (Eq.refl (0 : Int32))]
      have hs0 := sig_pos (k := K) (show 0 < u by omega)
      unfold f_X7_cut_7
      rw [hK, inf7_enc hk hw]
      have efb : ((62 : Int32) - kfb K).toInt = 62 - (kfbN K : Int) := by rw [Kit.i32_sub (by rw [h62, kfb_val hk]; omega) (by rw [h62, kfb_val hk]; omega), h62, kfb_val hk]
      by_cases hlarge : u = kinfN K ∨ 62 - (kfbN K : Int) < expZ K u
      · -- beyond all longs
        have hex : 62 - (kfbN K : Int) < expZ K u := by
          rcases hlarge with h | h
          · rw [h]
            unfold expZ
            rcases two_of hk with rfl | rfl
            · decide
            · decide
          · exact h
        have hg : 2 ^ kfbN K ≤ sigN K u := by
          have := exp_low (u := u) hk (by omega)
          exact sig_ge (by omega)
        have hL := log2_is hg hlu
        rw [if_pos (show (0 : Int32) ≤ E by rw [Int32.le_iff_toInt_le, hz]; omega), j13_val hs0 (by omega), hL, if_neg (show ¬ E < nI (63 - kfbN K) by rw [Int32.lt_iff_toInt_lt, e1, nI_toInt (by omega)]; omega)]
        unfold f_X7_cut_6
        rw [hK]
        by_cases hui : u = kinfN K
        · rw [decide_eq_true hui, bI_t, if_neg n1, if_neg (by rw [Int32.le_iff_toInt_le, h99, efb]; omega), cut_2_val]
        · obtain ⟨i, ji0, hi1, hi2, hi3, hmu, hpu⟩ := mp_val (s := s) hk (show 0 < u by omega) hu
          have hi : i = 0 := by
            rcases ji0 with h | h
            · exact h
            · omega
          rw [decide_eq_false hui, bI_f, if_pos rfl, if_neg (by rw [Int32.le_iff_toInt_le, hpu, efb]; omega), cut_2_val]
      · have hui : ¬ u = kinfN K := fun h => hlarge (Or.inl h)
        have hex : expZ K u ≤ 62 - (kfbN K : Int) := by
          rcases Int.lt_or_le (62 - (kfbN K : Int)) (expZ K u) with h | h
          · exact absurd (Or.inr h) hlarge
          · exact h
        obtain ⟨i, ji0, hi1, hi2, hi3, hmu, hpu⟩ := mp_val (s := s) hk (show 0 < u by omega) hu
        rw [decide_eq_false hui, bI_f, if_pos (Eq.refl (0 : Int32))]
        unfold f_X7_cut_6 f_X7_cut_5
        rw [hK, hmu, if_pos (by rw [Int32.le_iff_toInt_le, hpu, efb]; omega)]
        by_cases hn : expZ K u < 0
        · rw [if_neg (show ¬ (0 : Int32) ≤ E by rw [Int32.le_iff_toInt_le, hz]; omega), if_pos (show f_X7_power K (enc K s u) < 0 by rw [Int32.lt_iff_toInt_lt, hpu, hz]; omega)]
          have em := jminI_val (-E) 63
          rw [Kit.i32_neg (by omega), e1, h63] at em
          have em2 : jminI (-E) 63 = nI (min (-(expZ K u)) 63).toNat := by rw [nI_ofInt (x := jminI (-E) 63) (by omega), em]
          have hq : sigN K u / 2 ^ (min (-(expZ K u)) 63).toNat ≤ sigN K u := Nat.div_le_self _ _
          rw [em2, ushrN (by omega) (by omega), hsn]
          unfold f_X7_cut_4
          rw [hK, hmu]
          have eS : -(f_X7_power K (enc K s u)) = nI (-(expZ K u) + i).toNat := Int32.toInt_inj.mp (by rw [Kit.i32_neg (by omega), hpu, nI_toInt (by omega)]; omega)
          by_cases hS : -(expZ K u) + (i : Int) ≤ 62
          · rw [if_pos (by rw [Int32.le_iff_toInt_le, hpu, hm62]; omega), eS, shrN (by omega) (by omega)]
            have hd : sigN K u * 2 ^ i / 2 ^ (-(expZ K u) + (i : Int)).toNat = sigN K u / 2 ^ (min (-(expZ K u)) 63).toNat := by
              rw [show (-(expZ K u) + (i : Int)).toNat = (min (-(expZ K u)) 63).toNat + i by omega, Nat.pow_add]
              exact Nat.mul_div_mul_right _ _ (Nat.two_pow_pos i)
            rw [hd, cut_3_val S x3 (by omega)]
          · have hi53 : 53 ≤ (min (-(expZ K u)) 63).toNat := by
              rcases ji0 with h | h
              · omega
              · omega
            have h5 : 2 ^ 53 ≤ 2 ^ (min (-(expZ K u)) 63).toNat := Nat.pow_le_pow_right (by decide) hi53
            rw [if_neg (by rw [Int32.le_iff_toInt_le, hpu, hm62]; omega), Nat.div_eq_of_lt (by omega), show (0 : Int64) = lN 0 from rfl, cut_3_val S x3 (by decide)]
        · have hi : i = 0 := by
            rcases ji0 with h | h
            · exact h
            · omega
          have hg : 2 ^ kfbN K ≤ sigN K u := by
            have := exp_low (u := u) hk (by omega)
            exact sig_ge (by omega)
          have hL := log2_is hg hlu
          have eE : E = nI (expZ K u).toNat := Int32.toInt_inj.mp (by rw [e1, nI_toInt (by omega)]; omega)
          have eP : f_X7_power K (enc K s u) = nI (expZ K u).toNat := Int32.toInt_inj.mp (by rw [hpu, nI_toInt (by omega)]; omega)
          have hb : sigN K u * 2 ^ (expZ K u).toNat < 2 ^ 63 := by
            have h1 := Nat.mul_lt_mul_of_pos_right hlu (Nat.two_pow_pos (expZ K u).toNat)
            rw [← Nat.pow_add] at h1
            exact Nat.lt_of_lt_of_le h1 (Nat.pow_le_pow_right (by decide) (by omega))
          rw [if_pos (show (0 : Int32) ≤ E by rw [Int32.le_iff_toInt_le, hz]; omega), j13_val hs0 (by omega), hL, if_pos (show E < nI (63 - kfbN K) by rw [Int32.lt_iff_toInt_lt, e1, nI_toInt (by omega)]; omega), if_neg (show ¬ f_X7_power K (enc K s u) < 0 by rw [Int32.lt_iff_toInt_lt, hpu, hz]; omega), eE, eP, hi, Nat.pow_zero, Nat.mul_one, shlN _ (by omega), hsn, cut_3_val S x3 hb]
end MISC
