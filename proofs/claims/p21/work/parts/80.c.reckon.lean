-- what sums, products, remainders and intervals of numbers tell
section REC
variable {k : Nat} {s t : Bool} {u v : Nat} {x y : Int64}
theorem opp_enc (hk : k < 2) (hu : u ≤ kinfN k) : f_X1_opposite k (enc k s u) = enc k (!s) u := by
  unfold f_X1_opposite f_X1_opposite_1
  rw [nan0 hk hu, if_pos (Eq.refl (0 : Int32)), flip_enc hk (kw hk hu)]
theorem opp_nan (hk : k < 2) : f_X1_opposite k (knan k) = knan k := by
  unfold f_X1_opposite f_X1_opposite_1
  rw [nan1 hk, if_neg n10]
def plE (k : Nat) (s : Bool) (u : Nat) (t : Bool) (v : Nat) : Int64 := if u = kinfN k then (if v = kinfN k then (if s = t then enc k s u else knan k) else enc k s u) else if v = kinfN k then enc k t v else if v ≤ u then plN k s u t v else plN k t v s u
theorem plus_enc (hk : k < 2) (hu : u ≤ kinfN k) (hv : v ≤ kinfN k) : f_X2_plus k (enc k s u) (enc k t v) = plE k s u t v := by
  have hwu := kw hk hu
  have hwv := kw hk hv
  have h6u := lt63 hk hwu
  have h6v := lt63 hk hwv
  unfold f_X2_plus f_X2_plus_8 f_X2_plus_7 f_X2_plus_6 f_X2_plus_5 f_X2_plus_4 f_X2_plus_3 plE
  rw [nan0 hk hu, nan0 hk hv, if_pos (Eq.refl (0 : Int32)), if_pos (Eq.refl (0 : Int32)), inf_enc hk hwu, inf_enc hk hwv]
  by_cases h1 : u = kinfN k
  · rw [decide_eq_true h1, bI_t, if_neg n10, if_pos h1]
    by_cases h2 : v = kinfN k
    · rw [decide_eq_true h2, bI_t, if_neg n10, if_pos h2]
      by_cases h3 : s = t
      · rw [if_pos h3, if_pos (by rw [h3, h1, h2])]
      · rw [if_neg h3, if_neg (fun e => h3 ((enc_inj hk hwu hwv).mp e).1)]
    · rw [decide_eq_false h2, bI_f, if_pos (Eq.refl (0 : Int32)), if_neg h2]
  · rw [decide_eq_false h1, bI_f, if_pos (Eq.refl (0 : Int32)), if_neg h1]
    by_cases h2 : v = kinfN k
    · rw [decide_eq_true h2, bI_t, if_neg n10, if_pos h2]
    · rw [decide_eq_false h2, bI_f, if_pos (Eq.refl (0 : Int32)), if_neg h2]
      unfold f_X2_plus_2 f_X2_plus_1
      rw [mag_enc hk hwu, mag_enc hk hwv]
      by_cases h3 : v ≤ u
      · rw [if_pos ((lN_le63 h6v h6u).mpr h3), if_pos (Eq.refl (0 : Int32)), if_pos h3, plusLesser_val hk h3 (by omega)]
      · rw [if_neg (fun h => h3 ((lN_le63 h6v h6u).mp h)), if_neg n10, if_neg h3, plusLesser_val hk (by omega) (by omega)]
theorem plN_swap : plN k s u t u = plN k t u s u := by
  have e : apN k u u = 0 := by unfold apN; omega
  unfold plN plT
  rw [e, Nat.pow_zero, Nat.mul_one, Nat.sub_self]
  cases s <;> cases t <;> simp
theorem plE_comm : plE k s u t v = plE k t v s u := by
  unfold plE
  by_cases h1 : u = kinfN k
  · by_cases h2 : v = kinfN k
    · rw [if_pos h1, if_pos h2, if_pos h2, if_pos h1, h1, h2]
      cases s <;> cases t <;> simp
    · rw [if_pos h1, if_neg h2, if_neg h2, if_pos h1]
  · by_cases h2 : v = kinfN k
    · rw [if_neg h1, if_pos h2, if_pos h2, if_neg h1]
    · rw [if_neg h1, if_neg h2, if_neg h2, if_neg h1]
      by_cases h3 : v ≤ u
      · rw [if_pos h3]
        by_cases h4 : u ≤ v
        · rw [if_pos h4]
          have e : u = v := by omega
          subst e
          exact plN_swap
        · rw [if_neg h4]
      · rw [if_neg h3, if_pos (by omega)]
/-- a number, or its like with the other sign; a zero has either -/
def opLike (k : Nat) (x y : Int64) : Prop := (x = knan k ∧ y = knan k) ∨ ∃ (s t : Bool) (u : Nat), u ≤ kinfN k ∧ x = enc k s u ∧ y = enc k t u ∧ (t = !s ∨ u = 0)
theorem plN_neg (hk : k < 2) (hu : 0 < u) : opLike k (plN k s u t v) (plN k (!s) u (!t) v) := by
  have e : plT k (!s) u (!t) v = plT k s u t v := by
    unfold plT
    cases s <;> cases t <;> simp
  right
  unfold plN
  rw [e]
  by_cases h : plT k s u t v = 0
  · rw [if_pos h, if_pos h]
    exact ⟨_, _, 0, Nat.zero_le _, rfl, rfl, Or.inr rfl⟩
  · rw [if_neg h, if_neg h]
    exact ⟨_, _, _, rnd_le hk (by omega), rfl, rfl, Or.inl rfl⟩
theorem plN_neg0 (hk : k < 2) : opLike k (plN k s u t v) (plN k (!s) u (!t) v) := by
  rcases Nat.eq_zero_or_pos u with h | h
  · have e : plT k (!s) u (!t) v = plT k s u t v := by
      unfold plT
      cases s <;> cases t <;> simp
    right
    unfold plN
    rw [e]
    by_cases h : plT k s u t v = 0
    · rw [if_pos h, if_pos h]
      exact ⟨_, _, 0, Nat.zero_le _, rfl, rfl, Or.inr rfl⟩
    · rw [if_neg h, if_neg h]
      exact ⟨_, _, _, rnd_le hk (by omega), rfl, rfl, Or.inl rfl⟩
  · exact plN_neg hk h
theorem plE_neg (hk : k < 2) (hu : u ≤ kinfN k) (hv : v ≤ kinfN k) : opLike k (plE k s u t v) (plE k (!s) u (!t) v) := by
  unfold plE
  by_cases h1 : u = kinfN k
  · rw [if_pos h1, if_pos h1]
    by_cases h2 : v = kinfN k
    · rw [if_pos h2, if_pos h2]
      by_cases h3 : s = t
      · rw [if_pos h3, if_pos (by rw [h3])]
        exact Or.inr ⟨_, _, _, hu, rfl, rfl, Or.inl rfl⟩
      · rw [if_neg h3, if_neg (fun e => h3 (by cases s <;> cases t <;> simp at e ⊢))]
        exact Or.inl ⟨rfl, rfl⟩
    · rw [if_neg h2, if_neg h2]
      exact Or.inr ⟨_, _, _, hu, rfl, rfl, Or.inl rfl⟩
  · rw [if_neg h1, if_neg h1]
    by_cases h2 : v = kinfN k
    · rw [if_pos h2, if_pos h2]
      exact Or.inr ⟨_, _, _, hv, rfl, rfl, Or.inl rfl⟩
    · rw [if_neg h2, if_neg h2]
      by_cases h3 : v ≤ u
      · rw [if_pos h3, if_pos h3]; exact plN_neg0 hk
      · rw [if_neg h3, if_neg h3]; exact plN_neg0 hk
/-- what is like the other's opposite is told so -/
theorem opLike_tells (hk : k < 2) (h : opLike k x y) : (f_X1_sortOf k x = 3 ∧ f_X1_relations k x (f_X1_opposite k y) = 32) ∨ (¬ f_X1_sortOf k x = 3 ∧ f_X1_relations k x (f_X1_opposite k y) = 26) := by
  rcases h with ⟨rfl, rfl⟩ | ⟨s, t, u, hu, rfl, rfl, h⟩
  · left
    rw [opp_nan hk]
    exact ⟨sort_nan hk, rel_nan_l hk (kcn_nan hk)⟩
  · right
    rw [opp_enc hk hu]
    refine ⟨sort_ne3 hk hu, rel_eq hk hu hu ?_⟩
    rcases h with h | h
    · rw [h, Bool.not_not]
    · subst h
      unfold ri
      cases s <;> cases t <;> rfl
-- the acts that the property makes
theorem act_nan_l {w : Int32} (hk : k < 2) : f_X2_acted k w (knan k) y = knan k := by
  unfold f_X2_acted f_X2_acted_17
  rw [nan1 hk, if_neg n10]
theorem act_nan_r {w : Int32} (hk : k < 2) (hu : u ≤ kinfN k) (hn : f_X2_namesSecond w = 1) : f_X2_acted k w (enc k s u) (knan k) = knan k := by
  unfold f_X2_acted f_X2_acted_17 f_X2_acted_16 f_X2_acted_15
  rw [nan0 hk hu, if_pos (Eq.refl (0 : Int32)), hn, if_neg n10, nan1 hk, if_neg n10]
theorem act_two {w : Int32} (hk : k < 2) (hu : u ≤ kinfN k) (hv : v ≤ kinfN k) : f_X2_acted k w (enc k s u) (enc k t v) = f_X2_acted_14 k w (enc k s u) (enc k t v) := by
  unfold f_X2_acted f_X2_acted_17 f_X2_acted_16 f_X2_acted_15
  rw [nan0 hk hu, if_pos (Eq.refl (0 : Int32)), nan0 hk hv, if_pos (Eq.refl (0 : Int32))]
  split <;> rfl
theorem act_one {w : Int32} (hk : k < 2) (hu : u ≤ kinfN k) (hn : f_X2_namesSecond w = 0) : f_X2_acted k w (enc k s u) y = f_X2_acted_14 k w (enc k s u) y := by
  unfold f_X2_acted f_X2_acted_17 f_X2_acted_16
  rw [nan0 hk hu, if_pos (Eq.refl (0 : Int32)), hn, if_pos (Eq.refl (0 : Int32))]
theorem ns8 : f_X2_namesSecond 8 = 1 := by decide +kernel
theorem ns9 : f_X2_namesSecond 9 = 1 := by decide +kernel
theorem ns10 : f_X2_namesSecond 10 = 1 := by decide +kernel
theorem ns11 : f_X2_namesSecond 11 = 1 := by decide +kernel
theorem ns12 : f_X2_namesSecond 12 = 1 := by decide +kernel
theorem ns13 : f_X2_namesSecond 13 = 0 := by decide +kernel
theorem ns0 : f_X2_namesSecond 0 = 0 := by decide +kernel
theorem ns3 : f_X2_namesSecond 3 = 0 := by decide +kernel
theorem ns4 : f_X2_namesSecond 4 = 0 := by decide +kernel
theorem ns5 : f_X2_namesSecond 5 = 0 := by decide +kernel
theorem ns6 : f_X2_namesSecond 6 = 0 := by decide +kernel
theorem act_clean (hk : k < 2) (hx : kcn k x) (hy : kcn k y) {m : Nat} (hm : m < 14) : kcn k (f_X2_acted k (nI m) x y) := by
  obtain ⟨h1, h2⟩ := acted_all hk hx hy hm rfl
  rw [h1]
  exact h2
theorem a8_comm (hk : k < 2) (hx : kcn k x) (hy : kcn k y) : f_X2_acted k 8 x y = f_X2_acted k 8 y x := by
  rcases kcn_cases hk hx with rfl | ⟨s, u, hu, rfl⟩
  · rcases kcn_cases hk hy with rfl | ⟨t, v, hv, rfl⟩
    · rfl
    · rw [act_nan_l hk, act_nan_r hk hv ns8]
  · rcases kcn_cases hk hy with rfl | ⟨t, v, hv, rfl⟩
    · rw [act_nan_l hk, act_nan_r hk hu ns8]
    · rw [act_two hk hu hv, act_two hk hv hu, ac_8, ac_8, plus_enc hk hu hv, plus_enc hk hv hu]
      exact plE_comm
theorem a9_turn (hk : k < 2) (hx : kcn k x) (hy : kcn k y) : opLike k (f_X2_acted k 9 x y) (f_X2_acted k 9 y x) := by
  rcases kcn_cases hk hx with rfl | ⟨s, u, hu, rfl⟩
  · rcases kcn_cases hk hy with rfl | ⟨t, v, hv, rfl⟩
    · rw [act_nan_l hk]; exact Or.inl ⟨rfl, rfl⟩
    · rw [act_nan_l hk, act_nan_r hk hv ns9]; exact Or.inl ⟨rfl, rfl⟩
  · rcases kcn_cases hk hy with rfl | ⟨t, v, hv, rfl⟩
    · rw [act_nan_l hk, act_nan_r hk hu ns9]; exact Or.inl ⟨rfl, rfl⟩
    · rw [act_two hk hu hv, act_two hk hv hu, ac_9, ac_9]
      unfold f_X2_minus
      rw [opp_enc hk hu, opp_enc hk hv, plus_enc hk hu hv, plus_enc hk hv hu, plE_comm (s := t)]
      have h := plE_neg (s := s) (t := !t) hk hu hv
      rw [Bool.not_not] at h
      exact h
theorem a13_is (hk : k < 2) (hx : kcn k x) : f_X2_acted k 13 x y = f_X1_opposite k x := by
  rcases kcn_cases hk hx with rfl | ⟨s, u, hu, rfl⟩
  · rw [act_nan_l hk, opp_nan hk]
  · rw [act_one hk hu ns13, ac_13]
/-- a difference the other way round has the other sign -/
theorem a9_tells (hk : k < 2) (hx : kcn k x) (hy : kcn k y) : (f_X1_sortOf k (f_X2_acted k 9 x y) = 3 ∧ f_X1_relations k (f_X2_acted k 9 x y) (f_X2_acted k 13 (f_X2_acted k 9 y x) (f_X2_acted k 9 y x)) = 32) ∨ (¬ f_X1_sortOf k (f_X2_acted k 9 x y) = 3 ∧ f_X1_relations k (f_X2_acted k 9 x y) (f_X2_acted k 13 (f_X2_acted k 9 y x) (f_X2_acted k 9 y x)) = 26) := by
  have hc9 : kcn k (f_X2_acted k 9 y x) := act_clean (m := 9) hk hy hx (by decide)
  rw [a13_is hk hc9]
  exact opLike_tells hk (a9_turn hk hx hy)
def tmE (k : Nat) (s : Bool) (u : Nat) (t : Bool) (v : Nat) : Int64 := if u = kinfN k ∨ v = kinfN k then (if u = 0 ∨ v = 0 then knan k else enc k (s != t) (kinfN k)) else if u = 0 ∨ v = 0 then enc k (s != t) 0 else enc k (s != t) (rnd k (sigN k u * sigN k v) (expZ k u + expZ k v) false)
theorem tmE_is (hk : k < 2) (hu : u ≤ kinfN k) (hv : v ≤ kinfN k) : f_X2_times k (enc k s u) (enc k t v) = tmE k s u t v := by
  have hwu := kw hk hu
  have hwv := kw hk hv
  have h6u := lt63 hk hwu
  have h6v := lt63 hk hwv
  have hi0 := (kinfN_w hk).2.2.1
  unfold f_X2_times f_X2_times_10 tmE
  rw [neg_enc hk hwu, neg_enc hk hwv, sgnif (f_X2_times_9 k (enc k s u) (enc k t v))]
  generalize (s != t) = b
  unfold f_X2_times_9 f_X2_times_8 f_X2_times_7 f_X2_times_6 f_X2_times_5 f_X2_times_4 f_X2_times_1
  rw [mag_enc hk hwu, mag_enc hk hwv, inf_enc hk hwu, inf_enc hk hwv, sig_enc hk hwu, sig_enc hk hwv, sg1_inf hk, sg1_0 hk]
  by_cases hu0 : u = 0
  · have hui : ¬ u = kinfN k := by omega
    rw [if_pos (show lN u = (0 : Int64) by rw [hu0]; rfl), decide_eq_false hui, bI_f]
    by_cases hvi : v = kinfN k
    · rw [decide_eq_true hvi, bI_t]
      simp [n10, hu0, hvi]
    · rw [decide_eq_false hvi, bI_f]
      simp [n10, hu0, hvi, show ¬ 0 = kinfN k by omega]
  · rw [if_neg (fun h => hu0 ((lN0 (by omega)).mp h))]
    by_cases hv0 : v = 0
    · have hvi : ¬ v = kinfN k := by omega
      rw [if_pos (show lN v = (0 : Int64) by rw [hv0]; rfl), decide_eq_false hvi, bI_f]
      by_cases hui : u = kinfN k
      · rw [decide_eq_true hui, bI_t]
        simp [n10, hv0, hui]
      · rw [decide_eq_false hui, bI_f]
        simp [n10, hv0, hui, show ¬ 0 = kinfN k by omega]
    · rw [if_neg (fun h => hv0 ((lN0 (by omega)).mp h))]
      by_cases hui : u = kinfN k
      · rw [decide_eq_true hui, bI_t]
        simp [n10, hu0, hv0, hui, show ¬ kinfN k = 0 by omega]
      · rw [decide_eq_false hui, bI_f]
        by_cases hvi : v = kinfN k
        · rw [decide_eq_true hvi, bI_t]
          simp [n10, hu0, hv0, hui, hvi, show ¬ kinfN k = 0 by omega]
        · rw [decide_eq_false hvi, bI_f, times3_val hk (by omega) (by omega) (by omega) (by omega)]
          simp [hu0, hv0, hui, hvi]
theorem tmE_comm : tmE k s u t v = tmE k t v s u := by
  unfold tmE
  rw [show (t != s) = (s != t) by cases s <;> cases t <;> rfl, Nat.mul_comm (sigN k v), Int.add_comm (expZ k v)]
  have e1 : (v = kinfN k ∨ u = kinfN k) = (u = kinfN k ∨ v = kinfN k) := propext or_comm
  have e2 : (v = 0 ∨ u = 0) = (u = 0 ∨ v = 0) := propext or_comm
  simp only [e1, e2]
theorem a10_comm (hk : k < 2) (hx : kcn k x) (hy : kcn k y) : f_X2_acted k 10 x y = f_X2_acted k 10 y x := by
  rcases kcn_cases hk hx with rfl | ⟨s, u, hu, rfl⟩
  · rcases kcn_cases hk hy with rfl | ⟨t, v, hv, rfl⟩
    · rfl
    · rw [act_nan_l hk, act_nan_r hk hv ns10]
  · rcases kcn_cases hk hy with rfl | ⟨t, v, hv, rfl⟩
    · rw [act_nan_l hk, act_nan_r hk hu ns10]
    · rw [act_two hk hu hv, act_two hk hv hu, ac_10, ac_10, tmE_is hk hu hv, tmE_is hk hv hu]
      exact tmE_comm
-- what a division leaves
theorem rem_enc (hk : k < 2) (hu : u ≤ kinfN k) (hv : v ≤ kinfN k) : ((u = kinfN k ∨ v = 0) ∧ f_X2_remainder k (enc k s u) (enc k t v) = knan k) ∨ ∃ w, w < v ∧ f_X2_remainder k (enc k s u) (enc k t v) = enc k s w := by
  have hwu := kw hk hu
  have hwv := kw hk hv
  have h6u := lt63 hk hwu
  have h6v := lt63 hk hwv
  obtain ⟨b1, b2, b3, b4, b5, b6⟩ := k_bounds hk
  have hfp : 2 ^ (kfbN k + 1) ≤ 2 ^ 53 := Nat.pow_le_pow_right (by decide) (by omega)
  have h6 : sigN k v < 2 ^ 64 := by have := sig_lt (u := v) hk; omega
  unfold f_X2_remainder f_X2_remainder_7 f_X2_remainder_6 f_X2_remainder_5 f_X2_remainder_4
  rw [inf_enc hk hwu, inf_enc hk hwv, mag_enc hk hwu, mag_enc hk hwv, sig_enc hk hwu, sig_enc hk hwv]
  by_cases hui : u = kinfN k
  · rw [decide_eq_true hui, bI_t, if_neg n10]
    exact Or.inl ⟨Or.inl hui, rfl⟩
  · rw [decide_eq_false hui, bI_f, if_pos (Eq.refl (0 : Int32))]
    by_cases hv0 : v = 0
    · rw [if_pos (show lN (sigN k v) = (0 : Int64) by rw [hv0, sig_zero]; rfl)]
      exact Or.inl ⟨Or.inr hv0, rfl⟩
    · have hsv := sig_pos (k := k) (show 0 < v by omega)
      rw [if_neg (fun h => by have := (lN0 h6).mp h; omega)]
      by_cases hvi : v = kinfN k
      · rw [decide_eq_true hvi, bI_t, if_neg n10]
        exact Or.inr ⟨u, by omega, rfl⟩
      · rw [decide_eq_false hvi, bI_f, if_pos (Eq.refl (0 : Int32))]
        by_cases hvu : v ≤ u
        · rw [if_pos ((lN_le63 h6v h6u).mpr hvu)]
          have hru := exp_rng hk hu
          have hrv := exp_rng hk hv
          have hmo := exp_mono (k := k) hvu
          have hlu := sig_lt (u := u) hk
          have hlv := sig_lt (u := v) hk
          have p53 : (2 : Nat) ^ 53 = 9007199254740992 := rfl
          have e1 := exp_enc (s := s) hk hwu
          have e2 := exp_enc (s := t) hk hwv
          have d1 : (f_X1_exponent k (enc k s u) - f_X1_exponent k (enc k t v)).toInt = expZ k u - expZ k v := by rw [Kit.i32_sub (by omega) (by omega), e1, e2]
          obtain ⟨R, hR⟩ : ∃ R, R = sigN k u * 2 ^ (expZ k u - expZ k v).toNat % sigN k v := ⟨_, rfl⟩
          have hRl : R < sigN k v := by rw [hR]; exact Nat.mod_lt _ hsv
          unfold f_X2_remainder_3
          rw [lN_rem (by omega) (by omega), remL hsv (by omega) _ _ _ (Nat.mod_lt _ hsv) (by rw [d1]; omega) (by omega), d1, mod_go, neg_enc hk hwu, ← hR]
          right
          by_cases h : R = 0
          · rw [h, rounded_0 hk]
            exact ⟨0, by omega, rfl⟩
          · rw [cls_round hk (by omega) (by omega) e2 (by omega)]
            refine ⟨_, ?_, rfl⟩
            refine (nv_lt hk).mp ?_
            have hL := log2_lt (show 0 < R by omega) (show R < 2 ^ (kfbN k + 1) by omega)
            have hE : expZ k v ≤ klowZ k + ktopZ k - 2 := by
              have hv2 : v < kinfN k := by omega
              unfold expZ
              rcases two_of hk with rfl | rfl
              · rw [ki0] at hv2; rw [pf0, kl0, kt0]; omega
              · rw [ki1] at hv2; rw [pf1, kl1, kt1]; omega
            rw [rnd_nv hk (by omega) hrv.1 (by omega) (by omega)]
            unfold nv
            exact Nat.mul_lt_mul_of_pos_right hRl (Nat.two_pow_pos _)
        · rw [if_neg (fun h => hvu ((lN_le63 h6v h6u).mp h))]
          exact Or.inr ⟨u, by omega, rfl⟩
/-- what a division leaves: none, or less than the divisor, with the sign of what is divided -/
theorem a12_tells (hk : k < 2) (hx : kcn k x) (hy : kcn k y) : f_X1_sortOf k (f_X2_acted k 12 x y) = 3 ∨ (¬ f_X1_sortOf k (f_X2_acted k 12 x y) = 3 ∧ f_X1_relations k (f_X2_acted k 0 (f_X2_acted k 12 x y) (f_X2_acted k 12 x y)) (f_X2_acted k 0 y y) = 41 ∧ jishr (f_X1_sortOf k (f_X2_acted k 12 x y)) (2 : Int32) = jishr (f_X1_sortOf k (f_X2_acted k 7 x x)) (2 : Int32)) := by
  rcases kcn_cases hk hx with rfl | ⟨s, u, hu, rfl⟩
  · left; rw [act_nan_l hk, sort_nan hk]
  · rcases kcn_cases hk hy with rfl | ⟨t, v, hv, rfl⟩
    · left; rw [act_nan_r hk hu ns12, sort_nan hk]
    · rw [act_two hk hu hv, ac_12]
      rcases rem_enc (s := s) (t := t) hk hu hv with ⟨-, h⟩ | ⟨w, hw, h⟩
      · left; rw [h, sort_nan hk]
      · right
        have hwl : w ≤ kinfN k := by omega
        rw [h, act_one hk hwl ns0, ac_0, act_one hk hv ns0, ac_0, act_two hk hu hu, ac_7, mag_enc hk (kw hk hwl), mag_enc hk (kw hk hv), mag_enc hk (kw hk hu), neg_enc hk (kw hk hu), sgn1_enc hk (kw hk hu), iB_bI, sort_sgn hk hwl, sort_sgn hk hu]
        refine ⟨sort_ne3 hk hwl, ?_, rfl⟩
        rw [← enc_f (k := k), ← enc_f (k := k) (u := v)]
        refine rel_lt hk hwl hv ?_
        unfold ri
        simp
        omega
theorem a6_zero (hk : k < 2) (hv : v ≤ kinfN k) : f_X1_sortOf k (f_X2_acted k 6 (enc k t v) (enc k t v)) &&& (3 : Int32) = 0 ↔ v = 0 := by
  have ho := kone_lN hk
  have hw := kw hk hv
  have h63 := lt63 hk hw
  have hn : ¬ koneN k = 0 := by unfold koneN; split <;> omega
  rw [act_one hk hv ns6, ac_6]
  unfold f_X2_acted_1
  rw [mag_enc hk hw, neg_enc hk hw, one_eq hk, ho.1, sgn1_enc hk (kw hk ho.2), iB_bI]
  by_cases h : v = 0
  · rw [if_pos (by rw [h]; rfl)]
    exact sort_zero hk hv
  · rw [if_neg (fun e => h ((lN0 (by omega)).mp e))]
    exact ⟨fun e => absurd ((sort_zero hk ho.2).mp e) hn, fun e => absurd e h⟩
-- intervals
def outP (k : Nat) (z : Int64) (p : Int64 × Int64) : Prop := ∃ (s t : Bool) (u v : Nat), u ≤ kinfN k ∧ v ≤ kinfN k ∧ p = (enc k s u, enc k t v) ∧ ri s u < ri t v ∧ ∀ (q : Bool) (w : Nat), w ≤ kinfN k → z = enc k q w → ri s u ≤ ri q w ∧ ri q w ≤ ri t v
theorem every_is (hk : k < 2) {lo hi : Int64} : f_X0_everything k lo hi = (enc k true (kinfN k), enc k false (kinfN k)) := by
  unfold f_X0_everything
  rw [show (1 : Int32) = bI true from rfl, sg1_inf hk, kinf_enc hk]
theorem every_out (hk : k < 2) {z lo hi : Int64} : outP k z (f_X0_everything k lo hi) := by
  have hi0 := (kinfN_w hk).2.2.1
  rw [every_is hk]
  refine ⟨_, _, _, _, Nat.le_refl _, Nat.le_refl _, rfl, ?_, fun q w hw _ => ?_⟩
  · unfold ri; simp; omega
  · unfold ri; cases q <;> simp <;> omega
theorem out_is (hk : k < 2) {z lo hi : Int64} (hz : kcn k z) : outP k z (f_X0_outward k lo hi z z) := by
  have hi0 := (kinfN_w hk).2.2.1
  unfold f_X0_outward f_X0_outward_3 f_X0_outward_2 f_X0_outward_1
  rcases kcn_cases hk hz with rfl | ⟨q, w, hw, rfl⟩
  · rw [nan1 hk, if_neg n10, if_neg n10]
    have h := every_out (k := k) (z := knan k) (lo := lo) (hi := hi) hk
    exact h
  · have a1 : (-1 : Int32).toInt = -1 := by decide
    have a2 : (1 : Int32).toInt = 1 := by decide
    have r1 := (ri_abs (s := q) hw).2
    have ra : -(kinfN k : Int) ≤ ri q w ∧ ri q w ≤ (kinfN k : Int) := by omega
    have s1 : f_X1_stepped k (enc k q w) (-1 : Int32) = enc k (if clampZ k (ri q w + -1) = 0 then decide ((0 : Int) < -1) else decide (clampZ k (ri q w + -1) < 0)) (clampZ k (ri q w + -1)).natAbs := by
      rw [stepped_val hk hw, if_neg (show ¬ (-1 : Int32) = 0 by decide), a1]
    have s2 : f_X1_stepped k (enc k q w) (1 : Int32) = enc k (if clampZ k (ri q w + 1) = 0 then decide ((0 : Int) < 1) else decide (clampZ k (ri q w + 1) < 0)) (clampZ k (ri q w + 1)).natAbs := by
      rw [stepped_val hk hw, if_neg (show ¬ (1 : Int32) = 0 by decide), a2]
    rw [nan0 hk hw, if_pos (Eq.refl (0 : Int32)), if_pos (Eq.refl (0 : Int32)), s1, s2]
    refine ⟨_, _, _, _, clampZ_abs, clampZ_abs, rfl, ?_, fun q2 w2 hw2 e => ?_⟩
    · rw [ri_enc, ri_enc]
      unfold clampZ
      omega
    · obtain ⟨rfl, rfl⟩ := (enc_inj hk (kw hk hw) (kw hk hw2)).mp e
      rw [ri_enc, ri_enc]
      unfold clampZ
      omega
theorem zin_is (hk : k < 2) {z lo hi : Int64} (hz : kcn k z) : kcn k (f_X0_zeroIfNan k lo hi z) ∧ (∀ (q : Bool) (w : Nat), w ≤ kinfN k → z = enc k q w → f_X0_zeroIfNan k lo hi z = z) := by
  unfold f_X0_zeroIfNan f_X0_zeroIfNan_1
  rcases kcn_cases hk hz with rfl | ⟨q, w, hw, rfl⟩
  · rw [nan1 hk, if_neg n10]
    refine ⟨?_, fun q w hw e => absurd e.symm (enc_ne_nan hk hw)⟩
    rw [zero_encf (k := k)]
    exact kcn_enc hk (Nat.zero_le _)
  · rw [nan0 hk hw, if_pos (Eq.refl (0 : Int32))]
    exact ⟨hz, fun _ _ _ _ => rfl⟩
theorem outP_of {z z' : Int64} {p : Int64 × Int64} (h : outP k z' p) (hz : ∀ (q : Bool) (w : Nat), w ≤ kinfN k → z = enc k q w → z' = z) : outP k z p := by
  obtain ⟨s, t, u, v, h1, h2, h3, h4, h5⟩ := h
  exact ⟨s, t, u, v, h1, h2, h3, h4, fun q w hw e => h5 q w hw ((hz q w hw e).trans e)⟩
theorem les_self {z : Int64} : f_X1_lesser k z z = z := by
  unfold f_X1_lesser f_X1_lesser_1
  split <;> rfl
theorem gre_self {z : Int64} : f_X1_greater k z z = z := by
  unfold f_X1_greater f_X1_greater_1
  split <;> rfl
theorem four_is (hk : k < 2) {z lo hi : Int64} (hz : kcn k z) : outP k z (f_X0_ofFour k lo hi z z z z) := by
  unfold f_X0_ofFour
  rw [les_self, les_self, gre_self, gre_self]
  exact out_is hk hz
/-- an interval of one number, reckoned with another: it has what is reckoned of both -/
theorem held_is (hk : k < 2) (hu : u ≤ kinfN k) (hv : v ≤ kinfN k) {m : Nat} (hm : m < 4) : outP k (f_X2_acted k (nI (8 + m)) (enc k s u) (enc k t v)) (f_X0_acted k (enc k s u) (enc k s u) (nI m) k (enc k t v) (enc k t v)) := by
  have hc := act_clean (m := 8 + m) hk (kcn_enc (s := s) hk hu) (kcn_enc (s := t) hk hv) (by omega)
  rw [act_two hk hu hv] at hc ⊢
  rcases (by omega : m = 0 ∨ m = 1 ∨ m = 2 ∨ m = 3) with rfl | rfl | rfl | rfl
  · have e : f_X2_acted_14 k (nI (8 + 0)) (enc k s u) (enc k t v) = f_X2_plus k (enc k s u) (enc k t v) := ac_8
    rw [e] at hc ⊢
    unfold f_X0_acted f_X0_acted_5
    rw [if_pos (show nI 0 = (0 : Int32) from rfl)]
    exact out_is hk hc
  · have e : f_X2_acted_14 k (nI (8 + 1)) (enc k s u) (enc k t v) = f_X2_minus k (enc k s u) (enc k t v) := ac_9
    rw [e] at hc ⊢
    unfold f_X0_acted f_X0_acted_5 f_X0_acted_4
    rw [if_neg (show ¬ nI 1 = (0 : Int32) by decide), if_pos (show nI 1 = (1 : Int32) from rfl)]
    exact out_is hk hc
  · have e : f_X2_acted_14 k (nI (8 + 2)) (enc k s u) (enc k t v) = f_X2_times k (enc k s u) (enc k t v) := ac_10
    rw [e] at hc ⊢
    unfold f_X0_acted f_X0_acted_5 f_X0_acted_4 f_X0_acted_3 f_X0_product
    rw [if_neg (show ¬ nI 2 = (0 : Int32) by decide), if_neg (show ¬ nI 2 = (1 : Int32) by decide), if_pos (show nI 2 = (2 : Int32) from rfl)]
    obtain ⟨z1, z2⟩ := zin_is (lo := enc k s u) (hi := enc k s u) hk hc
    exact outP_of (four_is hk z1) z2
  · have e : f_X2_acted_14 k (nI (8 + 3)) (enc k s u) (enc k t v) = f_X2_over k (enc k s u) (enc k t v) := ac_11
    rw [e] at hc ⊢
    unfold f_X0_acted f_X0_acted_5 f_X0_acted_4 f_X0_acted_3 f_X0_acted_2 f_X0_quotient
    rw [if_neg (show ¬ nI 3 = (0 : Int32) by decide), if_neg (show ¬ nI 3 = (1 : Int32) by decide), if_neg (show ¬ nI 3 = (2 : Int32) by decide), if_pos (show nI 3 = (3 : Int32) from rfl)]
    obtain ⟨z1, z2⟩ := zin_is (lo := enc k s u) (hi := enc k s u) hk hc
    exact outP_of (four_is hk z1) z2
end REC
