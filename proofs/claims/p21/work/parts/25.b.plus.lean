-- the reference's sum by numbers; the two sums are alike
section MPLUS
variable {k : Nat} {s t : Bool} {u v : Nat} {x y : Int64}
theorem pow_mono {a b j i : Nat} (hab : b ≤ a) (ha : a * 2 ^ j < 2 * (b * 2 ^ i)) : j ≤ i := by
  rcases Nat.lt_or_ge i j with h | h
  · exfalso
    have h1 : 2 ^ (i + 1) ≤ 2 ^ j := Nat.pow_le_pow_right (by decide) h
    have h2 := Nat.mul_le_mul hab h1
    rw [Nat.pow_succ, ← Nat.mul_assoc] at h2
    omega
  · exact h
theorem bdec {a : Int32} {c : Prop} [Decidable c] (h : ¬ a = 0 ↔ c) : decide (¬ a = 0) = decide c := by
  by_cases hc : c
  · rw [decide_eq_true hc, decide_eq_true (h.mpr hc)]
  · rw [decide_eq_false hc, decide_eq_false (fun h2 => hc (h.mp h2))]
theorem larger_val (hk : k < 2) (h0 : 0 < v) (hvu : v ≤ u) (hu : u < kinfN k) : f_X7_larger k (enc k s u) (enc k t v) = if plT k s u t v = 0 then (0 : Int64) else enc k s (rnd k (plT k s u t v) (expZ k v) false) := by
  have hwu := kw hk (show u ≤ kinfN k by omega)
  have hwv := kw hk (show v ≤ kinfN k by omega)
  have hru := exp_rng hk (show u ≤ kinfN k by omega)
  have hrv := exp_rng hk (show v ≤ kinfN k by omega)
  have hmo := exp_mono (k := k) hvu
  obtain ⟨b1, b2, b3, b4, b5, b6⟩ := k_bounds hk
  have h9 : (9 : Int32).toInt = 9 := by decide
  have h62 : (62 : Int32).toInt = 62 := by decide
  obtain ⟨i, hi0, hi1, hi2, hi3, hmu, hpu⟩ := mp_val (s := s) hk (show 0 < u by omega) (show u ≤ kinfN k by omega)
  obtain ⟨j, hj0, hj1, hj2, hj3, hmv, hpv⟩ := mp_val (s := t) hk h0 (show v ≤ kinfN k by omega)
  have hfp : 2 ^ (kfbN k + 1) ≤ 2 ^ 53 := Nat.pow_le_pow_right (by decide) (by omega)
  have h53 : (2 : Nat) ^ 53 = 9007199254740992 := rfl
  have hp1 : 2 ^ (kfbN k + 1) = 2 * 2 ^ kfbN k := by rw [Nat.pow_succ]; omega
  have hp0 := Nat.two_pow_pos (kfbN k)
  -- the powers go the way of the numbers
  have hPP : expZ k v - (j : Int) ≤ expZ k u - (i : Int) := by
    rcases hi0 with hi0 | hi0
    · omega
    · have he : expZ k v = expZ k u := by
        have := hrv.1; omega
      have := pow_mono (sig_mono hk hvu he).1 (j := i) (i := j) (by omega)
      omega
  obtain ⟨w, hw⟩ : ∃ w : Nat, (w : Int) = expZ k u - (i : Int) - (expZ k v - (j : Int)) := ⟨(expZ k u - (i : Int) - (expZ k v - (j : Int))).toNat, by omega⟩
  -- the same whole number, further up
  have hT : sigN k u * 2 ^ i * 2 ^ 9 * 2 ^ w = sigN k u * 2 ^ apN k u v * 2 ^ (j + 9) := by
    rw [Nat.mul_assoc, Nat.mul_assoc, Nat.mul_assoc, ← Nat.pow_add, ← Nat.pow_add, ← Nat.pow_add]
    congr 2
    unfold apN
    omega
  have hY : sigN k v * 2 ^ j * 2 ^ 9 = sigN k v * 2 ^ (j + 9) := by rw [Nat.mul_assoc, ← Nat.pow_add]
  have hval := val_mono hk hvu
  have hap : apN k u v = (expZ k u - expZ k v).toNat := rfl
  rw [← hap] at hval
  unfold f_X7_larger
  rw [hmu, hmv]
  generalize f_X7_power k (enc k t v) = E2 at hpv ⊢
  have ea : (f_X7_power k (enc k s u) - E2).toInt = (w : Int) := by rw [Kit.i32_sub (by omega) (by omega), hpu, hpv]; omega
  have ew : f_X7_power k (enc k s u) - E2 = nI w := Int32.toInt_inj.mp (by rw [ea, nI_toInt (by omega)])
  have e9 : (f_X7_power k (enc k s u) - 9).toInt = expZ k v - (j : Int) - 9 + (w : Int) := by rw [Kit.i32_sub (by rw [h9]; omega) (by rw [h9]; omega), hpu, h9]; omega
  rw [ew, show (9 : Int32) = nI 9 from rfl, shlN _ (by decide), shlN _ (by decide)]
  rw [show (9 : Int32) = nI 9 from rfl] at e9
  obtain ⟨X, hX⟩ : ∃ X, X = sigN k u * 2 ^ i * 2 ^ 9 := ⟨_, rfl⟩
  obtain ⟨Y, hYd⟩ : ∃ Y, Y = sigN k v * 2 ^ j * 2 ^ 9 := ⟨_, rfl⟩
  rw [← hX] at hT ⊢
  rw [← hYd] at hY ⊢
  rw [p9] at hX hYd
  have hX1 : 2 ^ (kfbN k + 9) ≤ X := by
    rw [Nat.pow_add, p9]; omega
  have hX2 : X < 2 ^ 62 := by omega
  have hY2 : Y < 2 ^ 62 := by omega
  have hY1 : 0 < Y := by omega
  have hqy : Y / 2 ^ w ≤ Y := Nat.div_le_self _ _
  have hdm := Nat.div_add_mod Y (2 ^ w)
  have hml := Nat.mod_lt Y (Nat.two_pow_pos w)
  have hq0 := Nat.zero_le (Y / 2 ^ w)
  have hr0 := Nat.zero_le (Y % 2 ^ w)
  have h10 : 2 ^ (kfbN k + 9) = 2 ^ kfbN k * 512 := by rw [Nat.pow_add]
  -- the two values of the walk
  have key : ∀ c : Int32, (¬ c = 0 ↔ ¬ Y % 2 ^ w = 0) → (c = 0 ∨ c = 1) → f_X7_larger_4 k (enc k s u) (enc k t v) (lN X) (lN (Y / 2 ^ w)) c = if plT k s u t v = 0 then (0 : Int64) else enc k s (rnd k (plT k s u t v) (expZ k v) false) := by
    intro c hc hc2
    unfold f_X7_larger_4 plT
    rw [min_enc hk hwu, min_enc hk hwv]
    by_cases hst : s = t
    · rw [if_pos (bI_inj.mpr hst), if_pos hst, lN_add]
      have hTp : 0 < sigN k u * 2 ^ apN k u v + sigN k v := by
        have := sig_pos (k := k) h0; omega
      rw [if_neg (show ¬ sigN k u * 2 ^ apN k u v + sigN k v = 0 by omega)]
      unfold f_X7_larger_1
      rw [if_neg (fun h => by have := (lN0 (by omega)).mp h; omega), min_enc hk hwu]
      have hbig := rQ_big (k := k) (c := 9) (m := X + Y / 2 ^ w) (e := expZ k v - (j : Int) - 9 + (w : Int)) (by omega)
      rw [show (9 : Int32) = nI 9 from rfl, mod_round hk (by omega) (by omega) e9 (by omega) (fun _ => by omega), bdec hc, ← gAdd (Or.inr (by omega)) (by omega), hT, hY, ← Nat.add_mul, rnd_scale hTp]
      congr 2
      omega
    · rw [if_neg (fun h => hst (bI_inj.mp h)), if_neg hst]
      have e1 : sigN k u * 2 ^ apN k u v * 2 ^ (j + 9) - sigN k v * 2 ^ (j + 9) = (sigN k u * 2 ^ apN k u v - sigN k v) * 2 ^ (j + 9) := by rw [Nat.sub_mul]
      have hle : Y ≤ X * 2 ^ w := by
        rw [hT, hY]; exact Nat.mul_le_mul_right _ hval.1
      by_cases hr : Y % 2 ^ w = 0
      · have hc0 : c = 0 := by
          rcases hc2 with h | h
          · exact h
          · exact absurd hr (hc.mp (by rw [h]; decide))
        subst hc0
        unfold f_X7_larger_3 f_X7_larger_2
        have hqX : Y / 2 ^ w ≤ X := by
          have h1 : 2 ^ w * (Y / 2 ^ w) ≤ 2 ^ w * X := by rw [Nat.mul_comm _ X]; omega
          exact Nat.le_of_mul_le_mul_left h1 (Nat.two_pow_pos w)
        rw [if_pos rfl, lN_sub hqX, show (0 : Int32).toInt64 = lN 0 from rfl, lN_sub (Nat.zero_le _), Nat.sub_zero]
        have hz : X - Y / 2 ^ w = 0 ↔ sigN k u * 2 ^ apN k u v - sigN k v = 0 := by
          have h1 : (X - Y / 2 ^ w) * 2 ^ w = (sigN k u * 2 ^ apN k u v - sigN k v) * 2 ^ (j + 9) := by
            rw [← e1, ← hT, ← hY, Nat.sub_mul, Nat.mul_comm (Y / 2 ^ w)]
            congr 1
            omega
          have p1 := Nat.two_pow_pos w
          have p2 := Nat.two_pow_pos (j + 9)
          constructor
          · intro h
            rw [h, Nat.zero_mul] at h1
            rcases Nat.mul_eq_zero.mp h1.symm with h2 | h2
            · exact h2
            · omega
          · intro h
            rw [h, Nat.zero_mul] at h1
            rcases Nat.mul_eq_zero.mp h1 with h2 | h2
            · exact h2
            · omega
        unfold f_X7_larger_1
        by_cases h0 : X - Y / 2 ^ w = 0
        · rw [h0, if_pos (show lN 0 = (0 : Int64) from rfl), if_pos (hz.mp h0)]
        · rw [if_neg (fun h => h0 ((lN0 (by omega)).mp h)), if_neg (fun h => h0 (hz.mpr h)), min_enc hk hwu]
          have hg := gSub (k := k) (x := X) (y := Y) (w := w) (e := expZ k v - (j : Int) - 9) (Or.inl ⟨hr, by omega⟩)
          rw [if_pos hr, Nat.sub_zero] at hg
          rw [show (9 : Int32) = nI 9 from rfl, mod_round hk (by omega) (by omega) e9 (by omega) (fun h => absurd rfl h), bdec hc, ← hg, hT, hY, e1, rnd_scale (by have := fun h => h0 (hz.mpr h); omega)]
          congr 2
          omega
      · have hc1 : c = 1 := by
          rcases hc2 with h | h
          · exact absurd h (hc.mpr hr)
          · exact h
        subst hc1
        -- something lies below: the other one is far less
        have hw10 : 10 ≤ w := by
          rcases Nat.lt_or_ge w 10 with h | h
          · exfalso
            apply hr
            have : 2 ^ w ∣ 2 ^ 9 := Nat.pow_dvd_pow 2 (by omega)
            rw [p9] at this
            rw [hYd]
            exact Nat.mod_eq_zero_of_dvd (Nat.dvd_trans this (Nat.dvd_mul_left _ _))
          · exact h
        have hqs : Y / 2 ^ w ≤ 2 ^ kfbN k := by
          have h1 : 2 ^ 10 ≤ 2 ^ w := Nat.pow_le_pow_right (by decide) hw10
          have h2 : Y / 2 ^ w ≤ Y / 2 ^ 10 := Nat.div_le_div_left h1 (by decide)
          have h3 : (2 : Nat) ^ 10 = 1024 := rfl
          rw [h3] at h2
          omega
        unfold f_X7_larger_3 f_X7_larger_2
        rw [if_neg (by decide), lN_sub (show Y / 2 ^ w ≤ X by omega), show (1 : Int32).toInt64 = lN 1 from rfl, lN_sub (by omega)]
        unfold f_X7_larger_1
        have hbig := rQ_big (k := k) (c := 8) (m := X - Y / 2 ^ w - 1) (e := expZ k v - (j : Int) - 9 + (w : Int)) (by rw [Nat.pow_add, show (2 : Nat) ^ 8 = 256 from rfl]; omega)
        have hg := gSub (k := k) (x := X) (y := Y) (w := w) (e := expZ k v - (j : Int) - 9) (Or.inr (by omega))
        rw [if_neg hr] at hg
        have hTp : 0 < sigN k u * 2 ^ apN k u v - sigN k v := by
          rcases Nat.eq_zero_or_pos (sigN k u * 2 ^ apN k u v - sigN k v) with h | h
          · exfalso
            rw [h, Nat.zero_mul, ← hT, ← hY] at e1
            have h1 : (Y / 2 ^ w + 1) * 2 ^ w ≤ X * 2 ^ w := Nat.mul_le_mul_right _ (by omega)
            rw [Nat.add_mul, Nat.mul_comm (Y / 2 ^ w)] at h1
            omega
          · exact h
        rw [if_neg (fun h => by have := (lN0 (by omega)).mp h; omega), if_neg (by omega), min_enc hk hwu]
        rw [show (9 : Int32) = nI 9 from rfl, mod_round hk (by omega) (by omega) e9 (by omega) (fun _ => by omega), bdec hc, ← hg, hT, hY, e1, rnd_scale hTp]
        congr 2
        omega
  unfold f_X7_larger_8
  by_cases hw6 : w ≤ 62
  · rw [if_pos (show nI w ≤ (62 : Int32) from nI_le (b := 62) hw6 (by decide)), shrN (by omega) (by omega)]
    unfold f_X7_larger_7
    rw [if_neg (show ¬ (62 : Int32) < nI w from nI_nlt (a := 62) hw6 (by decide))]
    unfold f_X7_larger_6
    rw [shlN _ (by omega)]
    by_cases hr : Y % 2 ^ w = 0
    · rw [if_pos (by congr 1; rw [Nat.mul_comm]; omega)]
      exact key 0 ⟨fun h => absurd rfl h, fun h => absurd hr h⟩ (Or.inl rfl)
    · have hne : ¬ lN (Y / 2 ^ w * 2 ^ w) = lN Y := fun h => hr (by
        have h4 := (lN_eq64 (by have := Nat.div_mul_le_self Y (2 ^ w); omega) (by omega)).mp h
        rw [Nat.mul_comm] at h4
        omega)
      rw [if_neg hne]
      exact key 1 ⟨fun _ => hr, fun _ => by decide⟩ (Or.inr rfl)
  · have h7 : 2 ^ 63 ≤ 2 ^ w := Nat.pow_le_pow_right (by decide) (by omega)
    have e0 : Y / 2 ^ w = 0 := Nat.div_eq_of_lt (by omega)
    have e1 : ¬ Y % 2 ^ w = 0 := by rw [Nat.mod_eq_of_lt (by omega)]; omega
    rw [if_neg (show ¬ nI w ≤ (62 : Int32) from nI_ge (b := w) (a := 62) (by omega) (by omega))]
    unfold f_X7_larger_7
    rw [if_pos (show (62 : Int32) < nI w from nI_lt (a := 62) (by omega) (by omega))]
    have := key 1 ⟨fun _ => e1, fun _ => by decide⟩ (Or.inr rfl)
    rw [e0] at this
    exact this
theorem plN_clean (hk : k < 2) : kcn k (plN k s u t v) := by
  unfold plN
  split
  · exact kcn_enc hk (Nat.zero_le _)
  · exact kcn_enc hk (rnd_le hk (by omega))
theorem plN_zero (hk : k < 2) (h0 : 0 < u) (hu : u < kinfN k) : plN k s u t 0 = enc k s u := by
  have hr := exp_mono (k := k) (Nat.zero_le u)
  have hT : plT k s u t 0 = sigN k u * 2 ^ apN k u 0 := by
    unfold plT
    rw [sig_zero, Nat.add_zero, Nat.sub_zero]
    split <;> rfl
  have hs := sig_pos (k := k) h0
  unfold plN
  rw [hT, if_neg (by
    intro h
    rcases Nat.mul_eq_zero.mp h with h | h
    · omega
    · have := Nat.two_pow_pos (apN k u 0); omega), rnd_scale hs]
  congr 1
  rw [show expZ k 0 + (apN k u 0 : Int) = expZ k u by unfold apN; omega]
  exact rnd_self hk h0 hu
theorem plus_fin (hk : k < 2) (hu : u < kinfN k) (hv : v < kinfN k) : f_X2_plus_2 k (enc k s u) (enc k t v) = f_X7_plus_5 k (enc k s u) (enc k t v) ∧ kcn k (f_X7_plus_5 k (enc k s u) (enc k t v)) := by
  have hwu := kw hk (show u ≤ kinfN k by omega)
  have hwv := kw hk (show v ≤ kinfN k by omega)
  have h6u := lt63 hk hwu
  have h6v := lt63 hk hwv
  have ec : f_X2_plus_2 k (enc k s u) (enc k t v) = if v ≤ u then plN k s u t v else plN k t v s u := by
    unfold f_X2_plus_2 f_X2_plus_1
    rw [mag_enc hk hwu, mag_enc hk hwv]
    by_cases h : v ≤ u
    · rw [if_pos ((lN_le63 h6v h6u).mpr h), if_pos rfl, if_pos h, plusLesser_val hk h hu]
    · rw [if_neg (fun e => h ((lN_le63 h6v h6u).mp e)), if_neg (by decide), if_neg h, plusLesser_val hk (by omega) hv]
  have em : f_X7_plus_5 k (enc k s u) (enc k t v) = if v ≤ u then plN k s u t v else plN k t v s u := by
    unfold f_X7_plus_5 f_X7_plus_4 f_X7_plus_3
    rw [zero_enc hk hwu, zero_enc hk hwv]
    by_cases hv0 : v = 0
    · subst hv0
      rw [if_pos (Nat.zero_le u), decide_eq_true rfl, bI_t, if_neg (by decide)]
      by_cases hu0 : u = 0
      · subst hu0
        rw [decide_eq_true rfl, bI_t, if_neg (by decide), and_zero_enc hk]
        have hT : plT k s 0 t 0 = 0 := by
          unfold plT
          rw [sig_zero, Nat.zero_mul]
          split <;> rfl
        unfold plN
        rw [hT, if_pos rfl]
      · rw [decide_eq_false hu0, bI_f, if_pos rfl, plN_zero hk (by omega) hu]
    · rw [decide_eq_false hv0, bI_f, if_pos rfl]
      by_cases hu0 : u = 0
      · subst hu0
        rw [decide_eq_true rfl, bI_t, if_neg (by decide), if_neg (by omega), plN_zero hk (by omega) hv]
      · rw [decide_eq_false hu0, bI_f, if_pos rfl]
        unfold f_X7_plus_2
        rw [uns_enc hk hwu, uns_enc hk hwv]
        have hz : ∀ a b m n, m ≤ n → 0 < m → plT k a n b m = 0 → (a && b) = false := by
          intro a b m n hmn hm h
          cases a <;> cases b
          · rfl
          · rfl
          · rfl
          · exfalso
            unfold plT at h
            rw [if_pos rfl] at h
            have := sig_pos (k := k) hm
            omega
        by_cases h : v ≤ u
        · rw [if_neg (fun e => by have := (lN_lt63 h6u h6v).mp e; omega), if_pos h, larger_val hk (by omega) h hu]
          unfold plN
          by_cases h0 : plT k s u t v = 0
          · rw [if_pos h0, if_pos h0, hz s t v u h (by omega) h0]; exact zero_encf
          · rw [if_neg h0, if_neg h0]
        · rw [if_pos ((lN_lt63 h6u h6v).mpr (by omega)), if_neg h, larger_val hk (by omega) (by omega) hv]
          unfold plN
          by_cases h0 : plT k t v s u = 0
          · rw [if_pos h0, if_pos h0, hz t s u v (by omega) (by omega) h0]; exact zero_encf
          · rw [if_neg h0, if_neg h0]
  refine ⟨ec.trans em.symm, ?_⟩
  rw [em]
  split
  · exact plN_clean hk
  · exact plN_clean hk
theorem plus_both (hk : k < 2) (hx : kcn k x) (hy : kcn k y) : f_X2_plus k x y = f_X7_plus k x y ∧ kcn k (f_X7_plus k x y) := by
  unfold f_X2_plus f_X2_plus_8 f_X2_plus_7 f_X7_plus f_X7_plus_11 f_X7_plus_10 f_X7_plus_1
  rw [nan_none hk hx, nan_none hk hy]
  have n1 : ¬ (1 : Int32) = 0 := by decide
  rcases kcn_cases hk hx with rfl | ⟨s, u, hu, rfl⟩
  · rw [none1, if_neg n1, if_neg n1]; exact ⟨rfl, kcn_nan hk⟩
  · rcases kcn_cases hk hy with rfl | ⟨t, v, hv, rfl⟩
    · rw [none0 hk hu, none1, if_pos rfl, if_neg n1, if_pos rfl, if_neg n1]; exact ⟨rfl, kcn_nan hk⟩
    · rw [none0 hk hu, none0 hk hv, if_pos rfl, if_pos rfl, if_pos rfl, if_pos rfl]
      unfold f_X2_plus_6 f_X2_plus_5 f_X2_plus_4 f_X2_plus_3 f_X7_plus_9 f_X7_plus_8 f_X7_plus_7 f_X7_plus_6
      rw [inf_enc hk (kw hk hu), inf_enc hk (kw hk hv), inf7_enc hk (kw hk hu), inf7_enc hk (kw hk hv)]
      by_cases hui : u = kinfN k
      · rw [decide_eq_true hui, bI_t, if_neg n1, if_neg n1]
        refine ⟨rfl, ?_⟩
        split
        · exact kcn_enc hk hu
        · split
          · exact kcn_enc hk hu
          · exact kcn_nan hk
      · rw [decide_eq_false hui, bI_f, if_pos rfl, if_pos rfl]
        by_cases hvi : v = kinfN k
        · rw [decide_eq_true hvi, bI_t, if_neg n1, if_neg n1]
          exact ⟨rfl, kcn_enc hk hv⟩
        · rw [decide_eq_false hvi, bI_f, if_pos rfl, if_pos rfl]
          exact plus_fin hk (by omega) (by omega)
theorem plus_eq (hk : k < 2) (hx : kcn k x) (hy : kcn k y) : f_X2_plus k x y = f_X7_plus k x y := (plus_both hk hx hy).1
theorem plus_clean (hk : k < 2) (hx : kcn k x) (hy : kcn k y) : kcn k (f_X7_plus k x y) := (plus_both hk hx hy).2
theorem minus_eq (hk : k < 2) (hx : kcn k x) (hy : kcn k y) : f_X2_minus k x y = f_X7_plus k x (f_X7_turned k y) := by
  unfold f_X2_minus
  rw [opposite_eq hk hy, plus_eq hk hx (kcn_turned hk hy)]
end MPLUS

