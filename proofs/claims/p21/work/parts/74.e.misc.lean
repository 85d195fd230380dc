-- turned into the other kind, whole numbers put in, cut off, stepped
section MISC
variable {k k2 : Nat} {s t : Bool} {u v : Nat} {x y : Int64}
theorem nI_k {a b : Nat} (ha : a < 2) (hb : b < 2) : nI a = nI b ↔ a = b := by
  constructor
  · intro h
    have := congrArg Int32.toInt h
    rw [nI_toInt (by omega), nI_toInt (by omega)] at this
    omega
  · intro h; rw [h]
theorem turned_both (hk : k < 2) (hk2 : k2 < 2) (h : kcn k x) : f_X2_turned k x k2 = f_X7_turnedTo k k2 x ∧ kcn k2 (f_X7_turnedTo k k2 x) := by
  have n1 : ¬ (1 : Int32) = 0 := by decide
  unfold f_X2_turned f_X2_turned_2 f_X2_turned_1 f_X7_turnedTo f_X7_turnedTo_4 f_X7_turnedTo_3 f_X7_turnedTo_2 f_X7_turnedTo_1
  rw [nan_none hk h]
  rcases kcn_cases hk h with rfl | ⟨s, u, hu, rfl⟩
  · rw [none1, if_neg n1, if_neg n1]
    by_cases e : k = k2
    · subst e
      rw [if_pos rfl]; exact ⟨rfl, kcn_nan hk⟩
    · rw [if_neg (fun h => e ((nI_k hk hk2).mp h))]; exact ⟨rfl, kcn_nan hk2⟩
  · have hw := kw hk hu
    have hru := exp_rng hk hu
    obtain ⟨b1, b2, b3, b4, b5, b6⟩ := k_bounds hk
    have hlu := sig_lt (u := u) hk
    have hfp : 2 ^ (kfbN k + 1) ≤ 2 ^ 53 := Nat.pow_le_pow_right (by decide) (by omega)
    have e1 := exp_enc (s := s) hk hw
    rw [none0 hk hu, if_pos rfl, if_pos rfl, inf_enc hk hw, inf7_enc hk hw, zero_enc hk hw, neg_enc hk hw, min_enc hk hw, sig_enc hk hw, sg1_inf hk2, sg7_inf hk2, sg7_0 hk2]
    have hi0 := (kinfN_w hk).2.2.1
    by_cases hui : u = kinfN k
    · rw [decide_eq_true hui, bI_t, if_neg n1, if_neg n1, decide_eq_false (show ¬ u = 0 by omega), bI_f, if_pos rfl]
      by_cases e : k = k2
      · subst e
        rw [if_pos rfl, hui]; exact ⟨rfl, kcn_enc hk (Nat.le_refl _)⟩
      · rw [if_neg (fun h => e ((nI_k hk hk2).mp h))]; exact ⟨rfl, kcn_enc hk2 (Nat.le_refl _)⟩
    · rw [decide_eq_false hui, bI_f, if_pos rfl, if_pos rfl]
      by_cases hu0 : u = 0
      · subst hu0
        rw [sig_zero, rounded_0 hk2, decide_eq_true (show (0 : Nat) = 0 from rfl), bI_t, if_neg n1]
        by_cases e : k = k2
        · subst e
          rw [if_pos rfl]; exact ⟨rfl, kcn_enc hk hu⟩
        · rw [if_neg (fun h => e ((nI_k hk hk2).mp h))]; exact ⟨rfl, kcn_enc hk2 (Nat.zero_le _)⟩
      · have hs0 := sig_pos (k := k) (show 0 < u by omega)
        rw [decide_eq_false hu0, bI_f, if_pos rfl, cls_round hk2 hs0 (by omega) e1 (by omega)]
        by_cases e : k = k2
        · subst e
          rw [if_pos rfl, rnd_self hk (by omega) (by omega)]; exact ⟨rfl, kcn_enc hk hu⟩
        · rw [if_neg (fun h => e ((nI_k hk hk2).mp h))]
          obtain ⟨i, hi0, hi1, hi2, hi3, hmu, hpu⟩ := mp_val (s := s) hk (show 0 < u by omega) hu
          have hp0 := Nat.two_pow_pos (kfbN k)
          rw [hmu, mod_round hk2 (by omega) (by omega) hpu (by omega) (fun h2 => absurd rfl h2), show decide (¬ (0 : Int32) = 0) = false from rfl, rnd_scale hs0, show expZ k u - (i : Int) + i = expZ k u by omega]
          exact ⟨rfl, kcn_enc hk2 (rnd_le hk2 hs0)⟩
/-- a long rounded -/
theorem ofWhole_0 (hk : k < 2) : f_X2_ofWhole k 0 = 0 := by
  rcases two_of hk with rfl | rfl <;> decide +kernel
theorem ofWhole_min (hk : k < 2) : f_X2_ofWhole k (-9223372036854775808) = f_X7_round k (1 : Int32) (4611686018427387904 : Int64) (1 : Int32) (0 : Int32) ∧ kcn k (f_X7_round k (1 : Int32) (4611686018427387904 : Int64) (1 : Int32) (0 : Int32)) := by
  constructor
  · rcases two_of hk with rfl | rfl <;> decide +kernel
  · have h1 : (1 : Int32).toInt = 1 := by decide
    have e := mod_round (s := true) hk (m := 4611686018427387904) (by decide) (by decide) (e := 1) (w := 0) h1 (by omega) (fun h2 => absurd rfl h2)
    have e2 : f_X7_round k (1 : Int32) (4611686018427387904 : Int64) (1 : Int32) (0 : Int32) = f_X7_round k (bI true) (lN 4611686018427387904) (1 : Int32) (0 : Int32) := rfl
    rw [e2, e]
    exact kcn_enc hk (rnd_le hk (by decide))
theorem ofWhole_val (hk : k < 2) {b : Bool} {m : Nat} (h0 : 0 < m) (hm : m < 2 ^ 63) : f_X2_ofWhole_1 k (bI b) (lN m) = f_X7_round k (bI b) (lN m) (0 : Int32) (0 : Int32) ∧ kcn k (f_X7_round k (bI b) (lN m) (0 : Int32) (0 : Int32)) := by
  have hz : (0 : Int32).toInt = 0 := by decide
  unfold f_X2_ofWhole_1
  rw [cls_round hk h0 hm hz (by omega), mod_round hk h0 hm hz (by omega) (fun h2 => absurd rfl h2)]
  exact ⟨rfl, kcn_enc hk (rnd_le hk h0)⟩
/-- longs cut into ints -/
theorem jmaxL_val (x y : Int64) : (jmaxL x y).toInt = max x.toInt y.toInt := by
  unfold jmaxL
  split <;> rename_i h <;> rw [Int64.lt_iff_toInt_lt] at h <;> omega
theorem jminL_val (x y : Int64) : (jminL x y).toInt = min x.toInt y.toInt := by
  unfold jminL
  split <;> rename_i h <;> rw [Int64.lt_iff_toInt_lt] at h <;> omega
def cutN (s : Bool) (w : Nat) : Int64 := if s = true then -(lN w) else lN w
def cutX (s : Bool) : Int64 := if s = true then (-9223372036854775808 : Int64) else (9223372036854775807 : Int64)
def cutC (x3 : Int32) (c : Int64) : Int64 := if x3 = 0 then c else jmaxL (-2147483648 : Int64) (jminL (2147483647 : Int64) c)
def cutM (x3 : Int32) : Int64 := if x3 = 0 then (9223372036854775807 : Int64) else (2147483647 : Int64)
theorem cutN_val (hw : v < 2 ^ 63) : (cutN s v).toInt = if s = true then -(v : Int) else v := by
  unfold cutN
  split
  · rw [lN_neg_toInt hw]
  · rw [pf_lI hw]
end MISC

