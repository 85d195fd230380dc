-- sums: class and reference by numbers
theorem jminI_val (x y : Int32) : (jminI x y).toInt = min x.toInt y.toInt := by
  unfold jminI
  split <;> rename_i h <;> rw [Int32.lt_iff_toInt_lt] at h <;> omega
theorem or1 {q : Nat} (hq : q < 2 ^ 63) : lN q ||| (1 : Int64) = lN (q / 2 * 2 + 1) := by
  have e := g_or (k := 1) (p := 2) (a := 1) (b := q / 2) rfl (by decide) (by omega)
  rcases Nat.mod_two_eq_zero_or_one q with h | h
  · have h2 : q / 2 * 2 = q := by omega
    rw [h2] at e ⊢
    exact e
  · have h2 : q / 2 * 2 + 1 = q := by omega
    rw [h2] at e
    rw [h2, ← e, Int64.or_assoc]
    exact congrArg (fun z => lN (q / 2 * 2) ||| z) (Int64.or_self (a := lN 1))
def stk (b d : Nat) : Nat := if b % 2 ^ d = 0 then b / 2 ^ d else b / 2 ^ d / 2 * 2 + 1
theorem stk_0 {b : Nat} : stk b 0 = b := by
  unfold stk
  rw [Nat.pow_zero, Nat.mod_one, if_pos rfl, Nat.div_one]
theorem stk_le {b d : Nat} : stk b d ≤ b / 2 ^ d + 1 := by
  unfold stk
  split <;> omega
theorem rQ_big {k m c : Nat} {e : Int} (h : 2 ^ (kfbN k + c) ≤ m) : e + c ≤ rQ k m e := by
  have h1 := Nat.two_pow_pos (kfbN k + c)
  have h2 := log2_hi (show 0 < m by omega)
  have h3 : kfbN k + c < m.log2 + 1 := (Nat.pow_lt_pow_iff_right (by decide : 1 < 2)).mp (by omega)
  unfold rQ
  omega
theorem gAdd {k x y w : Nat} {e : Int} (hx : y % 2 ^ w = 0 ∨ 2 ^ (kfbN k + 1) ≤ x) (hp : 0 < x + y / 2 ^ w) : rnd k (x * 2 ^ w + y) e false = rnd k (x + y / 2 ^ w) (e + w) (decide (¬ y % 2 ^ w = 0)) := by
  have h0 := Nat.two_pow_pos w
  have h1 : (x * 2 ^ w + y) / 2 ^ w = x + y / 2 ^ w := by rw [Nat.mul_comm, Nat.mul_add_div h0]
  have h2 : (x * 2 ^ w + y) % 2 ^ w = y % 2 ^ w := by rw [Nat.mul_comm, Nat.mul_add_mod]
  have hc := rnd_coarse (k := k) (m := x * 2 ^ w + y) (s := w) (e := e) (more := false) (by rw [h1]; exact hp) (by
    rcases hx with hx | hx
    · exact Or.inr ⟨rfl, by rw [h2]; exact hx⟩
    · left
      rw [← rQ_div (s := w) (by rw [h1]; exact hp), h1]
      have hz := Nat.zero_le (y / 2 ^ w)
      have := rQ_big (k := k) (c := 1) (m := x + y / 2 ^ w) (e := e + w) (by omega)
      omega)
  rw [h1, h2, Bool.false_or] at hc
  exact hc
theorem gSub {k x y w : Nat} {e : Int} (hx : (y % 2 ^ w = 0 ∧ 0 < x - y / 2 ^ w) ∨ 2 ^ (kfbN k + 1) ≤ x - y / 2 ^ w - 1) : rnd k (x * 2 ^ w - y) e false = rnd k (x - y / 2 ^ w - (if y % 2 ^ w = 0 then 0 else 1)) (e + w) (decide (¬ y % 2 ^ w = 0)) := by
  have h0 := Nat.two_pow_pos w
  have hp := Nat.two_pow_pos (kfbN k + 1)
  have hy := Nat.div_add_mod y (2 ^ w)
  have hr := Nat.mod_lt y h0
  generalize y / 2 ^ w = q at hx hy ⊢
  generalize y % 2 ^ w = r at hx hy hr ⊢
  subst hy
  by_cases h : r = 0
  · subst h
    obtain ⟨z, hz⟩ : ∃ z, x = q + z := ⟨x - q, by omega⟩
    subst hz
    have e1 : (q + z) * 2 ^ w - (2 ^ w * q + 0) = z * 2 ^ w := by
      rw [Nat.add_mul, Nat.mul_comm (2 ^ w) q]; omega
    rw [e1, if_pos rfl, show q + z - q - 0 = z by omega, rnd_scale (by omega)]
    rfl
  · rcases hx with hx | hx
    · exact absurd hx.1 h
    · obtain ⟨z, hz⟩ : ∃ z, x = q + 1 + z := ⟨x - q - 1, by omega⟩
      subst hz
      rw [if_neg h, show q + 1 + z - q - 1 = z by omega]
      have hz2 : 2 ^ (kfbN k + 1) ≤ z := by omega
      have e1 : (q + 1 + z) * 2 ^ w - (2 ^ w * q + r) = z * 2 ^ w + (2 ^ w - r) := by
        rw [Nat.add_mul, Nat.add_mul, Nat.mul_comm (2 ^ w) q]; omega
      have h1 : (2 ^ w - r) / 2 ^ w = 0 := Nat.div_eq_of_lt (by omega)
      have h2 : (2 ^ w - r) % 2 ^ w = 2 ^ w - r := Nat.mod_eq_of_lt (by omega)
      have := gAdd (k := k) (x := z) (y := 2 ^ w - r) (w := w) (e := e) (Or.inr hz2) (by omega)
      rw [e1, this, h1, h2, Nat.add_zero, decide_eq_true (show ¬ 2 ^ w - r = 0 by omega), decide_eq_true h]
theorem p9 : (2 : Nat) ^ 9 = 512 := rfl
theorem sAdd {k a b d : Nat} {e : Int} (ha : 2 ^ kfbN k ≤ a) : rnd k (a * 2 ^ 9 + stk b d) (e + d) false = rnd k (a * 2 ^ 9 * 2 ^ d + b) e false := by
  have hp := Nat.two_pow_pos (kfbN k)
  have h9 : 2 ^ (kfbN k + 9) = 2 ^ kfbN k * 512 := by rw [Nat.pow_add]
  have h1 : 2 ^ (kfbN k + 1) = 2 ^ kfbN k * 2 := by rw [Nat.pow_add]
  have hz := Nat.zero_le (b / 2 ^ d)
  rw [p9, gAdd (Or.inr (by omega)) (by omega)]
  unfold stk
  by_cases h : b % 2 ^ d = 0
  · rw [if_pos h, h]; rfl
  · have hq := rQ_big (k := k) (c := 9) (m := a * 512 + b / 2 ^ d) (e := e + d) (by omega)
    rw [if_neg h, decide_eq_true h, ← rnd_sticky (by omega) (by omega)]
    congr 1
    omega
theorem sSub {k a b d : Nat} {e : Int} (ha : 2 ^ kfbN k ≤ a) (hb : b < 2 ^ (kfbN k + 1)) : rnd k (a * 2 ^ 9 - stk b d) (e + d) false = rnd k (a * 2 ^ 9 * 2 ^ d - b) e false := by
  have hp := Nat.two_pow_pos (kfbN k)
  have h8 : 2 ^ (kfbN k + 8) = 2 ^ kfbN k * 256 := by rw [Nat.pow_add]
  have h1 : 2 ^ (kfbN k + 1) = 2 ^ kfbN k * 2 := by rw [Nat.pow_add]
  have hq : b / 2 ^ d ≤ b := Nat.div_le_self _ _
  rw [p9, gSub (Or.inr (by omega))]
  unfold stk
  by_cases h : b % 2 ^ d = 0
  · rw [if_pos h, if_pos h, h]; rfl
  · have hq := rQ_big (k := k) (c := 8) (m := a * 512 - b / 2 ^ d - 1) (e := e + d) (by omega)
    rw [if_neg h, if_neg h, decide_eq_true h, ← rnd_sticky (by omega) (by omega)]
    congr 1
    omega
section PLUS
variable {k : Nat} {s t : Bool} {u v : Nat} {x y : Int64}
theorem cls_round (hk : k < 2) {m : Nat} (h1 : 0 < m) (h2 : m < 2 ^ 63) {e : Int32} {E : Int} (hE : e.toInt = E) (he : -6000 ≤ E ∧ E ≤ 6000) : f_X1_rounded k (bI s) (lN m) e = enc k s (rnd k m E false) := by
  subst hE
  rw [rounded_val hk (bI s) h1 h2 he, sgn1_enc hk (kw hk (rnd_le hk h1)), iB_bI]
theorem mod_round (hk : k < 2) {m : Nat} (h1 : 0 < m) (h2 : m < 2 ^ 63) {e w : Int32} {E : Int} (hE : e.toInt = E) (he : -6000 ≤ E ∧ E ≤ 6000) (ht : ¬ w = 0 → E < rQ k m E) : f_X7_round k (bI s) (lN m) e w = enc k s (rnd k m E (decide (¬ w = 0))) := by
  subst hE
  rw [round_val hk (bI s) h1 h2 he ht, sgn7_lN hk (kw hk (rnd_le hk h1)), iB_bI]
theorem bI_inj {a b : Bool} : bI a = bI b ↔ a = b := by cases a <;> cases b <;> decide
theorem shiftedRight_val {m : Nat} (hm : m < 2 ^ 62) {d : Int32} (h0 : 0 ≤ d.toInt) : f_X2_shiftedRight (lN m) d = lN (stk m d.toInt.toNat) := by
  have h62 : (62 : Int32).toInt = 62 := by decide
  unfold f_X2_shiftedRight f_X2_shiftedRight_3 stk
  by_cases h : d.toInt ≤ 62
  · rw [if_pos (by rw [Int32.le_iff_toInt_le, h62]; exact h)]
    have e : d = nI d.toInt.toNat := nI_ofInt h0
    obtain ⟨D, hDe⟩ : ∃ D, D = d.toInt.toNat := ⟨_, rfl⟩
    rw [← hDe] at e
    have hD : D < 64 := by omega
    rw [← hDe]
    clear hDe
    clear h0 h
    subst e
    unfold f_X2_shiftedRight_1
    have hq : m / 2 ^ D ≤ m := Nat.div_le_self _ _
    have hz := Nat.div_add_mod m (2 ^ D)
    rw [ushrN (by omega) hD, shlN _ hD]
    by_cases h2 : m % 2 ^ D = 0
    · rw [if_pos h2, if_pos (by congr 1; rw [Nat.mul_comm]; omega)]
    · rw [if_neg h2, if_neg (fun h3 => h2 (by
        have h4 := (lN_eq64 (a := m / 2 ^ D * 2 ^ D) (b := m) (by have := Nat.div_mul_le_self m (2 ^ D); omega) (by omega)).mp h3
        rw [Nat.mul_comm] at h4
        omega)), or1 (by omega)]
  · rw [if_neg (by rw [Int32.le_iff_toInt_le, h62]; exact h)]
    have h7 : 2 ^ 63 ≤ 2 ^ d.toInt.toNat := Nat.pow_le_pow_right (by decide) (by omega)
    unfold f_X2_shiftedRight_2
    rw [Nat.mod_eq_of_lt (by omega), Nat.div_eq_of_lt (by omega)]
    by_cases h2 : m = 0
    · rw [if_pos (by rw [h2]; rfl), if_pos h2]; rfl
    · rw [if_neg (fun h3 => h2 ((lN0 (by omega)).mp h3)), if_neg h2]; rfl
/-- the whole number that a sum is, at the lesser one's exponent -/
def apN (k u v : Nat) : Nat := (expZ k u - expZ k v).toNat
def plT (k : Nat) (s : Bool) (u : Nat) (t : Bool) (v : Nat) : Nat := if s = t then sigN k u * 2 ^ apN k u v + sigN k v else sigN k u * 2 ^ apN k u v - sigN k v
def plN (k : Nat) (s : Bool) (u : Nat) (t : Bool) (v : Nat) : Int64 := if plT k s u t v = 0 then enc k (s && t) 0 else enc k s (rnd k (plT k s u t v) (expZ k v) false)
theorem ap_big (hk : k < 2) (h : 0 < apN k u v) : 2 ^ kfbN k ≤ sigN k u := by
  unfold apN at h
  have h2 : 2 ^ (kfbN k + 1) ≤ u := exp_low hk (by have : klowZ k ≤ expZ k v := by unfold expZ; omega
                                                   omega)
  exact sig_ge (by rw [Nat.pow_succ] at h2; omega)
theorem plusLesser_val (hk : k < 2) (hvu : v ≤ u) (hu : u < kinfN k) : f_X2_plusLesser k (enc k s u) (enc k t v) = plN k s u t v := by
  have hwu := kw hk (show u ≤ kinfN k by omega)
  have hwv := kw hk (show v ≤ kinfN k by omega)
  have hru := exp_rng hk (show u ≤ kinfN k by omega)
  have hrv := exp_rng hk (show v ≤ kinfN k by omega)
  have hmo := exp_mono (k := k) hvu
  have hsu := sig_lt (u := u) hk
  have hsv := sig_lt (u := v) hk
  have hval := val_mono hk hvu
  have hap : apN k u v = (expZ k u - expZ k v).toNat := rfl
  have hbig := ap_big (k := k) (u := u) (v := v) hk
  obtain ⟨b1, b2, b3, b4, b5, b6⟩ := k_bounds hk
  have hfp : 2 ^ (kfbN k + 1) ≤ 2 ^ 53 := Nat.pow_le_pow_right (by decide) (by omega)
  have h53 : (2 : Nat) ^ 53 = 9007199254740992 := rfl
  have h9 : (9 : Int32).toInt = 9 := by decide
  have e1 := exp_enc (s := s) hk hwu
  have e2 := exp_enc (s := t) hk hwv
  unfold f_X2_plusLesser f_X2_plusLesser_10 f_X2_plusLesser_9 f_X2_plusLesser_8 f_X2_plusLesser_7
  rw [sig_enc hk hwu, sig_enc hk hwv, neg_enc hk hwu, neg_enc hk hwv]
  generalize f_X1_exponent k (enc k s u) = E1 at e1 ⊢
  generalize f_X1_exponent k (enc k t v) = E2 at e2 ⊢
  have ea : (E1 - E2).toInt = expZ k u - expZ k v := by rw [Kit.i32_sub (by omega) (by omega), e1, e2]
  generalize E1 - E2 = A at ea ⊢
  have es := jminI_val A 9
  rw [ea, h9] at es
  generalize jminI A 9 = H at es ⊢
  have ed : (A - H).toInt = expZ k u - expZ k v - min (expZ k u - expZ k v) 9 := by rw [Kit.i32_sub (by omega) (by omega), ea, es]
  have ee : (E1 - H).toInt = expZ k u - min (expZ k u - expZ k v) 9 := by rw [Kit.i32_sub (by omega) (by omega), e1, es]
  have eH : H = nI (min (apN k u v) 9) := by rw [nI_ofInt (x := H) (by omega)]; congr 1; omega
  rw [eH] at ee
  rw [shiftedRight_val (by omega) (by omega), eH, shlN _ (by omega), show (A - nI (min (apN k u v) 9)).toInt.toNat = apN k u v - min (apN k u v) 9 by rw [← eH, ed]; omega]
  -- the sum before rounding
  obtain ⟨F, hF⟩ : ∃ F, F = sigN k u * 2 ^ (min (apN k u v) 9) := ⟨_, rfl⟩
  obtain ⟨G, hG⟩ : ∃ G, G = stk (sigN k v) (apN k u v - min (apN k u v) 9) := ⟨_, rfl⟩
  rw [← hF, ← hG]
  have hFb : F < 2 ^ 62 := by
    have h2 : 2 ^ (min (apN k u v) 9) ≤ 2 ^ 9 := Nat.pow_le_pow_right (by decide) (by omega)
    have h3 := Nat.mul_le_mul (show sigN k u ≤ 2 ^ 53 - 1 by omega) h2
    have h4 : (2 ^ 53 - 1) * 2 ^ 9 < 2 ^ 62 := by decide
    omega
  have hGb : G ≤ 2 ^ 53 := by
    have h2 := @stk_le (sigN k v) (apN k u v - min (apN k u v) 9)
    have h3 : sigN k v / 2 ^ (apN k u v - min (apN k u v) 9) ≤ sigN k v := Nat.div_le_self _ _
    omega
  have hGF : G ≤ F ∧ (F - G = 0 ↔ sigN k u * 2 ^ apN k u v - sigN k v = 0) := by
    by_cases h : apN k u v ≤ 9
    · have hm : min (apN k u v) 9 = apN k u v := by omega
      rw [hm] at hF hG
      rw [Nat.sub_self, stk_0] at hG
      rw [hF, hG]
      exact ⟨hval.1, Iff.rfl⟩
    · have hm : min (apN k u v) 9 = 9 := by omega
      rw [hm] at hF hG
      have h2 := hbig (by omega)
      have h3 := @stk_le (sigN k v) (apN k u v - 9)
      have h4 : sigN k v / 2 ^ (apN k u v - 9) ≤ sigN k v := Nat.div_le_self _ _
      have h5 : 2 ^ (kfbN k + 1) = 2 * 2 ^ kfbN k := by rw [Nat.pow_succ]; omega
      have h6 : 2 ^ 1 ≤ 2 ^ apN k u v := Nat.pow_le_pow_right (by decide) (by omega)
      have h7 := Nat.mul_le_mul h2 h6
      have h8 := Nat.two_pow_pos (kfbN k)
      rw [p9] at hF
      constructor
      · omega
      · constructor
        · intro h9; omega
        · intro h9; omega
  have hrnd : (¬ F + G = 0 → rnd k (F + G) (expZ k u - min (expZ k u - expZ k v) 9) false = rnd k (sigN k u * 2 ^ apN k u v + sigN k v) (expZ k v) false) ∧ (¬ F - G = 0 → rnd k (F - G) (expZ k u - min (expZ k u - expZ k v) 9) false = rnd k (sigN k u * 2 ^ apN k u v - sigN k v) (expZ k v) false) := by
    by_cases h : apN k u v ≤ 9
    · have hm : min (apN k u v) 9 = apN k u v := by omega
      rw [hm] at hF hG
      rw [Nat.sub_self, stk_0] at hG
      rw [hF, hG, show expZ k u - min (expZ k u - expZ k v) 9 = expZ k v by omega]
      exact ⟨fun _ => rfl, fun _ => rfl⟩
    · have hm : min (apN k u v) 9 = 9 := by omega
      rw [hm] at hF hG
      have h2 := hbig (by omega)
      have hx : expZ k u - min (expZ k u - expZ k v) 9 = expZ k v + ((apN k u v - 9 : Nat) : Int) := by omega
      have hp : sigN k u * 2 ^ apN k u v = sigN k u * 2 ^ 9 * 2 ^ (apN k u v - 9) := by rw [Nat.mul_assoc, ← Nat.pow_add]; congr 2; omega
      rw [hx, hF, hG, hp]
      exact ⟨fun _ => sAdd h2, fun _ => sSub h2 hsv⟩
  unfold plN plT
  by_cases hst : s = t
  · subst hst
    rw [if_pos (bI_inj.mpr rfl), if_pos rfl]
    unfold f_X2_plusLesser_6 f_X2_plusLesser_5
    rw [if_neg (by decide), lN_add]
    by_cases h0 : F + G = 0
    · have hu0 : sigN k u = 0 := by
        have hF0 : F = 0 := by omega
        rw [hF] at hF0
        rcases Nat.mul_eq_zero.mp hF0 with h | h
        · exact h
        · have := Nat.two_pow_pos (min (apN k u v) 9); omega
      have hu1 : u = 0 := by
        rcases Nat.eq_zero_or_pos u with h | h
        · exact h
        · have := sig_pos (k := k) h; omega
      have hv1 : v = 0 := by omega
      subst hu1; subst hv1
      rw [h0, if_pos (show lN 0 = (0 : Int64) from rfl), sig_zero, Nat.zero_mul, if_pos rfl]
      unfold f_X2_plusLesser_4 f_X2_plusLesser_3 f_X2_plusLesser_2 f_X2_plusLesser_1
      cases s
      · rw [if_pos (show bI false = 0 from rfl), show (0 : Int64) = lN 0 from rfl, sgn1_enc hk hwu]; rfl
      · rw [if_neg (show ¬ bI true = 0 by decide), if_neg (by decide), show (0 : Int64) = lN 0 from rfl, sgn1_enc hk hwu]; rfl
    · rw [if_neg (fun h => h0 ((lN0 (by omega)).mp h)), if_neg (fun h => h0 (by
        have h1 : sigN k u * 2 ^ apN k u v = 0 := by omega
        have h2 : sigN k u = 0 := by
          rcases Nat.mul_eq_zero.mp h1 with h | h
          · exact h
          · have := Nat.two_pow_pos (apN k u v); omega
        have h3 : G = 0 := by
          have h4 : sigN k v = 0 := by omega
          rw [hG, h4]; unfold stk; simp
        rw [hF, h2, h3, Nat.zero_mul])), cls_round hk (by omega) (by omega) ee (by omega), hrnd.1 h0]
  · rw [if_neg (fun h => hst (bI_inj.mp h)), if_neg hst]
    unfold f_X2_plusLesser_6 f_X2_plusLesser_5
    rw [if_pos rfl, lN_sub hGF.1]
    by_cases h0 : F - G = 0
    · rw [h0, if_pos (show lN 0 = (0 : Int64) from rfl), if_pos (hGF.2.mp h0)]
      unfold f_X2_plusLesser_4 f_X2_plusLesser_3 f_X2_plusLesser_2 f_X2_plusLesser_1
      have hst2 : (s && t) = false := by cases s <;> cases t <;> simp at hst ⊢
      rw [hst2]
      cases s
      · rw [if_pos (show bI false = 0 from rfl), show (0 : Int64) = lN 0 from rfl, sgn1_enc hk (Nat.two_pow_pos _)]; rfl
      · rw [if_neg (show ¬ bI true = 0 by decide), if_pos rfl, show (0 : Int64) = lN 0 from rfl, sgn1_enc hk (Nat.two_pow_pos _)]; rfl
    · rw [if_neg (fun h => h0 ((lN0 (by omega)).mp h)), if_neg (fun h => h0 (hGF.2.mpr h)), cls_round hk (by omega) (by omega) ee (by omega), hrnd.2 h0]
end PLUS

