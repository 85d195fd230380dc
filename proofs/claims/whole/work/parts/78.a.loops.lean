-- loops over a row: least, greatest, find, sums
section LOOPS
variable {S : CSt} {M : MSt} {j p : Nat} {k w : Nat} {f : Nat → Int64}
/-- a row as both see it -/
def rowOK (M : MSt) (x : Int32) (k w : Nat) (f : Nat → Int64) : Prop := k < 2 ∧ w ≤ 500 ∧ mk M x.toNatClampNeg = k ∧ f_X7_size M x = nI w ∧ ∀ p, p < w → f_X7_at M x (nI p) = f p ∧ kcn k (f p)
theorem Rel.rowOK (h : Rel S M) (hj : j < cn S) : rowOK M (nI j) (ckd S j) (cln S j) (cbt S j) := ⟨(h.kd hj).2, (h.ln hj).2.2, by rw [h.j64 hj, (h.kd hj).1], h.size hj, fun p hp => ⟨h.at_ hj hp, (h.bt hj hp).2⟩⟩
theorem nIc {i : Nat} (h : i ≤ 600) : (nI i).toNatClampNeg = i := nI_clamp (by omega)
theorem nI_ne_m1 {i : Nat} (h : i ≤ 600) : ¬ nI i = (-1 : Int32) := fun e => by
  have := congrArg Int32.toInt e
  rw [nI_toInt (by omega), show (-1 : Int32).toInt = -1 by decide] at this
  omega
theorem far_loop {x x2 : Int32} (hr : rowOK M x k w f) : ∀ n i q, 501 ≤ i + n → i ≤ w → (q = -1 ∨ ∃ b, b < i ∧ q = nI b ∧ f_X7_none k (f b) = 0) → f_X7_farthest_L36 x x2 M n q (nI i) = (f_X3_firstExtreme_L4 k w f x2 n q (nI i), M) := by
  obtain ⟨hk, hw, em, es, ea⟩ := hr
  intro n
  induction n with
  | zero => intro i q h1 h2; omega
  | succ n ih =>
    intro i q h1 h2 hq
    show f_X7_farthest_8 _ _ _ _ _ _ = (f_X3_firstExtreme_4 _ _ _ _ _ _ _, M)
    unfold f_X7_farthest_8 f_X3_firstExtreme_4
    rw [es]
    by_cases c1 : w ≤ i
    · rw [if_pos (nI_le c1 (by omega)), if_pos (nI_le c1 (by omega))]
    · have hi : i < w := by omega
      have c1' : ¬ nI w ≤ nI i := nI_ge hi (by omega)
      obtain ⟨a1, a2⟩ := ea i hi
      rw [if_neg c1', if_neg c1']
      unfold f_X7_farthest_7 f_X3_firstExtreme_3
      rw [em, a1, nIc (show i ≤ 600 by omega), nan_none hk a2]
      by_cases c2 : f_X7_none k (f i) = 0
      · rw [if_pos c2, if_pos c2]
        unfold f_X7_farthest_6 f_X3_firstExtreme_2
        have hI := ih (i + 1) (nI i) (by omega) (by omega) (Or.inr ⟨i, by omega, rfl, c2⟩)
        rw [← nI_1] at hI
        rcases hq with rfl | ⟨b, hb, rfl, hbn⟩
        · rw [if_pos (show (-1 : Int32) < 0 by decide), if_pos (Eq.refl (-1 : Int32))]
          exact hI
        · have hQ := ih (i + 1) (nI b) (by omega) (by omega) (Or.inr ⟨b, by omega, rfl, hbn⟩)
          rw [← nI_1] at hQ
          rw [if_neg (nlt0 (by rw [nI_toInt (by omega)]; omega)), if_neg (nI_ne_m1 (by omega))]
          obtain ⟨b1, b2⟩ := ea b (by omega)
          unfold f_X7_farthest_5 f_X7_farthest_4 f_X7_farthest_3 f_X3_firstExtreme_1 f_X3_isBeyond f_X3_isBeyond_1
          rw [em, a1, b1, nIc (show b ≤ 600 by omega)]
          by_cases c3 : x2 = 0
          · rw [if_pos c3, if_pos c3, below_eq hk a2 b2]
            by_cases c4 : f_X7_rank k (f b) ≤ f_X7_rank k (f i)
            · rw [if_pos c4, if_pos (ite10.mpr (fun h => by have h5 := Int64.lt_iff_toInt_lt.mp h.2.2; have h6 := Int64.le_iff_toInt_le.mp c4; omega))]
              exact hQ
            · have hp : f_X7_none k (f i) = 0 ∧ f_X7_none k (f b) = 0 ∧ f_X7_rank k (f i) < f_X7_rank k (f b) := ⟨c2, hbn, by rw [Int64.lt_iff_toInt_lt]; rw [Int64.le_iff_toInt_le] at c4; omega⟩
              rw [if_neg c4, if_pos hp, if_neg n10]
              exact hI
          · rw [if_neg c3, if_neg c3, below_eq hk b2 a2]
            by_cases c4 : f_X7_rank k (f i) ≤ f_X7_rank k (f b)
            · rw [if_pos c4, if_pos (ite10.mpr (fun h => by have h5 := Int64.lt_iff_toInt_lt.mp h.2.2; have h6 := Int64.le_iff_toInt_le.mp c4; omega))]
              exact hQ
            · have hp : f_X7_none k (f b) = 0 ∧ f_X7_none k (f i) = 0 ∧ f_X7_rank k (f b) < f_X7_rank k (f i) := ⟨hbn, c2, by rw [Int64.lt_iff_toInt_lt]; rw [Int64.le_iff_toInt_le] at c4; omega⟩
              rw [if_neg c4, if_pos hp, if_neg n10]
              exact hI
      · rw [if_neg c2, if_neg c2]
        have hI := ih (i + 1) q (by omega) (by omega) (by
          rcases hq with h | ⟨b, hb, h⟩
          · exact Or.inl h
          · exact Or.inr ⟨b, by omega, h⟩)
        rw [← nI_1] at hI
        exact hI
theorem far_R (h : Rel S M) (x1 : Int32) (x2 : Int32) : R2i (if 0 ≤ x1 ∧ x1 < nI (cn S) then f_X6_answer S (f_X3_firstExtreme (ckd S x1.toNatClampNeg) (cln S x1.toNatClampNeg) (cbt S x1.toNatClampNeg) x2) else f_X6_refuse S (1 : Int32)) (f_X7_farthest M x1 x2) := by
  unfold f_X7_farthest f_X7_farthest_11 f_X7_farthest_10
  rcases row_split h x1 with ⟨r1, r2, r3⟩ | ⟨j, hj, rfl, r1, r2, r3⟩
  · rw [if_neg r1]
    rcases r3 with r3 | ⟨r3, r4⟩
    · rw [if_pos r3]; exact ref_R h 1
    · rw [if_neg r3, if_neg r4]; exact ref_R h 1
  · rw [if_pos r1, if_neg r2, if_pos r3, h.j64 hj]
    have := far_loop (x2 := x2) ((h.rs 0).rowOK hj) 501 0 (-1) (by omega) (Nat.zero_le _) (Or.inl rfl)
    have e : f_X7_farthest_L36 (nI j) x2 (mset_s M 0) 501 (-1 : Int32) (0 : Int32) = _ := this
    rw [e]
    exact ⟨rfl, h.rs 0⟩
theorem R_least (h : Rel S M) (x1 : Int32) : R2i (f_X6_least S x1) (f_X7_least M x1) := by
  have := far_R h x1 0
  unfold f_X6_least f_X6_least_2 f_X7_least
  split <;> rename_i c
  · rw [if_pos c] at this; exact this
  · rw [if_neg c] at this; exact this
theorem R_greatest (h : Rel S M) (x1 : Int32) : R2i (f_X6_greatest S x1) (f_X7_greatest M x1) := by
  have := far_R h x1 1
  unfold f_X6_greatest f_X6_greatest_2 f_X7_greatest
  split <;> rename_i c
  · rw [if_pos c] at this; exact this
  · rw [if_neg c] at this; exact this
theorem cmpT_le0 {a b : Int64} : cmpT k a b ≤ 0 ↔ f_X1_totalRank k a ≤ f_X1_totalRank k b := by
  unfold cmpT
  by_cases h1 : f_X1_totalRank k b ≤ f_X1_totalRank k a
  · rw [if_pos h1]
    by_cases h2 : f_X1_totalRank k a ≤ f_X1_totalRank k b
    · rw [if_pos h2]; exact ⟨fun _ => h2, fun _ => by decide⟩
    · rw [if_neg h2]; exact ⟨fun h => absurd h (by decide), fun h => absurd h h2⟩
  · rw [if_neg h1]
    refine ⟨fun _ => ?_, fun _ => by decide⟩
    rw [Int64.le_iff_toInt_le] at h1 ⊢
    omega
theorem with_loop {x : Int32} {x2 : Int64} {M0 : MSt} (hr : rowOK M x k w f) {c : Int64} (hc : f_X7_clean (mk M0 x.toNatClampNeg) x2 = c) : ∀ n i, 501 ≤ i + n → i ≤ w → f_X7_find_L84 x x2 M0 M n (nI i) = (f_X3_firstWith_L2 w f c n (nI i), M) := by
  obtain ⟨hk, hw, em, es, ea⟩ := hr
  intro n
  induction n with
  | zero => intro i h1 h2; omega
  | succ n ih =>
    intro i h1 h2
    show f_X7_find_4 _ _ _ _ _ _ = (f_X3_firstWith_2 _ _ _ _ _, M)
    unfold f_X7_find_4 f_X3_firstWith_2
    rw [es]
    by_cases c1 : w ≤ i
    · rw [if_pos (nI_le c1 (by omega)), if_pos (nI_le c1 (by omega))]
    · have hi : i < w := by omega
      have c1' : ¬ nI w ≤ nI i := nI_ge hi (by omega)
      obtain ⟨a1, a2⟩ := ea i hi
      have hI := ih (i + 1) (by omega) (by omega)
      rw [← nI_1] at hI
      rw [if_neg c1', if_neg c1']
      unfold f_X7_find_3 f_X3_firstWith_1
      rw [a1, hc, nIc (show i ≤ 600 by omega)]
      by_cases c2 : f i = c
      · rw [if_pos c2, if_pos c2]
      · rw [if_neg c2, if_neg c2]; exact hI
theorem sorted_loop {x : Int32} {x2 : Int64} (hr : rowOK M x k w f) : ∀ n i, 501 ≤ i + n → 1 ≤ i → i ≤ w → f_X7_find_L29 x x2 M n (nI i) = if f_X3_isSorted_L2 k w f n (nI i) = 0 then f_X7_no M 4 else f_X7_find_L84 x x2 M (mset_s M 0) 501 (0 : Int32) := by
  obtain ⟨hk, hw, em, es, ea⟩ := hr
  intro n
  induction n with
  | zero => intro i h1 h2; omega
  | succ n ih =>
    intro i h1 h2 h3
    show f_X7_find_7 _ _ _ _ _ = if f_X3_isSorted_2 _ _ _ _ _ = 0 then _ else _
    unfold f_X7_find_7 f_X3_isSorted_2
    rw [es]
    by_cases c1 : w ≤ i
    · rw [if_pos (nI_le c1 (by omega)), if_pos (nI_le c1 (by omega)), if_neg n10]
    · have hi : i < w := by omega
      have c1' : ¬ nI w ≤ nI i := nI_ge hi (by omega)
      obtain ⟨a1, a2⟩ := ea i hi
      obtain ⟨i0, rfl⟩ : ∃ i0, i = i0 + 1 := ⟨i - 1, by omega⟩
      obtain ⟨b1, b2⟩ := ea i0 (by omega)
      have hI := ih (i0 + 1 + 1) (by omega) (by omega) (by omega)
      rw [← nI_1] at hI
      rw [if_neg c1', if_neg c1']
      unfold f_X7_find_6 f_X3_isSorted_1
      rw [nI_pred, a1, b1, em, nIc (show i0 ≤ 600 by omega), nIc (show i0 + 1 ≤ 600 by omega), order_eq hk b2 a2]
      by_cases c2 : f_X1_totalRank k (f i0) ≤ f_X1_totalRank k (f (i0 + 1))
      · rw [if_pos (cmpT_le0.mpr c2), if_pos c2]; exact hI
      · rw [if_neg (fun h => c2 (cmpT_le0.mp h)), if_neg c2, if_pos (Eq.refl (0 : Int32))]; rfl
theorem R_find (h : Rel S M) (x1 : Int32) (x2 : Int64) : R2i (f_X6_find S x1 x2) (f_X7_find M x1 x2) := by
  unfold f_X6_find f_X6_find_3 f_X6_find_2 f_X7_find f_X7_find_10 f_X7_find_9
  rcases row_split h x1 with ⟨r1, r2, r3⟩ | ⟨j, hj, rfl, r1, r2, r3⟩
  · rw [if_neg r1]
    rcases r3 with r3 | ⟨r3, r4⟩
    · rw [if_pos r3]; exact ref_R h 1
    · rw [if_neg r3, if_neg r4]; exact ref_R h 1
  · rw [if_pos r1, if_neg r2, if_pos r3, h.j64 hj]
    have hl := h.ln hj
    have e1 : f_X7_find_L29 (nI j) x2 M 500 (1 : Int32) = _ := sorted_loop (x2 := x2) (h.rowOK hj) 500 1 (by omega) (by omega) hl.2.1
    have e2 : f_X7_find_L84 (nI j) x2 M (mset_s M 0) 501 (0 : Int32) = _ := with_loop (x2 := x2) (M0 := M) ((h.rs 0).rowOK hj) rfl 501 0 (by omega) (Nat.zero_le _)
    have hc : f_X7_clean (mk M (nI j).toNatClampNeg) x2 = f_X1_cleaned (ckd S j) x2 := by
      rw [h.j64 hj, ← (h.kd hj).1, (cleaned_eq (h.kd hj).2 x2).1]
    rw [e1, e2]
    unfold f_X3_isSorted
    have e3 : f_X3_isSorted_L2 (ckd S j) (cln S j) (cbt S j) 500 (nI 1) = f_X3_isSorted_L2 (ckd S j) (cln S j) (cbt S j) 500 (1 : Int32) := rfl
    rw [e3]
    by_cases c : f_X3_isSorted_L2 (ckd S j) (cln S j) (cbt S j) 500 (1 : Int32) = 0
    · rw [if_pos c, if_pos c]; exact ref_R h 4
    · rw [if_neg c, if_neg c]
      unfold f_X3_firstWith
      refine ⟨?_, h.rs 0⟩
      show f_X3_firstWith_L2 (cln S j) (cbt S j) (f_X1_cleaned (ckd S j) x2) 501 (0 : Int32) = f_X3_firstWith_L2 (cln S j) (cbt S j) (f_X7_clean (mk M (nI j).toNatClampNeg) x2) 501 (nI 0)
      rw [hc]; rfl
/-- sums in order -/
theorem plain_loop {x : Int32} (hr : rowOK M x k w f) : ∀ n i s c, 501 ≤ i + n → i ≤ w → kcn k s → f_X7_sum_L70 x 0 M n s c (nI i) = (f_X5_plain_L5 k w f n s (nI i), M) := by
  obtain ⟨hk, hw, em, es, ea⟩ := hr
  intro n
  induction n with
  | zero => intro i s c h1 h2; omega
  | succ n ih =>
    intro i s c h1 h2 hs
    show f_X7_sum_4 _ _ _ _ _ _ _ = (f_X5_plain_1 _ _ _ _ _ _, M)
    unfold f_X7_sum_4 f_X5_plain_1
    rw [es]
    by_cases c1 : w ≤ i
    · rw [if_pos (nI_le c1 (by omega)), if_pos (nI_le c1 (by omega))]
    · have hi : i < w := by omega
      have c1' : ¬ nI w ≤ nI i := nI_ge hi (by omega)
      obtain ⟨a1, a2⟩ := ea i hi
      rw [if_neg c1', if_neg c1']
      unfold f_X7_sum_3
      rw [if_pos (Eq.refl (0 : Int32))]
      unfold f_X7_sum_2 f_X7_sum_1
      rw [em, a1, nIc (show i ≤ 600 by omega), plus_eq hk hs a2, nI_1]
      exact ih (i + 1) _ _ (by omega) (by omega) (plus_clean hk hs a2)
theorem carried_loop {x : Int32} (hr : rowOK M x k w f) : ∀ n i s c, 501 ≤ i + n → i ≤ w → kcn k s → kcn k c → f_X7_sum_L70 x 1 M n s c (nI i) = (f_X5_carried_L8 k w f n s c (nI i), M) := by
  obtain ⟨hk, hw, em, es, ea⟩ := hr
  intro n
  induction n with
  | zero => intro i s c h1 h2; omega
  | succ n ih =>
    intro i s c h1 h2 hs hc
    show f_X7_sum_4 _ _ _ _ _ _ _ = (f_X5_carried_3 _ _ _ _ _ _ _, M)
    unfold f_X7_sum_4 f_X5_carried_3
    rw [es]
    by_cases c1 : w ≤ i
    · rw [if_pos (nI_le c1 (by omega)), if_pos (nI_le c1 (by omega))]
    · have hi : i < w := by omega
      have c1' : ¬ nI w ≤ nI i := nI_ge hi (by omega)
      obtain ⟨a1, a2⟩ := ea i hi
      rw [if_neg c1', if_neg c1']
      unfold f_X7_sum_3
      rw [if_neg n10]
      unfold f_X7_sum_2 f_X7_sum_1 f_X5_carried_2 f_X5_carried_1
      have y1 := plus_clean hk a2 (kcn_turned hk hc)
      have t1 := plus_clean hk hs y1
      have d1 := plus_clean hk t1 (kcn_turned hk hs)
      rw [em, a1, nIc (show i ≤ 600 by omega), minus_eq hk a2 hc, plus_eq hk hs y1, minus_eq hk t1 hs, minus_eq hk d1 y1, nI_1]
      exact ih (i + 1) _ _ (by omega) (by omega) t1 (plus_clean hk d1 (kcn_turned hk y1))
/-- the sum of halves of halves -/
def hvH (k : Nat) (f : Nat → Int64) : Nat → Nat → Nat → Int64
  | 0, a, _ => f a
  | e + 1, a, z => if z ≤ 1 then f a else f_X7_plus k (hvH k f e a (z / 2)) (hvH k f e (a + z / 2) (z - z / 2))
theorem hvH_clean (hk : k < 2) (hf : ∀ p, p < w → kcn k (f p)) : ∀ e a z, 1 ≤ z → a + z ≤ w → kcn k (hvH k f e a z) := by
  intro e
  induction e with
  | zero => intro a z h1 h2; exact hf a (by omega)
  | succ e ih =>
    intro a z h1 h2
    unfold hvH
    split
    · exact hf a (by omega)
    · exact plus_clean hk (ih _ _ (by omega) (by omega)) (ih _ _ (by omega) (by omega))
theorem halved_val (hk : k < 2) (hw : w ≤ 500) (hf : ∀ p, p < w → kcn k (f p)) : ∀ e q a z d, 1 ≤ z → z ≤ 2 ^ e → a + z ≤ w → d + e ≤ 40 → f_X5_ofPartR (e + q + 1) k w f (nI a) (nI z) (nI d) = hvH k f e a z := by
  have base : ∀ q a d, a + 1 ≤ w → d ≤ 40 → f_X5_ofPartR (q + 1) k w f (nI a) (nI 1) (nI d) = f a := by
    intro q a d h1 h2
    show f_X5_ofPartR_6 _ _ _ _ _ _ _ = _
    unfold f_X5_ofPartR_6 f_X5_ofPartR_5 f_X5_ofPartR_4 f_X5_ofPartR_3 f_X5_ofPartR_2
    rw [if_neg (show ¬ nI 1 < (1 : Int32) by decide), if_neg (nlt0 (by rw [nI_toInt (by omega)]; omega)), if_neg (nI_ge (by omega) (by omega)), if_pos (show nI d ≤ (40 : Int32) from nI_le (b := 40) h2 (by decide)), if_pos (show nI 1 = (1 : Int32) from rfl), nIc (by omega)]
  intro e
  induction e with
  | zero =>
    intro q a z d h1 h2 h3 h4
    have hz : z = 1 := by rw [Nat.pow_zero] at h2; omega
    subst hz
    exact base _ a d h3 (by omega)
  | succ e ih =>
    intro q a z d h1 h2 h3 h4
    by_cases hz : z ≤ 1
    · have hz1 : z = 1 := by omega
      subst hz1
      rw [show hvH k f (e + 1) a 1 = f a from rfl]
      exact base _ a d h3 (by omega)
    · have eH : hvH k f (e + 1) a z = f_X7_plus k (hvH k f e a (z / 2)) (hvH k f e (a + z / 2) (z - z / 2)) := if_neg hz
      rw [Nat.pow_succ] at h2
      have i1 := ih q a (z / 2) (d + 1) (by omega) (by omega) (by omega) (by omega)
      have i2 := ih q (a + z / 2) (z - z / 2) (d + 1) (by omega) (by omega) (by omega) (by omega)
      have hdiv : nI z / (2 : Int32) = nI (z / 2) := half_nI (by omega)
      rw [eH, show e + 1 + q + 1 = (e + q + 1) + 1 by omega]
      show f_X5_ofPartR_6 _ _ _ _ _ _ _ = _
      unfold f_X5_ofPartR_6 f_X5_ofPartR_5 f_X5_ofPartR_4 f_X5_ofPartR_3 f_X5_ofPartR_2 f_X5_ofPartR_1
      have hz1 : ¬ nI z = (1 : Int32) := fun e => by
        have := congrArg Int32.toInt e
        rw [nI_toInt (by omega), show (1 : Int32).toInt = 1 by decide] at this
        omega
      rw [if_neg (show ¬ nI z < (1 : Int32) from nI_nlt (b := 1) h1 (by omega)), if_neg (nlt0 (by rw [nI_toInt (by omega)]; omega)), if_neg (nI_ge (by omega) (by omega)), if_pos (show nI d ≤ (40 : Int32) from nI_le (b := 40) (by omega) (by decide)), if_neg hz1, hdiv, nI_1, nI_add, nI_subN (by omega) (by omega), i1, i2]
      exact plus_eq hk (hvH_clean hk hf _ _ _ (by omega) (by omega)) (hvH_clean hk hf _ _ _ (by omega) (by omega))
/-- the reference's stack of parts -/
def hvA (M M' : MSt) (d : Nat) : Prop := mn M' = mn M ∧ mf M' = mf M ∧ mk M' = mk M ∧ mb M' = mb M ∧ ms M' = ms M ∧ ∀ i, i < d → mpf M' i = mpf M i ∧ mpz M' i = mpz M i ∧ mpd M' i = mpd M i ∧ mpu M' i = mpu M i
theorem hvA.trans {M1 M2 M3 : MSt} {d e : Nat} (h1 : hvA M1 M2 d) (h2 : hvA M2 M3 e) (hde : d ≤ e) : hvA M1 M3 d := by
  obtain ⟨a1, a2, a3, a4, a5, a6⟩ := h1
  obtain ⟨b1, b2, b3, b4, b5, b6⟩ := h2
  refine ⟨b1.trans a1, b2.trans a2, b3.trans a3, b4.trans a4, b5.trans a5, fun i hi => ?_⟩
  obtain ⟨c1, c2, c3, c4⟩ := a6 i hi
  obtain ⟨d1, d2, d3, d4⟩ := b6 i (by omega)
  exact ⟨d1.trans c1, d2.trans c2, d3.trans c3, d4.trans c4⟩
theorem hvA.row {M' : MSt} {d : Nat} {x : Int32} (h : hvA M M' d) (hr : rowOK M x k w f) : rowOK M' x k w f := by
  obtain ⟨a1, a2, a3, a4, a5, a6⟩ := h
  unfold rowOK f_X7_size f_X7_at
  rw [a2, a3, a4]
  exact hr
/-- one push of the stack: the frame at d is told again, the one above is new -/
abbrev hvPush (M : MSt) (d : Nat) (last : Int64) (c fr sz : Int32) : MSt := (mn M, mf M, mk M, mb M, mw M, mo M, upd (mpf M) (d + 1) fr, upd (mpz M) (d + 1) sz, upd (upd (mpd M) d c) (d + 1) 0, vp_updL (mpu M) d last, ms M)
theorem upd_at {g : Nat → Int32} {i : Nat} {v : Int32} : upd g i v i = v := if_pos rfl
theorem upd_ne {g : Nat → Int32} {i l : Nat} {v : Int32} (h : ¬ l = i) : upd g i v l = g l := if_neg h
theorem hvPush_A {d : Nat} {last : Int64} {c fr sz : Int32} : hvA M (hvPush M d last c fr sz) d := by
  refine ⟨rfl, rfl, rfl, rfl, rfl, fun i hi => ⟨?_, ?_, ?_, ?_⟩⟩
  · show upd (mpf M) (d + 1) fr i = _
    rw [upd_ne (by omega)]
  · show upd (mpz M) (d + 1) sz i = _
    rw [upd_ne (by omega)]
  · show upd (upd (mpd M) d c) (d + 1) 0 i = _
    rw [upd_ne (by omega), upd_ne (by omega)]
  · show vp_updL (mpu M) d last i = _
    unfold vp_updL
    rw [if_neg (by omega)]
theorem halves_run {x : Int32} : ∀ e (M : MSt) (z d a : Nat) (last : Int64) (m : Nat), rowOK M x k w f → 1 ≤ z → z ≤ 2 ^ e → a + z ≤ w → d + e ≤ 40 → mpf M d = nI a → mpz M d = nI z → mpd M d = 0 → ∃ M', hvA M M' d ∧ f_X7_halves_L29 x (4 * z - 3 + m) M (nI d) last = f_X7_halves_L29 x m M' (nI d + (-1 : Int32)) (hvH k f e a z) := by
  have base : ∀ (M : MSt) (d a : Nat) (last : Int64) (m : Nat), rowOK M x k w f → a + 1 ≤ w → d ≤ 40 → mpf M d = nI a → mpz M d = nI 1 → f_X7_halves_L29 x (m + 1) M (nI d) last = f_X7_halves_L29 x m M (nI d + (-1 : Int32)) (f a) := by
    intro M d a last m hr h3 h4 ef ez
    show f_X7_halves_9 _ _ _ _ _ = _
    unfold f_X7_halves_9 f_X7_halves_8
    rw [if_neg (nlt0 (by rw [nI_toInt (by omega)]; omega)), nIc (show d ≤ 600 by omega), ez, if_pos (show nI 1 / (2 : Int32) = 0 by decide), ef, (hr.2.2.2.2 a (by omega)).1]
  intro e
  induction e with
  | zero =>
    intro M z d a last m hr h1 h2 h3 h4 ef ez ed
    have hz : z = 1 := by rw [Nat.pow_zero] at h2; omega
    subst hz
    refine ⟨M, ⟨rfl, rfl, rfl, rfl, rfl, fun _ _ => ⟨rfl, rfl, rfl, rfl⟩⟩, ?_⟩
    rw [show 4 * 1 - 3 + m = m + 1 by omega]
    exact base M d a last m hr h3 (by omega) ef ez
  | succ e ih =>
    intro M z d a last m hr h1 h2 h3 h4 ef ez ed
    by_cases hz : z ≤ 1
    · have hz1 : z = 1 := by omega
      subst hz1
      refine ⟨M, ⟨rfl, rfl, rfl, rfl, rfl, fun _ _ => ⟨rfl, rfl, rfl, rfl⟩⟩, ?_⟩
      rw [show 4 * 1 - 3 + m = m + 1 by omega]
      exact base M d a last m hr h3 (by omega) ef ez
    · have hw := hr.2.1
      have eH : hvH k f (e + 1) a z = f_X7_plus k (hvH k f e a (z / 2)) (hvH k f e (a + z / 2) (z - z / 2)) := if_neg hz
      rw [Nat.pow_succ] at h2
      have hdiv : nI z / (2 : Int32) = nI (z / 2) := half_nI (by omega)
      have hne : ¬ nI (z / 2) = 0 := nI_ne0 (by omega) (by omega)
      have hd0 : ¬ nI d < 0 := nlt0 (by rw [nI_toInt (by omega)]; omega)
      have hpd : nI (d + 1) + (-1 : Int32) = nI d := by
        have := nI_pred d
        rw [Int32.sub_eq_add_neg] at this
        exact this
      -- the first half
      have s1 : ∀ n, f_X7_halves_L29 x (n + 1) M (nI d) last = f_X7_halves_L29 x n (hvPush M d last 1 (nI a) (nI (z / 2))) (nI (d + 1)) last := by
        intro n
        show f_X7_halves_9 _ _ _ _ _ = _
        unfold f_X7_halves_9 f_X7_halves_8 f_X7_halves_7 f_X7_halves_6
        rw [if_neg hd0, nIc (show d ≤ 600 by omega), ez, hdiv, if_neg hne, ed, if_neg (show ¬ (0 : Int32) = 2 by decide), if_neg (show ¬ (0 : Int32) = 1 by decide)]
        unfold f_X7_halves_5 f_X7_halves_4 f_X7_halves_3 f_X7_halves_2 f_X7_halves_1
        rw [if_pos (Eq.refl (0 : Int32)), if_pos (Eq.refl (0 : Int32)), nI_1, nIc (show d ≤ 600 by omega), nIc (show d + 1 ≤ 600 by omega)]
        show f_X7_halves_L29 x n (mn M, mf M, mk M, mb M, mw M, mo M, upd (mpf M) (d + 1) (mpf M d), upd (mpz M) (d + 1) (nI (z / 2)), upd (upd (mpd M) d (mpd M d + 1)) (d + 1) 0, vp_updL (mpu M) d last, ms M) (nI (d + 1)) last = _
        rw [ef, ed]
        rfl
      have A1 := @hvPush_A M d last 1 (nI a) (nI (z / 2))
      obtain ⟨M2, A2, r2⟩ := ih (hvPush M d last 1 (nI a) (nI (z / 2))) (z / 2) (d + 1) a last (4 * (z - z / 2) - 3 + (m + 1) + 1) (A1.row hr) (by omega) (by omega) (by omega) (by omega) upd_at upd_at upd_at
      rw [hpd] at r2
      have B2 := A1.trans A2 (Nat.le_succ d)
      obtain ⟨g1, g2, g3, g4⟩ := A2.2.2.2.2.2 d (Nat.lt_succ_self d)
      have p2 : mpf M2 d = nI a := by
        rw [g1]
        show upd (mpf M) (d + 1) _ d = _
        rw [upd_ne (by omega), ef]
      have z2 : mpz M2 d = nI z := by
        rw [g2]
        show upd (mpz M) (d + 1) _ d = _
        rw [upd_ne (by omega), ez]
      have d2 : mpd M2 d = 1 := by
        rw [g3]
        show upd (upd (mpd M) d 1) (d + 1) 0 d = _
        rw [upd_ne (by omega), upd_at]
      -- the second half
      have s2 : ∀ n last2, f_X7_halves_L29 x (n + 1) M2 (nI d) last2 = f_X7_halves_L29 x n (hvPush M2 d last2 2 (nI (a + z / 2)) (nI (z - z / 2))) (nI (d + 1)) last2 := by
        intro n last2
        show f_X7_halves_9 _ _ _ _ _ = _
        unfold f_X7_halves_9 f_X7_halves_8 f_X7_halves_7 f_X7_halves_6
        rw [if_neg hd0, nIc (show d ≤ 600 by omega), z2, hdiv, if_neg hne, d2, if_neg (show ¬ (1 : Int32) = 2 by decide), if_pos (Eq.refl (1 : Int32))]
        unfold f_X7_halves_5 f_X7_halves_4 f_X7_halves_3 f_X7_halves_2 f_X7_halves_1
        rw [if_neg n10, if_neg n10, nI_1, nIc (show d ≤ 600 by omega), nIc (show d + 1 ≤ 600 by omega)]
        show f_X7_halves_L29 x n (mn M2, mf M2, mk M2, mb M2, mw M2, mo M2, upd (mpf M2) (d + 1) (mpf M2 d + nI (z / 2)), upd (mpz M2) (d + 1) (mpz M2 d - nI (z / 2)), upd (upd (mpd M2) d (mpd M2 d + 1)) (d + 1) 0, vp_updL (mpu M2) d last2, ms M2) (nI (d + 1)) last2 = _
        rw [p2, z2, d2, nI_add, nI_subN (by omega) (by omega)]
        rfl
      have A3 := @hvPush_A M2 d (hvH k f e a (z / 2)) 2 (nI (a + z / 2)) (nI (z - z / 2))
      obtain ⟨M4, A4, r4⟩ := ih (hvPush M2 d (hvH k f e a (z / 2)) 2 (nI (a + z / 2)) (nI (z - z / 2))) (z - z / 2) (d + 1) (a + z / 2) (hvH k f e a (z / 2)) (m + 1) ((B2.trans A3 (Nat.le_refl d)).row hr) (by omega) (by omega) (by omega) (by omega) upd_at upd_at upd_at
      rw [hpd] at r4
      have B4 := (B2.trans A3 (Nat.le_refl d)).trans A4 (Nat.le_succ d)
      obtain ⟨h1', h2', h3', h4'⟩ := A4.2.2.2.2.2 d (Nat.lt_succ_self d)
      have z4 : mpz M4 d = nI z := by
        rw [h2']
        show upd (mpz M2) (d + 1) _ d = _
        rw [upd_ne (by omega), z2]
      have d4 : mpd M4 d = 2 := by
        rw [h3']
        show upd (upd (mpd M2) d 2) (d + 1) 0 d = _
        rw [upd_ne (by omega), upd_at]
      have u4 : mpu M4 d = hvH k f e a (z / 2) := by
        rw [h4']
        show vp_updL (mpu M2) d _ d = _
        exact if_pos rfl
      refine ⟨M4, B4, ?_⟩
      rw [show 4 * z - 3 + m = (4 * (z / 2) - 3 + (4 * (z - z / 2) - 3 + (m + 1) + 1)) + 1 by omega, s1, r2, s2, r4, eH]
      show f_X7_halves_9 _ _ _ _ _ = _
      unfold f_X7_halves_9 f_X7_halves_8 f_X7_halves_7
      have em4 : mk M4 x.toNatClampNeg = k := (B4.row hr).2.2.1
      rw [if_neg hd0, nIc (show d ≤ 600 by omega), z4, hdiv, if_neg hne, d4, if_pos (Eq.refl (2 : Int32)), u4, em4]
theorem Rel.same (h : Rel S M) {M' : MSt} (h1 : mn M' = mn M) (h2 : mf M' = mf M) (h3 : mk M' = mk M) (h4 : mb M' = mb M) (h5 : ms M' = ms M) : Rel S M' := by
  unfold Rel mInv at h ⊢
  rw [h1, h2, h3, h4, h5]
  exact h
theorem R_sum (h : Rel S M) (x1 : Int32) (x2 : Int32) : R2l (f_X6_sum S x1 x2) (f_X7_sum M x1 x2) := by
  unfold f_X6_sum f_X6_sum_5 f_X6_sum_4 f_X6_sum_3 f_X6_sum_2 f_X7_sum f_X7_sum_13 f_X7_sum_12 f_X7_sum_11 f_X7_sum_10 f_X7_sum_9 f_X7_sum_8 f_X7_sum_7
  have ref : ∀ v : Int32, ¬ v ≤ 0 → R2l (f_X6_refuseLong S v) (if ms (mset_s M v) ≤ 0 then (if x2 = (2 : Int32) then f_X7_sum_6 (f_X7_halves (mset_s M v) x1) else f_X7_sum_L70 x1 x2 (mset_s M v) 501 0 0 0) else ((0 : Int64), mset_s M v)) := by
    intro v hv
    rw [if_neg (show ¬ ms (mset_s M v) ≤ 0 from hv)]
    exact ⟨rfl, h.rs v⟩
  rcases row_split h x1 with ⟨r1, r2, r3⟩ | ⟨j, hj, rfl, r1, r2, r3⟩
  · rw [if_neg r1]
    rcases r3 with r3 | ⟨r3, r4⟩
    · rw [if_pos r3]; exact ref 1 nle10
    · rw [if_neg r3, if_neg r4]; exact ref 1 nle10
  · rw [if_pos r1, if_neg r2, if_pos r3, h.j64 hj]
    have hk := h.kd hj
    have hz : kcn (ckd S j) 0 := by rw [zero_encf (k := ckd S j)]; exact kcn_enc hk.2 (Nat.zero_le _)
    have hrow : rowOK (mset_s M 0) (nI j) (ckd S j) (cln S j) (cbt S j) := (h.rs 0).rowOK hj
    by_cases c0 : x2 = 0
    · subst c0
      rw [if_pos (Eq.refl (0 : Int32)), if_neg (show ¬ (0 : Int32) < 0 by decide), if_pos (show (0 : Int32) ≤ 2 by decide), if_pos (show ms (mset_s M 0) ≤ 0 from le00), if_neg (show ¬ (0 : Int32) = 2 by decide)]
      have e : f_X7_sum_L70 (nI j) 0 (mset_s M 0) 501 (0 : Int64) (0 : Int64) (0 : Int32) = _ := plain_loop hrow 501 0 0 0 (by omega) (Nat.zero_le _) hz
      rw [e]
      exact ⟨rfl, h.rs 0⟩
    · rw [if_neg c0]
      by_cases c1 : x2 = 1
      · subst c1
        rw [if_pos (Eq.refl (1 : Int32)), if_neg (show ¬ (1 : Int32) < 0 by decide), if_pos (show (1 : Int32) ≤ 2 by decide), if_pos (show ms (mset_s M 0) ≤ 0 from le00), if_neg (show ¬ (1 : Int32) = 2 by decide)]
        have e : f_X7_sum_L70 (nI j) 1 (mset_s M 0) 501 (0 : Int64) (0 : Int64) (0 : Int32) = _ := carried_loop hrow 501 0 0 0 (by omega) (Nat.zero_le _) hz hz
        rw [e]
        exact ⟨rfl, h.rs 0⟩
      · rw [if_neg c1]
        by_cases c2 : x2 = 2
        · subst c2
          rw [if_pos (Eq.refl (2 : Int32)), if_neg (show ¬ (2 : Int32) < 0 by decide), if_pos (show (2 : Int32) ≤ 2 by decide), if_pos (show ms (mset_s M 0) ≤ 0 from le00), if_pos (Eq.refl (2 : Int32))]
          have hl := h.ln hj
          have hf : ∀ p, p < cln S j → kcn (ckd S j) (cbt S j p) := fun p hp => (h.bt hj hp).2
          have hc := halved_val hk.2 hl.2.2 hf 9 32 0 (cln S j) 0 hl.2.1 (by have : (2 : Nat) ^ 9 = 512 := rfl; omega) (by omega) (by omega)
          unfold f_X7_halves f_X7_halves_12 f_X7_halves_11
          have e0 : (0 : Int32).toNatClampNeg = 0 := by decide
          rw [e0]
          obtain ⟨M1, hM1⟩ : ∃ M1 : MSt, M1 = mset_pd (mset_pz (mset_pf (mset_s M 0) (upd (mpf (mset_s M 0)) 0 (0 : Int32))) (upd (mpz (mset_pf (mset_s M 0) (upd (mpf (mset_s M 0)) 0 (0 : Int32)))) 0 (f_X7_size (mset_pf (mset_s M 0) (upd (mpf (mset_s M 0)) 0 (0 : Int32))) (nI j)))) (upd (mpd (mset_pz (mset_pf (mset_s M 0) (upd (mpf (mset_s M 0)) 0 (0 : Int32))) (upd (mpz (mset_pf (mset_s M 0) (upd (mpf (mset_s M 0)) 0 (0 : Int32)))) 0 (f_X7_size (mset_pf (mset_s M 0) (upd (mpf (mset_s M 0)) 0 (0 : Int32))) (nI j))))) 0 (0 : Int32)) := ⟨_, rfl⟩
          rw [← hM1]
          have A : hvA (mset_s M 0) M1 0 := by
            rw [hM1]
            exact ⟨rfl, rfl, rfl, rfl, rfl, fun i hi => absurd hi (Nat.not_lt_zero i)⟩
          have pf0 : mpf M1 0 = nI 0 := by
            rw [hM1]
            show upd (mpf M) 0 (0 : Int32) 0 = nI 0
            rw [upd_at]; rfl
          have pz0 : mpz M1 0 = nI (cln S j) := by
            rw [hM1]
            show upd (mpz M) 0 (f_X7_size (mset_pf (mset_s M 0) (upd (mpf (mset_s M 0)) 0 (0 : Int32))) (nI j)) 0 = _
            rw [upd_at]
            exact h.size hj
          have pd0 : mpd M1 0 = 0 := by
            rw [hM1]
            show upd (mpd M) 0 (0 : Int32) 0 = 0
            rw [upd_at]
          obtain ⟨M2, A2, r2⟩ := halves_run 9 M1 (cln S j) 0 0 0 (2003 - 4 * cln S j) (A.row hrow) hl.2.1 (by have : (2 : Nat) ^ 9 = 512 := rfl; omega) (by omega) (by omega) pf0 pz0 pd0
          have B := A.trans A2 (Nat.le_refl 0)
          rw [show 4 * cln S j - 3 + (2003 - 4 * cln S j) = 2000 by omega] at r2
          have r3 : f_X7_halves_L29 (nI j) 2000 M1 (0 : Int32) (0 : Int64) = _ := r2
          rw [r3]
          obtain ⟨n, hn⟩ : ∃ n, 2003 - 4 * cln S j = n + 1 := ⟨2002 - 4 * cln S j, by omega⟩
          rw [hn]
          have r4 : f_X7_halves_L29 (nI j) (n + 1) M2 (nI 0 + (-1 : Int32)) (hvH (ckd S j) (cbt S j) 9 0 (cln S j)) = (hvH (ckd S j) (cbt S j) 9 0 (cln S j), M2) := by
            show f_X7_halves_9 _ _ _ _ _ = _
            unfold f_X7_halves_9
            rw [if_pos (show nI 0 + (-1 : Int32) < 0 by decide)]
          rw [r4]
          refine ⟨?_, ((h.rs 0)).same B.1 B.2.1 B.2.2.1 B.2.2.2.1 B.2.2.2.2.1⟩
          show f_X5_ofPartR 42 (ckd S j) (cln S j) (cbt S j) (0 : Int32) (nI (cln S j)) (0 : Int32) = hvH (ckd S j) (cbt S j) 9 0 (cln S j)
          exact hc
        · rw [if_neg c2]
          have h2 : (2 : Int32).toInt = 2 := by decide
          have h0 : (0 : Int32).toInt = 0 := by decide
          have h1 : (1 : Int32).toInt = 1 := by decide
          have n0 : x2.toInt ≠ 0 := fun e => c0 (Int32.toInt_inj.mp (by rw [e, h0]))
          have n1 : x2.toInt ≠ 1 := fun e => c1 (Int32.toInt_inj.mp (by rw [e, h1]))
          have n2 : x2.toInt ≠ 2 := fun e => c2 (Int32.toInt_inj.mp (by rw [e, h2]))
          have rr := ref 2 nle20
          rw [if_neg c2] at rr
          by_cases c3 : x2 < 0
          · rw [if_pos c3]; exact rr
          · rw [if_neg c3, if_neg (show ¬ x2 ≤ (2 : Int32) by rw [Int32.le_iff_toInt_le, h2]; rw [Int32.lt_iff_toInt_lt, h0] at c3; omega)]
            exact rr
end LOOPS
