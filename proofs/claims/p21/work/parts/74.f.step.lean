-- steps to the next numbers
section STEP
variable {k : Nat} {s t : Bool} {u v : Nat} {x y : Int64}
theorem lN_natAbs {V : Int64} {T : Int} (hV : V.toInt = T) (h : 0 ≤ T) : V = lN T.natAbs := by
  have := V.toInt_lt
  exact Int64.toInt_inj.mp (by rw [pf_lI (by omega)]; omega)
theorem lN_natAbsN {V : Int64} {T : Int} (hV : V.toInt = T) (h : T < 0) (h2 : -9223372036854775808 < T) : -V = lN T.natAbs := by
  exact Int64.toInt_inj.mp (by rw [Kit.i64_neg (by omega), pf_lI (by omega)]; omega)
theorem kinfI (hk : k < 2) : (kinf k).toInt = (kinfN k : Int) := by rw [kinf_lN hk, pf_lI kinfN_lt]
theorem ofRank_val (hk : k < 2) {V : Int64} {T : Int} (hV : V.toInt = T) (hT : T.natAbs ≤ kinfN k) (b : Bool) : f_X7_ofRank k V (bI b) = enc k (if T = 0 then b else decide (T < 0)) T.natAbs := by
  have hz : (0 : Int64).toInt = 0 := by decide
  have hI := @kinfN_lt k
  unfold f_X7_ofRank f_X7_ofRank_3 f_X7_ofRank_2 f_X7_ofRank_1
  by_cases h0 : T = 0
  · subst h0
    rw [if_pos (Int64.toInt_inj.mp (by rw [hV, hz])), if_pos rfl, sg7_0 hk]; rfl
  · rw [if_neg (fun h => h0 (by rw [h, hz] at hV; omega)), if_neg h0]
    by_cases h1 : 0 ≤ T
    · have hp : (0 : Int64) ≤ V := by rw [Int64.le_iff_toInt_le, hz, hV]; exact h1
      rw [if_pos hp, if_pos hp, lN_natAbs hV h1, decide_eq_false (show ¬ T < 0 by omega)]
      have := sgn7_lN (k := k) hk (kw hk hT) 0
      exact this
    · have hp : ¬ (0 : Int64) ≤ V := by rw [Int64.le_iff_toInt_le, hz, hV]; exact h1
      rw [if_neg hp, if_neg hp, lN_natAbsN hV (by omega) (by omega), decide_eq_true (show T < 0 by omega)]
      have := sgn7_lN (k := k) hk (kw hk hT) 1
      exact this
theorem stepped5_val (hk : k < 2) {V : Int64} {T : Int} {n : Int32} (hV : V.toInt = T) (hT : T.natAbs ≤ kinfN k) : f_X1_stepped_5 k n V = enc k (if T = 0 then decide (0 < n.toInt) else decide (T < 0)) T.natAbs := by
  have hz : (0 : Int64).toInt = 0 := by decide
  have hz2 : (0 : Int32).toInt = 0 := by decide
  have hI := @kinfN_lt k
  unfold f_X1_stepped_5 f_X1_stepped_4 f_X1_stepped_3 f_X1_stepped_2 f_X1_stepped_1
  by_cases h0 : T = 0
  · subst h0
    rw [if_pos (Int64.toInt_inj.mp (by rw [hV, hz])), if_pos rfl]
    by_cases hn : 0 < n.toInt
    · rw [if_neg (by rw [Int32.le_iff_toInt_le, hz2]; omega), decide_eq_true hn]
      exact sg1_0 (b := true) hk
    · rw [if_pos (by rw [Int32.le_iff_toInt_le, hz2]; omega), decide_eq_false hn]
      exact sg1_0 (b := false) hk
  · rw [if_neg (fun h => h0 (by rw [h, hz] at hV; omega)), if_neg h0]
    unfold jabsL
    by_cases h1 : 0 ≤ T
    · have hp : (0 : Int64) ≤ V := by rw [Int64.le_iff_toInt_le, hz, hV]; exact h1
      have hp2 : (0 : Int64) < V := by rw [Int64.lt_iff_toInt_lt, hz, hV]; omega
      rw [if_pos hp, if_pos hp2, decide_eq_false (show ¬ T < 0 by omega), lN_natAbs hV h1]
      exact sgn1_enc (k := k) hk (kw hk hT) 0
    · have hp : ¬ (0 : Int64) ≤ V := by rw [Int64.le_iff_toInt_le, hz, hV]; exact h1
      have hp2 : ¬ (0 : Int64) < V := by rw [Int64.lt_iff_toInt_lt, hz, hV]; omega
      rw [if_neg hp, if_neg hp2, decide_eq_true (show T < 0 by omega), lN_natAbsN hV (by omega) (by omega)]
      exact sgn1_enc (k := k) hk (kw hk hT) 1
def clampZ (k : Nat) (r : Int) : Int := max (-(kinfN k : Int)) (min (kinfN k : Int) r)
theorem clampZ_abs {r : Int} : (clampZ k r).natAbs ≤ kinfN k := by unfold clampZ; omega
theorem stepped_val (hk : k < 2) (hu : u ≤ kinfN k) (n : Int32) : f_X1_stepped k (enc k s u) n = if n = 0 then enc k s u else enc k (if clampZ k (ri s u + n.toInt) = 0 then decide (0 < n.toInt) else decide (clampZ k (ri s u + n.toInt) < 0)) (clampZ k (ri s u + n.toInt)).natAbs := by
  have hI := @kinfN_lt k
  have hw := kw hk hu
  unfold f_X1_stepped f_X1_stepped_7 f_X1_stepped_6
  by_cases h0 : n = 0
  · rw [if_pos h0, if_pos h0]
  · rw [if_neg h0, if_neg h0, nan0 hk hu, if_pos rfl, vrank_eq hk hw]
    have hr : (f_X7_rank k (enc k s u)).toInt = ri s u := rank_enc hk hw
    have hri : (ri s u).natAbs ≤ kinfN k := by unfold ri; split <;> omega
    have hn1 := n.toInt_lt
    have hn2 := n.le_toInt
    have hK : kinfN k ≤ 9218868437227405312 := by rcases two_of hk with rfl | rfl <;> decide
    have ha : (f_X7_rank k (enc k s u) + n.toInt64).toInt = ri s u + n.toInt := by
      rw [Kit.i64_add (by rw [hr, Int32.toInt_toInt64]; omega) (by rw [hr, Int32.toInt_toInt64]; omega), hr, Int32.toInt_toInt64]
    have hV : (jmaxL (-(kinf k)) (jminL (kinf k) (f_X7_rank k (enc k s u) + n.toInt64))).toInt = clampZ k (ri s u + n.toInt) := by
      rw [jmaxL_val, jminL_val, ha, Kit.i64_neg (by rw [kinfI hk]; omega), kinfI hk]; rfl
    exact stepped5_val hk hV clampZ_abs
theorem stepped_nan (hk : k < 2) (n : Int32) : f_X1_stepped k (knan k) n = knan k := by
  unfold f_X1_stepped f_X1_stepped_7 f_X1_stepped_6
  rw [nan1 hk, if_neg (show ¬ (1 : Int32) = 0 by decide)]
  split <;> rfl
theorem ri_abs (hu : u ≤ kinfN k) : (ri s u).natAbs = u ∧ (ri s u).natAbs ≤ kinfN k := by unfold ri; cases s <;> simp <;> omega
theorem ri_enc {r : Int} {b : Bool} : ri (if r = 0 then b else decide (r < 0)) r.natAbs = r := by
  unfold ri
  by_cases h : r = 0
  · subst h; cases b <;> rfl
  · rw [if_neg h]
    by_cases h2 : r < 0
    · rw [decide_eq_true h2, if_pos rfl]; omega
    · rw [decide_eq_false h2, if_neg (by decide)]; omega
theorem stepped_clean (hk : k < 2) (h : kcn k x) (n : Int32) : kcn k (f_X1_stepped k x n) := by
  rcases kcn_cases hk h with rfl | ⟨s, u, hu, rfl⟩
  · rw [stepped_nan hk]; exact kcn_nan hk
  · rw [stepped_val hk hu]
    split
    · exact kcn_enc hk hu
    · exact kcn_enc hk clampZ_abs
/-- a number's rank not 0, or the number told by its sign -/
theorem enc_of_ri {r : Int} (hr : r = ri s u) (h : ¬ r = 0) (b : Bool) : enc k (if r = 0 then b else decide (r < 0)) r.natAbs = enc k s u := by
  rw [if_neg h]
  subst hr
  unfold ri at h ⊢
  cases s
  · rw [if_neg (by decide)] at h ⊢
    rw [decide_eq_false (by omega)]; rfl
  · rw [if_pos rfl] at h ⊢
    rw [decide_eq_true (by omega)]
    congr 1
    omega
/-- the interval's bounds outward: LOW -/
theorem down_eq (hk : k < 2) (h : kcn k x) : (if f_X1_isNan k x = 0 then f_X1_stepped k x (-1 : Int32) else f_X1_signed k (1 : Int32) (kinf k)) = f_X7_downward k x ∧ kcn k (f_X7_downward k x) := by
  have n1 : ¬ (1 : Int32) = 0 := by decide
  have hm1 : (-1 : Int32).toInt = -1 := by decide
  have h1 : (1 : Int64).toInt = 1 := by decide
  unfold f_X7_downward f_X7_downward_2 f_X7_downward_1
  rw [nan_none hk h]
  rcases kcn_cases hk h with rfl | ⟨s, u, hu, rfl⟩
  · rw [none1, if_neg n1, if_neg n1]
    have e1 := sg1_inf (b := true) hk
    have e2 := sg7_inf (b := true) hk
    rw [bI_t] at e1 e2
    rw [e1, e2]
    exact ⟨rfl, kcn_enc hk (Nat.le_refl _)⟩
  · have hw := kw hk hu
    have hK : kinfN k ≤ 9218868437227405312 := by rcases two_of hk with rfl | rfl <;> decide
    have hi0 := (kinfN_w hk).2.2.1
    have hr : (f_X7_rank k (enc k s u)).toInt = ri s u := rank_enc hk hw
    have ha := @ri_abs k s u hu
    rw [none0 hk hu, if_pos (Eq.refl (0 : Int32)), if_pos (Eq.refl (0 : Int32)), stepped_val hk hu, if_neg (by decide), hm1]
    have hni : (-(kinf k)).toInt = -(kinfN k : Int) := by rw [Kit.i64_neg (by rw [kinfI hk]; omega), kinfI hk]
    by_cases hc : ri s u = -(kinfN k : Int)
    · rw [if_pos (Int64.toInt_inj.mp (by rw [hr, hni, hc]))]
      have e : clampZ k (ri s u + -1) = ri s u := by unfold clampZ; omega
      rw [e, enc_of_ri rfl (by omega)]
      exact ⟨rfl, kcn_enc hk hu⟩
    · have hne : ¬ f_X7_rank k (enc k s u) = -(kinf k) := fun h => hc (by have := congrArg Int64.toInt h; rw [hr, hni] at this; exact this)
      rw [if_neg hne]
      have e : clampZ k (ri s u + -1) = ri s u - 1 := by unfold clampZ; omega
      have hV : (f_X7_rank k (enc k s u) - (1 : Int64)).toInt = ri s u - 1 := by rw [Kit.i64_sub (by rw [hr, h1]; omega) (by rw [hr, h1]; omega), hr, h1]
      have hab : (ri s u - 1).natAbs ≤ kinfN k := by omega
      have := ofRank_val hk hV hab false
      rw [bI_f] at this
      rw [this, e, decide_eq_false (show ¬ (0 : Int) < -1 by decide)]
      exact ⟨rfl, kcn_enc hk hab⟩
theorem up_eq (hk : k < 2) (h : kcn k x) : (if f_X1_isNan k x = 0 then f_X1_stepped k x (1 : Int32) else kinf k) = f_X7_upward k x ∧ kcn k (f_X7_upward k x) := by
  have n1 : ¬ (1 : Int32) = 0 := by decide
  have hm1 : (1 : Int32).toInt = 1 := by decide
  have h1 : (1 : Int64).toInt = 1 := by decide
  unfold f_X7_upward f_X7_upward_2 f_X7_upward_1
  rw [nan_none hk h]
  rcases kcn_cases hk h with rfl | ⟨s, u, hu, rfl⟩
  · rw [none1, if_neg n1, if_neg n1]
    refine ⟨rfl, ?_⟩
    rw [kinf_enc hk]
    exact kcn_enc hk (Nat.le_refl _)
  · have hw := kw hk hu
    have hK : kinfN k ≤ 9218868437227405312 := by rcases two_of hk with rfl | rfl <;> decide
    have hi0 := (kinfN_w hk).2.2.1
    have hr : (f_X7_rank k (enc k s u)).toInt = ri s u := rank_enc hk hw
    have ha := @ri_abs k s u hu
    rw [none0 hk hu, if_pos (Eq.refl (0 : Int32)), if_pos (Eq.refl (0 : Int32)), stepped_val hk hu, if_neg (by decide), hm1]
    by_cases hc : ri s u = (kinfN k : Int)
    · rw [if_pos (Int64.toInt_inj.mp (by rw [hr, kinfI hk, hc]))]
      have e : clampZ k (ri s u + 1) = ri s u := by unfold clampZ; omega
      rw [e, enc_of_ri rfl (by omega)]
      exact ⟨rfl, kcn_enc hk hu⟩
    · have hne : ¬ f_X7_rank k (enc k s u) = kinf k := fun h => hc (by have := congrArg Int64.toInt h; rw [hr, kinfI hk] at this; exact this)
      rw [if_neg hne]
      have e : clampZ k (ri s u + 1) = ri s u + 1 := by unfold clampZ; omega
      have hV : (f_X7_rank k (enc k s u) + (1 : Int64)).toInt = ri s u + 1 := by rw [Kit.i64_add (by rw [hr, h1]; omega) (by rw [hr, h1]; omega), hr, h1]
      have hab : (ri s u + 1).natAbs ≤ kinfN k := by omega
      have := ofRank_val hk hV hab true
      rw [bI_t] at this
      rw [this, e, decide_eq_true (show (0 : Int) < 1 by decide)]
      exact ⟨rfl, kcn_enc hk hab⟩
theorem upd_same {f : Nat → Int64} {i : Nat} {b : Int64} (h : f i = b) : vp_updL f i b = f := by
  funext j
  unfold vp_updL
  split
  · rename_i e; rw [e, h]
  · rfl
end STEP

