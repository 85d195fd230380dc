-- order, sorts, cleaning: class and reference on clean numbers
def ri (s : Bool) (u : Nat) : Int := if s = true then -(u : Int) else u
def ti (s : Bool) (u : Nat) : Int := if s = true then -1 - (u : Int) else u
section ORD
variable {k : Nat} {s t : Bool} {u v : Nat} {x y : Int64}
theorem rank_le (hk : k < 2) (hu : u < 2 ^ wN k) (hv : v < 2 ^ wN k) : f_X7_rank k (enc k s u) ≤ f_X7_rank k (enc k t v) ↔ ri s u ≤ ri t v := by
  rw [Int64.le_iff_toInt_le, rank_enc hk hu, rank_enc hk hv]; exact Iff.rfl
theorem rank_lt (hk : k < 2) (hu : u < 2 ^ wN k) (hv : v < 2 ^ wN k) : f_X7_rank k (enc k s u) < f_X7_rank k (enc k t v) ↔ ri s u < ri t v := by
  rw [Int64.lt_iff_toInt_lt, rank_enc hk hu, rank_enc hk hv]; exact Iff.rfl
theorem rank_eq (hk : k < 2) (hu : u < 2 ^ wN k) (hv : v < 2 ^ wN k) : f_X7_rank k (enc k s u) = f_X7_rank k (enc k t v) ↔ ri s u = ri t v := by
  rw [← Int64.toInt_inj, rank_enc hk hu, rank_enc hk hv]; exact Iff.rfl
theorem trank_le (hk : k < 2) (hu : u < 2 ^ wN k) (hv : v < 2 ^ wN k) : f_X1_totalRank k (enc k s u) ≤ f_X1_totalRank k (enc k t v) ↔ ti s u ≤ ti t v := by
  rw [Int64.le_iff_toInt_le, trank_enc hk hu, trank_enc hk hv]; exact Iff.rfl
theorem trank_lt (hk : k < 2) (hu : u < 2 ^ wN k) (hv : v < 2 ^ wN k) : f_X1_totalRank k (enc k s u) < f_X1_totalRank k (enc k t v) ↔ ti s u < ti t v := by
  rw [Int64.lt_iff_toInt_lt, trank_enc hk hu, trank_enc hk hv]; exact Iff.rfl
theorem ti_inj : ti s u = ti t v ↔ s = t ∧ u = v := by
  unfold ti
  cases s <;> cases t <;> simp <;> omega
theorem ri_eq : ri s u = ri t v ↔ (s = t ∧ u = v) ∨ (u = 0 ∧ v = 0) := by
  unfold ri
  cases s <;> cases t <;> simp <;> omega
theorem nan_none (hk : k < 2) (h : kcn k x) : f_X1_isNan k x = f_X7_none k x := by
  rcases kcn_cases hk h with rfl | ⟨s, u, hu, rfl⟩
  · rw [nan1 hk, none1]
  · rw [nan0 hk hu, none0 hk hu]
theorem vrank_c (hk : k < 2) (h : kcn k x) : f_X1_valueRank k x = f_X7_rank k x := by
  obtain ⟨s, u, hu, rfl⟩ := enc_of hk h.1
  exact vrank_eq hk hu
theorem sortOf_eq (hk : k < 2) (h : kcn k x) : f_X1_sortOf k x = f_X7_sortOf k x := by
  unfold f_X1_sortOf f_X1_sortOf_4 f_X7_sortOf f_X7_sortOf_4
  rw [nan_none hk h]
  rcases kcn_cases hk h with rfl | ⟨s, u, hu, rfl⟩
  · rw [none1, if_neg (by decide), if_neg (by decide)]
  · have hw := kw hk hu
    rw [none0 hk hu, if_pos rfl, if_pos rfl]
    unfold f_X1_sortOf_3 f_X7_sortOf_3 f_X1_sortOf_2 f_X7_sortOf_2 f_X1_sortOf_1 f_X7_sortOf_1
    rw [mag_enc hk hw, zero_enc hk hw, inf7_enc hk hw, neg_enc hk hw, min_enc hk hw, kinf_lN hk]
    have h3 := @kinfN_lt k
    have h4 := (kinfN_w hk).2.2.1
    by_cases h1 : u = 0
    · subst h1
      rw [if_pos (show lN 0 = (0 : Int64) from rfl), decide_eq_true (rfl : (0 : Nat) = 0), bI_t, if_neg (show ¬ (1 : Int32) = 0 by decide)]
      cases s <;> rfl
    · rw [if_neg (fun e => h1 ((lN0 (by omega)).mp e)), decide_eq_false h1, bI_f, if_pos rfl]
      by_cases h2 : u = kinfN k
      · rw [if_pos (by rw [h2]), decide_eq_true h2, bI_t, if_neg (show ¬ (1 : Int32) = 0 by decide)]
        cases s <;> rfl
      · rw [if_neg (fun e => h2 ((lN_eq64 (by omega) (by omega)).mp e)), decide_eq_false h2, bI_f, if_pos rfl]
        cases s <;> rfl
theorem clean_go (hk : k < 2) {c : Int64} (hr : k = 1 → 0 ≤ c.toInt ∧ c.toInt < 4294967296) : f_X1_cleaned_1 k c = f_X7_clean_1 k c ∧ kcn k (f_X7_clean_1 k c) := by
  obtain ⟨s, u, hu, rfl⟩ := enc_of hk hr
  have h3 := @kinfN_lt k
  have h2 := lt63 hk hu
  have e1 : f_X1_cleaned_1 k (enc k s u) = if u ≤ kinfN k then enc k s u else knan k := by
    unfold f_X1_cleaned_1 f_X1_isNan f_X1_isNan_1
    rw [mag_enc hk hu, kinf_lN hk]
    by_cases h1 : u ≤ kinfN k
    · rw [if_pos ((lN_le63 h2 h3).mpr h1), if_pos (Eq.refl (0 : Int32)), if_pos h1]
    · rw [if_neg (fun e => h1 ((lN_le63 h2 h3).mp e)), if_neg (show ¬ (1 : Int32) = 0 by decide), if_neg h1]
  have e2 : f_X7_clean_1 k (enc k s u) = if u ≤ kinfN k then enc k s u else knan k := by
    unfold f_X7_clean_1
    rw [uns_enc hk hu, kinf_lN hk]
    by_cases h1 : u ≤ kinfN k
    · rw [if_pos ((lN_le63 h2 h3).mpr h1), if_pos h1]
    · rw [if_neg (fun e => h1 ((lN_le63 h2 h3).mp e)), if_neg h1]
  refine ⟨e1.trans e2.symm, ?_⟩
  rw [e2]
  by_cases h1 : u ≤ kinfN k
  · rw [if_pos h1]; exact kcn_enc hk h1
  · rw [if_neg h1]; exact kcn_nan hk
theorem cleaned_eq (hk : k < 2) (b : Int64) : f_X1_cleaned k b = f_X7_clean k b ∧ kcn k (f_X7_clean k b) := by
  unfold f_X1_cleaned f_X7_clean f_X7_clean_2
  rcases two_of hk with rfl | rfl
  · rw [show ksgn 0 ||| (ksgn 0 - 1) = (-1 : Int64) by decide +kernel, Int64.and_neg_one, if_neg (by decide)]
    exact clean_go (by decide) (fun h => absurd h (by decide))
  · rw [show ksgn 1 ||| (ksgn 1 - 1) = (4294967295 : Int64) by decide +kernel, if_pos (show nI 1 = (1 : Int32) from rfl)]
    refine clean_go (by decide) (fun _ => ?_)
    obtain ⟨n, hn, rfl⟩ := wb_of b
    rw [show (4294967295 : Int64) = lN (2 ^ 32 - 1) by decide +kernel, wb_mask hn (by decide)]
    have := Nat.mod_lt n (show 0 < 2 ^ 32 by decide)
    rw [pf_lI (by omega)]
    omega
theorem one_eq (hk : k < 2) : f_X1_one k = kone k := by rcases two_of hk with rfl | rfl <;> decide +kernel
/-- comparing by values -/
theorem below_eq (hk : k < 2) (hx : kcn k x) (hy : kcn k y) : f_X1_isBelow k x y = if f_X7_none k x = 0 ∧ f_X7_none k y = 0 ∧ f_X7_rank k x < f_X7_rank k y then 1 else 0 := by
  unfold f_X1_isBelow f_X1_isBelow_3 f_X1_isBelow_2 f_X1_isBelow_1
  rw [nan_none hk hx, nan_none hk hy, vrank_c hk hx, vrank_c hk hy]
  by_cases h1 : f_X7_none k x = 0
  · by_cases h2 : f_X7_none k y = 0
    · rw [if_pos h1, if_pos h2]
      by_cases h3 : f_X7_rank k x < f_X7_rank k y
      · rw [if_pos (And.intro h1 (And.intro h2 h3)), if_neg (by rw [Int64.le_iff_toInt_le]; rw [Int64.lt_iff_toInt_lt] at h3; omega)]
      · rw [if_pos (show f_X7_rank k y ≤ f_X7_rank k x by rw [Int64.le_iff_toInt_le]; rw [Int64.lt_iff_toInt_lt] at h3; omega), if_neg (fun h => h3 h.2.2)]
    · rw [if_pos h1, if_neg h2, if_neg (fun h => h2 h.2.1)]
  · rw [if_neg h1, if_neg (fun h => h1 h.1)]
theorem atMost_eq (hk : k < 2) (hx : kcn k x) (hy : kcn k y) : f_X1_atMost k x y = if f_X7_none k x = 0 ∧ f_X7_none k y = 0 ∧ f_X7_rank k x ≤ f_X7_rank k y then 1 else 0 := by
  unfold f_X1_atMost f_X1_atMost_3 f_X1_atMost_2 f_X1_atMost_1
  rw [nan_none hk hx, nan_none hk hy, vrank_c hk hx, vrank_c hk hy]
  by_cases h1 : f_X7_none k x = 0
  · by_cases h2 : f_X7_none k y = 0
    · rw [if_pos h1, if_pos h2]
      by_cases h3 : f_X7_rank k x ≤ f_X7_rank k y
      · rw [if_pos (And.intro h1 (And.intro h2 h3)), if_neg (by rw [Int64.lt_iff_toInt_lt]; rw [Int64.le_iff_toInt_le] at h3; omega)]
      · rw [if_pos (show f_X7_rank k y < f_X7_rank k x by rw [Int64.lt_iff_toInt_lt]; rw [Int64.le_iff_toInt_le] at h3; omega), if_neg (fun h => h3 h.2.2)]
    · rw [if_pos h1, if_neg h2, if_neg (fun h => h2 h.2.1)]
  · rw [if_neg h1, if_neg (fun h => h1 h.1)]
/-- what 'compare' of the reference answers for two numbers -/
def cmpV (k : Nat) (x y : Int64) : Int32 := if f_X7_none k x = 0 then (if f_X7_none k y = 0 then (if f_X7_rank k y ≤ f_X7_rank k x then (if f_X7_rank k x = f_X7_rank k y then 26 else 52) else 41) else 32) else 32
theorem relations_eq (hk : k < 2) (hx : kcn k x) (hy : kcn k y) : f_X1_relations k x y = cmpV k x y := by
  unfold f_X1_relations f_X1_relations_3 f_X1_relations_2 f_X1_relations_1 cmpV
  rw [below_eq hk hx hy, below_eq hk hy hx, atMost_eq hk hx hy]
  have z1 : ¬ (1 : Int32) = 0 := by decide
  by_cases h1 : f_X7_none k x = 0
  · by_cases h2 : f_X7_none k y = 0
    · by_cases h3 : f_X7_rank k x < f_X7_rank k y
      · have n1 : ¬ f_X7_rank k y ≤ f_X7_rank k x := by rw [Int64.le_iff_toInt_le]; rw [Int64.lt_iff_toInt_lt] at h3; omega
        have p1 : f_X7_none k x = 0 ∧ f_X7_none k y = 0 ∧ f_X7_rank k x < f_X7_rank k y := ⟨h1, h2, h3⟩
        rw [if_pos p1, if_neg z1, if_pos h1, if_pos h2, if_neg n1]
      · have n1 : ¬ (f_X7_none k x = 0 ∧ f_X7_none k y = 0 ∧ f_X7_rank k x < f_X7_rank k y) := fun h => h3 h.2.2
        have l1 : f_X7_rank k y ≤ f_X7_rank k x := by rw [Int64.le_iff_toInt_le]; rw [Int64.lt_iff_toInt_lt] at h3; omega
        rw [if_neg n1, if_pos (Eq.refl (0 : Int32)), if_pos h1, if_pos h2, if_pos l1]
        by_cases h4 : f_X7_rank k x = f_X7_rank k y
        · have n2 : ¬ (f_X7_none k y = 0 ∧ f_X7_none k x = 0 ∧ f_X7_rank k y < f_X7_rank k x) := fun h => by have := h.2.2; rw [h4, Int64.lt_iff_toInt_lt] at this; omega
          have p2 : f_X7_none k x = 0 ∧ f_X7_none k y = 0 ∧ f_X7_rank k x ≤ f_X7_rank k y := ⟨h1, h2, by rw [h4, Int64.le_iff_toInt_le]; omega⟩
          rw [if_neg n2, if_pos (Eq.refl (0 : Int32)), if_pos p2, if_neg z1, if_pos h4]
        · have h5 : f_X7_rank k y < f_X7_rank k x := by
            rw [Int64.lt_iff_toInt_lt] at h3 ⊢
            have : (f_X7_rank k x).toInt ≠ (f_X7_rank k y).toInt := fun e => h4 (Int64.toInt_inj.mp e)
            omega
          have p2 : f_X7_none k y = 0 ∧ f_X7_none k x = 0 ∧ f_X7_rank k y < f_X7_rank k x := ⟨h2, h1, h5⟩
          rw [if_pos p2, if_neg z1, if_neg h4]
    · have n1 : ¬ (f_X7_none k x = 0 ∧ f_X7_none k y = 0 ∧ f_X7_rank k x < f_X7_rank k y) := fun h => h2 h.2.1
      have n2 : ¬ (f_X7_none k y = 0 ∧ f_X7_none k x = 0 ∧ f_X7_rank k y < f_X7_rank k x) := fun h => h2 h.1
      have n3 : ¬ (f_X7_none k x = 0 ∧ f_X7_none k y = 0 ∧ f_X7_rank k x ≤ f_X7_rank k y) := fun h => h2 h.2.1
      rw [if_neg n1, if_pos (Eq.refl (0 : Int32)), if_neg n2, if_pos (Eq.refl (0 : Int32)), if_neg n3, if_pos (Eq.refl (0 : Int32)), if_pos h1, if_neg h2]
  · have n1 : ¬ (f_X7_none k x = 0 ∧ f_X7_none k y = 0 ∧ f_X7_rank k x < f_X7_rank k y) := fun h => h1 h.1
    have n2 : ¬ (f_X7_none k y = 0 ∧ f_X7_none k x = 0 ∧ f_X7_rank k y < f_X7_rank k x) := fun h => h1 h.2.1
    have n3 : ¬ (f_X7_none k x = 0 ∧ f_X7_none k y = 0 ∧ f_X7_rank k x ≤ f_X7_rank k y) := fun h => h1 h.1
    rw [if_neg n1, if_pos (Eq.refl (0 : Int32)), if_neg n2, if_pos (Eq.refl (0 : Int32)), if_neg n3, if_pos (Eq.refl (0 : Int32)), if_neg h1]
theorem knan_ti (hk : k < 2) : (f_X1_totalRank k (knan k)).toInt = (knanN k : Int) := by
  rw [knan_enc hk, trank_enc hk (kinfN_w hk).2.1]; rfl
def cmpT (k : Nat) (x y : Int64) : Int32 := if f_X1_totalRank k y ≤ f_X1_totalRank k x then (if f_X1_totalRank k x ≤ f_X1_totalRank k y then 0 else 1) else -1
theorem cmpT_lt (h : (f_X1_totalRank k x).toInt < (f_X1_totalRank k y).toInt) : cmpT k x y = -1 := by
  unfold cmpT
  rw [if_neg (by rw [Int64.le_iff_toInt_le]; omega)]
theorem cmpT_gt (h : (f_X1_totalRank k y).toInt < (f_X1_totalRank k x).toInt) : cmpT k x y = 1 := by
  unfold cmpT
  rw [if_pos (by rw [Int64.le_iff_toInt_le]; omega), if_neg (by rw [Int64.le_iff_toInt_le]; omega)]
theorem cmpT_eq (h : (f_X1_totalRank k y).toInt = (f_X1_totalRank k x).toInt) : cmpT k x y = 0 := by
  unfold cmpT
  rw [if_pos (by rw [Int64.le_iff_toInt_le]; omega), if_pos (by rw [Int64.le_iff_toInt_le]; omega)]
theorem order_eq (hk : k < 2) (hx : kcn k x) (hy : kcn k y) : f_X7_order k x y = cmpT k x y := by
  have hw := kinfN_w hk
  unfold f_X7_order f_X7_order_7
  by_cases e : x = y
  · rw [if_pos e, cmpT_eq (by rw [e])]
  · rw [if_neg e]
    unfold f_X7_order_6 f_X7_order_5 f_X7_order_1
    rcases kcn_cases hk hx with rfl | ⟨s, u, hu, rfl⟩
    · rw [none1, if_neg (by decide), if_neg (by decide)]
      rcases kcn_cases hk hy with rfl | ⟨t, v, hv, rfl⟩
      · exact absurd rfl e
      · refine (cmpT_gt ?_).symm
        rw [knan_ti hk, trank_enc hk (kw hk hv)]
        split <;> omega
    · rw [none0 hk hu, if_pos rfl, if_pos rfl]
      rcases kcn_cases hk hy with rfl | ⟨t, v, hv, rfl⟩
      · rw [none1, if_neg (by decide)]
        refine (cmpT_lt ?_).symm
        rw [knan_ti hk, trank_enc hk (kw hk hu)]
        split <;> omega
      · have hu1 := kw hk hu
        have hv1 := kw hk hv
        rw [none0 hk hv, if_pos rfl]
        unfold f_X7_order_4 f_X7_order_2 f_X7_order_3
        rw [min_enc hk hu1]
        have tx := trank_enc (s := s) hk hu1
        have ty := trank_enc (s := t) hk hv1
        have ne : ¬ (s = t ∧ u = v) := fun h => e (by rw [h.1, h.2])
        by_cases h1 : ri s u = ri t v
        · rw [if_pos ((rank_eq hk hu1 hv1).mpr h1)]
          rcases ri_eq.mp h1 with h2 | ⟨h2, h3⟩
          · exact absurd h2 ne
          · subst h2; subst h3
            cases s
            · cases t
              · exact absurd ⟨rfl, rfl⟩ ne
              · rw [bI_f, if_pos rfl, cmpT_gt (by rw [tx, ty]; simp)]
            · cases t
              · rw [bI_t, if_neg (by decide), cmpT_lt (by rw [tx, ty]; simp)]
              · exact absurd ⟨rfl, rfl⟩ ne
        · rw [if_neg (fun h => h1 ((rank_eq hk hu1 hv1).mp h))]
          by_cases h2 : ri t v ≤ ri s u
          · rw [if_pos ((rank_le hk hv1 hu1).mpr h2)]
            refine (cmpT_gt ?_).symm
            rw [tx, ty]
            unfold ri at h1 h2
            cases s <;> cases t <;> simp at h1 h2 ⊢ <;> omega
          · rw [if_neg (fun h => h2 ((rank_le hk hv1 hu1).mp h))]
            refine (cmpT_lt ?_).symm
            rw [tx, ty]
            unfold ri at h1 h2
            cases s <;> cases t <;> simp at h1 h2 ⊢ <;> omega
theorem or_zero_enc (hk : k < 2) : enc k s 0 ||| enc k t 0 = enc k (s || t) 0 := by
  rcases two_of hk with rfl | rfl <;> cases s <;> cases t <;> decide +kernel
theorem and_zero_enc (hk : k < 2) : enc k s 0 &&& enc k t 0 = enc k (s && t) 0 := by
  rcases two_of hk with rfl | rfl <;> cases s <;> cases t <;> decide +kernel
theorem lesser_eq (hk : k < 2) (hu : u ≤ kinfN k) (hv : v ≤ kinfN k) : f_X1_lesser k (enc k s u) (enc k t v) = f_X7_lesser k (enc k s u) (enc k t v) := by
  have hu1 := kw hk hu
  have hv1 := kw hk hv
  unfold f_X7_lesser f_X7_lesser_5 f_X7_lesser_4 f_X7_lesser_3 f_X7_lesser_2 f_X1_lesser f_X1_lesser_1
  rw [none0 hk hu, none0 hk hv, if_pos rfl, if_pos rfl]
  by_cases h1 : ri s u = ri t v
  · rw [if_pos ((rank_eq hk hu1 hv1).mpr h1)]
    rcases ri_eq.mp h1 with ⟨rfl, rfl⟩ | ⟨rfl, rfl⟩
    · rw [if_neg (fun h => by have := (trank_lt hk hv1 hu1).mp h; omega), Int64.or_self]
    · rw [or_zero_enc hk]
      by_cases h2 : ti t 0 < ti s 0
      · rw [if_pos ((trank_lt hk hv1 hu1).mpr h2)]
        unfold ti at h2
        cases s <;> cases t <;> simp at h2 ⊢
      · rw [if_neg (fun h => h2 ((trank_lt hk hv1 hu1).mp h))]
        unfold ti at h2
        cases s <;> cases t <;> simp at h2 ⊢
  · rw [if_neg (fun h => h1 ((rank_eq hk hu1 hv1).mp h))]
    by_cases h2 : ri t v ≤ ri s u
    · rw [if_pos ((rank_le hk hv1 hu1).mpr h2), if_pos ((trank_lt hk hv1 hu1).mpr (by unfold ri at h1 h2; unfold ti; cases s <;> cases t <;> simp at h1 h2 ⊢ <;> omega))]
    · rw [if_neg (fun h => h2 ((rank_le hk hv1 hu1).mp h)), if_neg (fun h => by have h3 := (trank_lt hk hv1 hu1).mp h; unfold ri at h1 h2; unfold ti at h3; cases s <;> cases t <;> simp at h1 h2 h3 <;> omega)]
theorem greater_eq (hk : k < 2) (hu : u ≤ kinfN k) (hv : v ≤ kinfN k) : f_X1_greater k (enc k s u) (enc k t v) = f_X7_greater k (enc k s u) (enc k t v) := by
  have hu1 := kw hk hu
  have hv1 := kw hk hv
  unfold f_X7_greater f_X7_greater_5 f_X7_greater_4 f_X7_greater_3 f_X7_greater_2 f_X1_greater f_X1_greater_1
  rw [none0 hk hu, none0 hk hv, if_pos rfl, if_pos rfl]
  by_cases h1 : ri s u = ri t v
  · rw [if_pos ((rank_eq hk hu1 hv1).mpr h1)]
    rcases ri_eq.mp h1 with ⟨rfl, rfl⟩ | ⟨rfl, rfl⟩
    · rw [if_neg (fun h => by have := (trank_lt hk hu1 hv1).mp h; omega), Int64.and_self]
    · rw [and_zero_enc hk]
      by_cases h2 : ti s 0 < ti t 0
      · rw [if_pos ((trank_lt hk hu1 hv1).mpr h2)]
        unfold ti at h2
        cases s <;> cases t <;> simp at h2 ⊢
      · rw [if_neg (fun h => h2 ((trank_lt hk hu1 hv1).mp h))]
        unfold ti at h2
        cases s <;> cases t <;> simp at h2 ⊢
  · rw [if_neg (fun h => h1 ((rank_eq hk hu1 hv1).mp h))]
    by_cases h2 : ri s u ≤ ri t v
    · rw [if_pos ((rank_le hk hu1 hv1).mpr h2), if_pos ((trank_lt hk hu1 hv1).mpr (by unfold ri at h1 h2; unfold ti; cases s <;> cases t <;> simp at h1 h2 ⊢ <;> omega))]
    · rw [if_neg (fun h => h2 ((rank_le hk hu1 hv1).mp h)), if_neg (fun h => by have h3 := (trank_lt hk hu1 hv1).mp h; unfold ri at h1 h2; unfold ti at h3; cases s <;> cases t <;> simp at h1 h2 h3 <;> omega)]
/-- the lesser and the greater of two numbers is one of them, or a zero of theirs -/
theorem lesser_mem (hk : k < 2) (hu : u ≤ kinfN k) (hv : v ≤ kinfN k) : ∃ s' u', u' ≤ kinfN k ∧ f_X7_lesser k (enc k s u) (enc k t v) = enc k s' u' := by
  rw [← lesser_eq hk hu hv]
  unfold f_X1_lesser f_X1_lesser_1
  split
  · exact ⟨t, v, hv, rfl⟩
  · exact ⟨s, u, hu, rfl⟩
theorem greater_mem (hk : k < 2) (hu : u ≤ kinfN k) (hv : v ≤ kinfN k) : ∃ s' u', u' ≤ kinfN k ∧ f_X7_greater k (enc k s u) (enc k t v) = enc k s' u' := by
  rw [← greater_eq hk hu hv]
  unfold f_X1_greater f_X1_greater_1
  split
  · exact ⟨t, v, hv, rfl⟩
  · exact ⟨s, u, hu, rfl⟩
/-- the sign turned -/
theorem turned_enc (hk : k < 2) (hu : u ≤ kinfN k) : f_X7_turned k (enc k s u) = enc k (!s) u := by
  unfold f_X7_turned f_X7_turned_1
  rw [none0 hk hu, if_pos rfl, flip_enc hk (kw hk hu)]
theorem turned_nan : f_X7_turned k (knan k) = knan k := by
  unfold f_X7_turned f_X7_turned_1
  rw [none1, if_neg (by decide)]
theorem opposite_eq (hk : k < 2) (h : kcn k x) : f_X1_opposite k x = f_X7_turned k x := by
  unfold f_X1_opposite f_X1_opposite_1 f_X7_turned f_X7_turned_1
  rw [nan_none hk h]
theorem kcn_turned2 (hk : k < 2) (h : kcn k x) : kcn k (f_X7_turned k x) := by
  rcases kcn_cases hk h with rfl | ⟨s, u, hu, rfl⟩
  · rw [turned_nan]; exact kcn_nan hk
  · rw [turned_enc hk hu]; exact kcn_enc hk hu
end ORD
theorem kcn_turned {k : Nat} (hk : k < 2) {b : Int64} (hc : kcn k b) : kcn k (f_X7_turned k b) := kcn_turned2 hk hc

