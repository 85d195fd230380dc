-- what compares, orders and sorts of numbers tell
section ORD
variable {k : Nat} {s t : Bool} {u v : Nat} {x y : Int64}
theorem rel_enc (hk : k < 2) (hu : u ≤ kinfN k) (hv : v ≤ kinfN k) : f_X1_relations k (enc k s u) (enc k t v) = if ri t v ≤ ri s u then (if ri s u = ri t v then 26 else 52) else 41 := by
  rw [relations_eq hk (kcn_enc hk hu) (kcn_enc hk hv)]
  unfold cmpV
  rw [none0 hk hu, none0 hk hv, if_pos (Eq.refl (0 : Int32)), if_pos (Eq.refl (0 : Int32))]
  by_cases h : ri t v ≤ ri s u
  · rw [if_pos ((rank_le hk (kw hk hv) (kw hk hu)).mpr h), if_pos h]
    by_cases h2 : ri s u = ri t v
    · rw [if_pos ((rank_eq hk (kw hk hu) (kw hk hv)).mpr h2), if_pos h2]
    · rw [if_neg (fun h3 => h2 ((rank_eq hk (kw hk hu) (kw hk hv)).mp h3)), if_neg h2]
  · rw [if_neg (fun h3 => h ((rank_le hk (kw hk hv) (kw hk hu)).mp h3)), if_neg h]
theorem rel_nan_l (hk : k < 2) (hy : kcn k y) : f_X1_relations k (knan k) y = 32 := by
  rw [relations_eq hk (kcn_nan hk) hy]
  unfold cmpV
  rw [none1, if_neg n10]
theorem rel_nan_r (hk : k < 2) (hx : kcn k x) : f_X1_relations k x (knan k) = 32 := by
  rw [relations_eq hk hx (kcn_nan hk)]
  unfold cmpV
  rw [none1, if_neg n10]
  split <;> rfl
theorem rel_lt (hk : k < 2) (hu : u ≤ kinfN k) (hv : v ≤ kinfN k) (h : ri s u < ri t v) : f_X1_relations k (enc k s u) (enc k t v) = 41 := by
  rw [rel_enc hk hu hv, if_neg (by omega)]
theorem rel_eq (hk : k < 2) (hu : u ≤ kinfN k) (hv : v ≤ kinfN k) (h : ri s u = ri t v) : f_X1_relations k (enc k s u) (enc k t v) = 26 := by
  rw [rel_enc hk hu hv, if_pos (by omega), if_pos h]
theorem rel_gt (hk : k < 2) (hu : u ≤ kinfN k) (hv : v ≤ kinfN k) (h : ri t v < ri s u) : f_X1_relations k (enc k s u) (enc k t v) = 52 := by
  rw [rel_enc hk hu hv, if_pos (by omega), if_neg (by omega)]
theorem rel_self (hk : k < 2) (hx : kcn k x) : f_X1_relations k x x = if x = knan k then 32 else 26 := by
  rcases kcn_cases hk hx with rfl | ⟨s, u, hu, rfl⟩
  · rw [if_pos rfl, rel_nan_l hk hx]
  · rw [rel_eq hk hu hu rfl, if_neg (fun e => by have h := nan0 (s := s) hk hu; rw [e, nan1 hk] at h; exact absurd h n10)]
theorem enc_ne_nan (hk : k < 2) (hu : u ≤ kinfN k) : ¬ enc k s u = knan k := fun e => by
  have h := nan0 (s := s) hk hu
  rw [e, nan1 hk] at h
  exact absurd h n10
def relT (c : Int32) : Int32 := if c = 41 then 52 else if c = 52 then 41 else c
theorem rel_turn (hk : k < 2) (hx : kcn k x) (hy : kcn k y) : f_X1_relations k y x = relT (f_X1_relations k x y) := by
  rcases kcn_cases hk hx with rfl | ⟨s, u, hu, rfl⟩
  · rw [rel_nan_l hk hy, rel_nan_r hk hy]; rfl
  · rcases kcn_cases hk hy with rfl | ⟨t, v, hv, rfl⟩
    · rw [rel_nan_l hk hx, rel_nan_r hk hx]; rfl
    · rcases Int.lt_trichotomy (ri s u) (ri t v) with h | h | h
      · rw [rel_lt hk hu hv h, rel_gt hk hv hu h]; rfl
      · rw [rel_eq hk hu hv h, rel_eq hk hv hu h.symm]; rfl
      · rw [rel_gt hk hu hv h, rel_lt hk hv hu h]; rfl
theorem tot_turn : cmpT k y x = -(cmpT k x y) := by
  rcases Int.lt_trichotomy (f_X1_totalRank k x).toInt (f_X1_totalRank k y).toInt with h | h | h
  · rw [cmpT_lt h, cmpT_gt h]; rfl
  · rw [cmpT_eq h.symm, cmpT_eq h]; rfl
  · rw [cmpT_gt h, cmpT_lt h]
theorem tot_nan_l (hk : k < 2) (hu : u ≤ kinfN k) : cmpT k (knan k) (enc k s u) = 1 := by
  have hw := kinfN_w hk
  refine cmpT_gt ?_
  rw [knan_ti hk, trank_enc hk (kw hk hu)]
  split <;> omega
theorem tot_nan_r (hk : k < 2) (hu : u ≤ kinfN k) : cmpT k (enc k s u) (knan k) = -1 := by
  have hw := kinfN_w hk
  refine cmpT_lt ?_
  rw [knan_ti hk, trank_enc hk (kw hk hu)]
  split <;> omega
theorem tot_self : cmpT k x x = 0 := cmpT_eq rfl
theorem tot_enc (hk : k < 2) (hu : u ≤ kinfN k) (hv : v ≤ kinfN k) : (ri s u < ri t v → cmpT k (enc k s u) (enc k t v) = -1) ∧ (ri t v < ri s u → cmpT k (enc k s u) (enc k t v) = 1) ∧ (enc k s u = enc k t v → cmpT k (enc k s u) (enc k t v) = 0) := by
  refine ⟨fun h => cmpT_lt ?_, fun h => cmpT_gt ?_, fun h => by rw [h]; exact tot_self⟩
  · rw [trank_enc hk (kw hk hu), trank_enc hk (kw hk hv)]
    unfold ri at h
    cases s <;> cases t <;> simp at h ⊢ <;> omega
  · rw [trank_enc hk (kw hk hu), trank_enc hk (kw hk hv)]
    unfold ri at h
    cases s <;> cases t <;> simp at h ⊢ <;> omega
/-- of two numbers that are none, or not -/
theorem ord_nan (hk : k < 2) (hx : kcn k x) (hy : kcn k y) (h : x = knan k ∨ y = knan k) : f_X1_relations k x y = 32 ∧ cmpT k x y = if x = knan k then (if y = knan k then 0 else 1) else -1 := by
  rcases kcn_cases hk hx with rfl | ⟨s, u, hu, rfl⟩
  · rw [if_pos rfl, rel_nan_l hk hy]
    refine ⟨rfl, ?_⟩
    rcases kcn_cases hk hy with rfl | ⟨t, v, hv, rfl⟩
    · rw [if_pos rfl]; exact tot_self
    · rw [if_neg (enc_ne_nan hk hv)]; exact tot_nan_l hk hv
  · have hyn : y = knan k := h.resolve_left (enc_ne_nan hk hu)
    subst hyn
    rw [rel_nan_r hk hx, if_neg (enc_ne_nan hk hu)]
    exact ⟨rfl, tot_nan_r hk hu⟩
theorem ord_num (hk : k < 2) (hx : kcn k x) (hy : kcn k y) (h1 : ¬ x = knan k) (h2 : ¬ y = knan k) : (f_X1_relations k x y = 41 ∧ cmpT k x y = -1) ∨ (f_X1_relations k x y = 52 ∧ cmpT k x y = 1) ∨ (f_X1_relations k x y = 26 ∧ (¬ cmpT k x y = 0 → ¬ x = y)) := by
  rcases kcn_cases hk hx with rfl | ⟨s, u, hu, rfl⟩
  · exact absurd rfl h1
  · rcases kcn_cases hk hy with rfl | ⟨t, v, hv, rfl⟩
    · exact absurd rfl h2
    · obtain ⟨a, b, c⟩ := tot_enc (s := s) (t := t) hk hu hv
      rcases Int.lt_trichotomy (ri s u) (ri t v) with h | h | h
      · exact Or.inl ⟨rel_lt hk hu hv h, a h⟩
      · exact Or.inr (Or.inr ⟨rel_eq hk hu hv h, fun hn e => hn (c e)⟩)
      · exact Or.inr (Or.inl ⟨rel_gt hk hu hv h, b h⟩)
-- sorts
theorem sort_nan (hk : k < 2) : f_X1_sortOf k (knan k) = 3 := by
  unfold f_X1_sortOf f_X1_sortOf_4
  rw [nan1 hk, if_neg n10]
theorem sort_enc (hk : k < 2) (hu : u ≤ kinfN k) : f_X1_sortOf k (enc k s u) = (if u = 0 then 0 else if u = kinfN k then 2 else 1) + (if s = true then 4 else 0) := by
  have hw := kw hk hu
  have h6 := lt63 hk hw
  have hI := @kinfN_lt k
  unfold f_X1_sortOf f_X1_sortOf_4 f_X1_sortOf_3 f_X1_sortOf_2 f_X1_sortOf_1
  rw [nan0 hk hu, if_pos (Eq.refl (0 : Int32)), mag_enc hk hw, neg_enc hk hw, kinf_lN hk]
  by_cases h0 : u = 0
  · rw [if_pos (by rw [h0]; rfl), if_pos h0]
    cases s
    · rw [if_pos (show bI false = 0 from rfl)]; rfl
    · rw [if_neg (show ¬ bI true = 0 by decide)]; rfl
  · rw [if_neg (fun h => h0 ((lN0 (by omega)).mp h)), if_neg h0]
    by_cases h1 : u = kinfN k
    · rw [if_pos (by rw [h1]), if_pos h1]
      cases s
      · rw [if_pos (show bI false = 0 from rfl)]; rfl
      · rw [if_neg (show ¬ bI true = 0 by decide)]; rfl
    · rw [if_neg (fun h => h1 ((lN_eq64 (by omega) (by omega)).mp h)), if_neg h1]
      cases s
      · rw [if_pos (show bI false = 0 from rfl)]; rfl
      · rw [if_neg (show ¬ bI true = 0 by decide)]; rfl
theorem sort_ne3 (hk : k < 2) (hu : u ≤ kinfN k) : ¬ f_X1_sortOf k (enc k s u) = 3 := by
  rw [sort_enc hk hu]
  split
  · split <;> decide
  · split
    · split <;> decide
    · split <;> decide
theorem sort_3 (hk : k < 2) (hx : kcn k x) : f_X1_sortOf k x = 3 ↔ x = knan k := by
  rcases kcn_cases hk hx with rfl | ⟨s, u, hu, rfl⟩
  · simp [sort_nan hk]
  · exact ⟨fun h => absurd h (sort_ne3 hk hu), fun h => absurd h (enc_ne_nan hk hu)⟩
theorem sort_sgn (hk : k < 2) (hu : u ≤ kinfN k) : jishr (f_X1_sortOf k (enc k s u)) (2 : Int32) = bI s := by
  rw [sort_enc hk hu]
  split
  · cases s <;> rfl
  · split
    · cases s <;> rfl
    · cases s <;> rfl
theorem sort_zero (hk : k < 2) (hu : u ≤ kinfN k) : f_X1_sortOf k (enc k s u) &&& (3 : Int32) = 0 ↔ u = 0 := by
  rw [sort_enc hk hu]
  by_cases h : u = 0
  · rw [if_pos h]
    exact ⟨fun _ => h, fun _ => by cases s <;> rfl⟩
  · rw [if_neg h]
    refine ⟨fun h2 => absurd h2 ?_, fun h2 => absurd h2 h⟩
    split
    · cases s <;> decide
    · cases s <;> decide
end ORD
