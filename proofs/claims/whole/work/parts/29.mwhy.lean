-- what the reference's answers to 'is it there' say
theorem size_val {S : MSt} (hI : mInv S) {j : Nat} (hj : j < mn S) : f_X7_size S (nI j) = nI (mf S (j + 1) - mf S j) := by
  have h1 := hI.1
  have h2 := (hI.2.2.1 j hj).1
  show nI (mf S (nI j + 1).toNatClampNeg) - nI (mf S (nI j).toNatClampNeg) = _
  rw [nI_1, nI_clamp (by omega), nI_clamp (by omega)]
  have h3 := hI.top (j := j + 1) (by omega)
  apply Int32.toInt_inj.mp
  rw [Kit.i32_sub (by rw [nI_toInt (by omega), nI_toInt (by omega)]; omega) (by rw [nI_toInt (by omega), nI_toInt (by omega)]; omega), nI_toInt (by omega), nI_toInt (by omega), nI_toInt (by omega)]
  omega
theorem bad_def (S : MSt) (x1 x2 : Int32) : f_X7_bad S x1 x2 = if x1 < 0 then (1 : Int32) else if x1 < nI (mn S) then (if x2 < 0 then (2 : Int32) else if x2 < f_X7_size S x1 then (0 : Int32) else (2 : Int32)) else (1 : Int32) := rfl
theorem out_def (S : MSt) (x1 x2 : Int32) : f_X7_outside S x1 x2 = if x2 < 0 then (1 : Int32) else if x2 < f_X7_size S x1 then (0 : Int32) else (1 : Int32) := rfl
theorem noPair_def (S : MSt) (x1 x2 : Int32) : f_X7_noPair S x1 x2 = if x2 < 0 then (1 : Int32) else if x2 < f_X7_size S x1 / (2 : Int32) then (0 : Int32) else (1 : Int32) := rfl
theorem bad_cases {S : MSt} (hI : mInv S) (x1 x2 : Int32) : f_X7_bad S x1 x2 = 1 ∨ f_X7_bad S x1 x2 = 2 ∨ (f_X7_bad S x1 x2 = 0 ∧ mPl S x1 x2) := by
  have hn := hI.1
  by_cases c1 : x1 < 0
  · left; rw [bad_def, if_pos c1]
  · by_cases c2 : x1 < nI (mn S)
    · obtain ⟨j, hj, rfl⟩ := row_of hI c1 c2
      by_cases c3 : x2 < 0
      · right; left; rw [bad_def, if_neg c1, if_pos c2, if_pos c3]
      · by_cases c4 : x2 < f_X7_size S (nI j)
        · right; right
          refine ⟨by rw [bad_def, if_neg c1, if_pos c2, if_neg c3, if_pos c4], ?_⟩
          rw [size_val hI hj] at c4
          obtain ⟨p, hp, rfl⟩ := nI_of c3
          have h3 := hI.top (j := j + 1) (by omega)
          exact ⟨j, p, hj, rfl, (nI_ltI hp (by omega)).mp c4, rfl⟩
        · right; left; rw [bad_def, if_neg c1, if_pos c2, if_neg c3, if_neg c4]
    · left; rw [bad_def, if_neg c1, if_neg c2]
theorem why_zero {S : MSt} (hI : mInv S) {x1 x2 v : Int32} (e : v = f_X7_bad S x1 x2) (h : v ≤ 0) : v = 0 := by
  subst e
  rcases bad_cases hI x1 x2 with h1 | h1 | h1
  · rw [h1] at h; exact absurd h (by decide)
  · rw [h1] at h; exact absurd h (by decide)
  · exact h1.1
theorem why_ok {S : MSt} (hI : mInv S) {x1 x2 v : Int32} (e : v = f_X7_bad S x1 x2) (h : v ≤ 0) : mPl S x1 x2 := by
  subst e
  rcases bad_cases hI x1 x2 with h1 | h1 | h1
  · rw [h1] at h; exact absurd h (by decide)
  · rw [h1] at h; exact absurd h (by decide)
  · exact h1.2
theorem out_ok {S : MSt} (hI : mInv S) {x1 x2 : Int32} (hR : mRow S x1) (h : f_X7_outside S x1 x2 = 0) : mPl S x1 x2 := by
  obtain ⟨j, hj, rfl⟩ := hR
  have hn := hI.1
  rw [out_def] at h
  by_cases c3 : x2 < 0
  · rw [if_pos c3] at h; exact absurd h (by decide)
  · rw [if_neg c3] at h
    by_cases c4 : x2 < f_X7_size S (nI j)
    · rw [size_val hI hj] at c4
      obtain ⟨p, hp, rfl⟩ := nI_of c3
      have h3 := hI.top (j := j + 1) (by omega)
      exact ⟨j, p, hj, rfl, (nI_ltI hp (by omega)).mp c4, rfl⟩
    · rw [if_neg c4] at h; exact absurd h (by decide)
theorem why_ok0 {S : MSt} (hI : mInv S) {x1 x2 v : Int32} (e : v = f_X7_bad S x1 x2) (h : v = 0) : mPl S x1 x2 := why_ok hI e (by rw [h]; decide)
theorem row_of' {S : MSt} (hI : mInv S) {x : Int32} (h1 : ¬ x < 0) (h2 : ¬ nI (mn S) ≤ x) : mRow S x := row_of hI h1 (by rw [Int32.lt_iff_toInt_lt]; rw [Int32.le_iff_toInt_le] at h2; omega)
theorem pl_of {S : MSt} (hI : mInv S) {x i : Int32} (hR : mRow S x) (h1 : ¬ i < 0) (h2 : i < f_X7_size S x) : mPl S x i := out_ok hI hR (by rw [out_def, if_neg h1, if_pos h2])
theorem pair_ok {S : MSt} (hI : mInv S) {x1 x2 : Int32} (hR : mRow S x1) (h : f_X7_noPair S x1 x2 = 0) : mPair S x1 x2 := by
  obtain ⟨j, hj, rfl⟩ := hR
  have hn := hI.1
  rw [noPair_def] at h
  by_cases c3 : x2 < 0
  · rw [if_pos c3] at h; exact absurd h (by decide)
  · rw [if_neg c3, size_val hI hj] at h
    by_cases c4 : x2 < nI (mf S (j + 1) - mf S j) / (2 : Int32)
    · obtain ⟨p, hp, rfl⟩ := nI_of c3
      have h3 := hI.top (j := j + 1) (by omega)
      have e : nI (mf S (j + 1) - mf S j) / (2 : Int32) = nI ((mf S (j + 1) - mf S j) / 2) := by
        apply Int32.toInt_inj.mp
        have h2 : (2 : Int32).toInt = 2 := by decide
        rw [Kit.i32_div (by rw [h2]; omega), nI_toInt (by omega), nI_toInt (by omega), h2, Int.tdiv_eq_ediv_of_nonneg (by omega)]
        omega
      rw [e] at c4
      have := (nI_ltI hp (by omega)).mp c4
      exact ⟨j, p, hj, rfl, by omega, rfl⟩
    · rw [if_neg c4] at h; exact absurd h (by decide)
theorem mPl.cln {S : MSt} (hI : mInv S) {x i : Int32} (h : mPl S x i) : kcn (mk S x.toNatClampNeg) (f_X7_at S x i) := by
  obtain ⟨j, p, hj, rfl, hp, rfl⟩ := h
  have hn := hI.1
  have h3 := hI.top (j := j + 1) (by omega)
  show kcn (mk S (nI j).toNatClampNeg) (mb S (nI (mf S (nI j).toNatClampNeg) + nI p).toNatClampNeg)
  rw [nI_clamp (by omega), nI_add, nI_clamp (by omega)]
  exact hI.2.2.2.2.2 j p hj hp
theorem mPair.atH {S : MSt} (hI : mInv S) {x a : Int32} (h : mPair S x a) : vp_in (nI (mf S x.toNatClampNeg) + (2 : Int32) * a + (1 : Int32)) 4000 := by
  have := mPl.at hI (mPair.hi h)
  rw [Int32.add_assoc]
  exact this
