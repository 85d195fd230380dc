section MG2
variable {a b c q7 q8 q9 : Int32} {n : Nat}
theorem mgI.ne (h : mgI a b c q7 q8 q9 n) (h1 : ¬ q7 = b) : ¬ b ≤ q7 := by
  obtain ⟨g1, g2, g3, g4, g5, g6⟩ := h
  rw [Int32.le_iff_toInt_le]
  intro h2
  exact h1 (Int32.toInt_inj.mp (by omega))
theorem mgI.e (h : mgI a b c q7 q8 q9 n) (h1 : ¬ c ≤ q9) (h2 : q7 = b) : ¬ c ≤ q8 := by
  obtain ⟨g1, g2, g3, g4, g5, g6⟩ := h
  have h1 := nle_i h1
  rw [Int32.le_iff_toInt_le, h2] at *
  omega
end MG2
theorem mPl.in500 {S : MSt} (hI : mInv S) {x i : Int32} (h : mPl S x i) : vp_in i 500 := by
  have := h.lt hI
  exact vp_in_iff.mpr ⟨this.1, by omega⟩
theorem size_ex {S : MSt} (hI : mInv S) {x v : Int32} (hR : mRow S x) (e : v = f_X7_size S x) : ∃ w : Nat, w ≤ 500 ∧ v = nI w := by
  obtain ⟨j, hj, rfl⟩ := hR
  have := (hI.2.2.1 j hj).2
  exact ⟨_, by omega, e.trans (size_val hI hj)⟩
theorem jm1 {x v : Int32} (h : v ≤ x) : v = jminI x v := by
  unfold jminI
  split
  · rfl
  · rename_i h2
    rw [Int32.le_iff_toInt_le] at h
    rw [Int32.lt_iff_toInt_lt] at h2
    exact Int32.toInt_inj.mp (by omega)
theorem jm2 {x v : Int32} (h : ¬ v ≤ x) : x = jminI x v := by
  unfold jminI
  split
  · rename_i h2
    rw [Int32.le_iff_toInt_le] at h
    rw [Int32.lt_iff_toInt_lt] at h2
    omega
  · rfl
theorem mgP.of2 {q6 q5 v v7 v8 : Int32} {n m : Nat} (hv : ∃ w : Nat, w ≤ 500 ∧ v = nI w) (hJ : wdI q5 m) (h5 : ¬ v ≤ q5) (h : frI q6 (Nat.succ n)) (hc : ¬ v ≤ q6) (e7 : v7 = jminI (q6 + q5) v) (e8 : v8 = jminI (q6 + (2 : Int32) * q5) v) : mgP q6 v7 v8 500 := by
  obtain ⟨w, hw, e⟩ := hv
  obtain ⟨a, b, c, d⟩ := mgP.of hw e hJ h5 h hc e7 e8
  exact ⟨a, b, c, by omega⟩
theorem wdI.next2 {q v : Int32} {n : Nat} (hv : ∃ w : Nat, w ≤ 500 ∧ v = nI w) (h : wdI q (Nat.succ n)) (hc : ¬ v ≤ q) : wdI (q * (2 : Int32)) n := by
  obtain ⟨w, hw, e⟩ := hv
  exact wdI.next hw e h hc
theorem frI.next2 {q q5 v : Int32} {n m : Nat} (hv : ∃ w : Nat, w ≤ 500 ∧ v = nI w) (hJ : wdI q5 m) (h5 : ¬ v ≤ q5) (h : frI q (Nat.succ n)) (hc : ¬ v ≤ q) : frI (q + (2 : Int32) * q5) n := by
  obtain ⟨w, hw, e⟩ := hv
  exact frI.next hw e hJ h5 h hc
