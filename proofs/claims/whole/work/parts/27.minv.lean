-- what holds of the reference's state between calls
def mInv (S : MSt) : Prop := mn S ≤ 64 ∧ mf S 0 = 0 ∧ (∀ j, j < mn S → mf S j < mf S (j + 1) ∧ mf S (j + 1) ≤ mf S j + 500) ∧ mf S (mn S) ≤ 4000 ∧ (∀ j, j < mn S → mk S j < 2) ∧ (∀ j p, j < mn S → p < mf S (j + 1) - mf S j → kcn (mk S j) (mb S (mf S j + p)))
theorem mInv.mono {S : MSt} (h : mInv S) {i : Nat} (hi : i ≤ mn S) : ∀ d, d ≤ i → mf S (i - d) ≤ mf S i := by
  intro d
  induction d with
  | zero => intro _; exact Nat.le_refl _
  | succ d ih =>
    intro hd
    have h1 := (h.2.2.1 (i - (d + 1)) (by omega)).1
    rw [show i - (d + 1) + 1 = i - d by omega] at h1
    have := ih (by omega)
    omega
theorem mInv.top {S : MSt} (h : mInv S) {j : Nat} (hj : j ≤ mn S) : mf S j ≤ 4000 := by
  have h1 := h.mono (Nat.le_refl (mn S)) (mn S - j) (by omega)
  rw [show mn S - (mn S - j) = j by omega] at h1
  have := h.2.2.2.1
  omega
def mRow (S : MSt) (x : Int32) : Prop := ∃ j, j < mn S ∧ x = nI j
def mPl (S : MSt) (x i : Int32) : Prop := ∃ j p, j < mn S ∧ x = nI j ∧ p < mf S (j + 1) - mf S j ∧ i = nI p
def mPair (S : MSt) (x a : Int32) : Prop := ∃ j p, j < mn S ∧ x = nI j ∧ 2 * p + 1 < mf S (j + 1) - mf S j ∧ a = nI p
theorem mPl.row {S : MSt} {x i : Int32} (h : mPl S x i) : mRow S x := by
  obtain ⟨j, p, h1, h2, -⟩ := h
  exact ⟨j, h1, h2⟩
theorem mPair.row {S : MSt} {x i : Int32} (h : mPair S x i) : mRow S x := by
  obtain ⟨j, p, h1, h2, -⟩ := h
  exact ⟨j, h1, h2⟩
theorem row_of {S : MSt} (hI : mInv S) {x : Int32} (h1 : ¬ x < 0) (h2 : x < nI (mn S)) : mRow S x := by
  obtain ⟨j, hj, rfl⟩ := nI_of h1
  have := hI.1
  exact ⟨j, (nI_ltI hj (by omega)).mp h2, rfl⟩
theorem mRow.in0 {S : MSt} (hI : mInv S) {x : Int32} (h : mRow S x) : vp_in x 65 := by
  obtain ⟨j, hj, rfl⟩ := h
  have := hI.1
  exact vp_in_nI (by omega) (by decide)
theorem mRow.in2 {S : MSt} (hI : mInv S) {x : Int32} (h : mRow S x) : vp_in x 64 := by
  obtain ⟨j, hj, rfl⟩ := h
  have := hI.1
  exact vp_in_nI (by omega) (by decide)
theorem mRow.in1 {S : MSt} (hI : mInv S) {x : Int32} (h : mRow S x) : vp_in (x + (1 : Int32)) 65 := by
  obtain ⟨j, hj, rfl⟩ := h
  have := hI.1
  rw [nI_1]
  exact vp_in_nI (by omega) (by decide)
theorem mRow.k {S : MSt} (hI : mInv S) {x : Int32} (h : mRow S x) : mk S x.toNatClampNeg < 2 := by
  obtain ⟨j, hj, rfl⟩ := h
  have := hI.1
  rw [nI_clamp (by omega)]
  exact hI.2.2.2.2.1 j hj
theorem mPl.at {S : MSt} (hI : mInv S) {x i : Int32} (h : mPl S x i) : vp_in (nI (mf S x.toNatClampNeg) + i) 4000 := by
  obtain ⟨j, p, hj, rfl, hp, rfl⟩ := h
  have h1 := hI.1
  have h2 := hI.top (j := j + 1) (by omega)
  rw [nI_clamp (by omega), nI_add]
  exact vp_in_nI (by omega) (by decide)
theorem two_mul_nI {p : Nat} : (2 : Int32) * nI p = nI (2 * p) := (Int32.ofNat_mul 2 p).symm
theorem mPair.lo {S : MSt} {x a : Int32} (h : mPair S x a) : mPl S x ((2 : Int32) * a) := by
  obtain ⟨j, p, hj, rfl, hp, rfl⟩ := h
  exact ⟨j, 2 * p, hj, rfl, by omega, two_mul_nI⟩
theorem mPair.hi {S : MSt} {x a : Int32} (h : mPair S x a) : mPl S x ((2 : Int32) * a + (1 : Int32)) := by
  obtain ⟨j, p, hj, rfl, hp, rfl⟩ := h
  exact ⟨j, 2 * p + 1, hj, rfl, by omega, by rw [two_mul_nI, nI_1]⟩
