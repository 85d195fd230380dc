-- the invariants of the reference's searching loops
theorem lt_of_nle {a b : Int32} (h : ¬ a ≤ b) : b < a := by rw [Int32.le_iff_toInt_le] at h; rw [Int32.lt_iff_toInt_lt]; omega
theorem inc_val {q : Int32} (h : 0 ≤ q.toInt ∧ q.toInt < 500) : (q + (1 : Int32)).toInt = q.toInt + 1 := by
  have h1 : (1 : Int32).toInt = 1 := by decide
  rw [Kit.i32_add (by omega) (by omega), h1]
def gInv (lo : Nat) (q : Int32) (n : Nat) : Prop := (lo : Int) ≤ q.toInt ∧ q.toInt ≤ 500 ∧ 501 ≤ q.toInt + n
theorem gInv.init1 : gInv 1 1 500 := ⟨by decide, by decide, by decide⟩
theorem gInv.init0 : gInv 0 0 501 := ⟨by decide, by decide, by decide⟩
theorem gInv.zero {lo : Nat} {q : Int32} (h : gInv lo q 0) : False := by
  obtain ⟨h1, h2, h3⟩ := h
  omega
-- a new row
