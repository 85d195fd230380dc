-- the sorter's world: its two rows, and the row that it sorts
theorem gInv.at500 {lo w : Nat} {q : Int32} {n : Nat} (h : gInv lo q n) (hn : w ≤ 500) (hc : ¬ nI w ≤ q) : vp_in q 500 := by
  have := vp_in_iff.mp (h.at hn hc)
  exact vp_in_iff.mpr ⟨this.1, by omega⟩
-- merging
