-- a clean number of kind k: what may stand in a row
def kcn (k : Nat) (b : Int64) : Prop := (k = 1 → 0 ≤ b.toInt ∧ b.toInt < 4294967296) ∧ (f_X7_unsigned k b ≤ kinf k ∨ b = knan k)
theorem uns_nonneg {k : Nat} (hk : k < 2) {b : Int64} (h : k = 1 → 0 ≤ b.toInt ∧ b.toInt < 4294967296) : 0 ≤ (f_X7_unsigned k b).toInt := by
  sorry
theorem kpos {k : Nat} (hk : k < 2) {b : Int64} (hc : kcn k b) (hn : f_X7_none k b = 0) (hz : f_X7_zero k b = 0) : 0 < (f_X7_unsigned k b).toInt ∧ f_X7_unsigned k b ≤ kinf k := by
  sorry
theorem kposge {k : Nat} (hk : k < 2) {a b : Int64} (hc : kcn k a) (hn : f_X7_none k a = 0) (hz : 0 < (f_X7_unsigned k b).toInt ∧ f_X7_unsigned k b ≤ kinf k) (hle : f_X7_unsigned k b ≤ f_X7_unsigned k a) : 0 < (f_X7_unsigned k a).toInt ∧ f_X7_unsigned k a ≤ kinf k := by
  sorry
theorem kcn_turned {k : Nat} (hk : k < 2) {b : Int64} (hc : kcn k b) : kcn k (f_X7_turned k b) := by
  sorry
