-- a clean number of kind k: what may stand in a row
def kcn (k : Nat) (b : Int64) : Prop := (k = 1 → 0 ≤ b.toInt ∧ b.toInt < 4294967296) ∧ (f_X7_unsigned k b ≤ kinf k ∨ b = knan k)
theorem ite10 {c : Prop} [Decidable c] : (if c then (1 : Int32) else 0) = 0 ↔ ¬ c := by
  by_cases h : c
  · rw [if_pos h]; exact ⟨fun e => absurd e (by decide), fun h' => absurd h h'⟩
  · rw [if_neg h]; exact ⟨fun _ => h, fun _ => rfl⟩
theorem ite01 {c : Prop} [Decidable c] : (if c then (0 : Int32) else 1) = 0 ↔ c := by
  by_cases h : c
  · rw [if_pos h]; exact ⟨fun _ => h, fun _ => rfl⟩
  · rw [if_neg h]; exact ⟨fun e => absurd e (by decide), fun h' => absurd h' h⟩
theorem none_iff {k : Nat} {b : Int64} : f_X7_none k b = 0 ↔ ¬ b = knan k := ite10
theorem zero_iff {k : Nat} {b : Int64} : f_X7_zero k b = 0 ↔ ¬ f_X7_unsigned k b = 0 := ite10
theorem inf_iff {k : Nat} {b : Int64} : f_X7_infinite k b = 0 ↔ ¬ f_X7_unsigned k b = kinf k := ite10
theorem minus_iff {k : Nat} {b : Int64} : f_X7_minus k b = 0 ↔ b &&& ksgn k = 0 := ite01
theorem low32 {b : Int64} (h : 0 ≤ b.toInt ∧ b.toInt < 4294967296) : b &&& 4294967295 = b := Int64.toInt_inj.mp (by
  rw [Kit.i64_mask b 4294967295 (k := 32) (by decide) (by decide +kernel)]
  exact Int.emod_eq_of_lt h.1 (by have : (2 : Int) ^ 32 = 4294967296 := by decide
                                  omega))
theorem uns_val {k : Nat} (hk : k < 2) {b : Int64} (h : k = 1 → 0 ≤ b.toInt ∧ b.toInt < 4294967296) : (f_X7_unsigned k b).toInt = b.toInt % (if k = 0 then 9223372036854775808 else 2147483648) := by
  rcases two_of hk with rfl | rfl
  · have e : f_X7_unsigned 0 b = b &&& 9223372036854775807 := congrArg (fun z => b &&& z) (by decide +kernel : ksgn 0 ^^^ (-1 : Int64) = 9223372036854775807)
    rw [e, Kit.i64_mask b _ (k := 63) (by decide) (by decide +kernel)]
    rfl
  · have e : f_X7_unsigned 1 b = b &&& 2147483647 := by
      show b &&& (ksgn 1 ^^^ (-1 : Int64)) = _
      conv => lhs; rw [← low32 (h rfl)]
      rw [Int64.and_assoc, (by decide +kernel : (4294967295 : Int64) &&& (ksgn 1 ^^^ (-1 : Int64)) = 2147483647)]
    rw [e, Kit.i64_mask b _ (k := 31) (by decide) (by decide +kernel)]
    rfl
theorem uns_nonneg {k : Nat} (hk : k < 2) {b : Int64} (h : k = 1 → 0 ≤ b.toInt ∧ b.toInt < 4294967296) : 0 ≤ (f_X7_unsigned k b).toInt := by
  rw [uns_val hk h]
  split
  · omega
  · omega
theorem kpos {k : Nat} (hk : k < 2) {b : Int64} (hc : kcn k b) (hn : f_X7_none k b = 0) (hz : f_X7_zero k b = 0) : 0 < (f_X7_unsigned k b).toInt ∧ f_X7_unsigned k b ≤ kinf k := by
  obtain ⟨hr, h⟩ := hc
  have h0 := uns_nonneg hk hr
  have h1 : ¬ (f_X7_unsigned k b).toInt = 0 := fun e => zero_iff.mp hz (Int64.toInt_inj.mp (by rw [e, Int64.toInt_zero]))
  exact ⟨by omega, h.resolve_right (none_iff.mp hn)⟩
theorem kposge {k : Nat} (hk : k < 2) {a b : Int64} (hc : kcn k a) (hn : f_X7_none k a = 0) (hz : 0 < (f_X7_unsigned k b).toInt ∧ f_X7_unsigned k b ≤ kinf k) (hle : f_X7_unsigned k b ≤ f_X7_unsigned k a) : 0 < (f_X7_unsigned k a).toInt ∧ f_X7_unsigned k a ≤ kinf k := by
  have := Int64.le_iff_toInt_le.mp hle
  exact ⟨by omega, hc.2.resolve_right (none_iff.mp hn)⟩

