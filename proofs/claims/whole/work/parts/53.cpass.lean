-- the passes of a sort
def wdI (q : Int32) (n : Nat) : Prop := 1 ≤ q.toInt ∧ q.toInt < 1024 ∧ 1024 ≤ q.toInt * 2 ^ n
def frI (q : Int32) (n : Nat) : Prop := 0 ≤ q.toInt ∧ 501 ≤ q.toInt + n ∧ 1 ≤ n
theorem wdI.init : wdI 1 10 := ⟨by decide, by decide, by decide⟩
theorem frI.init : frI 0 502 := ⟨by decide, by decide, by decide⟩
theorem wdI.zero {q : Int32} (h : wdI q 0) : False := by
  obtain ⟨h1, h2, h3⟩ := h
  simp at h3
  omega
theorem frI.zero {q : Int32} (h : frI q 0) : False := by
  obtain ⟨h1, h2, h3⟩ := h
  omega
theorem dbl {q : Int32} (h : 0 ≤ q.toInt ∧ q.toInt < 1024) : ((2 : Int32) * q).toInt = 2 * q.toInt := by
  have h2 : (2 : Int32).toInt = 2 := by decide
  rw [Kit.i32_mul (by rw [h2]; omega) (by rw [h2]; omega), h2]
theorem dbl' {q : Int32} (h : 0 ≤ q.toInt ∧ q.toInt < 1024) : (q * (2 : Int32)).toInt = 2 * q.toInt := by rw [Int32.mul_comm, dbl h]
theorem ad2 {q r : Int32} (h : 0 ≤ q.toInt ∧ q.toInt < 1024) (h1 : 0 ≤ r.toInt ∧ r.toInt < 3000) : (q + r).toInt = q.toInt + r.toInt := Kit.i32_add (by omega) (by omega)
theorem wdI.next {q v : Int32} {n w : Nat} (hn : w ≤ 500) (e : v = nI w) (h : wdI q (Nat.succ n)) (hc : ¬ v ≤ q) : wdI (q * (2 : Int32)) n := by
  obtain ⟨h1, h2, h3⟩ := h
  have hc := nle_i hc
  rw [e, nI_toInt (by omega)] at hc
  rw [show (2 : Int) ^ Nat.succ n = 2 ^ n * 2 from Int.pow_succ 2 n] at h3
  have h4 : q.toInt * (2 ^ n * 2) = 2 * q.toInt * 2 ^ n := by
    rw [Int.mul_comm (2 ^ n) 2, ← Int.mul_assoc, Int.mul_comm q.toInt 2]
  refine ⟨?_, ?_, ?_⟩
  · rw [dbl' (by omega)]; omega
  · rw [dbl' (by omega)]; omega
  · rw [dbl' (by omega)]
    rw [← h4]; exact h3
theorem frI.next {q q5 v : Int32} {n m w : Nat} (hn : w ≤ 500) (e : v = nI w) (hJ : wdI q5 m) (h5 : ¬ v ≤ q5) (h : frI q (Nat.succ n)) (hc : ¬ v ≤ q) : frI (q + (2 : Int32) * q5) n := by
  obtain ⟨h1, h2, h3⟩ := h
  have hc := nle_i hc
  have h5 := nle_i h5
  rw [e, nI_toInt (by omega)] at hc h5
  have hd := dbl (q := q5) ⟨by have := hJ.1; omega, hJ.2.1⟩
  have := hJ.1
  refine ⟨?_, ?_, ?_⟩
  · rw [ad2 (by omega) (by omega)]; omega
  · rw [ad2 (by omega) (by omega)]; omega
  · omega
theorem jminI_i {x y : Int32} : (jminI x y).toInt = min x.toInt y.toInt := by
  unfold jminI
  split
  · rename_i h; rw [Int32.lt_iff_toInt_lt] at h; omega
  · rename_i h; rw [Int32.lt_iff_toInt_lt] at h; omega
theorem mgP.of {q6 q5 v v7 v8 : Int32} {n m w : Nat} (hn : w ≤ 500) (e : v = nI w) (hJ : wdI q5 m) (h5 : ¬ v ≤ q5) (h : frI q6 (Nat.succ n)) (hc : ¬ v ≤ q6) (e7 : v7 = jminI (q6 + q5) v) (e8 : v8 = jminI (q6 + (2 : Int32) * q5) v) : mgP q6 v7 v8 w := by
  obtain ⟨h1, h2, h3⟩ := h
  have hc := nle_i hc
  have h5 := nle_i h5
  have hv : v.toInt = (w : Int) := by rw [e, nI_toInt (by omega)]
  rw [hv] at hc h5
  have hd := dbl (q := q5) ⟨by have := hJ.1; omega, hJ.2.1⟩
  have := hJ.1
  have a1 := ad2 (q := q6) (r := q5) (by omega) (by omega)
  have a2 := ad2 (q := q6) (r := (2 : Int32) * q5) (by omega) (by omega)
  refine ⟨by omega, ?_, ?_, ?_⟩
  · rw [e7, jminI_i, a1, hv]; omega
  · rw [e7, e8, jminI_i, jminI_i, a1, a2, hv]; omega
  · rw [e8, jminI_i, a2, hv]; omega
theorem nI_nn {n : Nat} (h : n ≤ 500) : ¬ nI n < 0 := by
  rw [Int32.lt_iff_toInt_lt, nI_toInt (by omega)]
  have : (0 : Int32).toInt = 0 := by decide
  omega
theorem cp_le {n m : Nat} {v : Int32} (e : v = nI n) (h : n ≤ 500) (h1 : n ≤ m) : (0 : Int32).toNatClampNeg + v.toNatClampNeg ≤ m := by
  rw [e, nI_clamp (by omega), show (0 : Int32).toNatClampNeg = 0 by decide]
  omega
