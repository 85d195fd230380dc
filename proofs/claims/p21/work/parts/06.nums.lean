-- what the reference's loops need: shifts, counters, clean numbers
def kfbN (i : Nat) : Nat := if i = 0 then 52 else 23
theorem two_of {k : Nat} (h : k < 2) : k = 0 ∨ k = 1 := by omega
theorem sh_all : ∀ s, s < 64 → (((nI s).toInt64 &&& 63).toBitVec.smod 64).toNat = s := by decide +kernel
theorem sh_amt {y : Int32} {s : Nat} (h : y.toInt = s) (hs : s < 64) : ((y.toInt64 &&& 63).toBitVec.smod 64).toNat = s := by
  have e : y = nI s := Int32.toInt_inj.mp (by rw [h, nI_toInt (by omega)])
  rw [e]
  exact sh_all s hs
theorem shr_val (x : Int64) {y : Int32} {s : Nat} (h : y.toInt = s) (hs : s < 64) : (jlshr x y).toInt = x.toInt / 2 ^ s := Kit.i64_shr x _ (sh_amt h hs)
theorem shl_val (x : Int64) {y : Int32} {s : Nat} (h : y.toInt = s) (hs : s < 64) (h1 : -2 ^ 63 ≤ x.toInt * 2 ^ s) (h2 : x.toInt * 2 ^ s < 2 ^ 63) : (jlshl x y).toInt = x.toInt * 2 ^ s := Kit.i64_shl x _ (sh_amt h hs) h1 h2
theorem kfb_val {k : Nat} (hk : k < 2) : (kfb k).toInt = (kfbN k : Int) := by
  rcases two_of hk with rfl | rfl <;> decide +kernel
theorem kfbN_lt {k : Nat} : kfbN k < 64 := by
  unfold kfbN; split <;> omega
theorem shr_kfb {k : Nat} (hk : k < 2) (q : Int64) : (jlshr q (kfb k)).toInt = q.toInt / 2 ^ (kfbN k) := shr_val q (kfb_val hk) kfbN_lt
theorem kinf_val {k : Nat} (hk : k < 2) : (kinf k).toInt = if k = 0 then 9218868437227405312 else 2139095040 := by
  rcases two_of hk with rfl | rfl <;> decide +kernel
theorem knan_val {k : Nat} (hk : k < 2) : (knan k).toInt = if k = 0 then 9221120237041090560 else 2143289344 := by
  rcases two_of hk with rfl | rfl <;> decide +kernel
theorem pw_zero {q : Int64} (h : 0 < q.toInt ∧ q.toInt < 9007199254740992 ∧ 9007199254740992 ≤ q.toInt * 2 ^ (0 : Nat)) : False := by
  obtain ⟨h1, h2, h3⟩ := h
  rw [Int.pow_zero] at h3
  omega
theorem dbl_val {q : Int64} (h1 : 0 < q.toInt) (h2 : q.toInt < 4503599627370496) : (jlshl q (1 : Int32)).toInt = 2 * q.toInt := by
  rw [shl_val q (s := 1) (by decide) (by omega) (by omega) (by omega)]
  omega
theorem dbl_step {q : Int64} {n : Nat} (h1 : 0 < q.toInt) (h2 : q.toInt < 4503599627370496) (h3 : 9007199254740992 ≤ q.toInt * 2 ^ (n + 1)) : 0 < (jlshl q (1 : Int32)).toInt ∧ (jlshl q (1 : Int32)).toInt < 9007199254740992 ∧ 9007199254740992 ≤ (jlshl q (1 : Int32)).toInt * 2 ^ n := by
  rw [dbl_val h1 h2]
  refine ⟨by omega, by omega, ?_⟩
  rw [Int.pow_succ] at h3
  rw [Int.mul_comm 2 q.toInt, Int.mul_assoc, Int.mul_comm 2 (2 ^ n)]
  exact h3
theorem pw_step {k n : Nat} (hk : k < 2) {q : Int64} (hI : 0 < q.toInt ∧ q.toInt < 9007199254740992 ∧ 9007199254740992 ≤ q.toInt * 2 ^ (n + 1)) (hc : jlshr q (kfb k) = (0 : Int64)) : 0 < (jlshl q (1 : Int32)).toInt ∧ (jlshl q (1 : Int32)).toInt < 9007199254740992 ∧ 9007199254740992 ≤ (jlshl q (1 : Int32)).toInt * 2 ^ n := by
  refine dbl_step hI.1 ?_ hI.2.2
  have e := shr_kfb hk q
  rw [hc, Int64.toInt_zero] at e
  rcases two_of hk with rfl | rfl
  · rw [show kfbN 0 = 52 from rfl] at e; omega
  · rw [show kfbN 1 = 23 from rfl] at e; omega
theorem big64 {u : Int} (h : 0 < u) : 9007199254740992 ≤ u * 2 ^ 64 := by
  have : (2 : Int) ^ 64 = 18446744073709551616 := by decide
  rw [this]
  omega
theorem pw_init {k : Nat} (hk : k < 2) {u : Int64} (hz : 0 < u.toInt ∧ u ≤ kinf k) (hc : (jlshr u (kfb k)).toInt32 ≤ 0) : 0 < u.toInt ∧ u.toInt < 9007199254740992 ∧ 9007199254740992 ≤ u.toInt * 2 ^ 64 := by
  obtain ⟨h1, h2⟩ := hz
  have h2 := Int64.le_iff_toInt_le.mp h2
  have hc := Int32.le_iff_toInt_le.mp hc
  have e := shr_kfb hk u
  rw [kinf_val hk] at h2
  have h0 : (0 : Int32).toInt = 0 := by decide
  refine ⟨h1, ?_, big64 h1⟩
  rcases two_of hk with rfl | rfl
  · rw [show kfbN 0 = 52 from rfl] at e
    simp at h2
    rw [Kit.i32_of_i64 (by omega) (by omega), h0] at hc
    omega
  · rw [show kfbN 1 = 23 from rfl] at e
    simp at h2
    rw [Kit.i32_of_i64 (by omega) (by omega), h0] at hc
    omega
theorem one_shl {k : Nat} (hk : k < 2) : (jlshl (1 : Int64) (kfb k)).toInt = 2 ^ (kfbN k) := by
  rcases two_of hk with rfl | rfl <;> decide +kernel
theorem mn_init {k : Nat} (hk : k < 2) {u : Int64} (hz : 0 < u.toInt ∧ u ≤ kinf k) (hc : u < jlshl (1 : Int64) (kfb k)) : 0 < u.toInt ∧ u.toInt < 9007199254740992 ∧ 9007199254740992 ≤ u.toInt * 2 ^ 64 := by
  obtain ⟨h1, h2⟩ := hz
  have hc := Int64.lt_iff_toInt_lt.mp hc
  rw [one_shl hk] at hc
  refine ⟨h1, ?_, big64 h1⟩
  rcases two_of hk with rfl | rfl
  · rw [show kfbN 0 = 52 from rfl] at hc; omega
  · rw [show kfbN 1 = 23 from rfl] at hc; omega
theorem mn_step {k n : Nat} (hk : k < 2) {q : Int64} (hI : 0 < q.toInt ∧ q.toInt < 9007199254740992 ∧ 9007199254740992 ≤ q.toInt * 2 ^ (n + 1)) (hc : ¬ jlshl (1 : Int64) (kfb k) ≤ q) : 0 < (jlshl q (1 : Int32)).toInt ∧ (jlshl q (1 : Int32)).toInt < 9007199254740992 ∧ 9007199254740992 ≤ (jlshl q (1 : Int32)).toInt * 2 ^ n := by
  refine dbl_step hI.1 ?_ hI.2.2
  rw [Int64.le_iff_toInt_le, one_shl hk] at hc
  rcases two_of hk with rfl | rfl
  · rw [show kfbN 0 = 52 from rfl] at hc; omega
  · rw [show kfbN 1 = 23 from rfl] at hc; omega
theorem cnt_step {N n : Nat} (hN : N < 2 ^ 30) {q : Int32} (hI : 0 ≤ q.toInt ∧ q.toInt ≤ (N : Int) ∧ (N : Int) + 1 ≤ q.toInt + (Nat.succ n : Nat)) (hc : ¬ nI N ≤ q) : 0 ≤ (q + (1 : Int32)).toInt ∧ (q + (1 : Int32)).toInt ≤ (N : Int) ∧ (N : Int) + 1 ≤ (q + (1 : Int32)).toInt + (n : Int) := by
  rw [Int32.le_iff_toInt_le, nI_toInt (by omega)] at hc
  have h1 : (1 : Int32).toInt = 1 := by decide
  rw [Kit.i32_add (by omega) (by omega), h1]
  omega
theorem dec_step {n : Nat} {q : Int32} (hI : 1 ≤ (Nat.succ n : Nat) ∧ q.toInt < (Nat.succ n : Nat)) (hc : ¬ q ≤ 0) : 1 ≤ n ∧ (q + (-1 : Int32)).toInt < (n : Int) := by
  have h0 : (0 : Int32).toInt = 0 := by decide
  have h1 : (-1 : Int32).toInt = -1 := by decide
  rw [Int32.le_iff_toInt_le, h0] at hc
  have := q.toInt_lt
  rw [Kit.i32_add (by omega) (by omega), h1]
  omega
theorem dec10_step {n : Nat} {q : Int32} (hI : 1 ≤ (Nat.succ n : Nat) ∧ q.toInt < (Nat.succ n : Nat)) (hc : ¬ q ≤ 0) : 1 ≤ n ∧ (q + (-10 : Int32)).toInt < (n : Int) := by
  have h0 : (0 : Int32).toInt = 0 := by decide
  have h1 : (-10 : Int32).toInt = -10 := by decide
  rw [Int32.le_iff_toInt_le, h0] at hc
  have := q.toInt_lt
  rw [Kit.i32_add (by omega) (by omega), h1]
  omega
theorem cnt_init {N : Nat} : 0 ≤ (0 : Int32).toInt ∧ (0 : Int32).toInt ≤ (N : Int) ∧ (N : Int) + 1 ≤ (0 : Int32).toInt + ((N + 1 : Nat) : Int) := by
  have h0 : (0 : Int32).toInt = 0 := by decide
  rw [h0]
  omega
theorem dec_init {q : Int32} : 1 ≤ q.toInt.toNat + 1 ∧ q.toInt < ((q.toInt.toNat + 1 : Nat) : Int) := by omega

