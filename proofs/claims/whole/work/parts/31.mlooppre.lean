-- the invariants of the reference's searching loops
theorem pos_nle {w : Int32} (h : 0 < w) : ¬ w ≤ 0 := by rw [Int32.le_iff_toInt_le]; rw [Int32.lt_iff_toInt_lt] at h; omega
theorem mPl.lt {S : MSt} (hI : mInv S) {x i : Int32} (h : mPl S x i) : 0 ≤ i.toInt ∧ i.toInt < 500 := by
  obtain ⟨j, p, hj, rfl, hp, rfl⟩ := h
  have h1 := (hI.2.2.1 j hj).2
  rw [nI_toInt (by omega)]
  omega
theorem nlt0 {q : Int32} (h : 0 ≤ q.toInt) : ¬ q < 0 := by rw [Int32.lt_iff_toInt_lt, Int32.toInt_zero]; omega
theorem lt_of_nle {a b : Int32} (h : ¬ a ≤ b) : b < a := by rw [Int32.le_iff_toInt_le] at h; rw [Int32.lt_iff_toInt_lt]; omega
theorem inc_val {q : Int32} (h : 0 ≤ q.toInt ∧ q.toInt < 500) : (q + (1 : Int32)).toInt = q.toInt + 1 := by
  have h1 : (1 : Int32).toInt = 1 := by decide
  rw [Kit.i32_add (by omega) (by omega), h1]
def fInv (S : MSt) (x q4 q5 : Int32) (n : Nat) : Prop := 0 ≤ q5.toInt ∧ q5.toInt ≤ 500 ∧ 501 ≤ q5.toInt + n ∧ (q4 < 0 ∨ mPl S x q4)
theorem fInv.init {S : MSt} {x : Int32} : fInv S x (-1) 0 501 := ⟨by decide, by decide, by decide, Or.inl (by decide)⟩
theorem fInv.zero {S : MSt} {x a b : Int32} (h : fInv S x a b 0) : False := by
  obtain ⟨h1, h2, h3, -⟩ := h
  omega
theorem fInv.pl {S : MSt} (hI : mInv S) {x a b : Int32} {n : Nat} (hR : mRow S x) (h : fInv S x a b n) (hc : ¬ f_X7_size S x ≤ b) : mPl S x b := pl_of hI hR (nlt0 h.1) (lt_of_nle hc)
theorem fInv.best {S : MSt} {x a b : Int32} {n : Nat} (h : fInv S x a b n) (hc : ¬ a < 0) : mPl S x a := h.2.2.2.resolve_left hc
theorem fInv.next {S : MSt} (hI : mInv S) {x a b : Int32} {n : Nat} (h : fInv S x a b (Nat.succ n)) (hp : mPl S x b) : fInv S x a (b + 1) n := by
  have h1 := hp.lt hI
  obtain ⟨h2, h3, h4, h5⟩ := h
  refine ⟨?_, ?_, ?_, h5⟩ <;> rw [inc_val h1] <;> omega
theorem fInv.take {S : MSt} (hI : mInv S) {x a b : Int32} {n : Nat} (h : fInv S x a b (Nat.succ n)) (hp : mPl S x b) : fInv S x b (b + 1) n := by
  have h1 := hp.lt hI
  obtain ⟨h2, h3, h4, h5⟩ := h
  refine ⟨?_, ?_, ?_, Or.inr hp⟩ <;> rw [inc_val h1] <;> omega
def gInv (lo : Nat) (q : Int32) (n : Nat) : Prop := (lo : Int) ≤ q.toInt ∧ q.toInt ≤ 500 ∧ 501 ≤ q.toInt + n
theorem gInv.init1 : gInv 1 1 500 := ⟨by decide, by decide, by decide⟩
theorem gInv.init0 : gInv 0 0 501 := ⟨by decide, by decide, by decide⟩
theorem gInv.zero {lo : Nat} {q : Int32} (h : gInv lo q 0) : False := by
  obtain ⟨h1, h2, h3⟩ := h
  omega
theorem gInv.pl {S : MSt} (hI : mInv S) {x q : Int32} {lo n : Nat} (hR : mRow S x) (h : gInv lo q n) (hc : ¬ f_X7_size S x ≤ q) : mPl S x q := pl_of hI hR (nlt0 (by have := h.1; omega)) (lt_of_nle hc)
theorem gInv.prev {S : MSt} (hI : mInv S) {x q : Int32} {n : Nat} (hR : mRow S x) (h : gInv 1 q n) (hc : ¬ f_X7_size S x ≤ q) : mPl S x (q - (1 : Int32)) := by
  obtain ⟨j, p, hj, hx, hp, hq⟩ := gInv.pl hI hR h hc
  have h1 := h.1
  have h2 := (hI.2.2.1 j hj).2
  rw [hq, nI_toInt (by omega)] at h1
  refine ⟨j, p - 1, hj, hx, by omega, ?_⟩
  have := nI_pred (p - 1)
  rw [show p - 1 + 1 = p by omega] at this
  rw [hq, this]
theorem gInv.next {S : MSt} (hI : mInv S) {x q : Int32} {lo n : Nat} (h : gInv lo q (Nat.succ n)) (hp : mPl S x q) : gInv lo (q + 1) n := by
  have h1 := hp.lt hI
  obtain ⟨h2, h3, h4⟩ := h
  refine ⟨?_, ?_, ?_⟩ <;> rw [inc_val h1] <;> omega
theorem compare_inv {S : MSt} (hI : mInv S) {a b c : Int32} : mInv (f_X7_compare S a b c).2 := by
  have h : ∃ v, (f_X7_compare S a b c).2 = mset_s S v := by
    unfold f_X7_compare f_X7_compare_8 f_X7_compare_7 f_X7_compare_6 f_X7_compare_5 f_X7_compare_4 f_X7_compare_3 f_X7_compare_2 f_X7_compare_1
    repeat' split
    all_goals exact ⟨_, rfl⟩
  obtain ⟨v, h⟩ := h
  rw [h]
  exact hI
