-- the invariants of the reference's searching loops
theorem pos_nle {w : Int32} (h : 0 < w) : ¬ w ≤ 0 := by rw [Int32.le_iff_toInt_le]; rw [Int32.lt_iff_toInt_lt] at h; omega
theorem mPl.lt {S : MSt} (hI : mInv S) {x i : Int32} (h : mPl S x i) : 0 ≤ i.toInt ∧ i.toInt < 500 := by
  obtain ⟨j, p, hj, rfl, hp, rfl⟩ := h
  have h1 := (hI.2.2.1 j hj).2
  rw [nI_toInt (by omega)]
  omega
theorem nlt0 {q : Int32} (h : 0 ≤ q.toInt) : ¬ q < 0 := by rw [Int32.lt_iff_toInt_lt, Int32.toInt_zero]; omega
theorem lt_of_nle {a b : Int32} (h : ¬ a ≤ b) : b < a := by rw [Int32.le_iff_toInt_le] at h; rw [Int32.lt_iff_toInt_lt]; omega
theorem inc_val {q : Int32} (h : 0 ≤ q.toInt ∧ q.toInt < 500) : (q + (1 : Int32)).toInt = q.toInt + 1 := by
  have h1 : (1 : Int32).toInt = 1 := by decide
  rw [Kit.i32_add (by omega) (by omega), h1]
def fInv (S : MSt) (x q4 q5 : Int32) (n : Nat) : Prop := 0 ≤ q5.toInt ∧ q5.toInt ≤ 500 ∧ 501 ≤ q5.toInt + n ∧ (q4 < 0 ∨ mPl S x q4)
theorem fInv.init {S : MSt} {x : Int32} : fInv S x (-1) 0 501 := ⟨by decide, by decide, by decide, Or.inl (by decide)⟩
theorem fInv.zero {S : MSt} {x a b : Int32} (h : fInv S x a b 0) : False := by
  obtain ⟨h1, h2, h3, -⟩ := h
  omega
theorem fInv.pl {S : MSt} (hI : mInv S) {x a b : Int32} {n : Nat} (hR : mRow S x) (h : fInv S x a b n) (hc : ¬ f_X7_size S x ≤ b) : mPl S x b := pl_of hI hR (nlt0 h.1) (lt_of_nle hc)
theorem fInv.best {S : MSt} {x a b : Int32} {n : Nat} (h : fInv S x a b n) (hc : ¬ a < 0) : mPl S x a := h.2.2.2.resolve_left hc
theorem fInv.next {S : MSt} (hI : mInv S) {x a b : Int32} {n : Nat} (h : fInv S x a b (Nat.succ n)) (hp : mPl S x b) : fInv S x a (b + 1) n := by
  have h1 := hp.lt hI
  obtain ⟨h2, h3, h4, h5⟩ := h
  refine ⟨?_, ?_, ?_, h5⟩ <;> rw [inc_val h1] <;> omega
theorem fInv.take {S : MSt} (hI : mInv S) {x a b : Int32} {n : Nat} (h : fInv S x a b (Nat.succ n)) (hp : mPl S x b) : fInv S x b (b + 1) n := by
  have h1 := hp.lt hI
  obtain ⟨h2, h3, h4, h5⟩ := h
  refine ⟨?_, ?_, ?_, Or.inr hp⟩ <;> rw [inc_val h1] <;> omega
def gInv (lo : Nat) (q : Int32) (n : Nat) : Prop := (lo : Int) ≤ q.toInt ∧ q.toInt ≤ 500 ∧ 501 ≤ q.toInt + n
theorem gInv.init1 : gInv 1 1 500 := ⟨by decide, by decide, by decide⟩
theorem gInv.init0 : gInv 0 0 501 := ⟨by decide, by decide, by decide⟩
theorem gInv.zero {lo : Nat} {q : Int32} (h : gInv lo q 0) : False := by
  obtain ⟨h1, h2, h3⟩ := h
  omega
theorem gInv.pl {S : MSt} (hI : mInv S) {x q : Int32} {lo n : Nat} (hR : mRow S x) (h : gInv lo q n) (hc : ¬ f_X7_size S x ≤ q) : mPl S x q := pl_of hI hR (nlt0 (by have := h.1; omega)) (lt_of_nle hc)
theorem gInv.prev {S : MSt} (hI : mInv S) {x q : Int32} {n : Nat} (hR : mRow S x) (h : gInv 1 q n) (hc : ¬ f_X7_size S x ≤ q) : mPl S x (q - (1 : Int32)) := by
  obtain ⟨j, p, hj, hx, hp, hq⟩ := gInv.pl hI hR h hc
  have h1 := h.1
  have h2 := (hI.2.2.1 j hj).2
  rw [hq, nI_toInt (by omega)] at h1
  refine ⟨j, p - 1, hj, hx, by omega, ?_⟩
  have := nI_pred (p - 1)
  rw [show p - 1 + 1 = p by omega] at this
  rw [hq, this]
theorem gInv.next {S : MSt} (hI : mInv S) {x q : Int32} {lo n : Nat} (h : gInv lo q (Nat.succ n)) (hp : mPl S x q) : gInv lo (q + 1) n := by
  have h1 := hp.lt hI
  obtain ⟨h2, h3, h4⟩ := h
  refine ⟨?_, ?_, ?_⟩ <;> rw [inc_val h1] <;> omega
theorem compare_inv {S : MSt} (hI : mInv S) {a b c : Int32} : mInv (f_X7_compare S a b c).2 := by
  have h : ∃ v, (f_X7_compare S a b c).2 = mset_s S v := by
    unfold f_X7_compare f_X7_compare_8 f_X7_compare_7 f_X7_compare_6 f_X7_compare_5 f_X7_compare_4 f_X7_compare_3 f_X7_compare_2 f_X7_compare_1
    repeat' split
    all_goals exact ⟨_, rfl⟩
  obtain ⟨v, h⟩ := h
  rw [h]
  exact hI
-- a new row
abbrev mset_n (S : MSt) (v : Nat) : MSt := (v, mf S, mk S, mb S, mw S, mo S, mpf S, mpz S, mpd S, mpu S, ms S)
abbrev mset_f (S : MSt) (v : Nat → Nat) : MSt := (mn S, v, mk S, mb S, mw S, mo S, mpf S, mpz S, mpd S, mpu S, ms S)
abbrev mset_k (S : MSt) (v : Nat → Nat) : MSt := (mn S, mf S, v, mb S, mw S, mo S, mpf S, mpz S, mpd S, mpu S, ms S)
def mkU (S : MSt) (v : Nat) : Nat → Nat := fun j => if j = mn S then v else mk S j
def mfU (S : MSt) (x : Int32) : Nat → Nat := fun j => if j = mn S + 1 then mf S (mn S) + x.toNatClampNeg else mf S j
theorem mrow_n {S : MSt} (hI : mInv S) (h : ¬ nI (mn S) = 64) : mn S < 64 := by
  have h1 := hI.1
  rcases Nat.lt_or_ge (mn S) 64 with h2 | h2
  · exact h2
  · exact absurd (show nI (mn S) = nI 64 by rw [show mn S = 64 by omega]) h
theorem mrow_x {x : Int32} (h : ¬ x < 1) : 0 ≤ x.toInt := by
  have h1 : (1 : Int32).toInt = 1 := by decide
  rw [Int32.lt_iff_toInt_lt, h1] at h
  omega
theorem in65 {S : MSt} (h : mn S < 64) : vp_in (nI (mn S)) 65 := vp_in_nI (by omega) (by decide)
theorem in64 {S : MSt} (h : mn S < 64) : vp_in (nI (mn S)) 64 := vp_in_nI h (by decide)
theorem in65s {S : MSt} (h : mn S < 64) : vp_in (nI (mn S) + (1 : Int32)) 65 := by rw [nI_1]; exact vp_in_nI (by omega) (by decide)
theorem mrow_k1 {S : MSt} (h : mn S < 64) : upd (fun j => nI (mk S j)) (nI (mn S)).toNatClampNeg (1 : Int32) = fun j => nI (mkU S 1 j) := by
  funext j
  unfold upd mkU
  rw [nI_clamp (by omega)]
  split <;> rfl
theorem mrow_k0 {S : MSt} (h : mn S < 64) : upd (fun j => nI (mk S j)) (nI (mn S)).toNatClampNeg (0 : Int32) = fun j => nI (mkU S 0 j) := by
  funext j
  unfold upd mkU
  rw [nI_clamp (by omega)]
  split <;> rfl
theorem mrow_f {S : MSt} (h : mn S < 64) {x : Int32} (hx : 0 ≤ x.toInt) : upd (fun j => nI (mf S j)) (nI (mn S) + (1 : Int32)).toNatClampNeg (nI (mf S (nI (mn S)).toNatClampNeg) + x) = fun j => nI (mfU S x j) := by
  funext j
  unfold upd mfU
  rw [nI_1, nI_clamp (by omega), nI_clamp (by omega)]
  obtain ⟨q, hq, rfl⟩ := nI_of (nlt0 hx)
  rw [nI_add, nI_clamp hq]
  split <;> rfl
