-- rounding to the nearest, of two as near the even one: of m / 2^d, and of a bit more than m if 'more'
def rneUp (m d : Nat) (more : Bool) : Bool := decide (2 ^ d < 2 * (m % 2 ^ d)) || (decide (2 * (m % 2 ^ d) = 2 ^ d) && (more || decide (m / 2 ^ d % 2 = 1)))
def rneN (m d : Nat) (more : Bool) : Nat := m / 2 ^ d + (if rneUp m d more = true then 1 else 0)
theorem pow_even {d : Nat} (h : 1 ≤ d) : ∃ e, 2 ^ d = 2 * e ∧ 0 < e := ⟨2 ^ (d - 1), by rw [← Nat.pow_succ']; congr 1; omega, Nat.two_pow_pos _⟩
/-- a coarser cut of the same number rounds the same -/
theorem rneN_coarse {m d s : Nat} {more : Bool} (hd : 1 ≤ d) : rneN m (d + s) more = rneN (m / 2 ^ s) d (more || decide (¬ m % 2 ^ s = 0)) := by
  have h1 : m / 2 ^ (d + s) = m / 2 ^ s / 2 ^ d := by rw [Nat.div_div_eq_div_mul, ← Nat.pow_add, Nat.add_comm]
  have h2 : m % 2 ^ (d + s) = (m / 2 ^ s % 2 ^ d) * 2 ^ s + m % 2 ^ s := by
    rw [Nat.add_comm d s, Nat.pow_add, Nat.mod_mul, Nat.mul_comm (2 ^ s), Nat.add_comm]
  have hS : 0 < 2 ^ s := Nat.two_pow_pos s
  have ht : m % 2 ^ s < 2 ^ s := Nat.mod_lt _ hS
  obtain ⟨e, he, he0⟩ := pow_even hd
  have h3 : 2 ^ (d + s) = 2 * (e * 2 ^ s) := by rw [Nat.pow_add, he, Nat.mul_assoc]
  unfold rneN
  rw [h1]
  have key : rneUp m (d + s) more = rneUp (m / 2 ^ s) d (more || decide (¬ m % 2 ^ s = 0)) := by
    unfold rneUp
    rw [h1, h2, h3, he]
    generalize m / 2 ^ s % (2 * e) = r
    generalize m % 2 ^ s = t at ht ⊢
    generalize 2 ^ s = S at hS ht ⊢
    rcases Nat.lt_trichotomy r e with h | h | h
    · have : r * S + S ≤ e * S := by rw [← Nat.succ_mul]; exact Nat.mul_le_mul_right S h
      rw [decide_eq_false (by omega), decide_eq_false (by omega), decide_eq_false (by omega : ¬ 2 * e < 2 * r), decide_eq_false (by omega : ¬ 2 * r = 2 * e)]
      rfl
    · subst h
      by_cases h0 : t = 0
      · subst h0
        rw [decide_eq_false (by omega), decide_eq_true (by omega), decide_eq_false (by omega : ¬ 2 * r < 2 * r), decide_eq_true (by rfl : 2 * r = 2 * r), decide_eq_false (by simp : ¬ ¬ (0 : Nat) = 0)]
        simp
      · rw [decide_eq_true (by omega : 2 * (r * S) < 2 * (r * S + t)), decide_eq_true (by rfl : 2 * r = 2 * r), decide_eq_true h0]
        simp
    · have : e * S + S ≤ r * S := by rw [← Nat.succ_mul]; exact Nat.mul_le_mul_right S h
      rw [decide_eq_true (by omega : 2 * (e * S) < 2 * (r * S + t)), decide_eq_true (by omega : 2 * e < 2 * r)]
      rfl
  rw [key]
/-- the lowest bit set for what lies below it rounds as 'more', two bits further up -/
theorem rneN_sticky {m d : Nat} (hd : 2 ≤ d) : rneN (m / 2 * 2 + 1) d false = rneN m d true := by
  obtain ⟨e, he, he0⟩ : ∃ e, 2 ^ d = 4 * e ∧ 0 < e := ⟨2 ^ (d - 2), by rw [show (4 : Nat) = 2 ^ 2 from rfl, ← Nat.pow_add]; congr 1; omega, Nat.two_pow_pos _⟩
  have hq : (m / 2 * 2 + 1) / 2 ^ d = m / 2 ^ d ∧ (m / 2 * 2 + 1) % 2 ^ d = (m % 2 ^ d) / 2 * 2 + 1 := by
    have hm := Nat.div_add_mod m (2 ^ d)
    have hr : m % 2 ^ d < 2 ^ d := Nat.mod_lt _ (Nat.two_pow_pos d)
    generalize m % 2 ^ d = r at hm hr ⊢
    generalize m / 2 ^ d = q at hm ⊢
    rw [he] at hm hr ⊢
    have hx : m / 2 * 2 + 1 = 4 * e * q + (r / 2 * 2 + 1) := by
      rw [← hm, Nat.mul_assoc 4 e q]
      generalize e * q = z
      omega
    have hlt : r / 2 * 2 + 1 < 4 * e := by omega
    rw [hx]
    constructor
    · rw [Nat.mul_add_div (by omega), Nat.div_eq_of_lt hlt, Nat.add_zero]
    · rw [Nat.mul_add_mod, Nat.mod_eq_of_lt hlt]
  unfold rneN
  rw [hq.1]
  have key : rneUp (m / 2 * 2 + 1) d false = rneUp m d true := by
    unfold rneUp
    rw [hq.1, hq.2, he]
    generalize m % (4 * e) = r
    rw [decide_eq_false (by omega : ¬ 2 * (r / 2 * 2 + 1) = 4 * e)]
    by_cases h : 4 * e < 2 * r
    · rw [decide_eq_true h, decide_eq_true (by omega : 4 * e < 2 * (r / 2 * 2 + 1))]; rfl
    · by_cases h2 : 2 * r = 4 * e
      · rw [decide_eq_false h, decide_eq_true h2, decide_eq_true (by omega : 4 * e < 2 * (r / 2 * 2 + 1))]; rfl
      · rw [decide_eq_false h, decide_eq_false h2, decide_eq_false (by omega : ¬ 4 * e < 2 * (r / 2 * 2 + 1))]; rfl
  rw [key]
theorem rneN_exact {m d s : Nat} : rneN (m * 2 ^ (d + s)) d false = m * 2 ^ s := by
  have h0 : m * 2 ^ (d + s) = 2 ^ d * (m * 2 ^ s) := by rw [Nat.pow_add, ← Nat.mul_assoc, Nat.mul_comm m, Nat.mul_assoc]
  have hp := Nat.two_pow_pos d
  unfold rneN rneUp
  rw [h0, Nat.mul_div_cancel_left _ hp, Nat.mul_mod_right, decide_eq_false (by omega), decide_eq_false (by omega)]
  rfl
theorem rneN_zero {m : Nat} {more : Bool} : rneN m 0 more = m := by
  unfold rneN rneUp
  rw [Nat.pow_zero, Nat.div_one, Nat.mod_one, decide_eq_false (by omega), decide_eq_false (by omega)]
  rfl
theorem rneN_le {m d a : Nat} {more : Bool} (h : m < 2 ^ (d + a)) : rneN m d more ≤ 2 ^ a := by
  have : m / 2 ^ d < 2 ^ a := Nat.div_lt_of_lt_mul (by rw [← Nat.pow_add]; exact h)
  unfold rneN
  split <;> omega
theorem rneN_small {m d : Nat} {more : Bool} (h : m < 2 ^ d) (h2 : 2 * m < 2 ^ d) : rneN m d more = 0 := by
  unfold rneN rneUp
  rw [Nat.div_eq_of_lt h, Nat.mod_eq_of_lt h, decide_eq_false (by omega), decide_eq_false (by omega)]
  rfl
-- the magnitude's bits of m (and a bit more) times 2^e, rounded to the kind k
def klowZ (k : Nat) : Int := if k = 0 then -1074 else -149
def ktopZ (k : Nat) : Int := if k = 0 then 2047 else 255
def kinfN (k : Nat) : Nat := if k = 0 then 9218868437227405312 else 2139095040
def rQ (k m : Nat) (e : Int) : Int := max (e + (m.log2 : Int) - (kfbN k : Int)) (klowZ k)
def rnd (k m : Nat) (e : Int) (more : Bool) : Nat :=
  if ktopZ k - 1 ≤ rQ k m e - klowZ k then kinfN k
  else (rQ k m e - klowZ k).toNat * 2 ^ kfbN k + (if rQ k m e ≤ e then m * 2 ^ (e - rQ k m e).toNat else rneN m (rQ k m e - e).toNat more)
theorem log2_is {m L : Nat} (h1 : 2 ^ L ≤ m) (h2 : m < 2 ^ (L + 1)) : m.log2 = L := (Nat.log2_eq_iff (by have := Nat.two_pow_pos L; omega)).mpr ⟨h1, h2⟩
theorem log2_lo {m : Nat} (h : 0 < m) : 2 ^ m.log2 ≤ m := ((Nat.log2_eq_iff (by omega)).mp rfl).1
theorem log2_hi {m : Nat} (h : 0 < m) : m < 2 ^ (m.log2 + 1) := ((Nat.log2_eq_iff (by omega)).mp rfl).2
theorem log2_div {m s : Nat} (h : 0 < m / 2 ^ s) : m.log2 = (m / 2 ^ s).log2 + s := by
  have h1 := log2_lo h
  have h2 := log2_hi h
  have hs := Nat.two_pow_pos s
  refine log2_is ?_ ?_
  · rw [Nat.pow_add]
    exact Nat.le_trans (Nat.mul_le_mul_right _ h1) (Nat.div_mul_le_self m (2 ^ s))
  · rw [show (m / 2 ^ s).log2 + s + 1 = (m / 2 ^ s).log2 + 1 + s by omega, Nat.pow_add]
    exact (Nat.div_lt_iff_lt_mul hs).mp h2
theorem rQ_div {k m s : Nat} {e : Int} (h : 0 < m / 2 ^ s) : rQ k (m / 2 ^ s) (e + s) = rQ k m e := by
  unfold rQ
  rw [log2_div h]
  congr 1
  omega
/-- the same number cut coarser, where the cut lies below what is rounded -/
theorem rnd_coarse {k m s : Nat} {e : Int} {more : Bool} (h : 0 < m / 2 ^ s) (hd : e + s < rQ k m e ∨ (more = false ∧ m % 2 ^ s = 0)) : rnd k m e more = rnd k (m / 2 ^ s) (e + s) (more || decide (¬ m % 2 ^ s = 0)) := by
  unfold rnd
  rw [rQ_div h]
  by_cases ht : ktopZ k - 1 ≤ rQ k m e - klowZ k
  · rw [if_pos ht, if_pos ht]
  · rw [if_neg ht, if_neg ht]
    congr 1
    rcases hd with hd | ⟨rfl, h0⟩
    · rw [if_neg (by omega), if_neg (by omega)]
      rw [show (rQ k m e - e).toNat = (rQ k m e - (e + s)).toNat + s by omega]
      exact rneN_coarse (by omega)
    · obtain ⟨a, ha⟩ : ∃ a, a = m / 2 ^ s := ⟨_, rfl⟩
      have hm : m = a * 2 ^ s := by rw [ha]; exact (Nat.div_mul_cancel (Nat.dvd_of_mod_eq_zero h0)).symm
      rw [h0, show (false || decide (¬ (0 : Nat) = 0)) = false from rfl, ← ha]
      generalize rQ k m e = Q
      by_cases h1 : Q ≤ e
      · rw [if_pos h1, if_pos (by omega), hm, Nat.mul_assoc, ← Nat.pow_add]
        congr 2
        omega
      · rw [if_neg h1]
        by_cases h2 : Q ≤ e + s
        · rw [if_pos h2, hm, show (2 : Nat) ^ s = 2 ^ ((Q - e).toNat + (e + s - Q).toNat) by congr 1; omega]
          exact rneN_exact
        · rw [if_neg h2, show (Q - e).toNat = (Q - (e + s)).toNat + s by omega, rneN_coarse (by omega), h0, ← ha]
          rfl
theorem rnd_scale {k m s : Nat} {e : Int} (h : 0 < m) : rnd k (m * 2 ^ s) e false = rnd k m (e + s) false := by
  have hs := Nat.two_pow_pos s
  have h1 : m * 2 ^ s / 2 ^ s = m := Nat.mul_div_cancel _ hs
  have := rnd_coarse (k := k) (m := m * 2 ^ s) (s := s) (e := e) (more := false) (by rw [h1]; exact h) (Or.inr ⟨rfl, Nat.mul_mod_left _ _⟩)
  rw [h1, Nat.mul_mod_left] at this
  exact this
theorem rnd_sticky {k m : Nat} {e : Int} (h : 2 ≤ m) (hd : e + 2 ≤ rQ k m e) : rnd k (m / 2 * 2 + 1) e false = rnd k m e true := by
  have hl : (m / 2 * 2 + 1).log2 = m.log2 := by
    have h1 := log2_lo (show 0 < m by omega)
    have h2 := log2_hi (show 0 < m by omega)
    have h3 : m.log2 ≠ 0 := fun e => by rw [e] at h2; omega
    obtain ⟨a, ha⟩ : ∃ a, 2 ^ m.log2 = 2 * a := ⟨2 ^ (m.log2 - 1), by rw [← Nat.pow_succ']; congr 1; omega⟩
    have h4 : 2 ^ (m.log2 + 1) = 4 * a := by rw [Nat.pow_succ, ha]; omega
    exact log2_is (by omega) (by omega)
  have hq : rQ k (m / 2 * 2 + 1) e = rQ k m e := by unfold rQ; rw [hl]
  unfold rnd
  rw [hq]
  split
  · rfl
  · congr 1
    rw [if_neg (by omega), if_neg (by omega)]
    exact rneN_sticky (by omega)

