-- what a merge of the reference changes
section MO
variable {S : MSt} {k : Nat} {x2 a b c q6 q7 q8 : Int32} {n : Nat} {rec : MSt → Int32 → Int32 → Int32 → MSt}
theorem m3_0 : f_X7_merge_3 0 rec S q8 q6 q7 = rec (mset_o S (vp_updL (mo S) q8.toNatClampNeg (mw S q6.toNatClampNeg))) (q6 + (1 : Int32)) q7 (q8 + (1 : Int32)) := by
  unfold f_X7_merge_3 f_X7_merge_2 f_X7_merge_1
  rw [if_pos rfl, if_pos rfl]
theorem m3_1 : f_X7_merge_3 1 rec S q8 q6 q7 = rec (mset_o S (vp_updL (mo S) q8.toNatClampNeg (mw S q7.toNatClampNeg))) q6 (q7 + (1 : Int32)) (q8 + (1 : Int32)) := by
  unfold f_X7_merge_3 f_X7_merge_2 f_X7_merge_1
  rw [if_neg (by decide), if_neg (by decide)]
/-- one step of the merge: which of the two goes on -/
theorem m7_step (hg : mgP a b c 500) (h : mgI a b c q6 q7 q8 (Nat.succ n)) (h1 : ¬ c ≤ q8) : (f_X7_merge_7 c q8 S q6 b rec q7 k x2 = f_X7_merge_3 0 rec S q8 q6 q7 ∧ mgI a b c (q6 + (1 : Int32)) q7 (q8 + (1 : Int32)) n ∧ ¬ b ≤ q6 ∧ (c ≤ q7 ∨ f_X7_behind k x2 (mw S q6.toNatClampNeg) (mw S q7.toNatClampNeg) = 0)) ∨ (f_X7_merge_7 c q8 S q6 b rec q7 k x2 = f_X7_merge_3 1 rec S q8 q6 q7 ∧ mgI a b c q6 (q7 + (1 : Int32)) (q8 + (1 : Int32)) n ∧ ¬ c ≤ q7 ∧ (b ≤ q6 ∨ ¬ f_X7_behind k x2 (mw S q6.toNatClampNeg) (mw S q7.toNatClampNeg) = 0)) := by
  have e7 : f_X7_merge_7 c q8 S q6 b rec q7 k x2 = f_X7_merge_6 q6 b rec S q8 q7 c k x2 := if_neg h1
  rw [e7]
  by_cases c1 : q6 = b
  · right
    have h6 := mgI.e h h1 c1
    exact ⟨if_pos c1, mgI.right (Nat.le_refl 500) hg h h1 h6, h6, Or.inl (by rw [c1]; exact Int32.le_iff_toInt_le.mpr (Int.le_refl _))⟩
  · have e6 : f_X7_merge_6 q6 b rec S q8 q7 c k x2 = f_X7_merge_5 c q7 rec S q8 q6 k x2 := if_neg c1
    rw [e6]
    have hne := mgI.ne h c1
    by_cases c2 : c ≤ q7
    · left
      exact ⟨if_pos c2, mgI.left (Nat.le_refl 500) hg h h1 hne, hne, Or.inl c2⟩
    · have e5 : f_X7_merge_5 c q7 rec S q8 q6 k x2 = f_X7_merge_4 k x2 S q6 q7 rec q8 := if_neg c2
      rw [e5]
      by_cases c3 : f_X7_behind k x2 (mw S q6.toNatClampNeg) (mw S q7.toNatClampNeg) = 0
      · left
        exact ⟨if_pos c3, mgI.left (Nat.le_refl 500) hg h h1 hne, hne, Or.inr c3⟩
      · right
        exact ⟨if_neg c3, mgI.right (Nat.le_refl 500) hg h h1 c2, c2, Or.inr c3⟩
theorem mergeL_o (hg : mgP a b c 500) : ∀ (n : Nat) (S : MSt) (q6 q7 q8 : Int32), mgI a b c q6 q7 q8 n → ∃ v, f_X7_merge_L10 k x2 b c n S q6 q7 q8 = mset_o S v := by
  intro n
  induction n with
  | zero => intro S q6 q7 q8 h; exact (mgI.zero (Nat.le_refl 500) hg h).elim
  | succ n ih =>
    intro S q6 q7 q8 h
    show ∃ v, f_X7_merge_7 c q8 S q6 b (f_X7_merge_L10 k x2 b c n) q7 k x2 = mset_o S v
    by_cases h1 : c ≤ q8
    · exact ⟨mo S, if_pos h1⟩
    · rcases m7_step (S := S) (k := k) (x2 := x2) (rec := f_X7_merge_L10 k x2 b c n) hg h h1 with ⟨e, hi, -, -⟩ | ⟨e, hi, -, -⟩
      · rw [e, m3_0]
        exact ih _ _ _ _ hi
      · rw [e, m3_1]
        exact ih _ _ _ _ hi
theorem merge_o (hg : mgP a b c 500) : ∃ v, f_X7_merge S k x2 a b c = mset_o S v := mergeL_o hg 501 S a b a (mgI.init (Nat.le_refl 500) hg)
theorem merge_inv (hg : mgP a b c 500) (hI : mInv S) : mInv (f_X7_merge S k x2 a b c) := by
  obtain ⟨v, h⟩ := merge_o (S := S) (k := k) (x2 := x2) hg
  rw [h]; exact hI
theorem merge_row (hg : mgP a b c 500) {x : Int32} (hI : mRow S x) : mRow (f_X7_merge S k x2 a b c) x := by
  obtain ⟨v, h⟩ := merge_o (S := S) (k := k) (x2 := x2) hg
  rw [h]; exact hI
theorem merge_size (hg : mgP a b c 500) {x : Int32} : f_X7_size (f_X7_merge S k x2 a b c) x = f_X7_size S x := by
  obtain ⟨v, h⟩ := merge_o (S := S) (k := k) (x2 := x2) hg
  rw [h]; rfl
end MO
abbrev mZ (S : MSt) : MSt := mset_b S (fun _ => 0)
theorem kcn_0 {k : Nat} (hk : k < 2) : kcn k 0 := by
  rcases two_of hk with rfl | rfl
  · exact ⟨fun h => absurd h (by decide), Or.inl (by decide +kernel)⟩
  · exact ⟨fun _ => by decide, Or.inl (by decide +kernel)⟩
theorem mInv.s0 {S : MSt} (h : mInv S) : mInv (mZ S) := ⟨h.1, h.2.1, h.2.2.1, h.2.2.2.1, h.2.2.2.2.1, fun j p hj _ => kcn_0 (h.2.2.2.2.1 j hj)⟩
