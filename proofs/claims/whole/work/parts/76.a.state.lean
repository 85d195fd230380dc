-- the two states side by side
section ST
variable {S : CSt} {M : MSt} {j p : Nat}
theorem Rel.j64 (h : Rel S M) (hj : j < cn S) : (nI j).toNatClampNeg = j := nI_clamp (by have := h.1.1; omega)
theorem Rel.mj (h : Rel S M) (hj : j < cn S) : j < mn M := by rw [← h.2.2.1]; exact hj
theorem Rel.kd (h : Rel S M) (hj : j < cn S) : ckd S j = mk M j ∧ ckd S j < 2 := ⟨(h.2.2.2.2.2.1 j hj).1, (h.1.2 j hj).1⟩
theorem Rel.ln (h : Rel S M) (hj : j < cn S) : cln S j = mf M (j + 1) - mf M j ∧ 1 ≤ cln S j ∧ cln S j ≤ 500 := ⟨(h.2.2.2.2.2.1 j hj).2.1, (h.1.2 j hj).2.1, (h.1.2 j hj).2.2⟩
theorem Rel.bt (h : Rel S M) (hj : j < cn S) (hp : p < cln S j) : cbt S j p = mb M (mf M j + p) ∧ kcn (ckd S j) (cbt S j p) := by
  have e := (h.2.2.2.2.2.1 j hj).2.2 p hp
  refine ⟨e, ?_⟩
  rw [e, (h.kd hj).1]
  have := (h.ln hj).1
  exact h.2.1.2.2.2.2.2 j p (h.mj hj) (by omega)
theorem Rel.top (h : Rel S M) (hj : j < cn S) : mf M j + cln S j = mf M (j + 1) ∧ mf M (j + 1) ≤ 4000 := by
  have h1 := (h.2.1.2.2.1 j (h.mj hj)).1
  have h2 := (h.ln hj).1
  have h3 := h.2.1.top (j := j + 1) (by have := h.mj hj; omega)
  omega
theorem Rel.idx (h : Rel S M) (hj : j < cn S) (hp : p < cln S j) : (nI (mf M (nI j).toNatClampNeg) + nI p).toNatClampNeg = mf M j + p := by
  have h1 := h.top hj
  rw [h.j64 hj, nI_add, nI_clamp (by omega)]
theorem Rel.at_ (h : Rel S M) (hj : j < cn S) (hp : p < cln S j) : f_X7_at M (nI j) (nI p) = cbt S j p := by
  unfold f_X7_at
  rw [h.idx hj hp, (h.bt hj hp).1]
theorem Rel.size (h : Rel S M) (hj : j < cn S) : f_X7_size M (nI j) = nI (cln S j) := by
  rw [size_val h.2.1 (h.mj hj), (h.ln hj).1]
theorem Rel.p64 (h : Rel S M) (hj : j < cn S) (hp : p < cln S j) : (nI p).toNatClampNeg = p := nI_clamp (by have := (h.ln hj).2.2; omega)
theorem Rel.rs (h : Rel S M) (v : Int32) : Rel (cset_rs S v) (mset_s M v) := ⟨h.1, h.2.1, h.2.2.1, h.2.2.2.1, rfl, h.2.2.2.2.2.1, h.2.2.2.2.2.2⟩
theorem Rel.apart (h : Rel S M) (hj : j < cn S) {i q : Nat} (hi : i < cn S) (hq : q < cln S i) (e : ¬ i = j) : mf M i + q < mf M j ∨ mf M (j + 1) ≤ mf M i + q := by
  have t1 := h.top hi
  have t2 := h.top hj
  have mj := h.mj hj
  have mi := h.mj hi
  rcases Nat.lt_or_gt_of_ne e with h1 | h1
  · left
    have := h.2.1.mono (i := j) (by omega) (j - (i + 1)) (by omega)
    rw [show j - (j - (i + 1)) = i + 1 by omega] at this
    omega
  · right
    have := h.2.1.mono (i := i) (by omega) (i - (j + 1)) (by omega)
    rw [show i - (i - (j + 1)) = j + 1 by omega] at this
    omega
/-- one row written in both -/
theorem Rel.gen (h : Rel S M) (hj : j < cn S) {S' : CSt} {M' : MSt} {f : Nat → Int64} (c1 : cn S' = cn S) (c2 : ckd S' = ckd S) (c3 : cln S' = cln S) (c4 : cbt S' = cbU (cbt S) j f) (c5 : ccn S' = ccn S) (m1 : mn M' = mn M) (m2 : mf M' = mf M) (m3 : mk M' = mk M) (hs : crs S' = ms M') (hin : ∀ q, q < cln S j → f q = mb M' (mf M j + q) ∧ kcn (ckd S j) (f q)) (hout : ∀ i, i < mf M j ∨ mf M (j + 1) ≤ i → mb M' i = mb M i) : Rel S' M' := by
  have hb : ∀ i q, i < cn S → q < cln S i → cbU (cbt S) j f i q = mb M' (mf M i + q) ∧ kcn (ckd S i) (mb M' (mf M i + q)) := by
    intro i q hi hq
    unfold cbU
    by_cases e : i = j
    · subst e
      rw [if_pos rfl]
      have := hin q hq
      exact ⟨this.1, by rw [← this.1]; exact this.2⟩
    · rw [if_neg e, hout _ (h.apart hj hi hq e)]
      have := h.bt hi hq
      exact ⟨this.1, by rw [← this.1]; exact this.2⟩
  have hI := h.2.1
  refine ⟨⟨by rw [c1]; exact h.1.1, ?_⟩, ⟨by rw [m1]; exact hI.1, by rw [m2]; exact hI.2.1, by rw [m1, m2]; exact hI.2.2.1, by rw [m1, m2]; exact hI.2.2.2.1, by rw [m1, m3]; exact hI.2.2.2.2.1, ?_⟩, by rw [c1, m1]; exact h.2.2.1, by rw [c5, m1, m2]; exact h.2.2.2.1, hs, ?_, ?_⟩
  · rw [c1, c2, c3]; exact h.1.2
  · intro i q hi hq
    rw [m1, ← h.2.2.1] at hi
    rw [m2] at hq
    rw [m3, m2, ← (h.kd hi).1]
    exact (hb i q hi (by rw [(h.ln hi).1]; exact hq)).2
  · rw [c1, c2, c3, c4, m2, m3]
    intro i hi
    exact ⟨(h.kd hi).1, (h.ln hi).1, fun q hq => (hb i q hi hq).1⟩
  · rw [m1, m2]
    intro i hi
    have t1 := h.2.1.mono (Nat.le_refl (mn M)) (mn M - (j + 1)) (by omega)
    rw [show mn M - (mn M - (j + 1)) = j + 1 by have := h.mj hj; omega] at t1
    rw [hout i (Or.inr (by omega))]
    exact h.2.2.2.2.2.2 i hi
theorem Rel.put (h : Rel S M) (hj : j < cn S) (hp : p < cln S j) {b : Int64} (hb : kcn (ckd S j) b) (v : Int32) : Rel (cset_rs (cset_bt S j (vp_updL (cbt S j) p b)) v) (mset_b (mset_s M v) (vp_updL (mb M) (mf M j + p) b)) := by
  have t := h.top hj
  refine h.gen hj (S' := cset_rs (cset_bt S j (vp_updL (cbt S j) p b)) v) (M' := mset_b (mset_s M v) (vp_updL (mb M) (mf M j + p) b)) rfl rfl rfl rfl rfl rfl rfl rfl rfl ?_ ?_
  · intro q hq
    show vp_updL (cbt S j) p b q = vp_updL (mb M) (mf M j + p) b (mf M j + q) ∧ kcn (ckd S j) (vp_updL (cbt S j) p b q)
    unfold vp_updL
    by_cases e : q = p
    · subst e
      rw [if_pos rfl, if_pos rfl]; exact ⟨rfl, hb⟩
    · rw [if_neg e, if_neg (by omega)]; exact h.bt hj hq
  · intro i hi
    show vp_updL (mb M) (mf M j + p) b i = mb M i
    unfold vp_updL
    rw [if_neg (by omega)]
theorem row_split (h : Rel S M) (x : Int32) : (¬ (0 ≤ x ∧ x < nI (cn S)) ∧ (∀ i, f_X7_bad M x i = 1) ∧ (x < 0 ∨ (¬ x < 0 ∧ ¬ x < nI (mn M)))) ∨ ∃ j, j < cn S ∧ x = nI j ∧ (0 ≤ x ∧ x < nI (cn S)) ∧ ¬ x < 0 ∧ x < nI (mn M) := by
  have hz : (0 : Int32).toInt = 0 := by decide
  have hn := h.2.2.1
  have h64 := h.1.1
  by_cases c1 : x < 0
  · left
    refine ⟨fun h => ?_, fun i => by rw [bad_def, if_pos c1], Or.inl c1⟩
    have h1 := h.1
    rw [Int32.le_iff_toInt_le] at h1
    rw [Int32.lt_iff_toInt_lt] at c1
    omega
  · have c0 : (0 : Int32) ≤ x := by
      rw [Int32.le_iff_toInt_le]
      rw [Int32.lt_iff_toInt_lt] at c1
      omega
    by_cases c2 : x < nI (mn M)
    · right
      obtain ⟨j, hj, rfl⟩ := nI_of c1
      exact ⟨j, by rw [hn]; exact (nI_ltI hj (by omega)).mp c2, rfl, ⟨c0, by rw [hn]; exact c2⟩, c1, c2⟩
    · left
      exact ⟨fun h => c2 (by rw [← hn]; exact h.2), fun i => by rw [bad_def, if_neg c1, if_neg c2], Or.inr ⟨c1, c2⟩⟩
theorem place_split (h : Rel S M) (hj : j < cn S) (i : Int32) : ((∀ k f, f_X3_has k (cln S j) f i = 0) ∧ f_X7_bad M (nI j) i = 2 ∧ f_X7_outside M (nI j) i = 1) ∨ ∃ p, p < cln S j ∧ i = nI p ∧ (∀ k f, f_X3_has k (cln S j) f i = 1) ∧ f_X7_bad M (nI j) i = 0 ∧ f_X7_outside M (nI j) i = 0 := by
  have hz : (0 : Int32).toInt = 0 := by decide
  have hl := h.ln hj
  have h64 := h.1.1
  have hr0 : ¬ nI j < 0 := nlt0 (by rw [nI_toInt (by omega)]; omega)
  have hr1 : nI j < nI (mn M) := nI_lt (h.mj hj) (by have := h.2.2.1; omega)
  rw [bad_def, out_def, if_neg hr0, if_pos hr1, h.size hj]
  by_cases c1 : i < 0
  · left
    rw [if_pos c1, if_pos c1]
    refine ⟨fun k f => ?_, rfl, rfl⟩
    unfold f_X3_has f_X3_has_2
    rw [if_pos c1]
  · rw [if_neg c1, if_neg c1]
    obtain ⟨p, hp, rfl⟩ := nI_of c1
    by_cases c2 : p < cln S j
    · right
      have c3 : nI p < nI (cln S j) := nI_lt c2 (by omega)
      rw [if_pos c3, if_pos c3]
      refine ⟨p, c2, rfl, fun k f => ?_, rfl, rfl⟩
      unfold f_X3_has f_X3_has_2 f_X3_has_1
      rw [if_neg c1, if_neg (nI_ge c2 (by omega))]
    · left
      have c3 : ¬ nI p < nI (cln S j) := nI_nlt (by omega) hp
      rw [if_neg c3, if_neg c3]
      refine ⟨fun k f => ?_, rfl, rfl⟩
      unfold f_X3_has f_X3_has_2 f_X3_has_1
      rw [if_neg c1, if_pos (nI_le (by omega) hp)]
theorem ref_R (h : Rel S M) (v : Int32) : R2i (f_X6_refuse S v) (f_X7_no M v) := ⟨rfl, h.rs v⟩
theorem put_R (h : Rel S M) (hj : j < cn S) (hp : p < cln S j) {b : Int64} (hb : kcn (ckd S j) b) : R2i (f_X6_answer (cset_bt S j (f_X3_put (cbt S j) (ckd S j) (nI p) b).2) (f_X3_put (cbt S j) (ckd S j) (nI p) b).1) (f_X7_keep (mset_s M 0) (nI j) (nI p) b) := by
  have e1 := h.idx hj hp
  have hk := h.kd hj
  constructor
  · show f_X1_sortOf (ckd S j) b = f_X7_sortOf (mk M (nI j).toNatClampNeg) b
    rw [h.j64 hj, ← hk.1, sortOf_eq hk.2 hb]
  · have := h.put hj hp hb 0
    show Rel (cset_rs (cset_bt S j (vp_updL (cbt S j) (nI p).toNatClampNeg b)) 0) (mset_b (mset_s M 0) (vp_updL (mb M) (nI (mf M (nI j).toNatClampNeg) + nI p).toNatClampNeg b))
    rw [e1, h.p64 hj hp]
    exact this
theorem le00 : (0 : Int32) ≤ 0 := by decide
theorem nle10 : ¬ (1 : Int32) ≤ 0 := by decide
theorem nle20 : ¬ (2 : Int32) ≤ 0 := by decide
theorem n10 : ¬ (1 : Int32) = 0 := by decide
theorem n20 : ¬ (2 : Int32) = 0 := by decide
theorem R_status (h : Rel S M) : f_X6_status S = f_X7_status M := h.2.2.2.2.1
theorem R_get (h : Rel S M) (x1 : Int32) (x2 : Int32) : R2l (f_X6_get S x1 x2) (f_X7_get M x1 x2) := by
  unfold f_X6_get f_X6_get_3 f_X6_get_2 f_X6_get_1 f_X7_get f_X7_get_1
  rcases row_split h x1 with ⟨r1, r2, r3⟩ | ⟨j, hj, rfl, r1, r2, r3⟩
  · rw [if_neg r1, r2 x2, if_neg (show ¬ ms (mset_s M 1) ≤ 0 from nle10)]
    exact ⟨rfl, h.rs 1⟩
  · rw [if_pos r1, h.j64 hj]
    rcases place_split h hj x2 with ⟨p1, p2, p3⟩ | ⟨p, hp, rfl, p1, p2, p3⟩
    · rw [if_pos (p1 _ _), p2, if_neg (show ¬ ms (mset_s M 2) ≤ 0 from nle20)]
      exact ⟨rfl, h.rs 2⟩
    · rw [if_neg (by rw [p1]; exact n10), p2, if_pos (show ms (mset_s M 0) ≤ 0 from le00), h.p64 hj hp]
      exact ⟨(h.at_ hj hp).symm, h.rs 0⟩
theorem R_set (h : Rel S M) (x1 : Int32) (x2 : Int32) (x3 : Int64) : R2i (f_X6_set S x1 x2 x3) (f_X7_set M x1 x2 x3) := by
  unfold f_X6_set f_X6_set_4 f_X6_set_3 f_X7_set f_X7_set_3
  rcases row_split h x1 with ⟨r1, r2, r3⟩ | ⟨j, hj, rfl, r1, r2, r3⟩
  · rw [if_neg r1, r2 x2, if_neg nle10]
    exact ref_R h 1
  · rw [if_pos r1, h.j64 hj]
    rcases place_split h hj x2 with ⟨p1, p2, p3⟩ | ⟨p, hp, rfl, p1, p2, p3⟩
    · rw [if_pos (p1 _ _), p2, if_neg nle20]
      exact ref_R h 2
    · rw [if_neg (by rw [p1]; exact n10), p2, if_pos le00]
      unfold f_X6_set_2 f_X7_set_2
      have hc := cleaned_eq (h.kd hj).2 x3
      have e : f_X7_clean (mk (mset_s M 0) (nI j).toNatClampNeg) x3 = f_X1_cleaned (ckd S j) x3 := by
        rw [hc.1, h.j64 hj, (h.kd hj).1]
      rw [e, h.j64 hj]
      exact put_R h hj hp (by rw [hc.1]; exact hc.2)
theorem whole_v {k : Nat} (hk : k < 2) (v : Int64) : (v = 0 ∧ f_X2_ofWhole k v = 0) ∨ (v = -9223372036854775808 ∧ f_X2_ofWhole k v = f_X7_round k (1 : Int32) (4611686018427387904 : Int64) (1 : Int32) (0 : Int32)) ∨ (¬ v = 0 ∧ ¬ v = -9223372036854775808 ∧ f_X2_ofWhole k v = if (0 : Int64) ≤ v then f_X7_round k 0 v 0 0 else f_X7_round k 1 (-v) 0 0) := by
  have hzL : (0 : Int64).toInt = 0 := by decide
  have hmL : (-9223372036854775808 : Int64).toInt = -9223372036854775808 := by decide
  by_cases h0 : v = 0
  · left; exact ⟨h0, by rw [h0]; exact ofWhole_0 hk⟩
  · by_cases h1 : v = -9223372036854775808
    · right; left; exact ⟨h1, by rw [h1]; exact (ofWhole_min hk).1⟩
    · right; right
      refine ⟨h0, h1, ?_⟩
      have v0 : v.toInt ≠ 0 := fun e => h0 (Int64.toInt_inj.mp (by rw [e, hzL]))
      have v1 : v.toInt ≠ -9223372036854775808 := fun e => h1 (Int64.toInt_inj.mp (by rw [e, hmL]))
      have a1 := v.toInt_lt
      have a2 := v.le_toInt
      unfold f_X2_ofWhole f_X2_ofWhole_3 f_X2_ofWhole_2
      by_cases c : (0 : Int64) ≤ v
      · rw [if_pos c, if_pos c, if_pos c]
        have c' := Int64.le_iff_toInt_le.mp c
        rw [hzL] at c'
        have e := lN_natAbs rfl c'
        have := (ofWhole_val (k := k) hk (b := false) (m := v.toInt.natAbs) (by omega) (by omega)).1
        rw [← e] at this
        exact this
      · rw [if_neg c, if_neg c, if_neg c]
        have c' : ¬ 0 ≤ v.toInt := fun h => c (Int64.le_iff_toInt_le.mpr (by rw [hzL]; exact h))
        have e := lN_natAbsN (V := v) rfl (by omega) (by omega)
        have := (ofWhole_val (k := k) hk (b := true) (m := v.toInt.natAbs) (by omega) (by omega)).1
        rw [← e] at this
        exact this
theorem whole_c {k : Nat} (hk : k < 2) (v : Int64) : kcn k (f_X2_ofWhole k v) := by
  have hzL : (0 : Int64).toInt = 0 := by decide
  have hmL : (-9223372036854775808 : Int64).toInt = -9223372036854775808 := by decide
  rcases whole_v hk v with ⟨h0, h1⟩ | ⟨h0, h1⟩ | ⟨h0, h1, h2⟩
  · rw [h1, zero_encf (k := k)]; exact kcn_enc hk (Nat.zero_le _)
  · rw [h1]; exact (ofWhole_min hk).2
  · have v0 : v.toInt ≠ 0 := fun e => h0 (Int64.toInt_inj.mp (by rw [e, hzL]))
    have v1 : v.toInt ≠ -9223372036854775808 := fun e => h1 (Int64.toInt_inj.mp (by rw [e, hmL]))
    have a1 := v.toInt_lt
    have a2 := v.le_toInt
    rw [h2]
    by_cases c : (0 : Int64) ≤ v
    · rw [if_pos c]
      have c' := Int64.le_iff_toInt_le.mp c
      rw [hzL] at c'
      have e := lN_natAbs rfl c'
      have := (ofWhole_val (k := k) hk (b := false) (m := v.toInt.natAbs) (by omega) (by omega)).2
      rw [← e] at this
      exact this
    · rw [if_neg c]
      have c' : ¬ 0 ≤ v.toInt := fun h => c (Int64.le_iff_toInt_le.mpr (by rw [hzL]; exact h))
      have e := lN_natAbsN (V := v) rfl (by omega) (by omega)
      have := (ofWhole_val (k := k) hk (b := true) (m := v.toInt.natAbs) (by omega) (by omega)).2
      rw [← e] at this
      exact this
theorem R_whole (h : Rel S M) (x1 : Int32) (x2 : Int32) (x3 : Int64) : R2i (f_X6_whole S x1 x2 x3) (f_X7_whole M x1 x2 x3) := by
  unfold f_X6_whole f_X6_whole_4 f_X6_whole_3 f_X7_whole f_X7_whole_7
  rcases row_split h x1 with ⟨r1, r2, r3⟩ | ⟨j, hj, rfl, r1, r2, r3⟩
  · rw [if_neg r1, r2 x2, if_neg nle10]
    exact ref_R h 1
  · rw [if_pos r1, h.j64 hj]
    rcases place_split h hj x2 with ⟨p1, p2, p3⟩ | ⟨p, hp, rfl, p1, p2, p3⟩
    · rw [if_pos (p1 _ _), p2, if_neg nle20]
      exact ref_R h 2
    · rw [if_neg (by rw [p1]; exact n10), p2, if_pos le00]
      have hk := h.kd hj
      have hp := put_R h hj hp (whole_c hk.2 x3)
      have e : f_X7_whole_6 x3 (mset_s M 0) (nI j) (nI p) = f_X7_keep (mset_s M 0) (nI j) (nI p) (f_X2_ofWhole (ckd S j) x3) := by
        unfold f_X7_whole_6 f_X7_whole_5 f_X7_whole_4 f_X7_whole_3 f_X7_whole_2 f_X7_whole_1
        have em : mk (mset_s M 0) (nI j).toNatClampNeg = ckd S j := by rw [h.j64 hj, hk.1]
        rw [em]
        rcases whole_v hk.2 x3 with ⟨h0, h1⟩ | ⟨h0, h1⟩ | ⟨h0, h1, h2⟩
        · rw [if_pos h0, h1]
        · rw [if_neg (by rw [h0]; decide), if_pos h0, h1]
        · rw [if_neg h0, if_neg h1, h2]
          by_cases c : (0 : Int64) ≤ x3
          · rw [if_pos c, if_pos c, if_pos c]
          · rw [if_neg c, if_neg c, if_neg c]
      rw [e]
      unfold f_X6_whole_2
      rw [h.j64 hj]
      exact hp
theorem R_cut (h : Rel S M) (x1 : Int32) (x2 : Int32) (x3 : Int32) : R2l (f_X6_cut S x1 x2 (b01 x3)) (f_X7_cut M x1 x2 (b01 x3)) := by
  generalize b01 x3 = b
  unfold f_X6_cut f_X6_cut_5 f_X6_cut_4 f_X7_cut f_X7_cut_11
  rcases row_split h x1 with ⟨r1, r2, r3⟩ | ⟨j, hj, rfl, r1, r2, r3⟩
  · rw [if_neg r1, r2 x2, if_neg (show ¬ ms (mset_s M 1) ≤ 0 from nle10)]
    exact ⟨rfl, h.rs 1⟩
  · rw [if_pos r1, h.j64 hj]
    rcases place_split h hj x2 with ⟨p1, p2, p3⟩ | ⟨p, hp, rfl, p1, p2, p3⟩
    · rw [if_pos (p1 _ _), p2, if_neg (show ¬ ms (mset_s M 2) ≤ 0 from nle20)]
      exact ⟨rfl, h.rs 2⟩
    · rw [if_neg (by rw [p1]; exact n10), p2, if_pos (show ms (mset_s M 0) ≤ 0 from le00), h.p64 hj hp]
      have hk := h.kd hj
      have hat : f_X7_at (mset_s M 0) (nI j) (nI p) = cbt S j p := h.at_ hj hp
      have em : mk (mset_s M 0) (nI j).toNatClampNeg = ckd S j := by rw [h.j64 hj, hk.1]
      have hc := (h.bt hj hp).2
      rw [hat, cut_val (mset_s M 0) (nI j) b (by rw [em]; exact hk.2) (by rw [em]; exact hc), em]
      unfold f_X6_cut_3 f_X6_cut_2 f_X6_cut_1 cutC
      by_cases c : b = 0
      · rw [if_pos c, if_pos c]; exact ⟨rfl, h.rs 0⟩
      · rw [if_neg c, if_neg c]; exact ⟨rfl, h.rs 0⟩
theorem cmp_val (x1 : Int32) (x2 x3 : Int32) : f_X7_compare_4 M x1 x2 x3 = (cmpV (mk M x1.toNatClampNeg) (f_X7_at M x1 x2) (f_X7_at M x1 x3), M) := by
  unfold f_X7_compare_4 f_X7_compare_3 f_X7_compare_2 f_X7_compare_1 cmpV
  split
  · split
    · split
      · split <;> rfl
      · rfl
    · rfl
  · rfl
/-- 'compare' of the reference, where both places are there -/
theorem cmp_at (h : Rel S M) (hj : j < cn S) {q : Nat} (hp : p < cln S j) (hq : q < cln S j) : f_X7_compare M (nI j) (nI p) (nI q) = (cmpV (ckd S j) (cbt S j p) (cbt S j q), mset_s M 0) := by
  have hk := h.kd hj
  have pp : f_X7_bad M (nI j) (nI p) = 0 := by
    rcases place_split h hj (nI p) with ⟨p1, p2, p3⟩ | ⟨p', hp', e, p1, p2, p3⟩
    · exfalso
      have := p1 0 (fun _ => 0)
      unfold f_X3_has f_X3_has_2 f_X3_has_1 at this
      rw [if_neg (nlt0 (by rw [nI_toInt (by have := (h.ln hj).2.2; omega)]; omega)), if_neg (nI_ge hp (by have := (h.ln hj).2.2; omega))] at this
      exact absurd this (by decide)
    · exact p2
  have qq : f_X7_outside M (nI j) (nI q) = 0 := by
    rcases place_split h hj (nI q) with ⟨p1, p2, p3⟩ | ⟨p', hp', e, p1, p2, p3⟩
    · exfalso
      have := p1 0 (fun _ => 0)
      unfold f_X3_has f_X3_has_2 f_X3_has_1 at this
      rw [if_neg (nlt0 (by rw [nI_toInt (by have := (h.ln hj).2.2; omega)]; omega)), if_neg (nI_ge hq (by have := (h.ln hj).2.2; omega))] at this
      exact absurd this (by decide)
    · exact p3
  unfold f_X7_compare f_X7_compare_8 f_X7_compare_7 f_X7_compare_6
  rw [pp, if_pos rfl, qq, if_pos rfl, if_pos le00, cmp_val]
  have e1 : f_X7_at (mset_s M 0) (nI j) (nI p) = cbt S j p := h.at_ hj hp
  have e2 : f_X7_at (mset_s M 0) (nI j) (nI q) = cbt S j q := h.at_ hj hq
  have em : mk (mset_s M 0) (nI j).toNatClampNeg = ckd S j := by rw [h.j64 hj, hk.1]
  rw [e1, e2, em]
theorem R_compare (h : Rel S M) (x1 : Int32) (x2 : Int32) (x3 : Int32) : R2i (f_X6_compare S x1 x2 x3) (f_X7_compare M x1 x2 x3) := by
  unfold f_X6_compare f_X6_compare_5 f_X6_compare_4 f_X6_compare_3
  rcases row_split h x1 with ⟨r1, r2, r3⟩ | ⟨j, hj, rfl, r1, r2, r3⟩
  · unfold f_X7_compare f_X7_compare_8 f_X7_compare_6
    rw [if_neg r1, r2 x2, if_neg n10, if_neg nle10]
    exact ref_R h 1
  · rw [if_pos r1, h.j64 hj]
    rcases place_split h hj x2 with ⟨p1, p2, p3⟩ | ⟨p, hp, rfl, p1, p2, p3⟩
    · unfold f_X7_compare f_X7_compare_8 f_X7_compare_6
      rw [if_pos (p1 _ _), p2, if_neg n20, if_neg nle20]
      exact ref_R h 2
    · rcases place_split h hj x3 with ⟨q1, q2, q3⟩ | ⟨q, hq, rfl, q1, q2, q3⟩
      · unfold f_X7_compare f_X7_compare_8 f_X7_compare_7
        rw [if_neg (by rw [p1]; exact n10), if_pos (q1 _ _), p2, if_pos rfl, if_neg (by rw [q3]; exact n10)]
        exact ref_R h 2
      · rw [if_neg (by rw [p1]; exact n10), if_neg (by rw [q1]; exact n10), cmp_at h hj hp hq, h.p64 hj hp, h.p64 hj hq, relations_eq (h.kd hj).2 (h.bt hj hp).2 (h.bt hj hq).2]
        exact ⟨rfl, h.rs 0⟩
theorem R_total (h : Rel S M) (x1 : Int32) (x2 : Int32) (x3 : Int32) : R2i (f_X6_total S x1 x2 x3) (f_X7_total M x1 x2 x3) := by
  unfold f_X6_total f_X6_total_8 f_X6_total_7 f_X6_total_6 f_X7_total f_X7_total_5 f_X7_total_4 f_X7_total_3
  rcases row_split h x1 with ⟨r1, r2, r3⟩ | ⟨j, hj, rfl, r1, r2, r3⟩
  · rw [if_neg r1, r2 x2, if_neg n10, if_neg nle10]
    exact ref_R h 1
  · rw [if_pos r1, h.j64 hj]
    rcases place_split h hj x2 with ⟨p1, p2, p3⟩ | ⟨p, hp, rfl, p1, p2, p3⟩
    · rw [if_pos (p1 _ _), p2, if_neg n20, if_neg nle20]
      exact ref_R h 2
    · rcases place_split h hj x3 with ⟨q1, q2, q3⟩ | ⟨q, hq, rfl, q1, q2, q3⟩
      · rw [if_neg (by rw [p1]; exact n10), if_pos (q1 _ _), p2, if_pos rfl, if_neg (by rw [q3]; exact n10)]
        exact ref_R h 2
      · rw [if_neg (by rw [p1]; exact n10), if_neg (by rw [q1]; exact n10), p2, if_pos rfl, q3, if_pos rfl, if_pos le00, h.p64 hj hp, h.p64 hj hq]
        have hk := h.kd hj
        have e1 : f_X7_at (mset_s M 0) (nI j) (nI p) = cbt S j p := h.at_ hj hp
        have e2 : f_X7_at (mset_s M 0) (nI j) (nI q) = cbt S j q := h.at_ hj hq
        have em : mk (mset_s M 0) (nI j).toNatClampNeg = ckd S j := by rw [h.j64 hj, hk.1]
        unfold f_X7_total_1
        rw [e1, e2, em, order_eq hk.2 (h.bt hj hp).2 (h.bt hj hq).2]
        unfold cmpT f_X6_total_5 f_X6_total_4 f_X6_total_3
        by_cases c1 : f_X1_totalRank (ckd S j) (cbt S j q) ≤ f_X1_totalRank (ckd S j) (cbt S j p)
        · rw [if_pos c1, if_pos c1]
          by_cases c2 : f_X1_totalRank (ckd S j) (cbt S j p) ≤ f_X1_totalRank (ckd S j) (cbt S j q)
          · rw [if_pos c2, if_pos c2]; exact ⟨rfl, h.rs 0⟩
          · rw [if_neg c2, if_neg c2]; exact ⟨rfl, h.rs 0⟩
        · rw [if_neg c1, if_neg c1]; exact ⟨rfl, h.rs 0⟩
end ST
