-- intervals
section INTERVAL
variable {S : CSt} {M : MSt} {j p q : Nat} {k : Nat} {x y : Int64} {s t : Bool} {u v : Nat}
theorem two_idx (hp : p ≤ 600) : ((2 : Int32) * nI p).toNatClampNeg = 2 * p ∧ (((2 : Int32) * nI p) + (1 : Int32)).toNatClampNeg = 2 * p + 1 := by
  rw [two_mul_nI, nI_1, nI_clamp (by omega), nI_clamp (by omega)]
  exact ⟨rfl, rfl⟩
theorem pair_split (h : Rel S M) (hj : j < cn S) (a : Int32) : ((∀ k f, f_X3_hasPair k (cln S j) f a = 0) ∧ f_X7_noPair M (nI j) a = 1) ∨ ∃ p, 2 * p + 1 < cln S j ∧ a = nI p ∧ (∀ k f, f_X3_hasPair k (cln S j) f a = 1) ∧ f_X7_noPair M (nI j) a = 0 := by
  have hl := h.ln hj
  have hd : nI (cln S j) / (2 : Int32) = nI (cln S j / 2) := half_nI (by omega)
  rw [noPair_def, h.size hj, hd]
  by_cases c1 : a < 0
  · left
    rw [if_pos c1]
    refine ⟨fun k f => ?_, rfl⟩
    unfold f_X3_hasPair f_X3_hasPair_2
    rw [if_pos c1]
  · rw [if_neg c1]
    obtain ⟨p, hp, rfl⟩ := nI_of c1
    by_cases c2 : p < cln S j / 2
    · right
      rw [if_pos (nI_lt c2 (by omega))]
      refine ⟨p, by omega, rfl, fun k f => ?_, rfl⟩
      unfold f_X3_hasPair f_X3_hasPair_2 f_X3_hasPair_1
      rw [if_neg c1, hd, if_neg (nI_ge c2 (by omega))]
    · left
      rw [if_neg (nI_nlt (by omega) hp)]
      refine ⟨fun k f => ?_, rfl⟩
      unfold f_X3_hasPair f_X3_hasPair_2 f_X3_hasPair_1
      rw [if_neg c1, hd, if_pos (nI_le (by omega) hp)]
theorem pair_R (h : Rel S M) (hj : j < cn S) (hp : 2 * p + 1 < cln S j) {lo hi : Int64} (hlo : kcn (ckd S j) lo) (hhi : kcn (ckd S j) hi) (k1 k2 : Nat) : Rel (cset_rs (cset_bt S j (f_X3_putPair (cbt S j) k1 (nI p) k2 lo hi)) 0) (f_X7_bounds (mset_s M 0) (nI j) (nI p) lo hi) := by
  have hl := h.ln hj
  have t := h.top hj
  have i1 : (nI (mf M (nI j).toNatClampNeg) + ((2 : Int32) * nI p)).toNatClampNeg = mf M j + 2 * p := by
    rw [two_mul_nI]; exact h.idx hj (by omega)
  have i2 : ((nI (mf M (nI j).toNatClampNeg) + ((2 : Int32) * nI p)) + (1 : Int32)).toNatClampNeg = mf M j + (2 * p + 1) := by
    rw [Int32.add_assoc, two_mul_nI, nI_1]; exact h.idx hj hp
  obtain ⟨c1, c2⟩ := two_idx (p := p) (by omega)
  have e1 : f_X3_putPair (cbt S j) k1 (nI p) k2 lo hi = vp_updL (vp_updL (cbt S j) (2 * p) lo) (2 * p + 1) hi := by
    unfold f_X3_putPair f_X3_putPair_1
    rw [c1, c2]
  have e2 : f_X7_bounds (mset_s M 0) (nI j) (nI p) lo hi = mset_b (mset_s M 0) (vp_updL (vp_updL (mb M) (mf M j + 2 * p) lo) (mf M j + (2 * p + 1)) hi) := by
    unfold f_X7_bounds f_X7_bounds_1
    show mset_b (mset_s M 0) (vp_updL (vp_updL (mb M) ((nI (mf M (nI j).toNatClampNeg) + ((2 : Int32) * nI p)).toNatClampNeg) lo) (((nI (mf M (nI j).toNatClampNeg) + ((2 : Int32) * nI p)) + (1 : Int32)).toNatClampNeg) hi) = _
    rw [i1, i2]
  rw [e1, e2]
  refine h.gen hj (S' := cset_rs (cset_bt S j (vp_updL (vp_updL (cbt S j) (2 * p) lo) (2 * p + 1) hi)) 0) (M' := mset_b (mset_s M 0) (vp_updL (vp_updL (mb M) (mf M j + 2 * p) lo) (mf M j + (2 * p + 1)) hi)) rfl rfl rfl rfl rfl rfl rfl rfl rfl ?_ ?_
  · intro i hi2
    show vp_updL (vp_updL (cbt S j) (2 * p) lo) (2 * p + 1) hi i = vp_updL (vp_updL (mb M) (mf M j + 2 * p) lo) (mf M j + (2 * p + 1)) hi (mf M j + i) ∧ kcn (ckd S j) (vp_updL (vp_updL (cbt S j) (2 * p) lo) (2 * p + 1) hi i)
    unfold vp_updL
    by_cases d1 : i = 2 * p + 1
    · rw [if_pos d1, if_pos (show mf M j + i = mf M j + (2 * p + 1) by omega)]; exact ⟨rfl, hhi⟩
    · rw [if_neg d1, if_neg (show ¬ mf M j + i = mf M j + (2 * p + 1) by omega)]
      by_cases d2 : i = 2 * p
      · rw [if_pos d2, if_pos (show mf M j + i = mf M j + 2 * p by omega)]; exact ⟨rfl, hlo⟩
      · rw [if_neg d2, if_neg (show ¬ mf M j + i = mf M j + 2 * p by omega)]; exact h.bt hj hi2
  · intro i hi2
    show vp_updL (vp_updL (mb M) (mf M j + 2 * p) lo) (mf M j + (2 * p + 1)) hi i = mb M i
    unfold vp_updL
    rw [if_neg (by omega), if_neg (by omega)]
theorem sgn_inf_c (hk : k < 2) : f_X1_signed k (1 : Int32) (kinf k) = f_X7_signed k (kinf k) (1 : Int32) ∧ kcn k (f_X7_signed k (kinf k) (1 : Int32)) ∧ kcn k (kinf k) := by
  have e1 := sg1_inf (b := true) hk
  have e2 := sg7_inf (b := true) hk
  rw [bI_t] at e1 e2
  rw [e1, e2]
  refine ⟨rfl, kcn_enc hk (Nat.le_refl _), ?_⟩
  rw [kinf_enc hk]
  exact kcn_enc hk (Nat.le_refl _)
theorem every_R (h : Rel S M) (hj : j < cn S) (hp : 2 * p + 1 < cln S j) (w : Int64 × Int64) : R2i (f_X6_interval_5 S (nI j) (nI p) w) (f_X7_interval_1 (mset_s M 0) (nI j) (nI p)) := by
  have hk := h.kd hj
  obtain ⟨g1, g2, g3⟩ := sgn_inf_c hk.2
  have em : mk (mset_s M 0) (nI j).toNatClampNeg = ckd S j := by rw [h.j64 hj, hk.1]
  unfold f_X6_interval_5 f_X6_interval_4 f_X6_interval_3 f_X7_interval_1 f_X0_everything
  rw [em, h.j64 hj, g1]
  exact ⟨rfl, pair_R h hj hp g2 g3 _ _⟩
theorem outward_R (h : Rel S M) (hj : j < cn S) (hp : 2 * p + 1 < cln S j) {lo hi : Int64} (hlo : kcn (ckd S j) lo) (hhi : kcn (ckd S j) hi) (a b : Int64) : R2i (f_X6_interval_7 S (nI j) (nI p) (f_X0_outward (ckd S j) a b lo hi)) (f_X7_interval_2 (mset_s M 0) (nI j) (nI p) lo hi) := by
  have hk := h.kd hj
  have em : mk (mset_s M 0) (nI j).toNatClampNeg = ckd S j := by rw [h.j64 hj, hk.1]
  obtain ⟨d1, d2⟩ := down_eq hk.2 hlo
  obtain ⟨u1, u2⟩ := up_eq hk.2 hhi
  have e : f_X0_outward (ckd S j) a b lo hi = (f_X7_downward (ckd S j) lo, f_X7_upward (ckd S j) hi) := by
    rw [← d1, ← u1]
    unfold f_X0_outward f_X0_outward_3 f_X0_outward_2 f_X0_outward_1
    split <;> split <;> rfl
  unfold f_X6_interval_7 f_X6_interval_6 f_X7_interval_2
  rw [e, em, h.j64 hj]
  exact ⟨rfl, pair_R h hj hp d2 u2 _ _⟩
/-- a product or a quotient, 0 for NaN -/
theorem memb_mul (hk : k < 2) (hu : u ≤ kinfN k) (hv : v ≤ kinfN k) (a b : Int64) : f_X0_product k a b (enc k s u) (enc k t v) = f_X7_member k (2 : Int32) (enc k s u) (enc k t v) ∧ ∃ s' u', u' ≤ kinfN k ∧ f_X7_member k (2 : Int32) (enc k s u) (enc k t v) = enc k s' u' := by
  obtain ⟨e, hc⟩ := times_enc (s := s) (t := t) hk hu hv
  unfold f_X0_product f_X0_zeroIfNan f_X0_zeroIfNan_1 f_X7_member f_X7_member_2 f_X7_member_1
  rw [if_pos (Eq.refl (2 : Int32)), e, nan_none hk hc]
  refine ⟨rfl, ?_⟩
  rcases kcn_cases hk hc with h | ⟨s', u', hu', h⟩
  · rw [h, none1, if_neg n10]; exact ⟨false, 0, Nat.zero_le _, zero_encf⟩
  · rw [h, none0 hk hu', if_pos (Eq.refl (0 : Int32))]; exact ⟨s', u', hu', rfl⟩
theorem memb_div (hk : k < 2) (hu : u ≤ kinfN k) (hv : v ≤ kinfN k) (a b : Int64) : f_X0_quotient k a b (enc k s u) (enc k t v) = f_X7_member k (3 : Int32) (enc k s u) (enc k t v) ∧ ∃ s' u', u' ≤ kinfN k ∧ f_X7_member k (3 : Int32) (enc k s u) (enc k t v) = enc k s' u' := by
  obtain ⟨e, hc⟩ := over_enc (s := s) (t := t) hk hu hv
  unfold f_X0_quotient f_X0_zeroIfNan f_X0_zeroIfNan_1 f_X7_member f_X7_member_2 f_X7_member_1
  rw [if_neg (show ¬ (3 : Int32) = 2 by decide), e, nan_none hk hc]
  refine ⟨rfl, ?_⟩
  rcases kcn_cases hk hc with h | ⟨s', u', hu', h⟩
  · rw [h, none1, if_neg n10]; exact ⟨false, 0, Nat.zero_le _, zero_encf⟩
  · rw [h, none0 hk hu', if_pos (Eq.refl (0 : Int32))]; exact ⟨s', u', hu', rfl⟩
/-- of four that aren't NaN -/
theorem four_R (h : Rel S M) (hj : j < cn S) (hp : 2 * p + 1 < cln S j) {a b c d : Int64} (ha : ∃ s u, u ≤ kinfN (ckd S j) ∧ a = enc (ckd S j) s u) (hb : ∃ s u, u ≤ kinfN (ckd S j) ∧ b = enc (ckd S j) s u) (hc : ∃ s u, u ≤ kinfN (ckd S j) ∧ c = enc (ckd S j) s u) (hd : ∃ s u, u ≤ kinfN (ckd S j) ∧ d = enc (ckd S j) s u) (e f : Int64) : R2i (f_X6_interval_7 S (nI j) (nI p) (f_X0_ofFour (ckd S j) e f a b c d)) (f_X7_interval_3 (mset_s M 0) (nI j) (nI p) a b c d) := by
  have hk := h.kd hj
  have em : mk (mset_s M 0) (nI j).toNatClampNeg = ckd S j := by rw [h.j64 hj, hk.1]
  obtain ⟨s1, u1, h1, rfl⟩ := ha
  obtain ⟨s2, u2, h2, rfl⟩ := hb
  obtain ⟨s3, u3, h3, rfl⟩ := hc
  obtain ⟨s4, u4, h4, rfl⟩ := hd
  obtain ⟨a1, b1, l1, m1⟩ := lesser_mem (s := s1) (t := s2) hk.2 h1 h2
  obtain ⟨a2, b2, l2, m2⟩ := lesser_mem (s := s3) (t := s4) hk.2 h3 h4
  obtain ⟨a3, b3, l3, m3⟩ := greater_mem (s := s1) (t := s2) hk.2 h1 h2
  obtain ⟨a4, b4, l4, m4⟩ := greater_mem (s := s3) (t := s4) hk.2 h3 h4
  obtain ⟨a5, b5, l5, m5⟩ := lesser_mem (s := a1) (t := a2) hk.2 l1 l2
  obtain ⟨a6, b6, l6, m6⟩ := greater_mem (s := a3) (t := a4) hk.2 l3 l4
  unfold f_X0_ofFour f_X7_interval_3
  rw [em, lesser_eq hk.2 h1 h2, lesser_eq hk.2 h3 h4, greater_eq hk.2 h1 h2, greater_eq hk.2 h3 h4, m1, m2, m3, m4, lesser_eq hk.2 l1 l2, greater_eq hk.2 l3 l4, m5, m6]
  exact outward_R h hj hp (kcn_enc hk.2 l5) (kcn_enc hk.2 l6) e f
theorem int_fin (h : Rel S M) (hj : j < cn S) (hp : 2 * p + 1 < cln S j) {s1 s2 s3 s4 : Bool} {u1 u2 u3 u4 : Nat} (h1 : u1 ≤ kinfN (ckd S j)) (h2 : u2 ≤ kinfN (ckd S j)) (h3 : u3 ≤ kinfN (ckd S j)) (h4 : u4 ≤ kinfN (ckd S j)) {m : Nat} (hm : m < 6) : R2i (f_X6_interval_12 (nI m) S (nI j) (enc (ckd S j) s1 u1, enc (ckd S j) s2 u2) (enc (ckd S j) s3 u3, enc (ckd S j) s4 u4) (nI p)) (f_X7_interval_11 (nI m) (mset_s M 0) (nI j) (nI p) (enc (ckd S j) s1 u1) (enc (ckd S j) s3 u3) (enc (ckd S j) s2 u2) (enc (ckd S j) s4 u4)) := by
  have hk := h.kd hj
  have em : mk (mset_s M 0) (nI j).toNatClampNeg = ckd S j := by rw [h.j64 hj, hk.1]
  have k1 := kcn_enc (s := s1) hk.2 h1
  have k2 := kcn_enc (s := s2) hk.2 h2
  have k3 := kcn_enc (s := s3) hk.2 h3
  have k4 := kcn_enc (s := s4) hk.2 h4
  unfold f_X6_interval_12 f_X6_interval_11 f_X7_interval_11 f_X7_interval_10 f_X7_interval_8 f_X7_interval_7 f_X7_interval_6 f_X7_interval_5 f_X7_interval_4 f_X0_acted f_X0_acted_5 f_X0_acted_4 f_X0_acted_3 f_X0_acted_2 f_X0_acted_1
  rw [em, h.j64 hj]
  rcases (by omega : m = 0 ∨ m = 1 ∨ m = 2 ∨ m = 3 ∨ m = 4 ∨ m = 5) with rfl | rfl | rfl | rfl | rfl | rfl
  · rw [show nI 0 = (0 : Int32) from rfl, if_neg (show ¬ (0 : Int32) = 5 by decide), if_neg (show ¬ (0 : Int32) = 4 by decide), if_neg (show ¬ (0 : Int32) = 5 by decide), if_pos (show (0 : Int32) = 0 from rfl), if_pos (show (0 : Int32) = 0 from rfl), if_pos (show (0 : Int32) = 0 from rfl), if_pos (show (0 : Int32) ≤ 1 by decide)]
    rw [plus_eq hk.2 k1 k3, plus_eq hk.2 k2 k4]
    exact outward_R h hj hp (plus_clean hk.2 k1 k3) (plus_clean hk.2 k2 k4) _ _
  · rw [show nI 1 = (1 : Int32) from rfl, if_neg (show ¬ (1 : Int32) = 5 by decide), if_neg (show ¬ (1 : Int32) = 0 by decide), if_pos (Eq.refl (1 : Int32)), if_neg (show ¬ (1 : Int32) = 4 by decide), if_neg (show ¬ (1 : Int32) = 5 by decide), if_neg (show ¬ (1 : Int32) = 0 by decide), if_neg (show ¬ (1 : Int32) = 0 by decide), if_pos (show (1 : Int32) ≤ 1 by decide)]
    rw [minus_eq hk.2 k1 k4, minus_eq hk.2 k2 k3]
    exact outward_R h hj hp (plus_clean hk.2 k1 (kcn_turned hk.2 k4)) (plus_clean hk.2 k2 (kcn_turned hk.2 k3)) _ _
  · rw [show nI 2 = (2 : Int32) from rfl, if_neg (show ¬ (2 : Int32) = 5 by decide), if_neg (show ¬ (2 : Int32) = 0 by decide), if_neg (show ¬ (2 : Int32) = 1 by decide), if_pos (Eq.refl (2 : Int32)), if_neg (show ¬ (2 : Int32) = 4 by decide), if_neg (show ¬ (2 : Int32) = 5 by decide), if_neg (show ¬ (2 : Int32) = 0 by decide), if_neg (show ¬ (2 : Int32) = 0 by decide), if_neg (show ¬ (2 : Int32) ≤ 1 by decide)]
    have a1 := memb_mul (s := s1) (t := s3) hk.2 h1 h3 (enc (ckd S j) s1 u1) (enc (ckd S j) s2 u2)
    have a2 := memb_mul (s := s1) (t := s4) hk.2 h1 h4 (enc (ckd S j) s1 u1) (enc (ckd S j) s2 u2)
    have a3 := memb_mul (s := s2) (t := s3) hk.2 h2 h3 (enc (ckd S j) s1 u1) (enc (ckd S j) s2 u2)
    have a4 := memb_mul (s := s2) (t := s4) hk.2 h2 h4 (enc (ckd S j) s1 u1) (enc (ckd S j) s2 u2)
    rw [a1.1, a2.1, a3.1, a4.1]
    exact four_R h hj hp a1.2 a2.2 a3.2 a4.2 _ _
  · rw [show nI 3 = (3 : Int32) from rfl, if_neg (show ¬ (3 : Int32) = 5 by decide), if_neg (show ¬ (3 : Int32) = 0 by decide), if_neg (show ¬ (3 : Int32) = 1 by decide), if_neg (show ¬ (3 : Int32) = 2 by decide), if_pos (Eq.refl (3 : Int32)), if_neg (show ¬ (3 : Int32) = 4 by decide), if_neg (show ¬ (3 : Int32) = 5 by decide), if_neg (show ¬ (3 : Int32) = 0 by decide), if_neg (show ¬ (3 : Int32) = 0 by decide), if_neg (show ¬ (3 : Int32) ≤ 1 by decide)]
    have a1 := memb_div (s := s1) (t := s3) hk.2 h1 h3 (enc (ckd S j) s1 u1) (enc (ckd S j) s2 u2)
    have a2 := memb_div (s := s1) (t := s4) hk.2 h1 h4 (enc (ckd S j) s1 u1) (enc (ckd S j) s2 u2)
    have a3 := memb_div (s := s2) (t := s3) hk.2 h2 h3 (enc (ckd S j) s1 u1) (enc (ckd S j) s2 u2)
    have a4 := memb_div (s := s2) (t := s4) hk.2 h2 h4 (enc (ckd S j) s1 u1) (enc (ckd S j) s2 u2)
    rw [a1.1, a2.1, a3.1, a4.1]
    exact four_R h hj hp a1.2 a2.2 a3.2 a4.2 _ _
  · rw [show nI 4 = (4 : Int32) from rfl, if_neg (show ¬ (4 : Int32) = 5 by decide), if_neg (show ¬ (4 : Int32) = 0 by decide), if_neg (show ¬ (4 : Int32) = 1 by decide), if_neg (show ¬ (4 : Int32) = 2 by decide), if_neg (show ¬ (4 : Int32) = 3 by decide), if_pos (Eq.refl (4 : Int32)), if_pos (Eq.refl (4 : Int32))]
    obtain ⟨a1, b1, l1, m1⟩ := lesser_mem (s := s1) (t := s3) hk.2 h1 h3
    obtain ⟨a2, b2, l2, m2⟩ := greater_mem (s := s2) (t := s4) hk.2 h2 h4
    rw [lesser_eq hk.2 h1 h3, greater_eq hk.2 h2 h4, m1, m2]
    unfold f_X6_interval_7 f_X6_interval_6
    rw [h.j64 hj]
    exact ⟨rfl, pair_R h hj hp (kcn_enc hk.2 l1) (kcn_enc hk.2 l2) _ _⟩
  · rw [show nI 5 = (5 : Int32) from rfl, if_pos (Eq.refl (5 : Int32)), if_neg (show ¬ (5 : Int32) = 0 by decide), if_neg (show ¬ (5 : Int32) = 1 by decide), if_neg (show ¬ (5 : Int32) = 2 by decide), if_neg (show ¬ (5 : Int32) = 3 by decide), if_neg (show ¬ (5 : Int32) = 4 by decide), if_neg (show ¬ (5 : Int32) = 4 by decide), if_pos (Eq.refl (5 : Int32))]
    obtain ⟨a1, b1, l1, m1⟩ := greater_mem (s := s1) (t := s3) hk.2 h1 h3
    obtain ⟨a2, b2, l2, m2⟩ := lesser_mem (s := s2) (t := s4) hk.2 h2 h4
    rw [greater_eq hk.2 h1 h3, lesser_eq hk.2 h2 h4, m1, m2]
    unfold f_X6_interval_10 f_X6_interval_9 f_X6_interval_8 f_X6_interval_7 f_X6_interval_6 f_X0_stands f_X0_nothing f_X7_meet f_X7_meet_5 f_X7_meet_4 f_X7_meet_3 f_X7_meet_2 f_X7_meet_1
    rw [em, h.j64 hj]
    dsimp only
    rw [atMost_eq hk.2 (kcn_enc hk.2 l1) (kcn_enc hk.2 l2), none0 hk.2 l1, none0 hk.2 l2]
    by_cases c : f_X7_rank (ckd S j) (enc (ckd S j) a1 b1) ≤ f_X7_rank (ckd S j) (enc (ckd S j) a2 b2)
    · rw [if_neg (fun e => absurd (⟨rfl, rfl, c⟩ : (0 : Int32) = 0 ∧ (0 : Int32) = 0 ∧ f_X7_rank (ckd S j) (enc (ckd S j) a1 b1) ≤ f_X7_rank (ckd S j) (enc (ckd S j) a2 b2)) (ite10.mp e)), if_pos c, if_pos (Eq.refl (0 : Int32)), if_pos (Eq.refl (0 : Int32)), if_pos (Eq.refl (0 : Int32))]
      exact ⟨rfl, pair_R h hj hp (kcn_enc hk.2 l1) (kcn_enc hk.2 l2) _ _⟩
    · rw [if_pos (ite10.mpr (fun e => c e.2.2)), if_neg c, if_neg n10, if_neg n10, if_neg n10]
      exact ⟨rfl, pair_R h hj hp (kcn_nan hk.2) (kcn_nan hk.2) _ _⟩
/-- what stands as an interval isn't NaN -/
theorem stands_enc (hk : k < 2) (hx : kcn k x) (hy : kcn k y) (h : ¬ f_X1_atMost k x y = 0) : (∃ s u, u ≤ kinfN k ∧ x = enc k s u) ∧ ∃ s u, u ≤ kinfN k ∧ y = enc k s u := by
  rw [atMost_eq hk hx hy, ite10] at h
  have h2 := Classical.not_not.mp h
  constructor
  · rcases kcn_cases hk hx with e | e
    · rw [e, none1] at h2; exact absurd h2.1 n10
    · exact e
  · rcases kcn_cases hk hy with e | e
    · rw [e, none1] at h2; exact absurd h2.2.1 n10
    · exact e
theorem isInt_eq (h : Rel S M) (hj : j < cn S) (hp : 2 * p + 1 < cln S j) : f_X7_isInterval (mset_s M 0) (nI j) (nI p) = f_X1_atMost (ckd S j) (cbt S j (2 * p)) (cbt S j (2 * p + 1)) := by
  have hk := h.kd hj
  have em : mk (mset_s M 0) (nI j).toNatClampNeg = ckd S j := by rw [h.j64 hj, hk.1]
  have e1 : f_X7_at (mset_s M 0) (nI j) ((2 : Int32) * nI p) = cbt S j (2 * p) := by rw [two_mul_nI]; exact h.at_ hj (by omega)
  have e2 : f_X7_at (mset_s M 0) (nI j) (((2 : Int32) * nI p) + (1 : Int32)) = cbt S j (2 * p + 1) := by rw [two_mul_nI, nI_1]; exact h.at_ hj hp
  unfold f_X7_isInterval f_X7_isInterval_3 f_X7_isInterval_2 f_X7_isInterval_1
  rw [e1, e2, em, atMost_eq hk.2 (h.bt hj (by omega)).2 (h.bt hj hp).2]
  by_cases c1 : f_X7_none (ckd S j) (cbt S j (2 * p)) = 0
  · rw [if_pos c1]
    by_cases c2 : f_X7_none (ckd S j) (cbt S j (2 * p + 1)) = 0
    · rw [if_pos c2]
      by_cases c3 : f_X7_rank (ckd S j) (cbt S j (2 * p + 1)) < f_X7_rank (ckd S j) (cbt S j (2 * p))
      · rw [if_pos c3, if_neg (fun e => by have h1 := Int64.lt_iff_toInt_lt.mp c3; have h2 := Int64.le_iff_toInt_le.mp e.2.2; omega)]
      · have hp3 : f_X7_none (ckd S j) (cbt S j (2 * p)) = 0 ∧ f_X7_none (ckd S j) (cbt S j (2 * p + 1)) = 0 ∧ f_X7_rank (ckd S j) (cbt S j (2 * p)) ≤ f_X7_rank (ckd S j) (cbt S j (2 * p + 1)) := ⟨c1, c2, by rw [Int64.le_iff_toInt_le]; rw [Int64.lt_iff_toInt_lt] at c3; omega⟩
        rw [if_neg c3, if_pos hp3]
    · rw [if_neg c2, if_neg (fun e => c2 e.2.1)]
  · rw [if_neg c1, if_neg (fun e => c1 e.1)]
theorem rank_0 (hk : k < 2) : f_X7_rank k 0 = 0 ∧ f_X7_none k 0 = 0 ∧ kcn k 0 := by
  have e : (0 : Int64) = enc k false 0 := zero_encf
  have hz : (0 : Int64).toInt = 0 := by decide
  refine ⟨?_, ?_, ?_⟩
  · apply Int64.toInt_inj.mp
    conv => lhs; rw [e]
    rw [rank_enc hk (Nat.two_pow_pos _), hz]; rfl
  · rw [e]; exact none0 hk (Nat.zero_le _)
  · rw [e]; exact kcn_enc hk (Nat.zero_le _)
theorem R_interval (h : Rel S M) (x1 : Int32) (x2 : Int32) (x3 : Int32) (x4 : Int32) : R2i (f_X6_interval S x1 x2 x3 x4) (f_X7_interval M x1 x2 x3 x4) := by
  unfold f_X6_interval f_X6_interval_21 f_X6_interval_20 f_X6_interval_19 f_X6_interval_18 f_X6_interval_17 f_X7_interval f_X7_interval_24 f_X7_interval_23 f_X7_interval_22 f_X7_interval_21 f_X7_interval_20 f_X7_interval_19
  have ref : ∀ v : Int32, ¬ v ≤ 0 → R2i (f_X6_refuse S v) (f_X7_interval_18 v M x1 x2 x3 x4) := by
    intro v hv
    unfold f_X7_interval_18
    rw [if_neg hv]
    exact ref_R h v
  rcases row_split h x1 with ⟨r1, r2, r3⟩ | ⟨j, hj, rfl, r1, r2, r3⟩
  · rw [if_neg r1]
    rcases r3 with r3 | ⟨r3, r4⟩
    · rw [if_pos r3]; exact ref 1 nle10
    · rw [if_neg r3, if_neg r4]; exact ref 1 nle10
  · rw [if_pos r1, if_neg r2, if_pos r3, h.j64 hj]
    have hk := h.kd hj
    have hl := h.ln hj
    have em : mk (mset_s M 0) (nI j).toNatClampNeg = ckd S j := by rw [h.j64 hj, hk.1]
    rcases pair_split h hj x2 with ⟨p1, p2⟩ | ⟨p, hp, rfl, p1, p2⟩
    · rw [if_pos (p1 _ _), p2, if_neg n10]; exact ref 2 nle20
    · rw [if_neg (by rw [p1]; exact n10), p2, if_pos (Eq.refl (0 : Int32))]
      rcases pair_split h hj x3 with ⟨q1, q2⟩ | ⟨q, hq, rfl, q1, q2⟩
      · rw [if_pos (q1 _ _), q2, if_neg n10]; exact ref 2 nle20
      · rw [if_neg (by rw [q1]; exact n10), q2, if_pos (Eq.refl (0 : Int32))]
        by_cases c1 : x4 < 0
        · rw [if_pos c1, if_pos c1]; exact ref 2 nle20
        · rw [if_neg c1, if_neg c1]
          by_cases c2 : x4 ≤ (5 : Int32)
          · rw [if_pos c2, if_pos c2]
            obtain ⟨m, hm, rfl⟩ := nI_of c1
            have hm6 : m < 6 := by
              have h5 : (5 : Int32).toInt = 5 := by decide
              rw [Int32.le_iff_toInt_le, h5, nI_toInt hm] at c2
              omega
            unfold f_X7_interval_18
            rw [if_pos le00]
            obtain ⟨i1, i2⟩ := two_idx (p := p) (by omega)
            obtain ⟨i3, i4⟩ := two_idx (p := q) (by omega)
            have a1 : f_X7_at (mset_s M 0) (nI j) ((2 : Int32) * nI p) = cbt S j (2 * p) := by rw [two_mul_nI]; exact h.at_ hj (by omega)
            have a2 : f_X7_at (mset_s M 0) (nI j) (((2 : Int32) * nI p) + (1 : Int32)) = cbt S j (2 * p + 1) := by rw [two_mul_nI, nI_1]; exact h.at_ hj hp
            have a3 : f_X7_at (mset_s M 0) (nI j) ((2 : Int32) * nI q) = cbt S j (2 * q) := by rw [two_mul_nI]; exact h.at_ hj (by omega)
            have a4 : f_X7_at (mset_s M 0) (nI j) (((2 : Int32) * nI q) + (1 : Int32)) = cbt S j (2 * q + 1) := by rw [two_mul_nI, nI_1]; exact h.at_ hj hq
            have k1 := (h.bt hj (show 2 * p < cln S j by omega)).2
            have k2 := (h.bt hj hp).2
            have k3 := (h.bt hj (show 2 * q < cln S j by omega)).2
            have k4 := (h.bt hj hq).2
            have ep : f_X3_pair (ckd S j) (cln S j) (cbt S j) (nI p) = (cbt S j (2 * p), cbt S j (2 * p + 1)) := by unfold f_X3_pair; rw [i1, i2]
            have eq : f_X3_pair (ckd S j) (cln S j) (cbt S j) (nI q) = (cbt S j (2 * q), cbt S j (2 * q + 1)) := by unfold f_X3_pair; rw [i3, i4]
            unfold f_X7_interval_17 f_X7_interval_16 f_X7_interval_15 f_X7_interval_14 f_X7_interval_13 f_X7_interval_12
            rw [a1, a2, a3, a4, ep, eq, isInt_eq h hj hp, isInt_eq h hj hq, em]
            unfold f_X6_interval_16 f_X6_interval_15 f_X6_interval_14 f_X6_interval_13 f_X0_stands f_X0_hasZero f_X0_hasZero_2 f_X0_hasZero_1
            rw [h.j64 hj]
            by_cases d1 : f_X1_atMost (ckd S j) (cbt S j (2 * p)) (cbt S j (2 * p + 1)) = 0
            · rw [if_pos d1, if_pos d1]; exact every_R h hj hp _
            · rw [if_neg d1, if_neg d1]
              by_cases d2 : f_X1_atMost (ckd S j) (cbt S j (2 * q)) (cbt S j (2 * q + 1)) = 0
              · rw [if_pos d2, if_pos d2]; exact every_R h hj hp _
              · rw [if_neg d2, if_neg d2]
                obtain ⟨⟨s1, u1, g1, e1⟩, ⟨s2, u2, g2, e2⟩⟩ := stands_enc hk.2 k1 k2 d1
                obtain ⟨⟨s3, u3, g3, e3⟩, ⟨s4, u4, g4, e4⟩⟩ := stands_enc hk.2 k3 k4 d2
                have fin := int_fin (s1 := s1) (s2 := s2) (s3 := s3) (s4 := s4) h hj hp g1 g2 g3 g4 hm6
                rw [← e1, ← e2, ← e3, ← e4] at fin
                obtain ⟨z1, z2, z3⟩ := rank_0 hk.2
                by_cases c3 : nI m = (3 : Int32)
                · rw [if_pos c3, if_pos c3, atMost_eq hk.2 k3 z3, atMost_eq hk.2 z3 k4, z1, z2]
                  have hn3 : f_X7_none (ckd S j) (cbt S j (2 * q)) = 0 := by rw [e3]; exact none0 hk.2 g3
                  have hn4 : f_X7_none (ckd S j) (cbt S j (2 * q + 1)) = 0 := by rw [e4]; exact none0 hk.2 g4
                  rw [hn3, hn4]
                  by_cases f1 : (0 : Int64) < f_X7_rank (ckd S j) (cbt S j (2 * q))
                  · have nf1 : ¬ ((0 : Int32) = 0 ∧ (0 : Int32) = 0 ∧ f_X7_rank (ckd S j) (cbt S j (2 * q)) ≤ 0) := fun e => by
                      have h1 := Int64.lt_iff_toInt_lt.mp f1
                      have h2 := Int64.le_iff_toInt_le.mp e.2.2
                      omega
                    rw [if_pos f1, if_neg nf1, if_pos (Eq.refl (0 : Int32)), if_pos (Eq.refl (0 : Int32))]
                    exact fin
                  · have pf1 : (0 : Int32) = 0 ∧ (0 : Int32) = 0 ∧ f_X7_rank (ckd S j) (cbt S j (2 * q)) ≤ 0 := ⟨rfl, rfl, by rw [Int64.le_iff_toInt_le]; rw [Int64.lt_iff_toInt_lt] at f1; omega⟩
                    rw [if_neg f1, if_pos pf1, if_neg n10]
                    by_cases f2 : f_X7_rank (ckd S j) (cbt S j (2 * q + 1)) < 0
                    · have nf2 : ¬ ((0 : Int32) = 0 ∧ (0 : Int32) = 0 ∧ (0 : Int64) ≤ f_X7_rank (ckd S j) (cbt S j (2 * q + 1))) := fun e => by
                        have h1 := Int64.lt_iff_toInt_lt.mp f2
                        have h2 := Int64.le_iff_toInt_le.mp e.2.2
                        omega
                      rw [if_pos f2, if_neg nf2, if_pos (Eq.refl (0 : Int32)), if_pos (Eq.refl (0 : Int32))]
                      exact fin
                    · have pf2 : (0 : Int32) = 0 ∧ (0 : Int32) = 0 ∧ (0 : Int64) ≤ f_X7_rank (ckd S j) (cbt S j (2 * q + 1)) := ⟨rfl, rfl, by rw [Int64.le_iff_toInt_le]; rw [Int64.lt_iff_toInt_lt] at f2; omega⟩
                      rw [if_neg f2, if_pos pf2, if_neg n10, if_neg n10]
                      exact every_R h hj hp _
                · rw [if_neg c3, if_neg c3]; exact fin
          · rw [if_neg c2, if_neg c2]; exact ref 2 nle20
end INTERVAL
