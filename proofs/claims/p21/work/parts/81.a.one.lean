-- a bench with one row of twelve numbers, and what its calls answer
def one12 (B : CSt) (k : Nat) : Prop := cn B = 1 ∧ ckd B 0 = k ∧ cln B 0 = 12
abbrev stB (B : CSt) (f : Nat → Int64) : CSt := (cn B, ckd B, cln B, cbU (cbt B) 0 f, cro B, cna B, cbe B, cme B, ccn B, 0)
theorem e00 : (0 : Int32).toNatClampNeg = 0 := by decide
theorem updL_eq {f : Nat → Int64} {n : Nat} {v : Int64} : vp_updL f n v n = v := by unfold vp_updL; rw [if_pos rfl]
theorem updL_ne {f : Nat → Int64} {n j : Nat} {v : Int64} (h : ¬ j = n) : vp_updL f n v j = f j := by unfold vp_updL; rw [if_neg h]
section S12
variable {B : CSt} {k : Nat} {f g : Nat → Int64} {i j n : Nat} {x y z : Int64} {s t : Bool} {u v : Nat}
theorem cbU_eq {c : Nat → Nat → Int64} : cbU c 0 f 0 = f := by unfold cbU; rw [if_pos rfl]
theorem cbU_cbU {c : Nat → Nat → Int64} : cbU (cbU c 0 f) 0 g = cbU c 0 g := by
  funext i
  unfold cbU
  by_cases h : i = 0
  · rw [if_pos h, if_pos h]
  · rw [if_neg h, if_neg h, if_neg h]
theorem stB_at : cbt (stB B f) 0 = f := cbU_eq (c := cbt B)
theorem stB_bt : cset_rs (cset_bt (stB B f) 0 g) 0 = stB B g := by
  show (cn B, ckd B, cln B, cbU (cbU (cbt B) 0 f) 0 g, cro B, cna B, cbe B, cme B, ccn B, (0 : Int32)) = _
  rw [cbU_cbU]
theorem inv12 (h : one12 B k) (hk : k < 2) : cInv (stB B f) := by
  obtain ⟨h1, h2, h3⟩ := h
  refine ⟨by show cn B ≤ 64; omega, fun j hj => ?_⟩
  have hj0 : j = 0 := by
    have : j < cn B := hj
    omega
  subst hj0
  exact ⟨by show ckd B 0 < 2; omega, by show 1 ≤ cln B 0; omega, by show cln B 0 ≤ 500; omega⟩
theorem row0 (h : one12 B k) : 0 ≤ (0 : Int32) ∧ (0 : Int32) < nI (cn (stB B f)) := by
  rw [show cn (stB B f) = 1 from h.1]
  decide
theorem nc12 (hi : i < 12) : (nI i).toNatClampNeg = i := nI_clamp (by omega)
theorem has12 (h : one12 B k) (hi : i < 12) (k' : Nat) (f' : Nat → Int64) : ¬ f_X3_has k' (cln (stB B f) 0) f' (nI i) = 0 := by
  rw [has_def, show cln (stB B f) 0 = 12 from h.2.2, if_neg (nI_nn (by omega)), if_neg (by rw [nI_leI (by omega) (by omega)]; omega)]
  exact n10
theorem get_at (h : one12 B k) (hi : i < 12) (q : f i = x) : f_X6_get (stB B f) 0 (nI i) = (x, stB B f) := by
  unfold f_X6_get f_X6_get_3 f_X6_get_2
  rw [if_pos (row0 h), e00, if_neg (has12 h hi _ _), stB_at, nc12 hi, q]
  rfl
theorem compare_at (h : one12 B k) (hi : i < 12) (hj : j < 12) (q1 : f i = x) (q2 : f j = y) : f_X6_compare (stB B f) 0 (nI i) (nI j) = (f_X1_relations k x y, stB B f) := by
  unfold f_X6_compare f_X6_compare_5 f_X6_compare_4 f_X6_compare_3
  rw [if_pos (row0 h), e00, if_neg (has12 h hi _ _), if_neg (has12 h hj _ _), stB_at, nc12 hi, nc12 hj, q1, q2, show ckd (stB B f) 0 = k from h.2.1]
  rfl
theorem total_at (h : one12 B k) (hi : i < 12) (hj : j < 12) (q1 : f i = x) (q2 : f j = y) : f_X6_total (stB B f) 0 (nI i) (nI j) = (cmpT k x y, stB B f) := by
  unfold f_X6_total f_X6_total_8 f_X6_total_7 f_X6_total_6
  rw [if_pos (row0 h), e00, if_neg (has12 h hi _ _), if_neg (has12 h hj _ _), stB_at, nc12 hi, nc12 hj, q1, q2, show ckd (stB B f) 0 = k from h.2.1]
  unfold f_X6_total_5 f_X6_total_4 f_X6_total_3 cmpT
  by_cases c1 : f_X1_totalRank k y ≤ f_X1_totalRank k x
  · rw [if_pos c1, if_pos c1]
    by_cases c2 : f_X1_totalRank k x ≤ f_X1_totalRank k y
    · rw [if_pos c2, if_pos c2]; rfl
    · rw [if_neg c2, if_neg c2]; rfl
  · rw [if_neg c1, if_neg c1]; rfl
theorem act_at (h : one12 B k) {m : Nat} (hm : m < 14) (hi : i < 12) (hj : j < 12) (hn : n < 12) (q1 : f i = x) (q2 : f j = y) : f_X6_act (stB B f) 0 (nI m) (nI i) (nI j) (nI n) = (f_X1_sortOf k (f_X2_acted k (nI m) x y), stB B (vp_updL f n (f_X2_acted k (nI m) x y))) := by
  unfold f_X6_act f_X6_act_9 f_X6_act_8 f_X6_act_7 f_X6_act_6 f_X6_act_5 f_X6_act_4
  rw [if_pos (row0 h), if_neg (nI_nn (by omega)), if_neg (show ¬ (13 : Int32) < nI m from nI_nlt (a := 13) (by omega) (by decide)), e00, if_neg (has12 h hi _ _), if_neg (has12 h hj _ _), if_neg (has12 h hn _ _), stB_at, nc12 hi, nc12 hj, q1, q2, show ckd (stB B f) 0 = k from h.2.1]
  unfold f_X6_act_3 f_X6_act_1 f_X6_answer f_X3_put
  rw [e00, nc12 hn]
  show (_, cset_rs (cset_bt (stB B f) 0 _) 0) = _
  rw [stB_bt]
theorem set_at (h : one12 B k) (hi : i < 12) {b : Int64} : f_X6_set (stB B f) 0 (nI i) b = (f_X1_sortOf k (f_X1_cleaned k b), stB B (vp_updL f i (f_X1_cleaned k b))) := by
  unfold f_X6_set f_X6_set_4 f_X6_set_3
  rw [if_pos (row0 h), e00, if_neg (has12 h hi _ _), stB_at, show ckd (stB B f) 0 = k from h.2.1]
  unfold f_X6_set_2 f_X6_set_1 f_X6_answer f_X3_put
  rw [e00, nc12 hi]
  show (_, cset_rs (cset_bt (stB B f) 0 _) 0) = _
  rw [stB_bt]
theorem turned_self (hk : k < 2) (hx : kcn k x) : f_X2_turned k x k = x := by
  rw [(turned_both hk hk hx).1]
  unfold f_X7_turnedTo f_X7_turnedTo_4
  rw [if_pos rfl]
theorem move_at (h : one12 B k) (hk : k < 2) (hi : i < 12) (hn : n < 12) (q1 : f i = x) (hx : kcn k x) (b : Int32) : f_X6_move (stB B f) 0 (nI i) 0 (nI n) b = (f_X1_sortOf k x, stB B (vp_updL f n x)) := by
  unfold f_X6_move f_X6_move_8 f_X6_move_7 f_X6_move_6 f_X6_move_5 f_X6_move_4
  rw [if_pos (row0 h), if_pos (row0 h), e00, if_neg (has12 h hi _ _), if_neg (has12 h hn _ _), if_pos (Eq.refl (ckd (stB B f) 0)), stB_at, nc12 hi, q1, show ckd (stB B f) 0 = k from h.2.1, turned_self hk hx]
  unfold f_X6_move_2 f_X6_move_1 f_X6_answer f_X3_put
  rw [e00, nc12 hn]
  show (_, cset_rs (cset_bt (stB B f) 0 _) 0) = _
  rw [stB_bt]
/-- between: within both bounds -/
theorem between_in (h : one12 B k) (hk : k < 2) {p : Nat} {r : Bool} {w : Nat} (hi : i < 12) (hj : j < 12) (hp : p < 12) (hu : u ≤ kinfN k) (hv : v ≤ kinfN k) (hw : w ≤ kinfN k) (q1 : f i = enc k r w) (q2 : f j = enc k s u) (q3 : f p = enc k t v) (l1 : ri s u ≤ ri r w) (l2 : ri r w ≤ ri t v) : f_X6_between (stB B f) 0 (nI i) (nI j) (nI p) = (3, stB B f) := by
  have cx := kcn_enc (s := r) hk hw
  have cl := kcn_enc (s := s) hk hu
  have ch := kcn_enc (s := t) hk hv
  have wu := kw hk hu
  have wv := kw hk hv
  have ww := kw hk hw
  unfold f_X6_between f_X6_between_13 f_X6_between_12 f_X6_between_11 f_X6_between_10
  rw [if_pos (row0 h), e00, if_neg (has12 h hi _ _), if_neg (has12 h hj _ _), if_neg (has12 h hp _ _), stB_at, nc12 hi, nc12 hj, nc12 hp, q1, q2, q3]
  unfold f_X6_between_9 f_X6_between_8 f_X6_between_6 f_X6_between_5 f_X6_between_3 f_X6_between_1
  rw [e00, show ckd (stB B f) 0 = k from h.2.1, atMost_eq hk cl cx, atMost_eq hk cx ch, below_eq hk cx cl, below_eq hk ch cx]
  have p1 : f_X7_none k (enc k s u) = 0 ∧ f_X7_none k (enc k r w) = 0 ∧ f_X7_rank k (enc k s u) ≤ f_X7_rank k (enc k r w) := ⟨none0 hk hu, none0 hk hw, (rank_le hk wu ww).mpr l1⟩
  have p2 : f_X7_none k (enc k r w) = 0 ∧ f_X7_none k (enc k t v) = 0 ∧ f_X7_rank k (enc k r w) ≤ f_X7_rank k (enc k t v) := ⟨none0 hk hw, none0 hk hv, (rank_le hk ww wv).mpr l2⟩
  have p3 : ¬ (f_X7_none k (enc k r w) = 0 ∧ f_X7_none k (enc k s u) = 0 ∧ f_X7_rank k (enc k r w) < f_X7_rank k (enc k s u)) := fun h => by have := (rank_lt hk ww wu).mp h.2.2; omega
  have p4 : ¬ (f_X7_none k (enc k t v) = 0 ∧ f_X7_none k (enc k r w) = 0 ∧ f_X7_rank k (enc k t v) < f_X7_rank k (enc k r w)) := fun h => by have := (rank_lt hk wv ww).mp h.2.2; omega
  rw [if_pos p1, if_neg n10, if_pos p2, if_neg n10, if_neg p3, if_pos (Eq.refl (0 : Int32)), if_neg p4, if_pos (Eq.refl (0 : Int32))]
  rfl
/-- between: with one that is none, nothing holds -/
theorem between_nan (h : one12 B k) (hk : k < 2) (hi : i < 12) (hj : j < 12) (q1 : f i = x) (q2 : f j = y) (cx : kcn k x) (cy : kcn k y) (hn : x = knan k ∨ y = knan k) : f_X6_between (stB B f) 0 (nI i) (nI j) (nI j) = (2, stB B f) := by
  have hno : ¬ (f_X7_none k x = 0 ∧ f_X7_none k y = 0) := fun h2 => by
    rcases hn with rfl | rfl
    · rw [none1] at h2; exact n10 h2.1
    · rw [none1] at h2; exact n10 h2.2
  unfold f_X6_between f_X6_between_13 f_X6_between_12 f_X6_between_11 f_X6_between_10
  rw [if_pos (row0 h), e00, if_neg (has12 h hi _ _), if_neg (has12 h hj _ _), if_neg (has12 h hj _ _), stB_at, nc12 hi, nc12 hj, q1, q2]
  unfold f_X6_between_9 f_X6_between_7 f_X6_between_6 f_X6_between_5 f_X6_between_3 f_X6_between_1
  rw [e00, show ckd (stB B f) 0 = k from h.2.1, atMost_eq hk cy cx, below_eq hk cx cy, below_eq hk cy cx]
  have p1 : ¬ (f_X7_none k y = 0 ∧ f_X7_none k x = 0 ∧ f_X7_rank k y ≤ f_X7_rank k x) := fun h => hno ⟨h.2.1, h.1⟩
  have p3 : ¬ (f_X7_none k x = 0 ∧ f_X7_none k y = 0 ∧ f_X7_rank k x < f_X7_rank k y) := fun h => hno ⟨h.1, h.2.1⟩
  have p4 : ¬ (f_X7_none k y = 0 ∧ f_X7_none k x = 0 ∧ f_X7_rank k y < f_X7_rank k x) := fun h => hno ⟨h.2.1, h.1⟩
  rw [if_neg p1, if_pos (Eq.refl (0 : Int32)), if_neg p3, if_pos (Eq.refl (0 : Int32)), if_neg p4, if_pos (Eq.refl (0 : Int32))]
  rfl
/-- the interval's answer: 1 of what is none or divided by 0, else 0 -/
def anyI (k : Nat) (x y : Int64) (m : Nat) : Int32 := if x = knan k ∨ y = knan k ∨ (m = 3 ∧ ∃ t, y = enc k t 0) then 1 else 0
theorem stands_self (hk : k < 2) (cx : kcn k x) : f_X0_stands k x x = if x = knan k then 0 else 1 := by
  unfold f_X0_stands
  rw [atMost_eq hk cx cx]
  by_cases h : x = knan k
  · rw [if_pos h, if_neg (fun h2 => by rw [h, none1] at h2; exact n10 h2.1)]
  · rw [if_neg h, if_pos ⟨ite10.mpr h, ite10.mpr h, by rw [Int64.le_iff_toInt_le]; exact Int.le_refl _⟩]
theorem hasZero_self (hk : k < 2) (hu : u ≤ kinfN k) : f_X0_hasZero k (enc k s u) (enc k s u) = if u = 0 then 1 else 0 := by
  have cx := kcn_enc (s := s) hk hu
  have wu := kw hk hu
  have cz : kcn k (enc k false 0) := kcn_enc hk (Nat.zero_le _)
  have wz : 0 < 2 ^ wN k := Nat.two_pow_pos _
  unfold f_X0_hasZero f_X0_hasZero_2 f_X0_hasZero_1
  rw [zero_encf (k := k), atMost_eq hk cx cz, atMost_eq hk cz cx]
  by_cases h : u = 0
  · subst h
    have e : ri s 0 = ri false 0 := by unfold ri; cases s <;> rfl
    have p1 : f_X7_none k (enc k s 0) = 0 ∧ f_X7_none k (enc k false 0) = 0 ∧ f_X7_rank k (enc k s 0) ≤ f_X7_rank k (enc k false 0) := ⟨none0 hk hu, none0 hk hu, (rank_le hk wu wz).mpr (by omega)⟩
    have p2 : f_X7_none k (enc k false 0) = 0 ∧ f_X7_none k (enc k s 0) = 0 ∧ f_X7_rank k (enc k false 0) ≤ f_X7_rank k (enc k s 0) := ⟨none0 hk hu, none0 hk hu, (rank_le hk wz wu).mpr (by omega)⟩
    rw [if_pos p1, if_neg n10, if_pos p2, if_neg n10, if_pos rfl]
  · rw [if_neg h]
    cases s
    · have h9 : ¬ (f_X7_none k (enc k false u) = 0 ∧ f_X7_none k (enc k false 0) = 0 ∧ f_X7_rank k (enc k false u) ≤ f_X7_rank k (enc k false 0)) := fun h2 => by have h3 := (rank_le hk wu wz).mp h2.2.2; unfold ri at h3; simp at h3; omega
      rw [if_neg h9, if_pos (Eq.refl (0 : Int32))]
    · have h9 : ¬ (f_X7_none k (enc k false 0) = 0 ∧ f_X7_none k (enc k true u) = 0 ∧ f_X7_rank k (enc k false 0) ≤ f_X7_rank k (enc k true u)) := fun h2 => by have h3 := (rank_le hk wz wu).mp h2.2.2; unfold ri at h3; simp at h3; omega
      rw [if_neg h9, if_pos (Eq.refl (0 : Int32))]
      split <;> rfl
theorem pair12 (h : one12 B k) (hi : i < 6) (k' : Nat) (f' : Nat → Int64) : ¬ f_X3_hasPair k' (cln (stB B f) 0) f' (nI i) = 0 := by
  rw [hasPair_def, show cln (stB B f) 0 = 12 from h.2.2, if_neg (nI_nn (by omega)), if_neg (by rw [show nI 12 / (2 : Int32) = nI 6 by decide, nI_leI (by omega) (by omega)]; omega)]
  exact n10
theorem put_every {a : Int64 × Int64} : f_X6_interval_3 (stB B f) 0 (f_X3_putPair (cbt (stB B f) 0) k 3 k a.1 a.2) = (1, stB B (vp_updL (vp_updL f 6 a.1) 7 a.2)) := by
  unfold f_X6_interval_3 f_X6_interval_1 f_X6_answer f_X3_putPair f_X3_putPair_1
  rw [e00, show ((2 : Int32) * 3).toNatClampNeg = 6 by decide, show ((2 : Int32) * 3 + 1).toNatClampNeg = 7 by decide, stB_at]
  show (_, cset_rs (cset_bt (stB B f) 0 _) 0) = _
  rw [stB_bt]
theorem put_all {a : Int64 × Int64} : f_X6_interval_6 (stB B f) 0 (f_X3_putPair (cbt (stB B f) 0) k 3 k a.1 a.2) = (0, stB B (vp_updL (vp_updL f 6 a.1) 7 a.2)) := by
  unfold f_X6_interval_6 f_X6_interval_1 f_X6_answer f_X3_putPair f_X3_putPair_1
  rw [e00, show ((2 : Int32) * 3).toNatClampNeg = 6 by decide, show ((2 : Int32) * 3 + 1).toNatClampNeg = 7 by decide, stB_at]
  show (_, cset_rs (cset_bt (stB B f) 0 _) 0) = _
  rw [stB_bt]
theorem interval_at (h : one12 B k) (hk : k < 2) {m : Nat} (hm : m < 4) (q6 : f 6 = x) (q7 : f 7 = x) (q8 : f 8 = y) (q9 : f 9 = y) (cx : kcn k x) (cy : kcn k y) : ∃ a : Int64 × Int64, f_X6_interval (stB B f) 0 3 4 (nI m) = (anyI k x y m, stB B (vp_updL (vp_updL f 6 a.1) 7 a.2)) ∧ outP k (f_X2_acted k (nI (8 + m)) x y) a := by
  have hp3 : ¬ f_X3_hasPair (ckd (stB B f) 0) (cln (stB B f) 0) (cbt (stB B f) 0) (3 : Int32) = 0 := pair12 (f := f) (i := 3) h (by decide) _ _
  have hp4 : ¬ f_X3_hasPair (ckd (stB B f) 0) (cln (stB B f) 0) (cbt (stB B f) 0) (4 : Int32) = 0 := pair12 (f := f) (i := 4) h (by decide) _ _
  have e : f_X6_interval (stB B f) 0 3 4 (nI m) = f_X6_interval_16 (stB B f) 0 (x, x) 3 (y, y) (nI m) := by
    unfold f_X6_interval f_X6_interval_21 f_X6_interval_20 f_X6_interval_19 f_X6_interval_18 f_X6_interval_17
    rw [if_pos (row0 h), e00, if_neg hp3, if_neg hp4, if_neg (nI_nn (by omega)), if_pos (show nI m ≤ (5 : Int32) from nI_le (b := 5) (by omega) (by decide))]
    unfold f_X3_pair
    rw [stB_at, show ((2 : Int32) * 3).toNatClampNeg = 6 by decide, show ((2 : Int32) * 3 + 1).toNatClampNeg = 7 by decide, show ((2 : Int32) * 4).toNatClampNeg = 8 by decide, show ((2 : Int32) * 4 + 1).toNatClampNeg = 9 by decide, q6, q7, q8, q9]
  rw [e]
  have every : ∀ z, f_X6_interval_5 (stB B f) 0 3 (x, x) = (1, stB B (vp_updL (vp_updL f 6 (f_X0_everything k x x).1) 7 (f_X0_everything k x x).2)) ∧ outP k z (f_X0_everything k x x) := fun z => by
    refine ⟨?_, every_out hk⟩
    unfold f_X6_interval_5 f_X6_interval_4
    rw [e00, show ckd (stB B f) 0 = k from h.2.1]
    exact put_every
  unfold f_X6_interval_16 f_X6_interval_15 f_X6_interval_14 f_X6_interval_13
  rw [e00, show ckd (stB B f) 0 = k from h.2.1]
  show ∃ a : Int64 × Int64, (if f_X0_stands k x x = 0 then _ else if f_X0_stands k y y = 0 then _ else if nI m = (3 : Int32) then (if f_X0_hasZero k y y = 0 then _ else _) else _) = _ ∧ _
  rw [stands_self hk cx, stands_self hk cy]
  unfold anyI
  by_cases hx : x = knan k
  · rw [if_pos hx, if_pos (Eq.refl (0 : Int32)), if_pos (Or.inl hx)]
    exact ⟨_, every _⟩
  · rw [if_neg hx, if_neg n10]
    by_cases hy : y = knan k
    · rw [if_pos hy, if_pos (Eq.refl (0 : Int32)), if_pos (Or.inr (Or.inl hy))]
      exact ⟨_, every _⟩
    · rw [if_neg hy, if_neg n10]
      obtain ⟨s, u, hu, rfl⟩ := (kcn_cases hk cx).resolve_left hx
      obtain ⟨t, v, hv, rfl⟩ := (kcn_cases hk cy).resolve_left hy
      have held := held_is (s := s) (t := t) hk hu hv hm
      have fin : f_X6_interval_12 (nI m) (stB B f) 0 (enc k s u, enc k s u) (enc k t v, enc k t v) 3 = (0, stB B (vp_updL (vp_updL f 6 (f_X0_acted k (enc k s u) (enc k s u) (nI m) k (enc k t v) (enc k t v)).1) 7 (f_X0_acted k (enc k s u) (enc k s u) (nI m) k (enc k t v) (enc k t v)).2)) := by
        unfold f_X6_interval_12 f_X6_interval_11
        rw [if_neg (show ¬ nI m = (5 : Int32) from fun e => by have := congrArg Int32.toInt e; rw [nI_toInt (by omega), show (5 : Int32).toInt = 5 by decide] at this; omega)]
        unfold f_X6_interval_7
        rw [e00, show ckd (stB B f) 0 = k from h.2.1]
        exact put_all
      by_cases h3 : m = 3
      · subst h3
        rw [if_pos (show nI 3 = (3 : Int32) from rfl), hasZero_self hk hv]
        by_cases hv0 : v = 0
        · subst hv0
          rw [if_pos rfl, if_neg n10, if_pos (Or.inr (Or.inr ⟨rfl, t, rfl⟩))]
          exact ⟨_, every _⟩
        · rw [if_neg hv0, if_pos (Eq.refl (0 : Int32)), if_neg (fun hh => by
            rcases hh with hh | hh | ⟨-, t', hh⟩
            · exact hx hh
            · exact hy hh
            · exact hv0 ((enc_inj hk (kw hk hv) (Nat.two_pow_pos _)).mp hh).2)]
          exact ⟨_, fin, held⟩
      · rw [if_neg (show ¬ nI m = (3 : Int32) from fun e => by have := congrArg Int32.toInt e; rw [nI_toInt (by omega), show (3 : Int32).toInt = 3 by decide] at this; omega), if_neg (fun hh => by
            rcases hh with hh | hh | ⟨hh, -⟩
            · exact hx hh
            · exact hy hh
            · exact h3 hh)]
        exact ⟨_, fin, held⟩
end S12
