section ST2
variable {S : CSt} {M : MSt} {j p : Nat} {k : Nat} {x y : Int64}
theorem R_act (h : Rel S M) (x1 : Int32) (x2 : Int32) (x3 : Int32) (x4 : Int32) (x5 : Int32) : R2i (f_X6_act S x1 x2 x3 x4 x5) (f_X7_act M x1 x2 x3 x4 x5) := by
  unfold f_X6_act f_X6_act_9 f_X6_act_8 f_X6_act_7 f_X6_act_6 f_X6_act_5 f_X6_act_4 f_X7_act f_X7_act_9 f_X7_act_8 f_X7_act_7 f_X7_act_6 f_X7_act_5 f_X7_act_3
  rcases row_split h x1 with ⟨r1, r2, r3⟩ | ⟨j, hj, rfl, r1, r2, r3⟩
  · rw [if_neg r1, r2 x3, if_neg n10, if_neg nle10]
    exact ref_R h 1
  · rw [if_pos r1, h.j64 hj]
    have hk := h.kd hj
    rcases place_split h hj x3 with ⟨p1, p2, p3⟩ | ⟨p, hp, rfl, p1, p2, p3⟩
    · rw [p2, if_neg n20, if_neg nle20, if_pos (p1 _ _)]
      by_cases c1 : x2 < 0
      · rw [if_pos c1]; exact ref_R h 2
      · rw [if_neg c1]
        by_cases c2 : (13 : Int32) < x2
        · rw [if_pos c2]; exact ref_R h 2
        · rw [if_neg c2]; exact ref_R h 2
    · rw [p2, if_pos (Eq.refl (0 : Int32)), if_pos le00]
      by_cases c1 : x2 < 0
      · rw [if_pos c1, if_pos c1]; exact ref_R h 2
      · rw [if_neg c1, if_neg c1]
        by_cases c2 : (13 : Int32) < x2
        · rw [if_pos c2, if_pos c2]; exact ref_R h 2
        · rw [if_neg c2, if_neg c2, if_neg (show ¬ f_X3_has (ckd S j) (cln S j) (cbt S j) (nI p) = 0 by rw [p1]; exact n10)]
          rcases place_split h hj x4 with ⟨q1, q2, q3⟩ | ⟨q, hq, rfl, q1, q2, q3⟩
          · rw [if_pos (q1 _ _), if_neg (by rw [q3]; exact n10)]; exact ref_R h 2
          · rw [if_neg (by rw [q1]; exact n10), q3, if_pos (Eq.refl (0 : Int32))]
            rcases place_split h hj x5 with ⟨s1, s2, s3⟩ | ⟨r, hr, rfl, s1, s2, s3⟩
            · rw [if_pos (s1 _ _), if_neg (by rw [s3]; exact n10)]; exact ref_R h 2
            · rw [if_neg (by rw [s1]; exact n10), s3, if_pos (Eq.refl (0 : Int32))]
              have e1 : f_X7_at (mset_s M 0) (nI j) (nI p) = cbt S j p := h.at_ hj hp
              have e2 : f_X7_at (mset_s M 0) (nI j) (nI q) = cbt S j q := h.at_ hj hq
              have em : mk (mset_s M 0) (nI j).toNatClampNeg = ckd S j := by rw [h.j64 hj, hk.1]
              obtain ⟨m, hm, hm2⟩ := nI_of c1
              have hm14 : m < 14 := by
                subst hm2
                have h13 : (13 : Int32).toInt = 13 := by decide
                rw [Int32.lt_iff_toInt_lt, h13, nI_toInt hm] at c2
                omega
              have hA := acted_all hk.2 (h.bt hj hp).2 (h.bt hj hq).2 hm14 hm2
              unfold f_X6_act_3 f_X7_act_2
              rw [e1, e2, em, ← hA.1, h.j64 hj, h.p64 hj hp, h.p64 hj hq]
              exact put_R h hj hr (by rw [hA.1]; exact hA.2)
theorem R_step (h : Rel S M) (x1 : Int32) (x2 : Int32) (x3 : Int32) : R2i (f_X6_step S x1 x2 x3) (f_X7_step M x1 x2 x3) := by
  unfold f_X6_step f_X6_step_9 f_X6_step_8 f_X6_step_7 f_X6_step_6 f_X7_step f_X7_step_15 f_X7_step_14 f_X7_step_13 f_X7_step_11
  rcases row_split h x1 with ⟨r1, r2, r3⟩ | ⟨j, hj, rfl, r1, r2, r3⟩
  · rw [if_neg r1, r2 x2, if_neg n10, if_neg nle10]
    exact ref_R h 1
  · rw [if_pos r1, h.j64 hj]
    have hk := h.kd hj
    rcases place_split h hj x2 with ⟨p1, p2, p3⟩ | ⟨p, hp, rfl, p1, p2, p3⟩
    · rw [p2, if_neg n20, if_neg nle20, if_pos (p1 _ _)]
      exact ref_R h 2
    · rw [p2, if_pos (Eq.refl (0 : Int32)), if_pos le00, if_neg (by rw [p1]; exact n10)]
      by_cases c1 : x3 < (-1000000000 : Int32)
      · rw [if_pos c1, if_pos c1]; exact ref_R h 2
      · rw [if_neg c1, if_neg c1]
        by_cases c2 : x3 ≤ (1000000000 : Int32)
        · rw [if_pos c2, if_pos c2]
          have e1 : f_X7_at (mset_s M 0) (nI j) (nI p) = cbt S j p := h.at_ hj hp
          have em : mk (mset_s M 0) (nI j).toNatClampNeg = ckd S j := by rw [h.j64 hj, hk.1]
          have ei : ((nI (mf (mset_s M 0) (nI j).toNatClampNeg)) + (nI p)).toNatClampNeg = mf M j + p := h.idx hj hp
          have hA : (1000000000 : Int32).toInt = 1000000000 := by decide
          have hB : (-1000000000 : Int32).toInt = -1000000000 := by decide
          have hn : -1000000000 ≤ x3.toInt ∧ x3.toInt ≤ 1000000000 := by
            rw [Int32.lt_iff_toInt_lt, hB] at c1
            rw [Int32.le_iff_toInt_le, hA] at c2
            omega
          have hc := (h.bt hj hp).2
          have hs := step_val (x := cbt S j p) (mset_s M 0) (nI j) (nI p) x3 hn (by rw [em]; exact hk.2) (by rw [em]; exact hc) (by rw [ei]; exact (h.bt hj hp).1.symm)
          unfold f_X7_step_9
          rw [e1, hs, em, ei]
          unfold f_X6_step_5 f_X6_step_4 f_X6_step_3
          rw [h.j64 hj, h.p64 hj hp]
          refine ⟨rfl, ?_⟩
          have := h.put hj hp (stepped_clean hk.2 hc x3) 0
          show Rel (cset_rs (cset_bt S j (vp_updL (cbt S j) (nI p).toNatClampNeg (f_X1_stepped (ckd S j) (cbt S j p) x3))) 0) _
          rw [h.p64 hj hp]
          exact this
        · rw [if_neg c2, if_neg c2]; exact ref_R h 2
theorem R_move (h : Rel S M) (x1 : Int32) (x2 : Int32) (x3 : Int32) (x4 : Int32) (x5 : Int32) : R2i (f_X6_move S x1 x2 x3 x4 (b01 x5)) (f_X7_move M x1 x2 x3 x4 (b01 x5)) := by
  generalize b01 x5 = b
  unfold f_X6_move f_X6_move_8 f_X6_move_7 f_X6_move_6 f_X6_move_5 f_X6_move_4 f_X6_move_3 f_X7_move f_X7_move_11 f_X7_move_10 f_X7_move_9 f_X7_move_8 f_X7_move_6 f_X7_move_5 f_X7_move_4 f_X7_move_3
  rcases row_split h x1 with ⟨r1, r2, r3⟩ | ⟨j, hj, rfl, r1, r2, r3⟩
  · rw [if_neg r1, r2 x2, if_neg n10, if_neg n10, if_neg nle10]
    exact ref_R h 1
  · rw [if_pos r1, h.j64 hj]
    have hk := h.kd hj
    rcases place_split h hj x2 with ⟨p1, p2, p3⟩ | ⟨p, hp, rfl, p1, p2, p3⟩
    · rw [p2, if_neg n20, if_neg n20, if_neg nle20, if_pos (p1 _ _)]
      split
      · exact ref_R h 2
      · exact ref_R h 2
    · rw [p2, if_pos (Eq.refl (0 : Int32)), if_pos (Eq.refl (0 : Int32)), if_pos le00, if_neg (show ¬ f_X3_has (ckd S j) (cln S j) (cbt S j) (nI p) = 0 by rw [p1]; exact n10)]
      rcases row_split h x3 with ⟨t1, t2, t3⟩ | ⟨i, hi, rfl, t1, t2, t3⟩
      · rw [if_neg t1]
        rcases t3 with t3 | ⟨t3, t4⟩
        · rw [if_pos t3]; exact ref_R h 2
        · rw [if_neg t3, if_pos (show nI (mn M) ≤ x3 by rw [Int32.le_iff_toInt_le]; rw [Int32.lt_iff_toInt_lt] at t4; omega)]
          exact ref_R h 2
      · have hki := h.kd hi
        rw [if_pos t1, if_neg t2, if_neg (show ¬ nI (mn M) ≤ nI i by rw [Int32.le_iff_toInt_le]; rw [Int32.lt_iff_toInt_lt] at t3; omega), h.j64 hi]
        rcases place_split h hi x4 with ⟨q1, q2, q3⟩ | ⟨q, hq, rfl, q1, q2, q3⟩
        · rw [if_pos (q1 _ _), if_neg (by rw [q3]; exact n10)]; exact ref_R h 2
        · rw [if_neg (by rw [q1]; exact n10), q3, if_pos (Eq.refl (0 : Int32)), h.p64 hj hp]
          have hT := turned_both hk.2 hki.2 (h.bt hj hp).2
          have e1 : f_X7_at (mset_s M 0) (nI j) (nI p) = cbt S j p := h.at_ hj hp
          have em : mk (mset_s M 0) (nI j).toNatClampNeg = ckd S j := by rw [h.j64 hj, hk.1]
          have em2 : mk (mset_s M 0) (nI i).toNatClampNeg = ckd S i := by rw [h.j64 hi, hki.1]
          have fin : R2i (f_X6_move_2 S (nI i) (f_X3_put (cbt S i) (ckd S i) (nI q) (f_X2_turned (ckd S j) (cbt S j p) (ckd S i)))) (f_X7_move_2 (mset_s M 0) (nI i) (nI q) (nI j) (nI p)) := by
            unfold f_X6_move_2 f_X7_move_2
            rw [e1, em, em2, ← hT.1, h.j64 hi]
            exact put_R h hi hq (by rw [hT.1]; exact hT.2)
          by_cases ck : ckd S j = ckd S i
          · rw [if_pos ck, if_pos (show nI (mk M j) = nI (mk M i) by rw [← hk.1, ← hki.1, ck])]
            exact fin
          · have hnk : ¬ nI (mk M j) = nI (mk M i) := fun e => ck (by rw [hk.1, hki.1]; exact (nI_k (by rw [← hk.1]; exact hk.2) (by rw [← hki.1]; exact hki.2)).mp e)
            rw [if_neg ck, if_neg hnk]
            by_cases cb : b = 0
            · rw [if_pos cb, if_pos cb]; exact ref_R h 3
            · rw [if_neg cb, if_neg cb]; exact fin
theorem c_at {c : Prop} [Decidable c] : ((if c then (1 : Int32) else 0) = 0) ↔ ¬ c := ite10
/-- the bits of 'compare' -/
theorem cmpV_bits (hk : k < 2) (hx : kcn k x) (hy : kcn k y) : (cmpV k x y &&& (16 : Int32) = 0 ↔ f_X1_atMost k y x = 0) ∧ (cmpV k x y &&& (8 : Int32) = 0 ↔ f_X1_atMost k x y = 0) ∧ (cmpV k x y &&& (1 : Int32) = 0 ↔ f_X1_isBelow k x y = 0) ∧ (cmpV k x y &&& (4 : Int32) = 0 ↔ f_X1_isBelow k y x = 0) := by
  rw [atMost_eq hk hy hx, atMost_eq hk hx hy, below_eq hk hx hy, below_eq hk hy hx, ite10, ite10, ite10, ite10]
  unfold cmpV
  by_cases h1 : f_X7_none k x = 0
  · by_cases h2 : f_X7_none k y = 0
    · rw [if_pos h1, if_pos h2]
      have hlt := @Int64.lt_iff_toInt_lt
      have hle := @Int64.le_iff_toInt_le
      by_cases h3 : f_X7_rank k y ≤ f_X7_rank k x
      · rw [if_pos h3]
        by_cases h4 : f_X7_rank k x = f_X7_rank k y
        · rw [if_pos h4]
          have e : ¬ f_X7_rank k x < f_X7_rank k y := by rw [hlt, h4]; omega
          have e2 : ¬ f_X7_rank k y < f_X7_rank k x := by rw [hlt, h4]; omega
          have e3 : f_X7_rank k x ≤ f_X7_rank k y := by rw [hle, h4]; omega
          refine ⟨⟨fun h => absurd h (by decide), fun h => absurd ⟨h2, h1, h3⟩ h⟩, ⟨fun h => absurd h (by decide), fun h => absurd ⟨h1, h2, e3⟩ h⟩, ⟨fun _ h => e h.2.2, fun _ => by decide⟩, ⟨fun _ h => e2 h.2.2, fun _ => by decide⟩⟩
        · rw [if_neg h4]
          have hne : (f_X7_rank k x).toInt ≠ (f_X7_rank k y).toInt := fun e => h4 (Int64.toInt_inj.mp e)
          have h3' := hle.mp h3
          have e : ¬ f_X7_rank k x < f_X7_rank k y := by rw [hlt]; omega
          have e2 : f_X7_rank k y < f_X7_rank k x := by rw [hlt]; omega
          have e3 : ¬ f_X7_rank k x ≤ f_X7_rank k y := by rw [hle]; omega
          refine ⟨⟨fun h => absurd h (by decide), fun h => absurd ⟨h2, h1, h3⟩ h⟩, ⟨fun _ h => e3 h.2.2, fun _ => by decide⟩, ⟨fun _ h => e h.2.2, fun _ => by decide⟩, ⟨fun h => absurd h (by decide), fun h => absurd ⟨h2, h1, e2⟩ h⟩⟩
      · rw [if_neg h3]
        have h3' : ¬ (f_X7_rank k y).toInt ≤ (f_X7_rank k x).toInt := fun h => h3 (hle.mpr h)
        have e : f_X7_rank k x < f_X7_rank k y := by rw [hlt]; omega
        have e2 : ¬ f_X7_rank k y < f_X7_rank k x := by rw [hlt]; omega
        have e3 : f_X7_rank k x ≤ f_X7_rank k y := by rw [hle]; omega
        refine ⟨⟨fun _ h => h3 h.2.2, fun _ => by decide⟩, ⟨fun h => absurd h (by decide), fun h => absurd ⟨h1, h2, e3⟩ h⟩, ⟨fun h => absurd h (by decide), fun h => absurd ⟨h1, h2, e⟩ h⟩, ⟨fun _ h => e2 h.2.2, fun _ => by decide⟩⟩
    · rw [if_pos h1, if_neg h2]
      exact ⟨⟨fun _ h => h2 h.1, fun _ => by decide⟩, ⟨fun _ h => h2 h.2.1, fun _ => by decide⟩, ⟨fun _ h => h2 h.2.1, fun _ => by decide⟩, ⟨fun _ h => h2 h.1, fun _ => by decide⟩⟩
  · rw [if_neg h1]
    exact ⟨⟨fun _ h => h1 h.2.1, fun _ => by decide⟩, ⟨fun _ h => h1 h.1, fun _ => by decide⟩, ⟨fun _ h => h1 h.1, fun _ => by decide⟩, ⟨fun _ h => h1 h.2.1, fun _ => by decide⟩⟩
theorem R_between (h : Rel S M) (x1 : Int32) (x2 : Int32) (x3 : Int32) (x4 : Int32) : R2i (f_X6_between S x1 x2 x3 x4) (f_X7_between M x1 x2 x3 x4) := by
  unfold f_X6_between f_X6_between_13 f_X6_between_12 f_X6_between_11 f_X6_between_10 f_X7_between f_X7_between_13 f_X7_between_12 f_X7_between_11 f_X7_between_9
  rcases row_split h x1 with ⟨r1, r2, r3⟩ | ⟨j, hj, rfl, r1, r2, r3⟩
  · rw [if_neg r1, r2 x2, if_neg n10, if_neg nle10]
    exact ref_R h 1
  · rw [if_pos r1, h.j64 hj]
    have hk := h.kd hj
    rcases place_split h hj x2 with ⟨p1, p2, p3⟩ | ⟨p, hp, rfl, p1, p2, p3⟩
    · rw [p2, if_neg n20, if_neg nle20, if_pos (p1 _ _)]; exact ref_R h 2
    · rw [p2, if_pos (Eq.refl (0 : Int32)), if_pos le00, if_neg (by rw [p1]; exact n10)]
      rcases place_split h hj x3 with ⟨q1, q2, q3⟩ | ⟨q, hq, rfl, q1, q2, q3⟩
      · rw [if_pos (q1 _ _), if_neg (by rw [q3]; exact n10)]; exact ref_R h 2
      · rw [if_neg (by rw [q1]; exact n10), q3, if_pos (Eq.refl (0 : Int32))]
        rcases place_split h hj x4 with ⟨s1, s2, s3⟩ | ⟨r, hr, rfl, s1, s2, s3⟩
        · rw [if_pos (s1 _ _), if_neg (by rw [s3]; exact n10)]; exact ref_R h 2
        · rw [if_neg (by rw [s1]; exact n10), s3, if_pos (Eq.refl (0 : Int32)), cmp_at h hj hp hq, h.p64 hj hp, h.p64 hj hq, h.p64 hj hr]
          unfold f_X7_between_7
          have e2 : f_X7_compare (mset_s M 0) (nI j) (nI p) (nI r) = (cmpV (ckd S j) (cbt S j p) (cbt S j r), mset_s M 0) := cmp_at (h.rs 0) hj hp hr
          have e3 : f_X7_compare ((cmpV (ckd S j) (cbt S j p) (cbt S j q)), mset_s M 0).2 (nI j) (nI p) (nI r) = (cmpV (ckd S j) (cbt S j p) (cbt S j r), mset_s M 0) := e2
          rw [e3]
          obtain ⟨g1, g2, g3, g4⟩ := cmpV_bits hk.2 (h.bt hj hp).2 (h.bt hj hq).2
          obtain ⟨f1, f2, f3, f4⟩ := cmpV_bits hk.2 (h.bt hj hp).2 (h.bt hj hr).2
          unfold f_X7_between_6
          show R2i _ (f_X7_between_5 (cmpV (ckd S j) (cbt S j p) (cbt S j q)) (cmpV (ckd S j) (cbt S j p) (cbt S j r)) (mset_s M 0))
          have hR := h.rs 0
          generalize cmpV (ckd S j) (cbt S j p) (cbt S j q) = A at g1 g2 g3 g4 ⊢
          generalize cmpV (ckd S j) (cbt S j p) (cbt S j r) = B at f1 f2 f3 f4 ⊢
          unfold f_X6_between_9 f_X6_between_8 f_X6_between_7 f_X6_between_6 f_X6_between_5 f_X6_between_4 f_X6_between_3 f_X7_between_5 f_X7_between_4 f_X7_between_3 f_X7_between_2 f_X7_between_1
          rw [h.j64 hj]
          have tail : ∀ w : Int32, R2i (if f_X1_isBelow (ckd S j) (cbt S j p) (cbt S j q) = 0 then (if f_X1_isBelow (ckd S j) (cbt S j r) (cbt S j p) = 0 then f_X6_between_1 (f_X6_answer S (w + 2)) else f_X6_between_1 (f_X6_answer S (w + 0))) else f_X6_between_1 (f_X6_answer S (w + 0))) (if A &&& (1 : Int32) = 0 then (if B &&& (4 : Int32) = 0 then (w + 2, mset_s M 0) else (w + 0, mset_s M 0)) else (w + 0, mset_s M 0)) := by
            intro w
            by_cases d1 : f_X1_isBelow (ckd S j) (cbt S j p) (cbt S j q) = 0
            · rw [if_pos d1, if_pos (g3.mpr d1)]
              by_cases d2 : f_X1_isBelow (ckd S j) (cbt S j r) (cbt S j p) = 0
              · rw [if_pos d2, if_pos (f4.mpr d2)]; exact ⟨rfl, hR⟩
              · rw [if_neg d2, if_neg (fun e => d2 (f4.mp e))]; exact ⟨rfl, hR⟩
            · rw [if_neg d1, if_neg (fun e => d1 (g3.mp e))]; exact ⟨rfl, hR⟩
          by_cases d1 : f_X1_atMost (ckd S j) (cbt S j q) (cbt S j p) = 0
          · rw [if_pos d1, if_pos (g1.mpr d1)]; exact tail 0
          · rw [if_neg d1, if_neg (fun e => d1 (g1.mp e))]
            by_cases d2 : f_X1_atMost (ckd S j) (cbt S j p) (cbt S j r) = 0
            · rw [if_pos d2, if_pos (f2.mpr d2)]; exact tail 0
            · rw [if_neg d2, if_neg (fun e => d2 (f2.mp e))]; exact tail 1
theorem add_R (h : Rel S M) (hn : cn S < 64) {x : Int32} (h1 : 1 ≤ x.toInt) (h5 : x.toInt ≤ 500) (h4 : mf M (mn M) + x.toNatClampNeg ≤ 4000) (hk : k < 2) (q na : Nat) : Rel (cset_rs (cadd S q na k x) 0) (mset_s (mset_n (mset_f (mset_k M (mkU M k)) (mfU (mset_k M (mkU M k)) x)) (mn M + 1)) 0) := by
  have hx : x.toNatClampNeg = x.toInt.toNat := rfl
  have hI := h.2.1
  have hmn := h.2.2.1
  have e1 : ∀ i, i ≤ mn M → mfU (mset_k M (mkU M k)) x i = mf M i := by
    intro i hi
    show (if i = mn M + 1 then mf M (mn M) + x.toNatClampNeg else mf M i) = mf M i
    rw [if_neg (by omega)]
  have e2 : mfU (mset_k M (mkU M k)) x (mn M + 1) = mf M (mn M) + x.toNatClampNeg := by
    show (if mn M + 1 = mn M + 1 then mf M (mn M) + x.toNatClampNeg else mf M (mn M + 1)) = _
    rw [if_pos rfl]
  have e3 : ∀ i, i < mn M → mkU M k i = mk M i := by
    intro i hi
    unfold mkU
    rw [if_neg (by omega)]
  have e4 : mkU M k (mn M) = k := by unfold mkU; rw [if_pos rfl]
  have hz : kcn k 0 := by rw [zero_encf (k := k)]; exact kcn_enc hk (Nat.zero_le _)
  refine ⟨⟨?_, ?_⟩, ⟨?_, ?_, ?_, ?_, ?_, ?_⟩, ?_, ?_, rfl, ?_, ?_⟩
  · show cn S + 1 ≤ 64
    omega
  · intro i hi
    have hi : i < cn S + 1 := hi
    show updN (ckd S) (cn S) k i < 2 ∧ 1 ≤ updN (cln S) (cn S) x.toNatClampNeg i ∧ updN (cln S) (cn S) x.toNatClampNeg i ≤ 500
    unfold updN
    by_cases e : i = cn S
    · rw [if_pos e, if_pos e]; omega
    · rw [if_neg e, if_neg e]; exact h.1.2 i (by omega)
  · show mn M + 1 ≤ 64
    omega
  · show mfU (mset_k M (mkU M k)) x 0 = 0
    rw [e1 0 (Nat.zero_le _)]; exact hI.2.1
  · intro i hi
    have hi : i < mn M + 1 := hi
    show mfU (mset_k M (mkU M k)) x i < mfU (mset_k M (mkU M k)) x (i + 1) ∧ mfU (mset_k M (mkU M k)) x (i + 1) ≤ mfU (mset_k M (mkU M k)) x i + 500
    by_cases e : i = mn M
    · rw [e, e2, e1 _ (Nat.le_refl _)]; omega
    · rw [e1 i (by omega), e1 (i + 1) (by omega)]; exact hI.2.2.1 i (by omega)
  · show mfU (mset_k M (mkU M k)) x (mn M + 1) ≤ 4000
    rw [e2]; exact h4
  · intro i hi
    have hi : i < mn M + 1 := hi
    show mkU M k i < 2
    by_cases e : i = mn M
    · rw [e, e4]; exact hk
    · rw [e3 i (by omega)]; exact hI.2.2.2.2.1 i (by omega)
  · intro i q' hi hq
    have hi : i < mn M + 1 := hi
    show kcn (mkU M k i) (mb M (mfU (mset_k M (mkU M k)) x i + q'))
    have hq : q' < mfU (mset_k M (mkU M k)) x (i + 1) - mfU (mset_k M (mkU M k)) x i := hq
    by_cases e : i = mn M
    · rw [e, e4, e1 _ (Nat.le_refl _), h.2.2.2.2.2.2 _ (by omega)]; exact hz
    · rw [e1 i (by omega), e1 (i + 1) (by omega)] at hq
      rw [e3 i (by omega), e1 i (by omega)]
      exact hI.2.2.2.2.2 i q' (by omega) hq
  · show cn S + 1 = mn M + 1
    omega
  · show ccn S + x = nI (mfU (mset_k M (mkU M k)) x (mn M + 1))
    rw [e2, h.2.2.2.1]
    have hxn : x = nI x.toNatClampNeg := nI_ofInt (by omega)
    conv => lhs; rw [hxn]
    rw [nI_add]
  · intro i hi
    have hi : i < cn S + 1 := hi
    show updN (ckd S) (cn S) k i = mkU M k i ∧ updN (cln S) (cn S) x.toNatClampNeg i = mfU (mset_k M (mkU M k)) x (i + 1) - mfU (mset_k M (mkU M k)) x i ∧ ∀ q', q' < updN (cln S) (cn S) x.toNatClampNeg i → cbU (cbt S) (cn S) (fun _ => 0) i q' = mb M (mfU (mset_k M (mkU M k)) x i + q')
    unfold updN cbU
    by_cases e : i = cn S
    · rw [if_pos e, if_pos e, if_pos e, e, hmn, e4, e2, e1 _ (Nat.le_refl _)]
      refine ⟨rfl, by omega, fun q' _ => (h.2.2.2.2.2.2 _ (by omega)).symm⟩
    · rw [if_neg e, if_neg e, if_neg e, e3 i (by omega), e1 i (by omega), e1 (i + 1) (by omega)]
      exact h.2.2.2.2.2.1 i (by omega)
  · intro i hi
    have hi : mfU (mset_k M (mkU M k)) x (mn M + 1) ≤ i := hi
    rw [e2] at hi
    exact h.2.2.2.2.2.2 i (by omega)
theorem R_row (h : Rel S M) (x1 : Int32) (x2 : Int32) (q na : Nat) : R2i (f_X6_row S x1 (b01 x2) q na) (f_X7_row M x1 (b01 x2)) := by
  generalize b01 x2 = b
  have h1 : (1 : Int32).toInt = 1 := by decide
  have h500 : (500 : Int32).toInt = 500 := by decide
  have h4000 : (4000 : Int32).toInt = 4000 := by decide
  have hn := h.2.2.1
  have hc64 := h.1.1
  have htop := h.2.1.2.2.2.1
  unfold f_X6_row f_X6_row_10 f_X6_row_9 f_X6_row_8 f_X6_row_7 f_X7_row f_X7_row_11 f_X7_row_10 f_X7_row_9 f_X7_row_8
  by_cases c1 : x1 < (1 : Int32)
  · rw [if_pos c1, if_pos c1]; exact ref_R h 2
  · rw [if_neg c1, if_neg c1]
    by_cases c2 : x1 ≤ (500 : Int32)
    · rw [if_pos c2, if_pos c2]
      rw [Int32.lt_iff_toInt_lt, h1] at c1
      rw [Int32.le_iff_toInt_le, h500] at c2
      have hx : x1.toNatClampNeg = x1.toInt.toNat := rfl
      by_cases c3 : cn S = 64
      · rw [if_pos (show (64 : Int32) ≤ nI (cn S) by rw [c3]; decide), if_pos (show nI (mn M) = (64 : Int32) by rw [← hn, c3]; rfl)]
        exact ref_R h 5
      · have c3' : ¬ (64 : Int32) ≤ nI (cn S) := nI_ge (b := 64) (by omega) (by decide)
        have c3'' : ¬ nI (mn M) = (64 : Int32) := fun e => by
          have := congrArg Int32.toInt e
          rw [nI_toInt (by omega), show (64 : Int32).toInt = 64 by decide] at this
          omega
        rw [if_neg c3', if_neg c3'', nI_clamp (show mn M < 2147483648 by omega)]
        have ea : (nI (mf M (mn M)) + x1).toInt = (mf M (mn M) : Int) + x1.toInt := by
          rw [Kit.i32_add (by rw [nI_toInt (by omega)]; omega) (by rw [nI_toInt (by omega)]; omega), nI_toInt (by omega)]
        have eb : ((4000 : Int32) - ccn S).toInt = 4000 - (mf M (mn M) : Int) := by
          rw [h.2.2.2.1, Kit.i32_sub (by rw [nI_toInt (by omega), h4000]; omega) (by rw [nI_toInt (by omega), h4000]; omega), nI_toInt (by omega), h4000]
        by_cases c4 : (mf M (mn M) : Int) + x1.toInt ≤ 4000
        · rw [if_pos (show x1 ≤ (4000 : Int32) - ccn S by rw [Int32.le_iff_toInt_le, eb]; omega), if_pos (show nI (mf M (mn M)) + x1 ≤ (4000 : Int32) by rw [Int32.le_iff_toInt_le, ea, h4000]; omega)]
          unfold f_X6_row_6 f_X7_row_7
          have ans : nI (cn S) = nI (mn M + 1) - 1 := by rw [nI_pred, hn]
          by_cases cb : b = 0
          · rw [if_pos cb, if_pos cb]
            exact ⟨ans, add_R h (by omega) (by omega) c2 (by omega) (by decide) q na⟩
          · rw [if_neg cb, if_neg cb]
            exact ⟨ans, add_R h (by omega) (by omega) c2 (by omega) (by decide) q na⟩
        · rw [if_neg (show ¬ x1 ≤ (4000 : Int32) - ccn S by rw [Int32.le_iff_toInt_le, eb]; omega), if_neg (show ¬ nI (mf M (mn M)) + x1 ≤ (4000 : Int32) by rw [Int32.le_iff_toInt_le, ea, h4000]; omega)]
          exact ref_R h 5
    · rw [if_neg c2, if_neg c2]; exact ref_R h 2
end ST2
