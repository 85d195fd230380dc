-- sorting: both merge alike
section SORT
variable {S : CSt} {M : MSt} {j : Nat} {k w : Nat} {x y : Int64} {way : Int32} {f be : Nat → Int64}
def absV (k : Nat) (x : Int64) : Int64 := if f_X7_none k x = 0 then f_X7_unsigned k x else x
theorem absV_val (hk : k < 2) (hx : kcn k x) : kcn k (absV k x) ∧ (f_X1_totalRank k (absV k x)).toInt = (f_X1_magnitude k x).toInt := by
  unfold absV
  rcases kcn_cases hk hx with rfl | ⟨s, u, hu, rfl⟩
  · have hw := (kinfN_w hk).2.1
    rw [none1, if_neg n10, knan_ti hk]
    refine ⟨kcn_nan hk, ?_⟩
    rw [knan_enc hk, mag_enc hk hw, pf_lI (lt63 hk hw)]
  · have hw := kw hk hu
    rw [none0 hk hu, if_pos (Eq.refl (0 : Int32)), uns_enc hk hw, mag_enc hk hw]
    refine ⟨uns_lN_c hk hu, ?_⟩
    rw [← enc_f (k := k), trank_enc hk hw, if_neg (by decide), enc_f, pf_lI (lt63 hk hw)]
theorem trank_rng (hk : k < 2) (hx : kcn k x) : -9223372036854775808 < (f_X1_totalRank k x).toInt := by
  rcases kcn_cases hk hx with rfl | ⟨s, u, hu, rfl⟩
  · rw [knan_ti hk]; omega
  · have hI := @kinfN_lt k
    have hK : kinfN k ≤ 9218868437227405312 := by rcases two_of hk with rfl | rfl <;> decide
    rw [trank_enc hk (kw hk hu)]
    split <;> omega
theorem cmpT_ge0 {a b : Int64} : (0 : Int32) ≤ cmpT k a b ↔ f_X1_totalRank k b ≤ f_X1_totalRank k a := by
  unfold cmpT
  by_cases h1 : f_X1_totalRank k b ≤ f_X1_totalRank k a
  · rw [if_pos h1]
    by_cases h2 : f_X1_totalRank k a ≤ f_X1_totalRank k b
    · rw [if_pos h2]; exact ⟨fun _ => h1, fun _ => by decide⟩
    · rw [if_neg h2]; exact ⟨fun _ => h1, fun _ => by decide⟩
  · rw [if_neg h1]
    exact ⟨fun h => absurd h (by decide), fun h => absurd h h1⟩
theorem behind_eq (hk : k < 2) (hx : kcn k x) (hy : kcn k y) (hw : way = 0 ∨ way = 1 ∨ way = 2) : f_X7_behind k way x y = 0 ↔ ¬ f_X4_rank k way y < f_X4_rank k way x := by
  have rx := trank_rng hk hx
  have ry := trank_rng hk hy
  unfold f_X7_behind f_X7_behind_7 f_X7_behind_6 f_X7_behind_5 f_X7_behind_4 f_X7_behind_3 f_X7_behind_2 f_X7_behind_1 f_X4_rank f_X4_rank_2 f_X4_rank_1
  rcases hw with rfl | rfl | rfl
  · rw [if_neg (show ¬ (0 : Int32) = 2 by decide), if_pos (Eq.refl (0 : Int32)), if_pos (Eq.refl (0 : Int32)), if_pos (Eq.refl (0 : Int32)), order_eq hk hx hy, ite01, cmpT_le0, Int64.le_iff_toInt_le, Int64.lt_iff_toInt_lt]
    omega
  · rw [if_neg (show ¬ (1 : Int32) = 2 by decide), if_neg n10, if_neg n10, if_neg n10, if_pos (Eq.refl (1 : Int32)), if_pos (Eq.refl (1 : Int32)), order_eq hk hx hy, ite01, cmpT_ge0, Int64.le_iff_toInt_le, Int64.lt_iff_toInt_lt, Kit.i64_neg (by omega), Kit.i64_neg (by omega)]
    omega
  · obtain ⟨ax, tx⟩ := absV_val hk hx
    obtain ⟨ay, ty⟩ := absV_val hk hy
    have e : (if f_X7_none k x = 0 then (if f_X7_none k y = 0 then (if f_X7_order k (f_X7_unsigned k x) (f_X7_unsigned k y) ≤ 0 then (0 : Int32) else 1) else (if f_X7_order k (f_X7_unsigned k x) y ≤ 0 then 0 else 1)) else (if f_X7_none k y = 0 then (if f_X7_order k x (f_X7_unsigned k y) ≤ 0 then 0 else 1) else (if f_X7_order k x y ≤ 0 then 0 else 1))) = if f_X7_order k (absV k x) (absV k y) ≤ 0 then 0 else 1 := by
      unfold absV
      split <;> split <;> rfl
    rw [if_pos (Eq.refl (2 : Int32)), e, order_eq hk ax ay, ite01, cmpT_le0, if_neg (show ¬ (2 : Int32) = 0 by decide), if_neg (show ¬ (2 : Int32) = 1 by decide), if_neg (show ¬ (2 : Int32) = 0 by decide), if_neg (show ¬ (2 : Int32) = 1 by decide), Int64.le_iff_toInt_le, Int64.lt_iff_toInt_lt]
    omega
theorem nI_eqI {a b : Nat} (ha : a < 2 ^ 31) (hb : b < 2 ^ 31) : nI a = nI b ↔ a = b := by
  constructor
  · intro h
    have := congrArg Int32.toInt h
    rw [nI_toInt ha, nI_toInt hb] at this
    omega
  · intro h; rw [h]
theorem jminI_nI {a b : Nat} (ha : a < 2 ^ 31) (hb : b < 2 ^ 31) : jminI (nI a) (nI b) = nI (min a b) := by
  apply Int32.toInt_inj.mp
  rw [jminI_val, nI_toInt ha, nI_toInt hb, nI_toInt (by omega)]
  omega
theorem updL_at {g : Nat → Int64} {i : Nat} {v : Int64} : vp_updL g i v i = v := if_pos rfl
theorem updL_ne {g : Nat → Int64} {i l : Nat} {v : Int64} (h : ¬ l = i) : vp_updL g i v l = g l := if_neg h
/-- one merge of two runs -/
theorem merge_run (hk : k < 2) (hway : way = 0 ∨ way = 1 ∨ way = 2) {mid to : Nat} (hmt : mid ≤ to) (hto : to ≤ w) (hw : w ≤ 500) (hf : ∀ p, p < w → mw M p = f p ∧ kcn k (f p)) : ∀ (n l r i : Nat) (me mo' : Nat → Int64), 501 ≤ i + n → l ≤ mid → mid ≤ r → r ≤ to → i + mid = l + r → (∀ p, p < i → me p = mo' p ∧ kcn k (me p)) → ∃ me2 mo2, f_X4_merge_L16 k way (nI mid) (nI to) n (f, be, me) (nI l) (nI r) (nI i) = (f, be, me2) ∧ f_X7_merge_L10 k way (nI mid) (nI to) n (mset_o M mo') (nI l) (nI r) (nI i) = mset_o M mo2 ∧ ∀ p, p < to → me2 p = mo2 p ∧ kcn k (me2 p) := by
  intro n
  induction n with
  | zero => intro l r i me mo' h1 h2 h3 h4 h5; omega
  | succ n ih =>
    intro l r i me mo' h1 h2 h3 h4 h5 hq
    by_cases c1 : to ≤ i
    · refine ⟨me, mo', ?_, ?_, fun p hp => hq p (by omega)⟩
      · show f_X4_merge_5 _ _ _ _ _ _ _ _ _ = _
        unfold f_X4_merge_5
        rw [if_pos (nI_le c1 (by omega))]
      · show f_X7_merge_7 _ _ _ _ _ _ _ _ _ = _
        unfold f_X7_merge_7
        rw [if_pos (nI_le c1 (by omega))]
    · have c1' : ¬ nI to ≤ nI i := nI_ge (by omega) (by omega)
      have upd_ok : ∀ v : Int64, kcn k v → ∀ p, p < i + 1 → vp_updL me i v p = vp_updL mo' i v p ∧ kcn k (vp_updL me i v p) := by
        intro v hv p hp
        by_cases e : p = i
        · subst e
          rw [updL_at, updL_at]; exact ⟨rfl, hv⟩
        · rw [updL_ne e, updL_ne e]; exact hq p (by omega)
      -- the left one is taken
      have left : l < mid → f_X4_merge_L16 k way (nI mid) (nI to) (n + 1) (f, be, me) (nI l) (nI r) (nI i) = f_X4_merge_1 (1 : Int32) (f_X4_merge_L16 k way (nI mid) (nI to) n) (f, be, me) (nI i) (nI r) (nI l) → f_X7_merge_L10 k way (nI mid) (nI to) (n + 1) (mset_o M mo') (nI l) (nI r) (nI i) = f_X7_merge_3 (0 : Int32) (f_X7_merge_L10 k way (nI mid) (nI to) n) (mset_o M mo') (nI i) (nI l) (nI r) → ∃ me2 mo2, f_X4_merge_L16 k way (nI mid) (nI to) (n + 1) (f, be, me) (nI l) (nI r) (nI i) = (f, be, me2) ∧ f_X7_merge_L10 k way (nI mid) (nI to) (n + 1) (mset_o M mo') (nI l) (nI r) (nI i) = mset_o M mo2 ∧ ∀ p, p < to → me2 p = mo2 p ∧ kcn k (me2 p) := by
        intro hl e1 e2
        obtain ⟨w1, w2⟩ := hf l (by omega)
        obtain ⟨me2, mo2, g1, g2, g3⟩ := ih (l + 1) r (i + 1) (vp_updL me i (f l)) (vp_updL mo' i (f l)) (by omega) (by omega) h3 h4 (by omega) (upd_ok (f l) w2)
        refine ⟨me2, mo2, ?_, ?_, g3⟩
        · rw [e1]
          unfold f_X4_merge_1
          rw [if_neg n10, nI_1, nI_1, nIc (show i ≤ 600 by omega), nIc (show l ≤ 600 by omega)]
          exact g1
        · rw [e2]
          unfold f_X7_merge_3 f_X7_merge_2 f_X7_merge_1
          rw [if_pos (Eq.refl (0 : Int32)), if_pos (Eq.refl (0 : Int32)), nI_1, nI_1, nIc (show i ≤ 600 by omega), nIc (show l ≤ 600 by omega)]
          show f_X7_merge_L10 k way (nI mid) (nI to) n (mset_o M (vp_updL mo' i (mw M l))) (nI (l + 1)) (nI r) (nI (i + 1)) = _
          rw [w1]
          exact g2
      have right : r < to → f_X4_merge_L16 k way (nI mid) (nI to) (n + 1) (f, be, me) (nI l) (nI r) (nI i) = f_X4_merge_1 (0 : Int32) (f_X4_merge_L16 k way (nI mid) (nI to) n) (f, be, me) (nI i) (nI r) (nI l) → f_X7_merge_L10 k way (nI mid) (nI to) (n + 1) (mset_o M mo') (nI l) (nI r) (nI i) = f_X7_merge_3 (1 : Int32) (f_X7_merge_L10 k way (nI mid) (nI to) n) (mset_o M mo') (nI i) (nI l) (nI r) → ∃ me2 mo2, f_X4_merge_L16 k way (nI mid) (nI to) (n + 1) (f, be, me) (nI l) (nI r) (nI i) = (f, be, me2) ∧ f_X7_merge_L10 k way (nI mid) (nI to) (n + 1) (mset_o M mo') (nI l) (nI r) (nI i) = mset_o M mo2 ∧ ∀ p, p < to → me2 p = mo2 p ∧ kcn k (me2 p) := by
        intro hr e1 e2
        obtain ⟨w1, w2⟩ := hf r (by omega)
        obtain ⟨me2, mo2, g1, g2, g3⟩ := ih l (r + 1) (i + 1) (vp_updL me i (f r)) (vp_updL mo' i (f r)) (by omega) h2 (by omega) (by omega) (by omega) (upd_ok (f r) w2)
        refine ⟨me2, mo2, ?_, ?_, g3⟩
        · rw [e1]
          unfold f_X4_merge_1
          rw [if_pos (Eq.refl (0 : Int32)), nI_1, nI_1, nIc (show i ≤ 600 by omega), nIc (show r ≤ 600 by omega)]
          exact g1
        · rw [e2]
          unfold f_X7_merge_3 f_X7_merge_2 f_X7_merge_1
          rw [if_neg n10, if_neg n10, nI_1, nI_1, nIc (show i ≤ 600 by omega), nIc (show r ≤ 600 by omega)]
          show f_X7_merge_L10 k way (nI mid) (nI to) n (mset_o M (vp_updL mo' i (mw M r))) (nI l) (nI (r + 1)) (nI (i + 1)) = _
          rw [w1]
          exact g2
      by_cases c2 : to ≤ r
      · have hl : l < mid := by omega
        have c2' : nI to ≤ nI r := nI_le c2 (by omega)
        have c3' : ¬ nI l = nI mid := fun e => by have := (nI_eqI (by omega) (by omega)).mp e; omega
        refine left hl ?_ ?_
        · show f_X4_merge_5 _ _ _ _ _ _ _ _ _ = _
          unfold f_X4_merge_5 f_X4_merge_4
          rw [if_neg c1', if_pos c2']
        · show f_X7_merge_7 _ _ _ _ _ _ _ _ _ = _
          unfold f_X7_merge_7 f_X7_merge_6 f_X7_merge_5
          rw [if_neg c1', if_neg c3', if_pos c2']
      · have c2' : ¬ nI to ≤ nI r := nI_ge (by omega) (by omega)
        by_cases c3 : mid ≤ l
        · have hlm : l = mid := by omega
          refine right (by omega) ?_ ?_
          · show f_X4_merge_5 _ _ _ _ _ _ _ _ _ = _
            unfold f_X4_merge_5 f_X4_merge_4 f_X4_merge_3
            rw [if_neg c1', if_neg c2', if_pos (nI_le c3 (by omega))]
          · show f_X7_merge_7 _ _ _ _ _ _ _ _ _ = _
            unfold f_X7_merge_7 f_X7_merge_6
            rw [if_neg c1', if_pos (by rw [hlm])]
        · have hl : l < mid := by omega
          have c3' : ¬ nI mid ≤ nI l := nI_ge hl (by omega)
          have c4' : ¬ nI l = nI mid := fun e => by have := (nI_eqI (by omega) (by omega)).mp e; omega
          obtain ⟨w1, w2⟩ := hf l (by omega)
          obtain ⟨v1, v2⟩ := hf r (by omega)
          have hb := behind_eq hk w2 v2 hway
          have e1 : f_X4_merge_L16 k way (nI mid) (nI to) (n + 1) (f, be, me) (nI l) (nI r) (nI i) = if f_X4_rank k way (f r) < f_X4_rank k way (f l) then f_X4_merge_1 (0 : Int32) (f_X4_merge_L16 k way (nI mid) (nI to) n) (f, be, me) (nI i) (nI r) (nI l) else f_X4_merge_1 (1 : Int32) (f_X4_merge_L16 k way (nI mid) (nI to) n) (f, be, me) (nI i) (nI r) (nI l) := by
            show f_X4_merge_5 _ _ _ _ _ _ _ _ _ = _
            unfold f_X4_merge_5 f_X4_merge_4 f_X4_merge_3 f_X4_merge_2
            rw [if_neg c1', if_neg c2', if_neg c3', nIc (show l ≤ 600 by omega), nIc (show r ≤ 600 by omega)]
          have e2 : f_X7_merge_L10 k way (nI mid) (nI to) (n + 1) (mset_o M mo') (nI l) (nI r) (nI i) = if f_X7_behind k way (f l) (f r) = 0 then f_X7_merge_3 (0 : Int32) (f_X7_merge_L10 k way (nI mid) (nI to) n) (mset_o M mo') (nI i) (nI l) (nI r) else f_X7_merge_3 (1 : Int32) (f_X7_merge_L10 k way (nI mid) (nI to) n) (mset_o M mo') (nI i) (nI l) (nI r) := by
            show f_X7_merge_7 _ _ _ _ _ _ _ _ _ = _
            unfold f_X7_merge_7 f_X7_merge_6 f_X7_merge_5 f_X7_merge_4
            rw [if_neg c1', if_neg c4', if_neg c2', nIc (show l ≤ 600 by omega), nIc (show r ≤ 600 by omega), ← w1, ← v1]
          by_cases c5 : f_X4_rank k way (f r) < f_X4_rank k way (f l)
          · rw [if_pos c5] at e1
            rw [if_neg (fun e => hb.mp e c5)] at e2
            exact right (by omega) e1 e2
          · rw [if_neg c5] at e1
            rw [if_pos (hb.mpr c5)] at e2
            exact left hl e1 e2
/-- one pass of merges -/
theorem pass_run (hk : k < 2) (hway : way = 0 ∨ way = 1 ∨ way = 2) (hw1 : 1 ≤ w) (hw : w ≤ 500) {x1 : Int32} {S2 : MSt} (hS2 : mk S2 x1.toNatClampNeg = k) {wd : Nat} (hwd : 1 ≤ wd ∧ wd < 1024) {rec1 : SSt → Int32 → (Int32 × SSt)} {rec2 : MSt → Int32 → (Int32 × MSt)} (hf : ∀ p, p < w → mw M p = f p ∧ kcn k (f p)) : ∀ (n i : Nat) (me mo' : Nat → Int64), 1 ≤ n → w + 1 ≤ i + n → i ≤ 3000 → (∀ p, p < i → p < w → me p = mo' p ∧ kcn k (me p)) → ∃ me2 mo2, f_X4_reorder_L34 k w way (nI w) (nI wd) rec1 n (f, be, me) (nI i) = rec1 (va_cpy me2 f 0 0 w, be, me2) (nI wd * (2 : Int32)) ∧ f_X7_sort_L104 x1 way S2 (nI w) (nI wd) rec2 n (mset_o M mo') (nI i) = f_X7_sort_L179 (nI w) (nI wd) rec2 501 (mset_o M mo2) (0 : Int32) ∧ ∀ p, p < w → me2 p = mo2 p ∧ kcn k (me2 p) := by
  intro n
  induction n with
  | zero => intro i me mo' h1; omega
  | succ n ih =>
    intro i me mo' h1 h2 h3 hq
    by_cases c1 : w ≤ i
    · have c1' : nI w ≤ nI i := nI_le c1 (by omega)
      refine ⟨me, mo', ?_, ?_, fun p hp => hq p (by omega) hp⟩
      · show f_X4_reorder_1 _ _ _ _ _ _ _ _ _ = _
        unfold f_X4_reorder_1
        rw [if_pos c1', show (0 : Int32).toNatClampNeg = 0 by decide, nIc (show w ≤ 600 by omega)]
      · show f_X7_sort_10 _ _ _ _ _ _ _ _ _ = _
        unfold f_X7_sort_10
        rw [if_pos c1']
    · have c1' : ¬ nI w ≤ nI i := nI_ge (by omega) (by omega)
      obtain ⟨me1, mo1, g1, g2, g3⟩ := merge_run (be := be) (mid := min (i + wd) w) (to := min (i + 2 * wd) w) hk hway (by omega) (by omega) hw hf 501 i (min (i + wd) w) i me mo' (by omega) (by omega) (Nat.le_refl _) (by omega) (by omega) (fun p hp => hq p hp (by omega))
      obtain ⟨me2, mo2, k1, k2, k3⟩ := ih (i + 2 * wd) me1 mo1 (by omega) (by omega) (by omega) (fun p hp hpw => g3 p (by omega))
      refine ⟨me2, mo2, ?_, ?_, k3⟩
      · show f_X4_reorder_1 _ _ _ _ _ _ _ _ _ = _
        unfold f_X4_reorder_1 f_X4_merge
        rw [if_neg c1', two_mul_nI, nI_add, nI_add, jminI_nI (by omega) (by omega), jminI_nI (by omega) (by omega), g1]
        exact k1
      · show f_X7_sort_10 _ _ _ _ _ _ _ _ _ = _
        unfold f_X7_sort_10 f_X7_sort_9 f_X7_sort_8 f_X7_sort_7 f_X7_merge
        rw [if_neg c1', two_mul_nI, nI_add, nI_add, hS2]
        have fin : ∀ a b : Int32, a = nI (min (i + wd) w) → b = nI (min (i + 2 * wd) w) → f_X7_sort_L104 x1 way S2 (nI w) (nI wd) rec2 n (f_X7_merge_L10 k way a b 501 (mset_o M mo') (nI i) a (nI i)) (nI (i + 2 * wd)) = f_X7_sort_L179 (nI w) (nI wd) rec2 501 (mset_o M mo2) (0 : Int32) := by
          intro a b ha hb
          rw [ha, hb, g2]
          exact k2
        by_cases d1 : w ≤ i + wd
        · rw [if_pos (nI_le d1 (by omega))]
          by_cases d2 : w ≤ i + 2 * wd
          · rw [if_pos (nI_le d2 (by omega))]
            exact fin _ _ (by rw [show min (i + wd) w = w by omega]) (by rw [show min (i + 2 * wd) w = w by omega])
          · rw [if_neg (nI_ge (by omega) (by omega))]
            exact fin _ _ (by rw [show min (i + wd) w = w by omega]) (by rw [show min (i + 2 * wd) w = i + 2 * wd by omega])
        · rw [if_neg (nI_ge (by omega) (by omega))]
          by_cases d2 : w ≤ i + 2 * wd
          · rw [if_pos (nI_le d2 (by omega))]
            exact fin _ _ (by rw [show min (i + wd) w = i + wd by omega]) (by rw [show min (i + 2 * wd) w = w by omega])
          · rw [if_neg (nI_ge (by omega) (by omega))]
            exact fin _ _ (by rw [show min (i + wd) w = i + wd by omega]) (by rw [show min (i + 2 * wd) w = i + 2 * wd by omega])
/-- the other row put back into the work row -/
theorem copy_run (hw : w ≤ 500) {wd : Int32} {rec2 : MSt → Int32 → (Int32 × MSt)} : ∀ (n i : Nat) (W : Nat → Int64), 501 ≤ i + n → i ≤ w → (∀ p, p < i → W p = mo M p) → ∃ W2, f_X7_sort_L179 (nI w) wd rec2 n (mset_w M W) (nI i) = rec2 (mset_w M W2) (wd * (2 : Int32)) ∧ ∀ p, p < w → W2 p = mo M p := by
  intro n
  induction n with
  | zero => intro i W h1 h2; omega
  | succ n ih =>
    intro i W h1 h2 hq
    by_cases c1 : w ≤ i
    · refine ⟨W, ?_, fun p hp => hq p (by omega)⟩
      show f_X7_sort_5 _ _ _ _ _ _ = _
      unfold f_X7_sort_5
      rw [if_pos (nI_le c1 (by omega))]
    · obtain ⟨W2, g1, g2⟩ := ih (i + 1) (vp_updL W i (mo M i)) (by omega) (by omega) (fun p hp => by
        by_cases e : p = i
        · subst e; rw [updL_at]
        · rw [updL_ne e]; exact hq p (by omega))
      refine ⟨W2, ?_, g2⟩
      show f_X7_sort_5 _ _ _ _ _ _ = _
      unfold f_X7_sort_5
      rw [if_neg (nI_ge (by omega) (by omega)), nI_1, nIc (show i ≤ 600 by omega)]
      exact g1
/-- all passes -/
theorem outer_run (hk : k < 2) (hway : way = 0 ∨ way = 1 ∨ way = 2) (hw1 : 1 ≤ w) (hw : w ≤ 500) {x1 : Int32} {S2 : MSt} (hS2 : mk S2 x1.toNatClampNeg = k) : ∀ (n wd : Nat) (f me : Nat → Int64) (M : MSt), 1 ≤ wd → wd < 1024 → 1024 ≤ wd * 2 ^ n → (∀ p, p < w → mw M p = f p ∧ kcn k (f p)) → ∃ f2 me2 W2 mo2, f_X4_reorder_L24 k w way (nI w) n (f, be, me) (nI wd) = (f_X4_changed w f2 be, (f2, be, me2)) ∧ f_X7_sort_L94 x1 way S2 (nI w) n M (nI wd) = f_X7_sort_L221 x1 (nI w) 501 (mset_w (mset_o M mo2) W2) (0 : Int32) (0 : Int32) ∧ ∀ p, p < w → W2 p = f2 p ∧ kcn k (f2 p) := by
  intro n
  induction n with
  | zero => intro wd f me M h1 h2 h3; rw [Nat.pow_zero] at h3; omega
  | succ n ih =>
    intro wd f me M h1 h2 h3 hf
    by_cases c1 : w ≤ wd
    · refine ⟨f, me, mw M, mo M, ?_, ?_, hf⟩
      · show f_X4_reorder_3 _ _ _ _ _ _ _ = _
        unfold f_X4_reorder_3
        rw [if_pos (nI_le c1 (by omega))]
      · show f_X7_sort_12 _ _ _ _ _ _ _ = _
        unfold f_X7_sort_12
        rw [if_pos (nI_le c1 (by omega))]
    · obtain ⟨me1, mo1, g1, g2, g3⟩ := pass_run (be := be) (rec1 := f_X4_reorder_L24 k w way (nI w) n) (rec2 := f_X7_sort_L94 x1 way S2 (nI w) n) hk hway hw1 hw hS2 ⟨h1, h2⟩ hf 502 0 me (mo M) (by omega) (by omega) (by omega) (fun p hp => absurd hp (Nat.not_lt_zero p))
      obtain ⟨W1, k1, k2⟩ := copy_run (M := mset_o M mo1) (wd := nI wd) (rec2 := f_X7_sort_L94 x1 way S2 (nI w) n) hw 501 0 (mw M) (by omega) (Nat.zero_le _) (fun p hp => absurd hp (Nat.not_lt_zero p))
      have hd : nI wd * (2 : Int32) = nI (2 * wd) := by rw [Int32.mul_comm, two_mul_nI]
      have hcp : ∀ p, p < w → va_cpy me1 f 0 0 w p = me1 p := by
        intro p hp
        unfold va_cpy
        rw [if_pos (by omega)]
        congr 1
        omega
      obtain ⟨f2, me2, W2, mo2, l1, l2, l3⟩ := ih (2 * wd) (va_cpy me1 f 0 0 w) me1 (mset_w (mset_o M mo1) W1) (by omega) (by omega) (by
        rw [Nat.pow_succ] at h3
        rw [Nat.mul_comm 2 wd, Nat.mul_assoc, Nat.mul_comm 2]
        exact h3) (fun p hp => by
        rw [hcp p hp]
        obtain ⟨q1, q2⟩ := g3 p hp
        refine ⟨?_, q2⟩
        show W1 p = me1 p
        rw [k2 p hp, q1])
      refine ⟨f2, me2, W2, mo2, ?_, ?_, l3⟩
      · show f_X4_reorder_3 _ _ _ _ _ _ _ = _
        unfold f_X4_reorder_3
        rw [if_neg (nI_ge (by omega) (by omega))]
        have g1' : f_X4_reorder_L34 k w way (nI w) (nI wd) (f_X4_reorder_L24 k w way (nI w) n) 502 (f, be, me) (0 : Int32) = _ := g1
        rw [g1', hd]
        exact l1
      · show f_X7_sort_12 _ _ _ _ _ _ _ = _
        unfold f_X7_sort_12
        rw [if_neg (nI_ge (by omega) (by omega))]
        have g2' : f_X7_sort_L104 x1 way S2 (nI w) (nI wd) (f_X7_sort_L94 x1 way S2 (nI w) n) 502 M (0 : Int32) = _ := g2
        have k1' : f_X7_sort_L179 (nI w) (nI wd) (f_X7_sort_L94 x1 way S2 (nI w) n) 501 (mset_o M mo1) (0 : Int32) = _ := k1
        rw [g2', k1', hd]
        exact l2
/-- the row copied to the work row -/
theorem fill_run (hw : w ≤ 500) {x1 : Int32} {S2 : MSt} (ha : ∀ p, p < w → f_X7_at M x1 (nI p) = f p) : ∀ (n i : Nat) (W : Nat → Int64), 501 ≤ i + n → i ≤ w → (∀ p, p < i → W p = f p) → ∃ W2, f_X7_sort_L64 x1 way S2 (nI w) n (mset_w M W) (nI i) = f_X7_sort_L94 x1 way S2 (nI w) 10 (mset_w M W2) (1 : Int32) ∧ ∀ p, p < w → W2 p = f p := by
  intro n
  induction n with
  | zero => intro i W h1 h2; omega
  | succ n ih =>
    intro i W h1 h2 hq
    by_cases c1 : w ≤ i
    · refine ⟨W, ?_, fun p hp => hq p (by omega)⟩
      show f_X7_sort_14 _ _ _ _ _ _ _ = _
      unfold f_X7_sort_14
      rw [if_pos (nI_le c1 (by omega))]
    · obtain ⟨W2, g1, g2⟩ := ih (i + 1) (vp_updL W i (f i)) (by omega) (by omega) (fun p hp => by
        by_cases e : p = i
        · subst e; rw [updL_at]
        · rw [updL_ne e]; exact hq p (by omega))
      refine ⟨W2, ?_, g2⟩
      have e : f_X7_at (mset_w M W) x1 (nI i) = f i := ha i (by omega)
      show f_X7_sort_14 _ _ _ _ _ _ _ = _
      unfold f_X7_sort_14
      rw [if_neg (nI_ge (by omega) (by omega)), nI_1, nIc (show i ≤ 600 by omega), e]
      exact g1
/-- the work row written back, and counted -/
theorem back_run (hw : w ≤ 500) {x1 : Int32} {b0 : Nat} (hidx : ∀ p, p < w → ((nI (mf M x1.toNatClampNeg)) + nI p).toNatClampNeg = b0 + p) (hf : ∀ p, p < w → mw M p = f p) : ∀ (n i : Nat) (c : Int32) (B : Nat → Int64), 501 ≤ i + n → i ≤ w → (∀ p, p < i → B (b0 + p) = f p) → (∀ p, i ≤ p → p < w → B (b0 + p) = be p) → (∀ q, q < b0 ∨ b0 + w ≤ q → B q = mb M q) → ∃ B2, f_X7_sort_L221 x1 (nI w) n (mset_b M B) c (nI i) = (f_X4_changed_L4 w f be n c (nI i), mset_b M B2) ∧ (∀ p, p < w → B2 (b0 + p) = f p) ∧ ∀ q, q < b0 ∨ b0 + w ≤ q → B2 q = mb M q := by
  intro n
  induction n with
  | zero => intro i c B h1 h2; omega
  | succ n ih =>
    intro i c B h1 h2 hq1 hq2 hq3
    by_cases c1 : w ≤ i
    · refine ⟨B, ?_, fun p hp => hq1 p (by omega), hq3⟩
      show f_X7_sort_3 _ _ _ _ _ _ = (f_X4_changed_2 _ _ _ _ _ _, _)
      unfold f_X7_sort_3 f_X4_changed_2
      rw [if_pos (nI_le c1 (by omega)), if_pos (nI_le c1 (by omega))]
    · have c1' : ¬ nI w ≤ nI i := nI_ge (by omega) (by omega)
      have hat : f_X7_at (mset_b M B) x1 (nI i) = be i := by
        show B ((nI (mf M x1.toNatClampNeg)) + nI i).toNatClampNeg = _
        rw [hidx i (by omega)]
        exact hq2 i (Nat.le_refl i) (by omega)
      have step : ∀ c : Int32, ∃ B2, f_X7_sort_1 (f_X7_sort_L221 x1 (nI w) n) (mset_b M B) x1 (nI i) c = (f_X4_changed_L4 w f be n c (nI i + 1), mset_b M B2) ∧ (∀ p, p < w → B2 (b0 + p) = f p) ∧ ∀ q, q < b0 ∨ b0 + w ≤ q → B2 q = mb M q := by
        intro c
        obtain ⟨B2, g1, g2, g3⟩ := ih (i + 1) c (vp_updL B (b0 + i) (f i)) (by omega) (by omega) (fun p hp => by
          by_cases e : p = i
          · subst e; rw [updL_at]
          · rw [updL_ne (by omega)]; exact hq1 p (by omega)) (fun p hp hpw => by
          rw [updL_ne (by omega)]; exact hq2 p (by omega) hpw) (fun q hq => by
          rw [updL_ne (by omega)]; exact hq3 q hq)
        refine ⟨B2, ?_, g2, g3⟩
        unfold f_X7_sort_1
        rw [nI_1]
        show f_X7_sort_L221 x1 (nI w) n (mset_b M (vp_updL B ((nI (mf M x1.toNatClampNeg)) + nI i).toNatClampNeg (mw M (nI i).toNatClampNeg))) c (nI (i + 1)) = _
        rw [hidx i (by omega), nIc (show i ≤ 600 by omega), hf i (by omega)]
        exact g1
      have hm : mw (mset_b M B) (nI i).toNatClampNeg = f i := by
        rw [nIc (show i ≤ 600 by omega)]
        exact hf i (by omega)
      by_cases c2 : f i = be i
      · obtain ⟨B2, g1, g2, g3⟩ := step c
        refine ⟨B2, ?_, g2, g3⟩
        show f_X7_sort_3 _ _ _ _ _ _ = (f_X4_changed_2 _ _ _ _ _ _, _)
        unfold f_X7_sort_3 f_X7_sort_2 f_X4_changed_2 f_X4_changed_1
        rw [if_neg c1', if_neg c1', hat, hm, if_pos c2, nIc (show i ≤ 600 by omega), if_pos c2]
        exact g1
      · obtain ⟨B2, g1, g2, g3⟩ := step (c + 1)
        refine ⟨B2, ?_, g2, g3⟩
        show f_X7_sort_3 _ _ _ _ _ _ = (f_X4_changed_2 _ _ _ _ _ _, _)
        unfold f_X7_sort_3 f_X7_sort_2 f_X4_changed_2 f_X4_changed_1
        rw [if_neg c1', if_neg c1', hat, hm, if_neg c2, nIc (show i ≤ 600 by omega), if_neg c2]
        exact g1
theorem R_sort (h : Rel S M) (x1 : Int32) (x2 : Int32) : R2i (f_X6_sort S x1 x2) (f_X7_sort M x1 x2) := by
  unfold f_X6_sort f_X6_sort_6 f_X6_sort_5 f_X6_sort_4 f_X7_sort f_X7_sort_22 f_X7_sort_21 f_X7_sort_20 f_X7_sort_19
  have ref : ∀ v : Int32, ¬ v ≤ 0 → R2i (f_X6_refuse S v) (f_X7_sort_18 v x1 x2 M) := by
    intro v hv
    unfold f_X7_sort_18
    rw [if_neg hv]
    exact ref_R h v
  rcases row_split h x1 with ⟨r1, r2, r3⟩ | ⟨j, hj, rfl, r1, r2, r3⟩
  · rw [if_neg r1]
    rcases r3 with r3 | ⟨r3, r4⟩
    · rw [if_pos r3]; exact ref 1 nle10
    · rw [if_neg r3, if_neg r4]; exact ref 1 nle10
  · rw [if_pos r1, if_neg r2, if_pos r3]
    by_cases c1 : x2 < 0
    · rw [if_pos c1, if_pos c1]; exact ref 2 nle20
    · rw [if_neg c1, if_neg c1]
      by_cases c2 : x2 ≤ (2 : Int32)
      · rw [if_pos c2, if_pos c2, h.j64 hj]
        have hk := h.kd hj
        have hl := h.ln hj
        have t := h.top hj
        have hway : x2 = 0 ∨ x2 = 1 ∨ x2 = 2 := by
          obtain ⟨m, hm, rfl⟩ := nI_of c1
          rw [Int32.le_iff_toInt_le, nI_toInt hm, show (2 : Int32).toInt = 2 by decide] at c2
          rcases (by omega : m = 0 ∨ m = 1 ∨ m = 2) with rfl | rfl | rfl
          · exact Or.inl rfl
          · exact Or.inr (Or.inl rfl)
          · exact Or.inr (Or.inr rfl)
        have em : mk (mset_s M 0) (nI j).toNatClampNeg = ckd S j := by rw [h.j64 hj, hk.1]
        -- the reference
        obtain ⟨W0, a1, a2⟩ := fill_run (M := mset_s M 0) (f := cbt S j) (way := x2) (S2 := mset_s M 0) hl.2.2 (x1 := nI j) (fun p hp => h.at_ hj hp) 501 0 (mw M) (by omega) (Nat.zero_le _) (fun p hp => absurd hp (Nat.not_lt_zero p))
        obtain ⟨f2, me2, W2, mo2, b1, b2, b3⟩ := outer_run (be := va_cpy (cbt S j) (cbe S) 0 0 (cln S j)) (x1 := nI j) (S2 := mset_s M 0) hk.2 hway hl.2.1 hl.2.2 em 10 1 (cbt S j) (cme S) (mset_w (mset_s M 0) W0) (by omega) (by omega) (by decide) (fun p hp => ⟨a2 p hp, (h.bt hj hp).2⟩)
        have hbe : ∀ p, p < cln S j → va_cpy (cbt S j) (cbe S) 0 0 (cln S j) p = cbt S j p := by
          intro p hp
          unfold va_cpy
          rw [if_pos (by omega)]
          congr 1
          omega
        obtain ⟨B2, d1, d2, d3⟩ := back_run (M := mset_w (mset_o (mset_w (mset_s M 0) W0) mo2) W2) (f := f2) (be := va_cpy (cbt S j) (cbe S) 0 0 (cln S j)) (x1 := nI j) (b0 := mf M j) hl.2.2 (fun p hp => h.idx hj hp) (fun p hp => (b3 p hp).1) 501 0 0 (mb M) (by omega) (Nat.zero_le _) (fun p hp => absurd hp (Nat.not_lt_zero p)) (fun p _ hp => by rw [hbe p hp]; exact (h.bt hj hp).1.symm) (fun q _ => rfl)
        have eref : f_X7_sort_18 (0 : Int32) (nI j) x2 M = (f_X4_changed_L4 (cln S j) f2 (va_cpy (cbt S j) (cbe S) 0 0 (cln S j)) 501 (0 : Int32) (nI 0), mset_b (mset_w (mset_o (mset_w (mset_s M 0) W0) mo2) W2) B2) := by
          unfold f_X7_sort_18 f_X7_sort_16
          have es : f_X7_size (mset_s M 0) (nI j) = nI (cln S j) := h.size hj
          rw [if_pos le00, es]
          have a1' : f_X7_sort_L64 (nI j) x2 (mset_s M 0) (nI (cln S j)) 501 (mset_s M 0) (0 : Int32) = _ := a1
          have b2' : f_X7_sort_L94 (nI j) x2 (mset_s M 0) (nI (cln S j)) 10 (mset_w (mset_s M 0) W0) (1 : Int32) = _ := b2
          rw [a1', b2']
          exact d1
        rw [eref]
        unfold f_X6_sort_3 f_X4_reorder f_X4_reorder_5
        have ecls : f_X4_reorder_L24 (ckd S j) (cln S j) x2 (nI (cln S j)) 10 (sset_b (cSo S j) (va_cpy (sf (cSo S j)) (sb (cSo S j)) (0 : Int32).toNatClampNeg (0 : Int32).toNatClampNeg (nI (cln S j)).toNatClampNeg)) (1 : Int32) = (f_X4_changed (cln S j) f2 (va_cpy (cbt S j) (cbe S) 0 0 (cln S j)), (f2, va_cpy (cbt S j) (cbe S) 0 0 (cln S j), me2)) := by
          rw [show (0 : Int32).toNatClampNeg = 0 by decide, nIc (show cln S j ≤ 600 by omega)]
          exact b1
        rw [ecls, h.j64 hj]
        refine ⟨rfl, ?_⟩
        show Rel (cset_rs (cset_so S j (f2, va_cpy (cbt S j) (cbe S) 0 0 (cln S j), me2)) 0) (mset_b (mset_w (mset_o (mset_w (mset_s M 0) W0) mo2) W2) B2)
        refine h.gen hj (f := f2) rfl rfl rfl rfl rfl rfl rfl rfl rfl ?_ ?_
        · intro q hq
          exact ⟨(d2 q hq).symm, (b3 q hq).2⟩
        · intro q hq
          exact d3 q (by omega)
      · rw [if_neg c2, if_neg c2]; exact ref 2 nle20
end SORT
