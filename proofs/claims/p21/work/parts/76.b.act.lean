-- the fourteen acts
section ACT
variable {k : Nat} {s t : Bool} {u v : Nat} {x y : Int64}
theorem ac_0 : f_X2_acted_14 k (0 : Int32) x y = f_X1_magnitude k x := by
  unfold f_X2_acted_14
  rw [if_pos (Eq.refl (0 : Int32))]
theorem mc_0 : f_X7_result k (0 : Int32) x y = f_X7_result_1 k x := by
  unfold f_X7_result f_X7_result_19
  rw [if_pos (Eq.refl (0 : Int32))]
theorem ac_1 : f_X2_acted_14 k (1 : Int32) x y = f_X1_greater k x y := by
  unfold f_X2_acted_14 f_X2_acted_13
  rw [if_neg (show ¬ (1 : Int32) = (0 : Int32) by decide), if_pos (Eq.refl (1 : Int32))]
theorem mc_1 : f_X7_result k (1 : Int32) x y = f_X7_greater k x y := by
  unfold f_X7_result f_X7_result_19 f_X7_result_18
  rw [if_neg (show ¬ (1 : Int32) = (0 : Int32) by decide), if_pos (Eq.refl (1 : Int32))]
theorem ac_2 : f_X2_acted_14 k (2 : Int32) x y = f_X1_lesser k x y := by
  unfold f_X2_acted_14 f_X2_acted_13 f_X2_acted_12
  rw [if_neg (show ¬ (2 : Int32) = (0 : Int32) by decide), if_neg (show ¬ (2 : Int32) = (1 : Int32) by decide), if_pos (Eq.refl (2 : Int32))]
theorem mc_2 : f_X7_result k (2 : Int32) x y = f_X7_lesser k x y := by
  unfold f_X7_result f_X7_result_19 f_X7_result_18 f_X7_result_17
  rw [if_neg (show ¬ (2 : Int32) = (0 : Int32) by decide), if_neg (show ¬ (2 : Int32) = (1 : Int32) by decide), if_pos (Eq.refl (2 : Int32))]
theorem ac_3 : f_X2_acted_14 k (3 : Int32) x y = f_X2_toWhole k x (3 : Int32) := by
  unfold f_X2_acted_14 f_X2_acted_13 f_X2_acted_12 f_X2_acted_11
  rw [if_neg (show ¬ (3 : Int32) = (0 : Int32) by decide), if_neg (show ¬ (3 : Int32) = (1 : Int32) by decide), if_neg (show ¬ (3 : Int32) = (2 : Int32) by decide), if_pos (Eq.refl (3 : Int32))]
theorem mc_3 : f_X7_result k (3 : Int32) x y = f_X7_wholeOf k x (3 : Int32) := by
  unfold f_X7_result f_X7_result_19 f_X7_result_18 f_X7_result_17 f_X7_result_16
  rw [if_neg (show ¬ (3 : Int32) = (0 : Int32) by decide), if_neg (show ¬ (3 : Int32) = (1 : Int32) by decide), if_neg (show ¬ (3 : Int32) = (2 : Int32) by decide), if_pos (Eq.refl (3 : Int32))]
theorem ac_4 : f_X2_acted_14 k (4 : Int32) x y = f_X2_toWhole k x (4 : Int32) := by
  unfold f_X2_acted_14 f_X2_acted_13 f_X2_acted_12 f_X2_acted_11 f_X2_acted_10
  rw [if_neg (show ¬ (4 : Int32) = (0 : Int32) by decide), if_neg (show ¬ (4 : Int32) = (1 : Int32) by decide), if_neg (show ¬ (4 : Int32) = (2 : Int32) by decide), if_neg (show ¬ (4 : Int32) = (3 : Int32) by decide), if_pos (Eq.refl (4 : Int32))]
theorem mc_4 : f_X7_result k (4 : Int32) x y = f_X7_wholeOf k x (4 : Int32) := by
  unfold f_X7_result f_X7_result_19 f_X7_result_18 f_X7_result_17 f_X7_result_16 f_X7_result_15
  rw [if_neg (show ¬ (4 : Int32) = (0 : Int32) by decide), if_neg (show ¬ (4 : Int32) = (1 : Int32) by decide), if_neg (show ¬ (4 : Int32) = (2 : Int32) by decide), if_neg (show ¬ (4 : Int32) = (3 : Int32) by decide), if_pos (Eq.refl (4 : Int32))]
theorem ac_5 : f_X2_acted_14 k (5 : Int32) x y = f_X2_toWhole k x (5 : Int32) := by
  unfold f_X2_acted_14 f_X2_acted_13 f_X2_acted_12 f_X2_acted_11 f_X2_acted_10 f_X2_acted_9
  rw [if_neg (show ¬ (5 : Int32) = (0 : Int32) by decide), if_neg (show ¬ (5 : Int32) = (1 : Int32) by decide), if_neg (show ¬ (5 : Int32) = (2 : Int32) by decide), if_neg (show ¬ (5 : Int32) = (3 : Int32) by decide), if_neg (show ¬ (5 : Int32) = (4 : Int32) by decide), if_pos (Eq.refl (5 : Int32))]
theorem mc_5 : f_X7_result k (5 : Int32) x y = f_X7_wholeOf k x (5 : Int32) := by
  unfold f_X7_result f_X7_result_19 f_X7_result_18 f_X7_result_17 f_X7_result_16 f_X7_result_15 f_X7_result_14
  rw [if_neg (show ¬ (5 : Int32) = (0 : Int32) by decide), if_neg (show ¬ (5 : Int32) = (1 : Int32) by decide), if_neg (show ¬ (5 : Int32) = (2 : Int32) by decide), if_neg (show ¬ (5 : Int32) = (3 : Int32) by decide), if_neg (show ¬ (5 : Int32) = (4 : Int32) by decide), if_pos (Eq.refl (5 : Int32))]
theorem ac_6 : f_X2_acted_14 k (6 : Int32) x y = f_X2_acted_1 k x := by
  unfold f_X2_acted_14 f_X2_acted_13 f_X2_acted_12 f_X2_acted_11 f_X2_acted_10 f_X2_acted_9 f_X2_acted_8
  rw [if_neg (show ¬ (6 : Int32) = (0 : Int32) by decide), if_neg (show ¬ (6 : Int32) = (1 : Int32) by decide), if_neg (show ¬ (6 : Int32) = (2 : Int32) by decide), if_neg (show ¬ (6 : Int32) = (3 : Int32) by decide), if_neg (show ¬ (6 : Int32) = (4 : Int32) by decide), if_neg (show ¬ (6 : Int32) = (5 : Int32) by decide), if_pos (Eq.refl (6 : Int32))]
theorem mc_6 : f_X7_result k (6 : Int32) x y = f_X7_result_3 k x := by
  unfold f_X7_result f_X7_result_19 f_X7_result_18 f_X7_result_17 f_X7_result_16 f_X7_result_15 f_X7_result_14 f_X7_result_13
  rw [if_neg (show ¬ (6 : Int32) = (0 : Int32) by decide), if_neg (show ¬ (6 : Int32) = (1 : Int32) by decide), if_neg (show ¬ (6 : Int32) = (2 : Int32) by decide), if_neg (show ¬ (6 : Int32) = (3 : Int32) by decide), if_neg (show ¬ (6 : Int32) = (4 : Int32) by decide), if_neg (show ¬ (6 : Int32) = (5 : Int32) by decide), if_pos (Eq.refl (6 : Int32))]
theorem ac_7 : f_X2_acted_14 k (7 : Int32) x y = f_X1_signed k (f_X1_isNegative k y) (f_X1_magnitude k x) := by
  unfold f_X2_acted_14 f_X2_acted_13 f_X2_acted_12 f_X2_acted_11 f_X2_acted_10 f_X2_acted_9 f_X2_acted_8 f_X2_acted_7
  rw [if_neg (show ¬ (7 : Int32) = (0 : Int32) by decide), if_neg (show ¬ (7 : Int32) = (1 : Int32) by decide), if_neg (show ¬ (7 : Int32) = (2 : Int32) by decide), if_neg (show ¬ (7 : Int32) = (3 : Int32) by decide), if_neg (show ¬ (7 : Int32) = (4 : Int32) by decide), if_neg (show ¬ (7 : Int32) = (5 : Int32) by decide), if_neg (show ¬ (7 : Int32) = (6 : Int32) by decide), if_pos (Eq.refl (7 : Int32))]
theorem mc_7 : f_X7_result k (7 : Int32) x y = f_X7_result_6 k x y := by
  unfold f_X7_result f_X7_result_19 f_X7_result_18 f_X7_result_17 f_X7_result_16 f_X7_result_15 f_X7_result_14 f_X7_result_13 f_X7_result_12
  rw [if_neg (show ¬ (7 : Int32) = (0 : Int32) by decide), if_neg (show ¬ (7 : Int32) = (1 : Int32) by decide), if_neg (show ¬ (7 : Int32) = (2 : Int32) by decide), if_neg (show ¬ (7 : Int32) = (3 : Int32) by decide), if_neg (show ¬ (7 : Int32) = (4 : Int32) by decide), if_neg (show ¬ (7 : Int32) = (5 : Int32) by decide), if_neg (show ¬ (7 : Int32) = (6 : Int32) by decide), if_pos (Eq.refl (7 : Int32))]
theorem ac_8 : f_X2_acted_14 k (8 : Int32) x y = f_X2_plus k x y := by
  unfold f_X2_acted_14 f_X2_acted_13 f_X2_acted_12 f_X2_acted_11 f_X2_acted_10 f_X2_acted_9 f_X2_acted_8 f_X2_acted_7 f_X2_acted_6
  rw [if_neg (show ¬ (8 : Int32) = (0 : Int32) by decide), if_neg (show ¬ (8 : Int32) = (1 : Int32) by decide), if_neg (show ¬ (8 : Int32) = (2 : Int32) by decide), if_neg (show ¬ (8 : Int32) = (3 : Int32) by decide), if_neg (show ¬ (8 : Int32) = (4 : Int32) by decide), if_neg (show ¬ (8 : Int32) = (5 : Int32) by decide), if_neg (show ¬ (8 : Int32) = (6 : Int32) by decide), if_neg (show ¬ (8 : Int32) = (7 : Int32) by decide), if_pos (Eq.refl (8 : Int32))]
theorem mc_8 : f_X7_result k (8 : Int32) x y = f_X7_plus k x y := by
  unfold f_X7_result f_X7_result_19 f_X7_result_18 f_X7_result_17 f_X7_result_16 f_X7_result_15 f_X7_result_14 f_X7_result_13 f_X7_result_12 f_X7_result_11
  rw [if_neg (show ¬ (8 : Int32) = (0 : Int32) by decide), if_neg (show ¬ (8 : Int32) = (1 : Int32) by decide), if_neg (show ¬ (8 : Int32) = (2 : Int32) by decide), if_neg (show ¬ (8 : Int32) = (3 : Int32) by decide), if_neg (show ¬ (8 : Int32) = (4 : Int32) by decide), if_neg (show ¬ (8 : Int32) = (5 : Int32) by decide), if_neg (show ¬ (8 : Int32) = (6 : Int32) by decide), if_neg (show ¬ (8 : Int32) = (7 : Int32) by decide), if_pos (Eq.refl (8 : Int32))]
theorem ac_9 : f_X2_acted_14 k (9 : Int32) x y = f_X2_minus k x y := by
  unfold f_X2_acted_14 f_X2_acted_13 f_X2_acted_12 f_X2_acted_11 f_X2_acted_10 f_X2_acted_9 f_X2_acted_8 f_X2_acted_7 f_X2_acted_6 f_X2_acted_5
  rw [if_neg (show ¬ (9 : Int32) = (0 : Int32) by decide), if_neg (show ¬ (9 : Int32) = (1 : Int32) by decide), if_neg (show ¬ (9 : Int32) = (2 : Int32) by decide), if_neg (show ¬ (9 : Int32) = (3 : Int32) by decide), if_neg (show ¬ (9 : Int32) = (4 : Int32) by decide), if_neg (show ¬ (9 : Int32) = (5 : Int32) by decide), if_neg (show ¬ (9 : Int32) = (6 : Int32) by decide), if_neg (show ¬ (9 : Int32) = (7 : Int32) by decide), if_neg (show ¬ (9 : Int32) = (8 : Int32) by decide), if_pos (Eq.refl (9 : Int32))]
theorem mc_9 : f_X7_result k (9 : Int32) x y = f_X7_plus k x (f_X7_turned k y) := by
  unfold f_X7_result f_X7_result_19 f_X7_result_18 f_X7_result_17 f_X7_result_16 f_X7_result_15 f_X7_result_14 f_X7_result_13 f_X7_result_12 f_X7_result_11 f_X7_result_10
  rw [if_neg (show ¬ (9 : Int32) = (0 : Int32) by decide), if_neg (show ¬ (9 : Int32) = (1 : Int32) by decide), if_neg (show ¬ (9 : Int32) = (2 : Int32) by decide), if_neg (show ¬ (9 : Int32) = (3 : Int32) by decide), if_neg (show ¬ (9 : Int32) = (4 : Int32) by decide), if_neg (show ¬ (9 : Int32) = (5 : Int32) by decide), if_neg (show ¬ (9 : Int32) = (6 : Int32) by decide), if_neg (show ¬ (9 : Int32) = (7 : Int32) by decide), if_neg (show ¬ (9 : Int32) = (8 : Int32) by decide), if_pos (Eq.refl (9 : Int32))]
theorem ac_10 : f_X2_acted_14 k (10 : Int32) x y = f_X2_times k x y := by
  unfold f_X2_acted_14 f_X2_acted_13 f_X2_acted_12 f_X2_acted_11 f_X2_acted_10 f_X2_acted_9 f_X2_acted_8 f_X2_acted_7 f_X2_acted_6 f_X2_acted_5 f_X2_acted_4
  rw [if_neg (show ¬ (10 : Int32) = (0 : Int32) by decide), if_neg (show ¬ (10 : Int32) = (1 : Int32) by decide), if_neg (show ¬ (10 : Int32) = (2 : Int32) by decide), if_neg (show ¬ (10 : Int32) = (3 : Int32) by decide), if_neg (show ¬ (10 : Int32) = (4 : Int32) by decide), if_neg (show ¬ (10 : Int32) = (5 : Int32) by decide), if_neg (show ¬ (10 : Int32) = (6 : Int32) by decide), if_neg (show ¬ (10 : Int32) = (7 : Int32) by decide), if_neg (show ¬ (10 : Int32) = (8 : Int32) by decide), if_neg (show ¬ (10 : Int32) = (9 : Int32) by decide), if_pos (Eq.refl (10 : Int32))]
theorem mc_10 : f_X7_result k (10 : Int32) x y = f_X7_times k x y := by
  unfold f_X7_result f_X7_result_19 f_X7_result_18 f_X7_result_17 f_X7_result_16 f_X7_result_15 f_X7_result_14 f_X7_result_13 f_X7_result_12 f_X7_result_11 f_X7_result_10 f_X7_result_9
  rw [if_neg (show ¬ (10 : Int32) = (0 : Int32) by decide), if_neg (show ¬ (10 : Int32) = (1 : Int32) by decide), if_neg (show ¬ (10 : Int32) = (2 : Int32) by decide), if_neg (show ¬ (10 : Int32) = (3 : Int32) by decide), if_neg (show ¬ (10 : Int32) = (4 : Int32) by decide), if_neg (show ¬ (10 : Int32) = (5 : Int32) by decide), if_neg (show ¬ (10 : Int32) = (6 : Int32) by decide), if_neg (show ¬ (10 : Int32) = (7 : Int32) by decide), if_neg (show ¬ (10 : Int32) = (8 : Int32) by decide), if_neg (show ¬ (10 : Int32) = (9 : Int32) by decide), if_pos (Eq.refl (10 : Int32))]
theorem ac_11 : f_X2_acted_14 k (11 : Int32) x y = f_X2_over k x y := by
  unfold f_X2_acted_14 f_X2_acted_13 f_X2_acted_12 f_X2_acted_11 f_X2_acted_10 f_X2_acted_9 f_X2_acted_8 f_X2_acted_7 f_X2_acted_6 f_X2_acted_5 f_X2_acted_4 f_X2_acted_3
  rw [if_neg (show ¬ (11 : Int32) = (0 : Int32) by decide), if_neg (show ¬ (11 : Int32) = (1 : Int32) by decide), if_neg (show ¬ (11 : Int32) = (2 : Int32) by decide), if_neg (show ¬ (11 : Int32) = (3 : Int32) by decide), if_neg (show ¬ (11 : Int32) = (4 : Int32) by decide), if_neg (show ¬ (11 : Int32) = (5 : Int32) by decide), if_neg (show ¬ (11 : Int32) = (6 : Int32) by decide), if_neg (show ¬ (11 : Int32) = (7 : Int32) by decide), if_neg (show ¬ (11 : Int32) = (8 : Int32) by decide), if_neg (show ¬ (11 : Int32) = (9 : Int32) by decide), if_neg (show ¬ (11 : Int32) = (10 : Int32) by decide), if_pos (Eq.refl (11 : Int32))]
theorem mc_11 : f_X7_result k (11 : Int32) x y = f_X7_over k x y := by
  unfold f_X7_result f_X7_result_19 f_X7_result_18 f_X7_result_17 f_X7_result_16 f_X7_result_15 f_X7_result_14 f_X7_result_13 f_X7_result_12 f_X7_result_11 f_X7_result_10 f_X7_result_9 f_X7_result_8
  rw [if_neg (show ¬ (11 : Int32) = (0 : Int32) by decide), if_neg (show ¬ (11 : Int32) = (1 : Int32) by decide), if_neg (show ¬ (11 : Int32) = (2 : Int32) by decide), if_neg (show ¬ (11 : Int32) = (3 : Int32) by decide), if_neg (show ¬ (11 : Int32) = (4 : Int32) by decide), if_neg (show ¬ (11 : Int32) = (5 : Int32) by decide), if_neg (show ¬ (11 : Int32) = (6 : Int32) by decide), if_neg (show ¬ (11 : Int32) = (7 : Int32) by decide), if_neg (show ¬ (11 : Int32) = (8 : Int32) by decide), if_neg (show ¬ (11 : Int32) = (9 : Int32) by decide), if_neg (show ¬ (11 : Int32) = (10 : Int32) by decide), if_pos (Eq.refl (11 : Int32))]
theorem ac_12 : f_X2_acted_14 k (12 : Int32) x y = f_X2_remainder k x y := by
  unfold f_X2_acted_14 f_X2_acted_13 f_X2_acted_12 f_X2_acted_11 f_X2_acted_10 f_X2_acted_9 f_X2_acted_8 f_X2_acted_7 f_X2_acted_6 f_X2_acted_5 f_X2_acted_4 f_X2_acted_3 f_X2_acted_2
  rw [if_neg (show ¬ (12 : Int32) = (0 : Int32) by decide), if_neg (show ¬ (12 : Int32) = (1 : Int32) by decide), if_neg (show ¬ (12 : Int32) = (2 : Int32) by decide), if_neg (show ¬ (12 : Int32) = (3 : Int32) by decide), if_neg (show ¬ (12 : Int32) = (4 : Int32) by decide), if_neg (show ¬ (12 : Int32) = (5 : Int32) by decide), if_neg (show ¬ (12 : Int32) = (6 : Int32) by decide), if_neg (show ¬ (12 : Int32) = (7 : Int32) by decide), if_neg (show ¬ (12 : Int32) = (8 : Int32) by decide), if_neg (show ¬ (12 : Int32) = (9 : Int32) by decide), if_neg (show ¬ (12 : Int32) = (10 : Int32) by decide), if_neg (show ¬ (12 : Int32) = (11 : Int32) by decide), if_pos (Eq.refl (12 : Int32))]
theorem mc_12 : f_X7_result k (12 : Int32) x y = f_X7_left k x y := by
  unfold f_X7_result f_X7_result_19 f_X7_result_18 f_X7_result_17 f_X7_result_16 f_X7_result_15 f_X7_result_14 f_X7_result_13 f_X7_result_12 f_X7_result_11 f_X7_result_10 f_X7_result_9 f_X7_result_8 f_X7_result_7
  rw [if_neg (show ¬ (12 : Int32) = (0 : Int32) by decide), if_neg (show ¬ (12 : Int32) = (1 : Int32) by decide), if_neg (show ¬ (12 : Int32) = (2 : Int32) by decide), if_neg (show ¬ (12 : Int32) = (3 : Int32) by decide), if_neg (show ¬ (12 : Int32) = (4 : Int32) by decide), if_neg (show ¬ (12 : Int32) = (5 : Int32) by decide), if_neg (show ¬ (12 : Int32) = (6 : Int32) by decide), if_neg (show ¬ (12 : Int32) = (7 : Int32) by decide), if_neg (show ¬ (12 : Int32) = (8 : Int32) by decide), if_neg (show ¬ (12 : Int32) = (9 : Int32) by decide), if_neg (show ¬ (12 : Int32) = (10 : Int32) by decide), if_neg (show ¬ (12 : Int32) = (11 : Int32) by decide), if_pos (Eq.refl (12 : Int32))]
theorem ac_13 : f_X2_acted_14 k (13 : Int32) x y = f_X1_opposite k x := by
  unfold f_X2_acted_14 f_X2_acted_13 f_X2_acted_12 f_X2_acted_11 f_X2_acted_10 f_X2_acted_9 f_X2_acted_8 f_X2_acted_7 f_X2_acted_6 f_X2_acted_5 f_X2_acted_4 f_X2_acted_3 f_X2_acted_2
  rw [if_neg (show ¬ (13 : Int32) = (0 : Int32) by decide), if_neg (show ¬ (13 : Int32) = (1 : Int32) by decide), if_neg (show ¬ (13 : Int32) = (2 : Int32) by decide), if_neg (show ¬ (13 : Int32) = (3 : Int32) by decide), if_neg (show ¬ (13 : Int32) = (4 : Int32) by decide), if_neg (show ¬ (13 : Int32) = (5 : Int32) by decide), if_neg (show ¬ (13 : Int32) = (6 : Int32) by decide), if_neg (show ¬ (13 : Int32) = (7 : Int32) by decide), if_neg (show ¬ (13 : Int32) = (8 : Int32) by decide), if_neg (show ¬ (13 : Int32) = (9 : Int32) by decide), if_neg (show ¬ (13 : Int32) = (10 : Int32) by decide), if_neg (show ¬ (13 : Int32) = (11 : Int32) by decide), if_neg (show ¬ (13 : Int32) = (12 : Int32) by decide)]
theorem mc_13 : f_X7_result k (13 : Int32) x y = f_X7_turned k x := by
  unfold f_X7_result f_X7_result_19 f_X7_result_18 f_X7_result_17 f_X7_result_16 f_X7_result_15 f_X7_result_14 f_X7_result_13 f_X7_result_12 f_X7_result_11 f_X7_result_10 f_X7_result_9 f_X7_result_8 f_X7_result_7
  rw [if_neg (show ¬ (13 : Int32) = (0 : Int32) by decide), if_neg (show ¬ (13 : Int32) = (1 : Int32) by decide), if_neg (show ¬ (13 : Int32) = (2 : Int32) by decide), if_neg (show ¬ (13 : Int32) = (3 : Int32) by decide), if_neg (show ¬ (13 : Int32) = (4 : Int32) by decide), if_neg (show ¬ (13 : Int32) = (5 : Int32) by decide), if_neg (show ¬ (13 : Int32) = (6 : Int32) by decide), if_neg (show ¬ (13 : Int32) = (7 : Int32) by decide), if_neg (show ¬ (13 : Int32) = (8 : Int32) by decide), if_neg (show ¬ (13 : Int32) = (9 : Int32) by decide), if_neg (show ¬ (13 : Int32) = (10 : Int32) by decide), if_neg (show ¬ (13 : Int32) = (11 : Int32) by decide), if_neg (show ¬ (13 : Int32) = (12 : Int32) by decide)]
def koneN (k : Nat) : Nat := if k = 0 then 4607182418800017408 else 1065353216
theorem kone_lN (hk : k < 2) : kone k = lN (koneN k) ∧ koneN k ≤ kinfN k := by
  rcases two_of hk with rfl | rfl <;> decide +kernel
theorem act6 (hk : k < 2) (hu : u ≤ kinfN k) : f_X2_acted_1 k (enc k s u) = f_X7_result_3 k (enc k s u) ∧ kcn k (f_X7_result_3 k (enc k s u)) := by
  have hw := kw hk hu
  have h63 := lt63 hk hw
  have ho := kone_lN hk
  unfold f_X2_acted_1 f_X7_result_3 f_X7_result_2
  rw [none0 hk hu, if_pos (Eq.refl (0 : Int32)), mag_enc hk hw, zero_enc hk hw, neg_enc hk hw, min_enc hk hw, one_eq hk, ho.1, sgn1_enc hk (kw hk ho.2), sgn7_lN hk (kw hk ho.2)]
  by_cases h : u = 0
  · rw [if_pos (by rw [h]; rfl), decide_eq_true h, bI_t, if_neg n10]
    exact ⟨rfl, kcn_enc hk hu⟩
  · rw [if_neg (fun e => h ((lN0 (by omega)).mp e)), decide_eq_false h, bI_f, if_pos (Eq.refl (0 : Int32))]
    exact ⟨rfl, kcn_enc hk ho.2⟩
theorem acted_one (hk : k < 2) (hu : u ≤ kinfN k) {w : Int32} (hx : f_X2_acted_14 k w (enc k s u) y = f_X7_result k w (enc k s u) y ∧ kcn k (f_X7_result k w (enc k s u) y)) (hn : f_X2_namesSecond w = 0) : f_X2_acted k w (enc k s u) y = f_X7_result k w (enc k s u) y ∧ kcn k (f_X7_result k w (enc k s u) y) := by
  have e : f_X2_acted k w (enc k s u) y = f_X2_acted_14 k w (enc k s u) y := by
    unfold f_X2_acted f_X2_acted_17 f_X2_acted_16
    rw [nan0 hk hu, if_pos (Eq.refl (0 : Int32)), hn, if_pos (Eq.refl (0 : Int32))]
  rw [e]; exact hx
theorem acted_two (hk : k < 2) (hu : u ≤ kinfN k) (hy : kcn k y) {w : Int32} (hn : f_X2_namesSecond w = 1) (hnan : f_X7_result k w (enc k s u) (knan k) = knan k) (hx : ∀ t v, v ≤ kinfN k → f_X2_acted_14 k w (enc k s u) (enc k t v) = f_X7_result k w (enc k s u) (enc k t v) ∧ kcn k (f_X7_result k w (enc k s u) (enc k t v))) : f_X2_acted k w (enc k s u) y = f_X7_result k w (enc k s u) y ∧ kcn k (f_X7_result k w (enc k s u) y) := by
  rcases kcn_cases hk hy with rfl | ⟨t, v, hv, rfl⟩
  · have e : f_X2_acted k w (enc k s u) (knan k) = knan k := by
      unfold f_X2_acted f_X2_acted_17 f_X2_acted_16 f_X2_acted_15
      rw [nan0 hk hu, if_pos (Eq.refl (0 : Int32)), hn, if_neg n10, nan1 hk, if_neg n10]
    rw [e, hnan]; exact ⟨rfl, kcn_nan hk⟩
  · have e : f_X2_acted k w (enc k s u) (enc k t v) = f_X2_acted_14 k w (enc k s u) (enc k t v) := by
      unfold f_X2_acted f_X2_acted_17 f_X2_acted_16 f_X2_acted_15
      rw [nan0 hk hu, if_pos (Eq.refl (0 : Int32)), hn, if_neg n10, nan0 hk hv, if_pos (Eq.refl (0 : Int32))]
    rw [e]; exact hx t v hv
theorem plus_nan_l (hy : kcn k y) : f_X7_plus k (knan k) y = knan k := by
  unfold f_X7_plus f_X7_plus_11 f_X7_plus_1
  rw [none1, if_neg n10]
theorem plus_nan_r (hk : k < 2) (hu : u ≤ kinfN k) : f_X7_plus k (enc k s u) (knan k) = knan k := by
  unfold f_X7_plus f_X7_plus_11 f_X7_plus_10 f_X7_plus_1
  rw [none0 hk hu, if_pos (Eq.refl (0 : Int32)), none1, if_neg n10]
theorem acted_nan (hk : k < 2) {w : Int32} (hm : f_X7_result k w (knan k) y = knan k) : f_X2_acted k w (knan k) y = f_X7_result k w (knan k) y ∧ kcn k (f_X7_result k w (knan k) y) := by
  have e : f_X2_acted k w (knan k) y = knan k := by
    unfold f_X2_acted f_X2_acted_17
    rw [nan1 hk, if_neg n10]
  rw [e, hm]; exact ⟨rfl, kcn_nan hk⟩
theorem uns_lN_c (hk : k < 2) (hu : u ≤ kinfN k) : kcn k (lN u) := by
  have := kcn_enc (s := false) hk hu
  rw [enc_f] at this
  exact this
theorem acted_all (hk : k < 2) (hx : kcn k x) (hy : kcn k y) {w : Int32} {m : Nat} (hm : m < 14) (hw : w = nI m) : f_X2_acted k w x y = f_X7_result k w x y ∧ kcn k (f_X7_result k w x y) := by
  subst hw
  rcases (by omega : m = 0 ∨ m = 1 ∨ m = 2 ∨ m = 3 ∨ m = 4 ∨ m = 5 ∨ m = 6 ∨ m = 7 ∨ m = 8 ∨ m = 9 ∨ m = 10 ∨ m = 11 ∨ m = 12 ∨ m = 13) with rfl | rfl | rfl | rfl | rfl | rfl | rfl | rfl | rfl | rfl | rfl | rfl | rfl | rfl
  · show f_X2_acted k (0 : Int32) x y = f_X7_result k (0 : Int32) x y ∧ kcn k (f_X7_result k (0 : Int32) x y)
    rcases kcn_cases hk hx with rfl | ⟨s, u, hu, rfl⟩
    · exact acted_nan hk (by rw [mc_0]; unfold f_X7_result_1; rw [none1, if_neg n10])
    · have hw := kw hk hu
      refine acted_one hk hu ?_ (by decide +kernel)
      rw [ac_0, mc_0, mag_enc hk hw]; unfold f_X7_result_1; rw [none0 hk hu, if_pos (Eq.refl (0 : Int32)), uns_enc hk hw]; exact ⟨rfl, uns_lN_c hk hu⟩
  · show f_X2_acted k (1 : Int32) x y = f_X7_result k (1 : Int32) x y ∧ kcn k (f_X7_result k (1 : Int32) x y)
    rcases kcn_cases hk hx with rfl | ⟨s, u, hu, rfl⟩
    · exact acted_nan hk (by rw [mc_1]; unfold f_X7_greater f_X7_greater_5 f_X7_greater_1; rw [none1, if_neg n10])
    · have hw := kw hk hu
      refine acted_two hk hu hy (by decide +kernel) (by rw [mc_1]; unfold f_X7_greater f_X7_greater_5 f_X7_greater_4 f_X7_greater_1; rw [none0 hk hu, if_pos (Eq.refl (0 : Int32)), none1, if_neg n10]) ?_
      intro t v hv
      rw [ac_1, mc_1]
      rw [greater_eq hk hu hv]; obtain ⟨s', u', h1, h2⟩ := greater_mem (s := s) (t := t) hk hu hv; exact ⟨rfl, by rw [h2]; exact kcn_enc hk h1⟩
  · show f_X2_acted k (2 : Int32) x y = f_X7_result k (2 : Int32) x y ∧ kcn k (f_X7_result k (2 : Int32) x y)
    rcases kcn_cases hk hx with rfl | ⟨s, u, hu, rfl⟩
    · exact acted_nan hk (by rw [mc_2]; unfold f_X7_lesser f_X7_lesser_5 f_X7_lesser_1; rw [none1, if_neg n10])
    · have hw := kw hk hu
      refine acted_two hk hu hy (by decide +kernel) (by rw [mc_2]; unfold f_X7_lesser f_X7_lesser_5 f_X7_lesser_4 f_X7_lesser_1; rw [none0 hk hu, if_pos (Eq.refl (0 : Int32)), none1, if_neg n10]) ?_
      intro t v hv
      rw [ac_2, mc_2]
      rw [lesser_eq hk hu hv]; obtain ⟨s', u', h1, h2⟩ := lesser_mem (s := s) (t := t) hk hu hv; exact ⟨rfl, by rw [h2]; exact kcn_enc hk h1⟩
  · show f_X2_acted k (3 : Int32) x y = f_X7_result k (3 : Int32) x y ∧ kcn k (f_X7_result k (3 : Int32) x y)
    rcases kcn_cases hk hx with rfl | ⟨s, u, hu, rfl⟩
    · exact acted_nan hk (by rw [mc_3]; unfold f_X7_wholeOf f_X7_wholeOf_24; rw [none1, if_neg n10])
    · have hw := kw hk hu
      refine acted_one hk hu ?_ (by decide +kernel)
      rw [ac_3, mc_3]; exact whole_enc hk (Or.inl rfl) hu
  · show f_X2_acted k (4 : Int32) x y = f_X7_result k (4 : Int32) x y ∧ kcn k (f_X7_result k (4 : Int32) x y)
    rcases kcn_cases hk hx with rfl | ⟨s, u, hu, rfl⟩
    · exact acted_nan hk (by rw [mc_4]; unfold f_X7_wholeOf f_X7_wholeOf_24; rw [none1, if_neg n10])
    · have hw := kw hk hu
      refine acted_one hk hu ?_ (by decide +kernel)
      rw [ac_4, mc_4]; exact whole_enc hk (Or.inr (Or.inl rfl)) hu
  · show f_X2_acted k (5 : Int32) x y = f_X7_result k (5 : Int32) x y ∧ kcn k (f_X7_result k (5 : Int32) x y)
    rcases kcn_cases hk hx with rfl | ⟨s, u, hu, rfl⟩
    · exact acted_nan hk (by rw [mc_5]; unfold f_X7_wholeOf f_X7_wholeOf_24; rw [none1, if_neg n10])
    · have hw := kw hk hu
      refine acted_one hk hu ?_ (by decide +kernel)
      rw [ac_5, mc_5]; exact whole_enc hk (Or.inr (Or.inr rfl)) hu
  · show f_X2_acted k (6 : Int32) x y = f_X7_result k (6 : Int32) x y ∧ kcn k (f_X7_result k (6 : Int32) x y)
    rcases kcn_cases hk hx with rfl | ⟨s, u, hu, rfl⟩
    · exact acted_nan hk (by rw [mc_6]; unfold f_X7_result_3; rw [none1, if_neg n10])
    · have hw := kw hk hu
      refine acted_one hk hu ?_ (by decide +kernel)
      rw [ac_6, mc_6]; exact act6 hk hu
  · show f_X2_acted k (7 : Int32) x y = f_X7_result k (7 : Int32) x y ∧ kcn k (f_X7_result k (7 : Int32) x y)
    rcases kcn_cases hk hx with rfl | ⟨s, u, hu, rfl⟩
    · exact acted_nan hk (by rw [mc_7]; unfold f_X7_result_6 f_X7_result_4; rw [none1, if_neg n10])
    · have hw := kw hk hu
      refine acted_two hk hu hy (by decide +kernel) (by rw [mc_7]; unfold f_X7_result_6 f_X7_result_5 f_X7_result_4; rw [none0 hk hu, if_pos (Eq.refl (0 : Int32)), none1, if_neg n10]) ?_
      intro t v hv
      rw [ac_7, mc_7]
      unfold f_X7_result_6 f_X7_result_5; rw [none0 hk hu, none0 hk hv, if_pos (Eq.refl (0 : Int32)), if_pos (Eq.refl (0 : Int32)), neg_enc hk (kw hk hv), min_enc hk (kw hk hv), mag_enc hk hw, sgn1_enc hk hw, sgn7_enc hk hw]; exact ⟨rfl, kcn_enc hk hu⟩
  · show f_X2_acted k (8 : Int32) x y = f_X7_result k (8 : Int32) x y ∧ kcn k (f_X7_result k (8 : Int32) x y)
    rcases kcn_cases hk hx with rfl | ⟨s, u, hu, rfl⟩
    · exact acted_nan hk (by rw [mc_8]; exact plus_nan_l hy)
    · have hw := kw hk hu
      refine acted_two hk hu hy (by decide +kernel) (by rw [mc_8]; exact plus_nan_r hk hu) ?_
      intro t v hv
      rw [ac_8, mc_8]
      exact plus_both hk (kcn_enc hk hu) (kcn_enc hk hv)
  · show f_X2_acted k (9 : Int32) x y = f_X7_result k (9 : Int32) x y ∧ kcn k (f_X7_result k (9 : Int32) x y)
    rcases kcn_cases hk hx with rfl | ⟨s, u, hu, rfl⟩
    · exact acted_nan hk (by rw [mc_9]; exact plus_nan_l (kcn_turned hk hy))
    · have hw := kw hk hu
      refine acted_two hk hu hy (by decide +kernel) (by rw [mc_9]; rw [turned_nan]; exact plus_nan_r hk hu) ?_
      intro t v hv
      rw [ac_9, mc_9]
      rw [minus_eq hk (kcn_enc hk hu) (kcn_enc hk hv)]; exact ⟨rfl, plus_clean hk (kcn_enc hk hu) (kcn_turned hk (kcn_enc hk hv))⟩
  · show f_X2_acted k (10 : Int32) x y = f_X7_result k (10 : Int32) x y ∧ kcn k (f_X7_result k (10 : Int32) x y)
    rcases kcn_cases hk hx with rfl | ⟨s, u, hu, rfl⟩
    · exact acted_nan hk (by rw [mc_10]; unfold f_X7_times f_X7_times_18 f_X7_times_1; rw [none1, if_neg n10])
    · have hw := kw hk hu
      refine acted_two hk hu hy (by decide +kernel) (by rw [mc_10]; unfold f_X7_times f_X7_times_18 f_X7_times_17 f_X7_times_1; rw [none0 hk hu, if_pos (Eq.refl (0 : Int32)), none1, if_neg n10]) ?_
      intro t v hv
      rw [ac_10, mc_10]
      exact times_enc hk hu hv
  · show f_X2_acted k (11 : Int32) x y = f_X7_result k (11 : Int32) x y ∧ kcn k (f_X7_result k (11 : Int32) x y)
    rcases kcn_cases hk hx with rfl | ⟨s, u, hu, rfl⟩
    · exact acted_nan hk (by rw [mc_11]; unfold f_X7_over f_X7_over_16 f_X7_over_1; rw [none1, if_neg n10])
    · have hw := kw hk hu
      refine acted_two hk hu hy (by decide +kernel) (by rw [mc_11]; unfold f_X7_over f_X7_over_16 f_X7_over_15 f_X7_over_1; rw [none0 hk hu, if_pos (Eq.refl (0 : Int32)), none1, if_neg n10]) ?_
      intro t v hv
      rw [ac_11, mc_11]
      exact over_enc hk hu hv
  · show f_X2_acted k (12 : Int32) x y = f_X7_result k (12 : Int32) x y ∧ kcn k (f_X7_result k (12 : Int32) x y)
    rcases kcn_cases hk hx with rfl | ⟨s, u, hu, rfl⟩
    · exact acted_nan hk (by rw [mc_12]; unfold f_X7_left f_X7_left_11 f_X7_left_1; rw [none1, if_neg n10])
    · have hw := kw hk hu
      refine acted_two hk hu hy (by decide +kernel) (by rw [mc_12]; unfold f_X7_left f_X7_left_11 f_X7_left_10 f_X7_left_1; rw [none0 hk hu, if_pos (Eq.refl (0 : Int32)), none1, if_neg n10]) ?_
      intro t v hv
      rw [ac_12, mc_12]
      exact left_enc hk hu hv
  · show f_X2_acted k (13 : Int32) x y = f_X7_result k (13 : Int32) x y ∧ kcn k (f_X7_result k (13 : Int32) x y)
    rcases kcn_cases hk hx with rfl | ⟨s, u, hu, rfl⟩
    · exact acted_nan hk (by rw [mc_13]; exact turned_nan)
    · have hw := kw hk hu
      refine acted_one hk hu ?_ (by decide +kernel)
      rw [ac_13, mc_13, opposite_eq hk (kcn_enc hk hu)]; exact ⟨rfl, kcn_turned hk (kcn_enc hk hu)⟩
end ACT

