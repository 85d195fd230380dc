set_option maxHeartbeats 4000000 in
set_option maxRecDepth 100000 in
theorem law_move {p : Program} {l : Launch} {e : Env} {m : MethodId} {below : List Frame} {meth : Method} {c : Code} {b L : Nat} {xs : Nat → Int32} {s : State} {dC : Nat → ClassId} {dI : Nat → Nat → Nat} {ad : Nat → Nat} {o rw so ba ma o2 : Nat} {r : Nat → Nat} {cR cJ cI cJ2 : ClassId} {Q : State → Prop} {H : Heap} {locs : List Loc} {S : CSt} {M : MSt} {j : Nat} {ls : Array Slot} {x3 : Int32} (F : lF p m meth c b L xs s ad) (hj : j ≤ 512) (hx3 : 0 ≤ x3.toInt ∧ x3.toInt + 6 ≤ (L : Int)) (hR : Rel S M) (hLI : lI s dC dI ad o rw so ba ma o2 r cR cJ cI cJ2 S M H locs) (hl : lv_has ls 4 [(0, .ref b), (1, .ref o), (2, .ref o2), (3, .int x3)]) (K : ∀ (S : CSt) (M : MSt) (H : Heap) (locs : List Loc) (ls : Array Slot), Rel S M → lI s dC dI ad o rw so ba ma o2 r cR cJ cI cJ2 S M H locs → lv_has ls 4 [(0, .ref b), (1, .ref o), (2, .ref o2), (3, .int x3)] → W p l e room_1 s m #[Value.ref b] below meth c H locs (22 + 4 * (j + 1)) (6280 + 502 * (j + 1)) Q (F0 m 975 ls [])) : W p l e room_1 s m #[Value.ref b] below meth c H locs (22 + 4 * j) (6280 + 502 * j) Q (F0 m 883 ls []) := by
  obtain ⟨hx, hb, hml, hown, hts, hX, hbl, hkA, hZ, had, hL⟩ := id F
  have hbA : ¬ LA0 s b := Nat.not_le.mpr hbl
  have hS := hLI.2.2.2.2.2
  refine lv_aload_n hx hb dL_law_883 rfl (lv_at hl 1 rfl) ?_
  refine lv_aload_n hx hb dL_law_884 rfl (lv_at hl 0 rfl) ?_
  refine lv_iload_n hx hb dL_law_885 rfl (lv_at hl 3 rfl) ?_
  refine lv_iconst (v := 1) hx hb dL_law_886 (by decide) ?_
  refine lv_iadd hx hb dL_law_887 ?_
  refine va_sld hx hb hX hbl hbA hS (l_in hL hx3 (by decide)) dL_law_888 ?_
  refine lv_aload_n hx hb dL_law_889 rfl (lv_at hl 0 rfl) ?_
  refine lv_iload_n hx hb dL_law_890 rfl (lv_at hl 3 rfl) ?_
  refine lv_iconst (v := 2) hx hb dL_law_891 (by decide) ?_
  refine lv_iadd hx hb dL_law_892 ?_
  refine va_sld hx hb hX hbl hbA hS (l_in hL hx3 (by decide)) dL_law_893 ?_
  refine lv_aload_n hx hb dL_law_894 rfl (lv_at hl 0 rfl) ?_
  refine lv_iload_n hx hb dL_law_895 rfl (lv_at hl 3 rfl) ?_
  refine lv_iconst (v := 3) hx hb dL_law_896 (by decide) ?_
  refine lv_iadd hx hb dL_law_897 ?_
  refine va_sld hx hb hX hbl hbA hS (l_in hL hx3 (by decide)) dL_law_898 ?_
  refine lv_aload_n hx hb dL_law_899 rfl (lv_at hl 0 rfl) ?_
  refine lv_iload_n hx hb dL_law_900 rfl (lv_at hl 3 rfl) ?_
  refine lv_iconst (v := 4) hx hb dL_law_901 (by decide) ?_
  refine lv_iadd hx hb dL_law_902 ?_
  refine va_sld hx hb hX hbl hbA hS (l_in hL hx3 (by decide)) dL_law_903 ?_
  refine lv_aload_n hx hb dL_law_904 rfl (lv_at hl 0 rfl) ?_
  refine lv_iload_n hx hb dL_law_905 rfl (lv_at hl 3 rfl) ?_
  refine lv_iconst (v := 5) hx hb dL_law_906 (by decide) ?_
  refine lv_iadd hx hb dL_law_907 ?_
  refine va_sld hx hb hX hbl hbA hS (l_in hL hx3 (by decide)) dL_law_908 ?_
  refine W_cut (α := Unit) (pcJ := 917) (nL := 4) (fun _ => True) (fun _ => [.int (b01 (xs (x3 + (5 : Int32)).toNatClampNeg)), .int (xs (x3 + (4 : Int32)).toNatClampNeg), .int (xs (x3 + (3 : Int32)).toNatClampNeg), .int (xs (x3 + (2 : Int32)).toNatClampNeg), .int (xs (x3 + (1 : Int32)).toNatClampNeg), .ref o]) (fun _ => [(0, .ref b), (1, .ref o), (2, .ref o2), (3, .int x3)]) (fun v ls _ hl => ?_) (fun K_917 => ?_)
  · skip
    have hFc := hLI.freeC
    refine va_calli (va_runV (As := [.int (xs (x3 + (1 : Int32)).toNatClampNeg), .int (xs (x3 + (2 : Int32)).toNatClampNeg), .int (xs (x3 + (3 : Int32)).toNatClampNeg), .int (xs (x3 + (4 : Int32)).toNatClampNeg), .int (b01 (xs (x3 + (5 : Int32)).toNatClampNeg))]) (rest := []) ⟨hx, hb, hml, hown, hts⟩ (c_X6_move l dC dI ad o rw so ba ma cR cJ H.size S (xs (x3 + (1 : Int32)).toNatClampNeg) (xs (x3 + (2 : Int32)).toNatClampNeg) (xs (x3 + (3 : Int32)).toNatClampNeg) (xs (x3 + (4 : Int32)).toNatClampNeg) (b01 (xs (x3 + (5 : Int32)).toNatClampNeg)) hR.1 F.2.2.2.2.2.2.2.2.2.1) (cwV 5 hts (gV iX6_move (zin__r31 (.methodLink RL 89 yX6_move) (List.mem_of_getElem? (i := 3) rfl))) rfl rfl rfl (by decide +kernel) ⟨Nat.le_of_ble_eq_true rfl, Nat.le_of_ble_eq_true rfl⟩) ⟨fun a U g mk q => ⟨q.1, cB_bl q.2⟩, cW_rv hLI.1, fun U hU hW => ⟨rfl, cB_mv hLI.1 hLI.2.1 (kA_in hkA hS hFc) hU hW⟩⟩ rfl rfl hl.1 rfl (lv_room (Nat.le_of_ble_eq_true rfl)) dL_law_917 ⟨(show 22 + 4 * j + 0 ≤ 600000 by omega), (show 6280 + 502 * j + 0 ≤ 7302250 by omega)⟩) hS (fun q _ h => hFc q h) hFc (fun r_1 S_1 t H1 locs1 ht hvm hw1 hB hz1 hk1 hS1 => ?_)
    have hLI := hLI.callC ht hB hk1 hS1
    have hS := hS1
    refine lv_aload_n hx hb dL_law_920 rfl (lv_at hl 2 rfl) ?_
    refine lv_aload_n hx hb dL_law_921 rfl (lv_at hl 0 rfl) ?_
    refine lv_iload_n hx hb dL_law_922 rfl (lv_at hl 3 rfl) ?_
    refine lv_iconst (v := 1) hx hb dL_law_923 (by decide) ?_
    refine lv_iadd hx hb dL_law_924 ?_
    refine va_sld hx hb hX hbl hbA hS (l_in hL hx3 (by decide)) dL_law_925 ?_
    refine lv_aload_n hx hb dL_law_926 rfl (lv_at hl 0 rfl) ?_
    refine lv_iload_n hx hb dL_law_927 rfl (lv_at hl 3 rfl) ?_
    refine lv_iconst (v := 2) hx hb dL_law_928 (by decide) ?_
    refine lv_iadd hx hb dL_law_929 ?_
    refine va_sld hx hb hX hbl hbA hS (l_in hL hx3 (by decide)) dL_law_930 ?_
    refine lv_aload_n hx hb dL_law_931 rfl (lv_at hl 0 rfl) ?_
    refine lv_iload_n hx hb dL_law_932 rfl (lv_at hl 3 rfl) ?_
    refine lv_iconst (v := 3) hx hb dL_law_933 (by decide) ?_
    refine lv_iadd hx hb dL_law_934 ?_
    refine va_sld hx hb hX hbl hbA hS (l_in hL hx3 (by decide)) dL_law_935 ?_
    refine lv_aload_n hx hb dL_law_936 rfl (lv_at hl 0 rfl) ?_
    refine lv_iload_n hx hb dL_law_937 rfl (lv_at hl 3 rfl) ?_
    refine lv_iconst (v := 4) hx hb dL_law_938 (by decide) ?_
    refine lv_iadd hx hb dL_law_939 ?_
    refine va_sld hx hb hX hbl hbA hS (l_in hL hx3 (by decide)) dL_law_940 ?_
    refine lv_aload_n hx hb dL_law_941 rfl (lv_at hl 0 rfl) ?_
    refine lv_iload_n hx hb dL_law_942 rfl (lv_at hl 3 rfl) ?_
    refine lv_iconst (v := 5) hx hb dL_law_943 (by decide) ?_
    refine lv_iadd hx hb dL_law_944 ?_
    refine va_sld hx hb hX hbl hbA hS (l_in hL hx3 (by decide)) dL_law_945 ?_
    refine W_cut (α := Unit) (pcJ := 954) (nL := 4) (fun _ => True) (fun _ => [.int (b01 (xs (x3 + (5 : Int32)).toNatClampNeg)), .int (xs (x3 + (4 : Int32)).toNatClampNeg), .int (xs (x3 + (3 : Int32)).toNatClampNeg), .int (xs (x3 + (2 : Int32)).toNatClampNeg), .int (xs (x3 + (1 : Int32)).toNatClampNeg), .ref o2, .int r_1]) (fun _ => [(0, .ref b), (1, .ref o), (2, .ref o2), (3, .int x3)]) (fun v ls _ hl => ?_) (fun K_954 => ?_)
    · skip
      have hFm := hLI.freeM
      refine va_calli (va_runV (As := [.int (xs (x3 + (1 : Int32)).toNatClampNeg), .int (xs (x3 + (2 : Int32)).toNatClampNeg), .int (xs (x3 + (3 : Int32)).toNatClampNeg), .int (xs (x3 + (4 : Int32)).toNatClampNeg), .int (b01 (xs (x3 + (5 : Int32)).toNatClampNeg))]) (rest := [.int r_1]) ⟨hx, hb, hml, hown, hts⟩ (c_X7_move l dC dI o2 r cI cJ2 H1.size M (xs (x3 + (1 : Int32)).toNatClampNeg) (xs (x3 + (2 : Int32)).toNatClampNeg) (xs (x3 + (3 : Int32)).toNatClampNeg) (xs (x3 + (4 : Int32)).toNatClampNeg) (b01 (xs (x3 + (5 : Int32)).toNatClampNeg)) hR.2.1) (cwV 5 hts (gV iX7_move (zin__r31 (.methodLink RL 93 yX7_move) (List.mem_of_getElem? (i := 10) rfl))) rfl rfl rfl (by decide +kernel) ⟨Nat.le_of_ble_eq_true rfl, Nat.le_of_ble_eq_true rfl⟩) ⟨fun a U g mk q => ⟨q.1, mB_bl q.2⟩, mW_rv hLI.2.2.1, fun U hU hW => ⟨rfl, mB_mv hLI.2.2.1 hLI.2.2.2.1 hU hW⟩⟩ rfl rfl hl.1 rfl (lv_room (Nat.le_of_ble_eq_true rfl)) dL_law_954 ⟨(show 22 + 4 * j + 0 + 0 ≤ 600000 by omega), (show 6280 + 502 * j + 0 + 0 ≤ 7302250 by omega)⟩) hS (fun q _ h => hFm q h) hFm (fun r_2 M_1 t2 H2 locs2 ht2 hvm2 hw2 hB2 hz2 hk2 hS2 => ?_)
      have hLI := hLI.callM ht2 hB2 hk2 hS2
      have hE : r_1 = r_2 ∧ Rel S_1 M_1 := by
        have h9 := R_move hR (xs (x3 + (1 : Int32)).toNatClampNeg) (xs (x3 + (2 : Int32)).toNatClampNeg) (xs (x3 + (3 : Int32)).toNatClampNeg) (xs (x3 + (4 : Int32)).toNatClampNeg) (xs (x3 + (5 : Int32)).toNatClampNeg)
        rw [← hw1, ← hw2] at h9
        exact h9
      refine lv_icmp_eq (tgt := 975) hx hb dL_law_957 (by decide) (fun c_9 => ?_) (fun c_9 => ?_)
      · refine W.widen (k := 22 + 4 * (j + 1)) (n := 6280 + 502 * (j + 1)) (by omega) (by omega) ?_
        exact K S_1 M_1 H2 locs2 ls hE.2 hLI hl
      · exact absurd hE.1 c_9
    · refine lv_if_eq (tgt := 953) hx hb dL_law_946 (by decide) (fun c_946 => ?_) (fun c_946 => ?_)
      · refine lv_iconst (v := 0) hx hb dL_law_953 (by decide) ?_
        have e_b : b01 (xs (x3 + (5 : Int32)).toNatClampNeg) = 0 := if_pos c_946
        rw [e_b] at K_954
        exact K_954 () ls trivial hl
      · refine lv_iconst (v := 1) hx hb dL_law_949 (by decide) ?_
        refine lv_goto (tgt := 954) hx hb dL_law_950 (by decide) ?_
        have e_b : b01 (xs (x3 + (5 : Int32)).toNatClampNeg) = 1 := if_neg c_946
        rw [e_b] at K_954
        exact K_954 () ls trivial hl
  · refine lv_if_eq (tgt := 916) hx hb dL_law_909 (by decide) (fun c_909 => ?_) (fun c_909 => ?_)
    · refine lv_iconst (v := 0) hx hb dL_law_916 (by decide) ?_
      have e_b : b01 (xs (x3 + (5 : Int32)).toNatClampNeg) = 0 := if_pos c_909
      rw [e_b] at K_917
      exact K_917 () ls trivial hl
    · refine lv_iconst (v := 1) hx hb dL_law_912 (by decide) ?_
      refine lv_goto (tgt := 917) hx hb dL_law_913 (by decide) ?_
      have e_b : b01 (xs (x3 + (5 : Int32)).toNatClampNeg) = 1 := if_neg c_909
      rw [e_b] at K_917
      exact K_917 () ls trivial hl
