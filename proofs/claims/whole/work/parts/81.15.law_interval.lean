set_option maxHeartbeats 4000000 in
set_option maxRecDepth 100000 in
theorem law_interval {p : Program} {l : Launch} {e : Env} {m : MethodId} {below : List Frame} {meth : Method} {c : Code} {b L : Nat} {xs : Nat → Int32} {s : State} {dC : Nat → ClassId} {dI : Nat → Nat → Nat} {ad : Nat → Nat} {o rw so ba ma o2 : Nat} {r : Nat → Nat} {cR cJ cI cJ2 : ClassId} {Q : State → Prop} {H : Heap} {locs : List Loc} {S : CSt} {M : MSt} {j : Nat} {ls : Array Slot} {x3 : Int32} (F : lF p m meth c b L xs s ad) (hj : j ≤ 512) (hx3 : 0 ≤ x3.toInt ∧ x3.toInt + 6 ≤ (L : Int)) (hR : Rel S M) (hLI : lI s dC dI ad o rw so ba ma o2 r cR cJ cI cJ2 S M H locs) (hl : lv_has ls 4 [(0, .ref b), (1, .ref o), (2, .ref o2), (3, .int x3)]) (K : ∀ (S : CSt) (M : MSt) (H : Heap) (locs : List Loc) (ls : Array Slot), Rel S M → lI s dC dI ad o rw so ba ma o2 r cR cJ cI cJ2 S M H locs → lv_has ls 4 [(0, .ref b), (1, .ref o), (2, .ref o2), (3, .int x3)] → W p l e room_1 s m #[Value.ref b] below meth c H locs (22 + 4 * (j + 1)) (6280 + 502 * (j + 1)) Q (F0 m 975 ls [])) : W p l e room_1 s m #[Value.ref b] below meth c H locs (22 + 4 * j) (6280 + 502 * j) Q (F0 m 830 ls []) := by
  obtain ⟨hx, hb, hml, hown, hts, hX, hbl, hkA, hZ, had, hL⟩ := id F
  have hbA : ¬ LA0 s b := Nat.not_le.mpr hbl
  have hS := hLI.2.2.2.2.2
  refine lv_aload_n hx hb dL_law_830 rfl (lv_at hl 1 rfl) ?_
  refine lv_aload_n hx hb dL_law_831 rfl (lv_at hl 0 rfl) ?_
  refine lv_iload_n hx hb dL_law_832 rfl (lv_at hl 3 rfl) ?_
  refine lv_iconst (v := 1) hx hb dL_law_833 (by decide) ?_
  refine lv_iadd hx hb dL_law_834 ?_
  refine va_sld hx hb hX hbl hbA hS (l_in hL hx3 (by decide)) dL_law_835 ?_
  refine lv_aload_n hx hb dL_law_836 rfl (lv_at hl 0 rfl) ?_
  refine lv_iload_n hx hb dL_law_837 rfl (lv_at hl 3 rfl) ?_
  refine lv_iconst (v := 2) hx hb dL_law_838 (by decide) ?_
  refine lv_iadd hx hb dL_law_839 ?_
  refine va_sld hx hb hX hbl hbA hS (l_in hL hx3 (by decide)) dL_law_840 ?_
  refine lv_aload_n hx hb dL_law_841 rfl (lv_at hl 0 rfl) ?_
  refine lv_iload_n hx hb dL_law_842 rfl (lv_at hl 3 rfl) ?_
  refine lv_iconst (v := 3) hx hb dL_law_843 (by decide) ?_
  refine lv_iadd hx hb dL_law_844 ?_
  refine va_sld hx hb hX hbl hbA hS (l_in hL hx3 (by decide)) dL_law_845 ?_
  refine lv_aload_n hx hb dL_law_846 rfl (lv_at hl 0 rfl) ?_
  refine lv_iload_n hx hb dL_law_847 rfl (lv_at hl 3 rfl) ?_
  refine lv_iconst (v := 4) hx hb dL_law_848 (by decide) ?_
  refine lv_iadd hx hb dL_law_849 ?_
  refine va_sld hx hb hX hbl hbA hS (l_in hL hx3 (by decide)) dL_law_850 ?_
  have hFc := hLI.freeC
  refine va_calli (va_runV (As := [.int (xs (x3 + (1 : Int32)).toNatClampNeg), .int (xs (x3 + (2 : Int32)).toNatClampNeg), .int (xs (x3 + (3 : Int32)).toNatClampNeg), .int (xs (x3 + (4 : Int32)).toNatClampNeg)]) (rest := []) ⟨hx, hb, hml, hown, hts⟩ (c_X6_interval l dC dI ad o rw so ba ma cR cJ H.size S (xs (x3 + (1 : Int32)).toNatClampNeg) (xs (x3 + (2 : Int32)).toNatClampNeg) (xs (x3 + (3 : Int32)).toNatClampNeg) (xs (x3 + (4 : Int32)).toNatClampNeg) hR.1) (cwV 4 hts (gV iX6_interval (zin__r26 (.methodLink RL 85 yX6_interval) (List.mem_of_getElem? (i := 9) rfl))) rfl rfl rfl (by decide +kernel) ⟨Nat.le_of_ble_eq_true rfl, Nat.le_of_ble_eq_true rfl⟩) ⟨fun a U g mk q => ⟨q.1, cB_bl q.2⟩, cW_rv hLI.1, fun U hU hW => ⟨rfl, cB_mv hLI.1 hLI.2.1 (kA_in hkA hS hFc) hU hW⟩⟩ rfl rfl hl.1 rfl (lv_room (Nat.le_of_ble_eq_true rfl)) dL_law_851 ⟨(show 22 + 4 * j + 4 ≤ 600000 by omega), (show 6280 + 502 * j + 12 ≤ 7302250 by omega)⟩) hS (fun q _ h => hFc q h) hFc (fun r_1 S_1 t H1 locs1 ht hvm hw1 hB hz1 hk1 hS1 => ?_)
  have hLI := hLI.callC ht hB hk1 hS1
  have hS := hS1
  refine lv_aload_n hx hb dL_law_854 rfl (lv_at hl 2 rfl) ?_
  refine lv_aload_n hx hb dL_law_855 rfl (lv_at hl 0 rfl) ?_
  refine lv_iload_n hx hb dL_law_856 rfl (lv_at hl 3 rfl) ?_
  refine lv_iconst (v := 1) hx hb dL_law_857 (by decide) ?_
  refine lv_iadd hx hb dL_law_858 ?_
  refine va_sld hx hb hX hbl hbA hS (l_in hL hx3 (by decide)) dL_law_859 ?_
  refine lv_aload_n hx hb dL_law_860 rfl (lv_at hl 0 rfl) ?_
  refine lv_iload_n hx hb dL_law_861 rfl (lv_at hl 3 rfl) ?_
  refine lv_iconst (v := 2) hx hb dL_law_862 (by decide) ?_
  refine lv_iadd hx hb dL_law_863 ?_
  refine va_sld hx hb hX hbl hbA hS (l_in hL hx3 (by decide)) dL_law_864 ?_
  refine lv_aload_n hx hb dL_law_865 rfl (lv_at hl 0 rfl) ?_
  refine lv_iload_n hx hb dL_law_866 rfl (lv_at hl 3 rfl) ?_
  refine lv_iconst (v := 3) hx hb dL_law_867 (by decide) ?_
  refine lv_iadd hx hb dL_law_868 ?_
  refine va_sld hx hb hX hbl hbA hS (l_in hL hx3 (by decide)) dL_law_869 ?_
  refine lv_aload_n hx hb dL_law_870 rfl (lv_at hl 0 rfl) ?_
  refine lv_iload_n hx hb dL_law_871 rfl (lv_at hl 3 rfl) ?_
  refine lv_iconst (v := 4) hx hb dL_law_872 (by decide) ?_
  refine lv_iadd hx hb dL_law_873 ?_
  refine va_sld hx hb hX hbl hbA hS (l_in hL hx3 (by decide)) dL_law_874 ?_
  have hFm := hLI.freeM
  refine va_calli (va_runV (As := [.int (xs (x3 + (1 : Int32)).toNatClampNeg), .int (xs (x3 + (2 : Int32)).toNatClampNeg), .int (xs (x3 + (3 : Int32)).toNatClampNeg), .int (xs (x3 + (4 : Int32)).toNatClampNeg)]) (rest := [.int r_1]) ⟨hx, hb, hml, hown, hts⟩ (c_X7_interval l dC dI o2 r cI cJ2 H1.size M (xs (x3 + (1 : Int32)).toNatClampNeg) (xs (x3 + (2 : Int32)).toNatClampNeg) (xs (x3 + (3 : Int32)).toNatClampNeg) (xs (x3 + (4 : Int32)).toNatClampNeg) hR.2.1) (cwV 4 hts (gV iX7_interval (zin__r29 (.methodLink RL 88 yX7_interval) (List.mem_of_getElem? (i := 19) rfl))) rfl rfl rfl (by decide +kernel) ⟨Nat.le_of_ble_eq_true rfl, Nat.le_of_ble_eq_true rfl⟩) ⟨fun a U g mk q => ⟨q.1, mB_bl q.2⟩, mW_rv hLI.2.2.1, fun U hU hW => ⟨rfl, mB_mv hLI.2.2.1 hLI.2.2.2.1 hU hW⟩⟩ rfl rfl hl.1 rfl (lv_room (Nat.le_of_ble_eq_true rfl)) dL_law_875 ⟨(show 22 + 4 * j + 4 + 0 ≤ 600000 by omega), (show 6280 + 502 * j + 12 + 0 ≤ 7302250 by omega)⟩) hS (fun q _ h => hFm q h) hFm (fun r_2 M_1 t2 H2 locs2 ht2 hvm2 hw2 hB2 hz2 hk2 hS2 => ?_)
  have hLI := hLI.callM ht2 hB2 hk2 hS2
  have hE : r_1 = r_2 ∧ Rel S_1 M_1 := by
    have h9 := R_interval hR (xs (x3 + (1 : Int32)).toNatClampNeg) (xs (x3 + (2 : Int32)).toNatClampNeg) (xs (x3 + (3 : Int32)).toNatClampNeg) (xs (x3 + (4 : Int32)).toNatClampNeg)
    rw [← hw1, ← hw2] at h9
    exact h9
  refine lv_icmp_eq (tgt := 975) hx hb dL_law_878 (by decide) (fun c_9 => ?_) (fun c_9 => ?_)
  · refine W.widen (k := 22 + 4 * (j + 1)) (n := 6280 + 502 * (j + 1)) (by omega) (by omega) ?_
    exact K S_1 M_1 H2 locs2 ls hE.2 hLI hl
  · exact absurd hE.1 c_9
