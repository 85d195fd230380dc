set_option maxHeartbeats 4000000 in
set_option maxRecDepth 100000 in
theorem law_find {p : Program} {l : Launch} {e : Env} {m : MethodId} {below : List Frame} {meth : Method} {c : Code} {b L : Nat} {xs : Nat → Int32} {s : State} {dC : Nat → ClassId} {dI : Nat → Nat → Nat} {ad : Nat → Nat} {o rw so ba ma o2 : Nat} {r : Nat → Nat} {cR cJ cI cJ2 : ClassId} {Q : State → Prop} {H : Heap} {locs : List Loc} {S : CSt} {M : MSt} {j : Nat} {ls : Array Slot} {x3 : Int32} (F : lF p m meth c b L xs s ad) (hj : j ≤ 512) (hx3 : 0 ≤ x3.toInt ∧ x3.toInt + 6 ≤ (L : Int)) (hR : Rel S M) (hLI : lI s dC dI ad o rw so ba ma o2 r cR cJ cI cJ2 S M H locs) (hl : lv_has ls 4 [(0, .ref b), (1, .ref o), (2, .ref o2), (3, .int x3)]) (K : ∀ (S : CSt) (M : MSt) (H : Heap) (locs : List Loc) (ls : Array Slot), Rel S M → lI s dC dI ad o rw so ba ma o2 r cR cJ cI cJ2 S M H locs → lv_has ls 4 [(0, .ref b), (1, .ref o), (2, .ref o2), (3, .int x3)] → W p l e room_1 s m #[Value.ref b] below meth c H locs (22 + 4 * (j + 1)) (6280 + 502 * (j + 1)) Q (F0 m 975 ls [])) : W p l e room_1 s m #[Value.ref b] below meth c H locs (22 + 4 * j) (6280 + 502 * j) Q (F0 m 767 ls []) := by
  obtain ⟨hx, hb, hml, hown, hts, hX, hbl, hkA, hZ, had, hL⟩ := id F
  have hbA : ¬ LA0 s b := Nat.not_le.mpr hbl
  have hS := hLI.2.2.2.2.2
  refine lv_aload_n hx hb dL_law_767 rfl (lv_at hl 1 rfl) ?_
  refine lv_aload_n hx hb dL_law_768 rfl (lv_at hl 0 rfl) ?_
  refine lv_iload_n hx hb dL_law_769 rfl (lv_at hl 3 rfl) ?_
  refine lv_iconst (v := 1) hx hb dL_law_770 (by decide) ?_
  refine lv_iadd hx hb dL_law_771 ?_
  refine va_sld hx hb hX hbl hbA hS (l_in hL hx3 (by decide)) dL_law_772 ?_
  refine lv_aload_n hx hb dL_law_773 rfl (lv_at hl 0 rfl) ?_
  refine lv_iload_n hx hb dL_law_774 rfl (lv_at hl 3 rfl) ?_
  refine lv_iconst (v := 2) hx hb dL_law_775 (by decide) ?_
  refine lv_iadd hx hb dL_law_776 ?_
  refine va_sld hx hb hX hbl hbA hS (l_in hL hx3 (by decide)) dL_law_777 ?_
  refine lv_i2l (v := ((xs (x3 + (2 : Int32)).toNatClampNeg)).toInt64) hx hb dL_law_778 rfl ?_
  refine lv_bipush (v := 32) hx hb dL_law_779 (by decide) ?_
  refine lv_lshl (v := (jlshl ((xs (x3 + (2 : Int32)).toNatClampNeg)).toInt64 (32 : Int32))) hx hb dL_law_781 rfl ?_
  refine lv_aload_n hx hb dL_law_782 rfl (lv_at hl 0 rfl) ?_
  refine lv_iload_n hx hb dL_law_783 rfl (lv_at hl 3 rfl) ?_
  refine lv_iconst (v := 3) hx hb dL_law_784 (by decide) ?_
  refine lv_iadd hx hb dL_law_785 ?_
  refine va_sld hx hb hX hbl hbA hS (l_in hL hx3 (by decide)) dL_law_786 ?_
  refine lv_i2l (v := ((xs (x3 + (3 : Int32)).toNatClampNeg)).toInt64) hx hb dL_law_787 rfl ?_
  refine lv_ldc2 (v := 4294967295) hx hb hown (hts _ (zin__r1 (.constantLong RL 18 (4294967295)) (List.mem_of_getElem? (i := 6) rfl))) dL_law_788 ?_
  refine lv_land hx hb dL_law_791 ?_
  refine lv_lor hx hb dL_law_792 ?_
  have hFc := hLI.freeC
  refine va_calli (va_runV (As := [.int (xs (x3 + (1 : Int32)).toNatClampNeg), .long ((jlshl ((xs (x3 + (2 : Int32)).toNatClampNeg)).toInt64 (32 : Int32)) ||| (((xs (x3 + (3 : Int32)).toNatClampNeg)).toInt64 &&& (4294967295 : Int64)))]) (rest := []) ⟨hx, hb, hml, hown, hts⟩ (c_X6_find l dC dI ad o rw so ba ma cR cJ H.size S (xs (x3 + (1 : Int32)).toNatClampNeg) ((jlshl ((xs (x3 + (2 : Int32)).toNatClampNeg)).toInt64 (32 : Int32)) ||| (((xs (x3 + (3 : Int32)).toNatClampNeg)).toInt64 &&& (4294967295 : Int64))) hR.1) (cwV 2 hts (gV iX6_find (zin__r25 (.methodLink RL 80 yX6_find) (List.mem_of_getElem? (i := 16) rfl))) rfl rfl rfl (by decide +kernel) ⟨Nat.le_of_ble_eq_true rfl, Nat.le_of_ble_eq_true rfl⟩) ⟨fun a U g mk q => ⟨q.1, cB_bl q.2⟩, cW_rv hLI.1, fun U hU hW => ⟨rfl, cB_mv hLI.1 hLI.2.1 (kA_in hkA hS hFc) hU hW⟩⟩ rfl rfl hl.1 rfl (lv_room (Nat.le_of_ble_eq_true rfl)) dL_law_793 ⟨(show 22 + 4 * j + 0 ≤ 600000 by omega), (show 6280 + 502 * j + 0 ≤ 7302250 by omega)⟩) hS (fun q _ h => hFc q h) hFc (fun r_1 S_1 t H1 locs1 ht hvm hw1 hB hz1 hk1 hS1 => ?_)
  have hLI := hLI.callC ht hB hk1 hS1
  have hS := hS1
  refine lv_aload_n hx hb dL_law_796 rfl (lv_at hl 2 rfl) ?_
  refine lv_aload_n hx hb dL_law_797 rfl (lv_at hl 0 rfl) ?_
  refine lv_iload_n hx hb dL_law_798 rfl (lv_at hl 3 rfl) ?_
  refine lv_iconst (v := 1) hx hb dL_law_799 (by decide) ?_
  refine lv_iadd hx hb dL_law_800 ?_
  refine va_sld hx hb hX hbl hbA hS (l_in hL hx3 (by decide)) dL_law_801 ?_
  refine lv_aload_n hx hb dL_law_802 rfl (lv_at hl 0 rfl) ?_
  refine lv_iload_n hx hb dL_law_803 rfl (lv_at hl 3 rfl) ?_
  refine lv_iconst (v := 2) hx hb dL_law_804 (by decide) ?_
  refine lv_iadd hx hb dL_law_805 ?_
  refine va_sld hx hb hX hbl hbA hS (l_in hL hx3 (by decide)) dL_law_806 ?_
  refine lv_i2l (v := ((xs (x3 + (2 : Int32)).toNatClampNeg)).toInt64) hx hb dL_law_807 rfl ?_
  refine lv_bipush (v := 32) hx hb dL_law_808 (by decide) ?_
  refine lv_lshl (v := (jlshl ((xs (x3 + (2 : Int32)).toNatClampNeg)).toInt64 (32 : Int32))) hx hb dL_law_810 rfl ?_
  refine lv_aload_n hx hb dL_law_811 rfl (lv_at hl 0 rfl) ?_
  refine lv_iload_n hx hb dL_law_812 rfl (lv_at hl 3 rfl) ?_
  refine lv_iconst (v := 3) hx hb dL_law_813 (by decide) ?_
  refine lv_iadd hx hb dL_law_814 ?_
  refine va_sld hx hb hX hbl hbA hS (l_in hL hx3 (by decide)) dL_law_815 ?_
  refine lv_i2l (v := ((xs (x3 + (3 : Int32)).toNatClampNeg)).toInt64) hx hb dL_law_816 rfl ?_
  refine lv_ldc2 (v := 4294967295) hx hb hown (hts _ (zin__r1 (.constantLong RL 18 (4294967295)) (List.mem_of_getElem? (i := 6) rfl))) dL_law_817 ?_
  refine lv_land hx hb dL_law_820 ?_
  refine lv_lor hx hb dL_law_821 ?_
  have hFm := hLI.freeM
  refine va_calli (va_runV (As := [.int (xs (x3 + (1 : Int32)).toNatClampNeg), .long ((jlshl ((xs (x3 + (2 : Int32)).toNatClampNeg)).toInt64 (32 : Int32)) ||| (((xs (x3 + (3 : Int32)).toNatClampNeg)).toInt64 &&& (4294967295 : Int64)))]) (rest := [.int r_1]) ⟨hx, hb, hml, hown, hts⟩ (c_X7_find l dC dI o2 r cI cJ2 H1.size M (xs (x3 + (1 : Int32)).toNatClampNeg) ((jlshl ((xs (x3 + (2 : Int32)).toNatClampNeg)).toInt64 (32 : Int32)) ||| (((xs (x3 + (3 : Int32)).toNatClampNeg)).toInt64 &&& (4294967295 : Int64))) hR.2.1) (cwV 2 hts (gV iX7_find (zin__r26 (.methodLink RL 84 yX7_find) (List.mem_of_getElem? (i := 5) rfl))) rfl rfl rfl (by decide +kernel) ⟨Nat.le_of_ble_eq_true rfl, Nat.le_of_ble_eq_true rfl⟩) ⟨fun a U g mk q => ⟨q.1, mB_bl q.2⟩, mW_rv hLI.2.2.1, fun U hU hW => ⟨rfl, mB_mv hLI.2.2.1 hLI.2.2.2.1 hU hW⟩⟩ rfl rfl hl.1 rfl (lv_room (Nat.le_of_ble_eq_true rfl)) dL_law_822 ⟨(show 22 + 4 * j + 0 + 0 ≤ 600000 by omega), (show 6280 + 502 * j + 0 + 0 ≤ 7302250 by omega)⟩) hS (fun q _ h => hFm q h) hFm (fun r_2 M_1 t2 H2 locs2 ht2 hvm2 hw2 hB2 hz2 hk2 hS2 => ?_)
  have hLI := hLI.callM ht2 hB2 hk2 hS2
  have hE : r_1 = r_2 ∧ Rel S_1 M_1 := by
    have h9 := R_find hR (xs (x3 + (1 : Int32)).toNatClampNeg) ((jlshl ((xs (x3 + (2 : Int32)).toNatClampNeg)).toInt64 (32 : Int32)) ||| (((xs (x3 + (3 : Int32)).toNatClampNeg)).toInt64 &&& (4294967295 : Int64)))
    rw [← hw1, ← hw2] at h9
    exact h9
  refine lv_icmp_eq (tgt := 975) hx hb dL_law_825 (by decide) (fun c_9 => ?_) (fun c_9 => ?_)
  · refine W.widen (k := 22 + 4 * (j + 1)) (n := 6280 + 502 * (j + 1)) (by omega) (by omega) ?_
    exact K S_1 M_1 H2 locs2 ls hE.2 hLI hl
  · exact absurd hE.1 c_9
