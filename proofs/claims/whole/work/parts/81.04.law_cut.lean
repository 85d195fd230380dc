set_option maxHeartbeats 4000000 in
set_option maxRecDepth 100000 in
theorem law_cut {p : Program} {l : Launch} {e : Env} {m : MethodId} {below : List Frame} {meth : Method} {c : Code} {b L : Nat} {xs : Nat → Int32} {s : State} {dC : Nat → ClassId} {dI : Nat → Nat → Nat} {ad : Nat → Nat} {o rw so ba ma o2 : Nat} {r : Nat → Nat} {cR cJ cI cJ2 : ClassId} {Q : State → Prop} {H : Heap} {locs : List Loc} {S : CSt} {M : MSt} {j : Nat} {ls : Array Slot} {x3 : Int32} (F : lF p m meth c b L xs s ad) (hj : j ≤ 512) (hx3 : 0 ≤ x3.toInt ∧ x3.toInt + 6 ≤ (L : Int)) (hR : Rel S M) (hLI : lI s dC dI ad o rw so ba ma o2 r cR cJ cI cJ2 S M H locs) (hl : lv_has ls 4 [(0, .ref b), (1, .ref o), (2, .ref o2), (3, .int x3)]) (K : ∀ (S : CSt) (M : MSt) (H : Heap) (locs : List Loc) (ls : Array Slot), Rel S M → lI s dC dI ad o rw so ba ma o2 r cR cJ cI cJ2 S M H locs → lv_has ls 4 [(0, .ref b), (1, .ref o), (2, .ref o2), (3, .int x3)] → W p l e room_1 s m #[Value.ref b] below meth c H locs (22 + 4 * (j + 1)) (6280 + 502 * (j + 1)) Q (F0 m 975 ls [])) : W p l e room_1 s m #[Value.ref b] below meth c H locs (22 + 4 * j) (6280 + 502 * j) Q (F0 m 349 ls []) := by
  obtain ⟨hx, hb, hml, hown, hts, hX, hbl, hkA, hZ, had, hL⟩ := id F
  have hbA : ¬ LA0 s b := Nat.not_le.mpr hbl
  have hS := hLI.2.2.2.2.2
  refine lv_aload_n hx hb dL_law_349 rfl (lv_at hl 1 rfl) ?_
  refine lv_aload_n hx hb dL_law_350 rfl (lv_at hl 0 rfl) ?_
  refine lv_iload_n hx hb dL_law_351 rfl (lv_at hl 3 rfl) ?_
  refine lv_iconst (v := 1) hx hb dL_law_352 (by decide) ?_
  refine lv_iadd hx hb dL_law_353 ?_
  refine va_sld hx hb hX hbl hbA hS (l_in hL hx3 (by decide)) dL_law_354 ?_
  refine lv_aload_n hx hb dL_law_355 rfl (lv_at hl 0 rfl) ?_
  refine lv_iload_n hx hb dL_law_356 rfl (lv_at hl 3 rfl) ?_
  refine lv_iconst (v := 2) hx hb dL_law_357 (by decide) ?_
  refine lv_iadd hx hb dL_law_358 ?_
  refine va_sld hx hb hX hbl hbA hS (l_in hL hx3 (by decide)) dL_law_359 ?_
  refine lv_aload_n hx hb dL_law_360 rfl (lv_at hl 0 rfl) ?_
  refine lv_iload_n hx hb dL_law_361 rfl (lv_at hl 3 rfl) ?_
  refine lv_iconst (v := 3) hx hb dL_law_362 (by decide) ?_
  refine lv_iadd hx hb dL_law_363 ?_
  refine va_sld hx hb hX hbl hbA hS (l_in hL hx3 (by decide)) dL_law_364 ?_
  refine W_cut (α := Unit) (pcJ := 373) (nL := 4) (fun _ => True) (fun _ => [.int (b01 (xs (x3 + (3 : Int32)).toNatClampNeg)), .int (xs (x3 + (2 : Int32)).toNatClampNeg), .int (xs (x3 + (1 : Int32)).toNatClampNeg), .ref o]) (fun _ => [(0, .ref b), (1, .ref o), (2, .ref o2), (3, .int x3)]) (fun v ls _ hl => ?_) (fun K_373 => ?_)
  · skip
    have hFc := hLI.freeC
    refine va_calll (va_runV (As := [.int (xs (x3 + (1 : Int32)).toNatClampNeg), .int (xs (x3 + (2 : Int32)).toNatClampNeg), .int (b01 (xs (x3 + (3 : Int32)).toNatClampNeg))]) (rest := []) ⟨hx, hb, hml, hown, hts⟩ (c_X6_cut l dC dI ad o rw so ba ma cR cJ H.size S (xs (x3 + (1 : Int32)).toNatClampNeg) (xs (x3 + (2 : Int32)).toNatClampNeg) (b01 (xs (x3 + (3 : Int32)).toNatClampNeg)) hR.1) (cwV 3 hts (gV iX6_cut (zin__r11 (.methodLink RL 34 yX6_cut) (List.mem_of_getElem? (i := 6) rfl))) rfl rfl rfl (by decide +kernel) ⟨Nat.le_of_ble_eq_true rfl, Nat.le_of_ble_eq_true rfl⟩) ⟨fun a U g mk q => ⟨q.1, cB_bl q.2⟩, cW_rv hLI.1, fun U hU hW => ⟨rfl, cB_mv hLI.1 hLI.2.1 (kA_in hkA hS hFc) hU hW⟩⟩ rfl rfl hl.1 rfl (lv_room (Nat.le_of_ble_eq_true rfl)) dL_law_373 ⟨(show 22 + 4 * j + 0 ≤ 600000 by omega), (show 6280 + 502 * j + 0 ≤ 7302250 by omega)⟩) hS (fun q _ h => hFc q h) hFc (fun r_1 S_1 t H1 locs1 ht hvm hw1 hB hz1 hk1 hS1 => ?_)
    have hLI := hLI.callC ht hB hk1 hS1
    have hS := hS1
    refine lv_aload_n hx hb dL_law_376 rfl (lv_at hl 2 rfl) ?_
    refine lv_aload_n hx hb dL_law_377 rfl (lv_at hl 0 rfl) ?_
    refine lv_iload_n hx hb dL_law_378 rfl (lv_at hl 3 rfl) ?_
    refine lv_iconst (v := 1) hx hb dL_law_379 (by decide) ?_
    refine lv_iadd hx hb dL_law_380 ?_
    refine va_sld hx hb hX hbl hbA hS (l_in hL hx3 (by decide)) dL_law_381 ?_
    refine lv_aload_n hx hb dL_law_382 rfl (lv_at hl 0 rfl) ?_
    refine lv_iload_n hx hb dL_law_383 rfl (lv_at hl 3 rfl) ?_
    refine lv_iconst (v := 2) hx hb dL_law_384 (by decide) ?_
    refine lv_iadd hx hb dL_law_385 ?_
    refine va_sld hx hb hX hbl hbA hS (l_in hL hx3 (by decide)) dL_law_386 ?_
    refine lv_aload_n hx hb dL_law_387 rfl (lv_at hl 0 rfl) ?_
    refine lv_iload_n hx hb dL_law_388 rfl (lv_at hl 3 rfl) ?_
    refine lv_iconst (v := 3) hx hb dL_law_389 (by decide) ?_
    refine lv_iadd hx hb dL_law_390 ?_
    refine va_sld hx hb hX hbl hbA hS (l_in hL hx3 (by decide)) dL_law_391 ?_
    refine W_cut (α := Unit) (pcJ := 400) (nL := 4) (fun _ => True) (fun _ => [.int (b01 (xs (x3 + (3 : Int32)).toNatClampNeg)), .int (xs (x3 + (2 : Int32)).toNatClampNeg), .int (xs (x3 + (1 : Int32)).toNatClampNeg), .ref o2, .long r_1]) (fun _ => [(0, .ref b), (1, .ref o), (2, .ref o2), (3, .int x3)]) (fun v ls _ hl => ?_) (fun K_400 => ?_)
    · skip
      have hFm := hLI.freeM
      refine va_calll (va_runV (As := [.int (xs (x3 + (1 : Int32)).toNatClampNeg), .int (xs (x3 + (2 : Int32)).toNatClampNeg), .int (b01 (xs (x3 + (3 : Int32)).toNatClampNeg))]) (rest := [.long r_1]) ⟨hx, hb, hml, hown, hts⟩ (c_X7_cut l dC dI o2 r cI cJ2 H1.size M (xs (x3 + (1 : Int32)).toNatClampNeg) (xs (x3 + (2 : Int32)).toNatClampNeg) (b01 (xs (x3 + (3 : Int32)).toNatClampNeg)) hR.2.1) (cwV 3 hts (gV iX7_cut (zin__r12 (.methodLink RL 38 yX7_cut) (List.mem_of_getElem? (i := 17) rfl))) rfl rfl rfl (by decide +kernel) ⟨Nat.le_of_ble_eq_true rfl, Nat.le_of_ble_eq_true rfl⟩) ⟨fun a U g mk q => ⟨q.1, mB_bl q.2⟩, mW_rv hLI.2.2.1, fun U hU hW => ⟨rfl, mB_mv hLI.2.2.1 hLI.2.2.2.1 hU hW⟩⟩ rfl rfl hl.1 rfl (lv_room (Nat.le_of_ble_eq_true rfl)) dL_law_400 ⟨(show 22 + 4 * j + 0 + 0 ≤ 600000 by omega), (show 6280 + 502 * j + 0 + 0 ≤ 7302250 by omega)⟩) hS (fun q _ h => hFm q h) hFm (fun r_2 M_1 t2 H2 locs2 ht2 hvm2 hw2 hB2 hz2 hk2 hS2 => ?_)
      have hLI := hLI.callM ht2 hB2 hk2 hS2
      have hE : r_1 = r_2 ∧ Rel S_1 M_1 := by
        have h9 := R_cut hR (xs (x3 + (1 : Int32)).toNatClampNeg) (xs (x3 + (2 : Int32)).toNatClampNeg) (xs (x3 + (3 : Int32)).toNatClampNeg)
        rw [← hw1, ← hw2] at h9
        exact h9
      refine W.lcmp hx hb dL_law_403 ?_
      refine lv_if_eq (tgt := 975) hx hb dL_law_404 (by decide) (fun c_9 => ?_) (fun c_9 => ?_)
      · refine W.widen (k := 22 + 4 * (j + 1)) (n := 6280 + 502 * (j + 1)) (by omega) (by omega) ?_
        exact K S_1 M_1 H2 locs2 ls hE.2 hLI hl
      · exact absurd ((lg_cmp_eq r_1 r_2).mpr hE.1) c_9
    · refine lv_if_eq (tgt := 399) hx hb dL_law_392 (by decide) (fun c_392 => ?_) (fun c_392 => ?_)
      · refine lv_iconst (v := 0) hx hb dL_law_399 (by decide) ?_
        have e_b : b01 (xs (x3 + (3 : Int32)).toNatClampNeg) = 0 := if_pos c_392
        rw [e_b] at K_400
        exact K_400 () ls trivial hl
      · refine lv_iconst (v := 1) hx hb dL_law_395 (by decide) ?_
        refine lv_goto (tgt := 400) hx hb dL_law_396 (by decide) ?_
        have e_b : b01 (xs (x3 + (3 : Int32)).toNatClampNeg) = 1 := if_neg c_392
        rw [e_b] at K_400
        exact K_400 () ls trivial hl
  · refine lv_if_eq (tgt := 372) hx hb dL_law_365 (by decide) (fun c_365 => ?_) (fun c_365 => ?_)
    · refine lv_iconst (v := 0) hx hb dL_law_372 (by decide) ?_
      have e_b : b01 (xs (x3 + (3 : Int32)).toNatClampNeg) = 0 := if_pos c_365
      rw [e_b] at K_373
      exact K_373 () ls trivial hl
    · refine lv_iconst (v := 1) hx hb dL_law_368 (by decide) ?_
      refine lv_goto (tgt := 373) hx hb dL_law_369 (by decide) ?_
      have e_b : b01 (xs (x3 + (3 : Int32)).toNatClampNeg) = 1 := if_neg c_365
      rw [e_b] at K_373
      exact K_373 () ls trivial hl
