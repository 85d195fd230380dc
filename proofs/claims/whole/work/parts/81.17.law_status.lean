set_option maxHeartbeats 4000000 in
set_option maxRecDepth 100000 in
theorem law_status {p : Program} {l : Launch} {e : Env} {m : MethodId} {below : List Frame} {meth : Method} {c : Code} {b L : Nat} {xs : Nat → Int32} {s : State} {dC : Nat → ClassId} {dI : Nat → Nat → Nat} {ad : Nat → Nat} {o rw so ba ma o2 : Nat} {r : Nat → Nat} {cR cJ cI cJ2 : ClassId} {Q : State → Prop} {H : Heap} {locs : List Loc} {S : CSt} {M : MSt} {j : Nat} {ls : Array Slot} {x3 : Int32} (F : lF p m meth c b L xs s ad) (hj : j ≤ 512) (hx3 : 0 ≤ x3.toInt ∧ x3.toInt + 6 ≤ (L : Int)) (hR : Rel S M) (hLI : lI s dC dI ad o rw so ba ma o2 r cR cJ cI cJ2 S M H locs) (hl : lv_has ls 4 [(0, .ref b), (1, .ref o), (2, .ref o2), (3, .int x3)]) (K : ∀ (S : CSt) (M : MSt) (H : Heap) (locs : List Loc) (ls : Array Slot), Rel S M → lI s dC dI ad o rw so ba ma o2 r cR cJ cI cJ2 S M H locs → lv_has ls 4 [(0, .ref b), (1, .ref o), (2, .ref o2), (3, .int x3)] → W p l e room_1 s m #[Value.ref b] below meth c H locs (22 + 4 * (j + 1)) (6280 + 502 * (j + 1)) Q (F0 m 975 ls [])) : W p l e room_1 s m #[Value.ref b] below meth c H locs (22 + 4 * j) (6280 + 502 * j) Q (F0 m 962 ls []) := by
  obtain ⟨hx, hb, hml, hown, hts, hX, hbl, hkA, hZ, had, hL⟩ := id F
  have hbA : ¬ LA0 s b := Nat.not_le.mpr hbl
  have hS := hLI.2.2.2.2.2
  refine lv_aload_n hx hb dL_law_962 rfl (lv_at hl 1 rfl) ?_
  have hFc := hLI.freeC
  refine vp_callSi (va_Run.run (va_runV (As := []) (rest := []) ⟨hx, hb, hml, hown, hts⟩ (c_X6_status l dC dI ad o rw so ba ma cR cJ S) (cwV 0 hts (gV iX6_status (zin__r31 (.methodLink RL 94 yX6_status) (List.mem_of_getElem? (i := 18) rfl))) rfl rfl rfl (by decide +kernel) ⟨Nat.le_of_ble_eq_true rfl, Nat.le_of_ble_eq_true rfl⟩) ⟨fun a U g mk q => ⟨q.1, cW_bl q.2⟩, cW_rv hLI.1, fun U hU hW => ⟨rfl, cW_mv hLI.1 hU hW⟩⟩ rfl rfl hl.1 rfl (lv_room (Nat.le_of_ble_eq_true rfl)) dL_law_963 ⟨(show 22 + 4 * j + 0 ≤ 600000 by omega), (show 6280 + 502 * j + 0 ≤ 7302250 by omega)⟩)) (fun r_1 hw1 => ?_)
  refine lv_aload_n hx hb dL_law_966 rfl (lv_at hl 2 rfl) ?_
  have hFm := hLI.freeM
  refine vp_callSi (va_Run.run (va_runV (As := []) (rest := [.int r_1]) ⟨hx, hb, hml, hown, hts⟩ (c_X7_status l dC dI o2 r cI cJ2 M) (cwV 0 hts (gV iX7_status (zin__r31 (.methodLink RL 98 yX7_status) (List.mem_of_getElem? (i := 22) rfl))) rfl rfl rfl (by decide +kernel) ⟨Nat.le_of_ble_eq_true rfl, Nat.le_of_ble_eq_true rfl⟩) ⟨fun a U g mk q => ⟨q.1, mW_bl q.2⟩, mW_rv hLI.2.2.1, fun U hU hW => ⟨rfl, mW_mv hLI.2.2.1 hU hW⟩⟩ rfl rfl hl.1 rfl (lv_room (Nat.le_of_ble_eq_true rfl)) dL_law_967 ⟨(show 22 + 4 * j + 0 + 0 ≤ 600000 by omega), (show 6280 + 502 * j + 0 + 0 ≤ 7302250 by omega)⟩)) (fun r_2 hw2 => ?_)
  have hE : r_1 = r_2 ∧ Rel S M := ⟨by rw [hw1, hw2]; exact R_status hR, hR⟩
  refine lv_icmp_eq (tgt := 975) hx hb dL_law_970 (by decide) (fun c_9 => ?_) (fun c_9 => ?_)
  · refine W.widen (k := 22 + 4 * (j + 1)) (n := 6280 + 502 * (j + 1)) (by omega) (by omega) ?_
    exact K S M H locs ls hE.2 hLI hl
  · exact absurd hE.1 c_9
