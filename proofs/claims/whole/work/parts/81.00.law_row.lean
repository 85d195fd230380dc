set_option maxHeartbeats 4000000 in
set_option maxRecDepth 100000 in
theorem law_row {p : Program} {l : Launch} {e : Env} {m : MethodId} {below : List Frame} {meth : Method} {c : Code} {b L : Nat} {xs : Nat → Int32} {s : State} {dC : Nat → ClassId} {dI : Nat → Nat → Nat} {ad : Nat → Nat} {o rw so ba ma o2 : Nat} {r : Nat → Nat} {cR cJ cI cJ2 : ClassId} {Q : State → Prop} {H : Heap} {locs : List Loc} {S : CSt} {M : MSt} {j : Nat} {ls : Array Slot} {x3 : Int32} (F : lF p m meth c b L xs s ad) (hj : j ≤ 512) (hx3 : 0 ≤ x3.toInt ∧ x3.toInt + 6 ≤ (L : Int)) (hR : Rel S M) (hLI : lI s dC dI ad o rw so ba ma o2 r cR cJ cI cJ2 S M H locs) (hl : lv_has ls 4 [(0, .ref b), (1, .ref o), (2, .ref o2), (3, .int x3)]) (K : ∀ (S : CSt) (M : MSt) (H : Heap) (locs : List Loc) (ls : Array Slot), Rel S M → lI s dC dI ad o rw so ba ma o2 r cR cJ cI cJ2 S M H locs → lv_has ls 4 [(0, .ref b), (1, .ref o), (2, .ref o2), (3, .int x3)] → W p l e room_1 s m #[Value.ref b] below meth c H locs (22 + 4 * (j + 1)) (6280 + 502 * (j + 1)) Q (F0 m 975 ls [])) : W p l e room_1 s m #[Value.ref b] below meth c H locs (22 + 4 * j) (6280 + 502 * j) Q (F0 m 120 ls []) := by
  obtain ⟨hx, hb, hml, hown, hts, hX, hbl, hkA, hZ, had, hL⟩ := id F
  have hbA : ¬ LA0 s b := Nat.not_le.mpr hbl
  have hS := hLI.2.2.2.2.2
  refine lv_aload_n hx hb dL_law_120 rfl (lv_at hl 1 rfl) ?_
  refine lv_aload_n hx hb dL_law_121 rfl (lv_at hl 0 rfl) ?_
  refine lv_iload_n hx hb dL_law_122 rfl (lv_at hl 3 rfl) ?_
  refine lv_iconst (v := 1) hx hb dL_law_123 (by decide) ?_
  refine lv_iadd hx hb dL_law_124 ?_
  refine va_sld hx hb hX hbl hbA hS (l_in hL hx3 (by decide)) dL_law_125 ?_
  refine lv_aload_n hx hb dL_law_126 rfl (lv_at hl 0 rfl) ?_
  refine lv_iload_n hx hb dL_law_127 rfl (lv_at hl 3 rfl) ?_
  refine lv_iconst (v := 2) hx hb dL_law_128 (by decide) ?_
  refine lv_iadd hx hb dL_law_129 ?_
  refine va_sld hx hb hX hbl hbA hS (l_in hL hx3 (by decide)) dL_law_130 ?_
  refine W_cut (α := Unit) (pcJ := 139) (nL := 4) (fun _ => True) (fun _ => [.int (b01 (xs (x3 + (2 : Int32)).toNatClampNeg)), .int (xs (x3 + (1 : Int32)).toNatClampNeg), .ref o]) (fun _ => [(0, .ref b), (1, .ref o), (2, .ref o2), (3, .int x3)]) (fun v ls _ hl => ?_) (fun K_139 => ?_)
  · skip
    have hFc := hLI.freeC
    refine va_calli (va_runV (As := [.int (xs (x3 + (1 : Int32)).toNatClampNeg), .int (b01 (xs (x3 + (2 : Int32)).toNatClampNeg))]) (rest := []) ⟨hx, hb, hml, hown, hts⟩ (c_X6_row l dC dI ad o rw so ba ma cR cJ H.size S (xs (x3 + (1 : Int32)).toNatClampNeg) (b01 (xs (x3 + (2 : Int32)).toNatClampNeg)) hR.1) (cwV 2 hts (gV iX6_row (zin__r3 (.methodLink RL 13 yX6_row) (List.mem_of_getElem? (i := 10) rfl))) rfl rfl rfl (by decide +kernel) ⟨Nat.le_of_ble_eq_true rfl, Nat.le_of_ble_eq_true rfl⟩) ⟨fun a U g mk q => ⟨q.1, ⟨cB_bl q.2.1, kZ_bl q.2.2⟩⟩, cW_rv hLI.1, fun U hU hW => ⟨rfl, ⟨cB_mv hLI.1 hLI.2.1 (kA_in hkA hS hFc) hU hW, kZ_at hZ hS hFc hU hW⟩⟩⟩ rfl rfl hl.1 rfl (lv_room (Nat.le_of_ble_eq_true rfl)) dL_law_139 ⟨(show 22 + 4 * j + 2 ≤ 600000 by omega), (show 6280 + 502 * j + 502 ≤ 7302250 by omega)⟩) hS (fun q _ h => hFc q h) hFc (fun r_1 S_1 t H1 locs1 ht hvm hw1 hB hz1 hk1 hS1 => ?_)
    have hLI := hLI.callC ht hB hk1 hS1
    have hS := hS1
    refine lv_aload_n hx hb dL_law_142 rfl (lv_at hl 2 rfl) ?_
    refine lv_aload_n hx hb dL_law_143 rfl (lv_at hl 0 rfl) ?_
    refine lv_iload_n hx hb dL_law_144 rfl (lv_at hl 3 rfl) ?_
    refine lv_iconst (v := 1) hx hb dL_law_145 (by decide) ?_
    refine lv_iadd hx hb dL_law_146 ?_
    refine va_sld hx hb hX hbl hbA hS (l_in hL hx3 (by decide)) dL_law_147 ?_
    refine lv_aload_n hx hb dL_law_148 rfl (lv_at hl 0 rfl) ?_
    refine lv_iload_n hx hb dL_law_149 rfl (lv_at hl 3 rfl) ?_
    refine lv_iconst (v := 2) hx hb dL_law_150 (by decide) ?_
    refine lv_iadd hx hb dL_law_151 ?_
    refine va_sld hx hb hX hbl hbA hS (l_in hL hx3 (by decide)) dL_law_152 ?_
    refine W_cut (α := Unit) (pcJ := 161) (nL := 4) (fun _ => True) (fun _ => [.int (b01 (xs (x3 + (2 : Int32)).toNatClampNeg)), .int (xs (x3 + (1 : Int32)).toNatClampNeg), .ref o2, .int r_1]) (fun _ => [(0, .ref b), (1, .ref o), (2, .ref o2), (3, .int x3)]) (fun v ls _ hl => ?_) (fun K_161 => ?_)
    · skip
      have hFm := hLI.freeM
      refine va_calli (va_runV (As := [.int (xs (x3 + (1 : Int32)).toNatClampNeg), .int (b01 (xs (x3 + (2 : Int32)).toNatClampNeg))]) (rest := [.int r_1]) ⟨hx, hb, hml, hown, hts⟩ (c_X7_row l dC dI o2 r cI cJ2 H1.size M (xs (x3 + (1 : Int32)).toNatClampNeg) (b01 (xs (x3 + (2 : Int32)).toNatClampNeg)) hR.2.1) (cwV 2 hts (gV iX7_row (zin__r4 (.methodLink RL 17 yX7_row) (List.mem_of_getElem? (i := 8) rfl))) rfl rfl rfl (by decide +kernel) ⟨Nat.le_of_ble_eq_true rfl, Nat.le_of_ble_eq_true rfl⟩) ⟨fun a U g mk q => ⟨q.1, mB_bl q.2⟩, mW_rv hLI.2.2.1, fun U hU hW => ⟨rfl, mB_mv hLI.2.2.1 hLI.2.2.2.1 hU hW⟩⟩ rfl rfl hl.1 rfl (lv_room (Nat.le_of_ble_eq_true rfl)) dL_law_161 ⟨(show 22 + 4 * j + 2 + 0 ≤ 600000 by omega), (show 6280 + 502 * j + 502 + 0 ≤ 7302250 by omega)⟩) hS (fun q _ h => hFm q h) hFm (fun r_2 M_1 t2 H2 locs2 ht2 hvm2 hw2 hB2 hz2 hk2 hS2 => ?_)
      have hLI := hLI.callM ht2 hB2 hk2 hS2
      obtain ⟨q9, na9, hw1⟩ := hw1
      have hE : r_1 = r_2 ∧ Rel S_1 M_1 := by
        have h9 := R_row hR (xs (x3 + (1 : Int32)).toNatClampNeg) (xs (x3 + (2 : Int32)).toNatClampNeg) q9 na9
        rw [← hw1, ← hw2] at h9
        exact h9
      refine lv_icmp_eq (tgt := 975) hx hb dL_law_164 (by decide) (fun c_9 => ?_) (fun c_9 => ?_)
      · refine W.widen (k := 22 + 4 * (j + 1)) (n := 6280 + 502 * (j + 1)) (by omega) (by omega) ?_
        exact K S_1 M_1 H2 locs2 ls hE.2 hLI hl
      · exact absurd hE.1 c_9
    · refine lv_if_eq (tgt := 160) hx hb dL_law_153 (by decide) (fun c_153 => ?_) (fun c_153 => ?_)
      · refine lv_iconst (v := 0) hx hb dL_law_160 (by decide) ?_
        have e_b : b01 (xs (x3 + (2 : Int32)).toNatClampNeg) = 0 := if_pos c_153
        rw [e_b] at K_161
        exact K_161 () ls trivial hl
      · refine lv_iconst (v := 1) hx hb dL_law_156 (by decide) ?_
        refine lv_goto (tgt := 161) hx hb dL_law_157 (by decide) ?_
        have e_b : b01 (xs (x3 + (2 : Int32)).toNatClampNeg) = 1 := if_neg c_153
        rw [e_b] at K_161
        exact K_161 () ls trivial hl
  · refine lv_if_eq (tgt := 138) hx hb dL_law_131 (by decide) (fun c_131 => ?_) (fun c_131 => ?_)
    · refine lv_iconst (v := 0) hx hb dL_law_138 (by decide) ?_
      have e_b : b01 (xs (x3 + (2 : Int32)).toNatClampNeg) = 0 := if_pos c_131
      rw [e_b] at K_139
      exact K_139 () ls trivial hl
    · refine lv_iconst (v := 1) hx hb dL_law_134 (by decide) ?_
      refine lv_goto (tgt := 139) hx hb dL_law_135 (by decide) ?_
      have e_b : b01 (xs (x3 + (2 : Int32)).toNatClampNeg) = 1 := if_neg c_131
      rw [e_b] at K_139
      exact K_139 () ls trivial hl
