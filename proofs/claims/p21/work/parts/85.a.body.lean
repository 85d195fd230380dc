set_option maxHeartbeats 16000000 in
set_option maxRecDepth 100000 in
theorem law_body {p : Program} {l : Launch} {e : Env} {m : MethodId} {below : List Frame} {meth : Method} {c : Code} {b L : Nat} {xs : Nat → Int32} {s : State} {dC : Nat → ClassId} {dI : Nat → Nat → Nat} {ad : Nat → Nat} {o rw so ba ma : Nat} {cR cJ : ClassId} {T0 : CSt} {k : Nat} {Q : State → Prop} (F : lF p m c b L xs s ad) (hk : k < 2) (h1 : one12 T0 k) {j : Nat} (hj : j ≤ 14) {x3 : Int32} (ex3 : x3 = nI (1 + 4 * j)) {f : Nat → Int64} {H : Heap} {locs : List Loc} {ls : Array Slot} (hI : lS s dC dI ad o rw so ba ma cR cJ (stB T0 f) H locs) (hl : lv_has ls 11 [(3, .int x3), (1, .ref o), (0, .ref b)])
    (K : ∀ (g : Nat → Int64) (H : Heap) (locs : List Loc) (ls : Array Slot) (y3 : Int32), lS s dC dI ad o rw so ba ma cR cJ (stB T0 g) H locs → y3 = nI (1 + 4 * j + 4) → lv_has ls 11 [(3, .int y3), (1, .ref o), (0, .ref b)] → W p l e room_1 s m #[Value.ref b] below meth c H locs (10 + 16 * (j + 1)) (2000 + 48 * (j + 1)) Q (F0 m 35 ls [])) : W p l e room_1 s m #[Value.ref b] below meth c H locs (10 + 16 * j) (2000 + 48 * j) Q (F0 m 54 ls []) := by
  obtain ⟨hx, hb, hml, hown, hts, hX, hbl, hTb, hkA, had, hL⟩ := id F
  obtain ⟨hw, hD, hS⟩ := hI
  obtain ⟨hP, hK⟩ := id hw
  have hA : ∀ q : Nat, s.heap.size ≤ q → LA0 s q := fun _ h => h
  refine lv_aload_n hx hb dL_law_54 rfl (lv_at hl 2 rfl) ?_
  refine lv_iload_n hx hb dL_law_55 rfl (lv_at hl 0 rfl) ?_
  refine vp_callSi (va_Run.run (va_runS (As := [.ref b, .int x3]) (rest := []) ⟨hx, hb, hml, hown, hts⟩ (c_L_cell l b L xs hL x3 (x3_nn (by omega) ex3)) (va_cwS 2 hts (gS iL_cell (zin__r2 (.methodLink RL 14 yL_cell) (List.mem_of_getElem? (i := 2) rfl))) rfl rfl rfl (by decide +kernel) ⟨Nat.le_of_ble_eq_true rfl, Nat.le_of_ble_eq_true rfl⟩) ⟨fun a U g mk q => ⟨q.1, va_T.moved (u := U) (U := U.calling g mk a) (Vm.Alike.refl U.vm) q.2⟩, fun U hU hW => ⟨rfl, tX_mv hTb hS hU hW⟩⟩ rfl rfl hl.1 rfl (lv_room (Nat.le_of_ble_eq_true rfl)) dL_law_56 ⟨(show 10 + 16 * j + 0 ≤ 692346 by omega), (show 2000 + 48 * j + 0 ≤ 7025209 by omega)⟩)) (fun r_56 _ => ?_)
  refine lv_i2l (v := ((r_56).toInt64)) hx hb dL_law_59 rfl ?_
  refine lv_bipush (v := 32) hx hb dL_law_60 (by decide) ?_
  refine lv_lshl (v := (jlshl ((r_56).toInt64) (32 : Int32))) hx hb dL_law_62 rfl ?_
  refine lv_aload_n hx hb dL_law_63 rfl (lv_at hl 2 rfl) ?_
  refine lv_iload_n hx hb dL_law_64 rfl (lv_at hl 0 rfl) ?_
  refine lv_iconst (v := 1) hx hb dL_law_65 (by decide) ?_
  refine lv_iadd hx hb dL_law_66 ?_
  refine vp_callSi (va_Run.run (va_runS (As := [.ref b, .int (x3 + (1 : Int32))]) (rest := [.long (jlshl ((r_56).toInt64) (32 : Int32))]) ⟨hx, hb, hml, hown, hts⟩ (c_L_cell l b L xs hL (x3 + (1 : Int32)) (x3_nnd (d := 1) (by omega) (by decide) ex3)) (va_cwS 2 hts (gS iL_cell (zin__r2 (.methodLink RL 14 yL_cell) (List.mem_of_getElem? (i := 2) rfl))) rfl rfl rfl (by decide +kernel) ⟨Nat.le_of_ble_eq_true rfl, Nat.le_of_ble_eq_true rfl⟩) ⟨fun a U g mk q => ⟨q.1, va_T.moved (u := U) (U := U.calling g mk a) (Vm.Alike.refl U.vm) q.2⟩, fun U hU hW => ⟨rfl, tX_mv hTb hS hU hW⟩⟩ rfl rfl hl.1 rfl (lv_room (Nat.le_of_ble_eq_true rfl)) dL_law_67 ⟨(show 10 + 16 * j + 0 ≤ 692346 by omega), (show 2000 + 48 * j + 0 ≤ 7025209 by omega)⟩)) (fun r_67 _ => ?_)
  refine lv_i2l (v := ((r_67).toInt64)) hx hb dL_law_70 rfl ?_
  refine lv_ldc2 (v := 4294967295) hx hb hown (hts _ (zin__r1 (.constantLong RL 24 (4294967295)) (List.mem_of_getElem? (i := 3) rfl))) dL_law_71 ?_
  refine lv_land hx hb dL_law_74 ?_
  refine lv_lor hx hb dL_law_75 ?_
  refine lv_topl (fun v4_1 e_v4_1 => ?_)
  refine lv_lstore (lv' := [(4, .long v4_1), (3, .int x3), (1, .ref o), (0, .ref b)]) hx hb dL_law_76 hl (by decide) rfl (fun ls hl => ?_)
  refine lv_aload_n hx hb dL_law_78 rfl (lv_at hl 3 rfl) ?_
  refine lv_iload_n hx hb dL_law_79 rfl (lv_at hl 1 rfl) ?_
  refine lv_iconst (v := 2) hx hb dL_law_80 (by decide) ?_
  refine lv_iadd hx hb dL_law_81 ?_
  refine vp_callSi (va_Run.run (va_runS (As := [.ref b, .int (x3 + (2 : Int32))]) (rest := []) ⟨hx, hb, hml, hown, hts⟩ (c_L_cell l b L xs hL (x3 + (2 : Int32)) (x3_nnd (d := 2) (by omega) (by decide) ex3)) (va_cwS 2 hts (gS iL_cell (zin__r2 (.methodLink RL 14 yL_cell) (List.mem_of_getElem? (i := 2) rfl))) rfl rfl rfl (by decide +kernel) ⟨Nat.le_of_ble_eq_true rfl, Nat.le_of_ble_eq_true rfl⟩) ⟨fun a U g mk q => ⟨q.1, va_T.moved (u := U) (U := U.calling g mk a) (Vm.Alike.refl U.vm) q.2⟩, fun U hU hW => ⟨rfl, tX_mv hTb hS hU hW⟩⟩ rfl rfl hl.1 rfl (lv_room (Nat.le_of_ble_eq_true rfl)) dL_law_82 ⟨(show 10 + 16 * j + 0 ≤ 692346 by omega), (show 2000 + 48 * j + 0 ≤ 7025209 by omega)⟩)) (fun r_82 _ => ?_)
  refine lv_i2l (v := ((r_82).toInt64)) hx hb dL_law_85 rfl ?_
  refine lv_bipush (v := 32) hx hb dL_law_86 (by decide) ?_
  refine lv_lshl (v := (jlshl ((r_82).toInt64) (32 : Int32))) hx hb dL_law_88 rfl ?_
  refine lv_aload_n hx hb dL_law_89 rfl (lv_at hl 3 rfl) ?_
  refine lv_iload_n hx hb dL_law_90 rfl (lv_at hl 1 rfl) ?_
  refine lv_iconst (v := 3) hx hb dL_law_91 (by decide) ?_
  refine lv_iadd hx hb dL_law_92 ?_
  refine vp_callSi (va_Run.run (va_runS (As := [.ref b, .int (x3 + (3 : Int32))]) (rest := [.long (jlshl ((r_82).toInt64) (32 : Int32))]) ⟨hx, hb, hml, hown, hts⟩ (c_L_cell l b L xs hL (x3 + (3 : Int32)) (x3_nnd (d := 3) (by omega) (by decide) ex3)) (va_cwS 2 hts (gS iL_cell (zin__r2 (.methodLink RL 14 yL_cell) (List.mem_of_getElem? (i := 2) rfl))) rfl rfl rfl (by decide +kernel) ⟨Nat.le_of_ble_eq_true rfl, Nat.le_of_ble_eq_true rfl⟩) ⟨fun a U g mk q => ⟨q.1, va_T.moved (u := U) (U := U.calling g mk a) (Vm.Alike.refl U.vm) q.2⟩, fun U hU hW => ⟨rfl, tX_mv hTb hS hU hW⟩⟩ rfl rfl hl.1 rfl (lv_room (Nat.le_of_ble_eq_true rfl)) dL_law_93 ⟨(show 10 + 16 * j + 0 ≤ 692346 by omega), (show 2000 + 48 * j + 0 ≤ 7025209 by omega)⟩)) (fun r_93 _ => ?_)
  refine lv_i2l (v := ((r_93).toInt64)) hx hb dL_law_96 rfl ?_
  refine lv_ldc2 (v := 4294967295) hx hb hown (hts _ (zin__r1 (.constantLong RL 24 (4294967295)) (List.mem_of_getElem? (i := 3) rfl))) dL_law_97 ?_
  refine lv_land hx hb dL_law_100 ?_
  refine lv_lor hx hb dL_law_101 ?_
  refine lv_topl (fun v6_2 e_v6_2 => ?_)
  refine lv_lstore (lv' := [(6, .long v6_2), (4, .long v4_1), (3, .int x3), (1, .ref o), (0, .ref b)]) hx hb dL_law_102 hl (by decide) rfl (fun ls hl => ?_)
  refine lv_aload_n hx hb dL_law_104 rfl (lv_at hl 3 rfl) ?_
  refine lv_iconst (v := 0) hx hb dL_law_105 (by decide) ?_
  refine lv_iconst (v := 0) hx hb dL_law_106 (by decide) ?_
  refine lv_lload hx hb dL_law_107 (lv_at hl 1 rfl) ?_
  have hFc := va_freeAll hD hS hA
  refine va_calli (va_runV (As := [.int (0 : Int32), .int (0 : Int32), .long v4_1]) (rest := []) ⟨hx, hb, hml, hown, hts⟩ (c_X6_set l dC dI ad o rw so ba ma cR cJ H.size (stB T0 f) (0 : Int32) (0 : Int32) v4_1 (inv12 h1 hk)) (cwV 3 hts (gV iX6_set (zin__r3 (.methodLink RL 26 yX6_set) (List.mem_of_getElem? (i := 4) rfl))) rfl rfl rfl (by decide +kernel) ⟨Nat.le_of_ble_eq_true rfl, Nat.le_of_ble_eq_true rfl⟩) ⟨fun a U g mk q => ⟨q.1, cB_bl q.2⟩, cW_rv hw, fun U hU hW => ⟨rfl, cB_mv hw hD (kA_in hkA hS hFc) hU hW⟩⟩ rfl rfl hl.1 rfl (lv_room (Nat.le_of_ble_eq_true rfl)) dL_law_109 ⟨(show 10 + 16 * j + 0 ≤ 692346 by omega), (show 2000 + 48 * j + 0 ≤ 7025209 by omega)⟩) hS (fun q _ h => hFc q h) hFc (fun r_109 S_109 t H1 locs ht hvm hw1 hB hz1 hk1 hS => ?_)
  obtain ⟨hP, -, hD1⟩ := hB
  rw [ht] at hP
  have hD := hD1.weaken (fun k q _ h => hFc q.1 h)
  generalize H1 = H at hP hS ⊢
  obtain ⟨V_109, eV_109⟩ : ∃ z, z = f_X1_cleaned k v4_1 := ⟨_, rfl⟩
  obtain ⟨F_109, eF_109⟩ : ∃ z, z = vp_updL f 0 V_109 := ⟨_, rfl⟩
  obtain ⟨rfl, rfl⟩ : r_109 = f_X1_sortOf k V_109 ∧ S_109 = stB T0 F_109 := by rw [eF_109, eV_109]; exact Prod.mk.inj (hw1.trans (set_at (i := 0) h1 (by decide)))
  have q109_0 : F_109 0 = V_109 := by rw [eF_109]; exact updL_eq
  have hw : cH dC dI ad o rw so ba ma cR cJ (stB T0 F_109) s H := ⟨hP, hK⟩
  refine lv_istore (lv' := [(8, .int (f_X1_sortOf k V_109)), (6, .long v6_2), (4, .long v4_1), (3, .int x3), (1, .ref o), (0, .ref b)]) hx hb dL_law_112 hl (by decide) rfl (fun ls hl => ?_)
  refine lv_aload_n hx hb dL_law_114 rfl (lv_at hl 4 rfl) ?_
  refine lv_iconst (v := 0) hx hb dL_law_115 (by decide) ?_
  refine lv_iconst (v := 1) hx hb dL_law_116 (by decide) ?_
  refine lv_lload hx hb dL_law_117 (lv_at hl 1 rfl) ?_
  have hFc := va_freeAll hD hS hA
  refine va_calli (va_runV (As := [.int (0 : Int32), .int (1 : Int32), .long v6_2]) (rest := []) ⟨hx, hb, hml, hown, hts⟩ (c_X6_set l dC dI ad o rw so ba ma cR cJ H.size (stB T0 F_109) (0 : Int32) (1 : Int32) v6_2 (inv12 h1 hk)) (cwV 3 hts (gV iX6_set (zin__r3 (.methodLink RL 26 yX6_set) (List.mem_of_getElem? (i := 4) rfl))) rfl rfl rfl (by decide +kernel) ⟨Nat.le_of_ble_eq_true rfl, Nat.le_of_ble_eq_true rfl⟩) ⟨fun a U g mk q => ⟨q.1, cB_bl q.2⟩, cW_rv hw, fun U hU hW => ⟨rfl, cB_mv hw hD (kA_in hkA hS hFc) hU hW⟩⟩ rfl rfl hl.1 rfl (lv_room (Nat.le_of_ble_eq_true rfl)) dL_law_119 ⟨(show 10 + 16 * j + 0 ≤ 692346 by omega), (show 2000 + 48 * j + 0 ≤ 7025209 by omega)⟩) hS (fun q _ h => hFc q h) hFc (fun r_119 S_119 t H1 locs ht hvm hw1 hB hz1 hk1 hS => ?_)
  obtain ⟨hP, -, hD1⟩ := hB
  rw [ht] at hP
  have hD := hD1.weaken (fun k q _ h => hFc q.1 h)
  generalize H1 = H at hP hS ⊢
  obtain ⟨V_119, eV_119⟩ : ∃ z, z = f_X1_cleaned k v6_2 := ⟨_, rfl⟩
  obtain ⟨F_119, eF_119⟩ : ∃ z, z = vp_updL F_109 1 V_119 := ⟨_, rfl⟩
  obtain ⟨rfl, rfl⟩ : r_119 = f_X1_sortOf k V_119 ∧ S_119 = stB T0 F_119 := by rw [eF_119, eV_119]; exact Prod.mk.inj (hw1.trans (set_at (i := 1) h1 (by decide)))
  have q119_0 : F_119 0 = V_109 := by rw [eF_119, updL_ne (by decide)]; exact q109_0
  have q119_1 : F_119 1 = V_119 := by rw [eF_119]; exact updL_eq
  have hw : cH dC dI ad o rw so ba ma cR cJ (stB T0 F_119) s H := ⟨hP, hK⟩
  refine lv_istore (lv' := [(9, .int (f_X1_sortOf k V_119)), (8, .int (f_X1_sortOf k V_109)), (6, .long v6_2), (4, .long v4_1), (3, .int x3), (1, .ref o), (0, .ref b)]) hx hb dL_law_122 hl (by decide) rfl (fun ls hl => ?_)
  have cx : kcn k V_109 := by rw [eV_109, (cleaned_eq hk _).1]; exact (cleaned_eq hk _).2
  have cy : kcn k V_119 := by rw [eV_119, (cleaned_eq hk _).1]; exact (cleaned_eq hk _).2
  rcases Decidable.em (V_109 = knan k) with hxn | hxn
  · rcases Decidable.em (V_119 = knan k) with hyn | hyn
    · refine lv_aload_n hx hb dL_law_124 rfl (lv_at hl 5 rfl) ?_
      refine lv_iload hx hb dL_law_125 (lv_at hl 1 rfl) ?_
      refine lv_iconst (v := 3) hx hb dL_law_127 (by decide) ?_
      refine lv_icmp_ne (tgt := 135) hx hb dL_law_128 (by decide) (fun c => absurd (show (f_X1_sortOf k V_109) = (3 : Int32) from (sort_3 hk cx).mpr hxn) c) (fun _ => ?_)
      refine lv_iconst (v := 1) hx hb dL_law_131 (by decide) ?_
      refine lv_goto (tgt := 136) hx hb dL_law_132 (by decide) ?_
      refine lv_iload hx hb dL_law_136 (lv_at hl 0 rfl) ?_
      refine lv_iconst (v := 3) hx hb dL_law_138 (by decide) ?_
      refine lv_icmp_ne (tgt := 146) hx hb dL_law_139 (by decide) (fun c => absurd (show (f_X1_sortOf k V_119) = (3 : Int32) from (sort_3 hk cy).mpr hyn) c) (fun _ => ?_)
      refine lv_iconst (v := 1) hx hb dL_law_142 (by decide) ?_
      refine lv_goto (tgt := 147) hx hb dL_law_143 (by decide) ?_
      have hFc := va_freeAll hD hS hA
      refine va_calli (va_runS (As := [.ref o, .int (1 : Int32), .int (1 : Int32)]) (rest := []) ⟨hx, hb, hml, hown, hts⟩ (c_L_isOrdered l dC dI ad o rw so ba ma cR cJ H.size T0 k F_119 hk h1 (1 : Int32) (1 : Int32) V_109 V_119 q119_0 q119_1 cx cy (if_pos hxn).symm (if_pos hyn).symm) (va_cwS 3 hts (gS iL_isOrdered (zin__r4 (.methodLink RL 30 yL_isOrdered) (List.mem_of_getElem? (i := 21) rfl))) rfl rfl rfl (by decide +kernel) ⟨Nat.le_of_ble_eq_true rfl, Nat.le_of_ble_eq_true rfl⟩) ⟨fun a U g mk q => ⟨q.1, cB_bl q.2⟩, fun U hU hW => ⟨rfl, cB_mv hw hD (kA_in hkA hS hFc) hU hW⟩⟩ rfl rfl hl.1 rfl (lv_room (Nat.le_of_ble_eq_true rfl)) dL_law_147 ⟨(show 10 + 16 * j + 0 ≤ 692346 by omega), (show 2000 + 48 * j + 0 ≤ 7025209 by omega)⟩) hS (fun q _ h => hFc q h) hFc (fun r_147 S_147 t H1 locs ht hvm hw1 hB hz1 hk1 hS => ?_)
      obtain ⟨hP, -, hD1⟩ := hB
      rw [ht] at hP
      have hD := hD1.weaken (fun k q _ h => hFc q.1 h)
      generalize H1 = H at hP hS ⊢
      obtain ⟨rfl, F_147, q147_0, q147_1, rfl⟩ := hw1
      have hw : cH dC dI ad o rw so ba ma cR cJ (stB T0 F_147) s H := ⟨hP, hK⟩
      refine lv_if_eq (tgt := 185) hx hb dL_law_150 (by decide) (fun c => absurd c (show ¬ ((1 : Int32) = 0) from by decide)) (fun _ => ?_)
      refine lv_aload_n hx hb dL_law_153 rfl (lv_at hl 5 rfl) ?_
      have hFc := va_freeAll hD hS hA
      refine va_calli (va_runS (As := [.ref o]) (rest := []) ⟨hx, hb, hml, hown, hts⟩ (c_L_isReckoned l dC dI ad o rw so ba ma cR cJ H.size T0 k F_147 hk h1 V_109 V_119 q147_0 q147_1 cx cy) (va_cwS 1 hts (gS iL_isReckoned (zin__r7 (.methodLink RL 34 yL_isReckoned) (List.mem_of_getElem? (i := 3) rfl))) rfl rfl rfl (by decide +kernel) ⟨Nat.le_of_ble_eq_true rfl, Nat.le_of_ble_eq_true rfl⟩) ⟨fun a U g mk q => ⟨q.1, cB_bl q.2⟩, fun U hU hW => ⟨rfl, cB_mv hw hD (kA_in hkA hS hFc) hU hW⟩⟩ rfl rfl hl.1 rfl (lv_room (Nat.le_of_ble_eq_true rfl)) dL_law_154 ⟨(show 10 + 16 * j + 0 ≤ 692346 by omega), (show 2000 + 48 * j + 0 ≤ 7025209 by omega)⟩) hS (fun q _ h => hFc q h) hFc (fun r_154 S_154 t H1 locs ht hvm hw1 hB hz1 hk1 hS => ?_)
      obtain ⟨hP, -, hD1⟩ := hB
      rw [ht] at hP
      have hD := hD1.weaken (fun k q _ h => hFc q.1 h)
      generalize H1 = H at hP hS ⊢
      obtain ⟨rfl, F_154, q154_0, q154_1, rfl⟩ := hw1
      have hw : cH dC dI ad o rw so ba ma cR cJ (stB T0 F_154) s H := ⟨hP, hK⟩
      refine lv_if_eq (tgt := 185) hx hb dL_law_157 (by decide) (fun c => absurd c (show ¬ ((1 : Int32) = 0) from by decide)) (fun _ => ?_)
      refine lv_aload_n hx hb dL_law_160 rfl (lv_at hl 5 rfl) ?_
      refine lv_iload hx hb dL_law_161 (lv_at hl 1 rfl) ?_
      refine lv_iconst (v := 3) hx hb dL_law_163 (by decide) ?_
      refine lv_icmp_ne (tgt := 171) hx hb dL_law_164 (by decide) (fun c => absurd (show (f_X1_sortOf k V_109) = (3 : Int32) from (sort_3 hk cx).mpr hxn) c) (fun _ => ?_)
      refine lv_iconst (v := 1) hx hb dL_law_167 (by decide) ?_
      refine lv_goto (tgt := 172) hx hb dL_law_168 (by decide) ?_
      have hFc := va_freeAll hD hS hA
      refine va_calli (va_runS (As := [.ref o, .int (1 : Int32)]) (rest := []) ⟨hx, hb, hml, hown, hts⟩ (c_L_isAbout l dC dI ad o rw so ba ma cR cJ H.size T0 k F_154 hk h1 (1 : Int32) V_109 V_119 q154_0 q154_1 cx cy (if_pos hxn).symm) (va_cwS 2 hts (gS iL_isAbout (zin__r11 (.methodLink RL 38 yL_isAbout) (List.mem_of_getElem? (i := 23) rfl))) rfl rfl rfl (by decide +kernel) ⟨Nat.le_of_ble_eq_true rfl, Nat.le_of_ble_eq_true rfl⟩) ⟨fun a U g mk q => ⟨q.1, cB_bl q.2⟩, fun U hU hW => ⟨rfl, cB_mv hw hD (kA_in hkA hS hFc) hU hW⟩⟩ rfl rfl hl.1 rfl (lv_room (Nat.le_of_ble_eq_true rfl)) dL_law_172 ⟨(show 10 + 16 * j + 0 ≤ 692346 by omega), (show 2000 + 48 * j + 0 ≤ 7025209 by omega)⟩) hS (fun q _ h => hFc q h) hFc (fun r_172 S_172 t H1 locs ht hvm hw1 hB hz1 hk1 hS => ?_)
      obtain ⟨hP, -, hD1⟩ := hB
      rw [ht] at hP
      have hD := hD1.weaken (fun k q _ h => hFc q.1 h)
      generalize H1 = H at hP hS ⊢
      obtain ⟨rfl, F_172, q172_0, q172_1, rfl⟩ := hw1
      have hw : cH dC dI ad o rw so ba ma cR cJ (stB T0 F_172) s H := ⟨hP, hK⟩
      refine lv_if_eq (tgt := 185) hx hb dL_law_175 (by decide) (fun c => absurd c (show ¬ ((1 : Int32) = 0) from by decide)) (fun _ => ?_)
      refine lv_aload_n hx hb dL_law_178 rfl (lv_at hl 5 rfl) ?_
      have hFc := va_freeAll hD hS hA
      refine va_calli (va_runS (As := [.ref o]) (rest := []) ⟨hx, hb, hml, hown, hts⟩ (c_L_isLeft l dC dI ad o rw so ba ma cR cJ H.size T0 k F_172 hk h1 V_109 V_119 q172_0 q172_1 cx cy) (va_cwS 1 hts (gS iL_isLeft (zin__r12 (.methodLink RL 42 yL_isLeft) (List.mem_of_getElem? (i := 2) rfl))) rfl rfl rfl (by decide +kernel) ⟨Nat.le_of_ble_eq_true rfl, Nat.le_of_ble_eq_true rfl⟩) ⟨fun a U g mk q => ⟨q.1, cB_bl q.2⟩, fun U hU hW => ⟨rfl, cB_mv hw hD (kA_in hkA hS hFc) hU hW⟩⟩ rfl rfl hl.1 rfl (lv_room (Nat.le_of_ble_eq_true rfl)) dL_law_179 ⟨(show 10 + 16 * j + 0 ≤ 692346 by omega), (show 2000 + 48 * j + 0 ≤ 7025209 by omega)⟩) hS (fun q _ h => hFc q h) hFc (fun r_179 S_179 t H1 locs ht hvm hw1 hB hz1 hk1 hS => ?_)
      obtain ⟨hP, -, hD1⟩ := hB
      rw [ht] at hP
      have hD := hD1.weaken (fun k q _ h => hFc q.1 h)
      generalize H1 = H at hP hS ⊢
      obtain ⟨rfl, F_179, q179_0, q179_1, rfl⟩ := hw1
      have hw : cH dC dI ad o rw so ba ma cR cJ (stB T0 F_179) s H := ⟨hP, hK⟩
      refine lv_if_ne (tgt := 187) hx hb dL_law_182 (by decide) (fun _ => ?_) (fun c => absurd c (show ¬ ((1 : Int32) = 0) from by decide))
      refine lv_iconst (v := 0) hx hb dL_law_187 (by decide) ?_
      refine lv_istore (lv' := [(10, .int (0 : Int32)), (9, .int (f_X1_sortOf k V_119)), (8, .int (f_X1_sortOf k V_109)), (6, .long v6_2), (4, .long v4_1), (3, .int x3), (1, .ref o), (0, .ref b)]) hx hb dL_law_188 hl (by decide) rfl (fun ls hl => ?_)
      refine lv_iload hx hb dL_law_190 (lv_at hl 0 rfl) ?_
      refine lv_iconst (v := 4) hx hb dL_law_192 (by decide) ?_
      refine lv_icmp_ge (tgt := 213) hx hb dL_law_193 (by decide) (fun c => absurd c (show ¬ ((4 : Int32) ≤ (0 : Int32)) from by decide)) (fun _ => ?_)
      refine lv_aload_n hx hb dL_law_196 rfl (lv_at hl 6 rfl) ?_
      refine lv_iload hx hb dL_law_197 (lv_at hl 0 rfl) ?_
      have hFc := va_freeAll hD hS hA
      refine va_calli (va_runS (As := [.ref o, .int (0 : Int32)]) (rest := []) ⟨hx, hb, hml, hown, hts⟩ (c_L_isHeld l dC dI ad o rw so ba ma cR cJ H.size T0 k F_179 hk h1 had (0 : Int32) 0 rfl (by decide) V_109 V_119 q179_0 q179_1 cx cy) (va_cwS 2 hts (gS iL_isHeld (zin__r12 (.methodLink RL 45 yL_isHeld) (List.mem_of_getElem? (i := 5) rfl))) rfl rfl rfl (by decide +kernel) ⟨Nat.le_of_ble_eq_true rfl, Nat.le_of_ble_eq_true rfl⟩) ⟨fun a U g mk q => ⟨q.1, cB_bl q.2⟩, fun U hU hW => ⟨rfl, cB_mv hw hD (kA_in hkA hS hFc) hU hW⟩⟩ rfl rfl hl.1 rfl (lv_room (Nat.le_of_ble_eq_true rfl)) dL_law_199 ⟨(show 10 + 16 * j + 4 ≤ 692346 by omega), (show 2000 + 48 * j + 12 ≤ 7025209 by omega)⟩) hS (fun q _ h => hFc q h) hFc (fun r_199 S_199 t H1 locs ht hvm hw1 hB hz1 hk1 hS => ?_)
      obtain ⟨hP, -, hD1⟩ := hB
      rw [ht] at hP
      have hD := hD1.weaken (fun k q _ h => hFc q.1 h)
      generalize H1 = H at hP hS ⊢
      obtain ⟨rfl, F_199, q199_0, q199_1, rfl⟩ := hw1
      have hw : cH dC dI ad o rw so ba ma cR cJ (stB T0 F_199) s H := ⟨hP, hK⟩
      refine lv_if_ne (tgt := 207) hx hb dL_law_202 (by decide) (fun _ => ?_) (fun c => absurd c (show ¬ ((1 : Int32) = 0) from by decide))
      refine lv_iinc (v := (1 : Int32)) (lv' := [(10, .int (1 : Int32)), (9, .int (f_X1_sortOf k V_119)), (8, .int (f_X1_sortOf k V_109)), (6, .long v6_2), (4, .long v4_1), (3, .int x3), (1, .ref o), (0, .ref b)]) hx hb dL_law_207 hl (k := 0) rfl (by decide) (by decide) rfl (fun ls hl => ?_)
      refine lv_goto (tgt := 190) hx hb dL_law_210 (by decide) ?_
      refine lv_iload hx hb dL_law_190 (lv_at hl 0 rfl) ?_
      refine lv_iconst (v := 4) hx hb dL_law_192 (by decide) ?_
      refine lv_icmp_ge (tgt := 213) hx hb dL_law_193 (by decide) (fun c => absurd c (show ¬ ((4 : Int32) ≤ (1 : Int32)) from by decide)) (fun _ => ?_)
      refine lv_aload_n hx hb dL_law_196 rfl (lv_at hl 6 rfl) ?_
      refine lv_iload hx hb dL_law_197 (lv_at hl 0 rfl) ?_
      have hFc := va_freeAll hD hS hA
      refine va_calli (va_runS (As := [.ref o, .int (1 : Int32)]) (rest := []) ⟨hx, hb, hml, hown, hts⟩ (c_L_isHeld l dC dI ad o rw so ba ma cR cJ H.size T0 k F_199 hk h1 had (1 : Int32) 1 rfl (by decide) V_109 V_119 q199_0 q199_1 cx cy) (va_cwS 2 hts (gS iL_isHeld (zin__r12 (.methodLink RL 45 yL_isHeld) (List.mem_of_getElem? (i := 5) rfl))) rfl rfl rfl (by decide +kernel) ⟨Nat.le_of_ble_eq_true rfl, Nat.le_of_ble_eq_true rfl⟩) ⟨fun a U g mk q => ⟨q.1, cB_bl q.2⟩, fun U hU hW => ⟨rfl, cB_mv hw hD (kA_in hkA hS hFc) hU hW⟩⟩ rfl rfl hl.1 rfl (lv_room (Nat.le_of_ble_eq_true rfl)) dL_law_199 ⟨(show 10 + 16 * j + 4 + 4 ≤ 692346 by omega), (show 2000 + 48 * j + 12 + 12 ≤ 7025209 by omega)⟩) hS (fun q _ h => hFc q h) hFc (fun r_199_10 S_199_10 t H1 locs ht hvm hw1 hB hz1 hk1 hS => ?_)
      obtain ⟨hP, -, hD1⟩ := hB
      rw [ht] at hP
      have hD := hD1.weaken (fun k q _ h => hFc q.1 h)
      generalize H1 = H at hP hS ⊢
      obtain ⟨rfl, F_199_10, q199_10_0, q199_10_1, rfl⟩ := hw1
      have hw : cH dC dI ad o rw so ba ma cR cJ (stB T0 F_199_10) s H := ⟨hP, hK⟩
      refine lv_if_ne (tgt := 207) hx hb dL_law_202 (by decide) (fun _ => ?_) (fun c => absurd c (show ¬ ((1 : Int32) = 0) from by decide))
      refine lv_iinc (v := (2 : Int32)) (lv' := [(10, .int (2 : Int32)), (9, .int (f_X1_sortOf k V_119)), (8, .int (f_X1_sortOf k V_109)), (6, .long v6_2), (4, .long v4_1), (3, .int x3), (1, .ref o), (0, .ref b)]) hx hb dL_law_207 hl (k := 0) rfl (by decide) (by decide) rfl (fun ls hl => ?_)
      refine lv_goto (tgt := 190) hx hb dL_law_210 (by decide) ?_
      refine lv_iload hx hb dL_law_190 (lv_at hl 0 rfl) ?_
      refine lv_iconst (v := 4) hx hb dL_law_192 (by decide) ?_
      refine lv_icmp_ge (tgt := 213) hx hb dL_law_193 (by decide) (fun c => absurd c (show ¬ ((4 : Int32) ≤ (2 : Int32)) from by decide)) (fun _ => ?_)
      refine lv_aload_n hx hb dL_law_196 rfl (lv_at hl 6 rfl) ?_
      refine lv_iload hx hb dL_law_197 (lv_at hl 0 rfl) ?_
      have hFc := va_freeAll hD hS hA
      refine va_calli (va_runS (As := [.ref o, .int (2 : Int32)]) (rest := []) ⟨hx, hb, hml, hown, hts⟩ (c_L_isHeld l dC dI ad o rw so ba ma cR cJ H.size T0 k F_199_10 hk h1 had (2 : Int32) 2 rfl (by decide) V_109 V_119 q199_10_0 q199_10_1 cx cy) (va_cwS 2 hts (gS iL_isHeld (zin__r12 (.methodLink RL 45 yL_isHeld) (List.mem_of_getElem? (i := 5) rfl))) rfl rfl rfl (by decide +kernel) ⟨Nat.le_of_ble_eq_true rfl, Nat.le_of_ble_eq_true rfl⟩) ⟨fun a U g mk q => ⟨q.1, cB_bl q.2⟩, fun U hU hW => ⟨rfl, cB_mv hw hD (kA_in hkA hS hFc) hU hW⟩⟩ rfl rfl hl.1 rfl (lv_room (Nat.le_of_ble_eq_true rfl)) dL_law_199 ⟨(show 10 + 16 * j + 4 + 4 + 4 ≤ 692346 by omega), (show 2000 + 48 * j + 12 + 12 + 12 ≤ 7025209 by omega)⟩) hS (fun q _ h => hFc q h) hFc (fun r_199_11 S_199_11 t H1 locs ht hvm hw1 hB hz1 hk1 hS => ?_)
      obtain ⟨hP, -, hD1⟩ := hB
      rw [ht] at hP
      have hD := hD1.weaken (fun k q _ h => hFc q.1 h)
      generalize H1 = H at hP hS ⊢
      obtain ⟨rfl, F_199_11, q199_11_0, q199_11_1, rfl⟩ := hw1
      have hw : cH dC dI ad o rw so ba ma cR cJ (stB T0 F_199_11) s H := ⟨hP, hK⟩
      refine lv_if_ne (tgt := 207) hx hb dL_law_202 (by decide) (fun _ => ?_) (fun c => absurd c (show ¬ ((1 : Int32) = 0) from by decide))
      refine lv_iinc (v := (3 : Int32)) (lv' := [(10, .int (3 : Int32)), (9, .int (f_X1_sortOf k V_119)), (8, .int (f_X1_sortOf k V_109)), (6, .long v6_2), (4, .long v4_1), (3, .int x3), (1, .ref o), (0, .ref b)]) hx hb dL_law_207 hl (k := 0) rfl (by decide) (by decide) rfl (fun ls hl => ?_)
      refine lv_goto (tgt := 190) hx hb dL_law_210 (by decide) ?_
      refine lv_iload hx hb dL_law_190 (lv_at hl 0 rfl) ?_
      refine lv_iconst (v := 4) hx hb dL_law_192 (by decide) ?_
      refine lv_icmp_ge (tgt := 213) hx hb dL_law_193 (by decide) (fun c => absurd c (show ¬ ((4 : Int32) ≤ (3 : Int32)) from by decide)) (fun _ => ?_)
      refine lv_aload_n hx hb dL_law_196 rfl (lv_at hl 6 rfl) ?_
      refine lv_iload hx hb dL_law_197 (lv_at hl 0 rfl) ?_
      have hFc := va_freeAll hD hS hA
      refine va_calli (va_runS (As := [.ref o, .int (3 : Int32)]) (rest := []) ⟨hx, hb, hml, hown, hts⟩ (c_L_isHeld l dC dI ad o rw so ba ma cR cJ H.size T0 k F_199_11 hk h1 had (3 : Int32) 3 rfl (by decide) V_109 V_119 q199_11_0 q199_11_1 cx cy) (va_cwS 2 hts (gS iL_isHeld (zin__r12 (.methodLink RL 45 yL_isHeld) (List.mem_of_getElem? (i := 5) rfl))) rfl rfl rfl (by decide +kernel) ⟨Nat.le_of_ble_eq_true rfl, Nat.le_of_ble_eq_true rfl⟩) ⟨fun a U g mk q => ⟨q.1, cB_bl q.2⟩, fun U hU hW => ⟨rfl, cB_mv hw hD (kA_in hkA hS hFc) hU hW⟩⟩ rfl rfl hl.1 rfl (lv_room (Nat.le_of_ble_eq_true rfl)) dL_law_199 ⟨(show 10 + 16 * j + 4 + 4 + 4 + 4 ≤ 692346 by omega), (show 2000 + 48 * j + 12 + 12 + 12 + 12 ≤ 7025209 by omega)⟩) hS (fun q _ h => hFc q h) hFc (fun r_199_12 S_199_12 t H1 locs ht hvm hw1 hB hz1 hk1 hS => ?_)
      obtain ⟨hP, -, hD1⟩ := hB
      rw [ht] at hP
      have hD := hD1.weaken (fun k q _ h => hFc q.1 h)
      generalize H1 = H at hP hS ⊢
      obtain ⟨rfl, F_199_12, q199_12_0, q199_12_1, rfl⟩ := hw1
      have hw : cH dC dI ad o rw so ba ma cR cJ (stB T0 F_199_12) s H := ⟨hP, hK⟩
      refine lv_if_ne (tgt := 207) hx hb dL_law_202 (by decide) (fun _ => ?_) (fun c => absurd c (show ¬ ((1 : Int32) = 0) from by decide))
      refine lv_iinc (v := (4 : Int32)) (lv' := [(10, .int (4 : Int32)), (9, .int (f_X1_sortOf k V_119)), (8, .int (f_X1_sortOf k V_109)), (6, .long v6_2), (4, .long v4_1), (3, .int x3), (1, .ref o), (0, .ref b)]) hx hb dL_law_207 hl (k := 0) rfl (by decide) (by decide) rfl (fun ls hl => ?_)
      refine lv_goto (tgt := 190) hx hb dL_law_210 (by decide) ?_
      refine lv_iload hx hb dL_law_190 (lv_at hl 0 rfl) ?_
      refine lv_iconst (v := 4) hx hb dL_law_192 (by decide) ?_
      refine lv_icmp_ge (tgt := 213) hx hb dL_law_193 (by decide) (fun _ => ?_) (fun c => absurd (show (4 : Int32) ≤ (4 : Int32) from by decide) c)
      obtain ⟨v3_13, e_v3_13⟩ : ∃ y : Int32, y = (x3 + (4 : Int32)) := ⟨_, rfl⟩
      refine lv_iinc (v := v3_13) (lv' := [(3, .int v3_13), (10, .int (4 : Int32)), (9, .int (f_X1_sortOf k V_119)), (8, .int (f_X1_sortOf k V_109)), (6, .long v6_2), (4, .long v4_1), (1, .ref o), (0, .ref b)]) hx hb dL_law_213 hl (k := 5) rfl (by rw [e_v3_13]; rfl) (by decide) rfl (fun ls hl => ?_)
      refine lv_goto (tgt := 35) hx hb dL_law_216 (by decide) ?_
      refine W.widen (k := 10 + 16 * (j + 1)) (n := 2000 + 48 * (j + 1)) (by omega) (by omega) ?_
      exact K F_199_12 H locs ls v3_13 ⟨hw, hD, hS⟩ (by rw [e_v3_13, ex3]; show nI (1 + 4 * j) + nI 4 = _; rw [nI_add]) (lv_sub hl [0, 6, 7] rfl)
    · refine lv_aload_n hx hb dL_law_124 rfl (lv_at hl 5 rfl) ?_
      refine lv_iload hx hb dL_law_125 (lv_at hl 1 rfl) ?_
      refine lv_iconst (v := 3) hx hb dL_law_127 (by decide) ?_
      refine lv_icmp_ne (tgt := 135) hx hb dL_law_128 (by decide) (fun c => absurd (show (f_X1_sortOf k V_109) = (3 : Int32) from (sort_3 hk cx).mpr hxn) c) (fun _ => ?_)
      refine lv_iconst (v := 1) hx hb dL_law_131 (by decide) ?_
      refine lv_goto (tgt := 136) hx hb dL_law_132 (by decide) ?_
      refine lv_iload hx hb dL_law_136 (lv_at hl 0 rfl) ?_
      refine lv_iconst (v := 3) hx hb dL_law_138 (by decide) ?_
      refine lv_icmp_ne (tgt := 146) hx hb dL_law_139 (by decide) (fun _ => ?_) (fun c => absurd c (show ¬ ((f_X1_sortOf k V_119) = (3 : Int32)) from fun e => hyn ((sort_3 hk cy).mp e)))
      refine lv_iconst (v := 0) hx hb dL_law_146 (by decide) ?_
      have hFc := va_freeAll hD hS hA
      refine va_calli (va_runS (As := [.ref o, .int (1 : Int32), .int (0 : Int32)]) (rest := []) ⟨hx, hb, hml, hown, hts⟩ (c_L_isOrdered l dC dI ad o rw so ba ma cR cJ H.size T0 k F_119 hk h1 (1 : Int32) (0 : Int32) V_109 V_119 q119_0 q119_1 cx cy (if_pos hxn).symm (if_neg hyn).symm) (va_cwS 3 hts (gS iL_isOrdered (zin__r4 (.methodLink RL 30 yL_isOrdered) (List.mem_of_getElem? (i := 21) rfl))) rfl rfl rfl (by decide +kernel) ⟨Nat.le_of_ble_eq_true rfl, Nat.le_of_ble_eq_true rfl⟩) ⟨fun a U g mk q => ⟨q.1, cB_bl q.2⟩, fun U hU hW => ⟨rfl, cB_mv hw hD (kA_in hkA hS hFc) hU hW⟩⟩ rfl rfl hl.1 rfl (lv_room (Nat.le_of_ble_eq_true rfl)) dL_law_147 ⟨(show 10 + 16 * j + 0 ≤ 692346 by omega), (show 2000 + 48 * j + 0 ≤ 7025209 by omega)⟩) hS (fun q _ h => hFc q h) hFc (fun r_147 S_147 t H1 locs ht hvm hw1 hB hz1 hk1 hS => ?_)
      obtain ⟨hP, -, hD1⟩ := hB
      rw [ht] at hP
      have hD := hD1.weaken (fun k q _ h => hFc q.1 h)
      generalize H1 = H at hP hS ⊢
      obtain ⟨rfl, F_147, q147_0, q147_1, rfl⟩ := hw1
      have hw : cH dC dI ad o rw so ba ma cR cJ (stB T0 F_147) s H := ⟨hP, hK⟩
      refine lv_if_eq (tgt := 185) hx hb dL_law_150 (by decide) (fun c => absurd c (show ¬ ((1 : Int32) = 0) from by decide)) (fun _ => ?_)
      refine lv_aload_n hx hb dL_law_153 rfl (lv_at hl 5 rfl) ?_
      have hFc := va_freeAll hD hS hA
      refine va_calli (va_runS (As := [.ref o]) (rest := []) ⟨hx, hb, hml, hown, hts⟩ (c_L_isReckoned l dC dI ad o rw so ba ma cR cJ H.size T0 k F_147 hk h1 V_109 V_119 q147_0 q147_1 cx cy) (va_cwS 1 hts (gS iL_isReckoned (zin__r7 (.methodLink RL 34 yL_isReckoned) (List.mem_of_getElem? (i := 3) rfl))) rfl rfl rfl (by decide +kernel) ⟨Nat.le_of_ble_eq_true rfl, Nat.le_of_ble_eq_true rfl⟩) ⟨fun a U g mk q => ⟨q.1, cB_bl q.2⟩, fun U hU hW => ⟨rfl, cB_mv hw hD (kA_in hkA hS hFc) hU hW⟩⟩ rfl rfl hl.1 rfl (lv_room (Nat.le_of_ble_eq_true rfl)) dL_law_154 ⟨(show 10 + 16 * j + 0 ≤ 692346 by omega), (show 2000 + 48 * j + 0 ≤ 7025209 by omega)⟩) hS (fun q _ h => hFc q h) hFc (fun r_154 S_154 t H1 locs ht hvm hw1 hB hz1 hk1 hS => ?_)
      obtain ⟨hP, -, hD1⟩ := hB
      rw [ht] at hP
      have hD := hD1.weaken (fun k q _ h => hFc q.1 h)
      generalize H1 = H at hP hS ⊢
      obtain ⟨rfl, F_154, q154_0, q154_1, rfl⟩ := hw1
      have hw : cH dC dI ad o rw so ba ma cR cJ (stB T0 F_154) s H := ⟨hP, hK⟩
      refine lv_if_eq (tgt := 185) hx hb dL_law_157 (by decide) (fun c => absurd c (show ¬ ((1 : Int32) = 0) from by decide)) (fun _ => ?_)
      refine lv_aload_n hx hb dL_law_160 rfl (lv_at hl 5 rfl) ?_
      refine lv_iload hx hb dL_law_161 (lv_at hl 1 rfl) ?_
      refine lv_iconst (v := 3) hx hb dL_law_163 (by decide) ?_
      refine lv_icmp_ne (tgt := 171) hx hb dL_law_164 (by decide) (fun c => absurd (show (f_X1_sortOf k V_109) = (3 : Int32) from (sort_3 hk cx).mpr hxn) c) (fun _ => ?_)
      refine lv_iconst (v := 1) hx hb dL_law_167 (by decide) ?_
      refine lv_goto (tgt := 172) hx hb dL_law_168 (by decide) ?_
      have hFc := va_freeAll hD hS hA
      refine va_calli (va_runS (As := [.ref o, .int (1 : Int32)]) (rest := []) ⟨hx, hb, hml, hown, hts⟩ (c_L_isAbout l dC dI ad o rw so ba ma cR cJ H.size T0 k F_154 hk h1 (1 : Int32) V_109 V_119 q154_0 q154_1 cx cy (if_pos hxn).symm) (va_cwS 2 hts (gS iL_isAbout (zin__r11 (.methodLink RL 38 yL_isAbout) (List.mem_of_getElem? (i := 23) rfl))) rfl rfl rfl (by decide +kernel) ⟨Nat.le_of_ble_eq_true rfl, Nat.le_of_ble_eq_true rfl⟩) ⟨fun a U g mk q => ⟨q.1, cB_bl q.2⟩, fun U hU hW => ⟨rfl, cB_mv hw hD (kA_in hkA hS hFc) hU hW⟩⟩ rfl rfl hl.1 rfl (lv_room (Nat.le_of_ble_eq_true rfl)) dL_law_172 ⟨(show 10 + 16 * j + 0 ≤ 692346 by omega), (show 2000 + 48 * j + 0 ≤ 7025209 by omega)⟩) hS (fun q _ h => hFc q h) hFc (fun r_172 S_172 t H1 locs ht hvm hw1 hB hz1 hk1 hS => ?_)
      obtain ⟨hP, -, hD1⟩ := hB
      rw [ht] at hP
      have hD := hD1.weaken (fun k q _ h => hFc q.1 h)
      generalize H1 = H at hP hS ⊢
      obtain ⟨rfl, F_172, q172_0, q172_1, rfl⟩ := hw1
      have hw : cH dC dI ad o rw so ba ma cR cJ (stB T0 F_172) s H := ⟨hP, hK⟩
      refine lv_if_eq (tgt := 185) hx hb dL_law_175 (by decide) (fun c => absurd c (show ¬ ((1 : Int32) = 0) from by decide)) (fun _ => ?_)
      refine lv_aload_n hx hb dL_law_178 rfl (lv_at hl 5 rfl) ?_
      have hFc := va_freeAll hD hS hA
      refine va_calli (va_runS (As := [.ref o]) (rest := []) ⟨hx, hb, hml, hown, hts⟩ (c_L_isLeft l dC dI ad o rw so ba ma cR cJ H.size T0 k F_172 hk h1 V_109 V_119 q172_0 q172_1 cx cy) (va_cwS 1 hts (gS iL_isLeft (zin__r12 (.methodLink RL 42 yL_isLeft) (List.mem_of_getElem? (i := 2) rfl))) rfl rfl rfl (by decide +kernel) ⟨Nat.le_of_ble_eq_true rfl, Nat.le_of_ble_eq_true rfl⟩) ⟨fun a U g mk q => ⟨q.1, cB_bl q.2⟩, fun U hU hW => ⟨rfl, cB_mv hw hD (kA_in hkA hS hFc) hU hW⟩⟩ rfl rfl hl.1 rfl (lv_room (Nat.le_of_ble_eq_true rfl)) dL_law_179 ⟨(show 10 + 16 * j + 0 ≤ 692346 by omega), (show 2000 + 48 * j + 0 ≤ 7025209 by omega)⟩) hS (fun q _ h => hFc q h) hFc (fun r_179 S_179 t H1 locs ht hvm hw1 hB hz1 hk1 hS => ?_)
      obtain ⟨hP, -, hD1⟩ := hB
      rw [ht] at hP
      have hD := hD1.weaken (fun k q _ h => hFc q.1 h)
      generalize H1 = H at hP hS ⊢
      obtain ⟨rfl, F_179, q179_0, q179_1, rfl⟩ := hw1
      have hw : cH dC dI ad o rw so ba ma cR cJ (stB T0 F_179) s H := ⟨hP, hK⟩
      refine lv_if_ne (tgt := 187) hx hb dL_law_182 (by decide) (fun _ => ?_) (fun c => absurd c (show ¬ ((1 : Int32) = 0) from by decide))
      refine lv_iconst (v := 0) hx hb dL_law_187 (by decide) ?_
      refine lv_istore (lv' := [(10, .int (0 : Int32)), (9, .int (f_X1_sortOf k V_119)), (8, .int (f_X1_sortOf k V_109)), (6, .long v6_2), (4, .long v4_1), (3, .int x3), (1, .ref o), (0, .ref b)]) hx hb dL_law_188 hl (by decide) rfl (fun ls hl => ?_)
      refine lv_iload hx hb dL_law_190 (lv_at hl 0 rfl) ?_
      refine lv_iconst (v := 4) hx hb dL_law_192 (by decide) ?_
      refine lv_icmp_ge (tgt := 213) hx hb dL_law_193 (by decide) (fun c => absurd c (show ¬ ((4 : Int32) ≤ (0 : Int32)) from by decide)) (fun _ => ?_)
      refine lv_aload_n hx hb dL_law_196 rfl (lv_at hl 6 rfl) ?_
      refine lv_iload hx hb dL_law_197 (lv_at hl 0 rfl) ?_
      have hFc := va_freeAll hD hS hA
      refine va_calli (va_runS (As := [.ref o, .int (0 : Int32)]) (rest := []) ⟨hx, hb, hml, hown, hts⟩ (c_L_isHeld l dC dI ad o rw so ba ma cR cJ H.size T0 k F_179 hk h1 had (0 : Int32) 0 rfl (by decide) V_109 V_119 q179_0 q179_1 cx cy) (va_cwS 2 hts (gS iL_isHeld (zin__r12 (.methodLink RL 45 yL_isHeld) (List.mem_of_getElem? (i := 5) rfl))) rfl rfl rfl (by decide +kernel) ⟨Nat.le_of_ble_eq_true rfl, Nat.le_of_ble_eq_true rfl⟩) ⟨fun a U g mk q => ⟨q.1, cB_bl q.2⟩, fun U hU hW => ⟨rfl, cB_mv hw hD (kA_in hkA hS hFc) hU hW⟩⟩ rfl rfl hl.1 rfl (lv_room (Nat.le_of_ble_eq_true rfl)) dL_law_199 ⟨(show 10 + 16 * j + 4 ≤ 692346 by omega), (show 2000 + 48 * j + 12 ≤ 7025209 by omega)⟩) hS (fun q _ h => hFc q h) hFc (fun r_199 S_199 t H1 locs ht hvm hw1 hB hz1 hk1 hS => ?_)
      obtain ⟨hP, -, hD1⟩ := hB
      rw [ht] at hP
      have hD := hD1.weaken (fun k q _ h => hFc q.1 h)
      generalize H1 = H at hP hS ⊢
      obtain ⟨rfl, F_199, q199_0, q199_1, rfl⟩ := hw1
      have hw : cH dC dI ad o rw so ba ma cR cJ (stB T0 F_199) s H := ⟨hP, hK⟩
      refine lv_if_ne (tgt := 207) hx hb dL_law_202 (by decide) (fun _ => ?_) (fun c => absurd c (show ¬ ((1 : Int32) = 0) from by decide))
      refine lv_iinc (v := (1 : Int32)) (lv' := [(10, .int (1 : Int32)), (9, .int (f_X1_sortOf k V_119)), (8, .int (f_X1_sortOf k V_109)), (6, .long v6_2), (4, .long v4_1), (3, .int x3), (1, .ref o), (0, .ref b)]) hx hb dL_law_207 hl (k := 0) rfl (by decide) (by decide) rfl (fun ls hl => ?_)
      refine lv_goto (tgt := 190) hx hb dL_law_210 (by decide) ?_
      refine lv_iload hx hb dL_law_190 (lv_at hl 0 rfl) ?_
      refine lv_iconst (v := 4) hx hb dL_law_192 (by decide) ?_
      refine lv_icmp_ge (tgt := 213) hx hb dL_law_193 (by decide) (fun c => absurd c (show ¬ ((4 : Int32) ≤ (1 : Int32)) from by decide)) (fun _ => ?_)
      refine lv_aload_n hx hb dL_law_196 rfl (lv_at hl 6 rfl) ?_
      refine lv_iload hx hb dL_law_197 (lv_at hl 0 rfl) ?_
      have hFc := va_freeAll hD hS hA
      refine va_calli (va_runS (As := [.ref o, .int (1 : Int32)]) (rest := []) ⟨hx, hb, hml, hown, hts⟩ (c_L_isHeld l dC dI ad o rw so ba ma cR cJ H.size T0 k F_199 hk h1 had (1 : Int32) 1 rfl (by decide) V_109 V_119 q199_0 q199_1 cx cy) (va_cwS 2 hts (gS iL_isHeld (zin__r12 (.methodLink RL 45 yL_isHeld) (List.mem_of_getElem? (i := 5) rfl))) rfl rfl rfl (by decide +kernel) ⟨Nat.le_of_ble_eq_true rfl, Nat.le_of_ble_eq_true rfl⟩) ⟨fun a U g mk q => ⟨q.1, cB_bl q.2⟩, fun U hU hW => ⟨rfl, cB_mv hw hD (kA_in hkA hS hFc) hU hW⟩⟩ rfl rfl hl.1 rfl (lv_room (Nat.le_of_ble_eq_true rfl)) dL_law_199 ⟨(show 10 + 16 * j + 4 + 4 ≤ 692346 by omega), (show 2000 + 48 * j + 12 + 12 ≤ 7025209 by omega)⟩) hS (fun q _ h => hFc q h) hFc (fun r_199_19 S_199_19 t H1 locs ht hvm hw1 hB hz1 hk1 hS => ?_)
      obtain ⟨hP, -, hD1⟩ := hB
      rw [ht] at hP
      have hD := hD1.weaken (fun k q _ h => hFc q.1 h)
      generalize H1 = H at hP hS ⊢
      obtain ⟨rfl, F_199_19, q199_19_0, q199_19_1, rfl⟩ := hw1
      have hw : cH dC dI ad o rw so ba ma cR cJ (stB T0 F_199_19) s H := ⟨hP, hK⟩
      refine lv_if_ne (tgt := 207) hx hb dL_law_202 (by decide) (fun _ => ?_) (fun c => absurd c (show ¬ ((1 : Int32) = 0) from by decide))
      refine lv_iinc (v := (2 : Int32)) (lv' := [(10, .int (2 : Int32)), (9, .int (f_X1_sortOf k V_119)), (8, .int (f_X1_sortOf k V_109)), (6, .long v6_2), (4, .long v4_1), (3, .int x3), (1, .ref o), (0, .ref b)]) hx hb dL_law_207 hl (k := 0) rfl (by decide) (by decide) rfl (fun ls hl => ?_)
      refine lv_goto (tgt := 190) hx hb dL_law_210 (by decide) ?_
      refine lv_iload hx hb dL_law_190 (lv_at hl 0 rfl) ?_
      refine lv_iconst (v := 4) hx hb dL_law_192 (by decide) ?_
      refine lv_icmp_ge (tgt := 213) hx hb dL_law_193 (by decide) (fun c => absurd c (show ¬ ((4 : Int32) ≤ (2 : Int32)) from by decide)) (fun _ => ?_)
      refine lv_aload_n hx hb dL_law_196 rfl (lv_at hl 6 rfl) ?_
      refine lv_iload hx hb dL_law_197 (lv_at hl 0 rfl) ?_
      have hFc := va_freeAll hD hS hA
      refine va_calli (va_runS (As := [.ref o, .int (2 : Int32)]) (rest := []) ⟨hx, hb, hml, hown, hts⟩ (c_L_isHeld l dC dI ad o rw so ba ma cR cJ H.size T0 k F_199_19 hk h1 had (2 : Int32) 2 rfl (by decide) V_109 V_119 q199_19_0 q199_19_1 cx cy) (va_cwS 2 hts (gS iL_isHeld (zin__r12 (.methodLink RL 45 yL_isHeld) (List.mem_of_getElem? (i := 5) rfl))) rfl rfl rfl (by decide +kernel) ⟨Nat.le_of_ble_eq_true rfl, Nat.le_of_ble_eq_true rfl⟩) ⟨fun a U g mk q => ⟨q.1, cB_bl q.2⟩, fun U hU hW => ⟨rfl, cB_mv hw hD (kA_in hkA hS hFc) hU hW⟩⟩ rfl rfl hl.1 rfl (lv_room (Nat.le_of_ble_eq_true rfl)) dL_law_199 ⟨(show 10 + 16 * j + 4 + 4 + 4 ≤ 692346 by omega), (show 2000 + 48 * j + 12 + 12 + 12 ≤ 7025209 by omega)⟩) hS (fun q _ h => hFc q h) hFc (fun r_199_20 S_199_20 t H1 locs ht hvm hw1 hB hz1 hk1 hS => ?_)
      obtain ⟨hP, -, hD1⟩ := hB
      rw [ht] at hP
      have hD := hD1.weaken (fun k q _ h => hFc q.1 h)
      generalize H1 = H at hP hS ⊢
      obtain ⟨rfl, F_199_20, q199_20_0, q199_20_1, rfl⟩ := hw1
      have hw : cH dC dI ad o rw so ba ma cR cJ (stB T0 F_199_20) s H := ⟨hP, hK⟩
      refine lv_if_ne (tgt := 207) hx hb dL_law_202 (by decide) (fun _ => ?_) (fun c => absurd c (show ¬ ((1 : Int32) = 0) from by decide))
      refine lv_iinc (v := (3 : Int32)) (lv' := [(10, .int (3 : Int32)), (9, .int (f_X1_sortOf k V_119)), (8, .int (f_X1_sortOf k V_109)), (6, .long v6_2), (4, .long v4_1), (3, .int x3), (1, .ref o), (0, .ref b)]) hx hb dL_law_207 hl (k := 0) rfl (by decide) (by decide) rfl (fun ls hl => ?_)
      refine lv_goto (tgt := 190) hx hb dL_law_210 (by decide) ?_
      refine lv_iload hx hb dL_law_190 (lv_at hl 0 rfl) ?_
      refine lv_iconst (v := 4) hx hb dL_law_192 (by decide) ?_
      refine lv_icmp_ge (tgt := 213) hx hb dL_law_193 (by decide) (fun c => absurd c (show ¬ ((4 : Int32) ≤ (3 : Int32)) from by decide)) (fun _ => ?_)
      refine lv_aload_n hx hb dL_law_196 rfl (lv_at hl 6 rfl) ?_
      refine lv_iload hx hb dL_law_197 (lv_at hl 0 rfl) ?_
      have hFc := va_freeAll hD hS hA
      refine va_calli (va_runS (As := [.ref o, .int (3 : Int32)]) (rest := []) ⟨hx, hb, hml, hown, hts⟩ (c_L_isHeld l dC dI ad o rw so ba ma cR cJ H.size T0 k F_199_20 hk h1 had (3 : Int32) 3 rfl (by decide) V_109 V_119 q199_20_0 q199_20_1 cx cy) (va_cwS 2 hts (gS iL_isHeld (zin__r12 (.methodLink RL 45 yL_isHeld) (List.mem_of_getElem? (i := 5) rfl))) rfl rfl rfl (by decide +kernel) ⟨Nat.le_of_ble_eq_true rfl, Nat.le_of_ble_eq_true rfl⟩) ⟨fun a U g mk q => ⟨q.1, cB_bl q.2⟩, fun U hU hW => ⟨rfl, cB_mv hw hD (kA_in hkA hS hFc) hU hW⟩⟩ rfl rfl hl.1 rfl (lv_room (Nat.le_of_ble_eq_true rfl)) dL_law_199 ⟨(show 10 + 16 * j + 4 + 4 + 4 + 4 ≤ 692346 by omega), (show 2000 + 48 * j + 12 + 12 + 12 + 12 ≤ 7025209 by omega)⟩) hS (fun q _ h => hFc q h) hFc (fun r_199_21 S_199_21 t H1 locs ht hvm hw1 hB hz1 hk1 hS => ?_)
      obtain ⟨hP, -, hD1⟩ := hB
      rw [ht] at hP
      have hD := hD1.weaken (fun k q _ h => hFc q.1 h)
      generalize H1 = H at hP hS ⊢
      obtain ⟨rfl, F_199_21, q199_21_0, q199_21_1, rfl⟩ := hw1
      have hw : cH dC dI ad o rw so ba ma cR cJ (stB T0 F_199_21) s H := ⟨hP, hK⟩
      refine lv_if_ne (tgt := 207) hx hb dL_law_202 (by decide) (fun _ => ?_) (fun c => absurd c (show ¬ ((1 : Int32) = 0) from by decide))
      refine lv_iinc (v := (4 : Int32)) (lv' := [(10, .int (4 : Int32)), (9, .int (f_X1_sortOf k V_119)), (8, .int (f_X1_sortOf k V_109)), (6, .long v6_2), (4, .long v4_1), (3, .int x3), (1, .ref o), (0, .ref b)]) hx hb dL_law_207 hl (k := 0) rfl (by decide) (by decide) rfl (fun ls hl => ?_)
      refine lv_goto (tgt := 190) hx hb dL_law_210 (by decide) ?_
      refine lv_iload hx hb dL_law_190 (lv_at hl 0 rfl) ?_
      refine lv_iconst (v := 4) hx hb dL_law_192 (by decide) ?_
      refine lv_icmp_ge (tgt := 213) hx hb dL_law_193 (by decide) (fun _ => ?_) (fun c => absurd (show (4 : Int32) ≤ (4 : Int32) from by decide) c)
      obtain ⟨v3_22, e_v3_22⟩ : ∃ y : Int32, y = (x3 + (4 : Int32)) := ⟨_, rfl⟩
      refine lv_iinc (v := v3_22) (lv' := [(3, .int v3_22), (10, .int (4 : Int32)), (9, .int (f_X1_sortOf k V_119)), (8, .int (f_X1_sortOf k V_109)), (6, .long v6_2), (4, .long v4_1), (1, .ref o), (0, .ref b)]) hx hb dL_law_213 hl (k := 5) rfl (by rw [e_v3_22]; rfl) (by decide) rfl (fun ls hl => ?_)
      refine lv_goto (tgt := 35) hx hb dL_law_216 (by decide) ?_
      refine W.widen (k := 10 + 16 * (j + 1)) (n := 2000 + 48 * (j + 1)) (by omega) (by omega) ?_
      exact K F_199_21 H locs ls v3_22 ⟨hw, hD, hS⟩ (by rw [e_v3_22, ex3]; show nI (1 + 4 * j) + nI 4 = _; rw [nI_add]) (lv_sub hl [0, 6, 7] rfl)
  · rcases Decidable.em (V_119 = knan k) with hyn | hyn
    · refine lv_aload_n hx hb dL_law_124 rfl (lv_at hl 5 rfl) ?_
      refine lv_iload hx hb dL_law_125 (lv_at hl 1 rfl) ?_
      refine lv_iconst (v := 3) hx hb dL_law_127 (by decide) ?_
      refine lv_icmp_ne (tgt := 135) hx hb dL_law_128 (by decide) (fun _ => ?_) (fun c => absurd c (show ¬ ((f_X1_sortOf k V_109) = (3 : Int32)) from fun e => hxn ((sort_3 hk cx).mp e)))
      refine lv_iconst (v := 0) hx hb dL_law_135 (by decide) ?_
      refine lv_iload hx hb dL_law_136 (lv_at hl 0 rfl) ?_
      refine lv_iconst (v := 3) hx hb dL_law_138 (by decide) ?_
      refine lv_icmp_ne (tgt := 146) hx hb dL_law_139 (by decide) (fun c => absurd (show (f_X1_sortOf k V_119) = (3 : Int32) from (sort_3 hk cy).mpr hyn) c) (fun _ => ?_)
      refine lv_iconst (v := 1) hx hb dL_law_142 (by decide) ?_
      refine lv_goto (tgt := 147) hx hb dL_law_143 (by decide) ?_
      have hFc := va_freeAll hD hS hA
      refine va_calli (va_runS (As := [.ref o, .int (0 : Int32), .int (1 : Int32)]) (rest := []) ⟨hx, hb, hml, hown, hts⟩ (c_L_isOrdered l dC dI ad o rw so ba ma cR cJ H.size T0 k F_119 hk h1 (0 : Int32) (1 : Int32) V_109 V_119 q119_0 q119_1 cx cy (if_neg hxn).symm (if_pos hyn).symm) (va_cwS 3 hts (gS iL_isOrdered (zin__r4 (.methodLink RL 30 yL_isOrdered) (List.mem_of_getElem? (i := 21) rfl))) rfl rfl rfl (by decide +kernel) ⟨Nat.le_of_ble_eq_true rfl, Nat.le_of_ble_eq_true rfl⟩) ⟨fun a U g mk q => ⟨q.1, cB_bl q.2⟩, fun U hU hW => ⟨rfl, cB_mv hw hD (kA_in hkA hS hFc) hU hW⟩⟩ rfl rfl hl.1 rfl (lv_room (Nat.le_of_ble_eq_true rfl)) dL_law_147 ⟨(show 10 + 16 * j + 0 ≤ 692346 by omega), (show 2000 + 48 * j + 0 ≤ 7025209 by omega)⟩) hS (fun q _ h => hFc q h) hFc (fun r_147 S_147 t H1 locs ht hvm hw1 hB hz1 hk1 hS => ?_)
      obtain ⟨hP, -, hD1⟩ := hB
      rw [ht] at hP
      have hD := hD1.weaken (fun k q _ h => hFc q.1 h)
      generalize H1 = H at hP hS ⊢
      obtain ⟨rfl, F_147, q147_0, q147_1, rfl⟩ := hw1
      have hw : cH dC dI ad o rw so ba ma cR cJ (stB T0 F_147) s H := ⟨hP, hK⟩
      refine lv_if_eq (tgt := 185) hx hb dL_law_150 (by decide) (fun c => absurd c (show ¬ ((1 : Int32) = 0) from by decide)) (fun _ => ?_)
      refine lv_aload_n hx hb dL_law_153 rfl (lv_at hl 5 rfl) ?_
      have hFc := va_freeAll hD hS hA
      refine va_calli (va_runS (As := [.ref o]) (rest := []) ⟨hx, hb, hml, hown, hts⟩ (c_L_isReckoned l dC dI ad o rw so ba ma cR cJ H.size T0 k F_147 hk h1 V_109 V_119 q147_0 q147_1 cx cy) (va_cwS 1 hts (gS iL_isReckoned (zin__r7 (.methodLink RL 34 yL_isReckoned) (List.mem_of_getElem? (i := 3) rfl))) rfl rfl rfl (by decide +kernel) ⟨Nat.le_of_ble_eq_true rfl, Nat.le_of_ble_eq_true rfl⟩) ⟨fun a U g mk q => ⟨q.1, cB_bl q.2⟩, fun U hU hW => ⟨rfl, cB_mv hw hD (kA_in hkA hS hFc) hU hW⟩⟩ rfl rfl hl.1 rfl (lv_room (Nat.le_of_ble_eq_true rfl)) dL_law_154 ⟨(show 10 + 16 * j + 0 ≤ 692346 by omega), (show 2000 + 48 * j + 0 ≤ 7025209 by omega)⟩) hS (fun q _ h => hFc q h) hFc (fun r_154 S_154 t H1 locs ht hvm hw1 hB hz1 hk1 hS => ?_)
      obtain ⟨hP, -, hD1⟩ := hB
      rw [ht] at hP
      have hD := hD1.weaken (fun k q _ h => hFc q.1 h)
      generalize H1 = H at hP hS ⊢
      obtain ⟨rfl, F_154, q154_0, q154_1, rfl⟩ := hw1
      have hw : cH dC dI ad o rw so ba ma cR cJ (stB T0 F_154) s H := ⟨hP, hK⟩
      refine lv_if_eq (tgt := 185) hx hb dL_law_157 (by decide) (fun c => absurd c (show ¬ ((1 : Int32) = 0) from by decide)) (fun _ => ?_)
      refine lv_aload_n hx hb dL_law_160 rfl (lv_at hl 5 rfl) ?_
      refine lv_iload hx hb dL_law_161 (lv_at hl 1 rfl) ?_
      refine lv_iconst (v := 3) hx hb dL_law_163 (by decide) ?_
      refine lv_icmp_ne (tgt := 171) hx hb dL_law_164 (by decide) (fun _ => ?_) (fun c => absurd c (show ¬ ((f_X1_sortOf k V_109) = (3 : Int32)) from fun e => hxn ((sort_3 hk cx).mp e)))
      refine lv_iconst (v := 0) hx hb dL_law_171 (by decide) ?_
      have hFc := va_freeAll hD hS hA
      refine va_calli (va_runS (As := [.ref o, .int (0 : Int32)]) (rest := []) ⟨hx, hb, hml, hown, hts⟩ (c_L_isAbout l dC dI ad o rw so ba ma cR cJ H.size T0 k F_154 hk h1 (0 : Int32) V_109 V_119 q154_0 q154_1 cx cy (if_neg hxn).symm) (va_cwS 2 hts (gS iL_isAbout (zin__r11 (.methodLink RL 38 yL_isAbout) (List.mem_of_getElem? (i := 23) rfl))) rfl rfl rfl (by decide +kernel) ⟨Nat.le_of_ble_eq_true rfl, Nat.le_of_ble_eq_true rfl⟩) ⟨fun a U g mk q => ⟨q.1, cB_bl q.2⟩, fun U hU hW => ⟨rfl, cB_mv hw hD (kA_in hkA hS hFc) hU hW⟩⟩ rfl rfl hl.1 rfl (lv_room (Nat.le_of_ble_eq_true rfl)) dL_law_172 ⟨(show 10 + 16 * j + 0 ≤ 692346 by omega), (show 2000 + 48 * j + 0 ≤ 7025209 by omega)⟩) hS (fun q _ h => hFc q h) hFc (fun r_172 S_172 t H1 locs ht hvm hw1 hB hz1 hk1 hS => ?_)
      obtain ⟨hP, -, hD1⟩ := hB
      rw [ht] at hP
      have hD := hD1.weaken (fun k q _ h => hFc q.1 h)
      generalize H1 = H at hP hS ⊢
      obtain ⟨rfl, F_172, q172_0, q172_1, rfl⟩ := hw1
      have hw : cH dC dI ad o rw so ba ma cR cJ (stB T0 F_172) s H := ⟨hP, hK⟩
      refine lv_if_eq (tgt := 185) hx hb dL_law_175 (by decide) (fun c => absurd c (show ¬ ((1 : Int32) = 0) from by decide)) (fun _ => ?_)
      refine lv_aload_n hx hb dL_law_178 rfl (lv_at hl 5 rfl) ?_
      have hFc := va_freeAll hD hS hA
      refine va_calli (va_runS (As := [.ref o]) (rest := []) ⟨hx, hb, hml, hown, hts⟩ (c_L_isLeft l dC dI ad o rw so ba ma cR cJ H.size T0 k F_172 hk h1 V_109 V_119 q172_0 q172_1 cx cy) (va_cwS 1 hts (gS iL_isLeft (zin__r12 (.methodLink RL 42 yL_isLeft) (List.mem_of_getElem? (i := 2) rfl))) rfl rfl rfl (by decide +kernel) ⟨Nat.le_of_ble_eq_true rfl, Nat.le_of_ble_eq_true rfl⟩) ⟨fun a U g mk q => ⟨q.1, cB_bl q.2⟩, fun U hU hW => ⟨rfl, cB_mv hw hD (kA_in hkA hS hFc) hU hW⟩⟩ rfl rfl hl.1 rfl (lv_room (Nat.le_of_ble_eq_true rfl)) dL_law_179 ⟨(show 10 + 16 * j + 0 ≤ 692346 by omega), (show 2000 + 48 * j + 0 ≤ 7025209 by omega)⟩) hS (fun q _ h => hFc q h) hFc (fun r_179 S_179 t H1 locs ht hvm hw1 hB hz1 hk1 hS => ?_)
      obtain ⟨hP, -, hD1⟩ := hB
      rw [ht] at hP
      have hD := hD1.weaken (fun k q _ h => hFc q.1 h)
      generalize H1 = H at hP hS ⊢
      obtain ⟨rfl, F_179, q179_0, q179_1, rfl⟩ := hw1
      have hw : cH dC dI ad o rw so ba ma cR cJ (stB T0 F_179) s H := ⟨hP, hK⟩
      refine lv_if_ne (tgt := 187) hx hb dL_law_182 (by decide) (fun _ => ?_) (fun c => absurd c (show ¬ ((1 : Int32) = 0) from by decide))
      refine lv_iconst (v := 0) hx hb dL_law_187 (by decide) ?_
      refine lv_istore (lv' := [(10, .int (0 : Int32)), (9, .int (f_X1_sortOf k V_119)), (8, .int (f_X1_sortOf k V_109)), (6, .long v6_2), (4, .long v4_1), (3, .int x3), (1, .ref o), (0, .ref b)]) hx hb dL_law_188 hl (by decide) rfl (fun ls hl => ?_)
      refine lv_iload hx hb dL_law_190 (lv_at hl 0 rfl) ?_
      refine lv_iconst (v := 4) hx hb dL_law_192 (by decide) ?_
      refine lv_icmp_ge (tgt := 213) hx hb dL_law_193 (by decide) (fun c => absurd c (show ¬ ((4 : Int32) ≤ (0 : Int32)) from by decide)) (fun _ => ?_)
      refine lv_aload_n hx hb dL_law_196 rfl (lv_at hl 6 rfl) ?_
      refine lv_iload hx hb dL_law_197 (lv_at hl 0 rfl) ?_
      have hFc := va_freeAll hD hS hA
      refine va_calli (va_runS (As := [.ref o, .int (0 : Int32)]) (rest := []) ⟨hx, hb, hml, hown, hts⟩ (c_L_isHeld l dC dI ad o rw so ba ma cR cJ H.size T0 k F_179 hk h1 had (0 : Int32) 0 rfl (by decide) V_109 V_119 q179_0 q179_1 cx cy) (va_cwS 2 hts (gS iL_isHeld (zin__r12 (.methodLink RL 45 yL_isHeld) (List.mem_of_getElem? (i := 5) rfl))) rfl rfl rfl (by decide +kernel) ⟨Nat.le_of_ble_eq_true rfl, Nat.le_of_ble_eq_true rfl⟩) ⟨fun a U g mk q => ⟨q.1, cB_bl q.2⟩, fun U hU hW => ⟨rfl, cB_mv hw hD (kA_in hkA hS hFc) hU hW⟩⟩ rfl rfl hl.1 rfl (lv_room (Nat.le_of_ble_eq_true rfl)) dL_law_199 ⟨(show 10 + 16 * j + 4 ≤ 692346 by omega), (show 2000 + 48 * j + 12 ≤ 7025209 by omega)⟩) hS (fun q _ h => hFc q h) hFc (fun r_199 S_199 t H1 locs ht hvm hw1 hB hz1 hk1 hS => ?_)
      obtain ⟨hP, -, hD1⟩ := hB
      rw [ht] at hP
      have hD := hD1.weaken (fun k q _ h => hFc q.1 h)
      generalize H1 = H at hP hS ⊢
      obtain ⟨rfl, F_199, q199_0, q199_1, rfl⟩ := hw1
      have hw : cH dC dI ad o rw so ba ma cR cJ (stB T0 F_199) s H := ⟨hP, hK⟩
      refine lv_if_ne (tgt := 207) hx hb dL_law_202 (by decide) (fun _ => ?_) (fun c => absurd c (show ¬ ((1 : Int32) = 0) from by decide))
      refine lv_iinc (v := (1 : Int32)) (lv' := [(10, .int (1 : Int32)), (9, .int (f_X1_sortOf k V_119)), (8, .int (f_X1_sortOf k V_109)), (6, .long v6_2), (4, .long v4_1), (3, .int x3), (1, .ref o), (0, .ref b)]) hx hb dL_law_207 hl (k := 0) rfl (by decide) (by decide) rfl (fun ls hl => ?_)
      refine lv_goto (tgt := 190) hx hb dL_law_210 (by decide) ?_
      refine lv_iload hx hb dL_law_190 (lv_at hl 0 rfl) ?_
      refine lv_iconst (v := 4) hx hb dL_law_192 (by decide) ?_
      refine lv_icmp_ge (tgt := 213) hx hb dL_law_193 (by decide) (fun c => absurd c (show ¬ ((4 : Int32) ≤ (1 : Int32)) from by decide)) (fun _ => ?_)
      refine lv_aload_n hx hb dL_law_196 rfl (lv_at hl 6 rfl) ?_
      refine lv_iload hx hb dL_law_197 (lv_at hl 0 rfl) ?_
      have hFc := va_freeAll hD hS hA
      refine va_calli (va_runS (As := [.ref o, .int (1 : Int32)]) (rest := []) ⟨hx, hb, hml, hown, hts⟩ (c_L_isHeld l dC dI ad o rw so ba ma cR cJ H.size T0 k F_199 hk h1 had (1 : Int32) 1 rfl (by decide) V_109 V_119 q199_0 q199_1 cx cy) (va_cwS 2 hts (gS iL_isHeld (zin__r12 (.methodLink RL 45 yL_isHeld) (List.mem_of_getElem? (i := 5) rfl))) rfl rfl rfl (by decide +kernel) ⟨Nat.le_of_ble_eq_true rfl, Nat.le_of_ble_eq_true rfl⟩) ⟨fun a U g mk q => ⟨q.1, cB_bl q.2⟩, fun U hU hW => ⟨rfl, cB_mv hw hD (kA_in hkA hS hFc) hU hW⟩⟩ rfl rfl hl.1 rfl (lv_room (Nat.le_of_ble_eq_true rfl)) dL_law_199 ⟨(show 10 + 16 * j + 4 + 4 ≤ 692346 by omega), (show 2000 + 48 * j + 12 + 12 ≤ 7025209 by omega)⟩) hS (fun q _ h => hFc q h) hFc (fun r_199_28 S_199_28 t H1 locs ht hvm hw1 hB hz1 hk1 hS => ?_)
      obtain ⟨hP, -, hD1⟩ := hB
      rw [ht] at hP
      have hD := hD1.weaken (fun k q _ h => hFc q.1 h)
      generalize H1 = H at hP hS ⊢
      obtain ⟨rfl, F_199_28, q199_28_0, q199_28_1, rfl⟩ := hw1
      have hw : cH dC dI ad o rw so ba ma cR cJ (stB T0 F_199_28) s H := ⟨hP, hK⟩
      refine lv_if_ne (tgt := 207) hx hb dL_law_202 (by decide) (fun _ => ?_) (fun c => absurd c (show ¬ ((1 : Int32) = 0) from by decide))
      refine lv_iinc (v := (2 : Int32)) (lv' := [(10, .int (2 : Int32)), (9, .int (f_X1_sortOf k V_119)), (8, .int (f_X1_sortOf k V_109)), (6, .long v6_2), (4, .long v4_1), (3, .int x3), (1, .ref o), (0, .ref b)]) hx hb dL_law_207 hl (k := 0) rfl (by decide) (by decide) rfl (fun ls hl => ?_)
      refine lv_goto (tgt := 190) hx hb dL_law_210 (by decide) ?_
      refine lv_iload hx hb dL_law_190 (lv_at hl 0 rfl) ?_
      refine lv_iconst (v := 4) hx hb dL_law_192 (by decide) ?_
      refine lv_icmp_ge (tgt := 213) hx hb dL_law_193 (by decide) (fun c => absurd c (show ¬ ((4 : Int32) ≤ (2 : Int32)) from by decide)) (fun _ => ?_)
      refine lv_aload_n hx hb dL_law_196 rfl (lv_at hl 6 rfl) ?_
      refine lv_iload hx hb dL_law_197 (lv_at hl 0 rfl) ?_
      have hFc := va_freeAll hD hS hA
      refine va_calli (va_runS (As := [.ref o, .int (2 : Int32)]) (rest := []) ⟨hx, hb, hml, hown, hts⟩ (c_L_isHeld l dC dI ad o rw so ba ma cR cJ H.size T0 k F_199_28 hk h1 had (2 : Int32) 2 rfl (by decide) V_109 V_119 q199_28_0 q199_28_1 cx cy) (va_cwS 2 hts (gS iL_isHeld (zin__r12 (.methodLink RL 45 yL_isHeld) (List.mem_of_getElem? (i := 5) rfl))) rfl rfl rfl (by decide +kernel) ⟨Nat.le_of_ble_eq_true rfl, Nat.le_of_ble_eq_true rfl⟩) ⟨fun a U g mk q => ⟨q.1, cB_bl q.2⟩, fun U hU hW => ⟨rfl, cB_mv hw hD (kA_in hkA hS hFc) hU hW⟩⟩ rfl rfl hl.1 rfl (lv_room (Nat.le_of_ble_eq_true rfl)) dL_law_199 ⟨(show 10 + 16 * j + 4 + 4 + 4 ≤ 692346 by omega), (show 2000 + 48 * j + 12 + 12 + 12 ≤ 7025209 by omega)⟩) hS (fun q _ h => hFc q h) hFc (fun r_199_29 S_199_29 t H1 locs ht hvm hw1 hB hz1 hk1 hS => ?_)
      obtain ⟨hP, -, hD1⟩ := hB
      rw [ht] at hP
      have hD := hD1.weaken (fun k q _ h => hFc q.1 h)
      generalize H1 = H at hP hS ⊢
      obtain ⟨rfl, F_199_29, q199_29_0, q199_29_1, rfl⟩ := hw1
      have hw : cH dC dI ad o rw so ba ma cR cJ (stB T0 F_199_29) s H := ⟨hP, hK⟩
      refine lv_if_ne (tgt := 207) hx hb dL_law_202 (by decide) (fun _ => ?_) (fun c => absurd c (show ¬ ((1 : Int32) = 0) from by decide))
      refine lv_iinc (v := (3 : Int32)) (lv' := [(10, .int (3 : Int32)), (9, .int (f_X1_sortOf k V_119)), (8, .int (f_X1_sortOf k V_109)), (6, .long v6_2), (4, .long v4_1), (3, .int x3), (1, .ref o), (0, .ref b)]) hx hb dL_law_207 hl (k := 0) rfl (by decide) (by decide) rfl (fun ls hl => ?_)
      refine lv_goto (tgt := 190) hx hb dL_law_210 (by decide) ?_
      refine lv_iload hx hb dL_law_190 (lv_at hl 0 rfl) ?_
      refine lv_iconst (v := 4) hx hb dL_law_192 (by decide) ?_
      refine lv_icmp_ge (tgt := 213) hx hb dL_law_193 (by decide) (fun c => absurd c (show ¬ ((4 : Int32) ≤ (3 : Int32)) from by decide)) (fun _ => ?_)
      refine lv_aload_n hx hb dL_law_196 rfl (lv_at hl 6 rfl) ?_
      refine lv_iload hx hb dL_law_197 (lv_at hl 0 rfl) ?_
      have hFc := va_freeAll hD hS hA
      refine va_calli (va_runS (As := [.ref o, .int (3 : Int32)]) (rest := []) ⟨hx, hb, hml, hown, hts⟩ (c_L_isHeld l dC dI ad o rw so ba ma cR cJ H.size T0 k F_199_29 hk h1 had (3 : Int32) 3 rfl (by decide) V_109 V_119 q199_29_0 q199_29_1 cx cy) (va_cwS 2 hts (gS iL_isHeld (zin__r12 (.methodLink RL 45 yL_isHeld) (List.mem_of_getElem? (i := 5) rfl))) rfl rfl rfl (by decide +kernel) ⟨Nat.le_of_ble_eq_true rfl, Nat.le_of_ble_eq_true rfl⟩) ⟨fun a U g mk q => ⟨q.1, cB_bl q.2⟩, fun U hU hW => ⟨rfl, cB_mv hw hD (kA_in hkA hS hFc) hU hW⟩⟩ rfl rfl hl.1 rfl (lv_room (Nat.le_of_ble_eq_true rfl)) dL_law_199 ⟨(show 10 + 16 * j + 4 + 4 + 4 + 4 ≤ 692346 by omega), (show 2000 + 48 * j + 12 + 12 + 12 + 12 ≤ 7025209 by omega)⟩) hS (fun q _ h => hFc q h) hFc (fun r_199_30 S_199_30 t H1 locs ht hvm hw1 hB hz1 hk1 hS => ?_)
      obtain ⟨hP, -, hD1⟩ := hB
      rw [ht] at hP
      have hD := hD1.weaken (fun k q _ h => hFc q.1 h)
      generalize H1 = H at hP hS ⊢
      obtain ⟨rfl, F_199_30, q199_30_0, q199_30_1, rfl⟩ := hw1
      have hw : cH dC dI ad o rw so ba ma cR cJ (stB T0 F_199_30) s H := ⟨hP, hK⟩
      refine lv_if_ne (tgt := 207) hx hb dL_law_202 (by decide) (fun _ => ?_) (fun c => absurd c (show ¬ ((1 : Int32) = 0) from by decide))
      refine lv_iinc (v := (4 : Int32)) (lv' := [(10, .int (4 : Int32)), (9, .int (f_X1_sortOf k V_119)), (8, .int (f_X1_sortOf k V_109)), (6, .long v6_2), (4, .long v4_1), (3, .int x3), (1, .ref o), (0, .ref b)]) hx hb dL_law_207 hl (k := 0) rfl (by decide) (by decide) rfl (fun ls hl => ?_)
      refine lv_goto (tgt := 190) hx hb dL_law_210 (by decide) ?_
      refine lv_iload hx hb dL_law_190 (lv_at hl 0 rfl) ?_
      refine lv_iconst (v := 4) hx hb dL_law_192 (by decide) ?_
      refine lv_icmp_ge (tgt := 213) hx hb dL_law_193 (by decide) (fun _ => ?_) (fun c => absurd (show (4 : Int32) ≤ (4 : Int32) from by decide) c)
      obtain ⟨v3_31, e_v3_31⟩ : ∃ y : Int32, y = (x3 + (4 : Int32)) := ⟨_, rfl⟩
      refine lv_iinc (v := v3_31) (lv' := [(3, .int v3_31), (10, .int (4 : Int32)), (9, .int (f_X1_sortOf k V_119)), (8, .int (f_X1_sortOf k V_109)), (6, .long v6_2), (4, .long v4_1), (1, .ref o), (0, .ref b)]) hx hb dL_law_213 hl (k := 5) rfl (by rw [e_v3_31]; rfl) (by decide) rfl (fun ls hl => ?_)
      refine lv_goto (tgt := 35) hx hb dL_law_216 (by decide) ?_
      refine W.widen (k := 10 + 16 * (j + 1)) (n := 2000 + 48 * (j + 1)) (by omega) (by omega) ?_
      exact K F_199_30 H locs ls v3_31 ⟨hw, hD, hS⟩ (by rw [e_v3_31, ex3]; show nI (1 + 4 * j) + nI 4 = _; rw [nI_add]) (lv_sub hl [0, 6, 7] rfl)
    · refine lv_aload_n hx hb dL_law_124 rfl (lv_at hl 5 rfl) ?_
      refine lv_iload hx hb dL_law_125 (lv_at hl 1 rfl) ?_
      refine lv_iconst (v := 3) hx hb dL_law_127 (by decide) ?_
      refine lv_icmp_ne (tgt := 135) hx hb dL_law_128 (by decide) (fun _ => ?_) (fun c => absurd c (show ¬ ((f_X1_sortOf k V_109) = (3 : Int32)) from fun e => hxn ((sort_3 hk cx).mp e)))
      refine lv_iconst (v := 0) hx hb dL_law_135 (by decide) ?_
      refine lv_iload hx hb dL_law_136 (lv_at hl 0 rfl) ?_
      refine lv_iconst (v := 3) hx hb dL_law_138 (by decide) ?_
      refine lv_icmp_ne (tgt := 146) hx hb dL_law_139 (by decide) (fun _ => ?_) (fun c => absurd c (show ¬ ((f_X1_sortOf k V_119) = (3 : Int32)) from fun e => hyn ((sort_3 hk cy).mp e)))
      refine lv_iconst (v := 0) hx hb dL_law_146 (by decide) ?_
      have hFc := va_freeAll hD hS hA
      refine va_calli (va_runS (As := [.ref o, .int (0 : Int32), .int (0 : Int32)]) (rest := []) ⟨hx, hb, hml, hown, hts⟩ (c_L_isOrdered l dC dI ad o rw so ba ma cR cJ H.size T0 k F_119 hk h1 (0 : Int32) (0 : Int32) V_109 V_119 q119_0 q119_1 cx cy (if_neg hxn).symm (if_neg hyn).symm) (va_cwS 3 hts (gS iL_isOrdered (zin__r4 (.methodLink RL 30 yL_isOrdered) (List.mem_of_getElem? (i := 21) rfl))) rfl rfl rfl (by decide +kernel) ⟨Nat.le_of_ble_eq_true rfl, Nat.le_of_ble_eq_true rfl⟩) ⟨fun a U g mk q => ⟨q.1, cB_bl q.2⟩, fun U hU hW => ⟨rfl, cB_mv hw hD (kA_in hkA hS hFc) hU hW⟩⟩ rfl rfl hl.1 rfl (lv_room (Nat.le_of_ble_eq_true rfl)) dL_law_147 ⟨(show 10 + 16 * j + 0 ≤ 692346 by omega), (show 2000 + 48 * j + 0 ≤ 7025209 by omega)⟩) hS (fun q _ h => hFc q h) hFc (fun r_147 S_147 t H1 locs ht hvm hw1 hB hz1 hk1 hS => ?_)
      obtain ⟨hP, -, hD1⟩ := hB
      rw [ht] at hP
      have hD := hD1.weaken (fun k q _ h => hFc q.1 h)
      generalize H1 = H at hP hS ⊢
      obtain ⟨rfl, F_147, q147_0, q147_1, rfl⟩ := hw1
      have hw : cH dC dI ad o rw so ba ma cR cJ (stB T0 F_147) s H := ⟨hP, hK⟩
      refine lv_if_eq (tgt := 185) hx hb dL_law_150 (by decide) (fun c => absurd c (show ¬ ((1 : Int32) = 0) from by decide)) (fun _ => ?_)
      refine lv_aload_n hx hb dL_law_153 rfl (lv_at hl 5 rfl) ?_
      have hFc := va_freeAll hD hS hA
      refine va_calli (va_runS (As := [.ref o]) (rest := []) ⟨hx, hb, hml, hown, hts⟩ (c_L_isReckoned l dC dI ad o rw so ba ma cR cJ H.size T0 k F_147 hk h1 V_109 V_119 q147_0 q147_1 cx cy) (va_cwS 1 hts (gS iL_isReckoned (zin__r7 (.methodLink RL 34 yL_isReckoned) (List.mem_of_getElem? (i := 3) rfl))) rfl rfl rfl (by decide +kernel) ⟨Nat.le_of_ble_eq_true rfl, Nat.le_of_ble_eq_true rfl⟩) ⟨fun a U g mk q => ⟨q.1, cB_bl q.2⟩, fun U hU hW => ⟨rfl, cB_mv hw hD (kA_in hkA hS hFc) hU hW⟩⟩ rfl rfl hl.1 rfl (lv_room (Nat.le_of_ble_eq_true rfl)) dL_law_154 ⟨(show 10 + 16 * j + 0 ≤ 692346 by omega), (show 2000 + 48 * j + 0 ≤ 7025209 by omega)⟩) hS (fun q _ h => hFc q h) hFc (fun r_154 S_154 t H1 locs ht hvm hw1 hB hz1 hk1 hS => ?_)
      obtain ⟨hP, -, hD1⟩ := hB
      rw [ht] at hP
      have hD := hD1.weaken (fun k q _ h => hFc q.1 h)
      generalize H1 = H at hP hS ⊢
      obtain ⟨rfl, F_154, q154_0, q154_1, rfl⟩ := hw1
      have hw : cH dC dI ad o rw so ba ma cR cJ (stB T0 F_154) s H := ⟨hP, hK⟩
      refine lv_if_eq (tgt := 185) hx hb dL_law_157 (by decide) (fun c => absurd c (show ¬ ((1 : Int32) = 0) from by decide)) (fun _ => ?_)
      refine lv_aload_n hx hb dL_law_160 rfl (lv_at hl 5 rfl) ?_
      refine lv_iload hx hb dL_law_161 (lv_at hl 1 rfl) ?_
      refine lv_iconst (v := 3) hx hb dL_law_163 (by decide) ?_
      refine lv_icmp_ne (tgt := 171) hx hb dL_law_164 (by decide) (fun _ => ?_) (fun c => absurd c (show ¬ ((f_X1_sortOf k V_109) = (3 : Int32)) from fun e => hxn ((sort_3 hk cx).mp e)))
      refine lv_iconst (v := 0) hx hb dL_law_171 (by decide) ?_
      have hFc := va_freeAll hD hS hA
      refine va_calli (va_runS (As := [.ref o, .int (0 : Int32)]) (rest := []) ⟨hx, hb, hml, hown, hts⟩ (c_L_isAbout l dC dI ad o rw so ba ma cR cJ H.size T0 k F_154 hk h1 (0 : Int32) V_109 V_119 q154_0 q154_1 cx cy (if_neg hxn).symm) (va_cwS 2 hts (gS iL_isAbout (zin__r11 (.methodLink RL 38 yL_isAbout) (List.mem_of_getElem? (i := 23) rfl))) rfl rfl rfl (by decide +kernel) ⟨Nat.le_of_ble_eq_true rfl, Nat.le_of_ble_eq_true rfl⟩) ⟨fun a U g mk q => ⟨q.1, cB_bl q.2⟩, fun U hU hW => ⟨rfl, cB_mv hw hD (kA_in hkA hS hFc) hU hW⟩⟩ rfl rfl hl.1 rfl (lv_room (Nat.le_of_ble_eq_true rfl)) dL_law_172 ⟨(show 10 + 16 * j + 0 ≤ 692346 by omega), (show 2000 + 48 * j + 0 ≤ 7025209 by omega)⟩) hS (fun q _ h => hFc q h) hFc (fun r_172 S_172 t H1 locs ht hvm hw1 hB hz1 hk1 hS => ?_)
      obtain ⟨hP, -, hD1⟩ := hB
      rw [ht] at hP
      have hD := hD1.weaken (fun k q _ h => hFc q.1 h)
      generalize H1 = H at hP hS ⊢
      obtain ⟨rfl, F_172, q172_0, q172_1, rfl⟩ := hw1
      have hw : cH dC dI ad o rw so ba ma cR cJ (stB T0 F_172) s H := ⟨hP, hK⟩
      refine lv_if_eq (tgt := 185) hx hb dL_law_175 (by decide) (fun c => absurd c (show ¬ ((1 : Int32) = 0) from by decide)) (fun _ => ?_)
      refine lv_aload_n hx hb dL_law_178 rfl (lv_at hl 5 rfl) ?_
      have hFc := va_freeAll hD hS hA
      refine va_calli (va_runS (As := [.ref o]) (rest := []) ⟨hx, hb, hml, hown, hts⟩ (c_L_isLeft l dC dI ad o rw so ba ma cR cJ H.size T0 k F_172 hk h1 V_109 V_119 q172_0 q172_1 cx cy) (va_cwS 1 hts (gS iL_isLeft (zin__r12 (.methodLink RL 42 yL_isLeft) (List.mem_of_getElem? (i := 2) rfl))) rfl rfl rfl (by decide +kernel) ⟨Nat.le_of_ble_eq_true rfl, Nat.le_of_ble_eq_true rfl⟩) ⟨fun a U g mk q => ⟨q.1, cB_bl q.2⟩, fun U hU hW => ⟨rfl, cB_mv hw hD (kA_in hkA hS hFc) hU hW⟩⟩ rfl rfl hl.1 rfl (lv_room (Nat.le_of_ble_eq_true rfl)) dL_law_179 ⟨(show 10 + 16 * j + 0 ≤ 692346 by omega), (show 2000 + 48 * j + 0 ≤ 7025209 by omega)⟩) hS (fun q _ h => hFc q h) hFc (fun r_179 S_179 t H1 locs ht hvm hw1 hB hz1 hk1 hS => ?_)
      obtain ⟨hP, -, hD1⟩ := hB
      rw [ht] at hP
      have hD := hD1.weaken (fun k q _ h => hFc q.1 h)
      generalize H1 = H at hP hS ⊢
      obtain ⟨rfl, F_179, q179_0, q179_1, rfl⟩ := hw1
      have hw : cH dC dI ad o rw so ba ma cR cJ (stB T0 F_179) s H := ⟨hP, hK⟩
      refine lv_if_ne (tgt := 187) hx hb dL_law_182 (by decide) (fun _ => ?_) (fun c => absurd c (show ¬ ((1 : Int32) = 0) from by decide))
      refine lv_iconst (v := 0) hx hb dL_law_187 (by decide) ?_
      refine lv_istore (lv' := [(10, .int (0 : Int32)), (9, .int (f_X1_sortOf k V_119)), (8, .int (f_X1_sortOf k V_109)), (6, .long v6_2), (4, .long v4_1), (3, .int x3), (1, .ref o), (0, .ref b)]) hx hb dL_law_188 hl (by decide) rfl (fun ls hl => ?_)
      refine lv_iload hx hb dL_law_190 (lv_at hl 0 rfl) ?_
      refine lv_iconst (v := 4) hx hb dL_law_192 (by decide) ?_
      refine lv_icmp_ge (tgt := 213) hx hb dL_law_193 (by decide) (fun c => absurd c (show ¬ ((4 : Int32) ≤ (0 : Int32)) from by decide)) (fun _ => ?_)
      refine lv_aload_n hx hb dL_law_196 rfl (lv_at hl 6 rfl) ?_
      refine lv_iload hx hb dL_law_197 (lv_at hl 0 rfl) ?_
      have hFc := va_freeAll hD hS hA
      refine va_calli (va_runS (As := [.ref o, .int (0 : Int32)]) (rest := []) ⟨hx, hb, hml, hown, hts⟩ (c_L_isHeld l dC dI ad o rw so ba ma cR cJ H.size T0 k F_179 hk h1 had (0 : Int32) 0 rfl (by decide) V_109 V_119 q179_0 q179_1 cx cy) (va_cwS 2 hts (gS iL_isHeld (zin__r12 (.methodLink RL 45 yL_isHeld) (List.mem_of_getElem? (i := 5) rfl))) rfl rfl rfl (by decide +kernel) ⟨Nat.le_of_ble_eq_true rfl, Nat.le_of_ble_eq_true rfl⟩) ⟨fun a U g mk q => ⟨q.1, cB_bl q.2⟩, fun U hU hW => ⟨rfl, cB_mv hw hD (kA_in hkA hS hFc) hU hW⟩⟩ rfl rfl hl.1 rfl (lv_room (Nat.le_of_ble_eq_true rfl)) dL_law_199 ⟨(show 10 + 16 * j + 4 ≤ 692346 by omega), (show 2000 + 48 * j + 12 ≤ 7025209 by omega)⟩) hS (fun q _ h => hFc q h) hFc (fun r_199 S_199 t H1 locs ht hvm hw1 hB hz1 hk1 hS => ?_)
      obtain ⟨hP, -, hD1⟩ := hB
      rw [ht] at hP
      have hD := hD1.weaken (fun k q _ h => hFc q.1 h)
      generalize H1 = H at hP hS ⊢
      obtain ⟨rfl, F_199, q199_0, q199_1, rfl⟩ := hw1
      have hw : cH dC dI ad o rw so ba ma cR cJ (stB T0 F_199) s H := ⟨hP, hK⟩
      refine lv_if_ne (tgt := 207) hx hb dL_law_202 (by decide) (fun _ => ?_) (fun c => absurd c (show ¬ ((1 : Int32) = 0) from by decide))
      refine lv_iinc (v := (1 : Int32)) (lv' := [(10, .int (1 : Int32)), (9, .int (f_X1_sortOf k V_119)), (8, .int (f_X1_sortOf k V_109)), (6, .long v6_2), (4, .long v4_1), (3, .int x3), (1, .ref o), (0, .ref b)]) hx hb dL_law_207 hl (k := 0) rfl (by decide) (by decide) rfl (fun ls hl => ?_)
      refine lv_goto (tgt := 190) hx hb dL_law_210 (by decide) ?_
      refine lv_iload hx hb dL_law_190 (lv_at hl 0 rfl) ?_
      refine lv_iconst (v := 4) hx hb dL_law_192 (by decide) ?_
      refine lv_icmp_ge (tgt := 213) hx hb dL_law_193 (by decide) (fun c => absurd c (show ¬ ((4 : Int32) ≤ (1 : Int32)) from by decide)) (fun _ => ?_)
      refine lv_aload_n hx hb dL_law_196 rfl (lv_at hl 6 rfl) ?_
      refine lv_iload hx hb dL_law_197 (lv_at hl 0 rfl) ?_
      have hFc := va_freeAll hD hS hA
      refine va_calli (va_runS (As := [.ref o, .int (1 : Int32)]) (rest := []) ⟨hx, hb, hml, hown, hts⟩ (c_L_isHeld l dC dI ad o rw so ba ma cR cJ H.size T0 k F_199 hk h1 had (1 : Int32) 1 rfl (by decide) V_109 V_119 q199_0 q199_1 cx cy) (va_cwS 2 hts (gS iL_isHeld (zin__r12 (.methodLink RL 45 yL_isHeld) (List.mem_of_getElem? (i := 5) rfl))) rfl rfl rfl (by decide +kernel) ⟨Nat.le_of_ble_eq_true rfl, Nat.le_of_ble_eq_true rfl⟩) ⟨fun a U g mk q => ⟨q.1, cB_bl q.2⟩, fun U hU hW => ⟨rfl, cB_mv hw hD (kA_in hkA hS hFc) hU hW⟩⟩ rfl rfl hl.1 rfl (lv_room (Nat.le_of_ble_eq_true rfl)) dL_law_199 ⟨(show 10 + 16 * j + 4 + 4 ≤ 692346 by omega), (show 2000 + 48 * j + 12 + 12 ≤ 7025209 by omega)⟩) hS (fun q _ h => hFc q h) hFc (fun r_199_37 S_199_37 t H1 locs ht hvm hw1 hB hz1 hk1 hS => ?_)
      obtain ⟨hP, -, hD1⟩ := hB
      rw [ht] at hP
      have hD := hD1.weaken (fun k q _ h => hFc q.1 h)
      generalize H1 = H at hP hS ⊢
      obtain ⟨rfl, F_199_37, q199_37_0, q199_37_1, rfl⟩ := hw1
      have hw : cH dC dI ad o rw so ba ma cR cJ (stB T0 F_199_37) s H := ⟨hP, hK⟩
      refine lv_if_ne (tgt := 207) hx hb dL_law_202 (by decide) (fun _ => ?_) (fun c => absurd c (show ¬ ((1 : Int32) = 0) from by decide))
      refine lv_iinc (v := (2 : Int32)) (lv' := [(10, .int (2 : Int32)), (9, .int (f_X1_sortOf k V_119)), (8, .int (f_X1_sortOf k V_109)), (6, .long v6_2), (4, .long v4_1), (3, .int x3), (1, .ref o), (0, .ref b)]) hx hb dL_law_207 hl (k := 0) rfl (by decide) (by decide) rfl (fun ls hl => ?_)
      refine lv_goto (tgt := 190) hx hb dL_law_210 (by decide) ?_
      refine lv_iload hx hb dL_law_190 (lv_at hl 0 rfl) ?_
      refine lv_iconst (v := 4) hx hb dL_law_192 (by decide) ?_
      refine lv_icmp_ge (tgt := 213) hx hb dL_law_193 (by decide) (fun c => absurd c (show ¬ ((4 : Int32) ≤ (2 : Int32)) from by decide)) (fun _ => ?_)
      refine lv_aload_n hx hb dL_law_196 rfl (lv_at hl 6 rfl) ?_
      refine lv_iload hx hb dL_law_197 (lv_at hl 0 rfl) ?_
      have hFc := va_freeAll hD hS hA
      refine va_calli (va_runS (As := [.ref o, .int (2 : Int32)]) (rest := []) ⟨hx, hb, hml, hown, hts⟩ (c_L_isHeld l dC dI ad o rw so ba ma cR cJ H.size T0 k F_199_37 hk h1 had (2 : Int32) 2 rfl (by decide) V_109 V_119 q199_37_0 q199_37_1 cx cy) (va_cwS 2 hts (gS iL_isHeld (zin__r12 (.methodLink RL 45 yL_isHeld) (List.mem_of_getElem? (i := 5) rfl))) rfl rfl rfl (by decide +kernel) ⟨Nat.le_of_ble_eq_true rfl, Nat.le_of_ble_eq_true rfl⟩) ⟨fun a U g mk q => ⟨q.1, cB_bl q.2⟩, fun U hU hW => ⟨rfl, cB_mv hw hD (kA_in hkA hS hFc) hU hW⟩⟩ rfl rfl hl.1 rfl (lv_room (Nat.le_of_ble_eq_true rfl)) dL_law_199 ⟨(show 10 + 16 * j + 4 + 4 + 4 ≤ 692346 by omega), (show 2000 + 48 * j + 12 + 12 + 12 ≤ 7025209 by omega)⟩) hS (fun q _ h => hFc q h) hFc (fun r_199_38 S_199_38 t H1 locs ht hvm hw1 hB hz1 hk1 hS => ?_)
      obtain ⟨hP, -, hD1⟩ := hB
      rw [ht] at hP
      have hD := hD1.weaken (fun k q _ h => hFc q.1 h)
      generalize H1 = H at hP hS ⊢
      obtain ⟨rfl, F_199_38, q199_38_0, q199_38_1, rfl⟩ := hw1
      have hw : cH dC dI ad o rw so ba ma cR cJ (stB T0 F_199_38) s H := ⟨hP, hK⟩
      refine lv_if_ne (tgt := 207) hx hb dL_law_202 (by decide) (fun _ => ?_) (fun c => absurd c (show ¬ ((1 : Int32) = 0) from by decide))
      refine lv_iinc (v := (3 : Int32)) (lv' := [(10, .int (3 : Int32)), (9, .int (f_X1_sortOf k V_119)), (8, .int (f_X1_sortOf k V_109)), (6, .long v6_2), (4, .long v4_1), (3, .int x3), (1, .ref o), (0, .ref b)]) hx hb dL_law_207 hl (k := 0) rfl (by decide) (by decide) rfl (fun ls hl => ?_)
      refine lv_goto (tgt := 190) hx hb dL_law_210 (by decide) ?_
      refine lv_iload hx hb dL_law_190 (lv_at hl 0 rfl) ?_
      refine lv_iconst (v := 4) hx hb dL_law_192 (by decide) ?_
      refine lv_icmp_ge (tgt := 213) hx hb dL_law_193 (by decide) (fun c => absurd c (show ¬ ((4 : Int32) ≤ (3 : Int32)) from by decide)) (fun _ => ?_)
      refine lv_aload_n hx hb dL_law_196 rfl (lv_at hl 6 rfl) ?_
      refine lv_iload hx hb dL_law_197 (lv_at hl 0 rfl) ?_
      have hFc := va_freeAll hD hS hA
      refine va_calli (va_runS (As := [.ref o, .int (3 : Int32)]) (rest := []) ⟨hx, hb, hml, hown, hts⟩ (c_L_isHeld l dC dI ad o rw so ba ma cR cJ H.size T0 k F_199_38 hk h1 had (3 : Int32) 3 rfl (by decide) V_109 V_119 q199_38_0 q199_38_1 cx cy) (va_cwS 2 hts (gS iL_isHeld (zin__r12 (.methodLink RL 45 yL_isHeld) (List.mem_of_getElem? (i := 5) rfl))) rfl rfl rfl (by decide +kernel) ⟨Nat.le_of_ble_eq_true rfl, Nat.le_of_ble_eq_true rfl⟩) ⟨fun a U g mk q => ⟨q.1, cB_bl q.2⟩, fun U hU hW => ⟨rfl, cB_mv hw hD (kA_in hkA hS hFc) hU hW⟩⟩ rfl rfl hl.1 rfl (lv_room (Nat.le_of_ble_eq_true rfl)) dL_law_199 ⟨(show 10 + 16 * j + 4 + 4 + 4 + 4 ≤ 692346 by omega), (show 2000 + 48 * j + 12 + 12 + 12 + 12 ≤ 7025209 by omega)⟩) hS (fun q _ h => hFc q h) hFc (fun r_199_39 S_199_39 t H1 locs ht hvm hw1 hB hz1 hk1 hS => ?_)
      obtain ⟨hP, -, hD1⟩ := hB
      rw [ht] at hP
      have hD := hD1.weaken (fun k q _ h => hFc q.1 h)
      generalize H1 = H at hP hS ⊢
      obtain ⟨rfl, F_199_39, q199_39_0, q199_39_1, rfl⟩ := hw1
      have hw : cH dC dI ad o rw so ba ma cR cJ (stB T0 F_199_39) s H := ⟨hP, hK⟩
      refine lv_if_ne (tgt := 207) hx hb dL_law_202 (by decide) (fun _ => ?_) (fun c => absurd c (show ¬ ((1 : Int32) = 0) from by decide))
      refine lv_iinc (v := (4 : Int32)) (lv' := [(10, .int (4 : Int32)), (9, .int (f_X1_sortOf k V_119)), (8, .int (f_X1_sortOf k V_109)), (6, .long v6_2), (4, .long v4_1), (3, .int x3), (1, .ref o), (0, .ref b)]) hx hb dL_law_207 hl (k := 0) rfl (by decide) (by decide) rfl (fun ls hl => ?_)
      refine lv_goto (tgt := 190) hx hb dL_law_210 (by decide) ?_
      refine lv_iload hx hb dL_law_190 (lv_at hl 0 rfl) ?_
      refine lv_iconst (v := 4) hx hb dL_law_192 (by decide) ?_
      refine lv_icmp_ge (tgt := 213) hx hb dL_law_193 (by decide) (fun _ => ?_) (fun c => absurd (show (4 : Int32) ≤ (4 : Int32) from by decide) c)
      obtain ⟨v3_40, e_v3_40⟩ : ∃ y : Int32, y = (x3 + (4 : Int32)) := ⟨_, rfl⟩
      refine lv_iinc (v := v3_40) (lv' := [(3, .int v3_40), (10, .int (4 : Int32)), (9, .int (f_X1_sortOf k V_119)), (8, .int (f_X1_sortOf k V_109)), (6, .long v6_2), (4, .long v4_1), (1, .ref o), (0, .ref b)]) hx hb dL_law_213 hl (k := 5) rfl (by rw [e_v3_40]; rfl) (by decide) rfl (fun ls hl => ?_)
      refine lv_goto (tgt := 35) hx hb dL_law_216 (by decide) ?_
      refine W.widen (k := 10 + 16 * (j + 1)) (n := 2000 + 48 * (j + 1)) (by omega) (by omega) ?_
      exact K F_199_39 H locs ls v3_40 ⟨hw, hD, hS⟩ (by rw [e_v3_40, ex3]; show nI (1 + 4 * j) + nI 4 = _; rw [nI_add]) (lv_sub hl [0, 6, 7] rfl)
