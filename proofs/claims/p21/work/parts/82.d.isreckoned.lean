def zL_isReckoned : List Cond := .code yL_isReckoned cL_isReckoned 3 (some .boolean) :: zall
theorem iL_isReckoned : MWs yL_isReckoned (.code yL_isReckoned cL_isReckoned 3 (some .boolean)) := ⟨(zin__r7 (.static yL_isReckoned) (List.mem_of_getElem? (i := 4) rfl)), (zin__r2 (.initialized RL) (List.mem_of_getElem? (i := 4) rfl)), (zin__r7 (.code yL_isReckoned cL_isReckoned 3 (some .boolean)) (List.mem_of_getElem? (i := 5) rfl))⟩
set_option maxHeartbeats 4000000 in
set_option maxRecDepth 100000 in
theorem c_L_isReckoned (l : Launch) (dC : Nat → ClassId) (dI : Nat → Nat → Nat) (ad : Nat → Nat) (o rw so ba ma : Nat) (cR cJ : ClassId) (sz : Nat) (T0 : CSt) (k : Nat) (f : Nat → Int64) (hk : k < 2) (h1 : one12 T0 k) (x y : Int64) (q0 : f 0 = x) (q1 : f 1 = y) (cx : kcn k x) (cy : kcn k y) : Met l yL_isReckoned zL_isReckoned ({ frames := 8, cells := 0, slots := 0, locals := 209 }) (va_Pc [.ref o] (fun U => cB dC dI ad o rw so ba ma cR cJ sz (stB T0 f) U)) (va_Qi (fun r9 S9 => r9 = 1 ∧ ∃ g : Nat → Int64, g 0 = x ∧ g 1 = y ∧ S9 = stB T0 g) (cE dC dI ad o rw so ba ma cR cJ (va_A (cWs ad o rw so ba ma cR cJ (stB T0 f)) sz)) (va_A (cWs ad o rw so ba ma cR cJ (stB T0 f)) sz)) 0 0 (va_A (cWs ad o rw so ba ma cR cJ (stB T0 f)) sz) := by
  refine Met.ofW (cc := cL_isReckoned) (maxL := 3) (ret := (some .boolean)) (by decide) rfl ?_
  intro p e s m args below meth c s₁ Bx hml hv
  obtain ⟨rfl, hsz, hP, hK, hD0, hkA⟩ := hv
  have hx := Bx.exec
  have hb := Bx.bytes
  have hr := Bx.returns
  have hts : ∀ w ∈ zall, w.before _ s = true := fun w h => atoms_spec (ws := zL_isReckoned) Bx.pre w (List.mem_cons_of_mem _ h)
  have hown : s.vm.findClass RL = some m.cls := findClass_of_methodNamed Bx.named
  have hlocks := Bx.notSynchronized
  subst hsz
  have hD := hD0.self (sz := s.heap.size)
  generalize hAe : va_A (cWs ad o rw so ba ma cR cJ (stB T0 f)) s.heap.size = A at hD hkA ⊢
  have hA : ∀ q : Nat, s.heap.size ≤ q → A q := fun q h => by rw [← hAe]; exact Or.inr h
  have hS : va_S A s.heap s.heap [] := va_S.rf
  have hw : cH dC dI ad o rw so ba ma cR cJ (stB T0 f) s s.heap := ⟨hP, hK⟩
  have hl := lv_entry ([.ref o]) (n := 3) (Nat.le_of_ble_eq_true rfl)
  rw [lg_entry_eq]
  generalize (lg_sl ([.ref o]) ++ List.replicate (3 - (lg_sl ([.ref o])).length) Slot.unset).toArray = ls at hl ⊢
  have hl : lv_has ls 3 [(0, .ref o)] := hl
  refine lv_aload_n hx hb dL_isReckoned_0 rfl (lv_at hl 0 rfl) ?_
  refine lv_iconst (v := 0) hx hb dL_isReckoned_1 (by decide) ?_
  refine lv_bipush (v := 8) hx hb dL_isReckoned_2 (by decide) ?_
  refine lv_iconst (v := 0) hx hb dL_isReckoned_4 (by decide) ?_
  refine lv_iconst (v := 1) hx hb dL_isReckoned_5 (by decide) ?_
  refine lv_iconst (v := 2) hx hb dL_isReckoned_6 (by decide) ?_
  have hFc := va_freeAll hD hS hA
  refine va_calli (va_runV (As := [.int (0 : Int32), .int (8 : Int32), .int (0 : Int32), .int (1 : Int32), .int (2 : Int32)]) (rest := []) ⟨hx, hb, hml, hown, hts⟩ (c_X6_act l dC dI ad o rw so ba ma cR cJ s.heap.size (stB T0 f) (0 : Int32) (8 : Int32) (0 : Int32) (1 : Int32) (2 : Int32) (inv12 h1 hk)) (cwV 5 hts (gV iX6_act (zin__r7 (.methodLink RL 64 yX6_act) (List.mem_of_getElem? (i := 6) rfl))) rfl rfl rfl (by decide +kernel) ⟨Nat.le_of_ble_eq_true rfl, Nat.le_of_ble_eq_true rfl⟩) ⟨fun a U g mk q => ⟨q.1, cB_bl q.2⟩, cW_rv hw, fun U hU hW => ⟨rfl, cB_mv hw hD (kA_in hkA hS hFc) hU hW⟩⟩ rfl rfl hl.1 rfl (lv_room (Nat.le_of_ble_eq_true rfl)) dL_isReckoned_7 ⟨Nat.zero_le _, Nat.zero_le _⟩) hS (fun q _ h => hFc q h) hFc (fun r_7 S_7 t H1 locs ht hvm hw1 hB hz1 hk1 hS => ?_)
  obtain ⟨hP, -, hD1⟩ := hB
  rw [ht] at hP
  have hD := hD1.weaken (fun k q _ h => hFc q.1 h)
  generalize H1 = H at hP hS ⊢
  obtain ⟨V_7, eV_7⟩ : ∃ z, z = f_X2_acted k (8 : Int32) x y := ⟨_, rfl⟩
  obtain ⟨F_7, eF_7⟩ : ∃ z, z = vp_updL f 2 V_7 := ⟨_, rfl⟩
  obtain ⟨rfl, rfl⟩ : r_7 = f_X1_sortOf k V_7 ∧ S_7 = stB T0 F_7 := by rw [eF_7, eV_7]; exact Prod.mk.inj (hw1.trans (act_at (m := 8) (i := 0) (j := 1) (n := 2) h1 (by decide) (by decide) (by decide) (by decide) q0 q1))
  have q7_0 : F_7 0 = x := by rw [eF_7, updL_ne (by decide)]; exact q0
  have q7_1 : F_7 1 = y := by rw [eF_7, updL_ne (by decide)]; exact q1
  have q7_2 : F_7 2 = V_7 := by rw [eF_7]; exact updL_eq
  have hw : cH dC dI ad o rw so ba ma cR cJ (stB T0 F_7) s H := ⟨hP, hK⟩
  refine lv_aload_n hx hb dL_isReckoned_10 rfl (lv_at hl 0 rfl) ?_
  refine lv_iconst (v := 0) hx hb dL_isReckoned_11 (by decide) ?_
  refine lv_bipush (v := 8) hx hb dL_isReckoned_12 (by decide) ?_
  refine lv_iconst (v := 1) hx hb dL_isReckoned_14 (by decide) ?_
  refine lv_iconst (v := 0) hx hb dL_isReckoned_15 (by decide) ?_
  refine lv_iconst (v := 3) hx hb dL_isReckoned_16 (by decide) ?_
  have hFc := va_freeAll hD hS hA
  refine va_calli (va_runV (As := [.int (0 : Int32), .int (8 : Int32), .int (1 : Int32), .int (0 : Int32), .int (3 : Int32)]) (rest := [.int (f_X1_sortOf k V_7)]) ⟨hx, hb, hml, hown, hts⟩ (c_X6_act l dC dI ad o rw so ba ma cR cJ H.size (stB T0 F_7) (0 : Int32) (8 : Int32) (1 : Int32) (0 : Int32) (3 : Int32) (inv12 h1 hk)) (cwV 5 hts (gV iX6_act (zin__r7 (.methodLink RL 64 yX6_act) (List.mem_of_getElem? (i := 6) rfl))) rfl rfl rfl (by decide +kernel) ⟨Nat.le_of_ble_eq_true rfl, Nat.le_of_ble_eq_true rfl⟩) ⟨fun a U g mk q => ⟨q.1, cB_bl q.2⟩, cW_rv hw, fun U hU hW => ⟨rfl, cB_mv hw hD (kA_in hkA hS hFc) hU hW⟩⟩ rfl rfl hl.1 rfl (lv_room (Nat.le_of_ble_eq_true rfl)) dL_isReckoned_17 ⟨Nat.zero_le _, Nat.zero_le _⟩) hS (fun q _ h => hFc q h) hFc (fun r_17 S_17 t H1 locs ht hvm hw1 hB hz1 hk1 hS => ?_)
  obtain ⟨hP, -, hD1⟩ := hB
  rw [ht] at hP
  have hD := hD1.weaken (fun k q _ h => hFc q.1 h)
  generalize H1 = H at hP hS ⊢
  obtain ⟨V_17, eV_17⟩ : ∃ z, z = f_X2_acted k (8 : Int32) y x := ⟨_, rfl⟩
  obtain ⟨F_17, eF_17⟩ : ∃ z, z = vp_updL F_7 3 V_17 := ⟨_, rfl⟩
  obtain ⟨rfl, rfl⟩ : r_17 = f_X1_sortOf k V_17 ∧ S_17 = stB T0 F_17 := by rw [eF_17, eV_17]; exact Prod.mk.inj (hw1.trans (act_at (m := 8) (i := 1) (j := 0) (n := 3) h1 (by decide) (by decide) (by decide) (by decide) q7_1 q7_0))
  have q17_0 : F_17 0 = x := by rw [eF_17, updL_ne (by decide)]; exact q7_0
  have q17_1 : F_17 1 = y := by rw [eF_17, updL_ne (by decide)]; exact q7_1
  have q17_2 : F_17 2 = V_7 := by rw [eF_17, updL_ne (by decide)]; exact q7_2
  have q17_3 : F_17 3 = V_17 := by rw [eF_17]; exact updL_eq
  have hw : cH dC dI ad o rw so ba ma cR cJ (stB T0 F_17) s H := ⟨hP, hK⟩
  refine lv_icmp_ne (tgt := 43) hx hb dL_isReckoned_20 (by decide) (fun c => absurd (show (f_X1_sortOf k V_7) = (f_X1_sortOf k V_17) from by rw [eV_7, eV_17, a8_comm hk cx cy]) c) (fun _ => ?_)
  refine lv_aload_n hx hb dL_isReckoned_23 rfl (lv_at hl 0 rfl) ?_
  refine lv_iconst (v := 0) hx hb dL_isReckoned_24 (by decide) ?_
  refine lv_iconst (v := 2) hx hb dL_isReckoned_25 (by decide) ?_
  have hFc := va_freeAll hD hS hA
  refine va_calll (va_runV (As := [.int (0 : Int32), .int (2 : Int32)]) (rest := []) ⟨hx, hb, hml, hown, hts⟩ (c_X6_get l dC dI ad o rw so ba ma cR cJ H.size (stB T0 F_17) (0 : Int32) (2 : Int32) (inv12 h1 hk)) (cwV 2 hts (gV iX6_get (zin__r6 (.methodLink RL 60 yX6_get) (List.mem_of_getElem? (i := 15) rfl))) rfl rfl rfl (by decide +kernel) ⟨Nat.le_of_ble_eq_true rfl, Nat.le_of_ble_eq_true rfl⟩) ⟨fun a U g mk q => ⟨q.1, cB_bl q.2⟩, cW_rv hw, fun U hU hW => ⟨rfl, cB_mv hw hD (kA_in hkA hS hFc) hU hW⟩⟩ rfl rfl hl.1 rfl (lv_room (Nat.le_of_ble_eq_true rfl)) dL_isReckoned_26 ⟨Nat.zero_le _, Nat.zero_le _⟩) hS (fun q _ h => hFc q h) hFc (fun r_26 S_26 t H1 locs ht hvm hw1 hB hz1 hk1 hS => ?_)
  obtain ⟨hP, -, hD1⟩ := hB
  rw [ht] at hP
  have hD := hD1.weaken (fun k q _ h => hFc q.1 h)
  generalize H1 = H at hP hS ⊢
  obtain ⟨rfl, rfl⟩ : V_7 = r_26 ∧ stB T0 F_17 = S_26 := Prod.mk.inj (hw1.trans (get_at (i := 2) h1 (by decide) q17_2)).symm
  have hw : cH dC dI ad o rw so ba ma cR cJ (stB T0 F_17) s H := ⟨hP, hK⟩
  refine lv_aload_n hx hb dL_isReckoned_29 rfl (lv_at hl 0 rfl) ?_
  refine lv_iconst (v := 0) hx hb dL_isReckoned_30 (by decide) ?_
  refine lv_iconst (v := 3) hx hb dL_isReckoned_31 (by decide) ?_
  have hFc := va_freeAll hD hS hA
  refine va_calll (va_runV (As := [.int (0 : Int32), .int (3 : Int32)]) (rest := [.long V_7]) ⟨hx, hb, hml, hown, hts⟩ (c_X6_get l dC dI ad o rw so ba ma cR cJ H.size (stB T0 F_17) (0 : Int32) (3 : Int32) (inv12 h1 hk)) (cwV 2 hts (gV iX6_get (zin__r6 (.methodLink RL 60 yX6_get) (List.mem_of_getElem? (i := 15) rfl))) rfl rfl rfl (by decide +kernel) ⟨Nat.le_of_ble_eq_true rfl, Nat.le_of_ble_eq_true rfl⟩) ⟨fun a U g mk q => ⟨q.1, cB_bl q.2⟩, cW_rv hw, fun U hU hW => ⟨rfl, cB_mv hw hD (kA_in hkA hS hFc) hU hW⟩⟩ rfl rfl hl.1 rfl (lv_room (Nat.le_of_ble_eq_true rfl)) dL_isReckoned_32 ⟨Nat.zero_le _, Nat.zero_le _⟩) hS (fun q _ h => hFc q h) hFc (fun r_32 S_32 t H1 locs ht hvm hw1 hB hz1 hk1 hS => ?_)
  obtain ⟨hP, -, hD1⟩ := hB
  rw [ht] at hP
  have hD := hD1.weaken (fun k q _ h => hFc q.1 h)
  generalize H1 = H at hP hS ⊢
  obtain ⟨rfl, rfl⟩ : V_17 = r_32 ∧ stB T0 F_17 = S_32 := Prod.mk.inj (hw1.trans (get_at (i := 3) h1 (by decide) q17_3)).symm
  have hw : cH dC dI ad o rw so ba ma cR cJ (stB T0 F_17) s H := ⟨hP, hK⟩
  refine W.lcmp hx hb dL_isReckoned_35 ?_
  refine lv_if_ne (tgt := 43) hx hb dL_isReckoned_36 (by decide) (fun c => absurd ((lg_cmp_eq V_7 V_17).mpr (show V_7 = V_17 from by rw [eV_7, eV_17, a8_comm hk cx cy])) c) (fun _ => ?_)
  refine lv_iconst (v := 1) hx hb dL_isReckoned_39 (by decide) ?_
  refine lv_goto (tgt := 44) hx hb dL_isReckoned_40 (by decide) ?_
  refine lv_istore_n (lv' := [(1, .int (1 : Int32)), (0, .ref o)]) hx hb dL_isReckoned_44 rfl hl (by decide) rfl (fun ls hl => ?_)
  refine lv_iload_n hx hb dL_isReckoned_45 rfl (lv_at hl 0 rfl) ?_
  refine lv_if_eq (tgt := 92) hx hb dL_isReckoned_46 (by decide) (fun c => absurd c (show ¬ ((1 : Int32) = 0) from by decide)) (fun _ => ?_)
  refine lv_aload_n hx hb dL_isReckoned_49 rfl (lv_at hl 1 rfl) ?_
  refine lv_iconst (v := 0) hx hb dL_isReckoned_50 (by decide) ?_
  refine lv_bipush (v := 10) hx hb dL_isReckoned_51 (by decide) ?_
  refine lv_iconst (v := 0) hx hb dL_isReckoned_53 (by decide) ?_
  refine lv_iconst (v := 1) hx hb dL_isReckoned_54 (by decide) ?_
  refine lv_iconst (v := 2) hx hb dL_isReckoned_55 (by decide) ?_
  have hFc := va_freeAll hD hS hA
  refine va_calli (va_runV (As := [.int (0 : Int32), .int (10 : Int32), .int (0 : Int32), .int (1 : Int32), .int (2 : Int32)]) (rest := []) ⟨hx, hb, hml, hown, hts⟩ (c_X6_act l dC dI ad o rw so ba ma cR cJ H.size (stB T0 F_17) (0 : Int32) (10 : Int32) (0 : Int32) (1 : Int32) (2 : Int32) (inv12 h1 hk)) (cwV 5 hts (gV iX6_act (zin__r7 (.methodLink RL 64 yX6_act) (List.mem_of_getElem? (i := 6) rfl))) rfl rfl rfl (by decide +kernel) ⟨Nat.le_of_ble_eq_true rfl, Nat.le_of_ble_eq_true rfl⟩) ⟨fun a U g mk q => ⟨q.1, cB_bl q.2⟩, cW_rv hw, fun U hU hW => ⟨rfl, cB_mv hw hD (kA_in hkA hS hFc) hU hW⟩⟩ rfl rfl hl.1 rfl (lv_room (Nat.le_of_ble_eq_true rfl)) dL_isReckoned_56 ⟨Nat.zero_le _, Nat.zero_le _⟩) hS (fun q _ h => hFc q h) hFc (fun r_56 S_56 t H1 locs ht hvm hw1 hB hz1 hk1 hS => ?_)
  obtain ⟨hP, -, hD1⟩ := hB
  rw [ht] at hP
  have hD := hD1.weaken (fun k q _ h => hFc q.1 h)
  generalize H1 = H at hP hS ⊢
  obtain ⟨V_56, eV_56⟩ : ∃ z, z = f_X2_acted k (10 : Int32) x y := ⟨_, rfl⟩
  obtain ⟨F_56, eF_56⟩ : ∃ z, z = vp_updL F_17 2 V_56 := ⟨_, rfl⟩
  obtain ⟨rfl, rfl⟩ : r_56 = f_X1_sortOf k V_56 ∧ S_56 = stB T0 F_56 := by rw [eF_56, eV_56]; exact Prod.mk.inj (hw1.trans (act_at (m := 10) (i := 0) (j := 1) (n := 2) h1 (by decide) (by decide) (by decide) (by decide) q17_0 q17_1))
  have q56_0 : F_56 0 = x := by rw [eF_56, updL_ne (by decide)]; exact q17_0
  have q56_1 : F_56 1 = y := by rw [eF_56, updL_ne (by decide)]; exact q17_1
  have q56_3 : F_56 3 = V_17 := by rw [eF_56, updL_ne (by decide)]; exact q17_3
  have q56_2 : F_56 2 = V_56 := by rw [eF_56]; exact updL_eq
  have hw : cH dC dI ad o rw so ba ma cR cJ (stB T0 F_56) s H := ⟨hP, hK⟩
  refine lv_aload_n hx hb dL_isReckoned_59 rfl (lv_at hl 1 rfl) ?_
  refine lv_iconst (v := 0) hx hb dL_isReckoned_60 (by decide) ?_
  refine lv_bipush (v := 10) hx hb dL_isReckoned_61 (by decide) ?_
  refine lv_iconst (v := 1) hx hb dL_isReckoned_63 (by decide) ?_
  refine lv_iconst (v := 0) hx hb dL_isReckoned_64 (by decide) ?_
  refine lv_iconst (v := 3) hx hb dL_isReckoned_65 (by decide) ?_
  have hFc := va_freeAll hD hS hA
  refine va_calli (va_runV (As := [.int (0 : Int32), .int (10 : Int32), .int (1 : Int32), .int (0 : Int32), .int (3 : Int32)]) (rest := [.int (f_X1_sortOf k V_56)]) ⟨hx, hb, hml, hown, hts⟩ (c_X6_act l dC dI ad o rw so ba ma cR cJ H.size (stB T0 F_56) (0 : Int32) (10 : Int32) (1 : Int32) (0 : Int32) (3 : Int32) (inv12 h1 hk)) (cwV 5 hts (gV iX6_act (zin__r7 (.methodLink RL 64 yX6_act) (List.mem_of_getElem? (i := 6) rfl))) rfl rfl rfl (by decide +kernel) ⟨Nat.le_of_ble_eq_true rfl, Nat.le_of_ble_eq_true rfl⟩) ⟨fun a U g mk q => ⟨q.1, cB_bl q.2⟩, cW_rv hw, fun U hU hW => ⟨rfl, cB_mv hw hD (kA_in hkA hS hFc) hU hW⟩⟩ rfl rfl hl.1 rfl (lv_room (Nat.le_of_ble_eq_true rfl)) dL_isReckoned_66 ⟨Nat.zero_le _, Nat.zero_le _⟩) hS (fun q _ h => hFc q h) hFc (fun r_66 S_66 t H1 locs ht hvm hw1 hB hz1 hk1 hS => ?_)
  obtain ⟨hP, -, hD1⟩ := hB
  rw [ht] at hP
  have hD := hD1.weaken (fun k q _ h => hFc q.1 h)
  generalize H1 = H at hP hS ⊢
  obtain ⟨V_66, eV_66⟩ : ∃ z, z = f_X2_acted k (10 : Int32) y x := ⟨_, rfl⟩
  obtain ⟨F_66, eF_66⟩ : ∃ z, z = vp_updL F_56 3 V_66 := ⟨_, rfl⟩
  obtain ⟨rfl, rfl⟩ : r_66 = f_X1_sortOf k V_66 ∧ S_66 = stB T0 F_66 := by rw [eF_66, eV_66]; exact Prod.mk.inj (hw1.trans (act_at (m := 10) (i := 1) (j := 0) (n := 3) h1 (by decide) (by decide) (by decide) (by decide) q56_1 q56_0))
  have q66_0 : F_66 0 = x := by rw [eF_66, updL_ne (by decide)]; exact q56_0
  have q66_1 : F_66 1 = y := by rw [eF_66, updL_ne (by decide)]; exact q56_1
  have q66_2 : F_66 2 = V_56 := by rw [eF_66, updL_ne (by decide)]; exact q56_2
  have q66_3 : F_66 3 = V_66 := by rw [eF_66]; exact updL_eq
  have hw : cH dC dI ad o rw so ba ma cR cJ (stB T0 F_66) s H := ⟨hP, hK⟩
  refine lv_icmp_ne (tgt := 92) hx hb dL_isReckoned_69 (by decide) (fun c => absurd (show (f_X1_sortOf k V_56) = (f_X1_sortOf k V_66) from by rw [eV_56, eV_66, a10_comm hk cx cy]) c) (fun _ => ?_)
  refine lv_aload_n hx hb dL_isReckoned_72 rfl (lv_at hl 1 rfl) ?_
  refine lv_iconst (v := 0) hx hb dL_isReckoned_73 (by decide) ?_
  refine lv_iconst (v := 2) hx hb dL_isReckoned_74 (by decide) ?_
  have hFc := va_freeAll hD hS hA
  refine va_calll (va_runV (As := [.int (0 : Int32), .int (2 : Int32)]) (rest := []) ⟨hx, hb, hml, hown, hts⟩ (c_X6_get l dC dI ad o rw so ba ma cR cJ H.size (stB T0 F_66) (0 : Int32) (2 : Int32) (inv12 h1 hk)) (cwV 2 hts (gV iX6_get (zin__r6 (.methodLink RL 60 yX6_get) (List.mem_of_getElem? (i := 15) rfl))) rfl rfl rfl (by decide +kernel) ⟨Nat.le_of_ble_eq_true rfl, Nat.le_of_ble_eq_true rfl⟩) ⟨fun a U g mk q => ⟨q.1, cB_bl q.2⟩, cW_rv hw, fun U hU hW => ⟨rfl, cB_mv hw hD (kA_in hkA hS hFc) hU hW⟩⟩ rfl rfl hl.1 rfl (lv_room (Nat.le_of_ble_eq_true rfl)) dL_isReckoned_75 ⟨Nat.zero_le _, Nat.zero_le _⟩) hS (fun q _ h => hFc q h) hFc (fun r_75 S_75 t H1 locs ht hvm hw1 hB hz1 hk1 hS => ?_)
  obtain ⟨hP, -, hD1⟩ := hB
  rw [ht] at hP
  have hD := hD1.weaken (fun k q _ h => hFc q.1 h)
  generalize H1 = H at hP hS ⊢
  obtain ⟨rfl, rfl⟩ : V_56 = r_75 ∧ stB T0 F_66 = S_75 := Prod.mk.inj (hw1.trans (get_at (i := 2) h1 (by decide) q66_2)).symm
  have hw : cH dC dI ad o rw so ba ma cR cJ (stB T0 F_66) s H := ⟨hP, hK⟩
  refine lv_aload_n hx hb dL_isReckoned_78 rfl (lv_at hl 1 rfl) ?_
  refine lv_iconst (v := 0) hx hb dL_isReckoned_79 (by decide) ?_
  refine lv_iconst (v := 3) hx hb dL_isReckoned_80 (by decide) ?_
  have hFc := va_freeAll hD hS hA
  refine va_calll (va_runV (As := [.int (0 : Int32), .int (3 : Int32)]) (rest := [.long V_56]) ⟨hx, hb, hml, hown, hts⟩ (c_X6_get l dC dI ad o rw so ba ma cR cJ H.size (stB T0 F_66) (0 : Int32) (3 : Int32) (inv12 h1 hk)) (cwV 2 hts (gV iX6_get (zin__r6 (.methodLink RL 60 yX6_get) (List.mem_of_getElem? (i := 15) rfl))) rfl rfl rfl (by decide +kernel) ⟨Nat.le_of_ble_eq_true rfl, Nat.le_of_ble_eq_true rfl⟩) ⟨fun a U g mk q => ⟨q.1, cB_bl q.2⟩, cW_rv hw, fun U hU hW => ⟨rfl, cB_mv hw hD (kA_in hkA hS hFc) hU hW⟩⟩ rfl rfl hl.1 rfl (lv_room (Nat.le_of_ble_eq_true rfl)) dL_isReckoned_81 ⟨Nat.zero_le _, Nat.zero_le _⟩) hS (fun q _ h => hFc q h) hFc (fun r_81 S_81 t H1 locs ht hvm hw1 hB hz1 hk1 hS => ?_)
  obtain ⟨hP, -, hD1⟩ := hB
  rw [ht] at hP
  have hD := hD1.weaken (fun k q _ h => hFc q.1 h)
  generalize H1 = H at hP hS ⊢
  obtain ⟨rfl, rfl⟩ : V_66 = r_81 ∧ stB T0 F_66 = S_81 := Prod.mk.inj (hw1.trans (get_at (i := 3) h1 (by decide) q66_3)).symm
  have hw : cH dC dI ad o rw so ba ma cR cJ (stB T0 F_66) s H := ⟨hP, hK⟩
  refine W.lcmp hx hb dL_isReckoned_84 ?_
  refine lv_if_ne (tgt := 92) hx hb dL_isReckoned_85 (by decide) (fun c => absurd ((lg_cmp_eq V_56 V_66).mpr (show V_56 = V_66 from by rw [eV_56, eV_66, a10_comm hk cx cy])) c) (fun _ => ?_)
  refine lv_iconst (v := 1) hx hb dL_isReckoned_88 (by decide) ?_
  refine lv_goto (tgt := 93) hx hb dL_isReckoned_89 (by decide) ?_
  refine lv_istore_n (lv' := [(1, .int (1 : Int32)), (0, .ref o)]) hx hb dL_isReckoned_93 rfl hl (by decide) rfl (fun ls hl => ?_)
  refine lv_aload_n hx hb dL_isReckoned_94 rfl (lv_at hl 1 rfl) ?_
  refine lv_iconst (v := 0) hx hb dL_isReckoned_95 (by decide) ?_
  refine lv_bipush (v := 9) hx hb dL_isReckoned_96 (by decide) ?_
  refine lv_iconst (v := 0) hx hb dL_isReckoned_98 (by decide) ?_
  refine lv_iconst (v := 1) hx hb dL_isReckoned_99 (by decide) ?_
  refine lv_iconst (v := 2) hx hb dL_isReckoned_100 (by decide) ?_
  have hFc := va_freeAll hD hS hA
  refine va_calli (va_runV (As := [.int (0 : Int32), .int (9 : Int32), .int (0 : Int32), .int (1 : Int32), .int (2 : Int32)]) (rest := []) ⟨hx, hb, hml, hown, hts⟩ (c_X6_act l dC dI ad o rw so ba ma cR cJ H.size (stB T0 F_66) (0 : Int32) (9 : Int32) (0 : Int32) (1 : Int32) (2 : Int32) (inv12 h1 hk)) (cwV 5 hts (gV iX6_act (zin__r7 (.methodLink RL 64 yX6_act) (List.mem_of_getElem? (i := 6) rfl))) rfl rfl rfl (by decide +kernel) ⟨Nat.le_of_ble_eq_true rfl, Nat.le_of_ble_eq_true rfl⟩) ⟨fun a U g mk q => ⟨q.1, cB_bl q.2⟩, cW_rv hw, fun U hU hW => ⟨rfl, cB_mv hw hD (kA_in hkA hS hFc) hU hW⟩⟩ rfl rfl hl.1 rfl (lv_room (Nat.le_of_ble_eq_true rfl)) dL_isReckoned_101 ⟨Nat.zero_le _, Nat.zero_le _⟩) hS (fun q _ h => hFc q h) hFc (fun r_101 S_101 t H1 locs ht hvm hw1 hB hz1 hk1 hS => ?_)
  obtain ⟨hP, -, hD1⟩ := hB
  rw [ht] at hP
  have hD := hD1.weaken (fun k q _ h => hFc q.1 h)
  generalize H1 = H at hP hS ⊢
  obtain ⟨V_101, eV_101⟩ : ∃ z, z = f_X2_acted k (9 : Int32) x y := ⟨_, rfl⟩
  obtain ⟨F_101, eF_101⟩ : ∃ z, z = vp_updL F_66 2 V_101 := ⟨_, rfl⟩
  obtain ⟨rfl, rfl⟩ : r_101 = f_X1_sortOf k V_101 ∧ S_101 = stB T0 F_101 := by rw [eF_101, eV_101]; exact Prod.mk.inj (hw1.trans (act_at (m := 9) (i := 0) (j := 1) (n := 2) h1 (by decide) (by decide) (by decide) (by decide) q66_0 q66_1))
  have q101_0 : F_101 0 = x := by rw [eF_101, updL_ne (by decide)]; exact q66_0
  have q101_1 : F_101 1 = y := by rw [eF_101, updL_ne (by decide)]; exact q66_1
  have q101_3 : F_101 3 = V_66 := by rw [eF_101, updL_ne (by decide)]; exact q66_3
  have q101_2 : F_101 2 = V_101 := by rw [eF_101]; exact updL_eq
  have hw : cH dC dI ad o rw so ba ma cR cJ (stB T0 F_101) s H := ⟨hP, hK⟩
  refine lv_istore_n (lv' := [(2, .int (f_X1_sortOf k V_101)), (1, .int (1 : Int32)), (0, .ref o)]) hx hb dL_isReckoned_104 rfl hl (by decide) rfl (fun ls hl => ?_)
  refine lv_aload_n hx hb dL_isReckoned_105 rfl (lv_at hl 2 rfl) ?_
  refine lv_iconst (v := 0) hx hb dL_isReckoned_106 (by decide) ?_
  refine lv_bipush (v := 9) hx hb dL_isReckoned_107 (by decide) ?_
  refine lv_iconst (v := 1) hx hb dL_isReckoned_109 (by decide) ?_
  refine lv_iconst (v := 0) hx hb dL_isReckoned_110 (by decide) ?_
  refine lv_iconst (v := 3) hx hb dL_isReckoned_111 (by decide) ?_
  have hFc := va_freeAll hD hS hA
  refine va_calli (va_runV (As := [.int (0 : Int32), .int (9 : Int32), .int (1 : Int32), .int (0 : Int32), .int (3 : Int32)]) (rest := []) ⟨hx, hb, hml, hown, hts⟩ (c_X6_act l dC dI ad o rw so ba ma cR cJ H.size (stB T0 F_101) (0 : Int32) (9 : Int32) (1 : Int32) (0 : Int32) (3 : Int32) (inv12 h1 hk)) (cwV 5 hts (gV iX6_act (zin__r7 (.methodLink RL 64 yX6_act) (List.mem_of_getElem? (i := 6) rfl))) rfl rfl rfl (by decide +kernel) ⟨Nat.le_of_ble_eq_true rfl, Nat.le_of_ble_eq_true rfl⟩) ⟨fun a U g mk q => ⟨q.1, cB_bl q.2⟩, cW_rv hw, fun U hU hW => ⟨rfl, cB_mv hw hD (kA_in hkA hS hFc) hU hW⟩⟩ rfl rfl hl.1 rfl (lv_room (Nat.le_of_ble_eq_true rfl)) dL_isReckoned_112 ⟨Nat.zero_le _, Nat.zero_le _⟩) hS (fun q _ h => hFc q h) hFc (fun r_112 S_112 t H1 locs ht hvm hw1 hB hz1 hk1 hS => ?_)
  obtain ⟨hP, -, hD1⟩ := hB
  rw [ht] at hP
  have hD := hD1.weaken (fun k q _ h => hFc q.1 h)
  generalize H1 = H at hP hS ⊢
  obtain ⟨V_112, eV_112⟩ : ∃ z, z = f_X2_acted k (9 : Int32) y x := ⟨_, rfl⟩
  obtain ⟨F_112, eF_112⟩ : ∃ z, z = vp_updL F_101 3 V_112 := ⟨_, rfl⟩
  obtain ⟨rfl, rfl⟩ : r_112 = f_X1_sortOf k V_112 ∧ S_112 = stB T0 F_112 := by rw [eF_112, eV_112]; exact Prod.mk.inj (hw1.trans (act_at (m := 9) (i := 1) (j := 0) (n := 3) h1 (by decide) (by decide) (by decide) (by decide) q101_1 q101_0))
  have q112_0 : F_112 0 = x := by rw [eF_112, updL_ne (by decide)]; exact q101_0
  have q112_1 : F_112 1 = y := by rw [eF_112, updL_ne (by decide)]; exact q101_1
  have q112_2 : F_112 2 = V_101 := by rw [eF_112, updL_ne (by decide)]; exact q101_2
  have q112_3 : F_112 3 = V_112 := by rw [eF_112]; exact updL_eq
  have hw : cH dC dI ad o rw so ba ma cR cJ (stB T0 F_112) s H := ⟨hP, hK⟩
  refine lv_pop hx hb dL_isReckoned_115 rfl ?_
  refine lv_aload_n hx hb dL_isReckoned_116 rfl (lv_at hl 2 rfl) ?_
  refine lv_iconst (v := 0) hx hb dL_isReckoned_117 (by decide) ?_
  refine lv_bipush (v := 13) hx hb dL_isReckoned_118 (by decide) ?_
  refine lv_iconst (v := 3) hx hb dL_isReckoned_120 (by decide) ?_
  refine lv_iconst (v := 3) hx hb dL_isReckoned_121 (by decide) ?_
  refine lv_iconst (v := 3) hx hb dL_isReckoned_122 (by decide) ?_
  have hFc := va_freeAll hD hS hA
  refine va_calli (va_runV (As := [.int (0 : Int32), .int (13 : Int32), .int (3 : Int32), .int (3 : Int32), .int (3 : Int32)]) (rest := []) ⟨hx, hb, hml, hown, hts⟩ (c_X6_act l dC dI ad o rw so ba ma cR cJ H.size (stB T0 F_112) (0 : Int32) (13 : Int32) (3 : Int32) (3 : Int32) (3 : Int32) (inv12 h1 hk)) (cwV 5 hts (gV iX6_act (zin__r7 (.methodLink RL 64 yX6_act) (List.mem_of_getElem? (i := 6) rfl))) rfl rfl rfl (by decide +kernel) ⟨Nat.le_of_ble_eq_true rfl, Nat.le_of_ble_eq_true rfl⟩) ⟨fun a U g mk q => ⟨q.1, cB_bl q.2⟩, cW_rv hw, fun U hU hW => ⟨rfl, cB_mv hw hD (kA_in hkA hS hFc) hU hW⟩⟩ rfl rfl hl.1 rfl (lv_room (Nat.le_of_ble_eq_true rfl)) dL_isReckoned_123 ⟨Nat.zero_le _, Nat.zero_le _⟩) hS (fun q _ h => hFc q h) hFc (fun r_123 S_123 t H1 locs ht hvm hw1 hB hz1 hk1 hS => ?_)
  obtain ⟨hP, -, hD1⟩ := hB
  rw [ht] at hP
  have hD := hD1.weaken (fun k q _ h => hFc q.1 h)
  generalize H1 = H at hP hS ⊢
  obtain ⟨V_123, eV_123⟩ : ∃ z, z = f_X2_acted k (13 : Int32) V_112 V_112 := ⟨_, rfl⟩
  obtain ⟨F_123, eF_123⟩ : ∃ z, z = vp_updL F_112 3 V_123 := ⟨_, rfl⟩
  obtain ⟨rfl, rfl⟩ : r_123 = f_X1_sortOf k V_123 ∧ S_123 = stB T0 F_123 := by rw [eF_123, eV_123]; exact Prod.mk.inj (hw1.trans (act_at (m := 13) (i := 3) (j := 3) (n := 3) h1 (by decide) (by decide) (by decide) (by decide) q112_3 q112_3))
  have q123_0 : F_123 0 = x := by rw [eF_123, updL_ne (by decide)]; exact q112_0
  have q123_1 : F_123 1 = y := by rw [eF_123, updL_ne (by decide)]; exact q112_1
  have q123_2 : F_123 2 = V_101 := by rw [eF_123, updL_ne (by decide)]; exact q112_2
  have q123_3 : F_123 3 = V_123 := by rw [eF_123]; exact updL_eq
  have hw : cH dC dI ad o rw so ba ma cR cJ (stB T0 F_123) s H := ⟨hP, hK⟩
  refine lv_pop hx hb dL_isReckoned_126 rfl ?_
  have h9 : (f_X1_sortOf k V_101 = 3 ∧ f_X1_relations k V_101 V_123 = 32) ∨ (¬ f_X1_sortOf k V_101 = 3 ∧ f_X1_relations k V_101 V_123 = 26) := by rw [eV_123, eV_101, eV_112]; exact a9_tells hk cx cy
  refine lv_iload_n hx hb dL_isReckoned_127 rfl (lv_at hl 1 rfl) ?_
  refine lv_if_eq (tgt := 167) hx hb dL_isReckoned_128 (by decide) (fun c => absurd c (show ¬ ((1 : Int32) = 0) from by decide)) (fun _ => ?_)
  refine lv_iload_n hx hb dL_isReckoned_131 rfl (lv_at hl 0 rfl) ?_
  refine lv_iconst (v := 3) hx hb dL_isReckoned_132 (by decide) ?_
  refine lv_icmp_ne (tgt := 151) hx hb dL_isReckoned_133 (by decide) (fun c_133 => ?_) (fun c_133 => ?_)
  · refine lv_aload_n hx hb dL_isReckoned_151 rfl (lv_at hl 2 rfl) ?_
    refine lv_iconst (v := 0) hx hb dL_isReckoned_152 (by decide) ?_
    refine lv_iconst (v := 2) hx hb dL_isReckoned_153 (by decide) ?_
    refine lv_iconst (v := 3) hx hb dL_isReckoned_154 (by decide) ?_
    have hFc := va_freeAll hD hS hA
    refine va_calli (va_runV (As := [.int (0 : Int32), .int (2 : Int32), .int (3 : Int32)]) (rest := []) ⟨hx, hb, hml, hown, hts⟩ (c_X6_compare l dC dI ad o rw so ba ma cR cJ H.size (stB T0 F_123) (0 : Int32) (2 : Int32) (3 : Int32) (inv12 h1 hk)) (cwV 3 hts (gV iX6_compare (zin__r5 (.methodLink RL 7 yX6_compare) (List.mem_of_getElem? (i := 0) rfl))) rfl rfl rfl (by decide +kernel) ⟨Nat.le_of_ble_eq_true rfl, Nat.le_of_ble_eq_true rfl⟩) ⟨fun a U g mk q => ⟨q.1, cB_bl q.2⟩, cW_rv hw, fun U hU hW => ⟨rfl, cB_mv hw hD (kA_in hkA hS hFc) hU hW⟩⟩ rfl rfl hl.1 rfl (lv_room (Nat.le_of_ble_eq_true rfl)) dL_isReckoned_155 ⟨Nat.zero_le _, Nat.zero_le _⟩) hS (fun q _ h => hFc q h) hFc (fun r_155 S_155 t H1 locs ht hvm hw1 hB hz1 hk1 hS => ?_)
    obtain ⟨hP, -, hD1⟩ := hB
    rw [ht] at hP
    have hD := hD1.weaken (fun k q _ h => hFc q.1 h)
    generalize H1 = H at hP hS ⊢
    obtain ⟨rfl, rfl⟩ : (f_X1_relations k V_101 V_123) = r_155 ∧ stB T0 F_123 = S_155 := Prod.mk.inj (hw1.trans (compare_at (i := 2) (j := 3) h1 (by decide) (by decide) q123_2 q123_3)).symm
    have hw : cH dC dI ad o rw so ba ma cR cJ (stB T0 F_123) s H := ⟨hP, hK⟩
    refine lv_bipush (v := 26) hx hb dL_isReckoned_158 (by decide) ?_
    refine lv_icmp_ne (tgt := 167) hx hb dL_isReckoned_160 (by decide) (fun c => absurd (show (f_X1_relations k V_101 V_123) = (26 : Int32) from (h9.resolve_left (fun h => c_133 h.1)).2) c) (fun _ => ?_)
    refine lv_iconst (v := 1) hx hb dL_isReckoned_163 (by decide) ?_
    refine lv_goto (tgt := 168) hx hb dL_isReckoned_164 (by decide) ?_
    exact W.zret hx hb hr rfl (fun t ht hW => ⟨⟨_, stB T0 F_123, rfl, ⟨rfl, F_123, q123_0, q123_1, rfl⟩, by rw [ht]; exact hP, va_K.moved hW.alike hK, hD⟩, hS.F ht⟩) hS.2.2 dL_isReckoned_168
  · refine lv_aload_n hx hb dL_isReckoned_136 rfl (lv_at hl 2 rfl) ?_
    refine lv_iconst (v := 0) hx hb dL_isReckoned_137 (by decide) ?_
    refine lv_iconst (v := 2) hx hb dL_isReckoned_138 (by decide) ?_
    refine lv_iconst (v := 3) hx hb dL_isReckoned_139 (by decide) ?_
    have hFc := va_freeAll hD hS hA
    refine va_calli (va_runV (As := [.int (0 : Int32), .int (2 : Int32), .int (3 : Int32)]) (rest := []) ⟨hx, hb, hml, hown, hts⟩ (c_X6_compare l dC dI ad o rw so ba ma cR cJ H.size (stB T0 F_123) (0 : Int32) (2 : Int32) (3 : Int32) (inv12 h1 hk)) (cwV 3 hts (gV iX6_compare (zin__r5 (.methodLink RL 7 yX6_compare) (List.mem_of_getElem? (i := 0) rfl))) rfl rfl rfl (by decide +kernel) ⟨Nat.le_of_ble_eq_true rfl, Nat.le_of_ble_eq_true rfl⟩) ⟨fun a U g mk q => ⟨q.1, cB_bl q.2⟩, cW_rv hw, fun U hU hW => ⟨rfl, cB_mv hw hD (kA_in hkA hS hFc) hU hW⟩⟩ rfl rfl hl.1 rfl (lv_room (Nat.le_of_ble_eq_true rfl)) dL_isReckoned_140 ⟨Nat.zero_le _, Nat.zero_le _⟩) hS (fun q _ h => hFc q h) hFc (fun r_140 S_140 t H1 locs ht hvm hw1 hB hz1 hk1 hS => ?_)
    obtain ⟨hP, -, hD1⟩ := hB
    rw [ht] at hP
    have hD := hD1.weaken (fun k q _ h => hFc q.1 h)
    generalize H1 = H at hP hS ⊢
    obtain ⟨rfl, rfl⟩ : (f_X1_relations k V_101 V_123) = r_140 ∧ stB T0 F_123 = S_140 := Prod.mk.inj (hw1.trans (compare_at (i := 2) (j := 3) h1 (by decide) (by decide) q123_2 q123_3)).symm
    have hw : cH dC dI ad o rw so ba ma cR cJ (stB T0 F_123) s H := ⟨hP, hK⟩
    refine lv_bipush (v := 32) hx hb dL_isReckoned_143 (by decide) ?_
    refine lv_icmp_ne (tgt := 167) hx hb dL_isReckoned_145 (by decide) (fun c => absurd (show (f_X1_relations k V_101 V_123) = (32 : Int32) from (h9.resolve_right (fun h => h.1 c_133)).2) c) (fun _ => ?_)
    refine lv_goto (tgt := 163) hx hb dL_isReckoned_148 (by decide) ?_
    refine lv_iconst (v := 1) hx hb dL_isReckoned_163 (by decide) ?_
    refine lv_goto (tgt := 168) hx hb dL_isReckoned_164 (by decide) ?_
    exact W.zret hx hb hr rfl (fun t ht hW => ⟨⟨_, stB T0 F_123, rfl, ⟨rfl, F_123, q123_0, q123_1, rfl⟩, by rw [ht]; exact hP, va_K.moved hW.alike hK, hD⟩, hS.F ht⟩) hS.2.2 dL_isReckoned_168
