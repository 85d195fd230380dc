def zL_isHeld : List Cond := .code yL_isHeld cL_isHeld 5 (some .boolean) :: zall
theorem iL_isHeld : MWs yL_isHeld (.code yL_isHeld cL_isHeld 5 (some .boolean)) := ⟨(zin__r12 (.static yL_isHeld) (List.mem_of_getElem? (i := 6) rfl)), (zin__r2 (.initialized RL) (List.mem_of_getElem? (i := 4) rfl)), (zin__r12 (.code yL_isHeld cL_isHeld 5 (some .boolean)) (List.mem_of_getElem? (i := 7) rfl))⟩
set_option maxHeartbeats 4000000 in
set_option maxRecDepth 100000 in
theorem c_L_isHeld (l : Launch) (dC : Nat → ClassId) (dI : Nat → Nat → Nat) (ad : Nat → Nat) (o rw so ba ma : Nat) (cR cJ : ClassId) (sz : Nat) (T0 : CSt) (k : Nat) (f : Nat → Int64) (hk : k < 2) (h1 : one12 T0 k) (had : ¬ ad 0 = ad 1) (a1 : Int32) (mw : Nat) (e1 : a1 = nI mw) (hm : mw < 4) (x y : Int64) (q0 : f 0 = x) (q1 : f 1 = y) (cx : kcn k x) (cy : kcn k y) : Met l yL_isHeld zL_isHeld ({ frames := 8, cells := 4, slots := 12, locals := 209 }) (va_Pc [.ref o, .int a1] (fun U => cB dC dI ad o rw so ba ma cR cJ sz (stB T0 f) U)) (va_Qi (fun r9 S9 => r9 = 1 ∧ ∃ g : Nat → Int64, g 0 = x ∧ g 1 = y ∧ S9 = stB T0 g) (cE dC dI ad o rw so ba ma cR cJ (va_A (cWs ad o rw so ba ma cR cJ (stB T0 f)) sz)) (va_A (cWs ad o rw so ba ma cR cJ (stB T0 f)) sz)) 4 12 (va_A (cWs ad o rw so ba ma cR cJ (stB T0 f)) sz) := by
  refine Met.ofW (cc := cL_isHeld) (maxL := 5) (ret := (some .boolean)) (by decide) rfl ?_
  intro p e s m args below meth c s₁ Bx hml hv
  obtain ⟨rfl, hsz, hP, hK, hD0, hkA⟩ := hv
  have hx := Bx.exec
  have hb := Bx.bytes
  have hr := Bx.returns
  have hts : ∀ w ∈ zall, w.before _ s = true := fun w h => atoms_spec (ws := zL_isHeld) Bx.pre w (List.mem_cons_of_mem _ h)
  have hown : s.vm.findClass RL = some m.cls := findClass_of_methodNamed Bx.named
  have hlocks := Bx.notSynchronized
  subst hsz
  have hD := hD0.self (sz := s.heap.size)
  generalize hAe : va_A (cWs ad o rw so ba ma cR cJ (stB T0 f)) s.heap.size = A at hD hkA ⊢
  have hA : ∀ q : Nat, s.heap.size ≤ q → A q := fun q h => by rw [← hAe]; exact Or.inr h
  have hS : va_S A s.heap s.heap [] := va_S.rf
  have hw : cH dC dI ad o rw so ba ma cR cJ (stB T0 f) s s.heap := ⟨hP, hK⟩
  have hl := lv_entry ([.ref o, .int a1]) (n := 5) (Nat.le_of_ble_eq_true rfl)
  rw [lg_entry_eq]
  generalize (lg_sl ([.ref o, .int a1]) ++ List.replicate (5 - (lg_sl ([.ref o, .int a1])).length) Slot.unset).toArray = ls at hl ⊢
  have hl : lv_has ls 5 [(0, .ref o), (1, .int a1)] := hl
  subst e1
  refine lv_aload_n hx hb dL_isHeld_0 rfl (lv_at hl 0 rfl) ?_
  refine lv_iconst (v := 0) hx hb dL_isHeld_1 (by decide) ?_
  refine lv_iconst (v := 0) hx hb dL_isHeld_2 (by decide) ?_
  refine lv_iconst (v := 0) hx hb dL_isHeld_3 (by decide) ?_
  refine lv_bipush (v := 6) hx hb dL_isHeld_4 (by decide) ?_
  refine lv_iconst (v := 0) hx hb dL_isHeld_6 (by decide) ?_
  have hFc := va_freeAll hD hS hA
  refine va_calli (va_runV (As := [.int (0 : Int32), .int (0 : Int32), .int (0 : Int32), .int (6 : Int32), .int (0 : Int32)]) (rest := []) ⟨hx, hb, hml, hown, hts⟩ (c_X6_move l dC dI ad o rw so ba ma cR cJ s.heap.size (stB T0 f) (0 : Int32) (0 : Int32) (0 : Int32) (6 : Int32) (0 : Int32) (inv12 h1 hk) had) (cwV 5 hts (gV iX6_move (zin__r12 (.methodLink RL 68 yX6_move) (List.mem_of_getElem? (i := 8) rfl))) rfl rfl rfl (by decide +kernel) ⟨Nat.le_of_ble_eq_true rfl, Nat.le_of_ble_eq_true rfl⟩) ⟨fun a U g mk q => ⟨q.1, cB_bl q.2⟩, cW_rv hw, fun U hU hW => ⟨rfl, cB_mv hw hD (kA_in hkA hS hFc) hU hW⟩⟩ rfl rfl hl.1 rfl (lv_room (Nat.le_of_ble_eq_true rfl)) dL_isHeld_7 ⟨Nat.le_of_ble_eq_true rfl, Nat.le_of_ble_eq_true rfl⟩) hS (fun q _ h => hFc q h) hFc (fun r_7 S_7 t H1 locs ht hvm hw1 hB hz1 hk1 hS => ?_)
  obtain ⟨hP, -, hD1⟩ := hB
  rw [ht] at hP
  have hD := hD1.weaken (fun k q _ h => hFc q.1 h)
  generalize H1 = H at hP hS ⊢
  obtain ⟨F_7, eF_7⟩ : ∃ z, z = vp_updL f 6 x := ⟨_, rfl⟩
  obtain ⟨rfl, rfl⟩ : r_7 = f_X1_sortOf k x ∧ S_7 = stB T0 F_7 := by rw [eF_7]; exact Prod.mk.inj (hw1.trans (move_at (i := 0) (n := 6) h1 hk (by decide) (by decide) q0 cx (0 : Int32)))
  have q7_0 : F_7 0 = x := by rw [eF_7, updL_ne (by decide)]; exact q0
  have q7_1 : F_7 1 = y := by rw [eF_7, updL_ne (by decide)]; exact q1
  have q7_6 : F_7 6 = x := by rw [eF_7]; exact updL_eq
  have hw : cH dC dI ad o rw so ba ma cR cJ (stB T0 F_7) s H := ⟨hP, hK⟩
  refine lv_pop hx hb dL_isHeld_10 rfl ?_
  refine lv_aload_n hx hb dL_isHeld_11 rfl (lv_at hl 0 rfl) ?_
  refine lv_iconst (v := 0) hx hb dL_isHeld_12 (by decide) ?_
  refine lv_iconst (v := 0) hx hb dL_isHeld_13 (by decide) ?_
  refine lv_iconst (v := 0) hx hb dL_isHeld_14 (by decide) ?_
  refine lv_bipush (v := 7) hx hb dL_isHeld_15 (by decide) ?_
  refine lv_iconst (v := 0) hx hb dL_isHeld_17 (by decide) ?_
  have hFc := va_freeAll hD hS hA
  refine va_calli (va_runV (As := [.int (0 : Int32), .int (0 : Int32), .int (0 : Int32), .int (7 : Int32), .int (0 : Int32)]) (rest := []) ⟨hx, hb, hml, hown, hts⟩ (c_X6_move l dC dI ad o rw so ba ma cR cJ H.size (stB T0 F_7) (0 : Int32) (0 : Int32) (0 : Int32) (7 : Int32) (0 : Int32) (inv12 h1 hk) had) (cwV 5 hts (gV iX6_move (zin__r12 (.methodLink RL 68 yX6_move) (List.mem_of_getElem? (i := 8) rfl))) rfl rfl rfl (by decide +kernel) ⟨Nat.le_of_ble_eq_true rfl, Nat.le_of_ble_eq_true rfl⟩) ⟨fun a U g mk q => ⟨q.1, cB_bl q.2⟩, cW_rv hw, fun U hU hW => ⟨rfl, cB_mv hw hD (kA_in hkA hS hFc) hU hW⟩⟩ rfl rfl hl.1 rfl (lv_room (Nat.le_of_ble_eq_true rfl)) dL_isHeld_18 ⟨Nat.le_of_ble_eq_true rfl, Nat.le_of_ble_eq_true rfl⟩) hS (fun q _ h => hFc q h) hFc (fun r_18 S_18 t H1 locs ht hvm hw1 hB hz1 hk1 hS => ?_)
  obtain ⟨hP, -, hD1⟩ := hB
  rw [ht] at hP
  have hD := hD1.weaken (fun k q _ h => hFc q.1 h)
  generalize H1 = H at hP hS ⊢
  obtain ⟨F_18, eF_18⟩ : ∃ z, z = vp_updL F_7 7 x := ⟨_, rfl⟩
  obtain ⟨rfl, rfl⟩ : r_18 = f_X1_sortOf k x ∧ S_18 = stB T0 F_18 := by rw [eF_18]; exact Prod.mk.inj (hw1.trans (move_at (i := 0) (n := 7) h1 hk (by decide) (by decide) q7_0 cx (0 : Int32)))
  have q18_0 : F_18 0 = x := by rw [eF_18, updL_ne (by decide)]; exact q7_0
  have q18_1 : F_18 1 = y := by rw [eF_18, updL_ne (by decide)]; exact q7_1
  have q18_6 : F_18 6 = x := by rw [eF_18, updL_ne (by decide)]; exact q7_6
  have q18_7 : F_18 7 = x := by rw [eF_18]; exact updL_eq
  have hw : cH dC dI ad o rw so ba ma cR cJ (stB T0 F_18) s H := ⟨hP, hK⟩
  refine lv_pop hx hb dL_isHeld_21 rfl ?_
  refine lv_aload_n hx hb dL_isHeld_22 rfl (lv_at hl 0 rfl) ?_
  refine lv_iconst (v := 0) hx hb dL_isHeld_23 (by decide) ?_
  refine lv_iconst (v := 1) hx hb dL_isHeld_24 (by decide) ?_
  refine lv_iconst (v := 0) hx hb dL_isHeld_25 (by decide) ?_
  refine lv_bipush (v := 8) hx hb dL_isHeld_26 (by decide) ?_
  refine lv_iconst (v := 0) hx hb dL_isHeld_28 (by decide) ?_
  have hFc := va_freeAll hD hS hA
  refine va_calli (va_runV (As := [.int (0 : Int32), .int (1 : Int32), .int (0 : Int32), .int (8 : Int32), .int (0 : Int32)]) (rest := []) ⟨hx, hb, hml, hown, hts⟩ (c_X6_move l dC dI ad o rw so ba ma cR cJ H.size (stB T0 F_18) (0 : Int32) (1 : Int32) (0 : Int32) (8 : Int32) (0 : Int32) (inv12 h1 hk) had) (cwV 5 hts (gV iX6_move (zin__r12 (.methodLink RL 68 yX6_move) (List.mem_of_getElem? (i := 8) rfl))) rfl rfl rfl (by decide +kernel) ⟨Nat.le_of_ble_eq_true rfl, Nat.le_of_ble_eq_true rfl⟩) ⟨fun a U g mk q => ⟨q.1, cB_bl q.2⟩, cW_rv hw, fun U hU hW => ⟨rfl, cB_mv hw hD (kA_in hkA hS hFc) hU hW⟩⟩ rfl rfl hl.1 rfl (lv_room (Nat.le_of_ble_eq_true rfl)) dL_isHeld_29 ⟨Nat.le_of_ble_eq_true rfl, Nat.le_of_ble_eq_true rfl⟩) hS (fun q _ h => hFc q h) hFc (fun r_29 S_29 t H1 locs ht hvm hw1 hB hz1 hk1 hS => ?_)
  obtain ⟨hP, -, hD1⟩ := hB
  rw [ht] at hP
  have hD := hD1.weaken (fun k q _ h => hFc q.1 h)
  generalize H1 = H at hP hS ⊢
  obtain ⟨F_29, eF_29⟩ : ∃ z, z = vp_updL F_18 8 y := ⟨_, rfl⟩
  obtain ⟨rfl, rfl⟩ : r_29 = f_X1_sortOf k y ∧ S_29 = stB T0 F_29 := by rw [eF_29]; exact Prod.mk.inj (hw1.trans (move_at (i := 1) (n := 8) h1 hk (by decide) (by decide) q18_1 cy (0 : Int32)))
  have q29_0 : F_29 0 = x := by rw [eF_29, updL_ne (by decide)]; exact q18_0
  have q29_1 : F_29 1 = y := by rw [eF_29, updL_ne (by decide)]; exact q18_1
  have q29_6 : F_29 6 = x := by rw [eF_29, updL_ne (by decide)]; exact q18_6
  have q29_7 : F_29 7 = x := by rw [eF_29, updL_ne (by decide)]; exact q18_7
  have q29_8 : F_29 8 = y := by rw [eF_29]; exact updL_eq
  have hw : cH dC dI ad o rw so ba ma cR cJ (stB T0 F_29) s H := ⟨hP, hK⟩
  refine lv_pop hx hb dL_isHeld_32 rfl ?_
  refine lv_aload_n hx hb dL_isHeld_33 rfl (lv_at hl 0 rfl) ?_
  refine lv_iconst (v := 0) hx hb dL_isHeld_34 (by decide) ?_
  refine lv_iconst (v := 1) hx hb dL_isHeld_35 (by decide) ?_
  refine lv_iconst (v := 0) hx hb dL_isHeld_36 (by decide) ?_
  refine lv_bipush (v := 9) hx hb dL_isHeld_37 (by decide) ?_
  refine lv_iconst (v := 0) hx hb dL_isHeld_39 (by decide) ?_
  have hFc := va_freeAll hD hS hA
  refine va_calli (va_runV (As := [.int (0 : Int32), .int (1 : Int32), .int (0 : Int32), .int (9 : Int32), .int (0 : Int32)]) (rest := []) ⟨hx, hb, hml, hown, hts⟩ (c_X6_move l dC dI ad o rw so ba ma cR cJ H.size (stB T0 F_29) (0 : Int32) (1 : Int32) (0 : Int32) (9 : Int32) (0 : Int32) (inv12 h1 hk) had) (cwV 5 hts (gV iX6_move (zin__r12 (.methodLink RL 68 yX6_move) (List.mem_of_getElem? (i := 8) rfl))) rfl rfl rfl (by decide +kernel) ⟨Nat.le_of_ble_eq_true rfl, Nat.le_of_ble_eq_true rfl⟩) ⟨fun a U g mk q => ⟨q.1, cB_bl q.2⟩, cW_rv hw, fun U hU hW => ⟨rfl, cB_mv hw hD (kA_in hkA hS hFc) hU hW⟩⟩ rfl rfl hl.1 rfl (lv_room (Nat.le_of_ble_eq_true rfl)) dL_isHeld_40 ⟨Nat.le_of_ble_eq_true rfl, Nat.le_of_ble_eq_true rfl⟩) hS (fun q _ h => hFc q h) hFc (fun r_40 S_40 t H1 locs ht hvm hw1 hB hz1 hk1 hS => ?_)
  obtain ⟨hP, -, hD1⟩ := hB
  rw [ht] at hP
  have hD := hD1.weaken (fun k q _ h => hFc q.1 h)
  generalize H1 = H at hP hS ⊢
  obtain ⟨F_40, eF_40⟩ : ∃ z, z = vp_updL F_29 9 y := ⟨_, rfl⟩
  obtain ⟨rfl, rfl⟩ : r_40 = f_X1_sortOf k y ∧ S_40 = stB T0 F_40 := by rw [eF_40]; exact Prod.mk.inj (hw1.trans (move_at (i := 1) (n := 9) h1 hk (by decide) (by decide) q29_1 cy (0 : Int32)))
  have q40_0 : F_40 0 = x := by rw [eF_40, updL_ne (by decide)]; exact q29_0
  have q40_1 : F_40 1 = y := by rw [eF_40, updL_ne (by decide)]; exact q29_1
  have q40_6 : F_40 6 = x := by rw [eF_40, updL_ne (by decide)]; exact q29_6
  have q40_7 : F_40 7 = x := by rw [eF_40, updL_ne (by decide)]; exact q29_7
  have q40_8 : F_40 8 = y := by rw [eF_40, updL_ne (by decide)]; exact q29_8
  have q40_9 : F_40 9 = y := by rw [eF_40]; exact updL_eq
  have hw : cH dC dI ad o rw so ba ma cR cJ (stB T0 F_40) s H := ⟨hP, hK⟩
  refine lv_pop hx hb dL_isHeld_43 rfl ?_
  refine lv_aload_n hx hb dL_isHeld_44 rfl (lv_at hl 0 rfl) ?_
  refine lv_iconst (v := 0) hx hb dL_isHeld_45 (by decide) ?_
  refine lv_bipush (v := 8) hx hb dL_isHeld_46 (by decide) ?_
  refine lv_iload_n hx hb dL_isHeld_48 rfl (lv_at hl 1 rfl) ?_
  refine lv_iadd hx hb dL_isHeld_49 ?_
  rw [show ((8 : Int32) + (nI mw)) = (nI (8 + mw)) from (nI_add 8 mw)]
  refine lv_iconst (v := 0) hx hb dL_isHeld_50 (by decide) ?_
  refine lv_iconst (v := 1) hx hb dL_isHeld_51 (by decide) ?_
  refine lv_bipush (v := 10) hx hb dL_isHeld_52 (by decide) ?_
  have hFc := va_freeAll hD hS hA
  refine va_calli (va_runV (As := [.int (0 : Int32), .int (nI (8 + mw)), .int (0 : Int32), .int (1 : Int32), .int (10 : Int32)]) (rest := []) ⟨hx, hb, hml, hown, hts⟩ (c_X6_act l dC dI ad o rw so ba ma cR cJ H.size (stB T0 F_40) (0 : Int32) (nI (8 + mw)) (0 : Int32) (1 : Int32) (10 : Int32) (inv12 h1 hk)) (cwV 5 hts (gV iX6_act (zin__r7 (.methodLink RL 64 yX6_act) (List.mem_of_getElem? (i := 6) rfl))) rfl rfl rfl (by decide +kernel) ⟨Nat.le_of_ble_eq_true rfl, Nat.le_of_ble_eq_true rfl⟩) ⟨fun a U g mk q => ⟨q.1, cB_bl q.2⟩, cW_rv hw, fun U hU hW => ⟨rfl, cB_mv hw hD (kA_in hkA hS hFc) hU hW⟩⟩ rfl rfl hl.1 rfl (lv_room (Nat.le_of_ble_eq_true rfl)) dL_isHeld_54 ⟨Nat.le_of_ble_eq_true rfl, Nat.le_of_ble_eq_true rfl⟩) hS (fun q _ h => hFc q h) hFc (fun r_54 S_54 t H1 locs ht hvm hw1 hB hz1 hk1 hS => ?_)
  obtain ⟨hP, -, hD1⟩ := hB
  rw [ht] at hP
  have hD := hD1.weaken (fun k q _ h => hFc q.1 h)
  generalize H1 = H at hP hS ⊢
  obtain ⟨V_54, eV_54⟩ : ∃ z, z = f_X2_acted k (nI (8 + mw)) x y := ⟨_, rfl⟩
  obtain ⟨F_54, eF_54⟩ : ∃ z, z = vp_updL F_40 10 V_54 := ⟨_, rfl⟩
  obtain ⟨rfl, rfl⟩ : r_54 = f_X1_sortOf k V_54 ∧ S_54 = stB T0 F_54 := by rw [eF_54, eV_54]; exact Prod.mk.inj (hw1.trans (act_at (m := (8 + mw)) (i := 0) (j := 1) (n := 10) h1 (by omega) (by decide) (by decide) (by decide) q40_0 q40_1))
  have q54_0 : F_54 0 = x := by rw [eF_54, updL_ne (by decide)]; exact q40_0
  have q54_1 : F_54 1 = y := by rw [eF_54, updL_ne (by decide)]; exact q40_1
  have q54_6 : F_54 6 = x := by rw [eF_54, updL_ne (by decide)]; exact q40_6
  have q54_7 : F_54 7 = x := by rw [eF_54, updL_ne (by decide)]; exact q40_7
  have q54_8 : F_54 8 = y := by rw [eF_54, updL_ne (by decide)]; exact q40_8
  have q54_9 : F_54 9 = y := by rw [eF_54, updL_ne (by decide)]; exact q40_9
  have q54_10 : F_54 10 = V_54 := by rw [eF_54]; exact updL_eq
  have hw : cH dC dI ad o rw so ba ma cR cJ (stB T0 F_54) s H := ⟨hP, hK⟩
  have cz : kcn k V_54 := by rw [eV_54]; exact act_clean hk cx cy (by omega)
  refine lv_istore_n (lv' := [(2, .int (f_X1_sortOf k V_54)), (0, .ref o), (1, .int (nI mw))]) hx hb dL_isHeld_57 rfl hl (by decide) rfl (fun ls hl => ?_)
  refine lv_aload_n hx hb dL_isHeld_58 rfl (lv_at hl 1 rfl) ?_
  refine lv_iconst (v := 0) hx hb dL_isHeld_59 (by decide) ?_
  have hFc := va_freeAll hD hS hA
  refine va_calli (va_runS (As := [.ref o, .int (0 : Int32)]) (rest := []) ⟨hx, hb, hml, hown, hts⟩ (c_L_isNone l dC dI ad o rw so ba ma cR cJ H.size T0 k F_54 hk h1 (0 : Int32) 0 rfl (by decide) x q54_0 cx) (va_cwS 2 hts (gS iL_isNone (zin__r12 (.methodLink RL 72 yL_isNone) (List.mem_of_getElem? (i := 15) rfl))) rfl rfl rfl (by decide +kernel) ⟨Nat.le_of_ble_eq_true rfl, Nat.le_of_ble_eq_true rfl⟩) ⟨fun a U g mk q => ⟨q.1, cB_bl q.2⟩, fun U hU hW => ⟨rfl, cB_mv hw hD (kA_in hkA hS hFc) hU hW⟩⟩ rfl rfl hl.1 rfl (lv_room (Nat.le_of_ble_eq_true rfl)) dL_isHeld_60 ⟨Nat.le_of_ble_eq_true rfl, Nat.le_of_ble_eq_true rfl⟩) hS (fun q _ h => hFc q h) hFc (fun r_60 S_60 t H1 locs ht hvm hw1 hB hz1 hk1 hS => ?_)
  obtain ⟨hP, -, hD1⟩ := hB
  rw [ht] at hP
  have hD := hD1.weaken (fun k q _ h => hFc q.1 h)
  generalize H1 = H at hP hS ⊢
  obtain ⟨rfl, rfl⟩ := hw1
  have hw : cH dC dI ad o rw so ba ma cR cJ (stB T0 F_54) s H := ⟨hP, hK⟩
  refine lv_if_ne (tgt := 95) hx hb dL_isHeld_63 (by decide) (fun c_63 => ?_) (fun c_63 => ?_)
  · have hxn : x = knan k := Classical.byContradiction fun e => c_63 (if_neg e)
    refine lv_iconst (v := 1) hx hb dL_isHeld_95 (by decide) ?_
    refine lv_goto (tgt := 100) hx hb dL_isHeld_96 (by decide) ?_
    refine lv_istore_n (lv' := [(3, .int (1 : Int32)), (2, .int (f_X1_sortOf k V_54)), (0, .ref o), (1, .int (nI mw))]) hx hb dL_isHeld_100 rfl hl (by decide) rfl (fun ls hl => ?_)
    refine lv_aload_n hx hb dL_isHeld_101 rfl (lv_at hl 2 rfl) ?_
    refine lv_iconst (v := 0) hx hb dL_isHeld_102 (by decide) ?_
    refine lv_iconst (v := 3) hx hb dL_isHeld_103 (by decide) ?_
    refine lv_iconst (v := 4) hx hb dL_isHeld_104 (by decide) ?_
    refine lv_iload_n hx hb dL_isHeld_105 rfl (lv_at hl 3 rfl) ?_
    have hFc := va_freeAll hD hS hA
    refine va_calli (va_runV (As := [.int (0 : Int32), .int (3 : Int32), .int (4 : Int32), .int (nI mw)]) (rest := []) ⟨hx, hb, hml, hown, hts⟩ (c_X6_interval l dC dI ad o rw so ba ma cR cJ H.size (stB T0 F_54) (0 : Int32) (3 : Int32) (4 : Int32) (nI mw) (inv12 h1 hk)) (cwV 4 hts (gV iX6_interval (zin__r12 (.methodLink RL 75 yX6_interval) (List.mem_of_getElem? (i := 18) rfl))) rfl rfl rfl (by decide +kernel) ⟨Nat.le_of_ble_eq_true rfl, Nat.le_of_ble_eq_true rfl⟩) ⟨fun a U g mk q => ⟨q.1, cB_bl q.2⟩, cW_rv hw, fun U hU hW => ⟨rfl, cB_mv hw hD (kA_in hkA hS hFc) hU hW⟩⟩ rfl rfl hl.1 rfl (lv_room (Nat.le_of_ble_eq_true rfl)) dL_isHeld_106 ⟨Nat.le_of_ble_eq_true rfl, Nat.le_of_ble_eq_true rfl⟩) hS (fun q _ h => hFc q h) hFc (fun r_106 S_106 t H1 locs ht hvm hw1 hB hz1 hk1 hS => ?_)
    obtain ⟨hP, -, hD1⟩ := hB
    rw [ht] at hP
    have hD := hD1.weaken (fun k q _ h => hFc q.1 h)
    generalize H1 = H at hP hS ⊢
    obtain ⟨a_106, hi_106, s9, t9, u9, v9, hu9, hv9, ea9, hlt9, hin9⟩ := interval_at (m := mw) h1 hk hm q54_6 q54_7 q54_8 q54_9 cx cy
    subst ea9
    obtain ⟨F_106, eF_106⟩ : ∃ z, z = vp_updL (vp_updL F_54 6 (enc k s9 u9)) 7 (enc k t9 v9) := ⟨_, rfl⟩
    obtain ⟨rfl, rfl⟩ : r_106 = anyI k x y mw ∧ S_106 = stB T0 F_106 := by rw [eF_106]; exact Prod.mk.inj (hw1.trans hi_106)
    have q106_0 : F_106 0 = x := by rw [eF_106, updL_ne (by decide), updL_ne (by decide)]; exact q54_0
    have q106_1 : F_106 1 = y := by rw [eF_106, updL_ne (by decide), updL_ne (by decide)]; exact q54_1
    have q106_8 : F_106 8 = y := by rw [eF_106, updL_ne (by decide), updL_ne (by decide)]; exact q54_8
    have q106_9 : F_106 9 = y := by rw [eF_106, updL_ne (by decide), updL_ne (by decide)]; exact q54_9
    have q106_10 : F_106 10 = V_54 := by rw [eF_106, updL_ne (by decide), updL_ne (by decide)]; exact q54_10
    have q106_7 : F_106 7 = enc k t9 v9 := by rw [eF_106]; exact updL_eq
    have q106_6 : F_106 6 = enc k s9 u9 := by rw [eF_106, updL_ne (by decide)]; exact updL_eq
    have hw : cH dC dI ad o rw so ba ma cR cJ (stB T0 F_106) s H := ⟨hP, hK⟩
    refine lv_istore (lv' := [(4, .int (anyI k x y mw)), (3, .int (1 : Int32)), (2, .int (f_X1_sortOf k V_54)), (0, .ref o), (1, .int (nI mw))]) hx hb dL_isHeld_109 hl (by decide) rfl (fun ls hl => ?_)
    refine lv_iload hx hb dL_isHeld_111 (lv_at hl 0 rfl) ?_
    refine lv_iload_n hx hb dL_isHeld_113 rfl (lv_at hl 1 rfl) ?_
    refine lv_if_eq (tgt := 121) hx hb dL_isHeld_114 (by decide) (fun c => absurd c (show ¬ ((1 : Int32) = 0) from by decide)) (fun _ => ?_)
    refine lv_iconst (v := 1) hx hb dL_isHeld_117 (by decide) ?_
    refine lv_goto (tgt := 122) hx hb dL_isHeld_118 (by decide) ?_
    refine lv_icmp_ne (tgt := 157) hx hb dL_isHeld_122 (by decide) (fun c => absurd (show (anyI k x y mw) = (1 : Int32) from if_pos (Or.inl hxn)) c) (fun _ => ?_)
    refine lv_aload_n hx hb dL_isHeld_125 rfl (lv_at hl 3 rfl) ?_
    refine lv_bipush (v := 6) hx hb dL_isHeld_126 (by decide) ?_
    have hFc := va_freeAll hD hS hA
    refine va_calli (va_runS (As := [.ref o, .int (6 : Int32)]) (rest := []) ⟨hx, hb, hml, hown, hts⟩ (c_L_isNone l dC dI ad o rw so ba ma cR cJ H.size T0 k F_106 hk h1 (6 : Int32) 6 rfl (by decide) (enc k s9 u9) q106_6 (kcn_enc hk hu9)) (va_cwS 2 hts (gS iL_isNone (zin__r12 (.methodLink RL 72 yL_isNone) (List.mem_of_getElem? (i := 15) rfl))) rfl rfl rfl (by decide +kernel) ⟨Nat.le_of_ble_eq_true rfl, Nat.le_of_ble_eq_true rfl⟩) ⟨fun a U g mk q => ⟨q.1, cB_bl q.2⟩, fun U hU hW => ⟨rfl, cB_mv hw hD (kA_in hkA hS hFc) hU hW⟩⟩ rfl rfl hl.1 rfl (lv_room (Nat.le_of_ble_eq_true rfl)) dL_isHeld_128 ⟨Nat.le_of_ble_eq_true rfl, Nat.le_of_ble_eq_true rfl⟩) hS (fun q _ h => hFc q h) hFc (fun r_128 S_128 t H1 locs ht hvm hw1 hB hz1 hk1 hS => ?_)
    obtain ⟨hP, -, hD1⟩ := hB
    rw [ht] at hP
    have hD := hD1.weaken (fun k q _ h => hFc q.1 h)
    generalize H1 = H at hP hS ⊢
    obtain ⟨rfl, rfl⟩ := hw1
    have hw : cH dC dI ad o rw so ba ma cR cJ (stB T0 F_106) s H := ⟨hP, hK⟩
    refine lv_if_ne (tgt := 157) hx hb dL_isHeld_131 (by decide) (fun c => absurd (show (if (enc k s9 u9) = knan k then (1 : Int32) else 0) = 0 from if_neg (enc_ne_nan hk hu9)) c) (fun _ => ?_)
    refine lv_aload_n hx hb dL_isHeld_134 rfl (lv_at hl 3 rfl) ?_
    refine lv_bipush (v := 7) hx hb dL_isHeld_135 (by decide) ?_
    have hFc := va_freeAll hD hS hA
    refine va_calli (va_runS (As := [.ref o, .int (7 : Int32)]) (rest := []) ⟨hx, hb, hml, hown, hts⟩ (c_L_isNone l dC dI ad o rw so ba ma cR cJ H.size T0 k F_106 hk h1 (7 : Int32) 7 rfl (by decide) (enc k t9 v9) q106_7 (kcn_enc hk hv9)) (va_cwS 2 hts (gS iL_isNone (zin__r12 (.methodLink RL 72 yL_isNone) (List.mem_of_getElem? (i := 15) rfl))) rfl rfl rfl (by decide +kernel) ⟨Nat.le_of_ble_eq_true rfl, Nat.le_of_ble_eq_true rfl⟩) ⟨fun a U g mk q => ⟨q.1, cB_bl q.2⟩, fun U hU hW => ⟨rfl, cB_mv hw hD (kA_in hkA hS hFc) hU hW⟩⟩ rfl rfl hl.1 rfl (lv_room (Nat.le_of_ble_eq_true rfl)) dL_isHeld_137 ⟨Nat.le_of_ble_eq_true rfl, Nat.le_of_ble_eq_true rfl⟩) hS (fun q _ h => hFc q h) hFc (fun r_137 S_137 t H1 locs ht hvm hw1 hB hz1 hk1 hS => ?_)
    obtain ⟨hP, -, hD1⟩ := hB
    rw [ht] at hP
    have hD := hD1.weaken (fun k q _ h => hFc q.1 h)
    generalize H1 = H at hP hS ⊢
    obtain ⟨rfl, rfl⟩ := hw1
    have hw : cH dC dI ad o rw so ba ma cR cJ (stB T0 F_106) s H := ⟨hP, hK⟩
    refine lv_if_ne (tgt := 157) hx hb dL_isHeld_140 (by decide) (fun c => absurd (show (if (enc k t9 v9) = knan k then (1 : Int32) else 0) = 0 from if_neg (enc_ne_nan hk hv9)) c) (fun _ => ?_)
    refine lv_aload_n hx hb dL_isHeld_143 rfl (lv_at hl 3 rfl) ?_
    refine lv_iconst (v := 0) hx hb dL_isHeld_144 (by decide) ?_
    refine lv_bipush (v := 6) hx hb dL_isHeld_145 (by decide) ?_
    refine lv_bipush (v := 7) hx hb dL_isHeld_147 (by decide) ?_
    have hFc := va_freeAll hD hS hA
    refine va_calli (va_runV (As := [.int (0 : Int32), .int (6 : Int32), .int (7 : Int32)]) (rest := []) ⟨hx, hb, hml, hown, hts⟩ (c_X6_compare l dC dI ad o rw so ba ma cR cJ H.size (stB T0 F_106) (0 : Int32) (6 : Int32) (7 : Int32) (inv12 h1 hk)) (cwV 3 hts (gV iX6_compare (zin__r5 (.methodLink RL 7 yX6_compare) (List.mem_of_getElem? (i := 0) rfl))) rfl rfl rfl (by decide +kernel) ⟨Nat.le_of_ble_eq_true rfl, Nat.le_of_ble_eq_true rfl⟩) ⟨fun a U g mk q => ⟨q.1, cB_bl q.2⟩, cW_rv hw, fun U hU hW => ⟨rfl, cB_mv hw hD (kA_in hkA hS hFc) hU hW⟩⟩ rfl rfl hl.1 rfl (lv_room (Nat.le_of_ble_eq_true rfl)) dL_isHeld_149 ⟨Nat.le_of_ble_eq_true rfl, Nat.le_of_ble_eq_true rfl⟩) hS (fun q _ h => hFc q h) hFc (fun r_149 S_149 t H1 locs ht hvm hw1 hB hz1 hk1 hS => ?_)
    obtain ⟨hP, -, hD1⟩ := hB
    rw [ht] at hP
    have hD := hD1.weaken (fun k q _ h => hFc q.1 h)
    generalize H1 = H at hP hS ⊢
    obtain ⟨rfl, rfl⟩ : (f_X1_relations k (enc k s9 u9) (enc k t9 v9)) = r_149 ∧ stB T0 F_106 = S_149 := Prod.mk.inj (hw1.trans (compare_at (i := 6) (j := 7) h1 (by decide) (by decide) q106_6 q106_7)).symm
    have hw : cH dC dI ad o rw so ba ma cR cJ (stB T0 F_106) s H := ⟨hP, hK⟩
    refine lv_bipush (v := 41) hx hb dL_isHeld_152 (by decide) ?_
    refine lv_icmp_eq (tgt := 159) hx hb dL_isHeld_154 (by decide) (fun _ => ?_) (fun c => absurd (show (f_X1_relations k (enc k s9 u9) (enc k t9 v9)) = (41 : Int32) from rel_lt hk hu9 hv9 hlt9) c)
    refine lv_iload_n hx hb dL_isHeld_159 rfl (lv_at hl 2 rfl) ?_
    refine lv_iconst (v := 3) hx hb dL_isHeld_160 (by decide) ?_
    refine lv_icmp_eq (tgt := 179) hx hb dL_isHeld_161 (by decide) (fun c_161 => ?_) (fun c_161 => ?_)
    · refine lv_iconst (v := 1) hx hb dL_isHeld_179 (by decide) ?_
      refine lv_goto (tgt := 184) hx hb dL_isHeld_180 (by decide) ?_
      refine W.widen (k := 4) (n := 12) (Nat.le_of_ble_eq_true rfl) (Nat.le_of_ble_eq_true rfl) ?_
      exact W.zret hx hb hr rfl (fun t ht hW => ⟨⟨_, stB T0 F_106, rfl, ⟨rfl, F_106, q106_0, q106_1, rfl⟩, by rw [ht]; exact hP, va_K.moved hW.alike hK, hD⟩, hS.F ht⟩) hS.2.2 dL_isHeld_184
    · obtain ⟨q9, w9, hw9, ez⟩ := (kcn_cases hk cz).resolve_left (fun e => c_161 ((sort_3 hk cz).mpr e))
      obtain ⟨l1, l2⟩ := hin9 q9 w9 hw9 (eV_54.symm.trans ez)
      refine lv_aload_n hx hb dL_isHeld_164 rfl (lv_at hl 3 rfl) ?_
      refine lv_iconst (v := 0) hx hb dL_isHeld_165 (by decide) ?_
      refine lv_bipush (v := 10) hx hb dL_isHeld_166 (by decide) ?_
      refine lv_bipush (v := 6) hx hb dL_isHeld_168 (by decide) ?_
      refine lv_bipush (v := 7) hx hb dL_isHeld_170 (by decide) ?_
      have hFc := va_freeAll hD hS hA
      refine va_calli (va_runV (As := [.int (0 : Int32), .int (10 : Int32), .int (6 : Int32), .int (7 : Int32)]) (rest := []) ⟨hx, hb, hml, hown, hts⟩ (c_X6_between l dC dI ad o rw so ba ma cR cJ H.size (stB T0 F_106) (0 : Int32) (10 : Int32) (6 : Int32) (7 : Int32) (inv12 h1 hk)) (cwV 4 hts (gV iX6_between (zin__r6 (.methodLink RL 56 yX6_between) (List.mem_of_getElem? (i := 9) rfl))) rfl rfl rfl (by decide +kernel) ⟨Nat.le_of_ble_eq_true rfl, Nat.le_of_ble_eq_true rfl⟩) ⟨fun a U g mk q => ⟨q.1, cB_bl q.2⟩, cW_rv hw, fun U hU hW => ⟨rfl, cB_mv hw hD (kA_in hkA hS hFc) hU hW⟩⟩ rfl rfl hl.1 rfl (lv_room (Nat.le_of_ble_eq_true rfl)) dL_isHeld_172 ⟨Nat.le_of_ble_eq_true rfl, Nat.le_of_ble_eq_true rfl⟩) hS (fun q _ h => hFc q h) hFc (fun r_172 S_172 t H1 locs ht hvm hw1 hB hz1 hk1 hS => ?_)
      obtain ⟨hP, -, hD1⟩ := hB
      rw [ht] at hP
      have hD := hD1.weaken (fun k q _ h => hFc q.1 h)
      generalize H1 = H at hP hS ⊢
      obtain ⟨rfl, rfl⟩ : r_172 = (3 : Int32) ∧ S_172 = stB T0 F_106 := Prod.mk.inj (hw1.trans (between_in (i := 10) (j := 6) (p := 7) h1 hk (by decide) (by decide) (by decide) hu9 hv9 hw9 (q106_10.trans ez) q106_6 q106_7 l1 l2))
      have hw : cH dC dI ad o rw so ba ma cR cJ (stB T0 F_106) s H := ⟨hP, hK⟩
      refine lv_iconst (v := 3) hx hb dL_isHeld_175 (by decide) ?_
      refine lv_icmp_ne (tgt := 183) hx hb dL_isHeld_176 (by decide) (fun c => absurd (show (3 : Int32) = (3 : Int32) from rfl) c) (fun _ => ?_)
      refine lv_iconst (v := 1) hx hb dL_isHeld_179 (by decide) ?_
      refine lv_goto (tgt := 184) hx hb dL_isHeld_180 (by decide) ?_
      refine W.widen (k := 4) (n := 12) (Nat.le_of_ble_eq_true rfl) (Nat.le_of_ble_eq_true rfl) ?_
      exact W.zret hx hb hr rfl (fun t ht hW => ⟨⟨_, stB T0 F_106, rfl, ⟨rfl, F_106, q106_0, q106_1, rfl⟩, by rw [ht]; exact hP, va_K.moved hW.alike hK, hD⟩, hS.F ht⟩) hS.2.2 dL_isHeld_184
  · have hxn : ¬ x = knan k := fun e => by rw [if_pos e] at c_63; exact absurd c_63 (by decide)
    refine lv_aload_n hx hb dL_isHeld_66 rfl (lv_at hl 1 rfl) ?_
    refine lv_iconst (v := 1) hx hb dL_isHeld_67 (by decide) ?_
    have hFc := va_freeAll hD hS hA
    refine va_calli (va_runS (As := [.ref o, .int (1 : Int32)]) (rest := []) ⟨hx, hb, hml, hown, hts⟩ (c_L_isNone l dC dI ad o rw so ba ma cR cJ H.size T0 k F_54 hk h1 (1 : Int32) 1 rfl (by decide) y q54_1 cy) (va_cwS 2 hts (gS iL_isNone (zin__r12 (.methodLink RL 72 yL_isNone) (List.mem_of_getElem? (i := 15) rfl))) rfl rfl rfl (by decide +kernel) ⟨Nat.le_of_ble_eq_true rfl, Nat.le_of_ble_eq_true rfl⟩) ⟨fun a U g mk q => ⟨q.1, cB_bl q.2⟩, fun U hU hW => ⟨rfl, cB_mv hw hD (kA_in hkA hS hFc) hU hW⟩⟩ rfl rfl hl.1 rfl (lv_room (Nat.le_of_ble_eq_true rfl)) dL_isHeld_68 ⟨Nat.le_of_ble_eq_true rfl, Nat.le_of_ble_eq_true rfl⟩) hS (fun q _ h => hFc q h) hFc (fun r_68 S_68 t H1 locs ht hvm hw1 hB hz1 hk1 hS => ?_)
    obtain ⟨hP, -, hD1⟩ := hB
    rw [ht] at hP
    have hD := hD1.weaken (fun k q _ h => hFc q.1 h)
    generalize H1 = H at hP hS ⊢
    obtain ⟨rfl, rfl⟩ := hw1
    have hw : cH dC dI ad o rw so ba ma cR cJ (stB T0 F_54) s H := ⟨hP, hK⟩
    refine lv_if_ne (tgt := 95) hx hb dL_isHeld_71 (by decide) (fun c_71 => ?_) (fun c_71 => ?_)
    · have hyn : y = knan k := Classical.byContradiction fun e => c_71 (if_neg e)
      refine lv_iconst (v := 1) hx hb dL_isHeld_95 (by decide) ?_
      refine lv_goto (tgt := 100) hx hb dL_isHeld_96 (by decide) ?_
      refine lv_istore_n (lv' := [(3, .int (1 : Int32)), (2, .int (f_X1_sortOf k V_54)), (0, .ref o), (1, .int (nI mw))]) hx hb dL_isHeld_100 rfl hl (by decide) rfl (fun ls hl => ?_)
      refine lv_aload_n hx hb dL_isHeld_101 rfl (lv_at hl 2 rfl) ?_
      refine lv_iconst (v := 0) hx hb dL_isHeld_102 (by decide) ?_
      refine lv_iconst (v := 3) hx hb dL_isHeld_103 (by decide) ?_
      refine lv_iconst (v := 4) hx hb dL_isHeld_104 (by decide) ?_
      refine lv_iload_n hx hb dL_isHeld_105 rfl (lv_at hl 3 rfl) ?_
      have hFc := va_freeAll hD hS hA
      refine va_calli (va_runV (As := [.int (0 : Int32), .int (3 : Int32), .int (4 : Int32), .int (nI mw)]) (rest := []) ⟨hx, hb, hml, hown, hts⟩ (c_X6_interval l dC dI ad o rw so ba ma cR cJ H.size (stB T0 F_54) (0 : Int32) (3 : Int32) (4 : Int32) (nI mw) (inv12 h1 hk)) (cwV 4 hts (gV iX6_interval (zin__r12 (.methodLink RL 75 yX6_interval) (List.mem_of_getElem? (i := 18) rfl))) rfl rfl rfl (by decide +kernel) ⟨Nat.le_of_ble_eq_true rfl, Nat.le_of_ble_eq_true rfl⟩) ⟨fun a U g mk q => ⟨q.1, cB_bl q.2⟩, cW_rv hw, fun U hU hW => ⟨rfl, cB_mv hw hD (kA_in hkA hS hFc) hU hW⟩⟩ rfl rfl hl.1 rfl (lv_room (Nat.le_of_ble_eq_true rfl)) dL_isHeld_106 ⟨Nat.le_of_ble_eq_true rfl, Nat.le_of_ble_eq_true rfl⟩) hS (fun q _ h => hFc q h) hFc (fun r_106 S_106 t H1 locs ht hvm hw1 hB hz1 hk1 hS => ?_)
      obtain ⟨hP, -, hD1⟩ := hB
      rw [ht] at hP
      have hD := hD1.weaken (fun k q _ h => hFc q.1 h)
      generalize H1 = H at hP hS ⊢
      obtain ⟨a_106, hi_106, s9, t9, u9, v9, hu9, hv9, ea9, hlt9, hin9⟩ := interval_at (m := mw) h1 hk hm q54_6 q54_7 q54_8 q54_9 cx cy
      subst ea9
      obtain ⟨F_106, eF_106⟩ : ∃ z, z = vp_updL (vp_updL F_54 6 (enc k s9 u9)) 7 (enc k t9 v9) := ⟨_, rfl⟩
      obtain ⟨rfl, rfl⟩ : r_106 = anyI k x y mw ∧ S_106 = stB T0 F_106 := by rw [eF_106]; exact Prod.mk.inj (hw1.trans hi_106)
      have q106_0 : F_106 0 = x := by rw [eF_106, updL_ne (by decide), updL_ne (by decide)]; exact q54_0
      have q106_1 : F_106 1 = y := by rw [eF_106, updL_ne (by decide), updL_ne (by decide)]; exact q54_1
      have q106_8 : F_106 8 = y := by rw [eF_106, updL_ne (by decide), updL_ne (by decide)]; exact q54_8
      have q106_9 : F_106 9 = y := by rw [eF_106, updL_ne (by decide), updL_ne (by decide)]; exact q54_9
      have q106_10 : F_106 10 = V_54 := by rw [eF_106, updL_ne (by decide), updL_ne (by decide)]; exact q54_10
      have q106_7 : F_106 7 = enc k t9 v9 := by rw [eF_106]; exact updL_eq
      have q106_6 : F_106 6 = enc k s9 u9 := by rw [eF_106, updL_ne (by decide)]; exact updL_eq
      have hw : cH dC dI ad o rw so ba ma cR cJ (stB T0 F_106) s H := ⟨hP, hK⟩
      refine lv_istore (lv' := [(4, .int (anyI k x y mw)), (3, .int (1 : Int32)), (2, .int (f_X1_sortOf k V_54)), (0, .ref o), (1, .int (nI mw))]) hx hb dL_isHeld_109 hl (by decide) rfl (fun ls hl => ?_)
      refine lv_iload hx hb dL_isHeld_111 (lv_at hl 0 rfl) ?_
      refine lv_iload_n hx hb dL_isHeld_113 rfl (lv_at hl 1 rfl) ?_
      refine lv_if_eq (tgt := 121) hx hb dL_isHeld_114 (by decide) (fun c => absurd c (show ¬ ((1 : Int32) = 0) from by decide)) (fun _ => ?_)
      refine lv_iconst (v := 1) hx hb dL_isHeld_117 (by decide) ?_
      refine lv_goto (tgt := 122) hx hb dL_isHeld_118 (by decide) ?_
      refine lv_icmp_ne (tgt := 157) hx hb dL_isHeld_122 (by decide) (fun c => absurd (show (anyI k x y mw) = (1 : Int32) from if_pos (Or.inr (Or.inl hyn))) c) (fun _ => ?_)
      refine lv_aload_n hx hb dL_isHeld_125 rfl (lv_at hl 3 rfl) ?_
      refine lv_bipush (v := 6) hx hb dL_isHeld_126 (by decide) ?_
      have hFc := va_freeAll hD hS hA
      refine va_calli (va_runS (As := [.ref o, .int (6 : Int32)]) (rest := []) ⟨hx, hb, hml, hown, hts⟩ (c_L_isNone l dC dI ad o rw so ba ma cR cJ H.size T0 k F_106 hk h1 (6 : Int32) 6 rfl (by decide) (enc k s9 u9) q106_6 (kcn_enc hk hu9)) (va_cwS 2 hts (gS iL_isNone (zin__r12 (.methodLink RL 72 yL_isNone) (List.mem_of_getElem? (i := 15) rfl))) rfl rfl rfl (by decide +kernel) ⟨Nat.le_of_ble_eq_true rfl, Nat.le_of_ble_eq_true rfl⟩) ⟨fun a U g mk q => ⟨q.1, cB_bl q.2⟩, fun U hU hW => ⟨rfl, cB_mv hw hD (kA_in hkA hS hFc) hU hW⟩⟩ rfl rfl hl.1 rfl (lv_room (Nat.le_of_ble_eq_true rfl)) dL_isHeld_128 ⟨Nat.le_of_ble_eq_true rfl, Nat.le_of_ble_eq_true rfl⟩) hS (fun q _ h => hFc q h) hFc (fun r_128 S_128 t H1 locs ht hvm hw1 hB hz1 hk1 hS => ?_)
      obtain ⟨hP, -, hD1⟩ := hB
      rw [ht] at hP
      have hD := hD1.weaken (fun k q _ h => hFc q.1 h)
      generalize H1 = H at hP hS ⊢
      obtain ⟨rfl, rfl⟩ := hw1
      have hw : cH dC dI ad o rw so ba ma cR cJ (stB T0 F_106) s H := ⟨hP, hK⟩
      refine lv_if_ne (tgt := 157) hx hb dL_isHeld_131 (by decide) (fun c => absurd (show (if (enc k s9 u9) = knan k then (1 : Int32) else 0) = 0 from if_neg (enc_ne_nan hk hu9)) c) (fun _ => ?_)
      refine lv_aload_n hx hb dL_isHeld_134 rfl (lv_at hl 3 rfl) ?_
      refine lv_bipush (v := 7) hx hb dL_isHeld_135 (by decide) ?_
      have hFc := va_freeAll hD hS hA
      refine va_calli (va_runS (As := [.ref o, .int (7 : Int32)]) (rest := []) ⟨hx, hb, hml, hown, hts⟩ (c_L_isNone l dC dI ad o rw so ba ma cR cJ H.size T0 k F_106 hk h1 (7 : Int32) 7 rfl (by decide) (enc k t9 v9) q106_7 (kcn_enc hk hv9)) (va_cwS 2 hts (gS iL_isNone (zin__r12 (.methodLink RL 72 yL_isNone) (List.mem_of_getElem? (i := 15) rfl))) rfl rfl rfl (by decide +kernel) ⟨Nat.le_of_ble_eq_true rfl, Nat.le_of_ble_eq_true rfl⟩) ⟨fun a U g mk q => ⟨q.1, cB_bl q.2⟩, fun U hU hW => ⟨rfl, cB_mv hw hD (kA_in hkA hS hFc) hU hW⟩⟩ rfl rfl hl.1 rfl (lv_room (Nat.le_of_ble_eq_true rfl)) dL_isHeld_137 ⟨Nat.le_of_ble_eq_true rfl, Nat.le_of_ble_eq_true rfl⟩) hS (fun q _ h => hFc q h) hFc (fun r_137 S_137 t H1 locs ht hvm hw1 hB hz1 hk1 hS => ?_)
      obtain ⟨hP, -, hD1⟩ := hB
      rw [ht] at hP
      have hD := hD1.weaken (fun k q _ h => hFc q.1 h)
      generalize H1 = H at hP hS ⊢
      obtain ⟨rfl, rfl⟩ := hw1
      have hw : cH dC dI ad o rw so ba ma cR cJ (stB T0 F_106) s H := ⟨hP, hK⟩
      refine lv_if_ne (tgt := 157) hx hb dL_isHeld_140 (by decide) (fun c => absurd (show (if (enc k t9 v9) = knan k then (1 : Int32) else 0) = 0 from if_neg (enc_ne_nan hk hv9)) c) (fun _ => ?_)
      refine lv_aload_n hx hb dL_isHeld_143 rfl (lv_at hl 3 rfl) ?_
      refine lv_iconst (v := 0) hx hb dL_isHeld_144 (by decide) ?_
      refine lv_bipush (v := 6) hx hb dL_isHeld_145 (by decide) ?_
      refine lv_bipush (v := 7) hx hb dL_isHeld_147 (by decide) ?_
      have hFc := va_freeAll hD hS hA
      refine va_calli (va_runV (As := [.int (0 : Int32), .int (6 : Int32), .int (7 : Int32)]) (rest := []) ⟨hx, hb, hml, hown, hts⟩ (c_X6_compare l dC dI ad o rw so ba ma cR cJ H.size (stB T0 F_106) (0 : Int32) (6 : Int32) (7 : Int32) (inv12 h1 hk)) (cwV 3 hts (gV iX6_compare (zin__r5 (.methodLink RL 7 yX6_compare) (List.mem_of_getElem? (i := 0) rfl))) rfl rfl rfl (by decide +kernel) ⟨Nat.le_of_ble_eq_true rfl, Nat.le_of_ble_eq_true rfl⟩) ⟨fun a U g mk q => ⟨q.1, cB_bl q.2⟩, cW_rv hw, fun U hU hW => ⟨rfl, cB_mv hw hD (kA_in hkA hS hFc) hU hW⟩⟩ rfl rfl hl.1 rfl (lv_room (Nat.le_of_ble_eq_true rfl)) dL_isHeld_149 ⟨Nat.le_of_ble_eq_true rfl, Nat.le_of_ble_eq_true rfl⟩) hS (fun q _ h => hFc q h) hFc (fun r_149 S_149 t H1 locs ht hvm hw1 hB hz1 hk1 hS => ?_)
      obtain ⟨hP, -, hD1⟩ := hB
      rw [ht] at hP
      have hD := hD1.weaken (fun k q _ h => hFc q.1 h)
      generalize H1 = H at hP hS ⊢
      obtain ⟨rfl, rfl⟩ : (f_X1_relations k (enc k s9 u9) (enc k t9 v9)) = r_149 ∧ stB T0 F_106 = S_149 := Prod.mk.inj (hw1.trans (compare_at (i := 6) (j := 7) h1 (by decide) (by decide) q106_6 q106_7)).symm
      have hw : cH dC dI ad o rw so ba ma cR cJ (stB T0 F_106) s H := ⟨hP, hK⟩
      refine lv_bipush (v := 41) hx hb dL_isHeld_152 (by decide) ?_
      refine lv_icmp_eq (tgt := 159) hx hb dL_isHeld_154 (by decide) (fun _ => ?_) (fun c => absurd (show (f_X1_relations k (enc k s9 u9) (enc k t9 v9)) = (41 : Int32) from rel_lt hk hu9 hv9 hlt9) c)
      refine lv_iload_n hx hb dL_isHeld_159 rfl (lv_at hl 2 rfl) ?_
      refine lv_iconst (v := 3) hx hb dL_isHeld_160 (by decide) ?_
      refine lv_icmp_eq (tgt := 179) hx hb dL_isHeld_161 (by decide) (fun c_161 => ?_) (fun c_161 => ?_)
      · refine lv_iconst (v := 1) hx hb dL_isHeld_179 (by decide) ?_
        refine lv_goto (tgt := 184) hx hb dL_isHeld_180 (by decide) ?_
        refine W.widen (k := 4) (n := 12) (Nat.le_of_ble_eq_true rfl) (Nat.le_of_ble_eq_true rfl) ?_
        exact W.zret hx hb hr rfl (fun t ht hW => ⟨⟨_, stB T0 F_106, rfl, ⟨rfl, F_106, q106_0, q106_1, rfl⟩, by rw [ht]; exact hP, va_K.moved hW.alike hK, hD⟩, hS.F ht⟩) hS.2.2 dL_isHeld_184
      · obtain ⟨q9, w9, hw9, ez⟩ := (kcn_cases hk cz).resolve_left (fun e => c_161 ((sort_3 hk cz).mpr e))
        obtain ⟨l1, l2⟩ := hin9 q9 w9 hw9 (eV_54.symm.trans ez)
        refine lv_aload_n hx hb dL_isHeld_164 rfl (lv_at hl 3 rfl) ?_
        refine lv_iconst (v := 0) hx hb dL_isHeld_165 (by decide) ?_
        refine lv_bipush (v := 10) hx hb dL_isHeld_166 (by decide) ?_
        refine lv_bipush (v := 6) hx hb dL_isHeld_168 (by decide) ?_
        refine lv_bipush (v := 7) hx hb dL_isHeld_170 (by decide) ?_
        have hFc := va_freeAll hD hS hA
        refine va_calli (va_runV (As := [.int (0 : Int32), .int (10 : Int32), .int (6 : Int32), .int (7 : Int32)]) (rest := []) ⟨hx, hb, hml, hown, hts⟩ (c_X6_between l dC dI ad o rw so ba ma cR cJ H.size (stB T0 F_106) (0 : Int32) (10 : Int32) (6 : Int32) (7 : Int32) (inv12 h1 hk)) (cwV 4 hts (gV iX6_between (zin__r6 (.methodLink RL 56 yX6_between) (List.mem_of_getElem? (i := 9) rfl))) rfl rfl rfl (by decide +kernel) ⟨Nat.le_of_ble_eq_true rfl, Nat.le_of_ble_eq_true rfl⟩) ⟨fun a U g mk q => ⟨q.1, cB_bl q.2⟩, cW_rv hw, fun U hU hW => ⟨rfl, cB_mv hw hD (kA_in hkA hS hFc) hU hW⟩⟩ rfl rfl hl.1 rfl (lv_room (Nat.le_of_ble_eq_true rfl)) dL_isHeld_172 ⟨Nat.le_of_ble_eq_true rfl, Nat.le_of_ble_eq_true rfl⟩) hS (fun q _ h => hFc q h) hFc (fun r_172 S_172 t H1 locs ht hvm hw1 hB hz1 hk1 hS => ?_)
        obtain ⟨hP, -, hD1⟩ := hB
        rw [ht] at hP
        have hD := hD1.weaken (fun k q _ h => hFc q.1 h)
        generalize H1 = H at hP hS ⊢
        obtain ⟨rfl, rfl⟩ : r_172 = (3 : Int32) ∧ S_172 = stB T0 F_106 := Prod.mk.inj (hw1.trans (between_in (i := 10) (j := 6) (p := 7) h1 hk (by decide) (by decide) (by decide) hu9 hv9 hw9 (q106_10.trans ez) q106_6 q106_7 l1 l2))
        have hw : cH dC dI ad o rw so ba ma cR cJ (stB T0 F_106) s H := ⟨hP, hK⟩
        refine lv_iconst (v := 3) hx hb dL_isHeld_175 (by decide) ?_
        refine lv_icmp_ne (tgt := 183) hx hb dL_isHeld_176 (by decide) (fun c => absurd (show (3 : Int32) = (3 : Int32) from rfl) c) (fun _ => ?_)
        refine lv_iconst (v := 1) hx hb dL_isHeld_179 (by decide) ?_
        refine lv_goto (tgt := 184) hx hb dL_isHeld_180 (by decide) ?_
        refine W.widen (k := 4) (n := 12) (Nat.le_of_ble_eq_true rfl) (Nat.le_of_ble_eq_true rfl) ?_
        exact W.zret hx hb hr rfl (fun t ht hW => ⟨⟨_, stB T0 F_106, rfl, ⟨rfl, F_106, q106_0, q106_1, rfl⟩, by rw [ht]; exact hP, va_K.moved hW.alike hK, hD⟩, hS.F ht⟩) hS.2.2 dL_isHeld_184
    · have hyn : ¬ y = knan k := fun e => by rw [if_pos e] at c_71; exact absurd c_71 (by decide)
      refine lv_iload_n hx hb dL_isHeld_74 rfl (lv_at hl 2 rfl) ?_
      refine lv_iconst (v := 3) hx hb dL_isHeld_75 (by decide) ?_
      refine lv_icmp_ne (tgt := 99) hx hb dL_isHeld_76 (by decide) (fun c_76 => ?_) (fun c_76 => ?_)
      · have hm3 : ¬ mw = 3 := fun e => c_76 (by rw [e]; rfl)
        refine lv_iconst (v := 0) hx hb dL_isHeld_99 (by decide) ?_
        refine lv_istore_n (lv' := [(3, .int (0 : Int32)), (2, .int (f_X1_sortOf k V_54)), (0, .ref o), (1, .int (nI mw))]) hx hb dL_isHeld_100 rfl hl (by decide) rfl (fun ls hl => ?_)
        refine lv_aload_n hx hb dL_isHeld_101 rfl (lv_at hl 2 rfl) ?_
        refine lv_iconst (v := 0) hx hb dL_isHeld_102 (by decide) ?_
        refine lv_iconst (v := 3) hx hb dL_isHeld_103 (by decide) ?_
        refine lv_iconst (v := 4) hx hb dL_isHeld_104 (by decide) ?_
        refine lv_iload_n hx hb dL_isHeld_105 rfl (lv_at hl 3 rfl) ?_
        have hFc := va_freeAll hD hS hA
        refine va_calli (va_runV (As := [.int (0 : Int32), .int (3 : Int32), .int (4 : Int32), .int (nI mw)]) (rest := []) ⟨hx, hb, hml, hown, hts⟩ (c_X6_interval l dC dI ad o rw so ba ma cR cJ H.size (stB T0 F_54) (0 : Int32) (3 : Int32) (4 : Int32) (nI mw) (inv12 h1 hk)) (cwV 4 hts (gV iX6_interval (zin__r12 (.methodLink RL 75 yX6_interval) (List.mem_of_getElem? (i := 18) rfl))) rfl rfl rfl (by decide +kernel) ⟨Nat.le_of_ble_eq_true rfl, Nat.le_of_ble_eq_true rfl⟩) ⟨fun a U g mk q => ⟨q.1, cB_bl q.2⟩, cW_rv hw, fun U hU hW => ⟨rfl, cB_mv hw hD (kA_in hkA hS hFc) hU hW⟩⟩ rfl rfl hl.1 rfl (lv_room (Nat.le_of_ble_eq_true rfl)) dL_isHeld_106 ⟨Nat.le_of_ble_eq_true rfl, Nat.le_of_ble_eq_true rfl⟩) hS (fun q _ h => hFc q h) hFc (fun r_106 S_106 t H1 locs ht hvm hw1 hB hz1 hk1 hS => ?_)
        obtain ⟨hP, -, hD1⟩ := hB
        rw [ht] at hP
        have hD := hD1.weaken (fun k q _ h => hFc q.1 h)
        generalize H1 = H at hP hS ⊢
        obtain ⟨a_106, hi_106, s9, t9, u9, v9, hu9, hv9, ea9, hlt9, hin9⟩ := interval_at (m := mw) h1 hk hm q54_6 q54_7 q54_8 q54_9 cx cy
        subst ea9
        obtain ⟨F_106, eF_106⟩ : ∃ z, z = vp_updL (vp_updL F_54 6 (enc k s9 u9)) 7 (enc k t9 v9) := ⟨_, rfl⟩
        obtain ⟨rfl, rfl⟩ : r_106 = anyI k x y mw ∧ S_106 = stB T0 F_106 := by rw [eF_106]; exact Prod.mk.inj (hw1.trans hi_106)
        have q106_0 : F_106 0 = x := by rw [eF_106, updL_ne (by decide), updL_ne (by decide)]; exact q54_0
        have q106_1 : F_106 1 = y := by rw [eF_106, updL_ne (by decide), updL_ne (by decide)]; exact q54_1
        have q106_8 : F_106 8 = y := by rw [eF_106, updL_ne (by decide), updL_ne (by decide)]; exact q54_8
        have q106_9 : F_106 9 = y := by rw [eF_106, updL_ne (by decide), updL_ne (by decide)]; exact q54_9
        have q106_10 : F_106 10 = V_54 := by rw [eF_106, updL_ne (by decide), updL_ne (by decide)]; exact q54_10
        have q106_7 : F_106 7 = enc k t9 v9 := by rw [eF_106]; exact updL_eq
        have q106_6 : F_106 6 = enc k s9 u9 := by rw [eF_106, updL_ne (by decide)]; exact updL_eq
        have hw : cH dC dI ad o rw so ba ma cR cJ (stB T0 F_106) s H := ⟨hP, hK⟩
        refine lv_istore (lv' := [(4, .int (anyI k x y mw)), (3, .int (0 : Int32)), (2, .int (f_X1_sortOf k V_54)), (0, .ref o), (1, .int (nI mw))]) hx hb dL_isHeld_109 hl (by decide) rfl (fun ls hl => ?_)
        refine lv_iload hx hb dL_isHeld_111 (lv_at hl 0 rfl) ?_
        refine lv_iload_n hx hb dL_isHeld_113 rfl (lv_at hl 1 rfl) ?_
        refine lv_if_eq (tgt := 121) hx hb dL_isHeld_114 (by decide) (fun _ => ?_) (fun c => absurd (show (0 : Int32) = 0 from by decide) c)
        refine lv_iconst (v := 0) hx hb dL_isHeld_121 (by decide) ?_
        refine lv_icmp_ne (tgt := 157) hx hb dL_isHeld_122 (by decide) (fun c => absurd (show (anyI k x y mw) = (0 : Int32) from if_neg (fun hh => by
            rcases hh with hh | hh | ⟨hh, -⟩
            · exact hxn hh
            · exact hyn hh
            · exact hm3 hh)) c) (fun _ => ?_)
        refine lv_aload_n hx hb dL_isHeld_125 rfl (lv_at hl 3 rfl) ?_
        refine lv_bipush (v := 6) hx hb dL_isHeld_126 (by decide) ?_
        have hFc := va_freeAll hD hS hA
        refine va_calli (va_runS (As := [.ref o, .int (6 : Int32)]) (rest := []) ⟨hx, hb, hml, hown, hts⟩ (c_L_isNone l dC dI ad o rw so ba ma cR cJ H.size T0 k F_106 hk h1 (6 : Int32) 6 rfl (by decide) (enc k s9 u9) q106_6 (kcn_enc hk hu9)) (va_cwS 2 hts (gS iL_isNone (zin__r12 (.methodLink RL 72 yL_isNone) (List.mem_of_getElem? (i := 15) rfl))) rfl rfl rfl (by decide +kernel) ⟨Nat.le_of_ble_eq_true rfl, Nat.le_of_ble_eq_true rfl⟩) ⟨fun a U g mk q => ⟨q.1, cB_bl q.2⟩, fun U hU hW => ⟨rfl, cB_mv hw hD (kA_in hkA hS hFc) hU hW⟩⟩ rfl rfl hl.1 rfl (lv_room (Nat.le_of_ble_eq_true rfl)) dL_isHeld_128 ⟨Nat.le_of_ble_eq_true rfl, Nat.le_of_ble_eq_true rfl⟩) hS (fun q _ h => hFc q h) hFc (fun r_128 S_128 t H1 locs ht hvm hw1 hB hz1 hk1 hS => ?_)
        obtain ⟨hP, -, hD1⟩ := hB
        rw [ht] at hP
        have hD := hD1.weaken (fun k q _ h => hFc q.1 h)
        generalize H1 = H at hP hS ⊢
        obtain ⟨rfl, rfl⟩ := hw1
        have hw : cH dC dI ad o rw so ba ma cR cJ (stB T0 F_106) s H := ⟨hP, hK⟩
        refine lv_if_ne (tgt := 157) hx hb dL_isHeld_131 (by decide) (fun c => absurd (show (if (enc k s9 u9) = knan k then (1 : Int32) else 0) = 0 from if_neg (enc_ne_nan hk hu9)) c) (fun _ => ?_)
        refine lv_aload_n hx hb dL_isHeld_134 rfl (lv_at hl 3 rfl) ?_
        refine lv_bipush (v := 7) hx hb dL_isHeld_135 (by decide) ?_
        have hFc := va_freeAll hD hS hA
        refine va_calli (va_runS (As := [.ref o, .int (7 : Int32)]) (rest := []) ⟨hx, hb, hml, hown, hts⟩ (c_L_isNone l dC dI ad o rw so ba ma cR cJ H.size T0 k F_106 hk h1 (7 : Int32) 7 rfl (by decide) (enc k t9 v9) q106_7 (kcn_enc hk hv9)) (va_cwS 2 hts (gS iL_isNone (zin__r12 (.methodLink RL 72 yL_isNone) (List.mem_of_getElem? (i := 15) rfl))) rfl rfl rfl (by decide +kernel) ⟨Nat.le_of_ble_eq_true rfl, Nat.le_of_ble_eq_true rfl⟩) ⟨fun a U g mk q => ⟨q.1, cB_bl q.2⟩, fun U hU hW => ⟨rfl, cB_mv hw hD (kA_in hkA hS hFc) hU hW⟩⟩ rfl rfl hl.1 rfl (lv_room (Nat.le_of_ble_eq_true rfl)) dL_isHeld_137 ⟨Nat.le_of_ble_eq_true rfl, Nat.le_of_ble_eq_true rfl⟩) hS (fun q _ h => hFc q h) hFc (fun r_137 S_137 t H1 locs ht hvm hw1 hB hz1 hk1 hS => ?_)
        obtain ⟨hP, -, hD1⟩ := hB
        rw [ht] at hP
        have hD := hD1.weaken (fun k q _ h => hFc q.1 h)
        generalize H1 = H at hP hS ⊢
        obtain ⟨rfl, rfl⟩ := hw1
        have hw : cH dC dI ad o rw so ba ma cR cJ (stB T0 F_106) s H := ⟨hP, hK⟩
        refine lv_if_ne (tgt := 157) hx hb dL_isHeld_140 (by decide) (fun c => absurd (show (if (enc k t9 v9) = knan k then (1 : Int32) else 0) = 0 from if_neg (enc_ne_nan hk hv9)) c) (fun _ => ?_)
        refine lv_aload_n hx hb dL_isHeld_143 rfl (lv_at hl 3 rfl) ?_
        refine lv_iconst (v := 0) hx hb dL_isHeld_144 (by decide) ?_
        refine lv_bipush (v := 6) hx hb dL_isHeld_145 (by decide) ?_
        refine lv_bipush (v := 7) hx hb dL_isHeld_147 (by decide) ?_
        have hFc := va_freeAll hD hS hA
        refine va_calli (va_runV (As := [.int (0 : Int32), .int (6 : Int32), .int (7 : Int32)]) (rest := []) ⟨hx, hb, hml, hown, hts⟩ (c_X6_compare l dC dI ad o rw so ba ma cR cJ H.size (stB T0 F_106) (0 : Int32) (6 : Int32) (7 : Int32) (inv12 h1 hk)) (cwV 3 hts (gV iX6_compare (zin__r5 (.methodLink RL 7 yX6_compare) (List.mem_of_getElem? (i := 0) rfl))) rfl rfl rfl (by decide +kernel) ⟨Nat.le_of_ble_eq_true rfl, Nat.le_of_ble_eq_true rfl⟩) ⟨fun a U g mk q => ⟨q.1, cB_bl q.2⟩, cW_rv hw, fun U hU hW => ⟨rfl, cB_mv hw hD (kA_in hkA hS hFc) hU hW⟩⟩ rfl rfl hl.1 rfl (lv_room (Nat.le_of_ble_eq_true rfl)) dL_isHeld_149 ⟨Nat.le_of_ble_eq_true rfl, Nat.le_of_ble_eq_true rfl⟩) hS (fun q _ h => hFc q h) hFc (fun r_149 S_149 t H1 locs ht hvm hw1 hB hz1 hk1 hS => ?_)
        obtain ⟨hP, -, hD1⟩ := hB
        rw [ht] at hP
        have hD := hD1.weaken (fun k q _ h => hFc q.1 h)
        generalize H1 = H at hP hS ⊢
        obtain ⟨rfl, rfl⟩ : (f_X1_relations k (enc k s9 u9) (enc k t9 v9)) = r_149 ∧ stB T0 F_106 = S_149 := Prod.mk.inj (hw1.trans (compare_at (i := 6) (j := 7) h1 (by decide) (by decide) q106_6 q106_7)).symm
        have hw : cH dC dI ad o rw so ba ma cR cJ (stB T0 F_106) s H := ⟨hP, hK⟩
        refine lv_bipush (v := 41) hx hb dL_isHeld_152 (by decide) ?_
        refine lv_icmp_eq (tgt := 159) hx hb dL_isHeld_154 (by decide) (fun _ => ?_) (fun c => absurd (show (f_X1_relations k (enc k s9 u9) (enc k t9 v9)) = (41 : Int32) from rel_lt hk hu9 hv9 hlt9) c)
        refine lv_iload_n hx hb dL_isHeld_159 rfl (lv_at hl 2 rfl) ?_
        refine lv_iconst (v := 3) hx hb dL_isHeld_160 (by decide) ?_
        refine lv_icmp_eq (tgt := 179) hx hb dL_isHeld_161 (by decide) (fun c_161 => ?_) (fun c_161 => ?_)
        · refine lv_iconst (v := 1) hx hb dL_isHeld_179 (by decide) ?_
          refine lv_goto (tgt := 184) hx hb dL_isHeld_180 (by decide) ?_
          refine W.widen (k := 4) (n := 12) (Nat.le_of_ble_eq_true rfl) (Nat.le_of_ble_eq_true rfl) ?_
          exact W.zret hx hb hr rfl (fun t ht hW => ⟨⟨_, stB T0 F_106, rfl, ⟨rfl, F_106, q106_0, q106_1, rfl⟩, by rw [ht]; exact hP, va_K.moved hW.alike hK, hD⟩, hS.F ht⟩) hS.2.2 dL_isHeld_184
        · obtain ⟨q9, w9, hw9, ez⟩ := (kcn_cases hk cz).resolve_left (fun e => c_161 ((sort_3 hk cz).mpr e))
          obtain ⟨l1, l2⟩ := hin9 q9 w9 hw9 (eV_54.symm.trans ez)
          refine lv_aload_n hx hb dL_isHeld_164 rfl (lv_at hl 3 rfl) ?_
          refine lv_iconst (v := 0) hx hb dL_isHeld_165 (by decide) ?_
          refine lv_bipush (v := 10) hx hb dL_isHeld_166 (by decide) ?_
          refine lv_bipush (v := 6) hx hb dL_isHeld_168 (by decide) ?_
          refine lv_bipush (v := 7) hx hb dL_isHeld_170 (by decide) ?_
          have hFc := va_freeAll hD hS hA
          refine va_calli (va_runV (As := [.int (0 : Int32), .int (10 : Int32), .int (6 : Int32), .int (7 : Int32)]) (rest := []) ⟨hx, hb, hml, hown, hts⟩ (c_X6_between l dC dI ad o rw so ba ma cR cJ H.size (stB T0 F_106) (0 : Int32) (10 : Int32) (6 : Int32) (7 : Int32) (inv12 h1 hk)) (cwV 4 hts (gV iX6_between (zin__r6 (.methodLink RL 56 yX6_between) (List.mem_of_getElem? (i := 9) rfl))) rfl rfl rfl (by decide +kernel) ⟨Nat.le_of_ble_eq_true rfl, Nat.le_of_ble_eq_true rfl⟩) ⟨fun a U g mk q => ⟨q.1, cB_bl q.2⟩, cW_rv hw, fun U hU hW => ⟨rfl, cB_mv hw hD (kA_in hkA hS hFc) hU hW⟩⟩ rfl rfl hl.1 rfl (lv_room (Nat.le_of_ble_eq_true rfl)) dL_isHeld_172 ⟨Nat.le_of_ble_eq_true rfl, Nat.le_of_ble_eq_true rfl⟩) hS (fun q _ h => hFc q h) hFc (fun r_172 S_172 t H1 locs ht hvm hw1 hB hz1 hk1 hS => ?_)
          obtain ⟨hP, -, hD1⟩ := hB
          rw [ht] at hP
          have hD := hD1.weaken (fun k q _ h => hFc q.1 h)
          generalize H1 = H at hP hS ⊢
          obtain ⟨rfl, rfl⟩ : r_172 = (3 : Int32) ∧ S_172 = stB T0 F_106 := Prod.mk.inj (hw1.trans (between_in (i := 10) (j := 6) (p := 7) h1 hk (by decide) (by decide) (by decide) hu9 hv9 hw9 (q106_10.trans ez) q106_6 q106_7 l1 l2))
          have hw : cH dC dI ad o rw so ba ma cR cJ (stB T0 F_106) s H := ⟨hP, hK⟩
          refine lv_iconst (v := 3) hx hb dL_isHeld_175 (by decide) ?_
          refine lv_icmp_ne (tgt := 183) hx hb dL_isHeld_176 (by decide) (fun c => absurd (show (3 : Int32) = (3 : Int32) from rfl) c) (fun _ => ?_)
          refine lv_iconst (v := 1) hx hb dL_isHeld_179 (by decide) ?_
          refine lv_goto (tgt := 184) hx hb dL_isHeld_180 (by decide) ?_
          refine W.widen (k := 4) (n := 12) (Nat.le_of_ble_eq_true rfl) (Nat.le_of_ble_eq_true rfl) ?_
          exact W.zret hx hb hr rfl (fun t ht hW => ⟨⟨_, stB T0 F_106, rfl, ⟨rfl, F_106, q106_0, q106_1, rfl⟩, by rw [ht]; exact hP, va_K.moved hW.alike hK, hD⟩, hS.F ht⟩) hS.2.2 dL_isHeld_184
      · have hm3 : mw = 3 := by have h := congrArg Int32.toInt c_76; rw [nI_toInt (by omega), show (3 : Int32).toInt = 3 by decide] at h; omega
        obtain ⟨t0, v0, hv0, ey⟩ := (kcn_cases hk cy).resolve_left hyn
        refine lv_aload_n hx hb dL_isHeld_79 rfl (lv_at hl 1 rfl) ?_
        refine lv_iconst (v := 0) hx hb dL_isHeld_80 (by decide) ?_
        refine lv_bipush (v := 6) hx hb dL_isHeld_81 (by decide) ?_
        refine lv_iconst (v := 1) hx hb dL_isHeld_83 (by decide) ?_
        refine lv_iconst (v := 1) hx hb dL_isHeld_84 (by decide) ?_
        refine lv_bipush (v := 11) hx hb dL_isHeld_85 (by decide) ?_
        have hFc := va_freeAll hD hS hA
        refine va_calli (va_runV (As := [.int (0 : Int32), .int (6 : Int32), .int (1 : Int32), .int (1 : Int32), .int (11 : Int32)]) (rest := []) ⟨hx, hb, hml, hown, hts⟩ (c_X6_act l dC dI ad o rw so ba ma cR cJ H.size (stB T0 F_54) (0 : Int32) (6 : Int32) (1 : Int32) (1 : Int32) (11 : Int32) (inv12 h1 hk)) (cwV 5 hts (gV iX6_act (zin__r7 (.methodLink RL 64 yX6_act) (List.mem_of_getElem? (i := 6) rfl))) rfl rfl rfl (by decide +kernel) ⟨Nat.le_of_ble_eq_true rfl, Nat.le_of_ble_eq_true rfl⟩) ⟨fun a U g mk q => ⟨q.1, cB_bl q.2⟩, cW_rv hw, fun U hU hW => ⟨rfl, cB_mv hw hD (kA_in hkA hS hFc) hU hW⟩⟩ rfl rfl hl.1 rfl (lv_room (Nat.le_of_ble_eq_true rfl)) dL_isHeld_87 ⟨Nat.le_of_ble_eq_true rfl, Nat.le_of_ble_eq_true rfl⟩) hS (fun q _ h => hFc q h) hFc (fun r_87 S_87 t H1 locs ht hvm hw1 hB hz1 hk1 hS => ?_)
        obtain ⟨hP, -, hD1⟩ := hB
        rw [ht] at hP
        have hD := hD1.weaken (fun k q _ h => hFc q.1 h)
        generalize H1 = H at hP hS ⊢
        obtain ⟨V_87, eV_87⟩ : ∃ z, z = f_X2_acted k (6 : Int32) y y := ⟨_, rfl⟩
        obtain ⟨F_87, eF_87⟩ : ∃ z, z = vp_updL F_54 11 V_87 := ⟨_, rfl⟩
        obtain ⟨rfl, rfl⟩ : r_87 = f_X1_sortOf k V_87 ∧ S_87 = stB T0 F_87 := by rw [eF_87, eV_87]; exact Prod.mk.inj (hw1.trans (act_at (m := 6) (i := 1) (j := 1) (n := 11) h1 (by decide) (by decide) (by decide) (by decide) q54_1 q54_1))
        have q87_0 : F_87 0 = x := by rw [eF_87, updL_ne (by decide)]; exact q54_0
        have q87_1 : F_87 1 = y := by rw [eF_87, updL_ne (by decide)]; exact q54_1
        have q87_6 : F_87 6 = x := by rw [eF_87, updL_ne (by decide)]; exact q54_6
        have q87_7 : F_87 7 = x := by rw [eF_87, updL_ne (by decide)]; exact q54_7
        have q87_8 : F_87 8 = y := by rw [eF_87, updL_ne (by decide)]; exact q54_8
        have q87_9 : F_87 9 = y := by rw [eF_87, updL_ne (by decide)]; exact q54_9
        have q87_10 : F_87 10 = V_54 := by rw [eF_87, updL_ne (by decide)]; exact q54_10
        have q87_11 : F_87 11 = V_87 := by rw [eF_87]; exact updL_eq
        have hw : cH dC dI ad o rw so ba ma cR cJ (stB T0 F_87) s H := ⟨hP, hK⟩
        refine lv_iconst (v := 3) hx hb dL_isHeld_90 (by decide) ?_
        refine lv_iand hx hb dL_isHeld_91 ?_
        refine lv_if_ne (tgt := 99) hx hb dL_isHeld_92 (by decide) (fun c_92 => ?_) (fun c_92 => ?_)
        · have h6 : f_X1_sortOf k V_87 &&& (3 : Int32) = 0 ↔ v0 = 0 := by rw [eV_87, ey]; exact a6_zero hk hv0
          have hz : ¬ v0 = 0 := fun e => c_92 (h6.mpr e)
          refine lv_iconst (v := 0) hx hb dL_isHeld_99 (by decide) ?_
          refine lv_istore_n (lv' := [(3, .int (0 : Int32)), (2, .int (f_X1_sortOf k V_54)), (0, .ref o), (1, .int (nI mw))]) hx hb dL_isHeld_100 rfl hl (by decide) rfl (fun ls hl => ?_)
          refine lv_aload_n hx hb dL_isHeld_101 rfl (lv_at hl 2 rfl) ?_
          refine lv_iconst (v := 0) hx hb dL_isHeld_102 (by decide) ?_
          refine lv_iconst (v := 3) hx hb dL_isHeld_103 (by decide) ?_
          refine lv_iconst (v := 4) hx hb dL_isHeld_104 (by decide) ?_
          refine lv_iload_n hx hb dL_isHeld_105 rfl (lv_at hl 3 rfl) ?_
          have hFc := va_freeAll hD hS hA
          refine va_calli (va_runV (As := [.int (0 : Int32), .int (3 : Int32), .int (4 : Int32), .int (nI mw)]) (rest := []) ⟨hx, hb, hml, hown, hts⟩ (c_X6_interval l dC dI ad o rw so ba ma cR cJ H.size (stB T0 F_87) (0 : Int32) (3 : Int32) (4 : Int32) (nI mw) (inv12 h1 hk)) (cwV 4 hts (gV iX6_interval (zin__r12 (.methodLink RL 75 yX6_interval) (List.mem_of_getElem? (i := 18) rfl))) rfl rfl rfl (by decide +kernel) ⟨Nat.le_of_ble_eq_true rfl, Nat.le_of_ble_eq_true rfl⟩) ⟨fun a U g mk q => ⟨q.1, cB_bl q.2⟩, cW_rv hw, fun U hU hW => ⟨rfl, cB_mv hw hD (kA_in hkA hS hFc) hU hW⟩⟩ rfl rfl hl.1 rfl (lv_room (Nat.le_of_ble_eq_true rfl)) dL_isHeld_106 ⟨Nat.le_of_ble_eq_true rfl, Nat.le_of_ble_eq_true rfl⟩) hS (fun q _ h => hFc q h) hFc (fun r_106 S_106 t H1 locs ht hvm hw1 hB hz1 hk1 hS => ?_)
          obtain ⟨hP, -, hD1⟩ := hB
          rw [ht] at hP
          have hD := hD1.weaken (fun k q _ h => hFc q.1 h)
          generalize H1 = H at hP hS ⊢
          obtain ⟨a_106, hi_106, s9, t9, u9, v9, hu9, hv9, ea9, hlt9, hin9⟩ := interval_at (m := mw) h1 hk hm q87_6 q87_7 q87_8 q87_9 cx cy
          subst ea9
          obtain ⟨F_106, eF_106⟩ : ∃ z, z = vp_updL (vp_updL F_87 6 (enc k s9 u9)) 7 (enc k t9 v9) := ⟨_, rfl⟩
          obtain ⟨rfl, rfl⟩ : r_106 = anyI k x y mw ∧ S_106 = stB T0 F_106 := by rw [eF_106]; exact Prod.mk.inj (hw1.trans hi_106)
          have q106_0 : F_106 0 = x := by rw [eF_106, updL_ne (by decide), updL_ne (by decide)]; exact q87_0
          have q106_1 : F_106 1 = y := by rw [eF_106, updL_ne (by decide), updL_ne (by decide)]; exact q87_1
          have q106_8 : F_106 8 = y := by rw [eF_106, updL_ne (by decide), updL_ne (by decide)]; exact q87_8
          have q106_9 : F_106 9 = y := by rw [eF_106, updL_ne (by decide), updL_ne (by decide)]; exact q87_9
          have q106_10 : F_106 10 = V_54 := by rw [eF_106, updL_ne (by decide), updL_ne (by decide)]; exact q87_10
          have q106_11 : F_106 11 = V_87 := by rw [eF_106, updL_ne (by decide), updL_ne (by decide)]; exact q87_11
          have q106_7 : F_106 7 = enc k t9 v9 := by rw [eF_106]; exact updL_eq
          have q106_6 : F_106 6 = enc k s9 u9 := by rw [eF_106, updL_ne (by decide)]; exact updL_eq
          have hw : cH dC dI ad o rw so ba ma cR cJ (stB T0 F_106) s H := ⟨hP, hK⟩
          refine lv_istore (lv' := [(4, .int (anyI k x y mw)), (3, .int (0 : Int32)), (2, .int (f_X1_sortOf k V_54)), (0, .ref o), (1, .int (nI mw))]) hx hb dL_isHeld_109 hl (by decide) rfl (fun ls hl => ?_)
          refine lv_iload hx hb dL_isHeld_111 (lv_at hl 0 rfl) ?_
          refine lv_iload_n hx hb dL_isHeld_113 rfl (lv_at hl 1 rfl) ?_
          refine lv_if_eq (tgt := 121) hx hb dL_isHeld_114 (by decide) (fun _ => ?_) (fun c => absurd (show (0 : Int32) = 0 from by decide) c)
          refine lv_iconst (v := 0) hx hb dL_isHeld_121 (by decide) ?_
          refine lv_icmp_ne (tgt := 157) hx hb dL_isHeld_122 (by decide) (fun c => absurd (show (anyI k x y mw) = (0 : Int32) from if_neg (fun hh => by
              rcases hh with hh | hh | ⟨-, t', hh⟩
              · exact hxn hh
              · exact hyn hh
              · rw [ey] at hh; exact hz ((enc_inj hk (kw hk hv0) (Nat.two_pow_pos _)).mp hh).2)) c) (fun _ => ?_)
          refine lv_aload_n hx hb dL_isHeld_125 rfl (lv_at hl 3 rfl) ?_
          refine lv_bipush (v := 6) hx hb dL_isHeld_126 (by decide) ?_
          have hFc := va_freeAll hD hS hA
          refine va_calli (va_runS (As := [.ref o, .int (6 : Int32)]) (rest := []) ⟨hx, hb, hml, hown, hts⟩ (c_L_isNone l dC dI ad o rw so ba ma cR cJ H.size T0 k F_106 hk h1 (6 : Int32) 6 rfl (by decide) (enc k s9 u9) q106_6 (kcn_enc hk hu9)) (va_cwS 2 hts (gS iL_isNone (zin__r12 (.methodLink RL 72 yL_isNone) (List.mem_of_getElem? (i := 15) rfl))) rfl rfl rfl (by decide +kernel) ⟨Nat.le_of_ble_eq_true rfl, Nat.le_of_ble_eq_true rfl⟩) ⟨fun a U g mk q => ⟨q.1, cB_bl q.2⟩, fun U hU hW => ⟨rfl, cB_mv hw hD (kA_in hkA hS hFc) hU hW⟩⟩ rfl rfl hl.1 rfl (lv_room (Nat.le_of_ble_eq_true rfl)) dL_isHeld_128 ⟨Nat.le_of_ble_eq_true rfl, Nat.le_of_ble_eq_true rfl⟩) hS (fun q _ h => hFc q h) hFc (fun r_128 S_128 t H1 locs ht hvm hw1 hB hz1 hk1 hS => ?_)
          obtain ⟨hP, -, hD1⟩ := hB
          rw [ht] at hP
          have hD := hD1.weaken (fun k q _ h => hFc q.1 h)
          generalize H1 = H at hP hS ⊢
          obtain ⟨rfl, rfl⟩ := hw1
          have hw : cH dC dI ad o rw so ba ma cR cJ (stB T0 F_106) s H := ⟨hP, hK⟩
          refine lv_if_ne (tgt := 157) hx hb dL_isHeld_131 (by decide) (fun c => absurd (show (if (enc k s9 u9) = knan k then (1 : Int32) else 0) = 0 from if_neg (enc_ne_nan hk hu9)) c) (fun _ => ?_)
          refine lv_aload_n hx hb dL_isHeld_134 rfl (lv_at hl 3 rfl) ?_
          refine lv_bipush (v := 7) hx hb dL_isHeld_135 (by decide) ?_
          have hFc := va_freeAll hD hS hA
          refine va_calli (va_runS (As := [.ref o, .int (7 : Int32)]) (rest := []) ⟨hx, hb, hml, hown, hts⟩ (c_L_isNone l dC dI ad o rw so ba ma cR cJ H.size T0 k F_106 hk h1 (7 : Int32) 7 rfl (by decide) (enc k t9 v9) q106_7 (kcn_enc hk hv9)) (va_cwS 2 hts (gS iL_isNone (zin__r12 (.methodLink RL 72 yL_isNone) (List.mem_of_getElem? (i := 15) rfl))) rfl rfl rfl (by decide +kernel) ⟨Nat.le_of_ble_eq_true rfl, Nat.le_of_ble_eq_true rfl⟩) ⟨fun a U g mk q => ⟨q.1, cB_bl q.2⟩, fun U hU hW => ⟨rfl, cB_mv hw hD (kA_in hkA hS hFc) hU hW⟩⟩ rfl rfl hl.1 rfl (lv_room (Nat.le_of_ble_eq_true rfl)) dL_isHeld_137 ⟨Nat.le_of_ble_eq_true rfl, Nat.le_of_ble_eq_true rfl⟩) hS (fun q _ h => hFc q h) hFc (fun r_137 S_137 t H1 locs ht hvm hw1 hB hz1 hk1 hS => ?_)
          obtain ⟨hP, -, hD1⟩ := hB
          rw [ht] at hP
          have hD := hD1.weaken (fun k q _ h => hFc q.1 h)
          generalize H1 = H at hP hS ⊢
          obtain ⟨rfl, rfl⟩ := hw1
          have hw : cH dC dI ad o rw so ba ma cR cJ (stB T0 F_106) s H := ⟨hP, hK⟩
          refine lv_if_ne (tgt := 157) hx hb dL_isHeld_140 (by decide) (fun c => absurd (show (if (enc k t9 v9) = knan k then (1 : Int32) else 0) = 0 from if_neg (enc_ne_nan hk hv9)) c) (fun _ => ?_)
          refine lv_aload_n hx hb dL_isHeld_143 rfl (lv_at hl 3 rfl) ?_
          refine lv_iconst (v := 0) hx hb dL_isHeld_144 (by decide) ?_
          refine lv_bipush (v := 6) hx hb dL_isHeld_145 (by decide) ?_
          refine lv_bipush (v := 7) hx hb dL_isHeld_147 (by decide) ?_
          have hFc := va_freeAll hD hS hA
          refine va_calli (va_runV (As := [.int (0 : Int32), .int (6 : Int32), .int (7 : Int32)]) (rest := []) ⟨hx, hb, hml, hown, hts⟩ (c_X6_compare l dC dI ad o rw so ba ma cR cJ H.size (stB T0 F_106) (0 : Int32) (6 : Int32) (7 : Int32) (inv12 h1 hk)) (cwV 3 hts (gV iX6_compare (zin__r5 (.methodLink RL 7 yX6_compare) (List.mem_of_getElem? (i := 0) rfl))) rfl rfl rfl (by decide +kernel) ⟨Nat.le_of_ble_eq_true rfl, Nat.le_of_ble_eq_true rfl⟩) ⟨fun a U g mk q => ⟨q.1, cB_bl q.2⟩, cW_rv hw, fun U hU hW => ⟨rfl, cB_mv hw hD (kA_in hkA hS hFc) hU hW⟩⟩ rfl rfl hl.1 rfl (lv_room (Nat.le_of_ble_eq_true rfl)) dL_isHeld_149 ⟨Nat.le_of_ble_eq_true rfl, Nat.le_of_ble_eq_true rfl⟩) hS (fun q _ h => hFc q h) hFc (fun r_149 S_149 t H1 locs ht hvm hw1 hB hz1 hk1 hS => ?_)
          obtain ⟨hP, -, hD1⟩ := hB
          rw [ht] at hP
          have hD := hD1.weaken (fun k q _ h => hFc q.1 h)
          generalize H1 = H at hP hS ⊢
          obtain ⟨rfl, rfl⟩ : (f_X1_relations k (enc k s9 u9) (enc k t9 v9)) = r_149 ∧ stB T0 F_106 = S_149 := Prod.mk.inj (hw1.trans (compare_at (i := 6) (j := 7) h1 (by decide) (by decide) q106_6 q106_7)).symm
          have hw : cH dC dI ad o rw so ba ma cR cJ (stB T0 F_106) s H := ⟨hP, hK⟩
          refine lv_bipush (v := 41) hx hb dL_isHeld_152 (by decide) ?_
          refine lv_icmp_eq (tgt := 159) hx hb dL_isHeld_154 (by decide) (fun _ => ?_) (fun c => absurd (show (f_X1_relations k (enc k s9 u9) (enc k t9 v9)) = (41 : Int32) from rel_lt hk hu9 hv9 hlt9) c)
          refine lv_iload_n hx hb dL_isHeld_159 rfl (lv_at hl 2 rfl) ?_
          refine lv_iconst (v := 3) hx hb dL_isHeld_160 (by decide) ?_
          refine lv_icmp_eq (tgt := 179) hx hb dL_isHeld_161 (by decide) (fun c_161 => ?_) (fun c_161 => ?_)
          · refine lv_iconst (v := 1) hx hb dL_isHeld_179 (by decide) ?_
            refine lv_goto (tgt := 184) hx hb dL_isHeld_180 (by decide) ?_
            refine W.widen (k := 4) (n := 12) (Nat.le_of_ble_eq_true rfl) (Nat.le_of_ble_eq_true rfl) ?_
            exact W.zret hx hb hr rfl (fun t ht hW => ⟨⟨_, stB T0 F_106, rfl, ⟨rfl, F_106, q106_0, q106_1, rfl⟩, by rw [ht]; exact hP, va_K.moved hW.alike hK, hD⟩, hS.F ht⟩) hS.2.2 dL_isHeld_184
          · obtain ⟨q9, w9, hw9, ez⟩ := (kcn_cases hk cz).resolve_left (fun e => c_161 ((sort_3 hk cz).mpr e))
            obtain ⟨l1, l2⟩ := hin9 q9 w9 hw9 (eV_54.symm.trans ez)
            refine lv_aload_n hx hb dL_isHeld_164 rfl (lv_at hl 3 rfl) ?_
            refine lv_iconst (v := 0) hx hb dL_isHeld_165 (by decide) ?_
            refine lv_bipush (v := 10) hx hb dL_isHeld_166 (by decide) ?_
            refine lv_bipush (v := 6) hx hb dL_isHeld_168 (by decide) ?_
            refine lv_bipush (v := 7) hx hb dL_isHeld_170 (by decide) ?_
            have hFc := va_freeAll hD hS hA
            refine va_calli (va_runV (As := [.int (0 : Int32), .int (10 : Int32), .int (6 : Int32), .int (7 : Int32)]) (rest := []) ⟨hx, hb, hml, hown, hts⟩ (c_X6_between l dC dI ad o rw so ba ma cR cJ H.size (stB T0 F_106) (0 : Int32) (10 : Int32) (6 : Int32) (7 : Int32) (inv12 h1 hk)) (cwV 4 hts (gV iX6_between (zin__r6 (.methodLink RL 56 yX6_between) (List.mem_of_getElem? (i := 9) rfl))) rfl rfl rfl (by decide +kernel) ⟨Nat.le_of_ble_eq_true rfl, Nat.le_of_ble_eq_true rfl⟩) ⟨fun a U g mk q => ⟨q.1, cB_bl q.2⟩, cW_rv hw, fun U hU hW => ⟨rfl, cB_mv hw hD (kA_in hkA hS hFc) hU hW⟩⟩ rfl rfl hl.1 rfl (lv_room (Nat.le_of_ble_eq_true rfl)) dL_isHeld_172 ⟨Nat.le_of_ble_eq_true rfl, Nat.le_of_ble_eq_true rfl⟩) hS (fun q _ h => hFc q h) hFc (fun r_172 S_172 t H1 locs ht hvm hw1 hB hz1 hk1 hS => ?_)
            obtain ⟨hP, -, hD1⟩ := hB
            rw [ht] at hP
            have hD := hD1.weaken (fun k q _ h => hFc q.1 h)
            generalize H1 = H at hP hS ⊢
            obtain ⟨rfl, rfl⟩ : r_172 = (3 : Int32) ∧ S_172 = stB T0 F_106 := Prod.mk.inj (hw1.trans (between_in (i := 10) (j := 6) (p := 7) h1 hk (by decide) (by decide) (by decide) hu9 hv9 hw9 (q106_10.trans ez) q106_6 q106_7 l1 l2))
            have hw : cH dC dI ad o rw so ba ma cR cJ (stB T0 F_106) s H := ⟨hP, hK⟩
            refine lv_iconst (v := 3) hx hb dL_isHeld_175 (by decide) ?_
            refine lv_icmp_ne (tgt := 183) hx hb dL_isHeld_176 (by decide) (fun c => absurd (show (3 : Int32) = (3 : Int32) from rfl) c) (fun _ => ?_)
            refine lv_iconst (v := 1) hx hb dL_isHeld_179 (by decide) ?_
            refine lv_goto (tgt := 184) hx hb dL_isHeld_180 (by decide) ?_
            refine W.widen (k := 4) (n := 12) (Nat.le_of_ble_eq_true rfl) (Nat.le_of_ble_eq_true rfl) ?_
            exact W.zret hx hb hr rfl (fun t ht hW => ⟨⟨_, stB T0 F_106, rfl, ⟨rfl, F_106, q106_0, q106_1, rfl⟩, by rw [ht]; exact hP, va_K.moved hW.alike hK, hD⟩, hS.F ht⟩) hS.2.2 dL_isHeld_184
        · have h6 : f_X1_sortOf k V_87 &&& (3 : Int32) = 0 ↔ v0 = 0 := by rw [eV_87, ey]; exact a6_zero hk hv0
          have hz := h6.mp c_92
          subst hz
          refine lv_iconst (v := 1) hx hb dL_isHeld_95 (by decide) ?_
          refine lv_goto (tgt := 100) hx hb dL_isHeld_96 (by decide) ?_
          refine lv_istore_n (lv' := [(3, .int (1 : Int32)), (2, .int (f_X1_sortOf k V_54)), (0, .ref o), (1, .int (nI mw))]) hx hb dL_isHeld_100 rfl hl (by decide) rfl (fun ls hl => ?_)
          refine lv_aload_n hx hb dL_isHeld_101 rfl (lv_at hl 2 rfl) ?_
          refine lv_iconst (v := 0) hx hb dL_isHeld_102 (by decide) ?_
          refine lv_iconst (v := 3) hx hb dL_isHeld_103 (by decide) ?_
          refine lv_iconst (v := 4) hx hb dL_isHeld_104 (by decide) ?_
          refine lv_iload_n hx hb dL_isHeld_105 rfl (lv_at hl 3 rfl) ?_
          have hFc := va_freeAll hD hS hA
          refine va_calli (va_runV (As := [.int (0 : Int32), .int (3 : Int32), .int (4 : Int32), .int (nI mw)]) (rest := []) ⟨hx, hb, hml, hown, hts⟩ (c_X6_interval l dC dI ad o rw so ba ma cR cJ H.size (stB T0 F_87) (0 : Int32) (3 : Int32) (4 : Int32) (nI mw) (inv12 h1 hk)) (cwV 4 hts (gV iX6_interval (zin__r12 (.methodLink RL 75 yX6_interval) (List.mem_of_getElem? (i := 18) rfl))) rfl rfl rfl (by decide +kernel) ⟨Nat.le_of_ble_eq_true rfl, Nat.le_of_ble_eq_true rfl⟩) ⟨fun a U g mk q => ⟨q.1, cB_bl q.2⟩, cW_rv hw, fun U hU hW => ⟨rfl, cB_mv hw hD (kA_in hkA hS hFc) hU hW⟩⟩ rfl rfl hl.1 rfl (lv_room (Nat.le_of_ble_eq_true rfl)) dL_isHeld_106 ⟨Nat.le_of_ble_eq_true rfl, Nat.le_of_ble_eq_true rfl⟩) hS (fun q _ h => hFc q h) hFc (fun r_106 S_106 t H1 locs ht hvm hw1 hB hz1 hk1 hS => ?_)
          obtain ⟨hP, -, hD1⟩ := hB
          rw [ht] at hP
          have hD := hD1.weaken (fun k q _ h => hFc q.1 h)
          generalize H1 = H at hP hS ⊢
          obtain ⟨a_106, hi_106, s9, t9, u9, v9, hu9, hv9, ea9, hlt9, hin9⟩ := interval_at (m := mw) h1 hk hm q87_6 q87_7 q87_8 q87_9 cx cy
          subst ea9
          obtain ⟨F_106, eF_106⟩ : ∃ z, z = vp_updL (vp_updL F_87 6 (enc k s9 u9)) 7 (enc k t9 v9) := ⟨_, rfl⟩
          obtain ⟨rfl, rfl⟩ : r_106 = anyI k x y mw ∧ S_106 = stB T0 F_106 := by rw [eF_106]; exact Prod.mk.inj (hw1.trans hi_106)
          have q106_0 : F_106 0 = x := by rw [eF_106, updL_ne (by decide), updL_ne (by decide)]; exact q87_0
          have q106_1 : F_106 1 = y := by rw [eF_106, updL_ne (by decide), updL_ne (by decide)]; exact q87_1
          have q106_8 : F_106 8 = y := by rw [eF_106, updL_ne (by decide), updL_ne (by decide)]; exact q87_8
          have q106_9 : F_106 9 = y := by rw [eF_106, updL_ne (by decide), updL_ne (by decide)]; exact q87_9
          have q106_10 : F_106 10 = V_54 := by rw [eF_106, updL_ne (by decide), updL_ne (by decide)]; exact q87_10
          have q106_11 : F_106 11 = V_87 := by rw [eF_106, updL_ne (by decide), updL_ne (by decide)]; exact q87_11
          have q106_7 : F_106 7 = enc k t9 v9 := by rw [eF_106]; exact updL_eq
          have q106_6 : F_106 6 = enc k s9 u9 := by rw [eF_106, updL_ne (by decide)]; exact updL_eq
          have hw : cH dC dI ad o rw so ba ma cR cJ (stB T0 F_106) s H := ⟨hP, hK⟩
          refine lv_istore (lv' := [(4, .int (anyI k x y mw)), (3, .int (1 : Int32)), (2, .int (f_X1_sortOf k V_54)), (0, .ref o), (1, .int (nI mw))]) hx hb dL_isHeld_109 hl (by decide) rfl (fun ls hl => ?_)
          refine lv_iload hx hb dL_isHeld_111 (lv_at hl 0 rfl) ?_
          refine lv_iload_n hx hb dL_isHeld_113 rfl (lv_at hl 1 rfl) ?_
          refine lv_if_eq (tgt := 121) hx hb dL_isHeld_114 (by decide) (fun c => absurd c (show ¬ ((1 : Int32) = 0) from by decide)) (fun _ => ?_)
          refine lv_iconst (v := 1) hx hb dL_isHeld_117 (by decide) ?_
          refine lv_goto (tgt := 122) hx hb dL_isHeld_118 (by decide) ?_
          refine lv_icmp_ne (tgt := 157) hx hb dL_isHeld_122 (by decide) (fun c => absurd (show (anyI k x y mw) = (1 : Int32) from if_pos (Or.inr (Or.inr ⟨hm3, t0, ey⟩))) c) (fun _ => ?_)
          refine lv_aload_n hx hb dL_isHeld_125 rfl (lv_at hl 3 rfl) ?_
          refine lv_bipush (v := 6) hx hb dL_isHeld_126 (by decide) ?_
          have hFc := va_freeAll hD hS hA
          refine va_calli (va_runS (As := [.ref o, .int (6 : Int32)]) (rest := []) ⟨hx, hb, hml, hown, hts⟩ (c_L_isNone l dC dI ad o rw so ba ma cR cJ H.size T0 k F_106 hk h1 (6 : Int32) 6 rfl (by decide) (enc k s9 u9) q106_6 (kcn_enc hk hu9)) (va_cwS 2 hts (gS iL_isNone (zin__r12 (.methodLink RL 72 yL_isNone) (List.mem_of_getElem? (i := 15) rfl))) rfl rfl rfl (by decide +kernel) ⟨Nat.le_of_ble_eq_true rfl, Nat.le_of_ble_eq_true rfl⟩) ⟨fun a U g mk q => ⟨q.1, cB_bl q.2⟩, fun U hU hW => ⟨rfl, cB_mv hw hD (kA_in hkA hS hFc) hU hW⟩⟩ rfl rfl hl.1 rfl (lv_room (Nat.le_of_ble_eq_true rfl)) dL_isHeld_128 ⟨Nat.le_of_ble_eq_true rfl, Nat.le_of_ble_eq_true rfl⟩) hS (fun q _ h => hFc q h) hFc (fun r_128 S_128 t H1 locs ht hvm hw1 hB hz1 hk1 hS => ?_)
          obtain ⟨hP, -, hD1⟩ := hB
          rw [ht] at hP
          have hD := hD1.weaken (fun k q _ h => hFc q.1 h)
          generalize H1 = H at hP hS ⊢
          obtain ⟨rfl, rfl⟩ := hw1
          have hw : cH dC dI ad o rw so ba ma cR cJ (stB T0 F_106) s H := ⟨hP, hK⟩
          refine lv_if_ne (tgt := 157) hx hb dL_isHeld_131 (by decide) (fun c => absurd (show (if (enc k s9 u9) = knan k then (1 : Int32) else 0) = 0 from if_neg (enc_ne_nan hk hu9)) c) (fun _ => ?_)
          refine lv_aload_n hx hb dL_isHeld_134 rfl (lv_at hl 3 rfl) ?_
          refine lv_bipush (v := 7) hx hb dL_isHeld_135 (by decide) ?_
          have hFc := va_freeAll hD hS hA
          refine va_calli (va_runS (As := [.ref o, .int (7 : Int32)]) (rest := []) ⟨hx, hb, hml, hown, hts⟩ (c_L_isNone l dC dI ad o rw so ba ma cR cJ H.size T0 k F_106 hk h1 (7 : Int32) 7 rfl (by decide) (enc k t9 v9) q106_7 (kcn_enc hk hv9)) (va_cwS 2 hts (gS iL_isNone (zin__r12 (.methodLink RL 72 yL_isNone) (List.mem_of_getElem? (i := 15) rfl))) rfl rfl rfl (by decide +kernel) ⟨Nat.le_of_ble_eq_true rfl, Nat.le_of_ble_eq_true rfl⟩) ⟨fun a U g mk q => ⟨q.1, cB_bl q.2⟩, fun U hU hW => ⟨rfl, cB_mv hw hD (kA_in hkA hS hFc) hU hW⟩⟩ rfl rfl hl.1 rfl (lv_room (Nat.le_of_ble_eq_true rfl)) dL_isHeld_137 ⟨Nat.le_of_ble_eq_true rfl, Nat.le_of_ble_eq_true rfl⟩) hS (fun q _ h => hFc q h) hFc (fun r_137 S_137 t H1 locs ht hvm hw1 hB hz1 hk1 hS => ?_)
          obtain ⟨hP, -, hD1⟩ := hB
          rw [ht] at hP
          have hD := hD1.weaken (fun k q _ h => hFc q.1 h)
          generalize H1 = H at hP hS ⊢
          obtain ⟨rfl, rfl⟩ := hw1
          have hw : cH dC dI ad o rw so ba ma cR cJ (stB T0 F_106) s H := ⟨hP, hK⟩
          refine lv_if_ne (tgt := 157) hx hb dL_isHeld_140 (by decide) (fun c => absurd (show (if (enc k t9 v9) = knan k then (1 : Int32) else 0) = 0 from if_neg (enc_ne_nan hk hv9)) c) (fun _ => ?_)
          refine lv_aload_n hx hb dL_isHeld_143 rfl (lv_at hl 3 rfl) ?_
          refine lv_iconst (v := 0) hx hb dL_isHeld_144 (by decide) ?_
          refine lv_bipush (v := 6) hx hb dL_isHeld_145 (by decide) ?_
          refine lv_bipush (v := 7) hx hb dL_isHeld_147 (by decide) ?_
          have hFc := va_freeAll hD hS hA
          refine va_calli (va_runV (As := [.int (0 : Int32), .int (6 : Int32), .int (7 : Int32)]) (rest := []) ⟨hx, hb, hml, hown, hts⟩ (c_X6_compare l dC dI ad o rw so ba ma cR cJ H.size (stB T0 F_106) (0 : Int32) (6 : Int32) (7 : Int32) (inv12 h1 hk)) (cwV 3 hts (gV iX6_compare (zin__r5 (.methodLink RL 7 yX6_compare) (List.mem_of_getElem? (i := 0) rfl))) rfl rfl rfl (by decide +kernel) ⟨Nat.le_of_ble_eq_true rfl, Nat.le_of_ble_eq_true rfl⟩) ⟨fun a U g mk q => ⟨q.1, cB_bl q.2⟩, cW_rv hw, fun U hU hW => ⟨rfl, cB_mv hw hD (kA_in hkA hS hFc) hU hW⟩⟩ rfl rfl hl.1 rfl (lv_room (Nat.le_of_ble_eq_true rfl)) dL_isHeld_149 ⟨Nat.le_of_ble_eq_true rfl, Nat.le_of_ble_eq_true rfl⟩) hS (fun q _ h => hFc q h) hFc (fun r_149 S_149 t H1 locs ht hvm hw1 hB hz1 hk1 hS => ?_)
          obtain ⟨hP, -, hD1⟩ := hB
          rw [ht] at hP
          have hD := hD1.weaken (fun k q _ h => hFc q.1 h)
          generalize H1 = H at hP hS ⊢
          obtain ⟨rfl, rfl⟩ : (f_X1_relations k (enc k s9 u9) (enc k t9 v9)) = r_149 ∧ stB T0 F_106 = S_149 := Prod.mk.inj (hw1.trans (compare_at (i := 6) (j := 7) h1 (by decide) (by decide) q106_6 q106_7)).symm
          have hw : cH dC dI ad o rw so ba ma cR cJ (stB T0 F_106) s H := ⟨hP, hK⟩
          refine lv_bipush (v := 41) hx hb dL_isHeld_152 (by decide) ?_
          refine lv_icmp_eq (tgt := 159) hx hb dL_isHeld_154 (by decide) (fun _ => ?_) (fun c => absurd (show (f_X1_relations k (enc k s9 u9) (enc k t9 v9)) = (41 : Int32) from rel_lt hk hu9 hv9 hlt9) c)
          refine lv_iload_n hx hb dL_isHeld_159 rfl (lv_at hl 2 rfl) ?_
          refine lv_iconst (v := 3) hx hb dL_isHeld_160 (by decide) ?_
          refine lv_icmp_eq (tgt := 179) hx hb dL_isHeld_161 (by decide) (fun c_161 => ?_) (fun c_161 => ?_)
          · refine lv_iconst (v := 1) hx hb dL_isHeld_179 (by decide) ?_
            refine lv_goto (tgt := 184) hx hb dL_isHeld_180 (by decide) ?_
            refine W.widen (k := 4) (n := 12) (Nat.le_of_ble_eq_true rfl) (Nat.le_of_ble_eq_true rfl) ?_
            exact W.zret hx hb hr rfl (fun t ht hW => ⟨⟨_, stB T0 F_106, rfl, ⟨rfl, F_106, q106_0, q106_1, rfl⟩, by rw [ht]; exact hP, va_K.moved hW.alike hK, hD⟩, hS.F ht⟩) hS.2.2 dL_isHeld_184
          · obtain ⟨q9, w9, hw9, ez⟩ := (kcn_cases hk cz).resolve_left (fun e => c_161 ((sort_3 hk cz).mpr e))
            obtain ⟨l1, l2⟩ := hin9 q9 w9 hw9 (eV_54.symm.trans ez)
            refine lv_aload_n hx hb dL_isHeld_164 rfl (lv_at hl 3 rfl) ?_
            refine lv_iconst (v := 0) hx hb dL_isHeld_165 (by decide) ?_
            refine lv_bipush (v := 10) hx hb dL_isHeld_166 (by decide) ?_
            refine lv_bipush (v := 6) hx hb dL_isHeld_168 (by decide) ?_
            refine lv_bipush (v := 7) hx hb dL_isHeld_170 (by decide) ?_
            have hFc := va_freeAll hD hS hA
            refine va_calli (va_runV (As := [.int (0 : Int32), .int (10 : Int32), .int (6 : Int32), .int (7 : Int32)]) (rest := []) ⟨hx, hb, hml, hown, hts⟩ (c_X6_between l dC dI ad o rw so ba ma cR cJ H.size (stB T0 F_106) (0 : Int32) (10 : Int32) (6 : Int32) (7 : Int32) (inv12 h1 hk)) (cwV 4 hts (gV iX6_between (zin__r6 (.methodLink RL 56 yX6_between) (List.mem_of_getElem? (i := 9) rfl))) rfl rfl rfl (by decide +kernel) ⟨Nat.le_of_ble_eq_true rfl, Nat.le_of_ble_eq_true rfl⟩) ⟨fun a U g mk q => ⟨q.1, cB_bl q.2⟩, cW_rv hw, fun U hU hW => ⟨rfl, cB_mv hw hD (kA_in hkA hS hFc) hU hW⟩⟩ rfl rfl hl.1 rfl (lv_room (Nat.le_of_ble_eq_true rfl)) dL_isHeld_172 ⟨Nat.le_of_ble_eq_true rfl, Nat.le_of_ble_eq_true rfl⟩) hS (fun q _ h => hFc q h) hFc (fun r_172 S_172 t H1 locs ht hvm hw1 hB hz1 hk1 hS => ?_)
            obtain ⟨hP, -, hD1⟩ := hB
            rw [ht] at hP
            have hD := hD1.weaken (fun k q _ h => hFc q.1 h)
            generalize H1 = H at hP hS ⊢
            obtain ⟨rfl, rfl⟩ : r_172 = (3 : Int32) ∧ S_172 = stB T0 F_106 := Prod.mk.inj (hw1.trans (between_in (i := 10) (j := 6) (p := 7) h1 hk (by decide) (by decide) (by decide) hu9 hv9 hw9 (q106_10.trans ez) q106_6 q106_7 l1 l2))
            have hw : cH dC dI ad o rw so ba ma cR cJ (stB T0 F_106) s H := ⟨hP, hK⟩
            refine lv_iconst (v := 3) hx hb dL_isHeld_175 (by decide) ?_
            refine lv_icmp_ne (tgt := 183) hx hb dL_isHeld_176 (by decide) (fun c => absurd (show (3 : Int32) = (3 : Int32) from rfl) c) (fun _ => ?_)
            refine lv_iconst (v := 1) hx hb dL_isHeld_179 (by decide) ?_
            refine lv_goto (tgt := 184) hx hb dL_isHeld_180 (by decide) ?_
            refine W.widen (k := 4) (n := 12) (Nat.le_of_ble_eq_true rfl) (Nat.le_of_ble_eq_true rfl) ?_
            exact W.zret hx hb hr rfl (fun t ht hW => ⟨⟨_, stB T0 F_106, rfl, ⟨rfl, F_106, q106_0, q106_1, rfl⟩, by rw [ht]; exact hP, va_K.moved hW.alike hK, hD⟩, hS.F ht⟩) hS.2.2 dL_isHeld_184
