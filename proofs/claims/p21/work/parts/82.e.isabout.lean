def zL_isAbout : List Cond := .code yL_isAbout cL_isAbout 6 (some .boolean) :: zall
theorem iL_isAbout : MWs yL_isAbout (.code yL_isAbout cL_isAbout 6 (some .boolean)) := ⟨(zin__r12 (.static yL_isAbout) (List.mem_of_getElem? (i := 0) rfl)), (zin__r2 (.initialized RL) (List.mem_of_getElem? (i := 4) rfl)), (zin__r12 (.code yL_isAbout cL_isAbout 6 (some .boolean)) (List.mem_of_getElem? (i := 1) rfl))⟩
set_option maxHeartbeats 4000000 in
set_option maxRecDepth 100000 in
theorem c_L_isAbout (l : Launch) (dC : Nat → ClassId) (dI : Nat → Nat → Nat) (ad : Nat → Nat) (o rw so ba ma : Nat) (cR cJ : ClassId) (sz : Nat) (T0 : CSt) (k : Nat) (f : Nat → Int64) (hk : k < 2) (h1 : one12 T0 k) (a1 : Int32) (x y : Int64) (q0 : f 0 = x) (q1 : f 1 = y) (cx : kcn k x) (cy : kcn k y) (ea : a1 = if x = knan k then (1 : Int32) else 0) : Met l yL_isAbout zL_isAbout ({ frames := 8, cells := 0, slots := 0, locals := 209 }) (va_Pc [.ref o, .int a1] (fun U => cB dC dI ad o rw so ba ma cR cJ sz (stB T0 f) U)) (va_Qi (fun r9 S9 => r9 = 1 ∧ ∃ g : Nat → Int64, g 0 = x ∧ g 1 = y ∧ S9 = stB T0 g) (cE dC dI ad o rw so ba ma cR cJ (va_A (cWs ad o rw so ba ma cR cJ (stB T0 f)) sz)) (va_A (cWs ad o rw so ba ma cR cJ (stB T0 f)) sz)) 0 0 (va_A (cWs ad o rw so ba ma cR cJ (stB T0 f)) sz) := by
  refine Met.ofW (cc := cL_isAbout) (maxL := 6) (ret := (some .boolean)) (by decide) rfl ?_
  intro p e s m args below meth c s₁ Bx hml hv
  obtain ⟨rfl, hsz, hP, hK, hD0, hkA⟩ := hv
  have hx := Bx.exec
  have hb := Bx.bytes
  have hr := Bx.returns
  have hts : ∀ w ∈ zall, w.before _ s = true := fun w h => atoms_spec (ws := zL_isAbout) Bx.pre w (List.mem_cons_of_mem _ h)
  have hown : s.vm.findClass RL = some m.cls := findClass_of_methodNamed Bx.named
  have hlocks := Bx.notSynchronized
  subst hsz
  have hD := hD0.self (sz := s.heap.size)
  generalize hAe : va_A (cWs ad o rw so ba ma cR cJ (stB T0 f)) s.heap.size = A at hD hkA ⊢
  have hA : ∀ q : Nat, s.heap.size ≤ q → A q := fun q h => by rw [← hAe]; exact Or.inr h
  have hS : va_S A s.heap s.heap [] := va_S.rf
  have hw : cH dC dI ad o rw so ba ma cR cJ (stB T0 f) s s.heap := ⟨hP, hK⟩
  have hl := lv_entry ([.ref o, .int a1]) (n := 6) (Nat.le_of_ble_eq_true rfl)
  rw [lg_entry_eq]
  generalize (lg_sl ([.ref o, .int a1]) ++ List.replicate (6 - (lg_sl ([.ref o, .int a1])).length) Slot.unset).toArray = ls at hl ⊢
  have hl : lv_has ls 6 [(0, .ref o), (1, .int a1)] := hl
  rcases Decidable.em (x = knan k) with hxn | hxn
  · rw [if_pos hxn] at ea
    subst ea
    refine lv_aload_n hx hb dL_isAbout_0 rfl (lv_at hl 0 rfl) ?_
    refine lv_iconst (v := 0) hx hb dL_isAbout_1 (by decide) ?_
    refine lv_iconst (v := 3) hx hb dL_isAbout_2 (by decide) ?_
    refine lv_iconst (v := 0) hx hb dL_isAbout_3 (by decide) ?_
    refine lv_iconst (v := 0) hx hb dL_isAbout_4 (by decide) ?_
    refine lv_iconst (v := 2) hx hb dL_isAbout_5 (by decide) ?_
    have hFc := va_freeAll hD hS hA
    refine va_calli (va_runV (As := [.int (0 : Int32), .int (3 : Int32), .int (0 : Int32), .int (0 : Int32), .int (2 : Int32)]) (rest := []) ⟨hx, hb, hml, hown, hts⟩ (c_X6_act l dC dI ad o rw so ba ma cR cJ s.heap.size (stB T0 f) (0 : Int32) (3 : Int32) (0 : Int32) (0 : Int32) (2 : Int32) (inv12 h1 hk)) (cwV 5 hts (gV iX6_act (zin__r7 (.methodLink RL 64 yX6_act) (List.mem_of_getElem? (i := 6) rfl))) rfl rfl rfl (by decide +kernel) ⟨Nat.le_of_ble_eq_true rfl, Nat.le_of_ble_eq_true rfl⟩) ⟨fun a U g mk q => ⟨q.1, cB_bl q.2⟩, cW_rv hw, fun U hU hW => ⟨rfl, cB_mv hw hD (kA_in hkA hS hFc) hU hW⟩⟩ rfl rfl hl.1 rfl (lv_room (Nat.le_of_ble_eq_true rfl)) dL_isAbout_6 ⟨Nat.zero_le _, Nat.zero_le _⟩) hS (fun q _ h => hFc q h) hFc (fun r_6 S_6 t H1 locs ht hvm hw1 hB hz1 hk1 hS => ?_)
    obtain ⟨hP, -, hD1⟩ := hB
    rw [ht] at hP
    have hD := hD1.weaken (fun k q _ h => hFc q.1 h)
    generalize H1 = H at hP hS ⊢
    obtain ⟨V_6, eV_6⟩ : ∃ z, z = f_X2_acted k (3 : Int32) x x := ⟨_, rfl⟩
    obtain ⟨F_6, eF_6⟩ : ∃ z, z = vp_updL f 2 V_6 := ⟨_, rfl⟩
    obtain ⟨rfl, rfl⟩ : r_6 = f_X1_sortOf k V_6 ∧ S_6 = stB T0 F_6 := by rw [eF_6, eV_6]; exact Prod.mk.inj (hw1.trans (act_at (m := 3) (i := 0) (j := 0) (n := 2) h1 (by decide) (by decide) (by decide) (by decide) q0 q0))
    have q6_0 : F_6 0 = x := by rw [eF_6, updL_ne (by decide)]; exact q0
    have q6_1 : F_6 1 = y := by rw [eF_6, updL_ne (by decide)]; exact q1
    have q6_2 : F_6 2 = V_6 := by rw [eF_6]; exact updL_eq
    have hw : cH dC dI ad o rw so ba ma cR cJ (stB T0 F_6) s H := ⟨hP, hK⟩
    refine lv_istore_n (lv' := [(2, .int (f_X1_sortOf k V_6)), (0, .ref o), (1, .int (1 : Int32))]) hx hb dL_isAbout_9 rfl hl (by decide) rfl (fun ls hl => ?_)
    refine lv_aload_n hx hb dL_isAbout_10 rfl (lv_at hl 1 rfl) ?_
    refine lv_iconst (v := 0) hx hb dL_isAbout_11 (by decide) ?_
    refine lv_iconst (v := 4) hx hb dL_isAbout_12 (by decide) ?_
    refine lv_iconst (v := 0) hx hb dL_isAbout_13 (by decide) ?_
    refine lv_iconst (v := 0) hx hb dL_isAbout_14 (by decide) ?_
    refine lv_iconst (v := 3) hx hb dL_isAbout_15 (by decide) ?_
    have hFc := va_freeAll hD hS hA
    refine va_calli (va_runV (As := [.int (0 : Int32), .int (4 : Int32), .int (0 : Int32), .int (0 : Int32), .int (3 : Int32)]) (rest := []) ⟨hx, hb, hml, hown, hts⟩ (c_X6_act l dC dI ad o rw so ba ma cR cJ H.size (stB T0 F_6) (0 : Int32) (4 : Int32) (0 : Int32) (0 : Int32) (3 : Int32) (inv12 h1 hk)) (cwV 5 hts (gV iX6_act (zin__r7 (.methodLink RL 64 yX6_act) (List.mem_of_getElem? (i := 6) rfl))) rfl rfl rfl (by decide +kernel) ⟨Nat.le_of_ble_eq_true rfl, Nat.le_of_ble_eq_true rfl⟩) ⟨fun a U g mk q => ⟨q.1, cB_bl q.2⟩, cW_rv hw, fun U hU hW => ⟨rfl, cB_mv hw hD (kA_in hkA hS hFc) hU hW⟩⟩ rfl rfl hl.1 rfl (lv_room (Nat.le_of_ble_eq_true rfl)) dL_isAbout_16 ⟨Nat.zero_le _, Nat.zero_le _⟩) hS (fun q _ h => hFc q h) hFc (fun r_16 S_16 t H1 locs ht hvm hw1 hB hz1 hk1 hS => ?_)
    obtain ⟨hP, -, hD1⟩ := hB
    rw [ht] at hP
    have hD := hD1.weaken (fun k q _ h => hFc q.1 h)
    generalize H1 = H at hP hS ⊢
    obtain ⟨V_16, eV_16⟩ : ∃ z, z = f_X2_acted k (4 : Int32) x x := ⟨_, rfl⟩
    obtain ⟨F_16, eF_16⟩ : ∃ z, z = vp_updL F_6 3 V_16 := ⟨_, rfl⟩
    obtain ⟨rfl, rfl⟩ : r_16 = f_X1_sortOf k V_16 ∧ S_16 = stB T0 F_16 := by rw [eF_16, eV_16]; exact Prod.mk.inj (hw1.trans (act_at (m := 4) (i := 0) (j := 0) (n := 3) h1 (by decide) (by decide) (by decide) (by decide) q6_0 q6_0))
    have q16_0 : F_16 0 = x := by rw [eF_16, updL_ne (by decide)]; exact q6_0
    have q16_1 : F_16 1 = y := by rw [eF_16, updL_ne (by decide)]; exact q6_1
    have q16_2 : F_16 2 = V_6 := by rw [eF_16, updL_ne (by decide)]; exact q6_2
    have q16_3 : F_16 3 = V_16 := by rw [eF_16]; exact updL_eq
    have hw : cH dC dI ad o rw so ba ma cR cJ (stB T0 F_16) s H := ⟨hP, hK⟩
    refine lv_istore_n (lv' := [(3, .int (f_X1_sortOf k V_16)), (2, .int (f_X1_sortOf k V_6)), (0, .ref o), (1, .int (1 : Int32))]) hx hb dL_isAbout_19 rfl hl (by decide) rfl (fun ls hl => ?_)
    refine lv_aload_n hx hb dL_isAbout_20 rfl (lv_at hl 2 rfl) ?_
    refine lv_iconst (v := 0) hx hb dL_isAbout_21 (by decide) ?_
    refine lv_iconst (v := 5) hx hb dL_isAbout_22 (by decide) ?_
    refine lv_iconst (v := 0) hx hb dL_isAbout_23 (by decide) ?_
    refine lv_iconst (v := 0) hx hb dL_isAbout_24 (by decide) ?_
    refine lv_iconst (v := 4) hx hb dL_isAbout_25 (by decide) ?_
    have hFc := va_freeAll hD hS hA
    refine va_calli (va_runV (As := [.int (0 : Int32), .int (5 : Int32), .int (0 : Int32), .int (0 : Int32), .int (4 : Int32)]) (rest := []) ⟨hx, hb, hml, hown, hts⟩ (c_X6_act l dC dI ad o rw so ba ma cR cJ H.size (stB T0 F_16) (0 : Int32) (5 : Int32) (0 : Int32) (0 : Int32) (4 : Int32) (inv12 h1 hk)) (cwV 5 hts (gV iX6_act (zin__r7 (.methodLink RL 64 yX6_act) (List.mem_of_getElem? (i := 6) rfl))) rfl rfl rfl (by decide +kernel) ⟨Nat.le_of_ble_eq_true rfl, Nat.le_of_ble_eq_true rfl⟩) ⟨fun a U g mk q => ⟨q.1, cB_bl q.2⟩, cW_rv hw, fun U hU hW => ⟨rfl, cB_mv hw hD (kA_in hkA hS hFc) hU hW⟩⟩ rfl rfl hl.1 rfl (lv_room (Nat.le_of_ble_eq_true rfl)) dL_isAbout_26 ⟨Nat.zero_le _, Nat.zero_le _⟩) hS (fun q _ h => hFc q h) hFc (fun r_26 S_26 t H1 locs ht hvm hw1 hB hz1 hk1 hS => ?_)
    obtain ⟨hP, -, hD1⟩ := hB
    rw [ht] at hP
    have hD := hD1.weaken (fun k q _ h => hFc q.1 h)
    generalize H1 = H at hP hS ⊢
    obtain ⟨V_26, eV_26⟩ : ∃ z, z = f_X2_acted k (5 : Int32) x x := ⟨_, rfl⟩
    obtain ⟨F_26, eF_26⟩ : ∃ z, z = vp_updL F_16 4 V_26 := ⟨_, rfl⟩
    obtain ⟨rfl, rfl⟩ : r_26 = f_X1_sortOf k V_26 ∧ S_26 = stB T0 F_26 := by rw [eF_26, eV_26]; exact Prod.mk.inj (hw1.trans (act_at (m := 5) (i := 0) (j := 0) (n := 4) h1 (by decide) (by decide) (by decide) (by decide) q16_0 q16_0))
    have q26_0 : F_26 0 = x := by rw [eF_26, updL_ne (by decide)]; exact q16_0
    have q26_1 : F_26 1 = y := by rw [eF_26, updL_ne (by decide)]; exact q16_1
    have q26_2 : F_26 2 = V_6 := by rw [eF_26, updL_ne (by decide)]; exact q16_2
    have q26_3 : F_26 3 = V_16 := by rw [eF_26, updL_ne (by decide)]; exact q16_3
    have q26_4 : F_26 4 = V_26 := by rw [eF_26]; exact updL_eq
    have hw : cH dC dI ad o rw so ba ma cR cJ (stB T0 F_26) s H := ⟨hP, hK⟩
    refine lv_istore (lv' := [(4, .int (f_X1_sortOf k V_26)), (3, .int (f_X1_sortOf k V_16)), (2, .int (f_X1_sortOf k V_6)), (0, .ref o), (1, .int (1 : Int32))]) hx hb dL_isAbout_29 hl (by decide) rfl (fun ls hl => ?_)
    refine lv_iload_n hx hb dL_isAbout_31 rfl (lv_at hl 4 rfl) ?_
    refine lv_if_eq (tgt := 57) hx hb dL_isAbout_32 (by decide) (fun c => absurd c (show ¬ ((1 : Int32) = 0) from by decide)) (fun _ => ?_)
    refine lv_iload_n hx hb dL_isAbout_35 rfl (lv_at hl 2 rfl) ?_
    refine lv_iconst (v := 3) hx hb dL_isAbout_36 (by decide) ?_
    refine lv_icmp_ne (tgt := 55) hx hb dL_isAbout_37 (by decide) (fun c => absurd (show (f_X1_sortOf k V_6) = (3 : Int32) from by rw [eV_6, hxn, act_nan_l hk, sort_nan hk]) c) (fun _ => ?_)
    refine lv_iload_n hx hb dL_isAbout_40 rfl (lv_at hl 1 rfl) ?_
    refine lv_iconst (v := 3) hx hb dL_isAbout_41 (by decide) ?_
    refine lv_icmp_ne (tgt := 55) hx hb dL_isAbout_42 (by decide) (fun c => absurd (show (f_X1_sortOf k V_16) = (3 : Int32) from by rw [eV_16, hxn, act_nan_l hk, sort_nan hk]) c) (fun _ => ?_)
    refine lv_iload hx hb dL_isAbout_45 (lv_at hl 0 rfl) ?_
    refine lv_iconst (v := 3) hx hb dL_isAbout_47 (by decide) ?_
    refine lv_icmp_ne (tgt := 55) hx hb dL_isAbout_48 (by decide) (fun c => absurd (show (f_X1_sortOf k V_26) = (3 : Int32) from by rw [eV_26, hxn, act_nan_l hk, sort_nan hk]) c) (fun _ => ?_)
    refine lv_iconst (v := 1) hx hb dL_isAbout_51 (by decide) ?_
    refine lv_goto (tgt := 56) hx hb dL_isAbout_52 (by decide) ?_
    exact W.zret hx hb hr rfl (fun t ht hW => ⟨⟨_, stB T0 F_26, rfl, ⟨rfl, F_26, q26_0, q26_1, rfl⟩, by rw [ht]; exact hP, va_K.moved hW.alike hK, hD⟩, hS.F ht⟩) hS.2.2 dL_isAbout_56
  · rw [if_neg hxn] at ea
    subst ea
    obtain ⟨s0, u0, hu0, ex⟩ := (kcn_cases hk cx).resolve_left hxn
    obtain ⟨a0, b0, c0, ha0, hb0, hc0, w3, w4, w5, l1, l2, l3, w6, w7⟩ := whole_about (s := s0) hk hu0
    refine lv_aload_n hx hb dL_isAbout_0 rfl (lv_at hl 0 rfl) ?_
    refine lv_iconst (v := 0) hx hb dL_isAbout_1 (by decide) ?_
    refine lv_iconst (v := 3) hx hb dL_isAbout_2 (by decide) ?_
    refine lv_iconst (v := 0) hx hb dL_isAbout_3 (by decide) ?_
    refine lv_iconst (v := 0) hx hb dL_isAbout_4 (by decide) ?_
    refine lv_iconst (v := 2) hx hb dL_isAbout_5 (by decide) ?_
    have hFc := va_freeAll hD hS hA
    refine va_calli (va_runV (As := [.int (0 : Int32), .int (3 : Int32), .int (0 : Int32), .int (0 : Int32), .int (2 : Int32)]) (rest := []) ⟨hx, hb, hml, hown, hts⟩ (c_X6_act l dC dI ad o rw so ba ma cR cJ s.heap.size (stB T0 f) (0 : Int32) (3 : Int32) (0 : Int32) (0 : Int32) (2 : Int32) (inv12 h1 hk)) (cwV 5 hts (gV iX6_act (zin__r7 (.methodLink RL 64 yX6_act) (List.mem_of_getElem? (i := 6) rfl))) rfl rfl rfl (by decide +kernel) ⟨Nat.le_of_ble_eq_true rfl, Nat.le_of_ble_eq_true rfl⟩) ⟨fun a U g mk q => ⟨q.1, cB_bl q.2⟩, cW_rv hw, fun U hU hW => ⟨rfl, cB_mv hw hD (kA_in hkA hS hFc) hU hW⟩⟩ rfl rfl hl.1 rfl (lv_room (Nat.le_of_ble_eq_true rfl)) dL_isAbout_6 ⟨Nat.zero_le _, Nat.zero_le _⟩) hS (fun q _ h => hFc q h) hFc (fun r_6 S_6 t H1 locs ht hvm hw1 hB hz1 hk1 hS => ?_)
    obtain ⟨hP, -, hD1⟩ := hB
    rw [ht] at hP
    have hD := hD1.weaken (fun k q _ h => hFc q.1 h)
    generalize H1 = H at hP hS ⊢
    obtain ⟨V_6, eV_6⟩ : ∃ z, z = f_X2_acted k (3 : Int32) x x := ⟨_, rfl⟩
    obtain ⟨F_6, eF_6⟩ : ∃ z, z = vp_updL f 2 V_6 := ⟨_, rfl⟩
    obtain ⟨rfl, rfl⟩ : r_6 = f_X1_sortOf k V_6 ∧ S_6 = stB T0 F_6 := by rw [eF_6, eV_6]; exact Prod.mk.inj (hw1.trans (act_at (m := 3) (i := 0) (j := 0) (n := 2) h1 (by decide) (by decide) (by decide) (by decide) q0 q0))
    have q6_0 : F_6 0 = x := by rw [eF_6, updL_ne (by decide)]; exact q0
    have q6_1 : F_6 1 = y := by rw [eF_6, updL_ne (by decide)]; exact q1
    have q6_2 : F_6 2 = V_6 := by rw [eF_6]; exact updL_eq
    have hw : cH dC dI ad o rw so ba ma cR cJ (stB T0 F_6) s H := ⟨hP, hK⟩
    refine lv_istore_n (lv' := [(2, .int (f_X1_sortOf k V_6)), (0, .ref o), (1, .int (0 : Int32))]) hx hb dL_isAbout_9 rfl hl (by decide) rfl (fun ls hl => ?_)
    refine lv_aload_n hx hb dL_isAbout_10 rfl (lv_at hl 1 rfl) ?_
    refine lv_iconst (v := 0) hx hb dL_isAbout_11 (by decide) ?_
    refine lv_iconst (v := 4) hx hb dL_isAbout_12 (by decide) ?_
    refine lv_iconst (v := 0) hx hb dL_isAbout_13 (by decide) ?_
    refine lv_iconst (v := 0) hx hb dL_isAbout_14 (by decide) ?_
    refine lv_iconst (v := 3) hx hb dL_isAbout_15 (by decide) ?_
    have hFc := va_freeAll hD hS hA
    refine va_calli (va_runV (As := [.int (0 : Int32), .int (4 : Int32), .int (0 : Int32), .int (0 : Int32), .int (3 : Int32)]) (rest := []) ⟨hx, hb, hml, hown, hts⟩ (c_X6_act l dC dI ad o rw so ba ma cR cJ H.size (stB T0 F_6) (0 : Int32) (4 : Int32) (0 : Int32) (0 : Int32) (3 : Int32) (inv12 h1 hk)) (cwV 5 hts (gV iX6_act (zin__r7 (.methodLink RL 64 yX6_act) (List.mem_of_getElem? (i := 6) rfl))) rfl rfl rfl (by decide +kernel) ⟨Nat.le_of_ble_eq_true rfl, Nat.le_of_ble_eq_true rfl⟩) ⟨fun a U g mk q => ⟨q.1, cB_bl q.2⟩, cW_rv hw, fun U hU hW => ⟨rfl, cB_mv hw hD (kA_in hkA hS hFc) hU hW⟩⟩ rfl rfl hl.1 rfl (lv_room (Nat.le_of_ble_eq_true rfl)) dL_isAbout_16 ⟨Nat.zero_le _, Nat.zero_le _⟩) hS (fun q _ h => hFc q h) hFc (fun r_16 S_16 t H1 locs ht hvm hw1 hB hz1 hk1 hS => ?_)
    obtain ⟨hP, -, hD1⟩ := hB
    rw [ht] at hP
    have hD := hD1.weaken (fun k q _ h => hFc q.1 h)
    generalize H1 = H at hP hS ⊢
    obtain ⟨V_16, eV_16⟩ : ∃ z, z = f_X2_acted k (4 : Int32) x x := ⟨_, rfl⟩
    obtain ⟨F_16, eF_16⟩ : ∃ z, z = vp_updL F_6 3 V_16 := ⟨_, rfl⟩
    obtain ⟨rfl, rfl⟩ : r_16 = f_X1_sortOf k V_16 ∧ S_16 = stB T0 F_16 := by rw [eF_16, eV_16]; exact Prod.mk.inj (hw1.trans (act_at (m := 4) (i := 0) (j := 0) (n := 3) h1 (by decide) (by decide) (by decide) (by decide) q6_0 q6_0))
    have q16_0 : F_16 0 = x := by rw [eF_16, updL_ne (by decide)]; exact q6_0
    have q16_1 : F_16 1 = y := by rw [eF_16, updL_ne (by decide)]; exact q6_1
    have q16_2 : F_16 2 = V_6 := by rw [eF_16, updL_ne (by decide)]; exact q6_2
    have q16_3 : F_16 3 = V_16 := by rw [eF_16]; exact updL_eq
    have hw : cH dC dI ad o rw so ba ma cR cJ (stB T0 F_16) s H := ⟨hP, hK⟩
    refine lv_istore_n (lv' := [(3, .int (f_X1_sortOf k V_16)), (2, .int (f_X1_sortOf k V_6)), (0, .ref o), (1, .int (0 : Int32))]) hx hb dL_isAbout_19 rfl hl (by decide) rfl (fun ls hl => ?_)
    refine lv_aload_n hx hb dL_isAbout_20 rfl (lv_at hl 2 rfl) ?_
    refine lv_iconst (v := 0) hx hb dL_isAbout_21 (by decide) ?_
    refine lv_iconst (v := 5) hx hb dL_isAbout_22 (by decide) ?_
    refine lv_iconst (v := 0) hx hb dL_isAbout_23 (by decide) ?_
    refine lv_iconst (v := 0) hx hb dL_isAbout_24 (by decide) ?_
    refine lv_iconst (v := 4) hx hb dL_isAbout_25 (by decide) ?_
    have hFc := va_freeAll hD hS hA
    refine va_calli (va_runV (As := [.int (0 : Int32), .int (5 : Int32), .int (0 : Int32), .int (0 : Int32), .int (4 : Int32)]) (rest := []) ⟨hx, hb, hml, hown, hts⟩ (c_X6_act l dC dI ad o rw so ba ma cR cJ H.size (stB T0 F_16) (0 : Int32) (5 : Int32) (0 : Int32) (0 : Int32) (4 : Int32) (inv12 h1 hk)) (cwV 5 hts (gV iX6_act (zin__r7 (.methodLink RL 64 yX6_act) (List.mem_of_getElem? (i := 6) rfl))) rfl rfl rfl (by decide +kernel) ⟨Nat.le_of_ble_eq_true rfl, Nat.le_of_ble_eq_true rfl⟩) ⟨fun a U g mk q => ⟨q.1, cB_bl q.2⟩, cW_rv hw, fun U hU hW => ⟨rfl, cB_mv hw hD (kA_in hkA hS hFc) hU hW⟩⟩ rfl rfl hl.1 rfl (lv_room (Nat.le_of_ble_eq_true rfl)) dL_isAbout_26 ⟨Nat.zero_le _, Nat.zero_le _⟩) hS (fun q _ h => hFc q h) hFc (fun r_26 S_26 t H1 locs ht hvm hw1 hB hz1 hk1 hS => ?_)
    obtain ⟨hP, -, hD1⟩ := hB
    rw [ht] at hP
    have hD := hD1.weaken (fun k q _ h => hFc q.1 h)
    generalize H1 = H at hP hS ⊢
    obtain ⟨V_26, eV_26⟩ : ∃ z, z = f_X2_acted k (5 : Int32) x x := ⟨_, rfl⟩
    obtain ⟨F_26, eF_26⟩ : ∃ z, z = vp_updL F_16 4 V_26 := ⟨_, rfl⟩
    obtain ⟨rfl, rfl⟩ : r_26 = f_X1_sortOf k V_26 ∧ S_26 = stB T0 F_26 := by rw [eF_26, eV_26]; exact Prod.mk.inj (hw1.trans (act_at (m := 5) (i := 0) (j := 0) (n := 4) h1 (by decide) (by decide) (by decide) (by decide) q16_0 q16_0))
    have q26_0 : F_26 0 = x := by rw [eF_26, updL_ne (by decide)]; exact q16_0
    have q26_1 : F_26 1 = y := by rw [eF_26, updL_ne (by decide)]; exact q16_1
    have q26_2 : F_26 2 = V_6 := by rw [eF_26, updL_ne (by decide)]; exact q16_2
    have q26_3 : F_26 3 = V_16 := by rw [eF_26, updL_ne (by decide)]; exact q16_3
    have q26_4 : F_26 4 = V_26 := by rw [eF_26]; exact updL_eq
    have hw : cH dC dI ad o rw so ba ma cR cJ (stB T0 F_26) s H := ⟨hP, hK⟩
    refine lv_istore (lv' := [(4, .int (f_X1_sortOf k V_26)), (3, .int (f_X1_sortOf k V_16)), (2, .int (f_X1_sortOf k V_6)), (0, .ref o), (1, .int (0 : Int32))]) hx hb dL_isAbout_29 hl (by decide) rfl (fun ls hl => ?_)
    have g6 : V_6 = enc k s0 a0 := by rw [eV_6, ex, act_one hk hu0 ns3, ac_3]; exact w3
    have g16 : V_16 = enc k s0 b0 := by rw [eV_16, ex, act_one hk hu0 ns4, ac_4]; exact w4
    have g26 : V_26 = enc k s0 c0 := by rw [eV_26, ex, act_one hk hu0 ns5, ac_5]; exact w5
    refine lv_iload_n hx hb dL_isAbout_31 rfl (lv_at hl 4 rfl) ?_
    refine lv_if_eq (tgt := 57) hx hb dL_isAbout_32 (by decide) (fun _ => ?_) (fun c => absurd (show (0 : Int32) = 0 from by decide) c)
    refine lv_aload_n hx hb dL_isAbout_57 rfl (lv_at hl 3 rfl) ?_
    refine lv_iconst (v := 0) hx hb dL_isAbout_58 (by decide) ?_
    refine lv_iconst (v := 3) hx hb dL_isAbout_59 (by decide) ?_
    refine lv_iconst (v := 4) hx hb dL_isAbout_60 (by decide) ?_
    refine lv_iconst (v := 4) hx hb dL_isAbout_61 (by decide) ?_
    refine lv_iconst (v := 5) hx hb dL_isAbout_62 (by decide) ?_
    have hFc := va_freeAll hD hS hA
    refine va_calli (va_runV (As := [.int (0 : Int32), .int (3 : Int32), .int (4 : Int32), .int (4 : Int32), .int (5 : Int32)]) (rest := []) ⟨hx, hb, hml, hown, hts⟩ (c_X6_act l dC dI ad o rw so ba ma cR cJ H.size (stB T0 F_26) (0 : Int32) (3 : Int32) (4 : Int32) (4 : Int32) (5 : Int32) (inv12 h1 hk)) (cwV 5 hts (gV iX6_act (zin__r7 (.methodLink RL 64 yX6_act) (List.mem_of_getElem? (i := 6) rfl))) rfl rfl rfl (by decide +kernel) ⟨Nat.le_of_ble_eq_true rfl, Nat.le_of_ble_eq_true rfl⟩) ⟨fun a U g mk q => ⟨q.1, cB_bl q.2⟩, cW_rv hw, fun U hU hW => ⟨rfl, cB_mv hw hD (kA_in hkA hS hFc) hU hW⟩⟩ rfl rfl hl.1 rfl (lv_room (Nat.le_of_ble_eq_true rfl)) dL_isAbout_63 ⟨Nat.zero_le _, Nat.zero_le _⟩) hS (fun q _ h => hFc q h) hFc (fun r_63 S_63 t H1 locs ht hvm hw1 hB hz1 hk1 hS => ?_)
    obtain ⟨hP, -, hD1⟩ := hB
    rw [ht] at hP
    have hD := hD1.weaken (fun k q _ h => hFc q.1 h)
    generalize H1 = H at hP hS ⊢
    obtain ⟨V_63, eV_63⟩ : ∃ z, z = f_X2_acted k (3 : Int32) V_26 V_26 := ⟨_, rfl⟩
    obtain ⟨F_63, eF_63⟩ : ∃ z, z = vp_updL F_26 5 V_63 := ⟨_, rfl⟩
    obtain ⟨rfl, rfl⟩ : r_63 = f_X1_sortOf k V_63 ∧ S_63 = stB T0 F_63 := by rw [eF_63, eV_63]; exact Prod.mk.inj (hw1.trans (act_at (m := 3) (i := 4) (j := 4) (n := 5) h1 (by decide) (by decide) (by decide) (by decide) q26_4 q26_4))
    have q63_0 : F_63 0 = x := by rw [eF_63, updL_ne (by decide)]; exact q26_0
    have q63_1 : F_63 1 = y := by rw [eF_63, updL_ne (by decide)]; exact q26_1
    have q63_2 : F_63 2 = V_6 := by rw [eF_63, updL_ne (by decide)]; exact q26_2
    have q63_3 : F_63 3 = V_16 := by rw [eF_63, updL_ne (by decide)]; exact q26_3
    have q63_4 : F_63 4 = V_26 := by rw [eF_63, updL_ne (by decide)]; exact q26_4
    have q63_5 : F_63 5 = V_63 := by rw [eF_63]; exact updL_eq
    have hw : cH dC dI ad o rw so ba ma cR cJ (stB T0 F_63) s H := ⟨hP, hK⟩
    have g63 : V_63 = enc k s0 c0 := by rw [eV_63, g26, act_one hk hc0 ns3, ac_3]; exact w6
    refine lv_iload hx hb dL_isAbout_66 (lv_at hl 0 rfl) ?_
    refine lv_icmp_ne (tgt := 121) hx hb dL_isAbout_68 (by decide) (fun c => absurd (show (f_X1_sortOf k V_63) = (f_X1_sortOf k V_26) from by rw [g63, g26]) c) (fun _ => ?_)
    refine lv_aload_n hx hb dL_isAbout_71 rfl (lv_at hl 3 rfl) ?_
    refine lv_iconst (v := 0) hx hb dL_isAbout_72 (by decide) ?_
    refine lv_iconst (v := 5) hx hb dL_isAbout_73 (by decide) ?_
    have hFc := va_freeAll hD hS hA
    refine va_calll (va_runV (As := [.int (0 : Int32), .int (5 : Int32)]) (rest := []) ⟨hx, hb, hml, hown, hts⟩ (c_X6_get l dC dI ad o rw so ba ma cR cJ H.size (stB T0 F_63) (0 : Int32) (5 : Int32) (inv12 h1 hk)) (cwV 2 hts (gV iX6_get (zin__r6 (.methodLink RL 60 yX6_get) (List.mem_of_getElem? (i := 15) rfl))) rfl rfl rfl (by decide +kernel) ⟨Nat.le_of_ble_eq_true rfl, Nat.le_of_ble_eq_true rfl⟩) ⟨fun a U g mk q => ⟨q.1, cB_bl q.2⟩, cW_rv hw, fun U hU hW => ⟨rfl, cB_mv hw hD (kA_in hkA hS hFc) hU hW⟩⟩ rfl rfl hl.1 rfl (lv_room (Nat.le_of_ble_eq_true rfl)) dL_isAbout_74 ⟨Nat.zero_le _, Nat.zero_le _⟩) hS (fun q _ h => hFc q h) hFc (fun r_74 S_74 t H1 locs ht hvm hw1 hB hz1 hk1 hS => ?_)
    obtain ⟨hP, -, hD1⟩ := hB
    rw [ht] at hP
    have hD := hD1.weaken (fun k q _ h => hFc q.1 h)
    generalize H1 = H at hP hS ⊢
    obtain ⟨rfl, rfl⟩ : V_63 = r_74 ∧ stB T0 F_63 = S_74 := Prod.mk.inj (hw1.trans (get_at (i := 5) h1 (by decide) q63_5)).symm
    have hw : cH dC dI ad o rw so ba ma cR cJ (stB T0 F_63) s H := ⟨hP, hK⟩
    refine lv_aload_n hx hb dL_isAbout_77 rfl (lv_at hl 3 rfl) ?_
    refine lv_iconst (v := 0) hx hb dL_isAbout_78 (by decide) ?_
    refine lv_iconst (v := 4) hx hb dL_isAbout_79 (by decide) ?_
    have hFc := va_freeAll hD hS hA
    refine va_calll (va_runV (As := [.int (0 : Int32), .int (4 : Int32)]) (rest := [.long V_63]) ⟨hx, hb, hml, hown, hts⟩ (c_X6_get l dC dI ad o rw so ba ma cR cJ H.size (stB T0 F_63) (0 : Int32) (4 : Int32) (inv12 h1 hk)) (cwV 2 hts (gV iX6_get (zin__r6 (.methodLink RL 60 yX6_get) (List.mem_of_getElem? (i := 15) rfl))) rfl rfl rfl (by decide +kernel) ⟨Nat.le_of_ble_eq_true rfl, Nat.le_of_ble_eq_true rfl⟩) ⟨fun a U g mk q => ⟨q.1, cB_bl q.2⟩, cW_rv hw, fun U hU hW => ⟨rfl, cB_mv hw hD (kA_in hkA hS hFc) hU hW⟩⟩ rfl rfl hl.1 rfl (lv_room (Nat.le_of_ble_eq_true rfl)) dL_isAbout_80 ⟨Nat.zero_le _, Nat.zero_le _⟩) hS (fun q _ h => hFc q h) hFc (fun r_80 S_80 t H1 locs ht hvm hw1 hB hz1 hk1 hS => ?_)
    obtain ⟨hP, -, hD1⟩ := hB
    rw [ht] at hP
    have hD := hD1.weaken (fun k q _ h => hFc q.1 h)
    generalize H1 = H at hP hS ⊢
    obtain ⟨rfl, rfl⟩ : V_26 = r_80 ∧ stB T0 F_63 = S_80 := Prod.mk.inj (hw1.trans (get_at (i := 4) h1 (by decide) q63_4)).symm
    have hw : cH dC dI ad o rw so ba ma cR cJ (stB T0 F_63) s H := ⟨hP, hK⟩
    refine W.lcmp hx hb dL_isAbout_83 ?_
    refine lv_if_ne (tgt := 121) hx hb dL_isAbout_84 (by decide) (fun c => absurd ((lg_cmp_eq V_63 V_26).mpr (show V_63 = V_26 from by rw [g63, g26])) c) (fun _ => ?_)
    refine lv_aload_n hx hb dL_isAbout_87 rfl (lv_at hl 3 rfl) ?_
    refine lv_iconst (v := 0) hx hb dL_isAbout_88 (by decide) ?_
    refine lv_iconst (v := 4) hx hb dL_isAbout_89 (by decide) ?_
    refine lv_iconst (v := 4) hx hb dL_isAbout_90 (by decide) ?_
    refine lv_iconst (v := 4) hx hb dL_isAbout_91 (by decide) ?_
    refine lv_iconst (v := 5) hx hb dL_isAbout_92 (by decide) ?_
    have hFc := va_freeAll hD hS hA
    refine va_calli (va_runV (As := [.int (0 : Int32), .int (4 : Int32), .int (4 : Int32), .int (4 : Int32), .int (5 : Int32)]) (rest := []) ⟨hx, hb, hml, hown, hts⟩ (c_X6_act l dC dI ad o rw so ba ma cR cJ H.size (stB T0 F_63) (0 : Int32) (4 : Int32) (4 : Int32) (4 : Int32) (5 : Int32) (inv12 h1 hk)) (cwV 5 hts (gV iX6_act (zin__r7 (.methodLink RL 64 yX6_act) (List.mem_of_getElem? (i := 6) rfl))) rfl rfl rfl (by decide +kernel) ⟨Nat.le_of_ble_eq_true rfl, Nat.le_of_ble_eq_true rfl⟩) ⟨fun a U g mk q => ⟨q.1, cB_bl q.2⟩, cW_rv hw, fun U hU hW => ⟨rfl, cB_mv hw hD (kA_in hkA hS hFc) hU hW⟩⟩ rfl rfl hl.1 rfl (lv_room (Nat.le_of_ble_eq_true rfl)) dL_isAbout_93 ⟨Nat.zero_le _, Nat.zero_le _⟩) hS (fun q _ h => hFc q h) hFc (fun r_93 S_93 t H1 locs ht hvm hw1 hB hz1 hk1 hS => ?_)
    obtain ⟨hP, -, hD1⟩ := hB
    rw [ht] at hP
    have hD := hD1.weaken (fun k q _ h => hFc q.1 h)
    generalize H1 = H at hP hS ⊢
    obtain ⟨V_93, eV_93⟩ : ∃ z, z = f_X2_acted k (4 : Int32) V_26 V_26 := ⟨_, rfl⟩
    obtain ⟨F_93, eF_93⟩ : ∃ z, z = vp_updL F_63 5 V_93 := ⟨_, rfl⟩
    obtain ⟨rfl, rfl⟩ : r_93 = f_X1_sortOf k V_93 ∧ S_93 = stB T0 F_93 := by rw [eF_93, eV_93]; exact Prod.mk.inj (hw1.trans (act_at (m := 4) (i := 4) (j := 4) (n := 5) h1 (by decide) (by decide) (by decide) (by decide) q63_4 q63_4))
    have q93_0 : F_93 0 = x := by rw [eF_93, updL_ne (by decide)]; exact q63_0
    have q93_1 : F_93 1 = y := by rw [eF_93, updL_ne (by decide)]; exact q63_1
    have q93_2 : F_93 2 = V_6 := by rw [eF_93, updL_ne (by decide)]; exact q63_2
    have q93_3 : F_93 3 = V_16 := by rw [eF_93, updL_ne (by decide)]; exact q63_3
    have q93_4 : F_93 4 = V_26 := by rw [eF_93, updL_ne (by decide)]; exact q63_4
    have q93_5 : F_93 5 = V_93 := by rw [eF_93]; exact updL_eq
    have hw : cH dC dI ad o rw so ba ma cR cJ (stB T0 F_93) s H := ⟨hP, hK⟩
    have g93 : V_93 = enc k s0 c0 := by rw [eV_93, g26, act_one hk hc0 ns4, ac_4]; exact w7
    refine lv_iload hx hb dL_isAbout_96 (lv_at hl 0 rfl) ?_
    refine lv_icmp_ne (tgt := 121) hx hb dL_isAbout_98 (by decide) (fun c => absurd (show (f_X1_sortOf k V_93) = (f_X1_sortOf k V_26) from by rw [g93, g26]) c) (fun _ => ?_)
    refine lv_aload_n hx hb dL_isAbout_101 rfl (lv_at hl 3 rfl) ?_
    refine lv_iconst (v := 0) hx hb dL_isAbout_102 (by decide) ?_
    refine lv_iconst (v := 5) hx hb dL_isAbout_103 (by decide) ?_
    have hFc := va_freeAll hD hS hA
    refine va_calll (va_runV (As := [.int (0 : Int32), .int (5 : Int32)]) (rest := []) ⟨hx, hb, hml, hown, hts⟩ (c_X6_get l dC dI ad o rw so ba ma cR cJ H.size (stB T0 F_93) (0 : Int32) (5 : Int32) (inv12 h1 hk)) (cwV 2 hts (gV iX6_get (zin__r6 (.methodLink RL 60 yX6_get) (List.mem_of_getElem? (i := 15) rfl))) rfl rfl rfl (by decide +kernel) ⟨Nat.le_of_ble_eq_true rfl, Nat.le_of_ble_eq_true rfl⟩) ⟨fun a U g mk q => ⟨q.1, cB_bl q.2⟩, cW_rv hw, fun U hU hW => ⟨rfl, cB_mv hw hD (kA_in hkA hS hFc) hU hW⟩⟩ rfl rfl hl.1 rfl (lv_room (Nat.le_of_ble_eq_true rfl)) dL_isAbout_104 ⟨Nat.zero_le _, Nat.zero_le _⟩) hS (fun q _ h => hFc q h) hFc (fun r_104 S_104 t H1 locs ht hvm hw1 hB hz1 hk1 hS => ?_)
    obtain ⟨hP, -, hD1⟩ := hB
    rw [ht] at hP
    have hD := hD1.weaken (fun k q _ h => hFc q.1 h)
    generalize H1 = H at hP hS ⊢
    obtain ⟨rfl, rfl⟩ : V_93 = r_104 ∧ stB T0 F_93 = S_104 := Prod.mk.inj (hw1.trans (get_at (i := 5) h1 (by decide) q93_5)).symm
    have hw : cH dC dI ad o rw so ba ma cR cJ (stB T0 F_93) s H := ⟨hP, hK⟩
    refine lv_aload_n hx hb dL_isAbout_107 rfl (lv_at hl 3 rfl) ?_
    refine lv_iconst (v := 0) hx hb dL_isAbout_108 (by decide) ?_
    refine lv_iconst (v := 4) hx hb dL_isAbout_109 (by decide) ?_
    have hFc := va_freeAll hD hS hA
    refine va_calll (va_runV (As := [.int (0 : Int32), .int (4 : Int32)]) (rest := [.long V_93]) ⟨hx, hb, hml, hown, hts⟩ (c_X6_get l dC dI ad o rw so ba ma cR cJ H.size (stB T0 F_93) (0 : Int32) (4 : Int32) (inv12 h1 hk)) (cwV 2 hts (gV iX6_get (zin__r6 (.methodLink RL 60 yX6_get) (List.mem_of_getElem? (i := 15) rfl))) rfl rfl rfl (by decide +kernel) ⟨Nat.le_of_ble_eq_true rfl, Nat.le_of_ble_eq_true rfl⟩) ⟨fun a U g mk q => ⟨q.1, cB_bl q.2⟩, cW_rv hw, fun U hU hW => ⟨rfl, cB_mv hw hD (kA_in hkA hS hFc) hU hW⟩⟩ rfl rfl hl.1 rfl (lv_room (Nat.le_of_ble_eq_true rfl)) dL_isAbout_110 ⟨Nat.zero_le _, Nat.zero_le _⟩) hS (fun q _ h => hFc q h) hFc (fun r_110 S_110 t H1 locs ht hvm hw1 hB hz1 hk1 hS => ?_)
    obtain ⟨hP, -, hD1⟩ := hB
    rw [ht] at hP
    have hD := hD1.weaken (fun k q _ h => hFc q.1 h)
    generalize H1 = H at hP hS ⊢
    obtain ⟨rfl, rfl⟩ : V_26 = r_110 ∧ stB T0 F_93 = S_110 := Prod.mk.inj (hw1.trans (get_at (i := 4) h1 (by decide) q93_4)).symm
    have hw : cH dC dI ad o rw so ba ma cR cJ (stB T0 F_93) s H := ⟨hP, hK⟩
    refine W.lcmp hx hb dL_isAbout_113 ?_
    refine lv_if_ne (tgt := 121) hx hb dL_isAbout_114 (by decide) (fun c => absurd ((lg_cmp_eq V_93 V_26).mpr (show V_93 = V_26 from by rw [g93, g26])) c) (fun _ => ?_)
    refine lv_iconst (v := 1) hx hb dL_isAbout_117 (by decide) ?_
    refine lv_goto (tgt := 122) hx hb dL_isAbout_118 (by decide) ?_
    refine lv_istore (lv' := [(5, .int (1 : Int32)), (4, .int (f_X1_sortOf k V_26)), (3, .int (f_X1_sortOf k V_16)), (2, .int (f_X1_sortOf k V_6)), (0, .ref o), (1, .int (0 : Int32))]) hx hb dL_isAbout_122 hl (by decide) rfl (fun ls hl => ?_)
    refine lv_iload hx hb dL_isAbout_124 (lv_at hl 0 rfl) ?_
    refine lv_if_eq (tgt := 169) hx hb dL_isAbout_126 (by decide) (fun c => absurd c (show ¬ ((1 : Int32) = 0) from by decide)) (fun _ => ?_)
    refine lv_aload_n hx hb dL_isAbout_129 rfl (lv_at hl 4 rfl) ?_
    refine lv_iconst (v := 0) hx hb dL_isAbout_130 (by decide) ?_
    refine lv_iconst (v := 0) hx hb dL_isAbout_131 (by decide) ?_
    refine lv_iconst (v := 2) hx hb dL_isAbout_132 (by decide) ?_
    refine lv_iconst (v := 3) hx hb dL_isAbout_133 (by decide) ?_
    have hFc := va_freeAll hD hS hA
    refine va_calli (va_runV (As := [.int (0 : Int32), .int (0 : Int32), .int (2 : Int32), .int (3 : Int32)]) (rest := []) ⟨hx, hb, hml, hown, hts⟩ (c_X6_between l dC dI ad o rw so ba ma cR cJ H.size (stB T0 F_93) (0 : Int32) (0 : Int32) (2 : Int32) (3 : Int32) (inv12 h1 hk)) (cwV 4 hts (gV iX6_between (zin__r6 (.methodLink RL 56 yX6_between) (List.mem_of_getElem? (i := 9) rfl))) rfl rfl rfl (by decide +kernel) ⟨Nat.le_of_ble_eq_true rfl, Nat.le_of_ble_eq_true rfl⟩) ⟨fun a U g mk q => ⟨q.1, cB_bl q.2⟩, cW_rv hw, fun U hU hW => ⟨rfl, cB_mv hw hD (kA_in hkA hS hFc) hU hW⟩⟩ rfl rfl hl.1 rfl (lv_room (Nat.le_of_ble_eq_true rfl)) dL_isAbout_134 ⟨Nat.zero_le _, Nat.zero_le _⟩) hS (fun q _ h => hFc q h) hFc (fun r_134 S_134 t H1 locs ht hvm hw1 hB hz1 hk1 hS => ?_)
    obtain ⟨hP, -, hD1⟩ := hB
    rw [ht] at hP
    have hD := hD1.weaken (fun k q _ h => hFc q.1 h)
    generalize H1 = H at hP hS ⊢
    obtain ⟨rfl, rfl⟩ : r_134 = (3 : Int32) ∧ S_134 = stB T0 F_93 := Prod.mk.inj (hw1.trans (between_in (i := 0) (j := 2) (p := 3) h1 hk (by decide) (by decide) (by decide) ha0 hb0 hu0 (q93_0.trans ex) (q93_2.trans g6) (q93_3.trans g16) l1 l2))
    have hw : cH dC dI ad o rw so ba ma cR cJ (stB T0 F_93) s H := ⟨hP, hK⟩
    refine lv_iconst (v := 3) hx hb dL_isAbout_137 (by decide) ?_
    refine lv_icmp_ne (tgt := 169) hx hb dL_isAbout_138 (by decide) (fun c => absurd (show (3 : Int32) = (3 : Int32) from rfl) c) (fun _ => ?_)
    refine lv_aload_n hx hb dL_isAbout_141 rfl (lv_at hl 4 rfl) ?_
    refine lv_iconst (v := 0) hx hb dL_isAbout_142 (by decide) ?_
    refine lv_iconst (v := 4) hx hb dL_isAbout_143 (by decide) ?_
    refine lv_iconst (v := 2) hx hb dL_isAbout_144 (by decide) ?_
    have hFc := va_freeAll hD hS hA
    refine va_calli (va_runV (As := [.int (0 : Int32), .int (4 : Int32), .int (2 : Int32)]) (rest := []) ⟨hx, hb, hml, hown, hts⟩ (c_X6_compare l dC dI ad o rw so ba ma cR cJ H.size (stB T0 F_93) (0 : Int32) (4 : Int32) (2 : Int32) (inv12 h1 hk)) (cwV 3 hts (gV iX6_compare (zin__r5 (.methodLink RL 7 yX6_compare) (List.mem_of_getElem? (i := 0) rfl))) rfl rfl rfl (by decide +kernel) ⟨Nat.le_of_ble_eq_true rfl, Nat.le_of_ble_eq_true rfl⟩) ⟨fun a U g mk q => ⟨q.1, cB_bl q.2⟩, cW_rv hw, fun U hU hW => ⟨rfl, cB_mv hw hD (kA_in hkA hS hFc) hU hW⟩⟩ rfl rfl hl.1 rfl (lv_room (Nat.le_of_ble_eq_true rfl)) dL_isAbout_145 ⟨Nat.zero_le _, Nat.zero_le _⟩) hS (fun q _ h => hFc q h) hFc (fun r_145 S_145 t H1 locs ht hvm hw1 hB hz1 hk1 hS => ?_)
    obtain ⟨hP, -, hD1⟩ := hB
    rw [ht] at hP
    have hD := hD1.weaken (fun k q _ h => hFc q.1 h)
    generalize H1 = H at hP hS ⊢
    obtain ⟨rfl, rfl⟩ : (f_X1_relations k V_26 V_6) = r_145 ∧ stB T0 F_93 = S_145 := Prod.mk.inj (hw1.trans (compare_at (i := 4) (j := 2) h1 (by decide) (by decide) q93_4 q93_2)).symm
    have hw : cH dC dI ad o rw so ba ma cR cJ (stB T0 F_93) s H := ⟨hP, hK⟩
    refine lv_bipush (v := 26) hx hb dL_isAbout_148 (by decide) ?_
    refine lv_icmp_eq (tgt := 165) hx hb dL_isAbout_150 (by decide) (fun c_150 => ?_) (fun c_150 => ?_)
    · refine lv_iconst (v := 1) hx hb dL_isAbout_165 (by decide) ?_
      refine lv_goto (tgt := 170) hx hb dL_isAbout_166 (by decide) ?_
      exact W.zret hx hb hr rfl (fun t ht hW => ⟨⟨_, stB T0 F_93, rfl, ⟨rfl, F_93, q93_0, q93_1, rfl⟩, by rw [ht]; exact hP, va_K.moved hW.alike hK, hD⟩, hS.F ht⟩) hS.2.2 dL_isAbout_170
    · refine lv_aload_n hx hb dL_isAbout_153 rfl (lv_at hl 4 rfl) ?_
      refine lv_iconst (v := 0) hx hb dL_isAbout_154 (by decide) ?_
      refine lv_iconst (v := 4) hx hb dL_isAbout_155 (by decide) ?_
      refine lv_iconst (v := 3) hx hb dL_isAbout_156 (by decide) ?_
      have hFc := va_freeAll hD hS hA
      refine va_calli (va_runV (As := [.int (0 : Int32), .int (4 : Int32), .int (3 : Int32)]) (rest := []) ⟨hx, hb, hml, hown, hts⟩ (c_X6_compare l dC dI ad o rw so ba ma cR cJ H.size (stB T0 F_93) (0 : Int32) (4 : Int32) (3 : Int32) (inv12 h1 hk)) (cwV 3 hts (gV iX6_compare (zin__r5 (.methodLink RL 7 yX6_compare) (List.mem_of_getElem? (i := 0) rfl))) rfl rfl rfl (by decide +kernel) ⟨Nat.le_of_ble_eq_true rfl, Nat.le_of_ble_eq_true rfl⟩) ⟨fun a U g mk q => ⟨q.1, cB_bl q.2⟩, cW_rv hw, fun U hU hW => ⟨rfl, cB_mv hw hD (kA_in hkA hS hFc) hU hW⟩⟩ rfl rfl hl.1 rfl (lv_room (Nat.le_of_ble_eq_true rfl)) dL_isAbout_157 ⟨Nat.zero_le _, Nat.zero_le _⟩) hS (fun q _ h => hFc q h) hFc (fun r_157 S_157 t H1 locs ht hvm hw1 hB hz1 hk1 hS => ?_)
      obtain ⟨hP, -, hD1⟩ := hB
      rw [ht] at hP
      have hD := hD1.weaken (fun k q _ h => hFc q.1 h)
      generalize H1 = H at hP hS ⊢
      obtain ⟨rfl, rfl⟩ : (f_X1_relations k V_26 V_16) = r_157 ∧ stB T0 F_93 = S_157 := Prod.mk.inj (hw1.trans (compare_at (i := 4) (j := 3) h1 (by decide) (by decide) q93_4 q93_3)).symm
      have hw : cH dC dI ad o rw so ba ma cR cJ (stB T0 F_93) s H := ⟨hP, hK⟩
      refine lv_bipush (v := 26) hx hb dL_isAbout_160 (by decide) ?_
      refine lv_icmp_ne (tgt := 169) hx hb dL_isAbout_162 (by decide) (fun c => absurd (show (f_X1_relations k V_26 V_16) = (26 : Int32) from (by
        rcases l3 with h | h
        · exact absurd (by rw [g26, g6, h]; exact rel_eq hk ha0 ha0 rfl) c_150
        · rw [g26, g16, h]; exact rel_eq hk hb0 hb0 rfl)) c) (fun _ => ?_)
      refine lv_iconst (v := 1) hx hb dL_isAbout_165 (by decide) ?_
      refine lv_goto (tgt := 170) hx hb dL_isAbout_166 (by decide) ?_
      exact W.zret hx hb hr rfl (fun t ht hW => ⟨⟨_, stB T0 F_93, rfl, ⟨rfl, F_93, q93_0, q93_1, rfl⟩, by rw [ht]; exact hP, va_K.moved hW.alike hK, hD⟩, hS.F ht⟩) hS.2.2 dL_isAbout_170
