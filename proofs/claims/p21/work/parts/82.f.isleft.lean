def zL_isLeft : List Cond := .code yL_isLeft cL_isLeft 3 (some .boolean) :: zall
theorem iL_isLeft : MWs yL_isLeft (.code yL_isLeft cL_isLeft 3 (some .boolean)) := ⟨(zin__r12 (.static yL_isLeft) (List.mem_of_getElem? (i := 3) rfl)), (zin__r2 (.initialized RL) (List.mem_of_getElem? (i := 4) rfl)), (zin__r12 (.code yL_isLeft cL_isLeft 3 (some .boolean)) (List.mem_of_getElem? (i := 4) rfl))⟩
set_option maxHeartbeats 4000000 in
set_option maxRecDepth 100000 in
theorem c_L_isLeft (l : Launch) (dC : Nat → ClassId) (dI : Nat → Nat → Nat) (ad : Nat → Nat) (o rw so ba ma : Nat) (cR cJ : ClassId) (sz : Nat) (T0 : CSt) (k : Nat) (f : Nat → Int64) (hk : k < 2) (h1 : one12 T0 k) (x y : Int64) (q0 : f 0 = x) (q1 : f 1 = y) (cx : kcn k x) (cy : kcn k y) : Met l yL_isLeft zL_isLeft ({ frames := 8, cells := 0, slots := 0, locals := 209 }) (va_Pc [.ref o] (fun U => cB dC dI ad o rw so ba ma cR cJ sz (stB T0 f) U)) (va_Qi (fun r9 S9 => r9 = 1 ∧ ∃ g : Nat → Int64, g 0 = x ∧ g 1 = y ∧ S9 = stB T0 g) (cE dC dI ad o rw so ba ma cR cJ (va_A (cWs ad o rw so ba ma cR cJ (stB T0 f)) sz)) (va_A (cWs ad o rw so ba ma cR cJ (stB T0 f)) sz)) 0 0 (va_A (cWs ad o rw so ba ma cR cJ (stB T0 f)) sz) := by
  refine Met.ofW (cc := cL_isLeft) (maxL := 3) (ret := (some .boolean)) (by decide) rfl ?_
  intro p e s m args below meth c s₁ Bx hml hv
  obtain ⟨rfl, hsz, hP, hK, hD0, hkA⟩ := hv
  have hx := Bx.exec
  have hb := Bx.bytes
  have hr := Bx.returns
  have hts : ∀ w ∈ zall, w.before _ s = true := fun w h => atoms_spec (ws := zL_isLeft) Bx.pre w (List.mem_cons_of_mem _ h)
  have hown : s.vm.findClass RL = some m.cls := findClass_of_methodNamed Bx.named
  have hlocks := Bx.notSynchronized
  subst hsz
  have hD := hD0.self (sz := s.heap.size)
  generalize hAe : va_A (cWs ad o rw so ba ma cR cJ (stB T0 f)) s.heap.size = A at hD hkA ⊢
  have hA : ∀ q : Nat, s.heap.size ≤ q → A q := fun q h => by rw [← hAe]; exact Or.inr h
  have hS : va_S A s.heap s.heap [] := va_S.rf
  have hw : cH dC dI ad o rw so ba ma cR cJ (stB T0 f) s s.heap := ⟨hP, hK⟩
  have hl := lv_entry ([.ref o]) (n := 3) (Nat.le_of_ble_eq_true rfl)
  rw [lg_entry_eq]
  generalize (lg_sl ([.ref o]) ++ List.replicate (3 - (lg_sl ([.ref o])).length) Slot.unset).toArray = ls at hl ⊢
  have hl : lv_has ls 3 [(0, .ref o)] := hl
  refine lv_aload_n hx hb dL_isLeft_0 rfl (lv_at hl 0 rfl) ?_
  refine lv_iconst (v := 0) hx hb dL_isLeft_1 (by decide) ?_
  refine lv_bipush (v := 12) hx hb dL_isLeft_2 (by decide) ?_
  refine lv_iconst (v := 0) hx hb dL_isLeft_4 (by decide) ?_
  refine lv_iconst (v := 1) hx hb dL_isLeft_5 (by decide) ?_
  refine lv_iconst (v := 2) hx hb dL_isLeft_6 (by decide) ?_
  have hFc := va_freeAll hD hS hA
  refine va_calli (va_runV (As := [.int (0 : Int32), .int (12 : Int32), .int (0 : Int32), .int (1 : Int32), .int (2 : Int32)]) (rest := []) ⟨hx, hb, hml, hown, hts⟩ (c_X6_act l dC dI ad o rw so ba ma cR cJ s.heap.size (stB T0 f) (0 : Int32) (12 : Int32) (0 : Int32) (1 : Int32) (2 : Int32) (inv12 h1 hk)) (cwV 5 hts (gV iX6_act (zin__r7 (.methodLink RL 64 yX6_act) (List.mem_of_getElem? (i := 6) rfl))) rfl rfl rfl (by decide +kernel) ⟨Nat.le_of_ble_eq_true rfl, Nat.le_of_ble_eq_true rfl⟩) ⟨fun a U g mk q => ⟨q.1, cB_bl q.2⟩, cW_rv hw, fun U hU hW => ⟨rfl, cB_mv hw hD (kA_in hkA hS hFc) hU hW⟩⟩ rfl rfl hl.1 rfl (lv_room (Nat.le_of_ble_eq_true rfl)) dL_isLeft_7 ⟨Nat.zero_le _, Nat.zero_le _⟩) hS (fun q _ h => hFc q h) hFc (fun r_7 S_7 t H1 locs ht hvm hw1 hB hz1 hk1 hS => ?_)
  obtain ⟨hP, -, hD1⟩ := hB
  rw [ht] at hP
  have hD := hD1.weaken (fun k q _ h => hFc q.1 h)
  generalize H1 = H at hP hS ⊢
  obtain ⟨V_7, eV_7⟩ : ∃ z, z = f_X2_acted k (12 : Int32) x y := ⟨_, rfl⟩
  obtain ⟨F_7, eF_7⟩ : ∃ z, z = vp_updL f 2 V_7 := ⟨_, rfl⟩
  obtain ⟨rfl, rfl⟩ : r_7 = f_X1_sortOf k V_7 ∧ S_7 = stB T0 F_7 := by rw [eF_7, eV_7]; exact Prod.mk.inj (hw1.trans (act_at (m := 12) (i := 0) (j := 1) (n := 2) h1 (by decide) (by decide) (by decide) (by decide) q0 q1))
  have q7_0 : F_7 0 = x := by rw [eF_7, updL_ne (by decide)]; exact q0
  have q7_1 : F_7 1 = y := by rw [eF_7, updL_ne (by decide)]; exact q1
  have q7_2 : F_7 2 = V_7 := by rw [eF_7]; exact updL_eq
  have hw : cH dC dI ad o rw so ba ma cR cJ (stB T0 F_7) s H := ⟨hP, hK⟩
  refine lv_istore_n (lv' := [(1, .int (f_X1_sortOf k V_7)), (0, .ref o)]) hx hb dL_isLeft_10 rfl hl (by decide) rfl (fun ls hl => ?_)
  refine lv_iload_n hx hb dL_isLeft_11 rfl (lv_at hl 0 rfl) ?_
  refine lv_iconst (v := 3) hx hb dL_isLeft_12 (by decide) ?_
  refine lv_icmp_ne (tgt := 18) hx hb dL_isLeft_13 (by decide) (fun c_13 => ?_) (fun c_13 => ?_)
  · refine lv_aload_n hx hb dL_isLeft_18 rfl (lv_at hl 1 rfl) ?_
    refine lv_iconst (v := 0) hx hb dL_isLeft_19 (by decide) ?_
    refine lv_iconst (v := 0) hx hb dL_isLeft_20 (by decide) ?_
    refine lv_iconst (v := 2) hx hb dL_isLeft_21 (by decide) ?_
    refine lv_iconst (v := 2) hx hb dL_isLeft_22 (by decide) ?_
    refine lv_iconst (v := 3) hx hb dL_isLeft_23 (by decide) ?_
    have hFc := va_freeAll hD hS hA
    refine va_calli (va_runV (As := [.int (0 : Int32), .int (0 : Int32), .int (2 : Int32), .int (2 : Int32), .int (3 : Int32)]) (rest := []) ⟨hx, hb, hml, hown, hts⟩ (c_X6_act l dC dI ad o rw so ba ma cR cJ H.size (stB T0 F_7) (0 : Int32) (0 : Int32) (2 : Int32) (2 : Int32) (3 : Int32) (inv12 h1 hk)) (cwV 5 hts (gV iX6_act (zin__r7 (.methodLink RL 64 yX6_act) (List.mem_of_getElem? (i := 6) rfl))) rfl rfl rfl (by decide +kernel) ⟨Nat.le_of_ble_eq_true rfl, Nat.le_of_ble_eq_true rfl⟩) ⟨fun a U g mk q => ⟨q.1, cB_bl q.2⟩, cW_rv hw, fun U hU hW => ⟨rfl, cB_mv hw hD (kA_in hkA hS hFc) hU hW⟩⟩ rfl rfl hl.1 rfl (lv_room (Nat.le_of_ble_eq_true rfl)) dL_isLeft_24 ⟨Nat.zero_le _, Nat.zero_le _⟩) hS (fun q _ h => hFc q h) hFc (fun r_24 S_24 t H1 locs ht hvm hw1 hB hz1 hk1 hS => ?_)
    obtain ⟨hP, -, hD1⟩ := hB
    rw [ht] at hP
    have hD := hD1.weaken (fun k q _ h => hFc q.1 h)
    generalize H1 = H at hP hS ⊢
    obtain ⟨V_24, eV_24⟩ : ∃ z, z = f_X2_acted k (0 : Int32) V_7 V_7 := ⟨_, rfl⟩
    obtain ⟨F_24, eF_24⟩ : ∃ z, z = vp_updL F_7 3 V_24 := ⟨_, rfl⟩
    obtain ⟨rfl, rfl⟩ : r_24 = f_X1_sortOf k V_24 ∧ S_24 = stB T0 F_24 := by rw [eF_24, eV_24]; exact Prod.mk.inj (hw1.trans (act_at (m := 0) (i := 2) (j := 2) (n := 3) h1 (by decide) (by decide) (by decide) (by decide) q7_2 q7_2))
    have q24_0 : F_24 0 = x := by rw [eF_24, updL_ne (by decide)]; exact q7_0
    have q24_1 : F_24 1 = y := by rw [eF_24, updL_ne (by decide)]; exact q7_1
    have q24_2 : F_24 2 = V_7 := by rw [eF_24, updL_ne (by decide)]; exact q7_2
    have q24_3 : F_24 3 = V_24 := by rw [eF_24]; exact updL_eq
    have hw : cH dC dI ad o rw so ba ma cR cJ (stB T0 F_24) s H := ⟨hP, hK⟩
    refine lv_pop hx hb dL_isLeft_27 rfl ?_
    refine lv_aload_n hx hb dL_isLeft_28 rfl (lv_at hl 1 rfl) ?_
    refine lv_iconst (v := 0) hx hb dL_isLeft_29 (by decide) ?_
    refine lv_iconst (v := 0) hx hb dL_isLeft_30 (by decide) ?_
    refine lv_iconst (v := 1) hx hb dL_isLeft_31 (by decide) ?_
    refine lv_iconst (v := 1) hx hb dL_isLeft_32 (by decide) ?_
    refine lv_iconst (v := 4) hx hb dL_isLeft_33 (by decide) ?_
    have hFc := va_freeAll hD hS hA
    refine va_calli (va_runV (As := [.int (0 : Int32), .int (0 : Int32), .int (1 : Int32), .int (1 : Int32), .int (4 : Int32)]) (rest := []) ⟨hx, hb, hml, hown, hts⟩ (c_X6_act l dC dI ad o rw so ba ma cR cJ H.size (stB T0 F_24) (0 : Int32) (0 : Int32) (1 : Int32) (1 : Int32) (4 : Int32) (inv12 h1 hk)) (cwV 5 hts (gV iX6_act (zin__r7 (.methodLink RL 64 yX6_act) (List.mem_of_getElem? (i := 6) rfl))) rfl rfl rfl (by decide +kernel) ⟨Nat.le_of_ble_eq_true rfl, Nat.le_of_ble_eq_true rfl⟩) ⟨fun a U g mk q => ⟨q.1, cB_bl q.2⟩, cW_rv hw, fun U hU hW => ⟨rfl, cB_mv hw hD (kA_in hkA hS hFc) hU hW⟩⟩ rfl rfl hl.1 rfl (lv_room (Nat.le_of_ble_eq_true rfl)) dL_isLeft_34 ⟨Nat.zero_le _, Nat.zero_le _⟩) hS (fun q _ h => hFc q h) hFc (fun r_34 S_34 t H1 locs ht hvm hw1 hB hz1 hk1 hS => ?_)
    obtain ⟨hP, -, hD1⟩ := hB
    rw [ht] at hP
    have hD := hD1.weaken (fun k q _ h => hFc q.1 h)
    generalize H1 = H at hP hS ⊢
    obtain ⟨V_34, eV_34⟩ : ∃ z, z = f_X2_acted k (0 : Int32) y y := ⟨_, rfl⟩
    obtain ⟨F_34, eF_34⟩ : ∃ z, z = vp_updL F_24 4 V_34 := ⟨_, rfl⟩
    obtain ⟨rfl, rfl⟩ : r_34 = f_X1_sortOf k V_34 ∧ S_34 = stB T0 F_34 := by rw [eF_34, eV_34]; exact Prod.mk.inj (hw1.trans (act_at (m := 0) (i := 1) (j := 1) (n := 4) h1 (by decide) (by decide) (by decide) (by decide) q24_1 q24_1))
    have q34_0 : F_34 0 = x := by rw [eF_34, updL_ne (by decide)]; exact q24_0
    have q34_1 : F_34 1 = y := by rw [eF_34, updL_ne (by decide)]; exact q24_1
    have q34_2 : F_34 2 = V_7 := by rw [eF_34, updL_ne (by decide)]; exact q24_2
    have q34_3 : F_34 3 = V_24 := by rw [eF_34, updL_ne (by decide)]; exact q24_3
    have q34_4 : F_34 4 = V_34 := by rw [eF_34]; exact updL_eq
    have hw : cH dC dI ad o rw so ba ma cR cJ (stB T0 F_34) s H := ⟨hP, hK⟩
    refine lv_pop hx hb dL_isLeft_37 rfl ?_
    refine lv_aload_n hx hb dL_isLeft_38 rfl (lv_at hl 1 rfl) ?_
    refine lv_iconst (v := 0) hx hb dL_isLeft_39 (by decide) ?_
    refine lv_bipush (v := 7) hx hb dL_isLeft_40 (by decide) ?_
    refine lv_iconst (v := 0) hx hb dL_isLeft_42 (by decide) ?_
    refine lv_iconst (v := 0) hx hb dL_isLeft_43 (by decide) ?_
    refine lv_iconst (v := 5) hx hb dL_isLeft_44 (by decide) ?_
    have hFc := va_freeAll hD hS hA
    refine va_calli (va_runV (As := [.int (0 : Int32), .int (7 : Int32), .int (0 : Int32), .int (0 : Int32), .int (5 : Int32)]) (rest := []) ⟨hx, hb, hml, hown, hts⟩ (c_X6_act l dC dI ad o rw so ba ma cR cJ H.size (stB T0 F_34) (0 : Int32) (7 : Int32) (0 : Int32) (0 : Int32) (5 : Int32) (inv12 h1 hk)) (cwV 5 hts (gV iX6_act (zin__r7 (.methodLink RL 64 yX6_act) (List.mem_of_getElem? (i := 6) rfl))) rfl rfl rfl (by decide +kernel) ⟨Nat.le_of_ble_eq_true rfl, Nat.le_of_ble_eq_true rfl⟩) ⟨fun a U g mk q => ⟨q.1, cB_bl q.2⟩, cW_rv hw, fun U hU hW => ⟨rfl, cB_mv hw hD (kA_in hkA hS hFc) hU hW⟩⟩ rfl rfl hl.1 rfl (lv_room (Nat.le_of_ble_eq_true rfl)) dL_isLeft_45 ⟨Nat.zero_le _, Nat.zero_le _⟩) hS (fun q _ h => hFc q h) hFc (fun r_45 S_45 t H1 locs ht hvm hw1 hB hz1 hk1 hS => ?_)
    obtain ⟨hP, -, hD1⟩ := hB
    rw [ht] at hP
    have hD := hD1.weaken (fun k q _ h => hFc q.1 h)
    generalize H1 = H at hP hS ⊢
    obtain ⟨V_45, eV_45⟩ : ∃ z, z = f_X2_acted k (7 : Int32) x x := ⟨_, rfl⟩
    obtain ⟨F_45, eF_45⟩ : ∃ z, z = vp_updL F_34 5 V_45 := ⟨_, rfl⟩
    obtain ⟨rfl, rfl⟩ : r_45 = f_X1_sortOf k V_45 ∧ S_45 = stB T0 F_45 := by rw [eF_45, eV_45]; exact Prod.mk.inj (hw1.trans (act_at (m := 7) (i := 0) (j := 0) (n := 5) h1 (by decide) (by decide) (by decide) (by decide) q34_0 q34_0))
    have q45_0 : F_45 0 = x := by rw [eF_45, updL_ne (by decide)]; exact q34_0
    have q45_1 : F_45 1 = y := by rw [eF_45, updL_ne (by decide)]; exact q34_1
    have q45_2 : F_45 2 = V_7 := by rw [eF_45, updL_ne (by decide)]; exact q34_2
    have q45_3 : F_45 3 = V_24 := by rw [eF_45, updL_ne (by decide)]; exact q34_3
    have q45_4 : F_45 4 = V_34 := by rw [eF_45, updL_ne (by decide)]; exact q34_4
    have q45_5 : F_45 5 = V_45 := by rw [eF_45]; exact updL_eq
    have hw : cH dC dI ad o rw so ba ma cR cJ (stB T0 F_45) s H := ⟨hP, hK⟩
    refine lv_istore_n (lv' := [(2, .int (f_X1_sortOf k V_45)), (1, .int (f_X1_sortOf k V_7)), (0, .ref o)]) hx hb dL_isLeft_48 rfl hl (by decide) rfl (fun ls hl => ?_)
    have h12 : f_X1_sortOf k V_7 = 3 ∨ (¬ f_X1_sortOf k V_7 = 3 ∧ f_X1_relations k V_24 V_34 = 41 ∧ jishr (f_X1_sortOf k V_7) (2 : Int32) = jishr (f_X1_sortOf k V_45) (2 : Int32)) := by rw [eV_45, eV_34, eV_24, eV_7]; exact a12_tells hk cx cy
    refine lv_aload_n hx hb dL_isLeft_49 rfl (lv_at hl 2 rfl) ?_
    refine lv_iconst (v := 0) hx hb dL_isLeft_50 (by decide) ?_
    refine lv_iconst (v := 3) hx hb dL_isLeft_51 (by decide) ?_
    refine lv_iconst (v := 4) hx hb dL_isLeft_52 (by decide) ?_
    have hFc := va_freeAll hD hS hA
    refine va_calli (va_runV (As := [.int (0 : Int32), .int (3 : Int32), .int (4 : Int32)]) (rest := []) ⟨hx, hb, hml, hown, hts⟩ (c_X6_compare l dC dI ad o rw so ba ma cR cJ H.size (stB T0 F_45) (0 : Int32) (3 : Int32) (4 : Int32) (inv12 h1 hk)) (cwV 3 hts (gV iX6_compare (zin__r5 (.methodLink RL 7 yX6_compare) (List.mem_of_getElem? (i := 0) rfl))) rfl rfl rfl (by decide +kernel) ⟨Nat.le_of_ble_eq_true rfl, Nat.le_of_ble_eq_true rfl⟩) ⟨fun a U g mk q => ⟨q.1, cB_bl q.2⟩, cW_rv hw, fun U hU hW => ⟨rfl, cB_mv hw hD (kA_in hkA hS hFc) hU hW⟩⟩ rfl rfl hl.1 rfl (lv_room (Nat.le_of_ble_eq_true rfl)) dL_isLeft_53 ⟨Nat.zero_le _, Nat.zero_le _⟩) hS (fun q _ h => hFc q h) hFc (fun r_53 S_53 t H1 locs ht hvm hw1 hB hz1 hk1 hS => ?_)
    obtain ⟨hP, -, hD1⟩ := hB
    rw [ht] at hP
    have hD := hD1.weaken (fun k q _ h => hFc q.1 h)
    generalize H1 = H at hP hS ⊢
    obtain ⟨rfl, rfl⟩ : (f_X1_relations k V_24 V_34) = r_53 ∧ stB T0 F_45 = S_53 := Prod.mk.inj (hw1.trans (compare_at (i := 3) (j := 4) h1 (by decide) (by decide) q45_3 q45_4)).symm
    have hw : cH dC dI ad o rw so ba ma cR cJ (stB T0 F_45) s H := ⟨hP, hK⟩
    refine lv_bipush (v := 41) hx hb dL_isLeft_56 (by decide) ?_
    refine lv_icmp_ne (tgt := 74) hx hb dL_isLeft_58 (by decide) (fun c => absurd (show (f_X1_relations k V_24 V_34) = (41 : Int32) from (h12.resolve_left c_13).2.1) c) (fun _ => ?_)
    refine lv_iload_n hx hb dL_isLeft_61 rfl (lv_at hl 1 rfl) ?_
    refine lv_iconst (v := 2) hx hb dL_isLeft_62 (by decide) ?_
    refine lv_ishr hx hb dL_isLeft_63 ?_
    refine lv_iload_n hx hb dL_isLeft_64 rfl (lv_at hl 0 rfl) ?_
    refine lv_iconst (v := 2) hx hb dL_isLeft_65 (by decide) ?_
    refine lv_ishr hx hb dL_isLeft_66 ?_
    refine lv_icmp_ne (tgt := 74) hx hb dL_isLeft_67 (by decide) (fun c => absurd (show (jishr (f_X1_sortOf k V_7) (2 : Int32)) = (jishr (f_X1_sortOf k V_45) (2 : Int32)) from (h12.resolve_left c_13).2.2) c) (fun _ => ?_)
    refine lv_iconst (v := 1) hx hb dL_isLeft_70 (by decide) ?_
    refine lv_goto (tgt := 75) hx hb dL_isLeft_71 (by decide) ?_
    exact W.zret hx hb hr rfl (fun t ht hW => ⟨⟨_, stB T0 F_45, rfl, ⟨rfl, F_45, q45_0, q45_1, rfl⟩, by rw [ht]; exact hP, va_K.moved hW.alike hK, hD⟩, hS.F ht⟩) hS.2.2 dL_isLeft_75
  · refine lv_iconst (v := 1) hx hb dL_isLeft_16 (by decide) ?_
    exact W.zret hx hb hr rfl (fun t ht hW => ⟨⟨_, stB T0 F_7, rfl, ⟨rfl, F_7, q7_0, q7_1, rfl⟩, by rw [ht]; exact hP, va_K.moved hW.alike hK, hD⟩, hS.F ht⟩) hS.2.2 dL_isLeft_17
