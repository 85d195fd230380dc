def zL_isOrdered : List Cond := .code yL_isOrdered cL_isOrdered 5 (some .boolean) :: zall
theorem iL_isOrdered : MWs yL_isOrdered (.code yL_isOrdered cL_isOrdered 5 (some .boolean)) := ⟨(zin__r4 (.static yL_isOrdered) (List.mem_of_getElem? (i := 22) rfl)), (zin__r2 (.initialized RL) (List.mem_of_getElem? (i := 4) rfl)), (zin__r4 (.code yL_isOrdered cL_isOrdered 5 (some .boolean)) (List.mem_of_getElem? (i := 23) rfl))⟩
set_option maxHeartbeats 4000000 in
set_option maxRecDepth 100000 in
theorem c_L_isOrdered (l : Launch) (dC : Nat → ClassId) (dI : Nat → Nat → Nat) (ad : Nat → Nat) (o rw so ba ma : Nat) (cR cJ : ClassId) (sz : Nat) (T0 : CSt) (k : Nat) (f : Nat → Int64) (hk : k < 2) (h1 : one12 T0 k) (a1 b1 : Int32) (x y : Int64) (q0 : f 0 = x) (q1 : f 1 = y) (cx : kcn k x) (cy : kcn k y) (ea : a1 = if x = knan k then (1 : Int32) else 0) (eb : b1 = if y = knan k then (1 : Int32) else 0) : Met l yL_isOrdered zL_isOrdered ({ frames := 5, cells := 0, slots := 0, locals := 116 }) (va_Pc [.ref o, .int a1, .int b1] (fun U => cB dC dI ad o rw so ba ma cR cJ sz (stB T0 f) U)) (va_Qi (fun r9 S9 => r9 = 1 ∧ ∃ g : Nat → Int64, g 0 = x ∧ g 1 = y ∧ S9 = stB T0 g) (cE dC dI ad o rw so ba ma cR cJ (va_A (cWs ad o rw so ba ma cR cJ (stB T0 f)) sz)) (va_A (cWs ad o rw so ba ma cR cJ (stB T0 f)) sz)) 0 0 (va_A (cWs ad o rw so ba ma cR cJ (stB T0 f)) sz) := by
  refine Met.ofW (cc := cL_isOrdered) (maxL := 5) (ret := (some .boolean)) (by decide) rfl ?_
  intro p e s m args below meth c s₁ Bx hml hv
  obtain ⟨rfl, hsz, hP, hK, hD0, hkA⟩ := hv
  have hx := Bx.exec
  have hb := Bx.bytes
  have hr := Bx.returns
  have hts : ∀ w ∈ zall, w.before _ s = true := fun w h => atoms_spec (ws := zL_isOrdered) Bx.pre w (List.mem_cons_of_mem _ h)
  have hown : s.vm.findClass RL = some m.cls := findClass_of_methodNamed Bx.named
  have hlocks := Bx.notSynchronized
  subst hsz
  have hD := hD0.self (sz := s.heap.size)
  generalize hAe : va_A (cWs ad o rw so ba ma cR cJ (stB T0 f)) s.heap.size = A at hD hkA ⊢
  have hA : ∀ q : Nat, s.heap.size ≤ q → A q := fun q h => by rw [← hAe]; exact Or.inr h
  have hS : va_S A s.heap s.heap [] := va_S.rf
  have hw : cH dC dI ad o rw so ba ma cR cJ (stB T0 f) s s.heap := ⟨hP, hK⟩
  have hl := lv_entry ([.ref o, .int a1, .int b1]) (n := 5) (Nat.le_of_ble_eq_true rfl)
  rw [lg_entry_eq]
  generalize (lg_sl ([.ref o, .int a1, .int b1]) ++ List.replicate (5 - (lg_sl ([.ref o, .int a1, .int b1])).length) Slot.unset).toArray = ls at hl ⊢
  have hl : lv_has ls 5 [(0, .ref o), (1, .int a1), (2, .int b1)] := hl
  rcases Decidable.em (x = knan k) with hxn | hxn
  · rw [if_pos hxn] at ea
    subst ea
    rcases Decidable.em (y = knan k) with hyn | hyn
    · rw [if_pos hyn] at eb
      subst eb
      refine lv_aload_n hx hb dL_isOrdered_0 rfl (lv_at hl 0 rfl) ?_
      refine lv_iconst (v := 0) hx hb dL_isOrdered_1 (by decide) ?_
      refine lv_iconst (v := 0) hx hb dL_isOrdered_2 (by decide) ?_
      refine lv_iconst (v := 1) hx hb dL_isOrdered_3 (by decide) ?_
      have hFc := va_freeAll hD hS hA
      refine va_calli (va_runV (As := [.int (0 : Int32), .int (0 : Int32), .int (1 : Int32)]) (rest := []) ⟨hx, hb, hml, hown, hts⟩ (c_X6_compare l dC dI ad o rw so ba ma cR cJ s.heap.size (stB T0 f) (0 : Int32) (0 : Int32) (1 : Int32) (inv12 h1 hk)) (cwV 3 hts (gV iX6_compare (zin__r5 (.methodLink RL 7 yX6_compare) (List.mem_of_getElem? (i := 0) rfl))) rfl rfl rfl (by decide +kernel) ⟨Nat.le_of_ble_eq_true rfl, Nat.le_of_ble_eq_true rfl⟩) ⟨fun a U g mk q => ⟨q.1, cB_bl q.2⟩, cW_rv hw, fun U hU hW => ⟨rfl, cB_mv hw hD (kA_in hkA hS hFc) hU hW⟩⟩ rfl rfl hl.1 rfl (lv_room (Nat.le_of_ble_eq_true rfl)) dL_isOrdered_4 ⟨Nat.zero_le _, Nat.zero_le _⟩) hS (fun q _ h => hFc q h) hFc (fun r_4 S_4 t H1 locs ht hvm hw1 hB hz1 hk1 hS => ?_)
      obtain ⟨hP, -, hD1⟩ := hB
      rw [ht] at hP
      have hD := hD1.weaken (fun k q _ h => hFc q.1 h)
      generalize H1 = H at hP hS ⊢
      obtain ⟨rfl, rfl⟩ : (f_X1_relations k x y) = r_4 ∧ stB T0 f = S_4 := Prod.mk.inj (hw1.trans (compare_at (i := 0) (j := 1) h1 (by decide) (by decide) q0 q1)).symm
      have hw : cH dC dI ad o rw so ba ma cR cJ (stB T0 f) s H := ⟨hP, hK⟩
      refine lv_istore_n (lv' := [(3, .int (f_X1_relations k x y)), (0, .ref o), (1, .int (1 : Int32)), (2, .int (1 : Int32))]) hx hb dL_isOrdered_7 rfl hl (by decide) rfl (fun ls hl => ?_)
      refine lv_aload_n hx hb dL_isOrdered_8 rfl (lv_at hl 1 rfl) ?_
      refine lv_iconst (v := 0) hx hb dL_isOrdered_9 (by decide) ?_
      refine lv_iconst (v := 0) hx hb dL_isOrdered_10 (by decide) ?_
      refine lv_iconst (v := 1) hx hb dL_isOrdered_11 (by decide) ?_
      have hFc := va_freeAll hD hS hA
      refine va_calli (va_runV (As := [.int (0 : Int32), .int (0 : Int32), .int (1 : Int32)]) (rest := []) ⟨hx, hb, hml, hown, hts⟩ (c_X6_total l dC dI ad o rw so ba ma cR cJ H.size (stB T0 f) (0 : Int32) (0 : Int32) (1 : Int32) (inv12 h1 hk)) (cwV 3 hts (gV iX6_total (zin__r5 (.methodLink RL 49 yX6_total) (List.mem_of_getElem? (i := 21) rfl))) rfl rfl rfl (by decide +kernel) ⟨Nat.le_of_ble_eq_true rfl, Nat.le_of_ble_eq_true rfl⟩) ⟨fun a U g mk q => ⟨q.1, cB_bl q.2⟩, cW_rv hw, fun U hU hW => ⟨rfl, cB_mv hw hD (kA_in hkA hS hFc) hU hW⟩⟩ rfl rfl hl.1 rfl (lv_room (Nat.le_of_ble_eq_true rfl)) dL_isOrdered_12 ⟨Nat.zero_le _, Nat.zero_le _⟩) hS (fun q _ h => hFc q h) hFc (fun r_12 S_12 t H1 locs ht hvm hw1 hB hz1 hk1 hS => ?_)
      obtain ⟨hP, -, hD1⟩ := hB
      rw [ht] at hP
      have hD := hD1.weaken (fun k q _ h => hFc q.1 h)
      generalize H1 = H at hP hS ⊢
      obtain ⟨rfl, rfl⟩ : (cmpT k x y) = r_12 ∧ stB T0 f = S_12 := Prod.mk.inj (hw1.trans (total_at (i := 0) (j := 1) h1 (by decide) (by decide) q0 q1)).symm
      have hw : cH dC dI ad o rw so ba ma cR cJ (stB T0 f) s H := ⟨hP, hK⟩
      refine lv_istore (lv' := [(4, .int (cmpT k x y)), (3, .int (f_X1_relations k x y)), (0, .ref o), (1, .int (1 : Int32)), (2, .int (1 : Int32))]) hx hb dL_isOrdered_15 hl (by decide) rfl (fun ls hl => ?_)
      refine lv_aload_n hx hb dL_isOrdered_17 rfl (lv_at hl 2 rfl) ?_
      refine lv_iconst (v := 0) hx hb dL_isOrdered_18 (by decide) ?_
      refine lv_iconst (v := 1) hx hb dL_isOrdered_19 (by decide) ?_
      refine lv_iconst (v := 0) hx hb dL_isOrdered_20 (by decide) ?_
      have hFc := va_freeAll hD hS hA
      refine va_calli (va_runV (As := [.int (0 : Int32), .int (1 : Int32), .int (0 : Int32)]) (rest := []) ⟨hx, hb, hml, hown, hts⟩ (c_X6_compare l dC dI ad o rw so ba ma cR cJ H.size (stB T0 f) (0 : Int32) (1 : Int32) (0 : Int32) (inv12 h1 hk)) (cwV 3 hts (gV iX6_compare (zin__r5 (.methodLink RL 7 yX6_compare) (List.mem_of_getElem? (i := 0) rfl))) rfl rfl rfl (by decide +kernel) ⟨Nat.le_of_ble_eq_true rfl, Nat.le_of_ble_eq_true rfl⟩) ⟨fun a U g mk q => ⟨q.1, cB_bl q.2⟩, cW_rv hw, fun U hU hW => ⟨rfl, cB_mv hw hD (kA_in hkA hS hFc) hU hW⟩⟩ rfl rfl hl.1 rfl (lv_room (Nat.le_of_ble_eq_true rfl)) dL_isOrdered_21 ⟨Nat.zero_le _, Nat.zero_le _⟩) hS (fun q _ h => hFc q h) hFc (fun r_21 S_21 t H1 locs ht hvm hw1 hB hz1 hk1 hS => ?_)
      obtain ⟨hP, -, hD1⟩ := hB
      rw [ht] at hP
      have hD := hD1.weaken (fun k q _ h => hFc q.1 h)
      generalize H1 = H at hP hS ⊢
      obtain ⟨rfl, rfl⟩ : (f_X1_relations k y x) = r_21 ∧ stB T0 f = S_21 := Prod.mk.inj (hw1.trans (compare_at (i := 1) (j := 0) h1 (by decide) (by decide) q1 q0)).symm
      have hw : cH dC dI ad o rw so ba ma cR cJ (stB T0 f) s H := ⟨hP, hK⟩
      refine lv_iload_n hx hb dL_isOrdered_24 rfl (lv_at hl 1 rfl) ?_
      refine vp_callSi (va_Run.run (va_runS (As := [.int (f_X1_relations k x y)]) (rest := [.int (f_X1_relations k y x)]) ⟨hx, hb, hml, hown, hts⟩ (c_L_round l (f_X1_relations k x y)) (va_cwS 1 hts (gS iL_round (zin__r6 (.methodLink RL 52 yL_round) (List.mem_of_getElem? (i := 6) rfl))) rfl rfl rfl (by decide +kernel) ⟨Nat.le_of_ble_eq_true rfl, Nat.le_of_ble_eq_true rfl⟩) ⟨fun a U g mk q => ⟨q.1, trivial⟩, fun U hU hW => ⟨rfl, trivial⟩⟩ rfl rfl hl.1 rfl (lv_room (Nat.le_of_ble_eq_true rfl)) dL_isOrdered_25 ⟨Nat.zero_le _, Nat.zero_le _⟩)) (fun r_25 hr_25 => ?_)
      subst hr_25
      refine lv_icmp_ne (tgt := 65) hx hb dL_isOrdered_28 (by decide) (fun c => absurd (show (f_X1_relations k y x) = (f_L_round (f_X1_relations k x y)) from (rel_turn hk cx cy).trans (round_is _).symm) c) (fun _ => ?_)
      refine lv_aload_n hx hb dL_isOrdered_31 rfl (lv_at hl 2 rfl) ?_
      refine lv_iconst (v := 0) hx hb dL_isOrdered_32 (by decide) ?_
      refine lv_iconst (v := 1) hx hb dL_isOrdered_33 (by decide) ?_
      refine lv_iconst (v := 0) hx hb dL_isOrdered_34 (by decide) ?_
      have hFc := va_freeAll hD hS hA
      refine va_calli (va_runV (As := [.int (0 : Int32), .int (1 : Int32), .int (0 : Int32)]) (rest := []) ⟨hx, hb, hml, hown, hts⟩ (c_X6_total l dC dI ad o rw so ba ma cR cJ H.size (stB T0 f) (0 : Int32) (1 : Int32) (0 : Int32) (inv12 h1 hk)) (cwV 3 hts (gV iX6_total (zin__r5 (.methodLink RL 49 yX6_total) (List.mem_of_getElem? (i := 21) rfl))) rfl rfl rfl (by decide +kernel) ⟨Nat.le_of_ble_eq_true rfl, Nat.le_of_ble_eq_true rfl⟩) ⟨fun a U g mk q => ⟨q.1, cB_bl q.2⟩, cW_rv hw, fun U hU hW => ⟨rfl, cB_mv hw hD (kA_in hkA hS hFc) hU hW⟩⟩ rfl rfl hl.1 rfl (lv_room (Nat.le_of_ble_eq_true rfl)) dL_isOrdered_35 ⟨Nat.zero_le _, Nat.zero_le _⟩) hS (fun q _ h => hFc q h) hFc (fun r_35 S_35 t H1 locs ht hvm hw1 hB hz1 hk1 hS => ?_)
      obtain ⟨hP, -, hD1⟩ := hB
      rw [ht] at hP
      have hD := hD1.weaken (fun k q _ h => hFc q.1 h)
      generalize H1 = H at hP hS ⊢
      obtain ⟨rfl, rfl⟩ : (cmpT k y x) = r_35 ∧ stB T0 f = S_35 := Prod.mk.inj (hw1.trans (total_at (i := 1) (j := 0) h1 (by decide) (by decide) q1 q0)).symm
      have hw : cH dC dI ad o rw so ba ma cR cJ (stB T0 f) s H := ⟨hP, hK⟩
      refine lv_iload hx hb dL_isOrdered_38 (lv_at hl 0 rfl) ?_
      refine lv_ineg hx hb dL_isOrdered_40 ?_
      refine lv_icmp_ne (tgt := 65) hx hb dL_isOrdered_41 (by decide) (fun c => absurd (show (cmpT k y x) = (-(cmpT k x y)) from tot_turn) c) (fun _ => ?_)
      refine lv_aload_n hx hb dL_isOrdered_44 rfl (lv_at hl 2 rfl) ?_
      refine lv_iconst (v := 0) hx hb dL_isOrdered_45 (by decide) ?_
      refine lv_iconst (v := 0) hx hb dL_isOrdered_46 (by decide) ?_
      refine lv_iconst (v := 0) hx hb dL_isOrdered_47 (by decide) ?_
      have hFc := va_freeAll hD hS hA
      refine va_calli (va_runV (As := [.int (0 : Int32), .int (0 : Int32), .int (0 : Int32)]) (rest := []) ⟨hx, hb, hml, hown, hts⟩ (c_X6_compare l dC dI ad o rw so ba ma cR cJ H.size (stB T0 f) (0 : Int32) (0 : Int32) (0 : Int32) (inv12 h1 hk)) (cwV 3 hts (gV iX6_compare (zin__r5 (.methodLink RL 7 yX6_compare) (List.mem_of_getElem? (i := 0) rfl))) rfl rfl rfl (by decide +kernel) ⟨Nat.le_of_ble_eq_true rfl, Nat.le_of_ble_eq_true rfl⟩) ⟨fun a U g mk q => ⟨q.1, cB_bl q.2⟩, cW_rv hw, fun U hU hW => ⟨rfl, cB_mv hw hD (kA_in hkA hS hFc) hU hW⟩⟩ rfl rfl hl.1 rfl (lv_room (Nat.le_of_ble_eq_true rfl)) dL_isOrdered_48 ⟨Nat.zero_le _, Nat.zero_le _⟩) hS (fun q _ h => hFc q h) hFc (fun r_48 S_48 t H1 locs ht hvm hw1 hB hz1 hk1 hS => ?_)
      obtain ⟨hP, -, hD1⟩ := hB
      rw [ht] at hP
      have hD := hD1.weaken (fun k q _ h => hFc q.1 h)
      generalize H1 = H at hP hS ⊢
      obtain ⟨rfl, rfl⟩ : (f_X1_relations k x x) = r_48 ∧ stB T0 f = S_48 := Prod.mk.inj (hw1.trans (compare_at (i := 0) (j := 0) h1 (by decide) (by decide) q0 q0)).symm
      have hw : cH dC dI ad o rw so ba ma cR cJ (stB T0 f) s H := ⟨hP, hK⟩
      refine lv_iload_n hx hb dL_isOrdered_51 rfl (lv_at hl 3 rfl) ?_
      refine lv_if_eq (tgt := 60) hx hb dL_isOrdered_52 (by decide) (fun c => absurd c (show ¬ ((1 : Int32) = 0) from by decide)) (fun _ => ?_)
      refine lv_bipush (v := 32) hx hb dL_isOrdered_55 (by decide) ?_
      refine lv_goto (tgt := 62) hx hb dL_isOrdered_57 (by decide) ?_
      refine lv_icmp_eq (tgt := 67) hx hb dL_isOrdered_62 (by decide) (fun _ => ?_) (fun c => absurd (show (f_X1_relations k x x) = (32 : Int32) from (rel_self hk cx).trans (if_pos hxn)) c)
      refine lv_iload_n hx hb dL_isOrdered_67 rfl (lv_at hl 3 rfl) ?_
      refine lv_if_ne (tgt := 75) hx hb dL_isOrdered_68 (by decide) (fun _ => ?_) (fun c => absurd c (show ¬ ((1 : Int32) = 0) from by decide))
      refine lv_iload_n hx hb dL_isOrdered_75 rfl (lv_at hl 1 rfl) ?_
      refine lv_bipush (v := 32) hx hb dL_isOrdered_76 (by decide) ?_
      refine lv_icmp_ne (tgt := 123) hx hb dL_isOrdered_78 (by decide) (fun c => absurd (show (f_X1_relations k x y) = (32 : Int32) from (ord_nan hk cx cy (Or.inl hxn)).1) c) (fun _ => ?_)
      refine lv_iload hx hb dL_isOrdered_81 (lv_at hl 0 rfl) ?_
      refine lv_iload_n hx hb dL_isOrdered_83 rfl (lv_at hl 3 rfl) ?_
      refine lv_if_eq (tgt := 95) hx hb dL_isOrdered_84 (by decide) (fun c => absurd c (show ¬ ((1 : Int32) = 0) from by decide)) (fun _ => ?_)
      refine lv_iload_n hx hb dL_isOrdered_87 rfl (lv_at hl 4 rfl) ?_
      refine lv_if_eq (tgt := 95) hx hb dL_isOrdered_88 (by decide) (fun c => absurd c (show ¬ ((1 : Int32) = 0) from by decide)) (fun _ => ?_)
      refine lv_iconst (v := 0) hx hb dL_isOrdered_91 (by decide) ?_
      refine lv_goto (tgt := 104) hx hb dL_isOrdered_92 (by decide) ?_
      refine lv_icmp_ne (tgt := 123) hx hb dL_isOrdered_104 (by decide) (fun c => absurd (show (cmpT k x y) = (0 : Int32) from (ord_nan hk cx cy (Or.inl hxn)).2.trans ((if_pos hxn).trans (if_pos hyn))) c) (fun _ => ?_)
      refine lv_aload_n hx hb dL_isOrdered_107 rfl (lv_at hl 2 rfl) ?_
      refine lv_iconst (v := 0) hx hb dL_isOrdered_108 (by decide) ?_
      refine lv_iconst (v := 0) hx hb dL_isOrdered_109 (by decide) ?_
      refine lv_iconst (v := 1) hx hb dL_isOrdered_110 (by decide) ?_
      refine lv_iconst (v := 1) hx hb dL_isOrdered_111 (by decide) ?_
      have hFc := va_freeAll hD hS hA
      refine va_calli (va_runV (As := [.int (0 : Int32), .int (0 : Int32), .int (1 : Int32), .int (1 : Int32)]) (rest := []) ⟨hx, hb, hml, hown, hts⟩ (c_X6_between l dC dI ad o rw so ba ma cR cJ H.size (stB T0 f) (0 : Int32) (0 : Int32) (1 : Int32) (1 : Int32) (inv12 h1 hk)) (cwV 4 hts (gV iX6_between (zin__r6 (.methodLink RL 56 yX6_between) (List.mem_of_getElem? (i := 9) rfl))) rfl rfl rfl (by decide +kernel) ⟨Nat.le_of_ble_eq_true rfl, Nat.le_of_ble_eq_true rfl⟩) ⟨fun a U g mk q => ⟨q.1, cB_bl q.2⟩, cW_rv hw, fun U hU hW => ⟨rfl, cB_mv hw hD (kA_in hkA hS hFc) hU hW⟩⟩ rfl rfl hl.1 rfl (lv_room (Nat.le_of_ble_eq_true rfl)) dL_isOrdered_112 ⟨Nat.zero_le _, Nat.zero_le _⟩) hS (fun q _ h => hFc q h) hFc (fun r_112 S_112 t H1 locs ht hvm hw1 hB hz1 hk1 hS => ?_)
      obtain ⟨hP, -, hD1⟩ := hB
      rw [ht] at hP
      have hD := hD1.weaken (fun k q _ h => hFc q.1 h)
      generalize H1 = H at hP hS ⊢
      obtain ⟨rfl, rfl⟩ : r_112 = (2 : Int32) ∧ S_112 = stB T0 f := Prod.mk.inj (hw1.trans (between_nan (i := 0) (j := 1) h1 hk (by decide) (by decide) q0 q1 cx cy (Or.inl hxn)))
      have hw : cH dC dI ad o rw so ba ma cR cJ (stB T0 f) s H := ⟨hP, hK⟩
      refine lv_iconst (v := 2) hx hb dL_isOrdered_115 (by decide) ?_
      refine lv_icmp_ne (tgt := 123) hx hb dL_isOrdered_116 (by decide) (fun c => absurd (show (2 : Int32) = (2 : Int32) from rfl) c) (fun _ => ?_)
      refine lv_iconst (v := 1) hx hb dL_isOrdered_119 (by decide) ?_
      refine lv_goto (tgt := 124) hx hb dL_isOrdered_120 (by decide) ?_
      exact W.zret hx hb hr rfl (fun t ht hW => ⟨⟨_, stB T0 f, rfl, ⟨rfl, f, q0, q1, rfl⟩, by rw [ht]; exact hP, va_K.moved hW.alike hK, hD⟩, hS.F ht⟩) hS.2.2 dL_isOrdered_124
    · rw [if_neg hyn] at eb
      subst eb
      refine lv_aload_n hx hb dL_isOrdered_0 rfl (lv_at hl 0 rfl) ?_
      refine lv_iconst (v := 0) hx hb dL_isOrdered_1 (by decide) ?_
      refine lv_iconst (v := 0) hx hb dL_isOrdered_2 (by decide) ?_
      refine lv_iconst (v := 1) hx hb dL_isOrdered_3 (by decide) ?_
      have hFc := va_freeAll hD hS hA
      refine va_calli (va_runV (As := [.int (0 : Int32), .int (0 : Int32), .int (1 : Int32)]) (rest := []) ⟨hx, hb, hml, hown, hts⟩ (c_X6_compare l dC dI ad o rw so ba ma cR cJ s.heap.size (stB T0 f) (0 : Int32) (0 : Int32) (1 : Int32) (inv12 h1 hk)) (cwV 3 hts (gV iX6_compare (zin__r5 (.methodLink RL 7 yX6_compare) (List.mem_of_getElem? (i := 0) rfl))) rfl rfl rfl (by decide +kernel) ⟨Nat.le_of_ble_eq_true rfl, Nat.le_of_ble_eq_true rfl⟩) ⟨fun a U g mk q => ⟨q.1, cB_bl q.2⟩, cW_rv hw, fun U hU hW => ⟨rfl, cB_mv hw hD (kA_in hkA hS hFc) hU hW⟩⟩ rfl rfl hl.1 rfl (lv_room (Nat.le_of_ble_eq_true rfl)) dL_isOrdered_4 ⟨Nat.zero_le _, Nat.zero_le _⟩) hS (fun q _ h => hFc q h) hFc (fun r_4 S_4 t H1 locs ht hvm hw1 hB hz1 hk1 hS => ?_)
      obtain ⟨hP, -, hD1⟩ := hB
      rw [ht] at hP
      have hD := hD1.weaken (fun k q _ h => hFc q.1 h)
      generalize H1 = H at hP hS ⊢
      obtain ⟨rfl, rfl⟩ : (f_X1_relations k x y) = r_4 ∧ stB T0 f = S_4 := Prod.mk.inj (hw1.trans (compare_at (i := 0) (j := 1) h1 (by decide) (by decide) q0 q1)).symm
      have hw : cH dC dI ad o rw so ba ma cR cJ (stB T0 f) s H := ⟨hP, hK⟩
      refine lv_istore_n (lv' := [(3, .int (f_X1_relations k x y)), (0, .ref o), (1, .int (1 : Int32)), (2, .int (0 : Int32))]) hx hb dL_isOrdered_7 rfl hl (by decide) rfl (fun ls hl => ?_)
      refine lv_aload_n hx hb dL_isOrdered_8 rfl (lv_at hl 1 rfl) ?_
      refine lv_iconst (v := 0) hx hb dL_isOrdered_9 (by decide) ?_
      refine lv_iconst (v := 0) hx hb dL_isOrdered_10 (by decide) ?_
      refine lv_iconst (v := 1) hx hb dL_isOrdered_11 (by decide) ?_
      have hFc := va_freeAll hD hS hA
      refine va_calli (va_runV (As := [.int (0 : Int32), .int (0 : Int32), .int (1 : Int32)]) (rest := []) ⟨hx, hb, hml, hown, hts⟩ (c_X6_total l dC dI ad o rw so ba ma cR cJ H.size (stB T0 f) (0 : Int32) (0 : Int32) (1 : Int32) (inv12 h1 hk)) (cwV 3 hts (gV iX6_total (zin__r5 (.methodLink RL 49 yX6_total) (List.mem_of_getElem? (i := 21) rfl))) rfl rfl rfl (by decide +kernel) ⟨Nat.le_of_ble_eq_true rfl, Nat.le_of_ble_eq_true rfl⟩) ⟨fun a U g mk q => ⟨q.1, cB_bl q.2⟩, cW_rv hw, fun U hU hW => ⟨rfl, cB_mv hw hD (kA_in hkA hS hFc) hU hW⟩⟩ rfl rfl hl.1 rfl (lv_room (Nat.le_of_ble_eq_true rfl)) dL_isOrdered_12 ⟨Nat.zero_le _, Nat.zero_le _⟩) hS (fun q _ h => hFc q h) hFc (fun r_12 S_12 t H1 locs ht hvm hw1 hB hz1 hk1 hS => ?_)
      obtain ⟨hP, -, hD1⟩ := hB
      rw [ht] at hP
      have hD := hD1.weaken (fun k q _ h => hFc q.1 h)
      generalize H1 = H at hP hS ⊢
      obtain ⟨rfl, rfl⟩ : (cmpT k x y) = r_12 ∧ stB T0 f = S_12 := Prod.mk.inj (hw1.trans (total_at (i := 0) (j := 1) h1 (by decide) (by decide) q0 q1)).symm
      have hw : cH dC dI ad o rw so ba ma cR cJ (stB T0 f) s H := ⟨hP, hK⟩
      refine lv_istore (lv' := [(4, .int (cmpT k x y)), (3, .int (f_X1_relations k x y)), (0, .ref o), (1, .int (1 : Int32)), (2, .int (0 : Int32))]) hx hb dL_isOrdered_15 hl (by decide) rfl (fun ls hl => ?_)
      refine lv_aload_n hx hb dL_isOrdered_17 rfl (lv_at hl 2 rfl) ?_
      refine lv_iconst (v := 0) hx hb dL_isOrdered_18 (by decide) ?_
      refine lv_iconst (v := 1) hx hb dL_isOrdered_19 (by decide) ?_
      refine lv_iconst (v := 0) hx hb dL_isOrdered_20 (by decide) ?_
      have hFc := va_freeAll hD hS hA
      refine va_calli (va_runV (As := [.int (0 : Int32), .int (1 : Int32), .int (0 : Int32)]) (rest := []) ⟨hx, hb, hml, hown, hts⟩ (c_X6_compare l dC dI ad o rw so ba ma cR cJ H.size (stB T0 f) (0 : Int32) (1 : Int32) (0 : Int32) (inv12 h1 hk)) (cwV 3 hts (gV iX6_compare (zin__r5 (.methodLink RL 7 yX6_compare) (List.mem_of_getElem? (i := 0) rfl))) rfl rfl rfl (by decide +kernel) ⟨Nat.le_of_ble_eq_true rfl, Nat.le_of_ble_eq_true rfl⟩) ⟨fun a U g mk q => ⟨q.1, cB_bl q.2⟩, cW_rv hw, fun U hU hW => ⟨rfl, cB_mv hw hD (kA_in hkA hS hFc) hU hW⟩⟩ rfl rfl hl.1 rfl (lv_room (Nat.le_of_ble_eq_true rfl)) dL_isOrdered_21 ⟨Nat.zero_le _, Nat.zero_le _⟩) hS (fun q _ h => hFc q h) hFc (fun r_21 S_21 t H1 locs ht hvm hw1 hB hz1 hk1 hS => ?_)
      obtain ⟨hP, -, hD1⟩ := hB
      rw [ht] at hP
      have hD := hD1.weaken (fun k q _ h => hFc q.1 h)
      generalize H1 = H at hP hS ⊢
      obtain ⟨rfl, rfl⟩ : (f_X1_relations k y x) = r_21 ∧ stB T0 f = S_21 := Prod.mk.inj (hw1.trans (compare_at (i := 1) (j := 0) h1 (by decide) (by decide) q1 q0)).symm
      have hw : cH dC dI ad o rw so ba ma cR cJ (stB T0 f) s H := ⟨hP, hK⟩
      refine lv_iload_n hx hb dL_isOrdered_24 rfl (lv_at hl 1 rfl) ?_
      refine vp_callSi (va_Run.run (va_runS (As := [.int (f_X1_relations k x y)]) (rest := [.int (f_X1_relations k y x)]) ⟨hx, hb, hml, hown, hts⟩ (c_L_round l (f_X1_relations k x y)) (va_cwS 1 hts (gS iL_round (zin__r6 (.methodLink RL 52 yL_round) (List.mem_of_getElem? (i := 6) rfl))) rfl rfl rfl (by decide +kernel) ⟨Nat.le_of_ble_eq_true rfl, Nat.le_of_ble_eq_true rfl⟩) ⟨fun a U g mk q => ⟨q.1, trivial⟩, fun U hU hW => ⟨rfl, trivial⟩⟩ rfl rfl hl.1 rfl (lv_room (Nat.le_of_ble_eq_true rfl)) dL_isOrdered_25 ⟨Nat.zero_le _, Nat.zero_le _⟩)) (fun r_25 hr_25 => ?_)
      subst hr_25
      refine lv_icmp_ne (tgt := 65) hx hb dL_isOrdered_28 (by decide) (fun c => absurd (show (f_X1_relations k y x) = (f_L_round (f_X1_relations k x y)) from (rel_turn hk cx cy).trans (round_is _).symm) c) (fun _ => ?_)
      refine lv_aload_n hx hb dL_isOrdered_31 rfl (lv_at hl 2 rfl) ?_
      refine lv_iconst (v := 0) hx hb dL_isOrdered_32 (by decide) ?_
      refine lv_iconst (v := 1) hx hb dL_isOrdered_33 (by decide) ?_
      refine lv_iconst (v := 0) hx hb dL_isOrdered_34 (by decide) ?_
      have hFc := va_freeAll hD hS hA
      refine va_calli (va_runV (As := [.int (0 : Int32), .int (1 : Int32), .int (0 : Int32)]) (rest := []) ⟨hx, hb, hml, hown, hts⟩ (c_X6_total l dC dI ad o rw so ba ma cR cJ H.size (stB T0 f) (0 : Int32) (1 : Int32) (0 : Int32) (inv12 h1 hk)) (cwV 3 hts (gV iX6_total (zin__r5 (.methodLink RL 49 yX6_total) (List.mem_of_getElem? (i := 21) rfl))) rfl rfl rfl (by decide +kernel) ⟨Nat.le_of_ble_eq_true rfl, Nat.le_of_ble_eq_true rfl⟩) ⟨fun a U g mk q => ⟨q.1, cB_bl q.2⟩, cW_rv hw, fun U hU hW => ⟨rfl, cB_mv hw hD (kA_in hkA hS hFc) hU hW⟩⟩ rfl rfl hl.1 rfl (lv_room (Nat.le_of_ble_eq_true rfl)) dL_isOrdered_35 ⟨Nat.zero_le _, Nat.zero_le _⟩) hS (fun q _ h => hFc q h) hFc (fun r_35 S_35 t H1 locs ht hvm hw1 hB hz1 hk1 hS => ?_)
      obtain ⟨hP, -, hD1⟩ := hB
      rw [ht] at hP
      have hD := hD1.weaken (fun k q _ h => hFc q.1 h)
      generalize H1 = H at hP hS ⊢
      obtain ⟨rfl, rfl⟩ : (cmpT k y x) = r_35 ∧ stB T0 f = S_35 := Prod.mk.inj (hw1.trans (total_at (i := 1) (j := 0) h1 (by decide) (by decide) q1 q0)).symm
      have hw : cH dC dI ad o rw so ba ma cR cJ (stB T0 f) s H := ⟨hP, hK⟩
      refine lv_iload hx hb dL_isOrdered_38 (lv_at hl 0 rfl) ?_
      refine lv_ineg hx hb dL_isOrdered_40 ?_
      refine lv_icmp_ne (tgt := 65) hx hb dL_isOrdered_41 (by decide) (fun c => absurd (show (cmpT k y x) = (-(cmpT k x y)) from tot_turn) c) (fun _ => ?_)
      refine lv_aload_n hx hb dL_isOrdered_44 rfl (lv_at hl 2 rfl) ?_
      refine lv_iconst (v := 0) hx hb dL_isOrdered_45 (by decide) ?_
      refine lv_iconst (v := 0) hx hb dL_isOrdered_46 (by decide) ?_
      refine lv_iconst (v := 0) hx hb dL_isOrdered_47 (by decide) ?_
      have hFc := va_freeAll hD hS hA
      refine va_calli (va_runV (As := [.int (0 : Int32), .int (0 : Int32), .int (0 : Int32)]) (rest := []) ⟨hx, hb, hml, hown, hts⟩ (c_X6_compare l dC dI ad o rw so ba ma cR cJ H.size (stB T0 f) (0 : Int32) (0 : Int32) (0 : Int32) (inv12 h1 hk)) (cwV 3 hts (gV iX6_compare (zin__r5 (.methodLink RL 7 yX6_compare) (List.mem_of_getElem? (i := 0) rfl))) rfl rfl rfl (by decide +kernel) ⟨Nat.le_of_ble_eq_true rfl, Nat.le_of_ble_eq_true rfl⟩) ⟨fun a U g mk q => ⟨q.1, cB_bl q.2⟩, cW_rv hw, fun U hU hW => ⟨rfl, cB_mv hw hD (kA_in hkA hS hFc) hU hW⟩⟩ rfl rfl hl.1 rfl (lv_room (Nat.le_of_ble_eq_true rfl)) dL_isOrdered_48 ⟨Nat.zero_le _, Nat.zero_le _⟩) hS (fun q _ h => hFc q h) hFc (fun r_48 S_48 t H1 locs ht hvm hw1 hB hz1 hk1 hS => ?_)
      obtain ⟨hP, -, hD1⟩ := hB
      rw [ht] at hP
      have hD := hD1.weaken (fun k q _ h => hFc q.1 h)
      generalize H1 = H at hP hS ⊢
      obtain ⟨rfl, rfl⟩ : (f_X1_relations k x x) = r_48 ∧ stB T0 f = S_48 := Prod.mk.inj (hw1.trans (compare_at (i := 0) (j := 0) h1 (by decide) (by decide) q0 q0)).symm
      have hw : cH dC dI ad o rw so ba ma cR cJ (stB T0 f) s H := ⟨hP, hK⟩
      refine lv_iload_n hx hb dL_isOrdered_51 rfl (lv_at hl 3 rfl) ?_
      refine lv_if_eq (tgt := 60) hx hb dL_isOrdered_52 (by decide) (fun c => absurd c (show ¬ ((1 : Int32) = 0) from by decide)) (fun _ => ?_)
      refine lv_bipush (v := 32) hx hb dL_isOrdered_55 (by decide) ?_
      refine lv_goto (tgt := 62) hx hb dL_isOrdered_57 (by decide) ?_
      refine lv_icmp_eq (tgt := 67) hx hb dL_isOrdered_62 (by decide) (fun _ => ?_) (fun c => absurd (show (f_X1_relations k x x) = (32 : Int32) from (rel_self hk cx).trans (if_pos hxn)) c)
      refine lv_iload_n hx hb dL_isOrdered_67 rfl (lv_at hl 3 rfl) ?_
      refine lv_if_ne (tgt := 75) hx hb dL_isOrdered_68 (by decide) (fun _ => ?_) (fun c => absurd c (show ¬ ((1 : Int32) = 0) from by decide))
      refine lv_iload_n hx hb dL_isOrdered_75 rfl (lv_at hl 1 rfl) ?_
      refine lv_bipush (v := 32) hx hb dL_isOrdered_76 (by decide) ?_
      refine lv_icmp_ne (tgt := 123) hx hb dL_isOrdered_78 (by decide) (fun c => absurd (show (f_X1_relations k x y) = (32 : Int32) from (ord_nan hk cx cy (Or.inl hxn)).1) c) (fun _ => ?_)
      refine lv_iload hx hb dL_isOrdered_81 (lv_at hl 0 rfl) ?_
      refine lv_iload_n hx hb dL_isOrdered_83 rfl (lv_at hl 3 rfl) ?_
      refine lv_if_eq (tgt := 95) hx hb dL_isOrdered_84 (by decide) (fun c => absurd c (show ¬ ((1 : Int32) = 0) from by decide)) (fun _ => ?_)
      refine lv_iload_n hx hb dL_isOrdered_87 rfl (lv_at hl 4 rfl) ?_
      refine lv_if_eq (tgt := 95) hx hb dL_isOrdered_88 (by decide) (fun _ => ?_) (fun c => absurd (show (0 : Int32) = 0 from by decide) c)
      refine lv_iload_n hx hb dL_isOrdered_95 rfl (lv_at hl 3 rfl) ?_
      refine lv_if_eq (tgt := 103) hx hb dL_isOrdered_96 (by decide) (fun c => absurd c (show ¬ ((1 : Int32) = 0) from by decide)) (fun _ => ?_)
      refine lv_iconst (v := 1) hx hb dL_isOrdered_99 (by decide) ?_
      refine lv_goto (tgt := 104) hx hb dL_isOrdered_100 (by decide) ?_
      refine lv_icmp_ne (tgt := 123) hx hb dL_isOrdered_104 (by decide) (fun c => absurd (show (cmpT k x y) = (1 : Int32) from (ord_nan hk cx cy (Or.inl hxn)).2.trans ((if_pos hxn).trans (if_neg hyn))) c) (fun _ => ?_)
      refine lv_aload_n hx hb dL_isOrdered_107 rfl (lv_at hl 2 rfl) ?_
      refine lv_iconst (v := 0) hx hb dL_isOrdered_108 (by decide) ?_
      refine lv_iconst (v := 0) hx hb dL_isOrdered_109 (by decide) ?_
      refine lv_iconst (v := 1) hx hb dL_isOrdered_110 (by decide) ?_
      refine lv_iconst (v := 1) hx hb dL_isOrdered_111 (by decide) ?_
      have hFc := va_freeAll hD hS hA
      refine va_calli (va_runV (As := [.int (0 : Int32), .int (0 : Int32), .int (1 : Int32), .int (1 : Int32)]) (rest := []) ⟨hx, hb, hml, hown, hts⟩ (c_X6_between l dC dI ad o rw so ba ma cR cJ H.size (stB T0 f) (0 : Int32) (0 : Int32) (1 : Int32) (1 : Int32) (inv12 h1 hk)) (cwV 4 hts (gV iX6_between (zin__r6 (.methodLink RL 56 yX6_between) (List.mem_of_getElem? (i := 9) rfl))) rfl rfl rfl (by decide +kernel) ⟨Nat.le_of_ble_eq_true rfl, Nat.le_of_ble_eq_true rfl⟩) ⟨fun a U g mk q => ⟨q.1, cB_bl q.2⟩, cW_rv hw, fun U hU hW => ⟨rfl, cB_mv hw hD (kA_in hkA hS hFc) hU hW⟩⟩ rfl rfl hl.1 rfl (lv_room (Nat.le_of_ble_eq_true rfl)) dL_isOrdered_112 ⟨Nat.zero_le _, Nat.zero_le _⟩) hS (fun q _ h => hFc q h) hFc (fun r_112 S_112 t H1 locs ht hvm hw1 hB hz1 hk1 hS => ?_)
      obtain ⟨hP, -, hD1⟩ := hB
      rw [ht] at hP
      have hD := hD1.weaken (fun k q _ h => hFc q.1 h)
      generalize H1 = H at hP hS ⊢
      obtain ⟨rfl, rfl⟩ : r_112 = (2 : Int32) ∧ S_112 = stB T0 f := Prod.mk.inj (hw1.trans (between_nan (i := 0) (j := 1) h1 hk (by decide) (by decide) q0 q1 cx cy (Or.inl hxn)))
      have hw : cH dC dI ad o rw so ba ma cR cJ (stB T0 f) s H := ⟨hP, hK⟩
      refine lv_iconst (v := 2) hx hb dL_isOrdered_115 (by decide) ?_
      refine lv_icmp_ne (tgt := 123) hx hb dL_isOrdered_116 (by decide) (fun c => absurd (show (2 : Int32) = (2 : Int32) from rfl) c) (fun _ => ?_)
      refine lv_iconst (v := 1) hx hb dL_isOrdered_119 (by decide) ?_
      refine lv_goto (tgt := 124) hx hb dL_isOrdered_120 (by decide) ?_
      exact W.zret hx hb hr rfl (fun t ht hW => ⟨⟨_, stB T0 f, rfl, ⟨rfl, f, q0, q1, rfl⟩, by rw [ht]; exact hP, va_K.moved hW.alike hK, hD⟩, hS.F ht⟩) hS.2.2 dL_isOrdered_124
  · rw [if_neg hxn] at ea
    subst ea
    rcases Decidable.em (y = knan k) with hyn | hyn
    · rw [if_pos hyn] at eb
      subst eb
      refine lv_aload_n hx hb dL_isOrdered_0 rfl (lv_at hl 0 rfl) ?_
      refine lv_iconst (v := 0) hx hb dL_isOrdered_1 (by decide) ?_
      refine lv_iconst (v := 0) hx hb dL_isOrdered_2 (by decide) ?_
      refine lv_iconst (v := 1) hx hb dL_isOrdered_3 (by decide) ?_
      have hFc := va_freeAll hD hS hA
      refine va_calli (va_runV (As := [.int (0 : Int32), .int (0 : Int32), .int (1 : Int32)]) (rest := []) ⟨hx, hb, hml, hown, hts⟩ (c_X6_compare l dC dI ad o rw so ba ma cR cJ s.heap.size (stB T0 f) (0 : Int32) (0 : Int32) (1 : Int32) (inv12 h1 hk)) (cwV 3 hts (gV iX6_compare (zin__r5 (.methodLink RL 7 yX6_compare) (List.mem_of_getElem? (i := 0) rfl))) rfl rfl rfl (by decide +kernel) ⟨Nat.le_of_ble_eq_true rfl, Nat.le_of_ble_eq_true rfl⟩) ⟨fun a U g mk q => ⟨q.1, cB_bl q.2⟩, cW_rv hw, fun U hU hW => ⟨rfl, cB_mv hw hD (kA_in hkA hS hFc) hU hW⟩⟩ rfl rfl hl.1 rfl (lv_room (Nat.le_of_ble_eq_true rfl)) dL_isOrdered_4 ⟨Nat.zero_le _, Nat.zero_le _⟩) hS (fun q _ h => hFc q h) hFc (fun r_4 S_4 t H1 locs ht hvm hw1 hB hz1 hk1 hS => ?_)
      obtain ⟨hP, -, hD1⟩ := hB
      rw [ht] at hP
      have hD := hD1.weaken (fun k q _ h => hFc q.1 h)
      generalize H1 = H at hP hS ⊢
      obtain ⟨rfl, rfl⟩ : (f_X1_relations k x y) = r_4 ∧ stB T0 f = S_4 := Prod.mk.inj (hw1.trans (compare_at (i := 0) (j := 1) h1 (by decide) (by decide) q0 q1)).symm
      have hw : cH dC dI ad o rw so ba ma cR cJ (stB T0 f) s H := ⟨hP, hK⟩
      refine lv_istore_n (lv' := [(3, .int (f_X1_relations k x y)), (0, .ref o), (1, .int (0 : Int32)), (2, .int (1 : Int32))]) hx hb dL_isOrdered_7 rfl hl (by decide) rfl (fun ls hl => ?_)
      refine lv_aload_n hx hb dL_isOrdered_8 rfl (lv_at hl 1 rfl) ?_
      refine lv_iconst (v := 0) hx hb dL_isOrdered_9 (by decide) ?_
      refine lv_iconst (v := 0) hx hb dL_isOrdered_10 (by decide) ?_
      refine lv_iconst (v := 1) hx hb dL_isOrdered_11 (by decide) ?_
      have hFc := va_freeAll hD hS hA
      refine va_calli (va_runV (As := [.int (0 : Int32), .int (0 : Int32), .int (1 : Int32)]) (rest := []) ⟨hx, hb, hml, hown, hts⟩ (c_X6_total l dC dI ad o rw so ba ma cR cJ H.size (stB T0 f) (0 : Int32) (0 : Int32) (1 : Int32) (inv12 h1 hk)) (cwV 3 hts (gV iX6_total (zin__r5 (.methodLink RL 49 yX6_total) (List.mem_of_getElem? (i := 21) rfl))) rfl rfl rfl (by decide +kernel) ⟨Nat.le_of_ble_eq_true rfl, Nat.le_of_ble_eq_true rfl⟩) ⟨fun a U g mk q => ⟨q.1, cB_bl q.2⟩, cW_rv hw, fun U hU hW => ⟨rfl, cB_mv hw hD (kA_in hkA hS hFc) hU hW⟩⟩ rfl rfl hl.1 rfl (lv_room (Nat.le_of_ble_eq_true rfl)) dL_isOrdered_12 ⟨Nat.zero_le _, Nat.zero_le _⟩) hS (fun q _ h => hFc q h) hFc (fun r_12 S_12 t H1 locs ht hvm hw1 hB hz1 hk1 hS => ?_)
      obtain ⟨hP, -, hD1⟩ := hB
      rw [ht] at hP
      have hD := hD1.weaken (fun k q _ h => hFc q.1 h)
      generalize H1 = H at hP hS ⊢
      obtain ⟨rfl, rfl⟩ : (cmpT k x y) = r_12 ∧ stB T0 f = S_12 := Prod.mk.inj (hw1.trans (total_at (i := 0) (j := 1) h1 (by decide) (by decide) q0 q1)).symm
      have hw : cH dC dI ad o rw so ba ma cR cJ (stB T0 f) s H := ⟨hP, hK⟩
      refine lv_istore (lv' := [(4, .int (cmpT k x y)), (3, .int (f_X1_relations k x y)), (0, .ref o), (1, .int (0 : Int32)), (2, .int (1 : Int32))]) hx hb dL_isOrdered_15 hl (by decide) rfl (fun ls hl => ?_)
      refine lv_aload_n hx hb dL_isOrdered_17 rfl (lv_at hl 2 rfl) ?_
      refine lv_iconst (v := 0) hx hb dL_isOrdered_18 (by decide) ?_
      refine lv_iconst (v := 1) hx hb dL_isOrdered_19 (by decide) ?_
      refine lv_iconst (v := 0) hx hb dL_isOrdered_20 (by decide) ?_
      have hFc := va_freeAll hD hS hA
      refine va_calli (va_runV (As := [.int (0 : Int32), .int (1 : Int32), .int (0 : Int32)]) (rest := []) ⟨hx, hb, hml, hown, hts⟩ (c_X6_compare l dC dI ad o rw so ba ma cR cJ H.size (stB T0 f) (0 : Int32) (1 : Int32) (0 : Int32) (inv12 h1 hk)) (cwV 3 hts (gV iX6_compare (zin__r5 (.methodLink RL 7 yX6_compare) (List.mem_of_getElem? (i := 0) rfl))) rfl rfl rfl (by decide +kernel) ⟨Nat.le_of_ble_eq_true rfl, Nat.le_of_ble_eq_true rfl⟩) ⟨fun a U g mk q => ⟨q.1, cB_bl q.2⟩, cW_rv hw, fun U hU hW => ⟨rfl, cB_mv hw hD (kA_in hkA hS hFc) hU hW⟩⟩ rfl rfl hl.1 rfl (lv_room (Nat.le_of_ble_eq_true rfl)) dL_isOrdered_21 ⟨Nat.zero_le _, Nat.zero_le _⟩) hS (fun q _ h => hFc q h) hFc (fun r_21 S_21 t H1 locs ht hvm hw1 hB hz1 hk1 hS => ?_)
      obtain ⟨hP, -, hD1⟩ := hB
      rw [ht] at hP
      have hD := hD1.weaken (fun k q _ h => hFc q.1 h)
      generalize H1 = H at hP hS ⊢
      obtain ⟨rfl, rfl⟩ : (f_X1_relations k y x) = r_21 ∧ stB T0 f = S_21 := Prod.mk.inj (hw1.trans (compare_at (i := 1) (j := 0) h1 (by decide) (by decide) q1 q0)).symm
      have hw : cH dC dI ad o rw so ba ma cR cJ (stB T0 f) s H := ⟨hP, hK⟩
      refine lv_iload_n hx hb dL_isOrdered_24 rfl (lv_at hl 1 rfl) ?_
      refine vp_callSi (va_Run.run (va_runS (As := [.int (f_X1_relations k x y)]) (rest := [.int (f_X1_relations k y x)]) ⟨hx, hb, hml, hown, hts⟩ (c_L_round l (f_X1_relations k x y)) (va_cwS 1 hts (gS iL_round (zin__r6 (.methodLink RL 52 yL_round) (List.mem_of_getElem? (i := 6) rfl))) rfl rfl rfl (by decide +kernel) ⟨Nat.le_of_ble_eq_true rfl, Nat.le_of_ble_eq_true rfl⟩) ⟨fun a U g mk q => ⟨q.1, trivial⟩, fun U hU hW => ⟨rfl, trivial⟩⟩ rfl rfl hl.1 rfl (lv_room (Nat.le_of_ble_eq_true rfl)) dL_isOrdered_25 ⟨Nat.zero_le _, Nat.zero_le _⟩)) (fun r_25 hr_25 => ?_)
      subst hr_25
      refine lv_icmp_ne (tgt := 65) hx hb dL_isOrdered_28 (by decide) (fun c => absurd (show (f_X1_relations k y x) = (f_L_round (f_X1_relations k x y)) from (rel_turn hk cx cy).trans (round_is _).symm) c) (fun _ => ?_)
      refine lv_aload_n hx hb dL_isOrdered_31 rfl (lv_at hl 2 rfl) ?_
      refine lv_iconst (v := 0) hx hb dL_isOrdered_32 (by decide) ?_
      refine lv_iconst (v := 1) hx hb dL_isOrdered_33 (by decide) ?_
      refine lv_iconst (v := 0) hx hb dL_isOrdered_34 (by decide) ?_
      have hFc := va_freeAll hD hS hA
      refine va_calli (va_runV (As := [.int (0 : Int32), .int (1 : Int32), .int (0 : Int32)]) (rest := []) ⟨hx, hb, hml, hown, hts⟩ (c_X6_total l dC dI ad o rw so ba ma cR cJ H.size (stB T0 f) (0 : Int32) (1 : Int32) (0 : Int32) (inv12 h1 hk)) (cwV 3 hts (gV iX6_total (zin__r5 (.methodLink RL 49 yX6_total) (List.mem_of_getElem? (i := 21) rfl))) rfl rfl rfl (by decide +kernel) ⟨Nat.le_of_ble_eq_true rfl, Nat.le_of_ble_eq_true rfl⟩) ⟨fun a U g mk q => ⟨q.1, cB_bl q.2⟩, cW_rv hw, fun U hU hW => ⟨rfl, cB_mv hw hD (kA_in hkA hS hFc) hU hW⟩⟩ rfl rfl hl.1 rfl (lv_room (Nat.le_of_ble_eq_true rfl)) dL_isOrdered_35 ⟨Nat.zero_le _, Nat.zero_le _⟩) hS (fun q _ h => hFc q h) hFc (fun r_35 S_35 t H1 locs ht hvm hw1 hB hz1 hk1 hS => ?_)
      obtain ⟨hP, -, hD1⟩ := hB
      rw [ht] at hP
      have hD := hD1.weaken (fun k q _ h => hFc q.1 h)
      generalize H1 = H at hP hS ⊢
      obtain ⟨rfl, rfl⟩ : (cmpT k y x) = r_35 ∧ stB T0 f = S_35 := Prod.mk.inj (hw1.trans (total_at (i := 1) (j := 0) h1 (by decide) (by decide) q1 q0)).symm
      have hw : cH dC dI ad o rw so ba ma cR cJ (stB T0 f) s H := ⟨hP, hK⟩
      refine lv_iload hx hb dL_isOrdered_38 (lv_at hl 0 rfl) ?_
      refine lv_ineg hx hb dL_isOrdered_40 ?_
      refine lv_icmp_ne (tgt := 65) hx hb dL_isOrdered_41 (by decide) (fun c => absurd (show (cmpT k y x) = (-(cmpT k x y)) from tot_turn) c) (fun _ => ?_)
      refine lv_aload_n hx hb dL_isOrdered_44 rfl (lv_at hl 2 rfl) ?_
      refine lv_iconst (v := 0) hx hb dL_isOrdered_45 (by decide) ?_
      refine lv_iconst (v := 0) hx hb dL_isOrdered_46 (by decide) ?_
      refine lv_iconst (v := 0) hx hb dL_isOrdered_47 (by decide) ?_
      have hFc := va_freeAll hD hS hA
      refine va_calli (va_runV (As := [.int (0 : Int32), .int (0 : Int32), .int (0 : Int32)]) (rest := []) ⟨hx, hb, hml, hown, hts⟩ (c_X6_compare l dC dI ad o rw so ba ma cR cJ H.size (stB T0 f) (0 : Int32) (0 : Int32) (0 : Int32) (inv12 h1 hk)) (cwV 3 hts (gV iX6_compare (zin__r5 (.methodLink RL 7 yX6_compare) (List.mem_of_getElem? (i := 0) rfl))) rfl rfl rfl (by decide +kernel) ⟨Nat.le_of_ble_eq_true rfl, Nat.le_of_ble_eq_true rfl⟩) ⟨fun a U g mk q => ⟨q.1, cB_bl q.2⟩, cW_rv hw, fun U hU hW => ⟨rfl, cB_mv hw hD (kA_in hkA hS hFc) hU hW⟩⟩ rfl rfl hl.1 rfl (lv_room (Nat.le_of_ble_eq_true rfl)) dL_isOrdered_48 ⟨Nat.zero_le _, Nat.zero_le _⟩) hS (fun q _ h => hFc q h) hFc (fun r_48 S_48 t H1 locs ht hvm hw1 hB hz1 hk1 hS => ?_)
      obtain ⟨hP, -, hD1⟩ := hB
      rw [ht] at hP
      have hD := hD1.weaken (fun k q _ h => hFc q.1 h)
      generalize H1 = H at hP hS ⊢
      obtain ⟨rfl, rfl⟩ : (f_X1_relations k x x) = r_48 ∧ stB T0 f = S_48 := Prod.mk.inj (hw1.trans (compare_at (i := 0) (j := 0) h1 (by decide) (by decide) q0 q0)).symm
      have hw : cH dC dI ad o rw so ba ma cR cJ (stB T0 f) s H := ⟨hP, hK⟩
      refine lv_iload_n hx hb dL_isOrdered_51 rfl (lv_at hl 3 rfl) ?_
      refine lv_if_eq (tgt := 60) hx hb dL_isOrdered_52 (by decide) (fun _ => ?_) (fun c => absurd (show (0 : Int32) = 0 from by decide) c)
      refine lv_bipush (v := 26) hx hb dL_isOrdered_60 (by decide) ?_
      refine lv_icmp_eq (tgt := 67) hx hb dL_isOrdered_62 (by decide) (fun _ => ?_) (fun c => absurd (show (f_X1_relations k x x) = (26 : Int32) from (rel_self hk cx).trans (if_neg hxn)) c)
      refine lv_iload_n hx hb dL_isOrdered_67 rfl (lv_at hl 3 rfl) ?_
      refine lv_if_ne (tgt := 75) hx hb dL_isOrdered_68 (by decide) (fun c => absurd (show (0 : Int32) = 0 from by decide) c) (fun _ => ?_)
      refine lv_iload_n hx hb dL_isOrdered_71 rfl (lv_at hl 4 rfl) ?_
      refine lv_if_eq (tgt := 125) hx hb dL_isOrdered_72 (by decide) (fun c => absurd c (show ¬ ((1 : Int32) = 0) from by decide)) (fun _ => ?_)
      refine lv_iload_n hx hb dL_isOrdered_75 rfl (lv_at hl 1 rfl) ?_
      refine lv_bipush (v := 32) hx hb dL_isOrdered_76 (by decide) ?_
      refine lv_icmp_ne (tgt := 123) hx hb dL_isOrdered_78 (by decide) (fun c => absurd (show (f_X1_relations k x y) = (32 : Int32) from (ord_nan hk cx cy (Or.inr hyn)).1) c) (fun _ => ?_)
      refine lv_iload hx hb dL_isOrdered_81 (lv_at hl 0 rfl) ?_
      refine lv_iload_n hx hb dL_isOrdered_83 rfl (lv_at hl 3 rfl) ?_
      refine lv_if_eq (tgt := 95) hx hb dL_isOrdered_84 (by decide) (fun _ => ?_) (fun c => absurd (show (0 : Int32) = 0 from by decide) c)
      refine lv_iload_n hx hb dL_isOrdered_95 rfl (lv_at hl 3 rfl) ?_
      refine lv_if_eq (tgt := 103) hx hb dL_isOrdered_96 (by decide) (fun _ => ?_) (fun c => absurd (show (0 : Int32) = 0 from by decide) c)
      refine lv_iconst (v := -1) hx hb dL_isOrdered_103 (by decide) ?_
      refine lv_icmp_ne (tgt := 123) hx hb dL_isOrdered_104 (by decide) (fun c => absurd (show (cmpT k x y) = (-1 : Int32) from (ord_nan hk cx cy (Or.inr hyn)).2.trans (if_neg hxn)) c) (fun _ => ?_)
      refine lv_aload_n hx hb dL_isOrdered_107 rfl (lv_at hl 2 rfl) ?_
      refine lv_iconst (v := 0) hx hb dL_isOrdered_108 (by decide) ?_
      refine lv_iconst (v := 0) hx hb dL_isOrdered_109 (by decide) ?_
      refine lv_iconst (v := 1) hx hb dL_isOrdered_110 (by decide) ?_
      refine lv_iconst (v := 1) hx hb dL_isOrdered_111 (by decide) ?_
      have hFc := va_freeAll hD hS hA
      refine va_calli (va_runV (As := [.int (0 : Int32), .int (0 : Int32), .int (1 : Int32), .int (1 : Int32)]) (rest := []) ⟨hx, hb, hml, hown, hts⟩ (c_X6_between l dC dI ad o rw so ba ma cR cJ H.size (stB T0 f) (0 : Int32) (0 : Int32) (1 : Int32) (1 : Int32) (inv12 h1 hk)) (cwV 4 hts (gV iX6_between (zin__r6 (.methodLink RL 56 yX6_between) (List.mem_of_getElem? (i := 9) rfl))) rfl rfl rfl (by decide +kernel) ⟨Nat.le_of_ble_eq_true rfl, Nat.le_of_ble_eq_true rfl⟩) ⟨fun a U g mk q => ⟨q.1, cB_bl q.2⟩, cW_rv hw, fun U hU hW => ⟨rfl, cB_mv hw hD (kA_in hkA hS hFc) hU hW⟩⟩ rfl rfl hl.1 rfl (lv_room (Nat.le_of_ble_eq_true rfl)) dL_isOrdered_112 ⟨Nat.zero_le _, Nat.zero_le _⟩) hS (fun q _ h => hFc q h) hFc (fun r_112 S_112 t H1 locs ht hvm hw1 hB hz1 hk1 hS => ?_)
      obtain ⟨hP, -, hD1⟩ := hB
      rw [ht] at hP
      have hD := hD1.weaken (fun k q _ h => hFc q.1 h)
      generalize H1 = H at hP hS ⊢
      obtain ⟨rfl, rfl⟩ : r_112 = (2 : Int32) ∧ S_112 = stB T0 f := Prod.mk.inj (hw1.trans (between_nan (i := 0) (j := 1) h1 hk (by decide) (by decide) q0 q1 cx cy (Or.inr hyn)))
      have hw : cH dC dI ad o rw so ba ma cR cJ (stB T0 f) s H := ⟨hP, hK⟩
      refine lv_iconst (v := 2) hx hb dL_isOrdered_115 (by decide) ?_
      refine lv_icmp_ne (tgt := 123) hx hb dL_isOrdered_116 (by decide) (fun c => absurd (show (2 : Int32) = (2 : Int32) from rfl) c) (fun _ => ?_)
      refine lv_iconst (v := 1) hx hb dL_isOrdered_119 (by decide) ?_
      refine lv_goto (tgt := 124) hx hb dL_isOrdered_120 (by decide) ?_
      exact W.zret hx hb hr rfl (fun t ht hW => ⟨⟨_, stB T0 f, rfl, ⟨rfl, f, q0, q1, rfl⟩, by rw [ht]; exact hP, va_K.moved hW.alike hK, hD⟩, hS.F ht⟩) hS.2.2 dL_isOrdered_124
    · rw [if_neg hyn] at eb
      subst eb
      refine lv_aload_n hx hb dL_isOrdered_0 rfl (lv_at hl 0 rfl) ?_
      refine lv_iconst (v := 0) hx hb dL_isOrdered_1 (by decide) ?_
      refine lv_iconst (v := 0) hx hb dL_isOrdered_2 (by decide) ?_
      refine lv_iconst (v := 1) hx hb dL_isOrdered_3 (by decide) ?_
      have hFc := va_freeAll hD hS hA
      refine va_calli (va_runV (As := [.int (0 : Int32), .int (0 : Int32), .int (1 : Int32)]) (rest := []) ⟨hx, hb, hml, hown, hts⟩ (c_X6_compare l dC dI ad o rw so ba ma cR cJ s.heap.size (stB T0 f) (0 : Int32) (0 : Int32) (1 : Int32) (inv12 h1 hk)) (cwV 3 hts (gV iX6_compare (zin__r5 (.methodLink RL 7 yX6_compare) (List.mem_of_getElem? (i := 0) rfl))) rfl rfl rfl (by decide +kernel) ⟨Nat.le_of_ble_eq_true rfl, Nat.le_of_ble_eq_true rfl⟩) ⟨fun a U g mk q => ⟨q.1, cB_bl q.2⟩, cW_rv hw, fun U hU hW => ⟨rfl, cB_mv hw hD (kA_in hkA hS hFc) hU hW⟩⟩ rfl rfl hl.1 rfl (lv_room (Nat.le_of_ble_eq_true rfl)) dL_isOrdered_4 ⟨Nat.zero_le _, Nat.zero_le _⟩) hS (fun q _ h => hFc q h) hFc (fun r_4 S_4 t H1 locs ht hvm hw1 hB hz1 hk1 hS => ?_)
      obtain ⟨hP, -, hD1⟩ := hB
      rw [ht] at hP
      have hD := hD1.weaken (fun k q _ h => hFc q.1 h)
      generalize H1 = H at hP hS ⊢
      obtain ⟨rfl, rfl⟩ : (f_X1_relations k x y) = r_4 ∧ stB T0 f = S_4 := Prod.mk.inj (hw1.trans (compare_at (i := 0) (j := 1) h1 (by decide) (by decide) q0 q1)).symm
      have hw : cH dC dI ad o rw so ba ma cR cJ (stB T0 f) s H := ⟨hP, hK⟩
      refine lv_istore_n (lv' := [(3, .int (f_X1_relations k x y)), (0, .ref o), (1, .int (0 : Int32)), (2, .int (0 : Int32))]) hx hb dL_isOrdered_7 rfl hl (by decide) rfl (fun ls hl => ?_)
      refine lv_aload_n hx hb dL_isOrdered_8 rfl (lv_at hl 1 rfl) ?_
      refine lv_iconst (v := 0) hx hb dL_isOrdered_9 (by decide) ?_
      refine lv_iconst (v := 0) hx hb dL_isOrdered_10 (by decide) ?_
      refine lv_iconst (v := 1) hx hb dL_isOrdered_11 (by decide) ?_
      have hFc := va_freeAll hD hS hA
      refine va_calli (va_runV (As := [.int (0 : Int32), .int (0 : Int32), .int (1 : Int32)]) (rest := []) ⟨hx, hb, hml, hown, hts⟩ (c_X6_total l dC dI ad o rw so ba ma cR cJ H.size (stB T0 f) (0 : Int32) (0 : Int32) (1 : Int32) (inv12 h1 hk)) (cwV 3 hts (gV iX6_total (zin__r5 (.methodLink RL 49 yX6_total) (List.mem_of_getElem? (i := 21) rfl))) rfl rfl rfl (by decide +kernel) ⟨Nat.le_of_ble_eq_true rfl, Nat.le_of_ble_eq_true rfl⟩) ⟨fun a U g mk q => ⟨q.1, cB_bl q.2⟩, cW_rv hw, fun U hU hW => ⟨rfl, cB_mv hw hD (kA_in hkA hS hFc) hU hW⟩⟩ rfl rfl hl.1 rfl (lv_room (Nat.le_of_ble_eq_true rfl)) dL_isOrdered_12 ⟨Nat.zero_le _, Nat.zero_le _⟩) hS (fun q _ h => hFc q h) hFc (fun r_12 S_12 t H1 locs ht hvm hw1 hB hz1 hk1 hS => ?_)
      obtain ⟨hP, -, hD1⟩ := hB
      rw [ht] at hP
      have hD := hD1.weaken (fun k q _ h => hFc q.1 h)
      generalize H1 = H at hP hS ⊢
      obtain ⟨rfl, rfl⟩ : (cmpT k x y) = r_12 ∧ stB T0 f = S_12 := Prod.mk.inj (hw1.trans (total_at (i := 0) (j := 1) h1 (by decide) (by decide) q0 q1)).symm
      have hw : cH dC dI ad o rw so ba ma cR cJ (stB T0 f) s H := ⟨hP, hK⟩
      refine lv_istore (lv' := [(4, .int (cmpT k x y)), (3, .int (f_X1_relations k x y)), (0, .ref o), (1, .int (0 : Int32)), (2, .int (0 : Int32))]) hx hb dL_isOrdered_15 hl (by decide) rfl (fun ls hl => ?_)
      refine lv_aload_n hx hb dL_isOrdered_17 rfl (lv_at hl 2 rfl) ?_
      refine lv_iconst (v := 0) hx hb dL_isOrdered_18 (by decide) ?_
      refine lv_iconst (v := 1) hx hb dL_isOrdered_19 (by decide) ?_
      refine lv_iconst (v := 0) hx hb dL_isOrdered_20 (by decide) ?_
      have hFc := va_freeAll hD hS hA
      refine va_calli (va_runV (As := [.int (0 : Int32), .int (1 : Int32), .int (0 : Int32)]) (rest := []) ⟨hx, hb, hml, hown, hts⟩ (c_X6_compare l dC dI ad o rw so ba ma cR cJ H.size (stB T0 f) (0 : Int32) (1 : Int32) (0 : Int32) (inv12 h1 hk)) (cwV 3 hts (gV iX6_compare (zin__r5 (.methodLink RL 7 yX6_compare) (List.mem_of_getElem? (i := 0) rfl))) rfl rfl rfl (by decide +kernel) ⟨Nat.le_of_ble_eq_true rfl, Nat.le_of_ble_eq_true rfl⟩) ⟨fun a U g mk q => ⟨q.1, cB_bl q.2⟩, cW_rv hw, fun U hU hW => ⟨rfl, cB_mv hw hD (kA_in hkA hS hFc) hU hW⟩⟩ rfl rfl hl.1 rfl (lv_room (Nat.le_of_ble_eq_true rfl)) dL_isOrdered_21 ⟨Nat.zero_le _, Nat.zero_le _⟩) hS (fun q _ h => hFc q h) hFc (fun r_21 S_21 t H1 locs ht hvm hw1 hB hz1 hk1 hS => ?_)
      obtain ⟨hP, -, hD1⟩ := hB
      rw [ht] at hP
      have hD := hD1.weaken (fun k q _ h => hFc q.1 h)
      generalize H1 = H at hP hS ⊢
      obtain ⟨rfl, rfl⟩ : (f_X1_relations k y x) = r_21 ∧ stB T0 f = S_21 := Prod.mk.inj (hw1.trans (compare_at (i := 1) (j := 0) h1 (by decide) (by decide) q1 q0)).symm
      have hw : cH dC dI ad o rw so ba ma cR cJ (stB T0 f) s H := ⟨hP, hK⟩
      refine lv_iload_n hx hb dL_isOrdered_24 rfl (lv_at hl 1 rfl) ?_
      refine vp_callSi (va_Run.run (va_runS (As := [.int (f_X1_relations k x y)]) (rest := [.int (f_X1_relations k y x)]) ⟨hx, hb, hml, hown, hts⟩ (c_L_round l (f_X1_relations k x y)) (va_cwS 1 hts (gS iL_round (zin__r6 (.methodLink RL 52 yL_round) (List.mem_of_getElem? (i := 6) rfl))) rfl rfl rfl (by decide +kernel) ⟨Nat.le_of_ble_eq_true rfl, Nat.le_of_ble_eq_true rfl⟩) ⟨fun a U g mk q => ⟨q.1, trivial⟩, fun U hU hW => ⟨rfl, trivial⟩⟩ rfl rfl hl.1 rfl (lv_room (Nat.le_of_ble_eq_true rfl)) dL_isOrdered_25 ⟨Nat.zero_le _, Nat.zero_le _⟩)) (fun r_25 hr_25 => ?_)
      subst hr_25
      refine lv_icmp_ne (tgt := 65) hx hb dL_isOrdered_28 (by decide) (fun c => absurd (show (f_X1_relations k y x) = (f_L_round (f_X1_relations k x y)) from (rel_turn hk cx cy).trans (round_is _).symm) c) (fun _ => ?_)
      refine lv_aload_n hx hb dL_isOrdered_31 rfl (lv_at hl 2 rfl) ?_
      refine lv_iconst (v := 0) hx hb dL_isOrdered_32 (by decide) ?_
      refine lv_iconst (v := 1) hx hb dL_isOrdered_33 (by decide) ?_
      refine lv_iconst (v := 0) hx hb dL_isOrdered_34 (by decide) ?_
      have hFc := va_freeAll hD hS hA
      refine va_calli (va_runV (As := [.int (0 : Int32), .int (1 : Int32), .int (0 : Int32)]) (rest := []) ⟨hx, hb, hml, hown, hts⟩ (c_X6_total l dC dI ad o rw so ba ma cR cJ H.size (stB T0 f) (0 : Int32) (1 : Int32) (0 : Int32) (inv12 h1 hk)) (cwV 3 hts (gV iX6_total (zin__r5 (.methodLink RL 49 yX6_total) (List.mem_of_getElem? (i := 21) rfl))) rfl rfl rfl (by decide +kernel) ⟨Nat.le_of_ble_eq_true rfl, Nat.le_of_ble_eq_true rfl⟩) ⟨fun a U g mk q => ⟨q.1, cB_bl q.2⟩, cW_rv hw, fun U hU hW => ⟨rfl, cB_mv hw hD (kA_in hkA hS hFc) hU hW⟩⟩ rfl rfl hl.1 rfl (lv_room (Nat.le_of_ble_eq_true rfl)) dL_isOrdered_35 ⟨Nat.zero_le _, Nat.zero_le _⟩) hS (fun q _ h => hFc q h) hFc (fun r_35 S_35 t H1 locs ht hvm hw1 hB hz1 hk1 hS => ?_)
      obtain ⟨hP, -, hD1⟩ := hB
      rw [ht] at hP
      have hD := hD1.weaken (fun k q _ h => hFc q.1 h)
      generalize H1 = H at hP hS ⊢
      obtain ⟨rfl, rfl⟩ : (cmpT k y x) = r_35 ∧ stB T0 f = S_35 := Prod.mk.inj (hw1.trans (total_at (i := 1) (j := 0) h1 (by decide) (by decide) q1 q0)).symm
      have hw : cH dC dI ad o rw so ba ma cR cJ (stB T0 f) s H := ⟨hP, hK⟩
      refine lv_iload hx hb dL_isOrdered_38 (lv_at hl 0 rfl) ?_
      refine lv_ineg hx hb dL_isOrdered_40 ?_
      refine lv_icmp_ne (tgt := 65) hx hb dL_isOrdered_41 (by decide) (fun c => absurd (show (cmpT k y x) = (-(cmpT k x y)) from tot_turn) c) (fun _ => ?_)
      refine lv_aload_n hx hb dL_isOrdered_44 rfl (lv_at hl 2 rfl) ?_
      refine lv_iconst (v := 0) hx hb dL_isOrdered_45 (by decide) ?_
      refine lv_iconst (v := 0) hx hb dL_isOrdered_46 (by decide) ?_
      refine lv_iconst (v := 0) hx hb dL_isOrdered_47 (by decide) ?_
      have hFc := va_freeAll hD hS hA
      refine va_calli (va_runV (As := [.int (0 : Int32), .int (0 : Int32), .int (0 : Int32)]) (rest := []) ⟨hx, hb, hml, hown, hts⟩ (c_X6_compare l dC dI ad o rw so ba ma cR cJ H.size (stB T0 f) (0 : Int32) (0 : Int32) (0 : Int32) (inv12 h1 hk)) (cwV 3 hts (gV iX6_compare (zin__r5 (.methodLink RL 7 yX6_compare) (List.mem_of_getElem? (i := 0) rfl))) rfl rfl rfl (by decide +kernel) ⟨Nat.le_of_ble_eq_true rfl, Nat.le_of_ble_eq_true rfl⟩) ⟨fun a U g mk q => ⟨q.1, cB_bl q.2⟩, cW_rv hw, fun U hU hW => ⟨rfl, cB_mv hw hD (kA_in hkA hS hFc) hU hW⟩⟩ rfl rfl hl.1 rfl (lv_room (Nat.le_of_ble_eq_true rfl)) dL_isOrdered_48 ⟨Nat.zero_le _, Nat.zero_le _⟩) hS (fun q _ h => hFc q h) hFc (fun r_48 S_48 t H1 locs ht hvm hw1 hB hz1 hk1 hS => ?_)
      obtain ⟨hP, -, hD1⟩ := hB
      rw [ht] at hP
      have hD := hD1.weaken (fun k q _ h => hFc q.1 h)
      generalize H1 = H at hP hS ⊢
      obtain ⟨rfl, rfl⟩ : (f_X1_relations k x x) = r_48 ∧ stB T0 f = S_48 := Prod.mk.inj (hw1.trans (compare_at (i := 0) (j := 0) h1 (by decide) (by decide) q0 q0)).symm
      have hw : cH dC dI ad o rw so ba ma cR cJ (stB T0 f) s H := ⟨hP, hK⟩
      refine lv_iload_n hx hb dL_isOrdered_51 rfl (lv_at hl 3 rfl) ?_
      refine lv_if_eq (tgt := 60) hx hb dL_isOrdered_52 (by decide) (fun _ => ?_) (fun c => absurd (show (0 : Int32) = 0 from by decide) c)
      refine lv_bipush (v := 26) hx hb dL_isOrdered_60 (by decide) ?_
      refine lv_icmp_eq (tgt := 67) hx hb dL_isOrdered_62 (by decide) (fun _ => ?_) (fun c => absurd (show (f_X1_relations k x x) = (26 : Int32) from (rel_self hk cx).trans (if_neg hxn)) c)
      refine lv_iload_n hx hb dL_isOrdered_67 rfl (lv_at hl 3 rfl) ?_
      refine lv_if_ne (tgt := 75) hx hb dL_isOrdered_68 (by decide) (fun c => absurd (show (0 : Int32) = 0 from by decide) c) (fun _ => ?_)
      refine lv_iload_n hx hb dL_isOrdered_71 rfl (lv_at hl 4 rfl) ?_
      refine lv_if_eq (tgt := 125) hx hb dL_isOrdered_72 (by decide) (fun _ => ?_) (fun c => absurd (show (0 : Int32) = 0 from by decide) c)
      rcases ord_num hk cx cy hxn hyn with ⟨g1, g2⟩ | ⟨g1, g2⟩ | ⟨g1, g2⟩
      · refine lv_iload_n hx hb dL_isOrdered_125 rfl (lv_at hl 1 rfl) ?_
        refine lv_bipush (v := 41) hx hb dL_isOrdered_126 (by decide) ?_
        refine lv_icmp_ne (tgt := 137) hx hb dL_isOrdered_128 (by decide) (fun c => absurd (show (f_X1_relations k x y) = (41 : Int32) from g1) c) (fun _ => ?_)
        refine lv_iload hx hb dL_isOrdered_131 (lv_at hl 0 rfl) ?_
        refine lv_iconst (v := -1) hx hb dL_isOrdered_133 (by decide) ?_
        refine lv_icmp_eq (tgt := 176) hx hb dL_isOrdered_134 (by decide) (fun _ => ?_) (fun c => absurd (show (cmpT k x y) = (-1 : Int32) from g2) c)
        refine lv_iconst (v := 1) hx hb dL_isOrdered_176 (by decide) ?_
        refine lv_goto (tgt := 181) hx hb dL_isOrdered_177 (by decide) ?_
        exact W.zret hx hb hr rfl (fun t ht hW => ⟨⟨_, stB T0 f, rfl, ⟨rfl, f, q0, q1, rfl⟩, by rw [ht]; exact hP, va_K.moved hW.alike hK, hD⟩, hS.F ht⟩) hS.2.2 dL_isOrdered_181
      · refine lv_iload_n hx hb dL_isOrdered_125 rfl (lv_at hl 1 rfl) ?_
        refine lv_bipush (v := 41) hx hb dL_isOrdered_126 (by decide) ?_
        refine lv_icmp_ne (tgt := 137) hx hb dL_isOrdered_128 (by decide) (fun _ => ?_) (fun c => absurd c (show ¬ ((f_X1_relations k x y) = (41 : Int32)) from by rw [g1]; decide))
        refine lv_iload_n hx hb dL_isOrdered_137 rfl (lv_at hl 1 rfl) ?_
        refine lv_bipush (v := 52) hx hb dL_isOrdered_138 (by decide) ?_
        refine lv_icmp_ne (tgt := 149) hx hb dL_isOrdered_140 (by decide) (fun c => absurd (show (f_X1_relations k x y) = (52 : Int32) from g1) c) (fun _ => ?_)
        refine lv_iload hx hb dL_isOrdered_143 (lv_at hl 0 rfl) ?_
        refine lv_iconst (v := 1) hx hb dL_isOrdered_145 (by decide) ?_
        refine lv_icmp_eq (tgt := 176) hx hb dL_isOrdered_146 (by decide) (fun _ => ?_) (fun c => absurd (show (cmpT k x y) = (1 : Int32) from g2) c)
        refine lv_iconst (v := 1) hx hb dL_isOrdered_176 (by decide) ?_
        refine lv_goto (tgt := 181) hx hb dL_isOrdered_177 (by decide) ?_
        exact W.zret hx hb hr rfl (fun t ht hW => ⟨⟨_, stB T0 f, rfl, ⟨rfl, f, q0, q1, rfl⟩, by rw [ht]; exact hP, va_K.moved hW.alike hK, hD⟩, hS.F ht⟩) hS.2.2 dL_isOrdered_181
      · refine lv_iload_n hx hb dL_isOrdered_125 rfl (lv_at hl 1 rfl) ?_
        refine lv_bipush (v := 41) hx hb dL_isOrdered_126 (by decide) ?_
        refine lv_icmp_ne (tgt := 137) hx hb dL_isOrdered_128 (by decide) (fun _ => ?_) (fun c => absurd c (show ¬ ((f_X1_relations k x y) = (41 : Int32)) from by rw [g1]; decide))
        refine lv_iload_n hx hb dL_isOrdered_137 rfl (lv_at hl 1 rfl) ?_
        refine lv_bipush (v := 52) hx hb dL_isOrdered_138 (by decide) ?_
        refine lv_icmp_ne (tgt := 149) hx hb dL_isOrdered_140 (by decide) (fun _ => ?_) (fun c => absurd c (show ¬ ((f_X1_relations k x y) = (52 : Int32)) from by rw [g1]; decide))
        refine lv_iload_n hx hb dL_isOrdered_149 rfl (lv_at hl 1 rfl) ?_
        refine lv_bipush (v := 26) hx hb dL_isOrdered_150 (by decide) ?_
        refine lv_icmp_ne (tgt := 180) hx hb dL_isOrdered_152 (by decide) (fun c => absurd (show (f_X1_relations k x y) = (26 : Int32) from g1) c) (fun _ => ?_)
        refine lv_iload hx hb dL_isOrdered_155 (lv_at hl 0 rfl) ?_
        refine lv_if_eq (tgt := 176) hx hb dL_isOrdered_157 (by decide) (fun c_157 => ?_) (fun c_157 => ?_)
        · refine lv_iconst (v := 1) hx hb dL_isOrdered_176 (by decide) ?_
          refine lv_goto (tgt := 181) hx hb dL_isOrdered_177 (by decide) ?_
          exact W.zret hx hb hr rfl (fun t ht hW => ⟨⟨_, stB T0 f, rfl, ⟨rfl, f, q0, q1, rfl⟩, by rw [ht]; exact hP, va_K.moved hW.alike hK, hD⟩, hS.F ht⟩) hS.2.2 dL_isOrdered_181
        · refine lv_aload_n hx hb dL_isOrdered_160 rfl (lv_at hl 2 rfl) ?_
          refine lv_iconst (v := 0) hx hb dL_isOrdered_161 (by decide) ?_
          refine lv_iconst (v := 0) hx hb dL_isOrdered_162 (by decide) ?_
          have hFc := va_freeAll hD hS hA
          refine va_calll (va_runV (As := [.int (0 : Int32), .int (0 : Int32)]) (rest := []) ⟨hx, hb, hml, hown, hts⟩ (c_X6_get l dC dI ad o rw so ba ma cR cJ H.size (stB T0 f) (0 : Int32) (0 : Int32) (inv12 h1 hk)) (cwV 2 hts (gV iX6_get (zin__r6 (.methodLink RL 60 yX6_get) (List.mem_of_getElem? (i := 15) rfl))) rfl rfl rfl (by decide +kernel) ⟨Nat.le_of_ble_eq_true rfl, Nat.le_of_ble_eq_true rfl⟩) ⟨fun a U g mk q => ⟨q.1, cB_bl q.2⟩, cW_rv hw, fun U hU hW => ⟨rfl, cB_mv hw hD (kA_in hkA hS hFc) hU hW⟩⟩ rfl rfl hl.1 rfl (lv_room (Nat.le_of_ble_eq_true rfl)) dL_isOrdered_163 ⟨Nat.zero_le _, Nat.zero_le _⟩) hS (fun q _ h => hFc q h) hFc (fun r_163 S_163 t H1 locs ht hvm hw1 hB hz1 hk1 hS => ?_)
          obtain ⟨hP, -, hD1⟩ := hB
          rw [ht] at hP
          have hD := hD1.weaken (fun k q _ h => hFc q.1 h)
          generalize H1 = H at hP hS ⊢
          obtain ⟨rfl, rfl⟩ : x = r_163 ∧ stB T0 f = S_163 := Prod.mk.inj (hw1.trans (get_at (i := 0) h1 (by decide) q0)).symm
          have hw : cH dC dI ad o rw so ba ma cR cJ (stB T0 f) s H := ⟨hP, hK⟩
          refine lv_aload_n hx hb dL_isOrdered_166 rfl (lv_at hl 2 rfl) ?_
          refine lv_iconst (v := 0) hx hb dL_isOrdered_167 (by decide) ?_
          refine lv_iconst (v := 1) hx hb dL_isOrdered_168 (by decide) ?_
          have hFc := va_freeAll hD hS hA
          refine va_calll (va_runV (As := [.int (0 : Int32), .int (1 : Int32)]) (rest := [.long x]) ⟨hx, hb, hml, hown, hts⟩ (c_X6_get l dC dI ad o rw so ba ma cR cJ H.size (stB T0 f) (0 : Int32) (1 : Int32) (inv12 h1 hk)) (cwV 2 hts (gV iX6_get (zin__r6 (.methodLink RL 60 yX6_get) (List.mem_of_getElem? (i := 15) rfl))) rfl rfl rfl (by decide +kernel) ⟨Nat.le_of_ble_eq_true rfl, Nat.le_of_ble_eq_true rfl⟩) ⟨fun a U g mk q => ⟨q.1, cB_bl q.2⟩, cW_rv hw, fun U hU hW => ⟨rfl, cB_mv hw hD (kA_in hkA hS hFc) hU hW⟩⟩ rfl rfl hl.1 rfl (lv_room (Nat.le_of_ble_eq_true rfl)) dL_isOrdered_169 ⟨Nat.zero_le _, Nat.zero_le _⟩) hS (fun q _ h => hFc q h) hFc (fun r_169 S_169 t H1 locs ht hvm hw1 hB hz1 hk1 hS => ?_)
          obtain ⟨hP, -, hD1⟩ := hB
          rw [ht] at hP
          have hD := hD1.weaken (fun k q _ h => hFc q.1 h)
          generalize H1 = H at hP hS ⊢
          obtain ⟨rfl, rfl⟩ : y = r_169 ∧ stB T0 f = S_169 := Prod.mk.inj (hw1.trans (get_at (i := 1) h1 (by decide) q1)).symm
          have hw : cH dC dI ad o rw so ba ma cR cJ (stB T0 f) s H := ⟨hP, hK⟩
          refine W.lcmp hx hb dL_isOrdered_172 ?_
          refine lv_if_eq (tgt := 180) hx hb dL_isOrdered_173 (by decide) (fun c => absurd ((lg_cmp_eq x y).mp c) (show ¬ (x = y) from g2 c_157)) (fun _ => ?_)
          refine lv_iconst (v := 1) hx hb dL_isOrdered_176 (by decide) ?_
          refine lv_goto (tgt := 181) hx hb dL_isOrdered_177 (by decide) ?_
          exact W.zret hx hb hr rfl (fun t ht hW => ⟨⟨_, stB T0 f, rfl, ⟨rfl, f, q0, q1, rfl⟩, by rw [ht]; exact hP, va_K.moved hW.alike hK, hD⟩, hS.F ht⟩) hS.2.2 dL_isOrdered_181
