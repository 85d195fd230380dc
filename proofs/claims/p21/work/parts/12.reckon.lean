def f_X2_namesSecond_1 (x0 : Int32) : Int32 := if (12 : Int32) < x0 then (0 : Int32) else (1 : Int32)
def f_X2_namesSecond_2 (x0 : Int32) : Int32 := if x0 < (7 : Int32) then (0 : Int32) else (f_X2_namesSecond_1 x0)
def f_X2_namesSecond_3 (x0 : Int32) : Int32 := if x0 = (2 : Int32) then (1 : Int32) else (f_X2_namesSecond_2 x0)
def f_X2_namesSecond_4 (x0 : Int32) : Int32 := if x0 = (1 : Int32) then (1 : Int32) else (f_X2_namesSecond_3 x0)
def f_X2_namesSecond (x0 : Int32) : Int32 := (f_X2_namesSecond_4 x0)
def zX2_namesSecond : List Cond := .code yX2_namesSecond cX2_namesSecond 1 (some .boolean) :: zall
theorem iX2_namesSecond : MWs yX2_namesSecond (.code yX2_namesSecond cX2_namesSecond 1 (some .boolean)) := ⟨(zin__r7 (.static yX2_namesSecond) (List.mem_of_getElem? (i := 17) rfl)), (zin__r7 (.initialized RX2) (List.mem_of_getElem? (i := 12) rfl)), (zin__r7 (.code yX2_namesSecond cX2_namesSecond 1 (some .boolean)) (List.mem_of_getElem? (i := 18) rfl))⟩
set_option maxHeartbeats 4000000 in
set_option maxRecDepth 100000 in
theorem c_X2_namesSecond (l : Launch) (x0 : Int32) : Met l yX2_namesSecond zX2_namesSecond ({ frames := 0, cells := 0, slots := 0, locals := 0 }) (va_Pc [.int x0] (fun U => True)) (vp_Si (fun r => r = f_X2_namesSecond x0)) 0 0 (fun _ => False) := by
  refine Met.ofW (cc := cX2_namesSecond) (maxL := 1) (ret := (some .boolean)) (by decide) rfl ?_
  intro p e s m args below meth c s₁ B hml hv
  obtain ⟨rfl, -⟩ := hv
  have hx := B.exec
  have hb := B.bytes
  have hr := B.returns
  have hts : ∀ w ∈ zall, w.before _ s = true := fun w h => atoms_spec (ws := zX2_namesSecond) B.pre w (List.mem_cons_of_mem _ h)
  have hown : s.vm.findClass RX2 = some m.cls := findClass_of_methodNamed B.named
  have hlocks := B.notSynchronized
  have hl := lv_entry ([.int x0]) (n := 1) (Nat.le_of_ble_eq_true rfl)
  rw [lg_entry_eq]
  generalize (lg_sl ([.int x0]) ++ List.replicate (1 - (lg_sl ([.int x0])).length) Slot.unset).toArray = ls at hl ⊢
  have hl : lv_has ls 1 [(0, .int x0)] := hl
  have hf : f_X2_namesSecond x0 = (f_X2_namesSecond_4 x0) := rfl
  refine lv_iload_n hx hb dX2_namesSecond_0 rfl (lv_at hl 0 rfl) ?_
  refine lv_iconst (v := 1) hx hb dX2_namesSecond_1 (by decide) ?_
  refine lv_icmp_eq (tgt := 22) hx hb dX2_namesSecond_2 (by decide) (fun c_2 => ?_) (fun c_2 => ?_)
  · have hf : f_X2_namesSecond x0 = (1 : Int32) := hf.trans (if_pos c_2)
    refine lv_iconst (v := 1) hx hb dX2_namesSecond_22 (by decide) ?_
    refine lv_goto (tgt := 27) hx hb dX2_namesSecond_23 (by decide) ?_
    exact W.zret hx hb hr rfl (fun t ht hW => ⟨_, rfl, hf.symm, ht⟩) (fun q hq => absurd hq List.not_mem_nil) dX2_namesSecond_27
  · have hf : f_X2_namesSecond x0 = (f_X2_namesSecond_3 x0) := hf.trans (if_neg c_2)
    refine lv_iload_n hx hb dX2_namesSecond_5 rfl (lv_at hl 0 rfl) ?_
    refine lv_iconst (v := 2) hx hb dX2_namesSecond_6 (by decide) ?_
    refine lv_icmp_eq (tgt := 22) hx hb dX2_namesSecond_7 (by decide) (fun c_7 => ?_) (fun c_7 => ?_)
    · have hf : f_X2_namesSecond x0 = (1 : Int32) := hf.trans (if_pos c_7)
      refine lv_iconst (v := 1) hx hb dX2_namesSecond_22 (by decide) ?_
      refine lv_goto (tgt := 27) hx hb dX2_namesSecond_23 (by decide) ?_
      exact W.zret hx hb hr rfl (fun t ht hW => ⟨_, rfl, hf.symm, ht⟩) (fun q hq => absurd hq List.not_mem_nil) dX2_namesSecond_27
    · have hf : f_X2_namesSecond x0 = (f_X2_namesSecond_2 x0) := hf.trans (if_neg c_7)
      refine lv_iload_n hx hb dX2_namesSecond_10 rfl (lv_at hl 0 rfl) ?_
      refine lv_bipush (v := 7) hx hb dX2_namesSecond_11 (by decide) ?_
      refine lv_icmp_lt (tgt := 26) hx hb dX2_namesSecond_13 (by decide) (fun c_13 => ?_) (fun c_13 => ?_)
      · have hf : f_X2_namesSecond x0 = (0 : Int32) := hf.trans (if_pos c_13)
        refine lv_iconst (v := 0) hx hb dX2_namesSecond_26 (by decide) ?_
        exact W.zret hx hb hr rfl (fun t ht hW => ⟨_, rfl, hf.symm, ht⟩) (fun q hq => absurd hq List.not_mem_nil) dX2_namesSecond_27
      · have hf : f_X2_namesSecond x0 = (f_X2_namesSecond_1 x0) := hf.trans (if_neg c_13)
        refine lv_iload_n hx hb dX2_namesSecond_16 rfl (lv_at hl 0 rfl) ?_
        refine lv_bipush (v := 12) hx hb dX2_namesSecond_17 (by decide) ?_
        refine lv_icmp_gt (tgt := 26) hx hb dX2_namesSecond_19 (by decide) (fun c_19 => ?_) (fun c_19 => ?_)
        · have hf : f_X2_namesSecond x0 = (0 : Int32) := hf.trans (if_pos c_19)
          refine lv_iconst (v := 0) hx hb dX2_namesSecond_26 (by decide) ?_
          exact W.zret hx hb hr rfl (fun t ht hW => ⟨_, rfl, hf.symm, ht⟩) (fun q hq => absurd hq List.not_mem_nil) dX2_namesSecond_27
        · have hf : f_X2_namesSecond x0 = (1 : Int32) := hf.trans (if_neg c_19)
          refine lv_iconst (v := 1) hx hb dX2_namesSecond_22 (by decide) ?_
          refine lv_goto (tgt := 27) hx hb dX2_namesSecond_23 (by decide) ?_
          exact W.zret hx hb hr rfl (fun t ht hW => ⟨_, rfl, hf.symm, ht⟩) (fun q hq => absurd hq List.not_mem_nil) dX2_namesSecond_27
def f_X2_ofWhole_1 (i : Nat) (w_1 : Int32) (w_2 : Int64) : Int64 := (f_X1_rounded i w_1 w_2 (0 : Int32))
def f_X2_ofWhole_2 (i : Nat) (x1 : Int64) (w_1 : Int32) : Int64 := if (0 : Int64) ≤ x1 then (f_X2_ofWhole_1 i w_1 x1) else (f_X2_ofWhole_1 i w_1 (-x1))
def f_X2_ofWhole_3 (i : Nat) (x1 : Int64) : Int64 := if (0 : Int64) ≤ x1 then (f_X2_ofWhole_2 i x1 (0 : Int32)) else (f_X2_ofWhole_2 i x1 (1 : Int32))
def f_X2_ofWhole (i : Nat) (x1 : Int64) : Int64 := (f_X2_ofWhole_3 i x1)
def f_X2_turned_1 (i : Nat) (x1 : Int64) (j : Nat) (v4_1 : Int32) : Int64 := if (f_X1_isInfinite i x1) = 0 then (f_X1_rounded j v4_1 (f_X1_significand i x1) (f_X1_exponent i x1)) else (f_X1_signed j v4_1 (kinf j))
def f_X2_turned_2 (i : Nat) (x1 : Int64) (j : Nat) : Int64 := if (f_X1_isNan i x1) = 0 then (f_X2_turned_1 i x1 j (f_X1_isNegative i x1)) else (knan j)
def f_X2_turned (i : Nat) (x1 : Int64) (j : Nat) : Int64 := (f_X2_turned_2 i x1 j)
def zX2_turned : List Cond := .code yX2_turned cX2_turned 5 (some .long) :: zall
theorem iX2_turned : MWs yX2_turned (.code yX2_turned cX2_turned 5 (some .long)) := ⟨(zin__r12 (.static yX2_turned) (List.mem_of_getElem? (i := 13) rfl)), (zin__r7 (.initialized RX2) (List.mem_of_getElem? (i := 12) rfl)), (zin__r12 (.code yX2_turned cX2_turned 5 (some .long)) (List.mem_of_getElem? (i := 14) rfl))⟩
set_option maxHeartbeats 4000000 in
set_option maxRecDepth 100000 in
theorem c_X2_turned (l : Launch) (ad : Nat → Nat) (i : Nat) (h_i : i < 2) (x1 : Int64) (j : Nat) (h_j : j < 2) : Met l yX2_turned zX2_turned ({ frames := 3, cells := 0, slots := 0, locals := 72 }) (va_Pc [.ref (ad i), .long x1, .ref (ad j)] (fun U => kU ad U)) (vp_Sl (fun r => r = f_X2_turned i x1 j)) 0 0 (fun _ => False) := by
  refine Met.ofW (cc := cX2_turned) (maxL := 5) (ret := (some .long)) (by decide) rfl ?_
  intro p e s m args below meth c s₁ B hml hv
  obtain ⟨rfl, hk⟩ := hv
  have hx := B.exec
  have hb := B.bytes
  have hr := B.returns
  have hts : ∀ w ∈ zall, w.before _ s = true := fun w h => atoms_spec (ws := zX2_turned) B.pre w (List.mem_cons_of_mem _ h)
  have hown : s.vm.findClass RX2 = some m.cls := findClass_of_methodNamed B.named
  have hlocks := B.notSynchronized
  have hl := lv_entry ([.ref (ad i), .long x1, .ref (ad j)]) (n := 5) (Nat.le_of_ble_eq_true rfl)
  rw [lg_entry_eq]
  generalize (lg_sl ([.ref (ad i), .long x1, .ref (ad j)]) ++ List.replicate (5 - (lg_sl ([.ref (ad i), .long x1, .ref (ad j)])).length) Slot.unset).toArray = ls at hl ⊢
  have hl : lv_has ls 5 [(0, .ref (ad i)), (1, .long x1), (3, .ref (ad j))] := hl
  have hf : f_X2_turned i x1 j = (f_X2_turned_2 i x1 j) := rfl
  refine lv_aload_n hx hb dX2_turned_0 rfl (lv_at hl 0 rfl) ?_
  refine lv_lload_n hx hb dX2_turned_1 rfl (lv_at hl 1 rfl) ?_
  refine vp_callSi (va_Run.run (va_runV (As := [.long x1]) (rest := []) ⟨hx, hb, hml, hown, hts⟩ (c_X1_isNan l ad i h_i x1) (cwV 1 hts (gV iX1_isNan (zin__r7 (.methodLink RX2 11 yX1_isNan) (List.mem_of_getElem? (i := 15) rfl))) rfl rfl rfl (by decide +kernel) ⟨Nat.le_of_ble_eq_true rfl, Nat.le_of_ble_eq_true rfl⟩) ⟨fun a U g mk q => ⟨q.1, kU_bl q.2⟩, (kU_rv hk h_i), fun U hU hW => ⟨rfl, kU_mv hk hU hW⟩⟩ rfl rfl hl.1 rfl (lv_room (Nat.le_of_ble_eq_true rfl)) dX2_turned_2 ⟨Nat.zero_le _, Nat.zero_le _⟩)) (fun r_2 hr_2 => ?_)
  subst hr_2
  refine lv_if_eq (tgt := 13) hx hb dX2_turned_5 (by decide) (fun c_5 => ?_) (fun c_5 => ?_)
  · have hf : f_X2_turned i x1 j = (f_X2_turned_1 i x1 j (f_X1_isNegative i x1)) := hf.trans (if_pos c_5)
    refine lv_aload_n hx hb dX2_turned_13 rfl (lv_at hl 0 rfl) ?_
    refine lv_lload_n hx hb dX2_turned_14 rfl (lv_at hl 1 rfl) ?_
    refine vp_callSi (va_Run.run (va_runV (As := [.long x1]) (rest := []) ⟨hx, hb, hml, hown, hts⟩ (c_X1_isNegative l ad i h_i x1) (cwV 1 hts (gV iX1_isNegative (zin__r9 (.methodLink RX2 40 yX1_isNegative) (List.mem_of_getElem? (i := 6) rfl))) rfl rfl rfl (by decide +kernel) ⟨Nat.le_of_ble_eq_true rfl, Nat.le_of_ble_eq_true rfl⟩) ⟨fun a U g mk q => ⟨q.1, kU_bl q.2⟩, (kU_rv hk h_i), fun U hU hW => ⟨rfl, kU_mv hk hU hW⟩⟩ rfl rfl hl.1 rfl (lv_room (Nat.le_of_ble_eq_true rfl)) dX2_turned_15 ⟨Nat.zero_le _, Nat.zero_le _⟩)) (fun r_15 hr_15 => ?_)
    subst hr_15
    refine lv_topi (fun v4_1 e_v4_1 => ?_)
    have hf : f_X2_turned i x1 j = (f_X2_turned_1 i x1 j v4_1) := hf.trans (congrArg (fun z => (f_X2_turned_1 i x1 j z)) e_v4_1.symm)
    refine lv_istore (lv' := [(4, .int v4_1), (0, .ref (ad i)), (1, .long x1), (3, .ref (ad j))]) hx hb dX2_turned_18 hl (by decide) rfl (fun ls hl => ?_)
    refine lv_aload_n hx hb dX2_turned_20 rfl (lv_at hl 1 rfl) ?_
    refine lv_lload_n hx hb dX2_turned_21 rfl (lv_at hl 2 rfl) ?_
    refine vp_callSi (va_Run.run (va_runV (As := [.long x1]) (rest := []) ⟨hx, hb, hml, hown, hts⟩ (c_X1_isInfinite l ad i h_i x1) (cwV 1 hts (gV iX1_isInfinite (zin__r9 (.methodLink RX2 74 yX1_isInfinite) (List.mem_of_getElem? (i := 2) rfl))) rfl rfl rfl (by decide +kernel) ⟨Nat.le_of_ble_eq_true rfl, Nat.le_of_ble_eq_true rfl⟩) ⟨fun a U g mk q => ⟨q.1, kU_bl q.2⟩, (kU_rv hk h_i), fun U hU hW => ⟨rfl, kU_mv hk hU hW⟩⟩ rfl rfl hl.1 rfl (lv_room (Nat.le_of_ble_eq_true rfl)) dX2_turned_22 ⟨Nat.zero_le _, Nat.zero_le _⟩)) (fun r_22 hr_22 => ?_)
    subst hr_22
    refine lv_if_eq (tgt := 39) hx hb dX2_turned_25 (by decide) (fun c_25 => ?_) (fun c_25 => ?_)
    · have hf : f_X2_turned i x1 j = (f_X1_rounded j v4_1 (f_X1_significand i x1) (f_X1_exponent i x1)) := hf.trans (if_pos c_25)
      refine lv_aload_n hx hb dX2_turned_39 rfl (lv_at hl 3 rfl) ?_
      refine lv_iload hx hb dX2_turned_40 (lv_at hl 0 rfl) ?_
      refine lv_aload_n hx hb dX2_turned_42 rfl (lv_at hl 1 rfl) ?_
      refine lv_lload_n hx hb dX2_turned_43 rfl (lv_at hl 2 rfl) ?_
      refine vp_callSl (va_Run.run (va_runV (As := [.long x1]) (rest := [.int v4_1, .ref (ad j)]) ⟨hx, hb, hml, hown, hts⟩ (c_X1_significand l ad i h_i x1) (cwV 1 hts (gV iX1_significand (zin__r9 (.methodLink RX2 80 yX1_significand) (List.mem_of_getElem? (i := 7) rfl))) rfl rfl rfl (by decide +kernel) ⟨Nat.le_of_ble_eq_true rfl, Nat.le_of_ble_eq_true rfl⟩) ⟨fun a U g mk q => ⟨q.1, kU_bl q.2⟩, (kU_rv hk h_i), fun U hU hW => ⟨rfl, kU_mv hk hU hW⟩⟩ rfl rfl hl.1 rfl (lv_room (Nat.le_of_ble_eq_true rfl)) dX2_turned_44 ⟨Nat.zero_le _, Nat.zero_le _⟩)) (fun r_44 hr_44 => ?_)
      subst hr_44
      refine lv_aload_n hx hb dX2_turned_47 rfl (lv_at hl 1 rfl) ?_
      refine lv_lload_n hx hb dX2_turned_48 rfl (lv_at hl 2 rfl) ?_
      refine vp_callSi (va_Run.run (va_runV (As := [.long x1]) (rest := [.long (f_X1_significand i x1), .int v4_1, .ref (ad j)]) ⟨hx, hb, hml, hown, hts⟩ (c_X1_exponent l ad i h_i x1) (cwV 1 hts (gV iX1_exponent (zin__r8 (.methodLink RX2 83 yX1_exponent) (List.mem_of_getElem? (i := 12) rfl))) rfl rfl rfl (by decide +kernel) ⟨Nat.le_of_ble_eq_true rfl, Nat.le_of_ble_eq_true rfl⟩) ⟨fun a U g mk q => ⟨q.1, kU_bl q.2⟩, (kU_rv hk h_i), fun U hU hW => ⟨rfl, kU_mv hk hU hW⟩⟩ rfl rfl hl.1 rfl (lv_room (Nat.le_of_ble_eq_true rfl)) dX2_turned_49 ⟨Nat.zero_le _, Nat.zero_le _⟩)) (fun r_49 hr_49 => ?_)
      subst hr_49
      refine vp_callSl (va_Run.run (va_runV (As := [.int v4_1, .long (f_X1_significand i x1), .int (f_X1_exponent i x1)]) (rest := []) ⟨hx, hb, hml, hown, hts⟩ (c_X1_rounded l ad j h_j v4_1 (f_X1_significand i x1) (f_X1_exponent i x1)) (cwV 3 hts (gV iX1_rounded (zin__r9 (.methodLink RX2 70 yX1_rounded) (List.mem_of_getElem? (i := 11) rfl))) rfl rfl rfl (by decide +kernel) ⟨Nat.le_of_ble_eq_true rfl, Nat.le_of_ble_eq_true rfl⟩) ⟨fun a U g mk q => ⟨q.1, kU_bl q.2⟩, (kU_rv hk h_j), fun U hU hW => ⟨rfl, kU_mv hk hU hW⟩⟩ rfl rfl hl.1 rfl (lv_room (Nat.le_of_ble_eq_true rfl)) dX2_turned_52 ⟨Nat.zero_le _, Nat.zero_le _⟩)) (fun r_52 hr_52 => ?_)
      subst hr_52
      exact W.lret hx hb hr (fun t ht hW => ⟨_, rfl, hf.symm, ht⟩) (fun q hq => absurd hq List.not_mem_nil) dX2_turned_55
    · have hf : f_X2_turned i x1 j = (f_X1_signed j v4_1 (kinf j)) := hf.trans (if_neg c_25)
      refine lv_aload_n hx hb dX2_turned_28 rfl (lv_at hl 3 rfl) ?_
      refine lv_iload hx hb dX2_turned_29 (lv_at hl 0 rfl) ?_
      refine lv_aload_n hx hb dX2_turned_31 rfl (lv_at hl 3 rfl) ?_
      refine vk_getf hx hb (kE_infinite hk h_j) va_S.rf hown (hts _ (zin__r11 (.fieldLink RX2 77 "ReckonBench$Kind" "infinite" "J") (List.mem_of_getElem? (i := 7) rfl))) (fun _ h9 => h9) dX2_turned_32 ?_
      refine vp_callSl (va_Run.run (va_runV (As := [.int v4_1, .long (kinf j)]) (rest := []) ⟨hx, hb, hml, hown, hts⟩ (c_X1_signed l ad j h_j v4_1 (kinf j)) (cwV 2 hts (gV iX1_signed (zin__r10 (.methodLink RX2 47 yX1_signed) (List.mem_of_getElem? (i := 11) rfl))) rfl rfl rfl (by decide +kernel) ⟨Nat.le_of_ble_eq_true rfl, Nat.le_of_ble_eq_true rfl⟩) ⟨fun a U g mk q => ⟨q.1, kU_bl q.2⟩, (kU_rv hk h_j), fun U hU hW => ⟨rfl, kU_mv hk hU hW⟩⟩ rfl rfl hl.1 rfl (lv_room (Nat.le_of_ble_eq_true rfl)) dX2_turned_35 ⟨Nat.zero_le _, Nat.zero_le _⟩)) (fun r_35 hr_35 => ?_)
      subst hr_35
      exact W.lret hx hb hr (fun t ht hW => ⟨_, rfl, hf.symm, ht⟩) (fun q hq => absurd hq List.not_mem_nil) dX2_turned_38
  · have hf : f_X2_turned i x1 j = (knan j) := hf.trans (if_neg c_5)
    refine lv_aload_n hx hb dX2_turned_8 rfl (lv_at hl 2 rfl) ?_
    refine vk_getf hx hb (kE_nan hk h_j) va_S.rf hown (hts _ (zin__r7 (.fieldLink RX2 21 "ReckonBench$Kind" "nan" "J") (List.mem_of_getElem? (i := 14) rfl))) (fun _ h9 => h9) dX2_turned_9 ?_
    exact W.lret hx hb hr (fun t ht hW => ⟨_, rfl, hf.symm, ht⟩) (fun q hq => absurd hq List.not_mem_nil) dX2_turned_12
def f_X2_cutOff_1 (v3_1 : Int32) (v7_4 : Int64) : Int64 := if v3_1 = 0 then v7_4 else (-v7_4)
def f_X2_cutOff_2 (v3_1 : Int32) : Int64 := if v3_1 = 0 then (9223372036854775807 : Int64) else (-9223372036854775808 : Int64)
def f_X2_cutOff_3 (v3_1 : Int32) (v4_2 : Int64) (v6_3 : Int32) : Int64 := if v6_3 < (f_J13_numberOfLeadingZeros_95d88 v4_2) then (f_X2_cutOff_1 v3_1 (jlshl v4_2 v6_3)) else (f_X2_cutOff_2 v3_1)
def f_X2_cutOff_4 (v3_1 : Int32) (v7_5 : Int64) : Int64 := if v3_1 = 0 then v7_5 else (-v7_5)
def f_X2_cutOff_5 (v3_1 : Int32) (v4_2 : Int64) (v6_3 : Int32) : Int64 := if 0 ≤ v6_3 then (f_X2_cutOff_3 v3_1 v4_2 v6_3) else (f_X2_cutOff_4 v3_1 (jlushr v4_2 (jminI (-v6_3) (63 : Int32))))
def f_X2_cutOff_6 (i : Nat) (x1 : Int64) : Int64 := if (f_X1_isNan i x1) = 0 then (f_X2_cutOff_5 (f_X1_isNegative i x1) (f_X1_significand i x1) (f_X1_exponent i x1)) else (0 : Int64)
def f_X2_cutOff (i : Nat) (x1 : Int64) : Int64 := (f_X2_cutOff_6 i x1)
def f_X2_toWhole_1 (i : Nat) (v5_2 : Int32) (w_8 : Int64) : Int64 := (f_X1_rounded i v5_2 w_8 (0 : Int32))
def f_X2_toWhole_2 (i : Nat) (v5_2 : Int32) (v9_5 : Int64) (v13_7 : Int32) : Int64 := if v13_7 = 0 then (f_X2_toWhole_1 i v5_2 v9_5) else (f_X2_toWhole_1 i v5_2 (v9_5 + (1 : Int64)))
def f_X2_toWhole_3 (i : Nat) (v5_2 : Int32) (v9_5 : Int64) : Int64 := (f_X2_toWhole_2 i v5_2 v9_5 (0 : Int32))
def f_X2_toWhole_4 (i : Nat) (v5_2 : Int32) (v9_5 : Int64) (w_10 : Int32) : Int64 := if v5_2 = w_10 then (f_X2_toWhole_2 i v5_2 v9_5 (1 : Int32)) else (f_X2_toWhole_3 i v5_2 v9_5)
def f_X2_toWhole_5 (i : Nat) (x2 : Int32) (v5_2 : Int32) (v9_5 : Int64) : Int64 := if x2 = (3 : Int32) then (f_X2_toWhole_4 i v5_2 v9_5 (1 : Int32)) else (f_X2_toWhole_4 i v5_2 v9_5 (0 : Int32))
def f_X2_toWhole_6 (i : Nat) (x2 : Int32) (v5_2 : Int32) (v9_5 : Int64) (v11_6 : Int64) : Int64 := if v11_6 = (0 : Int64) then (f_X2_toWhole_3 i v5_2 v9_5) else (f_X2_toWhole_5 i x2 v5_2 v9_5)
def f_X2_toWhole_7 (i : Nat) (v5_2 : Int32) (v9_5 : Int64) : Int64 := (f_X2_toWhole_2 i v5_2 v9_5 (1 : Int32))
def f_X2_toWhole_8 (i : Nat) (v5_2 : Int32) (v9_5 : Int64) : Int64 := (f_X2_toWhole_2 i v5_2 v9_5 (0 : Int32))
def f_X2_toWhole_9 (i : Nat) (v5_2 : Int32) (v9_5 : Int64) : Int64 := if (v9_5 &&& (1 : Int64)) = (1 : Int64) then (f_X2_toWhole_7 i v5_2 v9_5) else (f_X2_toWhole_8 i v5_2 v9_5)
def f_X2_toWhole_10 (i : Nat) (v5_2 : Int32) (v9_5 : Int64) (v11_6 : Int64) (v14_11 : Int64) : Int64 := if v11_6 = v14_11 then (f_X2_toWhole_9 i v5_2 v9_5) else (f_X2_toWhole_8 i v5_2 v9_5)
def f_X2_toWhole_11 (i : Nat) (v5_2 : Int32) (v9_5 : Int64) (v11_6 : Int64) (v14_11 : Int64) : Int64 := if v14_11 < v11_6 then (f_X2_toWhole_7 i v5_2 v9_5) else (f_X2_toWhole_10 i v5_2 v9_5 v11_6 v14_11)
def f_X2_toWhole_12 (i : Nat) (x2 : Int32) (v5_2 : Int32) (v8_4 : Int32) (v9_5 : Int64) (v11_6 : Int64) : Int64 := if x2 = (5 : Int32) then (f_X2_toWhole_11 i v5_2 v9_5 v11_6 (jlshl (1 : Int64) (v8_4 - (1 : Int32)))) else (f_X2_toWhole_6 i x2 v5_2 v9_5 v11_6)
def f_X2_toWhole_13 (i : Nat) (x2 : Int32) (v5_2 : Int32) (v6_3 : Int64) (v8_4 : Int32) (v9_5 : Int64) : Int64 := (f_X2_toWhole_12 i x2 v5_2 v8_4 v9_5 (v6_3 - (jlshl v9_5 v8_4)))
def f_X2_toWhole_14 (i : Nat) (x2 : Int32) (v5_2 : Int32) (v6_3 : Int64) (v8_4 : Int32) : Int64 := (f_X2_toWhole_13 i x2 v5_2 v6_3 v8_4 (jlushr v6_3 v8_4))
def f_X2_toWhole_15 (i : Nat) (x1 : Int64) (x2 : Int32) (v4_1 : Int32) : Int64 := if v4_1 < 0 then (f_X2_toWhole_14 i x2 (f_X1_isNegative i x1) (f_X1_significand i x1) (jminI (-v4_1) (62 : Int32))) else x1
def f_X2_toWhole_16 (i : Nat) (x1 : Int64) (x2 : Int32) (v4_1 : Int32) : Int64 := if (f_X1_isInfinite i x1) = 0 then (f_X2_toWhole_15 i x1 x2 v4_1) else x1
def f_X2_toWhole (i : Nat) (x1 : Int64) (x2 : Int32) : Int64 := (f_X2_toWhole_16 i x1 x2 (f_X1_exponent i x1))
def zX2_toWhole : List Cond := .code yX2_toWhole cX2_toWhole 16 (some .long) :: zall
theorem iX2_toWhole : MWs yX2_toWhole (.code yX2_toWhole cX2_toWhole 16 (some .long)) := ⟨(zin__r8 (.static yX2_toWhole) (List.mem_of_getElem? (i := 6) rfl)), (zin__r7 (.initialized RX2) (List.mem_of_getElem? (i := 12) rfl)), (zin__r8 (.code yX2_toWhole cX2_toWhole 16 (some .long)) (List.mem_of_getElem? (i := 7) rfl))⟩
set_option maxHeartbeats 4000000 in
set_option maxRecDepth 100000 in
theorem c_X2_toWhole (l : Launch) (ad : Nat → Nat) (i : Nat) (h_i : i < 2) (x1 : Int64) (x2 : Int32) : Met l yX2_toWhole zX2_toWhole ({ frames := 3, cells := 0, slots := 0, locals := 72 }) (va_Pc [.ref (ad i), .long x1, .int x2] (fun U => kU ad U)) (vp_Sl (fun r => r = f_X2_toWhole i x1 x2)) 0 0 (fun _ => False) := by
  refine Met.ofW (cc := cX2_toWhole) (maxL := 16) (ret := (some .long)) (by decide) rfl ?_
  intro p e s m args below meth c s₁ B hml hv
  obtain ⟨rfl, hk⟩ := hv
  have hx := B.exec
  have hb := B.bytes
  have hr := B.returns
  have hts : ∀ w ∈ zall, w.before _ s = true := fun w h => atoms_spec (ws := zX2_toWhole) B.pre w (List.mem_cons_of_mem _ h)
  have hown : s.vm.findClass RX2 = some m.cls := findClass_of_methodNamed B.named
  have hlocks := B.notSynchronized
  have hl := lv_entry ([.ref (ad i), .long x1, .int x2]) (n := 16) (Nat.le_of_ble_eq_true rfl)
  rw [lg_entry_eq]
  generalize (lg_sl ([.ref (ad i), .long x1, .int x2]) ++ List.replicate (16 - (lg_sl ([.ref (ad i), .long x1, .int x2])).length) Slot.unset).toArray = ls at hl ⊢
  have hl : lv_has ls 16 [(0, .ref (ad i)), (1, .long x1), (3, .int x2)] := hl
  have hf : f_X2_toWhole i x1 x2 = (f_X2_toWhole_16 i x1 x2 (f_X1_exponent i x1)) := rfl
  refine lv_aload_n hx hb dX2_toWhole_0 rfl (lv_at hl 0 rfl) ?_
  refine lv_lload_n hx hb dX2_toWhole_1 rfl (lv_at hl 1 rfl) ?_
  refine vp_callSi (va_Run.run (va_runV (As := [.long x1]) (rest := []) ⟨hx, hb, hml, hown, hts⟩ (c_X1_exponent l ad i h_i x1) (cwV 1 hts (gV iX1_exponent (zin__r8 (.methodLink RX2 83 yX1_exponent) (List.mem_of_getElem? (i := 12) rfl))) rfl rfl rfl (by decide +kernel) ⟨Nat.le_of_ble_eq_true rfl, Nat.le_of_ble_eq_true rfl⟩) ⟨fun a U g mk q => ⟨q.1, kU_bl q.2⟩, (kU_rv hk h_i), fun U hU hW => ⟨rfl, kU_mv hk hU hW⟩⟩ rfl rfl hl.1 rfl (lv_room (Nat.le_of_ble_eq_true rfl)) dX2_toWhole_2 ⟨Nat.zero_le _, Nat.zero_le _⟩)) (fun r_2 hr_2 => ?_)
  subst hr_2
  refine lv_topi (fun v4_1 e_v4_1 => ?_)
  have hf : f_X2_toWhole i x1 x2 = (f_X2_toWhole_16 i x1 x2 v4_1) := hf.trans (congrArg (fun z => (f_X2_toWhole_16 i x1 x2 z)) e_v4_1.symm)
  refine lv_istore (lv' := [(4, .int v4_1), (0, .ref (ad i)), (1, .long x1), (3, .int x2)]) hx hb dX2_toWhole_5 hl (by decide) rfl (fun ls hl => ?_)
  refine lv_aload_n hx hb dX2_toWhole_7 rfl (lv_at hl 1 rfl) ?_
  refine lv_lload_n hx hb dX2_toWhole_8 rfl (lv_at hl 2 rfl) ?_
  refine vp_callSi (va_Run.run (va_runV (As := [.long x1]) (rest := []) ⟨hx, hb, hml, hown, hts⟩ (c_X1_isInfinite l ad i h_i x1) (cwV 1 hts (gV iX1_isInfinite (zin__r9 (.methodLink RX2 74 yX1_isInfinite) (List.mem_of_getElem? (i := 2) rfl))) rfl rfl rfl (by decide +kernel) ⟨Nat.le_of_ble_eq_true rfl, Nat.le_of_ble_eq_true rfl⟩) ⟨fun a U g mk q => ⟨q.1, kU_bl q.2⟩, (kU_rv hk h_i), fun U hU hW => ⟨rfl, kU_mv hk hU hW⟩⟩ rfl rfl hl.1 rfl (lv_room (Nat.le_of_ble_eq_true rfl)) dX2_toWhole_9 ⟨Nat.zero_le _, Nat.zero_le _⟩)) (fun r_9 hr_9 => ?_)
  subst hr_9
  refine lv_if_ne (tgt := 20) hx hb dX2_toWhole_12 (by decide) (fun c_12 => ?_) (fun c_12 => ?_)
  · have hf : f_X2_toWhole i x1 x2 = x1 := hf.trans (if_neg c_12)
    refine lv_lload_n hx hb dX2_toWhole_20 rfl (lv_at hl 2 rfl) ?_
    exact W.lret hx hb hr (fun t ht hW => ⟨_, rfl, hf.symm, ht⟩) (fun q hq => absurd hq List.not_mem_nil) dX2_toWhole_21
  · have hf : f_X2_toWhole i x1 x2 = (f_X2_toWhole_15 i x1 x2 v4_1) := hf.trans (if_pos c_12)
    refine lv_iload hx hb dX2_toWhole_15 (lv_at hl 0 rfl) ?_
    refine lv_if_lt (tgt := 22) hx hb dX2_toWhole_17 (by decide) (fun c_17 => ?_) (fun c_17 => ?_)
    · have hf : f_X2_toWhole i x1 x2 = (f_X2_toWhole_14 i x2 (f_X1_isNegative i x1) (f_X1_significand i x1) (jminI (-v4_1) (62 : Int32))) := hf.trans (if_pos c_17)
      refine lv_aload_n hx hb dX2_toWhole_22 rfl (lv_at hl 1 rfl) ?_
      refine lv_lload_n hx hb dX2_toWhole_23 rfl (lv_at hl 2 rfl) ?_
      refine vp_callSi (va_Run.run (va_runV (As := [.long x1]) (rest := []) ⟨hx, hb, hml, hown, hts⟩ (c_X1_isNegative l ad i h_i x1) (cwV 1 hts (gV iX1_isNegative (zin__r9 (.methodLink RX2 40 yX1_isNegative) (List.mem_of_getElem? (i := 6) rfl))) rfl rfl rfl (by decide +kernel) ⟨Nat.le_of_ble_eq_true rfl, Nat.le_of_ble_eq_true rfl⟩) ⟨fun a U g mk q => ⟨q.1, kU_bl q.2⟩, (kU_rv hk h_i), fun U hU hW => ⟨rfl, kU_mv hk hU hW⟩⟩ rfl rfl hl.1 rfl (lv_room (Nat.le_of_ble_eq_true rfl)) dX2_toWhole_24 ⟨Nat.zero_le _, Nat.zero_le _⟩)) (fun r_24 hr_24 => ?_)
      subst hr_24
      refine lv_topi (fun v5_2 e_v5_2 => ?_)
      have hf : f_X2_toWhole i x1 x2 = (f_X2_toWhole_14 i x2 v5_2 (f_X1_significand i x1) (jminI (-v4_1) (62 : Int32))) := hf.trans (congrArg (fun z => (f_X2_toWhole_14 i x2 z (f_X1_significand i x1) (jminI (-v4_1) (62 : Int32)))) e_v5_2.symm)
      refine lv_istore (lv' := [(5, .int v5_2), (4, .int v4_1), (0, .ref (ad i)), (1, .long x1), (3, .int x2)]) hx hb dX2_toWhole_27 hl (by decide) rfl (fun ls hl => ?_)
      refine lv_aload_n hx hb dX2_toWhole_29 rfl (lv_at hl 2 rfl) ?_
      refine lv_lload_n hx hb dX2_toWhole_30 rfl (lv_at hl 3 rfl) ?_
      refine vp_callSl (va_Run.run (va_runV (As := [.long x1]) (rest := []) ⟨hx, hb, hml, hown, hts⟩ (c_X1_significand l ad i h_i x1) (cwV 1 hts (gV iX1_significand (zin__r9 (.methodLink RX2 80 yX1_significand) (List.mem_of_getElem? (i := 7) rfl))) rfl rfl rfl (by decide +kernel) ⟨Nat.le_of_ble_eq_true rfl, Nat.le_of_ble_eq_true rfl⟩) ⟨fun a U g mk q => ⟨q.1, kU_bl q.2⟩, (kU_rv hk h_i), fun U hU hW => ⟨rfl, kU_mv hk hU hW⟩⟩ rfl rfl hl.1 rfl (lv_room (Nat.le_of_ble_eq_true rfl)) dX2_toWhole_31 ⟨Nat.zero_le _, Nat.zero_le _⟩)) (fun r_31 hr_31 => ?_)
      subst hr_31
      refine lv_topl (fun v6_3 e_v6_3 => ?_)
      have hf : f_X2_toWhole i x1 x2 = (f_X2_toWhole_14 i x2 v5_2 v6_3 (jminI (-v4_1) (62 : Int32))) := hf.trans (congrArg (fun z => (f_X2_toWhole_14 i x2 v5_2 z (jminI (-v4_1) (62 : Int32)))) e_v6_3.symm)
      refine lv_lstore (lv' := [(6, .long v6_3), (5, .int v5_2), (4, .int v4_1), (0, .ref (ad i)), (1, .long x1), (3, .int x2)]) hx hb dX2_toWhole_34 hl (by decide) rfl (fun ls hl => ?_)
      refine lv_iload hx hb dX2_toWhole_36 (lv_at hl 2 rfl) ?_
      refine lv_ineg hx hb dX2_toWhole_38 ?_
      refine lv_bipush (v := 62) hx hb dX2_toWhole_39 (by decide) ?_
      refine va_mmin hx hb (hml.trans hl.1.symm) hown (hts _ (zin__r8 (.methodLink RX2 87 Lib.Math.min.name) (List.mem_of_getElem? (i := 8) rfl))) (hts _ (zin__r8 (.static Lib.Math.min.name) (List.mem_of_getElem? (i := 9) rfl))) (hts _ (zin__r8 (.initialized "java/lang/Math") (List.mem_of_getElem? (i := 10) rfl))) (hts _ (zin__r8 (.code Lib.Math.min.name Lib.Math.min.code 2 (some .int)) (List.mem_of_getElem? (i := 11) rfl))) (Nat.le_of_ble_eq_true rfl) (Nat.le_of_ble_eq_true rfl) (Nat.zero_le _) (Nat.zero_le _) dX2_toWhole_41 ?_
      refine lv_topi (fun v8_4 e_v8_4 => ?_)
      have hf : f_X2_toWhole i x1 x2 = (f_X2_toWhole_14 i x2 v5_2 v6_3 v8_4) := hf.trans (congrArg (fun z => (f_X2_toWhole_14 i x2 v5_2 v6_3 z)) e_v8_4.symm)
      refine lv_istore (lv' := [(8, .int v8_4), (6, .long v6_3), (5, .int v5_2), (4, .int v4_1), (0, .ref (ad i)), (1, .long x1), (3, .int x2)]) hx hb dX2_toWhole_44 hl (by decide) rfl (fun ls hl => ?_)
      refine lv_lload hx hb dX2_toWhole_46 (lv_at hl 1 rfl) ?_
      refine lv_iload hx hb dX2_toWhole_48 (lv_at hl 0 rfl) ?_
      refine lv_lushr (v := (jlushr v6_3 v8_4)) hx hb dX2_toWhole_50 rfl ?_
      refine lv_topl (fun v9_5 e_v9_5 => ?_)
      have hf : f_X2_toWhole i x1 x2 = (f_X2_toWhole_13 i x2 v5_2 v6_3 v8_4 v9_5) := hf.trans (congrArg (fun z => (f_X2_toWhole_13 i x2 v5_2 v6_3 v8_4 z)) e_v9_5.symm)
      refine lv_lstore (lv' := [(9, .long v9_5), (8, .int v8_4), (6, .long v6_3), (5, .int v5_2), (4, .int v4_1), (0, .ref (ad i)), (1, .long x1), (3, .int x2)]) hx hb dX2_toWhole_51 hl (by decide) rfl (fun ls hl => ?_)
      refine lv_lload hx hb dX2_toWhole_53 (lv_at hl 2 rfl) ?_
      refine lv_lload hx hb dX2_toWhole_55 (lv_at hl 0 rfl) ?_
      refine lv_iload hx hb dX2_toWhole_57 (lv_at hl 1 rfl) ?_
      refine lv_lshl (v := (jlshl v9_5 v8_4)) hx hb dX2_toWhole_59 rfl ?_
      refine lv_lsub hx hb dX2_toWhole_60 ?_
      refine lv_topl (fun v11_6 e_v11_6 => ?_)
      have hf : f_X2_toWhole i x1 x2 = (f_X2_toWhole_12 i x2 v5_2 v8_4 v9_5 v11_6) := hf.trans (congrArg (fun z => (f_X2_toWhole_12 i x2 v5_2 v8_4 v9_5 z)) e_v11_6.symm)
      refine lv_lstore (lv' := [(11, .long v11_6), (9, .long v9_5), (8, .int v8_4), (6, .long v6_3), (5, .int v5_2), (4, .int v4_1), (0, .ref (ad i)), (1, .long x1), (3, .int x2)]) hx hb dX2_toWhole_61 hl (by decide) rfl (fun ls hl => ?_)
      refine lv_iload_n hx hb dX2_toWhole_63 rfl (lv_at hl 8 rfl) ?_
      refine lv_iconst (v := 5) hx hb dX2_toWhole_64 (by decide) ?_
      refine W_cut (α := Int32) (pcJ := 140) (nL := 16) (fun v => f_X2_toWhole i x1 x2 = (f_X2_toWhole_2 i v5_2 v9_5 v)) (fun v => []) (fun v => [(0, .ref (ad i)), (5, .int v5_2), (9, .long v9_5), (13, .int v)]) (fun v13_7 ls hf hl => ?_) (fun K_140 => ?_)
      · have hf : f_X2_toWhole i x1 x2 = (f_X2_toWhole_2 i v5_2 v9_5 v13_7) := hf
        have hl : lv_has ls 16 [(0, .ref (ad i)), (5, .int v5_2), (9, .long v9_5), (13, .int v13_7)] := hl
        refine lv_aload_n hx hb dX2_toWhole_140 rfl (lv_at hl 0 rfl) ?_
        refine lv_iload hx hb dX2_toWhole_141 (lv_at hl 1 rfl) ?_
        refine lv_iload hx hb dX2_toWhole_143 (lv_at hl 3 rfl) ?_
        refine W_cut (α := Int64) (pcJ := 157) (nL := 16) (fun v => f_X2_toWhole i x1 x2 = (f_X2_toWhole_1 i v5_2 v)) (fun v => [.long v, .int v5_2, .ref (ad i)]) (fun v => []) (fun w_8 ls hf hl => ?_) (fun K_157 => ?_)
        · have hf : f_X2_toWhole i x1 x2 = (f_X1_rounded i v5_2 w_8 (0 : Int32)) := hf
          have hl : lv_has ls 16 [] := hl
          refine lv_iconst (v := 0) hx hb dX2_toWhole_157 (by decide) ?_
          refine vp_callSl (va_Run.run (va_runV (As := [.int v5_2, .long w_8, .int (0 : Int32)]) (rest := []) ⟨hx, hb, hml, hown, hts⟩ (c_X1_rounded l ad i h_i v5_2 w_8 (0 : Int32)) (cwV 3 hts (gV iX1_rounded (zin__r9 (.methodLink RX2 70 yX1_rounded) (List.mem_of_getElem? (i := 11) rfl))) rfl rfl rfl (by decide +kernel) ⟨Nat.le_of_ble_eq_true rfl, Nat.le_of_ble_eq_true rfl⟩) ⟨fun a U g mk q => ⟨q.1, kU_bl q.2⟩, (kU_rv hk h_i), fun U hU hW => ⟨rfl, kU_mv hk hU hW⟩⟩ rfl rfl hl.1 rfl (lv_room (Nat.le_of_ble_eq_true rfl)) dX2_toWhole_158 ⟨Nat.zero_le _, Nat.zero_le _⟩)) (fun r_158 hr_158 => ?_)
          subst hr_158
          exact W.lret hx hb hr (fun t ht hW => ⟨_, rfl, hf.symm, ht⟩) (fun q hq => absurd hq List.not_mem_nil) dX2_toWhole_161
        refine lv_if_eq (tgt := 155) hx hb dX2_toWhole_145 (by decide) (fun c_145 => ?_) (fun c_145 => ?_)
        · have hf : f_X2_toWhole i x1 x2 = (f_X2_toWhole_1 i v5_2 v9_5) := hf.trans (if_pos c_145)
          refine lv_lload hx hb dX2_toWhole_155 (lv_at hl 2 rfl) ?_
          exact K_157 v9_5 ls hf (lv_sub hl [] rfl)
        · have hf : f_X2_toWhole i x1 x2 = (f_X2_toWhole_1 i v5_2 (v9_5 + (1 : Int64))) := hf.trans (if_neg c_145)
          refine lv_lload hx hb dX2_toWhole_148 (lv_at hl 2 rfl) ?_
          refine lv_lconst (v := 1) hx hb dX2_toWhole_150 (by decide) ?_
          refine lv_ladd hx hb dX2_toWhole_151 ?_
          refine lv_goto (tgt := 157) hx hb dX2_toWhole_152 (by decide) ?_
          exact K_157 (v9_5 + (1 : Int64)) ls hf (lv_sub hl [] rfl)
      refine lv_icmp_ne (tgt := 111) hx hb dX2_toWhole_65 (by decide) (fun c_65 => ?_) (fun c_65 => ?_)
      · have hf : f_X2_toWhole i x1 x2 = (f_X2_toWhole_6 i x2 v5_2 v9_5 v11_6) := hf.trans (if_neg c_65)
        refine lv_lload hx hb dX2_toWhole_111 (lv_at hl 0 rfl) ?_
        refine lv_lconst (v := 0) hx hb dX2_toWhole_113 (by decide) ?_
        refine W.lcmp hx hb dX2_toWhole_114 ?_
        refine W_cut (α := Int32) (pcJ := 138) (nL := 16) (fun v => f_X2_toWhole i x1 x2 = (f_X2_toWhole_2 i v5_2 v9_5 v)) (fun v => [.int v]) (fun v => [(0, .ref (ad i)), (5, .int v5_2), (9, .long v9_5)]) (fun w_9 ls hf hl => ?_) (fun K_138 => ?_)
        · have hf : f_X2_toWhole i x1 x2 = (f_X2_toWhole_2 i v5_2 v9_5 w_9) := hf
          have hl : lv_has ls 16 [(0, .ref (ad i)), (5, .int v5_2), (9, .long v9_5)] := hl
          refine lv_istore (lv' := [(13, .int w_9), (0, .ref (ad i)), (5, .int v5_2), (9, .long v9_5)]) hx hb dX2_toWhole_138 hl (by decide) rfl (fun ls hl => ?_)
          exact K_140 w_9 ls hf (lv_sub hl [1, 2, 3, 0] rfl)
        refine W_cut (α := Unit) (pcJ := 137) (nL := 16) (fun v => f_X2_toWhole i x1 x2 = (f_X2_toWhole_3 i v5_2 v9_5)) (fun v => []) (fun v => [(0, .ref (ad i)), (5, .int v5_2), (9, .long v9_5)]) (fun v ls hf hl => ?_) (fun K_137 => ?_)
        · have hf : f_X2_toWhole i x1 x2 = (f_X2_toWhole_2 i v5_2 v9_5 (0 : Int32)) := hf
          have hl : lv_has ls 16 [(0, .ref (ad i)), (5, .int v5_2), (9, .long v9_5)] := hl
          refine lv_iconst (v := 0) hx hb dX2_toWhole_137 (by decide) ?_
          exact K_138 (0 : Int32) ls hf (lv_sub hl [0, 1, 2] rfl)
        refine lv_if_eq (tgt := 137) hx hb dX2_toWhole_115 (by decide) (fun c_115 => ?_) (fun c_115 => ?_)
        · have c_115 : v11_6 = (0 : Int64) := (lg_cmp_eq v11_6 (0 : Int64)).mp c_115
          have hf : f_X2_toWhole i x1 x2 = (f_X2_toWhole_3 i v5_2 v9_5) := hf.trans (if_pos c_115)
          exact K_137 () ls hf (lv_sub hl [6, 4, 1] rfl)
        · have c_115 : ¬ (v11_6 = (0 : Int64)) := fun h9 => c_115 ((lg_cmp_eq v11_6 (0 : Int64)).mpr h9)
          have hf : f_X2_toWhole i x1 x2 = (f_X2_toWhole_5 i x2 v5_2 v9_5) := hf.trans (if_neg c_115)
          refine lv_iload hx hb dX2_toWhole_118 (lv_at hl 4 rfl) ?_
          refine lv_iload_n hx hb dX2_toWhole_120 rfl (lv_at hl 8 rfl) ?_
          refine lv_iconst (v := 3) hx hb dX2_toWhole_121 (by decide) ?_
          refine W_cut (α := Int32) (pcJ := 130) (nL := 16) (fun v => f_X2_toWhole i x1 x2 = (f_X2_toWhole_4 i v5_2 v9_5 v)) (fun v => [.int v, .int v5_2]) (fun v => [(0, .ref (ad i)), (5, .int v5_2), (9, .long v9_5)]) (fun w_10 ls hf hl => ?_) (fun K_130 => ?_)
          · have hf : f_X2_toWhole i x1 x2 = (f_X2_toWhole_4 i v5_2 v9_5 w_10) := hf
            have hl : lv_has ls 16 [(0, .ref (ad i)), (5, .int v5_2), (9, .long v9_5)] := hl
            refine lv_icmp_ne (tgt := 137) hx hb dX2_toWhole_130 (by decide) (fun c_130 => ?_) (fun c_130 => ?_)
            · have hf : f_X2_toWhole i x1 x2 = (f_X2_toWhole_3 i v5_2 v9_5) := hf.trans (if_neg c_130)
              exact K_137 () ls hf (lv_sub hl [0, 1, 2] rfl)
            · have hf : f_X2_toWhole i x1 x2 = (f_X2_toWhole_2 i v5_2 v9_5 (1 : Int32)) := hf.trans (if_pos c_130)
              refine lv_iconst (v := 1) hx hb dX2_toWhole_133 (by decide) ?_
              refine lv_goto (tgt := 138) hx hb dX2_toWhole_134 (by decide) ?_
              exact K_138 (1 : Int32) ls hf (lv_sub hl [0, 1, 2] rfl)
          refine lv_icmp_ne (tgt := 129) hx hb dX2_toWhole_122 (by decide) (fun c_122 => ?_) (fun c_122 => ?_)
          · have hf : f_X2_toWhole i x1 x2 = (f_X2_toWhole_4 i v5_2 v9_5 (0 : Int32)) := hf.trans (if_neg c_122)
            refine lv_iconst (v := 0) hx hb dX2_toWhole_129 (by decide) ?_
            exact K_130 (0 : Int32) ls hf (lv_sub hl [6, 4, 1] rfl)
          · have hf : f_X2_toWhole i x1 x2 = (f_X2_toWhole_4 i v5_2 v9_5 (1 : Int32)) := hf.trans (if_pos c_122)
            refine lv_iconst (v := 1) hx hb dX2_toWhole_125 (by decide) ?_
            refine lv_goto (tgt := 130) hx hb dX2_toWhole_126 (by decide) ?_
            exact K_130 (1 : Int32) ls hf (lv_sub hl [6, 4, 1] rfl)
      · have hf : f_X2_toWhole i x1 x2 = (f_X2_toWhole_11 i v5_2 v9_5 v11_6 (jlshl (1 : Int64) (v8_4 - (1 : Int32)))) := hf.trans (if_pos c_65)
        refine lv_lconst (v := 1) hx hb dX2_toWhole_68 (by decide) ?_
        refine lv_iload hx hb dX2_toWhole_69 (lv_at hl 2 rfl) ?_
        refine lv_iconst (v := 1) hx hb dX2_toWhole_71 (by decide) ?_
        refine lv_isub hx hb dX2_toWhole_72 ?_
        refine lv_lshl (v := (jlshl (1 : Int64) (v8_4 - (1 : Int32)))) hx hb dX2_toWhole_73 rfl ?_
        refine lv_topl (fun v14_11 e_v14_11 => ?_)
        have hf : f_X2_toWhole i x1 x2 = (f_X2_toWhole_11 i v5_2 v9_5 v11_6 v14_11) := hf.trans (congrArg (fun z => (f_X2_toWhole_11 i v5_2 v9_5 v11_6 z)) e_v14_11.symm)
        refine lv_lstore (lv' := [(14, .long v14_11), (11, .long v11_6), (9, .long v9_5), (8, .int v8_4), (6, .long v6_3), (5, .int v5_2), (4, .int v4_1), (0, .ref (ad i)), (1, .long x1), (3, .int x2)]) hx hb dX2_toWhole_74 hl (by decide) rfl (fun ls hl => ?_)
        refine lv_lload hx hb dX2_toWhole_76 (lv_at hl 1 rfl) ?_
        refine lv_lload hx hb dX2_toWhole_78 (lv_at hl 0 rfl) ?_
        refine W.lcmp hx hb dX2_toWhole_80 ?_
        refine W_cut (α := Int32) (pcJ := 106) (nL := 16) (fun v => f_X2_toWhole i x1 x2 = (f_X2_toWhole_2 i v5_2 v9_5 v)) (fun v => [.int v]) (fun v => [(0, .ref (ad i)), (5, .int v5_2), (9, .long v9_5)]) (fun w_12 ls hf hl => ?_) (fun K_106 => ?_)
        · have hf : f_X2_toWhole i x1 x2 = (f_X2_toWhole_2 i v5_2 v9_5 w_12) := hf
          have hl : lv_has ls 16 [(0, .ref (ad i)), (5, .int v5_2), (9, .long v9_5)] := hl
          refine lv_istore (lv' := [(13, .int w_12), (0, .ref (ad i)), (5, .int v5_2), (9, .long v9_5)]) hx hb dX2_toWhole_106 hl (by decide) rfl (fun ls hl => ?_)
          refine lv_goto (tgt := 140) hx hb dX2_toWhole_108 (by decide) ?_
          exact K_140 w_12 ls hf (lv_sub hl [1, 2, 3, 0] rfl)
        refine W_cut (α := Unit) (pcJ := 101) (nL := 16) (fun v => f_X2_toWhole i x1 x2 = (f_X2_toWhole_7 i v5_2 v9_5)) (fun v => []) (fun v => [(0, .ref (ad i)), (5, .int v5_2), (9, .long v9_5)]) (fun v ls hf hl => ?_) (fun K_101 => ?_)
        · have hf : f_X2_toWhole i x1 x2 = (f_X2_toWhole_2 i v5_2 v9_5 (1 : Int32)) := hf
          have hl : lv_has ls 16 [(0, .ref (ad i)), (5, .int v5_2), (9, .long v9_5)] := hl
          refine lv_iconst (v := 1) hx hb dX2_toWhole_101 (by decide) ?_
          refine lv_goto (tgt := 106) hx hb dX2_toWhole_102 (by decide) ?_
          exact K_106 (1 : Int32) ls hf (lv_sub hl [0, 1, 2] rfl)
        refine lv_if_gt (tgt := 101) hx hb dX2_toWhole_81 (by decide) (fun c_81 => ?_) (fun c_81 => ?_)
        · have c_81 : v14_11 < v11_6 := (lg_cmp_gt v11_6 v14_11).mp c_81
          have hf : f_X2_toWhole i x1 x2 = (f_X2_toWhole_7 i v5_2 v9_5) := hf.trans (if_pos c_81)
          exact K_101 () ls hf (lv_sub hl [7, 5, 2] rfl)
        · have c_81 : ¬ (v14_11 < v11_6) := fun h9 => c_81 ((lg_cmp_gt v11_6 v14_11).mpr h9)
          have hf : f_X2_toWhole i x1 x2 = (f_X2_toWhole_10 i v5_2 v9_5 v11_6 v14_11) := hf.trans (if_neg c_81)
          refine lv_lload hx hb dX2_toWhole_84 (lv_at hl 1 rfl) ?_
          refine lv_lload hx hb dX2_toWhole_86 (lv_at hl 0 rfl) ?_
          refine W.lcmp hx hb dX2_toWhole_88 ?_
          refine W_cut (α := Unit) (pcJ := 105) (nL := 16) (fun v => f_X2_toWhole i x1 x2 = (f_X2_toWhole_8 i v5_2 v9_5)) (fun v => []) (fun v => [(0, .ref (ad i)), (5, .int v5_2), (9, .long v9_5)]) (fun v ls hf hl => ?_) (fun K_105 => ?_)
          · have hf : f_X2_toWhole i x1 x2 = (f_X2_toWhole_2 i v5_2 v9_5 (0 : Int32)) := hf
            have hl : lv_has ls 16 [(0, .ref (ad i)), (5, .int v5_2), (9, .long v9_5)] := hl
            refine lv_iconst (v := 0) hx hb dX2_toWhole_105 (by decide) ?_
            exact K_106 (0 : Int32) ls hf (lv_sub hl [0, 1, 2] rfl)
          refine lv_if_ne (tgt := 105) hx hb dX2_toWhole_89 (by decide) (fun c_89 => ?_) (fun c_89 => ?_)
          · have c_89 : ¬ (v11_6 = v14_11) := fun h9 => c_89 ((lg_cmp_eq v11_6 v14_11).mpr h9)
            have hf : f_X2_toWhole i x1 x2 = (f_X2_toWhole_8 i v5_2 v9_5) := hf.trans (if_neg c_89)
            exact K_105 () ls hf (lv_sub hl [7, 5, 2] rfl)
          · have c_89 : v11_6 = v14_11 := (lg_cmp_eq v11_6 v14_11).mp c_89
            have hf : f_X2_toWhole i x1 x2 = (f_X2_toWhole_9 i v5_2 v9_5) := hf.trans (if_pos c_89)
            refine lv_lload hx hb dX2_toWhole_92 (lv_at hl 2 rfl) ?_
            refine lv_lconst (v := 1) hx hb dX2_toWhole_94 (by decide) ?_
            refine lv_land hx hb dX2_toWhole_95 ?_
            refine lv_lconst (v := 1) hx hb dX2_toWhole_96 (by decide) ?_
            refine W.lcmp hx hb dX2_toWhole_97 ?_
            refine lv_if_ne (tgt := 105) hx hb dX2_toWhole_98 (by decide) (fun c_98 => ?_) (fun c_98 => ?_)
            · have c_98 : ¬ ((v9_5 &&& (1 : Int64)) = (1 : Int64)) := fun h9 => c_98 ((lg_cmp_eq (v9_5 &&& (1 : Int64)) (1 : Int64)).mpr h9)
              have hf : f_X2_toWhole i x1 x2 = (f_X2_toWhole_8 i v5_2 v9_5) := hf.trans (if_neg c_98)
              exact K_105 () ls hf (lv_sub hl [7, 5, 2] rfl)
            · have c_98 : (v9_5 &&& (1 : Int64)) = (1 : Int64) := (lg_cmp_eq (v9_5 &&& (1 : Int64)) (1 : Int64)).mp c_98
              have hf : f_X2_toWhole i x1 x2 = (f_X2_toWhole_7 i v5_2 v9_5) := hf.trans (if_pos c_98)
              exact K_101 () ls hf (lv_sub hl [7, 5, 2] rfl)
    · have hf : f_X2_toWhole i x1 x2 = x1 := hf.trans (if_neg c_17)
      refine lv_lload_n hx hb dX2_toWhole_20 rfl (lv_at hl 2 rfl) ?_
      exact W.lret hx hb hr (fun t ht hW => ⟨_, rfl, hf.symm, ht⟩) (fun q hq => absurd hq List.not_mem_nil) dX2_toWhole_21
def f_X2_shiftedRight_1 (x0 : Int64) (x1 : Int32) (v3_1 : Int64) : Int64 := if (jlshl v3_1 x1) = x0 then v3_1 else (v3_1 ||| (1 : Int64))
def f_X2_shiftedRight_2 (x0 : Int64) : Int64 := if x0 = (0 : Int64) then (0 : Int64) else (1 : Int64)
def f_X2_shiftedRight_3 (x0 : Int64) (x1 : Int32) : Int64 := if x1 ≤ (62 : Int32) then (f_X2_shiftedRight_1 x0 x1 (jlushr x0 x1)) else (f_X2_shiftedRight_2 x0)
def f_X2_shiftedRight (x0 : Int64) (x1 : Int32) : Int64 := (f_X2_shiftedRight_3 x0 x1)
def zX2_shiftedRight : List Cond := .code yX2_shiftedRight cX2_shiftedRight 5 (some .long) :: zall
theorem iX2_shiftedRight : MWs yX2_shiftedRight (.code yX2_shiftedRight cX2_shiftedRight 5 (some .long)) := ⟨(zin__r10 (.static yX2_shiftedRight) (List.mem_of_getElem? (i := 19) rfl)), (zin__r7 (.initialized RX2) (List.mem_of_getElem? (i := 12) rfl)), (zin__r10 (.code yX2_shiftedRight cX2_shiftedRight 5 (some .long)) (List.mem_of_getElem? (i := 20) rfl))⟩
set_option maxHeartbeats 4000000 in
set_option maxRecDepth 100000 in
theorem c_X2_shiftedRight (l : Launch) (x0 : Int64) (x1 : Int32) : Met l yX2_shiftedRight zX2_shiftedRight ({ frames := 0, cells := 0, slots := 0, locals := 0 }) (va_Pc [.long x0, .int x1] (fun U => True)) (vp_Sl (fun r => r = f_X2_shiftedRight x0 x1)) 0 0 (fun _ => False) := by
  refine Met.ofW (cc := cX2_shiftedRight) (maxL := 5) (ret := (some .long)) (by decide) rfl ?_
  intro p e s m args below meth c s₁ B hml hv
  obtain ⟨rfl, -⟩ := hv
  have hx := B.exec
  have hb := B.bytes
  have hr := B.returns
  have hts : ∀ w ∈ zall, w.before _ s = true := fun w h => atoms_spec (ws := zX2_shiftedRight) B.pre w (List.mem_cons_of_mem _ h)
  have hown : s.vm.findClass RX2 = some m.cls := findClass_of_methodNamed B.named
  have hlocks := B.notSynchronized
  have hl := lv_entry ([.long x0, .int x1]) (n := 5) (Nat.le_of_ble_eq_true rfl)
  rw [lg_entry_eq]
  generalize (lg_sl ([.long x0, .int x1]) ++ List.replicate (5 - (lg_sl ([.long x0, .int x1])).length) Slot.unset).toArray = ls at hl ⊢
  have hl : lv_has ls 5 [(0, .long x0), (2, .int x1)] := hl
  have hf : f_X2_shiftedRight x0 x1 = (f_X2_shiftedRight_3 x0 x1) := rfl
  refine lv_iload_n hx hb dX2_shiftedRight_0 rfl (lv_at hl 1 rfl) ?_
  refine lv_bipush (v := 62) hx hb dX2_shiftedRight_1 (by decide) ?_
  refine lv_icmp_le (tgt := 18) hx hb dX2_shiftedRight_3 (by decide) (fun c_3 => ?_) (fun c_3 => ?_)
  · have hf : f_X2_shiftedRight x0 x1 = (f_X2_shiftedRight_1 x0 x1 (jlushr x0 x1)) := hf.trans (if_pos c_3)
    refine lv_lload_n hx hb dX2_shiftedRight_18 rfl (lv_at hl 0 rfl) ?_
    refine lv_iload_n hx hb dX2_shiftedRight_19 rfl (lv_at hl 1 rfl) ?_
    refine lv_lushr (v := (jlushr x0 x1)) hx hb dX2_shiftedRight_20 rfl ?_
    refine lv_topl (fun v3_1 e_v3_1 => ?_)
    have hf : f_X2_shiftedRight x0 x1 = (f_X2_shiftedRight_1 x0 x1 v3_1) := hf.trans (congrArg (fun z => (f_X2_shiftedRight_1 x0 x1 z)) e_v3_1.symm)
    refine lv_lstore_n (lv' := [(3, .long v3_1), (0, .long x0), (2, .int x1)]) hx hb dX2_shiftedRight_21 rfl hl (by decide) rfl (fun ls hl => ?_)
    refine lv_lload_n hx hb dX2_shiftedRight_22 rfl (lv_at hl 0 rfl) ?_
    refine lv_iload_n hx hb dX2_shiftedRight_23 rfl (lv_at hl 2 rfl) ?_
    refine lv_lshl (v := (jlshl v3_1 x1)) hx hb dX2_shiftedRight_24 rfl ?_
    refine lv_lload_n hx hb dX2_shiftedRight_25 rfl (lv_at hl 1 rfl) ?_
    refine W.lcmp hx hb dX2_shiftedRight_26 ?_
    refine lv_if_ne (tgt := 34) hx hb dX2_shiftedRight_27 (by decide) (fun c_27 => ?_) (fun c_27 => ?_)
    · have c_27 : ¬ ((jlshl v3_1 x1) = x0) := fun h9 => c_27 ((lg_cmp_eq (jlshl v3_1 x1) x0).mpr h9)
      have hf : f_X2_shiftedRight x0 x1 = (v3_1 ||| (1 : Int64)) := hf.trans (if_neg c_27)
      refine lv_lload_n hx hb dX2_shiftedRight_34 rfl (lv_at hl 0 rfl) ?_
      refine lv_lconst (v := 1) hx hb dX2_shiftedRight_35 (by decide) ?_
      refine lv_lor hx hb dX2_shiftedRight_36 ?_
      exact W.lret hx hb hr (fun t ht hW => ⟨_, rfl, hf.symm, ht⟩) (fun q hq => absurd hq List.not_mem_nil) dX2_shiftedRight_37
    · have c_27 : (jlshl v3_1 x1) = x0 := (lg_cmp_eq (jlshl v3_1 x1) x0).mp c_27
      have hf : f_X2_shiftedRight x0 x1 = v3_1 := hf.trans (if_pos c_27)
      refine lv_lload_n hx hb dX2_shiftedRight_30 rfl (lv_at hl 0 rfl) ?_
      refine lv_goto (tgt := 37) hx hb dX2_shiftedRight_31 (by decide) ?_
      exact W.lret hx hb hr (fun t ht hW => ⟨_, rfl, hf.symm, ht⟩) (fun q hq => absurd hq List.not_mem_nil) dX2_shiftedRight_37
  · have hf : f_X2_shiftedRight x0 x1 = (f_X2_shiftedRight_2 x0) := hf.trans (if_neg c_3)
    refine lv_lload_n hx hb dX2_shiftedRight_6 rfl (lv_at hl 0 rfl) ?_
    refine lv_lconst (v := 0) hx hb dX2_shiftedRight_7 (by decide) ?_
    refine W.lcmp hx hb dX2_shiftedRight_8 ?_
    refine lv_if_ne (tgt := 16) hx hb dX2_shiftedRight_9 (by decide) (fun c_9 => ?_) (fun c_9 => ?_)
    · have c_9 : ¬ (x0 = (0 : Int64)) := fun h9 => c_9 ((lg_cmp_eq x0 (0 : Int64)).mpr h9)
      have hf : f_X2_shiftedRight x0 x1 = (1 : Int64) := hf.trans (if_neg c_9)
      refine lv_lconst (v := 1) hx hb dX2_shiftedRight_16 (by decide) ?_
      exact W.lret hx hb hr (fun t ht hW => ⟨_, rfl, hf.symm, ht⟩) (fun q hq => absurd hq List.not_mem_nil) dX2_shiftedRight_17
    · have c_9 : x0 = (0 : Int64) := (lg_cmp_eq x0 (0 : Int64)).mp c_9
      have hf : f_X2_shiftedRight x0 x1 = (0 : Int64) := hf.trans (if_pos c_9)
      refine lv_lconst (v := 0) hx hb dX2_shiftedRight_12 (by decide) ?_
      refine lv_goto (tgt := 17) hx hb dX2_shiftedRight_13 (by decide) ?_
      exact W.lret hx hb hr (fun t ht hW => ⟨_, rfl, hf.symm, ht⟩) (fun q hq => absurd hq List.not_mem_nil) dX2_shiftedRight_17
def f_X2_plusLesser_1 (i : Nat) (w_9 : Int32) : Int64 := (f_X1_signed i w_9 (0 : Int64))
def f_X2_plusLesser_2 (i : Nat) : Int64 := (f_X2_plusLesser_1 i (0 : Int32))
def f_X2_plusLesser_3 (i : Nat) (w_7 : Int32) : Int64 := if w_7 = 0 then (f_X2_plusLesser_2 i) else (f_X2_plusLesser_1 i (1 : Int32))
def f_X2_plusLesser_4 (i : Nat) (v12_6 : Int32) (w_7 : Int32) : Int64 := if v12_6 = 0 then (f_X2_plusLesser_2 i) else (f_X2_plusLesser_3 i w_7)
def f_X2_plusLesser_5 (i : Nat) (v5_1 : Int32) (v7_3 : Int32) (v12_6 : Int32) (w_7 : Int32) (w_8 : Int64) : Int64 := if w_8 = (0 : Int64) then (f_X2_plusLesser_4 i v12_6 w_7) else (f_X1_rounded i v12_6 w_8 (v5_1 - v7_3))
def f_X2_plusLesser_6 (i : Nat) (v5_1 : Int32) (v7_3 : Int32) (v8_4 : Int64) (v10_5 : Int64) (v12_6 : Int32) (w_7 : Int32) : Int64 := if w_7 = 0 then (f_X2_plusLesser_5 i v5_1 v7_3 v12_6 w_7 (v8_4 - v10_5)) else (f_X2_plusLesser_5 i v5_1 v7_3 v12_6 w_7 (v8_4 + v10_5))
def f_X2_plusLesser_7 (i : Nat) (x2 : Int64) (v5_1 : Int32) (v7_3 : Int32) (v8_4 : Int64) (v10_5 : Int64) (v12_6 : Int32) : Int64 := if v12_6 = (f_X1_isNegative i x2) then (f_X2_plusLesser_6 i v5_1 v7_3 v8_4 v10_5 v12_6 (1 : Int32)) else (f_X2_plusLesser_6 i v5_1 v7_3 v8_4 v10_5 v12_6 (0 : Int32))
def f_X2_plusLesser_8 (i : Nat) (x1 : Int64) (x2 : Int64) (v5_1 : Int32) (v6_2 : Int32) (v7_3 : Int32) : Int64 := (f_X2_plusLesser_7 i x2 v5_1 v7_3 (jlshl (f_X1_significand i x1) v7_3) (f_X2_shiftedRight (f_X1_significand i x2) (v6_2 - v7_3)) (f_X1_isNegative i x1))
def f_X2_plusLesser_9 (i : Nat) (x1 : Int64) (x2 : Int64) (v5_1 : Int32) (v6_2 : Int32) : Int64 := (f_X2_plusLesser_8 i x1 x2 v5_1 v6_2 (jminI v6_2 (9 : Int32)))
def f_X2_plusLesser_10 (i : Nat) (x1 : Int64) (x2 : Int64) (v5_1 : Int32) : Int64 := (f_X2_plusLesser_9 i x1 x2 v5_1 (v5_1 - (f_X1_exponent i x2)))
def f_X2_plusLesser (i : Nat) (x1 : Int64) (x2 : Int64) : Int64 := (f_X2_plusLesser_10 i x1 x2 (f_X1_exponent i x1))
def zX2_plusLesser : List Cond := .code yX2_plusLesser cX2_plusLesser 16 (some .long) :: zall
theorem iX2_plusLesser : MWs yX2_plusLesser (.code yX2_plusLesser cX2_plusLesser 16 (some .long)) := ⟨(zin__r10 (.static yX2_plusLesser) (List.mem_of_getElem? (i := 16) rfl)), (zin__r7 (.initialized RX2) (List.mem_of_getElem? (i := 12) rfl)), (zin__r10 (.code yX2_plusLesser cX2_plusLesser 16 (some .long)) (List.mem_of_getElem? (i := 17) rfl))⟩
set_option maxHeartbeats 4000000 in
set_option maxRecDepth 100000 in
theorem c_X2_plusLesser (l : Launch) (ad : Nat → Nat) (i : Nat) (h_i : i < 2) (x1 : Int64) (x2 : Int64) : Met l yX2_plusLesser zX2_plusLesser ({ frames := 3, cells := 0, slots := 0, locals := 72 }) (va_Pc [.ref (ad i), .long x1, .long x2] (fun U => kU ad U)) (vp_Sl (fun r => r = f_X2_plusLesser i x1 x2)) 0 0 (fun _ => False) := by
  refine Met.ofW (cc := cX2_plusLesser) (maxL := 16) (ret := (some .long)) (by decide) rfl ?_
  intro p e s m args below meth c s₁ B hml hv
  obtain ⟨rfl, hk⟩ := hv
  have hx := B.exec
  have hb := B.bytes
  have hr := B.returns
  have hts : ∀ w ∈ zall, w.before _ s = true := fun w h => atoms_spec (ws := zX2_plusLesser) B.pre w (List.mem_cons_of_mem _ h)
  have hown : s.vm.findClass RX2 = some m.cls := findClass_of_methodNamed B.named
  have hlocks := B.notSynchronized
  have hl := lv_entry ([.ref (ad i), .long x1, .long x2]) (n := 16) (Nat.le_of_ble_eq_true rfl)
  rw [lg_entry_eq]
  generalize (lg_sl ([.ref (ad i), .long x1, .long x2]) ++ List.replicate (16 - (lg_sl ([.ref (ad i), .long x1, .long x2])).length) Slot.unset).toArray = ls at hl ⊢
  have hl : lv_has ls 16 [(0, .ref (ad i)), (1, .long x1), (3, .long x2)] := hl
  have hf : f_X2_plusLesser i x1 x2 = (f_X2_plusLesser_10 i x1 x2 (f_X1_exponent i x1)) := rfl
  refine lv_aload_n hx hb dX2_plusLesser_0 rfl (lv_at hl 0 rfl) ?_
  refine lv_lload_n hx hb dX2_plusLesser_1 rfl (lv_at hl 1 rfl) ?_
  refine vp_callSi (va_Run.run (va_runV (As := [.long x1]) (rest := []) ⟨hx, hb, hml, hown, hts⟩ (c_X1_exponent l ad i h_i x1) (cwV 1 hts (gV iX1_exponent (zin__r8 (.methodLink RX2 83 yX1_exponent) (List.mem_of_getElem? (i := 12) rfl))) rfl rfl rfl (by decide +kernel) ⟨Nat.le_of_ble_eq_true rfl, Nat.le_of_ble_eq_true rfl⟩) ⟨fun a U g mk q => ⟨q.1, kU_bl q.2⟩, (kU_rv hk h_i), fun U hU hW => ⟨rfl, kU_mv hk hU hW⟩⟩ rfl rfl hl.1 rfl (lv_room (Nat.le_of_ble_eq_true rfl)) dX2_plusLesser_2 ⟨Nat.zero_le _, Nat.zero_le _⟩)) (fun r_2 hr_2 => ?_)
  subst hr_2
  refine lv_topi (fun v5_1 e_v5_1 => ?_)
  have hf : f_X2_plusLesser i x1 x2 = (f_X2_plusLesser_10 i x1 x2 v5_1) := hf.trans (congrArg (fun z => (f_X2_plusLesser_10 i x1 x2 z)) e_v5_1.symm)
  refine lv_istore (lv' := [(5, .int v5_1), (0, .ref (ad i)), (1, .long x1), (3, .long x2)]) hx hb dX2_plusLesser_5 hl (by decide) rfl (fun ls hl => ?_)
  refine lv_iload hx hb dX2_plusLesser_7 (lv_at hl 0 rfl) ?_
  refine lv_aload_n hx hb dX2_plusLesser_9 rfl (lv_at hl 1 rfl) ?_
  refine lv_lload_n hx hb dX2_plusLesser_10 rfl (lv_at hl 3 rfl) ?_
  refine vp_callSi (va_Run.run (va_runV (As := [.long x2]) (rest := [.int v5_1]) ⟨hx, hb, hml, hown, hts⟩ (c_X1_exponent l ad i h_i x2) (cwV 1 hts (gV iX1_exponent (zin__r8 (.methodLink RX2 83 yX1_exponent) (List.mem_of_getElem? (i := 12) rfl))) rfl rfl rfl (by decide +kernel) ⟨Nat.le_of_ble_eq_true rfl, Nat.le_of_ble_eq_true rfl⟩) ⟨fun a U g mk q => ⟨q.1, kU_bl q.2⟩, (kU_rv hk h_i), fun U hU hW => ⟨rfl, kU_mv hk hU hW⟩⟩ rfl rfl hl.1 rfl (lv_room (Nat.le_of_ble_eq_true rfl)) dX2_plusLesser_11 ⟨Nat.zero_le _, Nat.zero_le _⟩)) (fun r_11 hr_11 => ?_)
  subst hr_11
  refine lv_isub hx hb dX2_plusLesser_14 ?_
  refine lv_topi (fun v6_2 e_v6_2 => ?_)
  have hf : f_X2_plusLesser i x1 x2 = (f_X2_plusLesser_9 i x1 x2 v5_1 v6_2) := hf.trans (congrArg (fun z => (f_X2_plusLesser_9 i x1 x2 v5_1 z)) e_v6_2.symm)
  refine lv_istore (lv' := [(6, .int v6_2), (5, .int v5_1), (0, .ref (ad i)), (1, .long x1), (3, .long x2)]) hx hb dX2_plusLesser_15 hl (by decide) rfl (fun ls hl => ?_)
  refine lv_iload hx hb dX2_plusLesser_17 (lv_at hl 0 rfl) ?_
  refine lv_bipush (v := 9) hx hb dX2_plusLesser_19 (by decide) ?_
  refine va_mmin hx hb (hml.trans hl.1.symm) hown (hts _ (zin__r8 (.methodLink RX2 87 Lib.Math.min.name) (List.mem_of_getElem? (i := 8) rfl))) (hts _ (zin__r8 (.static Lib.Math.min.name) (List.mem_of_getElem? (i := 9) rfl))) (hts _ (zin__r8 (.initialized "java/lang/Math") (List.mem_of_getElem? (i := 10) rfl))) (hts _ (zin__r8 (.code Lib.Math.min.name Lib.Math.min.code 2 (some .int)) (List.mem_of_getElem? (i := 11) rfl))) (Nat.le_of_ble_eq_true rfl) (Nat.le_of_ble_eq_true rfl) (Nat.zero_le _) (Nat.zero_le _) dX2_plusLesser_21 ?_
  refine lv_topi (fun v7_3 e_v7_3 => ?_)
  have hf : f_X2_plusLesser i x1 x2 = (f_X2_plusLesser_8 i x1 x2 v5_1 v6_2 v7_3) := hf.trans (congrArg (fun z => (f_X2_plusLesser_8 i x1 x2 v5_1 v6_2 z)) e_v7_3.symm)
  refine lv_istore (lv' := [(7, .int v7_3), (6, .int v6_2), (5, .int v5_1), (0, .ref (ad i)), (1, .long x1), (3, .long x2)]) hx hb dX2_plusLesser_24 hl (by decide) rfl (fun ls hl => ?_)
  refine lv_aload_n hx hb dX2_plusLesser_26 rfl (lv_at hl 3 rfl) ?_
  refine lv_lload_n hx hb dX2_plusLesser_27 rfl (lv_at hl 4 rfl) ?_
  refine vp_callSl (va_Run.run (va_runV (As := [.long x1]) (rest := []) ⟨hx, hb, hml, hown, hts⟩ (c_X1_significand l ad i h_i x1) (cwV 1 hts (gV iX1_significand (zin__r9 (.methodLink RX2 80 yX1_significand) (List.mem_of_getElem? (i := 7) rfl))) rfl rfl rfl (by decide +kernel) ⟨Nat.le_of_ble_eq_true rfl, Nat.le_of_ble_eq_true rfl⟩) ⟨fun a U g mk q => ⟨q.1, kU_bl q.2⟩, (kU_rv hk h_i), fun U hU hW => ⟨rfl, kU_mv hk hU hW⟩⟩ rfl rfl hl.1 rfl (lv_room (Nat.le_of_ble_eq_true rfl)) dX2_plusLesser_28 ⟨Nat.zero_le _, Nat.zero_le _⟩)) (fun r_28 hr_28 => ?_)
  subst hr_28
  refine lv_iload hx hb dX2_plusLesser_31 (lv_at hl 0 rfl) ?_
  refine lv_lshl (v := (jlshl (f_X1_significand i x1) v7_3)) hx hb dX2_plusLesser_33 rfl ?_
  refine lv_topl (fun v8_4 e_v8_4 => ?_)
  have hf : f_X2_plusLesser i x1 x2 = (f_X2_plusLesser_7 i x2 v5_1 v7_3 v8_4 (f_X2_shiftedRight (f_X1_significand i x2) (v6_2 - v7_3)) (f_X1_isNegative i x1)) := hf.trans (congrArg (fun z => (f_X2_plusLesser_7 i x2 v5_1 v7_3 z (f_X2_shiftedRight (f_X1_significand i x2) (v6_2 - v7_3)) (f_X1_isNegative i x1))) e_v8_4.symm)
  refine lv_lstore (lv' := [(8, .long v8_4), (7, .int v7_3), (6, .int v6_2), (5, .int v5_1), (0, .ref (ad i)), (1, .long x1), (3, .long x2)]) hx hb dX2_plusLesser_34 hl (by decide) rfl (fun ls hl => ?_)
  refine lv_aload_n hx hb dX2_plusLesser_36 rfl (lv_at hl 4 rfl) ?_
  refine lv_lload_n hx hb dX2_plusLesser_37 rfl (lv_at hl 6 rfl) ?_
  refine vp_callSl (va_Run.run (va_runV (As := [.long x2]) (rest := []) ⟨hx, hb, hml, hown, hts⟩ (c_X1_significand l ad i h_i x2) (cwV 1 hts (gV iX1_significand (zin__r9 (.methodLink RX2 80 yX1_significand) (List.mem_of_getElem? (i := 7) rfl))) rfl rfl rfl (by decide +kernel) ⟨Nat.le_of_ble_eq_true rfl, Nat.le_of_ble_eq_true rfl⟩) ⟨fun a U g mk q => ⟨q.1, kU_bl q.2⟩, (kU_rv hk h_i), fun U hU hW => ⟨rfl, kU_mv hk hU hW⟩⟩ rfl rfl hl.1 rfl (lv_room (Nat.le_of_ble_eq_true rfl)) dX2_plusLesser_38 ⟨Nat.zero_le _, Nat.zero_le _⟩)) (fun r_38 hr_38 => ?_)
  subst hr_38
  refine lv_iload hx hb dX2_plusLesser_41 (lv_at hl 2 rfl) ?_
  refine lv_iload hx hb dX2_plusLesser_43 (lv_at hl 1 rfl) ?_
  refine lv_isub hx hb dX2_plusLesser_45 ?_
  refine vp_callSl (va_Run.run (va_runS (As := [.long (f_X1_significand i x2), .int (v6_2 - v7_3)]) (rest := []) ⟨hx, hb, hml, hown, hts⟩ (c_X2_shiftedRight l  (f_X1_significand i x2) (v6_2 - v7_3)) (va_cwS 2 hts (gS iX2_shiftedRight (zin__r10 (.methodLink RX2 105 yX2_shiftedRight) (List.mem_of_getElem? (i := 18) rfl))) rfl rfl rfl (by decide +kernel) ⟨Nat.le_of_ble_eq_true rfl, Nat.le_of_ble_eq_true rfl⟩) ⟨fun a U g mk q => ⟨q.1, trivial⟩, fun U hU hW => ⟨rfl, trivial⟩⟩ rfl rfl hl.1 rfl (lv_room (Nat.le_of_ble_eq_true rfl)) dX2_plusLesser_46 ⟨Nat.zero_le _, Nat.zero_le _⟩)) (fun r_46 hr_46 => ?_)
  subst hr_46
  refine lv_topl (fun v10_5 e_v10_5 => ?_)
  have hf : f_X2_plusLesser i x1 x2 = (f_X2_plusLesser_7 i x2 v5_1 v7_3 v8_4 v10_5 (f_X1_isNegative i x1)) := hf.trans (congrArg (fun z => (f_X2_plusLesser_7 i x2 v5_1 v7_3 v8_4 z (f_X1_isNegative i x1))) e_v10_5.symm)
  refine lv_lstore (lv' := [(10, .long v10_5), (8, .long v8_4), (7, .int v7_3), (6, .int v6_2), (5, .int v5_1), (0, .ref (ad i)), (1, .long x1), (3, .long x2)]) hx hb dX2_plusLesser_49 hl (by decide) rfl (fun ls hl => ?_)
  refine lv_aload_n hx hb dX2_plusLesser_51 rfl (lv_at hl 5 rfl) ?_
  refine lv_lload_n hx hb dX2_plusLesser_52 rfl (lv_at hl 6 rfl) ?_
  refine vp_callSi (va_Run.run (va_runV (As := [.long x1]) (rest := []) ⟨hx, hb, hml, hown, hts⟩ (c_X1_isNegative l ad i h_i x1) (cwV 1 hts (gV iX1_isNegative (zin__r9 (.methodLink RX2 40 yX1_isNegative) (List.mem_of_getElem? (i := 6) rfl))) rfl rfl rfl (by decide +kernel) ⟨Nat.le_of_ble_eq_true rfl, Nat.le_of_ble_eq_true rfl⟩) ⟨fun a U g mk q => ⟨q.1, kU_bl q.2⟩, (kU_rv hk h_i), fun U hU hW => ⟨rfl, kU_mv hk hU hW⟩⟩ rfl rfl hl.1 rfl (lv_room (Nat.le_of_ble_eq_true rfl)) dX2_plusLesser_53 ⟨Nat.zero_le _, Nat.zero_le _⟩)) (fun r_53 hr_53 => ?_)
  subst hr_53
  refine lv_topi (fun v12_6 e_v12_6 => ?_)
  have hf : f_X2_plusLesser i x1 x2 = (f_X2_plusLesser_7 i x2 v5_1 v7_3 v8_4 v10_5 v12_6) := hf.trans (congrArg (fun z => (f_X2_plusLesser_7 i x2 v5_1 v7_3 v8_4 v10_5 z)) e_v12_6.symm)
  refine lv_istore (lv' := [(12, .int v12_6), (10, .long v10_5), (8, .long v8_4), (7, .int v7_3), (6, .int v6_2), (5, .int v5_1), (0, .ref (ad i)), (1, .long x1), (3, .long x2)]) hx hb dX2_plusLesser_56 hl (by decide) rfl (fun ls hl => ?_)
  refine lv_iload hx hb dX2_plusLesser_58 (lv_at hl 0 rfl) ?_
  refine lv_aload_n hx hb dX2_plusLesser_60 rfl (lv_at hl 6 rfl) ?_
  refine lv_lload_n hx hb dX2_plusLesser_61 rfl (lv_at hl 8 rfl) ?_
  refine vp_callSi (va_Run.run (va_runV (As := [.long x2]) (rest := [.int v12_6]) ⟨hx, hb, hml, hown, hts⟩ (c_X1_isNegative l ad i h_i x2) (cwV 1 hts (gV iX1_isNegative (zin__r9 (.methodLink RX2 40 yX1_isNegative) (List.mem_of_getElem? (i := 6) rfl))) rfl rfl rfl (by decide +kernel) ⟨Nat.le_of_ble_eq_true rfl, Nat.le_of_ble_eq_true rfl⟩) ⟨fun a U g mk q => ⟨q.1, kU_bl q.2⟩, (kU_rv hk h_i), fun U hU hW => ⟨rfl, kU_mv hk hU hW⟩⟩ rfl rfl hl.1 rfl (lv_room (Nat.le_of_ble_eq_true rfl)) dX2_plusLesser_62 ⟨Nat.zero_le _, Nat.zero_le _⟩)) (fun r_62 hr_62 => ?_)
  subst hr_62
  refine W_cut (α := Int32) (pcJ := 73) (nL := 16) (fun v => f_X2_plusLesser i x1 x2 = (f_X2_plusLesser_6 i v5_1 v7_3 v8_4 v10_5 v12_6 v)) (fun v => [.int v]) (fun v => [(0, .ref (ad i)), (5, .int v5_1), (7, .int v7_3), (8, .long v8_4), (10, .long v10_5), (12, .int v12_6)]) (fun w_7 ls hf hl => ?_) (fun K_73 => ?_)
  · have hf : f_X2_plusLesser i x1 x2 = (f_X2_plusLesser_6 i v5_1 v7_3 v8_4 v10_5 v12_6 w_7) := hf
    have hl : lv_has ls 16 [(0, .ref (ad i)), (5, .int v5_1), (7, .int v7_3), (8, .long v8_4), (10, .long v10_5), (12, .int v12_6)] := hl
    refine lv_istore (lv' := [(13, .int w_7), (0, .ref (ad i)), (5, .int v5_1), (7, .int v7_3), (8, .long v8_4), (10, .long v10_5), (12, .int v12_6)]) hx hb dX2_plusLesser_73 hl (by decide) rfl (fun ls hl => ?_)
    refine lv_iload hx hb dX2_plusLesser_75 (lv_at hl 0 rfl) ?_
    refine W_cut (α := Int64) (pcJ := 93) (nL := 16) (fun v => f_X2_plusLesser i x1 x2 = (f_X2_plusLesser_5 i v5_1 v7_3 v12_6 w_7 v)) (fun v => [.long v]) (fun v => [(0, .ref (ad i)), (5, .int v5_1), (7, .int v7_3), (12, .int v12_6), (13, .int w_7)]) (fun w_8 ls hf hl => ?_) (fun K_93 => ?_)
    · have hf : f_X2_plusLesser i x1 x2 = (f_X2_plusLesser_5 i v5_1 v7_3 v12_6 w_7 w_8) := hf
      have hl : lv_has ls 16 [(0, .ref (ad i)), (5, .int v5_1), (7, .int v7_3), (12, .int v12_6), (13, .int w_7)] := hl
      refine lv_lstore (lv' := [(14, .long w_8), (0, .ref (ad i)), (5, .int v5_1), (7, .int v7_3), (12, .int v12_6), (13, .int w_7)]) hx hb dX2_plusLesser_93 hl (by decide) rfl (fun ls hl => ?_)
      refine lv_lload hx hb dX2_plusLesser_95 (lv_at hl 0 rfl) ?_
      refine lv_lconst (v := 0) hx hb dX2_plusLesser_97 (by decide) ?_
      refine W.lcmp hx hb dX2_plusLesser_98 ?_
      refine lv_if_ne (tgt := 123) hx hb dX2_plusLesser_99 (by decide) (fun c_99 => ?_) (fun c_99 => ?_)
      · have c_99 : ¬ (w_8 = (0 : Int64)) := fun h9 => c_99 ((lg_cmp_eq w_8 (0 : Int64)).mpr h9)
        have hf : f_X2_plusLesser i x1 x2 = (f_X1_rounded i v12_6 w_8 (v5_1 - v7_3)) := hf.trans (if_neg c_99)
        refine lv_aload_n hx hb dX2_plusLesser_123 rfl (lv_at hl 1 rfl) ?_
        refine lv_iload hx hb dX2_plusLesser_124 (lv_at hl 4 rfl) ?_
        refine lv_lload hx hb dX2_plusLesser_126 (lv_at hl 0 rfl) ?_
        refine lv_iload hx hb dX2_plusLesser_128 (lv_at hl 2 rfl) ?_
        refine lv_iload hx hb dX2_plusLesser_130 (lv_at hl 3 rfl) ?_
        refine lv_isub hx hb dX2_plusLesser_132 ?_
        refine vp_callSl (va_Run.run (va_runV (As := [.int v12_6, .long w_8, .int (v5_1 - v7_3)]) (rest := []) ⟨hx, hb, hml, hown, hts⟩ (c_X1_rounded l ad i h_i v12_6 w_8 (v5_1 - v7_3)) (cwV 3 hts (gV iX1_rounded (zin__r9 (.methodLink RX2 70 yX1_rounded) (List.mem_of_getElem? (i := 11) rfl))) rfl rfl rfl (by decide +kernel) ⟨Nat.le_of_ble_eq_true rfl, Nat.le_of_ble_eq_true rfl⟩) ⟨fun a U g mk q => ⟨q.1, kU_bl q.2⟩, (kU_rv hk h_i), fun U hU hW => ⟨rfl, kU_mv hk hU hW⟩⟩ rfl rfl hl.1 rfl (lv_room (Nat.le_of_ble_eq_true rfl)) dX2_plusLesser_133 ⟨Nat.zero_le _, Nat.zero_le _⟩)) (fun r_133 hr_133 => ?_)
        subst hr_133
        exact W.lret hx hb hr (fun t ht hW => ⟨_, rfl, hf.symm, ht⟩) (fun q hq => absurd hq List.not_mem_nil) dX2_plusLesser_136
      · have c_99 : w_8 = (0 : Int64) := (lg_cmp_eq w_8 (0 : Int64)).mp c_99
        have hf : f_X2_plusLesser i x1 x2 = (f_X2_plusLesser_4 i v12_6 w_7) := hf.trans (if_pos c_99)
        refine lv_aload_n hx hb dX2_plusLesser_102 rfl (lv_at hl 1 rfl) ?_
        refine lv_iload hx hb dX2_plusLesser_103 (lv_at hl 4 rfl) ?_
        refine W_cut (α := Int32) (pcJ := 118) (nL := 16) (fun v => f_X2_plusLesser i x1 x2 = (f_X2_plusLesser_1 i v)) (fun v => [.int v, .ref (ad i)]) (fun v => []) (fun w_9 ls hf hl => ?_) (fun K_118 => ?_)
        · have hf : f_X2_plusLesser i x1 x2 = (f_X1_signed i w_9 (0 : Int64)) := hf
          have hl : lv_has ls 16 [] := hl
          refine lv_lconst (v := 0) hx hb dX2_plusLesser_118 (by decide) ?_
          refine vp_callSl (va_Run.run (va_runV (As := [.int w_9, .long (0 : Int64)]) (rest := []) ⟨hx, hb, hml, hown, hts⟩ (c_X1_signed l ad i h_i w_9 (0 : Int64)) (cwV 2 hts (gV iX1_signed (zin__r10 (.methodLink RX2 47 yX1_signed) (List.mem_of_getElem? (i := 11) rfl))) rfl rfl rfl (by decide +kernel) ⟨Nat.le_of_ble_eq_true rfl, Nat.le_of_ble_eq_true rfl⟩) ⟨fun a U g mk q => ⟨q.1, kU_bl q.2⟩, (kU_rv hk h_i), fun U hU hW => ⟨rfl, kU_mv hk hU hW⟩⟩ rfl rfl hl.1 rfl (lv_room (Nat.le_of_ble_eq_true rfl)) dX2_plusLesser_119 ⟨Nat.zero_le _, Nat.zero_le _⟩)) (fun r_119 hr_119 => ?_)
          subst hr_119
          exact W.lret hx hb hr (fun t ht hW => ⟨_, rfl, hf.symm, ht⟩) (fun q hq => absurd hq List.not_mem_nil) dX2_plusLesser_122
        refine W_cut (α := Unit) (pcJ := 117) (nL := 16) (fun v => f_X2_plusLesser i x1 x2 = (f_X2_plusLesser_2 i)) (fun v => [.ref (ad i)]) (fun v => []) (fun v ls hf hl => ?_) (fun K_117 => ?_)
        · have hf : f_X2_plusLesser i x1 x2 = (f_X2_plusLesser_1 i (0 : Int32)) := hf
          have hl : lv_has ls 16 [] := hl
          refine lv_iconst (v := 0) hx hb dX2_plusLesser_117 (by decide) ?_
          exact K_118 (0 : Int32) ls hf (lv_sub hl [] rfl)
        refine lv_if_eq (tgt := 117) hx hb dX2_plusLesser_105 (by decide) (fun c_105 => ?_) (fun c_105 => ?_)
        · have hf : f_X2_plusLesser i x1 x2 = (f_X2_plusLesser_2 i) := hf.trans (if_pos c_105)
          exact K_117 () ls hf (lv_sub hl [] rfl)
        · have hf : f_X2_plusLesser i x1 x2 = (f_X2_plusLesser_3 i w_7) := hf.trans (if_neg c_105)
          refine lv_iload hx hb dX2_plusLesser_108 (lv_at hl 5 rfl) ?_
          refine lv_if_eq (tgt := 117) hx hb dX2_plusLesser_110 (by decide) (fun c_110 => ?_) (fun c_110 => ?_)
          · have hf : f_X2_plusLesser i x1 x2 = (f_X2_plusLesser_2 i) := hf.trans (if_pos c_110)
            exact K_117 () ls hf (lv_sub hl [] rfl)
          · have hf : f_X2_plusLesser i x1 x2 = (f_X2_plusLesser_1 i (1 : Int32)) := hf.trans (if_neg c_110)
            refine lv_iconst (v := 1) hx hb dX2_plusLesser_113 (by decide) ?_
            refine lv_goto (tgt := 118) hx hb dX2_plusLesser_114 (by decide) ?_
            exact K_118 (1 : Int32) ls hf (lv_sub hl [] rfl)
    refine lv_if_eq (tgt := 88) hx hb dX2_plusLesser_77 (by decide) (fun c_77 => ?_) (fun c_77 => ?_)
    · have hf : f_X2_plusLesser i x1 x2 = (f_X2_plusLesser_5 i v5_1 v7_3 v12_6 w_7 (v8_4 - v10_5)) := hf.trans (if_pos c_77)
      refine lv_lload hx hb dX2_plusLesser_88 (lv_at hl 4 rfl) ?_
      refine lv_lload hx hb dX2_plusLesser_90 (lv_at hl 5 rfl) ?_
      refine lv_lsub hx hb dX2_plusLesser_92 ?_
      exact K_93 (v8_4 - v10_5) ls hf (lv_sub hl [1, 2, 3, 6, 0] rfl)
    · have hf : f_X2_plusLesser i x1 x2 = (f_X2_plusLesser_5 i v5_1 v7_3 v12_6 w_7 (v8_4 + v10_5)) := hf.trans (if_neg c_77)
      refine lv_lload hx hb dX2_plusLesser_80 (lv_at hl 4 rfl) ?_
      refine lv_lload hx hb dX2_plusLesser_82 (lv_at hl 5 rfl) ?_
      refine lv_ladd hx hb dX2_plusLesser_84 ?_
      refine lv_goto (tgt := 93) hx hb dX2_plusLesser_85 (by decide) ?_
      exact K_93 (v8_4 + v10_5) ls hf (lv_sub hl [1, 2, 3, 6, 0] rfl)
  refine lv_icmp_ne (tgt := 72) hx hb dX2_plusLesser_65 (by decide) (fun c_65 => ?_) (fun c_65 => ?_)
  · have hf : f_X2_plusLesser i x1 x2 = (f_X2_plusLesser_6 i v5_1 v7_3 v8_4 v10_5 v12_6 (0 : Int32)) := hf.trans (if_neg c_65)
    refine lv_iconst (v := 0) hx hb dX2_plusLesser_72 (by decide) ?_
    exact K_73 (0 : Int32) ls hf (lv_sub hl [6, 5, 3, 2, 1, 0] rfl)
  · have hf : f_X2_plusLesser i x1 x2 = (f_X2_plusLesser_6 i v5_1 v7_3 v8_4 v10_5 v12_6 (1 : Int32)) := hf.trans (if_pos c_65)
    refine lv_iconst (v := 1) hx hb dX2_plusLesser_68 (by decide) ?_
    refine lv_goto (tgt := 73) hx hb dX2_plusLesser_69 (by decide) ?_
    exact K_73 (1 : Int32) ls hf (lv_sub hl [6, 5, 3, 2, 1, 0] rfl)
def f_X2_plus_1 (i : Nat) (x1 : Int64) (x2 : Int64) (w_1 : Int32) : Int64 := if w_1 = 0 then (f_X2_plusLesser i x1 x2) else (f_X2_plusLesser i x2 x1)
def f_X2_plus_2 (i : Nat) (x1 : Int64) (x2 : Int64) : Int64 := if (f_X1_magnitude i x2) ≤ (f_X1_magnitude i x1) then (f_X2_plus_1 i x1 x2 (0 : Int32)) else (f_X2_plus_1 i x1 x2 (1 : Int32))
def f_X2_plus_3 (i : Nat) (x1 : Int64) (x2 : Int64) : Int64 := if (f_X1_isInfinite i x2) = 0 then (f_X2_plus_2 i x1 x2) else x2
def f_X2_plus_4 (i : Nat) (x1 : Int64) (x2 : Int64) : Int64 := if x1 = x2 then x1 else (knan i)
def f_X2_plus_5 (i : Nat) (x1 : Int64) (x2 : Int64) : Int64 := if (f_X1_isInfinite i x2) = 0 then x1 else (f_X2_plus_4 i x1 x2)
def f_X2_plus_6 (i : Nat) (x1 : Int64) (x2 : Int64) : Int64 := if (f_X1_isInfinite i x1) = 0 then (f_X2_plus_3 i x1 x2) else (f_X2_plus_5 i x1 x2)
def f_X2_plus_7 (i : Nat) (x1 : Int64) (x2 : Int64) : Int64 := if (f_X1_isNan i x2) = 0 then (f_X2_plus_6 i x1 x2) else (knan i)
def f_X2_plus_8 (i : Nat) (x1 : Int64) (x2 : Int64) : Int64 := if (f_X1_isNan i x1) = 0 then (f_X2_plus_7 i x1 x2) else (knan i)
def f_X2_plus (i : Nat) (x1 : Int64) (x2 : Int64) : Int64 := (f_X2_plus_8 i x1 x2)
def zX2_plus : List Cond := .code yX2_plus cX2_plus 6 (some .long) :: zall
theorem iX2_plus : MWs yX2_plus (.code yX2_plus cX2_plus 6 (some .long)) := ⟨(zin__r10 (.static yX2_plus) (List.mem_of_getElem? (i := 13) rfl)), (zin__r7 (.initialized RX2) (List.mem_of_getElem? (i := 12) rfl)), (zin__r10 (.code yX2_plus cX2_plus 6 (some .long)) (List.mem_of_getElem? (i := 14) rfl))⟩
set_option maxHeartbeats 4000000 in
set_option maxRecDepth 100000 in
theorem c_X2_plus (l : Launch) (ad : Nat → Nat) (i : Nat) (h_i : i < 2) (x1 : Int64) (x2 : Int64) : Met l yX2_plus zX2_plus ({ frames := 4, cells := 0, slots := 0, locals := 107 }) (va_Pc [.ref (ad i), .long x1, .long x2] (fun U => kU ad U)) (vp_Sl (fun r => r = f_X2_plus i x1 x2)) 0 0 (fun _ => False) := by
  refine Met.ofW (cc := cX2_plus) (maxL := 6) (ret := (some .long)) (by decide) rfl ?_
  intro p e s m args below meth c s₁ B hml hv
  obtain ⟨rfl, hk⟩ := hv
  have hx := B.exec
  have hb := B.bytes
  have hr := B.returns
  have hts : ∀ w ∈ zall, w.before _ s = true := fun w h => atoms_spec (ws := zX2_plus) B.pre w (List.mem_cons_of_mem _ h)
  have hown : s.vm.findClass RX2 = some m.cls := findClass_of_methodNamed B.named
  have hlocks := B.notSynchronized
  have hl := lv_entry ([.ref (ad i), .long x1, .long x2]) (n := 6) (Nat.le_of_ble_eq_true rfl)
  rw [lg_entry_eq]
  generalize (lg_sl ([.ref (ad i), .long x1, .long x2]) ++ List.replicate (6 - (lg_sl ([.ref (ad i), .long x1, .long x2])).length) Slot.unset).toArray = ls at hl ⊢
  have hl : lv_has ls 6 [(0, .ref (ad i)), (1, .long x1), (3, .long x2)] := hl
  have hf : f_X2_plus i x1 x2 = (f_X2_plus_8 i x1 x2) := rfl
  refine lv_aload_n hx hb dX2_plus_0 rfl (lv_at hl 0 rfl) ?_
  refine lv_lload_n hx hb dX2_plus_1 rfl (lv_at hl 1 rfl) ?_
  refine vp_callSi (va_Run.run (va_runV (As := [.long x1]) (rest := []) ⟨hx, hb, hml, hown, hts⟩ (c_X1_isNan l ad i h_i x1) (cwV 1 hts (gV iX1_isNan (zin__r7 (.methodLink RX2 11 yX1_isNan) (List.mem_of_getElem? (i := 15) rfl))) rfl rfl rfl (by decide +kernel) ⟨Nat.le_of_ble_eq_true rfl, Nat.le_of_ble_eq_true rfl⟩) ⟨fun a U g mk q => ⟨q.1, kU_bl q.2⟩, (kU_rv hk h_i), fun U hU hW => ⟨rfl, kU_mv hk hU hW⟩⟩ rfl rfl hl.1 rfl (lv_room (Nat.le_of_ble_eq_true rfl)) dX2_plus_2 ⟨Nat.zero_le _, Nat.zero_le _⟩)) (fun r_2 hr_2 => ?_)
  subst hr_2
  refine lv_if_ne (tgt := 16) hx hb dX2_plus_5 (by decide) (fun c_5 => ?_) (fun c_5 => ?_)
  · have hf : f_X2_plus i x1 x2 = (knan i) := hf.trans (if_neg c_5)
    refine lv_aload_n hx hb dX2_plus_16 rfl (lv_at hl 0 rfl) ?_
    refine vk_getf hx hb (kE_nan hk h_i) va_S.rf hown (hts _ (zin__r7 (.fieldLink RX2 21 "ReckonBench$Kind" "nan" "J") (List.mem_of_getElem? (i := 14) rfl))) (fun _ h9 => h9) dX2_plus_17 ?_
    exact W.lret hx hb hr (fun t ht hW => ⟨_, rfl, hf.symm, ht⟩) (fun q hq => absurd hq List.not_mem_nil) dX2_plus_20
  · have hf : f_X2_plus i x1 x2 = (f_X2_plus_7 i x1 x2) := hf.trans (if_pos c_5)
    refine lv_aload_n hx hb dX2_plus_8 rfl (lv_at hl 0 rfl) ?_
    refine lv_lload_n hx hb dX2_plus_9 rfl (lv_at hl 2 rfl) ?_
    refine vp_callSi (va_Run.run (va_runV (As := [.long x2]) (rest := []) ⟨hx, hb, hml, hown, hts⟩ (c_X1_isNan l ad i h_i x2) (cwV 1 hts (gV iX1_isNan (zin__r7 (.methodLink RX2 11 yX1_isNan) (List.mem_of_getElem? (i := 15) rfl))) rfl rfl rfl (by decide +kernel) ⟨Nat.le_of_ble_eq_true rfl, Nat.le_of_ble_eq_true rfl⟩) ⟨fun a U g mk q => ⟨q.1, kU_bl q.2⟩, (kU_rv hk h_i), fun U hU hW => ⟨rfl, kU_mv hk hU hW⟩⟩ rfl rfl hl.1 rfl (lv_room (Nat.le_of_ble_eq_true rfl)) dX2_plus_10 ⟨Nat.zero_le _, Nat.zero_le _⟩)) (fun r_10 hr_10 => ?_)
    subst hr_10
    refine lv_if_eq (tgt := 21) hx hb dX2_plus_13 (by decide) (fun c_13 => ?_) (fun c_13 => ?_)
    · have hf : f_X2_plus i x1 x2 = (f_X2_plus_6 i x1 x2) := hf.trans (if_pos c_13)
      refine lv_aload_n hx hb dX2_plus_21 rfl (lv_at hl 0 rfl) ?_
      refine lv_lload_n hx hb dX2_plus_22 rfl (lv_at hl 1 rfl) ?_
      refine vp_callSi (va_Run.run (va_runV (As := [.long x1]) (rest := []) ⟨hx, hb, hml, hown, hts⟩ (c_X1_isInfinite l ad i h_i x1) (cwV 1 hts (gV iX1_isInfinite (zin__r9 (.methodLink RX2 74 yX1_isInfinite) (List.mem_of_getElem? (i := 2) rfl))) rfl rfl rfl (by decide +kernel) ⟨Nat.le_of_ble_eq_true rfl, Nat.le_of_ble_eq_true rfl⟩) ⟨fun a U g mk q => ⟨q.1, kU_bl q.2⟩, (kU_rv hk h_i), fun U hU hW => ⟨rfl, kU_mv hk hU hW⟩⟩ rfl rfl hl.1 rfl (lv_room (Nat.le_of_ble_eq_true rfl)) dX2_plus_23 ⟨Nat.zero_le _, Nat.zero_le _⟩)) (fun r_23 hr_23 => ?_)
      subst hr_23
      refine lv_if_eq (tgt := 52) hx hb dX2_plus_26 (by decide) (fun c_26 => ?_) (fun c_26 => ?_)
      · have hf : f_X2_plus i x1 x2 = (f_X2_plus_3 i x1 x2) := hf.trans (if_pos c_26)
        refine lv_aload_n hx hb dX2_plus_52 rfl (lv_at hl 0 rfl) ?_
        refine lv_lload_n hx hb dX2_plus_53 rfl (lv_at hl 2 rfl) ?_
        refine vp_callSi (va_Run.run (va_runV (As := [.long x2]) (rest := []) ⟨hx, hb, hml, hown, hts⟩ (c_X1_isInfinite l ad i h_i x2) (cwV 1 hts (gV iX1_isInfinite (zin__r9 (.methodLink RX2 74 yX1_isInfinite) (List.mem_of_getElem? (i := 2) rfl))) rfl rfl rfl (by decide +kernel) ⟨Nat.le_of_ble_eq_true rfl, Nat.le_of_ble_eq_true rfl⟩) ⟨fun a U g mk q => ⟨q.1, kU_bl q.2⟩, (kU_rv hk h_i), fun U hU hW => ⟨rfl, kU_mv hk hU hW⟩⟩ rfl rfl hl.1 rfl (lv_room (Nat.le_of_ble_eq_true rfl)) dX2_plus_54 ⟨Nat.zero_le _, Nat.zero_le _⟩)) (fun r_54 hr_54 => ?_)
        subst hr_54
        refine lv_if_eq (tgt := 62) hx hb dX2_plus_57 (by decide) (fun c_57 => ?_) (fun c_57 => ?_)
        · have hf : f_X2_plus i x1 x2 = (f_X2_plus_2 i x1 x2) := hf.trans (if_pos c_57)
          refine lv_aload_n hx hb dX2_plus_62 rfl (lv_at hl 0 rfl) ?_
          refine lv_lload_n hx hb dX2_plus_63 rfl (lv_at hl 1 rfl) ?_
          refine vp_callSl (va_Run.run (va_runV (As := [.long x1]) (rest := []) ⟨hx, hb, hml, hown, hts⟩ (c_X1_magnitude l ad i h_i x1) (cwV 1 hts (gV iX1_magnitude (zin__r7 (.methodLink RX2 25 yX1_magnitude) (List.mem_of_getElem? (i := 19) rfl))) rfl rfl rfl (by decide +kernel) ⟨Nat.le_of_ble_eq_true rfl, Nat.le_of_ble_eq_true rfl⟩) ⟨fun a U g mk q => ⟨q.1, kU_bl q.2⟩, (kU_rv hk h_i), fun U hU hW => ⟨rfl, kU_mv hk hU hW⟩⟩ rfl rfl hl.1 rfl (lv_room (Nat.le_of_ble_eq_true rfl)) dX2_plus_64 ⟨Nat.zero_le _, Nat.zero_le _⟩)) (fun r_64 hr_64 => ?_)
          subst hr_64
          refine lv_aload_n hx hb dX2_plus_67 rfl (lv_at hl 0 rfl) ?_
          refine lv_lload_n hx hb dX2_plus_68 rfl (lv_at hl 2 rfl) ?_
          refine vp_callSl (va_Run.run (va_runV (As := [.long x2]) (rest := [.long (f_X1_magnitude i x1)]) ⟨hx, hb, hml, hown, hts⟩ (c_X1_magnitude l ad i h_i x2) (cwV 1 hts (gV iX1_magnitude (zin__r7 (.methodLink RX2 25 yX1_magnitude) (List.mem_of_getElem? (i := 19) rfl))) rfl rfl rfl (by decide +kernel) ⟨Nat.le_of_ble_eq_true rfl, Nat.le_of_ble_eq_true rfl⟩) ⟨fun a U g mk q => ⟨q.1, kU_bl q.2⟩, (kU_rv hk h_i), fun U hU hW => ⟨rfl, kU_mv hk hU hW⟩⟩ rfl rfl hl.1 rfl (lv_room (Nat.le_of_ble_eq_true rfl)) dX2_plus_69 ⟨Nat.zero_le _, Nat.zero_le _⟩)) (fun r_69 hr_69 => ?_)
          subst hr_69
          refine W.lcmp hx hb dX2_plus_72 ?_
          refine W_cut (α := Int32) (pcJ := 81) (nL := 6) (fun v => f_X2_plus i x1 x2 = (f_X2_plus_1 i x1 x2 v)) (fun v => [.int v]) (fun v => [(0, .ref (ad i)), (1, .long x1), (3, .long x2)]) (fun w_1 ls hf hl => ?_) (fun K_81 => ?_)
          · have hf : f_X2_plus i x1 x2 = (f_X2_plus_1 i x1 x2 w_1) := hf
            have hl : lv_has ls 6 [(0, .ref (ad i)), (1, .long x1), (3, .long x2)] := hl
            refine lv_istore (lv' := [(5, .int w_1), (0, .ref (ad i)), (1, .long x1), (3, .long x2)]) hx hb dX2_plus_81 hl (by decide) rfl (fun ls hl => ?_)
            refine lv_iload hx hb dX2_plus_83 (lv_at hl 0 rfl) ?_
            refine lv_if_eq (tgt := 97) hx hb dX2_plus_85 (by decide) (fun c_85 => ?_) (fun c_85 => ?_)
            · have hf : f_X2_plus i x1 x2 = (f_X2_plusLesser i x1 x2) := hf.trans (if_pos c_85)
              refine lv_aload_n hx hb dX2_plus_97 rfl (lv_at hl 1 rfl) ?_
              refine lv_lload_n hx hb dX2_plus_98 rfl (lv_at hl 2 rfl) ?_
              refine lv_lload_n hx hb dX2_plus_99 rfl (lv_at hl 3 rfl) ?_
              refine vp_callSl (va_Run.run (va_runS (As := [.ref (ad i), .long x1, .long x2]) (rest := []) ⟨hx, hb, hml, hown, hts⟩ (c_X2_plusLesser l ad i h_i x1 x2) (va_cwS 3 hts (gS iX2_plusLesser (zin__r10 (.methodLink RX2 102 yX2_plusLesser) (List.mem_of_getElem? (i := 15) rfl))) rfl rfl rfl (by decide +kernel) ⟨Nat.le_of_ble_eq_true rfl, Nat.le_of_ble_eq_true rfl⟩) ⟨fun a U g mk q => ⟨q.1, kU_bl q.2⟩, fun U hU hW => ⟨rfl, kU_mv hk hU hW⟩⟩ rfl rfl hl.1 rfl (lv_room (Nat.le_of_ble_eq_true rfl)) dX2_plus_100 ⟨Nat.zero_le _, Nat.zero_le _⟩)) (fun r_100 hr_100 => ?_)
              subst hr_100
              exact W.lret hx hb hr (fun t ht hW => ⟨_, rfl, hf.symm, ht⟩) (fun q hq => absurd hq List.not_mem_nil) dX2_plus_103
            · have hf : f_X2_plus i x1 x2 = (f_X2_plusLesser i x2 x1) := hf.trans (if_neg c_85)
              refine lv_aload_n hx hb dX2_plus_88 rfl (lv_at hl 1 rfl) ?_
              refine lv_lload_n hx hb dX2_plus_89 rfl (lv_at hl 3 rfl) ?_
              refine lv_lload_n hx hb dX2_plus_90 rfl (lv_at hl 2 rfl) ?_
              refine vp_callSl (va_Run.run (va_runS (As := [.ref (ad i), .long x2, .long x1]) (rest := []) ⟨hx, hb, hml, hown, hts⟩ (c_X2_plusLesser l ad i h_i x2 x1) (va_cwS 3 hts (gS iX2_plusLesser (zin__r10 (.methodLink RX2 102 yX2_plusLesser) (List.mem_of_getElem? (i := 15) rfl))) rfl rfl rfl (by decide +kernel) ⟨Nat.le_of_ble_eq_true rfl, Nat.le_of_ble_eq_true rfl⟩) ⟨fun a U g mk q => ⟨q.1, kU_bl q.2⟩, fun U hU hW => ⟨rfl, kU_mv hk hU hW⟩⟩ rfl rfl hl.1 rfl (lv_room (Nat.le_of_ble_eq_true rfl)) dX2_plus_91 ⟨Nat.zero_le _, Nat.zero_le _⟩)) (fun r_91 hr_91 => ?_)
              subst hr_91
              refine lv_goto (tgt := 103) hx hb dX2_plus_94 (by decide) ?_
              exact W.lret hx hb hr (fun t ht hW => ⟨_, rfl, hf.symm, ht⟩) (fun q hq => absurd hq List.not_mem_nil) dX2_plus_103
          refine lv_if_ge (tgt := 80) hx hb dX2_plus_73 (by decide) (fun c_73 => ?_) (fun c_73 => ?_)
          · have c_73 : (f_X1_magnitude i x2) ≤ (f_X1_magnitude i x1) := (lg_cmp_ge (f_X1_magnitude i x1) (f_X1_magnitude i x2)).mp c_73
            have hf : f_X2_plus i x1 x2 = (f_X2_plus_1 i x1 x2 (0 : Int32)) := hf.trans (if_pos c_73)
            refine lv_iconst (v := 0) hx hb dX2_plus_80 (by decide) ?_
            exact K_81 (0 : Int32) ls hf (lv_sub hl [0, 1, 2] rfl)
          · have c_73 : ¬ ((f_X1_magnitude i x2) ≤ (f_X1_magnitude i x1)) := fun h9 => c_73 ((lg_cmp_ge (f_X1_magnitude i x1) (f_X1_magnitude i x2)).mpr h9)
            have hf : f_X2_plus i x1 x2 = (f_X2_plus_1 i x1 x2 (1 : Int32)) := hf.trans (if_neg c_73)
            refine lv_iconst (v := 1) hx hb dX2_plus_76 (by decide) ?_
            refine lv_goto (tgt := 81) hx hb dX2_plus_77 (by decide) ?_
            exact K_81 (1 : Int32) ls hf (lv_sub hl [0, 1, 2] rfl)
        · have hf : f_X2_plus i x1 x2 = x2 := hf.trans (if_neg c_57)
          refine lv_lload_n hx hb dX2_plus_60 rfl (lv_at hl 2 rfl) ?_
          exact W.lret hx hb hr (fun t ht hW => ⟨_, rfl, hf.symm, ht⟩) (fun q hq => absurd hq List.not_mem_nil) dX2_plus_61
      · have hf : f_X2_plus i x1 x2 = (f_X2_plus_5 i x1 x2) := hf.trans (if_neg c_26)
        refine lv_aload_n hx hb dX2_plus_29 rfl (lv_at hl 0 rfl) ?_
        refine lv_lload_n hx hb dX2_plus_30 rfl (lv_at hl 2 rfl) ?_
        refine vp_callSi (va_Run.run (va_runV (As := [.long x2]) (rest := []) ⟨hx, hb, hml, hown, hts⟩ (c_X1_isInfinite l ad i h_i x2) (cwV 1 hts (gV iX1_isInfinite (zin__r9 (.methodLink RX2 74 yX1_isInfinite) (List.mem_of_getElem? (i := 2) rfl))) rfl rfl rfl (by decide +kernel) ⟨Nat.le_of_ble_eq_true rfl, Nat.le_of_ble_eq_true rfl⟩) ⟨fun a U g mk q => ⟨q.1, kU_bl q.2⟩, (kU_rv hk h_i), fun U hU hW => ⟨rfl, kU_mv hk hU hW⟩⟩ rfl rfl hl.1 rfl (lv_room (Nat.le_of_ble_eq_true rfl)) dX2_plus_31 ⟨Nat.zero_le _, Nat.zero_le _⟩)) (fun r_31 hr_31 => ?_)
        subst hr_31
        refine lv_if_eq (tgt := 50) hx hb dX2_plus_34 (by decide) (fun c_34 => ?_) (fun c_34 => ?_)
        · have hf : f_X2_plus i x1 x2 = x1 := hf.trans (if_pos c_34)
          refine lv_lload_n hx hb dX2_plus_50 rfl (lv_at hl 1 rfl) ?_
          exact W.lret hx hb hr (fun t ht hW => ⟨_, rfl, hf.symm, ht⟩) (fun q hq => absurd hq List.not_mem_nil) dX2_plus_51
        · have hf : f_X2_plus i x1 x2 = (f_X2_plus_4 i x1 x2) := hf.trans (if_neg c_34)
          refine lv_lload_n hx hb dX2_plus_37 rfl (lv_at hl 1 rfl) ?_
          refine lv_lload_n hx hb dX2_plus_38 rfl (lv_at hl 2 rfl) ?_
          refine W.lcmp hx hb dX2_plus_39 ?_
          refine lv_if_eq (tgt := 50) hx hb dX2_plus_40 (by decide) (fun c_40 => ?_) (fun c_40 => ?_)
          · have c_40 : x1 = x2 := (lg_cmp_eq x1 x2).mp c_40
            have hf : f_X2_plus i x1 x2 = x1 := hf.trans (if_pos c_40)
            refine lv_lload_n hx hb dX2_plus_50 rfl (lv_at hl 1 rfl) ?_
            exact W.lret hx hb hr (fun t ht hW => ⟨_, rfl, hf.symm, ht⟩) (fun q hq => absurd hq List.not_mem_nil) dX2_plus_51
          · have c_40 : ¬ (x1 = x2) := fun h9 => c_40 ((lg_cmp_eq x1 x2).mpr h9)
            have hf : f_X2_plus i x1 x2 = (knan i) := hf.trans (if_neg c_40)
            refine lv_aload_n hx hb dX2_plus_43 rfl (lv_at hl 0 rfl) ?_
            refine vk_getf hx hb (kE_nan hk h_i) va_S.rf hown (hts _ (zin__r7 (.fieldLink RX2 21 "ReckonBench$Kind" "nan" "J") (List.mem_of_getElem? (i := 14) rfl))) (fun _ h9 => h9) dX2_plus_44 ?_
            refine lv_goto (tgt := 51) hx hb dX2_plus_47 (by decide) ?_
            exact W.lret hx hb hr (fun t ht hW => ⟨_, rfl, hf.symm, ht⟩) (fun q hq => absurd hq List.not_mem_nil) dX2_plus_51
    · have hf : f_X2_plus i x1 x2 = (knan i) := hf.trans (if_neg c_13)
      refine lv_aload_n hx hb dX2_plus_16 rfl (lv_at hl 0 rfl) ?_
      refine vk_getf hx hb (kE_nan hk h_i) va_S.rf hown (hts _ (zin__r7 (.fieldLink RX2 21 "ReckonBench$Kind" "nan" "J") (List.mem_of_getElem? (i := 14) rfl))) (fun _ h9 => h9) dX2_plus_17 ?_
      exact W.lret hx hb hr (fun t ht hW => ⟨_, rfl, hf.symm, ht⟩) (fun q hq => absurd hq List.not_mem_nil) dX2_plus_20
def f_X2_minus (i : Nat) (x1 : Int64) (x2 : Int64) : Int64 := (f_X2_plus i x1 (f_X1_opposite i x2))
def zX2_minus : List Cond := .code yX2_minus cX2_minus 5 (some .long) :: zall
theorem iX2_minus : MWs yX2_minus (.code yX2_minus cX2_minus 5 (some .long)) := ⟨(zin__r10 (.static yX2_minus) (List.mem_of_getElem? (i := 22) rfl)), (zin__r7 (.initialized RX2) (List.mem_of_getElem? (i := 12) rfl)), (zin__r10 (.code yX2_minus cX2_minus 5 (some .long)) (List.mem_of_getElem? (i := 23) rfl))⟩
set_option maxHeartbeats 4000000 in
set_option maxRecDepth 100000 in
theorem c_X2_minus (l : Launch) (ad : Nat → Nat) (i : Nat) (h_i : i < 2) (x1 : Int64) (x2 : Int64) : Met l yX2_minus zX2_minus ({ frames := 5, cells := 0, slots := 0, locals := 132 }) (va_Pc [.ref (ad i), .long x1, .long x2] (fun U => kU ad U)) (vp_Sl (fun r => r = f_X2_minus i x1 x2)) 0 0 (fun _ => False) := by
  refine Met.ofW (cc := cX2_minus) (maxL := 5) (ret := (some .long)) (by decide) rfl ?_
  intro p e s m args below meth c s₁ B hml hv
  obtain ⟨rfl, hk⟩ := hv
  have hx := B.exec
  have hb := B.bytes
  have hr := B.returns
  have hts : ∀ w ∈ zall, w.before _ s = true := fun w h => atoms_spec (ws := zX2_minus) B.pre w (List.mem_cons_of_mem _ h)
  have hown : s.vm.findClass RX2 = some m.cls := findClass_of_methodNamed B.named
  have hlocks := B.notSynchronized
  have hl := lv_entry ([.ref (ad i), .long x1, .long x2]) (n := 5) (Nat.le_of_ble_eq_true rfl)
  rw [lg_entry_eq]
  generalize (lg_sl ([.ref (ad i), .long x1, .long x2]) ++ List.replicate (5 - (lg_sl ([.ref (ad i), .long x1, .long x2])).length) Slot.unset).toArray = ls at hl ⊢
  have hl : lv_has ls 5 [(0, .ref (ad i)), (1, .long x1), (3, .long x2)] := hl
  have hf : f_X2_minus i x1 x2 = (f_X2_plus i x1 (f_X1_opposite i x2)) := rfl
  refine lv_aload_n hx hb dX2_minus_0 rfl (lv_at hl 0 rfl) ?_
  refine lv_lload_n hx hb dX2_minus_1 rfl (lv_at hl 1 rfl) ?_
  refine lv_aload_n hx hb dX2_minus_2 rfl (lv_at hl 0 rfl) ?_
  refine lv_lload_n hx hb dX2_minus_3 rfl (lv_at hl 2 rfl) ?_
  refine vp_callSl (va_Run.run (va_runV (As := [.long x2]) (rest := [.long x1, .ref (ad i)]) ⟨hx, hb, hml, hown, hts⟩ (c_X1_opposite l ad i h_i x2) (cwV 1 hts (gV iX1_opposite (zin__r11 (.methodLink RX2 67 yX1_opposite) (List.mem_of_getElem? (i := 0) rfl))) rfl rfl rfl (by decide +kernel) ⟨Nat.le_of_ble_eq_true rfl, Nat.le_of_ble_eq_true rfl⟩) ⟨fun a U g mk q => ⟨q.1, kU_bl q.2⟩, (kU_rv hk h_i), fun U hU hW => ⟨rfl, kU_mv hk hU hW⟩⟩ rfl rfl hl.1 rfl (lv_room (Nat.le_of_ble_eq_true rfl)) dX2_minus_4 ⟨Nat.zero_le _, Nat.zero_le _⟩)) (fun r_4 hr_4 => ?_)
  subst hr_4
  refine vp_callSl (va_Run.run (va_runS (As := [.ref (ad i), .long x1, .long (f_X1_opposite i x2)]) (rest := []) ⟨hx, hb, hml, hown, hts⟩ (c_X2_plus l ad i h_i x1 (f_X1_opposite i x2)) (va_cwS 3 hts (gS iX2_plus (zin__r10 (.methodLink RX2 51 yX2_plus) (List.mem_of_getElem? (i := 12) rfl))) rfl rfl rfl (by decide +kernel) ⟨Nat.le_of_ble_eq_true rfl, Nat.le_of_ble_eq_true rfl⟩) ⟨fun a U g mk q => ⟨q.1, kU_bl q.2⟩, fun U hU hW => ⟨rfl, kU_mv hk hU hW⟩⟩ rfl rfl hl.1 rfl (lv_room (Nat.le_of_ble_eq_true rfl)) dX2_minus_7 ⟨Nat.zero_le _, Nat.zero_le _⟩)) (fun r_7 hr_7 => ?_)
  subst hr_7
  exact W.lret hx hb hr (fun t ht hW => ⟨_, rfl, hf.symm, ht⟩) (fun q hq => absurd hq List.not_mem_nil) dX2_minus_10
def f_X2_productTop_1 (v18_7 : Int64) (w_8 : Int32) : Int64 := if w_8 = 0 then (v18_7 ||| (1 : Int64)) else v18_7
def f_X2_productTop_2 (v18_7 : Int64) : Int64 := (f_X2_productTop_1 v18_7 (0 : Int32))
def f_X2_productTop_3 (v16_6 : Int64) (v18_7 : Int64) : Int64 := if (v16_6 &&& (131071 : Int64)) = (0 : Int64) then (f_X2_productTop_1 v18_7 (1 : Int32)) else (f_X2_productTop_2 v18_7)
def f_X2_productTop_4 (v14_5 : Int64) (v16_6 : Int64) (v18_7 : Int64) : Int64 := if (v14_5 &&& (134217727 : Int64)) = (0 : Int64) then (f_X2_productTop_3 v16_6 v18_7) else (f_X2_productTop_2 v18_7)
def f_X2_productTop_5 (v6_1 : Int64) (v10_3 : Int64) (v14_5 : Int64) (v16_6 : Int64) : Int64 := (f_X2_productTop_4 v14_5 v16_6 ((jlshl (v6_1 * v10_3) (10 : Int32)) + (jlushr v16_6 (17 : Int32))))
def f_X2_productTop_6 (v6_1 : Int64) (v8_2 : Int64) (v10_3 : Int64) (v12_4 : Int64) (v14_5 : Int64) : Int64 := (f_X2_productTop_5 v6_1 v10_3 v14_5 (((v6_1 * v12_4) + (v8_2 * v10_3)) + (jlushr v14_5 (27 : Int32))))
def f_X2_productTop_7 (v6_1 : Int64) (v8_2 : Int64) (v10_3 : Int64) (v12_4 : Int64) : Int64 := (f_X2_productTop_6 v6_1 v8_2 v10_3 v12_4 (v8_2 * v12_4))
def f_X2_productTop (x0 : Int64) (x1 : Int64) : Int64 := (f_X2_productTop_7 (jlushr x0 (27 : Int32)) (x0 &&& (134217727 : Int64)) (jlushr x1 (27 : Int32)) (x1 &&& (134217727 : Int64)))
def zX2_productTop : List Cond := .code yX2_productTop cX2_productTop 21 (some .long) :: zall
theorem iX2_productTop : MWs yX2_productTop (.code yX2_productTop cX2_productTop 21 (some .long)) := ⟨(zin__r11 (.static yX2_productTop) (List.mem_of_getElem? (i := 10) rfl)), (zin__r7 (.initialized RX2) (List.mem_of_getElem? (i := 12) rfl)), (zin__r11 (.code yX2_productTop cX2_productTop 21 (some .long)) (List.mem_of_getElem? (i := 11) rfl))⟩
set_option maxHeartbeats 4000000 in
set_option maxRecDepth 100000 in
theorem c_X2_productTop (l : Launch) (x0 : Int64) (x1 : Int64) : Met l yX2_productTop zX2_productTop ({ frames := 0, cells := 0, slots := 0, locals := 0 }) (va_Pc [.long x0, .long x1] (fun U => True)) (vp_Sl (fun r => r = f_X2_productTop x0 x1)) 0 0 (fun _ => False) := by
  refine Met.ofW (cc := cX2_productTop) (maxL := 21) (ret := (some .long)) (by decide) rfl ?_
  intro p e s m args below meth c s₁ B hml hv
  obtain ⟨rfl, -⟩ := hv
  have hx := B.exec
  have hb := B.bytes
  have hr := B.returns
  have hts : ∀ w ∈ zall, w.before _ s = true := fun w h => atoms_spec (ws := zX2_productTop) B.pre w (List.mem_cons_of_mem _ h)
  have hown : s.vm.findClass RX2 = some m.cls := findClass_of_methodNamed B.named
  have hlocks := B.notSynchronized
  have hl := lv_entry ([.long x0, .long x1]) (n := 21) (Nat.le_of_ble_eq_true rfl)
  rw [lg_entry_eq]
  generalize (lg_sl ([.long x0, .long x1]) ++ List.replicate (21 - (lg_sl ([.long x0, .long x1])).length) Slot.unset).toArray = ls at hl ⊢
  have hl : lv_has ls 21 [(0, .long x0), (2, .long x1)] := hl
  have hf : f_X2_productTop x0 x1 = (f_X2_productTop_7 (jlushr x0 (27 : Int32)) (x0 &&& (134217727 : Int64)) (jlushr x1 (27 : Int32)) (x1 &&& (134217727 : Int64))) := rfl
  refine lv_ldc2 (v := 134217727) hx hb hown (hts _ (zin__r11 (.constantLong RX2 112 (134217727)) (List.mem_of_getElem? (i := 12) rfl))) dX2_productTop_0 ?_
  refine lv_lstore (lv' := [(4, .long (134217727 : Int64)), (0, .long x0), (2, .long x1)]) hx hb dX2_productTop_3 hl (by decide) rfl (fun ls hl => ?_)
  refine lv_lload_n hx hb dX2_productTop_5 rfl (lv_at hl 1 rfl) ?_
  refine lv_bipush (v := 27) hx hb dX2_productTop_6 (by decide) ?_
  refine lv_lushr (v := (jlushr x0 (27 : Int32))) hx hb dX2_productTop_8 rfl ?_
  refine lv_topl (fun v6_1 e_v6_1 => ?_)
  have hf : f_X2_productTop x0 x1 = (f_X2_productTop_7 v6_1 (x0 &&& (134217727 : Int64)) (jlushr x1 (27 : Int32)) (x1 &&& (134217727 : Int64))) := hf.trans (congrArg (fun z => (f_X2_productTop_7 z (x0 &&& (134217727 : Int64)) (jlushr x1 (27 : Int32)) (x1 &&& (134217727 : Int64)))) e_v6_1.symm)
  refine lv_lstore (lv' := [(6, .long v6_1), (4, .long (134217727 : Int64)), (0, .long x0), (2, .long x1)]) hx hb dX2_productTop_9 hl (by decide) rfl (fun ls hl => ?_)
  refine lv_lload_n hx hb dX2_productTop_11 rfl (lv_at hl 2 rfl) ?_
  refine lv_lload hx hb dX2_productTop_12 (lv_at hl 1 rfl) ?_
  refine lv_land hx hb dX2_productTop_14 ?_
  refine lv_topl (fun v8_2 e_v8_2 => ?_)
  have hf : f_X2_productTop x0 x1 = (f_X2_productTop_7 v6_1 v8_2 (jlushr x1 (27 : Int32)) (x1 &&& (134217727 : Int64))) := hf.trans (congrArg (fun z => (f_X2_productTop_7 v6_1 z (jlushr x1 (27 : Int32)) (x1 &&& (134217727 : Int64)))) e_v8_2.symm)
  refine lv_lstore (lv' := [(8, .long v8_2), (6, .long v6_1), (4, .long (134217727 : Int64)), (0, .long x0), (2, .long x1)]) hx hb dX2_productTop_15 hl (by decide) rfl (fun ls hl => ?_)
  refine lv_lload_n hx hb dX2_productTop_17 rfl (lv_at hl 4 rfl) ?_
  refine lv_bipush (v := 27) hx hb dX2_productTop_18 (by decide) ?_
  refine lv_lushr (v := (jlushr x1 (27 : Int32))) hx hb dX2_productTop_20 rfl ?_
  refine lv_topl (fun v10_3 e_v10_3 => ?_)
  have hf : f_X2_productTop x0 x1 = (f_X2_productTop_7 v6_1 v8_2 v10_3 (x1 &&& (134217727 : Int64))) := hf.trans (congrArg (fun z => (f_X2_productTop_7 v6_1 v8_2 z (x1 &&& (134217727 : Int64)))) e_v10_3.symm)
  refine lv_lstore (lv' := [(10, .long v10_3), (8, .long v8_2), (6, .long v6_1), (4, .long (134217727 : Int64)), (0, .long x0), (2, .long x1)]) hx hb dX2_productTop_21 hl (by decide) rfl (fun ls hl => ?_)
  refine lv_lload_n hx hb dX2_productTop_23 rfl (lv_at hl 5 rfl) ?_
  refine lv_lload hx hb dX2_productTop_24 (lv_at hl 3 rfl) ?_
  refine lv_land hx hb dX2_productTop_26 ?_
  refine lv_topl (fun v12_4 e_v12_4 => ?_)
  have hf : f_X2_productTop x0 x1 = (f_X2_productTop_7 v6_1 v8_2 v10_3 v12_4) := hf.trans (congrArg (fun z => (f_X2_productTop_7 v6_1 v8_2 v10_3 z)) e_v12_4.symm)
  refine lv_lstore (lv' := [(12, .long v12_4), (10, .long v10_3), (8, .long v8_2), (6, .long v6_1), (4, .long (134217727 : Int64)), (0, .long x0), (2, .long x1)]) hx hb dX2_productTop_27 hl (by decide) rfl (fun ls hl => ?_)
  refine lv_lload hx hb dX2_productTop_29 (lv_at hl 2 rfl) ?_
  refine lv_lload hx hb dX2_productTop_31 (lv_at hl 0 rfl) ?_
  refine lv_lmul hx hb dX2_productTop_33 ?_
  refine lv_topl (fun v14_5 e_v14_5 => ?_)
  have hf : f_X2_productTop x0 x1 = (f_X2_productTop_6 v6_1 v8_2 v10_3 v12_4 v14_5) := hf.trans (congrArg (fun z => (f_X2_productTop_6 v6_1 v8_2 v10_3 v12_4 z)) e_v14_5.symm)
  refine lv_lstore (lv' := [(14, .long v14_5), (12, .long v12_4), (10, .long v10_3), (8, .long v8_2), (6, .long v6_1), (4, .long (134217727 : Int64)), (0, .long x0), (2, .long x1)]) hx hb dX2_productTop_34 hl (by decide) rfl (fun ls hl => ?_)
  refine lv_lload hx hb dX2_productTop_36 (lv_at hl 4 rfl) ?_
  refine lv_lload hx hb dX2_productTop_38 (lv_at hl 1 rfl) ?_
  refine lv_lmul hx hb dX2_productTop_40 ?_
  refine lv_lload hx hb dX2_productTop_41 (lv_at hl 3 rfl) ?_
  refine lv_lload hx hb dX2_productTop_43 (lv_at hl 2 rfl) ?_
  refine lv_lmul hx hb dX2_productTop_45 ?_
  refine lv_ladd hx hb dX2_productTop_46 ?_
  refine lv_lload hx hb dX2_productTop_47 (lv_at hl 0 rfl) ?_
  refine lv_bipush (v := 27) hx hb dX2_productTop_49 (by decide) ?_
  refine lv_lushr (v := (jlushr v14_5 (27 : Int32))) hx hb dX2_productTop_51 rfl ?_
  refine lv_ladd hx hb dX2_productTop_52 ?_
  refine lv_topl (fun v16_6 e_v16_6 => ?_)
  have hf : f_X2_productTop x0 x1 = (f_X2_productTop_5 v6_1 v10_3 v14_5 v16_6) := hf.trans (congrArg (fun z => (f_X2_productTop_5 v6_1 v10_3 v14_5 z)) e_v16_6.symm)
  refine lv_lstore (lv' := [(16, .long v16_6), (14, .long v14_5), (12, .long v12_4), (10, .long v10_3), (8, .long v8_2), (6, .long v6_1), (4, .long (134217727 : Int64)), (0, .long x0), (2, .long x1)]) hx hb dX2_productTop_53 hl (by decide) rfl (fun ls hl => ?_)
  refine lv_lload hx hb dX2_productTop_55 (lv_at hl 5 rfl) ?_
  refine lv_lload hx hb dX2_productTop_57 (lv_at hl 3 rfl) ?_
  refine lv_lmul hx hb dX2_productTop_59 ?_
  refine lv_bipush (v := 10) hx hb dX2_productTop_60 (by decide) ?_
  refine lv_lshl (v := (jlshl (v6_1 * v10_3) (10 : Int32))) hx hb dX2_productTop_62 rfl ?_
  refine lv_lload hx hb dX2_productTop_63 (lv_at hl 0 rfl) ?_
  refine lv_bipush (v := 17) hx hb dX2_productTop_65 (by decide) ?_
  refine lv_lushr (v := (jlushr v16_6 (17 : Int32))) hx hb dX2_productTop_67 rfl ?_
  refine lv_ladd hx hb dX2_productTop_68 ?_
  refine lv_topl (fun v18_7 e_v18_7 => ?_)
  have hf : f_X2_productTop x0 x1 = (f_X2_productTop_4 v14_5 v16_6 v18_7) := hf.trans (congrArg (fun z => (f_X2_productTop_4 v14_5 v16_6 z)) e_v18_7.symm)
  refine lv_lstore (lv' := [(18, .long v18_7), (16, .long v16_6), (14, .long v14_5), (12, .long v12_4), (10, .long v10_3), (8, .long v8_2), (6, .long v6_1), (4, .long (134217727 : Int64)), (0, .long x0), (2, .long x1)]) hx hb dX2_productTop_69 hl (by decide) rfl (fun ls hl => ?_)
  refine lv_lload hx hb dX2_productTop_71 (lv_at hl 2 rfl) ?_
  refine lv_lload hx hb dX2_productTop_73 (lv_at hl 7 rfl) ?_
  refine lv_land hx hb dX2_productTop_75 ?_
  refine lv_lconst (v := 0) hx hb dX2_productTop_76 (by decide) ?_
  refine W.lcmp hx hb dX2_productTop_77 ?_
  refine W_cut (α := Int32) (pcJ := 97) (nL := 21) (fun v => f_X2_productTop x0 x1 = (f_X2_productTop_1 v18_7 v)) (fun v => [.int v]) (fun v => [(18, .long v18_7)]) (fun w_8 ls hf hl => ?_) (fun K_97 => ?_)
  · have hf : f_X2_productTop x0 x1 = (f_X2_productTop_1 v18_7 w_8) := hf
    have hl : lv_has ls 21 [(18, .long v18_7)] := hl
    refine lv_istore (lv' := [(20, .int w_8), (18, .long v18_7)]) hx hb dX2_productTop_97 hl (by decide) rfl (fun ls hl => ?_)
    refine lv_iload hx hb dX2_productTop_99 (lv_at hl 0 rfl) ?_
    refine lv_if_eq (tgt := 109) hx hb dX2_productTop_101 (by decide) (fun c_101 => ?_) (fun c_101 => ?_)
    · have hf : f_X2_productTop x0 x1 = (v18_7 ||| (1 : Int64)) := hf.trans (if_pos c_101)
      refine lv_lload hx hb dX2_productTop_109 (lv_at hl 1 rfl) ?_
      refine lv_lconst (v := 1) hx hb dX2_productTop_111 (by decide) ?_
      refine lv_lor hx hb dX2_productTop_112 ?_
      exact W.lret hx hb hr (fun t ht hW => ⟨_, rfl, hf.symm, ht⟩) (fun q hq => absurd hq List.not_mem_nil) dX2_productTop_113
    · have hf : f_X2_productTop x0 x1 = v18_7 := hf.trans (if_neg c_101)
      refine lv_lload hx hb dX2_productTop_104 (lv_at hl 1 rfl) ?_
      refine lv_goto (tgt := 113) hx hb dX2_productTop_106 (by decide) ?_
      exact W.lret hx hb hr (fun t ht hW => ⟨_, rfl, hf.symm, ht⟩) (fun q hq => absurd hq List.not_mem_nil) dX2_productTop_113
  refine W_cut (α := Unit) (pcJ := 96) (nL := 21) (fun v => f_X2_productTop x0 x1 = (f_X2_productTop_2 v18_7)) (fun v => []) (fun v => [(18, .long v18_7)]) (fun v ls hf hl => ?_) (fun K_96 => ?_)
  · have hf : f_X2_productTop x0 x1 = (f_X2_productTop_1 v18_7 (0 : Int32)) := hf
    have hl : lv_has ls 21 [(18, .long v18_7)] := hl
    refine lv_iconst (v := 0) hx hb dX2_productTop_96 (by decide) ?_
    exact K_97 (0 : Int32) ls hf (lv_sub hl [0] rfl)
  refine lv_if_ne (tgt := 96) hx hb dX2_productTop_78 (by decide) (fun c_78 => ?_) (fun c_78 => ?_)
  · have c_78 : ¬ ((v14_5 &&& (134217727 : Int64)) = (0 : Int64)) := fun h9 => c_78 ((lg_cmp_eq (v14_5 &&& (134217727 : Int64)) (0 : Int64)).mpr h9)
    have hf : f_X2_productTop x0 x1 = (f_X2_productTop_2 v18_7) := hf.trans (if_neg c_78)
    exact K_96 () ls hf (lv_sub hl [0] rfl)
  · have c_78 : (v14_5 &&& (134217727 : Int64)) = (0 : Int64) := (lg_cmp_eq (v14_5 &&& (134217727 : Int64)) (0 : Int64)).mp c_78
    have hf : f_X2_productTop x0 x1 = (f_X2_productTop_3 v16_6 v18_7) := hf.trans (if_pos c_78)
    refine lv_lload hx hb dX2_productTop_81 (lv_at hl 1 rfl) ?_
    refine lv_ldc2 (v := 131071) hx hb hown (hts _ (zin__r11 (.constantLong RX2 114 (131071)) (List.mem_of_getElem? (i := 13) rfl))) dX2_productTop_83 ?_
    refine lv_land hx hb dX2_productTop_86 ?_
    refine lv_lconst (v := 0) hx hb dX2_productTop_87 (by decide) ?_
    refine W.lcmp hx hb dX2_productTop_88 ?_
    refine lv_if_ne (tgt := 96) hx hb dX2_productTop_89 (by decide) (fun c_89 => ?_) (fun c_89 => ?_)
    · have c_89 : ¬ ((v16_6 &&& (131071 : Int64)) = (0 : Int64)) := fun h9 => c_89 ((lg_cmp_eq (v16_6 &&& (131071 : Int64)) (0 : Int64)).mpr h9)
      have hf : f_X2_productTop x0 x1 = (f_X2_productTop_2 v18_7) := hf.trans (if_neg c_89)
      exact K_96 () ls hf (lv_sub hl [0] rfl)
    · have c_89 : (v16_6 &&& (131071 : Int64)) = (0 : Int64) := (lg_cmp_eq (v16_6 &&& (131071 : Int64)) (0 : Int64)).mp c_89
      have hf : f_X2_productTop x0 x1 = (f_X2_productTop_1 v18_7 (1 : Int32)) := hf.trans (if_pos c_89)
      refine lv_iconst (v := 1) hx hb dX2_productTop_92 (by decide) ?_
      refine lv_goto (tgt := 97) hx hb dX2_productTop_93 (by decide) ?_
      exact K_97 (1 : Int32) ls hf (lv_sub hl [0] rfl)
def f_X2_times_1 (i : Nat) (w_1 : Int32) (w_2 : Int32) : Int64 := if w_2 = 0 then (f_X1_signed i w_1 (kinf i)) else (knan i)
def f_X2_times_2 (i : Nat) (x1 : Int64) (x2 : Int64) (w_1 : Int32) (v7_3 : Int64) (v9_4 : Int64) (v11_5 : Int32) (v12_6 : Int32) : Int64 := (f_X1_rounded i w_1 (f_X2_productTop (jlshl v7_3 v11_5) (jlshl v9_4 v12_6)) (((((f_X1_exponent i x1) - v11_5) + (f_X1_exponent i x2)) - v12_6) + (44 : Int32)))
def f_X2_times_3 (i : Nat) (x1 : Int64) (x2 : Int64) (w_1 : Int32) (v7_3 : Int64) (v9_4 : Int64) : Int64 := (f_X2_times_2 i x1 x2 w_1 v7_3 v9_4 ((f_J13_numberOfLeadingZeros_95d88 v7_3) - (11 : Int32)) ((f_J13_numberOfLeadingZeros_95d88 v9_4) - (11 : Int32)))
def f_X2_times_4 (i : Nat) (x1 : Int64) (x2 : Int64) (w_1 : Int32) (w_2 : Int32) : Int64 := if w_2 = 0 then (f_X2_times_3 i x1 x2 w_1 (f_X1_significand i x1) (f_X1_significand i x2)) else (f_X1_signed i w_1 (0 : Int64))
def f_X2_times_5 (i : Nat) (x1 : Int64) (x2 : Int64) (w_1 : Int32) (w_2 : Int32) : Int64 := if (f_X1_isInfinite i x2) = 0 then (f_X2_times_4 i x1 x2 w_1 w_2) else (f_X2_times_1 i w_1 w_2)
def f_X2_times_6 (i : Nat) (x1 : Int64) (x2 : Int64) (w_1 : Int32) (w_2 : Int32) : Int64 := if (f_X1_isInfinite i x1) = 0 then (f_X2_times_5 i x1 x2 w_1 w_2) else (f_X2_times_1 i w_1 w_2)
def f_X2_times_7 (i : Nat) (x1 : Int64) (x2 : Int64) (w_1 : Int32) : Int64 := (f_X2_times_6 i x1 x2 w_1 (1 : Int32))
def f_X2_times_8 (i : Nat) (x1 : Int64) (x2 : Int64) (w_1 : Int32) : Int64 := if (f_X1_magnitude i x2) = (0 : Int64) then (f_X2_times_7 i x1 x2 w_1) else (f_X2_times_6 i x1 x2 w_1 (0 : Int32))
def f_X2_times_9 (i : Nat) (x1 : Int64) (x2 : Int64) (w_1 : Int32) : Int64 := if (f_X1_magnitude i x1) = (0 : Int64) then (f_X2_times_7 i x1 x2 w_1) else (f_X2_times_8 i x1 x2 w_1)
def f_X2_times_10 (i : Nat) (x1 : Int64) (x2 : Int64) : Int64 := if (f_X1_isNegative i x1) = (f_X1_isNegative i x2) then (f_X2_times_9 i x1 x2 (0 : Int32)) else (f_X2_times_9 i x1 x2 (1 : Int32))
def f_X2_times (i : Nat) (x1 : Int64) (x2 : Int64) : Int64 := (f_X2_times_10 i x1 x2)
def zX2_times : List Cond := .code yX2_times cX2_times 16 (some .long) :: zall
theorem iX2_times : MWs yX2_times (.code yX2_times cX2_times 16 (some .long)) := ⟨(zin__r11 (.static yX2_times) (List.mem_of_getElem? (i := 5) rfl)), (zin__r7 (.initialized RX2) (List.mem_of_getElem? (i := 12) rfl)), (zin__r11 (.code yX2_times cX2_times 16 (some .long)) (List.mem_of_getElem? (i := 6) rfl))⟩
set_option maxHeartbeats 4000000 in
set_option maxRecDepth 100000 in
theorem c_X2_times (l : Launch) (ad : Nat → Nat) (i : Nat) (h_i : i < 2) (x1 : Int64) (x2 : Int64) : Met l yX2_times zX2_times ({ frames := 3, cells := 0, slots := 0, locals := 72 }) (va_Pc [.ref (ad i), .long x1, .long x2] (fun U => kU ad U)) (vp_Sl (fun r => r = f_X2_times i x1 x2)) 0 0 (fun _ => False) := by
  refine Met.ofW (cc := cX2_times) (maxL := 16) (ret := (some .long)) (by decide) rfl ?_
  intro p e s m args below meth c s₁ B hml hv
  obtain ⟨rfl, hk⟩ := hv
  have hx := B.exec
  have hb := B.bytes
  have hr := B.returns
  have hts : ∀ w ∈ zall, w.before _ s = true := fun w h => atoms_spec (ws := zX2_times) B.pre w (List.mem_cons_of_mem _ h)
  have hown : s.vm.findClass RX2 = some m.cls := findClass_of_methodNamed B.named
  have hlocks := B.notSynchronized
  have hl := lv_entry ([.ref (ad i), .long x1, .long x2]) (n := 16) (Nat.le_of_ble_eq_true rfl)
  rw [lg_entry_eq]
  generalize (lg_sl ([.ref (ad i), .long x1, .long x2]) ++ List.replicate (16 - (lg_sl ([.ref (ad i), .long x1, .long x2])).length) Slot.unset).toArray = ls at hl ⊢
  have hl : lv_has ls 16 [(0, .ref (ad i)), (1, .long x1), (3, .long x2)] := hl
  have hf : f_X2_times i x1 x2 = (f_X2_times_10 i x1 x2) := rfl
  refine lv_aload_n hx hb dX2_times_0 rfl (lv_at hl 0 rfl) ?_
  refine lv_lload_n hx hb dX2_times_1 rfl (lv_at hl 1 rfl) ?_
  refine vp_callSi (va_Run.run (va_runV (As := [.long x1]) (rest := []) ⟨hx, hb, hml, hown, hts⟩ (c_X1_isNegative l ad i h_i x1) (cwV 1 hts (gV iX1_isNegative (zin__r9 (.methodLink RX2 40 yX1_isNegative) (List.mem_of_getElem? (i := 6) rfl))) rfl rfl rfl (by decide +kernel) ⟨Nat.le_of_ble_eq_true rfl, Nat.le_of_ble_eq_true rfl⟩) ⟨fun a U g mk q => ⟨q.1, kU_bl q.2⟩, (kU_rv hk h_i), fun U hU hW => ⟨rfl, kU_mv hk hU hW⟩⟩ rfl rfl hl.1 rfl (lv_room (Nat.le_of_ble_eq_true rfl)) dX2_times_2 ⟨Nat.zero_le _, Nat.zero_le _⟩)) (fun r_2 hr_2 => ?_)
  subst hr_2
  refine lv_aload_n hx hb dX2_times_5 rfl (lv_at hl 0 rfl) ?_
  refine lv_lload_n hx hb dX2_times_6 rfl (lv_at hl 2 rfl) ?_
  refine vp_callSi (va_Run.run (va_runV (As := [.long x2]) (rest := [.int (f_X1_isNegative i x1)]) ⟨hx, hb, hml, hown, hts⟩ (c_X1_isNegative l ad i h_i x2) (cwV 1 hts (gV iX1_isNegative (zin__r9 (.methodLink RX2 40 yX1_isNegative) (List.mem_of_getElem? (i := 6) rfl))) rfl rfl rfl (by decide +kernel) ⟨Nat.le_of_ble_eq_true rfl, Nat.le_of_ble_eq_true rfl⟩) ⟨fun a U g mk q => ⟨q.1, kU_bl q.2⟩, (kU_rv hk h_i), fun U hU hW => ⟨rfl, kU_mv hk hU hW⟩⟩ rfl rfl hl.1 rfl (lv_room (Nat.le_of_ble_eq_true rfl)) dX2_times_7 ⟨Nat.zero_le _, Nat.zero_le _⟩)) (fun r_7 hr_7 => ?_)
  subst hr_7
  refine W_cut (α := Int32) (pcJ := 18) (nL := 16) (fun v => f_X2_times i x1 x2 = (f_X2_times_9 i x1 x2 v)) (fun v => [.int v]) (fun v => [(0, .ref (ad i)), (1, .long x1), (3, .long x2)]) (fun w_1 ls hf hl => ?_) (fun K_18 => ?_)
  · have hf : f_X2_times i x1 x2 = (f_X2_times_9 i x1 x2 w_1) := hf
    have hl : lv_has ls 16 [(0, .ref (ad i)), (1, .long x1), (3, .long x2)] := hl
    refine lv_istore (lv' := [(5, .int w_1), (0, .ref (ad i)), (1, .long x1), (3, .long x2)]) hx hb dX2_times_18 hl (by decide) rfl (fun ls hl => ?_)
    refine lv_aload_n hx hb dX2_times_20 rfl (lv_at hl 1 rfl) ?_
    refine lv_lload_n hx hb dX2_times_21 rfl (lv_at hl 2 rfl) ?_
    refine vp_callSl (va_Run.run (va_runV (As := [.long x1]) (rest := []) ⟨hx, hb, hml, hown, hts⟩ (c_X1_magnitude l ad i h_i x1) (cwV 1 hts (gV iX1_magnitude (zin__r7 (.methodLink RX2 25 yX1_magnitude) (List.mem_of_getElem? (i := 19) rfl))) rfl rfl rfl (by decide +kernel) ⟨Nat.le_of_ble_eq_true rfl, Nat.le_of_ble_eq_true rfl⟩) ⟨fun a U g mk q => ⟨q.1, kU_bl q.2⟩, (kU_rv hk h_i), fun U hU hW => ⟨rfl, kU_mv hk hU hW⟩⟩ rfl rfl hl.1 rfl (lv_room (Nat.le_of_ble_eq_true rfl)) dX2_times_22 ⟨Nat.zero_le _, Nat.zero_le _⟩)) (fun r_22 hr_22 => ?_)
    subst hr_22
    refine lv_lconst (v := 0) hx hb dX2_times_25 (by decide) ?_
    refine W.lcmp hx hb dX2_times_26 ?_
    refine W_cut (α := Int32) (pcJ := 45) (nL := 16) (fun v => f_X2_times i x1 x2 = (f_X2_times_6 i x1 x2 w_1 v)) (fun v => [.int v]) (fun v => [(0, .ref (ad i)), (1, .long x1), (3, .long x2), (5, .int w_1)]) (fun w_2 ls hf hl => ?_) (fun K_45 => ?_)
    · have hf : f_X2_times i x1 x2 = (f_X2_times_6 i x1 x2 w_1 w_2) := hf
      have hl : lv_has ls 16 [(0, .ref (ad i)), (1, .long x1), (3, .long x2), (5, .int w_1)] := hl
      refine lv_istore (lv' := [(6, .int w_2), (0, .ref (ad i)), (1, .long x1), (3, .long x2), (5, .int w_1)]) hx hb dX2_times_45 hl (by decide) rfl (fun ls hl => ?_)
      refine lv_aload_n hx hb dX2_times_47 rfl (lv_at hl 1 rfl) ?_
      refine lv_lload_n hx hb dX2_times_48 rfl (lv_at hl 2 rfl) ?_
      refine vp_callSi (va_Run.run (va_runV (As := [.long x1]) (rest := []) ⟨hx, hb, hml, hown, hts⟩ (c_X1_isInfinite l ad i h_i x1) (cwV 1 hts (gV iX1_isInfinite (zin__r9 (.methodLink RX2 74 yX1_isInfinite) (List.mem_of_getElem? (i := 2) rfl))) rfl rfl rfl (by decide +kernel) ⟨Nat.le_of_ble_eq_true rfl, Nat.le_of_ble_eq_true rfl⟩) ⟨fun a U g mk q => ⟨q.1, kU_bl q.2⟩, (kU_rv hk h_i), fun U hU hW => ⟨rfl, kU_mv hk hU hW⟩⟩ rfl rfl hl.1 rfl (lv_room (Nat.le_of_ble_eq_true rfl)) dX2_times_49 ⟨Nat.zero_le _, Nat.zero_le _⟩)) (fun r_49 hr_49 => ?_)
      subst hr_49
      refine W_cut (α := Unit) (pcJ := 63) (nL := 16) (fun v => f_X2_times i x1 x2 = (f_X2_times_1 i w_1 w_2)) (fun v => []) (fun v => [(0, .ref (ad i)), (5, .int w_1), (6, .int w_2)]) (fun v ls hf hl => ?_) (fun K_63 => ?_)
      · have hf : f_X2_times i x1 x2 = (f_X2_times_1 i w_1 w_2) := hf
        have hl : lv_has ls 16 [(0, .ref (ad i)), (5, .int w_1), (6, .int w_2)] := hl
        refine lv_iload hx hb dX2_times_63 (lv_at hl 2 rfl) ?_
        refine lv_if_eq (tgt := 75) hx hb dX2_times_65 (by decide) (fun c_65 => ?_) (fun c_65 => ?_)
        · have hf : f_X2_times i x1 x2 = (f_X1_signed i w_1 (kinf i)) := hf.trans (if_pos c_65)
          refine lv_aload_n hx hb dX2_times_75 rfl (lv_at hl 0 rfl) ?_
          refine lv_iload hx hb dX2_times_76 (lv_at hl 1 rfl) ?_
          refine lv_aload_n hx hb dX2_times_78 rfl (lv_at hl 0 rfl) ?_
          refine vk_getf hx hb (kE_infinite hk h_i) va_S.rf hown (hts _ (zin__r11 (.fieldLink RX2 77 "ReckonBench$Kind" "infinite" "J") (List.mem_of_getElem? (i := 7) rfl))) (fun _ h9 => h9) dX2_times_79 ?_
          refine vp_callSl (va_Run.run (va_runV (As := [.int w_1, .long (kinf i)]) (rest := []) ⟨hx, hb, hml, hown, hts⟩ (c_X1_signed l ad i h_i w_1 (kinf i)) (cwV 2 hts (gV iX1_signed (zin__r10 (.methodLink RX2 47 yX1_signed) (List.mem_of_getElem? (i := 11) rfl))) rfl rfl rfl (by decide +kernel) ⟨Nat.le_of_ble_eq_true rfl, Nat.le_of_ble_eq_true rfl⟩) ⟨fun a U g mk q => ⟨q.1, kU_bl q.2⟩, (kU_rv hk h_i), fun U hU hW => ⟨rfl, kU_mv hk hU hW⟩⟩ rfl rfl hl.1 rfl (lv_room (Nat.le_of_ble_eq_true rfl)) dX2_times_82 ⟨Nat.zero_le _, Nat.zero_le _⟩)) (fun r_82 hr_82 => ?_)
          subst hr_82
          exact W.lret hx hb hr (fun t ht hW => ⟨_, rfl, hf.symm, ht⟩) (fun q hq => absurd hq List.not_mem_nil) dX2_times_85
        · have hf : f_X2_times i x1 x2 = (knan i) := hf.trans (if_neg c_65)
          refine lv_aload_n hx hb dX2_times_68 rfl (lv_at hl 0 rfl) ?_
          refine vk_getf hx hb (kE_nan hk h_i) va_S.rf hown (hts _ (zin__r7 (.fieldLink RX2 21 "ReckonBench$Kind" "nan" "J") (List.mem_of_getElem? (i := 14) rfl))) (fun _ h9 => h9) dX2_times_69 ?_
          refine lv_goto (tgt := 85) hx hb dX2_times_72 (by decide) ?_
          exact W.lret hx hb hr (fun t ht hW => ⟨_, rfl, hf.symm, ht⟩) (fun q hq => absurd hq List.not_mem_nil) dX2_times_85
      refine lv_if_ne (tgt := 63) hx hb dX2_times_52 (by decide) (fun c_52 => ?_) (fun c_52 => ?_)
      · have hf : f_X2_times i x1 x2 = (f_X2_times_1 i w_1 w_2) := hf.trans (if_neg c_52)
        exact K_63 () ls hf (lv_sub hl [1, 4, 0] rfl)
      · have hf : f_X2_times i x1 x2 = (f_X2_times_5 i x1 x2 w_1 w_2) := hf.trans (if_pos c_52)
        refine lv_aload_n hx hb dX2_times_55 rfl (lv_at hl 1 rfl) ?_
        refine lv_lload_n hx hb dX2_times_56 rfl (lv_at hl 3 rfl) ?_
        refine vp_callSi (va_Run.run (va_runV (As := [.long x2]) (rest := []) ⟨hx, hb, hml, hown, hts⟩ (c_X1_isInfinite l ad i h_i x2) (cwV 1 hts (gV iX1_isInfinite (zin__r9 (.methodLink RX2 74 yX1_isInfinite) (List.mem_of_getElem? (i := 2) rfl))) rfl rfl rfl (by decide +kernel) ⟨Nat.le_of_ble_eq_true rfl, Nat.le_of_ble_eq_true rfl⟩) ⟨fun a U g mk q => ⟨q.1, kU_bl q.2⟩, (kU_rv hk h_i), fun U hU hW => ⟨rfl, kU_mv hk hU hW⟩⟩ rfl rfl hl.1 rfl (lv_room (Nat.le_of_ble_eq_true rfl)) dX2_times_57 ⟨Nat.zero_le _, Nat.zero_le _⟩)) (fun r_57 hr_57 => ?_)
        subst hr_57
        refine lv_if_eq (tgt := 86) hx hb dX2_times_60 (by decide) (fun c_60 => ?_) (fun c_60 => ?_)
        · have hf : f_X2_times i x1 x2 = (f_X2_times_4 i x1 x2 w_1 w_2) := hf.trans (if_pos c_60)
          refine lv_iload hx hb dX2_times_86 (lv_at hl 0 rfl) ?_
          refine lv_if_eq (tgt := 99) hx hb dX2_times_88 (by decide) (fun c_88 => ?_) (fun c_88 => ?_)
          · have hf : f_X2_times i x1 x2 = (f_X2_times_3 i x1 x2 w_1 (f_X1_significand i x1) (f_X1_significand i x2)) := hf.trans (if_pos c_88)
            refine lv_aload_n hx hb dX2_times_99 rfl (lv_at hl 1 rfl) ?_
            refine lv_lload_n hx hb dX2_times_100 rfl (lv_at hl 2 rfl) ?_
            refine vp_callSl (va_Run.run (va_runV (As := [.long x1]) (rest := []) ⟨hx, hb, hml, hown, hts⟩ (c_X1_significand l ad i h_i x1) (cwV 1 hts (gV iX1_significand (zin__r9 (.methodLink RX2 80 yX1_significand) (List.mem_of_getElem? (i := 7) rfl))) rfl rfl rfl (by decide +kernel) ⟨Nat.le_of_ble_eq_true rfl, Nat.le_of_ble_eq_true rfl⟩) ⟨fun a U g mk q => ⟨q.1, kU_bl q.2⟩, (kU_rv hk h_i), fun U hU hW => ⟨rfl, kU_mv hk hU hW⟩⟩ rfl rfl hl.1 rfl (lv_room (Nat.le_of_ble_eq_true rfl)) dX2_times_101 ⟨Nat.zero_le _, Nat.zero_le _⟩)) (fun r_101 hr_101 => ?_)
            subst hr_101
            refine lv_topl (fun v7_3 e_v7_3 => ?_)
            have hf : f_X2_times i x1 x2 = (f_X2_times_3 i x1 x2 w_1 v7_3 (f_X1_significand i x2)) := hf.trans (congrArg (fun z => (f_X2_times_3 i x1 x2 w_1 z (f_X1_significand i x2))) e_v7_3.symm)
            refine lv_lstore (lv' := [(7, .long v7_3), (6, .int w_2), (0, .ref (ad i)), (1, .long x1), (3, .long x2), (5, .int w_1)]) hx hb dX2_times_104 hl (by decide) rfl (fun ls hl => ?_)
            refine lv_aload_n hx hb dX2_times_106 rfl (lv_at hl 2 rfl) ?_
            refine lv_lload_n hx hb dX2_times_107 rfl (lv_at hl 4 rfl) ?_
            refine vp_callSl (va_Run.run (va_runV (As := [.long x2]) (rest := []) ⟨hx, hb, hml, hown, hts⟩ (c_X1_significand l ad i h_i x2) (cwV 1 hts (gV iX1_significand (zin__r9 (.methodLink RX2 80 yX1_significand) (List.mem_of_getElem? (i := 7) rfl))) rfl rfl rfl (by decide +kernel) ⟨Nat.le_of_ble_eq_true rfl, Nat.le_of_ble_eq_true rfl⟩) ⟨fun a U g mk q => ⟨q.1, kU_bl q.2⟩, (kU_rv hk h_i), fun U hU hW => ⟨rfl, kU_mv hk hU hW⟩⟩ rfl rfl hl.1 rfl (lv_room (Nat.le_of_ble_eq_true rfl)) dX2_times_108 ⟨Nat.zero_le _, Nat.zero_le _⟩)) (fun r_108 hr_108 => ?_)
            subst hr_108
            refine lv_topl (fun v9_4 e_v9_4 => ?_)
            have hf : f_X2_times i x1 x2 = (f_X2_times_3 i x1 x2 w_1 v7_3 v9_4) := hf.trans (congrArg (fun z => (f_X2_times_3 i x1 x2 w_1 v7_3 z)) e_v9_4.symm)
            refine lv_lstore (lv' := [(9, .long v9_4), (7, .long v7_3), (6, .int w_2), (0, .ref (ad i)), (1, .long x1), (3, .long x2), (5, .int w_1)]) hx hb dX2_times_111 hl (by decide) rfl (fun ls hl => ?_)
            refine lv_lload hx hb dX2_times_113 (lv_at hl 1 rfl) ?_
            refine vp_callSi (va_Run.run (va_runS (As := [.long v7_3]) (rest := []) ⟨hx, hb, hml, hown, hts⟩ (c_J13_numberOfLeadingZeros_95d88 l  v7_3) (va_cwS 1 hts (gS iJ13_numberOfLeadingZeros_95d88 (zin__r11 (.methodLink RX2 93 yJ13_numberOfLeadingZeros_95d88) (List.mem_of_getElem? (i := 8) rfl))) rfl rfl rfl (by decide +kernel) ⟨Nat.le_of_ble_eq_true rfl, Nat.le_of_ble_eq_true rfl⟩) ⟨fun a U g mk q => ⟨q.1, trivial⟩, fun U hU hW => ⟨rfl, trivial⟩⟩ rfl rfl hl.1 rfl (lv_room (Nat.le_of_ble_eq_true rfl)) dX2_times_115 ⟨Nat.zero_le _, Nat.zero_le _⟩)) (fun r_115 hr_115 => ?_)
            subst hr_115
            refine lv_bipush (v := 11) hx hb dX2_times_118 (by decide) ?_
            refine lv_isub hx hb dX2_times_120 ?_
            refine lv_topi (fun v11_5 e_v11_5 => ?_)
            have hf : f_X2_times i x1 x2 = (f_X2_times_2 i x1 x2 w_1 v7_3 v9_4 v11_5 ((f_J13_numberOfLeadingZeros_95d88 v9_4) - (11 : Int32))) := hf.trans (congrArg (fun z => (f_X2_times_2 i x1 x2 w_1 v7_3 v9_4 z ((f_J13_numberOfLeadingZeros_95d88 v9_4) - (11 : Int32)))) e_v11_5.symm)
            refine lv_istore (lv' := [(11, .int v11_5), (9, .long v9_4), (7, .long v7_3), (6, .int w_2), (0, .ref (ad i)), (1, .long x1), (3, .long x2), (5, .int w_1)]) hx hb dX2_times_121 hl (by decide) rfl (fun ls hl => ?_)
            refine lv_lload hx hb dX2_times_123 (lv_at hl 1 rfl) ?_
            refine vp_callSi (va_Run.run (va_runS (As := [.long v9_4]) (rest := []) ⟨hx, hb, hml, hown, hts⟩ (c_J13_numberOfLeadingZeros_95d88 l  v9_4) (va_cwS 1 hts (gS iJ13_numberOfLeadingZeros_95d88 (zin__r11 (.methodLink RX2 93 yJ13_numberOfLeadingZeros_95d88) (List.mem_of_getElem? (i := 8) rfl))) rfl rfl rfl (by decide +kernel) ⟨Nat.le_of_ble_eq_true rfl, Nat.le_of_ble_eq_true rfl⟩) ⟨fun a U g mk q => ⟨q.1, trivial⟩, fun U hU hW => ⟨rfl, trivial⟩⟩ rfl rfl hl.1 rfl (lv_room (Nat.le_of_ble_eq_true rfl)) dX2_times_125 ⟨Nat.zero_le _, Nat.zero_le _⟩)) (fun r_125 hr_125 => ?_)
            subst hr_125
            refine lv_bipush (v := 11) hx hb dX2_times_128 (by decide) ?_
            refine lv_isub hx hb dX2_times_130 ?_
            refine lv_topi (fun v12_6 e_v12_6 => ?_)
            have hf : f_X2_times i x1 x2 = (f_X2_times_2 i x1 x2 w_1 v7_3 v9_4 v11_5 v12_6) := hf.trans (congrArg (fun z => (f_X2_times_2 i x1 x2 w_1 v7_3 v9_4 v11_5 z)) e_v12_6.symm)
            refine lv_istore (lv' := [(12, .int v12_6), (11, .int v11_5), (9, .long v9_4), (7, .long v7_3), (6, .int w_2), (0, .ref (ad i)), (1, .long x1), (3, .long x2), (5, .int w_1)]) hx hb dX2_times_131 hl (by decide) rfl (fun ls hl => ?_)
            refine lv_aload_n hx hb dX2_times_133 rfl (lv_at hl 5 rfl) ?_
            refine lv_lload_n hx hb dX2_times_134 rfl (lv_at hl 6 rfl) ?_
            refine vp_callSi (va_Run.run (va_runV (As := [.long x1]) (rest := []) ⟨hx, hb, hml, hown, hts⟩ (c_X1_exponent l ad i h_i x1) (cwV 1 hts (gV iX1_exponent (zin__r8 (.methodLink RX2 83 yX1_exponent) (List.mem_of_getElem? (i := 12) rfl))) rfl rfl rfl (by decide +kernel) ⟨Nat.le_of_ble_eq_true rfl, Nat.le_of_ble_eq_true rfl⟩) ⟨fun a U g mk q => ⟨q.1, kU_bl q.2⟩, (kU_rv hk h_i), fun U hU hW => ⟨rfl, kU_mv hk hU hW⟩⟩ rfl rfl hl.1 rfl (lv_room (Nat.le_of_ble_eq_true rfl)) dX2_times_135 ⟨Nat.zero_le _, Nat.zero_le _⟩)) (fun r_135 hr_135 => ?_)
            subst hr_135
            refine lv_iload hx hb dX2_times_138 (lv_at hl 1 rfl) ?_
            refine lv_isub hx hb dX2_times_140 ?_
            refine lv_aload_n hx hb dX2_times_141 rfl (lv_at hl 5 rfl) ?_
            refine lv_lload_n hx hb dX2_times_142 rfl (lv_at hl 7 rfl) ?_
            refine vp_callSi (va_Run.run (va_runV (As := [.long x2]) (rest := [.int ((f_X1_exponent i x1) - v11_5)]) ⟨hx, hb, hml, hown, hts⟩ (c_X1_exponent l ad i h_i x2) (cwV 1 hts (gV iX1_exponent (zin__r8 (.methodLink RX2 83 yX1_exponent) (List.mem_of_getElem? (i := 12) rfl))) rfl rfl rfl (by decide +kernel) ⟨Nat.le_of_ble_eq_true rfl, Nat.le_of_ble_eq_true rfl⟩) ⟨fun a U g mk q => ⟨q.1, kU_bl q.2⟩, (kU_rv hk h_i), fun U hU hW => ⟨rfl, kU_mv hk hU hW⟩⟩ rfl rfl hl.1 rfl (lv_room (Nat.le_of_ble_eq_true rfl)) dX2_times_143 ⟨Nat.zero_le _, Nat.zero_le _⟩)) (fun r_143 hr_143 => ?_)
            subst hr_143
            refine lv_iadd hx hb dX2_times_146 ?_
            refine lv_iload hx hb dX2_times_147 (lv_at hl 0 rfl) ?_
            refine lv_isub hx hb dX2_times_149 ?_
            refine lv_topi (fun v13_7 e_v13_7 => ?_)
            have hf : f_X2_times i x1 x2 = (f_X1_rounded i w_1 (f_X2_productTop (jlshl v7_3 v11_5) (jlshl v9_4 v12_6)) (v13_7 + (44 : Int32))) := hf.trans (congrArg (fun z => (f_X1_rounded i w_1 (f_X2_productTop (jlshl v7_3 v11_5) (jlshl v9_4 v12_6)) (z + (44 : Int32)))) e_v13_7.symm)
            refine lv_istore (lv' := [(13, .int v13_7), (12, .int v12_6), (11, .int v11_5), (9, .long v9_4), (7, .long v7_3), (6, .int w_2), (0, .ref (ad i)), (1, .long x1), (3, .long x2), (5, .int w_1)]) hx hb dX2_times_150 hl (by decide) rfl (fun ls hl => ?_)
            refine lv_lload hx hb dX2_times_152 (lv_at hl 4 rfl) ?_
            refine lv_iload hx hb dX2_times_154 (lv_at hl 2 rfl) ?_
            refine lv_lshl (v := (jlshl v7_3 v11_5)) hx hb dX2_times_156 rfl ?_
            refine lv_lload hx hb dX2_times_157 (lv_at hl 3 rfl) ?_
            refine lv_iload hx hb dX2_times_159 (lv_at hl 1 rfl) ?_
            refine lv_lshl (v := (jlshl v9_4 v12_6)) hx hb dX2_times_161 rfl ?_
            refine vp_callSl (va_Run.run (va_runS (As := [.long (jlshl v7_3 v11_5), .long (jlshl v9_4 v12_6)]) (rest := []) ⟨hx, hb, hml, hown, hts⟩ (c_X2_productTop l  (jlshl v7_3 v11_5) (jlshl v9_4 v12_6)) (va_cwS 2 hts (gS iX2_productTop (zin__r11 (.methodLink RX2 109 yX2_productTop) (List.mem_of_getElem? (i := 9) rfl))) rfl rfl rfl (by decide +kernel) ⟨Nat.le_of_ble_eq_true rfl, Nat.le_of_ble_eq_true rfl⟩) ⟨fun a U g mk q => ⟨q.1, trivial⟩, fun U hU hW => ⟨rfl, trivial⟩⟩ rfl rfl hl.1 rfl (lv_room (Nat.le_of_ble_eq_true rfl)) dX2_times_162 ⟨Nat.zero_le _, Nat.zero_le _⟩)) (fun r_162 hr_162 => ?_)
            subst hr_162
            refine lv_topl (fun v14_8 e_v14_8 => ?_)
            have hf : f_X2_times i x1 x2 = (f_X1_rounded i w_1 v14_8 (v13_7 + (44 : Int32))) := hf.trans (congrArg (fun z => (f_X1_rounded i w_1 z (v13_7 + (44 : Int32)))) e_v14_8.symm)
            refine lv_lstore (lv' := [(14, .long v14_8), (13, .int v13_7), (12, .int v12_6), (11, .int v11_5), (9, .long v9_4), (7, .long v7_3), (6, .int w_2), (0, .ref (ad i)), (1, .long x1), (3, .long x2), (5, .int w_1)]) hx hb dX2_times_165 hl (by decide) rfl (fun ls hl => ?_)
            refine lv_aload_n hx hb dX2_times_167 rfl (lv_at hl 7 rfl) ?_
            refine lv_iload hx hb dX2_times_168 (lv_at hl 10 rfl) ?_
            refine lv_lload hx hb dX2_times_170 (lv_at hl 0 rfl) ?_
            refine lv_iload hx hb dX2_times_172 (lv_at hl 1 rfl) ?_
            refine lv_bipush (v := 44) hx hb dX2_times_174 (by decide) ?_
            refine lv_iadd hx hb dX2_times_176 ?_
            refine vp_callSl (va_Run.run (va_runV (As := [.int w_1, .long v14_8, .int (v13_7 + (44 : Int32))]) (rest := []) ⟨hx, hb, hml, hown, hts⟩ (c_X1_rounded l ad i h_i w_1 v14_8 (v13_7 + (44 : Int32))) (cwV 3 hts (gV iX1_rounded (zin__r9 (.methodLink RX2 70 yX1_rounded) (List.mem_of_getElem? (i := 11) rfl))) rfl rfl rfl (by decide +kernel) ⟨Nat.le_of_ble_eq_true rfl, Nat.le_of_ble_eq_true rfl⟩) ⟨fun a U g mk q => ⟨q.1, kU_bl q.2⟩, (kU_rv hk h_i), fun U hU hW => ⟨rfl, kU_mv hk hU hW⟩⟩ rfl rfl hl.1 rfl (lv_room (Nat.le_of_ble_eq_true rfl)) dX2_times_177 ⟨Nat.zero_le _, Nat.zero_le _⟩)) (fun r_177 hr_177 => ?_)
            subst hr_177
            exact W.lret hx hb hr (fun t ht hW => ⟨_, rfl, hf.symm, ht⟩) (fun q hq => absurd hq List.not_mem_nil) dX2_times_180
          · have hf : f_X2_times i x1 x2 = (f_X1_signed i w_1 (0 : Int64)) := hf.trans (if_neg c_88)
            refine lv_aload_n hx hb dX2_times_91 rfl (lv_at hl 1 rfl) ?_
            refine lv_iload hx hb dX2_times_92 (lv_at hl 4 rfl) ?_
            refine lv_lconst (v := 0) hx hb dX2_times_94 (by decide) ?_
            refine vp_callSl (va_Run.run (va_runV (As := [.int w_1, .long (0 : Int64)]) (rest := []) ⟨hx, hb, hml, hown, hts⟩ (c_X1_signed l ad i h_i w_1 (0 : Int64)) (cwV 2 hts (gV iX1_signed (zin__r10 (.methodLink RX2 47 yX1_signed) (List.mem_of_getElem? (i := 11) rfl))) rfl rfl rfl (by decide +kernel) ⟨Nat.le_of_ble_eq_true rfl, Nat.le_of_ble_eq_true rfl⟩) ⟨fun a U g mk q => ⟨q.1, kU_bl q.2⟩, (kU_rv hk h_i), fun U hU hW => ⟨rfl, kU_mv hk hU hW⟩⟩ rfl rfl hl.1 rfl (lv_room (Nat.le_of_ble_eq_true rfl)) dX2_times_95 ⟨Nat.zero_le _, Nat.zero_le _⟩)) (fun r_95 hr_95 => ?_)
            subst hr_95
            exact W.lret hx hb hr (fun t ht hW => ⟨_, rfl, hf.symm, ht⟩) (fun q hq => absurd hq List.not_mem_nil) dX2_times_98
        · have hf : f_X2_times i x1 x2 = (f_X2_times_1 i w_1 w_2) := hf.trans (if_neg c_60)
          exact K_63 () ls hf (lv_sub hl [1, 4, 0] rfl)
    refine W_cut (α := Unit) (pcJ := 40) (nL := 16) (fun v => f_X2_times i x1 x2 = (f_X2_times_7 i x1 x2 w_1)) (fun v => []) (fun v => [(0, .ref (ad i)), (1, .long x1), (3, .long x2), (5, .int w_1)]) (fun v ls hf hl => ?_) (fun K_40 => ?_)
    · have hf : f_X2_times i x1 x2 = (f_X2_times_6 i x1 x2 w_1 (1 : Int32)) := hf
      have hl : lv_has ls 16 [(0, .ref (ad i)), (1, .long x1), (3, .long x2), (5, .int w_1)] := hl
      refine lv_iconst (v := 1) hx hb dX2_times_40 (by decide) ?_
      refine lv_goto (tgt := 45) hx hb dX2_times_41 (by decide) ?_
      exact K_45 (1 : Int32) ls hf (lv_sub hl [0, 1, 2, 3] rfl)
    refine lv_if_eq (tgt := 40) hx hb dX2_times_27 (by decide) (fun c_27 => ?_) (fun c_27 => ?_)
    · have c_27 : (f_X1_magnitude i x1) = (0 : Int64) := (lg_cmp_eq (f_X1_magnitude i x1) (0 : Int64)).mp c_27
      have hf : f_X2_times i x1 x2 = (f_X2_times_7 i x1 x2 w_1) := hf.trans (if_pos c_27)
      exact K_40 () ls hf (lv_sub hl [1, 2, 3, 0] rfl)
    · have c_27 : ¬ ((f_X1_magnitude i x1) = (0 : Int64)) := fun h9 => c_27 ((lg_cmp_eq (f_X1_magnitude i x1) (0 : Int64)).mpr h9)
      have hf : f_X2_times i x1 x2 = (f_X2_times_8 i x1 x2 w_1) := hf.trans (if_neg c_27)
      refine lv_aload_n hx hb dX2_times_30 rfl (lv_at hl 1 rfl) ?_
      refine lv_lload_n hx hb dX2_times_31 rfl (lv_at hl 3 rfl) ?_
      refine vp_callSl (va_Run.run (va_runV (As := [.long x2]) (rest := []) ⟨hx, hb, hml, hown, hts⟩ (c_X1_magnitude l ad i h_i x2) (cwV 1 hts (gV iX1_magnitude (zin__r7 (.methodLink RX2 25 yX1_magnitude) (List.mem_of_getElem? (i := 19) rfl))) rfl rfl rfl (by decide +kernel) ⟨Nat.le_of_ble_eq_true rfl, Nat.le_of_ble_eq_true rfl⟩) ⟨fun a U g mk q => ⟨q.1, kU_bl q.2⟩, (kU_rv hk h_i), fun U hU hW => ⟨rfl, kU_mv hk hU hW⟩⟩ rfl rfl hl.1 rfl (lv_room (Nat.le_of_ble_eq_true rfl)) dX2_times_32 ⟨Nat.zero_le _, Nat.zero_le _⟩)) (fun r_32 hr_32 => ?_)
      subst hr_32
      refine lv_lconst (v := 0) hx hb dX2_times_35 (by decide) ?_
      refine W.lcmp hx hb dX2_times_36 ?_
      refine lv_if_ne (tgt := 44) hx hb dX2_times_37 (by decide) (fun c_37 => ?_) (fun c_37 => ?_)
      · have c_37 : ¬ ((f_X1_magnitude i x2) = (0 : Int64)) := fun h9 => c_37 ((lg_cmp_eq (f_X1_magnitude i x2) (0 : Int64)).mpr h9)
        have hf : f_X2_times i x1 x2 = (f_X2_times_6 i x1 x2 w_1 (0 : Int32)) := hf.trans (if_neg c_37)
        refine lv_iconst (v := 0) hx hb dX2_times_44 (by decide) ?_
        exact K_45 (0 : Int32) ls hf (lv_sub hl [1, 2, 3, 0] rfl)
      · have c_37 : (f_X1_magnitude i x2) = (0 : Int64) := (lg_cmp_eq (f_X1_magnitude i x2) (0 : Int64)).mp c_37
        have hf : f_X2_times i x1 x2 = (f_X2_times_7 i x1 x2 w_1) := hf.trans (if_pos c_37)
        exact K_40 () ls hf (lv_sub hl [1, 2, 3, 0] rfl)
  refine lv_icmp_eq (tgt := 17) hx hb dX2_times_10 (by decide) (fun c_10 => ?_) (fun c_10 => ?_)
  · have hf : f_X2_times i x1 x2 = (f_X2_times_9 i x1 x2 (0 : Int32)) := hf.trans (if_pos c_10)
    refine lv_iconst (v := 0) hx hb dX2_times_17 (by decide) ?_
    exact K_18 (0 : Int32) ls hf (lv_sub hl [0, 1, 2] rfl)
  · have hf : f_X2_times i x1 x2 = (f_X2_times_9 i x1 x2 (1 : Int32)) := hf.trans (if_neg c_10)
    refine lv_iconst (v := 1) hx hb dX2_times_13 (by decide) ?_
    refine lv_goto (tgt := 18) hx hb dX2_times_14 (by decide) ?_
    exact K_18 (1 : Int32) ls hf (lv_sub hl [0, 1, 2] rfl)
def f_X2_quotientOf_1 (q4 : Int64) (q6 : Int64) : Int64 := if q6 = (0 : Int64) then q4 else (q4 ||| (1 : Int64))
def f_X2_quotientOf_2 (x1 : Int64) (q4 : Int64) (q8 : Int32) (rec_21 : Int64 → Int64 → Int32 → Int64) (v9_3 : Int64) : Int64 := (rec_21 ((jlshl q4 (10 : Int32)) + (v9_3 / x1)) (jlrem v9_3 x1) (q8 + (1 : Int32)))
def f_X2_quotientOf_3 (x1 : Int64) (q4 : Int64) (q6 : Int64) (q8 : Int32) (rec_21 : Int64 → Int64 → Int32 → Int64) : Int64 := if (6 : Int32) ≤ q8 then (f_X2_quotientOf_1 q4 q6) else (f_X2_quotientOf_2 x1 q4 q8 rec_21 (jlshl q6 (10 : Int32)))
def f_X2_quotientOf_L21 (x1 : Int64) : Nat → Int64 → Int64 → Int32 → Int64
  | 0, _, _, _ => 0
  | n + 1, q4, q6, q8 => (f_X2_quotientOf_3 x1 q4 q6 q8 (f_X2_quotientOf_L21 x1 n))
def f_X2_quotientOf_5 (x0 : Int64) (x1 : Int64) : Int64 := if x1 = (0 : Int64) then (0 : Int64) else (f_X2_quotientOf_L21 x1 7 (x0 / x1) (jlrem x0 x1) (0 : Int32))
def f_X2_quotientOf (x0 : Int64) (x1 : Int64) : Int64 := (f_X2_quotientOf_5 x0 x1)
def zX2_quotientOf : List Cond := .code yX2_quotientOf cX2_quotientOf 11 (some .long) :: zall
theorem iX2_quotientOf : MWs yX2_quotientOf (.code yX2_quotientOf cX2_quotientOf 11 (some .long)) := ⟨(zin__r11 (.static yX2_quotientOf) (List.mem_of_getElem? (i := 18) rfl)), (zin__r7 (.initialized RX2) (List.mem_of_getElem? (i := 12) rfl)), (zin__r11 (.code yX2_quotientOf cX2_quotientOf 11 (some .long)) (List.mem_of_getElem? (i := 19) rfl))⟩
set_option maxHeartbeats 4000000 in
set_option maxRecDepth 100000 in
theorem c_X2_quotientOf (l : Launch) (x0 : Int64) (x1 : Int64) : Met l yX2_quotientOf zX2_quotientOf ({ frames := 0, cells := 0, slots := 0, locals := 0 }) (va_Pc [.long x0, .long x1] (fun U => True)) (vp_Sl (fun r => r = f_X2_quotientOf x0 x1)) 0 0 (fun _ => False) := by
  refine Met.ofW (cc := cX2_quotientOf) (maxL := 11) (ret := (some .long)) (by decide) rfl ?_
  intro p e s m args below meth c s₁ B hml hv
  obtain ⟨rfl, -⟩ := hv
  have hx := B.exec
  have hb := B.bytes
  have hr := B.returns
  have hts : ∀ w ∈ zall, w.before _ s = true := fun w h => atoms_spec (ws := zX2_quotientOf) B.pre w (List.mem_cons_of_mem _ h)
  have hown : s.vm.findClass RX2 = some m.cls := findClass_of_methodNamed B.named
  have hlocks := B.notSynchronized
  have hl := lv_entry ([.long x0, .long x1]) (n := 11) (Nat.le_of_ble_eq_true rfl)
  rw [lg_entry_eq]
  generalize (lg_sl ([.long x0, .long x1]) ++ List.replicate (11 - (lg_sl ([.long x0, .long x1])).length) Slot.unset).toArray = ls at hl ⊢
  have hl : lv_has ls 11 [(0, .long x0), (2, .long x1)] := hl
  have hf : f_X2_quotientOf x0 x1 = (f_X2_quotientOf_5 x0 x1) := rfl
  refine lv_lload_n hx hb dX2_quotientOf_0 rfl (lv_at hl 1 rfl) ?_
  refine lv_lconst (v := 0) hx hb dX2_quotientOf_1 (by decide) ?_
  refine W.lcmp hx hb dX2_quotientOf_2 ?_
  refine lv_if_ne (tgt := 8) hx hb dX2_quotientOf_3 (by decide) (fun c_3 => ?_) (fun c_3 => ?_)
  · have c_3 : ¬ (x1 = (0 : Int64)) := fun h9 => c_3 ((lg_cmp_eq x1 (0 : Int64)).mpr h9)
    have hf : f_X2_quotientOf x0 x1 = (f_X2_quotientOf_L21 x1 7 (x0 / x1) (jlrem x0 x1) (0 : Int32)) := hf.trans (if_neg c_3)
    refine lv_lload_n hx hb dX2_quotientOf_8 rfl (lv_at hl 0 rfl) ?_
    refine lv_lload_n hx hb dX2_quotientOf_9 rfl (lv_at hl 1 rfl) ?_
    refine lv_ldiv hx hb dX2_quotientOf_10 c_3 ?_
    refine lv_topl (fun v4_1 e_v4_1 => ?_)
    have hf : f_X2_quotientOf x0 x1 = (f_X2_quotientOf_L21 x1 7 v4_1 (jlrem x0 x1) (0 : Int32)) := hf.trans (congrArg (fun z => (f_X2_quotientOf_L21 x1 7 z (jlrem x0 x1) (0 : Int32))) e_v4_1.symm)
    refine lv_lstore (lv' := [(4, .long v4_1), (0, .long x0), (2, .long x1)]) hx hb dX2_quotientOf_11 hl (by decide) rfl (fun ls hl => ?_)
    refine lv_lload_n hx hb dX2_quotientOf_13 rfl (lv_at hl 1 rfl) ?_
    refine lv_lload_n hx hb dX2_quotientOf_14 rfl (lv_at hl 2 rfl) ?_
    refine lv_lrem hx hb dX2_quotientOf_15 c_3 ?_
    refine lv_topl (fun v6_2 e_v6_2 => ?_)
    have hf : f_X2_quotientOf x0 x1 = (f_X2_quotientOf_L21 x1 7 v4_1 v6_2 (0 : Int32)) := hf.trans (congrArg (fun z => (f_X2_quotientOf_L21 x1 7 v4_1 z (0 : Int32))) e_v6_2.symm)
    refine lv_lstore (lv' := [(6, .long v6_2), (4, .long v4_1), (0, .long x0), (2, .long x1)]) hx hb dX2_quotientOf_16 hl (by decide) rfl (fun ls hl => ?_)
    refine lv_iconst (v := 0) hx hb dX2_quotientOf_18 (by decide) ?_
    refine lv_istore (lv' := [(8, .int (0 : Int32)), (6, .long v6_2), (4, .long v4_1), (0, .long x0), (2, .long x1)]) hx hb dX2_quotientOf_19 hl (by decide) rfl (fun ls hl => ?_)
    refine W_loop (α := Int64 × Int64 × Int32) (pcJ := 21) (nL := 11) (fun n v => f_X2_quotientOf x0 x1 = f_X2_quotientOf_L21 x1 n v.1 v.2.1 v.2.2 ∧ (0 ≤ v.2.2.toInt ∧ v.2.2.toInt ≤ 6 ∧ 7 ≤ v.2.2.toInt + n)) (fun v => []) (fun v => [(2, .long x1), (4, .long v.1), (6, .long v.2.1), (8, .int v.2.2)]) (fun v hC => ?_) (fun n_21 ih_21 v ls hC hl => ?_) 7 (v4_1, v6_2, (0 : Int32)) ls ⟨hf, (cnt_init (N := 6))⟩ (lv_sub hl [4, 2, 1, 0] rfl)
    · obtain ⟨q4, q6, q8⟩ := v
      have hI : (0 ≤ q8.toInt ∧ q8.toInt ≤ 6 ∧ 7 ≤ q8.toInt + (0 : Nat)) := hC.2
      omega
    · obtain ⟨q4, q6, q8⟩ := v
      obtain ⟨hf, hI⟩ : (f_X2_quotientOf x0 x1 = f_X2_quotientOf_L21 x1 (n_21 + 1) q4 q6 q8) ∧ (0 ≤ q8.toInt ∧ q8.toInt ≤ 6 ∧ 7 ≤ q8.toInt + (Nat.succ n_21)) := hC
      obtain ⟨rec_21, hrec_21⟩ : ∃ z, z = f_X2_quotientOf_L21 x1 n_21 := ⟨_, rfl⟩
      have hf : f_X2_quotientOf x0 x1 = (f_X2_quotientOf_3 x1 q4 q6 q8 rec_21) := by rw [hrec_21]; exact hf
      have hl : lv_has ls 11 [(2, .long x1), (4, .long q4), (6, .long q6), (8, .int q8)] := hl
      refine lv_iload hx hb dX2_quotientOf_21 (lv_at hl 3 rfl) ?_
      refine lv_bipush (v := 6) hx hb dX2_quotientOf_23 (by decide) ?_
      refine lv_icmp_ge (tgt := 59) hx hb dX2_quotientOf_25 (by decide) (fun c_25 => ?_) (fun c_25 => ?_)
      · have hf : f_X2_quotientOf x0 x1 = (f_X2_quotientOf_1 q4 q6) := hf.trans (if_pos c_25)
        refine lv_lload hx hb dX2_quotientOf_59 (lv_at hl 2 rfl) ?_
        refine lv_lconst (v := 0) hx hb dX2_quotientOf_61 (by decide) ?_
        refine W.lcmp hx hb dX2_quotientOf_62 ?_
        refine lv_if_ne (tgt := 71) hx hb dX2_quotientOf_63 (by decide) (fun c_63 => ?_) (fun c_63 => ?_)
        · have c_63 : ¬ (q6 = (0 : Int64)) := fun h9 => c_63 ((lg_cmp_eq q6 (0 : Int64)).mpr h9)
          have hf : f_X2_quotientOf x0 x1 = (q4 ||| (1 : Int64)) := hf.trans (if_neg c_63)
          refine lv_lload hx hb dX2_quotientOf_71 (lv_at hl 1 rfl) ?_
          refine lv_lconst (v := 1) hx hb dX2_quotientOf_73 (by decide) ?_
          refine lv_lor hx hb dX2_quotientOf_74 ?_
          exact W.lret hx hb hr (fun t ht hW => ⟨_, rfl, hf.symm, ht⟩) (fun q hq => absurd hq List.not_mem_nil) dX2_quotientOf_75
        · have c_63 : q6 = (0 : Int64) := (lg_cmp_eq q6 (0 : Int64)).mp c_63
          have hf : f_X2_quotientOf x0 x1 = q4 := hf.trans (if_pos c_63)
          refine lv_lload hx hb dX2_quotientOf_66 (lv_at hl 1 rfl) ?_
          refine lv_goto (tgt := 75) hx hb dX2_quotientOf_68 (by decide) ?_
          exact W.lret hx hb hr (fun t ht hW => ⟨_, rfl, hf.symm, ht⟩) (fun q hq => absurd hq List.not_mem_nil) dX2_quotientOf_75
      · have hf : f_X2_quotientOf x0 x1 = (f_X2_quotientOf_2 x1 q4 q8 rec_21 (jlshl q6 (10 : Int32))) := hf.trans (if_neg c_25)
        refine lv_lload hx hb dX2_quotientOf_28 (lv_at hl 2 rfl) ?_
        refine lv_bipush (v := 10) hx hb dX2_quotientOf_30 (by decide) ?_
        refine lv_lshl (v := (jlshl q6 (10 : Int32))) hx hb dX2_quotientOf_32 rfl ?_
        refine lv_topl (fun v9_3 e_v9_3 => ?_)
        have hf : f_X2_quotientOf x0 x1 = (f_X2_quotientOf_2 x1 q4 q8 rec_21 v9_3) := hf.trans (congrArg (fun z => (f_X2_quotientOf_2 x1 q4 q8 rec_21 z)) e_v9_3.symm)
        refine lv_lstore (lv' := [(9, .long v9_3), (2, .long x1), (4, .long q4), (6, .long q6), (8, .int q8)]) hx hb dX2_quotientOf_33 hl (by decide) rfl (fun ls hl => ?_)
        refine lv_lload hx hb dX2_quotientOf_35 (lv_at hl 2 rfl) ?_
        refine lv_bipush (v := 10) hx hb dX2_quotientOf_37 (by decide) ?_
        refine lv_lshl (v := (jlshl q4 (10 : Int32))) hx hb dX2_quotientOf_39 rfl ?_
        refine lv_lload hx hb dX2_quotientOf_40 (lv_at hl 0 rfl) ?_
        refine lv_lload_n hx hb dX2_quotientOf_42 rfl (lv_at hl 1 rfl) ?_
        refine lv_ldiv hx hb dX2_quotientOf_43 c_3 ?_
        refine lv_ladd hx hb dX2_quotientOf_44 ?_
        refine lv_topl (fun v4_4 e_v4_4 => ?_)
        have hf : f_X2_quotientOf x0 x1 = (rec_21 v4_4 (jlrem v9_3 x1) (q8 + (1 : Int32))) := hf.trans (congrArg (fun z => (rec_21 z (jlrem v9_3 x1) (q8 + (1 : Int32)))) e_v4_4.symm)
        refine lv_lstore (lv' := [(4, .long v4_4), (9, .long v9_3), (2, .long x1), (6, .long q6), (8, .int q8)]) hx hb dX2_quotientOf_45 hl (by decide) rfl (fun ls hl => ?_)
        refine lv_lload hx hb dX2_quotientOf_47 (lv_at hl 1 rfl) ?_
        refine lv_lload_n hx hb dX2_quotientOf_49 rfl (lv_at hl 2 rfl) ?_
        refine lv_lrem hx hb dX2_quotientOf_50 c_3 ?_
        refine lv_topl (fun v6_5 e_v6_5 => ?_)
        have hf : f_X2_quotientOf x0 x1 = (rec_21 v4_4 v6_5 (q8 + (1 : Int32))) := hf.trans (congrArg (fun z => (rec_21 v4_4 z (q8 + (1 : Int32)))) e_v6_5.symm)
        refine lv_lstore (lv' := [(6, .long v6_5), (4, .long v4_4), (9, .long v9_3), (2, .long x1), (8, .int q8)]) hx hb dX2_quotientOf_51 hl (by decide) rfl (fun ls hl => ?_)
        obtain ⟨v8_6, e_v8_6⟩ : ∃ y : Int32, y = (q8 + (1 : Int32)) := ⟨_, rfl⟩
        refine lv_iinc (v := v8_6) (lv' := [(8, .int v8_6), (6, .long v6_5), (4, .long v4_4), (9, .long v9_3), (2, .long x1)]) hx hb dX2_quotientOf_53 hl (k := 4) rfl (by rw [e_v8_6]; rfl) (by decide) rfl (fun ls hl => ?_)
        have hf : f_X2_quotientOf x0 x1 = (rec_21 v4_4 v6_5 v8_6) := hf.trans (congrArg (fun z => (rec_21 v4_4 v6_5 z)) e_v8_6.symm)
        refine lv_goto (tgt := 21) hx hb dX2_quotientOf_56 (by decide) ?_
        exact ih_21 (v4_4, v6_5, v8_6) ls ⟨hf.trans (congrFun (congrFun (congrFun hrec_21 _) _) _), (by rw [e_v8_6]; exact cnt_step (N := 6) (by decide) hI c_25)⟩ (lv_sub hl [4, 2, 1, 0] rfl)
  · have c_3 : x1 = (0 : Int64) := (lg_cmp_eq x1 (0 : Int64)).mp c_3
    have hf : f_X2_quotientOf x0 x1 = (0 : Int64) := hf.trans (if_pos c_3)
    refine lv_lconst (v := 0) hx hb dX2_quotientOf_6 (by decide) ?_
    exact W.lret hx hb hr (fun t ht hW => ⟨_, rfl, hf.symm, ht⟩) (fun q hq => absurd hq List.not_mem_nil) dX2_quotientOf_7
def f_X2_over_1 (i : Nat) (x1 : Int64) (x2 : Int64) (w_1 : Int32) (v6_2 : Int64) (v8_3 : Int64) (v10_4 : Int32) (v11_5 : Int32) : Int64 := (f_X1_rounded i w_1 (f_X2_quotientOf (jlshl v6_2 v10_4) (jlshl v8_3 v11_5)) ((((f_X1_exponent i x1) - v10_4) - ((f_X1_exponent i x2) - v11_5)) - (60 : Int32)))
def f_X2_over_2 (i : Nat) (x1 : Int64) (x2 : Int64) (w_1 : Int32) (v6_2 : Int64) (v8_3 : Int64) : Int64 := if v6_2 = (0 : Int64) then (f_X1_signed i w_1 (0 : Int64)) else (f_X2_over_1 i x1 x2 w_1 v6_2 v8_3 ((f_J13_numberOfLeadingZeros_95d88 v6_2) - (11 : Int32)) ((f_J13_numberOfLeadingZeros_95d88 v8_3) - (11 : Int32)))
def f_X2_over_3 (i : Nat) (w_1 : Int32) (v6_2 : Int64) : Int64 := if v6_2 = (0 : Int64) then (knan i) else (f_X1_signed i w_1 (kinf i))
def f_X2_over_4 (i : Nat) (x1 : Int64) (x2 : Int64) (w_1 : Int32) (v6_2 : Int64) (v8_3 : Int64) : Int64 := if v8_3 = (0 : Int64) then (f_X2_over_3 i w_1 v6_2) else (f_X2_over_2 i x1 x2 w_1 v6_2 v8_3)
def f_X2_over_5 (i : Nat) (x1 : Int64) (x2 : Int64) (w_1 : Int32) : Int64 := if (f_X1_isInfinite i x2) = 0 then (f_X2_over_4 i x1 x2 w_1 (f_X1_significand i x1) (f_X1_significand i x2)) else (f_X1_signed i w_1 (0 : Int64))
def f_X2_over_6 (i : Nat) (x2 : Int64) (w_1 : Int32) : Int64 := if (f_X1_isInfinite i x2) = 0 then (f_X1_signed i w_1 (kinf i)) else (knan i)
def f_X2_over_7 (i : Nat) (x1 : Int64) (x2 : Int64) (w_1 : Int32) : Int64 := if (f_X1_isInfinite i x1) = 0 then (f_X2_over_5 i x1 x2 w_1) else (f_X2_over_6 i x2 w_1)
def f_X2_over_8 (i : Nat) (x1 : Int64) (x2 : Int64) : Int64 := if (f_X1_isNegative i x1) = (f_X1_isNegative i x2) then (f_X2_over_7 i x1 x2 (0 : Int32)) else (f_X2_over_7 i x1 x2 (1 : Int32))
def f_X2_over (i : Nat) (x1 : Int64) (x2 : Int64) : Int64 := (f_X2_over_8 i x1 x2)
def zX2_over : List Cond := .code yX2_over cX2_over 15 (some .long) :: zall
theorem iX2_over : MWs yX2_over (.code yX2_over cX2_over 15 (some .long)) := ⟨(zin__r11 (.static yX2_over) (List.mem_of_getElem? (i := 15) rfl)), (zin__r7 (.initialized RX2) (List.mem_of_getElem? (i := 12) rfl)), (zin__r11 (.code yX2_over cX2_over 15 (some .long)) (List.mem_of_getElem? (i := 16) rfl))⟩
set_option maxHeartbeats 4000000 in
set_option maxRecDepth 100000 in
theorem c_X2_over (l : Launch) (ad : Nat → Nat) (i : Nat) (h_i : i < 2) (x1 : Int64) (x2 : Int64) : Met l yX2_over zX2_over ({ frames := 3, cells := 0, slots := 0, locals := 72 }) (va_Pc [.ref (ad i), .long x1, .long x2] (fun U => kU ad U)) (vp_Sl (fun r => r = f_X2_over i x1 x2)) 0 0 (fun _ => False) := by
  refine Met.ofW (cc := cX2_over) (maxL := 15) (ret := (some .long)) (by decide) rfl ?_
  intro p e s m args below meth c s₁ B hml hv
  obtain ⟨rfl, hk⟩ := hv
  have hx := B.exec
  have hb := B.bytes
  have hr := B.returns
  have hts : ∀ w ∈ zall, w.before _ s = true := fun w h => atoms_spec (ws := zX2_over) B.pre w (List.mem_cons_of_mem _ h)
  have hown : s.vm.findClass RX2 = some m.cls := findClass_of_methodNamed B.named
  have hlocks := B.notSynchronized
  have hl := lv_entry ([.ref (ad i), .long x1, .long x2]) (n := 15) (Nat.le_of_ble_eq_true rfl)
  rw [lg_entry_eq]
  generalize (lg_sl ([.ref (ad i), .long x1, .long x2]) ++ List.replicate (15 - (lg_sl ([.ref (ad i), .long x1, .long x2])).length) Slot.unset).toArray = ls at hl ⊢
  have hl : lv_has ls 15 [(0, .ref (ad i)), (1, .long x1), (3, .long x2)] := hl
  have hf : f_X2_over i x1 x2 = (f_X2_over_8 i x1 x2) := rfl
  refine lv_aload_n hx hb dX2_over_0 rfl (lv_at hl 0 rfl) ?_
  refine lv_lload_n hx hb dX2_over_1 rfl (lv_at hl 1 rfl) ?_
  refine vp_callSi (va_Run.run (va_runV (As := [.long x1]) (rest := []) ⟨hx, hb, hml, hown, hts⟩ (c_X1_isNegative l ad i h_i x1) (cwV 1 hts (gV iX1_isNegative (zin__r9 (.methodLink RX2 40 yX1_isNegative) (List.mem_of_getElem? (i := 6) rfl))) rfl rfl rfl (by decide +kernel) ⟨Nat.le_of_ble_eq_true rfl, Nat.le_of_ble_eq_true rfl⟩) ⟨fun a U g mk q => ⟨q.1, kU_bl q.2⟩, (kU_rv hk h_i), fun U hU hW => ⟨rfl, kU_mv hk hU hW⟩⟩ rfl rfl hl.1 rfl (lv_room (Nat.le_of_ble_eq_true rfl)) dX2_over_2 ⟨Nat.zero_le _, Nat.zero_le _⟩)) (fun r_2 hr_2 => ?_)
  subst hr_2
  refine lv_aload_n hx hb dX2_over_5 rfl (lv_at hl 0 rfl) ?_
  refine lv_lload_n hx hb dX2_over_6 rfl (lv_at hl 2 rfl) ?_
  refine vp_callSi (va_Run.run (va_runV (As := [.long x2]) (rest := [.int (f_X1_isNegative i x1)]) ⟨hx, hb, hml, hown, hts⟩ (c_X1_isNegative l ad i h_i x2) (cwV 1 hts (gV iX1_isNegative (zin__r9 (.methodLink RX2 40 yX1_isNegative) (List.mem_of_getElem? (i := 6) rfl))) rfl rfl rfl (by decide +kernel) ⟨Nat.le_of_ble_eq_true rfl, Nat.le_of_ble_eq_true rfl⟩) ⟨fun a U g mk q => ⟨q.1, kU_bl q.2⟩, (kU_rv hk h_i), fun U hU hW => ⟨rfl, kU_mv hk hU hW⟩⟩ rfl rfl hl.1 rfl (lv_room (Nat.le_of_ble_eq_true rfl)) dX2_over_7 ⟨Nat.zero_le _, Nat.zero_le _⟩)) (fun r_7 hr_7 => ?_)
  subst hr_7
  refine W_cut (α := Int32) (pcJ := 18) (nL := 15) (fun v => f_X2_over i x1 x2 = (f_X2_over_7 i x1 x2 v)) (fun v => [.int v]) (fun v => [(0, .ref (ad i)), (1, .long x1), (3, .long x2)]) (fun w_1 ls hf hl => ?_) (fun K_18 => ?_)
  · have hf : f_X2_over i x1 x2 = (f_X2_over_7 i x1 x2 w_1) := hf
    have hl : lv_has ls 15 [(0, .ref (ad i)), (1, .long x1), (3, .long x2)] := hl
    refine lv_istore (lv' := [(5, .int w_1), (0, .ref (ad i)), (1, .long x1), (3, .long x2)]) hx hb dX2_over_18 hl (by decide) rfl (fun ls hl => ?_)
    refine lv_aload_n hx hb dX2_over_20 rfl (lv_at hl 1 rfl) ?_
    refine lv_lload_n hx hb dX2_over_21 rfl (lv_at hl 2 rfl) ?_
    refine vp_callSi (va_Run.run (va_runV (As := [.long x1]) (rest := []) ⟨hx, hb, hml, hown, hts⟩ (c_X1_isInfinite l ad i h_i x1) (cwV 1 hts (gV iX1_isInfinite (zin__r9 (.methodLink RX2 74 yX1_isInfinite) (List.mem_of_getElem? (i := 2) rfl))) rfl rfl rfl (by decide +kernel) ⟨Nat.le_of_ble_eq_true rfl, Nat.le_of_ble_eq_true rfl⟩) ⟨fun a U g mk q => ⟨q.1, kU_bl q.2⟩, (kU_rv hk h_i), fun U hU hW => ⟨rfl, kU_mv hk hU hW⟩⟩ rfl rfl hl.1 rfl (lv_room (Nat.le_of_ble_eq_true rfl)) dX2_over_22 ⟨Nat.zero_le _, Nat.zero_le _⟩)) (fun r_22 hr_22 => ?_)
    subst hr_22
    refine lv_if_eq (tgt := 54) hx hb dX2_over_25 (by decide) (fun c_25 => ?_) (fun c_25 => ?_)
    · have hf : f_X2_over i x1 x2 = (f_X2_over_5 i x1 x2 w_1) := hf.trans (if_pos c_25)
      refine lv_aload_n hx hb dX2_over_54 rfl (lv_at hl 1 rfl) ?_
      refine lv_lload_n hx hb dX2_over_55 rfl (lv_at hl 3 rfl) ?_
      refine vp_callSi (va_Run.run (va_runV (As := [.long x2]) (rest := []) ⟨hx, hb, hml, hown, hts⟩ (c_X1_isInfinite l ad i h_i x2) (cwV 1 hts (gV iX1_isInfinite (zin__r9 (.methodLink RX2 74 yX1_isInfinite) (List.mem_of_getElem? (i := 2) rfl))) rfl rfl rfl (by decide +kernel) ⟨Nat.le_of_ble_eq_true rfl, Nat.le_of_ble_eq_true rfl⟩) ⟨fun a U g mk q => ⟨q.1, kU_bl q.2⟩, (kU_rv hk h_i), fun U hU hW => ⟨rfl, kU_mv hk hU hW⟩⟩ rfl rfl hl.1 rfl (lv_room (Nat.le_of_ble_eq_true rfl)) dX2_over_56 ⟨Nat.zero_le _, Nat.zero_le _⟩)) (fun r_56 hr_56 => ?_)
      subst hr_56
      refine lv_if_eq (tgt := 70) hx hb dX2_over_59 (by decide) (fun c_59 => ?_) (fun c_59 => ?_)
      · have hf : f_X2_over i x1 x2 = (f_X2_over_4 i x1 x2 w_1 (f_X1_significand i x1) (f_X1_significand i x2)) := hf.trans (if_pos c_59)
        refine lv_aload_n hx hb dX2_over_70 rfl (lv_at hl 1 rfl) ?_
        refine lv_lload_n hx hb dX2_over_71 rfl (lv_at hl 2 rfl) ?_
        refine vp_callSl (va_Run.run (va_runV (As := [.long x1]) (rest := []) ⟨hx, hb, hml, hown, hts⟩ (c_X1_significand l ad i h_i x1) (cwV 1 hts (gV iX1_significand (zin__r9 (.methodLink RX2 80 yX1_significand) (List.mem_of_getElem? (i := 7) rfl))) rfl rfl rfl (by decide +kernel) ⟨Nat.le_of_ble_eq_true rfl, Nat.le_of_ble_eq_true rfl⟩) ⟨fun a U g mk q => ⟨q.1, kU_bl q.2⟩, (kU_rv hk h_i), fun U hU hW => ⟨rfl, kU_mv hk hU hW⟩⟩ rfl rfl hl.1 rfl (lv_room (Nat.le_of_ble_eq_true rfl)) dX2_over_72 ⟨Nat.zero_le _, Nat.zero_le _⟩)) (fun r_72 hr_72 => ?_)
        subst hr_72
        refine lv_topl (fun v6_2 e_v6_2 => ?_)
        have hf : f_X2_over i x1 x2 = (f_X2_over_4 i x1 x2 w_1 v6_2 (f_X1_significand i x2)) := hf.trans (congrArg (fun z => (f_X2_over_4 i x1 x2 w_1 z (f_X1_significand i x2))) e_v6_2.symm)
        refine lv_lstore (lv' := [(6, .long v6_2), (5, .int w_1), (0, .ref (ad i)), (1, .long x1), (3, .long x2)]) hx hb dX2_over_75 hl (by decide) rfl (fun ls hl => ?_)
        refine lv_aload_n hx hb dX2_over_77 rfl (lv_at hl 2 rfl) ?_
        refine lv_lload_n hx hb dX2_over_78 rfl (lv_at hl 4 rfl) ?_
        refine vp_callSl (va_Run.run (va_runV (As := [.long x2]) (rest := []) ⟨hx, hb, hml, hown, hts⟩ (c_X1_significand l ad i h_i x2) (cwV 1 hts (gV iX1_significand (zin__r9 (.methodLink RX2 80 yX1_significand) (List.mem_of_getElem? (i := 7) rfl))) rfl rfl rfl (by decide +kernel) ⟨Nat.le_of_ble_eq_true rfl, Nat.le_of_ble_eq_true rfl⟩) ⟨fun a U g mk q => ⟨q.1, kU_bl q.2⟩, (kU_rv hk h_i), fun U hU hW => ⟨rfl, kU_mv hk hU hW⟩⟩ rfl rfl hl.1 rfl (lv_room (Nat.le_of_ble_eq_true rfl)) dX2_over_79 ⟨Nat.zero_le _, Nat.zero_le _⟩)) (fun r_79 hr_79 => ?_)
        subst hr_79
        refine lv_topl (fun v8_3 e_v8_3 => ?_)
        have hf : f_X2_over i x1 x2 = (f_X2_over_4 i x1 x2 w_1 v6_2 v8_3) := hf.trans (congrArg (fun z => (f_X2_over_4 i x1 x2 w_1 v6_2 z)) e_v8_3.symm)
        refine lv_lstore (lv' := [(8, .long v8_3), (6, .long v6_2), (5, .int w_1), (0, .ref (ad i)), (1, .long x1), (3, .long x2)]) hx hb dX2_over_82 hl (by decide) rfl (fun ls hl => ?_)
        refine lv_lload hx hb dX2_over_84 (lv_at hl 0 rfl) ?_
        refine lv_lconst (v := 0) hx hb dX2_over_86 (by decide) ?_
        refine W.lcmp hx hb dX2_over_87 ?_
        refine lv_if_ne (tgt := 116) hx hb dX2_over_88 (by decide) (fun c_88 => ?_) (fun c_88 => ?_)
        · have c_88 : ¬ (v8_3 = (0 : Int64)) := fun h9 => c_88 ((lg_cmp_eq v8_3 (0 : Int64)).mpr h9)
          have hf : f_X2_over i x1 x2 = (f_X2_over_2 i x1 x2 w_1 v6_2 v8_3) := hf.trans (if_neg c_88)
          refine lv_lload hx hb dX2_over_116 (lv_at hl 1 rfl) ?_
          refine lv_lconst (v := 0) hx hb dX2_over_118 (by decide) ?_
          refine W.lcmp hx hb dX2_over_119 ?_
          refine lv_if_ne (tgt := 131) hx hb dX2_over_120 (by decide) (fun c_120 => ?_) (fun c_120 => ?_)
          · have c_120 : ¬ (v6_2 = (0 : Int64)) := fun h9 => c_120 ((lg_cmp_eq v6_2 (0 : Int64)).mpr h9)
            have hf : f_X2_over i x1 x2 = (f_X2_over_1 i x1 x2 w_1 v6_2 v8_3 ((f_J13_numberOfLeadingZeros_95d88 v6_2) - (11 : Int32)) ((f_J13_numberOfLeadingZeros_95d88 v8_3) - (11 : Int32))) := hf.trans (if_neg c_120)
            refine lv_lload hx hb dX2_over_131 (lv_at hl 1 rfl) ?_
            refine vp_callSi (va_Run.run (va_runS (As := [.long v6_2]) (rest := []) ⟨hx, hb, hml, hown, hts⟩ (c_J13_numberOfLeadingZeros_95d88 l  v6_2) (va_cwS 1 hts (gS iJ13_numberOfLeadingZeros_95d88 (zin__r11 (.methodLink RX2 93 yJ13_numberOfLeadingZeros_95d88) (List.mem_of_getElem? (i := 8) rfl))) rfl rfl rfl (by decide +kernel) ⟨Nat.le_of_ble_eq_true rfl, Nat.le_of_ble_eq_true rfl⟩) ⟨fun a U g mk q => ⟨q.1, trivial⟩, fun U hU hW => ⟨rfl, trivial⟩⟩ rfl rfl hl.1 rfl (lv_room (Nat.le_of_ble_eq_true rfl)) dX2_over_133 ⟨Nat.zero_le _, Nat.zero_le _⟩)) (fun r_133 hr_133 => ?_)
            subst hr_133
            refine lv_bipush (v := 11) hx hb dX2_over_136 (by decide) ?_
            refine lv_isub hx hb dX2_over_138 ?_
            refine lv_topi (fun v10_4 e_v10_4 => ?_)
            have hf : f_X2_over i x1 x2 = (f_X2_over_1 i x1 x2 w_1 v6_2 v8_3 v10_4 ((f_J13_numberOfLeadingZeros_95d88 v8_3) - (11 : Int32))) := hf.trans (congrArg (fun z => (f_X2_over_1 i x1 x2 w_1 v6_2 v8_3 z ((f_J13_numberOfLeadingZeros_95d88 v8_3) - (11 : Int32)))) e_v10_4.symm)
            refine lv_istore (lv' := [(10, .int v10_4), (8, .long v8_3), (6, .long v6_2), (5, .int w_1), (0, .ref (ad i)), (1, .long x1), (3, .long x2)]) hx hb dX2_over_139 hl (by decide) rfl (fun ls hl => ?_)
            refine lv_lload hx hb dX2_over_141 (lv_at hl 1 rfl) ?_
            refine vp_callSi (va_Run.run (va_runS (As := [.long v8_3]) (rest := []) ⟨hx, hb, hml, hown, hts⟩ (c_J13_numberOfLeadingZeros_95d88 l  v8_3) (va_cwS 1 hts (gS iJ13_numberOfLeadingZeros_95d88 (zin__r11 (.methodLink RX2 93 yJ13_numberOfLeadingZeros_95d88) (List.mem_of_getElem? (i := 8) rfl))) rfl rfl rfl (by decide +kernel) ⟨Nat.le_of_ble_eq_true rfl, Nat.le_of_ble_eq_true rfl⟩) ⟨fun a U g mk q => ⟨q.1, trivial⟩, fun U hU hW => ⟨rfl, trivial⟩⟩ rfl rfl hl.1 rfl (lv_room (Nat.le_of_ble_eq_true rfl)) dX2_over_143 ⟨Nat.zero_le _, Nat.zero_le _⟩)) (fun r_143 hr_143 => ?_)
            subst hr_143
            refine lv_bipush (v := 11) hx hb dX2_over_146 (by decide) ?_
            refine lv_isub hx hb dX2_over_148 ?_
            refine lv_topi (fun v11_5 e_v11_5 => ?_)
            have hf : f_X2_over i x1 x2 = (f_X2_over_1 i x1 x2 w_1 v6_2 v8_3 v10_4 v11_5) := hf.trans (congrArg (fun z => (f_X2_over_1 i x1 x2 w_1 v6_2 v8_3 v10_4 z)) e_v11_5.symm)
            refine lv_istore (lv' := [(11, .int v11_5), (10, .int v10_4), (8, .long v8_3), (6, .long v6_2), (5, .int w_1), (0, .ref (ad i)), (1, .long x1), (3, .long x2)]) hx hb dX2_over_149 hl (by decide) rfl (fun ls hl => ?_)
            refine lv_aload_n hx hb dX2_over_151 rfl (lv_at hl 5 rfl) ?_
            refine lv_lload_n hx hb dX2_over_152 rfl (lv_at hl 6 rfl) ?_
            refine vp_callSi (va_Run.run (va_runV (As := [.long x1]) (rest := []) ⟨hx, hb, hml, hown, hts⟩ (c_X1_exponent l ad i h_i x1) (cwV 1 hts (gV iX1_exponent (zin__r8 (.methodLink RX2 83 yX1_exponent) (List.mem_of_getElem? (i := 12) rfl))) rfl rfl rfl (by decide +kernel) ⟨Nat.le_of_ble_eq_true rfl, Nat.le_of_ble_eq_true rfl⟩) ⟨fun a U g mk q => ⟨q.1, kU_bl q.2⟩, (kU_rv hk h_i), fun U hU hW => ⟨rfl, kU_mv hk hU hW⟩⟩ rfl rfl hl.1 rfl (lv_room (Nat.le_of_ble_eq_true rfl)) dX2_over_153 ⟨Nat.zero_le _, Nat.zero_le _⟩)) (fun r_153 hr_153 => ?_)
            subst hr_153
            refine lv_iload hx hb dX2_over_156 (lv_at hl 1 rfl) ?_
            refine lv_isub hx hb dX2_over_158 ?_
            refine lv_aload_n hx hb dX2_over_159 rfl (lv_at hl 5 rfl) ?_
            refine lv_lload_n hx hb dX2_over_160 rfl (lv_at hl 7 rfl) ?_
            refine vp_callSi (va_Run.run (va_runV (As := [.long x2]) (rest := [.int ((f_X1_exponent i x1) - v10_4)]) ⟨hx, hb, hml, hown, hts⟩ (c_X1_exponent l ad i h_i x2) (cwV 1 hts (gV iX1_exponent (zin__r8 (.methodLink RX2 83 yX1_exponent) (List.mem_of_getElem? (i := 12) rfl))) rfl rfl rfl (by decide +kernel) ⟨Nat.le_of_ble_eq_true rfl, Nat.le_of_ble_eq_true rfl⟩) ⟨fun a U g mk q => ⟨q.1, kU_bl q.2⟩, (kU_rv hk h_i), fun U hU hW => ⟨rfl, kU_mv hk hU hW⟩⟩ rfl rfl hl.1 rfl (lv_room (Nat.le_of_ble_eq_true rfl)) dX2_over_161 ⟨Nat.zero_le _, Nat.zero_le _⟩)) (fun r_161 hr_161 => ?_)
            subst hr_161
            refine lv_iload hx hb dX2_over_164 (lv_at hl 0 rfl) ?_
            refine lv_isub hx hb dX2_over_166 ?_
            refine lv_isub hx hb dX2_over_167 ?_
            refine lv_topi (fun v12_6 e_v12_6 => ?_)
            have hf : f_X2_over i x1 x2 = (f_X1_rounded i w_1 (f_X2_quotientOf (jlshl v6_2 v10_4) (jlshl v8_3 v11_5)) (v12_6 - (60 : Int32))) := hf.trans (congrArg (fun z => (f_X1_rounded i w_1 (f_X2_quotientOf (jlshl v6_2 v10_4) (jlshl v8_3 v11_5)) (z - (60 : Int32)))) e_v12_6.symm)
            refine lv_istore (lv' := [(12, .int v12_6), (11, .int v11_5), (10, .int v10_4), (8, .long v8_3), (6, .long v6_2), (5, .int w_1), (0, .ref (ad i)), (1, .long x1), (3, .long x2)]) hx hb dX2_over_168 hl (by decide) rfl (fun ls hl => ?_)
            refine lv_lload hx hb dX2_over_170 (lv_at hl 4 rfl) ?_
            refine lv_iload hx hb dX2_over_172 (lv_at hl 2 rfl) ?_
            refine lv_lshl (v := (jlshl v6_2 v10_4)) hx hb dX2_over_174 rfl ?_
            refine lv_lload hx hb dX2_over_175 (lv_at hl 3 rfl) ?_
            refine lv_iload hx hb dX2_over_177 (lv_at hl 1 rfl) ?_
            refine lv_lshl (v := (jlshl v8_3 v11_5)) hx hb dX2_over_179 rfl ?_
            refine vp_callSl (va_Run.run (va_runS (As := [.long (jlshl v6_2 v10_4), .long (jlshl v8_3 v11_5)]) (rest := []) ⟨hx, hb, hml, hown, hts⟩ (c_X2_quotientOf l  (jlshl v6_2 v10_4) (jlshl v8_3 v11_5)) (va_cwS 2 hts (gS iX2_quotientOf (zin__r11 (.methodLink RX2 116 yX2_quotientOf) (List.mem_of_getElem? (i := 17) rfl))) rfl rfl rfl (by decide +kernel) ⟨Nat.le_of_ble_eq_true rfl, Nat.le_of_ble_eq_true rfl⟩) ⟨fun a U g mk q => ⟨q.1, trivial⟩, fun U hU hW => ⟨rfl, trivial⟩⟩ rfl rfl hl.1 rfl (lv_room (Nat.le_of_ble_eq_true rfl)) dX2_over_180 ⟨Nat.zero_le _, Nat.zero_le _⟩)) (fun r_180 hr_180 => ?_)
            subst hr_180
            refine lv_topl (fun v13_7 e_v13_7 => ?_)
            have hf : f_X2_over i x1 x2 = (f_X1_rounded i w_1 v13_7 (v12_6 - (60 : Int32))) := hf.trans (congrArg (fun z => (f_X1_rounded i w_1 z (v12_6 - (60 : Int32)))) e_v13_7.symm)
            refine lv_lstore (lv' := [(13, .long v13_7), (12, .int v12_6), (11, .int v11_5), (10, .int v10_4), (8, .long v8_3), (6, .long v6_2), (5, .int w_1), (0, .ref (ad i)), (1, .long x1), (3, .long x2)]) hx hb dX2_over_183 hl (by decide) rfl (fun ls hl => ?_)
            refine lv_aload_n hx hb dX2_over_185 rfl (lv_at hl 7 rfl) ?_
            refine lv_iload hx hb dX2_over_186 (lv_at hl 6 rfl) ?_
            refine lv_lload hx hb dX2_over_188 (lv_at hl 0 rfl) ?_
            refine lv_iload hx hb dX2_over_190 (lv_at hl 1 rfl) ?_
            refine lv_bipush (v := 60) hx hb dX2_over_192 (by decide) ?_
            refine lv_isub hx hb dX2_over_194 ?_
            refine vp_callSl (va_Run.run (va_runV (As := [.int w_1, .long v13_7, .int (v12_6 - (60 : Int32))]) (rest := []) ⟨hx, hb, hml, hown, hts⟩ (c_X1_rounded l ad i h_i w_1 v13_7 (v12_6 - (60 : Int32))) (cwV 3 hts (gV iX1_rounded (zin__r9 (.methodLink RX2 70 yX1_rounded) (List.mem_of_getElem? (i := 11) rfl))) rfl rfl rfl (by decide +kernel) ⟨Nat.le_of_ble_eq_true rfl, Nat.le_of_ble_eq_true rfl⟩) ⟨fun a U g mk q => ⟨q.1, kU_bl q.2⟩, (kU_rv hk h_i), fun U hU hW => ⟨rfl, kU_mv hk hU hW⟩⟩ rfl rfl hl.1 rfl (lv_room (Nat.le_of_ble_eq_true rfl)) dX2_over_195 ⟨Nat.zero_le _, Nat.zero_le _⟩)) (fun r_195 hr_195 => ?_)
            subst hr_195
            exact W.lret hx hb hr (fun t ht hW => ⟨_, rfl, hf.symm, ht⟩) (fun q hq => absurd hq List.not_mem_nil) dX2_over_198
          · have c_120 : v6_2 = (0 : Int64) := (lg_cmp_eq v6_2 (0 : Int64)).mp c_120
            have hf : f_X2_over i x1 x2 = (f_X1_signed i w_1 (0 : Int64)) := hf.trans (if_pos c_120)
            refine lv_aload_n hx hb dX2_over_123 rfl (lv_at hl 3 rfl) ?_
            refine lv_iload hx hb dX2_over_124 (lv_at hl 2 rfl) ?_
            refine lv_lconst (v := 0) hx hb dX2_over_126 (by decide) ?_
            refine vp_callSl (va_Run.run (va_runV (As := [.int w_1, .long (0 : Int64)]) (rest := []) ⟨hx, hb, hml, hown, hts⟩ (c_X1_signed l ad i h_i w_1 (0 : Int64)) (cwV 2 hts (gV iX1_signed (zin__r10 (.methodLink RX2 47 yX1_signed) (List.mem_of_getElem? (i := 11) rfl))) rfl rfl rfl (by decide +kernel) ⟨Nat.le_of_ble_eq_true rfl, Nat.le_of_ble_eq_true rfl⟩) ⟨fun a U g mk q => ⟨q.1, kU_bl q.2⟩, (kU_rv hk h_i), fun U hU hW => ⟨rfl, kU_mv hk hU hW⟩⟩ rfl rfl hl.1 rfl (lv_room (Nat.le_of_ble_eq_true rfl)) dX2_over_127 ⟨Nat.zero_le _, Nat.zero_le _⟩)) (fun r_127 hr_127 => ?_)
            subst hr_127
            exact W.lret hx hb hr (fun t ht hW => ⟨_, rfl, hf.symm, ht⟩) (fun q hq => absurd hq List.not_mem_nil) dX2_over_130
        · have c_88 : v8_3 = (0 : Int64) := (lg_cmp_eq v8_3 (0 : Int64)).mp c_88
          have hf : f_X2_over i x1 x2 = (f_X2_over_3 i w_1 v6_2) := hf.trans (if_pos c_88)
          refine lv_lload hx hb dX2_over_91 (lv_at hl 1 rfl) ?_
          refine lv_lconst (v := 0) hx hb dX2_over_93 (by decide) ?_
          refine W.lcmp hx hb dX2_over_94 ?_
          refine lv_if_ne (tgt := 105) hx hb dX2_over_95 (by decide) (fun c_95 => ?_) (fun c_95 => ?_)
          · have c_95 : ¬ (v6_2 = (0 : Int64)) := fun h9 => c_95 ((lg_cmp_eq v6_2 (0 : Int64)).mpr h9)
            have hf : f_X2_over i x1 x2 = (f_X1_signed i w_1 (kinf i)) := hf.trans (if_neg c_95)
            refine lv_aload_n hx hb dX2_over_105 rfl (lv_at hl 3 rfl) ?_
            refine lv_iload hx hb dX2_over_106 (lv_at hl 2 rfl) ?_
            refine lv_aload_n hx hb dX2_over_108 rfl (lv_at hl 3 rfl) ?_
            refine vk_getf hx hb (kE_infinite hk h_i) va_S.rf hown (hts _ (zin__r11 (.fieldLink RX2 77 "ReckonBench$Kind" "infinite" "J") (List.mem_of_getElem? (i := 7) rfl))) (fun _ h9 => h9) dX2_over_109 ?_
            refine vp_callSl (va_Run.run (va_runV (As := [.int w_1, .long (kinf i)]) (rest := []) ⟨hx, hb, hml, hown, hts⟩ (c_X1_signed l ad i h_i w_1 (kinf i)) (cwV 2 hts (gV iX1_signed (zin__r10 (.methodLink RX2 47 yX1_signed) (List.mem_of_getElem? (i := 11) rfl))) rfl rfl rfl (by decide +kernel) ⟨Nat.le_of_ble_eq_true rfl, Nat.le_of_ble_eq_true rfl⟩) ⟨fun a U g mk q => ⟨q.1, kU_bl q.2⟩, (kU_rv hk h_i), fun U hU hW => ⟨rfl, kU_mv hk hU hW⟩⟩ rfl rfl hl.1 rfl (lv_room (Nat.le_of_ble_eq_true rfl)) dX2_over_112 ⟨Nat.zero_le _, Nat.zero_le _⟩)) (fun r_112 hr_112 => ?_)
            subst hr_112
            exact W.lret hx hb hr (fun t ht hW => ⟨_, rfl, hf.symm, ht⟩) (fun q hq => absurd hq List.not_mem_nil) dX2_over_115
          · have c_95 : v6_2 = (0 : Int64) := (lg_cmp_eq v6_2 (0 : Int64)).mp c_95
            have hf : f_X2_over i x1 x2 = (knan i) := hf.trans (if_pos c_95)
            refine lv_aload_n hx hb dX2_over_98 rfl (lv_at hl 3 rfl) ?_
            refine vk_getf hx hb (kE_nan hk h_i) va_S.rf hown (hts _ (zin__r7 (.fieldLink RX2 21 "ReckonBench$Kind" "nan" "J") (List.mem_of_getElem? (i := 14) rfl))) (fun _ h9 => h9) dX2_over_99 ?_
            refine lv_goto (tgt := 115) hx hb dX2_over_102 (by decide) ?_
            exact W.lret hx hb hr (fun t ht hW => ⟨_, rfl, hf.symm, ht⟩) (fun q hq => absurd hq List.not_mem_nil) dX2_over_115
      · have hf : f_X2_over i x1 x2 = (f_X1_signed i w_1 (0 : Int64)) := hf.trans (if_neg c_59)
        refine lv_aload_n hx hb dX2_over_62 rfl (lv_at hl 1 rfl) ?_
        refine lv_iload hx hb dX2_over_63 (lv_at hl 0 rfl) ?_
        refine lv_lconst (v := 0) hx hb dX2_over_65 (by decide) ?_
        refine vp_callSl (va_Run.run (va_runV (As := [.int w_1, .long (0 : Int64)]) (rest := []) ⟨hx, hb, hml, hown, hts⟩ (c_X1_signed l ad i h_i w_1 (0 : Int64)) (cwV 2 hts (gV iX1_signed (zin__r10 (.methodLink RX2 47 yX1_signed) (List.mem_of_getElem? (i := 11) rfl))) rfl rfl rfl (by decide +kernel) ⟨Nat.le_of_ble_eq_true rfl, Nat.le_of_ble_eq_true rfl⟩) ⟨fun a U g mk q => ⟨q.1, kU_bl q.2⟩, (kU_rv hk h_i), fun U hU hW => ⟨rfl, kU_mv hk hU hW⟩⟩ rfl rfl hl.1 rfl (lv_room (Nat.le_of_ble_eq_true rfl)) dX2_over_66 ⟨Nat.zero_le _, Nat.zero_le _⟩)) (fun r_66 hr_66 => ?_)
        subst hr_66
        exact W.lret hx hb hr (fun t ht hW => ⟨_, rfl, hf.symm, ht⟩) (fun q hq => absurd hq List.not_mem_nil) dX2_over_69
    · have hf : f_X2_over i x1 x2 = (f_X2_over_6 i x2 w_1) := hf.trans (if_neg c_25)
      refine lv_aload_n hx hb dX2_over_28 rfl (lv_at hl 1 rfl) ?_
      refine lv_lload_n hx hb dX2_over_29 rfl (lv_at hl 3 rfl) ?_
      refine vp_callSi (va_Run.run (va_runV (As := [.long x2]) (rest := []) ⟨hx, hb, hml, hown, hts⟩ (c_X1_isInfinite l ad i h_i x2) (cwV 1 hts (gV iX1_isInfinite (zin__r9 (.methodLink RX2 74 yX1_isInfinite) (List.mem_of_getElem? (i := 2) rfl))) rfl rfl rfl (by decide +kernel) ⟨Nat.le_of_ble_eq_true rfl, Nat.le_of_ble_eq_true rfl⟩) ⟨fun a U g mk q => ⟨q.1, kU_bl q.2⟩, (kU_rv hk h_i), fun U hU hW => ⟨rfl, kU_mv hk hU hW⟩⟩ rfl rfl hl.1 rfl (lv_room (Nat.le_of_ble_eq_true rfl)) dX2_over_30 ⟨Nat.zero_le _, Nat.zero_le _⟩)) (fun r_30 hr_30 => ?_)
      subst hr_30
      refine lv_if_eq (tgt := 43) hx hb dX2_over_33 (by decide) (fun c_33 => ?_) (fun c_33 => ?_)
      · have hf : f_X2_over i x1 x2 = (f_X1_signed i w_1 (kinf i)) := hf.trans (if_pos c_33)
        refine lv_aload_n hx hb dX2_over_43 rfl (lv_at hl 1 rfl) ?_
        refine lv_iload hx hb dX2_over_44 (lv_at hl 0 rfl) ?_
        refine lv_aload_n hx hb dX2_over_46 rfl (lv_at hl 1 rfl) ?_
        refine vk_getf hx hb (kE_infinite hk h_i) va_S.rf hown (hts _ (zin__r11 (.fieldLink RX2 77 "ReckonBench$Kind" "infinite" "J") (List.mem_of_getElem? (i := 7) rfl))) (fun _ h9 => h9) dX2_over_47 ?_
        refine vp_callSl (va_Run.run (va_runV (As := [.int w_1, .long (kinf i)]) (rest := []) ⟨hx, hb, hml, hown, hts⟩ (c_X1_signed l ad i h_i w_1 (kinf i)) (cwV 2 hts (gV iX1_signed (zin__r10 (.methodLink RX2 47 yX1_signed) (List.mem_of_getElem? (i := 11) rfl))) rfl rfl rfl (by decide +kernel) ⟨Nat.le_of_ble_eq_true rfl, Nat.le_of_ble_eq_true rfl⟩) ⟨fun a U g mk q => ⟨q.1, kU_bl q.2⟩, (kU_rv hk h_i), fun U hU hW => ⟨rfl, kU_mv hk hU hW⟩⟩ rfl rfl hl.1 rfl (lv_room (Nat.le_of_ble_eq_true rfl)) dX2_over_50 ⟨Nat.zero_le _, Nat.zero_le _⟩)) (fun r_50 hr_50 => ?_)
        subst hr_50
        exact W.lret hx hb hr (fun t ht hW => ⟨_, rfl, hf.symm, ht⟩) (fun q hq => absurd hq List.not_mem_nil) dX2_over_53
      · have hf : f_X2_over i x1 x2 = (knan i) := hf.trans (if_neg c_33)
        refine lv_aload_n hx hb dX2_over_36 rfl (lv_at hl 1 rfl) ?_
        refine vk_getf hx hb (kE_nan hk h_i) va_S.rf hown (hts _ (zin__r7 (.fieldLink RX2 21 "ReckonBench$Kind" "nan" "J") (List.mem_of_getElem? (i := 14) rfl))) (fun _ h9 => h9) dX2_over_37 ?_
        refine lv_goto (tgt := 53) hx hb dX2_over_40 (by decide) ?_
        exact W.lret hx hb hr (fun t ht hW => ⟨_, rfl, hf.symm, ht⟩) (fun q hq => absurd hq List.not_mem_nil) dX2_over_53
  refine lv_icmp_eq (tgt := 17) hx hb dX2_over_10 (by decide) (fun c_10 => ?_) (fun c_10 => ?_)
  · have hf : f_X2_over i x1 x2 = (f_X2_over_7 i x1 x2 (0 : Int32)) := hf.trans (if_pos c_10)
    refine lv_iconst (v := 0) hx hb dX2_over_17 (by decide) ?_
    exact K_18 (0 : Int32) ls hf (lv_sub hl [0, 1, 2] rfl)
  · have hf : f_X2_over i x1 x2 = (f_X2_over_7 i x1 x2 (1 : Int32)) := hf.trans (if_neg c_10)
    refine lv_iconst (v := 1) hx hb dX2_over_13 (by decide) ?_
    refine lv_goto (tgt := 18) hx hb dX2_over_14 (by decide) ?_
    exact K_18 (1 : Int32) ls hf (lv_sub hl [0, 1, 2] rfl)
def f_X2_remainder_1 (i : Nat) (x1 : Int64) (x2 : Int64) (v5_1 : Int64) (q7 : Int64) (q10 : Int32) (rec_78 : Int64 → Int32 → Int64) : Int64 := if q10 ≤ 0 then (f_X1_rounded i (f_X1_isNegative i x1) q7 (f_X1_exponent i x2)) else (rec_78 (jlrem (jlshl q7 (jminI q10 (10 : Int32))) v5_1) (q10 + (-10 : Int32)))
def f_X2_remainder_L78 (i : Nat) (x1 : Int64) (x2 : Int64) (v5_1 : Int64) : Nat → Int64 → Int32 → Int64
  | 0, _, _ => 0
  | n + 1, q7, q10 => (f_X2_remainder_1 i x1 x2 v5_1 q7 q10 (f_X2_remainder_L78 i x1 x2 v5_1 n))
def f_X2_remainder_3 (i : Nat) (x1 : Int64) (x2 : Int64) (v5_1 : Int64) (v7_2 : Int64) (v9_3 : Int32) : Int64 := (f_X2_remainder_L78 i x1 x2 v5_1 (v9_3.toInt.toNat + 1) v7_2 v9_3)
def f_X2_remainder_4 (i : Nat) (x1 : Int64) (x2 : Int64) (v5_1 : Int64) : Int64 := if (f_X1_magnitude i x2) ≤ (f_X1_magnitude i x1) then (f_X2_remainder_3 i x1 x2 v5_1 (jlrem (f_X1_significand i x1) v5_1) ((f_X1_exponent i x1) - (f_X1_exponent i x2))) else x1
def f_X2_remainder_5 (i : Nat) (x1 : Int64) (x2 : Int64) (v5_1 : Int64) : Int64 := if (f_X1_isInfinite i x2) = 0 then (f_X2_remainder_4 i x1 x2 v5_1) else x1
def f_X2_remainder_6 (i : Nat) (x1 : Int64) (x2 : Int64) (v5_1 : Int64) : Int64 := if v5_1 = (0 : Int64) then (knan i) else (f_X2_remainder_5 i x1 x2 v5_1)
def f_X2_remainder_7 (i : Nat) (x1 : Int64) (x2 : Int64) (v5_1 : Int64) : Int64 := if (f_X1_isInfinite i x1) = 0 then (f_X2_remainder_6 i x1 x2 v5_1) else (knan i)
def f_X2_remainder (i : Nat) (x1 : Int64) (x2 : Int64) : Int64 := (f_X2_remainder_7 i x1 x2 (f_X1_significand i x2))
def zX2_remainder : List Cond := .code yX2_remainder cX2_remainder 11 (some .long) :: zall
theorem iX2_remainder : MWs yX2_remainder (.code yX2_remainder cX2_remainder 11 (some .long)) := ⟨(zin__r11 (.static yX2_remainder) (List.mem_of_getElem? (i := 21) rfl)), (zin__r7 (.initialized RX2) (List.mem_of_getElem? (i := 12) rfl)), (zin__r11 (.code yX2_remainder cX2_remainder 11 (some .long)) (List.mem_of_getElem? (i := 22) rfl))⟩
set_option maxHeartbeats 4000000 in
set_option maxRecDepth 100000 in
theorem c_X2_remainder (l : Launch) (ad : Nat → Nat) (i : Nat) (h_i : i < 2) (x1 : Int64) (x2 : Int64) : Met l yX2_remainder zX2_remainder ({ frames := 3, cells := 0, slots := 0, locals := 72 }) (va_Pc [.ref (ad i), .long x1, .long x2] (fun U => kU ad U)) (vp_Sl (fun r => r = f_X2_remainder i x1 x2)) 0 0 (fun _ => False) := by
  refine Met.ofW (cc := cX2_remainder) (maxL := 11) (ret := (some .long)) (by decide) rfl ?_
  intro p e s m args below meth c s₁ B hml hv
  obtain ⟨rfl, hk⟩ := hv
  have hx := B.exec
  have hb := B.bytes
  have hr := B.returns
  have hts : ∀ w ∈ zall, w.before _ s = true := fun w h => atoms_spec (ws := zX2_remainder) B.pre w (List.mem_cons_of_mem _ h)
  have hown : s.vm.findClass RX2 = some m.cls := findClass_of_methodNamed B.named
  have hlocks := B.notSynchronized
  have hl := lv_entry ([.ref (ad i), .long x1, .long x2]) (n := 11) (Nat.le_of_ble_eq_true rfl)
  rw [lg_entry_eq]
  generalize (lg_sl ([.ref (ad i), .long x1, .long x2]) ++ List.replicate (11 - (lg_sl ([.ref (ad i), .long x1, .long x2])).length) Slot.unset).toArray = ls at hl ⊢
  have hl : lv_has ls 11 [(0, .ref (ad i)), (1, .long x1), (3, .long x2)] := hl
  have hf : f_X2_remainder i x1 x2 = (f_X2_remainder_7 i x1 x2 (f_X1_significand i x2)) := rfl
  refine lv_aload_n hx hb dX2_remainder_0 rfl (lv_at hl 0 rfl) ?_
  refine lv_lload_n hx hb dX2_remainder_1 rfl (lv_at hl 2 rfl) ?_
  refine vp_callSl (va_Run.run (va_runV (As := [.long x2]) (rest := []) ⟨hx, hb, hml, hown, hts⟩ (c_X1_significand l ad i h_i x2) (cwV 1 hts (gV iX1_significand (zin__r9 (.methodLink RX2 80 yX1_significand) (List.mem_of_getElem? (i := 7) rfl))) rfl rfl rfl (by decide +kernel) ⟨Nat.le_of_ble_eq_true rfl, Nat.le_of_ble_eq_true rfl⟩) ⟨fun a U g mk q => ⟨q.1, kU_bl q.2⟩, (kU_rv hk h_i), fun U hU hW => ⟨rfl, kU_mv hk hU hW⟩⟩ rfl rfl hl.1 rfl (lv_room (Nat.le_of_ble_eq_true rfl)) dX2_remainder_2 ⟨Nat.zero_le _, Nat.zero_le _⟩)) (fun r_2 hr_2 => ?_)
  subst hr_2
  refine lv_topl (fun v5_1 e_v5_1 => ?_)
  have hf : f_X2_remainder i x1 x2 = (f_X2_remainder_7 i x1 x2 v5_1) := hf.trans (congrArg (fun z => (f_X2_remainder_7 i x1 x2 z)) e_v5_1.symm)
  refine lv_lstore (lv' := [(5, .long v5_1), (0, .ref (ad i)), (1, .long x1), (3, .long x2)]) hx hb dX2_remainder_5 hl (by decide) rfl (fun ls hl => ?_)
  refine lv_aload_n hx hb dX2_remainder_7 rfl (lv_at hl 1 rfl) ?_
  refine lv_lload_n hx hb dX2_remainder_8 rfl (lv_at hl 2 rfl) ?_
  refine vp_callSi (va_Run.run (va_runV (As := [.long x1]) (rest := []) ⟨hx, hb, hml, hown, hts⟩ (c_X1_isInfinite l ad i h_i x1) (cwV 1 hts (gV iX1_isInfinite (zin__r9 (.methodLink RX2 74 yX1_isInfinite) (List.mem_of_getElem? (i := 2) rfl))) rfl rfl rfl (by decide +kernel) ⟨Nat.le_of_ble_eq_true rfl, Nat.le_of_ble_eq_true rfl⟩) ⟨fun a U g mk q => ⟨q.1, kU_bl q.2⟩, (kU_rv hk h_i), fun U hU hW => ⟨rfl, kU_mv hk hU hW⟩⟩ rfl rfl hl.1 rfl (lv_room (Nat.le_of_ble_eq_true rfl)) dX2_remainder_9 ⟨Nat.zero_le _, Nat.zero_le _⟩)) (fun r_9 hr_9 => ?_)
  subst hr_9
  refine lv_if_ne (tgt := 22) hx hb dX2_remainder_12 (by decide) (fun c_12 => ?_) (fun c_12 => ?_)
  · have hf : f_X2_remainder i x1 x2 = (knan i) := hf.trans (if_neg c_12)
    refine lv_aload_n hx hb dX2_remainder_22 rfl (lv_at hl 1 rfl) ?_
    refine vk_getf hx hb (kE_nan hk h_i) va_S.rf hown (hts _ (zin__r7 (.fieldLink RX2 21 "ReckonBench$Kind" "nan" "J") (List.mem_of_getElem? (i := 14) rfl))) (fun _ h9 => h9) dX2_remainder_23 ?_
    exact W.lret hx hb hr (fun t ht hW => ⟨_, rfl, hf.symm, ht⟩) (fun q hq => absurd hq List.not_mem_nil) dX2_remainder_26
  · have hf : f_X2_remainder i x1 x2 = (f_X2_remainder_6 i x1 x2 v5_1) := hf.trans (if_pos c_12)
    refine lv_lload hx hb dX2_remainder_15 (lv_at hl 0 rfl) ?_
    refine lv_lconst (v := 0) hx hb dX2_remainder_17 (by decide) ?_
    refine W.lcmp hx hb dX2_remainder_18 ?_
    refine lv_if_ne (tgt := 27) hx hb dX2_remainder_19 (by decide) (fun c_19 => ?_) (fun c_19 => ?_)
    · have c_19 : ¬ (v5_1 = (0 : Int64)) := fun h9 => c_19 ((lg_cmp_eq v5_1 (0 : Int64)).mpr h9)
      have hf : f_X2_remainder i x1 x2 = (f_X2_remainder_5 i x1 x2 v5_1) := hf.trans (if_neg c_19)
      refine lv_aload_n hx hb dX2_remainder_27 rfl (lv_at hl 1 rfl) ?_
      refine lv_lload_n hx hb dX2_remainder_28 rfl (lv_at hl 3 rfl) ?_
      refine vp_callSi (va_Run.run (va_runV (As := [.long x2]) (rest := []) ⟨hx, hb, hml, hown, hts⟩ (c_X1_isInfinite l ad i h_i x2) (cwV 1 hts (gV iX1_isInfinite (zin__r9 (.methodLink RX2 74 yX1_isInfinite) (List.mem_of_getElem? (i := 2) rfl))) rfl rfl rfl (by decide +kernel) ⟨Nat.le_of_ble_eq_true rfl, Nat.le_of_ble_eq_true rfl⟩) ⟨fun a U g mk q => ⟨q.1, kU_bl q.2⟩, (kU_rv hk h_i), fun U hU hW => ⟨rfl, kU_mv hk hU hW⟩⟩ rfl rfl hl.1 rfl (lv_room (Nat.le_of_ble_eq_true rfl)) dX2_remainder_29 ⟨Nat.zero_le _, Nat.zero_le _⟩)) (fun r_29 hr_29 => ?_)
      subst hr_29
      refine lv_if_ne (tgt := 49) hx hb dX2_remainder_32 (by decide) (fun c_32 => ?_) (fun c_32 => ?_)
      · have hf : f_X2_remainder i x1 x2 = x1 := hf.trans (if_neg c_32)
        refine lv_lload_n hx hb dX2_remainder_49 rfl (lv_at hl 2 rfl) ?_
        exact W.lret hx hb hr (fun t ht hW => ⟨_, rfl, hf.symm, ht⟩) (fun q hq => absurd hq List.not_mem_nil) dX2_remainder_50
      · have hf : f_X2_remainder i x1 x2 = (f_X2_remainder_4 i x1 x2 v5_1) := hf.trans (if_pos c_32)
        refine lv_aload_n hx hb dX2_remainder_35 rfl (lv_at hl 1 rfl) ?_
        refine lv_lload_n hx hb dX2_remainder_36 rfl (lv_at hl 2 rfl) ?_
        refine vp_callSl (va_Run.run (va_runV (As := [.long x1]) (rest := []) ⟨hx, hb, hml, hown, hts⟩ (c_X1_magnitude l ad i h_i x1) (cwV 1 hts (gV iX1_magnitude (zin__r7 (.methodLink RX2 25 yX1_magnitude) (List.mem_of_getElem? (i := 19) rfl))) rfl rfl rfl (by decide +kernel) ⟨Nat.le_of_ble_eq_true rfl, Nat.le_of_ble_eq_true rfl⟩) ⟨fun a U g mk q => ⟨q.1, kU_bl q.2⟩, (kU_rv hk h_i), fun U hU hW => ⟨rfl, kU_mv hk hU hW⟩⟩ rfl rfl hl.1 rfl (lv_room (Nat.le_of_ble_eq_true rfl)) dX2_remainder_37 ⟨Nat.zero_le _, Nat.zero_le _⟩)) (fun r_37 hr_37 => ?_)
        subst hr_37
        refine lv_aload_n hx hb dX2_remainder_40 rfl (lv_at hl 1 rfl) ?_
        refine lv_lload_n hx hb dX2_remainder_41 rfl (lv_at hl 3 rfl) ?_
        refine vp_callSl (va_Run.run (va_runV (As := [.long x2]) (rest := [.long (f_X1_magnitude i x1)]) ⟨hx, hb, hml, hown, hts⟩ (c_X1_magnitude l ad i h_i x2) (cwV 1 hts (gV iX1_magnitude (zin__r7 (.methodLink RX2 25 yX1_magnitude) (List.mem_of_getElem? (i := 19) rfl))) rfl rfl rfl (by decide +kernel) ⟨Nat.le_of_ble_eq_true rfl, Nat.le_of_ble_eq_true rfl⟩) ⟨fun a U g mk q => ⟨q.1, kU_bl q.2⟩, (kU_rv hk h_i), fun U hU hW => ⟨rfl, kU_mv hk hU hW⟩⟩ rfl rfl hl.1 rfl (lv_room (Nat.le_of_ble_eq_true rfl)) dX2_remainder_42 ⟨Nat.zero_le _, Nat.zero_le _⟩)) (fun r_42 hr_42 => ?_)
        subst hr_42
        refine W.lcmp hx hb dX2_remainder_45 ?_
        refine lv_if_ge (tgt := 51) hx hb dX2_remainder_46 (by decide) (fun c_46 => ?_) (fun c_46 => ?_)
        · have c_46 : (f_X1_magnitude i x2) ≤ (f_X1_magnitude i x1) := (lg_cmp_ge (f_X1_magnitude i x1) (f_X1_magnitude i x2)).mp c_46
          have hf : f_X2_remainder i x1 x2 = (f_X2_remainder_3 i x1 x2 v5_1 (jlrem (f_X1_significand i x1) v5_1) ((f_X1_exponent i x1) - (f_X1_exponent i x2))) := hf.trans (if_pos c_46)
          refine lv_aload_n hx hb dX2_remainder_51 rfl (lv_at hl 1 rfl) ?_
          refine lv_lload_n hx hb dX2_remainder_52 rfl (lv_at hl 2 rfl) ?_
          refine vp_callSl (va_Run.run (va_runV (As := [.long x1]) (rest := []) ⟨hx, hb, hml, hown, hts⟩ (c_X1_significand l ad i h_i x1) (cwV 1 hts (gV iX1_significand (zin__r9 (.methodLink RX2 80 yX1_significand) (List.mem_of_getElem? (i := 7) rfl))) rfl rfl rfl (by decide +kernel) ⟨Nat.le_of_ble_eq_true rfl, Nat.le_of_ble_eq_true rfl⟩) ⟨fun a U g mk q => ⟨q.1, kU_bl q.2⟩, (kU_rv hk h_i), fun U hU hW => ⟨rfl, kU_mv hk hU hW⟩⟩ rfl rfl hl.1 rfl (lv_room (Nat.le_of_ble_eq_true rfl)) dX2_remainder_53 ⟨Nat.zero_le _, Nat.zero_le _⟩)) (fun r_53 hr_53 => ?_)
          subst hr_53
          refine lv_lload hx hb dX2_remainder_56 (lv_at hl 0 rfl) ?_
          refine lv_lrem hx hb dX2_remainder_58 c_19 ?_
          refine lv_topl (fun v7_2 e_v7_2 => ?_)
          have hf : f_X2_remainder i x1 x2 = (f_X2_remainder_3 i x1 x2 v5_1 v7_2 ((f_X1_exponent i x1) - (f_X1_exponent i x2))) := hf.trans (congrArg (fun z => (f_X2_remainder_3 i x1 x2 v5_1 z ((f_X1_exponent i x1) - (f_X1_exponent i x2)))) e_v7_2.symm)
          refine lv_lstore (lv' := [(7, .long v7_2), (5, .long v5_1), (0, .ref (ad i)), (1, .long x1), (3, .long x2)]) hx hb dX2_remainder_59 hl (by decide) rfl (fun ls hl => ?_)
          refine lv_aload_n hx hb dX2_remainder_61 rfl (lv_at hl 2 rfl) ?_
          refine lv_lload_n hx hb dX2_remainder_62 rfl (lv_at hl 3 rfl) ?_
          refine vp_callSi (va_Run.run (va_runV (As := [.long x1]) (rest := []) ⟨hx, hb, hml, hown, hts⟩ (c_X1_exponent l ad i h_i x1) (cwV 1 hts (gV iX1_exponent (zin__r8 (.methodLink RX2 83 yX1_exponent) (List.mem_of_getElem? (i := 12) rfl))) rfl rfl rfl (by decide +kernel) ⟨Nat.le_of_ble_eq_true rfl, Nat.le_of_ble_eq_true rfl⟩) ⟨fun a U g mk q => ⟨q.1, kU_bl q.2⟩, (kU_rv hk h_i), fun U hU hW => ⟨rfl, kU_mv hk hU hW⟩⟩ rfl rfl hl.1 rfl (lv_room (Nat.le_of_ble_eq_true rfl)) dX2_remainder_63 ⟨Nat.zero_le _, Nat.zero_le _⟩)) (fun r_63 hr_63 => ?_)
          subst hr_63
          refine lv_aload_n hx hb dX2_remainder_66 rfl (lv_at hl 2 rfl) ?_
          refine lv_lload_n hx hb dX2_remainder_67 rfl (lv_at hl 4 rfl) ?_
          refine vp_callSi (va_Run.run (va_runV (As := [.long x2]) (rest := [.int (f_X1_exponent i x1)]) ⟨hx, hb, hml, hown, hts⟩ (c_X1_exponent l ad i h_i x2) (cwV 1 hts (gV iX1_exponent (zin__r8 (.methodLink RX2 83 yX1_exponent) (List.mem_of_getElem? (i := 12) rfl))) rfl rfl rfl (by decide +kernel) ⟨Nat.le_of_ble_eq_true rfl, Nat.le_of_ble_eq_true rfl⟩) ⟨fun a U g mk q => ⟨q.1, kU_bl q.2⟩, (kU_rv hk h_i), fun U hU hW => ⟨rfl, kU_mv hk hU hW⟩⟩ rfl rfl hl.1 rfl (lv_room (Nat.le_of_ble_eq_true rfl)) dX2_remainder_68 ⟨Nat.zero_le _, Nat.zero_le _⟩)) (fun r_68 hr_68 => ?_)
          subst hr_68
          refine lv_isub hx hb dX2_remainder_71 ?_
          refine lv_topi (fun v9_3 e_v9_3 => ?_)
          have hf : f_X2_remainder i x1 x2 = (f_X2_remainder_3 i x1 x2 v5_1 v7_2 v9_3) := hf.trans (congrArg (fun z => (f_X2_remainder_3 i x1 x2 v5_1 v7_2 z)) e_v9_3.symm)
          refine lv_istore (lv' := [(9, .int v9_3), (7, .long v7_2), (5, .long v5_1), (0, .ref (ad i)), (1, .long x1), (3, .long x2)]) hx hb dX2_remainder_72 hl (by decide) rfl (fun ls hl => ?_)
          refine lv_iload hx hb dX2_remainder_74 (lv_at hl 0 rfl) ?_
          refine lv_istore (lv' := [(10, .int v9_3), (9, .int v9_3), (7, .long v7_2), (5, .long v5_1), (0, .ref (ad i)), (1, .long x1), (3, .long x2)]) hx hb dX2_remainder_76 hl (by decide) rfl (fun ls hl => ?_)
          refine W_loop (α := Int64 × Int32) (pcJ := 78) (nL := 11) (fun n v => f_X2_remainder i x1 x2 = f_X2_remainder_L78 i x1 x2 v5_1 n v.1 v.2 ∧ (1 ≤ n ∧ v.2.toInt < n)) (fun v => []) (fun v => [(0, .ref (ad i)), (1, .long x1), (3, .long x2), (5, .long v5_1), (7, .long v.1), (10, .int v.2)]) (fun v hC => ?_) (fun n_78 ih_78 v ls hC hl => ?_) (v9_3.toInt.toNat + 1) (v7_2, v9_3) ls ⟨hf, dec_init⟩ (lv_sub hl [4, 5, 6, 3, 2, 0] rfl)
          · obtain ⟨q7, q10⟩ := v
            have hI : (1 ≤ (0 : Nat) ∧ q10.toInt < (0 : Nat)) := hC.2
            omega
          · obtain ⟨q7, q10⟩ := v
            obtain ⟨hf, hI⟩ : (f_X2_remainder i x1 x2 = f_X2_remainder_L78 i x1 x2 v5_1 (n_78 + 1) q7 q10) ∧ (1 ≤ (Nat.succ n_78) ∧ q10.toInt < (Nat.succ n_78)) := hC
            obtain ⟨rec_78, hrec_78⟩ : ∃ z, z = f_X2_remainder_L78 i x1 x2 v5_1 n_78 := ⟨_, rfl⟩
            have hf : f_X2_remainder i x1 x2 = (f_X2_remainder_1 i x1 x2 v5_1 q7 q10 rec_78) := by rw [hrec_78]; exact hf
            have hl : lv_has ls 11 [(0, .ref (ad i)), (1, .long x1), (3, .long x2), (5, .long v5_1), (7, .long q7), (10, .int q10)] := hl
            refine lv_iload hx hb dX2_remainder_78 (lv_at hl 5 rfl) ?_
            refine lv_if_le (tgt := 104) hx hb dX2_remainder_80 (by decide) (fun c_80 => ?_) (fun c_80 => ?_)
            · have hf : f_X2_remainder i x1 x2 = (f_X1_rounded i (f_X1_isNegative i x1) q7 (f_X1_exponent i x2)) := hf.trans (if_pos c_80)
              refine lv_aload_n hx hb dX2_remainder_104 rfl (lv_at hl 0 rfl) ?_
              refine lv_aload_n hx hb dX2_remainder_105 rfl (lv_at hl 0 rfl) ?_
              refine lv_lload_n hx hb dX2_remainder_106 rfl (lv_at hl 1 rfl) ?_
              refine vp_callSi (va_Run.run (va_runV (As := [.long x1]) (rest := [.ref (ad i)]) ⟨hx, hb, hml, hown, hts⟩ (c_X1_isNegative l ad i h_i x1) (cwV 1 hts (gV iX1_isNegative (zin__r9 (.methodLink RX2 40 yX1_isNegative) (List.mem_of_getElem? (i := 6) rfl))) rfl rfl rfl (by decide +kernel) ⟨Nat.le_of_ble_eq_true rfl, Nat.le_of_ble_eq_true rfl⟩) ⟨fun a U g mk q => ⟨q.1, kU_bl q.2⟩, (kU_rv hk h_i), fun U hU hW => ⟨rfl, kU_mv hk hU hW⟩⟩ rfl rfl hl.1 rfl (lv_room (Nat.le_of_ble_eq_true rfl)) dX2_remainder_107 ⟨Nat.zero_le _, Nat.zero_le _⟩)) (fun r_107 hr_107 => ?_)
              subst hr_107
              refine lv_lload hx hb dX2_remainder_110 (lv_at hl 4 rfl) ?_
              refine lv_aload_n hx hb dX2_remainder_112 rfl (lv_at hl 0 rfl) ?_
              refine lv_lload_n hx hb dX2_remainder_113 rfl (lv_at hl 2 rfl) ?_
              refine vp_callSi (va_Run.run (va_runV (As := [.long x2]) (rest := [.long q7, .int (f_X1_isNegative i x1), .ref (ad i)]) ⟨hx, hb, hml, hown, hts⟩ (c_X1_exponent l ad i h_i x2) (cwV 1 hts (gV iX1_exponent (zin__r8 (.methodLink RX2 83 yX1_exponent) (List.mem_of_getElem? (i := 12) rfl))) rfl rfl rfl (by decide +kernel) ⟨Nat.le_of_ble_eq_true rfl, Nat.le_of_ble_eq_true rfl⟩) ⟨fun a U g mk q => ⟨q.1, kU_bl q.2⟩, (kU_rv hk h_i), fun U hU hW => ⟨rfl, kU_mv hk hU hW⟩⟩ rfl rfl hl.1 rfl (lv_room (Nat.le_of_ble_eq_true rfl)) dX2_remainder_114 ⟨Nat.zero_le _, Nat.zero_le _⟩)) (fun r_114 hr_114 => ?_)
              subst hr_114
              refine vp_callSl (va_Run.run (va_runV (As := [.int (f_X1_isNegative i x1), .long q7, .int (f_X1_exponent i x2)]) (rest := []) ⟨hx, hb, hml, hown, hts⟩ (c_X1_rounded l ad i h_i (f_X1_isNegative i x1) q7 (f_X1_exponent i x2)) (cwV 3 hts (gV iX1_rounded (zin__r9 (.methodLink RX2 70 yX1_rounded) (List.mem_of_getElem? (i := 11) rfl))) rfl rfl rfl (by decide +kernel) ⟨Nat.le_of_ble_eq_true rfl, Nat.le_of_ble_eq_true rfl⟩) ⟨fun a U g mk q => ⟨q.1, kU_bl q.2⟩, (kU_rv hk h_i), fun U hU hW => ⟨rfl, kU_mv hk hU hW⟩⟩ rfl rfl hl.1 rfl (lv_room (Nat.le_of_ble_eq_true rfl)) dX2_remainder_117 ⟨Nat.zero_le _, Nat.zero_le _⟩)) (fun r_117 hr_117 => ?_)
              subst hr_117
              exact W.lret hx hb hr (fun t ht hW => ⟨_, rfl, hf.symm, ht⟩) (fun q hq => absurd hq List.not_mem_nil) dX2_remainder_120
            · have hf : f_X2_remainder i x1 x2 = (rec_78 (jlrem (jlshl q7 (jminI q10 (10 : Int32))) v5_1) (q10 + (-10 : Int32))) := hf.trans (if_neg c_80)
              refine lv_lload hx hb dX2_remainder_83 (lv_at hl 4 rfl) ?_
              refine lv_iload hx hb dX2_remainder_85 (lv_at hl 5 rfl) ?_
              refine lv_bipush (v := 10) hx hb dX2_remainder_87 (by decide) ?_
              refine va_mmin hx hb (hml.trans hl.1.symm) hown (hts _ (zin__r8 (.methodLink RX2 87 Lib.Math.min.name) (List.mem_of_getElem? (i := 8) rfl))) (hts _ (zin__r8 (.static Lib.Math.min.name) (List.mem_of_getElem? (i := 9) rfl))) (hts _ (zin__r8 (.initialized "java/lang/Math") (List.mem_of_getElem? (i := 10) rfl))) (hts _ (zin__r8 (.code Lib.Math.min.name Lib.Math.min.code 2 (some .int)) (List.mem_of_getElem? (i := 11) rfl))) (Nat.le_of_ble_eq_true rfl) (Nat.le_of_ble_eq_true rfl) (Nat.zero_le _) (Nat.zero_le _) dX2_remainder_89 ?_
              refine lv_lshl (v := (jlshl q7 (jminI q10 (10 : Int32)))) hx hb dX2_remainder_92 rfl ?_
              refine lv_lload hx hb dX2_remainder_93 (lv_at hl 3 rfl) ?_
              refine lv_lrem hx hb dX2_remainder_95 c_19 ?_
              refine lv_topl (fun v7_4 e_v7_4 => ?_)
              have hf : f_X2_remainder i x1 x2 = (rec_78 v7_4 (q10 + (-10 : Int32))) := hf.trans (congrArg (fun z => (rec_78 z (q10 + (-10 : Int32)))) e_v7_4.symm)
              refine lv_lstore (lv' := [(7, .long v7_4), (0, .ref (ad i)), (1, .long x1), (3, .long x2), (5, .long v5_1), (10, .int q10)]) hx hb dX2_remainder_96 hl (by decide) rfl (fun ls hl => ?_)
              obtain ⟨v10_5, e_v10_5⟩ : ∃ y : Int32, y = (q10 + (-10 : Int32)) := ⟨_, rfl⟩
              refine lv_iinc (v := v10_5) (lv' := [(10, .int v10_5), (7, .long v7_4), (0, .ref (ad i)), (1, .long x1), (3, .long x2), (5, .long v5_1)]) hx hb dX2_remainder_98 hl (k := 5) rfl (by rw [e_v10_5]; rfl) (by decide) rfl (fun ls hl => ?_)
              have hf : f_X2_remainder i x1 x2 = (rec_78 v7_4 v10_5) := hf.trans (congrArg (fun z => (rec_78 v7_4 z)) e_v10_5.symm)
              refine lv_goto (tgt := 78) hx hb dX2_remainder_101 (by decide) ?_
              exact ih_78 (v7_4, v10_5) ls ⟨hf.trans (congrFun (congrFun hrec_78 _) _), (by rw [e_v10_5]; exact dec10_step hI c_80)⟩ (lv_sub hl [2, 3, 4, 5, 1, 0] rfl)
        · have c_46 : ¬ ((f_X1_magnitude i x2) ≤ (f_X1_magnitude i x1)) := fun h9 => c_46 ((lg_cmp_ge (f_X1_magnitude i x1) (f_X1_magnitude i x2)).mpr h9)
          have hf : f_X2_remainder i x1 x2 = x1 := hf.trans (if_neg c_46)
          refine lv_lload_n hx hb dX2_remainder_49 rfl (lv_at hl 2 rfl) ?_
          exact W.lret hx hb hr (fun t ht hW => ⟨_, rfl, hf.symm, ht⟩) (fun q hq => absurd hq List.not_mem_nil) dX2_remainder_50
    · have c_19 : v5_1 = (0 : Int64) := (lg_cmp_eq v5_1 (0 : Int64)).mp c_19
      have hf : f_X2_remainder i x1 x2 = (knan i) := hf.trans (if_pos c_19)
      refine lv_aload_n hx hb dX2_remainder_22 rfl (lv_at hl 1 rfl) ?_
      refine vk_getf hx hb (kE_nan hk h_i) va_S.rf hown (hts _ (zin__r7 (.fieldLink RX2 21 "ReckonBench$Kind" "nan" "J") (List.mem_of_getElem? (i := 14) rfl))) (fun _ h9 => h9) dX2_remainder_23 ?_
      exact W.lret hx hb hr (fun t ht hW => ⟨_, rfl, hf.symm, ht⟩) (fun q hq => absurd hq List.not_mem_nil) dX2_remainder_26
def f_X2_acted_1 (i : Nat) (x2 : Int64) : Int64 := if (f_X1_magnitude i x2) = (0 : Int64) then x2 else (f_X1_signed i (f_X1_isNegative i x2) (f_X1_one i))
def f_X2_acted_2 (i : Nat) (x1 : Int32) (x2 : Int64) (x3 : Int64) : Int64 := if x1 = (12 : Int32) then (f_X2_remainder i x2 x3) else (f_X1_opposite i x2)
def f_X2_acted_3 (i : Nat) (x1 : Int32) (x2 : Int64) (x3 : Int64) : Int64 := if x1 = (11 : Int32) then (f_X2_over i x2 x3) else (f_X2_acted_2 i x1 x2 x3)
def f_X2_acted_4 (i : Nat) (x1 : Int32) (x2 : Int64) (x3 : Int64) : Int64 := if x1 = (10 : Int32) then (f_X2_times i x2 x3) else (f_X2_acted_3 i x1 x2 x3)
def f_X2_acted_5 (i : Nat) (x1 : Int32) (x2 : Int64) (x3 : Int64) : Int64 := if x1 = (9 : Int32) then (f_X2_minus i x2 x3) else (f_X2_acted_4 i x1 x2 x3)
def f_X2_acted_6 (i : Nat) (x1 : Int32) (x2 : Int64) (x3 : Int64) : Int64 := if x1 = (8 : Int32) then (f_X2_plus i x2 x3) else (f_X2_acted_5 i x1 x2 x3)
def f_X2_acted_7 (i : Nat) (x1 : Int32) (x2 : Int64) (x3 : Int64) : Int64 := if x1 = (7 : Int32) then (f_X1_signed i (f_X1_isNegative i x3) (f_X1_magnitude i x2)) else (f_X2_acted_6 i x1 x2 x3)
def f_X2_acted_8 (i : Nat) (x1 : Int32) (x2 : Int64) (x3 : Int64) : Int64 := if x1 = (6 : Int32) then (f_X2_acted_1 i x2) else (f_X2_acted_7 i x1 x2 x3)
def f_X2_acted_9 (i : Nat) (x1 : Int32) (x2 : Int64) (x3 : Int64) : Int64 := if x1 = (5 : Int32) then (f_X2_toWhole i x2 x1) else (f_X2_acted_8 i x1 x2 x3)
def f_X2_acted_10 (i : Nat) (x1 : Int32) (x2 : Int64) (x3 : Int64) : Int64 := if x1 = (4 : Int32) then (f_X2_toWhole i x2 x1) else (f_X2_acted_9 i x1 x2 x3)
def f_X2_acted_11 (i : Nat) (x1 : Int32) (x2 : Int64) (x3 : Int64) : Int64 := if x1 = (3 : Int32) then (f_X2_toWhole i x2 x1) else (f_X2_acted_10 i x1 x2 x3)
def f_X2_acted_12 (i : Nat) (x1 : Int32) (x2 : Int64) (x3 : Int64) : Int64 := if x1 = (2 : Int32) then (f_X1_lesser i x2 x3) else (f_X2_acted_11 i x1 x2 x3)
def f_X2_acted_13 (i : Nat) (x1 : Int32) (x2 : Int64) (x3 : Int64) : Int64 := if x1 = (1 : Int32) then (f_X1_greater i x2 x3) else (f_X2_acted_12 i x1 x2 x3)
def f_X2_acted_14 (i : Nat) (x1 : Int32) (x2 : Int64) (x3 : Int64) : Int64 := if x1 = (0 : Int32) then (f_X1_magnitude i x2) else (f_X2_acted_13 i x1 x2 x3)
def f_X2_acted_15 (i : Nat) (x1 : Int32) (x2 : Int64) (x3 : Int64) : Int64 := if (f_X1_isNan i x3) = 0 then (f_X2_acted_14 i x1 x2 x3) else (knan i)
def f_X2_acted_16 (i : Nat) (x1 : Int32) (x2 : Int64) (x3 : Int64) : Int64 := if (f_X2_namesSecond x1) = 0 then (f_X2_acted_14 i x1 x2 x3) else (f_X2_acted_15 i x1 x2 x3)
def f_X2_acted_17 (i : Nat) (x1 : Int32) (x2 : Int64) (x3 : Int64) : Int64 := if (f_X1_isNan i x2) = 0 then (f_X2_acted_16 i x1 x2 x3) else (knan i)
def f_X2_acted (i : Nat) (x1 : Int32) (x2 : Int64) (x3 : Int64) : Int64 := (f_X2_acted_17 i x1 x2 x3)
def zX2_acted : List Cond := .code yX2_acted cX2_acted 6 (some .long) :: zall
theorem iX2_acted : MWs yX2_acted (.code yX2_acted cX2_acted 6 (some .long)) := ⟨(zin__r7 (.static yX2_acted) (List.mem_of_getElem? (i := 11) rfl)), (zin__r7 (.initialized RX2) (List.mem_of_getElem? (i := 12) rfl)), (zin__r7 (.code yX2_acted cX2_acted 6 (some .long)) (List.mem_of_getElem? (i := 13) rfl))⟩
set_option maxHeartbeats 4000000 in
set_option maxRecDepth 100000 in
theorem c_X2_acted (l : Launch) (ad : Nat → Nat) (i : Nat) (h_i : i < 2) (x1 : Int32) (x2 : Int64) (x3 : Int64) : Met l yX2_acted zX2_acted ({ frames := 6, cells := 0, slots := 0, locals := 156 }) (va_Pc [.ref (ad i), .int x1, .long x2, .long x3] (fun U => kU ad U)) (vp_Sl (fun r => r = f_X2_acted i x1 x2 x3)) 0 0 (fun _ => False) := by
  refine Met.ofW (cc := cX2_acted) (maxL := 6) (ret := (some .long)) (by decide) rfl ?_
  intro p e s m args below meth c s₁ B hml hv
  obtain ⟨rfl, hk⟩ := hv
  have hx := B.exec
  have hb := B.bytes
  have hr := B.returns
  have hts : ∀ w ∈ zall, w.before _ s = true := fun w h => atoms_spec (ws := zX2_acted) B.pre w (List.mem_cons_of_mem _ h)
  have hown : s.vm.findClass RX2 = some m.cls := findClass_of_methodNamed B.named
  have hlocks := B.notSynchronized
  have hl := lv_entry ([.ref (ad i), .int x1, .long x2, .long x3]) (n := 6) (Nat.le_of_ble_eq_true rfl)
  rw [lg_entry_eq]
  generalize (lg_sl ([.ref (ad i), .int x1, .long x2, .long x3]) ++ List.replicate (6 - (lg_sl ([.ref (ad i), .int x1, .long x2, .long x3])).length) Slot.unset).toArray = ls at hl ⊢
  have hl : lv_has ls 6 [(0, .ref (ad i)), (1, .int x1), (2, .long x2), (4, .long x3)] := hl
  have hf : f_X2_acted i x1 x2 x3 = (f_X2_acted_17 i x1 x2 x3) := rfl
  refine lv_aload_n hx hb dX2_acted_0 rfl (lv_at hl 0 rfl) ?_
  refine lv_lload_n hx hb dX2_acted_1 rfl (lv_at hl 2 rfl) ?_
  refine vp_callSi (va_Run.run (va_runV (As := [.long x2]) (rest := []) ⟨hx, hb, hml, hown, hts⟩ (c_X1_isNan l ad i h_i x2) (cwV 1 hts (gV iX1_isNan (zin__r7 (.methodLink RX2 11 yX1_isNan) (List.mem_of_getElem? (i := 15) rfl))) rfl rfl rfl (by decide +kernel) ⟨Nat.le_of_ble_eq_true rfl, Nat.le_of_ble_eq_true rfl⟩) ⟨fun a U g mk q => ⟨q.1, kU_bl q.2⟩, (kU_rv hk h_i), fun U hU hW => ⟨rfl, kU_mv hk hU hW⟩⟩ rfl rfl hl.1 rfl (lv_room (Nat.le_of_ble_eq_true rfl)) dX2_acted_2 ⟨Nat.zero_le _, Nat.zero_le _⟩)) (fun r_2 hr_2 => ?_)
  subst hr_2
  refine lv_if_ne (tgt := 24) hx hb dX2_acted_5 (by decide) (fun c_5 => ?_) (fun c_5 => ?_)
  · have hf : f_X2_acted i x1 x2 x3 = (knan i) := hf.trans (if_neg c_5)
    refine lv_aload_n hx hb dX2_acted_24 rfl (lv_at hl 0 rfl) ?_
    refine vk_getf hx hb (kE_nan hk h_i) va_S.rf hown (hts _ (zin__r7 (.fieldLink RX2 21 "ReckonBench$Kind" "nan" "J") (List.mem_of_getElem? (i := 14) rfl))) (fun _ h9 => h9) dX2_acted_25 ?_
    exact W.lret hx hb hr (fun t ht hW => ⟨_, rfl, hf.symm, ht⟩) (fun q hq => absurd hq List.not_mem_nil) dX2_acted_28
  · have hf : f_X2_acted i x1 x2 x3 = (f_X2_acted_16 i x1 x2 x3) := hf.trans (if_pos c_5)
    refine lv_iload_n hx hb dX2_acted_8 rfl (lv_at hl 1 rfl) ?_
    refine vp_callSi (va_Run.run (va_runS (As := [.int x1]) (rest := []) ⟨hx, hb, hml, hown, hts⟩ (c_X2_namesSecond l  x1) (va_cwS 1 hts (gS iX2_namesSecond (zin__r7 (.methodLink RX2 17 yX2_namesSecond) (List.mem_of_getElem? (i := 16) rfl))) rfl rfl rfl (by decide +kernel) ⟨Nat.le_of_ble_eq_true rfl, Nat.le_of_ble_eq_true rfl⟩) ⟨fun a U g mk q => ⟨q.1, trivial⟩, fun U hU hW => ⟨rfl, trivial⟩⟩ rfl rfl hl.1 rfl (lv_room (Nat.le_of_ble_eq_true rfl)) dX2_acted_9 ⟨Nat.zero_le _, Nat.zero_le _⟩)) (fun r_9 hr_9 => ?_)
    subst hr_9
    refine W_cut (α := Unit) (pcJ := 29) (nL := 6) (fun v => f_X2_acted i x1 x2 x3 = (f_X2_acted_14 i x1 x2 x3)) (fun v => []) (fun v => [(0, .ref (ad i)), (1, .int x1), (2, .long x2), (4, .long x3)]) (fun v ls hf hl => ?_) (fun K_29 => ?_)
    · have hf : f_X2_acted i x1 x2 x3 = (f_X2_acted_14 i x1 x2 x3) := hf
      have hl : lv_has ls 6 [(0, .ref (ad i)), (1, .int x1), (2, .long x2), (4, .long x3)] := hl
      refine lv_iload_n hx hb dX2_acted_29 rfl (lv_at hl 1 rfl) ?_
      refine W_cut (α := Unit) (pcJ := 118) (nL := 6) (fun v => f_X2_acted i x1 x2 x3 = (f_X2_toWhole i x2 x1)) (fun v => []) (fun v => [(0, .ref (ad i)), (1, .int x1), (2, .long x2)]) (fun v ls hf hl => ?_) (fun K_118 => ?_)
      · have hf : f_X2_acted i x1 x2 x3 = (f_X2_toWhole i x2 x1) := hf
        have hl : lv_has ls 6 [(0, .ref (ad i)), (1, .int x1), (2, .long x2)] := hl
        refine lv_aload_n hx hb dX2_acted_118 rfl (lv_at hl 0 rfl) ?_
        refine lv_lload_n hx hb dX2_acted_119 rfl (lv_at hl 2 rfl) ?_
        refine lv_iload_n hx hb dX2_acted_120 rfl (lv_at hl 1 rfl) ?_
        refine vp_callSl (va_Run.run (va_runS (As := [.ref (ad i), .long x2, .int x1]) (rest := []) ⟨hx, hb, hml, hown, hts⟩ (c_X2_toWhole l ad i h_i x2 x1) (va_cwS 3 hts (gS iX2_toWhole (zin__r8 (.methodLink RX2 36 yX2_toWhole) (List.mem_of_getElem? (i := 5) rfl))) rfl rfl rfl (by decide +kernel) ⟨Nat.le_of_ble_eq_true rfl, Nat.le_of_ble_eq_true rfl⟩) ⟨fun a U g mk q => ⟨q.1, kU_bl q.2⟩, fun U hU hW => ⟨rfl, kU_mv hk hU hW⟩⟩ rfl rfl hl.1 rfl (lv_room (Nat.le_of_ble_eq_true rfl)) dX2_acted_121 ⟨Nat.zero_le _, Nat.zero_le _⟩)) (fun r_121 hr_121 => ?_)
        subst hr_121
        exact W.lret hx hb hr (fun t ht hW => ⟨_, rfl, hf.symm, ht⟩) (fun q hq => absurd hq List.not_mem_nil) dX2_acted_124
      rcases Decidable.em (x1 = (0 : Int32)) with c_30_0 | c_30_0
      · have hf : f_X2_acted i x1 x2 x3 = (f_X1_magnitude i x2) := hf.trans (if_pos c_30_0)
        refine lv_tableIn (tgt := 96) (off := 66) hx hb dX2_acted_30 (by rw [c_30_0]; decide) (by rw [c_30_0]; decide) (by rw [c_30_0]; rfl) (by decide) ?_
        refine lv_aload_n hx hb dX2_acted_96 rfl (lv_at hl 0 rfl) ?_
        refine lv_lload_n hx hb dX2_acted_97 rfl (lv_at hl 2 rfl) ?_
        refine vp_callSl (va_Run.run (va_runV (As := [.long x2]) (rest := []) ⟨hx, hb, hml, hown, hts⟩ (c_X1_magnitude l ad i h_i x2) (cwV 1 hts (gV iX1_magnitude (zin__r7 (.methodLink RX2 25 yX1_magnitude) (List.mem_of_getElem? (i := 19) rfl))) rfl rfl rfl (by decide +kernel) ⟨Nat.le_of_ble_eq_true rfl, Nat.le_of_ble_eq_true rfl⟩) ⟨fun a U g mk q => ⟨q.1, kU_bl q.2⟩, (kU_rv hk h_i), fun U hU hW => ⟨rfl, kU_mv hk hU hW⟩⟩ rfl rfl hl.1 rfl (lv_room (Nat.le_of_ble_eq_true rfl)) dX2_acted_98 ⟨Nat.zero_le _, Nat.zero_le _⟩)) (fun r_98 hr_98 => ?_)
        subst hr_98
        exact W.lret hx hb hr (fun t ht hW => ⟨_, rfl, hf.symm, ht⟩) (fun q hq => absurd hq List.not_mem_nil) dX2_acted_101
      have hf : f_X2_acted i x1 x2 x3 = (f_X2_acted_13 i x1 x2 x3) := hf.trans (if_neg c_30_0)
      rcases Decidable.em (x1 = (1 : Int32)) with c_30_1 | c_30_1
      · have hf : f_X2_acted i x1 x2 x3 = (f_X1_greater i x2 x3) := hf.trans (if_pos c_30_1)
        refine lv_tableIn (tgt := 102) (off := 72) hx hb dX2_acted_30 (by rw [c_30_1]; decide) (by rw [c_30_1]; decide) (by rw [c_30_1]; rfl) (by decide) ?_
        refine lv_aload_n hx hb dX2_acted_102 rfl (lv_at hl 0 rfl) ?_
        refine lv_lload_n hx hb dX2_acted_103 rfl (lv_at hl 2 rfl) ?_
        refine lv_lload hx hb dX2_acted_104 (lv_at hl 3 rfl) ?_
        refine vp_callSl (va_Run.run (va_runV (As := [.long x2, .long x3]) (rest := []) ⟨hx, hb, hml, hown, hts⟩ (c_X1_greater l ad i h_i x2 x3) (cwV 2 hts (gV iX1_greater (zin__r7 (.methodLink RX2 29 yX1_greater) (List.mem_of_getElem? (i := 20) rfl))) rfl rfl rfl (by decide +kernel) ⟨Nat.le_of_ble_eq_true rfl, Nat.le_of_ble_eq_true rfl⟩) ⟨fun a U g mk q => ⟨q.1, kU_bl q.2⟩, (kU_rv hk h_i), fun U hU hW => ⟨rfl, kU_mv hk hU hW⟩⟩ rfl rfl hl.1 rfl (lv_room (Nat.le_of_ble_eq_true rfl)) dX2_acted_106 ⟨Nat.zero_le _, Nat.zero_le _⟩)) (fun r_106 hr_106 => ?_)
        subst hr_106
        exact W.lret hx hb hr (fun t ht hW => ⟨_, rfl, hf.symm, ht⟩) (fun q hq => absurd hq List.not_mem_nil) dX2_acted_109
      have hf : f_X2_acted i x1 x2 x3 = (f_X2_acted_12 i x1 x2 x3) := hf.trans (if_neg c_30_1)
      rcases Decidable.em (x1 = (2 : Int32)) with c_30_2 | c_30_2
      · have hf : f_X2_acted i x1 x2 x3 = (f_X1_lesser i x2 x3) := hf.trans (if_pos c_30_2)
        refine lv_tableIn (tgt := 110) (off := 80) hx hb dX2_acted_30 (by rw [c_30_2]; decide) (by rw [c_30_2]; decide) (by rw [c_30_2]; rfl) (by decide) ?_
        refine lv_aload_n hx hb dX2_acted_110 rfl (lv_at hl 0 rfl) ?_
        refine lv_lload_n hx hb dX2_acted_111 rfl (lv_at hl 2 rfl) ?_
        refine lv_lload hx hb dX2_acted_112 (lv_at hl 3 rfl) ?_
        refine vp_callSl (va_Run.run (va_runV (As := [.long x2, .long x3]) (rest := []) ⟨hx, hb, hml, hown, hts⟩ (c_X1_lesser l ad i h_i x2 x3) (cwV 2 hts (gV iX1_lesser (zin__r8 (.methodLink RX2 33 yX1_lesser) (List.mem_of_getElem? (i := 1) rfl))) rfl rfl rfl (by decide +kernel) ⟨Nat.le_of_ble_eq_true rfl, Nat.le_of_ble_eq_true rfl⟩) ⟨fun a U g mk q => ⟨q.1, kU_bl q.2⟩, (kU_rv hk h_i), fun U hU hW => ⟨rfl, kU_mv hk hU hW⟩⟩ rfl rfl hl.1 rfl (lv_room (Nat.le_of_ble_eq_true rfl)) dX2_acted_114 ⟨Nat.zero_le _, Nat.zero_le _⟩)) (fun r_114 hr_114 => ?_)
        subst hr_114
        exact W.lret hx hb hr (fun t ht hW => ⟨_, rfl, hf.symm, ht⟩) (fun q hq => absurd hq List.not_mem_nil) dX2_acted_117
      have hf : f_X2_acted i x1 x2 x3 = (f_X2_acted_11 i x1 x2 x3) := hf.trans (if_neg c_30_2)
      rcases Decidable.em (x1 = (3 : Int32)) with c_30_3 | c_30_3
      · have hf : f_X2_acted i x1 x2 x3 = (f_X2_toWhole i x2 x1) := hf.trans (if_pos c_30_3)
        refine lv_tableIn (tgt := 118) (off := 88) hx hb dX2_acted_30 (by rw [c_30_3]; decide) (by rw [c_30_3]; decide) (by rw [c_30_3]; rfl) (by decide) ?_
        exact K_118 () ls hf (lv_sub hl [0, 1, 2] rfl)
      have hf : f_X2_acted i x1 x2 x3 = (f_X2_acted_10 i x1 x2 x3) := hf.trans (if_neg c_30_3)
      rcases Decidable.em (x1 = (4 : Int32)) with c_30_4 | c_30_4
      · have hf : f_X2_acted i x1 x2 x3 = (f_X2_toWhole i x2 x1) := hf.trans (if_pos c_30_4)
        refine lv_tableIn (tgt := 118) (off := 88) hx hb dX2_acted_30 (by rw [c_30_4]; decide) (by rw [c_30_4]; decide) (by rw [c_30_4]; rfl) (by decide) ?_
        exact K_118 () ls hf (lv_sub hl [0, 1, 2] rfl)
      have hf : f_X2_acted i x1 x2 x3 = (f_X2_acted_9 i x1 x2 x3) := hf.trans (if_neg c_30_4)
      rcases Decidable.em (x1 = (5 : Int32)) with c_30_5 | c_30_5
      · have hf : f_X2_acted i x1 x2 x3 = (f_X2_toWhole i x2 x1) := hf.trans (if_pos c_30_5)
        refine lv_tableIn (tgt := 118) (off := 88) hx hb dX2_acted_30 (by rw [c_30_5]; decide) (by rw [c_30_5]; decide) (by rw [c_30_5]; rfl) (by decide) ?_
        exact K_118 () ls hf (lv_sub hl [0, 1, 2] rfl)
      have hf : f_X2_acted i x1 x2 x3 = (f_X2_acted_8 i x1 x2 x3) := hf.trans (if_neg c_30_5)
      rcases Decidable.em (x1 = (6 : Int32)) with c_30_6 | c_30_6
      · have hf : f_X2_acted i x1 x2 x3 = (f_X2_acted_1 i x2) := hf.trans (if_pos c_30_6)
        refine lv_tableIn (tgt := 125) (off := 95) hx hb dX2_acted_30 (by rw [c_30_6]; decide) (by rw [c_30_6]; decide) (by rw [c_30_6]; rfl) (by decide) ?_
        refine lv_aload_n hx hb dX2_acted_125 rfl (lv_at hl 0 rfl) ?_
        refine lv_lload_n hx hb dX2_acted_126 rfl (lv_at hl 2 rfl) ?_
        refine vp_callSl (va_Run.run (va_runV (As := [.long x2]) (rest := []) ⟨hx, hb, hml, hown, hts⟩ (c_X1_magnitude l ad i h_i x2) (cwV 1 hts (gV iX1_magnitude (zin__r7 (.methodLink RX2 25 yX1_magnitude) (List.mem_of_getElem? (i := 19) rfl))) rfl rfl rfl (by decide +kernel) ⟨Nat.le_of_ble_eq_true rfl, Nat.le_of_ble_eq_true rfl⟩) ⟨fun a U g mk q => ⟨q.1, kU_bl q.2⟩, (kU_rv hk h_i), fun U hU hW => ⟨rfl, kU_mv hk hU hW⟩⟩ rfl rfl hl.1 rfl (lv_room (Nat.le_of_ble_eq_true rfl)) dX2_acted_127 ⟨Nat.zero_le _, Nat.zero_le _⟩)) (fun r_127 hr_127 => ?_)
        subst hr_127
        refine lv_lconst (v := 0) hx hb dX2_acted_130 (by decide) ?_
        refine W.lcmp hx hb dX2_acted_131 ?_
        refine lv_if_ne (tgt := 139) hx hb dX2_acted_132 (by decide) (fun c_132 => ?_) (fun c_132 => ?_)
        · have c_132 : ¬ ((f_X1_magnitude i x2) = (0 : Int64)) := fun h9 => c_132 ((lg_cmp_eq (f_X1_magnitude i x2) (0 : Int64)).mpr h9)
          have hf : f_X2_acted i x1 x2 x3 = (f_X1_signed i (f_X1_isNegative i x2) (f_X1_one i)) := hf.trans (if_neg c_132)
          refine lv_aload_n hx hb dX2_acted_139 rfl (lv_at hl 0 rfl) ?_
          refine lv_aload_n hx hb dX2_acted_140 rfl (lv_at hl 0 rfl) ?_
          refine lv_lload_n hx hb dX2_acted_141 rfl (lv_at hl 2 rfl) ?_
          refine vp_callSi (va_Run.run (va_runV (As := [.long x2]) (rest := [.ref (ad i)]) ⟨hx, hb, hml, hown, hts⟩ (c_X1_isNegative l ad i h_i x2) (cwV 1 hts (gV iX1_isNegative (zin__r9 (.methodLink RX2 40 yX1_isNegative) (List.mem_of_getElem? (i := 6) rfl))) rfl rfl rfl (by decide +kernel) ⟨Nat.le_of_ble_eq_true rfl, Nat.le_of_ble_eq_true rfl⟩) ⟨fun a U g mk q => ⟨q.1, kU_bl q.2⟩, (kU_rv hk h_i), fun U hU hW => ⟨rfl, kU_mv hk hU hW⟩⟩ rfl rfl hl.1 rfl (lv_room (Nat.le_of_ble_eq_true rfl)) dX2_acted_142 ⟨Nat.zero_le _, Nat.zero_le _⟩)) (fun r_142 hr_142 => ?_)
          subst hr_142
          refine lv_aload_n hx hb dX2_acted_145 rfl (lv_at hl 0 rfl) ?_
          refine vp_callSl (va_Run.run (va_runV (As := []) (rest := [.int (f_X1_isNegative i x2), .ref (ad i)]) ⟨hx, hb, hml, hown, hts⟩ (c_X1_one l ad i h_i) (cwV 0 hts (gV iX1_one (zin__r10 (.methodLink RX2 43 yX1_one) (List.mem_of_getElem? (i := 7) rfl))) rfl rfl rfl (by decide +kernel) ⟨Nat.le_of_ble_eq_true rfl, Nat.le_of_ble_eq_true rfl⟩) ⟨fun a U g mk q => ⟨q.1, kU_bl q.2⟩, (kU_rv hk h_i), fun U hU hW => ⟨rfl, kU_mv hk hU hW⟩⟩ rfl rfl hl.1 rfl (lv_room (Nat.le_of_ble_eq_true rfl)) dX2_acted_146 ⟨Nat.zero_le _, Nat.zero_le _⟩)) (fun r_146 hr_146 => ?_)
          subst hr_146
          refine vp_callSl (va_Run.run (va_runV (As := [.int (f_X1_isNegative i x2), .long (f_X1_one i)]) (rest := []) ⟨hx, hb, hml, hown, hts⟩ (c_X1_signed l ad i h_i (f_X1_isNegative i x2) (f_X1_one i)) (cwV 2 hts (gV iX1_signed (zin__r10 (.methodLink RX2 47 yX1_signed) (List.mem_of_getElem? (i := 11) rfl))) rfl rfl rfl (by decide +kernel) ⟨Nat.le_of_ble_eq_true rfl, Nat.le_of_ble_eq_true rfl⟩) ⟨fun a U g mk q => ⟨q.1, kU_bl q.2⟩, (kU_rv hk h_i), fun U hU hW => ⟨rfl, kU_mv hk hU hW⟩⟩ rfl rfl hl.1 rfl (lv_room (Nat.le_of_ble_eq_true rfl)) dX2_acted_149 ⟨Nat.zero_le _, Nat.zero_le _⟩)) (fun r_149 hr_149 => ?_)
          subst hr_149
          exact W.lret hx hb hr (fun t ht hW => ⟨_, rfl, hf.symm, ht⟩) (fun q hq => absurd hq List.not_mem_nil) dX2_acted_152
        · have c_132 : (f_X1_magnitude i x2) = (0 : Int64) := (lg_cmp_eq (f_X1_magnitude i x2) (0 : Int64)).mp c_132
          have hf : f_X2_acted i x1 x2 x3 = x2 := hf.trans (if_pos c_132)
          refine lv_lload_n hx hb dX2_acted_135 rfl (lv_at hl 2 rfl) ?_
          refine lv_goto (tgt := 152) hx hb dX2_acted_136 (by decide) ?_
          exact W.lret hx hb hr (fun t ht hW => ⟨_, rfl, hf.symm, ht⟩) (fun q hq => absurd hq List.not_mem_nil) dX2_acted_152
      have hf : f_X2_acted i x1 x2 x3 = (f_X2_acted_7 i x1 x2 x3) := hf.trans (if_neg c_30_6)
      rcases Decidable.em (x1 = (7 : Int32)) with c_30_7 | c_30_7
      · have hf : f_X2_acted i x1 x2 x3 = (f_X1_signed i (f_X1_isNegative i x3) (f_X1_magnitude i x2)) := hf.trans (if_pos c_30_7)
        refine lv_tableIn (tgt := 153) (off := 123) hx hb dX2_acted_30 (by rw [c_30_7]; decide) (by rw [c_30_7]; decide) (by rw [c_30_7]; rfl) (by decide) ?_
        refine lv_aload_n hx hb dX2_acted_153 rfl (lv_at hl 0 rfl) ?_
        refine lv_aload_n hx hb dX2_acted_154 rfl (lv_at hl 0 rfl) ?_
        refine lv_lload hx hb dX2_acted_155 (lv_at hl 3 rfl) ?_
        refine vp_callSi (va_Run.run (va_runV (As := [.long x3]) (rest := [.ref (ad i)]) ⟨hx, hb, hml, hown, hts⟩ (c_X1_isNegative l ad i h_i x3) (cwV 1 hts (gV iX1_isNegative (zin__r9 (.methodLink RX2 40 yX1_isNegative) (List.mem_of_getElem? (i := 6) rfl))) rfl rfl rfl (by decide +kernel) ⟨Nat.le_of_ble_eq_true rfl, Nat.le_of_ble_eq_true rfl⟩) ⟨fun a U g mk q => ⟨q.1, kU_bl q.2⟩, (kU_rv hk h_i), fun U hU hW => ⟨rfl, kU_mv hk hU hW⟩⟩ rfl rfl hl.1 rfl (lv_room (Nat.le_of_ble_eq_true rfl)) dX2_acted_157 ⟨Nat.zero_le _, Nat.zero_le _⟩)) (fun r_157 hr_157 => ?_)
        subst hr_157
        refine lv_aload_n hx hb dX2_acted_160 rfl (lv_at hl 0 rfl) ?_
        refine lv_lload_n hx hb dX2_acted_161 rfl (lv_at hl 2 rfl) ?_
        refine vp_callSl (va_Run.run (va_runV (As := [.long x2]) (rest := [.int (f_X1_isNegative i x3), .ref (ad i)]) ⟨hx, hb, hml, hown, hts⟩ (c_X1_magnitude l ad i h_i x2) (cwV 1 hts (gV iX1_magnitude (zin__r7 (.methodLink RX2 25 yX1_magnitude) (List.mem_of_getElem? (i := 19) rfl))) rfl rfl rfl (by decide +kernel) ⟨Nat.le_of_ble_eq_true rfl, Nat.le_of_ble_eq_true rfl⟩) ⟨fun a U g mk q => ⟨q.1, kU_bl q.2⟩, (kU_rv hk h_i), fun U hU hW => ⟨rfl, kU_mv hk hU hW⟩⟩ rfl rfl hl.1 rfl (lv_room (Nat.le_of_ble_eq_true rfl)) dX2_acted_162 ⟨Nat.zero_le _, Nat.zero_le _⟩)) (fun r_162 hr_162 => ?_)
        subst hr_162
        refine vp_callSl (va_Run.run (va_runV (As := [.int (f_X1_isNegative i x3), .long (f_X1_magnitude i x2)]) (rest := []) ⟨hx, hb, hml, hown, hts⟩ (c_X1_signed l ad i h_i (f_X1_isNegative i x3) (f_X1_magnitude i x2)) (cwV 2 hts (gV iX1_signed (zin__r10 (.methodLink RX2 47 yX1_signed) (List.mem_of_getElem? (i := 11) rfl))) rfl rfl rfl (by decide +kernel) ⟨Nat.le_of_ble_eq_true rfl, Nat.le_of_ble_eq_true rfl⟩) ⟨fun a U g mk q => ⟨q.1, kU_bl q.2⟩, (kU_rv hk h_i), fun U hU hW => ⟨rfl, kU_mv hk hU hW⟩⟩ rfl rfl hl.1 rfl (lv_room (Nat.le_of_ble_eq_true rfl)) dX2_acted_165 ⟨Nat.zero_le _, Nat.zero_le _⟩)) (fun r_165 hr_165 => ?_)
        subst hr_165
        exact W.lret hx hb hr (fun t ht hW => ⟨_, rfl, hf.symm, ht⟩) (fun q hq => absurd hq List.not_mem_nil) dX2_acted_168
      have hf : f_X2_acted i x1 x2 x3 = (f_X2_acted_6 i x1 x2 x3) := hf.trans (if_neg c_30_7)
      rcases Decidable.em (x1 = (8 : Int32)) with c_30_8 | c_30_8
      · have hf : f_X2_acted i x1 x2 x3 = (f_X2_plus i x2 x3) := hf.trans (if_pos c_30_8)
        refine lv_tableIn (tgt := 169) (off := 139) hx hb dX2_acted_30 (by rw [c_30_8]; decide) (by rw [c_30_8]; decide) (by rw [c_30_8]; rfl) (by decide) ?_
        refine lv_aload_n hx hb dX2_acted_169 rfl (lv_at hl 0 rfl) ?_
        refine lv_lload_n hx hb dX2_acted_170 rfl (lv_at hl 2 rfl) ?_
        refine lv_lload hx hb dX2_acted_171 (lv_at hl 3 rfl) ?_
        refine vp_callSl (va_Run.run (va_runS (As := [.ref (ad i), .long x2, .long x3]) (rest := []) ⟨hx, hb, hml, hown, hts⟩ (c_X2_plus l ad i h_i x2 x3) (va_cwS 3 hts (gS iX2_plus (zin__r10 (.methodLink RX2 51 yX2_plus) (List.mem_of_getElem? (i := 12) rfl))) rfl rfl rfl (by decide +kernel) ⟨Nat.le_of_ble_eq_true rfl, Nat.le_of_ble_eq_true rfl⟩) ⟨fun a U g mk q => ⟨q.1, kU_bl q.2⟩, fun U hU hW => ⟨rfl, kU_mv hk hU hW⟩⟩ rfl rfl hl.1 rfl (lv_room (Nat.le_of_ble_eq_true rfl)) dX2_acted_173 ⟨Nat.zero_le _, Nat.zero_le _⟩)) (fun r_173 hr_173 => ?_)
        subst hr_173
        exact W.lret hx hb hr (fun t ht hW => ⟨_, rfl, hf.symm, ht⟩) (fun q hq => absurd hq List.not_mem_nil) dX2_acted_176
      have hf : f_X2_acted i x1 x2 x3 = (f_X2_acted_5 i x1 x2 x3) := hf.trans (if_neg c_30_8)
      rcases Decidable.em (x1 = (9 : Int32)) with c_30_9 | c_30_9
      · have hf : f_X2_acted i x1 x2 x3 = (f_X2_minus i x2 x3) := hf.trans (if_pos c_30_9)
        refine lv_tableIn (tgt := 177) (off := 147) hx hb dX2_acted_30 (by rw [c_30_9]; decide) (by rw [c_30_9]; decide) (by rw [c_30_9]; rfl) (by decide) ?_
        refine lv_aload_n hx hb dX2_acted_177 rfl (lv_at hl 0 rfl) ?_
        refine lv_lload_n hx hb dX2_acted_178 rfl (lv_at hl 2 rfl) ?_
        refine lv_lload hx hb dX2_acted_179 (lv_at hl 3 rfl) ?_
        refine vp_callSl (va_Run.run (va_runS (As := [.ref (ad i), .long x2, .long x3]) (rest := []) ⟨hx, hb, hml, hown, hts⟩ (c_X2_minus l ad i h_i x2 x3) (va_cwS 3 hts (gS iX2_minus (zin__r10 (.methodLink RX2 55 yX2_minus) (List.mem_of_getElem? (i := 21) rfl))) rfl rfl rfl (by decide +kernel) ⟨Nat.le_of_ble_eq_true rfl, Nat.le_of_ble_eq_true rfl⟩) ⟨fun a U g mk q => ⟨q.1, kU_bl q.2⟩, fun U hU hW => ⟨rfl, kU_mv hk hU hW⟩⟩ rfl rfl hl.1 rfl (lv_room (Nat.le_of_ble_eq_true rfl)) dX2_acted_181 ⟨Nat.zero_le _, Nat.zero_le _⟩)) (fun r_181 hr_181 => ?_)
        subst hr_181
        exact W.lret hx hb hr (fun t ht hW => ⟨_, rfl, hf.symm, ht⟩) (fun q hq => absurd hq List.not_mem_nil) dX2_acted_184
      have hf : f_X2_acted i x1 x2 x3 = (f_X2_acted_4 i x1 x2 x3) := hf.trans (if_neg c_30_9)
      rcases Decidable.em (x1 = (10 : Int32)) with c_30_10 | c_30_10
      · have hf : f_X2_acted i x1 x2 x3 = (f_X2_times i x2 x3) := hf.trans (if_pos c_30_10)
        refine lv_tableIn (tgt := 185) (off := 155) hx hb dX2_acted_30 (by rw [c_30_10]; decide) (by rw [c_30_10]; decide) (by rw [c_30_10]; rfl) (by decide) ?_
        refine lv_aload_n hx hb dX2_acted_185 rfl (lv_at hl 0 rfl) ?_
        refine lv_lload_n hx hb dX2_acted_186 rfl (lv_at hl 2 rfl) ?_
        refine lv_lload hx hb dX2_acted_187 (lv_at hl 3 rfl) ?_
        refine vp_callSl (va_Run.run (va_runS (As := [.ref (ad i), .long x2, .long x3]) (rest := []) ⟨hx, hb, hml, hown, hts⟩ (c_X2_times l ad i h_i x2 x3) (va_cwS 3 hts (gS iX2_times (zin__r11 (.methodLink RX2 58 yX2_times) (List.mem_of_getElem? (i := 4) rfl))) rfl rfl rfl (by decide +kernel) ⟨Nat.le_of_ble_eq_true rfl, Nat.le_of_ble_eq_true rfl⟩) ⟨fun a U g mk q => ⟨q.1, kU_bl q.2⟩, fun U hU hW => ⟨rfl, kU_mv hk hU hW⟩⟩ rfl rfl hl.1 rfl (lv_room (Nat.le_of_ble_eq_true rfl)) dX2_acted_189 ⟨Nat.zero_le _, Nat.zero_le _⟩)) (fun r_189 hr_189 => ?_)
        subst hr_189
        exact W.lret hx hb hr (fun t ht hW => ⟨_, rfl, hf.symm, ht⟩) (fun q hq => absurd hq List.not_mem_nil) dX2_acted_192
      have hf : f_X2_acted i x1 x2 x3 = (f_X2_acted_3 i x1 x2 x3) := hf.trans (if_neg c_30_10)
      rcases Decidable.em (x1 = (11 : Int32)) with c_30_11 | c_30_11
      · have hf : f_X2_acted i x1 x2 x3 = (f_X2_over i x2 x3) := hf.trans (if_pos c_30_11)
        refine lv_tableIn (tgt := 193) (off := 163) hx hb dX2_acted_30 (by rw [c_30_11]; decide) (by rw [c_30_11]; decide) (by rw [c_30_11]; rfl) (by decide) ?_
        refine lv_aload_n hx hb dX2_acted_193 rfl (lv_at hl 0 rfl) ?_
        refine lv_lload_n hx hb dX2_acted_194 rfl (lv_at hl 2 rfl) ?_
        refine lv_lload hx hb dX2_acted_195 (lv_at hl 3 rfl) ?_
        refine vp_callSl (va_Run.run (va_runS (As := [.ref (ad i), .long x2, .long x3]) (rest := []) ⟨hx, hb, hml, hown, hts⟩ (c_X2_over l ad i h_i x2 x3) (va_cwS 3 hts (gS iX2_over (zin__r11 (.methodLink RX2 61 yX2_over) (List.mem_of_getElem? (i := 14) rfl))) rfl rfl rfl (by decide +kernel) ⟨Nat.le_of_ble_eq_true rfl, Nat.le_of_ble_eq_true rfl⟩) ⟨fun a U g mk q => ⟨q.1, kU_bl q.2⟩, fun U hU hW => ⟨rfl, kU_mv hk hU hW⟩⟩ rfl rfl hl.1 rfl (lv_room (Nat.le_of_ble_eq_true rfl)) dX2_acted_197 ⟨Nat.zero_le _, Nat.zero_le _⟩)) (fun r_197 hr_197 => ?_)
        subst hr_197
        exact W.lret hx hb hr (fun t ht hW => ⟨_, rfl, hf.symm, ht⟩) (fun q hq => absurd hq List.not_mem_nil) dX2_acted_200
      have hf : f_X2_acted i x1 x2 x3 = (f_X2_acted_2 i x1 x2 x3) := hf.trans (if_neg c_30_11)
      rcases Decidable.em (x1 = (12 : Int32)) with c_30_12 | c_30_12
      · have hf : f_X2_acted i x1 x2 x3 = (f_X2_remainder i x2 x3) := hf.trans (if_pos c_30_12)
        refine lv_tableIn (tgt := 201) (off := 171) hx hb dX2_acted_30 (by rw [c_30_12]; decide) (by rw [c_30_12]; decide) (by rw [c_30_12]; rfl) (by decide) ?_
        refine lv_aload_n hx hb dX2_acted_201 rfl (lv_at hl 0 rfl) ?_
        refine lv_lload_n hx hb dX2_acted_202 rfl (lv_at hl 2 rfl) ?_
        refine lv_lload hx hb dX2_acted_203 (lv_at hl 3 rfl) ?_
        refine vp_callSl (va_Run.run (va_runS (As := [.ref (ad i), .long x2, .long x3]) (rest := []) ⟨hx, hb, hml, hown, hts⟩ (c_X2_remainder l ad i h_i x2 x3) (va_cwS 3 hts (gS iX2_remainder (zin__r11 (.methodLink RX2 64 yX2_remainder) (List.mem_of_getElem? (i := 20) rfl))) rfl rfl rfl (by decide +kernel) ⟨Nat.le_of_ble_eq_true rfl, Nat.le_of_ble_eq_true rfl⟩) ⟨fun a U g mk q => ⟨q.1, kU_bl q.2⟩, fun U hU hW => ⟨rfl, kU_mv hk hU hW⟩⟩ rfl rfl hl.1 rfl (lv_room (Nat.le_of_ble_eq_true rfl)) dX2_acted_205 ⟨Nat.zero_le _, Nat.zero_le _⟩)) (fun r_205 hr_205 => ?_)
        subst hr_205
        exact W.lret hx hb hr (fun t ht hW => ⟨_, rfl, hf.symm, ht⟩) (fun q hq => absurd hq List.not_mem_nil) dX2_acted_208
      have hf : f_X2_acted i x1 x2 x3 = (f_X1_opposite i x2) := hf.trans (if_neg c_30_12)
      refine lv_tableOut (tgt := 209) hx hb dX2_acted_30 (Classical.byContradiction fun hh => by
          have := lv_neT (a := 0) c_30_0 (by decide)
          have := lv_neT (a := 1) c_30_1 (by decide)
          have := lv_neT (a := 2) c_30_2 (by decide)
          have := lv_neT (a := 3) c_30_3 (by decide)
          have := lv_neT (a := 4) c_30_4 (by decide)
          have := lv_neT (a := 5) c_30_5 (by decide)
          have := lv_neT (a := 6) c_30_6 (by decide)
          have := lv_neT (a := 7) c_30_7 (by decide)
          have := lv_neT (a := 8) c_30_8 (by decide)
          have := lv_neT (a := 9) c_30_9 (by decide)
          have := lv_neT (a := 10) c_30_10 (by decide)
          have := lv_neT (a := 11) c_30_11 (by decide)
          have := lv_neT (a := 12) c_30_12 (by decide)
          omega) (by decide) ?_
      refine lv_aload_n hx hb dX2_acted_209 rfl (lv_at hl 0 rfl) ?_
      refine lv_lload_n hx hb dX2_acted_210 rfl (lv_at hl 2 rfl) ?_
      refine vp_callSl (va_Run.run (va_runV (As := [.long x2]) (rest := []) ⟨hx, hb, hml, hown, hts⟩ (c_X1_opposite l ad i h_i x2) (cwV 1 hts (gV iX1_opposite (zin__r11 (.methodLink RX2 67 yX1_opposite) (List.mem_of_getElem? (i := 0) rfl))) rfl rfl rfl (by decide +kernel) ⟨Nat.le_of_ble_eq_true rfl, Nat.le_of_ble_eq_true rfl⟩) ⟨fun a U g mk q => ⟨q.1, kU_bl q.2⟩, (kU_rv hk h_i), fun U hU hW => ⟨rfl, kU_mv hk hU hW⟩⟩ rfl rfl hl.1 rfl (lv_room (Nat.le_of_ble_eq_true rfl)) dX2_acted_211 ⟨Nat.zero_le _, Nat.zero_le _⟩)) (fun r_211 hr_211 => ?_)
      subst hr_211
      exact W.lret hx hb hr (fun t ht hW => ⟨_, rfl, hf.symm, ht⟩) (fun q hq => absurd hq List.not_mem_nil) dX2_acted_214
    refine lv_if_eq (tgt := 29) hx hb dX2_acted_12 (by decide) (fun c_12 => ?_) (fun c_12 => ?_)
    · have hf : f_X2_acted i x1 x2 x3 = (f_X2_acted_14 i x1 x2 x3) := hf.trans (if_pos c_12)
      exact K_29 () ls hf (lv_sub hl [0, 1, 2, 3] rfl)
    · have hf : f_X2_acted i x1 x2 x3 = (f_X2_acted_15 i x1 x2 x3) := hf.trans (if_neg c_12)
      refine lv_aload_n hx hb dX2_acted_15 rfl (lv_at hl 0 rfl) ?_
      refine lv_lload hx hb dX2_acted_16 (lv_at hl 3 rfl) ?_
      refine vp_callSi (va_Run.run (va_runV (As := [.long x3]) (rest := []) ⟨hx, hb, hml, hown, hts⟩ (c_X1_isNan l ad i h_i x3) (cwV 1 hts (gV iX1_isNan (zin__r7 (.methodLink RX2 11 yX1_isNan) (List.mem_of_getElem? (i := 15) rfl))) rfl rfl rfl (by decide +kernel) ⟨Nat.le_of_ble_eq_true rfl, Nat.le_of_ble_eq_true rfl⟩) ⟨fun a U g mk q => ⟨q.1, kU_bl q.2⟩, (kU_rv hk h_i), fun U hU hW => ⟨rfl, kU_mv hk hU hW⟩⟩ rfl rfl hl.1 rfl (lv_room (Nat.le_of_ble_eq_true rfl)) dX2_acted_18 ⟨Nat.zero_le _, Nat.zero_le _⟩)) (fun r_18 hr_18 => ?_)
      subst hr_18
      refine lv_if_eq (tgt := 29) hx hb dX2_acted_21 (by decide) (fun c_21 => ?_) (fun c_21 => ?_)
      · have hf : f_X2_acted i x1 x2 x3 = (f_X2_acted_14 i x1 x2 x3) := hf.trans (if_pos c_21)
        exact K_29 () ls hf (lv_sub hl [0, 1, 2, 3] rfl)
      · have hf : f_X2_acted i x1 x2 x3 = (knan i) := hf.trans (if_neg c_21)
        refine lv_aload_n hx hb dX2_acted_24 rfl (lv_at hl 0 rfl) ?_
        refine vk_getf hx hb (kE_nan hk h_i) va_S.rf hown (hts _ (zin__r7 (.fieldLink RX2 21 "ReckonBench$Kind" "nan" "J") (List.mem_of_getElem? (i := 14) rfl))) (fun _ h9 => h9) dX2_acted_25 ?_
        exact W.lret hx hb hr (fun t ht hW => ⟨_, rfl, hf.symm, ht⟩) (fun q hq => absurd hq List.not_mem_nil) dX2_acted_28

